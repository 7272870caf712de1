theorem dX3_fail_0 : decode cX3_fail 0 = .ok (.aload_n 0, 1) := by decide +kernel
theorem dX3_fail_1 : decode cX3_fail 1 = .ok (.getfield 30, 3) := by decide +kernel
theorem dX3_fail_4 : decode cX3_fail 4 = .ok (.iconst (-1), 1) := by decide +kernel
theorem dX3_fail_5 : decode cX3_fail 5 = .ok (.if_icmp .ne 11, 3) := by decide +kernel
theorem dX3_fail_8 : decode cX3_fail 8 = .ok (.aload_n 0, 1) := by decide +kernel
theorem dX3_fail_9 : decode cX3_fail 9 = .ok (.aload_n 0, 1) := by decide +kernel
theorem dX3_fail_10 : decode cX3_fail 10 = .ok (.getfield 121, 3) := by decide +kernel
theorem dX3_fail_13 : decode cX3_fail 13 = .ok (.putfield 30, 3) := by decide +kernel
theorem dX3_fail_16 : decode cX3_fail 16 = .ok (.return_, 1) := by decide +kernel
theorem dX3_isWord_0 : decode cX3_isWord 0 = .ok (.aload_n 0, 1) := by decide +kernel
theorem dX3_isWord_1 : decode cX3_isWord 1 = .ok (.getfield 42, 3) := by decide +kernel
theorem dX3_isWord_4 : decode cX3_isWord 4 = .ok (.iconst 1, 1) := by decide +kernel
theorem dX3_isWord_5 : decode cX3_isWord 5 = .ok (.if_icmp .ne 19, 3) := by decide +kernel
theorem dX3_isWord_8 : decode cX3_isWord 8 = .ok (.aload_n 0, 1) := by decide +kernel
theorem dX3_isWord_9 : decode cX3_isWord 9 = .ok (.getfield 33, 3) := by decide +kernel
theorem dX3_isWord_12 : decode cX3_isWord 12 = .ok (.aload_n 0, 1) := by decide +kernel
theorem dX3_isWord_13 : decode cX3_isWord 13 = .ok (.getfield 121, 3) := by decide +kernel
theorem dX3_isWord_16 : decode cX3_isWord 16 = .ok (.isub, 1) := by decide +kernel
theorem dX3_isWord_17 : decode cX3_isWord 17 = .ok (.aload_n 1, 1) := by decide +kernel
theorem dX3_isWord_18 : decode cX3_isWord 18 = .ok (.invokevirtual 124, 3) := by decide +kernel
theorem dX3_isWord_21 : decode cX3_isWord 21 = .ok (.if_icmp .eq 5, 3) := by decide +kernel
theorem dX3_isWord_24 : decode cX3_isWord 24 = .ok (.iconst 0, 1) := by decide +kernel
theorem dX3_isWord_25 : decode cX3_isWord 25 = .ok (.ireturn, 1) := by decide +kernel
theorem dX3_isWord_26 : decode cX3_isWord 26 = .ok (.iconst 0, 1) := by decide +kernel
theorem dX3_isWord_27 : decode cX3_isWord 27 = .ok (.istore_n 2, 1) := by decide +kernel
theorem dX3_isWord_28 : decode cX3_isWord 28 = .ok (.iload_n 2, 1) := by decide +kernel
theorem dX3_isWord_29 : decode cX3_isWord 29 = .ok (.aload_n 1, 1) := by decide +kernel
theorem dX3_isWord_30 : decode cX3_isWord 30 = .ok (.invokevirtual 124, 3) := by decide +kernel
theorem dX3_isWord_33 : decode cX3_isWord 33 = .ok (.if_icmp .ge 30, 3) := by decide +kernel
theorem dX3_isWord_36 : decode cX3_isWord 36 = .ok (.aload_n 0, 1) := by decide +kernel
theorem dX3_isWord_37 : decode cX3_isWord 37 = .ok (.getfield 11, 3) := by decide +kernel
theorem dX3_isWord_40 : decode cX3_isWord 40 = .ok (.aload_n 0, 1) := by decide +kernel
theorem dX3_isWord_41 : decode cX3_isWord 41 = .ok (.getfield 121, 3) := by decide +kernel
theorem dX3_isWord_44 : decode cX3_isWord 44 = .ok (.iload_n 2, 1) := by decide +kernel
theorem dX3_isWord_45 : decode cX3_isWord 45 = .ok (.iadd, 1) := by decide +kernel
theorem dX3_isWord_46 : decode cX3_isWord 46 = .ok (.baload, 1) := by decide +kernel
theorem dX3_isWord_47 : decode cX3_isWord 47 = .ok (.aload_n 1, 1) := by decide +kernel
theorem dX3_isWord_48 : decode cX3_isWord 48 = .ok (.iload_n 2, 1) := by decide +kernel
theorem dX3_isWord_49 : decode cX3_isWord 49 = .ok (.invokevirtual 129, 3) := by decide +kernel
theorem dX3_isWord_52 : decode cX3_isWord 52 = .ok (.if_icmp .eq 5, 3) := by decide +kernel
theorem dX3_isWord_55 : decode cX3_isWord 55 = .ok (.iconst 0, 1) := by decide +kernel
theorem dX3_isWord_56 : decode cX3_isWord 56 = .ok (.ireturn, 1) := by decide +kernel
theorem dX3_isWord_57 : decode cX3_isWord 57 = .ok (.iinc 2 1, 3) := by decide +kernel
theorem dX3_isWord_60 : decode cX3_isWord 60 = .ok (.goto (-32), 3) := by decide +kernel
theorem dX3_isWord_63 : decode cX3_isWord 63 = .ok (.iconst 1, 1) := by decide +kernel
theorem dX3_isWord_64 : decode cX3_isWord 64 = .ok (.ireturn, 1) := by decide +kernel
theorem dX3_numberThere_0 : decode cX3_numberThere 0 = .ok (.aload_n 0, 1) := by decide +kernel
theorem dX3_numberThere_1 : decode cX3_numberThere 1 = .ok (.getfield 42, 3) := by decide +kernel
theorem dX3_numberThere_4 : decode cX3_numberThere 4 = .ok (.iconst 2, 1) := by decide +kernel
theorem dX3_numberThere_5 : decode cX3_numberThere 5 = .ok (.if_icmp .ne 16, 3) := by decide +kernel
theorem dX3_numberThere_8 : decode cX3_numberThere 8 = .ok (.aload_n 0, 1) := by decide +kernel
theorem dX3_numberThere_9 : decode cX3_numberThere 9 = .ok (.getfield 33, 3) := by decide +kernel
theorem dX3_numberThere_12 : decode cX3_numberThere 12 = .ok (.aload_n 0, 1) := by decide +kernel
theorem dX3_numberThere_13 : decode cX3_numberThere 13 = .ok (.getfield 121, 3) := by decide +kernel
theorem dX3_numberThere_16 : decode cX3_numberThere 16 = .ok (.isub, 1) := by decide +kernel
theorem dX3_numberThere_17 : decode cX3_numberThere 17 = .ok (.iconst 3, 1) := by decide +kernel
theorem dX3_numberThere_18 : decode cX3_numberThere 18 = .ok (.if_icmp .le 5, 3) := by decide +kernel
theorem dX3_numberThere_21 : decode cX3_numberThere 21 = .ok (.iconst (-1), 1) := by decide +kernel
theorem dX3_numberThere_22 : decode cX3_numberThere 22 = .ok (.ireturn, 1) := by decide +kernel
theorem dX3_numberThere_23 : decode cX3_numberThere 23 = .ok (.iconst 0, 1) := by decide +kernel
theorem dX3_numberThere_24 : decode cX3_numberThere 24 = .ok (.istore_n 1, 1) := by decide +kernel
theorem dX3_numberThere_25 : decode cX3_numberThere 25 = .ok (.aload_n 0, 1) := by decide +kernel
theorem dX3_numberThere_26 : decode cX3_numberThere 26 = .ok (.getfield 121, 3) := by decide +kernel
theorem dX3_numberThere_29 : decode cX3_numberThere 29 = .ok (.istore_n 2, 1) := by decide +kernel
theorem dX3_numberThere_30 : decode cX3_numberThere 30 = .ok (.iload_n 2, 1) := by decide +kernel
theorem dX3_numberThere_31 : decode cX3_numberThere 31 = .ok (.aload_n 0, 1) := by decide +kernel
theorem dX3_numberThere_32 : decode cX3_numberThere 32 = .ok (.getfield 33, 3) := by decide +kernel
theorem dX3_numberThere_35 : decode cX3_numberThere 35 = .ok (.if_icmp .ge 24, 3) := by decide +kernel
theorem dX3_numberThere_38 : decode cX3_numberThere 38 = .ok (.bipush 10, 2) := by decide +kernel
theorem dX3_numberThere_40 : decode cX3_numberThere 40 = .ok (.iload_n 1, 1) := by decide +kernel
theorem dX3_numberThere_41 : decode cX3_numberThere 41 = .ok (.imul, 1) := by decide +kernel
theorem dX3_numberThere_42 : decode cX3_numberThere 42 = .ok (.aload_n 0, 1) := by decide +kernel
theorem dX3_numberThere_43 : decode cX3_numberThere 43 = .ok (.getfield 11, 3) := by decide +kernel
theorem dX3_numberThere_46 : decode cX3_numberThere 46 = .ok (.iload_n 2, 1) := by decide +kernel
theorem dX3_numberThere_47 : decode cX3_numberThere 47 = .ok (.baload, 1) := by decide +kernel
theorem dX3_numberThere_48 : decode cX3_numberThere 48 = .ok (.iadd, 1) := by decide +kernel
theorem dX3_numberThere_49 : decode cX3_numberThere 49 = .ok (.bipush 48, 2) := by decide +kernel
theorem dX3_numberThere_51 : decode cX3_numberThere 51 = .ok (.isub, 1) := by decide +kernel
theorem dX3_numberThere_52 : decode cX3_numberThere 52 = .ok (.istore_n 1, 1) := by decide +kernel
theorem dX3_numberThere_53 : decode cX3_numberThere 53 = .ok (.iinc 2 1, 3) := by decide +kernel
theorem dX3_numberThere_56 : decode cX3_numberThere 56 = .ok (.goto (-26), 3) := by decide +kernel
theorem dX3_numberThere_59 : decode cX3_numberThere 59 = .ok (.iload_n 1, 1) := by decide +kernel
theorem dX3_numberThere_60 : decode cX3_numberThere 60 = .ok (.ireturn, 1) := by decide +kernel
theorem dX3_passes_0 : decode cX3_passes 0 = .ok (.aload_n 0, 1) := by decide +kernel
theorem dX3_passes_1 : decode cX3_passes 1 = .ok (.getfield 30, 3) := by decide +kernel
theorem dX3_passes_4 : decode cX3_passes 4 = .ok (.iconst (-1), 1) := by decide +kernel
theorem dX3_passes_5 : decode cX3_passes 5 = .ok (.if_icmp .ne 11, 3) := by decide +kernel
theorem dX3_passes_8 : decode cX3_passes 8 = .ok (.aload_n 0, 1) := by decide +kernel
theorem dX3_passes_9 : decode cX3_passes 9 = .ok (.aload_n 1, 1) := by decide +kernel
theorem dX3_passes_10 : decode cX3_passes 10 = .ok (.invokevirtual 50, 3) := by decide +kernel
theorem dX3_passes_13 : decode cX3_passes 13 = .ok (.ifCond .ne 5, 3) := by decide +kernel
theorem dX3_passes_16 : decode cX3_passes 16 = .ok (.iconst 0, 1) := by decide +kernel
theorem dX3_passes_17 : decode cX3_passes 17 = .ok (.ireturn, 1) := by decide +kernel
theorem dX3_passes_18 : decode cX3_passes 18 = .ok (.aload_n 0, 1) := by decide +kernel
theorem dX3_passes_19 : decode cX3_passes 19 = .ok (.invokevirtual 36, 3) := by decide +kernel
theorem dX3_passes_22 : decode cX3_passes 22 = .ok (.iconst 1, 1) := by decide +kernel
theorem dX3_passes_23 : decode cX3_passes 23 = .ok (.ireturn, 1) := by decide +kernel
theorem dX3_readBook_0 : decode cX3_readBook 0 = .ok (.aload_n 0, 1) := by decide +kernel
theorem dX3_readBook_1 : decode cX3_readBook 1 = .ok (.getfield 18, 3) := by decide +kernel
theorem dX3_readBook_4 : decode cX3_readBook 4 = .ok (.getfield 77, 3) := by decide +kernel
theorem dX3_readBook_7 : decode cX3_readBook 7 = .ok (.bipush 8, 2) := by decide +kernel
theorem dX3_readBook_9 : decode cX3_readBook 9 = .ok (.if_icmp .lt 8, 3) := by decide +kernel
theorem dX3_readBook_12 : decode cX3_readBook 12 = .ok (.aload_n 0, 1) := by decide +kernel
theorem dX3_readBook_13 : decode cX3_readBook 13 = .ok (.invokevirtual 45, 3) := by decide +kernel
theorem dX3_readBook_16 : decode cX3_readBook 16 = .ok (.return_, 1) := by decide +kernel
theorem dX3_readBook_17 : decode cX3_readBook 17 = .ok (.aload_n 0, 1) := by decide +kernel
theorem dX3_readBook_18 : decode cX3_readBook 18 = .ok (.invokevirtual 36, 3) := by decide +kernel
theorem dX3_readBook_21 : decode cX3_readBook 21 = .ok (.aload_n 0, 1) := by decide +kernel
theorem dX3_readBook_22 : decode cX3_readBook 22 = .ok (.iconst 1, 1) := by decide +kernel
theorem dX3_readBook_23 : decode cX3_readBook 23 = .ok (.bipush 99, 2) := by decide +kernel
theorem dX3_readBook_25 : decode cX3_readBook 25 = .ok (.invokevirtual 80, 3) := by decide +kernel
theorem dX3_readBook_28 : decode cX3_readBook 28 = .ok (.istore_n 1, 1) := by decide +kernel
theorem dX3_readBook_29 : decode cX3_readBook 29 = .ok (.aload_n 0, 1) := by decide +kernel
theorem dX3_readBook_30 : decode cX3_readBook 30 = .ok (.ldc 84, 2) := by decide +kernel
theorem dX3_readBook_32 : decode cX3_readBook 32 = .ok (.invokevirtual 86, 3) := by decide +kernel
theorem dX3_readBook_35 : decode cX3_readBook 35 = .ok (.ifCond .eq 14, 3) := by decide +kernel
theorem dX3_readBook_38 : decode cX3_readBook 38 = .ok (.aload_n 0, 1) := by decide +kernel
theorem dX3_readBook_39 : decode cX3_readBook 39 = .ok (.iconst 0, 1) := by decide +kernel
theorem dX3_readBook_40 : decode cX3_readBook 40 = .ok (.sipush 1000, 3) := by decide +kernel
theorem dX3_readBook_43 : decode cX3_readBook 43 = .ok (.invokevirtual 80, 3) := by decide +kernel
theorem dX3_readBook_46 : decode cX3_readBook 46 = .ok (.goto 6, 3) := by decide +kernel
theorem dX3_readBook_49 : decode cX3_readBook 49 = .ok (.sipush 1000, 3) := by decide +kernel
theorem dX3_readBook_52 : decode cX3_readBook 52 = .ok (.istore_n 2, 1) := by decide +kernel
theorem dX3_readBook_53 : decode cX3_readBook 53 = .ok (.aload_n 0, 1) := by decide +kernel
theorem dX3_readBook_54 : decode cX3_readBook 54 = .ok (.getfield 30, 3) := by decide +kernel
theorem dX3_readBook_57 : decode cX3_readBook 57 = .ok (.iconst (-1), 1) := by decide +kernel
theorem dX3_readBook_58 : decode cX3_readBook 58 = .ok (.if_icmp .ne 21, 3) := by decide +kernel
theorem dX3_readBook_61 : decode cX3_readBook 61 = .ok (.aload_n 0, 1) := by decide +kernel
theorem dX3_readBook_62 : decode cX3_readBook 62 = .ok (.getfield 18, 3) := by decide +kernel
theorem dX3_readBook_65 : decode cX3_readBook 65 = .ok (.getfield 89, 3) := by decide +kernel
theorem dX3_readBook_68 : decode cX3_readBook 68 = .ok (.aload_n 0, 1) := by decide +kernel
theorem dX3_readBook_69 : decode cX3_readBook 69 = .ok (.getfield 18, 3) := by decide +kernel
theorem dX3_readBook_72 : decode cX3_readBook 72 = .ok (.iload_n 1, 1) := by decide +kernel
theorem dX3_readBook_73 : decode cX3_readBook 73 = .ok (.iconst 0, 1) := by decide +kernel
theorem dX3_readBook_74 : decode cX3_readBook 74 = .ok (.invokevirtual 92, 3) := by decide +kernel
theorem dX3_readBook_77 : decode cX3_readBook 77 = .ok (.iload_n 2, 1) := by decide +kernel
theorem dX3_readBook_78 : decode cX3_readBook 78 = .ok (.iastore, 1) := by decide +kernel
theorem dX3_readBook_79 : decode cX3_readBook 79 = .ok (.return_, 1) := by decide +kernel
theorem dX3_readFrom_0 : decode cX3_readFrom 0 = .ok (.aload_n 0, 1) := by decide +kernel
theorem dX3_readFrom_1 : decode cX3_readFrom 1 = .ok (.getfield 18, 3) := by decide +kernel
theorem dX3_readFrom_4 : decode cX3_readFrom 4 = .ok (.aload_n 1, 1) := by decide +kernel
theorem dX3_readFrom_5 : decode cX3_readFrom 5 = .ok (.invokevirtual 26, 3) := by decide +kernel
theorem dX3_readFrom_8 : decode cX3_readFrom 8 = .ok (.aload_n 0, 1) := by decide +kernel
theorem dX3_readFrom_9 : decode cX3_readFrom 9 = .ok (.iconst (-1), 1) := by decide +kernel
theorem dX3_readFrom_10 : decode cX3_readFrom 10 = .ok (.putfield 30, 3) := by decide +kernel
theorem dX3_readFrom_13 : decode cX3_readFrom 13 = .ok (.aload_n 0, 1) := by decide +kernel
theorem dX3_readFrom_14 : decode cX3_readFrom 14 = .ok (.iconst 0, 1) := by decide +kernel
theorem dX3_readFrom_15 : decode cX3_readFrom 15 = .ok (.putfield 33, 3) := by decide +kernel
theorem dX3_readFrom_18 : decode cX3_readFrom 18 = .ok (.aload_n 0, 1) := by decide +kernel
theorem dX3_readFrom_19 : decode cX3_readFrom 19 = .ok (.invokevirtual 36, 3) := by decide +kernel
theorem dX3_readFrom_22 : decode cX3_readFrom 22 = .ok (.iconst 1, 1) := by decide +kernel
theorem dX3_readFrom_23 : decode cX3_readFrom 23 = .ok (.istore_n 2, 1) := by decide +kernel
theorem dX3_readFrom_24 : decode cX3_readFrom 24 = .ok (.iload_n 2, 1) := by decide +kernel
theorem dX3_readFrom_25 : decode cX3_readFrom 25 = .ok (.sipush 250, 3) := by decide +kernel
theorem dX3_readFrom_28 : decode cX3_readFrom 28 = .ok (.if_icmp .gt 48, 3) := by decide +kernel
theorem dX3_readFrom_31 : decode cX3_readFrom 31 = .ok (.aload_n 0, 1) := by decide +kernel
theorem dX3_readFrom_32 : decode cX3_readFrom 32 = .ok (.invokevirtual 39, 3) := by decide +kernel
theorem dX3_readFrom_35 : decode cX3_readFrom 35 = .ok (.aload_n 0, 1) := by decide +kernel
theorem dX3_readFrom_36 : decode cX3_readFrom 36 = .ok (.getfield 30, 3) := by decide +kernel
theorem dX3_readFrom_39 : decode cX3_readFrom 39 = .ok (.iconst (-1), 1) := by decide +kernel
theorem dX3_readFrom_40 : decode cX3_readFrom 40 = .ok (.if_icmp .ne 10, 3) := by decide +kernel
theorem dX3_readFrom_43 : decode cX3_readFrom 43 = .ok (.aload_n 0, 1) := by decide +kernel
theorem dX3_readFrom_44 : decode cX3_readFrom 44 = .ok (.getfield 42, 3) := by decide +kernel
theorem dX3_readFrom_47 : decode cX3_readFrom 47 = .ok (.ifCond .ne 5, 3) := by decide +kernel
theorem dX3_readFrom_50 : decode cX3_readFrom 50 = .ok (.iload_n 2, 1) := by decide +kernel
theorem dX3_readFrom_51 : decode cX3_readFrom 51 = .ok (.ireturn, 1) := by decide +kernel
theorem dX3_readFrom_52 : decode cX3_readFrom 52 = .ok (.aload_n 0, 1) := by decide +kernel
theorem dX3_readFrom_53 : decode cX3_readFrom 53 = .ok (.getfield 42, 3) := by decide +kernel
theorem dX3_readFrom_56 : decode cX3_readFrom 56 = .ok (.iconst 3, 1) := by decide +kernel
theorem dX3_readFrom_57 : decode cX3_readFrom 57 = .ok (.if_icmp .eq 9, 3) := by decide +kernel
theorem dX3_readFrom_60 : decode cX3_readFrom 60 = .ok (.aload_n 0, 1) := by decide +kernel
theorem dX3_readFrom_61 : decode cX3_readFrom 61 = .ok (.invokevirtual 45, 3) := by decide +kernel
theorem dX3_readFrom_64 : decode cX3_readFrom 64 = .ok (.iload_n 2, 1) := by decide +kernel
theorem dX3_readFrom_65 : decode cX3_readFrom 65 = .ok (.ireturn, 1) := by decide +kernel
theorem dX3_readFrom_66 : decode cX3_readFrom 66 = .ok (.aload_n 0, 1) := by decide +kernel
theorem dX3_readFrom_67 : decode cX3_readFrom 67 = .ok (.invokevirtual 36, 3) := by decide +kernel
theorem dX3_readFrom_70 : decode cX3_readFrom 70 = .ok (.iinc 2 1, 3) := by decide +kernel
theorem dX3_readFrom_73 : decode cX3_readFrom 73 = .ok (.goto (-49), 3) := by decide +kernel
theorem dX3_readFrom_76 : decode cX3_readFrom 76 = .ok (.sipush 250, 3) := by decide +kernel
theorem dX3_readFrom_79 : decode cX3_readFrom 79 = .ok (.ireturn, 1) := by decide +kernel
theorem dX3_readKnows_0 : decode cX3_readKnows 0 = .ok (.aload_n 0, 1) := by decide +kernel
theorem dX3_readKnows_1 : decode cX3_readKnows 1 = .ok (.invokevirtual 36, 3) := by decide +kernel
theorem dX3_readKnows_4 : decode cX3_readKnows 4 = .ok (.aload_n 0, 1) := by decide +kernel
theorem dX3_readKnows_5 : decode cX3_readKnows 5 = .ok (.iconst 0, 1) := by decide +kernel
theorem dX3_readKnows_6 : decode cX3_readKnows 6 = .ok (.aload_n 0, 1) := by decide +kernel
theorem dX3_readKnows_7 : decode cX3_readKnows 7 = .ok (.getfield 18, 3) := by decide +kernel
theorem dX3_readKnows_10 : decode cX3_readKnows 10 = .ok (.getfield 98, 3) := by decide +kernel
theorem dX3_readKnows_13 : decode cX3_readKnows 13 = .ok (.iconst 1, 1) := by decide +kernel
theorem dX3_readKnows_14 : decode cX3_readKnows 14 = .ok (.isub, 1) := by decide +kernel
theorem dX3_readKnows_15 : decode cX3_readKnows 15 = .ok (.invokevirtual 80, 3) := by decide +kernel
theorem dX3_readKnows_18 : decode cX3_readKnows 18 = .ok (.istore_n 1, 1) := by decide +kernel
theorem dX3_readKnows_19 : decode cX3_readKnows 19 = .ok (.aload_n 0, 1) := by decide +kernel
theorem dX3_readKnows_20 : decode cX3_readKnows 20 = .ok (.iconst 0, 1) := by decide +kernel
theorem dX3_readKnows_21 : decode cX3_readKnows 21 = .ok (.aload_n 0, 1) := by decide +kernel
theorem dX3_readKnows_22 : decode cX3_readKnows 22 = .ok (.getfield 18, 3) := by decide +kernel
theorem dX3_readKnows_25 : decode cX3_readKnows 25 = .ok (.getfield 77, 3) := by decide +kernel
theorem dX3_readKnows_28 : decode cX3_readKnows 28 = .ok (.iconst 1, 1) := by decide +kernel
theorem dX3_readKnows_29 : decode cX3_readKnows 29 = .ok (.isub, 1) := by decide +kernel
theorem dX3_readKnows_30 : decode cX3_readKnows 30 = .ok (.invokevirtual 80, 3) := by decide +kernel
theorem dX3_readKnows_33 : decode cX3_readKnows 33 = .ok (.istore_n 2, 1) := by decide +kernel
theorem dX3_readKnows_34 : decode cX3_readKnows 34 = .ok (.aload_n 0, 1) := by decide +kernel
theorem dX3_readKnows_35 : decode cX3_readKnows 35 = .ok (.iconst 0, 1) := by decide +kernel
theorem dX3_readKnows_36 : decode cX3_readKnows 36 = .ok (.sipush 1000, 3) := by decide +kernel
theorem dX3_readKnows_39 : decode cX3_readKnows 39 = .ok (.invokevirtual 80, 3) := by decide +kernel
theorem dX3_readKnows_42 : decode cX3_readKnows 42 = .ok (.istore_n 3, 1) := by decide +kernel
theorem dX3_readKnows_43 : decode cX3_readKnows 43 = .ok (.aload_n 0, 1) := by decide +kernel
theorem dX3_readKnows_44 : decode cX3_readKnows 44 = .ok (.getfield 30, 3) := by decide +kernel
theorem dX3_readKnows_47 : decode cX3_readKnows 47 = .ok (.iconst (-1), 1) := by decide +kernel
theorem dX3_readKnows_48 : decode cX3_readKnows 48 = .ok (.if_icmp .ne 13, 3) := by decide +kernel
theorem dX3_readKnows_51 : decode cX3_readKnows 51 = .ok (.aload_n 0, 1) := by decide +kernel
theorem dX3_readKnows_52 : decode cX3_readKnows 52 = .ok (.getfield 18, 3) := by decide +kernel
theorem dX3_readKnows_55 : decode cX3_readKnows 55 = .ok (.iload_n 1, 1) := by decide +kernel
theorem dX3_readKnows_56 : decode cX3_readKnows 56 = .ok (.iload_n 2, 1) := by decide +kernel
theorem dX3_readKnows_57 : decode cX3_readKnows 57 = .ok (.iload_n 3, 1) := by decide +kernel
theorem dX3_readKnows_58 : decode cX3_readKnows 58 = .ok (.invokevirtual 111, 3) := by decide +kernel
theorem dX3_readKnows_61 : decode cX3_readKnows 61 = .ok (.return_, 1) := by decide +kernel
theorem dX3_readNeed_0 : decode cX3_readNeed 0 = .ok (.aload_n 0, 1) := by decide +kernel
theorem dX3_readNeed_1 : decode cX3_readNeed 1 = .ok (.invokevirtual 36, 3) := by decide +kernel
theorem dX3_readNeed_4 : decode cX3_readNeed 4 = .ok (.aload_n 0, 1) := by decide +kernel
theorem dX3_readNeed_5 : decode cX3_readNeed 5 = .ok (.iconst 0, 1) := by decide +kernel
theorem dX3_readNeed_6 : decode cX3_readNeed 6 = .ok (.aload_n 0, 1) := by decide +kernel
theorem dX3_readNeed_7 : decode cX3_readNeed 7 = .ok (.getfield 18, 3) := by decide +kernel
theorem dX3_readNeed_10 : decode cX3_readNeed 10 = .ok (.getfield 77, 3) := by decide +kernel
theorem dX3_readNeed_13 : decode cX3_readNeed 13 = .ok (.iconst 1, 1) := by decide +kernel
theorem dX3_readNeed_14 : decode cX3_readNeed 14 = .ok (.isub, 1) := by decide +kernel
theorem dX3_readNeed_15 : decode cX3_readNeed 15 = .ok (.invokevirtual 80, 3) := by decide +kernel
theorem dX3_readNeed_18 : decode cX3_readNeed 18 = .ok (.istore_n 1, 1) := by decide +kernel
theorem dX3_readNeed_19 : decode cX3_readNeed 19 = .ok (.aload_n 0, 1) := by decide +kernel
theorem dX3_readNeed_20 : decode cX3_readNeed 20 = .ok (.iconst 0, 1) := by decide +kernel
theorem dX3_readNeed_21 : decode cX3_readNeed 21 = .ok (.iload_n 1, 1) := by decide +kernel
theorem dX3_readNeed_22 : decode cX3_readNeed 22 = .ok (.iconst 1, 1) := by decide +kernel
theorem dX3_readNeed_23 : decode cX3_readNeed 23 = .ok (.isub, 1) := by decide +kernel
theorem dX3_readNeed_24 : decode cX3_readNeed 24 = .ok (.invokevirtual 80, 3) := by decide +kernel
theorem dX3_readNeed_27 : decode cX3_readNeed 27 = .ok (.istore_n 2, 1) := by decide +kernel
theorem dX3_readNeed_28 : decode cX3_readNeed 28 = .ok (.aload_n 0, 1) := by decide +kernel
theorem dX3_readNeed_29 : decode cX3_readNeed 29 = .ok (.getfield 30, 3) := by decide +kernel
theorem dX3_readNeed_32 : decode cX3_readNeed 32 = .ok (.iconst (-1), 1) := by decide +kernel
theorem dX3_readNeed_33 : decode cX3_readNeed 33 = .ok (.if_icmp .ne 18, 3) := by decide +kernel
theorem dX3_readNeed_36 : decode cX3_readNeed 36 = .ok (.aload_n 0, 1) := by decide +kernel
theorem dX3_readNeed_37 : decode cX3_readNeed 37 = .ok (.getfield 18, 3) := by decide +kernel
theorem dX3_readNeed_40 : decode cX3_readNeed 40 = .ok (.getfield 95, 3) := by decide +kernel
theorem dX3_readNeed_43 : decode cX3_readNeed 43 = .ok (.iload_n 1, 1) := by decide +kernel
theorem dX3_readNeed_44 : decode cX3_readNeed 44 = .ok (.dup2, 1) := by decide +kernel
theorem dX3_readNeed_45 : decode cX3_readNeed 45 = .ok (.iaload, 1) := by decide +kernel
theorem dX3_readNeed_46 : decode cX3_readNeed 46 = .ok (.iconst 1, 1) := by decide +kernel
theorem dX3_readNeed_47 : decode cX3_readNeed 47 = .ok (.iload_n 2, 1) := by decide +kernel
theorem dX3_readNeed_48 : decode cX3_readNeed 48 = .ok (.ishl, 1) := by decide +kernel
theorem dX3_readNeed_49 : decode cX3_readNeed 49 = .ok (.ior, 1) := by decide +kernel
theorem dX3_readNeed_50 : decode cX3_readNeed 50 = .ok (.iastore, 1) := by decide +kernel
theorem dX3_readNeed_51 : decode cX3_readNeed 51 = .ok (.return_, 1) := by decide +kernel
theorem dX3_readOne_0 : decode cX3_readOne 0 = .ok (.aload_n 0, 1) := by decide +kernel
theorem dX3_readOne_1 : decode cX3_readOne 1 = .ok (.getfield 18, 3) := by decide +kernel
theorem dX3_readOne_4 : decode cX3_readOne 4 = .ok (.getfield 98, 3) := by decide +kernel
theorem dX3_readOne_7 : decode cX3_readOne 7 = .ok (.bipush 8, 2) := by decide +kernel
theorem dX3_readOne_9 : decode cX3_readOne 9 = .ok (.if_icmp .lt 8, 3) := by decide +kernel
theorem dX3_readOne_12 : decode cX3_readOne 12 = .ok (.aload_n 0, 1) := by decide +kernel
theorem dX3_readOne_13 : decode cX3_readOne 13 = .ok (.invokevirtual 45, 3) := by decide +kernel
theorem dX3_readOne_16 : decode cX3_readOne 16 = .ok (.return_, 1) := by decide +kernel
theorem dX3_readOne_17 : decode cX3_readOne 17 = .ok (.aload_n 0, 1) := by decide +kernel
theorem dX3_readOne_18 : decode cX3_readOne 18 = .ok (.invokevirtual 36, 3) := by decide +kernel
theorem dX3_readOne_21 : decode cX3_readOne 21 = .ok (.aload_n 0, 1) := by decide +kernel
theorem dX3_readOne_22 : decode cX3_readOne 22 = .ok (.iconst 0, 1) := by decide +kernel
theorem dX3_readOne_23 : decode cX3_readOne 23 = .ok (.bipush 9, 2) := by decide +kernel
theorem dX3_readOne_25 : decode cX3_readOne 25 = .ok (.invokevirtual 80, 3) := by decide +kernel
theorem dX3_readOne_28 : decode cX3_readOne 28 = .ok (.istore_n 1, 1) := by decide +kernel
theorem dX3_readOne_29 : decode cX3_readOne 29 = .ok (.aload_n 0, 1) := by decide +kernel
theorem dX3_readOne_30 : decode cX3_readOne 30 = .ok (.ldc 101, 2) := by decide +kernel
theorem dX3_readOne_32 : decode cX3_readOne 32 = .ok (.invokevirtual 86, 3) := by decide +kernel
theorem dX3_readOne_35 : decode cX3_readOne 35 = .ok (.ifCond .eq 13, 3) := by decide +kernel
theorem dX3_readOne_38 : decode cX3_readOne 38 = .ok (.aload_n 0, 1) := by decide +kernel
theorem dX3_readOne_39 : decode cX3_readOne 39 = .ok (.iconst 0, 1) := by decide +kernel
theorem dX3_readOne_40 : decode cX3_readOne 40 = .ok (.bipush 10, 2) := by decide +kernel
theorem dX3_readOne_42 : decode cX3_readOne 42 = .ok (.invokevirtual 80, 3) := by decide +kernel
theorem dX3_readOne_45 : decode cX3_readOne 45 = .ok (.goto 4, 3) := by decide +kernel
theorem dX3_readOne_48 : decode cX3_readOne 48 = .ok (.iconst 5, 1) := by decide +kernel
theorem dX3_readOne_49 : decode cX3_readOne 49 = .ok (.istore_n 2, 1) := by decide +kernel
theorem dX3_readOne_50 : decode cX3_readOne 50 = .ok (.aload_n 0, 1) := by decide +kernel
theorem dX3_readOne_51 : decode cX3_readOne 51 = .ok (.ldc 103, 2) := by decide +kernel
theorem dX3_readOne_53 : decode cX3_readOne 53 = .ok (.invokevirtual 86, 3) := by decide +kernel
theorem dX3_readOne_56 : decode cX3_readOne 56 = .ok (.ifCond .eq 13, 3) := by decide +kernel
theorem dX3_readOne_59 : decode cX3_readOne 59 = .ok (.aload_n 0, 1) := by decide +kernel
theorem dX3_readOne_60 : decode cX3_readOne 60 = .ok (.iconst 0, 1) := by decide +kernel
theorem dX3_readOne_61 : decode cX3_readOne 61 = .ok (.bipush 10, 2) := by decide +kernel
theorem dX3_readOne_63 : decode cX3_readOne 63 = .ok (.invokevirtual 80, 3) := by decide +kernel
theorem dX3_readOne_66 : decode cX3_readOne 66 = .ok (.goto 4, 3) := by decide +kernel
theorem dX3_readOne_69 : decode cX3_readOne 69 = .ok (.iconst 5, 1) := by decide +kernel
theorem dX3_readOne_70 : decode cX3_readOne 70 = .ok (.istore_n 3, 1) := by decide +kernel
theorem dX3_readOne_71 : decode cX3_readOne 71 = .ok (.aload_n 0, 1) := by decide +kernel
theorem dX3_readOne_72 : decode cX3_readOne 72 = .ok (.ldc 105, 2) := by decide +kernel
theorem dX3_readOne_74 : decode cX3_readOne 74 = .ok (.invokevirtual 86, 3) := by decide +kernel
theorem dX3_readOne_77 : decode cX3_readOne 77 = .ok (.ifCond .eq 13, 3) := by decide +kernel
theorem dX3_readOne_80 : decode cX3_readOne 80 = .ok (.aload_n 0, 1) := by decide +kernel
theorem dX3_readOne_81 : decode cX3_readOne 81 = .ok (.iconst 0, 1) := by decide +kernel
theorem dX3_readOne_82 : decode cX3_readOne 82 = .ok (.bipush 10, 2) := by decide +kernel
theorem dX3_readOne_84 : decode cX3_readOne 84 = .ok (.invokevirtual 80, 3) := by decide +kernel
theorem dX3_readOne_87 : decode cX3_readOne 87 = .ok (.goto 4, 3) := by decide +kernel
theorem dX3_readOne_90 : decode cX3_readOne 90 = .ok (.iconst 5, 1) := by decide +kernel
theorem dX3_readOne_91 : decode cX3_readOne 91 = .ok (.istore 4, 2) := by decide +kernel
theorem dX3_readOne_93 : decode cX3_readOne 93 = .ok (.aload_n 0, 1) := by decide +kernel
theorem dX3_readOne_94 : decode cX3_readOne 94 = .ok (.getfield 30, 3) := by decide +kernel
theorem dX3_readOne_97 : decode cX3_readOne 97 = .ok (.iconst (-1), 1) := by decide +kernel
theorem dX3_readOne_98 : decode cX3_readOne 98 = .ok (.if_icmp .ne 16, 3) := by decide +kernel
theorem dX3_readOne_101 : decode cX3_readOne 101 = .ok (.aload_n 0, 1) := by decide +kernel
theorem dX3_readOne_102 : decode cX3_readOne 102 = .ok (.getfield 18, 3) := by decide +kernel
theorem dX3_readOne_105 : decode cX3_readOne 105 = .ok (.iload_n 1, 1) := by decide +kernel
theorem dX3_readOne_106 : decode cX3_readOne 106 = .ok (.iload_n 2, 1) := by decide +kernel
theorem dX3_readOne_107 : decode cX3_readOne 107 = .ok (.iload_n 3, 1) := by decide +kernel
theorem dX3_readOne_108 : decode cX3_readOne 108 = .ok (.iload 4, 2) := by decide +kernel
theorem dX3_readOne_110 : decode cX3_readOne 110 = .ok (.invokevirtual 107, 3) := by decide +kernel
theorem dX3_readOne_113 : decode cX3_readOne 113 = .ok (.pop, 1) := by decide +kernel
theorem dX3_readOne_114 : decode cX3_readOne 114 = .ok (.return_, 1) := by decide +kernel
theorem dX3_readStatement_0 : decode cX3_readStatement 0 = .ok (.aload_n 0, 1) := by decide +kernel
theorem dX3_readStatement_1 : decode cX3_readStatement 1 = .ok (.ldc 48, 2) := by decide +kernel
theorem dX3_readStatement_3 : decode cX3_readStatement 3 = .ok (.invokevirtual 50, 3) := by decide +kernel
theorem dX3_readStatement_6 : decode cX3_readStatement 6 = .ok (.ifCond .eq 10, 3) := by decide +kernel
theorem dX3_readStatement_9 : decode cX3_readStatement 9 = .ok (.aload_n 0, 1) := by decide +kernel
theorem dX3_readStatement_10 : decode cX3_readStatement 10 = .ok (.invokevirtual 54, 3) := by decide +kernel
theorem dX3_readStatement_13 : decode cX3_readStatement 13 = .ok (.goto 71, 3) := by decide +kernel
theorem dX3_readStatement_16 : decode cX3_readStatement 16 = .ok (.aload_n 0, 1) := by decide +kernel
theorem dX3_readStatement_17 : decode cX3_readStatement 17 = .ok (.ldc 57, 2) := by decide +kernel
theorem dX3_readStatement_19 : decode cX3_readStatement 19 = .ok (.invokevirtual 50, 3) := by decide +kernel
theorem dX3_readStatement_22 : decode cX3_readStatement 22 = .ok (.ifCond .eq 10, 3) := by decide +kernel
theorem dX3_readStatement_25 : decode cX3_readStatement 25 = .ok (.aload_n 0, 1) := by decide +kernel
theorem dX3_readStatement_26 : decode cX3_readStatement 26 = .ok (.invokevirtual 59, 3) := by decide +kernel
theorem dX3_readStatement_29 : decode cX3_readStatement 29 = .ok (.goto 55, 3) := by decide +kernel
theorem dX3_readStatement_32 : decode cX3_readStatement 32 = .ok (.aload_n 0, 1) := by decide +kernel
theorem dX3_readStatement_33 : decode cX3_readStatement 33 = .ok (.ldc 62, 2) := by decide +kernel
theorem dX3_readStatement_35 : decode cX3_readStatement 35 = .ok (.invokevirtual 50, 3) := by decide +kernel
theorem dX3_readStatement_38 : decode cX3_readStatement 38 = .ok (.ifCond .eq 10, 3) := by decide +kernel
theorem dX3_readStatement_41 : decode cX3_readStatement 41 = .ok (.aload_n 0, 1) := by decide +kernel
theorem dX3_readStatement_42 : decode cX3_readStatement 42 = .ok (.invokevirtual 64, 3) := by decide +kernel
theorem dX3_readStatement_45 : decode cX3_readStatement 45 = .ok (.goto 39, 3) := by decide +kernel
theorem dX3_readStatement_48 : decode cX3_readStatement 48 = .ok (.aload_n 0, 1) := by decide +kernel
theorem dX3_readStatement_49 : decode cX3_readStatement 49 = .ok (.ldc 67, 2) := by decide +kernel
theorem dX3_readStatement_51 : decode cX3_readStatement 51 = .ok (.invokevirtual 50, 3) := by decide +kernel
theorem dX3_readStatement_54 : decode cX3_readStatement 54 = .ok (.ifCond .eq 10, 3) := by decide +kernel
theorem dX3_readStatement_57 : decode cX3_readStatement 57 = .ok (.aload_n 0, 1) := by decide +kernel
theorem dX3_readStatement_58 : decode cX3_readStatement 58 = .ok (.invokevirtual 69, 3) := by decide +kernel
theorem dX3_readStatement_61 : decode cX3_readStatement 61 = .ok (.goto 23, 3) := by decide +kernel
theorem dX3_readStatement_64 : decode cX3_readStatement 64 = .ok (.aload_n 0, 1) := by decide +kernel
theorem dX3_readStatement_65 : decode cX3_readStatement 65 = .ok (.ldc 72, 2) := by decide +kernel
theorem dX3_readStatement_67 : decode cX3_readStatement 67 = .ok (.invokevirtual 50, 3) := by decide +kernel
theorem dX3_readStatement_70 : decode cX3_readStatement 70 = .ok (.ifCond .eq 10, 3) := by decide +kernel
theorem dX3_readStatement_73 : decode cX3_readStatement 73 = .ok (.aload_n 0, 1) := by decide +kernel
theorem dX3_readStatement_74 : decode cX3_readStatement 74 = .ok (.invokevirtual 74, 3) := by decide +kernel
theorem dX3_readStatement_77 : decode cX3_readStatement 77 = .ok (.goto 7, 3) := by decide +kernel
theorem dX3_readStatement_80 : decode cX3_readStatement 80 = .ok (.aload_n 0, 1) := by decide +kernel
theorem dX3_readStatement_81 : decode cX3_readStatement 81 = .ok (.invokevirtual 45, 3) := by decide +kernel
theorem dX3_readStatement_84 : decode cX3_readStatement 84 = .ok (.return_, 1) := by decide +kernel
theorem dX3_readWhite_0 : decode cX3_readWhite 0 = .ok (.aload_n 0, 1) := by decide +kernel
theorem dX3_readWhite_1 : decode cX3_readWhite 1 = .ok (.invokevirtual 36, 3) := by decide +kernel
theorem dX3_readWhite_4 : decode cX3_readWhite 4 = .ok (.aload_n 0, 1) := by decide +kernel
theorem dX3_readWhite_5 : decode cX3_readWhite 5 = .ok (.iconst 0, 1) := by decide +kernel
theorem dX3_readWhite_6 : decode cX3_readWhite 6 = .ok (.aload_n 0, 1) := by decide +kernel
theorem dX3_readWhite_7 : decode cX3_readWhite 7 = .ok (.getfield 18, 3) := by decide +kernel
theorem dX3_readWhite_10 : decode cX3_readWhite 10 = .ok (.getfield 77, 3) := by decide +kernel
theorem dX3_readWhite_13 : decode cX3_readWhite 13 = .ok (.iconst 1, 1) := by decide +kernel
theorem dX3_readWhite_14 : decode cX3_readWhite 14 = .ok (.isub, 1) := by decide +kernel
theorem dX3_readWhite_15 : decode cX3_readWhite 15 = .ok (.invokevirtual 80, 3) := by decide +kernel
theorem dX3_readWhite_18 : decode cX3_readWhite 18 = .ok (.istore_n 1, 1) := by decide +kernel
theorem dX3_readWhite_19 : decode cX3_readWhite 19 = .ok (.aload_n 0, 1) := by decide +kernel
theorem dX3_readWhite_20 : decode cX3_readWhite 20 = .ok (.getfield 30, 3) := by decide +kernel
theorem dX3_readWhite_23 : decode cX3_readWhite 23 = .ok (.iconst (-1), 1) := by decide +kernel
theorem dX3_readWhite_24 : decode cX3_readWhite 24 = .ok (.if_icmp .ne 18, 3) := by decide +kernel
theorem dX3_readWhite_27 : decode cX3_readWhite 27 = .ok (.aload_n 0, 1) := by decide +kernel
theorem dX3_readWhite_28 : decode cX3_readWhite 28 = .ok (.getfield 18, 3) := by decide +kernel
theorem dX3_readWhite_31 : decode cX3_readWhite 31 = .ok (.dup, 1) := by decide +kernel
theorem dX3_readWhite_32 : decode cX3_readWhite 32 = .ok (.getfield 115, 3) := by decide +kernel
theorem dX3_readWhite_35 : decode cX3_readWhite 35 = .ok (.iconst 1, 1) := by decide +kernel
theorem dX3_readWhite_36 : decode cX3_readWhite 36 = .ok (.iload_n 1, 1) := by decide +kernel
theorem dX3_readWhite_37 : decode cX3_readWhite 37 = .ok (.ishl, 1) := by decide +kernel
theorem dX3_readWhite_38 : decode cX3_readWhite 38 = .ok (.ior, 1) := by decide +kernel
theorem dX3_readWhite_39 : decode cX3_readWhite 39 = .ok (.putfield 115, 3) := by decide +kernel
theorem dX3_readWhite_42 : decode cX3_readWhite 42 = .ok (.return_, 1) := by decide +kernel
theorem dX3_sortAt_0 : decode cX3_sortAt 0 = .ok (.iload_n 1, 1) := by decide +kernel
theorem dX3_sortAt_1 : decode cX3_sortAt 1 = .ok (.aload_n 0, 1) := by decide +kernel
theorem dX3_sortAt_2 : decode cX3_sortAt 2 = .ok (.getfield 22, 3) := by decide +kernel
theorem dX3_sortAt_5 : decode cX3_sortAt 5 = .ok (.if_icmp .lt 5, 3) := by decide +kernel
theorem dX3_sortAt_8 : decode cX3_sortAt 8 = .ok (.iconst 0, 1) := by decide +kernel
theorem dX3_sortAt_9 : decode cX3_sortAt 9 = .ok (.ireturn, 1) := by decide +kernel
theorem dX3_sortAt_10 : decode cX3_sortAt 10 = .ok (.aload_n 0, 1) := by decide +kernel
theorem dX3_sortAt_11 : decode cX3_sortAt 11 = .ok (.getfield 11, 3) := by decide +kernel
theorem dX3_sortAt_14 : decode cX3_sortAt 14 = .ok (.iload_n 1, 1) := by decide +kernel
theorem dX3_sortAt_15 : decode cX3_sortAt 15 = .ok (.baload, 1) := by decide +kernel
theorem dX3_sortAt_16 : decode cX3_sortAt 16 = .ok (.istore_n 2, 1) := by decide +kernel
theorem dX3_sortAt_17 : decode cX3_sortAt 17 = .ok (.iload_n 2, 1) := by decide +kernel
theorem dX3_sortAt_18 : decode cX3_sortAt 18 = .ok (.bipush 97, 2) := by decide +kernel
theorem dX3_sortAt_20 : decode cX3_sortAt 20 = .ok (.if_icmp .lt 11, 3) := by decide +kernel
theorem dX3_sortAt_23 : decode cX3_sortAt 23 = .ok (.iload_n 2, 1) := by decide +kernel
theorem dX3_sortAt_24 : decode cX3_sortAt 24 = .ok (.bipush 122, 2) := by decide +kernel
theorem dX3_sortAt_26 : decode cX3_sortAt 26 = .ok (.if_icmp .gt 5, 3) := by decide +kernel
theorem dX3_sortAt_29 : decode cX3_sortAt 29 = .ok (.iconst 1, 1) := by decide +kernel
theorem dX3_sortAt_30 : decode cX3_sortAt 30 = .ok (.ireturn, 1) := by decide +kernel
theorem dX3_sortAt_31 : decode cX3_sortAt 31 = .ok (.iload_n 2, 1) := by decide +kernel
theorem dX3_sortAt_32 : decode cX3_sortAt 32 = .ok (.bipush 48, 2) := by decide +kernel
theorem dX3_sortAt_34 : decode cX3_sortAt 34 = .ok (.if_icmp .lt 11, 3) := by decide +kernel
theorem dX3_sortAt_37 : decode cX3_sortAt 37 = .ok (.iload_n 2, 1) := by decide +kernel
theorem dX3_sortAt_38 : decode cX3_sortAt 38 = .ok (.bipush 57, 2) := by decide +kernel
theorem dX3_sortAt_40 : decode cX3_sortAt 40 = .ok (.if_icmp .gt 5, 3) := by decide +kernel
theorem dX3_sortAt_43 : decode cX3_sortAt 43 = .ok (.iconst 2, 1) := by decide +kernel
theorem dX3_sortAt_44 : decode cX3_sortAt 44 = .ok (.ireturn, 1) := by decide +kernel
theorem dX3_sortAt_45 : decode cX3_sortAt 45 = .ok (.iload_n 2, 1) := by decide +kernel
theorem dX3_sortAt_46 : decode cX3_sortAt 46 = .ok (.bipush 59, 2) := by decide +kernel
theorem dX3_sortAt_48 : decode cX3_sortAt 48 = .ok (.if_icmp .ne 7, 3) := by decide +kernel
theorem dX3_sortAt_51 : decode cX3_sortAt 51 = .ok (.iconst 3, 1) := by decide +kernel
theorem dX3_sortAt_52 : decode cX3_sortAt 52 = .ok (.goto 4, 3) := by decide +kernel
theorem dX3_sortAt_55 : decode cX3_sortAt 55 = .ok (.iconst 4, 1) := by decide +kernel
theorem dX3_sortAt_56 : decode cX3_sortAt 56 = .ok (.ireturn, 1) := by decide +kernel
theorem dX3_step_0 : decode cX3_step 0 = .ok (.aload_n 0, 1) := by decide +kernel
theorem dX3_step_1 : decode cX3_step 1 = .ok (.aload_n 0, 1) := by decide +kernel
theorem dX3_step_2 : decode cX3_step 2 = .ok (.getfield 33, 3) := by decide +kernel
theorem dX3_step_5 : decode cX3_step 5 = .ok (.putfield 121, 3) := by decide +kernel
theorem dX3_step_8 : decode cX3_step 8 = .ok (.aload_n 0, 1) := by decide +kernel
theorem dX3_step_9 : decode cX3_step 9 = .ok (.getfield 121, 3) := by decide +kernel
theorem dX3_step_12 : decode cX3_step 12 = .ok (.aload_n 0, 1) := by decide +kernel
theorem dX3_step_13 : decode cX3_step 13 = .ok (.getfield 22, 3) := by decide +kernel
theorem dX3_step_16 : decode cX3_step 16 = .ok (.if_icmp .ge 30, 3) := by decide +kernel
theorem dX3_step_19 : decode cX3_step 19 = .ok (.aload_n 0, 1) := by decide +kernel
theorem dX3_step_20 : decode cX3_step 20 = .ok (.getfield 11, 3) := by decide +kernel
theorem dX3_step_23 : decode cX3_step 23 = .ok (.aload_n 0, 1) := by decide +kernel
theorem dX3_step_24 : decode cX3_step 24 = .ok (.getfield 121, 3) := by decide +kernel
theorem dX3_step_27 : decode cX3_step 27 = .ok (.baload, 1) := by decide +kernel
theorem dX3_step_28 : decode cX3_step 28 = .ok (.bipush 32, 2) := by decide +kernel
theorem dX3_step_30 : decode cX3_step 30 = .ok (.if_icmp .ne 16, 3) := by decide +kernel
theorem dX3_step_33 : decode cX3_step 33 = .ok (.aload_n 0, 1) := by decide +kernel
theorem dX3_step_34 : decode cX3_step 34 = .ok (.dup, 1) := by decide +kernel
theorem dX3_step_35 : decode cX3_step 35 = .ok (.getfield 121, 3) := by decide +kernel
theorem dX3_step_38 : decode cX3_step 38 = .ok (.iconst 1, 1) := by decide +kernel
theorem dX3_step_39 : decode cX3_step 39 = .ok (.iadd, 1) := by decide +kernel
theorem dX3_step_40 : decode cX3_step 40 = .ok (.putfield 121, 3) := by decide +kernel
theorem dX3_step_43 : decode cX3_step 43 = .ok (.goto (-35), 3) := by decide +kernel
theorem dX3_step_46 : decode cX3_step 46 = .ok (.aload_n 0, 1) := by decide +kernel
theorem dX3_step_47 : decode cX3_step 47 = .ok (.aload_n 0, 1) := by decide +kernel
theorem dX3_step_48 : decode cX3_step 48 = .ok (.aload_n 0, 1) := by decide +kernel
theorem dX3_step_49 : decode cX3_step 49 = .ok (.getfield 121, 3) := by decide +kernel
theorem dX3_step_52 : decode cX3_step 52 = .ok (.invokevirtual 133, 3) := by decide +kernel
theorem dX3_step_55 : decode cX3_step 55 = .ok (.putfield 42, 3) := by decide +kernel
theorem dX3_step_58 : decode cX3_step 58 = .ok (.aload_n 0, 1) := by decide +kernel
theorem dX3_step_59 : decode cX3_step 59 = .ok (.aload_n 0, 1) := by decide +kernel
theorem dX3_step_60 : decode cX3_step 60 = .ok (.getfield 42, 3) := by decide +kernel
theorem dX3_step_63 : decode cX3_step 63 = .ok (.ifCond .ne 10, 3) := by decide +kernel
theorem dX3_step_66 : decode cX3_step 66 = .ok (.aload_n 0, 1) := by decide +kernel
theorem dX3_step_67 : decode cX3_step 67 = .ok (.getfield 121, 3) := by decide +kernel
theorem dX3_step_70 : decode cX3_step 70 = .ok (.goto 9, 3) := by decide +kernel
theorem dX3_step_73 : decode cX3_step 73 = .ok (.aload_n 0, 1) := by decide +kernel
theorem dX3_step_74 : decode cX3_step 74 = .ok (.getfield 121, 3) := by decide +kernel
theorem dX3_step_77 : decode cX3_step 77 = .ok (.iconst 1, 1) := by decide +kernel
theorem dX3_step_78 : decode cX3_step 78 = .ok (.iadd, 1) := by decide +kernel
theorem dX3_step_79 : decode cX3_step 79 = .ok (.putfield 33, 3) := by decide +kernel
theorem dX3_step_82 : decode cX3_step 82 = .ok (.aload_n 0, 1) := by decide +kernel
theorem dX3_step_83 : decode cX3_step 83 = .ok (.getfield 42, 3) := by decide +kernel
theorem dX3_step_86 : decode cX3_step 86 = .ok (.iconst 1, 1) := by decide +kernel
theorem dX3_step_87 : decode cX3_step 87 = .ok (.if_icmp .eq 11, 3) := by decide +kernel
theorem dX3_step_90 : decode cX3_step 90 = .ok (.aload_n 0, 1) := by decide +kernel
theorem dX3_step_91 : decode cX3_step 91 = .ok (.getfield 42, 3) := by decide +kernel
theorem dX3_step_94 : decode cX3_step 94 = .ok (.iconst 2, 1) := by decide +kernel
theorem dX3_step_95 : decode cX3_step 95 = .ok (.if_icmp .ne 7, 3) := by decide +kernel
theorem dX3_step_98 : decode cX3_step 98 = .ok (.iconst 1, 1) := by decide +kernel
theorem dX3_step_99 : decode cX3_step 99 = .ok (.goto 4, 3) := by decide +kernel
theorem dX3_step_102 : decode cX3_step 102 = .ok (.iconst 0, 1) := by decide +kernel
theorem dX3_step_103 : decode cX3_step 103 = .ok (.istore_n 1, 1) := by decide +kernel
theorem dX3_step_104 : decode cX3_step 104 = .ok (.iload_n 1, 1) := by decide +kernel
theorem dX3_step_105 : decode cX3_step 105 = .ok (.ifCond .eq 42, 3) := by decide +kernel
theorem dX3_step_108 : decode cX3_step 108 = .ok (.aload_n 0, 1) := by decide +kernel
theorem dX3_step_109 : decode cX3_step 109 = .ok (.getfield 33, 3) := by decide +kernel
theorem dX3_step_112 : decode cX3_step 112 = .ok (.aload_n 0, 1) := by decide +kernel
theorem dX3_step_113 : decode cX3_step 113 = .ok (.getfield 22, 3) := by decide +kernel
theorem dX3_step_116 : decode cX3_step 116 = .ok (.if_icmp .ge 31, 3) := by decide +kernel
theorem dX3_step_119 : decode cX3_step 119 = .ok (.aload_n 0, 1) := by decide +kernel
theorem dX3_step_120 : decode cX3_step 120 = .ok (.aload_n 0, 1) := by decide +kernel
theorem dX3_step_121 : decode cX3_step 121 = .ok (.getfield 33, 3) := by decide +kernel
theorem dX3_step_124 : decode cX3_step 124 = .ok (.invokevirtual 133, 3) := by decide +kernel
theorem dX3_step_127 : decode cX3_step 127 = .ok (.aload_n 0, 1) := by decide +kernel
theorem dX3_step_128 : decode cX3_step 128 = .ok (.getfield 42, 3) := by decide +kernel
theorem dX3_step_131 : decode cX3_step 131 = .ok (.if_icmp .ne 16, 3) := by decide +kernel
theorem dX3_step_134 : decode cX3_step 134 = .ok (.aload_n 0, 1) := by decide +kernel
theorem dX3_step_135 : decode cX3_step 135 = .ok (.dup, 1) := by decide +kernel
theorem dX3_step_136 : decode cX3_step 136 = .ok (.getfield 33, 3) := by decide +kernel
theorem dX3_step_139 : decode cX3_step 139 = .ok (.iconst 1, 1) := by decide +kernel
theorem dX3_step_140 : decode cX3_step 140 = .ok (.iadd, 1) := by decide +kernel
theorem dX3_step_141 : decode cX3_step 141 = .ok (.putfield 33, 3) := by decide +kernel
theorem dX3_step_144 : decode cX3_step 144 = .ok (.goto (-40), 3) := by decide +kernel
theorem dX3_step_147 : decode cX3_step 147 = .ok (.return_, 1) := by decide +kernel
theorem dX3_takeNumber_0 : decode cX3_takeNumber 0 = .ok (.aload_n 0, 1) := by decide +kernel
theorem dX3_takeNumber_1 : decode cX3_takeNumber 1 = .ok (.invokevirtual 117, 3) := by decide +kernel
theorem dX3_takeNumber_4 : decode cX3_takeNumber 4 = .ok (.istore_n 3, 1) := by decide +kernel
theorem dX3_takeNumber_5 : decode cX3_takeNumber 5 = .ok (.aload_n 0, 1) := by decide +kernel
theorem dX3_takeNumber_6 : decode cX3_takeNumber 6 = .ok (.getfield 30, 3) := by decide +kernel
theorem dX3_takeNumber_9 : decode cX3_takeNumber 9 = .ok (.iconst (-1), 1) := by decide +kernel
theorem dX3_takeNumber_10 : decode cX3_takeNumber 10 = .ok (.if_icmp .ne 13, 3) := by decide +kernel
theorem dX3_takeNumber_13 : decode cX3_takeNumber 13 = .ok (.iload_n 3, 1) := by decide +kernel
theorem dX3_takeNumber_14 : decode cX3_takeNumber 14 = .ok (.iload_n 1, 1) := by decide +kernel
theorem dX3_takeNumber_15 : decode cX3_takeNumber 15 = .ok (.if_icmp .lt 8, 3) := by decide +kernel
theorem dX3_takeNumber_18 : decode cX3_takeNumber 18 = .ok (.iload_n 3, 1) := by decide +kernel
theorem dX3_takeNumber_19 : decode cX3_takeNumber 19 = .ok (.iload_n 2, 1) := by decide +kernel
theorem dX3_takeNumber_20 : decode cX3_takeNumber 20 = .ok (.if_icmp .le 9, 3) := by decide +kernel
theorem dX3_takeNumber_23 : decode cX3_takeNumber 23 = .ok (.aload_n 0, 1) := by decide +kernel
theorem dX3_takeNumber_24 : decode cX3_takeNumber 24 = .ok (.invokevirtual 45, 3) := by decide +kernel
theorem dX3_takeNumber_27 : decode cX3_takeNumber 27 = .ok (.iconst (-1), 1) := by decide +kernel
theorem dX3_takeNumber_28 : decode cX3_takeNumber 28 = .ok (.ireturn, 1) := by decide +kernel
theorem dX3_takeNumber_29 : decode cX3_takeNumber 29 = .ok (.aload_n 0, 1) := by decide +kernel
theorem dX3_takeNumber_30 : decode cX3_takeNumber 30 = .ok (.invokevirtual 36, 3) := by decide +kernel
theorem dX3_takeNumber_33 : decode cX3_takeNumber 33 = .ok (.iload_n 3, 1) := by decide +kernel
theorem dX3_takeNumber_34 : decode cX3_takeNumber 34 = .ok (.ireturn, 1) := by decide +kernel
theorem dX5_town_0 : decode cX5_town 0 = .ok (.aload_n 0, 1) := by decide +kernel
theorem dX5_town_1 : decode cX5_town 1 = .ok (.getfield 36, 3) := by decide +kernel
theorem dX5_town_4 : decode cX5_town 4 = .ok (.aload_n 0, 1) := by decide +kernel
theorem dX5_town_5 : decode cX5_town 5 = .ok (.getfield 10, 3) := by decide +kernel
theorem dX5_town_8 : decode cX5_town 8 = .ok (.invokevirtual 154, 3) := by decide +kernel
theorem dX5_town_11 : decode cX5_town 11 = .ok (.istore_n 1, 1) := by decide +kernel
theorem dX5_town_12 : decode cX5_town 12 = .ok (.aload_n 0, 1) := by decide +kernel
theorem dX5_town_13 : decode cX5_town 13 = .ok (.getfield 36, 3) := by decide +kernel
theorem dX5_town_16 : decode cX5_town 16 = .ok (.iconst 0, 1) := by decide +kernel
theorem dX5_town_17 : decode cX5_town 17 = .ok (.putfield 148, 3) := by decide +kernel
theorem dX5_town_20 : decode cX5_town 20 = .ok (.aload_n 0, 1) := by decide +kernel
theorem dX5_town_21 : decode cX5_town 21 = .ok (.getfield 36, 3) := by decide +kernel
theorem dX5_town_24 : decode cX5_town 24 = .ok (.getfield 158, 3) := by decide +kernel
theorem dX5_town_27 : decode cX5_town 27 = .ok (.iconst (-1), 1) := by decide +kernel
theorem dX5_town_28 : decode cX5_town 28 = .ok (.if_icmp .eq 21, 3) := by decide +kernel
theorem dX5_town_31 : decode cX5_town 31 = .ok (.aload_n 0, 1) := by decide +kernel
theorem dX5_town_32 : decode cX5_town 32 = .ok (.bipush (-2), 2) := by decide +kernel
theorem dX5_town_34 : decode cX5_town 34 = .ok (.invokevirtual 56, 3) := by decide +kernel
theorem dX5_town_37 : decode cX5_town 37 = .ok (.pop, 1) := by decide +kernel
theorem dX5_town_38 : decode cX5_town 38 = .ok (.bipush (-20), 2) := by decide +kernel
theorem dX5_town_40 : decode cX5_town 40 = .ok (.aload_n 0, 1) := by decide +kernel
theorem dX5_town_41 : decode cX5_town 41 = .ok (.getfield 36, 3) := by decide +kernel
theorem dX5_town_44 : decode cX5_town 44 = .ok (.getfield 158, 3) := by decide +kernel
theorem dX5_town_47 : decode cX5_town 47 = .ok (.isub, 1) := by decide +kernel
theorem dX5_town_48 : decode cX5_town 48 = .ok (.ireturn, 1) := by decide +kernel
theorem dX5_town_49 : decode cX5_town 49 = .ok (.aload_n 0, 1) := by decide +kernel
theorem dX5_town_50 : decode cX5_town 50 = .ok (.getfield 10, 3) := by decide +kernel
theorem dX5_town_53 : decode cX5_town 53 = .ok (.aload_n 0, 1) := by decide +kernel
theorem dX5_town_54 : decode cX5_town 54 = .ok (.getfield 36, 3) := by decide +kernel
theorem dX5_town_57 : decode cX5_town 57 = .ok (.getfield 161, 3) := by decide +kernel
theorem dX5_town_60 : decode cX5_town 60 = .ok (.invokevirtual 164, 3) := by decide +kernel
theorem dX5_town_63 : decode cX5_town 63 = .ok (.iload_n 1, 1) := by decide +kernel
theorem dX5_town_64 : decode cX5_town 64 = .ok (.ireturn, 1) := by decide +kernel
theorem lp_lt0 {j n : Nat} (hj : j < 2 ^ 31) (hn : n < 2 ^ 31) (c : nI j < nI n) : j < n := by
  rw [Int32.lt_iff_toInt_lt, nI_toInt hj, nI_toInt hn] at c
  omega
theorem nI_ne1' {k : Nat} (hk : k < 2 ^ 31) : ¬ nI k = -1 := fun q => by
  have := nI_pos (n := k) hk
  rw [q] at this
  exact this (by decide)
theorem wd_len {a b n : Nat} (ha : a < 2 ^ 30) (hb : b < 2 ^ 30) (hn : n ≤ 5) (c : nI b - nI a = nI n) : b = a + n := by
  have := congrArg Int32.toInt c
  rw [pk_sub_toInt hb ha, nI_toInt (by omega)] at this
  omega
theorem cnt250 {j : Nat} (hj : j ≤ 251) (c : ¬ (250 : Int32) < nI j) : j < 251 := by
  rcases Nat.lt_or_ge j 251 with q | q
  · exact q
  · exact absurd (by rw [show j = 251 by omega]; decide) c
theorem tk_in {x : Int32} {n : Nat} (hn : n ≤ 8) (h1 : 0 ≤ x) (h2 : x ≤ nI n - 1) : ∃ k : Nat, k < n ∧ x = nI k := by
  obtain ⟨k, hk, rfl⟩ := nI_of (Int32.not_lt.mpr h1)
  refine ⟨k, ?_, rfl⟩
  rw [Int32.le_iff_toInt_le, nI_toInt hk, show (1 : Int32) = nI 1 from rfl, pk_sub_toInt (by omega) (by omega)] at h2
  omega
abbrev T_setne (t : TA) (x : Nat → Int32) : TA := T_mk (T_nb t) (T_np t) (T_sd t) (T_wh t) (T_gn t) (T_wo t) x (T_go t) (T_ag t) (T_re t) (T_me t) (T_te t) (T_kn t)
theorem as_book : ∀ k, k < ([98, 111, 111, 107] : List Int32).length → ∃ n : Nat, n < 128 ∧ ([98, 111, 111, 107] : List Int32).getD k 0 = nI n := fun k hk => by
  match k, hk with
  | 0, _ => exact ⟨98, by omega, rfl⟩
  | 1, _ => exact ⟨111, by omega, rfl⟩
  | 2, _ => exact ⟨111, by omega, rfl⟩
  | 3, _ => exact ⟨107, by omega, rfl⟩
  | k + 4, h => exact absurd h (by simp)
theorem as_good : ∀ k, k < ([103, 111, 111, 100] : List Int32).length → ∃ n : Nat, n < 128 ∧ ([103, 111, 111, 100] : List Int32).getD k 0 = nI n := fun k hk => by
  match k, hk with
  | 0, _ => exact ⟨103, by omega, rfl⟩
  | 1, _ => exact ⟨111, by omega, rfl⟩
  | 2, _ => exact ⟨111, by omega, rfl⟩
  | 3, _ => exact ⟨100, by omega, rfl⟩
  | k + 4, h => exact absurd h (by simp)
theorem as_need : ∀ k, k < ([110, 101, 101, 100] : List Int32).length → ∃ n : Nat, n < 128 ∧ ([110, 101, 101, 100] : List Int32).getD k 0 = nI n := fun k hk => by
  match k, hk with
  | 0, _ => exact ⟨110, by omega, rfl⟩
  | 1, _ => exact ⟨101, by omega, rfl⟩
  | 2, _ => exact ⟨101, by omega, rfl⟩
  | 3, _ => exact ⟨100, by omega, rfl⟩
  | k + 4, h => exact absurd h (by simp)
theorem as_one : ∀ k, k < ([111, 110, 101] : List Int32).length → ∃ n : Nat, n < 128 ∧ ([111, 110, 101] : List Int32).getD k 0 = nI n := fun k hk => by
  match k, hk with
  | 0, _ => exact ⟨111, by omega, rfl⟩
  | 1, _ => exact ⟨110, by omega, rfl⟩
  | 2, _ => exact ⟨101, by omega, rfl⟩
  | k + 3, h => exact absurd h (by simp)
theorem as_reads : ∀ k, k < ([114, 101, 97, 100, 115] : List Int32).length → ∃ n : Nat, n < 128 ∧ ([114, 101, 97, 100, 115] : List Int32).getD k 0 = nI n := fun k hk => by
  match k, hk with
  | 0, _ => exact ⟨114, by omega, rfl⟩
  | 1, _ => exact ⟨101, by omega, rfl⟩
  | 2, _ => exact ⟨97, by omega, rfl⟩
  | 3, _ => exact ⟨100, by omega, rfl⟩
  | 4, _ => exact ⟨115, by omega, rfl⟩
  | k + 5, h => exact absurd h (by simp)
theorem as_keeps : ∀ k, k < ([107, 101, 101, 112, 115] : List Int32).length → ∃ n : Nat, n < 128 ∧ ([107, 101, 101, 112, 115] : List Int32).getD k 0 = nI n := fun k hk => by
  match k, hk with
  | 0, _ => exact ⟨107, by omega, rfl⟩
  | 1, _ => exact ⟨101, by omega, rfl⟩
  | 2, _ => exact ⟨101, by omega, rfl⟩
  | 3, _ => exact ⟨112, by omega, rfl⟩
  | 4, _ => exact ⟨115, by omega, rfl⟩
  | k + 5, h => exact absurd h (by simp)
theorem as_tells : ∀ k, k < ([116, 101, 108, 108, 115] : List Int32).length → ∃ n : Nat, n < 128 ∧ ([116, 101, 108, 108, 115] : List Int32).getD k 0 = nI n := fun k hk => by
  match k, hk with
  | 0, _ => exact ⟨116, by omega, rfl⟩
  | 1, _ => exact ⟨101, by omega, rfl⟩
  | 2, _ => exact ⟨108, by omega, rfl⟩
  | 3, _ => exact ⟨108, by omega, rfl⟩
  | 4, _ => exact ⟨115, by omega, rfl⟩
  | k + 5, h => exact absurd h (by simp)
theorem as_knows : ∀ k, k < ([107, 110, 111, 119, 115] : List Int32).length → ∃ n : Nat, n < 128 ∧ ([107, 110, 111, 119, 115] : List Int32).getD k 0 = nI n := fun k hk => by
  match k, hk with
  | 0, _ => exact ⟨107, by omega, rfl⟩
  | 1, _ => exact ⟨110, by omega, rfl⟩
  | 2, _ => exact ⟨111, by omega, rfl⟩
  | 3, _ => exact ⟨119, by omega, rfl⟩
  | 4, _ => exact ⟨115, by omega, rfl⟩
  | k + 5, h => exact absurd h (by simp)
theorem as_white : ∀ k, k < ([119, 104, 105, 116, 101] : List Int32).length → ∃ n : Nat, n < 128 ∧ ([119, 104, 105, 116, 101] : List Int32).getD k 0 = nI n := fun k hk => by
  match k, hk with
  | 0, _ => exact ⟨119, by omega, rfl⟩
  | 1, _ => exact ⟨104, by omega, rfl⟩
  | 2, _ => exact ⟨105, by omega, rfl⟩
  | 3, _ => exact ⟨116, by omega, rfl⟩
  | 4, _ => exact ⟨101, by omega, rfl⟩
  | k + 5, h => exact absurd h (by simp)
set_option maxHeartbeats 4000000 in
set_option maxRecDepth 100000 in
theorem c_X3_sortAt (l : Launch) (G : va_G) (cy : Nat → ClassId) (qa : Nat) (qab : Nat) (kZ : Nat) (kS : Nat) (kE : Nat) (iT : Int32) (iF : Int32) (qd : Nat) (fB : Nat → Int32) (kP : Nat)  (hZ : kZ ≤ 250) (hPl : kP ≤ 250) : MR l yX3_sortAt cX3_sortAt 3 (some .int) 1 G cy [zzO qa 2 [.ref qab, .int (nI kZ), .int (nI kS), .int (nI kE), .int iT, .int iF, .ref qd], zzB cy qab 250 fB] [.ref qa, .int (nI kP)] (vp_Si (fun r => (r = 0 ∨ kP < kZ))) := by
  refine enR RX3 (by decide) rfl (Nat.le_of_ble_eq_true rfl) (fun p e s m below meth c ls hx hb hml hown hts hr hlocks hP hN hl => ?_)
  have hK := hN.1
  replace hl : lv_has ls 3 [(0, .ref qa), (1, .int (nI kP))] := hl
  refine lv_iload_n hx hb dX3_sortAt_0 rfl (lv_at hl 1 rfl) ?_
  refine lv_aload_n hx hb dX3_sortAt_1 rfl (lv_at hl 0 rfl) ?_
  refine va_get (D := G) (ci := 2) (v := .int (nI kZ)) (C := RX3) (T := TX3) (N := 7) hx hb hts iX_X3 hown hK hP 0 rfl rfl 1 (by decide) (hts _ m_t149) (fun _ h9 => h9) rfl dX3_sortAt_2 ?_
  refine lv_icmp_lt (tgt := 10) hx hb dX3_sortAt_5 (by decide) (fun c_1 => ?_) (fun c_1 => ?_)
  · have hlt : kP < kZ := lp_lt0 (by omega) (by omega) c_1
    refine lv_aload_n hx hb dX3_sortAt_10 rfl (lv_at hl 0 rfl) ?_
    refine va_get (D := G) (ci := 2) (v := .ref qab) (C := RX3) (T := TX3) (N := 7) hx hb hts iX_X3 hown hK hP 0 rfl rfl 0 (by decide) (hts _ m_t148) (fun _ h9 => h9) rfl dX3_sortAt_11 ?_
    refine lv_iload_n hx hb dX3_sortAt_14 rfl (lv_at hl 1 rfl) ?_
    refine va_bald hx hb hK hP 1 2 rfl rfl (vp_in_nI (by omega) (by omega)) dX3_sortAt_15 ?_
    refine lv_seti (v := fB kP) (congrArg fB (nI_clamp (by omega))) ?_
    refine lv_istore_n (lv' := [(2, .int (fB kP)), (0, .ref qa), (1, .int (nI kP))]) hx hb dX3_sortAt_16 rfl hl (by decide) rfl (fun ls => ?_)
    clear hl
    intro hl
    refine lv_iload_n hx hb dX3_sortAt_17 rfl (lv_at hl 0 rfl) ?_
    refine lv_bipush (v := 97) hx hb dX3_sortAt_18 (by decide) ?_
    refine lv_icmp_lt (tgt := 31) hx hb dX3_sortAt_20 (by decide) (fun c_2 => ?_) (fun c_2 => ?_)
    · refine lv_iload_n hx hb dX3_sortAt_31 rfl (lv_at hl 0 rfl) ?_
      refine lv_bipush (v := 48) hx hb dX3_sortAt_32 (by decide) ?_
      refine lv_icmp_lt (tgt := 45) hx hb dX3_sortAt_34 (by decide) (fun c_3 => ?_) (fun c_3 => ?_)
      · refine lv_iload_n hx hb dX3_sortAt_45 rfl (lv_at hl 0 rfl) ?_
        refine lv_bipush (v := 59) hx hb dX3_sortAt_46 (by decide) ?_
        refine lv_icmp_ne (tgt := 55) hx hb dX3_sortAt_48 (by decide) (fun c_4 => ?_) (fun c_4 => ?_)
        · refine lv_iconst (v := 4) hx hb dX3_sortAt_55 (by decide) ?_
          exact endR hx hb hr hlocks rfl (Or.inr (lp_lt0 (by omega) (by omega) c_1)) dX3_sortAt_56
        · refine lv_iconst (v := 3) hx hb dX3_sortAt_51 (by decide) ?_
          refine lv_goto (tgt := 56) hx hb dX3_sortAt_52 (by decide) ?_
          exact endR hx hb hr hlocks rfl (Or.inr (lp_lt0 (by omega) (by omega) c_1)) dX3_sortAt_56
      · refine lv_iload_n hx hb dX3_sortAt_37 rfl (lv_at hl 0 rfl) ?_
        refine lv_bipush (v := 57) hx hb dX3_sortAt_38 (by decide) ?_
        refine lv_icmp_gt (tgt := 45) hx hb dX3_sortAt_40 (by decide) (fun c_5 => ?_) (fun c_5 => ?_)
        · refine lv_iload_n hx hb dX3_sortAt_45 rfl (lv_at hl 0 rfl) ?_
          refine lv_bipush (v := 59) hx hb dX3_sortAt_46 (by decide) ?_
          refine lv_icmp_ne (tgt := 55) hx hb dX3_sortAt_48 (by decide) (fun c_6 => ?_) (fun c_6 => ?_)
          · refine lv_iconst (v := 4) hx hb dX3_sortAt_55 (by decide) ?_
            exact endR hx hb hr hlocks rfl (Or.inr (lp_lt0 (by omega) (by omega) c_1)) dX3_sortAt_56
          · refine lv_iconst (v := 3) hx hb dX3_sortAt_51 (by decide) ?_
            refine lv_goto (tgt := 56) hx hb dX3_sortAt_52 (by decide) ?_
            exact endR hx hb hr hlocks rfl (Or.inr (lp_lt0 (by omega) (by omega) c_1)) dX3_sortAt_56
        · refine lv_iconst (v := 2) hx hb dX3_sortAt_43 (by decide) ?_
          exact endR hx hb hr hlocks rfl (Or.inr (lp_lt0 (by omega) (by omega) c_1)) dX3_sortAt_44
    · refine lv_iload_n hx hb dX3_sortAt_23 rfl (lv_at hl 0 rfl) ?_
      refine lv_bipush (v := 122) hx hb dX3_sortAt_24 (by decide) ?_
      refine lv_icmp_gt (tgt := 31) hx hb dX3_sortAt_26 (by decide) (fun c_7 => ?_) (fun c_7 => ?_)
      · refine lv_iload_n hx hb dX3_sortAt_31 rfl (lv_at hl 0 rfl) ?_
        refine lv_bipush (v := 48) hx hb dX3_sortAt_32 (by decide) ?_
        refine lv_icmp_lt (tgt := 45) hx hb dX3_sortAt_34 (by decide) (fun c_8 => ?_) (fun c_8 => ?_)
        · refine lv_iload_n hx hb dX3_sortAt_45 rfl (lv_at hl 0 rfl) ?_
          refine lv_bipush (v := 59) hx hb dX3_sortAt_46 (by decide) ?_
          refine lv_icmp_ne (tgt := 55) hx hb dX3_sortAt_48 (by decide) (fun c_9 => ?_) (fun c_9 => ?_)
          · refine lv_iconst (v := 4) hx hb dX3_sortAt_55 (by decide) ?_
            exact endR hx hb hr hlocks rfl (Or.inr (lp_lt0 (by omega) (by omega) c_1)) dX3_sortAt_56
          · refine lv_iconst (v := 3) hx hb dX3_sortAt_51 (by decide) ?_
            refine lv_goto (tgt := 56) hx hb dX3_sortAt_52 (by decide) ?_
            exact endR hx hb hr hlocks rfl (Or.inr (lp_lt0 (by omega) (by omega) c_1)) dX3_sortAt_56
        · refine lv_iload_n hx hb dX3_sortAt_37 rfl (lv_at hl 0 rfl) ?_
          refine lv_bipush (v := 57) hx hb dX3_sortAt_38 (by decide) ?_
          refine lv_icmp_gt (tgt := 45) hx hb dX3_sortAt_40 (by decide) (fun c_10 => ?_) (fun c_10 => ?_)
          · refine lv_iload_n hx hb dX3_sortAt_45 rfl (lv_at hl 0 rfl) ?_
            refine lv_bipush (v := 59) hx hb dX3_sortAt_46 (by decide) ?_
            refine lv_icmp_ne (tgt := 55) hx hb dX3_sortAt_48 (by decide) (fun c_11 => ?_) (fun c_11 => ?_)
            · refine lv_iconst (v := 4) hx hb dX3_sortAt_55 (by decide) ?_
              exact endR hx hb hr hlocks rfl (Or.inr (lp_lt0 (by omega) (by omega) c_1)) dX3_sortAt_56
            · refine lv_iconst (v := 3) hx hb dX3_sortAt_51 (by decide) ?_
              refine lv_goto (tgt := 56) hx hb dX3_sortAt_52 (by decide) ?_
              exact endR hx hb hr hlocks rfl (Or.inr (lp_lt0 (by omega) (by omega) c_1)) dX3_sortAt_56
          · refine lv_iconst (v := 2) hx hb dX3_sortAt_43 (by decide) ?_
            exact endR hx hb hr hlocks rfl (Or.inr (lp_lt0 (by omega) (by omega) c_1)) dX3_sortAt_44
      · refine lv_iconst (v := 1) hx hb dX3_sortAt_29 (by decide) ?_
        exact endR hx hb hr hlocks rfl (Or.inr (lp_lt0 (by omega) (by omega) c_1)) dX3_sortAt_30
  · refine lv_iconst (v := 0) hx hb dX3_sortAt_8 (by decide) ?_
    exact endR hx hb hr hlocks rfl (Or.inl rfl) dX3_sortAt_9
set_option maxHeartbeats 4000000 in
set_option maxRecDepth 100000 in
theorem c_X3_step (l : Launch) (G : va_G) (cy : Nat → ClassId) (sz : Nat) (qa : Nat) (qab : Nat) (kZ : Nat) (iS0 : Int32) (kE : Nat) (iT : Int32) (iF : Int32) (qd : Nat) (fB : Nat → Int32)  (hZ : kZ ≤ 250) (hE : kE ≤ kZ) : MW l yX3_step cX3_step 2 none 2 0 0 G cy [zzO qa 2 [.ref qab, .int (nI kZ), .int iS0, .int (nI kE), .int iT, .int iF, .ref qd], zzB cy qab 250 fB] sz [.ref qa] (Wv G (fun u => ∃ (kX : Nat) (kY : Nat) (iX : Int32), u = [zzO qa 2 [.ref qab, .int (nI kZ), .int (nI kX), .int (nI kY), .int iX, .int iF, .ref qd], zzB cy qab 250 fB] ∧ (kX ≤ kY ∧ kY ≤ kZ))) := by
  refine enW RX3 (by decide) rfl (Nat.le_of_ble_eq_true rfl) (fun p e s m below meth c ls A hx hb hml hown hts hr hlocks hP hN hl hin hD hA hS => ?_)
  have hin : meth.name = _ := hin
  have hK := hN.1
  replace hl : lv_has ls 2 [(0, .ref qa)] := hl
  refine lv_aload_n hx hb dX3_step_0 rfl (lv_at hl 0 rfl) ?_
  refine lv_aload_n hx hb dX3_step_1 rfl (lv_at hl 0 rfl) ?_
  refine va_get (D := G) (ci := 2) (v := .int (nI kE)) (C := RX3) (T := TX3) (N := 7) hx hb hts iX_X3 hown hK hP 0 rfl rfl 3 (by decide) (hts _ m_t152) (fun _ h9 => h9) rfl dX3_step_2 ?_
  refine va_put (D := G) (ci := 2) (v := .int (nI kE)) (ty := .int) (C := RX3) (T := TX3) (N := 7) hx hb hts iX_X3 tyX3 tyX3_ok nmX3 hown hK hP hD hS 0 rfl rfl 2 (by decide) (hts _ m_t151) (fun _ h9 => h9) rfl (by decide +kernel) rfl rfl (Nat.le_of_ble_eq_true rfl) dX3_step_5 (fun H locs => ?_)
  clear hP hD hS
  intro hP hD hS
  have hPD := pd_as [zzO qa 2 [.ref qab, .int (nI kZ), .int (nI kE), .int (nI kE), .int iT, .int iF, .ref qd], zzB cy qab 250 fB] hP hD rfl
  clear hP hD
  obtain ⟨hP, hD⟩ := hPD
  have lp_1 : ∀ (n_2 : Nat) (j_4 : Nat), 250 - j_4 < n_2 → j_4 ≤ kZ → ∀ (H : Heap) (locs : List Loc) (ls : Array Slot), va_P G CL [zzO qa 2 [.ref qab, .int (nI kZ), .int (nI j_4), .int (nI kE), .int iT, .int iF, .ref qd], zzB cy qab 250 fB] H → va_D A [zzO qa 2 [.ref qab, .int (nI kZ), .int (nI j_4), .int (nI kE), .int iT, .int iF, .ref qd], zzB cy qab 250 fB] → va_S A s.heap H locs → lv_has ls 2 [(0, .ref qa)] → W p l e (Rm 2 0 0) s m (List.toArray (α := Value) [.ref qa]) below meth c H locs 0 0 (MQ below ((Wv G (fun u => ∃ (kX : Nat) (kY : Nat) (iX : Int32), u = [zzO qa 2 [.ref qab, .int (nI kZ), .int (nI kX), .int (nI kY), .int iX, .int iF, .ref qd], zzB cy qab 250 fB] ∧ (kX ≤ kY ∧ kY ≤ kZ))) A) (List.toArray (α := Value) [.ref qa]) s 0 0 A) (F0 m 8 ls []) := by
    intro n_2
    induction n_2 with
    | zero => intro j_4 hm9; exact absurd hm9 (Nat.not_lt_zero _)
    | succ n_2 ih_3 =>
      intro j_4 hm_6 hj_5 H locs ls hP hD hS hl
      refine lv_aload_n hx hb dX3_step_8 rfl (lv_at hl 0 rfl) ?_
      refine va_get (D := G) (ci := 2) (v := .int (nI j_4)) (C := RX3) (T := TX3) (N := 7) hx hb hts iX_X3 hown hK hP 0 rfl rfl 2 (by decide) (hts _ m_t151) (fun _ h9 => h9) rfl dX3_step_9 ?_
      refine lv_aload_n hx hb dX3_step_12 rfl (lv_at hl 0 rfl) ?_
      refine va_get (D := G) (ci := 2) (v := .int (nI kZ)) (C := RX3) (T := TX3) (N := 7) hx hb hts iX_X3 hown hK hP 0 rfl rfl 1 (by decide) (hts _ m_t149) (fun _ h9 => h9) rfl dX3_step_13 ?_
      refine lv_icmp_ge (tgt := 46) hx hb dX3_step_16 (by decide) (fun c_7 => ?_) (fun c_7 => ?_)
      · refine lv_aload_n hx hb dX3_step_46 rfl (lv_at hl 0 rfl) ?_
        refine lv_aload_n hx hb dX3_step_47 rfl (lv_at hl 0 rfl) ?_
        refine lv_aload_n hx hb dX3_step_48 rfl (lv_at hl 0 rfl) ?_
        refine va_get (D := G) (ci := 2) (v := .int (nI j_4)) (C := RX3) (T := TX3) (N := 7) hx hb hts iX_X3 hown hK hP 0 rfl rfl 2 (by decide) (hts _ m_t151) (fun _ h9 => h9) rfl dX3_step_49 ?_
        refine kRi (rV (As := [.int (nI j_4)]) (rest := [.ref qa]) (b := qa) ⟨hx, hb, hml, hown, hts⟩ (c_X3_sortAt l G cy qa qab kZ j_4 kE iT iF qd fB j_4 hZ (by first | omega | (simp only [nb_sr, np_sr, nb_wr, np_wr, nb_rd, np_rd, nb_ch, np_ch, nb_zr, np_zr, nb_za, np_za, nb_ey, np_ey, nb_hf, np_hf, nb_dd, np_dd, nb_so, np_so, nb_skn, np_skn, nb_swh, np_swh, nb_sgn, np_sgn, nb_ssd, np_ssd, nb_sgo, np_sgo, nb_sag, np_sag]; omega))) L_X3_133 (preRV (q := (RX3, TX3, 7)) hN hP [0, 1] rfl 0 2 rfl rfl) rfl ⟨Nat.le_of_ble_eq_true rfl, Nat.le_of_ble_eq_true rfl⟩ hl.1 (Nat.le_of_ble_eq_true rfl) dX3_step_52 ⟨Nat.le_of_ble_eq_true rfl, Nat.le_of_ble_eq_true rfl⟩) (fun r_8 h_9 => ?_)
        refine va_put (D := G) (ci := 2) (v := .int r_8) (ty := .int) (C := RX3) (T := TX3) (N := 7) hx hb hts iX_X3 tyX3 tyX3_ok nmX3 hown hK hP hD hS 0 rfl rfl 4 (by decide) (hts _ m_t153) (fun _ h9 => h9) rfl (by decide +kernel) rfl rfl (Nat.le_of_ble_eq_true rfl) dX3_step_55 (fun H locs => ?_)
        clear hP hD hS
        intro hP hD hS
        have hPD := pd_as [zzO qa 2 [.ref qab, .int (nI kZ), .int (nI j_4), .int (nI kE), .int r_8, .int iF, .ref qd], zzB cy qab 250 fB] hP hD rfl
        clear hP hD
        obtain ⟨hP, hD⟩ := hPD
        refine lv_aload_n hx hb dX3_step_58 rfl (lv_at hl 0 rfl) ?_
        refine lv_aload_n hx hb dX3_step_59 rfl (lv_at hl 0 rfl) ?_
        refine va_get (D := G) (ci := 2) (v := .int r_8) (C := RX3) (T := TX3) (N := 7) hx hb hts iX_X3 hown hK hP 0 rfl rfl 4 (by decide) (hts _ m_t153) (fun _ h9 => h9) rfl dX3_step_60 ?_
        refine lv_if_ne (tgt := 73) hx hb dX3_step_63 (by decide) (fun c_10 => ?_) (fun c_10 => ?_)
        · have hlt_11 : j_4 < kZ := h_9.resolve_left c_10
          refine lv_aload_n hx hb dX3_step_73 rfl (lv_at hl 0 rfl) ?_
          refine va_get (D := G) (ci := 2) (v := .int (nI j_4)) (C := RX3) (T := TX3) (N := 7) hx hb hts iX_X3 hown hK hP 0 rfl rfl 2 (by decide) (hts _ m_t151) (fun _ h9 => h9) rfl dX3_step_74 ?_
          refine lv_iconst (v := 1) hx hb dX3_step_77 (by decide) ?_
          refine lv_iadd hx hb dX3_step_78 ?_
          refine lv_seti (v := nI (j_4 + 1)) (nI_1 _) ?_
          refine va_put (D := G) (ci := 2) (v := .int (nI (j_4 + 1))) (ty := .int) (C := RX3) (T := TX3) (N := 7) hx hb hts iX_X3 tyX3 tyX3_ok nmX3 hown hK hP hD hS 0 rfl rfl 3 (by decide) (hts _ m_t152) (fun _ h9 => h9) rfl (by decide +kernel) rfl rfl (Nat.le_of_ble_eq_true rfl) dX3_step_79 (fun H locs => ?_)
          clear hP hD hS
          intro hP hD hS
          have hPD := pd_as [zzO qa 2 [.ref qab, .int (nI kZ), .int (nI j_4), .int (nI (j_4 + 1)), .int r_8, .int iF, .ref qd], zzB cy qab 250 fB] hP hD rfl
          clear hP hD
          obtain ⟨hP, hD⟩ := hPD
          refine lv_aload_n hx hb dX3_step_82 rfl (lv_at hl 0 rfl) ?_
          refine va_get (D := G) (ci := 2) (v := .int r_8) (C := RX3) (T := TX3) (N := 7) hx hb hts iX_X3 hown hK hP 0 rfl rfl 4 (by decide) (hts _ m_t153) (fun _ h9 => h9) rfl dX3_step_83 ?_
          refine lv_iconst (v := 1) hx hb dX3_step_86 (by decide) ?_
          refine lv_icmp_eq (tgt := 98) hx hb dX3_step_87 (by decide) (fun c_12 => ?_) (fun c_12 => ?_)
          · refine lv_iconst (v := 1) hx hb dX3_step_98 (by decide) ?_
            refine lv_goto (tgt := 103) hx hb dX3_step_99 (by decide) ?_
            refine lv_istore_n (lv' := [(1, .int 1), (0, .ref qa)]) hx hb dX3_step_103 rfl hl (by decide) rfl (fun ls => ?_)
            clear hl
            intro hl
            have lp_13 : ∀ (n_14 : Nat) (m_16 : Nat), 250 - m_16 < n_14 → j_4 ≤ m_16 → m_16 ≤ kZ → ∀ (H : Heap) (locs : List Loc) (ls : Array Slot), va_P G CL [zzO qa 2 [.ref qab, .int (nI kZ), .int (nI j_4), .int (nI m_16), .int r_8, .int iF, .ref qd], zzB cy qab 250 fB] H → va_D A [zzO qa 2 [.ref qab, .int (nI kZ), .int (nI j_4), .int (nI m_16), .int r_8, .int iF, .ref qd], zzB cy qab 250 fB] → va_S A s.heap H locs → lv_has ls 2 [(1, .int 1), (0, .ref qa)] → W p l e (Rm 2 0 0) s m (List.toArray (α := Value) [.ref qa]) below meth c H locs 0 0 (MQ below ((Wv G (fun u => ∃ (kX : Nat) (kY : Nat) (iX : Int32), u = [zzO qa 2 [.ref qab, .int (nI kZ), .int (nI kX), .int (nI kY), .int iX, .int iF, .ref qd], zzB cy qab 250 fB] ∧ (kX ≤ kY ∧ kY ≤ kZ))) A) (List.toArray (α := Value) [.ref qa]) s 0 0 A) (F0 m 104 ls []) := by
              intro n_14
              induction n_14 with
              | zero => intro m_16 hm9; exact absurd hm9 (Nat.not_lt_zero _)
              | succ n_14 ih_15 =>
                intro m_16 hm_19 hm1_17 hm2_18 H locs ls hP hD hS hl
                refine lv_iload_n hx hb dX3_step_104 rfl (lv_at hl 0 rfl) ?_
                refine lv_if_eq (tgt := 147) hx hb dX3_step_105 (by decide) (fun h9 => absurd h9 (by decide)) (fun _ => ?_)
                refine lv_aload_n hx hb dX3_step_108 rfl (lv_at hl 1 rfl) ?_
                refine va_get (D := G) (ci := 2) (v := .int (nI m_16)) (C := RX3) (T := TX3) (N := 7) hx hb hts iX_X3 hown hK hP 0 rfl rfl 3 (by decide) (hts _ m_t152) (fun _ h9 => h9) rfl dX3_step_109 ?_
                refine lv_aload_n hx hb dX3_step_112 rfl (lv_at hl 1 rfl) ?_
                refine va_get (D := G) (ci := 2) (v := .int (nI kZ)) (C := RX3) (T := TX3) (N := 7) hx hb hts iX_X3 hown hK hP 0 rfl rfl 1 (by decide) (hts _ m_t149) (fun _ h9 => h9) rfl dX3_step_113 ?_
                refine lv_icmp_ge (tgt := 147) hx hb dX3_step_116 (by decide) (fun c_21 => ?_) (fun c_21 => ?_)
                · exact endV (u := [zzO qa 2 [.ref qab, .int (nI kZ), .int (nI j_4), .int (nI m_16), .int r_8, .int iF, .ref qd], zzB cy qab 250 fB]) hx hb hr hlocks (hP.sub [0, 1] rfl) (hD.sub [0, 1] (by decide +kernel) rfl) hS ⟨j_4, m_16, r_8, rfl, ⟨by omega, by omega⟩⟩ dX3_step_147
                · have hlt_22 : m_16 < kZ := lp_lt rfl rfl (by omega) (by omega) c_21
                  refine lv_aload_n hx hb dX3_step_119 rfl (lv_at hl 1 rfl) ?_
                  refine lv_aload_n hx hb dX3_step_120 rfl (lv_at hl 1 rfl) ?_
                  refine va_get (D := G) (ci := 2) (v := .int (nI m_16)) (C := RX3) (T := TX3) (N := 7) hx hb hts iX_X3 hown hK hP 0 rfl rfl 3 (by decide) (hts _ m_t152) (fun _ h9 => h9) rfl dX3_step_121 ?_
                  refine kRi (rV (As := [.int (nI m_16)]) (rest := []) (b := qa) ⟨hx, hb, hml, hown, hts⟩ (c_X3_sortAt l G cy qa qab kZ j_4 m_16 r_8 iF qd fB m_16 hZ (by first | omega | (simp only [nb_sr, np_sr, nb_wr, np_wr, nb_rd, np_rd, nb_ch, np_ch, nb_zr, np_zr, nb_za, np_za, nb_ey, np_ey, nb_hf, np_hf, nb_dd, np_dd, nb_so, np_so, nb_skn, np_skn, nb_swh, np_swh, nb_sgn, np_sgn, nb_ssd, np_ssd, nb_sgo, np_sgo, nb_sag, np_sag]; omega))) L_X3_133 (preRV (q := (RX3, TX3, 7)) hN hP [0, 1] rfl 0 2 rfl rfl) rfl ⟨Nat.le_of_ble_eq_true rfl, Nat.le_of_ble_eq_true rfl⟩ hl.1 (Nat.le_of_ble_eq_true rfl) dX3_step_124 ⟨Nat.le_of_ble_eq_true rfl, Nat.le_of_ble_eq_true rfl⟩) (fun r_23 h_24 => ?_)
                  refine lv_aload_n hx hb dX3_step_127 rfl (lv_at hl 1 rfl) ?_
                  refine va_get (D := G) (ci := 2) (v := .int r_8) (C := RX3) (T := TX3) (N := 7) hx hb hts iX_X3 hown hK hP 0 rfl rfl 4 (by decide) (hts _ m_t153) (fun _ h9 => h9) rfl dX3_step_128 ?_
                  refine lv_icmp_ne (tgt := 147) hx hb dX3_step_131 (by decide) (fun c_25 => ?_) (fun c_25 => ?_)
                  · exact endV (u := [zzO qa 2 [.ref qab, .int (nI kZ), .int (nI j_4), .int (nI m_16), .int r_8, .int iF, .ref qd], zzB cy qab 250 fB]) hx hb hr hlocks (hP.sub [0, 1] rfl) (hD.sub [0, 1] (by decide +kernel) rfl) hS ⟨j_4, m_16, r_8, rfl, ⟨by omega, by omega⟩⟩ dX3_step_147
                  · refine lv_aload_n hx hb dX3_step_134 rfl (lv_at hl 1 rfl) ?_
                    refine lv_dup hx hb dX3_step_135 rfl ?_
                    refine va_get (D := G) (ci := 2) (v := .int (nI m_16)) (C := RX3) (T := TX3) (N := 7) hx hb hts iX_X3 hown hK hP 0 rfl rfl 3 (by decide) (hts _ m_t152) (fun _ h9 => h9) rfl dX3_step_136 ?_
                    refine lv_iconst (v := 1) hx hb dX3_step_139 (by decide) ?_
                    refine lv_iadd hx hb dX3_step_140 ?_
                    refine lv_seti (v := nI (m_16 + 1)) (nI_1 _) ?_
                    refine va_put (D := G) (ci := 2) (v := .int (nI (m_16 + 1))) (ty := .int) (C := RX3) (T := TX3) (N := 7) hx hb hts iX_X3 tyX3 tyX3_ok nmX3 hown hK hP hD hS 0 rfl rfl 3 (by decide) (hts _ m_t152) (fun _ h9 => h9) rfl (by decide +kernel) rfl rfl (Nat.le_of_ble_eq_true rfl) dX3_step_141 (fun H locs => ?_)
                    clear hP hD hS
                    intro hP hD hS
                    have hPD := pd_as [zzO qa 2 [.ref qab, .int (nI kZ), .int (nI j_4), .int (nI (m_16 + 1)), .int r_8, .int iF, .ref qd], zzB cy qab 250 fB] hP hD rfl
                    clear hP hD
                    obtain ⟨hP, hD⟩ := hPD
                    refine lv_goto (tgt := 104) hx hb dX3_step_144 (by decide) ?_
                    exact ih_15 (m_16 + 1) (by omega) (by omega) (by omega) _ _ _ hP hD hS (lv_sub hl [0, 1] rfl)
            exact lp_13 ((250 - (j_4 + 1)) + 1) (j_4 + 1) (Nat.lt_succ_self _) (by omega) (by omega) _ _ ls hP hD hS (lv_sub hl [0, 1] rfl)
          · refine lv_aload_n hx hb dX3_step_90 rfl (lv_at hl 0 rfl) ?_
            refine va_get (D := G) (ci := 2) (v := .int r_8) (C := RX3) (T := TX3) (N := 7) hx hb hts iX_X3 hown hK hP 0 rfl rfl 4 (by decide) (hts _ m_t153) (fun _ h9 => h9) rfl dX3_step_91 ?_
            refine lv_iconst (v := 2) hx hb dX3_step_94 (by decide) ?_
            refine lv_icmp_ne (tgt := 102) hx hb dX3_step_95 (by decide) (fun c_26 => ?_) (fun c_26 => ?_)
            · refine lv_iconst (v := 0) hx hb dX3_step_102 (by decide) ?_
              refine lv_istore_n (lv' := [(1, .int 0), (0, .ref qa)]) hx hb dX3_step_103 rfl hl (by decide) rfl (fun ls => ?_)
              clear hl
              intro hl
              have lp_27 : ∀ (n_28 : Nat) (m_30 : Nat), 250 - m_30 < n_28 → j_4 ≤ m_30 → m_30 ≤ kZ → ∀ (H : Heap) (locs : List Loc) (ls : Array Slot), va_P G CL [zzO qa 2 [.ref qab, .int (nI kZ), .int (nI j_4), .int (nI m_30), .int r_8, .int iF, .ref qd], zzB cy qab 250 fB] H → va_D A [zzO qa 2 [.ref qab, .int (nI kZ), .int (nI j_4), .int (nI m_30), .int r_8, .int iF, .ref qd], zzB cy qab 250 fB] → va_S A s.heap H locs → lv_has ls 2 [(1, .int 0), (0, .ref qa)] → W p l e (Rm 2 0 0) s m (List.toArray (α := Value) [.ref qa]) below meth c H locs 0 0 (MQ below ((Wv G (fun u => ∃ (kX : Nat) (kY : Nat) (iX : Int32), u = [zzO qa 2 [.ref qab, .int (nI kZ), .int (nI kX), .int (nI kY), .int iX, .int iF, .ref qd], zzB cy qab 250 fB] ∧ (kX ≤ kY ∧ kY ≤ kZ))) A) (List.toArray (α := Value) [.ref qa]) s 0 0 A) (F0 m 104 ls []) := by
                intro n_28
                induction n_28 with
                | zero => intro m_30 hm9; exact absurd hm9 (Nat.not_lt_zero _)
                | succ n_28 ih_29 =>
                  intro m_30 hm_33 hm1_31 hm2_32 H locs ls hP hD hS hl
                  refine lv_iload_n hx hb dX3_step_104 rfl (lv_at hl 0 rfl) ?_
                  refine lv_if_eq (tgt := 147) hx hb dX3_step_105 (by decide) (fun _ => ?_) (fun h9 => absurd (by decide) h9)
                  exact endV (u := [zzO qa 2 [.ref qab, .int (nI kZ), .int (nI j_4), .int (nI m_30), .int r_8, .int iF, .ref qd], zzB cy qab 250 fB]) hx hb hr hlocks (hP.sub [0, 1] rfl) (hD.sub [0, 1] (by decide +kernel) rfl) hS ⟨j_4, m_30, r_8, rfl, ⟨by omega, by omega⟩⟩ dX3_step_147
              exact lp_27 ((250 - (j_4 + 1)) + 1) (j_4 + 1) (Nat.lt_succ_self _) (by omega) (by omega) _ _ ls hP hD hS (lv_sub hl [0, 1] rfl)
            · refine lv_iconst (v := 1) hx hb dX3_step_98 (by decide) ?_
              refine lv_goto (tgt := 103) hx hb dX3_step_99 (by decide) ?_
              refine lv_istore_n (lv' := [(1, .int 1), (0, .ref qa)]) hx hb dX3_step_103 rfl hl (by decide) rfl (fun ls => ?_)
              clear hl
              intro hl
              have lp_35 : ∀ (n_36 : Nat) (m_38 : Nat), 250 - m_38 < n_36 → j_4 ≤ m_38 → m_38 ≤ kZ → ∀ (H : Heap) (locs : List Loc) (ls : Array Slot), va_P G CL [zzO qa 2 [.ref qab, .int (nI kZ), .int (nI j_4), .int (nI m_38), .int r_8, .int iF, .ref qd], zzB cy qab 250 fB] H → va_D A [zzO qa 2 [.ref qab, .int (nI kZ), .int (nI j_4), .int (nI m_38), .int r_8, .int iF, .ref qd], zzB cy qab 250 fB] → va_S A s.heap H locs → lv_has ls 2 [(1, .int 1), (0, .ref qa)] → W p l e (Rm 2 0 0) s m (List.toArray (α := Value) [.ref qa]) below meth c H locs 0 0 (MQ below ((Wv G (fun u => ∃ (kX : Nat) (kY : Nat) (iX : Int32), u = [zzO qa 2 [.ref qab, .int (nI kZ), .int (nI kX), .int (nI kY), .int iX, .int iF, .ref qd], zzB cy qab 250 fB] ∧ (kX ≤ kY ∧ kY ≤ kZ))) A) (List.toArray (α := Value) [.ref qa]) s 0 0 A) (F0 m 104 ls []) := by
                intro n_36
                induction n_36 with
                | zero => intro m_38 hm9; exact absurd hm9 (Nat.not_lt_zero _)
                | succ n_36 ih_37 =>
                  intro m_38 hm_41 hm1_39 hm2_40 H locs ls hP hD hS hl
                  refine lv_iload_n hx hb dX3_step_104 rfl (lv_at hl 0 rfl) ?_
                  refine lv_if_eq (tgt := 147) hx hb dX3_step_105 (by decide) (fun h9 => absurd h9 (by decide)) (fun _ => ?_)
                  refine lv_aload_n hx hb dX3_step_108 rfl (lv_at hl 1 rfl) ?_
                  refine va_get (D := G) (ci := 2) (v := .int (nI m_38)) (C := RX3) (T := TX3) (N := 7) hx hb hts iX_X3 hown hK hP 0 rfl rfl 3 (by decide) (hts _ m_t152) (fun _ h9 => h9) rfl dX3_step_109 ?_
                  refine lv_aload_n hx hb dX3_step_112 rfl (lv_at hl 1 rfl) ?_
                  refine va_get (D := G) (ci := 2) (v := .int (nI kZ)) (C := RX3) (T := TX3) (N := 7) hx hb hts iX_X3 hown hK hP 0 rfl rfl 1 (by decide) (hts _ m_t149) (fun _ h9 => h9) rfl dX3_step_113 ?_
                  refine lv_icmp_ge (tgt := 147) hx hb dX3_step_116 (by decide) (fun c_43 => ?_) (fun c_43 => ?_)
                  · exact endV (u := [zzO qa 2 [.ref qab, .int (nI kZ), .int (nI j_4), .int (nI m_38), .int r_8, .int iF, .ref qd], zzB cy qab 250 fB]) hx hb hr hlocks (hP.sub [0, 1] rfl) (hD.sub [0, 1] (by decide +kernel) rfl) hS ⟨j_4, m_38, r_8, rfl, ⟨by omega, by omega⟩⟩ dX3_step_147
                  · have hlt_44 : m_38 < kZ := lp_lt rfl rfl (by omega) (by omega) c_43
                    refine lv_aload_n hx hb dX3_step_119 rfl (lv_at hl 1 rfl) ?_
                    refine lv_aload_n hx hb dX3_step_120 rfl (lv_at hl 1 rfl) ?_
                    refine va_get (D := G) (ci := 2) (v := .int (nI m_38)) (C := RX3) (T := TX3) (N := 7) hx hb hts iX_X3 hown hK hP 0 rfl rfl 3 (by decide) (hts _ m_t152) (fun _ h9 => h9) rfl dX3_step_121 ?_
                    refine kRi (rV (As := [.int (nI m_38)]) (rest := []) (b := qa) ⟨hx, hb, hml, hown, hts⟩ (c_X3_sortAt l G cy qa qab kZ j_4 m_38 r_8 iF qd fB m_38 hZ (by first | omega | (simp only [nb_sr, np_sr, nb_wr, np_wr, nb_rd, np_rd, nb_ch, np_ch, nb_zr, np_zr, nb_za, np_za, nb_ey, np_ey, nb_hf, np_hf, nb_dd, np_dd, nb_so, np_so, nb_skn, np_skn, nb_swh, np_swh, nb_sgn, np_sgn, nb_ssd, np_ssd, nb_sgo, np_sgo, nb_sag, np_sag]; omega))) L_X3_133 (preRV (q := (RX3, TX3, 7)) hN hP [0, 1] rfl 0 2 rfl rfl) rfl ⟨Nat.le_of_ble_eq_true rfl, Nat.le_of_ble_eq_true rfl⟩ hl.1 (Nat.le_of_ble_eq_true rfl) dX3_step_124 ⟨Nat.le_of_ble_eq_true rfl, Nat.le_of_ble_eq_true rfl⟩) (fun r_45 h_46 => ?_)
                    refine lv_aload_n hx hb dX3_step_127 rfl (lv_at hl 1 rfl) ?_
                    refine va_get (D := G) (ci := 2) (v := .int r_8) (C := RX3) (T := TX3) (N := 7) hx hb hts iX_X3 hown hK hP 0 rfl rfl 4 (by decide) (hts _ m_t153) (fun _ h9 => h9) rfl dX3_step_128 ?_
                    refine lv_icmp_ne (tgt := 147) hx hb dX3_step_131 (by decide) (fun c_47 => ?_) (fun c_47 => ?_)
                    · exact endV (u := [zzO qa 2 [.ref qab, .int (nI kZ), .int (nI j_4), .int (nI m_38), .int r_8, .int iF, .ref qd], zzB cy qab 250 fB]) hx hb hr hlocks (hP.sub [0, 1] rfl) (hD.sub [0, 1] (by decide +kernel) rfl) hS ⟨j_4, m_38, r_8, rfl, ⟨by omega, by omega⟩⟩ dX3_step_147
                    · refine lv_aload_n hx hb dX3_step_134 rfl (lv_at hl 1 rfl) ?_
                      refine lv_dup hx hb dX3_step_135 rfl ?_
                      refine va_get (D := G) (ci := 2) (v := .int (nI m_38)) (C := RX3) (T := TX3) (N := 7) hx hb hts iX_X3 hown hK hP 0 rfl rfl 3 (by decide) (hts _ m_t152) (fun _ h9 => h9) rfl dX3_step_136 ?_
                      refine lv_iconst (v := 1) hx hb dX3_step_139 (by decide) ?_
                      refine lv_iadd hx hb dX3_step_140 ?_
                      refine lv_seti (v := nI (m_38 + 1)) (nI_1 _) ?_
                      refine va_put (D := G) (ci := 2) (v := .int (nI (m_38 + 1))) (ty := .int) (C := RX3) (T := TX3) (N := 7) hx hb hts iX_X3 tyX3 tyX3_ok nmX3 hown hK hP hD hS 0 rfl rfl 3 (by decide) (hts _ m_t152) (fun _ h9 => h9) rfl (by decide +kernel) rfl rfl (Nat.le_of_ble_eq_true rfl) dX3_step_141 (fun H locs => ?_)
                      clear hP hD hS
                      intro hP hD hS
                      have hPD := pd_as [zzO qa 2 [.ref qab, .int (nI kZ), .int (nI j_4), .int (nI (m_38 + 1)), .int r_8, .int iF, .ref qd], zzB cy qab 250 fB] hP hD rfl
                      clear hP hD
                      obtain ⟨hP, hD⟩ := hPD
                      refine lv_goto (tgt := 104) hx hb dX3_step_144 (by decide) ?_
                      exact ih_37 (m_38 + 1) (by omega) (by omega) (by omega) _ _ _ hP hD hS (lv_sub hl [0, 1] rfl)
              exact lp_35 ((250 - (j_4 + 1)) + 1) (j_4 + 1) (Nat.lt_succ_self _) (by omega) (by omega) _ _ ls hP hD hS (lv_sub hl [0, 1] rfl)
        · refine lv_aload_n hx hb dX3_step_66 rfl (lv_at hl 0 rfl) ?_
          refine va_get (D := G) (ci := 2) (v := .int (nI j_4)) (C := RX3) (T := TX3) (N := 7) hx hb hts iX_X3 hown hK hP 0 rfl rfl 2 (by decide) (hts _ m_t151) (fun _ h9 => h9) rfl dX3_step_67 ?_
          refine lv_goto (tgt := 79) hx hb dX3_step_70 (by decide) ?_
          refine va_put (D := G) (ci := 2) (v := .int (nI j_4)) (ty := .int) (C := RX3) (T := TX3) (N := 7) hx hb hts iX_X3 tyX3 tyX3_ok nmX3 hown hK hP hD hS 0 rfl rfl 3 (by decide) (hts _ m_t152) (fun _ h9 => h9) rfl (by decide +kernel) rfl rfl (Nat.le_of_ble_eq_true rfl) dX3_step_79 (fun H locs => ?_)
          clear hP hD hS
          intro hP hD hS
          have hPD := pd_as [zzO qa 2 [.ref qab, .int (nI kZ), .int (nI j_4), .int (nI j_4), .int r_8, .int iF, .ref qd], zzB cy qab 250 fB] hP hD rfl
          clear hP hD
          obtain ⟨hP, hD⟩ := hPD
          refine lv_aload_n hx hb dX3_step_82 rfl (lv_at hl 0 rfl) ?_
          refine va_get (D := G) (ci := 2) (v := .int r_8) (C := RX3) (T := TX3) (N := 7) hx hb hts iX_X3 hown hK hP 0 rfl rfl 4 (by decide) (hts _ m_t153) (fun _ h9 => h9) rfl dX3_step_83 ?_
          refine lv_iconst (v := 1) hx hb dX3_step_86 (by decide) ?_
          refine lv_icmp_eq (tgt := 98) hx hb dX3_step_87 (by decide) (fun c_48 => ?_) (fun c_48 => ?_)
          · refine lv_iconst (v := 1) hx hb dX3_step_98 (by decide) ?_
            refine lv_goto (tgt := 103) hx hb dX3_step_99 (by decide) ?_
            refine lv_istore_n (lv' := [(1, .int 1), (0, .ref qa)]) hx hb dX3_step_103 rfl hl (by decide) rfl (fun ls => ?_)
            clear hl
            intro hl
            have lp_49 : ∀ (n_50 : Nat) (m_52 : Nat), 250 - m_52 < n_50 → j_4 ≤ m_52 → m_52 ≤ kZ → ∀ (H : Heap) (locs : List Loc) (ls : Array Slot), va_P G CL [zzO qa 2 [.ref qab, .int (nI kZ), .int (nI j_4), .int (nI m_52), .int r_8, .int iF, .ref qd], zzB cy qab 250 fB] H → va_D A [zzO qa 2 [.ref qab, .int (nI kZ), .int (nI j_4), .int (nI m_52), .int r_8, .int iF, .ref qd], zzB cy qab 250 fB] → va_S A s.heap H locs → lv_has ls 2 [(1, .int 1), (0, .ref qa)] → W p l e (Rm 2 0 0) s m (List.toArray (α := Value) [.ref qa]) below meth c H locs 0 0 (MQ below ((Wv G (fun u => ∃ (kX : Nat) (kY : Nat) (iX : Int32), u = [zzO qa 2 [.ref qab, .int (nI kZ), .int (nI kX), .int (nI kY), .int iX, .int iF, .ref qd], zzB cy qab 250 fB] ∧ (kX ≤ kY ∧ kY ≤ kZ))) A) (List.toArray (α := Value) [.ref qa]) s 0 0 A) (F0 m 104 ls []) := by
              intro n_50
              induction n_50 with
              | zero => intro m_52 hm9; exact absurd hm9 (Nat.not_lt_zero _)
              | succ n_50 ih_51 =>
                intro m_52 hm_55 hm1_53 hm2_54 H locs ls hP hD hS hl
                refine lv_iload_n hx hb dX3_step_104 rfl (lv_at hl 0 rfl) ?_
                refine lv_if_eq (tgt := 147) hx hb dX3_step_105 (by decide) (fun h9 => absurd h9 (by decide)) (fun _ => ?_)
                refine lv_aload_n hx hb dX3_step_108 rfl (lv_at hl 1 rfl) ?_
                refine va_get (D := G) (ci := 2) (v := .int (nI m_52)) (C := RX3) (T := TX3) (N := 7) hx hb hts iX_X3 hown hK hP 0 rfl rfl 3 (by decide) (hts _ m_t152) (fun _ h9 => h9) rfl dX3_step_109 ?_
                refine lv_aload_n hx hb dX3_step_112 rfl (lv_at hl 1 rfl) ?_
                refine va_get (D := G) (ci := 2) (v := .int (nI kZ)) (C := RX3) (T := TX3) (N := 7) hx hb hts iX_X3 hown hK hP 0 rfl rfl 1 (by decide) (hts _ m_t149) (fun _ h9 => h9) rfl dX3_step_113 ?_
                refine lv_icmp_ge (tgt := 147) hx hb dX3_step_116 (by decide) (fun c_57 => ?_) (fun c_57 => ?_)
                · exact endV (u := [zzO qa 2 [.ref qab, .int (nI kZ), .int (nI j_4), .int (nI m_52), .int r_8, .int iF, .ref qd], zzB cy qab 250 fB]) hx hb hr hlocks (hP.sub [0, 1] rfl) (hD.sub [0, 1] (by decide +kernel) rfl) hS ⟨j_4, m_52, r_8, rfl, ⟨by omega, by omega⟩⟩ dX3_step_147
                · have hlt_58 : m_52 < kZ := lp_lt rfl rfl (by omega) (by omega) c_57
                  refine lv_aload_n hx hb dX3_step_119 rfl (lv_at hl 1 rfl) ?_
                  refine lv_aload_n hx hb dX3_step_120 rfl (lv_at hl 1 rfl) ?_
                  refine va_get (D := G) (ci := 2) (v := .int (nI m_52)) (C := RX3) (T := TX3) (N := 7) hx hb hts iX_X3 hown hK hP 0 rfl rfl 3 (by decide) (hts _ m_t152) (fun _ h9 => h9) rfl dX3_step_121 ?_
                  refine kRi (rV (As := [.int (nI m_52)]) (rest := []) (b := qa) ⟨hx, hb, hml, hown, hts⟩ (c_X3_sortAt l G cy qa qab kZ j_4 m_52 r_8 iF qd fB m_52 hZ (by first | omega | (simp only [nb_sr, np_sr, nb_wr, np_wr, nb_rd, np_rd, nb_ch, np_ch, nb_zr, np_zr, nb_za, np_za, nb_ey, np_ey, nb_hf, np_hf, nb_dd, np_dd, nb_so, np_so, nb_skn, np_skn, nb_swh, np_swh, nb_sgn, np_sgn, nb_ssd, np_ssd, nb_sgo, np_sgo, nb_sag, np_sag]; omega))) L_X3_133 (preRV (q := (RX3, TX3, 7)) hN hP [0, 1] rfl 0 2 rfl rfl) rfl ⟨Nat.le_of_ble_eq_true rfl, Nat.le_of_ble_eq_true rfl⟩ hl.1 (Nat.le_of_ble_eq_true rfl) dX3_step_124 ⟨Nat.le_of_ble_eq_true rfl, Nat.le_of_ble_eq_true rfl⟩) (fun r_59 h_60 => ?_)
                  refine lv_aload_n hx hb dX3_step_127 rfl (lv_at hl 1 rfl) ?_
                  refine va_get (D := G) (ci := 2) (v := .int r_8) (C := RX3) (T := TX3) (N := 7) hx hb hts iX_X3 hown hK hP 0 rfl rfl 4 (by decide) (hts _ m_t153) (fun _ h9 => h9) rfl dX3_step_128 ?_
                  refine lv_icmp_ne (tgt := 147) hx hb dX3_step_131 (by decide) (fun c_61 => ?_) (fun c_61 => ?_)
                  · exact endV (u := [zzO qa 2 [.ref qab, .int (nI kZ), .int (nI j_4), .int (nI m_52), .int r_8, .int iF, .ref qd], zzB cy qab 250 fB]) hx hb hr hlocks (hP.sub [0, 1] rfl) (hD.sub [0, 1] (by decide +kernel) rfl) hS ⟨j_4, m_52, r_8, rfl, ⟨by omega, by omega⟩⟩ dX3_step_147
                  · refine lv_aload_n hx hb dX3_step_134 rfl (lv_at hl 1 rfl) ?_
                    refine lv_dup hx hb dX3_step_135 rfl ?_
                    refine va_get (D := G) (ci := 2) (v := .int (nI m_52)) (C := RX3) (T := TX3) (N := 7) hx hb hts iX_X3 hown hK hP 0 rfl rfl 3 (by decide) (hts _ m_t152) (fun _ h9 => h9) rfl dX3_step_136 ?_
                    refine lv_iconst (v := 1) hx hb dX3_step_139 (by decide) ?_
                    refine lv_iadd hx hb dX3_step_140 ?_
                    refine lv_seti (v := nI (m_52 + 1)) (nI_1 _) ?_
                    refine va_put (D := G) (ci := 2) (v := .int (nI (m_52 + 1))) (ty := .int) (C := RX3) (T := TX3) (N := 7) hx hb hts iX_X3 tyX3 tyX3_ok nmX3 hown hK hP hD hS 0 rfl rfl 3 (by decide) (hts _ m_t152) (fun _ h9 => h9) rfl (by decide +kernel) rfl rfl (Nat.le_of_ble_eq_true rfl) dX3_step_141 (fun H locs => ?_)
                    clear hP hD hS
                    intro hP hD hS
                    have hPD := pd_as [zzO qa 2 [.ref qab, .int (nI kZ), .int (nI j_4), .int (nI (m_52 + 1)), .int r_8, .int iF, .ref qd], zzB cy qab 250 fB] hP hD rfl
                    clear hP hD
                    obtain ⟨hP, hD⟩ := hPD
                    refine lv_goto (tgt := 104) hx hb dX3_step_144 (by decide) ?_
                    exact ih_51 (m_52 + 1) (by omega) (by omega) (by omega) _ _ _ hP hD hS (lv_sub hl [0, 1] rfl)
            exact lp_49 ((250 - j_4) + 1) j_4 (Nat.lt_succ_self _) (by omega) (by omega) _ _ ls hP hD hS (lv_sub hl [0, 1] rfl)
          · refine lv_aload_n hx hb dX3_step_90 rfl (lv_at hl 0 rfl) ?_
            refine va_get (D := G) (ci := 2) (v := .int r_8) (C := RX3) (T := TX3) (N := 7) hx hb hts iX_X3 hown hK hP 0 rfl rfl 4 (by decide) (hts _ m_t153) (fun _ h9 => h9) rfl dX3_step_91 ?_
            refine lv_iconst (v := 2) hx hb dX3_step_94 (by decide) ?_
            refine lv_icmp_ne (tgt := 102) hx hb dX3_step_95 (by decide) (fun c_62 => ?_) (fun c_62 => ?_)
            · refine lv_iconst (v := 0) hx hb dX3_step_102 (by decide) ?_
              refine lv_istore_n (lv' := [(1, .int 0), (0, .ref qa)]) hx hb dX3_step_103 rfl hl (by decide) rfl (fun ls => ?_)
              clear hl
              intro hl
              have lp_63 : ∀ (n_64 : Nat) (m_66 : Nat), 250 - m_66 < n_64 → j_4 ≤ m_66 → m_66 ≤ kZ → ∀ (H : Heap) (locs : List Loc) (ls : Array Slot), va_P G CL [zzO qa 2 [.ref qab, .int (nI kZ), .int (nI j_4), .int (nI m_66), .int r_8, .int iF, .ref qd], zzB cy qab 250 fB] H → va_D A [zzO qa 2 [.ref qab, .int (nI kZ), .int (nI j_4), .int (nI m_66), .int r_8, .int iF, .ref qd], zzB cy qab 250 fB] → va_S A s.heap H locs → lv_has ls 2 [(1, .int 0), (0, .ref qa)] → W p l e (Rm 2 0 0) s m (List.toArray (α := Value) [.ref qa]) below meth c H locs 0 0 (MQ below ((Wv G (fun u => ∃ (kX : Nat) (kY : Nat) (iX : Int32), u = [zzO qa 2 [.ref qab, .int (nI kZ), .int (nI kX), .int (nI kY), .int iX, .int iF, .ref qd], zzB cy qab 250 fB] ∧ (kX ≤ kY ∧ kY ≤ kZ))) A) (List.toArray (α := Value) [.ref qa]) s 0 0 A) (F0 m 104 ls []) := by
                intro n_64
                induction n_64 with
                | zero => intro m_66 hm9; exact absurd hm9 (Nat.not_lt_zero _)
                | succ n_64 ih_65 =>
                  intro m_66 hm_69 hm1_67 hm2_68 H locs ls hP hD hS hl
                  refine lv_iload_n hx hb dX3_step_104 rfl (lv_at hl 0 rfl) ?_
                  refine lv_if_eq (tgt := 147) hx hb dX3_step_105 (by decide) (fun _ => ?_) (fun h9 => absurd (by decide) h9)
                  exact endV (u := [zzO qa 2 [.ref qab, .int (nI kZ), .int (nI j_4), .int (nI m_66), .int r_8, .int iF, .ref qd], zzB cy qab 250 fB]) hx hb hr hlocks (hP.sub [0, 1] rfl) (hD.sub [0, 1] (by decide +kernel) rfl) hS ⟨j_4, m_66, r_8, rfl, ⟨by omega, by omega⟩⟩ dX3_step_147
              exact lp_63 ((250 - j_4) + 1) j_4 (Nat.lt_succ_self _) (by omega) (by omega) _ _ ls hP hD hS (lv_sub hl [0, 1] rfl)
            · refine lv_iconst (v := 1) hx hb dX3_step_98 (by decide) ?_
              refine lv_goto (tgt := 103) hx hb dX3_step_99 (by decide) ?_
              refine lv_istore_n (lv' := [(1, .int 1), (0, .ref qa)]) hx hb dX3_step_103 rfl hl (by decide) rfl (fun ls => ?_)
              clear hl
              intro hl
              have lp_71 : ∀ (n_72 : Nat) (m_74 : Nat), 250 - m_74 < n_72 → j_4 ≤ m_74 → m_74 ≤ kZ → ∀ (H : Heap) (locs : List Loc) (ls : Array Slot), va_P G CL [zzO qa 2 [.ref qab, .int (nI kZ), .int (nI j_4), .int (nI m_74), .int r_8, .int iF, .ref qd], zzB cy qab 250 fB] H → va_D A [zzO qa 2 [.ref qab, .int (nI kZ), .int (nI j_4), .int (nI m_74), .int r_8, .int iF, .ref qd], zzB cy qab 250 fB] → va_S A s.heap H locs → lv_has ls 2 [(1, .int 1), (0, .ref qa)] → W p l e (Rm 2 0 0) s m (List.toArray (α := Value) [.ref qa]) below meth c H locs 0 0 (MQ below ((Wv G (fun u => ∃ (kX : Nat) (kY : Nat) (iX : Int32), u = [zzO qa 2 [.ref qab, .int (nI kZ), .int (nI kX), .int (nI kY), .int iX, .int iF, .ref qd], zzB cy qab 250 fB] ∧ (kX ≤ kY ∧ kY ≤ kZ))) A) (List.toArray (α := Value) [.ref qa]) s 0 0 A) (F0 m 104 ls []) := by
                intro n_72
                induction n_72 with
                | zero => intro m_74 hm9; exact absurd hm9 (Nat.not_lt_zero _)
                | succ n_72 ih_73 =>
                  intro m_74 hm_77 hm1_75 hm2_76 H locs ls hP hD hS hl
                  refine lv_iload_n hx hb dX3_step_104 rfl (lv_at hl 0 rfl) ?_
                  refine lv_if_eq (tgt := 147) hx hb dX3_step_105 (by decide) (fun h9 => absurd h9 (by decide)) (fun _ => ?_)
                  refine lv_aload_n hx hb dX3_step_108 rfl (lv_at hl 1 rfl) ?_
                  refine va_get (D := G) (ci := 2) (v := .int (nI m_74)) (C := RX3) (T := TX3) (N := 7) hx hb hts iX_X3 hown hK hP 0 rfl rfl 3 (by decide) (hts _ m_t152) (fun _ h9 => h9) rfl dX3_step_109 ?_
                  refine lv_aload_n hx hb dX3_step_112 rfl (lv_at hl 1 rfl) ?_
                  refine va_get (D := G) (ci := 2) (v := .int (nI kZ)) (C := RX3) (T := TX3) (N := 7) hx hb hts iX_X3 hown hK hP 0 rfl rfl 1 (by decide) (hts _ m_t149) (fun _ h9 => h9) rfl dX3_step_113 ?_
                  refine lv_icmp_ge (tgt := 147) hx hb dX3_step_116 (by decide) (fun c_79 => ?_) (fun c_79 => ?_)
                  · exact endV (u := [zzO qa 2 [.ref qab, .int (nI kZ), .int (nI j_4), .int (nI m_74), .int r_8, .int iF, .ref qd], zzB cy qab 250 fB]) hx hb hr hlocks (hP.sub [0, 1] rfl) (hD.sub [0, 1] (by decide +kernel) rfl) hS ⟨j_4, m_74, r_8, rfl, ⟨by omega, by omega⟩⟩ dX3_step_147
                  · have hlt_80 : m_74 < kZ := lp_lt rfl rfl (by omega) (by omega) c_79
                    refine lv_aload_n hx hb dX3_step_119 rfl (lv_at hl 1 rfl) ?_
                    refine lv_aload_n hx hb dX3_step_120 rfl (lv_at hl 1 rfl) ?_
                    refine va_get (D := G) (ci := 2) (v := .int (nI m_74)) (C := RX3) (T := TX3) (N := 7) hx hb hts iX_X3 hown hK hP 0 rfl rfl 3 (by decide) (hts _ m_t152) (fun _ h9 => h9) rfl dX3_step_121 ?_
                    refine kRi (rV (As := [.int (nI m_74)]) (rest := []) (b := qa) ⟨hx, hb, hml, hown, hts⟩ (c_X3_sortAt l G cy qa qab kZ j_4 m_74 r_8 iF qd fB m_74 hZ (by first | omega | (simp only [nb_sr, np_sr, nb_wr, np_wr, nb_rd, np_rd, nb_ch, np_ch, nb_zr, np_zr, nb_za, np_za, nb_ey, np_ey, nb_hf, np_hf, nb_dd, np_dd, nb_so, np_so, nb_skn, np_skn, nb_swh, np_swh, nb_sgn, np_sgn, nb_ssd, np_ssd, nb_sgo, np_sgo, nb_sag, np_sag]; omega))) L_X3_133 (preRV (q := (RX3, TX3, 7)) hN hP [0, 1] rfl 0 2 rfl rfl) rfl ⟨Nat.le_of_ble_eq_true rfl, Nat.le_of_ble_eq_true rfl⟩ hl.1 (Nat.le_of_ble_eq_true rfl) dX3_step_124 ⟨Nat.le_of_ble_eq_true rfl, Nat.le_of_ble_eq_true rfl⟩) (fun r_81 h_82 => ?_)
                    refine lv_aload_n hx hb dX3_step_127 rfl (lv_at hl 1 rfl) ?_
                    refine va_get (D := G) (ci := 2) (v := .int r_8) (C := RX3) (T := TX3) (N := 7) hx hb hts iX_X3 hown hK hP 0 rfl rfl 4 (by decide) (hts _ m_t153) (fun _ h9 => h9) rfl dX3_step_128 ?_
                    refine lv_icmp_ne (tgt := 147) hx hb dX3_step_131 (by decide) (fun c_83 => ?_) (fun c_83 => ?_)
                    · exact endV (u := [zzO qa 2 [.ref qab, .int (nI kZ), .int (nI j_4), .int (nI m_74), .int r_8, .int iF, .ref qd], zzB cy qab 250 fB]) hx hb hr hlocks (hP.sub [0, 1] rfl) (hD.sub [0, 1] (by decide +kernel) rfl) hS ⟨j_4, m_74, r_8, rfl, ⟨by omega, by omega⟩⟩ dX3_step_147
                    · refine lv_aload_n hx hb dX3_step_134 rfl (lv_at hl 1 rfl) ?_
                      refine lv_dup hx hb dX3_step_135 rfl ?_
                      refine va_get (D := G) (ci := 2) (v := .int (nI m_74)) (C := RX3) (T := TX3) (N := 7) hx hb hts iX_X3 hown hK hP 0 rfl rfl 3 (by decide) (hts _ m_t152) (fun _ h9 => h9) rfl dX3_step_136 ?_
                      refine lv_iconst (v := 1) hx hb dX3_step_139 (by decide) ?_
                      refine lv_iadd hx hb dX3_step_140 ?_
                      refine lv_seti (v := nI (m_74 + 1)) (nI_1 _) ?_
                      refine va_put (D := G) (ci := 2) (v := .int (nI (m_74 + 1))) (ty := .int) (C := RX3) (T := TX3) (N := 7) hx hb hts iX_X3 tyX3 tyX3_ok nmX3 hown hK hP hD hS 0 rfl rfl 3 (by decide) (hts _ m_t152) (fun _ h9 => h9) rfl (by decide +kernel) rfl rfl (Nat.le_of_ble_eq_true rfl) dX3_step_141 (fun H locs => ?_)
                      clear hP hD hS
                      intro hP hD hS
                      have hPD := pd_as [zzO qa 2 [.ref qab, .int (nI kZ), .int (nI j_4), .int (nI (m_74 + 1)), .int r_8, .int iF, .ref qd], zzB cy qab 250 fB] hP hD rfl
                      clear hP hD
                      obtain ⟨hP, hD⟩ := hPD
                      refine lv_goto (tgt := 104) hx hb dX3_step_144 (by decide) ?_
                      exact ih_73 (m_74 + 1) (by omega) (by omega) (by omega) _ _ _ hP hD hS (lv_sub hl [0, 1] rfl)
              exact lp_71 ((250 - j_4) + 1) j_4 (Nat.lt_succ_self _) (by omega) (by omega) _ _ ls hP hD hS (lv_sub hl [0, 1] rfl)
      · have hlt_84 : j_4 < kZ := lp_lt rfl rfl (by omega) (by omega) c_7
        refine lv_aload_n hx hb dX3_step_19 rfl (lv_at hl 0 rfl) ?_
        refine va_get (D := G) (ci := 2) (v := .ref qab) (C := RX3) (T := TX3) (N := 7) hx hb hts iX_X3 hown hK hP 0 rfl rfl 0 (by decide) (hts _ m_t148) (fun _ h9 => h9) rfl dX3_step_20 ?_
        refine lv_aload_n hx hb dX3_step_23 rfl (lv_at hl 0 rfl) ?_
        refine va_get (D := G) (ci := 2) (v := .int (nI j_4)) (C := RX3) (T := TX3) (N := 7) hx hb hts iX_X3 hown hK hP 0 rfl rfl 2 (by decide) (hts _ m_t151) (fun _ h9 => h9) rfl dX3_step_24 ?_
        refine va_bald hx hb hK hP 1 2 rfl rfl (vp_in_nI (by omega) (by omega)) dX3_step_27 ?_
        refine lv_seti (v := fB j_4) (congrArg fB (nI_clamp (by omega))) ?_
        refine lv_bipush (v := 32) hx hb dX3_step_28 (by decide) ?_
        refine lv_icmp_ne (tgt := 46) hx hb dX3_step_30 (by decide) (fun c_85 => ?_) (fun c_85 => ?_)
        · refine lv_aload_n hx hb dX3_step_46 rfl (lv_at hl 0 rfl) ?_
          refine lv_aload_n hx hb dX3_step_47 rfl (lv_at hl 0 rfl) ?_
          refine lv_aload_n hx hb dX3_step_48 rfl (lv_at hl 0 rfl) ?_
          refine va_get (D := G) (ci := 2) (v := .int (nI j_4)) (C := RX3) (T := TX3) (N := 7) hx hb hts iX_X3 hown hK hP 0 rfl rfl 2 (by decide) (hts _ m_t151) (fun _ h9 => h9) rfl dX3_step_49 ?_
          refine kRi (rV (As := [.int (nI j_4)]) (rest := [.ref qa]) (b := qa) ⟨hx, hb, hml, hown, hts⟩ (c_X3_sortAt l G cy qa qab kZ j_4 kE iT iF qd fB j_4 hZ (by first | omega | (simp only [nb_sr, np_sr, nb_wr, np_wr, nb_rd, np_rd, nb_ch, np_ch, nb_zr, np_zr, nb_za, np_za, nb_ey, np_ey, nb_hf, np_hf, nb_dd, np_dd, nb_so, np_so, nb_skn, np_skn, nb_swh, np_swh, nb_sgn, np_sgn, nb_ssd, np_ssd, nb_sgo, np_sgo, nb_sag, np_sag]; omega))) L_X3_133 (preRV (q := (RX3, TX3, 7)) hN hP [0, 1] rfl 0 2 rfl rfl) rfl ⟨Nat.le_of_ble_eq_true rfl, Nat.le_of_ble_eq_true rfl⟩ hl.1 (Nat.le_of_ble_eq_true rfl) dX3_step_52 ⟨Nat.le_of_ble_eq_true rfl, Nat.le_of_ble_eq_true rfl⟩) (fun r_86 h_87 => ?_)
          refine va_put (D := G) (ci := 2) (v := .int r_86) (ty := .int) (C := RX3) (T := TX3) (N := 7) hx hb hts iX_X3 tyX3 tyX3_ok nmX3 hown hK hP hD hS 0 rfl rfl 4 (by decide) (hts _ m_t153) (fun _ h9 => h9) rfl (by decide +kernel) rfl rfl (Nat.le_of_ble_eq_true rfl) dX3_step_55 (fun H locs => ?_)
          clear hP hD hS
          intro hP hD hS
          have hPD := pd_as [zzO qa 2 [.ref qab, .int (nI kZ), .int (nI j_4), .int (nI kE), .int r_86, .int iF, .ref qd], zzB cy qab 250 fB] hP hD rfl
          clear hP hD
          obtain ⟨hP, hD⟩ := hPD
          refine lv_aload_n hx hb dX3_step_58 rfl (lv_at hl 0 rfl) ?_
          refine lv_aload_n hx hb dX3_step_59 rfl (lv_at hl 0 rfl) ?_
          refine va_get (D := G) (ci := 2) (v := .int r_86) (C := RX3) (T := TX3) (N := 7) hx hb hts iX_X3 hown hK hP 0 rfl rfl 4 (by decide) (hts _ m_t153) (fun _ h9 => h9) rfl dX3_step_60 ?_
          refine lv_if_ne (tgt := 73) hx hb dX3_step_63 (by decide) (fun c_88 => ?_) (fun c_88 => ?_)
          · have hlt_89 : j_4 < kZ := h_87.resolve_left c_88
            refine lv_aload_n hx hb dX3_step_73 rfl (lv_at hl 0 rfl) ?_
            refine va_get (D := G) (ci := 2) (v := .int (nI j_4)) (C := RX3) (T := TX3) (N := 7) hx hb hts iX_X3 hown hK hP 0 rfl rfl 2 (by decide) (hts _ m_t151) (fun _ h9 => h9) rfl dX3_step_74 ?_
            refine lv_iconst (v := 1) hx hb dX3_step_77 (by decide) ?_
            refine lv_iadd hx hb dX3_step_78 ?_
            refine lv_seti (v := nI (j_4 + 1)) (nI_1 _) ?_
            refine va_put (D := G) (ci := 2) (v := .int (nI (j_4 + 1))) (ty := .int) (C := RX3) (T := TX3) (N := 7) hx hb hts iX_X3 tyX3 tyX3_ok nmX3 hown hK hP hD hS 0 rfl rfl 3 (by decide) (hts _ m_t152) (fun _ h9 => h9) rfl (by decide +kernel) rfl rfl (Nat.le_of_ble_eq_true rfl) dX3_step_79 (fun H locs => ?_)
            clear hP hD hS
            intro hP hD hS
            have hPD := pd_as [zzO qa 2 [.ref qab, .int (nI kZ), .int (nI j_4), .int (nI (j_4 + 1)), .int r_86, .int iF, .ref qd], zzB cy qab 250 fB] hP hD rfl
            clear hP hD
            obtain ⟨hP, hD⟩ := hPD
            refine lv_aload_n hx hb dX3_step_82 rfl (lv_at hl 0 rfl) ?_
            refine va_get (D := G) (ci := 2) (v := .int r_86) (C := RX3) (T := TX3) (N := 7) hx hb hts iX_X3 hown hK hP 0 rfl rfl 4 (by decide) (hts _ m_t153) (fun _ h9 => h9) rfl dX3_step_83 ?_
            refine lv_iconst (v := 1) hx hb dX3_step_86 (by decide) ?_
            refine lv_icmp_eq (tgt := 98) hx hb dX3_step_87 (by decide) (fun c_90 => ?_) (fun c_90 => ?_)
            · refine lv_iconst (v := 1) hx hb dX3_step_98 (by decide) ?_
              refine lv_goto (tgt := 103) hx hb dX3_step_99 (by decide) ?_
              refine lv_istore_n (lv' := [(1, .int 1), (0, .ref qa)]) hx hb dX3_step_103 rfl hl (by decide) rfl (fun ls => ?_)
              clear hl
              intro hl
              have lp_91 : ∀ (n_92 : Nat) (m_94 : Nat), 250 - m_94 < n_92 → j_4 ≤ m_94 → m_94 ≤ kZ → ∀ (H : Heap) (locs : List Loc) (ls : Array Slot), va_P G CL [zzO qa 2 [.ref qab, .int (nI kZ), .int (nI j_4), .int (nI m_94), .int r_86, .int iF, .ref qd], zzB cy qab 250 fB] H → va_D A [zzO qa 2 [.ref qab, .int (nI kZ), .int (nI j_4), .int (nI m_94), .int r_86, .int iF, .ref qd], zzB cy qab 250 fB] → va_S A s.heap H locs → lv_has ls 2 [(1, .int 1), (0, .ref qa)] → W p l e (Rm 2 0 0) s m (List.toArray (α := Value) [.ref qa]) below meth c H locs 0 0 (MQ below ((Wv G (fun u => ∃ (kX : Nat) (kY : Nat) (iX : Int32), u = [zzO qa 2 [.ref qab, .int (nI kZ), .int (nI kX), .int (nI kY), .int iX, .int iF, .ref qd], zzB cy qab 250 fB] ∧ (kX ≤ kY ∧ kY ≤ kZ))) A) (List.toArray (α := Value) [.ref qa]) s 0 0 A) (F0 m 104 ls []) := by
                intro n_92
                induction n_92 with
                | zero => intro m_94 hm9; exact absurd hm9 (Nat.not_lt_zero _)
                | succ n_92 ih_93 =>
                  intro m_94 hm_97 hm1_95 hm2_96 H locs ls hP hD hS hl
                  refine lv_iload_n hx hb dX3_step_104 rfl (lv_at hl 0 rfl) ?_
                  refine lv_if_eq (tgt := 147) hx hb dX3_step_105 (by decide) (fun h9 => absurd h9 (by decide)) (fun _ => ?_)
                  refine lv_aload_n hx hb dX3_step_108 rfl (lv_at hl 1 rfl) ?_
                  refine va_get (D := G) (ci := 2) (v := .int (nI m_94)) (C := RX3) (T := TX3) (N := 7) hx hb hts iX_X3 hown hK hP 0 rfl rfl 3 (by decide) (hts _ m_t152) (fun _ h9 => h9) rfl dX3_step_109 ?_
                  refine lv_aload_n hx hb dX3_step_112 rfl (lv_at hl 1 rfl) ?_
                  refine va_get (D := G) (ci := 2) (v := .int (nI kZ)) (C := RX3) (T := TX3) (N := 7) hx hb hts iX_X3 hown hK hP 0 rfl rfl 1 (by decide) (hts _ m_t149) (fun _ h9 => h9) rfl dX3_step_113 ?_
                  refine lv_icmp_ge (tgt := 147) hx hb dX3_step_116 (by decide) (fun c_99 => ?_) (fun c_99 => ?_)
                  · exact endV (u := [zzO qa 2 [.ref qab, .int (nI kZ), .int (nI j_4), .int (nI m_94), .int r_86, .int iF, .ref qd], zzB cy qab 250 fB]) hx hb hr hlocks (hP.sub [0, 1] rfl) (hD.sub [0, 1] (by decide +kernel) rfl) hS ⟨j_4, m_94, r_86, rfl, ⟨by omega, by omega⟩⟩ dX3_step_147
                  · have hlt_100 : m_94 < kZ := lp_lt rfl rfl (by omega) (by omega) c_99
                    refine lv_aload_n hx hb dX3_step_119 rfl (lv_at hl 1 rfl) ?_
                    refine lv_aload_n hx hb dX3_step_120 rfl (lv_at hl 1 rfl) ?_
                    refine va_get (D := G) (ci := 2) (v := .int (nI m_94)) (C := RX3) (T := TX3) (N := 7) hx hb hts iX_X3 hown hK hP 0 rfl rfl 3 (by decide) (hts _ m_t152) (fun _ h9 => h9) rfl dX3_step_121 ?_
                    refine kRi (rV (As := [.int (nI m_94)]) (rest := []) (b := qa) ⟨hx, hb, hml, hown, hts⟩ (c_X3_sortAt l G cy qa qab kZ j_4 m_94 r_86 iF qd fB m_94 hZ (by first | omega | (simp only [nb_sr, np_sr, nb_wr, np_wr, nb_rd, np_rd, nb_ch, np_ch, nb_zr, np_zr, nb_za, np_za, nb_ey, np_ey, nb_hf, np_hf, nb_dd, np_dd, nb_so, np_so, nb_skn, np_skn, nb_swh, np_swh, nb_sgn, np_sgn, nb_ssd, np_ssd, nb_sgo, np_sgo, nb_sag, np_sag]; omega))) L_X3_133 (preRV (q := (RX3, TX3, 7)) hN hP [0, 1] rfl 0 2 rfl rfl) rfl ⟨Nat.le_of_ble_eq_true rfl, Nat.le_of_ble_eq_true rfl⟩ hl.1 (Nat.le_of_ble_eq_true rfl) dX3_step_124 ⟨Nat.le_of_ble_eq_true rfl, Nat.le_of_ble_eq_true rfl⟩) (fun r_101 h_102 => ?_)
                    refine lv_aload_n hx hb dX3_step_127 rfl (lv_at hl 1 rfl) ?_
                    refine va_get (D := G) (ci := 2) (v := .int r_86) (C := RX3) (T := TX3) (N := 7) hx hb hts iX_X3 hown hK hP 0 rfl rfl 4 (by decide) (hts _ m_t153) (fun _ h9 => h9) rfl dX3_step_128 ?_
                    refine lv_icmp_ne (tgt := 147) hx hb dX3_step_131 (by decide) (fun c_103 => ?_) (fun c_103 => ?_)
                    · exact endV (u := [zzO qa 2 [.ref qab, .int (nI kZ), .int (nI j_4), .int (nI m_94), .int r_86, .int iF, .ref qd], zzB cy qab 250 fB]) hx hb hr hlocks (hP.sub [0, 1] rfl) (hD.sub [0, 1] (by decide +kernel) rfl) hS ⟨j_4, m_94, r_86, rfl, ⟨by omega, by omega⟩⟩ dX3_step_147
                    · refine lv_aload_n hx hb dX3_step_134 rfl (lv_at hl 1 rfl) ?_
                      refine lv_dup hx hb dX3_step_135 rfl ?_
                      refine va_get (D := G) (ci := 2) (v := .int (nI m_94)) (C := RX3) (T := TX3) (N := 7) hx hb hts iX_X3 hown hK hP 0 rfl rfl 3 (by decide) (hts _ m_t152) (fun _ h9 => h9) rfl dX3_step_136 ?_
                      refine lv_iconst (v := 1) hx hb dX3_step_139 (by decide) ?_
                      refine lv_iadd hx hb dX3_step_140 ?_
                      refine lv_seti (v := nI (m_94 + 1)) (nI_1 _) ?_
                      refine va_put (D := G) (ci := 2) (v := .int (nI (m_94 + 1))) (ty := .int) (C := RX3) (T := TX3) (N := 7) hx hb hts iX_X3 tyX3 tyX3_ok nmX3 hown hK hP hD hS 0 rfl rfl 3 (by decide) (hts _ m_t152) (fun _ h9 => h9) rfl (by decide +kernel) rfl rfl (Nat.le_of_ble_eq_true rfl) dX3_step_141 (fun H locs => ?_)
                      clear hP hD hS
                      intro hP hD hS
                      have hPD := pd_as [zzO qa 2 [.ref qab, .int (nI kZ), .int (nI j_4), .int (nI (m_94 + 1)), .int r_86, .int iF, .ref qd], zzB cy qab 250 fB] hP hD rfl
                      clear hP hD
                      obtain ⟨hP, hD⟩ := hPD
                      refine lv_goto (tgt := 104) hx hb dX3_step_144 (by decide) ?_
                      exact ih_93 (m_94 + 1) (by omega) (by omega) (by omega) _ _ _ hP hD hS (lv_sub hl [0, 1] rfl)
              exact lp_91 ((250 - (j_4 + 1)) + 1) (j_4 + 1) (Nat.lt_succ_self _) (by omega) (by omega) _ _ ls hP hD hS (lv_sub hl [0, 1] rfl)
            · refine lv_aload_n hx hb dX3_step_90 rfl (lv_at hl 0 rfl) ?_
              refine va_get (D := G) (ci := 2) (v := .int r_86) (C := RX3) (T := TX3) (N := 7) hx hb hts iX_X3 hown hK hP 0 rfl rfl 4 (by decide) (hts _ m_t153) (fun _ h9 => h9) rfl dX3_step_91 ?_
              refine lv_iconst (v := 2) hx hb dX3_step_94 (by decide) ?_
              refine lv_icmp_ne (tgt := 102) hx hb dX3_step_95 (by decide) (fun c_104 => ?_) (fun c_104 => ?_)
              · refine lv_iconst (v := 0) hx hb dX3_step_102 (by decide) ?_
                refine lv_istore_n (lv' := [(1, .int 0), (0, .ref qa)]) hx hb dX3_step_103 rfl hl (by decide) rfl (fun ls => ?_)
                clear hl
                intro hl
                have lp_105 : ∀ (n_106 : Nat) (m_108 : Nat), 250 - m_108 < n_106 → j_4 ≤ m_108 → m_108 ≤ kZ → ∀ (H : Heap) (locs : List Loc) (ls : Array Slot), va_P G CL [zzO qa 2 [.ref qab, .int (nI kZ), .int (nI j_4), .int (nI m_108), .int r_86, .int iF, .ref qd], zzB cy qab 250 fB] H → va_D A [zzO qa 2 [.ref qab, .int (nI kZ), .int (nI j_4), .int (nI m_108), .int r_86, .int iF, .ref qd], zzB cy qab 250 fB] → va_S A s.heap H locs → lv_has ls 2 [(1, .int 0), (0, .ref qa)] → W p l e (Rm 2 0 0) s m (List.toArray (α := Value) [.ref qa]) below meth c H locs 0 0 (MQ below ((Wv G (fun u => ∃ (kX : Nat) (kY : Nat) (iX : Int32), u = [zzO qa 2 [.ref qab, .int (nI kZ), .int (nI kX), .int (nI kY), .int iX, .int iF, .ref qd], zzB cy qab 250 fB] ∧ (kX ≤ kY ∧ kY ≤ kZ))) A) (List.toArray (α := Value) [.ref qa]) s 0 0 A) (F0 m 104 ls []) := by
                  intro n_106
                  induction n_106 with
                  | zero => intro m_108 hm9; exact absurd hm9 (Nat.not_lt_zero _)
                  | succ n_106 ih_107 =>
                    intro m_108 hm_111 hm1_109 hm2_110 H locs ls hP hD hS hl
                    refine lv_iload_n hx hb dX3_step_104 rfl (lv_at hl 0 rfl) ?_
                    refine lv_if_eq (tgt := 147) hx hb dX3_step_105 (by decide) (fun _ => ?_) (fun h9 => absurd (by decide) h9)
                    exact endV (u := [zzO qa 2 [.ref qab, .int (nI kZ), .int (nI j_4), .int (nI m_108), .int r_86, .int iF, .ref qd], zzB cy qab 250 fB]) hx hb hr hlocks (hP.sub [0, 1] rfl) (hD.sub [0, 1] (by decide +kernel) rfl) hS ⟨j_4, m_108, r_86, rfl, ⟨by omega, by omega⟩⟩ dX3_step_147
                exact lp_105 ((250 - (j_4 + 1)) + 1) (j_4 + 1) (Nat.lt_succ_self _) (by omega) (by omega) _ _ ls hP hD hS (lv_sub hl [0, 1] rfl)
              · refine lv_iconst (v := 1) hx hb dX3_step_98 (by decide) ?_
                refine lv_goto (tgt := 103) hx hb dX3_step_99 (by decide) ?_
                refine lv_istore_n (lv' := [(1, .int 1), (0, .ref qa)]) hx hb dX3_step_103 rfl hl (by decide) rfl (fun ls => ?_)
                clear hl
                intro hl
                have lp_113 : ∀ (n_114 : Nat) (m_116 : Nat), 250 - m_116 < n_114 → j_4 ≤ m_116 → m_116 ≤ kZ → ∀ (H : Heap) (locs : List Loc) (ls : Array Slot), va_P G CL [zzO qa 2 [.ref qab, .int (nI kZ), .int (nI j_4), .int (nI m_116), .int r_86, .int iF, .ref qd], zzB cy qab 250 fB] H → va_D A [zzO qa 2 [.ref qab, .int (nI kZ), .int (nI j_4), .int (nI m_116), .int r_86, .int iF, .ref qd], zzB cy qab 250 fB] → va_S A s.heap H locs → lv_has ls 2 [(1, .int 1), (0, .ref qa)] → W p l e (Rm 2 0 0) s m (List.toArray (α := Value) [.ref qa]) below meth c H locs 0 0 (MQ below ((Wv G (fun u => ∃ (kX : Nat) (kY : Nat) (iX : Int32), u = [zzO qa 2 [.ref qab, .int (nI kZ), .int (nI kX), .int (nI kY), .int iX, .int iF, .ref qd], zzB cy qab 250 fB] ∧ (kX ≤ kY ∧ kY ≤ kZ))) A) (List.toArray (α := Value) [.ref qa]) s 0 0 A) (F0 m 104 ls []) := by
                  intro n_114
                  induction n_114 with
                  | zero => intro m_116 hm9; exact absurd hm9 (Nat.not_lt_zero _)
                  | succ n_114 ih_115 =>
                    intro m_116 hm_119 hm1_117 hm2_118 H locs ls hP hD hS hl
                    refine lv_iload_n hx hb dX3_step_104 rfl (lv_at hl 0 rfl) ?_
                    refine lv_if_eq (tgt := 147) hx hb dX3_step_105 (by decide) (fun h9 => absurd h9 (by decide)) (fun _ => ?_)
                    refine lv_aload_n hx hb dX3_step_108 rfl (lv_at hl 1 rfl) ?_
                    refine va_get (D := G) (ci := 2) (v := .int (nI m_116)) (C := RX3) (T := TX3) (N := 7) hx hb hts iX_X3 hown hK hP 0 rfl rfl 3 (by decide) (hts _ m_t152) (fun _ h9 => h9) rfl dX3_step_109 ?_
                    refine lv_aload_n hx hb dX3_step_112 rfl (lv_at hl 1 rfl) ?_
                    refine va_get (D := G) (ci := 2) (v := .int (nI kZ)) (C := RX3) (T := TX3) (N := 7) hx hb hts iX_X3 hown hK hP 0 rfl rfl 1 (by decide) (hts _ m_t149) (fun _ h9 => h9) rfl dX3_step_113 ?_
                    refine lv_icmp_ge (tgt := 147) hx hb dX3_step_116 (by decide) (fun c_121 => ?_) (fun c_121 => ?_)
                    · exact endV (u := [zzO qa 2 [.ref qab, .int (nI kZ), .int (nI j_4), .int (nI m_116), .int r_86, .int iF, .ref qd], zzB cy qab 250 fB]) hx hb hr hlocks (hP.sub [0, 1] rfl) (hD.sub [0, 1] (by decide +kernel) rfl) hS ⟨j_4, m_116, r_86, rfl, ⟨by omega, by omega⟩⟩ dX3_step_147
                    · have hlt_122 : m_116 < kZ := lp_lt rfl rfl (by omega) (by omega) c_121
                      refine lv_aload_n hx hb dX3_step_119 rfl (lv_at hl 1 rfl) ?_
                      refine lv_aload_n hx hb dX3_step_120 rfl (lv_at hl 1 rfl) ?_
                      refine va_get (D := G) (ci := 2) (v := .int (nI m_116)) (C := RX3) (T := TX3) (N := 7) hx hb hts iX_X3 hown hK hP 0 rfl rfl 3 (by decide) (hts _ m_t152) (fun _ h9 => h9) rfl dX3_step_121 ?_
                      refine kRi (rV (As := [.int (nI m_116)]) (rest := []) (b := qa) ⟨hx, hb, hml, hown, hts⟩ (c_X3_sortAt l G cy qa qab kZ j_4 m_116 r_86 iF qd fB m_116 hZ (by first | omega | (simp only [nb_sr, np_sr, nb_wr, np_wr, nb_rd, np_rd, nb_ch, np_ch, nb_zr, np_zr, nb_za, np_za, nb_ey, np_ey, nb_hf, np_hf, nb_dd, np_dd, nb_so, np_so, nb_skn, np_skn, nb_swh, np_swh, nb_sgn, np_sgn, nb_ssd, np_ssd, nb_sgo, np_sgo, nb_sag, np_sag]; omega))) L_X3_133 (preRV (q := (RX3, TX3, 7)) hN hP [0, 1] rfl 0 2 rfl rfl) rfl ⟨Nat.le_of_ble_eq_true rfl, Nat.le_of_ble_eq_true rfl⟩ hl.1 (Nat.le_of_ble_eq_true rfl) dX3_step_124 ⟨Nat.le_of_ble_eq_true rfl, Nat.le_of_ble_eq_true rfl⟩) (fun r_123 h_124 => ?_)
                      refine lv_aload_n hx hb dX3_step_127 rfl (lv_at hl 1 rfl) ?_
                      refine va_get (D := G) (ci := 2) (v := .int r_86) (C := RX3) (T := TX3) (N := 7) hx hb hts iX_X3 hown hK hP 0 rfl rfl 4 (by decide) (hts _ m_t153) (fun _ h9 => h9) rfl dX3_step_128 ?_
                      refine lv_icmp_ne (tgt := 147) hx hb dX3_step_131 (by decide) (fun c_125 => ?_) (fun c_125 => ?_)
                      · exact endV (u := [zzO qa 2 [.ref qab, .int (nI kZ), .int (nI j_4), .int (nI m_116), .int r_86, .int iF, .ref qd], zzB cy qab 250 fB]) hx hb hr hlocks (hP.sub [0, 1] rfl) (hD.sub [0, 1] (by decide +kernel) rfl) hS ⟨j_4, m_116, r_86, rfl, ⟨by omega, by omega⟩⟩ dX3_step_147
                      · refine lv_aload_n hx hb dX3_step_134 rfl (lv_at hl 1 rfl) ?_
                        refine lv_dup hx hb dX3_step_135 rfl ?_
                        refine va_get (D := G) (ci := 2) (v := .int (nI m_116)) (C := RX3) (T := TX3) (N := 7) hx hb hts iX_X3 hown hK hP 0 rfl rfl 3 (by decide) (hts _ m_t152) (fun _ h9 => h9) rfl dX3_step_136 ?_
                        refine lv_iconst (v := 1) hx hb dX3_step_139 (by decide) ?_
                        refine lv_iadd hx hb dX3_step_140 ?_
                        refine lv_seti (v := nI (m_116 + 1)) (nI_1 _) ?_
                        refine va_put (D := G) (ci := 2) (v := .int (nI (m_116 + 1))) (ty := .int) (C := RX3) (T := TX3) (N := 7) hx hb hts iX_X3 tyX3 tyX3_ok nmX3 hown hK hP hD hS 0 rfl rfl 3 (by decide) (hts _ m_t152) (fun _ h9 => h9) rfl (by decide +kernel) rfl rfl (Nat.le_of_ble_eq_true rfl) dX3_step_141 (fun H locs => ?_)
                        clear hP hD hS
                        intro hP hD hS
                        have hPD := pd_as [zzO qa 2 [.ref qab, .int (nI kZ), .int (nI j_4), .int (nI (m_116 + 1)), .int r_86, .int iF, .ref qd], zzB cy qab 250 fB] hP hD rfl
                        clear hP hD
                        obtain ⟨hP, hD⟩ := hPD
                        refine lv_goto (tgt := 104) hx hb dX3_step_144 (by decide) ?_
                        exact ih_115 (m_116 + 1) (by omega) (by omega) (by omega) _ _ _ hP hD hS (lv_sub hl [0, 1] rfl)
                exact lp_113 ((250 - (j_4 + 1)) + 1) (j_4 + 1) (Nat.lt_succ_self _) (by omega) (by omega) _ _ ls hP hD hS (lv_sub hl [0, 1] rfl)
          · refine lv_aload_n hx hb dX3_step_66 rfl (lv_at hl 0 rfl) ?_
            refine va_get (D := G) (ci := 2) (v := .int (nI j_4)) (C := RX3) (T := TX3) (N := 7) hx hb hts iX_X3 hown hK hP 0 rfl rfl 2 (by decide) (hts _ m_t151) (fun _ h9 => h9) rfl dX3_step_67 ?_
            refine lv_goto (tgt := 79) hx hb dX3_step_70 (by decide) ?_
            refine va_put (D := G) (ci := 2) (v := .int (nI j_4)) (ty := .int) (C := RX3) (T := TX3) (N := 7) hx hb hts iX_X3 tyX3 tyX3_ok nmX3 hown hK hP hD hS 0 rfl rfl 3 (by decide) (hts _ m_t152) (fun _ h9 => h9) rfl (by decide +kernel) rfl rfl (Nat.le_of_ble_eq_true rfl) dX3_step_79 (fun H locs => ?_)
            clear hP hD hS
            intro hP hD hS
            have hPD := pd_as [zzO qa 2 [.ref qab, .int (nI kZ), .int (nI j_4), .int (nI j_4), .int r_86, .int iF, .ref qd], zzB cy qab 250 fB] hP hD rfl
            clear hP hD
            obtain ⟨hP, hD⟩ := hPD
            refine lv_aload_n hx hb dX3_step_82 rfl (lv_at hl 0 rfl) ?_
            refine va_get (D := G) (ci := 2) (v := .int r_86) (C := RX3) (T := TX3) (N := 7) hx hb hts iX_X3 hown hK hP 0 rfl rfl 4 (by decide) (hts _ m_t153) (fun _ h9 => h9) rfl dX3_step_83 ?_
            refine lv_iconst (v := 1) hx hb dX3_step_86 (by decide) ?_
            refine lv_icmp_eq (tgt := 98) hx hb dX3_step_87 (by decide) (fun c_126 => ?_) (fun c_126 => ?_)
            · refine lv_iconst (v := 1) hx hb dX3_step_98 (by decide) ?_
              refine lv_goto (tgt := 103) hx hb dX3_step_99 (by decide) ?_
              refine lv_istore_n (lv' := [(1, .int 1), (0, .ref qa)]) hx hb dX3_step_103 rfl hl (by decide) rfl (fun ls => ?_)
              clear hl
              intro hl
              have lp_127 : ∀ (n_128 : Nat) (m_130 : Nat), 250 - m_130 < n_128 → j_4 ≤ m_130 → m_130 ≤ kZ → ∀ (H : Heap) (locs : List Loc) (ls : Array Slot), va_P G CL [zzO qa 2 [.ref qab, .int (nI kZ), .int (nI j_4), .int (nI m_130), .int r_86, .int iF, .ref qd], zzB cy qab 250 fB] H → va_D A [zzO qa 2 [.ref qab, .int (nI kZ), .int (nI j_4), .int (nI m_130), .int r_86, .int iF, .ref qd], zzB cy qab 250 fB] → va_S A s.heap H locs → lv_has ls 2 [(1, .int 1), (0, .ref qa)] → W p l e (Rm 2 0 0) s m (List.toArray (α := Value) [.ref qa]) below meth c H locs 0 0 (MQ below ((Wv G (fun u => ∃ (kX : Nat) (kY : Nat) (iX : Int32), u = [zzO qa 2 [.ref qab, .int (nI kZ), .int (nI kX), .int (nI kY), .int iX, .int iF, .ref qd], zzB cy qab 250 fB] ∧ (kX ≤ kY ∧ kY ≤ kZ))) A) (List.toArray (α := Value) [.ref qa]) s 0 0 A) (F0 m 104 ls []) := by
                intro n_128
                induction n_128 with
                | zero => intro m_130 hm9; exact absurd hm9 (Nat.not_lt_zero _)
                | succ n_128 ih_129 =>
                  intro m_130 hm_133 hm1_131 hm2_132 H locs ls hP hD hS hl
                  refine lv_iload_n hx hb dX3_step_104 rfl (lv_at hl 0 rfl) ?_
                  refine lv_if_eq (tgt := 147) hx hb dX3_step_105 (by decide) (fun h9 => absurd h9 (by decide)) (fun _ => ?_)
                  refine lv_aload_n hx hb dX3_step_108 rfl (lv_at hl 1 rfl) ?_
                  refine va_get (D := G) (ci := 2) (v := .int (nI m_130)) (C := RX3) (T := TX3) (N := 7) hx hb hts iX_X3 hown hK hP 0 rfl rfl 3 (by decide) (hts _ m_t152) (fun _ h9 => h9) rfl dX3_step_109 ?_
                  refine lv_aload_n hx hb dX3_step_112 rfl (lv_at hl 1 rfl) ?_
                  refine va_get (D := G) (ci := 2) (v := .int (nI kZ)) (C := RX3) (T := TX3) (N := 7) hx hb hts iX_X3 hown hK hP 0 rfl rfl 1 (by decide) (hts _ m_t149) (fun _ h9 => h9) rfl dX3_step_113 ?_
                  refine lv_icmp_ge (tgt := 147) hx hb dX3_step_116 (by decide) (fun c_135 => ?_) (fun c_135 => ?_)
                  · exact endV (u := [zzO qa 2 [.ref qab, .int (nI kZ), .int (nI j_4), .int (nI m_130), .int r_86, .int iF, .ref qd], zzB cy qab 250 fB]) hx hb hr hlocks (hP.sub [0, 1] rfl) (hD.sub [0, 1] (by decide +kernel) rfl) hS ⟨j_4, m_130, r_86, rfl, ⟨by omega, by omega⟩⟩ dX3_step_147
                  · have hlt_136 : m_130 < kZ := lp_lt rfl rfl (by omega) (by omega) c_135
                    refine lv_aload_n hx hb dX3_step_119 rfl (lv_at hl 1 rfl) ?_
                    refine lv_aload_n hx hb dX3_step_120 rfl (lv_at hl 1 rfl) ?_
                    refine va_get (D := G) (ci := 2) (v := .int (nI m_130)) (C := RX3) (T := TX3) (N := 7) hx hb hts iX_X3 hown hK hP 0 rfl rfl 3 (by decide) (hts _ m_t152) (fun _ h9 => h9) rfl dX3_step_121 ?_
                    refine kRi (rV (As := [.int (nI m_130)]) (rest := []) (b := qa) ⟨hx, hb, hml, hown, hts⟩ (c_X3_sortAt l G cy qa qab kZ j_4 m_130 r_86 iF qd fB m_130 hZ (by first | omega | (simp only [nb_sr, np_sr, nb_wr, np_wr, nb_rd, np_rd, nb_ch, np_ch, nb_zr, np_zr, nb_za, np_za, nb_ey, np_ey, nb_hf, np_hf, nb_dd, np_dd, nb_so, np_so, nb_skn, np_skn, nb_swh, np_swh, nb_sgn, np_sgn, nb_ssd, np_ssd, nb_sgo, np_sgo, nb_sag, np_sag]; omega))) L_X3_133 (preRV (q := (RX3, TX3, 7)) hN hP [0, 1] rfl 0 2 rfl rfl) rfl ⟨Nat.le_of_ble_eq_true rfl, Nat.le_of_ble_eq_true rfl⟩ hl.1 (Nat.le_of_ble_eq_true rfl) dX3_step_124 ⟨Nat.le_of_ble_eq_true rfl, Nat.le_of_ble_eq_true rfl⟩) (fun r_137 h_138 => ?_)
                    refine lv_aload_n hx hb dX3_step_127 rfl (lv_at hl 1 rfl) ?_
                    refine va_get (D := G) (ci := 2) (v := .int r_86) (C := RX3) (T := TX3) (N := 7) hx hb hts iX_X3 hown hK hP 0 rfl rfl 4 (by decide) (hts _ m_t153) (fun _ h9 => h9) rfl dX3_step_128 ?_
                    refine lv_icmp_ne (tgt := 147) hx hb dX3_step_131 (by decide) (fun c_139 => ?_) (fun c_139 => ?_)
                    · exact endV (u := [zzO qa 2 [.ref qab, .int (nI kZ), .int (nI j_4), .int (nI m_130), .int r_86, .int iF, .ref qd], zzB cy qab 250 fB]) hx hb hr hlocks (hP.sub [0, 1] rfl) (hD.sub [0, 1] (by decide +kernel) rfl) hS ⟨j_4, m_130, r_86, rfl, ⟨by omega, by omega⟩⟩ dX3_step_147
                    · refine lv_aload_n hx hb dX3_step_134 rfl (lv_at hl 1 rfl) ?_
                      refine lv_dup hx hb dX3_step_135 rfl ?_
                      refine va_get (D := G) (ci := 2) (v := .int (nI m_130)) (C := RX3) (T := TX3) (N := 7) hx hb hts iX_X3 hown hK hP 0 rfl rfl 3 (by decide) (hts _ m_t152) (fun _ h9 => h9) rfl dX3_step_136 ?_
                      refine lv_iconst (v := 1) hx hb dX3_step_139 (by decide) ?_
                      refine lv_iadd hx hb dX3_step_140 ?_
                      refine lv_seti (v := nI (m_130 + 1)) (nI_1 _) ?_
                      refine va_put (D := G) (ci := 2) (v := .int (nI (m_130 + 1))) (ty := .int) (C := RX3) (T := TX3) (N := 7) hx hb hts iX_X3 tyX3 tyX3_ok nmX3 hown hK hP hD hS 0 rfl rfl 3 (by decide) (hts _ m_t152) (fun _ h9 => h9) rfl (by decide +kernel) rfl rfl (Nat.le_of_ble_eq_true rfl) dX3_step_141 (fun H locs => ?_)
                      clear hP hD hS
                      intro hP hD hS
                      have hPD := pd_as [zzO qa 2 [.ref qab, .int (nI kZ), .int (nI j_4), .int (nI (m_130 + 1)), .int r_86, .int iF, .ref qd], zzB cy qab 250 fB] hP hD rfl
                      clear hP hD
                      obtain ⟨hP, hD⟩ := hPD
                      refine lv_goto (tgt := 104) hx hb dX3_step_144 (by decide) ?_
                      exact ih_129 (m_130 + 1) (by omega) (by omega) (by omega) _ _ _ hP hD hS (lv_sub hl [0, 1] rfl)
              exact lp_127 ((250 - j_4) + 1) j_4 (Nat.lt_succ_self _) (by omega) (by omega) _ _ ls hP hD hS (lv_sub hl [0, 1] rfl)
            · refine lv_aload_n hx hb dX3_step_90 rfl (lv_at hl 0 rfl) ?_
              refine va_get (D := G) (ci := 2) (v := .int r_86) (C := RX3) (T := TX3) (N := 7) hx hb hts iX_X3 hown hK hP 0 rfl rfl 4 (by decide) (hts _ m_t153) (fun _ h9 => h9) rfl dX3_step_91 ?_
              refine lv_iconst (v := 2) hx hb dX3_step_94 (by decide) ?_
              refine lv_icmp_ne (tgt := 102) hx hb dX3_step_95 (by decide) (fun c_140 => ?_) (fun c_140 => ?_)
              · refine lv_iconst (v := 0) hx hb dX3_step_102 (by decide) ?_
                refine lv_istore_n (lv' := [(1, .int 0), (0, .ref qa)]) hx hb dX3_step_103 rfl hl (by decide) rfl (fun ls => ?_)
                clear hl
                intro hl
                have lp_141 : ∀ (n_142 : Nat) (m_144 : Nat), 250 - m_144 < n_142 → j_4 ≤ m_144 → m_144 ≤ kZ → ∀ (H : Heap) (locs : List Loc) (ls : Array Slot), va_P G CL [zzO qa 2 [.ref qab, .int (nI kZ), .int (nI j_4), .int (nI m_144), .int r_86, .int iF, .ref qd], zzB cy qab 250 fB] H → va_D A [zzO qa 2 [.ref qab, .int (nI kZ), .int (nI j_4), .int (nI m_144), .int r_86, .int iF, .ref qd], zzB cy qab 250 fB] → va_S A s.heap H locs → lv_has ls 2 [(1, .int 0), (0, .ref qa)] → W p l e (Rm 2 0 0) s m (List.toArray (α := Value) [.ref qa]) below meth c H locs 0 0 (MQ below ((Wv G (fun u => ∃ (kX : Nat) (kY : Nat) (iX : Int32), u = [zzO qa 2 [.ref qab, .int (nI kZ), .int (nI kX), .int (nI kY), .int iX, .int iF, .ref qd], zzB cy qab 250 fB] ∧ (kX ≤ kY ∧ kY ≤ kZ))) A) (List.toArray (α := Value) [.ref qa]) s 0 0 A) (F0 m 104 ls []) := by
                  intro n_142
                  induction n_142 with
                  | zero => intro m_144 hm9; exact absurd hm9 (Nat.not_lt_zero _)
                  | succ n_142 ih_143 =>
                    intro m_144 hm_147 hm1_145 hm2_146 H locs ls hP hD hS hl
                    refine lv_iload_n hx hb dX3_step_104 rfl (lv_at hl 0 rfl) ?_
                    refine lv_if_eq (tgt := 147) hx hb dX3_step_105 (by decide) (fun _ => ?_) (fun h9 => absurd (by decide) h9)
                    exact endV (u := [zzO qa 2 [.ref qab, .int (nI kZ), .int (nI j_4), .int (nI m_144), .int r_86, .int iF, .ref qd], zzB cy qab 250 fB]) hx hb hr hlocks (hP.sub [0, 1] rfl) (hD.sub [0, 1] (by decide +kernel) rfl) hS ⟨j_4, m_144, r_86, rfl, ⟨by omega, by omega⟩⟩ dX3_step_147
                exact lp_141 ((250 - j_4) + 1) j_4 (Nat.lt_succ_self _) (by omega) (by omega) _ _ ls hP hD hS (lv_sub hl [0, 1] rfl)
              · refine lv_iconst (v := 1) hx hb dX3_step_98 (by decide) ?_
                refine lv_goto (tgt := 103) hx hb dX3_step_99 (by decide) ?_
                refine lv_istore_n (lv' := [(1, .int 1), (0, .ref qa)]) hx hb dX3_step_103 rfl hl (by decide) rfl (fun ls => ?_)
                clear hl
                intro hl
                have lp_149 : ∀ (n_150 : Nat) (m_152 : Nat), 250 - m_152 < n_150 → j_4 ≤ m_152 → m_152 ≤ kZ → ∀ (H : Heap) (locs : List Loc) (ls : Array Slot), va_P G CL [zzO qa 2 [.ref qab, .int (nI kZ), .int (nI j_4), .int (nI m_152), .int r_86, .int iF, .ref qd], zzB cy qab 250 fB] H → va_D A [zzO qa 2 [.ref qab, .int (nI kZ), .int (nI j_4), .int (nI m_152), .int r_86, .int iF, .ref qd], zzB cy qab 250 fB] → va_S A s.heap H locs → lv_has ls 2 [(1, .int 1), (0, .ref qa)] → W p l e (Rm 2 0 0) s m (List.toArray (α := Value) [.ref qa]) below meth c H locs 0 0 (MQ below ((Wv G (fun u => ∃ (kX : Nat) (kY : Nat) (iX : Int32), u = [zzO qa 2 [.ref qab, .int (nI kZ), .int (nI kX), .int (nI kY), .int iX, .int iF, .ref qd], zzB cy qab 250 fB] ∧ (kX ≤ kY ∧ kY ≤ kZ))) A) (List.toArray (α := Value) [.ref qa]) s 0 0 A) (F0 m 104 ls []) := by
                  intro n_150
                  induction n_150 with
                  | zero => intro m_152 hm9; exact absurd hm9 (Nat.not_lt_zero _)
                  | succ n_150 ih_151 =>
                    intro m_152 hm_155 hm1_153 hm2_154 H locs ls hP hD hS hl
                    refine lv_iload_n hx hb dX3_step_104 rfl (lv_at hl 0 rfl) ?_
                    refine lv_if_eq (tgt := 147) hx hb dX3_step_105 (by decide) (fun h9 => absurd h9 (by decide)) (fun _ => ?_)
                    refine lv_aload_n hx hb dX3_step_108 rfl (lv_at hl 1 rfl) ?_
                    refine va_get (D := G) (ci := 2) (v := .int (nI m_152)) (C := RX3) (T := TX3) (N := 7) hx hb hts iX_X3 hown hK hP 0 rfl rfl 3 (by decide) (hts _ m_t152) (fun _ h9 => h9) rfl dX3_step_109 ?_
                    refine lv_aload_n hx hb dX3_step_112 rfl (lv_at hl 1 rfl) ?_
                    refine va_get (D := G) (ci := 2) (v := .int (nI kZ)) (C := RX3) (T := TX3) (N := 7) hx hb hts iX_X3 hown hK hP 0 rfl rfl 1 (by decide) (hts _ m_t149) (fun _ h9 => h9) rfl dX3_step_113 ?_
                    refine lv_icmp_ge (tgt := 147) hx hb dX3_step_116 (by decide) (fun c_157 => ?_) (fun c_157 => ?_)
                    · exact endV (u := [zzO qa 2 [.ref qab, .int (nI kZ), .int (nI j_4), .int (nI m_152), .int r_86, .int iF, .ref qd], zzB cy qab 250 fB]) hx hb hr hlocks (hP.sub [0, 1] rfl) (hD.sub [0, 1] (by decide +kernel) rfl) hS ⟨j_4, m_152, r_86, rfl, ⟨by omega, by omega⟩⟩ dX3_step_147
                    · have hlt_158 : m_152 < kZ := lp_lt rfl rfl (by omega) (by omega) c_157
                      refine lv_aload_n hx hb dX3_step_119 rfl (lv_at hl 1 rfl) ?_
                      refine lv_aload_n hx hb dX3_step_120 rfl (lv_at hl 1 rfl) ?_
                      refine va_get (D := G) (ci := 2) (v := .int (nI m_152)) (C := RX3) (T := TX3) (N := 7) hx hb hts iX_X3 hown hK hP 0 rfl rfl 3 (by decide) (hts _ m_t152) (fun _ h9 => h9) rfl dX3_step_121 ?_
                      refine kRi (rV (As := [.int (nI m_152)]) (rest := []) (b := qa) ⟨hx, hb, hml, hown, hts⟩ (c_X3_sortAt l G cy qa qab kZ j_4 m_152 r_86 iF qd fB m_152 hZ (by first | omega | (simp only [nb_sr, np_sr, nb_wr, np_wr, nb_rd, np_rd, nb_ch, np_ch, nb_zr, np_zr, nb_za, np_za, nb_ey, np_ey, nb_hf, np_hf, nb_dd, np_dd, nb_so, np_so, nb_skn, np_skn, nb_swh, np_swh, nb_sgn, np_sgn, nb_ssd, np_ssd, nb_sgo, np_sgo, nb_sag, np_sag]; omega))) L_X3_133 (preRV (q := (RX3, TX3, 7)) hN hP [0, 1] rfl 0 2 rfl rfl) rfl ⟨Nat.le_of_ble_eq_true rfl, Nat.le_of_ble_eq_true rfl⟩ hl.1 (Nat.le_of_ble_eq_true rfl) dX3_step_124 ⟨Nat.le_of_ble_eq_true rfl, Nat.le_of_ble_eq_true rfl⟩) (fun r_159 h_160 => ?_)
                      refine lv_aload_n hx hb dX3_step_127 rfl (lv_at hl 1 rfl) ?_
                      refine va_get (D := G) (ci := 2) (v := .int r_86) (C := RX3) (T := TX3) (N := 7) hx hb hts iX_X3 hown hK hP 0 rfl rfl 4 (by decide) (hts _ m_t153) (fun _ h9 => h9) rfl dX3_step_128 ?_
                      refine lv_icmp_ne (tgt := 147) hx hb dX3_step_131 (by decide) (fun c_161 => ?_) (fun c_161 => ?_)
                      · exact endV (u := [zzO qa 2 [.ref qab, .int (nI kZ), .int (nI j_4), .int (nI m_152), .int r_86, .int iF, .ref qd], zzB cy qab 250 fB]) hx hb hr hlocks (hP.sub [0, 1] rfl) (hD.sub [0, 1] (by decide +kernel) rfl) hS ⟨j_4, m_152, r_86, rfl, ⟨by omega, by omega⟩⟩ dX3_step_147
                      · refine lv_aload_n hx hb dX3_step_134 rfl (lv_at hl 1 rfl) ?_
                        refine lv_dup hx hb dX3_step_135 rfl ?_
                        refine va_get (D := G) (ci := 2) (v := .int (nI m_152)) (C := RX3) (T := TX3) (N := 7) hx hb hts iX_X3 hown hK hP 0 rfl rfl 3 (by decide) (hts _ m_t152) (fun _ h9 => h9) rfl dX3_step_136 ?_
                        refine lv_iconst (v := 1) hx hb dX3_step_139 (by decide) ?_
                        refine lv_iadd hx hb dX3_step_140 ?_
                        refine lv_seti (v := nI (m_152 + 1)) (nI_1 _) ?_
                        refine va_put (D := G) (ci := 2) (v := .int (nI (m_152 + 1))) (ty := .int) (C := RX3) (T := TX3) (N := 7) hx hb hts iX_X3 tyX3 tyX3_ok nmX3 hown hK hP hD hS 0 rfl rfl 3 (by decide) (hts _ m_t152) (fun _ h9 => h9) rfl (by decide +kernel) rfl rfl (Nat.le_of_ble_eq_true rfl) dX3_step_141 (fun H locs => ?_)
                        clear hP hD hS
                        intro hP hD hS
                        have hPD := pd_as [zzO qa 2 [.ref qab, .int (nI kZ), .int (nI j_4), .int (nI (m_152 + 1)), .int r_86, .int iF, .ref qd], zzB cy qab 250 fB] hP hD rfl
                        clear hP hD
                        obtain ⟨hP, hD⟩ := hPD
                        refine lv_goto (tgt := 104) hx hb dX3_step_144 (by decide) ?_
                        exact ih_151 (m_152 + 1) (by omega) (by omega) (by omega) _ _ _ hP hD hS (lv_sub hl [0, 1] rfl)
                exact lp_149 ((250 - j_4) + 1) j_4 (Nat.lt_succ_self _) (by omega) (by omega) _ _ ls hP hD hS (lv_sub hl [0, 1] rfl)
        · refine lv_aload_n hx hb dX3_step_33 rfl (lv_at hl 0 rfl) ?_
          refine lv_dup hx hb dX3_step_34 rfl ?_
          refine va_get (D := G) (ci := 2) (v := .int (nI j_4)) (C := RX3) (T := TX3) (N := 7) hx hb hts iX_X3 hown hK hP 0 rfl rfl 2 (by decide) (hts _ m_t151) (fun _ h9 => h9) rfl dX3_step_35 ?_
          refine lv_iconst (v := 1) hx hb dX3_step_38 (by decide) ?_
          refine lv_iadd hx hb dX3_step_39 ?_
          refine lv_seti (v := nI (j_4 + 1)) (nI_1 _) ?_
          refine va_put (D := G) (ci := 2) (v := .int (nI (j_4 + 1))) (ty := .int) (C := RX3) (T := TX3) (N := 7) hx hb hts iX_X3 tyX3 tyX3_ok nmX3 hown hK hP hD hS 0 rfl rfl 2 (by decide) (hts _ m_t151) (fun _ h9 => h9) rfl (by decide +kernel) rfl rfl (Nat.le_of_ble_eq_true rfl) dX3_step_40 (fun H locs => ?_)
          clear hP hD hS
          intro hP hD hS
          have hPD := pd_as [zzO qa 2 [.ref qab, .int (nI kZ), .int (nI (j_4 + 1)), .int (nI kE), .int iT, .int iF, .ref qd], zzB cy qab 250 fB] hP hD rfl
          clear hP hD
          obtain ⟨hP, hD⟩ := hPD
          refine lv_goto (tgt := 8) hx hb dX3_step_43 (by decide) ?_
          exact ih_3 (j_4 + 1) (by omega) (by omega) _ _ _ hP hD hS (lv_sub hl [0] rfl)
  exact lp_1 ((250 - kE) + 1) kE (Nat.lt_succ_self _) hE _ _ ls hP hD hS (lv_sub hl [0] rfl)
set_option maxHeartbeats 4000000 in
set_option maxRecDepth 100000 in
theorem c_X3_fail (l : Launch) (G : va_G) (cy : Nat → ClassId) (sz : Nat) (qa : Nat) (qab : Nat) (kZ : Nat) (kS : Nat) (kE : Nat) (iT : Int32) (iF : Int32) (qd : Nat)  (hZ : kZ ≤ 250) (hE : kS ≤ kE ∧ kE ≤ kZ) : MW l yX3_fail cX3_fail 1 none 1 0 0 G cy [zzO qa 2 [.ref qab, .int (nI kZ), .int (nI kS), .int (nI kE), .int iT, .int iF, .ref qd]] sz [.ref qa] (Wv G (fun u => ∃ (iX : Int32), u = [zzO qa 2 [.ref qab, .int (nI kZ), .int (nI kS), .int (nI kE), .int iT, .int iX, .ref qd]] ∧ (¬ iX = -1))) := by
  refine enW RX3 (by decide) rfl (Nat.le_of_ble_eq_true rfl) (fun p e s m below meth c ls A hx hb hml hown hts hr hlocks hP hN hl hin hD hA hS => ?_)
  have hin : meth.name = _ := hin
  have hK := hN.1
  replace hl : lv_has ls 1 [(0, .ref qa)] := hl
  refine lv_aload_n hx hb dX3_fail_0 rfl (lv_at hl 0 rfl) ?_
  refine va_get (D := G) (ci := 2) (v := .int iF) (C := RX3) (T := TX3) (N := 7) hx hb hts iX_X3 hown hK hP 0 rfl rfl 5 (by decide) (hts _ m_t154) (fun _ h9 => h9) rfl dX3_fail_1 ?_
  refine lv_iconst (v := (-1)) hx hb dX3_fail_4 (by decide) ?_
  refine lv_icmp_ne (tgt := 16) hx hb dX3_fail_5 (by decide) (fun c_1 => ?_) (fun c_1 => ?_)
  · exact endV (u := [zzO qa 2 [.ref qab, .int (nI kZ), .int (nI kS), .int (nI kE), .int iT, .int iF, .ref qd]]) hx hb hr hlocks (hP.sub [0] rfl) (hD.sub [0] (by decide +kernel) rfl) hS ⟨iF, rfl, c_1⟩ dX3_fail_16
  · refine lv_aload_n hx hb dX3_fail_8 rfl (lv_at hl 0 rfl) ?_
    refine lv_aload_n hx hb dX3_fail_9 rfl (lv_at hl 0 rfl) ?_
    refine va_get (D := G) (ci := 2) (v := .int (nI kS)) (C := RX3) (T := TX3) (N := 7) hx hb hts iX_X3 hown hK hP 0 rfl rfl 2 (by decide) (hts _ m_t151) (fun _ h9 => h9) rfl dX3_fail_10 ?_
    refine va_put (D := G) (ci := 2) (v := .int (nI kS)) (ty := .int) (C := RX3) (T := TX3) (N := 7) hx hb hts iX_X3 tyX3 tyX3_ok nmX3 hown hK hP hD hS 0 rfl rfl 5 (by decide) (hts _ m_t154) (fun _ h9 => h9) rfl (by decide +kernel) rfl rfl (Nat.le_of_ble_eq_true rfl) dX3_fail_13 (fun H locs => ?_)
    clear hP hD hS
    intro hP hD hS
    have hPD := pd_as [zzO qa 2 [.ref qab, .int (nI kZ), .int (nI kS), .int (nI kE), .int iT, .int (nI kS), .ref qd]] hP hD rfl
    clear hP hD
    obtain ⟨hP, hD⟩ := hPD
    exact endV (u := [zzO qa 2 [.ref qab, .int (nI kZ), .int (nI kS), .int (nI kE), .int iT, .int (nI kS), .ref qd]]) hx hb hr hlocks (hP.sub [0] rfl) (hD.sub [0] (by decide +kernel) rfl) hS ⟨nI kS, rfl, (nI_ne1' (by omega))⟩ dX3_fail_16
set_option maxHeartbeats 4000000 in
set_option maxRecDepth 100000 in
theorem c_X3_numberThere (l : Launch) (G : va_G) (cy : Nat → ClassId) (qa : Nat) (qab : Nat) (kZ : Nat) (kS : Nat) (kE : Nat) (iT : Int32) (iF : Int32) (qd : Nat) (fB : Nat → Int32)  (hZ : kZ ≤ 250) (hE : kS ≤ kE ∧ kE ≤ kZ) : MR l yX3_numberThere cX3_numberThere 3 (some .int) 1 G cy [zzO qa 2 [.ref qab, .int (nI kZ), .int (nI kS), .int (nI kE), .int iT, .int iF, .ref qd], zzB cy qab 250 fB] [.ref qa] (vp_Si (fun r => True)) := by
  refine enR RX3 (by decide) rfl (Nat.le_of_ble_eq_true rfl) (fun p e s m below meth c ls hx hb hml hown hts hr hlocks hP hN hl => ?_)
  have hK := hN.1
  replace hl : lv_has ls 3 [(0, .ref qa)] := hl
  refine lv_aload_n hx hb dX3_numberThere_0 rfl (lv_at hl 0 rfl) ?_
  refine va_get (D := G) (ci := 2) (v := .int iT) (C := RX3) (T := TX3) (N := 7) hx hb hts iX_X3 hown hK hP 0 rfl rfl 4 (by decide) (hts _ m_t153) (fun _ h9 => h9) rfl dX3_numberThere_1 ?_
  refine lv_iconst (v := 2) hx hb dX3_numberThere_4 (by decide) ?_
  refine lv_icmp_ne (tgt := 21) hx hb dX3_numberThere_5 (by decide) (fun c_1 => ?_) (fun c_1 => ?_)
  · refine lv_iconst (v := (-1)) hx hb dX3_numberThere_21 (by decide) ?_
    exact endR hx hb hr hlocks rfl trivial dX3_numberThere_22
  · refine lv_aload_n hx hb dX3_numberThere_8 rfl (lv_at hl 0 rfl) ?_
    refine va_get (D := G) (ci := 2) (v := .int (nI kE)) (C := RX3) (T := TX3) (N := 7) hx hb hts iX_X3 hown hK hP 0 rfl rfl 3 (by decide) (hts _ m_t152) (fun _ h9 => h9) rfl dX3_numberThere_9 ?_
    refine lv_aload_n hx hb dX3_numberThere_12 rfl (lv_at hl 0 rfl) ?_
    refine va_get (D := G) (ci := 2) (v := .int (nI kS)) (C := RX3) (T := TX3) (N := 7) hx hb hts iX_X3 hown hK hP 0 rfl rfl 2 (by decide) (hts _ m_t151) (fun _ h9 => h9) rfl dX3_numberThere_13 ?_
    refine lv_isub hx hb dX3_numberThere_16 ?_
    refine lv_iconst (v := 3) hx hb dX3_numberThere_17 (by decide) ?_
    refine lv_icmp_le (tgt := 23) hx hb dX3_numberThere_18 (by decide) (fun c_2 => ?_) (fun c_2 => ?_)
    · refine lv_iconst (v := 0) hx hb dX3_numberThere_23 (by decide) ?_
      refine lv_istore_n (lv' := [(1, .int 0), (0, .ref qa)]) hx hb dX3_numberThere_24 rfl hl (by decide) rfl (fun ls => ?_)
      clear hl
      intro hl
      refine lv_aload_n hx hb dX3_numberThere_25 rfl (lv_at hl 1 rfl) ?_
      refine va_get (D := G) (ci := 2) (v := .int (nI kS)) (C := RX3) (T := TX3) (N := 7) hx hb hts iX_X3 hown hK hP 0 rfl rfl 2 (by decide) (hts _ m_t151) (fun _ h9 => h9) rfl dX3_numberThere_26 ?_
      refine lv_istore_n (lv' := [(2, .int (nI kS)), (1, .int 0), (0, .ref qa)]) hx hb dX3_numberThere_29 rfl hl (by decide) rfl (fun ls => ?_)
      clear hl
      intro hl
      have lp_3 : ∀ (n_4 : Nat) (j_6 : Nat) (xV_7 : Int32), 250 - j_6 < n_4 → kS ≤ j_6 → j_6 ≤ kE → ∀ (ls : Array Slot), lv_has ls 3 [(2, .int (nI j_6)), (1, .int xV_7), (0, .ref qa)] → W p l e (Rm 1 0 0) s m (List.toArray (α := Value) [.ref qa]) below meth c s.heap [] 0 0 (MQ below (vp_Si (fun r => True)) (List.toArray (α := Value) [.ref qa]) s 0 0 (fun _ => False)) (F0 m 30 ls []) := by
        intro n_4
        induction n_4 with
        | zero => intro j_6 xV_7 hm9; exact absurd hm9 (Nat.not_lt_zero _)
        | succ n_4 ih_5 =>
          intro j_6 xV_7 hm_10 hj1_8 hj2_9 ls hl
          refine lv_iload_n hx hb dX3_numberThere_30 rfl (lv_at hl 0 rfl) ?_
          refine lv_aload_n hx hb dX3_numberThere_31 rfl (lv_at hl 2 rfl) ?_
          refine va_get (D := G) (ci := 2) (v := .int (nI kE)) (C := RX3) (T := TX3) (N := 7) hx hb hts iX_X3 hown hK hP 0 rfl rfl 3 (by decide) (hts _ m_t152) (fun _ h9 => h9) rfl dX3_numberThere_32 ?_
          refine lv_icmp_ge (tgt := 59) hx hb dX3_numberThere_35 (by decide) (fun c_11 => ?_) (fun c_11 => ?_)
          · refine lv_iload_n hx hb dX3_numberThere_59 rfl (lv_at hl 1 rfl) ?_
            exact endR hx hb hr hlocks rfl trivial dX3_numberThere_60
          · have hlt_12 : j_6 < kE := lp_lt rfl rfl (by omega) (by omega) c_11
            refine lv_bipush (v := 10) hx hb dX3_numberThere_38 (by decide) ?_
            refine lv_iload_n hx hb dX3_numberThere_40 rfl (lv_at hl 1 rfl) ?_
            refine lv_imul hx hb dX3_numberThere_41 ?_
            refine lv_aload_n hx hb dX3_numberThere_42 rfl (lv_at hl 2 rfl) ?_
            refine va_get (D := G) (ci := 2) (v := .ref qab) (C := RX3) (T := TX3) (N := 7) hx hb hts iX_X3 hown hK hP 0 rfl rfl 0 (by decide) (hts _ m_t148) (fun _ h9 => h9) rfl dX3_numberThere_43 ?_
            refine lv_iload_n hx hb dX3_numberThere_46 rfl (lv_at hl 0 rfl) ?_
            refine va_bald hx hb hK hP 1 2 rfl rfl (vp_in_nI (by omega) (by omega)) dX3_numberThere_47 ?_
            refine lv_seti (v := fB j_6) (congrArg fB (nI_clamp (by omega))) ?_
            refine lv_iadd hx hb dX3_numberThere_48 ?_
            refine lv_bipush (v := 48) hx hb dX3_numberThere_49 (by decide) ?_
            refine lv_isub hx hb dX3_numberThere_51 ?_
            refine lv_istore_n (lv' := [(1, .int (((10 * xV_7) + (fB j_6)) - 48)), (2, .int (nI j_6)), (0, .ref qa)]) hx hb dX3_numberThere_52 rfl hl (by decide) rfl (fun ls => ?_)
            clear hl
            intro hl
            refine lv_iinc (v := nI (j_6 + 1)) (lv' := [(2, .int (nI (j_6 + 1))), (1, .int (((10 * xV_7) + (fB j_6)) - 48)), (0, .ref qa)]) hx hb dX3_numberThere_53 hl (k := 1) rfl (nI_1 _) (by decide) rfl (fun ls => ?_)
            clear hl
            intro hl
            refine lv_goto (tgt := 30) hx hb dX3_numberThere_56 (by decide) ?_
            exact ih_5 (j_6 + 1) (((10 * xV_7) + (fB j_6)) - 48) (by omega) (by omega) (by omega) _ (lv_sub hl [0, 1, 2] rfl)
      exact lp_3 ((250 - kS) + 1) kS 0 (Nat.lt_succ_self _) (Nat.le_refl _) hE.1 ls (lv_sub hl [0, 1, 2] rfl)
    · refine lv_iconst (v := (-1)) hx hb dX3_numberThere_21 (by decide) ?_
      exact endR hx hb hr hlocks rfl trivial dX3_numberThere_22
set_option maxHeartbeats 4000000 in
set_option maxRecDepth 100000 in
theorem c_X3_isWord (l : Launch) (G : va_G) (cy : Nat → ClassId) (qa : Nat) (qab : Nat) (kZ : Nat) (kS : Nat) (kE : Nat) (iT : Int32) (iF : Int32) (qd : Nat) (fB : Nat → Int32) (qw : Nat) (lB : List Int32) (qvv : Nat)  (hZ : kZ ≤ 250) (hE : kS ≤ kE ∧ kE ≤ kZ) (hbs : lB.length ≤ 5) (hAs : ∀ k, k < lB.length → ∃ n : Nat, n < 128 ∧ lB.getD k 0 = nI n) : MRX l yX3_isWord cX3_isWord 3 (some .boolean) 5 G cy (SF lB qw qvv) [zzO qa 2 [.ref qab, .int (nI kZ), .int (nI kS), .int (nI kE), .int iT, .int iF, .ref qd], zzB cy qab 250 fB] [.ref qa, .ref qw] (vp_Si (fun r => (r = 1) ∨ (r = 0))) := by
  refine enRX RX3 (by decide) rfl (Nat.le_of_ble_eq_true rfl) (fun p e s m below meth c ls hx hb hml hown hts hr hlocks hP hN hl hX => ?_)
  have hK := hN.1
  replace hl : lv_has ls 3 [(0, .ref qa), (1, .ref qw)] := hl
  refine lv_aload_n hx hb dX3_isWord_0 rfl (lv_at hl 0 rfl) ?_
  refine va_get (D := G) (ci := 2) (v := .int iT) (C := RX3) (T := TX3) (N := 7) hx hb hts iX_X3 hown hK hP 0 rfl rfl 4 (by decide) (hts _ m_t153) (fun _ h9 => h9) rfl dX3_isWord_1 ?_
  refine lv_iconst (v := 1) hx hb dX3_isWord_4 (by decide) ?_
  refine lv_icmp_ne (tgt := 24) hx hb dX3_isWord_5 (by decide) (fun c_1 => ?_) (fun c_1 => ?_)
  · refine lv_iconst (v := 0) hx hb dX3_isWord_24 (by decide) ?_
    exact endR hx hb hr hlocks rfl (Or.inr rfl) dX3_isWord_25
  · refine lv_aload_n hx hb dX3_isWord_8 rfl (lv_at hl 0 rfl) ?_
    refine va_get (D := G) (ci := 2) (v := .int (nI kE)) (C := RX3) (T := TX3) (N := 7) hx hb hts iX_X3 hown hK hP 0 rfl rfl 3 (by decide) (hts _ m_t152) (fun _ h9 => h9) rfl dX3_isWord_9 ?_
    refine lv_aload_n hx hb dX3_isWord_12 rfl (lv_at hl 0 rfl) ?_
    refine va_get (D := G) (ci := 2) (v := .int (nI kS)) (C := RX3) (T := TX3) (N := 7) hx hb hts iX_X3 hown hK hP 0 rfl rfl 2 (by decide) (hts _ m_t151) (fun _ h9 => h9) rfl dX3_isWord_13 ?_
    refine lv_isub hx hb dX3_isWord_16 ?_
    refine lv_aload_n hx hb dX3_isWord_17 rfl (lv_at hl 1 rfl) ?_
    refine kRi (rV (As := []) (rest := [.int ((nI kE) - (nI kS))]) (b := qw) ⟨hx, hb, hml, hown, hts⟩ (j_length l G cy lB qw qvv) L_X3_124 (preRVS hN hX va_S.rf) rfl ⟨Nat.le_of_ble_eq_true rfl, Nat.le_of_ble_eq_true rfl⟩ hl.1 (Nat.le_of_ble_eq_true rfl) dX3_isWord_18 ⟨Nat.le_of_ble_eq_true rfl, Nat.le_of_ble_eq_true rfl⟩) (fun r_2 h_3 => ?_)
    subst h_3
    refine lv_icmp_eq (tgt := 26) hx hb dX3_isWord_21 (by decide) (fun c_4 => ?_) (fun c_4 => ?_)
    · have hEn : kE = kS + lB.length := wd_len (by omega) (by omega) (by omega) c_4
      refine lv_iconst (v := 0) hx hb dX3_isWord_26 (by decide) ?_
      refine lv_istore_n (lv' := [(2, .int 0), (0, .ref qa), (1, .ref qw)]) hx hb dX3_isWord_27 rfl hl (by decide) rfl (fun ls => ?_)
      clear hl
      intro hl
      have lp_5 : ∀ (n_6 : Nat) (j_8 : Nat), 250 - j_8 < n_6 → j_8 ≤ lB.length → ∀ (ls : Array Slot), lv_has ls 3 [(2, .int (nI j_8)), (0, .ref qa), (1, .ref qw)] → W p l e (Rm 5 0 0) s m (List.toArray (α := Value) [.ref qa, .ref qw]) below meth c s.heap [] 0 0 (MQ below (vp_Si (fun r => (r = 1) ∨ (r = 0))) (List.toArray (α := Value) [.ref qa, .ref qw]) s 0 0 (fun _ => False)) (F0 m 28 ls []) := by
        intro n_6
        induction n_6 with
        | zero => intro j_8 hm9; exact absurd hm9 (Nat.not_lt_zero _)
        | succ n_6 ih_7 =>
          intro j_8 hm_10 hj_9 ls hl
          refine lv_iload_n hx hb dX3_isWord_28 rfl (lv_at hl 0 rfl) ?_
          refine lv_aload_n hx hb dX3_isWord_29 rfl (lv_at hl 2 rfl) ?_
          refine kRi (rV (As := []) (rest := [.int (nI j_8)]) (b := qw) ⟨hx, hb, hml, hown, hts⟩ (j_length l G cy lB qw qvv) L_X3_124 (preRVS hN hX va_S.rf) rfl ⟨Nat.le_of_ble_eq_true rfl, Nat.le_of_ble_eq_true rfl⟩ hl.1 (Nat.le_of_ble_eq_true rfl) dX3_isWord_30 ⟨Nat.le_of_ble_eq_true rfl, Nat.le_of_ble_eq_true rfl⟩) (fun r_11 h_12 => ?_)
          subst h_12
          refine lv_icmp_ge (tgt := 63) hx hb dX3_isWord_33 (by decide) (fun c_13 => ?_) (fun c_13 => ?_)
          · refine lv_iconst (v := 1) hx hb dX3_isWord_63 (by decide) ?_
            exact endR hx hb hr hlocks rfl (Or.inl rfl) dX3_isWord_64
          · have hlt_14 : j_8 < lB.length := lp_lt rfl rfl (by omega) (by omega) c_13
            refine lv_aload_n hx hb dX3_isWord_36 rfl (lv_at hl 1 rfl) ?_
            refine va_get (D := G) (ci := 2) (v := .ref qab) (C := RX3) (T := TX3) (N := 7) hx hb hts iX_X3 hown hK hP 0 rfl rfl 0 (by decide) (hts _ m_t148) (fun _ h9 => h9) rfl dX3_isWord_37 ?_
            refine lv_aload_n hx hb dX3_isWord_40 rfl (lv_at hl 1 rfl) ?_
            refine va_get (D := G) (ci := 2) (v := .int (nI kS)) (C := RX3) (T := TX3) (N := 7) hx hb hts iX_X3 hown hK hP 0 rfl rfl 2 (by decide) (hts _ m_t151) (fun _ h9 => h9) rfl dX3_isWord_41 ?_
            refine lv_iload_n hx hb dX3_isWord_44 rfl (lv_at hl 0 rfl) ?_
            refine lv_iadd hx hb dX3_isWord_45 ?_
            refine lv_seti (v := nI (kS + j_8)) (nI_add _ _) ?_
            refine va_bald hx hb hK hP 1 2 rfl rfl (vp_in_nI (by omega) (by omega)) dX3_isWord_46 ?_
            refine lv_seti (v := fB (kS + j_8)) (congrArg fB (nI_clamp (by omega))) ?_
            refine lv_aload_n hx hb dX3_isWord_47 rfl (lv_at hl 2 rfl) ?_
            refine lv_iload_n hx hb dX3_isWord_48 rfl (lv_at hl 0 rfl) ?_
            refine kRi (rV (As := [.int (nI j_8)]) (rest := [.int (fB (kS + j_8))]) (b := qw) ⟨hx, hb, hml, hown, hts⟩ (j_charAt l G cy lB qw qvv j_8 (by omega) (by omega) (hAs _ (by omega))) L_X3_129 (preRVS hN hX va_S.rf) rfl ⟨Nat.le_of_ble_eq_true rfl, Nat.le_of_ble_eq_true rfl⟩ hl.1 (Nat.le_of_ble_eq_true rfl) dX3_isWord_49 ⟨Nat.le_of_ble_eq_true rfl, Nat.le_of_ble_eq_true rfl⟩) (fun r_15 h_16 => ?_)
            subst h_16
            refine lv_icmp_eq (tgt := 57) hx hb dX3_isWord_52 (by decide) (fun c_17 => ?_) (fun c_17 => ?_)
            · refine lv_iinc (v := nI (j_8 + 1)) (lv' := [(2, .int (nI (j_8 + 1))), (0, .ref qa), (1, .ref qw)]) hx hb dX3_isWord_57 hl (k := 0) rfl (nI_1 _) (by decide) rfl (fun ls => ?_)
              clear hl
              intro hl
              refine lv_goto (tgt := 28) hx hb dX3_isWord_60 (by decide) ?_
              exact ih_7 (j_8 + 1) (by omega) (by omega) _ (lv_sub hl [0, 1, 2] rfl)
            · refine lv_iconst (v := 0) hx hb dX3_isWord_55 (by decide) ?_
              exact endR hx hb hr hlocks rfl (Or.inr rfl) dX3_isWord_56
      exact lp_5 ((250 - 0) + 1) 0 (Nat.lt_succ_self _) (Nat.zero_le _) ls (lv_sub hl [0, 1, 2] rfl)
    · refine lv_iconst (v := 0) hx hb dX3_isWord_24 (by decide) ?_
      exact endR hx hb hr hlocks rfl (Or.inr rfl) dX3_isWord_25
set_option maxHeartbeats 4000000 in
set_option maxRecDepth 100000 in
theorem c_X3_passes (l : Launch) (G : va_G) (cy : Nat → ClassId) (sz : Nat) (qa : Nat) (qab : Nat) (kZ : Nat) (kS : Nat) (kE : Nat) (iT : Int32) (iF : Int32) (qd : Nat) (fB : Nat → Int32) (qw : Nat) (lB : List Int32) (qvv : Nat)  (hZ : kZ ≤ 250) (hE : kS ≤ kE ∧ kE ≤ kZ) (hbs : lB.length ≤ 5) (hAs : ∀ k, k < lB.length → ∃ n : Nat, n < 128 ∧ lB.getD k 0 = nI n) : MWX l yX3_passes cX3_passes 2 (some .boolean) 6 0 0 G cy (SF lB qw qvv) [zzO qa 2 [.ref qab, .int (nI kZ), .int (nI kS), .int (nI kE), .int iT, .int iF, .ref qd], zzB cy qab 250 fB] sz [.ref qa, .ref qw] (Wi G (fun r u => ∃ (kX : Nat) (kY : Nat) (iX : Int32), u = [zzO qa 2 [.ref qab, .int (nI kZ), .int (nI kX), .int (nI kY), .int iX, .int iF, .ref qd], zzB cy qab 250 fB] ∧ (kX ≤ kY ∧ kY ≤ kZ) ∧ (True))) := by
  refine enWX RX3 (by decide) rfl (Nat.le_of_ble_eq_true rfl) (fun p e s m below meth c ls A hx hb hml hown hts hr hlocks hP hN hl hin hD hA hS hX => ?_)
  have hin : meth.name = _ := hin
  have hK := hN.1
  replace hl : lv_has ls 2 [(0, .ref qa), (1, .ref qw)] := hl
  refine lv_aload_n hx hb dX3_passes_0 rfl (lv_at hl 0 rfl) ?_
  refine va_get (D := G) (ci := 2) (v := .int iF) (C := RX3) (T := TX3) (N := 7) hx hb hts iX_X3 hown hK hP 0 rfl rfl 5 (by decide) (hts _ m_t154) (fun _ h9 => h9) rfl dX3_passes_1 ?_
  refine lv_iconst (v := (-1)) hx hb dX3_passes_4 (by decide) ?_
  refine lv_icmp_ne (tgt := 16) hx hb dX3_passes_5 (by decide) (fun c_1 => ?_) (fun c_1 => ?_)
  · refine lv_iconst (v := 0) hx hb dX3_passes_16 (by decide) ?_
    exact endW (u := [zzO qa 2 [.ref qab, .int (nI kZ), .int (nI kS), .int (nI kE), .int iT, .int iF, .ref qd], zzB cy qab 250 fB]) hx hb hr hlocks rfl (hP.sub [0, 1] rfl) (hD.sub [0, 1] (by decide +kernel) rfl) hS ⟨kS, kE, iT, rfl, ⟨by omega, by omega⟩, trivial⟩ dX3_passes_17
  · refine lv_aload_n hx hb dX3_passes_8 rfl (lv_at hl 0 rfl) ?_
    refine lv_aload_n hx hb dX3_passes_9 rfl (lv_at hl 1 rfl) ?_
    refine kRi (rV (As := [.ref qw]) (rest := []) (b := qa) ⟨hx, hb, hml, hown, hts⟩ (c_X3_isWord l G cy qa qab kZ kS kE iT iF qd fB qw lB qvv hZ hE hbs hAs) L_X3_50 (preRVX (q := (RX3, TX3, 7)) hN hP [0, 1] rfl 0 2 rfl rfl SF_ok hX hS) rfl ⟨Nat.le_of_ble_eq_true rfl, Nat.le_of_ble_eq_true rfl⟩ hl.1 (Nat.le_of_ble_eq_true rfl) dX3_passes_10 ⟨Nat.le_of_ble_eq_true rfl, Nat.le_of_ble_eq_true rfl⟩) (fun r_2 h_3 => ?_)
    rcases h_3 with rfl | rfl
    · refine lv_if_ne (tgt := 18) hx hb dX3_passes_13 (by decide) (fun _ => ?_) (fun h9 => absurd h9 (by decide))
      refine lv_aload_n hx hb dX3_passes_18 rfl (lv_at hl 0 rfl) ?_
      refine cVv (As := []) (rest := []) (b := qa) (q := (RX3, TX3, 7)) ⟨hx, hb, hml, hown, hts⟩ (c_X3_step l G cy (s.heap).size qa qab kZ (nI kS) kE iT iF qd fB hZ (by first | omega | (simp only [nb_sr, np_sr, nb_wr, np_wr, nb_rd, np_rd, nb_ch, np_ch, nb_zr, np_zr, nb_za, np_za, nb_ey, np_ey, nb_hf, np_hf, nb_dd, np_dd, nb_so, np_so, nb_skn, np_skn, nb_swh, np_swh, nb_sgn, np_sgn, nb_ssd, np_ssd, nb_sgo, np_sgo, nb_sag, np_sag]; omega))) L_X3_36 hN hP hD hS hA [0, 1] [false, false] rfl (by decide +kernel) rfl 0 2 rfl rfl rfl ⟨Nat.le_of_ble_eq_true rfl, Nat.le_of_ble_eq_true rfl⟩ hl.1 (Nat.le_of_ble_eq_true rfl) dX3_passes_19 ⟨Nat.le_of_ble_eq_true rfl, Nat.le_of_ble_eq_true rfl⟩ (fun u_8 H locs h_7 => ?_)
      clear hP hD hS
      intro hP hD hS
      obtain ⟨kX_9, kY_10, iX_11, rfl, h_12⟩ := h_7
      have hPD := pd_as [zzO qa 2 [.ref qab, .int (nI kZ), .int (nI kX_9), .int (nI kY_10), .int iX_11, .int iF, .ref qd], zzB cy qab 250 fB] hP hD rfl
      clear hP hD
      obtain ⟨hP, hD⟩ := hPD
      refine lv_iconst (v := 1) hx hb dX3_passes_22 (by decide) ?_
      exact endW (u := [zzO qa 2 [.ref qab, .int (nI kZ), .int (nI kX_9), .int (nI kY_10), .int iX_11, .int iF, .ref qd], zzB cy qab 250 fB]) hx hb hr hlocks rfl (hP.sub [0, 1] rfl) (hD.sub [0, 1] (by decide +kernel) rfl) hS ⟨kX_9, kY_10, iX_11, rfl, ⟨by omega, by omega⟩, trivial⟩ dX3_passes_23
    · refine lv_if_ne (tgt := 18) hx hb dX3_passes_13 (by decide) (fun h9 => absurd (by decide) h9) (fun _ => ?_)
      refine lv_iconst (v := 0) hx hb dX3_passes_16 (by decide) ?_
      exact endW (u := [zzO qa 2 [.ref qab, .int (nI kZ), .int (nI kS), .int (nI kE), .int iT, .int iF, .ref qd], zzB cy qab 250 fB]) hx hb hr hlocks rfl (hP.sub [0, 1] rfl) (hD.sub [0, 1] (by decide +kernel) rfl) hS ⟨kS, kE, iT, rfl, ⟨by omega, by omega⟩, trivial⟩ dX3_passes_17
set_option maxHeartbeats 4000000 in
set_option maxRecDepth 100000 in
theorem c_X3_takeNumber (l : Launch) (G : va_G) (cy : Nat → ClassId) (sz : Nat) (qa : Nat) (qab : Nat) (kZ : Nat) (kS : Nat) (kE : Nat) (iT : Int32) (iF : Int32) (qd : Nat) (fB : Nat → Int32) (iA : Int32) (iB : Int32)  (hZ : kZ ≤ 250) (hE : kS ≤ kE ∧ kE ≤ kZ) : MW l yX3_takeNumber cX3_takeNumber 4 (some .int) 3 0 0 G cy [zzO qa 2 [.ref qab, .int (nI kZ), .int (nI kS), .int (nI kE), .int iT, .int iF, .ref qd], zzB cy qab 250 fB] sz [.ref qa, .int iA, .int iB] (Wi G (fun r u => ∃ (kX : Nat) (kY : Nat) (iX : Int32) (iY : Int32), u = [zzO qa 2 [.ref qab, .int (nI kZ), .int (nI kX), .int (nI kY), .int iX, .int iY, .ref qd], zzB cy qab 250 fB] ∧ (kX ≤ kY ∧ kY ≤ kZ ∧ (iY = -1 → iF = -1 ∧ iA ≤ r ∧ r ≤ iB)) ∧ (True))) := by
  refine enW RX3 (by decide) rfl (Nat.le_of_ble_eq_true rfl) (fun p e s m below meth c ls A hx hb hml hown hts hr hlocks hP hN hl hin hD hA hS => ?_)
  have hin : meth.name = _ := hin
  have hK := hN.1
  replace hl : lv_has ls 4 [(0, .ref qa), (1, .int iA), (2, .int iB)] := hl
  refine lv_aload_n hx hb dX3_takeNumber_0 rfl (lv_at hl 0 rfl) ?_
  refine kRi (rV (As := []) (rest := []) (b := qa) ⟨hx, hb, hml, hown, hts⟩ (c_X3_numberThere l G cy qa qab kZ kS kE iT iF qd fB hZ hE) L_X3_117 (preRV (q := (RX3, TX3, 7)) hN hP [0, 1] rfl 0 2 rfl rfl) rfl ⟨Nat.le_of_ble_eq_true rfl, Nat.le_of_ble_eq_true rfl⟩ hl.1 (Nat.le_of_ble_eq_true rfl) dX3_takeNumber_1 ⟨Nat.le_of_ble_eq_true rfl, Nat.le_of_ble_eq_true rfl⟩) (fun r_1 h_2 => ?_)
  refine lv_istore_n (lv' := [(3, .int r_1), (0, .ref qa), (1, .int iA), (2, .int iB)]) hx hb dX3_takeNumber_4 rfl hl (by decide) rfl (fun ls => ?_)
  clear hl
  intro hl
  refine lv_aload_n hx hb dX3_takeNumber_5 rfl (lv_at hl 1 rfl) ?_
  refine va_get (D := G) (ci := 2) (v := .int iF) (C := RX3) (T := TX3) (N := 7) hx hb hts iX_X3 hown hK hP 0 rfl rfl 5 (by decide) (hts _ m_t154) (fun _ h9 => h9) rfl dX3_takeNumber_6 ?_
  refine lv_iconst (v := (-1)) hx hb dX3_takeNumber_9 (by decide) ?_
  refine lv_icmp_ne (tgt := 23) hx hb dX3_takeNumber_10 (by decide) (fun c_3 => ?_) (fun c_3 => ?_)
  · refine lv_aload_n hx hb dX3_takeNumber_23 rfl (lv_at hl 1 rfl) ?_
    refine cVv (As := []) (rest := []) (b := qa) (q := (RX3, TX3, 7)) ⟨hx, hb, hml, hown, hts⟩ (c_X3_fail l G cy (s.heap).size qa qab kZ kS kE iT iF qd hZ hE) L_X3_45 hN hP hD hS hA [0] [false, true] rfl (by decide +kernel) rfl 0 2 rfl rfl rfl ⟨Nat.le_of_ble_eq_true rfl, Nat.le_of_ble_eq_true rfl⟩ hl.1 (Nat.le_of_ble_eq_true rfl) dX3_takeNumber_24 ⟨Nat.le_of_ble_eq_true rfl, Nat.le_of_ble_eq_true rfl⟩ (fun u_6 H locs h_5 => ?_)
    clear hP hD hS
    intro hP hD hS
    obtain ⟨iX_7, rfl, h_8⟩ := h_5
    have hPD := pd_as [zzB cy qab 250 fB, zzO qa 2 [.ref qab, .int (nI kZ), .int (nI kS), .int (nI kE), .int iT, .int iX_7, .ref qd]] hP hD rfl
    clear hP hD
    obtain ⟨hP, hD⟩ := hPD
    refine lv_iconst (v := (-1)) hx hb dX3_takeNumber_27 (by decide) ?_
    exact endW (u := [zzO qa 2 [.ref qab, .int (nI kZ), .int (nI kS), .int (nI kE), .int iT, .int iX_7, .ref qd], zzB cy qab 250 fB]) hx hb hr hlocks rfl (hP.sub [1, 0] rfl) (hD.sub [1, 0] (by decide +kernel) rfl) hS ⟨kS, kE, iT, iX_7, rfl, ⟨by omega, by omega, fun q => absurd q h_8⟩, trivial⟩ dX3_takeNumber_28
  · refine lv_iload_n hx hb dX3_takeNumber_13 rfl (lv_at hl 0 rfl) ?_
    refine lv_iload_n hx hb dX3_takeNumber_14 rfl (lv_at hl 2 rfl) ?_
    refine lv_icmp_lt (tgt := 23) hx hb dX3_takeNumber_15 (by decide) (fun c_9 => ?_) (fun c_9 => ?_)
    · refine lv_aload_n hx hb dX3_takeNumber_23 rfl (lv_at hl 1 rfl) ?_
      refine cVv (As := []) (rest := []) (b := qa) (q := (RX3, TX3, 7)) ⟨hx, hb, hml, hown, hts⟩ (c_X3_fail l G cy (s.heap).size qa qab kZ kS kE iT iF qd hZ hE) L_X3_45 hN hP hD hS hA [0] [false, true] rfl (by decide +kernel) rfl 0 2 rfl rfl rfl ⟨Nat.le_of_ble_eq_true rfl, Nat.le_of_ble_eq_true rfl⟩ hl.1 (Nat.le_of_ble_eq_true rfl) dX3_takeNumber_24 ⟨Nat.le_of_ble_eq_true rfl, Nat.le_of_ble_eq_true rfl⟩ (fun u_12 H locs h_11 => ?_)
      clear hP hD hS
      intro hP hD hS
      obtain ⟨iX_13, rfl, h_14⟩ := h_11
      have hPD := pd_as [zzB cy qab 250 fB, zzO qa 2 [.ref qab, .int (nI kZ), .int (nI kS), .int (nI kE), .int iT, .int iX_13, .ref qd]] hP hD rfl
      clear hP hD
      obtain ⟨hP, hD⟩ := hPD
      refine lv_iconst (v := (-1)) hx hb dX3_takeNumber_27 (by decide) ?_
      exact endW (u := [zzO qa 2 [.ref qab, .int (nI kZ), .int (nI kS), .int (nI kE), .int iT, .int iX_13, .ref qd], zzB cy qab 250 fB]) hx hb hr hlocks rfl (hP.sub [1, 0] rfl) (hD.sub [1, 0] (by decide +kernel) rfl) hS ⟨kS, kE, iT, iX_13, rfl, ⟨by omega, by omega, fun q => absurd q h_14⟩, trivial⟩ dX3_takeNumber_28
    · refine lv_iload_n hx hb dX3_takeNumber_18 rfl (lv_at hl 0 rfl) ?_
      refine lv_iload_n hx hb dX3_takeNumber_19 rfl (lv_at hl 3 rfl) ?_
      refine lv_icmp_le (tgt := 29) hx hb dX3_takeNumber_20 (by decide) (fun c_15 => ?_) (fun c_15 => ?_)
      · refine lv_aload_n hx hb dX3_takeNumber_29 rfl (lv_at hl 1 rfl) ?_
        refine cVv (As := []) (rest := []) (b := qa) (q := (RX3, TX3, 7)) ⟨hx, hb, hml, hown, hts⟩ (c_X3_step l G cy (s.heap).size qa qab kZ (nI kS) kE iT iF qd fB hZ (by first | omega | (simp only [nb_sr, np_sr, nb_wr, np_wr, nb_rd, np_rd, nb_ch, np_ch, nb_zr, np_zr, nb_za, np_za, nb_ey, np_ey, nb_hf, np_hf, nb_dd, np_dd, nb_so, np_so, nb_skn, np_skn, nb_swh, np_swh, nb_sgn, np_sgn, nb_ssd, np_ssd, nb_sgo, np_sgo, nb_sag, np_sag]; omega))) L_X3_36 hN hP hD hS hA [0, 1] [false, false] rfl (by decide +kernel) rfl 0 2 rfl rfl rfl ⟨Nat.le_of_ble_eq_true rfl, Nat.le_of_ble_eq_true rfl⟩ hl.1 (Nat.le_of_ble_eq_true rfl) dX3_takeNumber_30 ⟨Nat.le_of_ble_eq_true rfl, Nat.le_of_ble_eq_true rfl⟩ (fun u_18 H locs h_17 => ?_)
        clear hP hD hS
        intro hP hD hS
        obtain ⟨kX_19, kY_20, iX_21, rfl, h_22⟩ := h_17
        have hPD := pd_as [zzO qa 2 [.ref qab, .int (nI kZ), .int (nI kX_19), .int (nI kY_20), .int iX_21, .int iF, .ref qd], zzB cy qab 250 fB] hP hD rfl
        clear hP hD
        obtain ⟨hP, hD⟩ := hPD
        refine lv_iload_n hx hb dX3_takeNumber_33 rfl (lv_at hl 0 rfl) ?_
        exact endW (u := [zzO qa 2 [.ref qab, .int (nI kZ), .int (nI kX_19), .int (nI kY_20), .int iX_21, .int iF, .ref qd], zzB cy qab 250 fB]) hx hb hr hlocks rfl (hP.sub [0, 1] rfl) (hD.sub [0, 1] (by decide +kernel) rfl) hS ⟨kX_19, kY_20, iX_21, iF, rfl, ⟨by omega, by omega, fun q => ⟨q, Int32.not_lt.mp c_9, c_15⟩⟩, trivial⟩ dX3_takeNumber_34
      · refine lv_aload_n hx hb dX3_takeNumber_23 rfl (lv_at hl 1 rfl) ?_
        refine cVv (As := []) (rest := []) (b := qa) (q := (RX3, TX3, 7)) ⟨hx, hb, hml, hown, hts⟩ (c_X3_fail l G cy (s.heap).size qa qab kZ kS kE iT iF qd hZ hE) L_X3_45 hN hP hD hS hA [0] [false, true] rfl (by decide +kernel) rfl 0 2 rfl rfl rfl ⟨Nat.le_of_ble_eq_true rfl, Nat.le_of_ble_eq_true rfl⟩ hl.1 (Nat.le_of_ble_eq_true rfl) dX3_takeNumber_24 ⟨Nat.le_of_ble_eq_true rfl, Nat.le_of_ble_eq_true rfl⟩ (fun u_25 H locs h_24 => ?_)
        clear hP hD hS
        intro hP hD hS
        obtain ⟨iX_26, rfl, h_27⟩ := h_24
        have hPD := pd_as [zzB cy qab 250 fB, zzO qa 2 [.ref qab, .int (nI kZ), .int (nI kS), .int (nI kE), .int iT, .int iX_26, .ref qd]] hP hD rfl
        clear hP hD
        obtain ⟨hP, hD⟩ := hPD
        refine lv_iconst (v := (-1)) hx hb dX3_takeNumber_27 (by decide) ?_
        exact endW (u := [zzO qa 2 [.ref qab, .int (nI kZ), .int (nI kS), .int (nI kE), .int iT, .int iX_26, .ref qd], zzB cy qab 250 fB]) hx hb hr hlocks rfl (hP.sub [1, 0] rfl) (hD.sub [1, 0] (by decide +kernel) rfl) hS ⟨kS, kE, iT, iX_26, rfl, ⟨by omega, by omega, fun q => absurd q h_27⟩, trivial⟩ dX3_takeNumber_28
set_option maxHeartbeats 4000000 in
set_option maxRecDepth 100000 in
theorem c_X3_readBook (l : Launch) (G : va_G) (cy : Nat → ClassId) (sz : Nat) (qa : Nat) (qab : Nat) (kZ : Nat) (kS : Nat) (kE : Nat) (iT : Int32) (iF : Int32) (qd : Nat) (fB : Nat → Int32) (tD : TA) (qdw : Nat) (qdn : Nat) (qdg : Nat) (qda : Nat) (qdr : Nat) (qdm : Nat) (qdt : Nat) (qds : Nat)  (hZ : kZ ≤ 250) (hE : kS ≤ kE ∧ kE ≤ kZ) (hDb : T_nb tD ≤ 8) (hDp : T_np tD ≤ 8) : MWX l yX3_readBook cX3_readBook 3 none 8 0 0 G cy SO [zzO qa 2 [.ref qab, .int (nI kZ), .int (nI kS), .int (nI kE), .int iT, .int iF, .ref qd], zzB cy qab 250 fB, zzO qd 3 [.int (nI (T_nb tD)), .int (nI (T_np tD)), .int (wb (T_wh tD)), .int (wb (T_gn tD)), .int (T_sd tD), .ref qdw, .ref qdn, .ref qdg, .ref qda, .ref qdr, .ref qdm, .ref qdt, .ref qds], zzI cy qdw 8 (T_wo tD), zzI cy qdn 8 (T_ne tD), zzI cy qdg 8 (T_go tD), zzI cy qda 8 (T_ag tD), zzI cy qdr 8 (T_re tD), zzI cy qdm 8 (T_me tD), zzI cy qdt 8 (T_te tD), zzI cy qds 64 (shF (T_kn tD))] sz [.ref qa] (Wv G (fun u => ∃ (kX : Nat) (kY : Nat) (iX : Int32) (iY : Int32) (tX : TA), u = [zzO qa 2 [.ref qab, .int (nI kZ), .int (nI kX), .int (nI kY), .int iX, .int iY, .ref qd], zzB cy qab 250 fB, zzO qd 3 [.int (nI (T_nb tX)), .int (nI (T_np tX)), .int (wb (T_wh tX)), .int (wb (T_gn tX)), .int (T_sd tX), .ref qdw, .ref qdn, .ref qdg, .ref qda, .ref qdr, .ref qdm, .ref qdt, .ref qds], zzI cy qdw 8 (T_wo tX), zzI cy qdn 8 (T_ne tX), zzI cy qdg 8 (T_go tX), zzI cy qda 8 (T_ag tX), zzI cy qdr 8 (T_re tX), zzI cy qdm 8 (T_me tX), zzI cy qdt 8 (T_te tX), zzI cy qds 64 (shF (T_kn tX))] ∧ (kX ≤ kY ∧ kY ≤ kZ ∧ T_nb tX ≤ 8 ∧ T_np tX ≤ 8))) := by
  refine enWX RX3 (by decide) rfl (Nat.le_of_ble_eq_true rfl) (fun p e s m below meth c ls A hx hb hml hown hts hr hlocks hP hN hl hin hD hA hS hX => ?_)
  have hin : meth.name = _ := hin
  have hK := hN.1
  replace hl : lv_has ls 3 [(0, .ref qa)] := hl
  refine lv_aload_n hx hb dX3_readBook_0 rfl (lv_at hl 0 rfl) ?_
  refine va_get (D := G) (ci := 2) (v := .ref qd) (C := RX3) (T := TX3) (N := 7) hx hb hts iX_X3 hown hK hP 0 rfl rfl 6 (by decide) (hts _ m_t156) (fun _ h9 => h9) rfl dX3_readBook_1 ?_
  refine va_getN (D := G) (ci := 3) (v := .int (nI (T_nb tD))) (C := RX4) (T := TX4) (N := 13) hx hb hts iX_X4 hown hK hP 2 rfl rfl 0 (by decide) (va_Nw.use rfl (hN.2.1 (RX3, 77, "EachBookOnce$Town", "books", "I") (List.mem_of_getElem? (i := 0) rfl))) (fun _ h9 => h9) rfl dX3_readBook_4 ?_
  refine lv_bipush (v := 8) hx hb dX3_readBook_7 (by decide) ?_
  refine lv_icmp_lt (tgt := 17) hx hb dX3_readBook_9 (by decide) (fun c_1 => ?_) (fun c_1 => ?_)
  · have hlt8 : T_nb tD < 8 := lt_of8 (by omega) c_1
    refine lv_aload_n hx hb dX3_readBook_17 rfl (lv_at hl 0 rfl) ?_
    refine cVv (As := []) (rest := []) (b := qa) (q := (RX3, TX3, 7)) ⟨hx, hb, hml, hown, hts⟩ (c_X3_step l G cy (s.heap).size qa qab kZ (nI kS) kE iT iF qd fB hZ (by first | omega | (simp only [nb_sr, np_sr, nb_wr, np_wr, nb_rd, np_rd, nb_ch, np_ch, nb_zr, np_zr, nb_za, np_za, nb_ey, np_ey, nb_hf, np_hf, nb_dd, np_dd, nb_so, np_so, nb_skn, np_skn, nb_swh, np_swh, nb_sgn, np_sgn, nb_ssd, np_ssd, nb_sgo, np_sgo, nb_sag, np_sag]; omega))) L_X3_36 hN hP hD hS hA [0, 1] [false, false, true, true, true, true, true, true, true, true, true] rfl (by decide +kernel) rfl 0 2 rfl rfl rfl ⟨Nat.le_of_ble_eq_true rfl, Nat.le_of_ble_eq_true rfl⟩ hl.1 (Nat.le_of_ble_eq_true rfl) dX3_readBook_18 ⟨Nat.le_of_ble_eq_true rfl, Nat.le_of_ble_eq_true rfl⟩ (fun u_4 H locs h_3 => ?_)
    clear hP hD hS
    intro hP hD hS
    obtain ⟨kX_5, kY_6, iX_7, rfl, h_8⟩ := h_3
    have hPD := pd_as [zzO qd 3 [.int (nI (T_nb tD)), .int (nI (T_np tD)), .int (wb (T_wh tD)), .int (wb (T_gn tD)), .int (T_sd tD), .ref qdw, .ref qdn, .ref qdg, .ref qda, .ref qdr, .ref qdm, .ref qdt, .ref qds], zzI cy qdw 8 (T_wo tD), zzI cy qdn 8 (T_ne tD), zzI cy qdg 8 (T_go tD), zzI cy qda 8 (T_ag tD), zzI cy qdr 8 (T_re tD), zzI cy qdm 8 (T_me tD), zzI cy qdt 8 (T_te tD), zzI cy qds 64 (shF (T_kn tD)), zzO qa 2 [.ref qab, .int (nI kZ), .int (nI kX_5), .int (nI kY_6), .int iX_7, .int iF, .ref qd], zzB cy qab 250 fB] hP hD rfl
    clear hP hD
    obtain ⟨hP, hD⟩ := hPD
    refine lv_aload_n hx hb dX3_readBook_21 rfl (lv_at hl 0 rfl) ?_
    refine lv_iconst (v := 1) hx hb dX3_readBook_22 (by decide) ?_
    refine lv_bipush (v := 99) hx hb dX3_readBook_23 (by decide) ?_
    refine cVi (As := [.int 1, .int 99]) (rest := []) (b := qa) (q := (RX3, TX3, 7)) ⟨hx, hb, hml, hown, hts⟩ (c_X3_takeNumber l G cy (H).size qa qab kZ kX_5 kY_6 iX_7 iF qd fB 1 99 hZ (by first | omega | (simp only [nb_sr, np_sr, nb_wr, np_wr, nb_rd, np_rd, nb_ch, np_ch, nb_zr, np_zr, nb_za, np_za, nb_ey, np_ey, nb_hf, np_hf, nb_dd, np_dd, nb_so, np_so, nb_skn, np_skn, nb_swh, np_swh, nb_sgn, np_sgn, nb_ssd, np_ssd, nb_sgo, np_sgo, nb_sag, np_sag]; omega))) L_X3_80 hN hP hD hS hA [9, 10] [true, true, true, true, true, true, true, true, true, false, false] rfl (by decide +kernel) rfl 9 2 rfl rfl rfl ⟨Nat.le_of_ble_eq_true rfl, Nat.le_of_ble_eq_true rfl⟩ hl.1 (Nat.le_of_ble_eq_true rfl) dX3_readBook_25 ⟨Nat.le_of_ble_eq_true rfl, Nat.le_of_ble_eq_true rfl⟩ (fun r_9 u_11 H locs h_10 => ?_)
    clear hP hD hS
    intro hP hD hS
    obtain ⟨kX_12, kY_13, iX_14, iY_15, rfl, h_16, h_10⟩ := h_10
    have hPD := pd_as [zzO qd 3 [.int (nI (T_nb tD)), .int (nI (T_np tD)), .int (wb (T_wh tD)), .int (wb (T_gn tD)), .int (T_sd tD), .ref qdw, .ref qdn, .ref qdg, .ref qda, .ref qdr, .ref qdm, .ref qdt, .ref qds], zzI cy qdw 8 (T_wo tD), zzI cy qdn 8 (T_ne tD), zzI cy qdg 8 (T_go tD), zzI cy qda 8 (T_ag tD), zzI cy qdr 8 (T_re tD), zzI cy qdm 8 (T_me tD), zzI cy qdt 8 (T_te tD), zzI cy qds 64 (shF (T_kn tD)), zzO qa 2 [.ref qab, .int (nI kZ), .int (nI kX_12), .int (nI kY_13), .int iX_14, .int iY_15, .ref qd], zzB cy qab 250 fB] hP hD rfl
    clear hP hD
    obtain ⟨hP, hD⟩ := hPD
    refine lv_istore_n (lv' := [(1, .int r_9), (0, .ref qa)]) hx hb dX3_readBook_28 rfl hl (by decide) rfl (fun ls => ?_)
    clear hl
    intro hl
    refine lv_aload_n hx hb dX3_readBook_29 rfl (lv_at hl 1 rfl) ?_
    obtain ⟨qs_17, qv_19, hs_18, hf_20⟩ := hX (RX3, 84, "good", [103, 111, 111, 100]) (List.mem_of_getElem? (i := 1) rfl)
    refine va_ldcS hx hb hown hs_18 dX3_readBook_30 ?_
    refine cVXi (As := [.ref qs_17]) (rest := []) (b := qa) (q := (RX3, TX3, 7)) ⟨hx, hb, hml, hown, hts⟩ (c_X3_passes l G cy (H).size qa qab kZ kX_12 kY_13 iX_14 iY_15 qd fB qs_17 ([103, 111, 111, 100]) qv_19 hZ (by first | omega | (simp only [nb_sr, np_sr, nb_wr, np_wr, nb_rd, np_rd, nb_ch, np_ch, nb_zr, np_zr, nb_za, np_za, nb_ey, np_ey, nb_hf, np_hf, nb_dd, np_dd, nb_so, np_so, nb_skn, np_skn, nb_swh, np_swh, nb_sgn, np_sgn, nb_ssd, np_ssd, nb_sgo, np_sgo, nb_sag, np_sag]; omega)) (by decide) as_good) L_X3_86 hN hP hD hS hA [9, 10] [true, true, true, true, true, true, true, true, true, false, false] rfl (by decide +kernel) rfl 9 2 rfl rfl SF_ok hf_20 rfl ⟨Nat.le_of_ble_eq_true rfl, Nat.le_of_ble_eq_true rfl⟩ hl.1 (Nat.le_of_ble_eq_true rfl) dX3_readBook_32 ⟨Nat.le_of_ble_eq_true rfl, Nat.le_of_ble_eq_true rfl⟩ (fun r_21 u_23 H locs h_22 => ?_)
    clear hP hD hS
    intro hP hD hS
    obtain ⟨kX_24, kY_25, iX_26, rfl, h_27, h_22⟩ := h_22
    have hPD := pd_as [zzO qd 3 [.int (nI (T_nb tD)), .int (nI (T_np tD)), .int (wb (T_wh tD)), .int (wb (T_gn tD)), .int (T_sd tD), .ref qdw, .ref qdn, .ref qdg, .ref qda, .ref qdr, .ref qdm, .ref qdt, .ref qds], zzI cy qdw 8 (T_wo tD), zzI cy qdn 8 (T_ne tD), zzI cy qdg 8 (T_go tD), zzI cy qda 8 (T_ag tD), zzI cy qdr 8 (T_re tD), zzI cy qdm 8 (T_me tD), zzI cy qdt 8 (T_te tD), zzI cy qds 64 (shF (T_kn tD)), zzO qa 2 [.ref qab, .int (nI kZ), .int (nI kX_24), .int (nI kY_25), .int iX_26, .int iY_15, .ref qd], zzB cy qab 250 fB] hP hD rfl
    clear hP hD
    obtain ⟨hP, hD⟩ := hPD
    refine lv_if_eq (tgt := 49) hx hb dX3_readBook_35 (by decide) (fun c_28 => ?_) (fun c_28 => ?_)
    · refine lv_sipush (v := 1000) hx hb dX3_readBook_49 (by decide) ?_
      refine lv_istore_n (lv' := [(2, .int 1000), (1, .int r_9), (0, .ref qa)]) hx hb dX3_readBook_52 rfl hl (by decide) rfl (fun ls => ?_)
      clear hl
      intro hl
      refine lv_aload_n hx hb dX3_readBook_53 rfl (lv_at hl 2 rfl) ?_
      refine va_get (D := G) (ci := 2) (v := .int iY_15) (C := RX3) (T := TX3) (N := 7) hx hb hts iX_X3 hown hK hP 9 rfl rfl 5 (by decide) (hts _ m_t154) (fun _ h9 => h9) rfl dX3_readBook_54 ?_
      refine lv_iconst (v := (-1)) hx hb dX3_readBook_57 (by decide) ?_
      refine lv_icmp_ne (tgt := 79) hx hb dX3_readBook_58 (by decide) (fun c_29 => ?_) (fun c_29 => ?_)
      · exact endV (u := [zzO qa 2 [.ref qab, .int (nI kZ), .int (nI kX_24), .int (nI kY_25), .int iX_26, .int iY_15, .ref qd], zzB cy qab 250 fB, zzO qd 3 [.int (nI (T_nb tD)), .int (nI (T_np tD)), .int (wb (T_wh tD)), .int (wb (T_gn tD)), .int (T_sd tD), .ref qdw, .ref qdn, .ref qdg, .ref qda, .ref qdr, .ref qdm, .ref qdt, .ref qds], zzI cy qdw 8 (T_wo tD), zzI cy qdn 8 (T_ne tD), zzI cy qdg 8 (T_go tD), zzI cy qda 8 (T_ag tD), zzI cy qdr 8 (T_re tD), zzI cy qdm 8 (T_me tD), zzI cy qdt 8 (T_te tD), zzI cy qds 64 (shF (T_kn tD))]) hx hb hr hlocks (hP.sub [9, 10, 0, 1, 2, 3, 4, 5, 6, 7, 8] rfl) (hD.sub [9, 10, 0, 1, 2, 3, 4, 5, 6, 7, 8] (by decide +kernel) rfl) hS ⟨kX_24, kY_25, iX_26, iY_15, tD, rfl, ⟨by omega, by omega, by first | omega | (show T_nb tD + 1 ≤ 8; omega) | (show T_nb tD ≤ 8; omega), by first | omega | (show T_np tD + 1 ≤ 8; omega) | (show T_np tD ≤ 8; omega)⟩⟩ dX3_readBook_79
      · refine lv_aload_n hx hb dX3_readBook_61 rfl (lv_at hl 2 rfl) ?_
        refine va_get (D := G) (ci := 2) (v := .ref qd) (C := RX3) (T := TX3) (N := 7) hx hb hts iX_X3 hown hK hP 9 rfl rfl 6 (by decide) (hts _ m_t156) (fun _ h9 => h9) rfl dX3_readBook_62 ?_
        refine va_getN (D := G) (ci := 3) (v := .ref qdg) (C := RX4) (T := TX4) (N := 13) hx hb hts iX_X4 hown hK hP 0 rfl rfl 7 (by decide) (va_Nw.use rfl (hN.2.1 (RX3, 89, "EachBookOnce$Town", "good", "[I") (List.mem_of_getElem? (i := 17) rfl))) (fun _ h9 => h9) rfl dX3_readBook_65 ?_
        refine lv_aload_n hx hb dX3_readBook_68 rfl (lv_at hl 2 rfl) ?_
        refine va_get (D := G) (ci := 2) (v := .ref qd) (C := RX3) (T := TX3) (N := 7) hx hb hts iX_X3 hown hK hP 9 rfl rfl 6 (by decide) (hts _ m_t156) (fun _ h9 => h9) rfl dX3_readBook_69 ?_
        refine lv_iload_n hx hb dX3_readBook_72 rfl (lv_at hl 1 rfl) ?_
        refine lv_iconst (v := 0) hx hb dX3_readBook_73 (by decide) ?_
        refine cVi (As := [.int r_9, .int 0]) (rest := [.ref qdg]) (b := qd) (q := (RX4, TX4, 13)) ⟨hx, hb, hml, hown, hts⟩ (c_X4_addBook l G cy (H).size qd tD qdw qdn qdg qda qdr qdm qdt qds r_9 0 (by first | omega | (simp only [nb_sr, np_sr, nb_wr, np_wr, nb_rd, np_rd, nb_ch, np_ch, nb_zr, np_zr, nb_za, np_za, nb_ey, np_ey, nb_hf, np_hf, nb_dd, np_dd, nb_so, np_so, nb_skn, np_skn, nb_swh, np_swh, nb_sgn, np_sgn, nb_ssd, np_ssd, nb_sgo, np_sgo, nb_sag, np_sag]; omega))) L_X3_92 hN hP hD hS hA [0, 1, 2, 3, 4, 5, 6, 7, 8] [false, false, false, false, false, false, false, false, false, true, true] rfl (by decide +kernel) rfl 0 3 rfl rfl rfl ⟨Nat.le_of_ble_eq_true rfl, Nat.le_of_ble_eq_true rfl⟩ hl.1 (Nat.le_of_ble_eq_true rfl) dX3_readBook_74 ⟨Nat.le_of_ble_eq_true rfl, Nat.le_of_ble_eq_true rfl⟩ (fun r_30 u_32 H locs h_31 => ?_)
        clear hP hD hS
        intro hP hD hS
        obtain ⟨rfl, h_31⟩ := h_31
        have hPD := pd_as [zzO qa 2 [.ref qab, .int (nI kZ), .int (nI kX_24), .int (nI kY_25), .int iX_26, .int iY_15, .ref qd], zzB cy qab 250 fB, zzO qd 3 [.int (nI (T_nb (zab tD r_9 0))), .int (nI (T_np (zab tD r_9 0))), .int (wb (T_wh (zab tD r_9 0))), .int (wb (T_gn (zab tD r_9 0))), .int (T_sd (zab tD r_9 0)), .ref qdw, .ref qdn, .ref qdg, .ref qda, .ref qdr, .ref qdm, .ref qdt, .ref qds], zzI cy qdw 8 (T_wo (zab tD r_9 0)), zzI cy qdn 8 (T_ne (zab tD r_9 0)), zzI cy qdg 8 (T_go (zab tD r_9 0)), zzI cy qda 8 (T_ag (zab tD r_9 0)), zzI cy qdr 8 (T_re (zab tD r_9 0)), zzI cy qdm 8 (T_me (zab tD r_9 0)), zzI cy qdt 8 (T_te (zab tD r_9 0)), zzI cy qds 64 (shF (T_kn (zab tD r_9 0)))] hP hD rfl
        clear hP hD
        obtain ⟨hP, hD⟩ := hPD
        subst h_31
        refine lv_iload_n hx hb dX3_readBook_77 rfl (lv_at hl 0 rfl) ?_
        refine va_iast hx hb hK hP hD hS 5 0 rfl rfl (in8 (by omega)) dX3_readBook_78 (fun H locs => ?_)
        clear hP hD hS
        intro hP hD hS
        rw [cl8 (k := (T_nb tD)) (by omega)] at hP hD
        have hPD := pd_as [zzO qa 2 [.ref qab, .int (nI kZ), .int (nI kX_24), .int (nI kY_25), .int iX_26, .int iY_15, .ref qd], zzB cy qab 250 fB, zzO qd 3 [.int (nI (T_nb (zab tD r_9 0))), .int (nI (T_np (zab tD r_9 0))), .int (wb (T_wh (zab tD r_9 0))), .int (wb (T_gn (zab tD r_9 0))), .int (T_sd (zab tD r_9 0)), .ref qdw, .ref qdn, .ref qdg, .ref qda, .ref qdr, .ref qdm, .ref qdt, .ref qds], zzI cy qdw 8 (T_wo (zab tD r_9 0)), zzI cy qdn 8 (T_ne (zab tD r_9 0)), zzI cy qdg 8 (upd (T_go (zab tD r_9 0)) (T_nb tD) 1000), zzI cy qda 8 (T_ag (zab tD r_9 0)), zzI cy qdr 8 (T_re (zab tD r_9 0)), zzI cy qdm 8 (T_me (zab tD r_9 0)), zzI cy qdt 8 (T_te (zab tD r_9 0)), zzI cy qds 64 (shF (T_kn (zab tD r_9 0)))] hP hD rfl
        clear hP hD
        obtain ⟨hP, hD⟩ := hPD
        have hPD := pd_as [zzO qa 2 [.ref qab, .int (nI kZ), .int (nI kX_24), .int (nI kY_25), .int iX_26, .int iY_15, .ref qd], zzB cy qab 250 fB, zzO qd 3 [.int (nI (T_nb (T_setgo (zab tD r_9 0) (upd (T_go (zab tD r_9 0)) (T_nb tD) 1000)))), .int (nI (T_np (T_setgo (zab tD r_9 0) (upd (T_go (zab tD r_9 0)) (T_nb tD) 1000)))), .int (wb (T_wh (T_setgo (zab tD r_9 0) (upd (T_go (zab tD r_9 0)) (T_nb tD) 1000)))), .int (wb (T_gn (T_setgo (zab tD r_9 0) (upd (T_go (zab tD r_9 0)) (T_nb tD) 1000)))), .int (T_sd (T_setgo (zab tD r_9 0) (upd (T_go (zab tD r_9 0)) (T_nb tD) 1000))), .ref qdw, .ref qdn, .ref qdg, .ref qda, .ref qdr, .ref qdm, .ref qdt, .ref qds], zzI cy qdw 8 (T_wo (T_setgo (zab tD r_9 0) (upd (T_go (zab tD r_9 0)) (T_nb tD) 1000))), zzI cy qdn 8 (T_ne (T_setgo (zab tD r_9 0) (upd (T_go (zab tD r_9 0)) (T_nb tD) 1000))), zzI cy qdg 8 (T_go (T_setgo (zab tD r_9 0) (upd (T_go (zab tD r_9 0)) (T_nb tD) 1000))), zzI cy qda 8 (T_ag (T_setgo (zab tD r_9 0) (upd (T_go (zab tD r_9 0)) (T_nb tD) 1000))), zzI cy qdr 8 (T_re (T_setgo (zab tD r_9 0) (upd (T_go (zab tD r_9 0)) (T_nb tD) 1000))), zzI cy qdm 8 (T_me (T_setgo (zab tD r_9 0) (upd (T_go (zab tD r_9 0)) (T_nb tD) 1000))), zzI cy qdt 8 (T_te (T_setgo (zab tD r_9 0) (upd (T_go (zab tD r_9 0)) (T_nb tD) 1000))), zzI cy qds 64 (shF (T_kn (T_setgo (zab tD r_9 0) (upd (T_go (zab tD r_9 0)) (T_nb tD) 1000))))] hP hD rfl
        clear hP hD
        obtain ⟨hP, hD⟩ := hPD
        exact endV (u := [zzO qa 2 [.ref qab, .int (nI kZ), .int (nI kX_24), .int (nI kY_25), .int iX_26, .int iY_15, .ref qd], zzB cy qab 250 fB, zzO qd 3 [.int (nI (T_nb (T_setgo (zab tD r_9 0) (upd (T_go (zab tD r_9 0)) (T_nb tD) 1000)))), .int (nI (T_np (T_setgo (zab tD r_9 0) (upd (T_go (zab tD r_9 0)) (T_nb tD) 1000)))), .int (wb (T_wh (T_setgo (zab tD r_9 0) (upd (T_go (zab tD r_9 0)) (T_nb tD) 1000)))), .int (wb (T_gn (T_setgo (zab tD r_9 0) (upd (T_go (zab tD r_9 0)) (T_nb tD) 1000)))), .int (T_sd (T_setgo (zab tD r_9 0) (upd (T_go (zab tD r_9 0)) (T_nb tD) 1000))), .ref qdw, .ref qdn, .ref qdg, .ref qda, .ref qdr, .ref qdm, .ref qdt, .ref qds], zzI cy qdw 8 (T_wo (T_setgo (zab tD r_9 0) (upd (T_go (zab tD r_9 0)) (T_nb tD) 1000))), zzI cy qdn 8 (T_ne (T_setgo (zab tD r_9 0) (upd (T_go (zab tD r_9 0)) (T_nb tD) 1000))), zzI cy qdg 8 (T_go (T_setgo (zab tD r_9 0) (upd (T_go (zab tD r_9 0)) (T_nb tD) 1000))), zzI cy qda 8 (T_ag (T_setgo (zab tD r_9 0) (upd (T_go (zab tD r_9 0)) (T_nb tD) 1000))), zzI cy qdr 8 (T_re (T_setgo (zab tD r_9 0) (upd (T_go (zab tD r_9 0)) (T_nb tD) 1000))), zzI cy qdm 8 (T_me (T_setgo (zab tD r_9 0) (upd (T_go (zab tD r_9 0)) (T_nb tD) 1000))), zzI cy qdt 8 (T_te (T_setgo (zab tD r_9 0) (upd (T_go (zab tD r_9 0)) (T_nb tD) 1000))), zzI cy qds 64 (shF (T_kn (T_setgo (zab tD r_9 0) (upd (T_go (zab tD r_9 0)) (T_nb tD) 1000))))]) hx hb hr hlocks (hP.sub [0, 1, 2, 3, 4, 5, 6, 7, 8, 9, 10] rfl) (hD.sub [0, 1, 2, 3, 4, 5, 6, 7, 8, 9, 10] (by decide +kernel) rfl) hS ⟨kX_24, kY_25, iX_26, iY_15, (T_setgo (zab tD r_9 0) (upd (T_go (zab tD r_9 0)) (T_nb tD) 1000)), rfl, ⟨by omega, by omega, by first | omega | (show T_nb tD + 1 ≤ 8; omega) | (show T_nb tD ≤ 8; omega), by first | omega | (show T_np tD + 1 ≤ 8; omega) | (show T_np tD ≤ 8; omega)⟩⟩ dX3_readBook_79
    · refine lv_aload_n hx hb dX3_readBook_38 rfl (lv_at hl 1 rfl) ?_
      refine lv_iconst (v := 0) hx hb dX3_readBook_39 (by decide) ?_
      refine lv_sipush (v := 1000) hx hb dX3_readBook_40 (by decide) ?_
      refine cVi (As := [.int 0, .int 1000]) (rest := []) (b := qa) (q := (RX3, TX3, 7)) ⟨hx, hb, hml, hown, hts⟩ (c_X3_takeNumber l G cy (H).size qa qab kZ kX_24 kY_25 iX_26 iY_15 qd fB 0 1000 hZ (by first | omega | (simp only [nb_sr, np_sr, nb_wr, np_wr, nb_rd, np_rd, nb_ch, np_ch, nb_zr, np_zr, nb_za, np_za, nb_ey, np_ey, nb_hf, np_hf, nb_dd, np_dd, nb_so, np_so, nb_skn, np_skn, nb_swh, np_swh, nb_sgn, np_sgn, nb_ssd, np_ssd, nb_sgo, np_sgo, nb_sag, np_sag]; omega))) L_X3_80 hN hP hD hS hA [9, 10] [true, true, true, true, true, true, true, true, true, false, false] rfl (by decide +kernel) rfl 9 2 rfl rfl rfl ⟨Nat.le_of_ble_eq_true rfl, Nat.le_of_ble_eq_true rfl⟩ hl.1 (Nat.le_of_ble_eq_true rfl) dX3_readBook_43 ⟨Nat.le_of_ble_eq_true rfl, Nat.le_of_ble_eq_true rfl⟩ (fun r_33 u_35 H locs h_34 => ?_)
      clear hP hD hS
      intro hP hD hS
      obtain ⟨kX_36, kY_37, iX_38, iY_39, rfl, h_40, h_34⟩ := h_34
      have hPD := pd_as [zzO qd 3 [.int (nI (T_nb tD)), .int (nI (T_np tD)), .int (wb (T_wh tD)), .int (wb (T_gn tD)), .int (T_sd tD), .ref qdw, .ref qdn, .ref qdg, .ref qda, .ref qdr, .ref qdm, .ref qdt, .ref qds], zzI cy qdw 8 (T_wo tD), zzI cy qdn 8 (T_ne tD), zzI cy qdg 8 (T_go tD), zzI cy qda 8 (T_ag tD), zzI cy qdr 8 (T_re tD), zzI cy qdm 8 (T_me tD), zzI cy qdt 8 (T_te tD), zzI cy qds 64 (shF (T_kn tD)), zzO qa 2 [.ref qab, .int (nI kZ), .int (nI kX_36), .int (nI kY_37), .int iX_38, .int iY_39, .ref qd], zzB cy qab 250 fB] hP hD rfl
      clear hP hD
      obtain ⟨hP, hD⟩ := hPD
      refine lv_goto (tgt := 52) hx hb dX3_readBook_46 (by decide) ?_
      refine lv_istore_n (lv' := [(2, .int r_33), (1, .int r_9), (0, .ref qa)]) hx hb dX3_readBook_52 rfl hl (by decide) rfl (fun ls => ?_)
      clear hl
      intro hl
      refine lv_aload_n hx hb dX3_readBook_53 rfl (lv_at hl 2 rfl) ?_
      refine va_get (D := G) (ci := 2) (v := .int iY_39) (C := RX3) (T := TX3) (N := 7) hx hb hts iX_X3 hown hK hP 9 rfl rfl 5 (by decide) (hts _ m_t154) (fun _ h9 => h9) rfl dX3_readBook_54 ?_
      refine lv_iconst (v := (-1)) hx hb dX3_readBook_57 (by decide) ?_
      refine lv_icmp_ne (tgt := 79) hx hb dX3_readBook_58 (by decide) (fun c_41 => ?_) (fun c_41 => ?_)
      · exact endV (u := [zzO qa 2 [.ref qab, .int (nI kZ), .int (nI kX_36), .int (nI kY_37), .int iX_38, .int iY_39, .ref qd], zzB cy qab 250 fB, zzO qd 3 [.int (nI (T_nb tD)), .int (nI (T_np tD)), .int (wb (T_wh tD)), .int (wb (T_gn tD)), .int (T_sd tD), .ref qdw, .ref qdn, .ref qdg, .ref qda, .ref qdr, .ref qdm, .ref qdt, .ref qds], zzI cy qdw 8 (T_wo tD), zzI cy qdn 8 (T_ne tD), zzI cy qdg 8 (T_go tD), zzI cy qda 8 (T_ag tD), zzI cy qdr 8 (T_re tD), zzI cy qdm 8 (T_me tD), zzI cy qdt 8 (T_te tD), zzI cy qds 64 (shF (T_kn tD))]) hx hb hr hlocks (hP.sub [9, 10, 0, 1, 2, 3, 4, 5, 6, 7, 8] rfl) (hD.sub [9, 10, 0, 1, 2, 3, 4, 5, 6, 7, 8] (by decide +kernel) rfl) hS ⟨kX_36, kY_37, iX_38, iY_39, tD, rfl, ⟨by omega, by omega, by first | omega | (show T_nb tD + 1 ≤ 8; omega) | (show T_nb tD ≤ 8; omega), by first | omega | (show T_np tD + 1 ≤ 8; omega) | (show T_np tD ≤ 8; omega)⟩⟩ dX3_readBook_79
      · refine lv_aload_n hx hb dX3_readBook_61 rfl (lv_at hl 2 rfl) ?_
        refine va_get (D := G) (ci := 2) (v := .ref qd) (C := RX3) (T := TX3) (N := 7) hx hb hts iX_X3 hown hK hP 9 rfl rfl 6 (by decide) (hts _ m_t156) (fun _ h9 => h9) rfl dX3_readBook_62 ?_
        refine va_getN (D := G) (ci := 3) (v := .ref qdg) (C := RX4) (T := TX4) (N := 13) hx hb hts iX_X4 hown hK hP 0 rfl rfl 7 (by decide) (va_Nw.use rfl (hN.2.1 (RX3, 89, "EachBookOnce$Town", "good", "[I") (List.mem_of_getElem? (i := 17) rfl))) (fun _ h9 => h9) rfl dX3_readBook_65 ?_
        refine lv_aload_n hx hb dX3_readBook_68 rfl (lv_at hl 2 rfl) ?_
        refine va_get (D := G) (ci := 2) (v := .ref qd) (C := RX3) (T := TX3) (N := 7) hx hb hts iX_X3 hown hK hP 9 rfl rfl 6 (by decide) (hts _ m_t156) (fun _ h9 => h9) rfl dX3_readBook_69 ?_
        refine lv_iload_n hx hb dX3_readBook_72 rfl (lv_at hl 1 rfl) ?_
        refine lv_iconst (v := 0) hx hb dX3_readBook_73 (by decide) ?_
        refine cVi (As := [.int r_9, .int 0]) (rest := [.ref qdg]) (b := qd) (q := (RX4, TX4, 13)) ⟨hx, hb, hml, hown, hts⟩ (c_X4_addBook l G cy (H).size qd tD qdw qdn qdg qda qdr qdm qdt qds r_9 0 (by first | omega | (simp only [nb_sr, np_sr, nb_wr, np_wr, nb_rd, np_rd, nb_ch, np_ch, nb_zr, np_zr, nb_za, np_za, nb_ey, np_ey, nb_hf, np_hf, nb_dd, np_dd, nb_so, np_so, nb_skn, np_skn, nb_swh, np_swh, nb_sgn, np_sgn, nb_ssd, np_ssd, nb_sgo, np_sgo, nb_sag, np_sag]; omega))) L_X3_92 hN hP hD hS hA [0, 1, 2, 3, 4, 5, 6, 7, 8] [false, false, false, false, false, false, false, false, false, true, true] rfl (by decide +kernel) rfl 0 3 rfl rfl rfl ⟨Nat.le_of_ble_eq_true rfl, Nat.le_of_ble_eq_true rfl⟩ hl.1 (Nat.le_of_ble_eq_true rfl) dX3_readBook_74 ⟨Nat.le_of_ble_eq_true rfl, Nat.le_of_ble_eq_true rfl⟩ (fun r_42 u_44 H locs h_43 => ?_)
        clear hP hD hS
        intro hP hD hS
        obtain ⟨rfl, h_43⟩ := h_43
        have hPD := pd_as [zzO qa 2 [.ref qab, .int (nI kZ), .int (nI kX_36), .int (nI kY_37), .int iX_38, .int iY_39, .ref qd], zzB cy qab 250 fB, zzO qd 3 [.int (nI (T_nb (zab tD r_9 0))), .int (nI (T_np (zab tD r_9 0))), .int (wb (T_wh (zab tD r_9 0))), .int (wb (T_gn (zab tD r_9 0))), .int (T_sd (zab tD r_9 0)), .ref qdw, .ref qdn, .ref qdg, .ref qda, .ref qdr, .ref qdm, .ref qdt, .ref qds], zzI cy qdw 8 (T_wo (zab tD r_9 0)), zzI cy qdn 8 (T_ne (zab tD r_9 0)), zzI cy qdg 8 (T_go (zab tD r_9 0)), zzI cy qda 8 (T_ag (zab tD r_9 0)), zzI cy qdr 8 (T_re (zab tD r_9 0)), zzI cy qdm 8 (T_me (zab tD r_9 0)), zzI cy qdt 8 (T_te (zab tD r_9 0)), zzI cy qds 64 (shF (T_kn (zab tD r_9 0)))] hP hD rfl
        clear hP hD
        obtain ⟨hP, hD⟩ := hPD
        subst h_43
        refine lv_iload_n hx hb dX3_readBook_77 rfl (lv_at hl 0 rfl) ?_
        refine va_iast hx hb hK hP hD hS 5 0 rfl rfl (in8 (by omega)) dX3_readBook_78 (fun H locs => ?_)
        clear hP hD hS
        intro hP hD hS
        rw [cl8 (k := (T_nb tD)) (by omega)] at hP hD
        have hPD := pd_as [zzO qa 2 [.ref qab, .int (nI kZ), .int (nI kX_36), .int (nI kY_37), .int iX_38, .int iY_39, .ref qd], zzB cy qab 250 fB, zzO qd 3 [.int (nI (T_nb (zab tD r_9 0))), .int (nI (T_np (zab tD r_9 0))), .int (wb (T_wh (zab tD r_9 0))), .int (wb (T_gn (zab tD r_9 0))), .int (T_sd (zab tD r_9 0)), .ref qdw, .ref qdn, .ref qdg, .ref qda, .ref qdr, .ref qdm, .ref qdt, .ref qds], zzI cy qdw 8 (T_wo (zab tD r_9 0)), zzI cy qdn 8 (T_ne (zab tD r_9 0)), zzI cy qdg 8 (upd (T_go (zab tD r_9 0)) (T_nb tD) r_33), zzI cy qda 8 (T_ag (zab tD r_9 0)), zzI cy qdr 8 (T_re (zab tD r_9 0)), zzI cy qdm 8 (T_me (zab tD r_9 0)), zzI cy qdt 8 (T_te (zab tD r_9 0)), zzI cy qds 64 (shF (T_kn (zab tD r_9 0)))] hP hD rfl
        clear hP hD
        obtain ⟨hP, hD⟩ := hPD
        have hPD := pd_as [zzO qa 2 [.ref qab, .int (nI kZ), .int (nI kX_36), .int (nI kY_37), .int iX_38, .int iY_39, .ref qd], zzB cy qab 250 fB, zzO qd 3 [.int (nI (T_nb (T_setgo (zab tD r_9 0) (upd (T_go (zab tD r_9 0)) (T_nb tD) r_33)))), .int (nI (T_np (T_setgo (zab tD r_9 0) (upd (T_go (zab tD r_9 0)) (T_nb tD) r_33)))), .int (wb (T_wh (T_setgo (zab tD r_9 0) (upd (T_go (zab tD r_9 0)) (T_nb tD) r_33)))), .int (wb (T_gn (T_setgo (zab tD r_9 0) (upd (T_go (zab tD r_9 0)) (T_nb tD) r_33)))), .int (T_sd (T_setgo (zab tD r_9 0) (upd (T_go (zab tD r_9 0)) (T_nb tD) r_33))), .ref qdw, .ref qdn, .ref qdg, .ref qda, .ref qdr, .ref qdm, .ref qdt, .ref qds], zzI cy qdw 8 (T_wo (T_setgo (zab tD r_9 0) (upd (T_go (zab tD r_9 0)) (T_nb tD) r_33))), zzI cy qdn 8 (T_ne (T_setgo (zab tD r_9 0) (upd (T_go (zab tD r_9 0)) (T_nb tD) r_33))), zzI cy qdg 8 (T_go (T_setgo (zab tD r_9 0) (upd (T_go (zab tD r_9 0)) (T_nb tD) r_33))), zzI cy qda 8 (T_ag (T_setgo (zab tD r_9 0) (upd (T_go (zab tD r_9 0)) (T_nb tD) r_33))), zzI cy qdr 8 (T_re (T_setgo (zab tD r_9 0) (upd (T_go (zab tD r_9 0)) (T_nb tD) r_33))), zzI cy qdm 8 (T_me (T_setgo (zab tD r_9 0) (upd (T_go (zab tD r_9 0)) (T_nb tD) r_33))), zzI cy qdt 8 (T_te (T_setgo (zab tD r_9 0) (upd (T_go (zab tD r_9 0)) (T_nb tD) r_33))), zzI cy qds 64 (shF (T_kn (T_setgo (zab tD r_9 0) (upd (T_go (zab tD r_9 0)) (T_nb tD) r_33))))] hP hD rfl
        clear hP hD
        obtain ⟨hP, hD⟩ := hPD
        exact endV (u := [zzO qa 2 [.ref qab, .int (nI kZ), .int (nI kX_36), .int (nI kY_37), .int iX_38, .int iY_39, .ref qd], zzB cy qab 250 fB, zzO qd 3 [.int (nI (T_nb (T_setgo (zab tD r_9 0) (upd (T_go (zab tD r_9 0)) (T_nb tD) r_33)))), .int (nI (T_np (T_setgo (zab tD r_9 0) (upd (T_go (zab tD r_9 0)) (T_nb tD) r_33)))), .int (wb (T_wh (T_setgo (zab tD r_9 0) (upd (T_go (zab tD r_9 0)) (T_nb tD) r_33)))), .int (wb (T_gn (T_setgo (zab tD r_9 0) (upd (T_go (zab tD r_9 0)) (T_nb tD) r_33)))), .int (T_sd (T_setgo (zab tD r_9 0) (upd (T_go (zab tD r_9 0)) (T_nb tD) r_33))), .ref qdw, .ref qdn, .ref qdg, .ref qda, .ref qdr, .ref qdm, .ref qdt, .ref qds], zzI cy qdw 8 (T_wo (T_setgo (zab tD r_9 0) (upd (T_go (zab tD r_9 0)) (T_nb tD) r_33))), zzI cy qdn 8 (T_ne (T_setgo (zab tD r_9 0) (upd (T_go (zab tD r_9 0)) (T_nb tD) r_33))), zzI cy qdg 8 (T_go (T_setgo (zab tD r_9 0) (upd (T_go (zab tD r_9 0)) (T_nb tD) r_33))), zzI cy qda 8 (T_ag (T_setgo (zab tD r_9 0) (upd (T_go (zab tD r_9 0)) (T_nb tD) r_33))), zzI cy qdr 8 (T_re (T_setgo (zab tD r_9 0) (upd (T_go (zab tD r_9 0)) (T_nb tD) r_33))), zzI cy qdm 8 (T_me (T_setgo (zab tD r_9 0) (upd (T_go (zab tD r_9 0)) (T_nb tD) r_33))), zzI cy qdt 8 (T_te (T_setgo (zab tD r_9 0) (upd (T_go (zab tD r_9 0)) (T_nb tD) r_33))), zzI cy qds 64 (shF (T_kn (T_setgo (zab tD r_9 0) (upd (T_go (zab tD r_9 0)) (T_nb tD) r_33))))]) hx hb hr hlocks (hP.sub [0, 1, 2, 3, 4, 5, 6, 7, 8, 9, 10] rfl) (hD.sub [0, 1, 2, 3, 4, 5, 6, 7, 8, 9, 10] (by decide +kernel) rfl) hS ⟨kX_36, kY_37, iX_38, iY_39, (T_setgo (zab tD r_9 0) (upd (T_go (zab tD r_9 0)) (T_nb tD) r_33)), rfl, ⟨by omega, by omega, by first | omega | (show T_nb tD + 1 ≤ 8; omega) | (show T_nb tD ≤ 8; omega), by first | omega | (show T_np tD + 1 ≤ 8; omega) | (show T_np tD ≤ 8; omega)⟩⟩ dX3_readBook_79
  · refine lv_aload_n hx hb dX3_readBook_12 rfl (lv_at hl 0 rfl) ?_
    refine cVv (As := []) (rest := []) (b := qa) (q := (RX3, TX3, 7)) ⟨hx, hb, hml, hown, hts⟩ (c_X3_fail l G cy (s.heap).size qa qab kZ kS kE iT iF qd hZ hE) L_X3_45 hN hP hD hS hA [0] [false, true, true, true, true, true, true, true, true, true, true] rfl (by decide +kernel) rfl 0 2 rfl rfl rfl ⟨Nat.le_of_ble_eq_true rfl, Nat.le_of_ble_eq_true rfl⟩ hl.1 (Nat.le_of_ble_eq_true rfl) dX3_readBook_13 ⟨Nat.le_of_ble_eq_true rfl, Nat.le_of_ble_eq_true rfl⟩ (fun u_47 H locs h_46 => ?_)
    clear hP hD hS
    intro hP hD hS
    obtain ⟨iX_48, rfl, h_49⟩ := h_46
    have hPD := pd_as [zzB cy qab 250 fB, zzO qd 3 [.int (nI (T_nb tD)), .int (nI (T_np tD)), .int (wb (T_wh tD)), .int (wb (T_gn tD)), .int (T_sd tD), .ref qdw, .ref qdn, .ref qdg, .ref qda, .ref qdr, .ref qdm, .ref qdt, .ref qds], zzI cy qdw 8 (T_wo tD), zzI cy qdn 8 (T_ne tD), zzI cy qdg 8 (T_go tD), zzI cy qda 8 (T_ag tD), zzI cy qdr 8 (T_re tD), zzI cy qdm 8 (T_me tD), zzI cy qdt 8 (T_te tD), zzI cy qds 64 (shF (T_kn tD)), zzO qa 2 [.ref qab, .int (nI kZ), .int (nI kS), .int (nI kE), .int iT, .int iX_48, .ref qd]] hP hD rfl
    clear hP hD
    obtain ⟨hP, hD⟩ := hPD
    exact endV (u := [zzO qa 2 [.ref qab, .int (nI kZ), .int (nI kS), .int (nI kE), .int iT, .int iX_48, .ref qd], zzB cy qab 250 fB, zzO qd 3 [.int (nI (T_nb tD)), .int (nI (T_np tD)), .int (wb (T_wh tD)), .int (wb (T_gn tD)), .int (T_sd tD), .ref qdw, .ref qdn, .ref qdg, .ref qda, .ref qdr, .ref qdm, .ref qdt, .ref qds], zzI cy qdw 8 (T_wo tD), zzI cy qdn 8 (T_ne tD), zzI cy qdg 8 (T_go tD), zzI cy qda 8 (T_ag tD), zzI cy qdr 8 (T_re tD), zzI cy qdm 8 (T_me tD), zzI cy qdt 8 (T_te tD), zzI cy qds 64 (shF (T_kn tD))]) hx hb hr hlocks (hP.sub [10, 0, 1, 2, 3, 4, 5, 6, 7, 8, 9] rfl) (hD.sub [10, 0, 1, 2, 3, 4, 5, 6, 7, 8, 9] (by decide +kernel) rfl) hS ⟨kS, kE, iT, iX_48, tD, rfl, ⟨by omega, by omega, by first | omega | (show T_nb tD + 1 ≤ 8; omega) | (show T_nb tD ≤ 8; omega), by first | omega | (show T_np tD + 1 ≤ 8; omega) | (show T_np tD ≤ 8; omega)⟩⟩ dX3_readBook_16
set_option maxHeartbeats 4000000 in
set_option maxRecDepth 100000 in
theorem c_X3_readNeed (l : Launch) (G : va_G) (cy : Nat → ClassId) (sz : Nat) (qa : Nat) (qab : Nat) (kZ : Nat) (kS : Nat) (kE : Nat) (iT : Int32) (iF : Int32) (qd : Nat) (fB : Nat → Int32) (tD : TA) (qdw : Nat) (qdn : Nat) (qdg : Nat) (qda : Nat) (qdr : Nat) (qdm : Nat) (qdt : Nat) (qds : Nat)  (hZ : kZ ≤ 250) (hE : kS ≤ kE ∧ kE ≤ kZ) (hDb : T_nb tD ≤ 8) (hDp : T_np tD ≤ 8) : MW l yX3_readNeed cX3_readNeed 3 none 8 0 0 G cy [zzO qa 2 [.ref qab, .int (nI kZ), .int (nI kS), .int (nI kE), .int iT, .int iF, .ref qd], zzB cy qab 250 fB, zzO qd 3 [.int (nI (T_nb tD)), .int (nI (T_np tD)), .int (wb (T_wh tD)), .int (wb (T_gn tD)), .int (T_sd tD), .ref qdw, .ref qdn, .ref qdg, .ref qda, .ref qdr, .ref qdm, .ref qdt, .ref qds], zzI cy qdw 8 (T_wo tD), zzI cy qdn 8 (T_ne tD), zzI cy qdg 8 (T_go tD), zzI cy qda 8 (T_ag tD), zzI cy qdr 8 (T_re tD), zzI cy qdm 8 (T_me tD), zzI cy qdt 8 (T_te tD), zzI cy qds 64 (shF (T_kn tD))] sz [.ref qa] (Wv G (fun u => ∃ (kX : Nat) (kY : Nat) (iX : Int32) (iY : Int32) (tX : TA), u = [zzO qa 2 [.ref qab, .int (nI kZ), .int (nI kX), .int (nI kY), .int iX, .int iY, .ref qd], zzB cy qab 250 fB, zzO qd 3 [.int (nI (T_nb tX)), .int (nI (T_np tX)), .int (wb (T_wh tX)), .int (wb (T_gn tX)), .int (T_sd tX), .ref qdw, .ref qdn, .ref qdg, .ref qda, .ref qdr, .ref qdm, .ref qdt, .ref qds], zzI cy qdw 8 (T_wo tX), zzI cy qdn 8 (T_ne tX), zzI cy qdg 8 (T_go tX), zzI cy qda 8 (T_ag tX), zzI cy qdr 8 (T_re tX), zzI cy qdm 8 (T_me tX), zzI cy qdt 8 (T_te tX), zzI cy qds 64 (shF (T_kn tX))] ∧ (kX ≤ kY ∧ kY ≤ kZ ∧ T_nb tX ≤ 8 ∧ T_np tX ≤ 8))) := by
  refine enW RX3 (by decide) rfl (Nat.le_of_ble_eq_true rfl) (fun p e s m below meth c ls A hx hb hml hown hts hr hlocks hP hN hl hin hD hA hS => ?_)
  have hin : meth.name = _ := hin
  have hK := hN.1
  replace hl : lv_has ls 3 [(0, .ref qa)] := hl
  refine lv_aload_n hx hb dX3_readNeed_0 rfl (lv_at hl 0 rfl) ?_
  refine cVv (As := []) (rest := []) (b := qa) (q := (RX3, TX3, 7)) ⟨hx, hb, hml, hown, hts⟩ (c_X3_step l G cy (s.heap).size qa qab kZ (nI kS) kE iT iF qd fB hZ (by first | omega | (simp only [nb_sr, np_sr, nb_wr, np_wr, nb_rd, np_rd, nb_ch, np_ch, nb_zr, np_zr, nb_za, np_za, nb_ey, np_ey, nb_hf, np_hf, nb_dd, np_dd, nb_so, np_so, nb_skn, np_skn, nb_swh, np_swh, nb_sgn, np_sgn, nb_ssd, np_ssd, nb_sgo, np_sgo, nb_sag, np_sag]; omega))) L_X3_36 hN hP hD hS hA [0, 1] [false, false, true, true, true, true, true, true, true, true, true] rfl (by decide +kernel) rfl 0 2 rfl rfl rfl ⟨Nat.le_of_ble_eq_true rfl, Nat.le_of_ble_eq_true rfl⟩ hl.1 (Nat.le_of_ble_eq_true rfl) dX3_readNeed_1 ⟨Nat.le_of_ble_eq_true rfl, Nat.le_of_ble_eq_true rfl⟩ (fun u_3 H locs h_2 => ?_)
  clear hP hD hS
  intro hP hD hS
  obtain ⟨kX_4, kY_5, iX_6, rfl, h_7⟩ := h_2
  have hPD := pd_as [zzO qd 3 [.int (nI (T_nb tD)), .int (nI (T_np tD)), .int (wb (T_wh tD)), .int (wb (T_gn tD)), .int (T_sd tD), .ref qdw, .ref qdn, .ref qdg, .ref qda, .ref qdr, .ref qdm, .ref qdt, .ref qds], zzI cy qdw 8 (T_wo tD), zzI cy qdn 8 (T_ne tD), zzI cy qdg 8 (T_go tD), zzI cy qda 8 (T_ag tD), zzI cy qdr 8 (T_re tD), zzI cy qdm 8 (T_me tD), zzI cy qdt 8 (T_te tD), zzI cy qds 64 (shF (T_kn tD)), zzO qa 2 [.ref qab, .int (nI kZ), .int (nI kX_4), .int (nI kY_5), .int iX_6, .int iF, .ref qd], zzB cy qab 250 fB] hP hD rfl
  clear hP hD
  obtain ⟨hP, hD⟩ := hPD
  refine lv_aload_n hx hb dX3_readNeed_4 rfl (lv_at hl 0 rfl) ?_
  refine lv_iconst (v := 0) hx hb dX3_readNeed_5 (by decide) ?_
  refine lv_aload_n hx hb dX3_readNeed_6 rfl (lv_at hl 0 rfl) ?_
  refine va_get (D := G) (ci := 2) (v := .ref qd) (C := RX3) (T := TX3) (N := 7) hx hb hts iX_X3 hown hK hP 9 rfl rfl 6 (by decide) (hts _ m_t156) (fun _ h9 => h9) rfl dX3_readNeed_7 ?_
  refine va_getN (D := G) (ci := 3) (v := .int (nI (T_nb tD))) (C := RX4) (T := TX4) (N := 13) hx hb hts iX_X4 hown hK hP 0 rfl rfl 0 (by decide) (va_Nw.use rfl (hN.2.1 (RX3, 77, "EachBookOnce$Town", "books", "I") (List.mem_of_getElem? (i := 0) rfl))) (fun _ h9 => h9) rfl dX3_readNeed_10 ?_
  refine lv_iconst (v := 1) hx hb dX3_readNeed_13 (by decide) ?_
  refine lv_isub hx hb dX3_readNeed_14 ?_
  refine cVi (As := [.int 0, .int ((nI (T_nb tD)) - 1)]) (rest := []) (b := qa) (q := (RX3, TX3, 7)) ⟨hx, hb, hml, hown, hts⟩ (c_X3_takeNumber l G cy (H).size qa qab kZ kX_4 kY_5 iX_6 iF qd fB 0 ((nI (T_nb tD)) - 1) hZ (by first | omega | (simp only [nb_sr, np_sr, nb_wr, np_wr, nb_rd, np_rd, nb_ch, np_ch, nb_zr, np_zr, nb_za, np_za, nb_ey, np_ey, nb_hf, np_hf, nb_dd, np_dd, nb_so, np_so, nb_skn, np_skn, nb_swh, np_swh, nb_sgn, np_sgn, nb_ssd, np_ssd, nb_sgo, np_sgo, nb_sag, np_sag]; omega))) L_X3_80 hN hP hD hS hA [9, 10] [true, true, true, true, true, true, true, true, true, false, false] rfl (by decide +kernel) rfl 9 2 rfl rfl rfl ⟨Nat.le_of_ble_eq_true rfl, Nat.le_of_ble_eq_true rfl⟩ hl.1 (Nat.le_of_ble_eq_true rfl) dX3_readNeed_15 ⟨Nat.le_of_ble_eq_true rfl, Nat.le_of_ble_eq_true rfl⟩ (fun r_8 u_10 H locs h_9 => ?_)
  clear hP hD hS
  intro hP hD hS
  obtain ⟨kX_11, kY_12, iX_13, iY_14, rfl, h_15, h_9⟩ := h_9
  have hPD := pd_as [zzO qd 3 [.int (nI (T_nb tD)), .int (nI (T_np tD)), .int (wb (T_wh tD)), .int (wb (T_gn tD)), .int (T_sd tD), .ref qdw, .ref qdn, .ref qdg, .ref qda, .ref qdr, .ref qdm, .ref qdt, .ref qds], zzI cy qdw 8 (T_wo tD), zzI cy qdn 8 (T_ne tD), zzI cy qdg 8 (T_go tD), zzI cy qda 8 (T_ag tD), zzI cy qdr 8 (T_re tD), zzI cy qdm 8 (T_me tD), zzI cy qdt 8 (T_te tD), zzI cy qds 64 (shF (T_kn tD)), zzO qa 2 [.ref qab, .int (nI kZ), .int (nI kX_11), .int (nI kY_12), .int iX_13, .int iY_14, .ref qd], zzB cy qab 250 fB] hP hD rfl
  clear hP hD
  obtain ⟨hP, hD⟩ := hPD
  refine lv_istore_n (lv' := [(1, .int r_8), (0, .ref qa)]) hx hb dX3_readNeed_18 rfl hl (by decide) rfl (fun ls => ?_)
  clear hl
  intro hl
  refine lv_aload_n hx hb dX3_readNeed_19 rfl (lv_at hl 1 rfl) ?_
  refine lv_iconst (v := 0) hx hb dX3_readNeed_20 (by decide) ?_
  refine lv_iload_n hx hb dX3_readNeed_21 rfl (lv_at hl 0 rfl) ?_
  refine lv_iconst (v := 1) hx hb dX3_readNeed_22 (by decide) ?_
  refine lv_isub hx hb dX3_readNeed_23 ?_
  refine cVi (As := [.int 0, .int (r_8 - 1)]) (rest := []) (b := qa) (q := (RX3, TX3, 7)) ⟨hx, hb, hml, hown, hts⟩ (c_X3_takeNumber l G cy (H).size qa qab kZ kX_11 kY_12 iX_13 iY_14 qd fB 0 (r_8 - 1) hZ (by first | omega | (simp only [nb_sr, np_sr, nb_wr, np_wr, nb_rd, np_rd, nb_ch, np_ch, nb_zr, np_zr, nb_za, np_za, nb_ey, np_ey, nb_hf, np_hf, nb_dd, np_dd, nb_so, np_so, nb_skn, np_skn, nb_swh, np_swh, nb_sgn, np_sgn, nb_ssd, np_ssd, nb_sgo, np_sgo, nb_sag, np_sag]; omega))) L_X3_80 hN hP hD hS hA [9, 10] [true, true, true, true, true, true, true, true, true, false, false] rfl (by decide +kernel) rfl 9 2 rfl rfl rfl ⟨Nat.le_of_ble_eq_true rfl, Nat.le_of_ble_eq_true rfl⟩ hl.1 (Nat.le_of_ble_eq_true rfl) dX3_readNeed_24 ⟨Nat.le_of_ble_eq_true rfl, Nat.le_of_ble_eq_true rfl⟩ (fun r_16 u_18 H locs h_17 => ?_)
  clear hP hD hS
  intro hP hD hS
  obtain ⟨kX_19, kY_20, iX_21, iY_22, rfl, h_23, h_17⟩ := h_17
  have hPD := pd_as [zzO qd 3 [.int (nI (T_nb tD)), .int (nI (T_np tD)), .int (wb (T_wh tD)), .int (wb (T_gn tD)), .int (T_sd tD), .ref qdw, .ref qdn, .ref qdg, .ref qda, .ref qdr, .ref qdm, .ref qdt, .ref qds], zzI cy qdw 8 (T_wo tD), zzI cy qdn 8 (T_ne tD), zzI cy qdg 8 (T_go tD), zzI cy qda 8 (T_ag tD), zzI cy qdr 8 (T_re tD), zzI cy qdm 8 (T_me tD), zzI cy qdt 8 (T_te tD), zzI cy qds 64 (shF (T_kn tD)), zzO qa 2 [.ref qab, .int (nI kZ), .int (nI kX_19), .int (nI kY_20), .int iX_21, .int iY_22, .ref qd], zzB cy qab 250 fB] hP hD rfl
  clear hP hD
  obtain ⟨hP, hD⟩ := hPD
  refine lv_istore_n (lv' := [(2, .int r_16), (1, .int r_8), (0, .ref qa)]) hx hb dX3_readNeed_27 rfl hl (by decide) rfl (fun ls => ?_)
  clear hl
  intro hl
  refine lv_aload_n hx hb dX3_readNeed_28 rfl (lv_at hl 2 rfl) ?_
  refine va_get (D := G) (ci := 2) (v := .int iY_22) (C := RX3) (T := TX3) (N := 7) hx hb hts iX_X3 hown hK hP 9 rfl rfl 5 (by decide) (hts _ m_t154) (fun _ h9 => h9) rfl dX3_readNeed_29 ?_
  refine lv_iconst (v := (-1)) hx hb dX3_readNeed_32 (by decide) ?_
  refine lv_icmp_ne (tgt := 51) hx hb dX3_readNeed_33 (by decide) (fun c_24 => ?_) (fun c_24 => ?_)
  · exact endV (u := [zzO qa 2 [.ref qab, .int (nI kZ), .int (nI kX_19), .int (nI kY_20), .int iX_21, .int iY_22, .ref qd], zzB cy qab 250 fB, zzO qd 3 [.int (nI (T_nb tD)), .int (nI (T_np tD)), .int (wb (T_wh tD)), .int (wb (T_gn tD)), .int (T_sd tD), .ref qdw, .ref qdn, .ref qdg, .ref qda, .ref qdr, .ref qdm, .ref qdt, .ref qds], zzI cy qdw 8 (T_wo tD), zzI cy qdn 8 (T_ne tD), zzI cy qdg 8 (T_go tD), zzI cy qda 8 (T_ag tD), zzI cy qdr 8 (T_re tD), zzI cy qdm 8 (T_me tD), zzI cy qdt 8 (T_te tD), zzI cy qds 64 (shF (T_kn tD))]) hx hb hr hlocks (hP.sub [9, 10, 0, 1, 2, 3, 4, 5, 6, 7, 8] rfl) (hD.sub [9, 10, 0, 1, 2, 3, 4, 5, 6, 7, 8] (by decide +kernel) rfl) hS ⟨kX_19, kY_20, iX_21, iY_22, tD, rfl, ⟨by omega, by omega, by first | omega | (show T_nb tD + 1 ≤ 8; omega) | (show T_nb tD ≤ 8; omega), by first | omega | (show T_np tD + 1 ≤ 8; omega) | (show T_np tD ≤ 8; omega)⟩⟩ dX3_readNeed_51
  · have hq_25 := h_23.2.2 c_24
    have hq_26 := h_15.2.2 hq_25.1
    obtain ⟨k_27, hk_28, ek_29⟩ := tk_in (n := T_nb tD) (by omega) hq_26.2.1 hq_26.2.2
    rw [ek_29] at hq_25
    obtain ⟨k_30, hk_31, ek_32⟩ := tk_in (n := k_27) (by omega) hq_25.2.1 hq_25.2.2
    rw [ek_32, ek_29] at hl
    refine lv_aload_n hx hb dX3_readNeed_36 rfl (lv_at hl 2 rfl) ?_
    refine va_get (D := G) (ci := 2) (v := .ref qd) (C := RX3) (T := TX3) (N := 7) hx hb hts iX_X3 hown hK hP 9 rfl rfl 6 (by decide) (hts _ m_t156) (fun _ h9 => h9) rfl dX3_readNeed_37 ?_
    refine va_getN (D := G) (ci := 3) (v := .ref qdn) (C := RX4) (T := TX4) (N := 13) hx hb hts iX_X4 hown hK hP 0 rfl rfl 6 (by decide) (va_Nw.use rfl (hN.2.1 (RX3, 95, "EachBookOnce$Town", "needed", "[I") (List.mem_of_getElem? (i := 15) rfl))) (fun _ h9 => h9) rfl dX3_readNeed_40 ?_
    refine lv_iload_n hx hb dX3_readNeed_43 rfl (lv_at hl 1 rfl) ?_
    refine lv_dup2_11 hx hb dX3_readNeed_44 rfl rfl ?_
    refine va_iald hx hb hK hP 2 0 rfl rfl (in8 (by omega)) dX3_readNeed_45 ?_
    refine lv_seti (v := (T_ne tD) k_27) (congrArg (T_ne tD) (cl8 (by omega))) ?_
    refine lv_iconst (v := 1) hx hb dX3_readNeed_46 (by decide) ?_
    refine lv_iload_n hx hb dX3_readNeed_47 rfl (lv_at hl 0 rfl) ?_
    refine lv_ishl hx hb dX3_readNeed_48 ?_
    refine lv_ior hx hb dX3_readNeed_49 ?_
    refine va_iast hx hb hK hP hD hS 2 0 rfl rfl (in8 (by omega)) dX3_readNeed_50 (fun H locs => ?_)
    clear hP hD hS
    intro hP hD hS
    rw [cl8 (k := k_27) (by omega)] at hP hD
    have hPD := pd_as [zzO qd 3 [.int (nI (T_nb tD)), .int (nI (T_np tD)), .int (wb (T_wh tD)), .int (wb (T_gn tD)), .int (T_sd tD), .ref qdw, .ref qdn, .ref qdg, .ref qda, .ref qdr, .ref qdm, .ref qdt, .ref qds], zzI cy qdw 8 (T_wo tD), zzI cy qdn 8 (upd (T_ne tD) k_27 (((T_ne tD) k_27) ||| (1 <<< ((nI k_30) &&& 31)))), zzI cy qdg 8 (T_go tD), zzI cy qda 8 (T_ag tD), zzI cy qdr 8 (T_re tD), zzI cy qdm 8 (T_me tD), zzI cy qdt 8 (T_te tD), zzI cy qds 64 (shF (T_kn tD)), zzO qa 2 [.ref qab, .int (nI kZ), .int (nI kX_19), .int (nI kY_20), .int iX_21, .int iY_22, .ref qd], zzB cy qab 250 fB] hP hD rfl
    clear hP hD
    obtain ⟨hP, hD⟩ := hPD
    have hPD := pd_as [zzO qd 3 [.int (nI (T_nb (T_setne tD (upd (T_ne tD) k_27 (((T_ne tD) k_27) ||| (1 <<< ((nI k_30) &&& 31))))))), .int (nI (T_np (T_setne tD (upd (T_ne tD) k_27 (((T_ne tD) k_27) ||| (1 <<< ((nI k_30) &&& 31))))))), .int (wb (T_wh (T_setne tD (upd (T_ne tD) k_27 (((T_ne tD) k_27) ||| (1 <<< ((nI k_30) &&& 31))))))), .int (wb (T_gn (T_setne tD (upd (T_ne tD) k_27 (((T_ne tD) k_27) ||| (1 <<< ((nI k_30) &&& 31))))))), .int (T_sd (T_setne tD (upd (T_ne tD) k_27 (((T_ne tD) k_27) ||| (1 <<< ((nI k_30) &&& 31)))))), .ref qdw, .ref qdn, .ref qdg, .ref qda, .ref qdr, .ref qdm, .ref qdt, .ref qds], zzI cy qdw 8 (T_wo (T_setne tD (upd (T_ne tD) k_27 (((T_ne tD) k_27) ||| (1 <<< ((nI k_30) &&& 31)))))), zzI cy qdn 8 (T_ne (T_setne tD (upd (T_ne tD) k_27 (((T_ne tD) k_27) ||| (1 <<< ((nI k_30) &&& 31)))))), zzI cy qdg 8 (T_go (T_setne tD (upd (T_ne tD) k_27 (((T_ne tD) k_27) ||| (1 <<< ((nI k_30) &&& 31)))))), zzI cy qda 8 (T_ag (T_setne tD (upd (T_ne tD) k_27 (((T_ne tD) k_27) ||| (1 <<< ((nI k_30) &&& 31)))))), zzI cy qdr 8 (T_re (T_setne tD (upd (T_ne tD) k_27 (((T_ne tD) k_27) ||| (1 <<< ((nI k_30) &&& 31)))))), zzI cy qdm 8 (T_me (T_setne tD (upd (T_ne tD) k_27 (((T_ne tD) k_27) ||| (1 <<< ((nI k_30) &&& 31)))))), zzI cy qdt 8 (T_te (T_setne tD (upd (T_ne tD) k_27 (((T_ne tD) k_27) ||| (1 <<< ((nI k_30) &&& 31)))))), zzI cy qds 64 (shF (T_kn (T_setne tD (upd (T_ne tD) k_27 (((T_ne tD) k_27) ||| (1 <<< ((nI k_30) &&& 31))))))), zzO qa 2 [.ref qab, .int (nI kZ), .int (nI kX_19), .int (nI kY_20), .int iX_21, .int iY_22, .ref qd], zzB cy qab 250 fB] hP hD rfl
    clear hP hD
    obtain ⟨hP, hD⟩ := hPD
    exact endV (u := [zzO qa 2 [.ref qab, .int (nI kZ), .int (nI kX_19), .int (nI kY_20), .int iX_21, .int iY_22, .ref qd], zzB cy qab 250 fB, zzO qd 3 [.int (nI (T_nb (T_setne tD (upd (T_ne tD) k_27 (((T_ne tD) k_27) ||| (1 <<< ((nI k_30) &&& 31))))))), .int (nI (T_np (T_setne tD (upd (T_ne tD) k_27 (((T_ne tD) k_27) ||| (1 <<< ((nI k_30) &&& 31))))))), .int (wb (T_wh (T_setne tD (upd (T_ne tD) k_27 (((T_ne tD) k_27) ||| (1 <<< ((nI k_30) &&& 31))))))), .int (wb (T_gn (T_setne tD (upd (T_ne tD) k_27 (((T_ne tD) k_27) ||| (1 <<< ((nI k_30) &&& 31))))))), .int (T_sd (T_setne tD (upd (T_ne tD) k_27 (((T_ne tD) k_27) ||| (1 <<< ((nI k_30) &&& 31)))))), .ref qdw, .ref qdn, .ref qdg, .ref qda, .ref qdr, .ref qdm, .ref qdt, .ref qds], zzI cy qdw 8 (T_wo (T_setne tD (upd (T_ne tD) k_27 (((T_ne tD) k_27) ||| (1 <<< ((nI k_30) &&& 31)))))), zzI cy qdn 8 (T_ne (T_setne tD (upd (T_ne tD) k_27 (((T_ne tD) k_27) ||| (1 <<< ((nI k_30) &&& 31)))))), zzI cy qdg 8 (T_go (T_setne tD (upd (T_ne tD) k_27 (((T_ne tD) k_27) ||| (1 <<< ((nI k_30) &&& 31)))))), zzI cy qda 8 (T_ag (T_setne tD (upd (T_ne tD) k_27 (((T_ne tD) k_27) ||| (1 <<< ((nI k_30) &&& 31)))))), zzI cy qdr 8 (T_re (T_setne tD (upd (T_ne tD) k_27 (((T_ne tD) k_27) ||| (1 <<< ((nI k_30) &&& 31)))))), zzI cy qdm 8 (T_me (T_setne tD (upd (T_ne tD) k_27 (((T_ne tD) k_27) ||| (1 <<< ((nI k_30) &&& 31)))))), zzI cy qdt 8 (T_te (T_setne tD (upd (T_ne tD) k_27 (((T_ne tD) k_27) ||| (1 <<< ((nI k_30) &&& 31)))))), zzI cy qds 64 (shF (T_kn (T_setne tD (upd (T_ne tD) k_27 (((T_ne tD) k_27) ||| (1 <<< ((nI k_30) &&& 31)))))))]) hx hb hr hlocks (hP.sub [9, 10, 0, 1, 2, 3, 4, 5, 6, 7, 8] rfl) (hD.sub [9, 10, 0, 1, 2, 3, 4, 5, 6, 7, 8] (by decide +kernel) rfl) hS ⟨kX_19, kY_20, iX_21, iY_22, (T_setne tD (upd (T_ne tD) k_27 (((T_ne tD) k_27) ||| (1 <<< ((nI k_30) &&& 31))))), rfl, ⟨by omega, by omega, by first | omega | (show T_nb tD + 1 ≤ 8; omega) | (show T_nb tD ≤ 8; omega), by first | omega | (show T_np tD + 1 ≤ 8; omega) | (show T_np tD ≤ 8; omega)⟩⟩ dX3_readNeed_51
set_option maxHeartbeats 4000000 in
set_option maxRecDepth 100000 in
theorem c_X3_readOne (l : Launch) (G : va_G) (cy : Nat → ClassId) (sz : Nat) (qa : Nat) (qab : Nat) (kZ : Nat) (kS : Nat) (kE : Nat) (iT : Int32) (iF : Int32) (qd : Nat) (fB : Nat → Int32) (tD : TA) (qdw : Nat) (qdn : Nat) (qdg : Nat) (qda : Nat) (qdr : Nat) (qdm : Nat) (qdt : Nat) (qds : Nat)  (hZ : kZ ≤ 250) (hE : kS ≤ kE ∧ kE ≤ kZ) (hDb : T_nb tD ≤ 8) (hDp : T_np tD ≤ 8) : MWX l yX3_readOne cX3_readOne 5 none 8 0 0 G cy SO [zzO qa 2 [.ref qab, .int (nI kZ), .int (nI kS), .int (nI kE), .int iT, .int iF, .ref qd], zzB cy qab 250 fB, zzO qd 3 [.int (nI (T_nb tD)), .int (nI (T_np tD)), .int (wb (T_wh tD)), .int (wb (T_gn tD)), .int (T_sd tD), .ref qdw, .ref qdn, .ref qdg, .ref qda, .ref qdr, .ref qdm, .ref qdt, .ref qds], zzI cy qdw 8 (T_wo tD), zzI cy qdn 8 (T_ne tD), zzI cy qdg 8 (T_go tD), zzI cy qda 8 (T_ag tD), zzI cy qdr 8 (T_re tD), zzI cy qdm 8 (T_me tD), zzI cy qdt 8 (T_te tD), zzI cy qds 64 (shF (T_kn tD))] sz [.ref qa] (Wv G (fun u => ∃ (kX : Nat) (kY : Nat) (iX : Int32) (iY : Int32) (tX : TA), u = [zzO qa 2 [.ref qab, .int (nI kZ), .int (nI kX), .int (nI kY), .int iX, .int iY, .ref qd], zzB cy qab 250 fB, zzO qd 3 [.int (nI (T_nb tX)), .int (nI (T_np tX)), .int (wb (T_wh tX)), .int (wb (T_gn tX)), .int (T_sd tX), .ref qdw, .ref qdn, .ref qdg, .ref qda, .ref qdr, .ref qdm, .ref qdt, .ref qds], zzI cy qdw 8 (T_wo tX), zzI cy qdn 8 (T_ne tX), zzI cy qdg 8 (T_go tX), zzI cy qda 8 (T_ag tX), zzI cy qdr 8 (T_re tX), zzI cy qdm 8 (T_me tX), zzI cy qdt 8 (T_te tX), zzI cy qds 64 (shF (T_kn tX))] ∧ (kX ≤ kY ∧ kY ≤ kZ ∧ T_nb tX ≤ 8 ∧ T_np tX ≤ 8))) := by
  refine enWX RX3 (by decide) rfl (Nat.le_of_ble_eq_true rfl) (fun p e s m below meth c ls A hx hb hml hown hts hr hlocks hP hN hl hin hD hA hS hX => ?_)
  have hin : meth.name = _ := hin
  have hK := hN.1
  replace hl : lv_has ls 5 [(0, .ref qa)] := hl
  refine lv_aload_n hx hb dX3_readOne_0 rfl (lv_at hl 0 rfl) ?_
  refine va_get (D := G) (ci := 2) (v := .ref qd) (C := RX3) (T := TX3) (N := 7) hx hb hts iX_X3 hown hK hP 0 rfl rfl 6 (by decide) (hts _ m_t156) (fun _ h9 => h9) rfl dX3_readOne_1 ?_
  refine va_getN (D := G) (ci := 3) (v := .int (nI (T_np tD))) (C := RX4) (T := TX4) (N := 13) hx hb hts iX_X4 hown hK hP 2 rfl rfl 1 (by decide) (va_Nw.use rfl (hN.2.1 (RX3, 98, "EachBookOnce$Town", "people", "I") (List.mem_of_getElem? (i := 6) rfl))) (fun _ h9 => h9) rfl dX3_readOne_4 ?_
  refine lv_bipush (v := 8) hx hb dX3_readOne_7 (by decide) ?_
  refine lv_icmp_lt (tgt := 17) hx hb dX3_readOne_9 (by decide) (fun c_1 => ?_) (fun c_1 => ?_)
  · have hlt8 : T_np tD < 8 := lt_of8 (by omega) c_1
    refine lv_aload_n hx hb dX3_readOne_17 rfl (lv_at hl 0 rfl) ?_
    refine cVv (As := []) (rest := []) (b := qa) (q := (RX3, TX3, 7)) ⟨hx, hb, hml, hown, hts⟩ (c_X3_step l G cy (s.heap).size qa qab kZ (nI kS) kE iT iF qd fB hZ (by first | omega | (simp only [nb_sr, np_sr, nb_wr, np_wr, nb_rd, np_rd, nb_ch, np_ch, nb_zr, np_zr, nb_za, np_za, nb_ey, np_ey, nb_hf, np_hf, nb_dd, np_dd, nb_so, np_so, nb_skn, np_skn, nb_swh, np_swh, nb_sgn, np_sgn, nb_ssd, np_ssd, nb_sgo, np_sgo, nb_sag, np_sag]; omega))) L_X3_36 hN hP hD hS hA [0, 1] [false, false, true, true, true, true, true, true, true, true, true] rfl (by decide +kernel) rfl 0 2 rfl rfl rfl ⟨Nat.le_of_ble_eq_true rfl, Nat.le_of_ble_eq_true rfl⟩ hl.1 (Nat.le_of_ble_eq_true rfl) dX3_readOne_18 ⟨Nat.le_of_ble_eq_true rfl, Nat.le_of_ble_eq_true rfl⟩ (fun u_4 H locs h_3 => ?_)
    clear hP hD hS
    intro hP hD hS
    obtain ⟨kX_5, kY_6, iX_7, rfl, h_8⟩ := h_3
    have hPD := pd_as [zzO qd 3 [.int (nI (T_nb tD)), .int (nI (T_np tD)), .int (wb (T_wh tD)), .int (wb (T_gn tD)), .int (T_sd tD), .ref qdw, .ref qdn, .ref qdg, .ref qda, .ref qdr, .ref qdm, .ref qdt, .ref qds], zzI cy qdw 8 (T_wo tD), zzI cy qdn 8 (T_ne tD), zzI cy qdg 8 (T_go tD), zzI cy qda 8 (T_ag tD), zzI cy qdr 8 (T_re tD), zzI cy qdm 8 (T_me tD), zzI cy qdt 8 (T_te tD), zzI cy qds 64 (shF (T_kn tD)), zzO qa 2 [.ref qab, .int (nI kZ), .int (nI kX_5), .int (nI kY_6), .int iX_7, .int iF, .ref qd], zzB cy qab 250 fB] hP hD rfl
    clear hP hD
    obtain ⟨hP, hD⟩ := hPD
    refine lv_aload_n hx hb dX3_readOne_21 rfl (lv_at hl 0 rfl) ?_
    refine lv_iconst (v := 0) hx hb dX3_readOne_22 (by decide) ?_
    refine lv_bipush (v := 9) hx hb dX3_readOne_23 (by decide) ?_
    refine cVi (As := [.int 0, .int 9]) (rest := []) (b := qa) (q := (RX3, TX3, 7)) ⟨hx, hb, hml, hown, hts⟩ (c_X3_takeNumber l G cy (H).size qa qab kZ kX_5 kY_6 iX_7 iF qd fB 0 9 hZ (by first | omega | (simp only [nb_sr, np_sr, nb_wr, np_wr, nb_rd, np_rd, nb_ch, np_ch, nb_zr, np_zr, nb_za, np_za, nb_ey, np_ey, nb_hf, np_hf, nb_dd, np_dd, nb_so, np_so, nb_skn, np_skn, nb_swh, np_swh, nb_sgn, np_sgn, nb_ssd, np_ssd, nb_sgo, np_sgo, nb_sag, np_sag]; omega))) L_X3_80 hN hP hD hS hA [9, 10] [true, true, true, true, true, true, true, true, true, false, false] rfl (by decide +kernel) rfl 9 2 rfl rfl rfl ⟨Nat.le_of_ble_eq_true rfl, Nat.le_of_ble_eq_true rfl⟩ hl.1 (Nat.le_of_ble_eq_true rfl) dX3_readOne_25 ⟨Nat.le_of_ble_eq_true rfl, Nat.le_of_ble_eq_true rfl⟩ (fun r_9 u_11 H locs h_10 => ?_)
    clear hP hD hS
    intro hP hD hS
    obtain ⟨kX_12, kY_13, iX_14, iY_15, rfl, h_16, h_10⟩ := h_10
    have hPD := pd_as [zzO qd 3 [.int (nI (T_nb tD)), .int (nI (T_np tD)), .int (wb (T_wh tD)), .int (wb (T_gn tD)), .int (T_sd tD), .ref qdw, .ref qdn, .ref qdg, .ref qda, .ref qdr, .ref qdm, .ref qdt, .ref qds], zzI cy qdw 8 (T_wo tD), zzI cy qdn 8 (T_ne tD), zzI cy qdg 8 (T_go tD), zzI cy qda 8 (T_ag tD), zzI cy qdr 8 (T_re tD), zzI cy qdm 8 (T_me tD), zzI cy qdt 8 (T_te tD), zzI cy qds 64 (shF (T_kn tD)), zzO qa 2 [.ref qab, .int (nI kZ), .int (nI kX_12), .int (nI kY_13), .int iX_14, .int iY_15, .ref qd], zzB cy qab 250 fB] hP hD rfl
    clear hP hD
    obtain ⟨hP, hD⟩ := hPD
    refine lv_istore_n (lv' := [(1, .int r_9), (0, .ref qa)]) hx hb dX3_readOne_28 rfl hl (by decide) rfl (fun ls => ?_)
    clear hl
    intro hl
    refine lv_aload_n hx hb dX3_readOne_29 rfl (lv_at hl 1 rfl) ?_
    obtain ⟨qs_17, qv_19, hs_18, hf_20⟩ := hX (RX3, 101, "reads", [114, 101, 97, 100, 115]) (List.mem_of_getElem? (i := 4) rfl)
    refine va_ldcS hx hb hown hs_18 dX3_readOne_30 ?_
    refine cVXi (As := [.ref qs_17]) (rest := []) (b := qa) (q := (RX3, TX3, 7)) ⟨hx, hb, hml, hown, hts⟩ (c_X3_passes l G cy (H).size qa qab kZ kX_12 kY_13 iX_14 iY_15 qd fB qs_17 ([114, 101, 97, 100, 115]) qv_19 hZ (by first | omega | (simp only [nb_sr, np_sr, nb_wr, np_wr, nb_rd, np_rd, nb_ch, np_ch, nb_zr, np_zr, nb_za, np_za, nb_ey, np_ey, nb_hf, np_hf, nb_dd, np_dd, nb_so, np_so, nb_skn, np_skn, nb_swh, np_swh, nb_sgn, np_sgn, nb_ssd, np_ssd, nb_sgo, np_sgo, nb_sag, np_sag]; omega)) (by decide) as_reads) L_X3_86 hN hP hD hS hA [9, 10] [true, true, true, true, true, true, true, true, true, false, false] rfl (by decide +kernel) rfl 9 2 rfl rfl SF_ok hf_20 rfl ⟨Nat.le_of_ble_eq_true rfl, Nat.le_of_ble_eq_true rfl⟩ hl.1 (Nat.le_of_ble_eq_true rfl) dX3_readOne_32 ⟨Nat.le_of_ble_eq_true rfl, Nat.le_of_ble_eq_true rfl⟩ (fun r_21 u_23 H locs h_22 => ?_)
    clear hP hD hS
    intro hP hD hS
    obtain ⟨kX_24, kY_25, iX_26, rfl, h_27, h_22⟩ := h_22
    have hPD := pd_as [zzO qd 3 [.int (nI (T_nb tD)), .int (nI (T_np tD)), .int (wb (T_wh tD)), .int (wb (T_gn tD)), .int (T_sd tD), .ref qdw, .ref qdn, .ref qdg, .ref qda, .ref qdr, .ref qdm, .ref qdt, .ref qds], zzI cy qdw 8 (T_wo tD), zzI cy qdn 8 (T_ne tD), zzI cy qdg 8 (T_go tD), zzI cy qda 8 (T_ag tD), zzI cy qdr 8 (T_re tD), zzI cy qdm 8 (T_me tD), zzI cy qdt 8 (T_te tD), zzI cy qds 64 (shF (T_kn tD)), zzO qa 2 [.ref qab, .int (nI kZ), .int (nI kX_24), .int (nI kY_25), .int iX_26, .int iY_15, .ref qd], zzB cy qab 250 fB] hP hD rfl
    clear hP hD
    obtain ⟨hP, hD⟩ := hPD
    refine lv_if_eq (tgt := 48) hx hb dX3_readOne_35 (by decide) (fun c_28 => ?_) (fun c_28 => ?_)
    · refine lv_iconst (v := 5) hx hb dX3_readOne_48 (by decide) ?_
      refine lv_istore_n (lv' := [(2, .int 5), (1, .int r_9), (0, .ref qa)]) hx hb dX3_readOne_49 rfl hl (by decide) rfl (fun ls => ?_)
      clear hl
      intro hl
      refine lv_aload_n hx hb dX3_readOne_50 rfl (lv_at hl 2 rfl) ?_
      obtain ⟨qs_29, qv_31, hs_30, hf_32⟩ := hX (RX3, 103, "keeps", [107, 101, 101, 112, 115]) (List.mem_of_getElem? (i := 5) rfl)
      refine va_ldcS hx hb hown hs_30 dX3_readOne_51 ?_
      refine cVXi (As := [.ref qs_29]) (rest := []) (b := qa) (q := (RX3, TX3, 7)) ⟨hx, hb, hml, hown, hts⟩ (c_X3_passes l G cy (H).size qa qab kZ kX_24 kY_25 iX_26 iY_15 qd fB qs_29 ([107, 101, 101, 112, 115]) qv_31 hZ (by first | omega | (simp only [nb_sr, np_sr, nb_wr, np_wr, nb_rd, np_rd, nb_ch, np_ch, nb_zr, np_zr, nb_za, np_za, nb_ey, np_ey, nb_hf, np_hf, nb_dd, np_dd, nb_so, np_so, nb_skn, np_skn, nb_swh, np_swh, nb_sgn, np_sgn, nb_ssd, np_ssd, nb_sgo, np_sgo, nb_sag, np_sag]; omega)) (by decide) as_keeps) L_X3_86 hN hP hD hS hA [9, 10] [true, true, true, true, true, true, true, true, true, false, false] rfl (by decide +kernel) rfl 9 2 rfl rfl SF_ok hf_32 rfl ⟨Nat.le_of_ble_eq_true rfl, Nat.le_of_ble_eq_true rfl⟩ hl.1 (Nat.le_of_ble_eq_true rfl) dX3_readOne_53 ⟨Nat.le_of_ble_eq_true rfl, Nat.le_of_ble_eq_true rfl⟩ (fun r_33 u_35 H locs h_34 => ?_)
      clear hP hD hS
      intro hP hD hS
      obtain ⟨kX_36, kY_37, iX_38, rfl, h_39, h_34⟩ := h_34
      have hPD := pd_as [zzO qd 3 [.int (nI (T_nb tD)), .int (nI (T_np tD)), .int (wb (T_wh tD)), .int (wb (T_gn tD)), .int (T_sd tD), .ref qdw, .ref qdn, .ref qdg, .ref qda, .ref qdr, .ref qdm, .ref qdt, .ref qds], zzI cy qdw 8 (T_wo tD), zzI cy qdn 8 (T_ne tD), zzI cy qdg 8 (T_go tD), zzI cy qda 8 (T_ag tD), zzI cy qdr 8 (T_re tD), zzI cy qdm 8 (T_me tD), zzI cy qdt 8 (T_te tD), zzI cy qds 64 (shF (T_kn tD)), zzO qa 2 [.ref qab, .int (nI kZ), .int (nI kX_36), .int (nI kY_37), .int iX_38, .int iY_15, .ref qd], zzB cy qab 250 fB] hP hD rfl
      clear hP hD
      obtain ⟨hP, hD⟩ := hPD
      refine lv_if_eq (tgt := 69) hx hb dX3_readOne_56 (by decide) (fun c_40 => ?_) (fun c_40 => ?_)
      · refine lv_iconst (v := 5) hx hb dX3_readOne_69 (by decide) ?_
        refine lv_istore_n (lv' := [(3, .int 5), (2, .int 5), (1, .int r_9), (0, .ref qa)]) hx hb dX3_readOne_70 rfl hl (by decide) rfl (fun ls => ?_)
        clear hl
        intro hl
        refine lv_aload_n hx hb dX3_readOne_71 rfl (lv_at hl 3 rfl) ?_
        obtain ⟨qs_41, qv_43, hs_42, hf_44⟩ := hX (RX3, 105, "tells", [116, 101, 108, 108, 115]) (List.mem_of_getElem? (i := 6) rfl)
        refine va_ldcS hx hb hown hs_42 dX3_readOne_72 ?_
        refine cVXi (As := [.ref qs_41]) (rest := []) (b := qa) (q := (RX3, TX3, 7)) ⟨hx, hb, hml, hown, hts⟩ (c_X3_passes l G cy (H).size qa qab kZ kX_36 kY_37 iX_38 iY_15 qd fB qs_41 ([116, 101, 108, 108, 115]) qv_43 hZ (by first | omega | (simp only [nb_sr, np_sr, nb_wr, np_wr, nb_rd, np_rd, nb_ch, np_ch, nb_zr, np_zr, nb_za, np_za, nb_ey, np_ey, nb_hf, np_hf, nb_dd, np_dd, nb_so, np_so, nb_skn, np_skn, nb_swh, np_swh, nb_sgn, np_sgn, nb_ssd, np_ssd, nb_sgo, np_sgo, nb_sag, np_sag]; omega)) (by decide) as_tells) L_X3_86 hN hP hD hS hA [9, 10] [true, true, true, true, true, true, true, true, true, false, false] rfl (by decide +kernel) rfl 9 2 rfl rfl SF_ok hf_44 rfl ⟨Nat.le_of_ble_eq_true rfl, Nat.le_of_ble_eq_true rfl⟩ hl.1 (Nat.le_of_ble_eq_true rfl) dX3_readOne_74 ⟨Nat.le_of_ble_eq_true rfl, Nat.le_of_ble_eq_true rfl⟩ (fun r_45 u_47 H locs h_46 => ?_)
        clear hP hD hS
        intro hP hD hS
        obtain ⟨kX_48, kY_49, iX_50, rfl, h_51, h_46⟩ := h_46
        have hPD := pd_as [zzO qd 3 [.int (nI (T_nb tD)), .int (nI (T_np tD)), .int (wb (T_wh tD)), .int (wb (T_gn tD)), .int (T_sd tD), .ref qdw, .ref qdn, .ref qdg, .ref qda, .ref qdr, .ref qdm, .ref qdt, .ref qds], zzI cy qdw 8 (T_wo tD), zzI cy qdn 8 (T_ne tD), zzI cy qdg 8 (T_go tD), zzI cy qda 8 (T_ag tD), zzI cy qdr 8 (T_re tD), zzI cy qdm 8 (T_me tD), zzI cy qdt 8 (T_te tD), zzI cy qds 64 (shF (T_kn tD)), zzO qa 2 [.ref qab, .int (nI kZ), .int (nI kX_48), .int (nI kY_49), .int iX_50, .int iY_15, .ref qd], zzB cy qab 250 fB] hP hD rfl
        clear hP hD
        obtain ⟨hP, hD⟩ := hPD
        refine lv_if_eq (tgt := 90) hx hb dX3_readOne_77 (by decide) (fun c_52 => ?_) (fun c_52 => ?_)
        · refine lv_iconst (v := 5) hx hb dX3_readOne_90 (by decide) ?_
          refine lv_istore (lv' := [(4, .int 5), (3, .int 5), (2, .int 5), (1, .int r_9), (0, .ref qa)]) hx hb dX3_readOne_91 hl (by decide) rfl (fun ls => ?_)
          clear hl
          intro hl
          refine lv_aload_n hx hb dX3_readOne_93 rfl (lv_at hl 4 rfl) ?_
          refine va_get (D := G) (ci := 2) (v := .int iY_15) (C := RX3) (T := TX3) (N := 7) hx hb hts iX_X3 hown hK hP 9 rfl rfl 5 (by decide) (hts _ m_t154) (fun _ h9 => h9) rfl dX3_readOne_94 ?_
          refine lv_iconst (v := (-1)) hx hb dX3_readOne_97 (by decide) ?_
          refine lv_icmp_ne (tgt := 114) hx hb dX3_readOne_98 (by decide) (fun c_53 => ?_) (fun c_53 => ?_)
          · exact endV (u := [zzO qa 2 [.ref qab, .int (nI kZ), .int (nI kX_48), .int (nI kY_49), .int iX_50, .int iY_15, .ref qd], zzB cy qab 250 fB, zzO qd 3 [.int (nI (T_nb tD)), .int (nI (T_np tD)), .int (wb (T_wh tD)), .int (wb (T_gn tD)), .int (T_sd tD), .ref qdw, .ref qdn, .ref qdg, .ref qda, .ref qdr, .ref qdm, .ref qdt, .ref qds], zzI cy qdw 8 (T_wo tD), zzI cy qdn 8 (T_ne tD), zzI cy qdg 8 (T_go tD), zzI cy qda 8 (T_ag tD), zzI cy qdr 8 (T_re tD), zzI cy qdm 8 (T_me tD), zzI cy qdt 8 (T_te tD), zzI cy qds 64 (shF (T_kn tD))]) hx hb hr hlocks (hP.sub [9, 10, 0, 1, 2, 3, 4, 5, 6, 7, 8] rfl) (hD.sub [9, 10, 0, 1, 2, 3, 4, 5, 6, 7, 8] (by decide +kernel) rfl) hS ⟨kX_48, kY_49, iX_50, iY_15, tD, rfl, ⟨by omega, by omega, by first | omega | (show T_nb tD + 1 ≤ 8; omega) | (show T_nb tD ≤ 8; omega), by first | omega | (show T_np tD + 1 ≤ 8; omega) | (show T_np tD ≤ 8; omega)⟩⟩ dX3_readOne_114
          · refine lv_aload_n hx hb dX3_readOne_101 rfl (lv_at hl 4 rfl) ?_
            refine va_get (D := G) (ci := 2) (v := .ref qd) (C := RX3) (T := TX3) (N := 7) hx hb hts iX_X3 hown hK hP 9 rfl rfl 6 (by decide) (hts _ m_t156) (fun _ h9 => h9) rfl dX3_readOne_102 ?_
            refine lv_iload_n hx hb dX3_readOne_105 rfl (lv_at hl 3 rfl) ?_
            refine lv_iload_n hx hb dX3_readOne_106 rfl (lv_at hl 2 rfl) ?_
            refine lv_iload_n hx hb dX3_readOne_107 rfl (lv_at hl 1 rfl) ?_
            refine lv_iload hx hb dX3_readOne_108 (lv_at hl 0 rfl) ?_
            refine cVi (As := [.int r_9, .int 5, .int 5, .int 5]) (rest := []) (b := qd) (q := (RX4, TX4, 13)) ⟨hx, hb, hml, hown, hts⟩ (c_X4_addOne l G cy (H).size qd tD qdw qdn qdg qda qdr qdm qdt qds r_9 5 5 5 (by first | omega | (simp only [nb_sr, np_sr, nb_wr, np_wr, nb_rd, np_rd, nb_ch, np_ch, nb_zr, np_zr, nb_za, np_za, nb_ey, np_ey, nb_hf, np_hf, nb_dd, np_dd, nb_so, np_so, nb_skn, np_skn, nb_swh, np_swh, nb_sgn, np_sgn, nb_ssd, np_ssd, nb_sgo, np_sgo, nb_sag, np_sag]; omega))) L_X3_107 hN hP hD hS hA [0, 1, 2, 3, 4, 5, 6, 7, 8] [false, false, false, false, false, false, false, false, false, true, true] rfl (by decide +kernel) rfl 0 3 rfl rfl rfl ⟨Nat.le_of_ble_eq_true rfl, Nat.le_of_ble_eq_true rfl⟩ hl.1 (Nat.le_of_ble_eq_true rfl) dX3_readOne_110 ⟨Nat.le_of_ble_eq_true rfl, Nat.le_of_ble_eq_true rfl⟩ (fun r_54 u_56 H locs h_55 => ?_)
            clear hP hD hS
            intro hP hD hS
            obtain ⟨rfl, h_55⟩ := h_55
            have hPD := pd_as [zzO qa 2 [.ref qab, .int (nI kZ), .int (nI kX_48), .int (nI kY_49), .int iX_50, .int iY_15, .ref qd], zzB cy qab 250 fB, zzO qd 3 [.int (nI (T_nb (zao tD r_9 5 5 5))), .int (nI (T_np (zao tD r_9 5 5 5))), .int (wb (T_wh (zao tD r_9 5 5 5))), .int (wb (T_gn (zao tD r_9 5 5 5))), .int (T_sd (zao tD r_9 5 5 5)), .ref qdw, .ref qdn, .ref qdg, .ref qda, .ref qdr, .ref qdm, .ref qdt, .ref qds], zzI cy qdw 8 (T_wo (zao tD r_9 5 5 5)), zzI cy qdn 8 (T_ne (zao tD r_9 5 5 5)), zzI cy qdg 8 (T_go (zao tD r_9 5 5 5)), zzI cy qda 8 (T_ag (zao tD r_9 5 5 5)), zzI cy qdr 8 (T_re (zao tD r_9 5 5 5)), zzI cy qdm 8 (T_me (zao tD r_9 5 5 5)), zzI cy qdt 8 (T_te (zao tD r_9 5 5 5)), zzI cy qds 64 (shF (T_kn (zao tD r_9 5 5 5)))] hP hD rfl
            clear hP hD
            obtain ⟨hP, hD⟩ := hPD
            subst h_55
            refine lv_pop hx hb dX3_readOne_113 rfl ?_
            exact endV (u := [zzO qa 2 [.ref qab, .int (nI kZ), .int (nI kX_48), .int (nI kY_49), .int iX_50, .int iY_15, .ref qd], zzB cy qab 250 fB, zzO qd 3 [.int (nI (T_nb (zao tD r_9 5 5 5))), .int (nI (T_np (zao tD r_9 5 5 5))), .int (wb (T_wh (zao tD r_9 5 5 5))), .int (wb (T_gn (zao tD r_9 5 5 5))), .int (T_sd (zao tD r_9 5 5 5)), .ref qdw, .ref qdn, .ref qdg, .ref qda, .ref qdr, .ref qdm, .ref qdt, .ref qds], zzI cy qdw 8 (T_wo (zao tD r_9 5 5 5)), zzI cy qdn 8 (T_ne (zao tD r_9 5 5 5)), zzI cy qdg 8 (T_go (zao tD r_9 5 5 5)), zzI cy qda 8 (T_ag (zao tD r_9 5 5 5)), zzI cy qdr 8 (T_re (zao tD r_9 5 5 5)), zzI cy qdm 8 (T_me (zao tD r_9 5 5 5)), zzI cy qdt 8 (T_te (zao tD r_9 5 5 5)), zzI cy qds 64 (shF (T_kn (zao tD r_9 5 5 5)))]) hx hb hr hlocks (hP.sub [0, 1, 2, 3, 4, 5, 6, 7, 8, 9, 10] rfl) (hD.sub [0, 1, 2, 3, 4, 5, 6, 7, 8, 9, 10] (by decide +kernel) rfl) hS ⟨kX_48, kY_49, iX_50, iY_15, (zao tD r_9 5 5 5), rfl, ⟨by omega, by omega, by first | omega | (show T_nb tD + 1 ≤ 8; omega) | (show T_nb tD ≤ 8; omega), by first | omega | (show T_np tD + 1 ≤ 8; omega) | (show T_np tD ≤ 8; omega)⟩⟩ dX3_readOne_114
        · refine lv_aload_n hx hb dX3_readOne_80 rfl (lv_at hl 3 rfl) ?_
          refine lv_iconst (v := 0) hx hb dX3_readOne_81 (by decide) ?_
          refine lv_bipush (v := 10) hx hb dX3_readOne_82 (by decide) ?_
          refine cVi (As := [.int 0, .int 10]) (rest := []) (b := qa) (q := (RX3, TX3, 7)) ⟨hx, hb, hml, hown, hts⟩ (c_X3_takeNumber l G cy (H).size qa qab kZ kX_48 kY_49 iX_50 iY_15 qd fB 0 10 hZ (by first | omega | (simp only [nb_sr, np_sr, nb_wr, np_wr, nb_rd, np_rd, nb_ch, np_ch, nb_zr, np_zr, nb_za, np_za, nb_ey, np_ey, nb_hf, np_hf, nb_dd, np_dd, nb_so, np_so, nb_skn, np_skn, nb_swh, np_swh, nb_sgn, np_sgn, nb_ssd, np_ssd, nb_sgo, np_sgo, nb_sag, np_sag]; omega))) L_X3_80 hN hP hD hS hA [9, 10] [true, true, true, true, true, true, true, true, true, false, false] rfl (by decide +kernel) rfl 9 2 rfl rfl rfl ⟨Nat.le_of_ble_eq_true rfl, Nat.le_of_ble_eq_true rfl⟩ hl.1 (Nat.le_of_ble_eq_true rfl) dX3_readOne_84 ⟨Nat.le_of_ble_eq_true rfl, Nat.le_of_ble_eq_true rfl⟩ (fun r_57 u_59 H locs h_58 => ?_)
          clear hP hD hS
          intro hP hD hS
          obtain ⟨kX_60, kY_61, iX_62, iY_63, rfl, h_64, h_58⟩ := h_58
          have hPD := pd_as [zzO qd 3 [.int (nI (T_nb tD)), .int (nI (T_np tD)), .int (wb (T_wh tD)), .int (wb (T_gn tD)), .int (T_sd tD), .ref qdw, .ref qdn, .ref qdg, .ref qda, .ref qdr, .ref qdm, .ref qdt, .ref qds], zzI cy qdw 8 (T_wo tD), zzI cy qdn 8 (T_ne tD), zzI cy qdg 8 (T_go tD), zzI cy qda 8 (T_ag tD), zzI cy qdr 8 (T_re tD), zzI cy qdm 8 (T_me tD), zzI cy qdt 8 (T_te tD), zzI cy qds 64 (shF (T_kn tD)), zzO qa 2 [.ref qab, .int (nI kZ), .int (nI kX_60), .int (nI kY_61), .int iX_62, .int iY_63, .ref qd], zzB cy qab 250 fB] hP hD rfl
          clear hP hD
          obtain ⟨hP, hD⟩ := hPD
          refine lv_goto (tgt := 91) hx hb dX3_readOne_87 (by decide) ?_
          refine lv_istore (lv' := [(4, .int r_57), (3, .int 5), (2, .int 5), (1, .int r_9), (0, .ref qa)]) hx hb dX3_readOne_91 hl (by decide) rfl (fun ls => ?_)
          clear hl
          intro hl
          refine lv_aload_n hx hb dX3_readOne_93 rfl (lv_at hl 4 rfl) ?_
          refine va_get (D := G) (ci := 2) (v := .int iY_63) (C := RX3) (T := TX3) (N := 7) hx hb hts iX_X3 hown hK hP 9 rfl rfl 5 (by decide) (hts _ m_t154) (fun _ h9 => h9) rfl dX3_readOne_94 ?_
          refine lv_iconst (v := (-1)) hx hb dX3_readOne_97 (by decide) ?_
          refine lv_icmp_ne (tgt := 114) hx hb dX3_readOne_98 (by decide) (fun c_65 => ?_) (fun c_65 => ?_)
          · exact endV (u := [zzO qa 2 [.ref qab, .int (nI kZ), .int (nI kX_60), .int (nI kY_61), .int iX_62, .int iY_63, .ref qd], zzB cy qab 250 fB, zzO qd 3 [.int (nI (T_nb tD)), .int (nI (T_np tD)), .int (wb (T_wh tD)), .int (wb (T_gn tD)), .int (T_sd tD), .ref qdw, .ref qdn, .ref qdg, .ref qda, .ref qdr, .ref qdm, .ref qdt, .ref qds], zzI cy qdw 8 (T_wo tD), zzI cy qdn 8 (T_ne tD), zzI cy qdg 8 (T_go tD), zzI cy qda 8 (T_ag tD), zzI cy qdr 8 (T_re tD), zzI cy qdm 8 (T_me tD), zzI cy qdt 8 (T_te tD), zzI cy qds 64 (shF (T_kn tD))]) hx hb hr hlocks (hP.sub [9, 10, 0, 1, 2, 3, 4, 5, 6, 7, 8] rfl) (hD.sub [9, 10, 0, 1, 2, 3, 4, 5, 6, 7, 8] (by decide +kernel) rfl) hS ⟨kX_60, kY_61, iX_62, iY_63, tD, rfl, ⟨by omega, by omega, by first | omega | (show T_nb tD + 1 ≤ 8; omega) | (show T_nb tD ≤ 8; omega), by first | omega | (show T_np tD + 1 ≤ 8; omega) | (show T_np tD ≤ 8; omega)⟩⟩ dX3_readOne_114
          · refine lv_aload_n hx hb dX3_readOne_101 rfl (lv_at hl 4 rfl) ?_
            refine va_get (D := G) (ci := 2) (v := .ref qd) (C := RX3) (T := TX3) (N := 7) hx hb hts iX_X3 hown hK hP 9 rfl rfl 6 (by decide) (hts _ m_t156) (fun _ h9 => h9) rfl dX3_readOne_102 ?_
            refine lv_iload_n hx hb dX3_readOne_105 rfl (lv_at hl 3 rfl) ?_
            refine lv_iload_n hx hb dX3_readOne_106 rfl (lv_at hl 2 rfl) ?_
            refine lv_iload_n hx hb dX3_readOne_107 rfl (lv_at hl 1 rfl) ?_
            refine lv_iload hx hb dX3_readOne_108 (lv_at hl 0 rfl) ?_
            refine cVi (As := [.int r_9, .int 5, .int 5, .int r_57]) (rest := []) (b := qd) (q := (RX4, TX4, 13)) ⟨hx, hb, hml, hown, hts⟩ (c_X4_addOne l G cy (H).size qd tD qdw qdn qdg qda qdr qdm qdt qds r_9 5 5 r_57 (by first | omega | (simp only [nb_sr, np_sr, nb_wr, np_wr, nb_rd, np_rd, nb_ch, np_ch, nb_zr, np_zr, nb_za, np_za, nb_ey, np_ey, nb_hf, np_hf, nb_dd, np_dd, nb_so, np_so, nb_skn, np_skn, nb_swh, np_swh, nb_sgn, np_sgn, nb_ssd, np_ssd, nb_sgo, np_sgo, nb_sag, np_sag]; omega))) L_X3_107 hN hP hD hS hA [0, 1, 2, 3, 4, 5, 6, 7, 8] [false, false, false, false, false, false, false, false, false, true, true] rfl (by decide +kernel) rfl 0 3 rfl rfl rfl ⟨Nat.le_of_ble_eq_true rfl, Nat.le_of_ble_eq_true rfl⟩ hl.1 (Nat.le_of_ble_eq_true rfl) dX3_readOne_110 ⟨Nat.le_of_ble_eq_true rfl, Nat.le_of_ble_eq_true rfl⟩ (fun r_66 u_68 H locs h_67 => ?_)
            clear hP hD hS
            intro hP hD hS
            obtain ⟨rfl, h_67⟩ := h_67
            have hPD := pd_as [zzO qa 2 [.ref qab, .int (nI kZ), .int (nI kX_60), .int (nI kY_61), .int iX_62, .int iY_63, .ref qd], zzB cy qab 250 fB, zzO qd 3 [.int (nI (T_nb (zao tD r_9 5 5 r_57))), .int (nI (T_np (zao tD r_9 5 5 r_57))), .int (wb (T_wh (zao tD r_9 5 5 r_57))), .int (wb (T_gn (zao tD r_9 5 5 r_57))), .int (T_sd (zao tD r_9 5 5 r_57)), .ref qdw, .ref qdn, .ref qdg, .ref qda, .ref qdr, .ref qdm, .ref qdt, .ref qds], zzI cy qdw 8 (T_wo (zao tD r_9 5 5 r_57)), zzI cy qdn 8 (T_ne (zao tD r_9 5 5 r_57)), zzI cy qdg 8 (T_go (zao tD r_9 5 5 r_57)), zzI cy qda 8 (T_ag (zao tD r_9 5 5 r_57)), zzI cy qdr 8 (T_re (zao tD r_9 5 5 r_57)), zzI cy qdm 8 (T_me (zao tD r_9 5 5 r_57)), zzI cy qdt 8 (T_te (zao tD r_9 5 5 r_57)), zzI cy qds 64 (shF (T_kn (zao tD r_9 5 5 r_57)))] hP hD rfl
            clear hP hD
            obtain ⟨hP, hD⟩ := hPD
            subst h_67
            refine lv_pop hx hb dX3_readOne_113 rfl ?_
            exact endV (u := [zzO qa 2 [.ref qab, .int (nI kZ), .int (nI kX_60), .int (nI kY_61), .int iX_62, .int iY_63, .ref qd], zzB cy qab 250 fB, zzO qd 3 [.int (nI (T_nb (zao tD r_9 5 5 r_57))), .int (nI (T_np (zao tD r_9 5 5 r_57))), .int (wb (T_wh (zao tD r_9 5 5 r_57))), .int (wb (T_gn (zao tD r_9 5 5 r_57))), .int (T_sd (zao tD r_9 5 5 r_57)), .ref qdw, .ref qdn, .ref qdg, .ref qda, .ref qdr, .ref qdm, .ref qdt, .ref qds], zzI cy qdw 8 (T_wo (zao tD r_9 5 5 r_57)), zzI cy qdn 8 (T_ne (zao tD r_9 5 5 r_57)), zzI cy qdg 8 (T_go (zao tD r_9 5 5 r_57)), zzI cy qda 8 (T_ag (zao tD r_9 5 5 r_57)), zzI cy qdr 8 (T_re (zao tD r_9 5 5 r_57)), zzI cy qdm 8 (T_me (zao tD r_9 5 5 r_57)), zzI cy qdt 8 (T_te (zao tD r_9 5 5 r_57)), zzI cy qds 64 (shF (T_kn (zao tD r_9 5 5 r_57)))]) hx hb hr hlocks (hP.sub [0, 1, 2, 3, 4, 5, 6, 7, 8, 9, 10] rfl) (hD.sub [0, 1, 2, 3, 4, 5, 6, 7, 8, 9, 10] (by decide +kernel) rfl) hS ⟨kX_60, kY_61, iX_62, iY_63, (zao tD r_9 5 5 r_57), rfl, ⟨by omega, by omega, by first | omega | (show T_nb tD + 1 ≤ 8; omega) | (show T_nb tD ≤ 8; omega), by first | omega | (show T_np tD + 1 ≤ 8; omega) | (show T_np tD ≤ 8; omega)⟩⟩ dX3_readOne_114
      · refine lv_aload_n hx hb dX3_readOne_59 rfl (lv_at hl 2 rfl) ?_
        refine lv_iconst (v := 0) hx hb dX3_readOne_60 (by decide) ?_
        refine lv_bipush (v := 10) hx hb dX3_readOne_61 (by decide) ?_
        refine cVi (As := [.int 0, .int 10]) (rest := []) (b := qa) (q := (RX3, TX3, 7)) ⟨hx, hb, hml, hown, hts⟩ (c_X3_takeNumber l G cy (H).size qa qab kZ kX_36 kY_37 iX_38 iY_15 qd fB 0 10 hZ (by first | omega | (simp only [nb_sr, np_sr, nb_wr, np_wr, nb_rd, np_rd, nb_ch, np_ch, nb_zr, np_zr, nb_za, np_za, nb_ey, np_ey, nb_hf, np_hf, nb_dd, np_dd, nb_so, np_so, nb_skn, np_skn, nb_swh, np_swh, nb_sgn, np_sgn, nb_ssd, np_ssd, nb_sgo, np_sgo, nb_sag, np_sag]; omega))) L_X3_80 hN hP hD hS hA [9, 10] [true, true, true, true, true, true, true, true, true, false, false] rfl (by decide +kernel) rfl 9 2 rfl rfl rfl ⟨Nat.le_of_ble_eq_true rfl, Nat.le_of_ble_eq_true rfl⟩ hl.1 (Nat.le_of_ble_eq_true rfl) dX3_readOne_63 ⟨Nat.le_of_ble_eq_true rfl, Nat.le_of_ble_eq_true rfl⟩ (fun r_69 u_71 H locs h_70 => ?_)
        clear hP hD hS
        intro hP hD hS
        obtain ⟨kX_72, kY_73, iX_74, iY_75, rfl, h_76, h_70⟩ := h_70
        have hPD := pd_as [zzO qd 3 [.int (nI (T_nb tD)), .int (nI (T_np tD)), .int (wb (T_wh tD)), .int (wb (T_gn tD)), .int (T_sd tD), .ref qdw, .ref qdn, .ref qdg, .ref qda, .ref qdr, .ref qdm, .ref qdt, .ref qds], zzI cy qdw 8 (T_wo tD), zzI cy qdn 8 (T_ne tD), zzI cy qdg 8 (T_go tD), zzI cy qda 8 (T_ag tD), zzI cy qdr 8 (T_re tD), zzI cy qdm 8 (T_me tD), zzI cy qdt 8 (T_te tD), zzI cy qds 64 (shF (T_kn tD)), zzO qa 2 [.ref qab, .int (nI kZ), .int (nI kX_72), .int (nI kY_73), .int iX_74, .int iY_75, .ref qd], zzB cy qab 250 fB] hP hD rfl
        clear hP hD
        obtain ⟨hP, hD⟩ := hPD
        refine lv_goto (tgt := 70) hx hb dX3_readOne_66 (by decide) ?_
        refine lv_istore_n (lv' := [(3, .int r_69), (2, .int 5), (1, .int r_9), (0, .ref qa)]) hx hb dX3_readOne_70 rfl hl (by decide) rfl (fun ls => ?_)
        clear hl
        intro hl
        refine lv_aload_n hx hb dX3_readOne_71 rfl (lv_at hl 3 rfl) ?_
        obtain ⟨qs_77, qv_79, hs_78, hf_80⟩ := hX (RX3, 105, "tells", [116, 101, 108, 108, 115]) (List.mem_of_getElem? (i := 6) rfl)
        refine va_ldcS hx hb hown hs_78 dX3_readOne_72 ?_
        refine cVXi (As := [.ref qs_77]) (rest := []) (b := qa) (q := (RX3, TX3, 7)) ⟨hx, hb, hml, hown, hts⟩ (c_X3_passes l G cy (H).size qa qab kZ kX_72 kY_73 iX_74 iY_75 qd fB qs_77 ([116, 101, 108, 108, 115]) qv_79 hZ (by first | omega | (simp only [nb_sr, np_sr, nb_wr, np_wr, nb_rd, np_rd, nb_ch, np_ch, nb_zr, np_zr, nb_za, np_za, nb_ey, np_ey, nb_hf, np_hf, nb_dd, np_dd, nb_so, np_so, nb_skn, np_skn, nb_swh, np_swh, nb_sgn, np_sgn, nb_ssd, np_ssd, nb_sgo, np_sgo, nb_sag, np_sag]; omega)) (by decide) as_tells) L_X3_86 hN hP hD hS hA [9, 10] [true, true, true, true, true, true, true, true, true, false, false] rfl (by decide +kernel) rfl 9 2 rfl rfl SF_ok hf_80 rfl ⟨Nat.le_of_ble_eq_true rfl, Nat.le_of_ble_eq_true rfl⟩ hl.1 (Nat.le_of_ble_eq_true rfl) dX3_readOne_74 ⟨Nat.le_of_ble_eq_true rfl, Nat.le_of_ble_eq_true rfl⟩ (fun r_81 u_83 H locs h_82 => ?_)
        clear hP hD hS
        intro hP hD hS
        obtain ⟨kX_84, kY_85, iX_86, rfl, h_87, h_82⟩ := h_82
        have hPD := pd_as [zzO qd 3 [.int (nI (T_nb tD)), .int (nI (T_np tD)), .int (wb (T_wh tD)), .int (wb (T_gn tD)), .int (T_sd tD), .ref qdw, .ref qdn, .ref qdg, .ref qda, .ref qdr, .ref qdm, .ref qdt, .ref qds], zzI cy qdw 8 (T_wo tD), zzI cy qdn 8 (T_ne tD), zzI cy qdg 8 (T_go tD), zzI cy qda 8 (T_ag tD), zzI cy qdr 8 (T_re tD), zzI cy qdm 8 (T_me tD), zzI cy qdt 8 (T_te tD), zzI cy qds 64 (shF (T_kn tD)), zzO qa 2 [.ref qab, .int (nI kZ), .int (nI kX_84), .int (nI kY_85), .int iX_86, .int iY_75, .ref qd], zzB cy qab 250 fB] hP hD rfl
        clear hP hD
        obtain ⟨hP, hD⟩ := hPD
        refine lv_if_eq (tgt := 90) hx hb dX3_readOne_77 (by decide) (fun c_88 => ?_) (fun c_88 => ?_)
        · refine lv_iconst (v := 5) hx hb dX3_readOne_90 (by decide) ?_
          refine lv_istore (lv' := [(4, .int 5), (3, .int r_69), (2, .int 5), (1, .int r_9), (0, .ref qa)]) hx hb dX3_readOne_91 hl (by decide) rfl (fun ls => ?_)
          clear hl
          intro hl
          refine lv_aload_n hx hb dX3_readOne_93 rfl (lv_at hl 4 rfl) ?_
          refine va_get (D := G) (ci := 2) (v := .int iY_75) (C := RX3) (T := TX3) (N := 7) hx hb hts iX_X3 hown hK hP 9 rfl rfl 5 (by decide) (hts _ m_t154) (fun _ h9 => h9) rfl dX3_readOne_94 ?_
          refine lv_iconst (v := (-1)) hx hb dX3_readOne_97 (by decide) ?_
          refine lv_icmp_ne (tgt := 114) hx hb dX3_readOne_98 (by decide) (fun c_89 => ?_) (fun c_89 => ?_)
          · exact endV (u := [zzO qa 2 [.ref qab, .int (nI kZ), .int (nI kX_84), .int (nI kY_85), .int iX_86, .int iY_75, .ref qd], zzB cy qab 250 fB, zzO qd 3 [.int (nI (T_nb tD)), .int (nI (T_np tD)), .int (wb (T_wh tD)), .int (wb (T_gn tD)), .int (T_sd tD), .ref qdw, .ref qdn, .ref qdg, .ref qda, .ref qdr, .ref qdm, .ref qdt, .ref qds], zzI cy qdw 8 (T_wo tD), zzI cy qdn 8 (T_ne tD), zzI cy qdg 8 (T_go tD), zzI cy qda 8 (T_ag tD), zzI cy qdr 8 (T_re tD), zzI cy qdm 8 (T_me tD), zzI cy qdt 8 (T_te tD), zzI cy qds 64 (shF (T_kn tD))]) hx hb hr hlocks (hP.sub [9, 10, 0, 1, 2, 3, 4, 5, 6, 7, 8] rfl) (hD.sub [9, 10, 0, 1, 2, 3, 4, 5, 6, 7, 8] (by decide +kernel) rfl) hS ⟨kX_84, kY_85, iX_86, iY_75, tD, rfl, ⟨by omega, by omega, by first | omega | (show T_nb tD + 1 ≤ 8; omega) | (show T_nb tD ≤ 8; omega), by first | omega | (show T_np tD + 1 ≤ 8; omega) | (show T_np tD ≤ 8; omega)⟩⟩ dX3_readOne_114
          · refine lv_aload_n hx hb dX3_readOne_101 rfl (lv_at hl 4 rfl) ?_
            refine va_get (D := G) (ci := 2) (v := .ref qd) (C := RX3) (T := TX3) (N := 7) hx hb hts iX_X3 hown hK hP 9 rfl rfl 6 (by decide) (hts _ m_t156) (fun _ h9 => h9) rfl dX3_readOne_102 ?_
            refine lv_iload_n hx hb dX3_readOne_105 rfl (lv_at hl 3 rfl) ?_
            refine lv_iload_n hx hb dX3_readOne_106 rfl (lv_at hl 2 rfl) ?_
            refine lv_iload_n hx hb dX3_readOne_107 rfl (lv_at hl 1 rfl) ?_
            refine lv_iload hx hb dX3_readOne_108 (lv_at hl 0 rfl) ?_
            refine cVi (As := [.int r_9, .int 5, .int r_69, .int 5]) (rest := []) (b := qd) (q := (RX4, TX4, 13)) ⟨hx, hb, hml, hown, hts⟩ (c_X4_addOne l G cy (H).size qd tD qdw qdn qdg qda qdr qdm qdt qds r_9 5 r_69 5 (by first | omega | (simp only [nb_sr, np_sr, nb_wr, np_wr, nb_rd, np_rd, nb_ch, np_ch, nb_zr, np_zr, nb_za, np_za, nb_ey, np_ey, nb_hf, np_hf, nb_dd, np_dd, nb_so, np_so, nb_skn, np_skn, nb_swh, np_swh, nb_sgn, np_sgn, nb_ssd, np_ssd, nb_sgo, np_sgo, nb_sag, np_sag]; omega))) L_X3_107 hN hP hD hS hA [0, 1, 2, 3, 4, 5, 6, 7, 8] [false, false, false, false, false, false, false, false, false, true, true] rfl (by decide +kernel) rfl 0 3 rfl rfl rfl ⟨Nat.le_of_ble_eq_true rfl, Nat.le_of_ble_eq_true rfl⟩ hl.1 (Nat.le_of_ble_eq_true rfl) dX3_readOne_110 ⟨Nat.le_of_ble_eq_true rfl, Nat.le_of_ble_eq_true rfl⟩ (fun r_90 u_92 H locs h_91 => ?_)
            clear hP hD hS
            intro hP hD hS
            obtain ⟨rfl, h_91⟩ := h_91
            have hPD := pd_as [zzO qa 2 [.ref qab, .int (nI kZ), .int (nI kX_84), .int (nI kY_85), .int iX_86, .int iY_75, .ref qd], zzB cy qab 250 fB, zzO qd 3 [.int (nI (T_nb (zao tD r_9 5 r_69 5))), .int (nI (T_np (zao tD r_9 5 r_69 5))), .int (wb (T_wh (zao tD r_9 5 r_69 5))), .int (wb (T_gn (zao tD r_9 5 r_69 5))), .int (T_sd (zao tD r_9 5 r_69 5)), .ref qdw, .ref qdn, .ref qdg, .ref qda, .ref qdr, .ref qdm, .ref qdt, .ref qds], zzI cy qdw 8 (T_wo (zao tD r_9 5 r_69 5)), zzI cy qdn 8 (T_ne (zao tD r_9 5 r_69 5)), zzI cy qdg 8 (T_go (zao tD r_9 5 r_69 5)), zzI cy qda 8 (T_ag (zao tD r_9 5 r_69 5)), zzI cy qdr 8 (T_re (zao tD r_9 5 r_69 5)), zzI cy qdm 8 (T_me (zao tD r_9 5 r_69 5)), zzI cy qdt 8 (T_te (zao tD r_9 5 r_69 5)), zzI cy qds 64 (shF (T_kn (zao tD r_9 5 r_69 5)))] hP hD rfl
            clear hP hD
            obtain ⟨hP, hD⟩ := hPD
            subst h_91
            refine lv_pop hx hb dX3_readOne_113 rfl ?_
            exact endV (u := [zzO qa 2 [.ref qab, .int (nI kZ), .int (nI kX_84), .int (nI kY_85), .int iX_86, .int iY_75, .ref qd], zzB cy qab 250 fB, zzO qd 3 [.int (nI (T_nb (zao tD r_9 5 r_69 5))), .int (nI (T_np (zao tD r_9 5 r_69 5))), .int (wb (T_wh (zao tD r_9 5 r_69 5))), .int (wb (T_gn (zao tD r_9 5 r_69 5))), .int (T_sd (zao tD r_9 5 r_69 5)), .ref qdw, .ref qdn, .ref qdg, .ref qda, .ref qdr, .ref qdm, .ref qdt, .ref qds], zzI cy qdw 8 (T_wo (zao tD r_9 5 r_69 5)), zzI cy qdn 8 (T_ne (zao tD r_9 5 r_69 5)), zzI cy qdg 8 (T_go (zao tD r_9 5 r_69 5)), zzI cy qda 8 (T_ag (zao tD r_9 5 r_69 5)), zzI cy qdr 8 (T_re (zao tD r_9 5 r_69 5)), zzI cy qdm 8 (T_me (zao tD r_9 5 r_69 5)), zzI cy qdt 8 (T_te (zao tD r_9 5 r_69 5)), zzI cy qds 64 (shF (T_kn (zao tD r_9 5 r_69 5)))]) hx hb hr hlocks (hP.sub [0, 1, 2, 3, 4, 5, 6, 7, 8, 9, 10] rfl) (hD.sub [0, 1, 2, 3, 4, 5, 6, 7, 8, 9, 10] (by decide +kernel) rfl) hS ⟨kX_84, kY_85, iX_86, iY_75, (zao tD r_9 5 r_69 5), rfl, ⟨by omega, by omega, by first | omega | (show T_nb tD + 1 ≤ 8; omega) | (show T_nb tD ≤ 8; omega), by first | omega | (show T_np tD + 1 ≤ 8; omega) | (show T_np tD ≤ 8; omega)⟩⟩ dX3_readOne_114
        · refine lv_aload_n hx hb dX3_readOne_80 rfl (lv_at hl 3 rfl) ?_
          refine lv_iconst (v := 0) hx hb dX3_readOne_81 (by decide) ?_
          refine lv_bipush (v := 10) hx hb dX3_readOne_82 (by decide) ?_
          refine cVi (As := [.int 0, .int 10]) (rest := []) (b := qa) (q := (RX3, TX3, 7)) ⟨hx, hb, hml, hown, hts⟩ (c_X3_takeNumber l G cy (H).size qa qab kZ kX_84 kY_85 iX_86 iY_75 qd fB 0 10 hZ (by first | omega | (simp only [nb_sr, np_sr, nb_wr, np_wr, nb_rd, np_rd, nb_ch, np_ch, nb_zr, np_zr, nb_za, np_za, nb_ey, np_ey, nb_hf, np_hf, nb_dd, np_dd, nb_so, np_so, nb_skn, np_skn, nb_swh, np_swh, nb_sgn, np_sgn, nb_ssd, np_ssd, nb_sgo, np_sgo, nb_sag, np_sag]; omega))) L_X3_80 hN hP hD hS hA [9, 10] [true, true, true, true, true, true, true, true, true, false, false] rfl (by decide +kernel) rfl 9 2 rfl rfl rfl ⟨Nat.le_of_ble_eq_true rfl, Nat.le_of_ble_eq_true rfl⟩ hl.1 (Nat.le_of_ble_eq_true rfl) dX3_readOne_84 ⟨Nat.le_of_ble_eq_true rfl, Nat.le_of_ble_eq_true rfl⟩ (fun r_93 u_95 H locs h_94 => ?_)
          clear hP hD hS
          intro hP hD hS
          obtain ⟨kX_96, kY_97, iX_98, iY_99, rfl, h_100, h_94⟩ := h_94
          have hPD := pd_as [zzO qd 3 [.int (nI (T_nb tD)), .int (nI (T_np tD)), .int (wb (T_wh tD)), .int (wb (T_gn tD)), .int (T_sd tD), .ref qdw, .ref qdn, .ref qdg, .ref qda, .ref qdr, .ref qdm, .ref qdt, .ref qds], zzI cy qdw 8 (T_wo tD), zzI cy qdn 8 (T_ne tD), zzI cy qdg 8 (T_go tD), zzI cy qda 8 (T_ag tD), zzI cy qdr 8 (T_re tD), zzI cy qdm 8 (T_me tD), zzI cy qdt 8 (T_te tD), zzI cy qds 64 (shF (T_kn tD)), zzO qa 2 [.ref qab, .int (nI kZ), .int (nI kX_96), .int (nI kY_97), .int iX_98, .int iY_99, .ref qd], zzB cy qab 250 fB] hP hD rfl
          clear hP hD
          obtain ⟨hP, hD⟩ := hPD
          refine lv_goto (tgt := 91) hx hb dX3_readOne_87 (by decide) ?_
          refine lv_istore (lv' := [(4, .int r_93), (3, .int r_69), (2, .int 5), (1, .int r_9), (0, .ref qa)]) hx hb dX3_readOne_91 hl (by decide) rfl (fun ls => ?_)
          clear hl
          intro hl
          refine lv_aload_n hx hb dX3_readOne_93 rfl (lv_at hl 4 rfl) ?_
          refine va_get (D := G) (ci := 2) (v := .int iY_99) (C := RX3) (T := TX3) (N := 7) hx hb hts iX_X3 hown hK hP 9 rfl rfl 5 (by decide) (hts _ m_t154) (fun _ h9 => h9) rfl dX3_readOne_94 ?_
          refine lv_iconst (v := (-1)) hx hb dX3_readOne_97 (by decide) ?_
          refine lv_icmp_ne (tgt := 114) hx hb dX3_readOne_98 (by decide) (fun c_101 => ?_) (fun c_101 => ?_)
          · exact endV (u := [zzO qa 2 [.ref qab, .int (nI kZ), .int (nI kX_96), .int (nI kY_97), .int iX_98, .int iY_99, .ref qd], zzB cy qab 250 fB, zzO qd 3 [.int (nI (T_nb tD)), .int (nI (T_np tD)), .int (wb (T_wh tD)), .int (wb (T_gn tD)), .int (T_sd tD), .ref qdw, .ref qdn, .ref qdg, .ref qda, .ref qdr, .ref qdm, .ref qdt, .ref qds], zzI cy qdw 8 (T_wo tD), zzI cy qdn 8 (T_ne tD), zzI cy qdg 8 (T_go tD), zzI cy qda 8 (T_ag tD), zzI cy qdr 8 (T_re tD), zzI cy qdm 8 (T_me tD), zzI cy qdt 8 (T_te tD), zzI cy qds 64 (shF (T_kn tD))]) hx hb hr hlocks (hP.sub [9, 10, 0, 1, 2, 3, 4, 5, 6, 7, 8] rfl) (hD.sub [9, 10, 0, 1, 2, 3, 4, 5, 6, 7, 8] (by decide +kernel) rfl) hS ⟨kX_96, kY_97, iX_98, iY_99, tD, rfl, ⟨by omega, by omega, by first | omega | (show T_nb tD + 1 ≤ 8; omega) | (show T_nb tD ≤ 8; omega), by first | omega | (show T_np tD + 1 ≤ 8; omega) | (show T_np tD ≤ 8; omega)⟩⟩ dX3_readOne_114
          · refine lv_aload_n hx hb dX3_readOne_101 rfl (lv_at hl 4 rfl) ?_
            refine va_get (D := G) (ci := 2) (v := .ref qd) (C := RX3) (T := TX3) (N := 7) hx hb hts iX_X3 hown hK hP 9 rfl rfl 6 (by decide) (hts _ m_t156) (fun _ h9 => h9) rfl dX3_readOne_102 ?_
            refine lv_iload_n hx hb dX3_readOne_105 rfl (lv_at hl 3 rfl) ?_
            refine lv_iload_n hx hb dX3_readOne_106 rfl (lv_at hl 2 rfl) ?_
            refine lv_iload_n hx hb dX3_readOne_107 rfl (lv_at hl 1 rfl) ?_
            refine lv_iload hx hb dX3_readOne_108 (lv_at hl 0 rfl) ?_
            refine cVi (As := [.int r_9, .int 5, .int r_69, .int r_93]) (rest := []) (b := qd) (q := (RX4, TX4, 13)) ⟨hx, hb, hml, hown, hts⟩ (c_X4_addOne l G cy (H).size qd tD qdw qdn qdg qda qdr qdm qdt qds r_9 5 r_69 r_93 (by first | omega | (simp only [nb_sr, np_sr, nb_wr, np_wr, nb_rd, np_rd, nb_ch, np_ch, nb_zr, np_zr, nb_za, np_za, nb_ey, np_ey, nb_hf, np_hf, nb_dd, np_dd, nb_so, np_so, nb_skn, np_skn, nb_swh, np_swh, nb_sgn, np_sgn, nb_ssd, np_ssd, nb_sgo, np_sgo, nb_sag, np_sag]; omega))) L_X3_107 hN hP hD hS hA [0, 1, 2, 3, 4, 5, 6, 7, 8] [false, false, false, false, false, false, false, false, false, true, true] rfl (by decide +kernel) rfl 0 3 rfl rfl rfl ⟨Nat.le_of_ble_eq_true rfl, Nat.le_of_ble_eq_true rfl⟩ hl.1 (Nat.le_of_ble_eq_true rfl) dX3_readOne_110 ⟨Nat.le_of_ble_eq_true rfl, Nat.le_of_ble_eq_true rfl⟩ (fun r_102 u_104 H locs h_103 => ?_)
            clear hP hD hS
            intro hP hD hS
            obtain ⟨rfl, h_103⟩ := h_103
            have hPD := pd_as [zzO qa 2 [.ref qab, .int (nI kZ), .int (nI kX_96), .int (nI kY_97), .int iX_98, .int iY_99, .ref qd], zzB cy qab 250 fB, zzO qd 3 [.int (nI (T_nb (zao tD r_9 5 r_69 r_93))), .int (nI (T_np (zao tD r_9 5 r_69 r_93))), .int (wb (T_wh (zao tD r_9 5 r_69 r_93))), .int (wb (T_gn (zao tD r_9 5 r_69 r_93))), .int (T_sd (zao tD r_9 5 r_69 r_93)), .ref qdw, .ref qdn, .ref qdg, .ref qda, .ref qdr, .ref qdm, .ref qdt, .ref qds], zzI cy qdw 8 (T_wo (zao tD r_9 5 r_69 r_93)), zzI cy qdn 8 (T_ne (zao tD r_9 5 r_69 r_93)), zzI cy qdg 8 (T_go (zao tD r_9 5 r_69 r_93)), zzI cy qda 8 (T_ag (zao tD r_9 5 r_69 r_93)), zzI cy qdr 8 (T_re (zao tD r_9 5 r_69 r_93)), zzI cy qdm 8 (T_me (zao tD r_9 5 r_69 r_93)), zzI cy qdt 8 (T_te (zao tD r_9 5 r_69 r_93)), zzI cy qds 64 (shF (T_kn (zao tD r_9 5 r_69 r_93)))] hP hD rfl
            clear hP hD
            obtain ⟨hP, hD⟩ := hPD
            subst h_103
            refine lv_pop hx hb dX3_readOne_113 rfl ?_
            exact endV (u := [zzO qa 2 [.ref qab, .int (nI kZ), .int (nI kX_96), .int (nI kY_97), .int iX_98, .int iY_99, .ref qd], zzB cy qab 250 fB, zzO qd 3 [.int (nI (T_nb (zao tD r_9 5 r_69 r_93))), .int (nI (T_np (zao tD r_9 5 r_69 r_93))), .int (wb (T_wh (zao tD r_9 5 r_69 r_93))), .int (wb (T_gn (zao tD r_9 5 r_69 r_93))), .int (T_sd (zao tD r_9 5 r_69 r_93)), .ref qdw, .ref qdn, .ref qdg, .ref qda, .ref qdr, .ref qdm, .ref qdt, .ref qds], zzI cy qdw 8 (T_wo (zao tD r_9 5 r_69 r_93)), zzI cy qdn 8 (T_ne (zao tD r_9 5 r_69 r_93)), zzI cy qdg 8 (T_go (zao tD r_9 5 r_69 r_93)), zzI cy qda 8 (T_ag (zao tD r_9 5 r_69 r_93)), zzI cy qdr 8 (T_re (zao tD r_9 5 r_69 r_93)), zzI cy qdm 8 (T_me (zao tD r_9 5 r_69 r_93)), zzI cy qdt 8 (T_te (zao tD r_9 5 r_69 r_93)), zzI cy qds 64 (shF (T_kn (zao tD r_9 5 r_69 r_93)))]) hx hb hr hlocks (hP.sub [0, 1, 2, 3, 4, 5, 6, 7, 8, 9, 10] rfl) (hD.sub [0, 1, 2, 3, 4, 5, 6, 7, 8, 9, 10] (by decide +kernel) rfl) hS ⟨kX_96, kY_97, iX_98, iY_99, (zao tD r_9 5 r_69 r_93), rfl, ⟨by omega, by omega, by first | omega | (show T_nb tD + 1 ≤ 8; omega) | (show T_nb tD ≤ 8; omega), by first | omega | (show T_np tD + 1 ≤ 8; omega) | (show T_np tD ≤ 8; omega)⟩⟩ dX3_readOne_114
    · refine lv_aload_n hx hb dX3_readOne_38 rfl (lv_at hl 1 rfl) ?_
      refine lv_iconst (v := 0) hx hb dX3_readOne_39 (by decide) ?_
      refine lv_bipush (v := 10) hx hb dX3_readOne_40 (by decide) ?_
      refine cVi (As := [.int 0, .int 10]) (rest := []) (b := qa) (q := (RX3, TX3, 7)) ⟨hx, hb, hml, hown, hts⟩ (c_X3_takeNumber l G cy (H).size qa qab kZ kX_24 kY_25 iX_26 iY_15 qd fB 0 10 hZ (by first | omega | (simp only [nb_sr, np_sr, nb_wr, np_wr, nb_rd, np_rd, nb_ch, np_ch, nb_zr, np_zr, nb_za, np_za, nb_ey, np_ey, nb_hf, np_hf, nb_dd, np_dd, nb_so, np_so, nb_skn, np_skn, nb_swh, np_swh, nb_sgn, np_sgn, nb_ssd, np_ssd, nb_sgo, np_sgo, nb_sag, np_sag]; omega))) L_X3_80 hN hP hD hS hA [9, 10] [true, true, true, true, true, true, true, true, true, false, false] rfl (by decide +kernel) rfl 9 2 rfl rfl rfl ⟨Nat.le_of_ble_eq_true rfl, Nat.le_of_ble_eq_true rfl⟩ hl.1 (Nat.le_of_ble_eq_true rfl) dX3_readOne_42 ⟨Nat.le_of_ble_eq_true rfl, Nat.le_of_ble_eq_true rfl⟩ (fun r_105 u_107 H locs h_106 => ?_)
      clear hP hD hS
      intro hP hD hS
      obtain ⟨kX_108, kY_109, iX_110, iY_111, rfl, h_112, h_106⟩ := h_106
      have hPD := pd_as [zzO qd 3 [.int (nI (T_nb tD)), .int (nI (T_np tD)), .int (wb (T_wh tD)), .int (wb (T_gn tD)), .int (T_sd tD), .ref qdw, .ref qdn, .ref qdg, .ref qda, .ref qdr, .ref qdm, .ref qdt, .ref qds], zzI cy qdw 8 (T_wo tD), zzI cy qdn 8 (T_ne tD), zzI cy qdg 8 (T_go tD), zzI cy qda 8 (T_ag tD), zzI cy qdr 8 (T_re tD), zzI cy qdm 8 (T_me tD), zzI cy qdt 8 (T_te tD), zzI cy qds 64 (shF (T_kn tD)), zzO qa 2 [.ref qab, .int (nI kZ), .int (nI kX_108), .int (nI kY_109), .int iX_110, .int iY_111, .ref qd], zzB cy qab 250 fB] hP hD rfl
      clear hP hD
      obtain ⟨hP, hD⟩ := hPD
      refine lv_goto (tgt := 49) hx hb dX3_readOne_45 (by decide) ?_
      refine lv_istore_n (lv' := [(2, .int r_105), (1, .int r_9), (0, .ref qa)]) hx hb dX3_readOne_49 rfl hl (by decide) rfl (fun ls => ?_)
      clear hl
      intro hl
      refine lv_aload_n hx hb dX3_readOne_50 rfl (lv_at hl 2 rfl) ?_
      obtain ⟨qs_113, qv_115, hs_114, hf_116⟩ := hX (RX3, 103, "keeps", [107, 101, 101, 112, 115]) (List.mem_of_getElem? (i := 5) rfl)
      refine va_ldcS hx hb hown hs_114 dX3_readOne_51 ?_
      refine cVXi (As := [.ref qs_113]) (rest := []) (b := qa) (q := (RX3, TX3, 7)) ⟨hx, hb, hml, hown, hts⟩ (c_X3_passes l G cy (H).size qa qab kZ kX_108 kY_109 iX_110 iY_111 qd fB qs_113 ([107, 101, 101, 112, 115]) qv_115 hZ (by first | omega | (simp only [nb_sr, np_sr, nb_wr, np_wr, nb_rd, np_rd, nb_ch, np_ch, nb_zr, np_zr, nb_za, np_za, nb_ey, np_ey, nb_hf, np_hf, nb_dd, np_dd, nb_so, np_so, nb_skn, np_skn, nb_swh, np_swh, nb_sgn, np_sgn, nb_ssd, np_ssd, nb_sgo, np_sgo, nb_sag, np_sag]; omega)) (by decide) as_keeps) L_X3_86 hN hP hD hS hA [9, 10] [true, true, true, true, true, true, true, true, true, false, false] rfl (by decide +kernel) rfl 9 2 rfl rfl SF_ok hf_116 rfl ⟨Nat.le_of_ble_eq_true rfl, Nat.le_of_ble_eq_true rfl⟩ hl.1 (Nat.le_of_ble_eq_true rfl) dX3_readOne_53 ⟨Nat.le_of_ble_eq_true rfl, Nat.le_of_ble_eq_true rfl⟩ (fun r_117 u_119 H locs h_118 => ?_)
      clear hP hD hS
      intro hP hD hS
      obtain ⟨kX_120, kY_121, iX_122, rfl, h_123, h_118⟩ := h_118
      have hPD := pd_as [zzO qd 3 [.int (nI (T_nb tD)), .int (nI (T_np tD)), .int (wb (T_wh tD)), .int (wb (T_gn tD)), .int (T_sd tD), .ref qdw, .ref qdn, .ref qdg, .ref qda, .ref qdr, .ref qdm, .ref qdt, .ref qds], zzI cy qdw 8 (T_wo tD), zzI cy qdn 8 (T_ne tD), zzI cy qdg 8 (T_go tD), zzI cy qda 8 (T_ag tD), zzI cy qdr 8 (T_re tD), zzI cy qdm 8 (T_me tD), zzI cy qdt 8 (T_te tD), zzI cy qds 64 (shF (T_kn tD)), zzO qa 2 [.ref qab, .int (nI kZ), .int (nI kX_120), .int (nI kY_121), .int iX_122, .int iY_111, .ref qd], zzB cy qab 250 fB] hP hD rfl
      clear hP hD
      obtain ⟨hP, hD⟩ := hPD
      refine lv_if_eq (tgt := 69) hx hb dX3_readOne_56 (by decide) (fun c_124 => ?_) (fun c_124 => ?_)
      · refine lv_iconst (v := 5) hx hb dX3_readOne_69 (by decide) ?_
        refine lv_istore_n (lv' := [(3, .int 5), (2, .int r_105), (1, .int r_9), (0, .ref qa)]) hx hb dX3_readOne_70 rfl hl (by decide) rfl (fun ls => ?_)
        clear hl
        intro hl
        refine lv_aload_n hx hb dX3_readOne_71 rfl (lv_at hl 3 rfl) ?_
        obtain ⟨qs_125, qv_127, hs_126, hf_128⟩ := hX (RX3, 105, "tells", [116, 101, 108, 108, 115]) (List.mem_of_getElem? (i := 6) rfl)
        refine va_ldcS hx hb hown hs_126 dX3_readOne_72 ?_
        refine cVXi (As := [.ref qs_125]) (rest := []) (b := qa) (q := (RX3, TX3, 7)) ⟨hx, hb, hml, hown, hts⟩ (c_X3_passes l G cy (H).size qa qab kZ kX_120 kY_121 iX_122 iY_111 qd fB qs_125 ([116, 101, 108, 108, 115]) qv_127 hZ (by first | omega | (simp only [nb_sr, np_sr, nb_wr, np_wr, nb_rd, np_rd, nb_ch, np_ch, nb_zr, np_zr, nb_za, np_za, nb_ey, np_ey, nb_hf, np_hf, nb_dd, np_dd, nb_so, np_so, nb_skn, np_skn, nb_swh, np_swh, nb_sgn, np_sgn, nb_ssd, np_ssd, nb_sgo, np_sgo, nb_sag, np_sag]; omega)) (by decide) as_tells) L_X3_86 hN hP hD hS hA [9, 10] [true, true, true, true, true, true, true, true, true, false, false] rfl (by decide +kernel) rfl 9 2 rfl rfl SF_ok hf_128 rfl ⟨Nat.le_of_ble_eq_true rfl, Nat.le_of_ble_eq_true rfl⟩ hl.1 (Nat.le_of_ble_eq_true rfl) dX3_readOne_74 ⟨Nat.le_of_ble_eq_true rfl, Nat.le_of_ble_eq_true rfl⟩ (fun r_129 u_131 H locs h_130 => ?_)
        clear hP hD hS
        intro hP hD hS
        obtain ⟨kX_132, kY_133, iX_134, rfl, h_135, h_130⟩ := h_130
        have hPD := pd_as [zzO qd 3 [.int (nI (T_nb tD)), .int (nI (T_np tD)), .int (wb (T_wh tD)), .int (wb (T_gn tD)), .int (T_sd tD), .ref qdw, .ref qdn, .ref qdg, .ref qda, .ref qdr, .ref qdm, .ref qdt, .ref qds], zzI cy qdw 8 (T_wo tD), zzI cy qdn 8 (T_ne tD), zzI cy qdg 8 (T_go tD), zzI cy qda 8 (T_ag tD), zzI cy qdr 8 (T_re tD), zzI cy qdm 8 (T_me tD), zzI cy qdt 8 (T_te tD), zzI cy qds 64 (shF (T_kn tD)), zzO qa 2 [.ref qab, .int (nI kZ), .int (nI kX_132), .int (nI kY_133), .int iX_134, .int iY_111, .ref qd], zzB cy qab 250 fB] hP hD rfl
        clear hP hD
        obtain ⟨hP, hD⟩ := hPD
        refine lv_if_eq (tgt := 90) hx hb dX3_readOne_77 (by decide) (fun c_136 => ?_) (fun c_136 => ?_)
        · refine lv_iconst (v := 5) hx hb dX3_readOne_90 (by decide) ?_
          refine lv_istore (lv' := [(4, .int 5), (3, .int 5), (2, .int r_105), (1, .int r_9), (0, .ref qa)]) hx hb dX3_readOne_91 hl (by decide) rfl (fun ls => ?_)
          clear hl
          intro hl
          refine lv_aload_n hx hb dX3_readOne_93 rfl (lv_at hl 4 rfl) ?_
          refine va_get (D := G) (ci := 2) (v := .int iY_111) (C := RX3) (T := TX3) (N := 7) hx hb hts iX_X3 hown hK hP 9 rfl rfl 5 (by decide) (hts _ m_t154) (fun _ h9 => h9) rfl dX3_readOne_94 ?_
          refine lv_iconst (v := (-1)) hx hb dX3_readOne_97 (by decide) ?_
          refine lv_icmp_ne (tgt := 114) hx hb dX3_readOne_98 (by decide) (fun c_137 => ?_) (fun c_137 => ?_)
          · exact endV (u := [zzO qa 2 [.ref qab, .int (nI kZ), .int (nI kX_132), .int (nI kY_133), .int iX_134, .int iY_111, .ref qd], zzB cy qab 250 fB, zzO qd 3 [.int (nI (T_nb tD)), .int (nI (T_np tD)), .int (wb (T_wh tD)), .int (wb (T_gn tD)), .int (T_sd tD), .ref qdw, .ref qdn, .ref qdg, .ref qda, .ref qdr, .ref qdm, .ref qdt, .ref qds], zzI cy qdw 8 (T_wo tD), zzI cy qdn 8 (T_ne tD), zzI cy qdg 8 (T_go tD), zzI cy qda 8 (T_ag tD), zzI cy qdr 8 (T_re tD), zzI cy qdm 8 (T_me tD), zzI cy qdt 8 (T_te tD), zzI cy qds 64 (shF (T_kn tD))]) hx hb hr hlocks (hP.sub [9, 10, 0, 1, 2, 3, 4, 5, 6, 7, 8] rfl) (hD.sub [9, 10, 0, 1, 2, 3, 4, 5, 6, 7, 8] (by decide +kernel) rfl) hS ⟨kX_132, kY_133, iX_134, iY_111, tD, rfl, ⟨by omega, by omega, by first | omega | (show T_nb tD + 1 ≤ 8; omega) | (show T_nb tD ≤ 8; omega), by first | omega | (show T_np tD + 1 ≤ 8; omega) | (show T_np tD ≤ 8; omega)⟩⟩ dX3_readOne_114
          · refine lv_aload_n hx hb dX3_readOne_101 rfl (lv_at hl 4 rfl) ?_
            refine va_get (D := G) (ci := 2) (v := .ref qd) (C := RX3) (T := TX3) (N := 7) hx hb hts iX_X3 hown hK hP 9 rfl rfl 6 (by decide) (hts _ m_t156) (fun _ h9 => h9) rfl dX3_readOne_102 ?_
            refine lv_iload_n hx hb dX3_readOne_105 rfl (lv_at hl 3 rfl) ?_
            refine lv_iload_n hx hb dX3_readOne_106 rfl (lv_at hl 2 rfl) ?_
            refine lv_iload_n hx hb dX3_readOne_107 rfl (lv_at hl 1 rfl) ?_
            refine lv_iload hx hb dX3_readOne_108 (lv_at hl 0 rfl) ?_
            refine cVi (As := [.int r_9, .int r_105, .int 5, .int 5]) (rest := []) (b := qd) (q := (RX4, TX4, 13)) ⟨hx, hb, hml, hown, hts⟩ (c_X4_addOne l G cy (H).size qd tD qdw qdn qdg qda qdr qdm qdt qds r_9 r_105 5 5 (by first | omega | (simp only [nb_sr, np_sr, nb_wr, np_wr, nb_rd, np_rd, nb_ch, np_ch, nb_zr, np_zr, nb_za, np_za, nb_ey, np_ey, nb_hf, np_hf, nb_dd, np_dd, nb_so, np_so, nb_skn, np_skn, nb_swh, np_swh, nb_sgn, np_sgn, nb_ssd, np_ssd, nb_sgo, np_sgo, nb_sag, np_sag]; omega))) L_X3_107 hN hP hD hS hA [0, 1, 2, 3, 4, 5, 6, 7, 8] [false, false, false, false, false, false, false, false, false, true, true] rfl (by decide +kernel) rfl 0 3 rfl rfl rfl ⟨Nat.le_of_ble_eq_true rfl, Nat.le_of_ble_eq_true rfl⟩ hl.1 (Nat.le_of_ble_eq_true rfl) dX3_readOne_110 ⟨Nat.le_of_ble_eq_true rfl, Nat.le_of_ble_eq_true rfl⟩ (fun r_138 u_140 H locs h_139 => ?_)
            clear hP hD hS
            intro hP hD hS
            obtain ⟨rfl, h_139⟩ := h_139
            have hPD := pd_as [zzO qa 2 [.ref qab, .int (nI kZ), .int (nI kX_132), .int (nI kY_133), .int iX_134, .int iY_111, .ref qd], zzB cy qab 250 fB, zzO qd 3 [.int (nI (T_nb (zao tD r_9 r_105 5 5))), .int (nI (T_np (zao tD r_9 r_105 5 5))), .int (wb (T_wh (zao tD r_9 r_105 5 5))), .int (wb (T_gn (zao tD r_9 r_105 5 5))), .int (T_sd (zao tD r_9 r_105 5 5)), .ref qdw, .ref qdn, .ref qdg, .ref qda, .ref qdr, .ref qdm, .ref qdt, .ref qds], zzI cy qdw 8 (T_wo (zao tD r_9 r_105 5 5)), zzI cy qdn 8 (T_ne (zao tD r_9 r_105 5 5)), zzI cy qdg 8 (T_go (zao tD r_9 r_105 5 5)), zzI cy qda 8 (T_ag (zao tD r_9 r_105 5 5)), zzI cy qdr 8 (T_re (zao tD r_9 r_105 5 5)), zzI cy qdm 8 (T_me (zao tD r_9 r_105 5 5)), zzI cy qdt 8 (T_te (zao tD r_9 r_105 5 5)), zzI cy qds 64 (shF (T_kn (zao tD r_9 r_105 5 5)))] hP hD rfl
            clear hP hD
            obtain ⟨hP, hD⟩ := hPD
            subst h_139
            refine lv_pop hx hb dX3_readOne_113 rfl ?_
            exact endV (u := [zzO qa 2 [.ref qab, .int (nI kZ), .int (nI kX_132), .int (nI kY_133), .int iX_134, .int iY_111, .ref qd], zzB cy qab 250 fB, zzO qd 3 [.int (nI (T_nb (zao tD r_9 r_105 5 5))), .int (nI (T_np (zao tD r_9 r_105 5 5))), .int (wb (T_wh (zao tD r_9 r_105 5 5))), .int (wb (T_gn (zao tD r_9 r_105 5 5))), .int (T_sd (zao tD r_9 r_105 5 5)), .ref qdw, .ref qdn, .ref qdg, .ref qda, .ref qdr, .ref qdm, .ref qdt, .ref qds], zzI cy qdw 8 (T_wo (zao tD r_9 r_105 5 5)), zzI cy qdn 8 (T_ne (zao tD r_9 r_105 5 5)), zzI cy qdg 8 (T_go (zao tD r_9 r_105 5 5)), zzI cy qda 8 (T_ag (zao tD r_9 r_105 5 5)), zzI cy qdr 8 (T_re (zao tD r_9 r_105 5 5)), zzI cy qdm 8 (T_me (zao tD r_9 r_105 5 5)), zzI cy qdt 8 (T_te (zao tD r_9 r_105 5 5)), zzI cy qds 64 (shF (T_kn (zao tD r_9 r_105 5 5)))]) hx hb hr hlocks (hP.sub [0, 1, 2, 3, 4, 5, 6, 7, 8, 9, 10] rfl) (hD.sub [0, 1, 2, 3, 4, 5, 6, 7, 8, 9, 10] (by decide +kernel) rfl) hS ⟨kX_132, kY_133, iX_134, iY_111, (zao tD r_9 r_105 5 5), rfl, ⟨by omega, by omega, by first | omega | (show T_nb tD + 1 ≤ 8; omega) | (show T_nb tD ≤ 8; omega), by first | omega | (show T_np tD + 1 ≤ 8; omega) | (show T_np tD ≤ 8; omega)⟩⟩ dX3_readOne_114
        · refine lv_aload_n hx hb dX3_readOne_80 rfl (lv_at hl 3 rfl) ?_
          refine lv_iconst (v := 0) hx hb dX3_readOne_81 (by decide) ?_
          refine lv_bipush (v := 10) hx hb dX3_readOne_82 (by decide) ?_
          refine cVi (As := [.int 0, .int 10]) (rest := []) (b := qa) (q := (RX3, TX3, 7)) ⟨hx, hb, hml, hown, hts⟩ (c_X3_takeNumber l G cy (H).size qa qab kZ kX_132 kY_133 iX_134 iY_111 qd fB 0 10 hZ (by first | omega | (simp only [nb_sr, np_sr, nb_wr, np_wr, nb_rd, np_rd, nb_ch, np_ch, nb_zr, np_zr, nb_za, np_za, nb_ey, np_ey, nb_hf, np_hf, nb_dd, np_dd, nb_so, np_so, nb_skn, np_skn, nb_swh, np_swh, nb_sgn, np_sgn, nb_ssd, np_ssd, nb_sgo, np_sgo, nb_sag, np_sag]; omega))) L_X3_80 hN hP hD hS hA [9, 10] [true, true, true, true, true, true, true, true, true, false, false] rfl (by decide +kernel) rfl 9 2 rfl rfl rfl ⟨Nat.le_of_ble_eq_true rfl, Nat.le_of_ble_eq_true rfl⟩ hl.1 (Nat.le_of_ble_eq_true rfl) dX3_readOne_84 ⟨Nat.le_of_ble_eq_true rfl, Nat.le_of_ble_eq_true rfl⟩ (fun r_141 u_143 H locs h_142 => ?_)
          clear hP hD hS
          intro hP hD hS
          obtain ⟨kX_144, kY_145, iX_146, iY_147, rfl, h_148, h_142⟩ := h_142
          have hPD := pd_as [zzO qd 3 [.int (nI (T_nb tD)), .int (nI (T_np tD)), .int (wb (T_wh tD)), .int (wb (T_gn tD)), .int (T_sd tD), .ref qdw, .ref qdn, .ref qdg, .ref qda, .ref qdr, .ref qdm, .ref qdt, .ref qds], zzI cy qdw 8 (T_wo tD), zzI cy qdn 8 (T_ne tD), zzI cy qdg 8 (T_go tD), zzI cy qda 8 (T_ag tD), zzI cy qdr 8 (T_re tD), zzI cy qdm 8 (T_me tD), zzI cy qdt 8 (T_te tD), zzI cy qds 64 (shF (T_kn tD)), zzO qa 2 [.ref qab, .int (nI kZ), .int (nI kX_144), .int (nI kY_145), .int iX_146, .int iY_147, .ref qd], zzB cy qab 250 fB] hP hD rfl
          clear hP hD
          obtain ⟨hP, hD⟩ := hPD
          refine lv_goto (tgt := 91) hx hb dX3_readOne_87 (by decide) ?_
          refine lv_istore (lv' := [(4, .int r_141), (3, .int 5), (2, .int r_105), (1, .int r_9), (0, .ref qa)]) hx hb dX3_readOne_91 hl (by decide) rfl (fun ls => ?_)
          clear hl
          intro hl
          refine lv_aload_n hx hb dX3_readOne_93 rfl (lv_at hl 4 rfl) ?_
          refine va_get (D := G) (ci := 2) (v := .int iY_147) (C := RX3) (T := TX3) (N := 7) hx hb hts iX_X3 hown hK hP 9 rfl rfl 5 (by decide) (hts _ m_t154) (fun _ h9 => h9) rfl dX3_readOne_94 ?_
          refine lv_iconst (v := (-1)) hx hb dX3_readOne_97 (by decide) ?_
          refine lv_icmp_ne (tgt := 114) hx hb dX3_readOne_98 (by decide) (fun c_149 => ?_) (fun c_149 => ?_)
          · exact endV (u := [zzO qa 2 [.ref qab, .int (nI kZ), .int (nI kX_144), .int (nI kY_145), .int iX_146, .int iY_147, .ref qd], zzB cy qab 250 fB, zzO qd 3 [.int (nI (T_nb tD)), .int (nI (T_np tD)), .int (wb (T_wh tD)), .int (wb (T_gn tD)), .int (T_sd tD), .ref qdw, .ref qdn, .ref qdg, .ref qda, .ref qdr, .ref qdm, .ref qdt, .ref qds], zzI cy qdw 8 (T_wo tD), zzI cy qdn 8 (T_ne tD), zzI cy qdg 8 (T_go tD), zzI cy qda 8 (T_ag tD), zzI cy qdr 8 (T_re tD), zzI cy qdm 8 (T_me tD), zzI cy qdt 8 (T_te tD), zzI cy qds 64 (shF (T_kn tD))]) hx hb hr hlocks (hP.sub [9, 10, 0, 1, 2, 3, 4, 5, 6, 7, 8] rfl) (hD.sub [9, 10, 0, 1, 2, 3, 4, 5, 6, 7, 8] (by decide +kernel) rfl) hS ⟨kX_144, kY_145, iX_146, iY_147, tD, rfl, ⟨by omega, by omega, by first | omega | (show T_nb tD + 1 ≤ 8; omega) | (show T_nb tD ≤ 8; omega), by first | omega | (show T_np tD + 1 ≤ 8; omega) | (show T_np tD ≤ 8; omega)⟩⟩ dX3_readOne_114
          · refine lv_aload_n hx hb dX3_readOne_101 rfl (lv_at hl 4 rfl) ?_
            refine va_get (D := G) (ci := 2) (v := .ref qd) (C := RX3) (T := TX3) (N := 7) hx hb hts iX_X3 hown hK hP 9 rfl rfl 6 (by decide) (hts _ m_t156) (fun _ h9 => h9) rfl dX3_readOne_102 ?_
            refine lv_iload_n hx hb dX3_readOne_105 rfl (lv_at hl 3 rfl) ?_
            refine lv_iload_n hx hb dX3_readOne_106 rfl (lv_at hl 2 rfl) ?_
            refine lv_iload_n hx hb dX3_readOne_107 rfl (lv_at hl 1 rfl) ?_
            refine lv_iload hx hb dX3_readOne_108 (lv_at hl 0 rfl) ?_
            refine cVi (As := [.int r_9, .int r_105, .int 5, .int r_141]) (rest := []) (b := qd) (q := (RX4, TX4, 13)) ⟨hx, hb, hml, hown, hts⟩ (c_X4_addOne l G cy (H).size qd tD qdw qdn qdg qda qdr qdm qdt qds r_9 r_105 5 r_141 (by first | omega | (simp only [nb_sr, np_sr, nb_wr, np_wr, nb_rd, np_rd, nb_ch, np_ch, nb_zr, np_zr, nb_za, np_za, nb_ey, np_ey, nb_hf, np_hf, nb_dd, np_dd, nb_so, np_so, nb_skn, np_skn, nb_swh, np_swh, nb_sgn, np_sgn, nb_ssd, np_ssd, nb_sgo, np_sgo, nb_sag, np_sag]; omega))) L_X3_107 hN hP hD hS hA [0, 1, 2, 3, 4, 5, 6, 7, 8] [false, false, false, false, false, false, false, false, false, true, true] rfl (by decide +kernel) rfl 0 3 rfl rfl rfl ⟨Nat.le_of_ble_eq_true rfl, Nat.le_of_ble_eq_true rfl⟩ hl.1 (Nat.le_of_ble_eq_true rfl) dX3_readOne_110 ⟨Nat.le_of_ble_eq_true rfl, Nat.le_of_ble_eq_true rfl⟩ (fun r_150 u_152 H locs h_151 => ?_)
            clear hP hD hS
            intro hP hD hS
            obtain ⟨rfl, h_151⟩ := h_151
            have hPD := pd_as [zzO qa 2 [.ref qab, .int (nI kZ), .int (nI kX_144), .int (nI kY_145), .int iX_146, .int iY_147, .ref qd], zzB cy qab 250 fB, zzO qd 3 [.int (nI (T_nb (zao tD r_9 r_105 5 r_141))), .int (nI (T_np (zao tD r_9 r_105 5 r_141))), .int (wb (T_wh (zao tD r_9 r_105 5 r_141))), .int (wb (T_gn (zao tD r_9 r_105 5 r_141))), .int (T_sd (zao tD r_9 r_105 5 r_141)), .ref qdw, .ref qdn, .ref qdg, .ref qda, .ref qdr, .ref qdm, .ref qdt, .ref qds], zzI cy qdw 8 (T_wo (zao tD r_9 r_105 5 r_141)), zzI cy qdn 8 (T_ne (zao tD r_9 r_105 5 r_141)), zzI cy qdg 8 (T_go (zao tD r_9 r_105 5 r_141)), zzI cy qda 8 (T_ag (zao tD r_9 r_105 5 r_141)), zzI cy qdr 8 (T_re (zao tD r_9 r_105 5 r_141)), zzI cy qdm 8 (T_me (zao tD r_9 r_105 5 r_141)), zzI cy qdt 8 (T_te (zao tD r_9 r_105 5 r_141)), zzI cy qds 64 (shF (T_kn (zao tD r_9 r_105 5 r_141)))] hP hD rfl
            clear hP hD
            obtain ⟨hP, hD⟩ := hPD
            subst h_151
            refine lv_pop hx hb dX3_readOne_113 rfl ?_
            exact endV (u := [zzO qa 2 [.ref qab, .int (nI kZ), .int (nI kX_144), .int (nI kY_145), .int iX_146, .int iY_147, .ref qd], zzB cy qab 250 fB, zzO qd 3 [.int (nI (T_nb (zao tD r_9 r_105 5 r_141))), .int (nI (T_np (zao tD r_9 r_105 5 r_141))), .int (wb (T_wh (zao tD r_9 r_105 5 r_141))), .int (wb (T_gn (zao tD r_9 r_105 5 r_141))), .int (T_sd (zao tD r_9 r_105 5 r_141)), .ref qdw, .ref qdn, .ref qdg, .ref qda, .ref qdr, .ref qdm, .ref qdt, .ref qds], zzI cy qdw 8 (T_wo (zao tD r_9 r_105 5 r_141)), zzI cy qdn 8 (T_ne (zao tD r_9 r_105 5 r_141)), zzI cy qdg 8 (T_go (zao tD r_9 r_105 5 r_141)), zzI cy qda 8 (T_ag (zao tD r_9 r_105 5 r_141)), zzI cy qdr 8 (T_re (zao tD r_9 r_105 5 r_141)), zzI cy qdm 8 (T_me (zao tD r_9 r_105 5 r_141)), zzI cy qdt 8 (T_te (zao tD r_9 r_105 5 r_141)), zzI cy qds 64 (shF (T_kn (zao tD r_9 r_105 5 r_141)))]) hx hb hr hlocks (hP.sub [0, 1, 2, 3, 4, 5, 6, 7, 8, 9, 10] rfl) (hD.sub [0, 1, 2, 3, 4, 5, 6, 7, 8, 9, 10] (by decide +kernel) rfl) hS ⟨kX_144, kY_145, iX_146, iY_147, (zao tD r_9 r_105 5 r_141), rfl, ⟨by omega, by omega, by first | omega | (show T_nb tD + 1 ≤ 8; omega) | (show T_nb tD ≤ 8; omega), by first | omega | (show T_np tD + 1 ≤ 8; omega) | (show T_np tD ≤ 8; omega)⟩⟩ dX3_readOne_114
      · refine lv_aload_n hx hb dX3_readOne_59 rfl (lv_at hl 2 rfl) ?_
        refine lv_iconst (v := 0) hx hb dX3_readOne_60 (by decide) ?_
        refine lv_bipush (v := 10) hx hb dX3_readOne_61 (by decide) ?_
        refine cVi (As := [.int 0, .int 10]) (rest := []) (b := qa) (q := (RX3, TX3, 7)) ⟨hx, hb, hml, hown, hts⟩ (c_X3_takeNumber l G cy (H).size qa qab kZ kX_120 kY_121 iX_122 iY_111 qd fB 0 10 hZ (by first | omega | (simp only [nb_sr, np_sr, nb_wr, np_wr, nb_rd, np_rd, nb_ch, np_ch, nb_zr, np_zr, nb_za, np_za, nb_ey, np_ey, nb_hf, np_hf, nb_dd, np_dd, nb_so, np_so, nb_skn, np_skn, nb_swh, np_swh, nb_sgn, np_sgn, nb_ssd, np_ssd, nb_sgo, np_sgo, nb_sag, np_sag]; omega))) L_X3_80 hN hP hD hS hA [9, 10] [true, true, true, true, true, true, true, true, true, false, false] rfl (by decide +kernel) rfl 9 2 rfl rfl rfl ⟨Nat.le_of_ble_eq_true rfl, Nat.le_of_ble_eq_true rfl⟩ hl.1 (Nat.le_of_ble_eq_true rfl) dX3_readOne_63 ⟨Nat.le_of_ble_eq_true rfl, Nat.le_of_ble_eq_true rfl⟩ (fun r_153 u_155 H locs h_154 => ?_)
        clear hP hD hS
        intro hP hD hS
        obtain ⟨kX_156, kY_157, iX_158, iY_159, rfl, h_160, h_154⟩ := h_154
        have hPD := pd_as [zzO qd 3 [.int (nI (T_nb tD)), .int (nI (T_np tD)), .int (wb (T_wh tD)), .int (wb (T_gn tD)), .int (T_sd tD), .ref qdw, .ref qdn, .ref qdg, .ref qda, .ref qdr, .ref qdm, .ref qdt, .ref qds], zzI cy qdw 8 (T_wo tD), zzI cy qdn 8 (T_ne tD), zzI cy qdg 8 (T_go tD), zzI cy qda 8 (T_ag tD), zzI cy qdr 8 (T_re tD), zzI cy qdm 8 (T_me tD), zzI cy qdt 8 (T_te tD), zzI cy qds 64 (shF (T_kn tD)), zzO qa 2 [.ref qab, .int (nI kZ), .int (nI kX_156), .int (nI kY_157), .int iX_158, .int iY_159, .ref qd], zzB cy qab 250 fB] hP hD rfl
        clear hP hD
        obtain ⟨hP, hD⟩ := hPD
        refine lv_goto (tgt := 70) hx hb dX3_readOne_66 (by decide) ?_
        refine lv_istore_n (lv' := [(3, .int r_153), (2, .int r_105), (1, .int r_9), (0, .ref qa)]) hx hb dX3_readOne_70 rfl hl (by decide) rfl (fun ls => ?_)
        clear hl
        intro hl
        refine lv_aload_n hx hb dX3_readOne_71 rfl (lv_at hl 3 rfl) ?_
        obtain ⟨qs_161, qv_163, hs_162, hf_164⟩ := hX (RX3, 105, "tells", [116, 101, 108, 108, 115]) (List.mem_of_getElem? (i := 6) rfl)
        refine va_ldcS hx hb hown hs_162 dX3_readOne_72 ?_
        refine cVXi (As := [.ref qs_161]) (rest := []) (b := qa) (q := (RX3, TX3, 7)) ⟨hx, hb, hml, hown, hts⟩ (c_X3_passes l G cy (H).size qa qab kZ kX_156 kY_157 iX_158 iY_159 qd fB qs_161 ([116, 101, 108, 108, 115]) qv_163 hZ (by first | omega | (simp only [nb_sr, np_sr, nb_wr, np_wr, nb_rd, np_rd, nb_ch, np_ch, nb_zr, np_zr, nb_za, np_za, nb_ey, np_ey, nb_hf, np_hf, nb_dd, np_dd, nb_so, np_so, nb_skn, np_skn, nb_swh, np_swh, nb_sgn, np_sgn, nb_ssd, np_ssd, nb_sgo, np_sgo, nb_sag, np_sag]; omega)) (by decide) as_tells) L_X3_86 hN hP hD hS hA [9, 10] [true, true, true, true, true, true, true, true, true, false, false] rfl (by decide +kernel) rfl 9 2 rfl rfl SF_ok hf_164 rfl ⟨Nat.le_of_ble_eq_true rfl, Nat.le_of_ble_eq_true rfl⟩ hl.1 (Nat.le_of_ble_eq_true rfl) dX3_readOne_74 ⟨Nat.le_of_ble_eq_true rfl, Nat.le_of_ble_eq_true rfl⟩ (fun r_165 u_167 H locs h_166 => ?_)
        clear hP hD hS
        intro hP hD hS
        obtain ⟨kX_168, kY_169, iX_170, rfl, h_171, h_166⟩ := h_166
        have hPD := pd_as [zzO qd 3 [.int (nI (T_nb tD)), .int (nI (T_np tD)), .int (wb (T_wh tD)), .int (wb (T_gn tD)), .int (T_sd tD), .ref qdw, .ref qdn, .ref qdg, .ref qda, .ref qdr, .ref qdm, .ref qdt, .ref qds], zzI cy qdw 8 (T_wo tD), zzI cy qdn 8 (T_ne tD), zzI cy qdg 8 (T_go tD), zzI cy qda 8 (T_ag tD), zzI cy qdr 8 (T_re tD), zzI cy qdm 8 (T_me tD), zzI cy qdt 8 (T_te tD), zzI cy qds 64 (shF (T_kn tD)), zzO qa 2 [.ref qab, .int (nI kZ), .int (nI kX_168), .int (nI kY_169), .int iX_170, .int iY_159, .ref qd], zzB cy qab 250 fB] hP hD rfl
        clear hP hD
        obtain ⟨hP, hD⟩ := hPD
        refine lv_if_eq (tgt := 90) hx hb dX3_readOne_77 (by decide) (fun c_172 => ?_) (fun c_172 => ?_)
        · refine lv_iconst (v := 5) hx hb dX3_readOne_90 (by decide) ?_
          refine lv_istore (lv' := [(4, .int 5), (3, .int r_153), (2, .int r_105), (1, .int r_9), (0, .ref qa)]) hx hb dX3_readOne_91 hl (by decide) rfl (fun ls => ?_)
          clear hl
          intro hl
          refine lv_aload_n hx hb dX3_readOne_93 rfl (lv_at hl 4 rfl) ?_
          refine va_get (D := G) (ci := 2) (v := .int iY_159) (C := RX3) (T := TX3) (N := 7) hx hb hts iX_X3 hown hK hP 9 rfl rfl 5 (by decide) (hts _ m_t154) (fun _ h9 => h9) rfl dX3_readOne_94 ?_
          refine lv_iconst (v := (-1)) hx hb dX3_readOne_97 (by decide) ?_
          refine lv_icmp_ne (tgt := 114) hx hb dX3_readOne_98 (by decide) (fun c_173 => ?_) (fun c_173 => ?_)
          · exact endV (u := [zzO qa 2 [.ref qab, .int (nI kZ), .int (nI kX_168), .int (nI kY_169), .int iX_170, .int iY_159, .ref qd], zzB cy qab 250 fB, zzO qd 3 [.int (nI (T_nb tD)), .int (nI (T_np tD)), .int (wb (T_wh tD)), .int (wb (T_gn tD)), .int (T_sd tD), .ref qdw, .ref qdn, .ref qdg, .ref qda, .ref qdr, .ref qdm, .ref qdt, .ref qds], zzI cy qdw 8 (T_wo tD), zzI cy qdn 8 (T_ne tD), zzI cy qdg 8 (T_go tD), zzI cy qda 8 (T_ag tD), zzI cy qdr 8 (T_re tD), zzI cy qdm 8 (T_me tD), zzI cy qdt 8 (T_te tD), zzI cy qds 64 (shF (T_kn tD))]) hx hb hr hlocks (hP.sub [9, 10, 0, 1, 2, 3, 4, 5, 6, 7, 8] rfl) (hD.sub [9, 10, 0, 1, 2, 3, 4, 5, 6, 7, 8] (by decide +kernel) rfl) hS ⟨kX_168, kY_169, iX_170, iY_159, tD, rfl, ⟨by omega, by omega, by first | omega | (show T_nb tD + 1 ≤ 8; omega) | (show T_nb tD ≤ 8; omega), by first | omega | (show T_np tD + 1 ≤ 8; omega) | (show T_np tD ≤ 8; omega)⟩⟩ dX3_readOne_114
          · refine lv_aload_n hx hb dX3_readOne_101 rfl (lv_at hl 4 rfl) ?_
            refine va_get (D := G) (ci := 2) (v := .ref qd) (C := RX3) (T := TX3) (N := 7) hx hb hts iX_X3 hown hK hP 9 rfl rfl 6 (by decide) (hts _ m_t156) (fun _ h9 => h9) rfl dX3_readOne_102 ?_
            refine lv_iload_n hx hb dX3_readOne_105 rfl (lv_at hl 3 rfl) ?_
            refine lv_iload_n hx hb dX3_readOne_106 rfl (lv_at hl 2 rfl) ?_
            refine lv_iload_n hx hb dX3_readOne_107 rfl (lv_at hl 1 rfl) ?_
            refine lv_iload hx hb dX3_readOne_108 (lv_at hl 0 rfl) ?_
            refine cVi (As := [.int r_9, .int r_105, .int r_153, .int 5]) (rest := []) (b := qd) (q := (RX4, TX4, 13)) ⟨hx, hb, hml, hown, hts⟩ (c_X4_addOne l G cy (H).size qd tD qdw qdn qdg qda qdr qdm qdt qds r_9 r_105 r_153 5 (by first | omega | (simp only [nb_sr, np_sr, nb_wr, np_wr, nb_rd, np_rd, nb_ch, np_ch, nb_zr, np_zr, nb_za, np_za, nb_ey, np_ey, nb_hf, np_hf, nb_dd, np_dd, nb_so, np_so, nb_skn, np_skn, nb_swh, np_swh, nb_sgn, np_sgn, nb_ssd, np_ssd, nb_sgo, np_sgo, nb_sag, np_sag]; omega))) L_X3_107 hN hP hD hS hA [0, 1, 2, 3, 4, 5, 6, 7, 8] [false, false, false, false, false, false, false, false, false, true, true] rfl (by decide +kernel) rfl 0 3 rfl rfl rfl ⟨Nat.le_of_ble_eq_true rfl, Nat.le_of_ble_eq_true rfl⟩ hl.1 (Nat.le_of_ble_eq_true rfl) dX3_readOne_110 ⟨Nat.le_of_ble_eq_true rfl, Nat.le_of_ble_eq_true rfl⟩ (fun r_174 u_176 H locs h_175 => ?_)
            clear hP hD hS
            intro hP hD hS
            obtain ⟨rfl, h_175⟩ := h_175
            have hPD := pd_as [zzO qa 2 [.ref qab, .int (nI kZ), .int (nI kX_168), .int (nI kY_169), .int iX_170, .int iY_159, .ref qd], zzB cy qab 250 fB, zzO qd 3 [.int (nI (T_nb (zao tD r_9 r_105 r_153 5))), .int (nI (T_np (zao tD r_9 r_105 r_153 5))), .int (wb (T_wh (zao tD r_9 r_105 r_153 5))), .int (wb (T_gn (zao tD r_9 r_105 r_153 5))), .int (T_sd (zao tD r_9 r_105 r_153 5)), .ref qdw, .ref qdn, .ref qdg, .ref qda, .ref qdr, .ref qdm, .ref qdt, .ref qds], zzI cy qdw 8 (T_wo (zao tD r_9 r_105 r_153 5)), zzI cy qdn 8 (T_ne (zao tD r_9 r_105 r_153 5)), zzI cy qdg 8 (T_go (zao tD r_9 r_105 r_153 5)), zzI cy qda 8 (T_ag (zao tD r_9 r_105 r_153 5)), zzI cy qdr 8 (T_re (zao tD r_9 r_105 r_153 5)), zzI cy qdm 8 (T_me (zao tD r_9 r_105 r_153 5)), zzI cy qdt 8 (T_te (zao tD r_9 r_105 r_153 5)), zzI cy qds 64 (shF (T_kn (zao tD r_9 r_105 r_153 5)))] hP hD rfl
            clear hP hD
            obtain ⟨hP, hD⟩ := hPD
            subst h_175
            refine lv_pop hx hb dX3_readOne_113 rfl ?_
            exact endV (u := [zzO qa 2 [.ref qab, .int (nI kZ), .int (nI kX_168), .int (nI kY_169), .int iX_170, .int iY_159, .ref qd], zzB cy qab 250 fB, zzO qd 3 [.int (nI (T_nb (zao tD r_9 r_105 r_153 5))), .int (nI (T_np (zao tD r_9 r_105 r_153 5))), .int (wb (T_wh (zao tD r_9 r_105 r_153 5))), .int (wb (T_gn (zao tD r_9 r_105 r_153 5))), .int (T_sd (zao tD r_9 r_105 r_153 5)), .ref qdw, .ref qdn, .ref qdg, .ref qda, .ref qdr, .ref qdm, .ref qdt, .ref qds], zzI cy qdw 8 (T_wo (zao tD r_9 r_105 r_153 5)), zzI cy qdn 8 (T_ne (zao tD r_9 r_105 r_153 5)), zzI cy qdg 8 (T_go (zao tD r_9 r_105 r_153 5)), zzI cy qda 8 (T_ag (zao tD r_9 r_105 r_153 5)), zzI cy qdr 8 (T_re (zao tD r_9 r_105 r_153 5)), zzI cy qdm 8 (T_me (zao tD r_9 r_105 r_153 5)), zzI cy qdt 8 (T_te (zao tD r_9 r_105 r_153 5)), zzI cy qds 64 (shF (T_kn (zao tD r_9 r_105 r_153 5)))]) hx hb hr hlocks (hP.sub [0, 1, 2, 3, 4, 5, 6, 7, 8, 9, 10] rfl) (hD.sub [0, 1, 2, 3, 4, 5, 6, 7, 8, 9, 10] (by decide +kernel) rfl) hS ⟨kX_168, kY_169, iX_170, iY_159, (zao tD r_9 r_105 r_153 5), rfl, ⟨by omega, by omega, by first | omega | (show T_nb tD + 1 ≤ 8; omega) | (show T_nb tD ≤ 8; omega), by first | omega | (show T_np tD + 1 ≤ 8; omega) | (show T_np tD ≤ 8; omega)⟩⟩ dX3_readOne_114
        · refine lv_aload_n hx hb dX3_readOne_80 rfl (lv_at hl 3 rfl) ?_
          refine lv_iconst (v := 0) hx hb dX3_readOne_81 (by decide) ?_
          refine lv_bipush (v := 10) hx hb dX3_readOne_82 (by decide) ?_
          refine cVi (As := [.int 0, .int 10]) (rest := []) (b := qa) (q := (RX3, TX3, 7)) ⟨hx, hb, hml, hown, hts⟩ (c_X3_takeNumber l G cy (H).size qa qab kZ kX_168 kY_169 iX_170 iY_159 qd fB 0 10 hZ (by first | omega | (simp only [nb_sr, np_sr, nb_wr, np_wr, nb_rd, np_rd, nb_ch, np_ch, nb_zr, np_zr, nb_za, np_za, nb_ey, np_ey, nb_hf, np_hf, nb_dd, np_dd, nb_so, np_so, nb_skn, np_skn, nb_swh, np_swh, nb_sgn, np_sgn, nb_ssd, np_ssd, nb_sgo, np_sgo, nb_sag, np_sag]; omega))) L_X3_80 hN hP hD hS hA [9, 10] [true, true, true, true, true, true, true, true, true, false, false] rfl (by decide +kernel) rfl 9 2 rfl rfl rfl ⟨Nat.le_of_ble_eq_true rfl, Nat.le_of_ble_eq_true rfl⟩ hl.1 (Nat.le_of_ble_eq_true rfl) dX3_readOne_84 ⟨Nat.le_of_ble_eq_true rfl, Nat.le_of_ble_eq_true rfl⟩ (fun r_177 u_179 H locs h_178 => ?_)
          clear hP hD hS
          intro hP hD hS
          obtain ⟨kX_180, kY_181, iX_182, iY_183, rfl, h_184, h_178⟩ := h_178
          have hPD := pd_as [zzO qd 3 [.int (nI (T_nb tD)), .int (nI (T_np tD)), .int (wb (T_wh tD)), .int (wb (T_gn tD)), .int (T_sd tD), .ref qdw, .ref qdn, .ref qdg, .ref qda, .ref qdr, .ref qdm, .ref qdt, .ref qds], zzI cy qdw 8 (T_wo tD), zzI cy qdn 8 (T_ne tD), zzI cy qdg 8 (T_go tD), zzI cy qda 8 (T_ag tD), zzI cy qdr 8 (T_re tD), zzI cy qdm 8 (T_me tD), zzI cy qdt 8 (T_te tD), zzI cy qds 64 (shF (T_kn tD)), zzO qa 2 [.ref qab, .int (nI kZ), .int (nI kX_180), .int (nI kY_181), .int iX_182, .int iY_183, .ref qd], zzB cy qab 250 fB] hP hD rfl
          clear hP hD
          obtain ⟨hP, hD⟩ := hPD
          refine lv_goto (tgt := 91) hx hb dX3_readOne_87 (by decide) ?_
          refine lv_istore (lv' := [(4, .int r_177), (3, .int r_153), (2, .int r_105), (1, .int r_9), (0, .ref qa)]) hx hb dX3_readOne_91 hl (by decide) rfl (fun ls => ?_)
          clear hl
          intro hl
          refine lv_aload_n hx hb dX3_readOne_93 rfl (lv_at hl 4 rfl) ?_
          refine va_get (D := G) (ci := 2) (v := .int iY_183) (C := RX3) (T := TX3) (N := 7) hx hb hts iX_X3 hown hK hP 9 rfl rfl 5 (by decide) (hts _ m_t154) (fun _ h9 => h9) rfl dX3_readOne_94 ?_
          refine lv_iconst (v := (-1)) hx hb dX3_readOne_97 (by decide) ?_
          refine lv_icmp_ne (tgt := 114) hx hb dX3_readOne_98 (by decide) (fun c_185 => ?_) (fun c_185 => ?_)
          · exact endV (u := [zzO qa 2 [.ref qab, .int (nI kZ), .int (nI kX_180), .int (nI kY_181), .int iX_182, .int iY_183, .ref qd], zzB cy qab 250 fB, zzO qd 3 [.int (nI (T_nb tD)), .int (nI (T_np tD)), .int (wb (T_wh tD)), .int (wb (T_gn tD)), .int (T_sd tD), .ref qdw, .ref qdn, .ref qdg, .ref qda, .ref qdr, .ref qdm, .ref qdt, .ref qds], zzI cy qdw 8 (T_wo tD), zzI cy qdn 8 (T_ne tD), zzI cy qdg 8 (T_go tD), zzI cy qda 8 (T_ag tD), zzI cy qdr 8 (T_re tD), zzI cy qdm 8 (T_me tD), zzI cy qdt 8 (T_te tD), zzI cy qds 64 (shF (T_kn tD))]) hx hb hr hlocks (hP.sub [9, 10, 0, 1, 2, 3, 4, 5, 6, 7, 8] rfl) (hD.sub [9, 10, 0, 1, 2, 3, 4, 5, 6, 7, 8] (by decide +kernel) rfl) hS ⟨kX_180, kY_181, iX_182, iY_183, tD, rfl, ⟨by omega, by omega, by first | omega | (show T_nb tD + 1 ≤ 8; omega) | (show T_nb tD ≤ 8; omega), by first | omega | (show T_np tD + 1 ≤ 8; omega) | (show T_np tD ≤ 8; omega)⟩⟩ dX3_readOne_114
          · refine lv_aload_n hx hb dX3_readOne_101 rfl (lv_at hl 4 rfl) ?_
            refine va_get (D := G) (ci := 2) (v := .ref qd) (C := RX3) (T := TX3) (N := 7) hx hb hts iX_X3 hown hK hP 9 rfl rfl 6 (by decide) (hts _ m_t156) (fun _ h9 => h9) rfl dX3_readOne_102 ?_
            refine lv_iload_n hx hb dX3_readOne_105 rfl (lv_at hl 3 rfl) ?_
            refine lv_iload_n hx hb dX3_readOne_106 rfl (lv_at hl 2 rfl) ?_
            refine lv_iload_n hx hb dX3_readOne_107 rfl (lv_at hl 1 rfl) ?_
            refine lv_iload hx hb dX3_readOne_108 (lv_at hl 0 rfl) ?_
            refine cVi (As := [.int r_9, .int r_105, .int r_153, .int r_177]) (rest := []) (b := qd) (q := (RX4, TX4, 13)) ⟨hx, hb, hml, hown, hts⟩ (c_X4_addOne l G cy (H).size qd tD qdw qdn qdg qda qdr qdm qdt qds r_9 r_105 r_153 r_177 (by first | omega | (simp only [nb_sr, np_sr, nb_wr, np_wr, nb_rd, np_rd, nb_ch, np_ch, nb_zr, np_zr, nb_za, np_za, nb_ey, np_ey, nb_hf, np_hf, nb_dd, np_dd, nb_so, np_so, nb_skn, np_skn, nb_swh, np_swh, nb_sgn, np_sgn, nb_ssd, np_ssd, nb_sgo, np_sgo, nb_sag, np_sag]; omega))) L_X3_107 hN hP hD hS hA [0, 1, 2, 3, 4, 5, 6, 7, 8] [false, false, false, false, false, false, false, false, false, true, true] rfl (by decide +kernel) rfl 0 3 rfl rfl rfl ⟨Nat.le_of_ble_eq_true rfl, Nat.le_of_ble_eq_true rfl⟩ hl.1 (Nat.le_of_ble_eq_true rfl) dX3_readOne_110 ⟨Nat.le_of_ble_eq_true rfl, Nat.le_of_ble_eq_true rfl⟩ (fun r_186 u_188 H locs h_187 => ?_)
            clear hP hD hS
            intro hP hD hS
            obtain ⟨rfl, h_187⟩ := h_187
            have hPD := pd_as [zzO qa 2 [.ref qab, .int (nI kZ), .int (nI kX_180), .int (nI kY_181), .int iX_182, .int iY_183, .ref qd], zzB cy qab 250 fB, zzO qd 3 [.int (nI (T_nb (zao tD r_9 r_105 r_153 r_177))), .int (nI (T_np (zao tD r_9 r_105 r_153 r_177))), .int (wb (T_wh (zao tD r_9 r_105 r_153 r_177))), .int (wb (T_gn (zao tD r_9 r_105 r_153 r_177))), .int (T_sd (zao tD r_9 r_105 r_153 r_177)), .ref qdw, .ref qdn, .ref qdg, .ref qda, .ref qdr, .ref qdm, .ref qdt, .ref qds], zzI cy qdw 8 (T_wo (zao tD r_9 r_105 r_153 r_177)), zzI cy qdn 8 (T_ne (zao tD r_9 r_105 r_153 r_177)), zzI cy qdg 8 (T_go (zao tD r_9 r_105 r_153 r_177)), zzI cy qda 8 (T_ag (zao tD r_9 r_105 r_153 r_177)), zzI cy qdr 8 (T_re (zao tD r_9 r_105 r_153 r_177)), zzI cy qdm 8 (T_me (zao tD r_9 r_105 r_153 r_177)), zzI cy qdt 8 (T_te (zao tD r_9 r_105 r_153 r_177)), zzI cy qds 64 (shF (T_kn (zao tD r_9 r_105 r_153 r_177)))] hP hD rfl
            clear hP hD
            obtain ⟨hP, hD⟩ := hPD
            subst h_187
            refine lv_pop hx hb dX3_readOne_113 rfl ?_
            exact endV (u := [zzO qa 2 [.ref qab, .int (nI kZ), .int (nI kX_180), .int (nI kY_181), .int iX_182, .int iY_183, .ref qd], zzB cy qab 250 fB, zzO qd 3 [.int (nI (T_nb (zao tD r_9 r_105 r_153 r_177))), .int (nI (T_np (zao tD r_9 r_105 r_153 r_177))), .int (wb (T_wh (zao tD r_9 r_105 r_153 r_177))), .int (wb (T_gn (zao tD r_9 r_105 r_153 r_177))), .int (T_sd (zao tD r_9 r_105 r_153 r_177)), .ref qdw, .ref qdn, .ref qdg, .ref qda, .ref qdr, .ref qdm, .ref qdt, .ref qds], zzI cy qdw 8 (T_wo (zao tD r_9 r_105 r_153 r_177)), zzI cy qdn 8 (T_ne (zao tD r_9 r_105 r_153 r_177)), zzI cy qdg 8 (T_go (zao tD r_9 r_105 r_153 r_177)), zzI cy qda 8 (T_ag (zao tD r_9 r_105 r_153 r_177)), zzI cy qdr 8 (T_re (zao tD r_9 r_105 r_153 r_177)), zzI cy qdm 8 (T_me (zao tD r_9 r_105 r_153 r_177)), zzI cy qdt 8 (T_te (zao tD r_9 r_105 r_153 r_177)), zzI cy qds 64 (shF (T_kn (zao tD r_9 r_105 r_153 r_177)))]) hx hb hr hlocks (hP.sub [0, 1, 2, 3, 4, 5, 6, 7, 8, 9, 10] rfl) (hD.sub [0, 1, 2, 3, 4, 5, 6, 7, 8, 9, 10] (by decide +kernel) rfl) hS ⟨kX_180, kY_181, iX_182, iY_183, (zao tD r_9 r_105 r_153 r_177), rfl, ⟨by omega, by omega, by first | omega | (show T_nb tD + 1 ≤ 8; omega) | (show T_nb tD ≤ 8; omega), by first | omega | (show T_np tD + 1 ≤ 8; omega) | (show T_np tD ≤ 8; omega)⟩⟩ dX3_readOne_114
  · refine lv_aload_n hx hb dX3_readOne_12 rfl (lv_at hl 0 rfl) ?_
    refine cVv (As := []) (rest := []) (b := qa) (q := (RX3, TX3, 7)) ⟨hx, hb, hml, hown, hts⟩ (c_X3_fail l G cy (s.heap).size qa qab kZ kS kE iT iF qd hZ hE) L_X3_45 hN hP hD hS hA [0] [false, true, true, true, true, true, true, true, true, true, true] rfl (by decide +kernel) rfl 0 2 rfl rfl rfl ⟨Nat.le_of_ble_eq_true rfl, Nat.le_of_ble_eq_true rfl⟩ hl.1 (Nat.le_of_ble_eq_true rfl) dX3_readOne_13 ⟨Nat.le_of_ble_eq_true rfl, Nat.le_of_ble_eq_true rfl⟩ (fun u_191 H locs h_190 => ?_)
    clear hP hD hS
    intro hP hD hS
    obtain ⟨iX_192, rfl, h_193⟩ := h_190
    have hPD := pd_as [zzB cy qab 250 fB, zzO qd 3 [.int (nI (T_nb tD)), .int (nI (T_np tD)), .int (wb (T_wh tD)), .int (wb (T_gn tD)), .int (T_sd tD), .ref qdw, .ref qdn, .ref qdg, .ref qda, .ref qdr, .ref qdm, .ref qdt, .ref qds], zzI cy qdw 8 (T_wo tD), zzI cy qdn 8 (T_ne tD), zzI cy qdg 8 (T_go tD), zzI cy qda 8 (T_ag tD), zzI cy qdr 8 (T_re tD), zzI cy qdm 8 (T_me tD), zzI cy qdt 8 (T_te tD), zzI cy qds 64 (shF (T_kn tD)), zzO qa 2 [.ref qab, .int (nI kZ), .int (nI kS), .int (nI kE), .int iT, .int iX_192, .ref qd]] hP hD rfl
    clear hP hD
    obtain ⟨hP, hD⟩ := hPD
    exact endV (u := [zzO qa 2 [.ref qab, .int (nI kZ), .int (nI kS), .int (nI kE), .int iT, .int iX_192, .ref qd], zzB cy qab 250 fB, zzO qd 3 [.int (nI (T_nb tD)), .int (nI (T_np tD)), .int (wb (T_wh tD)), .int (wb (T_gn tD)), .int (T_sd tD), .ref qdw, .ref qdn, .ref qdg, .ref qda, .ref qdr, .ref qdm, .ref qdt, .ref qds], zzI cy qdw 8 (T_wo tD), zzI cy qdn 8 (T_ne tD), zzI cy qdg 8 (T_go tD), zzI cy qda 8 (T_ag tD), zzI cy qdr 8 (T_re tD), zzI cy qdm 8 (T_me tD), zzI cy qdt 8 (T_te tD), zzI cy qds 64 (shF (T_kn tD))]) hx hb hr hlocks (hP.sub [10, 0, 1, 2, 3, 4, 5, 6, 7, 8, 9] rfl) (hD.sub [10, 0, 1, 2, 3, 4, 5, 6, 7, 8, 9] (by decide +kernel) rfl) hS ⟨kS, kE, iT, iX_192, tD, rfl, ⟨by omega, by omega, by first | omega | (show T_nb tD + 1 ≤ 8; omega) | (show T_nb tD ≤ 8; omega), by first | omega | (show T_np tD + 1 ≤ 8; omega) | (show T_np tD ≤ 8; omega)⟩⟩ dX3_readOne_16
set_option maxHeartbeats 4000000 in
set_option maxRecDepth 100000 in
theorem c_X3_readKnows (l : Launch) (G : va_G) (cy : Nat → ClassId) (sz : Nat) (qa : Nat) (qab : Nat) (kZ : Nat) (kS : Nat) (kE : Nat) (iT : Int32) (iF : Int32) (qd : Nat) (fB : Nat → Int32) (tD : TA) (qdw : Nat) (qdn : Nat) (qdg : Nat) (qda : Nat) (qdr : Nat) (qdm : Nat) (qdt : Nat) (qds : Nat)  (hZ : kZ ≤ 250) (hE : kS ≤ kE ∧ kE ≤ kZ) (hDb : T_nb tD ≤ 8) (hDp : T_np tD ≤ 8) : MW l yX3_readKnows cX3_readKnows 4 none 8 0 0 G cy [zzO qa 2 [.ref qab, .int (nI kZ), .int (nI kS), .int (nI kE), .int iT, .int iF, .ref qd], zzB cy qab 250 fB, zzO qd 3 [.int (nI (T_nb tD)), .int (nI (T_np tD)), .int (wb (T_wh tD)), .int (wb (T_gn tD)), .int (T_sd tD), .ref qdw, .ref qdn, .ref qdg, .ref qda, .ref qdr, .ref qdm, .ref qdt, .ref qds], zzI cy qdw 8 (T_wo tD), zzI cy qdn 8 (T_ne tD), zzI cy qdg 8 (T_go tD), zzI cy qda 8 (T_ag tD), zzI cy qdr 8 (T_re tD), zzI cy qdm 8 (T_me tD), zzI cy qdt 8 (T_te tD), zzI cy qds 64 (shF (T_kn tD))] sz [.ref qa] (Wv G (fun u => ∃ (kX : Nat) (kY : Nat) (iX : Int32) (iY : Int32) (tX : TA), u = [zzO qa 2 [.ref qab, .int (nI kZ), .int (nI kX), .int (nI kY), .int iX, .int iY, .ref qd], zzB cy qab 250 fB, zzO qd 3 [.int (nI (T_nb tX)), .int (nI (T_np tX)), .int (wb (T_wh tX)), .int (wb (T_gn tX)), .int (T_sd tX), .ref qdw, .ref qdn, .ref qdg, .ref qda, .ref qdr, .ref qdm, .ref qdt, .ref qds], zzI cy qdw 8 (T_wo tX), zzI cy qdn 8 (T_ne tX), zzI cy qdg 8 (T_go tX), zzI cy qda 8 (T_ag tX), zzI cy qdr 8 (T_re tX), zzI cy qdm 8 (T_me tX), zzI cy qdt 8 (T_te tX), zzI cy qds 64 (shF (T_kn tX))] ∧ (kX ≤ kY ∧ kY ≤ kZ ∧ T_nb tX ≤ 8 ∧ T_np tX ≤ 8))) := by
  refine enW RX3 (by decide) rfl (Nat.le_of_ble_eq_true rfl) (fun p e s m below meth c ls A hx hb hml hown hts hr hlocks hP hN hl hin hD hA hS => ?_)
  have hin : meth.name = _ := hin
  have hK := hN.1
  replace hl : lv_has ls 4 [(0, .ref qa)] := hl
  refine lv_aload_n hx hb dX3_readKnows_0 rfl (lv_at hl 0 rfl) ?_
  refine cVv (As := []) (rest := []) (b := qa) (q := (RX3, TX3, 7)) ⟨hx, hb, hml, hown, hts⟩ (c_X3_step l G cy (s.heap).size qa qab kZ (nI kS) kE iT iF qd fB hZ (by first | omega | (simp only [nb_sr, np_sr, nb_wr, np_wr, nb_rd, np_rd, nb_ch, np_ch, nb_zr, np_zr, nb_za, np_za, nb_ey, np_ey, nb_hf, np_hf, nb_dd, np_dd, nb_so, np_so, nb_skn, np_skn, nb_swh, np_swh, nb_sgn, np_sgn, nb_ssd, np_ssd, nb_sgo, np_sgo, nb_sag, np_sag]; omega))) L_X3_36 hN hP hD hS hA [0, 1] [false, false, true, true, true, true, true, true, true, true, true] rfl (by decide +kernel) rfl 0 2 rfl rfl rfl ⟨Nat.le_of_ble_eq_true rfl, Nat.le_of_ble_eq_true rfl⟩ hl.1 (Nat.le_of_ble_eq_true rfl) dX3_readKnows_1 ⟨Nat.le_of_ble_eq_true rfl, Nat.le_of_ble_eq_true rfl⟩ (fun u_3 H locs h_2 => ?_)
  clear hP hD hS
  intro hP hD hS
  obtain ⟨kX_4, kY_5, iX_6, rfl, h_7⟩ := h_2
  have hPD := pd_as [zzO qd 3 [.int (nI (T_nb tD)), .int (nI (T_np tD)), .int (wb (T_wh tD)), .int (wb (T_gn tD)), .int (T_sd tD), .ref qdw, .ref qdn, .ref qdg, .ref qda, .ref qdr, .ref qdm, .ref qdt, .ref qds], zzI cy qdw 8 (T_wo tD), zzI cy qdn 8 (T_ne tD), zzI cy qdg 8 (T_go tD), zzI cy qda 8 (T_ag tD), zzI cy qdr 8 (T_re tD), zzI cy qdm 8 (T_me tD), zzI cy qdt 8 (T_te tD), zzI cy qds 64 (shF (T_kn tD)), zzO qa 2 [.ref qab, .int (nI kZ), .int (nI kX_4), .int (nI kY_5), .int iX_6, .int iF, .ref qd], zzB cy qab 250 fB] hP hD rfl
  clear hP hD
  obtain ⟨hP, hD⟩ := hPD
  refine lv_aload_n hx hb dX3_readKnows_4 rfl (lv_at hl 0 rfl) ?_
  refine lv_iconst (v := 0) hx hb dX3_readKnows_5 (by decide) ?_
  refine lv_aload_n hx hb dX3_readKnows_6 rfl (lv_at hl 0 rfl) ?_
  refine va_get (D := G) (ci := 2) (v := .ref qd) (C := RX3) (T := TX3) (N := 7) hx hb hts iX_X3 hown hK hP 9 rfl rfl 6 (by decide) (hts _ m_t156) (fun _ h9 => h9) rfl dX3_readKnows_7 ?_
  refine va_getN (D := G) (ci := 3) (v := .int (nI (T_np tD))) (C := RX4) (T := TX4) (N := 13) hx hb hts iX_X4 hown hK hP 0 rfl rfl 1 (by decide) (va_Nw.use rfl (hN.2.1 (RX3, 98, "EachBookOnce$Town", "people", "I") (List.mem_of_getElem? (i := 6) rfl))) (fun _ h9 => h9) rfl dX3_readKnows_10 ?_
  refine lv_iconst (v := 1) hx hb dX3_readKnows_13 (by decide) ?_
  refine lv_isub hx hb dX3_readKnows_14 ?_
  refine cVi (As := [.int 0, .int ((nI (T_np tD)) - 1)]) (rest := []) (b := qa) (q := (RX3, TX3, 7)) ⟨hx, hb, hml, hown, hts⟩ (c_X3_takeNumber l G cy (H).size qa qab kZ kX_4 kY_5 iX_6 iF qd fB 0 ((nI (T_np tD)) - 1) hZ (by first | omega | (simp only [nb_sr, np_sr, nb_wr, np_wr, nb_rd, np_rd, nb_ch, np_ch, nb_zr, np_zr, nb_za, np_za, nb_ey, np_ey, nb_hf, np_hf, nb_dd, np_dd, nb_so, np_so, nb_skn, np_skn, nb_swh, np_swh, nb_sgn, np_sgn, nb_ssd, np_ssd, nb_sgo, np_sgo, nb_sag, np_sag]; omega))) L_X3_80 hN hP hD hS hA [9, 10] [true, true, true, true, true, true, true, true, true, false, false] rfl (by decide +kernel) rfl 9 2 rfl rfl rfl ⟨Nat.le_of_ble_eq_true rfl, Nat.le_of_ble_eq_true rfl⟩ hl.1 (Nat.le_of_ble_eq_true rfl) dX3_readKnows_15 ⟨Nat.le_of_ble_eq_true rfl, Nat.le_of_ble_eq_true rfl⟩ (fun r_8 u_10 H locs h_9 => ?_)
  clear hP hD hS
  intro hP hD hS
  obtain ⟨kX_11, kY_12, iX_13, iY_14, rfl, h_15, h_9⟩ := h_9
  have hPD := pd_as [zzO qd 3 [.int (nI (T_nb tD)), .int (nI (T_np tD)), .int (wb (T_wh tD)), .int (wb (T_gn tD)), .int (T_sd tD), .ref qdw, .ref qdn, .ref qdg, .ref qda, .ref qdr, .ref qdm, .ref qdt, .ref qds], zzI cy qdw 8 (T_wo tD), zzI cy qdn 8 (T_ne tD), zzI cy qdg 8 (T_go tD), zzI cy qda 8 (T_ag tD), zzI cy qdr 8 (T_re tD), zzI cy qdm 8 (T_me tD), zzI cy qdt 8 (T_te tD), zzI cy qds 64 (shF (T_kn tD)), zzO qa 2 [.ref qab, .int (nI kZ), .int (nI kX_11), .int (nI kY_12), .int iX_13, .int iY_14, .ref qd], zzB cy qab 250 fB] hP hD rfl
  clear hP hD
  obtain ⟨hP, hD⟩ := hPD
  refine lv_istore_n (lv' := [(1, .int r_8), (0, .ref qa)]) hx hb dX3_readKnows_18 rfl hl (by decide) rfl (fun ls => ?_)
  clear hl
  intro hl
  refine lv_aload_n hx hb dX3_readKnows_19 rfl (lv_at hl 1 rfl) ?_
  refine lv_iconst (v := 0) hx hb dX3_readKnows_20 (by decide) ?_
  refine lv_aload_n hx hb dX3_readKnows_21 rfl (lv_at hl 1 rfl) ?_
  refine va_get (D := G) (ci := 2) (v := .ref qd) (C := RX3) (T := TX3) (N := 7) hx hb hts iX_X3 hown hK hP 9 rfl rfl 6 (by decide) (hts _ m_t156) (fun _ h9 => h9) rfl dX3_readKnows_22 ?_
  refine va_getN (D := G) (ci := 3) (v := .int (nI (T_nb tD))) (C := RX4) (T := TX4) (N := 13) hx hb hts iX_X4 hown hK hP 0 rfl rfl 0 (by decide) (va_Nw.use rfl (hN.2.1 (RX3, 77, "EachBookOnce$Town", "books", "I") (List.mem_of_getElem? (i := 0) rfl))) (fun _ h9 => h9) rfl dX3_readKnows_25 ?_
  refine lv_iconst (v := 1) hx hb dX3_readKnows_28 (by decide) ?_
  refine lv_isub hx hb dX3_readKnows_29 ?_
  refine cVi (As := [.int 0, .int ((nI (T_nb tD)) - 1)]) (rest := []) (b := qa) (q := (RX3, TX3, 7)) ⟨hx, hb, hml, hown, hts⟩ (c_X3_takeNumber l G cy (H).size qa qab kZ kX_11 kY_12 iX_13 iY_14 qd fB 0 ((nI (T_nb tD)) - 1) hZ (by first | omega | (simp only [nb_sr, np_sr, nb_wr, np_wr, nb_rd, np_rd, nb_ch, np_ch, nb_zr, np_zr, nb_za, np_za, nb_ey, np_ey, nb_hf, np_hf, nb_dd, np_dd, nb_so, np_so, nb_skn, np_skn, nb_swh, np_swh, nb_sgn, np_sgn, nb_ssd, np_ssd, nb_sgo, np_sgo, nb_sag, np_sag]; omega))) L_X3_80 hN hP hD hS hA [9, 10] [true, true, true, true, true, true, true, true, true, false, false] rfl (by decide +kernel) rfl 9 2 rfl rfl rfl ⟨Nat.le_of_ble_eq_true rfl, Nat.le_of_ble_eq_true rfl⟩ hl.1 (Nat.le_of_ble_eq_true rfl) dX3_readKnows_30 ⟨Nat.le_of_ble_eq_true rfl, Nat.le_of_ble_eq_true rfl⟩ (fun r_16 u_18 H locs h_17 => ?_)
  clear hP hD hS
  intro hP hD hS
  obtain ⟨kX_19, kY_20, iX_21, iY_22, rfl, h_23, h_17⟩ := h_17
  have hPD := pd_as [zzO qd 3 [.int (nI (T_nb tD)), .int (nI (T_np tD)), .int (wb (T_wh tD)), .int (wb (T_gn tD)), .int (T_sd tD), .ref qdw, .ref qdn, .ref qdg, .ref qda, .ref qdr, .ref qdm, .ref qdt, .ref qds], zzI cy qdw 8 (T_wo tD), zzI cy qdn 8 (T_ne tD), zzI cy qdg 8 (T_go tD), zzI cy qda 8 (T_ag tD), zzI cy qdr 8 (T_re tD), zzI cy qdm 8 (T_me tD), zzI cy qdt 8 (T_te tD), zzI cy qds 64 (shF (T_kn tD)), zzO qa 2 [.ref qab, .int (nI kZ), .int (nI kX_19), .int (nI kY_20), .int iX_21, .int iY_22, .ref qd], zzB cy qab 250 fB] hP hD rfl
  clear hP hD
  obtain ⟨hP, hD⟩ := hPD
  refine lv_istore_n (lv' := [(2, .int r_16), (1, .int r_8), (0, .ref qa)]) hx hb dX3_readKnows_33 rfl hl (by decide) rfl (fun ls => ?_)
  clear hl
  intro hl
  refine lv_aload_n hx hb dX3_readKnows_34 rfl (lv_at hl 2 rfl) ?_
  refine lv_iconst (v := 0) hx hb dX3_readKnows_35 (by decide) ?_
  refine lv_sipush (v := 1000) hx hb dX3_readKnows_36 (by decide) ?_
  refine cVi (As := [.int 0, .int 1000]) (rest := []) (b := qa) (q := (RX3, TX3, 7)) ⟨hx, hb, hml, hown, hts⟩ (c_X3_takeNumber l G cy (H).size qa qab kZ kX_19 kY_20 iX_21 iY_22 qd fB 0 1000 hZ (by first | omega | (simp only [nb_sr, np_sr, nb_wr, np_wr, nb_rd, np_rd, nb_ch, np_ch, nb_zr, np_zr, nb_za, np_za, nb_ey, np_ey, nb_hf, np_hf, nb_dd, np_dd, nb_so, np_so, nb_skn, np_skn, nb_swh, np_swh, nb_sgn, np_sgn, nb_ssd, np_ssd, nb_sgo, np_sgo, nb_sag, np_sag]; omega))) L_X3_80 hN hP hD hS hA [9, 10] [true, true, true, true, true, true, true, true, true, false, false] rfl (by decide +kernel) rfl 9 2 rfl rfl rfl ⟨Nat.le_of_ble_eq_true rfl, Nat.le_of_ble_eq_true rfl⟩ hl.1 (Nat.le_of_ble_eq_true rfl) dX3_readKnows_39 ⟨Nat.le_of_ble_eq_true rfl, Nat.le_of_ble_eq_true rfl⟩ (fun r_24 u_26 H locs h_25 => ?_)
  clear hP hD hS
  intro hP hD hS
  obtain ⟨kX_27, kY_28, iX_29, iY_30, rfl, h_31, h_25⟩ := h_25
  have hPD := pd_as [zzO qd 3 [.int (nI (T_nb tD)), .int (nI (T_np tD)), .int (wb (T_wh tD)), .int (wb (T_gn tD)), .int (T_sd tD), .ref qdw, .ref qdn, .ref qdg, .ref qda, .ref qdr, .ref qdm, .ref qdt, .ref qds], zzI cy qdw 8 (T_wo tD), zzI cy qdn 8 (T_ne tD), zzI cy qdg 8 (T_go tD), zzI cy qda 8 (T_ag tD), zzI cy qdr 8 (T_re tD), zzI cy qdm 8 (T_me tD), zzI cy qdt 8 (T_te tD), zzI cy qds 64 (shF (T_kn tD)), zzO qa 2 [.ref qab, .int (nI kZ), .int (nI kX_27), .int (nI kY_28), .int iX_29, .int iY_30, .ref qd], zzB cy qab 250 fB] hP hD rfl
  clear hP hD
  obtain ⟨hP, hD⟩ := hPD
  refine lv_istore_n (lv' := [(3, .int r_24), (2, .int r_16), (1, .int r_8), (0, .ref qa)]) hx hb dX3_readKnows_42 rfl hl (by decide) rfl (fun ls => ?_)
  clear hl
  intro hl
  refine lv_aload_n hx hb dX3_readKnows_43 rfl (lv_at hl 3 rfl) ?_
  refine va_get (D := G) (ci := 2) (v := .int iY_30) (C := RX3) (T := TX3) (N := 7) hx hb hts iX_X3 hown hK hP 9 rfl rfl 5 (by decide) (hts _ m_t154) (fun _ h9 => h9) rfl dX3_readKnows_44 ?_
  refine lv_iconst (v := (-1)) hx hb dX3_readKnows_47 (by decide) ?_
  refine lv_icmp_ne (tgt := 61) hx hb dX3_readKnows_48 (by decide) (fun c_32 => ?_) (fun c_32 => ?_)
  · exact endV (u := [zzO qa 2 [.ref qab, .int (nI kZ), .int (nI kX_27), .int (nI kY_28), .int iX_29, .int iY_30, .ref qd], zzB cy qab 250 fB, zzO qd 3 [.int (nI (T_nb tD)), .int (nI (T_np tD)), .int (wb (T_wh tD)), .int (wb (T_gn tD)), .int (T_sd tD), .ref qdw, .ref qdn, .ref qdg, .ref qda, .ref qdr, .ref qdm, .ref qdt, .ref qds], zzI cy qdw 8 (T_wo tD), zzI cy qdn 8 (T_ne tD), zzI cy qdg 8 (T_go tD), zzI cy qda 8 (T_ag tD), zzI cy qdr 8 (T_re tD), zzI cy qdm 8 (T_me tD), zzI cy qdt 8 (T_te tD), zzI cy qds 64 (shF (T_kn tD))]) hx hb hr hlocks (hP.sub [9, 10, 0, 1, 2, 3, 4, 5, 6, 7, 8] rfl) (hD.sub [9, 10, 0, 1, 2, 3, 4, 5, 6, 7, 8] (by decide +kernel) rfl) hS ⟨kX_27, kY_28, iX_29, iY_30, tD, rfl, ⟨by omega, by omega, by first | omega | (show T_nb tD + 1 ≤ 8; omega) | (show T_nb tD ≤ 8; omega), by first | omega | (show T_np tD + 1 ≤ 8; omega) | (show T_np tD ≤ 8; omega)⟩⟩ dX3_readKnows_61
  · have hq_33 := h_31.2.2 c_32
    have hq_34 := h_23.2.2 hq_33.1
    have hq_35 := h_15.2.2 hq_34.1
    obtain ⟨k_36, hk_37, ek_38⟩ := tk_in (n := T_np tD) (by omega) hq_35.2.1 hq_35.2.2
    obtain ⟨k_39, hk_40, ek_41⟩ := tk_in (n := T_nb tD) (by omega) hq_34.2.1 hq_34.2.2
    rw [ek_41, ek_38] at hl
    refine lv_aload_n hx hb dX3_readKnows_51 rfl (lv_at hl 3 rfl) ?_
    refine va_get (D := G) (ci := 2) (v := .ref qd) (C := RX3) (T := TX3) (N := 7) hx hb hts iX_X3 hown hK hP 9 rfl rfl 6 (by decide) (hts _ m_t156) (fun _ h9 => h9) rfl dX3_readKnows_52 ?_
    refine lv_iload_n hx hb dX3_readKnows_55 rfl (lv_at hl 2 rfl) ?_
    refine lv_iload_n hx hb dX3_readKnows_56 rfl (lv_at hl 1 rfl) ?_
    refine lv_iload_n hx hb dX3_readKnows_57 rfl (lv_at hl 0 rfl) ?_
    refine cVv (As := [.int (nI k_36), .int (nI k_39), .int r_24]) (rest := []) (b := qd) (q := (RX4, TX4, 13)) ⟨hx, hb, hml, hown, hts⟩ (c_X4_learn l G cy (H).size qd tD qdw qdn qdg qda qdr qdm qdt qds k_36 k_39 r_24 (by first | omega | (simp only [nb_sr, np_sr, nb_wr, np_wr, nb_rd, np_rd, nb_ch, np_ch, nb_zr, np_zr, nb_za, np_za, nb_ey, np_ey, nb_hf, np_hf, nb_dd, np_dd, nb_so, np_so, nb_skn, np_skn, nb_swh, np_swh, nb_sgn, np_sgn, nb_ssd, np_ssd, nb_sgo, np_sgo, nb_sag, np_sag]; omega)) (by first | omega | (simp only [nb_sr, np_sr, nb_wr, np_wr, nb_rd, np_rd, nb_ch, np_ch, nb_zr, np_zr, nb_za, np_za, nb_ey, np_ey, nb_hf, np_hf, nb_dd, np_dd, nb_so, np_so, nb_skn, np_skn, nb_swh, np_swh, nb_sgn, np_sgn, nb_ssd, np_ssd, nb_sgo, np_sgo, nb_sag, np_sag]; omega))) L_X3_111 hN hP hD hS hA [0, 8] [false, true, true, true, true, true, true, true, false, true, true] rfl (by decide +kernel) rfl 0 3 rfl rfl rfl ⟨Nat.le_of_ble_eq_true rfl, Nat.le_of_ble_eq_true rfl⟩ hl.1 (Nat.le_of_ble_eq_true rfl) dX3_readKnows_58 ⟨Nat.le_of_ble_eq_true rfl, Nat.le_of_ble_eq_true rfl⟩ (fun u_44 H locs h_43 => ?_)
    clear hP hD hS
    intro hP hD hS
    subst h_43
    have hPD := pd_as [zzI cy qdw 8 (T_wo (T_setkn tD (updM (T_kn tD) k_36 k_39 r_24))), zzI cy qdn 8 (T_ne (T_setkn tD (updM (T_kn tD) k_36 k_39 r_24))), zzI cy qdg 8 (T_go (T_setkn tD (updM (T_kn tD) k_36 k_39 r_24))), zzI cy qda 8 (T_ag (T_setkn tD (updM (T_kn tD) k_36 k_39 r_24))), zzI cy qdr 8 (T_re (T_setkn tD (updM (T_kn tD) k_36 k_39 r_24))), zzI cy qdm 8 (T_me (T_setkn tD (updM (T_kn tD) k_36 k_39 r_24))), zzI cy qdt 8 (T_te (T_setkn tD (updM (T_kn tD) k_36 k_39 r_24))), zzO qa 2 [.ref qab, .int (nI kZ), .int (nI kX_27), .int (nI kY_28), .int iX_29, .int iY_30, .ref qd], zzB cy qab 250 fB, zzO qd 3 [.int (nI (T_nb (T_setkn tD (updM (T_kn tD) k_36 k_39 r_24)))), .int (nI (T_np (T_setkn tD (updM (T_kn tD) k_36 k_39 r_24)))), .int (wb (T_wh (T_setkn tD (updM (T_kn tD) k_36 k_39 r_24)))), .int (wb (T_gn (T_setkn tD (updM (T_kn tD) k_36 k_39 r_24)))), .int (T_sd (T_setkn tD (updM (T_kn tD) k_36 k_39 r_24))), .ref qdw, .ref qdn, .ref qdg, .ref qda, .ref qdr, .ref qdm, .ref qdt, .ref qds], zzI cy qds 64 (shF (T_kn (T_setkn tD (updM (T_kn tD) k_36 k_39 r_24))))] hP hD rfl
    clear hP hD
    obtain ⟨hP, hD⟩ := hPD
    exact endV (u := [zzO qa 2 [.ref qab, .int (nI kZ), .int (nI kX_27), .int (nI kY_28), .int iX_29, .int iY_30, .ref qd], zzB cy qab 250 fB, zzO qd 3 [.int (nI (T_nb (T_setkn tD (updM (T_kn tD) k_36 k_39 r_24)))), .int (nI (T_np (T_setkn tD (updM (T_kn tD) k_36 k_39 r_24)))), .int (wb (T_wh (T_setkn tD (updM (T_kn tD) k_36 k_39 r_24)))), .int (wb (T_gn (T_setkn tD (updM (T_kn tD) k_36 k_39 r_24)))), .int (T_sd (T_setkn tD (updM (T_kn tD) k_36 k_39 r_24))), .ref qdw, .ref qdn, .ref qdg, .ref qda, .ref qdr, .ref qdm, .ref qdt, .ref qds], zzI cy qdw 8 (T_wo (T_setkn tD (updM (T_kn tD) k_36 k_39 r_24))), zzI cy qdn 8 (T_ne (T_setkn tD (updM (T_kn tD) k_36 k_39 r_24))), zzI cy qdg 8 (T_go (T_setkn tD (updM (T_kn tD) k_36 k_39 r_24))), zzI cy qda 8 (T_ag (T_setkn tD (updM (T_kn tD) k_36 k_39 r_24))), zzI cy qdr 8 (T_re (T_setkn tD (updM (T_kn tD) k_36 k_39 r_24))), zzI cy qdm 8 (T_me (T_setkn tD (updM (T_kn tD) k_36 k_39 r_24))), zzI cy qdt 8 (T_te (T_setkn tD (updM (T_kn tD) k_36 k_39 r_24))), zzI cy qds 64 (shF (T_kn (T_setkn tD (updM (T_kn tD) k_36 k_39 r_24))))]) hx hb hr hlocks (hP.sub [7, 8, 9, 0, 1, 2, 3, 4, 5, 6, 10] rfl) (hD.sub [7, 8, 9, 0, 1, 2, 3, 4, 5, 6, 10] (by decide +kernel) rfl) hS ⟨kX_27, kY_28, iX_29, iY_30, (T_setkn tD (updM (T_kn tD) k_36 k_39 r_24)), rfl, ⟨by omega, by omega, by first | omega | (show T_nb tD + 1 ≤ 8; omega) | (show T_nb tD ≤ 8; omega), by first | omega | (show T_np tD + 1 ≤ 8; omega) | (show T_np tD ≤ 8; omega)⟩⟩ dX3_readKnows_61
set_option maxHeartbeats 4000000 in
set_option maxRecDepth 100000 in
theorem c_X3_readWhite (l : Launch) (G : va_G) (cy : Nat → ClassId) (sz : Nat) (qa : Nat) (qab : Nat) (kZ : Nat) (kS : Nat) (kE : Nat) (iT : Int32) (iF : Int32) (qd : Nat) (fB : Nat → Int32) (tD : TA) (qdw : Nat) (qdn : Nat) (qdg : Nat) (qda : Nat) (qdr : Nat) (qdm : Nat) (qdt : Nat) (qds : Nat)  (hZ : kZ ≤ 250) (hE : kS ≤ kE ∧ kE ≤ kZ) (hDb : T_nb tD ≤ 8) (hDp : T_np tD ≤ 8) : MW l yX3_readWhite cX3_readWhite 2 none 8 0 0 G cy [zzO qa 2 [.ref qab, .int (nI kZ), .int (nI kS), .int (nI kE), .int iT, .int iF, .ref qd], zzB cy qab 250 fB, zzO qd 3 [.int (nI (T_nb tD)), .int (nI (T_np tD)), .int (wb (T_wh tD)), .int (wb (T_gn tD)), .int (T_sd tD), .ref qdw, .ref qdn, .ref qdg, .ref qda, .ref qdr, .ref qdm, .ref qdt, .ref qds], zzI cy qdw 8 (T_wo tD), zzI cy qdn 8 (T_ne tD), zzI cy qdg 8 (T_go tD), zzI cy qda 8 (T_ag tD), zzI cy qdr 8 (T_re tD), zzI cy qdm 8 (T_me tD), zzI cy qdt 8 (T_te tD), zzI cy qds 64 (shF (T_kn tD))] sz [.ref qa] (Wv G (fun u => ∃ (kX : Nat) (kY : Nat) (iX : Int32) (iY : Int32) (tX : TA), u = [zzO qa 2 [.ref qab, .int (nI kZ), .int (nI kX), .int (nI kY), .int iX, .int iY, .ref qd], zzB cy qab 250 fB, zzO qd 3 [.int (nI (T_nb tX)), .int (nI (T_np tX)), .int (wb (T_wh tX)), .int (wb (T_gn tX)), .int (T_sd tX), .ref qdw, .ref qdn, .ref qdg, .ref qda, .ref qdr, .ref qdm, .ref qdt, .ref qds], zzI cy qdw 8 (T_wo tX), zzI cy qdn 8 (T_ne tX), zzI cy qdg 8 (T_go tX), zzI cy qda 8 (T_ag tX), zzI cy qdr 8 (T_re tX), zzI cy qdm 8 (T_me tX), zzI cy qdt 8 (T_te tX), zzI cy qds 64 (shF (T_kn tX))] ∧ (kX ≤ kY ∧ kY ≤ kZ ∧ T_nb tX ≤ 8 ∧ T_np tX ≤ 8))) := by
  refine enW RX3 (by decide) rfl (Nat.le_of_ble_eq_true rfl) (fun p e s m below meth c ls A hx hb hml hown hts hr hlocks hP hN hl hin hD hA hS => ?_)
  have hin : meth.name = _ := hin
  have hK := hN.1
  replace hl : lv_has ls 2 [(0, .ref qa)] := hl
  refine lv_aload_n hx hb dX3_readWhite_0 rfl (lv_at hl 0 rfl) ?_
  refine cVv (As := []) (rest := []) (b := qa) (q := (RX3, TX3, 7)) ⟨hx, hb, hml, hown, hts⟩ (c_X3_step l G cy (s.heap).size qa qab kZ (nI kS) kE iT iF qd fB hZ (by first | omega | (simp only [nb_sr, np_sr, nb_wr, np_wr, nb_rd, np_rd, nb_ch, np_ch, nb_zr, np_zr, nb_za, np_za, nb_ey, np_ey, nb_hf, np_hf, nb_dd, np_dd, nb_so, np_so, nb_skn, np_skn, nb_swh, np_swh, nb_sgn, np_sgn, nb_ssd, np_ssd, nb_sgo, np_sgo, nb_sag, np_sag]; omega))) L_X3_36 hN hP hD hS hA [0, 1] [false, false, true, true, true, true, true, true, true, true, true] rfl (by decide +kernel) rfl 0 2 rfl rfl rfl ⟨Nat.le_of_ble_eq_true rfl, Nat.le_of_ble_eq_true rfl⟩ hl.1 (Nat.le_of_ble_eq_true rfl) dX3_readWhite_1 ⟨Nat.le_of_ble_eq_true rfl, Nat.le_of_ble_eq_true rfl⟩ (fun u_3 H locs h_2 => ?_)
  clear hP hD hS
  intro hP hD hS
  obtain ⟨kX_4, kY_5, iX_6, rfl, h_7⟩ := h_2
  have hPD := pd_as [zzO qd 3 [.int (nI (T_nb tD)), .int (nI (T_np tD)), .int (wb (T_wh tD)), .int (wb (T_gn tD)), .int (T_sd tD), .ref qdw, .ref qdn, .ref qdg, .ref qda, .ref qdr, .ref qdm, .ref qdt, .ref qds], zzI cy qdw 8 (T_wo tD), zzI cy qdn 8 (T_ne tD), zzI cy qdg 8 (T_go tD), zzI cy qda 8 (T_ag tD), zzI cy qdr 8 (T_re tD), zzI cy qdm 8 (T_me tD), zzI cy qdt 8 (T_te tD), zzI cy qds 64 (shF (T_kn tD)), zzO qa 2 [.ref qab, .int (nI kZ), .int (nI kX_4), .int (nI kY_5), .int iX_6, .int iF, .ref qd], zzB cy qab 250 fB] hP hD rfl
  clear hP hD
  obtain ⟨hP, hD⟩ := hPD
  refine lv_aload_n hx hb dX3_readWhite_4 rfl (lv_at hl 0 rfl) ?_
  refine lv_iconst (v := 0) hx hb dX3_readWhite_5 (by decide) ?_
  refine lv_aload_n hx hb dX3_readWhite_6 rfl (lv_at hl 0 rfl) ?_
  refine va_get (D := G) (ci := 2) (v := .ref qd) (C := RX3) (T := TX3) (N := 7) hx hb hts iX_X3 hown hK hP 9 rfl rfl 6 (by decide) (hts _ m_t156) (fun _ h9 => h9) rfl dX3_readWhite_7 ?_
  refine va_getN (D := G) (ci := 3) (v := .int (nI (T_nb tD))) (C := RX4) (T := TX4) (N := 13) hx hb hts iX_X4 hown hK hP 0 rfl rfl 0 (by decide) (va_Nw.use rfl (hN.2.1 (RX3, 77, "EachBookOnce$Town", "books", "I") (List.mem_of_getElem? (i := 0) rfl))) (fun _ h9 => h9) rfl dX3_readWhite_10 ?_
  refine lv_iconst (v := 1) hx hb dX3_readWhite_13 (by decide) ?_
  refine lv_isub hx hb dX3_readWhite_14 ?_
  refine cVi (As := [.int 0, .int ((nI (T_nb tD)) - 1)]) (rest := []) (b := qa) (q := (RX3, TX3, 7)) ⟨hx, hb, hml, hown, hts⟩ (c_X3_takeNumber l G cy (H).size qa qab kZ kX_4 kY_5 iX_6 iF qd fB 0 ((nI (T_nb tD)) - 1) hZ (by first | omega | (simp only [nb_sr, np_sr, nb_wr, np_wr, nb_rd, np_rd, nb_ch, np_ch, nb_zr, np_zr, nb_za, np_za, nb_ey, np_ey, nb_hf, np_hf, nb_dd, np_dd, nb_so, np_so, nb_skn, np_skn, nb_swh, np_swh, nb_sgn, np_sgn, nb_ssd, np_ssd, nb_sgo, np_sgo, nb_sag, np_sag]; omega))) L_X3_80 hN hP hD hS hA [9, 10] [true, true, true, true, true, true, true, true, true, false, false] rfl (by decide +kernel) rfl 9 2 rfl rfl rfl ⟨Nat.le_of_ble_eq_true rfl, Nat.le_of_ble_eq_true rfl⟩ hl.1 (Nat.le_of_ble_eq_true rfl) dX3_readWhite_15 ⟨Nat.le_of_ble_eq_true rfl, Nat.le_of_ble_eq_true rfl⟩ (fun r_8 u_10 H locs h_9 => ?_)
  clear hP hD hS
  intro hP hD hS
  obtain ⟨kX_11, kY_12, iX_13, iY_14, rfl, h_15, h_9⟩ := h_9
  have hPD := pd_as [zzO qd 3 [.int (nI (T_nb tD)), .int (nI (T_np tD)), .int (wb (T_wh tD)), .int (wb (T_gn tD)), .int (T_sd tD), .ref qdw, .ref qdn, .ref qdg, .ref qda, .ref qdr, .ref qdm, .ref qdt, .ref qds], zzI cy qdw 8 (T_wo tD), zzI cy qdn 8 (T_ne tD), zzI cy qdg 8 (T_go tD), zzI cy qda 8 (T_ag tD), zzI cy qdr 8 (T_re tD), zzI cy qdm 8 (T_me tD), zzI cy qdt 8 (T_te tD), zzI cy qds 64 (shF (T_kn tD)), zzO qa 2 [.ref qab, .int (nI kZ), .int (nI kX_11), .int (nI kY_12), .int iX_13, .int iY_14, .ref qd], zzB cy qab 250 fB] hP hD rfl
  clear hP hD
  obtain ⟨hP, hD⟩ := hPD
  refine lv_istore_n (lv' := [(1, .int r_8), (0, .ref qa)]) hx hb dX3_readWhite_18 rfl hl (by decide) rfl (fun ls => ?_)
  clear hl
  intro hl
  refine lv_aload_n hx hb dX3_readWhite_19 rfl (lv_at hl 1 rfl) ?_
  refine va_get (D := G) (ci := 2) (v := .int iY_14) (C := RX3) (T := TX3) (N := 7) hx hb hts iX_X3 hown hK hP 9 rfl rfl 5 (by decide) (hts _ m_t154) (fun _ h9 => h9) rfl dX3_readWhite_20 ?_
  refine lv_iconst (v := (-1)) hx hb dX3_readWhite_23 (by decide) ?_
  refine lv_icmp_ne (tgt := 42) hx hb dX3_readWhite_24 (by decide) (fun c_16 => ?_) (fun c_16 => ?_)
  · exact endV (u := [zzO qa 2 [.ref qab, .int (nI kZ), .int (nI kX_11), .int (nI kY_12), .int iX_13, .int iY_14, .ref qd], zzB cy qab 250 fB, zzO qd 3 [.int (nI (T_nb tD)), .int (nI (T_np tD)), .int (wb (T_wh tD)), .int (wb (T_gn tD)), .int (T_sd tD), .ref qdw, .ref qdn, .ref qdg, .ref qda, .ref qdr, .ref qdm, .ref qdt, .ref qds], zzI cy qdw 8 (T_wo tD), zzI cy qdn 8 (T_ne tD), zzI cy qdg 8 (T_go tD), zzI cy qda 8 (T_ag tD), zzI cy qdr 8 (T_re tD), zzI cy qdm 8 (T_me tD), zzI cy qdt 8 (T_te tD), zzI cy qds 64 (shF (T_kn tD))]) hx hb hr hlocks (hP.sub [9, 10, 0, 1, 2, 3, 4, 5, 6, 7, 8] rfl) (hD.sub [9, 10, 0, 1, 2, 3, 4, 5, 6, 7, 8] (by decide +kernel) rfl) hS ⟨kX_11, kY_12, iX_13, iY_14, tD, rfl, ⟨by omega, by omega, by first | omega | (show T_nb tD + 1 ≤ 8; omega) | (show T_nb tD ≤ 8; omega), by first | omega | (show T_np tD + 1 ≤ 8; omega) | (show T_np tD ≤ 8; omega)⟩⟩ dX3_readWhite_42
  · have hq_17 := h_15.2.2 c_16
    obtain ⟨k_18, hk_19, ek_20⟩ := tk_in (n := T_nb tD) (by omega) hq_17.2.1 hq_17.2.2
    rw [ek_20] at hl
    refine lv_aload_n hx hb dX3_readWhite_27 rfl (lv_at hl 1 rfl) ?_
    refine va_get (D := G) (ci := 2) (v := .ref qd) (C := RX3) (T := TX3) (N := 7) hx hb hts iX_X3 hown hK hP 9 rfl rfl 6 (by decide) (hts _ m_t156) (fun _ h9 => h9) rfl dX3_readWhite_28 ?_
    refine lv_dup hx hb dX3_readWhite_31 rfl ?_
    refine va_getN (D := G) (ci := 3) (v := .int (wb (T_wh tD))) (C := RX4) (T := TX4) (N := 13) hx hb hts iX_X4 hown hK hP 0 rfl rfl 2 (by decide) (va_Nw.use rfl (hN.2.1 (RX3, 115, "EachBookOnce$Town", "white", "I") (List.mem_of_getElem? (i := 9) rfl))) (fun _ h9 => h9) rfl dX3_readWhite_32 ?_
    refine lv_iconst (v := 1) hx hb dX3_readWhite_35 (by decide) ?_
    refine lv_iload_n hx hb dX3_readWhite_36 rfl (lv_at hl 0 rfl) ?_
    refine lv_ishl hx hb dX3_readWhite_37 ?_
    refine lv_ior hx hb dX3_readWhite_38 ?_
    refine lv_seti (v := wb (updB (T_wh tD) k_18 true)) (wb_on _ (by omega)) ?_
    refine va_putN (D := G) (ci := 3) (v := .int (wb (updB (T_wh tD) k_18 true))) (ty := .int) (C := RX4) (T := TX4) (N := 13) hx hb hts iX_X4 tyX4 tyX4_ok nmX4 hown hK hP hD hS 0 rfl rfl 2 (by decide) (va_Nw.use rfl (hN.2.1 (RX3, 115, "EachBookOnce$Town", "white", "I") (List.mem_of_getElem? (i := 9) rfl))) (fun _ h9 => h9) rfl (by decide +kernel) rfl rfl (Nat.le_of_ble_eq_true rfl) dX3_readWhite_39 (fun H locs => ?_)
    clear hP hD hS
    intro hP hD hS
    have hPD := pd_as [zzO qd 3 [.int (nI (T_nb tD)), .int (nI (T_np tD)), .int (wb (updB (T_wh tD) k_18 true)), .int (wb (T_gn tD)), .int (T_sd tD), .ref qdw, .ref qdn, .ref qdg, .ref qda, .ref qdr, .ref qdm, .ref qdt, .ref qds], zzI cy qdw 8 (T_wo tD), zzI cy qdn 8 (T_ne tD), zzI cy qdg 8 (T_go tD), zzI cy qda 8 (T_ag tD), zzI cy qdr 8 (T_re tD), zzI cy qdm 8 (T_me tD), zzI cy qdt 8 (T_te tD), zzI cy qds 64 (shF (T_kn tD)), zzO qa 2 [.ref qab, .int (nI kZ), .int (nI kX_11), .int (nI kY_12), .int iX_13, .int iY_14, .ref qd], zzB cy qab 250 fB] hP hD rfl
    clear hP hD
    obtain ⟨hP, hD⟩ := hPD
    have hPD := pd_as [zzO qd 3 [.int (nI (T_nb (T_setwh tD (updB (T_wh tD) k_18 true)))), .int (nI (T_np (T_setwh tD (updB (T_wh tD) k_18 true)))), .int (wb (T_wh (T_setwh tD (updB (T_wh tD) k_18 true)))), .int (wb (T_gn (T_setwh tD (updB (T_wh tD) k_18 true)))), .int (T_sd (T_setwh tD (updB (T_wh tD) k_18 true))), .ref qdw, .ref qdn, .ref qdg, .ref qda, .ref qdr, .ref qdm, .ref qdt, .ref qds], zzI cy qdw 8 (T_wo (T_setwh tD (updB (T_wh tD) k_18 true))), zzI cy qdn 8 (T_ne (T_setwh tD (updB (T_wh tD) k_18 true))), zzI cy qdg 8 (T_go (T_setwh tD (updB (T_wh tD) k_18 true))), zzI cy qda 8 (T_ag (T_setwh tD (updB (T_wh tD) k_18 true))), zzI cy qdr 8 (T_re (T_setwh tD (updB (T_wh tD) k_18 true))), zzI cy qdm 8 (T_me (T_setwh tD (updB (T_wh tD) k_18 true))), zzI cy qdt 8 (T_te (T_setwh tD (updB (T_wh tD) k_18 true))), zzI cy qds 64 (shF (T_kn (T_setwh tD (updB (T_wh tD) k_18 true)))), zzO qa 2 [.ref qab, .int (nI kZ), .int (nI kX_11), .int (nI kY_12), .int iX_13, .int iY_14, .ref qd], zzB cy qab 250 fB] hP hD rfl
    clear hP hD
    obtain ⟨hP, hD⟩ := hPD
    exact endV (u := [zzO qa 2 [.ref qab, .int (nI kZ), .int (nI kX_11), .int (nI kY_12), .int iX_13, .int iY_14, .ref qd], zzB cy qab 250 fB, zzO qd 3 [.int (nI (T_nb (T_setwh tD (updB (T_wh tD) k_18 true)))), .int (nI (T_np (T_setwh tD (updB (T_wh tD) k_18 true)))), .int (wb (T_wh (T_setwh tD (updB (T_wh tD) k_18 true)))), .int (wb (T_gn (T_setwh tD (updB (T_wh tD) k_18 true)))), .int (T_sd (T_setwh tD (updB (T_wh tD) k_18 true))), .ref qdw, .ref qdn, .ref qdg, .ref qda, .ref qdr, .ref qdm, .ref qdt, .ref qds], zzI cy qdw 8 (T_wo (T_setwh tD (updB (T_wh tD) k_18 true))), zzI cy qdn 8 (T_ne (T_setwh tD (updB (T_wh tD) k_18 true))), zzI cy qdg 8 (T_go (T_setwh tD (updB (T_wh tD) k_18 true))), zzI cy qda 8 (T_ag (T_setwh tD (updB (T_wh tD) k_18 true))), zzI cy qdr 8 (T_re (T_setwh tD (updB (T_wh tD) k_18 true))), zzI cy qdm 8 (T_me (T_setwh tD (updB (T_wh tD) k_18 true))), zzI cy qdt 8 (T_te (T_setwh tD (updB (T_wh tD) k_18 true))), zzI cy qds 64 (shF (T_kn (T_setwh tD (updB (T_wh tD) k_18 true))))]) hx hb hr hlocks (hP.sub [9, 10, 0, 1, 2, 3, 4, 5, 6, 7, 8] rfl) (hD.sub [9, 10, 0, 1, 2, 3, 4, 5, 6, 7, 8] (by decide +kernel) rfl) hS ⟨kX_11, kY_12, iX_13, iY_14, (T_setwh tD (updB (T_wh tD) k_18 true)), rfl, ⟨by omega, by omega, by first | omega | (show T_nb tD + 1 ≤ 8; omega) | (show T_nb tD ≤ 8; omega), by first | omega | (show T_np tD + 1 ≤ 8; omega) | (show T_np tD ≤ 8; omega)⟩⟩ dX3_readWhite_42
set_option maxHeartbeats 4000000 in
set_option maxRecDepth 100000 in
theorem c_X3_readStatement (l : Launch) (G : va_G) (cy : Nat → ClassId) (sz : Nat) (qa : Nat) (qab : Nat) (kZ : Nat) (kS : Nat) (kE : Nat) (iT : Int32) (iF : Int32) (qd : Nat) (fB : Nat → Int32) (tD : TA) (qdw : Nat) (qdn : Nat) (qdg : Nat) (qda : Nat) (qdr : Nat) (qdm : Nat) (qdt : Nat) (qds : Nat)  (hZ : kZ ≤ 250) (hE : kS ≤ kE ∧ kE ≤ kZ) (hDb : T_nb tD ≤ 8) (hDp : T_np tD ≤ 8) : MWX l yX3_readStatement cX3_readStatement 1 none 9 0 0 G cy SO [zzO qa 2 [.ref qab, .int (nI kZ), .int (nI kS), .int (nI kE), .int iT, .int iF, .ref qd], zzB cy qab 250 fB, zzO qd 3 [.int (nI (T_nb tD)), .int (nI (T_np tD)), .int (wb (T_wh tD)), .int (wb (T_gn tD)), .int (T_sd tD), .ref qdw, .ref qdn, .ref qdg, .ref qda, .ref qdr, .ref qdm, .ref qdt, .ref qds], zzI cy qdw 8 (T_wo tD), zzI cy qdn 8 (T_ne tD), zzI cy qdg 8 (T_go tD), zzI cy qda 8 (T_ag tD), zzI cy qdr 8 (T_re tD), zzI cy qdm 8 (T_me tD), zzI cy qdt 8 (T_te tD), zzI cy qds 64 (shF (T_kn tD))] sz [.ref qa] (Wv G (fun u => ∃ (kX : Nat) (kY : Nat) (iX : Int32) (iY : Int32) (tX : TA), u = [zzO qa 2 [.ref qab, .int (nI kZ), .int (nI kX), .int (nI kY), .int iX, .int iY, .ref qd], zzB cy qab 250 fB, zzO qd 3 [.int (nI (T_nb tX)), .int (nI (T_np tX)), .int (wb (T_wh tX)), .int (wb (T_gn tX)), .int (T_sd tX), .ref qdw, .ref qdn, .ref qdg, .ref qda, .ref qdr, .ref qdm, .ref qdt, .ref qds], zzI cy qdw 8 (T_wo tX), zzI cy qdn 8 (T_ne tX), zzI cy qdg 8 (T_go tX), zzI cy qda 8 (T_ag tX), zzI cy qdr 8 (T_re tX), zzI cy qdm 8 (T_me tX), zzI cy qdt 8 (T_te tX), zzI cy qds 64 (shF (T_kn tX))] ∧ (kX ≤ kY ∧ kY ≤ kZ ∧ T_nb tX ≤ 8 ∧ T_np tX ≤ 8))) := by
  refine enWX RX3 (by decide) rfl (Nat.le_of_ble_eq_true rfl) (fun p e s m below meth c ls A hx hb hml hown hts hr hlocks hP hN hl hin hD hA hS hX => ?_)
  have hin : meth.name = _ := hin
  have hK := hN.1
  replace hl : lv_has ls 1 [(0, .ref qa)] := hl
  refine lv_aload_n hx hb dX3_readStatement_0 rfl (lv_at hl 0 rfl) ?_
  obtain ⟨qs_1, qv_3, hs_2, hf_4⟩ := hX (RX3, 48, "book", [98, 111, 111, 107]) (List.mem_of_getElem? (i := 0) rfl)
  refine va_ldcS hx hb hown hs_2 dX3_readStatement_1 ?_
  refine kRi (rV (As := [.ref qs_1]) (rest := []) (b := qa) ⟨hx, hb, hml, hown, hts⟩ (c_X3_isWord l G cy qa qab kZ kS kE iT iF qd fB qs_1 ([98, 111, 111, 107]) qv_3 hZ hE (by decide) as_book) L_X3_50 (preRVX (q := (RX3, TX3, 7)) hN hP [0, 1] rfl 0 2 rfl rfl SF_ok hf_4 hS) rfl ⟨Nat.le_of_ble_eq_true rfl, Nat.le_of_ble_eq_true rfl⟩ hl.1 (Nat.le_of_ble_eq_true rfl) dX3_readStatement_3 ⟨Nat.le_of_ble_eq_true rfl, Nat.le_of_ble_eq_true rfl⟩) (fun r_5 h_6 => ?_)
  rcases h_6 with rfl | rfl
  · refine lv_if_eq (tgt := 16) hx hb dX3_readStatement_6 (by decide) (fun h9 => absurd h9 (by decide)) (fun _ => ?_)
    refine lv_aload_n hx hb dX3_readStatement_9 rfl (lv_at hl 0 rfl) ?_
    refine cVXv (As := []) (rest := []) (b := qa) (q := (RX3, TX3, 7)) ⟨hx, hb, hml, hown, hts⟩ (c_X3_readBook l G cy (s.heap).size qa qab kZ kS kE iT iF qd fB tD qdw qdn qdg qda qdr qdm qdt qds hZ hE hDb hDp) L_X3_54 hN hP hD hS hA [0, 1, 2, 3, 4, 5, 6, 7, 8, 9, 10] [false, false, false, false, false, false, false, false, false, false, false] rfl (by decide +kernel) rfl 0 2 rfl rfl SO_ok hX rfl ⟨Nat.le_of_ble_eq_true rfl, Nat.le_of_ble_eq_true rfl⟩ hl.1 (Nat.le_of_ble_eq_true rfl) dX3_readStatement_10 ⟨Nat.le_of_ble_eq_true rfl, Nat.le_of_ble_eq_true rfl⟩ (fun u_11 H locs h_10 => ?_)
    clear hP hD hS
    intro hP hD hS
    obtain ⟨kX_12, kY_13, iX_14, iY_15, tX_16, rfl, h_17⟩ := h_10
    have hPD := pd_as [zzO qa 2 [.ref qab, .int (nI kZ), .int (nI kX_12), .int (nI kY_13), .int iX_14, .int iY_15, .ref qd], zzB cy qab 250 fB, zzO qd 3 [.int (nI (T_nb tX_16)), .int (nI (T_np tX_16)), .int (wb (T_wh tX_16)), .int (wb (T_gn tX_16)), .int (T_sd tX_16), .ref qdw, .ref qdn, .ref qdg, .ref qda, .ref qdr, .ref qdm, .ref qdt, .ref qds], zzI cy qdw 8 (T_wo tX_16), zzI cy qdn 8 (T_ne tX_16), zzI cy qdg 8 (T_go tX_16), zzI cy qda 8 (T_ag tX_16), zzI cy qdr 8 (T_re tX_16), zzI cy qdm 8 (T_me tX_16), zzI cy qdt 8 (T_te tX_16), zzI cy qds 64 (shF (T_kn tX_16))] hP hD rfl
    clear hP hD
    obtain ⟨hP, hD⟩ := hPD
    refine lv_goto (tgt := 84) hx hb dX3_readStatement_13 (by decide) ?_
    exact endV (u := [zzO qa 2 [.ref qab, .int (nI kZ), .int (nI kX_12), .int (nI kY_13), .int iX_14, .int iY_15, .ref qd], zzB cy qab 250 fB, zzO qd 3 [.int (nI (T_nb tX_16)), .int (nI (T_np tX_16)), .int (wb (T_wh tX_16)), .int (wb (T_gn tX_16)), .int (T_sd tX_16), .ref qdw, .ref qdn, .ref qdg, .ref qda, .ref qdr, .ref qdm, .ref qdt, .ref qds], zzI cy qdw 8 (T_wo tX_16), zzI cy qdn 8 (T_ne tX_16), zzI cy qdg 8 (T_go tX_16), zzI cy qda 8 (T_ag tX_16), zzI cy qdr 8 (T_re tX_16), zzI cy qdm 8 (T_me tX_16), zzI cy qdt 8 (T_te tX_16), zzI cy qds 64 (shF (T_kn tX_16))]) hx hb hr hlocks (hP.sub [0, 1, 2, 3, 4, 5, 6, 7, 8, 9, 10] rfl) (hD.sub [0, 1, 2, 3, 4, 5, 6, 7, 8, 9, 10] (by decide +kernel) rfl) hS ⟨kX_12, kY_13, iX_14, iY_15, tX_16, rfl, ⟨by omega, by omega, by first | omega | (show T_nb tD + 1 ≤ 8; omega) | (show T_nb tD ≤ 8; omega), by first | omega | (show T_np tD + 1 ≤ 8; omega) | (show T_np tD ≤ 8; omega)⟩⟩ dX3_readStatement_84
  · refine lv_if_eq (tgt := 16) hx hb dX3_readStatement_6 (by decide) (fun _ => ?_) (fun h9 => absurd (by decide) h9)
    refine lv_aload_n hx hb dX3_readStatement_16 rfl (lv_at hl 0 rfl) ?_
    obtain ⟨qs_19, qv_21, hs_20, hf_22⟩ := hX (RX3, 57, "need", [110, 101, 101, 100]) (List.mem_of_getElem? (i := 2) rfl)
    refine va_ldcS hx hb hown hs_20 dX3_readStatement_17 ?_
    refine kRi (rV (As := [.ref qs_19]) (rest := []) (b := qa) ⟨hx, hb, hml, hown, hts⟩ (c_X3_isWord l G cy qa qab kZ kS kE iT iF qd fB qs_19 ([110, 101, 101, 100]) qv_21 hZ hE (by decide) as_need) L_X3_50 (preRVX (q := (RX3, TX3, 7)) hN hP [0, 1] rfl 0 2 rfl rfl SF_ok hf_22 hS) rfl ⟨Nat.le_of_ble_eq_true rfl, Nat.le_of_ble_eq_true rfl⟩ hl.1 (Nat.le_of_ble_eq_true rfl) dX3_readStatement_19 ⟨Nat.le_of_ble_eq_true rfl, Nat.le_of_ble_eq_true rfl⟩) (fun r_23 h_24 => ?_)
    rcases h_24 with rfl | rfl
    · refine lv_if_eq (tgt := 32) hx hb dX3_readStatement_22 (by decide) (fun h9 => absurd h9 (by decide)) (fun _ => ?_)
      refine lv_aload_n hx hb dX3_readStatement_25 rfl (lv_at hl 0 rfl) ?_
      refine cVv (As := []) (rest := []) (b := qa) (q := (RX3, TX3, 7)) ⟨hx, hb, hml, hown, hts⟩ (c_X3_readNeed l G cy (s.heap).size qa qab kZ kS kE iT iF qd fB tD qdw qdn qdg qda qdr qdm qdt qds hZ hE hDb hDp) L_X3_59 hN hP hD hS hA [0, 1, 2, 3, 4, 5, 6, 7, 8, 9, 10] [false, false, false, false, false, false, false, false, false, false, false] rfl (by decide +kernel) rfl 0 2 rfl rfl rfl ⟨Nat.le_of_ble_eq_true rfl, Nat.le_of_ble_eq_true rfl⟩ hl.1 (Nat.le_of_ble_eq_true rfl) dX3_readStatement_26 ⟨Nat.le_of_ble_eq_true rfl, Nat.le_of_ble_eq_true rfl⟩ (fun u_29 H locs h_28 => ?_)
      clear hP hD hS
      intro hP hD hS
      obtain ⟨kX_30, kY_31, iX_32, iY_33, tX_34, rfl, h_35⟩ := h_28
      have hPD := pd_as [zzO qa 2 [.ref qab, .int (nI kZ), .int (nI kX_30), .int (nI kY_31), .int iX_32, .int iY_33, .ref qd], zzB cy qab 250 fB, zzO qd 3 [.int (nI (T_nb tX_34)), .int (nI (T_np tX_34)), .int (wb (T_wh tX_34)), .int (wb (T_gn tX_34)), .int (T_sd tX_34), .ref qdw, .ref qdn, .ref qdg, .ref qda, .ref qdr, .ref qdm, .ref qdt, .ref qds], zzI cy qdw 8 (T_wo tX_34), zzI cy qdn 8 (T_ne tX_34), zzI cy qdg 8 (T_go tX_34), zzI cy qda 8 (T_ag tX_34), zzI cy qdr 8 (T_re tX_34), zzI cy qdm 8 (T_me tX_34), zzI cy qdt 8 (T_te tX_34), zzI cy qds 64 (shF (T_kn tX_34))] hP hD rfl
      clear hP hD
      obtain ⟨hP, hD⟩ := hPD
      refine lv_goto (tgt := 84) hx hb dX3_readStatement_29 (by decide) ?_
      exact endV (u := [zzO qa 2 [.ref qab, .int (nI kZ), .int (nI kX_30), .int (nI kY_31), .int iX_32, .int iY_33, .ref qd], zzB cy qab 250 fB, zzO qd 3 [.int (nI (T_nb tX_34)), .int (nI (T_np tX_34)), .int (wb (T_wh tX_34)), .int (wb (T_gn tX_34)), .int (T_sd tX_34), .ref qdw, .ref qdn, .ref qdg, .ref qda, .ref qdr, .ref qdm, .ref qdt, .ref qds], zzI cy qdw 8 (T_wo tX_34), zzI cy qdn 8 (T_ne tX_34), zzI cy qdg 8 (T_go tX_34), zzI cy qda 8 (T_ag tX_34), zzI cy qdr 8 (T_re tX_34), zzI cy qdm 8 (T_me tX_34), zzI cy qdt 8 (T_te tX_34), zzI cy qds 64 (shF (T_kn tX_34))]) hx hb hr hlocks (hP.sub [0, 1, 2, 3, 4, 5, 6, 7, 8, 9, 10] rfl) (hD.sub [0, 1, 2, 3, 4, 5, 6, 7, 8, 9, 10] (by decide +kernel) rfl) hS ⟨kX_30, kY_31, iX_32, iY_33, tX_34, rfl, ⟨by omega, by omega, by first | omega | (show T_nb tD + 1 ≤ 8; omega) | (show T_nb tD ≤ 8; omega), by first | omega | (show T_np tD + 1 ≤ 8; omega) | (show T_np tD ≤ 8; omega)⟩⟩ dX3_readStatement_84
    · refine lv_if_eq (tgt := 32) hx hb dX3_readStatement_22 (by decide) (fun _ => ?_) (fun h9 => absurd (by decide) h9)
      refine lv_aload_n hx hb dX3_readStatement_32 rfl (lv_at hl 0 rfl) ?_
      obtain ⟨qs_37, qv_39, hs_38, hf_40⟩ := hX (RX3, 62, "one", [111, 110, 101]) (List.mem_of_getElem? (i := 3) rfl)
      refine va_ldcS hx hb hown hs_38 dX3_readStatement_33 ?_
      refine kRi (rV (As := [.ref qs_37]) (rest := []) (b := qa) ⟨hx, hb, hml, hown, hts⟩ (c_X3_isWord l G cy qa qab kZ kS kE iT iF qd fB qs_37 ([111, 110, 101]) qv_39 hZ hE (by decide) as_one) L_X3_50 (preRVX (q := (RX3, TX3, 7)) hN hP [0, 1] rfl 0 2 rfl rfl SF_ok hf_40 hS) rfl ⟨Nat.le_of_ble_eq_true rfl, Nat.le_of_ble_eq_true rfl⟩ hl.1 (Nat.le_of_ble_eq_true rfl) dX3_readStatement_35 ⟨Nat.le_of_ble_eq_true rfl, Nat.le_of_ble_eq_true rfl⟩) (fun r_41 h_42 => ?_)
      rcases h_42 with rfl | rfl
      · refine lv_if_eq (tgt := 48) hx hb dX3_readStatement_38 (by decide) (fun h9 => absurd h9 (by decide)) (fun _ => ?_)
        refine lv_aload_n hx hb dX3_readStatement_41 rfl (lv_at hl 0 rfl) ?_
        refine cVXv (As := []) (rest := []) (b := qa) (q := (RX3, TX3, 7)) ⟨hx, hb, hml, hown, hts⟩ (c_X3_readOne l G cy (s.heap).size qa qab kZ kS kE iT iF qd fB tD qdw qdn qdg qda qdr qdm qdt qds hZ hE hDb hDp) L_X3_64 hN hP hD hS hA [0, 1, 2, 3, 4, 5, 6, 7, 8, 9, 10] [false, false, false, false, false, false, false, false, false, false, false] rfl (by decide +kernel) rfl 0 2 rfl rfl SO_ok hX rfl ⟨Nat.le_of_ble_eq_true rfl, Nat.le_of_ble_eq_true rfl⟩ hl.1 (Nat.le_of_ble_eq_true rfl) dX3_readStatement_42 ⟨Nat.le_of_ble_eq_true rfl, Nat.le_of_ble_eq_true rfl⟩ (fun u_47 H locs h_46 => ?_)
        clear hP hD hS
        intro hP hD hS
        obtain ⟨kX_48, kY_49, iX_50, iY_51, tX_52, rfl, h_53⟩ := h_46
        have hPD := pd_as [zzO qa 2 [.ref qab, .int (nI kZ), .int (nI kX_48), .int (nI kY_49), .int iX_50, .int iY_51, .ref qd], zzB cy qab 250 fB, zzO qd 3 [.int (nI (T_nb tX_52)), .int (nI (T_np tX_52)), .int (wb (T_wh tX_52)), .int (wb (T_gn tX_52)), .int (T_sd tX_52), .ref qdw, .ref qdn, .ref qdg, .ref qda, .ref qdr, .ref qdm, .ref qdt, .ref qds], zzI cy qdw 8 (T_wo tX_52), zzI cy qdn 8 (T_ne tX_52), zzI cy qdg 8 (T_go tX_52), zzI cy qda 8 (T_ag tX_52), zzI cy qdr 8 (T_re tX_52), zzI cy qdm 8 (T_me tX_52), zzI cy qdt 8 (T_te tX_52), zzI cy qds 64 (shF (T_kn tX_52))] hP hD rfl
        clear hP hD
        obtain ⟨hP, hD⟩ := hPD
        refine lv_goto (tgt := 84) hx hb dX3_readStatement_45 (by decide) ?_
        exact endV (u := [zzO qa 2 [.ref qab, .int (nI kZ), .int (nI kX_48), .int (nI kY_49), .int iX_50, .int iY_51, .ref qd], zzB cy qab 250 fB, zzO qd 3 [.int (nI (T_nb tX_52)), .int (nI (T_np tX_52)), .int (wb (T_wh tX_52)), .int (wb (T_gn tX_52)), .int (T_sd tX_52), .ref qdw, .ref qdn, .ref qdg, .ref qda, .ref qdr, .ref qdm, .ref qdt, .ref qds], zzI cy qdw 8 (T_wo tX_52), zzI cy qdn 8 (T_ne tX_52), zzI cy qdg 8 (T_go tX_52), zzI cy qda 8 (T_ag tX_52), zzI cy qdr 8 (T_re tX_52), zzI cy qdm 8 (T_me tX_52), zzI cy qdt 8 (T_te tX_52), zzI cy qds 64 (shF (T_kn tX_52))]) hx hb hr hlocks (hP.sub [0, 1, 2, 3, 4, 5, 6, 7, 8, 9, 10] rfl) (hD.sub [0, 1, 2, 3, 4, 5, 6, 7, 8, 9, 10] (by decide +kernel) rfl) hS ⟨kX_48, kY_49, iX_50, iY_51, tX_52, rfl, ⟨by omega, by omega, by first | omega | (show T_nb tD + 1 ≤ 8; omega) | (show T_nb tD ≤ 8; omega), by first | omega | (show T_np tD + 1 ≤ 8; omega) | (show T_np tD ≤ 8; omega)⟩⟩ dX3_readStatement_84
      · refine lv_if_eq (tgt := 48) hx hb dX3_readStatement_38 (by decide) (fun _ => ?_) (fun h9 => absurd (by decide) h9)
        refine lv_aload_n hx hb dX3_readStatement_48 rfl (lv_at hl 0 rfl) ?_
        obtain ⟨qs_55, qv_57, hs_56, hf_58⟩ := hX (RX3, 67, "knows", [107, 110, 111, 119, 115]) (List.mem_of_getElem? (i := 7) rfl)
        refine va_ldcS hx hb hown hs_56 dX3_readStatement_49 ?_
        refine kRi (rV (As := [.ref qs_55]) (rest := []) (b := qa) ⟨hx, hb, hml, hown, hts⟩ (c_X3_isWord l G cy qa qab kZ kS kE iT iF qd fB qs_55 ([107, 110, 111, 119, 115]) qv_57 hZ hE (by decide) as_knows) L_X3_50 (preRVX (q := (RX3, TX3, 7)) hN hP [0, 1] rfl 0 2 rfl rfl SF_ok hf_58 hS) rfl ⟨Nat.le_of_ble_eq_true rfl, Nat.le_of_ble_eq_true rfl⟩ hl.1 (Nat.le_of_ble_eq_true rfl) dX3_readStatement_51 ⟨Nat.le_of_ble_eq_true rfl, Nat.le_of_ble_eq_true rfl⟩) (fun r_59 h_60 => ?_)
        rcases h_60 with rfl | rfl
        · refine lv_if_eq (tgt := 64) hx hb dX3_readStatement_54 (by decide) (fun h9 => absurd h9 (by decide)) (fun _ => ?_)
          refine lv_aload_n hx hb dX3_readStatement_57 rfl (lv_at hl 0 rfl) ?_
          refine cVv (As := []) (rest := []) (b := qa) (q := (RX3, TX3, 7)) ⟨hx, hb, hml, hown, hts⟩ (c_X3_readKnows l G cy (s.heap).size qa qab kZ kS kE iT iF qd fB tD qdw qdn qdg qda qdr qdm qdt qds hZ hE hDb hDp) L_X3_69 hN hP hD hS hA [0, 1, 2, 3, 4, 5, 6, 7, 8, 9, 10] [false, false, false, false, false, false, false, false, false, false, false] rfl (by decide +kernel) rfl 0 2 rfl rfl rfl ⟨Nat.le_of_ble_eq_true rfl, Nat.le_of_ble_eq_true rfl⟩ hl.1 (Nat.le_of_ble_eq_true rfl) dX3_readStatement_58 ⟨Nat.le_of_ble_eq_true rfl, Nat.le_of_ble_eq_true rfl⟩ (fun u_65 H locs h_64 => ?_)
          clear hP hD hS
          intro hP hD hS
          obtain ⟨kX_66, kY_67, iX_68, iY_69, tX_70, rfl, h_71⟩ := h_64
          have hPD := pd_as [zzO qa 2 [.ref qab, .int (nI kZ), .int (nI kX_66), .int (nI kY_67), .int iX_68, .int iY_69, .ref qd], zzB cy qab 250 fB, zzO qd 3 [.int (nI (T_nb tX_70)), .int (nI (T_np tX_70)), .int (wb (T_wh tX_70)), .int (wb (T_gn tX_70)), .int (T_sd tX_70), .ref qdw, .ref qdn, .ref qdg, .ref qda, .ref qdr, .ref qdm, .ref qdt, .ref qds], zzI cy qdw 8 (T_wo tX_70), zzI cy qdn 8 (T_ne tX_70), zzI cy qdg 8 (T_go tX_70), zzI cy qda 8 (T_ag tX_70), zzI cy qdr 8 (T_re tX_70), zzI cy qdm 8 (T_me tX_70), zzI cy qdt 8 (T_te tX_70), zzI cy qds 64 (shF (T_kn tX_70))] hP hD rfl
          clear hP hD
          obtain ⟨hP, hD⟩ := hPD
          refine lv_goto (tgt := 84) hx hb dX3_readStatement_61 (by decide) ?_
          exact endV (u := [zzO qa 2 [.ref qab, .int (nI kZ), .int (nI kX_66), .int (nI kY_67), .int iX_68, .int iY_69, .ref qd], zzB cy qab 250 fB, zzO qd 3 [.int (nI (T_nb tX_70)), .int (nI (T_np tX_70)), .int (wb (T_wh tX_70)), .int (wb (T_gn tX_70)), .int (T_sd tX_70), .ref qdw, .ref qdn, .ref qdg, .ref qda, .ref qdr, .ref qdm, .ref qdt, .ref qds], zzI cy qdw 8 (T_wo tX_70), zzI cy qdn 8 (T_ne tX_70), zzI cy qdg 8 (T_go tX_70), zzI cy qda 8 (T_ag tX_70), zzI cy qdr 8 (T_re tX_70), zzI cy qdm 8 (T_me tX_70), zzI cy qdt 8 (T_te tX_70), zzI cy qds 64 (shF (T_kn tX_70))]) hx hb hr hlocks (hP.sub [0, 1, 2, 3, 4, 5, 6, 7, 8, 9, 10] rfl) (hD.sub [0, 1, 2, 3, 4, 5, 6, 7, 8, 9, 10] (by decide +kernel) rfl) hS ⟨kX_66, kY_67, iX_68, iY_69, tX_70, rfl, ⟨by omega, by omega, by first | omega | (show T_nb tD + 1 ≤ 8; omega) | (show T_nb tD ≤ 8; omega), by first | omega | (show T_np tD + 1 ≤ 8; omega) | (show T_np tD ≤ 8; omega)⟩⟩ dX3_readStatement_84
        · refine lv_if_eq (tgt := 64) hx hb dX3_readStatement_54 (by decide) (fun _ => ?_) (fun h9 => absurd (by decide) h9)
          refine lv_aload_n hx hb dX3_readStatement_64 rfl (lv_at hl 0 rfl) ?_
          obtain ⟨qs_73, qv_75, hs_74, hf_76⟩ := hX (RX3, 72, "white", [119, 104, 105, 116, 101]) (List.mem_of_getElem? (i := 8) rfl)
          refine va_ldcS hx hb hown hs_74 dX3_readStatement_65 ?_
          refine kRi (rV (As := [.ref qs_73]) (rest := []) (b := qa) ⟨hx, hb, hml, hown, hts⟩ (c_X3_isWord l G cy qa qab kZ kS kE iT iF qd fB qs_73 ([119, 104, 105, 116, 101]) qv_75 hZ hE (by decide) as_white) L_X3_50 (preRVX (q := (RX3, TX3, 7)) hN hP [0, 1] rfl 0 2 rfl rfl SF_ok hf_76 hS) rfl ⟨Nat.le_of_ble_eq_true rfl, Nat.le_of_ble_eq_true rfl⟩ hl.1 (Nat.le_of_ble_eq_true rfl) dX3_readStatement_67 ⟨Nat.le_of_ble_eq_true rfl, Nat.le_of_ble_eq_true rfl⟩) (fun r_77 h_78 => ?_)
          rcases h_78 with rfl | rfl
          · refine lv_if_eq (tgt := 80) hx hb dX3_readStatement_70 (by decide) (fun h9 => absurd h9 (by decide)) (fun _ => ?_)
            refine lv_aload_n hx hb dX3_readStatement_73 rfl (lv_at hl 0 rfl) ?_
            refine cVv (As := []) (rest := []) (b := qa) (q := (RX3, TX3, 7)) ⟨hx, hb, hml, hown, hts⟩ (c_X3_readWhite l G cy (s.heap).size qa qab kZ kS kE iT iF qd fB tD qdw qdn qdg qda qdr qdm qdt qds hZ hE hDb hDp) L_X3_74 hN hP hD hS hA [0, 1, 2, 3, 4, 5, 6, 7, 8, 9, 10] [false, false, false, false, false, false, false, false, false, false, false] rfl (by decide +kernel) rfl 0 2 rfl rfl rfl ⟨Nat.le_of_ble_eq_true rfl, Nat.le_of_ble_eq_true rfl⟩ hl.1 (Nat.le_of_ble_eq_true rfl) dX3_readStatement_74 ⟨Nat.le_of_ble_eq_true rfl, Nat.le_of_ble_eq_true rfl⟩ (fun u_83 H locs h_82 => ?_)
            clear hP hD hS
            intro hP hD hS
            obtain ⟨kX_84, kY_85, iX_86, iY_87, tX_88, rfl, h_89⟩ := h_82
            have hPD := pd_as [zzO qa 2 [.ref qab, .int (nI kZ), .int (nI kX_84), .int (nI kY_85), .int iX_86, .int iY_87, .ref qd], zzB cy qab 250 fB, zzO qd 3 [.int (nI (T_nb tX_88)), .int (nI (T_np tX_88)), .int (wb (T_wh tX_88)), .int (wb (T_gn tX_88)), .int (T_sd tX_88), .ref qdw, .ref qdn, .ref qdg, .ref qda, .ref qdr, .ref qdm, .ref qdt, .ref qds], zzI cy qdw 8 (T_wo tX_88), zzI cy qdn 8 (T_ne tX_88), zzI cy qdg 8 (T_go tX_88), zzI cy qda 8 (T_ag tX_88), zzI cy qdr 8 (T_re tX_88), zzI cy qdm 8 (T_me tX_88), zzI cy qdt 8 (T_te tX_88), zzI cy qds 64 (shF (T_kn tX_88))] hP hD rfl
            clear hP hD
            obtain ⟨hP, hD⟩ := hPD
            refine lv_goto (tgt := 84) hx hb dX3_readStatement_77 (by decide) ?_
            exact endV (u := [zzO qa 2 [.ref qab, .int (nI kZ), .int (nI kX_84), .int (nI kY_85), .int iX_86, .int iY_87, .ref qd], zzB cy qab 250 fB, zzO qd 3 [.int (nI (T_nb tX_88)), .int (nI (T_np tX_88)), .int (wb (T_wh tX_88)), .int (wb (T_gn tX_88)), .int (T_sd tX_88), .ref qdw, .ref qdn, .ref qdg, .ref qda, .ref qdr, .ref qdm, .ref qdt, .ref qds], zzI cy qdw 8 (T_wo tX_88), zzI cy qdn 8 (T_ne tX_88), zzI cy qdg 8 (T_go tX_88), zzI cy qda 8 (T_ag tX_88), zzI cy qdr 8 (T_re tX_88), zzI cy qdm 8 (T_me tX_88), zzI cy qdt 8 (T_te tX_88), zzI cy qds 64 (shF (T_kn tX_88))]) hx hb hr hlocks (hP.sub [0, 1, 2, 3, 4, 5, 6, 7, 8, 9, 10] rfl) (hD.sub [0, 1, 2, 3, 4, 5, 6, 7, 8, 9, 10] (by decide +kernel) rfl) hS ⟨kX_84, kY_85, iX_86, iY_87, tX_88, rfl, ⟨by omega, by omega, by first | omega | (show T_nb tD + 1 ≤ 8; omega) | (show T_nb tD ≤ 8; omega), by first | omega | (show T_np tD + 1 ≤ 8; omega) | (show T_np tD ≤ 8; omega)⟩⟩ dX3_readStatement_84
          · refine lv_if_eq (tgt := 80) hx hb dX3_readStatement_70 (by decide) (fun _ => ?_) (fun h9 => absurd (by decide) h9)
            refine lv_aload_n hx hb dX3_readStatement_80 rfl (lv_at hl 0 rfl) ?_
            refine cVv (As := []) (rest := []) (b := qa) (q := (RX3, TX3, 7)) ⟨hx, hb, hml, hown, hts⟩ (c_X3_fail l G cy (s.heap).size qa qab kZ kS kE iT iF qd hZ hE) L_X3_45 hN hP hD hS hA [0] [false, true, true, true, true, true, true, true, true, true, true] rfl (by decide +kernel) rfl 0 2 rfl rfl rfl ⟨Nat.le_of_ble_eq_true rfl, Nat.le_of_ble_eq_true rfl⟩ hl.1 (Nat.le_of_ble_eq_true rfl) dX3_readStatement_81 ⟨Nat.le_of_ble_eq_true rfl, Nat.le_of_ble_eq_true rfl⟩ (fun u_93 H locs h_92 => ?_)
            clear hP hD hS
            intro hP hD hS
            obtain ⟨iX_94, rfl, h_95⟩ := h_92
            have hPD := pd_as [zzB cy qab 250 fB, zzO qd 3 [.int (nI (T_nb tD)), .int (nI (T_np tD)), .int (wb (T_wh tD)), .int (wb (T_gn tD)), .int (T_sd tD), .ref qdw, .ref qdn, .ref qdg, .ref qda, .ref qdr, .ref qdm, .ref qdt, .ref qds], zzI cy qdw 8 (T_wo tD), zzI cy qdn 8 (T_ne tD), zzI cy qdg 8 (T_go tD), zzI cy qda 8 (T_ag tD), zzI cy qdr 8 (T_re tD), zzI cy qdm 8 (T_me tD), zzI cy qdt 8 (T_te tD), zzI cy qds 64 (shF (T_kn tD)), zzO qa 2 [.ref qab, .int (nI kZ), .int (nI kS), .int (nI kE), .int iT, .int iX_94, .ref qd]] hP hD rfl
            clear hP hD
            obtain ⟨hP, hD⟩ := hPD
            exact endV (u := [zzO qa 2 [.ref qab, .int (nI kZ), .int (nI kS), .int (nI kE), .int iT, .int iX_94, .ref qd], zzB cy qab 250 fB, zzO qd 3 [.int (nI (T_nb tD)), .int (nI (T_np tD)), .int (wb (T_wh tD)), .int (wb (T_gn tD)), .int (T_sd tD), .ref qdw, .ref qdn, .ref qdg, .ref qda, .ref qdr, .ref qdm, .ref qdt, .ref qds], zzI cy qdw 8 (T_wo tD), zzI cy qdn 8 (T_ne tD), zzI cy qdg 8 (T_go tD), zzI cy qda 8 (T_ag tD), zzI cy qdr 8 (T_re tD), zzI cy qdm 8 (T_me tD), zzI cy qdt 8 (T_te tD), zzI cy qds 64 (shF (T_kn tD))]) hx hb hr hlocks (hP.sub [10, 0, 1, 2, 3, 4, 5, 6, 7, 8, 9] rfl) (hD.sub [10, 0, 1, 2, 3, 4, 5, 6, 7, 8, 9] (by decide +kernel) rfl) hS ⟨kS, kE, iT, iX_94, tD, rfl, ⟨by omega, by omega, by first | omega | (show T_nb tD + 1 ≤ 8; omega) | (show T_nb tD ≤ 8; omega), by first | omega | (show T_np tD + 1 ≤ 8; omega) | (show T_np tD ≤ 8; omega)⟩⟩ dX3_readStatement_84
set_option maxHeartbeats 4000000 in
set_option maxRecDepth 100000 in
theorem c_X3_readFrom (l : Launch) (G : va_G) (cy : Nat → ClassId) (sz : Nat) (qa : Nat) (qab : Nat) (kZ : Nat) (iT1 : Int32) (iT2 : Int32) (iT : Int32) (iF : Int32) (qd : Nat) (fB : Nat → Int32) (tD : TA) (qdw : Nat) (qdn : Nat) (qdg : Nat) (qda : Nat) (qdr : Nat) (qdm : Nat) (qdt : Nat) (qds : Nat) (qt : Nat) (tA : TA) (qtw : Nat) (qtn : Nat) (qtg : Nat) (qta : Nat) (qtr : Nat) (qtm : Nat) (qtt : Nat) (qts : Nat)  (hZ : kZ ≤ 250) (hB : T_nb tA ≤ 8) (hPp : T_np tA ≤ 8) : MWX l yX3_readFrom cX3_readFrom 3 (some .int) 10 0 0 G cy SO [zzO qa 2 [.ref qab, .int (nI kZ), .int iT1, .int iT2, .int iT, .int iF, .ref qd], zzB cy qab 250 fB, zzO qd 3 [.int (nI (T_nb tD)), .int (nI (T_np tD)), .int (wb (T_wh tD)), .int (wb (T_gn tD)), .int (T_sd tD), .ref qdw, .ref qdn, .ref qdg, .ref qda, .ref qdr, .ref qdm, .ref qdt, .ref qds], zzI cy qdw 8 (T_wo tD), zzI cy qdn 8 (T_ne tD), zzI cy qdg 8 (T_go tD), zzI cy qda 8 (T_ag tD), zzI cy qdr 8 (T_re tD), zzI cy qdm 8 (T_me tD), zzI cy qdt 8 (T_te tD), zzI cy qds 64 (shF (T_kn tD)), zzO qt 3 [.int (nI (T_nb tA)), .int (nI (T_np tA)), .int (wb (T_wh tA)), .int (wb (T_gn tA)), .int (T_sd tA), .ref qtw, .ref qtn, .ref qtg, .ref qta, .ref qtr, .ref qtm, .ref qtt, .ref qts], zzI cy qtw 8 (T_wo tA), zzI cy qtn 8 (T_ne tA), zzI cy qtg 8 (T_go tA), zzI cy qta 8 (T_ag tA), zzI cy qtr 8 (T_re tA), zzI cy qtm 8 (T_me tA), zzI cy qtt 8 (T_te tA), zzI cy qts 64 (shF (T_kn tA))] sz [.ref qa, .ref qt] (Wi G (fun r u => ∃ (iX1 : Int32) (iX2 : Int32) (iX : Int32) (iY : Int32) (tX : TA), u = [zzO qa 2 [.ref qab, .int (nI kZ), .int iX1, .int iX2, .int iX, .int iY, .ref qd], zzB cy qab 250 fB, zzO qd 3 [.int (nI (T_nb tX)), .int (nI (T_np tX)), .int (wb (T_wh tX)), .int (wb (T_gn tX)), .int (T_sd tX), .ref qdw, .ref qdn, .ref qdg, .ref qda, .ref qdr, .ref qdm, .ref qdt, .ref qds], zzI cy qdw 8 (T_wo tX), zzI cy qdn 8 (T_ne tX), zzI cy qdg 8 (T_go tX), zzI cy qda 8 (T_ag tX), zzI cy qdr 8 (T_re tX), zzI cy qdm 8 (T_me tX), zzI cy qdt 8 (T_te tX), zzI cy qds 64 (shF (T_kn tX)), zzO qt 3 [.int (nI (T_nb tA)), .int (nI (T_np tA)), .int (wb (T_wh tA)), .int (wb (T_gn tA)), .int (T_sd tA), .ref qtw, .ref qtn, .ref qtg, .ref qta, .ref qtr, .ref qtm, .ref qtt, .ref qts], zzI cy qtw 8 (T_wo tA), zzI cy qtn 8 (T_ne tA), zzI cy qtg 8 (T_go tA), zzI cy qta 8 (T_ag tA), zzI cy qtr 8 (T_re tA), zzI cy qtm 8 (T_me tA), zzI cy qtt 8 (T_te tA), zzI cy qts 64 (shF (T_kn tA))] ∧ (T_nb tX ≤ 8 ∧ T_np tX ≤ 8) ∧ (True))) := by
  refine enWX RX3 (by decide) rfl (Nat.le_of_ble_eq_true rfl) (fun p e s m below meth c ls A hx hb hml hown hts hr hlocks hP hN hl hin hD hA hS hX => ?_)
  have hin : meth.name = _ := hin
  have hK := hN.1
  replace hl : lv_has ls 3 [(0, .ref qa), (1, .ref qt)] := hl
  refine lv_aload_n hx hb dX3_readFrom_0 rfl (lv_at hl 0 rfl) ?_
  refine va_get (D := G) (ci := 2) (v := .ref qd) (C := RX3) (T := TX3) (N := 7) hx hb hts iX_X3 hown hK hP 0 rfl rfl 6 (by decide) (hts _ m_t156) (fun _ h9 => h9) rfl dX3_readFrom_1 ?_
  refine lv_aload_n hx hb dX3_readFrom_4 rfl (lv_at hl 1 rfl) ?_
  refine cVv (As := [.ref qt]) (rest := []) (b := qd) (q := (RX4, TX4, 13)) ⟨hx, hb, hml, hown, hts⟩ (c_X4_become l G cy (s.heap).size qd tD qdw qdn qdg qda qdr qdm qdt qds qt tA qtw qtn qtg qta qtr qtm qtt qts) L_X3_26 hN hP hD hS hA [2, 3, 4, 5, 6, 7, 8, 9, 10, 11, 12, 13, 14, 15, 16, 17, 18, 19] [true, true, false, false, false, false, false, false, false, false, false, false, false, false, false, false, false, false, false, false] rfl (by decide +kernel) rfl 2 3 rfl rfl rfl ⟨Nat.le_of_ble_eq_true rfl, Nat.le_of_ble_eq_true rfl⟩ hl.1 (Nat.le_of_ble_eq_true rfl) dX3_readFrom_5 ⟨Nat.le_of_ble_eq_true rfl, Nat.le_of_ble_eq_true rfl⟩ (fun u_3 H locs h_2 => ?_)
  clear hP hD hS
  intro hP hD hS
  subst h_2
  have hPD := pd_as [zzO qa 2 [.ref qab, .int (nI kZ), .int iT1, .int iT2, .int iT, .int iF, .ref qd], zzB cy qab 250 fB, zzO qd 3 [.int (nI (T_nb tA)), .int (nI (T_np tA)), .int (wb (T_wh tA)), .int (wb (T_gn tA)), .int (T_sd tA), .ref qdw, .ref qdn, .ref qdg, .ref qda, .ref qdr, .ref qdm, .ref qdt, .ref qds], zzI cy qdw 8 (T_wo tA), zzI cy qdn 8 (T_ne tA), zzI cy qdg 8 (T_go tA), zzI cy qda 8 (T_ag tA), zzI cy qdr 8 (T_re tA), zzI cy qdm 8 (T_me tA), zzI cy qdt 8 (T_te tA), zzI cy qds 64 (shF (T_kn tA)), zzO qt 3 [.int (nI (T_nb tA)), .int (nI (T_np tA)), .int (wb (T_wh tA)), .int (wb (T_gn tA)), .int (T_sd tA), .ref qtw, .ref qtn, .ref qtg, .ref qta, .ref qtr, .ref qtm, .ref qtt, .ref qts], zzI cy qtw 8 (T_wo tA), zzI cy qtn 8 (T_ne tA), zzI cy qtg 8 (T_go tA), zzI cy qta 8 (T_ag tA), zzI cy qtr 8 (T_re tA), zzI cy qtm 8 (T_me tA), zzI cy qtt 8 (T_te tA), zzI cy qts 64 (shF (T_kn tA))] hP hD rfl
  clear hP hD
  obtain ⟨hP, hD⟩ := hPD
  refine lv_aload_n hx hb dX3_readFrom_8 rfl (lv_at hl 0 rfl) ?_
  refine lv_iconst (v := (-1)) hx hb dX3_readFrom_9 (by decide) ?_
  refine va_put (D := G) (ci := 2) (v := .int (-1)) (ty := .int) (C := RX3) (T := TX3) (N := 7) hx hb hts iX_X3 tyX3 tyX3_ok nmX3 hown hK hP hD hS 0 rfl rfl 5 (by decide) (hts _ m_t154) (fun _ h9 => h9) rfl (by decide +kernel) rfl rfl (Nat.le_of_ble_eq_true rfl) dX3_readFrom_10 (fun H locs => ?_)
  clear hP hD hS
  intro hP hD hS
  have hPD := pd_as [zzO qa 2 [.ref qab, .int (nI kZ), .int iT1, .int iT2, .int iT, .int (-1), .ref qd], zzB cy qab 250 fB, zzO qd 3 [.int (nI (T_nb tA)), .int (nI (T_np tA)), .int (wb (T_wh tA)), .int (wb (T_gn tA)), .int (T_sd tA), .ref qdw, .ref qdn, .ref qdg, .ref qda, .ref qdr, .ref qdm, .ref qdt, .ref qds], zzI cy qdw 8 (T_wo tA), zzI cy qdn 8 (T_ne tA), zzI cy qdg 8 (T_go tA), zzI cy qda 8 (T_ag tA), zzI cy qdr 8 (T_re tA), zzI cy qdm 8 (T_me tA), zzI cy qdt 8 (T_te tA), zzI cy qds 64 (shF (T_kn tA)), zzO qt 3 [.int (nI (T_nb tA)), .int (nI (T_np tA)), .int (wb (T_wh tA)), .int (wb (T_gn tA)), .int (T_sd tA), .ref qtw, .ref qtn, .ref qtg, .ref qta, .ref qtr, .ref qtm, .ref qtt, .ref qts], zzI cy qtw 8 (T_wo tA), zzI cy qtn 8 (T_ne tA), zzI cy qtg 8 (T_go tA), zzI cy qta 8 (T_ag tA), zzI cy qtr 8 (T_re tA), zzI cy qtm 8 (T_me tA), zzI cy qtt 8 (T_te tA), zzI cy qts 64 (shF (T_kn tA))] hP hD rfl
  clear hP hD
  obtain ⟨hP, hD⟩ := hPD
  refine lv_aload_n hx hb dX3_readFrom_13 rfl (lv_at hl 0 rfl) ?_
  refine lv_iconst (v := 0) hx hb dX3_readFrom_14 (by decide) ?_
  refine va_put (D := G) (ci := 2) (v := .int 0) (ty := .int) (C := RX3) (T := TX3) (N := 7) hx hb hts iX_X3 tyX3 tyX3_ok nmX3 hown hK hP hD hS 0 rfl rfl 3 (by decide) (hts _ m_t152) (fun _ h9 => h9) rfl (by decide +kernel) rfl rfl (Nat.le_of_ble_eq_true rfl) dX3_readFrom_15 (fun H locs => ?_)
  clear hP hD hS
  intro hP hD hS
  have hPD := pd_as [zzO qa 2 [.ref qab, .int (nI kZ), .int iT1, .int 0, .int iT, .int (-1), .ref qd], zzB cy qab 250 fB, zzO qd 3 [.int (nI (T_nb tA)), .int (nI (T_np tA)), .int (wb (T_wh tA)), .int (wb (T_gn tA)), .int (T_sd tA), .ref qdw, .ref qdn, .ref qdg, .ref qda, .ref qdr, .ref qdm, .ref qdt, .ref qds], zzI cy qdw 8 (T_wo tA), zzI cy qdn 8 (T_ne tA), zzI cy qdg 8 (T_go tA), zzI cy qda 8 (T_ag tA), zzI cy qdr 8 (T_re tA), zzI cy qdm 8 (T_me tA), zzI cy qdt 8 (T_te tA), zzI cy qds 64 (shF (T_kn tA)), zzO qt 3 [.int (nI (T_nb tA)), .int (nI (T_np tA)), .int (wb (T_wh tA)), .int (wb (T_gn tA)), .int (T_sd tA), .ref qtw, .ref qtn, .ref qtg, .ref qta, .ref qtr, .ref qtm, .ref qtt, .ref qts], zzI cy qtw 8 (T_wo tA), zzI cy qtn 8 (T_ne tA), zzI cy qtg 8 (T_go tA), zzI cy qta 8 (T_ag tA), zzI cy qtr 8 (T_re tA), zzI cy qtm 8 (T_me tA), zzI cy qtt 8 (T_te tA), zzI cy qts 64 (shF (T_kn tA))] hP hD rfl
  clear hP hD
  obtain ⟨hP, hD⟩ := hPD
  have hPD := pd_as [zzO qa 2 [.ref qab, .int (nI kZ), .int iT1, .int (nI 0), .int iT, .int (-1), .ref qd], zzB cy qab 250 fB, zzO qd 3 [.int (nI (T_nb tA)), .int (nI (T_np tA)), .int (wb (T_wh tA)), .int (wb (T_gn tA)), .int (T_sd tA), .ref qdw, .ref qdn, .ref qdg, .ref qda, .ref qdr, .ref qdm, .ref qdt, .ref qds], zzI cy qdw 8 (T_wo tA), zzI cy qdn 8 (T_ne tA), zzI cy qdg 8 (T_go tA), zzI cy qda 8 (T_ag tA), zzI cy qdr 8 (T_re tA), zzI cy qdm 8 (T_me tA), zzI cy qdt 8 (T_te tA), zzI cy qds 64 (shF (T_kn tA)), zzO qt 3 [.int (nI (T_nb tA)), .int (nI (T_np tA)), .int (wb (T_wh tA)), .int (wb (T_gn tA)), .int (T_sd tA), .ref qtw, .ref qtn, .ref qtg, .ref qta, .ref qtr, .ref qtm, .ref qtt, .ref qts], zzI cy qtw 8 (T_wo tA), zzI cy qtn 8 (T_ne tA), zzI cy qtg 8 (T_go tA), zzI cy qta 8 (T_ag tA), zzI cy qtr 8 (T_re tA), zzI cy qtm 8 (T_me tA), zzI cy qtt 8 (T_te tA), zzI cy qts 64 (shF (T_kn tA))] hP hD rfl
  clear hP hD
  obtain ⟨hP, hD⟩ := hPD
  refine lv_aload_n hx hb dX3_readFrom_18 rfl (lv_at hl 0 rfl) ?_
  refine cVv (As := []) (rest := []) (b := qa) (q := (RX3, TX3, 7)) ⟨hx, hb, hml, hown, hts⟩ (c_X3_step l G cy (H).size qa qab kZ iT1 0 iT (-1) qd fB hZ (by first | omega | (simp only [nb_sr, np_sr, nb_wr, np_wr, nb_rd, np_rd, nb_ch, np_ch, nb_zr, np_zr, nb_za, np_za, nb_ey, np_ey, nb_hf, np_hf, nb_dd, np_dd, nb_so, np_so, nb_skn, np_skn, nb_swh, np_swh, nb_sgn, np_sgn, nb_ssd, np_ssd, nb_sgo, np_sgo, nb_sag, np_sag]; omega))) L_X3_36 hN hP hD hS hA [0, 1] [false, false, true, true, true, true, true, true, true, true, true, true, true, true, true, true, true, true, true, true] rfl (by decide +kernel) rfl 0 2 rfl rfl rfl ⟨Nat.le_of_ble_eq_true rfl, Nat.le_of_ble_eq_true rfl⟩ hl.1 (Nat.le_of_ble_eq_true rfl) dX3_readFrom_19 ⟨Nat.le_of_ble_eq_true rfl, Nat.le_of_ble_eq_true rfl⟩ (fun u_6 H locs h_5 => ?_)
  clear hP hD hS
  intro hP hD hS
  obtain ⟨kX_7, kY_8, iX_9, rfl, h_10⟩ := h_5
  have hPD := pd_as [zzO qd 3 [.int (nI (T_nb tA)), .int (nI (T_np tA)), .int (wb (T_wh tA)), .int (wb (T_gn tA)), .int (T_sd tA), .ref qdw, .ref qdn, .ref qdg, .ref qda, .ref qdr, .ref qdm, .ref qdt, .ref qds], zzI cy qdw 8 (T_wo tA), zzI cy qdn 8 (T_ne tA), zzI cy qdg 8 (T_go tA), zzI cy qda 8 (T_ag tA), zzI cy qdr 8 (T_re tA), zzI cy qdm 8 (T_me tA), zzI cy qdt 8 (T_te tA), zzI cy qds 64 (shF (T_kn tA)), zzO qt 3 [.int (nI (T_nb tA)), .int (nI (T_np tA)), .int (wb (T_wh tA)), .int (wb (T_gn tA)), .int (T_sd tA), .ref qtw, .ref qtn, .ref qtg, .ref qta, .ref qtr, .ref qtm, .ref qtt, .ref qts], zzI cy qtw 8 (T_wo tA), zzI cy qtn 8 (T_ne tA), zzI cy qtg 8 (T_go tA), zzI cy qta 8 (T_ag tA), zzI cy qtr 8 (T_re tA), zzI cy qtm 8 (T_me tA), zzI cy qtt 8 (T_te tA), zzI cy qts 64 (shF (T_kn tA)), zzO qa 2 [.ref qab, .int (nI kZ), .int (nI kX_7), .int (nI kY_8), .int iX_9, .int (-1), .ref qd], zzB cy qab 250 fB] hP hD rfl
  clear hP hD
  obtain ⟨hP, hD⟩ := hPD
  refine lv_iconst (v := 1) hx hb dX3_readFrom_22 (by decide) ?_
  refine lv_istore_n (lv' := [(2, .int 1), (0, .ref qa), (1, .ref qt)]) hx hb dX3_readFrom_23 rfl hl (by decide) rfl (fun ls => ?_)
  clear hl
  intro hl
  replace hl : lv_has ls 3 [(2, .int (nI 1)), (0, .ref qa), (1, .ref qt)] := hl
  have lp_11 : ∀ (n_12 : Nat) (j_14 : Nat) (kS1_15 : Nat) (kE1_16 : Nat) (xT_17 : Int32) (xF_18 : Int32) (tJ_19 : TA), 251 - j_14 < n_12 → j_14 ≤ 251 ∧ 1 ≤ j_14 → kS1_15 ≤ kE1_16 ∧ kE1_16 ≤ kZ → T_nb tJ_19 ≤ 8 ∧ T_np tJ_19 ≤ 8 → ∀ (H : Heap) (locs : List Loc) (ls : Array Slot), va_P G CL [zzO qd 3 [.int (nI (T_nb tJ_19)), .int (nI (T_np tJ_19)), .int (wb (T_wh tJ_19)), .int (wb (T_gn tJ_19)), .int (T_sd tJ_19), .ref qdw, .ref qdn, .ref qdg, .ref qda, .ref qdr, .ref qdm, .ref qdt, .ref qds], zzI cy qdw 8 (T_wo tJ_19), zzI cy qdn 8 (T_ne tJ_19), zzI cy qdg 8 (T_go tJ_19), zzI cy qda 8 (T_ag tJ_19), zzI cy qdr 8 (T_re tJ_19), zzI cy qdm 8 (T_me tJ_19), zzI cy qdt 8 (T_te tJ_19), zzI cy qds 64 (shF (T_kn tJ_19)), zzO qt 3 [.int (nI (T_nb tA)), .int (nI (T_np tA)), .int (wb (T_wh tA)), .int (wb (T_gn tA)), .int (T_sd tA), .ref qtw, .ref qtn, .ref qtg, .ref qta, .ref qtr, .ref qtm, .ref qtt, .ref qts], zzI cy qtw 8 (T_wo tA), zzI cy qtn 8 (T_ne tA), zzI cy qtg 8 (T_go tA), zzI cy qta 8 (T_ag tA), zzI cy qtr 8 (T_re tA), zzI cy qtm 8 (T_me tA), zzI cy qtt 8 (T_te tA), zzI cy qts 64 (shF (T_kn tA)), zzO qa 2 [.ref qab, .int (nI kZ), .int (nI kS1_15), .int (nI kE1_16), .int xT_17, .int xF_18, .ref qd], zzB cy qab 250 fB] H → va_D A [zzO qd 3 [.int (nI (T_nb tJ_19)), .int (nI (T_np tJ_19)), .int (wb (T_wh tJ_19)), .int (wb (T_gn tJ_19)), .int (T_sd tJ_19), .ref qdw, .ref qdn, .ref qdg, .ref qda, .ref qdr, .ref qdm, .ref qdt, .ref qds], zzI cy qdw 8 (T_wo tJ_19), zzI cy qdn 8 (T_ne tJ_19), zzI cy qdg 8 (T_go tJ_19), zzI cy qda 8 (T_ag tJ_19), zzI cy qdr 8 (T_re tJ_19), zzI cy qdm 8 (T_me tJ_19), zzI cy qdt 8 (T_te tJ_19), zzI cy qds 64 (shF (T_kn tJ_19)), zzO qt 3 [.int (nI (T_nb tA)), .int (nI (T_np tA)), .int (wb (T_wh tA)), .int (wb (T_gn tA)), .int (T_sd tA), .ref qtw, .ref qtn, .ref qtg, .ref qta, .ref qtr, .ref qtm, .ref qtt, .ref qts], zzI cy qtw 8 (T_wo tA), zzI cy qtn 8 (T_ne tA), zzI cy qtg 8 (T_go tA), zzI cy qta 8 (T_ag tA), zzI cy qtr 8 (T_re tA), zzI cy qtm 8 (T_me tA), zzI cy qtt 8 (T_te tA), zzI cy qts 64 (shF (T_kn tA)), zzO qa 2 [.ref qab, .int (nI kZ), .int (nI kS1_15), .int (nI kE1_16), .int xT_17, .int xF_18, .ref qd], zzB cy qab 250 fB] → va_S A s.heap H locs → lv_has ls 3 [(2, .int (nI j_14)), (0, .ref qa), (1, .ref qt)] → W p l e (Rm 10 0 0) s m (List.toArray (α := Value) [.ref qa, .ref qt]) below meth c H locs 0 0 (MQ below ((Wi G (fun r u => ∃ (iX1 : Int32) (iX2 : Int32) (iX : Int32) (iY : Int32) (tX : TA), u = [zzO qa 2 [.ref qab, .int (nI kZ), .int iX1, .int iX2, .int iX, .int iY, .ref qd], zzB cy qab 250 fB, zzO qd 3 [.int (nI (T_nb tX)), .int (nI (T_np tX)), .int (wb (T_wh tX)), .int (wb (T_gn tX)), .int (T_sd tX), .ref qdw, .ref qdn, .ref qdg, .ref qda, .ref qdr, .ref qdm, .ref qdt, .ref qds], zzI cy qdw 8 (T_wo tX), zzI cy qdn 8 (T_ne tX), zzI cy qdg 8 (T_go tX), zzI cy qda 8 (T_ag tX), zzI cy qdr 8 (T_re tX), zzI cy qdm 8 (T_me tX), zzI cy qdt 8 (T_te tX), zzI cy qds 64 (shF (T_kn tX)), zzO qt 3 [.int (nI (T_nb tA)), .int (nI (T_np tA)), .int (wb (T_wh tA)), .int (wb (T_gn tA)), .int (T_sd tA), .ref qtw, .ref qtn, .ref qtg, .ref qta, .ref qtr, .ref qtm, .ref qtt, .ref qts], zzI cy qtw 8 (T_wo tA), zzI cy qtn 8 (T_ne tA), zzI cy qtg 8 (T_go tA), zzI cy qta 8 (T_ag tA), zzI cy qtr 8 (T_re tA), zzI cy qtm 8 (T_me tA), zzI cy qtt 8 (T_te tA), zzI cy qts 64 (shF (T_kn tA))] ∧ (T_nb tX ≤ 8 ∧ T_np tX ≤ 8) ∧ (True))) A) (List.toArray (α := Value) [.ref qa, .ref qt]) s 0 0 A) (F0 m 24 ls []) := by
    intro n_12
    induction n_12 with
    | zero => intro j_14 kS1_15 kE1_16 xT_17 xF_18 tJ_19 hm9; exact absurd hm9 (Nat.not_lt_zero _)
    | succ n_12 ih_13 =>
      intro j_14 kS1_15 kE1_16 xT_17 xF_18 tJ_19 hm_23 hj_20 hSE_21 hn_22 H locs ls hP hD hS hl
      refine lv_iload_n hx hb dX3_readFrom_24 rfl (lv_at hl 0 rfl) ?_
      refine lv_sipush (v := 250) hx hb dX3_readFrom_25 (by decide) ?_
      refine lv_icmp_gt (tgt := 76) hx hb dX3_readFrom_28 (by decide) (fun c_24 => ?_) (fun c_24 => ?_)
      · refine lv_sipush (v := 250) hx hb dX3_readFrom_76 (by decide) ?_
        exact endW (u := [zzO qa 2 [.ref qab, .int (nI kZ), .int (nI kS1_15), .int (nI kE1_16), .int xT_17, .int xF_18, .ref qd], zzB cy qab 250 fB, zzO qd 3 [.int (nI (T_nb tJ_19)), .int (nI (T_np tJ_19)), .int (wb (T_wh tJ_19)), .int (wb (T_gn tJ_19)), .int (T_sd tJ_19), .ref qdw, .ref qdn, .ref qdg, .ref qda, .ref qdr, .ref qdm, .ref qdt, .ref qds], zzI cy qdw 8 (T_wo tJ_19), zzI cy qdn 8 (T_ne tJ_19), zzI cy qdg 8 (T_go tJ_19), zzI cy qda 8 (T_ag tJ_19), zzI cy qdr 8 (T_re tJ_19), zzI cy qdm 8 (T_me tJ_19), zzI cy qdt 8 (T_te tJ_19), zzI cy qds 64 (shF (T_kn tJ_19)), zzO qt 3 [.int (nI (T_nb tA)), .int (nI (T_np tA)), .int (wb (T_wh tA)), .int (wb (T_gn tA)), .int (T_sd tA), .ref qtw, .ref qtn, .ref qtg, .ref qta, .ref qtr, .ref qtm, .ref qtt, .ref qts], zzI cy qtw 8 (T_wo tA), zzI cy qtn 8 (T_ne tA), zzI cy qtg 8 (T_go tA), zzI cy qta 8 (T_ag tA), zzI cy qtr 8 (T_re tA), zzI cy qtm 8 (T_me tA), zzI cy qtt 8 (T_te tA), zzI cy qts 64 (shF (T_kn tA))]) hx hb hr hlocks rfl (hP.sub [18, 19, 0, 1, 2, 3, 4, 5, 6, 7, 8, 9, 10, 11, 12, 13, 14, 15, 16, 17] rfl) (hD.sub [18, 19, 0, 1, 2, 3, 4, 5, 6, 7, 8, 9, 10, 11, 12, 13, 14, 15, 16, 17] (by decide +kernel) rfl) hS ⟨nI kS1_15, nI kE1_16, xT_17, xF_18, tJ_19, rfl, ⟨by omega, by omega⟩, trivial⟩ dX3_readFrom_79
      · have hlt_25 : j_14 < 251 := cnt250 (by omega) c_24
        refine lv_aload_n hx hb dX3_readFrom_31 rfl (lv_at hl 1 rfl) ?_
        refine cVXv (As := []) (rest := []) (b := qa) (q := (RX3, TX3, 7)) ⟨hx, hb, hml, hown, hts⟩ (c_X3_readStatement l G cy (H).size qa qab kZ kS1_15 kE1_16 xT_17 xF_18 qd fB tJ_19 qdw qdn qdg qda qdr qdm qdt qds hZ hSE_21 (by first | omega | (simp only [nb_sr, np_sr, nb_wr, np_wr, nb_rd, np_rd, nb_ch, np_ch, nb_zr, np_zr, nb_za, np_za, nb_ey, np_ey, nb_hf, np_hf, nb_dd, np_dd, nb_so, np_so, nb_skn, np_skn, nb_swh, np_swh, nb_sgn, np_sgn, nb_ssd, np_ssd, nb_sgo, np_sgo, nb_sag, np_sag]; omega)) (by first | omega | (simp only [nb_sr, np_sr, nb_wr, np_wr, nb_rd, np_rd, nb_ch, np_ch, nb_zr, np_zr, nb_za, np_za, nb_ey, np_ey, nb_hf, np_hf, nb_dd, np_dd, nb_so, np_so, nb_skn, np_skn, nb_swh, np_swh, nb_sgn, np_sgn, nb_ssd, np_ssd, nb_sgo, np_sgo, nb_sag, np_sag]; omega))) L_X3_39 hN hP hD hS hA [18, 19, 0, 1, 2, 3, 4, 5, 6, 7, 8] [false, false, false, false, false, false, false, false, false, true, true, true, true, true, true, true, true, true, false, false] rfl (by decide +kernel) rfl 18 2 rfl rfl SO_ok hX rfl ⟨Nat.le_of_ble_eq_true rfl, Nat.le_of_ble_eq_true rfl⟩ hl.1 (Nat.le_of_ble_eq_true rfl) dX3_readFrom_32 ⟨Nat.le_of_ble_eq_true rfl, Nat.le_of_ble_eq_true rfl⟩ (fun u_28 H locs h_27 => ?_)
        clear hP hD hS
        intro hP hD hS
        obtain ⟨kX_29, kY_30, iX_31, iY_32, tX_33, rfl, h_34⟩ := h_27
        have hPD := pd_as [zzO qt 3 [.int (nI (T_nb tA)), .int (nI (T_np tA)), .int (wb (T_wh tA)), .int (wb (T_gn tA)), .int (T_sd tA), .ref qtw, .ref qtn, .ref qtg, .ref qta, .ref qtr, .ref qtm, .ref qtt, .ref qts], zzI cy qtw 8 (T_wo tA), zzI cy qtn 8 (T_ne tA), zzI cy qtg 8 (T_go tA), zzI cy qta 8 (T_ag tA), zzI cy qtr 8 (T_re tA), zzI cy qtm 8 (T_me tA), zzI cy qtt 8 (T_te tA), zzI cy qts 64 (shF (T_kn tA)), zzO qa 2 [.ref qab, .int (nI kZ), .int (nI kX_29), .int (nI kY_30), .int iX_31, .int iY_32, .ref qd], zzB cy qab 250 fB, zzO qd 3 [.int (nI (T_nb tX_33)), .int (nI (T_np tX_33)), .int (wb (T_wh tX_33)), .int (wb (T_gn tX_33)), .int (T_sd tX_33), .ref qdw, .ref qdn, .ref qdg, .ref qda, .ref qdr, .ref qdm, .ref qdt, .ref qds], zzI cy qdw 8 (T_wo tX_33), zzI cy qdn 8 (T_ne tX_33), zzI cy qdg 8 (T_go tX_33), zzI cy qda 8 (T_ag tX_33), zzI cy qdr 8 (T_re tX_33), zzI cy qdm 8 (T_me tX_33), zzI cy qdt 8 (T_te tX_33), zzI cy qds 64 (shF (T_kn tX_33))] hP hD rfl
        clear hP hD
        obtain ⟨hP, hD⟩ := hPD
        refine lv_aload_n hx hb dX3_readFrom_35 rfl (lv_at hl 1 rfl) ?_
        refine va_get (D := G) (ci := 2) (v := .int iY_32) (C := RX3) (T := TX3) (N := 7) hx hb hts iX_X3 hown hK hP 9 rfl rfl 5 (by decide) (hts _ m_t154) (fun _ h9 => h9) rfl dX3_readFrom_36 ?_
        refine lv_iconst (v := (-1)) hx hb dX3_readFrom_39 (by decide) ?_
        refine lv_icmp_ne (tgt := 50) hx hb dX3_readFrom_40 (by decide) (fun c_35 => ?_) (fun c_35 => ?_)
        · refine lv_iload_n hx hb dX3_readFrom_50 rfl (lv_at hl 0 rfl) ?_
          exact endW (u := [zzO qa 2 [.ref qab, .int (nI kZ), .int (nI kX_29), .int (nI kY_30), .int iX_31, .int iY_32, .ref qd], zzB cy qab 250 fB, zzO qd 3 [.int (nI (T_nb tX_33)), .int (nI (T_np tX_33)), .int (wb (T_wh tX_33)), .int (wb (T_gn tX_33)), .int (T_sd tX_33), .ref qdw, .ref qdn, .ref qdg, .ref qda, .ref qdr, .ref qdm, .ref qdt, .ref qds], zzI cy qdw 8 (T_wo tX_33), zzI cy qdn 8 (T_ne tX_33), zzI cy qdg 8 (T_go tX_33), zzI cy qda 8 (T_ag tX_33), zzI cy qdr 8 (T_re tX_33), zzI cy qdm 8 (T_me tX_33), zzI cy qdt 8 (T_te tX_33), zzI cy qds 64 (shF (T_kn tX_33)), zzO qt 3 [.int (nI (T_nb tA)), .int (nI (T_np tA)), .int (wb (T_wh tA)), .int (wb (T_gn tA)), .int (T_sd tA), .ref qtw, .ref qtn, .ref qtg, .ref qta, .ref qtr, .ref qtm, .ref qtt, .ref qts], zzI cy qtw 8 (T_wo tA), zzI cy qtn 8 (T_ne tA), zzI cy qtg 8 (T_go tA), zzI cy qta 8 (T_ag tA), zzI cy qtr 8 (T_re tA), zzI cy qtm 8 (T_me tA), zzI cy qtt 8 (T_te tA), zzI cy qts 64 (shF (T_kn tA))]) hx hb hr hlocks rfl (hP.sub [9, 10, 11, 12, 13, 14, 15, 16, 17, 18, 19, 0, 1, 2, 3, 4, 5, 6, 7, 8] rfl) (hD.sub [9, 10, 11, 12, 13, 14, 15, 16, 17, 18, 19, 0, 1, 2, 3, 4, 5, 6, 7, 8] (by decide +kernel) rfl) hS ⟨nI kX_29, nI kY_30, iX_31, iY_32, tX_33, rfl, ⟨by omega, by omega⟩, trivial⟩ dX3_readFrom_51
        · refine lv_aload_n hx hb dX3_readFrom_43 rfl (lv_at hl 1 rfl) ?_
          refine va_get (D := G) (ci := 2) (v := .int iX_31) (C := RX3) (T := TX3) (N := 7) hx hb hts iX_X3 hown hK hP 9 rfl rfl 4 (by decide) (hts _ m_t153) (fun _ h9 => h9) rfl dX3_readFrom_44 ?_
          refine lv_if_ne (tgt := 52) hx hb dX3_readFrom_47 (by decide) (fun c_36 => ?_) (fun c_36 => ?_)
          · refine lv_aload_n hx hb dX3_readFrom_52 rfl (lv_at hl 1 rfl) ?_
            refine va_get (D := G) (ci := 2) (v := .int iX_31) (C := RX3) (T := TX3) (N := 7) hx hb hts iX_X3 hown hK hP 9 rfl rfl 4 (by decide) (hts _ m_t153) (fun _ h9 => h9) rfl dX3_readFrom_53 ?_
            refine lv_iconst (v := 3) hx hb dX3_readFrom_56 (by decide) ?_
            refine lv_icmp_eq (tgt := 66) hx hb dX3_readFrom_57 (by decide) (fun c_37 => ?_) (fun c_37 => ?_)
            · refine lv_aload_n hx hb dX3_readFrom_66 rfl (lv_at hl 1 rfl) ?_
              refine cVv (As := []) (rest := []) (b := qa) (q := (RX3, TX3, 7)) ⟨hx, hb, hml, hown, hts⟩ (c_X3_step l G cy (H).size qa qab kZ (nI kX_29) kY_30 iX_31 iY_32 qd fB hZ (by first | omega | (simp only [nb_sr, np_sr, nb_wr, np_wr, nb_rd, np_rd, nb_ch, np_ch, nb_zr, np_zr, nb_za, np_za, nb_ey, np_ey, nb_hf, np_hf, nb_dd, np_dd, nb_so, np_so, nb_skn, np_skn, nb_swh, np_swh, nb_sgn, np_sgn, nb_ssd, np_ssd, nb_sgo, np_sgo, nb_sag, np_sag]; omega))) L_X3_36 hN hP hD hS hA [9, 10] [true, true, true, true, true, true, true, true, true, false, false, true, true, true, true, true, true, true, true, true] rfl (by decide +kernel) rfl 9 2 rfl rfl rfl ⟨Nat.le_of_ble_eq_true rfl, Nat.le_of_ble_eq_true rfl⟩ hl.1 (Nat.le_of_ble_eq_true rfl) dX3_readFrom_67 ⟨Nat.le_of_ble_eq_true rfl, Nat.le_of_ble_eq_true rfl⟩ (fun u_40 H locs h_39 => ?_)
              clear hP hD hS
              intro hP hD hS
              obtain ⟨kX_41, kY_42, iX_43, rfl, h_44⟩ := h_39
              have hPD := pd_as [zzO qt 3 [.int (nI (T_nb tA)), .int (nI (T_np tA)), .int (wb (T_wh tA)), .int (wb (T_gn tA)), .int (T_sd tA), .ref qtw, .ref qtn, .ref qtg, .ref qta, .ref qtr, .ref qtm, .ref qtt, .ref qts], zzI cy qtw 8 (T_wo tA), zzI cy qtn 8 (T_ne tA), zzI cy qtg 8 (T_go tA), zzI cy qta 8 (T_ag tA), zzI cy qtr 8 (T_re tA), zzI cy qtm 8 (T_me tA), zzI cy qtt 8 (T_te tA), zzI cy qts 64 (shF (T_kn tA)), zzO qd 3 [.int (nI (T_nb tX_33)), .int (nI (T_np tX_33)), .int (wb (T_wh tX_33)), .int (wb (T_gn tX_33)), .int (T_sd tX_33), .ref qdw, .ref qdn, .ref qdg, .ref qda, .ref qdr, .ref qdm, .ref qdt, .ref qds], zzI cy qdw 8 (T_wo tX_33), zzI cy qdn 8 (T_ne tX_33), zzI cy qdg 8 (T_go tX_33), zzI cy qda 8 (T_ag tX_33), zzI cy qdr 8 (T_re tX_33), zzI cy qdm 8 (T_me tX_33), zzI cy qdt 8 (T_te tX_33), zzI cy qds 64 (shF (T_kn tX_33)), zzO qa 2 [.ref qab, .int (nI kZ), .int (nI kX_41), .int (nI kY_42), .int iX_43, .int iY_32, .ref qd], zzB cy qab 250 fB] hP hD rfl
              clear hP hD
              obtain ⟨hP, hD⟩ := hPD
              refine lv_iinc (v := nI (j_14 + 1)) (lv' := [(2, .int (nI (j_14 + 1))), (0, .ref qa), (1, .ref qt)]) hx hb dX3_readFrom_70 hl (k := 0) rfl (nI_1 _) (by decide) rfl (fun ls => ?_)
              clear hl
              intro hl
              refine lv_goto (tgt := 24) hx hb dX3_readFrom_73 (by decide) ?_
              exact ih_13 (j_14 + 1) kX_41 kY_42 iX_43 iY_32 tX_33 (by omega) (⟨by omega, by omega⟩) (⟨by omega, by omega⟩) (⟨by omega, by omega⟩) _ _ _ (hP.sub [9, 10, 11, 12, 13, 14, 15, 16, 17, 0, 1, 2, 3, 4, 5, 6, 7, 8, 18, 19] rfl) (hD.sub [9, 10, 11, 12, 13, 14, 15, 16, 17, 0, 1, 2, 3, 4, 5, 6, 7, 8, 18, 19] (by decide +kernel) rfl) hS (lv_sub hl [0, 1, 2] rfl)
            · refine lv_aload_n hx hb dX3_readFrom_60 rfl (lv_at hl 1 rfl) ?_
              refine cVv (As := []) (rest := []) (b := qa) (q := (RX3, TX3, 7)) ⟨hx, hb, hml, hown, hts⟩ (c_X3_fail l G cy (H).size qa qab kZ kX_29 kY_30 iX_31 iY_32 qd hZ (by first | omega | (simp only [nb_sr, np_sr, nb_wr, np_wr, nb_rd, np_rd, nb_ch, np_ch, nb_zr, np_zr, nb_za, np_za, nb_ey, np_ey, nb_hf, np_hf, nb_dd, np_dd, nb_so, np_so, nb_skn, np_skn, nb_swh, np_swh, nb_sgn, np_sgn, nb_ssd, np_ssd, nb_sgo, np_sgo, nb_sag, np_sag]; omega))) L_X3_45 hN hP hD hS hA [9] [true, true, true, true, true, true, true, true, true, false, true, true, true, true, true, true, true, true, true, true] rfl (by decide +kernel) rfl 9 2 rfl rfl rfl ⟨Nat.le_of_ble_eq_true rfl, Nat.le_of_ble_eq_true rfl⟩ hl.1 (Nat.le_of_ble_eq_true rfl) dX3_readFrom_61 ⟨Nat.le_of_ble_eq_true rfl, Nat.le_of_ble_eq_true rfl⟩ (fun u_47 H locs h_46 => ?_)
              clear hP hD hS
              intro hP hD hS
              obtain ⟨iX_48, rfl, h_49⟩ := h_46
              have hPD := pd_as [zzO qt 3 [.int (nI (T_nb tA)), .int (nI (T_np tA)), .int (wb (T_wh tA)), .int (wb (T_gn tA)), .int (T_sd tA), .ref qtw, .ref qtn, .ref qtg, .ref qta, .ref qtr, .ref qtm, .ref qtt, .ref qts], zzI cy qtw 8 (T_wo tA), zzI cy qtn 8 (T_ne tA), zzI cy qtg 8 (T_go tA), zzI cy qta 8 (T_ag tA), zzI cy qtr 8 (T_re tA), zzI cy qtm 8 (T_me tA), zzI cy qtt 8 (T_te tA), zzI cy qts 64 (shF (T_kn tA)), zzB cy qab 250 fB, zzO qd 3 [.int (nI (T_nb tX_33)), .int (nI (T_np tX_33)), .int (wb (T_wh tX_33)), .int (wb (T_gn tX_33)), .int (T_sd tX_33), .ref qdw, .ref qdn, .ref qdg, .ref qda, .ref qdr, .ref qdm, .ref qdt, .ref qds], zzI cy qdw 8 (T_wo tX_33), zzI cy qdn 8 (T_ne tX_33), zzI cy qdg 8 (T_go tX_33), zzI cy qda 8 (T_ag tX_33), zzI cy qdr 8 (T_re tX_33), zzI cy qdm 8 (T_me tX_33), zzI cy qdt 8 (T_te tX_33), zzI cy qds 64 (shF (T_kn tX_33)), zzO qa 2 [.ref qab, .int (nI kZ), .int (nI kX_29), .int (nI kY_30), .int iX_31, .int iX_48, .ref qd]] hP hD rfl
              clear hP hD
              obtain ⟨hP, hD⟩ := hPD
              refine lv_iload_n hx hb dX3_readFrom_64 rfl (lv_at hl 0 rfl) ?_
              exact endW (u := [zzO qa 2 [.ref qab, .int (nI kZ), .int (nI kX_29), .int (nI kY_30), .int iX_31, .int iX_48, .ref qd], zzB cy qab 250 fB, zzO qd 3 [.int (nI (T_nb tX_33)), .int (nI (T_np tX_33)), .int (wb (T_wh tX_33)), .int (wb (T_gn tX_33)), .int (T_sd tX_33), .ref qdw, .ref qdn, .ref qdg, .ref qda, .ref qdr, .ref qdm, .ref qdt, .ref qds], zzI cy qdw 8 (T_wo tX_33), zzI cy qdn 8 (T_ne tX_33), zzI cy qdg 8 (T_go tX_33), zzI cy qda 8 (T_ag tX_33), zzI cy qdr 8 (T_re tX_33), zzI cy qdm 8 (T_me tX_33), zzI cy qdt 8 (T_te tX_33), zzI cy qds 64 (shF (T_kn tX_33)), zzO qt 3 [.int (nI (T_nb tA)), .int (nI (T_np tA)), .int (wb (T_wh tA)), .int (wb (T_gn tA)), .int (T_sd tA), .ref qtw, .ref qtn, .ref qtg, .ref qta, .ref qtr, .ref qtm, .ref qtt, .ref qts], zzI cy qtw 8 (T_wo tA), zzI cy qtn 8 (T_ne tA), zzI cy qtg 8 (T_go tA), zzI cy qta 8 (T_ag tA), zzI cy qtr 8 (T_re tA), zzI cy qtm 8 (T_me tA), zzI cy qtt 8 (T_te tA), zzI cy qts 64 (shF (T_kn tA))]) hx hb hr hlocks rfl (hP.sub [19, 9, 10, 11, 12, 13, 14, 15, 16, 17, 18, 0, 1, 2, 3, 4, 5, 6, 7, 8] rfl) (hD.sub [19, 9, 10, 11, 12, 13, 14, 15, 16, 17, 18, 0, 1, 2, 3, 4, 5, 6, 7, 8] (by decide +kernel) rfl) hS ⟨nI kX_29, nI kY_30, iX_31, iX_48, tX_33, rfl, ⟨by omega, by omega⟩, trivial⟩ dX3_readFrom_65
          · refine lv_iload_n hx hb dX3_readFrom_50 rfl (lv_at hl 0 rfl) ?_
            exact endW (u := [zzO qa 2 [.ref qab, .int (nI kZ), .int (nI kX_29), .int (nI kY_30), .int iX_31, .int iY_32, .ref qd], zzB cy qab 250 fB, zzO qd 3 [.int (nI (T_nb tX_33)), .int (nI (T_np tX_33)), .int (wb (T_wh tX_33)), .int (wb (T_gn tX_33)), .int (T_sd tX_33), .ref qdw, .ref qdn, .ref qdg, .ref qda, .ref qdr, .ref qdm, .ref qdt, .ref qds], zzI cy qdw 8 (T_wo tX_33), zzI cy qdn 8 (T_ne tX_33), zzI cy qdg 8 (T_go tX_33), zzI cy qda 8 (T_ag tX_33), zzI cy qdr 8 (T_re tX_33), zzI cy qdm 8 (T_me tX_33), zzI cy qdt 8 (T_te tX_33), zzI cy qds 64 (shF (T_kn tX_33)), zzO qt 3 [.int (nI (T_nb tA)), .int (nI (T_np tA)), .int (wb (T_wh tA)), .int (wb (T_gn tA)), .int (T_sd tA), .ref qtw, .ref qtn, .ref qtg, .ref qta, .ref qtr, .ref qtm, .ref qtt, .ref qts], zzI cy qtw 8 (T_wo tA), zzI cy qtn 8 (T_ne tA), zzI cy qtg 8 (T_go tA), zzI cy qta 8 (T_ag tA), zzI cy qtr 8 (T_re tA), zzI cy qtm 8 (T_me tA), zzI cy qtt 8 (T_te tA), zzI cy qts 64 (shF (T_kn tA))]) hx hb hr hlocks rfl (hP.sub [9, 10, 11, 12, 13, 14, 15, 16, 17, 18, 19, 0, 1, 2, 3, 4, 5, 6, 7, 8] rfl) (hD.sub [9, 10, 11, 12, 13, 14, 15, 16, 17, 18, 19, 0, 1, 2, 3, 4, 5, 6, 7, 8] (by decide +kernel) rfl) hS ⟨nI kX_29, nI kY_30, iX_31, iY_32, tX_33, rfl, ⟨by omega, by omega⟩, trivial⟩ dX3_readFrom_51
  exact lp_11 ((251 - 1) + 1) 1 kX_7 kY_8 iX_9 (-1) tA (Nat.lt_succ_self _) (⟨by omega, by omega⟩) (⟨by omega, by omega⟩) (⟨by omega, by omega⟩) _ _ ls hP hD hS (lv_sub hl [0, 1, 2] rfl)
set_option maxHeartbeats 4000000 in
set_option maxRecDepth 100000 in
theorem p_X5_town (l : Launch) (G : va_G) (cy : Nat → ClassId) (sz : Nat) (qx : Nat) (qt : Nat) (qk : Nat) (qp : Nat) (qs : Nat) (qa : Nat) (qr : Nat) (iKp : Int32) (iYe : Int32) (iTv : Int32) (fR : Nat → Int32) (tA : TA) (qtw : Nat) (qtn : Nat) (qtg : Nat) (qta : Nat) (qtr : Nat) (qtm : Nat) (qtt : Nat) (qts : Nat) (qab : Nat) (kZ : Nat) (iT1 : Int32) (iT2 : Int32) (iT3 : Int32) (iT4 : Int32) (qd : Nat) (fB : Nat → Int32) (tD : TA) (qdw : Nat) (qdn : Nat) (qdg : Nat) (qda : Nat) (qdr : Nat) (qdm : Nat) (qdt : Nat) (qds : Nat)  (hDb : T_nb tD ≤ 8) (hB : T_nb tA ≤ 8) (hPp : T_np tA ≤ 8) (hZ : kZ ≤ 250) : MWX l yX5_town cX5_town 2 (some .int) 14 0 0 G cy SO [zzO qx 4 [.ref qt, .ref qk, .ref qp, .ref qs, .ref qa, .ref qr, .int iKp, .int iYe, .int iTv], zzI cy qr 5 fR, zzO qt 3 [.int (nI (T_nb tA)), .int (nI (T_np tA)), .int (wb (T_wh tA)), .int (wb (T_gn tA)), .int (T_sd tA), .ref qtw, .ref qtn, .ref qtg, .ref qta, .ref qtr, .ref qtm, .ref qtt, .ref qts], zzI cy qtw 8 (T_wo tA), zzI cy qtn 8 (T_ne tA), zzI cy qtg 8 (T_go tA), zzI cy qta 8 (T_ag tA), zzI cy qtr 8 (T_re tA), zzI cy qtm 8 (T_me tA), zzI cy qtt 8 (T_te tA), zzI cy qts 64 (shF (T_kn tA)), zzO qa 2 [.ref qab, .int (nI kZ), .int iT1, .int iT2, .int iT3, .int iT4, .ref qd], zzB cy qab 250 fB, zzO qd 3 [.int (nI (T_nb tD)), .int (nI (T_np tD)), .int (wb (T_wh tD)), .int (wb (T_gn tD)), .int (T_sd tD), .ref qdw, .ref qdn, .ref qdg, .ref qda, .ref qdr, .ref qdm, .ref qdt, .ref qds], zzI cy qdw 8 (T_wo tD), zzI cy qdn 8 (T_ne tD), zzI cy qdg 8 (T_go tD), zzI cy qda 8 (T_ag tD), zzI cy qdr 8 (T_re tD), zzI cy qdm 8 (T_me tD), zzI cy qdt 8 (T_te tD), zzI cy qds 64 (shF (T_kn tD))] sz [.ref qx] (Wi G (fun r u => ∃ (fX : Nat → Int32) (tN : TA) (kY : Nat) (iX4 : Int32) (iX5 : Int32) (iX6 : Int32) (iX7 : Int32) (tO : TA), u = [zzO qx 4 [.ref qt, .ref qk, .ref qp, .ref qs, .ref qa, .ref qr, .int iKp, .int iYe, .int iTv], zzI cy qr 5 fX, zzO qt 3 [.int (nI (T_nb tN)), .int (nI (T_np tN)), .int (wb (T_wh tN)), .int (wb (T_gn tN)), .int (T_sd tN), .ref qtw, .ref qtn, .ref qtg, .ref qta, .ref qtr, .ref qtm, .ref qtt, .ref qts], zzI cy qtw 8 (T_wo tN), zzI cy qtn 8 (T_ne tN), zzI cy qtg 8 (T_go tN), zzI cy qta 8 (T_ag tN), zzI cy qtr 8 (T_re tN), zzI cy qtm 8 (T_me tN), zzI cy qtt 8 (T_te tN), zzI cy qts 64 (shF (T_kn tN)), zzO qa 2 [.ref qab, .int (nI kY), .int iX4, .int iX5, .int iX6, .int iX7, .ref qd], zzB cy qab 250 fB, zzO qd 3 [.int (nI (T_nb tO)), .int (nI (T_np tO)), .int (wb (T_wh tO)), .int (wb (T_gn tO)), .int (T_sd tO), .ref qdw, .ref qdn, .ref qdg, .ref qda, .ref qdr, .ref qdm, .ref qdt, .ref qds], zzI cy qdw 8 (T_wo tO), zzI cy qdn 8 (T_ne tO), zzI cy qdg 8 (T_go tO), zzI cy qda 8 (T_ag tO), zzI cy qdr 8 (T_re tO), zzI cy qdm 8 (T_me tO), zzI cy qdt 8 (T_te tO), zzI cy qds 64 (shF (T_kn tO))] ∧ (T_nb tN ≤ 8 ∧ T_np tN ≤ 8 ∧ kY = 0 ∧ T_nb tO ≤ 8) ∧ (True))) := by
  refine enWX RX5 (by decide) rfl (Nat.le_of_ble_eq_true rfl) (fun p e s m below meth c ls A hx hb hml hown hts hr hlocks hP hN hl hin hD hA hS hX => ?_)
  have hin : meth.name = _ := hin
  have hK := hN.1
  replace hl : lv_has ls 2 [(0, .ref qx)] := hl
  refine lv_aload_n hx hb dX5_town_0 rfl (lv_at hl 0 rfl) ?_
  refine va_get (D := G) (ci := 4) (v := .ref qa) (C := RX5) (T := TX5) (N := 9) hx hb hts iX_X5 hown hK hP 0 rfl rfl 4 (by decide) (hts _ m_t178) (fun _ h9 => h9) rfl dX5_town_1 ?_
  refine lv_aload_n hx hb dX5_town_4 rfl (lv_at hl 0 rfl) ?_
  refine va_get (D := G) (ci := 4) (v := .ref qt) (C := RX5) (T := TX5) (N := 9) hx hb hts iX_X5 hown hK hP 0 rfl rfl 0 (by decide) (hts _ m_t174) (fun _ h9 => h9) rfl dX5_town_5 ?_
  refine cVXi (As := [.ref qt]) (rest := []) (b := qa) (q := (RX3, TX3, 7)) ⟨hx, hb, hml, hown, hts⟩ (c_X3_readFrom l G cy (s.heap).size qa qab kZ iT1 iT2 iT3 iT4 qd fB tD qdw qdn qdg qda qdr qdm qdt qds qt tA qtw qtn qtg qta qtr qtm qtt qts hZ hB hPp) L_X5_154 hN hP hD hS hA [11, 12, 13, 14, 15, 16, 17, 18, 19, 20, 21, 2, 3, 4, 5, 6, 7, 8, 9, 10] [true, true, false, false, false, false, false, false, false, false, false, false, false, false, false, false, false, false, false, false, false, false] rfl (by decide +kernel) rfl 11 2 rfl rfl SO_ok hX rfl ⟨Nat.le_of_ble_eq_true rfl, Nat.le_of_ble_eq_true rfl⟩ hl.1 (Nat.le_of_ble_eq_true rfl) dX5_town_8 ⟨Nat.le_of_ble_eq_true rfl, Nat.le_of_ble_eq_true rfl⟩ (fun r_1 u_3 H locs h_2 => ?_)
  clear hP hD hS
  intro hP hD hS
  obtain ⟨iX_4, iX_5, iX_6, iY_7, tX_8, rfl, h_9, h_2⟩ := h_2
  have hPD := pd_as [zzO qx 4 [.ref qt, .ref qk, .ref qp, .ref qs, .ref qa, .ref qr, .int iKp, .int iYe, .int iTv], zzI cy qr 5 fR, zzO qa 2 [.ref qab, .int (nI kZ), .int iX_4, .int iX_5, .int iX_6, .int iY_7, .ref qd], zzB cy qab 250 fB, zzO qd 3 [.int (nI (T_nb tX_8)), .int (nI (T_np tX_8)), .int (wb (T_wh tX_8)), .int (wb (T_gn tX_8)), .int (T_sd tX_8), .ref qdw, .ref qdn, .ref qdg, .ref qda, .ref qdr, .ref qdm, .ref qdt, .ref qds], zzI cy qdw 8 (T_wo tX_8), zzI cy qdn 8 (T_ne tX_8), zzI cy qdg 8 (T_go tX_8), zzI cy qda 8 (T_ag tX_8), zzI cy qdr 8 (T_re tX_8), zzI cy qdm 8 (T_me tX_8), zzI cy qdt 8 (T_te tX_8), zzI cy qds 64 (shF (T_kn tX_8)), zzO qt 3 [.int (nI (T_nb tA)), .int (nI (T_np tA)), .int (wb (T_wh tA)), .int (wb (T_gn tA)), .int (T_sd tA), .ref qtw, .ref qtn, .ref qtg, .ref qta, .ref qtr, .ref qtm, .ref qtt, .ref qts], zzI cy qtw 8 (T_wo tA), zzI cy qtn 8 (T_ne tA), zzI cy qtg 8 (T_go tA), zzI cy qta 8 (T_ag tA), zzI cy qtr 8 (T_re tA), zzI cy qtm 8 (T_me tA), zzI cy qtt 8 (T_te tA), zzI cy qts 64 (shF (T_kn tA))] hP hD rfl
  clear hP hD
  obtain ⟨hP, hD⟩ := hPD
  refine lv_istore_n (lv' := [(1, .int r_1), (0, .ref qx)]) hx hb dX5_town_11 rfl hl (by decide) rfl (fun ls => ?_)
  clear hl
  intro hl
  refine lv_aload_n hx hb dX5_town_12 rfl (lv_at hl 1 rfl) ?_
  refine va_get (D := G) (ci := 4) (v := .ref qa) (C := RX5) (T := TX5) (N := 9) hx hb hts iX_X5 hown hK hP 0 rfl rfl 4 (by decide) (hts _ m_t178) (fun _ h9 => h9) rfl dX5_town_13 ?_
  refine lv_iconst (v := 0) hx hb dX5_town_16 (by decide) ?_
  refine va_putN (D := G) (ci := 2) (v := .int 0) (ty := .int) (C := RX3) (T := TX3) (N := 7) hx hb hts iX_X3 tyX3 tyX3_ok nmX3 hown hK hP hD hS 2 rfl rfl 1 (by decide) (va_Nw.use rfl (hN.2.1 (RX5, 148, "EachBookOnce$Tape", "size", "I") (List.mem_of_getElem? (i := 29) rfl))) (fun _ h9 => h9) rfl (by decide +kernel) rfl rfl (Nat.le_of_ble_eq_true rfl) dX5_town_17 (fun H locs => ?_)
  clear hP hD hS
  intro hP hD hS
  have hPD := pd_as [zzO qx 4 [.ref qt, .ref qk, .ref qp, .ref qs, .ref qa, .ref qr, .int iKp, .int iYe, .int iTv], zzI cy qr 5 fR, zzO qa 2 [.ref qab, .int 0, .int iX_4, .int iX_5, .int iX_6, .int iY_7, .ref qd], zzB cy qab 250 fB, zzO qd 3 [.int (nI (T_nb tX_8)), .int (nI (T_np tX_8)), .int (wb (T_wh tX_8)), .int (wb (T_gn tX_8)), .int (T_sd tX_8), .ref qdw, .ref qdn, .ref qdg, .ref qda, .ref qdr, .ref qdm, .ref qdt, .ref qds], zzI cy qdw 8 (T_wo tX_8), zzI cy qdn 8 (T_ne tX_8), zzI cy qdg 8 (T_go tX_8), zzI cy qda 8 (T_ag tX_8), zzI cy qdr 8 (T_re tX_8), zzI cy qdm 8 (T_me tX_8), zzI cy qdt 8 (T_te tX_8), zzI cy qds 64 (shF (T_kn tX_8)), zzO qt 3 [.int (nI (T_nb tA)), .int (nI (T_np tA)), .int (wb (T_wh tA)), .int (wb (T_gn tA)), .int (T_sd tA), .ref qtw, .ref qtn, .ref qtg, .ref qta, .ref qtr, .ref qtm, .ref qtt, .ref qts], zzI cy qtw 8 (T_wo tA), zzI cy qtn 8 (T_ne tA), zzI cy qtg 8 (T_go tA), zzI cy qta 8 (T_ag tA), zzI cy qtr 8 (T_re tA), zzI cy qtm 8 (T_me tA), zzI cy qtt 8 (T_te tA), zzI cy qts 64 (shF (T_kn tA))] hP hD rfl
  clear hP hD
  obtain ⟨hP, hD⟩ := hPD
  refine lv_aload_n hx hb dX5_town_20 rfl (lv_at hl 1 rfl) ?_
  refine va_get (D := G) (ci := 4) (v := .ref qa) (C := RX5) (T := TX5) (N := 9) hx hb hts iX_X5 hown hK hP 0 rfl rfl 4 (by decide) (hts _ m_t178) (fun _ h9 => h9) rfl dX5_town_21 ?_
  refine va_getN (D := G) (ci := 2) (v := .int iY_7) (C := RX3) (T := TX3) (N := 7) hx hb hts iX_X3 hown hK hP 2 rfl rfl 5 (by decide) (va_Nw.use rfl (hN.2.1 (RX5, 158, "EachBookOnce$Tape", "fault", "I") (List.mem_of_getElem? (i := 30) rfl))) (fun _ h9 => h9) rfl dX5_town_24 ?_
  refine lv_iconst (v := (-1)) hx hb dX5_town_27 (by decide) ?_
  refine lv_icmp_eq (tgt := 49) hx hb dX5_town_28 (by decide) (fun c_10 => ?_) (fun c_10 => ?_)
  · refine lv_aload_n hx hb dX5_town_49 rfl (lv_at hl 1 rfl) ?_
    refine va_get (D := G) (ci := 4) (v := .ref qt) (C := RX5) (T := TX5) (N := 9) hx hb hts iX_X5 hown hK hP 0 rfl rfl 0 (by decide) (hts _ m_t174) (fun _ h9 => h9) rfl dX5_town_50 ?_
    refine lv_aload_n hx hb dX5_town_53 rfl (lv_at hl 1 rfl) ?_
    refine va_get (D := G) (ci := 4) (v := .ref qa) (C := RX5) (T := TX5) (N := 9) hx hb hts iX_X5 hown hK hP 0 rfl rfl 4 (by decide) (hts _ m_t178) (fun _ h9 => h9) rfl dX5_town_54 ?_
    refine va_getN (D := G) (ci := 2) (v := .ref qd) (C := RX3) (T := TX3) (N := 7) hx hb hts iX_X3 hown hK hP 2 rfl rfl 6 (by decide) (va_Nw.use rfl (hN.2.1 (RX5, 161, "EachBookOnce$Tape", "draft", "LEachBookOnce$Town;") (List.mem_of_getElem? (i := 31) rfl))) (fun _ h9 => h9) rfl dX5_town_57 ?_
    refine cVv (As := [.ref qd]) (rest := []) (b := qt) (q := (RX4, TX4, 13)) ⟨hx, hb, hml, hown, hts⟩ (c_X4_become l G cy (H).size qt tA qtw qtn qtg qta qtr qtm qtt qts qd tX_8 qdw qdn qdg qda qdr qdm qdt qds) L_X5_164 hN hP hD hS hA [13, 14, 15, 16, 17, 18, 19, 20, 21, 4, 5, 6, 7, 8, 9, 10, 11, 12] [true, true, true, true, false, false, false, false, false, false, false, false, false, false, false, false, false, false, false, false, false, false] rfl (by decide +kernel) rfl 13 3 rfl rfl rfl ⟨Nat.le_of_ble_eq_true rfl, Nat.le_of_ble_eq_true rfl⟩ hl.1 (Nat.le_of_ble_eq_true rfl) dX5_town_60 ⟨Nat.le_of_ble_eq_true rfl, Nat.le_of_ble_eq_true rfl⟩ (fun u_13 H locs h_12 => ?_)
    clear hP hD hS
    intro hP hD hS
    subst h_12
    have hPD := pd_as [zzO qx 4 [.ref qt, .ref qk, .ref qp, .ref qs, .ref qa, .ref qr, .int iKp, .int iYe, .int iTv], zzI cy qr 5 fR, zzO qa 2 [.ref qab, .int 0, .int iX_4, .int iX_5, .int iX_6, .int iY_7, .ref qd], zzB cy qab 250 fB, zzO qt 3 [.int (nI (T_nb tX_8)), .int (nI (T_np tX_8)), .int (wb (T_wh tX_8)), .int (wb (T_gn tX_8)), .int (T_sd tX_8), .ref qtw, .ref qtn, .ref qtg, .ref qta, .ref qtr, .ref qtm, .ref qtt, .ref qts], zzI cy qtw 8 (T_wo tX_8), zzI cy qtn 8 (T_ne tX_8), zzI cy qtg 8 (T_go tX_8), zzI cy qta 8 (T_ag tX_8), zzI cy qtr 8 (T_re tX_8), zzI cy qtm 8 (T_me tX_8), zzI cy qtt 8 (T_te tX_8), zzI cy qts 64 (shF (T_kn tX_8)), zzO qd 3 [.int (nI (T_nb tX_8)), .int (nI (T_np tX_8)), .int (wb (T_wh tX_8)), .int (wb (T_gn tX_8)), .int (T_sd tX_8), .ref qdw, .ref qdn, .ref qdg, .ref qda, .ref qdr, .ref qdm, .ref qdt, .ref qds], zzI cy qdw 8 (T_wo tX_8), zzI cy qdn 8 (T_ne tX_8), zzI cy qdg 8 (T_go tX_8), zzI cy qda 8 (T_ag tX_8), zzI cy qdr 8 (T_re tX_8), zzI cy qdm 8 (T_me tX_8), zzI cy qdt 8 (T_te tX_8), zzI cy qds 64 (shF (T_kn tX_8))] hP hD rfl
    clear hP hD
    obtain ⟨hP, hD⟩ := hPD
    refine lv_iload_n hx hb dX5_town_63 rfl (lv_at hl 0 rfl) ?_
    exact endW (u := [zzO qx 4 [.ref qt, .ref qk, .ref qp, .ref qs, .ref qa, .ref qr, .int iKp, .int iYe, .int iTv], zzI cy qr 5 fR, zzO qt 3 [.int (nI (T_nb tX_8)), .int (nI (T_np tX_8)), .int (wb (T_wh tX_8)), .int (wb (T_gn tX_8)), .int (T_sd tX_8), .ref qtw, .ref qtn, .ref qtg, .ref qta, .ref qtr, .ref qtm, .ref qtt, .ref qts], zzI cy qtw 8 (T_wo tX_8), zzI cy qtn 8 (T_ne tX_8), zzI cy qtg 8 (T_go tX_8), zzI cy qta 8 (T_ag tX_8), zzI cy qtr 8 (T_re tX_8), zzI cy qtm 8 (T_me tX_8), zzI cy qtt 8 (T_te tX_8), zzI cy qts 64 (shF (T_kn tX_8)), zzO qa 2 [.ref qab, .int 0, .int iX_4, .int iX_5, .int iX_6, .int iY_7, .ref qd], zzB cy qab 250 fB, zzO qd 3 [.int (nI (T_nb tX_8)), .int (nI (T_np tX_8)), .int (wb (T_wh tX_8)), .int (wb (T_gn tX_8)), .int (T_sd tX_8), .ref qdw, .ref qdn, .ref qdg, .ref qda, .ref qdr, .ref qdm, .ref qdt, .ref qds], zzI cy qdw 8 (T_wo tX_8), zzI cy qdn 8 (T_ne tX_8), zzI cy qdg 8 (T_go tX_8), zzI cy qda 8 (T_ag tX_8), zzI cy qdr 8 (T_re tX_8), zzI cy qdm 8 (T_me tX_8), zzI cy qdt 8 (T_te tX_8), zzI cy qds 64 (shF (T_kn tX_8))]) hx hb hr hlocks rfl (hP.sub [0, 1, 4, 5, 6, 7, 8, 9, 10, 11, 12, 2, 3, 13, 14, 15, 16, 17, 18, 19, 20, 21] rfl) (hD.sub [0, 1, 4, 5, 6, 7, 8, 9, 10, 11, 12, 2, 3, 13, 14, 15, 16, 17, 18, 19, 20, 21] (by decide +kernel) rfl) hS ⟨fR, tX_8, 0, iX_4, iX_5, iX_6, iY_7, tX_8, rfl, ⟨by omega, by omega, rfl, by omega⟩, trivial⟩ dX5_town_64
  · refine lv_aload_n hx hb dX5_town_31 rfl (lv_at hl 1 rfl) ?_
    refine lv_bipush (v := (-2)) hx hb dX5_town_32 (by decide) ?_
    refine cVi (As := [.int (-2)]) (rest := []) (b := qx) (q := (RX5, TX5, 9)) ⟨hx, hb, hml, hown, hts⟩ (c_X5_refuse2 l G cy (H).size qx qt qk qp qs qa qr iKp iYe iTv fR) L_X5_56 hN hP hD hS hA [0, 1] [false, false, true, true, true, true, true, true, true, true, true, true, true, true, true, true, true, true, true, true, true, true] rfl (by decide +kernel) rfl 0 4 rfl rfl rfl ⟨Nat.le_of_ble_eq_true rfl, Nat.le_of_ble_eq_true rfl⟩ hl.1 (Nat.le_of_ble_eq_true rfl) dX5_town_34 ⟨Nat.le_of_ble_eq_true rfl, Nat.le_of_ble_eq_true rfl⟩ (fun r_14 u_16 H locs h_15 => ?_)
    clear hP hD hS
    intro hP hD hS
    obtain ⟨fX_17, rfl, h_15⟩ := h_15
    have hPD := pd_as [zzO qa 2 [.ref qab, .int 0, .int iX_4, .int iX_5, .int iX_6, .int iY_7, .ref qd], zzB cy qab 250 fB, zzO qd 3 [.int (nI (T_nb tX_8)), .int (nI (T_np tX_8)), .int (wb (T_wh tX_8)), .int (wb (T_gn tX_8)), .int (T_sd tX_8), .ref qdw, .ref qdn, .ref qdg, .ref qda, .ref qdr, .ref qdm, .ref qdt, .ref qds], zzI cy qdw 8 (T_wo tX_8), zzI cy qdn 8 (T_ne tX_8), zzI cy qdg 8 (T_go tX_8), zzI cy qda 8 (T_ag tX_8), zzI cy qdr 8 (T_re tX_8), zzI cy qdm 8 (T_me tX_8), zzI cy qdt 8 (T_te tX_8), zzI cy qds 64 (shF (T_kn tX_8)), zzO qt 3 [.int (nI (T_nb tA)), .int (nI (T_np tA)), .int (wb (T_wh tA)), .int (wb (T_gn tA)), .int (T_sd tA), .ref qtw, .ref qtn, .ref qtg, .ref qta, .ref qtr, .ref qtm, .ref qtt, .ref qts], zzI cy qtw 8 (T_wo tA), zzI cy qtn 8 (T_ne tA), zzI cy qtg 8 (T_go tA), zzI cy qta 8 (T_ag tA), zzI cy qtr 8 (T_re tA), zzI cy qtm 8 (T_me tA), zzI cy qtt 8 (T_te tA), zzI cy qts 64 (shF (T_kn tA)), zzO qx 4 [.ref qt, .ref qk, .ref qp, .ref qs, .ref qa, .ref qr, .int iKp, .int iYe, .int iTv], zzI cy qr 5 fX_17] hP hD rfl
    clear hP hD
    obtain ⟨hP, hD⟩ := hPD
    subst h_15
    refine lv_pop hx hb dX5_town_37 rfl ?_
    refine lv_bipush (v := (-20)) hx hb dX5_town_38 (by decide) ?_
    refine lv_aload_n hx hb dX5_town_40 rfl (lv_at hl 1 rfl) ?_
    refine va_get (D := G) (ci := 4) (v := .ref qa) (C := RX5) (T := TX5) (N := 9) hx hb hts iX_X5 hown hK hP 20 rfl rfl 4 (by decide) (hts _ m_t178) (fun _ h9 => h9) rfl dX5_town_41 ?_
    refine va_getN (D := G) (ci := 2) (v := .int iY_7) (C := RX3) (T := TX3) (N := 7) hx hb hts iX_X3 hown hK hP 0 rfl rfl 5 (by decide) (va_Nw.use rfl (hN.2.1 (RX5, 158, "EachBookOnce$Tape", "fault", "I") (List.mem_of_getElem? (i := 30) rfl))) (fun _ h9 => h9) rfl dX5_town_44 ?_
    refine lv_isub hx hb dX5_town_47 ?_
    exact endW (u := [zzO qx 4 [.ref qt, .ref qk, .ref qp, .ref qs, .ref qa, .ref qr, .int iKp, .int iYe, .int iTv], zzI cy qr 5 fX_17, zzO qt 3 [.int (nI (T_nb tA)), .int (nI (T_np tA)), .int (wb (T_wh tA)), .int (wb (T_gn tA)), .int (T_sd tA), .ref qtw, .ref qtn, .ref qtg, .ref qta, .ref qtr, .ref qtm, .ref qtt, .ref qts], zzI cy qtw 8 (T_wo tA), zzI cy qtn 8 (T_ne tA), zzI cy qtg 8 (T_go tA), zzI cy qta 8 (T_ag tA), zzI cy qtr 8 (T_re tA), zzI cy qtm 8 (T_me tA), zzI cy qtt 8 (T_te tA), zzI cy qts 64 (shF (T_kn tA)), zzO qa 2 [.ref qab, .int 0, .int iX_4, .int iX_5, .int iX_6, .int iY_7, .ref qd], zzB cy qab 250 fB, zzO qd 3 [.int (nI (T_nb tX_8)), .int (nI (T_np tX_8)), .int (wb (T_wh tX_8)), .int (wb (T_gn tX_8)), .int (T_sd tX_8), .ref qdw, .ref qdn, .ref qdg, .ref qda, .ref qdr, .ref qdm, .ref qdt, .ref qds], zzI cy qdw 8 (T_wo tX_8), zzI cy qdn 8 (T_ne tX_8), zzI cy qdg 8 (T_go tX_8), zzI cy qda 8 (T_ag tX_8), zzI cy qdr 8 (T_re tX_8), zzI cy qdm 8 (T_me tX_8), zzI cy qdt 8 (T_te tX_8), zzI cy qds 64 (shF (T_kn tX_8))]) hx hb hr hlocks rfl (hP.sub [20, 21, 11, 12, 13, 14, 15, 16, 17, 18, 19, 0, 1, 2, 3, 4, 5, 6, 7, 8, 9, 10] rfl) (hD.sub [20, 21, 11, 12, 13, 14, 15, 16, 17, 18, 19, 0, 1, 2, 3, 4, 5, 6, 7, 8, 9, 10] (by decide +kernel) rfl) hS ⟨fX_17, tA, 0, iX_4, iX_5, iX_6, iY_7, tX_8, rfl, ⟨by omega, by omega, rfl, by omega⟩, trivial⟩ dX5_town_48
