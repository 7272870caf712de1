theorem dX0_bestWho_0 : decode cX0_bestWho 0 = .ok (.iconst (-1), 1) := by decide +kernel
theorem dX0_bestWho_1 : decode cX0_bestWho 1 = .ok (.istore 4, 2) := by decide +kernel
theorem dX0_bestWho_3 : decode cX0_bestWho 3 = .ok (.iconst 0, 1) := by decide +kernel
theorem dX0_bestWho_4 : decode cX0_bestWho 4 = .ok (.istore 5, 2) := by decide +kernel
theorem dX0_bestWho_6 : decode cX0_bestWho 6 = .ok (.iload 5, 2) := by decide +kernel
theorem dX0_bestWho_8 : decode cX0_bestWho 8 = .ok (.aload_n 1, 1) := by decide +kernel
theorem dX0_bestWho_9 : decode cX0_bestWho 9 = .ok (.getfield 49, 3) := by decide +kernel
theorem dX0_bestWho_12 : decode cX0_bestWho 12 = .ok (.if_icmp .ge 74, 3) := by decide +kernel
theorem dX0_bestWho_15 : decode cX0_bestWho 15 = .ok (.aload_n 1, 1) := by decide +kernel
theorem dX0_bestWho_16 : decode cX0_bestWho 16 = .ok (.invokevirtual 25, 3) := by decide +kernel
theorem dX0_bestWho_19 : decode cX0_bestWho 19 = .ok (.iload 5, 2) := by decide +kernel
theorem dX0_bestWho_21 : decode cX0_bestWho 21 = .ok (.invokestatic 52, 3) := by decide +kernel
theorem dX0_bestWho_24 : decode cX0_bestWho 24 = .ok (.ifCond .eq 56, 3) := by decide +kernel
theorem dX0_bestWho_27 : decode cX0_bestWho 27 = .ok (.aload_n 0, 1) := by decide +kernel
theorem dX0_bestWho_28 : decode cX0_bestWho 28 = .ok (.getfield 12, 3) := by decide +kernel
theorem dX0_bestWho_31 : decode cX0_bestWho 31 = .ok (.aload_n 1, 1) := by decide +kernel
theorem dX0_bestWho_32 : decode cX0_bestWho 32 = .ok (.invokevirtual 21, 3) := by decide +kernel
theorem dX0_bestWho_35 : decode cX0_bestWho 35 = .ok (.aload_n 0, 1) := by decide +kernel
theorem dX0_bestWho_36 : decode cX0_bestWho 36 = .ok (.getfield 12, 3) := by decide +kernel
theorem dX0_bestWho_39 : decode cX0_bestWho 39 = .ok (.iload 5, 2) := by decide +kernel
theorem dX0_bestWho_41 : decode cX0_bestWho 41 = .ok (.iload_n 2, 1) := by decide +kernel
theorem dX0_bestWho_42 : decode cX0_bestWho 42 = .ok (.invokevirtual 56, 3) := by decide +kernel
theorem dX0_bestWho_45 : decode cX0_bestWho 45 = .ok (.aload_n 0, 1) := by decide +kernel
theorem dX0_bestWho_46 : decode cX0_bestWho 46 = .ok (.getfield 12, 3) := by decide +kernel
theorem dX0_bestWho_49 : decode cX0_bestWho 49 = .ok (.iload_n 3, 1) := by decide +kernel
theorem dX0_bestWho_50 : decode cX0_bestWho 50 = .ok (.invokestatic 60, 3) := by decide +kernel
theorem dX0_bestWho_53 : decode cX0_bestWho 53 = .ok (.istore 6, 2) := by decide +kernel
theorem dX0_bestWho_55 : decode cX0_bestWho 55 = .ok (.iload 4, 2) := by decide +kernel
theorem dX0_bestWho_57 : decode cX0_bestWho 57 = .ok (.iconst (-1), 1) := by decide +kernel
theorem dX0_bestWho_58 : decode cX0_bestWho 58 = .ok (.if_icmp .eq 12, 3) := by decide +kernel
theorem dX0_bestWho_61 : decode cX0_bestWho 61 = .ok (.iload 6, 2) := by decide +kernel
theorem dX0_bestWho_63 : decode cX0_bestWho 63 = .ok (.aload_n 0, 1) := by decide +kernel
theorem dX0_bestWho_64 : decode cX0_bestWho 64 = .ok (.getfield 64, 3) := by decide +kernel
theorem dX0_bestWho_67 : decode cX0_bestWho 67 = .ok (.if_icmp .le 13, 3) := by decide +kernel
theorem dX0_bestWho_70 : decode cX0_bestWho 70 = .ok (.iload 5, 2) := by decide +kernel
theorem dX0_bestWho_72 : decode cX0_bestWho 72 = .ok (.istore 4, 2) := by decide +kernel
theorem dX0_bestWho_74 : decode cX0_bestWho 74 = .ok (.aload_n 0, 1) := by decide +kernel
theorem dX0_bestWho_75 : decode cX0_bestWho 75 = .ok (.iload 6, 2) := by decide +kernel
theorem dX0_bestWho_77 : decode cX0_bestWho 77 = .ok (.putfield 64, 3) := by decide +kernel
theorem dX0_bestWho_80 : decode cX0_bestWho 80 = .ok (.iinc 5 1, 3) := by decide +kernel
theorem dX0_bestWho_83 : decode cX0_bestWho 83 = .ok (.goto (-77), 3) := by decide +kernel
theorem dX0_bestWho_86 : decode cX0_bestWho 86 = .ok (.iload 4, 2) := by decide +kernel
theorem dX0_bestWho_88 : decode cX0_bestWho 88 = .ok (.ireturn, 1) := by decide +kernel
theorem dX0_findKeeping_0 : decode cX0_findKeeping 0 = .ok (.aload_n 0, 1) := by decide +kernel
theorem dX0_findKeeping_1 : decode cX0_findKeeping 1 = .ok (.aload_n 1, 1) := by decide +kernel
theorem dX0_findKeeping_2 : decode cX0_findKeeping 2 = .ok (.iload_n 2, 1) := by decide +kernel
theorem dX0_findKeeping_3 : decode cX0_findKeeping 3 = .ok (.iload_n 3, 1) := by decide +kernel
theorem dX0_findKeeping_4 : decode cX0_findKeeping 4 = .ok (.invokevirtual 67, 3) := by decide +kernel
theorem dX0_findKeeping_7 : decode cX0_findKeeping 7 = .ok (.iconst (-1), 1) := by decide +kernel
theorem dX0_findKeeping_8 : decode cX0_findKeeping 8 = .ok (.if_icmp .ne 5, 3) := by decide +kernel
theorem dX0_findKeeping_11 : decode cX0_findKeeping 11 = .ok (.iconst 0, 1) := by decide +kernel
theorem dX0_findKeeping_12 : decode cX0_findKeeping 12 = .ok (.ireturn, 1) := by decide +kernel
theorem dX0_findKeeping_13 : decode cX0_findKeeping 13 = .ok (.aload_n 0, 1) := by decide +kernel
theorem dX0_findKeeping_14 : decode cX0_findKeeping 14 = .ok (.getfield 64, 3) := by decide +kernel
theorem dX0_findKeeping_17 : decode cX0_findKeeping 17 = .ok (.istore 4, 2) := by decide +kernel
theorem dX0_findKeeping_19 : decode cX0_findKeeping 19 = .ok (.aload_n 0, 1) := by decide +kernel
theorem dX0_findKeeping_20 : decode cX0_findKeeping 20 = .ok (.getfield 18, 3) := by decide +kernel
theorem dX0_findKeeping_23 : decode cX0_findKeeping 23 = .ok (.aload_n 1, 1) := by decide +kernel
theorem dX0_findKeeping_24 : decode cX0_findKeeping 24 = .ok (.invokevirtual 21, 3) := by decide +kernel
theorem dX0_findKeeping_27 : decode cX0_findKeeping 27 = .ok (.aload_n 0, 1) := by decide +kernel
theorem dX0_findKeeping_28 : decode cX0_findKeeping 28 = .ok (.getfield 18, 3) := by decide +kernel
theorem dX0_findKeeping_31 : decode cX0_findKeeping 31 = .ok (.iconst 1, 1) := by decide +kernel
theorem dX0_findKeeping_32 : decode cX0_findKeeping 32 = .ok (.invokestatic 60, 3) := by decide +kernel
theorem dX0_findKeeping_35 : decode cX0_findKeeping 35 = .ok (.istore 5, 2) := by decide +kernel
theorem dX0_findKeeping_37 : decode cX0_findKeeping 37 = .ok (.aload_n 0, 1) := by decide +kernel
theorem dX0_findKeeping_38 : decode cX0_findKeeping 38 = .ok (.aload_n 0, 1) := by decide +kernel
theorem dX0_findKeeping_39 : decode cX0_findKeeping 39 = .ok (.getfield 18, 3) := by decide +kernel
theorem dX0_findKeeping_42 : decode cX0_findKeeping 42 = .ok (.iload_n 2, 1) := by decide +kernel
theorem dX0_findKeeping_43 : decode cX0_findKeeping 43 = .ok (.iload_n 3, 1) := by decide +kernel
theorem dX0_findKeeping_44 : decode cX0_findKeeping 44 = .ok (.iconst 1, 1) := by decide +kernel
theorem dX0_findKeeping_45 : decode cX0_findKeeping 45 = .ok (.isub, 1) := by decide +kernel
theorem dX0_findKeeping_46 : decode cX0_findKeeping 46 = .ok (.invokevirtual 67, 3) := by decide +kernel
theorem dX0_findKeeping_49 : decode cX0_findKeeping 49 = .ok (.iconst (-1), 1) := by decide +kernel
theorem dX0_findKeeping_50 : decode cX0_findKeeping 50 = .ok (.if_icmp .ne 5, 3) := by decide +kernel
theorem dX0_findKeeping_53 : decode cX0_findKeeping 53 = .ok (.iconst 0, 1) := by decide +kernel
theorem dX0_findKeeping_54 : decode cX0_findKeeping 54 = .ok (.ireturn, 1) := by decide +kernel
theorem dX0_findKeeping_55 : decode cX0_findKeeping 55 = .ok (.aload_n 0, 1) := by decide +kernel
theorem dX0_findKeeping_56 : decode cX0_findKeeping 56 = .ok (.iload 5, 2) := by decide +kernel
theorem dX0_findKeeping_58 : decode cX0_findKeeping 58 = .ok (.aload_n 0, 1) := by decide +kernel
theorem dX0_findKeeping_59 : decode cX0_findKeeping 59 = .ok (.getfield 64, 3) := by decide +kernel
theorem dX0_findKeeping_62 : decode cX0_findKeeping 62 = .ok (.iadd, 1) := by decide +kernel
theorem dX0_findKeeping_63 : decode cX0_findKeeping 63 = .ok (.iload 4, 2) := by decide +kernel
theorem dX0_findKeeping_65 : decode cX0_findKeeping 65 = .ok (.isub, 1) := by decide +kernel
theorem dX0_findKeeping_66 : decode cX0_findKeeping 66 = .ok (.putfield 64, 3) := by decide +kernel
theorem dX0_findKeeping_69 : decode cX0_findKeeping 69 = .ok (.iconst 1, 1) := by decide +kernel
theorem dX0_findKeeping_70 : decode cX0_findKeeping 70 = .ok (.ireturn, 1) := by decide +kernel
theorem dX0_sumOfRest_0 : decode cX0_sumOfRest 0 = .ok (.iconst 0, 1) := by decide +kernel
theorem dX0_sumOfRest_1 : decode cX0_sumOfRest 1 = .ok (.istore_n 2, 1) := by decide +kernel
theorem dX0_sumOfRest_2 : decode cX0_sumOfRest 2 = .ok (.iconst 0, 1) := by decide +kernel
theorem dX0_sumOfRest_3 : decode cX0_sumOfRest 3 = .ok (.istore_n 3, 1) := by decide +kernel
theorem dX0_sumOfRest_4 : decode cX0_sumOfRest 4 = .ok (.iload_n 3, 1) := by decide +kernel
theorem dX0_sumOfRest_5 : decode cX0_sumOfRest 5 = .ok (.iload_n 1, 1) := by decide +kernel
theorem dX0_sumOfRest_6 : decode cX0_sumOfRest 6 = .ok (.if_icmp .ge 32, 3) := by decide +kernel
theorem dX0_sumOfRest_9 : decode cX0_sumOfRest 9 = .ok (.aload_n 0, 1) := by decide +kernel
theorem dX0_sumOfRest_10 : decode cX0_sumOfRest 10 = .ok (.invokevirtual 25, 3) := by decide +kernel
theorem dX0_sumOfRest_13 : decode cX0_sumOfRest 13 = .ok (.ifCond .eq 25, 3) := by decide +kernel
theorem dX0_sumOfRest_16 : decode cX0_sumOfRest 16 = .ok (.iload_n 2, 1) := by decide +kernel
theorem dX0_sumOfRest_17 : decode cX0_sumOfRest 17 = .ok (.aload_n 0, 1) := by decide +kernel
theorem dX0_sumOfRest_18 : decode cX0_sumOfRest 18 = .ok (.aload_n 0, 1) := by decide +kernel
theorem dX0_sumOfRest_19 : decode cX0_sumOfRest 19 = .ok (.invokevirtual 25, 3) := by decide +kernel
theorem dX0_sumOfRest_22 : decode cX0_sumOfRest 22 = .ok (.invokevirtual 45, 3) := by decide +kernel
theorem dX0_sumOfRest_25 : decode cX0_sumOfRest 25 = .ok (.iadd, 1) := by decide +kernel
theorem dX0_sumOfRest_26 : decode cX0_sumOfRest 26 = .ok (.istore_n 2, 1) := by decide +kernel
theorem dX0_sumOfRest_27 : decode cX0_sumOfRest 27 = .ok (.aload_n 0, 1) := by decide +kernel
theorem dX0_sumOfRest_28 : decode cX0_sumOfRest 28 = .ok (.invokevirtual 42, 3) := by decide +kernel
theorem dX0_sumOfRest_31 : decode cX0_sumOfRest 31 = .ok (.pop, 1) := by decide +kernel
theorem dX0_sumOfRest_32 : decode cX0_sumOfRest 32 = .ok (.iinc 3 1, 3) := by decide +kernel
theorem dX0_sumOfRest_35 : decode cX0_sumOfRest 35 = .ok (.goto (-31), 3) := by decide +kernel
theorem dX0_sumOfRest_38 : decode cX0_sumOfRest 38 = .ok (.iload_n 2, 1) := by decide +kernel
theorem dX0_sumOfRest_39 : decode cX0_sumOfRest 39 = .ok (.ireturn, 1) := by decide +kernel
theorem dX0_sumOfRun_0 : decode cX0_sumOfRun 0 = .ok (.iconst 0, 1) := by decide +kernel
theorem dX0_sumOfRun_1 : decode cX0_sumOfRun 1 = .ok (.istore 5, 2) := by decide +kernel
theorem dX0_sumOfRun_3 : decode cX0_sumOfRun 3 = .ok (.iconst 0, 1) := by decide +kernel
theorem dX0_sumOfRun_4 : decode cX0_sumOfRun 4 = .ok (.istore 6, 2) := by decide +kernel
theorem dX0_sumOfRun_6 : decode cX0_sumOfRun 6 = .ok (.iload 6, 2) := by decide +kernel
theorem dX0_sumOfRun_8 : decode cX0_sumOfRun 8 = .ok (.iload 4, 2) := by decide +kernel
theorem dX0_sumOfRun_10 : decode cX0_sumOfRun 10 = .ok (.if_icmp .ge 53, 3) := by decide +kernel
theorem dX0_sumOfRun_13 : decode cX0_sumOfRun 13 = .ok (.aload_n 1, 1) := by decide +kernel
theorem dX0_sumOfRun_14 : decode cX0_sumOfRun 14 = .ok (.invokevirtual 25, 3) := by decide +kernel
theorem dX0_sumOfRun_17 : decode cX0_sumOfRun 17 = .ok (.ifCond .ne 11, 3) := by decide +kernel
theorem dX0_sumOfRun_20 : decode cX0_sumOfRun 20 = .ok (.aload_n 0, 1) := by decide +kernel
theorem dX0_sumOfRun_21 : decode cX0_sumOfRun 21 = .ok (.iconst 0, 1) := by decide +kernel
theorem dX0_sumOfRun_22 : decode cX0_sumOfRun 22 = .ok (.putfield 29, 3) := by decide +kernel
theorem dX0_sumOfRun_25 : decode cX0_sumOfRun 25 = .ok (.goto 38, 3) := by decide +kernel
theorem dX0_sumOfRun_28 : decode cX0_sumOfRun 28 = .ok (.aload_n 1, 1) := by decide +kernel
theorem dX0_sumOfRun_29 : decode cX0_sumOfRun 29 = .ok (.iload_n 2, 1) := by decide +kernel
theorem dX0_sumOfRun_30 : decode cX0_sumOfRun 30 = .ok (.iload_n 3, 1) := by decide +kernel
theorem dX0_sumOfRun_31 : decode cX0_sumOfRun 31 = .ok (.invokestatic 33, 3) := by decide +kernel
theorem dX0_sumOfRun_34 : decode cX0_sumOfRun 34 = .ok (.pop, 1) := by decide +kernel
theorem dX0_sumOfRun_35 : decode cX0_sumOfRun 35 = .ok (.aload_n 0, 1) := by decide +kernel
theorem dX0_sumOfRun_36 : decode cX0_sumOfRun 36 = .ok (.aload_n 1, 1) := by decide +kernel
theorem dX0_sumOfRun_37 : decode cX0_sumOfRun 37 = .ok (.invokevirtual 39, 3) := by decide +kernel
theorem dX0_sumOfRun_40 : decode cX0_sumOfRun 40 = .ok (.putfield 29, 3) := by decide +kernel
theorem dX0_sumOfRun_43 : decode cX0_sumOfRun 43 = .ok (.iload 5, 2) := by decide +kernel
theorem dX0_sumOfRun_45 : decode cX0_sumOfRun 45 = .ok (.aload_n 0, 1) := by decide +kernel
theorem dX0_sumOfRun_46 : decode cX0_sumOfRun 46 = .ok (.getfield 29, 3) := by decide +kernel
theorem dX0_sumOfRun_49 : decode cX0_sumOfRun 49 = .ok (.iadd, 1) := by decide +kernel
theorem dX0_sumOfRun_50 : decode cX0_sumOfRun 50 = .ok (.istore 5, 2) := by decide +kernel
theorem dX0_sumOfRun_52 : decode cX0_sumOfRun 52 = .ok (.aload_n 1, 1) := by decide +kernel
theorem dX0_sumOfRun_53 : decode cX0_sumOfRun 53 = .ok (.invokevirtual 42, 3) := by decide +kernel
theorem dX0_sumOfRun_56 : decode cX0_sumOfRun 56 = .ok (.pop, 1) := by decide +kernel
theorem dX0_sumOfRun_57 : decode cX0_sumOfRun 57 = .ok (.iinc 6 1, 3) := by decide +kernel
theorem dX0_sumOfRun_60 : decode cX0_sumOfRun 60 = .ok (.goto (-54), 3) := by decide +kernel
theorem dX0_sumOfRun_63 : decode cX0_sumOfRun 63 = .ok (.iload 5, 2) := by decide +kernel
theorem dX0_sumOfRun_65 : decode cX0_sumOfRun 65 = .ok (.ireturn, 1) := by decide +kernel
theorem dX0_trialOf_0 : decode cX0_trialOf 0 = .ok (.aload_n 0, 1) := by decide +kernel
theorem dX0_trialOf_1 : decode cX0_trialOf 1 = .ok (.getfield 12, 3) := by decide +kernel
theorem dX0_trialOf_4 : decode cX0_trialOf 4 = .ok (.aload_n 1, 1) := by decide +kernel
theorem dX0_trialOf_5 : decode cX0_trialOf 5 = .ok (.invokevirtual 21, 3) := by decide +kernel
theorem dX0_trialOf_8 : decode cX0_trialOf 8 = .ok (.aload_n 0, 1) := by decide +kernel
theorem dX0_trialOf_9 : decode cX0_trialOf 9 = .ok (.getfield 12, 3) := by decide +kernel
theorem dX0_trialOf_12 : decode cX0_trialOf 12 = .ok (.areturn, 1) := by decide +kernel
theorem dX0_worthByRising_0 : decode cX0_worthByRising 0 = .ok (.aload_n 0, 1) := by decide +kernel
theorem dX0_worthByRising_1 : decode cX0_worthByRising 1 = .ok (.getfield 12, 3) := by decide +kernel
theorem dX0_worthByRising_4 : decode cX0_worthByRising 4 = .ok (.aload_n 1, 1) := by decide +kernel
theorem dX0_worthByRising_5 : decode cX0_worthByRising 5 = .ok (.invokevirtual 21, 3) := by decide +kernel
theorem dX0_worthByRising_8 : decode cX0_worthByRising 8 = .ok (.iconst 0, 1) := by decide +kernel
theorem dX0_worthByRising_9 : decode cX0_worthByRising 9 = .ok (.istore_n 3, 1) := by decide +kernel
theorem dX0_worthByRising_10 : decode cX0_worthByRising 10 = .ok (.iload_n 3, 1) := by decide +kernel
theorem dX0_worthByRising_11 : decode cX0_worthByRising 11 = .ok (.aload_n 0, 1) := by decide +kernel
theorem dX0_worthByRising_12 : decode cX0_worthByRising 12 = .ok (.getfield 12, 3) := by decide +kernel
theorem dX0_worthByRising_15 : decode cX0_worthByRising 15 = .ok (.getfield 70, 3) := by decide +kernel
theorem dX0_worthByRising_18 : decode cX0_worthByRising 18 = .ok (.if_icmp .ge 32, 3) := by decide +kernel
theorem dX0_worthByRising_21 : decode cX0_worthByRising 21 = .ok (.aload_n 0, 1) := by decide +kernel
theorem dX0_worthByRising_22 : decode cX0_worthByRising 22 = .ok (.getfield 12, 3) := by decide +kernel
theorem dX0_worthByRising_25 : decode cX0_worthByRising 25 = .ok (.getfield 73, 3) := by decide +kernel
theorem dX0_worthByRising_28 : decode cX0_worthByRising 28 = .ok (.iload_n 3, 1) := by decide +kernel
theorem dX0_worthByRising_29 : decode cX0_worthByRising 29 = .ok (.invokestatic 52, 3) := by decide +kernel
theorem dX0_worthByRising_32 : decode cX0_worthByRising 32 = .ok (.ifCond .ne 12, 3) := by decide +kernel
theorem dX0_worthByRising_35 : decode cX0_worthByRising 35 = .ok (.aload_n 0, 1) := by decide +kernel
theorem dX0_worthByRising_36 : decode cX0_worthByRising 36 = .ok (.getfield 12, 3) := by decide +kernel
theorem dX0_worthByRising_39 : decode cX0_worthByRising 39 = .ok (.iload_n 2, 1) := by decide +kernel
theorem dX0_worthByRising_40 : decode cX0_worthByRising 40 = .ok (.iload_n 3, 1) := by decide +kernel
theorem dX0_worthByRising_41 : decode cX0_worthByRising 41 = .ok (.invokevirtual 56, 3) := by decide +kernel
theorem dX0_worthByRising_44 : decode cX0_worthByRising 44 = .ok (.iinc 3 1, 3) := by decide +kernel
theorem dX0_worthByRising_47 : decode cX0_worthByRising 47 = .ok (.goto (-37), 3) := by decide +kernel
theorem dX0_worthByRising_50 : decode cX0_worthByRising 50 = .ok (.aload_n 0, 1) := by decide +kernel
theorem dX0_worthByRising_51 : decode cX0_worthByRising 51 = .ok (.getfield 12, 3) := by decide +kernel
theorem dX0_worthByRising_54 : decode cX0_worthByRising 54 = .ok (.iconst 1, 1) := by decide +kernel
theorem dX0_worthByRising_55 : decode cX0_worthByRising 55 = .ok (.iload_n 2, 1) := by decide +kernel
theorem dX0_worthByRising_56 : decode cX0_worthByRising 56 = .ok (.ishl, 1) := by decide +kernel
theorem dX0_worthByRising_57 : decode cX0_worthByRising 57 = .ok (.invokevirtual 45, 3) := by decide +kernel
theorem dX0_worthByRising_60 : decode cX0_worthByRising 60 = .ok (.ireturn, 1) := by decide +kernel
theorem dX1_isUnder_0 : decode cX1_isUnder 0 = .ok (.iload_n 1, 1) := by decide +kernel
theorem dX1_isUnder_1 : decode cX1_isUnder 1 = .ok (.tableswitch 70 0 4 #[35, 37, 70, 70, 53], 35) := by decide +kernel
theorem dX1_isUnder_36 : decode cX1_isUnder 36 = .ok (.iconst 1, 1) := by decide +kernel
theorem dX1_isUnder_37 : decode cX1_isUnder 37 = .ok (.ireturn, 1) := by decide +kernel
theorem dX1_isUnder_38 : decode cX1_isUnder 38 = .ok (.iload_n 0, 1) := by decide +kernel
theorem dX1_isUnder_39 : decode cX1_isUnder 39 = .ok (.iconst 1, 1) := by decide +kernel
theorem dX1_isUnder_40 : decode cX1_isUnder 40 = .ok (.if_icmp .lt 12, 3) := by decide +kernel
theorem dX1_isUnder_43 : decode cX1_isUnder 43 = .ok (.iload_n 0, 1) := by decide +kernel
theorem dX1_isUnder_44 : decode cX1_isUnder 44 = .ok (.iconst 3, 1) := by decide +kernel
theorem dX1_isUnder_45 : decode cX1_isUnder 45 = .ok (.if_icmp .gt 7, 3) := by decide +kernel
theorem dX1_isUnder_48 : decode cX1_isUnder 48 = .ok (.iconst 1, 1) := by decide +kernel
theorem dX1_isUnder_49 : decode cX1_isUnder 49 = .ok (.goto 4, 3) := by decide +kernel
theorem dX1_isUnder_52 : decode cX1_isUnder 52 = .ok (.iconst 0, 1) := by decide +kernel
theorem dX1_isUnder_53 : decode cX1_isUnder 53 = .ok (.ireturn, 1) := by decide +kernel
theorem dX1_isUnder_54 : decode cX1_isUnder 54 = .ok (.iload_n 0, 1) := by decide +kernel
theorem dX1_isUnder_55 : decode cX1_isUnder 55 = .ok (.iconst 4, 1) := by decide +kernel
theorem dX1_isUnder_56 : decode cX1_isUnder 56 = .ok (.if_icmp .lt 13, 3) := by decide +kernel
theorem dX1_isUnder_59 : decode cX1_isUnder 59 = .ok (.iload_n 0, 1) := by decide +kernel
theorem dX1_isUnder_60 : decode cX1_isUnder 60 = .ok (.bipush 6, 2) := by decide +kernel
theorem dX1_isUnder_62 : decode cX1_isUnder 62 = .ok (.if_icmp .gt 7, 3) := by decide +kernel
theorem dX1_isUnder_65 : decode cX1_isUnder 65 = .ok (.iconst 1, 1) := by decide +kernel
theorem dX1_isUnder_66 : decode cX1_isUnder 66 = .ok (.goto 4, 3) := by decide +kernel
theorem dX1_isUnder_69 : decode cX1_isUnder 69 = .ok (.iconst 0, 1) := by decide +kernel
theorem dX1_isUnder_70 : decode cX1_isUnder 70 = .ok (.ireturn, 1) := by decide +kernel
theorem dX1_isUnder_71 : decode cX1_isUnder 71 = .ok (.iload_n 0, 1) := by decide +kernel
theorem dX1_isUnder_72 : decode cX1_isUnder 72 = .ok (.iload_n 1, 1) := by decide +kernel
theorem dX1_isUnder_73 : decode cX1_isUnder 73 = .ok (.if_icmp .ne 7, 3) := by decide +kernel
theorem dX1_isUnder_76 : decode cX1_isUnder 76 = .ok (.iconst 1, 1) := by decide +kernel
theorem dX1_isUnder_77 : decode cX1_isUnder 77 = .ok (.goto 4, 3) := by decide +kernel
theorem dX1_isUnder_80 : decode cX1_isUnder 80 = .ok (.iconst 0, 1) := by decide +kernel
theorem dX1_isUnder_81 : decode cX1_isUnder 81 = .ok (.ireturn, 1) := by decide +kernel
set_option maxHeartbeats 4000000 in
set_option maxRecDepth 100000 in
theorem c_X1_isUnder (l : Launch) (G : va_G) (cy : Nat → ClassId) (iK : Int32) (iA : Int32)   : MR l yX1_isUnder cX1_isUnder 2 (some .boolean) 1 G cy [] [.int iK, .int iA] (vp_Si (fun r => (r = 1 ∧ zun iK iA = true) ∨ (r = 0 ∧ zun iK iA = false))) := by
  refine enR RX1 (by decide) rfl (Nat.le_of_ble_eq_true rfl) (fun p e s m below meth c ls hx hb hml hown hts hr hlocks hP hN hl => ?_)
  have hK := hN.1
  replace hl : lv_has ls 2 [(0, .int iK), (1, .int iA)] := hl
  refine lv_iload_n hx hb dX1_isUnder_0 rfl (lv_at hl 1 rfl) ?_
  rcases sw_0_4 iA with rfl | rfl | rfl | rfl | rfl | h_1
  · refine lv_tableIn (tgt := 36) (off := 35) hx hb dX1_isUnder_1 (by decide) (by decide) (by decide) (by decide) ?_
    refine lv_iconst (v := 1) hx hb dX1_isUnder_36 (by decide) ?_
    exact endR hx hb hr hlocks rfl (Or.inl (⟨rfl, by rfl⟩)) dX1_isUnder_37
  · refine lv_tableIn (tgt := 38) (off := 37) hx hb dX1_isUnder_1 (by decide) (by decide) (by decide) (by decide) ?_
    refine lv_iload_n hx hb dX1_isUnder_38 rfl (lv_at hl 0 rfl) ?_
    refine lv_iconst (v := 1) hx hb dX1_isUnder_39 (by decide) ?_
    refine lv_icmp_lt (tgt := 52) hx hb dX1_isUnder_40 (by decide) (fun c_2 => ?_) (fun c_2 => ?_)
    · refine lv_iconst (v := 0) hx hb dX1_isUnder_52 (by decide) ?_
      exact endR hx hb hr hlocks rfl (Or.inr (⟨rfl, by show (decide _ && decide _) = false; rw [decide_eq_false (Int32.not_le.mpr c_2)]; rfl⟩)) dX1_isUnder_53
    · refine lv_iload_n hx hb dX1_isUnder_43 rfl (lv_at hl 0 rfl) ?_
      refine lv_iconst (v := 3) hx hb dX1_isUnder_44 (by decide) ?_
      refine lv_icmp_gt (tgt := 52) hx hb dX1_isUnder_45 (by decide) (fun c_3 => ?_) (fun c_3 => ?_)
      · refine lv_iconst (v := 0) hx hb dX1_isUnder_52 (by decide) ?_
        exact endR hx hb hr hlocks rfl (Or.inr (⟨rfl, by show (decide _ && decide _) = false; rw [decide_eq_false (p := _ ≤ (3 : Int32)) (Int32.not_le.mpr c_3), Bool.and_false]⟩)) dX1_isUnder_53
      · refine lv_iconst (v := 1) hx hb dX1_isUnder_48 (by decide) ?_
        refine lv_goto (tgt := 53) hx hb dX1_isUnder_49 (by decide) ?_
        exact endR hx hb hr hlocks rfl (Or.inl (⟨rfl, by show (decide _ && decide _) = true; rw [decide_eq_true (Int32.not_lt.mp c_2), decide_eq_true (Int32.not_lt.mp c_3)]; rfl⟩)) dX1_isUnder_53
  · refine lv_tableIn (tgt := 71) (off := 70) hx hb dX1_isUnder_1 (by decide) (by decide) (by decide) (by decide) ?_
    refine lv_iload_n hx hb dX1_isUnder_71 rfl (lv_at hl 0 rfl) ?_
    refine lv_iload_n hx hb dX1_isUnder_72 rfl (lv_at hl 1 rfl) ?_
    refine lv_icmp_ne (tgt := 80) hx hb dX1_isUnder_73 (by decide) (fun c_4 => ?_) (fun c_4 => ?_)
    · refine lv_iconst (v := 0) hx hb dX1_isUnder_80 (by decide) ?_
      exact endR hx hb hr hlocks rfl (Or.inr (⟨rfl, by rw [show zun _ _ = decide _ from rfl]; exact decide_eq_false (by intro q; exact c_4 q)⟩)) dX1_isUnder_81
    · refine lv_iconst (v := 1) hx hb dX1_isUnder_76 (by decide) ?_
      refine lv_goto (tgt := 81) hx hb dX1_isUnder_77 (by decide) ?_
      exact endR hx hb hr hlocks rfl (Or.inl (⟨rfl, by rw [show zun _ _ = decide _ from rfl]; exact decide_eq_true (by simpa using c_4)⟩)) dX1_isUnder_81
  · refine lv_tableIn (tgt := 71) (off := 70) hx hb dX1_isUnder_1 (by decide) (by decide) (by decide) (by decide) ?_
    refine lv_iload_n hx hb dX1_isUnder_71 rfl (lv_at hl 0 rfl) ?_
    refine lv_iload_n hx hb dX1_isUnder_72 rfl (lv_at hl 1 rfl) ?_
    refine lv_icmp_ne (tgt := 80) hx hb dX1_isUnder_73 (by decide) (fun c_5 => ?_) (fun c_5 => ?_)
    · refine lv_iconst (v := 0) hx hb dX1_isUnder_80 (by decide) ?_
      exact endR hx hb hr hlocks rfl (Or.inr (⟨rfl, by rw [show zun _ _ = decide _ from rfl]; exact decide_eq_false (by intro q; exact c_5 q)⟩)) dX1_isUnder_81
    · refine lv_iconst (v := 1) hx hb dX1_isUnder_76 (by decide) ?_
      refine lv_goto (tgt := 81) hx hb dX1_isUnder_77 (by decide) ?_
      exact endR hx hb hr hlocks rfl (Or.inl (⟨rfl, by rw [show zun _ _ = decide _ from rfl]; exact decide_eq_true (by simpa using c_5)⟩)) dX1_isUnder_81
  · refine lv_tableIn (tgt := 54) (off := 53) hx hb dX1_isUnder_1 (by decide) (by decide) (by decide) (by decide) ?_
    refine lv_iload_n hx hb dX1_isUnder_54 rfl (lv_at hl 0 rfl) ?_
    refine lv_iconst (v := 4) hx hb dX1_isUnder_55 (by decide) ?_
    refine lv_icmp_lt (tgt := 69) hx hb dX1_isUnder_56 (by decide) (fun c_6 => ?_) (fun c_6 => ?_)
    · refine lv_iconst (v := 0) hx hb dX1_isUnder_69 (by decide) ?_
      exact endR hx hb hr hlocks rfl (Or.inr (⟨rfl, by show (decide _ && decide _) = false; rw [decide_eq_false (Int32.not_le.mpr c_6)]; rfl⟩)) dX1_isUnder_70
    · refine lv_iload_n hx hb dX1_isUnder_59 rfl (lv_at hl 0 rfl) ?_
      refine lv_bipush (v := 6) hx hb dX1_isUnder_60 (by decide) ?_
      refine lv_icmp_gt (tgt := 69) hx hb dX1_isUnder_62 (by decide) (fun c_7 => ?_) (fun c_7 => ?_)
      · refine lv_iconst (v := 0) hx hb dX1_isUnder_69 (by decide) ?_
        exact endR hx hb hr hlocks rfl (Or.inr (⟨rfl, by show (decide _ && decide _) = false; rw [decide_eq_false (p := _ ≤ (6 : Int32)) (Int32.not_le.mpr c_7), Bool.and_false]⟩)) dX1_isUnder_70
      · refine lv_iconst (v := 1) hx hb dX1_isUnder_65 (by decide) ?_
        refine lv_goto (tgt := 70) hx hb dX1_isUnder_66 (by decide) ?_
        exact endR hx hb hr hlocks rfl (Or.inl (⟨rfl, by show (decide _ && decide _) = true; rw [decide_eq_true (Int32.not_lt.mp c_6), decide_eq_true (Int32.not_lt.mp c_7)]; rfl⟩)) dX1_isUnder_70
  · refine lv_tableOut (tgt := 71) hx hb dX1_isUnder_1 h_1 (by decide) ?_
    refine lv_iload_n hx hb dX1_isUnder_71 rfl (lv_at hl 0 rfl) ?_
    refine lv_iload_n hx hb dX1_isUnder_72 rfl (lv_at hl 1 rfl) ?_
    refine lv_icmp_ne (tgt := 80) hx hb dX1_isUnder_73 (by decide) (fun c_8 => ?_) (fun c_8 => ?_)
    · refine lv_iconst (v := 0) hx hb dX1_isUnder_80 (by decide) ?_
      exact endR hx hb hr hlocks rfl (Or.inr (⟨rfl, by rw [un_d h_1]; exact decide_eq_false (by intro q; exact c_8 q)⟩)) dX1_isUnder_81
    · refine lv_iconst (v := 1) hx hb dX1_isUnder_76 (by decide) ?_
      refine lv_goto (tgt := 81) hx hb dX1_isUnder_77 (by decide) ?_
      exact endR hx hb hr hlocks rfl (Or.inl (⟨rfl, by rw [un_d h_1]; exact decide_eq_true (by simpa using c_8)⟩)) dX1_isUnder_81
set_option maxHeartbeats 4000000 in
set_option maxRecDepth 100000 in
theorem c_X0_trialOf (l : Launch) (G : va_G) (cy : Nat → ClassId) (sz : Nat) (qp : Nat) (qu : Nat) (vA : Value) (vB : Value) (vC : Value) (tU : TA) (quw : Nat) (qun : Nat) (qug : Nat) (qua : Nat) (qur : Nat) (qum : Nat) (qut : Nat) (qus : Nat) (qt : Nat) (tA : TA) (qtw : Nat) (qtn : Nat) (qtg : Nat) (qta : Nat) (qtr : Nat) (qtm : Nat) (qtt : Nat) (qts : Nat)   : MW l yX0_trialOf cX0_trialOf 2 (some (.object "EachBookOnce$Town")) 3 0 0 G cy [zzO qp 0 [.ref qu, vA, vB, vC], zzO qu 3 [.int (nI (T_nb tU)), .int (nI (T_np tU)), .int (wb (T_wh tU)), .int (wb (T_gn tU)), .int (T_sd tU), .ref quw, .ref qun, .ref qug, .ref qua, .ref qur, .ref qum, .ref qut, .ref qus], zzI cy quw 8 (T_wo tU), zzI cy qun 8 (T_ne tU), zzI cy qug 8 (T_go tU), zzI cy qua 8 (T_ag tU), zzI cy qur 8 (T_re tU), zzI cy qum 8 (T_me tU), zzI cy qut 8 (T_te tU), zzI cy qus 64 (shF (T_kn tU)), zzO qt 3 [.int (nI (T_nb tA)), .int (nI (T_np tA)), .int (wb (T_wh tA)), .int (wb (T_gn tA)), .int (T_sd tA), .ref qtw, .ref qtn, .ref qtg, .ref qta, .ref qtr, .ref qtm, .ref qtt, .ref qts], zzI cy qtw 8 (T_wo tA), zzI cy qtn 8 (T_ne tA), zzI cy qtg 8 (T_go tA), zzI cy qta 8 (T_ag tA), zzI cy qtr 8 (T_re tA), zzI cy qtm 8 (T_me tA), zzI cy qtt 8 (T_te tA), zzI cy qts 64 (shF (T_kn tA))] sz [.ref qp, .ref qt] (Wq G (fun r u => u = [zzO qp 0 [.ref qu, vA, vB, vC], zzO qu 3 [.int (nI (T_nb tA)), .int (nI (T_np tA)), .int (wb (T_wh tA)), .int (wb (T_gn tA)), .int (T_sd tA), .ref quw, .ref qun, .ref qug, .ref qua, .ref qur, .ref qum, .ref qut, .ref qus], zzI cy quw 8 (T_wo tA), zzI cy qun 8 (T_ne tA), zzI cy qug 8 (T_go tA), zzI cy qua 8 (T_ag tA), zzI cy qur 8 (T_re tA), zzI cy qum 8 (T_me tA), zzI cy qut 8 (T_te tA), zzI cy qus 64 (shF (T_kn tA)), zzO qt 3 [.int (nI (T_nb tA)), .int (nI (T_np tA)), .int (wb (T_wh tA)), .int (wb (T_gn tA)), .int (T_sd tA), .ref qtw, .ref qtn, .ref qtg, .ref qta, .ref qtr, .ref qtm, .ref qtt, .ref qts], zzI cy qtw 8 (T_wo tA), zzI cy qtn 8 (T_ne tA), zzI cy qtg 8 (T_go tA), zzI cy qta 8 (T_ag tA), zzI cy qtr 8 (T_re tA), zzI cy qtm 8 (T_me tA), zzI cy qtt 8 (T_te tA), zzI cy qts 64 (shF (T_kn tA))] ∧ ((r = qu)))) := by
  refine enW RX0 (by decide) rfl (Nat.le_of_ble_eq_true rfl) (fun p e s m below meth c ls A hx hb hml hown hts hr hlocks hP hN hl hin hD hA hS => ?_)
  have hin : meth.name = _ := hin
  have hK := hN.1
  replace hl : lv_has ls 2 [(0, .ref qp), (1, .ref qt)] := hl
  refine lv_aload_n hx hb dX0_trialOf_0 rfl (lv_at hl 0 rfl) ?_
  refine va_get (D := G) (ci := 0) (v := .ref qu) (C := RX0) (T := TX0) (N := 4) hx hb hts iX_X0 hown hK hP 0 rfl rfl 0 (by decide) (hts _ m_t101) (fun _ h9 => h9) rfl dX0_trialOf_1 ?_
  refine lv_aload_n hx hb dX0_trialOf_4 rfl (lv_at hl 1 rfl) ?_
  refine cVv (As := [.ref qt]) (rest := []) (b := qu) (q := (RX4, TX4, 13)) ⟨hx, hb, hml, hown, hts⟩ (c_X4_become l G cy (s.heap).size qu tU quw qun qug qua qur qum qut qus qt tA qtw qtn qtg qta qtr qtm qtt qts) L_X0_21 hN hP hD hS hA [1, 2, 3, 4, 5, 6, 7, 8, 9, 10, 11, 12, 13, 14, 15, 16, 17, 18] [true, false, false, false, false, false, false, false, false, false, false, false, false, false, false, false, false, false, false] rfl (by decide +kernel) rfl 1 3 rfl rfl rfl ⟨Nat.le_of_ble_eq_true rfl, Nat.le_of_ble_eq_true rfl⟩ hl.1 (Nat.le_of_ble_eq_true rfl) dX0_trialOf_5 ⟨Nat.le_of_ble_eq_true rfl, Nat.le_of_ble_eq_true rfl⟩ (fun u_3 H locs h_2 => ?_)
  clear hP hD hS
  intro hP hD hS
  subst h_2
  have hPD := pd_as [zzO qp 0 [.ref qu, vA, vB, vC], zzO qu 3 [.int (nI (T_nb tA)), .int (nI (T_np tA)), .int (wb (T_wh tA)), .int (wb (T_gn tA)), .int (T_sd tA), .ref quw, .ref qun, .ref qug, .ref qua, .ref qur, .ref qum, .ref qut, .ref qus], zzI cy quw 8 (T_wo tA), zzI cy qun 8 (T_ne tA), zzI cy qug 8 (T_go tA), zzI cy qua 8 (T_ag tA), zzI cy qur 8 (T_re tA), zzI cy qum 8 (T_me tA), zzI cy qut 8 (T_te tA), zzI cy qus 64 (shF (T_kn tA)), zzO qt 3 [.int (nI (T_nb tA)), .int (nI (T_np tA)), .int (wb (T_wh tA)), .int (wb (T_gn tA)), .int (T_sd tA), .ref qtw, .ref qtn, .ref qtg, .ref qta, .ref qtr, .ref qtm, .ref qtt, .ref qts], zzI cy qtw 8 (T_wo tA), zzI cy qtn 8 (T_ne tA), zzI cy qtg 8 (T_go tA), zzI cy qta 8 (T_ag tA), zzI cy qtr 8 (T_re tA), zzI cy qtm 8 (T_me tA), zzI cy qtt 8 (T_te tA), zzI cy qts 64 (shF (T_kn tA))] hP hD rfl
  clear hP hD
  obtain ⟨hP, hD⟩ := hPD
  refine lv_aload_n hx hb dX0_trialOf_8 rfl (lv_at hl 0 rfl) ?_
  refine va_get (D := G) (ci := 0) (v := .ref qu) (C := RX0) (T := TX0) (N := 4) hx hb hts iX_X0 hown hK hP 0 rfl rfl 0 (by decide) (hts _ m_t101) (fun _ h9 => h9) rfl dX0_trialOf_9 ?_
  exact endQ (u := [zzO qp 0 [.ref qu, vA, vB, vC], zzO qu 3 [.int (nI (T_nb tA)), .int (nI (T_np tA)), .int (wb (T_wh tA)), .int (wb (T_gn tA)), .int (T_sd tA), .ref quw, .ref qun, .ref qug, .ref qua, .ref qur, .ref qum, .ref qut, .ref qus], zzI cy quw 8 (T_wo tA), zzI cy qun 8 (T_ne tA), zzI cy qug 8 (T_go tA), zzI cy qua 8 (T_ag tA), zzI cy qur 8 (T_re tA), zzI cy qum 8 (T_me tA), zzI cy qut 8 (T_te tA), zzI cy qus 64 (shF (T_kn tA)), zzO qt 3 [.int (nI (T_nb tA)), .int (nI (T_np tA)), .int (wb (T_wh tA)), .int (wb (T_gn tA)), .int (T_sd tA), .ref qtw, .ref qtn, .ref qtg, .ref qta, .ref qtr, .ref qtm, .ref qtt, .ref qts], zzI cy qtw 8 (T_wo tA), zzI cy qtn 8 (T_ne tA), zzI cy qtg 8 (T_go tA), zzI cy qta 8 (T_ag tA), zzI cy qtr 8 (T_re tA), zzI cy qtm 8 (T_me tA), zzI cy qtt 8 (T_te tA), zzI cy qts 64 (shF (T_kn tA))]) hx hb hr hlocks (hP.sub [0, 1, 2, 3, 4, 5, 6, 7, 8, 9, 10, 11, 12, 13, 14, 15, 16, 17, 18] rfl) (hD.sub [0, 1, 2, 3, 4, 5, 6, 7, 8, 9, 10, 11, 12, 13, 14, 15, 16, 17, 18] (by decide +kernel) rfl) hS ⟨rfl, rfl⟩ dX0_trialOf_12
set_option maxHeartbeats 4000000 in
set_option maxRecDepth 100000 in
theorem c_X0_sumOfRun (l : Launch) (G : va_G) (cy : Nat → ClassId) (sz : Nat) (qp : Nat) (qu : Nat) (vS : Value) (iL : Int32) (iBs : Int32) (tA : TA) (quw : Nat) (qun : Nat) (qug : Nat) (qua : Nat) (qur : Nat) (qum : Nat) (qut : Nat) (qus : Nat) (iK : Int32) (iA : Int32) (kN : Nat)  (hB : T_nb tA ≤ 8) (hPp : T_np tA ≤ 8) (hN60 : kN ≤ 60) : MW l yX0_sumOfRun cX0_sumOfRun 7 (some .int) 6 0 0 G cy [zzO qp 0 [.ref qu, vS, .int iL, .int iBs], zzO qu 3 [.int (nI (T_nb tA)), .int (nI (T_np tA)), .int (wb (T_wh tA)), .int (wb (T_gn tA)), .int (T_sd tA), .ref quw, .ref qun, .ref qug, .ref qua, .ref qur, .ref qum, .ref qut, .ref qus], zzI cy quw 8 (T_wo tA), zzI cy qun 8 (T_ne tA), zzI cy qug 8 (T_go tA), zzI cy qua 8 (T_ag tA), zzI cy qur 8 (T_re tA), zzI cy qum 8 (T_me tA), zzI cy qut 8 (T_te tA), zzI cy qus 64 (shF (T_kn tA))] sz [.ref qp, .ref qu, .int iK, .int iA, .int (nI kN)] (Wi G (fun r u => u = [zzO qp 0 [.ref qu, vS, .int ((srG iK iA kN tA iL 0).2.1), .int iBs], zzO qu 3 [.int (nI (T_nb ((srG iK iA kN tA iL 0).1))), .int (nI (T_np ((srG iK iA kN tA iL 0).1))), .int (wb (T_wh ((srG iK iA kN tA iL 0).1))), .int (wb (T_gn ((srG iK iA kN tA iL 0).1))), .int (T_sd ((srG iK iA kN tA iL 0).1)), .ref quw, .ref qun, .ref qug, .ref qua, .ref qur, .ref qum, .ref qut, .ref qus], zzI cy quw 8 (T_wo ((srG iK iA kN tA iL 0).1)), zzI cy qun 8 (T_ne ((srG iK iA kN tA iL 0).1)), zzI cy qug 8 (T_go ((srG iK iA kN tA iL 0).1)), zzI cy qua 8 (T_ag ((srG iK iA kN tA iL 0).1)), zzI cy qur 8 (T_re ((srG iK iA kN tA iL 0).1)), zzI cy qum 8 (T_me ((srG iK iA kN tA iL 0).1)), zzI cy qut 8 (T_te ((srG iK iA kN tA iL 0).1)), zzI cy qus 64 (shF (T_kn ((srG iK iA kN tA iL 0).1)))] ∧ ((r = ((srG iK iA kN tA iL 0).2.2))))) := by
  refine enW RX0 (by decide) rfl (Nat.le_of_ble_eq_true rfl) (fun p e s m below meth c ls A hx hb hml hown hts hr hlocks hP hN hl hin hD hA hS => ?_)
  have hin : meth.name = _ := hin
  have hK := hN.1
  replace hl : lv_has ls 7 [(0, .ref qp), (1, .ref qu), (2, .int iK), (3, .int iA), (4, .int (nI kN))] := hl
  refine lv_iconst (v := 0) hx hb dX0_sumOfRun_0 (by decide) ?_
  refine lv_istore (lv' := [(5, .int 0), (0, .ref qp), (1, .ref qu), (2, .int iK), (3, .int iA), (4, .int (nI kN))]) hx hb dX0_sumOfRun_1 hl (by decide) rfl (fun ls => ?_)
  clear hl
  intro hl
  refine lv_iconst (v := 0) hx hb dX0_sumOfRun_3 (by decide) ?_
  refine lv_istore (lv' := [(6, .int 0), (5, .int 0), (0, .ref qp), (1, .ref qu), (2, .int iK), (3, .int iA), (4, .int (nI kN))]) hx hb dX0_sumOfRun_4 hl (by decide) rfl (fun ls => ?_)
  clear hl
  intro hl
  have lp_1 : ∀ (n_2 : Nat) (j_4 : Nat) (tJ_5 : TA) (xL_6 : Int32) (xS_7 : Int32), 60 - j_4 < n_2 → j_4 ≤ kN → srG iK iA (kN - j_4) tJ_5 xL_6 xS_7 = srG iK iA kN tA iL 0 → T_nb tJ_5 = T_nb tA ∧ T_np tJ_5 = T_np tA → ∀ (H : Heap) (locs : List Loc) (ls : Array Slot), va_P G CL [zzO qp 0 [.ref qu, vS, .int xL_6, .int iBs], zzO qu 3 [.int (nI (T_nb tJ_5)), .int (nI (T_np tJ_5)), .int (wb (T_wh tJ_5)), .int (wb (T_gn tJ_5)), .int (T_sd tJ_5), .ref quw, .ref qun, .ref qug, .ref qua, .ref qur, .ref qum, .ref qut, .ref qus], zzI cy quw 8 (T_wo tJ_5), zzI cy qun 8 (T_ne tJ_5), zzI cy qug 8 (T_go tJ_5), zzI cy qua 8 (T_ag tJ_5), zzI cy qur 8 (T_re tJ_5), zzI cy qum 8 (T_me tJ_5), zzI cy qut 8 (T_te tJ_5), zzI cy qus 64 (shF (T_kn tJ_5))] H → va_D A [zzO qp 0 [.ref qu, vS, .int xL_6, .int iBs], zzO qu 3 [.int (nI (T_nb tJ_5)), .int (nI (T_np tJ_5)), .int (wb (T_wh tJ_5)), .int (wb (T_gn tJ_5)), .int (T_sd tJ_5), .ref quw, .ref qun, .ref qug, .ref qua, .ref qur, .ref qum, .ref qut, .ref qus], zzI cy quw 8 (T_wo tJ_5), zzI cy qun 8 (T_ne tJ_5), zzI cy qug 8 (T_go tJ_5), zzI cy qua 8 (T_ag tJ_5), zzI cy qur 8 (T_re tJ_5), zzI cy qum 8 (T_me tJ_5), zzI cy qut 8 (T_te tJ_5), zzI cy qus 64 (shF (T_kn tJ_5))] → va_S A s.heap H locs → lv_has ls 7 [(6, .int (nI j_4)), (5, .int xS_7), (0, .ref qp), (1, .ref qu), (2, .int iK), (3, .int iA), (4, .int (nI kN))] → W p l e (Rm 6 0 0) s m (List.toArray (α := Value) [.ref qp, .ref qu, .int iK, .int iA, .int (nI kN)]) below meth c H locs 0 0 (MQ below ((Wi G (fun r u => u = [zzO qp 0 [.ref qu, vS, .int ((srG iK iA kN tA iL 0).2.1), .int iBs], zzO qu 3 [.int (nI (T_nb ((srG iK iA kN tA iL 0).1))), .int (nI (T_np ((srG iK iA kN tA iL 0).1))), .int (wb (T_wh ((srG iK iA kN tA iL 0).1))), .int (wb (T_gn ((srG iK iA kN tA iL 0).1))), .int (T_sd ((srG iK iA kN tA iL 0).1)), .ref quw, .ref qun, .ref qug, .ref qua, .ref qur, .ref qum, .ref qut, .ref qus], zzI cy quw 8 (T_wo ((srG iK iA kN tA iL 0).1)), zzI cy qun 8 (T_ne ((srG iK iA kN tA iL 0).1)), zzI cy qug 8 (T_go ((srG iK iA kN tA iL 0).1)), zzI cy qua 8 (T_ag ((srG iK iA kN tA iL 0).1)), zzI cy qur 8 (T_re ((srG iK iA kN tA iL 0).1)), zzI cy qum 8 (T_me ((srG iK iA kN tA iL 0).1)), zzI cy qut 8 (T_te ((srG iK iA kN tA iL 0).1)), zzI cy qus 64 (shF (T_kn ((srG iK iA kN tA iL 0).1)))] ∧ ((r = ((srG iK iA kN tA iL 0).2.2))))) A) (List.toArray (α := Value) [.ref qp, .ref qu, .int iK, .int iA, .int (nI kN)]) s 0 0 A) (F0 m 6 ls []) := by
    intro n_2
    induction n_2 with
    | zero => intro j_4 tJ_5 xL_6 xS_7 hm9; exact absurd hm9 (Nat.not_lt_zero _)
    | succ n_2 ih_3 =>
      intro j_4 tJ_5 xL_6 xS_7 hm_11 hj_8 hT_9 hn_10 H locs ls hP hD hS hl
      refine lv_iload hx hb dX0_sumOfRun_6 (lv_at hl 0 rfl) ?_
      refine lv_iload hx hb dX0_sumOfRun_8 (lv_at hl 6 rfl) ?_
      refine lv_icmp_ge (tgt := 63) hx hb dX0_sumOfRun_10 (by decide) (fun c_12 => ?_) (fun c_12 => ?_)
      · have hlt_13 : j_4 = kN := Nat.le_antisymm (by omega) (lp_ge rfl rfl (by omega) (by omega) c_12)
        have hlt_13r : srG iK iA kN tA iL 0 = (tJ_5, xL_6, xS_7) := by rw [← hT_9, hlt_13, Nat.sub_self]; rfl
        refine lv_iload hx hb dX0_sumOfRun_63 (lv_at hl 1 rfl) ?_
        exact endW (u := [zzO qp 0 [.ref qu, vS, .int xL_6, .int iBs], zzO qu 3 [.int (nI (T_nb tJ_5)), .int (nI (T_np tJ_5)), .int (wb (T_wh tJ_5)), .int (wb (T_gn tJ_5)), .int (T_sd tJ_5), .ref quw, .ref qun, .ref qug, .ref qua, .ref qur, .ref qum, .ref qut, .ref qus], zzI cy quw 8 (T_wo tJ_5), zzI cy qun 8 (T_ne tJ_5), zzI cy qug 8 (T_go tJ_5), zzI cy qua 8 (T_ag tJ_5), zzI cy qur 8 (T_re tJ_5), zzI cy qum 8 (T_me tJ_5), zzI cy qut 8 (T_te tJ_5), zzI cy qus 64 (shF (T_kn tJ_5))]) hx hb hr hlocks rfl (hP.sub [0, 1, 2, 3, 4, 5, 6, 7, 8, 9] rfl) (hD.sub [0, 1, 2, 3, 4, 5, 6, 7, 8, 9] (by decide +kernel) rfl) hS ⟨by rw [hlt_13r], (by rw [hlt_13r])⟩ dX0_sumOfRun_65
      · have hlt_14 : j_4 < kN := lp_lt rfl rfl (by omega) (by omega) c_12
        obtain ⟨hlt_14b, hlt_14p⟩ := id hn_10
        refine lv_aload_n hx hb dX0_sumOfRun_13 rfl (lv_at hl 3 rfl) ?_
        refine kRi (rV (As := []) (rest := []) (b := qu) ⟨hx, hb, hml, hown, hts⟩ (c_X4_setThere l G cy qu tJ_5 quw qun qug qua qur qum qut qus (by first | omega | (simp only [nb_sr, np_sr, nb_wr, np_wr, nb_rd, np_rd, nb_ch, np_ch, nb_zr, np_zr, nb_za, np_za, nb_ey, np_ey, nb_hf, np_hf, nb_dd, np_dd, nb_so, np_so, nb_skn, np_skn, nb_swh, np_swh, nb_sgn, np_sgn, nb_ssd, np_ssd, nb_sgo, np_sgo, nb_sag, np_sag]; omega))) L_X0_25 (preRV (q := (RX4, TX4, 13)) hN hP [1] rfl 1 3 rfl rfl) rfl ⟨Nat.le_of_ble_eq_true rfl, Nat.le_of_ble_eq_true rfl⟩ hl.1 (Nat.le_of_ble_eq_true rfl) dX0_sumOfRun_14 ⟨Nat.le_of_ble_eq_true rfl, Nat.le_of_ble_eq_true rfl⟩) (fun r_15 h_16 => ?_)
        subst h_16
        refine lv_if_ne (tgt := 28) hx hb dX0_sumOfRun_17 (by decide) (fun c_17 => ?_) (fun c_17 => ?_)
        · refine lv_aload_n hx hb dX0_sumOfRun_28 rfl (lv_at hl 3 rfl) ?_
          refine lv_iload_n hx hb dX0_sumOfRun_29 rfl (lv_at hl 4 rfl) ?_
          refine lv_iload_n hx hb dX0_sumOfRun_30 rfl (lv_at hl 5 rfl) ?_
          refine cSi (As := [.ref qu, .int iK, .int iA]) (rest := []) ⟨hx, hb, hml, hown, hts⟩ (c_X1_act l G cy (H).size qu tJ_5 quw qun qug qua qur qum qut qus iK iA (by first | omega | (simp only [nb_sr, np_sr, nb_wr, np_wr, nb_rd, np_rd, nb_ch, np_ch, nb_zr, np_zr, nb_za, np_za, nb_ey, np_ey, nb_hf, np_hf, nb_dd, np_dd, nb_so, np_so, nb_skn, np_skn, nb_swh, np_swh, nb_sgn, np_sgn, nb_ssd, np_ssd, nb_sgo, np_sgo, nb_sag, np_sag]; omega)) (by first | omega | (simp only [nb_sr, np_sr, nb_wr, np_wr, nb_rd, np_rd, nb_ch, np_ch, nb_zr, np_zr, nb_za, np_za, nb_ey, np_ey, nb_hf, np_hf, nb_dd, np_dd, nb_so, np_so, nb_skn, np_skn, nb_swh, np_swh, nb_sgn, np_sgn, nb_ssd, np_ssd, nb_sgo, np_sgo, nb_sag, np_sag]; omega))) L_X0_33 hN hP hD hS hA [1, 2, 3, 4, 5, 6, 7, 8, 9] [true, false, false, false, false, false, false, false, false, false] rfl (by decide +kernel) rfl rfl ⟨Nat.le_of_ble_eq_true rfl, Nat.le_of_ble_eq_true rfl⟩ hl.1 (Nat.le_of_ble_eq_true rfl) dX0_sumOfRun_31 ⟨Nat.le_of_ble_eq_true rfl, Nat.le_of_ble_eq_true rfl⟩ (fun r_18 u_20 H locs h_19 => ?_)
          clear hP hD hS
          intro hP hD hS
          obtain ⟨rfl, h_19⟩ := h_19
          have hPD := pd_as [zzO qp 0 [.ref qu, vS, .int xL_6, .int iBs], zzO qu 3 [.int (nI (T_nb ((zact tJ_5 iK iA).1))), .int (nI (T_np ((zact tJ_5 iK iA).1))), .int (wb (T_wh ((zact tJ_5 iK iA).1))), .int (wb (T_gn ((zact tJ_5 iK iA).1))), .int (T_sd ((zact tJ_5 iK iA).1)), .ref quw, .ref qun, .ref qug, .ref qua, .ref qur, .ref qum, .ref qut, .ref qus], zzI cy quw 8 (T_wo ((zact tJ_5 iK iA).1)), zzI cy qun 8 (T_ne ((zact tJ_5 iK iA).1)), zzI cy qug 8 (T_go ((zact tJ_5 iK iA).1)), zzI cy qua 8 (T_ag ((zact tJ_5 iK iA).1)), zzI cy qur 8 (T_re ((zact tJ_5 iK iA).1)), zzI cy qum 8 (T_me ((zact tJ_5 iK iA).1)), zzI cy qut 8 (T_te ((zact tJ_5 iK iA).1)), zzI cy qus 64 (shF (T_kn ((zact tJ_5 iK iA).1)))] hP hD rfl
          clear hP hD
          obtain ⟨hP, hD⟩ := hPD
          subst h_19
          refine lv_pop hx hb dX0_sumOfRun_34 rfl ?_
          refine lv_aload_n hx hb dX0_sumOfRun_35 rfl (lv_at hl 2 rfl) ?_
          refine lv_aload_n hx hb dX0_sumOfRun_36 rfl (lv_at hl 3 rfl) ?_
          refine kRi (rV (As := []) (rest := [.ref qp]) (b := qu) ⟨hx, hb, hml, hown, hts⟩ (c_X4_worthNow l G cy qu ((zact tJ_5 iK iA).1) quw qun qug qua qur qum qut qus (by first | omega | (simp only [nb_sr, np_sr, nb_wr, np_wr, nb_rd, np_rd, nb_ch, np_ch, nb_zr, np_zr, nb_za, np_za, nb_ey, np_ey, nb_hf, np_hf, nb_dd, np_dd, nb_so, np_so, nb_skn, np_skn, nb_swh, np_swh, nb_sgn, np_sgn, nb_ssd, np_ssd, nb_sgo, np_sgo, nb_sag, np_sag]; omega)) (by first | omega | (simp only [nb_sr, np_sr, nb_wr, np_wr, nb_rd, np_rd, nb_ch, np_ch, nb_zr, np_zr, nb_za, np_za, nb_ey, np_ey, nb_hf, np_hf, nb_dd, np_dd, nb_so, np_so, nb_skn, np_skn, nb_swh, np_swh, nb_sgn, np_sgn, nb_ssd, np_ssd, nb_sgo, np_sgo, nb_sag, np_sag]; omega))) L_X0_39 (preRV (q := (RX4, TX4, 13)) hN hP [1, 2, 9] rfl 1 3 rfl rfl) rfl ⟨Nat.le_of_ble_eq_true rfl, Nat.le_of_ble_eq_true rfl⟩ hl.1 (Nat.le_of_ble_eq_true rfl) dX0_sumOfRun_37 ⟨Nat.le_of_ble_eq_true rfl, Nat.le_of_ble_eq_true rfl⟩) (fun r_21 h_22 => ?_)
          subst h_22
          refine va_put (D := G) (ci := 0) (v := .int (zval ((zact tJ_5 iK iA).1))) (ty := .int) (C := RX0) (T := TX0) (N := 4) hx hb hts iX_X0 tyX0 tyX0_ok nmX0 hown hK hP hD hS 0 rfl rfl 2 (by decide) (hts _ m_t104) (fun _ h9 => h9) rfl (by decide +kernel) rfl rfl (Nat.le_of_ble_eq_true rfl) dX0_sumOfRun_40 (fun H locs => ?_)
          clear hP hD hS
          intro hP hD hS
          have hPD := pd_as [zzO qp 0 [.ref qu, vS, .int (zval ((zact tJ_5 iK iA).1)), .int iBs], zzO qu 3 [.int (nI (T_nb ((zact tJ_5 iK iA).1))), .int (nI (T_np ((zact tJ_5 iK iA).1))), .int (wb (T_wh ((zact tJ_5 iK iA).1))), .int (wb (T_gn ((zact tJ_5 iK iA).1))), .int (T_sd ((zact tJ_5 iK iA).1)), .ref quw, .ref qun, .ref qug, .ref qua, .ref qur, .ref qum, .ref qut, .ref qus], zzI cy quw 8 (T_wo ((zact tJ_5 iK iA).1)), zzI cy qun 8 (T_ne ((zact tJ_5 iK iA).1)), zzI cy qug 8 (T_go ((zact tJ_5 iK iA).1)), zzI cy qua 8 (T_ag ((zact tJ_5 iK iA).1)), zzI cy qur 8 (T_re ((zact tJ_5 iK iA).1)), zzI cy qum 8 (T_me ((zact tJ_5 iK iA).1)), zzI cy qut 8 (T_te ((zact tJ_5 iK iA).1)), zzI cy qus 64 (shF (T_kn ((zact tJ_5 iK iA).1)))] hP hD rfl
          clear hP hD
          obtain ⟨hP, hD⟩ := hPD
          refine lv_iload hx hb dX0_sumOfRun_43 (lv_at hl 1 rfl) ?_
          refine lv_aload_n hx hb dX0_sumOfRun_45 rfl (lv_at hl 2 rfl) ?_
          refine va_get (D := G) (ci := 0) (v := .int (zval ((zact tJ_5 iK iA).1))) (C := RX0) (T := TX0) (N := 4) hx hb hts iX_X0 hown hK hP 0 rfl rfl 2 (by decide) (hts _ m_t104) (fun _ h9 => h9) rfl dX0_sumOfRun_46 ?_
          refine lv_iadd hx hb dX0_sumOfRun_49 ?_
          refine lv_istore (lv' := [(5, .int (xS_7 + (zval ((zact tJ_5 iK iA).1)))), (6, .int (nI j_4)), (0, .ref qp), (1, .ref qu), (2, .int iK), (3, .int iA), (4, .int (nI kN))]) hx hb dX0_sumOfRun_50 hl (by decide) rfl (fun ls => ?_)
          clear hl
          intro hl
          refine lv_aload_n hx hb dX0_sumOfRun_52 rfl (lv_at hl 3 rfl) ?_
          refine cVi (As := []) (rest := []) (b := qu) (q := (RX4, TX4, 13)) ⟨hx, hb, hml, hown, hts⟩ (c_X4_endYear l G cy (H).size qu ((zact tJ_5 iK iA).1) quw qun qug qua qur qum qut qus (by first | omega | (simp only [nb_sr, np_sr, nb_wr, np_wr, nb_rd, np_rd, nb_ch, np_ch, nb_zr, np_zr, nb_za, np_za, nb_ey, np_ey, nb_hf, np_hf, nb_dd, np_dd, nb_so, np_so, nb_skn, np_skn, nb_swh, np_swh, nb_sgn, np_sgn, nb_ssd, np_ssd, nb_sgo, np_sgo, nb_sag, np_sag]; omega)) (by first | omega | (simp only [nb_sr, np_sr, nb_wr, np_wr, nb_rd, np_rd, nb_ch, np_ch, nb_zr, np_zr, nb_za, np_za, nb_ey, np_ey, nb_hf, np_hf, nb_dd, np_dd, nb_so, np_so, nb_skn, np_skn, nb_swh, np_swh, nb_sgn, np_sgn, nb_ssd, np_ssd, nb_sgo, np_sgo, nb_sag, np_sag]; omega))) L_X0_42 hN hP hD hS hA [1, 2, 3, 4, 5, 6, 7, 8, 9] [true, false, false, false, false, false, false, false, false, false] rfl (by decide +kernel) rfl 1 3 rfl rfl rfl ⟨Nat.le_of_ble_eq_true rfl, Nat.le_of_ble_eq_true rfl⟩ hl.1 (Nat.le_of_ble_eq_true rfl) dX0_sumOfRun_53 ⟨Nat.le_of_ble_eq_true rfl, Nat.le_of_ble_eq_true rfl⟩ (fun r_23 u_25 H locs h_24 => ?_)
          clear hP hD hS
          intro hP hD hS
          obtain ⟨rfl, h_24⟩ := h_24
          have hPD := pd_as [zzO qp 0 [.ref qu, vS, .int (zval ((zact tJ_5 iK iA).1)), .int iBs], zzO qu 3 [.int (nI (T_nb (zey ((zact tJ_5 iK iA).1)))), .int (nI (T_np (zey ((zact tJ_5 iK iA).1)))), .int (wb (T_wh (zey ((zact tJ_5 iK iA).1)))), .int (wb (T_gn (zey ((zact tJ_5 iK iA).1)))), .int (T_sd (zey ((zact tJ_5 iK iA).1))), .ref quw, .ref qun, .ref qug, .ref qua, .ref qur, .ref qum, .ref qut, .ref qus], zzI cy quw 8 (T_wo (zey ((zact tJ_5 iK iA).1))), zzI cy qun 8 (T_ne (zey ((zact tJ_5 iK iA).1))), zzI cy qug 8 (T_go (zey ((zact tJ_5 iK iA).1))), zzI cy qua 8 (T_ag (zey ((zact tJ_5 iK iA).1))), zzI cy qur 8 (T_re (zey ((zact tJ_5 iK iA).1))), zzI cy qum 8 (T_me (zey ((zact tJ_5 iK iA).1))), zzI cy qut 8 (T_te (zey ((zact tJ_5 iK iA).1))), zzI cy qus 64 (shF (T_kn (zey ((zact tJ_5 iK iA).1))))] hP hD rfl
          clear hP hD
          obtain ⟨hP, hD⟩ := hPD
          subst h_24
          refine lv_pop hx hb dX0_sumOfRun_56 rfl ?_
          refine lv_iinc (v := nI (j_4 + 1)) (lv' := [(6, .int (nI (j_4 + 1))), (5, .int (xS_7 + (zval ((zact tJ_5 iK iA).1)))), (0, .ref qp), (1, .ref qu), (2, .int iK), (3, .int iA), (4, .int (nI kN))]) hx hb dX0_sumOfRun_57 hl (k := 1) rfl (nI_1 _) (by decide) rfl (fun ls => ?_)
          clear hl
          intro hl
          refine lv_goto (tgt := 6) hx hb dX0_sumOfRun_60 (by decide) ?_
          exact ih_3 (j_4 + 1) (zey ((zact tJ_5 iK iA).1)) (zval ((zact tJ_5 iK iA).1)) (xS_7 + (zval ((zact tJ_5 iK iA).1))) (by omega) (by omega) (by rw [← hT_9, show kN - j_4 = kN - (j_4 + 1) + 1 by omega, sr_go c_17]) (⟨(zey_nb _).1.trans ((zact_nb _ _ _).1.trans hn_10.1), (zey_nb _).2.trans ((zact_nb _ _ _).2.trans hn_10.2)⟩) _ _ _ hP hD hS (lv_sub hl [0, 1, 2, 3, 4, 5, 6] rfl)
        · have hz_26 : srG iK iA kN tA iL 0 = (tJ_5, 0, xS_7) := by rw [← hT_9, show kN - j_4 = kN - (j_4 + 1) + 1 by omega, sr_0 c_17]
          refine lv_aload_n hx hb dX0_sumOfRun_20 rfl (lv_at hl 2 rfl) ?_
          refine lv_iconst (v := 0) hx hb dX0_sumOfRun_21 (by decide) ?_
          refine va_put (D := G) (ci := 0) (v := .int 0) (ty := .int) (C := RX0) (T := TX0) (N := 4) hx hb hts iX_X0 tyX0 tyX0_ok nmX0 hown hK hP hD hS 0 rfl rfl 2 (by decide) (hts _ m_t104) (fun _ h9 => h9) rfl (by decide +kernel) rfl rfl (Nat.le_of_ble_eq_true rfl) dX0_sumOfRun_22 (fun H locs => ?_)
          clear hP hD hS
          intro hP hD hS
          have hPD := pd_as [zzO qp 0 [.ref qu, vS, .int 0, .int iBs], zzO qu 3 [.int (nI (T_nb tJ_5)), .int (nI (T_np tJ_5)), .int (wb (T_wh tJ_5)), .int (wb (T_gn tJ_5)), .int (T_sd tJ_5), .ref quw, .ref qun, .ref qug, .ref qua, .ref qur, .ref qum, .ref qut, .ref qus], zzI cy quw 8 (T_wo tJ_5), zzI cy qun 8 (T_ne tJ_5), zzI cy qug 8 (T_go tJ_5), zzI cy qua 8 (T_ag tJ_5), zzI cy qur 8 (T_re tJ_5), zzI cy qum 8 (T_me tJ_5), zzI cy qut 8 (T_te tJ_5), zzI cy qus 64 (shF (T_kn tJ_5))] hP hD rfl
          clear hP hD
          obtain ⟨hP, hD⟩ := hPD
          refine lv_goto (tgt := 63) hx hb dX0_sumOfRun_25 (by decide) ?_
          refine lv_iload hx hb dX0_sumOfRun_63 (lv_at hl 1 rfl) ?_
          exact endW (u := [zzO qp 0 [.ref qu, vS, .int 0, .int iBs], zzO qu 3 [.int (nI (T_nb tJ_5)), .int (nI (T_np tJ_5)), .int (wb (T_wh tJ_5)), .int (wb (T_gn tJ_5)), .int (T_sd tJ_5), .ref quw, .ref qun, .ref qug, .ref qua, .ref qur, .ref qum, .ref qut, .ref qus], zzI cy quw 8 (T_wo tJ_5), zzI cy qun 8 (T_ne tJ_5), zzI cy qug 8 (T_go tJ_5), zzI cy qua 8 (T_ag tJ_5), zzI cy qur 8 (T_re tJ_5), zzI cy qum 8 (T_me tJ_5), zzI cy qut 8 (T_te tJ_5), zzI cy qus 64 (shF (T_kn tJ_5))]) hx hb hr hlocks rfl (hP.sub [0, 1, 2, 3, 4, 5, 6, 7, 8, 9] rfl) (hD.sub [0, 1, 2, 3, 4, 5, 6, 7, 8, 9] (by decide +kernel) rfl) hS ⟨by rw [hz_26], (by rw [hz_26])⟩ dX0_sumOfRun_65
  exact lp_1 ((60 - 0) + 1) 0 tA iL 0 (Nat.lt_succ_self _) (Nat.zero_le _) rfl (⟨rfl, rfl⟩) _ _ ls hP hD hS (lv_sub hl [0, 1, 2, 3, 4, 5, 6] rfl)
set_option maxHeartbeats 4000000 in
set_option maxRecDepth 100000 in
theorem c_X0_sumOfRest (l : Launch) (G : va_G) (cy : Nat → ClassId) (sz : Nat) (qu : Nat) (tA : TA) (quw : Nat) (qun : Nat) (qug : Nat) (qua : Nat) (qur : Nat) (qum : Nat) (qut : Nat) (qus : Nat) (kN : Nat)  (hB : T_nb tA ≤ 8) (hPp : T_np tA ≤ 8) (hN60 : kN ≤ 60) : MW l yX0_sumOfRest cX0_sumOfRest 4 (some .int) 6 0 0 G cy [zzO qu 3 [.int (nI (T_nb tA)), .int (nI (T_np tA)), .int (wb (T_wh tA)), .int (wb (T_gn tA)), .int (T_sd tA), .ref quw, .ref qun, .ref qug, .ref qua, .ref qur, .ref qum, .ref qut, .ref qus], zzI cy quw 8 (T_wo tA), zzI cy qun 8 (T_ne tA), zzI cy qug 8 (T_go tA), zzI cy qua 8 (T_ag tA), zzI cy qur 8 (T_re tA), zzI cy qum 8 (T_me tA), zzI cy qut 8 (T_te tA), zzI cy qus 64 (shF (T_kn tA))] sz [.ref qu, .int (nI kN)] (Wi G (fun r u => u = [zzO qu 3 [.int (nI (T_nb ((soG kN tA 0).1))), .int (nI (T_np ((soG kN tA 0).1))), .int (wb (T_wh ((soG kN tA 0).1))), .int (wb (T_gn ((soG kN tA 0).1))), .int (T_sd ((soG kN tA 0).1)), .ref quw, .ref qun, .ref qug, .ref qua, .ref qur, .ref qum, .ref qut, .ref qus], zzI cy quw 8 (T_wo ((soG kN tA 0).1)), zzI cy qun 8 (T_ne ((soG kN tA 0).1)), zzI cy qug 8 (T_go ((soG kN tA 0).1)), zzI cy qua 8 (T_ag ((soG kN tA 0).1)), zzI cy qur 8 (T_re ((soG kN tA 0).1)), zzI cy qum 8 (T_me ((soG kN tA 0).1)), zzI cy qut 8 (T_te ((soG kN tA 0).1)), zzI cy qus 64 (shF (T_kn ((soG kN tA 0).1)))] ∧ ((r = ((soG kN tA 0).2))))) := by
  refine enW RX0 (by decide) rfl (Nat.le_of_ble_eq_true rfl) (fun p e s m below meth c ls A hx hb hml hown hts hr hlocks hP hN hl hin hD hA hS => ?_)
  have hin : meth.name = _ := hin
  have hK := hN.1
  replace hl : lv_has ls 4 [(0, .ref qu), (1, .int (nI kN))] := hl
  refine lv_iconst (v := 0) hx hb dX0_sumOfRest_0 (by decide) ?_
  refine lv_istore_n (lv' := [(2, .int 0), (0, .ref qu), (1, .int (nI kN))]) hx hb dX0_sumOfRest_1 rfl hl (by decide) rfl (fun ls => ?_)
  clear hl
  intro hl
  refine lv_iconst (v := 0) hx hb dX0_sumOfRest_2 (by decide) ?_
  refine lv_istore_n (lv' := [(3, .int 0), (2, .int 0), (0, .ref qu), (1, .int (nI kN))]) hx hb dX0_sumOfRest_3 rfl hl (by decide) rfl (fun ls => ?_)
  clear hl
  intro hl
  have lp_1 : ∀ (n_2 : Nat) (j_4 : Nat) (tJ_5 : TA) (xS_6 : Int32), 60 - j_4 < n_2 → j_4 ≤ kN → soG (kN - j_4) tJ_5 xS_6 = soG kN tA 0 → T_nb tJ_5 = T_nb tA ∧ T_np tJ_5 = T_np tA → ∀ (H : Heap) (locs : List Loc) (ls : Array Slot), va_P G CL [zzO qu 3 [.int (nI (T_nb tJ_5)), .int (nI (T_np tJ_5)), .int (wb (T_wh tJ_5)), .int (wb (T_gn tJ_5)), .int (T_sd tJ_5), .ref quw, .ref qun, .ref qug, .ref qua, .ref qur, .ref qum, .ref qut, .ref qus], zzI cy quw 8 (T_wo tJ_5), zzI cy qun 8 (T_ne tJ_5), zzI cy qug 8 (T_go tJ_5), zzI cy qua 8 (T_ag tJ_5), zzI cy qur 8 (T_re tJ_5), zzI cy qum 8 (T_me tJ_5), zzI cy qut 8 (T_te tJ_5), zzI cy qus 64 (shF (T_kn tJ_5))] H → va_D A [zzO qu 3 [.int (nI (T_nb tJ_5)), .int (nI (T_np tJ_5)), .int (wb (T_wh tJ_5)), .int (wb (T_gn tJ_5)), .int (T_sd tJ_5), .ref quw, .ref qun, .ref qug, .ref qua, .ref qur, .ref qum, .ref qut, .ref qus], zzI cy quw 8 (T_wo tJ_5), zzI cy qun 8 (T_ne tJ_5), zzI cy qug 8 (T_go tJ_5), zzI cy qua 8 (T_ag tJ_5), zzI cy qur 8 (T_re tJ_5), zzI cy qum 8 (T_me tJ_5), zzI cy qut 8 (T_te tJ_5), zzI cy qus 64 (shF (T_kn tJ_5))] → va_S A s.heap H locs → lv_has ls 4 [(3, .int (nI j_4)), (2, .int xS_6), (0, .ref qu), (1, .int (nI kN))] → W p l e (Rm 6 0 0) s m (List.toArray (α := Value) [.ref qu, .int (nI kN)]) below meth c H locs 0 0 (MQ below ((Wi G (fun r u => u = [zzO qu 3 [.int (nI (T_nb ((soG kN tA 0).1))), .int (nI (T_np ((soG kN tA 0).1))), .int (wb (T_wh ((soG kN tA 0).1))), .int (wb (T_gn ((soG kN tA 0).1))), .int (T_sd ((soG kN tA 0).1)), .ref quw, .ref qun, .ref qug, .ref qua, .ref qur, .ref qum, .ref qut, .ref qus], zzI cy quw 8 (T_wo ((soG kN tA 0).1)), zzI cy qun 8 (T_ne ((soG kN tA 0).1)), zzI cy qug 8 (T_go ((soG kN tA 0).1)), zzI cy qua 8 (T_ag ((soG kN tA 0).1)), zzI cy qur 8 (T_re ((soG kN tA 0).1)), zzI cy qum 8 (T_me ((soG kN tA 0).1)), zzI cy qut 8 (T_te ((soG kN tA 0).1)), zzI cy qus 64 (shF (T_kn ((soG kN tA 0).1)))] ∧ ((r = ((soG kN tA 0).2))))) A) (List.toArray (α := Value) [.ref qu, .int (nI kN)]) s 0 0 A) (F0 m 4 ls []) := by
    intro n_2
    induction n_2 with
    | zero => intro j_4 tJ_5 xS_6 hm9; exact absurd hm9 (Nat.not_lt_zero _)
    | succ n_2 ih_3 =>
      intro j_4 tJ_5 xS_6 hm_10 hj_7 hT_8 hn_9 H locs ls hP hD hS hl
      refine lv_iload_n hx hb dX0_sumOfRest_4 rfl (lv_at hl 0 rfl) ?_
      refine lv_iload_n hx hb dX0_sumOfRest_5 rfl (lv_at hl 3 rfl) ?_
      refine lv_icmp_ge (tgt := 38) hx hb dX0_sumOfRest_6 (by decide) (fun c_11 => ?_) (fun c_11 => ?_)
      · have hlt_12 : j_4 = kN := Nat.le_antisymm (by omega) (lp_ge rfl rfl (by omega) (by omega) c_11)
        have hlt_12r : soG kN tA 0 = (tJ_5, xS_6) := by rw [← hT_8, hlt_12, Nat.sub_self]; rfl
        refine lv_iload_n hx hb dX0_sumOfRest_38 rfl (lv_at hl 1 rfl) ?_
        exact endW (u := [zzO qu 3 [.int (nI (T_nb tJ_5)), .int (nI (T_np tJ_5)), .int (wb (T_wh tJ_5)), .int (wb (T_gn tJ_5)), .int (T_sd tJ_5), .ref quw, .ref qun, .ref qug, .ref qua, .ref qur, .ref qum, .ref qut, .ref qus], zzI cy quw 8 (T_wo tJ_5), zzI cy qun 8 (T_ne tJ_5), zzI cy qug 8 (T_go tJ_5), zzI cy qua 8 (T_ag tJ_5), zzI cy qur 8 (T_re tJ_5), zzI cy qum 8 (T_me tJ_5), zzI cy qut 8 (T_te tJ_5), zzI cy qus 64 (shF (T_kn tJ_5))]) hx hb hr hlocks rfl (hP.sub [0, 1, 2, 3, 4, 5, 6, 7, 8] rfl) (hD.sub [0, 1, 2, 3, 4, 5, 6, 7, 8] (by decide +kernel) rfl) hS ⟨by rw [hlt_12r], (by rw [hlt_12r])⟩ dX0_sumOfRest_39
      · have hlt_13 : j_4 < kN := lp_lt rfl rfl (by omega) (by omega) c_11
        obtain ⟨hlt_13b, hlt_13p⟩ := id hn_9
        refine lv_aload_n hx hb dX0_sumOfRest_9 rfl (lv_at hl 2 rfl) ?_
        refine kRi (rV (As := []) (rest := []) (b := qu) ⟨hx, hb, hml, hown, hts⟩ (c_X4_setThere l G cy qu tJ_5 quw qun qug qua qur qum qut qus (by first | omega | (simp only [nb_sr, np_sr, nb_wr, np_wr, nb_rd, np_rd, nb_ch, np_ch, nb_zr, np_zr, nb_za, np_za, nb_ey, np_ey, nb_hf, np_hf, nb_dd, np_dd, nb_so, np_so, nb_skn, np_skn, nb_swh, np_swh, nb_sgn, np_sgn, nb_ssd, np_ssd, nb_sgo, np_sgo, nb_sag, np_sag]; omega))) L_X0_25 (preRV (q := (RX4, TX4, 13)) hN hP [0] rfl 0 3 rfl rfl) rfl ⟨Nat.le_of_ble_eq_true rfl, Nat.le_of_ble_eq_true rfl⟩ hl.1 (Nat.le_of_ble_eq_true rfl) dX0_sumOfRest_10 ⟨Nat.le_of_ble_eq_true rfl, Nat.le_of_ble_eq_true rfl⟩) (fun r_14 h_15 => ?_)
        subst h_15
        refine lv_if_eq (tgt := 38) hx hb dX0_sumOfRest_13 (by decide) (fun c_16 => ?_) (fun c_16 => ?_)
        · have hz_17 : soG kN tA 0 = (tJ_5, xS_6) := by rw [← hT_8, so_0 c_16]
          refine lv_iload_n hx hb dX0_sumOfRest_38 rfl (lv_at hl 1 rfl) ?_
          exact endW (u := [zzO qu 3 [.int (nI (T_nb tJ_5)), .int (nI (T_np tJ_5)), .int (wb (T_wh tJ_5)), .int (wb (T_gn tJ_5)), .int (T_sd tJ_5), .ref quw, .ref qun, .ref qug, .ref qua, .ref qur, .ref qum, .ref qut, .ref qus], zzI cy quw 8 (T_wo tJ_5), zzI cy qun 8 (T_ne tJ_5), zzI cy qug 8 (T_go tJ_5), zzI cy qua 8 (T_ag tJ_5), zzI cy qur 8 (T_re tJ_5), zzI cy qum 8 (T_me tJ_5), zzI cy qut 8 (T_te tJ_5), zzI cy qus 64 (shF (T_kn tJ_5))]) hx hb hr hlocks rfl (hP.sub [0, 1, 2, 3, 4, 5, 6, 7, 8] rfl) (hD.sub [0, 1, 2, 3, 4, 5, 6, 7, 8] (by decide +kernel) rfl) hS ⟨by rw [hz_17], (by rw [hz_17])⟩ dX0_sumOfRest_39
        · refine lv_iload_n hx hb dX0_sumOfRest_16 rfl (lv_at hl 1 rfl) ?_
          refine lv_aload_n hx hb dX0_sumOfRest_17 rfl (lv_at hl 2 rfl) ?_
          refine lv_aload_n hx hb dX0_sumOfRest_18 rfl (lv_at hl 2 rfl) ?_
          refine kRi (rV (As := []) (rest := [.ref qu, .int xS_6]) (b := qu) ⟨hx, hb, hml, hown, hts⟩ (c_X4_setThere l G cy qu tJ_5 quw qun qug qua qur qum qut qus (by first | omega | (simp only [nb_sr, np_sr, nb_wr, np_wr, nb_rd, np_rd, nb_ch, np_ch, nb_zr, np_zr, nb_za, np_za, nb_ey, np_ey, nb_hf, np_hf, nb_dd, np_dd, nb_so, np_so, nb_skn, np_skn, nb_swh, np_swh, nb_sgn, np_sgn, nb_ssd, np_ssd, nb_sgo, np_sgo, nb_sag, np_sag]; omega))) L_X0_25 (preRV (q := (RX4, TX4, 13)) hN hP [0] rfl 0 3 rfl rfl) rfl ⟨Nat.le_of_ble_eq_true rfl, Nat.le_of_ble_eq_true rfl⟩ hl.1 (Nat.le_of_ble_eq_true rfl) dX0_sumOfRest_19 ⟨Nat.le_of_ble_eq_true rfl, Nat.le_of_ble_eq_true rfl⟩) (fun r_18 h_19 => ?_)
          subst h_19
          refine kRi (rV (As := [.int (zthere tJ_5)]) (rest := [.int xS_6]) (b := qu) ⟨hx, hb, hml, hown, hts⟩ (c_X4_worthAmong l G cy qu tJ_5 quw qun qug qua qur qum qut qus (zthere tJ_5) (by first | omega | (simp only [nb_sr, np_sr, nb_wr, np_wr, nb_rd, np_rd, nb_ch, np_ch, nb_zr, np_zr, nb_za, np_za, nb_ey, np_ey, nb_hf, np_hf, nb_dd, np_dd, nb_so, np_so, nb_skn, np_skn, nb_swh, np_swh, nb_sgn, np_sgn, nb_ssd, np_ssd, nb_sgo, np_sgo, nb_sag, np_sag]; omega)) (by first | omega | (simp only [nb_sr, np_sr, nb_wr, np_wr, nb_rd, np_rd, nb_ch, np_ch, nb_zr, np_zr, nb_za, np_za, nb_ey, np_ey, nb_hf, np_hf, nb_dd, np_dd, nb_so, np_so, nb_skn, np_skn, nb_swh, np_swh, nb_sgn, np_sgn, nb_ssd, np_ssd, nb_sgo, np_sgo, nb_sag, np_sag]; omega))) L_X0_45 (preRV (q := (RX4, TX4, 13)) hN hP [0, 1, 8] rfl 0 3 rfl rfl) rfl ⟨Nat.le_of_ble_eq_true rfl, Nat.le_of_ble_eq_true rfl⟩ hl.1 (Nat.le_of_ble_eq_true rfl) dX0_sumOfRest_22 ⟨Nat.le_of_ble_eq_true rfl, Nat.le_of_ble_eq_true rfl⟩) (fun r_20 h_21 => ?_)
          subst h_21
          refine lv_iadd hx hb dX0_sumOfRest_25 ?_
          refine lv_istore_n (lv' := [(2, .int (xS_6 + (waF tJ_5 (zthere tJ_5)))), (3, .int (nI j_4)), (0, .ref qu), (1, .int (nI kN))]) hx hb dX0_sumOfRest_26 rfl hl (by decide) rfl (fun ls => ?_)
          clear hl
          intro hl
          refine lv_aload_n hx hb dX0_sumOfRest_27 rfl (lv_at hl 2 rfl) ?_
          refine cVi (As := []) (rest := []) (b := qu) (q := (RX4, TX4, 13)) ⟨hx, hb, hml, hown, hts⟩ (c_X4_endYear l G cy (H).size qu tJ_5 quw qun qug qua qur qum qut qus (by first | omega | (simp only [nb_sr, np_sr, nb_wr, np_wr, nb_rd, np_rd, nb_ch, np_ch, nb_zr, np_zr, nb_za, np_za, nb_ey, np_ey, nb_hf, np_hf, nb_dd, np_dd, nb_so, np_so, nb_skn, np_skn, nb_swh, np_swh, nb_sgn, np_sgn, nb_ssd, np_ssd, nb_sgo, np_sgo, nb_sag, np_sag]; omega)) (by first | omega | (simp only [nb_sr, np_sr, nb_wr, np_wr, nb_rd, np_rd, nb_ch, np_ch, nb_zr, np_zr, nb_za, np_za, nb_ey, np_ey, nb_hf, np_hf, nb_dd, np_dd, nb_so, np_so, nb_skn, np_skn, nb_swh, np_swh, nb_sgn, np_sgn, nb_ssd, np_ssd, nb_sgo, np_sgo, nb_sag, np_sag]; omega))) L_X0_42 hN hP hD hS hA [0, 1, 2, 3, 4, 5, 6, 7, 8] [false, false, false, false, false, false, false, false, false] rfl (by decide +kernel) rfl 0 3 rfl rfl rfl ⟨Nat.le_of_ble_eq_true rfl, Nat.le_of_ble_eq_true rfl⟩ hl.1 (Nat.le_of_ble_eq_true rfl) dX0_sumOfRest_28 ⟨Nat.le_of_ble_eq_true rfl, Nat.le_of_ble_eq_true rfl⟩ (fun r_22 u_24 H locs h_23 => ?_)
          clear hP hD hS
          intro hP hD hS
          obtain ⟨rfl, h_23⟩ := h_23
          have hPD := pd_as [zzO qu 3 [.int (nI (T_nb (zey tJ_5))), .int (nI (T_np (zey tJ_5))), .int (wb (T_wh (zey tJ_5))), .int (wb (T_gn (zey tJ_5))), .int (T_sd (zey tJ_5)), .ref quw, .ref qun, .ref qug, .ref qua, .ref qur, .ref qum, .ref qut, .ref qus], zzI cy quw 8 (T_wo (zey tJ_5)), zzI cy qun 8 (T_ne (zey tJ_5)), zzI cy qug 8 (T_go (zey tJ_5)), zzI cy qua 8 (T_ag (zey tJ_5)), zzI cy qur 8 (T_re (zey tJ_5)), zzI cy qum 8 (T_me (zey tJ_5)), zzI cy qut 8 (T_te (zey tJ_5)), zzI cy qus 64 (shF (T_kn (zey tJ_5)))] hP hD rfl
          clear hP hD
          obtain ⟨hP, hD⟩ := hPD
          subst h_23
          refine lv_pop hx hb dX0_sumOfRest_31 rfl ?_
          refine lv_iinc (v := nI (j_4 + 1)) (lv' := [(3, .int (nI (j_4 + 1))), (2, .int (xS_6 + (waF tJ_5 (zthere tJ_5)))), (0, .ref qu), (1, .int (nI kN))]) hx hb dX0_sumOfRest_32 hl (k := 1) rfl (nI_1 _) (by decide) rfl (fun ls => ?_)
          clear hl
          intro hl
          refine lv_goto (tgt := 4) hx hb dX0_sumOfRest_35 (by decide) ?_
          exact ih_3 (j_4 + 1) (zey tJ_5) (xS_6 + (waF tJ_5 (zthere tJ_5))) (by omega) (by omega) (by rw [← hT_8, show kN - j_4 = kN - (j_4 + 1) + 1 by omega, so_go c_16]; rfl) (⟨(zey_nb _).1.trans hn_9.1, (zey_nb _).2.trans hn_9.2⟩) _ _ _ hP hD hS (lv_sub hl [0, 1, 2, 3] rfl)
  exact lp_1 ((60 - 0) + 1) 0 tA 0 (Nat.lt_succ_self _) (Nat.zero_le _) rfl (⟨rfl, rfl⟩) _ _ ls hP hD hS (lv_sub hl [0, 1, 2, 3] rfl)
set_option maxHeartbeats 4000000 in
set_option maxRecDepth 100000 in
theorem c_X0_bestWho (l : Launch) (G : va_G) (cy : Nat → ClassId) (sz : Nat) (qp : Nat) (qu : Nat) (vS : Value) (iL : Int32) (iBs : Int32) (tU : TA) (quw : Nat) (qun : Nat) (qug : Nat) (qua : Nat) (qur : Nat) (qum : Nat) (qut : Nat) (qus : Nat) (qt : Nat) (tA : TA) (qtw : Nat) (qtn : Nat) (qtg : Nat) (qta : Nat) (qtr : Nat) (qtm : Nat) (qtt : Nat) (qts : Nat) (kB : Nat) (kN : Nat)  (hB : T_nb tA ≤ 8) (hPp : T_np tA ≤ 8) (hN60 : kN ≤ 60) (hJ : kB < 8) : MW l yX0_bestWho cX0_bestWho 7 (some .int) 7 0 0 G cy [zzO qp 0 [.ref qu, vS, .int iL, .int iBs], zzO qu 3 [.int (nI (T_nb tU)), .int (nI (T_np tU)), .int (wb (T_wh tU)), .int (wb (T_gn tU)), .int (T_sd tU), .ref quw, .ref qun, .ref qug, .ref qua, .ref qur, .ref qum, .ref qut, .ref qus], zzI cy quw 8 (T_wo tU), zzI cy qun 8 (T_ne tU), zzI cy qug 8 (T_go tU), zzI cy qua 8 (T_ag tU), zzI cy qur 8 (T_re tU), zzI cy qum 8 (T_me tU), zzI cy qut 8 (T_te tU), zzI cy qus 64 (shF (T_kn tU)), zzO qt 3 [.int (nI (T_nb tA)), .int (nI (T_np tA)), .int (wb (T_wh tA)), .int (wb (T_gn tA)), .int (T_sd tA), .ref qtw, .ref qtn, .ref qtg, .ref qta, .ref qtr, .ref qtm, .ref qtt, .ref qts], zzI cy qtw 8 (T_wo tA), zzI cy qtn 8 (T_ne tA), zzI cy qtg 8 (T_go tA), zzI cy qta 8 (T_ag tA), zzI cy qtr 8 (T_re tA), zzI cy qtm 8 (T_me tA), zzI cy qtt 8 (T_te tA), zzI cy qts 64 (shF (T_kn tA))] sz [.ref qp, .ref qt, .int (nI kB), .int (nI kN)] (Wi G (fun r u => ∃ (tX : TA), u = [zzO qp 0 [.ref qu, vS, .int iL, .int ((zbw tA kB kN iBs).2)], zzO qu 3 [.int (nI (T_nb tX)), .int (nI (T_np tX)), .int (wb (T_wh tX)), .int (wb (T_gn tX)), .int (T_sd tX), .ref quw, .ref qun, .ref qug, .ref qua, .ref qur, .ref qum, .ref qut, .ref qus], zzI cy quw 8 (T_wo tX), zzI cy qun 8 (T_ne tX), zzI cy qug 8 (T_go tX), zzI cy qua 8 (T_ag tX), zzI cy qur 8 (T_re tX), zzI cy qum 8 (T_me tX), zzI cy qut 8 (T_te tX), zzI cy qus 64 (shF (T_kn tX)), zzO qt 3 [.int (nI (T_nb tA)), .int (nI (T_np tA)), .int (wb (T_wh tA)), .int (wb (T_gn tA)), .int (T_sd tA), .ref qtw, .ref qtn, .ref qtg, .ref qta, .ref qtr, .ref qtm, .ref qtt, .ref qts], zzI cy qtw 8 (T_wo tA), zzI cy qtn 8 (T_ne tA), zzI cy qtg 8 (T_go tA), zzI cy qta 8 (T_ag tA), zzI cy qtr 8 (T_re tA), zzI cy qtm 8 (T_me tA), zzI cy qtt 8 (T_te tA), zzI cy qts 64 (shF (T_kn tA))] ∧ ((r = ((zbw tA kB kN iBs).1))))) := by
  refine enW RX0 (by decide) rfl (Nat.le_of_ble_eq_true rfl) (fun p e s m below meth c ls A hx hb hml hown hts hr hlocks hP hN hl hin hD hA hS => ?_)
  have hin : meth.name = _ := hin
  have hK := hN.1
  replace hl : lv_has ls 7 [(0, .ref qp), (1, .ref qt), (2, .int (nI kB)), (3, .int (nI kN))] := hl
  refine lv_iconst (v := (-1)) hx hb dX0_bestWho_0 (by decide) ?_
  refine lv_istore (lv' := [(4, .int (-1)), (0, .ref qp), (1, .ref qt), (2, .int (nI kB)), (3, .int (nI kN))]) hx hb dX0_bestWho_1 hl (by decide) rfl (fun ls => ?_)
  clear hl
  intro hl
  refine lv_iconst (v := 0) hx hb dX0_bestWho_3 (by decide) ?_
  refine lv_istore (lv' := [(5, .int 0), (4, .int (-1)), (0, .ref qp), (1, .ref qt), (2, .int (nI kB)), (3, .int (nI kN))]) hx hb dX0_bestWho_4 hl (by decide) rfl (fun ls => ?_)
  clear hl
  intro hl
  have lp_1 : ∀ (n_2 : Nat) (j_4 : Nat) (tJ_5 : TA) (xB_6 : Int32) (xM_7 : Int32), 8 - j_4 < n_2 → j_4 ≤ T_np tA → xB_6 = (bwF tA kB kN iBs j_4).1 → xM_7 = (bwF tA kB kN iBs j_4).2 → ∀ (H : Heap) (locs : List Loc) (ls : Array Slot), va_P G CL [zzO qp 0 [.ref qu, vS, .int iL, .int xM_7], zzO qu 3 [.int (nI (T_nb tJ_5)), .int (nI (T_np tJ_5)), .int (wb (T_wh tJ_5)), .int (wb (T_gn tJ_5)), .int (T_sd tJ_5), .ref quw, .ref qun, .ref qug, .ref qua, .ref qur, .ref qum, .ref qut, .ref qus], zzI cy quw 8 (T_wo tJ_5), zzI cy qun 8 (T_ne tJ_5), zzI cy qug 8 (T_go tJ_5), zzI cy qua 8 (T_ag tJ_5), zzI cy qur 8 (T_re tJ_5), zzI cy qum 8 (T_me tJ_5), zzI cy qut 8 (T_te tJ_5), zzI cy qus 64 (shF (T_kn tJ_5)), zzO qt 3 [.int (nI (T_nb tA)), .int (nI (T_np tA)), .int (wb (T_wh tA)), .int (wb (T_gn tA)), .int (T_sd tA), .ref qtw, .ref qtn, .ref qtg, .ref qta, .ref qtr, .ref qtm, .ref qtt, .ref qts], zzI cy qtw 8 (T_wo tA), zzI cy qtn 8 (T_ne tA), zzI cy qtg 8 (T_go tA), zzI cy qta 8 (T_ag tA), zzI cy qtr 8 (T_re tA), zzI cy qtm 8 (T_me tA), zzI cy qtt 8 (T_te tA), zzI cy qts 64 (shF (T_kn tA))] H → va_D A [zzO qp 0 [.ref qu, vS, .int iL, .int xM_7], zzO qu 3 [.int (nI (T_nb tJ_5)), .int (nI (T_np tJ_5)), .int (wb (T_wh tJ_5)), .int (wb (T_gn tJ_5)), .int (T_sd tJ_5), .ref quw, .ref qun, .ref qug, .ref qua, .ref qur, .ref qum, .ref qut, .ref qus], zzI cy quw 8 (T_wo tJ_5), zzI cy qun 8 (T_ne tJ_5), zzI cy qug 8 (T_go tJ_5), zzI cy qua 8 (T_ag tJ_5), zzI cy qur 8 (T_re tJ_5), zzI cy qum 8 (T_me tJ_5), zzI cy qut 8 (T_te tJ_5), zzI cy qus 64 (shF (T_kn tJ_5)), zzO qt 3 [.int (nI (T_nb tA)), .int (nI (T_np tA)), .int (wb (T_wh tA)), .int (wb (T_gn tA)), .int (T_sd tA), .ref qtw, .ref qtn, .ref qtg, .ref qta, .ref qtr, .ref qtm, .ref qtt, .ref qts], zzI cy qtw 8 (T_wo tA), zzI cy qtn 8 (T_ne tA), zzI cy qtg 8 (T_go tA), zzI cy qta 8 (T_ag tA), zzI cy qtr 8 (T_re tA), zzI cy qtm 8 (T_me tA), zzI cy qtt 8 (T_te tA), zzI cy qts 64 (shF (T_kn tA))] → va_S A s.heap H locs → lv_has ls 7 [(5, .int (nI j_4)), (4, .int xB_6), (0, .ref qp), (1, .ref qt), (2, .int (nI kB)), (3, .int (nI kN))] → W p l e (Rm 7 0 0) s m (List.toArray (α := Value) [.ref qp, .ref qt, .int (nI kB), .int (nI kN)]) below meth c H locs 0 0 (MQ below ((Wi G (fun r u => ∃ (tX : TA), u = [zzO qp 0 [.ref qu, vS, .int iL, .int ((zbw tA kB kN iBs).2)], zzO qu 3 [.int (nI (T_nb tX)), .int (nI (T_np tX)), .int (wb (T_wh tX)), .int (wb (T_gn tX)), .int (T_sd tX), .ref quw, .ref qun, .ref qug, .ref qua, .ref qur, .ref qum, .ref qut, .ref qus], zzI cy quw 8 (T_wo tX), zzI cy qun 8 (T_ne tX), zzI cy qug 8 (T_go tX), zzI cy qua 8 (T_ag tX), zzI cy qur 8 (T_re tX), zzI cy qum 8 (T_me tX), zzI cy qut 8 (T_te tX), zzI cy qus 64 (shF (T_kn tX)), zzO qt 3 [.int (nI (T_nb tA)), .int (nI (T_np tA)), .int (wb (T_wh tA)), .int (wb (T_gn tA)), .int (T_sd tA), .ref qtw, .ref qtn, .ref qtg, .ref qta, .ref qtr, .ref qtm, .ref qtt, .ref qts], zzI cy qtw 8 (T_wo tA), zzI cy qtn 8 (T_ne tA), zzI cy qtg 8 (T_go tA), zzI cy qta 8 (T_ag tA), zzI cy qtr 8 (T_re tA), zzI cy qtm 8 (T_me tA), zzI cy qtt 8 (T_te tA), zzI cy qts 64 (shF (T_kn tA))] ∧ ((r = ((zbw tA kB kN iBs).1))))) A) (List.toArray (α := Value) [.ref qp, .ref qt, .int (nI kB), .int (nI kN)]) s 0 0 A) (F0 m 6 ls []) := by
    intro n_2
    induction n_2 with
    | zero => intro j_4 tJ_5 xB_6 xM_7 hm9; exact absurd hm9 (Nat.not_lt_zero _)
    | succ n_2 ih_3 =>
      intro j_4 tJ_5 xB_6 xM_7 hm_11 hj_8 hxB_9 hxM_10 H locs ls hP hD hS hl
      refine lv_iload hx hb dX0_bestWho_6 (lv_at hl 0 rfl) ?_
      refine lv_aload_n hx hb dX0_bestWho_8 rfl (lv_at hl 3 rfl) ?_
      refine va_getN (D := G) (ci := 3) (v := .int (nI (T_np tA))) (C := RX4) (T := TX4) (N := 13) hx hb hts iX_X4 hown hK hP 10 rfl rfl 1 (by decide) (va_Nw.use rfl (hN.2.1 (RX0, 49, "EachBookOnce$Town", "people", "I") (List.mem_of_getElem? (i := 5) rfl))) (fun _ h9 => h9) rfl dX0_bestWho_9 ?_
      refine lv_icmp_ge (tgt := 86) hx hb dX0_bestWho_12 (by decide) (fun c_12 => ?_) (fun c_12 => ?_)
      · have hlt_13 : j_4 = T_np tA := Nat.le_antisymm (by omega) (lp_ge rfl rfl (by omega) (by omega) c_12)
        have hlt_13b : xB_6 = (zbw tA kB kN iBs).1 := by rw [hxB_9, hlt_13]; rfl
        have hlt_13m : xM_7 = (zbw tA kB kN iBs).2 := by rw [hxM_10, hlt_13]; rfl
        refine lv_iload hx hb dX0_bestWho_86 (lv_at hl 1 rfl) ?_
        exact endW (u := [zzO qp 0 [.ref qu, vS, .int iL, .int xM_7], zzO qu 3 [.int (nI (T_nb tJ_5)), .int (nI (T_np tJ_5)), .int (wb (T_wh tJ_5)), .int (wb (T_gn tJ_5)), .int (T_sd tJ_5), .ref quw, .ref qun, .ref qug, .ref qua, .ref qur, .ref qum, .ref qut, .ref qus], zzI cy quw 8 (T_wo tJ_5), zzI cy qun 8 (T_ne tJ_5), zzI cy qug 8 (T_go tJ_5), zzI cy qua 8 (T_ag tJ_5), zzI cy qur 8 (T_re tJ_5), zzI cy qum 8 (T_me tJ_5), zzI cy qut 8 (T_te tJ_5), zzI cy qus 64 (shF (T_kn tJ_5)), zzO qt 3 [.int (nI (T_nb tA)), .int (nI (T_np tA)), .int (wb (T_wh tA)), .int (wb (T_gn tA)), .int (T_sd tA), .ref qtw, .ref qtn, .ref qtg, .ref qta, .ref qtr, .ref qtm, .ref qtt, .ref qts], zzI cy qtw 8 (T_wo tA), zzI cy qtn 8 (T_ne tA), zzI cy qtg 8 (T_go tA), zzI cy qta 8 (T_ag tA), zzI cy qtr 8 (T_re tA), zzI cy qtm 8 (T_me tA), zzI cy qtt 8 (T_te tA), zzI cy qts 64 (shF (T_kn tA))]) hx hb hr hlocks rfl (hP.sub [0, 1, 2, 3, 4, 5, 6, 7, 8, 9, 10, 11, 12, 13, 14, 15, 16, 17, 18] rfl) (hD.sub [0, 1, 2, 3, 4, 5, 6, 7, 8, 9, 10, 11, 12, 13, 14, 15, 16, 17, 18] (by decide +kernel) rfl) hS ⟨tJ_5, by rw [hlt_13m], (by exact hlt_13b)⟩ dX0_bestWho_88
      · have hlt_14 : j_4 < T_np tA := lp_lt rfl rfl (by omega) (by omega) c_12
        refine lv_aload_n hx hb dX0_bestWho_15 rfl (lv_at hl 3 rfl) ?_
        refine kRi (rV (As := []) (rest := []) (b := qt) ⟨hx, hb, hml, hown, hts⟩ (c_X4_setThere l G cy qt tA qtw qtn qtg qta qtr qtm qtt qts hPp) L_X0_25 (preRV (q := (RX4, TX4, 13)) hN hP [10] rfl 10 3 rfl rfl) rfl ⟨Nat.le_of_ble_eq_true rfl, Nat.le_of_ble_eq_true rfl⟩ hl.1 (Nat.le_of_ble_eq_true rfl) dX0_bestWho_16 ⟨Nat.le_of_ble_eq_true rfl, Nat.le_of_ble_eq_true rfl⟩) (fun r_15 h_16 => ?_)
        subst h_16
        refine lv_iload hx hb dX0_bestWho_19 (lv_at hl 0 rfl) ?_
        refine kRi (rSN (As := [.int (zthere tA), .int (nI j_4)]) (rest := []) ⟨hx, hb, hml, hown, hts⟩ hN (c_X5_has l G cy (zthere tA) j_4) L_X0_52 (preRS hN hP [] rfl) rfl ⟨Nat.le_of_ble_eq_true rfl, Nat.le_of_ble_eq_true rfl⟩ hl.1 (Nat.le_of_ble_eq_true rfl) dX0_bestWho_21 ⟨Nat.le_of_ble_eq_true rfl, Nat.le_of_ble_eq_true rfl⟩) (fun r_17 h_18 => ?_)
        rcases h_18 with ⟨rfl, h_19⟩ | ⟨rfl, h_19⟩
        · refine lv_if_eq (tgt := 80) hx hb dX0_bestWho_24 (by decide) (fun h9 => absurd h9 (by decide)) (fun _ => ?_)
          refine lv_aload_n hx hb dX0_bestWho_27 rfl (lv_at hl 2 rfl) ?_
          refine va_get (D := G) (ci := 0) (v := .ref qu) (C := RX0) (T := TX0) (N := 4) hx hb hts iX_X0 hown hK hP 0 rfl rfl 0 (by decide) (hts _ m_t101) (fun _ h9 => h9) rfl dX0_bestWho_28 ?_
          refine lv_aload_n hx hb dX0_bestWho_31 rfl (lv_at hl 3 rfl) ?_
          refine cVv (As := [.ref qt]) (rest := []) (b := qu) (q := (RX4, TX4, 13)) ⟨hx, hb, hml, hown, hts⟩ (c_X4_become l G cy (H).size qu tJ_5 quw qun qug qua qur qum qut qus qt tA qtw qtn qtg qta qtr qtm qtt qts) L_X0_21 hN hP hD hS hA [1, 2, 3, 4, 5, 6, 7, 8, 9, 10, 11, 12, 13, 14, 15, 16, 17, 18] [true, false, false, false, false, false, false, false, false, false, false, false, false, false, false, false, false, false, false] rfl (by decide +kernel) rfl 1 3 rfl rfl rfl ⟨Nat.le_of_ble_eq_true rfl, Nat.le_of_ble_eq_true rfl⟩ hl.1 (Nat.le_of_ble_eq_true rfl) dX0_bestWho_32 ⟨Nat.le_of_ble_eq_true rfl, Nat.le_of_ble_eq_true rfl⟩ (fun u_23 H locs h_22 => ?_)
          clear hP hD hS
          intro hP hD hS
          subst h_22
          have hPD := pd_as [zzO qp 0 [.ref qu, vS, .int iL, .int xM_7], zzO qu 3 [.int (nI (T_nb tA)), .int (nI (T_np tA)), .int (wb (T_wh tA)), .int (wb (T_gn tA)), .int (T_sd tA), .ref quw, .ref qun, .ref qug, .ref qua, .ref qur, .ref qum, .ref qut, .ref qus], zzI cy quw 8 (T_wo tA), zzI cy qun 8 (T_ne tA), zzI cy qug 8 (T_go tA), zzI cy qua 8 (T_ag tA), zzI cy qur 8 (T_re tA), zzI cy qum 8 (T_me tA), zzI cy qut 8 (T_te tA), zzI cy qus 64 (shF (T_kn tA)), zzO qt 3 [.int (nI (T_nb tA)), .int (nI (T_np tA)), .int (wb (T_wh tA)), .int (wb (T_gn tA)), .int (T_sd tA), .ref qtw, .ref qtn, .ref qtg, .ref qta, .ref qtr, .ref qtm, .ref qtt, .ref qts], zzI cy qtw 8 (T_wo tA), zzI cy qtn 8 (T_ne tA), zzI cy qtg 8 (T_go tA), zzI cy qta 8 (T_ag tA), zzI cy qtr 8 (T_re tA), zzI cy qtm 8 (T_me tA), zzI cy qtt 8 (T_te tA), zzI cy qts 64 (shF (T_kn tA))] hP hD rfl
          clear hP hD
          obtain ⟨hP, hD⟩ := hPD
          refine lv_aload_n hx hb dX0_bestWho_35 rfl (lv_at hl 2 rfl) ?_
          refine va_get (D := G) (ci := 0) (v := .ref qu) (C := RX0) (T := TX0) (N := 4) hx hb hts iX_X0 hown hK hP 0 rfl rfl 0 (by decide) (hts _ m_t101) (fun _ h9 => h9) rfl dX0_bestWho_36 ?_
          refine lv_iload hx hb dX0_bestWho_39 (lv_at hl 0 rfl) ?_
          refine lv_iload_n hx hb dX0_bestWho_41 rfl (lv_at hl 4 rfl) ?_
          refine cVv (As := [.int (nI j_4), .int (nI kB)]) (rest := []) (b := qu) (q := (RX4, TX4, 13)) ⟨hx, hb, hml, hown, hts⟩ (c_X4_readBy l G cy (H).size qu tA quw qun qug qua qur qum qut qus j_4 kB (by first | omega | (simp only [nb_sr, np_sr, nb_wr, np_wr, nb_rd, np_rd, nb_ch, np_ch, nb_zr, np_zr, nb_za, np_za, nb_ey, np_ey, nb_hf, np_hf, nb_dd, np_dd, nb_so, np_so, nb_skn, np_skn, nb_swh, np_swh, nb_sgn, np_sgn, nb_ssd, np_ssd, nb_sgo, np_sgo, nb_sag, np_sag]; omega)) hJ) L_X0_56 hN hP hD hS hA [1, 2, 3, 4, 5, 6, 7, 8, 9] [true, false, false, false, false, false, false, false, false, false, true, true, true, true, true, true, true, true, true] rfl (by decide +kernel) rfl 1 3 rfl rfl rfl ⟨Nat.le_of_ble_eq_true rfl, Nat.le_of_ble_eq_true rfl⟩ hl.1 (Nat.le_of_ble_eq_true rfl) dX0_bestWho_42 ⟨Nat.le_of_ble_eq_true rfl, Nat.le_of_ble_eq_true rfl⟩ (fun u_26 H locs h_25 => ?_)
          clear hP hD hS
          intro hP hD hS
          subst h_25
          have hPD := pd_as [zzO qp 0 [.ref qu, vS, .int iL, .int xM_7], zzO qt 3 [.int (nI (T_nb tA)), .int (nI (T_np tA)), .int (wb (T_wh tA)), .int (wb (T_gn tA)), .int (T_sd tA), .ref qtw, .ref qtn, .ref qtg, .ref qta, .ref qtr, .ref qtm, .ref qtt, .ref qts], zzI cy qtw 8 (T_wo tA), zzI cy qtn 8 (T_ne tA), zzI cy qtg 8 (T_go tA), zzI cy qta 8 (T_ag tA), zzI cy qtr 8 (T_re tA), zzI cy qtm 8 (T_me tA), zzI cy qtt 8 (T_te tA), zzI cy qts 64 (shF (T_kn tA)), zzO qu 3 [.int (nI (T_nb (rdT tA j_4 kB))), .int (nI (T_np (rdT tA j_4 kB))), .int (wb (T_wh (rdT tA j_4 kB))), .int (wb (T_gn (rdT tA j_4 kB))), .int (T_sd (rdT tA j_4 kB)), .ref quw, .ref qun, .ref qug, .ref qua, .ref qur, .ref qum, .ref qut, .ref qus], zzI cy quw 8 (T_wo (rdT tA j_4 kB)), zzI cy qun 8 (T_ne (rdT tA j_4 kB)), zzI cy qug 8 (T_go (rdT tA j_4 kB)), zzI cy qua 8 (T_ag (rdT tA j_4 kB)), zzI cy qur 8 (T_re (rdT tA j_4 kB)), zzI cy qum 8 (T_me (rdT tA j_4 kB)), zzI cy qut 8 (T_te (rdT tA j_4 kB)), zzI cy qus 64 (shF (T_kn (rdT tA j_4 kB)))] hP hD rfl
          clear hP hD
          obtain ⟨hP, hD⟩ := hPD
          refine lv_aload_n hx hb dX0_bestWho_45 rfl (lv_at hl 2 rfl) ?_
          refine va_get (D := G) (ci := 0) (v := .ref qu) (C := RX0) (T := TX0) (N := 4) hx hb hts iX_X0 hown hK hP 0 rfl rfl 0 (by decide) (hts _ m_t101) (fun _ h9 => h9) rfl dX0_bestWho_46 ?_
          refine lv_iload_n hx hb dX0_bestWho_49 rfl (lv_at hl 5 rfl) ?_
          refine cSi (As := [.ref qu, .int (nI kN)]) (rest := []) ⟨hx, hb, hml, hown, hts⟩ (c_X0_sumOfRest l G cy (H).size qu (rdT tA j_4 kB) quw qun qug qua qur qum qut qus kN (by first | omega | (simp only [nb_sr, np_sr, nb_wr, np_wr, nb_rd, np_rd, nb_ch, np_ch, nb_zr, np_zr, nb_za, np_za, nb_ey, np_ey, nb_hf, np_hf, nb_dd, np_dd, nb_so, np_so, nb_skn, np_skn, nb_swh, np_swh, nb_sgn, np_sgn, nb_ssd, np_ssd, nb_sgo, np_sgo, nb_sag, np_sag]; omega)) (by first | omega | (simp only [nb_sr, np_sr, nb_wr, np_wr, nb_rd, np_rd, nb_ch, np_ch, nb_zr, np_zr, nb_za, np_za, nb_ey, np_ey, nb_hf, np_hf, nb_dd, np_dd, nb_so, np_so, nb_skn, np_skn, nb_swh, np_swh, nb_sgn, np_sgn, nb_ssd, np_ssd, nb_sgo, np_sgo, nb_sag, np_sag]; omega)) hN60) L_X0_60 hN hP hD hS hA [10, 11, 12, 13, 14, 15, 16, 17, 18] [true, true, true, true, true, true, true, true, true, true, false, false, false, false, false, false, false, false, false] rfl (by decide +kernel) rfl rfl ⟨Nat.le_of_ble_eq_true rfl, Nat.le_of_ble_eq_true rfl⟩ hl.1 (Nat.le_of_ble_eq_true rfl) dX0_bestWho_50 ⟨Nat.le_of_ble_eq_true rfl, Nat.le_of_ble_eq_true rfl⟩ (fun r_27 u_29 H locs h_28 => ?_)
          clear hP hD hS
          intro hP hD hS
          obtain ⟨rfl, h_28⟩ := h_28
          have hPD := pd_as [zzO qp 0 [.ref qu, vS, .int iL, .int xM_7], zzO qt 3 [.int (nI (T_nb tA)), .int (nI (T_np tA)), .int (wb (T_wh tA)), .int (wb (T_gn tA)), .int (T_sd tA), .ref qtw, .ref qtn, .ref qtg, .ref qta, .ref qtr, .ref qtm, .ref qtt, .ref qts], zzI cy qtw 8 (T_wo tA), zzI cy qtn 8 (T_ne tA), zzI cy qtg 8 (T_go tA), zzI cy qta 8 (T_ag tA), zzI cy qtr 8 (T_re tA), zzI cy qtm 8 (T_me tA), zzI cy qtt 8 (T_te tA), zzI cy qts 64 (shF (T_kn tA)), zzO qu 3 [.int (nI (T_nb ((soG kN (rdT tA j_4 kB) 0).1))), .int (nI (T_np ((soG kN (rdT tA j_4 kB) 0).1))), .int (wb (T_wh ((soG kN (rdT tA j_4 kB) 0).1))), .int (wb (T_gn ((soG kN (rdT tA j_4 kB) 0).1))), .int (T_sd ((soG kN (rdT tA j_4 kB) 0).1)), .ref quw, .ref qun, .ref qug, .ref qua, .ref qur, .ref qum, .ref qut, .ref qus], zzI cy quw 8 (T_wo ((soG kN (rdT tA j_4 kB) 0).1)), zzI cy qun 8 (T_ne ((soG kN (rdT tA j_4 kB) 0).1)), zzI cy qug 8 (T_go ((soG kN (rdT tA j_4 kB) 0).1)), zzI cy qua 8 (T_ag ((soG kN (rdT tA j_4 kB) 0).1)), zzI cy qur 8 (T_re ((soG kN (rdT tA j_4 kB) 0).1)), zzI cy qum 8 (T_me ((soG kN (rdT tA j_4 kB) 0).1)), zzI cy qut 8 (T_te ((soG kN (rdT tA j_4 kB) 0).1)), zzI cy qus 64 (shF (T_kn ((soG kN (rdT tA j_4 kB) 0).1)))] hP hD rfl
          clear hP hD
          obtain ⟨hP, hD⟩ := hPD
          subst h_28
          refine lv_istore (lv' := [(6, .int ((soG kN (rdT tA j_4 kB) 0).2)), (5, .int (nI j_4)), (4, .int xB_6), (0, .ref qp), (1, .ref qt), (2, .int (nI kB)), (3, .int (nI kN))]) hx hb dX0_bestWho_53 hl (by decide) rfl (fun ls => ?_)
          clear hl
          intro hl
          refine lv_iload hx hb dX0_bestWho_55 (lv_at hl 2 rfl) ?_
          refine lv_iconst (v := (-1)) hx hb dX0_bestWho_57 (by decide) ?_
          refine lv_icmp_eq (tgt := 70) hx hb dX0_bestWho_58 (by decide) (fun c_30 => ?_) (fun c_30 => ?_)
          · refine lv_iload hx hb dX0_bestWho_70 (lv_at hl 1 rfl) ?_
            refine lv_istore (lv' := [(4, .int (nI j_4)), (6, .int ((soG kN (rdT tA j_4 kB) 0).2)), (5, .int (nI j_4)), (0, .ref qp), (1, .ref qt), (2, .int (nI kB)), (3, .int (nI kN))]) hx hb dX0_bestWho_72 hl (by decide) rfl (fun ls => ?_)
            clear hl
            intro hl
            refine lv_aload_n hx hb dX0_bestWho_74 rfl (lv_at hl 3 rfl) ?_
            refine lv_iload hx hb dX0_bestWho_75 (lv_at hl 1 rfl) ?_
            refine va_put (D := G) (ci := 0) (v := .int ((soG kN (rdT tA j_4 kB) 0).2)) (ty := .int) (C := RX0) (T := TX0) (N := 4) hx hb hts iX_X0 tyX0 tyX0_ok nmX0 hown hK hP hD hS 0 rfl rfl 3 (by decide) (hts _ m_t106) (fun _ h9 => h9) rfl (by decide +kernel) rfl rfl (Nat.le_of_ble_eq_true rfl) dX0_bestWho_77 (fun H locs => ?_)
            clear hP hD hS
            intro hP hD hS
            have hPD := pd_as [zzO qp 0 [.ref qu, vS, .int iL, .int ((soG kN (rdT tA j_4 kB) 0).2)], zzO qt 3 [.int (nI (T_nb tA)), .int (nI (T_np tA)), .int (wb (T_wh tA)), .int (wb (T_gn tA)), .int (T_sd tA), .ref qtw, .ref qtn, .ref qtg, .ref qta, .ref qtr, .ref qtm, .ref qtt, .ref qts], zzI cy qtw 8 (T_wo tA), zzI cy qtn 8 (T_ne tA), zzI cy qtg 8 (T_go tA), zzI cy qta 8 (T_ag tA), zzI cy qtr 8 (T_re tA), zzI cy qtm 8 (T_me tA), zzI cy qtt 8 (T_te tA), zzI cy qts 64 (shF (T_kn tA)), zzO qu 3 [.int (nI (T_nb ((soG kN (rdT tA j_4 kB) 0).1))), .int (nI (T_np ((soG kN (rdT tA j_4 kB) 0).1))), .int (wb (T_wh ((soG kN (rdT tA j_4 kB) 0).1))), .int (wb (T_gn ((soG kN (rdT tA j_4 kB) 0).1))), .int (T_sd ((soG kN (rdT tA j_4 kB) 0).1)), .ref quw, .ref qun, .ref qug, .ref qua, .ref qur, .ref qum, .ref qut, .ref qus], zzI cy quw 8 (T_wo ((soG kN (rdT tA j_4 kB) 0).1)), zzI cy qun 8 (T_ne ((soG kN (rdT tA j_4 kB) 0).1)), zzI cy qug 8 (T_go ((soG kN (rdT tA j_4 kB) 0).1)), zzI cy qua 8 (T_ag ((soG kN (rdT tA j_4 kB) 0).1)), zzI cy qur 8 (T_re ((soG kN (rdT tA j_4 kB) 0).1)), zzI cy qum 8 (T_me ((soG kN (rdT tA j_4 kB) 0).1)), zzI cy qut 8 (T_te ((soG kN (rdT tA j_4 kB) 0).1)), zzI cy qus 64 (shF (T_kn ((soG kN (rdT tA j_4 kB) 0).1)))] hP hD rfl
            clear hP hD
            obtain ⟨hP, hD⟩ := hPD
            refine lv_iinc (v := nI (j_4 + 1)) (lv' := [(5, .int (nI (j_4 + 1))), (4, .int (nI j_4)), (6, .int ((soG kN (rdT tA j_4 kB) 0).2)), (0, .ref qp), (1, .ref qt), (2, .int (nI kB)), (3, .int (nI kN))]) hx hb dX0_bestWho_80 hl (k := 2) rfl (nI_1 _) (by decide) rfl (fun ls => ?_)
            clear hl
            intro hl
            refine lv_goto (tgt := 6) hx hb dX0_bestWho_83 (by decide) ?_
            exact ih_3 (j_4 + 1) ((soG kN (rdT tA j_4 kB) 0).1) (nI j_4) ((soG kN (rdT tA j_4 kB) 0).2) (by omega) (by omega) (by rw [bw_upd ⟨h_19, Or.inl (hxB_9 ▸ c_30)⟩]) (by rw [bw_upd ⟨h_19, Or.inl (hxB_9 ▸ c_30)⟩]) _ _ _ (hP.sub [0, 10, 11, 12, 13, 14, 15, 16, 17, 18, 1, 2, 3, 4, 5, 6, 7, 8, 9] rfl) (hD.sub [0, 10, 11, 12, 13, 14, 15, 16, 17, 18, 1, 2, 3, 4, 5, 6, 7, 8, 9] (by decide +kernel) rfl) hS (lv_sub hl [0, 1, 3, 4, 5, 6] rfl)
          · refine lv_iload hx hb dX0_bestWho_61 (lv_at hl 0 rfl) ?_
            refine lv_aload_n hx hb dX0_bestWho_63 rfl (lv_at hl 3 rfl) ?_
            refine va_get (D := G) (ci := 0) (v := .int xM_7) (C := RX0) (T := TX0) (N := 4) hx hb hts iX_X0 hown hK hP 0 rfl rfl 3 (by decide) (hts _ m_t106) (fun _ h9 => h9) rfl dX0_bestWho_64 ?_
            refine lv_icmp_le (tgt := 80) hx hb dX0_bestWho_67 (by decide) (fun c_31 => ?_) (fun c_31 => ?_)
            · refine lv_iinc (v := nI (j_4 + 1)) (lv' := [(5, .int (nI (j_4 + 1))), (6, .int ((soG kN (rdT tA j_4 kB) 0).2)), (4, .int xB_6), (0, .ref qp), (1, .ref qt), (2, .int (nI kB)), (3, .int (nI kN))]) hx hb dX0_bestWho_80 hl (k := 1) rfl (nI_1 _) (by decide) rfl (fun ls => ?_)
              clear hl
              intro hl
              refine lv_goto (tgt := 6) hx hb dX0_bestWho_83 (by decide) ?_
              exact ih_3 (j_4 + 1) ((soG kN (rdT tA j_4 kB) 0).1) xB_6 xM_7 (by omega) (by omega) (by rw [bw_skip (fun q => q.2.elim (fun r => c_30 (hxB_9.trans r)) (fun r => Int32.not_lt.mpr c_31 (hxM_10 ▸ r)))]; exact hxB_9) (by rw [bw_skip (fun q => q.2.elim (fun r => c_30 (hxB_9.trans r)) (fun r => Int32.not_lt.mpr c_31 (hxM_10 ▸ r)))]; exact hxM_10) _ _ _ (hP.sub [0, 10, 11, 12, 13, 14, 15, 16, 17, 18, 1, 2, 3, 4, 5, 6, 7, 8, 9] rfl) (hD.sub [0, 10, 11, 12, 13, 14, 15, 16, 17, 18, 1, 2, 3, 4, 5, 6, 7, 8, 9] (by decide +kernel) rfl) hS (lv_sub hl [0, 2, 3, 4, 5, 6] rfl)
            · refine lv_iload hx hb dX0_bestWho_70 (lv_at hl 1 rfl) ?_
              refine lv_istore (lv' := [(4, .int (nI j_4)), (6, .int ((soG kN (rdT tA j_4 kB) 0).2)), (5, .int (nI j_4)), (0, .ref qp), (1, .ref qt), (2, .int (nI kB)), (3, .int (nI kN))]) hx hb dX0_bestWho_72 hl (by decide) rfl (fun ls => ?_)
              clear hl
              intro hl
              refine lv_aload_n hx hb dX0_bestWho_74 rfl (lv_at hl 3 rfl) ?_
              refine lv_iload hx hb dX0_bestWho_75 (lv_at hl 1 rfl) ?_
              refine va_put (D := G) (ci := 0) (v := .int ((soG kN (rdT tA j_4 kB) 0).2)) (ty := .int) (C := RX0) (T := TX0) (N := 4) hx hb hts iX_X0 tyX0 tyX0_ok nmX0 hown hK hP hD hS 0 rfl rfl 3 (by decide) (hts _ m_t106) (fun _ h9 => h9) rfl (by decide +kernel) rfl rfl (Nat.le_of_ble_eq_true rfl) dX0_bestWho_77 (fun H locs => ?_)
              clear hP hD hS
              intro hP hD hS
              have hPD := pd_as [zzO qp 0 [.ref qu, vS, .int iL, .int ((soG kN (rdT tA j_4 kB) 0).2)], zzO qt 3 [.int (nI (T_nb tA)), .int (nI (T_np tA)), .int (wb (T_wh tA)), .int (wb (T_gn tA)), .int (T_sd tA), .ref qtw, .ref qtn, .ref qtg, .ref qta, .ref qtr, .ref qtm, .ref qtt, .ref qts], zzI cy qtw 8 (T_wo tA), zzI cy qtn 8 (T_ne tA), zzI cy qtg 8 (T_go tA), zzI cy qta 8 (T_ag tA), zzI cy qtr 8 (T_re tA), zzI cy qtm 8 (T_me tA), zzI cy qtt 8 (T_te tA), zzI cy qts 64 (shF (T_kn tA)), zzO qu 3 [.int (nI (T_nb ((soG kN (rdT tA j_4 kB) 0).1))), .int (nI (T_np ((soG kN (rdT tA j_4 kB) 0).1))), .int (wb (T_wh ((soG kN (rdT tA j_4 kB) 0).1))), .int (wb (T_gn ((soG kN (rdT tA j_4 kB) 0).1))), .int (T_sd ((soG kN (rdT tA j_4 kB) 0).1)), .ref quw, .ref qun, .ref qug, .ref qua, .ref qur, .ref qum, .ref qut, .ref qus], zzI cy quw 8 (T_wo ((soG kN (rdT tA j_4 kB) 0).1)), zzI cy qun 8 (T_ne ((soG kN (rdT tA j_4 kB) 0).1)), zzI cy qug 8 (T_go ((soG kN (rdT tA j_4 kB) 0).1)), zzI cy qua 8 (T_ag ((soG kN (rdT tA j_4 kB) 0).1)), zzI cy qur 8 (T_re ((soG kN (rdT tA j_4 kB) 0).1)), zzI cy qum 8 (T_me ((soG kN (rdT tA j_4 kB) 0).1)), zzI cy qut 8 (T_te ((soG kN (rdT tA j_4 kB) 0).1)), zzI cy qus 64 (shF (T_kn ((soG kN (rdT tA j_4 kB) 0).1)))] hP hD rfl
              clear hP hD
              obtain ⟨hP, hD⟩ := hPD
              refine lv_iinc (v := nI (j_4 + 1)) (lv' := [(5, .int (nI (j_4 + 1))), (4, .int (nI j_4)), (6, .int ((soG kN (rdT tA j_4 kB) 0).2)), (0, .ref qp), (1, .ref qt), (2, .int (nI kB)), (3, .int (nI kN))]) hx hb dX0_bestWho_80 hl (k := 2) rfl (nI_1 _) (by decide) rfl (fun ls => ?_)
              clear hl
              intro hl
              refine lv_goto (tgt := 6) hx hb dX0_bestWho_83 (by decide) ?_
              exact ih_3 (j_4 + 1) ((soG kN (rdT tA j_4 kB) 0).1) (nI j_4) ((soG kN (rdT tA j_4 kB) 0).2) (by omega) (by omega) (by rw [bw_upd ⟨h_19, Or.inr (hxM_10 ▸ Int32.not_le.mp c_31)⟩]) (by rw [bw_upd ⟨h_19, Or.inr (hxM_10 ▸ Int32.not_le.mp c_31)⟩]) _ _ _ (hP.sub [0, 10, 11, 12, 13, 14, 15, 16, 17, 18, 1, 2, 3, 4, 5, 6, 7, 8, 9] rfl) (hD.sub [0, 10, 11, 12, 13, 14, 15, 16, 17, 18, 1, 2, 3, 4, 5, 6, 7, 8, 9] (by decide +kernel) rfl) hS (lv_sub hl [0, 1, 3, 4, 5, 6] rfl)
        · refine lv_if_eq (tgt := 80) hx hb dX0_bestWho_24 (by decide) (fun _ => ?_) (fun h9 => absurd (by decide) h9)
          refine lv_iinc (v := nI (j_4 + 1)) (lv' := [(5, .int (nI (j_4 + 1))), (4, .int xB_6), (0, .ref qp), (1, .ref qt), (2, .int (nI kB)), (3, .int (nI kN))]) hx hb dX0_bestWho_80 hl (k := 0) rfl (nI_1 _) (by decide) rfl (fun ls => ?_)
          clear hl
          intro hl
          refine lv_goto (tgt := 6) hx hb dX0_bestWho_83 (by decide) ?_
          exact ih_3 (j_4 + 1) tJ_5 xB_6 xM_7 (by omega) (by omega) (by rw [bw_skip (fun q => by rw [h_19] at q; exact absurd q.1 (by decide))]; exact hxB_9) (by rw [bw_skip (fun q => by rw [h_19] at q; exact absurd q.1 (by decide))]; exact hxM_10) _ _ _ hP hD hS (lv_sub hl [0, 1, 2, 3, 4, 5] rfl)
  exact lp_1 ((8 - 0) + 1) 0 tU (-1) iBs (Nat.lt_succ_self _) (Nat.zero_le _) rfl rfl _ _ ls hP hD hS (lv_sub hl [0, 1, 2, 3, 4, 5] rfl)
set_option maxHeartbeats 4000000 in
set_option maxRecDepth 100000 in
theorem c_X0_worthByRising (l : Launch) (G : va_G) (cy : Nat → ClassId) (sz : Nat) (qp : Nat) (qu : Nat) (vS : Value) (iL : Int32) (iBs : Int32) (tU : TA) (quw : Nat) (qun : Nat) (qug : Nat) (qua : Nat) (qur : Nat) (qum : Nat) (qut : Nat) (qus : Nat) (qt : Nat) (tA : TA) (qtw : Nat) (qtn : Nat) (qtg : Nat) (qta : Nat) (qtr : Nat) (qtm : Nat) (qtt : Nat) (qts : Nat) (kI : Nat)  (hB : T_nb tA ≤ 8) (hPp : T_np tA ≤ 8) (hI : kI < 8) : MW l yX0_worthByRising cX0_worthByRising 4 (some .int) 5 0 0 G cy [zzO qp 0 [.ref qu, vS, .int iL, .int iBs], zzO qu 3 [.int (nI (T_nb tU)), .int (nI (T_np tU)), .int (wb (T_wh tU)), .int (wb (T_gn tU)), .int (T_sd tU), .ref quw, .ref qun, .ref qug, .ref qua, .ref qur, .ref qum, .ref qut, .ref qus], zzI cy quw 8 (T_wo tU), zzI cy qun 8 (T_ne tU), zzI cy qug 8 (T_go tU), zzI cy qua 8 (T_ag tU), zzI cy qur 8 (T_re tU), zzI cy qum 8 (T_me tU), zzI cy qut 8 (T_te tU), zzI cy qus 64 (shF (T_kn tU)), zzO qt 3 [.int (nI (T_nb tA)), .int (nI (T_np tA)), .int (wb (T_wh tA)), .int (wb (T_gn tA)), .int (T_sd tA), .ref qtw, .ref qtn, .ref qtg, .ref qta, .ref qtr, .ref qtm, .ref qtt, .ref qts], zzI cy qtw 8 (T_wo tA), zzI cy qtn 8 (T_ne tA), zzI cy qtg 8 (T_go tA), zzI cy qta 8 (T_ag tA), zzI cy qtr 8 (T_re tA), zzI cy qtm 8 (T_me tA), zzI cy qtt 8 (T_te tA), zzI cy qts 64 (shF (T_kn tA))] sz [.ref qp, .ref qt, .int (nI kI)] (Wi G (fun r u => u = [zzO qp 0 [.ref qu, vS, .int iL, .int iBs], zzO qu 3 [.int (nI (T_nb (zwr tA kI))), .int (nI (T_np (zwr tA kI))), .int (wb (T_wh (zwr tA kI))), .int (wb (T_gn (zwr tA kI))), .int (T_sd (zwr tA kI)), .ref quw, .ref qun, .ref qug, .ref qua, .ref qur, .ref qum, .ref qut, .ref qus], zzI cy quw 8 (T_wo (zwr tA kI)), zzI cy qun 8 (T_ne (zwr tA kI)), zzI cy qug 8 (T_go (zwr tA kI)), zzI cy qua 8 (T_ag (zwr tA kI)), zzI cy qur 8 (T_re (zwr tA kI)), zzI cy qum 8 (T_me (zwr tA kI)), zzI cy qut 8 (T_te (zwr tA kI)), zzI cy qus 64 (shF (T_kn (zwr tA kI))), zzO qt 3 [.int (nI (T_nb tA)), .int (nI (T_np tA)), .int (wb (T_wh tA)), .int (wb (T_gn tA)), .int (T_sd tA), .ref qtw, .ref qtn, .ref qtg, .ref qta, .ref qtr, .ref qtm, .ref qtt, .ref qts], zzI cy qtw 8 (T_wo tA), zzI cy qtn 8 (T_ne tA), zzI cy qtg 8 (T_go tA), zzI cy qta 8 (T_ag tA), zzI cy qtr 8 (T_re tA), zzI cy qtm 8 (T_me tA), zzI cy qtt 8 (T_te tA), zzI cy qts 64 (shF (T_kn tA))] ∧ ((r = (waF (zwr tA kI) (1 <<< ((nI kI) &&& 31))))))) := by
  refine enW RX0 (by decide) rfl (Nat.le_of_ble_eq_true rfl) (fun p e s m below meth c ls A hx hb hml hown hts hr hlocks hP hN hl hin hD hA hS => ?_)
  have hin : meth.name = _ := hin
  have hK := hN.1
  replace hl : lv_has ls 4 [(0, .ref qp), (1, .ref qt), (2, .int (nI kI))] := hl
  refine lv_aload_n hx hb dX0_worthByRising_0 rfl (lv_at hl 0 rfl) ?_
  refine va_get (D := G) (ci := 0) (v := .ref qu) (C := RX0) (T := TX0) (N := 4) hx hb hts iX_X0 hown hK hP 0 rfl rfl 0 (by decide) (hts _ m_t101) (fun _ h9 => h9) rfl dX0_worthByRising_1 ?_
  refine lv_aload_n hx hb dX0_worthByRising_4 rfl (lv_at hl 1 rfl) ?_
  refine cVv (As := [.ref qt]) (rest := []) (b := qu) (q := (RX4, TX4, 13)) ⟨hx, hb, hml, hown, hts⟩ (c_X4_become l G cy (s.heap).size qu tU quw qun qug qua qur qum qut qus qt tA qtw qtn qtg qta qtr qtm qtt qts) L_X0_21 hN hP hD hS hA [1, 2, 3, 4, 5, 6, 7, 8, 9, 10, 11, 12, 13, 14, 15, 16, 17, 18] [true, false, false, false, false, false, false, false, false, false, false, false, false, false, false, false, false, false, false] rfl (by decide +kernel) rfl 1 3 rfl rfl rfl ⟨Nat.le_of_ble_eq_true rfl, Nat.le_of_ble_eq_true rfl⟩ hl.1 (Nat.le_of_ble_eq_true rfl) dX0_worthByRising_5 ⟨Nat.le_of_ble_eq_true rfl, Nat.le_of_ble_eq_true rfl⟩ (fun u_3 H locs h_2 => ?_)
  clear hP hD hS
  intro hP hD hS
  subst h_2
  have hPD := pd_as [zzO qp 0 [.ref qu, vS, .int iL, .int iBs], zzO qu 3 [.int (nI (T_nb tA)), .int (nI (T_np tA)), .int (wb (T_wh tA)), .int (wb (T_gn tA)), .int (T_sd tA), .ref quw, .ref qun, .ref qug, .ref qua, .ref qur, .ref qum, .ref qut, .ref qus], zzI cy quw 8 (T_wo tA), zzI cy qun 8 (T_ne tA), zzI cy qug 8 (T_go tA), zzI cy qua 8 (T_ag tA), zzI cy qur 8 (T_re tA), zzI cy qum 8 (T_me tA), zzI cy qut 8 (T_te tA), zzI cy qus 64 (shF (T_kn tA)), zzO qt 3 [.int (nI (T_nb tA)), .int (nI (T_np tA)), .int (wb (T_wh tA)), .int (wb (T_gn tA)), .int (T_sd tA), .ref qtw, .ref qtn, .ref qtg, .ref qta, .ref qtr, .ref qtm, .ref qtt, .ref qts], zzI cy qtw 8 (T_wo tA), zzI cy qtn 8 (T_ne tA), zzI cy qtg 8 (T_go tA), zzI cy qta 8 (T_ag tA), zzI cy qtr 8 (T_re tA), zzI cy qtm 8 (T_me tA), zzI cy qtt 8 (T_te tA), zzI cy qts 64 (shF (T_kn tA))] hP hD rfl
  clear hP hD
  obtain ⟨hP, hD⟩ := hPD
  refine lv_iconst (v := 0) hx hb dX0_worthByRising_8 (by decide) ?_
  refine lv_istore_n (lv' := [(3, .int 0), (0, .ref qp), (1, .ref qt), (2, .int (nI kI))]) hx hb dX0_worthByRising_9 rfl hl (by decide) rfl (fun ls => ?_)
  clear hl
  intro hl
  have lp_4 : ∀ (n_5 : Nat) (j_7 : Nat) (tJ_8 : TA), 8 - j_7 < n_5 → j_7 ≤ T_nb tA → tJ_8 = wrF tA kI j_7 → ∀ (H : Heap) (locs : List Loc) (ls : Array Slot), va_P G CL [zzO qp 0 [.ref qu, vS, .int iL, .int iBs], zzO qu 3 [.int (nI (T_nb tJ_8)), .int (nI (T_np tJ_8)), .int (wb (T_wh tJ_8)), .int (wb (T_gn tJ_8)), .int (T_sd tJ_8), .ref quw, .ref qun, .ref qug, .ref qua, .ref qur, .ref qum, .ref qut, .ref qus], zzI cy quw 8 (T_wo tJ_8), zzI cy qun 8 (T_ne tJ_8), zzI cy qug 8 (T_go tJ_8), zzI cy qua 8 (T_ag tJ_8), zzI cy qur 8 (T_re tJ_8), zzI cy qum 8 (T_me tJ_8), zzI cy qut 8 (T_te tJ_8), zzI cy qus 64 (shF (T_kn tJ_8)), zzO qt 3 [.int (nI (T_nb tA)), .int (nI (T_np tA)), .int (wb (T_wh tA)), .int (wb (T_gn tA)), .int (T_sd tA), .ref qtw, .ref qtn, .ref qtg, .ref qta, .ref qtr, .ref qtm, .ref qtt, .ref qts], zzI cy qtw 8 (T_wo tA), zzI cy qtn 8 (T_ne tA), zzI cy qtg 8 (T_go tA), zzI cy qta 8 (T_ag tA), zzI cy qtr 8 (T_re tA), zzI cy qtm 8 (T_me tA), zzI cy qtt 8 (T_te tA), zzI cy qts 64 (shF (T_kn tA))] H → va_D A [zzO qp 0 [.ref qu, vS, .int iL, .int iBs], zzO qu 3 [.int (nI (T_nb tJ_8)), .int (nI (T_np tJ_8)), .int (wb (T_wh tJ_8)), .int (wb (T_gn tJ_8)), .int (T_sd tJ_8), .ref quw, .ref qun, .ref qug, .ref qua, .ref qur, .ref qum, .ref qut, .ref qus], zzI cy quw 8 (T_wo tJ_8), zzI cy qun 8 (T_ne tJ_8), zzI cy qug 8 (T_go tJ_8), zzI cy qua 8 (T_ag tJ_8), zzI cy qur 8 (T_re tJ_8), zzI cy qum 8 (T_me tJ_8), zzI cy qut 8 (T_te tJ_8), zzI cy qus 64 (shF (T_kn tJ_8)), zzO qt 3 [.int (nI (T_nb tA)), .int (nI (T_np tA)), .int (wb (T_wh tA)), .int (wb (T_gn tA)), .int (T_sd tA), .ref qtw, .ref qtn, .ref qtg, .ref qta, .ref qtr, .ref qtm, .ref qtt, .ref qts], zzI cy qtw 8 (T_wo tA), zzI cy qtn 8 (T_ne tA), zzI cy qtg 8 (T_go tA), zzI cy qta 8 (T_ag tA), zzI cy qtr 8 (T_re tA), zzI cy qtm 8 (T_me tA), zzI cy qtt 8 (T_te tA), zzI cy qts 64 (shF (T_kn tA))] → va_S A s.heap H locs → lv_has ls 4 [(3, .int (nI j_7)), (0, .ref qp), (1, .ref qt), (2, .int (nI kI))] → W p l e (Rm 5 0 0) s m (List.toArray (α := Value) [.ref qp, .ref qt, .int (nI kI)]) below meth c H locs 0 0 (MQ below ((Wi G (fun r u => u = [zzO qp 0 [.ref qu, vS, .int iL, .int iBs], zzO qu 3 [.int (nI (T_nb (zwr tA kI))), .int (nI (T_np (zwr tA kI))), .int (wb (T_wh (zwr tA kI))), .int (wb (T_gn (zwr tA kI))), .int (T_sd (zwr tA kI)), .ref quw, .ref qun, .ref qug, .ref qua, .ref qur, .ref qum, .ref qut, .ref qus], zzI cy quw 8 (T_wo (zwr tA kI)), zzI cy qun 8 (T_ne (zwr tA kI)), zzI cy qug 8 (T_go (zwr tA kI)), zzI cy qua 8 (T_ag (zwr tA kI)), zzI cy qur 8 (T_re (zwr tA kI)), zzI cy qum 8 (T_me (zwr tA kI)), zzI cy qut 8 (T_te (zwr tA kI)), zzI cy qus 64 (shF (T_kn (zwr tA kI))), zzO qt 3 [.int (nI (T_nb tA)), .int (nI (T_np tA)), .int (wb (T_wh tA)), .int (wb (T_gn tA)), .int (T_sd tA), .ref qtw, .ref qtn, .ref qtg, .ref qta, .ref qtr, .ref qtm, .ref qtt, .ref qts], zzI cy qtw 8 (T_wo tA), zzI cy qtn 8 (T_ne tA), zzI cy qtg 8 (T_go tA), zzI cy qta 8 (T_ag tA), zzI cy qtr 8 (T_re tA), zzI cy qtm 8 (T_me tA), zzI cy qtt 8 (T_te tA), zzI cy qts 64 (shF (T_kn tA))] ∧ ((r = (waF (zwr tA kI) (1 <<< ((nI kI) &&& 31))))))) A) (List.toArray (α := Value) [.ref qp, .ref qt, .int (nI kI)]) s 0 0 A) (F0 m 10 ls []) := by
    intro n_5
    induction n_5 with
    | zero => intro j_7 tJ_8 hm9; exact absurd hm9 (Nat.not_lt_zero _)
    | succ n_5 ih_6 =>
      intro j_7 tJ_8 hm_11 hj_9 htJ_10 H locs ls hP hD hS hl
      refine lv_iload_n hx hb dX0_worthByRising_10 rfl (lv_at hl 0 rfl) ?_
      refine lv_aload_n hx hb dX0_worthByRising_11 rfl (lv_at hl 1 rfl) ?_
      refine va_get (D := G) (ci := 0) (v := .ref qu) (C := RX0) (T := TX0) (N := 4) hx hb hts iX_X0 hown hK hP 0 rfl rfl 0 (by decide) (hts _ m_t101) (fun _ h9 => h9) rfl dX0_worthByRising_12 ?_
      refine va_getN (D := G) (ci := 3) (v := .int (nI (T_nb tJ_8))) (C := RX4) (T := TX4) (N := 13) hx hb hts iX_X4 hown hK hP 1 rfl rfl 0 (by decide) (va_Nw.use rfl (hN.2.1 (RX0, 70, "EachBookOnce$Town", "books", "I") (List.mem_of_getElem? (i := 2) rfl))) (fun _ h9 => h9) rfl dX0_worthByRising_15 ?_
      refine lv_icmp_ge (tgt := 50) hx hb dX0_worthByRising_18 (by decide) (fun c_12 => ?_) (fun c_12 => ?_)
      · have hlt_13e : T_nb tJ_8 = T_nb tA := by rw [htJ_10]; exact (wr_nb _ _ _).1
        have hlt_13 : j_7 = T_nb tA := Nat.le_antisymm (by omega) (by rw [hlt_13e] at c_12; exact lp_ge rfl rfl (by omega) (by omega) c_12)
        have e9_14 : tJ_8 = zwr tA kI := by rw [htJ_10, hlt_13]; rfl
        subst e9_14
        refine lv_aload_n hx hb dX0_worthByRising_50 rfl (lv_at hl 1 rfl) ?_
        refine va_get (D := G) (ci := 0) (v := .ref qu) (C := RX0) (T := TX0) (N := 4) hx hb hts iX_X0 hown hK hP 0 rfl rfl 0 (by decide) (hts _ m_t101) (fun _ h9 => h9) rfl dX0_worthByRising_51 ?_
        refine lv_iconst (v := 1) hx hb dX0_worthByRising_54 (by decide) ?_
        refine lv_iload_n hx hb dX0_worthByRising_55 rfl (lv_at hl 3 rfl) ?_
        refine lv_ishl hx hb dX0_worthByRising_56 ?_
        refine kRi (rV (As := [.int (1 <<< ((nI kI) &&& 31))]) (rest := []) (b := qu) ⟨hx, hb, hml, hown, hts⟩ (c_X4_worthAmong l G cy qu (zwr tA kI) quw qun qug qua qur qum qut qus (1 <<< ((nI kI) &&& 31)) (by first | omega | (simp only [nb_sr, np_sr, nb_wr, np_wr, nb_rd, np_rd, nb_ch, np_ch, nb_zr, np_zr, nb_za, np_za, nb_ey, np_ey, nb_hf, np_hf, nb_dd, np_dd, nb_so, np_so, nb_skn, np_skn, nb_swh, np_swh, nb_sgn, np_sgn, nb_ssd, np_ssd, nb_sgo, np_sgo, nb_sag, np_sag]; omega)) (by first | omega | (simp only [nb_sr, np_sr, nb_wr, np_wr, nb_rd, np_rd, nb_ch, np_ch, nb_zr, np_zr, nb_za, np_za, nb_ey, np_ey, nb_hf, np_hf, nb_dd, np_dd, nb_so, np_so, nb_skn, np_skn, nb_swh, np_swh, nb_sgn, np_sgn, nb_ssd, np_ssd, nb_sgo, np_sgo, nb_sag, np_sag]; omega))) L_X0_45 (preRV (q := (RX4, TX4, 13)) hN hP [1, 2, 9] rfl 1 3 rfl rfl) rfl ⟨Nat.le_of_ble_eq_true rfl, Nat.le_of_ble_eq_true rfl⟩ hl.1 (Nat.le_of_ble_eq_true rfl) dX0_worthByRising_57 ⟨Nat.le_of_ble_eq_true rfl, Nat.le_of_ble_eq_true rfl⟩) (fun r_15 h_16 => ?_)
        subst h_16
        exact endW (u := [zzO qp 0 [.ref qu, vS, .int iL, .int iBs], zzO qu 3 [.int (nI (T_nb (zwr tA kI))), .int (nI (T_np (zwr tA kI))), .int (wb (T_wh (zwr tA kI))), .int (wb (T_gn (zwr tA kI))), .int (T_sd (zwr tA kI)), .ref quw, .ref qun, .ref qug, .ref qua, .ref qur, .ref qum, .ref qut, .ref qus], zzI cy quw 8 (T_wo (zwr tA kI)), zzI cy qun 8 (T_ne (zwr tA kI)), zzI cy qug 8 (T_go (zwr tA kI)), zzI cy qua 8 (T_ag (zwr tA kI)), zzI cy qur 8 (T_re (zwr tA kI)), zzI cy qum 8 (T_me (zwr tA kI)), zzI cy qut 8 (T_te (zwr tA kI)), zzI cy qus 64 (shF (T_kn (zwr tA kI))), zzO qt 3 [.int (nI (T_nb tA)), .int (nI (T_np tA)), .int (wb (T_wh tA)), .int (wb (T_gn tA)), .int (T_sd tA), .ref qtw, .ref qtn, .ref qtg, .ref qta, .ref qtr, .ref qtm, .ref qtt, .ref qts], zzI cy qtw 8 (T_wo tA), zzI cy qtn 8 (T_ne tA), zzI cy qtg 8 (T_go tA), zzI cy qta 8 (T_ag tA), zzI cy qtr 8 (T_re tA), zzI cy qtm 8 (T_me tA), zzI cy qtt 8 (T_te tA), zzI cy qts 64 (shF (T_kn tA))]) hx hb hr hlocks rfl (hP.sub [0, 1, 2, 3, 4, 5, 6, 7, 8, 9, 10, 11, 12, 13, 14, 15, 16, 17, 18] rfl) (hD.sub [0, 1, 2, 3, 4, 5, 6, 7, 8, 9, 10, 11, 12, 13, 14, 15, 16, 17, 18] (by decide +kernel) rfl) hS ⟨rfl, rfl⟩ dX0_worthByRising_60
      · have hlt_17e : T_nb tJ_8 = T_nb tA := by rw [htJ_10]; exact (wr_nb _ _ _).1
        have hlt_17 : j_7 < T_nb tA := by rw [hlt_17e] at c_12; exact lp_lt rfl rfl (by omega) (by omega) c_12
        refine lv_aload_n hx hb dX0_worthByRising_21 rfl (lv_at hl 1 rfl) ?_
        refine va_get (D := G) (ci := 0) (v := .ref qu) (C := RX0) (T := TX0) (N := 4) hx hb hts iX_X0 hown hK hP 0 rfl rfl 0 (by decide) (hts _ m_t101) (fun _ h9 => h9) rfl dX0_worthByRising_22 ?_
        refine va_getN (D := G) (ci := 3) (v := .int (wb (T_wh tJ_8))) (C := RX4) (T := TX4) (N := 13) hx hb hts iX_X4 hown hK hP 1 rfl rfl 2 (by decide) (va_Nw.use rfl (hN.2.1 (RX0, 73, "EachBookOnce$Town", "white", "I") (List.mem_of_getElem? (i := 8) rfl))) (fun _ h9 => h9) rfl dX0_worthByRising_25 ?_
        refine lv_iload_n hx hb dX0_worthByRising_28 rfl (lv_at hl 0 rfl) ?_
        refine kRi (rSN (As := [.int (wb (T_wh tJ_8)), .int (nI j_7)]) (rest := []) ⟨hx, hb, hml, hown, hts⟩ hN (c_X5_has l G cy (wb (T_wh tJ_8)) j_7) L_X0_52 (preRS hN hP [] rfl) rfl ⟨Nat.le_of_ble_eq_true rfl, Nat.le_of_ble_eq_true rfl⟩ hl.1 (Nat.le_of_ble_eq_true rfl) dX0_worthByRising_29 ⟨Nat.le_of_ble_eq_true rfl, Nat.le_of_ble_eq_true rfl⟩) (fun r_18 h_19 => ?_)
        rcases h_19 with ⟨rfl, h_20⟩ | ⟨rfl, h_20⟩
        · rw [bit_wb _ (by omega)] at h_20
          refine lv_if_ne (tgt := 44) hx hb dX0_worthByRising_32 (by decide) (fun _ => ?_) (fun h9 => absurd h9 (by decide))
          refine lv_iinc (v := nI (j_7 + 1)) (lv' := [(3, .int (nI (j_7 + 1))), (0, .ref qp), (1, .ref qt), (2, .int (nI kI))]) hx hb dX0_worthByRising_44 hl (k := 0) rfl (nI_1 _) (by decide) rfl (fun ls => ?_)
          clear hl
          intro hl
          refine lv_goto (tgt := 10) hx hb dX0_worthByRising_47 (by decide) ?_
          exact ih_6 (j_7 + 1) tJ_8 (by omega) (by omega) (by rw [wr_no (htJ_10 ▸ h_20)]; exact htJ_10) _ _ _ hP hD hS (lv_sub hl [0, 1, 2, 3] rfl)
        · rw [bit_wb _ (by omega)] at h_20
          refine lv_if_ne (tgt := 44) hx hb dX0_worthByRising_32 (by decide) (fun h9 => absurd (by decide) h9) (fun _ => ?_)
          refine lv_aload_n hx hb dX0_worthByRising_35 rfl (lv_at hl 1 rfl) ?_
          refine va_get (D := G) (ci := 0) (v := .ref qu) (C := RX0) (T := TX0) (N := 4) hx hb hts iX_X0 hown hK hP 0 rfl rfl 0 (by decide) (hts _ m_t101) (fun _ h9 => h9) rfl dX0_worthByRising_36 ?_
          refine lv_iload_n hx hb dX0_worthByRising_39 rfl (lv_at hl 3 rfl) ?_
          refine lv_iload_n hx hb dX0_worthByRising_40 rfl (lv_at hl 0 rfl) ?_
          refine cVv (As := [.int (nI kI), .int (nI j_7)]) (rest := []) (b := qu) (q := (RX4, TX4, 13)) ⟨hx, hb, hml, hown, hts⟩ (c_X4_readBy l G cy (H).size qu tJ_8 quw qun qug qua qur qum qut qus kI j_7 hI (by first | omega | (simp only [nb_sr, np_sr, nb_wr, np_wr, nb_rd, np_rd, nb_ch, np_ch, nb_zr, np_zr, nb_za, np_za, nb_ey, np_ey, nb_hf, np_hf, nb_dd, np_dd, nb_so, np_so, nb_skn, np_skn, nb_swh, np_swh, nb_sgn, np_sgn, nb_ssd, np_ssd, nb_sgo, np_sgo, nb_sag, np_sag]; omega))) L_X0_56 hN hP hD hS hA [1, 2, 3, 4, 5, 6, 7, 8, 9] [true, false, false, false, false, false, false, false, false, false, true, true, true, true, true, true, true, true, true] rfl (by decide +kernel) rfl 1 3 rfl rfl rfl ⟨Nat.le_of_ble_eq_true rfl, Nat.le_of_ble_eq_true rfl⟩ hl.1 (Nat.le_of_ble_eq_true rfl) dX0_worthByRising_41 ⟨Nat.le_of_ble_eq_true rfl, Nat.le_of_ble_eq_true rfl⟩ (fun u_25 H locs h_24 => ?_)
          clear hP hD hS
          intro hP hD hS
          subst h_24
          have hPD := pd_as [zzO qp 0 [.ref qu, vS, .int iL, .int iBs], zzO qt 3 [.int (nI (T_nb tA)), .int (nI (T_np tA)), .int (wb (T_wh tA)), .int (wb (T_gn tA)), .int (T_sd tA), .ref qtw, .ref qtn, .ref qtg, .ref qta, .ref qtr, .ref qtm, .ref qtt, .ref qts], zzI cy qtw 8 (T_wo tA), zzI cy qtn 8 (T_ne tA), zzI cy qtg 8 (T_go tA), zzI cy qta 8 (T_ag tA), zzI cy qtr 8 (T_re tA), zzI cy qtm 8 (T_me tA), zzI cy qtt 8 (T_te tA), zzI cy qts 64 (shF (T_kn tA)), zzO qu 3 [.int (nI (T_nb (rdT tJ_8 kI j_7))), .int (nI (T_np (rdT tJ_8 kI j_7))), .int (wb (T_wh (rdT tJ_8 kI j_7))), .int (wb (T_gn (rdT tJ_8 kI j_7))), .int (T_sd (rdT tJ_8 kI j_7)), .ref quw, .ref qun, .ref qug, .ref qua, .ref qur, .ref qum, .ref qut, .ref qus], zzI cy quw 8 (T_wo (rdT tJ_8 kI j_7)), zzI cy qun 8 (T_ne (rdT tJ_8 kI j_7)), zzI cy qug 8 (T_go (rdT tJ_8 kI j_7)), zzI cy qua 8 (T_ag (rdT tJ_8 kI j_7)), zzI cy qur 8 (T_re (rdT tJ_8 kI j_7)), zzI cy qum 8 (T_me (rdT tJ_8 kI j_7)), zzI cy qut 8 (T_te (rdT tJ_8 kI j_7)), zzI cy qus 64 (shF (T_kn (rdT tJ_8 kI j_7)))] hP hD rfl
          clear hP hD
          obtain ⟨hP, hD⟩ := hPD
          refine lv_iinc (v := nI (j_7 + 1)) (lv' := [(3, .int (nI (j_7 + 1))), (0, .ref qp), (1, .ref qt), (2, .int (nI kI))]) hx hb dX0_worthByRising_44 hl (k := 0) rfl (nI_1 _) (by decide) rfl (fun ls => ?_)
          clear hl
          intro hl
          refine lv_goto (tgt := 10) hx hb dX0_worthByRising_47 (by decide) ?_
          exact ih_6 (j_7 + 1) (rdT tJ_8 kI j_7) (by omega) (by omega) (by rw [wr_go (htJ_10 ▸ h_20), ← htJ_10]) _ _ _ (hP.sub [0, 10, 11, 12, 13, 14, 15, 16, 17, 18, 1, 2, 3, 4, 5, 6, 7, 8, 9] rfl) (hD.sub [0, 10, 11, 12, 13, 14, 15, 16, 17, 18, 1, 2, 3, 4, 5, 6, 7, 8, 9] (by decide +kernel) rfl) hS (lv_sub hl [0, 1, 2, 3] rfl)
  exact lp_4 ((8 - 0) + 1) 0 tA (Nat.lt_succ_self _) (Nat.zero_le _) rfl _ _ ls hP hD hS (lv_sub hl [0, 1, 2, 3] rfl)
theorem c_X0_sumOfRest1 (l : Launch) (G : va_G) (cy : Nat → ClassId) (sz : Nat) (qu : Nat) (tA : TA) (quw : Nat) (qun : Nat) (qug : Nat) (qua : Nat) (qur : Nat) (qum : Nat) (qut : Nat) (qus : Nat)  (hB : T_nb tA ≤ 8) (hPp : T_np tA ≤ 8) : MW l yX0_sumOfRest cX0_sumOfRest 4 (some .int) 6 0 0 G cy [zzO qu 3 [.int (nI (T_nb tA)), .int (nI (T_np tA)), .int (wb (T_wh tA)), .int (wb (T_gn tA)), .int (T_sd tA), .ref quw, .ref qun, .ref qug, .ref qua, .ref qur, .ref qum, .ref qut, .ref qus], zzI cy quw 8 (T_wo tA), zzI cy qun 8 (T_ne tA), zzI cy qug 8 (T_go tA), zzI cy qua 8 (T_ag tA), zzI cy qur 8 (T_re tA), zzI cy qum 8 (T_me tA), zzI cy qut 8 (T_te tA), zzI cy qus 64 (shF (T_kn tA))] sz [.ref qu, .int 1] (Wi G (fun r u => u = [zzO qu 3 [.int (nI (T_nb ((soG 1 tA 0).1))), .int (nI (T_np ((soG 1 tA 0).1))), .int (wb (T_wh ((soG 1 tA 0).1))), .int (wb (T_gn ((soG 1 tA 0).1))), .int (T_sd ((soG 1 tA 0).1)), .ref quw, .ref qun, .ref qug, .ref qua, .ref qur, .ref qum, .ref qut, .ref qus], zzI cy quw 8 (T_wo ((soG 1 tA 0).1)), zzI cy qun 8 (T_ne ((soG 1 tA 0).1)), zzI cy qug 8 (T_go ((soG 1 tA 0).1)), zzI cy qua 8 (T_ag ((soG 1 tA 0).1)), zzI cy qur 8 (T_re ((soG 1 tA 0).1)), zzI cy qum 8 (T_me ((soG 1 tA 0).1)), zzI cy qut 8 (T_te ((soG 1 tA 0).1)), zzI cy qus 64 (shF (T_kn ((soG 1 tA 0).1)))] ∧ ((r = ((soG 1 tA 0).2))))) := c_X0_sumOfRest l G cy sz qu tA quw qun qug qua qur qum qut qus 1 hB hPp (by omega)
set_option maxHeartbeats 4000000 in
set_option maxRecDepth 100000 in
theorem c_X0_findKeeping (l : Launch) (G : va_G) (cy : Nat → ClassId) (sz : Nat) (qp : Nat) (qu : Nat) (qv : Nat) (iL : Int32) (iBs : Int32) (tU : TA) (quw : Nat) (qun : Nat) (qug : Nat) (qua : Nat) (qur : Nat) (qum : Nat) (qut : Nat) (qus : Nat) (tV : TA) (qvw : Nat) (qvn : Nat) (qvg : Nat) (qva : Nat) (qvr : Nat) (qvm : Nat) (qvt : Nat) (qvs : Nat) (qt : Nat) (tA : TA) (qtw : Nat) (qtn : Nat) (qtg : Nat) (qta : Nat) (qtr : Nat) (qtm : Nat) (qtt : Nat) (qts : Nat) (kB : Nat) (kN : Nat)  (hB : T_nb tA ≤ 8) (hPp : T_np tA ≤ 8) (hN60 : kN ≤ 60) (hN2 : 2 ≤ kN) (hJ : kB < 8) : MW l yX0_findKeeping cX0_findKeeping 6 (some .boolean) 8 0 0 G cy [zzO qp 0 [.ref qu, .ref qv, .int iL, .int iBs], zzO qu 3 [.int (nI (T_nb tU)), .int (nI (T_np tU)), .int (wb (T_wh tU)), .int (wb (T_gn tU)), .int (T_sd tU), .ref quw, .ref qun, .ref qug, .ref qua, .ref qur, .ref qum, .ref qut, .ref qus], zzI cy quw 8 (T_wo tU), zzI cy qun 8 (T_ne tU), zzI cy qug 8 (T_go tU), zzI cy qua 8 (T_ag tU), zzI cy qur 8 (T_re tU), zzI cy qum 8 (T_me tU), zzI cy qut 8 (T_te tU), zzI cy qus 64 (shF (T_kn tU)), zzO qv 3 [.int (nI (T_nb tV)), .int (nI (T_np tV)), .int (wb (T_wh tV)), .int (wb (T_gn tV)), .int (T_sd tV), .ref qvw, .ref qvn, .ref qvg, .ref qva, .ref qvr, .ref qvm, .ref qvt, .ref qvs], zzI cy qvw 8 (T_wo tV), zzI cy qvn 8 (T_ne tV), zzI cy qvg 8 (T_go tV), zzI cy qva 8 (T_ag tV), zzI cy qvr 8 (T_re tV), zzI cy qvm 8 (T_me tV), zzI cy qvt 8 (T_te tV), zzI cy qvs 64 (shF (T_kn tV)), zzO qt 3 [.int (nI (T_nb tA)), .int (nI (T_np tA)), .int (wb (T_wh tA)), .int (wb (T_gn tA)), .int (T_sd tA), .ref qtw, .ref qtn, .ref qtg, .ref qta, .ref qtr, .ref qtm, .ref qtt, .ref qts], zzI cy qtw 8 (T_wo tA), zzI cy qtn 8 (T_ne tA), zzI cy qtg 8 (T_go tA), zzI cy qta 8 (T_ag tA), zzI cy qtr 8 (T_re tA), zzI cy qtm 8 (T_me tA), zzI cy qtt 8 (T_te tA), zzI cy qts 64 (shF (T_kn tA))] sz [.ref qp, .ref qt, .int (nI kB), .int (nI kN)] (Wi G (fun r u => ∃ (tX : TA) (tY : TA), u = [zzO qp 0 [.ref qu, .ref qv, .int iL, .int ((zfk tA kB kN iBs).2)], zzO qu 3 [.int (nI (T_nb tX)), .int (nI (T_np tX)), .int (wb (T_wh tX)), .int (wb (T_gn tX)), .int (T_sd tX), .ref quw, .ref qun, .ref qug, .ref qua, .ref qur, .ref qum, .ref qut, .ref qus], zzI cy quw 8 (T_wo tX), zzI cy qun 8 (T_ne tX), zzI cy qug 8 (T_go tX), zzI cy qua 8 (T_ag tX), zzI cy qur 8 (T_re tX), zzI cy qum 8 (T_me tX), zzI cy qut 8 (T_te tX), zzI cy qus 64 (shF (T_kn tX)), zzO qv 3 [.int (nI (T_nb tY)), .int (nI (T_np tY)), .int (wb (T_wh tY)), .int (wb (T_gn tY)), .int (T_sd tY), .ref qvw, .ref qvn, .ref qvg, .ref qva, .ref qvr, .ref qvm, .ref qvt, .ref qvs], zzI cy qvw 8 (T_wo tY), zzI cy qvn 8 (T_ne tY), zzI cy qvg 8 (T_go tY), zzI cy qva 8 (T_ag tY), zzI cy qvr 8 (T_re tY), zzI cy qvm 8 (T_me tY), zzI cy qvt 8 (T_te tY), zzI cy qvs 64 (shF (T_kn tY)), zzO qt 3 [.int (nI (T_nb tA)), .int (nI (T_np tA)), .int (wb (T_wh tA)), .int (wb (T_gn tA)), .int (T_sd tA), .ref qtw, .ref qtn, .ref qtg, .ref qta, .ref qtr, .ref qtm, .ref qtt, .ref qts], zzI cy qtw 8 (T_wo tA), zzI cy qtn 8 (T_ne tA), zzI cy qtg 8 (T_go tA), zzI cy qta 8 (T_ag tA), zzI cy qtr 8 (T_re tA), zzI cy qtm 8 (T_me tA), zzI cy qtt 8 (T_te tA), zzI cy qts 64 (shF (T_kn tA))] ∧ ((r = ((zfk tA kB kN iBs).1))))) := by
  refine enW RX0 (by decide) rfl (Nat.le_of_ble_eq_true rfl) (fun p e s m below meth c ls A hx hb hml hown hts hr hlocks hP hN hl hin hD hA hS => ?_)
  have hin : meth.name = _ := hin
  have hK := hN.1
  replace hl : lv_has ls 6 [(0, .ref qp), (1, .ref qt), (2, .int (nI kB)), (3, .int (nI kN))] := hl
  refine lv_aload_n hx hb dX0_findKeeping_0 rfl (lv_at hl 0 rfl) ?_
  refine lv_aload_n hx hb dX0_findKeeping_1 rfl (lv_at hl 1 rfl) ?_
  refine lv_iload_n hx hb dX0_findKeeping_2 rfl (lv_at hl 2 rfl) ?_
  refine lv_iload_n hx hb dX0_findKeeping_3 rfl (lv_at hl 3 rfl) ?_
  refine cVi (As := [.ref qt, .int (nI kB), .int (nI kN)]) (rest := []) (b := qp) (q := (RX0, TX0, 4)) ⟨hx, hb, hml, hown, hts⟩ (c_X0_bestWho l G cy (s.heap).size qp qu (.ref qv) iL iBs tU quw qun qug qua qur qum qut qus qt tA qtw qtn qtg qta qtr qtm qtt qts kB kN hB hPp hN60 hJ) L_X0_67 hN hP hD hS hA [0, 1, 2, 3, 4, 5, 6, 7, 8, 9, 19, 20, 21, 22, 23, 24, 25, 26, 27] [false, false, false, false, false, false, false, false, false, false, true, true, true, true, true, true, true, true, true, false, false, false, false, false, false, false, false, false] rfl (by decide +kernel) rfl 0 0 rfl rfl rfl ⟨Nat.le_of_ble_eq_true rfl, Nat.le_of_ble_eq_true rfl⟩ hl.1 (Nat.le_of_ble_eq_true rfl) dX0_findKeeping_4 ⟨Nat.le_of_ble_eq_true rfl, Nat.le_of_ble_eq_true rfl⟩ (fun r_1 u_3 H locs h_2 => ?_)
  clear hP hD hS
  intro hP hD hS
  obtain ⟨tX_4, rfl, h_2⟩ := h_2
  have hPD := pd_as [zzO qv 3 [.int (nI (T_nb tV)), .int (nI (T_np tV)), .int (wb (T_wh tV)), .int (wb (T_gn tV)), .int (T_sd tV), .ref qvw, .ref qvn, .ref qvg, .ref qva, .ref qvr, .ref qvm, .ref qvt, .ref qvs], zzI cy qvw 8 (T_wo tV), zzI cy qvn 8 (T_ne tV), zzI cy qvg 8 (T_go tV), zzI cy qva 8 (T_ag tV), zzI cy qvr 8 (T_re tV), zzI cy qvm 8 (T_me tV), zzI cy qvt 8 (T_te tV), zzI cy qvs 64 (shF (T_kn tV)), zzO qp 0 [.ref qu, .ref qv, .int iL, .int ((zbw tA kB kN iBs).2)], zzO qu 3 [.int (nI (T_nb tX_4)), .int (nI (T_np tX_4)), .int (wb (T_wh tX_4)), .int (wb (T_gn tX_4)), .int (T_sd tX_4), .ref quw, .ref qun, .ref qug, .ref qua, .ref qur, .ref qum, .ref qut, .ref qus], zzI cy quw 8 (T_wo tX_4), zzI cy qun 8 (T_ne tX_4), zzI cy qug 8 (T_go tX_4), zzI cy qua 8 (T_ag tX_4), zzI cy qur 8 (T_re tX_4), zzI cy qum 8 (T_me tX_4), zzI cy qut 8 (T_te tX_4), zzI cy qus 64 (shF (T_kn tX_4)), zzO qt 3 [.int (nI (T_nb tA)), .int (nI (T_np tA)), .int (wb (T_wh tA)), .int (wb (T_gn tA)), .int (T_sd tA), .ref qtw, .ref qtn, .ref qtg, .ref qta, .ref qtr, .ref qtm, .ref qtt, .ref qts], zzI cy qtw 8 (T_wo tA), zzI cy qtn 8 (T_ne tA), zzI cy qtg 8 (T_go tA), zzI cy qta 8 (T_ag tA), zzI cy qtr 8 (T_re tA), zzI cy qtm 8 (T_me tA), zzI cy qtt 8 (T_te tA), zzI cy qts 64 (shF (T_kn tA))] hP hD rfl
  clear hP hD
  obtain ⟨hP, hD⟩ := hPD
  subst h_2
  refine lv_iconst (v := (-1)) hx hb dX0_findKeeping_7 (by decide) ?_
  refine lv_icmp_ne (tgt := 13) hx hb dX0_findKeeping_8 (by decide) (fun c_5 => ?_) (fun c_5 => ?_)
  · refine lv_aload_n hx hb dX0_findKeeping_13 rfl (lv_at hl 0 rfl) ?_
    refine va_get (D := G) (ci := 0) (v := .int ((zbw tA kB kN iBs).2)) (C := RX0) (T := TX0) (N := 4) hx hb hts iX_X0 hown hK hP 9 rfl rfl 3 (by decide) (hts _ m_t106) (fun _ h9 => h9) rfl dX0_findKeeping_14 ?_
    refine lv_istore (lv' := [(4, .int ((zbw tA kB kN iBs).2)), (0, .ref qp), (1, .ref qt), (2, .int (nI kB)), (3, .int (nI kN))]) hx hb dX0_findKeeping_17 hl (by decide) rfl (fun ls => ?_)
    clear hl
    intro hl
    refine lv_aload_n hx hb dX0_findKeeping_19 rfl (lv_at hl 1 rfl) ?_
    refine va_get (D := G) (ci := 0) (v := .ref qv) (C := RX0) (T := TX0) (N := 4) hx hb hts iX_X0 hown hK hP 9 rfl rfl 1 (by decide) (hts _ m_t103) (fun _ h9 => h9) rfl dX0_findKeeping_20 ?_
    refine lv_aload_n hx hb dX0_findKeeping_23 rfl (lv_at hl 2 rfl) ?_
    refine cVv (As := [.ref qt]) (rest := []) (b := qv) (q := (RX4, TX4, 13)) ⟨hx, hb, hml, hown, hts⟩ (c_X4_become l G cy (H).size qv tV qvw qvn qvg qva qvr qvm qvt qvs qt tA qtw qtn qtg qta qtr qtm qtt qts) L_X0_21 hN hP hD hS hA [0, 1, 2, 3, 4, 5, 6, 7, 8, 19, 20, 21, 22, 23, 24, 25, 26, 27] [false, false, false, false, false, false, false, false, false, true, true, true, true, true, true, true, true, true, true, false, false, false, false, false, false, false, false, false] rfl (by decide +kernel) rfl 0 3 rfl rfl rfl ⟨Nat.le_of_ble_eq_true rfl, Nat.le_of_ble_eq_true rfl⟩ hl.1 (Nat.le_of_ble_eq_true rfl) dX0_findKeeping_24 ⟨Nat.le_of_ble_eq_true rfl, Nat.le_of_ble_eq_true rfl⟩ (fun u_8 H locs h_7 => ?_)
    clear hP hD hS
    intro hP hD hS
    subst h_7
    have hPD := pd_as [zzO qp 0 [.ref qu, .ref qv, .int iL, .int ((zbw tA kB kN iBs).2)], zzO qu 3 [.int (nI (T_nb tX_4)), .int (nI (T_np tX_4)), .int (wb (T_wh tX_4)), .int (wb (T_gn tX_4)), .int (T_sd tX_4), .ref quw, .ref qun, .ref qug, .ref qua, .ref qur, .ref qum, .ref qut, .ref qus], zzI cy quw 8 (T_wo tX_4), zzI cy qun 8 (T_ne tX_4), zzI cy qug 8 (T_go tX_4), zzI cy qua 8 (T_ag tX_4), zzI cy qur 8 (T_re tX_4), zzI cy qum 8 (T_me tX_4), zzI cy qut 8 (T_te tX_4), zzI cy qus 64 (shF (T_kn tX_4)), zzO qv 3 [.int (nI (T_nb tA)), .int (nI (T_np tA)), .int (wb (T_wh tA)), .int (wb (T_gn tA)), .int (T_sd tA), .ref qvw, .ref qvn, .ref qvg, .ref qva, .ref qvr, .ref qvm, .ref qvt, .ref qvs], zzI cy qvw 8 (T_wo tA), zzI cy qvn 8 (T_ne tA), zzI cy qvg 8 (T_go tA), zzI cy qva 8 (T_ag tA), zzI cy qvr 8 (T_re tA), zzI cy qvm 8 (T_me tA), zzI cy qvt 8 (T_te tA), zzI cy qvs 64 (shF (T_kn tA)), zzO qt 3 [.int (nI (T_nb tA)), .int (nI (T_np tA)), .int (wb (T_wh tA)), .int (wb (T_gn tA)), .int (T_sd tA), .ref qtw, .ref qtn, .ref qtg, .ref qta, .ref qtr, .ref qtm, .ref qtt, .ref qts], zzI cy qtw 8 (T_wo tA), zzI cy qtn 8 (T_ne tA), zzI cy qtg 8 (T_go tA), zzI cy qta 8 (T_ag tA), zzI cy qtr 8 (T_re tA), zzI cy qtm 8 (T_me tA), zzI cy qtt 8 (T_te tA), zzI cy qts 64 (shF (T_kn tA))] hP hD rfl
    clear hP hD
    obtain ⟨hP, hD⟩ := hPD
    refine lv_aload_n hx hb dX0_findKeeping_27 rfl (lv_at hl 1 rfl) ?_
    refine va_get (D := G) (ci := 0) (v := .ref qv) (C := RX0) (T := TX0) (N := 4) hx hb hts iX_X0 hown hK hP 0 rfl rfl 1 (by decide) (hts _ m_t103) (fun _ h9 => h9) rfl dX0_findKeeping_28 ?_
    refine lv_iconst (v := 1) hx hb dX0_findKeeping_31 (by decide) ?_
    refine cSi (As := [.ref qv, .int 1]) (rest := []) ⟨hx, hb, hml, hown, hts⟩ (c_X0_sumOfRest1 l G cy (H).size qv tA qvw qvn qvg qva qvr qvm qvt qvs hB hPp) L_X0_60 hN hP hD hS hA [10, 11, 12, 13, 14, 15, 16, 17, 18] [true, true, true, true, true, true, true, true, true, true, false, false, false, false, false, false, false, false, false, true, true, true, true, true, true, true, true, true] rfl (by decide +kernel) rfl rfl ⟨Nat.le_of_ble_eq_true rfl, Nat.le_of_ble_eq_true rfl⟩ hl.1 (Nat.le_of_ble_eq_true rfl) dX0_findKeeping_32 ⟨Nat.le_of_ble_eq_true rfl, Nat.le_of_ble_eq_true rfl⟩ (fun r_9 u_11 H locs h_10 => ?_)
    clear hP hD hS
    intro hP hD hS
    obtain ⟨rfl, h_10⟩ := h_10
    have hPD := pd_as [zzO qp 0 [.ref qu, .ref qv, .int iL, .int ((zbw tA kB kN iBs).2)], zzO qu 3 [.int (nI (T_nb tX_4)), .int (nI (T_np tX_4)), .int (wb (T_wh tX_4)), .int (wb (T_gn tX_4)), .int (T_sd tX_4), .ref quw, .ref qun, .ref qug, .ref qua, .ref qur, .ref qum, .ref qut, .ref qus], zzI cy quw 8 (T_wo tX_4), zzI cy qun 8 (T_ne tX_4), zzI cy qug 8 (T_go tX_4), zzI cy qua 8 (T_ag tX_4), zzI cy qur 8 (T_re tX_4), zzI cy qum 8 (T_me tX_4), zzI cy qut 8 (T_te tX_4), zzI cy qus 64 (shF (T_kn tX_4)), zzO qt 3 [.int (nI (T_nb tA)), .int (nI (T_np tA)), .int (wb (T_wh tA)), .int (wb (T_gn tA)), .int (T_sd tA), .ref qtw, .ref qtn, .ref qtg, .ref qta, .ref qtr, .ref qtm, .ref qtt, .ref qts], zzI cy qtw 8 (T_wo tA), zzI cy qtn 8 (T_ne tA), zzI cy qtg 8 (T_go tA), zzI cy qta 8 (T_ag tA), zzI cy qtr 8 (T_re tA), zzI cy qtm 8 (T_me tA), zzI cy qtt 8 (T_te tA), zzI cy qts 64 (shF (T_kn tA)), zzO qv 3 [.int (nI (T_nb ((soG 1 tA 0).1))), .int (nI (T_np ((soG 1 tA 0).1))), .int (wb (T_wh ((soG 1 tA 0).1))), .int (wb (T_gn ((soG 1 tA 0).1))), .int (T_sd ((soG 1 tA 0).1)), .ref qvw, .ref qvn, .ref qvg, .ref qva, .ref qvr, .ref qvm, .ref qvt, .ref qvs], zzI cy qvw 8 (T_wo ((soG 1 tA 0).1)), zzI cy qvn 8 (T_ne ((soG 1 tA 0).1)), zzI cy qvg 8 (T_go ((soG 1 tA 0).1)), zzI cy qva 8 (T_ag ((soG 1 tA 0).1)), zzI cy qvr 8 (T_re ((soG 1 tA 0).1)), zzI cy qvm 8 (T_me ((soG 1 tA 0).1)), zzI cy qvt 8 (T_te ((soG 1 tA 0).1)), zzI cy qvs 64 (shF (T_kn ((soG 1 tA 0).1)))] hP hD rfl
    clear hP hD
    obtain ⟨hP, hD⟩ := hPD
    subst h_10
    refine lv_istore (lv' := [(5, .int ((soG 1 tA 0).2)), (4, .int ((zbw tA kB kN iBs).2)), (0, .ref qp), (1, .ref qt), (2, .int (nI kB)), (3, .int (nI kN))]) hx hb dX0_findKeeping_35 hl (by decide) rfl (fun ls => ?_)
    clear hl
    intro hl
    refine lv_aload_n hx hb dX0_findKeeping_37 rfl (lv_at hl 2 rfl) ?_
    refine lv_aload_n hx hb dX0_findKeeping_38 rfl (lv_at hl 2 rfl) ?_
    refine va_get (D := G) (ci := 0) (v := .ref qv) (C := RX0) (T := TX0) (N := 4) hx hb hts iX_X0 hown hK hP 0 rfl rfl 1 (by decide) (hts _ m_t103) (fun _ h9 => h9) rfl dX0_findKeeping_39 ?_
    refine lv_iload_n hx hb dX0_findKeeping_42 rfl (lv_at hl 4 rfl) ?_
    refine lv_iload_n hx hb dX0_findKeeping_43 rfl (lv_at hl 5 rfl) ?_
    refine lv_iconst (v := 1) hx hb dX0_findKeeping_44 (by decide) ?_
    refine lv_isub hx hb dX0_findKeeping_45 ?_
    refine lv_seti (v := nI (kN - 1)) (nI_sub1 (by omega)) ?_
    refine cVi (As := [.ref qv, .int (nI kB), .int (nI (kN - 1))]) (rest := []) (b := qp) (q := (RX0, TX0, 4)) ⟨hx, hb, hml, hown, hts⟩ (c_X0_bestWho l G cy (H).size qp qu (.ref qv) iL ((zbw tA kB kN iBs).2) tX_4 quw qun qug qua qur qum qut qus qv ((soG 1 tA 0).1) qvw qvn qvg qva qvr qvm qvt qvs kB (kN - 1) (by first | omega | (simp only [nb_sr, np_sr, nb_wr, np_wr, nb_rd, np_rd, nb_ch, np_ch, nb_zr, np_zr, nb_za, np_za, nb_ey, np_ey, nb_hf, np_hf, nb_dd, np_dd, nb_so, np_so, nb_skn, np_skn, nb_swh, np_swh, nb_sgn, np_sgn, nb_ssd, np_ssd, nb_sgo, np_sgo, nb_sag, np_sag]; omega)) (by first | omega | (simp only [nb_sr, np_sr, nb_wr, np_wr, nb_rd, np_rd, nb_ch, np_ch, nb_zr, np_zr, nb_za, np_za, nb_ey, np_ey, nb_hf, np_hf, nb_dd, np_dd, nb_so, np_so, nb_skn, np_skn, nb_swh, np_swh, nb_sgn, np_sgn, nb_ssd, np_ssd, nb_sgo, np_sgo, nb_sag, np_sag]; omega)) (by first | omega | (simp only [nb_sr, np_sr, nb_wr, np_wr, nb_rd, np_rd, nb_ch, np_ch, nb_zr, np_zr, nb_za, np_za, nb_ey, np_ey, nb_hf, np_hf, nb_dd, np_dd, nb_so, np_so, nb_skn, np_skn, nb_swh, np_swh, nb_sgn, np_sgn, nb_ssd, np_ssd, nb_sgo, np_sgo, nb_sag, np_sag]; omega)) hJ) L_X0_67 hN hP hD hS hA [0, 1, 2, 3, 4, 5, 6, 7, 8, 9, 19, 20, 21, 22, 23, 24, 25, 26, 27] [false, false, false, false, false, false, false, false, false, false, true, true, true, true, true, true, true, true, true, false, false, false, false, false, false, false, false, false] rfl (by decide +kernel) rfl 0 0 rfl rfl rfl ⟨Nat.le_of_ble_eq_true rfl, Nat.le_of_ble_eq_true rfl⟩ hl.1 (Nat.le_of_ble_eq_true rfl) dX0_findKeeping_46 ⟨Nat.le_of_ble_eq_true rfl, Nat.le_of_ble_eq_true rfl⟩ (fun r_12 u_14 H locs h_13 => ?_)
    clear hP hD hS
    intro hP hD hS
    obtain ⟨tX_15, rfl, h_13⟩ := h_13
    have hPD := pd_as [zzO qt 3 [.int (nI (T_nb tA)), .int (nI (T_np tA)), .int (wb (T_wh tA)), .int (wb (T_gn tA)), .int (T_sd tA), .ref qtw, .ref qtn, .ref qtg, .ref qta, .ref qtr, .ref qtm, .ref qtt, .ref qts], zzI cy qtw 8 (T_wo tA), zzI cy qtn 8 (T_ne tA), zzI cy qtg 8 (T_go tA), zzI cy qta 8 (T_ag tA), zzI cy qtr 8 (T_re tA), zzI cy qtm 8 (T_me tA), zzI cy qtt 8 (T_te tA), zzI cy qts 64 (shF (T_kn tA)), zzO qp 0 [.ref qu, .ref qv, .int iL, .int ((zbw ((soG 1 tA 0).1) kB (kN - 1) ((zbw tA kB kN iBs).2)).2)], zzO qu 3 [.int (nI (T_nb tX_15)), .int (nI (T_np tX_15)), .int (wb (T_wh tX_15)), .int (wb (T_gn tX_15)), .int (T_sd tX_15), .ref quw, .ref qun, .ref qug, .ref qua, .ref qur, .ref qum, .ref qut, .ref qus], zzI cy quw 8 (T_wo tX_15), zzI cy qun 8 (T_ne tX_15), zzI cy qug 8 (T_go tX_15), zzI cy qua 8 (T_ag tX_15), zzI cy qur 8 (T_re tX_15), zzI cy qum 8 (T_me tX_15), zzI cy qut 8 (T_te tX_15), zzI cy qus 64 (shF (T_kn tX_15)), zzO qv 3 [.int (nI (T_nb ((soG 1 tA 0).1))), .int (nI (T_np ((soG 1 tA 0).1))), .int (wb (T_wh ((soG 1 tA 0).1))), .int (wb (T_gn ((soG 1 tA 0).1))), .int (T_sd ((soG 1 tA 0).1)), .ref qvw, .ref qvn, .ref qvg, .ref qva, .ref qvr, .ref qvm, .ref qvt, .ref qvs], zzI cy qvw 8 (T_wo ((soG 1 tA 0).1)), zzI cy qvn 8 (T_ne ((soG 1 tA 0).1)), zzI cy qvg 8 (T_go ((soG 1 tA 0).1)), zzI cy qva 8 (T_ag ((soG 1 tA 0).1)), zzI cy qvr 8 (T_re ((soG 1 tA 0).1)), zzI cy qvm 8 (T_me ((soG 1 tA 0).1)), zzI cy qvt 8 (T_te ((soG 1 tA 0).1)), zzI cy qvs 64 (shF (T_kn ((soG 1 tA 0).1)))] hP hD rfl
    clear hP hD
    obtain ⟨hP, hD⟩ := hPD
    subst h_13
    refine lv_iconst (v := (-1)) hx hb dX0_findKeeping_49 (by decide) ?_
    refine lv_icmp_ne (tgt := 55) hx hb dX0_findKeeping_50 (by decide) (fun c_16 => ?_) (fun c_16 => ?_)
    · refine lv_aload_n hx hb dX0_findKeeping_55 rfl (lv_at hl 2 rfl) ?_
      refine lv_iload hx hb dX0_findKeeping_56 (lv_at hl 0 rfl) ?_
      refine lv_aload_n hx hb dX0_findKeeping_58 rfl (lv_at hl 2 rfl) ?_
      refine va_get (D := G) (ci := 0) (v := .int ((zbw ((soG 1 tA 0).1) kB (kN - 1) ((zbw tA kB kN iBs).2)).2)) (C := RX0) (T := TX0) (N := 4) hx hb hts iX_X0 hown hK hP 9 rfl rfl 3 (by decide) (hts _ m_t106) (fun _ h9 => h9) rfl dX0_findKeeping_59 ?_
      refine lv_iadd hx hb dX0_findKeeping_62 ?_
      refine lv_iload hx hb dX0_findKeeping_63 (lv_at hl 1 rfl) ?_
      refine lv_isub hx hb dX0_findKeeping_65 ?_
      refine va_put (D := G) (ci := 0) (v := .int ((((soG 1 tA 0).2) + ((zbw ((soG 1 tA 0).1) kB (kN - 1) ((zbw tA kB kN iBs).2)).2)) - ((zbw tA kB kN iBs).2))) (ty := .int) (C := RX0) (T := TX0) (N := 4) hx hb hts iX_X0 tyX0 tyX0_ok nmX0 hown hK hP hD hS 9 rfl rfl 3 (by decide) (hts _ m_t106) (fun _ h9 => h9) rfl (by decide +kernel) rfl rfl (Nat.le_of_ble_eq_true rfl) dX0_findKeeping_66 (fun H locs => ?_)
      clear hP hD hS
      intro hP hD hS
      have hPD := pd_as [zzO qt 3 [.int (nI (T_nb tA)), .int (nI (T_np tA)), .int (wb (T_wh tA)), .int (wb (T_gn tA)), .int (T_sd tA), .ref qtw, .ref qtn, .ref qtg, .ref qta, .ref qtr, .ref qtm, .ref qtt, .ref qts], zzI cy qtw 8 (T_wo tA), zzI cy qtn 8 (T_ne tA), zzI cy qtg 8 (T_go tA), zzI cy qta 8 (T_ag tA), zzI cy qtr 8 (T_re tA), zzI cy qtm 8 (T_me tA), zzI cy qtt 8 (T_te tA), zzI cy qts 64 (shF (T_kn tA)), zzO qp 0 [.ref qu, .ref qv, .int iL, .int ((((soG 1 tA 0).2) + ((zbw ((soG 1 tA 0).1) kB (kN - 1) ((zbw tA kB kN iBs).2)).2)) - ((zbw tA kB kN iBs).2))], zzO qu 3 [.int (nI (T_nb tX_15)), .int (nI (T_np tX_15)), .int (wb (T_wh tX_15)), .int (wb (T_gn tX_15)), .int (T_sd tX_15), .ref quw, .ref qun, .ref qug, .ref qua, .ref qur, .ref qum, .ref qut, .ref qus], zzI cy quw 8 (T_wo tX_15), zzI cy qun 8 (T_ne tX_15), zzI cy qug 8 (T_go tX_15), zzI cy qua 8 (T_ag tX_15), zzI cy qur 8 (T_re tX_15), zzI cy qum 8 (T_me tX_15), zzI cy qut 8 (T_te tX_15), zzI cy qus 64 (shF (T_kn tX_15)), zzO qv 3 [.int (nI (T_nb ((soG 1 tA 0).1))), .int (nI (T_np ((soG 1 tA 0).1))), .int (wb (T_wh ((soG 1 tA 0).1))), .int (wb (T_gn ((soG 1 tA 0).1))), .int (T_sd ((soG 1 tA 0).1)), .ref qvw, .ref qvn, .ref qvg, .ref qva, .ref qvr, .ref qvm, .ref qvt, .ref qvs], zzI cy qvw 8 (T_wo ((soG 1 tA 0).1)), zzI cy qvn 8 (T_ne ((soG 1 tA 0).1)), zzI cy qvg 8 (T_go ((soG 1 tA 0).1)), zzI cy qva 8 (T_ag ((soG 1 tA 0).1)), zzI cy qvr 8 (T_re ((soG 1 tA 0).1)), zzI cy qvm 8 (T_me ((soG 1 tA 0).1)), zzI cy qvt 8 (T_te ((soG 1 tA 0).1)), zzI cy qvs 64 (shF (T_kn ((soG 1 tA 0).1)))] hP hD rfl
      clear hP hD
      obtain ⟨hP, hD⟩ := hPD
      refine lv_iconst (v := 1) hx hb dX0_findKeeping_69 (by decide) ?_
      exact endW (u := [zzO qp 0 [.ref qu, .ref qv, .int iL, .int ((((soG 1 tA 0).2) + ((zbw ((soG 1 tA 0).1) kB (kN - 1) ((zbw tA kB kN iBs).2)).2)) - ((zbw tA kB kN iBs).2))], zzO qu 3 [.int (nI (T_nb tX_15)), .int (nI (T_np tX_15)), .int (wb (T_wh tX_15)), .int (wb (T_gn tX_15)), .int (T_sd tX_15), .ref quw, .ref qun, .ref qug, .ref qua, .ref qur, .ref qum, .ref qut, .ref qus], zzI cy quw 8 (T_wo tX_15), zzI cy qun 8 (T_ne tX_15), zzI cy qug 8 (T_go tX_15), zzI cy qua 8 (T_ag tX_15), zzI cy qur 8 (T_re tX_15), zzI cy qum 8 (T_me tX_15), zzI cy qut 8 (T_te tX_15), zzI cy qus 64 (shF (T_kn tX_15)), zzO qv 3 [.int (nI (T_nb ((soG 1 tA 0).1))), .int (nI (T_np ((soG 1 tA 0).1))), .int (wb (T_wh ((soG 1 tA 0).1))), .int (wb (T_gn ((soG 1 tA 0).1))), .int (T_sd ((soG 1 tA 0).1)), .ref qvw, .ref qvn, .ref qvg, .ref qva, .ref qvr, .ref qvm, .ref qvt, .ref qvs], zzI cy qvw 8 (T_wo ((soG 1 tA 0).1)), zzI cy qvn 8 (T_ne ((soG 1 tA 0).1)), zzI cy qvg 8 (T_go ((soG 1 tA 0).1)), zzI cy qva 8 (T_ag ((soG 1 tA 0).1)), zzI cy qvr 8 (T_re ((soG 1 tA 0).1)), zzI cy qvm 8 (T_me ((soG 1 tA 0).1)), zzI cy qvt 8 (T_te ((soG 1 tA 0).1)), zzI cy qvs 64 (shF (T_kn ((soG 1 tA 0).1))), zzO qt 3 [.int (nI (T_nb tA)), .int (nI (T_np tA)), .int (wb (T_wh tA)), .int (wb (T_gn tA)), .int (T_sd tA), .ref qtw, .ref qtn, .ref qtg, .ref qta, .ref qtr, .ref qtm, .ref qtt, .ref qts], zzI cy qtw 8 (T_wo tA), zzI cy qtn 8 (T_ne tA), zzI cy qtg 8 (T_go tA), zzI cy qta 8 (T_ag tA), zzI cy qtr 8 (T_re tA), zzI cy qtm 8 (T_me tA), zzI cy qtt 8 (T_te tA), zzI cy qts 64 (shF (T_kn tA))]) hx hb hr hlocks rfl (hP.sub [9, 10, 11, 12, 13, 14, 15, 16, 17, 18, 19, 20, 21, 22, 23, 24, 25, 26, 27, 0, 1, 2, 3, 4, 5, 6, 7, 8] rfl) (hD.sub [9, 10, 11, 12, 13, 14, 15, 16, 17, 18, 19, 20, 21, 22, 23, 24, 25, 26, 27, 0, 1, 2, 3, 4, 5, 6, 7, 8] (by decide +kernel) rfl) hS ⟨tX_15, ((soG 1 tA 0).1), by rw [fk_3 c_5 c_16], (by rw [fk_3 c_5 c_16])⟩ dX0_findKeeping_70
    · refine lv_iconst (v := 0) hx hb dX0_findKeeping_53 (by decide) ?_
      exact endW (u := [zzO qp 0 [.ref qu, .ref qv, .int iL, .int ((zbw ((soG 1 tA 0).1) kB (kN - 1) ((zbw tA kB kN iBs).2)).2)], zzO qu 3 [.int (nI (T_nb tX_15)), .int (nI (T_np tX_15)), .int (wb (T_wh tX_15)), .int (wb (T_gn tX_15)), .int (T_sd tX_15), .ref quw, .ref qun, .ref qug, .ref qua, .ref qur, .ref qum, .ref qut, .ref qus], zzI cy quw 8 (T_wo tX_15), zzI cy qun 8 (T_ne tX_15), zzI cy qug 8 (T_go tX_15), zzI cy qua 8 (T_ag tX_15), zzI cy qur 8 (T_re tX_15), zzI cy qum 8 (T_me tX_15), zzI cy qut 8 (T_te tX_15), zzI cy qus 64 (shF (T_kn tX_15)), zzO qv 3 [.int (nI (T_nb ((soG 1 tA 0).1))), .int (nI (T_np ((soG 1 tA 0).1))), .int (wb (T_wh ((soG 1 tA 0).1))), .int (wb (T_gn ((soG 1 tA 0).1))), .int (T_sd ((soG 1 tA 0).1)), .ref qvw, .ref qvn, .ref qvg, .ref qva, .ref qvr, .ref qvm, .ref qvt, .ref qvs], zzI cy qvw 8 (T_wo ((soG 1 tA 0).1)), zzI cy qvn 8 (T_ne ((soG 1 tA 0).1)), zzI cy qvg 8 (T_go ((soG 1 tA 0).1)), zzI cy qva 8 (T_ag ((soG 1 tA 0).1)), zzI cy qvr 8 (T_re ((soG 1 tA 0).1)), zzI cy qvm 8 (T_me ((soG 1 tA 0).1)), zzI cy qvt 8 (T_te ((soG 1 tA 0).1)), zzI cy qvs 64 (shF (T_kn ((soG 1 tA 0).1))), zzO qt 3 [.int (nI (T_nb tA)), .int (nI (T_np tA)), .int (wb (T_wh tA)), .int (wb (T_gn tA)), .int (T_sd tA), .ref qtw, .ref qtn, .ref qtg, .ref qta, .ref qtr, .ref qtm, .ref qtt, .ref qts], zzI cy qtw 8 (T_wo tA), zzI cy qtn 8 (T_ne tA), zzI cy qtg 8 (T_go tA), zzI cy qta 8 (T_ag tA), zzI cy qtr 8 (T_re tA), zzI cy qtm 8 (T_me tA), zzI cy qtt 8 (T_te tA), zzI cy qts 64 (shF (T_kn tA))]) hx hb hr hlocks rfl (hP.sub [9, 10, 11, 12, 13, 14, 15, 16, 17, 18, 19, 20, 21, 22, 23, 24, 25, 26, 27, 0, 1, 2, 3, 4, 5, 6, 7, 8] rfl) (hD.sub [9, 10, 11, 12, 13, 14, 15, 16, 17, 18, 19, 20, 21, 22, 23, 24, 25, 26, 27, 0, 1, 2, 3, 4, 5, 6, 7, 8] (by decide +kernel) rfl) hS ⟨tX_15, ((soG 1 tA 0).1), by rw [fk_2 c_5 c_16], (by rw [fk_2 c_5 c_16])⟩ dX0_findKeeping_54
  · refine lv_iconst (v := 0) hx hb dX0_findKeeping_11 (by decide) ?_
    exact endW (u := [zzO qp 0 [.ref qu, .ref qv, .int iL, .int ((zbw tA kB kN iBs).2)], zzO qu 3 [.int (nI (T_nb tX_4)), .int (nI (T_np tX_4)), .int (wb (T_wh tX_4)), .int (wb (T_gn tX_4)), .int (T_sd tX_4), .ref quw, .ref qun, .ref qug, .ref qua, .ref qur, .ref qum, .ref qut, .ref qus], zzI cy quw 8 (T_wo tX_4), zzI cy qun 8 (T_ne tX_4), zzI cy qug 8 (T_go tX_4), zzI cy qua 8 (T_ag tX_4), zzI cy qur 8 (T_re tX_4), zzI cy qum 8 (T_me tX_4), zzI cy qut 8 (T_te tX_4), zzI cy qus 64 (shF (T_kn tX_4)), zzO qv 3 [.int (nI (T_nb tV)), .int (nI (T_np tV)), .int (wb (T_wh tV)), .int (wb (T_gn tV)), .int (T_sd tV), .ref qvw, .ref qvn, .ref qvg, .ref qva, .ref qvr, .ref qvm, .ref qvt, .ref qvs], zzI cy qvw 8 (T_wo tV), zzI cy qvn 8 (T_ne tV), zzI cy qvg 8 (T_go tV), zzI cy qva 8 (T_ag tV), zzI cy qvr 8 (T_re tV), zzI cy qvm 8 (T_me tV), zzI cy qvt 8 (T_te tV), zzI cy qvs 64 (shF (T_kn tV)), zzO qt 3 [.int (nI (T_nb tA)), .int (nI (T_np tA)), .int (wb (T_wh tA)), .int (wb (T_gn tA)), .int (T_sd tA), .ref qtw, .ref qtn, .ref qtg, .ref qta, .ref qtr, .ref qtm, .ref qtt, .ref qts], zzI cy qtw 8 (T_wo tA), zzI cy qtn 8 (T_ne tA), zzI cy qtg 8 (T_go tA), zzI cy qta 8 (T_ag tA), zzI cy qtr 8 (T_re tA), zzI cy qtm 8 (T_me tA), zzI cy qtt 8 (T_te tA), zzI cy qts 64 (shF (T_kn tA))]) hx hb hr hlocks rfl (hP.sub [9, 10, 11, 12, 13, 14, 15, 16, 17, 18, 0, 1, 2, 3, 4, 5, 6, 7, 8, 19, 20, 21, 22, 23, 24, 25, 26, 27] rfl) (hD.sub [9, 10, 11, 12, 13, 14, 15, 16, 17, 18, 0, 1, 2, 3, 4, 5, 6, 7, 8, 19, 20, 21, 22, 23, 24, 25, 26, 27] (by decide +kernel) rfl) hS ⟨tX_4, tV, by rw [fk_1 c_5], (by rw [fk_1 c_5])⟩ dX0_findKeeping_12
