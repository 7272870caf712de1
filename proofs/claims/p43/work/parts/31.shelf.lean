theorem dX2_at_0 : decode cX2_at 0 = .ok (.aload_n 0, 1) := by decide +kernel
theorem dX2_at_1 : decode cX2_at 1 = .ok (.getfield 21, 3) := by decide +kernel
theorem dX2_at_4 : decode cX2_at 4 = .ok (.iload_n 1, 1) := by decide +kernel
theorem dX2_at_5 : decode cX2_at 5 = .ok (.bipush 40, 2) := by decide +kernel
theorem dX2_at_7 : decode cX2_at 7 = .ok (.imul, 1) := by decide +kernel
theorem dX2_at_8 : decode cX2_at 8 = .ok (.iload_n 2, 1) := by decide +kernel
theorem dX2_at_9 : decode cX2_at 9 = .ok (.iadd, 1) := by decide +kernel
theorem dX2_at_10 : decode cX2_at 10 = .ok (.laload, 1) := by decide +kernel
theorem dX2_at_11 : decode cX2_at 11 = .ok (.lreturn, 1) := by decide +kernel
theorem dX2_countHolding_0 : decode cX2_countHolding 0 = .ok (.iconst 0, 1) := by decide +kernel
theorem dX2_countHolding_1 : decode cX2_countHolding 1 = .ok (.istore_n 1, 1) := by decide +kernel
theorem dX2_countHolding_2 : decode cX2_countHolding 2 = .ok (.iconst 0, 1) := by decide +kernel
theorem dX2_countHolding_3 : decode cX2_countHolding 3 = .ok (.istore_n 2, 1) := by decide +kernel
theorem dX2_countHolding_4 : decode cX2_countHolding 4 = .ok (.iload_n 2, 1) := by decide +kernel
theorem dX2_countHolding_5 : decode cX2_countHolding 5 = .ok (.bipush 8, 2) := by decide +kernel
theorem dX2_countHolding_7 : decode cX2_countHolding 7 = .ok (.if_icmp .ge 22, 3) := by decide +kernel
theorem dX2_countHolding_10 : decode cX2_countHolding 10 = .ok (.aload_n 0, 1) := by decide +kernel
theorem dX2_countHolding_11 : decode cX2_countHolding 11 = .ok (.getfield 9, 3) := by decide +kernel
theorem dX2_countHolding_14 : decode cX2_countHolding 14 = .ok (.iload_n 2, 1) := by decide +kernel
theorem dX2_countHolding_15 : decode cX2_countHolding 15 = .ok (.iaload, 1) := by decide +kernel
theorem dX2_countHolding_16 : decode cX2_countHolding 16 = .ok (.iconst (-1), 1) := by decide +kernel
theorem dX2_countHolding_17 : decode cX2_countHolding 17 = .ok (.if_icmp .eq 6, 3) := by decide +kernel
theorem dX2_countHolding_20 : decode cX2_countHolding 20 = .ok (.iinc 1 1, 3) := by decide +kernel
theorem dX2_countHolding_23 : decode cX2_countHolding 23 = .ok (.iinc 2 1, 3) := by decide +kernel
theorem dX2_countHolding_26 : decode cX2_countHolding 26 = .ok (.goto (-22), 3) := by decide +kernel
theorem dX2_countHolding_29 : decode cX2_countHolding 29 = .ok (.iload_n 1, 1) := by decide +kernel
theorem dX2_countHolding_30 : decode cX2_countHolding 30 = .ok (.ireturn, 1) := by decide +kernel
theorem dX2_hasRow_0 : decode cX2_hasRow 0 = .ok (.aload_n 0, 1) := by decide +kernel
theorem dX2_hasRow_1 : decode cX2_hasRow 1 = .ok (.getfield 9, 3) := by decide +kernel
theorem dX2_hasRow_4 : decode cX2_hasRow 4 = .ok (.iload_n 1, 1) := by decide +kernel
theorem dX2_hasRow_5 : decode cX2_hasRow 5 = .ok (.iaload, 1) := by decide +kernel
theorem dX2_hasRow_6 : decode cX2_hasRow 6 = .ok (.ifCond .lt 17, 3) := by decide +kernel
theorem dX2_hasRow_9 : decode cX2_hasRow 9 = .ok (.aload_n 0, 1) := by decide +kernel
theorem dX2_hasRow_10 : decode cX2_hasRow 10 = .ok (.getfield 9, 3) := by decide +kernel
theorem dX2_hasRow_13 : decode cX2_hasRow 13 = .ok (.iload_n 1, 1) := by decide +kernel
theorem dX2_hasRow_14 : decode cX2_hasRow 14 = .ok (.iaload, 1) := by decide +kernel
theorem dX2_hasRow_15 : decode cX2_hasRow 15 = .ok (.iconst 4, 1) := by decide +kernel
theorem dX2_hasRow_16 : decode cX2_hasRow 16 = .ok (.if_icmp .gt 7, 3) := by decide +kernel
theorem dX2_hasRow_19 : decode cX2_hasRow 19 = .ok (.iconst 1, 1) := by decide +kernel
theorem dX2_hasRow_20 : decode cX2_hasRow 20 = .ok (.goto 4, 3) := by decide +kernel
theorem dX2_hasRow_23 : decode cX2_hasRow 23 = .ok (.iconst 0, 1) := by decide +kernel
theorem dX2_hasRow_24 : decode cX2_hasRow 24 = .ok (.ireturn, 1) := by decide +kernel
theorem dX2_hasRule_0 : decode cX2_hasRule 0 = .ok (.aload_n 0, 1) := by decide +kernel
theorem dX2_hasRule_1 : decode cX2_hasRule 1 = .ok (.getfield 9, 3) := by decide +kernel
theorem dX2_hasRule_4 : decode cX2_hasRule 4 = .ok (.iload_n 1, 1) := by decide +kernel
theorem dX2_hasRule_5 : decode cX2_hasRule 5 = .ok (.iaload, 1) := by decide +kernel
theorem dX2_hasRule_6 : decode cX2_hasRule 6 = .ok (.bipush 10, 2) := by decide +kernel
theorem dX2_hasRule_8 : decode cX2_hasRule 8 = .ok (.if_icmp .lt 7, 3) := by decide +kernel
theorem dX2_hasRule_11 : decode cX2_hasRule 11 = .ok (.iconst 1, 1) := by decide +kernel
theorem dX2_hasRule_12 : decode cX2_hasRule 12 = .ok (.goto 4, 3) := by decide +kernel
theorem dX2_hasRule_15 : decode cX2_hasRule 15 = .ok (.iconst 0, 1) := by decide +kernel
theorem dX2_hasRule_16 : decode cX2_hasRule 16 = .ok (.ireturn, 1) := by decide +kernel
theorem dX2_kindIn_0 : decode cX2_kindIn 0 = .ok (.aload_n 0, 1) := by decide +kernel
theorem dX2_kindIn_1 : decode cX2_kindIn 1 = .ok (.getfield 9, 3) := by decide +kernel
theorem dX2_kindIn_4 : decode cX2_kindIn 4 = .ok (.iload_n 1, 1) := by decide +kernel
theorem dX2_kindIn_5 : decode cX2_kindIn 5 = .ok (.iaload, 1) := by decide +kernel
theorem dX2_kindIn_6 : decode cX2_kindIn 6 = .ok (.bipush 10, 2) := by decide +kernel
theorem dX2_kindIn_8 : decode cX2_kindIn 8 = .ok (.isub, 1) := by decide +kernel
theorem dX2_kindIn_9 : decode cX2_kindIn 9 = .ok (.ireturn, 1) := by decide +kernel
theorem dX2_lowestBits_0 : decode cX2_lowestBits 0 = .ok (.iload_n 0, 1) := by decide +kernel
theorem dX2_lowestBits_1 : decode cX2_lowestBits 1 = .ok (.tableswitch 61 0 4 #[35, 40, 45, 61, 49], 35) := by decide +kernel
theorem dX2_lowestBits_36 : decode cX2_lowestBits 36 = .ok (.lload_n 1, 1) := by decide +kernel
theorem dX2_lowestBits_37 : decode cX2_lowestBits 37 = .ok (.l2i, 1) := by decide +kernel
theorem dX2_lowestBits_38 : decode cX2_lowestBits 38 = .ok (.i2b, 1) := by decide +kernel
theorem dX2_lowestBits_39 : decode cX2_lowestBits 39 = .ok (.i2l, 1) := by decide +kernel
theorem dX2_lowestBits_40 : decode cX2_lowestBits 40 = .ok (.lreturn, 1) := by decide +kernel
theorem dX2_lowestBits_41 : decode cX2_lowestBits 41 = .ok (.lload_n 1, 1) := by decide +kernel
theorem dX2_lowestBits_42 : decode cX2_lowestBits 42 = .ok (.l2i, 1) := by decide +kernel
theorem dX2_lowestBits_43 : decode cX2_lowestBits 43 = .ok (.i2s, 1) := by decide +kernel
theorem dX2_lowestBits_44 : decode cX2_lowestBits 44 = .ok (.i2l, 1) := by decide +kernel
theorem dX2_lowestBits_45 : decode cX2_lowestBits 45 = .ok (.lreturn, 1) := by decide +kernel
theorem dX2_lowestBits_46 : decode cX2_lowestBits 46 = .ok (.lload_n 1, 1) := by decide +kernel
theorem dX2_lowestBits_47 : decode cX2_lowestBits 47 = .ok (.l2i, 1) := by decide +kernel
theorem dX2_lowestBits_48 : decode cX2_lowestBits 48 = .ok (.i2l, 1) := by decide +kernel
theorem dX2_lowestBits_49 : decode cX2_lowestBits 49 = .ok (.lreturn, 1) := by decide +kernel
theorem dX2_lowestBits_50 : decode cX2_lowestBits 50 = .ok (.lload_n 1, 1) := by decide +kernel
theorem dX2_lowestBits_51 : decode cX2_lowestBits 51 = .ok (.lconst 0, 1) := by decide +kernel
theorem dX2_lowestBits_52 : decode cX2_lowestBits 52 = .ok (.lcmp, 1) := by decide +kernel
theorem dX2_lowestBits_53 : decode cX2_lowestBits 53 = .ok (.ifCond .eq 7, 3) := by decide +kernel
theorem dX2_lowestBits_56 : decode cX2_lowestBits 56 = .ok (.lconst 1, 1) := by decide +kernel
theorem dX2_lowestBits_57 : decode cX2_lowestBits 57 = .ok (.goto 4, 3) := by decide +kernel
theorem dX2_lowestBits_60 : decode cX2_lowestBits 60 = .ok (.lconst 0, 1) := by decide +kernel
theorem dX2_lowestBits_61 : decode cX2_lowestBits 61 = .ok (.lreturn, 1) := by decide +kernel
theorem dX2_lowestBits_62 : decode cX2_lowestBits 62 = .ok (.lload_n 1, 1) := by decide +kernel
theorem dX2_lowestBits_63 : decode cX2_lowestBits 63 = .ok (.lreturn, 1) := by decide +kernel
theorem dX2_move_0 : decode cX2_move 0 = .ok (.aload_n 0, 1) := by decide +kernel
theorem dX2_move_1 : decode cX2_move 1 = .ok (.getfield 21, 3) := by decide +kernel
theorem dX2_move_4 : decode cX2_move 4 = .ok (.iload_n 1, 1) := by decide +kernel
theorem dX2_move_5 : decode cX2_move 5 = .ok (.bipush 40, 2) := by decide +kernel
theorem dX2_move_7 : decode cX2_move 7 = .ok (.imul, 1) := by decide +kernel
theorem dX2_move_8 : decode cX2_move 8 = .ok (.iload_n 3, 1) := by decide +kernel
theorem dX2_move_9 : decode cX2_move 9 = .ok (.iadd, 1) := by decide +kernel
theorem dX2_move_10 : decode cX2_move 10 = .ok (.aload_n 0, 1) := by decide +kernel
theorem dX2_move_11 : decode cX2_move 11 = .ok (.getfield 21, 3) := by decide +kernel
theorem dX2_move_14 : decode cX2_move 14 = .ok (.iload_n 2, 1) := by decide +kernel
theorem dX2_move_15 : decode cX2_move 15 = .ok (.bipush 40, 2) := by decide +kernel
theorem dX2_move_17 : decode cX2_move 17 = .ok (.imul, 1) := by decide +kernel
theorem dX2_move_18 : decode cX2_move 18 = .ok (.iload 4, 2) := by decide +kernel
theorem dX2_move_20 : decode cX2_move 20 = .ok (.iadd, 1) := by decide +kernel
theorem dX2_move_21 : decode cX2_move 21 = .ok (.iload 5, 2) := by decide +kernel
theorem dX2_move_23 : decode cX2_move 23 = .ok (.invokestatic 29, 3) := by decide +kernel
theorem dX2_move_26 : decode cX2_move 26 = .ok (.return_, 1) := by decide +kernel
theorem dX2_put_0 : decode cX2_put 0 = .ok (.aload_n 0, 1) := by decide +kernel
theorem dX2_put_1 : decode cX2_put 1 = .ok (.getfield 21, 3) := by decide +kernel
theorem dX2_put_4 : decode cX2_put 4 = .ok (.iload_n 1, 1) := by decide +kernel
theorem dX2_put_5 : decode cX2_put 5 = .ok (.bipush 40, 2) := by decide +kernel
theorem dX2_put_7 : decode cX2_put 7 = .ok (.imul, 1) := by decide +kernel
theorem dX2_put_8 : decode cX2_put 8 = .ok (.iload_n 2, 1) := by decide +kernel
theorem dX2_put_9 : decode cX2_put 9 = .ok (.iadd, 1) := by decide +kernel
theorem dX2_put_10 : decode cX2_put 10 = .ok (.aload_n 0, 1) := by decide +kernel
theorem dX2_put_11 : decode cX2_put 11 = .ok (.getfield 9, 3) := by decide +kernel
theorem dX2_put_14 : decode cX2_put 14 = .ok (.iload_n 1, 1) := by decide +kernel
theorem dX2_put_15 : decode cX2_put 15 = .ok (.iaload, 1) := by decide +kernel
theorem dX2_put_16 : decode cX2_put 16 = .ok (.lload_n 3, 1) := by decide +kernel
theorem dX2_put_17 : decode cX2_put 17 = .ok (.invokestatic 25, 3) := by decide +kernel
theorem dX2_put_20 : decode cX2_put 20 = .ok (.lastore, 1) := by decide +kernel
theorem dX2_put_21 : decode cX2_put 21 = .ok (.return_, 1) := by decide +kernel
theorem dX2_putRow_0 : decode cX2_putRow 0 = .ok (.aload_n 0, 1) := by decide +kernel
theorem dX2_putRow_1 : decode cX2_putRow 1 = .ok (.getfield 9, 3) := by decide +kernel
theorem dX2_putRow_4 : decode cX2_putRow 4 = .ok (.iload_n 1, 1) := by decide +kernel
theorem dX2_putRow_5 : decode cX2_putRow 5 = .ok (.iload_n 2, 1) := by decide +kernel
theorem dX2_putRow_6 : decode cX2_putRow 6 = .ok (.iastore, 1) := by decide +kernel
theorem dX2_putRow_7 : decode cX2_putRow 7 = .ok (.aload_n 0, 1) := by decide +kernel
theorem dX2_putRow_8 : decode cX2_putRow 8 = .ok (.getfield 15, 3) := by decide +kernel
theorem dX2_putRow_11 : decode cX2_putRow 11 = .ok (.iload_n 1, 1) := by decide +kernel
theorem dX2_putRow_12 : decode cX2_putRow 12 = .ok (.iload_n 3, 1) := by decide +kernel
theorem dX2_putRow_13 : decode cX2_putRow 13 = .ok (.iastore, 1) := by decide +kernel
theorem dX2_putRow_14 : decode cX2_putRow 14 = .ok (.iconst 0, 1) := by decide +kernel
theorem dX2_putRow_15 : decode cX2_putRow 15 = .ok (.istore 4, 2) := by decide +kernel
theorem dX2_putRow_17 : decode cX2_putRow 17 = .ok (.iload 4, 2) := by decide +kernel
theorem dX2_putRow_19 : decode cX2_putRow 19 = .ok (.iload_n 3, 1) := by decide +kernel
theorem dX2_putRow_20 : decode cX2_putRow 20 = .ok (.if_icmp .ge 22, 3) := by decide +kernel
theorem dX2_putRow_23 : decode cX2_putRow 23 = .ok (.aload_n 0, 1) := by decide +kernel
theorem dX2_putRow_24 : decode cX2_putRow 24 = .ok (.getfield 21, 3) := by decide +kernel
theorem dX2_putRow_27 : decode cX2_putRow 27 = .ok (.iload_n 1, 1) := by decide +kernel
theorem dX2_putRow_28 : decode cX2_putRow 28 = .ok (.bipush 40, 2) := by decide +kernel
theorem dX2_putRow_30 : decode cX2_putRow 30 = .ok (.imul, 1) := by decide +kernel
theorem dX2_putRow_31 : decode cX2_putRow 31 = .ok (.iload 4, 2) := by decide +kernel
theorem dX2_putRow_33 : decode cX2_putRow 33 = .ok (.iadd, 1) := by decide +kernel
theorem dX2_putRow_34 : decode cX2_putRow 34 = .ok (.lconst 0, 1) := by decide +kernel
theorem dX2_putRow_35 : decode cX2_putRow 35 = .ok (.lastore, 1) := by decide +kernel
theorem dX2_putRow_36 : decode cX2_putRow 36 = .ok (.iinc 4 1, 3) := by decide +kernel
theorem dX2_putRow_39 : decode cX2_putRow 39 = .ok (.goto (-22), 3) := by decide +kernel
theorem dX2_putRow_42 : decode cX2_putRow 42 = .ok (.return_, 1) := by decide +kernel
theorem dX2_putRule_0 : decode cX2_putRule 0 = .ok (.aload_n 0, 1) := by decide +kernel
theorem dX2_putRule_1 : decode cX2_putRule 1 = .ok (.getfield 9, 3) := by decide +kernel
theorem dX2_putRule_4 : decode cX2_putRule 4 = .ok (.iload_n 1, 1) := by decide +kernel
theorem dX2_putRule_5 : decode cX2_putRule 5 = .ok (.bipush 10, 2) := by decide +kernel
theorem dX2_putRule_7 : decode cX2_putRule 7 = .ok (.iload_n 2, 1) := by decide +kernel
theorem dX2_putRule_8 : decode cX2_putRule 8 = .ok (.iadd, 1) := by decide +kernel
theorem dX2_putRule_9 : decode cX2_putRule 9 = .ok (.iastore, 1) := by decide +kernel
theorem dX2_putRule_10 : decode cX2_putRule 10 = .ok (.aload_n 0, 1) := by decide +kernel
theorem dX2_putRule_11 : decode cX2_putRule 11 = .ok (.getfield 18, 3) := by decide +kernel
theorem dX2_putRule_14 : decode cX2_putRule 14 = .ok (.iload_n 1, 1) := by decide +kernel
theorem dX2_putRule_15 : decode cX2_putRule 15 = .ok (.iload_n 3, 1) := by decide +kernel
theorem dX2_putRule_16 : decode cX2_putRule 16 = .ok (.iastore, 1) := by decide +kernel
theorem dX2_putRule_17 : decode cX2_putRule 17 = .ok (.return_, 1) := by decide +kernel
theorem dX5_canBeOne_0 : decode cX5_canBeOne 0 = .ok (.lload_n 0, 1) := by decide +kernel
theorem dX5_canBeOne_1 : decode cX5_canBeOne 1 = .ok (.lconst 0, 1) := by decide +kernel
theorem dX5_canBeOne_2 : decode cX5_canBeOne 2 = .ok (.ldc2_w 357, 3) := by decide +kernel
theorem dX5_canBeOne_5 : decode cX5_canBeOne 5 = .ok (.invokestatic 50, 3) := by decide +kernel
theorem dX5_canBeOne_8 : decode cX5_canBeOne 8 = .ok (.ifCond .eq 42, 3) := by decide +kernel
theorem dX5_canBeOne_11 : decode cX5_canBeOne 11 = .ok (.lload_n 2, 1) := by decide +kernel
theorem dX5_canBeOne_12 : decode cX5_canBeOne 12 = .ok (.lconst 0, 1) := by decide +kernel
theorem dX5_canBeOne_13 : decode cX5_canBeOne 13 = .ok (.ldc2_w 359, 3) := by decide +kernel
theorem dX5_canBeOne_16 : decode cX5_canBeOne 16 = .ok (.invokestatic 50, 3) := by decide +kernel
theorem dX5_canBeOne_19 : decode cX5_canBeOne 19 = .ok (.ifCond .eq 31, 3) := by decide +kernel
theorem dX5_canBeOne_22 : decode cX5_canBeOne 22 = .ok (.lload 4, 2) := by decide +kernel
theorem dX5_canBeOne_24 : decode cX5_canBeOne 24 = .ok (.lconst 0, 1) := by decide +kernel
theorem dX5_canBeOne_25 : decode cX5_canBeOne 25 = .ok (.ldc2_w 359, 3) := by decide +kernel
theorem dX5_canBeOne_28 : decode cX5_canBeOne 28 = .ok (.invokestatic 50, 3) := by decide +kernel
theorem dX5_canBeOne_31 : decode cX5_canBeOne 31 = .ok (.ifCond .eq 19, 3) := by decide +kernel
theorem dX5_canBeOne_34 : decode cX5_canBeOne 34 = .ok (.lload 6, 2) := by decide +kernel
theorem dX5_canBeOne_36 : decode cX5_canBeOne 36 = .ok (.lconst 0, 1) := by decide +kernel
theorem dX5_canBeOne_37 : decode cX5_canBeOne 37 = .ok (.ldc2_w 359, 3) := by decide +kernel
theorem dX5_canBeOne_40 : decode cX5_canBeOne 40 = .ok (.invokestatic 50, 3) := by decide +kernel
theorem dX5_canBeOne_43 : decode cX5_canBeOne 43 = .ok (.ifCond .eq 7, 3) := by decide +kernel
theorem dX5_canBeOne_46 : decode cX5_canBeOne 46 = .ok (.iconst 1, 1) := by decide +kernel
theorem dX5_canBeOne_47 : decode cX5_canBeOne 47 = .ok (.goto 4, 3) := by decide +kernel
theorem dX5_canBeOne_50 : decode cX5_canBeOne 50 = .ok (.iconst 0, 1) := by decide +kernel
theorem dX5_canBeOne_51 : decode cX5_canBeOne 51 = .ok (.ireturn, 1) := by decide +kernel
theorem dX5_canBeTold_0 : decode cX5_canBeTold 0 = .ok (.iload_n 0, 1) := by decide +kernel
theorem dX5_canBeTold_1 : decode cX5_canBeTold 1 = .ok (.i2l, 1) := by decide +kernel
theorem dX5_canBeTold_2 : decode cX5_canBeTold 2 = .ok (.lconst 0, 1) := by decide +kernel
theorem dX5_canBeTold_3 : decode cX5_canBeTold 3 = .ok (.ldc2_w 216, 3) := by decide +kernel
theorem dX5_canBeTold_6 : decode cX5_canBeTold 6 = .ok (.invokestatic 50, 3) := by decide +kernel
theorem dX5_canBeTold_9 : decode cX5_canBeTold 9 = .ok (.ifCond .eq 19, 3) := by decide +kernel
theorem dX5_canBeTold_12 : decode cX5_canBeTold 12 = .ok (.iload_n 1, 1) := by decide +kernel
theorem dX5_canBeTold_13 : decode cX5_canBeTold 13 = .ok (.i2l, 1) := by decide +kernel
theorem dX5_canBeTold_14 : decode cX5_canBeTold 14 = .ok (.lconst 0, 1) := by decide +kernel
theorem dX5_canBeTold_15 : decode cX5_canBeTold 15 = .ok (.ldc2_w 359, 3) := by decide +kernel
theorem dX5_canBeTold_18 : decode cX5_canBeTold 18 = .ok (.invokestatic 50, 3) := by decide +kernel
theorem dX5_canBeTold_21 : decode cX5_canBeTold 21 = .ok (.ifCond .eq 7, 3) := by decide +kernel
theorem dX5_canBeTold_24 : decode cX5_canBeTold 24 = .ok (.iconst 1, 1) := by decide +kernel
theorem dX5_canBeTold_25 : decode cX5_canBeTold 25 = .ok (.goto 4, 3) := by decide +kernel
theorem dX5_canBeTold_28 : decode cX5_canBeTold 28 = .ok (.iconst 0, 1) := by decide +kernel
theorem dX5_canBeTold_29 : decode cX5_canBeTold 29 = .ok (.ireturn, 1) := by decide +kernel
theorem dX5_copyFit_0 : decode cX5_copyFit 0 = .ok (.iload_n 1, 1) := by decide +kernel
theorem dX5_copyFit_1 : decode cX5_copyFit 1 = .ok (.invokestatic 44, 3) := by decide +kernel
theorem dX5_copyFit_4 : decode cX5_copyFit 4 = .ok (.ifCond .eq 10, 3) := by decide +kernel
theorem dX5_copyFit_7 : decode cX5_copyFit 7 = .ok (.iload_n 2, 1) := by decide +kernel
theorem dX5_copyFit_8 : decode cX5_copyFit 8 = .ok (.invokestatic 44, 3) := by decide +kernel
theorem dX5_copyFit_11 : decode cX5_copyFit 11 = .ok (.ifCond .ne 6, 3) := by decide +kernel
theorem dX5_copyFit_14 : decode cX5_copyFit 14 = .ok (.bipush (-2), 2) := by decide +kernel
theorem dX5_copyFit_16 : decode cX5_copyFit 16 = .ok (.ireturn, 1) := by decide +kernel
theorem dX5_copyFit_17 : decode cX5_copyFit 17 = .ok (.aload_n 0, 1) := by decide +kernel
theorem dX5_copyFit_18 : decode cX5_copyFit 18 = .ok (.getfield 29, 3) := by decide +kernel
theorem dX5_copyFit_21 : decode cX5_copyFit 21 = .ok (.iload_n 1, 1) := by decide +kernel
theorem dX5_copyFit_22 : decode cX5_copyFit 22 = .ok (.invokevirtual 361, 3) := by decide +kernel
theorem dX5_copyFit_25 : decode cX5_copyFit 25 = .ok (.ifCond .ne 14, 3) := by decide +kernel
theorem dX5_copyFit_28 : decode cX5_copyFit 28 = .ok (.aload_n 0, 1) := by decide +kernel
theorem dX5_copyFit_29 : decode cX5_copyFit 29 = .ok (.getfield 29, 3) := by decide +kernel
theorem dX5_copyFit_32 : decode cX5_copyFit 32 = .ok (.iload_n 2, 1) := by decide +kernel
theorem dX5_copyFit_33 : decode cX5_copyFit 33 = .ok (.invokevirtual 361, 3) := by decide +kernel
theorem dX5_copyFit_36 : decode cX5_copyFit 36 = .ok (.ifCond .eq 6, 3) := by decide +kernel
theorem dX5_copyFit_39 : decode cX5_copyFit 39 = .ok (.bipush (-3), 2) := by decide +kernel
theorem dX5_copyFit_41 : decode cX5_copyFit 41 = .ok (.ireturn, 1) := by decide +kernel
theorem dX5_copyFit_42 : decode cX5_copyFit 42 = .ok (.aload_n 0, 1) := by decide +kernel
theorem dX5_copyFit_43 : decode cX5_copyFit 43 = .ok (.getfield 29, 3) := by decide +kernel
theorem dX5_copyFit_46 : decode cX5_copyFit 46 = .ok (.iload_n 1, 1) := by decide +kernel
theorem dX5_copyFit_47 : decode cX5_copyFit 47 = .ok (.invokevirtual 364, 3) := by decide +kernel
theorem dX5_copyFit_50 : decode cX5_copyFit 50 = .ok (.ifCond .eq 14, 3) := by decide +kernel
theorem dX5_copyFit_53 : decode cX5_copyFit 53 = .ok (.aload_n 0, 1) := by decide +kernel
theorem dX5_copyFit_54 : decode cX5_copyFit 54 = .ok (.getfield 29, 3) := by decide +kernel
theorem dX5_copyFit_57 : decode cX5_copyFit 57 = .ok (.iload_n 2, 1) := by decide +kernel
theorem dX5_copyFit_58 : decode cX5_copyFit 58 = .ok (.invokevirtual 364, 3) := by decide +kernel
theorem dX5_copyFit_61 : decode cX5_copyFit 61 = .ok (.ifCond .ne 6, 3) := by decide +kernel
theorem dX5_copyFit_64 : decode cX5_copyFit 64 = .ok (.bipush (-4), 2) := by decide +kernel
theorem dX5_copyFit_66 : decode cX5_copyFit 66 = .ok (.ireturn, 1) := by decide +kernel
theorem dX5_copyFit_67 : decode cX5_copyFit 67 = .ok (.aload_n 0, 1) := by decide +kernel
theorem dX5_copyFit_68 : decode cX5_copyFit 68 = .ok (.getfield 29, 3) := by decide +kernel
theorem dX5_copyFit_71 : decode cX5_copyFit 71 = .ok (.getfield 90, 3) := by decide +kernel
theorem dX5_copyFit_74 : decode cX5_copyFit 74 = .ok (.iload_n 1, 1) := by decide +kernel
theorem dX5_copyFit_75 : decode cX5_copyFit 75 = .ok (.iaload, 1) := by decide +kernel
theorem dX5_copyFit_76 : decode cX5_copyFit 76 = .ok (.aload_n 0, 1) := by decide +kernel
theorem dX5_copyFit_77 : decode cX5_copyFit 77 = .ok (.getfield 29, 3) := by decide +kernel
theorem dX5_copyFit_80 : decode cX5_copyFit 80 = .ok (.getfield 90, 3) := by decide +kernel
theorem dX5_copyFit_83 : decode cX5_copyFit 83 = .ok (.iload_n 2, 1) := by decide +kernel
theorem dX5_copyFit_84 : decode cX5_copyFit 84 = .ok (.iaload, 1) := by decide +kernel
theorem dX5_copyFit_85 : decode cX5_copyFit 85 = .ok (.if_icmp .ne 7, 3) := by decide +kernel
theorem dX5_copyFit_88 : decode cX5_copyFit 88 = .ok (.iconst 0, 1) := by decide +kernel
theorem dX5_copyFit_89 : decode cX5_copyFit 89 = .ok (.goto 5, 3) := by decide +kernel
theorem dX5_copyFit_92 : decode cX5_copyFit 92 = .ok (.bipush (-3), 2) := by decide +kernel
theorem dX5_copyFit_94 : decode cX5_copyFit 94 = .ok (.ireturn, 1) := by decide +kernel
theorem dX5_hasSpan_0 : decode cX5_hasSpan 0 = .ok (.iload_n 2, 1) := by decide +kernel
theorem dX5_hasSpan_1 : decode cX5_hasSpan 1 = .ok (.ifCond .lt 30, 3) := by decide +kernel
theorem dX5_hasSpan_4 : decode cX5_hasSpan 4 = .ok (.iload_n 3, 1) := by decide +kernel
theorem dX5_hasSpan_5 : decode cX5_hasSpan 5 = .ok (.ifCond .lt 26, 3) := by decide +kernel
theorem dX5_hasSpan_8 : decode cX5_hasSpan 8 = .ok (.iload_n 2, 1) := by decide +kernel
theorem dX5_hasSpan_9 : decode cX5_hasSpan 9 = .ok (.i2l, 1) := by decide +kernel
theorem dX5_hasSpan_10 : decode cX5_hasSpan 10 = .ok (.iload_n 3, 1) := by decide +kernel
theorem dX5_hasSpan_11 : decode cX5_hasSpan 11 = .ok (.i2l, 1) := by decide +kernel
theorem dX5_hasSpan_12 : decode cX5_hasSpan 12 = .ok (.ladd, 1) := by decide +kernel
theorem dX5_hasSpan_13 : decode cX5_hasSpan 13 = .ok (.aload_n 0, 1) := by decide +kernel
theorem dX5_hasSpan_14 : decode cX5_hasSpan 14 = .ok (.getfield 29, 3) := by decide +kernel
theorem dX5_hasSpan_17 : decode cX5_hasSpan 17 = .ok (.getfield 67, 3) := by decide +kernel
theorem dX5_hasSpan_20 : decode cX5_hasSpan 20 = .ok (.iload_n 1, 1) := by decide +kernel
theorem dX5_hasSpan_21 : decode cX5_hasSpan 21 = .ok (.iaload, 1) := by decide +kernel
theorem dX5_hasSpan_22 : decode cX5_hasSpan 22 = .ok (.i2l, 1) := by decide +kernel
theorem dX5_hasSpan_23 : decode cX5_hasSpan 23 = .ok (.lcmp, 1) := by decide +kernel
theorem dX5_hasSpan_24 : decode cX5_hasSpan 24 = .ok (.ifCond .gt 7, 3) := by decide +kernel
theorem dX5_hasSpan_27 : decode cX5_hasSpan 27 = .ok (.iconst 1, 1) := by decide +kernel
theorem dX5_hasSpan_28 : decode cX5_hasSpan 28 = .ok (.goto 4, 3) := by decide +kernel
theorem dX5_hasSpan_31 : decode cX5_hasSpan 31 = .ok (.iconst 0, 1) := by decide +kernel
theorem dX5_hasSpan_32 : decode cX5_hasSpan 32 = .ok (.ireturn, 1) := by decide +kernel
theorem dX5_isPair_0 : decode cX5_isPair 0 = .ok (.aload_n 0, 1) := by decide +kernel
theorem dX5_isPair_1 : decode cX5_isPair 1 = .ok (.getfield 10, 3) := by decide +kernel
theorem dX5_isPair_4 : decode cX5_isPair 4 = .ok (.iload_n 1, 1) := by decide +kernel
theorem dX5_isPair_5 : decode cX5_isPair 5 = .ok (.invokevirtual 192, 3) := by decide +kernel
theorem dX5_isPair_8 : decode cX5_isPair 8 = .ok (.ifCond .eq 18, 3) := by decide +kernel
theorem dX5_isPair_11 : decode cX5_isPair 11 = .ok (.aload_n 0, 1) := by decide +kernel
theorem dX5_isPair_12 : decode cX5_isPair 12 = .ok (.getfield 10, 3) := by decide +kernel
theorem dX5_isPair_15 : decode cX5_isPair 15 = .ok (.iload_n 2, 1) := by decide +kernel
theorem dX5_isPair_16 : decode cX5_isPair 16 = .ok (.invokevirtual 168, 3) := by decide +kernel
theorem dX5_isPair_19 : decode cX5_isPair 19 = .ok (.ifCond .eq 7, 3) := by decide +kernel
theorem dX5_isPair_22 : decode cX5_isPair 22 = .ok (.iconst 1, 1) := by decide +kernel
theorem dX5_isPair_23 : decode cX5_isPair 23 = .ok (.goto 4, 3) := by decide +kernel
theorem dX5_isPair_26 : decode cX5_isPair 26 = .ok (.iconst 0, 1) := by decide +kernel
theorem dX5_isPair_27 : decode cX5_isPair 27 = .ok (.ireturn, 1) := by decide +kernel
theorem dX5_isSetOf_0 : decode cX5_isSetOf 0 = .ok (.iload_n 0, 1) := by decide +kernel
theorem dX5_isSetOf_1 : decode cX5_isSetOf 1 = .ok (.iload_n 1, 1) := by decide +kernel
theorem dX5_isSetOf_2 : decode cX5_isSetOf 2 = .ok (.invokestatic 186, 3) := by decide +kernel
theorem dX5_isSetOf_5 : decode cX5_isSetOf 5 = .ok (.iconst (-1), 1) := by decide +kernel
theorem dX5_isSetOf_6 : decode cX5_isSetOf 6 = .ok (.ixor, 1) := by decide +kernel
theorem dX5_isSetOf_7 : decode cX5_isSetOf 7 = .ok (.iand, 1) := by decide +kernel
theorem dX5_isSetOf_8 : decode cX5_isSetOf 8 = .ok (.ifCond .ne 7, 3) := by decide +kernel
theorem dX5_isSetOf_11 : decode cX5_isSetOf 11 = .ok (.iconst 1, 1) := by decide +kernel
theorem dX5_isSetOf_12 : decode cX5_isSetOf 12 = .ok (.goto 4, 3) := by decide +kernel
theorem dX5_isSetOf_15 : decode cX5_isSetOf 15 = .ok (.iconst 0, 1) := by decide +kernel
theorem dX5_isSetOf_16 : decode cX5_isSetOf 16 = .ok (.ireturn, 1) := by decide +kernel
theorem dX5_isShelf_0 : decode cX5_isShelf 0 = .ok (.iload_n 0, 1) := by decide +kernel
theorem dX5_isShelf_1 : decode cX5_isShelf 1 = .ok (.i2l, 1) := by decide +kernel
theorem dX5_isShelf_2 : decode cX5_isShelf 2 = .ok (.lconst 0, 1) := by decide +kernel
theorem dX5_isShelf_3 : decode cX5_isShelf 3 = .ok (.ldc2_w 355, 3) := by decide +kernel
theorem dX5_isShelf_6 : decode cX5_isShelf 6 = .ok (.invokestatic 50, 3) := by decide +kernel
theorem dX5_isShelf_9 : decode cX5_isShelf 9 = .ok (.ireturn, 1) := by decide +kernel
theorem dX5_readFit_0 : decode cX5_readFit 0 = .ok (.aload_n 0, 1) := by decide +kernel
theorem dX5_readFit_1 : decode cX5_readFit 1 = .ok (.iload_n 1, 1) := by decide +kernel
theorem dX5_readFit_2 : decode cX5_readFit 2 = .ok (.iload_n 2, 1) := by decide +kernel
theorem dX5_readFit_3 : decode cX5_readFit 3 = .ok (.invokevirtual 210, 3) := by decide +kernel
theorem dX5_readFit_6 : decode cX5_readFit 6 = .ok (.ifCond .ne 6, 3) := by decide +kernel
theorem dX5_readFit_9 : decode cX5_readFit 9 = .ok (.bipush (-2), 2) := by decide +kernel
theorem dX5_readFit_11 : decode cX5_readFit 11 = .ok (.ireturn, 1) := by decide +kernel
theorem dX5_readFit_12 : decode cX5_readFit 12 = .ok (.aload_n 0, 1) := by decide +kernel
theorem dX5_readFit_13 : decode cX5_readFit 13 = .ok (.getfield 10, 3) := by decide +kernel
theorem dX5_readFit_16 : decode cX5_readFit 16 = .ok (.getfield 180, 3) := by decide +kernel
theorem dX5_readFit_19 : decode cX5_readFit 19 = .ok (.iload_n 2, 1) := by decide +kernel
theorem dX5_readFit_20 : decode cX5_readFit 20 = .ok (.invokestatic 183, 3) := by decide +kernel
theorem dX5_readFit_23 : decode cX5_readFit 23 = .ok (.ifCond .ne 17, 3) := by decide +kernel
theorem dX5_readFit_26 : decode cX5_readFit 26 = .ok (.aload_n 0, 1) := by decide +kernel
theorem dX5_readFit_27 : decode cX5_readFit 27 = .ok (.getfield 10, 3) := by decide +kernel
theorem dX5_readFit_30 : decode cX5_readFit 30 = .ok (.getfield 207, 3) := by decide +kernel
theorem dX5_readFit_33 : decode cX5_readFit 33 = .ok (.iload_n 1, 1) := by decide +kernel
theorem dX5_readFit_34 : decode cX5_readFit 34 = .ok (.invokestatic 183, 3) := by decide +kernel
theorem dX5_readFit_37 : decode cX5_readFit 37 = .ok (.ifCond .eq 8, 3) := by decide +kernel
theorem dX5_readFit_40 : decode cX5_readFit 40 = .ok (.bipush (-5), 2) := by decide +kernel
theorem dX5_readFit_42 : decode cX5_readFit 42 = .ok (.goto 4, 3) := by decide +kernel
theorem dX5_readFit_45 : decode cX5_readFit 45 = .ok (.iconst 0, 1) := by decide +kernel
theorem dX5_readFit_46 : decode cX5_readFit 46 = .ok (.ireturn, 1) := by decide +kernel
theorem dX5_refuse_0 : decode cX5_refuse 0 = .ok (.bipush (-2), 2) := by decide +kernel
theorem dX5_refuse_2 : decode cX5_refuse 2 = .ok (.iload_n 1, 1) := by decide +kernel
theorem dX5_refuse_3 : decode cX5_refuse 3 = .ok (.isub, 1) := by decide +kernel
theorem dX5_refuse_4 : decode cX5_refuse 4 = .ok (.istore_n 2, 1) := by decide +kernel
theorem dX5_refuse_5 : decode cX5_refuse 5 = .ok (.iload_n 2, 1) := by decide +kernel
theorem dX5_refuse_6 : decode cX5_refuse 6 = .ok (.i2l, 1) := by decide +kernel
theorem dX5_refuse_7 : decode cX5_refuse 7 = .ok (.lconst 0, 1) := by decide +kernel
theorem dX5_refuse_8 : decode cX5_refuse 8 = .ok (.aload_n 0, 1) := by decide +kernel
theorem dX5_refuse_9 : decode cX5_refuse 9 = .ok (.getfield 40, 3) := by decide +kernel
theorem dX5_refuse_12 : decode cX5_refuse 12 = .ok (.arraylength, 1) := by decide +kernel
theorem dX5_refuse_13 : decode cX5_refuse 13 = .ok (.iconst 1, 1) := by decide +kernel
theorem dX5_refuse_14 : decode cX5_refuse 14 = .ok (.isub, 1) := by decide +kernel
theorem dX5_refuse_15 : decode cX5_refuse 15 = .ok (.i2l, 1) := by decide +kernel
theorem dX5_refuse_16 : decode cX5_refuse 16 = .ok (.invokestatic 50, 3) := by decide +kernel
theorem dX5_refuse_19 : decode cX5_refuse 19 = .ok (.ifCond .eq 13, 3) := by decide +kernel
theorem dX5_refuse_22 : decode cX5_refuse 22 = .ok (.aload_n 0, 1) := by decide +kernel
theorem dX5_refuse_23 : decode cX5_refuse 23 = .ok (.getfield 40, 3) := by decide +kernel
theorem dX5_refuse_26 : decode cX5_refuse 26 = .ok (.iload_n 2, 1) := by decide +kernel
theorem dX5_refuse_27 : decode cX5_refuse 27 = .ok (.dup2, 1) := by decide +kernel
theorem dX5_refuse_28 : decode cX5_refuse 28 = .ok (.iaload, 1) := by decide +kernel
theorem dX5_refuse_29 : decode cX5_refuse 29 = .ok (.iconst 1, 1) := by decide +kernel
theorem dX5_refuse_30 : decode cX5_refuse 30 = .ok (.iadd, 1) := by decide +kernel
theorem dX5_refuse_31 : decode cX5_refuse 31 = .ok (.iastore, 1) := by decide +kernel
theorem dX5_refuse_32 : decode cX5_refuse 32 = .ok (.iload_n 1, 1) := by decide +kernel
theorem dX5_refuse_33 : decode cX5_refuse 33 = .ok (.ireturn, 1) := by decide +kernel
theorem dX5_rowFit_0 : decode cX5_rowFit 0 = .ok (.iload_n 1, 1) := by decide +kernel
theorem dX5_rowFit_1 : decode cX5_rowFit 1 = .ok (.invokestatic 44, 3) := by decide +kernel
theorem dX5_rowFit_4 : decode cX5_rowFit 4 = .ok (.ifCond .ne 6, 3) := by decide +kernel
theorem dX5_rowFit_7 : decode cX5_rowFit 7 = .ok (.bipush (-2), 2) := by decide +kernel
theorem dX5_rowFit_9 : decode cX5_rowFit 9 = .ok (.ireturn, 1) := by decide +kernel
theorem dX5_rowFit_10 : decode cX5_rowFit 10 = .ok (.aload_n 0, 1) := by decide +kernel
theorem dX5_rowFit_11 : decode cX5_rowFit 11 = .ok (.getfield 29, 3) := by decide +kernel
theorem dX5_rowFit_14 : decode cX5_rowFit 14 = .ok (.iload_n 1, 1) := by decide +kernel
theorem dX5_rowFit_15 : decode cX5_rowFit 15 = .ok (.invokevirtual 361, 3) := by decide +kernel
theorem dX5_rowFit_18 : decode cX5_rowFit 18 = .ok (.ifCond .eq 6, 3) := by decide +kernel
theorem dX5_rowFit_21 : decode cX5_rowFit 21 = .ok (.bipush (-3), 2) := by decide +kernel
theorem dX5_rowFit_23 : decode cX5_rowFit 23 = .ok (.ireturn, 1) := by decide +kernel
theorem dX5_rowFit_24 : decode cX5_rowFit 24 = .ok (.aload_n 0, 1) := by decide +kernel
theorem dX5_rowFit_25 : decode cX5_rowFit 25 = .ok (.getfield 29, 3) := by decide +kernel
theorem dX5_rowFit_28 : decode cX5_rowFit 28 = .ok (.iload_n 1, 1) := by decide +kernel
theorem dX5_rowFit_29 : decode cX5_rowFit 29 = .ok (.invokevirtual 364, 3) := by decide +kernel
theorem dX5_rowFit_32 : decode cX5_rowFit 32 = .ok (.ifCond .eq 7, 3) := by decide +kernel
theorem dX5_rowFit_35 : decode cX5_rowFit 35 = .ok (.iconst 0, 1) := by decide +kernel
theorem dX5_rowFit_36 : decode cX5_rowFit 36 = .ok (.goto 5, 3) := by decide +kernel
theorem dX5_rowFit_39 : decode cX5_rowFit 39 = .ok (.bipush (-4), 2) := by decide +kernel
theorem dX5_rowFit_41 : decode cX5_rowFit 41 = .ok (.ireturn, 1) := by decide +kernel
theorem dX5_ruleFit_0 : decode cX5_ruleFit 0 = .ok (.iload_n 1, 1) := by decide +kernel
theorem dX5_ruleFit_1 : decode cX5_ruleFit 1 = .ok (.invokestatic 44, 3) := by decide +kernel
theorem dX5_ruleFit_4 : decode cX5_ruleFit 4 = .ok (.ifCond .ne 6, 3) := by decide +kernel
theorem dX5_ruleFit_7 : decode cX5_ruleFit 7 = .ok (.bipush (-2), 2) := by decide +kernel
theorem dX5_ruleFit_9 : decode cX5_ruleFit 9 = .ok (.ireturn, 1) := by decide +kernel
theorem dX5_ruleFit_10 : decode cX5_ruleFit 10 = .ok (.aload_n 0, 1) := by decide +kernel
theorem dX5_ruleFit_11 : decode cX5_ruleFit 11 = .ok (.getfield 29, 3) := by decide +kernel
theorem dX5_ruleFit_14 : decode cX5_ruleFit 14 = .ok (.iload_n 1, 1) := by decide +kernel
theorem dX5_ruleFit_15 : decode cX5_ruleFit 15 = .ok (.invokevirtual 364, 3) := by decide +kernel
theorem dX5_ruleFit_18 : decode cX5_ruleFit 18 = .ok (.ifCond .eq 6, 3) := by decide +kernel
theorem dX5_ruleFit_21 : decode cX5_ruleFit 21 = .ok (.bipush (-3), 2) := by decide +kernel
theorem dX5_ruleFit_23 : decode cX5_ruleFit 23 = .ok (.ireturn, 1) := by decide +kernel
theorem dX5_ruleFit_24 : decode cX5_ruleFit 24 = .ok (.aload_n 0, 1) := by decide +kernel
theorem dX5_ruleFit_25 : decode cX5_ruleFit 25 = .ok (.getfield 29, 3) := by decide +kernel
theorem dX5_ruleFit_28 : decode cX5_ruleFit 28 = .ok (.iload_n 1, 1) := by decide +kernel
theorem dX5_ruleFit_29 : decode cX5_ruleFit 29 = .ok (.invokevirtual 361, 3) := by decide +kernel
theorem dX5_ruleFit_32 : decode cX5_ruleFit 32 = .ok (.ifCond .eq 7, 3) := by decide +kernel
theorem dX5_ruleFit_35 : decode cX5_ruleFit 35 = .ok (.iconst 0, 1) := by decide +kernel
theorem dX5_ruleFit_36 : decode cX5_ruleFit 36 = .ok (.goto 5, 3) := by decide +kernel
theorem dX5_ruleFit_39 : decode cX5_ruleFit 39 = .ok (.bipush (-4), 2) := by decide +kernel
theorem dX5_ruleFit_41 : decode cX5_ruleFit 41 = .ok (.ireturn, 1) := by decide +kernel
theorem dX5_toldFit_0 : decode cX5_toldFit 0 = .ok (.iload_n 2, 1) := by decide +kernel
theorem dX5_toldFit_1 : decode cX5_toldFit 1 = .ok (.i2l, 1) := by decide +kernel
theorem dX5_toldFit_2 : decode cX5_toldFit 2 = .ok (.lconst 0, 1) := by decide +kernel
theorem dX5_toldFit_3 : decode cX5_toldFit 3 = .ok (.ldc2_w 327, 3) := by decide +kernel
theorem dX5_toldFit_6 : decode cX5_toldFit 6 = .ok (.invokestatic 50, 3) := by decide +kernel
theorem dX5_toldFit_9 : decode cX5_toldFit 9 = .ok (.ifCond .eq 11, 3) := by decide +kernel
theorem dX5_toldFit_12 : decode cX5_toldFit 12 = .ok (.aload_n 0, 1) := by decide +kernel
theorem dX5_toldFit_13 : decode cX5_toldFit 13 = .ok (.iload_n 1, 1) := by decide +kernel
theorem dX5_toldFit_14 : decode cX5_toldFit 14 = .ok (.invokevirtual 64, 3) := by decide +kernel
theorem dX5_toldFit_17 : decode cX5_toldFit 17 = .ok (.goto 5, 3) := by decide +kernel
theorem dX5_toldFit_20 : decode cX5_toldFit 20 = .ok (.bipush (-2), 2) := by decide +kernel
theorem dX5_toldFit_22 : decode cX5_toldFit 22 = .ok (.istore_n 3, 1) := by decide +kernel
theorem dX5_toldFit_23 : decode cX5_toldFit 23 = .ok (.iload_n 3, 1) := by decide +kernel
theorem dX5_toldFit_24 : decode cX5_toldFit 24 = .ok (.ifCond .ne 21, 3) := by decide +kernel
theorem dX5_toldFit_27 : decode cX5_toldFit 27 = .ok (.iload_n 2, 1) := by decide +kernel
theorem dX5_toldFit_28 : decode cX5_toldFit 28 = .ok (.aload_n 0, 1) := by decide +kernel
theorem dX5_toldFit_29 : decode cX5_toldFit 29 = .ok (.getfield 29, 3) := by decide +kernel
theorem dX5_toldFit_32 : decode cX5_toldFit 32 = .ok (.getfield 67, 3) := by decide +kernel
theorem dX5_toldFit_35 : decode cX5_toldFit 35 = .ok (.iload_n 1, 1) := by decide +kernel
theorem dX5_toldFit_36 : decode cX5_toldFit 36 = .ok (.iaload, 1) := by decide +kernel
theorem dX5_toldFit_37 : decode cX5_toldFit 37 = .ok (.if_icmp .le 8, 3) := by decide +kernel
theorem dX5_toldFit_40 : decode cX5_toldFit 40 = .ok (.bipush (-2), 2) := by decide +kernel
theorem dX5_toldFit_42 : decode cX5_toldFit 42 = .ok (.goto 4, 3) := by decide +kernel
theorem dX5_toldFit_45 : decode cX5_toldFit 45 = .ok (.iload_n 3, 1) := by decide +kernel
theorem dX5_toldFit_46 : decode cX5_toldFit 46 = .ok (.ireturn, 1) := by decide +kernel
set_option maxHeartbeats 4000000 in
set_option maxRecDepth 100000 in
theorem c_X2_hasRow (l : Launch) (G : va_G) (cy : Nat → ClassId) (qs : Nat) (qsh : Nat) (qss : Nat) (qsa : Nat) (qse : Nat) (fH : Nat → Int32) (kS : Nat)  (hS8 : kS < 8) : MR l yX2_hasRow cX2_hasRow 2 (some .boolean) 1 G cy [zzO qs 1 [.ref qsh, .ref qss, .ref qsa, .ref qse], zzI cy qsh 8 fH] [.ref qs, .int (nI kS)] (vp_Si (fun r => (r = 1 ∧ Rw (fH kS)) ∨ (r = 0 ∧ ¬ Rw (fH kS)))) := by
  refine enR RX2 (by decide) rfl (Nat.le_of_ble_eq_true rfl) (fun p e s m below meth c ls hx hb hml hown hts hr hlocks hP hN hl => ?_)
  have hK := hN.1
  replace hl : lv_has ls 2 [(0, .ref qs), (1, .int (nI kS))] := hl
  refine lv_aload_n hx hb dX2_hasRow_0 rfl (lv_at hl 0 rfl) ?_
  refine va_get (D := G) (ci := 1) (v := .ref qsh) (C := RX2) (T := TX2) (N := 4) hx hb hts iX_X2 hown hK hP 0 rfl rfl 0 (by decide) (hts _ m_t123) (fun _ h9 => h9) rfl dX2_hasRow_1 ?_
  refine lv_iload_n hx hb dX2_hasRow_4 rfl (lv_at hl 1 rfl) ?_
  refine va_iald hx hb hK hP 1 0 rfl rfl (in8 (by omega)) dX2_hasRow_5 ?_
  refine lv_seti (v := fH kS) (congrArg fH (cl8 (by omega))) ?_
  refine lv_if_lt (tgt := 23) hx hb dX2_hasRow_6 (by decide) (fun c_1 => ?_) (fun c_1 => ?_)
  · refine lv_iconst (v := 0) hx hb dX2_hasRow_23 (by decide) ?_
    exact endR hx hb hr hlocks rfl (Or.inr (⟨rfl, (fun q => q.1 c_1)⟩)) dX2_hasRow_24
  · refine lv_aload_n hx hb dX2_hasRow_9 rfl (lv_at hl 0 rfl) ?_
    refine va_get (D := G) (ci := 1) (v := .ref qsh) (C := RX2) (T := TX2) (N := 4) hx hb hts iX_X2 hown hK hP 0 rfl rfl 0 (by decide) (hts _ m_t123) (fun _ h9 => h9) rfl dX2_hasRow_10 ?_
    refine lv_iload_n hx hb dX2_hasRow_13 rfl (lv_at hl 1 rfl) ?_
    refine va_iald hx hb hK hP 1 0 rfl rfl (in8 (by omega)) dX2_hasRow_14 ?_
    refine lv_seti (v := fH kS) (congrArg fH (cl8 (by omega))) ?_
    refine lv_iconst (v := 4) hx hb dX2_hasRow_15 (by decide) ?_
    refine lv_icmp_gt (tgt := 23) hx hb dX2_hasRow_16 (by decide) (fun c_2 => ?_) (fun c_2 => ?_)
    · refine lv_iconst (v := 0) hx hb dX2_hasRow_23 (by decide) ?_
      exact endR hx hb hr hlocks rfl (Or.inr (⟨rfl, (fun q => q.2 c_2)⟩)) dX2_hasRow_24
    · refine lv_iconst (v := 1) hx hb dX2_hasRow_19 (by decide) ?_
      refine lv_goto (tgt := 24) hx hb dX2_hasRow_20 (by decide) ?_
      exact endR hx hb hr hlocks rfl (Or.inl (⟨rfl, ⟨c_1, c_2⟩⟩)) dX2_hasRow_24
set_option maxHeartbeats 4000000 in
set_option maxRecDepth 100000 in
theorem c_X2_hasRule (l : Launch) (G : va_G) (cy : Nat → ClassId) (qs : Nat) (qsh : Nat) (qss : Nat) (qsa : Nat) (qse : Nat) (fH : Nat → Int32) (kS : Nat)  (hS8 : kS < 8) : MR l yX2_hasRule cX2_hasRule 2 (some .boolean) 1 G cy [zzO qs 1 [.ref qsh, .ref qss, .ref qsa, .ref qse], zzI cy qsh 8 fH] [.ref qs, .int (nI kS)] (vp_Si (fun r => (r = 1 ∧ 10 ≤ fH kS) ∨ (r = 0 ∧ ¬ 10 ≤ fH kS))) := by
  refine enR RX2 (by decide) rfl (Nat.le_of_ble_eq_true rfl) (fun p e s m below meth c ls hx hb hml hown hts hr hlocks hP hN hl => ?_)
  have hK := hN.1
  replace hl : lv_has ls 2 [(0, .ref qs), (1, .int (nI kS))] := hl
  refine lv_aload_n hx hb dX2_hasRule_0 rfl (lv_at hl 0 rfl) ?_
  refine va_get (D := G) (ci := 1) (v := .ref qsh) (C := RX2) (T := TX2) (N := 4) hx hb hts iX_X2 hown hK hP 0 rfl rfl 0 (by decide) (hts _ m_t123) (fun _ h9 => h9) rfl dX2_hasRule_1 ?_
  refine lv_iload_n hx hb dX2_hasRule_4 rfl (lv_at hl 1 rfl) ?_
  refine va_iald hx hb hK hP 1 0 rfl rfl (in8 (by omega)) dX2_hasRule_5 ?_
  refine lv_seti (v := fH kS) (congrArg fH (cl8 (by omega))) ?_
  refine lv_bipush (v := 10) hx hb dX2_hasRule_6 (by decide) ?_
  refine lv_icmp_lt (tgt := 15) hx hb dX2_hasRule_8 (by decide) (fun c_1 => ?_) (fun c_1 => ?_)
  · refine lv_iconst (v := 0) hx hb dX2_hasRule_15 (by decide) ?_
    exact endR hx hb hr hlocks rfl (Or.inr (⟨rfl, Int32.not_le.mpr c_1⟩)) dX2_hasRule_16
  · refine lv_iconst (v := 1) hx hb dX2_hasRule_11 (by decide) ?_
    refine lv_goto (tgt := 16) hx hb dX2_hasRule_12 (by decide) ?_
    exact endR hx hb hr hlocks rfl (Or.inl (⟨rfl, Int32.not_lt.mp c_1⟩)) dX2_hasRule_16
set_option maxHeartbeats 4000000 in
set_option maxRecDepth 100000 in
theorem c_X2_kindIn (l : Launch) (G : va_G) (cy : Nat → ClassId) (qs : Nat) (qsh : Nat) (qss : Nat) (qsa : Nat) (qse : Nat) (fH : Nat → Int32) (kS : Nat)  (hS8 : kS < 8) : MR l yX2_kindIn cX2_kindIn 2 (some .int) 1 G cy [zzO qs 1 [.ref qsh, .ref qss, .ref qsa, .ref qse], zzI cy qsh 8 fH] [.ref qs, .int (nI kS)] (vp_Si (fun r => (r = ((fH kS) - 10)))) := by
  refine enR RX2 (by decide) rfl (Nat.le_of_ble_eq_true rfl) (fun p e s m below meth c ls hx hb hml hown hts hr hlocks hP hN hl => ?_)
  have hK := hN.1
  replace hl : lv_has ls 2 [(0, .ref qs), (1, .int (nI kS))] := hl
  refine lv_aload_n hx hb dX2_kindIn_0 rfl (lv_at hl 0 rfl) ?_
  refine va_get (D := G) (ci := 1) (v := .ref qsh) (C := RX2) (T := TX2) (N := 4) hx hb hts iX_X2 hown hK hP 0 rfl rfl 0 (by decide) (hts _ m_t123) (fun _ h9 => h9) rfl dX2_kindIn_1 ?_
  refine lv_iload_n hx hb dX2_kindIn_4 rfl (lv_at hl 1 rfl) ?_
  refine va_iald hx hb hK hP 1 0 rfl rfl (in8 (by omega)) dX2_kindIn_5 ?_
  refine lv_seti (v := fH kS) (congrArg fH (cl8 (by omega))) ?_
  refine lv_bipush (v := 10) hx hb dX2_kindIn_6 (by decide) ?_
  refine lv_isub hx hb dX2_kindIn_8 ?_
  exact endR hx hb hr hlocks rfl rfl dX2_kindIn_9
set_option maxHeartbeats 4000000 in
set_option maxRecDepth 100000 in
theorem c_X2_countHolding (l : Launch) (G : va_G) (cy : Nat → ClassId) (qs : Nat) (qsh : Nat) (qss : Nat) (qsa : Nat) (qse : Nat) (fH : Nat → Int32)   : MR l yX2_countHolding cX2_countHolding 3 (some .int) 1 G cy [zzO qs 1 [.ref qsh, .ref qss, .ref qsa, .ref qse], zzI cy qsh 8 fH] [.ref qs] (vp_Si (fun r => True)) := by
  refine enR RX2 (by decide) rfl (Nat.le_of_ble_eq_true rfl) (fun p e s m below meth c ls hx hb hml hown hts hr hlocks hP hN hl => ?_)
  have hK := hN.1
  replace hl : lv_has ls 3 [(0, .ref qs)] := hl
  refine lv_iconst (v := 0) hx hb dX2_countHolding_0 (by decide) ?_
  refine lv_istore_n (lv' := [(1, .int 0), (0, .ref qs)]) hx hb dX2_countHolding_1 rfl hl (by decide) rfl (fun ls => ?_)
  clear hl
  intro hl
  refine lv_iconst (v := 0) hx hb dX2_countHolding_2 (by decide) ?_
  refine lv_istore_n (lv' := [(2, .int 0), (1, .int 0), (0, .ref qs)]) hx hb dX2_countHolding_3 rfl hl (by decide) rfl (fun ls => ?_)
  clear hl
  intro hl
  have lp_1 : ∀ (n_2 : Nat) (j_4 : Nat) (xC_5 : Int32), 8 - j_4 < n_2 → j_4 ≤ 8 → ∀ (ls : Array Slot), lv_has ls 3 [(2, .int (nI j_4)), (1, .int xC_5), (0, .ref qs)] → W p l e (Rm 1 0 0) s m (List.toArray (α := Value) [.ref qs]) below meth c s.heap [] 0 0 (MQ below (vp_Si (fun r => True)) (List.toArray (α := Value) [.ref qs]) s 0 0 (fun _ => False)) (F0 m 4 ls []) := by
    intro n_2
    induction n_2 with
    | zero => intro j_4 xC_5 hm9; exact absurd hm9 (Nat.not_lt_zero _)
    | succ n_2 ih_3 =>
      intro j_4 xC_5 hm_7 hj_6 ls hl
      refine lv_iload_n hx hb dX2_countHolding_4 rfl (lv_at hl 0 rfl) ?_
      refine lv_bipush (v := 8) hx hb dX2_countHolding_5 (by decide) ?_
      refine lv_icmp_ge (tgt := 29) hx hb dX2_countHolding_7 (by decide) (fun c_8 => ?_) (fun c_8 => ?_)
      · have hlt_9 : j_4 = 8 := Nat.le_antisymm (by omega) (lp_ge rfl (rfl : (8 : Int32) = nI 8) (by omega) (by omega) c_8)
        refine lv_iload_n hx hb dX2_countHolding_29 rfl (lv_at hl 1 rfl) ?_
        exact endR hx hb hr hlocks rfl trivial dX2_countHolding_30
      · have hlt_10 : j_4 < 8 := lp_lt rfl (rfl : (8 : Int32) = nI 8) (by omega) (by omega) c_8
        refine lv_aload_n hx hb dX2_countHolding_10 rfl (lv_at hl 2 rfl) ?_
        refine va_get (D := G) (ci := 1) (v := .ref qsh) (C := RX2) (T := TX2) (N := 4) hx hb hts iX_X2 hown hK hP 0 rfl rfl 0 (by decide) (hts _ m_t123) (fun _ h9 => h9) rfl dX2_countHolding_11 ?_
        refine lv_iload_n hx hb dX2_countHolding_14 rfl (lv_at hl 0 rfl) ?_
        refine va_iald hx hb hK hP 1 0 rfl rfl (in8 (by omega)) dX2_countHolding_15 ?_
        refine lv_seti (v := fH j_4) (congrArg fH (cl8 (by omega))) ?_
        refine lv_iconst (v := (-1)) hx hb dX2_countHolding_16 (by decide) ?_
        refine lv_icmp_eq (tgt := 23) hx hb dX2_countHolding_17 (by decide) (fun c_11 => ?_) (fun c_11 => ?_)
        · refine lv_iinc (v := nI (j_4 + 1)) (lv' := [(2, .int (nI (j_4 + 1))), (1, .int xC_5), (0, .ref qs)]) hx hb dX2_countHolding_23 hl (k := 0) rfl (nI_1 _) (by decide) rfl (fun ls => ?_)
          clear hl
          intro hl
          refine lv_goto (tgt := 4) hx hb dX2_countHolding_26 (by decide) ?_
          exact ih_3 (j_4 + 1) xC_5 (by omega) (by omega) _ (lv_sub hl [0, 1, 2] rfl)
        · refine lv_iinc (v := xC_5 + 1) (lv' := [(1, .int (xC_5 + 1)), (2, .int (nI j_4)), (0, .ref qs)]) hx hb dX2_countHolding_20 hl (k := 1) rfl (rfl) (by decide) rfl (fun ls => ?_)
          clear hl
          intro hl
          refine lv_iinc (v := nI (j_4 + 1)) (lv' := [(2, .int (nI (j_4 + 1))), (1, .int (xC_5 + 1)), (0, .ref qs)]) hx hb dX2_countHolding_23 hl (k := 1) rfl (nI_1 _) (by decide) rfl (fun ls => ?_)
          clear hl
          intro hl
          refine lv_goto (tgt := 4) hx hb dX2_countHolding_26 (by decide) ?_
          exact ih_3 (j_4 + 1) (xC_5 + 1) (by omega) (by omega) _ (lv_sub hl [0, 1, 2] rfl)
  exact lp_1 ((8 - 0) + 1) 0 0 (Nat.lt_succ_self _) (Nat.zero_le _) ls (lv_sub hl [0, 1, 2] rfl)
set_option maxHeartbeats 4000000 in
set_option maxRecDepth 100000 in
theorem c_X2_putRule (l : Launch) (G : va_G) (cy : Nat → ClassId) (sz : Nat) (qs : Nat) (qsh : Nat) (qss : Nat) (qsa : Nat) (qse : Nat) (fH : Nat → Int32) (fA : Nat → Int32) (kS : Nat) (iB : Int32) (iC : Int32)  (hS8 : kS < 8) : MW l yX2_putRule cX2_putRule 4 none 1 0 0 G cy [zzO qs 1 [.ref qsh, .ref qss, .ref qsa, .ref qse], zzI cy qsh 8 fH, zzI cy qsa 8 fA] sz [.ref qs, .int (nI kS), .int iB, .int iC] (Wv G (fun u => u = [zzO qs 1 [.ref qsh, .ref qss, .ref qsa, .ref qse], zzI cy qsh 8 (upd fH kS (10 + iB)), zzI cy qsa 8 (upd fA kS iC)])) := by
  refine enW RX2 (by decide) rfl (Nat.le_of_ble_eq_true rfl) (fun p e s m below meth c ls A hx hb hml hown hts hr hlocks hP hN hl hin hD hA hS => ?_)
  have hin : meth.name = _ := hin
  have hK := hN.1
  replace hl : lv_has ls 4 [(0, .ref qs), (1, .int (nI kS)), (2, .int iB), (3, .int iC)] := hl
  refine lv_aload_n hx hb dX2_putRule_0 rfl (lv_at hl 0 rfl) ?_
  refine va_get (D := G) (ci := 1) (v := .ref qsh) (C := RX2) (T := TX2) (N := 4) hx hb hts iX_X2 hown hK hP 0 rfl rfl 0 (by decide) (hts _ m_t123) (fun _ h9 => h9) rfl dX2_putRule_1 ?_
  refine lv_iload_n hx hb dX2_putRule_4 rfl (lv_at hl 1 rfl) ?_
  refine lv_bipush (v := 10) hx hb dX2_putRule_5 (by decide) ?_
  refine lv_iload_n hx hb dX2_putRule_7 rfl (lv_at hl 2 rfl) ?_
  refine lv_iadd hx hb dX2_putRule_8 ?_
  refine va_iast hx hb hK hP hD hS 1 0 rfl rfl (in8 (by omega)) dX2_putRule_9 (fun H locs => ?_)
  clear hP hD hS
  intro hP hD hS
  rw [cl8 (k := kS) (by omega)] at hP hD
  have hPD := pd_as [zzO qs 1 [.ref qsh, .ref qss, .ref qsa, .ref qse], zzI cy qsh 8 (upd fH kS (10 + iB)), zzI cy qsa 8 fA] hP hD rfl
  clear hP hD
  obtain ⟨hP, hD⟩ := hPD
  refine lv_aload_n hx hb dX2_putRule_10 rfl (lv_at hl 0 rfl) ?_
  refine va_get (D := G) (ci := 1) (v := .ref qsa) (C := RX2) (T := TX2) (N := 4) hx hb hts iX_X2 hown hK hP 0 rfl rfl 2 (by decide) (hts _ m_t127) (fun _ h9 => h9) rfl dX2_putRule_11 ?_
  refine lv_iload_n hx hb dX2_putRule_14 rfl (lv_at hl 1 rfl) ?_
  refine lv_iload_n hx hb dX2_putRule_15 rfl (lv_at hl 3 rfl) ?_
  refine va_iast hx hb hK hP hD hS 2 0 rfl rfl (in8 (by omega)) dX2_putRule_16 (fun H locs => ?_)
  clear hP hD hS
  intro hP hD hS
  rw [cl8 (k := kS) (by omega)] at hP hD
  have hPD := pd_as [zzO qs 1 [.ref qsh, .ref qss, .ref qsa, .ref qse], zzI cy qsh 8 (upd fH kS (10 + iB)), zzI cy qsa 8 (upd fA kS iC)] hP hD rfl
  clear hP hD
  obtain ⟨hP, hD⟩ := hPD
  exact endV (u := [zzO qs 1 [.ref qsh, .ref qss, .ref qsa, .ref qse], zzI cy qsh 8 (upd fH kS (10 + iB)), zzI cy qsa 8 (upd fA kS iC)]) hx hb hr hlocks (hP.sub [0, 1, 2] rfl) (hD.sub [0, 1, 2] (by decide +kernel) rfl) hS rfl dX2_putRule_17
set_option maxHeartbeats 4000000 in
set_option maxRecDepth 100000 in
theorem c_X2_putRow (l : Launch) (G : va_G) (cy : Nat → ClassId) (sz : Nat) (qs : Nat) (qsh : Nat) (qss : Nat) (qsa : Nat) (qse : Nat) (fH : Nat → Int32) (fS : Nat → Int32) (gE : Nat → Int64) (kS : Nat) (iB : Int32) (kN : Nat)  (hS8 : kS < 8) (hN40 : kN ≤ 40) : MW l yX2_putRow cX2_putRow 5 none 1 0 0 G cy [zzO qs 1 [.ref qsh, .ref qss, .ref qsa, .ref qse], zzI cy qsh 8 fH, zzI cy qss 8 fS, zzJ cy qse 320 gE] sz [.ref qs, .int (nI kS), .int iB, .int (nI kN)] (Wv G (fun u => u = [zzO qs 1 [.ref qsh, .ref qss, .ref qsa, .ref qse], zzI cy qsh 8 (upd fH kS iB), zzI cy qss 8 (upd fS kS (nI kN)), zzJ cy qse 320 (zrF gE kS kN)])) := by
  refine enW RX2 (by decide) rfl (Nat.le_of_ble_eq_true rfl) (fun p e s m below meth c ls A hx hb hml hown hts hr hlocks hP hN hl hin hD hA hS => ?_)
  have hin : meth.name = _ := hin
  have hK := hN.1
  replace hl : lv_has ls 5 [(0, .ref qs), (1, .int (nI kS)), (2, .int iB), (3, .int (nI kN))] := hl
  refine lv_aload_n hx hb dX2_putRow_0 rfl (lv_at hl 0 rfl) ?_
  refine va_get (D := G) (ci := 1) (v := .ref qsh) (C := RX2) (T := TX2) (N := 4) hx hb hts iX_X2 hown hK hP 0 rfl rfl 0 (by decide) (hts _ m_t123) (fun _ h9 => h9) rfl dX2_putRow_1 ?_
  refine lv_iload_n hx hb dX2_putRow_4 rfl (lv_at hl 1 rfl) ?_
  refine lv_iload_n hx hb dX2_putRow_5 rfl (lv_at hl 2 rfl) ?_
  refine va_iast hx hb hK hP hD hS 1 0 rfl rfl (in8 (by omega)) dX2_putRow_6 (fun H locs => ?_)
  clear hP hD hS
  intro hP hD hS
  rw [cl8 (k := kS) (by omega)] at hP hD
  have hPD := pd_as [zzO qs 1 [.ref qsh, .ref qss, .ref qsa, .ref qse], zzI cy qsh 8 (upd fH kS iB), zzI cy qss 8 fS, zzJ cy qse 320 gE] hP hD rfl
  clear hP hD
  obtain ⟨hP, hD⟩ := hPD
  refine lv_aload_n hx hb dX2_putRow_7 rfl (lv_at hl 0 rfl) ?_
  refine va_get (D := G) (ci := 1) (v := .ref qss) (C := RX2) (T := TX2) (N := 4) hx hb hts iX_X2 hown hK hP 0 rfl rfl 1 (by decide) (hts _ m_t125) (fun _ h9 => h9) rfl dX2_putRow_8 ?_
  refine lv_iload_n hx hb dX2_putRow_11 rfl (lv_at hl 1 rfl) ?_
  refine lv_iload_n hx hb dX2_putRow_12 rfl (lv_at hl 3 rfl) ?_
  refine va_iast hx hb hK hP hD hS 2 0 rfl rfl (in8 (by omega)) dX2_putRow_13 (fun H locs => ?_)
  clear hP hD hS
  intro hP hD hS
  rw [cl8 (k := kS) (by omega)] at hP hD
  have hPD := pd_as [zzO qs 1 [.ref qsh, .ref qss, .ref qsa, .ref qse], zzI cy qsh 8 (upd fH kS iB), zzI cy qss 8 (upd fS kS (nI kN)), zzJ cy qse 320 gE] hP hD rfl
  clear hP hD
  obtain ⟨hP, hD⟩ := hPD
  refine lv_iconst (v := 0) hx hb dX2_putRow_14 (by decide) ?_
  refine lv_istore (lv' := [(4, .int 0), (0, .ref qs), (1, .int (nI kS)), (2, .int iB), (3, .int (nI kN))]) hx hb dX2_putRow_15 hl (by decide) rfl (fun ls => ?_)
  clear hl
  intro hl
  have lp_1 : ∀ (n_2 : Nat) (j_4 : Nat) (gJ_5 : Nat → Int64), 40 - j_4 < n_2 → j_4 ≤ kN → gJ_5 = zrF gE kS j_4 → ∀ (H : Heap) (locs : List Loc) (ls : Array Slot), va_P G CL [zzO qs 1 [.ref qsh, .ref qss, .ref qsa, .ref qse], zzI cy qsh 8 (upd fH kS iB), zzI cy qss 8 (upd fS kS (nI kN)), zzJ cy qse 320 gJ_5] H → va_D A [zzO qs 1 [.ref qsh, .ref qss, .ref qsa, .ref qse], zzI cy qsh 8 (upd fH kS iB), zzI cy qss 8 (upd fS kS (nI kN)), zzJ cy qse 320 gJ_5] → va_S A s.heap H locs → lv_has ls 5 [(4, .int (nI j_4)), (0, .ref qs), (1, .int (nI kS)), (2, .int iB), (3, .int (nI kN))] → W p l e (Rm 1 0 0) s m (List.toArray (α := Value) [.ref qs, .int (nI kS), .int iB, .int (nI kN)]) below meth c H locs 0 0 (MQ below ((Wv G (fun u => u = [zzO qs 1 [.ref qsh, .ref qss, .ref qsa, .ref qse], zzI cy qsh 8 (upd fH kS iB), zzI cy qss 8 (upd fS kS (nI kN)), zzJ cy qse 320 (zrF gE kS kN)])) A) (List.toArray (α := Value) [.ref qs, .int (nI kS), .int iB, .int (nI kN)]) s 0 0 A) (F0 m 17 ls []) := by
    intro n_2
    induction n_2 with
    | zero => intro j_4 gJ_5 hm9; exact absurd hm9 (Nat.not_lt_zero _)
    | succ n_2 ih_3 =>
      intro j_4 gJ_5 hm_8 hj_6 hgJ_7 H locs ls hP hD hS hl
      refine lv_iload hx hb dX2_putRow_17 (lv_at hl 0 rfl) ?_
      refine lv_iload_n hx hb dX2_putRow_19 rfl (lv_at hl 4 rfl) ?_
      refine lv_icmp_ge (tgt := 42) hx hb dX2_putRow_20 (by decide) (fun c_9 => ?_) (fun c_9 => ?_)
      · have hlt_10 : j_4 = kN := Nat.le_antisymm (by omega) (lp_ge rfl rfl (by omega) (by omega) c_9)
        have e9_11 : gJ_5 = zrF gE kS kN := by rw [hgJ_7, hlt_10]
        subst e9_11
        exact endV (u := [zzO qs 1 [.ref qsh, .ref qss, .ref qsa, .ref qse], zzI cy qsh 8 (upd fH kS iB), zzI cy qss 8 (upd fS kS (nI kN)), zzJ cy qse 320 (zrF gE kS kN)]) hx hb hr hlocks (hP.sub [0, 1, 2, 3] rfl) (hD.sub [0, 1, 2, 3] (by decide +kernel) rfl) hS rfl dX2_putRow_42
      · have hlt_12 : j_4 < kN := lp_lt rfl rfl (by omega) (by omega) c_9
        refine lv_aload_n hx hb dX2_putRow_23 rfl (lv_at hl 1 rfl) ?_
        refine va_get (D := G) (ci := 1) (v := .ref qse) (C := RX2) (T := TX2) (N := 4) hx hb hts iX_X2 hown hK hP 0 rfl rfl 3 (by decide) (hts _ m_t129) (fun _ h9 => h9) rfl dX2_putRow_24 ?_
        refine lv_iload_n hx hb dX2_putRow_27 rfl (lv_at hl 2 rfl) ?_
        refine lv_bipush (v := 40) hx hb dX2_putRow_28 (by decide) ?_
        refine lv_imul hx hb dX2_putRow_30 ?_
        refine lv_iload hx hb dX2_putRow_31 (lv_at hl 0 rfl) ?_
        refine lv_iadd hx hb dX2_putRow_33 ?_
        refine lv_lconst (v := 0) hx hb dX2_putRow_34 (by decide) ?_
        refine va_last hx hb hK hP hD hS 3 1 rfl rfl (in320 (by omega) (by omega)) dX2_putRow_35 (fun H locs => ?_)
        clear hP hD hS
        intro hP hD hS
        rw [cl320 (s := kS) (i := j_4) (by omega) (by omega)] at hP hD
        have hPD := pd_as [zzO qs 1 [.ref qsh, .ref qss, .ref qsa, .ref qse], zzI cy qsh 8 (upd fH kS iB), zzI cy qss 8 (upd fS kS (nI kN)), zzJ cy qse 320 (vp_updL gJ_5 (kS * 40 + j_4) 0)] hP hD rfl
        clear hP hD
        obtain ⟨hP, hD⟩ := hPD
        refine lv_iinc (v := nI (j_4 + 1)) (lv' := [(4, .int (nI (j_4 + 1))), (0, .ref qs), (1, .int (nI kS)), (2, .int iB), (3, .int (nI kN))]) hx hb dX2_putRow_36 hl (k := 0) rfl (nI_1 _) (by decide) rfl (fun ls => ?_)
        clear hl
        intro hl
        refine lv_goto (tgt := 17) hx hb dX2_putRow_39 (by decide) ?_
        exact ih_3 (j_4 + 1) (vp_updL gJ_5 (kS * 40 + j_4) 0) (by omega) (by omega) (by rw [hgJ_7]; rfl) _ _ _ hP hD hS (lv_sub hl [0, 1, 2, 3, 4] rfl)
  exact lp_1 ((40 - 0) + 1) 0 gE (Nat.lt_succ_self _) (Nat.zero_le _) rfl _ _ ls hP hD hS (lv_sub hl [0, 1, 2, 3, 4] rfl)
set_option maxHeartbeats 4000000 in
set_option maxRecDepth 100000 in
theorem c_X2_at (l : Launch) (G : va_G) (cy : Nat → ClassId) (qs : Nat) (qsh : Nat) (qss : Nat) (qsa : Nat) (qse : Nat) (gE : Nat → Int64) (kS : Nat) (kI : Nat)  (hS8 : kS < 8) (hI40 : kI < 40) : MR l yX2_at cX2_at 3 (some .long) 1 G cy [zzO qs 1 [.ref qsh, .ref qss, .ref qsa, .ref qse], zzJ cy qse 320 gE] [.ref qs, .int (nI kS), .int (nI kI)] (vp_Sl (fun r => (r = (gE (kS * 40 + kI))))) := by
  refine enR RX2 (by decide) rfl (Nat.le_of_ble_eq_true rfl) (fun p e s m below meth c ls hx hb hml hown hts hr hlocks hP hN hl => ?_)
  have hK := hN.1
  replace hl : lv_has ls 3 [(0, .ref qs), (1, .int (nI kS)), (2, .int (nI kI))] := hl
  refine lv_aload_n hx hb dX2_at_0 rfl (lv_at hl 0 rfl) ?_
  refine va_get (D := G) (ci := 1) (v := .ref qse) (C := RX2) (T := TX2) (N := 4) hx hb hts iX_X2 hown hK hP 0 rfl rfl 3 (by decide) (hts _ m_t129) (fun _ h9 => h9) rfl dX2_at_1 ?_
  refine lv_iload_n hx hb dX2_at_4 rfl (lv_at hl 1 rfl) ?_
  refine lv_bipush (v := 40) hx hb dX2_at_5 (by decide) ?_
  refine lv_imul hx hb dX2_at_7 ?_
  refine lv_iload_n hx hb dX2_at_8 rfl (lv_at hl 2 rfl) ?_
  refine lv_iadd hx hb dX2_at_9 ?_
  refine va_lald hx hb hK hP 1 1 rfl rfl (in320 (by omega) (by omega)) dX2_at_10 ?_
  refine lv_setl (v := gE (kS * 40 + kI)) (congrArg gE (cl320 (by omega) (by omega))) ?_
  exact endRl hx hb hr hlocks rfl dX2_at_11
set_option maxHeartbeats 4000000 in
set_option maxRecDepth 100000 in
theorem c_X2_lowestBits (l : Launch) (G : va_G) (cy : Nat → ClassId) (iA : Int32) (J1 : Int64)   : MR l yX2_lowestBits cX2_lowestBits 3 (some .long) 1 G cy [] [.int iA, .long J1] (vp_Sl (fun r => (r = (zlb iA J1)))) := by
  refine enR RX2 (by decide) rfl (Nat.le_of_ble_eq_true rfl) (fun p e s m below meth c ls hx hb hml hown hts hr hlocks hP hN hl => ?_)
  have hK := hN.1
  replace hl : lv_has ls 3 [(0, .int iA), (1, .long J1)] := hl
  refine lv_iload_n hx hb dX2_lowestBits_0 rfl (lv_at hl 0 rfl) ?_
  rcases sw_0_4 iA with rfl | rfl | rfl | rfl | rfl | h_1
  · refine lv_tableIn (tgt := 36) (off := 35) hx hb dX2_lowestBits_1 (by decide) (by decide) (by decide) (by decide) ?_
    refine lv_lload_n hx hb dX2_lowestBits_36 rfl (lv_at hl 1 rfl) ?_
    refine lv_l2i (v := J1.toInt32) hx hb dX2_lowestBits_37 rfl ?_
    refine lv_i2b (v := J1.toInt32.toInt8.toInt32) hx hb dX2_lowestBits_38 rfl ?_
    refine lv_i2l (v := J1.toInt32.toInt8.toInt32.toInt64) hx hb dX2_lowestBits_39 rfl ?_
    exact endRl hx hb hr hlocks (by rfl) dX2_lowestBits_40
  · refine lv_tableIn (tgt := 41) (off := 40) hx hb dX2_lowestBits_1 (by decide) (by decide) (by decide) (by decide) ?_
    refine lv_lload_n hx hb dX2_lowestBits_41 rfl (lv_at hl 1 rfl) ?_
    refine lv_l2i (v := J1.toInt32) hx hb dX2_lowestBits_42 rfl ?_
    refine lv_i2s (v := J1.toInt32.toInt16.toInt32) hx hb dX2_lowestBits_43 rfl ?_
    refine lv_i2l (v := J1.toInt32.toInt16.toInt32.toInt64) hx hb dX2_lowestBits_44 rfl ?_
    exact endRl hx hb hr hlocks (by rfl) dX2_lowestBits_45
  · refine lv_tableIn (tgt := 46) (off := 45) hx hb dX2_lowestBits_1 (by decide) (by decide) (by decide) (by decide) ?_
    refine lv_lload_n hx hb dX2_lowestBits_46 rfl (lv_at hl 1 rfl) ?_
    refine lv_l2i (v := J1.toInt32) hx hb dX2_lowestBits_47 rfl ?_
    refine lv_i2l (v := J1.toInt32.toInt64) hx hb dX2_lowestBits_48 rfl ?_
    exact endRl hx hb hr hlocks (by rfl) dX2_lowestBits_49
  · refine lv_tableIn (tgt := 62) (off := 61) hx hb dX2_lowestBits_1 (by decide) (by decide) (by decide) (by decide) ?_
    refine lv_lload_n hx hb dX2_lowestBits_62 rfl (lv_at hl 1 rfl) ?_
    exact endRl hx hb hr hlocks (by rfl) dX2_lowestBits_63
  · refine lv_tableIn (tgt := 50) (off := 49) hx hb dX2_lowestBits_1 (by decide) (by decide) (by decide) (by decide) ?_
    refine lv_lload_n hx hb dX2_lowestBits_50 rfl (lv_at hl 1 rfl) ?_
    refine lv_lconst (v := 0) hx hb dX2_lowestBits_51 (by decide) ?_
    refine W.lcmp hx hb dX2_lowestBits_52 ?_
    refine lv_if_eq (tgt := 60) hx hb dX2_lowestBits_53 (by decide) (fun c_2 => ?_) (fun c_2 => ?_)
    · refine lv_lconst (v := 0) hx hb dX2_lowestBits_60 (by decide) ?_
      exact endRl hx hb hr hlocks (by show _ = (if lg_cmp J1 0 = 0 then (0 : Int64) else 1); rw [if_pos c_2]) dX2_lowestBits_61
    · refine lv_lconst (v := 1) hx hb dX2_lowestBits_56 (by decide) ?_
      refine lv_goto (tgt := 61) hx hb dX2_lowestBits_57 (by decide) ?_
      exact endRl hx hb hr hlocks (by show _ = (if lg_cmp J1 0 = 0 then (0 : Int64) else 1); rw [if_neg c_2]) dX2_lowestBits_61
  · refine lv_tableOut (tgt := 62) hx hb dX2_lowestBits_1 h_1 (by decide) ?_
    refine lv_lload_n hx hb dX2_lowestBits_62 rfl (lv_at hl 1 rfl) ?_
    exact endRl hx hb hr hlocks (by rw [lb_d h_1]) dX2_lowestBits_63
set_option maxHeartbeats 4000000 in
set_option maxRecDepth 100000 in
theorem c_X2_put (l : Launch) (G : va_G) (cy : Nat → ClassId) (sz : Nat) (qs : Nat) (qsh : Nat) (qss : Nat) (qsa : Nat) (qse : Nat) (fH : Nat → Int32) (gE : Nat → Int64) (kS : Nat) (kI : Nat) (J1 : Int64)  (hS8 : kS < 8) (hI40 : kI < 40) : MW l yX2_put cX2_put 5 none 2 0 0 G cy [zzO qs 1 [.ref qsh, .ref qss, .ref qsa, .ref qse], zzI cy qsh 8 fH, zzJ cy qse 320 gE] sz [.ref qs, .int (nI kS), .int (nI kI), .long J1] (Wv G (fun u => u = [zzO qs 1 [.ref qsh, .ref qss, .ref qsa, .ref qse], zzI cy qsh 8 fH, zzJ cy qse 320 (vp_updL gE (kS * 40 + kI) (zlb (fH kS) J1))])) := by
  refine enW RX2 (by decide) rfl (Nat.le_of_ble_eq_true rfl) (fun p e s m below meth c ls A hx hb hml hown hts hr hlocks hP hN hl hin hD hA hS => ?_)
  have hin : meth.name = _ := hin
  have hK := hN.1
  replace hl : lv_has ls 5 [(0, .ref qs), (1, .int (nI kS)), (2, .int (nI kI)), (3, .long J1)] := hl
  refine lv_aload_n hx hb dX2_put_0 rfl (lv_at hl 0 rfl) ?_
  refine va_get (D := G) (ci := 1) (v := .ref qse) (C := RX2) (T := TX2) (N := 4) hx hb hts iX_X2 hown hK hP 0 rfl rfl 3 (by decide) (hts _ m_t129) (fun _ h9 => h9) rfl dX2_put_1 ?_
  refine lv_iload_n hx hb dX2_put_4 rfl (lv_at hl 1 rfl) ?_
  refine lv_bipush (v := 40) hx hb dX2_put_5 (by decide) ?_
  refine lv_imul hx hb dX2_put_7 ?_
  refine lv_iload_n hx hb dX2_put_8 rfl (lv_at hl 2 rfl) ?_
  refine lv_iadd hx hb dX2_put_9 ?_
  refine lv_aload_n hx hb dX2_put_10 rfl (lv_at hl 0 rfl) ?_
  refine va_get (D := G) (ci := 1) (v := .ref qsh) (C := RX2) (T := TX2) (N := 4) hx hb hts iX_X2 hown hK hP 0 rfl rfl 0 (by decide) (hts _ m_t123) (fun _ h9 => h9) rfl dX2_put_11 ?_
  refine lv_iload_n hx hb dX2_put_14 rfl (lv_at hl 1 rfl) ?_
  refine va_iald hx hb hK hP 1 0 rfl rfl (in8 (by omega)) dX2_put_15 ?_
  refine lv_seti (v := fH kS) (congrArg fH (cl8 (by omega))) ?_
  refine lv_lload_n hx hb dX2_put_16 rfl (lv_at hl 3 rfl) ?_
  refine kRl (rS (As := [.int (fH kS), .long J1]) (rest := [.int (((nI kS) * 40) + (nI kI)), .ref qse]) ⟨hx, hb, hml, hown, hts⟩ (c_X2_lowestBits l G cy (fH kS) J1) L_X2_25 (preRS hN hP [] rfl) rfl ⟨Nat.le_of_ble_eq_true rfl, Nat.le_of_ble_eq_true rfl⟩ hl.1 (Nat.le_of_ble_eq_true rfl) dX2_put_17 ⟨Nat.le_of_ble_eq_true rfl, Nat.le_of_ble_eq_true rfl⟩) (fun r_1 h_2 => ?_)
  subst h_2
  refine va_last hx hb hK hP hD hS 2 1 rfl rfl (in320 (by omega) (by omega)) dX2_put_20 (fun H locs => ?_)
  clear hP hD hS
  intro hP hD hS
  rw [cl320 (s := kS) (i := kI) (by omega) (by omega)] at hP hD
  have hPD := pd_as [zzO qs 1 [.ref qsh, .ref qss, .ref qsa, .ref qse], zzI cy qsh 8 fH, zzJ cy qse 320 (vp_updL gE (kS * 40 + kI) (zlb (fH kS) J1))] hP hD rfl
  clear hP hD
  obtain ⟨hP, hD⟩ := hPD
  exact endV (u := [zzO qs 1 [.ref qsh, .ref qss, .ref qsa, .ref qse], zzI cy qsh 8 fH, zzJ cy qse 320 (vp_updL gE (kS * 40 + kI) (zlb (fH kS) J1))]) hx hb hr hlocks (hP.sub [0, 1, 2] rfl) (hD.sub [0, 1, 2] (by decide +kernel) rfl) hS rfl dX2_put_21
set_option maxHeartbeats 4000000 in
set_option maxRecDepth 100000 in
theorem c_X2_move (l : Launch) (G : va_G) (cy : Nat → ClassId) (sz : Nat) (qs : Nat) (qsh : Nat) (qss : Nat) (qsa : Nat) (qse : Nat) (gE : Nat → Int64) (kS : Nat) (kT : Nat) (kI : Nat) (kJ : Nat) (kN : Nat)  (hS8 : kS < 8) (hT8 : kT < 8) (hI4 : kI + kN ≤ 40) (hJ4 : kJ + kN ≤ 40) : MW l yX2_move cX2_move 6 none 2 0 0 G cy [zzO qs 1 [.ref qsh, .ref qss, .ref qsa, .ref qse], zzJ cy qse 320 gE] sz [.ref qs, .int (nI kS), .int (nI kT), .int (nI kI), .int (nI kJ), .int (nI kN)] (Wv G (fun u => u = [zzO qs 1 [.ref qsh, .ref qss, .ref qsa, .ref qse], zzJ cy qse 320 (va_cpy gE gE (kS * 40 + kI) (kT * 40 + kJ) kN)])) := by
  refine enW RX2 (by decide) rfl (Nat.le_of_ble_eq_true rfl) (fun p e s m below meth c ls A hx hb hml hown hts hr hlocks hP hN hl hin hD hA hS => ?_)
  have hin : meth.name = _ := hin
  have hK := hN.1
  replace hl : lv_has ls 6 [(0, .ref qs), (1, .int (nI kS)), (2, .int (nI kT)), (3, .int (nI kI)), (4, .int (nI kJ)), (5, .int (nI kN))] := hl
  refine lv_aload_n hx hb dX2_move_0 rfl (lv_at hl 0 rfl) ?_
  refine va_get (D := G) (ci := 1) (v := .ref qse) (C := RX2) (T := TX2) (N := 4) hx hb hts iX_X2 hown hK hP 0 rfl rfl 3 (by decide) (hts _ m_t129) (fun _ h9 => h9) rfl dX2_move_1 ?_
  refine lv_iload_n hx hb dX2_move_4 rfl (lv_at hl 1 rfl) ?_
  refine lv_bipush (v := 40) hx hb dX2_move_5 (by decide) ?_
  refine lv_imul hx hb dX2_move_7 ?_
  refine lv_iload_n hx hb dX2_move_8 rfl (lv_at hl 3 rfl) ?_
  refine lv_iadd hx hb dX2_move_9 ?_
  refine lv_aload_n hx hb dX2_move_10 rfl (lv_at hl 0 rfl) ?_
  refine va_get (D := G) (ci := 1) (v := .ref qse) (C := RX2) (T := TX2) (N := 4) hx hb hts iX_X2 hown hK hP 0 rfl rfl 3 (by decide) (hts _ m_t129) (fun _ h9 => h9) rfl dX2_move_11 ?_
  refine lv_iload_n hx hb dX2_move_14 rfl (lv_at hl 2 rfl) ?_
  refine lv_bipush (v := 40) hx hb dX2_move_15 (by decide) ?_
  refine lv_imul hx hb dX2_move_17 ?_
  refine lv_iload hx hb dX2_move_18 (lv_at hl 4 rfl) ?_
  refine lv_iadd hx hb dX2_move_20 ?_
  refine lv_iload hx hb dX2_move_21 (lv_at hl 5 rfl) ?_
  refine va_copyl hx hb (hml.trans hl.1.symm) hown (hts _ m_t262) (hts _ m_nat) (hts _ m_t263) (hts _ m_t7) hK hP hD hS 1 1 1 1 rfl rfl rfl rfl rfl (by rw [ix40]; exact nI_pos (by omega)) (by rw [ix40]; exact nI_pos (by omega)) (nI_pos (by omega)) (by rw [cl320' (by omega) (by omega), nI_clamp (by omega)]; omega) (by rw [cl320' (by omega) (by omega), nI_clamp (by omega)]; omega) (fun _ _ => rfl) (Nat.le_of_ble_eq_true rfl) (Nat.le_of_ble_eq_true rfl) dX2_move_23 (fun H locs => ?_)
  clear hP hD hS
  intro hP hD hS
  rw [cl320' (s := kS) (i := kI) (by omega) (by omega), cl320' (s := kT) (i := kJ) (by omega) (by omega), nI_clamp (n := kN) (by omega)] at hP hD
  have hPD := pd_as [zzO qs 1 [.ref qsh, .ref qss, .ref qsa, .ref qse], zzJ cy qse 320 (va_cpy gE gE (kS * 40 + kI) (kT * 40 + kJ) kN)] hP hD rfl
  clear hP hD
  obtain ⟨hP, hD⟩ := hPD
  exact endV (u := [zzO qs 1 [.ref qsh, .ref qss, .ref qsa, .ref qse], zzJ cy qse 320 (va_cpy gE gE (kS * 40 + kI) (kT * 40 + kJ) kN)]) hx hb hr hlocks (hP.sub [0, 1] rfl) (hD.sub [0, 1] (by decide +kernel) rfl) hS rfl dX2_move_26
set_option maxHeartbeats 4000000 in
set_option maxRecDepth 100000 in
theorem c_X5_refuse2 (l : Launch) (G : va_G) (cy : Nat → ClassId) (sz : Nat) (qx : Nat) (qt : Nat) (qk : Nat) (qp : Nat) (qs : Nat) (qa : Nat) (qr : Nat) (iKp : Int32) (iYe : Int32) (iTv : Int32) (fR : Nat → Int32)   : MW l yX5_refuse cX5_refuse 3 (some .int) 2 0 0 G cy [zzO qx 4 [.ref qt, .ref qk, .ref qp, .ref qs, .ref qa, .ref qr, .int iKp, .int iYe, .int iTv], zzI cy qr 5 fR] sz [.ref qx, .int (-2)] (Wi G (fun r u => ∃ (fX : Nat → Int32), u = [zzO qx 4 [.ref qt, .ref qk, .ref qp, .ref qs, .ref qa, .ref qr, .int iKp, .int iYe, .int iTv], zzI cy qr 5 fX] ∧ ((r = (-2))))) := by
  refine enW RX5 (by decide) rfl (Nat.le_of_ble_eq_true rfl) (fun p e s m below meth c ls A hx hb hml hown hts hr hlocks hP hN hl hin hD hA hS => ?_)
  have hin : meth.name = _ := hin
  have hK := hN.1
  replace hl : lv_has ls 3 [(0, .ref qx), (1, .int (-2))] := hl
  refine lv_bipush (v := (-2)) hx hb dX5_refuse_0 (by decide) ?_
  refine lv_iload_n hx hb dX5_refuse_2 rfl (lv_at hl 1 rfl) ?_
  refine lv_isub hx hb dX5_refuse_3 ?_
  refine lv_seti (v := 0) (by decide) ?_
  refine lv_istore_n (lv' := [(2, .int 0), (0, .ref qx), (1, .int (-2))]) hx hb dX5_refuse_4 rfl hl (by decide) rfl (fun ls => ?_)
  clear hl
  intro hl
  refine lv_iload_n hx hb dX5_refuse_5 rfl (lv_at hl 0 rfl) ?_
  refine lv_i2l (v := 0) hx hb dX5_refuse_6 (by decide) ?_
  refine lv_lconst (v := 0) hx hb dX5_refuse_7 (by decide) ?_
  refine lv_aload_n hx hb dX5_refuse_8 rfl (lv_at hl 1 rfl) ?_
  refine va_get (D := G) (ci := 4) (v := .ref qr) (C := RX5) (T := TX5) (N := 9) hx hb hts iX_X5 hown hK hP 0 rfl rfl 5 (by decide) (hts _ m_t179) (fun _ h9 => h9) rfl dX5_refuse_9 ?_
  refine va_alen hx hb hK hP 1 0 rfl rfl (v := 5) rfl dX5_refuse_12 ?_
  refine lv_iconst (v := 1) hx hb dX5_refuse_13 (by decide) ?_
  refine lv_isub hx hb dX5_refuse_14 ?_
  refine lv_seti (v := 4) (by decide) ?_
  refine lv_i2l (v := 4) hx hb dX5_refuse_15 (by decide) ?_
  refine kRi (rS (As := [.long 0, .long 0, .long 4]) (rest := []) ⟨hx, hb, hml, hown, hts⟩ (c_X5_within l G cy 0 0 4) L_X5_50 (preRS hN hP [] rfl) rfl ⟨Nat.le_of_ble_eq_true rfl, Nat.le_of_ble_eq_true rfl⟩ hl.1 (Nat.le_of_ble_eq_true rfl) dX5_refuse_16 ⟨Nat.le_of_ble_eq_true rfl, Nat.le_of_ble_eq_true rfl⟩) (fun r_1 h_2 => ?_)
  rcases h_2 with ⟨rfl, h_3⟩ | ⟨rfl, h_3⟩
  · refine lv_if_eq (tgt := 32) hx hb dX5_refuse_19 (by decide) (fun h9 => absurd h9 (by decide)) (fun _ => ?_)
    refine lv_aload_n hx hb dX5_refuse_22 rfl (lv_at hl 1 rfl) ?_
    refine va_get (D := G) (ci := 4) (v := .ref qr) (C := RX5) (T := TX5) (N := 9) hx hb hts iX_X5 hown hK hP 0 rfl rfl 5 (by decide) (hts _ m_t179) (fun _ h9 => h9) rfl dX5_refuse_23 ?_
    refine lv_iload_n hx hb dX5_refuse_26 rfl (lv_at hl 0 rfl) ?_
    refine lv_dup2_11 hx hb dX5_refuse_27 rfl rfl ?_
    refine va_iald hx hb hK hP 1 0 rfl rfl (in_c rfl) dX5_refuse_28 ?_
    refine lv_seti (v := fR 0) (congrArg fR (by decide)) ?_
    refine lv_iconst (v := 1) hx hb dX5_refuse_29 (by decide) ?_
    refine lv_iadd hx hb dX5_refuse_30 ?_
    refine va_iast hx hb hK hP hD hS 1 0 rfl rfl (in_c rfl) dX5_refuse_31 (fun H locs => ?_)
    clear hP hD hS
    intro hP hD hS
    have hPD := pd_as [zzO qx 4 [.ref qt, .ref qk, .ref qp, .ref qs, .ref qa, .ref qr, .int iKp, .int iYe, .int iTv], zzI cy qr 5 (upd fR 0 ((fR 0) + 1))] hP hD rfl
    clear hP hD
    obtain ⟨hP, hD⟩ := hPD
    refine lv_iload_n hx hb dX5_refuse_32 rfl (lv_at hl 2 rfl) ?_
    exact endW (u := [zzO qx 4 [.ref qt, .ref qk, .ref qp, .ref qs, .ref qa, .ref qr, .int iKp, .int iYe, .int iTv], zzI cy qr 5 (upd fR 0 ((fR 0) + 1))]) hx hb hr hlocks rfl (hP.sub [0, 1] rfl) (hD.sub [0, 1] (by decide +kernel) rfl) hS ⟨upd fR 0 ((fR 0) + 1), rfl, rfl⟩ dX5_refuse_33
  · exact absurd (by decide) h_3
set_option maxHeartbeats 4000000 in
set_option maxRecDepth 100000 in
theorem c_X5_refuse3 (l : Launch) (G : va_G) (cy : Nat → ClassId) (sz : Nat) (qx : Nat) (qt : Nat) (qk : Nat) (qp : Nat) (qs : Nat) (qa : Nat) (qr : Nat) (iKp : Int32) (iYe : Int32) (iTv : Int32) (fR : Nat → Int32)   : MW l yX5_refuse cX5_refuse 3 (some .int) 2 0 0 G cy [zzO qx 4 [.ref qt, .ref qk, .ref qp, .ref qs, .ref qa, .ref qr, .int iKp, .int iYe, .int iTv], zzI cy qr 5 fR] sz [.ref qx, .int (-3)] (Wi G (fun r u => ∃ (fX : Nat → Int32), u = [zzO qx 4 [.ref qt, .ref qk, .ref qp, .ref qs, .ref qa, .ref qr, .int iKp, .int iYe, .int iTv], zzI cy qr 5 fX] ∧ ((r = (-3))))) := by
  refine enW RX5 (by decide) rfl (Nat.le_of_ble_eq_true rfl) (fun p e s m below meth c ls A hx hb hml hown hts hr hlocks hP hN hl hin hD hA hS => ?_)
  have hin : meth.name = _ := hin
  have hK := hN.1
  replace hl : lv_has ls 3 [(0, .ref qx), (1, .int (-3))] := hl
  refine lv_bipush (v := (-2)) hx hb dX5_refuse_0 (by decide) ?_
  refine lv_iload_n hx hb dX5_refuse_2 rfl (lv_at hl 1 rfl) ?_
  refine lv_isub hx hb dX5_refuse_3 ?_
  refine lv_seti (v := 1) (by decide) ?_
  refine lv_istore_n (lv' := [(2, .int 1), (0, .ref qx), (1, .int (-3))]) hx hb dX5_refuse_4 rfl hl (by decide) rfl (fun ls => ?_)
  clear hl
  intro hl
  refine lv_iload_n hx hb dX5_refuse_5 rfl (lv_at hl 0 rfl) ?_
  refine lv_i2l (v := 1) hx hb dX5_refuse_6 (by decide) ?_
  refine lv_lconst (v := 0) hx hb dX5_refuse_7 (by decide) ?_
  refine lv_aload_n hx hb dX5_refuse_8 rfl (lv_at hl 1 rfl) ?_
  refine va_get (D := G) (ci := 4) (v := .ref qr) (C := RX5) (T := TX5) (N := 9) hx hb hts iX_X5 hown hK hP 0 rfl rfl 5 (by decide) (hts _ m_t179) (fun _ h9 => h9) rfl dX5_refuse_9 ?_
  refine va_alen hx hb hK hP 1 0 rfl rfl (v := 5) rfl dX5_refuse_12 ?_
  refine lv_iconst (v := 1) hx hb dX5_refuse_13 (by decide) ?_
  refine lv_isub hx hb dX5_refuse_14 ?_
  refine lv_seti (v := 4) (by decide) ?_
  refine lv_i2l (v := 4) hx hb dX5_refuse_15 (by decide) ?_
  refine kRi (rS (As := [.long 1, .long 0, .long 4]) (rest := []) ⟨hx, hb, hml, hown, hts⟩ (c_X5_within l G cy 1 0 4) L_X5_50 (preRS hN hP [] rfl) rfl ⟨Nat.le_of_ble_eq_true rfl, Nat.le_of_ble_eq_true rfl⟩ hl.1 (Nat.le_of_ble_eq_true rfl) dX5_refuse_16 ⟨Nat.le_of_ble_eq_true rfl, Nat.le_of_ble_eq_true rfl⟩) (fun r_1 h_2 => ?_)
  rcases h_2 with ⟨rfl, h_3⟩ | ⟨rfl, h_3⟩
  · refine lv_if_eq (tgt := 32) hx hb dX5_refuse_19 (by decide) (fun h9 => absurd h9 (by decide)) (fun _ => ?_)
    refine lv_aload_n hx hb dX5_refuse_22 rfl (lv_at hl 1 rfl) ?_
    refine va_get (D := G) (ci := 4) (v := .ref qr) (C := RX5) (T := TX5) (N := 9) hx hb hts iX_X5 hown hK hP 0 rfl rfl 5 (by decide) (hts _ m_t179) (fun _ h9 => h9) rfl dX5_refuse_23 ?_
    refine lv_iload_n hx hb dX5_refuse_26 rfl (lv_at hl 0 rfl) ?_
    refine lv_dup2_11 hx hb dX5_refuse_27 rfl rfl ?_
    refine va_iald hx hb hK hP 1 0 rfl rfl (in_c rfl) dX5_refuse_28 ?_
    refine lv_seti (v := fR 1) (congrArg fR (by decide)) ?_
    refine lv_iconst (v := 1) hx hb dX5_refuse_29 (by decide) ?_
    refine lv_iadd hx hb dX5_refuse_30 ?_
    refine va_iast hx hb hK hP hD hS 1 0 rfl rfl (in_c rfl) dX5_refuse_31 (fun H locs => ?_)
    clear hP hD hS
    intro hP hD hS
    have hPD := pd_as [zzO qx 4 [.ref qt, .ref qk, .ref qp, .ref qs, .ref qa, .ref qr, .int iKp, .int iYe, .int iTv], zzI cy qr 5 (upd fR 1 ((fR 1) + 1))] hP hD rfl
    clear hP hD
    obtain ⟨hP, hD⟩ := hPD
    refine lv_iload_n hx hb dX5_refuse_32 rfl (lv_at hl 2 rfl) ?_
    exact endW (u := [zzO qx 4 [.ref qt, .ref qk, .ref qp, .ref qs, .ref qa, .ref qr, .int iKp, .int iYe, .int iTv], zzI cy qr 5 (upd fR 1 ((fR 1) + 1))]) hx hb hr hlocks rfl (hP.sub [0, 1] rfl) (hD.sub [0, 1] (by decide +kernel) rfl) hS ⟨upd fR 1 ((fR 1) + 1), rfl, rfl⟩ dX5_refuse_33
  · exact absurd (by decide) h_3
set_option maxHeartbeats 4000000 in
set_option maxRecDepth 100000 in
theorem c_X5_refuse4 (l : Launch) (G : va_G) (cy : Nat → ClassId) (sz : Nat) (qx : Nat) (qt : Nat) (qk : Nat) (qp : Nat) (qs : Nat) (qa : Nat) (qr : Nat) (iKp : Int32) (iYe : Int32) (iTv : Int32) (fR : Nat → Int32)   : MW l yX5_refuse cX5_refuse 3 (some .int) 2 0 0 G cy [zzO qx 4 [.ref qt, .ref qk, .ref qp, .ref qs, .ref qa, .ref qr, .int iKp, .int iYe, .int iTv], zzI cy qr 5 fR] sz [.ref qx, .int (-4)] (Wi G (fun r u => ∃ (fX : Nat → Int32), u = [zzO qx 4 [.ref qt, .ref qk, .ref qp, .ref qs, .ref qa, .ref qr, .int iKp, .int iYe, .int iTv], zzI cy qr 5 fX] ∧ ((r = (-4))))) := by
  refine enW RX5 (by decide) rfl (Nat.le_of_ble_eq_true rfl) (fun p e s m below meth c ls A hx hb hml hown hts hr hlocks hP hN hl hin hD hA hS => ?_)
  have hin : meth.name = _ := hin
  have hK := hN.1
  replace hl : lv_has ls 3 [(0, .ref qx), (1, .int (-4))] := hl
  refine lv_bipush (v := (-2)) hx hb dX5_refuse_0 (by decide) ?_
  refine lv_iload_n hx hb dX5_refuse_2 rfl (lv_at hl 1 rfl) ?_
  refine lv_isub hx hb dX5_refuse_3 ?_
  refine lv_seti (v := 2) (by decide) ?_
  refine lv_istore_n (lv' := [(2, .int 2), (0, .ref qx), (1, .int (-4))]) hx hb dX5_refuse_4 rfl hl (by decide) rfl (fun ls => ?_)
  clear hl
  intro hl
  refine lv_iload_n hx hb dX5_refuse_5 rfl (lv_at hl 0 rfl) ?_
  refine lv_i2l (v := 2) hx hb dX5_refuse_6 (by decide) ?_
  refine lv_lconst (v := 0) hx hb dX5_refuse_7 (by decide) ?_
  refine lv_aload_n hx hb dX5_refuse_8 rfl (lv_at hl 1 rfl) ?_
  refine va_get (D := G) (ci := 4) (v := .ref qr) (C := RX5) (T := TX5) (N := 9) hx hb hts iX_X5 hown hK hP 0 rfl rfl 5 (by decide) (hts _ m_t179) (fun _ h9 => h9) rfl dX5_refuse_9 ?_
  refine va_alen hx hb hK hP 1 0 rfl rfl (v := 5) rfl dX5_refuse_12 ?_
  refine lv_iconst (v := 1) hx hb dX5_refuse_13 (by decide) ?_
  refine lv_isub hx hb dX5_refuse_14 ?_
  refine lv_seti (v := 4) (by decide) ?_
  refine lv_i2l (v := 4) hx hb dX5_refuse_15 (by decide) ?_
  refine kRi (rS (As := [.long 2, .long 0, .long 4]) (rest := []) ⟨hx, hb, hml, hown, hts⟩ (c_X5_within l G cy 2 0 4) L_X5_50 (preRS hN hP [] rfl) rfl ⟨Nat.le_of_ble_eq_true rfl, Nat.le_of_ble_eq_true rfl⟩ hl.1 (Nat.le_of_ble_eq_true rfl) dX5_refuse_16 ⟨Nat.le_of_ble_eq_true rfl, Nat.le_of_ble_eq_true rfl⟩) (fun r_1 h_2 => ?_)
  rcases h_2 with ⟨rfl, h_3⟩ | ⟨rfl, h_3⟩
  · refine lv_if_eq (tgt := 32) hx hb dX5_refuse_19 (by decide) (fun h9 => absurd h9 (by decide)) (fun _ => ?_)
    refine lv_aload_n hx hb dX5_refuse_22 rfl (lv_at hl 1 rfl) ?_
    refine va_get (D := G) (ci := 4) (v := .ref qr) (C := RX5) (T := TX5) (N := 9) hx hb hts iX_X5 hown hK hP 0 rfl rfl 5 (by decide) (hts _ m_t179) (fun _ h9 => h9) rfl dX5_refuse_23 ?_
    refine lv_iload_n hx hb dX5_refuse_26 rfl (lv_at hl 0 rfl) ?_
    refine lv_dup2_11 hx hb dX5_refuse_27 rfl rfl ?_
    refine va_iald hx hb hK hP 1 0 rfl rfl (in_c rfl) dX5_refuse_28 ?_
    refine lv_seti (v := fR 2) (congrArg fR (by decide)) ?_
    refine lv_iconst (v := 1) hx hb dX5_refuse_29 (by decide) ?_
    refine lv_iadd hx hb dX5_refuse_30 ?_
    refine va_iast hx hb hK hP hD hS 1 0 rfl rfl (in_c rfl) dX5_refuse_31 (fun H locs => ?_)
    clear hP hD hS
    intro hP hD hS
    have hPD := pd_as [zzO qx 4 [.ref qt, .ref qk, .ref qp, .ref qs, .ref qa, .ref qr, .int iKp, .int iYe, .int iTv], zzI cy qr 5 (upd fR 2 ((fR 2) + 1))] hP hD rfl
    clear hP hD
    obtain ⟨hP, hD⟩ := hPD
    refine lv_iload_n hx hb dX5_refuse_32 rfl (lv_at hl 2 rfl) ?_
    exact endW (u := [zzO qx 4 [.ref qt, .ref qk, .ref qp, .ref qs, .ref qa, .ref qr, .int iKp, .int iYe, .int iTv], zzI cy qr 5 (upd fR 2 ((fR 2) + 1))]) hx hb hr hlocks rfl (hP.sub [0, 1] rfl) (hD.sub [0, 1] (by decide +kernel) rfl) hS ⟨upd fR 2 ((fR 2) + 1), rfl, rfl⟩ dX5_refuse_33
  · exact absurd (by decide) h_3
set_option maxHeartbeats 4000000 in
set_option maxRecDepth 100000 in
theorem c_X5_refuse5 (l : Launch) (G : va_G) (cy : Nat → ClassId) (sz : Nat) (qx : Nat) (qt : Nat) (qk : Nat) (qp : Nat) (qs : Nat) (qa : Nat) (qr : Nat) (iKp : Int32) (iYe : Int32) (iTv : Int32) (fR : Nat → Int32)   : MW l yX5_refuse cX5_refuse 3 (some .int) 2 0 0 G cy [zzO qx 4 [.ref qt, .ref qk, .ref qp, .ref qs, .ref qa, .ref qr, .int iKp, .int iYe, .int iTv], zzI cy qr 5 fR] sz [.ref qx, .int (-5)] (Wi G (fun r u => ∃ (fX : Nat → Int32), u = [zzO qx 4 [.ref qt, .ref qk, .ref qp, .ref qs, .ref qa, .ref qr, .int iKp, .int iYe, .int iTv], zzI cy qr 5 fX] ∧ ((r = (-5))))) := by
  refine enW RX5 (by decide) rfl (Nat.le_of_ble_eq_true rfl) (fun p e s m below meth c ls A hx hb hml hown hts hr hlocks hP hN hl hin hD hA hS => ?_)
  have hin : meth.name = _ := hin
  have hK := hN.1
  replace hl : lv_has ls 3 [(0, .ref qx), (1, .int (-5))] := hl
  refine lv_bipush (v := (-2)) hx hb dX5_refuse_0 (by decide) ?_
  refine lv_iload_n hx hb dX5_refuse_2 rfl (lv_at hl 1 rfl) ?_
  refine lv_isub hx hb dX5_refuse_3 ?_
  refine lv_seti (v := 3) (by decide) ?_
  refine lv_istore_n (lv' := [(2, .int 3), (0, .ref qx), (1, .int (-5))]) hx hb dX5_refuse_4 rfl hl (by decide) rfl (fun ls => ?_)
  clear hl
  intro hl
  refine lv_iload_n hx hb dX5_refuse_5 rfl (lv_at hl 0 rfl) ?_
  refine lv_i2l (v := 3) hx hb dX5_refuse_6 (by decide) ?_
  refine lv_lconst (v := 0) hx hb dX5_refuse_7 (by decide) ?_
  refine lv_aload_n hx hb dX5_refuse_8 rfl (lv_at hl 1 rfl) ?_
  refine va_get (D := G) (ci := 4) (v := .ref qr) (C := RX5) (T := TX5) (N := 9) hx hb hts iX_X5 hown hK hP 0 rfl rfl 5 (by decide) (hts _ m_t179) (fun _ h9 => h9) rfl dX5_refuse_9 ?_
  refine va_alen hx hb hK hP 1 0 rfl rfl (v := 5) rfl dX5_refuse_12 ?_
  refine lv_iconst (v := 1) hx hb dX5_refuse_13 (by decide) ?_
  refine lv_isub hx hb dX5_refuse_14 ?_
  refine lv_seti (v := 4) (by decide) ?_
  refine lv_i2l (v := 4) hx hb dX5_refuse_15 (by decide) ?_
  refine kRi (rS (As := [.long 3, .long 0, .long 4]) (rest := []) ⟨hx, hb, hml, hown, hts⟩ (c_X5_within l G cy 3 0 4) L_X5_50 (preRS hN hP [] rfl) rfl ⟨Nat.le_of_ble_eq_true rfl, Nat.le_of_ble_eq_true rfl⟩ hl.1 (Nat.le_of_ble_eq_true rfl) dX5_refuse_16 ⟨Nat.le_of_ble_eq_true rfl, Nat.le_of_ble_eq_true rfl⟩) (fun r_1 h_2 => ?_)
  rcases h_2 with ⟨rfl, h_3⟩ | ⟨rfl, h_3⟩
  · refine lv_if_eq (tgt := 32) hx hb dX5_refuse_19 (by decide) (fun h9 => absurd h9 (by decide)) (fun _ => ?_)
    refine lv_aload_n hx hb dX5_refuse_22 rfl (lv_at hl 1 rfl) ?_
    refine va_get (D := G) (ci := 4) (v := .ref qr) (C := RX5) (T := TX5) (N := 9) hx hb hts iX_X5 hown hK hP 0 rfl rfl 5 (by decide) (hts _ m_t179) (fun _ h9 => h9) rfl dX5_refuse_23 ?_
    refine lv_iload_n hx hb dX5_refuse_26 rfl (lv_at hl 0 rfl) ?_
    refine lv_dup2_11 hx hb dX5_refuse_27 rfl rfl ?_
    refine va_iald hx hb hK hP 1 0 rfl rfl (in_c rfl) dX5_refuse_28 ?_
    refine lv_seti (v := fR 3) (congrArg fR (by decide)) ?_
    refine lv_iconst (v := 1) hx hb dX5_refuse_29 (by decide) ?_
    refine lv_iadd hx hb dX5_refuse_30 ?_
    refine va_iast hx hb hK hP hD hS 1 0 rfl rfl (in_c rfl) dX5_refuse_31 (fun H locs => ?_)
    clear hP hD hS
    intro hP hD hS
    have hPD := pd_as [zzO qx 4 [.ref qt, .ref qk, .ref qp, .ref qs, .ref qa, .ref qr, .int iKp, .int iYe, .int iTv], zzI cy qr 5 (upd fR 3 ((fR 3) + 1))] hP hD rfl
    clear hP hD
    obtain ⟨hP, hD⟩ := hPD
    refine lv_iload_n hx hb dX5_refuse_32 rfl (lv_at hl 2 rfl) ?_
    exact endW (u := [zzO qx 4 [.ref qt, .ref qk, .ref qp, .ref qs, .ref qa, .ref qr, .int iKp, .int iYe, .int iTv], zzI cy qr 5 (upd fR 3 ((fR 3) + 1))]) hx hb hr hlocks rfl (hP.sub [0, 1] rfl) (hD.sub [0, 1] (by decide +kernel) rfl) hS ⟨upd fR 3 ((fR 3) + 1), rfl, rfl⟩ dX5_refuse_33
  · exact absurd (by decide) h_3
set_option maxHeartbeats 4000000 in
set_option maxRecDepth 100000 in
theorem c_X5_refuse6 (l : Launch) (G : va_G) (cy : Nat → ClassId) (sz : Nat) (qx : Nat) (qt : Nat) (qk : Nat) (qp : Nat) (qs : Nat) (qa : Nat) (qr : Nat) (iKp : Int32) (iYe : Int32) (iTv : Int32) (fR : Nat → Int32)   : MW l yX5_refuse cX5_refuse 3 (some .int) 2 0 0 G cy [zzO qx 4 [.ref qt, .ref qk, .ref qp, .ref qs, .ref qa, .ref qr, .int iKp, .int iYe, .int iTv], zzI cy qr 5 fR] sz [.ref qx, .int (-6)] (Wi G (fun r u => ∃ (fX : Nat → Int32), u = [zzO qx 4 [.ref qt, .ref qk, .ref qp, .ref qs, .ref qa, .ref qr, .int iKp, .int iYe, .int iTv], zzI cy qr 5 fX] ∧ ((r = (-6))))) := by
  refine enW RX5 (by decide) rfl (Nat.le_of_ble_eq_true rfl) (fun p e s m below meth c ls A hx hb hml hown hts hr hlocks hP hN hl hin hD hA hS => ?_)
  have hin : meth.name = _ := hin
  have hK := hN.1
  replace hl : lv_has ls 3 [(0, .ref qx), (1, .int (-6))] := hl
  refine lv_bipush (v := (-2)) hx hb dX5_refuse_0 (by decide) ?_
  refine lv_iload_n hx hb dX5_refuse_2 rfl (lv_at hl 1 rfl) ?_
  refine lv_isub hx hb dX5_refuse_3 ?_
  refine lv_seti (v := 4) (by decide) ?_
  refine lv_istore_n (lv' := [(2, .int 4), (0, .ref qx), (1, .int (-6))]) hx hb dX5_refuse_4 rfl hl (by decide) rfl (fun ls => ?_)
  clear hl
  intro hl
  refine lv_iload_n hx hb dX5_refuse_5 rfl (lv_at hl 0 rfl) ?_
  refine lv_i2l (v := 4) hx hb dX5_refuse_6 (by decide) ?_
  refine lv_lconst (v := 0) hx hb dX5_refuse_7 (by decide) ?_
  refine lv_aload_n hx hb dX5_refuse_8 rfl (lv_at hl 1 rfl) ?_
  refine va_get (D := G) (ci := 4) (v := .ref qr) (C := RX5) (T := TX5) (N := 9) hx hb hts iX_X5 hown hK hP 0 rfl rfl 5 (by decide) (hts _ m_t179) (fun _ h9 => h9) rfl dX5_refuse_9 ?_
  refine va_alen hx hb hK hP 1 0 rfl rfl (v := 5) rfl dX5_refuse_12 ?_
  refine lv_iconst (v := 1) hx hb dX5_refuse_13 (by decide) ?_
  refine lv_isub hx hb dX5_refuse_14 ?_
  refine lv_seti (v := 4) (by decide) ?_
  refine lv_i2l (v := 4) hx hb dX5_refuse_15 (by decide) ?_
  refine kRi (rS (As := [.long 4, .long 0, .long 4]) (rest := []) ⟨hx, hb, hml, hown, hts⟩ (c_X5_within l G cy 4 0 4) L_X5_50 (preRS hN hP [] rfl) rfl ⟨Nat.le_of_ble_eq_true rfl, Nat.le_of_ble_eq_true rfl⟩ hl.1 (Nat.le_of_ble_eq_true rfl) dX5_refuse_16 ⟨Nat.le_of_ble_eq_true rfl, Nat.le_of_ble_eq_true rfl⟩) (fun r_1 h_2 => ?_)
  rcases h_2 with ⟨rfl, h_3⟩ | ⟨rfl, h_3⟩
  · refine lv_if_eq (tgt := 32) hx hb dX5_refuse_19 (by decide) (fun h9 => absurd h9 (by decide)) (fun _ => ?_)
    refine lv_aload_n hx hb dX5_refuse_22 rfl (lv_at hl 1 rfl) ?_
    refine va_get (D := G) (ci := 4) (v := .ref qr) (C := RX5) (T := TX5) (N := 9) hx hb hts iX_X5 hown hK hP 0 rfl rfl 5 (by decide) (hts _ m_t179) (fun _ h9 => h9) rfl dX5_refuse_23 ?_
    refine lv_iload_n hx hb dX5_refuse_26 rfl (lv_at hl 0 rfl) ?_
    refine lv_dup2_11 hx hb dX5_refuse_27 rfl rfl ?_
    refine va_iald hx hb hK hP 1 0 rfl rfl (in_c rfl) dX5_refuse_28 ?_
    refine lv_seti (v := fR 4) (congrArg fR (by decide)) ?_
    refine lv_iconst (v := 1) hx hb dX5_refuse_29 (by decide) ?_
    refine lv_iadd hx hb dX5_refuse_30 ?_
    refine va_iast hx hb hK hP hD hS 1 0 rfl rfl (in_c rfl) dX5_refuse_31 (fun H locs => ?_)
    clear hP hD hS
    intro hP hD hS
    have hPD := pd_as [zzO qx 4 [.ref qt, .ref qk, .ref qp, .ref qs, .ref qa, .ref qr, .int iKp, .int iYe, .int iTv], zzI cy qr 5 (upd fR 4 ((fR 4) + 1))] hP hD rfl
    clear hP hD
    obtain ⟨hP, hD⟩ := hPD
    refine lv_iload_n hx hb dX5_refuse_32 rfl (lv_at hl 2 rfl) ?_
    exact endW (u := [zzO qx 4 [.ref qt, .ref qk, .ref qp, .ref qs, .ref qa, .ref qr, .int iKp, .int iYe, .int iTv], zzI cy qr 5 (upd fR 4 ((fR 4) + 1))]) hx hb hr hlocks rfl (hP.sub [0, 1] rfl) (hD.sub [0, 1] (by decide +kernel) rfl) hS ⟨upd fR 4 ((fR 4) + 1), rfl, rfl⟩ dX5_refuse_33
  · exact absurd (by decide) h_3
set_option maxHeartbeats 4000000 in
set_option maxRecDepth 100000 in
theorem c_X5_isShelf (l : Launch) (G : va_G) (cy : Nat → ClassId) (iA : Int32)   : MR l yX5_isShelf cX5_isShelf 1 (some .boolean) 2 G cy [] [.int iA] (vp_Si (fun r => (r = 1 ∧ ∃ k : Nat, k < 8 ∧ iA = nI k) ∨ (r = 0 ∧ ¬ ∃ k : Nat, k < 8 ∧ iA = nI k))) := by
  refine enR RX5 (by decide) rfl (Nat.le_of_ble_eq_true rfl) (fun p e s m below meth c ls hx hb hml hown hts hr hlocks hP hN hl => ?_)
  have hK := hN.1
  replace hl : lv_has ls 1 [(0, .int iA)] := hl
  refine lv_iload_n hx hb dX5_isShelf_0 rfl (lv_at hl 0 rfl) ?_
  refine lv_i2l (v := iA.toInt64) hx hb dX5_isShelf_1 rfl ?_
  refine lv_lconst (v := 0) hx hb dX5_isShelf_2 (by decide) ?_
  refine lv_ldc2 hx hb hown (hts _ m_t209) dX5_isShelf_3 ?_
  refine kRi (rS (As := [.long iA.toInt64, .long 0, .long 7]) (rest := []) ⟨hx, hb, hml, hown, hts⟩ (c_X5_within l G cy iA.toInt64 0 7) L_X5_50 (preRS hN hP [] rfl) rfl ⟨Nat.le_of_ble_eq_true rfl, Nat.le_of_ble_eq_true rfl⟩ hl.1 (Nat.le_of_ble_eq_true rfl) dX5_isShelf_6 ⟨Nat.le_of_ble_eq_true rfl, Nat.le_of_ble_eq_true rfl⟩) (fun r_1 h_2 => ?_)
  rcases h_2 with ⟨rfl, h_3⟩ | ⟨rfl, h_3⟩
  · exact endR hx hb hr hlocks rfl (Or.inl (⟨rfl, nI_of7' h_3⟩)) dX5_isShelf_9
  · exact endR hx hb hr hlocks rfl (Or.inr (⟨rfl, no_of7 h_3⟩)) dX5_isShelf_9
set_option maxHeartbeats 4000000 in
set_option maxRecDepth 100000 in
theorem c_X5_isSetOf (l : Launch) (G : va_G) (cy : Nat → ClassId) (iA : Int32) (iB : Int32)   : MR l yX5_isSetOf cX5_isSetOf 2 (some .boolean) 2 G cy [] [.int iA, .int iB] (vp_Si (fun r => (r = 1 ∧ iA &&& (((1 <<< (iB &&& 31)) - 1) ^^^ (-1)) = 0) ∨ (r = 0 ∧ ¬ iA &&& (((1 <<< (iB &&& 31)) - 1) ^^^ (-1)) = 0))) := by
  refine enR RX5 (by decide) rfl (Nat.le_of_ble_eq_true rfl) (fun p e s m below meth c ls hx hb hml hown hts hr hlocks hP hN hl => ?_)
  have hK := hN.1
  replace hl : lv_has ls 2 [(0, .int iA), (1, .int iB)] := hl
  refine lv_iload_n hx hb dX5_isSetOf_0 rfl (lv_at hl 0 rfl) ?_
  refine lv_iload_n hx hb dX5_isSetOf_1 rfl (lv_at hl 1 rfl) ?_
  refine kRi (rS (As := [.int iB]) (rest := [.int iA]) ⟨hx, hb, hml, hown, hts⟩ (c_X5_setOfAll l G cy iB) L_X5_186 (preRS hN hP [] rfl) rfl ⟨Nat.le_of_ble_eq_true rfl, Nat.le_of_ble_eq_true rfl⟩ hl.1 (Nat.le_of_ble_eq_true rfl) dX5_isSetOf_2 ⟨Nat.le_of_ble_eq_true rfl, Nat.le_of_ble_eq_true rfl⟩) (fun r_1 h_2 => ?_)
  subst h_2
  refine lv_iconst (v := (-1)) hx hb dX5_isSetOf_5 (by decide) ?_
  refine lv_ixor hx hb dX5_isSetOf_6 ?_
  refine lv_iand hx hb dX5_isSetOf_7 ?_
  refine lv_if_ne (tgt := 15) hx hb dX5_isSetOf_8 (by decide) (fun c_3 => ?_) (fun c_3 => ?_)
  · refine lv_iconst (v := 0) hx hb dX5_isSetOf_15 (by decide) ?_
    exact endR hx hb hr hlocks rfl (Or.inr (⟨rfl, c_3⟩)) dX5_isSetOf_16
  · refine lv_iconst (v := 1) hx hb dX5_isSetOf_11 (by decide) ?_
    refine lv_goto (tgt := 16) hx hb dX5_isSetOf_12 (by decide) ?_
    exact endR hx hb hr hlocks rfl (Or.inl (⟨rfl, c_3⟩)) dX5_isSetOf_16
set_option maxHeartbeats 4000000 in
set_option maxRecDepth 100000 in
theorem c_X5_canBeOne (l : Launch) (G : va_G) (cy : Nat → ClassId) (J1 : Int64) (J2 : Int64) (J3 : Int64) (J4 : Int64)   : MR l yX5_canBeOne cX5_canBeOne 8 (some .boolean) 2 G cy [] [.long J1, .long J2, .long J3, .long J4] (vp_Si (fun r => (r = 1 ∧ Iv J1 0 9 ∧ Iv J2 0 10 ∧ Iv J3 0 10 ∧ Iv J4 0 10) ∨ (r = 0 ∧ ¬ (Iv J1 0 9 ∧ Iv J2 0 10 ∧ Iv J3 0 10 ∧ Iv J4 0 10)))) := by
  refine enR RX5 (by decide) rfl (Nat.le_of_ble_eq_true rfl) (fun p e s m below meth c ls hx hb hml hown hts hr hlocks hP hN hl => ?_)
  have hK := hN.1
  replace hl : lv_has ls 8 [(0, .long J1), (2, .long J2), (4, .long J3), (6, .long J4)] := hl
  refine lv_lload_n hx hb dX5_canBeOne_0 rfl (lv_at hl 0 rfl) ?_
  refine lv_lconst (v := 0) hx hb dX5_canBeOne_1 (by decide) ?_
  refine lv_ldc2 hx hb hown (hts _ m_t416) dX5_canBeOne_2 ?_
  refine kRi (rS (As := [.long J1, .long 0, .long 9]) (rest := []) ⟨hx, hb, hml, hown, hts⟩ (c_X5_within l G cy J1 0 9) L_X5_50 (preRS hN hP [] rfl) rfl ⟨Nat.le_of_ble_eq_true rfl, Nat.le_of_ble_eq_true rfl⟩ hl.1 (Nat.le_of_ble_eq_true rfl) dX5_canBeOne_5 ⟨Nat.le_of_ble_eq_true rfl, Nat.le_of_ble_eq_true rfl⟩) (fun r_1 h_2 => ?_)
  rcases h_2 with ⟨rfl, h_3⟩ | ⟨rfl, h_3⟩
  · refine lv_if_eq (tgt := 50) hx hb dX5_canBeOne_8 (by decide) (fun h9 => absurd h9 (by decide)) (fun _ => ?_)
    refine lv_lload_n hx hb dX5_canBeOne_11 rfl (lv_at hl 1 rfl) ?_
    refine lv_lconst (v := 0) hx hb dX5_canBeOne_12 (by decide) ?_
    refine lv_ldc2 hx hb hown (hts _ m_t417) dX5_canBeOne_13 ?_
    refine kRi (rS (As := [.long J2, .long 0, .long 10]) (rest := []) ⟨hx, hb, hml, hown, hts⟩ (c_X5_within l G cy J2 0 10) L_X5_50 (preRS hN hP [] rfl) rfl ⟨Nat.le_of_ble_eq_true rfl, Nat.le_of_ble_eq_true rfl⟩ hl.1 (Nat.le_of_ble_eq_true rfl) dX5_canBeOne_16 ⟨Nat.le_of_ble_eq_true rfl, Nat.le_of_ble_eq_true rfl⟩) (fun r_5 h_6 => ?_)
    rcases h_6 with ⟨rfl, h_7⟩ | ⟨rfl, h_7⟩
    · refine lv_if_eq (tgt := 50) hx hb dX5_canBeOne_19 (by decide) (fun h9 => absurd h9 (by decide)) (fun _ => ?_)
      refine lv_lload hx hb dX5_canBeOne_22 (lv_at hl 2 rfl) ?_
      refine lv_lconst (v := 0) hx hb dX5_canBeOne_24 (by decide) ?_
      refine lv_ldc2 hx hb hown (hts _ m_t417) dX5_canBeOne_25 ?_
      refine kRi (rS (As := [.long J3, .long 0, .long 10]) (rest := []) ⟨hx, hb, hml, hown, hts⟩ (c_X5_within l G cy J3 0 10) L_X5_50 (preRS hN hP [] rfl) rfl ⟨Nat.le_of_ble_eq_true rfl, Nat.le_of_ble_eq_true rfl⟩ hl.1 (Nat.le_of_ble_eq_true rfl) dX5_canBeOne_28 ⟨Nat.le_of_ble_eq_true rfl, Nat.le_of_ble_eq_true rfl⟩) (fun r_9 h_10 => ?_)
      rcases h_10 with ⟨rfl, h_11⟩ | ⟨rfl, h_11⟩
      · refine lv_if_eq (tgt := 50) hx hb dX5_canBeOne_31 (by decide) (fun h9 => absurd h9 (by decide)) (fun _ => ?_)
        refine lv_lload hx hb dX5_canBeOne_34 (lv_at hl 3 rfl) ?_
        refine lv_lconst (v := 0) hx hb dX5_canBeOne_36 (by decide) ?_
        refine lv_ldc2 hx hb hown (hts _ m_t417) dX5_canBeOne_37 ?_
        refine kRi (rS (As := [.long J4, .long 0, .long 10]) (rest := []) ⟨hx, hb, hml, hown, hts⟩ (c_X5_within l G cy J4 0 10) L_X5_50 (preRS hN hP [] rfl) rfl ⟨Nat.le_of_ble_eq_true rfl, Nat.le_of_ble_eq_true rfl⟩ hl.1 (Nat.le_of_ble_eq_true rfl) dX5_canBeOne_40 ⟨Nat.le_of_ble_eq_true rfl, Nat.le_of_ble_eq_true rfl⟩) (fun r_13 h_14 => ?_)
        rcases h_14 with ⟨rfl, h_15⟩ | ⟨rfl, h_15⟩
        · refine lv_if_eq (tgt := 50) hx hb dX5_canBeOne_43 (by decide) (fun h9 => absurd h9 (by decide)) (fun _ => ?_)
          refine lv_iconst (v := 1) hx hb dX5_canBeOne_46 (by decide) ?_
          refine lv_goto (tgt := 51) hx hb dX5_canBeOne_47 (by decide) ?_
          exact endR hx hb hr hlocks rfl (Or.inl (⟨rfl, by simp [Iv, h_3, h_7, h_11, h_15]⟩)) dX5_canBeOne_51
        · refine lv_if_eq (tgt := 50) hx hb dX5_canBeOne_43 (by decide) (fun _ => ?_) (fun h9 => absurd (by decide) h9)
          refine lv_iconst (v := 0) hx hb dX5_canBeOne_50 (by decide) ?_
          exact endR hx hb hr hlocks rfl (Or.inr (⟨rfl, by simp [Iv, h_3, h_7, h_11, h_15]⟩)) dX5_canBeOne_51
      · refine lv_if_eq (tgt := 50) hx hb dX5_canBeOne_31 (by decide) (fun _ => ?_) (fun h9 => absurd (by decide) h9)
        refine lv_iconst (v := 0) hx hb dX5_canBeOne_50 (by decide) ?_
        exact endR hx hb hr hlocks rfl (Or.inr (⟨rfl, by simp [Iv, h_3, h_7, h_11]⟩)) dX5_canBeOne_51
    · refine lv_if_eq (tgt := 50) hx hb dX5_canBeOne_19 (by decide) (fun _ => ?_) (fun h9 => absurd (by decide) h9)
      refine lv_iconst (v := 0) hx hb dX5_canBeOne_50 (by decide) ?_
      exact endR hx hb hr hlocks rfl (Or.inr (⟨rfl, by simp [Iv, h_3, h_7]⟩)) dX5_canBeOne_51
  · refine lv_if_eq (tgt := 50) hx hb dX5_canBeOne_8 (by decide) (fun _ => ?_) (fun h9 => absurd (by decide) h9)
    refine lv_iconst (v := 0) hx hb dX5_canBeOne_50 (by decide) ?_
    exact endR hx hb hr hlocks rfl (Or.inr (⟨rfl, by simp [Iv, h_3]⟩)) dX5_canBeOne_51
set_option maxHeartbeats 4000000 in
set_option maxRecDepth 100000 in
theorem c_X5_canBeTold (l : Launch) (G : va_G) (cy : Nat → ClassId) (iA : Int32) (iB : Int32)   : MR l yX5_canBeTold cX5_canBeTold 2 (some .boolean) 2 G cy [] [.int iA, .int iB] (vp_Si (fun r => (r = 1 ∧ Iv iA.toInt64 0 1000 ∧ Iv iB.toInt64 0 10) ∨ (r = 0 ∧ ¬ (Iv iA.toInt64 0 1000 ∧ Iv iB.toInt64 0 10)))) := by
  refine enR RX5 (by decide) rfl (Nat.le_of_ble_eq_true rfl) (fun p e s m below meth c ls hx hb hml hown hts hr hlocks hP hN hl => ?_)
  have hK := hN.1
  replace hl : lv_has ls 2 [(0, .int iA), (1, .int iB)] := hl
  refine lv_iload_n hx hb dX5_canBeTold_0 rfl (lv_at hl 0 rfl) ?_
  refine lv_i2l (v := iA.toInt64) hx hb dX5_canBeTold_1 rfl ?_
  refine lv_lconst (v := 0) hx hb dX5_canBeTold_2 (by decide) ?_
  refine lv_ldc2 hx hb hown (hts _ m_t591) dX5_canBeTold_3 ?_
  refine kRi (rS (As := [.long iA.toInt64, .long 0, .long 1000]) (rest := []) ⟨hx, hb, hml, hown, hts⟩ (c_X5_within l G cy iA.toInt64 0 1000) L_X5_50 (preRS hN hP [] rfl) rfl ⟨Nat.le_of_ble_eq_true rfl, Nat.le_of_ble_eq_true rfl⟩ hl.1 (Nat.le_of_ble_eq_true rfl) dX5_canBeTold_6 ⟨Nat.le_of_ble_eq_true rfl, Nat.le_of_ble_eq_true rfl⟩) (fun r_1 h_2 => ?_)
  rcases h_2 with ⟨rfl, h_3⟩ | ⟨rfl, h_3⟩
  · refine lv_if_eq (tgt := 28) hx hb dX5_canBeTold_9 (by decide) (fun h9 => absurd h9 (by decide)) (fun _ => ?_)
    refine lv_iload_n hx hb dX5_canBeTold_12 rfl (lv_at hl 1 rfl) ?_
    refine lv_i2l (v := iB.toInt64) hx hb dX5_canBeTold_13 rfl ?_
    refine lv_lconst (v := 0) hx hb dX5_canBeTold_14 (by decide) ?_
    refine lv_ldc2 hx hb hown (hts _ m_t417) dX5_canBeTold_15 ?_
    refine kRi (rS (As := [.long iB.toInt64, .long 0, .long 10]) (rest := []) ⟨hx, hb, hml, hown, hts⟩ (c_X5_within l G cy iB.toInt64 0 10) L_X5_50 (preRS hN hP [] rfl) rfl ⟨Nat.le_of_ble_eq_true rfl, Nat.le_of_ble_eq_true rfl⟩ hl.1 (Nat.le_of_ble_eq_true rfl) dX5_canBeTold_18 ⟨Nat.le_of_ble_eq_true rfl, Nat.le_of_ble_eq_true rfl⟩) (fun r_5 h_6 => ?_)
    rcases h_6 with ⟨rfl, h_7⟩ | ⟨rfl, h_7⟩
    · refine lv_if_eq (tgt := 28) hx hb dX5_canBeTold_21 (by decide) (fun h9 => absurd h9 (by decide)) (fun _ => ?_)
      refine lv_iconst (v := 1) hx hb dX5_canBeTold_24 (by decide) ?_
      refine lv_goto (tgt := 29) hx hb dX5_canBeTold_25 (by decide) ?_
      exact endR hx hb hr hlocks rfl (Or.inl (⟨rfl, by simp [Iv, h_3, h_7]⟩)) dX5_canBeTold_29
    · refine lv_if_eq (tgt := 28) hx hb dX5_canBeTold_21 (by decide) (fun _ => ?_) (fun h9 => absurd (by decide) h9)
      refine lv_iconst (v := 0) hx hb dX5_canBeTold_28 (by decide) ?_
      exact endR hx hb hr hlocks rfl (Or.inr (⟨rfl, by simp [Iv, h_3, h_7]⟩)) dX5_canBeTold_29
  · refine lv_if_eq (tgt := 28) hx hb dX5_canBeTold_9 (by decide) (fun _ => ?_) (fun h9 => absurd (by decide) h9)
    refine lv_iconst (v := 0) hx hb dX5_canBeTold_28 (by decide) ?_
    exact endR hx hb hr hlocks rfl (Or.inr (⟨rfl, by simp [Iv, h_3]⟩)) dX5_canBeTold_29
set_option maxHeartbeats 4000000 in
set_option maxRecDepth 100000 in
theorem c_X5_isPair (l : Launch) (G : va_G) (cy : Nat → ClassId) (qx : Nat) (qt : Nat) (qk : Nat) (qp : Nat) (qs : Nat) (qa : Nat) (qr : Nat) (iKp : Int32) (iYe : Int32) (iTv : Int32) (tA : TA) (qtw : Nat) (qtn : Nat) (qtg : Nat) (qta : Nat) (qtr : Nat) (qtm : Nat) (qtt : Nat) (qts : Nat) (iA : Int32) (iB : Int32)  (hB : T_nb tA ≤ 8) (hPp : T_np tA ≤ 8) : MR l yX5_isPair cX5_isPair 3 (some .boolean) 2 G cy [zzO qx 4 [.ref qt, .ref qk, .ref qp, .ref qs, .ref qa, .ref qr, .int iKp, .int iYe, .int iTv], zzO qt 3 [.int (nI (T_nb tA)), .int (nI (T_np tA)), .int (wb (T_wh tA)), .int (wb (T_gn tA)), .int (T_sd tA), .ref qtw, .ref qtn, .ref qtg, .ref qta, .ref qtr, .ref qtm, .ref qtt, .ref qts]] [.ref qx, .int iA, .int iB] (vp_Si (fun r => (r = 1 ∧ (∃ k : Nat, k < T_np tA ∧ iA = nI k) ∧ (∃ k : Nat, k < T_nb tA ∧ iB = nI k)) ∨ (r = 0 ∧ ¬ ((∃ k : Nat, k < T_np tA ∧ iA = nI k) ∧ (∃ k : Nat, k < T_nb tA ∧ iB = nI k))))) := by
  refine enR RX5 (by decide) rfl (Nat.le_of_ble_eq_true rfl) (fun p e s m below meth c ls hx hb hml hown hts hr hlocks hP hN hl => ?_)
  have hK := hN.1
  replace hl : lv_has ls 3 [(0, .ref qx), (1, .int iA), (2, .int iB)] := hl
  refine lv_aload_n hx hb dX5_isPair_0 rfl (lv_at hl 0 rfl) ?_
  refine va_get (D := G) (ci := 4) (v := .ref qt) (C := RX5) (T := TX5) (N := 9) hx hb hts iX_X5 hown hK hP 0 rfl rfl 0 (by decide) (hts _ m_t174) (fun _ h9 => h9) rfl dX5_isPair_1 ?_
  refine lv_iload_n hx hb dX5_isPair_4 rfl (lv_at hl 1 rfl) ?_
  refine kRi (rV (As := [.int iA]) (rest := []) (b := qt) ⟨hx, hb, hml, hown, hts⟩ (c_X4_isOne l G cy qt tA qtw qtn qtg qta qtr qtm qtt qts iA hPp) L_X5_192 (preRV (q := (RX4, TX4, 13)) hN hP [1] rfl 1 3 rfl rfl) rfl ⟨Nat.le_of_ble_eq_true rfl, Nat.le_of_ble_eq_true rfl⟩ hl.1 (Nat.le_of_ble_eq_true rfl) dX5_isPair_5 ⟨Nat.le_of_ble_eq_true rfl, Nat.le_of_ble_eq_true rfl⟩) (fun r_1 h_2 => ?_)
  rcases h_2 with ⟨rfl, h_3⟩ | ⟨rfl, h_3⟩
  · refine lv_if_eq (tgt := 26) hx hb dX5_isPair_8 (by decide) (fun h9 => absurd h9 (by decide)) (fun _ => ?_)
    refine lv_aload_n hx hb dX5_isPair_11 rfl (lv_at hl 0 rfl) ?_
    refine va_get (D := G) (ci := 4) (v := .ref qt) (C := RX5) (T := TX5) (N := 9) hx hb hts iX_X5 hown hK hP 0 rfl rfl 0 (by decide) (hts _ m_t174) (fun _ h9 => h9) rfl dX5_isPair_12 ?_
    refine lv_iload_n hx hb dX5_isPair_15 rfl (lv_at hl 2 rfl) ?_
    refine kRi (rV (As := [.int iB]) (rest := []) (b := qt) ⟨hx, hb, hml, hown, hts⟩ (c_X4_isBook l G cy qt tA qtw qtn qtg qta qtr qtm qtt qts iB hB) L_X5_168 (preRV (q := (RX4, TX4, 13)) hN hP [1] rfl 1 3 rfl rfl) rfl ⟨Nat.le_of_ble_eq_true rfl, Nat.le_of_ble_eq_true rfl⟩ hl.1 (Nat.le_of_ble_eq_true rfl) dX5_isPair_16 ⟨Nat.le_of_ble_eq_true rfl, Nat.le_of_ble_eq_true rfl⟩) (fun r_5 h_6 => ?_)
    rcases h_6 with ⟨rfl, h_7⟩ | ⟨rfl, h_7⟩
    · refine lv_if_eq (tgt := 26) hx hb dX5_isPair_19 (by decide) (fun h9 => absurd h9 (by decide)) (fun _ => ?_)
      refine lv_iconst (v := 1) hx hb dX5_isPair_22 (by decide) ?_
      refine lv_goto (tgt := 27) hx hb dX5_isPair_23 (by decide) ?_
      exact endR hx hb hr hlocks rfl (Or.inl (⟨rfl, ⟨h_3, h_7⟩⟩)) dX5_isPair_27
    · refine lv_if_eq (tgt := 26) hx hb dX5_isPair_19 (by decide) (fun _ => ?_) (fun h9 => absurd (by decide) h9)
      refine lv_iconst (v := 0) hx hb dX5_isPair_26 (by decide) ?_
      exact endR hx hb hr hlocks rfl (Or.inr (⟨rfl, (fun q => h_7 q.2)⟩)) dX5_isPair_27
  · refine lv_if_eq (tgt := 26) hx hb dX5_isPair_8 (by decide) (fun _ => ?_) (fun h9 => absurd (by decide) h9)
    refine lv_iconst (v := 0) hx hb dX5_isPair_26 (by decide) ?_
    exact endR hx hb hr hlocks rfl (Or.inr (⟨rfl, (fun q => h_3 q.1)⟩)) dX5_isPair_27
set_option maxHeartbeats 4000000 in
set_option maxRecDepth 100000 in
theorem c_X5_readFit (l : Launch) (G : va_G) (cy : Nat → ClassId) (qx : Nat) (qt : Nat) (qk : Nat) (qp : Nat) (qs : Nat) (qa : Nat) (qr : Nat) (iKp : Int32) (iYe : Int32) (iTv : Int32) (tA : TA) (qtw : Nat) (qtn : Nat) (qtg : Nat) (qta : Nat) (qtr : Nat) (qtm : Nat) (qtt : Nat) (qts : Nat) (iA : Int32) (iB : Int32)  (hB : T_nb tA ≤ 8) (hPp : T_np tA ≤ 8) : MR l yX5_readFit cX5_readFit 3 (some .int) 3 G cy [zzO qx 4 [.ref qt, .ref qk, .ref qp, .ref qs, .ref qa, .ref qr, .int iKp, .int iYe, .int iTv], zzO qt 3 [.int (nI (T_nb tA)), .int (nI (T_np tA)), .int (wb (T_wh tA)), .int (wb (T_gn tA)), .int (T_sd tA), .ref qtw, .ref qtn, .ref qtg, .ref qta, .ref qtr, .ref qtm, .ref qtt, .ref qts]] [.ref qx, .int iA, .int iB] (vp_Si (fun r => (r = (-2) ∧ ¬ ((∃ k : Nat, k < T_np tA ∧ iA = nI k) ∧ (∃ k : Nat, k < T_nb tA ∧ iB = nI k))) ∨ (r = (-5) ∧ ∃ k m : Nat, k < T_np tA ∧ m < T_nb tA ∧ iA = nI k ∧ iB = nI m ∧ (T_wh tA m = true ∨ T_gn tA k = true)) ∨ (r = 0 ∧ ∃ k m : Nat, k < T_np tA ∧ m < T_nb tA ∧ iA = nI k ∧ iB = nI m ∧ T_wh tA m = false ∧ T_gn tA k = false))) := by
  refine enR RX5 (by decide) rfl (Nat.le_of_ble_eq_true rfl) (fun p e s m below meth c ls hx hb hml hown hts hr hlocks hP hN hl => ?_)
  have hK := hN.1
  replace hl : lv_has ls 3 [(0, .ref qx), (1, .int iA), (2, .int iB)] := hl
  refine lv_aload_n hx hb dX5_readFit_0 rfl (lv_at hl 0 rfl) ?_
  refine lv_iload_n hx hb dX5_readFit_1 rfl (lv_at hl 1 rfl) ?_
  refine lv_iload_n hx hb dX5_readFit_2 rfl (lv_at hl 2 rfl) ?_
  refine kRi (rV (As := [.int iA, .int iB]) (rest := []) (b := qx) ⟨hx, hb, hml, hown, hts⟩ (c_X5_isPair l G cy qx qt qk qp qs qa qr iKp iYe iTv tA qtw qtn qtg qta qtr qtm qtt qts iA iB hB hPp) L_X5_210 (preRV (q := (RX5, TX5, 9)) hN hP [0, 1] rfl 0 4 rfl rfl) rfl ⟨Nat.le_of_ble_eq_true rfl, Nat.le_of_ble_eq_true rfl⟩ hl.1 (Nat.le_of_ble_eq_true rfl) dX5_readFit_3 ⟨Nat.le_of_ble_eq_true rfl, Nat.le_of_ble_eq_true rfl⟩) (fun r_1 h_2 => ?_)
  rcases h_2 with ⟨rfl, h_3⟩ | ⟨rfl, h_3⟩
  · refine lv_if_ne (tgt := 12) hx hb dX5_readFit_6 (by decide) (fun _ => ?_) (fun h9 => absurd h9 (by decide))
    obtain ⟨⟨k_5, hk_7, rfl⟩, ⟨k_6, hk_8, rfl⟩⟩ := h_3
    refine lv_aload_n hx hb dX5_readFit_12 rfl (lv_at hl 0 rfl) ?_
    refine va_get (D := G) (ci := 4) (v := .ref qt) (C := RX5) (T := TX5) (N := 9) hx hb hts iX_X5 hown hK hP 0 rfl rfl 0 (by decide) (hts _ m_t174) (fun _ h9 => h9) rfl dX5_readFit_13 ?_
    refine va_getN (D := G) (ci := 3) (v := .int (wb (T_wh tA))) (C := RX4) (T := TX4) (N := 13) hx hb hts iX_X4 hown hK hP 1 rfl rfl 2 (by decide) (va_Nw.use rfl (hN.2.1 (RX5, 180, "EachBookOnce$Town", "white", "I") (List.mem_of_getElem? (i := 10) rfl))) (fun _ h9 => h9) rfl dX5_readFit_16 ?_
    refine lv_iload_n hx hb dX5_readFit_19 rfl (lv_at hl 2 rfl) ?_
    refine kRi (rS (As := [.int (wb (T_wh tA)), .int (nI k_6)]) (rest := []) ⟨hx, hb, hml, hown, hts⟩ (c_X5_has l G cy (wb (T_wh tA)) k_6) L_X5_183 (preRS hN hP [] rfl) rfl ⟨Nat.le_of_ble_eq_true rfl, Nat.le_of_ble_eq_true rfl⟩ hl.1 (Nat.le_of_ble_eq_true rfl) dX5_readFit_20 ⟨Nat.le_of_ble_eq_true rfl, Nat.le_of_ble_eq_true rfl⟩) (fun r_9 h_10 => ?_)
    rcases h_10 with ⟨rfl, h_11⟩ | ⟨rfl, h_11⟩
    · rw [bit_wb _ (by omega)] at h_11
      refine lv_if_ne (tgt := 40) hx hb dX5_readFit_23 (by decide) (fun _ => ?_) (fun h9 => absurd h9 (by decide))
      refine lv_bipush (v := (-5)) hx hb dX5_readFit_40 (by decide) ?_
      refine lv_goto (tgt := 46) hx hb dX5_readFit_42 (by decide) ?_
      exact endR hx hb hr hlocks rfl (Or.inr (Or.inl (⟨rfl, ⟨k_5, k_6, hk_7, hk_8, rfl, rfl, Or.inl h_11⟩⟩))) dX5_readFit_46
    · rw [bit_wb _ (by omega)] at h_11
      refine lv_if_ne (tgt := 40) hx hb dX5_readFit_23 (by decide) (fun h9 => absurd (by decide) h9) (fun _ => ?_)
      refine lv_aload_n hx hb dX5_readFit_26 rfl (lv_at hl 0 rfl) ?_
      refine va_get (D := G) (ci := 4) (v := .ref qt) (C := RX5) (T := TX5) (N := 9) hx hb hts iX_X5 hown hK hP 0 rfl rfl 0 (by decide) (hts _ m_t174) (fun _ h9 => h9) rfl dX5_readFit_27 ?_
      refine va_getN (D := G) (ci := 3) (v := .int (wb (T_gn tA))) (C := RX4) (T := TX4) (N := 13) hx hb hts iX_X4 hown hK hP 1 rfl rfl 3 (by decide) (va_Nw.use rfl (hN.2.1 (RX5, 207, "EachBookOnce$Town", "gone", "I") (List.mem_of_getElem? (i := 12) rfl))) (fun _ h9 => h9) rfl dX5_readFit_30 ?_
      refine lv_iload_n hx hb dX5_readFit_33 rfl (lv_at hl 1 rfl) ?_
      refine kRi (rS (As := [.int (wb (T_gn tA)), .int (nI k_5)]) (rest := []) ⟨hx, hb, hml, hown, hts⟩ (c_X5_has l G cy (wb (T_gn tA)) k_5) L_X5_183 (preRS hN hP [] rfl) rfl ⟨Nat.le_of_ble_eq_true rfl, Nat.le_of_ble_eq_true rfl⟩ hl.1 (Nat.le_of_ble_eq_true rfl) dX5_readFit_34 ⟨Nat.le_of_ble_eq_true rfl, Nat.le_of_ble_eq_true rfl⟩) (fun r_14 h_15 => ?_)
      rcases h_15 with ⟨rfl, h_16⟩ | ⟨rfl, h_16⟩
      · rw [bit_wb _ (by omega)] at h_16
        refine lv_if_eq (tgt := 45) hx hb dX5_readFit_37 (by decide) (fun h9 => absurd h9 (by decide)) (fun _ => ?_)
        refine lv_bipush (v := (-5)) hx hb dX5_readFit_40 (by decide) ?_
        refine lv_goto (tgt := 46) hx hb dX5_readFit_42 (by decide) ?_
        exact endR hx hb hr hlocks rfl (Or.inr (Or.inl (⟨rfl, ⟨k_5, k_6, hk_7, hk_8, rfl, rfl, Or.inr h_16⟩⟩))) dX5_readFit_46
      · rw [bit_wb _ (by omega)] at h_16
        refine lv_if_eq (tgt := 45) hx hb dX5_readFit_37 (by decide) (fun _ => ?_) (fun h9 => absurd (by decide) h9)
        refine lv_iconst (v := 0) hx hb dX5_readFit_45 (by decide) ?_
        exact endR hx hb hr hlocks rfl (Or.inr (Or.inr (⟨rfl, ⟨k_5, k_6, hk_7, hk_8, rfl, rfl, h_11, h_16⟩⟩))) dX5_readFit_46
  · refine lv_if_ne (tgt := 12) hx hb dX5_readFit_6 (by decide) (fun h9 => absurd (by decide) h9) (fun _ => ?_)
    refine lv_bipush (v := (-2)) hx hb dX5_readFit_9 (by decide) ?_
    exact endR hx hb hr hlocks rfl (Or.inl (⟨rfl, h_3⟩)) dX5_readFit_11
set_option maxHeartbeats 4000000 in
set_option maxRecDepth 100000 in
theorem c_X5_rowFit (l : Launch) (G : va_G) (cy : Nat → ClassId) (qx : Nat) (qt : Nat) (qk : Nat) (qp : Nat) (qs : Nat) (qa : Nat) (qr : Nat) (iKp : Int32) (iYe : Int32) (iTv : Int32) (qsh : Nat) (qss : Nat) (qsa : Nat) (qse : Nat) (fH : Nat → Int32) (iA : Int32)   : MR l yX5_rowFit cX5_rowFit 2 (some .int) 3 G cy [zzO qx 4 [.ref qt, .ref qk, .ref qp, .ref qs, .ref qa, .ref qr, .int iKp, .int iYe, .int iTv], zzO qs 1 [.ref qsh, .ref qss, .ref qsa, .ref qse], zzI cy qsh 8 fH] [.ref qx, .int iA] (vp_Si (fun r => (r = (-2) ∧ ¬ ∃ k : Nat, k < 8 ∧ iA = nI k) ∨ (r = (-3) ∧ ∃ k : Nat, k < 8 ∧ iA = nI k ∧ 10 ≤ fH k) ∨ (r = 0 ∧ ∃ k : Nat, k < 8 ∧ iA = nI k ∧ ¬ 10 ≤ fH k ∧ Rw (fH k)) ∨ (r = (-4) ∧ ∃ k : Nat, k < 8 ∧ iA = nI k ∧ ¬ 10 ≤ fH k ∧ ¬ Rw (fH k)))) := by
  refine enR RX5 (by decide) rfl (Nat.le_of_ble_eq_true rfl) (fun p e s m below meth c ls hx hb hml hown hts hr hlocks hP hN hl => ?_)
  have hK := hN.1
  replace hl : lv_has ls 2 [(0, .ref qx), (1, .int iA)] := hl
  refine lv_iload_n hx hb dX5_rowFit_0 rfl (lv_at hl 1 rfl) ?_
  refine kRi (rS (As := [.int iA]) (rest := []) ⟨hx, hb, hml, hown, hts⟩ (c_X5_isShelf l G cy iA) L_X5_44 (preRS hN hP [] rfl) rfl ⟨Nat.le_of_ble_eq_true rfl, Nat.le_of_ble_eq_true rfl⟩ hl.1 (Nat.le_of_ble_eq_true rfl) dX5_rowFit_1 ⟨Nat.le_of_ble_eq_true rfl, Nat.le_of_ble_eq_true rfl⟩) (fun r_1 h_2 => ?_)
  rcases h_2 with ⟨rfl, h_3⟩ | ⟨rfl, h_3⟩
  · obtain ⟨k_4, hk_5, rfl⟩ := h_3
    refine lv_if_ne (tgt := 10) hx hb dX5_rowFit_4 (by decide) (fun _ => ?_) (fun h9 => absurd h9 (by decide))
    refine lv_aload_n hx hb dX5_rowFit_10 rfl (lv_at hl 0 rfl) ?_
    refine va_get (D := G) (ci := 4) (v := .ref qs) (C := RX5) (T := TX5) (N := 9) hx hb hts iX_X5 hown hK hP 0 rfl rfl 3 (by decide) (hts _ m_t177) (fun _ h9 => h9) rfl dX5_rowFit_11 ?_
    refine lv_iload_n hx hb dX5_rowFit_14 rfl (lv_at hl 1 rfl) ?_
    refine kRi (rV (As := [.int (nI k_4)]) (rest := []) (b := qs) ⟨hx, hb, hml, hown, hts⟩ (c_X2_hasRule l G cy qs qsh qss qsa qse fH k_4 (by first | omega | (simp only [nb_sr, np_sr, nb_wr, np_wr, nb_rd, np_rd, nb_ch, np_ch, nb_zr, np_zr, nb_za, np_za, nb_ey, np_ey, nb_hf, np_hf, nb_dd, np_dd, nb_so, np_so, nb_skn, np_skn, nb_swh, np_swh, nb_sgn, np_sgn, nb_ssd, np_ssd, nb_sgo, np_sgo, nb_sag, np_sag]; omega))) L_X5_361 (preRV (q := (RX2, TX2, 4)) hN hP [1, 2] rfl 1 1 rfl rfl) rfl ⟨Nat.le_of_ble_eq_true rfl, Nat.le_of_ble_eq_true rfl⟩ hl.1 (Nat.le_of_ble_eq_true rfl) dX5_rowFit_15 ⟨Nat.le_of_ble_eq_true rfl, Nat.le_of_ble_eq_true rfl⟩) (fun r_7 h_8 => ?_)
    rcases h_8 with ⟨rfl, h_9⟩ | ⟨rfl, h_9⟩
    · refine lv_if_eq (tgt := 24) hx hb dX5_rowFit_18 (by decide) (fun h9 => absurd h9 (by decide)) (fun _ => ?_)
      refine lv_bipush (v := (-3)) hx hb dX5_rowFit_21 (by decide) ?_
      exact endR hx hb hr hlocks rfl (Or.inr (Or.inl (⟨rfl, ⟨k_4, hk_5, rfl, h_9⟩⟩))) dX5_rowFit_23
    · refine lv_if_eq (tgt := 24) hx hb dX5_rowFit_18 (by decide) (fun _ => ?_) (fun h9 => absurd (by decide) h9)
      refine lv_aload_n hx hb dX5_rowFit_24 rfl (lv_at hl 0 rfl) ?_
      refine va_get (D := G) (ci := 4) (v := .ref qs) (C := RX5) (T := TX5) (N := 9) hx hb hts iX_X5 hown hK hP 0 rfl rfl 3 (by decide) (hts _ m_t177) (fun _ h9 => h9) rfl dX5_rowFit_25 ?_
      refine lv_iload_n hx hb dX5_rowFit_28 rfl (lv_at hl 1 rfl) ?_
      refine kRi (rV (As := [.int (nI k_4)]) (rest := []) (b := qs) ⟨hx, hb, hml, hown, hts⟩ (c_X2_hasRow l G cy qs qsh qss qsa qse fH k_4 (by first | omega | (simp only [nb_sr, np_sr, nb_wr, np_wr, nb_rd, np_rd, nb_ch, np_ch, nb_zr, np_zr, nb_za, np_za, nb_ey, np_ey, nb_hf, np_hf, nb_dd, np_dd, nb_so, np_so, nb_skn, np_skn, nb_swh, np_swh, nb_sgn, np_sgn, nb_ssd, np_ssd, nb_sgo, np_sgo, nb_sag, np_sag]; omega))) L_X5_364 (preRV (q := (RX2, TX2, 4)) hN hP [1, 2] rfl 1 1 rfl rfl) rfl ⟨Nat.le_of_ble_eq_true rfl, Nat.le_of_ble_eq_true rfl⟩ hl.1 (Nat.le_of_ble_eq_true rfl) dX5_rowFit_29 ⟨Nat.le_of_ble_eq_true rfl, Nat.le_of_ble_eq_true rfl⟩) (fun r_12 h_13 => ?_)
      rcases h_13 with ⟨rfl, h_14⟩ | ⟨rfl, h_14⟩
      · refine lv_if_eq (tgt := 39) hx hb dX5_rowFit_32 (by decide) (fun h9 => absurd h9 (by decide)) (fun _ => ?_)
        refine lv_iconst (v := 0) hx hb dX5_rowFit_35 (by decide) ?_
        refine lv_goto (tgt := 41) hx hb dX5_rowFit_36 (by decide) ?_
        exact endR hx hb hr hlocks rfl (Or.inr (Or.inr (Or.inl (⟨rfl, ⟨k_4, hk_5, rfl, h_9, h_14⟩⟩)))) dX5_rowFit_41
      · refine lv_if_eq (tgt := 39) hx hb dX5_rowFit_32 (by decide) (fun _ => ?_) (fun h9 => absurd (by decide) h9)
        refine lv_bipush (v := (-4)) hx hb dX5_rowFit_39 (by decide) ?_
        exact endR hx hb hr hlocks rfl (Or.inr (Or.inr (Or.inr (⟨rfl, ⟨k_4, hk_5, rfl, h_9, h_14⟩⟩)))) dX5_rowFit_41
  · refine lv_if_ne (tgt := 10) hx hb dX5_rowFit_4 (by decide) (fun h9 => absurd (by decide) h9) (fun _ => ?_)
    refine lv_bipush (v := (-2)) hx hb dX5_rowFit_7 (by decide) ?_
    exact endR hx hb hr hlocks rfl (Or.inl (⟨rfl, h_3⟩)) dX5_rowFit_9
set_option maxHeartbeats 4000000 in
set_option maxRecDepth 100000 in
theorem c_X5_ruleFitK (l : Launch) (G : va_G) (cy : Nat → ClassId) (qx : Nat) (qt : Nat) (qk : Nat) (qp : Nat) (qs : Nat) (qa : Nat) (qr : Nat) (iKp : Int32) (iYe : Int32) (iTv : Int32) (qsh : Nat) (qss : Nat) (qsa : Nat) (qse : Nat) (fH : Nat → Int32) (kS : Nat)  (hS8 : kS < 8) : MR l yX5_ruleFit cX5_ruleFit 2 (some .int) 3 G cy [zzO qx 4 [.ref qt, .ref qk, .ref qp, .ref qs, .ref qa, .ref qr, .int iKp, .int iYe, .int iTv], zzO qs 1 [.ref qsh, .ref qss, .ref qsa, .ref qse], zzI cy qsh 8 fH] [.ref qx, .int (nI kS)] (vp_Si (fun r => (r = (-3) ∧ Rw (fH kS)) ∨ (r = 0 ∧ ¬ Rw (fH kS) ∧ 10 ≤ fH kS) ∨ (r = (-4) ∧ ¬ Rw (fH kS) ∧ ¬ 10 ≤ fH kS))) := by
  refine enR RX5 (by decide) rfl (Nat.le_of_ble_eq_true rfl) (fun p e s m below meth c ls hx hb hml hown hts hr hlocks hP hN hl => ?_)
  have hK := hN.1
  replace hl : lv_has ls 2 [(0, .ref qx), (1, .int (nI kS))] := hl
  refine lv_iload_n hx hb dX5_ruleFit_0 rfl (lv_at hl 1 rfl) ?_
  refine kRi (rS (As := [.int (nI kS)]) (rest := []) ⟨hx, hb, hml, hown, hts⟩ (c_X5_isShelf l G cy (nI kS)) L_X5_44 (preRS hN hP [] rfl) rfl ⟨Nat.le_of_ble_eq_true rfl, Nat.le_of_ble_eq_true rfl⟩ hl.1 (Nat.le_of_ble_eq_true rfl) dX5_ruleFit_1 ⟨Nat.le_of_ble_eq_true rfl, Nat.le_of_ble_eq_true rfl⟩) (fun r_1 h_2 => ?_)
  rcases h_2 with ⟨rfl, h_3⟩ | ⟨rfl, h_3⟩
  · refine lv_if_ne (tgt := 10) hx hb dX5_ruleFit_4 (by decide) (fun _ => ?_) (fun h9 => absurd h9 (by decide))
    refine lv_aload_n hx hb dX5_ruleFit_10 rfl (lv_at hl 0 rfl) ?_
    refine va_get (D := G) (ci := 4) (v := .ref qs) (C := RX5) (T := TX5) (N := 9) hx hb hts iX_X5 hown hK hP 0 rfl rfl 3 (by decide) (hts _ m_t177) (fun _ h9 => h9) rfl dX5_ruleFit_11 ?_
    refine lv_iload_n hx hb dX5_ruleFit_14 rfl (lv_at hl 1 rfl) ?_
    refine kRi (rV (As := [.int (nI kS)]) (rest := []) (b := qs) ⟨hx, hb, hml, hown, hts⟩ (c_X2_hasRow l G cy qs qsh qss qsa qse fH kS hS8) L_X5_364 (preRV (q := (RX2, TX2, 4)) hN hP [1, 2] rfl 1 1 rfl rfl) rfl ⟨Nat.le_of_ble_eq_true rfl, Nat.le_of_ble_eq_true rfl⟩ hl.1 (Nat.le_of_ble_eq_true rfl) dX5_ruleFit_15 ⟨Nat.le_of_ble_eq_true rfl, Nat.le_of_ble_eq_true rfl⟩) (fun r_5 h_6 => ?_)
    rcases h_6 with ⟨rfl, h_7⟩ | ⟨rfl, h_7⟩
    · refine lv_if_eq (tgt := 24) hx hb dX5_ruleFit_18 (by decide) (fun h9 => absurd h9 (by decide)) (fun _ => ?_)
      refine lv_bipush (v := (-3)) hx hb dX5_ruleFit_21 (by decide) ?_
      exact endR hx hb hr hlocks rfl (Or.inl (⟨rfl, h_7⟩)) dX5_ruleFit_23
    · refine lv_if_eq (tgt := 24) hx hb dX5_ruleFit_18 (by decide) (fun _ => ?_) (fun h9 => absurd (by decide) h9)
      refine lv_aload_n hx hb dX5_ruleFit_24 rfl (lv_at hl 0 rfl) ?_
      refine va_get (D := G) (ci := 4) (v := .ref qs) (C := RX5) (T := TX5) (N := 9) hx hb hts iX_X5 hown hK hP 0 rfl rfl 3 (by decide) (hts _ m_t177) (fun _ h9 => h9) rfl dX5_ruleFit_25 ?_
      refine lv_iload_n hx hb dX5_ruleFit_28 rfl (lv_at hl 1 rfl) ?_
      refine kRi (rV (As := [.int (nI kS)]) (rest := []) (b := qs) ⟨hx, hb, hml, hown, hts⟩ (c_X2_hasRule l G cy qs qsh qss qsa qse fH kS hS8) L_X5_361 (preRV (q := (RX2, TX2, 4)) hN hP [1, 2] rfl 1 1 rfl rfl) rfl ⟨Nat.le_of_ble_eq_true rfl, Nat.le_of_ble_eq_true rfl⟩ hl.1 (Nat.le_of_ble_eq_true rfl) dX5_ruleFit_29 ⟨Nat.le_of_ble_eq_true rfl, Nat.le_of_ble_eq_true rfl⟩) (fun r_10 h_11 => ?_)
      rcases h_11 with ⟨rfl, h_12⟩ | ⟨rfl, h_12⟩
      · refine lv_if_eq (tgt := 39) hx hb dX5_ruleFit_32 (by decide) (fun h9 => absurd h9 (by decide)) (fun _ => ?_)
        refine lv_iconst (v := 0) hx hb dX5_ruleFit_35 (by decide) ?_
        refine lv_goto (tgt := 41) hx hb dX5_ruleFit_36 (by decide) ?_
        exact endR hx hb hr hlocks rfl (Or.inr (Or.inl (⟨rfl, ⟨h_7, h_12⟩⟩))) dX5_ruleFit_41
      · refine lv_if_eq (tgt := 39) hx hb dX5_ruleFit_32 (by decide) (fun _ => ?_) (fun h9 => absurd (by decide) h9)
        refine lv_bipush (v := (-4)) hx hb dX5_ruleFit_39 (by decide) ?_
        exact endR hx hb hr hlocks rfl (Or.inr (Or.inr (⟨rfl, ⟨h_7, h_12⟩⟩))) dX5_ruleFit_41
  · exact absurd ⟨kS, hS8, rfl⟩ h_3
set_option maxHeartbeats 4000000 in
set_option maxRecDepth 100000 in
theorem c_X5_ruleFit (l : Launch) (G : va_G) (cy : Nat → ClassId) (qx : Nat) (qt : Nat) (qk : Nat) (qp : Nat) (qs : Nat) (qa : Nat) (qr : Nat) (iKp : Int32) (iYe : Int32) (iTv : Int32) (qsh : Nat) (qss : Nat) (qsa : Nat) (qse : Nat) (fH : Nat → Int32) (iA : Int32)   : MR l yX5_ruleFit cX5_ruleFit 2 (some .int) 3 G cy [zzO qx 4 [.ref qt, .ref qk, .ref qp, .ref qs, .ref qa, .ref qr, .int iKp, .int iYe, .int iTv], zzO qs 1 [.ref qsh, .ref qss, .ref qsa, .ref qse], zzI cy qsh 8 fH] [.ref qx, .int iA] (vp_Si (fun r => (r = (-2) ∧ ¬ ∃ k : Nat, k < 8 ∧ iA = nI k) ∨ (r = (-3) ∧ ∃ k : Nat, k < 8 ∧ iA = nI k ∧ Rw (fH k)) ∨ (r = 0 ∧ ∃ k : Nat, k < 8 ∧ iA = nI k ∧ ¬ Rw (fH k) ∧ 10 ≤ fH k) ∨ (r = (-4) ∧ ∃ k : Nat, k < 8 ∧ iA = nI k ∧ ¬ Rw (fH k) ∧ ¬ 10 ≤ fH k))) := by
  refine enR RX5 (by decide) rfl (Nat.le_of_ble_eq_true rfl) (fun p e s m below meth c ls hx hb hml hown hts hr hlocks hP hN hl => ?_)
  have hK := hN.1
  replace hl : lv_has ls 2 [(0, .ref qx), (1, .int iA)] := hl
  refine lv_iload_n hx hb dX5_ruleFit_0 rfl (lv_at hl 1 rfl) ?_
  refine kRi (rS (As := [.int iA]) (rest := []) ⟨hx, hb, hml, hown, hts⟩ (c_X5_isShelf l G cy iA) L_X5_44 (preRS hN hP [] rfl) rfl ⟨Nat.le_of_ble_eq_true rfl, Nat.le_of_ble_eq_true rfl⟩ hl.1 (Nat.le_of_ble_eq_true rfl) dX5_ruleFit_1 ⟨Nat.le_of_ble_eq_true rfl, Nat.le_of_ble_eq_true rfl⟩) (fun r_1 h_2 => ?_)
  rcases h_2 with ⟨rfl, h_3⟩ | ⟨rfl, h_3⟩
  · obtain ⟨k_4, hk_5, rfl⟩ := h_3
    refine lv_if_ne (tgt := 10) hx hb dX5_ruleFit_4 (by decide) (fun _ => ?_) (fun h9 => absurd h9 (by decide))
    refine lv_aload_n hx hb dX5_ruleFit_10 rfl (lv_at hl 0 rfl) ?_
    refine va_get (D := G) (ci := 4) (v := .ref qs) (C := RX5) (T := TX5) (N := 9) hx hb hts iX_X5 hown hK hP 0 rfl rfl 3 (by decide) (hts _ m_t177) (fun _ h9 => h9) rfl dX5_ruleFit_11 ?_
    refine lv_iload_n hx hb dX5_ruleFit_14 rfl (lv_at hl 1 rfl) ?_
    refine kRi (rV (As := [.int (nI k_4)]) (rest := []) (b := qs) ⟨hx, hb, hml, hown, hts⟩ (c_X2_hasRow l G cy qs qsh qss qsa qse fH k_4 (by first | omega | (simp only [nb_sr, np_sr, nb_wr, np_wr, nb_rd, np_rd, nb_ch, np_ch, nb_zr, np_zr, nb_za, np_za, nb_ey, np_ey, nb_hf, np_hf, nb_dd, np_dd, nb_so, np_so, nb_skn, np_skn, nb_swh, np_swh, nb_sgn, np_sgn, nb_ssd, np_ssd, nb_sgo, np_sgo, nb_sag, np_sag]; omega))) L_X5_364 (preRV (q := (RX2, TX2, 4)) hN hP [1, 2] rfl 1 1 rfl rfl) rfl ⟨Nat.le_of_ble_eq_true rfl, Nat.le_of_ble_eq_true rfl⟩ hl.1 (Nat.le_of_ble_eq_true rfl) dX5_ruleFit_15 ⟨Nat.le_of_ble_eq_true rfl, Nat.le_of_ble_eq_true rfl⟩) (fun r_7 h_8 => ?_)
    rcases h_8 with ⟨rfl, h_9⟩ | ⟨rfl, h_9⟩
    · refine lv_if_eq (tgt := 24) hx hb dX5_ruleFit_18 (by decide) (fun h9 => absurd h9 (by decide)) (fun _ => ?_)
      refine lv_bipush (v := (-3)) hx hb dX5_ruleFit_21 (by decide) ?_
      exact endR hx hb hr hlocks rfl (Or.inr (Or.inl (⟨rfl, ⟨k_4, hk_5, rfl, h_9⟩⟩))) dX5_ruleFit_23
    · refine lv_if_eq (tgt := 24) hx hb dX5_ruleFit_18 (by decide) (fun _ => ?_) (fun h9 => absurd (by decide) h9)
      refine lv_aload_n hx hb dX5_ruleFit_24 rfl (lv_at hl 0 rfl) ?_
      refine va_get (D := G) (ci := 4) (v := .ref qs) (C := RX5) (T := TX5) (N := 9) hx hb hts iX_X5 hown hK hP 0 rfl rfl 3 (by decide) (hts _ m_t177) (fun _ h9 => h9) rfl dX5_ruleFit_25 ?_
      refine lv_iload_n hx hb dX5_ruleFit_28 rfl (lv_at hl 1 rfl) ?_
      refine kRi (rV (As := [.int (nI k_4)]) (rest := []) (b := qs) ⟨hx, hb, hml, hown, hts⟩ (c_X2_hasRule l G cy qs qsh qss qsa qse fH k_4 (by first | omega | (simp only [nb_sr, np_sr, nb_wr, np_wr, nb_rd, np_rd, nb_ch, np_ch, nb_zr, np_zr, nb_za, np_za, nb_ey, np_ey, nb_hf, np_hf, nb_dd, np_dd, nb_so, np_so, nb_skn, np_skn, nb_swh, np_swh, nb_sgn, np_sgn, nb_ssd, np_ssd, nb_sgo, np_sgo, nb_sag, np_sag]; omega))) L_X5_361 (preRV (q := (RX2, TX2, 4)) hN hP [1, 2] rfl 1 1 rfl rfl) rfl ⟨Nat.le_of_ble_eq_true rfl, Nat.le_of_ble_eq_true rfl⟩ hl.1 (Nat.le_of_ble_eq_true rfl) dX5_ruleFit_29 ⟨Nat.le_of_ble_eq_true rfl, Nat.le_of_ble_eq_true rfl⟩) (fun r_12 h_13 => ?_)
      rcases h_13 with ⟨rfl, h_14⟩ | ⟨rfl, h_14⟩
      · refine lv_if_eq (tgt := 39) hx hb dX5_ruleFit_32 (by decide) (fun h9 => absurd h9 (by decide)) (fun _ => ?_)
        refine lv_iconst (v := 0) hx hb dX5_ruleFit_35 (by decide) ?_
        refine lv_goto (tgt := 41) hx hb dX5_ruleFit_36 (by decide) ?_
        exact endR hx hb hr hlocks rfl (Or.inr (Or.inr (Or.inl (⟨rfl, ⟨k_4, hk_5, rfl, h_9, h_14⟩⟩)))) dX5_ruleFit_41
      · refine lv_if_eq (tgt := 39) hx hb dX5_ruleFit_32 (by decide) (fun _ => ?_) (fun h9 => absurd (by decide) h9)
        refine lv_bipush (v := (-4)) hx hb dX5_ruleFit_39 (by decide) ?_
        exact endR hx hb hr hlocks rfl (Or.inr (Or.inr (Or.inr (⟨rfl, ⟨k_4, hk_5, rfl, h_9, h_14⟩⟩)))) dX5_ruleFit_41
  · refine lv_if_ne (tgt := 10) hx hb dX5_ruleFit_4 (by decide) (fun h9 => absurd (by decide) h9) (fun _ => ?_)
    refine lv_bipush (v := (-2)) hx hb dX5_ruleFit_7 (by decide) ?_
    exact endR hx hb hr hlocks rfl (Or.inl (⟨rfl, h_3⟩)) dX5_ruleFit_9
set_option maxHeartbeats 4000000 in
set_option maxRecDepth 100000 in
theorem c_X5_copyFit (l : Launch) (G : va_G) (cy : Nat → ClassId) (qx : Nat) (qt : Nat) (qk : Nat) (qp : Nat) (qs : Nat) (qa : Nat) (qr : Nat) (iKp : Int32) (iYe : Int32) (iTv : Int32) (qsh : Nat) (qss : Nat) (qsa : Nat) (qse : Nat) (fH : Nat → Int32) (iA : Int32) (iB : Int32)   : MR l yX5_copyFit cX5_copyFit 3 (some .int) 3 G cy [zzO qx 4 [.ref qt, .ref qk, .ref qp, .ref qs, .ref qa, .ref qr, .int iKp, .int iYe, .int iTv], zzO qs 1 [.ref qsh, .ref qss, .ref qsa, .ref qse], zzI cy qsh 8 fH] [.ref qx, .int iA, .int iB] (vp_Si (fun r => (r = (-2) ∧ ¬ ∃ k m : Nat, k < 8 ∧ m < 8 ∧ iA = nI k ∧ iB = nI m) ∨ (r = 0 ∧ ∃ k m : Nat, k < 8 ∧ m < 8 ∧ iA = nI k ∧ iB = nI m ∧ Rw (fH k) ∧ Rw (fH m) ∧ fH k = fH m) ∨ (r = (-4) ∧ ∃ k m : Nat, k < 8 ∧ m < 8 ∧ iA = nI k ∧ iB = nI m ∧ ¬ 10 ≤ fH k ∧ ¬ 10 ≤ fH m ∧ (¬ Rw (fH k) ∨ ¬ Rw (fH m))) ∨ (r = (-3) ∧ ∃ k m : Nat, k < 8 ∧ m < 8 ∧ iA = nI k ∧ iB = nI m ∧ (10 ≤ fH k ∨ 10 ≤ fH m ∨ (Rw (fH k) ∧ Rw (fH m) ∧ ¬ fH k = fH m))))) := by
  refine enR RX5 (by decide) rfl (Nat.le_of_ble_eq_true rfl) (fun p e s m below meth c ls hx hb hml hown hts hr hlocks hP hN hl => ?_)
  have hK := hN.1
  replace hl : lv_has ls 3 [(0, .ref qx), (1, .int iA), (2, .int iB)] := hl
  refine lv_iload_n hx hb dX5_copyFit_0 rfl (lv_at hl 1 rfl) ?_
  refine kRi (rS (As := [.int iA]) (rest := []) ⟨hx, hb, hml, hown, hts⟩ (c_X5_isShelf l G cy iA) L_X5_44 (preRS hN hP [] rfl) rfl ⟨Nat.le_of_ble_eq_true rfl, Nat.le_of_ble_eq_true rfl⟩ hl.1 (Nat.le_of_ble_eq_true rfl) dX5_copyFit_1 ⟨Nat.le_of_ble_eq_true rfl, Nat.le_of_ble_eq_true rfl⟩) (fun r_1 h_2 => ?_)
  rcases h_2 with ⟨rfl, h_3⟩ | ⟨rfl, h_3⟩
  · obtain ⟨k_4, hk_5, rfl⟩ := h_3
    refine lv_if_eq (tgt := 14) hx hb dX5_copyFit_4 (by decide) (fun h9 => absurd h9 (by decide)) (fun _ => ?_)
    refine lv_iload_n hx hb dX5_copyFit_7 rfl (lv_at hl 2 rfl) ?_
    refine kRi (rS (As := [.int iB]) (rest := []) ⟨hx, hb, hml, hown, hts⟩ (c_X5_isShelf l G cy iB) L_X5_44 (preRS hN hP [] rfl) rfl ⟨Nat.le_of_ble_eq_true rfl, Nat.le_of_ble_eq_true rfl⟩ hl.1 (Nat.le_of_ble_eq_true rfl) dX5_copyFit_8 ⟨Nat.le_of_ble_eq_true rfl, Nat.le_of_ble_eq_true rfl⟩) (fun r_7 h_8 => ?_)
    rcases h_8 with ⟨rfl, h_9⟩ | ⟨rfl, h_9⟩
    · obtain ⟨k_10, hk_11, rfl⟩ := h_9
      refine lv_if_ne (tgt := 17) hx hb dX5_copyFit_11 (by decide) (fun _ => ?_) (fun h9 => absurd h9 (by decide))
      refine lv_aload_n hx hb dX5_copyFit_17 rfl (lv_at hl 0 rfl) ?_
      refine va_get (D := G) (ci := 4) (v := .ref qs) (C := RX5) (T := TX5) (N := 9) hx hb hts iX_X5 hown hK hP 0 rfl rfl 3 (by decide) (hts _ m_t177) (fun _ h9 => h9) rfl dX5_copyFit_18 ?_
      refine lv_iload_n hx hb dX5_copyFit_21 rfl (lv_at hl 1 rfl) ?_
      refine kRi (rV (As := [.int (nI k_4)]) (rest := []) (b := qs) ⟨hx, hb, hml, hown, hts⟩ (c_X2_hasRule l G cy qs qsh qss qsa qse fH k_4 (by first | omega | (simp only [nb_sr, np_sr, nb_wr, np_wr, nb_rd, np_rd, nb_ch, np_ch, nb_zr, np_zr, nb_za, np_za, nb_ey, np_ey, nb_hf, np_hf, nb_dd, np_dd, nb_so, np_so, nb_skn, np_skn, nb_swh, np_swh, nb_sgn, np_sgn, nb_ssd, np_ssd, nb_sgo, np_sgo, nb_sag, np_sag]; omega))) L_X5_361 (preRV (q := (RX2, TX2, 4)) hN hP [1, 2] rfl 1 1 rfl rfl) rfl ⟨Nat.le_of_ble_eq_true rfl, Nat.le_of_ble_eq_true rfl⟩ hl.1 (Nat.le_of_ble_eq_true rfl) dX5_copyFit_22 ⟨Nat.le_of_ble_eq_true rfl, Nat.le_of_ble_eq_true rfl⟩) (fun r_13 h_14 => ?_)
      rcases h_14 with ⟨rfl, h_15⟩ | ⟨rfl, h_15⟩
      · refine lv_if_ne (tgt := 39) hx hb dX5_copyFit_25 (by decide) (fun _ => ?_) (fun h9 => absurd h9 (by decide))
        refine lv_bipush (v := (-3)) hx hb dX5_copyFit_39 (by decide) ?_
        exact endR hx hb hr hlocks rfl (Or.inr (Or.inr (Or.inr (⟨rfl, ⟨k_4, k_10, hk_5, hk_11, rfl, rfl, Or.inl h_15⟩⟩)))) dX5_copyFit_41
      · refine lv_if_ne (tgt := 39) hx hb dX5_copyFit_25 (by decide) (fun h9 => absurd (by decide) h9) (fun _ => ?_)
        refine lv_aload_n hx hb dX5_copyFit_28 rfl (lv_at hl 0 rfl) ?_
        refine va_get (D := G) (ci := 4) (v := .ref qs) (C := RX5) (T := TX5) (N := 9) hx hb hts iX_X5 hown hK hP 0 rfl rfl 3 (by decide) (hts _ m_t177) (fun _ h9 => h9) rfl dX5_copyFit_29 ?_
        refine lv_iload_n hx hb dX5_copyFit_32 rfl (lv_at hl 2 rfl) ?_
        refine kRi (rV (As := [.int (nI k_10)]) (rest := []) (b := qs) ⟨hx, hb, hml, hown, hts⟩ (c_X2_hasRule l G cy qs qsh qss qsa qse fH k_10 (by first | omega | (simp only [nb_sr, np_sr, nb_wr, np_wr, nb_rd, np_rd, nb_ch, np_ch, nb_zr, np_zr, nb_za, np_za, nb_ey, np_ey, nb_hf, np_hf, nb_dd, np_dd, nb_so, np_so, nb_skn, np_skn, nb_swh, np_swh, nb_sgn, np_sgn, nb_ssd, np_ssd, nb_sgo, np_sgo, nb_sag, np_sag]; omega))) L_X5_361 (preRV (q := (RX2, TX2, 4)) hN hP [1, 2] rfl 1 1 rfl rfl) rfl ⟨Nat.le_of_ble_eq_true rfl, Nat.le_of_ble_eq_true rfl⟩ hl.1 (Nat.le_of_ble_eq_true rfl) dX5_copyFit_33 ⟨Nat.le_of_ble_eq_true rfl, Nat.le_of_ble_eq_true rfl⟩) (fun r_18 h_19 => ?_)
        rcases h_19 with ⟨rfl, h_20⟩ | ⟨rfl, h_20⟩
        · refine lv_if_eq (tgt := 42) hx hb dX5_copyFit_36 (by decide) (fun h9 => absurd h9 (by decide)) (fun _ => ?_)
          refine lv_bipush (v := (-3)) hx hb dX5_copyFit_39 (by decide) ?_
          exact endR hx hb hr hlocks rfl (Or.inr (Or.inr (Or.inr (⟨rfl, ⟨k_4, k_10, hk_5, hk_11, rfl, rfl, Or.inr (Or.inl h_20)⟩⟩)))) dX5_copyFit_41
        · refine lv_if_eq (tgt := 42) hx hb dX5_copyFit_36 (by decide) (fun _ => ?_) (fun h9 => absurd (by decide) h9)
          refine lv_aload_n hx hb dX5_copyFit_42 rfl (lv_at hl 0 rfl) ?_
          refine va_get (D := G) (ci := 4) (v := .ref qs) (C := RX5) (T := TX5) (N := 9) hx hb hts iX_X5 hown hK hP 0 rfl rfl 3 (by decide) (hts _ m_t177) (fun _ h9 => h9) rfl dX5_copyFit_43 ?_
          refine lv_iload_n hx hb dX5_copyFit_46 rfl (lv_at hl 1 rfl) ?_
          refine kRi (rV (As := [.int (nI k_4)]) (rest := []) (b := qs) ⟨hx, hb, hml, hown, hts⟩ (c_X2_hasRow l G cy qs qsh qss qsa qse fH k_4 (by first | omega | (simp only [nb_sr, np_sr, nb_wr, np_wr, nb_rd, np_rd, nb_ch, np_ch, nb_zr, np_zr, nb_za, np_za, nb_ey, np_ey, nb_hf, np_hf, nb_dd, np_dd, nb_so, np_so, nb_skn, np_skn, nb_swh, np_swh, nb_sgn, np_sgn, nb_ssd, np_ssd, nb_sgo, np_sgo, nb_sag, np_sag]; omega))) L_X5_364 (preRV (q := (RX2, TX2, 4)) hN hP [1, 2] rfl 1 1 rfl rfl) rfl ⟨Nat.le_of_ble_eq_true rfl, Nat.le_of_ble_eq_true rfl⟩ hl.1 (Nat.le_of_ble_eq_true rfl) dX5_copyFit_47 ⟨Nat.le_of_ble_eq_true rfl, Nat.le_of_ble_eq_true rfl⟩) (fun r_23 h_24 => ?_)
          rcases h_24 with ⟨rfl, h_25⟩ | ⟨rfl, h_25⟩
          · refine lv_if_eq (tgt := 64) hx hb dX5_copyFit_50 (by decide) (fun h9 => absurd h9 (by decide)) (fun _ => ?_)
            refine lv_aload_n hx hb dX5_copyFit_53 rfl (lv_at hl 0 rfl) ?_
            refine va_get (D := G) (ci := 4) (v := .ref qs) (C := RX5) (T := TX5) (N := 9) hx hb hts iX_X5 hown hK hP 0 rfl rfl 3 (by decide) (hts _ m_t177) (fun _ h9 => h9) rfl dX5_copyFit_54 ?_
            refine lv_iload_n hx hb dX5_copyFit_57 rfl (lv_at hl 2 rfl) ?_
            refine kRi (rV (As := [.int (nI k_10)]) (rest := []) (b := qs) ⟨hx, hb, hml, hown, hts⟩ (c_X2_hasRow l G cy qs qsh qss qsa qse fH k_10 (by first | omega | (simp only [nb_sr, np_sr, nb_wr, np_wr, nb_rd, np_rd, nb_ch, np_ch, nb_zr, np_zr, nb_za, np_za, nb_ey, np_ey, nb_hf, np_hf, nb_dd, np_dd, nb_so, np_so, nb_skn, np_skn, nb_swh, np_swh, nb_sgn, np_sgn, nb_ssd, np_ssd, nb_sgo, np_sgo, nb_sag, np_sag]; omega))) L_X5_364 (preRV (q := (RX2, TX2, 4)) hN hP [1, 2] rfl 1 1 rfl rfl) rfl ⟨Nat.le_of_ble_eq_true rfl, Nat.le_of_ble_eq_true rfl⟩ hl.1 (Nat.le_of_ble_eq_true rfl) dX5_copyFit_58 ⟨Nat.le_of_ble_eq_true rfl, Nat.le_of_ble_eq_true rfl⟩) (fun r_27 h_28 => ?_)
            rcases h_28 with ⟨rfl, h_29⟩ | ⟨rfl, h_29⟩
            · refine lv_if_ne (tgt := 67) hx hb dX5_copyFit_61 (by decide) (fun _ => ?_) (fun h9 => absurd h9 (by decide))
              refine lv_aload_n hx hb dX5_copyFit_67 rfl (lv_at hl 0 rfl) ?_
              refine va_get (D := G) (ci := 4) (v := .ref qs) (C := RX5) (T := TX5) (N := 9) hx hb hts iX_X5 hown hK hP 0 rfl rfl 3 (by decide) (hts _ m_t177) (fun _ h9 => h9) rfl dX5_copyFit_68 ?_
              refine va_getN (D := G) (ci := 1) (v := .ref qsh) (C := RX2) (T := TX2) (N := 4) hx hb hts iX_X2 hown hK hP 1 rfl rfl 0 (by decide) (va_Nw.use rfl (hN.2.1 (RX5, 90, "EachBookOnce$Shelves", "holding", "[I") (List.mem_of_getElem? (i := 26) rfl))) (fun _ h9 => h9) rfl dX5_copyFit_71 ?_
              refine lv_iload_n hx hb dX5_copyFit_74 rfl (lv_at hl 1 rfl) ?_
              refine va_iald hx hb hK hP 2 0 rfl rfl (in8 (by omega)) dX5_copyFit_75 ?_
              refine lv_seti (v := fH k_4) (congrArg fH (cl8 (by omega))) ?_
              refine lv_aload_n hx hb dX5_copyFit_76 rfl (lv_at hl 0 rfl) ?_
              refine va_get (D := G) (ci := 4) (v := .ref qs) (C := RX5) (T := TX5) (N := 9) hx hb hts iX_X5 hown hK hP 0 rfl rfl 3 (by decide) (hts _ m_t177) (fun _ h9 => h9) rfl dX5_copyFit_77 ?_
              refine va_getN (D := G) (ci := 1) (v := .ref qsh) (C := RX2) (T := TX2) (N := 4) hx hb hts iX_X2 hown hK hP 1 rfl rfl 0 (by decide) (va_Nw.use rfl (hN.2.1 (RX5, 90, "EachBookOnce$Shelves", "holding", "[I") (List.mem_of_getElem? (i := 26) rfl))) (fun _ h9 => h9) rfl dX5_copyFit_80 ?_
              refine lv_iload_n hx hb dX5_copyFit_83 rfl (lv_at hl 2 rfl) ?_
              refine va_iald hx hb hK hP 2 0 rfl rfl (in8 (by omega)) dX5_copyFit_84 ?_
              refine lv_seti (v := fH k_10) (congrArg fH (cl8 (by omega))) ?_
              refine lv_icmp_ne (tgt := 92) hx hb dX5_copyFit_85 (by decide) (fun c_31 => ?_) (fun c_31 => ?_)
              · refine lv_bipush (v := (-3)) hx hb dX5_copyFit_92 (by decide) ?_
                exact endR hx hb hr hlocks rfl (Or.inr (Or.inr (Or.inr (⟨rfl, ⟨k_4, k_10, hk_5, hk_11, rfl, rfl, Or.inr (Or.inr ⟨h_25, h_29, c_31⟩)⟩⟩)))) dX5_copyFit_94
              · refine lv_iconst (v := 0) hx hb dX5_copyFit_88 (by decide) ?_
                refine lv_goto (tgt := 94) hx hb dX5_copyFit_89 (by decide) ?_
                exact endR hx hb hr hlocks rfl (Or.inr (Or.inl (⟨rfl, ⟨k_4, k_10, hk_5, hk_11, rfl, rfl, h_25, h_29, c_31⟩⟩))) dX5_copyFit_94
            · refine lv_if_ne (tgt := 67) hx hb dX5_copyFit_61 (by decide) (fun h9 => absurd (by decide) h9) (fun _ => ?_)
              refine lv_bipush (v := (-4)) hx hb dX5_copyFit_64 (by decide) ?_
              exact endR hx hb hr hlocks rfl (Or.inr (Or.inr (Or.inl (⟨rfl, ⟨k_4, k_10, hk_5, hk_11, rfl, rfl, h_15, h_20, Or.inr h_29⟩⟩)))) dX5_copyFit_66
          · refine lv_if_eq (tgt := 64) hx hb dX5_copyFit_50 (by decide) (fun _ => ?_) (fun h9 => absurd (by decide) h9)
            refine lv_bipush (v := (-4)) hx hb dX5_copyFit_64 (by decide) ?_
            exact endR hx hb hr hlocks rfl (Or.inr (Or.inr (Or.inl (⟨rfl, ⟨k_4, k_10, hk_5, hk_11, rfl, rfl, h_15, h_20, Or.inl h_25⟩⟩)))) dX5_copyFit_66
    · refine lv_if_ne (tgt := 17) hx hb dX5_copyFit_11 (by decide) (fun h9 => absurd (by decide) h9) (fun _ => ?_)
      refine lv_bipush (v := (-2)) hx hb dX5_copyFit_14 (by decide) ?_
      exact endR hx hb hr hlocks rfl (Or.inl (⟨rfl, (fun ⟨_, m, _, h2, _, h4⟩ => h_9 ⟨m, h2, h4⟩)⟩)) dX5_copyFit_16
  · refine lv_if_eq (tgt := 14) hx hb dX5_copyFit_4 (by decide) (fun _ => ?_) (fun h9 => absurd (by decide) h9)
    refine lv_bipush (v := (-2)) hx hb dX5_copyFit_14 (by decide) ?_
    exact endR hx hb hr hlocks rfl (Or.inl (⟨rfl, (fun ⟨k, _, h1, _, h3, _⟩ => h_3 ⟨k, h1, h3⟩)⟩)) dX5_copyFit_16
set_option maxHeartbeats 4000000 in
set_option maxRecDepth 100000 in
theorem c_X5_hasSpan (l : Launch) (G : va_G) (cy : Nat → ClassId) (qx : Nat) (qt : Nat) (qk : Nat) (qp : Nat) (qs : Nat) (qa : Nat) (qr : Nat) (iKp : Int32) (iYe : Int32) (iTv : Int32) (qsh : Nat) (qss : Nat) (qsa : Nat) (qse : Nat) (fS : Nat → Int32) (kS : Nat) (iB : Int32) (iC : Int32)  (hS8 : kS < 8) : MR l yX5_hasSpan cX5_hasSpan 4 (some .boolean) 1 G cy [zzO qx 4 [.ref qt, .ref qk, .ref qp, .ref qs, .ref qa, .ref qr, .int iKp, .int iYe, .int iTv], zzO qs 1 [.ref qsh, .ref qss, .ref qsa, .ref qse], zzI cy qss 8 fS] [.ref qx, .int (nI kS), .int iB, .int iC] (vp_Si (fun r => (r = 1 ∧ Spn iB iC (fS kS)) ∨ (r = 0 ∧ ¬ Spn iB iC (fS kS)))) := by
  refine enR RX5 (by decide) rfl (Nat.le_of_ble_eq_true rfl) (fun p e s m below meth c ls hx hb hml hown hts hr hlocks hP hN hl => ?_)
  have hK := hN.1
  replace hl : lv_has ls 4 [(0, .ref qx), (1, .int (nI kS)), (2, .int iB), (3, .int iC)] := hl
  refine lv_iload_n hx hb dX5_hasSpan_0 rfl (lv_at hl 2 rfl) ?_
  refine lv_if_lt (tgt := 31) hx hb dX5_hasSpan_1 (by decide) (fun c_1 => ?_) (fun c_1 => ?_)
  · refine lv_iconst (v := 0) hx hb dX5_hasSpan_31 (by decide) ?_
    exact endR hx hb hr hlocks rfl (Or.inr (⟨rfl, (fun q => q.1 c_1)⟩)) dX5_hasSpan_32
  · refine lv_iload_n hx hb dX5_hasSpan_4 rfl (lv_at hl 3 rfl) ?_
    refine lv_if_lt (tgt := 31) hx hb dX5_hasSpan_5 (by decide) (fun c_2 => ?_) (fun c_2 => ?_)
    · refine lv_iconst (v := 0) hx hb dX5_hasSpan_31 (by decide) ?_
      exact endR hx hb hr hlocks rfl (Or.inr (⟨rfl, (fun q => q.2.1 c_2)⟩)) dX5_hasSpan_32
    · refine lv_iload_n hx hb dX5_hasSpan_8 rfl (lv_at hl 2 rfl) ?_
      refine lv_i2l (v := iB.toInt64) hx hb dX5_hasSpan_9 rfl ?_
      refine lv_iload_n hx hb dX5_hasSpan_10 rfl (lv_at hl 3 rfl) ?_
      refine lv_i2l (v := iC.toInt64) hx hb dX5_hasSpan_11 rfl ?_
      refine lv_ladd hx hb dX5_hasSpan_12 ?_
      refine lv_aload_n hx hb dX5_hasSpan_13 rfl (lv_at hl 0 rfl) ?_
      refine va_get (D := G) (ci := 4) (v := .ref qs) (C := RX5) (T := TX5) (N := 9) hx hb hts iX_X5 hown hK hP 0 rfl rfl 3 (by decide) (hts _ m_t177) (fun _ h9 => h9) rfl dX5_hasSpan_14 ?_
      refine va_getN (D := G) (ci := 1) (v := .ref qss) (C := RX2) (T := TX2) (N := 4) hx hb hts iX_X2 hown hK hP 1 rfl rfl 1 (by decide) (va_Nw.use rfl (hN.2.1 (RX5, 67, "EachBookOnce$Shelves", "size", "[I") (List.mem_of_getElem? (i := 27) rfl))) (fun _ h9 => h9) rfl dX5_hasSpan_17 ?_
      refine lv_iload_n hx hb dX5_hasSpan_20 rfl (lv_at hl 1 rfl) ?_
      refine va_iald hx hb hK hP 2 0 rfl rfl (in8 (by omega)) dX5_hasSpan_21 ?_
      refine lv_seti (v := fS kS) (congrArg fS (cl8 (by omega))) ?_
      refine lv_i2l (v := (fS kS).toInt64) hx hb dX5_hasSpan_22 rfl ?_
      refine W.lcmp hx hb dX5_hasSpan_23 ?_
      refine lv_if_gt (tgt := 31) hx hb dX5_hasSpan_24 (by decide) (fun c_3 => ?_) (fun c_3 => ?_)
      · refine lv_iconst (v := 0) hx hb dX5_hasSpan_31 (by decide) ?_
        exact endR hx hb hr hlocks rfl (Or.inr (⟨rfl, (fun q => q.2.2 c_3)⟩)) dX5_hasSpan_32
      · refine lv_iconst (v := 1) hx hb dX5_hasSpan_27 (by decide) ?_
        refine lv_goto (tgt := 32) hx hb dX5_hasSpan_28 (by decide) ?_
        exact endR hx hb hr hlocks rfl (Or.inl (⟨rfl, ⟨c_1, c_2, c_3⟩⟩)) dX5_hasSpan_32
set_option maxHeartbeats 4000000 in
set_option maxRecDepth 100000 in
theorem c_X5_toldFit (l : Launch) (G : va_G) (cy : Nat → ClassId) (qx : Nat) (qt : Nat) (qk : Nat) (qp : Nat) (qs : Nat) (qa : Nat) (qr : Nat) (iKp : Int32) (iYe : Int32) (iTv : Int32) (qsh : Nat) (qss : Nat) (qsa : Nat) (qse : Nat) (fH : Nat → Int32) (fS : Nat → Int32) (iA : Int32) (iB : Int32)   : MR l yX5_toldFit cX5_toldFit 4 (some .int) 4 G cy [zzO qx 4 [.ref qt, .ref qk, .ref qp, .ref qs, .ref qa, .ref qr, .int iKp, .int iYe, .int iTv], zzO qs 1 [.ref qsh, .ref qss, .ref qsa, .ref qse], zzI cy qsh 8 fH, zzI cy qss 8 fS] [.ref qx, .int iA, .int iB] (vp_Si (fun r => (r = (-2) ∧ (¬ Iv iB.toInt64 0 20 ∨ (¬ ∃ k : Nat, k < 8 ∧ iA = nI k) ∨ ∃ k : Nat, k < 8 ∧ iA = nI k ∧ fS k < iB)) ∨ (r = (-3) ∧ Iv iB.toInt64 0 20 ∧ ∃ k : Nat, k < 8 ∧ iA = nI k ∧ 10 ≤ fH k) ∨ (r = 0 ∧ Iv iB.toInt64 0 20 ∧ ∃ k : Nat, k < 8 ∧ iA = nI k ∧ (¬ 10 ≤ fH k ∧ Rw (fH k)) ∧ iB ≤ fS k) ∨ (r = (-4) ∧ Iv iB.toInt64 0 20 ∧ ∃ k : Nat, k < 8 ∧ iA = nI k ∧ (¬ 10 ≤ fH k ∧ ¬ Rw (fH k))))) := by
  refine enR RX5 (by decide) rfl (Nat.le_of_ble_eq_true rfl) (fun p e s m below meth c ls hx hb hml hown hts hr hlocks hP hN hl => ?_)
  have hK := hN.1
  replace hl : lv_has ls 4 [(0, .ref qx), (1, .int iA), (2, .int iB)] := hl
  refine lv_iload_n hx hb dX5_toldFit_0 rfl (lv_at hl 2 rfl) ?_
  refine lv_i2l (v := iB.toInt64) hx hb dX5_toldFit_1 rfl ?_
  refine lv_lconst (v := 0) hx hb dX5_toldFit_2 (by decide) ?_
  refine lv_ldc2 hx hb hown (hts _ m_t788) dX5_toldFit_3 ?_
  refine kRi (rS (As := [.long iB.toInt64, .long 0, .long 20]) (rest := []) ⟨hx, hb, hml, hown, hts⟩ (c_X5_within l G cy iB.toInt64 0 20) L_X5_50 (preRS hN hP [] rfl) rfl ⟨Nat.le_of_ble_eq_true rfl, Nat.le_of_ble_eq_true rfl⟩ hl.1 (Nat.le_of_ble_eq_true rfl) dX5_toldFit_6 ⟨Nat.le_of_ble_eq_true rfl, Nat.le_of_ble_eq_true rfl⟩) (fun r_1 h_2 => ?_)
  rcases h_2 with ⟨rfl, h_3⟩ | ⟨rfl, h_3⟩
  · refine lv_if_eq (tgt := 20) hx hb dX5_toldFit_9 (by decide) (fun h9 => absurd h9 (by decide)) (fun _ => ?_)
    refine lv_aload_n hx hb dX5_toldFit_12 rfl (lv_at hl 0 rfl) ?_
    refine lv_iload_n hx hb dX5_toldFit_13 rfl (lv_at hl 1 rfl) ?_
    refine kRi (rV (As := [.int iA]) (rest := []) (b := qx) ⟨hx, hb, hml, hown, hts⟩ (c_X5_rowFit l G cy qx qt qk qp qs qa qr iKp iYe iTv qsh qss qsa qse fH iA) L_X5_64 (preRV (q := (RX5, TX5, 9)) hN hP [0, 1, 2] rfl 0 4 rfl rfl) rfl ⟨Nat.le_of_ble_eq_true rfl, Nat.le_of_ble_eq_true rfl⟩ hl.1 (Nat.le_of_ble_eq_true rfl) dX5_toldFit_14 ⟨Nat.le_of_ble_eq_true rfl, Nat.le_of_ble_eq_true rfl⟩) (fun r_5 h_6 => ?_)
    rcases h_6 with ⟨rfl, h_7⟩ | ⟨rfl, h_7⟩ | ⟨rfl, h_7⟩ | ⟨rfl, h_7⟩
    · refine lv_goto (tgt := 22) hx hb dX5_toldFit_17 (by decide) ?_
      refine lv_istore_n (lv' := [(3, .int (-2)), (0, .ref qx), (1, .int iA), (2, .int iB)]) hx hb dX5_toldFit_22 rfl hl (by decide) rfl (fun ls => ?_)
      clear hl
      intro hl
      refine lv_iload_n hx hb dX5_toldFit_23 rfl (lv_at hl 0 rfl) ?_
      refine lv_if_ne (tgt := 45) hx hb dX5_toldFit_24 (by decide) (fun _ => ?_) (fun h9 => absurd h9 (by decide))
      refine lv_iload_n hx hb dX5_toldFit_45 rfl (lv_at hl 0 rfl) ?_
      exact endR hx hb hr hlocks rfl (Or.inl (⟨rfl, Or.inr (Or.inl h_7)⟩)) dX5_toldFit_46
    · obtain ⟨k_9, hk_10, rfl, h_11⟩ := h_7
      refine lv_goto (tgt := 22) hx hb dX5_toldFit_17 (by decide) ?_
      refine lv_istore_n (lv' := [(3, .int (-3)), (0, .ref qx), (1, .int (nI k_9)), (2, .int iB)]) hx hb dX5_toldFit_22 rfl hl (by decide) rfl (fun ls => ?_)
      clear hl
      intro hl
      refine lv_iload_n hx hb dX5_toldFit_23 rfl (lv_at hl 0 rfl) ?_
      refine lv_if_ne (tgt := 45) hx hb dX5_toldFit_24 (by decide) (fun _ => ?_) (fun h9 => absurd h9 (by decide))
      refine lv_iload_n hx hb dX5_toldFit_45 rfl (lv_at hl 0 rfl) ?_
      exact endR hx hb hr hlocks rfl (Or.inr (Or.inl (⟨rfl, ⟨h_3, k_9, hk_10, rfl, h_11⟩⟩))) dX5_toldFit_46
    · obtain ⟨k_13, hk_14, rfl, h_15, h_16⟩ := h_7
      refine lv_goto (tgt := 22) hx hb dX5_toldFit_17 (by decide) ?_
      refine lv_istore_n (lv' := [(3, .int 0), (0, .ref qx), (1, .int (nI k_13)), (2, .int iB)]) hx hb dX5_toldFit_22 rfl hl (by decide) rfl (fun ls => ?_)
      clear hl
      intro hl
      refine lv_iload_n hx hb dX5_toldFit_23 rfl (lv_at hl 0 rfl) ?_
      refine lv_if_ne (tgt := 45) hx hb dX5_toldFit_24 (by decide) (fun h9 => absurd (by decide) h9) (fun _ => ?_)
      refine lv_iload_n hx hb dX5_toldFit_27 rfl (lv_at hl 3 rfl) ?_
      refine lv_aload_n hx hb dX5_toldFit_28 rfl (lv_at hl 1 rfl) ?_
      refine va_get (D := G) (ci := 4) (v := .ref qs) (C := RX5) (T := TX5) (N := 9) hx hb hts iX_X5 hown hK hP 0 rfl rfl 3 (by decide) (hts _ m_t177) (fun _ h9 => h9) rfl dX5_toldFit_29 ?_
      refine va_getN (D := G) (ci := 1) (v := .ref qss) (C := RX2) (T := TX2) (N := 4) hx hb hts iX_X2 hown hK hP 1 rfl rfl 1 (by decide) (va_Nw.use rfl (hN.2.1 (RX5, 67, "EachBookOnce$Shelves", "size", "[I") (List.mem_of_getElem? (i := 27) rfl))) (fun _ h9 => h9) rfl dX5_toldFit_32 ?_
      refine lv_iload_n hx hb dX5_toldFit_35 rfl (lv_at hl 2 rfl) ?_
      refine va_iald hx hb hK hP 3 0 rfl rfl (in8 (by omega)) dX5_toldFit_36 ?_
      refine lv_seti (v := fS k_13) (congrArg fS (cl8 (by omega))) ?_
      refine lv_icmp_le (tgt := 45) hx hb dX5_toldFit_37 (by decide) (fun c_18 => ?_) (fun c_18 => ?_)
      · refine lv_iload_n hx hb dX5_toldFit_45 rfl (lv_at hl 0 rfl) ?_
        exact endR hx hb hr hlocks rfl (Or.inr (Or.inr (Or.inl (⟨rfl, ⟨h_3, k_13, hk_14, rfl, ⟨h_15, h_16⟩, c_18⟩⟩)))) dX5_toldFit_46
      · refine lv_bipush (v := (-2)) hx hb dX5_toldFit_40 (by decide) ?_
        refine lv_goto (tgt := 46) hx hb dX5_toldFit_42 (by decide) ?_
        exact endR hx hb hr hlocks rfl (Or.inl (⟨rfl, Or.inr (Or.inr ⟨k_13, hk_14, rfl, Int32.not_le.mp c_18⟩)⟩)) dX5_toldFit_46
    · obtain ⟨k_19, hk_20, rfl, h_21, h_22⟩ := h_7
      refine lv_goto (tgt := 22) hx hb dX5_toldFit_17 (by decide) ?_
      refine lv_istore_n (lv' := [(3, .int (-4)), (0, .ref qx), (1, .int (nI k_19)), (2, .int iB)]) hx hb dX5_toldFit_22 rfl hl (by decide) rfl (fun ls => ?_)
      clear hl
      intro hl
      refine lv_iload_n hx hb dX5_toldFit_23 rfl (lv_at hl 0 rfl) ?_
      refine lv_if_ne (tgt := 45) hx hb dX5_toldFit_24 (by decide) (fun _ => ?_) (fun h9 => absurd h9 (by decide))
      refine lv_iload_n hx hb dX5_toldFit_45 rfl (lv_at hl 0 rfl) ?_
      exact endR hx hb hr hlocks rfl (Or.inr (Or.inr (Or.inr (⟨rfl, ⟨h_3, k_19, hk_20, rfl, ⟨h_21, h_22⟩⟩⟩)))) dX5_toldFit_46
  · refine lv_if_eq (tgt := 20) hx hb dX5_toldFit_9 (by decide) (fun _ => ?_) (fun h9 => absurd (by decide) h9)
    refine lv_bipush (v := (-2)) hx hb dX5_toldFit_20 (by decide) ?_
    refine lv_istore_n (lv' := [(3, .int (-2)), (0, .ref qx), (1, .int iA), (2, .int iB)]) hx hb dX5_toldFit_22 rfl hl (by decide) rfl (fun ls => ?_)
    clear hl
    intro hl
    refine lv_iload_n hx hb dX5_toldFit_23 rfl (lv_at hl 0 rfl) ?_
    refine lv_if_ne (tgt := 45) hx hb dX5_toldFit_24 (by decide) (fun _ => ?_) (fun h9 => absurd h9 (by decide))
    refine lv_iload_n hx hb dX5_toldFit_45 rfl (lv_at hl 0 rfl) ?_
    exact endR hx hb hr hlocks rfl (Or.inl (⟨rfl, Or.inl h_3⟩)) dX5_toldFit_46
