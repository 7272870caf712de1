theorem dX6_bear_0 : decode cX6_bear 0 = .ok (.iload_n 1, 1) := by decide +kernel
theorem dX6_bear_1 : decode cX6_bear 1 = .ok (.i2l, 1) := by decide +kernel
theorem dX6_bear_2 : decode cX6_bear 2 = .ok (.lconst 1, 1) := by decide +kernel
theorem dX6_bear_3 : decode cX6_bear 3 = .ok (.ldc2_w 239, 3) := by decide +kernel
theorem dX6_bear_6 : decode cX6_bear 6 = .ok (.invokestatic 74, 3) := by decide +kernel
theorem dX6_bear_9 : decode cX6_bear 9 = .ok (.ifCond .ne 10, 3) := by decide +kernel
theorem dX6_bear_12 : decode cX6_bear 12 = .ok (.aload_n 0, 1) := by decide +kernel
theorem dX6_bear_13 : decode cX6_bear 13 = .ok (.bipush (-2), 2) := by decide +kernel
theorem dX6_bear_15 : decode cX6_bear 15 = .ok (.invokevirtual 91, 3) := by decide +kernel
theorem dX6_bear_18 : decode cX6_bear 18 = .ok (.ireturn, 1) := by decide +kernel
theorem dX6_bear_19 : decode cX6_bear 19 = .ok (.iconst 1, 1) := by decide +kernel
theorem dX6_bear_20 : decode cX6_bear 20 = .ok (.aload_n 0, 1) := by decide +kernel
theorem dX6_bear_21 : decode cX6_bear 21 = .ok (.getfield 78, 3) := by decide +kernel
theorem dX6_bear_24 : decode cX6_bear 24 = .ok (.ishl, 1) := by decide +kernel
theorem dX6_bear_25 : decode cX6_bear 25 = .ok (.iconst 1, 1) := by decide +kernel
theorem dX6_bear_26 : decode cX6_bear 26 = .ok (.isub, 1) := by decide +kernel
theorem dX6_bear_27 : decode cX6_bear 27 = .ok (.istore_n 2, 1) := by decide +kernel
theorem dX6_bear_28 : decode cX6_bear 28 = .ok (.iload_n 2, 1) := by decide +kernel
theorem dX6_bear_29 : decode cX6_bear 29 = .ok (.istore_n 3, 1) := by decide +kernel
theorem dX6_bear_30 : decode cX6_bear 30 = .ok (.iload_n 2, 1) := by decide +kernel
theorem dX6_bear_31 : decode cX6_bear 31 = .ok (.istore 4, 2) := by decide +kernel
theorem dX6_bear_33 : decode cX6_bear 33 = .ok (.iload 4, 2) := by decide +kernel
theorem dX6_bear_35 : decode cX6_bear 35 = .ok (.ifCond .lt 44, 3) := by decide +kernel
theorem dX6_bear_38 : decode cX6_bear 38 = .ok (.aload_n 0, 1) := by decide +kernel
theorem dX6_bear_39 : decode cX6_bear 39 = .ok (.iload_n 1, 1) := by decide +kernel
theorem dX6_bear_40 : decode cX6_bear 40 = .ok (.iload 4, 2) := by decide +kernel
theorem dX6_bear_42 : decode cX6_bear 42 = .ok (.invokevirtual 335, 3) := by decide +kernel
theorem dX6_bear_45 : decode cX6_bear 45 = .ok (.aload_n 0, 1) := by decide +kernel
theorem dX6_bear_46 : decode cX6_bear 46 = .ok (.iload_n 1, 1) := by decide +kernel
theorem dX6_bear_47 : decode cX6_bear 47 = .ok (.iload_n 2, 1) := by decide +kernel
theorem dX6_bear_48 : decode cX6_bear 48 = .ok (.invokevirtual 335, 3) := by decide +kernel
theorem dX6_bear_51 : decode cX6_bear 51 = .ok (.if_icmp .ne 20, 3) := by decide +kernel
theorem dX6_bear_54 : decode cX6_bear 54 = .ok (.iload 4, 2) := by decide +kernel
theorem dX6_bear_56 : decode cX6_bear 56 = .ok (.invokestatic 338, 3) := by decide +kernel
theorem dX6_bear_59 : decode cX6_bear 59 = .ok (.iload_n 3, 1) := by decide +kernel
theorem dX6_bear_60 : decode cX6_bear 60 = .ok (.invokestatic 338, 3) := by decide +kernel
theorem dX6_bear_63 : decode cX6_bear 63 = .ok (.if_icmp .gt 8, 3) := by decide +kernel
theorem dX6_bear_66 : decode cX6_bear 66 = .ok (.iload 4, 2) := by decide +kernel
theorem dX6_bear_68 : decode cX6_bear 68 = .ok (.goto 4, 3) := by decide +kernel
theorem dX6_bear_71 : decode cX6_bear 71 = .ok (.iload_n 3, 1) := by decide +kernel
theorem dX6_bear_72 : decode cX6_bear 72 = .ok (.istore_n 3, 1) := by decide +kernel
theorem dX6_bear_73 : decode cX6_bear 73 = .ok (.iinc 4 (-1), 3) := by decide +kernel
theorem dX6_bear_76 : decode cX6_bear 76 = .ok (.goto (-43), 3) := by decide +kernel
theorem dX6_bear_79 : decode cX6_bear 79 = .ok (.iload_n 3, 1) := by decide +kernel
theorem dX6_bear_80 : decode cX6_bear 80 = .ok (.ireturn, 1) := by decide +kernel
theorem dX6_hangs_0 : decode cX6_hangs 0 = .ok (.iconst (-1), 1) := by decide +kernel
theorem dX6_hangs_1 : decode cX6_hangs 1 = .ok (.istore_n 1, 1) := by decide +kernel
theorem dX6_hangs_2 : decode cX6_hangs 2 = .ok (.iconst 0, 1) := by decide +kernel
theorem dX6_hangs_3 : decode cX6_hangs 3 = .ok (.istore_n 2, 1) := by decide +kernel
theorem dX6_hangs_4 : decode cX6_hangs 4 = .ok (.iconst 1, 1) := by decide +kernel
theorem dX6_hangs_5 : decode cX6_hangs 5 = .ok (.aload_n 0, 1) := by decide +kernel
theorem dX6_hangs_6 : decode cX6_hangs 6 = .ok (.getfield 78, 3) := by decide +kernel
theorem dX6_hangs_9 : decode cX6_hangs 9 = .ok (.ishl, 1) := by decide +kernel
theorem dX6_hangs_10 : decode cX6_hangs 10 = .ok (.iconst 1, 1) := by decide +kernel
theorem dX6_hangs_11 : decode cX6_hangs 11 = .ok (.isub, 1) := by decide +kernel
theorem dX6_hangs_12 : decode cX6_hangs 12 = .ok (.istore_n 3, 1) := by decide +kernel
theorem dX6_hangs_13 : decode cX6_hangs 13 = .ok (.iconst 0, 1) := by decide +kernel
theorem dX6_hangs_14 : decode cX6_hangs 14 = .ok (.istore 4, 2) := by decide +kernel
theorem dX6_hangs_16 : decode cX6_hangs 16 = .ok (.iload 4, 2) := by decide +kernel
theorem dX6_hangs_18 : decode cX6_hangs 18 = .ok (.aload_n 0, 1) := by decide +kernel
theorem dX6_hangs_19 : decode cX6_hangs 19 = .ok (.getfield 78, 3) := by decide +kernel
theorem dX6_hangs_22 : decode cX6_hangs 22 = .ok (.if_icmp .ge 49, 3) := by decide +kernel
theorem dX6_hangs_25 : decode cX6_hangs 25 = .ok (.aload_n 0, 1) := by decide +kernel
theorem dX6_hangs_26 : decode cX6_hangs 26 = .ok (.iload 4, 2) := by decide +kernel
theorem dX6_hangs_28 : decode cX6_hangs 28 = .ok (.invokevirtual 81, 3) := by decide +kernel
theorem dX6_hangs_31 : decode cX6_hangs 31 = .ok (.ifCond .eq 34, 3) := by decide +kernel
theorem dX6_hangs_34 : decode cX6_hangs 34 = .ok (.aload_n 0, 1) := by decide +kernel
theorem dX6_hangs_35 : decode cX6_hangs 35 = .ok (.iload_n 3, 1) := by decide +kernel
theorem dX6_hangs_36 : decode cX6_hangs 36 = .ok (.iconst 1, 1) := by decide +kernel
theorem dX6_hangs_37 : decode cX6_hangs 37 = .ok (.iload 4, 2) := by decide +kernel
theorem dX6_hangs_39 : decode cX6_hangs 39 = .ok (.ishl, 1) := by decide +kernel
theorem dX6_hangs_40 : decode cX6_hangs 40 = .ok (.iconst (-1), 1) := by decide +kernel
theorem dX6_hangs_41 : decode cX6_hangs 41 = .ok (.ixor, 1) := by decide +kernel
theorem dX6_hangs_42 : decode cX6_hangs 42 = .ok (.iand, 1) := by decide +kernel
theorem dX6_hangs_43 : decode cX6_hangs 43 = .ok (.invokevirtual 266, 3) := by decide +kernel
theorem dX6_hangs_46 : decode cX6_hangs 46 = .ok (.istore 5, 2) := by decide +kernel
theorem dX6_hangs_48 : decode cX6_hangs 48 = .ok (.iload_n 1, 1) := by decide +kernel
theorem dX6_hangs_49 : decode cX6_hangs 49 = .ok (.iconst (-1), 1) := by decide +kernel
theorem dX6_hangs_50 : decode cX6_hangs 50 = .ok (.if_icmp .eq 9, 3) := by decide +kernel
theorem dX6_hangs_53 : decode cX6_hangs 53 = .ok (.iload 5, 2) := by decide +kernel
theorem dX6_hangs_55 : decode cX6_hangs 55 = .ok (.iload_n 2, 1) := by decide +kernel
theorem dX6_hangs_56 : decode cX6_hangs 56 = .ok (.if_icmp .ge 9, 3) := by decide +kernel
theorem dX6_hangs_59 : decode cX6_hangs 59 = .ok (.iload 4, 2) := by decide +kernel
theorem dX6_hangs_61 : decode cX6_hangs 61 = .ok (.istore_n 1, 1) := by decide +kernel
theorem dX6_hangs_62 : decode cX6_hangs 62 = .ok (.iload 5, 2) := by decide +kernel
theorem dX6_hangs_64 : decode cX6_hangs 64 = .ok (.istore_n 2, 1) := by decide +kernel
theorem dX6_hangs_65 : decode cX6_hangs 65 = .ok (.iinc 4 1, 3) := by decide +kernel
theorem dX6_hangs_68 : decode cX6_hangs 68 = .ok (.goto (-52), 3) := by decide +kernel
theorem dX6_hangs_71 : decode cX6_hangs 71 = .ok (.iload_n 1, 1) := by decide +kernel
theorem dX6_hangs_72 : decode cX6_hangs 72 = .ok (.iconst (-1), 1) := by decide +kernel
theorem dX6_hangs_73 : decode cX6_hangs 73 = .ok (.if_icmp .ne 12, 3) := by decide +kernel
theorem dX6_hangs_76 : decode cX6_hangs 76 = .ok (.aload_n 0, 1) := by decide +kernel
theorem dX6_hangs_77 : decode cX6_hangs 77 = .ok (.bipush (-5), 2) := by decide +kernel
theorem dX6_hangs_79 : decode cX6_hangs 79 = .ok (.invokevirtual 91, 3) := by decide +kernel
theorem dX6_hangs_82 : decode cX6_hangs 82 = .ok (.goto 4, 3) := by decide +kernel
theorem dX6_hangs_85 : decode cX6_hangs 85 = .ok (.iload_n 1, 1) := by decide +kernel
theorem dX6_hangs_86 : decode cX6_hangs 86 = .ok (.ireturn, 1) := by decide +kernel
theorem dX6_left_0 : decode cX6_left 0 = .ok (.iload_n 1, 1) := by decide +kernel
theorem dX6_left_1 : decode cX6_left 1 = .ok (.i2l, 1) := by decide +kernel
theorem dX6_left_2 : decode cX6_left 2 = .ok (.lconst 0, 1) := by decide +kernel
theorem dX6_left_3 : decode cX6_left 3 = .ok (.ldc2_w 239, 3) := by decide +kernel
theorem dX6_left_6 : decode cX6_left 6 = .ok (.invokestatic 74, 3) := by decide +kernel
theorem dX6_left_9 : decode cX6_left 9 = .ok (.ifCond .eq 36, 3) := by decide +kernel
theorem dX6_left_12 : decode cX6_left 12 = .ok (.iload_n 2, 1) := by decide +kernel
theorem dX6_left_13 : decode cX6_left 13 = .ok (.i2l, 1) := by decide +kernel
theorem dX6_left_14 : decode cX6_left 14 = .ok (.lconst 0, 1) := by decide +kernel
theorem dX6_left_15 : decode cX6_left 15 = .ok (.ldc2_w 132, 3) := by decide +kernel
theorem dX6_left_18 : decode cX6_left 18 = .ok (.invokestatic 74, 3) := by decide +kernel
theorem dX6_left_21 : decode cX6_left 21 = .ok (.ifCond .eq 24, 3) := by decide +kernel
theorem dX6_left_24 : decode cX6_left 24 = .ok (.iload_n 3, 1) := by decide +kernel
theorem dX6_left_25 : decode cX6_left 25 = .ok (.i2l, 1) := by decide +kernel
theorem dX6_left_26 : decode cX6_left 26 = .ok (.lconst 0, 1) := by decide +kernel
theorem dX6_left_27 : decode cX6_left 27 = .ok (.ldc2_w 104, 3) := by decide +kernel
theorem dX6_left_30 : decode cX6_left 30 = .ok (.invokestatic 74, 3) := by decide +kernel
theorem dX6_left_33 : decode cX6_left 33 = .ok (.ifCond .eq 12, 3) := by decide +kernel
theorem dX6_left_36 : decode cX6_left 36 = .ok (.iload_n 1, 1) := by decide +kernel
theorem dX6_left_37 : decode cX6_left 37 = .ok (.iload_n 2, 1) := by decide +kernel
theorem dX6_left_38 : decode cX6_left 38 = .ok (.iload_n 3, 1) := by decide +kernel
theorem dX6_left_39 : decode cX6_left 39 = .ok (.invokestatic 332, 3) := by decide +kernel
theorem dX6_left_42 : decode cX6_left 42 = .ok (.goto 9, 3) := by decide +kernel
theorem dX6_left_45 : decode cX6_left 45 = .ok (.aload_n 0, 1) := by decide +kernel
theorem dX6_left_46 : decode cX6_left 46 = .ok (.bipush (-2), 2) := by decide +kernel
theorem dX6_left_48 : decode cX6_left 48 = .ok (.invokevirtual 91, 3) := by decide +kernel
theorem dX6_left_51 : decode cX6_left 51 = .ok (.ireturn, 1) := by decide +kernel
theorem dX6_longest_0 : decode cX6_longest 0 = .ok (.iload_n 1, 1) := by decide +kernel
theorem dX6_longest_1 : decode cX6_longest 1 = .ok (.i2l, 1) := by decide +kernel
theorem dX6_longest_2 : decode cX6_longest 2 = .ok (.lconst 0, 1) := by decide +kernel
theorem dX6_longest_3 : decode cX6_longest 3 = .ok (.ldc2_w 239, 3) := by decide +kernel
theorem dX6_longest_6 : decode cX6_longest 6 = .ok (.invokestatic 74, 3) := by decide +kernel
theorem dX6_longest_9 : decode cX6_longest 9 = .ok (.ifCond .eq 27, 3) := by decide +kernel
theorem dX6_longest_12 : decode cX6_longest 12 = .ok (.iload_n 2, 1) := by decide +kernel
theorem dX6_longest_13 : decode cX6_longest 13 = .ok (.i2l, 1) := by decide +kernel
theorem dX6_longest_14 : decode cX6_longest 14 = .ok (.lconst 0, 1) := by decide +kernel
theorem dX6_longest_15 : decode cX6_longest 15 = .ok (.ldc2_w 132, 3) := by decide +kernel
theorem dX6_longest_18 : decode cX6_longest 18 = .ok (.invokestatic 74, 3) := by decide +kernel
theorem dX6_longest_21 : decode cX6_longest 21 = .ok (.ifCond .eq 15, 3) := by decide +kernel
theorem dX6_longest_24 : decode cX6_longest 24 = .ok (.iload_n 3, 1) := by decide +kernel
theorem dX6_longest_25 : decode cX6_longest 25 = .ok (.i2l, 1) := by decide +kernel
theorem dX6_longest_26 : decode cX6_longest 26 = .ok (.lconst 1, 1) := by decide +kernel
theorem dX6_longest_27 : decode cX6_longest 27 = .ok (.ldc2_w 239, 3) := by decide +kernel
theorem dX6_longest_30 : decode cX6_longest 30 = .ok (.invokestatic 74, 3) := by decide +kernel
theorem dX6_longest_33 : decode cX6_longest 33 = .ok (.ifCond .ne 10, 3) := by decide +kernel
theorem dX6_longest_36 : decode cX6_longest 36 = .ok (.aload_n 0, 1) := by decide +kernel
theorem dX6_longest_37 : decode cX6_longest 37 = .ok (.bipush (-2), 2) := by decide +kernel
theorem dX6_longest_39 : decode cX6_longest 39 = .ok (.invokevirtual 91, 3) := by decide +kernel
theorem dX6_longest_42 : decode cX6_longest 42 = .ok (.ireturn, 1) := by decide +kernel
theorem dX6_longest_43 : decode cX6_longest 43 = .ok (.iconst (-1), 1) := by decide +kernel
theorem dX6_longest_44 : decode cX6_longest 44 = .ok (.istore 4, 2) := by decide +kernel
theorem dX6_longest_46 : decode cX6_longest 46 = .ok (.iload 4, 2) := by decide +kernel
theorem dX6_longest_48 : decode cX6_longest 48 = .ok (.bipush 99, 2) := by decide +kernel
theorem dX6_longest_50 : decode cX6_longest 50 = .ok (.if_icmp .ge 22, 3) := by decide +kernel
theorem dX6_longest_53 : decode cX6_longest 53 = .ok (.iload_n 1, 1) := by decide +kernel
theorem dX6_longest_54 : decode cX6_longest 54 = .ok (.iload_n 2, 1) := by decide +kernel
theorem dX6_longest_55 : decode cX6_longest 55 = .ok (.iload 4, 2) := by decide +kernel
theorem dX6_longest_57 : decode cX6_longest 57 = .ok (.iconst 1, 1) := by decide +kernel
theorem dX6_longest_58 : decode cX6_longest 58 = .ok (.iadd, 1) := by decide +kernel
theorem dX6_longest_59 : decode cX6_longest 59 = .ok (.invokestatic 332, 3) := by decide +kernel
theorem dX6_longest_62 : decode cX6_longest 62 = .ok (.iload_n 3, 1) := by decide +kernel
theorem dX6_longest_63 : decode cX6_longest 63 = .ok (.if_icmp .lt 9, 3) := by decide +kernel
theorem dX6_longest_66 : decode cX6_longest 66 = .ok (.iinc 4 1, 3) := by decide +kernel
theorem dX6_longest_69 : decode cX6_longest 69 = .ok (.goto (-23), 3) := by decide +kernel
theorem dX6_longest_72 : decode cX6_longest 72 = .ok (.iload 4, 2) := by decide +kernel
theorem dX6_longest_74 : decode cX6_longest 74 = .ok (.ireturn, 1) := by decide +kernel
theorem dX6_lost_0 : decode cX6_lost 0 = .ok (.iload_n 1, 1) := by decide +kernel
theorem dX6_lost_1 : decode cX6_lost 1 = .ok (.i2l, 1) := by decide +kernel
theorem dX6_lost_2 : decode cX6_lost 2 = .ok (.lconst 1, 1) := by decide +kernel
theorem dX6_lost_3 : decode cX6_lost 3 = .ok (.ldc2_w 239, 3) := by decide +kernel
theorem dX6_lost_6 : decode cX6_lost 6 = .ok (.invokestatic 74, 3) := by decide +kernel
theorem dX6_lost_9 : decode cX6_lost 9 = .ok (.ifCond .eq 19, 3) := by decide +kernel
theorem dX6_lost_12 : decode cX6_lost 12 = .ok (.aload_n 0, 1) := by decide +kernel
theorem dX6_lost_13 : decode cX6_lost 13 = .ok (.iload_n 1, 1) := by decide +kernel
theorem dX6_lost_14 : decode cX6_lost 14 = .ok (.iconst 1, 1) := by decide +kernel
theorem dX6_lost_15 : decode cX6_lost 15 = .ok (.aload_n 0, 1) := by decide +kernel
theorem dX6_lost_16 : decode cX6_lost 16 = .ok (.getfield 78, 3) := by decide +kernel
theorem dX6_lost_19 : decode cX6_lost 19 = .ok (.ishl, 1) := by decide +kernel
theorem dX6_lost_20 : decode cX6_lost 20 = .ok (.iconst 1, 1) := by decide +kernel
theorem dX6_lost_21 : decode cX6_lost 21 = .ok (.isub, 1) := by decide +kernel
theorem dX6_lost_22 : decode cX6_lost 22 = .ok (.invokevirtual 335, 3) := by decide +kernel
theorem dX6_lost_25 : decode cX6_lost 25 = .ok (.goto 9, 3) := by decide +kernel
theorem dX6_lost_28 : decode cX6_lost 28 = .ok (.aload_n 0, 1) := by decide +kernel
theorem dX6_lost_29 : decode cX6_lost 29 = .ok (.bipush (-2), 2) := by decide +kernel
theorem dX6_lost_31 : decode cX6_lost 31 = .ok (.invokevirtual 91, 3) := by decide +kernel
theorem dX6_lost_34 : decode cX6_lost 34 = .ok (.ireturn, 1) := by decide +kernel
set_option maxHeartbeats 4000000 in
set_option maxRecDepth 100000 in
theorem p_X6_left (l : Launch) (G : va_G) (cy : Nat → ClassId) (sz : Nat) (qm : Nat) (qmh : Nat) (qmo : Nat) (qmz : Nat) (qmR : Nat) (qmv : Nat) (qmk : Nat) (qma : Nat) (qmt : Nat) (kZ : Nat) (qmr : Nat) (tA : TA) (qmB : Nat) (qmO : Nat) (qmK : Nat) (iEn : Int32) (iTk : Int32) (uP : UM) (uU : UM) (kAt : Nat) (iTo : Int32) (iFr : Int32) (JFi : Int64) (iFa : Int32) (qm3 : Nat) (iSt : Int32) (iLv : Int32) (iWs : Int32) (vLa : Value) (qmu : Nat) (qmy : Nat) (qmb : Nat) (qms : Nat) (iOm : Int32) (fMr : Nat → Int32) (iA : Int32) (iB : Int32) (iC : Int32)   : MW l yX6_left cX6_left 4 (some .int) 16 0 0 G cy [zzO qm 5 [.ref qmh, .ref qmo, .ref qmz, .ref qmR, .ref qmv, .ref qmk, .ref qma, .ref qmt, .int (nI kZ), .ref qmr, .int (nI (T_nb tA)), .ref qmB, .int (nI (T_np tA)), .ref qmO, .ref qmK, .int iEn, .int iTk, .int (T_sd tA), ov uP, ov uU, .int (nI kAt), .int iTo, .int iFr, .long JFi, .int iFa, .ref qm3, .int iSt, .int iLv, .int iWs, vLa, .ref qmu, .ref qmy, .ref qmb, .ref qms, .int iOm], zzI cy qmr 8 fMr] sz [.ref qm, .int iA, .int iB, .int iC] (Wi G (fun r u => ∃ (fNr : Nat → Int32), u = [zzO qm 5 [.ref qmh, .ref qmo, .ref qmz, .ref qmR, .ref qmv, .ref qmk, .ref qma, .ref qmt, .int (nI kZ), .ref qmr, .int (nI (T_nb tA)), .ref qmB, .int (nI (T_np tA)), .ref qmO, .ref qmK, .int iEn, .int iTk, .int (T_sd tA), ov uP, ov uU, .int (nI kAt), .int iTo, .int iFr, .long JFi, .int iFa, .ref qm3, .int iSt, .int iLv, .int iWs, vLa, .ref qmu, .ref qmy, .ref qmb, .ref qms, .int iOm], zzI cy qmr 8 fNr] ∧ ((r = (sp_left iA iB iC))))) := by
  refine enW RX6 (by decide) rfl (Nat.le_of_ble_eq_true rfl) (fun p e s m below meth c ls A hx hb hml hown hts hr hlocks hP hN hl hin hD hA hS => ?_)
  have hin : meth.name = _ := hin
  have hK := hN.1
  replace hl : lv_has ls 4 [(0, .ref qm), (1, .int iA), (2, .int iB), (3, .int iC)] := hl
  refine lv_iload_n hx hb dX6_left_0 rfl (lv_at hl 1 rfl) ?_
  refine lv_i2l (v := iA.toInt64) hx hb dX6_left_1 rfl ?_
  refine lv_lconst (v := 0) hx hb dX6_left_2 (by decide) ?_
  refine lv_ldc2 hx hb hown (hts _ m_t1199) dX6_left_3 ?_
  refine kRi (rS (As := [.long iA.toInt64, .long 0, .long 1000]) (rest := []) ⟨hx, hb, hml, hown, hts⟩ (c_X6_in l G cy iA.toInt64 0 1000) L_X6_74 (preRS hN hP [] rfl) rfl ⟨Nat.le_of_ble_eq_true rfl, Nat.le_of_ble_eq_true rfl⟩ hl.1 (Nat.le_of_ble_eq_true rfl) dX6_left_6 ⟨Nat.le_of_ble_eq_true rfl, Nat.le_of_ble_eq_true rfl⟩) (fun r_1 h_2 => ?_)
  rcases h_2 with ⟨rfl, h_3⟩ | ⟨rfl, h_3⟩
  · refine lv_if_eq (tgt := 45) hx hb dX6_left_9 (by decide) (fun h9 => absurd h9 (by decide)) (fun _ => ?_)
    refine lv_iload_n hx hb dX6_left_12 rfl (lv_at hl 2 rfl) ?_
    refine lv_i2l (v := iB.toInt64) hx hb dX6_left_13 rfl ?_
    refine lv_lconst (v := 0) hx hb dX6_left_14 (by decide) ?_
    refine lv_ldc2 hx hb hown (hts _ m_t1103) dX6_left_15 ?_
    refine kRi (rS (As := [.long iB.toInt64, .long 0, .long 10]) (rest := []) ⟨hx, hb, hml, hown, hts⟩ (c_X6_in l G cy iB.toInt64 0 10) L_X6_74 (preRS hN hP [] rfl) rfl ⟨Nat.le_of_ble_eq_true rfl, Nat.le_of_ble_eq_true rfl⟩ hl.1 (Nat.le_of_ble_eq_true rfl) dX6_left_18 ⟨Nat.le_of_ble_eq_true rfl, Nat.le_of_ble_eq_true rfl⟩) (fun r_5 h_6 => ?_)
    rcases h_6 with ⟨rfl, h_7⟩ | ⟨rfl, h_7⟩
    · refine lv_if_eq (tgt := 45) hx hb dX6_left_21 (by decide) (fun h9 => absurd h9 (by decide)) (fun _ => ?_)
      refine lv_iload_n hx hb dX6_left_24 rfl (lv_at hl 3 rfl) ?_
      refine lv_i2l (v := iC.toInt64) hx hb dX6_left_25 rfl ?_
      refine lv_lconst (v := 0) hx hb dX6_left_26 (by decide) ?_
      refine lv_ldc2 hx hb hown (hts _ m_t998) dX6_left_27 ?_
      refine kRi (rS (As := [.long iC.toInt64, .long 0, .long 99]) (rest := []) ⟨hx, hb, hml, hown, hts⟩ (c_X6_in l G cy iC.toInt64 0 99) L_X6_74 (preRS hN hP [] rfl) rfl ⟨Nat.le_of_ble_eq_true rfl, Nat.le_of_ble_eq_true rfl⟩ hl.1 (Nat.le_of_ble_eq_true rfl) dX6_left_30 ⟨Nat.le_of_ble_eq_true rfl, Nat.le_of_ble_eq_true rfl⟩) (fun r_9 h_10 => ?_)
      rcases h_10 with ⟨rfl, h_11⟩ | ⟨rfl, h_11⟩
      · obtain ⟨k_12, hk_13, hk_14, rfl⟩ := iv_nI 0 99 (by decide) (by decide) h_11
        refine lv_if_eq (tgt := 45) hx hb dX6_left_33 (by decide) (fun h9 => absurd h9 (by decide)) (fun _ => ?_)
        refine lv_iload_n hx hb dX6_left_36 rfl (lv_at hl 1 rfl) ?_
        refine lv_iload_n hx hb dX6_left_37 rfl (lv_at hl 2 rfl) ?_
        refine lv_iload_n hx hb dX6_left_38 rfl (lv_at hl 3 rfl) ?_
        refine kRi (rS (As := [.int iA, .int iB, .int (nI k_12)]) (rest := []) ⟨hx, hb, hml, hown, hts⟩ (c_X6_leftOf l G cy iA iB k_12 (by first | omega | (simp only [nb_sr, np_sr, nb_wr, np_wr, nb_rd, np_rd, nb_ch, np_ch, nb_zr, np_zr, nb_za, np_za, nb_ey, np_ey, nb_hf, np_hf, nb_dd, np_dd, nb_so, np_so, nb_skn, np_skn, nb_swh, np_swh, nb_sgn, np_sgn, nb_ssd, np_ssd, nb_sgo, np_sgo, nb_sag, np_sag]; omega))) L_X6_332 (preRS hN hP [] rfl) rfl ⟨Nat.le_of_ble_eq_true rfl, Nat.le_of_ble_eq_true rfl⟩ hl.1 (Nat.le_of_ble_eq_true rfl) dX6_left_39 ⟨Nat.le_of_ble_eq_true rfl, Nat.le_of_ble_eq_true rfl⟩) (fun r_16 h_17 => ?_)
        subst h_17
        refine lv_goto (tgt := 51) hx hb dX6_left_42 (by decide) ?_
        exact endW (u := [zzO qm 5 [.ref qmh, .ref qmo, .ref qmz, .ref qmR, .ref qmv, .ref qmk, .ref qma, .ref qmt, .int (nI kZ), .ref qmr, .int (nI (T_nb tA)), .ref qmB, .int (nI (T_np tA)), .ref qmO, .ref qmK, .int iEn, .int iTk, .int (T_sd tA), ov uP, ov uU, .int (nI kAt), .int iTo, .int iFr, .long JFi, .int iFa, .ref qm3, .int iSt, .int iLv, .int iWs, vLa, .ref qmu, .ref qmy, .ref qmb, .ref qms, .int iOm], zzI cy qmr 8 fMr]) hx hb hr hlocks rfl (hP.sub [0, 1] rfl) (hD.sub [0, 1] (by decide +kernel) rfl) hS ⟨fMr, rfl, (by rw [sp_left, if_pos ⟨h_3, h_7, h_11⟩, nI_clamp (by omega)])⟩ dX6_left_51
      · refine lv_if_eq (tgt := 45) hx hb dX6_left_33 (by decide) (fun _ => ?_) (fun h9 => absurd (by decide) h9)
        refine lv_aload_n hx hb dX6_left_45 rfl (lv_at hl 0 rfl) ?_
        refine lv_bipush (v := (-2)) hx hb dX6_left_46 (by decide) ?_
        refine cVi (As := [.int (-2)]) (rest := []) (b := qm) (q := (RX6, TX6, 35)) ⟨hx, hb, hml, hown, hts⟩ (c_X6_refuse2 l G cy (s.heap).size qm (.ref qmh) (.ref qmo) (.ref qmz) (.ref qmR) (.ref qmv) (.ref qmk) (.ref qma) (.ref qmt) (.int (nI kZ)) qmr tA qmB qmO qmK iEn iTk (ov uP) (ov uU) (.int (nI kAt)) (.int iTo) (.int iFr) (.long JFi) (.int iFa) (.ref qm3) (.int iSt) iLv iWs vLa (.ref qmu) (.ref qmy) (.ref qmb) (.ref qms) (.int iOm) fMr) L_X6_91 hN hP hD hS hA [0, 1] [false, false] rfl (by decide +kernel) rfl 0 5 rfl rfl rfl ⟨Nat.le_of_ble_eq_true rfl, Nat.le_of_ble_eq_true rfl⟩ hl.1 (Nat.le_of_ble_eq_true rfl) dX6_left_48 ⟨Nat.le_of_ble_eq_true rfl, Nat.le_of_ble_eq_true rfl⟩ (fun r_19 u_21 H locs h_20 => ?_)
        clear hP hD hS
        intro hP hD hS
        obtain ⟨fX_22, rfl, h_20⟩ := h_20
        have hPD := pd_as [zzO qm 5 [.ref qmh, .ref qmo, .ref qmz, .ref qmR, .ref qmv, .ref qmk, .ref qma, .ref qmt, .int (nI kZ), .ref qmr, .int (nI (T_nb tA)), .ref qmB, .int (nI (T_np tA)), .ref qmO, .ref qmK, .int iEn, .int iTk, .int (T_sd tA), ov uP, ov uU, .int (nI kAt), .int iTo, .int iFr, .long JFi, .int iFa, .ref qm3, .int iSt, .int iLv, .int iWs, vLa, .ref qmu, .ref qmy, .ref qmb, .ref qms, .int iOm], zzI cy qmr 8 fX_22] hP hD rfl
        clear hP hD
        obtain ⟨hP, hD⟩ := hPD
        subst h_20
        exact endW (u := [zzO qm 5 [.ref qmh, .ref qmo, .ref qmz, .ref qmR, .ref qmv, .ref qmk, .ref qma, .ref qmt, .int (nI kZ), .ref qmr, .int (nI (T_nb tA)), .ref qmB, .int (nI (T_np tA)), .ref qmO, .ref qmK, .int iEn, .int iTk, .int (T_sd tA), ov uP, ov uU, .int (nI kAt), .int iTo, .int iFr, .long JFi, .int iFa, .ref qm3, .int iSt, .int iLv, .int iWs, vLa, .ref qmu, .ref qmy, .ref qmb, .ref qms, .int iOm], zzI cy qmr 8 fX_22]) hx hb hr hlocks rfl (hP.sub [0, 1] rfl) (hD.sub [0, 1] (by decide +kernel) rfl) hS ⟨fX_22, rfl, (by rw [sp_left, if_neg (fun q => h_11 q.2.2)])⟩ dX6_left_51
    · refine lv_if_eq (tgt := 45) hx hb dX6_left_21 (by decide) (fun _ => ?_) (fun h9 => absurd (by decide) h9)
      refine lv_aload_n hx hb dX6_left_45 rfl (lv_at hl 0 rfl) ?_
      refine lv_bipush (v := (-2)) hx hb dX6_left_46 (by decide) ?_
      refine cVi (As := [.int (-2)]) (rest := []) (b := qm) (q := (RX6, TX6, 35)) ⟨hx, hb, hml, hown, hts⟩ (c_X6_refuse2 l G cy (s.heap).size qm (.ref qmh) (.ref qmo) (.ref qmz) (.ref qmR) (.ref qmv) (.ref qmk) (.ref qma) (.ref qmt) (.int (nI kZ)) qmr tA qmB qmO qmK iEn iTk (ov uP) (ov uU) (.int (nI kAt)) (.int iTo) (.int iFr) (.long JFi) (.int iFa) (.ref qm3) (.int iSt) iLv iWs vLa (.ref qmu) (.ref qmy) (.ref qmb) (.ref qms) (.int iOm) fMr) L_X6_91 hN hP hD hS hA [0, 1] [false, false] rfl (by decide +kernel) rfl 0 5 rfl rfl rfl ⟨Nat.le_of_ble_eq_true rfl, Nat.le_of_ble_eq_true rfl⟩ hl.1 (Nat.le_of_ble_eq_true rfl) dX6_left_48 ⟨Nat.le_of_ble_eq_true rfl, Nat.le_of_ble_eq_true rfl⟩ (fun r_24 u_26 H locs h_25 => ?_)
      clear hP hD hS
      intro hP hD hS
      obtain ⟨fX_27, rfl, h_25⟩ := h_25
      have hPD := pd_as [zzO qm 5 [.ref qmh, .ref qmo, .ref qmz, .ref qmR, .ref qmv, .ref qmk, .ref qma, .ref qmt, .int (nI kZ), .ref qmr, .int (nI (T_nb tA)), .ref qmB, .int (nI (T_np tA)), .ref qmO, .ref qmK, .int iEn, .int iTk, .int (T_sd tA), ov uP, ov uU, .int (nI kAt), .int iTo, .int iFr, .long JFi, .int iFa, .ref qm3, .int iSt, .int iLv, .int iWs, vLa, .ref qmu, .ref qmy, .ref qmb, .ref qms, .int iOm], zzI cy qmr 8 fX_27] hP hD rfl
      clear hP hD
      obtain ⟨hP, hD⟩ := hPD
      subst h_25
      exact endW (u := [zzO qm 5 [.ref qmh, .ref qmo, .ref qmz, .ref qmR, .ref qmv, .ref qmk, .ref qma, .ref qmt, .int (nI kZ), .ref qmr, .int (nI (T_nb tA)), .ref qmB, .int (nI (T_np tA)), .ref qmO, .ref qmK, .int iEn, .int iTk, .int (T_sd tA), ov uP, ov uU, .int (nI kAt), .int iTo, .int iFr, .long JFi, .int iFa, .ref qm3, .int iSt, .int iLv, .int iWs, vLa, .ref qmu, .ref qmy, .ref qmb, .ref qms, .int iOm], zzI cy qmr 8 fX_27]) hx hb hr hlocks rfl (hP.sub [0, 1] rfl) (hD.sub [0, 1] (by decide +kernel) rfl) hS ⟨fX_27, rfl, (by rw [sp_left, if_neg (fun q => h_7 q.2.1)])⟩ dX6_left_51
  · refine lv_if_eq (tgt := 45) hx hb dX6_left_9 (by decide) (fun _ => ?_) (fun h9 => absurd (by decide) h9)
    refine lv_aload_n hx hb dX6_left_45 rfl (lv_at hl 0 rfl) ?_
    refine lv_bipush (v := (-2)) hx hb dX6_left_46 (by decide) ?_
    refine cVi (As := [.int (-2)]) (rest := []) (b := qm) (q := (RX6, TX6, 35)) ⟨hx, hb, hml, hown, hts⟩ (c_X6_refuse2 l G cy (s.heap).size qm (.ref qmh) (.ref qmo) (.ref qmz) (.ref qmR) (.ref qmv) (.ref qmk) (.ref qma) (.ref qmt) (.int (nI kZ)) qmr tA qmB qmO qmK iEn iTk (ov uP) (ov uU) (.int (nI kAt)) (.int iTo) (.int iFr) (.long JFi) (.int iFa) (.ref qm3) (.int iSt) iLv iWs vLa (.ref qmu) (.ref qmy) (.ref qmb) (.ref qms) (.int iOm) fMr) L_X6_91 hN hP hD hS hA [0, 1] [false, false] rfl (by decide +kernel) rfl 0 5 rfl rfl rfl ⟨Nat.le_of_ble_eq_true rfl, Nat.le_of_ble_eq_true rfl⟩ hl.1 (Nat.le_of_ble_eq_true rfl) dX6_left_48 ⟨Nat.le_of_ble_eq_true rfl, Nat.le_of_ble_eq_true rfl⟩ (fun r_29 u_31 H locs h_30 => ?_)
    clear hP hD hS
    intro hP hD hS
    obtain ⟨fX_32, rfl, h_30⟩ := h_30
    have hPD := pd_as [zzO qm 5 [.ref qmh, .ref qmo, .ref qmz, .ref qmR, .ref qmv, .ref qmk, .ref qma, .ref qmt, .int (nI kZ), .ref qmr, .int (nI (T_nb tA)), .ref qmB, .int (nI (T_np tA)), .ref qmO, .ref qmK, .int iEn, .int iTk, .int (T_sd tA), ov uP, ov uU, .int (nI kAt), .int iTo, .int iFr, .long JFi, .int iFa, .ref qm3, .int iSt, .int iLv, .int iWs, vLa, .ref qmu, .ref qmy, .ref qmb, .ref qms, .int iOm], zzI cy qmr 8 fX_32] hP hD rfl
    clear hP hD
    obtain ⟨hP, hD⟩ := hPD
    subst h_30
    exact endW (u := [zzO qm 5 [.ref qmh, .ref qmo, .ref qmz, .ref qmR, .ref qmv, .ref qmk, .ref qma, .ref qmt, .int (nI kZ), .ref qmr, .int (nI (T_nb tA)), .ref qmB, .int (nI (T_np tA)), .ref qmO, .ref qmK, .int iEn, .int iTk, .int (T_sd tA), ov uP, ov uU, .int (nI kAt), .int iTo, .int iFr, .long JFi, .int iFa, .ref qm3, .int iSt, .int iLv, .int iWs, vLa, .ref qmu, .ref qmy, .ref qmb, .ref qms, .int iOm], zzI cy qmr 8 fX_32]) hx hb hr hlocks rfl (hP.sub [0, 1] rfl) (hD.sub [0, 1] (by decide +kernel) rfl) hS ⟨fX_32, rfl, (by rw [sp_left, if_neg (fun q => h_3 q.1)])⟩ dX6_left_51
set_option maxHeartbeats 4000000 in
set_option maxRecDepth 100000 in
theorem p_X6_longest (l : Launch) (G : va_G) (cy : Nat → ClassId) (sz : Nat) (qm : Nat) (qmh : Nat) (qmo : Nat) (qmz : Nat) (qmR : Nat) (qmv : Nat) (qmk : Nat) (qma : Nat) (qmt : Nat) (kZ : Nat) (qmr : Nat) (tA : TA) (qmB : Nat) (qmO : Nat) (qmK : Nat) (iEn : Int32) (iTk : Int32) (uP : UM) (uU : UM) (kAt : Nat) (iTo : Int32) (iFr : Int32) (JFi : Int64) (iFa : Int32) (qm3 : Nat) (iSt : Int32) (iLv : Int32) (iWs : Int32) (vLa : Value) (qmu : Nat) (qmy : Nat) (qmb : Nat) (qms : Nat) (iOm : Int32) (fMr : Nat → Int32) (iA : Int32) (iB : Int32) (iC : Int32)   : MW l yX6_longest cX6_longest 5 (some .int) 16 0 0 G cy [zzO qm 5 [.ref qmh, .ref qmo, .ref qmz, .ref qmR, .ref qmv, .ref qmk, .ref qma, .ref qmt, .int (nI kZ), .ref qmr, .int (nI (T_nb tA)), .ref qmB, .int (nI (T_np tA)), .ref qmO, .ref qmK, .int iEn, .int iTk, .int (T_sd tA), ov uP, ov uU, .int (nI kAt), .int iTo, .int iFr, .long JFi, .int iFa, .ref qm3, .int iSt, .int iLv, .int iWs, vLa, .ref qmu, .ref qmy, .ref qmb, .ref qms, .int iOm], zzI cy qmr 8 fMr] sz [.ref qm, .int iA, .int iB, .int iC] (Wi G (fun r u => ∃ (fNr : Nat → Int32), u = [zzO qm 5 [.ref qmh, .ref qmo, .ref qmz, .ref qmR, .ref qmv, .ref qmk, .ref qma, .ref qmt, .int (nI kZ), .ref qmr, .int (nI (T_nb tA)), .ref qmB, .int (nI (T_np tA)), .ref qmO, .ref qmK, .int iEn, .int iTk, .int (T_sd tA), ov uP, ov uU, .int (nI kAt), .int iTo, .int iFr, .long JFi, .int iFa, .ref qm3, .int iSt, .int iLv, .int iWs, vLa, .ref qmu, .ref qmy, .ref qmb, .ref qms, .int iOm], zzI cy qmr 8 fNr] ∧ ((r = (sp_longest iA iB iC))))) := by
  refine enW RX6 (by decide) rfl (Nat.le_of_ble_eq_true rfl) (fun p e s m below meth c ls A hx hb hml hown hts hr hlocks hP hN hl hin hD hA hS => ?_)
  have hin : meth.name = _ := hin
  have hK := hN.1
  replace hl : lv_has ls 5 [(0, .ref qm), (1, .int iA), (2, .int iB), (3, .int iC)] := hl
  refine lv_iload_n hx hb dX6_longest_0 rfl (lv_at hl 1 rfl) ?_
  refine lv_i2l (v := iA.toInt64) hx hb dX6_longest_1 rfl ?_
  refine lv_lconst (v := 0) hx hb dX6_longest_2 (by decide) ?_
  refine lv_ldc2 hx hb hown (hts _ m_t1199) dX6_longest_3 ?_
  refine kRi (rS (As := [.long iA.toInt64, .long 0, .long 1000]) (rest := []) ⟨hx, hb, hml, hown, hts⟩ (c_X6_in l G cy iA.toInt64 0 1000) L_X6_74 (preRS hN hP [] rfl) rfl ⟨Nat.le_of_ble_eq_true rfl, Nat.le_of_ble_eq_true rfl⟩ hl.1 (Nat.le_of_ble_eq_true rfl) dX6_longest_6 ⟨Nat.le_of_ble_eq_true rfl, Nat.le_of_ble_eq_true rfl⟩) (fun r_1 h_2 => ?_)
  rcases h_2 with ⟨rfl, h_3⟩ | ⟨rfl, h_3⟩
  · refine lv_if_eq (tgt := 36) hx hb dX6_longest_9 (by decide) (fun h9 => absurd h9 (by decide)) (fun _ => ?_)
    refine lv_iload_n hx hb dX6_longest_12 rfl (lv_at hl 2 rfl) ?_
    refine lv_i2l (v := iB.toInt64) hx hb dX6_longest_13 rfl ?_
    refine lv_lconst (v := 0) hx hb dX6_longest_14 (by decide) ?_
    refine lv_ldc2 hx hb hown (hts _ m_t1103) dX6_longest_15 ?_
    refine kRi (rS (As := [.long iB.toInt64, .long 0, .long 10]) (rest := []) ⟨hx, hb, hml, hown, hts⟩ (c_X6_in l G cy iB.toInt64 0 10) L_X6_74 (preRS hN hP [] rfl) rfl ⟨Nat.le_of_ble_eq_true rfl, Nat.le_of_ble_eq_true rfl⟩ hl.1 (Nat.le_of_ble_eq_true rfl) dX6_longest_18 ⟨Nat.le_of_ble_eq_true rfl, Nat.le_of_ble_eq_true rfl⟩) (fun r_5 h_6 => ?_)
    rcases h_6 with ⟨rfl, h_7⟩ | ⟨rfl, h_7⟩
    · refine lv_if_eq (tgt := 36) hx hb dX6_longest_21 (by decide) (fun h9 => absurd h9 (by decide)) (fun _ => ?_)
      refine lv_iload_n hx hb dX6_longest_24 rfl (lv_at hl 3 rfl) ?_
      refine lv_i2l (v := iC.toInt64) hx hb dX6_longest_25 rfl ?_
      refine lv_lconst (v := 1) hx hb dX6_longest_26 (by decide) ?_
      refine lv_ldc2 hx hb hown (hts _ m_t1199) dX6_longest_27 ?_
      refine kRi (rS (As := [.long iC.toInt64, .long 1, .long 1000]) (rest := []) ⟨hx, hb, hml, hown, hts⟩ (c_X6_in l G cy iC.toInt64 1 1000) L_X6_74 (preRS hN hP [] rfl) rfl ⟨Nat.le_of_ble_eq_true rfl, Nat.le_of_ble_eq_true rfl⟩ hl.1 (Nat.le_of_ble_eq_true rfl) dX6_longest_30 ⟨Nat.le_of_ble_eq_true rfl, Nat.le_of_ble_eq_true rfl⟩) (fun r_9 h_10 => ?_)
      rcases h_10 with ⟨rfl, h_11⟩ | ⟨rfl, h_11⟩
      · refine lv_if_ne (tgt := 43) hx hb dX6_longest_33 (by decide) (fun _ => ?_) (fun h9 => absurd h9 (by decide))
        refine lv_iconst (v := (-1)) hx hb dX6_longest_43 (by decide) ?_
        refine lv_istore (lv' := [(4, .int (-1)), (0, .ref qm), (1, .int iA), (2, .int iB), (3, .int iC)]) hx hb dX6_longest_44 hl (by decide) rfl (fun ls => ?_)
        clear hl
        intro hl
        replace hl : lv_has ls 5 [(4, .int (nI 0 - 1)), (0, .ref qm), (1, .int iA), (2, .int iB), (3, .int iC)] := hl
        have lp_13 : ∀ (n_14 : Nat) (j_16 : Nat), 100 - j_16 < n_14 → lgst iB iC (100 - j_16) (nI j_16 - 1) (lft iB j_16 iA) = lgst iB iC 100 (-1) iA → j_16 ≤ 100 → ∀ (H : Heap) (locs : List Loc) (ls : Array Slot), va_P G CL [zzO qm 5 [.ref qmh, .ref qmo, .ref qmz, .ref qmR, .ref qmv, .ref qmk, .ref qma, .ref qmt, .int (nI kZ), .ref qmr, .int (nI (T_nb tA)), .ref qmB, .int (nI (T_np tA)), .ref qmO, .ref qmK, .int iEn, .int iTk, .int (T_sd tA), ov uP, ov uU, .int (nI kAt), .int iTo, .int iFr, .long JFi, .int iFa, .ref qm3, .int iSt, .int iLv, .int iWs, vLa, .ref qmu, .ref qmy, .ref qmb, .ref qms, .int iOm], zzI cy qmr 8 fMr] H → va_D A [zzO qm 5 [.ref qmh, .ref qmo, .ref qmz, .ref qmR, .ref qmv, .ref qmk, .ref qma, .ref qmt, .int (nI kZ), .ref qmr, .int (nI (T_nb tA)), .ref qmB, .int (nI (T_np tA)), .ref qmO, .ref qmK, .int iEn, .int iTk, .int (T_sd tA), ov uP, ov uU, .int (nI kAt), .int iTo, .int iFr, .long JFi, .int iFa, .ref qm3, .int iSt, .int iLv, .int iWs, vLa, .ref qmu, .ref qmy, .ref qmb, .ref qms, .int iOm], zzI cy qmr 8 fMr] → va_S A s.heap H locs → lv_has ls 5 [(4, .int (nI j_16 - 1)), (0, .ref qm), (1, .int iA), (2, .int iB), (3, .int iC)] → W p l e (Rm 16 0 0) s m (List.toArray (α := Value) [.ref qm, .int iA, .int iB, .int iC]) below meth c H locs 0 0 (MQ below ((Wi G (fun r u => ∃ (fNr : Nat → Int32), u = [zzO qm 5 [.ref qmh, .ref qmo, .ref qmz, .ref qmR, .ref qmv, .ref qmk, .ref qma, .ref qmt, .int (nI kZ), .ref qmr, .int (nI (T_nb tA)), .ref qmB, .int (nI (T_np tA)), .ref qmO, .ref qmK, .int iEn, .int iTk, .int (T_sd tA), ov uP, ov uU, .int (nI kAt), .int iTo, .int iFr, .long JFi, .int iFa, .ref qm3, .int iSt, .int iLv, .int iWs, vLa, .ref qmu, .ref qmy, .ref qmb, .ref qms, .int iOm], zzI cy qmr 8 fNr] ∧ ((r = (sp_longest iA iB iC))))) A) (List.toArray (α := Value) [.ref qm, .int iA, .int iB, .int iC]) s 0 0 A) (F0 m 46 ls []) := by
          intro n_14
          induction n_14 with
          | zero => intro j_16 hm9; exact absurd hm9 (Nat.not_lt_zero _)
          | succ n_14 ih_15 =>
            intro j_16 hm_19 hT_17 hj_18 H locs ls hP hD hS hl
            refine lv_iload hx hb dX6_longest_46 (lv_at hl 0 rfl) ?_
            refine lv_bipush (v := 99) hx hb dX6_longest_48 (by decide) ?_
            refine lv_icmp_ge (tgt := 72) hx hb dX6_longest_50 (by decide) (fun c_20 => ?_) (fun c_20 => ?_)
            · refine lv_iload hx hb dX6_longest_72 (lv_at hl 0 rfl) ?_
              exact endW (u := [zzO qm 5 [.ref qmh, .ref qmo, .ref qmz, .ref qmR, .ref qmv, .ref qmk, .ref qma, .ref qmt, .int (nI kZ), .ref qmr, .int (nI (T_nb tA)), .ref qmB, .int (nI (T_np tA)), .ref qmO, .ref qmK, .int iEn, .int iTk, .int (T_sd tA), ov uP, ov uU, .int (nI kAt), .int iTo, .int iFr, .long JFi, .int iFa, .ref qm3, .int iSt, .int iLv, .int iWs, vLa, .ref qmu, .ref qmy, .ref qmb, .ref qms, .int iOm], zzI cy qmr 8 fMr]) hx hb hr hlocks rfl (hP.sub [0, 1] rfl) (hD.sub [0, 1] (by decide +kernel) rfl) hS ⟨fMr, rfl, (by rw [sp_longest, if_pos ⟨h_3, h_7, h_11⟩, ← hT_17, m1_ge rfl hj_18 c_20]; rfl)⟩ dX6_longest_74
            · have hlt_21 : j_16 < 100 := m1_lt rfl hj_18 c_20
              refine lv_iload_n hx hb dX6_longest_53 rfl (lv_at hl 2 rfl) ?_
              refine lv_iload_n hx hb dX6_longest_54 rfl (lv_at hl 3 rfl) ?_
              refine lv_iload hx hb dX6_longest_55 (lv_at hl 0 rfl) ?_
              refine lv_iconst (v := 1) hx hb dX6_longest_57 (by decide) ?_
              refine lv_iadd hx hb dX6_longest_58 ?_
              refine lv_seti (v := nI j_16) (m1_nI' _) ?_
              refine kRi (rS (As := [.int iA, .int iB, .int (nI j_16)]) (rest := []) ⟨hx, hb, hml, hown, hts⟩ (c_X6_leftOf l G cy iA iB j_16 hj_18) L_X6_332 (preRS hN hP [] rfl) rfl ⟨Nat.le_of_ble_eq_true rfl, Nat.le_of_ble_eq_true rfl⟩ hl.1 (Nat.le_of_ble_eq_true rfl) dX6_longest_59 ⟨Nat.le_of_ble_eq_true rfl, Nat.le_of_ble_eq_true rfl⟩) (fun r_22 h_23 => ?_)
              subst h_23
              refine lv_iload_n hx hb dX6_longest_62 rfl (lv_at hl 4 rfl) ?_
              refine lv_icmp_lt (tgt := 72) hx hb dX6_longest_63 (by decide) (fun c_24 => ?_) (fun c_24 => ?_)
              · refine lv_iload hx hb dX6_longest_72 (lv_at hl 0 rfl) ?_
                exact endW (u := [zzO qm 5 [.ref qmh, .ref qmo, .ref qmz, .ref qmR, .ref qmv, .ref qmk, .ref qma, .ref qmt, .int (nI kZ), .ref qmr, .int (nI (T_nb tA)), .ref qmB, .int (nI (T_np tA)), .ref qmO, .ref qmK, .int iEn, .int iTk, .int (T_sd tA), ov uP, ov uU, .int (nI kAt), .int iTo, .int iFr, .long JFi, .int iFa, .ref qm3, .int iSt, .int iLv, .int iWs, vLa, .ref qmu, .ref qmy, .ref qmb, .ref qms, .int iOm], zzI cy qmr 8 fMr]) hx hb hr hlocks rfl (hP.sub [0, 1] rfl) (hD.sub [0, 1] (by decide +kernel) rfl) hS ⟨fMr, rfl, (by rw [sp_longest, if_pos ⟨h_3, h_7, h_11⟩, ← hT_17, lg_stop0 c_24])⟩ dX6_longest_74
              · refine lv_iinc (v := (nI j_16 - 1) + 1) (lv' := [(4, .int ((nI j_16 - 1) + 1)), (0, .ref qm), (1, .int iA), (2, .int iB), (3, .int iC)]) hx hb dX6_longest_66 hl (k := 0) rfl (rfl) (by decide) rfl (fun ls => ?_)
                clear hl
                intro hl
                rw [m1_nI] at hl
                refine lv_goto (tgt := 46) hx hb dX6_longest_69 (by decide) ?_
                exact ih_15 (j_16 + 1) (by omega) (by rw [← hT_17, show 100 - j_16 = 100 - (j_16 + 1) + 1 by omega, lg_go c_24, m1_nI]; rfl) (by omega) _ _ _ hP hD hS (lv_sub hl [0, 1, 2, 3, 4] rfl)
        exact lp_13 ((100 - 0) + 1) 0 (Nat.lt_succ_self _) rfl (Nat.zero_le _) _ _ ls hP hD hS (lv_sub hl [0, 1, 2, 3, 4] rfl)
      · refine lv_if_ne (tgt := 43) hx hb dX6_longest_33 (by decide) (fun h9 => absurd (by decide) h9) (fun _ => ?_)
        refine lv_aload_n hx hb dX6_longest_36 rfl (lv_at hl 0 rfl) ?_
        refine lv_bipush (v := (-2)) hx hb dX6_longest_37 (by decide) ?_
        refine cVi (As := [.int (-2)]) (rest := []) (b := qm) (q := (RX6, TX6, 35)) ⟨hx, hb, hml, hown, hts⟩ (c_X6_refuse2 l G cy (s.heap).size qm (.ref qmh) (.ref qmo) (.ref qmz) (.ref qmR) (.ref qmv) (.ref qmk) (.ref qma) (.ref qmt) (.int (nI kZ)) qmr tA qmB qmO qmK iEn iTk (ov uP) (ov uU) (.int (nI kAt)) (.int iTo) (.int iFr) (.long JFi) (.int iFa) (.ref qm3) (.int iSt) iLv iWs vLa (.ref qmu) (.ref qmy) (.ref qmb) (.ref qms) (.int iOm) fMr) L_X6_91 hN hP hD hS hA [0, 1] [false, false] rfl (by decide +kernel) rfl 0 5 rfl rfl rfl ⟨Nat.le_of_ble_eq_true rfl, Nat.le_of_ble_eq_true rfl⟩ hl.1 (Nat.le_of_ble_eq_true rfl) dX6_longest_39 ⟨Nat.le_of_ble_eq_true rfl, Nat.le_of_ble_eq_true rfl⟩ (fun r_26 u_28 H locs h_27 => ?_)
        clear hP hD hS
        intro hP hD hS
        obtain ⟨fX_29, rfl, h_27⟩ := h_27
        have hPD := pd_as [zzO qm 5 [.ref qmh, .ref qmo, .ref qmz, .ref qmR, .ref qmv, .ref qmk, .ref qma, .ref qmt, .int (nI kZ), .ref qmr, .int (nI (T_nb tA)), .ref qmB, .int (nI (T_np tA)), .ref qmO, .ref qmK, .int iEn, .int iTk, .int (T_sd tA), ov uP, ov uU, .int (nI kAt), .int iTo, .int iFr, .long JFi, .int iFa, .ref qm3, .int iSt, .int iLv, .int iWs, vLa, .ref qmu, .ref qmy, .ref qmb, .ref qms, .int iOm], zzI cy qmr 8 fX_29] hP hD rfl
        clear hP hD
        obtain ⟨hP, hD⟩ := hPD
        subst h_27
        exact endW (u := [zzO qm 5 [.ref qmh, .ref qmo, .ref qmz, .ref qmR, .ref qmv, .ref qmk, .ref qma, .ref qmt, .int (nI kZ), .ref qmr, .int (nI (T_nb tA)), .ref qmB, .int (nI (T_np tA)), .ref qmO, .ref qmK, .int iEn, .int iTk, .int (T_sd tA), ov uP, ov uU, .int (nI kAt), .int iTo, .int iFr, .long JFi, .int iFa, .ref qm3, .int iSt, .int iLv, .int iWs, vLa, .ref qmu, .ref qmy, .ref qmb, .ref qms, .int iOm], zzI cy qmr 8 fX_29]) hx hb hr hlocks rfl (hP.sub [0, 1] rfl) (hD.sub [0, 1] (by decide +kernel) rfl) hS ⟨fX_29, rfl, (by rw [sp_longest, if_neg (fun q => h_11 q.2.2)])⟩ dX6_longest_42
    · refine lv_if_eq (tgt := 36) hx hb dX6_longest_21 (by decide) (fun _ => ?_) (fun h9 => absurd (by decide) h9)
      refine lv_aload_n hx hb dX6_longest_36 rfl (lv_at hl 0 rfl) ?_
      refine lv_bipush (v := (-2)) hx hb dX6_longest_37 (by decide) ?_
      refine cVi (As := [.int (-2)]) (rest := []) (b := qm) (q := (RX6, TX6, 35)) ⟨hx, hb, hml, hown, hts⟩ (c_X6_refuse2 l G cy (s.heap).size qm (.ref qmh) (.ref qmo) (.ref qmz) (.ref qmR) (.ref qmv) (.ref qmk) (.ref qma) (.ref qmt) (.int (nI kZ)) qmr tA qmB qmO qmK iEn iTk (ov uP) (ov uU) (.int (nI kAt)) (.int iTo) (.int iFr) (.long JFi) (.int iFa) (.ref qm3) (.int iSt) iLv iWs vLa (.ref qmu) (.ref qmy) (.ref qmb) (.ref qms) (.int iOm) fMr) L_X6_91 hN hP hD hS hA [0, 1] [false, false] rfl (by decide +kernel) rfl 0 5 rfl rfl rfl ⟨Nat.le_of_ble_eq_true rfl, Nat.le_of_ble_eq_true rfl⟩ hl.1 (Nat.le_of_ble_eq_true rfl) dX6_longest_39 ⟨Nat.le_of_ble_eq_true rfl, Nat.le_of_ble_eq_true rfl⟩ (fun r_31 u_33 H locs h_32 => ?_)
      clear hP hD hS
      intro hP hD hS
      obtain ⟨fX_34, rfl, h_32⟩ := h_32
      have hPD := pd_as [zzO qm 5 [.ref qmh, .ref qmo, .ref qmz, .ref qmR, .ref qmv, .ref qmk, .ref qma, .ref qmt, .int (nI kZ), .ref qmr, .int (nI (T_nb tA)), .ref qmB, .int (nI (T_np tA)), .ref qmO, .ref qmK, .int iEn, .int iTk, .int (T_sd tA), ov uP, ov uU, .int (nI kAt), .int iTo, .int iFr, .long JFi, .int iFa, .ref qm3, .int iSt, .int iLv, .int iWs, vLa, .ref qmu, .ref qmy, .ref qmb, .ref qms, .int iOm], zzI cy qmr 8 fX_34] hP hD rfl
      clear hP hD
      obtain ⟨hP, hD⟩ := hPD
      subst h_32
      exact endW (u := [zzO qm 5 [.ref qmh, .ref qmo, .ref qmz, .ref qmR, .ref qmv, .ref qmk, .ref qma, .ref qmt, .int (nI kZ), .ref qmr, .int (nI (T_nb tA)), .ref qmB, .int (nI (T_np tA)), .ref qmO, .ref qmK, .int iEn, .int iTk, .int (T_sd tA), ov uP, ov uU, .int (nI kAt), .int iTo, .int iFr, .long JFi, .int iFa, .ref qm3, .int iSt, .int iLv, .int iWs, vLa, .ref qmu, .ref qmy, .ref qmb, .ref qms, .int iOm], zzI cy qmr 8 fX_34]) hx hb hr hlocks rfl (hP.sub [0, 1] rfl) (hD.sub [0, 1] (by decide +kernel) rfl) hS ⟨fX_34, rfl, (by rw [sp_longest, if_neg (fun q => h_7 q.2.1)])⟩ dX6_longest_42
  · refine lv_if_eq (tgt := 36) hx hb dX6_longest_9 (by decide) (fun _ => ?_) (fun h9 => absurd (by decide) h9)
    refine lv_aload_n hx hb dX6_longest_36 rfl (lv_at hl 0 rfl) ?_
    refine lv_bipush (v := (-2)) hx hb dX6_longest_37 (by decide) ?_
    refine cVi (As := [.int (-2)]) (rest := []) (b := qm) (q := (RX6, TX6, 35)) ⟨hx, hb, hml, hown, hts⟩ (c_X6_refuse2 l G cy (s.heap).size qm (.ref qmh) (.ref qmo) (.ref qmz) (.ref qmR) (.ref qmv) (.ref qmk) (.ref qma) (.ref qmt) (.int (nI kZ)) qmr tA qmB qmO qmK iEn iTk (ov uP) (ov uU) (.int (nI kAt)) (.int iTo) (.int iFr) (.long JFi) (.int iFa) (.ref qm3) (.int iSt) iLv iWs vLa (.ref qmu) (.ref qmy) (.ref qmb) (.ref qms) (.int iOm) fMr) L_X6_91 hN hP hD hS hA [0, 1] [false, false] rfl (by decide +kernel) rfl 0 5 rfl rfl rfl ⟨Nat.le_of_ble_eq_true rfl, Nat.le_of_ble_eq_true rfl⟩ hl.1 (Nat.le_of_ble_eq_true rfl) dX6_longest_39 ⟨Nat.le_of_ble_eq_true rfl, Nat.le_of_ble_eq_true rfl⟩ (fun r_36 u_38 H locs h_37 => ?_)
    clear hP hD hS
    intro hP hD hS
    obtain ⟨fX_39, rfl, h_37⟩ := h_37
    have hPD := pd_as [zzO qm 5 [.ref qmh, .ref qmo, .ref qmz, .ref qmR, .ref qmv, .ref qmk, .ref qma, .ref qmt, .int (nI kZ), .ref qmr, .int (nI (T_nb tA)), .ref qmB, .int (nI (T_np tA)), .ref qmO, .ref qmK, .int iEn, .int iTk, .int (T_sd tA), ov uP, ov uU, .int (nI kAt), .int iTo, .int iFr, .long JFi, .int iFa, .ref qm3, .int iSt, .int iLv, .int iWs, vLa, .ref qmu, .ref qmy, .ref qmb, .ref qms, .int iOm], zzI cy qmr 8 fX_39] hP hD rfl
    clear hP hD
    obtain ⟨hP, hD⟩ := hPD
    subst h_37
    exact endW (u := [zzO qm 5 [.ref qmh, .ref qmo, .ref qmz, .ref qmR, .ref qmv, .ref qmk, .ref qma, .ref qmt, .int (nI kZ), .ref qmr, .int (nI (T_nb tA)), .ref qmB, .int (nI (T_np tA)), .ref qmO, .ref qmK, .int iEn, .int iTk, .int (T_sd tA), ov uP, ov uU, .int (nI kAt), .int iTo, .int iFr, .long JFi, .int iFa, .ref qm3, .int iSt, .int iLv, .int iWs, vLa, .ref qmu, .ref qmy, .ref qmb, .ref qms, .int iOm], zzI cy qmr 8 fX_39]) hx hb hr hlocks rfl (hP.sub [0, 1] rfl) (hD.sub [0, 1] (by decide +kernel) rfl) hS ⟨fX_39, rfl, (by rw [sp_longest, if_neg (fun q => h_3 q.1)])⟩ dX6_longest_42
set_option maxHeartbeats 4000000 in
set_option maxRecDepth 100000 in
theorem p_X6_hangs (l : Launch) (G : va_G) (cy : Nat → ClassId) (sz : Nat) (qm : Nat) (qmh : Nat) (qmo : Nat) (qmz : Nat) (qmR : Nat) (qmv : Nat) (qmk : Nat) (qma : Nat) (qmt : Nat) (kZ : Nat) (qmr : Nat) (tA : TA) (qmB : Nat) (qmO : Nat) (qmK : Nat) (iEn : Int32) (iTk : Int32) (uP : UM) (uU : UM) (kAt : Nat) (iTo : Int32) (iFr : Int32) (JFi : Int64) (iFa : Int32) (qm3 : Nat) (iSt : Int32) (iLv : Int32) (iWs : Int32) (vLa : Value) (qmu : Nat) (qmy : Nat) (qmb : Nat) (qms : Nat) (iOm : Int32) (fMr : Nat → Int32) (rB : Nat → Nat) (rO : Nat → Nat) (rK : Nat → Nat)  (hB : T_nb tA ≤ 8) (hPp : T_np tA ≤ 8) (hTI : TI tA) : MW l yX6_hangs cX6_hangs 6 (some .int) 16 0 0 G cy [zzO qm 5 [.ref qmh, .ref qmo, .ref qmz, .ref qmR, .ref qmv, .ref qmk, .ref qma, .ref qmt, .int (nI kZ), .ref qmr, .int (nI (T_nb tA)), .ref qmB, .int (nI (T_np tA)), .ref qmO, .ref qmK, .int iEn, .int iTk, .int (T_sd tA), ov uP, ov uU, .int (nI kAt), .int iTo, .int iFr, .long JFi, .int iFa, .ref qm3, .int iSt, .int iLv, .int iWs, vLa, .ref qmu, .ref qmy, .ref qmb, .ref qms, .int iOm], zzI cy qmr 8 fMr, zzG cy 3 qmB rB, zzI cy (rB 0) 4 (bkR tA 0), zzI cy (rB 1) 4 (bkR tA 1), zzI cy (rB 2) 4 (bkR tA 2), zzI cy (rB 3) 4 (bkR tA 3), zzI cy (rB 4) 4 (bkR tA 4), zzI cy (rB 5) 4 (bkR tA 5), zzI cy (rB 6) 4 (bkR tA 6), zzI cy (rB 7) 4 (bkR tA 7), zzG cy 3 qmO rO, zzI cy (rO 0) 5 (onR tA 0), zzI cy (rO 1) 5 (onR tA 1), zzI cy (rO 2) 5 (onR tA 2), zzI cy (rO 3) 5 (onR tA 3), zzI cy (rO 4) 5 (onR tA 4), zzI cy (rO 5) 5 (onR tA 5), zzI cy (rO 6) 5 (onR tA 6), zzI cy (rO 7) 5 (onR tA 7), zzG cy 3 qmK rK, zzI cy (rK 0) 8 (T_kn tA 0), zzI cy (rK 1) 8 (T_kn tA 1), zzI cy (rK 2) 8 (T_kn tA 2), zzI cy (rK 3) 8 (T_kn tA 3), zzI cy (rK 4) 8 (T_kn tA 4), zzI cy (rK 5) 8 (T_kn tA 5), zzI cy (rK 6) 8 (T_kn tA 6), zzI cy (rK 7) 8 (T_kn tA 7)] sz [.ref qm] (Wi G (fun r u => ∃ (fNr : Nat → Int32), u = [zzO qm 5 [.ref qmh, .ref qmo, .ref qmz, .ref qmR, .ref qmv, .ref qmk, .ref qma, .ref qmt, .int (nI kZ), .ref qmr, .int (nI (T_nb tA)), .ref qmB, .int (nI (T_np tA)), .ref qmO, .ref qmK, .int iEn, .int iTk, .int (T_sd tA), ov uP, ov uU, .int (nI kAt), .int iTo, .int iFr, .long JFi, .int iFa, .ref qm3, .int iSt, .int iLv, .int iWs, vLa, .ref qmu, .ref qmy, .ref qmb, .ref qms, .int iOm], zzI cy qmr 8 fNr, zzG cy 3 qmB rB, zzI cy (rB 0) 4 (bkR tA 0), zzI cy (rB 1) 4 (bkR tA 1), zzI cy (rB 2) 4 (bkR tA 2), zzI cy (rB 3) 4 (bkR tA 3), zzI cy (rB 4) 4 (bkR tA 4), zzI cy (rB 5) 4 (bkR tA 5), zzI cy (rB 6) 4 (bkR tA 6), zzI cy (rB 7) 4 (bkR tA 7), zzG cy 3 qmO rO, zzI cy (rO 0) 5 (onR tA 0), zzI cy (rO 1) 5 (onR tA 1), zzI cy (rO 2) 5 (onR tA 2), zzI cy (rO 3) 5 (onR tA 3), zzI cy (rO 4) 5 (onR tA 4), zzI cy (rO 5) 5 (onR tA 5), zzI cy (rO 6) 5 (onR tA 6), zzI cy (rO 7) 5 (onR tA 7), zzG cy 3 qmK rK, zzI cy (rK 0) 8 (T_kn tA 0), zzI cy (rK 1) 8 (T_kn tA 1), zzI cy (rK 2) 8 (T_kn tA 2), zzI cy (rK 3) 8 (T_kn tA 3), zzI cy (rK 4) 8 (T_kn tA 4), zzI cy (rK 5) 8 (T_kn tA 5), zzI cy (rK 6) 8 (T_kn tA 6), zzI cy (rK 7) 8 (T_kn tA 7)] ∧ (True))) := by
  refine enW RX6 (by decide) rfl (Nat.le_of_ble_eq_true rfl) (fun p e s m below meth c ls A hx hb hml hown hts hr hlocks hP hN hl hin hD hA hS => ?_)
  have hin : meth.name = _ := hin
  have hK := hN.1
  replace hl : lv_has ls 6 [(0, .ref qm)] := hl
  refine lv_iconst (v := (-1)) hx hb dX6_hangs_0 (by decide) ?_
  refine lv_istore_n (lv' := [(1, .int (-1)), (0, .ref qm)]) hx hb dX6_hangs_1 rfl hl (by decide) rfl (fun ls => ?_)
  clear hl
  intro hl
  refine lv_iconst (v := 0) hx hb dX6_hangs_2 (by decide) ?_
  refine lv_istore_n (lv' := [(2, .int 0), (1, .int (-1)), (0, .ref qm)]) hx hb dX6_hangs_3 rfl hl (by decide) rfl (fun ls => ?_)
  clear hl
  intro hl
  refine lv_iconst (v := 1) hx hb dX6_hangs_4 (by decide) ?_
  refine lv_aload_n hx hb dX6_hangs_5 rfl (lv_at hl 2 rfl) ?_
  refine va_get (D := G) (ci := 5) (v := .int (nI (T_np tA))) (C := RX6) (T := TX6) (N := 35) hx hb hts iX_X6 hown hK hP 0 rfl rfl 12 (by decide) (hts _ m_t862) (fun _ h9 => h9) rfl dX6_hangs_6 ?_
  refine lv_ishl hx hb dX6_hangs_9 ?_
  refine lv_iconst (v := 1) hx hb dX6_hangs_10 (by decide) ?_
  refine lv_isub hx hb dX6_hangs_11 ?_
  refine lv_istore_n (lv' := [(3, .int ((1 <<< ((nI (T_np tA)) &&& 31)) - 1)), (2, .int 0), (1, .int (-1)), (0, .ref qm)]) hx hb dX6_hangs_12 rfl hl (by decide) rfl (fun ls => ?_)
  clear hl
  intro hl
  refine lv_iconst (v := 0) hx hb dX6_hangs_13 (by decide) ?_
  refine lv_istore (lv' := [(4, .int 0), (3, .int ((1 <<< ((nI (T_np tA)) &&& 31)) - 1)), (2, .int 0), (1, .int (-1)), (0, .ref qm)]) hx hb dX6_hangs_14 hl (by decide) rfl (fun ls => ?_)
  clear hl
  intro hl
  have lp_1 : ∀ (n_2 : Nat) (j_4 : Nat) (x1_5 : Int32) (x2_6 : Int32), 8 - j_4 < n_2 → j_4 ≤ T_np tA → ∀ (H : Heap) (locs : List Loc) (ls : Array Slot), va_P G CL [zzO qm 5 [.ref qmh, .ref qmo, .ref qmz, .ref qmR, .ref qmv, .ref qmk, .ref qma, .ref qmt, .int (nI kZ), .ref qmr, .int (nI (T_nb tA)), .ref qmB, .int (nI (T_np tA)), .ref qmO, .ref qmK, .int iEn, .int iTk, .int (T_sd tA), ov uP, ov uU, .int (nI kAt), .int iTo, .int iFr, .long JFi, .int iFa, .ref qm3, .int iSt, .int iLv, .int iWs, vLa, .ref qmu, .ref qmy, .ref qmb, .ref qms, .int iOm], zzI cy qmr 8 fMr, zzG cy 3 qmB rB, zzI cy (rB 0) 4 (bkR tA 0), zzI cy (rB 1) 4 (bkR tA 1), zzI cy (rB 2) 4 (bkR tA 2), zzI cy (rB 3) 4 (bkR tA 3), zzI cy (rB 4) 4 (bkR tA 4), zzI cy (rB 5) 4 (bkR tA 5), zzI cy (rB 6) 4 (bkR tA 6), zzI cy (rB 7) 4 (bkR tA 7), zzG cy 3 qmO rO, zzI cy (rO 0) 5 (onR tA 0), zzI cy (rO 1) 5 (onR tA 1), zzI cy (rO 2) 5 (onR tA 2), zzI cy (rO 3) 5 (onR tA 3), zzI cy (rO 4) 5 (onR tA 4), zzI cy (rO 5) 5 (onR tA 5), zzI cy (rO 6) 5 (onR tA 6), zzI cy (rO 7) 5 (onR tA 7), zzG cy 3 qmK rK, zzI cy (rK 0) 8 (T_kn tA 0), zzI cy (rK 1) 8 (T_kn tA 1), zzI cy (rK 2) 8 (T_kn tA 2), zzI cy (rK 3) 8 (T_kn tA 3), zzI cy (rK 4) 8 (T_kn tA 4), zzI cy (rK 5) 8 (T_kn tA 5), zzI cy (rK 6) 8 (T_kn tA 6), zzI cy (rK 7) 8 (T_kn tA 7)] H → va_D A [zzO qm 5 [.ref qmh, .ref qmo, .ref qmz, .ref qmR, .ref qmv, .ref qmk, .ref qma, .ref qmt, .int (nI kZ), .ref qmr, .int (nI (T_nb tA)), .ref qmB, .int (nI (T_np tA)), .ref qmO, .ref qmK, .int iEn, .int iTk, .int (T_sd tA), ov uP, ov uU, .int (nI kAt), .int iTo, .int iFr, .long JFi, .int iFa, .ref qm3, .int iSt, .int iLv, .int iWs, vLa, .ref qmu, .ref qmy, .ref qmb, .ref qms, .int iOm], zzI cy qmr 8 fMr, zzG cy 3 qmB rB, zzI cy (rB 0) 4 (bkR tA 0), zzI cy (rB 1) 4 (bkR tA 1), zzI cy (rB 2) 4 (bkR tA 2), zzI cy (rB 3) 4 (bkR tA 3), zzI cy (rB 4) 4 (bkR tA 4), zzI cy (rB 5) 4 (bkR tA 5), zzI cy (rB 6) 4 (bkR tA 6), zzI cy (rB 7) 4 (bkR tA 7), zzG cy 3 qmO rO, zzI cy (rO 0) 5 (onR tA 0), zzI cy (rO 1) 5 (onR tA 1), zzI cy (rO 2) 5 (onR tA 2), zzI cy (rO 3) 5 (onR tA 3), zzI cy (rO 4) 5 (onR tA 4), zzI cy (rO 5) 5 (onR tA 5), zzI cy (rO 6) 5 (onR tA 6), zzI cy (rO 7) 5 (onR tA 7), zzG cy 3 qmK rK, zzI cy (rK 0) 8 (T_kn tA 0), zzI cy (rK 1) 8 (T_kn tA 1), zzI cy (rK 2) 8 (T_kn tA 2), zzI cy (rK 3) 8 (T_kn tA 3), zzI cy (rK 4) 8 (T_kn tA 4), zzI cy (rK 5) 8 (T_kn tA 5), zzI cy (rK 6) 8 (T_kn tA 6), zzI cy (rK 7) 8 (T_kn tA 7)] → va_S A s.heap H locs → lv_has ls 6 [(4, .int (nI j_4)), (3, .int ((1 <<< ((nI (T_np tA)) &&& 31)) - 1)), (2, .int x2_6), (1, .int x1_5), (0, .ref qm)] → W p l e (Rm 16 0 0) s m (List.toArray (α := Value) [.ref qm]) below meth c H locs 0 0 (MQ below ((Wi G (fun r u => ∃ (fNr : Nat → Int32), u = [zzO qm 5 [.ref qmh, .ref qmo, .ref qmz, .ref qmR, .ref qmv, .ref qmk, .ref qma, .ref qmt, .int (nI kZ), .ref qmr, .int (nI (T_nb tA)), .ref qmB, .int (nI (T_np tA)), .ref qmO, .ref qmK, .int iEn, .int iTk, .int (T_sd tA), ov uP, ov uU, .int (nI kAt), .int iTo, .int iFr, .long JFi, .int iFa, .ref qm3, .int iSt, .int iLv, .int iWs, vLa, .ref qmu, .ref qmy, .ref qmb, .ref qms, .int iOm], zzI cy qmr 8 fNr, zzG cy 3 qmB rB, zzI cy (rB 0) 4 (bkR tA 0), zzI cy (rB 1) 4 (bkR tA 1), zzI cy (rB 2) 4 (bkR tA 2), zzI cy (rB 3) 4 (bkR tA 3), zzI cy (rB 4) 4 (bkR tA 4), zzI cy (rB 5) 4 (bkR tA 5), zzI cy (rB 6) 4 (bkR tA 6), zzI cy (rB 7) 4 (bkR tA 7), zzG cy 3 qmO rO, zzI cy (rO 0) 5 (onR tA 0), zzI cy (rO 1) 5 (onR tA 1), zzI cy (rO 2) 5 (onR tA 2), zzI cy (rO 3) 5 (onR tA 3), zzI cy (rO 4) 5 (onR tA 4), zzI cy (rO 5) 5 (onR tA 5), zzI cy (rO 6) 5 (onR tA 6), zzI cy (rO 7) 5 (onR tA 7), zzG cy 3 qmK rK, zzI cy (rK 0) 8 (T_kn tA 0), zzI cy (rK 1) 8 (T_kn tA 1), zzI cy (rK 2) 8 (T_kn tA 2), zzI cy (rK 3) 8 (T_kn tA 3), zzI cy (rK 4) 8 (T_kn tA 4), zzI cy (rK 5) 8 (T_kn tA 5), zzI cy (rK 6) 8 (T_kn tA 6), zzI cy (rK 7) 8 (T_kn tA 7)] ∧ (True))) A) (List.toArray (α := Value) [.ref qm]) s 0 0 A) (F0 m 16 ls []) := by
    intro n_2
    induction n_2 with
    | zero => intro j_4 x1_5 x2_6 hm9; exact absurd hm9 (Nat.not_lt_zero _)
    | succ n_2 ih_3 =>
      intro j_4 x1_5 x2_6 hm_8 hj_7 H locs ls hP hD hS hl
      refine lv_iload hx hb dX6_hangs_16 (lv_at hl 0 rfl) ?_
      refine lv_aload_n hx hb dX6_hangs_18 rfl (lv_at hl 4 rfl) ?_
      refine va_get (D := G) (ci := 5) (v := .int (nI (T_np tA))) (C := RX6) (T := TX6) (N := 35) hx hb hts iX_X6 hown hK hP 0 rfl rfl 12 (by decide) (hts _ m_t862) (fun _ h9 => h9) rfl dX6_hangs_19 ?_
      refine lv_icmp_ge (tgt := 71) hx hb dX6_hangs_22 (by decide) (fun c_9 => ?_) (fun c_9 => ?_)
      · have hlt_10 : j_4 = T_np tA := Nat.le_antisymm (by omega) (lp_ge rfl rfl (by omega) (by omega) c_9)
        refine lv_iload_n hx hb dX6_hangs_71 rfl (lv_at hl 3 rfl) ?_
        refine lv_iconst (v := (-1)) hx hb dX6_hangs_72 (by decide) ?_
        refine lv_icmp_ne (tgt := 85) hx hb dX6_hangs_73 (by decide) (fun c_11 => ?_) (fun c_11 => ?_)
        · refine lv_iload_n hx hb dX6_hangs_85 rfl (lv_at hl 3 rfl) ?_
          exact endW (u := [zzO qm 5 [.ref qmh, .ref qmo, .ref qmz, .ref qmR, .ref qmv, .ref qmk, .ref qma, .ref qmt, .int (nI kZ), .ref qmr, .int (nI (T_nb tA)), .ref qmB, .int (nI (T_np tA)), .ref qmO, .ref qmK, .int iEn, .int iTk, .int (T_sd tA), ov uP, ov uU, .int (nI kAt), .int iTo, .int iFr, .long JFi, .int iFa, .ref qm3, .int iSt, .int iLv, .int iWs, vLa, .ref qmu, .ref qmy, .ref qmb, .ref qms, .int iOm], zzI cy qmr 8 fMr, zzG cy 3 qmB rB, zzI cy (rB 0) 4 (bkR tA 0), zzI cy (rB 1) 4 (bkR tA 1), zzI cy (rB 2) 4 (bkR tA 2), zzI cy (rB 3) 4 (bkR tA 3), zzI cy (rB 4) 4 (bkR tA 4), zzI cy (rB 5) 4 (bkR tA 5), zzI cy (rB 6) 4 (bkR tA 6), zzI cy (rB 7) 4 (bkR tA 7), zzG cy 3 qmO rO, zzI cy (rO 0) 5 (onR tA 0), zzI cy (rO 1) 5 (onR tA 1), zzI cy (rO 2) 5 (onR tA 2), zzI cy (rO 3) 5 (onR tA 3), zzI cy (rO 4) 5 (onR tA 4), zzI cy (rO 5) 5 (onR tA 5), zzI cy (rO 6) 5 (onR tA 6), zzI cy (rO 7) 5 (onR tA 7), zzG cy 3 qmK rK, zzI cy (rK 0) 8 (T_kn tA 0), zzI cy (rK 1) 8 (T_kn tA 1), zzI cy (rK 2) 8 (T_kn tA 2), zzI cy (rK 3) 8 (T_kn tA 3), zzI cy (rK 4) 8 (T_kn tA 4), zzI cy (rK 5) 8 (T_kn tA 5), zzI cy (rK 6) 8 (T_kn tA 6), zzI cy (rK 7) 8 (T_kn tA 7)]) hx hb hr hlocks rfl (hP.sub [0, 1, 2, 3, 4, 5, 6, 7, 8, 9, 10, 11, 12, 13, 14, 15, 16, 17, 18, 19, 20, 21, 22, 23, 24, 25, 26, 27, 28] rfl) (hD.sub [0, 1, 2, 3, 4, 5, 6, 7, 8, 9, 10, 11, 12, 13, 14, 15, 16, 17, 18, 19, 20, 21, 22, 23, 24, 25, 26, 27, 28] (by decide +kernel) rfl) hS ⟨fMr, rfl, trivial⟩ dX6_hangs_86
        · refine lv_aload_n hx hb dX6_hangs_76 rfl (lv_at hl 4 rfl) ?_
          refine lv_bipush (v := (-5)) hx hb dX6_hangs_77 (by decide) ?_
          refine cVi (As := [.int (-5)]) (rest := []) (b := qm) (q := (RX6, TX6, 35)) ⟨hx, hb, hml, hown, hts⟩ (c_X6_refuse5 l G cy (H).size qm (.ref qmh) (.ref qmo) (.ref qmz) (.ref qmR) (.ref qmv) (.ref qmk) (.ref qma) (.ref qmt) (.int (nI kZ)) qmr tA qmB qmO qmK iEn iTk (ov uP) (ov uU) (.int (nI kAt)) (.int iTo) (.int iFr) (.long JFi) (.int iFa) (.ref qm3) (.int iSt) iLv iWs vLa (.ref qmu) (.ref qmy) (.ref qmb) (.ref qms) (.int iOm) fMr) L_X6_91 hN hP hD hS hA [0, 1] [false, false, true, true, true, true, true, true, true, true, true, true, true, true, true, true, true, true, true, true, true, true, true, true, true, true, true, true, true] rfl (by decide +kernel) rfl 0 5 rfl rfl rfl ⟨Nat.le_of_ble_eq_true rfl, Nat.le_of_ble_eq_true rfl⟩ hl.1 (Nat.le_of_ble_eq_true rfl) dX6_hangs_79 ⟨Nat.le_of_ble_eq_true rfl, Nat.le_of_ble_eq_true rfl⟩ (fun r_12 u_14 H locs h_13 => ?_)
          clear hP hD hS
          intro hP hD hS
          obtain ⟨fX_15, rfl, h_13⟩ := h_13
          have hPD := pd_as [zzG cy 3 qmB rB, zzI cy (rB 0) 4 (bkR tA 0), zzI cy (rB 1) 4 (bkR tA 1), zzI cy (rB 2) 4 (bkR tA 2), zzI cy (rB 3) 4 (bkR tA 3), zzI cy (rB 4) 4 (bkR tA 4), zzI cy (rB 5) 4 (bkR tA 5), zzI cy (rB 6) 4 (bkR tA 6), zzI cy (rB 7) 4 (bkR tA 7), zzG cy 3 qmO rO, zzI cy (rO 0) 5 (onR tA 0), zzI cy (rO 1) 5 (onR tA 1), zzI cy (rO 2) 5 (onR tA 2), zzI cy (rO 3) 5 (onR tA 3), zzI cy (rO 4) 5 (onR tA 4), zzI cy (rO 5) 5 (onR tA 5), zzI cy (rO 6) 5 (onR tA 6), zzI cy (rO 7) 5 (onR tA 7), zzG cy 3 qmK rK, zzI cy (rK 0) 8 (T_kn tA 0), zzI cy (rK 1) 8 (T_kn tA 1), zzI cy (rK 2) 8 (T_kn tA 2), zzI cy (rK 3) 8 (T_kn tA 3), zzI cy (rK 4) 8 (T_kn tA 4), zzI cy (rK 5) 8 (T_kn tA 5), zzI cy (rK 6) 8 (T_kn tA 6), zzI cy (rK 7) 8 (T_kn tA 7), zzO qm 5 [.ref qmh, .ref qmo, .ref qmz, .ref qmR, .ref qmv, .ref qmk, .ref qma, .ref qmt, .int (nI kZ), .ref qmr, .int (nI (T_nb tA)), .ref qmB, .int (nI (T_np tA)), .ref qmO, .ref qmK, .int iEn, .int iTk, .int (T_sd tA), ov uP, ov uU, .int (nI kAt), .int iTo, .int iFr, .long JFi, .int iFa, .ref qm3, .int iSt, .int iLv, .int iWs, vLa, .ref qmu, .ref qmy, .ref qmb, .ref qms, .int iOm], zzI cy qmr 8 fX_15] hP hD rfl
          clear hP hD
          obtain ⟨hP, hD⟩ := hPD
          subst h_13
          refine lv_goto (tgt := 86) hx hb dX6_hangs_82 (by decide) ?_
          exact endW (u := [zzO qm 5 [.ref qmh, .ref qmo, .ref qmz, .ref qmR, .ref qmv, .ref qmk, .ref qma, .ref qmt, .int (nI kZ), .ref qmr, .int (nI (T_nb tA)), .ref qmB, .int (nI (T_np tA)), .ref qmO, .ref qmK, .int iEn, .int iTk, .int (T_sd tA), ov uP, ov uU, .int (nI kAt), .int iTo, .int iFr, .long JFi, .int iFa, .ref qm3, .int iSt, .int iLv, .int iWs, vLa, .ref qmu, .ref qmy, .ref qmb, .ref qms, .int iOm], zzI cy qmr 8 fX_15, zzG cy 3 qmB rB, zzI cy (rB 0) 4 (bkR tA 0), zzI cy (rB 1) 4 (bkR tA 1), zzI cy (rB 2) 4 (bkR tA 2), zzI cy (rB 3) 4 (bkR tA 3), zzI cy (rB 4) 4 (bkR tA 4), zzI cy (rB 5) 4 (bkR tA 5), zzI cy (rB 6) 4 (bkR tA 6), zzI cy (rB 7) 4 (bkR tA 7), zzG cy 3 qmO rO, zzI cy (rO 0) 5 (onR tA 0), zzI cy (rO 1) 5 (onR tA 1), zzI cy (rO 2) 5 (onR tA 2), zzI cy (rO 3) 5 (onR tA 3), zzI cy (rO 4) 5 (onR tA 4), zzI cy (rO 5) 5 (onR tA 5), zzI cy (rO 6) 5 (onR tA 6), zzI cy (rO 7) 5 (onR tA 7), zzG cy 3 qmK rK, zzI cy (rK 0) 8 (T_kn tA 0), zzI cy (rK 1) 8 (T_kn tA 1), zzI cy (rK 2) 8 (T_kn tA 2), zzI cy (rK 3) 8 (T_kn tA 3), zzI cy (rK 4) 8 (T_kn tA 4), zzI cy (rK 5) 8 (T_kn tA 5), zzI cy (rK 6) 8 (T_kn tA 6), zzI cy (rK 7) 8 (T_kn tA 7)]) hx hb hr hlocks rfl (hP.sub [27, 28, 0, 1, 2, 3, 4, 5, 6, 7, 8, 9, 10, 11, 12, 13, 14, 15, 16, 17, 18, 19, 20, 21, 22, 23, 24, 25, 26] rfl) (hD.sub [27, 28, 0, 1, 2, 3, 4, 5, 6, 7, 8, 9, 10, 11, 12, 13, 14, 15, 16, 17, 18, 19, 20, 21, 22, 23, 24, 25, 26] (by decide +kernel) rfl) hS ⟨fX_15, rfl, trivial⟩ dX6_hangs_86
      · have hlt_16 : j_4 < T_np tA := lp_lt rfl rfl (by omega) (by omega) c_9
        refine lv_aload_n hx hb dX6_hangs_25 rfl (lv_at hl 4 rfl) ?_
        refine lv_iload hx hb dX6_hangs_26 (lv_at hl 0 rfl) ?_
        refine kRi (rV (As := [.int (nI j_4)]) (rest := []) (b := qm) ⟨hx, hb, hml, hown, hts⟩ (c_X6_isThere l G cy qm (.ref qmh) (.ref qmo) (.ref qmz) (.ref qmR) (.ref qmv) (.ref qmk) (.ref qma) (.ref qmt) (.int (nI kZ)) (.ref qmr) tA qmB qmO qmK iEn iTk (ov uP) (ov uU) (.int (nI kAt)) (.int iTo) (.int iFr) (.long JFi) (.int iFa) (.ref qm3) (.int iSt) iLv iWs vLa (.ref qmu) (.ref qmy) (.ref qmb) (.ref qms) (.int iOm) rO j_4 (by first | omega | (simp only [nb_sr, np_sr, nb_wr, np_wr, nb_rd, np_rd, nb_ch, np_ch, nb_zr, np_zr, nb_za, np_za, nb_ey, np_ey, nb_hf, np_hf, nb_dd, np_dd, nb_so, np_so, nb_skn, np_skn, nb_swh, np_swh, nb_sgn, np_sgn, nb_ssd, np_ssd, nb_sgo, np_sgo, nb_sag, np_sag]; omega))) L_X6_81 (preRV (q := (RX6, TX6, 35)) hN hP [0, 11, 12, 13, 14, 15, 16, 17, 18, 19] rfl 0 5 rfl rfl) rfl ⟨Nat.le_of_ble_eq_true rfl, Nat.le_of_ble_eq_true rfl⟩ hl.1 (Nat.le_of_ble_eq_true rfl) dX6_hangs_28 ⟨Nat.le_of_ble_eq_true rfl, Nat.le_of_ble_eq_true rfl⟩) (fun r_17 h_18 => ?_)
        rcases h_18 with ⟨rfl, h_19⟩ | ⟨rfl, h_19⟩
        · refine lv_if_eq (tgt := 65) hx hb dX6_hangs_31 (by decide) (fun h9 => absurd h9 (by decide)) (fun _ => ?_)
          refine lv_aload_n hx hb dX6_hangs_34 rfl (lv_at hl 4 rfl) ?_
          refine lv_iload_n hx hb dX6_hangs_35 rfl (lv_at hl 1 rfl) ?_
          refine lv_iconst (v := 1) hx hb dX6_hangs_36 (by decide) ?_
          refine lv_iload hx hb dX6_hangs_37 (lv_at hl 0 rfl) ?_
          refine lv_ishl hx hb dX6_hangs_39 ?_
          refine lv_iconst (v := (-1)) hx hb dX6_hangs_40 (by decide) ?_
          refine lv_ixor hx hb dX6_hangs_41 ?_
          refine lv_iand hx hb dX6_hangs_42 ?_
          refine lv_topi (fun iS_21 eS_22 => ?_)
          refine kRi (rV (As := [.int iS_21]) (rest := []) (b := qm) ⟨hx, hb, hml, hown, hts⟩ (c_X6_valueOf l G cy qm (.ref qmh) (.ref qmo) (.ref qmz) (.ref qmR) (.ref qmv) (.ref qmk) (.ref qma) (.ref qmt) (.int (nI kZ)) (.ref qmr) tA qmB qmO qmK iEn iTk (ov uP) (ov uU) (.int (nI kAt)) (.int iTo) (.int iFr) (.long JFi) (.int iFa) (.ref qm3) (.int iSt) iLv iWs vLa (.ref qmu) (.ref qmy) (.ref qmb) (.ref qms) (.int iOm) rB rO rK iS_21 hB hPp) L_X6_266 (preRV (q := (RX6, TX6, 35)) hN hP [0, 2, 3, 4, 5, 6, 7, 8, 9, 10, 11, 12, 13, 14, 15, 16, 17, 18, 19, 20, 21, 22, 23, 24, 25, 26, 27, 28] rfl 0 5 rfl rfl) rfl ⟨Nat.le_of_ble_eq_true rfl, Nat.le_of_ble_eq_true rfl⟩ hl.1 (Nat.le_of_ble_eq_true rfl) dX6_hangs_43 ⟨Nat.le_of_ble_eq_true rfl, Nat.le_of_ble_eq_true rfl⟩) (fun r_23 h_24 => ?_)
          subst h_24
          refine lv_istore (lv' := [(5, .int (mvo tA iS_21)), (4, .int (nI j_4)), (3, .int ((1 <<< ((nI (T_np tA)) &&& 31)) - 1)), (2, .int x2_6), (1, .int x1_5), (0, .ref qm)]) hx hb dX6_hangs_46 hl (by decide) rfl (fun ls => ?_)
          clear hl
          intro hl
          refine lv_iload_n hx hb dX6_hangs_48 rfl (lv_at hl 4 rfl) ?_
          refine lv_iconst (v := (-1)) hx hb dX6_hangs_49 (by decide) ?_
          refine lv_icmp_eq (tgt := 59) hx hb dX6_hangs_50 (by decide) (fun c_25 => ?_) (fun c_25 => ?_)
          · refine lv_iload hx hb dX6_hangs_59 (lv_at hl 1 rfl) ?_
            refine lv_istore_n (lv' := [(1, .int (nI j_4)), (5, .int (mvo tA iS_21)), (4, .int (nI j_4)), (3, .int ((1 <<< ((nI (T_np tA)) &&& 31)) - 1)), (2, .int x2_6), (0, .ref qm)]) hx hb dX6_hangs_61 rfl hl (by decide) rfl (fun ls => ?_)
            clear hl
            intro hl
            refine lv_iload hx hb dX6_hangs_62 (lv_at hl 1 rfl) ?_
            refine lv_istore_n (lv' := [(2, .int (mvo tA iS_21)), (1, .int (nI j_4)), (5, .int (mvo tA iS_21)), (4, .int (nI j_4)), (3, .int ((1 <<< ((nI (T_np tA)) &&& 31)) - 1)), (0, .ref qm)]) hx hb dX6_hangs_64 rfl hl (by decide) rfl (fun ls => ?_)
            clear hl
            intro hl
            refine lv_iinc (v := nI (j_4 + 1)) (lv' := [(4, .int (nI (j_4 + 1))), (2, .int (mvo tA iS_21)), (1, .int (nI j_4)), (5, .int (mvo tA iS_21)), (3, .int ((1 <<< ((nI (T_np tA)) &&& 31)) - 1)), (0, .ref qm)]) hx hb dX6_hangs_65 hl (k := 3) rfl (nI_1 _) (by decide) rfl (fun ls => ?_)
            clear hl
            intro hl
            refine lv_goto (tgt := 16) hx hb dX6_hangs_68 (by decide) ?_
            exact ih_3 (j_4 + 1) (nI j_4) (mvo tA iS_21) (by omega) (by omega) _ _ _ hP hD hS (lv_sub hl [0, 4, 1, 2, 5] rfl)
          · refine lv_iload hx hb dX6_hangs_53 (lv_at hl 0 rfl) ?_
            refine lv_iload_n hx hb dX6_hangs_55 rfl (lv_at hl 3 rfl) ?_
            refine lv_icmp_ge (tgt := 65) hx hb dX6_hangs_56 (by decide) (fun c_26 => ?_) (fun c_26 => ?_)
            · refine lv_iinc (v := nI (j_4 + 1)) (lv' := [(4, .int (nI (j_4 + 1))), (5, .int (mvo tA iS_21)), (3, .int ((1 <<< ((nI (T_np tA)) &&& 31)) - 1)), (2, .int x2_6), (1, .int x1_5), (0, .ref qm)]) hx hb dX6_hangs_65 hl (k := 1) rfl (nI_1 _) (by decide) rfl (fun ls => ?_)
              clear hl
              intro hl
              refine lv_goto (tgt := 16) hx hb dX6_hangs_68 (by decide) ?_
              exact ih_3 (j_4 + 1) x1_5 x2_6 (by omega) (by omega) _ _ _ hP hD hS (lv_sub hl [0, 2, 3, 4, 5] rfl)
            · refine lv_iload hx hb dX6_hangs_59 (lv_at hl 1 rfl) ?_
              refine lv_istore_n (lv' := [(1, .int (nI j_4)), (5, .int (mvo tA iS_21)), (4, .int (nI j_4)), (3, .int ((1 <<< ((nI (T_np tA)) &&& 31)) - 1)), (2, .int x2_6), (0, .ref qm)]) hx hb dX6_hangs_61 rfl hl (by decide) rfl (fun ls => ?_)
              clear hl
              intro hl
              refine lv_iload hx hb dX6_hangs_62 (lv_at hl 1 rfl) ?_
              refine lv_istore_n (lv' := [(2, .int (mvo tA iS_21)), (1, .int (nI j_4)), (5, .int (mvo tA iS_21)), (4, .int (nI j_4)), (3, .int ((1 <<< ((nI (T_np tA)) &&& 31)) - 1)), (0, .ref qm)]) hx hb dX6_hangs_64 rfl hl (by decide) rfl (fun ls => ?_)
              clear hl
              intro hl
              refine lv_iinc (v := nI (j_4 + 1)) (lv' := [(4, .int (nI (j_4 + 1))), (2, .int (mvo tA iS_21)), (1, .int (nI j_4)), (5, .int (mvo tA iS_21)), (3, .int ((1 <<< ((nI (T_np tA)) &&& 31)) - 1)), (0, .ref qm)]) hx hb dX6_hangs_65 hl (k := 3) rfl (nI_1 _) (by decide) rfl (fun ls => ?_)
              clear hl
              intro hl
              refine lv_goto (tgt := 16) hx hb dX6_hangs_68 (by decide) ?_
              exact ih_3 (j_4 + 1) (nI j_4) (mvo tA iS_21) (by omega) (by omega) _ _ _ hP hD hS (lv_sub hl [0, 4, 1, 2, 5] rfl)
        · refine lv_if_eq (tgt := 65) hx hb dX6_hangs_31 (by decide) (fun _ => ?_) (fun h9 => absurd (by decide) h9)
          refine lv_iinc (v := nI (j_4 + 1)) (lv' := [(4, .int (nI (j_4 + 1))), (3, .int ((1 <<< ((nI (T_np tA)) &&& 31)) - 1)), (2, .int x2_6), (1, .int x1_5), (0, .ref qm)]) hx hb dX6_hangs_65 hl (k := 0) rfl (nI_1 _) (by decide) rfl (fun ls => ?_)
          clear hl
          intro hl
          refine lv_goto (tgt := 16) hx hb dX6_hangs_68 (by decide) ?_
          exact ih_3 (j_4 + 1) x1_5 x2_6 (by omega) (by omega) _ _ _ hP hD hS (lv_sub hl [0, 1, 2, 3, 4] rfl)
  exact lp_1 ((8 - 0) + 1) 0 (-1) 0 (Nat.lt_succ_self _) (Nat.zero_le _) _ _ ls hP hD hS (lv_sub hl [0, 1, 2, 3, 4] rfl)
set_option maxHeartbeats 4000000 in
set_option maxRecDepth 100000 in
theorem p_X6_lost (l : Launch) (G : va_G) (cy : Nat → ClassId) (sz : Nat) (qm : Nat) (qmh : Nat) (qmo : Nat) (qmz : Nat) (qmR : Nat) (qmv : Nat) (qmk : Nat) (qma : Nat) (qmt : Nat) (kZ : Nat) (qmr : Nat) (tA : TA) (qmB : Nat) (qmO : Nat) (qmK : Nat) (iEn : Int32) (iTk : Int32) (uP : UM) (uU : UM) (kAt : Nat) (iTo : Int32) (iFr : Int32) (JFi : Int64) (iFa : Int32) (qm3 : Nat) (iSt : Int32) (iLv : Int32) (iWs : Int32) (vLa : Value) (qmu : Nat) (qmy : Nat) (qmb : Nat) (qms : Nat) (iOm : Int32) (fMr : Nat → Int32) (rB : Nat → Nat) (rO : Nat → Nat) (rK : Nat → Nat) (iA : Int32)  (hB : T_nb tA ≤ 8) (hPp : T_np tA ≤ 8) (hTI : TI tA) : MW l yX6_lost cX6_lost 2 (some .int) 16 0 0 G cy [zzO qm 5 [.ref qmh, .ref qmo, .ref qmz, .ref qmR, .ref qmv, .ref qmk, .ref qma, .ref qmt, .int (nI kZ), .ref qmr, .int (nI (T_nb tA)), .ref qmB, .int (nI (T_np tA)), .ref qmO, .ref qmK, .int iEn, .int iTk, .int (T_sd tA), ov uP, ov uU, .int (nI kAt), .int iTo, .int iFr, .long JFi, .int iFa, .ref qm3, .int iSt, .int iLv, .int iWs, vLa, .ref qmu, .ref qmy, .ref qmb, .ref qms, .int iOm], zzI cy qmr 8 fMr, zzG cy 3 qmB rB, zzI cy (rB 0) 4 (bkR tA 0), zzI cy (rB 1) 4 (bkR tA 1), zzI cy (rB 2) 4 (bkR tA 2), zzI cy (rB 3) 4 (bkR tA 3), zzI cy (rB 4) 4 (bkR tA 4), zzI cy (rB 5) 4 (bkR tA 5), zzI cy (rB 6) 4 (bkR tA 6), zzI cy (rB 7) 4 (bkR tA 7), zzG cy 3 qmO rO, zzI cy (rO 0) 5 (onR tA 0), zzI cy (rO 1) 5 (onR tA 1), zzI cy (rO 2) 5 (onR tA 2), zzI cy (rO 3) 5 (onR tA 3), zzI cy (rO 4) 5 (onR tA 4), zzI cy (rO 5) 5 (onR tA 5), zzI cy (rO 6) 5 (onR tA 6), zzI cy (rO 7) 5 (onR tA 7), zzG cy 3 qmK rK, zzI cy (rK 0) 8 (T_kn tA 0), zzI cy (rK 1) 8 (T_kn tA 1), zzI cy (rK 2) 8 (T_kn tA 2), zzI cy (rK 3) 8 (T_kn tA 3), zzI cy (rK 4) 8 (T_kn tA 4), zzI cy (rK 5) 8 (T_kn tA 5), zzI cy (rK 6) 8 (T_kn tA 6), zzI cy (rK 7) 8 (T_kn tA 7)] sz [.ref qm, .int iA] (Wi G (fun r u => ∃ (fNr : Nat → Int32), u = [zzO qm 5 [.ref qmh, .ref qmo, .ref qmz, .ref qmR, .ref qmv, .ref qmk, .ref qma, .ref qmt, .int (nI kZ), .ref qmr, .int (nI (T_nb tA)), .ref qmB, .int (nI (T_np tA)), .ref qmO, .ref qmK, .int iEn, .int iTk, .int (T_sd tA), ov uP, ov uU, .int (nI kAt), .int iTo, .int iFr, .long JFi, .int iFa, .ref qm3, .int iSt, .int iLv, .int iWs, vLa, .ref qmu, .ref qmy, .ref qmb, .ref qms, .int iOm], zzI cy qmr 8 fNr, zzG cy 3 qmB rB, zzI cy (rB 0) 4 (bkR tA 0), zzI cy (rB 1) 4 (bkR tA 1), zzI cy (rB 2) 4 (bkR tA 2), zzI cy (rB 3) 4 (bkR tA 3), zzI cy (rB 4) 4 (bkR tA 4), zzI cy (rB 5) 4 (bkR tA 5), zzI cy (rB 6) 4 (bkR tA 6), zzI cy (rB 7) 4 (bkR tA 7), zzG cy 3 qmO rO, zzI cy (rO 0) 5 (onR tA 0), zzI cy (rO 1) 5 (onR tA 1), zzI cy (rO 2) 5 (onR tA 2), zzI cy (rO 3) 5 (onR tA 3), zzI cy (rO 4) 5 (onR tA 4), zzI cy (rO 5) 5 (onR tA 5), zzI cy (rO 6) 5 (onR tA 6), zzI cy (rO 7) 5 (onR tA 7), zzG cy 3 qmK rK, zzI cy (rK 0) 8 (T_kn tA 0), zzI cy (rK 1) 8 (T_kn tA 1), zzI cy (rK 2) 8 (T_kn tA 2), zzI cy (rK 3) 8 (T_kn tA 3), zzI cy (rK 4) 8 (T_kn tA 4), zzI cy (rK 5) 8 (T_kn tA 5), zzI cy (rK 6) 8 (T_kn tA 6), zzI cy (rK 7) 8 (T_kn tA 7)] ∧ (True))) := by
  refine enW RX6 (by decide) rfl (Nat.le_of_ble_eq_true rfl) (fun p e s m below meth c ls A hx hb hml hown hts hr hlocks hP hN hl hin hD hA hS => ?_)
  have hin : meth.name = _ := hin
  have hK := hN.1
  replace hl : lv_has ls 2 [(0, .ref qm), (1, .int iA)] := hl
  refine lv_iload_n hx hb dX6_lost_0 rfl (lv_at hl 1 rfl) ?_
  refine lv_i2l (v := iA.toInt64) hx hb dX6_lost_1 rfl ?_
  refine lv_lconst (v := 1) hx hb dX6_lost_2 (by decide) ?_
  refine lv_ldc2 hx hb hown (hts _ m_t1199) dX6_lost_3 ?_
  refine kRi (rS (As := [.long iA.toInt64, .long 1, .long 1000]) (rest := []) ⟨hx, hb, hml, hown, hts⟩ (c_X6_in l G cy iA.toInt64 1 1000) L_X6_74 (preRS hN hP [] rfl) rfl ⟨Nat.le_of_ble_eq_true rfl, Nat.le_of_ble_eq_true rfl⟩ hl.1 (Nat.le_of_ble_eq_true rfl) dX6_lost_6 ⟨Nat.le_of_ble_eq_true rfl, Nat.le_of_ble_eq_true rfl⟩) (fun r_1 h_2 => ?_)
  rcases h_2 with ⟨rfl, h_3⟩ | ⟨rfl, h_3⟩
  · obtain ⟨k_4, hk_5, hk_6, rfl⟩ := iv_nI 1 1000 (by decide) (by decide) h_3
    refine lv_if_eq (tgt := 28) hx hb dX6_lost_9 (by decide) (fun h9 => absurd h9 (by decide)) (fun _ => ?_)
    refine lv_aload_n hx hb dX6_lost_12 rfl (lv_at hl 0 rfl) ?_
    refine lv_iload_n hx hb dX6_lost_13 rfl (lv_at hl 1 rfl) ?_
    refine lv_iconst (v := 1) hx hb dX6_lost_14 (by decide) ?_
    refine lv_aload_n hx hb dX6_lost_15 rfl (lv_at hl 0 rfl) ?_
    refine va_get (D := G) (ci := 5) (v := .int (nI (T_np tA))) (C := RX6) (T := TX6) (N := 35) hx hb hts iX_X6 hown hK hP 0 rfl rfl 12 (by decide) (hts _ m_t862) (fun _ h9 => h9) rfl dX6_lost_16 ?_
    refine lv_ishl hx hb dX6_lost_19 ?_
    refine lv_iconst (v := 1) hx hb dX6_lost_20 (by decide) ?_
    refine lv_isub hx hb dX6_lost_21 ?_
    refine kRi (rV (As := [.int (nI k_4), .int ((1 <<< ((nI (T_np tA)) &&& 31)) - 1)]) (rest := []) (b := qm) ⟨hx, hb, hml, hown, hts⟩ (c_X6_lostBy l G cy qm (.ref qmh) (.ref qmo) (.ref qmz) (.ref qmR) (.ref qmv) (.ref qmk) (.ref qma) (.ref qmt) (.int (nI kZ)) (.ref qmr) tA qmB qmO qmK iEn iTk (ov uP) (ov uU) (.int (nI kAt)) (.int iTo) (.int iFr) (.long JFi) (.int iFa) (.ref qm3) (.int iSt) iLv iWs vLa (.ref qmu) (.ref qmy) (.ref qmb) (.ref qms) (.int iOm) rB rO rK (nI k_4) ((1 <<< ((nI (T_np tA)) &&& 31)) - 1) hB hPp) L_X6_335 (preRV (q := (RX6, TX6, 35)) hN hP [0, 2, 3, 4, 5, 6, 7, 8, 9, 10, 11, 12, 13, 14, 15, 16, 17, 18, 19, 20, 21, 22, 23, 24, 25, 26, 27, 28] rfl 0 5 rfl rfl) rfl ⟨Nat.le_of_ble_eq_true rfl, Nat.le_of_ble_eq_true rfl⟩ hl.1 (Nat.le_of_ble_eq_true rfl) dX6_lost_22 ⟨Nat.le_of_ble_eq_true rfl, Nat.le_of_ble_eq_true rfl⟩) (fun r_8 h_9 => ?_)
    refine lv_goto (tgt := 34) hx hb dX6_lost_25 (by decide) ?_
    exact endW (u := [zzO qm 5 [.ref qmh, .ref qmo, .ref qmz, .ref qmR, .ref qmv, .ref qmk, .ref qma, .ref qmt, .int (nI kZ), .ref qmr, .int (nI (T_nb tA)), .ref qmB, .int (nI (T_np tA)), .ref qmO, .ref qmK, .int iEn, .int iTk, .int (T_sd tA), ov uP, ov uU, .int (nI kAt), .int iTo, .int iFr, .long JFi, .int iFa, .ref qm3, .int iSt, .int iLv, .int iWs, vLa, .ref qmu, .ref qmy, .ref qmb, .ref qms, .int iOm], zzI cy qmr 8 fMr, zzG cy 3 qmB rB, zzI cy (rB 0) 4 (bkR tA 0), zzI cy (rB 1) 4 (bkR tA 1), zzI cy (rB 2) 4 (bkR tA 2), zzI cy (rB 3) 4 (bkR tA 3), zzI cy (rB 4) 4 (bkR tA 4), zzI cy (rB 5) 4 (bkR tA 5), zzI cy (rB 6) 4 (bkR tA 6), zzI cy (rB 7) 4 (bkR tA 7), zzG cy 3 qmO rO, zzI cy (rO 0) 5 (onR tA 0), zzI cy (rO 1) 5 (onR tA 1), zzI cy (rO 2) 5 (onR tA 2), zzI cy (rO 3) 5 (onR tA 3), zzI cy (rO 4) 5 (onR tA 4), zzI cy (rO 5) 5 (onR tA 5), zzI cy (rO 6) 5 (onR tA 6), zzI cy (rO 7) 5 (onR tA 7), zzG cy 3 qmK rK, zzI cy (rK 0) 8 (T_kn tA 0), zzI cy (rK 1) 8 (T_kn tA 1), zzI cy (rK 2) 8 (T_kn tA 2), zzI cy (rK 3) 8 (T_kn tA 3), zzI cy (rK 4) 8 (T_kn tA 4), zzI cy (rK 5) 8 (T_kn tA 5), zzI cy (rK 6) 8 (T_kn tA 6), zzI cy (rK 7) 8 (T_kn tA 7)]) hx hb hr hlocks rfl (hP.sub [0, 1, 2, 3, 4, 5, 6, 7, 8, 9, 10, 11, 12, 13, 14, 15, 16, 17, 18, 19, 20, 21, 22, 23, 24, 25, 26, 27, 28] rfl) (hD.sub [0, 1, 2, 3, 4, 5, 6, 7, 8, 9, 10, 11, 12, 13, 14, 15, 16, 17, 18, 19, 20, 21, 22, 23, 24, 25, 26, 27, 28] (by decide +kernel) rfl) hS ⟨fMr, rfl, trivial⟩ dX6_lost_34
  · refine lv_if_eq (tgt := 28) hx hb dX6_lost_9 (by decide) (fun _ => ?_) (fun h9 => absurd (by decide) h9)
    refine lv_aload_n hx hb dX6_lost_28 rfl (lv_at hl 0 rfl) ?_
    refine lv_bipush (v := (-2)) hx hb dX6_lost_29 (by decide) ?_
    refine cVi (As := [.int (-2)]) (rest := []) (b := qm) (q := (RX6, TX6, 35)) ⟨hx, hb, hml, hown, hts⟩ (c_X6_refuse2 l G cy (s.heap).size qm (.ref qmh) (.ref qmo) (.ref qmz) (.ref qmR) (.ref qmv) (.ref qmk) (.ref qma) (.ref qmt) (.int (nI kZ)) qmr tA qmB qmO qmK iEn iTk (ov uP) (ov uU) (.int (nI kAt)) (.int iTo) (.int iFr) (.long JFi) (.int iFa) (.ref qm3) (.int iSt) iLv iWs vLa (.ref qmu) (.ref qmy) (.ref qmb) (.ref qms) (.int iOm) fMr) L_X6_91 hN hP hD hS hA [0, 1] [false, false, true, true, true, true, true, true, true, true, true, true, true, true, true, true, true, true, true, true, true, true, true, true, true, true, true, true, true] rfl (by decide +kernel) rfl 0 5 rfl rfl rfl ⟨Nat.le_of_ble_eq_true rfl, Nat.le_of_ble_eq_true rfl⟩ hl.1 (Nat.le_of_ble_eq_true rfl) dX6_lost_31 ⟨Nat.le_of_ble_eq_true rfl, Nat.le_of_ble_eq_true rfl⟩ (fun r_11 u_13 H locs h_12 => ?_)
    clear hP hD hS
    intro hP hD hS
    obtain ⟨fX_14, rfl, h_12⟩ := h_12
    have hPD := pd_as [zzG cy 3 qmB rB, zzI cy (rB 0) 4 (bkR tA 0), zzI cy (rB 1) 4 (bkR tA 1), zzI cy (rB 2) 4 (bkR tA 2), zzI cy (rB 3) 4 (bkR tA 3), zzI cy (rB 4) 4 (bkR tA 4), zzI cy (rB 5) 4 (bkR tA 5), zzI cy (rB 6) 4 (bkR tA 6), zzI cy (rB 7) 4 (bkR tA 7), zzG cy 3 qmO rO, zzI cy (rO 0) 5 (onR tA 0), zzI cy (rO 1) 5 (onR tA 1), zzI cy (rO 2) 5 (onR tA 2), zzI cy (rO 3) 5 (onR tA 3), zzI cy (rO 4) 5 (onR tA 4), zzI cy (rO 5) 5 (onR tA 5), zzI cy (rO 6) 5 (onR tA 6), zzI cy (rO 7) 5 (onR tA 7), zzG cy 3 qmK rK, zzI cy (rK 0) 8 (T_kn tA 0), zzI cy (rK 1) 8 (T_kn tA 1), zzI cy (rK 2) 8 (T_kn tA 2), zzI cy (rK 3) 8 (T_kn tA 3), zzI cy (rK 4) 8 (T_kn tA 4), zzI cy (rK 5) 8 (T_kn tA 5), zzI cy (rK 6) 8 (T_kn tA 6), zzI cy (rK 7) 8 (T_kn tA 7), zzO qm 5 [.ref qmh, .ref qmo, .ref qmz, .ref qmR, .ref qmv, .ref qmk, .ref qma, .ref qmt, .int (nI kZ), .ref qmr, .int (nI (T_nb tA)), .ref qmB, .int (nI (T_np tA)), .ref qmO, .ref qmK, .int iEn, .int iTk, .int (T_sd tA), ov uP, ov uU, .int (nI kAt), .int iTo, .int iFr, .long JFi, .int iFa, .ref qm3, .int iSt, .int iLv, .int iWs, vLa, .ref qmu, .ref qmy, .ref qmb, .ref qms, .int iOm], zzI cy qmr 8 fX_14] hP hD rfl
    clear hP hD
    obtain ⟨hP, hD⟩ := hPD
    subst h_12
    exact endW (u := [zzO qm 5 [.ref qmh, .ref qmo, .ref qmz, .ref qmR, .ref qmv, .ref qmk, .ref qma, .ref qmt, .int (nI kZ), .ref qmr, .int (nI (T_nb tA)), .ref qmB, .int (nI (T_np tA)), .ref qmO, .ref qmK, .int iEn, .int iTk, .int (T_sd tA), ov uP, ov uU, .int (nI kAt), .int iTo, .int iFr, .long JFi, .int iFa, .ref qm3, .int iSt, .int iLv, .int iWs, vLa, .ref qmu, .ref qmy, .ref qmb, .ref qms, .int iOm], zzI cy qmr 8 fX_14, zzG cy 3 qmB rB, zzI cy (rB 0) 4 (bkR tA 0), zzI cy (rB 1) 4 (bkR tA 1), zzI cy (rB 2) 4 (bkR tA 2), zzI cy (rB 3) 4 (bkR tA 3), zzI cy (rB 4) 4 (bkR tA 4), zzI cy (rB 5) 4 (bkR tA 5), zzI cy (rB 6) 4 (bkR tA 6), zzI cy (rB 7) 4 (bkR tA 7), zzG cy 3 qmO rO, zzI cy (rO 0) 5 (onR tA 0), zzI cy (rO 1) 5 (onR tA 1), zzI cy (rO 2) 5 (onR tA 2), zzI cy (rO 3) 5 (onR tA 3), zzI cy (rO 4) 5 (onR tA 4), zzI cy (rO 5) 5 (onR tA 5), zzI cy (rO 6) 5 (onR tA 6), zzI cy (rO 7) 5 (onR tA 7), zzG cy 3 qmK rK, zzI cy (rK 0) 8 (T_kn tA 0), zzI cy (rK 1) 8 (T_kn tA 1), zzI cy (rK 2) 8 (T_kn tA 2), zzI cy (rK 3) 8 (T_kn tA 3), zzI cy (rK 4) 8 (T_kn tA 4), zzI cy (rK 5) 8 (T_kn tA 5), zzI cy (rK 6) 8 (T_kn tA 6), zzI cy (rK 7) 8 (T_kn tA 7)]) hx hb hr hlocks rfl (hP.sub [27, 28, 0, 1, 2, 3, 4, 5, 6, 7, 8, 9, 10, 11, 12, 13, 14, 15, 16, 17, 18, 19, 20, 21, 22, 23, 24, 25, 26] rfl) (hD.sub [27, 28, 0, 1, 2, 3, 4, 5, 6, 7, 8, 9, 10, 11, 12, 13, 14, 15, 16, 17, 18, 19, 20, 21, 22, 23, 24, 25, 26] (by decide +kernel) rfl) hS ⟨fX_14, rfl, trivial⟩ dX6_lost_34
set_option maxHeartbeats 4000000 in
set_option maxRecDepth 100000 in
theorem p_X6_bear (l : Launch) (G : va_G) (cy : Nat → ClassId) (sz : Nat) (qm : Nat) (qmh : Nat) (qmo : Nat) (qmz : Nat) (qmR : Nat) (qmv : Nat) (qmk : Nat) (qma : Nat) (qmt : Nat) (kZ : Nat) (qmr : Nat) (tA : TA) (qmB : Nat) (qmO : Nat) (qmK : Nat) (iEn : Int32) (iTk : Int32) (uP : UM) (uU : UM) (kAt : Nat) (iTo : Int32) (iFr : Int32) (JFi : Int64) (iFa : Int32) (qm3 : Nat) (iSt : Int32) (iLv : Int32) (iWs : Int32) (vLa : Value) (qmu : Nat) (qmy : Nat) (qmb : Nat) (qms : Nat) (iOm : Int32) (fMr : Nat → Int32) (rB : Nat → Nat) (rO : Nat → Nat) (rK : Nat → Nat) (iA : Int32)  (hB : T_nb tA ≤ 8) (hPp : T_np tA ≤ 8) (hTI : TI tA) : MW l yX6_bear cX6_bear 5 (some .int) 16 0 0 G cy [zzO qm 5 [.ref qmh, .ref qmo, .ref qmz, .ref qmR, .ref qmv, .ref qmk, .ref qma, .ref qmt, .int (nI kZ), .ref qmr, .int (nI (T_nb tA)), .ref qmB, .int (nI (T_np tA)), .ref qmO, .ref qmK, .int iEn, .int iTk, .int (T_sd tA), ov uP, ov uU, .int (nI kAt), .int iTo, .int iFr, .long JFi, .int iFa, .ref qm3, .int iSt, .int iLv, .int iWs, vLa, .ref qmu, .ref qmy, .ref qmb, .ref qms, .int iOm], zzI cy qmr 8 fMr, zzG cy 3 qmB rB, zzI cy (rB 0) 4 (bkR tA 0), zzI cy (rB 1) 4 (bkR tA 1), zzI cy (rB 2) 4 (bkR tA 2), zzI cy (rB 3) 4 (bkR tA 3), zzI cy (rB 4) 4 (bkR tA 4), zzI cy (rB 5) 4 (bkR tA 5), zzI cy (rB 6) 4 (bkR tA 6), zzI cy (rB 7) 4 (bkR tA 7), zzG cy 3 qmO rO, zzI cy (rO 0) 5 (onR tA 0), zzI cy (rO 1) 5 (onR tA 1), zzI cy (rO 2) 5 (onR tA 2), zzI cy (rO 3) 5 (onR tA 3), zzI cy (rO 4) 5 (onR tA 4), zzI cy (rO 5) 5 (onR tA 5), zzI cy (rO 6) 5 (onR tA 6), zzI cy (rO 7) 5 (onR tA 7), zzG cy 3 qmK rK, zzI cy (rK 0) 8 (T_kn tA 0), zzI cy (rK 1) 8 (T_kn tA 1), zzI cy (rK 2) 8 (T_kn tA 2), zzI cy (rK 3) 8 (T_kn tA 3), zzI cy (rK 4) 8 (T_kn tA 4), zzI cy (rK 5) 8 (T_kn tA 5), zzI cy (rK 6) 8 (T_kn tA 6), zzI cy (rK 7) 8 (T_kn tA 7)] sz [.ref qm, .int iA] (Wi G (fun r u => ∃ (fNr : Nat → Int32), u = [zzO qm 5 [.ref qmh, .ref qmo, .ref qmz, .ref qmR, .ref qmv, .ref qmk, .ref qma, .ref qmt, .int (nI kZ), .ref qmr, .int (nI (T_nb tA)), .ref qmB, .int (nI (T_np tA)), .ref qmO, .ref qmK, .int iEn, .int iTk, .int (T_sd tA), ov uP, ov uU, .int (nI kAt), .int iTo, .int iFr, .long JFi, .int iFa, .ref qm3, .int iSt, .int iLv, .int iWs, vLa, .ref qmu, .ref qmy, .ref qmb, .ref qms, .int iOm], zzI cy qmr 8 fNr, zzG cy 3 qmB rB, zzI cy (rB 0) 4 (bkR tA 0), zzI cy (rB 1) 4 (bkR tA 1), zzI cy (rB 2) 4 (bkR tA 2), zzI cy (rB 3) 4 (bkR tA 3), zzI cy (rB 4) 4 (bkR tA 4), zzI cy (rB 5) 4 (bkR tA 5), zzI cy (rB 6) 4 (bkR tA 6), zzI cy (rB 7) 4 (bkR tA 7), zzG cy 3 qmO rO, zzI cy (rO 0) 5 (onR tA 0), zzI cy (rO 1) 5 (onR tA 1), zzI cy (rO 2) 5 (onR tA 2), zzI cy (rO 3) 5 (onR tA 3), zzI cy (rO 4) 5 (onR tA 4), zzI cy (rO 5) 5 (onR tA 5), zzI cy (rO 6) 5 (onR tA 6), zzI cy (rO 7) 5 (onR tA 7), zzG cy 3 qmK rK, zzI cy (rK 0) 8 (T_kn tA 0), zzI cy (rK 1) 8 (T_kn tA 1), zzI cy (rK 2) 8 (T_kn tA 2), zzI cy (rK 3) 8 (T_kn tA 3), zzI cy (rK 4) 8 (T_kn tA 4), zzI cy (rK 5) 8 (T_kn tA 5), zzI cy (rK 6) 8 (T_kn tA 6), zzI cy (rK 7) 8 (T_kn tA 7)] ∧ (True))) := by
  refine enW RX6 (by decide) rfl (Nat.le_of_ble_eq_true rfl) (fun p e s m below meth c ls A hx hb hml hown hts hr hlocks hP hN hl hin hD hA hS => ?_)
  have hin : meth.name = _ := hin
  have hK := hN.1
  replace hl : lv_has ls 5 [(0, .ref qm), (1, .int iA)] := hl
  refine lv_iload_n hx hb dX6_bear_0 rfl (lv_at hl 1 rfl) ?_
  refine lv_i2l (v := iA.toInt64) hx hb dX6_bear_1 rfl ?_
  refine lv_lconst (v := 1) hx hb dX6_bear_2 (by decide) ?_
  refine lv_ldc2 hx hb hown (hts _ m_t1199) dX6_bear_3 ?_
  refine kRi (rS (As := [.long iA.toInt64, .long 1, .long 1000]) (rest := []) ⟨hx, hb, hml, hown, hts⟩ (c_X6_in l G cy iA.toInt64 1 1000) L_X6_74 (preRS hN hP [] rfl) rfl ⟨Nat.le_of_ble_eq_true rfl, Nat.le_of_ble_eq_true rfl⟩ hl.1 (Nat.le_of_ble_eq_true rfl) dX6_bear_6 ⟨Nat.le_of_ble_eq_true rfl, Nat.le_of_ble_eq_true rfl⟩) (fun r_1 h_2 => ?_)
  rcases h_2 with ⟨rfl, h_3⟩ | ⟨rfl, h_3⟩
  · refine lv_if_ne (tgt := 19) hx hb dX6_bear_9 (by decide) (fun _ => ?_) (fun h9 => absurd h9 (by decide))
    refine lv_iconst (v := 1) hx hb dX6_bear_19 (by decide) ?_
    refine lv_aload_n hx hb dX6_bear_20 rfl (lv_at hl 0 rfl) ?_
    refine va_get (D := G) (ci := 5) (v := .int (nI (T_np tA))) (C := RX6) (T := TX6) (N := 35) hx hb hts iX_X6 hown hK hP 0 rfl rfl 12 (by decide) (hts _ m_t862) (fun _ h9 => h9) rfl dX6_bear_21 ?_
    refine lv_ishl hx hb dX6_bear_24 ?_
    refine lv_iconst (v := 1) hx hb dX6_bear_25 (by decide) ?_
    refine lv_isub hx hb dX6_bear_26 ?_
    refine lv_istore_n (lv' := [(2, .int ((1 <<< ((nI (T_np tA)) &&& 31)) - 1)), (0, .ref qm), (1, .int iA)]) hx hb dX6_bear_27 rfl hl (by decide) rfl (fun ls => ?_)
    clear hl
    intro hl
    refine lv_iload_n hx hb dX6_bear_28 rfl (lv_at hl 0 rfl) ?_
    refine lv_istore_n (lv' := [(3, .int ((1 <<< ((nI (T_np tA)) &&& 31)) - 1)), (2, .int ((1 <<< ((nI (T_np tA)) &&& 31)) - 1)), (0, .ref qm), (1, .int iA)]) hx hb dX6_bear_29 rfl hl (by decide) rfl (fun ls => ?_)
    clear hl
    intro hl
    refine lv_iload_n hx hb dX6_bear_30 rfl (lv_at hl 1 rfl) ?_
    refine lv_istore (lv' := [(4, .int ((1 <<< ((nI (T_np tA)) &&& 31)) - 1)), (3, .int ((1 <<< ((nI (T_np tA)) &&& 31)) - 1)), (2, .int ((1 <<< ((nI (T_np tA)) &&& 31)) - 1)), (0, .ref qm), (1, .int iA)]) hx hb dX6_bear_31 hl (by decide) rfl (fun ls => ?_)
    clear hl
    intro hl
    rw [sh_pow (n := T_np tA) (by omega)] at hl
    have lp_5 : ∀ (n_6 : Nat) (j_8 : Nat) (x3_9 : Int32), j_8 < n_6 → j_8 ≤ 256 → ∀ (H : Heap) (locs : List Loc) (ls : Array Slot), va_P G CL [zzO qm 5 [.ref qmh, .ref qmo, .ref qmz, .ref qmR, .ref qmv, .ref qmk, .ref qma, .ref qmt, .int (nI kZ), .ref qmr, .int (nI (T_nb tA)), .ref qmB, .int (nI (T_np tA)), .ref qmO, .ref qmK, .int iEn, .int iTk, .int (T_sd tA), ov uP, ov uU, .int (nI kAt), .int iTo, .int iFr, .long JFi, .int iFa, .ref qm3, .int iSt, .int iLv, .int iWs, vLa, .ref qmu, .ref qmy, .ref qmb, .ref qms, .int iOm], zzI cy qmr 8 fMr, zzG cy 3 qmB rB, zzI cy (rB 0) 4 (bkR tA 0), zzI cy (rB 1) 4 (bkR tA 1), zzI cy (rB 2) 4 (bkR tA 2), zzI cy (rB 3) 4 (bkR tA 3), zzI cy (rB 4) 4 (bkR tA 4), zzI cy (rB 5) 4 (bkR tA 5), zzI cy (rB 6) 4 (bkR tA 6), zzI cy (rB 7) 4 (bkR tA 7), zzG cy 3 qmO rO, zzI cy (rO 0) 5 (onR tA 0), zzI cy (rO 1) 5 (onR tA 1), zzI cy (rO 2) 5 (onR tA 2), zzI cy (rO 3) 5 (onR tA 3), zzI cy (rO 4) 5 (onR tA 4), zzI cy (rO 5) 5 (onR tA 5), zzI cy (rO 6) 5 (onR tA 6), zzI cy (rO 7) 5 (onR tA 7), zzG cy 3 qmK rK, zzI cy (rK 0) 8 (T_kn tA 0), zzI cy (rK 1) 8 (T_kn tA 1), zzI cy (rK 2) 8 (T_kn tA 2), zzI cy (rK 3) 8 (T_kn tA 3), zzI cy (rK 4) 8 (T_kn tA 4), zzI cy (rK 5) 8 (T_kn tA 5), zzI cy (rK 6) 8 (T_kn tA 6), zzI cy (rK 7) 8 (T_kn tA 7)] H → va_D A [zzO qm 5 [.ref qmh, .ref qmo, .ref qmz, .ref qmR, .ref qmv, .ref qmk, .ref qma, .ref qmt, .int (nI kZ), .ref qmr, .int (nI (T_nb tA)), .ref qmB, .int (nI (T_np tA)), .ref qmO, .ref qmK, .int iEn, .int iTk, .int (T_sd tA), ov uP, ov uU, .int (nI kAt), .int iTo, .int iFr, .long JFi, .int iFa, .ref qm3, .int iSt, .int iLv, .int iWs, vLa, .ref qmu, .ref qmy, .ref qmb, .ref qms, .int iOm], zzI cy qmr 8 fMr, zzG cy 3 qmB rB, zzI cy (rB 0) 4 (bkR tA 0), zzI cy (rB 1) 4 (bkR tA 1), zzI cy (rB 2) 4 (bkR tA 2), zzI cy (rB 3) 4 (bkR tA 3), zzI cy (rB 4) 4 (bkR tA 4), zzI cy (rB 5) 4 (bkR tA 5), zzI cy (rB 6) 4 (bkR tA 6), zzI cy (rB 7) 4 (bkR tA 7), zzG cy 3 qmO rO, zzI cy (rO 0) 5 (onR tA 0), zzI cy (rO 1) 5 (onR tA 1), zzI cy (rO 2) 5 (onR tA 2), zzI cy (rO 3) 5 (onR tA 3), zzI cy (rO 4) 5 (onR tA 4), zzI cy (rO 5) 5 (onR tA 5), zzI cy (rO 6) 5 (onR tA 6), zzI cy (rO 7) 5 (onR tA 7), zzG cy 3 qmK rK, zzI cy (rK 0) 8 (T_kn tA 0), zzI cy (rK 1) 8 (T_kn tA 1), zzI cy (rK 2) 8 (T_kn tA 2), zzI cy (rK 3) 8 (T_kn tA 3), zzI cy (rK 4) 8 (T_kn tA 4), zzI cy (rK 5) 8 (T_kn tA 5), zzI cy (rK 6) 8 (T_kn tA 6), zzI cy (rK 7) 8 (T_kn tA 7)] → va_S A s.heap H locs → lv_has ls 5 [(4, .int (nI j_8 - 1)), (3, .int x3_9), (2, .int (nI (2 ^ T_np tA) - 1)), (0, .ref qm), (1, .int iA)] → W p l e (Rm 16 0 0) s m (List.toArray (α := Value) [.ref qm, .int iA]) below meth c H locs 0 0 (MQ below ((Wi G (fun r u => ∃ (fNr : Nat → Int32), u = [zzO qm 5 [.ref qmh, .ref qmo, .ref qmz, .ref qmR, .ref qmv, .ref qmk, .ref qma, .ref qmt, .int (nI kZ), .ref qmr, .int (nI (T_nb tA)), .ref qmB, .int (nI (T_np tA)), .ref qmO, .ref qmK, .int iEn, .int iTk, .int (T_sd tA), ov uP, ov uU, .int (nI kAt), .int iTo, .int iFr, .long JFi, .int iFa, .ref qm3, .int iSt, .int iLv, .int iWs, vLa, .ref qmu, .ref qmy, .ref qmb, .ref qms, .int iOm], zzI cy qmr 8 fNr, zzG cy 3 qmB rB, zzI cy (rB 0) 4 (bkR tA 0), zzI cy (rB 1) 4 (bkR tA 1), zzI cy (rB 2) 4 (bkR tA 2), zzI cy (rB 3) 4 (bkR tA 3), zzI cy (rB 4) 4 (bkR tA 4), zzI cy (rB 5) 4 (bkR tA 5), zzI cy (rB 6) 4 (bkR tA 6), zzI cy (rB 7) 4 (bkR tA 7), zzG cy 3 qmO rO, zzI cy (rO 0) 5 (onR tA 0), zzI cy (rO 1) 5 (onR tA 1), zzI cy (rO 2) 5 (onR tA 2), zzI cy (rO 3) 5 (onR tA 3), zzI cy (rO 4) 5 (onR tA 4), zzI cy (rO 5) 5 (onR tA 5), zzI cy (rO 6) 5 (onR tA 6), zzI cy (rO 7) 5 (onR tA 7), zzG cy 3 qmK rK, zzI cy (rK 0) 8 (T_kn tA 0), zzI cy (rK 1) 8 (T_kn tA 1), zzI cy (rK 2) 8 (T_kn tA 2), zzI cy (rK 3) 8 (T_kn tA 3), zzI cy (rK 4) 8 (T_kn tA 4), zzI cy (rK 5) 8 (T_kn tA 5), zzI cy (rK 6) 8 (T_kn tA 6), zzI cy (rK 7) 8 (T_kn tA 7)] ∧ (True))) A) (List.toArray (α := Value) [.ref qm, .int iA]) s 0 0 A) (F0 m 33 ls []) := by
      intro n_6
      induction n_6 with
      | zero => intro j_8 x3_9 hm9; exact absurd hm9 (Nat.not_lt_zero _)
      | succ n_6 ih_7 =>
        intro j_8 x3_9 hm_11 hj_10 H locs ls hP hD hS hl
        refine lv_iload hx hb dX6_bear_33 (lv_at hl 0 rfl) ?_
        refine lv_if_lt (tgt := 79) hx hb dX6_bear_35 (by decide) (fun c_12 => ?_) (fun c_12 => ?_)
        · refine lv_iload_n hx hb dX6_bear_79 rfl (lv_at hl 1 rfl) ?_
          exact endW (u := [zzO qm 5 [.ref qmh, .ref qmo, .ref qmz, .ref qmR, .ref qmv, .ref qmk, .ref qma, .ref qmt, .int (nI kZ), .ref qmr, .int (nI (T_nb tA)), .ref qmB, .int (nI (T_np tA)), .ref qmO, .ref qmK, .int iEn, .int iTk, .int (T_sd tA), ov uP, ov uU, .int (nI kAt), .int iTo, .int iFr, .long JFi, .int iFa, .ref qm3, .int iSt, .int iLv, .int iWs, vLa, .ref qmu, .ref qmy, .ref qmb, .ref qms, .int iOm], zzI cy qmr 8 fMr, zzG cy 3 qmB rB, zzI cy (rB 0) 4 (bkR tA 0), zzI cy (rB 1) 4 (bkR tA 1), zzI cy (rB 2) 4 (bkR tA 2), zzI cy (rB 3) 4 (bkR tA 3), zzI cy (rB 4) 4 (bkR tA 4), zzI cy (rB 5) 4 (bkR tA 5), zzI cy (rB 6) 4 (bkR tA 6), zzI cy (rB 7) 4 (bkR tA 7), zzG cy 3 qmO rO, zzI cy (rO 0) 5 (onR tA 0), zzI cy (rO 1) 5 (onR tA 1), zzI cy (rO 2) 5 (onR tA 2), zzI cy (rO 3) 5 (onR tA 3), zzI cy (rO 4) 5 (onR tA 4), zzI cy (rO 5) 5 (onR tA 5), zzI cy (rO 6) 5 (onR tA 6), zzI cy (rO 7) 5 (onR tA 7), zzG cy 3 qmK rK, zzI cy (rK 0) 8 (T_kn tA 0), zzI cy (rK 1) 8 (T_kn tA 1), zzI cy (rK 2) 8 (T_kn tA 2), zzI cy (rK 3) 8 (T_kn tA 3), zzI cy (rK 4) 8 (T_kn tA 4), zzI cy (rK 5) 8 (T_kn tA 5), zzI cy (rK 6) 8 (T_kn tA 6), zzI cy (rK 7) 8 (T_kn tA 7)]) hx hb hr hlocks rfl (hP.sub [0, 1, 2, 3, 4, 5, 6, 7, 8, 9, 10, 11, 12, 13, 14, 15, 16, 17, 18, 19, 20, 21, 22, 23, 24, 25, 26, 27, 28] rfl) (hD.sub [0, 1, 2, 3, 4, 5, 6, 7, 8, 9, 10, 11, 12, 13, 14, 15, 16, 17, 18, 19, 20, 21, 22, 23, 24, 25, 26, 27, 28] (by decide +kernel) rfl) hS ⟨fMr, rfl, trivial⟩ dX6_bear_80
        · obtain ⟨m_13, em_14⟩ := m1_pos c_12
          subst em_14
          rw [nI_pred] at hl
          refine lv_aload_n hx hb dX6_bear_38 rfl (lv_at hl 3 rfl) ?_
          refine lv_iload_n hx hb dX6_bear_39 rfl (lv_at hl 4 rfl) ?_
          refine lv_iload hx hb dX6_bear_40 (lv_at hl 0 rfl) ?_
          refine kRi (rV (As := [.int iA, .int (nI m_13)]) (rest := []) (b := qm) ⟨hx, hb, hml, hown, hts⟩ (c_X6_lostBy l G cy qm (.ref qmh) (.ref qmo) (.ref qmz) (.ref qmR) (.ref qmv) (.ref qmk) (.ref qma) (.ref qmt) (.int (nI kZ)) (.ref qmr) tA qmB qmO qmK iEn iTk (ov uP) (ov uU) (.int (nI kAt)) (.int iTo) (.int iFr) (.long JFi) (.int iFa) (.ref qm3) (.int iSt) iLv iWs vLa (.ref qmu) (.ref qmy) (.ref qmb) (.ref qms) (.int iOm) rB rO rK iA (nI m_13) hB hPp) L_X6_335 (preRV (q := (RX6, TX6, 35)) hN hP [0, 2, 3, 4, 5, 6, 7, 8, 9, 10, 11, 12, 13, 14, 15, 16, 17, 18, 19, 20, 21, 22, 23, 24, 25, 26, 27, 28] rfl 0 5 rfl rfl) rfl ⟨Nat.le_of_ble_eq_true rfl, Nat.le_of_ble_eq_true rfl⟩ hl.1 (Nat.le_of_ble_eq_true rfl) dX6_bear_42 ⟨Nat.le_of_ble_eq_true rfl, Nat.le_of_ble_eq_true rfl⟩) (fun r_15 h_16 => ?_)
          refine lv_aload_n hx hb dX6_bear_45 rfl (lv_at hl 3 rfl) ?_
          refine lv_iload_n hx hb dX6_bear_46 rfl (lv_at hl 4 rfl) ?_
          refine lv_iload_n hx hb dX6_bear_47 rfl (lv_at hl 2 rfl) ?_
          refine kRi (rV (As := [.int iA, .int (nI (2 ^ T_np tA) - 1)]) (rest := [.int r_15]) (b := qm) ⟨hx, hb, hml, hown, hts⟩ (c_X6_lostBy l G cy qm (.ref qmh) (.ref qmo) (.ref qmz) (.ref qmR) (.ref qmv) (.ref qmk) (.ref qma) (.ref qmt) (.int (nI kZ)) (.ref qmr) tA qmB qmO qmK iEn iTk (ov uP) (ov uU) (.int (nI kAt)) (.int iTo) (.int iFr) (.long JFi) (.int iFa) (.ref qm3) (.int iSt) iLv iWs vLa (.ref qmu) (.ref qmy) (.ref qmb) (.ref qms) (.int iOm) rB rO rK iA (nI (2 ^ T_np tA) - 1) hB hPp) L_X6_335 (preRV (q := (RX6, TX6, 35)) hN hP [0, 2, 3, 4, 5, 6, 7, 8, 9, 10, 11, 12, 13, 14, 15, 16, 17, 18, 19, 20, 21, 22, 23, 24, 25, 26, 27, 28] rfl 0 5 rfl rfl) rfl ⟨Nat.le_of_ble_eq_true rfl, Nat.le_of_ble_eq_true rfl⟩ hl.1 (Nat.le_of_ble_eq_true rfl) dX6_bear_48 ⟨Nat.le_of_ble_eq_true rfl, Nat.le_of_ble_eq_true rfl⟩) (fun r_17 h_18 => ?_)
          refine lv_icmp_ne (tgt := 71) hx hb dX6_bear_51 (by decide) (fun c_19 => ?_) (fun c_19 => ?_)
          · refine lv_iload_n hx hb dX6_bear_71 rfl (lv_at hl 1 rfl) ?_
            refine lv_istore_n (lv' := [(3, .int x3_9), (4, .int (nI m_13)), (2, .int (nI (2 ^ T_np tA) - 1)), (0, .ref qm), (1, .int iA)]) hx hb dX6_bear_72 rfl hl (by decide) rfl (fun ls => ?_)
            clear hl
            intro hl
            refine lv_iinc (v := nI m_13 - 1) (lv' := [(4, .int (nI m_13 - 1)), (3, .int x3_9), (2, .int (nI (2 ^ T_np tA) - 1)), (0, .ref qm), (1, .int iA)]) hx hb dX6_bear_73 hl (k := 1) rfl (ii_m1 _) (by decide) rfl (fun ls => ?_)
            clear hl
            intro hl
            refine lv_goto (tgt := 33) hx hb dX6_bear_76 (by decide) ?_
            exact ih_7 m_13 x3_9 (by omega) (by omega) _ _ _ hP hD hS (lv_sub hl [0, 1, 2, 3, 4] rfl)
          · refine lv_iload hx hb dX6_bear_54 (lv_at hl 0 rfl) ?_
            refine kRi (rS (As := [.int (nI m_13)]) (rest := []) ⟨hx, hb, hml, hown, hts⟩ (c_X6_bits l G cy (nI m_13)) L_X6_338 (preRS hN hP [] rfl) rfl ⟨Nat.le_of_ble_eq_true rfl, Nat.le_of_ble_eq_true rfl⟩ hl.1 (Nat.le_of_ble_eq_true rfl) dX6_bear_56 ⟨Nat.le_of_ble_eq_true rfl, Nat.le_of_ble_eq_true rfl⟩) (fun r_20 h_21 => ?_)
            refine lv_iload_n hx hb dX6_bear_59 rfl (lv_at hl 1 rfl) ?_
            refine kRi (rS (As := [.int x3_9]) (rest := [.int r_20]) ⟨hx, hb, hml, hown, hts⟩ (c_X6_bits l G cy x3_9) L_X6_338 (preRS hN hP [] rfl) rfl ⟨Nat.le_of_ble_eq_true rfl, Nat.le_of_ble_eq_true rfl⟩ hl.1 (Nat.le_of_ble_eq_true rfl) dX6_bear_60 ⟨Nat.le_of_ble_eq_true rfl, Nat.le_of_ble_eq_true rfl⟩) (fun r_22 h_23 => ?_)
            refine lv_icmp_gt (tgt := 71) hx hb dX6_bear_63 (by decide) (fun c_24 => ?_) (fun c_24 => ?_)
            · refine lv_iload_n hx hb dX6_bear_71 rfl (lv_at hl 1 rfl) ?_
              refine lv_istore_n (lv' := [(3, .int x3_9), (4, .int (nI m_13)), (2, .int (nI (2 ^ T_np tA) - 1)), (0, .ref qm), (1, .int iA)]) hx hb dX6_bear_72 rfl hl (by decide) rfl (fun ls => ?_)
              clear hl
              intro hl
              refine lv_iinc (v := nI m_13 - 1) (lv' := [(4, .int (nI m_13 - 1)), (3, .int x3_9), (2, .int (nI (2 ^ T_np tA) - 1)), (0, .ref qm), (1, .int iA)]) hx hb dX6_bear_73 hl (k := 1) rfl (ii_m1 _) (by decide) rfl (fun ls => ?_)
              clear hl
              intro hl
              refine lv_goto (tgt := 33) hx hb dX6_bear_76 (by decide) ?_
              exact ih_7 m_13 x3_9 (by omega) (by omega) _ _ _ hP hD hS (lv_sub hl [0, 1, 2, 3, 4] rfl)
            · refine lv_iload hx hb dX6_bear_66 (lv_at hl 0 rfl) ?_
              refine lv_goto (tgt := 72) hx hb dX6_bear_68 (by decide) ?_
              refine lv_istore_n (lv' := [(3, .int (nI m_13)), (4, .int (nI m_13)), (2, .int (nI (2 ^ T_np tA) - 1)), (0, .ref qm), (1, .int iA)]) hx hb dX6_bear_72 rfl hl (by decide) rfl (fun ls => ?_)
              clear hl
              intro hl
              refine lv_iinc (v := nI m_13 - 1) (lv' := [(4, .int (nI m_13 - 1)), (3, .int (nI m_13)), (2, .int (nI (2 ^ T_np tA) - 1)), (0, .ref qm), (1, .int iA)]) hx hb dX6_bear_73 hl (k := 1) rfl (ii_m1 _) (by decide) rfl (fun ls => ?_)
              clear hl
              intro hl
              refine lv_goto (tgt := 33) hx hb dX6_bear_76 (by decide) ?_
              exact ih_7 m_13 (nI m_13) (by omega) (by omega) _ _ _ hP hD hS (lv_sub hl [0, 1, 2, 3, 4] rfl)
    exact lp_5 ((2 ^ T_np tA) + 1) (2 ^ T_np tA) (nI (2 ^ T_np tA) - 1) (Nat.lt_succ_self _) (pow_le8 (by omega)) _ _ ls hP hD hS (lv_sub hl [0, 1, 2, 3, 4] rfl)
  · refine lv_if_ne (tgt := 19) hx hb dX6_bear_9 (by decide) (fun h9 => absurd (by decide) h9) (fun _ => ?_)
    refine lv_aload_n hx hb dX6_bear_12 rfl (lv_at hl 0 rfl) ?_
    refine lv_bipush (v := (-2)) hx hb dX6_bear_13 (by decide) ?_
    refine cVi (As := [.int (-2)]) (rest := []) (b := qm) (q := (RX6, TX6, 35)) ⟨hx, hb, hml, hown, hts⟩ (c_X6_refuse2 l G cy (s.heap).size qm (.ref qmh) (.ref qmo) (.ref qmz) (.ref qmR) (.ref qmv) (.ref qmk) (.ref qma) (.ref qmt) (.int (nI kZ)) qmr tA qmB qmO qmK iEn iTk (ov uP) (ov uU) (.int (nI kAt)) (.int iTo) (.int iFr) (.long JFi) (.int iFa) (.ref qm3) (.int iSt) iLv iWs vLa (.ref qmu) (.ref qmy) (.ref qmb) (.ref qms) (.int iOm) fMr) L_X6_91 hN hP hD hS hA [0, 1] [false, false, true, true, true, true, true, true, true, true, true, true, true, true, true, true, true, true, true, true, true, true, true, true, true, true, true, true, true] rfl (by decide +kernel) rfl 0 5 rfl rfl rfl ⟨Nat.le_of_ble_eq_true rfl, Nat.le_of_ble_eq_true rfl⟩ hl.1 (Nat.le_of_ble_eq_true rfl) dX6_bear_15 ⟨Nat.le_of_ble_eq_true rfl, Nat.le_of_ble_eq_true rfl⟩ (fun r_26 u_28 H locs h_27 => ?_)
    clear hP hD hS
    intro hP hD hS
    obtain ⟨fX_29, rfl, h_27⟩ := h_27
    have hPD := pd_as [zzG cy 3 qmB rB, zzI cy (rB 0) 4 (bkR tA 0), zzI cy (rB 1) 4 (bkR tA 1), zzI cy (rB 2) 4 (bkR tA 2), zzI cy (rB 3) 4 (bkR tA 3), zzI cy (rB 4) 4 (bkR tA 4), zzI cy (rB 5) 4 (bkR tA 5), zzI cy (rB 6) 4 (bkR tA 6), zzI cy (rB 7) 4 (bkR tA 7), zzG cy 3 qmO rO, zzI cy (rO 0) 5 (onR tA 0), zzI cy (rO 1) 5 (onR tA 1), zzI cy (rO 2) 5 (onR tA 2), zzI cy (rO 3) 5 (onR tA 3), zzI cy (rO 4) 5 (onR tA 4), zzI cy (rO 5) 5 (onR tA 5), zzI cy (rO 6) 5 (onR tA 6), zzI cy (rO 7) 5 (onR tA 7), zzG cy 3 qmK rK, zzI cy (rK 0) 8 (T_kn tA 0), zzI cy (rK 1) 8 (T_kn tA 1), zzI cy (rK 2) 8 (T_kn tA 2), zzI cy (rK 3) 8 (T_kn tA 3), zzI cy (rK 4) 8 (T_kn tA 4), zzI cy (rK 5) 8 (T_kn tA 5), zzI cy (rK 6) 8 (T_kn tA 6), zzI cy (rK 7) 8 (T_kn tA 7), zzO qm 5 [.ref qmh, .ref qmo, .ref qmz, .ref qmR, .ref qmv, .ref qmk, .ref qma, .ref qmt, .int (nI kZ), .ref qmr, .int (nI (T_nb tA)), .ref qmB, .int (nI (T_np tA)), .ref qmO, .ref qmK, .int iEn, .int iTk, .int (T_sd tA), ov uP, ov uU, .int (nI kAt), .int iTo, .int iFr, .long JFi, .int iFa, .ref qm3, .int iSt, .int iLv, .int iWs, vLa, .ref qmu, .ref qmy, .ref qmb, .ref qms, .int iOm], zzI cy qmr 8 fX_29] hP hD rfl
    clear hP hD
    obtain ⟨hP, hD⟩ := hPD
    subst h_27
    exact endW (u := [zzO qm 5 [.ref qmh, .ref qmo, .ref qmz, .ref qmR, .ref qmv, .ref qmk, .ref qma, .ref qmt, .int (nI kZ), .ref qmr, .int (nI (T_nb tA)), .ref qmB, .int (nI (T_np tA)), .ref qmO, .ref qmK, .int iEn, .int iTk, .int (T_sd tA), ov uP, ov uU, .int (nI kAt), .int iTo, .int iFr, .long JFi, .int iFa, .ref qm3, .int iSt, .int iLv, .int iWs, vLa, .ref qmu, .ref qmy, .ref qmb, .ref qms, .int iOm], zzI cy qmr 8 fX_29, zzG cy 3 qmB rB, zzI cy (rB 0) 4 (bkR tA 0), zzI cy (rB 1) 4 (bkR tA 1), zzI cy (rB 2) 4 (bkR tA 2), zzI cy (rB 3) 4 (bkR tA 3), zzI cy (rB 4) 4 (bkR tA 4), zzI cy (rB 5) 4 (bkR tA 5), zzI cy (rB 6) 4 (bkR tA 6), zzI cy (rB 7) 4 (bkR tA 7), zzG cy 3 qmO rO, zzI cy (rO 0) 5 (onR tA 0), zzI cy (rO 1) 5 (onR tA 1), zzI cy (rO 2) 5 (onR tA 2), zzI cy (rO 3) 5 (onR tA 3), zzI cy (rO 4) 5 (onR tA 4), zzI cy (rO 5) 5 (onR tA 5), zzI cy (rO 6) 5 (onR tA 6), zzI cy (rO 7) 5 (onR tA 7), zzG cy 3 qmK rK, zzI cy (rK 0) 8 (T_kn tA 0), zzI cy (rK 1) 8 (T_kn tA 1), zzI cy (rK 2) 8 (T_kn tA 2), zzI cy (rK 3) 8 (T_kn tA 3), zzI cy (rK 4) 8 (T_kn tA 4), zzI cy (rK 5) 8 (T_kn tA 5), zzI cy (rK 6) 8 (T_kn tA 6), zzI cy (rK 7) 8 (T_kn tA 7)]) hx hb hr hlocks rfl (hP.sub [27, 28, 0, 1, 2, 3, 4, 5, 6, 7, 8, 9, 10, 11, 12, 13, 14, 15, 16, 17, 18, 19, 20, 21, 22, 23, 24, 25, 26] rfl) (hD.sub [27, 28, 0, 1, 2, 3, 4, 5, 6, 7, 8, 9, 10, 11, 12, 13, 14, 15, 16, 17, 18, 19, 20, 21, 22, 23, 24, 25, 26] (by decide +kernel) rfl) hS ⟨fX_29, rfl, trivial⟩ dX6_bear_18
