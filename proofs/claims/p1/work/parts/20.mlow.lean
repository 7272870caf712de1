theorem in_m1 {v : Int64} (h : Iv v 0 (-1)) : False := by
  obtain ⟨h1, h2⟩ := Iv_iff.mp h
  rw [Int64.le_iff_toInt_le] at h1 h2
  have h3 : (0 : Int64).toInt = 0 := by decide
  have h4 : (-1 : Int64).toInt = -1 := by decide
  omega
theorem dX6_bits_0 : decode cX6_bits 0 = .ok (.iconst 0, 1) := by decide +kernel
theorem dX6_bits_1 : decode cX6_bits 1 = .ok (.istore_n 1, 1) := by decide +kernel
theorem dX6_bits_2 : decode cX6_bits 2 = .ok (.iconst 0, 1) := by decide +kernel
theorem dX6_bits_3 : decode cX6_bits 3 = .ok (.istore_n 2, 1) := by decide +kernel
theorem dX6_bits_4 : decode cX6_bits 4 = .ok (.iload_n 2, 1) := by decide +kernel
theorem dX6_bits_5 : decode cX6_bits 5 = .ok (.bipush 8, 2) := by decide +kernel
theorem dX6_bits_7 : decode cX6_bits 7 = .ok (.if_icmp .ge 17, 3) := by decide +kernel
theorem dX6_bits_10 : decode cX6_bits 10 = .ok (.iload_n 1, 1) := by decide +kernel
theorem dX6_bits_11 : decode cX6_bits 11 = .ok (.iload_n 0, 1) := by decide +kernel
theorem dX6_bits_12 : decode cX6_bits 12 = .ok (.iload_n 2, 1) := by decide +kernel
theorem dX6_bits_13 : decode cX6_bits 13 = .ok (.ishr, 1) := by decide +kernel
theorem dX6_bits_14 : decode cX6_bits 14 = .ok (.iconst 1, 1) := by decide +kernel
theorem dX6_bits_15 : decode cX6_bits 15 = .ok (.iand, 1) := by decide +kernel
theorem dX6_bits_16 : decode cX6_bits 16 = .ok (.iadd, 1) := by decide +kernel
theorem dX6_bits_17 : decode cX6_bits 17 = .ok (.istore_n 1, 1) := by decide +kernel
theorem dX6_bits_18 : decode cX6_bits 18 = .ok (.iinc 2 1, 3) := by decide +kernel
theorem dX6_bits_21 : decode cX6_bits 21 = .ok (.goto (-17), 3) := by decide +kernel
theorem dX6_bits_24 : decode cX6_bits 24 = .ok (.iload_n 1, 1) := by decide +kernel
theorem dX6_bits_25 : decode cX6_bits 25 = .ok (.ireturn, 1) := by decide +kernel
theorem dX6_end_0 : decode cX6_end 0 = .ok (.iconst 0, 1) := by decide +kernel
theorem dX6_end_1 : decode cX6_end 1 = .ok (.istore_n 1, 1) := by decide +kernel
theorem dX6_end_2 : decode cX6_end 2 = .ok (.iconst 0, 1) := by decide +kernel
theorem dX6_end_3 : decode cX6_end 3 = .ok (.istore_n 2, 1) := by decide +kernel
theorem dX6_end_4 : decode cX6_end 4 = .ok (.iload_n 2, 1) := by decide +kernel
theorem dX6_end_5 : decode cX6_end 5 = .ok (.aload_n 0, 1) := by decide +kernel
theorem dX6_end_6 : decode cX6_end 6 = .ok (.getfield 78, 3) := by decide +kernel
theorem dX6_end_9 : decode cX6_end 9 = .ok (.if_icmp .ge 136, 3) := by decide +kernel
theorem dX6_end_145 : decode cX6_end 145 = .ok (.aload_n 0, 1) := by decide +kernel
theorem dX6_end_146 : decode cX6_end 146 = .ok (.dup, 1) := by decide +kernel
theorem dX6_end_147 : decode cX6_end 147 = .ok (.getfield 285, 3) := by decide +kernel
theorem dX6_end_150 : decode cX6_end 150 = .ok (.iconst 1, 1) := by decide +kernel
theorem dX6_end_151 : decode cX6_end 151 = .ok (.iadd, 1) := by decide +kernel
theorem dX6_end_152 : decode cX6_end 152 = .ok (.putfield 285, 3) := by decide +kernel
theorem dX6_end_155 : decode cX6_end 155 = .ok (.iload_n 1, 1) := by decide +kernel
theorem dX6_end_156 : decode cX6_end 156 = .ok (.ireturn, 1) := by decide +kernel
theorem dX6_in_0 : decode cX6_in 0 = .ok (.lload_n 0, 1) := by decide +kernel
theorem dX6_in_1 : decode cX6_in 1 = .ok (.lload_n 2, 1) := by decide +kernel
theorem dX6_in_2 : decode cX6_in 2 = .ok (.lcmp, 1) := by decide +kernel
theorem dX6_in_3 : decode cX6_in 3 = .ok (.ifCond .lt 14, 3) := by decide +kernel
theorem dX6_in_6 : decode cX6_in 6 = .ok (.lload_n 0, 1) := by decide +kernel
theorem dX6_in_7 : decode cX6_in 7 = .ok (.lload 4, 2) := by decide +kernel
theorem dX6_in_9 : decode cX6_in 9 = .ok (.lcmp, 1) := by decide +kernel
theorem dX6_in_10 : decode cX6_in 10 = .ok (.ifCond .gt 7, 3) := by decide +kernel
theorem dX6_in_13 : decode cX6_in 13 = .ok (.iconst 1, 1) := by decide +kernel
theorem dX6_in_14 : decode cX6_in 14 = .ok (.goto 4, 3) := by decide +kernel
theorem dX6_in_17 : decode cX6_in 17 = .ok (.iconst 0, 1) := by decide +kernel
theorem dX6_in_18 : decode cX6_in 18 = .ok (.ireturn, 1) := by decide +kernel
theorem dX6_isBook_0 : decode cX6_isBook 0 = .ok (.lload_n 1, 1) := by decide +kernel
theorem dX6_isBook_1 : decode cX6_isBook 1 = .ok (.lconst 0, 1) := by decide +kernel
theorem dX6_isBook_2 : decode cX6_isBook 2 = .ok (.aload_n 0, 1) := by decide +kernel
theorem dX6_isBook_3 : decode cX6_isBook 3 = .ok (.getfield 71, 3) := by decide +kernel
theorem dX6_isBook_6 : decode cX6_isBook 6 = .ok (.iconst 1, 1) := by decide +kernel
theorem dX6_isBook_7 : decode cX6_isBook 7 = .ok (.isub, 1) := by decide +kernel
theorem dX6_isBook_8 : decode cX6_isBook 8 = .ok (.i2l, 1) := by decide +kernel
theorem dX6_isBook_9 : decode cX6_isBook 9 = .ok (.invokestatic 74, 3) := by decide +kernel
theorem dX6_isBook_12 : decode cX6_isBook 12 = .ok (.ireturn, 1) := by decide +kernel
theorem dX6_isOne_0 : decode cX6_isOne 0 = .ok (.lload_n 1, 1) := by decide +kernel
theorem dX6_isOne_1 : decode cX6_isOne 1 = .ok (.lconst 0, 1) := by decide +kernel
theorem dX6_isOne_2 : decode cX6_isOne 2 = .ok (.aload_n 0, 1) := by decide +kernel
theorem dX6_isOne_3 : decode cX6_isOne 3 = .ok (.getfield 78, 3) := by decide +kernel
theorem dX6_isOne_6 : decode cX6_isOne 6 = .ok (.iconst 1, 1) := by decide +kernel
theorem dX6_isOne_7 : decode cX6_isOne 7 = .ok (.isub, 1) := by decide +kernel
theorem dX6_isOne_8 : decode cX6_isOne 8 = .ok (.i2l, 1) := by decide +kernel
theorem dX6_isOne_9 : decode cX6_isOne 9 = .ok (.invokestatic 74, 3) := by decide +kernel
theorem dX6_isOne_12 : decode cX6_isOne 12 = .ok (.ireturn, 1) := by decide +kernel
theorem dX6_lostBy_0 : decode cX6_lostBy 0 = .ok (.iconst 0, 1) := by decide +kernel
theorem dX6_lostBy_1 : decode cX6_lostBy 1 = .ok (.istore_n 3, 1) := by decide +kernel
theorem dX6_lostBy_2 : decode cX6_lostBy 2 = .ok (.iconst 0, 1) := by decide +kernel
theorem dX6_lostBy_3 : decode cX6_lostBy 3 = .ok (.istore 4, 2) := by decide +kernel
theorem dX6_lostBy_5 : decode cX6_lostBy 5 = .ok (.iload 4, 2) := by decide +kernel
theorem dX6_lostBy_7 : decode cX6_lostBy 7 = .ok (.aload_n 0, 1) := by decide +kernel
theorem dX6_lostBy_8 : decode cX6_lostBy 8 = .ok (.getfield 71, 3) := by decide +kernel
theorem dX6_lostBy_11 : decode cX6_lostBy 11 = .ok (.if_icmp .ge 31, 3) := by decide +kernel
theorem dX6_lostBy_42 : decode cX6_lostBy 42 = .ok (.iload_n 3, 1) := by decide +kernel
theorem dX6_lostBy_43 : decode cX6_lostBy 43 = .ok (.ireturn, 1) := by decide +kernel
theorem dX6_noReading_0 : decode cX6_noReading 0 = .ok (.aload_n 0, 1) := by decide +kernel
theorem dX6_noReading_1 : decode cX6_noReading 1 = .ok (.iload_n 1, 1) := by decide +kernel
theorem dX6_noReading_2 : decode cX6_noReading 2 = .ok (.i2l, 1) := by decide +kernel
theorem dX6_noReading_3 : decode cX6_noReading 3 = .ok (.invokevirtual 236, 3) := by decide +kernel
theorem dX6_noReading_6 : decode cX6_noReading 6 = .ok (.ifCond .eq 12, 3) := by decide +kernel
theorem dX6_noReading_18 : decode cX6_noReading 18 = .ok (.aload_n 0, 1) := by decide +kernel
theorem dX6_noReading_19 : decode cX6_noReading 19 = .ok (.bipush (-2), 2) := by decide +kernel
theorem dX6_noReading_21 : decode cX6_noReading 21 = .ok (.invokevirtual 91, 3) := by decide +kernel
theorem dX6_noReading_24 : decode cX6_noReading 24 = .ok (.ireturn, 1) := by decide +kernel
theorem dX6_noRow_0 : decode cX6_noRow 0 = .ok (.iload_n 1, 1) := by decide +kernel
theorem dX6_noRow_1 : decode cX6_noRow 1 = .ok (.i2l, 1) := by decide +kernel
theorem dX6_noRow_2 : decode cX6_noRow 2 = .ok (.lconst 0, 1) := by decide +kernel
theorem dX6_noRow_3 : decode cX6_noRow 3 = .ok (.ldc2_w 85, 3) := by decide +kernel
theorem dX6_noRow_6 : decode cX6_noRow 6 = .ok (.invokestatic 74, 3) := by decide +kernel
theorem dX6_noRow_9 : decode cX6_noRow 9 = .ok (.ifCond .ne 10, 3) := by decide +kernel
theorem dX6_noRow_12 : decode cX6_noRow 12 = .ok (.aload_n 0, 1) := by decide +kernel
theorem dX6_noRow_13 : decode cX6_noRow 13 = .ok (.bipush (-2), 2) := by decide +kernel
theorem dX6_noRow_15 : decode cX6_noRow 15 = .ok (.invokevirtual 91, 3) := by decide +kernel
theorem dX6_noRow_18 : decode cX6_noRow 18 = .ok (.ireturn, 1) := by decide +kernel
theorem dX6_noRow_19 : decode cX6_noRow 19 = .ok (.aload_n 0, 1) := by decide +kernel
theorem dX6_noRow_20 : decode cX6_noRow 20 = .ok (.getfield 7, 3) := by decide +kernel
theorem dX6_noRow_23 : decode cX6_noRow 23 = .ok (.iload_n 1, 1) := by decide +kernel
theorem dX6_noRow_24 : decode cX6_noRow 24 = .ok (.iaload, 1) := by decide +kernel
theorem dX6_noRow_25 : decode cX6_noRow 25 = .ok (.iconst 2, 1) := by decide +kernel
theorem dX6_noRow_26 : decode cX6_noRow 26 = .ok (.if_icmp .ne 10, 3) := by decide +kernel
theorem dX6_noRow_36 : decode cX6_noRow 36 = .ok (.aload_n 0, 1) := by decide +kernel
theorem dX6_noRow_37 : decode cX6_noRow 37 = .ok (.getfield 7, 3) := by decide +kernel
theorem dX6_noRow_40 : decode cX6_noRow 40 = .ok (.iload_n 1, 1) := by decide +kernel
theorem dX6_noRow_41 : decode cX6_noRow 41 = .ok (.iaload, 1) := by decide +kernel
theorem dX6_noRow_42 : decode cX6_noRow 42 = .ok (.ifCond .ne 12, 3) := by decide +kernel
theorem dX6_noRow_45 : decode cX6_noRow 45 = .ok (.aload_n 0, 1) := by decide +kernel
theorem dX6_noRow_46 : decode cX6_noRow 46 = .ok (.bipush (-4), 2) := by decide +kernel
theorem dX6_noRow_48 : decode cX6_noRow 48 = .ok (.invokevirtual 91, 3) := by decide +kernel
theorem dX6_noRow_51 : decode cX6_noRow 51 = .ok (.goto 4, 3) := by decide +kernel
theorem dX6_noRow_55 : decode cX6_noRow 55 = .ok (.ireturn, 1) := by decide +kernel
theorem dX6_noRule_0 : decode cX6_noRule 0 = .ok (.iload_n 1, 1) := by decide +kernel
theorem dX6_noRule_1 : decode cX6_noRule 1 = .ok (.i2l, 1) := by decide +kernel
theorem dX6_noRule_2 : decode cX6_noRule 2 = .ok (.lconst 0, 1) := by decide +kernel
theorem dX6_noRule_3 : decode cX6_noRule 3 = .ok (.ldc2_w 85, 3) := by decide +kernel
theorem dX6_noRule_6 : decode cX6_noRule 6 = .ok (.invokestatic 74, 3) := by decide +kernel
theorem dX6_noRule_9 : decode cX6_noRule 9 = .ok (.ifCond .ne 10, 3) := by decide +kernel
theorem dX6_noRule_12 : decode cX6_noRule 12 = .ok (.aload_n 0, 1) := by decide +kernel
theorem dX6_noRule_13 : decode cX6_noRule 13 = .ok (.bipush (-2), 2) := by decide +kernel
theorem dX6_noRule_15 : decode cX6_noRule 15 = .ok (.invokevirtual 91, 3) := by decide +kernel
theorem dX6_noRule_18 : decode cX6_noRule 18 = .ok (.ireturn, 1) := by decide +kernel
theorem dX6_noRule_19 : decode cX6_noRule 19 = .ok (.aload_n 0, 1) := by decide +kernel
theorem dX6_noRule_20 : decode cX6_noRule 20 = .ok (.getfield 7, 3) := by decide +kernel
theorem dX6_noRule_23 : decode cX6_noRule 23 = .ok (.iload_n 1, 1) := by decide +kernel
theorem dX6_noRule_24 : decode cX6_noRule 24 = .ok (.iaload, 1) := by decide +kernel
theorem dX6_noRule_25 : decode cX6_noRule 25 = .ok (.iconst 1, 1) := by decide +kernel
theorem dX6_noRule_26 : decode cX6_noRule 26 = .ok (.if_icmp .ne 10, 3) := by decide +kernel
theorem dX6_noRule_36 : decode cX6_noRule 36 = .ok (.aload_n 0, 1) := by decide +kernel
theorem dX6_noRule_37 : decode cX6_noRule 37 = .ok (.getfield 7, 3) := by decide +kernel
theorem dX6_noRule_40 : decode cX6_noRule 40 = .ok (.iload_n 1, 1) := by decide +kernel
theorem dX6_noRule_41 : decode cX6_noRule 41 = .ok (.iaload, 1) := by decide +kernel
theorem dX6_noRule_42 : decode cX6_noRule 42 = .ok (.ifCond .ne 12, 3) := by decide +kernel
theorem dX6_noRule_45 : decode cX6_noRule 45 = .ok (.aload_n 0, 1) := by decide +kernel
theorem dX6_noRule_46 : decode cX6_noRule 46 = .ok (.bipush (-4), 2) := by decide +kernel
theorem dX6_noRule_48 : decode cX6_noRule 48 = .ok (.invokevirtual 91, 3) := by decide +kernel
theorem dX6_noRule_51 : decode cX6_noRule 51 = .ok (.goto 4, 3) := by decide +kernel
theorem dX6_noRule_55 : decode cX6_noRule 55 = .ok (.ireturn, 1) := by decide +kernel
theorem dX6_noTold_0 : decode cX6_noTold 0 = .ok (.iload_n 1, 1) := by decide +kernel
theorem dX6_noTold_1 : decode cX6_noTold 1 = .ok (.i2l, 1) := by decide +kernel
theorem dX6_noTold_2 : decode cX6_noTold 2 = .ok (.lconst 0, 1) := by decide +kernel
theorem dX6_noTold_3 : decode cX6_noTold 3 = .ok (.ldc2_w 85, 3) := by decide +kernel
theorem dX6_noTold_6 : decode cX6_noTold 6 = .ok (.invokestatic 74, 3) := by decide +kernel
theorem dX6_noTold_9 : decode cX6_noTold 9 = .ok (.ifCond .eq 15, 3) := by decide +kernel
theorem dX6_noTold_12 : decode cX6_noTold 12 = .ok (.iload_n 2, 1) := by decide +kernel
theorem dX6_noTold_13 : decode cX6_noTold 13 = .ok (.i2l, 1) := by decide +kernel
theorem dX6_noTold_14 : decode cX6_noTold 14 = .ok (.lconst 0, 1) := by decide +kernel
theorem dX6_noTold_15 : decode cX6_noTold 15 = .ok (.ldc2_w 341, 3) := by decide +kernel
theorem dX6_noTold_18 : decode cX6_noTold 18 = .ok (.invokestatic 74, 3) := by decide +kernel
theorem dX6_noTold_21 : decode cX6_noTold 21 = .ok (.ifCond .ne 10, 3) := by decide +kernel
theorem dX6_noTold_24 : decode cX6_noTold 24 = .ok (.aload_n 0, 1) := by decide +kernel
theorem dX6_noTold_25 : decode cX6_noTold 25 = .ok (.bipush (-2), 2) := by decide +kernel
theorem dX6_noTold_27 : decode cX6_noTold 27 = .ok (.invokevirtual 91, 3) := by decide +kernel
theorem dX6_noTold_30 : decode cX6_noTold 30 = .ok (.ireturn, 1) := by decide +kernel
theorem dX6_noTold_31 : decode cX6_noTold 31 = .ok (.aload_n 0, 1) := by decide +kernel
theorem dX6_noTold_32 : decode cX6_noTold 32 = .ok (.iload_n 1, 1) := by decide +kernel
theorem dX6_noTold_33 : decode cX6_noTold 33 = .ok (.invokevirtual 95, 3) := by decide +kernel
theorem dX6_noTold_36 : decode cX6_noTold 36 = .ok (.istore_n 3, 1) := by decide +kernel
theorem dX6_noTold_37 : decode cX6_noTold 37 = .ok (.iload_n 3, 1) := by decide +kernel
theorem dX6_noTold_38 : decode cX6_noTold 38 = .ok (.ifCond .eq 5, 3) := by decide +kernel
theorem dX6_noTold_41 : decode cX6_noTold 41 = .ok (.iload_n 3, 1) := by decide +kernel
theorem dX6_noTold_42 : decode cX6_noTold 42 = .ok (.ireturn, 1) := by decide +kernel
theorem dX6_refuse_0 : decode cX6_refuse 0 = .ok (.aload_n 0, 1) := by decide +kernel
theorem dX6_refuse_1 : decode cX6_refuse 1 = .ok (.getfield 37, 3) := by decide +kernel
theorem dX6_refuse_4 : decode cX6_refuse 4 = .ok (.iload_n 1, 1) := by decide +kernel
theorem dX6_refuse_5 : decode cX6_refuse 5 = .ok (.ineg, 1) := by decide +kernel
theorem dX6_refuse_6 : decode cX6_refuse 6 = .ok (.dup2, 1) := by decide +kernel
theorem dX6_refuse_7 : decode cX6_refuse 7 = .ok (.iaload, 1) := by decide +kernel
theorem dX6_refuse_8 : decode cX6_refuse 8 = .ok (.iconst 1, 1) := by decide +kernel
theorem dX6_refuse_9 : decode cX6_refuse 9 = .ok (.iadd, 1) := by decide +kernel
theorem dX6_refuse_10 : decode cX6_refuse 10 = .ok (.iastore, 1) := by decide +kernel
theorem dX6_refuse_11 : decode cX6_refuse 11 = .ok (.iload_n 1, 1) := by decide +kernel
theorem dX6_refuse_12 : decode cX6_refuse 12 = .ok (.ireturn, 1) := by decide +kernel
theorem dX6_thereMany_0 : decode cX6_thereMany 0 = .ok (.iconst 0, 1) := by decide +kernel
theorem dX6_thereMany_1 : decode cX6_thereMany 1 = .ok (.istore_n 1, 1) := by decide +kernel
theorem dX6_thereMany_2 : decode cX6_thereMany 2 = .ok (.iconst 0, 1) := by decide +kernel
theorem dX6_thereMany_3 : decode cX6_thereMany 3 = .ok (.istore_n 2, 1) := by decide +kernel
theorem dX6_thereMany_4 : decode cX6_thereMany 4 = .ok (.iload_n 2, 1) := by decide +kernel
theorem dX6_thereMany_5 : decode cX6_thereMany 5 = .ok (.aload_n 0, 1) := by decide +kernel
theorem dX6_thereMany_6 : decode cX6_thereMany 6 = .ok (.getfield 78, 3) := by decide +kernel
theorem dX6_thereMany_9 : decode cX6_thereMany 9 = .ok (.if_icmp .ge 25, 3) := by decide +kernel
theorem dX6_thereMany_34 : decode cX6_thereMany 34 = .ok (.iload_n 1, 1) := by decide +kernel
theorem dX6_thereMany_35 : decode cX6_thereMany 35 = .ok (.ireturn, 1) := by decide +kernel
theorem dX6_valueNow_0 : decode cX6_valueNow 0 = .ok (.aload_n 0, 1) := by decide +kernel
theorem dX6_valueNow_1 : decode cX6_valueNow 1 = .ok (.iconst 1, 1) := by decide +kernel
theorem dX6_valueNow_2 : decode cX6_valueNow 2 = .ok (.aload_n 0, 1) := by decide +kernel
theorem dX6_valueNow_3 : decode cX6_valueNow 3 = .ok (.getfield 78, 3) := by decide +kernel
theorem dX6_valueNow_6 : decode cX6_valueNow 6 = .ok (.ishl, 1) := by decide +kernel
theorem dX6_valueNow_7 : decode cX6_valueNow 7 = .ok (.iconst 1, 1) := by decide +kernel
theorem dX6_valueNow_8 : decode cX6_valueNow 8 = .ok (.isub, 1) := by decide +kernel
theorem dX6_valueNow_9 : decode cX6_valueNow 9 = .ok (.invokevirtual 266, 3) := by decide +kernel
theorem dX6_valueNow_12 : decode cX6_valueNow 12 = .ok (.ireturn, 1) := by decide +kernel
theorem dX6_valueOf_0 : decode cX6_valueOf 0 = .ok (.iconst 0, 1) := by decide +kernel
theorem dX6_valueOf_1 : decode cX6_valueOf 1 = .ok (.istore_n 2, 1) := by decide +kernel
theorem dX6_valueOf_2 : decode cX6_valueOf 2 = .ok (.iconst 0, 1) := by decide +kernel
theorem dX6_valueOf_3 : decode cX6_valueOf 3 = .ok (.istore_n 3, 1) := by decide +kernel
theorem dX6_valueOf_4 : decode cX6_valueOf 4 = .ok (.iload_n 3, 1) := by decide +kernel
theorem dX6_valueOf_5 : decode cX6_valueOf 5 = .ok (.aload_n 0, 1) := by decide +kernel
theorem dX6_valueOf_6 : decode cX6_valueOf 6 = .ok (.getfield 71, 3) := by decide +kernel
theorem dX6_valueOf_9 : decode cX6_valueOf 9 = .ok (.if_icmp .ge 27, 3) := by decide +kernel
theorem dX6_valueOf_36 : decode cX6_valueOf 36 = .ok (.iload_n 2, 1) := by decide +kernel
theorem dX6_valueOf_37 : decode cX6_valueOf 37 = .ok (.ireturn, 1) := by decide +kernel
theorem dX6_whiteMany_0 : decode cX6_whiteMany 0 = .ok (.iconst 0, 1) := by decide +kernel
theorem dX6_whiteMany_1 : decode cX6_whiteMany 1 = .ok (.istore_n 1, 1) := by decide +kernel
theorem dX6_whiteMany_2 : decode cX6_whiteMany 2 = .ok (.iconst 0, 1) := by decide +kernel
theorem dX6_whiteMany_3 : decode cX6_whiteMany 3 = .ok (.istore_n 2, 1) := by decide +kernel
theorem dX6_whiteMany_4 : decode cX6_whiteMany 4 = .ok (.iload_n 2, 1) := by decide +kernel
theorem dX6_whiteMany_5 : decode cX6_whiteMany 5 = .ok (.aload_n 0, 1) := by decide +kernel
theorem dX6_whiteMany_6 : decode cX6_whiteMany 6 = .ok (.getfield 71, 3) := by decide +kernel
theorem dX6_whiteMany_9 : decode cX6_whiteMany 9 = .ok (.if_icmp .ge 20, 3) := by decide +kernel
theorem dX6_whiteMany_29 : decode cX6_whiteMany 29 = .ok (.iload_n 1, 1) := by decide +kernel
theorem dX6_whiteMany_30 : decode cX6_whiteMany 30 = .ok (.ireturn, 1) := by decide +kernel
set_option maxHeartbeats 4000000 in
set_option maxRecDepth 100000 in
theorem c_X6_in (l : Launch) (G : va_G) (cy : Nat → ClassId) (J1 : Int64) (J2 : Int64) (J3 : Int64)   : MR l yX6_in cX6_in 6 (some .boolean) 1 G cy [] [.long J1, .long J2, .long J3] (vp_Si (fun r => (r = 1 ∧ Iv J1 J2 J3) ∨ (r = 0 ∧ ¬ Iv J1 J2 J3))) := by
  refine enR RX6 (by decide) rfl (Nat.le_of_ble_eq_true rfl) (fun p e s m below meth c ls hx hb hml hown hts hr hlocks hP hN hl => ?_)
  have hK := hN.1
  have hl : lv_has ls 6 [(0, .long J1), (2, .long J2), (4, .long J3)] := hl
  refine lv_lload_n hx hb dX6_in_0 rfl (lv_at hl 0 rfl) ?_
  refine lv_lload_n hx hb dX6_in_1 rfl (lv_at hl 1 rfl) ?_
  refine W.lcmp hx hb dX6_in_2 ?_
  refine lv_if_lt (tgt := 17) hx hb dX6_in_3 (by decide) (fun c_1 => ?_) (fun c_1 => ?_)
  · refine lv_iconst (v := 0) hx hb dX6_in_17 (by decide) ?_
    exact endR hx hb hr hlocks rfl (Or.inr (⟨rfl, in_no1 c_1⟩)) dX6_in_18
  · refine lv_lload_n hx hb dX6_in_6 rfl (lv_at hl 0 rfl) ?_
    refine lv_lload hx hb dX6_in_7 (lv_at hl 2 rfl) ?_
    refine W.lcmp hx hb dX6_in_9 ?_
    refine lv_if_gt (tgt := 17) hx hb dX6_in_10 (by decide) (fun c_2 => ?_) (fun c_2 => ?_)
    · refine lv_iconst (v := 0) hx hb dX6_in_17 (by decide) ?_
      exact endR hx hb hr hlocks rfl (Or.inr (⟨rfl, in_no2 c_2⟩)) dX6_in_18
    · refine lv_iconst (v := 1) hx hb dX6_in_13 (by decide) ?_
      refine lv_goto (tgt := 18) hx hb dX6_in_14 (by decide) ?_
      exact endR hx hb hr hlocks rfl (Or.inl (⟨rfl, in_yes c_1 c_2⟩)) dX6_in_18
set_option maxHeartbeats 4000000 in
set_option maxRecDepth 100000 in
theorem c_X6_refuse2 (l : Launch) (G : va_G) (cy : Nat → ClassId) (sz : Nat) (qm : Nat) (v1 : Value) (v2 : Value) (v3 : Value) (v4 : Value) (v5 : Value) (v6 : Value) (v7 : Value) (v8 : Value) (v9 : Value) (qmr : Nat) (v10 : Value) (v11 : Value) (v12 : Value) (v13 : Value) (v14 : Value) (v15 : Value) (v16 : Value) (v17 : Value) (v18 : Value) (v19 : Value) (v20 : Value) (v21 : Value) (v22 : Value) (v23 : Value) (v24 : Value) (v25 : Value) (v26 : Value) (v27 : Value) (v28 : Value) (v29 : Value) (v30 : Value) (v31 : Value) (v32 : Value) (v33 : Value) (v34 : Value) (fR : Nat → Int32)   : MW l yX6_refuse cX6_refuse 2 (some .int) 1 0 0 G cy [(qm, .inr (5, [v1, v2, v3, v4, v5, v6, v7, v8, v9, .ref qmr, v10, v11, v12, v13, v14, v15, v16, v17, v18, v19, v20, v21, v22, v23, v24, v25, v26, v27, v28, v29, v30, v31, v32, v33, v34])), (qmr, .inl (cy 0, 8, .inl fR))] sz [.ref qm, .int (-2)] (Wi G (fun r u => u = [(qm, .inr (5, [v1, v2, v3, v4, v5, v6, v7, v8, v9, .ref qmr, v10, v11, v12, v13, v14, v15, v16, v17, v18, v19, v20, v21, v22, v23, v24, v25, v26, v27, v28, v29, v30, v31, v32, v33, v34]))] ∧ ((r = (-2))))) := by
  refine enW RX6 (by decide) rfl (Nat.le_of_ble_eq_true rfl) (fun p e s m below meth c ls A hx hb hml hown hts hr hlocks hP hN hl hin hD hA hS => ?_)
  have hin : meth.name = _ := hin
  have hK := hN.1
  have hl : lv_has ls 2 [(0, .ref qm), (1, .int (-2))] := hl
  refine lv_aload_n hx hb dX6_refuse_0 rfl (lv_at hl 0 rfl) ?_
  refine va_get (D := G) (ci := 5) (v := .ref qmr) (C := RX6) (T := TX6) (N := 35) hx hb hts iX_X6 hown hK hP 0 rfl rfl 9 (by decide) (hts _ m_t859) (fun _ h9 => h9) rfl dX6_refuse_1 ?_
  refine lv_iload_n hx hb dX6_refuse_4 rfl (lv_at hl 1 rfl) ?_
  refine lv_ineg hx hb dX6_refuse_5 ?_
  refine lv_seti (v := 2) (by decide) ?_
  refine lv_dup2_11 hx hb dX6_refuse_6 rfl rfl ?_
  refine va_iald hx hb hK hP 1 0 rfl rfl (in_c rfl) dX6_refuse_7 ?_
  refine lv_seti (v := fR 2) (congrArg fR (by decide)) ?_
  refine lv_iconst (v := 1) hx hb dX6_refuse_8 (by decide) ?_
  refine lv_iadd hx hb dX6_refuse_9 ?_
  refine va_iast hx hb hK hP hD hS 1 0 rfl rfl (in_c rfl) dX6_refuse_10 (fun H locs hP hD hS => ?_)
  have hP : va_P G CL [(qm, .inr (5, [v1, v2, v3, v4, v5, v6, v7, v8, v9, .ref qmr, v10, v11, v12, v13, v14, v15, v16, v17, v18, v19, v20, v21, v22, v23, v24, v25, v26, v27, v28, v29, v30, v31, v32, v33, v34])), (qmr, .inl (cy 0, 8, .inl (upd fR 2 ((fR 2) + 1))))] H := hP
  have hD : va_D A [(qm, .inr (5, [v1, v2, v3, v4, v5, v6, v7, v8, v9, .ref qmr, v10, v11, v12, v13, v14, v15, v16, v17, v18, v19, v20, v21, v22, v23, v24, v25, v26, v27, v28, v29, v30, v31, v32, v33, v34])), (qmr, .inl (cy 0, 8, .inl (upd fR 2 ((fR 2) + 1))))] := hD
  refine lv_iload_n hx hb dX6_refuse_11 rfl (lv_at hl 1 rfl) ?_
  exact endW (u := [(qm, .inr (5, [v1, v2, v3, v4, v5, v6, v7, v8, v9, .ref qmr, v10, v11, v12, v13, v14, v15, v16, v17, v18, v19, v20, v21, v22, v23, v24, v25, v26, v27, v28, v29, v30, v31, v32, v33, v34]))]) hx hb hr hlocks rfl (hP.sub [0] rfl) (hD.sub [0] (by decide) rfl) hS ⟨rfl, rfl⟩ dX6_refuse_12
set_option maxHeartbeats 4000000 in
set_option maxRecDepth 100000 in
theorem c_X6_refuse4 (l : Launch) (G : va_G) (cy : Nat → ClassId) (sz : Nat) (qm : Nat) (v1 : Value) (v2 : Value) (v3 : Value) (v4 : Value) (v5 : Value) (v6 : Value) (v7 : Value) (v8 : Value) (v9 : Value) (qmr : Nat) (v10 : Value) (v11 : Value) (v12 : Value) (v13 : Value) (v14 : Value) (v15 : Value) (v16 : Value) (v17 : Value) (v18 : Value) (v19 : Value) (v20 : Value) (v21 : Value) (v22 : Value) (v23 : Value) (v24 : Value) (v25 : Value) (v26 : Value) (v27 : Value) (v28 : Value) (v29 : Value) (v30 : Value) (v31 : Value) (v32 : Value) (v33 : Value) (v34 : Value) (fR : Nat → Int32)   : MW l yX6_refuse cX6_refuse 2 (some .int) 1 0 0 G cy [(qm, .inr (5, [v1, v2, v3, v4, v5, v6, v7, v8, v9, .ref qmr, v10, v11, v12, v13, v14, v15, v16, v17, v18, v19, v20, v21, v22, v23, v24, v25, v26, v27, v28, v29, v30, v31, v32, v33, v34])), (qmr, .inl (cy 0, 8, .inl fR))] sz [.ref qm, .int (-4)] (Wi G (fun r u => u = [(qm, .inr (5, [v1, v2, v3, v4, v5, v6, v7, v8, v9, .ref qmr, v10, v11, v12, v13, v14, v15, v16, v17, v18, v19, v20, v21, v22, v23, v24, v25, v26, v27, v28, v29, v30, v31, v32, v33, v34]))] ∧ ((r = (-4))))) := by
  refine enW RX6 (by decide) rfl (Nat.le_of_ble_eq_true rfl) (fun p e s m below meth c ls A hx hb hml hown hts hr hlocks hP hN hl hin hD hA hS => ?_)
  have hin : meth.name = _ := hin
  have hK := hN.1
  have hl : lv_has ls 2 [(0, .ref qm), (1, .int (-4))] := hl
  refine lv_aload_n hx hb dX6_refuse_0 rfl (lv_at hl 0 rfl) ?_
  refine va_get (D := G) (ci := 5) (v := .ref qmr) (C := RX6) (T := TX6) (N := 35) hx hb hts iX_X6 hown hK hP 0 rfl rfl 9 (by decide) (hts _ m_t859) (fun _ h9 => h9) rfl dX6_refuse_1 ?_
  refine lv_iload_n hx hb dX6_refuse_4 rfl (lv_at hl 1 rfl) ?_
  refine lv_ineg hx hb dX6_refuse_5 ?_
  refine lv_seti (v := 4) (by decide) ?_
  refine lv_dup2_11 hx hb dX6_refuse_6 rfl rfl ?_
  refine va_iald hx hb hK hP 1 0 rfl rfl (in_c rfl) dX6_refuse_7 ?_
  refine lv_seti (v := fR 4) (congrArg fR (by decide)) ?_
  refine lv_iconst (v := 1) hx hb dX6_refuse_8 (by decide) ?_
  refine lv_iadd hx hb dX6_refuse_9 ?_
  refine va_iast hx hb hK hP hD hS 1 0 rfl rfl (in_c rfl) dX6_refuse_10 (fun H locs hP hD hS => ?_)
  have hP : va_P G CL [(qm, .inr (5, [v1, v2, v3, v4, v5, v6, v7, v8, v9, .ref qmr, v10, v11, v12, v13, v14, v15, v16, v17, v18, v19, v20, v21, v22, v23, v24, v25, v26, v27, v28, v29, v30, v31, v32, v33, v34])), (qmr, .inl (cy 0, 8, .inl (upd fR 4 ((fR 4) + 1))))] H := hP
  have hD : va_D A [(qm, .inr (5, [v1, v2, v3, v4, v5, v6, v7, v8, v9, .ref qmr, v10, v11, v12, v13, v14, v15, v16, v17, v18, v19, v20, v21, v22, v23, v24, v25, v26, v27, v28, v29, v30, v31, v32, v33, v34])), (qmr, .inl (cy 0, 8, .inl (upd fR 4 ((fR 4) + 1))))] := hD
  refine lv_iload_n hx hb dX6_refuse_11 rfl (lv_at hl 1 rfl) ?_
  exact endW (u := [(qm, .inr (5, [v1, v2, v3, v4, v5, v6, v7, v8, v9, .ref qmr, v10, v11, v12, v13, v14, v15, v16, v17, v18, v19, v20, v21, v22, v23, v24, v25, v26, v27, v28, v29, v30, v31, v32, v33, v34]))]) hx hb hr hlocks rfl (hP.sub [0] rfl) (hD.sub [0] (by decide) rfl) hS ⟨rfl, rfl⟩ dX6_refuse_12
set_option maxHeartbeats 4000000 in
set_option maxRecDepth 100000 in
theorem c_X6_refuse5 (l : Launch) (G : va_G) (cy : Nat → ClassId) (sz : Nat) (qm : Nat) (v1 : Value) (v2 : Value) (v3 : Value) (v4 : Value) (v5 : Value) (v6 : Value) (v7 : Value) (v8 : Value) (v9 : Value) (qmr : Nat) (v10 : Value) (v11 : Value) (v12 : Value) (v13 : Value) (v14 : Value) (v15 : Value) (v16 : Value) (v17 : Value) (v18 : Value) (v19 : Value) (v20 : Value) (v21 : Value) (v22 : Value) (v23 : Value) (v24 : Value) (v25 : Value) (v26 : Value) (v27 : Value) (v28 : Value) (v29 : Value) (v30 : Value) (v31 : Value) (v32 : Value) (v33 : Value) (v34 : Value) (fR : Nat → Int32)   : MW l yX6_refuse cX6_refuse 2 (some .int) 1 0 0 G cy [(qm, .inr (5, [v1, v2, v3, v4, v5, v6, v7, v8, v9, .ref qmr, v10, v11, v12, v13, v14, v15, v16, v17, v18, v19, v20, v21, v22, v23, v24, v25, v26, v27, v28, v29, v30, v31, v32, v33, v34])), (qmr, .inl (cy 0, 8, .inl fR))] sz [.ref qm, .int (-5)] (Wi G (fun r u => u = [(qm, .inr (5, [v1, v2, v3, v4, v5, v6, v7, v8, v9, .ref qmr, v10, v11, v12, v13, v14, v15, v16, v17, v18, v19, v20, v21, v22, v23, v24, v25, v26, v27, v28, v29, v30, v31, v32, v33, v34]))] ∧ ((r = (-5))))) := by
  refine enW RX6 (by decide) rfl (Nat.le_of_ble_eq_true rfl) (fun p e s m below meth c ls A hx hb hml hown hts hr hlocks hP hN hl hin hD hA hS => ?_)
  have hin : meth.name = _ := hin
  have hK := hN.1
  have hl : lv_has ls 2 [(0, .ref qm), (1, .int (-5))] := hl
  refine lv_aload_n hx hb dX6_refuse_0 rfl (lv_at hl 0 rfl) ?_
  refine va_get (D := G) (ci := 5) (v := .ref qmr) (C := RX6) (T := TX6) (N := 35) hx hb hts iX_X6 hown hK hP 0 rfl rfl 9 (by decide) (hts _ m_t859) (fun _ h9 => h9) rfl dX6_refuse_1 ?_
  refine lv_iload_n hx hb dX6_refuse_4 rfl (lv_at hl 1 rfl) ?_
  refine lv_ineg hx hb dX6_refuse_5 ?_
  refine lv_seti (v := 5) (by decide) ?_
  refine lv_dup2_11 hx hb dX6_refuse_6 rfl rfl ?_
  refine va_iald hx hb hK hP 1 0 rfl rfl (in_c rfl) dX6_refuse_7 ?_
  refine lv_seti (v := fR 5) (congrArg fR (by decide)) ?_
  refine lv_iconst (v := 1) hx hb dX6_refuse_8 (by decide) ?_
  refine lv_iadd hx hb dX6_refuse_9 ?_
  refine va_iast hx hb hK hP hD hS 1 0 rfl rfl (in_c rfl) dX6_refuse_10 (fun H locs hP hD hS => ?_)
  have hP : va_P G CL [(qm, .inr (5, [v1, v2, v3, v4, v5, v6, v7, v8, v9, .ref qmr, v10, v11, v12, v13, v14, v15, v16, v17, v18, v19, v20, v21, v22, v23, v24, v25, v26, v27, v28, v29, v30, v31, v32, v33, v34])), (qmr, .inl (cy 0, 8, .inl (upd fR 5 ((fR 5) + 1))))] H := hP
  have hD : va_D A [(qm, .inr (5, [v1, v2, v3, v4, v5, v6, v7, v8, v9, .ref qmr, v10, v11, v12, v13, v14, v15, v16, v17, v18, v19, v20, v21, v22, v23, v24, v25, v26, v27, v28, v29, v30, v31, v32, v33, v34])), (qmr, .inl (cy 0, 8, .inl (upd fR 5 ((fR 5) + 1))))] := hD
  refine lv_iload_n hx hb dX6_refuse_11 rfl (lv_at hl 1 rfl) ?_
  exact endW (u := [(qm, .inr (5, [v1, v2, v3, v4, v5, v6, v7, v8, v9, .ref qmr, v10, v11, v12, v13, v14, v15, v16, v17, v18, v19, v20, v21, v22, v23, v24, v25, v26, v27, v28, v29, v30, v31, v32, v33, v34]))]) hx hb hr hlocks rfl (hP.sub [0] rfl) (hD.sub [0] (by decide) rfl) hS ⟨rfl, rfl⟩ dX6_refuse_12
set_option maxHeartbeats 4000000 in
set_option maxRecDepth 100000 in
theorem c_X6_isBook (l : Launch) (G : va_G) (cy : Nat → ClassId) (qm : Nat) (v1 : Value) (v2 : Value) (v3 : Value) (v4 : Value) (v5 : Value) (v6 : Value) (v7 : Value) (v8 : Value) (v9 : Value) (v10 : Value) (v11 : Value) (v12 : Value) (v13 : Value) (v14 : Value) (v15 : Value) (v16 : Value) (v17 : Value) (v18 : Value) (v19 : Value) (v20 : Value) (v21 : Value) (v22 : Value) (v23 : Value) (v24 : Value) (v25 : Value) (v26 : Value) (v27 : Value) (v28 : Value) (v29 : Value) (v30 : Value) (v31 : Value) (v32 : Value) (v33 : Value) (v34 : Value) (J1 : Int64)   : MR l yX6_isBook cX6_isBook 3 (some .boolean) 2 G cy [(qm, .inr (5, [v1, v2, v3, v4, v5, v6, v7, v8, v9, v10, .int 0, v11, v12, v13, v14, v15, v16, v17, v18, v19, v20, v21, v22, v23, v24, v25, v26, v27, v28, v29, v30, v31, v32, v33, v34]))] [.ref qm, .long J1] (vp_Si (fun r => (r = 0))) := by
  refine enR RX6 (by decide) rfl (Nat.le_of_ble_eq_true rfl) (fun p e s m below meth c ls hx hb hml hown hts hr hlocks hP hN hl => ?_)
  have hK := hN.1
  have hl : lv_has ls 3 [(0, .ref qm), (1, .long J1)] := hl
  refine lv_lload_n hx hb dX6_isBook_0 rfl (lv_at hl 1 rfl) ?_
  refine lv_lconst (v := 0) hx hb dX6_isBook_1 (by decide) ?_
  refine lv_aload_n hx hb dX6_isBook_2 rfl (lv_at hl 0 rfl) ?_
  refine va_get (D := G) (ci := 5) (v := .int 0) (C := RX6) (T := TX6) (N := 35) hx hb hts iX_X6 hown hK hP 0 rfl rfl 10 (by decide) (hts _ m_t860) (fun _ h9 => h9) rfl dX6_isBook_3 ?_
  refine lv_iconst (v := 1) hx hb dX6_isBook_6 (by decide) ?_
  refine lv_isub hx hb dX6_isBook_7 ?_
  refine lv_seti (v := (-1)) (by decide) ?_
  refine lv_i2l (v := (-1)) hx hb dX6_isBook_8 (by decide) ?_
  refine kRi (rS (As := [.long J1, .long 0, .long (-1)]) (rest := []) ⟨hx, hb, hml, hown, hts⟩ (c_X6_in l G cy J1 0 (-1)) L_X6_74 (preRS hN hP [] rfl) rfl ⟨Nat.le_of_ble_eq_true rfl, Nat.le_of_ble_eq_true rfl⟩ hl.1 (Nat.le_of_ble_eq_true rfl) dX6_isBook_9 ⟨Nat.le_of_ble_eq_true rfl, Nat.le_of_ble_eq_true rfl⟩) (fun r_1 h_2 => ?_)
  rcases h_2 with ⟨rfl, h_3⟩ | ⟨rfl, h_3⟩
  · exact (in_m1 h_3).elim
  · exact endR hx hb hr hlocks rfl rfl dX6_isBook_12
set_option maxHeartbeats 4000000 in
set_option maxRecDepth 100000 in
theorem c_X6_isOne (l : Launch) (G : va_G) (cy : Nat → ClassId) (qm : Nat) (v1 : Value) (v2 : Value) (v3 : Value) (v4 : Value) (v5 : Value) (v6 : Value) (v7 : Value) (v8 : Value) (v9 : Value) (v10 : Value) (v11 : Value) (v12 : Value) (v13 : Value) (v14 : Value) (v15 : Value) (v16 : Value) (v17 : Value) (v18 : Value) (v19 : Value) (v20 : Value) (v21 : Value) (v22 : Value) (v23 : Value) (v24 : Value) (v25 : Value) (v26 : Value) (v27 : Value) (v28 : Value) (v29 : Value) (v30 : Value) (v31 : Value) (v32 : Value) (v33 : Value) (v34 : Value) (J1 : Int64)   : MR l yX6_isOne cX6_isOne 3 (some .boolean) 2 G cy [(qm, .inr (5, [v1, v2, v3, v4, v5, v6, v7, v8, v9, v10, v11, v12, .int 0, v13, v14, v15, v16, v17, v18, v19, v20, v21, v22, v23, v24, v25, v26, v27, v28, v29, v30, v31, v32, v33, v34]))] [.ref qm, .long J1] (vp_Si (fun r => (r = 0))) := by
  refine enR RX6 (by decide) rfl (Nat.le_of_ble_eq_true rfl) (fun p e s m below meth c ls hx hb hml hown hts hr hlocks hP hN hl => ?_)
  have hK := hN.1
  have hl : lv_has ls 3 [(0, .ref qm), (1, .long J1)] := hl
  refine lv_lload_n hx hb dX6_isOne_0 rfl (lv_at hl 1 rfl) ?_
  refine lv_lconst (v := 0) hx hb dX6_isOne_1 (by decide) ?_
  refine lv_aload_n hx hb dX6_isOne_2 rfl (lv_at hl 0 rfl) ?_
  refine va_get (D := G) (ci := 5) (v := .int 0) (C := RX6) (T := TX6) (N := 35) hx hb hts iX_X6 hown hK hP 0 rfl rfl 12 (by decide) (hts _ m_t862) (fun _ h9 => h9) rfl dX6_isOne_3 ?_
  refine lv_iconst (v := 1) hx hb dX6_isOne_6 (by decide) ?_
  refine lv_isub hx hb dX6_isOne_7 ?_
  refine lv_seti (v := (-1)) (by decide) ?_
  refine lv_i2l (v := (-1)) hx hb dX6_isOne_8 (by decide) ?_
  refine kRi (rS (As := [.long J1, .long 0, .long (-1)]) (rest := []) ⟨hx, hb, hml, hown, hts⟩ (c_X6_in l G cy J1 0 (-1)) L_X6_74 (preRS hN hP [] rfl) rfl ⟨Nat.le_of_ble_eq_true rfl, Nat.le_of_ble_eq_true rfl⟩ hl.1 (Nat.le_of_ble_eq_true rfl) dX6_isOne_9 ⟨Nat.le_of_ble_eq_true rfl, Nat.le_of_ble_eq_true rfl⟩) (fun r_1 h_2 => ?_)
  rcases h_2 with ⟨rfl, h_3⟩ | ⟨rfl, h_3⟩
  · exact (in_m1 h_3).elim
  · exact endR hx hb hr hlocks rfl rfl dX6_isOne_12
set_option maxHeartbeats 4000000 in
set_option maxRecDepth 100000 in
theorem c_X6_thereMany (l : Launch) (G : va_G) (cy : Nat → ClassId) (qm : Nat) (v1 : Value) (v2 : Value) (v3 : Value) (v4 : Value) (v5 : Value) (v6 : Value) (v7 : Value) (v8 : Value) (v9 : Value) (v10 : Value) (v11 : Value) (v12 : Value) (v13 : Value) (v14 : Value) (v15 : Value) (v16 : Value) (v17 : Value) (v18 : Value) (v19 : Value) (v20 : Value) (v21 : Value) (v22 : Value) (v23 : Value) (v24 : Value) (v25 : Value) (v26 : Value) (v27 : Value) (v28 : Value) (v29 : Value) (v30 : Value) (v31 : Value) (v32 : Value) (v33 : Value) (v34 : Value)   : MR l yX6_thereMany cX6_thereMany 3 (some .int) 1 G cy [(qm, .inr (5, [v1, v2, v3, v4, v5, v6, v7, v8, v9, v10, v11, v12, .int 0, v13, v14, v15, v16, v17, v18, v19, v20, v21, v22, v23, v24, v25, v26, v27, v28, v29, v30, v31, v32, v33, v34]))] [.ref qm] (vp_Si (fun r => (r = 0))) := by
  refine enR RX6 (by decide) rfl (Nat.le_of_ble_eq_true rfl) (fun p e s m below meth c ls hx hb hml hown hts hr hlocks hP hN hl => ?_)
  have hK := hN.1
  have hl : lv_has ls 3 [(0, .ref qm)] := hl
  refine lv_iconst (v := 0) hx hb dX6_thereMany_0 (by decide) ?_
  refine lv_istore_n (lv' := [(1, .int 0), (0, .ref qm)]) hx hb dX6_thereMany_1 rfl hl (by decide) rfl (fun ls hl => ?_)
  refine lv_iconst (v := 0) hx hb dX6_thereMany_2 (by decide) ?_
  refine lv_istore_n (lv' := [(2, .int 0), (1, .int 0), (0, .ref qm)]) hx hb dX6_thereMany_3 rfl hl (by decide) rfl (fun ls hl => ?_)
  refine lv_iload_n hx hb dX6_thereMany_4 rfl (lv_at hl 0 rfl) ?_
  refine lv_aload_n hx hb dX6_thereMany_5 rfl (lv_at hl 2 rfl) ?_
  refine va_get (D := G) (ci := 5) (v := .int 0) (C := RX6) (T := TX6) (N := 35) hx hb hts iX_X6 hown hK hP 0 rfl rfl 12 (by decide) (hts _ m_t862) (fun _ h9 => h9) rfl dX6_thereMany_6 ?_
  refine lv_icmp_ge (tgt := 34) hx hb dX6_thereMany_9 (by decide) (fun _ => ?_) (fun h9 => absurd (by decide) h9)
  refine lv_iload_n hx hb dX6_thereMany_34 rfl (lv_at hl 1 rfl) ?_
  exact endR hx hb hr hlocks rfl rfl dX6_thereMany_35
set_option maxHeartbeats 4000000 in
set_option maxRecDepth 100000 in
theorem c_X6_whiteMany (l : Launch) (G : va_G) (cy : Nat → ClassId) (qm : Nat) (v1 : Value) (v2 : Value) (v3 : Value) (v4 : Value) (v5 : Value) (v6 : Value) (v7 : Value) (v8 : Value) (v9 : Value) (v10 : Value) (v11 : Value) (v12 : Value) (v13 : Value) (v14 : Value) (v15 : Value) (v16 : Value) (v17 : Value) (v18 : Value) (v19 : Value) (v20 : Value) (v21 : Value) (v22 : Value) (v23 : Value) (v24 : Value) (v25 : Value) (v26 : Value) (v27 : Value) (v28 : Value) (v29 : Value) (v30 : Value) (v31 : Value) (v32 : Value) (v33 : Value) (v34 : Value)   : MR l yX6_whiteMany cX6_whiteMany 3 (some .int) 1 G cy [(qm, .inr (5, [v1, v2, v3, v4, v5, v6, v7, v8, v9, v10, .int 0, v11, v12, v13, v14, v15, v16, v17, v18, v19, v20, v21, v22, v23, v24, v25, v26, v27, v28, v29, v30, v31, v32, v33, v34]))] [.ref qm] (vp_Si (fun r => (r = 0))) := by
  refine enR RX6 (by decide) rfl (Nat.le_of_ble_eq_true rfl) (fun p e s m below meth c ls hx hb hml hown hts hr hlocks hP hN hl => ?_)
  have hK := hN.1
  have hl : lv_has ls 3 [(0, .ref qm)] := hl
  refine lv_iconst (v := 0) hx hb dX6_whiteMany_0 (by decide) ?_
  refine lv_istore_n (lv' := [(1, .int 0), (0, .ref qm)]) hx hb dX6_whiteMany_1 rfl hl (by decide) rfl (fun ls hl => ?_)
  refine lv_iconst (v := 0) hx hb dX6_whiteMany_2 (by decide) ?_
  refine lv_istore_n (lv' := [(2, .int 0), (1, .int 0), (0, .ref qm)]) hx hb dX6_whiteMany_3 rfl hl (by decide) rfl (fun ls hl => ?_)
  refine lv_iload_n hx hb dX6_whiteMany_4 rfl (lv_at hl 0 rfl) ?_
  refine lv_aload_n hx hb dX6_whiteMany_5 rfl (lv_at hl 2 rfl) ?_
  refine va_get (D := G) (ci := 5) (v := .int 0) (C := RX6) (T := TX6) (N := 35) hx hb hts iX_X6 hown hK hP 0 rfl rfl 10 (by decide) (hts _ m_t860) (fun _ h9 => h9) rfl dX6_whiteMany_6 ?_
  refine lv_icmp_ge (tgt := 29) hx hb dX6_whiteMany_9 (by decide) (fun _ => ?_) (fun h9 => absurd (by decide) h9)
  refine lv_iload_n hx hb dX6_whiteMany_29 rfl (lv_at hl 1 rfl) ?_
  exact endR hx hb hr hlocks rfl rfl dX6_whiteMany_30
set_option maxHeartbeats 4000000 in
set_option maxRecDepth 100000 in
theorem c_X6_bits0 (l : Launch) (G : va_G) (cy : Nat → ClassId)    : MR l yX6_bits cX6_bits 3 (some .int) 1 G cy [] [.int 0] (vp_Si (fun r => (r = 0))) := by
  refine enR RX6 (by decide) rfl (Nat.le_of_ble_eq_true rfl) (fun p e s m below meth c ls hx hb hml hown hts hr hlocks hP hN hl => ?_)
  have hK := hN.1
  have hl : lv_has ls 3 [(0, .int 0)] := hl
  refine lv_iconst (v := 0) hx hb dX6_bits_0 (by decide) ?_
  refine lv_istore_n (lv' := [(1, .int 0), (0, .int 0)]) hx hb dX6_bits_1 rfl hl (by decide) rfl (fun ls hl => ?_)
  refine lv_iconst (v := 0) hx hb dX6_bits_2 (by decide) ?_
  refine lv_istore_n (lv' := [(2, .int 0), (1, .int 0), (0, .int 0)]) hx hb dX6_bits_3 rfl hl (by decide) rfl (fun ls hl => ?_)
  refine lv_iload_n hx hb dX6_bits_4 rfl (lv_at hl 0 rfl) ?_
  refine lv_bipush (v := 8) hx hb dX6_bits_5 (by decide) ?_
  refine lv_icmp_ge (tgt := 24) hx hb dX6_bits_7 (by decide) (fun h9 => absurd h9 (by decide)) (fun _ => ?_)
  refine lv_iload_n hx hb dX6_bits_10 rfl (lv_at hl 1 rfl) ?_
  refine lv_iload_n hx hb dX6_bits_11 rfl (lv_at hl 2 rfl) ?_
  refine lv_iload_n hx hb dX6_bits_12 rfl (lv_at hl 0 rfl) ?_
  refine lv_ishr hx hb dX6_bits_13 ?_
  refine lv_seti (v := 0) (by decide) ?_
  refine lv_iconst (v := 1) hx hb dX6_bits_14 (by decide) ?_
  refine lv_iand hx hb dX6_bits_15 ?_
  refine lv_seti (v := 0) (by decide) ?_
  refine lv_iadd hx hb dX6_bits_16 ?_
  refine lv_seti (v := 0) (by decide) ?_
  refine lv_istore_n (lv' := [(1, .int 0), (2, .int 0), (0, .int 0)]) hx hb dX6_bits_17 rfl hl (by decide) rfl (fun ls hl => ?_)
  refine lv_iinc (v := 1) (lv' := [(2, .int 1), (1, .int 0), (0, .int 0)]) hx hb dX6_bits_18 hl (k := 1) rfl (by decide) (by decide) rfl (fun ls hl => ?_)
  refine lv_goto (tgt := 4) hx hb dX6_bits_21 (by decide) ?_
  refine lv_iload_n hx hb dX6_bits_4 rfl (lv_at hl 0 rfl) ?_
  refine lv_bipush (v := 8) hx hb dX6_bits_5 (by decide) ?_
  refine lv_icmp_ge (tgt := 24) hx hb dX6_bits_7 (by decide) (fun h9 => absurd h9 (by decide)) (fun _ => ?_)
  refine lv_iload_n hx hb dX6_bits_10 rfl (lv_at hl 1 rfl) ?_
  refine lv_iload_n hx hb dX6_bits_11 rfl (lv_at hl 2 rfl) ?_
  refine lv_iload_n hx hb dX6_bits_12 rfl (lv_at hl 0 rfl) ?_
  refine lv_ishr hx hb dX6_bits_13 ?_
  refine lv_seti (v := 0) (by decide) ?_
  refine lv_iconst (v := 1) hx hb dX6_bits_14 (by decide) ?_
  refine lv_iand hx hb dX6_bits_15 ?_
  refine lv_seti (v := 0) (by decide) ?_
  refine lv_iadd hx hb dX6_bits_16 ?_
  refine lv_seti (v := 0) (by decide) ?_
  refine lv_istore_n (lv' := [(1, .int 0), (2, .int 1), (0, .int 0)]) hx hb dX6_bits_17 rfl hl (by decide) rfl (fun ls hl => ?_)
  refine lv_iinc (v := 2) (lv' := [(2, .int 2), (1, .int 0), (0, .int 0)]) hx hb dX6_bits_18 hl (k := 1) rfl (by decide) (by decide) rfl (fun ls hl => ?_)
  refine lv_goto (tgt := 4) hx hb dX6_bits_21 (by decide) ?_
  refine lv_iload_n hx hb dX6_bits_4 rfl (lv_at hl 0 rfl) ?_
  refine lv_bipush (v := 8) hx hb dX6_bits_5 (by decide) ?_
  refine lv_icmp_ge (tgt := 24) hx hb dX6_bits_7 (by decide) (fun h9 => absurd h9 (by decide)) (fun _ => ?_)
  refine lv_iload_n hx hb dX6_bits_10 rfl (lv_at hl 1 rfl) ?_
  refine lv_iload_n hx hb dX6_bits_11 rfl (lv_at hl 2 rfl) ?_
  refine lv_iload_n hx hb dX6_bits_12 rfl (lv_at hl 0 rfl) ?_
  refine lv_ishr hx hb dX6_bits_13 ?_
  refine lv_seti (v := 0) (by decide) ?_
  refine lv_iconst (v := 1) hx hb dX6_bits_14 (by decide) ?_
  refine lv_iand hx hb dX6_bits_15 ?_
  refine lv_seti (v := 0) (by decide) ?_
  refine lv_iadd hx hb dX6_bits_16 ?_
  refine lv_seti (v := 0) (by decide) ?_
  refine lv_istore_n (lv' := [(1, .int 0), (2, .int 2), (0, .int 0)]) hx hb dX6_bits_17 rfl hl (by decide) rfl (fun ls hl => ?_)
  refine lv_iinc (v := 3) (lv' := [(2, .int 3), (1, .int 0), (0, .int 0)]) hx hb dX6_bits_18 hl (k := 1) rfl (by decide) (by decide) rfl (fun ls hl => ?_)
  refine lv_goto (tgt := 4) hx hb dX6_bits_21 (by decide) ?_
  refine lv_iload_n hx hb dX6_bits_4 rfl (lv_at hl 0 rfl) ?_
  refine lv_bipush (v := 8) hx hb dX6_bits_5 (by decide) ?_
  refine lv_icmp_ge (tgt := 24) hx hb dX6_bits_7 (by decide) (fun h9 => absurd h9 (by decide)) (fun _ => ?_)
  refine lv_iload_n hx hb dX6_bits_10 rfl (lv_at hl 1 rfl) ?_
  refine lv_iload_n hx hb dX6_bits_11 rfl (lv_at hl 2 rfl) ?_
  refine lv_iload_n hx hb dX6_bits_12 rfl (lv_at hl 0 rfl) ?_
  refine lv_ishr hx hb dX6_bits_13 ?_
  refine lv_seti (v := 0) (by decide) ?_
  refine lv_iconst (v := 1) hx hb dX6_bits_14 (by decide) ?_
  refine lv_iand hx hb dX6_bits_15 ?_
  refine lv_seti (v := 0) (by decide) ?_
  refine lv_iadd hx hb dX6_bits_16 ?_
  refine lv_seti (v := 0) (by decide) ?_
  refine lv_istore_n (lv' := [(1, .int 0), (2, .int 3), (0, .int 0)]) hx hb dX6_bits_17 rfl hl (by decide) rfl (fun ls hl => ?_)
  refine lv_iinc (v := 4) (lv' := [(2, .int 4), (1, .int 0), (0, .int 0)]) hx hb dX6_bits_18 hl (k := 1) rfl (by decide) (by decide) rfl (fun ls hl => ?_)
  refine lv_goto (tgt := 4) hx hb dX6_bits_21 (by decide) ?_
  refine lv_iload_n hx hb dX6_bits_4 rfl (lv_at hl 0 rfl) ?_
  refine lv_bipush (v := 8) hx hb dX6_bits_5 (by decide) ?_
  refine lv_icmp_ge (tgt := 24) hx hb dX6_bits_7 (by decide) (fun h9 => absurd h9 (by decide)) (fun _ => ?_)
  refine lv_iload_n hx hb dX6_bits_10 rfl (lv_at hl 1 rfl) ?_
  refine lv_iload_n hx hb dX6_bits_11 rfl (lv_at hl 2 rfl) ?_
  refine lv_iload_n hx hb dX6_bits_12 rfl (lv_at hl 0 rfl) ?_
  refine lv_ishr hx hb dX6_bits_13 ?_
  refine lv_seti (v := 0) (by decide) ?_
  refine lv_iconst (v := 1) hx hb dX6_bits_14 (by decide) ?_
  refine lv_iand hx hb dX6_bits_15 ?_
  refine lv_seti (v := 0) (by decide) ?_
  refine lv_iadd hx hb dX6_bits_16 ?_
  refine lv_seti (v := 0) (by decide) ?_
  refine lv_istore_n (lv' := [(1, .int 0), (2, .int 4), (0, .int 0)]) hx hb dX6_bits_17 rfl hl (by decide) rfl (fun ls hl => ?_)
  refine lv_iinc (v := 5) (lv' := [(2, .int 5), (1, .int 0), (0, .int 0)]) hx hb dX6_bits_18 hl (k := 1) rfl (by decide) (by decide) rfl (fun ls hl => ?_)
  refine lv_goto (tgt := 4) hx hb dX6_bits_21 (by decide) ?_
  refine lv_iload_n hx hb dX6_bits_4 rfl (lv_at hl 0 rfl) ?_
  refine lv_bipush (v := 8) hx hb dX6_bits_5 (by decide) ?_
  refine lv_icmp_ge (tgt := 24) hx hb dX6_bits_7 (by decide) (fun h9 => absurd h9 (by decide)) (fun _ => ?_)
  refine lv_iload_n hx hb dX6_bits_10 rfl (lv_at hl 1 rfl) ?_
  refine lv_iload_n hx hb dX6_bits_11 rfl (lv_at hl 2 rfl) ?_
  refine lv_iload_n hx hb dX6_bits_12 rfl (lv_at hl 0 rfl) ?_
  refine lv_ishr hx hb dX6_bits_13 ?_
  refine lv_seti (v := 0) (by decide) ?_
  refine lv_iconst (v := 1) hx hb dX6_bits_14 (by decide) ?_
  refine lv_iand hx hb dX6_bits_15 ?_
  refine lv_seti (v := 0) (by decide) ?_
  refine lv_iadd hx hb dX6_bits_16 ?_
  refine lv_seti (v := 0) (by decide) ?_
  refine lv_istore_n (lv' := [(1, .int 0), (2, .int 5), (0, .int 0)]) hx hb dX6_bits_17 rfl hl (by decide) rfl (fun ls hl => ?_)
  refine lv_iinc (v := 6) (lv' := [(2, .int 6), (1, .int 0), (0, .int 0)]) hx hb dX6_bits_18 hl (k := 1) rfl (by decide) (by decide) rfl (fun ls hl => ?_)
  refine lv_goto (tgt := 4) hx hb dX6_bits_21 (by decide) ?_
  refine lv_iload_n hx hb dX6_bits_4 rfl (lv_at hl 0 rfl) ?_
  refine lv_bipush (v := 8) hx hb dX6_bits_5 (by decide) ?_
  refine lv_icmp_ge (tgt := 24) hx hb dX6_bits_7 (by decide) (fun h9 => absurd h9 (by decide)) (fun _ => ?_)
  refine lv_iload_n hx hb dX6_bits_10 rfl (lv_at hl 1 rfl) ?_
  refine lv_iload_n hx hb dX6_bits_11 rfl (lv_at hl 2 rfl) ?_
  refine lv_iload_n hx hb dX6_bits_12 rfl (lv_at hl 0 rfl) ?_
  refine lv_ishr hx hb dX6_bits_13 ?_
  refine lv_seti (v := 0) (by decide) ?_
  refine lv_iconst (v := 1) hx hb dX6_bits_14 (by decide) ?_
  refine lv_iand hx hb dX6_bits_15 ?_
  refine lv_seti (v := 0) (by decide) ?_
  refine lv_iadd hx hb dX6_bits_16 ?_
  refine lv_seti (v := 0) (by decide) ?_
  refine lv_istore_n (lv' := [(1, .int 0), (2, .int 6), (0, .int 0)]) hx hb dX6_bits_17 rfl hl (by decide) rfl (fun ls hl => ?_)
  refine lv_iinc (v := 7) (lv' := [(2, .int 7), (1, .int 0), (0, .int 0)]) hx hb dX6_bits_18 hl (k := 1) rfl (by decide) (by decide) rfl (fun ls hl => ?_)
  refine lv_goto (tgt := 4) hx hb dX6_bits_21 (by decide) ?_
  refine lv_iload_n hx hb dX6_bits_4 rfl (lv_at hl 0 rfl) ?_
  refine lv_bipush (v := 8) hx hb dX6_bits_5 (by decide) ?_
  refine lv_icmp_ge (tgt := 24) hx hb dX6_bits_7 (by decide) (fun h9 => absurd h9 (by decide)) (fun _ => ?_)
  refine lv_iload_n hx hb dX6_bits_10 rfl (lv_at hl 1 rfl) ?_
  refine lv_iload_n hx hb dX6_bits_11 rfl (lv_at hl 2 rfl) ?_
  refine lv_iload_n hx hb dX6_bits_12 rfl (lv_at hl 0 rfl) ?_
  refine lv_ishr hx hb dX6_bits_13 ?_
  refine lv_seti (v := 0) (by decide) ?_
  refine lv_iconst (v := 1) hx hb dX6_bits_14 (by decide) ?_
  refine lv_iand hx hb dX6_bits_15 ?_
  refine lv_seti (v := 0) (by decide) ?_
  refine lv_iadd hx hb dX6_bits_16 ?_
  refine lv_seti (v := 0) (by decide) ?_
  refine lv_istore_n (lv' := [(1, .int 0), (2, .int 7), (0, .int 0)]) hx hb dX6_bits_17 rfl hl (by decide) rfl (fun ls hl => ?_)
  refine lv_iinc (v := 8) (lv' := [(2, .int 8), (1, .int 0), (0, .int 0)]) hx hb dX6_bits_18 hl (k := 1) rfl (by decide) (by decide) rfl (fun ls hl => ?_)
  refine lv_goto (tgt := 4) hx hb dX6_bits_21 (by decide) ?_
  refine lv_iload_n hx hb dX6_bits_4 rfl (lv_at hl 0 rfl) ?_
  refine lv_bipush (v := 8) hx hb dX6_bits_5 (by decide) ?_
  refine lv_icmp_ge (tgt := 24) hx hb dX6_bits_7 (by decide) (fun _ => ?_) (fun h9 => absurd (by decide) h9)
  refine lv_iload_n hx hb dX6_bits_24 rfl (lv_at hl 1 rfl) ?_
  exact endR hx hb hr hlocks rfl rfl dX6_bits_25
set_option maxHeartbeats 4000000 in
set_option maxRecDepth 100000 in
theorem c_X6_noRow (l : Launch) (G : va_G) (cy : Nat → ClassId) (sz : Nat) (qm : Nat) (qms : Nat) (v1 : Value) (v2 : Value) (v3 : Value) (v4 : Value) (v5 : Value) (v6 : Value) (v7 : Value) (v8 : Value) (qmr : Nat) (v9 : Value) (v10 : Value) (v11 : Value) (v12 : Value) (v13 : Value) (v14 : Value) (v15 : Value) (v16 : Value) (v17 : Value) (v18 : Value) (v19 : Value) (v20 : Value) (v21 : Value) (v22 : Value) (v23 : Value) (v24 : Value) (v25 : Value) (v26 : Value) (v27 : Value) (v28 : Value) (v29 : Value) (v30 : Value) (v31 : Value) (v32 : Value) (v33 : Value) (iA : Int32)   : MW l yX6_noRow cX6_noRow 2 (some .int) 2 0 0 G cy [(qm, .inr (5, [.ref qms, v1, v2, v3, v4, v5, v6, v7, v8, .ref qmr, v9, v10, v11, v12, v13, v14, v15, v16, v17, v18, v19, v20, v21, v22, v23, v24, v25, v26, v27, v28, v29, v30, v31, v32, v33])), (qms, .inl (cy 0, 8, .inl (fun _ => 0))), (qmr, .inl (cy 0, 8, .inl (fun _ => 0)))] sz [.ref qm, .int iA] (Wi G (fun r u => u = [] ∧ ((r = (-2) ∧ ¬ Iv iA.toInt64 0 7) ∨ (r = (-4) ∧ Iv iA.toInt64 0 7)))) := by
  refine enW RX6 (by decide) rfl (Nat.le_of_ble_eq_true rfl) (fun p e s m below meth c ls A hx hb hml hown hts hr hlocks hP hN hl hin hD hA hS => ?_)
  have hin : meth.name = _ := hin
  have hK := hN.1
  have hl : lv_has ls 2 [(0, .ref qm), (1, .int iA)] := hl
  refine lv_iload_n hx hb dX6_noRow_0 rfl (lv_at hl 1 rfl) ?_
  refine lv_i2l (v := iA.toInt64) hx hb dX6_noRow_1 rfl ?_
  refine lv_lconst (v := 0) hx hb dX6_noRow_2 (by decide) ?_
  refine lv_ldc2 hx hb hown (hts _ m_t960) dX6_noRow_3 ?_
  refine kRi (rS (As := [.long iA.toInt64, .long 0, .long 7]) (rest := []) ⟨hx, hb, hml, hown, hts⟩ (c_X6_in l G cy iA.toInt64 0 7) L_X6_74 (preRS hN hP [] rfl) rfl ⟨Nat.le_of_ble_eq_true rfl, Nat.le_of_ble_eq_true rfl⟩ hl.1 (Nat.le_of_ble_eq_true rfl) dX6_noRow_6 ⟨Nat.le_of_ble_eq_true rfl, Nat.le_of_ble_eq_true rfl⟩) (fun r_1 h_2 => ?_)
  rcases h_2 with ⟨rfl, h_3⟩ | ⟨rfl, h_3⟩
  · refine lv_if_ne (tgt := 19) hx hb dX6_noRow_9 (by decide) (fun _ => ?_) (fun h9 => absurd h9 (by decide))
    refine lv_aload_n hx hb dX6_noRow_19 rfl (lv_at hl 0 rfl) ?_
    refine va_get (D := G) (ci := 5) (v := .ref qms) (C := RX6) (T := TX6) (N := 35) hx hb hts iX_X6 hown hK hP 0 rfl rfl 0 (by decide) (hts _ m_t850) (fun _ h9 => h9) rfl dX6_noRow_20 ?_
    refine lv_iload_n hx hb dX6_noRow_23 rfl (lv_at hl 1 rfl) ?_
    refine va_iald hx hb hK hP 1 0 rfl rfl (in_shelf h_3) dX6_noRow_24 ?_
    refine lv_seti (v := 0) rfl ?_
    refine lv_iconst (v := 2) hx hb dX6_noRow_25 (by decide) ?_
    refine lv_icmp_ne (tgt := 36) hx hb dX6_noRow_26 (by decide) (fun _ => ?_) (fun h9 => absurd h9 (by decide))
    refine lv_aload_n hx hb dX6_noRow_36 rfl (lv_at hl 0 rfl) ?_
    refine va_get (D := G) (ci := 5) (v := .ref qms) (C := RX6) (T := TX6) (N := 35) hx hb hts iX_X6 hown hK hP 0 rfl rfl 0 (by decide) (hts _ m_t850) (fun _ h9 => h9) rfl dX6_noRow_37 ?_
    refine lv_iload_n hx hb dX6_noRow_40 rfl (lv_at hl 1 rfl) ?_
    refine va_iald hx hb hK hP 1 0 rfl rfl (in_shelf h_3) dX6_noRow_41 ?_
    refine lv_seti (v := 0) rfl ?_
    refine lv_if_ne (tgt := 54) hx hb dX6_noRow_42 (by decide) (fun h9 => absurd (by decide) h9) (fun _ => ?_)
    refine lv_aload_n hx hb dX6_noRow_45 rfl (lv_at hl 0 rfl) ?_
    refine lv_bipush (v := (-4)) hx hb dX6_noRow_46 (by decide) ?_
    refine kWi (wr := [(qms, .inl (cy 0, 8, .inl (fun _ => 0)))]) (rV (As := [.int (-4)]) (rest := []) (b := qm) ⟨hx, hb, hml, hown, hts⟩ (c_X6_refuse4 l G cy (s.heap).size qm (.ref qms) v1 v2 v3 v4 v5 v6 v7 v8 qmr v9 v10 v11 v12 v13 v14 v15 v16 v17 v18 v19 v20 v21 v22 v23 v24 v25 v26 v27 v28 v29 v30 v31 v32 v33 (fun _ => 0)) L_X6_91 (preWV (q := (RX6, TX6, 35)) hN hP hD [0, 2] rfl (by decide) 0 5 rfl rfl) rfl ⟨Nat.le_of_ble_eq_true rfl, Nat.le_of_ble_eq_true rfl⟩ hl.1 (Nat.le_of_ble_eq_true rfl) dX6_noRow_48 ⟨Nat.le_of_ble_eq_true rfl, Nat.le_of_ble_eq_true rfl⟩) hP hD hS hA [0, 2] [1] rfl rfl (by decide) (by decide) (fun r_7 u_9 H locs h_8 hP hD hS => ?_)
    obtain ⟨rfl, h_8⟩ := h_8
    have hP : va_P G CL [(qms, .inl (cy 0, 8, .inl (fun _ => 0))), (qm, .inr (5, [.ref qms, v1, v2, v3, v4, v5, v6, v7, v8, .ref qmr, v9, v10, v11, v12, v13, v14, v15, v16, v17, v18, v19, v20, v21, v22, v23, v24, v25, v26, v27, v28, v29, v30, v31, v32, v33]))] H := hP
    have hD : va_D A [(qms, .inl (cy 0, 8, .inl (fun _ => 0))), (qm, .inr (5, [.ref qms, v1, v2, v3, v4, v5, v6, v7, v8, .ref qmr, v9, v10, v11, v12, v13, v14, v15, v16, v17, v18, v19, v20, v21, v22, v23, v24, v25, v26, v27, v28, v29, v30, v31, v32, v33]))] := hD
    subst h_8
    refine lv_goto (tgt := 55) hx hb dX6_noRow_51 (by decide) ?_
    exact endW (u := []) hx hb hr hlocks rfl va_P0 va_D0 hS ⟨rfl, (Or.inr (⟨rfl, h_3⟩))⟩ dX6_noRow_55
  · refine lv_if_ne (tgt := 19) hx hb dX6_noRow_9 (by decide) (fun h9 => absurd (by decide) h9) (fun _ => ?_)
    refine lv_aload_n hx hb dX6_noRow_12 rfl (lv_at hl 0 rfl) ?_
    refine lv_bipush (v := (-2)) hx hb dX6_noRow_13 (by decide) ?_
    refine kWi (wr := [(qms, .inl (cy 0, 8, .inl (fun _ => 0)))]) (rV (As := [.int (-2)]) (rest := []) (b := qm) ⟨hx, hb, hml, hown, hts⟩ (c_X6_refuse2 l G cy (s.heap).size qm (.ref qms) v1 v2 v3 v4 v5 v6 v7 v8 qmr v9 v10 v11 v12 v13 v14 v15 v16 v17 v18 v19 v20 v21 v22 v23 v24 v25 v26 v27 v28 v29 v30 v31 v32 v33 (fun _ => 0)) L_X6_91 (preWV (q := (RX6, TX6, 35)) hN hP hD [0, 2] rfl (by decide) 0 5 rfl rfl) rfl ⟨Nat.le_of_ble_eq_true rfl, Nat.le_of_ble_eq_true rfl⟩ hl.1 (Nat.le_of_ble_eq_true rfl) dX6_noRow_15 ⟨Nat.le_of_ble_eq_true rfl, Nat.le_of_ble_eq_true rfl⟩) hP hD hS hA [0, 2] [1] rfl rfl (by decide) (by decide) (fun r_11 u_13 H locs h_12 hP hD hS => ?_)
    obtain ⟨rfl, h_12⟩ := h_12
    have hP : va_P G CL [(qms, .inl (cy 0, 8, .inl (fun _ => 0))), (qm, .inr (5, [.ref qms, v1, v2, v3, v4, v5, v6, v7, v8, .ref qmr, v9, v10, v11, v12, v13, v14, v15, v16, v17, v18, v19, v20, v21, v22, v23, v24, v25, v26, v27, v28, v29, v30, v31, v32, v33]))] H := hP
    have hD : va_D A [(qms, .inl (cy 0, 8, .inl (fun _ => 0))), (qm, .inr (5, [.ref qms, v1, v2, v3, v4, v5, v6, v7, v8, .ref qmr, v9, v10, v11, v12, v13, v14, v15, v16, v17, v18, v19, v20, v21, v22, v23, v24, v25, v26, v27, v28, v29, v30, v31, v32, v33]))] := hD
    subst h_12
    exact endW (u := []) hx hb hr hlocks rfl va_P0 va_D0 hS ⟨rfl, (Or.inl (⟨rfl, h_3⟩))⟩ dX6_noRow_18
set_option maxHeartbeats 4000000 in
set_option maxRecDepth 100000 in
theorem c_X6_noRule (l : Launch) (G : va_G) (cy : Nat → ClassId) (sz : Nat) (qm : Nat) (qms : Nat) (v1 : Value) (v2 : Value) (v3 : Value) (v4 : Value) (v5 : Value) (v6 : Value) (v7 : Value) (v8 : Value) (qmr : Nat) (v9 : Value) (v10 : Value) (v11 : Value) (v12 : Value) (v13 : Value) (v14 : Value) (v15 : Value) (v16 : Value) (v17 : Value) (v18 : Value) (v19 : Value) (v20 : Value) (v21 : Value) (v22 : Value) (v23 : Value) (v24 : Value) (v25 : Value) (v26 : Value) (v27 : Value) (v28 : Value) (v29 : Value) (v30 : Value) (v31 : Value) (v32 : Value) (v33 : Value) (iA : Int32)   : MW l yX6_noRule cX6_noRule 2 (some .int) 2 0 0 G cy [(qm, .inr (5, [.ref qms, v1, v2, v3, v4, v5, v6, v7, v8, .ref qmr, v9, v10, v11, v12, v13, v14, v15, v16, v17, v18, v19, v20, v21, v22, v23, v24, v25, v26, v27, v28, v29, v30, v31, v32, v33])), (qms, .inl (cy 0, 8, .inl (fun _ => 0))), (qmr, .inl (cy 0, 8, .inl (fun _ => 0)))] sz [.ref qm, .int iA] (Wi G (fun r u => u = [] ∧ ((r = (-2) ∧ ¬ Iv iA.toInt64 0 7) ∨ (r = (-4) ∧ Iv iA.toInt64 0 7)))) := by
  refine enW RX6 (by decide) rfl (Nat.le_of_ble_eq_true rfl) (fun p e s m below meth c ls A hx hb hml hown hts hr hlocks hP hN hl hin hD hA hS => ?_)
  have hin : meth.name = _ := hin
  have hK := hN.1
  have hl : lv_has ls 2 [(0, .ref qm), (1, .int iA)] := hl
  refine lv_iload_n hx hb dX6_noRule_0 rfl (lv_at hl 1 rfl) ?_
  refine lv_i2l (v := iA.toInt64) hx hb dX6_noRule_1 rfl ?_
  refine lv_lconst (v := 0) hx hb dX6_noRule_2 (by decide) ?_
  refine lv_ldc2 hx hb hown (hts _ m_t960) dX6_noRule_3 ?_
  refine kRi (rS (As := [.long iA.toInt64, .long 0, .long 7]) (rest := []) ⟨hx, hb, hml, hown, hts⟩ (c_X6_in l G cy iA.toInt64 0 7) L_X6_74 (preRS hN hP [] rfl) rfl ⟨Nat.le_of_ble_eq_true rfl, Nat.le_of_ble_eq_true rfl⟩ hl.1 (Nat.le_of_ble_eq_true rfl) dX6_noRule_6 ⟨Nat.le_of_ble_eq_true rfl, Nat.le_of_ble_eq_true rfl⟩) (fun r_1 h_2 => ?_)
  rcases h_2 with ⟨rfl, h_3⟩ | ⟨rfl, h_3⟩
  · refine lv_if_ne (tgt := 19) hx hb dX6_noRule_9 (by decide) (fun _ => ?_) (fun h9 => absurd h9 (by decide))
    refine lv_aload_n hx hb dX6_noRule_19 rfl (lv_at hl 0 rfl) ?_
    refine va_get (D := G) (ci := 5) (v := .ref qms) (C := RX6) (T := TX6) (N := 35) hx hb hts iX_X6 hown hK hP 0 rfl rfl 0 (by decide) (hts _ m_t850) (fun _ h9 => h9) rfl dX6_noRule_20 ?_
    refine lv_iload_n hx hb dX6_noRule_23 rfl (lv_at hl 1 rfl) ?_
    refine va_iald hx hb hK hP 1 0 rfl rfl (in_shelf h_3) dX6_noRule_24 ?_
    refine lv_seti (v := 0) rfl ?_
    refine lv_iconst (v := 1) hx hb dX6_noRule_25 (by decide) ?_
    refine lv_icmp_ne (tgt := 36) hx hb dX6_noRule_26 (by decide) (fun _ => ?_) (fun h9 => absurd h9 (by decide))
    refine lv_aload_n hx hb dX6_noRule_36 rfl (lv_at hl 0 rfl) ?_
    refine va_get (D := G) (ci := 5) (v := .ref qms) (C := RX6) (T := TX6) (N := 35) hx hb hts iX_X6 hown hK hP 0 rfl rfl 0 (by decide) (hts _ m_t850) (fun _ h9 => h9) rfl dX6_noRule_37 ?_
    refine lv_iload_n hx hb dX6_noRule_40 rfl (lv_at hl 1 rfl) ?_
    refine va_iald hx hb hK hP 1 0 rfl rfl (in_shelf h_3) dX6_noRule_41 ?_
    refine lv_seti (v := 0) rfl ?_
    refine lv_if_ne (tgt := 54) hx hb dX6_noRule_42 (by decide) (fun h9 => absurd (by decide) h9) (fun _ => ?_)
    refine lv_aload_n hx hb dX6_noRule_45 rfl (lv_at hl 0 rfl) ?_
    refine lv_bipush (v := (-4)) hx hb dX6_noRule_46 (by decide) ?_
    refine kWi (wr := [(qms, .inl (cy 0, 8, .inl (fun _ => 0)))]) (rV (As := [.int (-4)]) (rest := []) (b := qm) ⟨hx, hb, hml, hown, hts⟩ (c_X6_refuse4 l G cy (s.heap).size qm (.ref qms) v1 v2 v3 v4 v5 v6 v7 v8 qmr v9 v10 v11 v12 v13 v14 v15 v16 v17 v18 v19 v20 v21 v22 v23 v24 v25 v26 v27 v28 v29 v30 v31 v32 v33 (fun _ => 0)) L_X6_91 (preWV (q := (RX6, TX6, 35)) hN hP hD [0, 2] rfl (by decide) 0 5 rfl rfl) rfl ⟨Nat.le_of_ble_eq_true rfl, Nat.le_of_ble_eq_true rfl⟩ hl.1 (Nat.le_of_ble_eq_true rfl) dX6_noRule_48 ⟨Nat.le_of_ble_eq_true rfl, Nat.le_of_ble_eq_true rfl⟩) hP hD hS hA [0, 2] [1] rfl rfl (by decide) (by decide) (fun r_7 u_9 H locs h_8 hP hD hS => ?_)
    obtain ⟨rfl, h_8⟩ := h_8
    have hP : va_P G CL [(qms, .inl (cy 0, 8, .inl (fun _ => 0))), (qm, .inr (5, [.ref qms, v1, v2, v3, v4, v5, v6, v7, v8, .ref qmr, v9, v10, v11, v12, v13, v14, v15, v16, v17, v18, v19, v20, v21, v22, v23, v24, v25, v26, v27, v28, v29, v30, v31, v32, v33]))] H := hP
    have hD : va_D A [(qms, .inl (cy 0, 8, .inl (fun _ => 0))), (qm, .inr (5, [.ref qms, v1, v2, v3, v4, v5, v6, v7, v8, .ref qmr, v9, v10, v11, v12, v13, v14, v15, v16, v17, v18, v19, v20, v21, v22, v23, v24, v25, v26, v27, v28, v29, v30, v31, v32, v33]))] := hD
    subst h_8
    refine lv_goto (tgt := 55) hx hb dX6_noRule_51 (by decide) ?_
    exact endW (u := []) hx hb hr hlocks rfl va_P0 va_D0 hS ⟨rfl, (Or.inr (⟨rfl, h_3⟩))⟩ dX6_noRule_55
  · refine lv_if_ne (tgt := 19) hx hb dX6_noRule_9 (by decide) (fun h9 => absurd (by decide) h9) (fun _ => ?_)
    refine lv_aload_n hx hb dX6_noRule_12 rfl (lv_at hl 0 rfl) ?_
    refine lv_bipush (v := (-2)) hx hb dX6_noRule_13 (by decide) ?_
    refine kWi (wr := [(qms, .inl (cy 0, 8, .inl (fun _ => 0)))]) (rV (As := [.int (-2)]) (rest := []) (b := qm) ⟨hx, hb, hml, hown, hts⟩ (c_X6_refuse2 l G cy (s.heap).size qm (.ref qms) v1 v2 v3 v4 v5 v6 v7 v8 qmr v9 v10 v11 v12 v13 v14 v15 v16 v17 v18 v19 v20 v21 v22 v23 v24 v25 v26 v27 v28 v29 v30 v31 v32 v33 (fun _ => 0)) L_X6_91 (preWV (q := (RX6, TX6, 35)) hN hP hD [0, 2] rfl (by decide) 0 5 rfl rfl) rfl ⟨Nat.le_of_ble_eq_true rfl, Nat.le_of_ble_eq_true rfl⟩ hl.1 (Nat.le_of_ble_eq_true rfl) dX6_noRule_15 ⟨Nat.le_of_ble_eq_true rfl, Nat.le_of_ble_eq_true rfl⟩) hP hD hS hA [0, 2] [1] rfl rfl (by decide) (by decide) (fun r_11 u_13 H locs h_12 hP hD hS => ?_)
    obtain ⟨rfl, h_12⟩ := h_12
    have hP : va_P G CL [(qms, .inl (cy 0, 8, .inl (fun _ => 0))), (qm, .inr (5, [.ref qms, v1, v2, v3, v4, v5, v6, v7, v8, .ref qmr, v9, v10, v11, v12, v13, v14, v15, v16, v17, v18, v19, v20, v21, v22, v23, v24, v25, v26, v27, v28, v29, v30, v31, v32, v33]))] H := hP
    have hD : va_D A [(qms, .inl (cy 0, 8, .inl (fun _ => 0))), (qm, .inr (5, [.ref qms, v1, v2, v3, v4, v5, v6, v7, v8, .ref qmr, v9, v10, v11, v12, v13, v14, v15, v16, v17, v18, v19, v20, v21, v22, v23, v24, v25, v26, v27, v28, v29, v30, v31, v32, v33]))] := hD
    subst h_12
    exact endW (u := []) hx hb hr hlocks rfl va_P0 va_D0 hS ⟨rfl, (Or.inl (⟨rfl, h_3⟩))⟩ dX6_noRule_18
set_option maxHeartbeats 4000000 in
set_option maxRecDepth 100000 in
theorem c_X6_noTold (l : Launch) (G : va_G) (cy : Nat → ClassId) (sz : Nat) (qm : Nat) (qms : Nat) (v1 : Value) (v2 : Value) (v3 : Value) (v4 : Value) (v5 : Value) (v6 : Value) (v7 : Value) (v8 : Value) (qmr : Nat) (v9 : Value) (v10 : Value) (v11 : Value) (v12 : Value) (v13 : Value) (v14 : Value) (v15 : Value) (v16 : Value) (v17 : Value) (v18 : Value) (v19 : Value) (v20 : Value) (v21 : Value) (v22 : Value) (v23 : Value) (v24 : Value) (v25 : Value) (v26 : Value) (v27 : Value) (v28 : Value) (v29 : Value) (v30 : Value) (v31 : Value) (v32 : Value) (v33 : Value) (iA : Int32) (iB : Int32)   : MW l yX6_noTold cX6_noTold 4 (some .int) 3 0 0 G cy [(qm, .inr (5, [.ref qms, v1, v2, v3, v4, v5, v6, v7, v8, .ref qmr, v9, v10, v11, v12, v13, v14, v15, v16, v17, v18, v19, v20, v21, v22, v23, v24, v25, v26, v27, v28, v29, v30, v31, v32, v33])), (qms, .inl (cy 0, 8, .inl (fun _ => 0))), (qmr, .inl (cy 0, 8, .inl (fun _ => 0)))] sz [.ref qm, .int iA, .int iB] (Wi G (fun r u => u = [] ∧ ((r = (-2) ∧ ¬ (Iv iA.toInt64 0 7 ∧ Iv iB.toInt64 0 20)) ∨ (r = (-4) ∧ Iv iA.toInt64 0 7 ∧ Iv iB.toInt64 0 20)))) := by
  refine enW RX6 (by decide) rfl (Nat.le_of_ble_eq_true rfl) (fun p e s m below meth c ls A hx hb hml hown hts hr hlocks hP hN hl hin hD hA hS => ?_)
  have hin : meth.name = _ := hin
  have hK := hN.1
  have hl : lv_has ls 4 [(0, .ref qm), (1, .int iA), (2, .int iB)] := hl
  refine lv_iload_n hx hb dX6_noTold_0 rfl (lv_at hl 1 rfl) ?_
  refine lv_i2l (v := iA.toInt64) hx hb dX6_noTold_1 rfl ?_
  refine lv_lconst (v := 0) hx hb dX6_noTold_2 (by decide) ?_
  refine lv_ldc2 hx hb hown (hts _ m_t960) dX6_noTold_3 ?_
  refine kRi (rS (As := [.long iA.toInt64, .long 0, .long 7]) (rest := []) ⟨hx, hb, hml, hown, hts⟩ (c_X6_in l G cy iA.toInt64 0 7) L_X6_74 (preRS hN hP [] rfl) rfl ⟨Nat.le_of_ble_eq_true rfl, Nat.le_of_ble_eq_true rfl⟩ hl.1 (Nat.le_of_ble_eq_true rfl) dX6_noTold_6 ⟨Nat.le_of_ble_eq_true rfl, Nat.le_of_ble_eq_true rfl⟩) (fun r_1 h_2 => ?_)
  rcases h_2 with ⟨rfl, h_3⟩ | ⟨rfl, h_3⟩
  · refine lv_if_eq (tgt := 24) hx hb dX6_noTold_9 (by decide) (fun h9 => absurd h9 (by decide)) (fun _ => ?_)
    refine lv_iload_n hx hb dX6_noTold_12 rfl (lv_at hl 2 rfl) ?_
    refine lv_i2l (v := iB.toInt64) hx hb dX6_noTold_13 rfl ?_
    refine lv_lconst (v := 0) hx hb dX6_noTold_14 (by decide) ?_
    refine lv_ldc2 hx hb hown (hts _ m_t1355) dX6_noTold_15 ?_
    refine kRi (rS (As := [.long iB.toInt64, .long 0, .long 20]) (rest := []) ⟨hx, hb, hml, hown, hts⟩ (c_X6_in l G cy iB.toInt64 0 20) L_X6_74 (preRS hN hP [] rfl) rfl ⟨Nat.le_of_ble_eq_true rfl, Nat.le_of_ble_eq_true rfl⟩ hl.1 (Nat.le_of_ble_eq_true rfl) dX6_noTold_18 ⟨Nat.le_of_ble_eq_true rfl, Nat.le_of_ble_eq_true rfl⟩) (fun r_5 h_6 => ?_)
    rcases h_6 with ⟨rfl, h_7⟩ | ⟨rfl, h_7⟩
    · refine lv_if_ne (tgt := 31) hx hb dX6_noTold_21 (by decide) (fun _ => ?_) (fun h9 => absurd h9 (by decide))
      refine lv_aload_n hx hb dX6_noTold_31 rfl (lv_at hl 0 rfl) ?_
      refine lv_iload_n hx hb dX6_noTold_32 rfl (lv_at hl 1 rfl) ?_
      refine kWi (wr := []) (rV (As := [.int iA]) (rest := []) (b := qm) ⟨hx, hb, hml, hown, hts⟩ (c_X6_noRow l G cy (s.heap).size qm qms v1 v2 v3 v4 v5 v6 v7 v8 qmr v9 v10 v11 v12 v13 v14 v15 v16 v17 v18 v19 v20 v21 v22 v23 v24 v25 v26 v27 v28 v29 v30 v31 v32 v33 iA) L_X6_95 (preWV (q := (RX6, TX6, 35)) hN hP hD [0, 1, 2] rfl (by decide) 0 5 rfl rfl) rfl ⟨Nat.le_of_ble_eq_true rfl, Nat.le_of_ble_eq_true rfl⟩ hl.1 (Nat.le_of_ble_eq_true rfl) dX6_noTold_33 ⟨Nat.le_of_ble_eq_true rfl, Nat.le_of_ble_eq_true rfl⟩) hP hD hS hA [0, 1, 2] [] rfl rfl (by decide) (by decide) (fun r_9 u_11 H locs h_10 hP hD hS => ?_)
      obtain ⟨rfl, h_10⟩ := h_10
      have hP : va_P G CL [] H := hP
      have hD : va_D A [] := hD
      rcases h_10 with ⟨rfl, h_12⟩ | ⟨rfl, h_12⟩
      · exact absurd h_3 h_12
      · refine lv_istore_n (lv' := [(3, .int (-4)), (0, .ref qm), (1, .int iA), (2, .int iB)]) hx hb dX6_noTold_36 rfl hl (by decide) rfl (fun ls hl => ?_)
        refine lv_iload_n hx hb dX6_noTold_37 rfl (lv_at hl 0 rfl) ?_
        refine lv_if_eq (tgt := 43) hx hb dX6_noTold_38 (by decide) (fun h9 => absurd h9 (by decide)) (fun _ => ?_)
        refine lv_iload_n hx hb dX6_noTold_41 rfl (lv_at hl 0 rfl) ?_
        exact endW (u := []) hx hb hr hlocks rfl va_P0 va_D0 hS ⟨rfl, (Or.inr (⟨rfl, by first | (simp [Iv, h_3, h_7, h_12]; done) | (simp_all; done)⟩))⟩ dX6_noTold_42
    · refine lv_if_ne (tgt := 31) hx hb dX6_noTold_21 (by decide) (fun h9 => absurd (by decide) h9) (fun _ => ?_)
      refine lv_aload_n hx hb dX6_noTold_24 rfl (lv_at hl 0 rfl) ?_
      refine lv_bipush (v := (-2)) hx hb dX6_noTold_25 (by decide) ?_
      refine kWi (wr := [(qms, .inl (cy 0, 8, .inl (fun _ => 0)))]) (rV (As := [.int (-2)]) (rest := []) (b := qm) ⟨hx, hb, hml, hown, hts⟩ (c_X6_refuse2 l G cy (s.heap).size qm (.ref qms) v1 v2 v3 v4 v5 v6 v7 v8 qmr v9 v10 v11 v12 v13 v14 v15 v16 v17 v18 v19 v20 v21 v22 v23 v24 v25 v26 v27 v28 v29 v30 v31 v32 v33 (fun _ => 0)) L_X6_91 (preWV (q := (RX6, TX6, 35)) hN hP hD [0, 2] rfl (by decide) 0 5 rfl rfl) rfl ⟨Nat.le_of_ble_eq_true rfl, Nat.le_of_ble_eq_true rfl⟩ hl.1 (Nat.le_of_ble_eq_true rfl) dX6_noTold_27 ⟨Nat.le_of_ble_eq_true rfl, Nat.le_of_ble_eq_true rfl⟩) hP hD hS hA [0, 2] [1] rfl rfl (by decide) (by decide) (fun r_15 u_17 H locs h_16 hP hD hS => ?_)
      obtain ⟨rfl, h_16⟩ := h_16
      have hP : va_P G CL [(qms, .inl (cy 0, 8, .inl (fun _ => 0))), (qm, .inr (5, [.ref qms, v1, v2, v3, v4, v5, v6, v7, v8, .ref qmr, v9, v10, v11, v12, v13, v14, v15, v16, v17, v18, v19, v20, v21, v22, v23, v24, v25, v26, v27, v28, v29, v30, v31, v32, v33]))] H := hP
      have hD : va_D A [(qms, .inl (cy 0, 8, .inl (fun _ => 0))), (qm, .inr (5, [.ref qms, v1, v2, v3, v4, v5, v6, v7, v8, .ref qmr, v9, v10, v11, v12, v13, v14, v15, v16, v17, v18, v19, v20, v21, v22, v23, v24, v25, v26, v27, v28, v29, v30, v31, v32, v33]))] := hD
      subst h_16
      exact endW (u := []) hx hb hr hlocks rfl va_P0 va_D0 hS ⟨rfl, (Or.inl (⟨rfl, by first | (simp [Iv, h_3, h_7]; done) | (simp_all; done)⟩))⟩ dX6_noTold_30
  · refine lv_if_eq (tgt := 24) hx hb dX6_noTold_9 (by decide) (fun _ => ?_) (fun h9 => absurd (by decide) h9)
    refine lv_aload_n hx hb dX6_noTold_24 rfl (lv_at hl 0 rfl) ?_
    refine lv_bipush (v := (-2)) hx hb dX6_noTold_25 (by decide) ?_
    refine kWi (wr := [(qms, .inl (cy 0, 8, .inl (fun _ => 0)))]) (rV (As := [.int (-2)]) (rest := []) (b := qm) ⟨hx, hb, hml, hown, hts⟩ (c_X6_refuse2 l G cy (s.heap).size qm (.ref qms) v1 v2 v3 v4 v5 v6 v7 v8 qmr v9 v10 v11 v12 v13 v14 v15 v16 v17 v18 v19 v20 v21 v22 v23 v24 v25 v26 v27 v28 v29 v30 v31 v32 v33 (fun _ => 0)) L_X6_91 (preWV (q := (RX6, TX6, 35)) hN hP hD [0, 2] rfl (by decide) 0 5 rfl rfl) rfl ⟨Nat.le_of_ble_eq_true rfl, Nat.le_of_ble_eq_true rfl⟩ hl.1 (Nat.le_of_ble_eq_true rfl) dX6_noTold_27 ⟨Nat.le_of_ble_eq_true rfl, Nat.le_of_ble_eq_true rfl⟩) hP hD hS hA [0, 2] [1] rfl rfl (by decide) (by decide) (fun r_19 u_21 H locs h_20 hP hD hS => ?_)
    obtain ⟨rfl, h_20⟩ := h_20
    have hP : va_P G CL [(qms, .inl (cy 0, 8, .inl (fun _ => 0))), (qm, .inr (5, [.ref qms, v1, v2, v3, v4, v5, v6, v7, v8, .ref qmr, v9, v10, v11, v12, v13, v14, v15, v16, v17, v18, v19, v20, v21, v22, v23, v24, v25, v26, v27, v28, v29, v30, v31, v32, v33]))] H := hP
    have hD : va_D A [(qms, .inl (cy 0, 8, .inl (fun _ => 0))), (qm, .inr (5, [.ref qms, v1, v2, v3, v4, v5, v6, v7, v8, .ref qmr, v9, v10, v11, v12, v13, v14, v15, v16, v17, v18, v19, v20, v21, v22, v23, v24, v25, v26, v27, v28, v29, v30, v31, v32, v33]))] := hD
    subst h_20
    exact endW (u := []) hx hb hr hlocks rfl va_P0 va_D0 hS ⟨rfl, (Or.inl (⟨rfl, by first | (simp [Iv, h_3]; done) | (simp_all; done)⟩))⟩ dX6_noTold_30
set_option maxHeartbeats 4000000 in
set_option maxRecDepth 100000 in
theorem c_X6_noReading (l : Launch) (G : va_G) (cy : Nat → ClassId) (sz : Nat) (qm : Nat) (v1 : Value) (v2 : Value) (v3 : Value) (v4 : Value) (v5 : Value) (v6 : Value) (v7 : Value) (v8 : Value) (v9 : Value) (qmr : Nat) (v10 : Value) (v11 : Value) (v12 : Value) (v13 : Value) (v14 : Value) (v15 : Value) (v16 : Value) (v17 : Value) (v18 : Value) (v19 : Value) (v20 : Value) (v21 : Value) (v22 : Value) (v23 : Value) (v24 : Value) (v25 : Value) (v26 : Value) (v27 : Value) (v28 : Value) (v29 : Value) (v30 : Value) (v31 : Value) (v32 : Value) (v33 : Value) (iA : Int32) (iB : Int32)   : MW l yX6_noReading cX6_noReading 3 (some .int) 3 0 0 G cy [(qm, .inr (5, [v1, v2, v3, v4, v5, v6, v7, v8, v9, .ref qmr, v10, v11, .int 0, v12, v13, v14, v15, v16, v17, v18, v19, v20, v21, v22, v23, v24, v25, v26, v27, v28, v29, v30, v31, v32, v33])), (qmr, .inl (cy 0, 8, .inl (fun _ => 0)))] sz [.ref qm, .int iA, .int iB] (Wi G (fun r u => u = [] ∧ ((r = (-2))))) := by
  refine enW RX6 (by decide) rfl (Nat.le_of_ble_eq_true rfl) (fun p e s m below meth c ls A hx hb hml hown hts hr hlocks hP hN hl hin hD hA hS => ?_)
  have hin : meth.name = _ := hin
  have hK := hN.1
  have hl : lv_has ls 3 [(0, .ref qm), (1, .int iA), (2, .int iB)] := hl
  refine lv_aload_n hx hb dX6_noReading_0 rfl (lv_at hl 0 rfl) ?_
  refine lv_iload_n hx hb dX6_noReading_1 rfl (lv_at hl 1 rfl) ?_
  refine lv_i2l (v := iA.toInt64) hx hb dX6_noReading_2 rfl ?_
  refine kRi (rV (As := [.long iA.toInt64]) (rest := []) (b := qm) ⟨hx, hb, hml, hown, hts⟩ (c_X6_isOne l G cy qm v1 v2 v3 v4 v5 v6 v7 v8 v9 (.ref qmr) v10 v11 v12 v13 v14 v15 v16 v17 v18 v19 v20 v21 v22 v23 v24 v25 v26 v27 v28 v29 v30 v31 v32 v33 iA.toInt64) L_X6_236 (preRV (q := (RX6, TX6, 35)) hN hP [0] rfl 0 5 rfl rfl) rfl ⟨Nat.le_of_ble_eq_true rfl, Nat.le_of_ble_eq_true rfl⟩ hl.1 (Nat.le_of_ble_eq_true rfl) dX6_noReading_3 ⟨Nat.le_of_ble_eq_true rfl, Nat.le_of_ble_eq_true rfl⟩) (fun r_1 h_2 => ?_)
  subst h_2
  refine lv_if_eq (tgt := 18) hx hb dX6_noReading_6 (by decide) (fun _ => ?_) (fun h9 => absurd (by decide) h9)
  refine lv_aload_n hx hb dX6_noReading_18 rfl (lv_at hl 0 rfl) ?_
  refine lv_bipush (v := (-2)) hx hb dX6_noReading_19 (by decide) ?_
  refine kWi (wr := []) (rV (As := [.int (-2)]) (rest := []) (b := qm) ⟨hx, hb, hml, hown, hts⟩ (c_X6_refuse2 l G cy (s.heap).size qm v1 v2 v3 v4 v5 v6 v7 v8 v9 qmr v10 v11 (.int 0) v12 v13 v14 v15 v16 v17 v18 v19 v20 v21 v22 v23 v24 v25 v26 v27 v28 v29 v30 v31 v32 v33 (fun _ => 0)) L_X6_91 (preWV (q := (RX6, TX6, 35)) hN hP hD [0, 1] rfl (by decide) 0 5 rfl rfl) rfl ⟨Nat.le_of_ble_eq_true rfl, Nat.le_of_ble_eq_true rfl⟩ hl.1 (Nat.le_of_ble_eq_true rfl) dX6_noReading_21 ⟨Nat.le_of_ble_eq_true rfl, Nat.le_of_ble_eq_true rfl⟩) hP hD hS hA [0, 1] [] rfl rfl (by decide) (by decide) (fun r_4 u_6 H locs h_5 hP hD hS => ?_)
  obtain ⟨rfl, h_5⟩ := h_5
  have hP : va_P G CL [(qm, .inr (5, [v1, v2, v3, v4, v5, v6, v7, v8, v9, .ref qmr, v10, v11, .int 0, v12, v13, v14, v15, v16, v17, v18, v19, v20, v21, v22, v23, v24, v25, v26, v27, v28, v29, v30, v31, v32, v33]))] H := hP
  have hD : va_D A [(qm, .inr (5, [v1, v2, v3, v4, v5, v6, v7, v8, v9, .ref qmr, v10, v11, .int 0, v12, v13, v14, v15, v16, v17, v18, v19, v20, v21, v22, v23, v24, v25, v26, v27, v28, v29, v30, v31, v32, v33]))] := hD
  subst h_5
  exact endW (u := []) hx hb hr hlocks rfl va_P0 va_D0 hS ⟨rfl, rfl⟩ dX6_noReading_24
set_option maxHeartbeats 4000000 in
set_option maxRecDepth 100000 in
theorem c_X6_valueOf (l : Launch) (G : va_G) (cy : Nat → ClassId) (qm : Nat) (v1 : Value) (v2 : Value) (v3 : Value) (v4 : Value) (v5 : Value) (v6 : Value) (v7 : Value) (v8 : Value) (v9 : Value) (v10 : Value) (v11 : Value) (v12 : Value) (v13 : Value) (v14 : Value) (v15 : Value) (v16 : Value) (v17 : Value) (v18 : Value) (v19 : Value) (v20 : Value) (v21 : Value) (v22 : Value) (v23 : Value) (v24 : Value) (v25 : Value) (v26 : Value) (v27 : Value) (v28 : Value) (v29 : Value) (v30 : Value) (v31 : Value) (v32 : Value) (v33 : Value) (v34 : Value) (iA : Int32)   : MR l yX6_valueOf cX6_valueOf 4 (some .int) 1 G cy [(qm, .inr (5, [v1, v2, v3, v4, v5, v6, v7, v8, v9, v10, .int 0, v11, v12, v13, v14, v15, v16, v17, v18, v19, v20, v21, v22, v23, v24, v25, v26, v27, v28, v29, v30, v31, v32, v33, v34]))] [.ref qm, .int iA] (vp_Si (fun r => (r = 0))) := by
  refine enR RX6 (by decide) rfl (Nat.le_of_ble_eq_true rfl) (fun p e s m below meth c ls hx hb hml hown hts hr hlocks hP hN hl => ?_)
  have hK := hN.1
  have hl : lv_has ls 4 [(0, .ref qm), (1, .int iA)] := hl
  refine lv_iconst (v := 0) hx hb dX6_valueOf_0 (by decide) ?_
  refine lv_istore_n (lv' := [(2, .int 0), (0, .ref qm), (1, .int iA)]) hx hb dX6_valueOf_1 rfl hl (by decide) rfl (fun ls hl => ?_)
  refine lv_iconst (v := 0) hx hb dX6_valueOf_2 (by decide) ?_
  refine lv_istore_n (lv' := [(3, .int 0), (2, .int 0), (0, .ref qm), (1, .int iA)]) hx hb dX6_valueOf_3 rfl hl (by decide) rfl (fun ls hl => ?_)
  refine lv_iload_n hx hb dX6_valueOf_4 rfl (lv_at hl 0 rfl) ?_
  refine lv_aload_n hx hb dX6_valueOf_5 rfl (lv_at hl 2 rfl) ?_
  refine va_get (D := G) (ci := 5) (v := .int 0) (C := RX6) (T := TX6) (N := 35) hx hb hts iX_X6 hown hK hP 0 rfl rfl 10 (by decide) (hts _ m_t860) (fun _ h9 => h9) rfl dX6_valueOf_6 ?_
  refine lv_icmp_ge (tgt := 36) hx hb dX6_valueOf_9 (by decide) (fun _ => ?_) (fun h9 => absurd (by decide) h9)
  refine lv_iload_n hx hb dX6_valueOf_36 rfl (lv_at hl 1 rfl) ?_
  exact endR hx hb hr hlocks rfl rfl dX6_valueOf_37
set_option maxHeartbeats 4000000 in
set_option maxRecDepth 100000 in
theorem c_X6_valueNow (l : Launch) (G : va_G) (cy : Nat → ClassId) (qm : Nat) (v1 : Value) (v2 : Value) (v3 : Value) (v4 : Value) (v5 : Value) (v6 : Value) (v7 : Value) (v8 : Value) (v9 : Value) (v10 : Value) (v11 : Value) (v12 : Value) (v13 : Value) (v14 : Value) (v15 : Value) (v16 : Value) (v17 : Value) (v18 : Value) (v19 : Value) (v20 : Value) (v21 : Value) (v22 : Value) (v23 : Value) (v24 : Value) (v25 : Value) (v26 : Value) (v27 : Value) (v28 : Value) (v29 : Value) (v30 : Value) (v31 : Value) (v32 : Value) (v33 : Value)   : MR l yX6_valueNow cX6_valueNow 1 (some .int) 2 G cy [(qm, .inr (5, [v1, v2, v3, v4, v5, v6, v7, v8, v9, v10, .int 0, v11, .int 0, v12, v13, v14, v15, v16, v17, v18, v19, v20, v21, v22, v23, v24, v25, v26, v27, v28, v29, v30, v31, v32, v33]))] [.ref qm] (vp_Si (fun r => (r = 0))) := by
  refine enR RX6 (by decide) rfl (Nat.le_of_ble_eq_true rfl) (fun p e s m below meth c ls hx hb hml hown hts hr hlocks hP hN hl => ?_)
  have hK := hN.1
  have hl : lv_has ls 1 [(0, .ref qm)] := hl
  refine lv_aload_n hx hb dX6_valueNow_0 rfl (lv_at hl 0 rfl) ?_
  refine lv_iconst (v := 1) hx hb dX6_valueNow_1 (by decide) ?_
  refine lv_aload_n hx hb dX6_valueNow_2 rfl (lv_at hl 0 rfl) ?_
  refine va_get (D := G) (ci := 5) (v := .int 0) (C := RX6) (T := TX6) (N := 35) hx hb hts iX_X6 hown hK hP 0 rfl rfl 12 (by decide) (hts _ m_t862) (fun _ h9 => h9) rfl dX6_valueNow_3 ?_
  refine lv_ishl hx hb dX6_valueNow_6 ?_
  refine lv_seti (v := 1) (by decide) ?_
  refine lv_iconst (v := 1) hx hb dX6_valueNow_7 (by decide) ?_
  refine lv_isub hx hb dX6_valueNow_8 ?_
  refine lv_seti (v := 0) (by decide) ?_
  refine kRi (rV (As := [.int 0]) (rest := []) (b := qm) ⟨hx, hb, hml, hown, hts⟩ (c_X6_valueOf l G cy qm v1 v2 v3 v4 v5 v6 v7 v8 v9 v10 v11 (.int 0) v12 v13 v14 v15 v16 v17 v18 v19 v20 v21 v22 v23 v24 v25 v26 v27 v28 v29 v30 v31 v32 v33 0) L_X6_266 (preRV (q := (RX6, TX6, 35)) hN hP [0] rfl 0 5 rfl rfl) rfl ⟨Nat.le_of_ble_eq_true rfl, Nat.le_of_ble_eq_true rfl⟩ hl.1 (Nat.le_of_ble_eq_true rfl) dX6_valueNow_9 ⟨Nat.le_of_ble_eq_true rfl, Nat.le_of_ble_eq_true rfl⟩) (fun r_1 h_2 => ?_)
  subst h_2
  exact endR hx hb hr hlocks rfl rfl dX6_valueNow_12
set_option maxHeartbeats 4000000 in
set_option maxRecDepth 100000 in
theorem c_X6_lostBy (l : Launch) (G : va_G) (cy : Nat → ClassId) (qm : Nat) (v1 : Value) (v2 : Value) (v3 : Value) (v4 : Value) (v5 : Value) (v6 : Value) (v7 : Value) (v8 : Value) (v9 : Value) (v10 : Value) (v11 : Value) (v12 : Value) (v13 : Value) (v14 : Value) (v15 : Value) (v16 : Value) (v17 : Value) (v18 : Value) (v19 : Value) (v20 : Value) (v21 : Value) (v22 : Value) (v23 : Value) (v24 : Value) (v25 : Value) (v26 : Value) (v27 : Value) (v28 : Value) (v29 : Value) (v30 : Value) (v31 : Value) (v32 : Value) (v33 : Value) (v34 : Value) (iA : Int32) (iB : Int32)   : MR l yX6_lostBy cX6_lostBy 5 (some .int) 1 G cy [(qm, .inr (5, [v1, v2, v3, v4, v5, v6, v7, v8, v9, v10, .int 0, v11, v12, v13, v14, v15, v16, v17, v18, v19, v20, v21, v22, v23, v24, v25, v26, v27, v28, v29, v30, v31, v32, v33, v34]))] [.ref qm, .int iA, .int iB] (vp_Si (fun r => (r = 0))) := by
  refine enR RX6 (by decide) rfl (Nat.le_of_ble_eq_true rfl) (fun p e s m below meth c ls hx hb hml hown hts hr hlocks hP hN hl => ?_)
  have hK := hN.1
  have hl : lv_has ls 5 [(0, .ref qm), (1, .int iA), (2, .int iB)] := hl
  refine lv_iconst (v := 0) hx hb dX6_lostBy_0 (by decide) ?_
  refine lv_istore_n (lv' := [(3, .int 0), (0, .ref qm), (1, .int iA), (2, .int iB)]) hx hb dX6_lostBy_1 rfl hl (by decide) rfl (fun ls hl => ?_)
  refine lv_iconst (v := 0) hx hb dX6_lostBy_2 (by decide) ?_
  refine lv_istore (lv' := [(4, .int 0), (3, .int 0), (0, .ref qm), (1, .int iA), (2, .int iB)]) hx hb dX6_lostBy_3 hl (by decide) rfl (fun ls hl => ?_)
  refine lv_iload hx hb dX6_lostBy_5 (lv_at hl 0 rfl) ?_
  refine lv_aload_n hx hb dX6_lostBy_7 rfl (lv_at hl 2 rfl) ?_
  refine va_get (D := G) (ci := 5) (v := .int 0) (C := RX6) (T := TX6) (N := 35) hx hb hts iX_X6 hown hK hP 0 rfl rfl 10 (by decide) (hts _ m_t860) (fun _ h9 => h9) rfl dX6_lostBy_8 ?_
  refine lv_icmp_ge (tgt := 42) hx hb dX6_lostBy_11 (by decide) (fun _ => ?_) (fun h9 => absurd (by decide) h9)
  refine lv_iload_n hx hb dX6_lostBy_42 rfl (lv_at hl 1 rfl) ?_
  exact endR hx hb hr hlocks rfl rfl dX6_lostBy_43
set_option maxHeartbeats 4000000 in
set_option maxRecDepth 100000 in
theorem c_X6_end (l : Launch) (G : va_G) (cy : Nat → ClassId) (sz : Nat) (qm : Nat) (v1 : Value) (v2 : Value) (v3 : Value) (v4 : Value) (v5 : Value) (v6 : Value) (v7 : Value) (v8 : Value) (v9 : Value) (v10 : Value) (v11 : Value) (v12 : Value) (v13 : Value) (v14 : Value) (v15 : Value) (v16 : Value) (v17 : Value) (v18 : Value) (v19 : Value) (v20 : Value) (v21 : Value) (v22 : Value) (v23 : Value) (v24 : Value) (v25 : Value) (v26 : Value) (v27 : Value) (v28 : Value) (v29 : Value) (v30 : Value) (v31 : Value) (v32 : Value) (v33 : Value)   : MW l yX6_end cX6_end 5 (some .int) 1 0 0 G cy [(qm, .inr (5, [v1, v2, v3, v4, v5, v6, v7, v8, v9, v10, v11, v12, .int 0, v13, v14, .int 0, v15, v16, v17, v18, v19, v20, v21, v22, v23, v24, v25, v26, v27, v28, v29, v30, v31, v32, v33]))] sz [.ref qm] (Wi G (fun r u => u = [] ∧ ((r = 0)))) := by
  refine enW RX6 (by decide) rfl (Nat.le_of_ble_eq_true rfl) (fun p e s m below meth c ls A hx hb hml hown hts hr hlocks hP hN hl hin hD hA hS => ?_)
  have hin : meth.name = _ := hin
  have hK := hN.1
  have hl : lv_has ls 5 [(0, .ref qm)] := hl
  refine lv_iconst (v := 0) hx hb dX6_end_0 (by decide) ?_
  refine lv_istore_n (lv' := [(1, .int 0), (0, .ref qm)]) hx hb dX6_end_1 rfl hl (by decide) rfl (fun ls hl => ?_)
  refine lv_iconst (v := 0) hx hb dX6_end_2 (by decide) ?_
  refine lv_istore_n (lv' := [(2, .int 0), (1, .int 0), (0, .ref qm)]) hx hb dX6_end_3 rfl hl (by decide) rfl (fun ls hl => ?_)
  refine lv_iload_n hx hb dX6_end_4 rfl (lv_at hl 0 rfl) ?_
  refine lv_aload_n hx hb dX6_end_5 rfl (lv_at hl 2 rfl) ?_
  refine va_get (D := G) (ci := 5) (v := .int 0) (C := RX6) (T := TX6) (N := 35) hx hb hts iX_X6 hown hK hP 0 rfl rfl 12 (by decide) (hts _ m_t862) (fun _ h9 => h9) rfl dX6_end_6 ?_
  refine lv_icmp_ge (tgt := 145) hx hb dX6_end_9 (by decide) (fun _ => ?_) (fun h9 => absurd (by decide) h9)
  refine lv_aload_n hx hb dX6_end_145 rfl (lv_at hl 2 rfl) ?_
  refine lv_dup hx hb dX6_end_146 rfl ?_
  refine va_get (D := G) (ci := 5) (v := .int 0) (C := RX6) (T := TX6) (N := 35) hx hb hts iX_X6 hown hK hP 0 rfl rfl 15 (by decide) (hts _ m_t865) (fun _ h9 => h9) rfl dX6_end_147 ?_
  refine lv_iconst (v := 1) hx hb dX6_end_150 (by decide) ?_
  refine lv_iadd hx hb dX6_end_151 ?_
  refine lv_seti (v := 1) (by decide) ?_
  refine va_put (D := G) (ci := 5) (v := .int 1) (ty := .int) (C := RX6) (T := TX6) (N := 35) hx hb hts iX_X6 tyX6 tyX6_ok nmX6 hown hK hP hD hS 0 rfl rfl 15 (by decide) (hts _ m_t865) (fun _ h9 => h9) rfl (by decide +kernel) rfl rfl (Nat.le_of_ble_eq_true rfl) dX6_end_152 (fun H locs hP hD hS => ?_)
  have hP : va_P G CL [(qm, .inr (5, [v1, v2, v3, v4, v5, v6, v7, v8, v9, v10, v11, v12, .int 0, v13, v14, .int 1, v15, v16, v17, v18, v19, v20, v21, v22, v23, v24, v25, v26, v27, v28, v29, v30, v31, v32, v33]))] H := hP
  have hD : va_D A [(qm, .inr (5, [v1, v2, v3, v4, v5, v6, v7, v8, v9, v10, v11, v12, .int 0, v13, v14, .int 1, v15, v16, v17, v18, v19, v20, v21, v22, v23, v24, v25, v26, v27, v28, v29, v30, v31, v32, v33]))] := hD
  refine lv_iload_n hx hb dX6_end_155 rfl (lv_at hl 1 rfl) ?_
  exact endW (u := []) hx hb hr hlocks rfl va_P0 va_D0 hS ⟨rfl, rfl⟩ dX6_end_156
