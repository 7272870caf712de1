theorem in_yes {v a b : Int64} (h1 : ¬ lg_cmp v a < 0) (h2 : ¬ 0 < lg_cmp v b) : Iv v a b := Iv_iff.mpr ⟨(lg_cmp_ge v a).mp (Int32.not_lt.mp h1), (lg_cmp_le v b).mp (Int32.not_lt.mp h2)⟩
theorem in_no1 {v a b : Int64} (h1 : lg_cmp v a < 0) : ¬ Iv v a b := fun h => absurd ((lg_cmp_ge v a).mpr (Iv_iff.mp h).1) (Int32.not_le.mpr h1)
theorem in_no2 {v a b : Int64} (h1 : 0 < lg_cmp v b) : ¬ Iv v a b := fun h => absurd ((lg_cmp_le v b).mpr (Iv_iff.mp h).2) (Int32.not_le.mpr h1)
theorem and_m1 (x : Int32) : x &&& (-1) = x := by
  apply Int32.toBitVec_inj.mp
  simp
theorem in_shelf {x : Int32} (h : Iv x.toInt64 0 7) : vp_in x 8 := by
  rw [vp_in_iff]
  obtain ⟨h1, h2⟩ := Iv_iff.mp h
  rw [Int64.le_iff_toInt_le, Int32.toInt_toInt64] at h1 h2
  exact ⟨h1, Int.lt_of_le_of_lt h2 (by decide)⟩
theorem lt_in {x : Int32} {n : Nat} (h : vp_in x n) : x.toNatClampNeg < n := Nat.not_le.mp fun q => h (Or.inr q)
theorem dJ6_bitCount_0f7a4_0 : decode cJ6_bitCount_0f7a4 0 = .ok (.iload_n 0, 1) := by decide +kernel
theorem dJ6_bitCount_0f7a4_1 : decode cJ6_bitCount_0f7a4 1 = .ok (.iload_n 0, 1) := by decide +kernel
theorem dJ6_bitCount_0f7a4_2 : decode cJ6_bitCount_0f7a4 2 = .ok (.iconst 1, 1) := by decide +kernel
theorem dJ6_bitCount_0f7a4_3 : decode cJ6_bitCount_0f7a4 3 = .ok (.iushr, 1) := by decide +kernel
theorem dJ6_bitCount_0f7a4_4 : decode cJ6_bitCount_0f7a4 4 = .ok (.ldc_w 265, 3) := by decide +kernel
theorem dJ6_bitCount_0f7a4_7 : decode cJ6_bitCount_0f7a4 7 = .ok (.iand, 1) := by decide +kernel
theorem dJ6_bitCount_0f7a4_8 : decode cJ6_bitCount_0f7a4 8 = .ok (.isub, 1) := by decide +kernel
theorem dJ6_bitCount_0f7a4_9 : decode cJ6_bitCount_0f7a4 9 = .ok (.istore_n 0, 1) := by decide +kernel
theorem dJ6_bitCount_0f7a4_10 : decode cJ6_bitCount_0f7a4 10 = .ok (.iload_n 0, 1) := by decide +kernel
theorem dJ6_bitCount_0f7a4_11 : decode cJ6_bitCount_0f7a4 11 = .ok (.ldc_w 266, 3) := by decide +kernel
theorem dJ6_bitCount_0f7a4_14 : decode cJ6_bitCount_0f7a4 14 = .ok (.iand, 1) := by decide +kernel
theorem dJ6_bitCount_0f7a4_15 : decode cJ6_bitCount_0f7a4 15 = .ok (.iload_n 0, 1) := by decide +kernel
theorem dJ6_bitCount_0f7a4_16 : decode cJ6_bitCount_0f7a4 16 = .ok (.iconst 2, 1) := by decide +kernel
theorem dJ6_bitCount_0f7a4_17 : decode cJ6_bitCount_0f7a4 17 = .ok (.iushr, 1) := by decide +kernel
theorem dJ6_bitCount_0f7a4_18 : decode cJ6_bitCount_0f7a4 18 = .ok (.ldc_w 266, 3) := by decide +kernel
theorem dJ6_bitCount_0f7a4_21 : decode cJ6_bitCount_0f7a4 21 = .ok (.iand, 1) := by decide +kernel
theorem dJ6_bitCount_0f7a4_22 : decode cJ6_bitCount_0f7a4 22 = .ok (.iadd, 1) := by decide +kernel
theorem dJ6_bitCount_0f7a4_23 : decode cJ6_bitCount_0f7a4 23 = .ok (.istore_n 0, 1) := by decide +kernel
theorem dJ6_bitCount_0f7a4_24 : decode cJ6_bitCount_0f7a4 24 = .ok (.iload_n 0, 1) := by decide +kernel
theorem dJ6_bitCount_0f7a4_25 : decode cJ6_bitCount_0f7a4 25 = .ok (.iload_n 0, 1) := by decide +kernel
theorem dJ6_bitCount_0f7a4_26 : decode cJ6_bitCount_0f7a4 26 = .ok (.iconst 4, 1) := by decide +kernel
theorem dJ6_bitCount_0f7a4_27 : decode cJ6_bitCount_0f7a4 27 = .ok (.iushr, 1) := by decide +kernel
theorem dJ6_bitCount_0f7a4_28 : decode cJ6_bitCount_0f7a4 28 = .ok (.iadd, 1) := by decide +kernel
theorem dJ6_bitCount_0f7a4_29 : decode cJ6_bitCount_0f7a4 29 = .ok (.ldc_w 267, 3) := by decide +kernel
theorem dJ6_bitCount_0f7a4_32 : decode cJ6_bitCount_0f7a4 32 = .ok (.iand, 1) := by decide +kernel
theorem dJ6_bitCount_0f7a4_33 : decode cJ6_bitCount_0f7a4 33 = .ok (.istore_n 0, 1) := by decide +kernel
theorem dJ6_bitCount_0f7a4_34 : decode cJ6_bitCount_0f7a4 34 = .ok (.iload_n 0, 1) := by decide +kernel
theorem dJ6_bitCount_0f7a4_35 : decode cJ6_bitCount_0f7a4 35 = .ok (.iload_n 0, 1) := by decide +kernel
theorem dJ6_bitCount_0f7a4_36 : decode cJ6_bitCount_0f7a4 36 = .ok (.bipush 8, 2) := by decide +kernel
theorem dJ6_bitCount_0f7a4_38 : decode cJ6_bitCount_0f7a4 38 = .ok (.iushr, 1) := by decide +kernel
theorem dJ6_bitCount_0f7a4_39 : decode cJ6_bitCount_0f7a4 39 = .ok (.iadd, 1) := by decide +kernel
theorem dJ6_bitCount_0f7a4_40 : decode cJ6_bitCount_0f7a4 40 = .ok (.istore_n 0, 1) := by decide +kernel
theorem dJ6_bitCount_0f7a4_41 : decode cJ6_bitCount_0f7a4 41 = .ok (.iload_n 0, 1) := by decide +kernel
theorem dJ6_bitCount_0f7a4_42 : decode cJ6_bitCount_0f7a4 42 = .ok (.iload_n 0, 1) := by decide +kernel
theorem dJ6_bitCount_0f7a4_43 : decode cJ6_bitCount_0f7a4 43 = .ok (.bipush 16, 2) := by decide +kernel
theorem dJ6_bitCount_0f7a4_45 : decode cJ6_bitCount_0f7a4 45 = .ok (.iushr, 1) := by decide +kernel
theorem dJ6_bitCount_0f7a4_46 : decode cJ6_bitCount_0f7a4 46 = .ok (.iadd, 1) := by decide +kernel
theorem dJ6_bitCount_0f7a4_47 : decode cJ6_bitCount_0f7a4 47 = .ok (.istore_n 0, 1) := by decide +kernel
theorem dJ6_bitCount_0f7a4_48 : decode cJ6_bitCount_0f7a4 48 = .ok (.iload_n 0, 1) := by decide +kernel
theorem dJ6_bitCount_0f7a4_49 : decode cJ6_bitCount_0f7a4 49 = .ok (.bipush 63, 2) := by decide +kernel
theorem dJ6_bitCount_0f7a4_51 : decode cJ6_bitCount_0f7a4 51 = .ok (.iand, 1) := by decide +kernel
theorem dJ6_bitCount_0f7a4_52 : decode cJ6_bitCount_0f7a4 52 = .ok (.ireturn, 1) := by decide +kernel
theorem dX2_countHolding_0 : decode cX2_countHolding 0 = .ok (.iconst 0, 1) := by decide +kernel
theorem dX2_countHolding_1 : decode cX2_countHolding 1 = .ok (.istore_n 1, 1) := by decide +kernel
theorem dX2_countHolding_2 : decode cX2_countHolding 2 = .ok (.iconst 0, 1) := by decide +kernel
theorem dX2_countHolding_3 : decode cX2_countHolding 3 = .ok (.istore_n 2, 1) := by decide +kernel
theorem dX2_countHolding_4 : decode cX2_countHolding 4 = .ok (.iload_n 2, 1) := by decide +kernel
theorem dX2_countHolding_5 : decode cX2_countHolding 5 = .ok (.bipush 8, 2) := by decide +kernel
theorem dX2_countHolding_7 : decode cX2_countHolding 7 = .ok (.if_icmp .ge 22, 3) := by decide +kernel
theorem dX2_countHolding_10 : decode cX2_countHolding 10 = .ok (.aload_n 0, 1) := by decide +kernel
theorem dX2_countHolding_11 : decode cX2_countHolding 11 = .ok (.getfield 9, 3) := by decide +kernel
theorem dX2_countHolding_14 : decode cX2_countHolding 14 = .ok (.iload_n 2, 1) := by decide +kernel
theorem dX2_countHolding_15 : decode cX2_countHolding 15 = .ok (.iaload, 1) := by decide +kernel
theorem dX2_countHolding_16 : decode cX2_countHolding 16 = .ok (.iconst (-1), 1) := by decide +kernel
theorem dX2_countHolding_17 : decode cX2_countHolding 17 = .ok (.if_icmp .eq 6, 3) := by decide +kernel
theorem dX2_countHolding_23 : decode cX2_countHolding 23 = .ok (.iinc 2 1, 3) := by decide +kernel
theorem dX2_countHolding_26 : decode cX2_countHolding 26 = .ok (.goto (-22), 3) := by decide +kernel
theorem dX2_countHolding_29 : decode cX2_countHolding 29 = .ok (.iload_n 1, 1) := by decide +kernel
theorem dX2_countHolding_30 : decode cX2_countHolding 30 = .ok (.ireturn, 1) := by decide +kernel
theorem dX2_hasRow_0 : decode cX2_hasRow 0 = .ok (.aload_n 0, 1) := by decide +kernel
theorem dX2_hasRow_1 : decode cX2_hasRow 1 = .ok (.getfield 9, 3) := by decide +kernel
theorem dX2_hasRow_4 : decode cX2_hasRow 4 = .ok (.iload_n 1, 1) := by decide +kernel
theorem dX2_hasRow_5 : decode cX2_hasRow 5 = .ok (.iaload, 1) := by decide +kernel
theorem dX2_hasRow_6 : decode cX2_hasRow 6 = .ok (.ifCond .lt 17, 3) := by decide +kernel
theorem dX2_hasRow_23 : decode cX2_hasRow 23 = .ok (.iconst 0, 1) := by decide +kernel
theorem dX2_hasRow_24 : decode cX2_hasRow 24 = .ok (.ireturn, 1) := by decide +kernel
theorem dX2_hasRule_0 : decode cX2_hasRule 0 = .ok (.aload_n 0, 1) := by decide +kernel
theorem dX2_hasRule_1 : decode cX2_hasRule 1 = .ok (.getfield 9, 3) := by decide +kernel
theorem dX2_hasRule_4 : decode cX2_hasRule 4 = .ok (.iload_n 1, 1) := by decide +kernel
theorem dX2_hasRule_5 : decode cX2_hasRule 5 = .ok (.iaload, 1) := by decide +kernel
theorem dX2_hasRule_6 : decode cX2_hasRule 6 = .ok (.bipush 10, 2) := by decide +kernel
theorem dX2_hasRule_8 : decode cX2_hasRule 8 = .ok (.if_icmp .lt 7, 3) := by decide +kernel
theorem dX2_hasRule_15 : decode cX2_hasRule 15 = .ok (.iconst 0, 1) := by decide +kernel
theorem dX2_hasRule_16 : decode cX2_hasRule 16 = .ok (.ireturn, 1) := by decide +kernel
theorem dX2_putRule_0 : decode cX2_putRule 0 = .ok (.aload_n 0, 1) := by decide +kernel
theorem dX2_putRule_1 : decode cX2_putRule 1 = .ok (.getfield 9, 3) := by decide +kernel
theorem dX2_putRule_4 : decode cX2_putRule 4 = .ok (.iload_n 1, 1) := by decide +kernel
theorem dX2_putRule_5 : decode cX2_putRule 5 = .ok (.bipush 10, 2) := by decide +kernel
theorem dX2_putRule_7 : decode cX2_putRule 7 = .ok (.iload_n 2, 1) := by decide +kernel
theorem dX2_putRule_8 : decode cX2_putRule 8 = .ok (.iadd, 1) := by decide +kernel
theorem dX2_putRule_9 : decode cX2_putRule 9 = .ok (.iastore, 1) := by decide +kernel
theorem dX2_putRule_10 : decode cX2_putRule 10 = .ok (.aload_n 0, 1) := by decide +kernel
theorem dX2_putRule_11 : decode cX2_putRule 11 = .ok (.getfield 18, 3) := by decide +kernel
theorem dX2_putRule_14 : decode cX2_putRule 14 = .ok (.iload_n 1, 1) := by decide +kernel
theorem dX2_putRule_15 : decode cX2_putRule 15 = .ok (.iload_n 3, 1) := by decide +kernel
theorem dX2_putRule_16 : decode cX2_putRule 16 = .ok (.iastore, 1) := by decide +kernel
theorem dX2_putRule_17 : decode cX2_putRule 17 = .ok (.return_, 1) := by decide +kernel
theorem dX4_addBook_0 : decode cX4_addBook 0 = .ok (.aload_n 0, 1) := by decide +kernel
theorem dX4_addBook_1 : decode cX4_addBook 1 = .ok (.getfield 40, 3) := by decide +kernel
theorem dX4_addBook_4 : decode cX4_addBook 4 = .ok (.istore_n 3, 1) := by decide +kernel
theorem dX4_addBook_5 : decode cX4_addBook 5 = .ok (.aload_n 0, 1) := by decide +kernel
theorem dX4_addBook_6 : decode cX4_addBook 6 = .ok (.getfield 15, 3) := by decide +kernel
theorem dX4_addBook_9 : decode cX4_addBook 9 = .ok (.iload_n 3, 1) := by decide +kernel
theorem dX4_addBook_10 : decode cX4_addBook 10 = .ok (.iload_n 1, 1) := by decide +kernel
theorem dX4_addBook_11 : decode cX4_addBook 11 = .ok (.iastore, 1) := by decide +kernel
theorem dX4_addBook_12 : decode cX4_addBook 12 = .ok (.aload_n 0, 1) := by decide +kernel
theorem dX4_addBook_13 : decode cX4_addBook 13 = .ok (.getfield 19, 3) := by decide +kernel
theorem dX4_addBook_16 : decode cX4_addBook 16 = .ok (.iload_n 3, 1) := by decide +kernel
theorem dX4_addBook_17 : decode cX4_addBook 17 = .ok (.iload_n 2, 1) := by decide +kernel
theorem dX4_addBook_18 : decode cX4_addBook 18 = .ok (.iastore, 1) := by decide +kernel
theorem dX4_addBook_19 : decode cX4_addBook 19 = .ok (.aload_n 0, 1) := by decide +kernel
theorem dX4_addBook_20 : decode cX4_addBook 20 = .ok (.getfield 22, 3) := by decide +kernel
theorem dX4_addBook_23 : decode cX4_addBook 23 = .ok (.iload_n 3, 1) := by decide +kernel
theorem dX4_addBook_24 : decode cX4_addBook 24 = .ok (.sipush 1000, 3) := by decide +kernel
theorem dX4_addBook_27 : decode cX4_addBook 27 = .ok (.iastore, 1) := by decide +kernel
theorem dX4_addBook_28 : decode cX4_addBook 28 = .ok (.aload_n 0, 1) := by decide +kernel
theorem dX4_addBook_29 : decode cX4_addBook 29 = .ok (.dup, 1) := by decide +kernel
theorem dX4_addBook_30 : decode cX4_addBook 30 = .ok (.getfield 40, 3) := by decide +kernel
theorem dX4_addBook_33 : decode cX4_addBook 33 = .ok (.iconst 1, 1) := by decide +kernel
theorem dX4_addBook_34 : decode cX4_addBook 34 = .ok (.iadd, 1) := by decide +kernel
theorem dX4_addBook_35 : decode cX4_addBook 35 = .ok (.putfield 40, 3) := by decide +kernel
theorem dX4_addBook_38 : decode cX4_addBook 38 = .ok (.iload_n 3, 1) := by decide +kernel
theorem dX4_addBook_39 : decode cX4_addBook 39 = .ok (.ireturn, 1) := by decide +kernel
theorem dX4_addOne_0 : decode cX4_addOne 0 = .ok (.aload_n 0, 1) := by decide +kernel
theorem dX4_addOne_1 : decode cX4_addOne 1 = .ok (.getfield 43, 3) := by decide +kernel
theorem dX4_addOne_4 : decode cX4_addOne 4 = .ok (.istore 5, 2) := by decide +kernel
theorem dX4_addOne_6 : decode cX4_addOne 6 = .ok (.aload_n 0, 1) := by decide +kernel
theorem dX4_addOne_7 : decode cX4_addOne 7 = .ok (.getfield 25, 3) := by decide +kernel
theorem dX4_addOne_10 : decode cX4_addOne 10 = .ok (.iload 5, 2) := by decide +kernel
theorem dX4_addOne_12 : decode cX4_addOne 12 = .ok (.iload_n 1, 1) := by decide +kernel
theorem dX4_addOne_13 : decode cX4_addOne 13 = .ok (.iastore, 1) := by decide +kernel
theorem dX4_addOne_14 : decode cX4_addOne 14 = .ok (.aload_n 0, 1) := by decide +kernel
theorem dX4_addOne_15 : decode cX4_addOne 15 = .ok (.getfield 28, 3) := by decide +kernel
theorem dX4_addOne_18 : decode cX4_addOne 18 = .ok (.iload 5, 2) := by decide +kernel
theorem dX4_addOne_20 : decode cX4_addOne 20 = .ok (.iload_n 2, 1) := by decide +kernel
theorem dX4_addOne_21 : decode cX4_addOne 21 = .ok (.iastore, 1) := by decide +kernel
theorem dX4_addOne_22 : decode cX4_addOne 22 = .ok (.aload_n 0, 1) := by decide +kernel
theorem dX4_addOne_23 : decode cX4_addOne 23 = .ok (.getfield 31, 3) := by decide +kernel
theorem dX4_addOne_26 : decode cX4_addOne 26 = .ok (.iload 5, 2) := by decide +kernel
theorem dX4_addOne_28 : decode cX4_addOne 28 = .ok (.iload_n 3, 1) := by decide +kernel
theorem dX4_addOne_29 : decode cX4_addOne 29 = .ok (.iastore, 1) := by decide +kernel
theorem dX4_addOne_30 : decode cX4_addOne 30 = .ok (.aload_n 0, 1) := by decide +kernel
theorem dX4_addOne_31 : decode cX4_addOne 31 = .ok (.getfield 34, 3) := by decide +kernel
theorem dX4_addOne_34 : decode cX4_addOne 34 = .ok (.iload 5, 2) := by decide +kernel
theorem dX4_addOne_36 : decode cX4_addOne 36 = .ok (.iload 4, 2) := by decide +kernel
theorem dX4_addOne_38 : decode cX4_addOne 38 = .ok (.iastore, 1) := by decide +kernel
theorem dX4_addOne_39 : decode cX4_addOne 39 = .ok (.aload_n 0, 1) := by decide +kernel
theorem dX4_addOne_40 : decode cX4_addOne 40 = .ok (.dup, 1) := by decide +kernel
theorem dX4_addOne_41 : decode cX4_addOne 41 = .ok (.getfield 43, 3) := by decide +kernel
theorem dX4_addOne_44 : decode cX4_addOne 44 = .ok (.iconst 1, 1) := by decide +kernel
theorem dX4_addOne_45 : decode cX4_addOne 45 = .ok (.iadd, 1) := by decide +kernel
theorem dX4_addOne_46 : decode cX4_addOne 46 = .ok (.putfield 43, 3) := by decide +kernel
theorem dX4_addOne_49 : decode cX4_addOne 49 = .ok (.iload 5, 2) := by decide +kernel
theorem dX4_addOne_51 : decode cX4_addOne 51 = .ok (.ireturn, 1) := by decide +kernel
theorem dX4_afterTelling_0 : decode cX4_afterTelling 0 = .ok (.iload_n 0, 1) := by decide +kernel
theorem dX4_afterTelling_1 : decode cX4_afterTelling 1 = .ok (.iload_n 1, 1) := by decide +kernel
theorem dX4_afterTelling_2 : decode cX4_afterTelling 2 = .ok (.imul, 1) := by decide +kernel
theorem dX4_afterTelling_3 : decode cX4_afterTelling 3 = .ok (.bipush 10, 2) := by decide +kernel
theorem dX4_afterTelling_5 : decode cX4_afterTelling 5 = .ok (.idiv, 1) := by decide +kernel
theorem dX4_afterTelling_6 : decode cX4_afterTelling 6 = .ok (.ireturn, 1) := by decide +kernel
theorem dX4_become_0 : decode cX4_become 0 = .ok (.aload_n 0, 1) := by decide +kernel
theorem dX4_become_1 : decode cX4_become 1 = .ok (.aload_n 1, 1) := by decide +kernel
theorem dX4_become_2 : decode cX4_become 2 = .ok (.getfield 40, 3) := by decide +kernel
theorem dX4_become_5 : decode cX4_become 5 = .ok (.putfield 40, 3) := by decide +kernel
theorem dX4_become_8 : decode cX4_become 8 = .ok (.aload_n 0, 1) := by decide +kernel
theorem dX4_become_9 : decode cX4_become 9 = .ok (.aload_n 1, 1) := by decide +kernel
theorem dX4_become_10 : decode cX4_become 10 = .ok (.getfield 43, 3) := by decide +kernel
theorem dX4_become_13 : decode cX4_become 13 = .ok (.putfield 43, 3) := by decide +kernel
theorem dX4_become_16 : decode cX4_become 16 = .ok (.aload_n 0, 1) := by decide +kernel
theorem dX4_become_17 : decode cX4_become 17 = .ok (.aload_n 1, 1) := by decide +kernel
theorem dX4_become_18 : decode cX4_become 18 = .ok (.getfield 46, 3) := by decide +kernel
theorem dX4_become_21 : decode cX4_become 21 = .ok (.putfield 46, 3) := by decide +kernel
theorem dX4_become_24 : decode cX4_become 24 = .ok (.aload_n 0, 1) := by decide +kernel
theorem dX4_become_25 : decode cX4_become 25 = .ok (.aload_n 1, 1) := by decide +kernel
theorem dX4_become_26 : decode cX4_become 26 = .ok (.getfield 49, 3) := by decide +kernel
theorem dX4_become_29 : decode cX4_become 29 = .ok (.putfield 49, 3) := by decide +kernel
theorem dX4_become_32 : decode cX4_become 32 = .ok (.aload_n 0, 1) := by decide +kernel
theorem dX4_become_33 : decode cX4_become 33 = .ok (.aload_n 1, 1) := by decide +kernel
theorem dX4_become_34 : decode cX4_become 34 = .ok (.getfield 9, 3) := by decide +kernel
theorem dX4_become_37 : decode cX4_become 37 = .ok (.putfield 9, 3) := by decide +kernel
theorem dX4_become_40 : decode cX4_become 40 = .ok (.aload_n 1, 1) := by decide +kernel
theorem dX4_become_41 : decode cX4_become 41 = .ok (.getfield 15, 3) := by decide +kernel
theorem dX4_become_44 : decode cX4_become 44 = .ok (.iconst 0, 1) := by decide +kernel
theorem dX4_become_45 : decode cX4_become 45 = .ok (.aload_n 0, 1) := by decide +kernel
theorem dX4_become_46 : decode cX4_become 46 = .ok (.getfield 15, 3) := by decide +kernel
theorem dX4_become_49 : decode cX4_become 49 = .ok (.iconst 0, 1) := by decide +kernel
theorem dX4_become_50 : decode cX4_become 50 = .ok (.bipush 8, 2) := by decide +kernel
theorem dX4_become_52 : decode cX4_become 52 = .ok (.invokestatic 52, 3) := by decide +kernel
theorem dX4_become_55 : decode cX4_become 55 = .ok (.aload_n 1, 1) := by decide +kernel
theorem dX4_become_56 : decode cX4_become 56 = .ok (.getfield 19, 3) := by decide +kernel
theorem dX4_become_59 : decode cX4_become 59 = .ok (.iconst 0, 1) := by decide +kernel
theorem dX4_become_60 : decode cX4_become 60 = .ok (.aload_n 0, 1) := by decide +kernel
theorem dX4_become_61 : decode cX4_become 61 = .ok (.getfield 19, 3) := by decide +kernel
theorem dX4_become_64 : decode cX4_become 64 = .ok (.iconst 0, 1) := by decide +kernel
theorem dX4_become_65 : decode cX4_become 65 = .ok (.bipush 8, 2) := by decide +kernel
theorem dX4_become_67 : decode cX4_become 67 = .ok (.invokestatic 52, 3) := by decide +kernel
theorem dX4_become_70 : decode cX4_become 70 = .ok (.aload_n 1, 1) := by decide +kernel
theorem dX4_become_71 : decode cX4_become 71 = .ok (.getfield 22, 3) := by decide +kernel
theorem dX4_become_74 : decode cX4_become 74 = .ok (.iconst 0, 1) := by decide +kernel
theorem dX4_become_75 : decode cX4_become 75 = .ok (.aload_n 0, 1) := by decide +kernel
theorem dX4_become_76 : decode cX4_become 76 = .ok (.getfield 22, 3) := by decide +kernel
theorem dX4_become_79 : decode cX4_become 79 = .ok (.iconst 0, 1) := by decide +kernel
theorem dX4_become_80 : decode cX4_become 80 = .ok (.bipush 8, 2) := by decide +kernel
theorem dX4_become_82 : decode cX4_become 82 = .ok (.invokestatic 52, 3) := by decide +kernel
theorem dX4_become_85 : decode cX4_become 85 = .ok (.aload_n 1, 1) := by decide +kernel
theorem dX4_become_86 : decode cX4_become 86 = .ok (.getfield 25, 3) := by decide +kernel
theorem dX4_become_89 : decode cX4_become 89 = .ok (.iconst 0, 1) := by decide +kernel
theorem dX4_become_90 : decode cX4_become 90 = .ok (.aload_n 0, 1) := by decide +kernel
theorem dX4_become_91 : decode cX4_become 91 = .ok (.getfield 25, 3) := by decide +kernel
theorem dX4_become_94 : decode cX4_become 94 = .ok (.iconst 0, 1) := by decide +kernel
theorem dX4_become_95 : decode cX4_become 95 = .ok (.bipush 8, 2) := by decide +kernel
theorem dX4_become_97 : decode cX4_become 97 = .ok (.invokestatic 52, 3) := by decide +kernel
theorem dX4_become_100 : decode cX4_become 100 = .ok (.aload_n 1, 1) := by decide +kernel
theorem dX4_become_101 : decode cX4_become 101 = .ok (.getfield 28, 3) := by decide +kernel
theorem dX4_become_104 : decode cX4_become 104 = .ok (.iconst 0, 1) := by decide +kernel
theorem dX4_become_105 : decode cX4_become 105 = .ok (.aload_n 0, 1) := by decide +kernel
theorem dX4_become_106 : decode cX4_become 106 = .ok (.getfield 28, 3) := by decide +kernel
theorem dX4_become_109 : decode cX4_become 109 = .ok (.iconst 0, 1) := by decide +kernel
theorem dX4_become_110 : decode cX4_become 110 = .ok (.bipush 8, 2) := by decide +kernel
theorem dX4_become_112 : decode cX4_become 112 = .ok (.invokestatic 52, 3) := by decide +kernel
theorem dX4_become_115 : decode cX4_become 115 = .ok (.aload_n 1, 1) := by decide +kernel
theorem dX4_become_116 : decode cX4_become 116 = .ok (.getfield 31, 3) := by decide +kernel
theorem dX4_become_119 : decode cX4_become 119 = .ok (.iconst 0, 1) := by decide +kernel
theorem dX4_become_120 : decode cX4_become 120 = .ok (.aload_n 0, 1) := by decide +kernel
theorem dX4_become_121 : decode cX4_become 121 = .ok (.getfield 31, 3) := by decide +kernel
theorem dX4_become_124 : decode cX4_become 124 = .ok (.iconst 0, 1) := by decide +kernel
theorem dX4_become_125 : decode cX4_become 125 = .ok (.bipush 8, 2) := by decide +kernel
theorem dX4_become_127 : decode cX4_become 127 = .ok (.invokestatic 52, 3) := by decide +kernel
theorem dX4_become_130 : decode cX4_become 130 = .ok (.aload_n 1, 1) := by decide +kernel
theorem dX4_become_131 : decode cX4_become 131 = .ok (.getfield 34, 3) := by decide +kernel
theorem dX4_become_134 : decode cX4_become 134 = .ok (.iconst 0, 1) := by decide +kernel
theorem dX4_become_135 : decode cX4_become 135 = .ok (.aload_n 0, 1) := by decide +kernel
theorem dX4_become_136 : decode cX4_become 136 = .ok (.getfield 34, 3) := by decide +kernel
theorem dX4_become_139 : decode cX4_become 139 = .ok (.iconst 0, 1) := by decide +kernel
theorem dX4_become_140 : decode cX4_become 140 = .ok (.bipush 8, 2) := by decide +kernel
theorem dX4_become_142 : decode cX4_become 142 = .ok (.invokestatic 52, 3) := by decide +kernel
theorem dX4_become_145 : decode cX4_become 145 = .ok (.aload_n 1, 1) := by decide +kernel
theorem dX4_become_146 : decode cX4_become 146 = .ok (.getfield 37, 3) := by decide +kernel
theorem dX4_become_149 : decode cX4_become 149 = .ok (.iconst 0, 1) := by decide +kernel
theorem dX4_become_150 : decode cX4_become 150 = .ok (.aload_n 0, 1) := by decide +kernel
theorem dX4_become_151 : decode cX4_become 151 = .ok (.getfield 37, 3) := by decide +kernel
theorem dX4_become_154 : decode cX4_become 154 = .ok (.iconst 0, 1) := by decide +kernel
theorem dX4_become_155 : decode cX4_become 155 = .ok (.bipush 64, 2) := by decide +kernel
theorem dX4_become_157 : decode cX4_become 157 = .ok (.invokestatic 52, 3) := by decide +kernel
theorem dX4_become_160 : decode cX4_become 160 = .ok (.return_, 1) := by decide +kernel
theorem dX4_booksKnown_0 : decode cX4_booksKnown 0 = .ok (.iconst 0, 1) := by decide +kernel
theorem dX4_booksKnown_1 : decode cX4_booksKnown 1 = .ok (.istore_n 3, 1) := by decide +kernel
theorem dX4_booksKnown_2 : decode cX4_booksKnown 2 = .ok (.iconst 0, 1) := by decide +kernel
theorem dX4_booksKnown_3 : decode cX4_booksKnown 3 = .ok (.istore 4, 2) := by decide +kernel
theorem dX4_booksKnown_5 : decode cX4_booksKnown 5 = .ok (.iload 4, 2) := by decide +kernel
theorem dX4_booksKnown_7 : decode cX4_booksKnown 7 = .ok (.aload_n 0, 1) := by decide +kernel
theorem dX4_booksKnown_8 : decode cX4_booksKnown 8 = .ok (.getfield 40, 3) := by decide +kernel
theorem dX4_booksKnown_11 : decode cX4_booksKnown 11 = .ok (.if_icmp .ge 27, 3) := by decide +kernel
theorem dX4_booksKnown_38 : decode cX4_booksKnown 38 = .ok (.iload_n 3, 1) := by decide +kernel
theorem dX4_booksKnown_39 : decode cX4_booksKnown 39 = .ok (.ireturn, 1) := by decide +kernel
theorem dX4_endYear_0 : decode cX4_endYear 0 = .ok (.aload_n 0, 1) := by decide +kernel
theorem dX4_endYear_1 : decode cX4_endYear 1 = .ok (.invokevirtual 78, 3) := by decide +kernel
theorem dX4_endYear_4 : decode cX4_endYear 4 = .ok (.istore_n 1, 1) := by decide +kernel
theorem dX4_endYear_5 : decode cX4_endYear 5 = .ok (.iconst 0, 1) := by decide +kernel
theorem dX4_endYear_6 : decode cX4_endYear 6 = .ok (.istore_n 2, 1) := by decide +kernel
theorem dX4_endYear_7 : decode cX4_endYear 7 = .ok (.iload_n 2, 1) := by decide +kernel
theorem dX4_endYear_8 : decode cX4_endYear 8 = .ok (.aload_n 0, 1) := by decide +kernel
theorem dX4_endYear_9 : decode cX4_endYear 9 = .ok (.getfield 43, 3) := by decide +kernel
theorem dX4_endYear_12 : decode cX4_endYear 12 = .ok (.if_icmp .ge 55, 3) := by decide +kernel
theorem dX4_endYear_67 : decode cX4_endYear 67 = .ok (.iload_n 1, 1) := by decide +kernel
theorem dX4_endYear_68 : decode cX4_endYear 68 = .ok (.aload_n 0, 1) := by decide +kernel
theorem dX4_endYear_69 : decode cX4_endYear 69 = .ok (.getfield 49, 3) := by decide +kernel
theorem dX4_endYear_72 : decode cX4_endYear 72 = .ok (.iand, 1) := by decide +kernel
theorem dX4_endYear_73 : decode cX4_endYear 73 = .ok (.invokestatic 115, 3) := by decide +kernel
theorem dX4_endYear_76 : decode cX4_endYear 76 = .ok (.ireturn, 1) := by decide +kernel
theorem dX4_isBook_0 : decode cX4_isBook 0 = .ok (.iload_n 1, 1) := by decide +kernel
theorem dX4_isBook_1 : decode cX4_isBook 1 = .ok (.ifCond .lt 15, 3) := by decide +kernel
theorem dX4_isBook_4 : decode cX4_isBook 4 = .ok (.iload_n 1, 1) := by decide +kernel
theorem dX4_isBook_5 : decode cX4_isBook 5 = .ok (.aload_n 0, 1) := by decide +kernel
theorem dX4_isBook_6 : decode cX4_isBook 6 = .ok (.getfield 40, 3) := by decide +kernel
theorem dX4_isBook_9 : decode cX4_isBook 9 = .ok (.if_icmp .ge 7, 3) := by decide +kernel
theorem dX4_isBook_16 : decode cX4_isBook 16 = .ok (.iconst 0, 1) := by decide +kernel
theorem dX4_isBook_17 : decode cX4_isBook 17 = .ok (.ireturn, 1) := by decide +kernel
theorem dX4_isOne_0 : decode cX4_isOne 0 = .ok (.iload_n 1, 1) := by decide +kernel
theorem dX4_isOne_1 : decode cX4_isOne 1 = .ok (.ifCond .lt 15, 3) := by decide +kernel
theorem dX4_isOne_4 : decode cX4_isOne 4 = .ok (.iload_n 1, 1) := by decide +kernel
theorem dX4_isOne_5 : decode cX4_isOne 5 = .ok (.aload_n 0, 1) := by decide +kernel
theorem dX4_isOne_6 : decode cX4_isOne 6 = .ok (.getfield 43, 3) := by decide +kernel
theorem dX4_isOne_9 : decode cX4_isOne 9 = .ok (.if_icmp .ge 7, 3) := by decide +kernel
theorem dX4_isOne_16 : decode cX4_isOne 16 = .ok (.iconst 0, 1) := by decide +kernel
theorem dX4_isOne_17 : decode cX4_isOne 17 = .ok (.ireturn, 1) := by decide +kernel
theorem dX4_setThere_0 : decode cX4_setThere 0 = .ok (.aload_n 0, 1) := by decide +kernel
theorem dX4_setThere_1 : decode cX4_setThere 1 = .ok (.getfield 43, 3) := by decide +kernel
theorem dX4_setThere_4 : decode cX4_setThere 4 = .ok (.invokestatic 58, 3) := by decide +kernel
theorem dX4_setThere_7 : decode cX4_setThere 7 = .ok (.aload_n 0, 1) := by decide +kernel
theorem dX4_setThere_8 : decode cX4_setThere 8 = .ok (.getfield 49, 3) := by decide +kernel
theorem dX4_setThere_11 : decode cX4_setThere 11 = .ok (.iconst (-1), 1) := by decide +kernel
theorem dX4_setThere_12 : decode cX4_setThere 12 = .ok (.ixor, 1) := by decide +kernel
theorem dX4_setThere_13 : decode cX4_setThere 13 = .ok (.iand, 1) := by decide +kernel
theorem dX4_setThere_14 : decode cX4_setThere 14 = .ok (.ireturn, 1) := by decide +kernel
theorem dX4_worthAmong_0 : decode cX4_worthAmong 0 = .ok (.iconst 0, 1) := by decide +kernel
theorem dX4_worthAmong_1 : decode cX4_worthAmong 1 = .ok (.istore_n 2, 1) := by decide +kernel
theorem dX4_worthAmong_2 : decode cX4_worthAmong 2 = .ok (.iconst 0, 1) := by decide +kernel
theorem dX4_worthAmong_3 : decode cX4_worthAmong 3 = .ok (.istore_n 3, 1) := by decide +kernel
theorem dX4_worthAmong_4 : decode cX4_worthAmong 4 = .ok (.iload_n 3, 1) := by decide +kernel
theorem dX4_worthAmong_5 : decode cX4_worthAmong 5 = .ok (.aload_n 0, 1) := by decide +kernel
theorem dX4_worthAmong_6 : decode cX4_worthAmong 6 = .ok (.getfield 40, 3) := by decide +kernel
theorem dX4_worthAmong_9 : decode cX4_worthAmong 9 = .ok (.if_icmp .ge 25, 3) := by decide +kernel
theorem dX4_worthAmong_34 : decode cX4_worthAmong 34 = .ok (.iload_n 2, 1) := by decide +kernel
theorem dX4_worthAmong_35 : decode cX4_worthAmong 35 = .ok (.ireturn, 1) := by decide +kernel
theorem dX4_worthNow_0 : decode cX4_worthNow 0 = .ok (.aload_n 0, 1) := by decide +kernel
theorem dX4_worthNow_1 : decode cX4_worthNow 1 = .ok (.aload_n 0, 1) := by decide +kernel
theorem dX4_worthNow_2 : decode cX4_worthNow 2 = .ok (.invokevirtual 78, 3) := by decide +kernel
theorem dX4_worthNow_5 : decode cX4_worthNow 5 = .ok (.invokevirtual 82, 3) := by decide +kernel
theorem dX4_worthNow_8 : decode cX4_worthNow 8 = .ok (.ireturn, 1) := by decide +kernel
theorem dX5_canBeOne_0 : decode cX5_canBeOne 0 = .ok (.lload_n 0, 1) := by decide +kernel
theorem dX5_canBeOne_1 : decode cX5_canBeOne 1 = .ok (.lconst 0, 1) := by decide +kernel
theorem dX5_canBeOne_2 : decode cX5_canBeOne 2 = .ok (.ldc2_w 357, 3) := by decide +kernel
theorem dX5_canBeOne_5 : decode cX5_canBeOne 5 = .ok (.invokestatic 50, 3) := by decide +kernel
theorem dX5_canBeOne_8 : decode cX5_canBeOne 8 = .ok (.ifCond .eq 42, 3) := by decide +kernel
theorem dX5_canBeOne_11 : decode cX5_canBeOne 11 = .ok (.lload_n 2, 1) := by decide +kernel
theorem dX5_canBeOne_12 : decode cX5_canBeOne 12 = .ok (.lconst 0, 1) := by decide +kernel
theorem dX5_canBeOne_13 : decode cX5_canBeOne 13 = .ok (.ldc2_w 359, 3) := by decide +kernel
theorem dX5_canBeOne_16 : decode cX5_canBeOne 16 = .ok (.invokestatic 50, 3) := by decide +kernel
theorem dX5_canBeOne_19 : decode cX5_canBeOne 19 = .ok (.ifCond .eq 31, 3) := by decide +kernel
theorem dX5_canBeOne_22 : decode cX5_canBeOne 22 = .ok (.lload 4, 2) := by decide +kernel
theorem dX5_canBeOne_24 : decode cX5_canBeOne 24 = .ok (.lconst 0, 1) := by decide +kernel
theorem dX5_canBeOne_25 : decode cX5_canBeOne 25 = .ok (.ldc2_w 359, 3) := by decide +kernel
theorem dX5_canBeOne_28 : decode cX5_canBeOne 28 = .ok (.invokestatic 50, 3) := by decide +kernel
theorem dX5_canBeOne_31 : decode cX5_canBeOne 31 = .ok (.ifCond .eq 19, 3) := by decide +kernel
theorem dX5_canBeOne_34 : decode cX5_canBeOne 34 = .ok (.lload 6, 2) := by decide +kernel
theorem dX5_canBeOne_36 : decode cX5_canBeOne 36 = .ok (.lconst 0, 1) := by decide +kernel
theorem dX5_canBeOne_37 : decode cX5_canBeOne 37 = .ok (.ldc2_w 359, 3) := by decide +kernel
theorem dX5_canBeOne_40 : decode cX5_canBeOne 40 = .ok (.invokestatic 50, 3) := by decide +kernel
theorem dX5_canBeOne_43 : decode cX5_canBeOne 43 = .ok (.ifCond .eq 7, 3) := by decide +kernel
theorem dX5_canBeOne_46 : decode cX5_canBeOne 46 = .ok (.iconst 1, 1) := by decide +kernel
theorem dX5_canBeOne_47 : decode cX5_canBeOne 47 = .ok (.goto 4, 3) := by decide +kernel
theorem dX5_canBeOne_50 : decode cX5_canBeOne 50 = .ok (.iconst 0, 1) := by decide +kernel
theorem dX5_canBeOne_51 : decode cX5_canBeOne 51 = .ok (.ireturn, 1) := by decide +kernel
theorem dX5_canBeTold_0 : decode cX5_canBeTold 0 = .ok (.iload_n 0, 1) := by decide +kernel
theorem dX5_canBeTold_1 : decode cX5_canBeTold 1 = .ok (.i2l, 1) := by decide +kernel
theorem dX5_canBeTold_2 : decode cX5_canBeTold 2 = .ok (.lconst 0, 1) := by decide +kernel
theorem dX5_canBeTold_3 : decode cX5_canBeTold 3 = .ok (.ldc2_w 216, 3) := by decide +kernel
theorem dX5_canBeTold_6 : decode cX5_canBeTold 6 = .ok (.invokestatic 50, 3) := by decide +kernel
theorem dX5_canBeTold_9 : decode cX5_canBeTold 9 = .ok (.ifCond .eq 19, 3) := by decide +kernel
theorem dX5_canBeTold_12 : decode cX5_canBeTold 12 = .ok (.iload_n 1, 1) := by decide +kernel
theorem dX5_canBeTold_13 : decode cX5_canBeTold 13 = .ok (.i2l, 1) := by decide +kernel
theorem dX5_canBeTold_14 : decode cX5_canBeTold 14 = .ok (.lconst 0, 1) := by decide +kernel
theorem dX5_canBeTold_15 : decode cX5_canBeTold 15 = .ok (.ldc2_w 359, 3) := by decide +kernel
theorem dX5_canBeTold_18 : decode cX5_canBeTold 18 = .ok (.invokestatic 50, 3) := by decide +kernel
theorem dX5_canBeTold_21 : decode cX5_canBeTold 21 = .ok (.ifCond .eq 7, 3) := by decide +kernel
theorem dX5_canBeTold_24 : decode cX5_canBeTold 24 = .ok (.iconst 1, 1) := by decide +kernel
theorem dX5_canBeTold_25 : decode cX5_canBeTold 25 = .ok (.goto 4, 3) := by decide +kernel
theorem dX5_canBeTold_28 : decode cX5_canBeTold 28 = .ok (.iconst 0, 1) := by decide +kernel
theorem dX5_canBeTold_29 : decode cX5_canBeTold 29 = .ok (.ireturn, 1) := by decide +kernel
theorem dX5_copyFit_0 : decode cX5_copyFit 0 = .ok (.iload_n 1, 1) := by decide +kernel
theorem dX5_copyFit_1 : decode cX5_copyFit 1 = .ok (.invokestatic 44, 3) := by decide +kernel
theorem dX5_copyFit_4 : decode cX5_copyFit 4 = .ok (.ifCond .eq 10, 3) := by decide +kernel
theorem dX5_copyFit_7 : decode cX5_copyFit 7 = .ok (.iload_n 2, 1) := by decide +kernel
theorem dX5_copyFit_8 : decode cX5_copyFit 8 = .ok (.invokestatic 44, 3) := by decide +kernel
theorem dX5_copyFit_11 : decode cX5_copyFit 11 = .ok (.ifCond .ne 6, 3) := by decide +kernel
theorem dX5_copyFit_14 : decode cX5_copyFit 14 = .ok (.bipush (-2), 2) := by decide +kernel
theorem dX5_copyFit_16 : decode cX5_copyFit 16 = .ok (.ireturn, 1) := by decide +kernel
theorem dX5_copyFit_17 : decode cX5_copyFit 17 = .ok (.aload_n 0, 1) := by decide +kernel
theorem dX5_copyFit_18 : decode cX5_copyFit 18 = .ok (.getfield 29, 3) := by decide +kernel
theorem dX5_copyFit_21 : decode cX5_copyFit 21 = .ok (.iload_n 1, 1) := by decide +kernel
theorem dX5_copyFit_22 : decode cX5_copyFit 22 = .ok (.invokevirtual 361, 3) := by decide +kernel
theorem dX5_copyFit_25 : decode cX5_copyFit 25 = .ok (.ifCond .ne 14, 3) := by decide +kernel
theorem dX5_copyFit_28 : decode cX5_copyFit 28 = .ok (.aload_n 0, 1) := by decide +kernel
theorem dX5_copyFit_29 : decode cX5_copyFit 29 = .ok (.getfield 29, 3) := by decide +kernel
theorem dX5_copyFit_32 : decode cX5_copyFit 32 = .ok (.iload_n 2, 1) := by decide +kernel
theorem dX5_copyFit_33 : decode cX5_copyFit 33 = .ok (.invokevirtual 361, 3) := by decide +kernel
theorem dX5_copyFit_36 : decode cX5_copyFit 36 = .ok (.ifCond .eq 6, 3) := by decide +kernel
theorem dX5_copyFit_42 : decode cX5_copyFit 42 = .ok (.aload_n 0, 1) := by decide +kernel
theorem dX5_copyFit_43 : decode cX5_copyFit 43 = .ok (.getfield 29, 3) := by decide +kernel
theorem dX5_copyFit_46 : decode cX5_copyFit 46 = .ok (.iload_n 1, 1) := by decide +kernel
theorem dX5_copyFit_47 : decode cX5_copyFit 47 = .ok (.invokevirtual 364, 3) := by decide +kernel
theorem dX5_copyFit_50 : decode cX5_copyFit 50 = .ok (.ifCond .eq 14, 3) := by decide +kernel
theorem dX5_copyFit_64 : decode cX5_copyFit 64 = .ok (.bipush (-4), 2) := by decide +kernel
theorem dX5_copyFit_66 : decode cX5_copyFit 66 = .ok (.ireturn, 1) := by decide +kernel
theorem dX5_isPair_0 : decode cX5_isPair 0 = .ok (.aload_n 0, 1) := by decide +kernel
theorem dX5_isPair_1 : decode cX5_isPair 1 = .ok (.getfield 10, 3) := by decide +kernel
theorem dX5_isPair_4 : decode cX5_isPair 4 = .ok (.iload_n 1, 1) := by decide +kernel
theorem dX5_isPair_5 : decode cX5_isPair 5 = .ok (.invokevirtual 192, 3) := by decide +kernel
theorem dX5_isPair_8 : decode cX5_isPair 8 = .ok (.ifCond .eq 18, 3) := by decide +kernel
theorem dX5_isPair_26 : decode cX5_isPair 26 = .ok (.iconst 0, 1) := by decide +kernel
theorem dX5_isPair_27 : decode cX5_isPair 27 = .ok (.ireturn, 1) := by decide +kernel
theorem dX5_isSetOf_0 : decode cX5_isSetOf 0 = .ok (.iload_n 0, 1) := by decide +kernel
theorem dX5_isSetOf_1 : decode cX5_isSetOf 1 = .ok (.iload_n 1, 1) := by decide +kernel
theorem dX5_isSetOf_2 : decode cX5_isSetOf 2 = .ok (.invokestatic 186, 3) := by decide +kernel
theorem dX5_isSetOf_5 : decode cX5_isSetOf 5 = .ok (.iconst (-1), 1) := by decide +kernel
theorem dX5_isSetOf_6 : decode cX5_isSetOf 6 = .ok (.ixor, 1) := by decide +kernel
theorem dX5_isSetOf_7 : decode cX5_isSetOf 7 = .ok (.iand, 1) := by decide +kernel
theorem dX5_isSetOf_8 : decode cX5_isSetOf 8 = .ok (.ifCond .ne 7, 3) := by decide +kernel
theorem dX5_isSetOf_11 : decode cX5_isSetOf 11 = .ok (.iconst 1, 1) := by decide +kernel
theorem dX5_isSetOf_12 : decode cX5_isSetOf 12 = .ok (.goto 4, 3) := by decide +kernel
theorem dX5_isSetOf_15 : decode cX5_isSetOf 15 = .ok (.iconst 0, 1) := by decide +kernel
theorem dX5_isSetOf_16 : decode cX5_isSetOf 16 = .ok (.ireturn, 1) := by decide +kernel
theorem dX5_isShelf_0 : decode cX5_isShelf 0 = .ok (.iload_n 0, 1) := by decide +kernel
theorem dX5_isShelf_1 : decode cX5_isShelf 1 = .ok (.i2l, 1) := by decide +kernel
theorem dX5_isShelf_2 : decode cX5_isShelf 2 = .ok (.lconst 0, 1) := by decide +kernel
theorem dX5_isShelf_3 : decode cX5_isShelf 3 = .ok (.ldc2_w 355, 3) := by decide +kernel
theorem dX5_isShelf_6 : decode cX5_isShelf 6 = .ok (.invokestatic 50, 3) := by decide +kernel
theorem dX5_isShelf_9 : decode cX5_isShelf 9 = .ok (.ireturn, 1) := by decide +kernel
theorem dX5_readFit_0 : decode cX5_readFit 0 = .ok (.aload_n 0, 1) := by decide +kernel
theorem dX5_readFit_1 : decode cX5_readFit 1 = .ok (.iload_n 1, 1) := by decide +kernel
theorem dX5_readFit_2 : decode cX5_readFit 2 = .ok (.iload_n 2, 1) := by decide +kernel
theorem dX5_readFit_3 : decode cX5_readFit 3 = .ok (.invokevirtual 210, 3) := by decide +kernel
theorem dX5_readFit_6 : decode cX5_readFit 6 = .ok (.ifCond .ne 6, 3) := by decide +kernel
theorem dX5_readFit_9 : decode cX5_readFit 9 = .ok (.bipush (-2), 2) := by decide +kernel
theorem dX5_readFit_11 : decode cX5_readFit 11 = .ok (.ireturn, 1) := by decide +kernel
theorem dX5_refuse_0 : decode cX5_refuse 0 = .ok (.bipush (-2), 2) := by decide +kernel
theorem dX5_refuse_2 : decode cX5_refuse 2 = .ok (.iload_n 1, 1) := by decide +kernel
theorem dX5_refuse_3 : decode cX5_refuse 3 = .ok (.isub, 1) := by decide +kernel
theorem dX5_refuse_4 : decode cX5_refuse 4 = .ok (.istore_n 2, 1) := by decide +kernel
theorem dX5_refuse_5 : decode cX5_refuse 5 = .ok (.iload_n 2, 1) := by decide +kernel
theorem dX5_refuse_6 : decode cX5_refuse 6 = .ok (.i2l, 1) := by decide +kernel
theorem dX5_refuse_7 : decode cX5_refuse 7 = .ok (.lconst 0, 1) := by decide +kernel
theorem dX5_refuse_8 : decode cX5_refuse 8 = .ok (.aload_n 0, 1) := by decide +kernel
theorem dX5_refuse_9 : decode cX5_refuse 9 = .ok (.getfield 40, 3) := by decide +kernel
theorem dX5_refuse_12 : decode cX5_refuse 12 = .ok (.arraylength, 1) := by decide +kernel
theorem dX5_refuse_13 : decode cX5_refuse 13 = .ok (.iconst 1, 1) := by decide +kernel
theorem dX5_refuse_14 : decode cX5_refuse 14 = .ok (.isub, 1) := by decide +kernel
theorem dX5_refuse_15 : decode cX5_refuse 15 = .ok (.i2l, 1) := by decide +kernel
theorem dX5_refuse_16 : decode cX5_refuse 16 = .ok (.invokestatic 50, 3) := by decide +kernel
theorem dX5_refuse_19 : decode cX5_refuse 19 = .ok (.ifCond .eq 13, 3) := by decide +kernel
theorem dX5_refuse_22 : decode cX5_refuse 22 = .ok (.aload_n 0, 1) := by decide +kernel
theorem dX5_refuse_23 : decode cX5_refuse 23 = .ok (.getfield 40, 3) := by decide +kernel
theorem dX5_refuse_26 : decode cX5_refuse 26 = .ok (.iload_n 2, 1) := by decide +kernel
theorem dX5_refuse_27 : decode cX5_refuse 27 = .ok (.dup2, 1) := by decide +kernel
theorem dX5_refuse_28 : decode cX5_refuse 28 = .ok (.iaload, 1) := by decide +kernel
theorem dX5_refuse_29 : decode cX5_refuse 29 = .ok (.iconst 1, 1) := by decide +kernel
theorem dX5_refuse_30 : decode cX5_refuse 30 = .ok (.iadd, 1) := by decide +kernel
theorem dX5_refuse_31 : decode cX5_refuse 31 = .ok (.iastore, 1) := by decide +kernel
theorem dX5_refuse_32 : decode cX5_refuse 32 = .ok (.iload_n 1, 1) := by decide +kernel
theorem dX5_refuse_33 : decode cX5_refuse 33 = .ok (.ireturn, 1) := by decide +kernel
theorem dX5_rowFit_0 : decode cX5_rowFit 0 = .ok (.iload_n 1, 1) := by decide +kernel
theorem dX5_rowFit_1 : decode cX5_rowFit 1 = .ok (.invokestatic 44, 3) := by decide +kernel
theorem dX5_rowFit_4 : decode cX5_rowFit 4 = .ok (.ifCond .ne 6, 3) := by decide +kernel
theorem dX5_rowFit_7 : decode cX5_rowFit 7 = .ok (.bipush (-2), 2) := by decide +kernel
theorem dX5_rowFit_9 : decode cX5_rowFit 9 = .ok (.ireturn, 1) := by decide +kernel
theorem dX5_rowFit_10 : decode cX5_rowFit 10 = .ok (.aload_n 0, 1) := by decide +kernel
theorem dX5_rowFit_11 : decode cX5_rowFit 11 = .ok (.getfield 29, 3) := by decide +kernel
theorem dX5_rowFit_14 : decode cX5_rowFit 14 = .ok (.iload_n 1, 1) := by decide +kernel
theorem dX5_rowFit_15 : decode cX5_rowFit 15 = .ok (.invokevirtual 361, 3) := by decide +kernel
theorem dX5_rowFit_18 : decode cX5_rowFit 18 = .ok (.ifCond .eq 6, 3) := by decide +kernel
theorem dX5_rowFit_24 : decode cX5_rowFit 24 = .ok (.aload_n 0, 1) := by decide +kernel
theorem dX5_rowFit_25 : decode cX5_rowFit 25 = .ok (.getfield 29, 3) := by decide +kernel
theorem dX5_rowFit_28 : decode cX5_rowFit 28 = .ok (.iload_n 1, 1) := by decide +kernel
theorem dX5_rowFit_29 : decode cX5_rowFit 29 = .ok (.invokevirtual 364, 3) := by decide +kernel
theorem dX5_rowFit_32 : decode cX5_rowFit 32 = .ok (.ifCond .eq 7, 3) := by decide +kernel
theorem dX5_rowFit_39 : decode cX5_rowFit 39 = .ok (.bipush (-4), 2) := by decide +kernel
theorem dX5_rowFit_41 : decode cX5_rowFit 41 = .ok (.ireturn, 1) := by decide +kernel
theorem dX5_ruleFit_0 : decode cX5_ruleFit 0 = .ok (.iload_n 1, 1) := by decide +kernel
theorem dX5_ruleFit_1 : decode cX5_ruleFit 1 = .ok (.invokestatic 44, 3) := by decide +kernel
theorem dX5_ruleFit_4 : decode cX5_ruleFit 4 = .ok (.ifCond .ne 6, 3) := by decide +kernel
theorem dX5_ruleFit_7 : decode cX5_ruleFit 7 = .ok (.bipush (-2), 2) := by decide +kernel
theorem dX5_ruleFit_9 : decode cX5_ruleFit 9 = .ok (.ireturn, 1) := by decide +kernel
theorem dX5_ruleFit_10 : decode cX5_ruleFit 10 = .ok (.aload_n 0, 1) := by decide +kernel
theorem dX5_ruleFit_11 : decode cX5_ruleFit 11 = .ok (.getfield 29, 3) := by decide +kernel
theorem dX5_ruleFit_14 : decode cX5_ruleFit 14 = .ok (.iload_n 1, 1) := by decide +kernel
theorem dX5_ruleFit_15 : decode cX5_ruleFit 15 = .ok (.invokevirtual 364, 3) := by decide +kernel
theorem dX5_ruleFit_18 : decode cX5_ruleFit 18 = .ok (.ifCond .eq 6, 3) := by decide +kernel
theorem dX5_ruleFit_24 : decode cX5_ruleFit 24 = .ok (.aload_n 0, 1) := by decide +kernel
theorem dX5_ruleFit_25 : decode cX5_ruleFit 25 = .ok (.getfield 29, 3) := by decide +kernel
theorem dX5_ruleFit_28 : decode cX5_ruleFit 28 = .ok (.iload_n 1, 1) := by decide +kernel
theorem dX5_ruleFit_29 : decode cX5_ruleFit 29 = .ok (.invokevirtual 361, 3) := by decide +kernel
theorem dX5_ruleFit_32 : decode cX5_ruleFit 32 = .ok (.ifCond .eq 7, 3) := by decide +kernel
theorem dX5_ruleFit_39 : decode cX5_ruleFit 39 = .ok (.bipush (-4), 2) := by decide +kernel
theorem dX5_ruleFit_41 : decode cX5_ruleFit 41 = .ok (.ireturn, 1) := by decide +kernel
theorem dX5_setOfAll_0 : decode cX5_setOfAll 0 = .ok (.iconst 1, 1) := by decide +kernel
theorem dX5_setOfAll_1 : decode cX5_setOfAll 1 = .ok (.iload_n 0, 1) := by decide +kernel
theorem dX5_setOfAll_2 : decode cX5_setOfAll 2 = .ok (.ishl, 1) := by decide +kernel
theorem dX5_setOfAll_3 : decode cX5_setOfAll 3 = .ok (.iconst 1, 1) := by decide +kernel
theorem dX5_setOfAll_4 : decode cX5_setOfAll 4 = .ok (.isub, 1) := by decide +kernel
theorem dX5_setOfAll_5 : decode cX5_setOfAll 5 = .ok (.ireturn, 1) := by decide +kernel
theorem dX5_toldFit_0 : decode cX5_toldFit 0 = .ok (.iload_n 2, 1) := by decide +kernel
theorem dX5_toldFit_1 : decode cX5_toldFit 1 = .ok (.i2l, 1) := by decide +kernel
theorem dX5_toldFit_2 : decode cX5_toldFit 2 = .ok (.lconst 0, 1) := by decide +kernel
theorem dX5_toldFit_3 : decode cX5_toldFit 3 = .ok (.ldc2_w 327, 3) := by decide +kernel
theorem dX5_toldFit_6 : decode cX5_toldFit 6 = .ok (.invokestatic 50, 3) := by decide +kernel
theorem dX5_toldFit_9 : decode cX5_toldFit 9 = .ok (.ifCond .eq 11, 3) := by decide +kernel
theorem dX5_toldFit_12 : decode cX5_toldFit 12 = .ok (.aload_n 0, 1) := by decide +kernel
theorem dX5_toldFit_13 : decode cX5_toldFit 13 = .ok (.iload_n 1, 1) := by decide +kernel
theorem dX5_toldFit_14 : decode cX5_toldFit 14 = .ok (.invokevirtual 64, 3) := by decide +kernel
theorem dX5_toldFit_17 : decode cX5_toldFit 17 = .ok (.goto 5, 3) := by decide +kernel
theorem dX5_toldFit_20 : decode cX5_toldFit 20 = .ok (.bipush (-2), 2) := by decide +kernel
theorem dX5_toldFit_22 : decode cX5_toldFit 22 = .ok (.istore_n 3, 1) := by decide +kernel
theorem dX5_toldFit_23 : decode cX5_toldFit 23 = .ok (.iload_n 3, 1) := by decide +kernel
theorem dX5_toldFit_24 : decode cX5_toldFit 24 = .ok (.ifCond .ne 21, 3) := by decide +kernel
theorem dX5_toldFit_45 : decode cX5_toldFit 45 = .ok (.iload_n 3, 1) := by decide +kernel
theorem dX5_toldFit_46 : decode cX5_toldFit 46 = .ok (.ireturn, 1) := by decide +kernel
theorem dX5_within_0 : decode cX5_within 0 = .ok (.lload_n 0, 1) := by decide +kernel
theorem dX5_within_1 : decode cX5_within 1 = .ok (.lload_n 2, 1) := by decide +kernel
theorem dX5_within_2 : decode cX5_within 2 = .ok (.lcmp, 1) := by decide +kernel
theorem dX5_within_3 : decode cX5_within 3 = .ok (.ifCond .lt 14, 3) := by decide +kernel
theorem dX5_within_6 : decode cX5_within 6 = .ok (.lload_n 0, 1) := by decide +kernel
theorem dX5_within_7 : decode cX5_within 7 = .ok (.lload 4, 2) := by decide +kernel
theorem dX5_within_9 : decode cX5_within 9 = .ok (.lcmp, 1) := by decide +kernel
theorem dX5_within_10 : decode cX5_within 10 = .ok (.ifCond .gt 7, 3) := by decide +kernel
theorem dX5_within_13 : decode cX5_within 13 = .ok (.iconst 1, 1) := by decide +kernel
theorem dX5_within_14 : decode cX5_within 14 = .ok (.goto 4, 3) := by decide +kernel
theorem dX5_within_17 : decode cX5_within 17 = .ok (.iconst 0, 1) := by decide +kernel
theorem dX5_within_18 : decode cX5_within 18 = .ok (.ireturn, 1) := by decide +kernel
set_option maxHeartbeats 4000000 in
set_option maxRecDepth 100000 in
theorem c_X5_within (l : Launch) (G : va_G) (cy : Nat → ClassId) (J1 : Int64) (J2 : Int64) (J3 : Int64)   : MR l yX5_within cX5_within 6 (some .boolean) 1 G cy [] [.long J1, .long J2, .long J3] (vp_Si (fun r => (r = 1 ∧ Iv J1 J2 J3) ∨ (r = 0 ∧ ¬ Iv J1 J2 J3))) := by
  refine enR RX5 (by decide) rfl (Nat.le_of_ble_eq_true rfl) (fun p e s m below meth c ls hx hb hml hown hts hr hlocks hP hN hl => ?_)
  have hK := hN.1
  have hl : lv_has ls 6 [(0, .long J1), (2, .long J2), (4, .long J3)] := hl
  refine lv_lload_n hx hb dX5_within_0 rfl (lv_at hl 0 rfl) ?_
  refine lv_lload_n hx hb dX5_within_1 rfl (lv_at hl 1 rfl) ?_
  refine W.lcmp hx hb dX5_within_2 ?_
  refine lv_if_lt (tgt := 17) hx hb dX5_within_3 (by decide) (fun c_1 => ?_) (fun c_1 => ?_)
  · refine lv_iconst (v := 0) hx hb dX5_within_17 (by decide) ?_
    exact endR hx hb hr hlocks rfl (Or.inr (⟨rfl, in_no1 c_1⟩)) dX5_within_18
  · refine lv_lload_n hx hb dX5_within_6 rfl (lv_at hl 0 rfl) ?_
    refine lv_lload hx hb dX5_within_7 (lv_at hl 2 rfl) ?_
    refine W.lcmp hx hb dX5_within_9 ?_
    refine lv_if_gt (tgt := 17) hx hb dX5_within_10 (by decide) (fun c_2 => ?_) (fun c_2 => ?_)
    · refine lv_iconst (v := 0) hx hb dX5_within_17 (by decide) ?_
      exact endR hx hb hr hlocks rfl (Or.inr (⟨rfl, in_no2 c_2⟩)) dX5_within_18
    · refine lv_iconst (v := 1) hx hb dX5_within_13 (by decide) ?_
      refine lv_goto (tgt := 18) hx hb dX5_within_14 (by decide) ?_
      exact endR hx hb hr hlocks rfl (Or.inl (⟨rfl, in_yes c_1 c_2⟩)) dX5_within_18
set_option maxHeartbeats 4000000 in
set_option maxRecDepth 100000 in
theorem c_X5_isShelf (l : Launch) (G : va_G) (cy : Nat → ClassId) (iA : Int32)   : MR l yX5_isShelf cX5_isShelf 1 (some .boolean) 2 G cy [] [.int iA] (vp_Si (fun r => (r = 1 ∧ Iv iA.toInt64 0 7) ∨ (r = 0 ∧ ¬ Iv iA.toInt64 0 7))) := by
  refine enR RX5 (by decide) rfl (Nat.le_of_ble_eq_true rfl) (fun p e s m below meth c ls hx hb hml hown hts hr hlocks hP hN hl => ?_)
  have hK := hN.1
  have hl : lv_has ls 1 [(0, .int iA)] := hl
  refine lv_iload_n hx hb dX5_isShelf_0 rfl (lv_at hl 0 rfl) ?_
  refine lv_i2l (v := iA.toInt64) hx hb dX5_isShelf_1 rfl ?_
  refine lv_lconst (v := 0) hx hb dX5_isShelf_2 (by decide) ?_
  refine lv_ldc2 hx hb hown (hts _ m_t209) dX5_isShelf_3 ?_
  refine kRi (rS (As := [.long iA.toInt64, .long 0, .long 7]) (rest := []) ⟨hx, hb, hml, hown, hts⟩ (c_X5_within l G cy iA.toInt64 0 7) L_X5_50 (preRS hN hP [] rfl) rfl ⟨Nat.le_of_ble_eq_true rfl, Nat.le_of_ble_eq_true rfl⟩ hl.1 (Nat.le_of_ble_eq_true rfl) dX5_isShelf_6 ⟨Nat.le_of_ble_eq_true rfl, Nat.le_of_ble_eq_true rfl⟩) (fun r_1 h_2 => ?_)
  rcases h_2 with ⟨rfl, h_3⟩ | ⟨rfl, h_3⟩
  · exact endR hx hb hr hlocks rfl (Or.inl (⟨rfl, h_3⟩)) dX5_isShelf_9
  · exact endR hx hb hr hlocks rfl (Or.inr (⟨rfl, by simp [Iv, h_3]⟩)) dX5_isShelf_9
set_option maxHeartbeats 4000000 in
set_option maxRecDepth 100000 in
theorem c_X5_setOfAll0 (l : Launch) (G : va_G) (cy : Nat → ClassId)    : MR l yX5_setOfAll cX5_setOfAll 1 (some .int) 1 G cy [] [.int 0] (vp_Si (fun r => (r = 0))) := by
  refine enR RX5 (by decide) rfl (Nat.le_of_ble_eq_true rfl) (fun p e s m below meth c ls hx hb hml hown hts hr hlocks hP hN hl => ?_)
  have hK := hN.1
  have hl : lv_has ls 1 [(0, .int 0)] := hl
  refine lv_iconst (v := 1) hx hb dX5_setOfAll_0 (by decide) ?_
  refine lv_iload_n hx hb dX5_setOfAll_1 rfl (lv_at hl 0 rfl) ?_
  refine lv_ishl hx hb dX5_setOfAll_2 ?_
  refine lv_seti (v := 1) (by decide) ?_
  refine lv_iconst (v := 1) hx hb dX5_setOfAll_3 (by decide) ?_
  refine lv_isub hx hb dX5_setOfAll_4 ?_
  refine lv_seti (v := 0) (by decide) ?_
  exact endR hx hb hr hlocks rfl rfl dX5_setOfAll_5
set_option maxHeartbeats 4000000 in
set_option maxRecDepth 100000 in
theorem c_X5_isSetOf0 (l : Launch) (G : va_G) (cy : Nat → ClassId) (iA : Int32)   : MR l yX5_isSetOf cX5_isSetOf 2 (some .boolean) 2 G cy [] [.int iA, .int 0] (vp_Si (fun r => (r = 1 ∧ iA = 0) ∨ (r = 0 ∧ ¬ iA = 0))) := by
  refine enR RX5 (by decide) rfl (Nat.le_of_ble_eq_true rfl) (fun p e s m below meth c ls hx hb hml hown hts hr hlocks hP hN hl => ?_)
  have hK := hN.1
  have hl : lv_has ls 2 [(0, .int iA), (1, .int 0)] := hl
  refine lv_iload_n hx hb dX5_isSetOf_0 rfl (lv_at hl 0 rfl) ?_
  refine lv_iload_n hx hb dX5_isSetOf_1 rfl (lv_at hl 1 rfl) ?_
  refine kRi (rS (As := [.int 0]) (rest := [.int iA]) ⟨hx, hb, hml, hown, hts⟩ (c_X5_setOfAll0 l G cy ) L_X5_186 (preRS hN hP [] rfl) rfl ⟨Nat.le_of_ble_eq_true rfl, Nat.le_of_ble_eq_true rfl⟩ hl.1 (Nat.le_of_ble_eq_true rfl) dX5_isSetOf_2 ⟨Nat.le_of_ble_eq_true rfl, Nat.le_of_ble_eq_true rfl⟩) (fun r_1 h_2 => ?_)
  subst h_2
  refine lv_iconst (v := (-1)) hx hb dX5_isSetOf_5 (by decide) ?_
  refine lv_ixor hx hb dX5_isSetOf_6 ?_
  refine lv_seti (v := (-1)) (by decide) ?_
  refine lv_iand hx hb dX5_isSetOf_7 ?_
  refine lv_if_ne (tgt := 15) hx hb dX5_isSetOf_8 (by decide) (fun c_3 => ?_) (fun c_3 => ?_)
  · refine lv_iconst (v := 0) hx hb dX5_isSetOf_15 (by decide) ?_
    exact endR hx hb hr hlocks rfl (Or.inr (⟨rfl, by rw [and_m1] at c_3; exact c_3⟩)) dX5_isSetOf_16
  · refine lv_iconst (v := 1) hx hb dX5_isSetOf_11 (by decide) ?_
    refine lv_goto (tgt := 16) hx hb dX5_isSetOf_12 (by decide) ?_
    exact endR hx hb hr hlocks rfl (Or.inl (⟨rfl, (and_m1 _).symm.trans c_3⟩)) dX5_isSetOf_16
set_option maxHeartbeats 4000000 in
set_option maxRecDepth 100000 in
theorem c_X5_canBeOne (l : Launch) (G : va_G) (cy : Nat → ClassId) (J1 : Int64) (J2 : Int64) (J3 : Int64) (J4 : Int64)   : MR l yX5_canBeOne cX5_canBeOne 8 (some .boolean) 2 G cy [] [.long J1, .long J2, .long J3, .long J4] (vp_Si (fun r => (r = 1 ∧ Iv J1 0 9 ∧ Iv J2 0 10 ∧ Iv J3 0 10 ∧ Iv J4 0 10) ∨ (r = 0 ∧ ¬ (Iv J1 0 9 ∧ Iv J2 0 10 ∧ Iv J3 0 10 ∧ Iv J4 0 10)))) := by
  refine enR RX5 (by decide) rfl (Nat.le_of_ble_eq_true rfl) (fun p e s m below meth c ls hx hb hml hown hts hr hlocks hP hN hl => ?_)
  have hK := hN.1
  have hl : lv_has ls 8 [(0, .long J1), (2, .long J2), (4, .long J3), (6, .long J4)] := hl
  refine lv_lload_n hx hb dX5_canBeOne_0 rfl (lv_at hl 0 rfl) ?_
  refine lv_lconst (v := 0) hx hb dX5_canBeOne_1 (by decide) ?_
  refine lv_ldc2 hx hb hown (hts _ m_t416) dX5_canBeOne_2 ?_
  refine kRi (rS (As := [.long J1, .long 0, .long 9]) (rest := []) ⟨hx, hb, hml, hown, hts⟩ (c_X5_within l G cy J1 0 9) L_X5_50 (preRS hN hP [] rfl) rfl ⟨Nat.le_of_ble_eq_true rfl, Nat.le_of_ble_eq_true rfl⟩ hl.1 (Nat.le_of_ble_eq_true rfl) dX5_canBeOne_5 ⟨Nat.le_of_ble_eq_true rfl, Nat.le_of_ble_eq_true rfl⟩) (fun r_1 h_2 => ?_)
  rcases h_2 with ⟨rfl, h_3⟩ | ⟨rfl, h_3⟩
  · refine lv_if_eq (tgt := 50) hx hb dX5_canBeOne_8 (by decide) (fun h9 => absurd h9 (by decide)) (fun _ => ?_)
    refine lv_lload_n hx hb dX5_canBeOne_11 rfl (lv_at hl 1 rfl) ?_
    refine lv_lconst (v := 0) hx hb dX5_canBeOne_12 (by decide) ?_
    refine lv_ldc2 hx hb hown (hts _ m_t417) dX5_canBeOne_13 ?_
    refine kRi (rS (As := [.long J2, .long 0, .long 10]) (rest := []) ⟨hx, hb, hml, hown, hts⟩ (c_X5_within l G cy J2 0 10) L_X5_50 (preRS hN hP [] rfl) rfl ⟨Nat.le_of_ble_eq_true rfl, Nat.le_of_ble_eq_true rfl⟩ hl.1 (Nat.le_of_ble_eq_true rfl) dX5_canBeOne_16 ⟨Nat.le_of_ble_eq_true rfl, Nat.le_of_ble_eq_true rfl⟩) (fun r_5 h_6 => ?_)
    rcases h_6 with ⟨rfl, h_7⟩ | ⟨rfl, h_7⟩
    · refine lv_if_eq (tgt := 50) hx hb dX5_canBeOne_19 (by decide) (fun h9 => absurd h9 (by decide)) (fun _ => ?_)
      refine lv_lload hx hb dX5_canBeOne_22 (lv_at hl 2 rfl) ?_
      refine lv_lconst (v := 0) hx hb dX5_canBeOne_24 (by decide) ?_
      refine lv_ldc2 hx hb hown (hts _ m_t417) dX5_canBeOne_25 ?_
      refine kRi (rS (As := [.long J3, .long 0, .long 10]) (rest := []) ⟨hx, hb, hml, hown, hts⟩ (c_X5_within l G cy J3 0 10) L_X5_50 (preRS hN hP [] rfl) rfl ⟨Nat.le_of_ble_eq_true rfl, Nat.le_of_ble_eq_true rfl⟩ hl.1 (Nat.le_of_ble_eq_true rfl) dX5_canBeOne_28 ⟨Nat.le_of_ble_eq_true rfl, Nat.le_of_ble_eq_true rfl⟩) (fun r_9 h_10 => ?_)
      rcases h_10 with ⟨rfl, h_11⟩ | ⟨rfl, h_11⟩
      · refine lv_if_eq (tgt := 50) hx hb dX5_canBeOne_31 (by decide) (fun h9 => absurd h9 (by decide)) (fun _ => ?_)
        refine lv_lload hx hb dX5_canBeOne_34 (lv_at hl 3 rfl) ?_
        refine lv_lconst (v := 0) hx hb dX5_canBeOne_36 (by decide) ?_
        refine lv_ldc2 hx hb hown (hts _ m_t417) dX5_canBeOne_37 ?_
        refine kRi (rS (As := [.long J4, .long 0, .long 10]) (rest := []) ⟨hx, hb, hml, hown, hts⟩ (c_X5_within l G cy J4 0 10) L_X5_50 (preRS hN hP [] rfl) rfl ⟨Nat.le_of_ble_eq_true rfl, Nat.le_of_ble_eq_true rfl⟩ hl.1 (Nat.le_of_ble_eq_true rfl) dX5_canBeOne_40 ⟨Nat.le_of_ble_eq_true rfl, Nat.le_of_ble_eq_true rfl⟩) (fun r_13 h_14 => ?_)
        rcases h_14 with ⟨rfl, h_15⟩ | ⟨rfl, h_15⟩
        · refine lv_if_eq (tgt := 50) hx hb dX5_canBeOne_43 (by decide) (fun h9 => absurd h9 (by decide)) (fun _ => ?_)
          refine lv_iconst (v := 1) hx hb dX5_canBeOne_46 (by decide) ?_
          refine lv_goto (tgt := 51) hx hb dX5_canBeOne_47 (by decide) ?_
          exact endR hx hb hr hlocks rfl (Or.inl (⟨rfl, ⟨h_3, h_7, h_11, h_15⟩⟩)) dX5_canBeOne_51
        · refine lv_if_eq (tgt := 50) hx hb dX5_canBeOne_43 (by decide) (fun _ => ?_) (fun h9 => absurd (by decide) h9)
          refine lv_iconst (v := 0) hx hb dX5_canBeOne_50 (by decide) ?_
          exact endR hx hb hr hlocks rfl (Or.inr (⟨rfl, by simp [Iv, h_3, h_7, h_11, h_15]⟩)) dX5_canBeOne_51
      · refine lv_if_eq (tgt := 50) hx hb dX5_canBeOne_31 (by decide) (fun _ => ?_) (fun h9 => absurd (by decide) h9)
        refine lv_iconst (v := 0) hx hb dX5_canBeOne_50 (by decide) ?_
        exact endR hx hb hr hlocks rfl (Or.inr (⟨rfl, by simp [Iv, h_3, h_7, h_11]⟩)) dX5_canBeOne_51
    · refine lv_if_eq (tgt := 50) hx hb dX5_canBeOne_19 (by decide) (fun _ => ?_) (fun h9 => absurd (by decide) h9)
      refine lv_iconst (v := 0) hx hb dX5_canBeOne_50 (by decide) ?_
      exact endR hx hb hr hlocks rfl (Or.inr (⟨rfl, by simp [Iv, h_3, h_7]⟩)) dX5_canBeOne_51
  · refine lv_if_eq (tgt := 50) hx hb dX5_canBeOne_8 (by decide) (fun _ => ?_) (fun h9 => absurd (by decide) h9)
    refine lv_iconst (v := 0) hx hb dX5_canBeOne_50 (by decide) ?_
    exact endR hx hb hr hlocks rfl (Or.inr (⟨rfl, by simp [Iv, h_3]⟩)) dX5_canBeOne_51
set_option maxHeartbeats 4000000 in
set_option maxRecDepth 100000 in
theorem c_X5_canBeTold (l : Launch) (G : va_G) (cy : Nat → ClassId) (iA : Int32) (iB : Int32)   : MR l yX5_canBeTold cX5_canBeTold 2 (some .boolean) 2 G cy [] [.int iA, .int iB] (vp_Si (fun r => (r = 1 ∧ Iv iA.toInt64 0 1000 ∧ Iv iB.toInt64 0 10) ∨ (r = 0 ∧ ¬ (Iv iA.toInt64 0 1000 ∧ Iv iB.toInt64 0 10)))) := by
  refine enR RX5 (by decide) rfl (Nat.le_of_ble_eq_true rfl) (fun p e s m below meth c ls hx hb hml hown hts hr hlocks hP hN hl => ?_)
  have hK := hN.1
  have hl : lv_has ls 2 [(0, .int iA), (1, .int iB)] := hl
  refine lv_iload_n hx hb dX5_canBeTold_0 rfl (lv_at hl 0 rfl) ?_
  refine lv_i2l (v := iA.toInt64) hx hb dX5_canBeTold_1 rfl ?_
  refine lv_lconst (v := 0) hx hb dX5_canBeTold_2 (by decide) ?_
  refine lv_ldc2 hx hb hown (hts _ m_t591) dX5_canBeTold_3 ?_
  refine kRi (rS (As := [.long iA.toInt64, .long 0, .long 1000]) (rest := []) ⟨hx, hb, hml, hown, hts⟩ (c_X5_within l G cy iA.toInt64 0 1000) L_X5_50 (preRS hN hP [] rfl) rfl ⟨Nat.le_of_ble_eq_true rfl, Nat.le_of_ble_eq_true rfl⟩ hl.1 (Nat.le_of_ble_eq_true rfl) dX5_canBeTold_6 ⟨Nat.le_of_ble_eq_true rfl, Nat.le_of_ble_eq_true rfl⟩) (fun r_1 h_2 => ?_)
  rcases h_2 with ⟨rfl, h_3⟩ | ⟨rfl, h_3⟩
  · refine lv_if_eq (tgt := 28) hx hb dX5_canBeTold_9 (by decide) (fun h9 => absurd h9 (by decide)) (fun _ => ?_)
    refine lv_iload_n hx hb dX5_canBeTold_12 rfl (lv_at hl 1 rfl) ?_
    refine lv_i2l (v := iB.toInt64) hx hb dX5_canBeTold_13 rfl ?_
    refine lv_lconst (v := 0) hx hb dX5_canBeTold_14 (by decide) ?_
    refine lv_ldc2 hx hb hown (hts _ m_t417) dX5_canBeTold_15 ?_
    refine kRi (rS (As := [.long iB.toInt64, .long 0, .long 10]) (rest := []) ⟨hx, hb, hml, hown, hts⟩ (c_X5_within l G cy iB.toInt64 0 10) L_X5_50 (preRS hN hP [] rfl) rfl ⟨Nat.le_of_ble_eq_true rfl, Nat.le_of_ble_eq_true rfl⟩ hl.1 (Nat.le_of_ble_eq_true rfl) dX5_canBeTold_18 ⟨Nat.le_of_ble_eq_true rfl, Nat.le_of_ble_eq_true rfl⟩) (fun r_5 h_6 => ?_)
    rcases h_6 with ⟨rfl, h_7⟩ | ⟨rfl, h_7⟩
    · refine lv_if_eq (tgt := 28) hx hb dX5_canBeTold_21 (by decide) (fun h9 => absurd h9 (by decide)) (fun _ => ?_)
      refine lv_iconst (v := 1) hx hb dX5_canBeTold_24 (by decide) ?_
      refine lv_goto (tgt := 29) hx hb dX5_canBeTold_25 (by decide) ?_
      exact endR hx hb hr hlocks rfl (Or.inl (⟨rfl, ⟨h_3, h_7⟩⟩)) dX5_canBeTold_29
    · refine lv_if_eq (tgt := 28) hx hb dX5_canBeTold_21 (by decide) (fun _ => ?_) (fun h9 => absurd (by decide) h9)
      refine lv_iconst (v := 0) hx hb dX5_canBeTold_28 (by decide) ?_
      exact endR hx hb hr hlocks rfl (Or.inr (⟨rfl, by simp [Iv, h_3, h_7]⟩)) dX5_canBeTold_29
  · refine lv_if_eq (tgt := 28) hx hb dX5_canBeTold_9 (by decide) (fun _ => ?_) (fun h9 => absurd (by decide) h9)
    refine lv_iconst (v := 0) hx hb dX5_canBeTold_28 (by decide) ?_
    exact endR hx hb hr hlocks rfl (Or.inr (⟨rfl, by simp [Iv, h_3]⟩)) dX5_canBeTold_29
set_option maxHeartbeats 4000000 in
set_option maxRecDepth 100000 in
theorem c_X4_afterTelling (l : Launch) (G : va_G) (cy : Nat → ClassId) (iA : Int32) (iB : Int32)   : MR l yX4_afterTelling cX4_afterTelling 2 (some .int) 1 G cy [] [.int iA, .int iB] (vp_Si (fun r => (r = (iA * iB / 10)))) := by
  refine enR RX4 (by decide) rfl (Nat.le_of_ble_eq_true rfl) (fun p e s m below meth c ls hx hb hml hown hts hr hlocks hP hN hl => ?_)
  have hK := hN.1
  have hl : lv_has ls 2 [(0, .int iA), (1, .int iB)] := hl
  refine lv_iload_n hx hb dX4_afterTelling_0 rfl (lv_at hl 0 rfl) ?_
  refine lv_iload_n hx hb dX4_afterTelling_1 rfl (lv_at hl 1 rfl) ?_
  refine lv_imul hx hb dX4_afterTelling_2 ?_
  refine lv_bipush (v := 10) hx hb dX4_afterTelling_3 (by decide) ?_
  refine lv_idiv hx hb dX4_afterTelling_5 (by decide) ?_
  exact endR hx hb hr hlocks rfl (by simp []) dX4_afterTelling_6
set_option maxHeartbeats 4000000 in
set_option maxRecDepth 100000 in
theorem c_J6_bitCount (l : Launch) (G : va_G) (cy : Nat → ClassId)    : MR l yJ6_bitCount_0f7a4 cJ6_bitCount_0f7a4 1 (some .int) 1 G cy [] [.int 0] (vp_Si (fun r => (r = 0))) := by
  refine enR RJ6 (by decide) rfl (Nat.le_of_ble_eq_true rfl) (fun p e s m below meth c ls hx hb hml hown hts hr hlocks hP hN hl => ?_)
  have hK := hN.1
  have hl : lv_has ls 1 [(0, .int 0)] := hl
  refine lv_iload_n hx hb dJ6_bitCount_0f7a4_0 rfl (lv_at hl 0 rfl) ?_
  refine lv_iload_n hx hb dJ6_bitCount_0f7a4_1 rfl (lv_at hl 0 rfl) ?_
  refine lv_iconst (v := 1) hx hb dJ6_bitCount_0f7a4_2 (by decide) ?_
  refine lv_iushr (v := 0) hx hb dJ6_bitCount_0f7a4_3 (by decide) ?_
  refine lv_ldcw hx hb hown (hts _ m_t664) dJ6_bitCount_0f7a4_4 ?_
  refine lv_iand hx hb dJ6_bitCount_0f7a4_7 ?_
  refine lv_seti (v := 0) (by decide) ?_
  refine lv_isub hx hb dJ6_bitCount_0f7a4_8 ?_
  refine lv_seti (v := 0) (by decide) ?_
  refine lv_istore_n (lv' := [(0, .int 0)]) hx hb dJ6_bitCount_0f7a4_9 rfl hl (by decide) rfl (fun ls hl => ?_)
  refine lv_iload_n hx hb dJ6_bitCount_0f7a4_10 rfl (lv_at hl 0 rfl) ?_
  refine lv_ldcw hx hb hown (hts _ m_t665) dJ6_bitCount_0f7a4_11 ?_
  refine lv_iand hx hb dJ6_bitCount_0f7a4_14 ?_
  refine lv_seti (v := 0) (by decide) ?_
  refine lv_iload_n hx hb dJ6_bitCount_0f7a4_15 rfl (lv_at hl 0 rfl) ?_
  refine lv_iconst (v := 2) hx hb dJ6_bitCount_0f7a4_16 (by decide) ?_
  refine lv_iushr (v := 0) hx hb dJ6_bitCount_0f7a4_17 (by decide) ?_
  refine lv_ldcw hx hb hown (hts _ m_t665) dJ6_bitCount_0f7a4_18 ?_
  refine lv_iand hx hb dJ6_bitCount_0f7a4_21 ?_
  refine lv_seti (v := 0) (by decide) ?_
  refine lv_iadd hx hb dJ6_bitCount_0f7a4_22 ?_
  refine lv_seti (v := 0) (by decide) ?_
  refine lv_istore_n (lv' := [(0, .int 0)]) hx hb dJ6_bitCount_0f7a4_23 rfl hl (by decide) rfl (fun ls hl => ?_)
  refine lv_iload_n hx hb dJ6_bitCount_0f7a4_24 rfl (lv_at hl 0 rfl) ?_
  refine lv_iload_n hx hb dJ6_bitCount_0f7a4_25 rfl (lv_at hl 0 rfl) ?_
  refine lv_iconst (v := 4) hx hb dJ6_bitCount_0f7a4_26 (by decide) ?_
  refine lv_iushr (v := 0) hx hb dJ6_bitCount_0f7a4_27 (by decide) ?_
  refine lv_iadd hx hb dJ6_bitCount_0f7a4_28 ?_
  refine lv_seti (v := 0) (by decide) ?_
  refine lv_ldcw hx hb hown (hts _ m_t666) dJ6_bitCount_0f7a4_29 ?_
  refine lv_iand hx hb dJ6_bitCount_0f7a4_32 ?_
  refine lv_seti (v := 0) (by decide) ?_
  refine lv_istore_n (lv' := [(0, .int 0)]) hx hb dJ6_bitCount_0f7a4_33 rfl hl (by decide) rfl (fun ls hl => ?_)
  refine lv_iload_n hx hb dJ6_bitCount_0f7a4_34 rfl (lv_at hl 0 rfl) ?_
  refine lv_iload_n hx hb dJ6_bitCount_0f7a4_35 rfl (lv_at hl 0 rfl) ?_
  refine lv_bipush (v := 8) hx hb dJ6_bitCount_0f7a4_36 (by decide) ?_
  refine lv_iushr (v := 0) hx hb dJ6_bitCount_0f7a4_38 (by decide) ?_
  refine lv_iadd hx hb dJ6_bitCount_0f7a4_39 ?_
  refine lv_seti (v := 0) (by decide) ?_
  refine lv_istore_n (lv' := [(0, .int 0)]) hx hb dJ6_bitCount_0f7a4_40 rfl hl (by decide) rfl (fun ls hl => ?_)
  refine lv_iload_n hx hb dJ6_bitCount_0f7a4_41 rfl (lv_at hl 0 rfl) ?_
  refine lv_iload_n hx hb dJ6_bitCount_0f7a4_42 rfl (lv_at hl 0 rfl) ?_
  refine lv_bipush (v := 16) hx hb dJ6_bitCount_0f7a4_43 (by decide) ?_
  refine lv_iushr (v := 0) hx hb dJ6_bitCount_0f7a4_45 (by decide) ?_
  refine lv_iadd hx hb dJ6_bitCount_0f7a4_46 ?_
  refine lv_seti (v := 0) (by decide) ?_
  refine lv_istore_n (lv' := [(0, .int 0)]) hx hb dJ6_bitCount_0f7a4_47 rfl hl (by decide) rfl (fun ls hl => ?_)
  refine lv_iload_n hx hb dJ6_bitCount_0f7a4_48 rfl (lv_at hl 0 rfl) ?_
  refine lv_bipush (v := 63) hx hb dJ6_bitCount_0f7a4_49 (by decide) ?_
  refine lv_iand hx hb dJ6_bitCount_0f7a4_51 ?_
  refine lv_seti (v := 0) (by decide) ?_
  exact endR hx hb hr hlocks rfl rfl dJ6_bitCount_0f7a4_52
set_option maxHeartbeats 4000000 in
set_option maxRecDepth 100000 in
theorem c_X4_isBook (l : Launch) (G : va_G) (cy : Nat → ClassId) (qt : Nat) (v1 : Value) (v2 : Value) (v3 : Value) (v4 : Value) (v5 : Value) (v6 : Value) (v7 : Value) (v8 : Value) (v9 : Value) (v10 : Value) (v11 : Value) (v12 : Value) (iA : Int32)   : MR l yX4_isBook cX4_isBook 2 (some .boolean) 1 G cy [(qt, .inr (3, [.int 0, v1, v2, v3, v4, v5, v6, v7, v8, v9, v10, v11, v12]))] [.ref qt, .int iA] (vp_Si (fun r => (r = 0))) := by
  refine enR RX4 (by decide) rfl (Nat.le_of_ble_eq_true rfl) (fun p e s m below meth c ls hx hb hml hown hts hr hlocks hP hN hl => ?_)
  have hK := hN.1
  have hl : lv_has ls 2 [(0, .ref qt), (1, .int iA)] := hl
  refine lv_iload_n hx hb dX4_isBook_0 rfl (lv_at hl 1 rfl) ?_
  refine lv_if_lt (tgt := 16) hx hb dX4_isBook_1 (by decide) (fun c_1 => ?_) (fun c_1 => ?_)
  · refine lv_iconst (v := 0) hx hb dX4_isBook_16 (by decide) ?_
    exact endR hx hb hr hlocks rfl rfl dX4_isBook_17
  · refine lv_iload_n hx hb dX4_isBook_4 rfl (lv_at hl 1 rfl) ?_
    refine lv_aload_n hx hb dX4_isBook_5 rfl (lv_at hl 0 rfl) ?_
    refine va_get (D := G) (ci := 3) (v := .int 0) (C := RX4) (T := TX4) (N := 13) hx hb hts iX_X4 hown hK hP 0 rfl rfl 0 (by decide) (hts _ m_t29) (fun _ h9 => h9) rfl dX4_isBook_6 ?_
    refine lv_icmp_ge (tgt := 16) hx hb dX4_isBook_9 (by decide) (fun c_2 => ?_) (fun c_2 => absurd (Int32.not_lt.mp c_1) c_2)
    refine lv_iconst (v := 0) hx hb dX4_isBook_16 (by decide) ?_
    exact endR hx hb hr hlocks rfl rfl dX4_isBook_17
set_option maxHeartbeats 4000000 in
set_option maxRecDepth 100000 in
theorem c_X4_isOne (l : Launch) (G : va_G) (cy : Nat → ClassId) (qt : Nat) (v0 : Value) (v1 : Value) (v2 : Value) (v3 : Value) (v4 : Value) (v5 : Value) (v6 : Value) (v7 : Value) (v8 : Value) (v9 : Value) (v10 : Value) (v11 : Value) (iA : Int32)   : MR l yX4_isOne cX4_isOne 2 (some .boolean) 1 G cy [(qt, .inr (3, [v0, .int 0, v1, v2, v3, v4, v5, v6, v7, v8, v9, v10, v11]))] [.ref qt, .int iA] (vp_Si (fun r => (r = 0))) := by
  refine enR RX4 (by decide) rfl (Nat.le_of_ble_eq_true rfl) (fun p e s m below meth c ls hx hb hml hown hts hr hlocks hP hN hl => ?_)
  have hK := hN.1
  have hl : lv_has ls 2 [(0, .ref qt), (1, .int iA)] := hl
  refine lv_iload_n hx hb dX4_isOne_0 rfl (lv_at hl 1 rfl) ?_
  refine lv_if_lt (tgt := 16) hx hb dX4_isOne_1 (by decide) (fun c_1 => ?_) (fun c_1 => ?_)
  · refine lv_iconst (v := 0) hx hb dX4_isOne_16 (by decide) ?_
    exact endR hx hb hr hlocks rfl rfl dX4_isOne_17
  · refine lv_iload_n hx hb dX4_isOne_4 rfl (lv_at hl 1 rfl) ?_
    refine lv_aload_n hx hb dX4_isOne_5 rfl (lv_at hl 0 rfl) ?_
    refine va_get (D := G) (ci := 3) (v := .int 0) (C := RX4) (T := TX4) (N := 13) hx hb hts iX_X4 hown hK hP 0 rfl rfl 1 (by decide) (hts _ m_t34) (fun _ h9 => h9) rfl dX4_isOne_6 ?_
    refine lv_icmp_ge (tgt := 16) hx hb dX4_isOne_9 (by decide) (fun c_2 => ?_) (fun c_2 => absurd (Int32.not_lt.mp c_1) c_2)
    refine lv_iconst (v := 0) hx hb dX4_isOne_16 (by decide) ?_
    exact endR hx hb hr hlocks rfl rfl dX4_isOne_17
set_option maxHeartbeats 4000000 in
set_option maxRecDepth 100000 in
theorem c_X4_setThere (l : Launch) (G : va_G) (cy : Nat → ClassId) (qt : Nat) (v0 : Value) (v1 : Value) (v2 : Value) (v3 : Value) (v4 : Value) (v5 : Value) (v6 : Value) (v7 : Value) (v8 : Value) (v9 : Value) (v10 : Value)   : MR l yX4_setThere cX4_setThere 1 (some .int) 2 G cy [(qt, .inr (3, [v0, .int 0, v1, .int 0, v2, v3, v4, v5, v6, v7, v8, v9, v10]))] [.ref qt] (vp_Si (fun r => (r = 0))) := by
  refine enR RX4 (by decide) rfl (Nat.le_of_ble_eq_true rfl) (fun p e s m below meth c ls hx hb hml hown hts hr hlocks hP hN hl => ?_)
  have hK := hN.1
  have hl : lv_has ls 1 [(0, .ref qt)] := hl
  refine lv_aload_n hx hb dX4_setThere_0 rfl (lv_at hl 0 rfl) ?_
  refine va_get (D := G) (ci := 3) (v := .int 0) (C := RX4) (T := TX4) (N := 13) hx hb hts iX_X4 hown hK hP 0 rfl rfl 1 (by decide) (hts _ m_t34) (fun _ h9 => h9) rfl dX4_setThere_1 ?_
  refine kRi (rSN (As := [.int 0]) (rest := []) ⟨hx, hb, hml, hown, hts⟩ hN (c_X5_setOfAll0 l G cy ) L_X4_58 (preRS hN hP [] rfl) rfl ⟨Nat.le_of_ble_eq_true rfl, Nat.le_of_ble_eq_true rfl⟩ hl.1 (Nat.le_of_ble_eq_true rfl) dX4_setThere_4 ⟨Nat.le_of_ble_eq_true rfl, Nat.le_of_ble_eq_true rfl⟩) (fun r_1 h_2 => ?_)
  subst h_2
  refine lv_aload_n hx hb dX4_setThere_7 rfl (lv_at hl 0 rfl) ?_
  refine va_get (D := G) (ci := 3) (v := .int 0) (C := RX4) (T := TX4) (N := 13) hx hb hts iX_X4 hown hK hP 0 rfl rfl 3 (by decide) (hts _ m_t43) (fun _ h9 => h9) rfl dX4_setThere_8 ?_
  refine lv_iconst (v := (-1)) hx hb dX4_setThere_11 (by decide) ?_
  refine lv_ixor hx hb dX4_setThere_12 ?_
  refine lv_seti (v := (-1)) (by decide) ?_
  refine lv_iand hx hb dX4_setThere_13 ?_
  refine lv_seti (v := 0) (by decide) ?_
  exact endR hx hb hr hlocks rfl rfl dX4_setThere_14
set_option maxHeartbeats 4000000 in
set_option maxRecDepth 100000 in
theorem c_X4_worthAmong (l : Launch) (G : va_G) (cy : Nat → ClassId) (qt : Nat) (v1 : Value) (v2 : Value) (v3 : Value) (v4 : Value) (v5 : Value) (v6 : Value) (v7 : Value) (v8 : Value) (v9 : Value) (v10 : Value) (v11 : Value) (v12 : Value) (iA : Int32)   : MR l yX4_worthAmong cX4_worthAmong 4 (some .int) 1 G cy [(qt, .inr (3, [.int 0, v1, v2, v3, v4, v5, v6, v7, v8, v9, v10, v11, v12]))] [.ref qt, .int iA] (vp_Si (fun r => (r = 0))) := by
  refine enR RX4 (by decide) rfl (Nat.le_of_ble_eq_true rfl) (fun p e s m below meth c ls hx hb hml hown hts hr hlocks hP hN hl => ?_)
  have hK := hN.1
  have hl : lv_has ls 4 [(0, .ref qt), (1, .int iA)] := hl
  refine lv_iconst (v := 0) hx hb dX4_worthAmong_0 (by decide) ?_
  refine lv_istore_n (lv' := [(2, .int 0), (0, .ref qt), (1, .int iA)]) hx hb dX4_worthAmong_1 rfl hl (by decide) rfl (fun ls hl => ?_)
  refine lv_iconst (v := 0) hx hb dX4_worthAmong_2 (by decide) ?_
  refine lv_istore_n (lv' := [(3, .int 0), (2, .int 0), (0, .ref qt), (1, .int iA)]) hx hb dX4_worthAmong_3 rfl hl (by decide) rfl (fun ls hl => ?_)
  refine lv_iload_n hx hb dX4_worthAmong_4 rfl (lv_at hl 0 rfl) ?_
  refine lv_aload_n hx hb dX4_worthAmong_5 rfl (lv_at hl 2 rfl) ?_
  refine va_get (D := G) (ci := 3) (v := .int 0) (C := RX4) (T := TX4) (N := 13) hx hb hts iX_X4 hown hK hP 0 rfl rfl 0 (by decide) (hts _ m_t29) (fun _ h9 => h9) rfl dX4_worthAmong_6 ?_
  refine lv_icmp_ge (tgt := 34) hx hb dX4_worthAmong_9 (by decide) (fun _ => ?_) (fun h9 => absurd (by decide) h9)
  refine lv_iload_n hx hb dX4_worthAmong_34 rfl (lv_at hl 1 rfl) ?_
  exact endR hx hb hr hlocks rfl rfl dX4_worthAmong_35
set_option maxHeartbeats 4000000 in
set_option maxRecDepth 100000 in
theorem c_X4_worthNow (l : Launch) (G : va_G) (cy : Nat → ClassId) (qt : Nat) (v1 : Value) (v2 : Value) (v3 : Value) (v4 : Value) (v5 : Value) (v6 : Value) (v7 : Value) (v8 : Value) (v9 : Value) (v10 : Value)   : MR l yX4_worthNow cX4_worthNow 1 (some .int) 3 G cy [(qt, .inr (3, [.int 0, .int 0, v1, .int 0, v2, v3, v4, v5, v6, v7, v8, v9, v10]))] [.ref qt] (vp_Si (fun r => (r = 0))) := by
  refine enR RX4 (by decide) rfl (Nat.le_of_ble_eq_true rfl) (fun p e s m below meth c ls hx hb hml hown hts hr hlocks hP hN hl => ?_)
  have hK := hN.1
  have hl : lv_has ls 1 [(0, .ref qt)] := hl
  refine lv_aload_n hx hb dX4_worthNow_0 rfl (lv_at hl 0 rfl) ?_
  refine lv_aload_n hx hb dX4_worthNow_1 rfl (lv_at hl 0 rfl) ?_
  refine kRi (rV (As := []) (rest := [.ref qt]) (b := qt) ⟨hx, hb, hml, hown, hts⟩ (c_X4_setThere l G cy qt (.int 0) v1 v2 v3 v4 v5 v6 v7 v8 v9 v10) L_X4_78 (preRV (q := (RX4, TX4, 13)) hN hP [0] rfl 0 3 rfl rfl) rfl ⟨Nat.le_of_ble_eq_true rfl, Nat.le_of_ble_eq_true rfl⟩ hl.1 (Nat.le_of_ble_eq_true rfl) dX4_worthNow_2 ⟨Nat.le_of_ble_eq_true rfl, Nat.le_of_ble_eq_true rfl⟩) (fun r_1 h_2 => ?_)
  subst h_2
  refine kRi (rV (As := [.int 0]) (rest := []) (b := qt) ⟨hx, hb, hml, hown, hts⟩ (c_X4_worthAmong l G cy qt (.int 0) v1 (.int 0) v2 v3 v4 v5 v6 v7 v8 v9 v10 0) L_X4_82 (preRV (q := (RX4, TX4, 13)) hN hP [0] rfl 0 3 rfl rfl) rfl ⟨Nat.le_of_ble_eq_true rfl, Nat.le_of_ble_eq_true rfl⟩ hl.1 (Nat.le_of_ble_eq_true rfl) dX4_worthNow_5 ⟨Nat.le_of_ble_eq_true rfl, Nat.le_of_ble_eq_true rfl⟩) (fun r_3 h_4 => ?_)
  subst h_4
  exact endR hx hb hr hlocks rfl rfl dX4_worthNow_8
set_option maxHeartbeats 4000000 in
set_option maxRecDepth 100000 in
theorem c_X4_booksKnown (l : Launch) (G : va_G) (cy : Nat → ClassId) (qt : Nat) (v1 : Value) (v2 : Value) (v3 : Value) (v4 : Value) (v5 : Value) (v6 : Value) (v7 : Value) (v8 : Value) (v9 : Value) (v10 : Value) (v11 : Value) (v12 : Value) (iA : Int32) (iB : Int32)   : MR l yX4_booksKnown cX4_booksKnown 5 (some .int) 1 G cy [(qt, .inr (3, [.int 0, v1, v2, v3, v4, v5, v6, v7, v8, v9, v10, v11, v12]))] [.ref qt, .int iA, .int iB] (vp_Si (fun r => (r = 0))) := by
  refine enR RX4 (by decide) rfl (Nat.le_of_ble_eq_true rfl) (fun p e s m below meth c ls hx hb hml hown hts hr hlocks hP hN hl => ?_)
  have hK := hN.1
  have hl : lv_has ls 5 [(0, .ref qt), (1, .int iA), (2, .int iB)] := hl
  refine lv_iconst (v := 0) hx hb dX4_booksKnown_0 (by decide) ?_
  refine lv_istore_n (lv' := [(3, .int 0), (0, .ref qt), (1, .int iA), (2, .int iB)]) hx hb dX4_booksKnown_1 rfl hl (by decide) rfl (fun ls hl => ?_)
  refine lv_iconst (v := 0) hx hb dX4_booksKnown_2 (by decide) ?_
  refine lv_istore (lv' := [(4, .int 0), (3, .int 0), (0, .ref qt), (1, .int iA), (2, .int iB)]) hx hb dX4_booksKnown_3 hl (by decide) rfl (fun ls hl => ?_)
  refine lv_iload hx hb dX4_booksKnown_5 (lv_at hl 0 rfl) ?_
  refine lv_aload_n hx hb dX4_booksKnown_7 rfl (lv_at hl 2 rfl) ?_
  refine va_get (D := G) (ci := 3) (v := .int 0) (C := RX4) (T := TX4) (N := 13) hx hb hts iX_X4 hown hK hP 0 rfl rfl 0 (by decide) (hts _ m_t29) (fun _ h9 => h9) rfl dX4_booksKnown_8 ?_
  refine lv_icmp_ge (tgt := 38) hx hb dX4_booksKnown_11 (by decide) (fun _ => ?_) (fun h9 => absurd (by decide) h9)
  refine lv_iload_n hx hb dX4_booksKnown_38 rfl (lv_at hl 1 rfl) ?_
  exact endR hx hb hr hlocks rfl rfl dX4_booksKnown_39
set_option maxHeartbeats 4000000 in
set_option maxRecDepth 100000 in
theorem c_X4_endYear (l : Launch) (G : va_G) (cy : Nat → ClassId) (qt : Nat) (v0 : Value) (v1 : Value) (v2 : Value) (v3 : Value) (v4 : Value) (v5 : Value) (v6 : Value) (v7 : Value) (v8 : Value) (v9 : Value) (v10 : Value)   : MR l yX4_endYear cX4_endYear 3 (some .int) 3 G cy [(qt, .inr (3, [v0, .int 0, v1, .int 0, v2, v3, v4, v5, v6, v7, v8, v9, v10]))] [.ref qt] (vp_Si (fun r => (r = 0))) := by
  refine enR RX4 (by decide) rfl (Nat.le_of_ble_eq_true rfl) (fun p e s m below meth c ls hx hb hml hown hts hr hlocks hP hN hl => ?_)
  have hK := hN.1
  have hl : lv_has ls 3 [(0, .ref qt)] := hl
  refine lv_aload_n hx hb dX4_endYear_0 rfl (lv_at hl 0 rfl) ?_
  refine kRi (rV (As := []) (rest := []) (b := qt) ⟨hx, hb, hml, hown, hts⟩ (c_X4_setThere l G cy qt v0 v1 v2 v3 v4 v5 v6 v7 v8 v9 v10) L_X4_78 (preRV (q := (RX4, TX4, 13)) hN hP [0] rfl 0 3 rfl rfl) rfl ⟨Nat.le_of_ble_eq_true rfl, Nat.le_of_ble_eq_true rfl⟩ hl.1 (Nat.le_of_ble_eq_true rfl) dX4_endYear_1 ⟨Nat.le_of_ble_eq_true rfl, Nat.le_of_ble_eq_true rfl⟩) (fun r_1 h_2 => ?_)
  subst h_2
  refine lv_istore_n (lv' := [(1, .int 0), (0, .ref qt)]) hx hb dX4_endYear_4 rfl hl (by decide) rfl (fun ls hl => ?_)
  refine lv_iconst (v := 0) hx hb dX4_endYear_5 (by decide) ?_
  refine lv_istore_n (lv' := [(2, .int 0), (1, .int 0), (0, .ref qt)]) hx hb dX4_endYear_6 rfl hl (by decide) rfl (fun ls hl => ?_)
  refine lv_iload_n hx hb dX4_endYear_7 rfl (lv_at hl 0 rfl) ?_
  refine lv_aload_n hx hb dX4_endYear_8 rfl (lv_at hl 2 rfl) ?_
  refine va_get (D := G) (ci := 3) (v := .int 0) (C := RX4) (T := TX4) (N := 13) hx hb hts iX_X4 hown hK hP 0 rfl rfl 1 (by decide) (hts _ m_t34) (fun _ h9 => h9) rfl dX4_endYear_9 ?_
  refine lv_icmp_ge (tgt := 67) hx hb dX4_endYear_12 (by decide) (fun _ => ?_) (fun h9 => absurd (by decide) h9)
  refine lv_iload_n hx hb dX4_endYear_67 rfl (lv_at hl 1 rfl) ?_
  refine lv_aload_n hx hb dX4_endYear_68 rfl (lv_at hl 2 rfl) ?_
  refine va_get (D := G) (ci := 3) (v := .int 0) (C := RX4) (T := TX4) (N := 13) hx hb hts iX_X4 hown hK hP 0 rfl rfl 3 (by decide) (hts _ m_t43) (fun _ h9 => h9) rfl dX4_endYear_69 ?_
  refine lv_iand hx hb dX4_endYear_72 ?_
  refine lv_seti (v := 0) (by decide) ?_
  refine kRi (rS (As := [.int 0]) (rest := []) ⟨hx, hb, hml, hown, hts⟩ (c_J6_bitCount l G cy ) L_X4_115 (preRS hN hP [] rfl) rfl ⟨Nat.le_of_ble_eq_true rfl, Nat.le_of_ble_eq_true rfl⟩ hl.1 (Nat.le_of_ble_eq_true rfl) dX4_endYear_73 ⟨Nat.le_of_ble_eq_true rfl, Nat.le_of_ble_eq_true rfl⟩) (fun r_4 h_5 => ?_)
  subst h_5
  exact endR hx hb hr hlocks rfl rfl dX4_endYear_76
set_option maxHeartbeats 4000000 in
set_option maxRecDepth 100000 in
theorem c_X4_addBook (l : Launch) (G : va_G) (cy : Nat → ClassId) (sz : Nat) (qt : Nat) (qtw : Nat) (qtn : Nat) (qtg : Nat) (qta : Nat) (qtr : Nat) (qtm : Nat) (qtt : Nat) (qts : Nat) (iA : Int32) (iB : Int32)   : MW l yX4_addBook cX4_addBook 4 (some .int) 1 0 0 G cy [(qt, .inr (3, [.int 0, .int 0, .int 0, .int 0, .int 1, .ref qtw, .ref qtn, .ref qtg, .ref qta, .ref qtr, .ref qtm, .ref qtt, .ref qts])), (qtw, .inl (cy 0, 8, .inl (fun _ => 0))), (qtn, .inl (cy 0, 8, .inl (fun _ => 0))), (qtg, .inl (cy 0, 8, .inl (fun _ => 0)))] sz [.ref qt, .int iA, .int iB] (Wi G (fun r u => u = [] ∧ ((r = 0)))) := by
  refine enW RX4 (by decide) rfl (Nat.le_of_ble_eq_true rfl) (fun p e s m below meth c ls A hx hb hml hown hts hr hlocks hP hN hl hin hD hA hS => ?_)
  have hin : meth.name = _ := hin
  have hK := hN.1
  have hl : lv_has ls 4 [(0, .ref qt), (1, .int iA), (2, .int iB)] := hl
  refine lv_aload_n hx hb dX4_addBook_0 rfl (lv_at hl 0 rfl) ?_
  refine va_get (D := G) (ci := 3) (v := .int 0) (C := RX4) (T := TX4) (N := 13) hx hb hts iX_X4 hown hK hP 0 rfl rfl 0 (by decide) (hts _ m_t29) (fun _ h9 => h9) rfl dX4_addBook_1 ?_
  refine lv_istore_n (lv' := [(3, .int 0), (0, .ref qt), (1, .int iA), (2, .int iB)]) hx hb dX4_addBook_4 rfl hl (by decide) rfl (fun ls hl => ?_)
  refine lv_aload_n hx hb dX4_addBook_5 rfl (lv_at hl 1 rfl) ?_
  refine va_get (D := G) (ci := 3) (v := .ref qtw) (C := RX4) (T := TX4) (N := 13) hx hb hts iX_X4 hown hK hP 0 rfl rfl 5 (by decide) (hts _ m_t48) (fun _ h9 => h9) rfl dX4_addBook_6 ?_
  refine lv_iload_n hx hb dX4_addBook_9 rfl (lv_at hl 0 rfl) ?_
  refine lv_iload_n hx hb dX4_addBook_10 rfl (lv_at hl 2 rfl) ?_
  refine va_iast hx hb hK hP hD hS 1 0 rfl rfl (in_c rfl) dX4_addBook_11 (fun H locs hP hD hS => ?_)
  have hP : va_P G CL [(qt, .inr (3, [.int 0, .int 0, .int 0, .int 0, .int 1, .ref qtw, .ref qtn, .ref qtg, .ref qta, .ref qtr, .ref qtm, .ref qtt, .ref qts])), (qtw, .inl (cy 0, 8, .inl (upd (fun _ => 0) 0 iA))), (qtn, .inl (cy 0, 8, .inl (fun _ => 0))), (qtg, .inl (cy 0, 8, .inl (fun _ => 0)))] H := hP
  have hD : va_D A [(qt, .inr (3, [.int 0, .int 0, .int 0, .int 0, .int 1, .ref qtw, .ref qtn, .ref qtg, .ref qta, .ref qtr, .ref qtm, .ref qtt, .ref qts])), (qtw, .inl (cy 0, 8, .inl (upd (fun _ => 0) 0 iA))), (qtn, .inl (cy 0, 8, .inl (fun _ => 0))), (qtg, .inl (cy 0, 8, .inl (fun _ => 0)))] := hD
  refine lv_aload_n hx hb dX4_addBook_12 rfl (lv_at hl 1 rfl) ?_
  refine va_get (D := G) (ci := 3) (v := .ref qtn) (C := RX4) (T := TX4) (N := 13) hx hb hts iX_X4 hown hK hP 0 rfl rfl 6 (by decide) (hts _ m_t50) (fun _ h9 => h9) rfl dX4_addBook_13 ?_
  refine lv_iload_n hx hb dX4_addBook_16 rfl (lv_at hl 0 rfl) ?_
  refine lv_iload_n hx hb dX4_addBook_17 rfl (lv_at hl 3 rfl) ?_
  refine va_iast hx hb hK hP hD hS 2 0 rfl rfl (in_c rfl) dX4_addBook_18 (fun H locs hP hD hS => ?_)
  have hP : va_P G CL [(qt, .inr (3, [.int 0, .int 0, .int 0, .int 0, .int 1, .ref qtw, .ref qtn, .ref qtg, .ref qta, .ref qtr, .ref qtm, .ref qtt, .ref qts])), (qtw, .inl (cy 0, 8, .inl (upd (fun _ => 0) 0 iA))), (qtn, .inl (cy 0, 8, .inl (upd (fun _ => 0) 0 iB))), (qtg, .inl (cy 0, 8, .inl (fun _ => 0)))] H := hP
  have hD : va_D A [(qt, .inr (3, [.int 0, .int 0, .int 0, .int 0, .int 1, .ref qtw, .ref qtn, .ref qtg, .ref qta, .ref qtr, .ref qtm, .ref qtt, .ref qts])), (qtw, .inl (cy 0, 8, .inl (upd (fun _ => 0) 0 iA))), (qtn, .inl (cy 0, 8, .inl (upd (fun _ => 0) 0 iB))), (qtg, .inl (cy 0, 8, .inl (fun _ => 0)))] := hD
  refine lv_aload_n hx hb dX4_addBook_19 rfl (lv_at hl 1 rfl) ?_
  refine va_get (D := G) (ci := 3) (v := .ref qtg) (C := RX4) (T := TX4) (N := 13) hx hb hts iX_X4 hown hK hP 0 rfl rfl 7 (by decide) (hts _ m_t53) (fun _ h9 => h9) rfl dX4_addBook_20 ?_
  refine lv_iload_n hx hb dX4_addBook_23 rfl (lv_at hl 0 rfl) ?_
  refine lv_sipush (v := 1000) hx hb dX4_addBook_24 (by decide) ?_
  refine va_iast hx hb hK hP hD hS 3 0 rfl rfl (in_c rfl) dX4_addBook_27 (fun H locs hP hD hS => ?_)
  have hP : va_P G CL [(qt, .inr (3, [.int 0, .int 0, .int 0, .int 0, .int 1, .ref qtw, .ref qtn, .ref qtg, .ref qta, .ref qtr, .ref qtm, .ref qtt, .ref qts])), (qtw, .inl (cy 0, 8, .inl (upd (fun _ => 0) 0 iA))), (qtn, .inl (cy 0, 8, .inl (upd (fun _ => 0) 0 iB))), (qtg, .inl (cy 0, 8, .inl (upd (fun _ => 0) 0 1000)))] H := hP
  have hD : va_D A [(qt, .inr (3, [.int 0, .int 0, .int 0, .int 0, .int 1, .ref qtw, .ref qtn, .ref qtg, .ref qta, .ref qtr, .ref qtm, .ref qtt, .ref qts])), (qtw, .inl (cy 0, 8, .inl (upd (fun _ => 0) 0 iA))), (qtn, .inl (cy 0, 8, .inl (upd (fun _ => 0) 0 iB))), (qtg, .inl (cy 0, 8, .inl (upd (fun _ => 0) 0 1000)))] := hD
  refine lv_aload_n hx hb dX4_addBook_28 rfl (lv_at hl 1 rfl) ?_
  refine lv_dup hx hb dX4_addBook_29 rfl ?_
  refine va_get (D := G) (ci := 3) (v := .int 0) (C := RX4) (T := TX4) (N := 13) hx hb hts iX_X4 hown hK hP 0 rfl rfl 0 (by decide) (hts _ m_t29) (fun _ h9 => h9) rfl dX4_addBook_30 ?_
  refine lv_iconst (v := 1) hx hb dX4_addBook_33 (by decide) ?_
  refine lv_iadd hx hb dX4_addBook_34 ?_
  refine lv_seti (v := 1) (by decide) ?_
  refine va_put (D := G) (ci := 3) (v := .int 1) (ty := .int) (C := RX4) (T := TX4) (N := 13) hx hb hts iX_X4 tyX4 tyX4_ok nmX4 hown hK hP hD hS 0 rfl rfl 0 (by decide) (hts _ m_t29) (fun _ h9 => h9) rfl (by decide +kernel) rfl rfl (Nat.le_of_ble_eq_true rfl) dX4_addBook_35 (fun H locs hP hD hS => ?_)
  have hP : va_P G CL [(qt, .inr (3, [.int 1, .int 0, .int 0, .int 0, .int 1, .ref qtw, .ref qtn, .ref qtg, .ref qta, .ref qtr, .ref qtm, .ref qtt, .ref qts])), (qtw, .inl (cy 0, 8, .inl (upd (fun _ => 0) 0 iA))), (qtn, .inl (cy 0, 8, .inl (upd (fun _ => 0) 0 iB))), (qtg, .inl (cy 0, 8, .inl (upd (fun _ => 0) 0 1000)))] H := hP
  have hD : va_D A [(qt, .inr (3, [.int 1, .int 0, .int 0, .int 0, .int 1, .ref qtw, .ref qtn, .ref qtg, .ref qta, .ref qtr, .ref qtm, .ref qtt, .ref qts])), (qtw, .inl (cy 0, 8, .inl (upd (fun _ => 0) 0 iA))), (qtn, .inl (cy 0, 8, .inl (upd (fun _ => 0) 0 iB))), (qtg, .inl (cy 0, 8, .inl (upd (fun _ => 0) 0 1000)))] := hD
  refine lv_iload_n hx hb dX4_addBook_38 rfl (lv_at hl 0 rfl) ?_
  exact endW (u := []) hx hb hr hlocks rfl va_P0 va_D0 hS ⟨rfl, rfl⟩ dX4_addBook_39
set_option maxHeartbeats 4000000 in
set_option maxRecDepth 100000 in
theorem c_X4_addOne (l : Launch) (G : va_G) (cy : Nat → ClassId) (sz : Nat) (qt : Nat) (qtw : Nat) (qtn : Nat) (qtg : Nat) (qta : Nat) (qtr : Nat) (qtm : Nat) (qtt : Nat) (qts : Nat) (iA : Int32) (iB : Int32) (iC : Int32) (iD : Int32)   : MW l yX4_addOne cX4_addOne 6 (some .int) 1 0 0 G cy [(qt, .inr (3, [.int 0, .int 0, .int 0, .int 0, .int 1, .ref qtw, .ref qtn, .ref qtg, .ref qta, .ref qtr, .ref qtm, .ref qtt, .ref qts])), (qta, .inl (cy 0, 8, .inl (fun _ => 0))), (qtr, .inl (cy 0, 8, .inl (fun _ => 0))), (qtm, .inl (cy 0, 8, .inl (fun _ => 0))), (qtt, .inl (cy 0, 8, .inl (fun _ => 0)))] sz [.ref qt, .int iA, .int iB, .int iC, .int iD] (Wi G (fun r u => u = [] ∧ ((r = 0)))) := by
  refine enW RX4 (by decide) rfl (Nat.le_of_ble_eq_true rfl) (fun p e s m below meth c ls A hx hb hml hown hts hr hlocks hP hN hl hin hD hA hS => ?_)
  have hin : meth.name = _ := hin
  have hK := hN.1
  have hl : lv_has ls 6 [(0, .ref qt), (1, .int iA), (2, .int iB), (3, .int iC), (4, .int iD)] := hl
  refine lv_aload_n hx hb dX4_addOne_0 rfl (lv_at hl 0 rfl) ?_
  refine va_get (D := G) (ci := 3) (v := .int 0) (C := RX4) (T := TX4) (N := 13) hx hb hts iX_X4 hown hK hP 0 rfl rfl 1 (by decide) (hts _ m_t34) (fun _ h9 => h9) rfl dX4_addOne_1 ?_
  refine lv_istore (lv' := [(5, .int 0), (0, .ref qt), (1, .int iA), (2, .int iB), (3, .int iC), (4, .int iD)]) hx hb dX4_addOne_4 hl (by decide) rfl (fun ls hl => ?_)
  refine lv_aload_n hx hb dX4_addOne_6 rfl (lv_at hl 1 rfl) ?_
  refine va_get (D := G) (ci := 3) (v := .ref qta) (C := RX4) (T := TX4) (N := 13) hx hb hts iX_X4 hown hK hP 0 rfl rfl 8 (by decide) (hts _ m_t56) (fun _ h9 => h9) rfl dX4_addOne_7 ?_
  refine lv_iload hx hb dX4_addOne_10 (lv_at hl 0 rfl) ?_
  refine lv_iload_n hx hb dX4_addOne_12 rfl (lv_at hl 2 rfl) ?_
  refine va_iast hx hb hK hP hD hS 1 0 rfl rfl (in_c rfl) dX4_addOne_13 (fun H locs hP hD hS => ?_)
  have hP : va_P G CL [(qt, .inr (3, [.int 0, .int 0, .int 0, .int 0, .int 1, .ref qtw, .ref qtn, .ref qtg, .ref qta, .ref qtr, .ref qtm, .ref qtt, .ref qts])), (qta, .inl (cy 0, 8, .inl (upd (fun _ => 0) 0 iA))), (qtr, .inl (cy 0, 8, .inl (fun _ => 0))), (qtm, .inl (cy 0, 8, .inl (fun _ => 0))), (qtt, .inl (cy 0, 8, .inl (fun _ => 0)))] H := hP
  have hD : va_D A [(qt, .inr (3, [.int 0, .int 0, .int 0, .int 0, .int 1, .ref qtw, .ref qtn, .ref qtg, .ref qta, .ref qtr, .ref qtm, .ref qtt, .ref qts])), (qta, .inl (cy 0, 8, .inl (upd (fun _ => 0) 0 iA))), (qtr, .inl (cy 0, 8, .inl (fun _ => 0))), (qtm, .inl (cy 0, 8, .inl (fun _ => 0))), (qtt, .inl (cy 0, 8, .inl (fun _ => 0)))] := hD
  refine lv_aload_n hx hb dX4_addOne_14 rfl (lv_at hl 1 rfl) ?_
  refine va_get (D := G) (ci := 3) (v := .ref qtr) (C := RX4) (T := TX4) (N := 13) hx hb hts iX_X4 hown hK hP 0 rfl rfl 9 (by decide) (hts _ m_t58) (fun _ h9 => h9) rfl dX4_addOne_15 ?_
  refine lv_iload hx hb dX4_addOne_18 (lv_at hl 0 rfl) ?_
  refine lv_iload_n hx hb dX4_addOne_20 rfl (lv_at hl 3 rfl) ?_
  refine va_iast hx hb hK hP hD hS 2 0 rfl rfl (in_c rfl) dX4_addOne_21 (fun H locs hP hD hS => ?_)
  have hP : va_P G CL [(qt, .inr (3, [.int 0, .int 0, .int 0, .int 0, .int 1, .ref qtw, .ref qtn, .ref qtg, .ref qta, .ref qtr, .ref qtm, .ref qtt, .ref qts])), (qta, .inl (cy 0, 8, .inl (upd (fun _ => 0) 0 iA))), (qtr, .inl (cy 0, 8, .inl (upd (fun _ => 0) 0 iB))), (qtm, .inl (cy 0, 8, .inl (fun _ => 0))), (qtt, .inl (cy 0, 8, .inl (fun _ => 0)))] H := hP
  have hD : va_D A [(qt, .inr (3, [.int 0, .int 0, .int 0, .int 0, .int 1, .ref qtw, .ref qtn, .ref qtg, .ref qta, .ref qtr, .ref qtm, .ref qtt, .ref qts])), (qta, .inl (cy 0, 8, .inl (upd (fun _ => 0) 0 iA))), (qtr, .inl (cy 0, 8, .inl (upd (fun _ => 0) 0 iB))), (qtm, .inl (cy 0, 8, .inl (fun _ => 0))), (qtt, .inl (cy 0, 8, .inl (fun _ => 0)))] := hD
  refine lv_aload_n hx hb dX4_addOne_22 rfl (lv_at hl 1 rfl) ?_
  refine va_get (D := G) (ci := 3) (v := .ref qtm) (C := RX4) (T := TX4) (N := 13) hx hb hts iX_X4 hown hK hP 0 rfl rfl 10 (by decide) (hts _ m_t60) (fun _ h9 => h9) rfl dX4_addOne_23 ?_
  refine lv_iload hx hb dX4_addOne_26 (lv_at hl 0 rfl) ?_
  refine lv_iload_n hx hb dX4_addOne_28 rfl (lv_at hl 4 rfl) ?_
  refine va_iast hx hb hK hP hD hS 3 0 rfl rfl (in_c rfl) dX4_addOne_29 (fun H locs hP hD hS => ?_)
  have hP : va_P G CL [(qt, .inr (3, [.int 0, .int 0, .int 0, .int 0, .int 1, .ref qtw, .ref qtn, .ref qtg, .ref qta, .ref qtr, .ref qtm, .ref qtt, .ref qts])), (qta, .inl (cy 0, 8, .inl (upd (fun _ => 0) 0 iA))), (qtr, .inl (cy 0, 8, .inl (upd (fun _ => 0) 0 iB))), (qtm, .inl (cy 0, 8, .inl (upd (fun _ => 0) 0 iC))), (qtt, .inl (cy 0, 8, .inl (fun _ => 0)))] H := hP
  have hD : va_D A [(qt, .inr (3, [.int 0, .int 0, .int 0, .int 0, .int 1, .ref qtw, .ref qtn, .ref qtg, .ref qta, .ref qtr, .ref qtm, .ref qtt, .ref qts])), (qta, .inl (cy 0, 8, .inl (upd (fun _ => 0) 0 iA))), (qtr, .inl (cy 0, 8, .inl (upd (fun _ => 0) 0 iB))), (qtm, .inl (cy 0, 8, .inl (upd (fun _ => 0) 0 iC))), (qtt, .inl (cy 0, 8, .inl (fun _ => 0)))] := hD
  refine lv_aload_n hx hb dX4_addOne_30 rfl (lv_at hl 1 rfl) ?_
  refine va_get (D := G) (ci := 3) (v := .ref qtt) (C := RX4) (T := TX4) (N := 13) hx hb hts iX_X4 hown hK hP 0 rfl rfl 11 (by decide) (hts _ m_t62) (fun _ h9 => h9) rfl dX4_addOne_31 ?_
  refine lv_iload hx hb dX4_addOne_34 (lv_at hl 0 rfl) ?_
  refine lv_iload hx hb dX4_addOne_36 (lv_at hl 5 rfl) ?_
  refine va_iast hx hb hK hP hD hS 4 0 rfl rfl (in_c rfl) dX4_addOne_38 (fun H locs hP hD hS => ?_)
  have hP : va_P G CL [(qt, .inr (3, [.int 0, .int 0, .int 0, .int 0, .int 1, .ref qtw, .ref qtn, .ref qtg, .ref qta, .ref qtr, .ref qtm, .ref qtt, .ref qts])), (qta, .inl (cy 0, 8, .inl (upd (fun _ => 0) 0 iA))), (qtr, .inl (cy 0, 8, .inl (upd (fun _ => 0) 0 iB))), (qtm, .inl (cy 0, 8, .inl (upd (fun _ => 0) 0 iC))), (qtt, .inl (cy 0, 8, .inl (upd (fun _ => 0) 0 iD)))] H := hP
  have hD : va_D A [(qt, .inr (3, [.int 0, .int 0, .int 0, .int 0, .int 1, .ref qtw, .ref qtn, .ref qtg, .ref qta, .ref qtr, .ref qtm, .ref qtt, .ref qts])), (qta, .inl (cy 0, 8, .inl (upd (fun _ => 0) 0 iA))), (qtr, .inl (cy 0, 8, .inl (upd (fun _ => 0) 0 iB))), (qtm, .inl (cy 0, 8, .inl (upd (fun _ => 0) 0 iC))), (qtt, .inl (cy 0, 8, .inl (upd (fun _ => 0) 0 iD)))] := hD
  refine lv_aload_n hx hb dX4_addOne_39 rfl (lv_at hl 1 rfl) ?_
  refine lv_dup hx hb dX4_addOne_40 rfl ?_
  refine va_get (D := G) (ci := 3) (v := .int 0) (C := RX4) (T := TX4) (N := 13) hx hb hts iX_X4 hown hK hP 0 rfl rfl 1 (by decide) (hts _ m_t34) (fun _ h9 => h9) rfl dX4_addOne_41 ?_
  refine lv_iconst (v := 1) hx hb dX4_addOne_44 (by decide) ?_
  refine lv_iadd hx hb dX4_addOne_45 ?_
  refine lv_seti (v := 1) (by decide) ?_
  refine va_put (D := G) (ci := 3) (v := .int 1) (ty := .int) (C := RX4) (T := TX4) (N := 13) hx hb hts iX_X4 tyX4 tyX4_ok nmX4 hown hK hP hD hS 0 rfl rfl 1 (by decide) (hts _ m_t34) (fun _ h9 => h9) rfl (by decide +kernel) rfl rfl (Nat.le_of_ble_eq_true rfl) dX4_addOne_46 (fun H locs hP hD hS => ?_)
  have hP : va_P G CL [(qt, .inr (3, [.int 0, .int 1, .int 0, .int 0, .int 1, .ref qtw, .ref qtn, .ref qtg, .ref qta, .ref qtr, .ref qtm, .ref qtt, .ref qts])), (qta, .inl (cy 0, 8, .inl (upd (fun _ => 0) 0 iA))), (qtr, .inl (cy 0, 8, .inl (upd (fun _ => 0) 0 iB))), (qtm, .inl (cy 0, 8, .inl (upd (fun _ => 0) 0 iC))), (qtt, .inl (cy 0, 8, .inl (upd (fun _ => 0) 0 iD)))] H := hP
  have hD : va_D A [(qt, .inr (3, [.int 0, .int 1, .int 0, .int 0, .int 1, .ref qtw, .ref qtn, .ref qtg, .ref qta, .ref qtr, .ref qtm, .ref qtt, .ref qts])), (qta, .inl (cy 0, 8, .inl (upd (fun _ => 0) 0 iA))), (qtr, .inl (cy 0, 8, .inl (upd (fun _ => 0) 0 iB))), (qtm, .inl (cy 0, 8, .inl (upd (fun _ => 0) 0 iC))), (qtt, .inl (cy 0, 8, .inl (upd (fun _ => 0) 0 iD)))] := hD
  refine lv_iload hx hb dX4_addOne_49 (lv_at hl 0 rfl) ?_
  exact endW (u := []) hx hb hr hlocks rfl va_P0 va_D0 hS ⟨rfl, rfl⟩ dX4_addOne_51
set_option maxHeartbeats 4000000 in
set_option maxRecDepth 100000 in
theorem c_X4_become (l : Launch) (G : va_G) (cy : Nat → ClassId) (sz : Nat) (qk : Nat) (qkw : Nat) (qkn : Nat) (qkg : Nat) (qka : Nat) (qkr : Nat) (qkm : Nat) (qkt : Nat) (qks : Nat) (qt : Nat) (qtw : Nat) (qtn : Nat) (qtg : Nat) (qta : Nat) (qtr : Nat) (qtm : Nat) (qtt : Nat) (qts : Nat)   : MW l yX4_become cX4_become 2 none 2 0 0 G cy [(qk, .inr (3, [.int 0, .int 0, .int 0, .int 0, .int 1, .ref qkw, .ref qkn, .ref qkg, .ref qka, .ref qkr, .ref qkm, .ref qkt, .ref qks])), (qkw, .inl (cy 0, 8, .inl (fun _ => 0))), (qkn, .inl (cy 0, 8, .inl (fun _ => 0))), (qkg, .inl (cy 0, 8, .inl (fun _ => 0))), (qka, .inl (cy 0, 8, .inl (fun _ => 0))), (qkr, .inl (cy 0, 8, .inl (fun _ => 0))), (qkm, .inl (cy 0, 8, .inl (fun _ => 0))), (qkt, .inl (cy 0, 8, .inl (fun _ => 0))), (qks, .inl (cy 0, 64, .inl (fun _ => 0))), (qt, .inr (3, [.int 0, .int 0, .int 0, .int 0, .int 1, .ref qtw, .ref qtn, .ref qtg, .ref qta, .ref qtr, .ref qtm, .ref qtt, .ref qts])), (qtw, .inl (cy 0, 8, .inl (fun _ => 0))), (qtn, .inl (cy 0, 8, .inl (fun _ => 0))), (qtg, .inl (cy 0, 8, .inl (fun _ => 0))), (qta, .inl (cy 0, 8, .inl (fun _ => 0))), (qtr, .inl (cy 0, 8, .inl (fun _ => 0))), (qtm, .inl (cy 0, 8, .inl (fun _ => 0))), (qtt, .inl (cy 0, 8, .inl (fun _ => 0))), (qts, .inl (cy 0, 64, .inl (fun _ => 0)))] sz [.ref qk, .ref qt] (Wv G (fun u => u = [])) := by
  refine enW RX4 (by decide) rfl (Nat.le_of_ble_eq_true rfl) (fun p e s m below meth c ls A hx hb hml hown hts hr hlocks hP hN hl hin hD hA hS => ?_)
  have hin : meth.name = _ := hin
  have hK := hN.1
  have hl : lv_has ls 2 [(0, .ref qk), (1, .ref qt)] := hl
  refine lv_aload_n hx hb dX4_become_0 rfl (lv_at hl 0 rfl) ?_
  refine lv_aload_n hx hb dX4_become_1 rfl (lv_at hl 1 rfl) ?_
  refine va_get (D := G) (ci := 3) (v := .int 0) (C := RX4) (T := TX4) (N := 13) hx hb hts iX_X4 hown hK hP 9 rfl rfl 0 (by decide) (hts _ m_t29) (fun _ h9 => h9) rfl dX4_become_2 ?_
  refine va_put (D := G) (ci := 3) (v := .int 0) (ty := .int) (C := RX4) (T := TX4) (N := 13) hx hb hts iX_X4 tyX4 tyX4_ok nmX4 hown hK hP hD hS 0 rfl rfl 0 (by decide) (hts _ m_t29) (fun _ h9 => h9) rfl (by decide +kernel) rfl rfl (Nat.le_of_ble_eq_true rfl) dX4_become_5 (fun H locs hP hD hS => ?_)
  have hP : va_P G CL [(qk, .inr (3, [.int 0, .int 0, .int 0, .int 0, .int 1, .ref qkw, .ref qkn, .ref qkg, .ref qka, .ref qkr, .ref qkm, .ref qkt, .ref qks])), (qkw, .inl (cy 0, 8, .inl (fun _ => 0))), (qkn, .inl (cy 0, 8, .inl (fun _ => 0))), (qkg, .inl (cy 0, 8, .inl (fun _ => 0))), (qka, .inl (cy 0, 8, .inl (fun _ => 0))), (qkr, .inl (cy 0, 8, .inl (fun _ => 0))), (qkm, .inl (cy 0, 8, .inl (fun _ => 0))), (qkt, .inl (cy 0, 8, .inl (fun _ => 0))), (qks, .inl (cy 0, 64, .inl (fun _ => 0))), (qt, .inr (3, [.int 0, .int 0, .int 0, .int 0, .int 1, .ref qtw, .ref qtn, .ref qtg, .ref qta, .ref qtr, .ref qtm, .ref qtt, .ref qts])), (qtw, .inl (cy 0, 8, .inl (fun _ => 0))), (qtn, .inl (cy 0, 8, .inl (fun _ => 0))), (qtg, .inl (cy 0, 8, .inl (fun _ => 0))), (qta, .inl (cy 0, 8, .inl (fun _ => 0))), (qtr, .inl (cy 0, 8, .inl (fun _ => 0))), (qtm, .inl (cy 0, 8, .inl (fun _ => 0))), (qtt, .inl (cy 0, 8, .inl (fun _ => 0))), (qts, .inl (cy 0, 64, .inl (fun _ => 0)))] H := hP
  have hD : va_D A [(qk, .inr (3, [.int 0, .int 0, .int 0, .int 0, .int 1, .ref qkw, .ref qkn, .ref qkg, .ref qka, .ref qkr, .ref qkm, .ref qkt, .ref qks])), (qkw, .inl (cy 0, 8, .inl (fun _ => 0))), (qkn, .inl (cy 0, 8, .inl (fun _ => 0))), (qkg, .inl (cy 0, 8, .inl (fun _ => 0))), (qka, .inl (cy 0, 8, .inl (fun _ => 0))), (qkr, .inl (cy 0, 8, .inl (fun _ => 0))), (qkm, .inl (cy 0, 8, .inl (fun _ => 0))), (qkt, .inl (cy 0, 8, .inl (fun _ => 0))), (qks, .inl (cy 0, 64, .inl (fun _ => 0))), (qt, .inr (3, [.int 0, .int 0, .int 0, .int 0, .int 1, .ref qtw, .ref qtn, .ref qtg, .ref qta, .ref qtr, .ref qtm, .ref qtt, .ref qts])), (qtw, .inl (cy 0, 8, .inl (fun _ => 0))), (qtn, .inl (cy 0, 8, .inl (fun _ => 0))), (qtg, .inl (cy 0, 8, .inl (fun _ => 0))), (qta, .inl (cy 0, 8, .inl (fun _ => 0))), (qtr, .inl (cy 0, 8, .inl (fun _ => 0))), (qtm, .inl (cy 0, 8, .inl (fun _ => 0))), (qtt, .inl (cy 0, 8, .inl (fun _ => 0))), (qts, .inl (cy 0, 64, .inl (fun _ => 0)))] := hD
  refine lv_aload_n hx hb dX4_become_8 rfl (lv_at hl 0 rfl) ?_
  refine lv_aload_n hx hb dX4_become_9 rfl (lv_at hl 1 rfl) ?_
  refine va_get (D := G) (ci := 3) (v := .int 0) (C := RX4) (T := TX4) (N := 13) hx hb hts iX_X4 hown hK hP 9 rfl rfl 1 (by decide) (hts _ m_t34) (fun _ h9 => h9) rfl dX4_become_10 ?_
  refine va_put (D := G) (ci := 3) (v := .int 0) (ty := .int) (C := RX4) (T := TX4) (N := 13) hx hb hts iX_X4 tyX4 tyX4_ok nmX4 hown hK hP hD hS 0 rfl rfl 1 (by decide) (hts _ m_t34) (fun _ h9 => h9) rfl (by decide +kernel) rfl rfl (Nat.le_of_ble_eq_true rfl) dX4_become_13 (fun H locs hP hD hS => ?_)
  have hP : va_P G CL [(qk, .inr (3, [.int 0, .int 0, .int 0, .int 0, .int 1, .ref qkw, .ref qkn, .ref qkg, .ref qka, .ref qkr, .ref qkm, .ref qkt, .ref qks])), (qkw, .inl (cy 0, 8, .inl (fun _ => 0))), (qkn, .inl (cy 0, 8, .inl (fun _ => 0))), (qkg, .inl (cy 0, 8, .inl (fun _ => 0))), (qka, .inl (cy 0, 8, .inl (fun _ => 0))), (qkr, .inl (cy 0, 8, .inl (fun _ => 0))), (qkm, .inl (cy 0, 8, .inl (fun _ => 0))), (qkt, .inl (cy 0, 8, .inl (fun _ => 0))), (qks, .inl (cy 0, 64, .inl (fun _ => 0))), (qt, .inr (3, [.int 0, .int 0, .int 0, .int 0, .int 1, .ref qtw, .ref qtn, .ref qtg, .ref qta, .ref qtr, .ref qtm, .ref qtt, .ref qts])), (qtw, .inl (cy 0, 8, .inl (fun _ => 0))), (qtn, .inl (cy 0, 8, .inl (fun _ => 0))), (qtg, .inl (cy 0, 8, .inl (fun _ => 0))), (qta, .inl (cy 0, 8, .inl (fun _ => 0))), (qtr, .inl (cy 0, 8, .inl (fun _ => 0))), (qtm, .inl (cy 0, 8, .inl (fun _ => 0))), (qtt, .inl (cy 0, 8, .inl (fun _ => 0))), (qts, .inl (cy 0, 64, .inl (fun _ => 0)))] H := hP
  have hD : va_D A [(qk, .inr (3, [.int 0, .int 0, .int 0, .int 0, .int 1, .ref qkw, .ref qkn, .ref qkg, .ref qka, .ref qkr, .ref qkm, .ref qkt, .ref qks])), (qkw, .inl (cy 0, 8, .inl (fun _ => 0))), (qkn, .inl (cy 0, 8, .inl (fun _ => 0))), (qkg, .inl (cy 0, 8, .inl (fun _ => 0))), (qka, .inl (cy 0, 8, .inl (fun _ => 0))), (qkr, .inl (cy 0, 8, .inl (fun _ => 0))), (qkm, .inl (cy 0, 8, .inl (fun _ => 0))), (qkt, .inl (cy 0, 8, .inl (fun _ => 0))), (qks, .inl (cy 0, 64, .inl (fun _ => 0))), (qt, .inr (3, [.int 0, .int 0, .int 0, .int 0, .int 1, .ref qtw, .ref qtn, .ref qtg, .ref qta, .ref qtr, .ref qtm, .ref qtt, .ref qts])), (qtw, .inl (cy 0, 8, .inl (fun _ => 0))), (qtn, .inl (cy 0, 8, .inl (fun _ => 0))), (qtg, .inl (cy 0, 8, .inl (fun _ => 0))), (qta, .inl (cy 0, 8, .inl (fun _ => 0))), (qtr, .inl (cy 0, 8, .inl (fun _ => 0))), (qtm, .inl (cy 0, 8, .inl (fun _ => 0))), (qtt, .inl (cy 0, 8, .inl (fun _ => 0))), (qts, .inl (cy 0, 64, .inl (fun _ => 0)))] := hD
  refine lv_aload_n hx hb dX4_become_16 rfl (lv_at hl 0 rfl) ?_
  refine lv_aload_n hx hb dX4_become_17 rfl (lv_at hl 1 rfl) ?_
  refine va_get (D := G) (ci := 3) (v := .int 0) (C := RX4) (T := TX4) (N := 13) hx hb hts iX_X4 hown hK hP 9 rfl rfl 2 (by decide) (hts _ m_t39) (fun _ h9 => h9) rfl dX4_become_18 ?_
  refine va_put (D := G) (ci := 3) (v := .int 0) (ty := .int) (C := RX4) (T := TX4) (N := 13) hx hb hts iX_X4 tyX4 tyX4_ok nmX4 hown hK hP hD hS 0 rfl rfl 2 (by decide) (hts _ m_t39) (fun _ h9 => h9) rfl (by decide +kernel) rfl rfl (Nat.le_of_ble_eq_true rfl) dX4_become_21 (fun H locs hP hD hS => ?_)
  have hP : va_P G CL [(qk, .inr (3, [.int 0, .int 0, .int 0, .int 0, .int 1, .ref qkw, .ref qkn, .ref qkg, .ref qka, .ref qkr, .ref qkm, .ref qkt, .ref qks])), (qkw, .inl (cy 0, 8, .inl (fun _ => 0))), (qkn, .inl (cy 0, 8, .inl (fun _ => 0))), (qkg, .inl (cy 0, 8, .inl (fun _ => 0))), (qka, .inl (cy 0, 8, .inl (fun _ => 0))), (qkr, .inl (cy 0, 8, .inl (fun _ => 0))), (qkm, .inl (cy 0, 8, .inl (fun _ => 0))), (qkt, .inl (cy 0, 8, .inl (fun _ => 0))), (qks, .inl (cy 0, 64, .inl (fun _ => 0))), (qt, .inr (3, [.int 0, .int 0, .int 0, .int 0, .int 1, .ref qtw, .ref qtn, .ref qtg, .ref qta, .ref qtr, .ref qtm, .ref qtt, .ref qts])), (qtw, .inl (cy 0, 8, .inl (fun _ => 0))), (qtn, .inl (cy 0, 8, .inl (fun _ => 0))), (qtg, .inl (cy 0, 8, .inl (fun _ => 0))), (qta, .inl (cy 0, 8, .inl (fun _ => 0))), (qtr, .inl (cy 0, 8, .inl (fun _ => 0))), (qtm, .inl (cy 0, 8, .inl (fun _ => 0))), (qtt, .inl (cy 0, 8, .inl (fun _ => 0))), (qts, .inl (cy 0, 64, .inl (fun _ => 0)))] H := hP
  have hD : va_D A [(qk, .inr (3, [.int 0, .int 0, .int 0, .int 0, .int 1, .ref qkw, .ref qkn, .ref qkg, .ref qka, .ref qkr, .ref qkm, .ref qkt, .ref qks])), (qkw, .inl (cy 0, 8, .inl (fun _ => 0))), (qkn, .inl (cy 0, 8, .inl (fun _ => 0))), (qkg, .inl (cy 0, 8, .inl (fun _ => 0))), (qka, .inl (cy 0, 8, .inl (fun _ => 0))), (qkr, .inl (cy 0, 8, .inl (fun _ => 0))), (qkm, .inl (cy 0, 8, .inl (fun _ => 0))), (qkt, .inl (cy 0, 8, .inl (fun _ => 0))), (qks, .inl (cy 0, 64, .inl (fun _ => 0))), (qt, .inr (3, [.int 0, .int 0, .int 0, .int 0, .int 1, .ref qtw, .ref qtn, .ref qtg, .ref qta, .ref qtr, .ref qtm, .ref qtt, .ref qts])), (qtw, .inl (cy 0, 8, .inl (fun _ => 0))), (qtn, .inl (cy 0, 8, .inl (fun _ => 0))), (qtg, .inl (cy 0, 8, .inl (fun _ => 0))), (qta, .inl (cy 0, 8, .inl (fun _ => 0))), (qtr, .inl (cy 0, 8, .inl (fun _ => 0))), (qtm, .inl (cy 0, 8, .inl (fun _ => 0))), (qtt, .inl (cy 0, 8, .inl (fun _ => 0))), (qts, .inl (cy 0, 64, .inl (fun _ => 0)))] := hD
  refine lv_aload_n hx hb dX4_become_24 rfl (lv_at hl 0 rfl) ?_
  refine lv_aload_n hx hb dX4_become_25 rfl (lv_at hl 1 rfl) ?_
  refine va_get (D := G) (ci := 3) (v := .int 0) (C := RX4) (T := TX4) (N := 13) hx hb hts iX_X4 hown hK hP 9 rfl rfl 3 (by decide) (hts _ m_t43) (fun _ h9 => h9) rfl dX4_become_26 ?_
  refine va_put (D := G) (ci := 3) (v := .int 0) (ty := .int) (C := RX4) (T := TX4) (N := 13) hx hb hts iX_X4 tyX4 tyX4_ok nmX4 hown hK hP hD hS 0 rfl rfl 3 (by decide) (hts _ m_t43) (fun _ h9 => h9) rfl (by decide +kernel) rfl rfl (Nat.le_of_ble_eq_true rfl) dX4_become_29 (fun H locs hP hD hS => ?_)
  have hP : va_P G CL [(qk, .inr (3, [.int 0, .int 0, .int 0, .int 0, .int 1, .ref qkw, .ref qkn, .ref qkg, .ref qka, .ref qkr, .ref qkm, .ref qkt, .ref qks])), (qkw, .inl (cy 0, 8, .inl (fun _ => 0))), (qkn, .inl (cy 0, 8, .inl (fun _ => 0))), (qkg, .inl (cy 0, 8, .inl (fun _ => 0))), (qka, .inl (cy 0, 8, .inl (fun _ => 0))), (qkr, .inl (cy 0, 8, .inl (fun _ => 0))), (qkm, .inl (cy 0, 8, .inl (fun _ => 0))), (qkt, .inl (cy 0, 8, .inl (fun _ => 0))), (qks, .inl (cy 0, 64, .inl (fun _ => 0))), (qt, .inr (3, [.int 0, .int 0, .int 0, .int 0, .int 1, .ref qtw, .ref qtn, .ref qtg, .ref qta, .ref qtr, .ref qtm, .ref qtt, .ref qts])), (qtw, .inl (cy 0, 8, .inl (fun _ => 0))), (qtn, .inl (cy 0, 8, .inl (fun _ => 0))), (qtg, .inl (cy 0, 8, .inl (fun _ => 0))), (qta, .inl (cy 0, 8, .inl (fun _ => 0))), (qtr, .inl (cy 0, 8, .inl (fun _ => 0))), (qtm, .inl (cy 0, 8, .inl (fun _ => 0))), (qtt, .inl (cy 0, 8, .inl (fun _ => 0))), (qts, .inl (cy 0, 64, .inl (fun _ => 0)))] H := hP
  have hD : va_D A [(qk, .inr (3, [.int 0, .int 0, .int 0, .int 0, .int 1, .ref qkw, .ref qkn, .ref qkg, .ref qka, .ref qkr, .ref qkm, .ref qkt, .ref qks])), (qkw, .inl (cy 0, 8, .inl (fun _ => 0))), (qkn, .inl (cy 0, 8, .inl (fun _ => 0))), (qkg, .inl (cy 0, 8, .inl (fun _ => 0))), (qka, .inl (cy 0, 8, .inl (fun _ => 0))), (qkr, .inl (cy 0, 8, .inl (fun _ => 0))), (qkm, .inl (cy 0, 8, .inl (fun _ => 0))), (qkt, .inl (cy 0, 8, .inl (fun _ => 0))), (qks, .inl (cy 0, 64, .inl (fun _ => 0))), (qt, .inr (3, [.int 0, .int 0, .int 0, .int 0, .int 1, .ref qtw, .ref qtn, .ref qtg, .ref qta, .ref qtr, .ref qtm, .ref qtt, .ref qts])), (qtw, .inl (cy 0, 8, .inl (fun _ => 0))), (qtn, .inl (cy 0, 8, .inl (fun _ => 0))), (qtg, .inl (cy 0, 8, .inl (fun _ => 0))), (qta, .inl (cy 0, 8, .inl (fun _ => 0))), (qtr, .inl (cy 0, 8, .inl (fun _ => 0))), (qtm, .inl (cy 0, 8, .inl (fun _ => 0))), (qtt, .inl (cy 0, 8, .inl (fun _ => 0))), (qts, .inl (cy 0, 64, .inl (fun _ => 0)))] := hD
  refine lv_aload_n hx hb dX4_become_32 rfl (lv_at hl 0 rfl) ?_
  refine lv_aload_n hx hb dX4_become_33 rfl (lv_at hl 1 rfl) ?_
  refine va_get (D := G) (ci := 3) (v := .int 1) (C := RX4) (T := TX4) (N := 13) hx hb hts iX_X4 hown hK hP 9 rfl rfl 4 (by decide) (hts _ m_t46) (fun _ h9 => h9) rfl dX4_become_34 ?_
  refine va_put (D := G) (ci := 3) (v := .int 1) (ty := .int) (C := RX4) (T := TX4) (N := 13) hx hb hts iX_X4 tyX4 tyX4_ok nmX4 hown hK hP hD hS 0 rfl rfl 4 (by decide) (hts _ m_t46) (fun _ h9 => h9) rfl (by decide +kernel) rfl rfl (Nat.le_of_ble_eq_true rfl) dX4_become_37 (fun H locs hP hD hS => ?_)
  have hP : va_P G CL [(qk, .inr (3, [.int 0, .int 0, .int 0, .int 0, .int 1, .ref qkw, .ref qkn, .ref qkg, .ref qka, .ref qkr, .ref qkm, .ref qkt, .ref qks])), (qkw, .inl (cy 0, 8, .inl (fun _ => 0))), (qkn, .inl (cy 0, 8, .inl (fun _ => 0))), (qkg, .inl (cy 0, 8, .inl (fun _ => 0))), (qka, .inl (cy 0, 8, .inl (fun _ => 0))), (qkr, .inl (cy 0, 8, .inl (fun _ => 0))), (qkm, .inl (cy 0, 8, .inl (fun _ => 0))), (qkt, .inl (cy 0, 8, .inl (fun _ => 0))), (qks, .inl (cy 0, 64, .inl (fun _ => 0))), (qt, .inr (3, [.int 0, .int 0, .int 0, .int 0, .int 1, .ref qtw, .ref qtn, .ref qtg, .ref qta, .ref qtr, .ref qtm, .ref qtt, .ref qts])), (qtw, .inl (cy 0, 8, .inl (fun _ => 0))), (qtn, .inl (cy 0, 8, .inl (fun _ => 0))), (qtg, .inl (cy 0, 8, .inl (fun _ => 0))), (qta, .inl (cy 0, 8, .inl (fun _ => 0))), (qtr, .inl (cy 0, 8, .inl (fun _ => 0))), (qtm, .inl (cy 0, 8, .inl (fun _ => 0))), (qtt, .inl (cy 0, 8, .inl (fun _ => 0))), (qts, .inl (cy 0, 64, .inl (fun _ => 0)))] H := hP
  have hD : va_D A [(qk, .inr (3, [.int 0, .int 0, .int 0, .int 0, .int 1, .ref qkw, .ref qkn, .ref qkg, .ref qka, .ref qkr, .ref qkm, .ref qkt, .ref qks])), (qkw, .inl (cy 0, 8, .inl (fun _ => 0))), (qkn, .inl (cy 0, 8, .inl (fun _ => 0))), (qkg, .inl (cy 0, 8, .inl (fun _ => 0))), (qka, .inl (cy 0, 8, .inl (fun _ => 0))), (qkr, .inl (cy 0, 8, .inl (fun _ => 0))), (qkm, .inl (cy 0, 8, .inl (fun _ => 0))), (qkt, .inl (cy 0, 8, .inl (fun _ => 0))), (qks, .inl (cy 0, 64, .inl (fun _ => 0))), (qt, .inr (3, [.int 0, .int 0, .int 0, .int 0, .int 1, .ref qtw, .ref qtn, .ref qtg, .ref qta, .ref qtr, .ref qtm, .ref qtt, .ref qts])), (qtw, .inl (cy 0, 8, .inl (fun _ => 0))), (qtn, .inl (cy 0, 8, .inl (fun _ => 0))), (qtg, .inl (cy 0, 8, .inl (fun _ => 0))), (qta, .inl (cy 0, 8, .inl (fun _ => 0))), (qtr, .inl (cy 0, 8, .inl (fun _ => 0))), (qtm, .inl (cy 0, 8, .inl (fun _ => 0))), (qtt, .inl (cy 0, 8, .inl (fun _ => 0))), (qts, .inl (cy 0, 64, .inl (fun _ => 0)))] := hD
  refine lv_aload_n hx hb dX4_become_40 rfl (lv_at hl 1 rfl) ?_
  refine va_get (D := G) (ci := 3) (v := .ref qtw) (C := RX4) (T := TX4) (N := 13) hx hb hts iX_X4 hown hK hP 9 rfl rfl 5 (by decide) (hts _ m_t48) (fun _ h9 => h9) rfl dX4_become_41 ?_
  refine lv_iconst (v := 0) hx hb dX4_become_44 (by decide) ?_
  refine lv_aload_n hx hb dX4_become_45 rfl (lv_at hl 0 rfl) ?_
  refine va_get (D := G) (ci := 3) (v := .ref qkw) (C := RX4) (T := TX4) (N := 13) hx hb hts iX_X4 hown hK hP 0 rfl rfl 5 (by decide) (hts _ m_t48) (fun _ h9 => h9) rfl dX4_become_46 ?_
  refine lv_iconst (v := 0) hx hb dX4_become_49 (by decide) ?_
  refine lv_bipush (v := 8) hx hb dX4_become_50 (by decide) ?_
  refine va_copyi (ty := .int) hx hb (hml.trans hl.1.symm) hown (hts _ m_t310) (hts _ m_nat) (hts _ m_t263) (hts _ m_t7) hK hP hD hS 10 1 0 0 rfl rfl rfl rfl rfl (by decide) (by decide) (by decide) (Nat.le_of_ble_eq_true rfl) (Nat.le_of_ble_eq_true rfl) (fun _ _ => rfl) (Nat.le_of_ble_eq_true rfl) (Nat.le_of_ble_eq_true rfl) dX4_become_52 (fun H locs hP hD hS => ?_)
  have hP : va_P G CL [(qk, .inr (3, [.int 0, .int 0, .int 0, .int 0, .int 1, .ref qkw, .ref qkn, .ref qkg, .ref qka, .ref qkr, .ref qkm, .ref qkt, .ref qks])), (qkw, .inl (cy 0, 8, .inl (va_cpy (fun _ => 0) (fun _ => 0) 0 0 8))), (qkn, .inl (cy 0, 8, .inl (fun _ => 0))), (qkg, .inl (cy 0, 8, .inl (fun _ => 0))), (qka, .inl (cy 0, 8, .inl (fun _ => 0))), (qkr, .inl (cy 0, 8, .inl (fun _ => 0))), (qkm, .inl (cy 0, 8, .inl (fun _ => 0))), (qkt, .inl (cy 0, 8, .inl (fun _ => 0))), (qks, .inl (cy 0, 64, .inl (fun _ => 0))), (qt, .inr (3, [.int 0, .int 0, .int 0, .int 0, .int 1, .ref qtw, .ref qtn, .ref qtg, .ref qta, .ref qtr, .ref qtm, .ref qtt, .ref qts])), (qtw, .inl (cy 0, 8, .inl (fun _ => 0))), (qtn, .inl (cy 0, 8, .inl (fun _ => 0))), (qtg, .inl (cy 0, 8, .inl (fun _ => 0))), (qta, .inl (cy 0, 8, .inl (fun _ => 0))), (qtr, .inl (cy 0, 8, .inl (fun _ => 0))), (qtm, .inl (cy 0, 8, .inl (fun _ => 0))), (qtt, .inl (cy 0, 8, .inl (fun _ => 0))), (qts, .inl (cy 0, 64, .inl (fun _ => 0)))] H := hP
  have hD : va_D A [(qk, .inr (3, [.int 0, .int 0, .int 0, .int 0, .int 1, .ref qkw, .ref qkn, .ref qkg, .ref qka, .ref qkr, .ref qkm, .ref qkt, .ref qks])), (qkw, .inl (cy 0, 8, .inl (va_cpy (fun _ => 0) (fun _ => 0) 0 0 8))), (qkn, .inl (cy 0, 8, .inl (fun _ => 0))), (qkg, .inl (cy 0, 8, .inl (fun _ => 0))), (qka, .inl (cy 0, 8, .inl (fun _ => 0))), (qkr, .inl (cy 0, 8, .inl (fun _ => 0))), (qkm, .inl (cy 0, 8, .inl (fun _ => 0))), (qkt, .inl (cy 0, 8, .inl (fun _ => 0))), (qks, .inl (cy 0, 64, .inl (fun _ => 0))), (qt, .inr (3, [.int 0, .int 0, .int 0, .int 0, .int 1, .ref qtw, .ref qtn, .ref qtg, .ref qta, .ref qtr, .ref qtm, .ref qtt, .ref qts])), (qtw, .inl (cy 0, 8, .inl (fun _ => 0))), (qtn, .inl (cy 0, 8, .inl (fun _ => 0))), (qtg, .inl (cy 0, 8, .inl (fun _ => 0))), (qta, .inl (cy 0, 8, .inl (fun _ => 0))), (qtr, .inl (cy 0, 8, .inl (fun _ => 0))), (qtm, .inl (cy 0, 8, .inl (fun _ => 0))), (qtt, .inl (cy 0, 8, .inl (fun _ => 0))), (qts, .inl (cy 0, 64, .inl (fun _ => 0)))] := hD
  refine lv_aload_n hx hb dX4_become_55 rfl (lv_at hl 1 rfl) ?_
  refine va_get (D := G) (ci := 3) (v := .ref qtn) (C := RX4) (T := TX4) (N := 13) hx hb hts iX_X4 hown hK hP 9 rfl rfl 6 (by decide) (hts _ m_t50) (fun _ h9 => h9) rfl dX4_become_56 ?_
  refine lv_iconst (v := 0) hx hb dX4_become_59 (by decide) ?_
  refine lv_aload_n hx hb dX4_become_60 rfl (lv_at hl 0 rfl) ?_
  refine va_get (D := G) (ci := 3) (v := .ref qkn) (C := RX4) (T := TX4) (N := 13) hx hb hts iX_X4 hown hK hP 0 rfl rfl 6 (by decide) (hts _ m_t50) (fun _ h9 => h9) rfl dX4_become_61 ?_
  refine lv_iconst (v := 0) hx hb dX4_become_64 (by decide) ?_
  refine lv_bipush (v := 8) hx hb dX4_become_65 (by decide) ?_
  refine va_copyi (ty := .int) hx hb (hml.trans hl.1.symm) hown (hts _ m_t310) (hts _ m_nat) (hts _ m_t263) (hts _ m_t7) hK hP hD hS 11 2 0 0 rfl rfl rfl rfl rfl (by decide) (by decide) (by decide) (Nat.le_of_ble_eq_true rfl) (Nat.le_of_ble_eq_true rfl) (fun _ _ => rfl) (Nat.le_of_ble_eq_true rfl) (Nat.le_of_ble_eq_true rfl) dX4_become_67 (fun H locs hP hD hS => ?_)
  have hP : va_P G CL [(qk, .inr (3, [.int 0, .int 0, .int 0, .int 0, .int 1, .ref qkw, .ref qkn, .ref qkg, .ref qka, .ref qkr, .ref qkm, .ref qkt, .ref qks])), (qkw, .inl (cy 0, 8, .inl (va_cpy (fun _ => 0) (fun _ => 0) 0 0 8))), (qkn, .inl (cy 0, 8, .inl (va_cpy (fun _ => 0) (fun _ => 0) 0 0 8))), (qkg, .inl (cy 0, 8, .inl (fun _ => 0))), (qka, .inl (cy 0, 8, .inl (fun _ => 0))), (qkr, .inl (cy 0, 8, .inl (fun _ => 0))), (qkm, .inl (cy 0, 8, .inl (fun _ => 0))), (qkt, .inl (cy 0, 8, .inl (fun _ => 0))), (qks, .inl (cy 0, 64, .inl (fun _ => 0))), (qt, .inr (3, [.int 0, .int 0, .int 0, .int 0, .int 1, .ref qtw, .ref qtn, .ref qtg, .ref qta, .ref qtr, .ref qtm, .ref qtt, .ref qts])), (qtw, .inl (cy 0, 8, .inl (fun _ => 0))), (qtn, .inl (cy 0, 8, .inl (fun _ => 0))), (qtg, .inl (cy 0, 8, .inl (fun _ => 0))), (qta, .inl (cy 0, 8, .inl (fun _ => 0))), (qtr, .inl (cy 0, 8, .inl (fun _ => 0))), (qtm, .inl (cy 0, 8, .inl (fun _ => 0))), (qtt, .inl (cy 0, 8, .inl (fun _ => 0))), (qts, .inl (cy 0, 64, .inl (fun _ => 0)))] H := hP
  have hD : va_D A [(qk, .inr (3, [.int 0, .int 0, .int 0, .int 0, .int 1, .ref qkw, .ref qkn, .ref qkg, .ref qka, .ref qkr, .ref qkm, .ref qkt, .ref qks])), (qkw, .inl (cy 0, 8, .inl (va_cpy (fun _ => 0) (fun _ => 0) 0 0 8))), (qkn, .inl (cy 0, 8, .inl (va_cpy (fun _ => 0) (fun _ => 0) 0 0 8))), (qkg, .inl (cy 0, 8, .inl (fun _ => 0))), (qka, .inl (cy 0, 8, .inl (fun _ => 0))), (qkr, .inl (cy 0, 8, .inl (fun _ => 0))), (qkm, .inl (cy 0, 8, .inl (fun _ => 0))), (qkt, .inl (cy 0, 8, .inl (fun _ => 0))), (qks, .inl (cy 0, 64, .inl (fun _ => 0))), (qt, .inr (3, [.int 0, .int 0, .int 0, .int 0, .int 1, .ref qtw, .ref qtn, .ref qtg, .ref qta, .ref qtr, .ref qtm, .ref qtt, .ref qts])), (qtw, .inl (cy 0, 8, .inl (fun _ => 0))), (qtn, .inl (cy 0, 8, .inl (fun _ => 0))), (qtg, .inl (cy 0, 8, .inl (fun _ => 0))), (qta, .inl (cy 0, 8, .inl (fun _ => 0))), (qtr, .inl (cy 0, 8, .inl (fun _ => 0))), (qtm, .inl (cy 0, 8, .inl (fun _ => 0))), (qtt, .inl (cy 0, 8, .inl (fun _ => 0))), (qts, .inl (cy 0, 64, .inl (fun _ => 0)))] := hD
  refine lv_aload_n hx hb dX4_become_70 rfl (lv_at hl 1 rfl) ?_
  refine va_get (D := G) (ci := 3) (v := .ref qtg) (C := RX4) (T := TX4) (N := 13) hx hb hts iX_X4 hown hK hP 9 rfl rfl 7 (by decide) (hts _ m_t53) (fun _ h9 => h9) rfl dX4_become_71 ?_
  refine lv_iconst (v := 0) hx hb dX4_become_74 (by decide) ?_
  refine lv_aload_n hx hb dX4_become_75 rfl (lv_at hl 0 rfl) ?_
  refine va_get (D := G) (ci := 3) (v := .ref qkg) (C := RX4) (T := TX4) (N := 13) hx hb hts iX_X4 hown hK hP 0 rfl rfl 7 (by decide) (hts _ m_t53) (fun _ h9 => h9) rfl dX4_become_76 ?_
  refine lv_iconst (v := 0) hx hb dX4_become_79 (by decide) ?_
  refine lv_bipush (v := 8) hx hb dX4_become_80 (by decide) ?_
  refine va_copyi (ty := .int) hx hb (hml.trans hl.1.symm) hown (hts _ m_t310) (hts _ m_nat) (hts _ m_t263) (hts _ m_t7) hK hP hD hS 12 3 0 0 rfl rfl rfl rfl rfl (by decide) (by decide) (by decide) (Nat.le_of_ble_eq_true rfl) (Nat.le_of_ble_eq_true rfl) (fun _ _ => rfl) (Nat.le_of_ble_eq_true rfl) (Nat.le_of_ble_eq_true rfl) dX4_become_82 (fun H locs hP hD hS => ?_)
  have hP : va_P G CL [(qk, .inr (3, [.int 0, .int 0, .int 0, .int 0, .int 1, .ref qkw, .ref qkn, .ref qkg, .ref qka, .ref qkr, .ref qkm, .ref qkt, .ref qks])), (qkw, .inl (cy 0, 8, .inl (va_cpy (fun _ => 0) (fun _ => 0) 0 0 8))), (qkn, .inl (cy 0, 8, .inl (va_cpy (fun _ => 0) (fun _ => 0) 0 0 8))), (qkg, .inl (cy 0, 8, .inl (va_cpy (fun _ => 0) (fun _ => 0) 0 0 8))), (qka, .inl (cy 0, 8, .inl (fun _ => 0))), (qkr, .inl (cy 0, 8, .inl (fun _ => 0))), (qkm, .inl (cy 0, 8, .inl (fun _ => 0))), (qkt, .inl (cy 0, 8, .inl (fun _ => 0))), (qks, .inl (cy 0, 64, .inl (fun _ => 0))), (qt, .inr (3, [.int 0, .int 0, .int 0, .int 0, .int 1, .ref qtw, .ref qtn, .ref qtg, .ref qta, .ref qtr, .ref qtm, .ref qtt, .ref qts])), (qtw, .inl (cy 0, 8, .inl (fun _ => 0))), (qtn, .inl (cy 0, 8, .inl (fun _ => 0))), (qtg, .inl (cy 0, 8, .inl (fun _ => 0))), (qta, .inl (cy 0, 8, .inl (fun _ => 0))), (qtr, .inl (cy 0, 8, .inl (fun _ => 0))), (qtm, .inl (cy 0, 8, .inl (fun _ => 0))), (qtt, .inl (cy 0, 8, .inl (fun _ => 0))), (qts, .inl (cy 0, 64, .inl (fun _ => 0)))] H := hP
  have hD : va_D A [(qk, .inr (3, [.int 0, .int 0, .int 0, .int 0, .int 1, .ref qkw, .ref qkn, .ref qkg, .ref qka, .ref qkr, .ref qkm, .ref qkt, .ref qks])), (qkw, .inl (cy 0, 8, .inl (va_cpy (fun _ => 0) (fun _ => 0) 0 0 8))), (qkn, .inl (cy 0, 8, .inl (va_cpy (fun _ => 0) (fun _ => 0) 0 0 8))), (qkg, .inl (cy 0, 8, .inl (va_cpy (fun _ => 0) (fun _ => 0) 0 0 8))), (qka, .inl (cy 0, 8, .inl (fun _ => 0))), (qkr, .inl (cy 0, 8, .inl (fun _ => 0))), (qkm, .inl (cy 0, 8, .inl (fun _ => 0))), (qkt, .inl (cy 0, 8, .inl (fun _ => 0))), (qks, .inl (cy 0, 64, .inl (fun _ => 0))), (qt, .inr (3, [.int 0, .int 0, .int 0, .int 0, .int 1, .ref qtw, .ref qtn, .ref qtg, .ref qta, .ref qtr, .ref qtm, .ref qtt, .ref qts])), (qtw, .inl (cy 0, 8, .inl (fun _ => 0))), (qtn, .inl (cy 0, 8, .inl (fun _ => 0))), (qtg, .inl (cy 0, 8, .inl (fun _ => 0))), (qta, .inl (cy 0, 8, .inl (fun _ => 0))), (qtr, .inl (cy 0, 8, .inl (fun _ => 0))), (qtm, .inl (cy 0, 8, .inl (fun _ => 0))), (qtt, .inl (cy 0, 8, .inl (fun _ => 0))), (qts, .inl (cy 0, 64, .inl (fun _ => 0)))] := hD
  refine lv_aload_n hx hb dX4_become_85 rfl (lv_at hl 1 rfl) ?_
  refine va_get (D := G) (ci := 3) (v := .ref qta) (C := RX4) (T := TX4) (N := 13) hx hb hts iX_X4 hown hK hP 9 rfl rfl 8 (by decide) (hts _ m_t56) (fun _ h9 => h9) rfl dX4_become_86 ?_
  refine lv_iconst (v := 0) hx hb dX4_become_89 (by decide) ?_
  refine lv_aload_n hx hb dX4_become_90 rfl (lv_at hl 0 rfl) ?_
  refine va_get (D := G) (ci := 3) (v := .ref qka) (C := RX4) (T := TX4) (N := 13) hx hb hts iX_X4 hown hK hP 0 rfl rfl 8 (by decide) (hts _ m_t56) (fun _ h9 => h9) rfl dX4_become_91 ?_
  refine lv_iconst (v := 0) hx hb dX4_become_94 (by decide) ?_
  refine lv_bipush (v := 8) hx hb dX4_become_95 (by decide) ?_
  refine va_copyi (ty := .int) hx hb (hml.trans hl.1.symm) hown (hts _ m_t310) (hts _ m_nat) (hts _ m_t263) (hts _ m_t7) hK hP hD hS 13 4 0 0 rfl rfl rfl rfl rfl (by decide) (by decide) (by decide) (Nat.le_of_ble_eq_true rfl) (Nat.le_of_ble_eq_true rfl) (fun _ _ => rfl) (Nat.le_of_ble_eq_true rfl) (Nat.le_of_ble_eq_true rfl) dX4_become_97 (fun H locs hP hD hS => ?_)
  have hP : va_P G CL [(qk, .inr (3, [.int 0, .int 0, .int 0, .int 0, .int 1, .ref qkw, .ref qkn, .ref qkg, .ref qka, .ref qkr, .ref qkm, .ref qkt, .ref qks])), (qkw, .inl (cy 0, 8, .inl (va_cpy (fun _ => 0) (fun _ => 0) 0 0 8))), (qkn, .inl (cy 0, 8, .inl (va_cpy (fun _ => 0) (fun _ => 0) 0 0 8))), (qkg, .inl (cy 0, 8, .inl (va_cpy (fun _ => 0) (fun _ => 0) 0 0 8))), (qka, .inl (cy 0, 8, .inl (va_cpy (fun _ => 0) (fun _ => 0) 0 0 8))), (qkr, .inl (cy 0, 8, .inl (fun _ => 0))), (qkm, .inl (cy 0, 8, .inl (fun _ => 0))), (qkt, .inl (cy 0, 8, .inl (fun _ => 0))), (qks, .inl (cy 0, 64, .inl (fun _ => 0))), (qt, .inr (3, [.int 0, .int 0, .int 0, .int 0, .int 1, .ref qtw, .ref qtn, .ref qtg, .ref qta, .ref qtr, .ref qtm, .ref qtt, .ref qts])), (qtw, .inl (cy 0, 8, .inl (fun _ => 0))), (qtn, .inl (cy 0, 8, .inl (fun _ => 0))), (qtg, .inl (cy 0, 8, .inl (fun _ => 0))), (qta, .inl (cy 0, 8, .inl (fun _ => 0))), (qtr, .inl (cy 0, 8, .inl (fun _ => 0))), (qtm, .inl (cy 0, 8, .inl (fun _ => 0))), (qtt, .inl (cy 0, 8, .inl (fun _ => 0))), (qts, .inl (cy 0, 64, .inl (fun _ => 0)))] H := hP
  have hD : va_D A [(qk, .inr (3, [.int 0, .int 0, .int 0, .int 0, .int 1, .ref qkw, .ref qkn, .ref qkg, .ref qka, .ref qkr, .ref qkm, .ref qkt, .ref qks])), (qkw, .inl (cy 0, 8, .inl (va_cpy (fun _ => 0) (fun _ => 0) 0 0 8))), (qkn, .inl (cy 0, 8, .inl (va_cpy (fun _ => 0) (fun _ => 0) 0 0 8))), (qkg, .inl (cy 0, 8, .inl (va_cpy (fun _ => 0) (fun _ => 0) 0 0 8))), (qka, .inl (cy 0, 8, .inl (va_cpy (fun _ => 0) (fun _ => 0) 0 0 8))), (qkr, .inl (cy 0, 8, .inl (fun _ => 0))), (qkm, .inl (cy 0, 8, .inl (fun _ => 0))), (qkt, .inl (cy 0, 8, .inl (fun _ => 0))), (qks, .inl (cy 0, 64, .inl (fun _ => 0))), (qt, .inr (3, [.int 0, .int 0, .int 0, .int 0, .int 1, .ref qtw, .ref qtn, .ref qtg, .ref qta, .ref qtr, .ref qtm, .ref qtt, .ref qts])), (qtw, .inl (cy 0, 8, .inl (fun _ => 0))), (qtn, .inl (cy 0, 8, .inl (fun _ => 0))), (qtg, .inl (cy 0, 8, .inl (fun _ => 0))), (qta, .inl (cy 0, 8, .inl (fun _ => 0))), (qtr, .inl (cy 0, 8, .inl (fun _ => 0))), (qtm, .inl (cy 0, 8, .inl (fun _ => 0))), (qtt, .inl (cy 0, 8, .inl (fun _ => 0))), (qts, .inl (cy 0, 64, .inl (fun _ => 0)))] := hD
  refine lv_aload_n hx hb dX4_become_100 rfl (lv_at hl 1 rfl) ?_
  refine va_get (D := G) (ci := 3) (v := .ref qtr) (C := RX4) (T := TX4) (N := 13) hx hb hts iX_X4 hown hK hP 9 rfl rfl 9 (by decide) (hts _ m_t58) (fun _ h9 => h9) rfl dX4_become_101 ?_
  refine lv_iconst (v := 0) hx hb dX4_become_104 (by decide) ?_
  refine lv_aload_n hx hb dX4_become_105 rfl (lv_at hl 0 rfl) ?_
  refine va_get (D := G) (ci := 3) (v := .ref qkr) (C := RX4) (T := TX4) (N := 13) hx hb hts iX_X4 hown hK hP 0 rfl rfl 9 (by decide) (hts _ m_t58) (fun _ h9 => h9) rfl dX4_become_106 ?_
  refine lv_iconst (v := 0) hx hb dX4_become_109 (by decide) ?_
  refine lv_bipush (v := 8) hx hb dX4_become_110 (by decide) ?_
  refine va_copyi (ty := .int) hx hb (hml.trans hl.1.symm) hown (hts _ m_t310) (hts _ m_nat) (hts _ m_t263) (hts _ m_t7) hK hP hD hS 14 5 0 0 rfl rfl rfl rfl rfl (by decide) (by decide) (by decide) (Nat.le_of_ble_eq_true rfl) (Nat.le_of_ble_eq_true rfl) (fun _ _ => rfl) (Nat.le_of_ble_eq_true rfl) (Nat.le_of_ble_eq_true rfl) dX4_become_112 (fun H locs hP hD hS => ?_)
  have hP : va_P G CL [(qk, .inr (3, [.int 0, .int 0, .int 0, .int 0, .int 1, .ref qkw, .ref qkn, .ref qkg, .ref qka, .ref qkr, .ref qkm, .ref qkt, .ref qks])), (qkw, .inl (cy 0, 8, .inl (va_cpy (fun _ => 0) (fun _ => 0) 0 0 8))), (qkn, .inl (cy 0, 8, .inl (va_cpy (fun _ => 0) (fun _ => 0) 0 0 8))), (qkg, .inl (cy 0, 8, .inl (va_cpy (fun _ => 0) (fun _ => 0) 0 0 8))), (qka, .inl (cy 0, 8, .inl (va_cpy (fun _ => 0) (fun _ => 0) 0 0 8))), (qkr, .inl (cy 0, 8, .inl (va_cpy (fun _ => 0) (fun _ => 0) 0 0 8))), (qkm, .inl (cy 0, 8, .inl (fun _ => 0))), (qkt, .inl (cy 0, 8, .inl (fun _ => 0))), (qks, .inl (cy 0, 64, .inl (fun _ => 0))), (qt, .inr (3, [.int 0, .int 0, .int 0, .int 0, .int 1, .ref qtw, .ref qtn, .ref qtg, .ref qta, .ref qtr, .ref qtm, .ref qtt, .ref qts])), (qtw, .inl (cy 0, 8, .inl (fun _ => 0))), (qtn, .inl (cy 0, 8, .inl (fun _ => 0))), (qtg, .inl (cy 0, 8, .inl (fun _ => 0))), (qta, .inl (cy 0, 8, .inl (fun _ => 0))), (qtr, .inl (cy 0, 8, .inl (fun _ => 0))), (qtm, .inl (cy 0, 8, .inl (fun _ => 0))), (qtt, .inl (cy 0, 8, .inl (fun _ => 0))), (qts, .inl (cy 0, 64, .inl (fun _ => 0)))] H := hP
  have hD : va_D A [(qk, .inr (3, [.int 0, .int 0, .int 0, .int 0, .int 1, .ref qkw, .ref qkn, .ref qkg, .ref qka, .ref qkr, .ref qkm, .ref qkt, .ref qks])), (qkw, .inl (cy 0, 8, .inl (va_cpy (fun _ => 0) (fun _ => 0) 0 0 8))), (qkn, .inl (cy 0, 8, .inl (va_cpy (fun _ => 0) (fun _ => 0) 0 0 8))), (qkg, .inl (cy 0, 8, .inl (va_cpy (fun _ => 0) (fun _ => 0) 0 0 8))), (qka, .inl (cy 0, 8, .inl (va_cpy (fun _ => 0) (fun _ => 0) 0 0 8))), (qkr, .inl (cy 0, 8, .inl (va_cpy (fun _ => 0) (fun _ => 0) 0 0 8))), (qkm, .inl (cy 0, 8, .inl (fun _ => 0))), (qkt, .inl (cy 0, 8, .inl (fun _ => 0))), (qks, .inl (cy 0, 64, .inl (fun _ => 0))), (qt, .inr (3, [.int 0, .int 0, .int 0, .int 0, .int 1, .ref qtw, .ref qtn, .ref qtg, .ref qta, .ref qtr, .ref qtm, .ref qtt, .ref qts])), (qtw, .inl (cy 0, 8, .inl (fun _ => 0))), (qtn, .inl (cy 0, 8, .inl (fun _ => 0))), (qtg, .inl (cy 0, 8, .inl (fun _ => 0))), (qta, .inl (cy 0, 8, .inl (fun _ => 0))), (qtr, .inl (cy 0, 8, .inl (fun _ => 0))), (qtm, .inl (cy 0, 8, .inl (fun _ => 0))), (qtt, .inl (cy 0, 8, .inl (fun _ => 0))), (qts, .inl (cy 0, 64, .inl (fun _ => 0)))] := hD
  refine lv_aload_n hx hb dX4_become_115 rfl (lv_at hl 1 rfl) ?_
  refine va_get (D := G) (ci := 3) (v := .ref qtm) (C := RX4) (T := TX4) (N := 13) hx hb hts iX_X4 hown hK hP 9 rfl rfl 10 (by decide) (hts _ m_t60) (fun _ h9 => h9) rfl dX4_become_116 ?_
  refine lv_iconst (v := 0) hx hb dX4_become_119 (by decide) ?_
  refine lv_aload_n hx hb dX4_become_120 rfl (lv_at hl 0 rfl) ?_
  refine va_get (D := G) (ci := 3) (v := .ref qkm) (C := RX4) (T := TX4) (N := 13) hx hb hts iX_X4 hown hK hP 0 rfl rfl 10 (by decide) (hts _ m_t60) (fun _ h9 => h9) rfl dX4_become_121 ?_
  refine lv_iconst (v := 0) hx hb dX4_become_124 (by decide) ?_
  refine lv_bipush (v := 8) hx hb dX4_become_125 (by decide) ?_
  refine va_copyi (ty := .int) hx hb (hml.trans hl.1.symm) hown (hts _ m_t310) (hts _ m_nat) (hts _ m_t263) (hts _ m_t7) hK hP hD hS 15 6 0 0 rfl rfl rfl rfl rfl (by decide) (by decide) (by decide) (Nat.le_of_ble_eq_true rfl) (Nat.le_of_ble_eq_true rfl) (fun _ _ => rfl) (Nat.le_of_ble_eq_true rfl) (Nat.le_of_ble_eq_true rfl) dX4_become_127 (fun H locs hP hD hS => ?_)
  have hP : va_P G CL [(qk, .inr (3, [.int 0, .int 0, .int 0, .int 0, .int 1, .ref qkw, .ref qkn, .ref qkg, .ref qka, .ref qkr, .ref qkm, .ref qkt, .ref qks])), (qkw, .inl (cy 0, 8, .inl (va_cpy (fun _ => 0) (fun _ => 0) 0 0 8))), (qkn, .inl (cy 0, 8, .inl (va_cpy (fun _ => 0) (fun _ => 0) 0 0 8))), (qkg, .inl (cy 0, 8, .inl (va_cpy (fun _ => 0) (fun _ => 0) 0 0 8))), (qka, .inl (cy 0, 8, .inl (va_cpy (fun _ => 0) (fun _ => 0) 0 0 8))), (qkr, .inl (cy 0, 8, .inl (va_cpy (fun _ => 0) (fun _ => 0) 0 0 8))), (qkm, .inl (cy 0, 8, .inl (va_cpy (fun _ => 0) (fun _ => 0) 0 0 8))), (qkt, .inl (cy 0, 8, .inl (fun _ => 0))), (qks, .inl (cy 0, 64, .inl (fun _ => 0))), (qt, .inr (3, [.int 0, .int 0, .int 0, .int 0, .int 1, .ref qtw, .ref qtn, .ref qtg, .ref qta, .ref qtr, .ref qtm, .ref qtt, .ref qts])), (qtw, .inl (cy 0, 8, .inl (fun _ => 0))), (qtn, .inl (cy 0, 8, .inl (fun _ => 0))), (qtg, .inl (cy 0, 8, .inl (fun _ => 0))), (qta, .inl (cy 0, 8, .inl (fun _ => 0))), (qtr, .inl (cy 0, 8, .inl (fun _ => 0))), (qtm, .inl (cy 0, 8, .inl (fun _ => 0))), (qtt, .inl (cy 0, 8, .inl (fun _ => 0))), (qts, .inl (cy 0, 64, .inl (fun _ => 0)))] H := hP
  have hD : va_D A [(qk, .inr (3, [.int 0, .int 0, .int 0, .int 0, .int 1, .ref qkw, .ref qkn, .ref qkg, .ref qka, .ref qkr, .ref qkm, .ref qkt, .ref qks])), (qkw, .inl (cy 0, 8, .inl (va_cpy (fun _ => 0) (fun _ => 0) 0 0 8))), (qkn, .inl (cy 0, 8, .inl (va_cpy (fun _ => 0) (fun _ => 0) 0 0 8))), (qkg, .inl (cy 0, 8, .inl (va_cpy (fun _ => 0) (fun _ => 0) 0 0 8))), (qka, .inl (cy 0, 8, .inl (va_cpy (fun _ => 0) (fun _ => 0) 0 0 8))), (qkr, .inl (cy 0, 8, .inl (va_cpy (fun _ => 0) (fun _ => 0) 0 0 8))), (qkm, .inl (cy 0, 8, .inl (va_cpy (fun _ => 0) (fun _ => 0) 0 0 8))), (qkt, .inl (cy 0, 8, .inl (fun _ => 0))), (qks, .inl (cy 0, 64, .inl (fun _ => 0))), (qt, .inr (3, [.int 0, .int 0, .int 0, .int 0, .int 1, .ref qtw, .ref qtn, .ref qtg, .ref qta, .ref qtr, .ref qtm, .ref qtt, .ref qts])), (qtw, .inl (cy 0, 8, .inl (fun _ => 0))), (qtn, .inl (cy 0, 8, .inl (fun _ => 0))), (qtg, .inl (cy 0, 8, .inl (fun _ => 0))), (qta, .inl (cy 0, 8, .inl (fun _ => 0))), (qtr, .inl (cy 0, 8, .inl (fun _ => 0))), (qtm, .inl (cy 0, 8, .inl (fun _ => 0))), (qtt, .inl (cy 0, 8, .inl (fun _ => 0))), (qts, .inl (cy 0, 64, .inl (fun _ => 0)))] := hD
  refine lv_aload_n hx hb dX4_become_130 rfl (lv_at hl 1 rfl) ?_
  refine va_get (D := G) (ci := 3) (v := .ref qtt) (C := RX4) (T := TX4) (N := 13) hx hb hts iX_X4 hown hK hP 9 rfl rfl 11 (by decide) (hts _ m_t62) (fun _ h9 => h9) rfl dX4_become_131 ?_
  refine lv_iconst (v := 0) hx hb dX4_become_134 (by decide) ?_
  refine lv_aload_n hx hb dX4_become_135 rfl (lv_at hl 0 rfl) ?_
  refine va_get (D := G) (ci := 3) (v := .ref qkt) (C := RX4) (T := TX4) (N := 13) hx hb hts iX_X4 hown hK hP 0 rfl rfl 11 (by decide) (hts _ m_t62) (fun _ h9 => h9) rfl dX4_become_136 ?_
  refine lv_iconst (v := 0) hx hb dX4_become_139 (by decide) ?_
  refine lv_bipush (v := 8) hx hb dX4_become_140 (by decide) ?_
  refine va_copyi (ty := .int) hx hb (hml.trans hl.1.symm) hown (hts _ m_t310) (hts _ m_nat) (hts _ m_t263) (hts _ m_t7) hK hP hD hS 16 7 0 0 rfl rfl rfl rfl rfl (by decide) (by decide) (by decide) (Nat.le_of_ble_eq_true rfl) (Nat.le_of_ble_eq_true rfl) (fun _ _ => rfl) (Nat.le_of_ble_eq_true rfl) (Nat.le_of_ble_eq_true rfl) dX4_become_142 (fun H locs hP hD hS => ?_)
  have hP : va_P G CL [(qk, .inr (3, [.int 0, .int 0, .int 0, .int 0, .int 1, .ref qkw, .ref qkn, .ref qkg, .ref qka, .ref qkr, .ref qkm, .ref qkt, .ref qks])), (qkw, .inl (cy 0, 8, .inl (va_cpy (fun _ => 0) (fun _ => 0) 0 0 8))), (qkn, .inl (cy 0, 8, .inl (va_cpy (fun _ => 0) (fun _ => 0) 0 0 8))), (qkg, .inl (cy 0, 8, .inl (va_cpy (fun _ => 0) (fun _ => 0) 0 0 8))), (qka, .inl (cy 0, 8, .inl (va_cpy (fun _ => 0) (fun _ => 0) 0 0 8))), (qkr, .inl (cy 0, 8, .inl (va_cpy (fun _ => 0) (fun _ => 0) 0 0 8))), (qkm, .inl (cy 0, 8, .inl (va_cpy (fun _ => 0) (fun _ => 0) 0 0 8))), (qkt, .inl (cy 0, 8, .inl (va_cpy (fun _ => 0) (fun _ => 0) 0 0 8))), (qks, .inl (cy 0, 64, .inl (fun _ => 0))), (qt, .inr (3, [.int 0, .int 0, .int 0, .int 0, .int 1, .ref qtw, .ref qtn, .ref qtg, .ref qta, .ref qtr, .ref qtm, .ref qtt, .ref qts])), (qtw, .inl (cy 0, 8, .inl (fun _ => 0))), (qtn, .inl (cy 0, 8, .inl (fun _ => 0))), (qtg, .inl (cy 0, 8, .inl (fun _ => 0))), (qta, .inl (cy 0, 8, .inl (fun _ => 0))), (qtr, .inl (cy 0, 8, .inl (fun _ => 0))), (qtm, .inl (cy 0, 8, .inl (fun _ => 0))), (qtt, .inl (cy 0, 8, .inl (fun _ => 0))), (qts, .inl (cy 0, 64, .inl (fun _ => 0)))] H := hP
  have hD : va_D A [(qk, .inr (3, [.int 0, .int 0, .int 0, .int 0, .int 1, .ref qkw, .ref qkn, .ref qkg, .ref qka, .ref qkr, .ref qkm, .ref qkt, .ref qks])), (qkw, .inl (cy 0, 8, .inl (va_cpy (fun _ => 0) (fun _ => 0) 0 0 8))), (qkn, .inl (cy 0, 8, .inl (va_cpy (fun _ => 0) (fun _ => 0) 0 0 8))), (qkg, .inl (cy 0, 8, .inl (va_cpy (fun _ => 0) (fun _ => 0) 0 0 8))), (qka, .inl (cy 0, 8, .inl (va_cpy (fun _ => 0) (fun _ => 0) 0 0 8))), (qkr, .inl (cy 0, 8, .inl (va_cpy (fun _ => 0) (fun _ => 0) 0 0 8))), (qkm, .inl (cy 0, 8, .inl (va_cpy (fun _ => 0) (fun _ => 0) 0 0 8))), (qkt, .inl (cy 0, 8, .inl (va_cpy (fun _ => 0) (fun _ => 0) 0 0 8))), (qks, .inl (cy 0, 64, .inl (fun _ => 0))), (qt, .inr (3, [.int 0, .int 0, .int 0, .int 0, .int 1, .ref qtw, .ref qtn, .ref qtg, .ref qta, .ref qtr, .ref qtm, .ref qtt, .ref qts])), (qtw, .inl (cy 0, 8, .inl (fun _ => 0))), (qtn, .inl (cy 0, 8, .inl (fun _ => 0))), (qtg, .inl (cy 0, 8, .inl (fun _ => 0))), (qta, .inl (cy 0, 8, .inl (fun _ => 0))), (qtr, .inl (cy 0, 8, .inl (fun _ => 0))), (qtm, .inl (cy 0, 8, .inl (fun _ => 0))), (qtt, .inl (cy 0, 8, .inl (fun _ => 0))), (qts, .inl (cy 0, 64, .inl (fun _ => 0)))] := hD
  refine lv_aload_n hx hb dX4_become_145 rfl (lv_at hl 1 rfl) ?_
  refine va_get (D := G) (ci := 3) (v := .ref qts) (C := RX4) (T := TX4) (N := 13) hx hb hts iX_X4 hown hK hP 9 rfl rfl 12 (by decide) (hts _ m_t64) (fun _ h9 => h9) rfl dX4_become_146 ?_
  refine lv_iconst (v := 0) hx hb dX4_become_149 (by decide) ?_
  refine lv_aload_n hx hb dX4_become_150 rfl (lv_at hl 0 rfl) ?_
  refine va_get (D := G) (ci := 3) (v := .ref qks) (C := RX4) (T := TX4) (N := 13) hx hb hts iX_X4 hown hK hP 0 rfl rfl 12 (by decide) (hts _ m_t64) (fun _ h9 => h9) rfl dX4_become_151 ?_
  refine lv_iconst (v := 0) hx hb dX4_become_154 (by decide) ?_
  refine lv_bipush (v := 64) hx hb dX4_become_155 (by decide) ?_
  refine va_copyi (ty := .int) hx hb (hml.trans hl.1.symm) hown (hts _ m_t310) (hts _ m_nat) (hts _ m_t263) (hts _ m_t7) hK hP hD hS 17 8 0 0 rfl rfl rfl rfl rfl (by decide) (by decide) (by decide) (Nat.le_of_ble_eq_true rfl) (Nat.le_of_ble_eq_true rfl) (fun _ _ => rfl) (Nat.le_of_ble_eq_true rfl) (Nat.le_of_ble_eq_true rfl) dX4_become_157 (fun H locs hP hD hS => ?_)
  have hP : va_P G CL [(qk, .inr (3, [.int 0, .int 0, .int 0, .int 0, .int 1, .ref qkw, .ref qkn, .ref qkg, .ref qka, .ref qkr, .ref qkm, .ref qkt, .ref qks])), (qkw, .inl (cy 0, 8, .inl (va_cpy (fun _ => 0) (fun _ => 0) 0 0 8))), (qkn, .inl (cy 0, 8, .inl (va_cpy (fun _ => 0) (fun _ => 0) 0 0 8))), (qkg, .inl (cy 0, 8, .inl (va_cpy (fun _ => 0) (fun _ => 0) 0 0 8))), (qka, .inl (cy 0, 8, .inl (va_cpy (fun _ => 0) (fun _ => 0) 0 0 8))), (qkr, .inl (cy 0, 8, .inl (va_cpy (fun _ => 0) (fun _ => 0) 0 0 8))), (qkm, .inl (cy 0, 8, .inl (va_cpy (fun _ => 0) (fun _ => 0) 0 0 8))), (qkt, .inl (cy 0, 8, .inl (va_cpy (fun _ => 0) (fun _ => 0) 0 0 8))), (qks, .inl (cy 0, 64, .inl (va_cpy (fun _ => 0) (fun _ => 0) 0 0 64))), (qt, .inr (3, [.int 0, .int 0, .int 0, .int 0, .int 1, .ref qtw, .ref qtn, .ref qtg, .ref qta, .ref qtr, .ref qtm, .ref qtt, .ref qts])), (qtw, .inl (cy 0, 8, .inl (fun _ => 0))), (qtn, .inl (cy 0, 8, .inl (fun _ => 0))), (qtg, .inl (cy 0, 8, .inl (fun _ => 0))), (qta, .inl (cy 0, 8, .inl (fun _ => 0))), (qtr, .inl (cy 0, 8, .inl (fun _ => 0))), (qtm, .inl (cy 0, 8, .inl (fun _ => 0))), (qtt, .inl (cy 0, 8, .inl (fun _ => 0))), (qts, .inl (cy 0, 64, .inl (fun _ => 0)))] H := hP
  have hD : va_D A [(qk, .inr (3, [.int 0, .int 0, .int 0, .int 0, .int 1, .ref qkw, .ref qkn, .ref qkg, .ref qka, .ref qkr, .ref qkm, .ref qkt, .ref qks])), (qkw, .inl (cy 0, 8, .inl (va_cpy (fun _ => 0) (fun _ => 0) 0 0 8))), (qkn, .inl (cy 0, 8, .inl (va_cpy (fun _ => 0) (fun _ => 0) 0 0 8))), (qkg, .inl (cy 0, 8, .inl (va_cpy (fun _ => 0) (fun _ => 0) 0 0 8))), (qka, .inl (cy 0, 8, .inl (va_cpy (fun _ => 0) (fun _ => 0) 0 0 8))), (qkr, .inl (cy 0, 8, .inl (va_cpy (fun _ => 0) (fun _ => 0) 0 0 8))), (qkm, .inl (cy 0, 8, .inl (va_cpy (fun _ => 0) (fun _ => 0) 0 0 8))), (qkt, .inl (cy 0, 8, .inl (va_cpy (fun _ => 0) (fun _ => 0) 0 0 8))), (qks, .inl (cy 0, 64, .inl (va_cpy (fun _ => 0) (fun _ => 0) 0 0 64))), (qt, .inr (3, [.int 0, .int 0, .int 0, .int 0, .int 1, .ref qtw, .ref qtn, .ref qtg, .ref qta, .ref qtr, .ref qtm, .ref qtt, .ref qts])), (qtw, .inl (cy 0, 8, .inl (fun _ => 0))), (qtn, .inl (cy 0, 8, .inl (fun _ => 0))), (qtg, .inl (cy 0, 8, .inl (fun _ => 0))), (qta, .inl (cy 0, 8, .inl (fun _ => 0))), (qtr, .inl (cy 0, 8, .inl (fun _ => 0))), (qtm, .inl (cy 0, 8, .inl (fun _ => 0))), (qtt, .inl (cy 0, 8, .inl (fun _ => 0))), (qts, .inl (cy 0, 64, .inl (fun _ => 0)))] := hD
  exact endV (u := []) hx hb hr hlocks va_P0 va_D0 hS rfl dX4_become_160
set_option maxHeartbeats 4000000 in
set_option maxRecDepth 100000 in
theorem c_X2_hasRow (l : Launch) (G : va_G) (cy : Nat → ClassId) (qs : Nat) (qsh : Nat) (qss : Nat) (qsa : Nat) (qse : Nat) (fH : Nat → Int32) (iA : Int32)  (hH : ∀ i, i < 8 → fH i = -1) (hI : Iv iA.toInt64 0 7) : MR l yX2_hasRow cX2_hasRow 2 (some .boolean) 1 G cy [(qs, .inr (1, [.ref qsh, .ref qss, .ref qsa, .ref qse])), (qsh, .inl (cy 0, 8, .inl fH))] [.ref qs, .int iA] (vp_Si (fun r => (r = 0))) := by
  refine enR RX2 (by decide) rfl (Nat.le_of_ble_eq_true rfl) (fun p e s m below meth c ls hx hb hml hown hts hr hlocks hP hN hl => ?_)
  have hK := hN.1
  have hl : lv_has ls 2 [(0, .ref qs), (1, .int iA)] := hl
  refine lv_aload_n hx hb dX2_hasRow_0 rfl (lv_at hl 0 rfl) ?_
  refine va_get (D := G) (ci := 1) (v := .ref qsh) (C := RX2) (T := TX2) (N := 4) hx hb hts iX_X2 hown hK hP 0 rfl rfl 0 (by decide) (hts _ m_t123) (fun _ h9 => h9) rfl dX2_hasRow_1 ?_
  refine lv_iload_n hx hb dX2_hasRow_4 rfl (lv_at hl 1 rfl) ?_
  refine va_iald hx hb hK hP 1 0 rfl rfl (in_shelf hI) dX2_hasRow_5 ?_
  refine lv_seti (v := (-1)) (hH _ (lt_in (in_shelf hI))) ?_
  refine lv_if_lt (tgt := 23) hx hb dX2_hasRow_6 (by decide) (fun _ => ?_) (fun h9 => absurd (by decide) h9)
  refine lv_iconst (v := 0) hx hb dX2_hasRow_23 (by decide) ?_
  exact endR hx hb hr hlocks rfl rfl dX2_hasRow_24
set_option maxHeartbeats 4000000 in
set_option maxRecDepth 100000 in
theorem c_X2_hasRule (l : Launch) (G : va_G) (cy : Nat → ClassId) (qs : Nat) (qsh : Nat) (qss : Nat) (qsa : Nat) (qse : Nat) (fH : Nat → Int32) (iA : Int32)  (hH : ∀ i, i < 8 → fH i = -1) (hI : Iv iA.toInt64 0 7) : MR l yX2_hasRule cX2_hasRule 2 (some .boolean) 1 G cy [(qs, .inr (1, [.ref qsh, .ref qss, .ref qsa, .ref qse])), (qsh, .inl (cy 0, 8, .inl fH))] [.ref qs, .int iA] (vp_Si (fun r => (r = 0))) := by
  refine enR RX2 (by decide) rfl (Nat.le_of_ble_eq_true rfl) (fun p e s m below meth c ls hx hb hml hown hts hr hlocks hP hN hl => ?_)
  have hK := hN.1
  have hl : lv_has ls 2 [(0, .ref qs), (1, .int iA)] := hl
  refine lv_aload_n hx hb dX2_hasRule_0 rfl (lv_at hl 0 rfl) ?_
  refine va_get (D := G) (ci := 1) (v := .ref qsh) (C := RX2) (T := TX2) (N := 4) hx hb hts iX_X2 hown hK hP 0 rfl rfl 0 (by decide) (hts _ m_t123) (fun _ h9 => h9) rfl dX2_hasRule_1 ?_
  refine lv_iload_n hx hb dX2_hasRule_4 rfl (lv_at hl 1 rfl) ?_
  refine va_iald hx hb hK hP 1 0 rfl rfl (in_shelf hI) dX2_hasRule_5 ?_
  refine lv_seti (v := (-1)) (hH _ (lt_in (in_shelf hI))) ?_
  refine lv_bipush (v := 10) hx hb dX2_hasRule_6 (by decide) ?_
  refine lv_icmp_lt (tgt := 15) hx hb dX2_hasRule_8 (by decide) (fun _ => ?_) (fun h9 => absurd (by decide) h9)
  refine lv_iconst (v := 0) hx hb dX2_hasRule_15 (by decide) ?_
  exact endR hx hb hr hlocks rfl rfl dX2_hasRule_16
set_option maxHeartbeats 4000000 in
set_option maxRecDepth 100000 in
theorem c_X2_countHolding (l : Launch) (G : va_G) (cy : Nat → ClassId) (qs : Nat) (qsh : Nat) (qss : Nat) (qsa : Nat) (qse : Nat) (fH : Nat → Int32)  (hH : ∀ i, i < 8 → fH i = -1) : MR l yX2_countHolding cX2_countHolding 3 (some .int) 1 G cy [(qs, .inr (1, [.ref qsh, .ref qss, .ref qsa, .ref qse])), (qsh, .inl (cy 0, 8, .inl fH))] [.ref qs] (vp_Si (fun r => (r = 0))) := by
  refine enR RX2 (by decide) rfl (Nat.le_of_ble_eq_true rfl) (fun p e s m below meth c ls hx hb hml hown hts hr hlocks hP hN hl => ?_)
  have hK := hN.1
  have hl : lv_has ls 3 [(0, .ref qs)] := hl
  refine lv_iconst (v := 0) hx hb dX2_countHolding_0 (by decide) ?_
  refine lv_istore_n (lv' := [(1, .int 0), (0, .ref qs)]) hx hb dX2_countHolding_1 rfl hl (by decide) rfl (fun ls hl => ?_)
  refine lv_iconst (v := 0) hx hb dX2_countHolding_2 (by decide) ?_
  refine lv_istore_n (lv' := [(2, .int 0), (1, .int 0), (0, .ref qs)]) hx hb dX2_countHolding_3 rfl hl (by decide) rfl (fun ls hl => ?_)
  refine lv_iload_n hx hb dX2_countHolding_4 rfl (lv_at hl 0 rfl) ?_
  refine lv_bipush (v := 8) hx hb dX2_countHolding_5 (by decide) ?_
  refine lv_icmp_ge (tgt := 29) hx hb dX2_countHolding_7 (by decide) (fun h9 => absurd h9 (by decide)) (fun _ => ?_)
  refine lv_aload_n hx hb dX2_countHolding_10 rfl (lv_at hl 2 rfl) ?_
  refine va_get (D := G) (ci := 1) (v := .ref qsh) (C := RX2) (T := TX2) (N := 4) hx hb hts iX_X2 hown hK hP 0 rfl rfl 0 (by decide) (hts _ m_t123) (fun _ h9 => h9) rfl dX2_countHolding_11 ?_
  refine lv_iload_n hx hb dX2_countHolding_14 rfl (lv_at hl 0 rfl) ?_
  refine va_iald hx hb hK hP 1 0 rfl rfl (in_c rfl) dX2_countHolding_15 ?_
  refine lv_seti (v := (-1)) (hH _ (by decide)) ?_
  refine lv_iconst (v := (-1)) hx hb dX2_countHolding_16 (by decide) ?_
  refine lv_icmp_eq (tgt := 23) hx hb dX2_countHolding_17 (by decide) (fun _ => ?_) (fun h9 => absurd (by decide) h9)
  refine lv_iinc (v := 1) (lv' := [(2, .int 1), (1, .int 0), (0, .ref qs)]) hx hb dX2_countHolding_23 hl (k := 0) rfl (by decide) (by decide) rfl (fun ls hl => ?_)
  refine lv_goto (tgt := 4) hx hb dX2_countHolding_26 (by decide) ?_
  refine lv_iload_n hx hb dX2_countHolding_4 rfl (lv_at hl 0 rfl) ?_
  refine lv_bipush (v := 8) hx hb dX2_countHolding_5 (by decide) ?_
  refine lv_icmp_ge (tgt := 29) hx hb dX2_countHolding_7 (by decide) (fun h9 => absurd h9 (by decide)) (fun _ => ?_)
  refine lv_aload_n hx hb dX2_countHolding_10 rfl (lv_at hl 2 rfl) ?_
  refine va_get (D := G) (ci := 1) (v := .ref qsh) (C := RX2) (T := TX2) (N := 4) hx hb hts iX_X2 hown hK hP 0 rfl rfl 0 (by decide) (hts _ m_t123) (fun _ h9 => h9) rfl dX2_countHolding_11 ?_
  refine lv_iload_n hx hb dX2_countHolding_14 rfl (lv_at hl 0 rfl) ?_
  refine va_iald hx hb hK hP 1 0 rfl rfl (in_c rfl) dX2_countHolding_15 ?_
  refine lv_seti (v := (-1)) (hH _ (by decide)) ?_
  refine lv_iconst (v := (-1)) hx hb dX2_countHolding_16 (by decide) ?_
  refine lv_icmp_eq (tgt := 23) hx hb dX2_countHolding_17 (by decide) (fun _ => ?_) (fun h9 => absurd (by decide) h9)
  refine lv_iinc (v := 2) (lv' := [(2, .int 2), (1, .int 0), (0, .ref qs)]) hx hb dX2_countHolding_23 hl (k := 0) rfl (by decide) (by decide) rfl (fun ls hl => ?_)
  refine lv_goto (tgt := 4) hx hb dX2_countHolding_26 (by decide) ?_
  refine lv_iload_n hx hb dX2_countHolding_4 rfl (lv_at hl 0 rfl) ?_
  refine lv_bipush (v := 8) hx hb dX2_countHolding_5 (by decide) ?_
  refine lv_icmp_ge (tgt := 29) hx hb dX2_countHolding_7 (by decide) (fun h9 => absurd h9 (by decide)) (fun _ => ?_)
  refine lv_aload_n hx hb dX2_countHolding_10 rfl (lv_at hl 2 rfl) ?_
  refine va_get (D := G) (ci := 1) (v := .ref qsh) (C := RX2) (T := TX2) (N := 4) hx hb hts iX_X2 hown hK hP 0 rfl rfl 0 (by decide) (hts _ m_t123) (fun _ h9 => h9) rfl dX2_countHolding_11 ?_
  refine lv_iload_n hx hb dX2_countHolding_14 rfl (lv_at hl 0 rfl) ?_
  refine va_iald hx hb hK hP 1 0 rfl rfl (in_c rfl) dX2_countHolding_15 ?_
  refine lv_seti (v := (-1)) (hH _ (by decide)) ?_
  refine lv_iconst (v := (-1)) hx hb dX2_countHolding_16 (by decide) ?_
  refine lv_icmp_eq (tgt := 23) hx hb dX2_countHolding_17 (by decide) (fun _ => ?_) (fun h9 => absurd (by decide) h9)
  refine lv_iinc (v := 3) (lv' := [(2, .int 3), (1, .int 0), (0, .ref qs)]) hx hb dX2_countHolding_23 hl (k := 0) rfl (by decide) (by decide) rfl (fun ls hl => ?_)
  refine lv_goto (tgt := 4) hx hb dX2_countHolding_26 (by decide) ?_
  refine lv_iload_n hx hb dX2_countHolding_4 rfl (lv_at hl 0 rfl) ?_
  refine lv_bipush (v := 8) hx hb dX2_countHolding_5 (by decide) ?_
  refine lv_icmp_ge (tgt := 29) hx hb dX2_countHolding_7 (by decide) (fun h9 => absurd h9 (by decide)) (fun _ => ?_)
  refine lv_aload_n hx hb dX2_countHolding_10 rfl (lv_at hl 2 rfl) ?_
  refine va_get (D := G) (ci := 1) (v := .ref qsh) (C := RX2) (T := TX2) (N := 4) hx hb hts iX_X2 hown hK hP 0 rfl rfl 0 (by decide) (hts _ m_t123) (fun _ h9 => h9) rfl dX2_countHolding_11 ?_
  refine lv_iload_n hx hb dX2_countHolding_14 rfl (lv_at hl 0 rfl) ?_
  refine va_iald hx hb hK hP 1 0 rfl rfl (in_c rfl) dX2_countHolding_15 ?_
  refine lv_seti (v := (-1)) (hH _ (by decide)) ?_
  refine lv_iconst (v := (-1)) hx hb dX2_countHolding_16 (by decide) ?_
  refine lv_icmp_eq (tgt := 23) hx hb dX2_countHolding_17 (by decide) (fun _ => ?_) (fun h9 => absurd (by decide) h9)
  refine lv_iinc (v := 4) (lv' := [(2, .int 4), (1, .int 0), (0, .ref qs)]) hx hb dX2_countHolding_23 hl (k := 0) rfl (by decide) (by decide) rfl (fun ls hl => ?_)
  refine lv_goto (tgt := 4) hx hb dX2_countHolding_26 (by decide) ?_
  refine lv_iload_n hx hb dX2_countHolding_4 rfl (lv_at hl 0 rfl) ?_
  refine lv_bipush (v := 8) hx hb dX2_countHolding_5 (by decide) ?_
  refine lv_icmp_ge (tgt := 29) hx hb dX2_countHolding_7 (by decide) (fun h9 => absurd h9 (by decide)) (fun _ => ?_)
  refine lv_aload_n hx hb dX2_countHolding_10 rfl (lv_at hl 2 rfl) ?_
  refine va_get (D := G) (ci := 1) (v := .ref qsh) (C := RX2) (T := TX2) (N := 4) hx hb hts iX_X2 hown hK hP 0 rfl rfl 0 (by decide) (hts _ m_t123) (fun _ h9 => h9) rfl dX2_countHolding_11 ?_
  refine lv_iload_n hx hb dX2_countHolding_14 rfl (lv_at hl 0 rfl) ?_
  refine va_iald hx hb hK hP 1 0 rfl rfl (in_c rfl) dX2_countHolding_15 ?_
  refine lv_seti (v := (-1)) (hH _ (by decide)) ?_
  refine lv_iconst (v := (-1)) hx hb dX2_countHolding_16 (by decide) ?_
  refine lv_icmp_eq (tgt := 23) hx hb dX2_countHolding_17 (by decide) (fun _ => ?_) (fun h9 => absurd (by decide) h9)
  refine lv_iinc (v := 5) (lv' := [(2, .int 5), (1, .int 0), (0, .ref qs)]) hx hb dX2_countHolding_23 hl (k := 0) rfl (by decide) (by decide) rfl (fun ls hl => ?_)
  refine lv_goto (tgt := 4) hx hb dX2_countHolding_26 (by decide) ?_
  refine lv_iload_n hx hb dX2_countHolding_4 rfl (lv_at hl 0 rfl) ?_
  refine lv_bipush (v := 8) hx hb dX2_countHolding_5 (by decide) ?_
  refine lv_icmp_ge (tgt := 29) hx hb dX2_countHolding_7 (by decide) (fun h9 => absurd h9 (by decide)) (fun _ => ?_)
  refine lv_aload_n hx hb dX2_countHolding_10 rfl (lv_at hl 2 rfl) ?_
  refine va_get (D := G) (ci := 1) (v := .ref qsh) (C := RX2) (T := TX2) (N := 4) hx hb hts iX_X2 hown hK hP 0 rfl rfl 0 (by decide) (hts _ m_t123) (fun _ h9 => h9) rfl dX2_countHolding_11 ?_
  refine lv_iload_n hx hb dX2_countHolding_14 rfl (lv_at hl 0 rfl) ?_
  refine va_iald hx hb hK hP 1 0 rfl rfl (in_c rfl) dX2_countHolding_15 ?_
  refine lv_seti (v := (-1)) (hH _ (by decide)) ?_
  refine lv_iconst (v := (-1)) hx hb dX2_countHolding_16 (by decide) ?_
  refine lv_icmp_eq (tgt := 23) hx hb dX2_countHolding_17 (by decide) (fun _ => ?_) (fun h9 => absurd (by decide) h9)
  refine lv_iinc (v := 6) (lv' := [(2, .int 6), (1, .int 0), (0, .ref qs)]) hx hb dX2_countHolding_23 hl (k := 0) rfl (by decide) (by decide) rfl (fun ls hl => ?_)
  refine lv_goto (tgt := 4) hx hb dX2_countHolding_26 (by decide) ?_
  refine lv_iload_n hx hb dX2_countHolding_4 rfl (lv_at hl 0 rfl) ?_
  refine lv_bipush (v := 8) hx hb dX2_countHolding_5 (by decide) ?_
  refine lv_icmp_ge (tgt := 29) hx hb dX2_countHolding_7 (by decide) (fun h9 => absurd h9 (by decide)) (fun _ => ?_)
  refine lv_aload_n hx hb dX2_countHolding_10 rfl (lv_at hl 2 rfl) ?_
  refine va_get (D := G) (ci := 1) (v := .ref qsh) (C := RX2) (T := TX2) (N := 4) hx hb hts iX_X2 hown hK hP 0 rfl rfl 0 (by decide) (hts _ m_t123) (fun _ h9 => h9) rfl dX2_countHolding_11 ?_
  refine lv_iload_n hx hb dX2_countHolding_14 rfl (lv_at hl 0 rfl) ?_
  refine va_iald hx hb hK hP 1 0 rfl rfl (in_c rfl) dX2_countHolding_15 ?_
  refine lv_seti (v := (-1)) (hH _ (by decide)) ?_
  refine lv_iconst (v := (-1)) hx hb dX2_countHolding_16 (by decide) ?_
  refine lv_icmp_eq (tgt := 23) hx hb dX2_countHolding_17 (by decide) (fun _ => ?_) (fun h9 => absurd (by decide) h9)
  refine lv_iinc (v := 7) (lv' := [(2, .int 7), (1, .int 0), (0, .ref qs)]) hx hb dX2_countHolding_23 hl (k := 0) rfl (by decide) (by decide) rfl (fun ls hl => ?_)
  refine lv_goto (tgt := 4) hx hb dX2_countHolding_26 (by decide) ?_
  refine lv_iload_n hx hb dX2_countHolding_4 rfl (lv_at hl 0 rfl) ?_
  refine lv_bipush (v := 8) hx hb dX2_countHolding_5 (by decide) ?_
  refine lv_icmp_ge (tgt := 29) hx hb dX2_countHolding_7 (by decide) (fun h9 => absurd h9 (by decide)) (fun _ => ?_)
  refine lv_aload_n hx hb dX2_countHolding_10 rfl (lv_at hl 2 rfl) ?_
  refine va_get (D := G) (ci := 1) (v := .ref qsh) (C := RX2) (T := TX2) (N := 4) hx hb hts iX_X2 hown hK hP 0 rfl rfl 0 (by decide) (hts _ m_t123) (fun _ h9 => h9) rfl dX2_countHolding_11 ?_
  refine lv_iload_n hx hb dX2_countHolding_14 rfl (lv_at hl 0 rfl) ?_
  refine va_iald hx hb hK hP 1 0 rfl rfl (in_c rfl) dX2_countHolding_15 ?_
  refine lv_seti (v := (-1)) (hH _ (by decide)) ?_
  refine lv_iconst (v := (-1)) hx hb dX2_countHolding_16 (by decide) ?_
  refine lv_icmp_eq (tgt := 23) hx hb dX2_countHolding_17 (by decide) (fun _ => ?_) (fun h9 => absurd (by decide) h9)
  refine lv_iinc (v := 8) (lv' := [(2, .int 8), (1, .int 0), (0, .ref qs)]) hx hb dX2_countHolding_23 hl (k := 0) rfl (by decide) (by decide) rfl (fun ls hl => ?_)
  refine lv_goto (tgt := 4) hx hb dX2_countHolding_26 (by decide) ?_
  refine lv_iload_n hx hb dX2_countHolding_4 rfl (lv_at hl 0 rfl) ?_
  refine lv_bipush (v := 8) hx hb dX2_countHolding_5 (by decide) ?_
  refine lv_icmp_ge (tgt := 29) hx hb dX2_countHolding_7 (by decide) (fun _ => ?_) (fun h9 => absurd (by decide) h9)
  refine lv_iload_n hx hb dX2_countHolding_29 rfl (lv_at hl 1 rfl) ?_
  exact endR hx hb hr hlocks rfl rfl dX2_countHolding_30
set_option maxHeartbeats 4000000 in
set_option maxRecDepth 100000 in
theorem c_X2_putRule (l : Launch) (G : va_G) (cy : Nat → ClassId) (sz : Nat) (qs : Nat) (qsh : Nat) (qss : Nat) (qsa : Nat) (qse : Nat) (fH : Nat → Int32) (iA : Int32) (iB : Int32) (iC : Int32)  (hH : ∀ i, i < 8 → fH i = -1) (hI : Iv iA.toInt64 0 7) : MW l yX2_putRule cX2_putRule 4 none 1 0 0 G cy [(qs, .inr (1, [.ref qsh, .ref qss, .ref qsa, .ref qse])), (qsh, .inl (cy 0, 8, .inl fH)), (qsa, .inl (cy 0, 8, .inl (fun _ => 0)))] sz [.ref qs, .int iA, .int iB, .int iC] (Wv G (fun u => u = [])) := by
  refine enW RX2 (by decide) rfl (Nat.le_of_ble_eq_true rfl) (fun p e s m below meth c ls A hx hb hml hown hts hr hlocks hP hN hl hin hD hA hS => ?_)
  have hin : meth.name = _ := hin
  have hK := hN.1
  have hl : lv_has ls 4 [(0, .ref qs), (1, .int iA), (2, .int iB), (3, .int iC)] := hl
  refine lv_aload_n hx hb dX2_putRule_0 rfl (lv_at hl 0 rfl) ?_
  refine va_get (D := G) (ci := 1) (v := .ref qsh) (C := RX2) (T := TX2) (N := 4) hx hb hts iX_X2 hown hK hP 0 rfl rfl 0 (by decide) (hts _ m_t123) (fun _ h9 => h9) rfl dX2_putRule_1 ?_
  refine lv_iload_n hx hb dX2_putRule_4 rfl (lv_at hl 1 rfl) ?_
  refine lv_bipush (v := 10) hx hb dX2_putRule_5 (by decide) ?_
  refine lv_iload_n hx hb dX2_putRule_7 rfl (lv_at hl 2 rfl) ?_
  refine lv_iadd hx hb dX2_putRule_8 ?_
  refine va_iast hx hb hK hP hD hS 1 0 rfl rfl (in_shelf hI) dX2_putRule_9 (fun H locs hP hD hS => ?_)
  have hP : va_P G CL [(qs, .inr (1, [.ref qsh, .ref qss, .ref qsa, .ref qse])), (qsh, .inl (cy 0, 8, .inl (upd fH iA.toNatClampNeg (10 + iB)))), (qsa, .inl (cy 0, 8, .inl (fun _ => 0)))] H := hP
  have hD : va_D A [(qs, .inr (1, [.ref qsh, .ref qss, .ref qsa, .ref qse])), (qsh, .inl (cy 0, 8, .inl (upd fH iA.toNatClampNeg (10 + iB)))), (qsa, .inl (cy 0, 8, .inl (fun _ => 0)))] := hD
  refine lv_aload_n hx hb dX2_putRule_10 rfl (lv_at hl 0 rfl) ?_
  refine va_get (D := G) (ci := 1) (v := .ref qsa) (C := RX2) (T := TX2) (N := 4) hx hb hts iX_X2 hown hK hP 0 rfl rfl 2 (by decide) (hts _ m_t127) (fun _ h9 => h9) rfl dX2_putRule_11 ?_
  refine lv_iload_n hx hb dX2_putRule_14 rfl (lv_at hl 1 rfl) ?_
  refine lv_iload_n hx hb dX2_putRule_15 rfl (lv_at hl 3 rfl) ?_
  refine va_iast hx hb hK hP hD hS 2 0 rfl rfl (in_shelf hI) dX2_putRule_16 (fun H locs hP hD hS => ?_)
  have hP : va_P G CL [(qs, .inr (1, [.ref qsh, .ref qss, .ref qsa, .ref qse])), (qsh, .inl (cy 0, 8, .inl (upd fH iA.toNatClampNeg (10 + iB)))), (qsa, .inl (cy 0, 8, .inl (upd (fun _ => 0) iA.toNatClampNeg iC)))] H := hP
  have hD : va_D A [(qs, .inr (1, [.ref qsh, .ref qss, .ref qsa, .ref qse])), (qsh, .inl (cy 0, 8, .inl (upd fH iA.toNatClampNeg (10 + iB)))), (qsa, .inl (cy 0, 8, .inl (upd (fun _ => 0) iA.toNatClampNeg iC)))] := hD
  exact endV (u := []) hx hb hr hlocks va_P0 va_D0 hS rfl dX2_putRule_17
set_option maxHeartbeats 4000000 in
set_option maxRecDepth 100000 in
theorem c_X5_refuse2 (l : Launch) (G : va_G) (cy : Nat → ClassId) (sz : Nat) (qx : Nat) (v1 : Value) (v2 : Value) (v3 : Value) (v4 : Value) (v5 : Value) (qr : Nat) (v6 : Value) (v7 : Value) (v8 : Value) (fR : Nat → Int32)   : MW l yX5_refuse cX5_refuse 3 (some .int) 2 0 0 G cy [(qx, .inr (4, [v1, v2, v3, v4, v5, .ref qr, v6, v7, v8])), (qr, .inl (cy 0, 5, .inl fR))] sz [.ref qx, .int (-2)] (Wi G (fun r u => u = [(qx, .inr (4, [v1, v2, v3, v4, v5, .ref qr, v6, v7, v8]))] ∧ ((r = (-2))))) := by
  refine enW RX5 (by decide) rfl (Nat.le_of_ble_eq_true rfl) (fun p e s m below meth c ls A hx hb hml hown hts hr hlocks hP hN hl hin hD hA hS => ?_)
  have hin : meth.name = _ := hin
  have hK := hN.1
  have hl : lv_has ls 3 [(0, .ref qx), (1, .int (-2))] := hl
  refine lv_bipush (v := (-2)) hx hb dX5_refuse_0 (by decide) ?_
  refine lv_iload_n hx hb dX5_refuse_2 rfl (lv_at hl 1 rfl) ?_
  refine lv_isub hx hb dX5_refuse_3 ?_
  refine lv_seti (v := 0) (by decide) ?_
  refine lv_istore_n (lv' := [(2, .int 0), (0, .ref qx), (1, .int (-2))]) hx hb dX5_refuse_4 rfl hl (by decide) rfl (fun ls hl => ?_)
  refine lv_iload_n hx hb dX5_refuse_5 rfl (lv_at hl 0 rfl) ?_
  refine lv_i2l (v := 0) hx hb dX5_refuse_6 (by decide) ?_
  refine lv_lconst (v := 0) hx hb dX5_refuse_7 (by decide) ?_
  refine lv_aload_n hx hb dX5_refuse_8 rfl (lv_at hl 1 rfl) ?_
  refine va_get (D := G) (ci := 4) (v := .ref qr) (C := RX5) (T := TX5) (N := 9) hx hb hts iX_X5 hown hK hP 0 rfl rfl 5 (by decide) (hts _ m_t179) (fun _ h9 => h9) rfl dX5_refuse_9 ?_
  refine va_alen hx hb hK hP 1 0 rfl rfl (v := 5) rfl dX5_refuse_12 ?_
  refine lv_iconst (v := 1) hx hb dX5_refuse_13 (by decide) ?_
  refine lv_isub hx hb dX5_refuse_14 ?_
  refine lv_seti (v := 4) (by decide) ?_
  refine lv_i2l (v := 4) hx hb dX5_refuse_15 (by decide) ?_
  refine kRi (rS (As := [.long 0, .long 0, .long 4]) (rest := []) ⟨hx, hb, hml, hown, hts⟩ (c_X5_within l G cy 0 0 4) L_X5_50 (preRS hN hP [] rfl) rfl ⟨Nat.le_of_ble_eq_true rfl, Nat.le_of_ble_eq_true rfl⟩ hl.1 (Nat.le_of_ble_eq_true rfl) dX5_refuse_16 ⟨Nat.le_of_ble_eq_true rfl, Nat.le_of_ble_eq_true rfl⟩) (fun r_1 h_2 => ?_)
  rcases h_2 with ⟨rfl, h_3⟩ | ⟨rfl, h_3⟩
  · refine lv_if_eq (tgt := 32) hx hb dX5_refuse_19 (by decide) (fun h9 => absurd h9 (by decide)) (fun _ => ?_)
    refine lv_aload_n hx hb dX5_refuse_22 rfl (lv_at hl 1 rfl) ?_
    refine va_get (D := G) (ci := 4) (v := .ref qr) (C := RX5) (T := TX5) (N := 9) hx hb hts iX_X5 hown hK hP 0 rfl rfl 5 (by decide) (hts _ m_t179) (fun _ h9 => h9) rfl dX5_refuse_23 ?_
    refine lv_iload_n hx hb dX5_refuse_26 rfl (lv_at hl 0 rfl) ?_
    refine lv_dup2_11 hx hb dX5_refuse_27 rfl rfl ?_
    refine va_iald hx hb hK hP 1 0 rfl rfl (in_c rfl) dX5_refuse_28 ?_
    refine lv_seti (v := fR 0) (congrArg fR (by decide)) ?_
    refine lv_iconst (v := 1) hx hb dX5_refuse_29 (by decide) ?_
    refine lv_iadd hx hb dX5_refuse_30 ?_
    refine va_iast hx hb hK hP hD hS 1 0 rfl rfl (in_c rfl) dX5_refuse_31 (fun H locs hP hD hS => ?_)
    have hP : va_P G CL [(qx, .inr (4, [v1, v2, v3, v4, v5, .ref qr, v6, v7, v8])), (qr, .inl (cy 0, 5, .inl (upd fR 0 ((fR 0) + 1))))] H := hP
    have hD : va_D A [(qx, .inr (4, [v1, v2, v3, v4, v5, .ref qr, v6, v7, v8])), (qr, .inl (cy 0, 5, .inl (upd fR 0 ((fR 0) + 1))))] := hD
    refine lv_iload_n hx hb dX5_refuse_32 rfl (lv_at hl 2 rfl) ?_
    exact endW (u := [(qx, .inr (4, [v1, v2, v3, v4, v5, .ref qr, v6, v7, v8]))]) hx hb hr hlocks rfl (hP.sub [0] rfl) (hD.sub [0] (by decide) rfl) hS ⟨rfl, rfl⟩ dX5_refuse_33
  · exact absurd (by decide) h_3
set_option maxHeartbeats 4000000 in
set_option maxRecDepth 100000 in
theorem c_X5_refuse4 (l : Launch) (G : va_G) (cy : Nat → ClassId) (sz : Nat) (qx : Nat) (v1 : Value) (v2 : Value) (v3 : Value) (v4 : Value) (v5 : Value) (qr : Nat) (v6 : Value) (v7 : Value) (v8 : Value) (fR : Nat → Int32)   : MW l yX5_refuse cX5_refuse 3 (some .int) 2 0 0 G cy [(qx, .inr (4, [v1, v2, v3, v4, v5, .ref qr, v6, v7, v8])), (qr, .inl (cy 0, 5, .inl fR))] sz [.ref qx, .int (-4)] (Wi G (fun r u => u = [(qx, .inr (4, [v1, v2, v3, v4, v5, .ref qr, v6, v7, v8]))] ∧ ((r = (-4))))) := by
  refine enW RX5 (by decide) rfl (Nat.le_of_ble_eq_true rfl) (fun p e s m below meth c ls A hx hb hml hown hts hr hlocks hP hN hl hin hD hA hS => ?_)
  have hin : meth.name = _ := hin
  have hK := hN.1
  have hl : lv_has ls 3 [(0, .ref qx), (1, .int (-4))] := hl
  refine lv_bipush (v := (-2)) hx hb dX5_refuse_0 (by decide) ?_
  refine lv_iload_n hx hb dX5_refuse_2 rfl (lv_at hl 1 rfl) ?_
  refine lv_isub hx hb dX5_refuse_3 ?_
  refine lv_seti (v := 2) (by decide) ?_
  refine lv_istore_n (lv' := [(2, .int 2), (0, .ref qx), (1, .int (-4))]) hx hb dX5_refuse_4 rfl hl (by decide) rfl (fun ls hl => ?_)
  refine lv_iload_n hx hb dX5_refuse_5 rfl (lv_at hl 0 rfl) ?_
  refine lv_i2l (v := 2) hx hb dX5_refuse_6 (by decide) ?_
  refine lv_lconst (v := 0) hx hb dX5_refuse_7 (by decide) ?_
  refine lv_aload_n hx hb dX5_refuse_8 rfl (lv_at hl 1 rfl) ?_
  refine va_get (D := G) (ci := 4) (v := .ref qr) (C := RX5) (T := TX5) (N := 9) hx hb hts iX_X5 hown hK hP 0 rfl rfl 5 (by decide) (hts _ m_t179) (fun _ h9 => h9) rfl dX5_refuse_9 ?_
  refine va_alen hx hb hK hP 1 0 rfl rfl (v := 5) rfl dX5_refuse_12 ?_
  refine lv_iconst (v := 1) hx hb dX5_refuse_13 (by decide) ?_
  refine lv_isub hx hb dX5_refuse_14 ?_
  refine lv_seti (v := 4) (by decide) ?_
  refine lv_i2l (v := 4) hx hb dX5_refuse_15 (by decide) ?_
  refine kRi (rS (As := [.long 2, .long 0, .long 4]) (rest := []) ⟨hx, hb, hml, hown, hts⟩ (c_X5_within l G cy 2 0 4) L_X5_50 (preRS hN hP [] rfl) rfl ⟨Nat.le_of_ble_eq_true rfl, Nat.le_of_ble_eq_true rfl⟩ hl.1 (Nat.le_of_ble_eq_true rfl) dX5_refuse_16 ⟨Nat.le_of_ble_eq_true rfl, Nat.le_of_ble_eq_true rfl⟩) (fun r_1 h_2 => ?_)
  rcases h_2 with ⟨rfl, h_3⟩ | ⟨rfl, h_3⟩
  · refine lv_if_eq (tgt := 32) hx hb dX5_refuse_19 (by decide) (fun h9 => absurd h9 (by decide)) (fun _ => ?_)
    refine lv_aload_n hx hb dX5_refuse_22 rfl (lv_at hl 1 rfl) ?_
    refine va_get (D := G) (ci := 4) (v := .ref qr) (C := RX5) (T := TX5) (N := 9) hx hb hts iX_X5 hown hK hP 0 rfl rfl 5 (by decide) (hts _ m_t179) (fun _ h9 => h9) rfl dX5_refuse_23 ?_
    refine lv_iload_n hx hb dX5_refuse_26 rfl (lv_at hl 0 rfl) ?_
    refine lv_dup2_11 hx hb dX5_refuse_27 rfl rfl ?_
    refine va_iald hx hb hK hP 1 0 rfl rfl (in_c rfl) dX5_refuse_28 ?_
    refine lv_seti (v := fR 2) (congrArg fR (by decide)) ?_
    refine lv_iconst (v := 1) hx hb dX5_refuse_29 (by decide) ?_
    refine lv_iadd hx hb dX5_refuse_30 ?_
    refine va_iast hx hb hK hP hD hS 1 0 rfl rfl (in_c rfl) dX5_refuse_31 (fun H locs hP hD hS => ?_)
    have hP : va_P G CL [(qx, .inr (4, [v1, v2, v3, v4, v5, .ref qr, v6, v7, v8])), (qr, .inl (cy 0, 5, .inl (upd fR 2 ((fR 2) + 1))))] H := hP
    have hD : va_D A [(qx, .inr (4, [v1, v2, v3, v4, v5, .ref qr, v6, v7, v8])), (qr, .inl (cy 0, 5, .inl (upd fR 2 ((fR 2) + 1))))] := hD
    refine lv_iload_n hx hb dX5_refuse_32 rfl (lv_at hl 2 rfl) ?_
    exact endW (u := [(qx, .inr (4, [v1, v2, v3, v4, v5, .ref qr, v6, v7, v8]))]) hx hb hr hlocks rfl (hP.sub [0] rfl) (hD.sub [0] (by decide) rfl) hS ⟨rfl, rfl⟩ dX5_refuse_33
  · exact absurd (by decide) h_3
set_option maxHeartbeats 4000000 in
set_option maxRecDepth 100000 in
theorem c_X5_refuse5 (l : Launch) (G : va_G) (cy : Nat → ClassId) (sz : Nat) (qx : Nat) (v1 : Value) (v2 : Value) (v3 : Value) (v4 : Value) (v5 : Value) (qr : Nat) (v6 : Value) (v7 : Value) (v8 : Value) (fR : Nat → Int32)   : MW l yX5_refuse cX5_refuse 3 (some .int) 2 0 0 G cy [(qx, .inr (4, [v1, v2, v3, v4, v5, .ref qr, v6, v7, v8])), (qr, .inl (cy 0, 5, .inl fR))] sz [.ref qx, .int (-5)] (Wi G (fun r u => u = [(qx, .inr (4, [v1, v2, v3, v4, v5, .ref qr, v6, v7, v8]))] ∧ ((r = (-5))))) := by
  refine enW RX5 (by decide) rfl (Nat.le_of_ble_eq_true rfl) (fun p e s m below meth c ls A hx hb hml hown hts hr hlocks hP hN hl hin hD hA hS => ?_)
  have hin : meth.name = _ := hin
  have hK := hN.1
  have hl : lv_has ls 3 [(0, .ref qx), (1, .int (-5))] := hl
  refine lv_bipush (v := (-2)) hx hb dX5_refuse_0 (by decide) ?_
  refine lv_iload_n hx hb dX5_refuse_2 rfl (lv_at hl 1 rfl) ?_
  refine lv_isub hx hb dX5_refuse_3 ?_
  refine lv_seti (v := 3) (by decide) ?_
  refine lv_istore_n (lv' := [(2, .int 3), (0, .ref qx), (1, .int (-5))]) hx hb dX5_refuse_4 rfl hl (by decide) rfl (fun ls hl => ?_)
  refine lv_iload_n hx hb dX5_refuse_5 rfl (lv_at hl 0 rfl) ?_
  refine lv_i2l (v := 3) hx hb dX5_refuse_6 (by decide) ?_
  refine lv_lconst (v := 0) hx hb dX5_refuse_7 (by decide) ?_
  refine lv_aload_n hx hb dX5_refuse_8 rfl (lv_at hl 1 rfl) ?_
  refine va_get (D := G) (ci := 4) (v := .ref qr) (C := RX5) (T := TX5) (N := 9) hx hb hts iX_X5 hown hK hP 0 rfl rfl 5 (by decide) (hts _ m_t179) (fun _ h9 => h9) rfl dX5_refuse_9 ?_
  refine va_alen hx hb hK hP 1 0 rfl rfl (v := 5) rfl dX5_refuse_12 ?_
  refine lv_iconst (v := 1) hx hb dX5_refuse_13 (by decide) ?_
  refine lv_isub hx hb dX5_refuse_14 ?_
  refine lv_seti (v := 4) (by decide) ?_
  refine lv_i2l (v := 4) hx hb dX5_refuse_15 (by decide) ?_
  refine kRi (rS (As := [.long 3, .long 0, .long 4]) (rest := []) ⟨hx, hb, hml, hown, hts⟩ (c_X5_within l G cy 3 0 4) L_X5_50 (preRS hN hP [] rfl) rfl ⟨Nat.le_of_ble_eq_true rfl, Nat.le_of_ble_eq_true rfl⟩ hl.1 (Nat.le_of_ble_eq_true rfl) dX5_refuse_16 ⟨Nat.le_of_ble_eq_true rfl, Nat.le_of_ble_eq_true rfl⟩) (fun r_1 h_2 => ?_)
  rcases h_2 with ⟨rfl, h_3⟩ | ⟨rfl, h_3⟩
  · refine lv_if_eq (tgt := 32) hx hb dX5_refuse_19 (by decide) (fun h9 => absurd h9 (by decide)) (fun _ => ?_)
    refine lv_aload_n hx hb dX5_refuse_22 rfl (lv_at hl 1 rfl) ?_
    refine va_get (D := G) (ci := 4) (v := .ref qr) (C := RX5) (T := TX5) (N := 9) hx hb hts iX_X5 hown hK hP 0 rfl rfl 5 (by decide) (hts _ m_t179) (fun _ h9 => h9) rfl dX5_refuse_23 ?_
    refine lv_iload_n hx hb dX5_refuse_26 rfl (lv_at hl 0 rfl) ?_
    refine lv_dup2_11 hx hb dX5_refuse_27 rfl rfl ?_
    refine va_iald hx hb hK hP 1 0 rfl rfl (in_c rfl) dX5_refuse_28 ?_
    refine lv_seti (v := fR 3) (congrArg fR (by decide)) ?_
    refine lv_iconst (v := 1) hx hb dX5_refuse_29 (by decide) ?_
    refine lv_iadd hx hb dX5_refuse_30 ?_
    refine va_iast hx hb hK hP hD hS 1 0 rfl rfl (in_c rfl) dX5_refuse_31 (fun H locs hP hD hS => ?_)
    have hP : va_P G CL [(qx, .inr (4, [v1, v2, v3, v4, v5, .ref qr, v6, v7, v8])), (qr, .inl (cy 0, 5, .inl (upd fR 3 ((fR 3) + 1))))] H := hP
    have hD : va_D A [(qx, .inr (4, [v1, v2, v3, v4, v5, .ref qr, v6, v7, v8])), (qr, .inl (cy 0, 5, .inl (upd fR 3 ((fR 3) + 1))))] := hD
    refine lv_iload_n hx hb dX5_refuse_32 rfl (lv_at hl 2 rfl) ?_
    exact endW (u := [(qx, .inr (4, [v1, v2, v3, v4, v5, .ref qr, v6, v7, v8]))]) hx hb hr hlocks rfl (hP.sub [0] rfl) (hD.sub [0] (by decide) rfl) hS ⟨rfl, rfl⟩ dX5_refuse_33
  · exact absurd (by decide) h_3
set_option maxHeartbeats 4000000 in
set_option maxRecDepth 100000 in
theorem c_X5_isPair (l : Launch) (G : va_G) (cy : Nat → ClassId) (qx : Nat) (qt : Nat) (v2 : Value) (v3 : Value) (v4 : Value) (v5 : Value) (v6 : Value) (v7 : Value) (v8 : Value) (v9 : Value) (qtw : Nat) (qtn : Nat) (qtg : Nat) (qta : Nat) (qtr : Nat) (qtm : Nat) (qtt : Nat) (qts : Nat) (iA : Int32) (iB : Int32)   : MR l yX5_isPair cX5_isPair 3 (some .boolean) 2 G cy [(qx, .inr (4, [.ref qt, v2, v3, v4, v5, v6, v7, v8, v9])), (qt, .inr (3, [.int 0, .int 0, .int 0, .int 0, .int 1, .ref qtw, .ref qtn, .ref qtg, .ref qta, .ref qtr, .ref qtm, .ref qtt, .ref qts]))] [.ref qx, .int iA, .int iB] (vp_Si (fun r => (r = 0))) := by
  refine enR RX5 (by decide) rfl (Nat.le_of_ble_eq_true rfl) (fun p e s m below meth c ls hx hb hml hown hts hr hlocks hP hN hl => ?_)
  have hK := hN.1
  have hl : lv_has ls 3 [(0, .ref qx), (1, .int iA), (2, .int iB)] := hl
  refine lv_aload_n hx hb dX5_isPair_0 rfl (lv_at hl 0 rfl) ?_
  refine va_get (D := G) (ci := 4) (v := .ref qt) (C := RX5) (T := TX5) (N := 9) hx hb hts iX_X5 hown hK hP 0 rfl rfl 0 (by decide) (hts _ m_t174) (fun _ h9 => h9) rfl dX5_isPair_1 ?_
  refine lv_iload_n hx hb dX5_isPair_4 rfl (lv_at hl 1 rfl) ?_
  refine kRi (rV (As := [.int iA]) (rest := []) (b := qt) ⟨hx, hb, hml, hown, hts⟩ (c_X4_isOne l G cy qt (.int 0) (.int 0) (.int 0) (.int 1) (.ref qtw) (.ref qtn) (.ref qtg) (.ref qta) (.ref qtr) (.ref qtm) (.ref qtt) (.ref qts) iA) L_X5_192 (preRV (q := (RX4, TX4, 13)) hN hP [1] rfl 1 3 rfl rfl) rfl ⟨Nat.le_of_ble_eq_true rfl, Nat.le_of_ble_eq_true rfl⟩ hl.1 (Nat.le_of_ble_eq_true rfl) dX5_isPair_5 ⟨Nat.le_of_ble_eq_true rfl, Nat.le_of_ble_eq_true rfl⟩) (fun r_1 h_2 => ?_)
  subst h_2
  refine lv_if_eq (tgt := 26) hx hb dX5_isPair_8 (by decide) (fun _ => ?_) (fun h9 => absurd (by decide) h9)
  refine lv_iconst (v := 0) hx hb dX5_isPair_26 (by decide) ?_
  exact endR hx hb hr hlocks rfl rfl dX5_isPair_27
set_option maxHeartbeats 4000000 in
set_option maxRecDepth 100000 in
theorem c_X5_readFit (l : Launch) (G : va_G) (cy : Nat → ClassId) (qx : Nat) (qt : Nat) (v2 : Value) (v3 : Value) (v4 : Value) (v5 : Value) (v6 : Value) (v7 : Value) (v8 : Value) (v9 : Value) (qtw : Nat) (qtn : Nat) (qtg : Nat) (qta : Nat) (qtr : Nat) (qtm : Nat) (qtt : Nat) (qts : Nat) (iA : Int32) (iB : Int32)   : MR l yX5_readFit cX5_readFit 3 (some .int) 3 G cy [(qx, .inr (4, [.ref qt, v2, v3, v4, v5, v6, v7, v8, v9])), (qt, .inr (3, [.int 0, .int 0, .int 0, .int 0, .int 1, .ref qtw, .ref qtn, .ref qtg, .ref qta, .ref qtr, .ref qtm, .ref qtt, .ref qts]))] [.ref qx, .int iA, .int iB] (vp_Si (fun r => (r = (-2)))) := by
  refine enR RX5 (by decide) rfl (Nat.le_of_ble_eq_true rfl) (fun p e s m below meth c ls hx hb hml hown hts hr hlocks hP hN hl => ?_)
  have hK := hN.1
  have hl : lv_has ls 3 [(0, .ref qx), (1, .int iA), (2, .int iB)] := hl
  refine lv_aload_n hx hb dX5_readFit_0 rfl (lv_at hl 0 rfl) ?_
  refine lv_iload_n hx hb dX5_readFit_1 rfl (lv_at hl 1 rfl) ?_
  refine lv_iload_n hx hb dX5_readFit_2 rfl (lv_at hl 2 rfl) ?_
  refine kRi (rV (As := [.int iA, .int iB]) (rest := []) (b := qx) ⟨hx, hb, hml, hown, hts⟩ (c_X5_isPair l G cy qx qt v2 v3 v4 v5 v6 v7 v8 v9 qtw qtn qtg qta qtr qtm qtt qts iA iB) L_X5_210 (preRV (q := (RX5, TX5, 9)) hN hP [0, 1] rfl 0 4 rfl rfl) rfl ⟨Nat.le_of_ble_eq_true rfl, Nat.le_of_ble_eq_true rfl⟩ hl.1 (Nat.le_of_ble_eq_true rfl) dX5_readFit_3 ⟨Nat.le_of_ble_eq_true rfl, Nat.le_of_ble_eq_true rfl⟩) (fun r_1 h_2 => ?_)
  subst h_2
  refine lv_if_ne (tgt := 12) hx hb dX5_readFit_6 (by decide) (fun h9 => absurd (by decide) h9) (fun _ => ?_)
  refine lv_bipush (v := (-2)) hx hb dX5_readFit_9 (by decide) ?_
  exact endR hx hb hr hlocks rfl rfl dX5_readFit_11
set_option maxHeartbeats 4000000 in
set_option maxRecDepth 100000 in
theorem c_X5_rowFit (l : Launch) (G : va_G) (cy : Nat → ClassId) (qx : Nat) (v1 : Value) (v2 : Value) (v3 : Value) (qs : Nat) (v5 : Value) (v6 : Value) (v7 : Value) (v8 : Value) (v9 : Value) (qsh : Nat) (qss : Nat) (qsa : Nat) (qse : Nat) (fH : Nat → Int32) (iA : Int32)  (hH : ∀ i, i < 8 → fH i = -1) : MR l yX5_rowFit cX5_rowFit 2 (some .int) 3 G cy [(qx, .inr (4, [v1, v2, v3, .ref qs, v5, v6, v7, v8, v9])), (qs, .inr (1, [.ref qsh, .ref qss, .ref qsa, .ref qse])), (qsh, .inl (cy 0, 8, .inl fH))] [.ref qx, .int iA] (vp_Si (fun r => (r = (-2) ∧ ¬ Iv iA.toInt64 0 7) ∨ (r = (-4) ∧ Iv iA.toInt64 0 7))) := by
  refine enR RX5 (by decide) rfl (Nat.le_of_ble_eq_true rfl) (fun p e s m below meth c ls hx hb hml hown hts hr hlocks hP hN hl => ?_)
  have hK := hN.1
  have hl : lv_has ls 2 [(0, .ref qx), (1, .int iA)] := hl
  refine lv_iload_n hx hb dX5_rowFit_0 rfl (lv_at hl 1 rfl) ?_
  refine kRi (rS (As := [.int iA]) (rest := []) ⟨hx, hb, hml, hown, hts⟩ (c_X5_isShelf l G cy iA) L_X5_44 (preRS hN hP [] rfl) rfl ⟨Nat.le_of_ble_eq_true rfl, Nat.le_of_ble_eq_true rfl⟩ hl.1 (Nat.le_of_ble_eq_true rfl) dX5_rowFit_1 ⟨Nat.le_of_ble_eq_true rfl, Nat.le_of_ble_eq_true rfl⟩) (fun r_1 h_2 => ?_)
  rcases h_2 with ⟨rfl, h_3⟩ | ⟨rfl, h_3⟩
  · refine lv_if_ne (tgt := 10) hx hb dX5_rowFit_4 (by decide) (fun _ => ?_) (fun h9 => absurd h9 (by decide))
    refine lv_aload_n hx hb dX5_rowFit_10 rfl (lv_at hl 0 rfl) ?_
    refine va_get (D := G) (ci := 4) (v := .ref qs) (C := RX5) (T := TX5) (N := 9) hx hb hts iX_X5 hown hK hP 0 rfl rfl 3 (by decide) (hts _ m_t177) (fun _ h9 => h9) rfl dX5_rowFit_11 ?_
    refine lv_iload_n hx hb dX5_rowFit_14 rfl (lv_at hl 1 rfl) ?_
    refine kRi (rV (As := [.int iA]) (rest := []) (b := qs) ⟨hx, hb, hml, hown, hts⟩ (c_X2_hasRule l G cy qs qsh qss qsa qse fH iA hH h_3) L_X5_361 (preRV (q := (RX2, TX2, 4)) hN hP [1, 2] rfl 1 1 rfl rfl) rfl ⟨Nat.le_of_ble_eq_true rfl, Nat.le_of_ble_eq_true rfl⟩ hl.1 (Nat.le_of_ble_eq_true rfl) dX5_rowFit_15 ⟨Nat.le_of_ble_eq_true rfl, Nat.le_of_ble_eq_true rfl⟩) (fun r_5 h_6 => ?_)
    subst h_6
    refine lv_if_eq (tgt := 24) hx hb dX5_rowFit_18 (by decide) (fun _ => ?_) (fun h9 => absurd (by decide) h9)
    refine lv_aload_n hx hb dX5_rowFit_24 rfl (lv_at hl 0 rfl) ?_
    refine va_get (D := G) (ci := 4) (v := .ref qs) (C := RX5) (T := TX5) (N := 9) hx hb hts iX_X5 hown hK hP 0 rfl rfl 3 (by decide) (hts _ m_t177) (fun _ h9 => h9) rfl dX5_rowFit_25 ?_
    refine lv_iload_n hx hb dX5_rowFit_28 rfl (lv_at hl 1 rfl) ?_
    refine kRi (rV (As := [.int iA]) (rest := []) (b := qs) ⟨hx, hb, hml, hown, hts⟩ (c_X2_hasRow l G cy qs qsh qss qsa qse fH iA hH h_3) L_X5_364 (preRV (q := (RX2, TX2, 4)) hN hP [1, 2] rfl 1 1 rfl rfl) rfl ⟨Nat.le_of_ble_eq_true rfl, Nat.le_of_ble_eq_true rfl⟩ hl.1 (Nat.le_of_ble_eq_true rfl) dX5_rowFit_29 ⟨Nat.le_of_ble_eq_true rfl, Nat.le_of_ble_eq_true rfl⟩) (fun r_8 h_9 => ?_)
    subst h_9
    refine lv_if_eq (tgt := 39) hx hb dX5_rowFit_32 (by decide) (fun _ => ?_) (fun h9 => absurd (by decide) h9)
    refine lv_bipush (v := (-4)) hx hb dX5_rowFit_39 (by decide) ?_
    exact endR hx hb hr hlocks rfl (Or.inr (⟨rfl, h_3⟩)) dX5_rowFit_41
  · refine lv_if_ne (tgt := 10) hx hb dX5_rowFit_4 (by decide) (fun h9 => absurd (by decide) h9) (fun _ => ?_)
    refine lv_bipush (v := (-2)) hx hb dX5_rowFit_7 (by decide) ?_
    exact endR hx hb hr hlocks rfl (Or.inl (⟨rfl, h_3⟩)) dX5_rowFit_9
set_option maxHeartbeats 4000000 in
set_option maxRecDepth 100000 in
theorem c_X5_ruleFit (l : Launch) (G : va_G) (cy : Nat → ClassId) (qx : Nat) (v1 : Value) (v2 : Value) (v3 : Value) (qs : Nat) (v5 : Value) (v6 : Value) (v7 : Value) (v8 : Value) (v9 : Value) (qsh : Nat) (qss : Nat) (qsa : Nat) (qse : Nat) (fH : Nat → Int32) (iA : Int32)  (hH : ∀ i, i < 8 → fH i = -1) : MR l yX5_ruleFit cX5_ruleFit 2 (some .int) 3 G cy [(qx, .inr (4, [v1, v2, v3, .ref qs, v5, v6, v7, v8, v9])), (qs, .inr (1, [.ref qsh, .ref qss, .ref qsa, .ref qse])), (qsh, .inl (cy 0, 8, .inl fH))] [.ref qx, .int iA] (vp_Si (fun r => (r = (-2) ∧ ¬ Iv iA.toInt64 0 7) ∨ (r = (-4) ∧ Iv iA.toInt64 0 7))) := by
  refine enR RX5 (by decide) rfl (Nat.le_of_ble_eq_true rfl) (fun p e s m below meth c ls hx hb hml hown hts hr hlocks hP hN hl => ?_)
  have hK := hN.1
  have hl : lv_has ls 2 [(0, .ref qx), (1, .int iA)] := hl
  refine lv_iload_n hx hb dX5_ruleFit_0 rfl (lv_at hl 1 rfl) ?_
  refine kRi (rS (As := [.int iA]) (rest := []) ⟨hx, hb, hml, hown, hts⟩ (c_X5_isShelf l G cy iA) L_X5_44 (preRS hN hP [] rfl) rfl ⟨Nat.le_of_ble_eq_true rfl, Nat.le_of_ble_eq_true rfl⟩ hl.1 (Nat.le_of_ble_eq_true rfl) dX5_ruleFit_1 ⟨Nat.le_of_ble_eq_true rfl, Nat.le_of_ble_eq_true rfl⟩) (fun r_1 h_2 => ?_)
  rcases h_2 with ⟨rfl, h_3⟩ | ⟨rfl, h_3⟩
  · refine lv_if_ne (tgt := 10) hx hb dX5_ruleFit_4 (by decide) (fun _ => ?_) (fun h9 => absurd h9 (by decide))
    refine lv_aload_n hx hb dX5_ruleFit_10 rfl (lv_at hl 0 rfl) ?_
    refine va_get (D := G) (ci := 4) (v := .ref qs) (C := RX5) (T := TX5) (N := 9) hx hb hts iX_X5 hown hK hP 0 rfl rfl 3 (by decide) (hts _ m_t177) (fun _ h9 => h9) rfl dX5_ruleFit_11 ?_
    refine lv_iload_n hx hb dX5_ruleFit_14 rfl (lv_at hl 1 rfl) ?_
    refine kRi (rV (As := [.int iA]) (rest := []) (b := qs) ⟨hx, hb, hml, hown, hts⟩ (c_X2_hasRow l G cy qs qsh qss qsa qse fH iA hH h_3) L_X5_364 (preRV (q := (RX2, TX2, 4)) hN hP [1, 2] rfl 1 1 rfl rfl) rfl ⟨Nat.le_of_ble_eq_true rfl, Nat.le_of_ble_eq_true rfl⟩ hl.1 (Nat.le_of_ble_eq_true rfl) dX5_ruleFit_15 ⟨Nat.le_of_ble_eq_true rfl, Nat.le_of_ble_eq_true rfl⟩) (fun r_5 h_6 => ?_)
    subst h_6
    refine lv_if_eq (tgt := 24) hx hb dX5_ruleFit_18 (by decide) (fun _ => ?_) (fun h9 => absurd (by decide) h9)
    refine lv_aload_n hx hb dX5_ruleFit_24 rfl (lv_at hl 0 rfl) ?_
    refine va_get (D := G) (ci := 4) (v := .ref qs) (C := RX5) (T := TX5) (N := 9) hx hb hts iX_X5 hown hK hP 0 rfl rfl 3 (by decide) (hts _ m_t177) (fun _ h9 => h9) rfl dX5_ruleFit_25 ?_
    refine lv_iload_n hx hb dX5_ruleFit_28 rfl (lv_at hl 1 rfl) ?_
    refine kRi (rV (As := [.int iA]) (rest := []) (b := qs) ⟨hx, hb, hml, hown, hts⟩ (c_X2_hasRule l G cy qs qsh qss qsa qse fH iA hH h_3) L_X5_361 (preRV (q := (RX2, TX2, 4)) hN hP [1, 2] rfl 1 1 rfl rfl) rfl ⟨Nat.le_of_ble_eq_true rfl, Nat.le_of_ble_eq_true rfl⟩ hl.1 (Nat.le_of_ble_eq_true rfl) dX5_ruleFit_29 ⟨Nat.le_of_ble_eq_true rfl, Nat.le_of_ble_eq_true rfl⟩) (fun r_8 h_9 => ?_)
    subst h_9
    refine lv_if_eq (tgt := 39) hx hb dX5_ruleFit_32 (by decide) (fun _ => ?_) (fun h9 => absurd (by decide) h9)
    refine lv_bipush (v := (-4)) hx hb dX5_ruleFit_39 (by decide) ?_
    exact endR hx hb hr hlocks rfl (Or.inr (⟨rfl, h_3⟩)) dX5_ruleFit_41
  · refine lv_if_ne (tgt := 10) hx hb dX5_ruleFit_4 (by decide) (fun h9 => absurd (by decide) h9) (fun _ => ?_)
    refine lv_bipush (v := (-2)) hx hb dX5_ruleFit_7 (by decide) ?_
    exact endR hx hb hr hlocks rfl (Or.inl (⟨rfl, h_3⟩)) dX5_ruleFit_9
set_option maxHeartbeats 4000000 in
set_option maxRecDepth 100000 in
theorem c_X5_copyFit (l : Launch) (G : va_G) (cy : Nat → ClassId) (qx : Nat) (v1 : Value) (v2 : Value) (v3 : Value) (qs : Nat) (v5 : Value) (v6 : Value) (v7 : Value) (v8 : Value) (v9 : Value) (qsh : Nat) (qss : Nat) (qsa : Nat) (qse : Nat) (fH : Nat → Int32) (iA : Int32) (iB : Int32)  (hH : ∀ i, i < 8 → fH i = -1) : MR l yX5_copyFit cX5_copyFit 3 (some .int) 3 G cy [(qx, .inr (4, [v1, v2, v3, .ref qs, v5, v6, v7, v8, v9])), (qs, .inr (1, [.ref qsh, .ref qss, .ref qsa, .ref qse])), (qsh, .inl (cy 0, 8, .inl fH))] [.ref qx, .int iA, .int iB] (vp_Si (fun r => (r = (-2) ∧ ¬ (Iv iA.toInt64 0 7 ∧ Iv iB.toInt64 0 7)) ∨ (r = (-4) ∧ Iv iA.toInt64 0 7 ∧ Iv iB.toInt64 0 7))) := by
  refine enR RX5 (by decide) rfl (Nat.le_of_ble_eq_true rfl) (fun p e s m below meth c ls hx hb hml hown hts hr hlocks hP hN hl => ?_)
  have hK := hN.1
  have hl : lv_has ls 3 [(0, .ref qx), (1, .int iA), (2, .int iB)] := hl
  refine lv_iload_n hx hb dX5_copyFit_0 rfl (lv_at hl 1 rfl) ?_
  refine kRi (rS (As := [.int iA]) (rest := []) ⟨hx, hb, hml, hown, hts⟩ (c_X5_isShelf l G cy iA) L_X5_44 (preRS hN hP [] rfl) rfl ⟨Nat.le_of_ble_eq_true rfl, Nat.le_of_ble_eq_true rfl⟩ hl.1 (Nat.le_of_ble_eq_true rfl) dX5_copyFit_1 ⟨Nat.le_of_ble_eq_true rfl, Nat.le_of_ble_eq_true rfl⟩) (fun r_1 h_2 => ?_)
  rcases h_2 with ⟨rfl, h_3⟩ | ⟨rfl, h_3⟩
  · refine lv_if_eq (tgt := 14) hx hb dX5_copyFit_4 (by decide) (fun h9 => absurd h9 (by decide)) (fun _ => ?_)
    refine lv_iload_n hx hb dX5_copyFit_7 rfl (lv_at hl 2 rfl) ?_
    refine kRi (rS (As := [.int iB]) (rest := []) ⟨hx, hb, hml, hown, hts⟩ (c_X5_isShelf l G cy iB) L_X5_44 (preRS hN hP [] rfl) rfl ⟨Nat.le_of_ble_eq_true rfl, Nat.le_of_ble_eq_true rfl⟩ hl.1 (Nat.le_of_ble_eq_true rfl) dX5_copyFit_8 ⟨Nat.le_of_ble_eq_true rfl, Nat.le_of_ble_eq_true rfl⟩) (fun r_5 h_6 => ?_)
    rcases h_6 with ⟨rfl, h_7⟩ | ⟨rfl, h_7⟩
    · refine lv_if_ne (tgt := 17) hx hb dX5_copyFit_11 (by decide) (fun _ => ?_) (fun h9 => absurd h9 (by decide))
      refine lv_aload_n hx hb dX5_copyFit_17 rfl (lv_at hl 0 rfl) ?_
      refine va_get (D := G) (ci := 4) (v := .ref qs) (C := RX5) (T := TX5) (N := 9) hx hb hts iX_X5 hown hK hP 0 rfl rfl 3 (by decide) (hts _ m_t177) (fun _ h9 => h9) rfl dX5_copyFit_18 ?_
      refine lv_iload_n hx hb dX5_copyFit_21 rfl (lv_at hl 1 rfl) ?_
      refine kRi (rV (As := [.int iA]) (rest := []) (b := qs) ⟨hx, hb, hml, hown, hts⟩ (c_X2_hasRule l G cy qs qsh qss qsa qse fH iA hH h_3) L_X5_361 (preRV (q := (RX2, TX2, 4)) hN hP [1, 2] rfl 1 1 rfl rfl) rfl ⟨Nat.le_of_ble_eq_true rfl, Nat.le_of_ble_eq_true rfl⟩ hl.1 (Nat.le_of_ble_eq_true rfl) dX5_copyFit_22 ⟨Nat.le_of_ble_eq_true rfl, Nat.le_of_ble_eq_true rfl⟩) (fun r_9 h_10 => ?_)
      subst h_10
      refine lv_if_ne (tgt := 39) hx hb dX5_copyFit_25 (by decide) (fun h9 => absurd (by decide) h9) (fun _ => ?_)
      refine lv_aload_n hx hb dX5_copyFit_28 rfl (lv_at hl 0 rfl) ?_
      refine va_get (D := G) (ci := 4) (v := .ref qs) (C := RX5) (T := TX5) (N := 9) hx hb hts iX_X5 hown hK hP 0 rfl rfl 3 (by decide) (hts _ m_t177) (fun _ h9 => h9) rfl dX5_copyFit_29 ?_
      refine lv_iload_n hx hb dX5_copyFit_32 rfl (lv_at hl 2 rfl) ?_
      refine kRi (rV (As := [.int iB]) (rest := []) (b := qs) ⟨hx, hb, hml, hown, hts⟩ (c_X2_hasRule l G cy qs qsh qss qsa qse fH iB hH h_7) L_X5_361 (preRV (q := (RX2, TX2, 4)) hN hP [1, 2] rfl 1 1 rfl rfl) rfl ⟨Nat.le_of_ble_eq_true rfl, Nat.le_of_ble_eq_true rfl⟩ hl.1 (Nat.le_of_ble_eq_true rfl) dX5_copyFit_33 ⟨Nat.le_of_ble_eq_true rfl, Nat.le_of_ble_eq_true rfl⟩) (fun r_12 h_13 => ?_)
      subst h_13
      refine lv_if_eq (tgt := 42) hx hb dX5_copyFit_36 (by decide) (fun _ => ?_) (fun h9 => absurd (by decide) h9)
      refine lv_aload_n hx hb dX5_copyFit_42 rfl (lv_at hl 0 rfl) ?_
      refine va_get (D := G) (ci := 4) (v := .ref qs) (C := RX5) (T := TX5) (N := 9) hx hb hts iX_X5 hown hK hP 0 rfl rfl 3 (by decide) (hts _ m_t177) (fun _ h9 => h9) rfl dX5_copyFit_43 ?_
      refine lv_iload_n hx hb dX5_copyFit_46 rfl (lv_at hl 1 rfl) ?_
      refine kRi (rV (As := [.int iA]) (rest := []) (b := qs) ⟨hx, hb, hml, hown, hts⟩ (c_X2_hasRow l G cy qs qsh qss qsa qse fH iA hH h_3) L_X5_364 (preRV (q := (RX2, TX2, 4)) hN hP [1, 2] rfl 1 1 rfl rfl) rfl ⟨Nat.le_of_ble_eq_true rfl, Nat.le_of_ble_eq_true rfl⟩ hl.1 (Nat.le_of_ble_eq_true rfl) dX5_copyFit_47 ⟨Nat.le_of_ble_eq_true rfl, Nat.le_of_ble_eq_true rfl⟩) (fun r_15 h_16 => ?_)
      subst h_16
      refine lv_if_eq (tgt := 64) hx hb dX5_copyFit_50 (by decide) (fun _ => ?_) (fun h9 => absurd (by decide) h9)
      refine lv_bipush (v := (-4)) hx hb dX5_copyFit_64 (by decide) ?_
      exact endR hx hb hr hlocks rfl (Or.inr (⟨rfl, by simp [Iv, h_3, h_7]⟩)) dX5_copyFit_66
    · refine lv_if_ne (tgt := 17) hx hb dX5_copyFit_11 (by decide) (fun h9 => absurd (by decide) h9) (fun _ => ?_)
      refine lv_bipush (v := (-2)) hx hb dX5_copyFit_14 (by decide) ?_
      exact endR hx hb hr hlocks rfl (Or.inl (⟨rfl, by simp [Iv, h_3, h_7]⟩)) dX5_copyFit_16
  · refine lv_if_eq (tgt := 14) hx hb dX5_copyFit_4 (by decide) (fun _ => ?_) (fun h9 => absurd (by decide) h9)
    refine lv_bipush (v := (-2)) hx hb dX5_copyFit_14 (by decide) ?_
    exact endR hx hb hr hlocks rfl (Or.inl (⟨rfl, by simp [Iv, h_3]⟩)) dX5_copyFit_16
set_option maxHeartbeats 4000000 in
set_option maxRecDepth 100000 in
theorem c_X5_toldFit (l : Launch) (G : va_G) (cy : Nat → ClassId) (qx : Nat) (v1 : Value) (v2 : Value) (v3 : Value) (qs : Nat) (v5 : Value) (v6 : Value) (v7 : Value) (v8 : Value) (v9 : Value) (qsh : Nat) (qss : Nat) (qsa : Nat) (qse : Nat) (fH : Nat → Int32) (iA : Int32) (iB : Int32)  (hH : ∀ i, i < 8 → fH i = -1) : MR l yX5_toldFit cX5_toldFit 4 (some .int) 4 G cy [(qx, .inr (4, [v1, v2, v3, .ref qs, v5, v6, v7, v8, v9])), (qs, .inr (1, [.ref qsh, .ref qss, .ref qsa, .ref qse])), (qsh, .inl (cy 0, 8, .inl fH))] [.ref qx, .int iA, .int iB] (vp_Si (fun r => (r = (-2) ∧ ¬ (Iv iA.toInt64 0 7 ∧ Iv iB.toInt64 0 20)) ∨ (r = (-4) ∧ Iv iA.toInt64 0 7 ∧ Iv iB.toInt64 0 20))) := by
  refine enR RX5 (by decide) rfl (Nat.le_of_ble_eq_true rfl) (fun p e s m below meth c ls hx hb hml hown hts hr hlocks hP hN hl => ?_)
  have hK := hN.1
  have hl : lv_has ls 4 [(0, .ref qx), (1, .int iA), (2, .int iB)] := hl
  refine lv_iload_n hx hb dX5_toldFit_0 rfl (lv_at hl 2 rfl) ?_
  refine lv_i2l (v := iB.toInt64) hx hb dX5_toldFit_1 rfl ?_
  refine lv_lconst (v := 0) hx hb dX5_toldFit_2 (by decide) ?_
  refine lv_ldc2 hx hb hown (hts _ m_t788) dX5_toldFit_3 ?_
  refine kRi (rS (As := [.long iB.toInt64, .long 0, .long 20]) (rest := []) ⟨hx, hb, hml, hown, hts⟩ (c_X5_within l G cy iB.toInt64 0 20) L_X5_50 (preRS hN hP [] rfl) rfl ⟨Nat.le_of_ble_eq_true rfl, Nat.le_of_ble_eq_true rfl⟩ hl.1 (Nat.le_of_ble_eq_true rfl) dX5_toldFit_6 ⟨Nat.le_of_ble_eq_true rfl, Nat.le_of_ble_eq_true rfl⟩) (fun r_1 h_2 => ?_)
  rcases h_2 with ⟨rfl, h_3⟩ | ⟨rfl, h_3⟩
  · refine lv_if_eq (tgt := 20) hx hb dX5_toldFit_9 (by decide) (fun h9 => absurd h9 (by decide)) (fun _ => ?_)
    refine lv_aload_n hx hb dX5_toldFit_12 rfl (lv_at hl 0 rfl) ?_
    refine lv_iload_n hx hb dX5_toldFit_13 rfl (lv_at hl 1 rfl) ?_
    refine kRi (rV (As := [.int iA]) (rest := []) (b := qx) ⟨hx, hb, hml, hown, hts⟩ (c_X5_rowFit l G cy qx v1 v2 v3 qs v5 v6 v7 v8 v9 qsh qss qsa qse fH iA hH) L_X5_64 (preRV (q := (RX5, TX5, 9)) hN hP [0, 1, 2] rfl 0 4 rfl rfl) rfl ⟨Nat.le_of_ble_eq_true rfl, Nat.le_of_ble_eq_true rfl⟩ hl.1 (Nat.le_of_ble_eq_true rfl) dX5_toldFit_14 ⟨Nat.le_of_ble_eq_true rfl, Nat.le_of_ble_eq_true rfl⟩) (fun r_5 h_6 => ?_)
    rcases h_6 with ⟨rfl, h_7⟩ | ⟨rfl, h_7⟩
    · refine lv_goto (tgt := 22) hx hb dX5_toldFit_17 (by decide) ?_
      refine lv_istore_n (lv' := [(3, .int (-2)), (0, .ref qx), (1, .int iA), (2, .int iB)]) hx hb dX5_toldFit_22 rfl hl (by decide) rfl (fun ls hl => ?_)
      refine lv_iload_n hx hb dX5_toldFit_23 rfl (lv_at hl 0 rfl) ?_
      refine lv_if_ne (tgt := 45) hx hb dX5_toldFit_24 (by decide) (fun _ => ?_) (fun h9 => absurd h9 (by decide))
      refine lv_iload_n hx hb dX5_toldFit_45 rfl (lv_at hl 0 rfl) ?_
      exact endR hx hb hr hlocks rfl (Or.inl (⟨rfl, by simp [Iv, h_3, h_7]⟩)) dX5_toldFit_46
    · refine lv_goto (tgt := 22) hx hb dX5_toldFit_17 (by decide) ?_
      refine lv_istore_n (lv' := [(3, .int (-4)), (0, .ref qx), (1, .int iA), (2, .int iB)]) hx hb dX5_toldFit_22 rfl hl (by decide) rfl (fun ls hl => ?_)
      refine lv_iload_n hx hb dX5_toldFit_23 rfl (lv_at hl 0 rfl) ?_
      refine lv_if_ne (tgt := 45) hx hb dX5_toldFit_24 (by decide) (fun _ => ?_) (fun h9 => absurd h9 (by decide))
      refine lv_iload_n hx hb dX5_toldFit_45 rfl (lv_at hl 0 rfl) ?_
      exact endR hx hb hr hlocks rfl (Or.inr (⟨rfl, by simp [Iv, h_3, h_7]⟩)) dX5_toldFit_46
  · refine lv_if_eq (tgt := 20) hx hb dX5_toldFit_9 (by decide) (fun _ => ?_) (fun h9 => absurd (by decide) h9)
    refine lv_bipush (v := (-2)) hx hb dX5_toldFit_20 (by decide) ?_
    refine lv_istore_n (lv' := [(3, .int (-2)), (0, .ref qx), (1, .int iA), (2, .int iB)]) hx hb dX5_toldFit_22 rfl hl (by decide) rfl (fun ls hl => ?_)
    refine lv_iload_n hx hb dX5_toldFit_23 rfl (lv_at hl 0 rfl) ?_
    refine lv_if_ne (tgt := 45) hx hb dX5_toldFit_24 (by decide) (fun _ => ?_) (fun h9 => absurd h9 (by decide))
    refine lv_iload_n hx hb dX5_toldFit_45 rfl (lv_at hl 0 rfl) ?_
    exact endR hx hb hr hlocks rfl (Or.inl (⟨rfl, by simp [Iv, h_3]⟩)) dX5_toldFit_46
