def sp_row (iA iB iC : Int32) : Int32 := if Iv iA.toInt64 0 7 ∧ Iv iB.toInt64 0 4 ∧ Iv iC.toInt64 0 40 then 1 else -2
def sp_shelf (iA : Int32) : Int32 := if Iv iA.toInt64 0 7 then -4 else -2
def sp_copy (iA iB : Int32) : Int32 := if Iv iA.toInt64 0 7 ∧ Iv iB.toInt64 0 7 then -4 else -2
def sp_rule (iA iB iC : Int32) : Int32 := if Iv iA.toInt64 0 7 ∧ Iv iB.toInt64 1 6 ∧ Iv iC.toInt64 0 99 then 1 else -2
def sp_says (iA iB : Int32) : Int32 := if Iv iA.toInt64 0 7 ∧ Iv iB.toInt64 0 6 then -4 else -2
def sp_book (iA iB : Int32) : Int32 := if Iv iA.toInt64 1 99 ∧ iB = 0 then 0 else -2
def sp_one (iA iB iC iD : Int32) : Int32 := if Iv iA.toInt64 0 9 ∧ Iv iB.toInt64 0 10 ∧ Iv iC.toInt64 0 10 ∧ Iv iD.toInt64 0 10 then 0 else -2
def sp_feed (iB : Int32) : Int32 := if Iv iB.toInt64 1 4 then iB else -2
def sp_run (iA iB iC : Int32) : Int32 := if Iv iA.toInt64 0 7 ∧ Iv iB.toInt64 1 60 ∧ Iv iC.toInt64 0 3 then -4 else -2
def sp_head (iA : Int32) : Int32 := if Iv iA.toInt64 1 60 then -5 else -2
def sp_lost (iA : Int32) : Int32 := if Iv iA.toInt64 1 1000 then 0 else -2
def sp_gains (iA iB : Int32) : Int32 := if Iv iA.toInt64 0 7 ∧ Iv iB.toInt64 1 60 then -1000004 else -1000002
def sp_judge (iA iB : Int32) : Int32 := if Iv iA.toInt64 0 7 ∧ Iv iB.toInt64 0 20 then -4 else -2
def sp_years (iA iB : Int32) : Int32 := if Iv iA.toInt64 0 7 ∧ Iv iB.toInt64 1 20 then -4 else -2
def sp_status (iA : Int32) : Int32 := if iA = 7 then 1 else if Iv iA.toInt64 12 16 ∨ Iv iA.toInt64 0 8 then 0 else -1
theorem toI {x : Int32} {a b : Int64} {m n : Int} (h : Iv x.toInt64 a b) (ha : a.toInt = m) (hb : b.toInt = n) : m ≤ x.toInt ∧ x.toInt ≤ n := by
  obtain ⟨h1, h2⟩ := Iv_iff.mp h
  rw [Int64.le_iff_toInt_le, Int32.toInt_toInt64] at h1 h2
  exact ⟨ha ▸ h1, hb ▸ h2⟩
theorem ofI {x : Int32} {a b : Int64} {m n : Int} (ha : a.toInt = m) (hb : b.toInt = n) (h : m ≤ x.toInt ∧ x.toInt ≤ n) : Iv x.toInt64 a b := by
  refine Iv_iff.mpr ⟨?_, ?_⟩ <;> rw [Int64.le_iff_toInt_le, Int32.toInt_toInt64]
  · rw [ha]; exact h.1
  · rw [hb]; exact h.2
theorem eqI {x k : Int32} {n : Int} (hk : k.toInt = n) (h : x.toInt = n) : x = k := Int32.toInt_inj.mp (h.trans hk.symm)
theorem in14 {x : Int32} (h : Iv x.toInt64 1 4) : x = 1 ∨ x = 2 ∨ x = 3 ∨ x = 4 := by
  have h1 := toI h (m := 1) (n := 4) (by decide) (by decide)
  rcases (show x.toInt = 1 ∨ x.toInt = 2 ∨ x.toInt = 3 ∨ x.toInt = 4 by omega) with e | e | e | e
  · exact Or.inl (eqI (by decide) e)
  · exact Or.inr (Or.inl (eqI (by decide) e))
  · exact Or.inr (Or.inr (Or.inl (eqI (by decide) e)))
  · exact Or.inr (Or.inr (Or.inr (eqI (by decide) e)))
theorem sw_0_8 (x : Int32) : x = 0 ∨ x = 1 ∨ x = 2 ∨ x = 3 ∨ x = 4 ∨ x = 5 ∨ x = 6 ∨ x = 7 ∨ x = 8 ∨ (x.toInt < 0 ∨ 8 < x.toInt) := by
  rcases (show x.toInt = 0 ∨ x.toInt = 1 ∨ x.toInt = 2 ∨ x.toInt = 3 ∨ x.toInt = 4 ∨ x.toInt = 5 ∨ x.toInt = 6 ∨ x.toInt = 7 ∨ x.toInt = 8 ∨ (x.toInt < 0 ∨ 8 < x.toInt) by omega) with e | e | e | e | e | e | e | e | e | e
  · exact Or.inl (eqI (by decide) e)
  · exact Or.inr (Or.inl (eqI (by decide) e))
  · exact Or.inr (Or.inr (Or.inl (eqI (by decide) e)))
  · exact Or.inr (Or.inr (Or.inr (Or.inl (eqI (by decide) e))))
  · exact Or.inr (Or.inr (Or.inr (Or.inr (Or.inl (eqI (by decide) e)))))
  · exact Or.inr (Or.inr (Or.inr (Or.inr (Or.inr (Or.inl (eqI (by decide) e))))))
  · exact Or.inr (Or.inr (Or.inr (Or.inr (Or.inr (Or.inr (Or.inl (eqI (by decide) e)))))))
  · exact Or.inr (Or.inr (Or.inr (Or.inr (Or.inr (Or.inr (Or.inr (Or.inl (eqI (by decide) e))))))))
  · exact Or.inr (Or.inr (Or.inr (Or.inr (Or.inr (Or.inr (Or.inr (Or.inr (Or.inl (eqI (by decide) e)))))))))
  · exact Or.inr (Or.inr (Or.inr (Or.inr (Or.inr (Or.inr (Or.inr (Or.inr (Or.inr e))))))))
theorem sw_no7 {x : Int32} (h : x.toInt < 0 ∨ 8 < x.toInt) : ¬ x = 7 := fun e => by
  subst e
  exact absurd h (by decide)
theorem sw_noIn {x : Int32} (h : x.toInt < 0 ∨ 8 < x.toInt) : ¬ Iv x.toInt64 0 8 := fun e => by
  have := toI e (m := 0) (n := 8) (by decide) (by decide)
  omega
theorem st_in5 {x : Int32} (h : Iv x.toInt64 12 16) : vp_in (x - 12) 5 := by
  have h1 := toI h (m := 12) (n := 16) (by decide) (by decide)
  rcases (show x.toInt = 12 ∨ x.toInt = 13 ∨ x.toInt = 14 ∨ x.toInt = 15 ∨ x.toInt = 16 by omega) with e | e | e | e | e
  · rw [eqI (k := 12) (by decide) e]; exact in_c rfl
  · rw [eqI (k := 13) (by decide) e]; exact in_c rfl
  · rw [eqI (k := 14) (by decide) e]; exact in_c rfl
  · rw [eqI (k := 15) (by decide) e]; exact in_c rfl
  · rw [eqI (k := 16) (by decide) e]; exact in_c rfl
theorem st_in8 {x : Int32} (h : Iv x.toInt64 12 16) : vp_in (x - 10) 8 := by
  have h1 := toI h (m := 12) (n := 16) (by decide) (by decide)
  rcases (show x.toInt = 12 ∨ x.toInt = 13 ∨ x.toInt = 14 ∨ x.toInt = 15 ∨ x.toInt = 16 by omega) with e | e | e | e | e
  · rw [eqI (k := 12) (by decide) e]; exact in_c rfl
  · rw [eqI (k := 13) (by decide) e]; exact in_c rfl
  · rw [eqI (k := 14) (by decide) e]; exact in_c rfl
  · rw [eqI (k := 15) (by decide) e]; exact in_c rfl
  · rw [eqI (k := 16) (by decide) e]; exact in_c rfl
theorem st_no7 {x : Int32} (h : Iv x.toInt64 12 16) : ¬ x = 7 := fun e => by
  subst e
  have := toI h (m := 12) (n := 16) (by decide) (by decide)
  exact absurd this.1 (by decide)
theorem in00 {x : Int32} : Iv x.toInt64 0 0 ↔ x = 0 := by
  constructor
  · intro h
    have h1 := toI h (m := 0) (n := 0) (by decide) (by decide)
    exact eqI (n := 0) (by decide) (by omega)
  · rintro rfl
    decide
theorem dX3_append_0 : decode cX3_append 0 = .ok (.aload_n 0, 1) := by decide +kernel
theorem dX3_append_1 : decode cX3_append 1 = .ok (.getfield 11, 3) := by decide +kernel
theorem dX3_append_4 : decode cX3_append 4 = .ok (.aload_n 0, 1) := by decide +kernel
theorem dX3_append_5 : decode cX3_append 5 = .ok (.getfield 22, 3) := by decide +kernel
theorem dX3_append_8 : decode cX3_append 8 = .ok (.iload_n 1, 1) := by decide +kernel
theorem dX3_append_9 : decode cX3_append 9 = .ok (.bastore, 1) := by decide +kernel
theorem dX3_append_10 : decode cX3_append 10 = .ok (.aload_n 0, 1) := by decide +kernel
theorem dX3_append_11 : decode cX3_append 11 = .ok (.dup, 1) := by decide +kernel
theorem dX3_append_12 : decode cX3_append 12 = .ok (.getfield 22, 3) := by decide +kernel
theorem dX3_append_15 : decode cX3_append 15 = .ok (.iconst 1, 1) := by decide +kernel
theorem dX3_append_16 : decode cX3_append 16 = .ok (.iadd, 1) := by decide +kernel
theorem dX3_append_17 : decode cX3_append 17 = .ok (.putfield 22, 3) := by decide +kernel
theorem dX3_append_20 : decode cX3_append 20 = .ok (.return_, 1) := by decide +kernel
theorem dX3_fail_0 : decode cX3_fail 0 = .ok (.aload_n 0, 1) := by decide +kernel
theorem dX3_fail_1 : decode cX3_fail 1 = .ok (.getfield 30, 3) := by decide +kernel
theorem dX3_fail_4 : decode cX3_fail 4 = .ok (.iconst (-1), 1) := by decide +kernel
theorem dX3_fail_5 : decode cX3_fail 5 = .ok (.if_icmp .ne 11, 3) := by decide +kernel
theorem dX3_fail_8 : decode cX3_fail 8 = .ok (.aload_n 0, 1) := by decide +kernel
theorem dX3_fail_9 : decode cX3_fail 9 = .ok (.aload_n 0, 1) := by decide +kernel
theorem dX3_fail_10 : decode cX3_fail 10 = .ok (.getfield 121, 3) := by decide +kernel
theorem dX3_fail_13 : decode cX3_fail 13 = .ok (.putfield 30, 3) := by decide +kernel
theorem dX3_fail_16 : decode cX3_fail 16 = .ok (.return_, 1) := by decide +kernel
theorem dX3_isWord_0 : decode cX3_isWord 0 = .ok (.aload_n 0, 1) := by decide +kernel
theorem dX3_isWord_1 : decode cX3_isWord 1 = .ok (.getfield 42, 3) := by decide +kernel
theorem dX3_isWord_4 : decode cX3_isWord 4 = .ok (.iconst 1, 1) := by decide +kernel
theorem dX3_isWord_5 : decode cX3_isWord 5 = .ok (.if_icmp .ne 19, 3) := by decide +kernel
theorem dX3_isWord_24 : decode cX3_isWord 24 = .ok (.iconst 0, 1) := by decide +kernel
theorem dX3_isWord_25 : decode cX3_isWord 25 = .ok (.ireturn, 1) := by decide +kernel
theorem dX3_readFrom_0 : decode cX3_readFrom 0 = .ok (.aload_n 0, 1) := by decide +kernel
theorem dX3_readFrom_1 : decode cX3_readFrom 1 = .ok (.getfield 18, 3) := by decide +kernel
theorem dX3_readFrom_4 : decode cX3_readFrom 4 = .ok (.aload_n 1, 1) := by decide +kernel
theorem dX3_readFrom_5 : decode cX3_readFrom 5 = .ok (.invokevirtual 26, 3) := by decide +kernel
theorem dX3_readFrom_8 : decode cX3_readFrom 8 = .ok (.aload_n 0, 1) := by decide +kernel
theorem dX3_readFrom_9 : decode cX3_readFrom 9 = .ok (.iconst (-1), 1) := by decide +kernel
theorem dX3_readFrom_10 : decode cX3_readFrom 10 = .ok (.putfield 30, 3) := by decide +kernel
theorem dX3_readFrom_13 : decode cX3_readFrom 13 = .ok (.aload_n 0, 1) := by decide +kernel
theorem dX3_readFrom_14 : decode cX3_readFrom 14 = .ok (.iconst 0, 1) := by decide +kernel
theorem dX3_readFrom_15 : decode cX3_readFrom 15 = .ok (.putfield 33, 3) := by decide +kernel
theorem dX3_readFrom_18 : decode cX3_readFrom 18 = .ok (.aload_n 0, 1) := by decide +kernel
theorem dX3_readFrom_19 : decode cX3_readFrom 19 = .ok (.invokevirtual 36, 3) := by decide +kernel
theorem dX3_readFrom_22 : decode cX3_readFrom 22 = .ok (.iconst 1, 1) := by decide +kernel
theorem dX3_readFrom_23 : decode cX3_readFrom 23 = .ok (.istore_n 2, 1) := by decide +kernel
theorem dX3_readFrom_24 : decode cX3_readFrom 24 = .ok (.iload_n 2, 1) := by decide +kernel
theorem dX3_readFrom_25 : decode cX3_readFrom 25 = .ok (.sipush 250, 3) := by decide +kernel
theorem dX3_readFrom_28 : decode cX3_readFrom 28 = .ok (.if_icmp .gt 48, 3) := by decide +kernel
theorem dX3_readFrom_31 : decode cX3_readFrom 31 = .ok (.aload_n 0, 1) := by decide +kernel
theorem dX3_readFrom_32 : decode cX3_readFrom 32 = .ok (.invokevirtual 39, 3) := by decide +kernel
theorem dX3_readFrom_35 : decode cX3_readFrom 35 = .ok (.aload_n 0, 1) := by decide +kernel
theorem dX3_readFrom_36 : decode cX3_readFrom 36 = .ok (.getfield 30, 3) := by decide +kernel
theorem dX3_readFrom_39 : decode cX3_readFrom 39 = .ok (.iconst (-1), 1) := by decide +kernel
theorem dX3_readFrom_40 : decode cX3_readFrom 40 = .ok (.if_icmp .ne 10, 3) := by decide +kernel
theorem dX3_readFrom_50 : decode cX3_readFrom 50 = .ok (.iload_n 2, 1) := by decide +kernel
theorem dX3_readFrom_51 : decode cX3_readFrom 51 = .ok (.ireturn, 1) := by decide +kernel
theorem dX3_readStatement_0 : decode cX3_readStatement 0 = .ok (.aload_n 0, 1) := by decide +kernel
theorem dX3_readStatement_1 : decode cX3_readStatement 1 = .ok (.ldc 48, 2) := by decide +kernel
theorem dX3_readStatement_3 : decode cX3_readStatement 3 = .ok (.invokevirtual 50, 3) := by decide +kernel
theorem dX3_readStatement_6 : decode cX3_readStatement 6 = .ok (.ifCond .eq 10, 3) := by decide +kernel
theorem dX3_readStatement_16 : decode cX3_readStatement 16 = .ok (.aload_n 0, 1) := by decide +kernel
theorem dX3_readStatement_17 : decode cX3_readStatement 17 = .ok (.ldc 57, 2) := by decide +kernel
theorem dX3_readStatement_19 : decode cX3_readStatement 19 = .ok (.invokevirtual 50, 3) := by decide +kernel
theorem dX3_readStatement_22 : decode cX3_readStatement 22 = .ok (.ifCond .eq 10, 3) := by decide +kernel
theorem dX3_readStatement_32 : decode cX3_readStatement 32 = .ok (.aload_n 0, 1) := by decide +kernel
theorem dX3_readStatement_33 : decode cX3_readStatement 33 = .ok (.ldc 62, 2) := by decide +kernel
theorem dX3_readStatement_35 : decode cX3_readStatement 35 = .ok (.invokevirtual 50, 3) := by decide +kernel
theorem dX3_readStatement_38 : decode cX3_readStatement 38 = .ok (.ifCond .eq 10, 3) := by decide +kernel
theorem dX3_readStatement_48 : decode cX3_readStatement 48 = .ok (.aload_n 0, 1) := by decide +kernel
theorem dX3_readStatement_49 : decode cX3_readStatement 49 = .ok (.ldc 67, 2) := by decide +kernel
theorem dX3_readStatement_51 : decode cX3_readStatement 51 = .ok (.invokevirtual 50, 3) := by decide +kernel
theorem dX3_readStatement_54 : decode cX3_readStatement 54 = .ok (.ifCond .eq 10, 3) := by decide +kernel
theorem dX3_readStatement_64 : decode cX3_readStatement 64 = .ok (.aload_n 0, 1) := by decide +kernel
theorem dX3_readStatement_65 : decode cX3_readStatement 65 = .ok (.ldc 72, 2) := by decide +kernel
theorem dX3_readStatement_67 : decode cX3_readStatement 67 = .ok (.invokevirtual 50, 3) := by decide +kernel
theorem dX3_readStatement_70 : decode cX3_readStatement 70 = .ok (.ifCond .eq 10, 3) := by decide +kernel
theorem dX3_readStatement_80 : decode cX3_readStatement 80 = .ok (.aload_n 0, 1) := by decide +kernel
theorem dX3_readStatement_81 : decode cX3_readStatement 81 = .ok (.invokevirtual 45, 3) := by decide +kernel
theorem dX3_readStatement_84 : decode cX3_readStatement 84 = .ok (.return_, 1) := by decide +kernel
theorem dX3_sortAt_0 : decode cX3_sortAt 0 = .ok (.iload_n 1, 1) := by decide +kernel
theorem dX3_sortAt_1 : decode cX3_sortAt 1 = .ok (.aload_n 0, 1) := by decide +kernel
theorem dX3_sortAt_2 : decode cX3_sortAt 2 = .ok (.getfield 22, 3) := by decide +kernel
theorem dX3_sortAt_5 : decode cX3_sortAt 5 = .ok (.if_icmp .lt 5, 3) := by decide +kernel
theorem dX3_sortAt_8 : decode cX3_sortAt 8 = .ok (.iconst 0, 1) := by decide +kernel
theorem dX3_sortAt_9 : decode cX3_sortAt 9 = .ok (.ireturn, 1) := by decide +kernel
theorem dX3_step_0 : decode cX3_step 0 = .ok (.aload_n 0, 1) := by decide +kernel
theorem dX3_step_1 : decode cX3_step 1 = .ok (.aload_n 0, 1) := by decide +kernel
theorem dX3_step_2 : decode cX3_step 2 = .ok (.getfield 33, 3) := by decide +kernel
theorem dX3_step_5 : decode cX3_step 5 = .ok (.putfield 121, 3) := by decide +kernel
theorem dX3_step_8 : decode cX3_step 8 = .ok (.aload_n 0, 1) := by decide +kernel
theorem dX3_step_9 : decode cX3_step 9 = .ok (.getfield 121, 3) := by decide +kernel
theorem dX3_step_12 : decode cX3_step 12 = .ok (.aload_n 0, 1) := by decide +kernel
theorem dX3_step_13 : decode cX3_step 13 = .ok (.getfield 22, 3) := by decide +kernel
theorem dX3_step_16 : decode cX3_step 16 = .ok (.if_icmp .ge 30, 3) := by decide +kernel
theorem dX3_step_46 : decode cX3_step 46 = .ok (.aload_n 0, 1) := by decide +kernel
theorem dX3_step_47 : decode cX3_step 47 = .ok (.aload_n 0, 1) := by decide +kernel
theorem dX3_step_48 : decode cX3_step 48 = .ok (.aload_n 0, 1) := by decide +kernel
theorem dX3_step_49 : decode cX3_step 49 = .ok (.getfield 121, 3) := by decide +kernel
theorem dX3_step_52 : decode cX3_step 52 = .ok (.invokevirtual 133, 3) := by decide +kernel
theorem dX3_step_55 : decode cX3_step 55 = .ok (.putfield 42, 3) := by decide +kernel
theorem dX3_step_58 : decode cX3_step 58 = .ok (.aload_n 0, 1) := by decide +kernel
theorem dX3_step_59 : decode cX3_step 59 = .ok (.aload_n 0, 1) := by decide +kernel
theorem dX3_step_60 : decode cX3_step 60 = .ok (.getfield 42, 3) := by decide +kernel
theorem dX3_step_63 : decode cX3_step 63 = .ok (.ifCond .ne 10, 3) := by decide +kernel
theorem dX3_step_66 : decode cX3_step 66 = .ok (.aload_n 0, 1) := by decide +kernel
theorem dX3_step_67 : decode cX3_step 67 = .ok (.getfield 121, 3) := by decide +kernel
theorem dX3_step_70 : decode cX3_step 70 = .ok (.goto 9, 3) := by decide +kernel
theorem dX3_step_79 : decode cX3_step 79 = .ok (.putfield 33, 3) := by decide +kernel
theorem dX3_step_82 : decode cX3_step 82 = .ok (.aload_n 0, 1) := by decide +kernel
theorem dX3_step_83 : decode cX3_step 83 = .ok (.getfield 42, 3) := by decide +kernel
theorem dX3_step_86 : decode cX3_step 86 = .ok (.iconst 1, 1) := by decide +kernel
theorem dX3_step_87 : decode cX3_step 87 = .ok (.if_icmp .eq 11, 3) := by decide +kernel
theorem dX3_step_90 : decode cX3_step 90 = .ok (.aload_n 0, 1) := by decide +kernel
theorem dX3_step_91 : decode cX3_step 91 = .ok (.getfield 42, 3) := by decide +kernel
theorem dX3_step_94 : decode cX3_step 94 = .ok (.iconst 2, 1) := by decide +kernel
theorem dX3_step_95 : decode cX3_step 95 = .ok (.if_icmp .ne 7, 3) := by decide +kernel
theorem dX3_step_102 : decode cX3_step 102 = .ok (.iconst 0, 1) := by decide +kernel
theorem dX3_step_103 : decode cX3_step 103 = .ok (.istore_n 1, 1) := by decide +kernel
theorem dX3_step_104 : decode cX3_step 104 = .ok (.iload_n 1, 1) := by decide +kernel
theorem dX3_step_105 : decode cX3_step 105 = .ok (.ifCond .eq 42, 3) := by decide +kernel
theorem dX3_step_147 : decode cX3_step 147 = .ok (.return_, 1) := by decide +kernel
theorem dX5_alter_0 : decode cX5_alter 0 = .ok (.aload_n 0, 1) := by decide +kernel
theorem dX5_alter_1 : decode cX5_alter 1 = .ok (.iload_n 1, 1) := by decide +kernel
theorem dX5_alter_2 : decode cX5_alter 2 = .ok (.iload_n 2, 1) := by decide +kernel
theorem dX5_alter_3 : decode cX5_alter 3 = .ok (.invokevirtual 210, 3) := by decide +kernel
theorem dX5_alter_6 : decode cX5_alter 6 = .ok (.ifCond .eq 15, 3) := by decide +kernel
theorem dX5_alter_21 : decode cX5_alter 21 = .ok (.aload_n 0, 1) := by decide +kernel
theorem dX5_alter_22 : decode cX5_alter 22 = .ok (.bipush (-2), 2) := by decide +kernel
theorem dX5_alter_24 : decode cX5_alter 24 = .ok (.invokevirtual 56, 3) := by decide +kernel
theorem dX5_alter_27 : decode cX5_alter 27 = .ok (.ireturn, 1) := by decide +kernel
theorem dX5_book_0 : decode cX5_book 0 = .ok (.iload_n 1, 1) := by decide +kernel
theorem dX5_book_1 : decode cX5_book 1 = .ok (.i2l, 1) := by decide +kernel
theorem dX5_book_2 : decode cX5_book 2 = .ok (.lconst 1, 1) := by decide +kernel
theorem dX5_book_3 : decode cX5_book 3 = .ok (.ldc2_w 95, 3) := by decide +kernel
theorem dX5_book_6 : decode cX5_book 6 = .ok (.invokestatic 50, 3) := by decide +kernel
theorem dX5_book_9 : decode cX5_book 9 = .ok (.ifCond .eq 17, 3) := by decide +kernel
theorem dX5_book_12 : decode cX5_book 12 = .ok (.iload_n 2, 1) := by decide +kernel
theorem dX5_book_13 : decode cX5_book 13 = .ok (.aload_n 0, 1) := by decide +kernel
theorem dX5_book_14 : decode cX5_book 14 = .ok (.getfield 10, 3) := by decide +kernel
theorem dX5_book_17 : decode cX5_book 17 = .ok (.getfield 127, 3) := by decide +kernel
theorem dX5_book_20 : decode cX5_book 20 = .ok (.invokestatic 131, 3) := by decide +kernel
theorem dX5_book_23 : decode cX5_book 23 = .ok (.ifCond .ne 10, 3) := by decide +kernel
theorem dX5_book_26 : decode cX5_book 26 = .ok (.aload_n 0, 1) := by decide +kernel
theorem dX5_book_27 : decode cX5_book 27 = .ok (.bipush (-2), 2) := by decide +kernel
theorem dX5_book_29 : decode cX5_book 29 = .ok (.invokevirtual 56, 3) := by decide +kernel
theorem dX5_book_32 : decode cX5_book 32 = .ok (.ireturn, 1) := by decide +kernel
theorem dX5_book_33 : decode cX5_book 33 = .ok (.aload_n 0, 1) := by decide +kernel
theorem dX5_book_34 : decode cX5_book 34 = .ok (.getfield 10, 3) := by decide +kernel
theorem dX5_book_37 : decode cX5_book 37 = .ok (.getfield 127, 3) := by decide +kernel
theorem dX5_book_40 : decode cX5_book 40 = .ok (.bipush 8, 2) := by decide +kernel
theorem dX5_book_42 : decode cX5_book 42 = .ok (.if_icmp .lt 10, 3) := by decide +kernel
theorem dX5_book_52 : decode cX5_book 52 = .ok (.aload_n 0, 1) := by decide +kernel
theorem dX5_book_53 : decode cX5_book 53 = .ok (.getfield 10, 3) := by decide +kernel
theorem dX5_book_56 : decode cX5_book 56 = .ok (.iload_n 1, 1) := by decide +kernel
theorem dX5_book_57 : decode cX5_book 57 = .ok (.iload_n 2, 1) := by decide +kernel
theorem dX5_book_58 : decode cX5_book 58 = .ok (.invokevirtual 134, 3) := by decide +kernel
theorem dX5_book_61 : decode cX5_book 61 = .ok (.ireturn, 1) := by decide +kernel
theorem dX5_bookOf_0 : decode cX5_bookOf 0 = .ok (.aload_n 0, 1) := by decide +kernel
theorem dX5_bookOf_1 : decode cX5_bookOf 1 = .ok (.getfield 10, 3) := by decide +kernel
theorem dX5_bookOf_4 : decode cX5_bookOf 4 = .ok (.iload_n 1, 1) := by decide +kernel
theorem dX5_bookOf_5 : decode cX5_bookOf 5 = .ok (.invokevirtual 168, 3) := by decide +kernel
theorem dX5_bookOf_8 : decode cX5_bookOf 8 = .ok (.ifCond .ne 10, 3) := by decide +kernel
theorem dX5_bookOf_11 : decode cX5_bookOf 11 = .ok (.aload_n 0, 1) := by decide +kernel
theorem dX5_bookOf_12 : decode cX5_bookOf 12 = .ok (.bipush (-2), 2) := by decide +kernel
theorem dX5_bookOf_14 : decode cX5_bookOf 14 = .ok (.invokevirtual 56, 3) := by decide +kernel
theorem dX5_bookOf_17 : decode cX5_bookOf 17 = .ok (.ireturn, 1) := by decide +kernel
theorem dX5_copy_0 : decode cX5_copy 0 = .ok (.aload_n 0, 1) := by decide +kernel
theorem dX5_copy_1 : decode cX5_copy 1 = .ok (.iload_n 1, 1) := by decide +kernel
theorem dX5_copy_2 : decode cX5_copy 2 = .ok (.iload_n 2, 1) := by decide +kernel
theorem dX5_copy_3 : decode cX5_copy 3 = .ok (.invokevirtual 74, 3) := by decide +kernel
theorem dX5_copy_6 : decode cX5_copy 6 = .ok (.istore 6, 2) := by decide +kernel
theorem dX5_copy_8 : decode cX5_copy 8 = .ok (.iload 6, 2) := by decide +kernel
theorem dX5_copy_10 : decode cX5_copy 10 = .ok (.ifCond .ne 30, 3) := by decide +kernel
theorem dX5_copy_40 : decode cX5_copy 40 = .ok (.iload 6, 2) := by decide +kernel
theorem dX5_copy_42 : decode cX5_copy 42 = .ok (.ifCond .eq 10, 3) := by decide +kernel
theorem dX5_copy_45 : decode cX5_copy 45 = .ok (.aload_n 0, 1) := by decide +kernel
theorem dX5_copy_46 : decode cX5_copy 46 = .ok (.iload 6, 2) := by decide +kernel
theorem dX5_copy_48 : decode cX5_copy 48 = .ok (.invokevirtual 56, 3) := by decide +kernel
theorem dX5_copy_51 : decode cX5_copy 51 = .ok (.ireturn, 1) := by decide +kernel
theorem dX5_element_0 : decode cX5_element 0 = .ok (.aload_n 0, 1) := by decide +kernel
theorem dX5_element_1 : decode cX5_element 1 = .ok (.iload_n 1, 1) := by decide +kernel
theorem dX5_element_2 : decode cX5_element 2 = .ok (.invokevirtual 64, 3) := by decide +kernel
theorem dX5_element_5 : decode cX5_element 5 = .ok (.ifCond .ne 24, 3) := by decide +kernel
theorem dX5_element_29 : decode cX5_element 29 = .ok (.lconst 0, 1) := by decide +kernel
theorem dX5_element_30 : decode cX5_element 30 = .ok (.lreturn, 1) := by decide +kernel
theorem dX5_feed_0 : decode cX5_feed 0 = .ok (.iload_n 2, 1) := by decide +kernel
theorem dX5_feed_1 : decode cX5_feed 1 = .ok (.i2l, 1) := by decide +kernel
theorem dX5_feed_2 : decode cX5_feed 2 = .ok (.lconst 1, 1) := by decide +kernel
theorem dX5_feed_3 : decode cX5_feed 3 = .ok (.ldc2_w 48, 3) := by decide +kernel
theorem dX5_feed_6 : decode cX5_feed 6 = .ok (.invokestatic 50, 3) := by decide +kernel
theorem dX5_feed_9 : decode cX5_feed 9 = .ok (.ifCond .ne 10, 3) := by decide +kernel
theorem dX5_feed_12 : decode cX5_feed 12 = .ok (.aload_n 0, 1) := by decide +kernel
theorem dX5_feed_13 : decode cX5_feed 13 = .ok (.bipush (-2), 2) := by decide +kernel
theorem dX5_feed_15 : decode cX5_feed 15 = .ok (.invokevirtual 56, 3) := by decide +kernel
theorem dX5_feed_18 : decode cX5_feed 18 = .ok (.ireturn, 1) := by decide +kernel
theorem dX5_feed_19 : decode cX5_feed 19 = .ok (.aload_n 0, 1) := by decide +kernel
theorem dX5_feed_20 : decode cX5_feed 20 = .ok (.getfield 36, 3) := by decide +kernel
theorem dX5_feed_23 : decode cX5_feed 23 = .ok (.getfield 148, 3) := by decide +kernel
theorem dX5_feed_26 : decode cX5_feed 26 = .ok (.sipush 250, 3) := by decide +kernel
theorem dX5_feed_29 : decode cX5_feed 29 = .ok (.iload_n 2, 1) := by decide +kernel
theorem dX5_feed_30 : decode cX5_feed 30 = .ok (.isub, 1) := by decide +kernel
theorem dX5_feed_31 : decode cX5_feed 31 = .ok (.if_icmp .le 10, 3) := by decide +kernel
theorem dX5_feed_41 : decode cX5_feed 41 = .ok (.bipush 8, 2) := by decide +kernel
theorem dX5_feed_43 : decode cX5_feed 43 = .ok (.iload_n 2, 1) := by decide +kernel
theorem dX5_feed_44 : decode cX5_feed 44 = .ok (.iconst 1, 1) := by decide +kernel
theorem dX5_feed_45 : decode cX5_feed 45 = .ok (.isub, 1) := by decide +kernel
theorem dX5_feed_46 : decode cX5_feed 46 = .ok (.imul, 1) := by decide +kernel
theorem dX5_feed_47 : decode cX5_feed 47 = .ok (.istore_n 3, 1) := by decide +kernel
theorem dX5_feed_48 : decode cX5_feed 48 = .ok (.iload_n 3, 1) := by decide +kernel
theorem dX5_feed_49 : decode cX5_feed 49 = .ok (.ifCond .lt 20, 3) := by decide +kernel
theorem dX5_feed_52 : decode cX5_feed 52 = .ok (.aload_n 0, 1) := by decide +kernel
theorem dX5_feed_53 : decode cX5_feed 53 = .ok (.getfield 36, 3) := by decide +kernel
theorem dX5_feed_56 : decode cX5_feed 56 = .ok (.iload_n 1, 1) := by decide +kernel
theorem dX5_feed_57 : decode cX5_feed 57 = .ok (.iload_n 3, 1) := by decide +kernel
theorem dX5_feed_58 : decode cX5_feed 58 = .ok (.ishr, 1) := by decide +kernel
theorem dX5_feed_59 : decode cX5_feed 59 = .ok (.i2b, 1) := by decide +kernel
theorem dX5_feed_60 : decode cX5_feed 60 = .ok (.invokevirtual 150, 3) := by decide +kernel
theorem dX5_feed_63 : decode cX5_feed 63 = .ok (.iinc 3 (-8), 3) := by decide +kernel
theorem dX5_feed_66 : decode cX5_feed 66 = .ok (.goto (-18), 3) := by decide +kernel
theorem dX5_feed_69 : decode cX5_feed 69 = .ok (.aload_n 0, 1) := by decide +kernel
theorem dX5_feed_70 : decode cX5_feed 70 = .ok (.getfield 36, 3) := by decide +kernel
theorem dX5_feed_73 : decode cX5_feed 73 = .ok (.getfield 148, 3) := by decide +kernel
theorem dX5_feed_76 : decode cX5_feed 76 = .ok (.ireturn, 1) := by decide +kernel
theorem dX5_ground_0 : decode cX5_ground 0 = .ok (.aload_n 0, 1) := by decide +kernel
theorem dX5_ground_1 : decode cX5_ground 1 = .ok (.iload_n 1, 1) := by decide +kernel
theorem dX5_ground_2 : decode cX5_ground 2 = .ok (.iload_n 2, 1) := by decide +kernel
theorem dX5_ground_3 : decode cX5_ground 3 = .ok (.invokevirtual 210, 3) := by decide +kernel
theorem dX5_ground_6 : decode cX5_ground 6 = .ok (.ifCond .eq 15, 3) := by decide +kernel
theorem dX5_ground_21 : decode cX5_ground 21 = .ok (.aload_n 0, 1) := by decide +kernel
theorem dX5_ground_22 : decode cX5_ground 22 = .ok (.bipush (-2), 2) := by decide +kernel
theorem dX5_ground_24 : decode cX5_ground 24 = .ok (.invokevirtual 56, 3) := by decide +kernel
theorem dX5_ground_27 : decode cX5_ground 27 = .ok (.ireturn, 1) := by decide +kernel
theorem dX5_holds_0 : decode cX5_holds 0 = .ok (.iload_n 1, 1) := by decide +kernel
theorem dX5_holds_1 : decode cX5_holds 1 = .ok (.invokestatic 44, 3) := by decide +kernel
theorem dX5_holds_4 : decode cX5_holds 4 = .ok (.ifCond .eq 15, 3) := by decide +kernel
theorem dX5_holds_7 : decode cX5_holds 7 = .ok (.aload_n 0, 1) := by decide +kernel
theorem dX5_holds_8 : decode cX5_holds 8 = .ok (.getfield 29, 3) := by decide +kernel
theorem dX5_holds_11 : decode cX5_holds 11 = .ok (.getfield 90, 3) := by decide +kernel
theorem dX5_holds_14 : decode cX5_holds 14 = .ok (.iload_n 1, 1) := by decide +kernel
theorem dX5_holds_15 : decode cX5_holds 15 = .ok (.iaload, 1) := by decide +kernel
theorem dX5_holds_16 : decode cX5_holds 16 = .ok (.goto 4, 3) := by decide +kernel
theorem dX5_holds_19 : decode cX5_holds 19 = .ok (.iconst (-1), 1) := by decide +kernel
theorem dX5_holds_20 : decode cX5_holds 20 = .ok (.ireturn, 1) := by decide +kernel
theorem dX5_known_0 : decode cX5_known 0 = .ok (.aload_n 0, 1) := by decide +kernel
theorem dX5_known_1 : decode cX5_known 1 = .ok (.iload_n 1, 1) := by decide +kernel
theorem dX5_known_2 : decode cX5_known 2 = .ok (.iload_n 2, 1) := by decide +kernel
theorem dX5_known_3 : decode cX5_known 3 = .ok (.invokevirtual 210, 3) := by decide +kernel
theorem dX5_known_6 : decode cX5_known 6 = .ok (.ifCond .eq 15, 3) := by decide +kernel
theorem dX5_known_21 : decode cX5_known 21 = .ok (.aload_n 0, 1) := by decide +kernel
theorem dX5_known_22 : decode cX5_known 22 = .ok (.bipush (-2), 2) := by decide +kernel
theorem dX5_known_24 : decode cX5_known 24 = .ok (.invokevirtual 56, 3) := by decide +kernel
theorem dX5_known_27 : decode cX5_known 27 = .ok (.ireturn, 1) := by decide +kernel
theorem dX5_one_0 : decode cX5_one 0 = .ok (.iload_n 1, 1) := by decide +kernel
theorem dX5_one_1 : decode cX5_one 1 = .ok (.i2l, 1) := by decide +kernel
theorem dX5_one_2 : decode cX5_one 2 = .ok (.iload_n 2, 1) := by decide +kernel
theorem dX5_one_3 : decode cX5_one 3 = .ok (.i2l, 1) := by decide +kernel
theorem dX5_one_4 : decode cX5_one 4 = .ok (.iload_n 3, 1) := by decide +kernel
theorem dX5_one_5 : decode cX5_one 5 = .ok (.i2l, 1) := by decide +kernel
theorem dX5_one_6 : decode cX5_one 6 = .ok (.iload 4, 2) := by decide +kernel
theorem dX5_one_8 : decode cX5_one 8 = .ok (.i2l, 1) := by decide +kernel
theorem dX5_one_9 : decode cX5_one 9 = .ok (.invokestatic 137, 3) := by decide +kernel
theorem dX5_one_12 : decode cX5_one 12 = .ok (.ifCond .ne 10, 3) := by decide +kernel
theorem dX5_one_15 : decode cX5_one 15 = .ok (.aload_n 0, 1) := by decide +kernel
theorem dX5_one_16 : decode cX5_one 16 = .ok (.bipush (-2), 2) := by decide +kernel
theorem dX5_one_18 : decode cX5_one 18 = .ok (.invokevirtual 56, 3) := by decide +kernel
theorem dX5_one_21 : decode cX5_one 21 = .ok (.ireturn, 1) := by decide +kernel
theorem dX5_one_22 : decode cX5_one 22 = .ok (.aload_n 0, 1) := by decide +kernel
theorem dX5_one_23 : decode cX5_one 23 = .ok (.getfield 10, 3) := by decide +kernel
theorem dX5_one_26 : decode cX5_one 26 = .ok (.getfield 141, 3) := by decide +kernel
theorem dX5_one_29 : decode cX5_one 29 = .ok (.bipush 8, 2) := by decide +kernel
theorem dX5_one_31 : decode cX5_one 31 = .ok (.if_icmp .lt 10, 3) := by decide +kernel
theorem dX5_one_41 : decode cX5_one 41 = .ok (.aload_n 0, 1) := by decide +kernel
theorem dX5_one_42 : decode cX5_one 42 = .ok (.getfield 10, 3) := by decide +kernel
theorem dX5_one_45 : decode cX5_one 45 = .ok (.iload_n 1, 1) := by decide +kernel
theorem dX5_one_46 : decode cX5_one 46 = .ok (.iload_n 2, 1) := by decide +kernel
theorem dX5_one_47 : decode cX5_one 47 = .ok (.iload_n 3, 1) := by decide +kernel
theorem dX5_one_48 : decode cX5_one 48 = .ok (.iload 4, 2) := by decide +kernel
theorem dX5_one_50 : decode cX5_one 50 = .ok (.invokevirtual 144, 3) := by decide +kernel
theorem dX5_one_53 : decode cX5_one 53 = .ok (.ireturn, 1) := by decide +kernel
theorem dX5_oneOf_0 : decode cX5_oneOf 0 = .ok (.aload_n 0, 1) := by decide +kernel
theorem dX5_oneOf_1 : decode cX5_oneOf 1 = .ok (.getfield 10, 3) := by decide +kernel
theorem dX5_oneOf_4 : decode cX5_oneOf 4 = .ok (.iload_n 1, 1) := by decide +kernel
theorem dX5_oneOf_5 : decode cX5_oneOf 5 = .ok (.invokevirtual 192, 3) := by decide +kernel
theorem dX5_oneOf_8 : decode cX5_oneOf 8 = .ok (.ifCond .ne 10, 3) := by decide +kernel
theorem dX5_oneOf_11 : decode cX5_oneOf 11 = .ok (.aload_n 0, 1) := by decide +kernel
theorem dX5_oneOf_12 : decode cX5_oneOf 12 = .ok (.bipush (-2), 2) := by decide +kernel
theorem dX5_oneOf_14 : decode cX5_oneOf 14 = .ok (.invokevirtual 56, 3) := by decide +kernel
theorem dX5_oneOf_17 : decode cX5_oneOf 17 = .ok (.ireturn, 1) := by decide +kernel
theorem dX5_ones_0 : decode cX5_ones 0 = .ok (.aload_n 0, 1) := by decide +kernel
theorem dX5_ones_1 : decode cX5_ones 1 = .ok (.iload_n 1, 1) := by decide +kernel
theorem dX5_ones_2 : decode cX5_ones 2 = .ok (.invokevirtual 64, 3) := by decide +kernel
theorem dX5_ones_5 : decode cX5_ones 5 = .ok (.istore_n 3, 1) := by decide +kernel
theorem dX5_ones_6 : decode cX5_ones 6 = .ok (.iload_n 3, 1) := by decide +kernel
theorem dX5_ones_7 : decode cX5_ones 7 = .ok (.ifCond .ne 31, 3) := by decide +kernel
theorem dX5_ones_38 : decode cX5_ones 38 = .ok (.iload_n 3, 1) := by decide +kernel
theorem dX5_ones_39 : decode cX5_ones 39 = .ok (.ifCond .eq 9, 3) := by decide +kernel
theorem dX5_ones_42 : decode cX5_ones 42 = .ok (.aload_n 0, 1) := by decide +kernel
theorem dX5_ones_43 : decode cX5_ones 43 = .ok (.iload_n 3, 1) := by decide +kernel
theorem dX5_ones_44 : decode cX5_ones 44 = .ok (.invokevirtual 56, 3) := by decide +kernel
theorem dX5_ones_47 : decode cX5_ones 47 = .ok (.ireturn, 1) := by decide +kernel
theorem dX5_rule_0 : decode cX5_rule 0 = .ok (.iload_n 1, 1) := by decide +kernel
theorem dX5_rule_1 : decode cX5_rule 1 = .ok (.invokestatic 44, 3) := by decide +kernel
theorem dX5_rule_4 : decode cX5_rule 4 = .ok (.ifCond .eq 27, 3) := by decide +kernel
theorem dX5_rule_7 : decode cX5_rule 7 = .ok (.iload_n 2, 1) := by decide +kernel
theorem dX5_rule_8 : decode cX5_rule 8 = .ok (.i2l, 1) := by decide +kernel
theorem dX5_rule_9 : decode cX5_rule 9 = .ok (.lconst 1, 1) := by decide +kernel
theorem dX5_rule_10 : decode cX5_rule 10 = .ok (.ldc2_w 93, 3) := by decide +kernel
theorem dX5_rule_13 : decode cX5_rule 13 = .ok (.invokestatic 50, 3) := by decide +kernel
theorem dX5_rule_16 : decode cX5_rule 16 = .ok (.ifCond .eq 15, 3) := by decide +kernel
theorem dX5_rule_19 : decode cX5_rule 19 = .ok (.iload_n 3, 1) := by decide +kernel
theorem dX5_rule_20 : decode cX5_rule 20 = .ok (.i2l, 1) := by decide +kernel
theorem dX5_rule_21 : decode cX5_rule 21 = .ok (.lconst 0, 1) := by decide +kernel
theorem dX5_rule_22 : decode cX5_rule 22 = .ok (.ldc2_w 95, 3) := by decide +kernel
theorem dX5_rule_25 : decode cX5_rule 25 = .ok (.invokestatic 50, 3) := by decide +kernel
theorem dX5_rule_28 : decode cX5_rule 28 = .ok (.ifCond .ne 10, 3) := by decide +kernel
theorem dX5_rule_31 : decode cX5_rule 31 = .ok (.aload_n 0, 1) := by decide +kernel
theorem dX5_rule_32 : decode cX5_rule 32 = .ok (.bipush (-2), 2) := by decide +kernel
theorem dX5_rule_34 : decode cX5_rule 34 = .ok (.invokevirtual 56, 3) := by decide +kernel
theorem dX5_rule_37 : decode cX5_rule 37 = .ok (.ireturn, 1) := by decide +kernel
theorem dX5_rule_38 : decode cX5_rule 38 = .ok (.aload_n 0, 1) := by decide +kernel
theorem dX5_rule_39 : decode cX5_rule 39 = .ok (.getfield 29, 3) := by decide +kernel
theorem dX5_rule_42 : decode cX5_rule 42 = .ok (.iload_n 1, 1) := by decide +kernel
theorem dX5_rule_43 : decode cX5_rule 43 = .ok (.iload_n 2, 1) := by decide +kernel
theorem dX5_rule_44 : decode cX5_rule 44 = .ok (.iload_n 3, 1) := by decide +kernel
theorem dX5_rule_45 : decode cX5_rule 45 = .ok (.invokevirtual 97, 3) := by decide +kernel
theorem dX5_rule_48 : decode cX5_rule 48 = .ok (.iconst 1, 1) := by decide +kernel
theorem dX5_rule_49 : decode cX5_rule 49 = .ok (.ireturn, 1) := by decide +kernel
theorem dX5_says_0 : decode cX5_says 0 = .ok (.iload_n 2, 1) := by decide +kernel
theorem dX5_says_1 : decode cX5_says 1 = .ok (.i2l, 1) := by decide +kernel
theorem dX5_says_2 : decode cX5_says 2 = .ok (.lconst 0, 1) := by decide +kernel
theorem dX5_says_3 : decode cX5_says 3 = .ok (.ldc2_w 93, 3) := by decide +kernel
theorem dX5_says_6 : decode cX5_says 6 = .ok (.invokestatic 50, 3) := by decide +kernel
theorem dX5_says_9 : decode cX5_says 9 = .ok (.ifCond .eq 11, 3) := by decide +kernel
theorem dX5_says_12 : decode cX5_says 12 = .ok (.aload_n 0, 1) := by decide +kernel
theorem dX5_says_13 : decode cX5_says 13 = .ok (.iload_n 1, 1) := by decide +kernel
theorem dX5_says_14 : decode cX5_says 14 = .ok (.invokevirtual 100, 3) := by decide +kernel
theorem dX5_says_17 : decode cX5_says 17 = .ok (.goto 5, 3) := by decide +kernel
theorem dX5_says_20 : decode cX5_says 20 = .ok (.bipush (-2), 2) := by decide +kernel
theorem dX5_says_22 : decode cX5_says 22 = .ok (.istore_n 3, 1) := by decide +kernel
theorem dX5_says_23 : decode cX5_says 23 = .ok (.iload_n 3, 1) := by decide +kernel
theorem dX5_says_24 : decode cX5_says 24 = .ok (.ifCond .ne 21, 3) := by decide +kernel
theorem dX5_says_45 : decode cX5_says 45 = .ok (.iload_n 3, 1) := by decide +kernel
theorem dX5_says_46 : decode cX5_says 46 = .ok (.ifCond .eq 9, 3) := by decide +kernel
theorem dX5_says_49 : decode cX5_says 49 = .ok (.aload_n 0, 1) := by decide +kernel
theorem dX5_says_50 : decode cX5_says 50 = .ok (.iload_n 3, 1) := by decide +kernel
theorem dX5_says_51 : decode cX5_says 51 = .ok (.invokevirtual 56, 3) := by decide +kernel
theorem dX5_says_54 : decode cX5_says 54 = .ok (.ireturn, 1) := by decide +kernel
theorem dX5_set_0 : decode cX5_set 0 = .ok (.aload_n 0, 1) := by decide +kernel
theorem dX5_set_1 : decode cX5_set 1 = .ok (.iload_n 1, 1) := by decide +kernel
theorem dX5_set_2 : decode cX5_set 2 = .ok (.invokevirtual 64, 3) := by decide +kernel
theorem dX5_set_5 : decode cX5_set 5 = .ok (.istore 5, 2) := by decide +kernel
theorem dX5_set_7 : decode cX5_set 7 = .ok (.iload 5, 2) := by decide +kernel
theorem dX5_set_9 : decode cX5_set 9 = .ok (.ifCond .ne 28, 3) := by decide +kernel
theorem dX5_set_37 : decode cX5_set 37 = .ok (.iload 5, 2) := by decide +kernel
theorem dX5_set_39 : decode cX5_set 39 = .ok (.ifCond .eq 10, 3) := by decide +kernel
theorem dX5_set_42 : decode cX5_set 42 = .ok (.aload_n 0, 1) := by decide +kernel
theorem dX5_set_43 : decode cX5_set 43 = .ok (.iload 5, 2) := by decide +kernel
theorem dX5_set_45 : decode cX5_set 45 = .ok (.invokevirtual 56, 3) := by decide +kernel
theorem dX5_set_48 : decode cX5_set 48 = .ok (.ireturn, 1) := by decide +kernel
theorem dX5_town_0 : decode cX5_town 0 = .ok (.aload_n 0, 1) := by decide +kernel
theorem dX5_town_1 : decode cX5_town 1 = .ok (.getfield 36, 3) := by decide +kernel
theorem dX5_town_4 : decode cX5_town 4 = .ok (.aload_n 0, 1) := by decide +kernel
theorem dX5_town_5 : decode cX5_town 5 = .ok (.getfield 10, 3) := by decide +kernel
theorem dX5_town_8 : decode cX5_town 8 = .ok (.invokevirtual 154, 3) := by decide +kernel
theorem dX5_town_11 : decode cX5_town 11 = .ok (.istore_n 1, 1) := by decide +kernel
theorem dX5_town_12 : decode cX5_town 12 = .ok (.aload_n 0, 1) := by decide +kernel
theorem dX5_town_13 : decode cX5_town 13 = .ok (.getfield 36, 3) := by decide +kernel
theorem dX5_town_16 : decode cX5_town 16 = .ok (.iconst 0, 1) := by decide +kernel
theorem dX5_town_17 : decode cX5_town 17 = .ok (.putfield 148, 3) := by decide +kernel
theorem dX5_town_20 : decode cX5_town 20 = .ok (.aload_n 0, 1) := by decide +kernel
theorem dX5_town_21 : decode cX5_town 21 = .ok (.getfield 36, 3) := by decide +kernel
theorem dX5_town_24 : decode cX5_town 24 = .ok (.getfield 158, 3) := by decide +kernel
theorem dX5_town_27 : decode cX5_town 27 = .ok (.iconst (-1), 1) := by decide +kernel
theorem dX5_town_28 : decode cX5_town 28 = .ok (.if_icmp .eq 21, 3) := by decide +kernel
theorem dX5_town_31 : decode cX5_town 31 = .ok (.aload_n 0, 1) := by decide +kernel
theorem dX5_town_32 : decode cX5_town 32 = .ok (.bipush (-2), 2) := by decide +kernel
theorem dX5_town_34 : decode cX5_town 34 = .ok (.invokevirtual 56, 3) := by decide +kernel
theorem dX5_town_37 : decode cX5_town 37 = .ok (.pop, 1) := by decide +kernel
theorem dX5_town_38 : decode cX5_town 38 = .ok (.bipush (-20), 2) := by decide +kernel
theorem dX5_town_40 : decode cX5_town 40 = .ok (.aload_n 0, 1) := by decide +kernel
theorem dX5_town_41 : decode cX5_town 41 = .ok (.getfield 36, 3) := by decide +kernel
theorem dX5_town_44 : decode cX5_town 44 = .ok (.getfield 158, 3) := by decide +kernel
theorem dX5_town_47 : decode cX5_town 47 = .ok (.isub, 1) := by decide +kernel
theorem dX5_town_48 : decode cX5_town 48 = .ok (.ireturn, 1) := by decide +kernel
theorem dX5_wipe_0 : decode cX5_wipe 0 = .ok (.aload_n 0, 1) := by decide +kernel
theorem dX5_wipe_1 : decode cX5_wipe 1 = .ok (.getfield 36, 3) := by decide +kernel
theorem dX5_wipe_4 : decode cX5_wipe 4 = .ok (.getfield 148, 3) := by decide +kernel
theorem dX5_wipe_7 : decode cX5_wipe 7 = .ok (.istore_n 1, 1) := by decide +kernel
theorem dX5_wipe_8 : decode cX5_wipe 8 = .ok (.aload_n 0, 1) := by decide +kernel
theorem dX5_wipe_9 : decode cX5_wipe 9 = .ok (.getfield 36, 3) := by decide +kernel
theorem dX5_wipe_12 : decode cX5_wipe 12 = .ok (.iconst 0, 1) := by decide +kernel
theorem dX5_wipe_13 : decode cX5_wipe 13 = .ok (.putfield 148, 3) := by decide +kernel
theorem dX5_wipe_16 : decode cX5_wipe 16 = .ok (.iload_n 1, 1) := by decide +kernel
theorem dX5_wipe_17 : decode cX5_wipe 17 = .ok (.ireturn, 1) := by decide +kernel
theorem dX5_would_0 : decode cX5_would 0 = .ok (.aload_n 0, 1) := by decide +kernel
theorem dX5_would_1 : decode cX5_would 1 = .ok (.iload_n 1, 1) := by decide +kernel
theorem dX5_would_2 : decode cX5_would 2 = .ok (.iload_n 2, 1) := by decide +kernel
theorem dX5_would_3 : decode cX5_would 3 = .ok (.invokevirtual 224, 3) := by decide +kernel
theorem dX5_would_6 : decode cX5_would 6 = .ok (.istore_n 3, 1) := by decide +kernel
theorem dX5_would_7 : decode cX5_would 7 = .ok (.iload_n 3, 1) := by decide +kernel
theorem dX5_would_8 : decode cX5_would 8 = .ok (.ifCond .ne 15, 3) := by decide +kernel
theorem dX5_would_23 : decode cX5_would 23 = .ok (.aload_n 0, 1) := by decide +kernel
theorem dX5_would_24 : decode cX5_would 24 = .ok (.iload_n 3, 1) := by decide +kernel
theorem dX5_would_25 : decode cX5_would 25 = .ok (.invokevirtual 56, 3) := by decide +kernel
theorem dX5_would_28 : decode cX5_would 28 = .ok (.ireturn, 1) := by decide +kernel
set_option maxHeartbeats 4000000 in
set_option maxRecDepth 100000 in
theorem c_X3_sortAt (l : Launch) (G : va_G) (cy : Nat → ClassId) (qa : Nat) (qab : Nat) (v1 : Value) (qd : Nat)   : MR l yX3_sortAt cX3_sortAt 3 (some .int) 1 G cy [(qa, .inr (2, [.ref qab, .int 0, .int 0, .int 0, .int 0, v1, .ref qd]))] [.ref qa, .int 0] (vp_Si (fun r => (r = 0))) := by
  refine enR RX3 (by decide) rfl (Nat.le_of_ble_eq_true rfl) (fun p e s m below meth c ls hx hb hml hown hts hr hlocks hP hN hl => ?_)
  have hK := hN.1
  have hl : lv_has ls 3 [(0, .ref qa), (1, .int 0)] := hl
  refine lv_iload_n hx hb dX3_sortAt_0 rfl (lv_at hl 1 rfl) ?_
  refine lv_aload_n hx hb dX3_sortAt_1 rfl (lv_at hl 0 rfl) ?_
  refine va_get (D := G) (ci := 2) (v := .int 0) (C := RX3) (T := TX3) (N := 7) hx hb hts iX_X3 hown hK hP 0 rfl rfl 1 (by decide) (hts _ m_t149) (fun _ h9 => h9) rfl dX3_sortAt_2 ?_
  refine lv_icmp_lt (tgt := 10) hx hb dX3_sortAt_5 (by decide) (fun h9 => absurd h9 (by decide)) (fun _ => ?_)
  refine lv_iconst (v := 0) hx hb dX3_sortAt_8 (by decide) ?_
  exact endR hx hb hr hlocks rfl rfl dX3_sortAt_9
set_option maxHeartbeats 4000000 in
set_option maxRecDepth 100000 in
theorem c_X3_step (l : Launch) (G : va_G) (cy : Nat → ClassId) (sz : Nat) (qa : Nat) (qab : Nat) (v1 : Value) (qd : Nat)   : MW l yX3_step cX3_step 2 none 2 0 0 G cy [(qa, .inr (2, [.ref qab, .int 0, .int 0, .int 0, .int 0, v1, .ref qd]))] sz [.ref qa] (Wv G (fun u => u = [(qa, .inr (2, [.ref qab, .int 0, .int 0, .int 0, .int 0, v1, .ref qd]))])) := by
  refine enW RX3 (by decide) rfl (Nat.le_of_ble_eq_true rfl) (fun p e s m below meth c ls A hx hb hml hown hts hr hlocks hP hN hl hin hD hA hS => ?_)
  have hin : meth.name = _ := hin
  have hK := hN.1
  have hl : lv_has ls 2 [(0, .ref qa)] := hl
  refine lv_aload_n hx hb dX3_step_0 rfl (lv_at hl 0 rfl) ?_
  refine lv_aload_n hx hb dX3_step_1 rfl (lv_at hl 0 rfl) ?_
  refine va_get (D := G) (ci := 2) (v := .int 0) (C := RX3) (T := TX3) (N := 7) hx hb hts iX_X3 hown hK hP 0 rfl rfl 3 (by decide) (hts _ m_t152) (fun _ h9 => h9) rfl dX3_step_2 ?_
  refine va_put (D := G) (ci := 2) (v := .int 0) (ty := .int) (C := RX3) (T := TX3) (N := 7) hx hb hts iX_X3 tyX3 tyX3_ok nmX3 hown hK hP hD hS 0 rfl rfl 2 (by decide) (hts _ m_t151) (fun _ h9 => h9) rfl (by decide +kernel) rfl rfl (Nat.le_of_ble_eq_true rfl) dX3_step_5 (fun H locs hP hD hS => ?_)
  have hP : va_P G CL [(qa, .inr (2, [.ref qab, .int 0, .int 0, .int 0, .int 0, v1, .ref qd]))] H := hP
  have hD : va_D A [(qa, .inr (2, [.ref qab, .int 0, .int 0, .int 0, .int 0, v1, .ref qd]))] := hD
  refine lv_aload_n hx hb dX3_step_8 rfl (lv_at hl 0 rfl) ?_
  refine va_get (D := G) (ci := 2) (v := .int 0) (C := RX3) (T := TX3) (N := 7) hx hb hts iX_X3 hown hK hP 0 rfl rfl 2 (by decide) (hts _ m_t151) (fun _ h9 => h9) rfl dX3_step_9 ?_
  refine lv_aload_n hx hb dX3_step_12 rfl (lv_at hl 0 rfl) ?_
  refine va_get (D := G) (ci := 2) (v := .int 0) (C := RX3) (T := TX3) (N := 7) hx hb hts iX_X3 hown hK hP 0 rfl rfl 1 (by decide) (hts _ m_t149) (fun _ h9 => h9) rfl dX3_step_13 ?_
  refine lv_icmp_ge (tgt := 46) hx hb dX3_step_16 (by decide) (fun _ => ?_) (fun h9 => absurd (by decide) h9)
  refine lv_aload_n hx hb dX3_step_46 rfl (lv_at hl 0 rfl) ?_
  refine lv_aload_n hx hb dX3_step_47 rfl (lv_at hl 0 rfl) ?_
  refine lv_aload_n hx hb dX3_step_48 rfl (lv_at hl 0 rfl) ?_
  refine va_get (D := G) (ci := 2) (v := .int 0) (C := RX3) (T := TX3) (N := 7) hx hb hts iX_X3 hown hK hP 0 rfl rfl 2 (by decide) (hts _ m_t151) (fun _ h9 => h9) rfl dX3_step_49 ?_
  refine kRi (rV (As := [.int 0]) (rest := [.ref qa]) (b := qa) ⟨hx, hb, hml, hown, hts⟩ (c_X3_sortAt l G cy qa qab v1 qd) L_X3_133 (preRV (q := (RX3, TX3, 7)) hN hP [0] rfl 0 2 rfl rfl) rfl ⟨Nat.le_of_ble_eq_true rfl, Nat.le_of_ble_eq_true rfl⟩ hl.1 (Nat.le_of_ble_eq_true rfl) dX3_step_52 ⟨Nat.le_of_ble_eq_true rfl, Nat.le_of_ble_eq_true rfl⟩) (fun r_2 h_3 => ?_)
  subst h_3
  refine va_put (D := G) (ci := 2) (v := .int 0) (ty := .int) (C := RX3) (T := TX3) (N := 7) hx hb hts iX_X3 tyX3 tyX3_ok nmX3 hown hK hP hD hS 0 rfl rfl 4 (by decide) (hts _ m_t153) (fun _ h9 => h9) rfl (by decide +kernel) rfl rfl (Nat.le_of_ble_eq_true rfl) dX3_step_55 (fun H locs hP hD hS => ?_)
  have hP : va_P G CL [(qa, .inr (2, [.ref qab, .int 0, .int 0, .int 0, .int 0, v1, .ref qd]))] H := hP
  have hD : va_D A [(qa, .inr (2, [.ref qab, .int 0, .int 0, .int 0, .int 0, v1, .ref qd]))] := hD
  refine lv_aload_n hx hb dX3_step_58 rfl (lv_at hl 0 rfl) ?_
  refine lv_aload_n hx hb dX3_step_59 rfl (lv_at hl 0 rfl) ?_
  refine va_get (D := G) (ci := 2) (v := .int 0) (C := RX3) (T := TX3) (N := 7) hx hb hts iX_X3 hown hK hP 0 rfl rfl 4 (by decide) (hts _ m_t153) (fun _ h9 => h9) rfl dX3_step_60 ?_
  refine lv_if_ne (tgt := 73) hx hb dX3_step_63 (by decide) (fun h9 => absurd (by decide) h9) (fun _ => ?_)
  refine lv_aload_n hx hb dX3_step_66 rfl (lv_at hl 0 rfl) ?_
  refine va_get (D := G) (ci := 2) (v := .int 0) (C := RX3) (T := TX3) (N := 7) hx hb hts iX_X3 hown hK hP 0 rfl rfl 2 (by decide) (hts _ m_t151) (fun _ h9 => h9) rfl dX3_step_67 ?_
  refine lv_goto (tgt := 79) hx hb dX3_step_70 (by decide) ?_
  refine va_put (D := G) (ci := 2) (v := .int 0) (ty := .int) (C := RX3) (T := TX3) (N := 7) hx hb hts iX_X3 tyX3 tyX3_ok nmX3 hown hK hP hD hS 0 rfl rfl 3 (by decide) (hts _ m_t152) (fun _ h9 => h9) rfl (by decide +kernel) rfl rfl (Nat.le_of_ble_eq_true rfl) dX3_step_79 (fun H locs hP hD hS => ?_)
  have hP : va_P G CL [(qa, .inr (2, [.ref qab, .int 0, .int 0, .int 0, .int 0, v1, .ref qd]))] H := hP
  have hD : va_D A [(qa, .inr (2, [.ref qab, .int 0, .int 0, .int 0, .int 0, v1, .ref qd]))] := hD
  refine lv_aload_n hx hb dX3_step_82 rfl (lv_at hl 0 rfl) ?_
  refine va_get (D := G) (ci := 2) (v := .int 0) (C := RX3) (T := TX3) (N := 7) hx hb hts iX_X3 hown hK hP 0 rfl rfl 4 (by decide) (hts _ m_t153) (fun _ h9 => h9) rfl dX3_step_83 ?_
  refine lv_iconst (v := 1) hx hb dX3_step_86 (by decide) ?_
  refine lv_icmp_eq (tgt := 98) hx hb dX3_step_87 (by decide) (fun h9 => absurd h9 (by decide)) (fun _ => ?_)
  refine lv_aload_n hx hb dX3_step_90 rfl (lv_at hl 0 rfl) ?_
  refine va_get (D := G) (ci := 2) (v := .int 0) (C := RX3) (T := TX3) (N := 7) hx hb hts iX_X3 hown hK hP 0 rfl rfl 4 (by decide) (hts _ m_t153) (fun _ h9 => h9) rfl dX3_step_91 ?_
  refine lv_iconst (v := 2) hx hb dX3_step_94 (by decide) ?_
  refine lv_icmp_ne (tgt := 102) hx hb dX3_step_95 (by decide) (fun _ => ?_) (fun h9 => absurd h9 (by decide))
  refine lv_iconst (v := 0) hx hb dX3_step_102 (by decide) ?_
  refine lv_istore_n (lv' := [(1, .int 0), (0, .ref qa)]) hx hb dX3_step_103 rfl hl (by decide) rfl (fun ls hl => ?_)
  refine lv_iload_n hx hb dX3_step_104 rfl (lv_at hl 0 rfl) ?_
  refine lv_if_eq (tgt := 147) hx hb dX3_step_105 (by decide) (fun _ => ?_) (fun h9 => absurd (by decide) h9)
  exact endV (u := [(qa, .inr (2, [.ref qab, .int 0, .int 0, .int 0, .int 0, v1, .ref qd]))]) hx hb hr hlocks (hP.sub [0] rfl) (hD.sub [0] (by decide) rfl) hS rfl dX3_step_147
set_option maxHeartbeats 4000000 in
set_option maxRecDepth 100000 in
theorem c_X3_isWord (l : Launch) (G : va_G) (cy : Nat → ClassId) (qa : Nat) (qab : Nat) (v1 : Value) (qd : Nat) (qw : Nat)   : MR l yX3_isWord cX3_isWord 3 (some .boolean) 1 G cy [(qa, .inr (2, [.ref qab, .int 0, .int 0, .int 0, .int 0, v1, .ref qd]))] [.ref qa, .ref qw] (vp_Si (fun r => (r = 0))) := by
  refine enR RX3 (by decide) rfl (Nat.le_of_ble_eq_true rfl) (fun p e s m below meth c ls hx hb hml hown hts hr hlocks hP hN hl => ?_)
  have hK := hN.1
  have hl : lv_has ls 3 [(0, .ref qa), (1, .ref qw)] := hl
  refine lv_aload_n hx hb dX3_isWord_0 rfl (lv_at hl 0 rfl) ?_
  refine va_get (D := G) (ci := 2) (v := .int 0) (C := RX3) (T := TX3) (N := 7) hx hb hts iX_X3 hown hK hP 0 rfl rfl 4 (by decide) (hts _ m_t153) (fun _ h9 => h9) rfl dX3_isWord_1 ?_
  refine lv_iconst (v := 1) hx hb dX3_isWord_4 (by decide) ?_
  refine lv_icmp_ne (tgt := 24) hx hb dX3_isWord_5 (by decide) (fun _ => ?_) (fun h9 => absurd h9 (by decide))
  refine lv_iconst (v := 0) hx hb dX3_isWord_24 (by decide) ?_
  exact endR hx hb hr hlocks rfl rfl dX3_isWord_25
set_option maxHeartbeats 4000000 in
set_option maxRecDepth 100000 in
theorem c_X3_fail (l : Launch) (G : va_G) (cy : Nat → ClassId) (sz : Nat) (qa : Nat) (qab : Nat) (qd : Nat)   : MW l yX3_fail cX3_fail 1 none 1 0 0 G cy [(qa, .inr (2, [.ref qab, .int 0, .int 0, .int 0, .int 0, .int (-1), .ref qd]))] sz [.ref qa] (Wv G (fun u => u = [(qa, .inr (2, [.ref qab, .int 0, .int 0, .int 0, .int 0, .int 0, .ref qd]))])) := by
  refine enW RX3 (by decide) rfl (Nat.le_of_ble_eq_true rfl) (fun p e s m below meth c ls A hx hb hml hown hts hr hlocks hP hN hl hin hD hA hS => ?_)
  have hin : meth.name = _ := hin
  have hK := hN.1
  have hl : lv_has ls 1 [(0, .ref qa)] := hl
  refine lv_aload_n hx hb dX3_fail_0 rfl (lv_at hl 0 rfl) ?_
  refine va_get (D := G) (ci := 2) (v := .int (-1)) (C := RX3) (T := TX3) (N := 7) hx hb hts iX_X3 hown hK hP 0 rfl rfl 5 (by decide) (hts _ m_t154) (fun _ h9 => h9) rfl dX3_fail_1 ?_
  refine lv_iconst (v := (-1)) hx hb dX3_fail_4 (by decide) ?_
  refine lv_icmp_ne (tgt := 16) hx hb dX3_fail_5 (by decide) (fun h9 => absurd (by decide) h9) (fun _ => ?_)
  refine lv_aload_n hx hb dX3_fail_8 rfl (lv_at hl 0 rfl) ?_
  refine lv_aload_n hx hb dX3_fail_9 rfl (lv_at hl 0 rfl) ?_
  refine va_get (D := G) (ci := 2) (v := .int 0) (C := RX3) (T := TX3) (N := 7) hx hb hts iX_X3 hown hK hP 0 rfl rfl 2 (by decide) (hts _ m_t151) (fun _ h9 => h9) rfl dX3_fail_10 ?_
  refine va_put (D := G) (ci := 2) (v := .int 0) (ty := .int) (C := RX3) (T := TX3) (N := 7) hx hb hts iX_X3 tyX3 tyX3_ok nmX3 hown hK hP hD hS 0 rfl rfl 5 (by decide) (hts _ m_t154) (fun _ h9 => h9) rfl (by decide +kernel) rfl rfl (Nat.le_of_ble_eq_true rfl) dX3_fail_13 (fun H locs hP hD hS => ?_)
  have hP : va_P G CL [(qa, .inr (2, [.ref qab, .int 0, .int 0, .int 0, .int 0, .int 0, .ref qd]))] H := hP
  have hD : va_D A [(qa, .inr (2, [.ref qab, .int 0, .int 0, .int 0, .int 0, .int 0, .ref qd]))] := hD
  exact endV (u := [(qa, .inr (2, [.ref qab, .int 0, .int 0, .int 0, .int 0, .int 0, .ref qd]))]) hx hb hr hlocks (hP.sub [0] rfl) (hD.sub [0] (by decide) rfl) hS rfl dX3_fail_16
set_option maxHeartbeats 4000000 in
set_option maxRecDepth 100000 in
theorem c_X3_readStatement (l : Launch) (G : va_G) (cy : Nat → ClassId) (sz : Nat) (qa : Nat) (qab : Nat) (qd : Nat)   : MW l yX3_readStatement cX3_readStatement 1 none 2 0 0 G cy [(qa, .inr (2, [.ref qab, .int 0, .int 0, .int 0, .int 0, .int (-1), .ref qd]))] sz [.ref qa] (Wv G (fun u => u = [(qa, .inr (2, [.ref qab, .int 0, .int 0, .int 0, .int 0, .int 0, .ref qd]))])) := by
  refine enW RX3 (by decide) rfl (Nat.le_of_ble_eq_true rfl) (fun p e s m below meth c ls A hx hb hml hown hts hr hlocks hP hN hl hin hD hA hS => ?_)
  have hin : meth.name = _ := hin
  have hK := hN.1
  have hl : lv_has ls 1 [(0, .ref qa)] := hl
  refine lv_aload_n hx hb dX3_readStatement_0 rfl (lv_at hl 0 rfl) ?_
  obtain ⟨qs_1, hs_2⟩ := hN.2.2.2.1 (RX3, 48, "book") (List.mem_of_getElem? (i := 0) rfl)
  refine va_ldcS hx hb hown hs_2 dX3_readStatement_1 ?_
  refine kRi (rV (As := [.ref qs_1]) (rest := []) (b := qa) ⟨hx, hb, hml, hown, hts⟩ (c_X3_isWord l G cy qa qab (.int (-1)) qd qs_1) L_X3_50 (preRV (q := (RX3, TX3, 7)) hN hP [0] rfl 0 2 rfl rfl) rfl ⟨Nat.le_of_ble_eq_true rfl, Nat.le_of_ble_eq_true rfl⟩ hl.1 (Nat.le_of_ble_eq_true rfl) dX3_readStatement_3 ⟨Nat.le_of_ble_eq_true rfl, Nat.le_of_ble_eq_true rfl⟩) (fun r_3 h_4 => ?_)
  subst h_4
  refine lv_if_eq (tgt := 16) hx hb dX3_readStatement_6 (by decide) (fun _ => ?_) (fun h9 => absurd (by decide) h9)
  refine lv_aload_n hx hb dX3_readStatement_16 rfl (lv_at hl 0 rfl) ?_
  obtain ⟨qs_6, hs_7⟩ := hN.2.2.2.1 (RX3, 57, "need") (List.mem_of_getElem? (i := 2) rfl)
  refine va_ldcS hx hb hown hs_7 dX3_readStatement_17 ?_
  refine kRi (rV (As := [.ref qs_6]) (rest := []) (b := qa) ⟨hx, hb, hml, hown, hts⟩ (c_X3_isWord l G cy qa qab (.int (-1)) qd qs_6) L_X3_50 (preRV (q := (RX3, TX3, 7)) hN hP [0] rfl 0 2 rfl rfl) rfl ⟨Nat.le_of_ble_eq_true rfl, Nat.le_of_ble_eq_true rfl⟩ hl.1 (Nat.le_of_ble_eq_true rfl) dX3_readStatement_19 ⟨Nat.le_of_ble_eq_true rfl, Nat.le_of_ble_eq_true rfl⟩) (fun r_8 h_9 => ?_)
  subst h_9
  refine lv_if_eq (tgt := 32) hx hb dX3_readStatement_22 (by decide) (fun _ => ?_) (fun h9 => absurd (by decide) h9)
  refine lv_aload_n hx hb dX3_readStatement_32 rfl (lv_at hl 0 rfl) ?_
  obtain ⟨qs_11, hs_12⟩ := hN.2.2.2.1 (RX3, 62, "one") (List.mem_of_getElem? (i := 3) rfl)
  refine va_ldcS hx hb hown hs_12 dX3_readStatement_33 ?_
  refine kRi (rV (As := [.ref qs_11]) (rest := []) (b := qa) ⟨hx, hb, hml, hown, hts⟩ (c_X3_isWord l G cy qa qab (.int (-1)) qd qs_11) L_X3_50 (preRV (q := (RX3, TX3, 7)) hN hP [0] rfl 0 2 rfl rfl) rfl ⟨Nat.le_of_ble_eq_true rfl, Nat.le_of_ble_eq_true rfl⟩ hl.1 (Nat.le_of_ble_eq_true rfl) dX3_readStatement_35 ⟨Nat.le_of_ble_eq_true rfl, Nat.le_of_ble_eq_true rfl⟩) (fun r_13 h_14 => ?_)
  subst h_14
  refine lv_if_eq (tgt := 48) hx hb dX3_readStatement_38 (by decide) (fun _ => ?_) (fun h9 => absurd (by decide) h9)
  refine lv_aload_n hx hb dX3_readStatement_48 rfl (lv_at hl 0 rfl) ?_
  obtain ⟨qs_16, hs_17⟩ := hN.2.2.2.1 (RX3, 67, "knows") (List.mem_of_getElem? (i := 7) rfl)
  refine va_ldcS hx hb hown hs_17 dX3_readStatement_49 ?_
  refine kRi (rV (As := [.ref qs_16]) (rest := []) (b := qa) ⟨hx, hb, hml, hown, hts⟩ (c_X3_isWord l G cy qa qab (.int (-1)) qd qs_16) L_X3_50 (preRV (q := (RX3, TX3, 7)) hN hP [0] rfl 0 2 rfl rfl) rfl ⟨Nat.le_of_ble_eq_true rfl, Nat.le_of_ble_eq_true rfl⟩ hl.1 (Nat.le_of_ble_eq_true rfl) dX3_readStatement_51 ⟨Nat.le_of_ble_eq_true rfl, Nat.le_of_ble_eq_true rfl⟩) (fun r_18 h_19 => ?_)
  subst h_19
  refine lv_if_eq (tgt := 64) hx hb dX3_readStatement_54 (by decide) (fun _ => ?_) (fun h9 => absurd (by decide) h9)
  refine lv_aload_n hx hb dX3_readStatement_64 rfl (lv_at hl 0 rfl) ?_
  obtain ⟨qs_21, hs_22⟩ := hN.2.2.2.1 (RX3, 72, "white") (List.mem_of_getElem? (i := 8) rfl)
  refine va_ldcS hx hb hown hs_22 dX3_readStatement_65 ?_
  refine kRi (rV (As := [.ref qs_21]) (rest := []) (b := qa) ⟨hx, hb, hml, hown, hts⟩ (c_X3_isWord l G cy qa qab (.int (-1)) qd qs_21) L_X3_50 (preRV (q := (RX3, TX3, 7)) hN hP [0] rfl 0 2 rfl rfl) rfl ⟨Nat.le_of_ble_eq_true rfl, Nat.le_of_ble_eq_true rfl⟩ hl.1 (Nat.le_of_ble_eq_true rfl) dX3_readStatement_67 ⟨Nat.le_of_ble_eq_true rfl, Nat.le_of_ble_eq_true rfl⟩) (fun r_23 h_24 => ?_)
  subst h_24
  refine lv_if_eq (tgt := 80) hx hb dX3_readStatement_70 (by decide) (fun _ => ?_) (fun h9 => absurd (by decide) h9)
  refine lv_aload_n hx hb dX3_readStatement_80 rfl (lv_at hl 0 rfl) ?_
  refine kWv (wr := []) (rV (As := []) (rest := []) (b := qa) ⟨hx, hb, hml, hown, hts⟩ (c_X3_fail l G cy (s.heap).size qa qab qd) L_X3_45 (preWV (q := (RX3, TX3, 7)) hN hP hD [0] rfl (by decide) 0 2 rfl rfl) rfl ⟨Nat.le_of_ble_eq_true rfl, Nat.le_of_ble_eq_true rfl⟩ hl.1 (Nat.le_of_ble_eq_true rfl) dX3_readStatement_81 ⟨Nat.le_of_ble_eq_true rfl, Nat.le_of_ble_eq_true rfl⟩) hP hD hS hA [0] [] rfl rfl (by decide) (by decide) (fun u_28 H locs h_27 hP hD hS => ?_)
  subst h_27
  have hP : va_P G CL [(qa, .inr (2, [.ref qab, .int 0, .int 0, .int 0, .int 0, .int 0, .ref qd]))] H := hP
  have hD : va_D A [(qa, .inr (2, [.ref qab, .int 0, .int 0, .int 0, .int 0, .int 0, .ref qd]))] := hD
  exact endV (u := [(qa, .inr (2, [.ref qab, .int 0, .int 0, .int 0, .int 0, .int 0, .ref qd]))]) hx hb hr hlocks (hP.sub [0] rfl) (hD.sub [0] (by decide) rfl) hS rfl dX3_readStatement_84
set_option maxHeartbeats 4000000 in
set_option maxRecDepth 100000 in
theorem c_X3_readFrom (l : Launch) (G : va_G) (cy : Nat → ClassId) (sz : Nat) (qa : Nat) (qab : Nat) (qd : Nat) (qdw : Nat) (qdn : Nat) (qdg : Nat) (qda : Nat) (qdr : Nat) (qdm : Nat) (qdt : Nat) (qds : Nat) (qt : Nat) (qtw : Nat) (qtn : Nat) (qtg : Nat) (qta : Nat) (qtr : Nat) (qtm : Nat) (qtt : Nat) (qts : Nat)   : MW l yX3_readFrom cX3_readFrom 3 (some .int) 3 0 0 G cy [(qa, .inr (2, [.ref qab, .int 0, .int 0, .int 0, .int 0, .int 0, .ref qd])), (qd, .inr (3, [.int 0, .int 0, .int 0, .int 0, .int 1, .ref qdw, .ref qdn, .ref qdg, .ref qda, .ref qdr, .ref qdm, .ref qdt, .ref qds])), (qdw, .inl (cy 0, 8, .inl (fun _ => 0))), (qdn, .inl (cy 0, 8, .inl (fun _ => 0))), (qdg, .inl (cy 0, 8, .inl (fun _ => 0))), (qda, .inl (cy 0, 8, .inl (fun _ => 0))), (qdr, .inl (cy 0, 8, .inl (fun _ => 0))), (qdm, .inl (cy 0, 8, .inl (fun _ => 0))), (qdt, .inl (cy 0, 8, .inl (fun _ => 0))), (qds, .inl (cy 0, 64, .inl (fun _ => 0))), (qt, .inr (3, [.int 0, .int 0, .int 0, .int 0, .int 1, .ref qtw, .ref qtn, .ref qtg, .ref qta, .ref qtr, .ref qtm, .ref qtt, .ref qts])), (qtw, .inl (cy 0, 8, .inl (fun _ => 0))), (qtn, .inl (cy 0, 8, .inl (fun _ => 0))), (qtg, .inl (cy 0, 8, .inl (fun _ => 0))), (qta, .inl (cy 0, 8, .inl (fun _ => 0))), (qtr, .inl (cy 0, 8, .inl (fun _ => 0))), (qtm, .inl (cy 0, 8, .inl (fun _ => 0))), (qtt, .inl (cy 0, 8, .inl (fun _ => 0))), (qts, .inl (cy 0, 64, .inl (fun _ => 0)))] sz [.ref qa, .ref qt] (Wi G (fun r u => u = [(qa, .inr (2, [.ref qab, .int 0, .int 0, .int 0, .int 0, .int 0, .ref qd]))] ∧ ((r = 1)))) := by
  refine enW RX3 (by decide) rfl (Nat.le_of_ble_eq_true rfl) (fun p e s m below meth c ls A hx hb hml hown hts hr hlocks hP hN hl hin hD hA hS => ?_)
  have hin : meth.name = _ := hin
  have hK := hN.1
  have hl : lv_has ls 3 [(0, .ref qa), (1, .ref qt)] := hl
  refine lv_aload_n hx hb dX3_readFrom_0 rfl (lv_at hl 0 rfl) ?_
  refine va_get (D := G) (ci := 2) (v := .ref qd) (C := RX3) (T := TX3) (N := 7) hx hb hts iX_X3 hown hK hP 0 rfl rfl 6 (by decide) (hts _ m_t156) (fun _ h9 => h9) rfl dX3_readFrom_1 ?_
  refine lv_aload_n hx hb dX3_readFrom_4 rfl (lv_at hl 1 rfl) ?_
  refine kWv (wr := [(qa, .inr (2, [.ref qab, .int 0, .int 0, .int 0, .int 0, .int 0, .ref qd]))]) (rV (As := [.ref qt]) (rest := []) (b := qd) ⟨hx, hb, hml, hown, hts⟩ (c_X4_become l G cy (s.heap).size qd qdw qdn qdg qda qdr qdm qdt qds qt qtw qtn qtg qta qtr qtm qtt qts) L_X3_26 (preWV (q := (RX4, TX4, 13)) hN hP hD [1, 2, 3, 4, 5, 6, 7, 8, 9, 10, 11, 12, 13, 14, 15, 16, 17, 18] rfl (by decide) 1 3 rfl rfl) rfl ⟨Nat.le_of_ble_eq_true rfl, Nat.le_of_ble_eq_true rfl⟩ hl.1 (Nat.le_of_ble_eq_true rfl) dX3_readFrom_5 ⟨Nat.le_of_ble_eq_true rfl, Nat.le_of_ble_eq_true rfl⟩) hP hD hS hA [1, 2, 3, 4, 5, 6, 7, 8, 9, 10, 11, 12, 13, 14, 15, 16, 17, 18] [0] rfl rfl (by decide) (by decide) (fun u_3 H locs h_2 hP hD hS => ?_)
  subst h_2
  have hP : va_P G CL [(qa, .inr (2, [.ref qab, .int 0, .int 0, .int 0, .int 0, .int 0, .ref qd]))] H := hP
  have hD : va_D A [(qa, .inr (2, [.ref qab, .int 0, .int 0, .int 0, .int 0, .int 0, .ref qd]))] := hD
  refine lv_aload_n hx hb dX3_readFrom_8 rfl (lv_at hl 0 rfl) ?_
  refine lv_iconst (v := (-1)) hx hb dX3_readFrom_9 (by decide) ?_
  refine va_put (D := G) (ci := 2) (v := .int (-1)) (ty := .int) (C := RX3) (T := TX3) (N := 7) hx hb hts iX_X3 tyX3 tyX3_ok nmX3 hown hK hP hD hS 0 rfl rfl 5 (by decide) (hts _ m_t154) (fun _ h9 => h9) rfl (by decide +kernel) rfl rfl (Nat.le_of_ble_eq_true rfl) dX3_readFrom_10 (fun H locs hP hD hS => ?_)
  have hP : va_P G CL [(qa, .inr (2, [.ref qab, .int 0, .int 0, .int 0, .int 0, .int (-1), .ref qd]))] H := hP
  have hD : va_D A [(qa, .inr (2, [.ref qab, .int 0, .int 0, .int 0, .int 0, .int (-1), .ref qd]))] := hD
  refine lv_aload_n hx hb dX3_readFrom_13 rfl (lv_at hl 0 rfl) ?_
  refine lv_iconst (v := 0) hx hb dX3_readFrom_14 (by decide) ?_
  refine va_put (D := G) (ci := 2) (v := .int 0) (ty := .int) (C := RX3) (T := TX3) (N := 7) hx hb hts iX_X3 tyX3 tyX3_ok nmX3 hown hK hP hD hS 0 rfl rfl 3 (by decide) (hts _ m_t152) (fun _ h9 => h9) rfl (by decide +kernel) rfl rfl (Nat.le_of_ble_eq_true rfl) dX3_readFrom_15 (fun H locs hP hD hS => ?_)
  have hP : va_P G CL [(qa, .inr (2, [.ref qab, .int 0, .int 0, .int 0, .int 0, .int (-1), .ref qd]))] H := hP
  have hD : va_D A [(qa, .inr (2, [.ref qab, .int 0, .int 0, .int 0, .int 0, .int (-1), .ref qd]))] := hD
  refine lv_aload_n hx hb dX3_readFrom_18 rfl (lv_at hl 0 rfl) ?_
  refine kWv (wr := []) (rV (As := []) (rest := []) (b := qa) ⟨hx, hb, hml, hown, hts⟩ (c_X3_step l G cy (H).size qa qab (.int (-1)) qd) L_X3_36 (preWV (q := (RX3, TX3, 7)) hN hP hD [0] rfl (by decide) 0 2 rfl rfl) rfl ⟨Nat.le_of_ble_eq_true rfl, Nat.le_of_ble_eq_true rfl⟩ hl.1 (Nat.le_of_ble_eq_true rfl) dX3_readFrom_19 ⟨Nat.le_of_ble_eq_true rfl, Nat.le_of_ble_eq_true rfl⟩) hP hD hS hA [0] [] rfl rfl (by decide) (by decide) (fun u_6 H locs h_5 hP hD hS => ?_)
  subst h_5
  have hP : va_P G CL [(qa, .inr (2, [.ref qab, .int 0, .int 0, .int 0, .int 0, .int (-1), .ref qd]))] H := hP
  have hD : va_D A [(qa, .inr (2, [.ref qab, .int 0, .int 0, .int 0, .int 0, .int (-1), .ref qd]))] := hD
  refine lv_iconst (v := 1) hx hb dX3_readFrom_22 (by decide) ?_
  refine lv_istore_n (lv' := [(2, .int 1), (0, .ref qa), (1, .ref qt)]) hx hb dX3_readFrom_23 rfl hl (by decide) rfl (fun ls hl => ?_)
  refine lv_iload_n hx hb dX3_readFrom_24 rfl (lv_at hl 0 rfl) ?_
  refine lv_sipush (v := 250) hx hb dX3_readFrom_25 (by decide) ?_
  refine lv_icmp_gt (tgt := 76) hx hb dX3_readFrom_28 (by decide) (fun h9 => absurd h9 (by decide)) (fun _ => ?_)
  refine lv_aload_n hx hb dX3_readFrom_31 rfl (lv_at hl 1 rfl) ?_
  refine kWv (wr := []) (rV (As := []) (rest := []) (b := qa) ⟨hx, hb, hml, hown, hts⟩ (c_X3_readStatement l G cy (H).size qa qab qd) L_X3_39 (preWV (q := (RX3, TX3, 7)) hN hP hD [0] rfl (by decide) 0 2 rfl rfl) rfl ⟨Nat.le_of_ble_eq_true rfl, Nat.le_of_ble_eq_true rfl⟩ hl.1 (Nat.le_of_ble_eq_true rfl) dX3_readFrom_32 ⟨Nat.le_of_ble_eq_true rfl, Nat.le_of_ble_eq_true rfl⟩) hP hD hS hA [0] [] rfl rfl (by decide) (by decide) (fun u_10 H locs h_9 hP hD hS => ?_)
  subst h_9
  have hP : va_P G CL [(qa, .inr (2, [.ref qab, .int 0, .int 0, .int 0, .int 0, .int 0, .ref qd]))] H := hP
  have hD : va_D A [(qa, .inr (2, [.ref qab, .int 0, .int 0, .int 0, .int 0, .int 0, .ref qd]))] := hD
  refine lv_aload_n hx hb dX3_readFrom_35 rfl (lv_at hl 1 rfl) ?_
  refine va_get (D := G) (ci := 2) (v := .int 0) (C := RX3) (T := TX3) (N := 7) hx hb hts iX_X3 hown hK hP 0 rfl rfl 5 (by decide) (hts _ m_t154) (fun _ h9 => h9) rfl dX3_readFrom_36 ?_
  refine lv_iconst (v := (-1)) hx hb dX3_readFrom_39 (by decide) ?_
  refine lv_icmp_ne (tgt := 50) hx hb dX3_readFrom_40 (by decide) (fun _ => ?_) (fun h9 => absurd h9 (by decide))
  refine lv_iload_n hx hb dX3_readFrom_50 rfl (lv_at hl 0 rfl) ?_
  exact endW (u := [(qa, .inr (2, [.ref qab, .int 0, .int 0, .int 0, .int 0, .int 0, .ref qd]))]) hx hb hr hlocks rfl (hP.sub [0] rfl) (hD.sub [0] (by decide) rfl) hS ⟨rfl, rfl⟩ dX3_readFrom_51
set_option maxHeartbeats 4000000 in
set_option maxRecDepth 100000 in
theorem c_X3_append0 (l : Launch) (G : va_G) (cy : Nat → ClassId) (sz : Nat) (qa : Nat) (qab : Nat) (v1 : Value) (v2 : Value) (v3 : Value) (v4 : Value) (v5 : Value) (fB : Nat → Int32) (iV : Int32)   : MW l yX3_append cX3_append 2 none 1 0 0 G cy [(qa, .inr (2, [.ref qab, .int 0, v1, v2, v3, v4, v5])), (qab, .inl (cy 2, 250, .inl fB))] sz [.ref qa, .int iV] (Wv G (fun u => ∃ (fN : Nat → Int32), u = [(qa, .inr (2, [.ref qab, .int 1, v1, v2, v3, v4, v5])), (qab, .inl (cy 2, 250, .inl fN))])) := by
  refine enW RX3 (by decide) rfl (Nat.le_of_ble_eq_true rfl) (fun p e s m below meth c ls A hx hb hml hown hts hr hlocks hP hN hl hin hD hA hS => ?_)
  have hin : meth.name = _ := hin
  have hK := hN.1
  have hl : lv_has ls 2 [(0, .ref qa), (1, .int iV)] := hl
  refine lv_aload_n hx hb dX3_append_0 rfl (lv_at hl 0 rfl) ?_
  refine va_get (D := G) (ci := 2) (v := .ref qab) (C := RX3) (T := TX3) (N := 7) hx hb hts iX_X3 hown hK hP 0 rfl rfl 0 (by decide) (hts _ m_t148) (fun _ h9 => h9) rfl dX3_append_1 ?_
  refine lv_aload_n hx hb dX3_append_4 rfl (lv_at hl 0 rfl) ?_
  refine va_get (D := G) (ci := 2) (v := .int 0) (C := RX3) (T := TX3) (N := 7) hx hb hts iX_X3 hown hK hP 0 rfl rfl 1 (by decide) (hts _ m_t149) (fun _ h9 => h9) rfl dX3_append_5 ?_
  refine lv_iload_n hx hb dX3_append_8 rfl (lv_at hl 1 rfl) ?_
  refine va_bast hx hb hK hP hD hS 1 2 rfl rfl (in_c rfl) dX3_append_9 (fun H locs hP hD hS => ?_)
  have hP : va_P G CL [(qa, .inr (2, [.ref qab, .int 0, v1, v2, v3, v4, v5])), (qab, .inl (cy 2, 250, .inl (upd fB 0 (vp_nar .byte iV))))] H := hP
  have hD : va_D A [(qa, .inr (2, [.ref qab, .int 0, v1, v2, v3, v4, v5])), (qab, .inl (cy 2, 250, .inl (upd fB 0 (vp_nar .byte iV))))] := hD
  refine lv_aload_n hx hb dX3_append_10 rfl (lv_at hl 0 rfl) ?_
  refine lv_dup hx hb dX3_append_11 rfl ?_
  refine va_get (D := G) (ci := 2) (v := .int 0) (C := RX3) (T := TX3) (N := 7) hx hb hts iX_X3 hown hK hP 0 rfl rfl 1 (by decide) (hts _ m_t149) (fun _ h9 => h9) rfl dX3_append_12 ?_
  refine lv_iconst (v := 1) hx hb dX3_append_15 (by decide) ?_
  refine lv_iadd hx hb dX3_append_16 ?_
  refine lv_seti (v := 1) (by decide) ?_
  refine va_put (D := G) (ci := 2) (v := .int 1) (ty := .int) (C := RX3) (T := TX3) (N := 7) hx hb hts iX_X3 tyX3 tyX3_ok nmX3 hown hK hP hD hS 0 rfl rfl 1 (by decide) (hts _ m_t149) (fun _ h9 => h9) rfl (by decide +kernel) rfl rfl (Nat.le_of_ble_eq_true rfl) dX3_append_17 (fun H locs hP hD hS => ?_)
  have hP : va_P G CL [(qa, .inr (2, [.ref qab, .int 1, v1, v2, v3, v4, v5])), (qab, .inl (cy 2, 250, .inl (upd fB 0 (vp_nar .byte iV))))] H := hP
  have hD : va_D A [(qa, .inr (2, [.ref qab, .int 1, v1, v2, v3, v4, v5])), (qab, .inl (cy 2, 250, .inl (upd fB 0 (vp_nar .byte iV))))] := hD
  exact endV (u := [(qa, .inr (2, [.ref qab, .int 1, v1, v2, v3, v4, v5])), (qab, .inl (cy 2, 250, .inl (upd fB 0 (vp_nar .byte iV))))]) hx hb hr hlocks (hP.sub [0, 1] rfl) (hD.sub [0, 1] (by decide) rfl) hS ⟨upd fB 0 (vp_nar .byte iV), rfl⟩ dX3_append_20
set_option maxHeartbeats 4000000 in
set_option maxRecDepth 100000 in
theorem c_X3_append1 (l : Launch) (G : va_G) (cy : Nat → ClassId) (sz : Nat) (qa : Nat) (qab : Nat) (v1 : Value) (v2 : Value) (v3 : Value) (v4 : Value) (v5 : Value) (fB : Nat → Int32) (iV : Int32)   : MW l yX3_append cX3_append 2 none 1 0 0 G cy [(qa, .inr (2, [.ref qab, .int 1, v1, v2, v3, v4, v5])), (qab, .inl (cy 2, 250, .inl fB))] sz [.ref qa, .int iV] (Wv G (fun u => ∃ (fN : Nat → Int32), u = [(qa, .inr (2, [.ref qab, .int 2, v1, v2, v3, v4, v5])), (qab, .inl (cy 2, 250, .inl fN))])) := by
  refine enW RX3 (by decide) rfl (Nat.le_of_ble_eq_true rfl) (fun p e s m below meth c ls A hx hb hml hown hts hr hlocks hP hN hl hin hD hA hS => ?_)
  have hin : meth.name = _ := hin
  have hK := hN.1
  have hl : lv_has ls 2 [(0, .ref qa), (1, .int iV)] := hl
  refine lv_aload_n hx hb dX3_append_0 rfl (lv_at hl 0 rfl) ?_
  refine va_get (D := G) (ci := 2) (v := .ref qab) (C := RX3) (T := TX3) (N := 7) hx hb hts iX_X3 hown hK hP 0 rfl rfl 0 (by decide) (hts _ m_t148) (fun _ h9 => h9) rfl dX3_append_1 ?_
  refine lv_aload_n hx hb dX3_append_4 rfl (lv_at hl 0 rfl) ?_
  refine va_get (D := G) (ci := 2) (v := .int 1) (C := RX3) (T := TX3) (N := 7) hx hb hts iX_X3 hown hK hP 0 rfl rfl 1 (by decide) (hts _ m_t149) (fun _ h9 => h9) rfl dX3_append_5 ?_
  refine lv_iload_n hx hb dX3_append_8 rfl (lv_at hl 1 rfl) ?_
  refine va_bast hx hb hK hP hD hS 1 2 rfl rfl (in_c rfl) dX3_append_9 (fun H locs hP hD hS => ?_)
  have hP : va_P G CL [(qa, .inr (2, [.ref qab, .int 1, v1, v2, v3, v4, v5])), (qab, .inl (cy 2, 250, .inl (upd fB 1 (vp_nar .byte iV))))] H := hP
  have hD : va_D A [(qa, .inr (2, [.ref qab, .int 1, v1, v2, v3, v4, v5])), (qab, .inl (cy 2, 250, .inl (upd fB 1 (vp_nar .byte iV))))] := hD
  refine lv_aload_n hx hb dX3_append_10 rfl (lv_at hl 0 rfl) ?_
  refine lv_dup hx hb dX3_append_11 rfl ?_
  refine va_get (D := G) (ci := 2) (v := .int 1) (C := RX3) (T := TX3) (N := 7) hx hb hts iX_X3 hown hK hP 0 rfl rfl 1 (by decide) (hts _ m_t149) (fun _ h9 => h9) rfl dX3_append_12 ?_
  refine lv_iconst (v := 1) hx hb dX3_append_15 (by decide) ?_
  refine lv_iadd hx hb dX3_append_16 ?_
  refine lv_seti (v := 2) (by decide) ?_
  refine va_put (D := G) (ci := 2) (v := .int 2) (ty := .int) (C := RX3) (T := TX3) (N := 7) hx hb hts iX_X3 tyX3 tyX3_ok nmX3 hown hK hP hD hS 0 rfl rfl 1 (by decide) (hts _ m_t149) (fun _ h9 => h9) rfl (by decide +kernel) rfl rfl (Nat.le_of_ble_eq_true rfl) dX3_append_17 (fun H locs hP hD hS => ?_)
  have hP : va_P G CL [(qa, .inr (2, [.ref qab, .int 2, v1, v2, v3, v4, v5])), (qab, .inl (cy 2, 250, .inl (upd fB 1 (vp_nar .byte iV))))] H := hP
  have hD : va_D A [(qa, .inr (2, [.ref qab, .int 2, v1, v2, v3, v4, v5])), (qab, .inl (cy 2, 250, .inl (upd fB 1 (vp_nar .byte iV))))] := hD
  exact endV (u := [(qa, .inr (2, [.ref qab, .int 2, v1, v2, v3, v4, v5])), (qab, .inl (cy 2, 250, .inl (upd fB 1 (vp_nar .byte iV))))]) hx hb hr hlocks (hP.sub [0, 1] rfl) (hD.sub [0, 1] (by decide) rfl) hS ⟨upd fB 1 (vp_nar .byte iV), rfl⟩ dX3_append_20
set_option maxHeartbeats 4000000 in
set_option maxRecDepth 100000 in
theorem c_X3_append2 (l : Launch) (G : va_G) (cy : Nat → ClassId) (sz : Nat) (qa : Nat) (qab : Nat) (v1 : Value) (v2 : Value) (v3 : Value) (v4 : Value) (v5 : Value) (fB : Nat → Int32) (iV : Int32)   : MW l yX3_append cX3_append 2 none 1 0 0 G cy [(qa, .inr (2, [.ref qab, .int 2, v1, v2, v3, v4, v5])), (qab, .inl (cy 2, 250, .inl fB))] sz [.ref qa, .int iV] (Wv G (fun u => ∃ (fN : Nat → Int32), u = [(qa, .inr (2, [.ref qab, .int 3, v1, v2, v3, v4, v5])), (qab, .inl (cy 2, 250, .inl fN))])) := by
  refine enW RX3 (by decide) rfl (Nat.le_of_ble_eq_true rfl) (fun p e s m below meth c ls A hx hb hml hown hts hr hlocks hP hN hl hin hD hA hS => ?_)
  have hin : meth.name = _ := hin
  have hK := hN.1
  have hl : lv_has ls 2 [(0, .ref qa), (1, .int iV)] := hl
  refine lv_aload_n hx hb dX3_append_0 rfl (lv_at hl 0 rfl) ?_
  refine va_get (D := G) (ci := 2) (v := .ref qab) (C := RX3) (T := TX3) (N := 7) hx hb hts iX_X3 hown hK hP 0 rfl rfl 0 (by decide) (hts _ m_t148) (fun _ h9 => h9) rfl dX3_append_1 ?_
  refine lv_aload_n hx hb dX3_append_4 rfl (lv_at hl 0 rfl) ?_
  refine va_get (D := G) (ci := 2) (v := .int 2) (C := RX3) (T := TX3) (N := 7) hx hb hts iX_X3 hown hK hP 0 rfl rfl 1 (by decide) (hts _ m_t149) (fun _ h9 => h9) rfl dX3_append_5 ?_
  refine lv_iload_n hx hb dX3_append_8 rfl (lv_at hl 1 rfl) ?_
  refine va_bast hx hb hK hP hD hS 1 2 rfl rfl (in_c rfl) dX3_append_9 (fun H locs hP hD hS => ?_)
  have hP : va_P G CL [(qa, .inr (2, [.ref qab, .int 2, v1, v2, v3, v4, v5])), (qab, .inl (cy 2, 250, .inl (upd fB 2 (vp_nar .byte iV))))] H := hP
  have hD : va_D A [(qa, .inr (2, [.ref qab, .int 2, v1, v2, v3, v4, v5])), (qab, .inl (cy 2, 250, .inl (upd fB 2 (vp_nar .byte iV))))] := hD
  refine lv_aload_n hx hb dX3_append_10 rfl (lv_at hl 0 rfl) ?_
  refine lv_dup hx hb dX3_append_11 rfl ?_
  refine va_get (D := G) (ci := 2) (v := .int 2) (C := RX3) (T := TX3) (N := 7) hx hb hts iX_X3 hown hK hP 0 rfl rfl 1 (by decide) (hts _ m_t149) (fun _ h9 => h9) rfl dX3_append_12 ?_
  refine lv_iconst (v := 1) hx hb dX3_append_15 (by decide) ?_
  refine lv_iadd hx hb dX3_append_16 ?_
  refine lv_seti (v := 3) (by decide) ?_
  refine va_put (D := G) (ci := 2) (v := .int 3) (ty := .int) (C := RX3) (T := TX3) (N := 7) hx hb hts iX_X3 tyX3 tyX3_ok nmX3 hown hK hP hD hS 0 rfl rfl 1 (by decide) (hts _ m_t149) (fun _ h9 => h9) rfl (by decide +kernel) rfl rfl (Nat.le_of_ble_eq_true rfl) dX3_append_17 (fun H locs hP hD hS => ?_)
  have hP : va_P G CL [(qa, .inr (2, [.ref qab, .int 3, v1, v2, v3, v4, v5])), (qab, .inl (cy 2, 250, .inl (upd fB 2 (vp_nar .byte iV))))] H := hP
  have hD : va_D A [(qa, .inr (2, [.ref qab, .int 3, v1, v2, v3, v4, v5])), (qab, .inl (cy 2, 250, .inl (upd fB 2 (vp_nar .byte iV))))] := hD
  exact endV (u := [(qa, .inr (2, [.ref qab, .int 3, v1, v2, v3, v4, v5])), (qab, .inl (cy 2, 250, .inl (upd fB 2 (vp_nar .byte iV))))]) hx hb hr hlocks (hP.sub [0, 1] rfl) (hD.sub [0, 1] (by decide) rfl) hS ⟨upd fB 2 (vp_nar .byte iV), rfl⟩ dX3_append_20
set_option maxHeartbeats 4000000 in
set_option maxRecDepth 100000 in
theorem c_X3_append3 (l : Launch) (G : va_G) (cy : Nat → ClassId) (sz : Nat) (qa : Nat) (qab : Nat) (v1 : Value) (v2 : Value) (v3 : Value) (v4 : Value) (v5 : Value) (fB : Nat → Int32) (iV : Int32)   : MW l yX3_append cX3_append 2 none 1 0 0 G cy [(qa, .inr (2, [.ref qab, .int 3, v1, v2, v3, v4, v5])), (qab, .inl (cy 2, 250, .inl fB))] sz [.ref qa, .int iV] (Wv G (fun u => ∃ (fN : Nat → Int32), u = [(qa, .inr (2, [.ref qab, .int 4, v1, v2, v3, v4, v5])), (qab, .inl (cy 2, 250, .inl fN))])) := by
  refine enW RX3 (by decide) rfl (Nat.le_of_ble_eq_true rfl) (fun p e s m below meth c ls A hx hb hml hown hts hr hlocks hP hN hl hin hD hA hS => ?_)
  have hin : meth.name = _ := hin
  have hK := hN.1
  have hl : lv_has ls 2 [(0, .ref qa), (1, .int iV)] := hl
  refine lv_aload_n hx hb dX3_append_0 rfl (lv_at hl 0 rfl) ?_
  refine va_get (D := G) (ci := 2) (v := .ref qab) (C := RX3) (T := TX3) (N := 7) hx hb hts iX_X3 hown hK hP 0 rfl rfl 0 (by decide) (hts _ m_t148) (fun _ h9 => h9) rfl dX3_append_1 ?_
  refine lv_aload_n hx hb dX3_append_4 rfl (lv_at hl 0 rfl) ?_
  refine va_get (D := G) (ci := 2) (v := .int 3) (C := RX3) (T := TX3) (N := 7) hx hb hts iX_X3 hown hK hP 0 rfl rfl 1 (by decide) (hts _ m_t149) (fun _ h9 => h9) rfl dX3_append_5 ?_
  refine lv_iload_n hx hb dX3_append_8 rfl (lv_at hl 1 rfl) ?_
  refine va_bast hx hb hK hP hD hS 1 2 rfl rfl (in_c rfl) dX3_append_9 (fun H locs hP hD hS => ?_)
  have hP : va_P G CL [(qa, .inr (2, [.ref qab, .int 3, v1, v2, v3, v4, v5])), (qab, .inl (cy 2, 250, .inl (upd fB 3 (vp_nar .byte iV))))] H := hP
  have hD : va_D A [(qa, .inr (2, [.ref qab, .int 3, v1, v2, v3, v4, v5])), (qab, .inl (cy 2, 250, .inl (upd fB 3 (vp_nar .byte iV))))] := hD
  refine lv_aload_n hx hb dX3_append_10 rfl (lv_at hl 0 rfl) ?_
  refine lv_dup hx hb dX3_append_11 rfl ?_
  refine va_get (D := G) (ci := 2) (v := .int 3) (C := RX3) (T := TX3) (N := 7) hx hb hts iX_X3 hown hK hP 0 rfl rfl 1 (by decide) (hts _ m_t149) (fun _ h9 => h9) rfl dX3_append_12 ?_
  refine lv_iconst (v := 1) hx hb dX3_append_15 (by decide) ?_
  refine lv_iadd hx hb dX3_append_16 ?_
  refine lv_seti (v := 4) (by decide) ?_
  refine va_put (D := G) (ci := 2) (v := .int 4) (ty := .int) (C := RX3) (T := TX3) (N := 7) hx hb hts iX_X3 tyX3 tyX3_ok nmX3 hown hK hP hD hS 0 rfl rfl 1 (by decide) (hts _ m_t149) (fun _ h9 => h9) rfl (by decide +kernel) rfl rfl (Nat.le_of_ble_eq_true rfl) dX3_append_17 (fun H locs hP hD hS => ?_)
  have hP : va_P G CL [(qa, .inr (2, [.ref qab, .int 4, v1, v2, v3, v4, v5])), (qab, .inl (cy 2, 250, .inl (upd fB 3 (vp_nar .byte iV))))] H := hP
  have hD : va_D A [(qa, .inr (2, [.ref qab, .int 4, v1, v2, v3, v4, v5])), (qab, .inl (cy 2, 250, .inl (upd fB 3 (vp_nar .byte iV))))] := hD
  exact endV (u := [(qa, .inr (2, [.ref qab, .int 4, v1, v2, v3, v4, v5])), (qab, .inl (cy 2, 250, .inl (upd fB 3 (vp_nar .byte iV))))]) hx hb hr hlocks (hP.sub [0, 1] rfl) (hD.sub [0, 1] (by decide) rfl) hS ⟨upd fB 3 (vp_nar .byte iV), rfl⟩ dX3_append_20
set_option maxHeartbeats 4000000 in
set_option maxRecDepth 100000 in
theorem p_X5_set (l : Launch) (G : va_G) (cy : Nat → ClassId) (sz : Nat) (qx : Nat) (qt : Nat) (qk : Nat) (qp : Nat) (qs : Nat) (qa : Nat) (qr : Nat) (qsh : Nat) (qss : Nat) (qsa : Nat) (qse : Nat) (fH : Nat → Int32) (iA : Int32) (iB : Int32) (J1 : Int64)  (hH : ∀ i, i < 8 → fH i = -1) : MW l yX5_set cX5_set 6 (some .int) 6 0 0 G cy [(qx, .inr (4, [.ref qt, .ref qk, .ref qp, .ref qs, .ref qa, .ref qr, .int 0, .int 0, .int 0])), (qr, .inl (cy 0, 5, .inl (fun _ => 0))), (qs, .inr (1, [.ref qsh, .ref qss, .ref qsa, .ref qse])), (qsh, .inl (cy 0, 8, .inl fH))] sz [.ref qx, .int iA, .int iB, .long J1] (Wi G (fun r u => u = [] ∧ ((r = (sp_shelf iA))))) := by
  refine enW RX5 (by decide) rfl (Nat.le_of_ble_eq_true rfl) (fun p e s m below meth c ls A hx hb hml hown hts hr hlocks hP hN hl hin hD hA hS => ?_)
  have hin : meth.name = _ := hin
  have hK := hN.1
  have hl : lv_has ls 6 [(0, .ref qx), (1, .int iA), (2, .int iB), (3, .long J1)] := hl
  refine lv_aload_n hx hb dX5_set_0 rfl (lv_at hl 0 rfl) ?_
  refine lv_iload_n hx hb dX5_set_1 rfl (lv_at hl 1 rfl) ?_
  refine kRi (rV (As := [.int iA]) (rest := []) (b := qx) ⟨hx, hb, hml, hown, hts⟩ (c_X5_rowFit l G cy qx (.ref qt) (.ref qk) (.ref qp) qs (.ref qa) (.ref qr) (.int 0) (.int 0) (.int 0) qsh qss qsa qse fH iA hH) L_X5_64 (preRV (q := (RX5, TX5, 9)) hN hP [0, 2, 3] rfl 0 4 rfl rfl) rfl ⟨Nat.le_of_ble_eq_true rfl, Nat.le_of_ble_eq_true rfl⟩ hl.1 (Nat.le_of_ble_eq_true rfl) dX5_set_2 ⟨Nat.le_of_ble_eq_true rfl, Nat.le_of_ble_eq_true rfl⟩) (fun r_1 h_2 => ?_)
  rcases h_2 with ⟨rfl, h_3⟩ | ⟨rfl, h_3⟩
  · refine lv_istore (lv' := [(5, .int (-2)), (0, .ref qx), (1, .int iA), (2, .int iB), (3, .long J1)]) hx hb dX5_set_5 hl (by decide) rfl (fun ls hl => ?_)
    refine lv_iload hx hb dX5_set_7 (lv_at hl 0 rfl) ?_
    refine lv_if_ne (tgt := 37) hx hb dX5_set_9 (by decide) (fun _ => ?_) (fun h9 => absurd h9 (by decide))
    refine lv_iload hx hb dX5_set_37 (lv_at hl 0 rfl) ?_
    refine lv_if_eq (tgt := 49) hx hb dX5_set_39 (by decide) (fun h9 => absurd h9 (by decide)) (fun _ => ?_)
    refine lv_aload_n hx hb dX5_set_42 rfl (lv_at hl 1 rfl) ?_
    refine lv_iload hx hb dX5_set_43 (lv_at hl 0 rfl) ?_
    refine kWi (wr := [(qs, .inr (1, [.ref qsh, .ref qss, .ref qsa, .ref qse])), (qsh, .inl (cy 0, 8, .inl fH))]) (rV (As := [.int (-2)]) (rest := []) (b := qx) ⟨hx, hb, hml, hown, hts⟩ (c_X5_refuse2 l G cy (s.heap).size qx (.ref qt) (.ref qk) (.ref qp) (.ref qs) (.ref qa) qr (.int 0) (.int 0) (.int 0) (fun _ => 0)) L_X5_56 (preWV (q := (RX5, TX5, 9)) hN hP hD [0, 1] rfl (by decide) 0 4 rfl rfl) rfl ⟨Nat.le_of_ble_eq_true rfl, Nat.le_of_ble_eq_true rfl⟩ hl.1 (Nat.le_of_ble_eq_true rfl) dX5_set_45 ⟨Nat.le_of_ble_eq_true rfl, Nat.le_of_ble_eq_true rfl⟩) hP hD hS hA [0, 1] [2, 3] rfl rfl (by decide) (by decide) (fun r_6 u_8 H locs h_7 hP hD hS => ?_)
    obtain ⟨rfl, h_7⟩ := h_7
    have hP : va_P G CL [(qs, .inr (1, [.ref qsh, .ref qss, .ref qsa, .ref qse])), (qsh, .inl (cy 0, 8, .inl fH)), (qx, .inr (4, [.ref qt, .ref qk, .ref qp, .ref qs, .ref qa, .ref qr, .int 0, .int 0, .int 0]))] H := hP
    have hD : va_D A [(qs, .inr (1, [.ref qsh, .ref qss, .ref qsa, .ref qse])), (qsh, .inl (cy 0, 8, .inl fH)), (qx, .inr (4, [.ref qt, .ref qk, .ref qp, .ref qs, .ref qa, .ref qr, .int 0, .int 0, .int 0]))] := hD
    subst h_7
    exact endW (u := []) hx hb hr hlocks rfl va_P0 va_D0 hS ⟨rfl, (by first | (simp [sp_shelf, Iv, hH, h_3]; done) | (unfold sp_shelf; decide))⟩ dX5_set_48
  · refine lv_istore (lv' := [(5, .int (-4)), (0, .ref qx), (1, .int iA), (2, .int iB), (3, .long J1)]) hx hb dX5_set_5 hl (by decide) rfl (fun ls hl => ?_)
    refine lv_iload hx hb dX5_set_7 (lv_at hl 0 rfl) ?_
    refine lv_if_ne (tgt := 37) hx hb dX5_set_9 (by decide) (fun _ => ?_) (fun h9 => absurd h9 (by decide))
    refine lv_iload hx hb dX5_set_37 (lv_at hl 0 rfl) ?_
    refine lv_if_eq (tgt := 49) hx hb dX5_set_39 (by decide) (fun h9 => absurd h9 (by decide)) (fun _ => ?_)
    refine lv_aload_n hx hb dX5_set_42 rfl (lv_at hl 1 rfl) ?_
    refine lv_iload hx hb dX5_set_43 (lv_at hl 0 rfl) ?_
    refine kWi (wr := [(qs, .inr (1, [.ref qsh, .ref qss, .ref qsa, .ref qse])), (qsh, .inl (cy 0, 8, .inl fH))]) (rV (As := [.int (-4)]) (rest := []) (b := qx) ⟨hx, hb, hml, hown, hts⟩ (c_X5_refuse4 l G cy (s.heap).size qx (.ref qt) (.ref qk) (.ref qp) (.ref qs) (.ref qa) qr (.int 0) (.int 0) (.int 0) (fun _ => 0)) L_X5_56 (preWV (q := (RX5, TX5, 9)) hN hP hD [0, 1] rfl (by decide) 0 4 rfl rfl) rfl ⟨Nat.le_of_ble_eq_true rfl, Nat.le_of_ble_eq_true rfl⟩ hl.1 (Nat.le_of_ble_eq_true rfl) dX5_set_45 ⟨Nat.le_of_ble_eq_true rfl, Nat.le_of_ble_eq_true rfl⟩) hP hD hS hA [0, 1] [2, 3] rfl rfl (by decide) (by decide) (fun r_11 u_13 H locs h_12 hP hD hS => ?_)
    obtain ⟨rfl, h_12⟩ := h_12
    have hP : va_P G CL [(qs, .inr (1, [.ref qsh, .ref qss, .ref qsa, .ref qse])), (qsh, .inl (cy 0, 8, .inl fH)), (qx, .inr (4, [.ref qt, .ref qk, .ref qp, .ref qs, .ref qa, .ref qr, .int 0, .int 0, .int 0]))] H := hP
    have hD : va_D A [(qs, .inr (1, [.ref qsh, .ref qss, .ref qsa, .ref qse])), (qsh, .inl (cy 0, 8, .inl fH)), (qx, .inr (4, [.ref qt, .ref qk, .ref qp, .ref qs, .ref qa, .ref qr, .int 0, .int 0, .int 0]))] := hD
    subst h_12
    exact endW (u := []) hx hb hr hlocks rfl va_P0 va_D0 hS ⟨rfl, (by first | (simp [sp_shelf, Iv, hH, h_3]; done) | (unfold sp_shelf; decide))⟩ dX5_set_48
set_option maxHeartbeats 4000000 in
set_option maxRecDepth 100000 in
theorem p_X5_copy (l : Launch) (G : va_G) (cy : Nat → ClassId) (sz : Nat) (qx : Nat) (qt : Nat) (qk : Nat) (qp : Nat) (qs : Nat) (qa : Nat) (qr : Nat) (qsh : Nat) (qss : Nat) (qsa : Nat) (qse : Nat) (fH : Nat → Int32) (iA : Int32) (iB : Int32) (iC : Int32) (iD : Int32) (iE : Int32)  (hH : ∀ i, i < 8 → fH i = -1) : MW l yX5_copy cX5_copy 7 (some .int) 6 0 0 G cy [(qx, .inr (4, [.ref qt, .ref qk, .ref qp, .ref qs, .ref qa, .ref qr, .int 0, .int 0, .int 0])), (qr, .inl (cy 0, 5, .inl (fun _ => 0))), (qs, .inr (1, [.ref qsh, .ref qss, .ref qsa, .ref qse])), (qsh, .inl (cy 0, 8, .inl fH))] sz [.ref qx, .int iA, .int iB, .int iC, .int iD, .int iE] (Wi G (fun r u => u = [] ∧ ((r = (sp_copy iA iB))))) := by
  refine enW RX5 (by decide) rfl (Nat.le_of_ble_eq_true rfl) (fun p e s m below meth c ls A hx hb hml hown hts hr hlocks hP hN hl hin hD hA hS => ?_)
  have hin : meth.name = _ := hin
  have hK := hN.1
  have hl : lv_has ls 7 [(0, .ref qx), (1, .int iA), (2, .int iB), (3, .int iC), (4, .int iD), (5, .int iE)] := hl
  refine lv_aload_n hx hb dX5_copy_0 rfl (lv_at hl 0 rfl) ?_
  refine lv_iload_n hx hb dX5_copy_1 rfl (lv_at hl 1 rfl) ?_
  refine lv_iload_n hx hb dX5_copy_2 rfl (lv_at hl 2 rfl) ?_
  refine kRi (rV (As := [.int iA, .int iB]) (rest := []) (b := qx) ⟨hx, hb, hml, hown, hts⟩ (c_X5_copyFit l G cy qx (.ref qt) (.ref qk) (.ref qp) qs (.ref qa) (.ref qr) (.int 0) (.int 0) (.int 0) qsh qss qsa qse fH iA iB hH) L_X5_74 (preRV (q := (RX5, TX5, 9)) hN hP [0, 2, 3] rfl 0 4 rfl rfl) rfl ⟨Nat.le_of_ble_eq_true rfl, Nat.le_of_ble_eq_true rfl⟩ hl.1 (Nat.le_of_ble_eq_true rfl) dX5_copy_3 ⟨Nat.le_of_ble_eq_true rfl, Nat.le_of_ble_eq_true rfl⟩) (fun r_1 h_2 => ?_)
  rcases h_2 with ⟨rfl, h_3⟩ | ⟨rfl, h_3⟩
  · refine lv_istore (lv' := [(6, .int (-2)), (0, .ref qx), (1, .int iA), (2, .int iB), (3, .int iC), (4, .int iD), (5, .int iE)]) hx hb dX5_copy_6 hl (by decide) rfl (fun ls hl => ?_)
    refine lv_iload hx hb dX5_copy_8 (lv_at hl 0 rfl) ?_
    refine lv_if_ne (tgt := 40) hx hb dX5_copy_10 (by decide) (fun _ => ?_) (fun h9 => absurd h9 (by decide))
    refine lv_iload hx hb dX5_copy_40 (lv_at hl 0 rfl) ?_
    refine lv_if_eq (tgt := 52) hx hb dX5_copy_42 (by decide) (fun h9 => absurd h9 (by decide)) (fun _ => ?_)
    refine lv_aload_n hx hb dX5_copy_45 rfl (lv_at hl 1 rfl) ?_
    refine lv_iload hx hb dX5_copy_46 (lv_at hl 0 rfl) ?_
    refine kWi (wr := [(qs, .inr (1, [.ref qsh, .ref qss, .ref qsa, .ref qse])), (qsh, .inl (cy 0, 8, .inl fH))]) (rV (As := [.int (-2)]) (rest := []) (b := qx) ⟨hx, hb, hml, hown, hts⟩ (c_X5_refuse2 l G cy (s.heap).size qx (.ref qt) (.ref qk) (.ref qp) (.ref qs) (.ref qa) qr (.int 0) (.int 0) (.int 0) (fun _ => 0)) L_X5_56 (preWV (q := (RX5, TX5, 9)) hN hP hD [0, 1] rfl (by decide) 0 4 rfl rfl) rfl ⟨Nat.le_of_ble_eq_true rfl, Nat.le_of_ble_eq_true rfl⟩ hl.1 (Nat.le_of_ble_eq_true rfl) dX5_copy_48 ⟨Nat.le_of_ble_eq_true rfl, Nat.le_of_ble_eq_true rfl⟩) hP hD hS hA [0, 1] [2, 3] rfl rfl (by decide) (by decide) (fun r_6 u_8 H locs h_7 hP hD hS => ?_)
    obtain ⟨rfl, h_7⟩ := h_7
    have hP : va_P G CL [(qs, .inr (1, [.ref qsh, .ref qss, .ref qsa, .ref qse])), (qsh, .inl (cy 0, 8, .inl fH)), (qx, .inr (4, [.ref qt, .ref qk, .ref qp, .ref qs, .ref qa, .ref qr, .int 0, .int 0, .int 0]))] H := hP
    have hD : va_D A [(qs, .inr (1, [.ref qsh, .ref qss, .ref qsa, .ref qse])), (qsh, .inl (cy 0, 8, .inl fH)), (qx, .inr (4, [.ref qt, .ref qk, .ref qp, .ref qs, .ref qa, .ref qr, .int 0, .int 0, .int 0]))] := hD
    subst h_7
    exact endW (u := []) hx hb hr hlocks rfl va_P0 va_D0 hS ⟨rfl, (by first | (simp [sp_copy, Iv, hH, h_3]; done) | (unfold sp_copy; decide))⟩ dX5_copy_51
  · refine lv_istore (lv' := [(6, .int (-4)), (0, .ref qx), (1, .int iA), (2, .int iB), (3, .int iC), (4, .int iD), (5, .int iE)]) hx hb dX5_copy_6 hl (by decide) rfl (fun ls hl => ?_)
    refine lv_iload hx hb dX5_copy_8 (lv_at hl 0 rfl) ?_
    refine lv_if_ne (tgt := 40) hx hb dX5_copy_10 (by decide) (fun _ => ?_) (fun h9 => absurd h9 (by decide))
    refine lv_iload hx hb dX5_copy_40 (lv_at hl 0 rfl) ?_
    refine lv_if_eq (tgt := 52) hx hb dX5_copy_42 (by decide) (fun h9 => absurd h9 (by decide)) (fun _ => ?_)
    refine lv_aload_n hx hb dX5_copy_45 rfl (lv_at hl 1 rfl) ?_
    refine lv_iload hx hb dX5_copy_46 (lv_at hl 0 rfl) ?_
    refine kWi (wr := [(qs, .inr (1, [.ref qsh, .ref qss, .ref qsa, .ref qse])), (qsh, .inl (cy 0, 8, .inl fH))]) (rV (As := [.int (-4)]) (rest := []) (b := qx) ⟨hx, hb, hml, hown, hts⟩ (c_X5_refuse4 l G cy (s.heap).size qx (.ref qt) (.ref qk) (.ref qp) (.ref qs) (.ref qa) qr (.int 0) (.int 0) (.int 0) (fun _ => 0)) L_X5_56 (preWV (q := (RX5, TX5, 9)) hN hP hD [0, 1] rfl (by decide) 0 4 rfl rfl) rfl ⟨Nat.le_of_ble_eq_true rfl, Nat.le_of_ble_eq_true rfl⟩ hl.1 (Nat.le_of_ble_eq_true rfl) dX5_copy_48 ⟨Nat.le_of_ble_eq_true rfl, Nat.le_of_ble_eq_true rfl⟩) hP hD hS hA [0, 1] [2, 3] rfl rfl (by decide) (by decide) (fun r_11 u_13 H locs h_12 hP hD hS => ?_)
    obtain ⟨rfl, h_12⟩ := h_12
    have hP : va_P G CL [(qs, .inr (1, [.ref qsh, .ref qss, .ref qsa, .ref qse])), (qsh, .inl (cy 0, 8, .inl fH)), (qx, .inr (4, [.ref qt, .ref qk, .ref qp, .ref qs, .ref qa, .ref qr, .int 0, .int 0, .int 0]))] H := hP
    have hD : va_D A [(qs, .inr (1, [.ref qsh, .ref qss, .ref qsa, .ref qse])), (qsh, .inl (cy 0, 8, .inl fH)), (qx, .inr (4, [.ref qt, .ref qk, .ref qp, .ref qs, .ref qa, .ref qr, .int 0, .int 0, .int 0]))] := hD
    subst h_12
    exact endW (u := []) hx hb hr hlocks rfl va_P0 va_D0 hS ⟨rfl, (by first | (simp [sp_copy, Iv, hH, h_3]; done) | (unfold sp_copy; decide))⟩ dX5_copy_51
set_option maxHeartbeats 4000000 in
set_option maxRecDepth 100000 in
theorem p_X5_element (l : Launch) (G : va_G) (cy : Nat → ClassId) (qx : Nat) (qt : Nat) (qk : Nat) (qp : Nat) (qs : Nat) (qa : Nat) (qr : Nat) (qsh : Nat) (qss : Nat) (qsa : Nat) (qse : Nat) (fH : Nat → Int32) (iA : Int32) (iB : Int32)  (hH : ∀ i, i < 8 → fH i = -1) : MR l yX5_element cX5_element 3 (some .long) 6 G cy [(qx, .inr (4, [.ref qt, .ref qk, .ref qp, .ref qs, .ref qa, .ref qr, .int 0, .int 0, .int 0])), (qs, .inr (1, [.ref qsh, .ref qss, .ref qsa, .ref qse])), (qsh, .inl (cy 0, 8, .inl fH))] [.ref qx, .int iA, .int iB] (vp_Sl (fun r => (r = 0))) := by
  refine enR RX5 (by decide) rfl (Nat.le_of_ble_eq_true rfl) (fun p e s m below meth c ls hx hb hml hown hts hr hlocks hP hN hl => ?_)
  have hK := hN.1
  have hl : lv_has ls 3 [(0, .ref qx), (1, .int iA), (2, .int iB)] := hl
  refine lv_aload_n hx hb dX5_element_0 rfl (lv_at hl 0 rfl) ?_
  refine lv_iload_n hx hb dX5_element_1 rfl (lv_at hl 1 rfl) ?_
  refine kRi (rV (As := [.int iA]) (rest := []) (b := qx) ⟨hx, hb, hml, hown, hts⟩ (c_X5_rowFit l G cy qx (.ref qt) (.ref qk) (.ref qp) qs (.ref qa) (.ref qr) (.int 0) (.int 0) (.int 0) qsh qss qsa qse fH iA hH) L_X5_64 (preRV (q := (RX5, TX5, 9)) hN hP [0, 1, 2] rfl 0 4 rfl rfl) rfl ⟨Nat.le_of_ble_eq_true rfl, Nat.le_of_ble_eq_true rfl⟩ hl.1 (Nat.le_of_ble_eq_true rfl) dX5_element_2 ⟨Nat.le_of_ble_eq_true rfl, Nat.le_of_ble_eq_true rfl⟩) (fun r_1 h_2 => ?_)
  rcases h_2 with ⟨rfl, h_3⟩ | ⟨rfl, h_3⟩
  · refine lv_if_ne (tgt := 29) hx hb dX5_element_5 (by decide) (fun _ => ?_) (fun h9 => absurd h9 (by decide))
    refine lv_lconst (v := 0) hx hb dX5_element_29 (by decide) ?_
    exact endRl hx hb hr hlocks rfl dX5_element_30
  · refine lv_if_ne (tgt := 29) hx hb dX5_element_5 (by decide) (fun _ => ?_) (fun h9 => absurd h9 (by decide))
    refine lv_lconst (v := 0) hx hb dX5_element_29 (by decide) ?_
    exact endRl hx hb hr hlocks rfl dX5_element_30
set_option maxHeartbeats 4000000 in
set_option maxRecDepth 100000 in
theorem p_X5_holds (l : Launch) (G : va_G) (cy : Nat → ClassId) (qx : Nat) (qt : Nat) (qk : Nat) (qp : Nat) (qs : Nat) (qa : Nat) (qr : Nat) (qsh : Nat) (qss : Nat) (qsa : Nat) (qse : Nat) (fH : Nat → Int32) (iA : Int32)  (hH : ∀ i, i < 8 → fH i = -1) : MR l yX5_holds cX5_holds 2 (some .int) 6 G cy [(qx, .inr (4, [.ref qt, .ref qk, .ref qp, .ref qs, .ref qa, .ref qr, .int 0, .int 0, .int 0])), (qs, .inr (1, [.ref qsh, .ref qss, .ref qsa, .ref qse])), (qsh, .inl (cy 0, 8, .inl fH))] [.ref qx, .int iA] (vp_Si (fun r => (r = (-1)))) := by
  refine enR RX5 (by decide) rfl (Nat.le_of_ble_eq_true rfl) (fun p e s m below meth c ls hx hb hml hown hts hr hlocks hP hN hl => ?_)
  have hK := hN.1
  have hl : lv_has ls 2 [(0, .ref qx), (1, .int iA)] := hl
  refine lv_iload_n hx hb dX5_holds_0 rfl (lv_at hl 1 rfl) ?_
  refine kRi (rS (As := [.int iA]) (rest := []) ⟨hx, hb, hml, hown, hts⟩ (c_X5_isShelf l G cy iA) L_X5_44 (preRS hN hP [] rfl) rfl ⟨Nat.le_of_ble_eq_true rfl, Nat.le_of_ble_eq_true rfl⟩ hl.1 (Nat.le_of_ble_eq_true rfl) dX5_holds_1 ⟨Nat.le_of_ble_eq_true rfl, Nat.le_of_ble_eq_true rfl⟩) (fun r_1 h_2 => ?_)
  rcases h_2 with ⟨rfl, h_3⟩ | ⟨rfl, h_3⟩
  · refine lv_if_eq (tgt := 19) hx hb dX5_holds_4 (by decide) (fun h9 => absurd h9 (by decide)) (fun _ => ?_)
    refine lv_aload_n hx hb dX5_holds_7 rfl (lv_at hl 0 rfl) ?_
    refine va_get (D := G) (ci := 4) (v := .ref qs) (C := RX5) (T := TX5) (N := 9) hx hb hts iX_X5 hown hK hP 0 rfl rfl 3 (by decide) (hts _ m_t177) (fun _ h9 => h9) rfl dX5_holds_8 ?_
    refine va_getN (D := G) (ci := 1) (v := .ref qsh) (C := RX2) (T := TX2) (N := 4) hx hb hts iX_X2 hown hK hP 1 rfl rfl 0 (by decide) (va_Nw.use rfl (hN.2.1 (RX5, 90, "EachBookOnce$Shelves", "holding", "[I") (List.mem_of_getElem? (i := 26) rfl))) (fun _ h9 => h9) rfl dX5_holds_11 ?_
    refine lv_iload_n hx hb dX5_holds_14 rfl (lv_at hl 1 rfl) ?_
    refine va_iald hx hb hK hP 2 0 rfl rfl (in_shelf h_3) dX5_holds_15 ?_
    refine lv_seti (v := (-1)) (hH _ (lt_in (in_shelf h_3))) ?_
    refine lv_goto (tgt := 20) hx hb dX5_holds_16 (by decide) ?_
    exact endR hx hb hr hlocks rfl rfl dX5_holds_20
  · refine lv_if_eq (tgt := 19) hx hb dX5_holds_4 (by decide) (fun _ => ?_) (fun h9 => absurd (by decide) h9)
    refine lv_iconst (v := (-1)) hx hb dX5_holds_19 (by decide) ?_
    exact endR hx hb hr hlocks rfl rfl dX5_holds_20
set_option maxHeartbeats 4000000 in
set_option maxRecDepth 100000 in
theorem p_X5_rule (l : Launch) (G : va_G) (cy : Nat → ClassId) (sz : Nat) (qx : Nat) (qt : Nat) (qk : Nat) (qp : Nat) (qs : Nat) (qa : Nat) (qr : Nat) (qsh : Nat) (qss : Nat) (qsa : Nat) (qse : Nat) (fH : Nat → Int32) (iA : Int32) (iB : Int32) (iC : Int32)  (hH : ∀ i, i < 8 → fH i = -1) : MW l yX5_rule cX5_rule 4 (some .int) 6 0 0 G cy [(qx, .inr (4, [.ref qt, .ref qk, .ref qp, .ref qs, .ref qa, .ref qr, .int 0, .int 0, .int 0])), (qr, .inl (cy 0, 5, .inl (fun _ => 0))), (qs, .inr (1, [.ref qsh, .ref qss, .ref qsa, .ref qse])), (qsh, .inl (cy 0, 8, .inl fH)), (qsa, .inl (cy 0, 8, .inl (fun _ => 0)))] sz [.ref qx, .int iA, .int iB, .int iC] (Wi G (fun r u => u = [] ∧ ((r = (sp_rule iA iB iC))))) := by
  refine enW RX5 (by decide) rfl (Nat.le_of_ble_eq_true rfl) (fun p e s m below meth c ls A hx hb hml hown hts hr hlocks hP hN hl hin hD hA hS => ?_)
  have hin : meth.name = _ := hin
  have hK := hN.1
  have hl : lv_has ls 4 [(0, .ref qx), (1, .int iA), (2, .int iB), (3, .int iC)] := hl
  refine lv_iload_n hx hb dX5_rule_0 rfl (lv_at hl 1 rfl) ?_
  refine kRi (rS (As := [.int iA]) (rest := []) ⟨hx, hb, hml, hown, hts⟩ (c_X5_isShelf l G cy iA) L_X5_44 (preRS hN hP [] rfl) rfl ⟨Nat.le_of_ble_eq_true rfl, Nat.le_of_ble_eq_true rfl⟩ hl.1 (Nat.le_of_ble_eq_true rfl) dX5_rule_1 ⟨Nat.le_of_ble_eq_true rfl, Nat.le_of_ble_eq_true rfl⟩) (fun r_1 h_2 => ?_)
  rcases h_2 with ⟨rfl, h_3⟩ | ⟨rfl, h_3⟩
  · refine lv_if_eq (tgt := 31) hx hb dX5_rule_4 (by decide) (fun h9 => absurd h9 (by decide)) (fun _ => ?_)
    refine lv_iload_n hx hb dX5_rule_7 rfl (lv_at hl 2 rfl) ?_
    refine lv_i2l (v := iB.toInt64) hx hb dX5_rule_8 rfl ?_
    refine lv_lconst (v := 1) hx hb dX5_rule_9 (by decide) ?_
    refine lv_ldc2 hx hb hown (hts _ m_t281) dX5_rule_10 ?_
    refine kRi (rS (As := [.long iB.toInt64, .long 1, .long 6]) (rest := []) ⟨hx, hb, hml, hown, hts⟩ (c_X5_within l G cy iB.toInt64 1 6) L_X5_50 (preRS hN hP [] rfl) rfl ⟨Nat.le_of_ble_eq_true rfl, Nat.le_of_ble_eq_true rfl⟩ hl.1 (Nat.le_of_ble_eq_true rfl) dX5_rule_13 ⟨Nat.le_of_ble_eq_true rfl, Nat.le_of_ble_eq_true rfl⟩) (fun r_5 h_6 => ?_)
    rcases h_6 with ⟨rfl, h_7⟩ | ⟨rfl, h_7⟩
    · refine lv_if_eq (tgt := 31) hx hb dX5_rule_16 (by decide) (fun h9 => absurd h9 (by decide)) (fun _ => ?_)
      refine lv_iload_n hx hb dX5_rule_19 rfl (lv_at hl 3 rfl) ?_
      refine lv_i2l (v := iC.toInt64) hx hb dX5_rule_20 rfl ?_
      refine lv_lconst (v := 0) hx hb dX5_rule_21 (by decide) ?_
      refine lv_ldc2 hx hb hown (hts _ m_t282) dX5_rule_22 ?_
      refine kRi (rS (As := [.long iC.toInt64, .long 0, .long 99]) (rest := []) ⟨hx, hb, hml, hown, hts⟩ (c_X5_within l G cy iC.toInt64 0 99) L_X5_50 (preRS hN hP [] rfl) rfl ⟨Nat.le_of_ble_eq_true rfl, Nat.le_of_ble_eq_true rfl⟩ hl.1 (Nat.le_of_ble_eq_true rfl) dX5_rule_25 ⟨Nat.le_of_ble_eq_true rfl, Nat.le_of_ble_eq_true rfl⟩) (fun r_9 h_10 => ?_)
      rcases h_10 with ⟨rfl, h_11⟩ | ⟨rfl, h_11⟩
      · refine lv_if_ne (tgt := 38) hx hb dX5_rule_28 (by decide) (fun _ => ?_) (fun h9 => absurd h9 (by decide))
        refine lv_aload_n hx hb dX5_rule_38 rfl (lv_at hl 0 rfl) ?_
        refine va_get (D := G) (ci := 4) (v := .ref qs) (C := RX5) (T := TX5) (N := 9) hx hb hts iX_X5 hown hK hP 0 rfl rfl 3 (by decide) (hts _ m_t177) (fun _ h9 => h9) rfl dX5_rule_39 ?_
        refine lv_iload_n hx hb dX5_rule_42 rfl (lv_at hl 1 rfl) ?_
        refine lv_iload_n hx hb dX5_rule_43 rfl (lv_at hl 2 rfl) ?_
        refine lv_iload_n hx hb dX5_rule_44 rfl (lv_at hl 3 rfl) ?_
        refine kWv (wr := [(qx, .inr (4, [.ref qt, .ref qk, .ref qp, .ref qs, .ref qa, .ref qr, .int 0, .int 0, .int 0])), (qr, .inl (cy 0, 5, .inl (fun _ => 0)))]) (rV (As := [.int iA, .int iB, .int iC]) (rest := []) (b := qs) ⟨hx, hb, hml, hown, hts⟩ (c_X2_putRule l G cy (s.heap).size qs qsh qss qsa qse fH iA iB iC hH h_3) L_X5_97 (preWV (q := (RX2, TX2, 4)) hN hP hD [2, 3, 4] rfl (by decide) 2 1 rfl rfl) rfl ⟨Nat.le_of_ble_eq_true rfl, Nat.le_of_ble_eq_true rfl⟩ hl.1 (Nat.le_of_ble_eq_true rfl) dX5_rule_45 ⟨Nat.le_of_ble_eq_true rfl, Nat.le_of_ble_eq_true rfl⟩) hP hD hS hA [2, 3, 4] [0, 1] rfl rfl (by decide) (by decide) (fun u_15 H locs h_14 hP hD hS => ?_)
        subst h_14
        have hP : va_P G CL [(qx, .inr (4, [.ref qt, .ref qk, .ref qp, .ref qs, .ref qa, .ref qr, .int 0, .int 0, .int 0])), (qr, .inl (cy 0, 5, .inl (fun _ => 0)))] H := hP
        have hD : va_D A [(qx, .inr (4, [.ref qt, .ref qk, .ref qp, .ref qs, .ref qa, .ref qr, .int 0, .int 0, .int 0])), (qr, .inl (cy 0, 5, .inl (fun _ => 0)))] := hD
        refine lv_iconst (v := 1) hx hb dX5_rule_48 (by decide) ?_
        exact endW (u := []) hx hb hr hlocks rfl va_P0 va_D0 hS ⟨rfl, (by first | (simp [sp_rule, Iv, hH, h_3, h_7, h_11]; done) | (unfold sp_rule; decide))⟩ dX5_rule_49
      · refine lv_if_ne (tgt := 38) hx hb dX5_rule_28 (by decide) (fun h9 => absurd (by decide) h9) (fun _ => ?_)
        refine lv_aload_n hx hb dX5_rule_31 rfl (lv_at hl 0 rfl) ?_
        refine lv_bipush (v := (-2)) hx hb dX5_rule_32 (by decide) ?_
        refine kWi (wr := [(qs, .inr (1, [.ref qsh, .ref qss, .ref qsa, .ref qse])), (qsh, .inl (cy 0, 8, .inl fH)), (qsa, .inl (cy 0, 8, .inl (fun _ => 0)))]) (rV (As := [.int (-2)]) (rest := []) (b := qx) ⟨hx, hb, hml, hown, hts⟩ (c_X5_refuse2 l G cy (s.heap).size qx (.ref qt) (.ref qk) (.ref qp) (.ref qs) (.ref qa) qr (.int 0) (.int 0) (.int 0) (fun _ => 0)) L_X5_56 (preWV (q := (RX5, TX5, 9)) hN hP hD [0, 1] rfl (by decide) 0 4 rfl rfl) rfl ⟨Nat.le_of_ble_eq_true rfl, Nat.le_of_ble_eq_true rfl⟩ hl.1 (Nat.le_of_ble_eq_true rfl) dX5_rule_34 ⟨Nat.le_of_ble_eq_true rfl, Nat.le_of_ble_eq_true rfl⟩) hP hD hS hA [0, 1] [2, 3, 4] rfl rfl (by decide) (by decide) (fun r_17 u_19 H locs h_18 hP hD hS => ?_)
        obtain ⟨rfl, h_18⟩ := h_18
        have hP : va_P G CL [(qs, .inr (1, [.ref qsh, .ref qss, .ref qsa, .ref qse])), (qsh, .inl (cy 0, 8, .inl fH)), (qsa, .inl (cy 0, 8, .inl (fun _ => 0))), (qx, .inr (4, [.ref qt, .ref qk, .ref qp, .ref qs, .ref qa, .ref qr, .int 0, .int 0, .int 0]))] H := hP
        have hD : va_D A [(qs, .inr (1, [.ref qsh, .ref qss, .ref qsa, .ref qse])), (qsh, .inl (cy 0, 8, .inl fH)), (qsa, .inl (cy 0, 8, .inl (fun _ => 0))), (qx, .inr (4, [.ref qt, .ref qk, .ref qp, .ref qs, .ref qa, .ref qr, .int 0, .int 0, .int 0]))] := hD
        subst h_18
        exact endW (u := []) hx hb hr hlocks rfl va_P0 va_D0 hS ⟨rfl, (by first | (simp [sp_rule, Iv, hH, h_3, h_7, h_11]; done) | (unfold sp_rule; decide))⟩ dX5_rule_37
    · refine lv_if_eq (tgt := 31) hx hb dX5_rule_16 (by decide) (fun _ => ?_) (fun h9 => absurd (by decide) h9)
      refine lv_aload_n hx hb dX5_rule_31 rfl (lv_at hl 0 rfl) ?_
      refine lv_bipush (v := (-2)) hx hb dX5_rule_32 (by decide) ?_
      refine kWi (wr := [(qs, .inr (1, [.ref qsh, .ref qss, .ref qsa, .ref qse])), (qsh, .inl (cy 0, 8, .inl fH)), (qsa, .inl (cy 0, 8, .inl (fun _ => 0)))]) (rV (As := [.int (-2)]) (rest := []) (b := qx) ⟨hx, hb, hml, hown, hts⟩ (c_X5_refuse2 l G cy (s.heap).size qx (.ref qt) (.ref qk) (.ref qp) (.ref qs) (.ref qa) qr (.int 0) (.int 0) (.int 0) (fun _ => 0)) L_X5_56 (preWV (q := (RX5, TX5, 9)) hN hP hD [0, 1] rfl (by decide) 0 4 rfl rfl) rfl ⟨Nat.le_of_ble_eq_true rfl, Nat.le_of_ble_eq_true rfl⟩ hl.1 (Nat.le_of_ble_eq_true rfl) dX5_rule_34 ⟨Nat.le_of_ble_eq_true rfl, Nat.le_of_ble_eq_true rfl⟩) hP hD hS hA [0, 1] [2, 3, 4] rfl rfl (by decide) (by decide) (fun r_21 u_23 H locs h_22 hP hD hS => ?_)
      obtain ⟨rfl, h_22⟩ := h_22
      have hP : va_P G CL [(qs, .inr (1, [.ref qsh, .ref qss, .ref qsa, .ref qse])), (qsh, .inl (cy 0, 8, .inl fH)), (qsa, .inl (cy 0, 8, .inl (fun _ => 0))), (qx, .inr (4, [.ref qt, .ref qk, .ref qp, .ref qs, .ref qa, .ref qr, .int 0, .int 0, .int 0]))] H := hP
      have hD : va_D A [(qs, .inr (1, [.ref qsh, .ref qss, .ref qsa, .ref qse])), (qsh, .inl (cy 0, 8, .inl fH)), (qsa, .inl (cy 0, 8, .inl (fun _ => 0))), (qx, .inr (4, [.ref qt, .ref qk, .ref qp, .ref qs, .ref qa, .ref qr, .int 0, .int 0, .int 0]))] := hD
      subst h_22
      exact endW (u := []) hx hb hr hlocks rfl va_P0 va_D0 hS ⟨rfl, (by first | (simp [sp_rule, Iv, hH, h_3, h_7]; done) | (unfold sp_rule; decide))⟩ dX5_rule_37
  · refine lv_if_eq (tgt := 31) hx hb dX5_rule_4 (by decide) (fun _ => ?_) (fun h9 => absurd (by decide) h9)
    refine lv_aload_n hx hb dX5_rule_31 rfl (lv_at hl 0 rfl) ?_
    refine lv_bipush (v := (-2)) hx hb dX5_rule_32 (by decide) ?_
    refine kWi (wr := [(qs, .inr (1, [.ref qsh, .ref qss, .ref qsa, .ref qse])), (qsh, .inl (cy 0, 8, .inl fH)), (qsa, .inl (cy 0, 8, .inl (fun _ => 0)))]) (rV (As := [.int (-2)]) (rest := []) (b := qx) ⟨hx, hb, hml, hown, hts⟩ (c_X5_refuse2 l G cy (s.heap).size qx (.ref qt) (.ref qk) (.ref qp) (.ref qs) (.ref qa) qr (.int 0) (.int 0) (.int 0) (fun _ => 0)) L_X5_56 (preWV (q := (RX5, TX5, 9)) hN hP hD [0, 1] rfl (by decide) 0 4 rfl rfl) rfl ⟨Nat.le_of_ble_eq_true rfl, Nat.le_of_ble_eq_true rfl⟩ hl.1 (Nat.le_of_ble_eq_true rfl) dX5_rule_34 ⟨Nat.le_of_ble_eq_true rfl, Nat.le_of_ble_eq_true rfl⟩) hP hD hS hA [0, 1] [2, 3, 4] rfl rfl (by decide) (by decide) (fun r_25 u_27 H locs h_26 hP hD hS => ?_)
    obtain ⟨rfl, h_26⟩ := h_26
    have hP : va_P G CL [(qs, .inr (1, [.ref qsh, .ref qss, .ref qsa, .ref qse])), (qsh, .inl (cy 0, 8, .inl fH)), (qsa, .inl (cy 0, 8, .inl (fun _ => 0))), (qx, .inr (4, [.ref qt, .ref qk, .ref qp, .ref qs, .ref qa, .ref qr, .int 0, .int 0, .int 0]))] H := hP
    have hD : va_D A [(qs, .inr (1, [.ref qsh, .ref qss, .ref qsa, .ref qse])), (qsh, .inl (cy 0, 8, .inl fH)), (qsa, .inl (cy 0, 8, .inl (fun _ => 0))), (qx, .inr (4, [.ref qt, .ref qk, .ref qp, .ref qs, .ref qa, .ref qr, .int 0, .int 0, .int 0]))] := hD
    subst h_26
    exact endW (u := []) hx hb hr hlocks rfl va_P0 va_D0 hS ⟨rfl, (by first | (simp [sp_rule, Iv, hH, h_3]; done) | (unfold sp_rule; decide))⟩ dX5_rule_37
set_option maxHeartbeats 4000000 in
set_option maxRecDepth 100000 in
theorem p_X5_says (l : Launch) (G : va_G) (cy : Nat → ClassId) (sz : Nat) (qx : Nat) (qt : Nat) (qk : Nat) (qp : Nat) (qs : Nat) (qa : Nat) (qr : Nat) (qsh : Nat) (qss : Nat) (qsa : Nat) (qse : Nat) (fH : Nat → Int32) (iA : Int32) (iB : Int32)  (hH : ∀ i, i < 8 → fH i = -1) : MW l yX5_says cX5_says 6 (some .int) 6 0 0 G cy [(qx, .inr (4, [.ref qt, .ref qk, .ref qp, .ref qs, .ref qa, .ref qr, .int 0, .int 0, .int 0])), (qr, .inl (cy 0, 5, .inl (fun _ => 0))), (qs, .inr (1, [.ref qsh, .ref qss, .ref qsa, .ref qse])), (qsh, .inl (cy 0, 8, .inl fH))] sz [.ref qx, .int iA, .int iB] (Wi G (fun r u => u = [] ∧ ((r = (sp_says iA iB))))) := by
  refine enW RX5 (by decide) rfl (Nat.le_of_ble_eq_true rfl) (fun p e s m below meth c ls A hx hb hml hown hts hr hlocks hP hN hl hin hD hA hS => ?_)
  have hin : meth.name = _ := hin
  have hK := hN.1
  have hl : lv_has ls 6 [(0, .ref qx), (1, .int iA), (2, .int iB)] := hl
  refine lv_iload_n hx hb dX5_says_0 rfl (lv_at hl 2 rfl) ?_
  refine lv_i2l (v := iB.toInt64) hx hb dX5_says_1 rfl ?_
  refine lv_lconst (v := 0) hx hb dX5_says_2 (by decide) ?_
  refine lv_ldc2 hx hb hown (hts _ m_t281) dX5_says_3 ?_
  refine kRi (rS (As := [.long iB.toInt64, .long 0, .long 6]) (rest := []) ⟨hx, hb, hml, hown, hts⟩ (c_X5_within l G cy iB.toInt64 0 6) L_X5_50 (preRS hN hP [] rfl) rfl ⟨Nat.le_of_ble_eq_true rfl, Nat.le_of_ble_eq_true rfl⟩ hl.1 (Nat.le_of_ble_eq_true rfl) dX5_says_6 ⟨Nat.le_of_ble_eq_true rfl, Nat.le_of_ble_eq_true rfl⟩) (fun r_1 h_2 => ?_)
  rcases h_2 with ⟨rfl, h_3⟩ | ⟨rfl, h_3⟩
  · refine lv_if_eq (tgt := 20) hx hb dX5_says_9 (by decide) (fun h9 => absurd h9 (by decide)) (fun _ => ?_)
    refine lv_aload_n hx hb dX5_says_12 rfl (lv_at hl 0 rfl) ?_
    refine lv_iload_n hx hb dX5_says_13 rfl (lv_at hl 1 rfl) ?_
    refine kRi (rV (As := [.int iA]) (rest := []) (b := qx) ⟨hx, hb, hml, hown, hts⟩ (c_X5_ruleFit l G cy qx (.ref qt) (.ref qk) (.ref qp) qs (.ref qa) (.ref qr) (.int 0) (.int 0) (.int 0) qsh qss qsa qse fH iA hH) L_X5_100 (preRV (q := (RX5, TX5, 9)) hN hP [0, 2, 3] rfl 0 4 rfl rfl) rfl ⟨Nat.le_of_ble_eq_true rfl, Nat.le_of_ble_eq_true rfl⟩ hl.1 (Nat.le_of_ble_eq_true rfl) dX5_says_14 ⟨Nat.le_of_ble_eq_true rfl, Nat.le_of_ble_eq_true rfl⟩) (fun r_5 h_6 => ?_)
    rcases h_6 with ⟨rfl, h_7⟩ | ⟨rfl, h_7⟩
    · refine lv_goto (tgt := 22) hx hb dX5_says_17 (by decide) ?_
      refine lv_istore_n (lv' := [(3, .int (-2)), (0, .ref qx), (1, .int iA), (2, .int iB)]) hx hb dX5_says_22 rfl hl (by decide) rfl (fun ls hl => ?_)
      refine lv_iload_n hx hb dX5_says_23 rfl (lv_at hl 0 rfl) ?_
      refine lv_if_ne (tgt := 45) hx hb dX5_says_24 (by decide) (fun _ => ?_) (fun h9 => absurd h9 (by decide))
      refine lv_iload_n hx hb dX5_says_45 rfl (lv_at hl 0 rfl) ?_
      refine lv_if_eq (tgt := 55) hx hb dX5_says_46 (by decide) (fun h9 => absurd h9 (by decide)) (fun _ => ?_)
      refine lv_aload_n hx hb dX5_says_49 rfl (lv_at hl 1 rfl) ?_
      refine lv_iload_n hx hb dX5_says_50 rfl (lv_at hl 0 rfl) ?_
      refine kWi (wr := [(qs, .inr (1, [.ref qsh, .ref qss, .ref qsa, .ref qse])), (qsh, .inl (cy 0, 8, .inl fH))]) (rV (As := [.int (-2)]) (rest := []) (b := qx) ⟨hx, hb, hml, hown, hts⟩ (c_X5_refuse2 l G cy (s.heap).size qx (.ref qt) (.ref qk) (.ref qp) (.ref qs) (.ref qa) qr (.int 0) (.int 0) (.int 0) (fun _ => 0)) L_X5_56 (preWV (q := (RX5, TX5, 9)) hN hP hD [0, 1] rfl (by decide) 0 4 rfl rfl) rfl ⟨Nat.le_of_ble_eq_true rfl, Nat.le_of_ble_eq_true rfl⟩ hl.1 (Nat.le_of_ble_eq_true rfl) dX5_says_51 ⟨Nat.le_of_ble_eq_true rfl, Nat.le_of_ble_eq_true rfl⟩) hP hD hS hA [0, 1] [2, 3] rfl rfl (by decide) (by decide) (fun r_10 u_12 H locs h_11 hP hD hS => ?_)
      obtain ⟨rfl, h_11⟩ := h_11
      have hP : va_P G CL [(qs, .inr (1, [.ref qsh, .ref qss, .ref qsa, .ref qse])), (qsh, .inl (cy 0, 8, .inl fH)), (qx, .inr (4, [.ref qt, .ref qk, .ref qp, .ref qs, .ref qa, .ref qr, .int 0, .int 0, .int 0]))] H := hP
      have hD : va_D A [(qs, .inr (1, [.ref qsh, .ref qss, .ref qsa, .ref qse])), (qsh, .inl (cy 0, 8, .inl fH)), (qx, .inr (4, [.ref qt, .ref qk, .ref qp, .ref qs, .ref qa, .ref qr, .int 0, .int 0, .int 0]))] := hD
      subst h_11
      exact endW (u := []) hx hb hr hlocks rfl va_P0 va_D0 hS ⟨rfl, (by first | (simp [sp_says, Iv, hH, h_3, h_7]; done) | (unfold sp_says; decide))⟩ dX5_says_54
    · refine lv_goto (tgt := 22) hx hb dX5_says_17 (by decide) ?_
      refine lv_istore_n (lv' := [(3, .int (-4)), (0, .ref qx), (1, .int iA), (2, .int iB)]) hx hb dX5_says_22 rfl hl (by decide) rfl (fun ls hl => ?_)
      refine lv_iload_n hx hb dX5_says_23 rfl (lv_at hl 0 rfl) ?_
      refine lv_if_ne (tgt := 45) hx hb dX5_says_24 (by decide) (fun _ => ?_) (fun h9 => absurd h9 (by decide))
      refine lv_iload_n hx hb dX5_says_45 rfl (lv_at hl 0 rfl) ?_
      refine lv_if_eq (tgt := 55) hx hb dX5_says_46 (by decide) (fun h9 => absurd h9 (by decide)) (fun _ => ?_)
      refine lv_aload_n hx hb dX5_says_49 rfl (lv_at hl 1 rfl) ?_
      refine lv_iload_n hx hb dX5_says_50 rfl (lv_at hl 0 rfl) ?_
      refine kWi (wr := [(qs, .inr (1, [.ref qsh, .ref qss, .ref qsa, .ref qse])), (qsh, .inl (cy 0, 8, .inl fH))]) (rV (As := [.int (-4)]) (rest := []) (b := qx) ⟨hx, hb, hml, hown, hts⟩ (c_X5_refuse4 l G cy (s.heap).size qx (.ref qt) (.ref qk) (.ref qp) (.ref qs) (.ref qa) qr (.int 0) (.int 0) (.int 0) (fun _ => 0)) L_X5_56 (preWV (q := (RX5, TX5, 9)) hN hP hD [0, 1] rfl (by decide) 0 4 rfl rfl) rfl ⟨Nat.le_of_ble_eq_true rfl, Nat.le_of_ble_eq_true rfl⟩ hl.1 (Nat.le_of_ble_eq_true rfl) dX5_says_51 ⟨Nat.le_of_ble_eq_true rfl, Nat.le_of_ble_eq_true rfl⟩) hP hD hS hA [0, 1] [2, 3] rfl rfl (by decide) (by decide) (fun r_15 u_17 H locs h_16 hP hD hS => ?_)
      obtain ⟨rfl, h_16⟩ := h_16
      have hP : va_P G CL [(qs, .inr (1, [.ref qsh, .ref qss, .ref qsa, .ref qse])), (qsh, .inl (cy 0, 8, .inl fH)), (qx, .inr (4, [.ref qt, .ref qk, .ref qp, .ref qs, .ref qa, .ref qr, .int 0, .int 0, .int 0]))] H := hP
      have hD : va_D A [(qs, .inr (1, [.ref qsh, .ref qss, .ref qsa, .ref qse])), (qsh, .inl (cy 0, 8, .inl fH)), (qx, .inr (4, [.ref qt, .ref qk, .ref qp, .ref qs, .ref qa, .ref qr, .int 0, .int 0, .int 0]))] := hD
      subst h_16
      exact endW (u := []) hx hb hr hlocks rfl va_P0 va_D0 hS ⟨rfl, (by first | (simp [sp_says, Iv, hH, h_3, h_7]; done) | (unfold sp_says; decide))⟩ dX5_says_54
  · refine lv_if_eq (tgt := 20) hx hb dX5_says_9 (by decide) (fun _ => ?_) (fun h9 => absurd (by decide) h9)
    refine lv_bipush (v := (-2)) hx hb dX5_says_20 (by decide) ?_
    refine lv_istore_n (lv' := [(3, .int (-2)), (0, .ref qx), (1, .int iA), (2, .int iB)]) hx hb dX5_says_22 rfl hl (by decide) rfl (fun ls hl => ?_)
    refine lv_iload_n hx hb dX5_says_23 rfl (lv_at hl 0 rfl) ?_
    refine lv_if_ne (tgt := 45) hx hb dX5_says_24 (by decide) (fun _ => ?_) (fun h9 => absurd h9 (by decide))
    refine lv_iload_n hx hb dX5_says_45 rfl (lv_at hl 0 rfl) ?_
    refine lv_if_eq (tgt := 55) hx hb dX5_says_46 (by decide) (fun h9 => absurd h9 (by decide)) (fun _ => ?_)
    refine lv_aload_n hx hb dX5_says_49 rfl (lv_at hl 1 rfl) ?_
    refine lv_iload_n hx hb dX5_says_50 rfl (lv_at hl 0 rfl) ?_
    refine kWi (wr := [(qs, .inr (1, [.ref qsh, .ref qss, .ref qsa, .ref qse])), (qsh, .inl (cy 0, 8, .inl fH))]) (rV (As := [.int (-2)]) (rest := []) (b := qx) ⟨hx, hb, hml, hown, hts⟩ (c_X5_refuse2 l G cy (s.heap).size qx (.ref qt) (.ref qk) (.ref qp) (.ref qs) (.ref qa) qr (.int 0) (.int 0) (.int 0) (fun _ => 0)) L_X5_56 (preWV (q := (RX5, TX5, 9)) hN hP hD [0, 1] rfl (by decide) 0 4 rfl rfl) rfl ⟨Nat.le_of_ble_eq_true rfl, Nat.le_of_ble_eq_true rfl⟩ hl.1 (Nat.le_of_ble_eq_true rfl) dX5_says_51 ⟨Nat.le_of_ble_eq_true rfl, Nat.le_of_ble_eq_true rfl⟩) hP hD hS hA [0, 1] [2, 3] rfl rfl (by decide) (by decide) (fun r_21 u_23 H locs h_22 hP hD hS => ?_)
    obtain ⟨rfl, h_22⟩ := h_22
    have hP : va_P G CL [(qs, .inr (1, [.ref qsh, .ref qss, .ref qsa, .ref qse])), (qsh, .inl (cy 0, 8, .inl fH)), (qx, .inr (4, [.ref qt, .ref qk, .ref qp, .ref qs, .ref qa, .ref qr, .int 0, .int 0, .int 0]))] H := hP
    have hD : va_D A [(qs, .inr (1, [.ref qsh, .ref qss, .ref qsa, .ref qse])), (qsh, .inl (cy 0, 8, .inl fH)), (qx, .inr (4, [.ref qt, .ref qk, .ref qp, .ref qs, .ref qa, .ref qr, .int 0, .int 0, .int 0]))] := hD
    subst h_22
    exact endW (u := []) hx hb hr hlocks rfl va_P0 va_D0 hS ⟨rfl, (by first | (simp [sp_says, Iv, hH, h_3]; done) | (unfold sp_says; decide))⟩ dX5_says_54
set_option maxHeartbeats 4000000 in
set_option maxRecDepth 100000 in
theorem p_X5_book (l : Launch) (G : va_G) (cy : Nat → ClassId) (sz : Nat) (qx : Nat) (qt : Nat) (qk : Nat) (qp : Nat) (qs : Nat) (qa : Nat) (qr : Nat) (qtw : Nat) (qtn : Nat) (qtg : Nat) (qta : Nat) (qtr : Nat) (qtm : Nat) (qtt : Nat) (qts : Nat) (iA : Int32) (iB : Int32)   : MW l yX5_book cX5_book 3 (some .int) 6 0 0 G cy [(qx, .inr (4, [.ref qt, .ref qk, .ref qp, .ref qs, .ref qa, .ref qr, .int 0, .int 0, .int 0])), (qr, .inl (cy 0, 5, .inl (fun _ => 0))), (qt, .inr (3, [.int 0, .int 0, .int 0, .int 0, .int 1, .ref qtw, .ref qtn, .ref qtg, .ref qta, .ref qtr, .ref qtm, .ref qtt, .ref qts])), (qtw, .inl (cy 0, 8, .inl (fun _ => 0))), (qtn, .inl (cy 0, 8, .inl (fun _ => 0))), (qtg, .inl (cy 0, 8, .inl (fun _ => 0)))] sz [.ref qx, .int iA, .int iB] (Wi G (fun r u => u = [] ∧ ((r = (sp_book iA iB))))) := by
  refine enW RX5 (by decide) rfl (Nat.le_of_ble_eq_true rfl) (fun p e s m below meth c ls A hx hb hml hown hts hr hlocks hP hN hl hin hD hA hS => ?_)
  have hin : meth.name = _ := hin
  have hK := hN.1
  have hl : lv_has ls 3 [(0, .ref qx), (1, .int iA), (2, .int iB)] := hl
  refine lv_iload_n hx hb dX5_book_0 rfl (lv_at hl 1 rfl) ?_
  refine lv_i2l (v := iA.toInt64) hx hb dX5_book_1 rfl ?_
  refine lv_lconst (v := 1) hx hb dX5_book_2 (by decide) ?_
  refine lv_ldc2 hx hb hown (hts _ m_t282) dX5_book_3 ?_
  refine kRi (rS (As := [.long iA.toInt64, .long 1, .long 99]) (rest := []) ⟨hx, hb, hml, hown, hts⟩ (c_X5_within l G cy iA.toInt64 1 99) L_X5_50 (preRS hN hP [] rfl) rfl ⟨Nat.le_of_ble_eq_true rfl, Nat.le_of_ble_eq_true rfl⟩ hl.1 (Nat.le_of_ble_eq_true rfl) dX5_book_6 ⟨Nat.le_of_ble_eq_true rfl, Nat.le_of_ble_eq_true rfl⟩) (fun r_1 h_2 => ?_)
  rcases h_2 with ⟨rfl, h_3⟩ | ⟨rfl, h_3⟩
  · refine lv_if_eq (tgt := 26) hx hb dX5_book_9 (by decide) (fun h9 => absurd h9 (by decide)) (fun _ => ?_)
    refine lv_iload_n hx hb dX5_book_12 rfl (lv_at hl 2 rfl) ?_
    refine lv_aload_n hx hb dX5_book_13 rfl (lv_at hl 0 rfl) ?_
    refine va_get (D := G) (ci := 4) (v := .ref qt) (C := RX5) (T := TX5) (N := 9) hx hb hts iX_X5 hown hK hP 0 rfl rfl 0 (by decide) (hts _ m_t174) (fun _ h9 => h9) rfl dX5_book_14 ?_
    refine va_getN (D := G) (ci := 3) (v := .int 0) (C := RX4) (T := TX4) (N := 13) hx hb hts iX_X4 hown hK hP 2 rfl rfl 0 (by decide) (va_Nw.use rfl (hN.2.1 (RX5, 127, "EachBookOnce$Town", "books", "I") (List.mem_of_getElem? (i := 3) rfl))) (fun _ h9 => h9) rfl dX5_book_17 ?_
    refine kRi (rS (As := [.int iB, .int 0]) (rest := []) ⟨hx, hb, hml, hown, hts⟩ (c_X5_isSetOf0 l G cy iB) L_X5_131 (preRS hN hP [] rfl) rfl ⟨Nat.le_of_ble_eq_true rfl, Nat.le_of_ble_eq_true rfl⟩ hl.1 (Nat.le_of_ble_eq_true rfl) dX5_book_20 ⟨Nat.le_of_ble_eq_true rfl, Nat.le_of_ble_eq_true rfl⟩) (fun r_5 h_6 => ?_)
    rcases h_6 with ⟨rfl, h_7⟩ | ⟨rfl, h_7⟩
    · refine lv_if_ne (tgt := 33) hx hb dX5_book_23 (by decide) (fun _ => ?_) (fun h9 => absurd h9 (by decide))
      refine lv_aload_n hx hb dX5_book_33 rfl (lv_at hl 0 rfl) ?_
      refine va_get (D := G) (ci := 4) (v := .ref qt) (C := RX5) (T := TX5) (N := 9) hx hb hts iX_X5 hown hK hP 0 rfl rfl 0 (by decide) (hts _ m_t174) (fun _ h9 => h9) rfl dX5_book_34 ?_
      refine va_getN (D := G) (ci := 3) (v := .int 0) (C := RX4) (T := TX4) (N := 13) hx hb hts iX_X4 hown hK hP 2 rfl rfl 0 (by decide) (va_Nw.use rfl (hN.2.1 (RX5, 127, "EachBookOnce$Town", "books", "I") (List.mem_of_getElem? (i := 3) rfl))) (fun _ h9 => h9) rfl dX5_book_37 ?_
      refine lv_bipush (v := 8) hx hb dX5_book_40 (by decide) ?_
      refine lv_icmp_lt (tgt := 52) hx hb dX5_book_42 (by decide) (fun _ => ?_) (fun h9 => absurd (by decide) h9)
      refine lv_aload_n hx hb dX5_book_52 rfl (lv_at hl 0 rfl) ?_
      refine va_get (D := G) (ci := 4) (v := .ref qt) (C := RX5) (T := TX5) (N := 9) hx hb hts iX_X5 hown hK hP 0 rfl rfl 0 (by decide) (hts _ m_t174) (fun _ h9 => h9) rfl dX5_book_53 ?_
      refine lv_iload_n hx hb dX5_book_56 rfl (lv_at hl 1 rfl) ?_
      refine lv_iload_n hx hb dX5_book_57 rfl (lv_at hl 2 rfl) ?_
      refine kWi (wr := [(qx, .inr (4, [.ref qt, .ref qk, .ref qp, .ref qs, .ref qa, .ref qr, .int 0, .int 0, .int 0])), (qr, .inl (cy 0, 5, .inl (fun _ => 0)))]) (rV (As := [.int iA, .int iB]) (rest := []) (b := qt) ⟨hx, hb, hml, hown, hts⟩ (c_X4_addBook l G cy (s.heap).size qt qtw qtn qtg qta qtr qtm qtt qts iA iB) L_X5_134 (preWV (q := (RX4, TX4, 13)) hN hP hD [2, 3, 4, 5] rfl (by decide) 2 3 rfl rfl) rfl ⟨Nat.le_of_ble_eq_true rfl, Nat.le_of_ble_eq_true rfl⟩ hl.1 (Nat.le_of_ble_eq_true rfl) dX5_book_58 ⟨Nat.le_of_ble_eq_true rfl, Nat.le_of_ble_eq_true rfl⟩) hP hD hS hA [2, 3, 4, 5] [0, 1] rfl rfl (by decide) (by decide) (fun r_10 u_12 H locs h_11 hP hD hS => ?_)
      obtain ⟨rfl, h_11⟩ := h_11
      have hP : va_P G CL [(qx, .inr (4, [.ref qt, .ref qk, .ref qp, .ref qs, .ref qa, .ref qr, .int 0, .int 0, .int 0])), (qr, .inl (cy 0, 5, .inl (fun _ => 0)))] H := hP
      have hD : va_D A [(qx, .inr (4, [.ref qt, .ref qk, .ref qp, .ref qs, .ref qa, .ref qr, .int 0, .int 0, .int 0])), (qr, .inl (cy 0, 5, .inl (fun _ => 0)))] := hD
      subst h_11
      exact endW (u := []) hx hb hr hlocks rfl va_P0 va_D0 hS ⟨rfl, (by first | (simp [sp_book, Iv, h_3, h_7]; done) | (unfold sp_book; decide))⟩ dX5_book_61
    · refine lv_if_ne (tgt := 33) hx hb dX5_book_23 (by decide) (fun h9 => absurd (by decide) h9) (fun _ => ?_)
      refine lv_aload_n hx hb dX5_book_26 rfl (lv_at hl 0 rfl) ?_
      refine lv_bipush (v := (-2)) hx hb dX5_book_27 (by decide) ?_
      refine kWi (wr := [(qt, .inr (3, [.int 0, .int 0, .int 0, .int 0, .int 1, .ref qtw, .ref qtn, .ref qtg, .ref qta, .ref qtr, .ref qtm, .ref qtt, .ref qts])), (qtw, .inl (cy 0, 8, .inl (fun _ => 0))), (qtn, .inl (cy 0, 8, .inl (fun _ => 0))), (qtg, .inl (cy 0, 8, .inl (fun _ => 0)))]) (rV (As := [.int (-2)]) (rest := []) (b := qx) ⟨hx, hb, hml, hown, hts⟩ (c_X5_refuse2 l G cy (s.heap).size qx (.ref qt) (.ref qk) (.ref qp) (.ref qs) (.ref qa) qr (.int 0) (.int 0) (.int 0) (fun _ => 0)) L_X5_56 (preWV (q := (RX5, TX5, 9)) hN hP hD [0, 1] rfl (by decide) 0 4 rfl rfl) rfl ⟨Nat.le_of_ble_eq_true rfl, Nat.le_of_ble_eq_true rfl⟩ hl.1 (Nat.le_of_ble_eq_true rfl) dX5_book_29 ⟨Nat.le_of_ble_eq_true rfl, Nat.le_of_ble_eq_true rfl⟩) hP hD hS hA [0, 1] [2, 3, 4, 5] rfl rfl (by decide) (by decide) (fun r_14 u_16 H locs h_15 hP hD hS => ?_)
      obtain ⟨rfl, h_15⟩ := h_15
      have hP : va_P G CL [(qt, .inr (3, [.int 0, .int 0, .int 0, .int 0, .int 1, .ref qtw, .ref qtn, .ref qtg, .ref qta, .ref qtr, .ref qtm, .ref qtt, .ref qts])), (qtw, .inl (cy 0, 8, .inl (fun _ => 0))), (qtn, .inl (cy 0, 8, .inl (fun _ => 0))), (qtg, .inl (cy 0, 8, .inl (fun _ => 0))), (qx, .inr (4, [.ref qt, .ref qk, .ref qp, .ref qs, .ref qa, .ref qr, .int 0, .int 0, .int 0]))] H := hP
      have hD : va_D A [(qt, .inr (3, [.int 0, .int 0, .int 0, .int 0, .int 1, .ref qtw, .ref qtn, .ref qtg, .ref qta, .ref qtr, .ref qtm, .ref qtt, .ref qts])), (qtw, .inl (cy 0, 8, .inl (fun _ => 0))), (qtn, .inl (cy 0, 8, .inl (fun _ => 0))), (qtg, .inl (cy 0, 8, .inl (fun _ => 0))), (qx, .inr (4, [.ref qt, .ref qk, .ref qp, .ref qs, .ref qa, .ref qr, .int 0, .int 0, .int 0]))] := hD
      subst h_15
      exact endW (u := []) hx hb hr hlocks rfl va_P0 va_D0 hS ⟨rfl, (by first | (simp [sp_book, Iv, h_3, h_7]; done) | (unfold sp_book; decide))⟩ dX5_book_32
  · refine lv_if_eq (tgt := 26) hx hb dX5_book_9 (by decide) (fun _ => ?_) (fun h9 => absurd (by decide) h9)
    refine lv_aload_n hx hb dX5_book_26 rfl (lv_at hl 0 rfl) ?_
    refine lv_bipush (v := (-2)) hx hb dX5_book_27 (by decide) ?_
    refine kWi (wr := [(qt, .inr (3, [.int 0, .int 0, .int 0, .int 0, .int 1, .ref qtw, .ref qtn, .ref qtg, .ref qta, .ref qtr, .ref qtm, .ref qtt, .ref qts])), (qtw, .inl (cy 0, 8, .inl (fun _ => 0))), (qtn, .inl (cy 0, 8, .inl (fun _ => 0))), (qtg, .inl (cy 0, 8, .inl (fun _ => 0)))]) (rV (As := [.int (-2)]) (rest := []) (b := qx) ⟨hx, hb, hml, hown, hts⟩ (c_X5_refuse2 l G cy (s.heap).size qx (.ref qt) (.ref qk) (.ref qp) (.ref qs) (.ref qa) qr (.int 0) (.int 0) (.int 0) (fun _ => 0)) L_X5_56 (preWV (q := (RX5, TX5, 9)) hN hP hD [0, 1] rfl (by decide) 0 4 rfl rfl) rfl ⟨Nat.le_of_ble_eq_true rfl, Nat.le_of_ble_eq_true rfl⟩ hl.1 (Nat.le_of_ble_eq_true rfl) dX5_book_29 ⟨Nat.le_of_ble_eq_true rfl, Nat.le_of_ble_eq_true rfl⟩) hP hD hS hA [0, 1] [2, 3, 4, 5] rfl rfl (by decide) (by decide) (fun r_18 u_20 H locs h_19 hP hD hS => ?_)
    obtain ⟨rfl, h_19⟩ := h_19
    have hP : va_P G CL [(qt, .inr (3, [.int 0, .int 0, .int 0, .int 0, .int 1, .ref qtw, .ref qtn, .ref qtg, .ref qta, .ref qtr, .ref qtm, .ref qtt, .ref qts])), (qtw, .inl (cy 0, 8, .inl (fun _ => 0))), (qtn, .inl (cy 0, 8, .inl (fun _ => 0))), (qtg, .inl (cy 0, 8, .inl (fun _ => 0))), (qx, .inr (4, [.ref qt, .ref qk, .ref qp, .ref qs, .ref qa, .ref qr, .int 0, .int 0, .int 0]))] H := hP
    have hD : va_D A [(qt, .inr (3, [.int 0, .int 0, .int 0, .int 0, .int 1, .ref qtw, .ref qtn, .ref qtg, .ref qta, .ref qtr, .ref qtm, .ref qtt, .ref qts])), (qtw, .inl (cy 0, 8, .inl (fun _ => 0))), (qtn, .inl (cy 0, 8, .inl (fun _ => 0))), (qtg, .inl (cy 0, 8, .inl (fun _ => 0))), (qx, .inr (4, [.ref qt, .ref qk, .ref qp, .ref qs, .ref qa, .ref qr, .int 0, .int 0, .int 0]))] := hD
    subst h_19
    exact endW (u := []) hx hb hr hlocks rfl va_P0 va_D0 hS ⟨rfl, (by first | (simp [sp_book, Iv, h_3]; done) | (unfold sp_book; decide))⟩ dX5_book_32
set_option maxHeartbeats 4000000 in
set_option maxRecDepth 100000 in
theorem p_X5_one (l : Launch) (G : va_G) (cy : Nat → ClassId) (sz : Nat) (qx : Nat) (qt : Nat) (qk : Nat) (qp : Nat) (qs : Nat) (qa : Nat) (qr : Nat) (qtw : Nat) (qtn : Nat) (qtg : Nat) (qta : Nat) (qtr : Nat) (qtm : Nat) (qtt : Nat) (qts : Nat) (iA : Int32) (iB : Int32) (iC : Int32) (iD : Int32)   : MW l yX5_one cX5_one 5 (some .int) 6 0 0 G cy [(qx, .inr (4, [.ref qt, .ref qk, .ref qp, .ref qs, .ref qa, .ref qr, .int 0, .int 0, .int 0])), (qr, .inl (cy 0, 5, .inl (fun _ => 0))), (qt, .inr (3, [.int 0, .int 0, .int 0, .int 0, .int 1, .ref qtw, .ref qtn, .ref qtg, .ref qta, .ref qtr, .ref qtm, .ref qtt, .ref qts])), (qta, .inl (cy 0, 8, .inl (fun _ => 0))), (qtr, .inl (cy 0, 8, .inl (fun _ => 0))), (qtm, .inl (cy 0, 8, .inl (fun _ => 0))), (qtt, .inl (cy 0, 8, .inl (fun _ => 0)))] sz [.ref qx, .int iA, .int iB, .int iC, .int iD] (Wi G (fun r u => u = [] ∧ ((r = (sp_one iA iB iC iD))))) := by
  refine enW RX5 (by decide) rfl (Nat.le_of_ble_eq_true rfl) (fun p e s m below meth c ls A hx hb hml hown hts hr hlocks hP hN hl hin hD hA hS => ?_)
  have hin : meth.name = _ := hin
  have hK := hN.1
  have hl : lv_has ls 5 [(0, .ref qx), (1, .int iA), (2, .int iB), (3, .int iC), (4, .int iD)] := hl
  refine lv_iload_n hx hb dX5_one_0 rfl (lv_at hl 1 rfl) ?_
  refine lv_i2l (v := iA.toInt64) hx hb dX5_one_1 rfl ?_
  refine lv_iload_n hx hb dX5_one_2 rfl (lv_at hl 2 rfl) ?_
  refine lv_i2l (v := iB.toInt64) hx hb dX5_one_3 rfl ?_
  refine lv_iload_n hx hb dX5_one_4 rfl (lv_at hl 3 rfl) ?_
  refine lv_i2l (v := iC.toInt64) hx hb dX5_one_5 rfl ?_
  refine lv_iload hx hb dX5_one_6 (lv_at hl 4 rfl) ?_
  refine lv_i2l (v := iD.toInt64) hx hb dX5_one_8 rfl ?_
  refine kRi (rS (As := [.long iA.toInt64, .long iB.toInt64, .long iC.toInt64, .long iD.toInt64]) (rest := []) ⟨hx, hb, hml, hown, hts⟩ (c_X5_canBeOne l G cy iA.toInt64 iB.toInt64 iC.toInt64 iD.toInt64) L_X5_137 (preRS hN hP [] rfl) rfl ⟨Nat.le_of_ble_eq_true rfl, Nat.le_of_ble_eq_true rfl⟩ hl.1 (Nat.le_of_ble_eq_true rfl) dX5_one_9 ⟨Nat.le_of_ble_eq_true rfl, Nat.le_of_ble_eq_true rfl⟩) (fun r_1 h_2 => ?_)
  rcases h_2 with ⟨rfl, h_3⟩ | ⟨rfl, h_3⟩
  · refine lv_if_ne (tgt := 22) hx hb dX5_one_12 (by decide) (fun _ => ?_) (fun h9 => absurd h9 (by decide))
    refine lv_aload_n hx hb dX5_one_22 rfl (lv_at hl 0 rfl) ?_
    refine va_get (D := G) (ci := 4) (v := .ref qt) (C := RX5) (T := TX5) (N := 9) hx hb hts iX_X5 hown hK hP 0 rfl rfl 0 (by decide) (hts _ m_t174) (fun _ h9 => h9) rfl dX5_one_23 ?_
    refine va_getN (D := G) (ci := 3) (v := .int 0) (C := RX4) (T := TX4) (N := 13) hx hb hts iX_X4 hown hK hP 2 rfl rfl 1 (by decide) (va_Nw.use rfl (hN.2.1 (RX5, 141, "EachBookOnce$Town", "people", "I") (List.mem_of_getElem? (i := 7) rfl))) (fun _ h9 => h9) rfl dX5_one_26 ?_
    refine lv_bipush (v := 8) hx hb dX5_one_29 (by decide) ?_
    refine lv_icmp_lt (tgt := 41) hx hb dX5_one_31 (by decide) (fun _ => ?_) (fun h9 => absurd (by decide) h9)
    refine lv_aload_n hx hb dX5_one_41 rfl (lv_at hl 0 rfl) ?_
    refine va_get (D := G) (ci := 4) (v := .ref qt) (C := RX5) (T := TX5) (N := 9) hx hb hts iX_X5 hown hK hP 0 rfl rfl 0 (by decide) (hts _ m_t174) (fun _ h9 => h9) rfl dX5_one_42 ?_
    refine lv_iload_n hx hb dX5_one_45 rfl (lv_at hl 1 rfl) ?_
    refine lv_iload_n hx hb dX5_one_46 rfl (lv_at hl 2 rfl) ?_
    refine lv_iload_n hx hb dX5_one_47 rfl (lv_at hl 3 rfl) ?_
    refine lv_iload hx hb dX5_one_48 (lv_at hl 4 rfl) ?_
    refine kWi (wr := [(qx, .inr (4, [.ref qt, .ref qk, .ref qp, .ref qs, .ref qa, .ref qr, .int 0, .int 0, .int 0])), (qr, .inl (cy 0, 5, .inl (fun _ => 0)))]) (rV (As := [.int iA, .int iB, .int iC, .int iD]) (rest := []) (b := qt) ⟨hx, hb, hml, hown, hts⟩ (c_X4_addOne l G cy (s.heap).size qt qtw qtn qtg qta qtr qtm qtt qts iA iB iC iD) L_X5_144 (preWV (q := (RX4, TX4, 13)) hN hP hD [2, 3, 4, 5, 6] rfl (by decide) 2 3 rfl rfl) rfl ⟨Nat.le_of_ble_eq_true rfl, Nat.le_of_ble_eq_true rfl⟩ hl.1 (Nat.le_of_ble_eq_true rfl) dX5_one_50 ⟨Nat.le_of_ble_eq_true rfl, Nat.le_of_ble_eq_true rfl⟩) hP hD hS hA [2, 3, 4, 5, 6] [0, 1] rfl rfl (by decide) (by decide) (fun r_6 u_8 H locs h_7 hP hD hS => ?_)
    obtain ⟨rfl, h_7⟩ := h_7
    have hP : va_P G CL [(qx, .inr (4, [.ref qt, .ref qk, .ref qp, .ref qs, .ref qa, .ref qr, .int 0, .int 0, .int 0])), (qr, .inl (cy 0, 5, .inl (fun _ => 0)))] H := hP
    have hD : va_D A [(qx, .inr (4, [.ref qt, .ref qk, .ref qp, .ref qs, .ref qa, .ref qr, .int 0, .int 0, .int 0])), (qr, .inl (cy 0, 5, .inl (fun _ => 0)))] := hD
    subst h_7
    exact endW (u := []) hx hb hr hlocks rfl va_P0 va_D0 hS ⟨rfl, (by first | (simp [sp_one, Iv, h_3]; done) | (unfold sp_one; decide))⟩ dX5_one_53
  · refine lv_if_ne (tgt := 22) hx hb dX5_one_12 (by decide) (fun h9 => absurd (by decide) h9) (fun _ => ?_)
    refine lv_aload_n hx hb dX5_one_15 rfl (lv_at hl 0 rfl) ?_
    refine lv_bipush (v := (-2)) hx hb dX5_one_16 (by decide) ?_
    refine kWi (wr := [(qt, .inr (3, [.int 0, .int 0, .int 0, .int 0, .int 1, .ref qtw, .ref qtn, .ref qtg, .ref qta, .ref qtr, .ref qtm, .ref qtt, .ref qts])), (qta, .inl (cy 0, 8, .inl (fun _ => 0))), (qtr, .inl (cy 0, 8, .inl (fun _ => 0))), (qtm, .inl (cy 0, 8, .inl (fun _ => 0))), (qtt, .inl (cy 0, 8, .inl (fun _ => 0)))]) (rV (As := [.int (-2)]) (rest := []) (b := qx) ⟨hx, hb, hml, hown, hts⟩ (c_X5_refuse2 l G cy (s.heap).size qx (.ref qt) (.ref qk) (.ref qp) (.ref qs) (.ref qa) qr (.int 0) (.int 0) (.int 0) (fun _ => 0)) L_X5_56 (preWV (q := (RX5, TX5, 9)) hN hP hD [0, 1] rfl (by decide) 0 4 rfl rfl) rfl ⟨Nat.le_of_ble_eq_true rfl, Nat.le_of_ble_eq_true rfl⟩ hl.1 (Nat.le_of_ble_eq_true rfl) dX5_one_18 ⟨Nat.le_of_ble_eq_true rfl, Nat.le_of_ble_eq_true rfl⟩) hP hD hS hA [0, 1] [2, 3, 4, 5, 6] rfl rfl (by decide) (by decide) (fun r_10 u_12 H locs h_11 hP hD hS => ?_)
    obtain ⟨rfl, h_11⟩ := h_11
    have hP : va_P G CL [(qt, .inr (3, [.int 0, .int 0, .int 0, .int 0, .int 1, .ref qtw, .ref qtn, .ref qtg, .ref qta, .ref qtr, .ref qtm, .ref qtt, .ref qts])), (qta, .inl (cy 0, 8, .inl (fun _ => 0))), (qtr, .inl (cy 0, 8, .inl (fun _ => 0))), (qtm, .inl (cy 0, 8, .inl (fun _ => 0))), (qtt, .inl (cy 0, 8, .inl (fun _ => 0))), (qx, .inr (4, [.ref qt, .ref qk, .ref qp, .ref qs, .ref qa, .ref qr, .int 0, .int 0, .int 0]))] H := hP
    have hD : va_D A [(qt, .inr (3, [.int 0, .int 0, .int 0, .int 0, .int 1, .ref qtw, .ref qtn, .ref qtg, .ref qta, .ref qtr, .ref qtm, .ref qtt, .ref qts])), (qta, .inl (cy 0, 8, .inl (fun _ => 0))), (qtr, .inl (cy 0, 8, .inl (fun _ => 0))), (qtm, .inl (cy 0, 8, .inl (fun _ => 0))), (qtt, .inl (cy 0, 8, .inl (fun _ => 0))), (qx, .inr (4, [.ref qt, .ref qk, .ref qp, .ref qs, .ref qa, .ref qr, .int 0, .int 0, .int 0]))] := hD
    subst h_11
    exact endW (u := []) hx hb hr hlocks rfl va_P0 va_D0 hS ⟨rfl, (by first | (simp [sp_one, Iv, h_3]; done) | (unfold sp_one; decide))⟩ dX5_one_21
set_option maxHeartbeats 4000000 in
set_option maxRecDepth 100000 in
theorem p_X5_ones (l : Launch) (G : va_G) (cy : Nat → ClassId) (sz : Nat) (qx : Nat) (qt : Nat) (qk : Nat) (qp : Nat) (qs : Nat) (qa : Nat) (qr : Nat) (qsh : Nat) (qss : Nat) (qsa : Nat) (qse : Nat) (fH : Nat → Int32) (iA : Int32) (iB : Int32)  (hH : ∀ i, i < 8 → fH i = -1) : MW l yX5_ones cX5_ones 14 (some .int) 6 0 0 G cy [(qx, .inr (4, [.ref qt, .ref qk, .ref qp, .ref qs, .ref qa, .ref qr, .int 0, .int 0, .int 0])), (qr, .inl (cy 0, 5, .inl (fun _ => 0))), (qs, .inr (1, [.ref qsh, .ref qss, .ref qsa, .ref qse])), (qsh, .inl (cy 0, 8, .inl fH))] sz [.ref qx, .int iA, .int iB] (Wi G (fun r u => u = [] ∧ ((r = (sp_shelf iA))))) := by
  refine enW RX5 (by decide) rfl (Nat.le_of_ble_eq_true rfl) (fun p e s m below meth c ls A hx hb hml hown hts hr hlocks hP hN hl hin hD hA hS => ?_)
  have hin : meth.name = _ := hin
  have hK := hN.1
  have hl : lv_has ls 14 [(0, .ref qx), (1, .int iA), (2, .int iB)] := hl
  refine lv_aload_n hx hb dX5_ones_0 rfl (lv_at hl 0 rfl) ?_
  refine lv_iload_n hx hb dX5_ones_1 rfl (lv_at hl 1 rfl) ?_
  refine kRi (rV (As := [.int iA]) (rest := []) (b := qx) ⟨hx, hb, hml, hown, hts⟩ (c_X5_rowFit l G cy qx (.ref qt) (.ref qk) (.ref qp) qs (.ref qa) (.ref qr) (.int 0) (.int 0) (.int 0) qsh qss qsa qse fH iA hH) L_X5_64 (preRV (q := (RX5, TX5, 9)) hN hP [0, 2, 3] rfl 0 4 rfl rfl) rfl ⟨Nat.le_of_ble_eq_true rfl, Nat.le_of_ble_eq_true rfl⟩ hl.1 (Nat.le_of_ble_eq_true rfl) dX5_ones_2 ⟨Nat.le_of_ble_eq_true rfl, Nat.le_of_ble_eq_true rfl⟩) (fun r_1 h_2 => ?_)
  rcases h_2 with ⟨rfl, h_3⟩ | ⟨rfl, h_3⟩
  · refine lv_istore_n (lv' := [(3, .int (-2)), (0, .ref qx), (1, .int iA), (2, .int iB)]) hx hb dX5_ones_5 rfl hl (by decide) rfl (fun ls hl => ?_)
    refine lv_iload_n hx hb dX5_ones_6 rfl (lv_at hl 0 rfl) ?_
    refine lv_if_ne (tgt := 38) hx hb dX5_ones_7 (by decide) (fun _ => ?_) (fun h9 => absurd h9 (by decide))
    refine lv_iload_n hx hb dX5_ones_38 rfl (lv_at hl 0 rfl) ?_
    refine lv_if_eq (tgt := 48) hx hb dX5_ones_39 (by decide) (fun h9 => absurd h9 (by decide)) (fun _ => ?_)
    refine lv_aload_n hx hb dX5_ones_42 rfl (lv_at hl 1 rfl) ?_
    refine lv_iload_n hx hb dX5_ones_43 rfl (lv_at hl 0 rfl) ?_
    refine kWi (wr := [(qs, .inr (1, [.ref qsh, .ref qss, .ref qsa, .ref qse])), (qsh, .inl (cy 0, 8, .inl fH))]) (rV (As := [.int (-2)]) (rest := []) (b := qx) ⟨hx, hb, hml, hown, hts⟩ (c_X5_refuse2 l G cy (s.heap).size qx (.ref qt) (.ref qk) (.ref qp) (.ref qs) (.ref qa) qr (.int 0) (.int 0) (.int 0) (fun _ => 0)) L_X5_56 (preWV (q := (RX5, TX5, 9)) hN hP hD [0, 1] rfl (by decide) 0 4 rfl rfl) rfl ⟨Nat.le_of_ble_eq_true rfl, Nat.le_of_ble_eq_true rfl⟩ hl.1 (Nat.le_of_ble_eq_true rfl) dX5_ones_44 ⟨Nat.le_of_ble_eq_true rfl, Nat.le_of_ble_eq_true rfl⟩) hP hD hS hA [0, 1] [2, 3] rfl rfl (by decide) (by decide) (fun r_6 u_8 H locs h_7 hP hD hS => ?_)
    obtain ⟨rfl, h_7⟩ := h_7
    have hP : va_P G CL [(qs, .inr (1, [.ref qsh, .ref qss, .ref qsa, .ref qse])), (qsh, .inl (cy 0, 8, .inl fH)), (qx, .inr (4, [.ref qt, .ref qk, .ref qp, .ref qs, .ref qa, .ref qr, .int 0, .int 0, .int 0]))] H := hP
    have hD : va_D A [(qs, .inr (1, [.ref qsh, .ref qss, .ref qsa, .ref qse])), (qsh, .inl (cy 0, 8, .inl fH)), (qx, .inr (4, [.ref qt, .ref qk, .ref qp, .ref qs, .ref qa, .ref qr, .int 0, .int 0, .int 0]))] := hD
    subst h_7
    exact endW (u := []) hx hb hr hlocks rfl va_P0 va_D0 hS ⟨rfl, (by first | (simp [sp_shelf, Iv, hH, h_3]; done) | (unfold sp_shelf; decide))⟩ dX5_ones_47
  · refine lv_istore_n (lv' := [(3, .int (-4)), (0, .ref qx), (1, .int iA), (2, .int iB)]) hx hb dX5_ones_5 rfl hl (by decide) rfl (fun ls hl => ?_)
    refine lv_iload_n hx hb dX5_ones_6 rfl (lv_at hl 0 rfl) ?_
    refine lv_if_ne (tgt := 38) hx hb dX5_ones_7 (by decide) (fun _ => ?_) (fun h9 => absurd h9 (by decide))
    refine lv_iload_n hx hb dX5_ones_38 rfl (lv_at hl 0 rfl) ?_
    refine lv_if_eq (tgt := 48) hx hb dX5_ones_39 (by decide) (fun h9 => absurd h9 (by decide)) (fun _ => ?_)
    refine lv_aload_n hx hb dX5_ones_42 rfl (lv_at hl 1 rfl) ?_
    refine lv_iload_n hx hb dX5_ones_43 rfl (lv_at hl 0 rfl) ?_
    refine kWi (wr := [(qs, .inr (1, [.ref qsh, .ref qss, .ref qsa, .ref qse])), (qsh, .inl (cy 0, 8, .inl fH))]) (rV (As := [.int (-4)]) (rest := []) (b := qx) ⟨hx, hb, hml, hown, hts⟩ (c_X5_refuse4 l G cy (s.heap).size qx (.ref qt) (.ref qk) (.ref qp) (.ref qs) (.ref qa) qr (.int 0) (.int 0) (.int 0) (fun _ => 0)) L_X5_56 (preWV (q := (RX5, TX5, 9)) hN hP hD [0, 1] rfl (by decide) 0 4 rfl rfl) rfl ⟨Nat.le_of_ble_eq_true rfl, Nat.le_of_ble_eq_true rfl⟩ hl.1 (Nat.le_of_ble_eq_true rfl) dX5_ones_44 ⟨Nat.le_of_ble_eq_true rfl, Nat.le_of_ble_eq_true rfl⟩) hP hD hS hA [0, 1] [2, 3] rfl rfl (by decide) (by decide) (fun r_11 u_13 H locs h_12 hP hD hS => ?_)
    obtain ⟨rfl, h_12⟩ := h_12
    have hP : va_P G CL [(qs, .inr (1, [.ref qsh, .ref qss, .ref qsa, .ref qse])), (qsh, .inl (cy 0, 8, .inl fH)), (qx, .inr (4, [.ref qt, .ref qk, .ref qp, .ref qs, .ref qa, .ref qr, .int 0, .int 0, .int 0]))] H := hP
    have hD : va_D A [(qs, .inr (1, [.ref qsh, .ref qss, .ref qsa, .ref qse])), (qsh, .inl (cy 0, 8, .inl fH)), (qx, .inr (4, [.ref qt, .ref qk, .ref qp, .ref qs, .ref qa, .ref qr, .int 0, .int 0, .int 0]))] := hD
    subst h_12
    exact endW (u := []) hx hb hr hlocks rfl va_P0 va_D0 hS ⟨rfl, (by first | (simp [sp_shelf, Iv, hH, h_3]; done) | (unfold sp_shelf; decide))⟩ dX5_ones_47
set_option maxHeartbeats 4000000 in
set_option maxRecDepth 100000 in
theorem p_X5_feed (l : Launch) (G : va_G) (cy : Nat → ClassId) (sz : Nat) (qx : Nat) (qt : Nat) (qk : Nat) (qp : Nat) (qs : Nat) (qa : Nat) (qr : Nat) (qab : Nat) (qd : Nat) (iA : Int32) (iB : Int32)   : MW l yX5_feed cX5_feed 4 (some .int) 6 0 0 G cy [(qx, .inr (4, [.ref qt, .ref qk, .ref qp, .ref qs, .ref qa, .ref qr, .int 0, .int 0, .int 0])), (qr, .inl (cy 0, 5, .inl (fun _ => 0))), (qa, .inr (2, [.ref qab, .int 0, .int 0, .int 0, .int 0, .int 0, .ref qd])), (qab, .inl (cy 2, 250, .inl (fun _ => 0)))] sz [.ref qx, .int iA, .int iB] (Wi G (fun r u => u = [] ∧ ((r = (sp_feed iB))))) := by
  refine enW RX5 (by decide) rfl (Nat.le_of_ble_eq_true rfl) (fun p e s m below meth c ls A hx hb hml hown hts hr hlocks hP hN hl hin hD hA hS => ?_)
  have hin : meth.name = _ := hin
  have hK := hN.1
  have hl : lv_has ls 4 [(0, .ref qx), (1, .int iA), (2, .int iB)] := hl
  refine lv_iload_n hx hb dX5_feed_0 rfl (lv_at hl 2 rfl) ?_
  refine lv_i2l (v := iB.toInt64) hx hb dX5_feed_1 rfl ?_
  refine lv_lconst (v := 1) hx hb dX5_feed_2 (by decide) ?_
  refine lv_ldc2 hx hb hown (hts _ m_t213) dX5_feed_3 ?_
  refine kRi (rS (As := [.long iB.toInt64, .long 1, .long 4]) (rest := []) ⟨hx, hb, hml, hown, hts⟩ (c_X5_within l G cy iB.toInt64 1 4) L_X5_50 (preRS hN hP [] rfl) rfl ⟨Nat.le_of_ble_eq_true rfl, Nat.le_of_ble_eq_true rfl⟩ hl.1 (Nat.le_of_ble_eq_true rfl) dX5_feed_6 ⟨Nat.le_of_ble_eq_true rfl, Nat.le_of_ble_eq_true rfl⟩) (fun r_1 h_2 => ?_)
  rcases h_2 with ⟨rfl, h_3⟩ | ⟨rfl, h_3⟩
  · refine lv_if_ne (tgt := 19) hx hb dX5_feed_9 (by decide) (fun _ => ?_) (fun h9 => absurd h9 (by decide))
    rcases in14 h_3 with rfl | rfl | rfl | rfl
    · refine lv_aload_n hx hb dX5_feed_19 rfl (lv_at hl 0 rfl) ?_
      refine va_get (D := G) (ci := 4) (v := .ref qa) (C := RX5) (T := TX5) (N := 9) hx hb hts iX_X5 hown hK hP 0 rfl rfl 4 (by decide) (hts _ m_t178) (fun _ h9 => h9) rfl dX5_feed_20 ?_
      refine va_getN (D := G) (ci := 2) (v := .int 0) (C := RX3) (T := TX3) (N := 7) hx hb hts iX_X3 hown hK hP 2 rfl rfl 1 (by decide) (va_Nw.use rfl (hN.2.1 (RX5, 148, "EachBookOnce$Tape", "size", "I") (List.mem_of_getElem? (i := 29) rfl))) (fun _ h9 => h9) rfl dX5_feed_23 ?_
      refine lv_sipush (v := 250) hx hb dX5_feed_26 (by decide) ?_
      refine lv_iload_n hx hb dX5_feed_29 rfl (lv_at hl 2 rfl) ?_
      refine lv_isub hx hb dX5_feed_30 ?_
      refine lv_seti (v := 249) (by decide) ?_
      refine lv_icmp_le (tgt := 41) hx hb dX5_feed_31 (by decide) (fun _ => ?_) (fun h9 => absurd (by decide) h9)
      refine lv_bipush (v := 8) hx hb dX5_feed_41 (by decide) ?_
      refine lv_iload_n hx hb dX5_feed_43 rfl (lv_at hl 2 rfl) ?_
      refine lv_iconst (v := 1) hx hb dX5_feed_44 (by decide) ?_
      refine lv_isub hx hb dX5_feed_45 ?_
      refine lv_seti (v := 0) (by decide) ?_
      refine lv_imul hx hb dX5_feed_46 ?_
      refine lv_seti (v := 0) (by decide) ?_
      refine lv_istore_n (lv' := [(3, .int 0), (0, .ref qx), (1, .int iA), (2, .int 1)]) hx hb dX5_feed_47 rfl hl (by decide) rfl (fun ls hl => ?_)
      refine lv_iload_n hx hb dX5_feed_48 rfl (lv_at hl 0 rfl) ?_
      refine lv_if_lt (tgt := 69) hx hb dX5_feed_49 (by decide) (fun h9 => absurd h9 (by decide)) (fun _ => ?_)
      refine lv_aload_n hx hb dX5_feed_52 rfl (lv_at hl 1 rfl) ?_
      refine va_get (D := G) (ci := 4) (v := .ref qa) (C := RX5) (T := TX5) (N := 9) hx hb hts iX_X5 hown hK hP 0 rfl rfl 4 (by decide) (hts _ m_t178) (fun _ h9 => h9) rfl dX5_feed_53 ?_
      refine lv_iload_n hx hb dX5_feed_56 rfl (lv_at hl 2 rfl) ?_
      refine lv_iload_n hx hb dX5_feed_57 rfl (lv_at hl 0 rfl) ?_
      refine lv_ishr hx hb dX5_feed_58 ?_
      refine lv_i2b (v := (iA >>> (0 &&& 31)).toInt8.toInt32) hx hb dX5_feed_59 rfl ?_
      refine kWv (wr := [(qx, .inr (4, [.ref qt, .ref qk, .ref qp, .ref qs, .ref qa, .ref qr, .int 0, .int 0, .int 0])), (qr, .inl (cy 0, 5, .inl (fun _ => 0)))]) (rV (As := [.int ((iA >>> (0 &&& 31)).toInt8.toInt32)]) (rest := []) (b := qa) ⟨hx, hb, hml, hown, hts⟩ (c_X3_append0 l G cy (s.heap).size qa qab (.int 0) (.int 0) (.int 0) (.int 0) (.ref qd) (fun _ => 0) ((iA >>> (0 &&& 31)).toInt8.toInt32)) L_X5_150 (preWV (q := (RX3, TX3, 7)) hN hP hD [2, 3] rfl (by decide) 2 2 rfl rfl) rfl ⟨Nat.le_of_ble_eq_true rfl, Nat.le_of_ble_eq_true rfl⟩ hl.1 (Nat.le_of_ble_eq_true rfl) dX5_feed_60 ⟨Nat.le_of_ble_eq_true rfl, Nat.le_of_ble_eq_true rfl⟩) hP hD hS hA [2, 3] [0, 1] rfl rfl (by decide) (by decide) (fun u_9 H locs h_8 hP hD hS => ?_)
      obtain ⟨fN_10, rfl⟩ := h_8
      have hP : va_P G CL [(qx, .inr (4, [.ref qt, .ref qk, .ref qp, .ref qs, .ref qa, .ref qr, .int 0, .int 0, .int 0])), (qr, .inl (cy 0, 5, .inl (fun _ => 0))), (qa, .inr (2, [.ref qab, .int 1, .int 0, .int 0, .int 0, .int 0, .ref qd])), (qab, .inl (cy 2, 250, .inl fN_10))] H := hP
      have hD : va_D A [(qx, .inr (4, [.ref qt, .ref qk, .ref qp, .ref qs, .ref qa, .ref qr, .int 0, .int 0, .int 0])), (qr, .inl (cy 0, 5, .inl (fun _ => 0))), (qa, .inr (2, [.ref qab, .int 1, .int 0, .int 0, .int 0, .int 0, .ref qd])), (qab, .inl (cy 2, 250, .inl fN_10))] := hD
      refine lv_iinc (v := (-8)) (lv' := [(3, .int (-8)), (0, .ref qx), (1, .int iA), (2, .int 1)]) hx hb dX5_feed_63 hl (k := 0) rfl (by decide) (by decide) rfl (fun ls hl => ?_)
      refine lv_goto (tgt := 48) hx hb dX5_feed_66 (by decide) ?_
      refine lv_iload_n hx hb dX5_feed_48 rfl (lv_at hl 0 rfl) ?_
      refine lv_if_lt (tgt := 69) hx hb dX5_feed_49 (by decide) (fun _ => ?_) (fun h9 => absurd (by decide) h9)
      refine lv_aload_n hx hb dX5_feed_69 rfl (lv_at hl 1 rfl) ?_
      refine va_get (D := G) (ci := 4) (v := .ref qa) (C := RX5) (T := TX5) (N := 9) hx hb hts iX_X5 hown hK hP 0 rfl rfl 4 (by decide) (hts _ m_t178) (fun _ h9 => h9) rfl dX5_feed_70 ?_
      refine va_getN (D := G) (ci := 2) (v := .int 1) (C := RX3) (T := TX3) (N := 7) hx hb hts iX_X3 hown hK hP 2 rfl rfl 1 (by decide) (va_Nw.use rfl (hN.2.1 (RX5, 148, "EachBookOnce$Tape", "size", "I") (List.mem_of_getElem? (i := 29) rfl))) (fun _ h9 => h9) rfl dX5_feed_73 ?_
      exact endW (u := []) hx hb hr hlocks rfl va_P0 va_D0 hS ⟨rfl, (by first | (simp [sp_feed, Iv, h_3]; done) | (unfold sp_feed; decide))⟩ dX5_feed_76
    · refine lv_aload_n hx hb dX5_feed_19 rfl (lv_at hl 0 rfl) ?_
      refine va_get (D := G) (ci := 4) (v := .ref qa) (C := RX5) (T := TX5) (N := 9) hx hb hts iX_X5 hown hK hP 0 rfl rfl 4 (by decide) (hts _ m_t178) (fun _ h9 => h9) rfl dX5_feed_20 ?_
      refine va_getN (D := G) (ci := 2) (v := .int 0) (C := RX3) (T := TX3) (N := 7) hx hb hts iX_X3 hown hK hP 2 rfl rfl 1 (by decide) (va_Nw.use rfl (hN.2.1 (RX5, 148, "EachBookOnce$Tape", "size", "I") (List.mem_of_getElem? (i := 29) rfl))) (fun _ h9 => h9) rfl dX5_feed_23 ?_
      refine lv_sipush (v := 250) hx hb dX5_feed_26 (by decide) ?_
      refine lv_iload_n hx hb dX5_feed_29 rfl (lv_at hl 2 rfl) ?_
      refine lv_isub hx hb dX5_feed_30 ?_
      refine lv_seti (v := 248) (by decide) ?_
      refine lv_icmp_le (tgt := 41) hx hb dX5_feed_31 (by decide) (fun _ => ?_) (fun h9 => absurd (by decide) h9)
      refine lv_bipush (v := 8) hx hb dX5_feed_41 (by decide) ?_
      refine lv_iload_n hx hb dX5_feed_43 rfl (lv_at hl 2 rfl) ?_
      refine lv_iconst (v := 1) hx hb dX5_feed_44 (by decide) ?_
      refine lv_isub hx hb dX5_feed_45 ?_
      refine lv_seti (v := 1) (by decide) ?_
      refine lv_imul hx hb dX5_feed_46 ?_
      refine lv_seti (v := 8) (by decide) ?_
      refine lv_istore_n (lv' := [(3, .int 8), (0, .ref qx), (1, .int iA), (2, .int 2)]) hx hb dX5_feed_47 rfl hl (by decide) rfl (fun ls hl => ?_)
      refine lv_iload_n hx hb dX5_feed_48 rfl (lv_at hl 0 rfl) ?_
      refine lv_if_lt (tgt := 69) hx hb dX5_feed_49 (by decide) (fun h9 => absurd h9 (by decide)) (fun _ => ?_)
      refine lv_aload_n hx hb dX5_feed_52 rfl (lv_at hl 1 rfl) ?_
      refine va_get (D := G) (ci := 4) (v := .ref qa) (C := RX5) (T := TX5) (N := 9) hx hb hts iX_X5 hown hK hP 0 rfl rfl 4 (by decide) (hts _ m_t178) (fun _ h9 => h9) rfl dX5_feed_53 ?_
      refine lv_iload_n hx hb dX5_feed_56 rfl (lv_at hl 2 rfl) ?_
      refine lv_iload_n hx hb dX5_feed_57 rfl (lv_at hl 0 rfl) ?_
      refine lv_ishr hx hb dX5_feed_58 ?_
      refine lv_i2b (v := (iA >>> (8 &&& 31)).toInt8.toInt32) hx hb dX5_feed_59 rfl ?_
      refine kWv (wr := [(qx, .inr (4, [.ref qt, .ref qk, .ref qp, .ref qs, .ref qa, .ref qr, .int 0, .int 0, .int 0])), (qr, .inl (cy 0, 5, .inl (fun _ => 0)))]) (rV (As := [.int ((iA >>> (8 &&& 31)).toInt8.toInt32)]) (rest := []) (b := qa) ⟨hx, hb, hml, hown, hts⟩ (c_X3_append0 l G cy (s.heap).size qa qab (.int 0) (.int 0) (.int 0) (.int 0) (.ref qd) (fun _ => 0) ((iA >>> (8 &&& 31)).toInt8.toInt32)) L_X5_150 (preWV (q := (RX3, TX3, 7)) hN hP hD [2, 3] rfl (by decide) 2 2 rfl rfl) rfl ⟨Nat.le_of_ble_eq_true rfl, Nat.le_of_ble_eq_true rfl⟩ hl.1 (Nat.le_of_ble_eq_true rfl) dX5_feed_60 ⟨Nat.le_of_ble_eq_true rfl, Nat.le_of_ble_eq_true rfl⟩) hP hD hS hA [2, 3] [0, 1] rfl rfl (by decide) (by decide) (fun u_16 H locs h_15 hP hD hS => ?_)
      obtain ⟨fN_17, rfl⟩ := h_15
      have hP : va_P G CL [(qx, .inr (4, [.ref qt, .ref qk, .ref qp, .ref qs, .ref qa, .ref qr, .int 0, .int 0, .int 0])), (qr, .inl (cy 0, 5, .inl (fun _ => 0))), (qa, .inr (2, [.ref qab, .int 1, .int 0, .int 0, .int 0, .int 0, .ref qd])), (qab, .inl (cy 2, 250, .inl fN_17))] H := hP
      have hD : va_D A [(qx, .inr (4, [.ref qt, .ref qk, .ref qp, .ref qs, .ref qa, .ref qr, .int 0, .int 0, .int 0])), (qr, .inl (cy 0, 5, .inl (fun _ => 0))), (qa, .inr (2, [.ref qab, .int 1, .int 0, .int 0, .int 0, .int 0, .ref qd])), (qab, .inl (cy 2, 250, .inl fN_17))] := hD
      refine lv_iinc (v := 0) (lv' := [(3, .int 0), (0, .ref qx), (1, .int iA), (2, .int 2)]) hx hb dX5_feed_63 hl (k := 0) rfl (by decide) (by decide) rfl (fun ls hl => ?_)
      refine lv_goto (tgt := 48) hx hb dX5_feed_66 (by decide) ?_
      refine lv_iload_n hx hb dX5_feed_48 rfl (lv_at hl 0 rfl) ?_
      refine lv_if_lt (tgt := 69) hx hb dX5_feed_49 (by decide) (fun h9 => absurd h9 (by decide)) (fun _ => ?_)
      refine lv_aload_n hx hb dX5_feed_52 rfl (lv_at hl 1 rfl) ?_
      refine va_get (D := G) (ci := 4) (v := .ref qa) (C := RX5) (T := TX5) (N := 9) hx hb hts iX_X5 hown hK hP 0 rfl rfl 4 (by decide) (hts _ m_t178) (fun _ h9 => h9) rfl dX5_feed_53 ?_
      refine lv_iload_n hx hb dX5_feed_56 rfl (lv_at hl 2 rfl) ?_
      refine lv_iload_n hx hb dX5_feed_57 rfl (lv_at hl 0 rfl) ?_
      refine lv_ishr hx hb dX5_feed_58 ?_
      refine lv_i2b (v := (iA >>> (0 &&& 31)).toInt8.toInt32) hx hb dX5_feed_59 rfl ?_
      refine kWv (wr := [(qx, .inr (4, [.ref qt, .ref qk, .ref qp, .ref qs, .ref qa, .ref qr, .int 0, .int 0, .int 0])), (qr, .inl (cy 0, 5, .inl (fun _ => 0)))]) (rV (As := [.int ((iA >>> (0 &&& 31)).toInt8.toInt32)]) (rest := []) (b := qa) ⟨hx, hb, hml, hown, hts⟩ (c_X3_append1 l G cy (H).size qa qab (.int 0) (.int 0) (.int 0) (.int 0) (.ref qd) fN_17 ((iA >>> (0 &&& 31)).toInt8.toInt32)) L_X5_150 (preWV (q := (RX3, TX3, 7)) hN hP hD [2, 3] rfl (by decide) 2 2 rfl rfl) rfl ⟨Nat.le_of_ble_eq_true rfl, Nat.le_of_ble_eq_true rfl⟩ hl.1 (Nat.le_of_ble_eq_true rfl) dX5_feed_60 ⟨Nat.le_of_ble_eq_true rfl, Nat.le_of_ble_eq_true rfl⟩) hP hD hS hA [2, 3] [0, 1] rfl rfl (by decide) (by decide) (fun u_21 H locs h_20 hP hD hS => ?_)
      obtain ⟨fN_22, rfl⟩ := h_20
      have hP : va_P G CL [(qx, .inr (4, [.ref qt, .ref qk, .ref qp, .ref qs, .ref qa, .ref qr, .int 0, .int 0, .int 0])), (qr, .inl (cy 0, 5, .inl (fun _ => 0))), (qa, .inr (2, [.ref qab, .int 2, .int 0, .int 0, .int 0, .int 0, .ref qd])), (qab, .inl (cy 2, 250, .inl fN_22))] H := hP
      have hD : va_D A [(qx, .inr (4, [.ref qt, .ref qk, .ref qp, .ref qs, .ref qa, .ref qr, .int 0, .int 0, .int 0])), (qr, .inl (cy 0, 5, .inl (fun _ => 0))), (qa, .inr (2, [.ref qab, .int 2, .int 0, .int 0, .int 0, .int 0, .ref qd])), (qab, .inl (cy 2, 250, .inl fN_22))] := hD
      refine lv_iinc (v := (-8)) (lv' := [(3, .int (-8)), (0, .ref qx), (1, .int iA), (2, .int 2)]) hx hb dX5_feed_63 hl (k := 0) rfl (by decide) (by decide) rfl (fun ls hl => ?_)
      refine lv_goto (tgt := 48) hx hb dX5_feed_66 (by decide) ?_
      refine lv_iload_n hx hb dX5_feed_48 rfl (lv_at hl 0 rfl) ?_
      refine lv_if_lt (tgt := 69) hx hb dX5_feed_49 (by decide) (fun _ => ?_) (fun h9 => absurd (by decide) h9)
      refine lv_aload_n hx hb dX5_feed_69 rfl (lv_at hl 1 rfl) ?_
      refine va_get (D := G) (ci := 4) (v := .ref qa) (C := RX5) (T := TX5) (N := 9) hx hb hts iX_X5 hown hK hP 0 rfl rfl 4 (by decide) (hts _ m_t178) (fun _ h9 => h9) rfl dX5_feed_70 ?_
      refine va_getN (D := G) (ci := 2) (v := .int 2) (C := RX3) (T := TX3) (N := 7) hx hb hts iX_X3 hown hK hP 2 rfl rfl 1 (by decide) (va_Nw.use rfl (hN.2.1 (RX5, 148, "EachBookOnce$Tape", "size", "I") (List.mem_of_getElem? (i := 29) rfl))) (fun _ h9 => h9) rfl dX5_feed_73 ?_
      exact endW (u := []) hx hb hr hlocks rfl va_P0 va_D0 hS ⟨rfl, (by first | (simp [sp_feed, Iv, h_3]; done) | (unfold sp_feed; decide))⟩ dX5_feed_76
    · refine lv_aload_n hx hb dX5_feed_19 rfl (lv_at hl 0 rfl) ?_
      refine va_get (D := G) (ci := 4) (v := .ref qa) (C := RX5) (T := TX5) (N := 9) hx hb hts iX_X5 hown hK hP 0 rfl rfl 4 (by decide) (hts _ m_t178) (fun _ h9 => h9) rfl dX5_feed_20 ?_
      refine va_getN (D := G) (ci := 2) (v := .int 0) (C := RX3) (T := TX3) (N := 7) hx hb hts iX_X3 hown hK hP 2 rfl rfl 1 (by decide) (va_Nw.use rfl (hN.2.1 (RX5, 148, "EachBookOnce$Tape", "size", "I") (List.mem_of_getElem? (i := 29) rfl))) (fun _ h9 => h9) rfl dX5_feed_23 ?_
      refine lv_sipush (v := 250) hx hb dX5_feed_26 (by decide) ?_
      refine lv_iload_n hx hb dX5_feed_29 rfl (lv_at hl 2 rfl) ?_
      refine lv_isub hx hb dX5_feed_30 ?_
      refine lv_seti (v := 247) (by decide) ?_
      refine lv_icmp_le (tgt := 41) hx hb dX5_feed_31 (by decide) (fun _ => ?_) (fun h9 => absurd (by decide) h9)
      refine lv_bipush (v := 8) hx hb dX5_feed_41 (by decide) ?_
      refine lv_iload_n hx hb dX5_feed_43 rfl (lv_at hl 2 rfl) ?_
      refine lv_iconst (v := 1) hx hb dX5_feed_44 (by decide) ?_
      refine lv_isub hx hb dX5_feed_45 ?_
      refine lv_seti (v := 2) (by decide) ?_
      refine lv_imul hx hb dX5_feed_46 ?_
      refine lv_seti (v := 16) (by decide) ?_
      refine lv_istore_n (lv' := [(3, .int 16), (0, .ref qx), (1, .int iA), (2, .int 3)]) hx hb dX5_feed_47 rfl hl (by decide) rfl (fun ls hl => ?_)
      refine lv_iload_n hx hb dX5_feed_48 rfl (lv_at hl 0 rfl) ?_
      refine lv_if_lt (tgt := 69) hx hb dX5_feed_49 (by decide) (fun h9 => absurd h9 (by decide)) (fun _ => ?_)
      refine lv_aload_n hx hb dX5_feed_52 rfl (lv_at hl 1 rfl) ?_
      refine va_get (D := G) (ci := 4) (v := .ref qa) (C := RX5) (T := TX5) (N := 9) hx hb hts iX_X5 hown hK hP 0 rfl rfl 4 (by decide) (hts _ m_t178) (fun _ h9 => h9) rfl dX5_feed_53 ?_
      refine lv_iload_n hx hb dX5_feed_56 rfl (lv_at hl 2 rfl) ?_
      refine lv_iload_n hx hb dX5_feed_57 rfl (lv_at hl 0 rfl) ?_
      refine lv_ishr hx hb dX5_feed_58 ?_
      refine lv_i2b (v := (iA >>> (16 &&& 31)).toInt8.toInt32) hx hb dX5_feed_59 rfl ?_
      refine kWv (wr := [(qx, .inr (4, [.ref qt, .ref qk, .ref qp, .ref qs, .ref qa, .ref qr, .int 0, .int 0, .int 0])), (qr, .inl (cy 0, 5, .inl (fun _ => 0)))]) (rV (As := [.int ((iA >>> (16 &&& 31)).toInt8.toInt32)]) (rest := []) (b := qa) ⟨hx, hb, hml, hown, hts⟩ (c_X3_append0 l G cy (s.heap).size qa qab (.int 0) (.int 0) (.int 0) (.int 0) (.ref qd) (fun _ => 0) ((iA >>> (16 &&& 31)).toInt8.toInt32)) L_X5_150 (preWV (q := (RX3, TX3, 7)) hN hP hD [2, 3] rfl (by decide) 2 2 rfl rfl) rfl ⟨Nat.le_of_ble_eq_true rfl, Nat.le_of_ble_eq_true rfl⟩ hl.1 (Nat.le_of_ble_eq_true rfl) dX5_feed_60 ⟨Nat.le_of_ble_eq_true rfl, Nat.le_of_ble_eq_true rfl⟩) hP hD hS hA [2, 3] [0, 1] rfl rfl (by decide) (by decide) (fun u_28 H locs h_27 hP hD hS => ?_)
      obtain ⟨fN_29, rfl⟩ := h_27
      have hP : va_P G CL [(qx, .inr (4, [.ref qt, .ref qk, .ref qp, .ref qs, .ref qa, .ref qr, .int 0, .int 0, .int 0])), (qr, .inl (cy 0, 5, .inl (fun _ => 0))), (qa, .inr (2, [.ref qab, .int 1, .int 0, .int 0, .int 0, .int 0, .ref qd])), (qab, .inl (cy 2, 250, .inl fN_29))] H := hP
      have hD : va_D A [(qx, .inr (4, [.ref qt, .ref qk, .ref qp, .ref qs, .ref qa, .ref qr, .int 0, .int 0, .int 0])), (qr, .inl (cy 0, 5, .inl (fun _ => 0))), (qa, .inr (2, [.ref qab, .int 1, .int 0, .int 0, .int 0, .int 0, .ref qd])), (qab, .inl (cy 2, 250, .inl fN_29))] := hD
      refine lv_iinc (v := 8) (lv' := [(3, .int 8), (0, .ref qx), (1, .int iA), (2, .int 3)]) hx hb dX5_feed_63 hl (k := 0) rfl (by decide) (by decide) rfl (fun ls hl => ?_)
      refine lv_goto (tgt := 48) hx hb dX5_feed_66 (by decide) ?_
      refine lv_iload_n hx hb dX5_feed_48 rfl (lv_at hl 0 rfl) ?_
      refine lv_if_lt (tgt := 69) hx hb dX5_feed_49 (by decide) (fun h9 => absurd h9 (by decide)) (fun _ => ?_)
      refine lv_aload_n hx hb dX5_feed_52 rfl (lv_at hl 1 rfl) ?_
      refine va_get (D := G) (ci := 4) (v := .ref qa) (C := RX5) (T := TX5) (N := 9) hx hb hts iX_X5 hown hK hP 0 rfl rfl 4 (by decide) (hts _ m_t178) (fun _ h9 => h9) rfl dX5_feed_53 ?_
      refine lv_iload_n hx hb dX5_feed_56 rfl (lv_at hl 2 rfl) ?_
      refine lv_iload_n hx hb dX5_feed_57 rfl (lv_at hl 0 rfl) ?_
      refine lv_ishr hx hb dX5_feed_58 ?_
      refine lv_i2b (v := (iA >>> (8 &&& 31)).toInt8.toInt32) hx hb dX5_feed_59 rfl ?_
      refine kWv (wr := [(qx, .inr (4, [.ref qt, .ref qk, .ref qp, .ref qs, .ref qa, .ref qr, .int 0, .int 0, .int 0])), (qr, .inl (cy 0, 5, .inl (fun _ => 0)))]) (rV (As := [.int ((iA >>> (8 &&& 31)).toInt8.toInt32)]) (rest := []) (b := qa) ⟨hx, hb, hml, hown, hts⟩ (c_X3_append1 l G cy (H).size qa qab (.int 0) (.int 0) (.int 0) (.int 0) (.ref qd) fN_29 ((iA >>> (8 &&& 31)).toInt8.toInt32)) L_X5_150 (preWV (q := (RX3, TX3, 7)) hN hP hD [2, 3] rfl (by decide) 2 2 rfl rfl) rfl ⟨Nat.le_of_ble_eq_true rfl, Nat.le_of_ble_eq_true rfl⟩ hl.1 (Nat.le_of_ble_eq_true rfl) dX5_feed_60 ⟨Nat.le_of_ble_eq_true rfl, Nat.le_of_ble_eq_true rfl⟩) hP hD hS hA [2, 3] [0, 1] rfl rfl (by decide) (by decide) (fun u_33 H locs h_32 hP hD hS => ?_)
      obtain ⟨fN_34, rfl⟩ := h_32
      have hP : va_P G CL [(qx, .inr (4, [.ref qt, .ref qk, .ref qp, .ref qs, .ref qa, .ref qr, .int 0, .int 0, .int 0])), (qr, .inl (cy 0, 5, .inl (fun _ => 0))), (qa, .inr (2, [.ref qab, .int 2, .int 0, .int 0, .int 0, .int 0, .ref qd])), (qab, .inl (cy 2, 250, .inl fN_34))] H := hP
      have hD : va_D A [(qx, .inr (4, [.ref qt, .ref qk, .ref qp, .ref qs, .ref qa, .ref qr, .int 0, .int 0, .int 0])), (qr, .inl (cy 0, 5, .inl (fun _ => 0))), (qa, .inr (2, [.ref qab, .int 2, .int 0, .int 0, .int 0, .int 0, .ref qd])), (qab, .inl (cy 2, 250, .inl fN_34))] := hD
      refine lv_iinc (v := 0) (lv' := [(3, .int 0), (0, .ref qx), (1, .int iA), (2, .int 3)]) hx hb dX5_feed_63 hl (k := 0) rfl (by decide) (by decide) rfl (fun ls hl => ?_)
      refine lv_goto (tgt := 48) hx hb dX5_feed_66 (by decide) ?_
      refine lv_iload_n hx hb dX5_feed_48 rfl (lv_at hl 0 rfl) ?_
      refine lv_if_lt (tgt := 69) hx hb dX5_feed_49 (by decide) (fun h9 => absurd h9 (by decide)) (fun _ => ?_)
      refine lv_aload_n hx hb dX5_feed_52 rfl (lv_at hl 1 rfl) ?_
      refine va_get (D := G) (ci := 4) (v := .ref qa) (C := RX5) (T := TX5) (N := 9) hx hb hts iX_X5 hown hK hP 0 rfl rfl 4 (by decide) (hts _ m_t178) (fun _ h9 => h9) rfl dX5_feed_53 ?_
      refine lv_iload_n hx hb dX5_feed_56 rfl (lv_at hl 2 rfl) ?_
      refine lv_iload_n hx hb dX5_feed_57 rfl (lv_at hl 0 rfl) ?_
      refine lv_ishr hx hb dX5_feed_58 ?_
      refine lv_i2b (v := (iA >>> (0 &&& 31)).toInt8.toInt32) hx hb dX5_feed_59 rfl ?_
      refine kWv (wr := [(qx, .inr (4, [.ref qt, .ref qk, .ref qp, .ref qs, .ref qa, .ref qr, .int 0, .int 0, .int 0])), (qr, .inl (cy 0, 5, .inl (fun _ => 0)))]) (rV (As := [.int ((iA >>> (0 &&& 31)).toInt8.toInt32)]) (rest := []) (b := qa) ⟨hx, hb, hml, hown, hts⟩ (c_X3_append2 l G cy (H).size qa qab (.int 0) (.int 0) (.int 0) (.int 0) (.ref qd) fN_34 ((iA >>> (0 &&& 31)).toInt8.toInt32)) L_X5_150 (preWV (q := (RX3, TX3, 7)) hN hP hD [2, 3] rfl (by decide) 2 2 rfl rfl) rfl ⟨Nat.le_of_ble_eq_true rfl, Nat.le_of_ble_eq_true rfl⟩ hl.1 (Nat.le_of_ble_eq_true rfl) dX5_feed_60 ⟨Nat.le_of_ble_eq_true rfl, Nat.le_of_ble_eq_true rfl⟩) hP hD hS hA [2, 3] [0, 1] rfl rfl (by decide) (by decide) (fun u_38 H locs h_37 hP hD hS => ?_)
      obtain ⟨fN_39, rfl⟩ := h_37
      have hP : va_P G CL [(qx, .inr (4, [.ref qt, .ref qk, .ref qp, .ref qs, .ref qa, .ref qr, .int 0, .int 0, .int 0])), (qr, .inl (cy 0, 5, .inl (fun _ => 0))), (qa, .inr (2, [.ref qab, .int 3, .int 0, .int 0, .int 0, .int 0, .ref qd])), (qab, .inl (cy 2, 250, .inl fN_39))] H := hP
      have hD : va_D A [(qx, .inr (4, [.ref qt, .ref qk, .ref qp, .ref qs, .ref qa, .ref qr, .int 0, .int 0, .int 0])), (qr, .inl (cy 0, 5, .inl (fun _ => 0))), (qa, .inr (2, [.ref qab, .int 3, .int 0, .int 0, .int 0, .int 0, .ref qd])), (qab, .inl (cy 2, 250, .inl fN_39))] := hD
      refine lv_iinc (v := (-8)) (lv' := [(3, .int (-8)), (0, .ref qx), (1, .int iA), (2, .int 3)]) hx hb dX5_feed_63 hl (k := 0) rfl (by decide) (by decide) rfl (fun ls hl => ?_)
      refine lv_goto (tgt := 48) hx hb dX5_feed_66 (by decide) ?_
      refine lv_iload_n hx hb dX5_feed_48 rfl (lv_at hl 0 rfl) ?_
      refine lv_if_lt (tgt := 69) hx hb dX5_feed_49 (by decide) (fun _ => ?_) (fun h9 => absurd (by decide) h9)
      refine lv_aload_n hx hb dX5_feed_69 rfl (lv_at hl 1 rfl) ?_
      refine va_get (D := G) (ci := 4) (v := .ref qa) (C := RX5) (T := TX5) (N := 9) hx hb hts iX_X5 hown hK hP 0 rfl rfl 4 (by decide) (hts _ m_t178) (fun _ h9 => h9) rfl dX5_feed_70 ?_
      refine va_getN (D := G) (ci := 2) (v := .int 3) (C := RX3) (T := TX3) (N := 7) hx hb hts iX_X3 hown hK hP 2 rfl rfl 1 (by decide) (va_Nw.use rfl (hN.2.1 (RX5, 148, "EachBookOnce$Tape", "size", "I") (List.mem_of_getElem? (i := 29) rfl))) (fun _ h9 => h9) rfl dX5_feed_73 ?_
      exact endW (u := []) hx hb hr hlocks rfl va_P0 va_D0 hS ⟨rfl, (by first | (simp [sp_feed, Iv, h_3]; done) | (unfold sp_feed; decide))⟩ dX5_feed_76
    · refine lv_aload_n hx hb dX5_feed_19 rfl (lv_at hl 0 rfl) ?_
      refine va_get (D := G) (ci := 4) (v := .ref qa) (C := RX5) (T := TX5) (N := 9) hx hb hts iX_X5 hown hK hP 0 rfl rfl 4 (by decide) (hts _ m_t178) (fun _ h9 => h9) rfl dX5_feed_20 ?_
      refine va_getN (D := G) (ci := 2) (v := .int 0) (C := RX3) (T := TX3) (N := 7) hx hb hts iX_X3 hown hK hP 2 rfl rfl 1 (by decide) (va_Nw.use rfl (hN.2.1 (RX5, 148, "EachBookOnce$Tape", "size", "I") (List.mem_of_getElem? (i := 29) rfl))) (fun _ h9 => h9) rfl dX5_feed_23 ?_
      refine lv_sipush (v := 250) hx hb dX5_feed_26 (by decide) ?_
      refine lv_iload_n hx hb dX5_feed_29 rfl (lv_at hl 2 rfl) ?_
      refine lv_isub hx hb dX5_feed_30 ?_
      refine lv_seti (v := 246) (by decide) ?_
      refine lv_icmp_le (tgt := 41) hx hb dX5_feed_31 (by decide) (fun _ => ?_) (fun h9 => absurd (by decide) h9)
      refine lv_bipush (v := 8) hx hb dX5_feed_41 (by decide) ?_
      refine lv_iload_n hx hb dX5_feed_43 rfl (lv_at hl 2 rfl) ?_
      refine lv_iconst (v := 1) hx hb dX5_feed_44 (by decide) ?_
      refine lv_isub hx hb dX5_feed_45 ?_
      refine lv_seti (v := 3) (by decide) ?_
      refine lv_imul hx hb dX5_feed_46 ?_
      refine lv_seti (v := 24) (by decide) ?_
      refine lv_istore_n (lv' := [(3, .int 24), (0, .ref qx), (1, .int iA), (2, .int 4)]) hx hb dX5_feed_47 rfl hl (by decide) rfl (fun ls hl => ?_)
      refine lv_iload_n hx hb dX5_feed_48 rfl (lv_at hl 0 rfl) ?_
      refine lv_if_lt (tgt := 69) hx hb dX5_feed_49 (by decide) (fun h9 => absurd h9 (by decide)) (fun _ => ?_)
      refine lv_aload_n hx hb dX5_feed_52 rfl (lv_at hl 1 rfl) ?_
      refine va_get (D := G) (ci := 4) (v := .ref qa) (C := RX5) (T := TX5) (N := 9) hx hb hts iX_X5 hown hK hP 0 rfl rfl 4 (by decide) (hts _ m_t178) (fun _ h9 => h9) rfl dX5_feed_53 ?_
      refine lv_iload_n hx hb dX5_feed_56 rfl (lv_at hl 2 rfl) ?_
      refine lv_iload_n hx hb dX5_feed_57 rfl (lv_at hl 0 rfl) ?_
      refine lv_ishr hx hb dX5_feed_58 ?_
      refine lv_i2b (v := (iA >>> (24 &&& 31)).toInt8.toInt32) hx hb dX5_feed_59 rfl ?_
      refine kWv (wr := [(qx, .inr (4, [.ref qt, .ref qk, .ref qp, .ref qs, .ref qa, .ref qr, .int 0, .int 0, .int 0])), (qr, .inl (cy 0, 5, .inl (fun _ => 0)))]) (rV (As := [.int ((iA >>> (24 &&& 31)).toInt8.toInt32)]) (rest := []) (b := qa) ⟨hx, hb, hml, hown, hts⟩ (c_X3_append0 l G cy (s.heap).size qa qab (.int 0) (.int 0) (.int 0) (.int 0) (.ref qd) (fun _ => 0) ((iA >>> (24 &&& 31)).toInt8.toInt32)) L_X5_150 (preWV (q := (RX3, TX3, 7)) hN hP hD [2, 3] rfl (by decide) 2 2 rfl rfl) rfl ⟨Nat.le_of_ble_eq_true rfl, Nat.le_of_ble_eq_true rfl⟩ hl.1 (Nat.le_of_ble_eq_true rfl) dX5_feed_60 ⟨Nat.le_of_ble_eq_true rfl, Nat.le_of_ble_eq_true rfl⟩) hP hD hS hA [2, 3] [0, 1] rfl rfl (by decide) (by decide) (fun u_45 H locs h_44 hP hD hS => ?_)
      obtain ⟨fN_46, rfl⟩ := h_44
      have hP : va_P G CL [(qx, .inr (4, [.ref qt, .ref qk, .ref qp, .ref qs, .ref qa, .ref qr, .int 0, .int 0, .int 0])), (qr, .inl (cy 0, 5, .inl (fun _ => 0))), (qa, .inr (2, [.ref qab, .int 1, .int 0, .int 0, .int 0, .int 0, .ref qd])), (qab, .inl (cy 2, 250, .inl fN_46))] H := hP
      have hD : va_D A [(qx, .inr (4, [.ref qt, .ref qk, .ref qp, .ref qs, .ref qa, .ref qr, .int 0, .int 0, .int 0])), (qr, .inl (cy 0, 5, .inl (fun _ => 0))), (qa, .inr (2, [.ref qab, .int 1, .int 0, .int 0, .int 0, .int 0, .ref qd])), (qab, .inl (cy 2, 250, .inl fN_46))] := hD
      refine lv_iinc (v := 16) (lv' := [(3, .int 16), (0, .ref qx), (1, .int iA), (2, .int 4)]) hx hb dX5_feed_63 hl (k := 0) rfl (by decide) (by decide) rfl (fun ls hl => ?_)
      refine lv_goto (tgt := 48) hx hb dX5_feed_66 (by decide) ?_
      refine lv_iload_n hx hb dX5_feed_48 rfl (lv_at hl 0 rfl) ?_
      refine lv_if_lt (tgt := 69) hx hb dX5_feed_49 (by decide) (fun h9 => absurd h9 (by decide)) (fun _ => ?_)
      refine lv_aload_n hx hb dX5_feed_52 rfl (lv_at hl 1 rfl) ?_
      refine va_get (D := G) (ci := 4) (v := .ref qa) (C := RX5) (T := TX5) (N := 9) hx hb hts iX_X5 hown hK hP 0 rfl rfl 4 (by decide) (hts _ m_t178) (fun _ h9 => h9) rfl dX5_feed_53 ?_
      refine lv_iload_n hx hb dX5_feed_56 rfl (lv_at hl 2 rfl) ?_
      refine lv_iload_n hx hb dX5_feed_57 rfl (lv_at hl 0 rfl) ?_
      refine lv_ishr hx hb dX5_feed_58 ?_
      refine lv_i2b (v := (iA >>> (16 &&& 31)).toInt8.toInt32) hx hb dX5_feed_59 rfl ?_
      refine kWv (wr := [(qx, .inr (4, [.ref qt, .ref qk, .ref qp, .ref qs, .ref qa, .ref qr, .int 0, .int 0, .int 0])), (qr, .inl (cy 0, 5, .inl (fun _ => 0)))]) (rV (As := [.int ((iA >>> (16 &&& 31)).toInt8.toInt32)]) (rest := []) (b := qa) ⟨hx, hb, hml, hown, hts⟩ (c_X3_append1 l G cy (H).size qa qab (.int 0) (.int 0) (.int 0) (.int 0) (.ref qd) fN_46 ((iA >>> (16 &&& 31)).toInt8.toInt32)) L_X5_150 (preWV (q := (RX3, TX3, 7)) hN hP hD [2, 3] rfl (by decide) 2 2 rfl rfl) rfl ⟨Nat.le_of_ble_eq_true rfl, Nat.le_of_ble_eq_true rfl⟩ hl.1 (Nat.le_of_ble_eq_true rfl) dX5_feed_60 ⟨Nat.le_of_ble_eq_true rfl, Nat.le_of_ble_eq_true rfl⟩) hP hD hS hA [2, 3] [0, 1] rfl rfl (by decide) (by decide) (fun u_50 H locs h_49 hP hD hS => ?_)
      obtain ⟨fN_51, rfl⟩ := h_49
      have hP : va_P G CL [(qx, .inr (4, [.ref qt, .ref qk, .ref qp, .ref qs, .ref qa, .ref qr, .int 0, .int 0, .int 0])), (qr, .inl (cy 0, 5, .inl (fun _ => 0))), (qa, .inr (2, [.ref qab, .int 2, .int 0, .int 0, .int 0, .int 0, .ref qd])), (qab, .inl (cy 2, 250, .inl fN_51))] H := hP
      have hD : va_D A [(qx, .inr (4, [.ref qt, .ref qk, .ref qp, .ref qs, .ref qa, .ref qr, .int 0, .int 0, .int 0])), (qr, .inl (cy 0, 5, .inl (fun _ => 0))), (qa, .inr (2, [.ref qab, .int 2, .int 0, .int 0, .int 0, .int 0, .ref qd])), (qab, .inl (cy 2, 250, .inl fN_51))] := hD
      refine lv_iinc (v := 8) (lv' := [(3, .int 8), (0, .ref qx), (1, .int iA), (2, .int 4)]) hx hb dX5_feed_63 hl (k := 0) rfl (by decide) (by decide) rfl (fun ls hl => ?_)
      refine lv_goto (tgt := 48) hx hb dX5_feed_66 (by decide) ?_
      refine lv_iload_n hx hb dX5_feed_48 rfl (lv_at hl 0 rfl) ?_
      refine lv_if_lt (tgt := 69) hx hb dX5_feed_49 (by decide) (fun h9 => absurd h9 (by decide)) (fun _ => ?_)
      refine lv_aload_n hx hb dX5_feed_52 rfl (lv_at hl 1 rfl) ?_
      refine va_get (D := G) (ci := 4) (v := .ref qa) (C := RX5) (T := TX5) (N := 9) hx hb hts iX_X5 hown hK hP 0 rfl rfl 4 (by decide) (hts _ m_t178) (fun _ h9 => h9) rfl dX5_feed_53 ?_
      refine lv_iload_n hx hb dX5_feed_56 rfl (lv_at hl 2 rfl) ?_
      refine lv_iload_n hx hb dX5_feed_57 rfl (lv_at hl 0 rfl) ?_
      refine lv_ishr hx hb dX5_feed_58 ?_
      refine lv_i2b (v := (iA >>> (8 &&& 31)).toInt8.toInt32) hx hb dX5_feed_59 rfl ?_
      refine kWv (wr := [(qx, .inr (4, [.ref qt, .ref qk, .ref qp, .ref qs, .ref qa, .ref qr, .int 0, .int 0, .int 0])), (qr, .inl (cy 0, 5, .inl (fun _ => 0)))]) (rV (As := [.int ((iA >>> (8 &&& 31)).toInt8.toInt32)]) (rest := []) (b := qa) ⟨hx, hb, hml, hown, hts⟩ (c_X3_append2 l G cy (H).size qa qab (.int 0) (.int 0) (.int 0) (.int 0) (.ref qd) fN_51 ((iA >>> (8 &&& 31)).toInt8.toInt32)) L_X5_150 (preWV (q := (RX3, TX3, 7)) hN hP hD [2, 3] rfl (by decide) 2 2 rfl rfl) rfl ⟨Nat.le_of_ble_eq_true rfl, Nat.le_of_ble_eq_true rfl⟩ hl.1 (Nat.le_of_ble_eq_true rfl) dX5_feed_60 ⟨Nat.le_of_ble_eq_true rfl, Nat.le_of_ble_eq_true rfl⟩) hP hD hS hA [2, 3] [0, 1] rfl rfl (by decide) (by decide) (fun u_55 H locs h_54 hP hD hS => ?_)
      obtain ⟨fN_56, rfl⟩ := h_54
      have hP : va_P G CL [(qx, .inr (4, [.ref qt, .ref qk, .ref qp, .ref qs, .ref qa, .ref qr, .int 0, .int 0, .int 0])), (qr, .inl (cy 0, 5, .inl (fun _ => 0))), (qa, .inr (2, [.ref qab, .int 3, .int 0, .int 0, .int 0, .int 0, .ref qd])), (qab, .inl (cy 2, 250, .inl fN_56))] H := hP
      have hD : va_D A [(qx, .inr (4, [.ref qt, .ref qk, .ref qp, .ref qs, .ref qa, .ref qr, .int 0, .int 0, .int 0])), (qr, .inl (cy 0, 5, .inl (fun _ => 0))), (qa, .inr (2, [.ref qab, .int 3, .int 0, .int 0, .int 0, .int 0, .ref qd])), (qab, .inl (cy 2, 250, .inl fN_56))] := hD
      refine lv_iinc (v := 0) (lv' := [(3, .int 0), (0, .ref qx), (1, .int iA), (2, .int 4)]) hx hb dX5_feed_63 hl (k := 0) rfl (by decide) (by decide) rfl (fun ls hl => ?_)
      refine lv_goto (tgt := 48) hx hb dX5_feed_66 (by decide) ?_
      refine lv_iload_n hx hb dX5_feed_48 rfl (lv_at hl 0 rfl) ?_
      refine lv_if_lt (tgt := 69) hx hb dX5_feed_49 (by decide) (fun h9 => absurd h9 (by decide)) (fun _ => ?_)
      refine lv_aload_n hx hb dX5_feed_52 rfl (lv_at hl 1 rfl) ?_
      refine va_get (D := G) (ci := 4) (v := .ref qa) (C := RX5) (T := TX5) (N := 9) hx hb hts iX_X5 hown hK hP 0 rfl rfl 4 (by decide) (hts _ m_t178) (fun _ h9 => h9) rfl dX5_feed_53 ?_
      refine lv_iload_n hx hb dX5_feed_56 rfl (lv_at hl 2 rfl) ?_
      refine lv_iload_n hx hb dX5_feed_57 rfl (lv_at hl 0 rfl) ?_
      refine lv_ishr hx hb dX5_feed_58 ?_
      refine lv_i2b (v := (iA >>> (0 &&& 31)).toInt8.toInt32) hx hb dX5_feed_59 rfl ?_
      refine kWv (wr := [(qx, .inr (4, [.ref qt, .ref qk, .ref qp, .ref qs, .ref qa, .ref qr, .int 0, .int 0, .int 0])), (qr, .inl (cy 0, 5, .inl (fun _ => 0)))]) (rV (As := [.int ((iA >>> (0 &&& 31)).toInt8.toInt32)]) (rest := []) (b := qa) ⟨hx, hb, hml, hown, hts⟩ (c_X3_append3 l G cy (H).size qa qab (.int 0) (.int 0) (.int 0) (.int 0) (.ref qd) fN_56 ((iA >>> (0 &&& 31)).toInt8.toInt32)) L_X5_150 (preWV (q := (RX3, TX3, 7)) hN hP hD [2, 3] rfl (by decide) 2 2 rfl rfl) rfl ⟨Nat.le_of_ble_eq_true rfl, Nat.le_of_ble_eq_true rfl⟩ hl.1 (Nat.le_of_ble_eq_true rfl) dX5_feed_60 ⟨Nat.le_of_ble_eq_true rfl, Nat.le_of_ble_eq_true rfl⟩) hP hD hS hA [2, 3] [0, 1] rfl rfl (by decide) (by decide) (fun u_60 H locs h_59 hP hD hS => ?_)
      obtain ⟨fN_61, rfl⟩ := h_59
      have hP : va_P G CL [(qx, .inr (4, [.ref qt, .ref qk, .ref qp, .ref qs, .ref qa, .ref qr, .int 0, .int 0, .int 0])), (qr, .inl (cy 0, 5, .inl (fun _ => 0))), (qa, .inr (2, [.ref qab, .int 4, .int 0, .int 0, .int 0, .int 0, .ref qd])), (qab, .inl (cy 2, 250, .inl fN_61))] H := hP
      have hD : va_D A [(qx, .inr (4, [.ref qt, .ref qk, .ref qp, .ref qs, .ref qa, .ref qr, .int 0, .int 0, .int 0])), (qr, .inl (cy 0, 5, .inl (fun _ => 0))), (qa, .inr (2, [.ref qab, .int 4, .int 0, .int 0, .int 0, .int 0, .ref qd])), (qab, .inl (cy 2, 250, .inl fN_61))] := hD
      refine lv_iinc (v := (-8)) (lv' := [(3, .int (-8)), (0, .ref qx), (1, .int iA), (2, .int 4)]) hx hb dX5_feed_63 hl (k := 0) rfl (by decide) (by decide) rfl (fun ls hl => ?_)
      refine lv_goto (tgt := 48) hx hb dX5_feed_66 (by decide) ?_
      refine lv_iload_n hx hb dX5_feed_48 rfl (lv_at hl 0 rfl) ?_
      refine lv_if_lt (tgt := 69) hx hb dX5_feed_49 (by decide) (fun _ => ?_) (fun h9 => absurd (by decide) h9)
      refine lv_aload_n hx hb dX5_feed_69 rfl (lv_at hl 1 rfl) ?_
      refine va_get (D := G) (ci := 4) (v := .ref qa) (C := RX5) (T := TX5) (N := 9) hx hb hts iX_X5 hown hK hP 0 rfl rfl 4 (by decide) (hts _ m_t178) (fun _ h9 => h9) rfl dX5_feed_70 ?_
      refine va_getN (D := G) (ci := 2) (v := .int 4) (C := RX3) (T := TX3) (N := 7) hx hb hts iX_X3 hown hK hP 2 rfl rfl 1 (by decide) (va_Nw.use rfl (hN.2.1 (RX5, 148, "EachBookOnce$Tape", "size", "I") (List.mem_of_getElem? (i := 29) rfl))) (fun _ h9 => h9) rfl dX5_feed_73 ?_
      exact endW (u := []) hx hb hr hlocks rfl va_P0 va_D0 hS ⟨rfl, (by first | (simp [sp_feed, Iv, h_3]; done) | (unfold sp_feed; decide))⟩ dX5_feed_76
  · refine lv_if_ne (tgt := 19) hx hb dX5_feed_9 (by decide) (fun h9 => absurd (by decide) h9) (fun _ => ?_)
    refine lv_aload_n hx hb dX5_feed_12 rfl (lv_at hl 0 rfl) ?_
    refine lv_bipush (v := (-2)) hx hb dX5_feed_13 (by decide) ?_
    refine kWi (wr := [(qa, .inr (2, [.ref qab, .int 0, .int 0, .int 0, .int 0, .int 0, .ref qd])), (qab, .inl (cy 2, 250, .inl (fun _ => 0)))]) (rV (As := [.int (-2)]) (rest := []) (b := qx) ⟨hx, hb, hml, hown, hts⟩ (c_X5_refuse2 l G cy (s.heap).size qx (.ref qt) (.ref qk) (.ref qp) (.ref qs) (.ref qa) qr (.int 0) (.int 0) (.int 0) (fun _ => 0)) L_X5_56 (preWV (q := (RX5, TX5, 9)) hN hP hD [0, 1] rfl (by decide) 0 4 rfl rfl) rfl ⟨Nat.le_of_ble_eq_true rfl, Nat.le_of_ble_eq_true rfl⟩ hl.1 (Nat.le_of_ble_eq_true rfl) dX5_feed_15 ⟨Nat.le_of_ble_eq_true rfl, Nat.le_of_ble_eq_true rfl⟩) hP hD hS hA [0, 1] [2, 3] rfl rfl (by decide) (by decide) (fun r_64 u_66 H locs h_65 hP hD hS => ?_)
    obtain ⟨rfl, h_65⟩ := h_65
    have hP : va_P G CL [(qa, .inr (2, [.ref qab, .int 0, .int 0, .int 0, .int 0, .int 0, .ref qd])), (qab, .inl (cy 2, 250, .inl (fun _ => 0))), (qx, .inr (4, [.ref qt, .ref qk, .ref qp, .ref qs, .ref qa, .ref qr, .int 0, .int 0, .int 0]))] H := hP
    have hD : va_D A [(qa, .inr (2, [.ref qab, .int 0, .int 0, .int 0, .int 0, .int 0, .ref qd])), (qab, .inl (cy 2, 250, .inl (fun _ => 0))), (qx, .inr (4, [.ref qt, .ref qk, .ref qp, .ref qs, .ref qa, .ref qr, .int 0, .int 0, .int 0]))] := hD
    subst h_65
    exact endW (u := []) hx hb hr hlocks rfl va_P0 va_D0 hS ⟨rfl, (by first | (simp [sp_feed, Iv, h_3]; done) | (unfold sp_feed; decide))⟩ dX5_feed_18
set_option maxHeartbeats 4000000 in
set_option maxRecDepth 100000 in
theorem p_X5_wipe (l : Launch) (G : va_G) (cy : Nat → ClassId) (sz : Nat) (qx : Nat) (qt : Nat) (qk : Nat) (qp : Nat) (qs : Nat) (qa : Nat) (qr : Nat) (qab : Nat) (qd : Nat)   : MW l yX5_wipe cX5_wipe 2 (some .int) 6 0 0 G cy [(qx, .inr (4, [.ref qt, .ref qk, .ref qp, .ref qs, .ref qa, .ref qr, .int 0, .int 0, .int 0])), (qa, .inr (2, [.ref qab, .int 0, .int 0, .int 0, .int 0, .int 0, .ref qd]))] sz [.ref qx] (Wi G (fun r u => u = [] ∧ ((r = 0)))) := by
  refine enW RX5 (by decide) rfl (Nat.le_of_ble_eq_true rfl) (fun p e s m below meth c ls A hx hb hml hown hts hr hlocks hP hN hl hin hD hA hS => ?_)
  have hin : meth.name = _ := hin
  have hK := hN.1
  have hl : lv_has ls 2 [(0, .ref qx)] := hl
  refine lv_aload_n hx hb dX5_wipe_0 rfl (lv_at hl 0 rfl) ?_
  refine va_get (D := G) (ci := 4) (v := .ref qa) (C := RX5) (T := TX5) (N := 9) hx hb hts iX_X5 hown hK hP 0 rfl rfl 4 (by decide) (hts _ m_t178) (fun _ h9 => h9) rfl dX5_wipe_1 ?_
  refine va_getN (D := G) (ci := 2) (v := .int 0) (C := RX3) (T := TX3) (N := 7) hx hb hts iX_X3 hown hK hP 1 rfl rfl 1 (by decide) (va_Nw.use rfl (hN.2.1 (RX5, 148, "EachBookOnce$Tape", "size", "I") (List.mem_of_getElem? (i := 29) rfl))) (fun _ h9 => h9) rfl dX5_wipe_4 ?_
  refine lv_istore_n (lv' := [(1, .int 0), (0, .ref qx)]) hx hb dX5_wipe_7 rfl hl (by decide) rfl (fun ls hl => ?_)
  refine lv_aload_n hx hb dX5_wipe_8 rfl (lv_at hl 1 rfl) ?_
  refine va_get (D := G) (ci := 4) (v := .ref qa) (C := RX5) (T := TX5) (N := 9) hx hb hts iX_X5 hown hK hP 0 rfl rfl 4 (by decide) (hts _ m_t178) (fun _ h9 => h9) rfl dX5_wipe_9 ?_
  refine lv_iconst (v := 0) hx hb dX5_wipe_12 (by decide) ?_
  refine va_putN (D := G) (ci := 2) (v := .int 0) (ty := .int) (C := RX3) (T := TX3) (N := 7) hx hb hts iX_X3 tyX3 tyX3_ok nmX3 hown hK hP hD hS 1 rfl rfl 1 (by decide) (va_Nw.use rfl (hN.2.1 (RX5, 148, "EachBookOnce$Tape", "size", "I") (List.mem_of_getElem? (i := 29) rfl))) (fun _ h9 => h9) rfl (by decide +kernel) rfl rfl (Nat.le_of_ble_eq_true rfl) dX5_wipe_13 (fun H locs hP hD hS => ?_)
  have hP : va_P G CL [(qx, .inr (4, [.ref qt, .ref qk, .ref qp, .ref qs, .ref qa, .ref qr, .int 0, .int 0, .int 0])), (qa, .inr (2, [.ref qab, .int 0, .int 0, .int 0, .int 0, .int 0, .ref qd]))] H := hP
  have hD : va_D A [(qx, .inr (4, [.ref qt, .ref qk, .ref qp, .ref qs, .ref qa, .ref qr, .int 0, .int 0, .int 0])), (qa, .inr (2, [.ref qab, .int 0, .int 0, .int 0, .int 0, .int 0, .ref qd]))] := hD
  refine lv_iload_n hx hb dX5_wipe_16 rfl (lv_at hl 0 rfl) ?_
  exact endW (u := []) hx hb hr hlocks rfl va_P0 va_D0 hS ⟨rfl, rfl⟩ dX5_wipe_17
set_option maxHeartbeats 4000000 in
set_option maxRecDepth 100000 in
theorem p_X5_town (l : Launch) (G : va_G) (cy : Nat → ClassId) (sz : Nat) (qx : Nat) (qt : Nat) (qk : Nat) (qp : Nat) (qs : Nat) (qa : Nat) (qr : Nat) (qtw : Nat) (qtn : Nat) (qtg : Nat) (qta : Nat) (qtr : Nat) (qtm : Nat) (qtt : Nat) (qts : Nat) (qab : Nat) (qd : Nat) (qdw : Nat) (qdn : Nat) (qdg : Nat) (qda : Nat) (qdr : Nat) (qdm : Nat) (qdt : Nat) (qds : Nat)   : MW l yX5_town cX5_town 2 (some .int) 6 0 0 G cy [(qx, .inr (4, [.ref qt, .ref qk, .ref qp, .ref qs, .ref qa, .ref qr, .int 0, .int 0, .int 0])), (qr, .inl (cy 0, 5, .inl (fun _ => 0))), (qt, .inr (3, [.int 0, .int 0, .int 0, .int 0, .int 1, .ref qtw, .ref qtn, .ref qtg, .ref qta, .ref qtr, .ref qtm, .ref qtt, .ref qts])), (qtw, .inl (cy 0, 8, .inl (fun _ => 0))), (qtn, .inl (cy 0, 8, .inl (fun _ => 0))), (qtg, .inl (cy 0, 8, .inl (fun _ => 0))), (qta, .inl (cy 0, 8, .inl (fun _ => 0))), (qtr, .inl (cy 0, 8, .inl (fun _ => 0))), (qtm, .inl (cy 0, 8, .inl (fun _ => 0))), (qtt, .inl (cy 0, 8, .inl (fun _ => 0))), (qts, .inl (cy 0, 64, .inl (fun _ => 0))), (qa, .inr (2, [.ref qab, .int 0, .int 0, .int 0, .int 0, .int 0, .ref qd])), (qd, .inr (3, [.int 0, .int 0, .int 0, .int 0, .int 1, .ref qdw, .ref qdn, .ref qdg, .ref qda, .ref qdr, .ref qdm, .ref qdt, .ref qds])), (qdw, .inl (cy 0, 8, .inl (fun _ => 0))), (qdn, .inl (cy 0, 8, .inl (fun _ => 0))), (qdg, .inl (cy 0, 8, .inl (fun _ => 0))), (qda, .inl (cy 0, 8, .inl (fun _ => 0))), (qdr, .inl (cy 0, 8, .inl (fun _ => 0))), (qdm, .inl (cy 0, 8, .inl (fun _ => 0))), (qdt, .inl (cy 0, 8, .inl (fun _ => 0))), (qds, .inl (cy 0, 64, .inl (fun _ => 0)))] sz [.ref qx] (Wi G (fun r u => u = [] ∧ ((r = (-20))))) := by
  refine enW RX5 (by decide) rfl (Nat.le_of_ble_eq_true rfl) (fun p e s m below meth c ls A hx hb hml hown hts hr hlocks hP hN hl hin hD hA hS => ?_)
  have hin : meth.name = _ := hin
  have hK := hN.1
  have hl : lv_has ls 2 [(0, .ref qx)] := hl
  refine lv_aload_n hx hb dX5_town_0 rfl (lv_at hl 0 rfl) ?_
  refine va_get (D := G) (ci := 4) (v := .ref qa) (C := RX5) (T := TX5) (N := 9) hx hb hts iX_X5 hown hK hP 0 rfl rfl 4 (by decide) (hts _ m_t178) (fun _ h9 => h9) rfl dX5_town_1 ?_
  refine lv_aload_n hx hb dX5_town_4 rfl (lv_at hl 0 rfl) ?_
  refine va_get (D := G) (ci := 4) (v := .ref qt) (C := RX5) (T := TX5) (N := 9) hx hb hts iX_X5 hown hK hP 0 rfl rfl 0 (by decide) (hts _ m_t174) (fun _ h9 => h9) rfl dX5_town_5 ?_
  refine kWi (wr := [(qx, .inr (4, [.ref qt, .ref qk, .ref qp, .ref qs, .ref qa, .ref qr, .int 0, .int 0, .int 0])), (qr, .inl (cy 0, 5, .inl (fun _ => 0)))]) (rV (As := [.ref qt]) (rest := []) (b := qa) ⟨hx, hb, hml, hown, hts⟩ (c_X3_readFrom l G cy (s.heap).size qa qab qd qdw qdn qdg qda qdr qdm qdt qds qt qtw qtn qtg qta qtr qtm qtt qts) L_X5_154 (preWV (q := (RX3, TX3, 7)) hN hP hD [11, 12, 13, 14, 15, 16, 17, 18, 19, 20, 2, 3, 4, 5, 6, 7, 8, 9, 10] rfl (by decide) 11 2 rfl rfl) rfl ⟨Nat.le_of_ble_eq_true rfl, Nat.le_of_ble_eq_true rfl⟩ hl.1 (Nat.le_of_ble_eq_true rfl) dX5_town_8 ⟨Nat.le_of_ble_eq_true rfl, Nat.le_of_ble_eq_true rfl⟩) hP hD hS hA [11, 12, 13, 14, 15, 16, 17, 18, 19, 20, 2, 3, 4, 5, 6, 7, 8, 9, 10] [0, 1] rfl rfl (by decide) (by decide) (fun r_1 u_3 H locs h_2 hP hD hS => ?_)
  obtain ⟨rfl, h_2⟩ := h_2
  have hP : va_P G CL [(qx, .inr (4, [.ref qt, .ref qk, .ref qp, .ref qs, .ref qa, .ref qr, .int 0, .int 0, .int 0])), (qr, .inl (cy 0, 5, .inl (fun _ => 0))), (qa, .inr (2, [.ref qab, .int 0, .int 0, .int 0, .int 0, .int 0, .ref qd]))] H := hP
  have hD : va_D A [(qx, .inr (4, [.ref qt, .ref qk, .ref qp, .ref qs, .ref qa, .ref qr, .int 0, .int 0, .int 0])), (qr, .inl (cy 0, 5, .inl (fun _ => 0))), (qa, .inr (2, [.ref qab, .int 0, .int 0, .int 0, .int 0, .int 0, .ref qd]))] := hD
  subst h_2
  refine lv_istore_n (lv' := [(1, .int 1), (0, .ref qx)]) hx hb dX5_town_11 rfl hl (by decide) rfl (fun ls hl => ?_)
  refine lv_aload_n hx hb dX5_town_12 rfl (lv_at hl 1 rfl) ?_
  refine va_get (D := G) (ci := 4) (v := .ref qa) (C := RX5) (T := TX5) (N := 9) hx hb hts iX_X5 hown hK hP 0 rfl rfl 4 (by decide) (hts _ m_t178) (fun _ h9 => h9) rfl dX5_town_13 ?_
  refine lv_iconst (v := 0) hx hb dX5_town_16 (by decide) ?_
  refine va_putN (D := G) (ci := 2) (v := .int 0) (ty := .int) (C := RX3) (T := TX3) (N := 7) hx hb hts iX_X3 tyX3 tyX3_ok nmX3 hown hK hP hD hS 2 rfl rfl 1 (by decide) (va_Nw.use rfl (hN.2.1 (RX5, 148, "EachBookOnce$Tape", "size", "I") (List.mem_of_getElem? (i := 29) rfl))) (fun _ h9 => h9) rfl (by decide +kernel) rfl rfl (Nat.le_of_ble_eq_true rfl) dX5_town_17 (fun H locs hP hD hS => ?_)
  have hP : va_P G CL [(qx, .inr (4, [.ref qt, .ref qk, .ref qp, .ref qs, .ref qa, .ref qr, .int 0, .int 0, .int 0])), (qr, .inl (cy 0, 5, .inl (fun _ => 0))), (qa, .inr (2, [.ref qab, .int 0, .int 0, .int 0, .int 0, .int 0, .ref qd]))] H := hP
  have hD : va_D A [(qx, .inr (4, [.ref qt, .ref qk, .ref qp, .ref qs, .ref qa, .ref qr, .int 0, .int 0, .int 0])), (qr, .inl (cy 0, 5, .inl (fun _ => 0))), (qa, .inr (2, [.ref qab, .int 0, .int 0, .int 0, .int 0, .int 0, .ref qd]))] := hD
  refine lv_aload_n hx hb dX5_town_20 rfl (lv_at hl 1 rfl) ?_
  refine va_get (D := G) (ci := 4) (v := .ref qa) (C := RX5) (T := TX5) (N := 9) hx hb hts iX_X5 hown hK hP 0 rfl rfl 4 (by decide) (hts _ m_t178) (fun _ h9 => h9) rfl dX5_town_21 ?_
  refine va_getN (D := G) (ci := 2) (v := .int 0) (C := RX3) (T := TX3) (N := 7) hx hb hts iX_X3 hown hK hP 2 rfl rfl 5 (by decide) (va_Nw.use rfl (hN.2.1 (RX5, 158, "EachBookOnce$Tape", "fault", "I") (List.mem_of_getElem? (i := 30) rfl))) (fun _ h9 => h9) rfl dX5_town_24 ?_
  refine lv_iconst (v := (-1)) hx hb dX5_town_27 (by decide) ?_
  refine lv_icmp_eq (tgt := 49) hx hb dX5_town_28 (by decide) (fun h9 => absurd h9 (by decide)) (fun _ => ?_)
  refine lv_aload_n hx hb dX5_town_31 rfl (lv_at hl 1 rfl) ?_
  refine lv_bipush (v := (-2)) hx hb dX5_town_32 (by decide) ?_
  refine kWi (wr := [(qa, .inr (2, [.ref qab, .int 0, .int 0, .int 0, .int 0, .int 0, .ref qd]))]) (rV (As := [.int (-2)]) (rest := []) (b := qx) ⟨hx, hb, hml, hown, hts⟩ (c_X5_refuse2 l G cy (H).size qx (.ref qt) (.ref qk) (.ref qp) (.ref qs) (.ref qa) qr (.int 0) (.int 0) (.int 0) (fun _ => 0)) L_X5_56 (preWV (q := (RX5, TX5, 9)) hN hP hD [0, 1] rfl (by decide) 0 4 rfl rfl) rfl ⟨Nat.le_of_ble_eq_true rfl, Nat.le_of_ble_eq_true rfl⟩ hl.1 (Nat.le_of_ble_eq_true rfl) dX5_town_34 ⟨Nat.le_of_ble_eq_true rfl, Nat.le_of_ble_eq_true rfl⟩) hP hD hS hA [0, 1] [2] rfl rfl (by decide) (by decide) (fun r_5 u_7 H locs h_6 hP hD hS => ?_)
  obtain ⟨rfl, h_6⟩ := h_6
  have hP : va_P G CL [(qa, .inr (2, [.ref qab, .int 0, .int 0, .int 0, .int 0, .int 0, .ref qd])), (qx, .inr (4, [.ref qt, .ref qk, .ref qp, .ref qs, .ref qa, .ref qr, .int 0, .int 0, .int 0]))] H := hP
  have hD : va_D A [(qa, .inr (2, [.ref qab, .int 0, .int 0, .int 0, .int 0, .int 0, .ref qd])), (qx, .inr (4, [.ref qt, .ref qk, .ref qp, .ref qs, .ref qa, .ref qr, .int 0, .int 0, .int 0]))] := hD
  subst h_6
  refine lv_pop hx hb dX5_town_37 rfl ?_
  refine lv_bipush (v := (-20)) hx hb dX5_town_38 (by decide) ?_
  refine lv_aload_n hx hb dX5_town_40 rfl (lv_at hl 1 rfl) ?_
  refine va_get (D := G) (ci := 4) (v := .ref qa) (C := RX5) (T := TX5) (N := 9) hx hb hts iX_X5 hown hK hP 1 rfl rfl 4 (by decide) (hts _ m_t178) (fun _ h9 => h9) rfl dX5_town_41 ?_
  refine va_getN (D := G) (ci := 2) (v := .int 0) (C := RX3) (T := TX3) (N := 7) hx hb hts iX_X3 hown hK hP 0 rfl rfl 5 (by decide) (va_Nw.use rfl (hN.2.1 (RX5, 158, "EachBookOnce$Tape", "fault", "I") (List.mem_of_getElem? (i := 30) rfl))) (fun _ h9 => h9) rfl dX5_town_44 ?_
  refine lv_isub hx hb dX5_town_47 ?_
  refine lv_seti (v := (-20)) (by decide) ?_
  exact endW (u := []) hx hb hr hlocks rfl va_P0 va_D0 hS ⟨rfl, rfl⟩ dX5_town_48
set_option maxHeartbeats 4000000 in
set_option maxRecDepth 100000 in
theorem p_X5_bookOf (l : Launch) (G : va_G) (cy : Nat → ClassId) (sz : Nat) (qx : Nat) (qt : Nat) (qk : Nat) (qp : Nat) (qs : Nat) (qa : Nat) (qr : Nat) (qtw : Nat) (qtn : Nat) (qtg : Nat) (qta : Nat) (qtr : Nat) (qtm : Nat) (qtt : Nat) (qts : Nat) (iA : Int32) (iB : Int32)   : MW l yX5_bookOf cX5_bookOf 3 (some .int) 6 0 0 G cy [(qx, .inr (4, [.ref qt, .ref qk, .ref qp, .ref qs, .ref qa, .ref qr, .int 0, .int 0, .int 0])), (qr, .inl (cy 0, 5, .inl (fun _ => 0))), (qt, .inr (3, [.int 0, .int 0, .int 0, .int 0, .int 1, .ref qtw, .ref qtn, .ref qtg, .ref qta, .ref qtr, .ref qtm, .ref qtt, .ref qts]))] sz [.ref qx, .int iA, .int iB] (Wi G (fun r u => u = [] ∧ ((r = (-2))))) := by
  refine enW RX5 (by decide) rfl (Nat.le_of_ble_eq_true rfl) (fun p e s m below meth c ls A hx hb hml hown hts hr hlocks hP hN hl hin hD hA hS => ?_)
  have hin : meth.name = _ := hin
  have hK := hN.1
  have hl : lv_has ls 3 [(0, .ref qx), (1, .int iA), (2, .int iB)] := hl
  refine lv_aload_n hx hb dX5_bookOf_0 rfl (lv_at hl 0 rfl) ?_
  refine va_get (D := G) (ci := 4) (v := .ref qt) (C := RX5) (T := TX5) (N := 9) hx hb hts iX_X5 hown hK hP 0 rfl rfl 0 (by decide) (hts _ m_t174) (fun _ h9 => h9) rfl dX5_bookOf_1 ?_
  refine lv_iload_n hx hb dX5_bookOf_4 rfl (lv_at hl 1 rfl) ?_
  refine kRi (rV (As := [.int iA]) (rest := []) (b := qt) ⟨hx, hb, hml, hown, hts⟩ (c_X4_isBook l G cy qt (.int 0) (.int 0) (.int 0) (.int 1) (.ref qtw) (.ref qtn) (.ref qtg) (.ref qta) (.ref qtr) (.ref qtm) (.ref qtt) (.ref qts) iA) L_X5_168 (preRV (q := (RX4, TX4, 13)) hN hP [2] rfl 2 3 rfl rfl) rfl ⟨Nat.le_of_ble_eq_true rfl, Nat.le_of_ble_eq_true rfl⟩ hl.1 (Nat.le_of_ble_eq_true rfl) dX5_bookOf_5 ⟨Nat.le_of_ble_eq_true rfl, Nat.le_of_ble_eq_true rfl⟩) (fun r_1 h_2 => ?_)
  subst h_2
  refine lv_if_ne (tgt := 18) hx hb dX5_bookOf_8 (by decide) (fun h9 => absurd (by decide) h9) (fun _ => ?_)
  refine lv_aload_n hx hb dX5_bookOf_11 rfl (lv_at hl 0 rfl) ?_
  refine lv_bipush (v := (-2)) hx hb dX5_bookOf_12 (by decide) ?_
  refine kWi (wr := [(qt, .inr (3, [.int 0, .int 0, .int 0, .int 0, .int 1, .ref qtw, .ref qtn, .ref qtg, .ref qta, .ref qtr, .ref qtm, .ref qtt, .ref qts]))]) (rV (As := [.int (-2)]) (rest := []) (b := qx) ⟨hx, hb, hml, hown, hts⟩ (c_X5_refuse2 l G cy (s.heap).size qx (.ref qt) (.ref qk) (.ref qp) (.ref qs) (.ref qa) qr (.int 0) (.int 0) (.int 0) (fun _ => 0)) L_X5_56 (preWV (q := (RX5, TX5, 9)) hN hP hD [0, 1] rfl (by decide) 0 4 rfl rfl) rfl ⟨Nat.le_of_ble_eq_true rfl, Nat.le_of_ble_eq_true rfl⟩ hl.1 (Nat.le_of_ble_eq_true rfl) dX5_bookOf_14 ⟨Nat.le_of_ble_eq_true rfl, Nat.le_of_ble_eq_true rfl⟩) hP hD hS hA [0, 1] [2] rfl rfl (by decide) (by decide) (fun r_4 u_6 H locs h_5 hP hD hS => ?_)
  obtain ⟨rfl, h_5⟩ := h_5
  have hP : va_P G CL [(qt, .inr (3, [.int 0, .int 0, .int 0, .int 0, .int 1, .ref qtw, .ref qtn, .ref qtg, .ref qta, .ref qtr, .ref qtm, .ref qtt, .ref qts])), (qx, .inr (4, [.ref qt, .ref qk, .ref qp, .ref qs, .ref qa, .ref qr, .int 0, .int 0, .int 0]))] H := hP
  have hD : va_D A [(qt, .inr (3, [.int 0, .int 0, .int 0, .int 0, .int 1, .ref qtw, .ref qtn, .ref qtg, .ref qta, .ref qtr, .ref qtm, .ref qtt, .ref qts])), (qx, .inr (4, [.ref qt, .ref qk, .ref qp, .ref qs, .ref qa, .ref qr, .int 0, .int 0, .int 0]))] := hD
  subst h_5
  exact endW (u := []) hx hb hr hlocks rfl va_P0 va_D0 hS ⟨rfl, rfl⟩ dX5_bookOf_17
set_option maxHeartbeats 4000000 in
set_option maxRecDepth 100000 in
theorem p_X5_oneOf (l : Launch) (G : va_G) (cy : Nat → ClassId) (sz : Nat) (qx : Nat) (qt : Nat) (qk : Nat) (qp : Nat) (qs : Nat) (qa : Nat) (qr : Nat) (qtw : Nat) (qtn : Nat) (qtg : Nat) (qta : Nat) (qtr : Nat) (qtm : Nat) (qtt : Nat) (qts : Nat) (iA : Int32) (iB : Int32)   : MW l yX5_oneOf cX5_oneOf 3 (some .int) 6 0 0 G cy [(qx, .inr (4, [.ref qt, .ref qk, .ref qp, .ref qs, .ref qa, .ref qr, .int 0, .int 0, .int 0])), (qr, .inl (cy 0, 5, .inl (fun _ => 0))), (qt, .inr (3, [.int 0, .int 0, .int 0, .int 0, .int 1, .ref qtw, .ref qtn, .ref qtg, .ref qta, .ref qtr, .ref qtm, .ref qtt, .ref qts]))] sz [.ref qx, .int iA, .int iB] (Wi G (fun r u => u = [] ∧ ((r = (-2))))) := by
  refine enW RX5 (by decide) rfl (Nat.le_of_ble_eq_true rfl) (fun p e s m below meth c ls A hx hb hml hown hts hr hlocks hP hN hl hin hD hA hS => ?_)
  have hin : meth.name = _ := hin
  have hK := hN.1
  have hl : lv_has ls 3 [(0, .ref qx), (1, .int iA), (2, .int iB)] := hl
  refine lv_aload_n hx hb dX5_oneOf_0 rfl (lv_at hl 0 rfl) ?_
  refine va_get (D := G) (ci := 4) (v := .ref qt) (C := RX5) (T := TX5) (N := 9) hx hb hts iX_X5 hown hK hP 0 rfl rfl 0 (by decide) (hts _ m_t174) (fun _ h9 => h9) rfl dX5_oneOf_1 ?_
  refine lv_iload_n hx hb dX5_oneOf_4 rfl (lv_at hl 1 rfl) ?_
  refine kRi (rV (As := [.int iA]) (rest := []) (b := qt) ⟨hx, hb, hml, hown, hts⟩ (c_X4_isOne l G cy qt (.int 0) (.int 0) (.int 0) (.int 1) (.ref qtw) (.ref qtn) (.ref qtg) (.ref qta) (.ref qtr) (.ref qtm) (.ref qtt) (.ref qts) iA) L_X5_192 (preRV (q := (RX4, TX4, 13)) hN hP [2] rfl 2 3 rfl rfl) rfl ⟨Nat.le_of_ble_eq_true rfl, Nat.le_of_ble_eq_true rfl⟩ hl.1 (Nat.le_of_ble_eq_true rfl) dX5_oneOf_5 ⟨Nat.le_of_ble_eq_true rfl, Nat.le_of_ble_eq_true rfl⟩) (fun r_1 h_2 => ?_)
  subst h_2
  refine lv_if_ne (tgt := 18) hx hb dX5_oneOf_8 (by decide) (fun h9 => absurd (by decide) h9) (fun _ => ?_)
  refine lv_aload_n hx hb dX5_oneOf_11 rfl (lv_at hl 0 rfl) ?_
  refine lv_bipush (v := (-2)) hx hb dX5_oneOf_12 (by decide) ?_
  refine kWi (wr := [(qt, .inr (3, [.int 0, .int 0, .int 0, .int 0, .int 1, .ref qtw, .ref qtn, .ref qtg, .ref qta, .ref qtr, .ref qtm, .ref qtt, .ref qts]))]) (rV (As := [.int (-2)]) (rest := []) (b := qx) ⟨hx, hb, hml, hown, hts⟩ (c_X5_refuse2 l G cy (s.heap).size qx (.ref qt) (.ref qk) (.ref qp) (.ref qs) (.ref qa) qr (.int 0) (.int 0) (.int 0) (fun _ => 0)) L_X5_56 (preWV (q := (RX5, TX5, 9)) hN hP hD [0, 1] rfl (by decide) 0 4 rfl rfl) rfl ⟨Nat.le_of_ble_eq_true rfl, Nat.le_of_ble_eq_true rfl⟩ hl.1 (Nat.le_of_ble_eq_true rfl) dX5_oneOf_14 ⟨Nat.le_of_ble_eq_true rfl, Nat.le_of_ble_eq_true rfl⟩) hP hD hS hA [0, 1] [2] rfl rfl (by decide) (by decide) (fun r_4 u_6 H locs h_5 hP hD hS => ?_)
  obtain ⟨rfl, h_5⟩ := h_5
  have hP : va_P G CL [(qt, .inr (3, [.int 0, .int 0, .int 0, .int 0, .int 1, .ref qtw, .ref qtn, .ref qtg, .ref qta, .ref qtr, .ref qtm, .ref qtt, .ref qts])), (qx, .inr (4, [.ref qt, .ref qk, .ref qp, .ref qs, .ref qa, .ref qr, .int 0, .int 0, .int 0]))] H := hP
  have hD : va_D A [(qt, .inr (3, [.int 0, .int 0, .int 0, .int 0, .int 1, .ref qtw, .ref qtn, .ref qtg, .ref qta, .ref qtr, .ref qtm, .ref qtt, .ref qts])), (qx, .inr (4, [.ref qt, .ref qk, .ref qp, .ref qs, .ref qa, .ref qr, .int 0, .int 0, .int 0]))] := hD
  subst h_5
  exact endW (u := []) hx hb hr hlocks rfl va_P0 va_D0 hS ⟨rfl, rfl⟩ dX5_oneOf_17
set_option maxHeartbeats 4000000 in
set_option maxRecDepth 100000 in
theorem p_X5_known (l : Launch) (G : va_G) (cy : Nat → ClassId) (sz : Nat) (qx : Nat) (qt : Nat) (qk : Nat) (qp : Nat) (qs : Nat) (qa : Nat) (qr : Nat) (qtw : Nat) (qtn : Nat) (qtg : Nat) (qta : Nat) (qtr : Nat) (qtm : Nat) (qtt : Nat) (qts : Nat) (iA : Int32) (iB : Int32)   : MW l yX5_known cX5_known 3 (some .int) 6 0 0 G cy [(qx, .inr (4, [.ref qt, .ref qk, .ref qp, .ref qs, .ref qa, .ref qr, .int 0, .int 0, .int 0])), (qr, .inl (cy 0, 5, .inl (fun _ => 0))), (qt, .inr (3, [.int 0, .int 0, .int 0, .int 0, .int 1, .ref qtw, .ref qtn, .ref qtg, .ref qta, .ref qtr, .ref qtm, .ref qtt, .ref qts]))] sz [.ref qx, .int iA, .int iB] (Wi G (fun r u => u = [] ∧ ((r = (-2))))) := by
  refine enW RX5 (by decide) rfl (Nat.le_of_ble_eq_true rfl) (fun p e s m below meth c ls A hx hb hml hown hts hr hlocks hP hN hl hin hD hA hS => ?_)
  have hin : meth.name = _ := hin
  have hK := hN.1
  have hl : lv_has ls 3 [(0, .ref qx), (1, .int iA), (2, .int iB)] := hl
  refine lv_aload_n hx hb dX5_known_0 rfl (lv_at hl 0 rfl) ?_
  refine lv_iload_n hx hb dX5_known_1 rfl (lv_at hl 1 rfl) ?_
  refine lv_iload_n hx hb dX5_known_2 rfl (lv_at hl 2 rfl) ?_
  refine kRi (rV (As := [.int iA, .int iB]) (rest := []) (b := qx) ⟨hx, hb, hml, hown, hts⟩ (c_X5_isPair l G cy qx qt (.ref qk) (.ref qp) (.ref qs) (.ref qa) (.ref qr) (.int 0) (.int 0) (.int 0) qtw qtn qtg qta qtr qtm qtt qts iA iB) L_X5_210 (preRV (q := (RX5, TX5, 9)) hN hP [0, 2] rfl 0 4 rfl rfl) rfl ⟨Nat.le_of_ble_eq_true rfl, Nat.le_of_ble_eq_true rfl⟩ hl.1 (Nat.le_of_ble_eq_true rfl) dX5_known_3 ⟨Nat.le_of_ble_eq_true rfl, Nat.le_of_ble_eq_true rfl⟩) (fun r_1 h_2 => ?_)
  subst h_2
  refine lv_if_eq (tgt := 21) hx hb dX5_known_6 (by decide) (fun _ => ?_) (fun h9 => absurd (by decide) h9)
  refine lv_aload_n hx hb dX5_known_21 rfl (lv_at hl 0 rfl) ?_
  refine lv_bipush (v := (-2)) hx hb dX5_known_22 (by decide) ?_
  refine kWi (wr := [(qt, .inr (3, [.int 0, .int 0, .int 0, .int 0, .int 1, .ref qtw, .ref qtn, .ref qtg, .ref qta, .ref qtr, .ref qtm, .ref qtt, .ref qts]))]) (rV (As := [.int (-2)]) (rest := []) (b := qx) ⟨hx, hb, hml, hown, hts⟩ (c_X5_refuse2 l G cy (s.heap).size qx (.ref qt) (.ref qk) (.ref qp) (.ref qs) (.ref qa) qr (.int 0) (.int 0) (.int 0) (fun _ => 0)) L_X5_56 (preWV (q := (RX5, TX5, 9)) hN hP hD [0, 1] rfl (by decide) 0 4 rfl rfl) rfl ⟨Nat.le_of_ble_eq_true rfl, Nat.le_of_ble_eq_true rfl⟩ hl.1 (Nat.le_of_ble_eq_true rfl) dX5_known_24 ⟨Nat.le_of_ble_eq_true rfl, Nat.le_of_ble_eq_true rfl⟩) hP hD hS hA [0, 1] [2] rfl rfl (by decide) (by decide) (fun r_4 u_6 H locs h_5 hP hD hS => ?_)
  obtain ⟨rfl, h_5⟩ := h_5
  have hP : va_P G CL [(qt, .inr (3, [.int 0, .int 0, .int 0, .int 0, .int 1, .ref qtw, .ref qtn, .ref qtg, .ref qta, .ref qtr, .ref qtm, .ref qtt, .ref qts])), (qx, .inr (4, [.ref qt, .ref qk, .ref qp, .ref qs, .ref qa, .ref qr, .int 0, .int 0, .int 0]))] H := hP
  have hD : va_D A [(qt, .inr (3, [.int 0, .int 0, .int 0, .int 0, .int 1, .ref qtw, .ref qtn, .ref qtg, .ref qta, .ref qtr, .ref qtm, .ref qtt, .ref qts])), (qx, .inr (4, [.ref qt, .ref qk, .ref qp, .ref qs, .ref qa, .ref qr, .int 0, .int 0, .int 0]))] := hD
  subst h_5
  exact endW (u := []) hx hb hr hlocks rfl va_P0 va_D0 hS ⟨rfl, rfl⟩ dX5_known_27
set_option maxHeartbeats 4000000 in
set_option maxRecDepth 100000 in
theorem p_X5_alter (l : Launch) (G : va_G) (cy : Nat → ClassId) (sz : Nat) (qx : Nat) (qt : Nat) (qk : Nat) (qp : Nat) (qs : Nat) (qa : Nat) (qr : Nat) (qtw : Nat) (qtn : Nat) (qtg : Nat) (qta : Nat) (qtr : Nat) (qtm : Nat) (qtt : Nat) (qts : Nat) (iA : Int32) (iB : Int32) (iC : Int32)   : MW l yX5_alter cX5_alter 5 (some .int) 6 0 0 G cy [(qx, .inr (4, [.ref qt, .ref qk, .ref qp, .ref qs, .ref qa, .ref qr, .int 0, .int 0, .int 0])), (qr, .inl (cy 0, 5, .inl (fun _ => 0))), (qt, .inr (3, [.int 0, .int 0, .int 0, .int 0, .int 1, .ref qtw, .ref qtn, .ref qtg, .ref qta, .ref qtr, .ref qtm, .ref qtt, .ref qts]))] sz [.ref qx, .int iA, .int iB, .int iC] (Wi G (fun r u => u = [] ∧ ((r = (-2))))) := by
  refine enW RX5 (by decide) rfl (Nat.le_of_ble_eq_true rfl) (fun p e s m below meth c ls A hx hb hml hown hts hr hlocks hP hN hl hin hD hA hS => ?_)
  have hin : meth.name = _ := hin
  have hK := hN.1
  have hl : lv_has ls 5 [(0, .ref qx), (1, .int iA), (2, .int iB), (3, .int iC)] := hl
  refine lv_aload_n hx hb dX5_alter_0 rfl (lv_at hl 0 rfl) ?_
  refine lv_iload_n hx hb dX5_alter_1 rfl (lv_at hl 1 rfl) ?_
  refine lv_iload_n hx hb dX5_alter_2 rfl (lv_at hl 2 rfl) ?_
  refine kRi (rV (As := [.int iA, .int iB]) (rest := []) (b := qx) ⟨hx, hb, hml, hown, hts⟩ (c_X5_isPair l G cy qx qt (.ref qk) (.ref qp) (.ref qs) (.ref qa) (.ref qr) (.int 0) (.int 0) (.int 0) qtw qtn qtg qta qtr qtm qtt qts iA iB) L_X5_210 (preRV (q := (RX5, TX5, 9)) hN hP [0, 2] rfl 0 4 rfl rfl) rfl ⟨Nat.le_of_ble_eq_true rfl, Nat.le_of_ble_eq_true rfl⟩ hl.1 (Nat.le_of_ble_eq_true rfl) dX5_alter_3 ⟨Nat.le_of_ble_eq_true rfl, Nat.le_of_ble_eq_true rfl⟩) (fun r_1 h_2 => ?_)
  subst h_2
  refine lv_if_eq (tgt := 21) hx hb dX5_alter_6 (by decide) (fun _ => ?_) (fun h9 => absurd (by decide) h9)
  refine lv_aload_n hx hb dX5_alter_21 rfl (lv_at hl 0 rfl) ?_
  refine lv_bipush (v := (-2)) hx hb dX5_alter_22 (by decide) ?_
  refine kWi (wr := [(qt, .inr (3, [.int 0, .int 0, .int 0, .int 0, .int 1, .ref qtw, .ref qtn, .ref qtg, .ref qta, .ref qtr, .ref qtm, .ref qtt, .ref qts]))]) (rV (As := [.int (-2)]) (rest := []) (b := qx) ⟨hx, hb, hml, hown, hts⟩ (c_X5_refuse2 l G cy (s.heap).size qx (.ref qt) (.ref qk) (.ref qp) (.ref qs) (.ref qa) qr (.int 0) (.int 0) (.int 0) (fun _ => 0)) L_X5_56 (preWV (q := (RX5, TX5, 9)) hN hP hD [0, 1] rfl (by decide) 0 4 rfl rfl) rfl ⟨Nat.le_of_ble_eq_true rfl, Nat.le_of_ble_eq_true rfl⟩ hl.1 (Nat.le_of_ble_eq_true rfl) dX5_alter_24 ⟨Nat.le_of_ble_eq_true rfl, Nat.le_of_ble_eq_true rfl⟩) hP hD hS hA [0, 1] [2] rfl rfl (by decide) (by decide) (fun r_4 u_6 H locs h_5 hP hD hS => ?_)
  obtain ⟨rfl, h_5⟩ := h_5
  have hP : va_P G CL [(qt, .inr (3, [.int 0, .int 0, .int 0, .int 0, .int 1, .ref qtw, .ref qtn, .ref qtg, .ref qta, .ref qtr, .ref qtm, .ref qtt, .ref qts])), (qx, .inr (4, [.ref qt, .ref qk, .ref qp, .ref qs, .ref qa, .ref qr, .int 0, .int 0, .int 0]))] H := hP
  have hD : va_D A [(qt, .inr (3, [.int 0, .int 0, .int 0, .int 0, .int 1, .ref qtw, .ref qtn, .ref qtg, .ref qta, .ref qtr, .ref qtm, .ref qtt, .ref qts])), (qx, .inr (4, [.ref qt, .ref qk, .ref qp, .ref qs, .ref qa, .ref qr, .int 0, .int 0, .int 0]))] := hD
  subst h_5
  exact endW (u := []) hx hb hr hlocks rfl va_P0 va_D0 hS ⟨rfl, rfl⟩ dX5_alter_27
set_option maxHeartbeats 4000000 in
set_option maxRecDepth 100000 in
theorem p_X5_ground (l : Launch) (G : va_G) (cy : Nat → ClassId) (sz : Nat) (qx : Nat) (qt : Nat) (qk : Nat) (qp : Nat) (qs : Nat) (qa : Nat) (qr : Nat) (qtw : Nat) (qtn : Nat) (qtg : Nat) (qta : Nat) (qtr : Nat) (qtm : Nat) (qtt : Nat) (qts : Nat) (iA : Int32) (iB : Int32)   : MW l yX5_ground cX5_ground 3 (some .int) 6 0 0 G cy [(qx, .inr (4, [.ref qt, .ref qk, .ref qp, .ref qs, .ref qa, .ref qr, .int 0, .int 0, .int 0])), (qr, .inl (cy 0, 5, .inl (fun _ => 0))), (qt, .inr (3, [.int 0, .int 0, .int 0, .int 0, .int 1, .ref qtw, .ref qtn, .ref qtg, .ref qta, .ref qtr, .ref qtm, .ref qtt, .ref qts]))] sz [.ref qx, .int iA, .int iB] (Wi G (fun r u => u = [] ∧ ((r = (-2))))) := by
  refine enW RX5 (by decide) rfl (Nat.le_of_ble_eq_true rfl) (fun p e s m below meth c ls A hx hb hml hown hts hr hlocks hP hN hl hin hD hA hS => ?_)
  have hin : meth.name = _ := hin
  have hK := hN.1
  have hl : lv_has ls 3 [(0, .ref qx), (1, .int iA), (2, .int iB)] := hl
  refine lv_aload_n hx hb dX5_ground_0 rfl (lv_at hl 0 rfl) ?_
  refine lv_iload_n hx hb dX5_ground_1 rfl (lv_at hl 1 rfl) ?_
  refine lv_iload_n hx hb dX5_ground_2 rfl (lv_at hl 2 rfl) ?_
  refine kRi (rV (As := [.int iA, .int iB]) (rest := []) (b := qx) ⟨hx, hb, hml, hown, hts⟩ (c_X5_isPair l G cy qx qt (.ref qk) (.ref qp) (.ref qs) (.ref qa) (.ref qr) (.int 0) (.int 0) (.int 0) qtw qtn qtg qta qtr qtm qtt qts iA iB) L_X5_210 (preRV (q := (RX5, TX5, 9)) hN hP [0, 2] rfl 0 4 rfl rfl) rfl ⟨Nat.le_of_ble_eq_true rfl, Nat.le_of_ble_eq_true rfl⟩ hl.1 (Nat.le_of_ble_eq_true rfl) dX5_ground_3 ⟨Nat.le_of_ble_eq_true rfl, Nat.le_of_ble_eq_true rfl⟩) (fun r_1 h_2 => ?_)
  subst h_2
  refine lv_if_eq (tgt := 21) hx hb dX5_ground_6 (by decide) (fun _ => ?_) (fun h9 => absurd (by decide) h9)
  refine lv_aload_n hx hb dX5_ground_21 rfl (lv_at hl 0 rfl) ?_
  refine lv_bipush (v := (-2)) hx hb dX5_ground_22 (by decide) ?_
  refine kWi (wr := [(qt, .inr (3, [.int 0, .int 0, .int 0, .int 0, .int 1, .ref qtw, .ref qtn, .ref qtg, .ref qta, .ref qtr, .ref qtm, .ref qtt, .ref qts]))]) (rV (As := [.int (-2)]) (rest := []) (b := qx) ⟨hx, hb, hml, hown, hts⟩ (c_X5_refuse2 l G cy (s.heap).size qx (.ref qt) (.ref qk) (.ref qp) (.ref qs) (.ref qa) qr (.int 0) (.int 0) (.int 0) (fun _ => 0)) L_X5_56 (preWV (q := (RX5, TX5, 9)) hN hP hD [0, 1] rfl (by decide) 0 4 rfl rfl) rfl ⟨Nat.le_of_ble_eq_true rfl, Nat.le_of_ble_eq_true rfl⟩ hl.1 (Nat.le_of_ble_eq_true rfl) dX5_ground_24 ⟨Nat.le_of_ble_eq_true rfl, Nat.le_of_ble_eq_true rfl⟩) hP hD hS hA [0, 1] [2] rfl rfl (by decide) (by decide) (fun r_4 u_6 H locs h_5 hP hD hS => ?_)
  obtain ⟨rfl, h_5⟩ := h_5
  have hP : va_P G CL [(qt, .inr (3, [.int 0, .int 0, .int 0, .int 0, .int 1, .ref qtw, .ref qtn, .ref qtg, .ref qta, .ref qtr, .ref qtm, .ref qtt, .ref qts])), (qx, .inr (4, [.ref qt, .ref qk, .ref qp, .ref qs, .ref qa, .ref qr, .int 0, .int 0, .int 0]))] H := hP
  have hD : va_D A [(qt, .inr (3, [.int 0, .int 0, .int 0, .int 0, .int 1, .ref qtw, .ref qtn, .ref qtg, .ref qta, .ref qtr, .ref qtm, .ref qtt, .ref qts])), (qx, .inr (4, [.ref qt, .ref qk, .ref qp, .ref qs, .ref qa, .ref qr, .int 0, .int 0, .int 0]))] := hD
  subst h_5
  exact endW (u := []) hx hb hr hlocks rfl va_P0 va_D0 hS ⟨rfl, rfl⟩ dX5_ground_27
set_option maxHeartbeats 4000000 in
set_option maxRecDepth 100000 in
theorem p_X5_would (l : Launch) (G : va_G) (cy : Nat → ClassId) (sz : Nat) (qx : Nat) (qt : Nat) (qk : Nat) (qp : Nat) (qs : Nat) (qa : Nat) (qr : Nat) (qtw : Nat) (qtn : Nat) (qtg : Nat) (qta : Nat) (qtr : Nat) (qtm : Nat) (qtt : Nat) (qts : Nat) (iA : Int32) (iB : Int32)   : MW l yX5_would cX5_would 4 (some .int) 6 0 0 G cy [(qx, .inr (4, [.ref qt, .ref qk, .ref qp, .ref qs, .ref qa, .ref qr, .int 0, .int 0, .int 0])), (qr, .inl (cy 0, 5, .inl (fun _ => 0))), (qt, .inr (3, [.int 0, .int 0, .int 0, .int 0, .int 1, .ref qtw, .ref qtn, .ref qtg, .ref qta, .ref qtr, .ref qtm, .ref qtt, .ref qts]))] sz [.ref qx, .int iA, .int iB] (Wi G (fun r u => u = [] ∧ ((r = (-2))))) := by
  refine enW RX5 (by decide) rfl (Nat.le_of_ble_eq_true rfl) (fun p e s m below meth c ls A hx hb hml hown hts hr hlocks hP hN hl hin hD hA hS => ?_)
  have hin : meth.name = _ := hin
  have hK := hN.1
  have hl : lv_has ls 4 [(0, .ref qx), (1, .int iA), (2, .int iB)] := hl
  refine lv_aload_n hx hb dX5_would_0 rfl (lv_at hl 0 rfl) ?_
  refine lv_iload_n hx hb dX5_would_1 rfl (lv_at hl 1 rfl) ?_
  refine lv_iload_n hx hb dX5_would_2 rfl (lv_at hl 2 rfl) ?_
  refine kRi (rV (As := [.int iA, .int iB]) (rest := []) (b := qx) ⟨hx, hb, hml, hown, hts⟩ (c_X5_readFit l G cy qx qt (.ref qk) (.ref qp) (.ref qs) (.ref qa) (.ref qr) (.int 0) (.int 0) (.int 0) qtw qtn qtg qta qtr qtm qtt qts iA iB) L_X5_224 (preRV (q := (RX5, TX5, 9)) hN hP [0, 2] rfl 0 4 rfl rfl) rfl ⟨Nat.le_of_ble_eq_true rfl, Nat.le_of_ble_eq_true rfl⟩ hl.1 (Nat.le_of_ble_eq_true rfl) dX5_would_3 ⟨Nat.le_of_ble_eq_true rfl, Nat.le_of_ble_eq_true rfl⟩) (fun r_1 h_2 => ?_)
  subst h_2
  refine lv_istore_n (lv' := [(3, .int (-2)), (0, .ref qx), (1, .int iA), (2, .int iB)]) hx hb dX5_would_6 rfl hl (by decide) rfl (fun ls hl => ?_)
  refine lv_iload_n hx hb dX5_would_7 rfl (lv_at hl 0 rfl) ?_
  refine lv_if_ne (tgt := 23) hx hb dX5_would_8 (by decide) (fun _ => ?_) (fun h9 => absurd h9 (by decide))
  refine lv_aload_n hx hb dX5_would_23 rfl (lv_at hl 1 rfl) ?_
  refine lv_iload_n hx hb dX5_would_24 rfl (lv_at hl 0 rfl) ?_
  refine kWi (wr := [(qt, .inr (3, [.int 0, .int 0, .int 0, .int 0, .int 1, .ref qtw, .ref qtn, .ref qtg, .ref qta, .ref qtr, .ref qtm, .ref qtt, .ref qts]))]) (rV (As := [.int (-2)]) (rest := []) (b := qx) ⟨hx, hb, hml, hown, hts⟩ (c_X5_refuse2 l G cy (s.heap).size qx (.ref qt) (.ref qk) (.ref qp) (.ref qs) (.ref qa) qr (.int 0) (.int 0) (.int 0) (fun _ => 0)) L_X5_56 (preWV (q := (RX5, TX5, 9)) hN hP hD [0, 1] rfl (by decide) 0 4 rfl rfl) rfl ⟨Nat.le_of_ble_eq_true rfl, Nat.le_of_ble_eq_true rfl⟩ hl.1 (Nat.le_of_ble_eq_true rfl) dX5_would_25 ⟨Nat.le_of_ble_eq_true rfl, Nat.le_of_ble_eq_true rfl⟩) hP hD hS hA [0, 1] [2] rfl rfl (by decide) (by decide) (fun r_4 u_6 H locs h_5 hP hD hS => ?_)
  obtain ⟨rfl, h_5⟩ := h_5
  have hP : va_P G CL [(qt, .inr (3, [.int 0, .int 0, .int 0, .int 0, .int 1, .ref qtw, .ref qtn, .ref qtg, .ref qta, .ref qtr, .ref qtm, .ref qtt, .ref qts])), (qx, .inr (4, [.ref qt, .ref qk, .ref qp, .ref qs, .ref qa, .ref qr, .int 0, .int 0, .int 0]))] H := hP
  have hD : va_D A [(qt, .inr (3, [.int 0, .int 0, .int 0, .int 0, .int 1, .ref qtw, .ref qtn, .ref qtg, .ref qta, .ref qtr, .ref qtm, .ref qtt, .ref qts])), (qx, .inr (4, [.ref qt, .ref qk, .ref qp, .ref qs, .ref qa, .ref qr, .int 0, .int 0, .int 0]))] := hD
  subst h_5
  exact endW (u := []) hx hb hr hlocks rfl va_P0 va_D0 hS ⟨rfl, rfl⟩ dX5_would_28
