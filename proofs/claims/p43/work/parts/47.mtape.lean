theorem dX6_number_0 : decode cX6_number 0 = .ok (.aload_n 0, 1) := by decide +kernel
theorem dX6_number_1 : decode cX6_number 1 = .ok (.getfield 154, 3) := by decide +kernel
theorem dX6_number_4 : decode cX6_number 4 = .ok (.iconst 2, 1) := by decide +kernel
theorem dX6_number_5 : decode cX6_number 5 = .ok (.if_icmp .ne 18, 3) := by decide +kernel
theorem dX6_number_8 : decode cX6_number 8 = .ok (.aload_n 0, 1) := by decide +kernel
theorem dX6_number_9 : decode cX6_number 9 = .ok (.getfield 150, 3) := by decide +kernel
theorem dX6_number_12 : decode cX6_number 12 = .ok (.iload_n 3, 1) := by decide +kernel
theorem dX6_number_13 : decode cX6_number 13 = .ok (.i2l, 1) := by decide +kernel
theorem dX6_number_14 : decode cX6_number 14 = .ok (.iload 4, 2) := by decide +kernel
theorem dX6_number_16 : decode cX6_number 16 = .ok (.i2l, 1) := by decide +kernel
theorem dX6_number_17 : decode cX6_number 17 = .ok (.invokestatic 74, 3) := by decide +kernel
theorem dX6_number_20 : decode cX6_number 20 = .ok (.ifCond .ne 8, 3) := by decide +kernel
theorem dX6_number_23 : decode cX6_number 23 = .ok (.aload_n 0, 1) := by decide +kernel
theorem dX6_number_24 : decode cX6_number 24 = .ok (.invokevirtual 179, 3) := by decide +kernel
theorem dX6_number_27 : decode cX6_number 27 = .ok (.ireturn, 1) := by decide +kernel
theorem dX6_number_28 : decode cX6_number 28 = .ok (.aload_n 1, 1) := by decide +kernel
theorem dX6_number_29 : decode cX6_number 29 = .ok (.iload_n 2, 1) := by decide +kernel
theorem dX6_number_30 : decode cX6_number 30 = .ok (.aload_n 0, 1) := by decide +kernel
theorem dX6_number_31 : decode cX6_number 31 = .ok (.getfield 150, 3) := by decide +kernel
theorem dX6_number_34 : decode cX6_number 34 = .ok (.l2i, 1) := by decide +kernel
theorem dX6_number_35 : decode cX6_number 35 = .ok (.iastore, 1) := by decide +kernel
theorem dX6_number_36 : decode cX6_number 36 = .ok (.aload_n 0, 1) := by decide +kernel
theorem dX6_number_37 : decode cX6_number 37 = .ok (.invokevirtual 183, 3) := by decide +kernel
theorem dX6_number_40 : decode cX6_number 40 = .ok (.iconst 1, 1) := by decide +kernel
theorem dX6_number_41 : decode cX6_number 41 = .ok (.ireturn, 1) := by decide +kernel
theorem dX6_perhaps_0 : decode cX6_perhaps 0 = .ok (.aload_n 0, 1) := by decide +kernel
theorem dX6_perhaps_1 : decode cX6_perhaps 1 = .ok (.aload_n 1, 1) := by decide +kernel
theorem dX6_perhaps_2 : decode cX6_perhaps 2 = .ok (.invokevirtual 186, 3) := by decide +kernel
theorem dX6_perhaps_5 : decode cX6_perhaps 5 = .ok (.ifCond .eq 17, 3) := by decide +kernel
theorem dX6_perhaps_8 : decode cX6_perhaps 8 = .ok (.aload_n 0, 1) := by decide +kernel
theorem dX6_perhaps_9 : decode cX6_perhaps 9 = .ok (.aload_n 1, 1) := by decide +kernel
theorem dX6_perhaps_10 : decode cX6_perhaps 10 = .ok (.aload_n 2, 1) := by decide +kernel
theorem dX6_perhaps_11 : decode cX6_perhaps 11 = .ok (.iload_n 3, 1) := by decide +kernel
theorem dX6_perhaps_12 : decode cX6_perhaps 12 = .ok (.iload 4, 2) := by decide +kernel
theorem dX6_perhaps_14 : decode cX6_perhaps 14 = .ok (.iload 5, 2) := by decide +kernel
theorem dX6_perhaps_16 : decode cX6_perhaps 16 = .ok (.invokevirtual 194, 3) := by decide +kernel
theorem dX6_perhaps_19 : decode cX6_perhaps 19 = .ok (.ifCond .eq 7, 3) := by decide +kernel
theorem dX6_perhaps_22 : decode cX6_perhaps 22 = .ok (.iconst 1, 1) := by decide +kernel
theorem dX6_perhaps_23 : decode cX6_perhaps 23 = .ok (.goto 4, 3) := by decide +kernel
theorem dX6_perhaps_26 : decode cX6_perhaps 26 = .ok (.iconst 0, 1) := by decide +kernel
theorem dX6_perhaps_27 : decode cX6_perhaps 27 = .ok (.ireturn, 1) := by decide +kernel
theorem dX6_tells_0 : decode cX6_tells 0 = .ok (.aload_n 0, 1) := by decide +kernel
theorem dX6_tells_1 : decode cX6_tells 1 = .ok (.aload_n 1, 1) := by decide +kernel
theorem dX6_tells_2 : decode cX6_tells 2 = .ok (.invokevirtual 186, 3) := by decide +kernel
theorem dX6_tells_5 : decode cX6_tells 5 = .ok (.ifCond .ne 8, 3) := by decide +kernel
theorem dX6_tells_8 : decode cX6_tells 8 = .ok (.aload_n 0, 1) := by decide +kernel
theorem dX6_tells_9 : decode cX6_tells 9 = .ok (.invokevirtual 179, 3) := by decide +kernel
theorem dX6_tells_12 : decode cX6_tells 12 = .ok (.ireturn, 1) := by decide +kernel
theorem dX6_tells_13 : decode cX6_tells 13 = .ok (.aload_n 0, 1) := by decide +kernel
theorem dX6_tells_14 : decode cX6_tells 14 = .ok (.invokevirtual 183, 3) := by decide +kernel
theorem dX6_tells_17 : decode cX6_tells 17 = .ok (.aload_n 0, 1) := by decide +kernel
theorem dX6_tells_18 : decode cX6_tells 18 = .ok (.aload_n 2, 1) := by decide +kernel
theorem dX6_tells_19 : decode cX6_tells 19 = .ok (.iload_n 3, 1) := by decide +kernel
theorem dX6_tells_20 : decode cX6_tells 20 = .ok (.iload 4, 2) := by decide +kernel
theorem dX6_tells_22 : decode cX6_tells 22 = .ok (.iload 5, 2) := by decide +kernel
theorem dX6_tells_24 : decode cX6_tells 24 = .ok (.invokevirtual 190, 3) := by decide +kernel
theorem dX6_tells_27 : decode cX6_tells 27 = .ok (.ireturn, 1) := by decide +kernel
def Iv3 (v a b : Int32) : Prop := Iv v.toInt64 a.toInt64 b.toInt64
theorem iv3_of {J : Int64} {a b : Int32} (h : Iv J a.toInt64 b.toInt64) : Iv3 J.toInt32 a b := by
  obtain ⟨h1, h2⟩ := Iv_iff.mp h
  have e : J.toInt32.toInt64 = J := by
    rw [Int64.le_iff_toInt_le, Int32.toInt_toInt64] at h1 h2
    apply Int64.toInt_inj.mp
    have k1 := a.le_toInt
    have k2 := b.toInt_lt
    rw [Int32.toInt_toInt64, Int64.toInt_toInt32, Int.bmod_def]
    omega
  unfold Iv3
  rw [e]
  exact h
theorem upd_self {f : Nat → Int32} {k : Nat} : upd f k (f k) = f := by
  funext j
  show (if j = k then f k else f j) = f j
  split
  · next e => rw [e]
  · rfl
theorem us_f {f : Nat → Int32} {k : Nat} : upd f k (f k) = f := upd_self
theorem us_wo {t : TA} {k : Nat} : T_setwo t (upd (T_wo t) k (T_wo t k)) = t := by rw [upd_self]
theorem us_go {t : TA} {k : Nat} : T_setgo t (upd (T_go t) k (T_go t k)) = t := by rw [upd_self]
theorem us_ag {t : TA} {k : Nat} : T_setag t (upd (T_ag t) k (T_ag t k)) = t := by rw [upd_self]
theorem us_re {t : TA} {k : Nat} : T_setre t (upd (T_re t) k (T_re t k)) = t := by rw [upd_self]
theorem us_me {t : TA} {k : Nat} : T_setme t (upd (T_me t) k (T_me t k)) = t := by rw [upd_self]
theorem us_te {t : TA} {k : Nat} : T_sette t (upd (T_te t) k (T_te t k)) = t := by rw [upd_self]
theorem iv3_in {v : Int32} {n : Nat} (hn : n ≤ 8) (h : Iv3 v 0 (nI n - 1)) : ∃ k : Nat, k < n ∧ v = nI k := sz_in rfl (by omega) h
theorem TI_ne {t : TA} (h : TI t) (x : Nat → Int32) : TI (T_setne t x) := h
