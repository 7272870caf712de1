def lft (t : Int32) : Nat → Int32 → Int32
  | 0, x => x
  | n + 1, x => lft t n x * t / 10
def lgst (t v : Int32) : Nat → Int32 → Int32 → Int32
  | 0, c, _ => c
  | n + 1, c, r => if v ≤ r then lgst t v n (c + 1) (r * t / 10) else c
def sp_left (iA iB iC : Int32) : Int32 := if Iv iA.toInt64 0 1000 ∧ Iv iB.toInt64 0 10 ∧ Iv iC.toInt64 0 99 then lft iB iC.toNatClampNeg iA else -2
def sp_longest (iA iB iC : Int32) : Int32 := if Iv iA.toInt64 0 1000 ∧ Iv iB.toInt64 0 10 ∧ Iv iC.toInt64 1 1000 then lgst iB iC 100 (-1) iA else -2
theorem nI_of99 {x : Int32} (h : Iv x.toInt64 0 99) : ∃ k : Nat, k ≤ 99 ∧ x = nI k := by
  have h1 := toI h (m := 0) (n := 99) (by decide) (by decide)
  exact nI_of2 (M := 99) (n := 99) (by decide) (by rw [Int32.lt_iff_toInt_lt]; exact Int.not_lt.mpr h1.1) (by rw [Int32.le_iff_toInt_le]; exact h1.2)
theorem nI_of40 {x : Int32} (h : Iv x.toInt64 0 40) : ∃ k : Nat, k ≤ 40 ∧ x = nI k := by
  have h1 := toI h (m := 0) (n := 40) (by decide) (by decide)
  exact nI_of2 (M := 40) (n := 40) (by decide) (by rw [Int32.lt_iff_toInt_lt]; exact Int.not_lt.mpr h1.1) (by rw [Int32.le_iff_toInt_le]; exact h1.2)
theorem nI_of7 {x : Int32} (h : Iv x.toInt64 0 7) : ∃ k : Nat, k ≤ 7 ∧ x = nI k := by
  have h1 := toI h (m := 0) (n := 7) (by decide) (by decide)
  exact nI_of2 (M := 7) (n := 7) (by decide) (by rw [Int32.lt_iff_toInt_lt]; exact Int.not_lt.mpr h1.1) (by rw [Int32.le_iff_toInt_le]; exact h1.2)
theorem in07 {x : Int32} (h : Iv x.toInt64 0 7) : x = 0 ∨ x = 1 ∨ x = 2 ∨ x = 3 ∨ x = 4 ∨ x = 5 ∨ x = 6 ∨ x = 7 := by
  have h1 := toI h (m := 0) (n := 7) (by decide) (by decide)
  rcases sw_0_8 x with e | e | e | e | e | e | e | e | e | e
  · exact Or.inl e
  · exact Or.inr (Or.inl e)
  · exact Or.inr (Or.inr (Or.inl e))
  · exact Or.inr (Or.inr (Or.inr (Or.inl e)))
  · exact Or.inr (Or.inr (Or.inr (Or.inr (Or.inl e))))
  · exact Or.inr (Or.inr (Or.inr (Or.inr (Or.inr (Or.inl e)))))
  · exact Or.inr (Or.inr (Or.inr (Or.inr (Or.inr (Or.inr (Or.inl e))))))
  · exact Or.inr (Or.inr (Or.inr (Or.inr (Or.inr (Or.inr (Or.inr e))))))
  · subst e; exact absurd h1.2 (by decide)
  · omega
/-- a counter below its bound, at it -/
theorem lp_lt {x y : Int32} {j n : Nat} (hx : x = nI j) (hy : y = nI n) (hj : j < 2 ^ 31) (hn : n < 2 ^ 31) (c : ¬ y ≤ x) : j < n := by
  subst hx hy
  rcases Nat.lt_or_ge j n with q | q
  · exact q
  · exact absurd (nI_le q hj) c
theorem lp_ge {x y : Int32} {j n : Nat} (hx : x = nI j) (hy : y = nI n) (hj : j < 2 ^ 31) (hn : n < 2 ^ 31) (c : y ≤ x) : n ≤ j := by
  subst hx hy
  rcases Nat.lt_or_ge j n with q | q
  · exact absurd c (nI_ge q hn)
  · exact q
theorem in_nI {x : Int32} {j n : Nat} (hx : x = nI j) (h : j < n) (hn : n < 2 ^ 31) : vp_in x n := hx ▸ vp_in_nI h hn
theorem in_el {x y : Int32} {k j : Nat} (hk : k ≤ 7) (hx : x = nI j) (hj : j < 40) (hy : y = nI k) : vp_in (y * 40 + x) 320 := by
  subst hx hy
  rw [show (40 : Int32) = nI 40 from rfl, pk_mul, nI_add]
  exact vp_in_nI (by omega) (by omega)
theorem lg_stop0 {t v : Int32} {n : Nat} {c r : Int32} (h : r < v) : lgst t v n c r = c := by
  cases n with
  | zero => rfl
  | succ n => exact if_neg (Int32.not_le.mpr h)
theorem lg_go {t v : Int32} {n : Nat} {c r : Int32} (h : ¬ r < v) : lgst t v (n + 1) c r = lgst t v n (c + 1) (r * t / 10) := if_pos (Int32.not_lt.mp h)
theorem m1_nI (j : Nat) : nI j - 1 + 1 = nI (j + 1) - 1 := by
  rw [← nI_1]
  apply Int32.toBitVec_inj.mp
  simp
theorem m1_nI' (j : Nat) : nI j - 1 + 1 = nI j := by
  apply Int32.toBitVec_inj.mp
  simp
theorem m1_lt {x : Int32} {j : Nat} (hx : x = nI j - 1) (hj : j ≤ 100) (c : ¬ (99 : Int32) ≤ x) : j < 100 := by
  rcases Nat.lt_or_ge j 100 with q | q
  · exact q
  · exact absurd (by rw [hx, show j = 100 by omega]; decide) c
theorem m1_ge {x : Int32} {j : Nat} (hx : x = nI j - 1) (hj : j ≤ 100) (c : (99 : Int32) ≤ x) : j = 100 := by
  rcases Nat.lt_or_ge j 100 with q | q
  · exfalso
    rw [hx, Int32.le_iff_toInt_le] at c
    have e : (nI j - 1).toInt = (j : Int) - 1 := by
      rw [show (1 : Int32) = nI 1 from rfl, pk_sub_toInt (by omega) (by omega)]
      rfl
    rw [e, show (99 : Int32).toInt = 99 by decide] at c
    omega
  · omega
theorem dX2_putRow_0 : decode cX2_putRow 0 = .ok (.aload_n 0, 1) := by decide +kernel
theorem dX2_putRow_1 : decode cX2_putRow 1 = .ok (.getfield 9, 3) := by decide +kernel
theorem dX2_putRow_4 : decode cX2_putRow 4 = .ok (.iload_n 1, 1) := by decide +kernel
theorem dX2_putRow_5 : decode cX2_putRow 5 = .ok (.iload_n 2, 1) := by decide +kernel
theorem dX2_putRow_6 : decode cX2_putRow 6 = .ok (.iastore, 1) := by decide +kernel
theorem dX2_putRow_7 : decode cX2_putRow 7 = .ok (.aload_n 0, 1) := by decide +kernel
theorem dX2_putRow_8 : decode cX2_putRow 8 = .ok (.getfield 15, 3) := by decide +kernel
theorem dX2_putRow_11 : decode cX2_putRow 11 = .ok (.iload_n 1, 1) := by decide +kernel
theorem dX2_putRow_12 : decode cX2_putRow 12 = .ok (.iload_n 3, 1) := by decide +kernel
theorem dX2_putRow_13 : decode cX2_putRow 13 = .ok (.iastore, 1) := by decide +kernel
theorem dX2_putRow_14 : decode cX2_putRow 14 = .ok (.iconst 0, 1) := by decide +kernel
theorem dX2_putRow_15 : decode cX2_putRow 15 = .ok (.istore 4, 2) := by decide +kernel
theorem dX2_putRow_17 : decode cX2_putRow 17 = .ok (.iload 4, 2) := by decide +kernel
theorem dX2_putRow_19 : decode cX2_putRow 19 = .ok (.iload_n 3, 1) := by decide +kernel
theorem dX2_putRow_20 : decode cX2_putRow 20 = .ok (.if_icmp .ge 22, 3) := by decide +kernel
theorem dX2_putRow_23 : decode cX2_putRow 23 = .ok (.aload_n 0, 1) := by decide +kernel
theorem dX2_putRow_24 : decode cX2_putRow 24 = .ok (.getfield 21, 3) := by decide +kernel
theorem dX2_putRow_27 : decode cX2_putRow 27 = .ok (.iload_n 1, 1) := by decide +kernel
theorem dX2_putRow_28 : decode cX2_putRow 28 = .ok (.bipush 40, 2) := by decide +kernel
theorem dX2_putRow_30 : decode cX2_putRow 30 = .ok (.imul, 1) := by decide +kernel
theorem dX2_putRow_31 : decode cX2_putRow 31 = .ok (.iload 4, 2) := by decide +kernel
theorem dX2_putRow_33 : decode cX2_putRow 33 = .ok (.iadd, 1) := by decide +kernel
theorem dX2_putRow_34 : decode cX2_putRow 34 = .ok (.lconst 0, 1) := by decide +kernel
theorem dX2_putRow_35 : decode cX2_putRow 35 = .ok (.lastore, 1) := by decide +kernel
theorem dX2_putRow_36 : decode cX2_putRow 36 = .ok (.iinc 4 1, 3) := by decide +kernel
theorem dX2_putRow_39 : decode cX2_putRow 39 = .ok (.goto (-22), 3) := by decide +kernel
theorem dX2_putRow_42 : decode cX2_putRow 42 = .ok (.return_, 1) := by decide +kernel
theorem dX5_left_0 : decode cX5_left 0 = .ok (.iload_n 1, 1) := by decide +kernel
theorem dX5_left_1 : decode cX5_left 1 = .ok (.iload_n 2, 1) := by decide +kernel
theorem dX5_left_2 : decode cX5_left 2 = .ok (.invokestatic 294, 3) := by decide +kernel
theorem dX5_left_5 : decode cX5_left 5 = .ok (.ifCond .eq 15, 3) := by decide +kernel
theorem dX5_left_8 : decode cX5_left 8 = .ok (.iload_n 3, 1) := by decide +kernel
theorem dX5_left_9 : decode cX5_left 9 = .ok (.i2l, 1) := by decide +kernel
theorem dX5_left_10 : decode cX5_left 10 = .ok (.lconst 0, 1) := by decide +kernel
theorem dX5_left_11 : decode cX5_left 11 = .ok (.ldc2_w 95, 3) := by decide +kernel
theorem dX5_left_14 : decode cX5_left 14 = .ok (.invokestatic 50, 3) := by decide +kernel
theorem dX5_left_17 : decode cX5_left 17 = .ok (.ifCond .ne 10, 3) := by decide +kernel
theorem dX5_left_20 : decode cX5_left 20 = .ok (.aload_n 0, 1) := by decide +kernel
theorem dX5_left_21 : decode cX5_left 21 = .ok (.bipush (-2), 2) := by decide +kernel
theorem dX5_left_23 : decode cX5_left 23 = .ok (.invokevirtual 56, 3) := by decide +kernel
theorem dX5_left_26 : decode cX5_left 26 = .ok (.ireturn, 1) := by decide +kernel
theorem dX5_left_27 : decode cX5_left 27 = .ok (.iload_n 1, 1) := by decide +kernel
theorem dX5_left_28 : decode cX5_left 28 = .ok (.istore 4, 2) := by decide +kernel
theorem dX5_left_30 : decode cX5_left 30 = .ok (.iconst 0, 1) := by decide +kernel
theorem dX5_left_31 : decode cX5_left 31 = .ok (.istore 5, 2) := by decide +kernel
theorem dX5_left_33 : decode cX5_left 33 = .ok (.iload 5, 2) := by decide +kernel
theorem dX5_left_35 : decode cX5_left 35 = .ok (.iload_n 3, 1) := by decide +kernel
theorem dX5_left_36 : decode cX5_left 36 = .ok (.if_icmp .ge 17, 3) := by decide +kernel
theorem dX5_left_39 : decode cX5_left 39 = .ok (.iload 4, 2) := by decide +kernel
theorem dX5_left_41 : decode cX5_left 41 = .ok (.iload_n 2, 1) := by decide +kernel
theorem dX5_left_42 : decode cX5_left 42 = .ok (.invokestatic 297, 3) := by decide +kernel
theorem dX5_left_45 : decode cX5_left 45 = .ok (.istore 4, 2) := by decide +kernel
theorem dX5_left_47 : decode cX5_left 47 = .ok (.iinc 5 1, 3) := by decide +kernel
theorem dX5_left_50 : decode cX5_left 50 = .ok (.goto (-17), 3) := by decide +kernel
theorem dX5_left_53 : decode cX5_left 53 = .ok (.iload 4, 2) := by decide +kernel
theorem dX5_left_55 : decode cX5_left 55 = .ok (.ireturn, 1) := by decide +kernel
theorem dX5_longest_0 : decode cX5_longest 0 = .ok (.iload_n 1, 1) := by decide +kernel
theorem dX5_longest_1 : decode cX5_longest 1 = .ok (.iload_n 2, 1) := by decide +kernel
theorem dX5_longest_2 : decode cX5_longest 2 = .ok (.invokestatic 294, 3) := by decide +kernel
theorem dX5_longest_5 : decode cX5_longest 5 = .ok (.ifCond .eq 15, 3) := by decide +kernel
theorem dX5_longest_8 : decode cX5_longest 8 = .ok (.iload_n 3, 1) := by decide +kernel
theorem dX5_longest_9 : decode cX5_longest 9 = .ok (.i2l, 1) := by decide +kernel
theorem dX5_longest_10 : decode cX5_longest 10 = .ok (.lconst 1, 1) := by decide +kernel
theorem dX5_longest_11 : decode cX5_longest 11 = .ok (.ldc2_w 216, 3) := by decide +kernel
theorem dX5_longest_14 : decode cX5_longest 14 = .ok (.invokestatic 50, 3) := by decide +kernel
theorem dX5_longest_17 : decode cX5_longest 17 = .ok (.ifCond .ne 10, 3) := by decide +kernel
theorem dX5_longest_20 : decode cX5_longest 20 = .ok (.aload_n 0, 1) := by decide +kernel
theorem dX5_longest_21 : decode cX5_longest 21 = .ok (.bipush (-2), 2) := by decide +kernel
theorem dX5_longest_23 : decode cX5_longest 23 = .ok (.invokevirtual 56, 3) := by decide +kernel
theorem dX5_longest_26 : decode cX5_longest 26 = .ok (.ireturn, 1) := by decide +kernel
theorem dX5_longest_27 : decode cX5_longest 27 = .ok (.iconst (-1), 1) := by decide +kernel
theorem dX5_longest_28 : decode cX5_longest 28 = .ok (.istore 4, 2) := by decide +kernel
theorem dX5_longest_30 : decode cX5_longest 30 = .ok (.iload_n 1, 1) := by decide +kernel
theorem dX5_longest_31 : decode cX5_longest 31 = .ok (.istore 5, 2) := by decide +kernel
theorem dX5_longest_33 : decode cX5_longest 33 = .ok (.iload 5, 2) := by decide +kernel
theorem dX5_longest_35 : decode cX5_longest 35 = .ok (.iload_n 3, 1) := by decide +kernel
theorem dX5_longest_36 : decode cX5_longest 36 = .ok (.if_icmp .lt 24, 3) := by decide +kernel
theorem dX5_longest_39 : decode cX5_longest 39 = .ok (.iload 4, 2) := by decide +kernel
theorem dX5_longest_41 : decode cX5_longest 41 = .ok (.bipush 99, 2) := by decide +kernel
theorem dX5_longest_43 : decode cX5_longest 43 = .ok (.if_icmp .ge 17, 3) := by decide +kernel
theorem dX5_longest_46 : decode cX5_longest 46 = .ok (.iinc 4 1, 3) := by decide +kernel
theorem dX5_longest_49 : decode cX5_longest 49 = .ok (.iload 5, 2) := by decide +kernel
theorem dX5_longest_51 : decode cX5_longest 51 = .ok (.iload_n 2, 1) := by decide +kernel
theorem dX5_longest_52 : decode cX5_longest 52 = .ok (.invokestatic 297, 3) := by decide +kernel
theorem dX5_longest_55 : decode cX5_longest 55 = .ok (.istore 5, 2) := by decide +kernel
theorem dX5_longest_57 : decode cX5_longest 57 = .ok (.goto (-24), 3) := by decide +kernel
theorem dX5_longest_60 : decode cX5_longest 60 = .ok (.iload 4, 2) := by decide +kernel
theorem dX5_longest_62 : decode cX5_longest 62 = .ok (.ireturn, 1) := by decide +kernel
theorem dX5_row_0 : decode cX5_row 0 = .ok (.iload_n 1, 1) := by decide +kernel
theorem dX5_row_1 : decode cX5_row 1 = .ok (.invokestatic 44, 3) := by decide +kernel
theorem dX5_row_4 : decode cX5_row 4 = .ok (.ifCond .eq 27, 3) := by decide +kernel
theorem dX5_row_7 : decode cX5_row 7 = .ok (.iload_n 2, 1) := by decide +kernel
theorem dX5_row_8 : decode cX5_row 8 = .ok (.i2l, 1) := by decide +kernel
theorem dX5_row_9 : decode cX5_row 9 = .ok (.lconst 0, 1) := by decide +kernel
theorem dX5_row_10 : decode cX5_row 10 = .ok (.ldc2_w 48, 3) := by decide +kernel
theorem dX5_row_13 : decode cX5_row 13 = .ok (.invokestatic 50, 3) := by decide +kernel
theorem dX5_row_16 : decode cX5_row 16 = .ok (.ifCond .eq 15, 3) := by decide +kernel
theorem dX5_row_19 : decode cX5_row 19 = .ok (.iload_n 3, 1) := by decide +kernel
theorem dX5_row_20 : decode cX5_row 20 = .ok (.i2l, 1) := by decide +kernel
theorem dX5_row_21 : decode cX5_row 21 = .ok (.lconst 0, 1) := by decide +kernel
theorem dX5_row_22 : decode cX5_row 22 = .ok (.ldc2_w 54, 3) := by decide +kernel
theorem dX5_row_25 : decode cX5_row 25 = .ok (.invokestatic 50, 3) := by decide +kernel
theorem dX5_row_28 : decode cX5_row 28 = .ok (.ifCond .ne 10, 3) := by decide +kernel
theorem dX5_row_31 : decode cX5_row 31 = .ok (.aload_n 0, 1) := by decide +kernel
theorem dX5_row_32 : decode cX5_row 32 = .ok (.bipush (-2), 2) := by decide +kernel
theorem dX5_row_34 : decode cX5_row 34 = .ok (.invokevirtual 56, 3) := by decide +kernel
theorem dX5_row_37 : decode cX5_row 37 = .ok (.ireturn, 1) := by decide +kernel
theorem dX5_row_38 : decode cX5_row 38 = .ok (.aload_n 0, 1) := by decide +kernel
theorem dX5_row_39 : decode cX5_row 39 = .ok (.getfield 29, 3) := by decide +kernel
theorem dX5_row_42 : decode cX5_row 42 = .ok (.iload_n 1, 1) := by decide +kernel
theorem dX5_row_43 : decode cX5_row 43 = .ok (.iload_n 2, 1) := by decide +kernel
theorem dX5_row_44 : decode cX5_row 44 = .ok (.iload_n 3, 1) := by decide +kernel
theorem dX5_row_45 : decode cX5_row 45 = .ok (.invokevirtual 60, 3) := by decide +kernel
theorem dX5_row_48 : decode cX5_row 48 = .ok (.iconst 1, 1) := by decide +kernel
theorem dX5_row_49 : decode cX5_row 49 = .ok (.ireturn, 1) := by decide +kernel
set_option maxHeartbeats 4000000 in
set_option maxRecDepth 100000 in
theorem c_X2_putRow (l : Launch) (G : va_G) (cy : Nat → ClassId) (sz : Nat) (qs : Nat) (qsh : Nat) (qss : Nat) (qsa : Nat) (qse : Nat) (fH : Nat → Int32) (iA : Int32) (iB : Int32) (iC : Int32)  (hH : ∀ i, i < 8 → fH i = -1) (hI : Iv iA.toInt64 0 7) (hC : Iv iC.toInt64 0 40) : MW l yX2_putRow cX2_putRow 5 none 1 0 0 G cy [(qs, .inr (1, [.ref qsh, .ref qss, .ref qsa, .ref qse])), (qsh, .inl (cy 0, 8, .inl fH)), (qss, .inl (cy 0, 8, .inl (fun _ => 0))), (qse, .inl (cy 1, 320, .inr (.inl (fun _ => 0))))] sz [.ref qs, .int iA, .int iB, .int iC] (Wv G (fun u => u = [])) := by
  refine enW RX2 (by decide) rfl (Nat.le_of_ble_eq_true rfl) (fun p e s m below meth c ls A hx hb hml hown hts hr hlocks hP hN hl hin hD hA hS => ?_)
  have hin : meth.name = _ := hin
  have hK := hN.1
  have hl : lv_has ls 5 [(0, .ref qs), (1, .int iA), (2, .int iB), (3, .int iC)] := hl
  refine lv_aload_n hx hb dX2_putRow_0 rfl (lv_at hl 0 rfl) ?_
  refine va_get (D := G) (ci := 1) (v := .ref qsh) (C := RX2) (T := TX2) (N := 4) hx hb hts iX_X2 hown hK hP 0 rfl rfl 0 (by decide) (hts _ m_t123) (fun _ h9 => h9) rfl dX2_putRow_1 ?_
  refine lv_iload_n hx hb dX2_putRow_4 rfl (lv_at hl 1 rfl) ?_
  refine lv_iload_n hx hb dX2_putRow_5 rfl (lv_at hl 2 rfl) ?_
  refine va_iast hx hb hK hP hD hS 1 0 rfl rfl (in_shelf hI) dX2_putRow_6 (fun H locs hP hD hS => ?_)
  have hP : va_P G CL [(qs, .inr (1, [.ref qsh, .ref qss, .ref qsa, .ref qse])), (qsh, .inl (cy 0, 8, .inl (upd fH iA.toNatClampNeg iB))), (qss, .inl (cy 0, 8, .inl (fun _ => 0))), (qse, .inl (cy 1, 320, .inr (.inl (fun _ => 0))))] H := hP
  have hD : va_D A [(qs, .inr (1, [.ref qsh, .ref qss, .ref qsa, .ref qse])), (qsh, .inl (cy 0, 8, .inl (upd fH iA.toNatClampNeg iB))), (qss, .inl (cy 0, 8, .inl (fun _ => 0))), (qse, .inl (cy 1, 320, .inr (.inl (fun _ => 0))))] := hD
  refine lv_aload_n hx hb dX2_putRow_7 rfl (lv_at hl 0 rfl) ?_
  refine va_get (D := G) (ci := 1) (v := .ref qss) (C := RX2) (T := TX2) (N := 4) hx hb hts iX_X2 hown hK hP 0 rfl rfl 1 (by decide) (hts _ m_t125) (fun _ h9 => h9) rfl dX2_putRow_8 ?_
  refine lv_iload_n hx hb dX2_putRow_11 rfl (lv_at hl 1 rfl) ?_
  refine lv_iload_n hx hb dX2_putRow_12 rfl (lv_at hl 3 rfl) ?_
  refine va_iast hx hb hK hP hD hS 2 0 rfl rfl (in_shelf hI) dX2_putRow_13 (fun H locs hP hD hS => ?_)
  have hP : va_P G CL [(qs, .inr (1, [.ref qsh, .ref qss, .ref qsa, .ref qse])), (qsh, .inl (cy 0, 8, .inl (upd fH iA.toNatClampNeg iB))), (qss, .inl (cy 0, 8, .inl (upd (fun _ => 0) iA.toNatClampNeg iC))), (qse, .inl (cy 1, 320, .inr (.inl (fun _ => 0))))] H := hP
  have hD : va_D A [(qs, .inr (1, [.ref qsh, .ref qss, .ref qsa, .ref qse])), (qsh, .inl (cy 0, 8, .inl (upd fH iA.toNatClampNeg iB))), (qss, .inl (cy 0, 8, .inl (upd (fun _ => 0) iA.toNatClampNeg iC))), (qse, .inl (cy 1, 320, .inr (.inl (fun _ => 0))))] := hD
  obtain ⟨k_1, hk_2, rfl⟩ := nI_of7 hI
  obtain ⟨k_3, hk_4, rfl⟩ := nI_of40 hC
  refine lv_iconst (v := 0) hx hb dX2_putRow_14 (by decide) ?_
  refine lv_istore (lv' := [(4, .int 0), (0, .ref qs), (1, .int (nI k_1)), (2, .int iB), (3, .int (nI k_3))]) hx hb dX2_putRow_15 hl (by decide) rfl (fun ls hl => ?_)
  have lp_5 : ∀ (n_6 : Nat) (j_8 : Nat) (xJ_9 : Int32) (fE_10 : Nat → Int64), 40 - j_8 < n_6 → xJ_9 = nI j_8 → j_8 ≤ 40 → ∀ (H : Heap) (locs : List Loc) (ls : Array Slot), va_P G CL [(qs, .inr (1, [.ref qsh, .ref qss, .ref qsa, .ref qse])), (qsh, .inl (cy 0, 8, .inl (upd fH (nI k_1).toNatClampNeg iB))), (qss, .inl (cy 0, 8, .inl (upd (fun _ => 0) (nI k_1).toNatClampNeg (nI k_3)))), (qse, .inl (cy 1, 320, .inr (.inl fE_10)))] H → va_D A [(qs, .inr (1, [.ref qsh, .ref qss, .ref qsa, .ref qse])), (qsh, .inl (cy 0, 8, .inl (upd fH (nI k_1).toNatClampNeg iB))), (qss, .inl (cy 0, 8, .inl (upd (fun _ => 0) (nI k_1).toNatClampNeg (nI k_3)))), (qse, .inl (cy 1, 320, .inr (.inl fE_10)))] → va_S A s.heap H locs → lv_has ls 5 [(4, .int xJ_9), (0, .ref qs), (1, .int (nI k_1)), (2, .int iB), (3, .int (nI k_3))] → W p l e (Rm 1 0 0) s m (List.toArray (α := Value) [.ref qs, .int (nI k_1), .int iB, .int (nI k_3)]) below meth c H locs 0 0 (MQ below ((Wv G (fun u => u = [])) A) (List.toArray (α := Value) [.ref qs, .int (nI k_1), .int iB, .int (nI k_3)]) s 0 0 A) (F0 m 17 ls []) := by
    intro n_6
    induction n_6 with
    | zero => intro j_8 xJ_9 fE_10 hm9; exact absurd hm9 (Nat.not_lt_zero _)
    | succ n_6 ih_7 =>
      intro j_8 xJ_9 fE_10 hm_13 hxJ_11 hj_12 H locs ls hP hD hS hl
      refine lv_iload hx hb dX2_putRow_17 (lv_at hl 0 rfl) ?_
      refine lv_iload_n hx hb dX2_putRow_19 rfl (lv_at hl 4 rfl) ?_
      refine lv_icmp_ge (tgt := 42) hx hb dX2_putRow_20 (by decide) (fun c_14 => ?_) (fun c_14 => ?_)
      · exact endV (u := []) hx hb hr hlocks va_P0 va_D0 hS rfl dX2_putRow_42
      · have hlt_15 : j_8 < k_3 := lp_lt hxJ_11 rfl (by omega) (by omega) c_14
        refine lv_aload_n hx hb dX2_putRow_23 rfl (lv_at hl 1 rfl) ?_
        refine va_get (D := G) (ci := 1) (v := .ref qse) (C := RX2) (T := TX2) (N := 4) hx hb hts iX_X2 hown hK hP 0 rfl rfl 3 (by decide) (hts _ m_t129) (fun _ h9 => h9) rfl dX2_putRow_24 ?_
        refine lv_iload_n hx hb dX2_putRow_27 rfl (lv_at hl 2 rfl) ?_
        refine lv_bipush (v := 40) hx hb dX2_putRow_28 (by decide) ?_
        refine lv_imul hx hb dX2_putRow_30 ?_
        refine lv_iload hx hb dX2_putRow_31 (lv_at hl 0 rfl) ?_
        refine lv_iadd hx hb dX2_putRow_33 ?_
        refine lv_lconst (v := 0) hx hb dX2_putRow_34 (by decide) ?_
        refine va_last hx hb hK hP hD hS 3 1 rfl rfl (in_el hk_2 hxJ_11 (by omega) rfl) dX2_putRow_35 (fun H locs hP hD hS => ?_)
        have hP : va_P G CL [(qs, .inr (1, [.ref qsh, .ref qss, .ref qsa, .ref qse])), (qsh, .inl (cy 0, 8, .inl (upd fH (nI k_1).toNatClampNeg iB))), (qss, .inl (cy 0, 8, .inl (upd (fun _ => 0) (nI k_1).toNatClampNeg (nI k_3)))), (qse, .inl (cy 1, 320, .inr (.inl (vp_updL fE_10 (((nI k_1) * 40) + xJ_9).toNatClampNeg 0))))] H := hP
        have hD : va_D A [(qs, .inr (1, [.ref qsh, .ref qss, .ref qsa, .ref qse])), (qsh, .inl (cy 0, 8, .inl (upd fH (nI k_1).toNatClampNeg iB))), (qss, .inl (cy 0, 8, .inl (upd (fun _ => 0) (nI k_1).toNatClampNeg (nI k_3)))), (qse, .inl (cy 1, 320, .inr (.inl (vp_updL fE_10 (((nI k_1) * 40) + xJ_9).toNatClampNeg 0))))] := hD
        refine lv_iinc (v := xJ_9 + 1) (lv' := [(4, .int (xJ_9 + 1)), (0, .ref qs), (1, .int (nI k_1)), (2, .int iB), (3, .int (nI k_3))]) hx hb dX2_putRow_36 hl (k := 0) rfl (rfl) (by decide) rfl (fun ls hl => ?_)
        refine lv_goto (tgt := 17) hx hb dX2_putRow_39 (by decide) ?_
        exact ih_7 (j_8 + 1) (xJ_9 + 1) (vp_updL fE_10 (((nI k_1) * 40) + xJ_9).toNatClampNeg 0) (by omega) (by rw [hxJ_11]; exact nI_1 _) (by omega) _ _ _ hP hD hS (lv_sub hl [0, 1, 2, 3, 4] rfl)
  exact lp_5 ((40 - 0) + 1) 0 0 (fun _ => 0) (Nat.lt_succ_self _) rfl (Nat.zero_le _) _ _ ls hP hD hS (lv_sub hl [0, 1, 2, 3, 4] rfl)
set_option maxHeartbeats 4000000 in
set_option maxRecDepth 100000 in
theorem p_X5_row (l : Launch) (G : va_G) (cy : Nat → ClassId) (sz : Nat) (qx : Nat) (qt : Nat) (qk : Nat) (qp : Nat) (qs : Nat) (qa : Nat) (qr : Nat) (qsh : Nat) (qss : Nat) (qsa : Nat) (qse : Nat) (fH : Nat → Int32) (iA : Int32) (iB : Int32) (iC : Int32)  (hH : ∀ i, i < 8 → fH i = -1) : MW l yX5_row cX5_row 4 (some .int) 6 0 0 G cy [(qx, .inr (4, [.ref qt, .ref qk, .ref qp, .ref qs, .ref qa, .ref qr, .int 0, .int 0, .int 0])), (qr, .inl (cy 0, 5, .inl (fun _ => 0))), (qs, .inr (1, [.ref qsh, .ref qss, .ref qsa, .ref qse])), (qsh, .inl (cy 0, 8, .inl fH)), (qss, .inl (cy 0, 8, .inl (fun _ => 0))), (qse, .inl (cy 1, 320, .inr (.inl (fun _ => 0))))] sz [.ref qx, .int iA, .int iB, .int iC] (Wi G (fun r u => u = [] ∧ ((r = (sp_row iA iB iC))))) := by
  refine enW RX5 (by decide) rfl (Nat.le_of_ble_eq_true rfl) (fun p e s m below meth c ls A hx hb hml hown hts hr hlocks hP hN hl hin hD hA hS => ?_)
  have hin : meth.name = _ := hin
  have hK := hN.1
  have hl : lv_has ls 4 [(0, .ref qx), (1, .int iA), (2, .int iB), (3, .int iC)] := hl
  refine lv_iload_n hx hb dX5_row_0 rfl (lv_at hl 1 rfl) ?_
  refine kRi (rS (As := [.int iA]) (rest := []) ⟨hx, hb, hml, hown, hts⟩ (c_X5_isShelf l G cy iA) L_X5_44 (preRS hN hP [] rfl) rfl ⟨Nat.le_of_ble_eq_true rfl, Nat.le_of_ble_eq_true rfl⟩ hl.1 (Nat.le_of_ble_eq_true rfl) dX5_row_1 ⟨Nat.le_of_ble_eq_true rfl, Nat.le_of_ble_eq_true rfl⟩) (fun r_1 h_2 => ?_)
  rcases h_2 with ⟨rfl, h_3⟩ | ⟨rfl, h_3⟩
  · refine lv_if_eq (tgt := 31) hx hb dX5_row_4 (by decide) (fun h9 => absurd h9 (by decide)) (fun _ => ?_)
    refine lv_iload_n hx hb dX5_row_7 rfl (lv_at hl 2 rfl) ?_
    refine lv_i2l (v := iB.toInt64) hx hb dX5_row_8 rfl ?_
    refine lv_lconst (v := 0) hx hb dX5_row_9 (by decide) ?_
    refine lv_ldc2 hx hb hown (hts _ m_t213) dX5_row_10 ?_
    refine kRi (rS (As := [.long iB.toInt64, .long 0, .long 4]) (rest := []) ⟨hx, hb, hml, hown, hts⟩ (c_X5_within l G cy iB.toInt64 0 4) L_X5_50 (preRS hN hP [] rfl) rfl ⟨Nat.le_of_ble_eq_true rfl, Nat.le_of_ble_eq_true rfl⟩ hl.1 (Nat.le_of_ble_eq_true rfl) dX5_row_13 ⟨Nat.le_of_ble_eq_true rfl, Nat.le_of_ble_eq_true rfl⟩) (fun r_5 h_6 => ?_)
    rcases h_6 with ⟨rfl, h_7⟩ | ⟨rfl, h_7⟩
    · refine lv_if_eq (tgt := 31) hx hb dX5_row_16 (by decide) (fun h9 => absurd h9 (by decide)) (fun _ => ?_)
      refine lv_iload_n hx hb dX5_row_19 rfl (lv_at hl 3 rfl) ?_
      refine lv_i2l (v := iC.toInt64) hx hb dX5_row_20 rfl ?_
      refine lv_lconst (v := 0) hx hb dX5_row_21 (by decide) ?_
      refine lv_ldc2 hx hb hown (hts _ m_t214) dX5_row_22 ?_
      refine kRi (rS (As := [.long iC.toInt64, .long 0, .long 40]) (rest := []) ⟨hx, hb, hml, hown, hts⟩ (c_X5_within l G cy iC.toInt64 0 40) L_X5_50 (preRS hN hP [] rfl) rfl ⟨Nat.le_of_ble_eq_true rfl, Nat.le_of_ble_eq_true rfl⟩ hl.1 (Nat.le_of_ble_eq_true rfl) dX5_row_25 ⟨Nat.le_of_ble_eq_true rfl, Nat.le_of_ble_eq_true rfl⟩) (fun r_9 h_10 => ?_)
      rcases h_10 with ⟨rfl, h_11⟩ | ⟨rfl, h_11⟩
      · refine lv_if_ne (tgt := 38) hx hb dX5_row_28 (by decide) (fun _ => ?_) (fun h9 => absurd h9 (by decide))
        refine lv_aload_n hx hb dX5_row_38 rfl (lv_at hl 0 rfl) ?_
        refine va_get (D := G) (ci := 4) (v := .ref qs) (C := RX5) (T := TX5) (N := 9) hx hb hts iX_X5 hown hK hP 0 rfl rfl 3 (by decide) (hts _ m_t177) (fun _ h9 => h9) rfl dX5_row_39 ?_
        refine lv_iload_n hx hb dX5_row_42 rfl (lv_at hl 1 rfl) ?_
        refine lv_iload_n hx hb dX5_row_43 rfl (lv_at hl 2 rfl) ?_
        refine lv_iload_n hx hb dX5_row_44 rfl (lv_at hl 3 rfl) ?_
        refine kWv (wr := [(qx, .inr (4, [.ref qt, .ref qk, .ref qp, .ref qs, .ref qa, .ref qr, .int 0, .int 0, .int 0])), (qr, .inl (cy 0, 5, .inl (fun _ => 0)))]) (rV (As := [.int iA, .int iB, .int iC]) (rest := []) (b := qs) ⟨hx, hb, hml, hown, hts⟩ (c_X2_putRow l G cy (s.heap).size qs qsh qss qsa qse fH iA iB iC hH h_3 h_11) L_X5_60 (preWV (q := (RX2, TX2, 4)) hN hP hD [2, 3, 4, 5] rfl (by decide) 2 1 rfl rfl) rfl ⟨Nat.le_of_ble_eq_true rfl, Nat.le_of_ble_eq_true rfl⟩ hl.1 (Nat.le_of_ble_eq_true rfl) dX5_row_45 ⟨Nat.le_of_ble_eq_true rfl, Nat.le_of_ble_eq_true rfl⟩) hP hD hS hA [2, 3, 4, 5] [0, 1] rfl rfl (by decide) (by decide) (fun u_15 H locs h_14 hP hD hS => ?_)
        subst h_14
        have hP : va_P G CL [(qx, .inr (4, [.ref qt, .ref qk, .ref qp, .ref qs, .ref qa, .ref qr, .int 0, .int 0, .int 0])), (qr, .inl (cy 0, 5, .inl (fun _ => 0)))] H := hP
        have hD : va_D A [(qx, .inr (4, [.ref qt, .ref qk, .ref qp, .ref qs, .ref qa, .ref qr, .int 0, .int 0, .int 0])), (qr, .inl (cy 0, 5, .inl (fun _ => 0)))] := hD
        refine lv_iconst (v := 1) hx hb dX5_row_48 (by decide) ?_
        exact endW (u := []) hx hb hr hlocks rfl va_P0 va_D0 hS ⟨rfl, (by first | (simp [sp_row, Iv, hH, h_3, h_7, h_11]; done) | (unfold sp_row; decide))⟩ dX5_row_49
      · refine lv_if_ne (tgt := 38) hx hb dX5_row_28 (by decide) (fun h9 => absurd (by decide) h9) (fun _ => ?_)
        refine lv_aload_n hx hb dX5_row_31 rfl (lv_at hl 0 rfl) ?_
        refine lv_bipush (v := (-2)) hx hb dX5_row_32 (by decide) ?_
        refine kWi (wr := [(qs, .inr (1, [.ref qsh, .ref qss, .ref qsa, .ref qse])), (qsh, .inl (cy 0, 8, .inl fH)), (qss, .inl (cy 0, 8, .inl (fun _ => 0))), (qse, .inl (cy 1, 320, .inr (.inl (fun _ => 0))))]) (rV (As := [.int (-2)]) (rest := []) (b := qx) ⟨hx, hb, hml, hown, hts⟩ (c_X5_refuse2 l G cy (s.heap).size qx (.ref qt) (.ref qk) (.ref qp) (.ref qs) (.ref qa) qr (.int 0) (.int 0) (.int 0) (fun _ => 0)) L_X5_56 (preWV (q := (RX5, TX5, 9)) hN hP hD [0, 1] rfl (by decide) 0 4 rfl rfl) rfl ⟨Nat.le_of_ble_eq_true rfl, Nat.le_of_ble_eq_true rfl⟩ hl.1 (Nat.le_of_ble_eq_true rfl) dX5_row_34 ⟨Nat.le_of_ble_eq_true rfl, Nat.le_of_ble_eq_true rfl⟩) hP hD hS hA [0, 1] [2, 3, 4, 5] rfl rfl (by decide) (by decide) (fun r_17 u_19 H locs h_18 hP hD hS => ?_)
        obtain ⟨rfl, h_18⟩ := h_18
        have hP : va_P G CL [(qs, .inr (1, [.ref qsh, .ref qss, .ref qsa, .ref qse])), (qsh, .inl (cy 0, 8, .inl fH)), (qss, .inl (cy 0, 8, .inl (fun _ => 0))), (qse, .inl (cy 1, 320, .inr (.inl (fun _ => 0)))), (qx, .inr (4, [.ref qt, .ref qk, .ref qp, .ref qs, .ref qa, .ref qr, .int 0, .int 0, .int 0]))] H := hP
        have hD : va_D A [(qs, .inr (1, [.ref qsh, .ref qss, .ref qsa, .ref qse])), (qsh, .inl (cy 0, 8, .inl fH)), (qss, .inl (cy 0, 8, .inl (fun _ => 0))), (qse, .inl (cy 1, 320, .inr (.inl (fun _ => 0)))), (qx, .inr (4, [.ref qt, .ref qk, .ref qp, .ref qs, .ref qa, .ref qr, .int 0, .int 0, .int 0]))] := hD
        subst h_18
        exact endW (u := []) hx hb hr hlocks rfl va_P0 va_D0 hS ⟨rfl, (by first | (simp [sp_row, Iv, hH, h_3, h_7, h_11]; done) | (unfold sp_row; decide))⟩ dX5_row_37
    · refine lv_if_eq (tgt := 31) hx hb dX5_row_16 (by decide) (fun _ => ?_) (fun h9 => absurd (by decide) h9)
      refine lv_aload_n hx hb dX5_row_31 rfl (lv_at hl 0 rfl) ?_
      refine lv_bipush (v := (-2)) hx hb dX5_row_32 (by decide) ?_
      refine kWi (wr := [(qs, .inr (1, [.ref qsh, .ref qss, .ref qsa, .ref qse])), (qsh, .inl (cy 0, 8, .inl fH)), (qss, .inl (cy 0, 8, .inl (fun _ => 0))), (qse, .inl (cy 1, 320, .inr (.inl (fun _ => 0))))]) (rV (As := [.int (-2)]) (rest := []) (b := qx) ⟨hx, hb, hml, hown, hts⟩ (c_X5_refuse2 l G cy (s.heap).size qx (.ref qt) (.ref qk) (.ref qp) (.ref qs) (.ref qa) qr (.int 0) (.int 0) (.int 0) (fun _ => 0)) L_X5_56 (preWV (q := (RX5, TX5, 9)) hN hP hD [0, 1] rfl (by decide) 0 4 rfl rfl) rfl ⟨Nat.le_of_ble_eq_true rfl, Nat.le_of_ble_eq_true rfl⟩ hl.1 (Nat.le_of_ble_eq_true rfl) dX5_row_34 ⟨Nat.le_of_ble_eq_true rfl, Nat.le_of_ble_eq_true rfl⟩) hP hD hS hA [0, 1] [2, 3, 4, 5] rfl rfl (by decide) (by decide) (fun r_21 u_23 H locs h_22 hP hD hS => ?_)
      obtain ⟨rfl, h_22⟩ := h_22
      have hP : va_P G CL [(qs, .inr (1, [.ref qsh, .ref qss, .ref qsa, .ref qse])), (qsh, .inl (cy 0, 8, .inl fH)), (qss, .inl (cy 0, 8, .inl (fun _ => 0))), (qse, .inl (cy 1, 320, .inr (.inl (fun _ => 0)))), (qx, .inr (4, [.ref qt, .ref qk, .ref qp, .ref qs, .ref qa, .ref qr, .int 0, .int 0, .int 0]))] H := hP
      have hD : va_D A [(qs, .inr (1, [.ref qsh, .ref qss, .ref qsa, .ref qse])), (qsh, .inl (cy 0, 8, .inl fH)), (qss, .inl (cy 0, 8, .inl (fun _ => 0))), (qse, .inl (cy 1, 320, .inr (.inl (fun _ => 0)))), (qx, .inr (4, [.ref qt, .ref qk, .ref qp, .ref qs, .ref qa, .ref qr, .int 0, .int 0, .int 0]))] := hD
      subst h_22
      exact endW (u := []) hx hb hr hlocks rfl va_P0 va_D0 hS ⟨rfl, (by first | (simp [sp_row, Iv, hH, h_3, h_7]; done) | (unfold sp_row; decide))⟩ dX5_row_37
  · refine lv_if_eq (tgt := 31) hx hb dX5_row_4 (by decide) (fun _ => ?_) (fun h9 => absurd (by decide) h9)
    refine lv_aload_n hx hb dX5_row_31 rfl (lv_at hl 0 rfl) ?_
    refine lv_bipush (v := (-2)) hx hb dX5_row_32 (by decide) ?_
    refine kWi (wr := [(qs, .inr (1, [.ref qsh, .ref qss, .ref qsa, .ref qse])), (qsh, .inl (cy 0, 8, .inl fH)), (qss, .inl (cy 0, 8, .inl (fun _ => 0))), (qse, .inl (cy 1, 320, .inr (.inl (fun _ => 0))))]) (rV (As := [.int (-2)]) (rest := []) (b := qx) ⟨hx, hb, hml, hown, hts⟩ (c_X5_refuse2 l G cy (s.heap).size qx (.ref qt) (.ref qk) (.ref qp) (.ref qs) (.ref qa) qr (.int 0) (.int 0) (.int 0) (fun _ => 0)) L_X5_56 (preWV (q := (RX5, TX5, 9)) hN hP hD [0, 1] rfl (by decide) 0 4 rfl rfl) rfl ⟨Nat.le_of_ble_eq_true rfl, Nat.le_of_ble_eq_true rfl⟩ hl.1 (Nat.le_of_ble_eq_true rfl) dX5_row_34 ⟨Nat.le_of_ble_eq_true rfl, Nat.le_of_ble_eq_true rfl⟩) hP hD hS hA [0, 1] [2, 3, 4, 5] rfl rfl (by decide) (by decide) (fun r_25 u_27 H locs h_26 hP hD hS => ?_)
    obtain ⟨rfl, h_26⟩ := h_26
    have hP : va_P G CL [(qs, .inr (1, [.ref qsh, .ref qss, .ref qsa, .ref qse])), (qsh, .inl (cy 0, 8, .inl fH)), (qss, .inl (cy 0, 8, .inl (fun _ => 0))), (qse, .inl (cy 1, 320, .inr (.inl (fun _ => 0)))), (qx, .inr (4, [.ref qt, .ref qk, .ref qp, .ref qs, .ref qa, .ref qr, .int 0, .int 0, .int 0]))] H := hP
    have hD : va_D A [(qs, .inr (1, [.ref qsh, .ref qss, .ref qsa, .ref qse])), (qsh, .inl (cy 0, 8, .inl fH)), (qss, .inl (cy 0, 8, .inl (fun _ => 0))), (qse, .inl (cy 1, 320, .inr (.inl (fun _ => 0)))), (qx, .inr (4, [.ref qt, .ref qk, .ref qp, .ref qs, .ref qa, .ref qr, .int 0, .int 0, .int 0]))] := hD
    subst h_26
    exact endW (u := []) hx hb hr hlocks rfl va_P0 va_D0 hS ⟨rfl, (by first | (simp [sp_row, Iv, hH, h_3]; done) | (unfold sp_row; decide))⟩ dX5_row_37
set_option maxHeartbeats 4000000 in
set_option maxRecDepth 100000 in
theorem p_X5_left (l : Launch) (G : va_G) (cy : Nat → ClassId) (sz : Nat) (qx : Nat) (qt : Nat) (qk : Nat) (qp : Nat) (qs : Nat) (qa : Nat) (qr : Nat) (iA : Int32) (iB : Int32) (iC : Int32)   : MW l yX5_left cX5_left 6 (some .int) 6 0 0 G cy [(qx, .inr (4, [.ref qt, .ref qk, .ref qp, .ref qs, .ref qa, .ref qr, .int 0, .int 0, .int 0])), (qr, .inl (cy 0, 5, .inl (fun _ => 0)))] sz [.ref qx, .int iA, .int iB, .int iC] (Wi G (fun r u => u = [] ∧ ((r = (sp_left iA iB iC))))) := by
  refine enW RX5 (by decide) rfl (Nat.le_of_ble_eq_true rfl) (fun p e s m below meth c ls A hx hb hml hown hts hr hlocks hP hN hl hin hD hA hS => ?_)
  have hin : meth.name = _ := hin
  have hK := hN.1
  have hl : lv_has ls 6 [(0, .ref qx), (1, .int iA), (2, .int iB), (3, .int iC)] := hl
  refine lv_iload_n hx hb dX5_left_0 rfl (lv_at hl 1 rfl) ?_
  refine lv_iload_n hx hb dX5_left_1 rfl (lv_at hl 2 rfl) ?_
  refine kRi (rS (As := [.int iA, .int iB]) (rest := []) ⟨hx, hb, hml, hown, hts⟩ (c_X5_canBeTold l G cy iA iB) L_X5_294 (preRS hN hP [] rfl) rfl ⟨Nat.le_of_ble_eq_true rfl, Nat.le_of_ble_eq_true rfl⟩ hl.1 (Nat.le_of_ble_eq_true rfl) dX5_left_2 ⟨Nat.le_of_ble_eq_true rfl, Nat.le_of_ble_eq_true rfl⟩) (fun r_1 h_2 => ?_)
  rcases h_2 with ⟨rfl, h_3⟩ | ⟨rfl, h_3⟩
  · refine lv_if_eq (tgt := 20) hx hb dX5_left_5 (by decide) (fun h9 => absurd h9 (by decide)) (fun _ => ?_)
    refine lv_iload_n hx hb dX5_left_8 rfl (lv_at hl 3 rfl) ?_
    refine lv_i2l (v := iC.toInt64) hx hb dX5_left_9 rfl ?_
    refine lv_lconst (v := 0) hx hb dX5_left_10 (by decide) ?_
    refine lv_ldc2 hx hb hown (hts _ m_t282) dX5_left_11 ?_
    refine kRi (rS (As := [.long iC.toInt64, .long 0, .long 99]) (rest := []) ⟨hx, hb, hml, hown, hts⟩ (c_X5_within l G cy iC.toInt64 0 99) L_X5_50 (preRS hN hP [] rfl) rfl ⟨Nat.le_of_ble_eq_true rfl, Nat.le_of_ble_eq_true rfl⟩ hl.1 (Nat.le_of_ble_eq_true rfl) dX5_left_14 ⟨Nat.le_of_ble_eq_true rfl, Nat.le_of_ble_eq_true rfl⟩) (fun r_5 h_6 => ?_)
    rcases h_6 with ⟨rfl, h_7⟩ | ⟨rfl, h_7⟩
    · refine lv_if_ne (tgt := 27) hx hb dX5_left_17 (by decide) (fun _ => ?_) (fun h9 => absurd h9 (by decide))
      obtain ⟨k_9, hk_10, rfl⟩ := nI_of99 h_7
      refine lv_iload_n hx hb dX5_left_27 rfl (lv_at hl 1 rfl) ?_
      refine lv_istore (lv' := [(4, .int iA), (0, .ref qx), (1, .int iA), (2, .int iB), (3, .int (nI k_9))]) hx hb dX5_left_28 hl (by decide) rfl (fun ls hl => ?_)
      refine lv_iconst (v := 0) hx hb dX5_left_30 (by decide) ?_
      refine lv_istore (lv' := [(5, .int 0), (4, .int iA), (0, .ref qx), (1, .int iA), (2, .int iB), (3, .int (nI k_9))]) hx hb dX5_left_31 hl (by decide) rfl (fun ls hl => ?_)
      have lp_11 : ∀ (n_12 : Nat) (j_14 : Nat) (xJ_15 : Int32) (xR_16 : Int32), 99 - j_14 < n_12 → xJ_15 = nI j_14 → xR_16 = lft iB j_14 iA → j_14 ≤ k_9 → ∀ (H : Heap) (locs : List Loc) (ls : Array Slot), va_P G CL [(qx, .inr (4, [.ref qt, .ref qk, .ref qp, .ref qs, .ref qa, .ref qr, .int 0, .int 0, .int 0])), (qr, .inl (cy 0, 5, .inl (fun _ => 0)))] H → va_D A [(qx, .inr (4, [.ref qt, .ref qk, .ref qp, .ref qs, .ref qa, .ref qr, .int 0, .int 0, .int 0])), (qr, .inl (cy 0, 5, .inl (fun _ => 0)))] → va_S A s.heap H locs → lv_has ls 6 [(5, .int xJ_15), (4, .int xR_16), (0, .ref qx), (1, .int iA), (2, .int iB), (3, .int (nI k_9))] → W p l e (Rm 6 0 0) s m (List.toArray (α := Value) [.ref qx, .int iA, .int iB, .int (nI k_9)]) below meth c H locs 0 0 (MQ below ((Wi G (fun r u => u = [] ∧ ((r = (sp_left iA iB (nI k_9)))))) A) (List.toArray (α := Value) [.ref qx, .int iA, .int iB, .int (nI k_9)]) s 0 0 A) (F0 m 33 ls []) := by
        intro n_12
        induction n_12 with
        | zero => intro j_14 xJ_15 xR_16 hm9; exact absurd hm9 (Nat.not_lt_zero _)
        | succ n_12 ih_13 =>
          intro j_14 xJ_15 xR_16 hm_20 hxJ_17 hxR_18 hj_19 H locs ls hP hD hS hl
          refine lv_iload hx hb dX5_left_33 (lv_at hl 0 rfl) ?_
          refine lv_iload_n hx hb dX5_left_35 rfl (lv_at hl 5 rfl) ?_
          refine lv_icmp_ge (tgt := 53) hx hb dX5_left_36 (by decide) (fun c_21 => ?_) (fun c_21 => ?_)
          · have hlt_22 : k_9 ≤ j_14 := lp_ge hxJ_17 rfl (by omega) (by omega) c_21
            refine lv_iload hx hb dX5_left_53 (lv_at hl 1 rfl) ?_
            exact endW (u := []) hx hb hr hlocks rfl va_P0 va_D0 hS ⟨rfl, (by rw [hxR_18, show j_14 = k_9 by omega, sp_left, if_pos ⟨h_3.1, h_3.2, h_7⟩, nI_clamp (by omega)])⟩ dX5_left_55
          · have hlt_23 : j_14 < k_9 := lp_lt hxJ_17 rfl (by omega) (by omega) c_21
            refine lv_iload hx hb dX5_left_39 (lv_at hl 1 rfl) ?_
            refine lv_iload_n hx hb dX5_left_41 rfl (lv_at hl 4 rfl) ?_
            refine kRi (rS (As := [.int xR_16, .int iB]) (rest := []) ⟨hx, hb, hml, hown, hts⟩ (c_X4_afterTelling l G cy xR_16 iB) L_X5_297 (preRS hN hP [] rfl) rfl ⟨Nat.le_of_ble_eq_true rfl, Nat.le_of_ble_eq_true rfl⟩ hl.1 (Nat.le_of_ble_eq_true rfl) dX5_left_42 ⟨Nat.le_of_ble_eq_true rfl, Nat.le_of_ble_eq_true rfl⟩) (fun r_24 h_25 => ?_)
            subst h_25
            refine lv_istore (lv' := [(4, .int (xR_16 * iB / 10)), (5, .int xJ_15), (0, .ref qx), (1, .int iA), (2, .int iB), (3, .int (nI k_9))]) hx hb dX5_left_45 hl (by decide) rfl (fun ls hl => ?_)
            refine lv_iinc (v := xJ_15 + 1) (lv' := [(5, .int (xJ_15 + 1)), (4, .int (xR_16 * iB / 10)), (0, .ref qx), (1, .int iA), (2, .int iB), (3, .int (nI k_9))]) hx hb dX5_left_47 hl (k := 1) rfl (rfl) (by decide) rfl (fun ls hl => ?_)
            refine lv_goto (tgt := 33) hx hb dX5_left_50 (by decide) ?_
            exact ih_13 (j_14 + 1) (xJ_15 + 1) (xR_16 * iB / 10) (by omega) (by rw [hxJ_17]; exact nI_1 _) (by rw [hxR_18]; rfl) (by omega) _ _ _ hP hD hS (lv_sub hl [0, 1, 2, 3, 4, 5] rfl)
      exact lp_11 ((99 - 0) + 1) 0 0 iA (Nat.lt_succ_self _) rfl rfl (Nat.zero_le _) _ _ ls hP hD hS (lv_sub hl [0, 1, 2, 3, 4, 5] rfl)
    · refine lv_if_ne (tgt := 27) hx hb dX5_left_17 (by decide) (fun h9 => absurd (by decide) h9) (fun _ => ?_)
      refine lv_aload_n hx hb dX5_left_20 rfl (lv_at hl 0 rfl) ?_
      refine lv_bipush (v := (-2)) hx hb dX5_left_21 (by decide) ?_
      refine kWi (wr := []) (rV (As := [.int (-2)]) (rest := []) (b := qx) ⟨hx, hb, hml, hown, hts⟩ (c_X5_refuse2 l G cy (s.heap).size qx (.ref qt) (.ref qk) (.ref qp) (.ref qs) (.ref qa) qr (.int 0) (.int 0) (.int 0) (fun _ => 0)) L_X5_56 (preWV (q := (RX5, TX5, 9)) hN hP hD [0, 1] rfl (by decide) 0 4 rfl rfl) rfl ⟨Nat.le_of_ble_eq_true rfl, Nat.le_of_ble_eq_true rfl⟩ hl.1 (Nat.le_of_ble_eq_true rfl) dX5_left_23 ⟨Nat.le_of_ble_eq_true rfl, Nat.le_of_ble_eq_true rfl⟩) hP hD hS hA [0, 1] [] rfl rfl (by decide) (by decide) (fun r_27 u_29 H locs h_28 hP hD hS => ?_)
      obtain ⟨rfl, h_28⟩ := h_28
      have hP : va_P G CL [(qx, .inr (4, [.ref qt, .ref qk, .ref qp, .ref qs, .ref qa, .ref qr, .int 0, .int 0, .int 0]))] H := hP
      have hD : va_D A [(qx, .inr (4, [.ref qt, .ref qk, .ref qp, .ref qs, .ref qa, .ref qr, .int 0, .int 0, .int 0]))] := hD
      subst h_28
      exact endW (u := []) hx hb hr hlocks rfl va_P0 va_D0 hS ⟨rfl, (by first | (simp [sp_left, Iv, h_3, h_7]; done) | (unfold sp_left; decide))⟩ dX5_left_26
  · refine lv_if_eq (tgt := 20) hx hb dX5_left_5 (by decide) (fun _ => ?_) (fun h9 => absurd (by decide) h9)
    refine lv_aload_n hx hb dX5_left_20 rfl (lv_at hl 0 rfl) ?_
    refine lv_bipush (v := (-2)) hx hb dX5_left_21 (by decide) ?_
    refine kWi (wr := []) (rV (As := [.int (-2)]) (rest := []) (b := qx) ⟨hx, hb, hml, hown, hts⟩ (c_X5_refuse2 l G cy (s.heap).size qx (.ref qt) (.ref qk) (.ref qp) (.ref qs) (.ref qa) qr (.int 0) (.int 0) (.int 0) (fun _ => 0)) L_X5_56 (preWV (q := (RX5, TX5, 9)) hN hP hD [0, 1] rfl (by decide) 0 4 rfl rfl) rfl ⟨Nat.le_of_ble_eq_true rfl, Nat.le_of_ble_eq_true rfl⟩ hl.1 (Nat.le_of_ble_eq_true rfl) dX5_left_23 ⟨Nat.le_of_ble_eq_true rfl, Nat.le_of_ble_eq_true rfl⟩) hP hD hS hA [0, 1] [] rfl rfl (by decide) (by decide) (fun r_31 u_33 H locs h_32 hP hD hS => ?_)
    obtain ⟨rfl, h_32⟩ := h_32
    have hP : va_P G CL [(qx, .inr (4, [.ref qt, .ref qk, .ref qp, .ref qs, .ref qa, .ref qr, .int 0, .int 0, .int 0]))] H := hP
    have hD : va_D A [(qx, .inr (4, [.ref qt, .ref qk, .ref qp, .ref qs, .ref qa, .ref qr, .int 0, .int 0, .int 0]))] := hD
    subst h_32
    exact endW (u := []) hx hb hr hlocks rfl va_P0 va_D0 hS ⟨rfl, (by rw [sp_left, if_neg (fun q => h_3 ⟨q.1, q.2.1⟩)])⟩ dX5_left_26
set_option maxHeartbeats 4000000 in
set_option maxRecDepth 100000 in
theorem p_X5_longest (l : Launch) (G : va_G) (cy : Nat → ClassId) (sz : Nat) (qx : Nat) (qt : Nat) (qk : Nat) (qp : Nat) (qs : Nat) (qa : Nat) (qr : Nat) (iA : Int32) (iB : Int32) (iC : Int32)   : MW l yX5_longest cX5_longest 6 (some .int) 6 0 0 G cy [(qx, .inr (4, [.ref qt, .ref qk, .ref qp, .ref qs, .ref qa, .ref qr, .int 0, .int 0, .int 0])), (qr, .inl (cy 0, 5, .inl (fun _ => 0)))] sz [.ref qx, .int iA, .int iB, .int iC] (Wi G (fun r u => u = [] ∧ ((r = (sp_longest iA iB iC))))) := by
  refine enW RX5 (by decide) rfl (Nat.le_of_ble_eq_true rfl) (fun p e s m below meth c ls A hx hb hml hown hts hr hlocks hP hN hl hin hD hA hS => ?_)
  have hin : meth.name = _ := hin
  have hK := hN.1
  have hl : lv_has ls 6 [(0, .ref qx), (1, .int iA), (2, .int iB), (3, .int iC)] := hl
  refine lv_iload_n hx hb dX5_longest_0 rfl (lv_at hl 1 rfl) ?_
  refine lv_iload_n hx hb dX5_longest_1 rfl (lv_at hl 2 rfl) ?_
  refine kRi (rS (As := [.int iA, .int iB]) (rest := []) ⟨hx, hb, hml, hown, hts⟩ (c_X5_canBeTold l G cy iA iB) L_X5_294 (preRS hN hP [] rfl) rfl ⟨Nat.le_of_ble_eq_true rfl, Nat.le_of_ble_eq_true rfl⟩ hl.1 (Nat.le_of_ble_eq_true rfl) dX5_longest_2 ⟨Nat.le_of_ble_eq_true rfl, Nat.le_of_ble_eq_true rfl⟩) (fun r_1 h_2 => ?_)
  rcases h_2 with ⟨rfl, h_3⟩ | ⟨rfl, h_3⟩
  · refine lv_if_eq (tgt := 20) hx hb dX5_longest_5 (by decide) (fun h9 => absurd h9 (by decide)) (fun _ => ?_)
    refine lv_iload_n hx hb dX5_longest_8 rfl (lv_at hl 3 rfl) ?_
    refine lv_i2l (v := iC.toInt64) hx hb dX5_longest_9 rfl ?_
    refine lv_lconst (v := 1) hx hb dX5_longest_10 (by decide) ?_
    refine lv_ldc2 hx hb hown (hts _ m_t591) dX5_longest_11 ?_
    refine kRi (rS (As := [.long iC.toInt64, .long 1, .long 1000]) (rest := []) ⟨hx, hb, hml, hown, hts⟩ (c_X5_within l G cy iC.toInt64 1 1000) L_X5_50 (preRS hN hP [] rfl) rfl ⟨Nat.le_of_ble_eq_true rfl, Nat.le_of_ble_eq_true rfl⟩ hl.1 (Nat.le_of_ble_eq_true rfl) dX5_longest_14 ⟨Nat.le_of_ble_eq_true rfl, Nat.le_of_ble_eq_true rfl⟩) (fun r_5 h_6 => ?_)
    rcases h_6 with ⟨rfl, h_7⟩ | ⟨rfl, h_7⟩
    · refine lv_if_ne (tgt := 27) hx hb dX5_longest_17 (by decide) (fun _ => ?_) (fun h9 => absurd h9 (by decide))
      refine lv_iconst (v := (-1)) hx hb dX5_longest_27 (by decide) ?_
      refine lv_istore (lv' := [(4, .int (-1)), (0, .ref qx), (1, .int iA), (2, .int iB), (3, .int iC)]) hx hb dX5_longest_28 hl (by decide) rfl (fun ls hl => ?_)
      refine lv_iload_n hx hb dX5_longest_30 rfl (lv_at hl 2 rfl) ?_
      refine lv_istore (lv' := [(5, .int iA), (4, .int (-1)), (0, .ref qx), (1, .int iA), (2, .int iB), (3, .int iC)]) hx hb dX5_longest_31 hl (by decide) rfl (fun ls hl => ?_)
      have lp_9 : ∀ (n_10 : Nat) (j_12 : Nat) (xC_13 : Int32) (xR_14 : Int32), 100 - j_12 < n_10 → xC_13 = nI j_12 - 1 → lgst iB iC (100 - j_12) xC_13 xR_14 = lgst iB iC 100 (-1) iA → j_12 ≤ 100 → ∀ (H : Heap) (locs : List Loc) (ls : Array Slot), va_P G CL [(qx, .inr (4, [.ref qt, .ref qk, .ref qp, .ref qs, .ref qa, .ref qr, .int 0, .int 0, .int 0])), (qr, .inl (cy 0, 5, .inl (fun _ => 0)))] H → va_D A [(qx, .inr (4, [.ref qt, .ref qk, .ref qp, .ref qs, .ref qa, .ref qr, .int 0, .int 0, .int 0])), (qr, .inl (cy 0, 5, .inl (fun _ => 0)))] → va_S A s.heap H locs → lv_has ls 6 [(5, .int xR_14), (4, .int xC_13), (0, .ref qx), (1, .int iA), (2, .int iB), (3, .int iC)] → W p l e (Rm 6 0 0) s m (List.toArray (α := Value) [.ref qx, .int iA, .int iB, .int iC]) below meth c H locs 0 0 (MQ below ((Wi G (fun r u => u = [] ∧ ((r = (sp_longest iA iB iC))))) A) (List.toArray (α := Value) [.ref qx, .int iA, .int iB, .int iC]) s 0 0 A) (F0 m 33 ls []) := by
        intro n_10
        induction n_10 with
        | zero => intro j_12 xC_13 xR_14 hm9; exact absurd hm9 (Nat.not_lt_zero _)
        | succ n_10 ih_11 =>
          intro j_12 xC_13 xR_14 hm_18 hxC_15 hT_16 hj_17 H locs ls hP hD hS hl
          refine lv_iload hx hb dX5_longest_33 (lv_at hl 0 rfl) ?_
          refine lv_iload_n hx hb dX5_longest_35 rfl (lv_at hl 5 rfl) ?_
          refine lv_icmp_lt (tgt := 60) hx hb dX5_longest_36 (by decide) (fun c_19 => ?_) (fun c_19 => ?_)
          · refine lv_iload hx hb dX5_longest_60 (lv_at hl 1 rfl) ?_
            exact endW (u := []) hx hb hr hlocks rfl va_P0 va_D0 hS ⟨rfl, (by rw [sp_longest, if_pos ⟨h_3.1, h_3.2, h_7⟩, ← hT_16, lg_stop0 c_19])⟩ dX5_longest_62
          · refine lv_iload hx hb dX5_longest_39 (lv_at hl 1 rfl) ?_
            refine lv_bipush (v := 99) hx hb dX5_longest_41 (by decide) ?_
            refine lv_icmp_ge (tgt := 60) hx hb dX5_longest_43 (by decide) (fun c_20 => ?_) (fun c_20 => ?_)
            · refine lv_iload hx hb dX5_longest_60 (lv_at hl 1 rfl) ?_
              exact endW (u := []) hx hb hr hlocks rfl va_P0 va_D0 hS ⟨rfl, (by rw [sp_longest, if_pos ⟨h_3.1, h_3.2, h_7⟩, ← hT_16, m1_ge hxC_15 hj_17 c_20]; rfl)⟩ dX5_longest_62
            · have hlt_21 : j_12 < 100 := m1_lt hxC_15 hj_17 c_20
              refine lv_iinc (v := xC_13 + 1) (lv' := [(4, .int (xC_13 + 1)), (5, .int xR_14), (0, .ref qx), (1, .int iA), (2, .int iB), (3, .int iC)]) hx hb dX5_longest_46 hl (k := 1) rfl (rfl) (by decide) rfl (fun ls hl => ?_)
              refine lv_iload hx hb dX5_longest_49 (lv_at hl 1 rfl) ?_
              refine lv_iload_n hx hb dX5_longest_51 rfl (lv_at hl 4 rfl) ?_
              refine kRi (rS (As := [.int xR_14, .int iB]) (rest := []) ⟨hx, hb, hml, hown, hts⟩ (c_X4_afterTelling l G cy xR_14 iB) L_X5_297 (preRS hN hP [] rfl) rfl ⟨Nat.le_of_ble_eq_true rfl, Nat.le_of_ble_eq_true rfl⟩ hl.1 (Nat.le_of_ble_eq_true rfl) dX5_longest_52 ⟨Nat.le_of_ble_eq_true rfl, Nat.le_of_ble_eq_true rfl⟩) (fun r_22 h_23 => ?_)
              subst h_23
              refine lv_istore (lv' := [(5, .int (xR_14 * iB / 10)), (4, .int (xC_13 + 1)), (0, .ref qx), (1, .int iA), (2, .int iB), (3, .int iC)]) hx hb dX5_longest_55 hl (by decide) rfl (fun ls hl => ?_)
              refine lv_goto (tgt := 33) hx hb dX5_longest_57 (by decide) ?_
              exact ih_11 (j_12 + 1) (xC_13 + 1) (xR_14 * iB / 10) (by omega) (by rw [hxC_15]; exact m1_nI _) (by rw [← hT_16, show 100 - j_12 = 100 - (j_12 + 1) + 1 by omega, lg_go c_19]) (by omega) _ _ _ hP hD hS (lv_sub hl [0, 1, 2, 3, 4, 5] rfl)
      exact lp_9 ((100 - 0) + 1) 0 (-1) iA (Nat.lt_succ_self _) (by decide) rfl (Nat.zero_le _) _ _ ls hP hD hS (lv_sub hl [0, 1, 2, 3, 4, 5] rfl)
    · refine lv_if_ne (tgt := 27) hx hb dX5_longest_17 (by decide) (fun h9 => absurd (by decide) h9) (fun _ => ?_)
      refine lv_aload_n hx hb dX5_longest_20 rfl (lv_at hl 0 rfl) ?_
      refine lv_bipush (v := (-2)) hx hb dX5_longest_21 (by decide) ?_
      refine kWi (wr := []) (rV (As := [.int (-2)]) (rest := []) (b := qx) ⟨hx, hb, hml, hown, hts⟩ (c_X5_refuse2 l G cy (s.heap).size qx (.ref qt) (.ref qk) (.ref qp) (.ref qs) (.ref qa) qr (.int 0) (.int 0) (.int 0) (fun _ => 0)) L_X5_56 (preWV (q := (RX5, TX5, 9)) hN hP hD [0, 1] rfl (by decide) 0 4 rfl rfl) rfl ⟨Nat.le_of_ble_eq_true rfl, Nat.le_of_ble_eq_true rfl⟩ hl.1 (Nat.le_of_ble_eq_true rfl) dX5_longest_23 ⟨Nat.le_of_ble_eq_true rfl, Nat.le_of_ble_eq_true rfl⟩) hP hD hS hA [0, 1] [] rfl rfl (by decide) (by decide) (fun r_25 u_27 H locs h_26 hP hD hS => ?_)
      obtain ⟨rfl, h_26⟩ := h_26
      have hP : va_P G CL [(qx, .inr (4, [.ref qt, .ref qk, .ref qp, .ref qs, .ref qa, .ref qr, .int 0, .int 0, .int 0]))] H := hP
      have hD : va_D A [(qx, .inr (4, [.ref qt, .ref qk, .ref qp, .ref qs, .ref qa, .ref qr, .int 0, .int 0, .int 0]))] := hD
      subst h_26
      exact endW (u := []) hx hb hr hlocks rfl va_P0 va_D0 hS ⟨rfl, (by first | (simp [sp_longest, Iv, h_3, h_7]; done) | (unfold sp_longest; decide))⟩ dX5_longest_26
  · refine lv_if_eq (tgt := 20) hx hb dX5_longest_5 (by decide) (fun _ => ?_) (fun h9 => absurd (by decide) h9)
    refine lv_aload_n hx hb dX5_longest_20 rfl (lv_at hl 0 rfl) ?_
    refine lv_bipush (v := (-2)) hx hb dX5_longest_21 (by decide) ?_
    refine kWi (wr := []) (rV (As := [.int (-2)]) (rest := []) (b := qx) ⟨hx, hb, hml, hown, hts⟩ (c_X5_refuse2 l G cy (s.heap).size qx (.ref qt) (.ref qk) (.ref qp) (.ref qs) (.ref qa) qr (.int 0) (.int 0) (.int 0) (fun _ => 0)) L_X5_56 (preWV (q := (RX5, TX5, 9)) hN hP hD [0, 1] rfl (by decide) 0 4 rfl rfl) rfl ⟨Nat.le_of_ble_eq_true rfl, Nat.le_of_ble_eq_true rfl⟩ hl.1 (Nat.le_of_ble_eq_true rfl) dX5_longest_23 ⟨Nat.le_of_ble_eq_true rfl, Nat.le_of_ble_eq_true rfl⟩) hP hD hS hA [0, 1] [] rfl rfl (by decide) (by decide) (fun r_29 u_31 H locs h_30 hP hD hS => ?_)
    obtain ⟨rfl, h_30⟩ := h_30
    have hP : va_P G CL [(qx, .inr (4, [.ref qt, .ref qk, .ref qp, .ref qs, .ref qa, .ref qr, .int 0, .int 0, .int 0]))] H := hP
    have hD : va_D A [(qx, .inr (4, [.ref qt, .ref qk, .ref qp, .ref qs, .ref qa, .ref qr, .int 0, .int 0, .int 0]))] := hD
    subst h_30
    exact endW (u := []) hx hb hr hlocks rfl va_P0 va_D0 hS ⟨rfl, (by rw [sp_longest, if_neg (fun q => h_3 ⟨q.1, q.2.1⟩)])⟩ dX5_longest_26
