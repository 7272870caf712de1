theorem in_yes {v a b : Int64} (h1 : ¬ lg_cmp v a < 0) (h2 : ¬ 0 < lg_cmp v b) : Iv v a b := Iv_iff.mpr ⟨(lg_cmp_ge v a).mp (Int32.not_lt.mp h1), (lg_cmp_le v b).mp (Int32.not_lt.mp h2)⟩
theorem in_no1 {v a b : Int64} (h1 : lg_cmp v a < 0) : ¬ Iv v a b := fun h => absurd ((lg_cmp_ge v a).mpr (Iv_iff.mp h).1) (Int32.not_le.mpr h1)
theorem in_no2 {v a b : Int64} (h1 : 0 < lg_cmp v b) : ¬ Iv v a b := fun h => absurd ((lg_cmp_le v b).mpr (Iv_iff.mp h).2) (Int32.not_le.mpr h1)
theorem and_m1 (x : Int32) : x &&& (-1) = x := by
  apply Int32.toBitVec_inj.mp
  simp
theorem in_shelf {x : Int32} (h : Iv x.toInt64 0 7) : vp_in x 8 := by
  rw [vp_in_iff]
  obtain ⟨h1, h2⟩ := Iv_iff.mp h
  rw [Int64.le_iff_toInt_le, Int32.toInt_toInt64] at h1 h2
  exact ⟨h1, Int.lt_of_le_of_lt h2 (by decide +kernel)⟩
theorem lt_in {x : Int32} {n : Nat} (h : vp_in x n) : x.toNatClampNeg < n := Nat.not_le.mp fun q => h (Or.inr q)
theorem in_m1 {v : Int64} (h : Iv v 0 (-1)) : False := by
  obtain ⟨h1, h2⟩ := Iv_iff.mp h
  rw [Int64.le_iff_toInt_le] at h1 h2
  have h3 : (0 : Int64).toInt = 0 := by decide +kernel
  have h4 : (-1 : Int64).toInt = -1 := by decide +kernel
  omega
noncomputable def sp_row (iA iB iC : Int32) : Int32 := if Iv iA.toInt64 0 7 ∧ Iv iB.toInt64 0 4 ∧ Iv iC.toInt64 0 40 then 1 else -2
noncomputable def sp_shelf (iA : Int32) : Int32 := if Iv iA.toInt64 0 7 then -4 else -2
noncomputable def sp_copy (iA iB : Int32) : Int32 := if Iv iA.toInt64 0 7 ∧ Iv iB.toInt64 0 7 then -4 else -2
noncomputable def sp_rule (iA iB iC : Int32) : Int32 := if Iv iA.toInt64 0 7 ∧ Iv iB.toInt64 1 6 ∧ Iv iC.toInt64 0 99 then 1 else -2
noncomputable def sp_says (iA iB : Int32) : Int32 := if Iv iA.toInt64 0 7 ∧ Iv iB.toInt64 0 6 then -4 else -2
noncomputable def sp_book (iA iB : Int32) : Int32 := if Iv iA.toInt64 1 99 ∧ iB = 0 then 0 else -2
noncomputable def sp_one (iA iB iC iD : Int32) : Int32 := if Iv iA.toInt64 0 9 ∧ Iv iB.toInt64 0 10 ∧ Iv iC.toInt64 0 10 ∧ Iv iD.toInt64 0 10 then 0 else -2
noncomputable def sp_feed (iB : Int32) : Int32 := if Iv iB.toInt64 1 4 then iB else -2
noncomputable def sp_run (iA iB iC : Int32) : Int32 := if Iv iA.toInt64 0 7 ∧ Iv iB.toInt64 1 60 ∧ Iv iC.toInt64 0 3 then -4 else -2
noncomputable def sp_head (iA : Int32) : Int32 := if Iv iA.toInt64 1 60 then -5 else -2
noncomputable def sp_lost (iA : Int32) : Int32 := if Iv iA.toInt64 1 1000 then 0 else -2
noncomputable def sp_gains (iA iB : Int32) : Int32 := if Iv iA.toInt64 0 7 ∧ Iv iB.toInt64 1 60 then -1000004 else -1000002
noncomputable def sp_judge (iA iB : Int32) : Int32 := if Iv iA.toInt64 0 7 ∧ Iv iB.toInt64 0 20 then -4 else -2
noncomputable def sp_years (iA iB : Int32) : Int32 := if Iv iA.toInt64 0 7 ∧ Iv iB.toInt64 1 20 then -4 else -2
noncomputable def sp_status (iA : Int32) : Int32 := if iA = 7 then 1 else if Iv iA.toInt64 12 16 ∨ Iv iA.toInt64 0 8 then 0 else -1
theorem toI {x : Int32} {a b : Int64} {m n : Int} (h : Iv x.toInt64 a b) (ha : a.toInt = m) (hb : b.toInt = n) : m ≤ x.toInt ∧ x.toInt ≤ n := by
  obtain ⟨h1, h2⟩ := Iv_iff.mp h
  rw [Int64.le_iff_toInt_le, Int32.toInt_toInt64] at h1 h2
  exact ⟨ha ▸ h1, hb ▸ h2⟩
theorem ofI {x : Int32} {a b : Int64} {m n : Int} (ha : a.toInt = m) (hb : b.toInt = n) (h : m ≤ x.toInt ∧ x.toInt ≤ n) : Iv x.toInt64 a b := by
  refine Iv_iff.mpr ⟨?_, ?_⟩ <;> rw [Int64.le_iff_toInt_le, Int32.toInt_toInt64]
  · rw [ha]; exact h.1
  · rw [hb]; exact h.2
theorem eqI {x k : Int32} {n : Int} (hk : k.toInt = n) (h : x.toInt = n) : x = k := Int32.toInt_inj.mp (h.trans hk.symm)
theorem in14 {x : Int32} (h : Iv x.toInt64 1 4) : x = 1 ∨ x = 2 ∨ x = 3 ∨ x = 4 := by
  have h1 := toI h (m := 1) (n := 4) (by decide +kernel) (by decide +kernel)
  rcases (show x.toInt = 1 ∨ x.toInt = 2 ∨ x.toInt = 3 ∨ x.toInt = 4 by omega) with e | e | e | e
  · exact Or.inl (eqI (by decide +kernel) e)
  · exact Or.inr (Or.inl (eqI (by decide +kernel) e))
  · exact Or.inr (Or.inr (Or.inl (eqI (by decide +kernel) e)))
  · exact Or.inr (Or.inr (Or.inr (eqI (by decide +kernel) e)))
theorem sw_0_8 (x : Int32) : x = 0 ∨ x = 1 ∨ x = 2 ∨ x = 3 ∨ x = 4 ∨ x = 5 ∨ x = 6 ∨ x = 7 ∨ x = 8 ∨ (x.toInt < 0 ∨ 8 < x.toInt) := by
  rcases (show x.toInt = 0 ∨ x.toInt = 1 ∨ x.toInt = 2 ∨ x.toInt = 3 ∨ x.toInt = 4 ∨ x.toInt = 5 ∨ x.toInt = 6 ∨ x.toInt = 7 ∨ x.toInt = 8 ∨ (x.toInt < 0 ∨ 8 < x.toInt) by omega) with e | e | e | e | e | e | e | e | e | e
  · exact Or.inl (eqI (by decide +kernel) e)
  · exact Or.inr (Or.inl (eqI (by decide +kernel) e))
  · exact Or.inr (Or.inr (Or.inl (eqI (by decide +kernel) e)))
  · exact Or.inr (Or.inr (Or.inr (Or.inl (eqI (by decide +kernel) e))))
  · exact Or.inr (Or.inr (Or.inr (Or.inr (Or.inl (eqI (by decide +kernel) e)))))
  · exact Or.inr (Or.inr (Or.inr (Or.inr (Or.inr (Or.inl (eqI (by decide +kernel) e))))))
  · exact Or.inr (Or.inr (Or.inr (Or.inr (Or.inr (Or.inr (Or.inl (eqI (by decide +kernel) e)))))))
  · exact Or.inr (Or.inr (Or.inr (Or.inr (Or.inr (Or.inr (Or.inr (Or.inl (eqI (by decide +kernel) e))))))))
  · exact Or.inr (Or.inr (Or.inr (Or.inr (Or.inr (Or.inr (Or.inr (Or.inr (Or.inl (eqI (by decide +kernel) e)))))))))
  · exact Or.inr (Or.inr (Or.inr (Or.inr (Or.inr (Or.inr (Or.inr (Or.inr (Or.inr e))))))))
theorem sw_no7 {x : Int32} (h : x.toInt < 0 ∨ 8 < x.toInt) : ¬ x = 7 := fun e => by
  subst e
  exact absurd h (by decide +kernel)
theorem sw_noIn {x : Int32} (h : x.toInt < 0 ∨ 8 < x.toInt) : ¬ Iv x.toInt64 0 8 := fun e => by
  have := toI e (m := 0) (n := 8) (by decide +kernel) (by decide +kernel)
  omega
theorem st_in5 {x : Int32} (h : Iv x.toInt64 12 16) : vp_in (x - 12) 5 := by
  have h1 := toI h (m := 12) (n := 16) (by decide +kernel) (by decide +kernel)
  rcases (show x.toInt = 12 ∨ x.toInt = 13 ∨ x.toInt = 14 ∨ x.toInt = 15 ∨ x.toInt = 16 by omega) with e | e | e | e | e
  · rw [eqI (k := 12) (by decide +kernel) e]; exact in_c rfl
  · rw [eqI (k := 13) (by decide +kernel) e]; exact in_c rfl
  · rw [eqI (k := 14) (by decide +kernel) e]; exact in_c rfl
  · rw [eqI (k := 15) (by decide +kernel) e]; exact in_c rfl
  · rw [eqI (k := 16) (by decide +kernel) e]; exact in_c rfl
theorem st_in8 {x : Int32} (h : Iv x.toInt64 12 16) : vp_in (x - 10) 8 := by
  have h1 := toI h (m := 12) (n := 16) (by decide +kernel) (by decide +kernel)
  rcases (show x.toInt = 12 ∨ x.toInt = 13 ∨ x.toInt = 14 ∨ x.toInt = 15 ∨ x.toInt = 16 by omega) with e | e | e | e | e
  · rw [eqI (k := 12) (by decide +kernel) e]; exact in_c rfl
  · rw [eqI (k := 13) (by decide +kernel) e]; exact in_c rfl
  · rw [eqI (k := 14) (by decide +kernel) e]; exact in_c rfl
  · rw [eqI (k := 15) (by decide +kernel) e]; exact in_c rfl
  · rw [eqI (k := 16) (by decide +kernel) e]; exact in_c rfl
theorem st_no7 {x : Int32} (h : Iv x.toInt64 12 16) : ¬ x = 7 := fun e => by
  subst e
  have := toI h (m := 12) (n := 16) (by decide +kernel) (by decide +kernel)
  exact absurd this.1 (by decide +kernel)
theorem in00 {x : Int32} : Iv x.toInt64 0 0 ↔ x = 0 := by
  constructor
  · intro h
    have h1 := toI h (m := 0) (n := 0) (by decide +kernel) (by decide +kernel)
    exact eqI (n := 0) (by decide +kernel) (by omega)
  · rintro rfl
    decide
noncomputable def lft (t : Int32) : Nat → Int32 → Int32
  | 0, x => x
  | n + 1, x => lft t n x * t / 10
noncomputable def lgst (t v : Int32) : Nat → Int32 → Int32 → Int32
  | 0, c, _ => c
  | n + 1, c, r => if v ≤ r then lgst t v n (c + 1) (r * t / 10) else c
noncomputable def sp_left (iA iB iC : Int32) : Int32 := if Iv iA.toInt64 0 1000 ∧ Iv iB.toInt64 0 10 ∧ Iv iC.toInt64 0 99 then lft iB iC.toNatClampNeg iA else -2
noncomputable def sp_longest (iA iB iC : Int32) : Int32 := if Iv iA.toInt64 0 1000 ∧ Iv iB.toInt64 0 10 ∧ Iv iC.toInt64 1 1000 then lgst iB iC 100 (-1) iA else -2
theorem nI_of99 {x : Int32} (h : Iv x.toInt64 0 99) : ∃ k : Nat, k ≤ 99 ∧ x = nI k := by
  have h1 := toI h (m := 0) (n := 99) (by decide +kernel) (by decide +kernel)
  exact nI_of2 (M := 99) (n := 99) (by decide +kernel) (by rw [Int32.lt_iff_toInt_lt]; exact Int.not_lt.mpr h1.1) (by rw [Int32.le_iff_toInt_le]; exact h1.2)
theorem nI_of40 {x : Int32} (h : Iv x.toInt64 0 40) : ∃ k : Nat, k ≤ 40 ∧ x = nI k := by
  have h1 := toI h (m := 0) (n := 40) (by decide +kernel) (by decide +kernel)
  exact nI_of2 (M := 40) (n := 40) (by decide +kernel) (by rw [Int32.lt_iff_toInt_lt]; exact Int.not_lt.mpr h1.1) (by rw [Int32.le_iff_toInt_le]; exact h1.2)
theorem nI_of7 {x : Int32} (h : Iv x.toInt64 0 7) : ∃ k : Nat, k ≤ 7 ∧ x = nI k := by
  have h1 := toI h (m := 0) (n := 7) (by decide +kernel) (by decide +kernel)
  exact nI_of2 (M := 7) (n := 7) (by decide +kernel) (by rw [Int32.lt_iff_toInt_lt]; exact Int.not_lt.mpr h1.1) (by rw [Int32.le_iff_toInt_le]; exact h1.2)
theorem in07 {x : Int32} (h : Iv x.toInt64 0 7) : x = 0 ∨ x = 1 ∨ x = 2 ∨ x = 3 ∨ x = 4 ∨ x = 5 ∨ x = 6 ∨ x = 7 := by
  have h1 := toI h (m := 0) (n := 7) (by decide +kernel) (by decide +kernel)
  rcases sw_0_8 x with e | e | e | e | e | e | e | e | e | e
  · exact Or.inl e
  · exact Or.inr (Or.inl e)
  · exact Or.inr (Or.inr (Or.inl e))
  · exact Or.inr (Or.inr (Or.inr (Or.inl e)))
  · exact Or.inr (Or.inr (Or.inr (Or.inr (Or.inl e))))
  · exact Or.inr (Or.inr (Or.inr (Or.inr (Or.inr (Or.inl e)))))
  · exact Or.inr (Or.inr (Or.inr (Or.inr (Or.inr (Or.inr (Or.inl e))))))
  · exact Or.inr (Or.inr (Or.inr (Or.inr (Or.inr (Or.inr (Or.inr e))))))
  · subst e; exact absurd h1.2 (by decide +kernel)
  · omega
/-- a counter below its bound, at it -/
theorem lp_lt {x y : Int32} {j n : Nat} (hx : x = nI j) (hy : y = nI n) (hj : j < 2 ^ 31) (hn : n < 2 ^ 31) (c : ¬ y ≤ x) : j < n := by
  subst hx hy
  rcases Nat.lt_or_ge j n with q | q
  · exact q
  · exact absurd (nI_le q hj) c
theorem lp_ge {x y : Int32} {j n : Nat} (hx : x = nI j) (hy : y = nI n) (hj : j < 2 ^ 31) (hn : n < 2 ^ 31) (c : y ≤ x) : n ≤ j := by
  subst hx hy
  rcases Nat.lt_or_ge j n with q | q
  · exact absurd c (nI_ge q hn)
  · exact q
theorem in_nI {x : Int32} {j n : Nat} (hx : x = nI j) (h : j < n) (hn : n < 2 ^ 31) : vp_in x n := hx ▸ vp_in_nI h hn
theorem in_el {x y : Int32} {k j : Nat} (hk : k ≤ 7) (hx : x = nI j) (hj : j < 40) (hy : y = nI k) : vp_in (y * 40 + x) 320 := by
  subst hx hy
  rw [show (40 : Int32) = nI 40 from rfl, pk_mul, nI_add]
  exact vp_in_nI (by omega) (by omega)
theorem lg_stop0 {t v : Int32} {n : Nat} {c r : Int32} (h : r < v) : lgst t v n c r = c := by
  cases n with
  | zero => rfl
  | succ n => exact if_neg (Int32.not_le.mpr h)
theorem lg_go {t v : Int32} {n : Nat} {c r : Int32} (h : ¬ r < v) : lgst t v (n + 1) c r = lgst t v n (c + 1) (r * t / 10) := if_pos (Int32.not_lt.mp h)
theorem m1_nI (j : Nat) : nI j - 1 + 1 = nI (j + 1) - 1 := by
  rw [← nI_1]
  apply Int32.toBitVec_inj.mp
  simp
theorem m1_nI' (j : Nat) : nI j - 1 + 1 = nI j := by
  apply Int32.toBitVec_inj.mp
  simp
theorem m1_lt {x : Int32} {j : Nat} (hx : x = nI j - 1) (hj : j ≤ 100) (c : ¬ (99 : Int32) ≤ x) : j < 100 := by
  rcases Nat.lt_or_ge j 100 with q | q
  · exact q
  · exact absurd (by rw [hx, show j = 100 by omega]; decide) c
theorem m1_ge {x : Int32} {j : Nat} (hx : x = nI j - 1) (hj : j ≤ 100) (c : (99 : Int32) ≤ x) : j = 100 := by
  rcases Nat.lt_or_ge j 100 with q | q
  · exfalso
    rw [hx, Int32.le_iff_toInt_le] at c
    have e : (nI j - 1).toInt = (j : Int) - 1 := by
      rw [show (1 : Int32) = nI 1 from rfl, pk_sub_toInt (by omega) (by omega)]
      rfl
    rw [e, show (99 : Int32).toInt = 99 by decide +kernel] at c
    omega
  · omega
