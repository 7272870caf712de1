theorem in_yes {v a b : Int64} (h1 : ¬ lg_cmp v a < 0) (h2 : ¬ 0 < lg_cmp v b) : Iv v a b := Iv_iff.mpr ⟨(lg_cmp_ge v a).mp (Int32.not_lt.mp h1), (lg_cmp_le v b).mp (Int32.not_lt.mp h2)⟩
theorem in_no1 {v a b : Int64} (h1 : lg_cmp v a < 0) : ¬ Iv v a b := fun h => absurd ((lg_cmp_ge v a).mpr (Iv_iff.mp h).1) (Int32.not_le.mpr h1)
theorem in_no2 {v a b : Int64} (h1 : 0 < lg_cmp v b) : ¬ Iv v a b := fun h => absurd ((lg_cmp_le v b).mpr (Iv_iff.mp h).2) (Int32.not_le.mpr h1)
theorem in_shelf {x : Int32} (h : Iv x.toInt64 0 7) : vp_in x 8 := by
  rw [vp_in_iff]
  obtain ⟨h1, h2⟩ := Iv_iff.mp h
  rw [Int64.le_iff_toInt_le, Int32.toInt_toInt64] at h1 h2
  exact ⟨h1, Int.lt_of_le_of_lt h2 (by decide)⟩
theorem toI {x : Int32} {a b : Int64} {m n : Int} (h : Iv x.toInt64 a b) (ha : a.toInt = m) (hb : b.toInt = n) : m ≤ x.toInt ∧ x.toInt ≤ n := by
  obtain ⟨h1, h2⟩ := Iv_iff.mp h
  rw [Int64.le_iff_toInt_le, Int32.toInt_toInt64] at h1 h2
  exact ⟨ha ▸ h1, hb ▸ h2⟩
theorem ofI {x : Int32} {a b : Int64} {m n : Int} (ha : a.toInt = m) (hb : b.toInt = n) (h : m ≤ x.toInt ∧ x.toInt ≤ n) : Iv x.toInt64 a b := by
  refine Iv_iff.mpr ⟨?_, ?_⟩ <;> rw [Int64.le_iff_toInt_le, Int32.toInt_toInt64]
  · rw [ha]; exact h.1
  · rw [hb]; exact h.2
theorem eqI {x k : Int32} {n : Int} (hk : k.toInt = n) (h : x.toInt = n) : x = k := Int32.toInt_inj.mp (h.trans hk.symm)
theorem in14 {x : Int32} (h : Iv x.toInt64 1 4) : x = 1 ∨ x = 2 ∨ x = 3 ∨ x = 4 := by
  have h1 := toI h (m := 1) (n := 4) (by decide) (by decide)
  rcases (show x.toInt = 1 ∨ x.toInt = 2 ∨ x.toInt = 3 ∨ x.toInt = 4 by omega) with e | e | e | e
  · exact Or.inl (eqI (by decide) e)
  · exact Or.inr (Or.inl (eqI (by decide) e))
  · exact Or.inr (Or.inr (Or.inl (eqI (by decide) e)))
  · exact Or.inr (Or.inr (Or.inr (eqI (by decide) e)))
theorem sw_0_8 (x : Int32) : x = 0 ∨ x = 1 ∨ x = 2 ∨ x = 3 ∨ x = 4 ∨ x = 5 ∨ x = 6 ∨ x = 7 ∨ x = 8 ∨ (x.toInt < 0 ∨ 8 < x.toInt) := by
  rcases (show x.toInt = 0 ∨ x.toInt = 1 ∨ x.toInt = 2 ∨ x.toInt = 3 ∨ x.toInt = 4 ∨ x.toInt = 5 ∨ x.toInt = 6 ∨ x.toInt = 7 ∨ x.toInt = 8 ∨ (x.toInt < 0 ∨ 8 < x.toInt) by omega) with e | e | e | e | e | e | e | e | e | e
  · exact Or.inl (eqI (by decide) e)
  · exact Or.inr (Or.inl (eqI (by decide) e))
  · exact Or.inr (Or.inr (Or.inl (eqI (by decide) e)))
  · exact Or.inr (Or.inr (Or.inr (Or.inl (eqI (by decide) e))))
  · exact Or.inr (Or.inr (Or.inr (Or.inr (Or.inl (eqI (by decide) e)))))
  · exact Or.inr (Or.inr (Or.inr (Or.inr (Or.inr (Or.inl (eqI (by decide) e))))))
  · exact Or.inr (Or.inr (Or.inr (Or.inr (Or.inr (Or.inr (Or.inl (eqI (by decide) e)))))))
  · exact Or.inr (Or.inr (Or.inr (Or.inr (Or.inr (Or.inr (Or.inr (Or.inl (eqI (by decide) e))))))))
  · exact Or.inr (Or.inr (Or.inr (Or.inr (Or.inr (Or.inr (Or.inr (Or.inr (Or.inl (eqI (by decide) e)))))))))
  · exact Or.inr (Or.inr (Or.inr (Or.inr (Or.inr (Or.inr (Or.inr (Or.inr (Or.inr e))))))))
theorem st_in5 {x : Int32} (h : Iv x.toInt64 12 16) : vp_in (x - 12) 5 := by
  have h1 := toI h (m := 12) (n := 16) (by decide) (by decide)
  rcases (show x.toInt = 12 ∨ x.toInt = 13 ∨ x.toInt = 14 ∨ x.toInt = 15 ∨ x.toInt = 16 by omega) with e | e | e | e | e
  · rw [eqI (k := 12) (by decide) e]; exact in_c rfl
  · rw [eqI (k := 13) (by decide) e]; exact in_c rfl
  · rw [eqI (k := 14) (by decide) e]; exact in_c rfl
  · rw [eqI (k := 15) (by decide) e]; exact in_c rfl
  · rw [eqI (k := 16) (by decide) e]; exact in_c rfl
def lft (t : Int32) : Nat → Int32 → Int32
  | 0, x => x
  | n + 1, x => lft t n x * t / 10
def lgst (t v : Int32) : Nat → Int32 → Int32 → Int32
  | 0, c, _ => c
  | n + 1, c, r => if v ≤ r then lgst t v n (c + 1) (r * t / 10) else c
def sp_left (iA iB iC : Int32) : Int32 := if Iv iA.toInt64 0 1000 ∧ Iv iB.toInt64 0 10 ∧ Iv iC.toInt64 0 99 then lft iB iC.toNatClampNeg iA else -2
def sp_longest (iA iB iC : Int32) : Int32 := if Iv iA.toInt64 0 1000 ∧ Iv iB.toInt64 0 10 ∧ Iv iC.toInt64 1 1000 then lgst iB iC 100 (-1) iA else -2
theorem nI_of7 {x : Int32} (h : Iv x.toInt64 0 7) : ∃ k : Nat, k ≤ 7 ∧ x = nI k := by
  have h1 := toI h (m := 0) (n := 7) (by decide) (by decide)
  exact nI_of2 (M := 7) (n := 7) (by decide) (by rw [Int32.lt_iff_toInt_lt]; exact Int.not_lt.mpr h1.1) (by rw [Int32.le_iff_toInt_le]; exact h1.2)
/-- a counter below its bound, at it -/
theorem lp_lt {x y : Int32} {j n : Nat} (hx : x = nI j) (hy : y = nI n) (hj : j < 2 ^ 31) (hn : n < 2 ^ 31) (c : ¬ y ≤ x) : j < n := by
  subst hx hy
  rcases Nat.lt_or_ge j n with q | q
  · exact q
  · exact absurd (nI_le q hj) c
theorem lp_ge {x y : Int32} {j n : Nat} (hx : x = nI j) (hy : y = nI n) (hj : j < 2 ^ 31) (hn : n < 2 ^ 31) (c : y ≤ x) : n ≤ j := by
  subst hx hy
  rcases Nat.lt_or_ge j n with q | q
  · exact absurd c (nI_ge q hn)
  · exact q
theorem lg_stop0 {t v : Int32} {n : Nat} {c r : Int32} (h : r < v) : lgst t v n c r = c := by
  cases n with
  | zero => rfl
  | succ n => exact if_neg (Int32.not_le.mpr h)
theorem lg_go {t v : Int32} {n : Nat} {c r : Int32} (h : ¬ r < v) : lgst t v (n + 1) c r = lgst t v n (c + 1) (r * t / 10) := if_pos (Int32.not_lt.mp h)
theorem m1_nI (j : Nat) : nI j - 1 + 1 = nI (j + 1) - 1 := by
  rw [← nI_1]
  apply Int32.toBitVec_inj.mp
  simp
theorem m1_nI' (j : Nat) : nI j - 1 + 1 = nI j := by
  apply Int32.toBitVec_inj.mp
  simp
theorem m1_lt {x : Int32} {j : Nat} (hx : x = nI j - 1) (hj : j ≤ 100) (c : ¬ (99 : Int32) ≤ x) : j < 100 := by
  rcases Nat.lt_or_ge j 100 with q | q
  · exact q
  · exact absurd (by rw [hx, show j = 100 by omega]; decide) c
theorem m1_ge {x : Int32} {j : Nat} (hx : x = nI j - 1) (hj : j ≤ 100) (c : (99 : Int32) ≤ x) : j = 100 := by
  rcases Nat.lt_or_ge j 100 with q | q
  · exfalso
    rw [hx, Int32.le_iff_toInt_le] at c
    have e : (nI j - 1).toInt = (j : Int) - 1 := by
      rw [show (1 : Int32) = nI 1 from rfl, pk_sub_toInt (by omega) (by omega)]
      rfl
    rw [e, show (99 : Int32).toInt = 99 by decide] at c
    omega
  · omega
