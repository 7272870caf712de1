/-! shelves -/
def Rw (x : Int32) : Prop := ¬ x < 0 ∧ ¬ 4 < x
theorem ix40 {s i : Nat} : nI s * 40 + nI i = nI (s * 40 + i) := by
  rw [show (40 : Int32) = nI 40 from rfl, pk_mul, nI_add]
theorem in320 {s i : Nat} (hs : s < 8) (hi : i < 40) : vp_in (nI s * 40 + nI i) 320 := by
  rw [ix40]
  exact vp_in_nI (by omega) (by omega)
theorem cl320 {s i : Nat} (hs : s < 8) (hi : i < 40) : (nI s * 40 + nI i).toNatClampNeg = s * 40 + i := by
  rw [ix40]
  exact nI_clamp (by omega)
theorem cl320' {s i : Nat} (hs : s < 8) (hi : i ≤ 40) : (nI s * 40 + nI i).toNatClampNeg = s * 40 + i := by
  rw [ix40]
  exact nI_clamp (by omega)
def zrF (g : Nat → Int64) (s : Nat) : Nat → Nat → Int64
  | 0 => g
  | n + 1 => vp_updL (zrF g s n) (s * 40 + n) 0
def zlb (sort : Int32) (v : Int64) : Int64 := if sort = 0 then v.toInt32.toInt8.toInt32.toInt64 else if sort = 1 then v.toInt32.toInt16.toInt32.toInt64 else if sort = 2 then v.toInt32.toInt64 else if sort = 4 then (if lg_cmp v 0 = 0 then 0 else 1) else v
theorem lb_d {x : Int32} (h : x.toInt < 0 ∨ 4 < x.toInt) (v : Int64) : zlb x v = v := by
  have n : ∀ c : Int32, 0 ≤ c.toInt → c.toInt ≤ 4 → ¬ x = c := fun c h1 h2 e => by subst e; omega
  exact (if_neg (n 0 (by decide) (by decide))).trans ((if_neg (n 1 (by decide) (by decide))).trans ((if_neg (n 2 (by decide) (by decide))).trans (if_neg (n 4 (by decide) (by decide)))))
def Spn (i n z : Int32) : Prop := ¬ i < 0 ∧ ¬ n < 0 ∧ ¬ 0 < lg_cmp (i.toInt64 + n.toInt64) z.toInt64
theorem nI_of7' {x : Int32} (h : Iv x.toInt64 0 7) : ∃ k : Nat, k < 8 ∧ x = nI k := by
  obtain ⟨k, h1, h2⟩ := nI_of7 h
  exact ⟨k, by omega, h2⟩
theorem no_of7 {x : Int32} (h : ¬ Iv x.toInt64 0 7) : ¬ ∃ k : Nat, k < 8 ∧ x = nI k := fun ⟨k, h1, h2⟩ => h (by
  subst h2
  refine ofI (m := 0) (n := 7) (by decide) (by decide) ⟨?_, ?_⟩ <;> rw [nI_toInt (by omega)] <;> omega)
theorem sz_in {x z : Int32} {n : Nat} (hz : z = nI n) (hn : n ≤ 40) (h : Iv x.toInt64 0 (z - 1).toInt64) : ∃ k : Nat, k < n ∧ x = nI k := by
  subst hz
  have e : (nI n - 1).toInt = (n : Int) - 1 := by
    rw [show (1 : Int32) = nI 1 from rfl, pk_sub_toInt (by omega) (by omega)]
    rfl
  have h1 := toI h (m := 0) (n := (n : Int) - 1) (by decide) (by rw [Int32.toInt_toInt64]; exact e)
  obtain ⟨k, hk, rfl⟩ := nI_of (x := x) (by rw [Int32.lt_iff_toInt_lt]; exact Int.not_lt.mpr h1.1)
  refine ⟨k, ?_, rfl⟩
  rw [nI_toInt hk] at h1
  omega
theorem spn_of {i n z : Int32} {m : Nat} (hz : z = nI m) (hm : m ≤ 40) (h : Spn i n z) : ∃ a b : Nat, a + b ≤ m ∧ i = nI a ∧ n = nI b := by
  subst hz
  obtain ⟨h1, h2, h3⟩ := h
  obtain ⟨a, ha, rfl⟩ := nI_of h1
  obtain ⟨b, hb, rfl⟩ := nI_of h2
  refine ⟨a, b, ?_, rfl, rfl⟩
  have h4 := (lg_cmp_le _ _).mp (Int32.not_lt.mp h3)
  rw [Int64.le_iff_toInt_le, Int32.toInt_toInt64, nI_toInt (by omega)] at h4
  have h5 : ((nI a).toInt64 + (nI b).toInt64).toInt = (a : Int) + b := by
    rw [Int64.toInt_add, Int32.toInt_toInt64, Int32.toInt_toInt64, nI_toInt ha, nI_toInt hb]
    rw [Int.bmod_def]
    omega
  omega
