/-! what the class's public methods do -/
theorem iv_nI {x : Int32} {a b : Int64} (m n : Nat) (ha : a.toInt = m) (hb : b.toInt = n) (h : Iv x.toInt64 a b) : ∃ k : Nat, m ≤ k ∧ k ≤ n ∧ x = nI k := by
  have h1 := toI h (m := m) (n := n) ha hb
  obtain ⟨k, hk, rfl⟩ := nI_of (x := x) (by rw [Int32.lt_iff_toInt_lt]; exact Int.not_lt.mpr (by show (0 : Int) ≤ _; omega))
  rw [nI_toInt hk] at h1
  exact ⟨k, by omega, by omega, rfl⟩
theorem nI_inj {a b : Nat} (ha : a < 2 ^ 31) (hb : b < 2 ^ 31) (h : nI a = nI b) : a = b := by
  have := congrArg Int32.toInt h
  rw [nI_toInt ha, nI_toInt hb] at this
  omega
abbrev Sh (a : Int32) : Prop := ∃ k : Nat, k < 8 ∧ a = nI k
def PXrow (h s : Nat → Int32) (e : Nat → Int64) (a b c r : Int32) (h' s' : Nat → Int32) (e' : Nat → Int64) : Prop := (r = -2 ∧ ¬ (Sh a ∧ Iv b.toInt64 0 4 ∧ Iv c.toInt64 0 40) ∧ h' = h ∧ s' = s ∧ e' = e) ∨ (r = 1 ∧ ∃ k n : Nat, k < 8 ∧ n ≤ 40 ∧ a = nI k ∧ c = nI n ∧ Iv b.toInt64 0 4 ∧ h' = upd h k b ∧ s' = upd s k (nI n) ∧ e' = zrF e k n)
def PXset (h s : Nat → Int32) (e : Nat → Int64) (a b : Int32) (v : Int64) (r : Int32) (e' : Nat → Int64) : Prop := (r = -2 ∧ (¬ Sh a ∨ ∃ k : Nat, k < 8 ∧ a = nI k ∧ ¬ 10 ≤ h k ∧ Rw (h k) ∧ ¬ Iv b.toInt64 0 (s k - 1).toInt64) ∧ e' = e) ∨ (r = -3 ∧ (∃ k : Nat, k < 8 ∧ a = nI k ∧ 10 ≤ h k) ∧ e' = e) ∨ (r = -4 ∧ (∃ k : Nat, k < 8 ∧ a = nI k ∧ ¬ 10 ≤ h k ∧ ¬ Rw (h k)) ∧ e' = e) ∨ (r = 1 ∧ ∃ k i : Nat, k < 8 ∧ a = nI k ∧ ¬ 10 ≤ h k ∧ Rw (h k) ∧ i < 40 ∧ b = nI i ∧ Iv b.toInt64 0 (s k - 1).toInt64 ∧ e' = vp_updL e (k * 40 + i) (zlb (h k) v))
def PXcopy (h s : Nat → Int32) (e : Nat → Int64) (a b c d n r : Int32) (e' : Nat → Int64) : Prop := (r = -2 ∧ ((¬ ∃ k m : Nat, k < 8 ∧ m < 8 ∧ a = nI k ∧ b = nI m) ∨ ∃ k m : Nat, k < 8 ∧ m < 8 ∧ a = nI k ∧ b = nI m ∧ Rw (h k) ∧ Rw (h m) ∧ h k = h m ∧ ¬ (Spn c n (s k) ∧ Spn d n (s m))) ∧ e' = e) ∨ (r = -3 ∧ (∃ k m : Nat, k < 8 ∧ m < 8 ∧ a = nI k ∧ b = nI m ∧ (10 ≤ h k ∨ 10 ≤ h m ∨ (Rw (h k) ∧ Rw (h m) ∧ ¬ h k = h m))) ∧ e' = e) ∨ (r = -4 ∧ (∃ k m : Nat, k < 8 ∧ m < 8 ∧ a = nI k ∧ b = nI m ∧ ¬ 10 ≤ h k ∧ ¬ 10 ≤ h m ∧ (¬ Rw (h k) ∨ ¬ Rw (h m))) ∧ e' = e) ∨ (r = n ∧ ∃ k m i j z : Nat, k < 8 ∧ m < 8 ∧ a = nI k ∧ b = nI m ∧ Rw (h k) ∧ Rw (h m) ∧ h k = h m ∧ Spn c n (s k) ∧ Spn d n (s m) ∧ c = nI i ∧ d = nI j ∧ n = nI z ∧ i + z ≤ 40 ∧ j + z ≤ 40 ∧ e' = va_cpy e e (k * 40 + i) (m * 40 + j) z)
def PXelem (h s : Nat → Int32) (e : Nat → Int64) (a b : Int32) (r : Int64) : Prop := (r = 0 ∧ ¬ ∃ k : Nat, k < 8 ∧ a = nI k ∧ ¬ 10 ≤ h k ∧ Rw (h k) ∧ Iv b.toInt64 0 (s k - 1).toInt64) ∨ ∃ k i : Nat, k < 8 ∧ a = nI k ∧ ¬ 10 ≤ h k ∧ Rw (h k) ∧ i < 40 ∧ b = nI i ∧ Iv b.toInt64 0 (s k - 1).toInt64 ∧ r = e (k * 40 + i)
def PXholds (h : Nat → Int32) (a r : Int32) : Prop := (r = -1 ∧ ¬ Sh a) ∨ ∃ k : Nat, k < 8 ∧ a = nI k ∧ r = h k
def PXrule (h am : Nat → Int32) (a b c r : Int32) (h' am' : Nat → Int32) : Prop := (r = -2 ∧ ¬ (Sh a ∧ Iv b.toInt64 1 6 ∧ Iv c.toInt64 0 99) ∧ h' = h ∧ am' = am) ∨ (r = 1 ∧ ∃ k : Nat, k < 8 ∧ a = nI k ∧ Iv b.toInt64 1 6 ∧ Iv c.toInt64 0 99 ∧ h' = upd h k (10 + b) ∧ am' = upd am k c)
abbrev SetO (b : Int32) (n : Nat) : Prop := b &&& (((1 <<< (nI n &&& 31)) - 1) ^^^ (-1)) = 0
def PXbook (t : TA) (a b r : Int32) (t' : TA) : Prop := (r = -2 ∧ ¬ (Iv a.toInt64 1 99 ∧ SetO b (T_nb t)) ∧ t' = t) ∨ (r = -6 ∧ Iv a.toInt64 1 99 ∧ SetO b (T_nb t) ∧ ¬ T_nb t < 8 ∧ t' = t) ∨ (r = nI (T_nb t) ∧ Iv a.toInt64 1 99 ∧ SetO b (T_nb t) ∧ T_nb t < 8 ∧ t' = zab t a b)
abbrev Cbo (a b c d : Int64) : Prop := Iv a 0 9 ∧ Iv b 0 10 ∧ Iv c 0 10 ∧ Iv d 0 10
def PXone (t : TA) (a b c d r : Int32) (t' : TA) : Prop := (r = -2 ∧ ¬ Cbo a.toInt64 b.toInt64 c.toInt64 d.toInt64 ∧ t' = t) ∨ (r = -6 ∧ Cbo a.toInt64 b.toInt64 c.toInt64 d.toInt64 ∧ ¬ T_np t < 8 ∧ t' = t) ∨ (r = nI (T_np t) ∧ Cbo a.toInt64 b.toInt64 c.toInt64 d.toInt64 ∧ T_np t < 8 ∧ t' = zao t a b c d)
/-- ones from a row -/
def onG (e : Nat → Int64) : Nat → Nat → TA → Int32 → TA × Int32
  | 0, _, t, c => (t, c)
  | n + 1, i, t, c => if T_np t < 8 ∧ Cbo (e i) (e (i + 1)) (e (i + 2)) (e (i + 3)) then onG e n (i + 4) (zao t (e i).toInt32 (e (i + 1)).toInt32 (e (i + 2)).toInt32 (e (i + 3)).toInt32) (c + 1) else (t, c)
theorem on_go {e : Nat → Int64} {n i : Nat} {t : TA} {c : Int32} (h1 : T_np t < 8) (h2 : Cbo (e i) (e (i + 1)) (e (i + 2)) (e (i + 3))) : onG e (n + 1) i t c = onG e n (i + 4) (zao t (e i).toInt32 (e (i + 1)).toInt32 (e (i + 2)).toInt32 (e (i + 3)).toInt32) (c + 1) := if_pos ⟨h1, h2⟩
theorem on_1 {e : Nat → Int64} {n i : Nat} {t : TA} {c : Int32} (h1 : ¬ T_np t < 8) : onG e n i t c = (t, c) := by
  cases n with
  | zero => rfl
  | succ n => exact if_neg (fun q => h1 q.1)
theorem on_2 {e : Nat → Int64} {n i : Nat} {t : TA} {c : Int32} (h2 : ¬ Cbo (e i) (e (i + 1)) (e (i + 2)) (e (i + 3))) : onG e n i t c = (t, c) := by
  cases n with
  | zero => rfl
  | succ n => exact if_neg (fun q => h2 q.2)
def PXones (h s : Nat → Int32) (e : Nat → Int64) (t : TA) (a n r : Int32) (t' : TA) : Prop := (r = -2 ∧ (¬ Sh a ∨ ∃ k : Nat, k < 8 ∧ a = nI k ∧ ¬ 10 ≤ h k ∧ Rw (h k) ∧ (¬ Iv n.toInt64 0 (s k).toInt64 ∨ ¬ n - n / 4 * 4 = 0)) ∧ t' = t) ∨ (r = -3 ∧ (∃ k : Nat, k < 8 ∧ a = nI k ∧ 10 ≤ h k) ∧ t' = t) ∨ (r = -4 ∧ (∃ k : Nat, k < 8 ∧ a = nI k ∧ ¬ 10 ≤ h k ∧ ¬ Rw (h k)) ∧ t' = t) ∨ ∃ k m : Nat, k < 8 ∧ a = nI k ∧ ¬ 10 ≤ h k ∧ Rw (h k) ∧ n = nI (4 * m) ∧ 4 * m ≤ 40 ∧ Iv n.toInt64 0 (s k).toInt64 ∧ (t', r) = onG (fun i => e (k * 40 + i)) m 0 t 0
def PXfeed (z : Nat) (n r : Int32) (z' : Nat) : Prop := (r = -2 ∧ ¬ Iv n.toInt64 1 4 ∧ z' = z) ∨ ∃ k : Nat, 1 ≤ k ∧ k ≤ 4 ∧ n = nI k ∧ ((r = -6 ∧ 250 < z + k ∧ z' = z) ∨ (r = nI (z + k) ∧ z + k ≤ 250 ∧ z' = z + k))
abbrev Pr (t : TA) (a b : Int32) : Prop := (∃ k : Nat, k < T_np t ∧ a = nI k) ∧ (∃ k : Nat, k < T_nb t ∧ b = nI k)
def PXalter (t : TA) (a b v r : Int32) (t' : TA) : Prop := (r = -2 ∧ ¬ (Pr t a b ∧ Iv v.toInt64 0 1000) ∧ t' = t) ∨ ∃ k m : Nat, k < T_np t ∧ m < T_nb t ∧ a = nI k ∧ b = nI m ∧ Iv v.toInt64 0 1000 ∧ ((r = -5 ∧ T_gn t k = true ∧ t' = t) ∨ (r = T_kn t k m ∧ T_gn t k = false ∧ t' = T_setkn t (updM (T_kn t) k m v)))
def PXread (t : TA) (a b r : Int32) (t' : TA) : Prop := (r = -2 ∧ ¬ Pr t a b ∧ t' = t) ∨ ∃ k m : Nat, k < T_np t ∧ m < T_nb t ∧ a = nI k ∧ b = nI m ∧ ((r = -5 ∧ (T_wh t m = true ∨ T_gn t k = true) ∧ t' = t) ∨ (r = T_kn (rdT t k m) k m ∧ T_wh t m = false ∧ T_gn t k = false ∧ t' = rdT t k m))
def PXaloud (t : TA) (a b o r : Int32) (t' : TA) : Prop := (r = -2 ∧ ¬ (SetO o (T_np t) ∧ Pr t a b) ∧ t' = t) ∨ ∃ k m : Nat, k < T_np t ∧ m < T_nb t ∧ a = nI k ∧ b = nI m ∧ SetO o (T_np t) ∧ ((r = -5 ∧ (T_wh t m = true ∨ T_gn t k = true) ∧ t' = t) ∨ (r = (zhf (rdT t k m) k m o).2 ∧ T_wh t m = false ∧ T_gn t k = false ∧ t' = (zhf (rdT t k m) k m o).1))
def PXtell (t : TA) (a o b r : Int32) (t' : TA) : Prop := (r = -2 ∧ ¬ (Pr t a b ∧ (∃ k : Nat, k < T_np t ∧ o = nI k) ∧ ¬ a = o) ∧ t' = t) ∨ ∃ k j m : Nat, k < T_np t ∧ j < T_np t ∧ m < T_nb t ∧ a = nI k ∧ o = nI j ∧ b = nI m ∧ ¬ k = j ∧ ((r = -5 ∧ (T_gn t k = true ∨ T_gn t j = true) ∧ t' = t) ∨ (r = zgt t k j m ∧ T_gn t k = false ∧ T_gn t j = false ∧ t' = tlT t k j m))
def PXwrite (t : TA) (a b r : Int32) (t' : TA) : Prop := (r = -2 ∧ ¬ Pr t a b ∧ t' = t) ∨ ∃ k m : Nat, k < T_np t ∧ m < T_nb t ∧ a = nI k ∧ b = nI m ∧ ((r = -5 ∧ (T_wh t m = false ∨ T_gn t k = true ∨ T_kn t k m < 1) ∧ t' = t) ∨ (r = T_kn t k m ∧ T_wh t m = true ∧ T_gn t k = false ∧ ¬ T_kn t k m < 1 ∧ t' = T_setgo (T_setwh t (updB (T_wh t) m false)) (upd (T_go t) m (T_kn t k m))))
noncomputable def yrG (k a : Int32) : Nat → TA → Int32 → TA × Int32
  | 0, t, s => (t, s)
  | n + 1, t, s => yrG k a n (zey (zdd (zact t k a).1)) (s + zval (zact t k a).1)
def PXyears (h am : Nat → Int32) (t : TA) (a n r : Int32) (t' : TA) : Prop := (r = -2 ∧ (¬ Iv n.toInt64 1 20 ∨ ¬ Sh a) ∧ t' = t) ∨ (r = -3 ∧ Iv n.toInt64 1 20 ∧ (∃ k : Nat, k < 8 ∧ a = nI k ∧ Rw (h k)) ∧ t' = t) ∨ (r = -4 ∧ Iv n.toInt64 1 20 ∧ (∃ k : Nat, k < 8 ∧ a = nI k ∧ ¬ Rw (h k) ∧ ¬ 10 ≤ h k) ∧ t' = t) ∨ ∃ k m : Nat, k < 8 ∧ a = nI k ∧ ¬ Rw (h k) ∧ 10 ≤ h k ∧ 1 ≤ m ∧ m ≤ 20 ∧ n = nI m ∧ (t', r) = yrG (h k - 10) (am k) m t 0
theorem dv100 {v : Int64} (h : Iv v 0 799) : ∃ p b : Nat, p < 8 ∧ b < 100 ∧ v.toInt32 / 100 = nI p ∧ v.toInt32 - v.toInt32 / 100 * 100 = nI b ∧ v.toInt = 100 * p + b := by
  obtain ⟨h1, h2⟩ := Iv_iff.mp h
  rw [Int64.le_iff_toInt_le] at h1 h2
  have e0 : (0 : Int64).toInt = 0 := by decide
  have e1 : (799 : Int64).toInt = 799 := by decide
  rw [e0] at h1
  rw [e1] at h2
  have e : v.toInt32 = nI v.toInt.toNat := by
    apply Int32.toInt_inj.mp
    rw [nI_toInt (by omega), Int64.toInt_toInt32, Int.bmod_def]
    omega
  generalize hn : v.toInt.toNat = n at e
  have hn8 : n < 800 := by omega
  have hd : nI n / 100 = nI (n / 100) := by
    rw [show (100 : Int32) = nI 100 from rfl]
    exact pk_div (by omega) (by omega) (by omega)
  refine ⟨n / 100, n % 100, by omega, by omega, ?_, ?_, by omega⟩
  · rw [e, hd]
  · rw [e, hd, show (100 : Int32) = nI 100 from rfl, pk_mul, pk_sub (by omega)]
    congr 1
    omega
theorem lt_of8 {n : Nat} (h : n ≤ 8) (c : nI n < 8) : n < 8 := by
  rcases Nat.lt_or_ge n 8 with q | q
  · exact q
  · exact absurd c (by rw [show n = 8 by omega]; decide)
theorem nlt_of8 {n : Nat} (h : n ≤ 8) (c : ¬ nI n < 8) : ¬ n < 8 := fun q => c (by
  rw [Int32.lt_iff_toInt_lt, nI_toInt (by omega)]
  show (n : Int) < 8
  omega)
theorem fd_yes {z k : Nat} (hz : z ≤ 250) (hk : k ≤ 4) (c : nI z ≤ 250 - nI k) : z + k ≤ 250 := by
  rw [show (250 : Int32) = nI 250 from rfl, pk_sub (by omega), Int32.le_iff_toInt_le, nI_toInt (by omega), nI_toInt (by omega)] at c
  omega
theorem fd_no {z k : Nat} (hz : z ≤ 250) (hk : k ≤ 4) (c : ¬ nI z ≤ 250 - nI k) : 250 < z + k := by
  rw [show (250 : Int32) = nI 250 from rfl, pk_sub (by omega), Int32.le_iff_toInt_le, nI_toInt (by omega), nI_toInt (by omega)] at c
  omega
theorem sz4 {x z : Int32} {n : Nat} (hz : z = nI n) (hn : n ≤ 40) (h : Iv x.toInt64 0 z.toInt64) (c : x - x / 4 * 4 = 0) : ∃ k : Nat, 4 * k ≤ 40 ∧ x = nI (4 * k) := by
  subst hz
  have h1 := toI h (m := 0) (n := n) (by decide) (by rw [Int32.toInt_toInt64, nI_toInt (by omega)])
  obtain ⟨k, hk, rfl⟩ := nI_of (x := x) (by rw [Int32.lt_iff_toInt_lt]; exact Int.not_lt.mpr h1.1)
  rw [nI_toInt hk] at h1
  rw [show (4 : Int32) = nI 4 from rfl, pk_rem hk (by omega) (by omega)] at c
  have e : k % 4 = 0 := nI_inj (a := k % 4) (b := 0) (by omega) (by omega) c
  exact ⟨k / 4, by omega, by congr 1; omega⟩
