/-! rules and plans -/
def tlT (t : TA) (p o b : Nat) : TA := T_setkn t (updM (T_kn t) o b (T_kn t o b + zgt t p o b))
def tcI (t : TA) (p o : Nat) : Nat → TA
  | 0 => t
  | b + 1 => tlT (tcI t p o b) p o b
def tcS (t : TA) (p : Nat) : TA := if T_gn t p = true then t else if zyb t (nI p) = -1 then t else tcI t p (zyb t (nI p)).toNatClampNeg (T_nb t)
def tcF (t : TA) : Nat → TA
  | 0 => t
  | p + 1 => tcS (tcF t p) p
def zch (t : TA) : TA := tcF t (T_np t)
theorem tcI_nb (t : TA) (p o : Nat) : ∀ n, T_nb (tcI t p o n) = T_nb t ∧ T_np (tcI t p o n) = T_np t := by
  intro n
  induction n with
  | zero => exact ⟨rfl, rfl⟩
  | succ n ih => exact ih
theorem tcS_nb (t : TA) (p : Nat) : T_nb (tcS t p) = T_nb t ∧ T_np (tcS t p) = T_np t := by
  unfold tcS
  split
  · exact ⟨rfl, rfl⟩
  · split
    · exact ⟨rfl, rfl⟩
    · exact tcI_nb _ _ _ _
theorem tcF_nb (t : TA) : ∀ n, T_nb (tcF t n) = T_nb t ∧ T_np (tcF t n) = T_np t := by
  intro n
  induction n with
  | zero => exact ⟨rfl, rfl⟩
  | succ n ih => exact ⟨(tcS_nb _ _).1.trans ih.1, (tcS_nb _ _).2.trans ih.2⟩
theorem tcS_g {t : TA} {p : Nat} (h : T_gn t p = true) : tcS t p = t := by rw [tcS, if_pos h]
theorem tcS_n {t : TA} {p : Nat} (h : T_gn t p = false) (e : zyb t (nI p) = -1) : tcS t p = t := by rw [tcS, if_neg (by rw [h]; decide), if_pos e]
theorem tcS_y {t : TA} {p k : Nat} (h : T_gn t p = false) (e : zyb t (nI p) = nI k) (hk : k < 8) : tcS t p = tcI t p k (T_nb t) := by
  rw [tcS, if_neg (by rw [h]; decide), if_neg (by rw [e]; intro q; have := nI_pos (n := k) (by omega); rw [q] at this; exact this (by decide)), e, nI_clamp (by omega)]
def rdS (t : TA) (p b : Nat) (loud : Int32) : TA := if loud = 0 then rdT t p b else (zhf (rdT t p b) p b (zthere (rdT t p b))).1
def rdG (loud most : Int32) : Nat → Nat → TA → Int32 → TA × Int32
  | 0, _, t, c => (t, c)
  | n + 1, j, t, c => if most ≤ nI j then (t, c) else if zdu t = -1 then (t, c) else if zbr t (zdu t).toNatClampNeg = -1 then (t, c) else rdG loud most n (j + 1) (rdS t (zbr t (zdu t).toNatClampNeg).toNatClampNeg (zdu t).toNatClampNeg loud) (c + 1)
def zrd (t : TA) (most loud : Int32) : TA × Int32 := rdG loud most 8 0 t 0
theorem rd_m {loud most : Int32} {n j : Nat} {t : TA} {c : Int32} (h : most ≤ nI j) : rdG loud most n j t c = (t, c) := by
  cases n with
  | zero => rfl
  | succ n => rw [rdG, if_pos h]
theorem rd_u {loud most : Int32} {n j : Nat} {t : TA} {c : Int32} (e : zdu t = -1) : rdG loud most n j t c = (t, c) := by
  cases n with
  | zero => rfl
  | succ n =>
    rw [rdG]
    split
    · rfl
    · first | rfl | rw [if_pos e]
theorem rd_b {loud most : Int32} {n j k : Nat} {t : TA} {c : Int32} (e : zdu t = nI k) (hk : k < 8) (e2 : zbr t k = -1) : rdG loud most n j t c = (t, c) := by
  cases n with
  | zero => rfl
  | succ n =>
    rw [rdG]
    split
    · rfl
    · split
      · rfl
      · first | rfl | rw [e, nI_clamp (by omega), if_pos e2]
theorem nI_ne1 {k : Nat} (hk : k < 8) : ¬ nI k = -1 := fun q => by
  have := nI_pos (n := k) (by omega)
  rw [q] at this
  exact this (by decide)
theorem rd_go {loud most : Int32} {n j k i : Nat} {t : TA} {c : Int32} (h : ¬ most ≤ nI j) (e : zdu t = nI k) (hk : k < 8) (e2 : zbr t k = nI i) (hi : i < 8) : rdG loud most (n + 1) j t c = rdG loud most n (j + 1) (rdS t i k loud) (c + 1) := by
  rw [rdG, if_neg h, e, if_neg (nI_ne1 hk), nI_clamp (by omega), e2, if_neg (nI_ne1 hi), nI_clamp (by omega)]
theorem rdT_nb (t : TA) (p b : Nat) : T_nb (rdT t p b) = T_nb t ∧ T_np (rdT t p b) = T_np t := ⟨rfl, rfl⟩
theorem zhf_nb (t : TA) (p b : Nat) (o : Int32) : T_nb (zhf t p b o).1 = T_nb t ∧ T_np (zhf t p b o).1 = T_np t := hf_nb _ _ _ _ _
theorem rdS_nb (t : TA) (p b : Nat) (l : Int32) : T_nb (rdS t p b l) = T_nb t ∧ T_np (rdS t p b l) = T_np t := by
  unfold rdS
  split
  · exact rdT_nb _ _ _
  · exact ⟨(zhf_nb _ _ _ _).1.trans (rdT_nb t p b).1, (zhf_nb _ _ _ _).2.trans (rdT_nb t p b).2⟩
theorem rdG_nb (loud most : Int32) : ∀ (n j : Nat) (t : TA) (c : Int32), T_nb (rdG loud most n j t c).1 = T_nb t ∧ T_np (rdG loud most n j t c).1 = T_np t := by
  intro n
  induction n with
  | zero => intro j t c; exact ⟨rfl, rfl⟩
  | succ n ih =>
    intro j t c
    rw [rdG]
    split
    · exact ⟨rfl, rfl⟩
    · split
      · exact ⟨rfl, rfl⟩
      · split
        · exact ⟨rfl, rfl⟩
        · exact ⟨(ih _ _ _).1.trans (rdS_nb _ _ _ _).1, (ih _ _ _).2.trans (rdS_nb _ _ _ _).2⟩
def zact (t : TA) (k a : Int32) : TA × Int32 := if k = 1 then zrd t 8 0 else if k = 2 then zrd t a 0 else if k = 3 then zrd t 8 1 else if k = 4 then (zch t, 0) else if k = 5 then (zch (zch t), 0) else if k = 6 then zrd (zch t) 1 0 else (t, 0)
theorem zch_nb (t : TA) : T_nb (zch t) = T_nb t ∧ T_np (zch t) = T_np t := tcF_nb _ _
theorem zrd_nb (t : TA) (m l : Int32) : T_nb (zrd t m l).1 = T_nb t ∧ T_np (zrd t m l).1 = T_np t := rdG_nb _ _ _ _ _ _
theorem zact_nb (t : TA) (k a : Int32) : T_nb (zact t k a).1 = T_nb t ∧ T_np (zact t k a).1 = T_np t := by
  unfold zact
  split
  · exact zrd_nb _ _ _
  · split
    · exact zrd_nb _ _ _
    · split
      · exact zrd_nb _ _ _
      · split
        · exact zch_nb _
        · split
          · exact ⟨(zch_nb _).1.trans (zch_nb _).1, (zch_nb _).2.trans (zch_nb _).2⟩
          · split
            · exact ⟨(zrd_nb _ _ _).1.trans (zch_nb _).1, (zrd_nb _ _ _).2.trans (zch_nb _).2⟩
            · exact ⟨rfl, rfl⟩
theorem zey_nb (t : TA) : T_nb (zey t) = T_nb t ∧ T_np (zey t) = T_np t := ey_nb _ _ _
/-- runs: the town, the last value, the sum -/
def srG (k a : Int32) : Nat → TA → Int32 → Int32 → TA × Int32 × Int32
  | 0, t, l, s => (t, l, s)
  | n + 1, t, l, s => if zthere t = 0 then (t, 0, s) else srG k a n (zey (zact t k a).1) (zval (zact t k a).1) (s + zval (zact t k a).1)
theorem sr_0 {k a : Int32} {n : Nat} {t : TA} {l s : Int32} (h : zthere t = 0) : srG k a (n + 1) t l s = (t, 0, s) := by rw [srG, if_pos h]
theorem sr_go {k a : Int32} {n : Nat} {t : TA} {l s : Int32} (h : ¬ zthere t = 0) : srG k a (n + 1) t l s = srG k a n (zey (zact t k a).1) (zval (zact t k a).1) (s + zval (zact t k a).1) := by rw [srG, if_neg h]
def soG : Nat → TA → Int32 → TA × Int32
  | 0, t, s => (t, s)
  | n + 1, t, s => if zthere t = 0 then (t, s) else soG n (zey t) (s + zval t)
theorem so_0 {n : Nat} {t : TA} {s : Int32} (h : zthere t = 0) : soG n t s = (t, s) := by
  cases n with
  | zero => rfl
  | succ n => rw [soG, if_pos h]
theorem so_go {n : Nat} {t : TA} {s : Int32} (h : ¬ zthere t = 0) : soG (n + 1) t s = soG n (zey t) (s + zval t) := by rw [soG, if_neg h]
theorem soG_nb : ∀ (n : Nat) (t : TA) (s : Int32), T_nb (soG n t s).1 = T_nb t ∧ T_np (soG n t s).1 = T_np t := by
  intro n
  induction n with
  | zero => intro t s; exact ⟨rfl, rfl⟩
  | succ n ih =>
    intro t s
    rw [soG]
    split
    · exact ⟨rfl, rfl⟩
    · exact ⟨(ih _ _).1.trans (zey_nb _).1, (ih _ _).2.trans (zey_nb _).2⟩
