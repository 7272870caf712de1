/-! plans -/
def bwF (t : TA) (b n : Nat) (s0 : Int32) : Nat → Int32 × Int32
  | 0 => (-1, s0)
  | p + 1 => if bitb (zthere t) p = true ∧ ((bwF t b n s0 p).1 = -1 ∨ (bwF t b n s0 p).2 < (soG n (rdT t p b) 0).2) then (nI p, (soG n (rdT t p b) 0).2) else bwF t b n s0 p
theorem bw_upd {t : TA} {b n p : Nat} {s0 : Int32} (h : bitb (zthere t) p = true ∧ ((bwF t b n s0 p).1 = -1 ∨ (bwF t b n s0 p).2 < (soG n (rdT t p b) 0).2)) : bwF t b n s0 (p + 1) = (nI p, (soG n (rdT t p b) 0).2) := if_pos h
theorem bw_skip {t : TA} {b n p : Nat} {s0 : Int32} (h : ¬ (bitb (zthere t) p = true ∧ ((bwF t b n s0 p).1 = -1 ∨ (bwF t b n s0 p).2 < (soG n (rdT t p b) 0).2))) : bwF t b n s0 (p + 1) = bwF t b n s0 p := if_neg h
def zbw (t : TA) (b n : Nat) (s0 : Int32) : Int32 × Int32 := bwF t b n s0 (T_np t)
def zfk (t : TA) (b n : Nat) (s0 : Int32) : Int32 × Int32 := if (zbw t b n s0).1 = -1 then (0, (zbw t b n s0).2) else if (zbw (soG 1 t 0).1 b (n - 1) (zbw t b n s0).2).1 = -1 then (0, (zbw (soG 1 t 0).1 b (n - 1) (zbw t b n s0).2).2) else (1, ((soG 1 t 0).2 + (zbw (soG 1 t 0).1 b (n - 1) (zbw t b n s0).2).2) - (zbw t b n s0).2)
theorem fk_1 {t : TA} {b n : Nat} {s0 : Int32} (h : (zbw t b n s0).1 = -1) : zfk t b n s0 = (0, (zbw t b n s0).2) := if_pos h
theorem fk_2 {t : TA} {b n : Nat} {s0 : Int32} (h : ¬ (zbw t b n s0).1 = -1) (g : (zbw (soG 1 t 0).1 b (n - 1) (zbw t b n s0).2).1 = -1) : zfk t b n s0 = (0, (zbw (soG 1 t 0).1 b (n - 1) (zbw t b n s0).2).2) := (if_neg h).trans (if_pos g)
theorem fk_3 {t : TA} {b n : Nat} {s0 : Int32} (h : ¬ (zbw t b n s0).1 = -1) (g : ¬ (zbw (soG 1 t 0).1 b (n - 1) (zbw t b n s0).2).1 = -1) : zfk t b n s0 = (1, ((soG 1 t 0).2 + (zbw (soG 1 t 0).1 b (n - 1) (zbw t b n s0).2).2) - (zbw t b n s0).2) := (if_neg h).trans (if_neg g)
def wrF (t : TA) (p : Nat) : Nat → TA
  | 0 => t
  | b + 1 => if T_wh (wrF t p b) b = true then wrF t p b else rdT (wrF t p b) p b
theorem wr_nb (t : TA) (p : Nat) : ∀ n, T_nb (wrF t p n) = T_nb t ∧ T_np (wrF t p n) = T_np t := by
  intro n
  induction n with
  | zero => exact ⟨rfl, rfl⟩
  | succ n ih =>
    unfold wrF
    split
    · exact ih
    · exact ⟨(rdT_nb _ _ _).1.trans ih.1, (rdT_nb _ _ _).2.trans ih.2⟩
theorem wr_go {t : TA} {p b : Nat} (h : T_wh (wrF t p b) b = false) : wrF t p (b + 1) = rdT (wrF t p b) p b := by
  rw [wrF, if_neg (by rw [h]; decide)]
theorem wr_no {t : TA} {p b : Nat} (h : T_wh (wrF t p b) b = true) : wrF t p (b + 1) = wrF t p b := by
  rw [wrF, if_pos h]
def zwr (t : TA) (p : Nat) : TA := wrF t p (T_nb t)
theorem nb_wr (t : TA) (p : Nat) : T_nb (zwr t p) = T_nb t := (wr_nb t p _).1
theorem np_wr (t : TA) (p : Nat) : T_np (zwr t p) = T_np t := (wr_nb t p _).2
theorem srG_nb (k a : Int32) : ∀ (n : Nat) (t : TA) (l s : Int32), T_nb (srG k a n t l s).1 = T_nb t ∧ T_np (srG k a n t l s).1 = T_np t := by
  intro n
  induction n with
  | zero => intro t l s; exact ⟨rfl, rfl⟩
  | succ n ih =>
    intro t l s
    rw [srG]
    split
    · exact ⟨rfl, rfl⟩
    · exact ⟨(ih _ _ _).1.trans ((zey_nb _).1.trans (zact_nb _ _ _).1), (ih _ _ _).2.trans ((zey_nb _).2.trans (zact_nb _ _ _).2)⟩
theorem nb_sr (k a : Int32) (n : Nat) (t : TA) (l s : Int32) : T_nb ((srG k a n t l s).1) = T_nb t := (srG_nb k a n t l s).1
theorem np_sr (k a : Int32) (n : Nat) (t : TA) (l s : Int32) : T_np ((srG k a n t l s).1) = T_np t := (srG_nb k a n t l s).2
theorem nI_sub1 {k : Nat} (h : 1 ≤ k) : nI k - 1 = nI (k - 1) := by
  obtain ⟨m, rfl⟩ : ∃ m, k = m + 1 := ⟨k - 1, by omega⟩
  exact nI_pred m
/-- under a kind -/
def zun (k a : Int32) : Bool := if a = 0 then true else if a = 1 then decide (1 ≤ k) && decide (k ≤ 3) else if a = 4 then decide (4 ≤ k) && decide (k ≤ 6) else decide (k = a)
theorem sw_0_4 (x : Int32) : x = 0 ∨ x = 1 ∨ x = 2 ∨ x = 3 ∨ x = 4 ∨ (x.toInt < 0 ∨ 4 < x.toInt) := by
  rcases (show x.toInt = 0 ∨ x.toInt = 1 ∨ x.toInt = 2 ∨ x.toInt = 3 ∨ x.toInt = 4 ∨ (x.toInt < 0 ∨ 4 < x.toInt) by omega) with e | e | e | e | e | e
  · exact Or.inl (eqI (by decide) e)
  · exact Or.inr (Or.inl (eqI (by decide) e))
  · exact Or.inr (Or.inr (Or.inl (eqI (by decide) e)))
  · exact Or.inr (Or.inr (Or.inr (Or.inl (eqI (by decide) e))))
  · exact Or.inr (Or.inr (Or.inr (Or.inr (Or.inl (eqI (by decide) e)))))
  · exact Or.inr (Or.inr (Or.inr (Or.inr (Or.inr e))))
theorem sw_0_2 (x : Int32) : x = 0 ∨ x = 1 ∨ x = 2 ∨ (x.toInt < 0 ∨ 2 < x.toInt) := by
  rcases sw_0_4 x with e | e | e | e | e | e
  · exact Or.inl e
  · exact Or.inr (Or.inl e)
  · exact Or.inr (Or.inr (Or.inl e))
  · exact Or.inr (Or.inr (Or.inr (Or.inr (by rw [e]; decide))))
  · exact Or.inr (Or.inr (Or.inr (Or.inr (by rw [e]; decide))))
  · exact Or.inr (Or.inr (Or.inr (by omega)))
theorem un_d {k a : Int32} (h : a.toInt < 0 ∨ 4 < a.toInt) : zun k a = decide (k = a) := by
  have n : ∀ c : Int32, 0 ≤ c.toInt → c.toInt ≤ 4 → ¬ a = c := fun c h1 h2 e => by subst e; omega
  exact (if_neg (n 0 (by decide) (by decide))).trans ((if_neg (n 1 (by decide) (by decide))).trans (if_neg (n 4 (by decide) (by decide))))
