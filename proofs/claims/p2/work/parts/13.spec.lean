/-! loops over books and people -/
def brF (t : TA) (b : Nat) : Nat → Int32 × Int32
  | 0 => (-1, 0)
  | p + 1 => if T_gn t p = false ∧ ¬ zwk t p b = -1 ∧ ((brF t b p).1 = -1 ∨ (brF t b p).2 < zwk t p b ∨ (zwk t p b = (brF t b p).2 ∧ T_ag t p < T_ag t (brF t b p).1.toNatClampNeg)) then (nI p, zwk t p b) else brF t b p
def zbr (t : TA) (b : Nat) : Int32 := (brF t b (T_np t)).1
theorem br_in (t : TA) (b : Nat) : ∀ n, (brF t b n).1 = -1 ∨ ∃ k, k < n ∧ (brF t b n).1 = nI k := by
  intro n
  induction n with
  | zero => exact Or.inl rfl
  | succ n ih =>
    unfold brF
    split
    · exact Or.inr ⟨n, by omega, rfl⟩
    · rcases ih with h | ⟨k, h1, h2⟩
      · exact Or.inl h
      · exact Or.inr ⟨k, by omega, h2⟩
def duF (t : TA) : Nat → Int32
  | 0 => -1
  | b + 1 => if T_wh t b = false ∧ (duF t b = -1 ∨ T_wo t (duF t b).toNatClampNeg < T_wo t b) then nI b else duF t b
def zdu (t : TA) : Int32 := duF t (T_nb t)
theorem du_in (t : TA) : ∀ n, duF t n = -1 ∨ ∃ k, k < n ∧ duF t n = nI k := by
  intro n
  induction n with
  | zero => exact Or.inl rfl
  | succ n ih =>
    unfold duF
    split
    · exact Or.inr ⟨n, by omega, rfl⟩
    · rcases ih with h | ⟨k, h1, h2⟩
      · exact Or.inl h
      · exact Or.inr ⟨k, by omega, h2⟩
def ybF (t : TA) (o : Int32) : Nat → Int32
  | 0 => -1
  | p + 1 => if ¬ nI p = o ∧ T_gn t p = false ∧ (ybF t o p = -1 ∨ T_ag t p < T_ag t (ybF t o p).toNatClampNeg) then nI p else ybF t o p
def zyb (t : TA) (o : Int32) : Int32 := ybF t o (T_np t)
theorem yb_in (t : TA) (o : Int32) : ∀ n, ybF t o n = -1 ∨ ∃ k, k < n ∧ ybF t o n = nI k := by
  intro n
  induction n with
  | zero => exact Or.inl rfl
  | succ n ih =>
    unfold ybF
    split
    · exact Or.inr ⟨n, by omega, rfl⟩
    · rcases ih with h | ⟨k, h1, h2⟩
      · exact Or.inl h
      · exact Or.inr ⟨k, by omega, h2⟩
def uaG (t : TA) (pl : Int32) : Nat → Nat → Int32 → Int32
  | 0, _, _ => -1
  | n + 1, j, c => if T_wh t j = false then (if c = pl then nI j else uaG t pl n (j + 1) (c + 1)) else uaG t pl n (j + 1) c
def zua (t : TA) (pl : Int32) : Int32 := uaG t pl (T_nb t) 0 0
def anF (t : TA) : Nat → Int32 → Int32
  | 0, s => s
  | n + 1, s => anF t n (if bitb s n = true then s ||| T_ne t n else s)
def zan (t : TA) (b : Nat) : Int32 := anF t b (T_ne t b)
def atF (t : TA) (b : Nat) : Nat → Int32
  | 0 => 0
  | n + 1 => if b < n ∧ bitb (zan t n) b = true then atF t b n ||| (1 <<< (nI n &&& 31)) else atF t b n
def zat (t : TA) (b : Nat) : Int32 := atF t b (T_nb t)
theorem at_0 (t : TA) (b : Nat) : ∀ n, n ≤ b + 1 → atF t b n = 0 := by
  intro n
  induction n with
  | zero => intro _; rfl
  | succ n ih =>
    intro h
    unfold atF
    rw [if_neg (fun q => absurd q.1 (by omega))]
    exact ih (by omega)
def fgK (K : Nat → Nat → Int32) (p : Nat) (r : Int32) : Nat → Nat → Nat → Int32
  | 0 => K
  | b + 1 => updM (fgK K p r b) p b (fgK K p r b p b * r / 100)
def fgT (t : TA) (p : Nat) : TA := T_setkn t (fgK (T_kn t) p (if T_gn t p = true then 0 else 90 + T_me t p) (T_nb t))
def eyS (t : TA) (p : Nat) : TA := fgT (T_setgn (T_setag t (upd (T_ag t) p (T_ag t p + 1))) (if 9 < T_ag t p + 1 then updB (T_gn t) p true else T_gn t)) p
def eyF (th : Int32) (t : TA) : Nat → TA
  | 0 => t
  | p + 1 => if bitb th p = true then eyS (eyF th t p) p else eyF th t p
def zey (t : TA) : TA := eyF (zthere t) t (T_np t)
def bcA (x : Int32) : Int32 := x - ((x.toUInt32 >>> (Int32.toUInt32 1 &&& Int32.toUInt32 31)).toInt32 &&& 1431655765)
def bcB (x : Int32) : Int32 := (x &&& 858993459) + ((x.toUInt32 >>> (Int32.toUInt32 2 &&& Int32.toUInt32 31)).toInt32 &&& 858993459)
def bcC (x : Int32) : Int32 := (x + (x.toUInt32 >>> (Int32.toUInt32 4 &&& Int32.toUInt32 31)).toInt32) &&& 252645135
def bcD (x : Int32) : Int32 := x + (x.toUInt32 >>> (Int32.toUInt32 8 &&& Int32.toUInt32 31)).toInt32
def bcE (x : Int32) : Int32 := (x + (x.toUInt32 >>> (Int32.toUInt32 16 &&& Int32.toUInt32 31)).toInt32) &&& 63
def zbc (x : Int32) : Int32 := bcE (bcD (bcC (bcB (bcA x))))
def ltS (s : Int32) : Int32 := s * 1103515245 + 12345
def ltD (s : Int32) : Int32 := (ltS s).toUInt32 >>> (Int32.toUInt32 16 &&& Int32.toUInt32 31) |>.toInt32
def ltR (s : Int32) : Int32 := ltD s - ltD s / 20 * 20
def ddF (t : TA) : Nat → TA
  | 0 => t
  | p + 1 => if T_gn (ddF t p) p = true then ddF t p else if ltR (T_sd (ddF t p)) < T_ag (ddF t p) p then T_setgn (T_setsd (ddF t p) (ltS (T_sd (ddF t p)))) (updB (T_gn (ddF t p)) p true) else T_setsd (ddF t p) (ltS (T_sd (ddF t p)))
def zdd (t : TA) : TA := ddF t (T_np t)
/-- reading aloud: who hears -/
def hfF (t : TA) (h ls : Int32) (b : Nat) : Nat → TA × Int32
  | 0 => (t, 0)
  | o + 1 => if bitb ls o = true ∧ T_kn (hfF t h ls b o).1 o b < zgr h (zgd (hfF t h ls b o).1 o b) then (T_setkn (hfF t h ls b o).1 (updM (T_kn (hfF t h ls b o).1) o b (zgr h (zgd (hfF t h ls b o).1 o b))), (hfF t h ls b o).2 + 1) else hfF t h ls b o
def zhf (t : TA) (p b : Nat) (others : Int32) : TA × Int32 := hfF t (T_kn t p b / 2) ((others &&& zthere t) &&& ((1 <<< (nI p &&& 31)) ^^^ (-1))) b (T_np t)
theorem br_upd {t : TA} {b p : Nat} (h : T_gn t p = false ∧ ¬ zwk t p b = -1 ∧ ((brF t b p).1 = -1 ∨ (brF t b p).2 < zwk t p b ∨ (zwk t p b = (brF t b p).2 ∧ T_ag t p < T_ag t (brF t b p).1.toNatClampNeg))) : brF t b (p + 1) = (nI p, zwk t p b) := if_pos h
theorem br_skip {t : TA} {b p : Nat} (h : ¬ (T_gn t p = false ∧ ¬ zwk t p b = -1 ∧ ((brF t b p).1 = -1 ∨ (brF t b p).2 < zwk t p b ∨ (zwk t p b = (brF t b p).2 ∧ T_ag t p < T_ag t (brF t b p).1.toNatClampNeg)))) : brF t b (p + 1) = brF t b p := if_neg h
theorem du_upd {t : TA} {b : Nat} (h : T_wh t b = false ∧ (duF t b = -1 ∨ T_wo t (duF t b).toNatClampNeg < T_wo t b)) : duF t (b + 1) = nI b := if_pos h
theorem du_skip {t : TA} {b : Nat} (h : ¬ (T_wh t b = false ∧ (duF t b = -1 ∨ T_wo t (duF t b).toNatClampNeg < T_wo t b))) : duF t (b + 1) = duF t b := if_neg h
theorem yb_upd {t : TA} {o : Int32} {p : Nat} (h : ¬ nI p = o ∧ T_gn t p = false ∧ (ybF t o p = -1 ∨ T_ag t p < T_ag t (ybF t o p).toNatClampNeg)) : ybF t o (p + 1) = nI p := if_pos h
theorem yb_skip {t : TA} {o : Int32} {p : Nat} (h : ¬ (¬ nI p = o ∧ T_gn t p = false ∧ (ybF t o p = -1 ∨ T_ag t p < T_ag t (ybF t o p).toNatClampNeg))) : ybF t o (p + 1) = ybF t o p := if_neg h
def zab (t : TA) (w n : Int32) : TA := T_mk (T_nb t + 1) (T_np t) (T_sd t) (T_wh t) (T_gn t) (upd (T_wo t) (T_nb t) w) (upd (T_ne t) (T_nb t) n) (upd (T_go t) (T_nb t) 1000) (T_ag t) (T_re t) (T_me t) (T_te t) (T_kn t)
def zao (t : TA) (a r k e : Int32) : TA := T_mk (T_nb t) (T_np t + 1) (T_sd t) (T_wh t) (T_gn t) (T_wo t) (T_ne t) (T_go t) (upd (T_ag t) (T_np t) a) (upd (T_re t) (T_np t) r) (upd (T_me t) (T_np t) k) (upd (T_te t) (T_np t) e) (T_kn t)
theorem isx_yes {x : Int32} {n : Nat} (h1 : ¬ x < 0) (h2 : ¬ nI n ≤ x) (hn : n ≤ 8) : ∃ k : Nat, k < n ∧ x = nI k := by
  obtain ⟨k, hk, rfl⟩ := nI_of h1
  exact ⟨k, lp_lt rfl rfl hk (by omega) h2, rfl⟩
theorem isx_no1 {x : Int32} {n : Nat} (h1 : x < 0) (hn : n ≤ 8) : ¬ ∃ k : Nat, k < n ∧ x = nI k := fun ⟨k, hk, e⟩ => by
  subst e
  exact nI_pos (by omega) h1
theorem isx_no2 {x : Int32} {n : Nat} (h1 : nI n ≤ x) (hn : n ≤ 8) : ¬ ∃ k : Nat, k < n ∧ x = nI k := fun ⟨k, hk, e⟩ => by
  subst e
  exact nI_ge hk (by omega) h1
