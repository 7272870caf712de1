section
/-! what the calls keep: sizes in range -/
noncomputable abbrev NB8 (t : TA) : Prop := T_nb t ≤ 8 ∧ T_np t ≤ 8
theorem nb_book {t t' : TA} {a b r : Int32} (h : NB8 t) (q : PXbook t a b r t') : NB8 t' := by
  rcases q with ⟨-, -, rfl⟩ | ⟨-, -, -, -, rfl⟩ | ⟨-, -, -, h1, rfl⟩
  · exact h
  · exact h
  · exact ⟨h1, h.2⟩
theorem nb_one {t t' : TA} {a b c d r : Int32} (h : NB8 t) (q : PXone t a b c d r t') : NB8 t' := by
  rcases q with ⟨-, -, rfl⟩ | ⟨-, -, -, rfl⟩ | ⟨-, -, h1, rfl⟩
  · exact h
  · exact h
  · exact ⟨h.1, h1⟩
theorem nb_onG (e : Nat → Int64) : ∀ (n i : Nat) (t : TA) (c : Int32), NB8 t → NB8 (onG e n i t c).1 := by
  intro n
  induction n with
  | zero => intro i t c h; exact h
  | succ n ih =>
    intro i t c h
    by_cases h1 : T_np t < 8
    · by_cases h2 : Cbo (e i) (e (i + 1)) (e (i + 2)) (e (i + 3))
      · rw [on_go h1 h2]
        exact ih _ _ _ ⟨h.1, h1⟩
      · rw [on_2 h2]
        exact h
    · rw [on_1 h1]
      exact h
theorem nb_ones {f s : Nat → Int32} {e : Nat → Int64} {t t' : TA} {a n r : Int32} (h : NB8 t) (q : PXones f s e t a n r t') : NB8 t' := by
  rcases q with ⟨-, -, rfl⟩ | ⟨-, -, rfl⟩ | ⟨-, -, rfl⟩ | ⟨k, m, -, -, -, -, -, -, -, e1⟩
  · exact h
  · exact h
  · exact h
  · have := nb_onG (fun i => e (k * 40 + i)) m 0 t 0 h
    rw [← e1] at this
    exact this
theorem nb_alter {t t' : TA} {a b v r : Int32} (h : NB8 t) (q : PXalter t a b v r t') : NB8 t' := by
  rcases q with ⟨-, -, rfl⟩ | ⟨k, m, -, -, -, -, -, ⟨-, -, rfl⟩ | ⟨-, -, rfl⟩⟩ <;> exact h
theorem nb_read {t t' : TA} {a b r : Int32} (h : NB8 t) (q : PXread t a b r t') : NB8 t' := by
  rcases q with ⟨-, -, rfl⟩ | ⟨k, m, -, -, -, -, ⟨-, -, rfl⟩ | ⟨-, -, -, rfl⟩⟩
  · exact h
  · exact h
  · exact ⟨by rw [nb_rd]; exact h.1, by rw [np_rd]; exact h.2⟩
theorem nb_aloud {t t' : TA} {a b o r : Int32} (h : NB8 t) (q : PXaloud t a b o r t') : NB8 t' := by
  rcases q with ⟨-, -, rfl⟩ | ⟨k, m, -, -, -, -, -, ⟨-, -, rfl⟩ | ⟨-, -, -, rfl⟩⟩
  · exact h
  · exact h
  · exact ⟨by rw [nb_hf, nb_rd]; exact h.1, by rw [np_hf, np_rd]; exact h.2⟩
theorem nb_tell {t t' : TA} {a o b r : Int32} (h : NB8 t) (q : PXtell t a o b r t') : NB8 t' := by
  rcases q with ⟨-, -, rfl⟩ | ⟨k, j, m, -, -, -, -, -, -, -, ⟨-, -, rfl⟩ | ⟨-, -, -, rfl⟩⟩ <;> exact h
theorem nb_write {t t' : TA} {a b r : Int32} (h : NB8 t) (q : PXwrite t a b r t') : NB8 t' := by
  rcases q with ⟨-, -, rfl⟩ | ⟨k, m, -, -, -, -, ⟨-, -, rfl⟩ | ⟨-, -, -, -, rfl⟩⟩ <;> exact h
theorem nb_yrG (k a : Int32) : ∀ (n : Nat) (t : TA) (s : Int32), NB8 t → NB8 (yrG k a n t s).1 := by
  intro n
  induction n with
  | zero => intro t s h; exact h
  | succ n ih =>
    intro t s h
    refine ih _ _ ⟨?_, ?_⟩
    · rw [nb_ey, nb_dd, nb_za]; exact h.1
    · rw [np_ey, np_dd, np_za]; exact h.2
theorem nb_years {f am : Nat → Int32} {t t' : TA} {a n r : Int32} (h : NB8 t) (q : PXyears f am t a n r t') : NB8 t' := by
  rcases q with ⟨-, -, rfl⟩ | ⟨-, -, -, rfl⟩ | ⟨-, -, -, rfl⟩ | ⟨k, m, -, -, -, -, -, -, -, e1⟩
  · exact h
  · exact h
  · exact h
  · have := nb_yrG (f k - 10) (am k) m t 0 h
    rw [← e1] at this
    exact this
theorem nb_zey8 {t : TA} (h : NB8 t) : NB8 (zey t) := ⟨by rw [nb_ey]; exact h.1, by rw [np_ey]; exact h.2⟩
theorem sx_t {tA tB tD tN : TA} {fS : Nat → Int32} {kZ : Nat} (h : SX tA tB tD fS kZ) (q : NB8 tN) : SX tN tB tD fS kZ := ⟨q, h.2⟩
theorem sz_upd {f : Nat → Int32} {k n m : Nat} {v : Int32} (h : ∀ s, s < 8 → ∃ n : Nat, n ≤ m ∧ f s = nI n) (hn : n ≤ m) (hv : v = nI n) : ∀ s, s < 8 → ∃ n : Nat, n ≤ m ∧ upd f k v s = nI n := fun s hs => by
  show ∃ n : Nat, n ≤ m ∧ (if s = k then v else f s) = nI n
  by_cases e : s = k
  · rw [if_pos e]
    exact ⟨n, hn, hv⟩
  · rw [if_neg e]
    exact h s hs
theorem sx_row {tA tB tD : TA} {fH fS fY fZ : Nat → Int32} {gE gX : Nat → Int64} {kZ : Nat} {a b c r : Int32} (h : SX tA tB tD fS kZ) (q : PXrow fH fS gE a b c r fY fZ gX) : SX tA tB tD fZ kZ := by
  rcases q with ⟨-, -, -, rfl, -⟩ | ⟨-, k, n, -, h2, -, -, -, -, rfl, -⟩
  · exact h
  · exact ⟨h.1, h.2.1, h.2.2.1, sz_upd h.2.2.2.1 h2 rfl, h.2.2.2.2⟩
theorem fd_le {z z' : Nat} {n r : Int32} (h : z ≤ 250) (q : PXfeed z n r z') : z' ≤ 250 := by
  rcases q with ⟨-, -, rfl⟩ | ⟨k, -, -, -, ⟨-, -, rfl⟩ | ⟨-, h1, rfl⟩⟩
  · exact h
  · exact h
  · exact h1
theorem sx_z {tA tB tD : TA} {fS : Nat → Int32} {kZ kN : Nat} (h : SX tA tB tD fS kZ) (q : kN ≤ 250) : SX tA tB tD fS kN := ⟨h.1, h.2.1, h.2.2.1, h.2.2.2.1, q⟩
theorem sx_town {tA tB tD tN tO : TA} {fS : Nat → Int32} {kZ kN : Nat} (h : SX tA tB tD fS kZ) (q : T_nb tN ≤ 8 ∧ T_np tN ≤ 8 ∧ kN = 0 ∧ T_nb tO ≤ 8) : SX tN tB tO fS kN := ⟨⟨q.1, q.2.1⟩, h.2.1, q.2.2.2, h.2.2.2.1, by have := q.2.2.1; omega⟩
theorem sx_image {tA tB tD tN : TA} {fS : Nat → Int32} {kZ : Nat} (h : SX tA tB tD fS kZ) (q : tN = tA) : SX tA tN tD fS kZ := by
  subst q
  exact ⟨h.1, h.1, h.2.2⟩
theorem sx_back {tA tB tD tN : TA} {fS : Nat → Int32} {kZ : Nat} {i r : Int32} (h : SX tA tB tD fS kZ) (q : (i = 0 ∧ r = -5 ∧ tN = tA) ∨ (¬ i = 0 ∧ r = 1 ∧ tN = tB)) : SX tN tB tD fS kZ := by
  rcases q with ⟨-, -, rfl⟩ | ⟨-, -, rfl⟩
  · exact h
  · exact ⟨h.2.1, h.2⟩
theorem sm_row {tM : TA} {uP : UM} {h z a o h' o' z' : Nat → Int32} {e e' : Nat → Nat → Int64} {k : Nat} {x y c r : Int32} (q0 : SM tM uP z a k) (q : PMrow h o z e x y c r h' o' z' e') : SM tM uP z' a k := by
  rcases q with ⟨-, -, -, -, rfl, -⟩ | ⟨-, m, n, -, h2, -, -, -, -, -, rfl, -⟩
  · exact q0
  · exact ⟨q0.1, q0.2.1, sz_upd q0.2.2.1 h2 rfl, q0.2.2.2⟩
theorem sm_rule {tM : TA} {uP : UM} {h z a w h' w' a' : Nat → Int32} {k : Nat} {x y c r : Int32} (q0 : SM tM uP z a k) (q : PMrule h w a x y c r h' w' a') : SM tM uP z a' k := by
  rcases q with ⟨-, -, -, -, rfl⟩ | ⟨-, m, -, -, -, h5, -, -, rfl⟩
  · exact q0
  · obtain ⟨n, -, hn, rfl⟩ := iv_nI 0 99 (by decide +kernel) (by decide +kernel) h5
    exact ⟨q0.1, q0.2.1, q0.2.2.1, sz_upd q0.2.2.2.1 hn rfl, q0.2.2.2.2⟩
theorem sm_t {tM tN : TA} {uP : UM} {z a : Nat → Int32} {k : Nat} (q0 : SM tM uP z a k) (q : TI tN) : SM tN uP z a k := ⟨q, q0.2⟩
theorem sm_z {tM : TA} {uP : UM} {z a : Nat → Int32} {k n : Nat} (q0 : SM tM uP z a k) (q : n ≤ 250) : SM tM uP z a n := ⟨q0.1, q0.2.1, q0.2.2.1, q0.2.2.2.1, q⟩
theorem sm_town {tM tN : TA} {uP : UM} {z a : Nat → Int32} {k n : Nat} (q0 : SM tM uP z a k) (q : TI tN ∧ n = 0) : SM tN uP z a n := ⟨q.1, q0.2.1, q0.2.2.1, q0.2.2.2.1, by have := q.2; omega⟩
theorem sm_image {tM : TA} {uP uQ : UM} {z a : Nat → Int32} {k : Nat} {r : Int32} (q0 : SM tM uP z a k) (q : r = 1 ∧ isS uQ = true ∧ uT uQ = tM) : SM tM uQ z a k := ⟨q0.1, fun _ => by rw [q.2.2]; exact q0.1, q0.2.2⟩
theorem sm_back {tM tN : TA} {uP : UM} {z a : Nat → Int32} {k : Nat} {r : Int32} (q0 : SM tM uP z a k) (q : (isS uP = false ∧ r = -5 ∧ tN = tM) ∨ (isS uP = true ∧ r = 1 ∧ tN = uT uP)) : SM tN uP z a k := by
  rcases q with ⟨-, -, rfl⟩ | ⟨h1, -, rfl⟩
  · exact q0
  · exact ⟨q0.2.1 h1, q0.2⟩
theorem iv_n40 {n : Nat} (h : n ≤ 40) : Iv (nI n).toInt64 0 40 := ofI (m := 0) (n := 40) (by decide +kernel) (by decide +kernel) ⟨by rw [nI_toInt (by omega)]; omega, by rw [nI_toInt (by omega)]; omega⟩
theorem row_eq {h s h2 o z h' s' h2' o' z' : Nat → Int32} {e e' : Nat → Int64} {f f' : Nat → Nat → Int64} {a b c r r' : Int32} (q : PXrow h s e a b c r h' s' e') (q' : PMrow h2 o z f a b c r' h2' o' z' f') : r = r' := by
  rcases q with ⟨rfl, h1, -⟩ | ⟨rfl, k, n, h1, h2, rfl, rfl, h3, -⟩
  · rcases q' with ⟨rfl, -⟩ | ⟨-, k, n, g1, g2, rfl, rfl, g3, -⟩
    · rfl
    · exact absurd ⟨⟨k, g1, rfl⟩, g3, iv_n40 g2⟩ h1
  · rcases q' with ⟨-, g1, -⟩ | ⟨rfl, -⟩
    · exact absurd ⟨⟨k, h1, rfl⟩, h3, iv_n40 h2⟩ g1
    · rfl
/-! the shelves of both: what the calls on them answer and keep -/
theorem nI_eq8 {a b : Nat} (ha : a < 8) (hb : b < 8) (h : nI a = nI b) : a = b := nI_inj (by omega) (by omega) h
theorem rw_10 {x : Int32} (h : Rw x) : ¬ 10 ≤ x := fun q => h.2 (by
  rw [Int32.lt_iff_toInt_lt]
  rw [Int32.le_iff_toInt_le] at q
  have e1 : (10 : Int32).toInt = 10 := by decide +kernel
  have e2 : (4 : Int32).toInt = 4 := by decide +kernel
  omega)
theorem iv_16 {x : Int32} (h : Iv x.toInt64 1 6) : 10 ≤ 10 + x ∧ ¬ 10 + x = -1 := by
  rcases sw_1_6 x with rfl | rfl | rfl | rfl | rfl | rfl | h1
  · decide
  · decide
  · decide
  · decide
  · decide
  · decide
  · exfalso
    have := toI h (m := 1) (n := 6) (by decide +kernel) (by decide +kernel)
    omega
theorem iv_04 {x : Int32} (h : Iv x.toInt64 0 4) : Rw x := by
  have h1 := toI h (m := 0) (n := 4) (by decide +kernel) (by decide +kernel)
  have e2 : (4 : Int32).toInt = 4 := by decide +kernel
  have e0 : (0 : Int32).toInt = 0 := by decide +kernel
  exact ⟨fun q => by rw [Int32.lt_iff_toInt_lt] at q; omega, fun q => by rw [Int32.lt_iff_toInt_lt] at q; omega⟩
theorem sh_A {s : Nat} {fH fS fA : Nat → Int32} {gE : Nat → Int64} {fMh fMo fMz fMk fMa : Nat → Int32} {eR : Nat → Nat → Int64} (R : SH1 s fH fS fA gE fMh fMo fMz fMk fMa eR) : (10 ≤ fH s ↔ fMh s = 2) ∧ (Rw (fH s) ↔ fMh s = 1) ∧ (fH s = -1 ↔ fMh s = 0) ∧ (fMh s = 0 ∨ fMh s = 1 ∨ fMh s = 2) := by
  have n10 : ¬ (10 : Int32) ≤ -1 := by decide +kernel
  have nrw : ¬ Rw (-1) := fun q => q.1 (by decide +kernel)
  rcases R with ⟨h0, h1⟩ | ⟨h0, h1, h2, -⟩ | ⟨h0, h1, h2, -⟩
  · rw [h0, h1]
    exact ⟨⟨fun q => absurd q n10, fun q => absurd q (by decide +kernel)⟩, ⟨fun q => absurd q nrw, fun q => absurd q (by decide +kernel)⟩, ⟨fun _ => rfl, fun _ => rfl⟩, Or.inl rfl⟩
  · rw [h0]
    exact ⟨⟨fun q => absurd q (rw_10 h2), fun q => absurd q (by decide +kernel)⟩, ⟨fun _ => rfl, fun _ => h2⟩, ⟨fun q => by rw [q] at h2; exact absurd h2 nrw, fun q => absurd q (by decide +kernel)⟩, Or.inr (Or.inl rfl)⟩
  · rw [h0, h1]
    exact ⟨⟨fun _ => rfl, fun _ => (iv_16 h2).1⟩, ⟨fun q => absurd (iv_16 h2).1 (rw_10 q), fun q => absurd q (by decide +kernel)⟩, ⟨fun q => absurd q (iv_16 h2).2, fun q => absurd q (by decide +kernel)⟩, Or.inr (Or.inr rfl)⟩
theorem zr_hit (e : Nat → Int64) (k : Nat) : ∀ (n i : Nat), i < n → zrF e k n (k * 40 + i) = 0 := by
  intro n
  induction n with
  | zero => intro i h; exact absurd h (Nat.not_lt_zero _)
  | succ n ih =>
    intro i h
    show (if k * 40 + i = k * 40 + n then (0 : Int64) else zrF e k n (k * 40 + i)) = 0
    by_cases e1 : i = n
    · rw [if_pos (by omega)]
    · rw [if_neg (by omega)]
      exact ih i (by omega)
theorem zr_off (e : Nat → Int64) (k : Nat) : ∀ (n : Nat), n ≤ 40 → ∀ (s i : Nat), s ≠ k → i < 40 → zrF e k n (s * 40 + i) = e (s * 40 + i) := by
  intro n
  induction n with
  | zero => intro _ s i _ _; rfl
  | succ n ih =>
    intro hn s i hs hi
    show (if s * 40 + i = k * 40 + n then (0 : Int64) else zrF e k n (s * 40 + i)) = _
    rw [if_neg (by omega)]
    exact ih (by omega) s i hs hi
theorem zN_hit (e : Nat → Nat → Int64) (k : Nat) : ∀ (n i : Nat), i < n → zrN e k n k i = 0 := by
  intro n
  induction n with
  | zero => intro i h; exact absurd h (Nat.not_lt_zero _)
  | succ n ih =>
    intro i h
    show updN (zrN e k n) k n 0 k i = 0
    rw [un_u]
    show (if i = n then (0 : Int64) else zrN e k n k i) = 0
    by_cases e1 : i = n
    · rw [if_pos e1]
    · rw [if_neg e1]
      exact ih i (by omega)
theorem zN_off (e : Nat → Nat → Int64) (k : Nat) : ∀ (n s : Nat), s ≠ k → zrN e k n s = e s := by
  intro n
  induction n with
  | zero => intro s _; rfl
  | succ n ih =>
    intro s hs
    show updN (zrN e k n) k n 0 s = _
    rw [un_n hs]
    exact ih s hs
theorem up_s {f : Nat → Int32} {k : Nat} {v : Int32} : upd f k v k = v := if_pos rfl
theorem up_n {f : Nat → Int32} {k s : Nat} {v : Int32} (h : s ≠ k) : upd f k v s = f s := if_neg h
/-- an empty row, or a rule: at the shelf it is new, the others are as they were -/
theorem sh_off {s k : Nat} {fH fS fA : Nat → Int32} {gE gX : Nat → Int64} {fMh fMo fMz fMk fMa : Nat → Int32} {eR eN : Nat → Nat → Int64} {h1 h2 h3 m1 m2 m3 m4 m5 : Nat → Int32} (R : SH1 s fH fS fA gE fMh fMo fMz fMk fMa eR) (e1 : h1 s = fH s) (e2 : h2 s = fS s) (e3 : h3 s = fA s) (e4 : m1 s = fMh s) (e5 : m2 s = fMo s) (e6 : m3 s = fMz s) (e7 : m4 s = fMk s) (e8 : m5 s = fMa s) (e9 : ∀ i, i < 40 → gX (s * 40 + i) = gE (s * 40 + i)) (e10 : ∀ i, i < 40 → eN s i = eR s i) : SH1 s h1 h2 h3 gX m1 m2 m3 m4 m5 eN := by
  unfold SH1 at R ⊢
  rw [e1, e2, e3, e4, e5, e6, e7, e8]
  rcases R with h | ⟨a1, a2, a3, a4, a5⟩ | h
  · exact Or.inl h
  · refine Or.inr (Or.inl ⟨a1, a2, a3, a4, fun n i hn h40 hi => ?_⟩)
    rw [e9 i (by omega), e10 i (by omega)]
    exact a5 n i hn h40 hi
  · exact Or.inr (Or.inr h)
theorem row_k {fH fS fA fY fZ : Nat → Int32} {gE gX : Nat → Int64} {fMh fMo fMz fMk fMa fNh fNo fNz : Nat → Int32} {eR eN : Nat → Nat → Int64} {a b c r r' : Int32} (R : SHR fH fS fA gE fMh fMo fMz fMk fMa eR) (q : PXrow fH fS gE a b c r fY fZ gX) (q' : PMrow fMh fMo fMz eR a b c r' fNh fNo fNz eN) : SHR fY fZ fA gX fNh fNo fNz fMk fMa eN := by
  have e0 := row_eq q q'
  rcases q with ⟨rfl, -, rfl, rfl, rfl⟩ | ⟨rfl, k, n, h1, h2, rfl, rfl, h3, rfl, rfl, rfl⟩
  · rcases q' with ⟨-, -, rfl, rfl, rfl, rfl⟩ | ⟨rfl, -⟩
    · exact R
    · exact absurd e0 (by decide +kernel)
  · rcases q' with ⟨rfl, -⟩ | ⟨-, m, n', g1, g2, ea, en, -, rfl, rfl, rfl, rfl⟩
    · exact absurd e0 (by decide +kernel)
    · have := nI_eq8 h1 g1 ea
      subst this
      have := nI_inj (by omega) (by omega) en
      subst this
      intro s hs
      by_cases e : s = k
      · subst e
        refine Or.inr (Or.inl ⟨up_s, by rw [up_s, up_s], by rw [up_s]; exact iv_04 h3, by rw [up_s, up_s], fun n' i hn _ hi => ?_⟩)
        rw [up_s] at hn
        have := nI_inj (by omega) (by omega) hn
        subst this
        rw [zr_hit _ _ _ _ hi, zN_hit _ _ _ _ (by omega)]
      · exact sh_off (k := k) (R s hs) (up_n e) (up_n e) rfl (up_n e) (up_n e) (up_n e) rfl rfl (fun i hi => zr_off _ _ _ h2 _ _ e hi) (fun i _ => by rw [zN_off _ _ _ _ e])
theorem rule_k {fH fS fA fY fW : Nat → Int32} {gE : Nat → Int64} {fMh fMo fMz fMk fMa fNh fNk fNa : Nat → Int32} {eR : Nat → Nat → Int64} {a b c r r' : Int32} (R : SHR fH fS fA gE fMh fMo fMz fMk fMa eR) (q : PXrule fH fA a b c r fY fW) (q' : PMrule fMh fMk fMa a b c r' fNh fNk fNa) : r = r' ∧ SHR fY fS fW gE fNh fMo fMz fNk fNa eR := by
  rcases q with ⟨rfl, h0, rfl, rfl⟩ | ⟨rfl, k, h1, rfl, h2, h3, rfl, rfl⟩
  · rcases q' with ⟨rfl, -, rfl, rfl, rfl⟩ | ⟨-, k, h1, rfl, h2, h3, -⟩
    · exact ⟨rfl, R⟩
    · exact absurd ⟨⟨k, h1, rfl⟩, h2, h3⟩ h0
  · rcases q' with ⟨-, h0, -⟩ | ⟨rfl, m, g1, ea, -, -, rfl, rfl, rfl⟩
    · exact absurd ⟨⟨k, h1, rfl⟩, h2, h3⟩ h0
    · have := nI_eq8 h1 g1 ea
      subst this
      refine ⟨rfl, fun s hs => ?_⟩
      by_cases e : s = k
      · subst e
        exact Or.inr (Or.inr ⟨up_s, by rw [up_s, up_s], by rw [up_s]; exact h2, by rw [up_s, up_s]⟩)
      · exact sh_off (k := k) (R s hs) (up_n e) rfl (up_n e) (up_n e) rfl rfl (up_n e) (up_n e) (fun _ _ => rfl) (fun _ _ => rfl)
theorem lb_ft {x : Int32} (h : Rw x) (v : Int64) : zlb x v = zft x v := by
  rcases sw_0_4 x with rfl | rfl | rfl | rfl | rfl | h1
  · rfl
  · rfl
  · rfl
  · rfl
  · rfl
  · exfalso
    have e2 : (4 : Int32).toInt = 4 := by decide +kernel
    have e0 : (0 : Int32).toInt = 0 := by decide +kernel
    rcases h1 with h1 | h1
    · exact h.1 (by rw [Int32.lt_iff_toInt_lt]; omega)
    · exact h.2 (by rw [Int32.lt_iff_toInt_lt]; omega)
theorem set_k {fH fS fA : Nat → Int32} {gE gX : Nat → Int64} {fMh fMo fMz fMk fMa : Nat → Int32} {eR eN : Nat → Nat → Int64} {a b r r' : Int32} {v : Int64} (R : SHR fH fS fA gE fMh fMo fMz fMk fMa eR) (q : PXset fH fS gE a b v r gX) (q' : PMset fMh fMo fMz eR a b v r' eN) : r = r' ∧ SHR fH fS fA gX fMh fMo fMz fMk fMa eN := by
  by_cases hs : Sh a
  · obtain ⟨k, hk, rfl⟩ := hs
    obtain ⟨s1, s2, s3, s4⟩ := sh_A (R k hk)
    have hz : fMh k = 1 → fS k = fMz k := fun e => by
      rcases R k hk with ⟨h0, -⟩ | ⟨-, -, -, h1, -⟩ | ⟨h0, -⟩
      · rw [h0] at e; exact absurd e (by decide +kernel)
      · exact h1
      · rw [h0] at e; exact absurd e (by decide +kernel)
    rcases q with ⟨rfl, h0, rfl⟩ | ⟨rfl, ⟨m, hm, e, h0⟩, rfl⟩ | ⟨rfl, ⟨m, hm, e, h0, h1⟩, rfl⟩ | ⟨rfl, m, i, hm, e, h0, h1, hi, rfl, h2, rfl⟩
    · rcases h0 with h0 | ⟨m, hm, e, h0, h1, h2⟩
      · exact absurd ⟨k, hk, rfl⟩ h0
      · have := nI_eq8 hk hm e
        subst this
        have f1 := s2.mp h1
        rcases q' with ⟨rfl, -, rfl⟩ | ⟨rfl, ⟨m, hm, e, g0⟩, rfl⟩ | ⟨rfl, ⟨m, hm, e, g0, g1⟩, rfl⟩ | ⟨rfl, m, i, hm, e, g0, g1, hi, -, g2, -⟩
        · exact ⟨rfl, R⟩
        · have := nI_eq8 hk hm e
          subst this
          rw [f1] at g0; exact absurd g0 (by decide +kernel)
        · have := nI_eq8 hk hm e
          subst this
          rw [f1] at g1; exact absurd g1 (by decide +kernel)
        · have := nI_eq8 hk hm e
          subst this
          rw [← hz f1] at g2; exact absurd g2 h2
    · have := nI_eq8 hk hm e
      subst this
      have f1 := s1.mp h0
      rcases q' with ⟨rfl, g, rfl⟩ | ⟨rfl, -, rfl⟩ | ⟨rfl, ⟨m, hm, e, g0, g1⟩, rfl⟩ | ⟨rfl, m, i, hm, e, g0, g1, hi, -, g2, -⟩
      · rcases g with g | ⟨m, hm, e, g0, g1, g2⟩
        · exact absurd ⟨k, hk, rfl⟩ g
        · have := nI_eq8 hk hm e
          subst this
          exact absurd f1 g0
      · exact ⟨rfl, R⟩
      · have := nI_eq8 hk hm e
        subst this
        exact absurd f1 g0
      · have := nI_eq8 hk hm e
        subst this
        exact absurd f1 g0
    · have := nI_eq8 hk hm e
      subst this
      have f1 : fMh k = 0 := by
        rcases s4 with h | h | h
        · exact h
        · exact absurd (s2.mpr h) h1
        · exact absurd (s1.mpr h) h0
      rcases q' with ⟨rfl, g, rfl⟩ | ⟨rfl, ⟨m, hm, e, g0⟩, rfl⟩ | ⟨rfl, -, rfl⟩ | ⟨rfl, m, i, hm, e, g0, g1, hi, -, g2, -⟩
      · rcases g with g | ⟨m, hm, e, g0, g1, g2⟩
        · exact absurd ⟨k, hk, rfl⟩ g
        · have := nI_eq8 hk hm e
          subst this
          exact absurd f1 g1
      · have := nI_eq8 hk hm e
        subst this
        rw [f1] at g0; exact absurd g0 (by decide +kernel)
      · exact ⟨rfl, R⟩
      · have := nI_eq8 hk hm e
        subst this
        exact absurd f1 g1
    · have := nI_eq8 hk hm e
      subst this
      have f1 := s2.mp h1
      rcases q' with ⟨rfl, g, rfl⟩ | ⟨rfl, ⟨m, hm, e, g0⟩, rfl⟩ | ⟨rfl, ⟨m, hm, e, g0, g1⟩, rfl⟩ | ⟨rfl, m, j, hm, e, g0, g1, hj, ej, g2, rfl⟩
      · rcases g with g | ⟨m, hm, e, g0, g1, g2⟩
        · exact absurd ⟨k, hk, rfl⟩ g
        · have := nI_eq8 hk hm e
          subst this
          rw [← hz f1] at g2
          exact absurd h2 g2
      · have := nI_eq8 hk hm e
        subst this
        rw [f1] at g0; exact absurd g0 (by decide +kernel)
      · have := nI_eq8 hk hm e
        subst this
        rw [f1] at g1; exact absurd g1 (by decide +kernel)
      · have := nI_eq8 hk hm e
        subst this
        have := nI_inj (by omega) (by omega) ej
        subst this
        refine ⟨rfl, fun s hs => ?_⟩
        by_cases es : s = k
        · subst es
          rcases R s hs with ⟨x0, -⟩ | ⟨x1, x2, x3, x4, x5⟩ | ⟨x0, -⟩
          · rw [f1] at x0; exact absurd x0 (by decide +kernel)
          · refine Or.inr (Or.inl ⟨x1, x2, x3, x4, fun n y hn h40 hy => ?_⟩)
            rw [un_u]
            show (if s * 40 + y = s * 40 + i then zlb (fH s) v else gE (s * 40 + y)) = (if y = i then zft (fMo s) v else eR s y)
            by_cases ey : y = i
            · rw [if_pos (by omega), if_pos ey, ← x2]
              exact lb_ft x3 v
            · rw [if_neg (by omega), if_neg ey]
              exact x5 n y hn h40 hy
          · rw [f1] at x0; exact absurd x0 (by decide +kernel)
        · refine sh_off (k := k) (R s hs) rfl rfl rfl rfl rfl rfl rfl rfl (fun y hy => ?_) (fun y _ => by rw [un_n es])
          show (if s * 40 + y = k * 40 + i then zlb (fH k) v else gE (s * 40 + y)) = _
          rw [if_neg (by omega)]
  · rcases q with ⟨rfl, -, rfl⟩ | ⟨-, ⟨m, hm, e, -⟩, -⟩ | ⟨-, ⟨m, hm, e, -⟩, -⟩ | ⟨-, m, -, hm, e, -⟩
    · rcases q' with ⟨rfl, -, rfl⟩ | ⟨-, ⟨m, hm, e, -⟩, -⟩ | ⟨-, ⟨m, hm, e, -⟩, -⟩ | ⟨-, m, -, hm, e, -⟩
      · exact ⟨rfl, R⟩
      · exact absurd ⟨m, hm, e⟩ hs
      · exact absurd ⟨m, hm, e⟩ hs
      · exact absurd ⟨m, hm, e⟩ hs
    · exact absurd ⟨m, hm, e⟩ hs
    · exact absurd ⟨m, hm, e⟩ hs
    · exact absurd ⟨m, hm, e⟩ hs
theorem holds_eq {fH fS fA : Nat → Int32} {gE : Nat → Int64} {fMh fMo fMz fMk fMa : Nat → Int32} {eR : Nat → Nat → Int64} {a r r' : Int32} (R : SHR fH fS fA gE fMh fMo fMz fMk fMa eR) (q : PXholds fH a r) (q' : PMholds fMh fMo fMk a r') : r = r' := by
  rcases q with ⟨rfl, h0⟩ | ⟨k, hk, rfl, rfl⟩
  · rcases q' with ⟨rfl, -⟩ | ⟨m, hm, e, -⟩
    · rfl
    · exact absurd ⟨m, hm, e⟩ h0
  · rcases q' with ⟨-, h0⟩ | ⟨m, hm, e, h⟩
    · exact absurd ⟨k, hk, rfl⟩ h0
    · have := nI_eq8 hk hm e
      subst this
      rcases R k hk with ⟨x0, x1⟩ | ⟨x0, x1, -⟩ | ⟨x0, x1, -⟩ <;> rw [x0] at h <;> rcases h with ⟨y0, rfl⟩ | ⟨y0, rfl⟩ | ⟨y0, y1, rfl⟩
      · exact x1
      · exact absurd y0 (by decide +kernel)
      · exact absurd rfl y0
      · exact absurd y0 (by decide +kernel)
      · exact x1
      · exact absurd rfl y1
      · exact absurd y0 (by decide +kernel)
      · exact absurd y0 (by decide +kernel)
      · exact x1
theorem elem_eq {fH fS fA : Nat → Int32} {gE : Nat → Int64} {fMh fMo fMz fMk fMa : Nat → Int32} {eR : Nat → Nat → Int64} {a b : Int32} {r r' : Int64} (hSz : ∀ s, s < 8 → ∃ n : Nat, n ≤ 40 ∧ fS s = nI n) (R : SHR fH fS fA gE fMh fMo fMz fMk fMa eR) (q : PXelem fH fS gE a b r) (q' : PMelem fMh fMz eR a b r') : r = r' := by
  have key : ∀ k, k < 8 → (fMh k = 1 ↔ Rw (fH k)) ∧ (fMh k = 1 → fS k = fMz k) := fun k hk => by
    refine ⟨(sh_A (R k hk)).2.1.symm, fun e => ?_⟩
    rcases R k hk with ⟨h0, -⟩ | ⟨-, -, -, h1, -⟩ | ⟨h0, -⟩
    · rw [h0] at e; exact absurd e (by decide +kernel)
    · exact h1
    · rw [h0] at e; exact absurd e (by decide +kernel)
  rcases q with ⟨rfl, h0⟩ | ⟨k, i, hk, rfl, h0, h1, hi, rfl, h2, rfl⟩
  · rcases q' with ⟨rfl, -⟩ | ⟨k, i, hk, rfl, h1, hi, rfl, h2, rfl⟩
    · rfl
    · have f1 := (key k hk).1.mp h1
      exact absurd ⟨k, hk, rfl, rw_10 f1, f1, by rw [(key k hk).2 h1]; exact h2⟩ h0
  · have f1 := (key k hk).1.mpr h1
    rcases q' with ⟨rfl, h0⟩ | ⟨m, j, hm, e, h3, hj, ej, h4, rfl⟩
    · exact absurd ⟨k, hk, rfl, f1, by rw [← (key k hk).2 f1]; exact h2⟩ h0
    · have := nI_eq8 hk hm e
      subst this
      have := nI_inj (by omega) (by omega) ej
      subst this
      rcases R k hk with ⟨x0, -⟩ | ⟨x1, x2, x3, x4, x5⟩ | ⟨x0, -⟩
      · rw [f1] at x0; exact absurd x0 (by decide +kernel)
      · obtain ⟨n, hn, en⟩ := hSz k hk
        obtain ⟨i', hi', ei⟩ := sz_in en hn h2
        have := nI_inj (by omega) (by omega) ei
        subst this
        exact x5 n i en hn hi'
      · rw [f1] at x0; exact absurd x0 (by decide +kernel)
theorem feed_eq {z y z' w' : Nat} {n r r' : Int32} (hz : z = y) (q : PXfeed z n r z') (q' : PXfeed y n r' w') : r = r' ∧ z' = w' := by
  subst hz
  rcases q with ⟨rfl, h0, rfl⟩ | ⟨k, h1, h2, rfl, h3⟩
  · rcases q' with ⟨rfl, -, rfl⟩ | ⟨k, h1, h2, rfl, -⟩
    · exact ⟨rfl, rfl⟩
    · exact absurd (ofI (m := 1) (n := 4) (by decide +kernel) (by decide +kernel) ⟨by rw [nI_toInt (by omega)]; omega, by rw [nI_toInt (by omega)]; omega⟩) h0
  · rcases q' with ⟨rfl, h0, rfl⟩ | ⟨m, g1, g2, e, g3⟩
    · exact absurd (ofI (m := 1) (n := 4) (by decide +kernel) (by decide +kernel) ⟨by rw [nI_toInt (by omega)]; omega, by rw [nI_toInt (by omega)]; omega⟩) h0
    · have := nI_inj (by omega) (by omega) e
      subst this
      rcases h3 with ⟨rfl, a1, rfl⟩ | ⟨rfl, a1, rfl⟩ <;> rcases g3 with ⟨rfl, b1, rfl⟩ | ⟨rfl, b1, rfl⟩
      · exact ⟨rfl, rfl⟩
      · omega
      · omega
      · exact ⟨rfl, rfl⟩
theorem back_eq {iK r r' : Int32} {tA tB tN tM tN' : TA} {uP : UM} (h : iK = 0 ↔ isS uP = false) (q : (iK = 0 ∧ r = -5 ∧ tN = tA) ∨ (¬ iK = 0 ∧ r = 1 ∧ tN = tB)) (q' : (isS uP = false ∧ r' = -5 ∧ tN' = tM) ∨ (isS uP = true ∧ r' = 1 ∧ tN' = uT uP)) : r = r' := by
  rcases q with ⟨h1, rfl, -⟩ | ⟨h1, rfl, -⟩ <;> rcases q' with ⟨g1, rfl, -⟩ | ⟨g1, rfl, -⟩
  · rfl
  · rw [h.mp h1] at g1; cases g1
  · exact absurd (h.mpr g1) h1
  · rfl
theorem spn_to {i n m : Nat} (hm : m ≤ 40) (h : i + n ≤ m) : Spn (nI i) (nI n) (nI m) := by
  refine ⟨nI_pos (by omega), nI_pos (by omega), Int32.not_lt.mpr ((lg_cmp_le _ _).mpr ?_)⟩
  have e : (nI i).toInt64 + (nI n).toInt64 = (nI (i + n)).toInt64 := by
    apply Int64.toInt_inj.mp
    rw [Int64.toInt_add, Int32.toInt_toInt64, Int32.toInt_toInt64, Int32.toInt_toInt64, nI_toInt (by omega), nI_toInt (by omega), nI_toInt (by omega)]
    rw [Int.bmod_eq_of_le (by omega) (by omega)]
    omega
  rw [e, Int64.le_iff_toInt_le, Int32.toInt_toInt64, Int32.toInt_toInt64, nI_toInt (by omega), nI_toInt (by omega)]
  omega
theorem spm_iff {c d n : Int32} {a b : Nat} (ha : a ≤ 40) (hb : b ≤ 40) : SpM c d n (nI a) (nI b) ↔ (Spn c n (nI a) ∧ Spn d n (nI b)) := by
  constructor
  · rintro ⟨h1, h2, h3, h4, h5, h6, h7⟩
    obtain ⟨z, hz, rfl⟩ := nI_of h1
    obtain ⟨i, hi, rfl⟩ := nI_of h2
    obtain ⟨j, hj, rfl⟩ := nI_of h3
    rw [Int32.lt_iff_toInt_lt, nI_toInt (by omega), nI_toInt (by omega)] at h4 h5
    rw [Int32.lt_iff_toInt_lt, pk_sub_toInt (by omega) (by omega), nI_toInt (by omega)] at h6
    rw [Int32.le_iff_toInt_le, pk_sub_toInt (by omega) (by omega), nI_toInt (by omega)] at h7
    exact ⟨spn_to ha (by omega), spn_to hb (by omega)⟩
  · rintro ⟨h1, h2⟩
    obtain ⟨i, z, e1, rfl, rfl⟩ := spn_of rfl ha h1
    obtain ⟨j, w, e2, rfl, ew⟩ := spn_of rfl hb h2
    have := nI_inj (by omega) (by omega) ew
    subst this
    refine ⟨nI_pos (by omega), nI_pos (by omega), nI_pos (by omega), ?_, ?_, ?_, ?_⟩
    · rw [Int32.lt_iff_toInt_lt, nI_toInt (by omega), nI_toInt (by omega)]; omega
    · rw [Int32.lt_iff_toInt_lt, nI_toInt (by omega), nI_toInt (by omega)]; omega
    · rw [Int32.lt_iff_toInt_lt, pk_sub_toInt (by omega) (by omega), nI_toInt (by omega)]; omega
    · rw [Int32.le_iff_toInt_le, pk_sub_toInt (by omega) (by omega), nI_toInt (by omega)]; omega
theorem copy_k {fH fS fA : Nat → Int32} {gE gX : Nat → Int64} {fMh fMo fMz fMk fMa : Nat → Int32} {eR eN : Nat → Nat → Int64} {a b c d n r r' : Int32} (hSz : ∀ s, s < 8 → ∃ n : Nat, n ≤ 40 ∧ fS s = nI n) (R : SHR fH fS fA gE fMh fMo fMz fMk fMa eR) (q : PXcopy fH fS gE a b c d n r gX) (q' : PMcopy fMh fMo fMz eR a b c d n r' eN) : r = r' ∧ SHR fH fS fA gX fMh fMo fMz fMk fMa eN := by
  by_cases hs : ∃ k m : Nat, k < 8 ∧ m < 8 ∧ a = nI k ∧ b = nI m
  · obtain ⟨k, m, hk, hm, rfl, rfl⟩ := hs
    obtain ⟨s1, s2, s3, s4⟩ := sh_A (R k hk)
    obtain ⟨t1, t2, t3, t4⟩ := sh_A (R m hm)
    have row1 : ∀ s, s < 8 → fMh s = 1 → fH s = fMo s ∧ fS s = fMz s ∧ ∀ n i, fS s = nI n → n ≤ 40 → i < n → gE (s * 40 + i) = eR s i := fun s hs e => by
      rcases R s hs with ⟨h0, -⟩ | ⟨-, h1, -, h2, h3⟩ | ⟨h0, -⟩
      · rw [h0] at e; exact absurd e (by decide +kernel)
      · exact ⟨h1, h2, h3⟩
      · rw [h0] at e; exact absurd e (by decide +kernel)
    have un : ∀ {x y : Nat}, x < 8 → y < 8 → nI k = nI x → nI m = nI y → x = k ∧ y = m := fun hx hy e1 e2 => ⟨(nI_eq8 hk hx e1).symm, (nI_eq8 hm hy e2).symm⟩
    obtain ⟨zk, hzk, ezk⟩ := hSz k hk
    obtain ⟨zm, hzm, ezm⟩ := hSz m hm
    -- what the reference says, at these shelves
    have M : (r' = -2 ∧ fMh k = 1 ∧ fMh m = 1 ∧ fMo k = fMo m ∧ ¬ SpM c d n (fMz k) (fMz m) ∧ eN = eR) ∨ (r' = -3 ∧ (fMh k = 2 ∨ fMh m = 2 ∨ (fMh k = 1 ∧ fMh m = 1 ∧ ¬ fMo k = fMo m)) ∧ eN = eR) ∨ (r' = -4 ∧ ¬ fMh k = 2 ∧ ¬ fMh m = 2 ∧ (fMh k = 0 ∨ fMh m = 0) ∧ eN = eR) ∨ (r' = n ∧ fMh k = 1 ∧ fMh m = 1 ∧ fMo k = fMo m ∧ SpM c d n (fMz k) (fMz m) ∧ ∃ i j x : Nat, c = nI i ∧ d = nI j ∧ n = nI x ∧ i + x ≤ 40 ∧ j + x ≤ 40 ∧ ∀ s y, eN s y = if s = m ∧ j ≤ y ∧ y < j + x then eR k (i + (y - j)) else eR s y) := by
      have one : ∀ s, (fMh s = 0 ∨ fMh s = 1 ∨ fMh s = 2) → ¬ fMh s = 2 → ¬ fMh s = 0 → fMh s = 1 := fun s h g1 g2 => by
        rcases h with h | h | h
        · exact absurd h g2
        · exact h
        · exact absurd h g1
      rcases q' with ⟨e, g, e2⟩ | ⟨e, ⟨x, y, hx, hy, ex, ey, g⟩, e2⟩ | ⟨e, ⟨x, y, hx, hy, ex, ey, g⟩, e2⟩ | ⟨e, x, y, i, j, z, hx, hy, ex, ey, g1, g2, g3, g4, g5, g6, g7, g8, gb1, gb2, g9, g10⟩
      · rcases g with g | ⟨x, y, hx, hy, ex, ey, g1, g2, g3, g4, g5, g6⟩
        · exact absurd ⟨k, m, hk, hm, rfl, rfl⟩ g
        · obtain ⟨rfl, rfl⟩ := un hx hy ex ey
          have f1 := one _ s4 g1 g3
          have f2 := one _ t4 g2 g4
          exact Or.inl ⟨e, f1, f2, g5 f1 f2, g6, e2⟩
      · obtain ⟨rfl, rfl⟩ := un hx hy ex ey
        exact Or.inr (Or.inl ⟨e, g, e2⟩)
      · obtain ⟨rfl, rfl⟩ := un hx hy ex ey
        exact Or.inr (Or.inr (Or.inl ⟨e, g.1, g.2.1, g.2.2, e2⟩))
      · obtain ⟨rfl, rfl⟩ := un hx hy ex ey
        have f1 := one _ s4 g1 g3
        have f2 := one _ t4 g2 g4
        exact Or.inr (Or.inr (Or.inr ⟨e, f1, f2, g5 f1 f2, g9, i, j, z, g6, g7, g8, gb1, gb2, g10⟩))
    have X : (r = -2 ∧ fMh k = 1 ∧ fMh m = 1 ∧ fMo k = fMo m ∧ ¬ SpM c d n (fMz k) (fMz m) ∧ gX = gE) ∨ (r = -3 ∧ (fMh k = 2 ∨ fMh m = 2 ∨ (fMh k = 1 ∧ fMh m = 1 ∧ ¬ fMo k = fMo m)) ∧ gX = gE) ∨ (r = -4 ∧ ¬ fMh k = 2 ∧ ¬ fMh m = 2 ∧ (fMh k = 0 ∨ fMh m = 0) ∧ gX = gE) ∨ (r = n ∧ fMh k = 1 ∧ fMh m = 1 ∧ fMo k = fMo m ∧ SpM c d n (fMz k) (fMz m) ∧ ∃ i j x : Nat, c = nI i ∧ d = nI j ∧ n = nI x ∧ i + x ≤ 40 ∧ j + x ≤ 40 ∧ gX = va_cpy gE gE (k * 40 + i) (m * 40 + j) x) := by
      have zero : ∀ s, (fMh s = 0 ∨ fMh s = 1 ∨ fMh s = 2) → ¬ fMh s = 1 → ¬ fMh s = 2 → fMh s = 0 := fun s h g1 g2 => by
        rcases h with h | h | h
        · exact h
        · exact absurd h g1
        · exact absurd h g2
      have spe : fMh k = 1 → fMh m = 1 → (SpM c d n (fMz k) (fMz m) ↔ (Spn c n (fS k) ∧ Spn d n (fS m))) := fun f1 f2 => by
        rw [← (row1 k hk f1).2.1, ← (row1 m hm f2).2.1, ezk, ezm]
        exact spm_iff hzk hzm
      rcases q with ⟨e, g, e2⟩ | ⟨e, ⟨x, y, hx, hy, ex, ey, g⟩, e2⟩ | ⟨e, ⟨x, y, hx, hy, ex, ey, g⟩, e2⟩ | ⟨e, x, y, i, j, z, hx, hy, ex, ey, g1, g2, g3, g4, g5, g6, g7, g8, g9, g10, g11⟩
      · rcases g with g | ⟨x, y, hx, hy, ex, ey, g1, g2, g3, g4⟩
        · exact absurd ⟨k, m, hk, hm, rfl, rfl⟩ g
        · obtain ⟨rfl, rfl⟩ := un hx hy ex ey
          have f1 := s2.mp g1
          have f2 := t2.mp g2
          exact Or.inl ⟨e, f1, f2, by rw [← (row1 _ hk f1).1, ← (row1 _ hm f2).1]; exact g3, fun h => g4 ((spe f1 f2).mp h), e2⟩
      · obtain ⟨rfl, rfl⟩ := un hx hy ex ey
        refine Or.inr (Or.inl ⟨e, ?_, e2⟩)
        rcases g with g | g | ⟨g1, g2, g3⟩
        · exact Or.inl (s1.mp g)
        · exact Or.inr (Or.inl (t1.mp g))
        · have f1 := s2.mp g1
          have f2 := t2.mp g2
          exact Or.inr (Or.inr ⟨f1, f2, by rw [← (row1 _ hk f1).1, ← (row1 _ hm f2).1]; exact g3⟩)
      · obtain ⟨rfl, rfl⟩ := un hx hy ex ey
        have f1 : ¬ fMh x = 2 := fun h => g.1 (s1.mpr h)
        have f2 : ¬ fMh y = 2 := fun h => g.2.1 (t1.mpr h)
        refine Or.inr (Or.inr (Or.inl ⟨e, f1, f2, ?_, e2⟩))
        rcases g.2.2 with g3 | g3
        · exact Or.inl (zero _ s4 (fun h => g3 (s2.mpr h)) f1)
        · exact Or.inr (zero _ t4 (fun h => g3 (t2.mpr h)) f2)
      · obtain ⟨rfl, rfl⟩ := un hx hy ex ey
        have f1 := s2.mp g1
        have f2 := t2.mp g2
        exact Or.inr (Or.inr (Or.inr ⟨e, f1, f2, by rw [← (row1 _ hk f1).1, ← (row1 _ hm f2).1]; exact g3, (spe f1 f2).mpr ⟨g4, g5⟩, i, j, z, g6, g7, g8, g9, g10, g11⟩))
    rcases X with ⟨e, a1, a2, a3, a4, e2⟩ | ⟨e, a1, e2⟩ | ⟨e, a1, a2, a3, e2⟩ | ⟨e, a1, a2, a3, a4, i, j, x, ei, ej, ex, hi, hj, e2⟩ <;> rcases M with ⟨f, b1, b2, b3, b4, f2⟩ | ⟨f, b1, f2⟩ | ⟨f, b1, b2, b3, f2⟩ | ⟨f, b1, b2, b3, b4, i', j', x', fi, fj, fx, fb1, fb2, f2⟩
    · exact ⟨e.trans f.symm, by rw [e2, f2]; exact R⟩
    · exfalso
      rw [a1, a2] at b1
      rcases b1 with b1 | b1 | b1
      · exact absurd b1 (by decide +kernel)
      · exact absurd b1 (by decide +kernel)
      · exact b1.2.2 a3
    · exfalso
      rw [a1, a2] at b3
      rcases b3 with b3 | b3 <;> exact absurd b3 (by decide +kernel)
    · exact absurd b4 a4
    · exfalso
      rw [b1, b2] at a1
      rcases a1 with b | b | b
      · exact absurd b (by decide +kernel)
      · exact absurd b (by decide +kernel)
      · exact b.2.2 b3
    · exact ⟨e.trans f.symm, by rw [e2, f2]; exact R⟩
    · exfalso
      rcases a1 with b | b | b
      · exact b1 b
      · exact b2 b
      · rw [b.1, b.2.1] at b3
        rcases b3 with b3 | b3 <;> exact absurd b3 (by decide +kernel)
    · exfalso
      rw [b1, b2] at a1
      rcases a1 with b | b | b
      · exact absurd b (by decide +kernel)
      · exact absurd b (by decide +kernel)
      · exact b.2.2 b3
    · exfalso
      rw [b1, b2] at a3
      rcases a3 with b | b <;> exact absurd b (by decide +kernel)
    · exfalso
      rcases b1 with b | b | b
      · exact a1 b
      · exact a2 b
      · rw [b.1, b.2.1] at a3
        rcases a3 with b | b <;> exact absurd b (by decide +kernel)
    · exact ⟨e.trans f.symm, by rw [e2, f2]; exact R⟩
    · exfalso
      rw [b1, b2] at a3
      rcases a3 with b | b <;> exact absurd b (by decide +kernel)
    · exact absurd a4 b4
    · exfalso
      rw [a1, a2] at b1
      rcases b1 with b | b | b
      · exact absurd b (by decide +kernel)
      · exact absurd b (by decide +kernel)
      · exact b.2.2 a3
    · exfalso
      rw [a1, a2] at b3
      rcases b3 with b | b <;> exact absurd b (by decide +kernel)
    · refine ⟨e.trans f.symm, fun s hs => ?_⟩
      obtain ⟨sp1, sp2⟩ := (spm_iff hzk hzm).mp (by rw [← ezk, ← ezm, (row1 k hk a1).2.1, (row1 m hm a2).2.1]; exact a4)
      obtain ⟨u1, v1, w1, eu1, ev1⟩ := spn_of rfl hzk sp1
      obtain ⟨u2, v2, w2, eu2, ev2⟩ := spn_of rfl hzm sp2
      subst ei ej ex
      have q1 := nI_inj (by omega) (by omega) eu1
      have q2 := nI_inj (by omega) (by omega) ev1
      have q3 := nI_inj (by omega) (by omega) eu2
      have q4 := nI_inj (by omega) (by omega) ev2
      have q5 := nI_inj (by omega) (by omega) fi
      have q6 := nI_inj (by omega) (by omega) fj
      have q7 := nI_inj (by omega) (by omega) fx
      subst q1 q2 q3 q4 q5 q6 q7
      subst e2
      by_cases es : s = m
      · subst es
        rcases R s hs with ⟨x0, -⟩ | ⟨x1, x2, x3, x4, x5⟩ | ⟨x0, -⟩
        · rw [a2] at x0; exact absurd x0 (by decide +kernel)
        · refine Or.inr (Or.inl ⟨x1, x2, x3, x4, fun n' y hn' h40 hy => ?_⟩)
          have q8 : n' = zm := nI_inj (by omega) (by omega) (hn'.symm.trans ezm)
          subst q8
          rw [f2]
          show (if s * 40 + j ≤ s * 40 + y ∧ s * 40 + y < s * 40 + j + x then gE (k * 40 + i + (s * 40 + y - (s * 40 + j))) else gE (s * 40 + y)) = _
          by_cases c1 : j ≤ y ∧ y < j + x
          · rw [if_pos (by omega), if_pos ⟨rfl, c1⟩, show k * 40 + i + (s * 40 + y - (s * 40 + j)) = k * 40 + (i + (y - j)) by omega]
            exact (row1 k hk a1).2.2 zk (i + (y - j)) ezk hzk (by omega)
          · rw [if_neg (by omega), if_neg (fun q => c1 q.2)]
            exact x5 n' y hn' h40 hy
        · rw [a2] at x0; exact absurd x0 (by decide +kernel)
      · refine sh_off (k := k) (R s hs) rfl rfl rfl rfl rfl rfl rfl rfl (fun y hy => ?_) (fun y _ => ?_)
        · show (if m * 40 + j ≤ s * 40 + y ∧ s * 40 + y < m * 40 + j + x then gE (k * 40 + i + (s * 40 + y - (m * 40 + j))) else gE (s * 40 + y)) = _
          rw [if_neg (by omega)]
        · rw [f2, if_neg (fun q => es q.1)]
  · rcases q with ⟨rfl, -, rfl⟩ | ⟨-, ⟨x, y, hx, hy, ex, ey, -⟩, -⟩ | ⟨-, ⟨x, y, hx, hy, ex, ey, -⟩, -⟩ | ⟨-, x, y, i, j, z, hx, hy, ex, ey, -⟩
    · rcases q' with ⟨rfl, -, rfl⟩ | ⟨-, ⟨x, y, hx, hy, ex, ey, -⟩, -⟩ | ⟨-, ⟨x, y, hx, hy, ex, ey, -⟩, -⟩ | ⟨-, x, y, i, j, z, hx, hy, ex, ey, -⟩
      · exact ⟨rfl, R⟩
      · exact absurd ⟨x, y, hx, hy, ex, ey⟩ hs
      · exact absurd ⟨x, y, hx, hy, ex, ey⟩ hs
      · exact absurd ⟨x, y, hx, hy, ex, ey⟩ hs
    · exact absurd ⟨x, y, hx, hy, ex, ey⟩ hs
    · exact absurd ⟨x, y, hx, hy, ex, ey⟩ hs
    · exact absurd ⟨x, y, hx, hy, ex, ey⟩ hs
theorem lcmp_0 {x y : Int64} (h : x = y) : lg_cmp x y = 0 := by
  subst h
  have h1 := (lg_cmp_le x x).mpr (Int64.le_refl x)
  have h2 := (lg_cmp_ge x x).mpr (Int64.le_refl x)
  rw [Int32.le_iff_toInt_le] at h1 h2
  have e0 : (0 : Int32).toInt = 0 := by decide +kernel
  exact eqI (n := 0) (by decide +kernel) (by omega)
theorem exk {P : Nat → Prop} {k : Nat} (hk : k < 8) (h : ∃ k' : Nat, k' < 8 ∧ nI k = nI k' ∧ P k') : P k := by
  obtain ⟨k', h1, h2, h3⟩ := h
  rw [nI_eq8 hk h1 h2]
  exact h3
theorem rem4 : ∀ m, m < 11 → nI (4 * m) - nI (4 * m) / 4 * 4 = 0 := by decide +kernel
theorem iv0_of {x z : Int32} (h0 : ¬ x < 0) (h : x ≤ z) : Iv x.toInt64 0 z.toInt64 := by
  rw [Iv_iff, Int64.le_iff_toInt_le, Int64.le_iff_toInt_le, Int32.toInt_toInt64, Int32.toInt_toInt64]
  have h0 := Int32.not_lt.mp h0
  rw [Int32.le_iff_toInt_le] at h0 h
  exact ⟨h0, h⟩
theorem iv0_to {x z : Int32} (h : Iv x.toInt64 0 z.toInt64) : ¬ x < 0 ∧ x ≤ z := by
  obtain ⟨h1, h2⟩ := Iv_iff.mp h
  rw [Int64.le_iff_toInt_le, Int32.toInt_toInt64] at h1 h2
  rw [Int32.toInt_toInt64] at h2
  exact ⟨Int32.not_lt.mpr (Int32.le_iff_toInt_le.mpr h1), Int32.le_iff_toInt_le.mpr h2⟩
section SHK
variable {fH fS fA : Nat → Int32} {gE : Nat → Int64} {fMh fMo fMz fMk fMa : Nat → Int32} {eR : Nat → Nat → Int64}
theorem sh_0 {s : Nat} (R : SH1 s fH fS fA gE fMh fMo fMz fMk fMa eR) (h1 : ¬ fMh s = 1) (h2 : ¬ fMh s = 2) : fMh s = 0 := by
  rcases R with q | q | q
  · exact q.1
  · exact absurd q.1 h1
  · exact absurd q.1 h2
theorem sh_1 {s : Nat} (R : SH1 s fH fS fA gE fMh fMo fMz fMk fMa eR) (h : fMh s = 1) : fS s = fMz s ∧ ∀ n i : Nat, fS s = nI n → n ≤ 40 → i < n → gE (s * 40 + i) = eR s i := by
  rcases R with q | q | q
  · rw [q.1] at h; exact absurd h (by decide +kernel)
  · exact q.2.2.2
  · rw [q.1] at h; exact absurd h (by decide +kernel)
theorem sh_2 {s : Nat} (R : SH1 s fH fS fA gE fMh fMo fMz fMk fMa eR) (h : fMh s = 2) : fH s = 10 + fMk s ∧ Iv (fMk s).toInt64 1 6 ∧ fA s = fMa s := by
  rcases R with q | q | q
  · rw [q.1] at h; exact absurd h (by decide +kernel)
  · rw [q.1] at h; exact absurd h (by decide +kernel)
  · exact q.2
theorem sh_n {s : Nat} (R : SH1 s fH fS fA gE fMh fMo fMz fMk fMa eR) (h1 : ¬ fMh s = 1) (h0 : ¬ fMh s = 0) : fMh s = 2 := by
  rcases R with q | q | q
  · exact absurd q.1 h0
  · exact absurd q.1 h1
  · exact q.1
theorem shr_mk (R : SHR fH fS fA gE fMh fMo fMz fMk fMa eR) : ∀ s, s < 8 → ¬ fMh s = 1 → ¬ fMh s = 0 → Iv (fMk s).toInt64 1 6 := fun s hs h1 h0 => (sh_2 (R s hs) (sh_n (R s hs) h1 h0)).2.1
theorem ones_k {tA tM t1 t2 : TA} {a n r r' : Int32} (hSz : ∀ s, s < 8 → ∃ n : Nat, n ≤ 40 ∧ fS s = nI n) (R : SHR fH fS fA gE fMh fMo fMz fMk fMa eR) (e : tA = tM) (h1 : PXones fH fS gE tA a n r t1) (h2 : PMones fMh fMz eR tM a n r' t2) : r = r' ∧ t1 = t2 := by
  subst e
  by_cases hs : Sh a
  · obtain ⟨k, hk, rfl⟩ := hs
    have R1 := R k hk
    have s1 := (sh_A R1).1
    have s2 := (sh_A R1).2.1
    have A1 : ∀ {P : Prop}, fMh k = 1 → fMh k = 2 → P := fun h h' => absurd (h.symm.trans h') (by decide +kernel)
    have A2 : ∀ {P : Prop}, fMh k = 1 → fMh k = 0 → P := fun h h' => absurd (h.symm.trans h') (by decide +kernel)
    have A3 : ∀ {P : Prop}, fMh k = 2 → fMh k = 0 → P := fun h h' => absurd (h.symm.trans h') (by decide +kernel)
    rcases h1 with ⟨e1, c1, f1⟩ | ⟨e1, c1, f1⟩ | ⟨e1, c1, f1⟩ | ⟨k', m, hk', ek, n10, hr, en, hm, iv, eq1⟩
    · have c1 := exk (P := fun k => ¬ 10 ≤ fH k ∧ Rw (fH k) ∧ (¬ Iv n.toInt64 0 (fS k).toInt64 ∨ ¬ n - n / 4 * 4 = 0)) hk (c1.resolve_left (fun q => q ⟨k, hk, rfl⟩))
      have m1 := s2.mp c1.2.1
      rcases h2 with ⟨e2, c2, f2⟩ | ⟨e2, c2, f2⟩ | ⟨e2, c2, f2⟩ | ⟨k2, m2, hk2, ek2, p1, p2, en2, hm2, le2, eq2⟩
      · exact ⟨e1.trans e2.symm, f1.trans f2.symm⟩
      · exact A1 m1 (exk (P := fun k => fMh k = 2) hk c2)
      · exact A2 m1 (exk (P := fun k => ¬ fMh k = 2 ∧ fMh k = 0) hk c2).2
      · exfalso
        have q := nI_eq8 hk hk2 ek2
        subst q
        rcases c1.2.2 with q | q
        · exact q (by rw [(sh_1 R1 m1).1]; exact iv0_of (by rw [en2]; exact nI_pos (by omega)) le2)
        · exact q (by rw [en2]; exact rem4 m2 (by omega))
    · have m1 := s1.mp (exk (P := fun k => 10 ≤ fH k) hk c1)
      rcases h2 with ⟨e2, c2, f2⟩ | ⟨e2, c2, f2⟩ | ⟨e2, c2, f2⟩ | ⟨k2, m2, hk2, ek2, p1, p2, en2, hm2, le2, eq2⟩
      · have c2 := exk (P := fun k => ¬ fMh k = 2 ∧ ¬ fMh k = 0 ∧ (n < 0 ∨ ¬ n - n / 4 * 4 = 0 ∨ ¬ n ≤ fMz k)) hk (c2.resolve_left (fun q => q ⟨k, hk, rfl⟩))
        exact absurd m1 c2.1
      · exact ⟨e1.trans e2.symm, f1.trans f2.symm⟩
      · exact A3 m1 (exk (P := fun k => ¬ fMh k = 2 ∧ fMh k = 0) hk c2).2
      · have q := nI_eq8 hk hk2 ek2
        subst q
        exact absurd m1 p1
    · have c1 := exk (P := fun k => ¬ 10 ≤ fH k ∧ ¬ Rw (fH k)) hk c1
      have m1 := sh_0 R1 (fun q => c1.2 (s2.mpr q)) (fun q => c1.1 (s1.mpr q))
      rcases h2 with ⟨e2, c2, f2⟩ | ⟨e2, c2, f2⟩ | ⟨e2, c2, f2⟩ | ⟨k2, m2, hk2, ek2, p1, p2, en2, hm2, le2, eq2⟩
      · have c2 := exk (P := fun k => ¬ fMh k = 2 ∧ ¬ fMh k = 0 ∧ (n < 0 ∨ ¬ n - n / 4 * 4 = 0 ∨ ¬ n ≤ fMz k)) hk (c2.resolve_left (fun q => q ⟨k, hk, rfl⟩))
        exact absurd m1 c2.2.1
      · exact A3 (exk (P := fun k => fMh k = 2) hk c2) m1
      · exact ⟨e1.trans e2.symm, f1.trans f2.symm⟩
      · have q := nI_eq8 hk hk2 ek2
        subst q
        exact absurd m1 p2
    · have q := nI_eq8 hk hk' ek
      subst q
      have m1 := s2.mp hr
      obtain ⟨i1, i2⟩ := iv0_to iv
      rcases h2 with ⟨e2, c2, f2⟩ | ⟨e2, c2, f2⟩ | ⟨e2, c2, f2⟩ | ⟨k2, m2, hk2, ek2, p1, p2, en2, hm2, le2, eq2⟩
      · have c2 := exk (P := fun k => ¬ fMh k = 2 ∧ ¬ fMh k = 0 ∧ (n < 0 ∨ ¬ n - n / 4 * 4 = 0 ∨ ¬ n ≤ fMz k)) hk (c2.resolve_left (fun q => q ⟨k, hk, rfl⟩))
        exfalso
        rcases c2.2.2 with q | q | q
        · exact i1 q
        · exact q (by rw [en]; exact rem4 m (by omega))
        · exact q (by rw [← (sh_1 R1 m1).1]; exact i2)
      · exact A1 m1 (exk (P := fun k => fMh k = 2) hk c2)
      · exact A2 m1 (exk (P := fun k => ¬ fMh k = 2 ∧ fMh k = 0) hk c2).2
      · have q := nI_eq8 hk hk2 ek2
        subst q
        have q : 4 * m = 4 * m2 := nI_inj (by omega) (by omega) (en.symm.trans en2)
        have q : m = m2 := by omega
        subst q
        obtain ⟨z, hz, ez⟩ := hSz k hk
        have hzm : 4 * m ≤ z := by
          rw [en, ez, Int32.le_iff_toInt_le, nI_toInt (by omega), nI_toInt (by omega)] at i2
          omega
        have ec : onG (fun i => gE (k * 40 + i)) m 0 tA 0 = onG (eR k) m 0 tA 0 := on_cong m 0 tA 0 (fun j _ h2 => (sh_1 R1 m1).2 z j ez hz (by omega))
        have q := Prod.mk.inj (eq1.trans (ec.trans eq2.symm))
        exact ⟨q.2, q.1⟩
  · rcases h1 with ⟨e1, c1, f1⟩ | ⟨e1, ⟨k, h, ek, _⟩, f1⟩ | ⟨e1, ⟨k, h, ek, _⟩, f1⟩ | ⟨k, m, h, ek, _⟩
    · rcases h2 with ⟨e2, c2, f2⟩ | ⟨e2, ⟨k, h, ek, _⟩, f2⟩ | ⟨e2, ⟨k, h, ek, _⟩, f2⟩ | ⟨k, m, h, ek, _⟩
      · exact ⟨e1.trans e2.symm, f1.trans f2.symm⟩
      all_goals exact absurd ⟨k, h, ek⟩ hs
    all_goals exact absurd ⟨k, h, ek⟩ hs
theorem years_k {tA tM t1 t2 : TA} {a n r r' : Int32} (R : SHR fH fS fA gE fMh fMo fMz fMk fMa eR) (e : tA = tM) (h1 : PXyears fH fA tA a n r t1) (h2 : PMyears fMh fMk fMa tM a n r' t2) : r = r' ∧ t1 = t2 := by
  subst e
  by_cases hn : Iv n.toInt64 1 20
  · by_cases hs : Sh a
    · obtain ⟨k, hk, rfl⟩ := hs
      have R1 := R k hk
      have s1 := (sh_A R1).1
      have s2 := (sh_A R1).2.1
      have hsh : Sh (nI k) := ⟨k, hk, rfl⟩
      rcases h1 with ⟨e1, c1, f1⟩ | ⟨e1, _, c1, f1⟩ | ⟨e1, _, c1, f1⟩ | ⟨k', m, hk', ek, nr, h10, _, hm, en, eq1⟩
      · exact (c1.elim (fun q => absurd hn q) (fun q => absurd hsh q))
      · have m1 := s2.mp (exk (P := fun k => Rw (fH k)) hk c1)
        rcases h2 with ⟨e2, c2, f2⟩ | ⟨e2, _, c2, f2⟩ | ⟨e2, _, c2, f2⟩ | ⟨k2, m2, hk2, ek2, p1, p2, _, hm2, en2, eq2⟩
        · exact (c2.elim (fun q => absurd hsh q) (fun q => absurd hn q))
        · exact ⟨e1.trans e2.symm, f1.trans f2.symm⟩
        · exact absurd m1 (exk (P := fun k => ¬ fMh k = 1 ∧ fMh k = 0) hk c2).1
        · have q := nI_eq8 hk hk2 ek2
          subst q
          exact absurd m1 p1
      · have c1 := exk (P := fun k => ¬ Rw (fH k) ∧ ¬ 10 ≤ fH k) hk c1
        have m1 := sh_0 R1 (fun q => c1.1 (s2.mpr q)) (fun q => c1.2 (s1.mpr q))
        rcases h2 with ⟨e2, c2, f2⟩ | ⟨e2, _, c2, f2⟩ | ⟨e2, _, c2, f2⟩ | ⟨k2, m2, hk2, ek2, p1, p2, _, hm2, en2, eq2⟩
        · exact (c2.elim (fun q => absurd hsh q) (fun q => absurd hn q))
        · exact absurd (m1.symm.trans (exk (P := fun k => fMh k = 1) hk c2)) (by decide +kernel)
        · exact ⟨e1.trans e2.symm, f1.trans f2.symm⟩
        · have q := nI_eq8 hk hk2 ek2
          subst q
          exact absurd m1 p2
      · have q := nI_eq8 hk hk' ek
        subst q
        have m1 := s1.mp h10
        rcases h2 with ⟨e2, c2, f2⟩ | ⟨e2, _, c2, f2⟩ | ⟨e2, _, c2, f2⟩ | ⟨k2, m2, hk2, ek2, p1, p2, _, hm2, en2, eq2⟩
        · exact (c2.elim (fun q => absurd hsh q) (fun q => absurd hn q))
        · exact absurd (m1.symm.trans (exk (P := fun k => fMh k = 1) hk c2)) (by decide +kernel)
        · exact absurd (m1.symm.trans (exk (P := fun k => ¬ fMh k = 1 ∧ fMh k = 0) hk c2).2) (by decide +kernel)
        · have q := nI_eq8 hk hk2 ek2
          subst q
          have q : m = m2 := nI_inj (by omega) (by omega) (en.symm.trans en2)
          subst q
          obtain ⟨z1, _, z3⟩ := sh_2 R1 m1
          have ek : fH k - 10 = fMk k := by rw [z1, Int32.add_comm, Int32.add_sub_cancel]
          rw [ek, z3] at eq1
          have q := Prod.mk.inj (eq1.trans eq2.symm)
          exact ⟨q.2, q.1⟩
    · rcases h1 with ⟨e1, c1, f1⟩ | ⟨e1, _, ⟨k, h, ek, _⟩, f1⟩ | ⟨e1, _, ⟨k, h, ek, _⟩, f1⟩ | ⟨k, m, h, ek, _⟩
      · rcases h2 with ⟨e2, c2, f2⟩ | ⟨e2, _, ⟨k, h, ek, _⟩, f2⟩ | ⟨e2, _, ⟨k, h, ek, _⟩, f2⟩ | ⟨k, m, h, ek, _⟩
        · exact ⟨e1.trans e2.symm, f1.trans f2.symm⟩
        all_goals exact absurd ⟨k, h, ek⟩ hs
      all_goals exact absurd ⟨k, h, ek⟩ hs
  · have n20 : ∀ m : Nat, 1 ≤ m → m ≤ 20 → ¬ n = nI m := fun m h1 h2 q => hn (by
      rw [q]
      exact ofI (m := 1) (n := 20) (by decide +kernel) (by decide +kernel) ⟨by rw [nI_toInt (by omega)]; omega, by rw [nI_toInt (by omega)]; omega⟩)
    rcases h1 with ⟨e1, c1, f1⟩ | ⟨e1, q, _⟩ | ⟨e1, q, _⟩ | ⟨k, m, _, _, _, _, u1, u2, en, _⟩
    · rcases h2 with ⟨e2, c2, f2⟩ | ⟨e2, q, _⟩ | ⟨e2, q, _⟩ | ⟨k, m, _, _, _, _, u1, u2, en, _⟩
      · exact ⟨e1.trans e2.symm, f1.trans f2.symm⟩
      · exact absurd q hn
      · exact absurd q hn
      · exact absurd en (n20 m u1 u2)
    · exact absurd q hn
    · exact absurd q hn
    · exact absurd en (n20 m u1 u2)
end SHK
section TW2
variable {tA tB tM tN tN' : TA} {fB fMt fB' fM' : Nat → Int32} {kZ kY z1 y1 : Nat} {uP uQ : UM} {v n r r' iK : Int32}
theorem fd_rel2 (hz : kZ = kY) (hz1 : z1 = y1) (h1 : FD fB kZ v n z1 fB') (h2 : FD fMt kY v n y1 fM') (h : nbf fB kZ = nbf fMt kY) : nbf fB' z1 = nbf fM' y1 := by
  subst hz
  subst hz1
  exact fd_rel h1 h2 h
theorem town_k2 (hz : kZ = kY) (h : nbf fB kZ = nbf fMt kY) (e : tA = tM) (h1 : PXtown (pall (nbf fB kZ) kZ tA) tA r tN) (h2 : PXtown (pall (nbf fMt kY) kY tM) tM r' tN') : r = r' ∧ tN = tN' := by
  subst hz
  subst e
  rw [h] at h1
  exact town_k rfl h1 h2
theorem tw_town (hR : TWR tA tB fB kZ fMt kY tM uP) (e : tN = tN') (w : WI tN') (e1 : z1 = 0) (e2 : y1 = 0) : TWR tN tB fB z1 fMt y1 tN' uP := by
  subst e1
  subst e2
  exact ⟨e, w, hR.2.2.1, nbf_0⟩
theorem tw_wipe (hR : TWR tA tB fB kZ fMt kY tM uP) (e1 : z1 = 0) (e2 : y1 = 0) : TWR tA tB fB z1 fMt y1 tM uP := by
  subst e1
  subst e2
  exact ⟨hR.1, hR.2.1, hR.2.2.1, nbf_0⟩
theorem tw_image {tC : TA} (hR : TWR tA tB fB kZ fMt kY tM uP) (e1 : tC = tA) (e2 : uT uQ = tM) : TWR tA tC fB kZ fMt kY tM uQ :=
  ⟨hR.1, hR.2.1, fun _ => ⟨by rw [e1, e2]; exact hR.1, by rw [e2]; exact hR.2.1⟩, hR.2.2.2⟩
theorem tw_back (hR : TWR tA tB fB kZ fMt kY tM uP) (h : iK = 0 ↔ isS uP = false) (q : (iK = 0 ∧ r = -5 ∧ tN = tA) ∨ (¬ iK = 0 ∧ r = 1 ∧ tN = tB)) (q' : (isS uP = false ∧ r' = -5 ∧ tN' = tM) ∨ (isS uP = true ∧ r' = 1 ∧ tN' = uT uP)) : TWR tN tB fB kZ fMt kY tN' uP := by
  rcases q with ⟨c, -, e⟩ | ⟨c, -, e⟩
  · rcases q' with ⟨c', -, e'⟩ | ⟨c', -, e'⟩
    · rw [e, e']; exact hR
    · rw [h.mp c] at c'; cases c'
  · rcases q' with ⟨c', -, e'⟩ | ⟨c', -, e'⟩
    · exact absurd (h.mpr c') c
    · rw [e, e']; exact ⟨(hR.2.2.1 c').1, (hR.2.2.1 c').2, hR.2.2.1, hR.2.2.2⟩
theorem seed_k (e : tA = tM) (h1 : tN = T_setsd tA n ∧ r = T_sd tA) (h2 : tN' = T_setsd tM n ∧ r' = T_sd tM) : r = r' ∧ tN = tN' := by
  subst e
  exact ⟨h1.2.trans h2.2.symm, h1.1.trans h2.1.symm⟩
end TW2
theorem WI_0 : WI T0 := ⟨TI_0, ⟨fun _ _ _ _ _ => rfl, fun _ _ _ => rfl, fun _ _ _ => rfl⟩, fun p h _ => absurd h (Nat.not_lt_zero p)⟩
theorem kd {x y : Int32} (z : x = 10 + y) : x - 10 = y := by rw [z, Int32.add_comm, Int32.add_sub_cancel]
section PK
variable {fH fS fA : Nat → Int32} {gE : Nat → Int64} {fMh fMo fMz fMk fMa : Nat → Int32} {eR : Nat → Nat → Int64}
theorem pkk_eq {a r r' v2 v3 v4 : Int32} {P : Prop} {F F' : Nat → Int32} (R : SHR fH fS fA gE fMh fMo fMz fMk fMa eR) (hF : ∀ k, k < 8 → fMh k = 2 → F k = F' k) (h1 : PXk fH a P v2 v3 v4 F r) (h2 : PMk fMh a P v2 v3 v4 F' r') : r = r' := by
  by_cases hs : Sh a ∧ P
  · obtain ⟨⟨k, hk, rfl⟩, hP⟩ := hs
    have R1 := R k hk
    have s1 := (sh_A R1).1
    have s2 := (sh_A R1).2.1
    have N : Sh (nI k) ∧ P := ⟨⟨k, hk, rfl⟩, hP⟩
    rcases h1 with ⟨e1, c1⟩ | ⟨e1, _, c1⟩ | ⟨e1, _, c1⟩ | ⟨k1, hk1, ek1, n1, n2, _, e1⟩
    · exact absurd N c1
    · have m1 : fMh k = 1 := s2.mp (exk (P := fun k => Rw (fH k)) hk c1)
      rcases h2 with ⟨e2, c2⟩ | ⟨e2, _, c2⟩ | ⟨e2, _, c2⟩ | ⟨k2, hk2, ek2, p1, p2, _, e2⟩
      · exact absurd N c2
      · exact e1.trans e2.symm
      · exact absurd m1 (exk (P := fun k => ¬ fMh k = 1 ∧ fMh k = 0) hk c2).1
      · have q := nI_eq8 hk hk2 ek2
        subst q
        exact absurd m1 p1
    · have c1 := exk (P := fun k => ¬ Rw (fH k) ∧ ¬ 10 ≤ fH k) hk c1
      have m1 := sh_0 R1 (fun q => c1.1 (s2.mpr q)) (fun q => c1.2 (s1.mpr q))
      rcases h2 with ⟨e2, c2⟩ | ⟨e2, _, c2⟩ | ⟨e2, _, c2⟩ | ⟨k2, hk2, ek2, p1, p2, _, e2⟩
      · exact absurd N c2
      · exact absurd (m1.symm.trans (exk (P := fun k => fMh k = 1) hk c2)) (by decide +kernel)
      · exact e1.trans e2.symm
      · have q := nI_eq8 hk hk2 ek2
        subst q
        exact absurd m1 p2
    · have q := nI_eq8 hk hk1 ek1
      subst q
      have m1 := s1.mp n2
      rcases h2 with ⟨e2, c2⟩ | ⟨e2, _, c2⟩ | ⟨e2, _, c2⟩ | ⟨k2, hk2, ek2, p1, p2, _, e2⟩
      · exact absurd N c2
      · exact absurd (m1.symm.trans (exk (P := fun k => fMh k = 1) hk c2)) (by decide +kernel)
      · exact absurd (m1.symm.trans (exk (P := fun k => ¬ fMh k = 1 ∧ fMh k = 0) hk c2).2) (by decide +kernel)
      · have q := nI_eq8 hk hk2 ek2
        subst q
        exact e1.trans ((hF k hk m1).trans e2.symm)
  · rcases h1 with ⟨e1, c1⟩ | ⟨e1, hP, ⟨k, hk, ek, _⟩⟩ | ⟨e1, hP, ⟨k, hk, ek, _⟩⟩ | ⟨k, hk, ek, _, _, hP, e1⟩
    · rcases h2 with ⟨e2, c2⟩ | ⟨e2, hP, ⟨k, hk, ek, _⟩⟩ | ⟨e2, hP, ⟨k, hk, ek, _⟩⟩ | ⟨k, hk, ek, _, _, hP, e2⟩
      · exact e1.trans e2.symm
      all_goals exact absurd ⟨⟨k, hk, ek⟩, hP⟩ hs
    all_goals exact absurd ⟨⟨k, hk, ek⟩, hP⟩ hs
theorem hd_km (R : SHR fH fS fA gE fMh fMo fMz fMk fMa eR) (t : TA) (m : Nat) : hdX fH fA t m = hdM fMh fMk fMa t m := hdA_cong (fun k hk => ⟨decide_eq_decide.mpr (sh_A (R k hk)).1, fun q => by have z := sh_2 (R k hk) ((sh_A (R k hk)).1.mp (of_decide_eq_true q)); rw [kd z.1, z.2.2]⟩)
end PK
end
section
/-! THE CLAIM OUT OF ONE WALK OF THE LAW'S BODY. Your part is whole_start (and what it stands on); all else here is the same for every law, but numbers. -/
noncomputable def R_law : String := "EachBookOnceLaw"
noncomputable def lw_P (b : Addr) (xs : List Int32) (args : Array Value) (s : State) : Prop := args = #[.ref b] ∧ s.IntsAt b xs ∧ xs.length ≤ 384 ∧ (Jvm.Cond.and given_1 narrow_1).before args s = true
noncomputable def lw_Q (_ : Array Value) (s : State) (o : Outcome) (t : State) : Prop := o = .returned (some (.int 1)) ∧ Framed s o t [] 600000 7302250
noncomputable def lw_Z (below : List Frame) (a : Array Value) (s : State) : State → Prop := fun t => ∃ o, t.status = .running ∧ Ended t below o ∧ lw_Q a s o t
/-- the law's own end, with 1 on the stack, nothing written that was there before, its room as the claim has it -/
theorem lw_ret {p : Program} {l : Launch} {e : Env} {s : State} {m : MethodId} {below : List Frame} {meth : Method} {c : Code} {b : Nat} (hx : p.tables.exec = Jvm.exec) (hb : c.code = code) (hr : meth.sig.returnType = ret) (hlocks : meth.locks = false) {pc : Nat} {H : Heap} {ls : Array Slot} (hdg : decode code pc = .ok (.ireturn, 1)) : W p l e room_1 s m #[Value.ref b] below meth c H [] 600000 7302250 (lw_Z below #[Value.ref b] s) (F0 m pc ls [.int 1]) := by
  intro T hT X
  obtain ⟨fs, hret, hrun, hended, hW, hframe⟩ := X.leave (v := some (.int 1)) (hlocks := hlocks) (fun h => by rw [hr] at h; cases h)
  have hmeth' : T.vm.method? m = some meth := X.method'
  refine ⟨T.setFrames fs, ?_, .returned (some (.int 1)), hrun, hended, rfl, ⟨_, rfl⟩, hW, hframe⟩
  jvm_step X.here [X.here.top, hx, hb, hdg, hmeth', hr, ret, narrow_b1]
  (try refine ⟨rfl, ?_⟩); (try refine ⟨rfl, ?_⟩)
  first | (intro acts; rw [hret _ acts rfl rfl rfl]) | rw [hret _ _ rfl rfl rfl]
  exact Steps.refl _
/-- what holds at the law's entry: the machine, the code, the tables' words (any of lw_tbl by 'hts w (by decide +kernel)'), the script of L ints xs at the cell b, what the Statement gives of the start (any of its parts by flat_of_before) -/
noncomputable def lw_At (p : Program) (s : State) (m : MethodId) (meth : Method) (c : Code) (b L : Nat) (xs : Nat → Int32) : Prop :=
  p.tables.exec = Jvm.exec ∧ c.code = code ∧ meth.sig.returnType = ret ∧ c.maxLocals = 4 ∧ s.vm.findClass R_law = some m.cls ∧ (∀ w ∈ lw_tbl, w.before #[Value.ref b] s = true) ∧ va_X b L xs s s.heap ∧ b < s.heap.size ∧ meth.locks = false ∧ (Jvm.Cond.and given_1 narrow_1).before #[Value.ref b] s = true
theorem kn_nf {s : State} {b : Nat} (hts : ∀ w ∈ lw_tbl, w.before #[Value.ref b] s = true) : ∀ q ∈ nestF, va_Nw (.fieldLinkNest q.1 q.2.1 q.2.2.1 q.2.2.2.1 q.2.2.2.2 AO0) s := by
  unfold nestF
  exact List.forall_mem_cons.mpr ⟨va_Nw.of rfl (hts _ (List.mem_append_right _ n_t30)), List.forall_mem_cons.mpr ⟨va_Nw.of rfl (hts _ (List.mem_append_right _ n_t31)), List.forall_mem_cons.mpr ⟨va_Nw.of rfl (hts _ (List.mem_append_right _ n_t32)), List.forall_mem_cons.mpr ⟨va_Nw.of rfl (hts _ (List.mem_append_right _ n_t33)), List.forall_mem_cons.mpr ⟨va_Nw.of rfl (hts _ (List.mem_append_right _ n_t35)), List.forall_mem_cons.mpr ⟨va_Nw.of rfl (hts _ (List.mem_append_right _ n_t36)), List.forall_mem_cons.mpr ⟨va_Nw.of rfl (hts _ (List.mem_append_right _ n_t37)), List.forall_mem_cons.mpr ⟨va_Nw.of rfl (hts _ (List.mem_append_right _ n_t38)), List.forall_mem_cons.mpr ⟨va_Nw.of rfl (hts _ (List.mem_append_right _ n_t40)), List.forall_mem_cons.mpr ⟨va_Nw.of rfl (hts _ (List.mem_append_right _ n_t41)), List.forall_mem_cons.mpr ⟨va_Nw.of rfl (hts _ (List.mem_append_right _ n_t42)), List.forall_mem_cons.mpr ⟨va_Nw.of rfl (hts _ (List.mem_append_right _ n_t44)), List.forall_mem_cons.mpr ⟨va_Nw.of rfl (hts _ (List.mem_append_right _ n_t45)), List.forall_mem_cons.mpr ⟨va_Nw.of rfl (hts _ (List.mem_append_right _ n_t47)), List.forall_mem_cons.mpr ⟨va_Nw.of rfl (hts _ (List.mem_append_right _ n_t49)), List.forall_mem_cons.mpr ⟨va_Nw.of rfl (hts _ (List.mem_append_right _ n_t51)), List.forall_mem_cons.mpr ⟨va_Nw.of rfl (hts _ (List.mem_append_right _ n_t52)), List.forall_mem_cons.mpr ⟨va_Nw.of rfl (hts _ (List.mem_append_right _ n_t54)), List.forall_mem_cons.mpr ⟨va_Nw.of rfl (hts _ (List.mem_append_right _ n_t55)), List.forall_mem_cons.mpr ⟨va_Nw.of rfl (hts _ (List.mem_append_right _ n_t57)), List.forall_mem_cons.mpr ⟨va_Nw.of rfl (hts _ (List.mem_append_right _ n_t59)), List.forall_mem_cons.mpr ⟨va_Nw.of rfl (hts _ (List.mem_append_right _ n_t61)), List.forall_mem_cons.mpr ⟨va_Nw.of rfl (hts _ (List.mem_append_right _ n_t63)), List.forall_mem_cons.mpr ⟨va_Nw.of rfl (hts _ (List.mem_append_right _ n_t102)), List.forall_mem_cons.mpr ⟨va_Nw.of rfl (hts _ (List.mem_append_right _ n_t105)), List.forall_mem_cons.mpr ⟨va_Nw.of rfl (hts _ (List.mem_append_right _ n_t107)), List.forall_mem_cons.mpr ⟨va_Nw.of rfl (hts _ (List.mem_append_right _ n_t124)), List.forall_mem_cons.mpr ⟨va_Nw.of rfl (hts _ (List.mem_append_right _ n_t126)), List.forall_mem_cons.mpr ⟨va_Nw.of rfl (hts _ (List.mem_append_right _ n_t128)), List.forall_mem_cons.mpr ⟨va_Nw.of rfl (hts _ (List.mem_append_right _ n_t150)), List.forall_mem_cons.mpr ⟨va_Nw.of rfl (hts _ (List.mem_append_right _ n_t155)), List.forall_mem_cons.mpr ⟨va_Nw.of rfl (hts _ (List.mem_append_right _ n_t157)), fun _ h => absurd h List.not_mem_nil⟩⟩⟩⟩⟩⟩⟩⟩⟩⟩⟩⟩⟩⟩⟩⟩⟩⟩⟩⟩⟩⟩⟩⟩⟩⟩⟩⟩⟩⟩⟩⟩
theorem kn_nm {s : State} {b : Nat} (hts : ∀ w ∈ lw_tbl, w.before #[Value.ref b] s = true) : ∀ q ∈ nestM, va_Nw (.methodLinkNest q.1 q.2.1 q.2.2 AO0) s := by
  unfold nestM
  exact List.forall_mem_cons.mpr ⟨va_Nw.of rfl (hts _ (List.mem_append_right _ n_t25)), List.forall_mem_cons.mpr ⟨va_Nw.of rfl (hts _ (List.mem_append_right _ n_t95)), List.forall_mem_cons.mpr ⟨va_Nw.of rfl (hts _ (List.mem_append_right _ n_t100)), List.forall_mem_cons.mpr ⟨va_Nw.of rfl (hts _ (List.mem_append_right _ n_t142)), List.forall_mem_cons.mpr ⟨va_Nw.of rfl (hts _ (List.mem_append_right _ n_t147)), List.forall_mem_cons.mpr ⟨va_Nw.of rfl (hts _ (List.mem_append_right _ n_t321)), List.forall_mem_cons.mpr ⟨va_Nw.of rfl (hts _ (List.mem_append_right _ n_t358)), List.forall_mem_cons.mpr ⟨va_Nw.of rfl (hts _ (List.mem_append_right _ n_t369)), List.forall_mem_cons.mpr ⟨va_Nw.of rfl (hts _ (List.mem_append_right _ n_t681)), fun _ h => absurd h List.not_mem_nil⟩⟩⟩⟩⟩⟩⟩⟩⟩
theorem kn_one {s : State} {b k : Nat} {own tx : String} (h1 : (Cond.stringRef own k tx).before #[Value.ref b] s = true) (h2 : (Cond.exactly (Term.string own k) "java/lang/String").before #[Value.ref b] s = true) : ∃ a : Nat, vk_R own k tx a s := by
  obtain ⟨a, c, cA, kA, q1, -⟩ := Cond.exactly_spec (args := #[Value.ref b]) (first := s) (o := none) (s := s) (idx := []) (t := Term.string own k) (cls := "java/lang/String") h2
  exact ⟨a, vk_R.of h1 q1⟩
theorem kn_st {s : State} {b : Nat} (hts : ∀ w ∈ lw_tbl, w.before #[Value.ref b] s = true) (hgv : (Jvm.Cond.and given_1 narrow_1).before #[Value.ref b] s = true) : ∀ q ∈ strW, ∃ a : Nat, vk_R q.1 q.2.1 q.2.2 a s := by
  have hs := flat_of_before _ hgv
  unfold strW
  exact List.forall_mem_cons.mpr ⟨kn_one (hts _ (List.mem_append_right _ n_t459)) (cd_l (cd_r (cd_r (cd_r (cd_l (cd_l (cd_l (cd_l (cd_l (cd_r hgv)))))))))), List.forall_mem_cons.mpr ⟨kn_one (hts _ (List.mem_append_right _ n_t528)) (cd_r (cd_l (cd_r (cd_r (cd_l (cd_l (cd_l (cd_l (cd_r hgv))))))))), List.forall_mem_cons.mpr ⟨kn_one (hts _ (List.mem_append_right _ n_t534)) (cd_l (cd_l (cd_r (cd_l (cd_r (cd_l (cd_l (cd_l (cd_r hgv))))))))), List.forall_mem_cons.mpr ⟨kn_one (hts _ (List.mem_append_right _ n_t539)) (cd_l (cd_l (cd_r (cd_r (cd_r (cd_l (cd_l (cd_l (cd_r hgv))))))))), List.forall_mem_cons.mpr ⟨kn_one (hts _ (List.mem_append_right _ n_t544)) (cd_r (cd_l (cd_r (cd_l (cd_l (cd_r (cd_l (cd_l (cd_r hgv))))))))), List.forall_mem_cons.mpr ⟨kn_one (hts _ (List.mem_append_right _ n_t545)) (cd_r (cd_r (cd_r (cd_r (cd_r (cd_l (cd_r (cd_l (cd_l (cd_r hgv)))))))))), List.forall_mem_cons.mpr ⟨kn_one (hts _ (List.mem_append_right _ n_t546)) (cd_l (cd_r (cd_r (cd_l (cd_r (cd_r (cd_r (cd_l (cd_l (cd_r hgv)))))))))), List.forall_mem_cons.mpr ⟨kn_one (hts _ (List.mem_append_right _ n_t548)) (cd_r (cd_r (cd_r (cd_r (cd_l (cd_l (cd_l (cd_r (cd_l (cd_r hgv)))))))))), List.forall_mem_cons.mpr ⟨kn_one (hts _ (List.mem_append_right _ n_t554)) (cd_l (cd_l (cd_r (cd_l (cd_r (cd_l (cd_r (cd_l (cd_r hgv))))))))), List.forall_mem_cons.mpr ⟨kn_one (hts _ (List.mem_append_right _ n_t1144)) (cd_l (cd_r (cd_l (cd_l (cd_l (cd_r (cd_r (cd_l (cd_r hgv))))))))), List.forall_mem_cons.mpr ⟨kn_one (hts _ (List.mem_append_right _ n_t1163)) (cd_l (cd_l (cd_l (cd_l (cd_r (cd_r (cd_r (cd_l (cd_r hgv))))))))), List.forall_mem_cons.mpr ⟨kn_one (hts _ (List.mem_append_right _ n_t1168)) (cd_l (cd_r (cd_r (cd_r (cd_r (cd_r (cd_r (cd_r (cd_l (cd_r hgv)))))))))), List.forall_mem_cons.mpr ⟨kn_one (hts _ (List.mem_append_right _ n_t1169)) (cd_l (cd_r (cd_r (cd_r (cd_l (cd_l (cd_l (cd_r (cd_r hgv))))))))), List.forall_mem_cons.mpr ⟨kn_one (hts _ (List.mem_append_right _ n_t1170)) (cd_l (cd_r (cd_r (cd_r (cd_r (cd_r (cd_l (cd_l (cd_r (cd_r hgv)))))))))), List.forall_mem_cons.mpr ⟨kn_one (hts _ (List.mem_append_right _ n_t1171)) (cd_r (cd_l (cd_l (cd_l (cd_r (cd_r (cd_l (cd_r (cd_r hgv))))))))), List.forall_mem_cons.mpr ⟨kn_one (hts _ (List.mem_append_right _ n_t1172)) (cd_l (cd_l (cd_r (cd_l (cd_l (cd_l (cd_r (cd_r (cd_r hgv))))))))), List.forall_mem_cons.mpr ⟨kn_one (hts _ (List.mem_append_right _ n_t1173)) (cd_l (cd_r (cd_r (cd_r (cd_l (cd_r (cd_l (cd_r (cd_r (cd_r hgv)))))))))), List.forall_mem_cons.mpr ⟨kn_one (hts _ (List.mem_append_right _ n_t1174)) (cd_r (cd_r (cd_r (cd_l (cd_r (cd_l (cd_r (cd_r (cd_r (cd_r hgv)))))))))), fun _ h => absurd h List.not_mem_nil⟩⟩⟩⟩⟩⟩⟩⟩⟩⟩⟩⟩⟩⟩⟩⟩⟩⟩
theorem kn_big {s : State} {b : Nat} (hts : ∀ w ∈ lw_tbl, w.before #[Value.ref b] s = true) : ∀ w ∈ BIG, w.before #[Value.ref b] s = true := fun w h => hts w (List.mem_filter.mp h).1
theorem kn_arr {s : State} {cA : ClassId} {ty : FieldType} {k : Class} {comp : ClassId} (h1 : s.vm.classes[cA]? = some k) (h2 : k.kind = .array comp ty) : ArrOfT s cA ty := fun _ _ => ⟨(fun _ h => by cases h), k, h1, comp, h2⟩
theorem kn_start {s : State} {b : Nat} (hts : ∀ w ∈ lw_tbl, w.before #[Value.ref b] s = true) (hgv : (Jvm.Cond.and given_1 narrow_1).before #[Value.ref b] s = true) : ∃ (G : va_G) (cy : Nat → ClassId), KN G cy s := by
  have hB := kn_big hts
  obtain ⟨c0, i0, k0⟩ := u_known (C := RX0) (T := TX0) (N := 4) (n := 4) hB iX_X0 (hB _ m_t94)
  obtain ⟨c1, i1, k1⟩ := u_known (C := RX2) (T := TX2) (N := 4) (n := 4) hB iX_X2 (hB _ m_t118)
  obtain ⟨c2, i2, k2⟩ := u_known (C := RX3) (T := TX3) (N := 7) (n := 7) hB iX_X3 (hB _ m_t141)
  obtain ⟨c3, i3, k3⟩ := u_known (C := RX4) (T := TX4) (N := 13) (n := 13) hB iX_X4 (hB _ m_t24)
  obtain ⟨c4, i4, k4⟩ := u_known (C := RX5) (T := TX5) (N := 9) (n := 9) hB iX_X5 (hB _ m_t16)
  obtain ⟨c5, i5, k5⟩ := u_known (C := RX6) (T := TX6) (N := 35) (n := 35) hB iX_X6 (hB _ m_t839)
  obtain ⟨aI, aIk, aIc, aI1, aI2, aI3⟩ := Cond.arrayClass_spec (hB _ m_t92)
  obtain ⟨aJ, aJk, aJc, aJ1, aJ2, aJ3⟩ := Cond.arrayClass_spec (hB _ m_t139)
  obtain ⟨aB, aBk, aBc, aB1, aB2, aB3⟩ := Cond.arrayClass_spec (hB _ m_t173)
  have oP : (Cond.arrayOver (.array .int)).before #[Value.ref b] s = true := hts _ (List.mem_append_right _ n_t847)
  obtain ⟨gP, aP, aPk, gP1, gP2, gP3, gP4, gP5⟩ := Jvm.Stand.arrayOver_specB oP
  have oS : (Cond.arrayOver (.array .long)).before #[Value.ref b] s = true := hts _ (List.mem_append_right _ n_t845)
  obtain ⟨gS, aS, aSk, gS1, gS2, gS3, gS4, gS5⟩ := Jvm.Stand.arrayOver_specB oS
  have oM : (Cond.arrayOver (.object RX6)).before #[Value.ref b] s = true := hts _ (List.mem_append_right _ n_t849)
  obtain ⟨gM, aM, aMk, gM1, gM2, gM3, gM4, gM5⟩ := Cond.arrayOver_spec oM
  refine ⟨(fun k => match k with | 0 => c0 | 1 => c1 | 2 => c2 | 3 => c3 | 4 => c4 | _ => c5, fun k => match k with | 0 => i0 | 1 => i1 | 2 => i2 | 3 => i3 | 4 => i4 | _ => i5), (fun k => match k with | 0 => aI | 1 => aJ | 2 => aB | 3 => aP | 4 => aS | _ => aM), ⟨?_, ?_⟩, kn_nf hts, kn_nm hts, kn_st hts hgv, oM, oP, oS⟩
  · intro k q hq
    match k, hq with
    | 0, hq => cases hq; exact k0
    | 1, hq => cases hq; exact k1
    | 2, hq => cases hq; exact k2
    | 3, hq => cases hq; exact k3
    | 4, hq => cases hq; exact k4
    | 5, hq => cases hq; exact k5
    | k + 6, hq => simp [CL] at hq
  · intro k q hq
    match k, hq with
    | 0, hq => cases hq; exact ⟨kn_arr aI2 aI3, aI1⟩
    | 1, hq => cases hq; exact ⟨kn_arr aJ2 aJ3, aJ1⟩
    | 2, hq => cases hq; exact ⟨kn_arr aB2 aB3, aB1⟩
    | 3, hq => cases hq; exact ⟨kn_arr gP3 gP4, gP5⟩
    | 4, hq => cases hq; exact ⟨kn_arr gS3 gS4, gS5⟩
    | 5, hq => cases hq; exact ⟨kn_arr gM3 gM4, aMk, gM, gM3, gM4, gM1, gM5⟩
    | k + 6, hq => simp [tysA] at hq
theorem so_one {s : State} {b : Nat} {A : Nat → Prop} {own tx : String} {k : Nat} {lB : List Int32} (hlen : lB.length < 2 ^ 31) (hA : ∀ a : Nat, a < s.heap.size → ¬ A a) (hz1 : va_Z "java/lang/String" "COMPACT_STRINGS" "Z" (.int 1) A s s.heap) (hz2 : va_Zq "jdk/internal/util/Preconditions" "SIOOBE_FORMATTER" "Ljava/util/function/BiFunction;" A s s.heap)
    (h1 : (Cond.stringRef own k tx).before #[Value.ref b] s = true) (hex : (Cond.exactly (Term.string own k) "java/lang/String").before #[Value.ref b] s = true) (hco : (Cond.eq (.field (Term.string own k) "java/lang/String" "coder" "B") (.int 0)).before #[Value.ref b] s = true) (har : (Cond.arrayOf (.field (Term.string own k) "java/lang/String" "value" "[B") .byte).before #[Value.ref b] s = true)
    (hle : (Cond.eq (.length (.field (Term.string own k) "java/lang/String" "value" "[B")) (.int (Int32.ofNat lB.length))).before #[Value.ref b] s = true) (hel : ∀ j : Nat, j < lB.length → (Cond.eq (.elem (.field (Term.string own k) "java/lang/String" "value" "[B") (.int (Int32.ofNat j))) (.int (lB.getD j 0))).before #[Value.ref b] s = true) :
    ∃ a v : Nat, vk_R own k tx a s ∧ SF lB a v A s s.heap := by
  obtain ⟨a, c, cA, kA, q1, q2, q3, q4, q5, q6, -⟩ := Cond.exactly_spec (args := #[Value.ref b]) (first := s) (o := none) (s := s) (idx := []) (t := Term.string own k) (cls := "java/lang/String") hex
  obtain ⟨t, ht, hT⟩ := va_Tof (f := fun j => .int (lB.getD j 0)) (A := A) hlen har (va_eqt hle) (fun j hj => va_eqt (hel j hj)) hA
  exact ⟨a, t, vk_R.of h1 q1, ⟨cA, q3, q5, by rw [q6]; exact q2, hA a (Array.getElem?_eq_some_iff.mp q3).1⟩, vk_OFof q1 (va_eqt hco) hA, vk_OFof q1 ht hA, hT, hz1, hz2⟩
theorem so_start {s : State} {b : Nat} {A : Nat → Prop} (hts : ∀ w ∈ lw_tbl, w.before #[Value.ref b] s = true) (hgv : (Jvm.Cond.and given_1 narrow_1).before #[Value.ref b] s = true) (hA : ∀ a : Nat, a < s.heap.size → ¬ A a) : SO A s s.heap := by
  have hz1 : va_Z "java/lang/String" "COMPACT_STRINGS" "Z" (.int 1) A s s.heap := va_Zof (hts _ (List.mem_append_right _ n_t473)) (hts _ (List.mem_append_right _ n_t10)) (va_eqi (cd_l (cd_r (cd_l (cd_l (cd_l (cd_l (cd_l (cd_l (cd_r hgv)))))))))) hA
  have hz2 : va_Zq "jdk/internal/util/Preconditions" "SIOOBE_FORMATTER" "Ljava/util/function/BiFunction;" A s s.heap := va_Zqof (hts _ (List.mem_append_right _ n_t489)) (hts _ (List.mem_append_right _ n_t12)) (cd_r (cd_r (cd_l (cd_l (cd_l (cd_l (cd_l (cd_l (cd_r hgv))))))))) hA
  unfold SO strT
  exact List.forall_mem_cons.mpr ⟨so_one (by decide +kernel) hA hz1 hz2 (hts _ (List.mem_append_right _ n_t459)) (cd_l (cd_r (cd_r (cd_r (cd_l (cd_l (cd_l (cd_l (cd_l (cd_r hgv)))))))))) (cd_r (cd_r (cd_r (cd_r (cd_l (cd_l (cd_l (cd_l (cd_l (cd_r hgv)))))))))) (cd_l (cd_l (cd_l (cd_r (cd_l (cd_l (cd_l (cd_l (cd_r hgv))))))))) (cd_r (cd_l (cd_l (cd_r (cd_l (cd_l (cd_l (cd_l (cd_r hgv))))))))) (fun j hj => by match j, hj with | 0, _ => exact (cd_l (cd_r (cd_l (cd_r (cd_l (cd_l (cd_l (cd_l (cd_r hgv))))))))) | 1, _ => exact (cd_l (cd_r (cd_r (cd_l (cd_r (cd_l (cd_l (cd_l (cd_l (cd_r hgv)))))))))) | 2, _ => exact (cd_r (cd_r (cd_r (cd_l (cd_r (cd_l (cd_l (cd_l (cd_l (cd_r hgv)))))))))) | 3, _ => exact (cd_l (cd_l (cd_r (cd_r (cd_l (cd_l (cd_l (cd_l (cd_r hgv))))))))) | j + 4, hj => exact absurd hj (by simp)), List.forall_mem_cons.mpr ⟨so_one (by decide +kernel) hA hz1 hz2 (hts _ (List.mem_append_right _ n_t528)) (cd_r (cd_l (cd_r (cd_r (cd_l (cd_l (cd_l (cd_l (cd_r hgv))))))))) (cd_l (cd_r (cd_r (cd_r (cd_l (cd_l (cd_l (cd_l (cd_r hgv))))))))) (cd_l (cd_r (cd_r (cd_r (cd_r (cd_l (cd_l (cd_l (cd_l (cd_r hgv)))))))))) (cd_r (cd_r (cd_r (cd_r (cd_r (cd_l (cd_l (cd_l (cd_l (cd_r hgv)))))))))) (fun j hj => by match j, hj with | 0, _ => exact (cd_l (cd_l (cd_l (cd_l (cd_r (cd_l (cd_l (cd_l (cd_r hgv))))))))) | 1, _ => exact (cd_r (cd_l (cd_l (cd_l (cd_r (cd_l (cd_l (cd_l (cd_r hgv))))))))) | 2, _ => exact (cd_l (cd_r (cd_l (cd_l (cd_r (cd_l (cd_l (cd_l (cd_r hgv))))))))) | 3, _ => exact (cd_l (cd_r (cd_r (cd_l (cd_l (cd_r (cd_l (cd_l (cd_l (cd_r hgv)))))))))) | j + 4, hj => exact absurd hj (by simp)), List.forall_mem_cons.mpr ⟨so_one (by decide +kernel) hA hz1 hz2 (hts _ (List.mem_append_right _ n_t534)) (cd_l (cd_l (cd_r (cd_l (cd_r (cd_l (cd_l (cd_l (cd_r hgv))))))))) (cd_r (cd_l (cd_r (cd_l (cd_r (cd_l (cd_l (cd_l (cd_r hgv))))))))) (cd_l (cd_r (cd_r (cd_l (cd_r (cd_l (cd_l (cd_l (cd_r hgv))))))))) (cd_l (cd_r (cd_r (cd_r (cd_l (cd_r (cd_l (cd_l (cd_l (cd_r hgv)))))))))) (fun j hj => by match j, hj with | 0, _ => exact (cd_r (cd_r (cd_r (cd_r (cd_l (cd_r (cd_l (cd_l (cd_l (cd_r hgv)))))))))) | 1, _ => exact (cd_l (cd_l (cd_l (cd_r (cd_r (cd_l (cd_l (cd_l (cd_r hgv))))))))) | 2, _ => exact (cd_r (cd_l (cd_l (cd_r (cd_r (cd_l (cd_l (cd_l (cd_r hgv))))))))) | 3, _ => exact (cd_l (cd_r (cd_l (cd_r (cd_r (cd_l (cd_l (cd_l (cd_r hgv))))))))) | j + 4, hj => exact absurd hj (by simp)), List.forall_mem_cons.mpr ⟨so_one (by decide +kernel) hA hz1 hz2 (hts _ (List.mem_append_right _ n_t539)) (cd_l (cd_l (cd_r (cd_r (cd_r (cd_l (cd_l (cd_l (cd_r hgv))))))))) (cd_r (cd_l (cd_r (cd_r (cd_r (cd_l (cd_l (cd_l (cd_r hgv))))))))) (cd_l (cd_r (cd_r (cd_r (cd_r (cd_l (cd_l (cd_l (cd_r hgv))))))))) (cd_l (cd_r (cd_r (cd_r (cd_r (cd_r (cd_l (cd_l (cd_l (cd_r hgv)))))))))) (fun j hj => by match j, hj with | 0, _ => exact (cd_r (cd_r (cd_r (cd_r (cd_r (cd_r (cd_l (cd_l (cd_l (cd_r hgv)))))))))) | 1, _ => exact (cd_l (cd_l (cd_l (cd_l (cd_l (cd_r (cd_l (cd_l (cd_r hgv))))))))) | 2, _ => exact (cd_r (cd_l (cd_l (cd_l (cd_l (cd_r (cd_l (cd_l (cd_r hgv))))))))) | j + 3, hj => exact absurd hj (by simp)), List.forall_mem_cons.mpr ⟨so_one (by decide +kernel) hA hz1 hz2 (hts _ (List.mem_append_right _ n_t544)) (cd_r (cd_l (cd_r (cd_l (cd_l (cd_r (cd_l (cd_l (cd_r hgv))))))))) (cd_l (cd_r (cd_r (cd_l (cd_l (cd_r (cd_l (cd_l (cd_r hgv))))))))) (cd_l (cd_r (cd_r (cd_r (cd_l (cd_l (cd_r (cd_l (cd_l (cd_r hgv)))))))))) (cd_r (cd_r (cd_r (cd_r (cd_l (cd_l (cd_r (cd_l (cd_l (cd_r hgv)))))))))) (fun j hj => by match j, hj with | 0, _ => exact (cd_l (cd_l (cd_l (cd_r (cd_l (cd_r (cd_l (cd_l (cd_r hgv))))))))) | 1, _ => exact (cd_r (cd_l (cd_l (cd_r (cd_l (cd_r (cd_l (cd_l (cd_r hgv))))))))) | 2, _ => exact (cd_l (cd_r (cd_l (cd_r (cd_l (cd_r (cd_l (cd_l (cd_r hgv))))))))) | 3, _ => exact (cd_l (cd_r (cd_r (cd_l (cd_r (cd_l (cd_r (cd_l (cd_l (cd_r hgv)))))))))) | 4, _ => exact (cd_r (cd_r (cd_r (cd_l (cd_r (cd_l (cd_r (cd_l (cd_l (cd_r hgv)))))))))) | j + 5, hj => exact absurd hj (by simp)), List.forall_mem_cons.mpr ⟨so_one (by decide +kernel) hA hz1 hz2 (hts _ (List.mem_append_right _ n_t545)) (cd_r (cd_r (cd_r (cd_r (cd_r (cd_l (cd_r (cd_l (cd_l (cd_r hgv)))))))))) (cd_l (cd_l (cd_l (cd_l (cd_r (cd_r (cd_l (cd_l (cd_r hgv))))))))) (cd_r (cd_l (cd_l (cd_l (cd_r (cd_r (cd_l (cd_l (cd_r hgv))))))))) (cd_l (cd_r (cd_l (cd_l (cd_r (cd_r (cd_l (cd_l (cd_r hgv))))))))) (fun j hj => by match j, hj with | 0, _ => exact (cd_l (cd_r (cd_r (cd_l (cd_l (cd_r (cd_r (cd_l (cd_l (cd_r hgv)))))))))) | 1, _ => exact (cd_r (cd_r (cd_r (cd_l (cd_l (cd_r (cd_r (cd_l (cd_l (cd_r hgv)))))))))) | 2, _ => exact (cd_l (cd_l (cd_r (cd_l (cd_r (cd_r (cd_l (cd_l (cd_r hgv))))))))) | 3, _ => exact (cd_r (cd_l (cd_r (cd_l (cd_r (cd_r (cd_l (cd_l (cd_r hgv))))))))) | 4, _ => exact (cd_l (cd_r (cd_r (cd_l (cd_r (cd_r (cd_l (cd_l (cd_r hgv))))))))) | j + 5, hj => exact absurd hj (by simp)), List.forall_mem_cons.mpr ⟨so_one (by decide +kernel) hA hz1 hz2 (hts _ (List.mem_append_right _ n_t546)) (cd_l (cd_r (cd_r (cd_l (cd_r (cd_r (cd_r (cd_l (cd_l (cd_r hgv)))))))))) (cd_r (cd_r (cd_r (cd_l (cd_r (cd_r (cd_r (cd_l (cd_l (cd_r hgv)))))))))) (cd_l (cd_l (cd_r (cd_r (cd_r (cd_r (cd_l (cd_l (cd_r hgv))))))))) (cd_r (cd_l (cd_r (cd_r (cd_r (cd_r (cd_l (cd_l (cd_r hgv))))))))) (fun j hj => by match j, hj with | 0, _ => exact (cd_l (cd_r (cd_r (cd_r (cd_r (cd_r (cd_l (cd_l (cd_r hgv))))))))) | 1, _ => exact (cd_l (cd_r (cd_r (cd_r (cd_r (cd_r (cd_r (cd_l (cd_l (cd_r hgv)))))))))) | 2, _ => exact (cd_r (cd_r (cd_r (cd_r (cd_r (cd_r (cd_r (cd_l (cd_l (cd_r hgv)))))))))) | 3, _ => exact (cd_l (cd_l (cd_l (cd_l (cd_l (cd_l (cd_r (cd_l (cd_r hgv))))))))) | 4, _ => exact (cd_r (cd_l (cd_l (cd_l (cd_l (cd_l (cd_r (cd_l (cd_r hgv))))))))) | j + 5, hj => exact absurd hj (by simp)), List.forall_mem_cons.mpr ⟨so_one (by decide +kernel) hA hz1 hz2 (hts _ (List.mem_append_right _ n_t548)) (cd_r (cd_r (cd_r (cd_r (cd_l (cd_l (cd_l (cd_r (cd_l (cd_r hgv)))))))))) (cd_l (cd_l (cd_l (cd_r (cd_l (cd_l (cd_r (cd_l (cd_r hgv))))))))) (cd_r (cd_l (cd_l (cd_r (cd_l (cd_l (cd_r (cd_l (cd_r hgv))))))))) (cd_l (cd_r (cd_l (cd_r (cd_l (cd_l (cd_r (cd_l (cd_r hgv))))))))) (fun j hj => by match j, hj with | 0, _ => exact (cd_l (cd_r (cd_r (cd_l (cd_r (cd_l (cd_l (cd_r (cd_l (cd_r hgv)))))))))) | 1, _ => exact (cd_r (cd_r (cd_r (cd_l (cd_r (cd_l (cd_l (cd_r (cd_l (cd_r hgv)))))))))) | 2, _ => exact (cd_l (cd_l (cd_r (cd_r (cd_l (cd_l (cd_r (cd_l (cd_r hgv))))))))) | 3, _ => exact (cd_r (cd_l (cd_r (cd_r (cd_l (cd_l (cd_r (cd_l (cd_r hgv))))))))) | 4, _ => exact (cd_l (cd_r (cd_r (cd_r (cd_l (cd_l (cd_r (cd_l (cd_r hgv))))))))) | j + 5, hj => exact absurd hj (by simp)), List.forall_mem_cons.mpr ⟨so_one (by decide +kernel) hA hz1 hz2 (hts _ (List.mem_append_right _ n_t554)) (cd_l (cd_l (cd_r (cd_l (cd_r (cd_l (cd_r (cd_l (cd_r hgv))))))))) (cd_r (cd_l (cd_r (cd_l (cd_r (cd_l (cd_r (cd_l (cd_r hgv))))))))) (cd_l (cd_r (cd_r (cd_l (cd_r (cd_l (cd_r (cd_l (cd_r hgv))))))))) (cd_l (cd_r (cd_r (cd_r (cd_l (cd_r (cd_l (cd_r (cd_l (cd_r hgv)))))))))) (fun j hj => by match j, hj with | 0, _ => exact (cd_r (cd_r (cd_r (cd_r (cd_l (cd_r (cd_l (cd_r (cd_l (cd_r hgv)))))))))) | 1, _ => exact (cd_l (cd_l (cd_l (cd_r (cd_r (cd_l (cd_r (cd_l (cd_r hgv))))))))) | 2, _ => exact (cd_r (cd_l (cd_l (cd_r (cd_r (cd_l (cd_r (cd_l (cd_r hgv))))))))) | 3, _ => exact (cd_l (cd_r (cd_l (cd_r (cd_r (cd_l (cd_r (cd_l (cd_r hgv))))))))) | 4, _ => exact (cd_l (cd_r (cd_r (cd_l (cd_r (cd_r (cd_l (cd_r (cd_l (cd_r hgv)))))))))) | j + 5, hj => exact absurd hj (by simp)), List.forall_mem_cons.mpr ⟨so_one (by decide +kernel) hA hz1 hz2 (hts _ (List.mem_append_right _ n_t1144)) (cd_l (cd_r (cd_l (cd_l (cd_l (cd_r (cd_r (cd_l (cd_r hgv))))))))) (cd_r (cd_r (cd_l (cd_l (cd_l (cd_r (cd_r (cd_l (cd_r hgv))))))))) (cd_l (cd_l (cd_r (cd_l (cd_l (cd_r (cd_r (cd_l (cd_r hgv))))))))) (cd_r (cd_l (cd_r (cd_l (cd_l (cd_r (cd_r (cd_l (cd_r hgv))))))))) (fun j hj => by match j, hj with | 0, _ => exact (cd_l (cd_r (cd_r (cd_l (cd_l (cd_r (cd_r (cd_l (cd_r hgv))))))))) | 1, _ => exact (cd_l (cd_r (cd_r (cd_r (cd_l (cd_l (cd_r (cd_r (cd_l (cd_r hgv)))))))))) | 2, _ => exact (cd_r (cd_r (cd_r (cd_r (cd_l (cd_l (cd_r (cd_r (cd_l (cd_r hgv)))))))))) | 3, _ => exact (cd_l (cd_l (cd_l (cd_r (cd_l (cd_r (cd_r (cd_l (cd_r hgv))))))))) | j + 4, hj => exact absurd hj (by simp)), List.forall_mem_cons.mpr ⟨so_one (by decide +kernel) hA hz1 hz2 (hts _ (List.mem_append_right _ n_t1163)) (cd_l (cd_l (cd_l (cd_l (cd_r (cd_r (cd_r (cd_l (cd_r hgv))))))))) (cd_r (cd_l (cd_l (cd_l (cd_r (cd_r (cd_r (cd_l (cd_r hgv))))))))) (cd_l (cd_r (cd_l (cd_l (cd_r (cd_r (cd_r (cd_l (cd_r hgv))))))))) (cd_l (cd_r (cd_r (cd_l (cd_l (cd_r (cd_r (cd_r (cd_l (cd_r hgv)))))))))) (fun j hj => by match j, hj with | 0, _ => exact (cd_r (cd_r (cd_r (cd_l (cd_l (cd_r (cd_r (cd_r (cd_l (cd_r hgv)))))))))) | 1, _ => exact (cd_l (cd_l (cd_r (cd_l (cd_r (cd_r (cd_r (cd_l (cd_r hgv))))))))) | 2, _ => exact (cd_r (cd_l (cd_r (cd_l (cd_r (cd_r (cd_r (cd_l (cd_r hgv))))))))) | 3, _ => exact (cd_l (cd_r (cd_r (cd_l (cd_r (cd_r (cd_r (cd_l (cd_r hgv))))))))) | j + 4, hj => exact absurd hj (by simp)), List.forall_mem_cons.mpr ⟨so_one (by decide +kernel) hA hz1 hz2 (hts _ (List.mem_append_right _ n_t1168)) (cd_l (cd_r (cd_r (cd_r (cd_r (cd_r (cd_r (cd_r (cd_l (cd_r hgv)))))))))) (cd_r (cd_r (cd_r (cd_r (cd_r (cd_r (cd_r (cd_r (cd_l (cd_r hgv)))))))))) (cd_l (cd_l (cd_l (cd_l (cd_l (cd_l (cd_l (cd_r (cd_r hgv))))))))) (cd_r (cd_l (cd_l (cd_l (cd_l (cd_l (cd_l (cd_r (cd_r hgv))))))))) (fun j hj => by match j, hj with | 0, _ => exact (cd_l (cd_r (cd_l (cd_l (cd_l (cd_l (cd_l (cd_r (cd_r hgv))))))))) | 1, _ => exact (cd_r (cd_r (cd_l (cd_l (cd_l (cd_l (cd_l (cd_r (cd_r hgv))))))))) | 2, _ => exact (cd_l (cd_l (cd_r (cd_l (cd_l (cd_l (cd_l (cd_r (cd_r hgv))))))))) | j + 3, hj => exact absurd hj (by simp)), List.forall_mem_cons.mpr ⟨so_one (by decide +kernel) hA hz1 hz2 (hts _ (List.mem_append_right _ n_t1169)) (cd_l (cd_r (cd_r (cd_r (cd_l (cd_l (cd_l (cd_r (cd_r hgv))))))))) (cd_l (cd_r (cd_r (cd_r (cd_r (cd_l (cd_l (cd_l (cd_r (cd_r hgv)))))))))) (cd_r (cd_r (cd_r (cd_r (cd_r (cd_l (cd_l (cd_l (cd_r (cd_r hgv)))))))))) (cd_l (cd_l (cd_l (cd_l (cd_r (cd_l (cd_l (cd_r (cd_r hgv))))))))) (fun j hj => by match j, hj with | 0, _ => exact (cd_r (cd_l (cd_l (cd_l (cd_r (cd_l (cd_l (cd_r (cd_r hgv))))))))) | 1, _ => exact (cd_l (cd_r (cd_l (cd_l (cd_r (cd_l (cd_l (cd_r (cd_r hgv))))))))) | 2, _ => exact (cd_l (cd_r (cd_r (cd_l (cd_l (cd_r (cd_l (cd_l (cd_r (cd_r hgv)))))))))) | 3, _ => exact (cd_r (cd_r (cd_r (cd_l (cd_l (cd_r (cd_l (cd_l (cd_r (cd_r hgv)))))))))) | 4, _ => exact (cd_l (cd_l (cd_r (cd_l (cd_r (cd_l (cd_l (cd_r (cd_r hgv))))))))) | j + 5, hj => exact absurd hj (by simp)), List.forall_mem_cons.mpr ⟨so_one (by decide +kernel) hA hz1 hz2 (hts _ (List.mem_append_right _ n_t1170)) (cd_l (cd_r (cd_r (cd_r (cd_r (cd_r (cd_l (cd_l (cd_r (cd_r hgv)))))))))) (cd_r (cd_r (cd_r (cd_r (cd_r (cd_r (cd_l (cd_l (cd_r (cd_r hgv)))))))))) (cd_l (cd_l (cd_l (cd_l (cd_l (cd_r (cd_l (cd_r (cd_r hgv))))))))) (cd_r (cd_l (cd_l (cd_l (cd_l (cd_r (cd_l (cd_r (cd_r hgv))))))))) (fun j hj => by match j, hj with | 0, _ => exact (cd_l (cd_r (cd_l (cd_l (cd_l (cd_r (cd_l (cd_r (cd_r hgv))))))))) | 1, _ => exact (cd_r (cd_r (cd_l (cd_l (cd_l (cd_r (cd_l (cd_r (cd_r hgv))))))))) | 2, _ => exact (cd_l (cd_l (cd_r (cd_l (cd_l (cd_r (cd_l (cd_r (cd_r hgv))))))))) | 3, _ => exact (cd_r (cd_l (cd_r (cd_l (cd_l (cd_r (cd_l (cd_r (cd_r hgv))))))))) | 4, _ => exact (cd_l (cd_r (cd_r (cd_l (cd_l (cd_r (cd_l (cd_r (cd_r hgv))))))))) | j + 5, hj => exact absurd hj (by simp)), List.forall_mem_cons.mpr ⟨so_one (by decide +kernel) hA hz1 hz2 (hts _ (List.mem_append_right _ n_t1171)) (cd_r (cd_l (cd_l (cd_l (cd_r (cd_r (cd_l (cd_r (cd_r hgv))))))))) (cd_l (cd_r (cd_l (cd_l (cd_r (cd_r (cd_l (cd_r (cd_r hgv))))))))) (cd_l (cd_r (cd_r (cd_l (cd_l (cd_r (cd_r (cd_l (cd_r (cd_r hgv)))))))))) (cd_r (cd_r (cd_r (cd_l (cd_l (cd_r (cd_r (cd_l (cd_r (cd_r hgv)))))))))) (fun j hj => by match j, hj with | 0, _ => exact (cd_l (cd_l (cd_r (cd_l (cd_r (cd_r (cd_l (cd_r (cd_r hgv))))))))) | 1, _ => exact (cd_r (cd_l (cd_r (cd_l (cd_r (cd_r (cd_l (cd_r (cd_r hgv))))))))) | 2, _ => exact (cd_l (cd_r (cd_r (cd_l (cd_r (cd_r (cd_l (cd_r (cd_r hgv))))))))) | 3, _ => exact (cd_l (cd_r (cd_r (cd_r (cd_l (cd_r (cd_r (cd_l (cd_r (cd_r hgv)))))))))) | 4, _ => exact (cd_r (cd_r (cd_r (cd_r (cd_l (cd_r (cd_r (cd_l (cd_r (cd_r hgv)))))))))) | j + 5, hj => exact absurd hj (by simp)), List.forall_mem_cons.mpr ⟨so_one (by decide +kernel) hA hz1 hz2 (hts _ (List.mem_append_right _ n_t1172)) (cd_l (cd_l (cd_r (cd_l (cd_l (cd_l (cd_r (cd_r (cd_r hgv))))))))) (cd_r (cd_l (cd_r (cd_l (cd_l (cd_l (cd_r (cd_r (cd_r hgv))))))))) (cd_l (cd_r (cd_r (cd_l (cd_l (cd_l (cd_r (cd_r (cd_r hgv))))))))) (cd_l (cd_r (cd_r (cd_r (cd_l (cd_l (cd_l (cd_r (cd_r (cd_r hgv)))))))))) (fun j hj => by match j, hj with | 0, _ => exact (cd_r (cd_r (cd_r (cd_r (cd_l (cd_l (cd_l (cd_r (cd_r (cd_r hgv)))))))))) | 1, _ => exact (cd_l (cd_l (cd_l (cd_r (cd_l (cd_l (cd_r (cd_r (cd_r hgv))))))))) | 2, _ => exact (cd_r (cd_l (cd_l (cd_r (cd_l (cd_l (cd_r (cd_r (cd_r hgv))))))))) | 3, _ => exact (cd_l (cd_r (cd_l (cd_r (cd_l (cd_l (cd_r (cd_r (cd_r hgv))))))))) | j + 4, hj => exact absurd hj (by simp)), List.forall_mem_cons.mpr ⟨so_one (by decide +kernel) hA hz1 hz2 (hts _ (List.mem_append_right _ n_t1173)) (cd_l (cd_r (cd_r (cd_r (cd_l (cd_r (cd_l (cd_r (cd_r (cd_r hgv)))))))))) (cd_r (cd_r (cd_r (cd_r (cd_l (cd_r (cd_l (cd_r (cd_r (cd_r hgv)))))))))) (cd_l (cd_l (cd_l (cd_r (cd_r (cd_l (cd_r (cd_r (cd_r hgv))))))))) (cd_r (cd_l (cd_l (cd_r (cd_r (cd_l (cd_r (cd_r (cd_r hgv))))))))) (fun j hj => by match j, hj with | 0, _ => exact (cd_l (cd_r (cd_l (cd_r (cd_r (cd_l (cd_r (cd_r (cd_r hgv))))))))) | 1, _ => exact (cd_l (cd_r (cd_r (cd_l (cd_r (cd_r (cd_l (cd_r (cd_r (cd_r hgv)))))))))) | 2, _ => exact (cd_r (cd_r (cd_r (cd_l (cd_r (cd_r (cd_l (cd_r (cd_r (cd_r hgv)))))))))) | 3, _ => exact (cd_l (cd_l (cd_r (cd_r (cd_r (cd_l (cd_r (cd_r (cd_r hgv))))))))) | 4, _ => exact (cd_r (cd_l (cd_r (cd_r (cd_r (cd_l (cd_r (cd_r (cd_r hgv))))))))) | j + 5, hj => exact absurd hj (by simp)), List.forall_mem_cons.mpr ⟨so_one (by decide +kernel) hA hz1 hz2 (hts _ (List.mem_append_right _ n_t1174)) (cd_r (cd_r (cd_r (cd_l (cd_r (cd_l (cd_r (cd_r (cd_r (cd_r hgv)))))))))) (cd_l (cd_l (cd_r (cd_r (cd_l (cd_r (cd_r (cd_r (cd_r hgv))))))))) (cd_r (cd_l (cd_r (cd_r (cd_l (cd_r (cd_r (cd_r (cd_r hgv))))))))) (cd_l (cd_r (cd_r (cd_r (cd_l (cd_r (cd_r (cd_r (cd_r hgv))))))))) (fun j hj => by match j, hj with | 0, _ => exact (cd_l (cd_r (cd_r (cd_r (cd_r (cd_l (cd_r (cd_r (cd_r (cd_r hgv)))))))))) | 1, _ => exact (cd_r (cd_r (cd_r (cd_r (cd_r (cd_l (cd_r (cd_r (cd_r (cd_r hgv)))))))))) | 2, _ => exact (cd_l (cd_l (cd_l (cd_l (cd_r (cd_r (cd_r (cd_r (cd_r hgv))))))))) | 3, _ => exact (cd_r (cd_l (cd_l (cd_l (cd_r (cd_r (cd_r (cd_r (cd_r hgv))))))))) | 4, _ => exact (cd_l (cd_r (cd_l (cd_l (cd_r (cd_r (cd_r (cd_r (cd_r hgv))))))))) | j + 5, hj => exact absurd hj (by simp)), fun _ h => absurd h List.not_mem_nil⟩⟩⟩⟩⟩⟩⟩⟩⟩⟩⟩⟩⟩⟩⟩⟩⟩⟩
end
section
theorem law_end {p : Program} {l : Launch} {e : Env} {s : State} {m : MethodId} {below : List Frame} {meth : Method} {c : Code} {b : Nat} {A : Nat → Prop} {H : Heap} {locs : List Loc} {ls : Array Slot} {cells slots : Nat} (hx : p.tables.exec = Jvm.exec) (hb : c.code = code) (hr : meth.sig.returnType = ret) (hlocks : meth.locks = false) (hAn : ∀ q : Nat, A q → s.heap.size ≤ q) (hS : va_S A s.heap H locs) (hc : cells ≤ 600000) (hs : slots ≤ 7302250) : W p l e room_1 s m #[Value.ref b] below meth c H locs cells slots (lw_Z below #[Value.ref b] s) (F0 m 1813 ls []) := by
  refine lv_iconst (v := 1) hx hb (g_4 bL_law rfl) (by decide +kernel) ?_
  refine va_forget (fun q hq => hAn _ (hS.2.2 q hq)) ?_
  refine W.widen (k := 600000) (n := 7302250) hc hs ?_
  exact lw_ret hx hb hr hlocks (g_172 bL_law rfl)

set_option maxHeartbeats 4000000 in
set_option maxRecDepth 100000 in
theorem law_0 {p : Program} {l : Launch} {e : Env} {s : State} {m : MethodId} {below : List Frame} {meth : Method} {c : Code} {b L : Nat} {xs : Nat → Int32} {A : Nat → Prop} {G : va_G} {cy : Nat → ClassId} {aX aM rR rB rO rK : Nat → Nat} (hx : p.tables.exec = Jvm.exec) (hb : c.code = code) (hr : meth.sig.returnType = ret) (hml : c.maxLocals = 4) (hown : s.vm.findClass RL = some m.cls) (hts : ∀ w ∈ BIG, w.before #[Value.ref b] s = true) (hX : va_X b L xs s s.heap) (hbl : b < s.heap.size) (hlocks : meth.locks = false) (hN : KN G cy s) (hA : ∀ q : Nat, s.heap.size ≤ q → A q) (hAn : ∀ q : Nat, A q → s.heap.size ≤ q) (hbA : ¬ A b) (hSO : SO A s s.heap) {H : Heap} {locs : List Loc} {ls : Array Slot} {kI nC nS : Nat} (hkI : kI + 6 ≤ L) (hL : L ≤ 384) (hnC : nC + 250 ≤ 600000) (hnS : nS + 4440 ≤ 7302250) {iKp : Int32} {iYe : Int32} {iTv : Int32} {fR : Nat → Int32} {tA : TA} {tB : TA} {iL : Int32} {iBs : Int32} {tU : TA} {tV : TA} {fH : Nat → Int32} {fS : Nat → Int32} {fA : Nat → Int32} {gE : Nat → Int64} {kZ : Nat} {iT1 : Int32} {iT2 : Int32} {iT3 : Int32} {iT4 : Int32} {fB : Nat → Int32} {tD : TA} {fMh : Nat → Int32} {fMo : Nat → Int32} {fMz : Nat → Int32} {gMv : Nat → Int64} {fMk : Nat → Int32} {fMa : Nat → Int32} {fMt : Nat → Int32} {kY : Nat} {fMr : Nat → Int32} {fM3 : Nat → Int32} {fMu : Nat → Int32} {fMy : Nat → Int32} {fMb : Nat → Int32} {eR : Nat → Nat → Int64} {tM : TA} {iEn : Int32} {iTk : Int32} {uP : UM} {uU : UM} {kAt : Nat} {iTo : Int32} {iFr : Int32} {JFi : Int64} {iFa : Int32} {iSt : Int32} {iLv : Int32} {iWs : Int32} {wL : UL} {uS0 : UM} {uS1 : UM} {uS2 : UM} {uS3 : UM} {uS4 : UM} {iOm : Int32} (hP : va_P G CL ((XW cy aX iKp iYe iTv fR tA tB iL iBs tU tV fH fS fA gE kZ iT1 iT2 iT3 iT4 fB tD) ++ ((MK cy aM rR rB rO rK fMh fMo fMz gMv fMk fMa fMt kY fMr fM3 fMu fMy fMb eR tM iEn iTk uP uU kAt iTo iFr JFi iFa iSt iLv iWs wL uS0 uS1 uS2 uS3 uS4 iOm) ++ ((oM cy uU) ++ ((oL cy wL) ++ ((oM cy uP) ++ (oM cy uS0 ++ (oM cy uS1 ++ (oM cy uS2 ++ (oM cy uS3 ++ oM cy uS4))))))))) H) (hD : va_D A ((XW cy aX iKp iYe iTv fR tA tB iL iBs tU tV fH fS fA gE kZ iT1 iT2 iT3 iT4 fB tD) ++ ((MK cy aM rR rB rO rK fMh fMo fMz gMv fMk fMa fMt kY fMr fM3 fMu fMy fMb eR tM iEn iTk uP uU kAt iTo iFr JFi iFa iSt iLv iWs wL uS0 uS1 uS2 uS3 uS4 iOm) ++ ((oM cy uU) ++ ((oL cy wL) ++ ((oM cy uP) ++ (oM cy uS0 ++ (oM cy uS1 ++ (oM cy uS2 ++ (oM cy uS3 ++ oM cy uS4)))))))))) (hsX : SX tA tB tD fS kZ) (hsM : SM tM uP fMz fMa kY) (hLR : LR iKp tA tB fH fS fA gE kZ fMh fMo fMz fMk fMa eR kY tM uP fB fMt) (hS : va_S A s.heap H locs) (hl : lv_has ls 4 [(3, .int (nI kI)), (2, .ref (aM 0)), (1, .ref (aX 0)), (0, .ref b)]) (kk : ∀ (H : Heap) (locs : List Loc), LINV G cy A H aX aM rR rB rO rK → va_S A s.heap H locs → W p l e room_1 s m #[Value.ref b] below meth c H locs (nC + 250) (nS + 4440) (lw_Z below #[Value.ref b] s) (F0 m 1807 ls [])) : W p l e room_1 s m #[Value.ref b] below meth c H locs nC nS (lw_Z below #[Value.ref b] s) (F0 m 244 ls []) := by
  refine lv_aload_n hx hb (g_43 bL_law rfl) rfl (lv_at hl 2 rfl) ?_
  refine lv_aload_n hx hb (g_42 bL_law rfl) rfl (lv_at hl 3 rfl) ?_
  refine lv_iload_n hx hb (g_29 bL_law rfl) rfl (lv_at hl 0 rfl) ?_
  refine lv_iconst (v := 1) hx hb (g_4 bL_law rfl) (by decide +kernel) ?_
  refine lv_iadd hx hb (g_96 bL_law rfl) ?_
  refine lv_seti (v := nI (kI + 1)) (nI_add _ _) ?_
  refine va_sld hx hb hX hbl hbA hS (vp_in_nI (by omega) (by omega)) (g_46 bL_law rfl) ?_
  refine lv_seti (v := xs (kI + 1)) (congrArg xs (nI_clamp (by omega))) ?_
  refine lv_aload_n hx hb (g_42 bL_law rfl) rfl (lv_at hl 3 rfl) ?_
  refine lv_iload_n hx hb (g_29 bL_law rfl) rfl (lv_at hl 0 rfl) ?_
  refine lv_iconst (v := 2) hx hb (g_5 bL_law rfl) (by decide +kernel) ?_
  refine lv_iadd hx hb (g_96 bL_law rfl) ?_
  refine lv_seti (v := nI (kI + 2)) (nI_add _ _) ?_
  refine va_sld hx hb hX hbl hbA hS (vp_in_nI (by omega) (by omega)) (g_46 bL_law rfl) ?_
  refine lv_seti (v := xs (kI + 2)) (congrArg xs (nI_clamp (by omega))) ?_
  refine lv_aload_n hx hb (g_42 bL_law rfl) rfl (lv_at hl 3 rfl) ?_
  refine lv_iload_n hx hb (g_29 bL_law rfl) rfl (lv_at hl 0 rfl) ?_
  refine lv_iconst (v := 3) hx hb (g_6 bL_law rfl) (by decide +kernel) ?_
  refine lv_iadd hx hb (g_96 bL_law rfl) ?_
  refine lv_seti (v := nI (kI + 3)) (nI_add _ _) ?_
  refine va_sld hx hb hX hbl hbA hS (vp_in_nI (by omega) (by omega)) (g_46 bL_law rfl) ?_
  refine lv_seti (v := xs (kI + 3)) (congrArg xs (nI_clamp (by omega))) ?_
  have hPD := pd_as (((zzO (aX 0) 4 [.ref (aX 2), .ref (aX 11), .ref (aX 20), .ref (aX 39), .ref (aX 44), .ref (aX 1), .int iKp, .int iYe, .int iTv] :: zzI cy (aX 1) 5 fR :: zzO (aX 2) 3 [.int (nI (T_nb tA)), .int (nI (T_np tA)), .int (wb (T_wh tA)), .int (wb (T_gn tA)), .int (T_sd tA), .ref (aX 3), .ref (aX 4), .ref (aX 5), .ref (aX 6), .ref (aX 7), .ref (aX 8), .ref (aX 9), .ref (aX 10)] :: zzI cy (aX 3) 8 (T_wo tA) :: zzI cy (aX 4) 8 (T_ne tA) :: zzI cy (aX 5) 8 (T_go tA) :: zzI cy (aX 6) 8 (T_ag tA) :: zzI cy (aX 7) 8 (T_re tA) :: zzI cy (aX 8) 8 (T_me tA) :: zzI cy (aX 9) 8 (T_te tA) :: zzI cy (aX 10) 64 (shF (T_kn tA)) :: zzO (aX 11) 3 [.int (nI (T_nb tB)), .int (nI (T_np tB)), .int (wb (T_wh tB)), .int (wb (T_gn tB)), .int (T_sd tB), .ref (aX 12), .ref (aX 13), .ref (aX 14), .ref (aX 15), .ref (aX 16), .ref (aX 17), .ref (aX 18), .ref (aX 19)] :: zzI cy (aX 12) 8 (T_wo tB) :: zzI cy (aX 13) 8 (T_ne tB) :: zzI cy (aX 14) 8 (T_go tB) :: zzI cy (aX 15) 8 (T_ag tB) :: zzI cy (aX 16) 8 (T_re tB) :: zzI cy (aX 17) 8 (T_me tB) :: zzI cy (aX 18) 8 (T_te tB) :: zzI cy (aX 19) 64 (shF (T_kn tB)) :: zzO (aX 20) 0 [.ref (aX 21), .ref (aX 30), .int iL, .int iBs] :: zzO (aX 21) 3 [.int (nI (T_nb tU)), .int (nI (T_np tU)), .int (wb (T_wh tU)), .int (wb (T_gn tU)), .int (T_sd tU), .ref (aX 22), .ref (aX 23), .ref (aX 24), .ref (aX 25), .ref (aX 26), .ref (aX 27), .ref (aX 28), .ref (aX 29)] :: zzI cy (aX 22) 8 (T_wo tU) :: zzI cy (aX 23) 8 (T_ne tU) :: zzI cy (aX 24) 8 (T_go tU) :: zzI cy (aX 25) 8 (T_ag tU) :: zzI cy (aX 26) 8 (T_re tU) :: zzI cy (aX 27) 8 (T_me tU) :: zzI cy (aX 28) 8 (T_te tU) :: zzI cy (aX 29) 64 (shF (T_kn tU)) :: zzO (aX 30) 3 [.int (nI (T_nb tV)), .int (nI (T_np tV)), .int (wb (T_wh tV)), .int (wb (T_gn tV)), .int (T_sd tV), .ref (aX 31), .ref (aX 32), .ref (aX 33), .ref (aX 34), .ref (aX 35), .ref (aX 36), .ref (aX 37), .ref (aX 38)] :: zzI cy (aX 31) 8 (T_wo tV) :: zzI cy (aX 32) 8 (T_ne tV) :: zzI cy (aX 33) 8 (T_go tV) :: zzI cy (aX 34) 8 (T_ag tV) :: zzI cy (aX 35) 8 (T_re tV) :: zzI cy (aX 36) 8 (T_me tV) :: zzI cy (aX 37) 8 (T_te tV) :: zzI cy (aX 38) 64 (shF (T_kn tV)) :: zzO (aX 39) 1 [.ref (aX 40), .ref (aX 41), .ref (aX 42), .ref (aX 43)] :: zzI cy (aX 40) 8 fH :: zzI cy (aX 41) 8 fS :: zzI cy (aX 42) 8 fA :: zzJ cy (aX 43) 320 gE :: zzO (aX 44) 2 [.ref (aX 45), .int (nI kZ), .int iT1, .int iT2, .int iT3, .int iT4, .ref (aX 46)] :: zzB cy (aX 45) 250 fB :: zzO (aX 46) 3 [.int (nI (T_nb tD)), .int (nI (T_np tD)), .int (wb (T_wh tD)), .int (wb (T_gn tD)), .int (T_sd tD), .ref (aX 47), .ref (aX 48), .ref (aX 49), .ref (aX 50), .ref (aX 51), .ref (aX 52), .ref (aX 53), .ref (aX 54)] :: zzI cy (aX 47) 8 (T_wo tD) :: zzI cy (aX 48) 8 (T_ne tD) :: zzI cy (aX 49) 8 (T_go tD) :: zzI cy (aX 50) 8 (T_ag tD) :: zzI cy (aX 51) 8 (T_re tD) :: zzI cy (aX 52) 8 (T_me tD) :: zzI cy (aX 53) 8 (T_te tD) :: zzI cy (aX 54) 64 (shF (T_kn tD)) :: []) : va_W) ++ ((MK cy aM rR rB rO rK fMh fMo fMz gMv fMk fMa fMt kY fMr fM3 fMu fMy fMb eR tM iEn iTk uP uU kAt iTo iFr JFi iFa iSt iLv iWs wL uS0 uS1 uS2 uS3 uS4 iOm) ++ ((oM cy uU) ++ ((oL cy wL) ++ ((oM cy uP) ++ (oM cy uS0 ++ (oM cy uS1 ++ (oM cy uS2 ++ (oM cy uS3 ++ oM cy uS4))))))))) hP hD rfl
  clear hP hD
  obtain ⟨hP, hD⟩ := hPD
  refine cViQ (As := [.int (xs (kI + 1)), .int (xs (kI + 2)), .int (xs (kI + 3))]) (rest := []) (b := (aX 0)) (q := (RX5, TX5, 9)) ⟨hx, hb, hml, hown, hts⟩ (p_X5_row l G cy (H).size (aX 0) (aX 2) (aX 11) (aX 20) (aX 39) (aX 44) (aX 1) iKp iYe iTv fR (aX 40) (aX 41) (aX 42) (aX 43) fH fS gE (xs (kI + 1)) (xs (kI + 2)) (xs (kI + 3)) hsX.2.2.2.1) L_L_13 hN hP hD hS hA (trueIx 0 (true :: true :: false :: false :: false :: false :: false :: false :: false :: false :: false :: false :: false :: false :: false :: false :: false :: false :: false :: false :: false :: false :: false :: false :: false :: false :: false :: false :: false :: false :: false :: false :: false :: false :: false :: false :: false :: false :: false :: true :: true :: true :: false :: true :: [])) (false :: false :: true :: true :: true :: true :: true :: true :: true :: true :: true :: true :: true :: true :: true :: true :: true :: true :: true :: true :: true :: true :: true :: true :: true :: true :: true :: true :: true :: true :: true :: true :: true :: true :: true :: true :: true :: true :: true :: false :: false :: false :: true :: false :: true :: true :: true :: true :: true :: true :: true :: true :: true :: true :: true :: []) (sel_eq rfl rfl) (by decide +kernel) rfl 0 4 rfl rfl rfl ⟨Nat.le_of_ble_eq_true rfl, Nat.le_of_ble_eq_true rfl⟩ hl.1 (Nat.le_of_ble_eq_true rfl) (g_182 (v := 13) bL_law rfl) ⟨by show nC + 0 ≤ 600000; omega, by show nS + 0 ≤ 7302250; omega⟩ (fun r_1 u_3 H locs h_2 => ?_)
  clear hP hD hS
  intro hP hD hS
  obtain ⟨fX_4, fY_5, fZ_6, gX_7, hu9, h_8, h_2⟩ := h_2
  have hPD := pd_eqQ (((_ :: _ :: _ :: _ :: _ :: _ :: _ :: _ :: _ :: _ :: _ :: _ :: _ :: _ :: _ :: _ :: _ :: _ :: _ :: _ :: _ :: _ :: _ :: _ :: _ :: _ :: _ :: _ :: _ :: _ :: _ :: _ :: _ :: _ :: _ :: _ :: _ :: _ :: _ :: _ :: _ :: _ :: _ :: _ :: _ :: _ :: _ :: _ :: _ :: _ :: zzI cy (aX 1) 5 fX_4 :: _ :: zzI cy (aX 40) 8 fY_5 :: zzI cy (aX 41) 8 fZ_6 :: zzJ cy (aX 43) 320 gX_7 :: []) : va_W) ++ ((MK cy aM rR rB rO rK fMh fMo fMz gMv fMk fMa fMt kY fMr fM3 fMu fMy fMb eR tM iEn iTk uP uU kAt iTo iFr JFi iFa iSt iLv iWs wL uS0 uS1 uS2 uS3 uS4 iOm) ++ ((oM cy uU) ++ ((oL cy wL) ++ ((oM cy uP) ++ (oM cy uS0 ++ (oM cy uS1 ++ (oM cy uS2 ++ (oM cy uS3 ++ oM cy uS4))))))))) hP hD hu9 rfl
  clear hP hD hu9
  obtain ⟨hP, hD⟩ := hPD
  have hPD := pt_as (XW cy aX iKp iYe iTv fX_4 tA tB iL iBs tU tV fY_5 fZ_6 fA gX_7 kZ iT1 iT2 iT3 iT4 fB tD) (49 :: 50 :: 0 :: 1 :: 2 :: 3 :: 4 :: 5 :: 6 :: 7 :: 8 :: 9 :: 10 :: 11 :: 12 :: 13 :: 14 :: 15 :: 16 :: 17 :: 18 :: 19 :: 20 :: 21 :: 22 :: 23 :: 24 :: 25 :: 26 :: 27 :: 28 :: 29 :: 30 :: 31 :: 32 :: 33 :: 34 :: 35 :: 36 :: 51 :: 52 :: 53 :: 37 :: 54 :: 38 :: 39 :: 40 :: 41 :: 42 :: 43 :: 44 :: 45 :: 46 :: 47 :: 48 :: []) hP hD (by decide +kernel) rfl
  clear hP hD
  obtain ⟨hP, hD⟩ := hPD
  refine lv_pop hx hb (g_87 bL_law rfl) rfl ?_
  refine lv_aload_n hx hb (g_44 bL_law rfl) rfl (lv_at hl 1 rfl) ?_
  refine lv_aload_n hx hb (g_42 bL_law rfl) rfl (lv_at hl 3 rfl) ?_
  refine lv_iload_n hx hb (g_29 bL_law rfl) rfl (lv_at hl 0 rfl) ?_
  refine lv_iconst (v := 1) hx hb (g_4 bL_law rfl) (by decide +kernel) ?_
  refine lv_iadd hx hb (g_96 bL_law rfl) ?_
  refine lv_seti (v := nI (kI + 1)) (nI_add _ _) ?_
  refine va_sld hx hb hX hbl hbA hS (vp_in_nI (by omega) (by omega)) (g_46 bL_law rfl) ?_
  refine lv_seti (v := xs (kI + 1)) (congrArg xs (nI_clamp (by omega))) ?_
  refine lv_aload_n hx hb (g_42 bL_law rfl) rfl (lv_at hl 3 rfl) ?_
  refine lv_iload_n hx hb (g_29 bL_law rfl) rfl (lv_at hl 0 rfl) ?_
  refine lv_iconst (v := 2) hx hb (g_5 bL_law rfl) (by decide +kernel) ?_
  refine lv_iadd hx hb (g_96 bL_law rfl) ?_
  refine lv_seti (v := nI (kI + 2)) (nI_add _ _) ?_
  refine va_sld hx hb hX hbl hbA hS (vp_in_nI (by omega) (by omega)) (g_46 bL_law rfl) ?_
  refine lv_seti (v := xs (kI + 2)) (congrArg xs (nI_clamp (by omega))) ?_
  refine lv_aload_n hx hb (g_42 bL_law rfl) rfl (lv_at hl 3 rfl) ?_
  refine lv_iload_n hx hb (g_29 bL_law rfl) rfl (lv_at hl 0 rfl) ?_
  refine lv_iconst (v := 3) hx hb (g_6 bL_law rfl) (by decide +kernel) ?_
  refine lv_iadd hx hb (g_96 bL_law rfl) ?_
  refine lv_seti (v := nI (kI + 3)) (nI_add _ _) ?_
  refine va_sld hx hb hX hbl hbA hS (vp_in_nI (by omega) (by omega)) (g_46 bL_law rfl) ?_
  refine lv_seti (v := xs (kI + 3)) (congrArg xs (nI_clamp (by omega))) ?_
  replace hP : va_P G CL ((MK cy aM rR rB rO rK fMh fMo fMz gMv fMk fMa fMt kY fMr fM3 fMu fMy fMb eR tM iEn iTk uP uU kAt iTo iFr JFi iFa iSt iLv iWs wL uS0 uS1 uS2 uS3 uS4 iOm) ++ (((oM cy uU) ++ ((oL cy wL) ++ ((oM cy uP) ++ (oM cy uS0 ++ (oM cy uS1 ++ (oM cy uS2 ++ (oM cy uS3 ++ oM cy uS4))))))) ++ (XW cy aX iKp iYe iTv fX_4 tA tB iL iBs tU tV fY_5 fZ_6 fA gX_7 kZ iT1 iT2 iT3 iT4 fB tD))) H := toNP hP
  replace hD : va_D A ((MK cy aM rR rB rO rK fMh fMo fMz gMv fMk fMa fMt kY fMr fM3 fMu fMy fMb eR tM iEn iTk uP uU kAt iTo iFr JFi iFa iSt iLv iWs wL uS0 uS1 uS2 uS3 uS4 iOm) ++ (((oM cy uU) ++ ((oL cy wL) ++ ((oM cy uP) ++ (oM cy uS0 ++ (oM cy uS1 ++ (oM cy uS2 ++ (oM cy uS3 ++ oM cy uS4))))))) ++ (XW cy aX iKp iYe iTv fX_4 tA tB iL iBs tU tV fY_5 fZ_6 fA gX_7 kZ iT1 iT2 iT3 iT4 fB tD))) := toND hD
  have hPD := pd_as (((zzO (aM 0) 5 (.ref (aM 1) :: .ref (aM 2) :: .ref (aM 3) :: .ref (aM 14) :: .ref (aM 4) :: .ref (aM 5) :: .ref (aM 6) :: .ref (aM 7) :: .int (nI kY) :: .ref (aM 8) :: .int (nI (T_nb tM)) :: .ref (aM 15) :: .int (nI (T_np tM)) :: .ref (aM 16) :: .ref (aM 17) :: .int iEn :: .int iTk :: .int (T_sd tM) :: ov uP :: ov uU :: .int (nI kAt) :: .int iTo :: .int iFr :: .long JFi :: .int iFa :: .ref (aM 9) :: .int iSt :: .int iLv :: .int iWs :: ovL wL :: .ref (aM 10) :: .ref (aM 11) :: .ref (aM 12) :: .ref (aM 13) :: .int iOm :: []) :: zzI cy (aM 1) 8 fMh :: zzI cy (aM 2) 8 fMo :: zzI cy (aM 3) 8 fMz :: zzJ cy (aM 4) 40 gMv :: zzI cy (aM 5) 8 fMk :: zzI cy (aM 6) 8 fMa :: zzI cy (aM 7) 250 fMt :: zzI cy (aM 8) 8 fMr :: zzI cy (aM 9) 3 fM3 :: zzI cy (aM 10) 8 fMu :: zzI cy (aM 11) 5 fMy :: zzI cy (aM 12) 5 fMb :: zzQ cy 5 (aM 13) 6 (sF (refU uS0) (refU uS1) (refU uS2) (refU uS3) (refU uS4)) :: zzG cy 4 (aM 14) rR :: zzJ cy (rR 0) 40 (eR 0) :: zzJ cy (rR 1) 40 (eR 1) :: zzJ cy (rR 2) 40 (eR 2) :: zzJ cy (rR 3) 40 (eR 3) :: zzJ cy (rR 4) 40 (eR 4) :: zzJ cy (rR 5) 40 (eR 5) :: zzJ cy (rR 6) 40 (eR 6) :: zzJ cy (rR 7) 40 (eR 7) :: zzG cy 3 (aM 15) rB :: zzI cy (rB 0) 4 (bkR tM 0) :: zzI cy (rB 1) 4 (bkR tM 1) :: zzI cy (rB 2) 4 (bkR tM 2) :: zzI cy (rB 3) 4 (bkR tM 3) :: zzI cy (rB 4) 4 (bkR tM 4) :: zzI cy (rB 5) 4 (bkR tM 5) :: zzI cy (rB 6) 4 (bkR tM 6) :: zzI cy (rB 7) 4 (bkR tM 7) :: zzG cy 3 (aM 16) rO :: zzI cy (rO 0) 5 (onR tM 0) :: zzI cy (rO 1) 5 (onR tM 1) :: zzI cy (rO 2) 5 (onR tM 2) :: zzI cy (rO 3) 5 (onR tM 3) :: zzI cy (rO 4) 5 (onR tM 4) :: zzI cy (rO 5) 5 (onR tM 5) :: zzI cy (rO 6) 5 (onR tM 6) :: zzI cy (rO 7) 5 (onR tM 7) :: zzG cy 3 (aM 17) rK :: zzI cy (rK 0) 8 (T_kn tM 0) :: zzI cy (rK 1) 8 (T_kn tM 1) :: zzI cy (rK 2) 8 (T_kn tM 2) :: zzI cy (rK 3) 8 (T_kn tM 3) :: zzI cy (rK 4) 8 (T_kn tM 4) :: zzI cy (rK 5) 8 (T_kn tM 5) :: zzI cy (rK 6) 8 (T_kn tM 6) :: zzI cy (rK 7) 8 (T_kn tM 7) :: []) : va_W) ++ (((oM cy uU) ++ ((oL cy wL) ++ ((oM cy uP) ++ (oM cy uS0 ++ (oM cy uS1 ++ (oM cy uS2 ++ (oM cy uS3 ++ oM cy uS4))))))) ++ (XW cy aX iKp iYe iTv fX_4 tA tB iL iBs tU tV fY_5 fZ_6 fA gX_7 kZ iT1 iT2 iT3 iT4 fB tD))) hP hD rfl
  clear hP hD
  obtain ⟨hP, hD⟩ := hPD
  refine cViQ (As := [.int (xs (kI + 1)), .int (xs (kI + 2)), .int (xs (kI + 3))]) (rest := []) (b := (aM 0)) (q := (RX6, TX6, 35)) ⟨hx, hb, hml, hown, hts⟩ (p_X6_row l G cy (H).size (aM 0) (aM 1) (aM 2) (aM 3) (aM 14) (aM 4) (aM 5) (aM 6) (aM 7) kY (aM 8) tM (aM 15) (aM 16) (aM 17) iEn iTk uP uU kAt iTo iFr JFi iFa (aM 9) iSt iLv iWs (ovL wL) (aM 10) (aM 11) (aM 12) (aM 13) iOm fMh fMo fMz rR eR fMr (xs (kI + 1)) (xs (kI + 2)) (xs (kI + 3)) hsM.2.2.1) L_L_17 hN hP hD hS hA (trueIxs [[true, true, true, true, false, false, false, false, false, false, false, false, false, false, true, true, true, true, true, true, true, true, true], [false, false, false, false, false, false, false, false, true]]) (false :: false :: false :: false :: true :: true :: true :: true :: false :: true :: true :: true :: true :: true :: false :: false :: false :: false :: false :: false :: false :: false :: false :: true :: true :: true :: true :: true :: true :: true :: true :: true :: true :: true :: true :: true :: true :: true :: true :: true :: true :: true :: true :: true :: true :: true :: true :: true :: true :: true :: []) (sels_eq rfl rfl) (by decide +kernel) rfl 0 5 rfl rfl rfl ⟨Nat.le_of_ble_eq_true rfl, Nat.le_of_ble_eq_true rfl⟩ hl.1 (Nat.le_of_ble_eq_true rfl) (g_182 (v := 17) bL_law rfl) ⟨by show nC + 0 + 0 ≤ 600000; omega, by show nS + 0 + 0 ≤ 7302250; omega⟩ (fun r_9 u_11 H locs h_10 => ?_)
  clear hP hD hS
  intro hP hD hS
  obtain ⟨fNh_12, fNo_13, fNz_14, eN_15, fNr_16, hu9, h_17, h_10⟩ := h_10
  have hPD := pd_eqQ (((_ :: _ :: _ :: _ :: _ :: _ :: _ :: _ :: _ :: _ :: _ :: _ :: _ :: _ :: _ :: _ :: _ :: _ :: _ :: _ :: _ :: _ :: _ :: _ :: _ :: _ :: _ :: _ :: _ :: _ :: _ :: _ :: _ :: _ :: _ :: _ :: _ :: zzI cy (aM 1) 8 fNh_12 :: zzI cy (aM 2) 8 fNo_13 :: zzI cy (aM 3) 8 fNz_14 :: _ :: zzJ cy (rR 0) 40 (eN_15 0) :: zzJ cy (rR 1) 40 (eN_15 1) :: zzJ cy (rR 2) 40 (eN_15 2) :: zzJ cy (rR 3) 40 (eN_15 3) :: zzJ cy (rR 4) 40 (eN_15 4) :: zzJ cy (rR 5) 40 (eN_15 5) :: zzJ cy (rR 6) 40 (eN_15 6) :: zzJ cy (rR 7) 40 (eN_15 7) :: zzI cy (aM 8) 8 fNr_16 :: []) : va_W) ++ (((oM cy uU) ++ ((oL cy wL) ++ ((oM cy uP) ++ (oM cy uS0 ++ (oM cy uS1 ++ (oM cy uS2 ++ (oM cy uS3 ++ oM cy uS4))))))) ++ (XW cy aX iKp iYe iTv fX_4 tA tB iL iBs tU tV fY_5 fZ_6 fA gX_7 kZ iT1 iT2 iT3 iT4 fB tD))) hP hD hu9 rfl
  clear hP hD hu9
  obtain ⟨hP, hD⟩ := hPD
  have hPD := pt_as (MK cy aM rR rB rO rK fNh_12 fNo_13 fNz_14 gMv fMk fMa fMt kY fNr_16 fM3 fMu fMy fMb eN_15 tM iEn iTk uP uU kAt iTo iFr JFi iFa iSt iLv iWs wL uS0 uS1 uS2 uS3 uS4 iOm) (36 :: 37 :: 38 :: 39 :: 0 :: 1 :: 2 :: 3 :: 49 :: 4 :: 5 :: 6 :: 7 :: 8 :: 40 :: 41 :: 42 :: 43 :: 44 :: 45 :: 46 :: 47 :: 48 :: 9 :: 10 :: 11 :: 12 :: 13 :: 14 :: 15 :: 16 :: 17 :: 18 :: 19 :: 20 :: 21 :: 22 :: 23 :: 24 :: 25 :: 26 :: 27 :: 28 :: 29 :: 30 :: 31 :: 32 :: 33 :: 34 :: 35 :: []) hP hD (by decide +kernel) rfl
  clear hP hD
  obtain ⟨hP, hD⟩ := hPD
  replace hP : va_P G CL ((XW cy aX iKp iYe iTv fX_4 tA tB iL iBs tU tV fY_5 fZ_6 fA gX_7 kZ iT1 iT2 iT3 iT4 fB tD) ++ ((MK cy aM rR rB rO rK fNh_12 fNo_13 fNz_14 gMv fMk fMa fMt kY fNr_16 fM3 fMu fMy fMb eN_15 tM iEn iTk uP uU kAt iTo iFr JFi iFa iSt iLv iWs wL uS0 uS1 uS2 uS3 uS4 iOm) ++ ((oM cy uU) ++ ((oL cy wL) ++ ((oM cy uP) ++ (oM cy uS0 ++ (oM cy uS1 ++ (oM cy uS2 ++ (oM cy uS3 ++ oM cy uS4))))))))) H := ofNP hP
  replace hD : va_D A ((XW cy aX iKp iYe iTv fX_4 tA tB iL iBs tU tV fY_5 fZ_6 fA gX_7 kZ iT1 iT2 iT3 iT4 fB tD) ++ ((MK cy aM rR rB rO rK fNh_12 fNo_13 fNz_14 gMv fMk fMa fMt kY fNr_16 fM3 fMu fMy fMb eN_15 tM iEn iTk uP uU kAt iTo iFr JFi iFa iSt iLv iWs wL uS0 uS1 uS2 uS3 uS4 iOm) ++ ((oM cy uU) ++ ((oL cy wL) ++ ((oM cy uP) ++ (oM cy uS0 ++ (oM cy uS1 ++ (oM cy uS2 ++ (oM cy uS3 ++ oM cy uS4))))))))) := ofND hD
  refine lv_pop hx hb (g_87 bL_law rfl) rfl ?_
  refine lv_goto (tgt := 1807) hx hb dL_law_284 (by decide +kernel) ?_
  refine W.widen (k := nC + 250) (n := nS + 4440) (by omega) (by omega) ?_
  exact kk _ _ (linv_mk hP hD (sx_row hsX h_8) (sm_row hsM h_17) (⟨⟨hLR.1.1, hLR.1.2.1, row_k hLR.1.2.2 h_8 h_17⟩, hLR.2⟩)) hS
set_option maxHeartbeats 4000000 in
set_option maxRecDepth 100000 in
theorem law_1 {p : Program} {l : Launch} {e : Env} {s : State} {m : MethodId} {below : List Frame} {meth : Method} {c : Code} {b L : Nat} {xs : Nat → Int32} {A : Nat → Prop} {G : va_G} {cy : Nat → ClassId} {aX aM rR rB rO rK : Nat → Nat} (hx : p.tables.exec = Jvm.exec) (hb : c.code = code) (hr : meth.sig.returnType = ret) (hml : c.maxLocals = 4) (hown : s.vm.findClass RL = some m.cls) (hts : ∀ w ∈ BIG, w.before #[Value.ref b] s = true) (hX : va_X b L xs s s.heap) (hbl : b < s.heap.size) (hlocks : meth.locks = false) (hN : KN G cy s) (hA : ∀ q : Nat, s.heap.size ≤ q → A q) (hAn : ∀ q : Nat, A q → s.heap.size ≤ q) (hbA : ¬ A b) (hSO : SO A s s.heap) {H : Heap} {locs : List Loc} {ls : Array Slot} {kI nC nS : Nat} (hkI : kI + 6 ≤ L) (hL : L ≤ 384) (hnC : nC + 250 ≤ 600000) (hnS : nS + 4440 ≤ 7302250) {iKp : Int32} {iYe : Int32} {iTv : Int32} {fR : Nat → Int32} {tA : TA} {tB : TA} {iL : Int32} {iBs : Int32} {tU : TA} {tV : TA} {fH : Nat → Int32} {fS : Nat → Int32} {fA : Nat → Int32} {gE : Nat → Int64} {kZ : Nat} {iT1 : Int32} {iT2 : Int32} {iT3 : Int32} {iT4 : Int32} {fB : Nat → Int32} {tD : TA} {fMh : Nat → Int32} {fMo : Nat → Int32} {fMz : Nat → Int32} {gMv : Nat → Int64} {fMk : Nat → Int32} {fMa : Nat → Int32} {fMt : Nat → Int32} {kY : Nat} {fMr : Nat → Int32} {fM3 : Nat → Int32} {fMu : Nat → Int32} {fMy : Nat → Int32} {fMb : Nat → Int32} {eR : Nat → Nat → Int64} {tM : TA} {iEn : Int32} {iTk : Int32} {uP : UM} {uU : UM} {kAt : Nat} {iTo : Int32} {iFr : Int32} {JFi : Int64} {iFa : Int32} {iSt : Int32} {iLv : Int32} {iWs : Int32} {wL : UL} {uS0 : UM} {uS1 : UM} {uS2 : UM} {uS3 : UM} {uS4 : UM} {iOm : Int32} (hP : va_P G CL ((XW cy aX iKp iYe iTv fR tA tB iL iBs tU tV fH fS fA gE kZ iT1 iT2 iT3 iT4 fB tD) ++ ((MK cy aM rR rB rO rK fMh fMo fMz gMv fMk fMa fMt kY fMr fM3 fMu fMy fMb eR tM iEn iTk uP uU kAt iTo iFr JFi iFa iSt iLv iWs wL uS0 uS1 uS2 uS3 uS4 iOm) ++ ((oM cy uU) ++ ((oL cy wL) ++ ((oM cy uP) ++ (oM cy uS0 ++ (oM cy uS1 ++ (oM cy uS2 ++ (oM cy uS3 ++ oM cy uS4))))))))) H) (hD : va_D A ((XW cy aX iKp iYe iTv fR tA tB iL iBs tU tV fH fS fA gE kZ iT1 iT2 iT3 iT4 fB tD) ++ ((MK cy aM rR rB rO rK fMh fMo fMz gMv fMk fMa fMt kY fMr fM3 fMu fMy fMb eR tM iEn iTk uP uU kAt iTo iFr JFi iFa iSt iLv iWs wL uS0 uS1 uS2 uS3 uS4 iOm) ++ ((oM cy uU) ++ ((oL cy wL) ++ ((oM cy uP) ++ (oM cy uS0 ++ (oM cy uS1 ++ (oM cy uS2 ++ (oM cy uS3 ++ oM cy uS4)))))))))) (hsX : SX tA tB tD fS kZ) (hsM : SM tM uP fMz fMa kY) (hLR : LR iKp tA tB fH fS fA gE kZ fMh fMo fMz fMk fMa eR kY tM uP fB fMt) (hS : va_S A s.heap H locs) (hl : lv_has ls 4 [(3, .int (nI kI)), (2, .ref (aM 0)), (1, .ref (aX 0)), (0, .ref b)]) (kk : ∀ (H : Heap) (locs : List Loc), LINV G cy A H aX aM rR rB rO rK → va_S A s.heap H locs → W p l e room_1 s m #[Value.ref b] below meth c H locs (nC + 250) (nS + 4440) (lw_Z below #[Value.ref b] s) (F0 m 1807 ls [])) : W p l e room_1 s m #[Value.ref b] below meth c H locs nC nS (lw_Z below #[Value.ref b] s) (F0 m 287 ls []) := by
  refine lv_aload_n hx hb (g_43 bL_law rfl) rfl (lv_at hl 2 rfl) ?_
  refine lv_aload_n hx hb (g_42 bL_law rfl) rfl (lv_at hl 3 rfl) ?_
  refine lv_iload_n hx hb (g_29 bL_law rfl) rfl (lv_at hl 0 rfl) ?_
  refine lv_iconst (v := 1) hx hb (g_4 bL_law rfl) (by decide +kernel) ?_
  refine lv_iadd hx hb (g_96 bL_law rfl) ?_
  refine lv_seti (v := nI (kI + 1)) (nI_add _ _) ?_
  refine va_sld hx hb hX hbl hbA hS (vp_in_nI (by omega) (by omega)) (g_46 bL_law rfl) ?_
  refine lv_seti (v := xs (kI + 1)) (congrArg xs (nI_clamp (by omega))) ?_
  refine lv_aload_n hx hb (g_42 bL_law rfl) rfl (lv_at hl 3 rfl) ?_
  refine lv_iload_n hx hb (g_29 bL_law rfl) rfl (lv_at hl 0 rfl) ?_
  refine lv_iconst (v := 2) hx hb (g_5 bL_law rfl) (by decide +kernel) ?_
  refine lv_iadd hx hb (g_96 bL_law rfl) ?_
  refine lv_seti (v := nI (kI + 2)) (nI_add _ _) ?_
  refine va_sld hx hb hX hbl hbA hS (vp_in_nI (by omega) (by omega)) (g_46 bL_law rfl) ?_
  refine lv_seti (v := xs (kI + 2)) (congrArg xs (nI_clamp (by omega))) ?_
  refine lv_aload_n hx hb (g_42 bL_law rfl) rfl (lv_at hl 3 rfl) ?_
  refine lv_iload_n hx hb (g_29 bL_law rfl) rfl (lv_at hl 0 rfl) ?_
  refine lv_iconst (v := 3) hx hb (g_6 bL_law rfl) (by decide +kernel) ?_
  refine lv_iadd hx hb (g_96 bL_law rfl) ?_
  refine lv_seti (v := nI (kI + 3)) (nI_add _ _) ?_
  refine va_sld hx hb hX hbl hbA hS (vp_in_nI (by omega) (by omega)) (g_46 bL_law rfl) ?_
  refine lv_seti (v := xs (kI + 3)) (congrArg xs (nI_clamp (by omega))) ?_
  refine lv_i2l (v := (xs (kI + 3)).toInt64) hx hb (g_133 bL_law rfl) rfl ?_
  refine lv_bipush (v := 32) hx hb dL_law_304 (by decide +kernel) ?_
  refine lv_lshl (v := ((xs (kI + 3)).toInt64) <<< ((32 : Int32).toInt64 &&& 63)) hx hb (g_121 bL_law rfl) rfl ?_
  refine lv_aload_n hx hb (g_42 bL_law rfl) rfl (lv_at hl 3 rfl) ?_
  refine lv_iload_n hx hb (g_29 bL_law rfl) rfl (lv_at hl 0 rfl) ?_
  refine lv_iconst (v := 4) hx hb (g_7 bL_law rfl) (by decide +kernel) ?_
  refine lv_iadd hx hb (g_96 bL_law rfl) ?_
  refine lv_seti (v := nI (kI + 4)) (nI_add _ _) ?_
  refine va_sld hx hb hX hbl hbA hS (vp_in_nI (by omega) (by omega)) (g_46 bL_law rfl) ?_
  refine lv_seti (v := xs (kI + 4)) (congrArg xs (nI_clamp (by omega))) ?_
  refine lv_i2l (v := (xs (kI + 4)).toInt64) hx hb (g_133 bL_law rfl) rfl ?_
  refine lv_ldc2 hx hb hown (hts _ m_t1392) (g_20 (v := 18) bL_law rfl) ?_
  refine lv_land hx hb (g_127 bL_law rfl) ?_
  refine lv_lor hx hb (g_129 bL_law rfl) ?_
  have hPD := pd_as (((zzO (aX 0) 4 [.ref (aX 2), .ref (aX 11), .ref (aX 20), .ref (aX 39), .ref (aX 44), .ref (aX 1), .int iKp, .int iYe, .int iTv] :: zzI cy (aX 1) 5 fR :: zzO (aX 2) 3 [.int (nI (T_nb tA)), .int (nI (T_np tA)), .int (wb (T_wh tA)), .int (wb (T_gn tA)), .int (T_sd tA), .ref (aX 3), .ref (aX 4), .ref (aX 5), .ref (aX 6), .ref (aX 7), .ref (aX 8), .ref (aX 9), .ref (aX 10)] :: zzI cy (aX 3) 8 (T_wo tA) :: zzI cy (aX 4) 8 (T_ne tA) :: zzI cy (aX 5) 8 (T_go tA) :: zzI cy (aX 6) 8 (T_ag tA) :: zzI cy (aX 7) 8 (T_re tA) :: zzI cy (aX 8) 8 (T_me tA) :: zzI cy (aX 9) 8 (T_te tA) :: zzI cy (aX 10) 64 (shF (T_kn tA)) :: zzO (aX 11) 3 [.int (nI (T_nb tB)), .int (nI (T_np tB)), .int (wb (T_wh tB)), .int (wb (T_gn tB)), .int (T_sd tB), .ref (aX 12), .ref (aX 13), .ref (aX 14), .ref (aX 15), .ref (aX 16), .ref (aX 17), .ref (aX 18), .ref (aX 19)] :: zzI cy (aX 12) 8 (T_wo tB) :: zzI cy (aX 13) 8 (T_ne tB) :: zzI cy (aX 14) 8 (T_go tB) :: zzI cy (aX 15) 8 (T_ag tB) :: zzI cy (aX 16) 8 (T_re tB) :: zzI cy (aX 17) 8 (T_me tB) :: zzI cy (aX 18) 8 (T_te tB) :: zzI cy (aX 19) 64 (shF (T_kn tB)) :: zzO (aX 20) 0 [.ref (aX 21), .ref (aX 30), .int iL, .int iBs] :: zzO (aX 21) 3 [.int (nI (T_nb tU)), .int (nI (T_np tU)), .int (wb (T_wh tU)), .int (wb (T_gn tU)), .int (T_sd tU), .ref (aX 22), .ref (aX 23), .ref (aX 24), .ref (aX 25), .ref (aX 26), .ref (aX 27), .ref (aX 28), .ref (aX 29)] :: zzI cy (aX 22) 8 (T_wo tU) :: zzI cy (aX 23) 8 (T_ne tU) :: zzI cy (aX 24) 8 (T_go tU) :: zzI cy (aX 25) 8 (T_ag tU) :: zzI cy (aX 26) 8 (T_re tU) :: zzI cy (aX 27) 8 (T_me tU) :: zzI cy (aX 28) 8 (T_te tU) :: zzI cy (aX 29) 64 (shF (T_kn tU)) :: zzO (aX 30) 3 [.int (nI (T_nb tV)), .int (nI (T_np tV)), .int (wb (T_wh tV)), .int (wb (T_gn tV)), .int (T_sd tV), .ref (aX 31), .ref (aX 32), .ref (aX 33), .ref (aX 34), .ref (aX 35), .ref (aX 36), .ref (aX 37), .ref (aX 38)] :: zzI cy (aX 31) 8 (T_wo tV) :: zzI cy (aX 32) 8 (T_ne tV) :: zzI cy (aX 33) 8 (T_go tV) :: zzI cy (aX 34) 8 (T_ag tV) :: zzI cy (aX 35) 8 (T_re tV) :: zzI cy (aX 36) 8 (T_me tV) :: zzI cy (aX 37) 8 (T_te tV) :: zzI cy (aX 38) 64 (shF (T_kn tV)) :: zzO (aX 39) 1 [.ref (aX 40), .ref (aX 41), .ref (aX 42), .ref (aX 43)] :: zzI cy (aX 40) 8 fH :: zzI cy (aX 41) 8 fS :: zzI cy (aX 42) 8 fA :: zzJ cy (aX 43) 320 gE :: zzO (aX 44) 2 [.ref (aX 45), .int (nI kZ), .int iT1, .int iT2, .int iT3, .int iT4, .ref (aX 46)] :: zzB cy (aX 45) 250 fB :: zzO (aX 46) 3 [.int (nI (T_nb tD)), .int (nI (T_np tD)), .int (wb (T_wh tD)), .int (wb (T_gn tD)), .int (T_sd tD), .ref (aX 47), .ref (aX 48), .ref (aX 49), .ref (aX 50), .ref (aX 51), .ref (aX 52), .ref (aX 53), .ref (aX 54)] :: zzI cy (aX 47) 8 (T_wo tD) :: zzI cy (aX 48) 8 (T_ne tD) :: zzI cy (aX 49) 8 (T_go tD) :: zzI cy (aX 50) 8 (T_ag tD) :: zzI cy (aX 51) 8 (T_re tD) :: zzI cy (aX 52) 8 (T_me tD) :: zzI cy (aX 53) 8 (T_te tD) :: zzI cy (aX 54) 64 (shF (T_kn tD)) :: []) : va_W) ++ ((MK cy aM rR rB rO rK fMh fMo fMz gMv fMk fMa fMt kY fMr fM3 fMu fMy fMb eR tM iEn iTk uP uU kAt iTo iFr JFi iFa iSt iLv iWs wL uS0 uS1 uS2 uS3 uS4 iOm) ++ ((oM cy uU) ++ ((oL cy wL) ++ ((oM cy uP) ++ (oM cy uS0 ++ (oM cy uS1 ++ (oM cy uS2 ++ (oM cy uS3 ++ oM cy uS4))))))))) hP hD rfl
  clear hP hD
  obtain ⟨hP, hD⟩ := hPD
  refine cViQ (As := [.int (xs (kI + 1)), .int (xs (kI + 2)), .long ((((xs (kI + 3)).toInt64) <<< ((32 : Int32).toInt64 &&& 63)) ||| (((xs (kI + 4)).toInt64) &&& 4294967295))]) (rest := []) (b := (aX 0)) (q := (RX5, TX5, 9)) ⟨hx, hb, hml, hown, hts⟩ (p_X5_set l G cy (H).size (aX 0) (aX 2) (aX 11) (aX 20) (aX 39) (aX 44) (aX 1) iKp iYe iTv fR (aX 40) (aX 41) (aX 42) (aX 43) fH fS gE (xs (kI + 1)) (xs (kI + 2)) ((((xs (kI + 3)).toInt64) <<< ((32 : Int32).toInt64 &&& 63)) ||| (((xs (kI + 4)).toInt64) &&& 4294967295)) hsX.2.2.2.1) L_L_20 hN hP hD hS hA (trueIx 0 (true :: true :: false :: false :: false :: false :: false :: false :: false :: false :: false :: false :: false :: false :: false :: false :: false :: false :: false :: false :: false :: false :: false :: false :: false :: false :: false :: false :: false :: false :: false :: false :: false :: false :: false :: false :: false :: false :: false :: true :: true :: true :: false :: true :: [])) (false :: false :: true :: true :: true :: true :: true :: true :: true :: true :: true :: true :: true :: true :: true :: true :: true :: true :: true :: true :: true :: true :: true :: true :: true :: true :: true :: true :: true :: true :: true :: true :: true :: true :: true :: true :: true :: true :: true :: false :: false :: false :: true :: false :: true :: true :: true :: true :: true :: true :: true :: true :: true :: true :: true :: []) (sel_eq rfl rfl) (by decide +kernel) rfl 0 4 rfl rfl rfl ⟨Nat.le_of_ble_eq_true rfl, Nat.le_of_ble_eq_true rfl⟩ hl.1 (Nat.le_of_ble_eq_true rfl) (g_182 (v := 20) bL_law rfl) ⟨by show nC + 0 ≤ 600000; omega, by show nS + 0 ≤ 7302250; omega⟩ (fun r_1 u_3 H locs h_2 => ?_)
  clear hP hD hS
  intro hP hD hS
  obtain ⟨fX_4, gX_5, hu9, h_6, h_2⟩ := h_2
  have hPD := pd_eqQ (((_ :: _ :: _ :: _ :: _ :: _ :: _ :: _ :: _ :: _ :: _ :: _ :: _ :: _ :: _ :: _ :: _ :: _ :: _ :: _ :: _ :: _ :: _ :: _ :: _ :: _ :: _ :: _ :: _ :: _ :: _ :: _ :: _ :: _ :: _ :: _ :: _ :: _ :: _ :: _ :: _ :: _ :: _ :: _ :: _ :: _ :: _ :: _ :: _ :: _ :: zzI cy (aX 1) 5 fX_4 :: _ :: _ :: _ :: zzJ cy (aX 43) 320 gX_5 :: []) : va_W) ++ ((MK cy aM rR rB rO rK fMh fMo fMz gMv fMk fMa fMt kY fMr fM3 fMu fMy fMb eR tM iEn iTk uP uU kAt iTo iFr JFi iFa iSt iLv iWs wL uS0 uS1 uS2 uS3 uS4 iOm) ++ ((oM cy uU) ++ ((oL cy wL) ++ ((oM cy uP) ++ (oM cy uS0 ++ (oM cy uS1 ++ (oM cy uS2 ++ (oM cy uS3 ++ oM cy uS4))))))))) hP hD hu9 rfl
  clear hP hD hu9
  obtain ⟨hP, hD⟩ := hPD
  have hPD := pt_as (XW cy aX iKp iYe iTv fX_4 tA tB iL iBs tU tV fH fS fA gX_5 kZ iT1 iT2 iT3 iT4 fB tD) (49 :: 50 :: 0 :: 1 :: 2 :: 3 :: 4 :: 5 :: 6 :: 7 :: 8 :: 9 :: 10 :: 11 :: 12 :: 13 :: 14 :: 15 :: 16 :: 17 :: 18 :: 19 :: 20 :: 21 :: 22 :: 23 :: 24 :: 25 :: 26 :: 27 :: 28 :: 29 :: 30 :: 31 :: 32 :: 33 :: 34 :: 35 :: 36 :: 51 :: 52 :: 53 :: 37 :: 54 :: 38 :: 39 :: 40 :: 41 :: 42 :: 43 :: 44 :: 45 :: 46 :: 47 :: 48 :: []) hP hD (by decide +kernel) rfl
  clear hP hD
  obtain ⟨hP, hD⟩ := hPD
  refine lv_pop hx hb (g_87 bL_law rfl) rfl ?_
  refine lv_aload_n hx hb (g_44 bL_law rfl) rfl (lv_at hl 1 rfl) ?_
  refine lv_aload_n hx hb (g_42 bL_law rfl) rfl (lv_at hl 3 rfl) ?_
  refine lv_iload_n hx hb (g_29 bL_law rfl) rfl (lv_at hl 0 rfl) ?_
  refine lv_iconst (v := 1) hx hb (g_4 bL_law rfl) (by decide +kernel) ?_
  refine lv_iadd hx hb (g_96 bL_law rfl) ?_
  refine lv_seti (v := nI (kI + 1)) (nI_add _ _) ?_
  refine va_sld hx hb hX hbl hbA hS (vp_in_nI (by omega) (by omega)) (g_46 bL_law rfl) ?_
  refine lv_seti (v := xs (kI + 1)) (congrArg xs (nI_clamp (by omega))) ?_
  refine lv_aload_n hx hb (g_42 bL_law rfl) rfl (lv_at hl 3 rfl) ?_
  refine lv_iload_n hx hb (g_29 bL_law rfl) rfl (lv_at hl 0 rfl) ?_
  refine lv_iconst (v := 2) hx hb (g_5 bL_law rfl) (by decide +kernel) ?_
  refine lv_iadd hx hb (g_96 bL_law rfl) ?_
  refine lv_seti (v := nI (kI + 2)) (nI_add _ _) ?_
  refine va_sld hx hb hX hbl hbA hS (vp_in_nI (by omega) (by omega)) (g_46 bL_law rfl) ?_
  refine lv_seti (v := xs (kI + 2)) (congrArg xs (nI_clamp (by omega))) ?_
  refine lv_aload_n hx hb (g_42 bL_law rfl) rfl (lv_at hl 3 rfl) ?_
  refine lv_iload_n hx hb (g_29 bL_law rfl) rfl (lv_at hl 0 rfl) ?_
  refine lv_iconst (v := 3) hx hb (g_6 bL_law rfl) (by decide +kernel) ?_
  refine lv_iadd hx hb (g_96 bL_law rfl) ?_
  refine lv_seti (v := nI (kI + 3)) (nI_add _ _) ?_
  refine va_sld hx hb hX hbl hbA hS (vp_in_nI (by omega) (by omega)) (g_46 bL_law rfl) ?_
  refine lv_seti (v := xs (kI + 3)) (congrArg xs (nI_clamp (by omega))) ?_
  refine lv_i2l (v := (xs (kI + 3)).toInt64) hx hb (g_133 bL_law rfl) rfl ?_
  refine lv_bipush (v := 32) hx hb dL_law_339 (by decide +kernel) ?_
  refine lv_lshl (v := ((xs (kI + 3)).toInt64) <<< ((32 : Int32).toInt64 &&& 63)) hx hb (g_121 bL_law rfl) rfl ?_
  refine lv_aload_n hx hb (g_42 bL_law rfl) rfl (lv_at hl 3 rfl) ?_
  refine lv_iload_n hx hb (g_29 bL_law rfl) rfl (lv_at hl 0 rfl) ?_
  refine lv_iconst (v := 4) hx hb (g_7 bL_law rfl) (by decide +kernel) ?_
  refine lv_iadd hx hb (g_96 bL_law rfl) ?_
  refine lv_seti (v := nI (kI + 4)) (nI_add _ _) ?_
  refine va_sld hx hb hX hbl hbA hS (vp_in_nI (by omega) (by omega)) (g_46 bL_law rfl) ?_
  refine lv_seti (v := xs (kI + 4)) (congrArg xs (nI_clamp (by omega))) ?_
  refine lv_i2l (v := (xs (kI + 4)).toInt64) hx hb (g_133 bL_law rfl) rfl ?_
  refine lv_ldc2 hx hb hown (hts _ m_t1392) (g_20 (v := 18) bL_law rfl) ?_
  refine lv_land hx hb (g_127 bL_law rfl) ?_
  refine lv_lor hx hb (g_129 bL_law rfl) ?_
  replace hP : va_P G CL ((MK cy aM rR rB rO rK fMh fMo fMz gMv fMk fMa fMt kY fMr fM3 fMu fMy fMb eR tM iEn iTk uP uU kAt iTo iFr JFi iFa iSt iLv iWs wL uS0 uS1 uS2 uS3 uS4 iOm) ++ (((oM cy uU) ++ ((oL cy wL) ++ ((oM cy uP) ++ (oM cy uS0 ++ (oM cy uS1 ++ (oM cy uS2 ++ (oM cy uS3 ++ oM cy uS4))))))) ++ (XW cy aX iKp iYe iTv fX_4 tA tB iL iBs tU tV fH fS fA gX_5 kZ iT1 iT2 iT3 iT4 fB tD))) H := toNP hP
  replace hD : va_D A ((MK cy aM rR rB rO rK fMh fMo fMz gMv fMk fMa fMt kY fMr fM3 fMu fMy fMb eR tM iEn iTk uP uU kAt iTo iFr JFi iFa iSt iLv iWs wL uS0 uS1 uS2 uS3 uS4 iOm) ++ (((oM cy uU) ++ ((oL cy wL) ++ ((oM cy uP) ++ (oM cy uS0 ++ (oM cy uS1 ++ (oM cy uS2 ++ (oM cy uS3 ++ oM cy uS4))))))) ++ (XW cy aX iKp iYe iTv fX_4 tA tB iL iBs tU tV fH fS fA gX_5 kZ iT1 iT2 iT3 iT4 fB tD))) := toND hD
  have hPD := pd_as (((zzO (aM 0) 5 (.ref (aM 1) :: .ref (aM 2) :: .ref (aM 3) :: .ref (aM 14) :: .ref (aM 4) :: .ref (aM 5) :: .ref (aM 6) :: .ref (aM 7) :: .int (nI kY) :: .ref (aM 8) :: .int (nI (T_nb tM)) :: .ref (aM 15) :: .int (nI (T_np tM)) :: .ref (aM 16) :: .ref (aM 17) :: .int iEn :: .int iTk :: .int (T_sd tM) :: ov uP :: ov uU :: .int (nI kAt) :: .int iTo :: .int iFr :: .long JFi :: .int iFa :: .ref (aM 9) :: .int iSt :: .int iLv :: .int iWs :: ovL wL :: .ref (aM 10) :: .ref (aM 11) :: .ref (aM 12) :: .ref (aM 13) :: .int iOm :: []) :: zzI cy (aM 1) 8 fMh :: zzI cy (aM 2) 8 fMo :: zzI cy (aM 3) 8 fMz :: zzJ cy (aM 4) 40 gMv :: zzI cy (aM 5) 8 fMk :: zzI cy (aM 6) 8 fMa :: zzI cy (aM 7) 250 fMt :: zzI cy (aM 8) 8 fMr :: zzI cy (aM 9) 3 fM3 :: zzI cy (aM 10) 8 fMu :: zzI cy (aM 11) 5 fMy :: zzI cy (aM 12) 5 fMb :: zzQ cy 5 (aM 13) 6 (sF (refU uS0) (refU uS1) (refU uS2) (refU uS3) (refU uS4)) :: zzG cy 4 (aM 14) rR :: zzJ cy (rR 0) 40 (eR 0) :: zzJ cy (rR 1) 40 (eR 1) :: zzJ cy (rR 2) 40 (eR 2) :: zzJ cy (rR 3) 40 (eR 3) :: zzJ cy (rR 4) 40 (eR 4) :: zzJ cy (rR 5) 40 (eR 5) :: zzJ cy (rR 6) 40 (eR 6) :: zzJ cy (rR 7) 40 (eR 7) :: zzG cy 3 (aM 15) rB :: zzI cy (rB 0) 4 (bkR tM 0) :: zzI cy (rB 1) 4 (bkR tM 1) :: zzI cy (rB 2) 4 (bkR tM 2) :: zzI cy (rB 3) 4 (bkR tM 3) :: zzI cy (rB 4) 4 (bkR tM 4) :: zzI cy (rB 5) 4 (bkR tM 5) :: zzI cy (rB 6) 4 (bkR tM 6) :: zzI cy (rB 7) 4 (bkR tM 7) :: zzG cy 3 (aM 16) rO :: zzI cy (rO 0) 5 (onR tM 0) :: zzI cy (rO 1) 5 (onR tM 1) :: zzI cy (rO 2) 5 (onR tM 2) :: zzI cy (rO 3) 5 (onR tM 3) :: zzI cy (rO 4) 5 (onR tM 4) :: zzI cy (rO 5) 5 (onR tM 5) :: zzI cy (rO 6) 5 (onR tM 6) :: zzI cy (rO 7) 5 (onR tM 7) :: zzG cy 3 (aM 17) rK :: zzI cy (rK 0) 8 (T_kn tM 0) :: zzI cy (rK 1) 8 (T_kn tM 1) :: zzI cy (rK 2) 8 (T_kn tM 2) :: zzI cy (rK 3) 8 (T_kn tM 3) :: zzI cy (rK 4) 8 (T_kn tM 4) :: zzI cy (rK 5) 8 (T_kn tM 5) :: zzI cy (rK 6) 8 (T_kn tM 6) :: zzI cy (rK 7) 8 (T_kn tM 7) :: []) : va_W) ++ (((oM cy uU) ++ ((oL cy wL) ++ ((oM cy uP) ++ (oM cy uS0 ++ (oM cy uS1 ++ (oM cy uS2 ++ (oM cy uS3 ++ oM cy uS4))))))) ++ (XW cy aX iKp iYe iTv fX_4 tA tB iL iBs tU tV fH fS fA gX_5 kZ iT1 iT2 iT3 iT4 fB tD))) hP hD rfl
  clear hP hD
  obtain ⟨hP, hD⟩ := hPD
  refine cViQ (As := [.int (xs (kI + 1)), .int (xs (kI + 2)), .long ((((xs (kI + 3)).toInt64) <<< ((32 : Int32).toInt64 &&& 63)) ||| (((xs (kI + 4)).toInt64) &&& 4294967295))]) (rest := []) (b := (aM 0)) (q := (RX6, TX6, 35)) ⟨hx, hb, hml, hown, hts⟩ (p_X6_set l G cy (H).size (aM 0) (aM 1) (aM 2) (aM 3) (aM 14) (aM 4) (aM 5) (aM 6) (aM 7) kY (aM 8) tM (aM 15) (aM 16) (aM 17) iEn iTk uP uU kAt iTo iFr JFi iFa (aM 9) iSt iLv iWs (ovL wL) (aM 10) (aM 11) (aM 12) (aM 13) iOm fMh fMo fMz rR eR fMr (xs (kI + 1)) (xs (kI + 2)) ((((xs (kI + 3)).toInt64) <<< ((32 : Int32).toInt64 &&& 63)) ||| (((xs (kI + 4)).toInt64) &&& 4294967295)) hsM.2.2.1) L_L_24 hN hP hD hS hA (trueIxs [[true, true, true, true, false, false, false, false, false, false, false, false, false, false, true, true, true, true, true, true, true, true, true], [false, false, false, false, false, false, false, false, true]]) (false :: false :: false :: false :: true :: true :: true :: true :: false :: true :: true :: true :: true :: true :: false :: false :: false :: false :: false :: false :: false :: false :: false :: true :: true :: true :: true :: true :: true :: true :: true :: true :: true :: true :: true :: true :: true :: true :: true :: true :: true :: true :: true :: true :: true :: true :: true :: true :: true :: true :: []) (sels_eq rfl rfl) (by decide +kernel) rfl 0 5 rfl rfl rfl ⟨Nat.le_of_ble_eq_true rfl, Nat.le_of_ble_eq_true rfl⟩ hl.1 (Nat.le_of_ble_eq_true rfl) (g_182 (v := 24) bL_law rfl) ⟨by show nC + 0 + 0 ≤ 600000; omega, by show nS + 0 + 0 ≤ 7302250; omega⟩ (fun r_7 u_9 H locs h_8 => ?_)
  clear hP hD hS
  intro hP hD hS
  obtain ⟨eN_10, fNr_11, hu9, h_12, h_8⟩ := h_8
  have hPD := pd_eqQ (((_ :: _ :: _ :: _ :: _ :: _ :: _ :: _ :: _ :: _ :: _ :: _ :: _ :: _ :: _ :: _ :: _ :: _ :: _ :: _ :: _ :: _ :: _ :: _ :: _ :: _ :: _ :: _ :: _ :: _ :: _ :: _ :: _ :: _ :: _ :: _ :: _ :: _ :: _ :: _ :: _ :: zzJ cy (rR 0) 40 (eN_10 0) :: zzJ cy (rR 1) 40 (eN_10 1) :: zzJ cy (rR 2) 40 (eN_10 2) :: zzJ cy (rR 3) 40 (eN_10 3) :: zzJ cy (rR 4) 40 (eN_10 4) :: zzJ cy (rR 5) 40 (eN_10 5) :: zzJ cy (rR 6) 40 (eN_10 6) :: zzJ cy (rR 7) 40 (eN_10 7) :: zzI cy (aM 8) 8 fNr_11 :: []) : va_W) ++ (((oM cy uU) ++ ((oL cy wL) ++ ((oM cy uP) ++ (oM cy uS0 ++ (oM cy uS1 ++ (oM cy uS2 ++ (oM cy uS3 ++ oM cy uS4))))))) ++ (XW cy aX iKp iYe iTv fX_4 tA tB iL iBs tU tV fH fS fA gX_5 kZ iT1 iT2 iT3 iT4 fB tD))) hP hD hu9 rfl
  clear hP hD hu9
  obtain ⟨hP, hD⟩ := hPD
  have hPD := pt_as (MK cy aM rR rB rO rK fMh fMo fMz gMv fMk fMa fMt kY fNr_11 fM3 fMu fMy fMb eN_10 tM iEn iTk uP uU kAt iTo iFr JFi iFa iSt iLv iWs wL uS0 uS1 uS2 uS3 uS4 iOm) (36 :: 37 :: 38 :: 39 :: 0 :: 1 :: 2 :: 3 :: 49 :: 4 :: 5 :: 6 :: 7 :: 8 :: 40 :: 41 :: 42 :: 43 :: 44 :: 45 :: 46 :: 47 :: 48 :: 9 :: 10 :: 11 :: 12 :: 13 :: 14 :: 15 :: 16 :: 17 :: 18 :: 19 :: 20 :: 21 :: 22 :: 23 :: 24 :: 25 :: 26 :: 27 :: 28 :: 29 :: 30 :: 31 :: 32 :: 33 :: 34 :: 35 :: []) hP hD (by decide +kernel) rfl
  clear hP hD
  obtain ⟨hP, hD⟩ := hPD
  replace hP : va_P G CL ((XW cy aX iKp iYe iTv fX_4 tA tB iL iBs tU tV fH fS fA gX_5 kZ iT1 iT2 iT3 iT4 fB tD) ++ ((MK cy aM rR rB rO rK fMh fMo fMz gMv fMk fMa fMt kY fNr_11 fM3 fMu fMy fMb eN_10 tM iEn iTk uP uU kAt iTo iFr JFi iFa iSt iLv iWs wL uS0 uS1 uS2 uS3 uS4 iOm) ++ ((oM cy uU) ++ ((oL cy wL) ++ ((oM cy uP) ++ (oM cy uS0 ++ (oM cy uS1 ++ (oM cy uS2 ++ (oM cy uS3 ++ oM cy uS4))))))))) H := ofNP hP
  replace hD : va_D A ((XW cy aX iKp iYe iTv fX_4 tA tB iL iBs tU tV fH fS fA gX_5 kZ iT1 iT2 iT3 iT4 fB tD) ++ ((MK cy aM rR rB rO rK fMh fMo fMz gMv fMk fMa fMt kY fNr_11 fM3 fMu fMy fMb eN_10 tM iEn iTk uP uU kAt iTo iFr JFi iFa iSt iLv iWs wL uS0 uS1 uS2 uS3 uS4 iOm) ++ ((oM cy uU) ++ ((oL cy wL) ++ ((oM cy uP) ++ (oM cy uS0 ++ (oM cy uS1 ++ (oM cy uS2 ++ (oM cy uS3 ++ oM cy uS4))))))))) := ofND hD
  refine lv_pop hx hb (g_87 bL_law rfl) rfl ?_
  refine lv_goto (tgt := 1807) hx hb dL_law_357 (by decide +kernel) ?_
  refine W.widen (k := nC + 250) (n := nS + 4440) (by omega) (by omega) ?_
  exact kk _ _ (linv_mk hP hD (hsX) (hsM) (⟨⟨hLR.1.1, hLR.1.2.1, (set_k hLR.1.2.2 h_6 h_12).2⟩, hLR.2⟩)) hS
set_option maxHeartbeats 4000000 in
set_option maxRecDepth 100000 in
theorem law_2 {p : Program} {l : Launch} {e : Env} {s : State} {m : MethodId} {below : List Frame} {meth : Method} {c : Code} {b L : Nat} {xs : Nat → Int32} {A : Nat → Prop} {G : va_G} {cy : Nat → ClassId} {aX aM rR rB rO rK : Nat → Nat} (hx : p.tables.exec = Jvm.exec) (hb : c.code = code) (hr : meth.sig.returnType = ret) (hml : c.maxLocals = 4) (hown : s.vm.findClass RL = some m.cls) (hts : ∀ w ∈ BIG, w.before #[Value.ref b] s = true) (hX : va_X b L xs s s.heap) (hbl : b < s.heap.size) (hlocks : meth.locks = false) (hN : KN G cy s) (hA : ∀ q : Nat, s.heap.size ≤ q → A q) (hAn : ∀ q : Nat, A q → s.heap.size ≤ q) (hbA : ¬ A b) (hSO : SO A s s.heap) {H : Heap} {locs : List Loc} {ls : Array Slot} {kI nC nS : Nat} (hkI : kI + 6 ≤ L) (hL : L ≤ 384) (hnC : nC + 250 ≤ 600000) (hnS : nS + 4440 ≤ 7302250) {iKp : Int32} {iYe : Int32} {iTv : Int32} {fR : Nat → Int32} {tA : TA} {tB : TA} {iL : Int32} {iBs : Int32} {tU : TA} {tV : TA} {fH : Nat → Int32} {fS : Nat → Int32} {fA : Nat → Int32} {gE : Nat → Int64} {kZ : Nat} {iT1 : Int32} {iT2 : Int32} {iT3 : Int32} {iT4 : Int32} {fB : Nat → Int32} {tD : TA} {fMh : Nat → Int32} {fMo : Nat → Int32} {fMz : Nat → Int32} {gMv : Nat → Int64} {fMk : Nat → Int32} {fMa : Nat → Int32} {fMt : Nat → Int32} {kY : Nat} {fMr : Nat → Int32} {fM3 : Nat → Int32} {fMu : Nat → Int32} {fMy : Nat → Int32} {fMb : Nat → Int32} {eR : Nat → Nat → Int64} {tM : TA} {iEn : Int32} {iTk : Int32} {uP : UM} {uU : UM} {kAt : Nat} {iTo : Int32} {iFr : Int32} {JFi : Int64} {iFa : Int32} {iSt : Int32} {iLv : Int32} {iWs : Int32} {wL : UL} {uS0 : UM} {uS1 : UM} {uS2 : UM} {uS3 : UM} {uS4 : UM} {iOm : Int32} (hP : va_P G CL ((XW cy aX iKp iYe iTv fR tA tB iL iBs tU tV fH fS fA gE kZ iT1 iT2 iT3 iT4 fB tD) ++ ((MK cy aM rR rB rO rK fMh fMo fMz gMv fMk fMa fMt kY fMr fM3 fMu fMy fMb eR tM iEn iTk uP uU kAt iTo iFr JFi iFa iSt iLv iWs wL uS0 uS1 uS2 uS3 uS4 iOm) ++ ((oM cy uU) ++ ((oL cy wL) ++ ((oM cy uP) ++ (oM cy uS0 ++ (oM cy uS1 ++ (oM cy uS2 ++ (oM cy uS3 ++ oM cy uS4))))))))) H) (hD : va_D A ((XW cy aX iKp iYe iTv fR tA tB iL iBs tU tV fH fS fA gE kZ iT1 iT2 iT3 iT4 fB tD) ++ ((MK cy aM rR rB rO rK fMh fMo fMz gMv fMk fMa fMt kY fMr fM3 fMu fMy fMb eR tM iEn iTk uP uU kAt iTo iFr JFi iFa iSt iLv iWs wL uS0 uS1 uS2 uS3 uS4 iOm) ++ ((oM cy uU) ++ ((oL cy wL) ++ ((oM cy uP) ++ (oM cy uS0 ++ (oM cy uS1 ++ (oM cy uS2 ++ (oM cy uS3 ++ oM cy uS4)))))))))) (hsX : SX tA tB tD fS kZ) (hsM : SM tM uP fMz fMa kY) (hLR : LR iKp tA tB fH fS fA gE kZ fMh fMo fMz fMk fMa eR kY tM uP fB fMt) (hS : va_S A s.heap H locs) (hl : lv_has ls 4 [(3, .int (nI kI)), (2, .ref (aM 0)), (1, .ref (aX 0)), (0, .ref b)]) (kk : ∀ (H : Heap) (locs : List Loc), LINV G cy A H aX aM rR rB rO rK → va_S A s.heap H locs → W p l e room_1 s m #[Value.ref b] below meth c H locs (nC + 250) (nS + 4440) (lw_Z below #[Value.ref b] s) (F0 m 1807 ls [])) : W p l e room_1 s m #[Value.ref b] below meth c H locs nC nS (lw_Z below #[Value.ref b] s) (F0 m 360 ls []) := by
  refine lv_aload_n hx hb (g_43 bL_law rfl) rfl (lv_at hl 2 rfl) ?_
  refine lv_aload_n hx hb (g_42 bL_law rfl) rfl (lv_at hl 3 rfl) ?_
  refine lv_iload_n hx hb (g_29 bL_law rfl) rfl (lv_at hl 0 rfl) ?_
  refine lv_iconst (v := 1) hx hb (g_4 bL_law rfl) (by decide +kernel) ?_
  refine lv_iadd hx hb (g_96 bL_law rfl) ?_
  refine lv_seti (v := nI (kI + 1)) (nI_add _ _) ?_
  refine va_sld hx hb hX hbl hbA hS (vp_in_nI (by omega) (by omega)) (g_46 bL_law rfl) ?_
  refine lv_seti (v := xs (kI + 1)) (congrArg xs (nI_clamp (by omega))) ?_
  refine lv_aload_n hx hb (g_42 bL_law rfl) rfl (lv_at hl 3 rfl) ?_
  refine lv_iload_n hx hb (g_29 bL_law rfl) rfl (lv_at hl 0 rfl) ?_
  refine lv_iconst (v := 2) hx hb (g_5 bL_law rfl) (by decide +kernel) ?_
  refine lv_iadd hx hb (g_96 bL_law rfl) ?_
  refine lv_seti (v := nI (kI + 2)) (nI_add _ _) ?_
  refine va_sld hx hb hX hbl hbA hS (vp_in_nI (by omega) (by omega)) (g_46 bL_law rfl) ?_
  refine lv_seti (v := xs (kI + 2)) (congrArg xs (nI_clamp (by omega))) ?_
  refine lv_aload_n hx hb (g_42 bL_law rfl) rfl (lv_at hl 3 rfl) ?_
  refine lv_iload_n hx hb (g_29 bL_law rfl) rfl (lv_at hl 0 rfl) ?_
  refine lv_iconst (v := 3) hx hb (g_6 bL_law rfl) (by decide +kernel) ?_
  refine lv_iadd hx hb (g_96 bL_law rfl) ?_
  refine lv_seti (v := nI (kI + 3)) (nI_add _ _) ?_
  refine va_sld hx hb hX hbl hbA hS (vp_in_nI (by omega) (by omega)) (g_46 bL_law rfl) ?_
  refine lv_seti (v := xs (kI + 3)) (congrArg xs (nI_clamp (by omega))) ?_
  refine lv_aload_n hx hb (g_42 bL_law rfl) rfl (lv_at hl 3 rfl) ?_
  refine lv_iload_n hx hb (g_29 bL_law rfl) rfl (lv_at hl 0 rfl) ?_
  refine lv_iconst (v := 4) hx hb (g_7 bL_law rfl) (by decide +kernel) ?_
  refine lv_iadd hx hb (g_96 bL_law rfl) ?_
  refine lv_seti (v := nI (kI + 4)) (nI_add _ _) ?_
  refine va_sld hx hb hX hbl hbA hS (vp_in_nI (by omega) (by omega)) (g_46 bL_law rfl) ?_
  refine lv_seti (v := xs (kI + 4)) (congrArg xs (nI_clamp (by omega))) ?_
  refine lv_aload_n hx hb (g_42 bL_law rfl) rfl (lv_at hl 3 rfl) ?_
  refine lv_iload_n hx hb (g_29 bL_law rfl) rfl (lv_at hl 0 rfl) ?_
  refine lv_iconst (v := 5) hx hb (g_8 bL_law rfl) (by decide +kernel) ?_
  refine lv_iadd hx hb (g_96 bL_law rfl) ?_
  refine lv_seti (v := nI (kI + 5)) (nI_add _ _) ?_
  refine va_sld hx hb hX hbl hbA hS (vp_in_nI (by omega) (by omega)) (g_46 bL_law rfl) ?_
  refine lv_seti (v := xs (kI + 5)) (congrArg xs (nI_clamp (by omega))) ?_
  have hPD := pd_as (((zzO (aX 0) 4 [.ref (aX 2), .ref (aX 11), .ref (aX 20), .ref (aX 39), .ref (aX 44), .ref (aX 1), .int iKp, .int iYe, .int iTv] :: zzI cy (aX 1) 5 fR :: zzO (aX 2) 3 [.int (nI (T_nb tA)), .int (nI (T_np tA)), .int (wb (T_wh tA)), .int (wb (T_gn tA)), .int (T_sd tA), .ref (aX 3), .ref (aX 4), .ref (aX 5), .ref (aX 6), .ref (aX 7), .ref (aX 8), .ref (aX 9), .ref (aX 10)] :: zzI cy (aX 3) 8 (T_wo tA) :: zzI cy (aX 4) 8 (T_ne tA) :: zzI cy (aX 5) 8 (T_go tA) :: zzI cy (aX 6) 8 (T_ag tA) :: zzI cy (aX 7) 8 (T_re tA) :: zzI cy (aX 8) 8 (T_me tA) :: zzI cy (aX 9) 8 (T_te tA) :: zzI cy (aX 10) 64 (shF (T_kn tA)) :: zzO (aX 11) 3 [.int (nI (T_nb tB)), .int (nI (T_np tB)), .int (wb (T_wh tB)), .int (wb (T_gn tB)), .int (T_sd tB), .ref (aX 12), .ref (aX 13), .ref (aX 14), .ref (aX 15), .ref (aX 16), .ref (aX 17), .ref (aX 18), .ref (aX 19)] :: zzI cy (aX 12) 8 (T_wo tB) :: zzI cy (aX 13) 8 (T_ne tB) :: zzI cy (aX 14) 8 (T_go tB) :: zzI cy (aX 15) 8 (T_ag tB) :: zzI cy (aX 16) 8 (T_re tB) :: zzI cy (aX 17) 8 (T_me tB) :: zzI cy (aX 18) 8 (T_te tB) :: zzI cy (aX 19) 64 (shF (T_kn tB)) :: zzO (aX 20) 0 [.ref (aX 21), .ref (aX 30), .int iL, .int iBs] :: zzO (aX 21) 3 [.int (nI (T_nb tU)), .int (nI (T_np tU)), .int (wb (T_wh tU)), .int (wb (T_gn tU)), .int (T_sd tU), .ref (aX 22), .ref (aX 23), .ref (aX 24), .ref (aX 25), .ref (aX 26), .ref (aX 27), .ref (aX 28), .ref (aX 29)] :: zzI cy (aX 22) 8 (T_wo tU) :: zzI cy (aX 23) 8 (T_ne tU) :: zzI cy (aX 24) 8 (T_go tU) :: zzI cy (aX 25) 8 (T_ag tU) :: zzI cy (aX 26) 8 (T_re tU) :: zzI cy (aX 27) 8 (T_me tU) :: zzI cy (aX 28) 8 (T_te tU) :: zzI cy (aX 29) 64 (shF (T_kn tU)) :: zzO (aX 30) 3 [.int (nI (T_nb tV)), .int (nI (T_np tV)), .int (wb (T_wh tV)), .int (wb (T_gn tV)), .int (T_sd tV), .ref (aX 31), .ref (aX 32), .ref (aX 33), .ref (aX 34), .ref (aX 35), .ref (aX 36), .ref (aX 37), .ref (aX 38)] :: zzI cy (aX 31) 8 (T_wo tV) :: zzI cy (aX 32) 8 (T_ne tV) :: zzI cy (aX 33) 8 (T_go tV) :: zzI cy (aX 34) 8 (T_ag tV) :: zzI cy (aX 35) 8 (T_re tV) :: zzI cy (aX 36) 8 (T_me tV) :: zzI cy (aX 37) 8 (T_te tV) :: zzI cy (aX 38) 64 (shF (T_kn tV)) :: zzO (aX 39) 1 [.ref (aX 40), .ref (aX 41), .ref (aX 42), .ref (aX 43)] :: zzI cy (aX 40) 8 fH :: zzI cy (aX 41) 8 fS :: zzI cy (aX 42) 8 fA :: zzJ cy (aX 43) 320 gE :: zzO (aX 44) 2 [.ref (aX 45), .int (nI kZ), .int iT1, .int iT2, .int iT3, .int iT4, .ref (aX 46)] :: zzB cy (aX 45) 250 fB :: zzO (aX 46) 3 [.int (nI (T_nb tD)), .int (nI (T_np tD)), .int (wb (T_wh tD)), .int (wb (T_gn tD)), .int (T_sd tD), .ref (aX 47), .ref (aX 48), .ref (aX 49), .ref (aX 50), .ref (aX 51), .ref (aX 52), .ref (aX 53), .ref (aX 54)] :: zzI cy (aX 47) 8 (T_wo tD) :: zzI cy (aX 48) 8 (T_ne tD) :: zzI cy (aX 49) 8 (T_go tD) :: zzI cy (aX 50) 8 (T_ag tD) :: zzI cy (aX 51) 8 (T_re tD) :: zzI cy (aX 52) 8 (T_me tD) :: zzI cy (aX 53) 8 (T_te tD) :: zzI cy (aX 54) 64 (shF (T_kn tD)) :: []) : va_W) ++ ((MK cy aM rR rB rO rK fMh fMo fMz gMv fMk fMa fMt kY fMr fM3 fMu fMy fMb eR tM iEn iTk uP uU kAt iTo iFr JFi iFa iSt iLv iWs wL uS0 uS1 uS2 uS3 uS4 iOm) ++ ((oM cy uU) ++ ((oL cy wL) ++ ((oM cy uP) ++ (oM cy uS0 ++ (oM cy uS1 ++ (oM cy uS2 ++ (oM cy uS3 ++ oM cy uS4))))))))) hP hD rfl
  clear hP hD
  obtain ⟨hP, hD⟩ := hPD
  refine cViQ (As := [.int (xs (kI + 1)), .int (xs (kI + 2)), .int (xs (kI + 3)), .int (xs (kI + 4)), .int (xs (kI + 5))]) (rest := []) (b := (aX 0)) (q := (RX5, TX5, 9)) ⟨hx, hb, hml, hown, hts⟩ (p_X5_copy l G cy (H).size (aX 0) (aX 2) (aX 11) (aX 20) (aX 39) (aX 44) (aX 1) iKp iYe iTv fR (aX 40) (aX 41) (aX 42) (aX 43) fH fS gE (xs (kI + 1)) (xs (kI + 2)) (xs (kI + 3)) (xs (kI + 4)) (xs (kI + 5)) hsX.2.2.2.1) L_L_25 hN hP hD hS hA (trueIx 0 (true :: true :: false :: false :: false :: false :: false :: false :: false :: false :: false :: false :: false :: false :: false :: false :: false :: false :: false :: false :: false :: false :: false :: false :: false :: false :: false :: false :: false :: false :: false :: false :: false :: false :: false :: false :: false :: false :: false :: true :: true :: true :: false :: true :: [])) (false :: false :: true :: true :: true :: true :: true :: true :: true :: true :: true :: true :: true :: true :: true :: true :: true :: true :: true :: true :: true :: true :: true :: true :: true :: true :: true :: true :: true :: true :: true :: true :: true :: true :: true :: true :: true :: true :: true :: false :: false :: false :: true :: false :: true :: true :: true :: true :: true :: true :: true :: true :: true :: true :: true :: []) (sel_eq rfl rfl) (by decide +kernel) rfl 0 4 rfl rfl rfl ⟨Nat.le_of_ble_eq_true rfl, Nat.le_of_ble_eq_true rfl⟩ hl.1 (Nat.le_of_ble_eq_true rfl) (g_182 (v := 25) bL_law rfl) ⟨by show nC + 0 ≤ 600000; omega, by show nS + 0 ≤ 7302250; omega⟩ (fun r_1 u_3 H locs h_2 => ?_)
  clear hP hD hS
  intro hP hD hS
  obtain ⟨fX_4, gX_5, hu9, h_6, h_2⟩ := h_2
  have hPD := pd_eqQ (((_ :: _ :: _ :: _ :: _ :: _ :: _ :: _ :: _ :: _ :: _ :: _ :: _ :: _ :: _ :: _ :: _ :: _ :: _ :: _ :: _ :: _ :: _ :: _ :: _ :: _ :: _ :: _ :: _ :: _ :: _ :: _ :: _ :: _ :: _ :: _ :: _ :: _ :: _ :: _ :: _ :: _ :: _ :: _ :: _ :: _ :: _ :: _ :: _ :: _ :: zzI cy (aX 1) 5 fX_4 :: _ :: _ :: _ :: zzJ cy (aX 43) 320 gX_5 :: []) : va_W) ++ ((MK cy aM rR rB rO rK fMh fMo fMz gMv fMk fMa fMt kY fMr fM3 fMu fMy fMb eR tM iEn iTk uP uU kAt iTo iFr JFi iFa iSt iLv iWs wL uS0 uS1 uS2 uS3 uS4 iOm) ++ ((oM cy uU) ++ ((oL cy wL) ++ ((oM cy uP) ++ (oM cy uS0 ++ (oM cy uS1 ++ (oM cy uS2 ++ (oM cy uS3 ++ oM cy uS4))))))))) hP hD hu9 rfl
  clear hP hD hu9
  obtain ⟨hP, hD⟩ := hPD
  have hPD := pt_as (XW cy aX iKp iYe iTv fX_4 tA tB iL iBs tU tV fH fS fA gX_5 kZ iT1 iT2 iT3 iT4 fB tD) (49 :: 50 :: 0 :: 1 :: 2 :: 3 :: 4 :: 5 :: 6 :: 7 :: 8 :: 9 :: 10 :: 11 :: 12 :: 13 :: 14 :: 15 :: 16 :: 17 :: 18 :: 19 :: 20 :: 21 :: 22 :: 23 :: 24 :: 25 :: 26 :: 27 :: 28 :: 29 :: 30 :: 31 :: 32 :: 33 :: 34 :: 35 :: 36 :: 51 :: 52 :: 53 :: 37 :: 54 :: 38 :: 39 :: 40 :: 41 :: 42 :: 43 :: 44 :: 45 :: 46 :: 47 :: 48 :: []) hP hD (by decide +kernel) rfl
  clear hP hD
  obtain ⟨hP, hD⟩ := hPD
  refine lv_pop hx hb (g_87 bL_law rfl) rfl ?_
  refine lv_aload_n hx hb (g_44 bL_law rfl) rfl (lv_at hl 1 rfl) ?_
  refine lv_aload_n hx hb (g_42 bL_law rfl) rfl (lv_at hl 3 rfl) ?_
  refine lv_iload_n hx hb (g_29 bL_law rfl) rfl (lv_at hl 0 rfl) ?_
  refine lv_iconst (v := 1) hx hb (g_4 bL_law rfl) (by decide +kernel) ?_
  refine lv_iadd hx hb (g_96 bL_law rfl) ?_
  refine lv_seti (v := nI (kI + 1)) (nI_add _ _) ?_
  refine va_sld hx hb hX hbl hbA hS (vp_in_nI (by omega) (by omega)) (g_46 bL_law rfl) ?_
  refine lv_seti (v := xs (kI + 1)) (congrArg xs (nI_clamp (by omega))) ?_
  refine lv_aload_n hx hb (g_42 bL_law rfl) rfl (lv_at hl 3 rfl) ?_
  refine lv_iload_n hx hb (g_29 bL_law rfl) rfl (lv_at hl 0 rfl) ?_
  refine lv_iconst (v := 2) hx hb (g_5 bL_law rfl) (by decide +kernel) ?_
  refine lv_iadd hx hb (g_96 bL_law rfl) ?_
  refine lv_seti (v := nI (kI + 2)) (nI_add _ _) ?_
  refine va_sld hx hb hX hbl hbA hS (vp_in_nI (by omega) (by omega)) (g_46 bL_law rfl) ?_
  refine lv_seti (v := xs (kI + 2)) (congrArg xs (nI_clamp (by omega))) ?_
  refine lv_aload_n hx hb (g_42 bL_law rfl) rfl (lv_at hl 3 rfl) ?_
  refine lv_iload_n hx hb (g_29 bL_law rfl) rfl (lv_at hl 0 rfl) ?_
  refine lv_iconst (v := 3) hx hb (g_6 bL_law rfl) (by decide +kernel) ?_
  refine lv_iadd hx hb (g_96 bL_law rfl) ?_
  refine lv_seti (v := nI (kI + 3)) (nI_add _ _) ?_
  refine va_sld hx hb hX hbl hbA hS (vp_in_nI (by omega) (by omega)) (g_46 bL_law rfl) ?_
  refine lv_seti (v := xs (kI + 3)) (congrArg xs (nI_clamp (by omega))) ?_
  refine lv_aload_n hx hb (g_42 bL_law rfl) rfl (lv_at hl 3 rfl) ?_
  refine lv_iload_n hx hb (g_29 bL_law rfl) rfl (lv_at hl 0 rfl) ?_
  refine lv_iconst (v := 4) hx hb (g_7 bL_law rfl) (by decide +kernel) ?_
  refine lv_iadd hx hb (g_96 bL_law rfl) ?_
  refine lv_seti (v := nI (kI + 4)) (nI_add _ _) ?_
  refine va_sld hx hb hX hbl hbA hS (vp_in_nI (by omega) (by omega)) (g_46 bL_law rfl) ?_
  refine lv_seti (v := xs (kI + 4)) (congrArg xs (nI_clamp (by omega))) ?_
  refine lv_aload_n hx hb (g_42 bL_law rfl) rfl (lv_at hl 3 rfl) ?_
  refine lv_iload_n hx hb (g_29 bL_law rfl) rfl (lv_at hl 0 rfl) ?_
  refine lv_iconst (v := 5) hx hb (g_8 bL_law rfl) (by decide +kernel) ?_
  refine lv_iadd hx hb (g_96 bL_law rfl) ?_
  refine lv_seti (v := nI (kI + 5)) (nI_add _ _) ?_
  refine va_sld hx hb hX hbl hbA hS (vp_in_nI (by omega) (by omega)) (g_46 bL_law rfl) ?_
  refine lv_seti (v := xs (kI + 5)) (congrArg xs (nI_clamp (by omega))) ?_
  replace hP : va_P G CL ((MK cy aM rR rB rO rK fMh fMo fMz gMv fMk fMa fMt kY fMr fM3 fMu fMy fMb eR tM iEn iTk uP uU kAt iTo iFr JFi iFa iSt iLv iWs wL uS0 uS1 uS2 uS3 uS4 iOm) ++ (((oM cy uU) ++ ((oL cy wL) ++ ((oM cy uP) ++ (oM cy uS0 ++ (oM cy uS1 ++ (oM cy uS2 ++ (oM cy uS3 ++ oM cy uS4))))))) ++ (XW cy aX iKp iYe iTv fX_4 tA tB iL iBs tU tV fH fS fA gX_5 kZ iT1 iT2 iT3 iT4 fB tD))) H := toNP hP
  replace hD : va_D A ((MK cy aM rR rB rO rK fMh fMo fMz gMv fMk fMa fMt kY fMr fM3 fMu fMy fMb eR tM iEn iTk uP uU kAt iTo iFr JFi iFa iSt iLv iWs wL uS0 uS1 uS2 uS3 uS4 iOm) ++ (((oM cy uU) ++ ((oL cy wL) ++ ((oM cy uP) ++ (oM cy uS0 ++ (oM cy uS1 ++ (oM cy uS2 ++ (oM cy uS3 ++ oM cy uS4))))))) ++ (XW cy aX iKp iYe iTv fX_4 tA tB iL iBs tU tV fH fS fA gX_5 kZ iT1 iT2 iT3 iT4 fB tD))) := toND hD
  have hPD := pd_as (((zzO (aM 0) 5 (.ref (aM 1) :: .ref (aM 2) :: .ref (aM 3) :: .ref (aM 14) :: .ref (aM 4) :: .ref (aM 5) :: .ref (aM 6) :: .ref (aM 7) :: .int (nI kY) :: .ref (aM 8) :: .int (nI (T_nb tM)) :: .ref (aM 15) :: .int (nI (T_np tM)) :: .ref (aM 16) :: .ref (aM 17) :: .int iEn :: .int iTk :: .int (T_sd tM) :: ov uP :: ov uU :: .int (nI kAt) :: .int iTo :: .int iFr :: .long JFi :: .int iFa :: .ref (aM 9) :: .int iSt :: .int iLv :: .int iWs :: ovL wL :: .ref (aM 10) :: .ref (aM 11) :: .ref (aM 12) :: .ref (aM 13) :: .int iOm :: []) :: zzI cy (aM 1) 8 fMh :: zzI cy (aM 2) 8 fMo :: zzI cy (aM 3) 8 fMz :: zzJ cy (aM 4) 40 gMv :: zzI cy (aM 5) 8 fMk :: zzI cy (aM 6) 8 fMa :: zzI cy (aM 7) 250 fMt :: zzI cy (aM 8) 8 fMr :: zzI cy (aM 9) 3 fM3 :: zzI cy (aM 10) 8 fMu :: zzI cy (aM 11) 5 fMy :: zzI cy (aM 12) 5 fMb :: zzQ cy 5 (aM 13) 6 (sF (refU uS0) (refU uS1) (refU uS2) (refU uS3) (refU uS4)) :: zzG cy 4 (aM 14) rR :: zzJ cy (rR 0) 40 (eR 0) :: zzJ cy (rR 1) 40 (eR 1) :: zzJ cy (rR 2) 40 (eR 2) :: zzJ cy (rR 3) 40 (eR 3) :: zzJ cy (rR 4) 40 (eR 4) :: zzJ cy (rR 5) 40 (eR 5) :: zzJ cy (rR 6) 40 (eR 6) :: zzJ cy (rR 7) 40 (eR 7) :: zzG cy 3 (aM 15) rB :: zzI cy (rB 0) 4 (bkR tM 0) :: zzI cy (rB 1) 4 (bkR tM 1) :: zzI cy (rB 2) 4 (bkR tM 2) :: zzI cy (rB 3) 4 (bkR tM 3) :: zzI cy (rB 4) 4 (bkR tM 4) :: zzI cy (rB 5) 4 (bkR tM 5) :: zzI cy (rB 6) 4 (bkR tM 6) :: zzI cy (rB 7) 4 (bkR tM 7) :: zzG cy 3 (aM 16) rO :: zzI cy (rO 0) 5 (onR tM 0) :: zzI cy (rO 1) 5 (onR tM 1) :: zzI cy (rO 2) 5 (onR tM 2) :: zzI cy (rO 3) 5 (onR tM 3) :: zzI cy (rO 4) 5 (onR tM 4) :: zzI cy (rO 5) 5 (onR tM 5) :: zzI cy (rO 6) 5 (onR tM 6) :: zzI cy (rO 7) 5 (onR tM 7) :: zzG cy 3 (aM 17) rK :: zzI cy (rK 0) 8 (T_kn tM 0) :: zzI cy (rK 1) 8 (T_kn tM 1) :: zzI cy (rK 2) 8 (T_kn tM 2) :: zzI cy (rK 3) 8 (T_kn tM 3) :: zzI cy (rK 4) 8 (T_kn tM 4) :: zzI cy (rK 5) 8 (T_kn tM 5) :: zzI cy (rK 6) 8 (T_kn tM 6) :: zzI cy (rK 7) 8 (T_kn tM 7) :: []) : va_W) ++ (((oM cy uU) ++ ((oL cy wL) ++ ((oM cy uP) ++ (oM cy uS0 ++ (oM cy uS1 ++ (oM cy uS2 ++ (oM cy uS3 ++ oM cy uS4))))))) ++ (XW cy aX iKp iYe iTv fX_4 tA tB iL iBs tU tV fH fS fA gX_5 kZ iT1 iT2 iT3 iT4 fB tD))) hP hD rfl
  clear hP hD
  obtain ⟨hP, hD⟩ := hPD
  refine cViQ (As := [.int (xs (kI + 1)), .int (xs (kI + 2)), .int (xs (kI + 3)), .int (xs (kI + 4)), .int (xs (kI + 5))]) (rest := []) (b := (aM 0)) (q := (RX6, TX6, 35)) ⟨hx, hb, hml, hown, hts⟩ (p_X6_copy l G cy (H).size (aM 0) (aM 1) (aM 2) (aM 3) (aM 14) (aM 4) (aM 5) (aM 6) (aM 7) kY (aM 8) tM (aM 15) (aM 16) (aM 17) iEn iTk uP uU kAt iTo iFr JFi iFa (aM 9) iSt iLv iWs (ovL wL) (aM 10) (aM 11) (aM 12) (aM 13) iOm fMh fMo fMz rR eR gMv fMr (xs (kI + 1)) (xs (kI + 2)) (xs (kI + 3)) (xs (kI + 4)) (xs (kI + 5)) hsM.2.2.1) L_L_29 hN hP hD hS hA (trueIxs [[true, true, true, true, false, false, false, false, false, false, false, false, false, false, true, true, true, true, true, true, true, true, true], [false, false, false, false, true, false, false, false, true]]) (false :: false :: false :: false :: false :: true :: true :: true :: false :: true :: true :: true :: true :: true :: false :: false :: false :: false :: false :: false :: false :: false :: false :: true :: true :: true :: true :: true :: true :: true :: true :: true :: true :: true :: true :: true :: true :: true :: true :: true :: true :: true :: true :: true :: true :: true :: true :: true :: true :: true :: []) (sels_eq rfl rfl) (by decide +kernel) rfl 0 5 rfl rfl rfl ⟨Nat.le_of_ble_eq_true rfl, Nat.le_of_ble_eq_true rfl⟩ hl.1 (Nat.le_of_ble_eq_true rfl) (g_182 (v := 29) bL_law rfl) ⟨by show nC + 0 + 0 ≤ 600000; omega, by show nS + 0 + 0 ≤ 7302250; omega⟩ (fun r_7 u_9 H locs h_8 => ?_)
  clear hP hD hS
  intro hP hD hS
  obtain ⟨eN_10, gNv_11, fNr_12, hu9, h_13, h_8⟩ := h_8
  have hPD := pd_eqQ (((_ :: _ :: _ :: _ :: _ :: _ :: _ :: _ :: _ :: _ :: _ :: _ :: _ :: _ :: _ :: _ :: _ :: _ :: _ :: _ :: _ :: _ :: _ :: _ :: _ :: _ :: _ :: _ :: _ :: _ :: _ :: _ :: _ :: _ :: _ :: _ :: _ :: _ :: _ :: _ :: zzJ cy (rR 0) 40 (eN_10 0) :: zzJ cy (rR 1) 40 (eN_10 1) :: zzJ cy (rR 2) 40 (eN_10 2) :: zzJ cy (rR 3) 40 (eN_10 3) :: zzJ cy (rR 4) 40 (eN_10 4) :: zzJ cy (rR 5) 40 (eN_10 5) :: zzJ cy (rR 6) 40 (eN_10 6) :: zzJ cy (rR 7) 40 (eN_10 7) :: zzJ cy (aM 4) 40 gNv_11 :: zzI cy (aM 8) 8 fNr_12 :: []) : va_W) ++ (((oM cy uU) ++ ((oL cy wL) ++ ((oM cy uP) ++ (oM cy uS0 ++ (oM cy uS1 ++ (oM cy uS2 ++ (oM cy uS3 ++ oM cy uS4))))))) ++ (XW cy aX iKp iYe iTv fX_4 tA tB iL iBs tU tV fH fS fA gX_5 kZ iT1 iT2 iT3 iT4 fB tD))) hP hD hu9 rfl
  clear hP hD hu9
  obtain ⟨hP, hD⟩ := hPD
  have hPD := pt_as (MK cy aM rR rB rO rK fMh fMo fMz gNv_11 fMk fMa fMt kY fNr_12 fM3 fMu fMy fMb eN_10 tM iEn iTk uP uU kAt iTo iFr JFi iFa iSt iLv iWs wL uS0 uS1 uS2 uS3 uS4 iOm) (35 :: 36 :: 37 :: 38 :: 48 :: 0 :: 1 :: 2 :: 49 :: 3 :: 4 :: 5 :: 6 :: 7 :: 39 :: 40 :: 41 :: 42 :: 43 :: 44 :: 45 :: 46 :: 47 :: 8 :: 9 :: 10 :: 11 :: 12 :: 13 :: 14 :: 15 :: 16 :: 17 :: 18 :: 19 :: 20 :: 21 :: 22 :: 23 :: 24 :: 25 :: 26 :: 27 :: 28 :: 29 :: 30 :: 31 :: 32 :: 33 :: 34 :: []) hP hD (by decide +kernel) rfl
  clear hP hD
  obtain ⟨hP, hD⟩ := hPD
  replace hP : va_P G CL ((XW cy aX iKp iYe iTv fX_4 tA tB iL iBs tU tV fH fS fA gX_5 kZ iT1 iT2 iT3 iT4 fB tD) ++ ((MK cy aM rR rB rO rK fMh fMo fMz gNv_11 fMk fMa fMt kY fNr_12 fM3 fMu fMy fMb eN_10 tM iEn iTk uP uU kAt iTo iFr JFi iFa iSt iLv iWs wL uS0 uS1 uS2 uS3 uS4 iOm) ++ ((oM cy uU) ++ ((oL cy wL) ++ ((oM cy uP) ++ (oM cy uS0 ++ (oM cy uS1 ++ (oM cy uS2 ++ (oM cy uS3 ++ oM cy uS4))))))))) H := ofNP hP
  replace hD : va_D A ((XW cy aX iKp iYe iTv fX_4 tA tB iL iBs tU tV fH fS fA gX_5 kZ iT1 iT2 iT3 iT4 fB tD) ++ ((MK cy aM rR rB rO rK fMh fMo fMz gNv_11 fMk fMa fMt kY fNr_12 fM3 fMu fMy fMb eN_10 tM iEn iTk uP uU kAt iTo iFr JFi iFa iSt iLv iWs wL uS0 uS1 uS2 uS3 uS4 iOm) ++ ((oM cy uU) ++ ((oL cy wL) ++ ((oM cy uP) ++ (oM cy uS0 ++ (oM cy uS1 ++ (oM cy uS2 ++ (oM cy uS3 ++ oM cy uS4))))))))) := ofND hD
  refine lv_pop hx hb (g_87 bL_law rfl) rfl ?_
  refine lv_goto (tgt := 1807) hx hb dL_law_420 (by decide +kernel) ?_
  refine W.widen (k := nC + 250) (n := nS + 4440) (by omega) (by omega) ?_
  exact kk _ _ (linv_mk hP hD (hsX) (hsM) (⟨⟨hLR.1.1, hLR.1.2.1, (copy_k hsX.2.2.2.1 hLR.1.2.2 h_6 h_13).2⟩, hLR.2⟩)) hS
set_option maxHeartbeats 4000000 in
set_option maxRecDepth 100000 in
theorem law_3 {p : Program} {l : Launch} {e : Env} {s : State} {m : MethodId} {below : List Frame} {meth : Method} {c : Code} {b L : Nat} {xs : Nat → Int32} {A : Nat → Prop} {G : va_G} {cy : Nat → ClassId} {aX aM rR rB rO rK : Nat → Nat} (hx : p.tables.exec = Jvm.exec) (hb : c.code = code) (hr : meth.sig.returnType = ret) (hml : c.maxLocals = 4) (hown : s.vm.findClass RL = some m.cls) (hts : ∀ w ∈ BIG, w.before #[Value.ref b] s = true) (hX : va_X b L xs s s.heap) (hbl : b < s.heap.size) (hlocks : meth.locks = false) (hN : KN G cy s) (hA : ∀ q : Nat, s.heap.size ≤ q → A q) (hAn : ∀ q : Nat, A q → s.heap.size ≤ q) (hbA : ¬ A b) (hSO : SO A s s.heap) {H : Heap} {locs : List Loc} {ls : Array Slot} {kI nC nS : Nat} (hkI : kI + 6 ≤ L) (hL : L ≤ 384) (hnC : nC + 250 ≤ 600000) (hnS : nS + 4440 ≤ 7302250) {iKp : Int32} {iYe : Int32} {iTv : Int32} {fR : Nat → Int32} {tA : TA} {tB : TA} {iL : Int32} {iBs : Int32} {tU : TA} {tV : TA} {fH : Nat → Int32} {fS : Nat → Int32} {fA : Nat → Int32} {gE : Nat → Int64} {kZ : Nat} {iT1 : Int32} {iT2 : Int32} {iT3 : Int32} {iT4 : Int32} {fB : Nat → Int32} {tD : TA} {fMh : Nat → Int32} {fMo : Nat → Int32} {fMz : Nat → Int32} {gMv : Nat → Int64} {fMk : Nat → Int32} {fMa : Nat → Int32} {fMt : Nat → Int32} {kY : Nat} {fMr : Nat → Int32} {fM3 : Nat → Int32} {fMu : Nat → Int32} {fMy : Nat → Int32} {fMb : Nat → Int32} {eR : Nat → Nat → Int64} {tM : TA} {iEn : Int32} {iTk : Int32} {uP : UM} {uU : UM} {kAt : Nat} {iTo : Int32} {iFr : Int32} {JFi : Int64} {iFa : Int32} {iSt : Int32} {iLv : Int32} {iWs : Int32} {wL : UL} {uS0 : UM} {uS1 : UM} {uS2 : UM} {uS3 : UM} {uS4 : UM} {iOm : Int32} (hP : va_P G CL ((XW cy aX iKp iYe iTv fR tA tB iL iBs tU tV fH fS fA gE kZ iT1 iT2 iT3 iT4 fB tD) ++ ((MK cy aM rR rB rO rK fMh fMo fMz gMv fMk fMa fMt kY fMr fM3 fMu fMy fMb eR tM iEn iTk uP uU kAt iTo iFr JFi iFa iSt iLv iWs wL uS0 uS1 uS2 uS3 uS4 iOm) ++ ((oM cy uU) ++ ((oL cy wL) ++ ((oM cy uP) ++ (oM cy uS0 ++ (oM cy uS1 ++ (oM cy uS2 ++ (oM cy uS3 ++ oM cy uS4))))))))) H) (hD : va_D A ((XW cy aX iKp iYe iTv fR tA tB iL iBs tU tV fH fS fA gE kZ iT1 iT2 iT3 iT4 fB tD) ++ ((MK cy aM rR rB rO rK fMh fMo fMz gMv fMk fMa fMt kY fMr fM3 fMu fMy fMb eR tM iEn iTk uP uU kAt iTo iFr JFi iFa iSt iLv iWs wL uS0 uS1 uS2 uS3 uS4 iOm) ++ ((oM cy uU) ++ ((oL cy wL) ++ ((oM cy uP) ++ (oM cy uS0 ++ (oM cy uS1 ++ (oM cy uS2 ++ (oM cy uS3 ++ oM cy uS4)))))))))) (hsX : SX tA tB tD fS kZ) (hsM : SM tM uP fMz fMa kY) (hLR : LR iKp tA tB fH fS fA gE kZ fMh fMo fMz fMk fMa eR kY tM uP fB fMt) (hS : va_S A s.heap H locs) (hl : lv_has ls 4 [(3, .int (nI kI)), (2, .ref (aM 0)), (1, .ref (aX 0)), (0, .ref b)]) (kk : ∀ (H : Heap) (locs : List Loc), LINV G cy A H aX aM rR rB rO rK → va_S A s.heap H locs → W p l e room_1 s m #[Value.ref b] below meth c H locs (nC + 250) (nS + 4440) (lw_Z below #[Value.ref b] s) (F0 m 1807 ls [])) : W p l e room_1 s m #[Value.ref b] below meth c H locs nC nS (lw_Z below #[Value.ref b] s) (F0 m 423 ls []) := by
  refine lv_aload_n hx hb (g_43 bL_law rfl) rfl (lv_at hl 2 rfl) ?_
  refine lv_aload_n hx hb (g_42 bL_law rfl) rfl (lv_at hl 3 rfl) ?_
  refine lv_iload_n hx hb (g_29 bL_law rfl) rfl (lv_at hl 0 rfl) ?_
  refine lv_iconst (v := 1) hx hb (g_4 bL_law rfl) (by decide +kernel) ?_
  refine lv_iadd hx hb (g_96 bL_law rfl) ?_
  refine lv_seti (v := nI (kI + 1)) (nI_add _ _) ?_
  refine va_sld hx hb hX hbl hbA hS (vp_in_nI (by omega) (by omega)) (g_46 bL_law rfl) ?_
  refine lv_seti (v := xs (kI + 1)) (congrArg xs (nI_clamp (by omega))) ?_
  refine lv_aload_n hx hb (g_42 bL_law rfl) rfl (lv_at hl 3 rfl) ?_
  refine lv_iload_n hx hb (g_29 bL_law rfl) rfl (lv_at hl 0 rfl) ?_
  refine lv_iconst (v := 2) hx hb (g_5 bL_law rfl) (by decide +kernel) ?_
  refine lv_iadd hx hb (g_96 bL_law rfl) ?_
  refine lv_seti (v := nI (kI + 2)) (nI_add _ _) ?_
  refine va_sld hx hb hX hbl hbA hS (vp_in_nI (by omega) (by omega)) (g_46 bL_law rfl) ?_
  refine lv_seti (v := xs (kI + 2)) (congrArg xs (nI_clamp (by omega))) ?_
  have hP2 : va_P G CL ((zzO (aX 0) 4 [.ref (aX 2), .ref (aX 11), .ref (aX 20), .ref (aX 39), .ref (aX 44), .ref (aX 1), .int iKp, .int iYe, .int iTv] :: zzI cy (aX 1) 5 fR :: zzO (aX 2) 3 [.int (nI (T_nb tA)), .int (nI (T_np tA)), .int (wb (T_wh tA)), .int (wb (T_gn tA)), .int (T_sd tA), .ref (aX 3), .ref (aX 4), .ref (aX 5), .ref (aX 6), .ref (aX 7), .ref (aX 8), .ref (aX 9), .ref (aX 10)] :: zzI cy (aX 3) 8 (T_wo tA) :: zzI cy (aX 4) 8 (T_ne tA) :: zzI cy (aX 5) 8 (T_go tA) :: zzI cy (aX 6) 8 (T_ag tA) :: zzI cy (aX 7) 8 (T_re tA) :: zzI cy (aX 8) 8 (T_me tA) :: zzI cy (aX 9) 8 (T_te tA) :: zzI cy (aX 10) 64 (shF (T_kn tA)) :: zzO (aX 11) 3 [.int (nI (T_nb tB)), .int (nI (T_np tB)), .int (wb (T_wh tB)), .int (wb (T_gn tB)), .int (T_sd tB), .ref (aX 12), .ref (aX 13), .ref (aX 14), .ref (aX 15), .ref (aX 16), .ref (aX 17), .ref (aX 18), .ref (aX 19)] :: zzI cy (aX 12) 8 (T_wo tB) :: zzI cy (aX 13) 8 (T_ne tB) :: zzI cy (aX 14) 8 (T_go tB) :: zzI cy (aX 15) 8 (T_ag tB) :: zzI cy (aX 16) 8 (T_re tB) :: zzI cy (aX 17) 8 (T_me tB) :: zzI cy (aX 18) 8 (T_te tB) :: zzI cy (aX 19) 64 (shF (T_kn tB)) :: zzO (aX 20) 0 [.ref (aX 21), .ref (aX 30), .int iL, .int iBs] :: zzO (aX 21) 3 [.int (nI (T_nb tU)), .int (nI (T_np tU)), .int (wb (T_wh tU)), .int (wb (T_gn tU)), .int (T_sd tU), .ref (aX 22), .ref (aX 23), .ref (aX 24), .ref (aX 25), .ref (aX 26), .ref (aX 27), .ref (aX 28), .ref (aX 29)] :: zzI cy (aX 22) 8 (T_wo tU) :: zzI cy (aX 23) 8 (T_ne tU) :: zzI cy (aX 24) 8 (T_go tU) :: zzI cy (aX 25) 8 (T_ag tU) :: zzI cy (aX 26) 8 (T_re tU) :: zzI cy (aX 27) 8 (T_me tU) :: zzI cy (aX 28) 8 (T_te tU) :: zzI cy (aX 29) 64 (shF (T_kn tU)) :: zzO (aX 30) 3 [.int (nI (T_nb tV)), .int (nI (T_np tV)), .int (wb (T_wh tV)), .int (wb (T_gn tV)), .int (T_sd tV), .ref (aX 31), .ref (aX 32), .ref (aX 33), .ref (aX 34), .ref (aX 35), .ref (aX 36), .ref (aX 37), .ref (aX 38)] :: zzI cy (aX 31) 8 (T_wo tV) :: zzI cy (aX 32) 8 (T_ne tV) :: zzI cy (aX 33) 8 (T_go tV) :: zzI cy (aX 34) 8 (T_ag tV) :: zzI cy (aX 35) 8 (T_re tV) :: zzI cy (aX 36) 8 (T_me tV) :: zzI cy (aX 37) 8 (T_te tV) :: zzI cy (aX 38) 64 (shF (T_kn tV)) :: zzO (aX 39) 1 [.ref (aX 40), .ref (aX 41), .ref (aX 42), .ref (aX 43)] :: zzI cy (aX 40) 8 fH :: zzI cy (aX 41) 8 fS :: zzI cy (aX 42) 8 fA :: zzJ cy (aX 43) 320 gE :: zzO (aX 44) 2 [.ref (aX 45), .int (nI kZ), .int iT1, .int iT2, .int iT3, .int iT4, .ref (aX 46)] :: zzB cy (aX 45) 250 fB :: zzO (aX 46) 3 [.int (nI (T_nb tD)), .int (nI (T_np tD)), .int (wb (T_wh tD)), .int (wb (T_gn tD)), .int (T_sd tD), .ref (aX 47), .ref (aX 48), .ref (aX 49), .ref (aX 50), .ref (aX 51), .ref (aX 52), .ref (aX 53), .ref (aX 54)] :: zzI cy (aX 47) 8 (T_wo tD) :: zzI cy (aX 48) 8 (T_ne tD) :: zzI cy (aX 49) 8 (T_go tD) :: zzI cy (aX 50) 8 (T_ag tD) :: zzI cy (aX 51) 8 (T_re tD) :: zzI cy (aX 52) 8 (T_me tD) :: zzI cy (aX 53) 8 (T_te tD) :: zzI cy (aX 54) 64 (shF (T_kn tD)) :: []) ++ ((MK cy aM rR rB rO rK fMh fMo fMz gMv fMk fMa fMt kY fMr fM3 fMu fMy fMb eR tM iEn iTk uP uU kAt iTo iFr JFi iFa iSt iLv iWs wL uS0 uS1 uS2 uS3 uS4 iOm) ++ ((oM cy uU) ++ ((oL cy wL) ++ ((oM cy uP) ++ (oM cy uS0 ++ (oM cy uS1 ++ (oM cy uS2 ++ (oM cy uS3 ++ oM cy uS4))))))))) H := hP
  refine kRl (rV (As := [.int (xs (kI + 1)), .int (xs (kI + 2))]) (rest := []) (b := (aX 0)) ⟨hx, hb, hml, hown, hts⟩ (p_X5_element l G cy (aX 0) (aX 2) (aX 11) (aX 20) (aX 39) (aX 44) (aX 1) iKp iYe iTv (aX 40) (aX 41) (aX 42) (aX 43) fH fS gE (xs (kI + 1)) (xs (kI + 2)) hsX.2.2.2.1) L_L_30 (preRV (q := (RX5, TX5, 9)) hN hP2 (trueIx 0 (true :: false :: false :: false :: false :: false :: false :: false :: false :: false :: false :: false :: false :: false :: false :: false :: false :: false :: false :: false :: false :: false :: false :: false :: false :: false :: false :: false :: false :: false :: false :: false :: false :: false :: false :: false :: false :: false :: false :: true :: true :: true :: false :: true :: [])) (sel_fm rfl rfl) 0 4 rfl rfl) rfl ⟨Nat.le_of_ble_eq_true rfl, Nat.le_of_ble_eq_true rfl⟩ hl.1 (Nat.le_of_ble_eq_true rfl) (g_182 (v := 30) bL_law rfl) ⟨by show nC + 0 ≤ 600000; omega, by show nS + 0 ≤ 7302250; omega⟩) (fun r_1 h_2 => ?_)
  clear hP2
  refine lv_pop2_2 hx hb (g_88 bL_law rfl) rfl ?_
  refine lv_aload_n hx hb (g_44 bL_law rfl) rfl (lv_at hl 1 rfl) ?_
  refine lv_aload_n hx hb (g_42 bL_law rfl) rfl (lv_at hl 3 rfl) ?_
  refine lv_iload_n hx hb (g_29 bL_law rfl) rfl (lv_at hl 0 rfl) ?_
  refine lv_iconst (v := 1) hx hb (g_4 bL_law rfl) (by decide +kernel) ?_
  refine lv_iadd hx hb (g_96 bL_law rfl) ?_
  refine lv_seti (v := nI (kI + 1)) (nI_add _ _) ?_
  refine va_sld hx hb hX hbl hbA hS (vp_in_nI (by omega) (by omega)) (g_46 bL_law rfl) ?_
  refine lv_seti (v := xs (kI + 1)) (congrArg xs (nI_clamp (by omega))) ?_
  refine lv_aload_n hx hb (g_42 bL_law rfl) rfl (lv_at hl 3 rfl) ?_
  refine lv_iload_n hx hb (g_29 bL_law rfl) rfl (lv_at hl 0 rfl) ?_
  refine lv_iconst (v := 2) hx hb (g_5 bL_law rfl) (by decide +kernel) ?_
  refine lv_iadd hx hb (g_96 bL_law rfl) ?_
  refine lv_seti (v := nI (kI + 2)) (nI_add _ _) ?_
  refine va_sld hx hb hX hbl hbA hS (vp_in_nI (by omega) (by omega)) (g_46 bL_law rfl) ?_
  refine lv_seti (v := xs (kI + 2)) (congrArg xs (nI_clamp (by omega))) ?_
  replace hP : va_P G CL ((MK cy aM rR rB rO rK fMh fMo fMz gMv fMk fMa fMt kY fMr fM3 fMu fMy fMb eR tM iEn iTk uP uU kAt iTo iFr JFi iFa iSt iLv iWs wL uS0 uS1 uS2 uS3 uS4 iOm) ++ (((oM cy uU) ++ ((oL cy wL) ++ ((oM cy uP) ++ (oM cy uS0 ++ (oM cy uS1 ++ (oM cy uS2 ++ (oM cy uS3 ++ oM cy uS4))))))) ++ (XW cy aX iKp iYe iTv fR tA tB iL iBs tU tV fH fS fA gE kZ iT1 iT2 iT3 iT4 fB tD))) H := toNP hP
  replace hD : va_D A ((MK cy aM rR rB rO rK fMh fMo fMz gMv fMk fMa fMt kY fMr fM3 fMu fMy fMb eR tM iEn iTk uP uU kAt iTo iFr JFi iFa iSt iLv iWs wL uS0 uS1 uS2 uS3 uS4 iOm) ++ (((oM cy uU) ++ ((oL cy wL) ++ ((oM cy uP) ++ (oM cy uS0 ++ (oM cy uS1 ++ (oM cy uS2 ++ (oM cy uS3 ++ oM cy uS4))))))) ++ (XW cy aX iKp iYe iTv fR tA tB iL iBs tU tV fH fS fA gE kZ iT1 iT2 iT3 iT4 fB tD))) := toND hD
  have hP2 : va_P G CL ((zzO (aM 0) 5 (.ref (aM 1) :: .ref (aM 2) :: .ref (aM 3) :: .ref (aM 14) :: .ref (aM 4) :: .ref (aM 5) :: .ref (aM 6) :: .ref (aM 7) :: .int (nI kY) :: .ref (aM 8) :: .int (nI (T_nb tM)) :: .ref (aM 15) :: .int (nI (T_np tM)) :: .ref (aM 16) :: .ref (aM 17) :: .int iEn :: .int iTk :: .int (T_sd tM) :: ov uP :: ov uU :: .int (nI kAt) :: .int iTo :: .int iFr :: .long JFi :: .int iFa :: .ref (aM 9) :: .int iSt :: .int iLv :: .int iWs :: ovL wL :: .ref (aM 10) :: .ref (aM 11) :: .ref (aM 12) :: .ref (aM 13) :: .int iOm :: []) :: zzI cy (aM 1) 8 fMh :: zzI cy (aM 2) 8 fMo :: zzI cy (aM 3) 8 fMz :: zzJ cy (aM 4) 40 gMv :: zzI cy (aM 5) 8 fMk :: zzI cy (aM 6) 8 fMa :: zzI cy (aM 7) 250 fMt :: zzI cy (aM 8) 8 fMr :: zzI cy (aM 9) 3 fM3 :: zzI cy (aM 10) 8 fMu :: zzI cy (aM 11) 5 fMy :: zzI cy (aM 12) 5 fMb :: zzQ cy 5 (aM 13) 6 (sF (refU uS0) (refU uS1) (refU uS2) (refU uS3) (refU uS4)) :: zzG cy 4 (aM 14) rR :: zzJ cy (rR 0) 40 (eR 0) :: zzJ cy (rR 1) 40 (eR 1) :: zzJ cy (rR 2) 40 (eR 2) :: zzJ cy (rR 3) 40 (eR 3) :: zzJ cy (rR 4) 40 (eR 4) :: zzJ cy (rR 5) 40 (eR 5) :: zzJ cy (rR 6) 40 (eR 6) :: zzJ cy (rR 7) 40 (eR 7) :: zzG cy 3 (aM 15) rB :: zzI cy (rB 0) 4 (bkR tM 0) :: zzI cy (rB 1) 4 (bkR tM 1) :: zzI cy (rB 2) 4 (bkR tM 2) :: zzI cy (rB 3) 4 (bkR tM 3) :: zzI cy (rB 4) 4 (bkR tM 4) :: zzI cy (rB 5) 4 (bkR tM 5) :: zzI cy (rB 6) 4 (bkR tM 6) :: zzI cy (rB 7) 4 (bkR tM 7) :: zzG cy 3 (aM 16) rO :: zzI cy (rO 0) 5 (onR tM 0) :: zzI cy (rO 1) 5 (onR tM 1) :: zzI cy (rO 2) 5 (onR tM 2) :: zzI cy (rO 3) 5 (onR tM 3) :: zzI cy (rO 4) 5 (onR tM 4) :: zzI cy (rO 5) 5 (onR tM 5) :: zzI cy (rO 6) 5 (onR tM 6) :: zzI cy (rO 7) 5 (onR tM 7) :: zzG cy 3 (aM 17) rK :: zzI cy (rK 0) 8 (T_kn tM 0) :: zzI cy (rK 1) 8 (T_kn tM 1) :: zzI cy (rK 2) 8 (T_kn tM 2) :: zzI cy (rK 3) 8 (T_kn tM 3) :: zzI cy (rK 4) 8 (T_kn tM 4) :: zzI cy (rK 5) 8 (T_kn tM 5) :: zzI cy (rK 6) 8 (T_kn tM 6) :: zzI cy (rK 7) 8 (T_kn tM 7) :: []) ++ (((oM cy uU) ++ ((oL cy wL) ++ ((oM cy uP) ++ (oM cy uS0 ++ (oM cy uS1 ++ (oM cy uS2 ++ (oM cy uS3 ++ oM cy uS4))))))) ++ (XW cy aX iKp iYe iTv fR tA tB iL iBs tU tV fH fS fA gE kZ iT1 iT2 iT3 iT4 fB tD))) H := hP
  refine kRl (rV (As := [.int (xs (kI + 1)), .int (xs (kI + 2))]) (rest := []) (b := (aM 0)) ⟨hx, hb, hml, hown, hts⟩ (p_X6_element l G cy (aM 0) (aM 1) (aM 2) (aM 3) (aM 14) (aM 4) (aM 5) (aM 6) (aM 7) kY (aM 8) tM (aM 15) (aM 16) (aM 17) iEn iTk uP uU kAt iTo iFr JFi iFa (aM 9) iSt iLv iWs (ovL wL) (aM 10) (aM 11) (aM 12) (aM 13) iOm fMh fMz rR eR (xs (kI + 1)) (xs (kI + 2)) hsM.2.2.1) L_L_34 (preRV (q := (RX6, TX6, 35)) hN hP2 (trueIx 0 [true, true, false, true, false, false, false, false, false, false, false, false, false, false, true, true, true, true, true, true, true, true, true]) (sel_fm rfl rfl) 0 5 rfl rfl) rfl ⟨Nat.le_of_ble_eq_true rfl, Nat.le_of_ble_eq_true rfl⟩ hl.1 (Nat.le_of_ble_eq_true rfl) (g_182 (v := 34) bL_law rfl) ⟨by show nC + 0 ≤ 600000; omega, by show nS + 0 ≤ 7302250; omega⟩) (fun r_3 h_4 => ?_)
  clear hP2
  replace hP : va_P G CL ((XW cy aX iKp iYe iTv fR tA tB iL iBs tU tV fH fS fA gE kZ iT1 iT2 iT3 iT4 fB tD) ++ ((MK cy aM rR rB rO rK fMh fMo fMz gMv fMk fMa fMt kY fMr fM3 fMu fMy fMb eR tM iEn iTk uP uU kAt iTo iFr JFi iFa iSt iLv iWs wL uS0 uS1 uS2 uS3 uS4 iOm) ++ ((oM cy uU) ++ ((oL cy wL) ++ ((oM cy uP) ++ (oM cy uS0 ++ (oM cy uS1 ++ (oM cy uS2 ++ (oM cy uS3 ++ oM cy uS4))))))))) H := ofNP hP
  replace hD : va_D A ((XW cy aX iKp iYe iTv fR tA tB iL iBs tU tV fH fS fA gE kZ iT1 iT2 iT3 iT4 fB tD) ++ ((MK cy aM rR rB rO rK fMh fMo fMz gMv fMk fMa fMt kY fMr fM3 fMu fMy fMb eR tM iEn iTk uP uU kAt iTo iFr JFi iFa iSt iLv iWs wL uS0 uS1 uS2 uS3 uS4 iOm) ++ ((oM cy uU) ++ ((oL cy wL) ++ ((oM cy uP) ++ (oM cy uS0 ++ (oM cy uS1 ++ (oM cy uS2 ++ (oM cy uS3 ++ oM cy uS4))))))))) := ofND hD
  refine lv_pop2_2 hx hb (g_88 bL_law rfl) rfl ?_
  refine lv_goto (tgt := 1807) hx hb dL_law_453 (by decide +kernel) ?_
  refine W.widen (k := nC + 250) (n := nS + 4440) (by omega) (by omega) ?_
  exact kk _ _ (linv_mk hP hD (hsX) (hsM) (⟨hLR.1, hLR.2⟩)) hS
set_option maxHeartbeats 4000000 in
set_option maxRecDepth 100000 in
theorem law_4 {p : Program} {l : Launch} {e : Env} {s : State} {m : MethodId} {below : List Frame} {meth : Method} {c : Code} {b L : Nat} {xs : Nat → Int32} {A : Nat → Prop} {G : va_G} {cy : Nat → ClassId} {aX aM rR rB rO rK : Nat → Nat} (hx : p.tables.exec = Jvm.exec) (hb : c.code = code) (hr : meth.sig.returnType = ret) (hml : c.maxLocals = 4) (hown : s.vm.findClass RL = some m.cls) (hts : ∀ w ∈ BIG, w.before #[Value.ref b] s = true) (hX : va_X b L xs s s.heap) (hbl : b < s.heap.size) (hlocks : meth.locks = false) (hN : KN G cy s) (hA : ∀ q : Nat, s.heap.size ≤ q → A q) (hAn : ∀ q : Nat, A q → s.heap.size ≤ q) (hbA : ¬ A b) (hSO : SO A s s.heap) {H : Heap} {locs : List Loc} {ls : Array Slot} {kI nC nS : Nat} (hkI : kI + 6 ≤ L) (hL : L ≤ 384) (hnC : nC + 250 ≤ 600000) (hnS : nS + 4440 ≤ 7302250) {iKp : Int32} {iYe : Int32} {iTv : Int32} {fR : Nat → Int32} {tA : TA} {tB : TA} {iL : Int32} {iBs : Int32} {tU : TA} {tV : TA} {fH : Nat → Int32} {fS : Nat → Int32} {fA : Nat → Int32} {gE : Nat → Int64} {kZ : Nat} {iT1 : Int32} {iT2 : Int32} {iT3 : Int32} {iT4 : Int32} {fB : Nat → Int32} {tD : TA} {fMh : Nat → Int32} {fMo : Nat → Int32} {fMz : Nat → Int32} {gMv : Nat → Int64} {fMk : Nat → Int32} {fMa : Nat → Int32} {fMt : Nat → Int32} {kY : Nat} {fMr : Nat → Int32} {fM3 : Nat → Int32} {fMu : Nat → Int32} {fMy : Nat → Int32} {fMb : Nat → Int32} {eR : Nat → Nat → Int64} {tM : TA} {iEn : Int32} {iTk : Int32} {uP : UM} {uU : UM} {kAt : Nat} {iTo : Int32} {iFr : Int32} {JFi : Int64} {iFa : Int32} {iSt : Int32} {iLv : Int32} {iWs : Int32} {wL : UL} {uS0 : UM} {uS1 : UM} {uS2 : UM} {uS3 : UM} {uS4 : UM} {iOm : Int32} (hP : va_P G CL ((XW cy aX iKp iYe iTv fR tA tB iL iBs tU tV fH fS fA gE kZ iT1 iT2 iT3 iT4 fB tD) ++ ((MK cy aM rR rB rO rK fMh fMo fMz gMv fMk fMa fMt kY fMr fM3 fMu fMy fMb eR tM iEn iTk uP uU kAt iTo iFr JFi iFa iSt iLv iWs wL uS0 uS1 uS2 uS3 uS4 iOm) ++ ((oM cy uU) ++ ((oL cy wL) ++ ((oM cy uP) ++ (oM cy uS0 ++ (oM cy uS1 ++ (oM cy uS2 ++ (oM cy uS3 ++ oM cy uS4))))))))) H) (hD : va_D A ((XW cy aX iKp iYe iTv fR tA tB iL iBs tU tV fH fS fA gE kZ iT1 iT2 iT3 iT4 fB tD) ++ ((MK cy aM rR rB rO rK fMh fMo fMz gMv fMk fMa fMt kY fMr fM3 fMu fMy fMb eR tM iEn iTk uP uU kAt iTo iFr JFi iFa iSt iLv iWs wL uS0 uS1 uS2 uS3 uS4 iOm) ++ ((oM cy uU) ++ ((oL cy wL) ++ ((oM cy uP) ++ (oM cy uS0 ++ (oM cy uS1 ++ (oM cy uS2 ++ (oM cy uS3 ++ oM cy uS4)))))))))) (hsX : SX tA tB tD fS kZ) (hsM : SM tM uP fMz fMa kY) (hLR : LR iKp tA tB fH fS fA gE kZ fMh fMo fMz fMk fMa eR kY tM uP fB fMt) (hS : va_S A s.heap H locs) (hl : lv_has ls 4 [(3, .int (nI kI)), (2, .ref (aM 0)), (1, .ref (aX 0)), (0, .ref b)]) (kk : ∀ (H : Heap) (locs : List Loc), LINV G cy A H aX aM rR rB rO rK → va_S A s.heap H locs → W p l e room_1 s m #[Value.ref b] below meth c H locs (nC + 250) (nS + 4440) (lw_Z below #[Value.ref b] s) (F0 m 1807 ls [])) : W p l e room_1 s m #[Value.ref b] below meth c H locs nC nS (lw_Z below #[Value.ref b] s) (F0 m 456 ls []) := by
  refine lv_aload_n hx hb (g_43 bL_law rfl) rfl (lv_at hl 2 rfl) ?_
  refine lv_aload_n hx hb (g_42 bL_law rfl) rfl (lv_at hl 3 rfl) ?_
  refine lv_iload_n hx hb (g_29 bL_law rfl) rfl (lv_at hl 0 rfl) ?_
  refine lv_iconst (v := 1) hx hb (g_4 bL_law rfl) (by decide +kernel) ?_
  refine lv_iadd hx hb (g_96 bL_law rfl) ?_
  refine lv_seti (v := nI (kI + 1)) (nI_add _ _) ?_
  refine va_sld hx hb hX hbl hbA hS (vp_in_nI (by omega) (by omega)) (g_46 bL_law rfl) ?_
  refine lv_seti (v := xs (kI + 1)) (congrArg xs (nI_clamp (by omega))) ?_
  have hP2 : va_P G CL ((zzO (aX 0) 4 [.ref (aX 2), .ref (aX 11), .ref (aX 20), .ref (aX 39), .ref (aX 44), .ref (aX 1), .int iKp, .int iYe, .int iTv] :: zzI cy (aX 1) 5 fR :: zzO (aX 2) 3 [.int (nI (T_nb tA)), .int (nI (T_np tA)), .int (wb (T_wh tA)), .int (wb (T_gn tA)), .int (T_sd tA), .ref (aX 3), .ref (aX 4), .ref (aX 5), .ref (aX 6), .ref (aX 7), .ref (aX 8), .ref (aX 9), .ref (aX 10)] :: zzI cy (aX 3) 8 (T_wo tA) :: zzI cy (aX 4) 8 (T_ne tA) :: zzI cy (aX 5) 8 (T_go tA) :: zzI cy (aX 6) 8 (T_ag tA) :: zzI cy (aX 7) 8 (T_re tA) :: zzI cy (aX 8) 8 (T_me tA) :: zzI cy (aX 9) 8 (T_te tA) :: zzI cy (aX 10) 64 (shF (T_kn tA)) :: zzO (aX 11) 3 [.int (nI (T_nb tB)), .int (nI (T_np tB)), .int (wb (T_wh tB)), .int (wb (T_gn tB)), .int (T_sd tB), .ref (aX 12), .ref (aX 13), .ref (aX 14), .ref (aX 15), .ref (aX 16), .ref (aX 17), .ref (aX 18), .ref (aX 19)] :: zzI cy (aX 12) 8 (T_wo tB) :: zzI cy (aX 13) 8 (T_ne tB) :: zzI cy (aX 14) 8 (T_go tB) :: zzI cy (aX 15) 8 (T_ag tB) :: zzI cy (aX 16) 8 (T_re tB) :: zzI cy (aX 17) 8 (T_me tB) :: zzI cy (aX 18) 8 (T_te tB) :: zzI cy (aX 19) 64 (shF (T_kn tB)) :: zzO (aX 20) 0 [.ref (aX 21), .ref (aX 30), .int iL, .int iBs] :: zzO (aX 21) 3 [.int (nI (T_nb tU)), .int (nI (T_np tU)), .int (wb (T_wh tU)), .int (wb (T_gn tU)), .int (T_sd tU), .ref (aX 22), .ref (aX 23), .ref (aX 24), .ref (aX 25), .ref (aX 26), .ref (aX 27), .ref (aX 28), .ref (aX 29)] :: zzI cy (aX 22) 8 (T_wo tU) :: zzI cy (aX 23) 8 (T_ne tU) :: zzI cy (aX 24) 8 (T_go tU) :: zzI cy (aX 25) 8 (T_ag tU) :: zzI cy (aX 26) 8 (T_re tU) :: zzI cy (aX 27) 8 (T_me tU) :: zzI cy (aX 28) 8 (T_te tU) :: zzI cy (aX 29) 64 (shF (T_kn tU)) :: zzO (aX 30) 3 [.int (nI (T_nb tV)), .int (nI (T_np tV)), .int (wb (T_wh tV)), .int (wb (T_gn tV)), .int (T_sd tV), .ref (aX 31), .ref (aX 32), .ref (aX 33), .ref (aX 34), .ref (aX 35), .ref (aX 36), .ref (aX 37), .ref (aX 38)] :: zzI cy (aX 31) 8 (T_wo tV) :: zzI cy (aX 32) 8 (T_ne tV) :: zzI cy (aX 33) 8 (T_go tV) :: zzI cy (aX 34) 8 (T_ag tV) :: zzI cy (aX 35) 8 (T_re tV) :: zzI cy (aX 36) 8 (T_me tV) :: zzI cy (aX 37) 8 (T_te tV) :: zzI cy (aX 38) 64 (shF (T_kn tV)) :: zzO (aX 39) 1 [.ref (aX 40), .ref (aX 41), .ref (aX 42), .ref (aX 43)] :: zzI cy (aX 40) 8 fH :: zzI cy (aX 41) 8 fS :: zzI cy (aX 42) 8 fA :: zzJ cy (aX 43) 320 gE :: zzO (aX 44) 2 [.ref (aX 45), .int (nI kZ), .int iT1, .int iT2, .int iT3, .int iT4, .ref (aX 46)] :: zzB cy (aX 45) 250 fB :: zzO (aX 46) 3 [.int (nI (T_nb tD)), .int (nI (T_np tD)), .int (wb (T_wh tD)), .int (wb (T_gn tD)), .int (T_sd tD), .ref (aX 47), .ref (aX 48), .ref (aX 49), .ref (aX 50), .ref (aX 51), .ref (aX 52), .ref (aX 53), .ref (aX 54)] :: zzI cy (aX 47) 8 (T_wo tD) :: zzI cy (aX 48) 8 (T_ne tD) :: zzI cy (aX 49) 8 (T_go tD) :: zzI cy (aX 50) 8 (T_ag tD) :: zzI cy (aX 51) 8 (T_re tD) :: zzI cy (aX 52) 8 (T_me tD) :: zzI cy (aX 53) 8 (T_te tD) :: zzI cy (aX 54) 64 (shF (T_kn tD)) :: []) ++ ((MK cy aM rR rB rO rK fMh fMo fMz gMv fMk fMa fMt kY fMr fM3 fMu fMy fMb eR tM iEn iTk uP uU kAt iTo iFr JFi iFa iSt iLv iWs wL uS0 uS1 uS2 uS3 uS4 iOm) ++ ((oM cy uU) ++ ((oL cy wL) ++ ((oM cy uP) ++ (oM cy uS0 ++ (oM cy uS1 ++ (oM cy uS2 ++ (oM cy uS3 ++ oM cy uS4))))))))) H := hP
  refine kRi (rV (As := [.int (xs (kI + 1))]) (rest := []) (b := (aX 0)) ⟨hx, hb, hml, hown, hts⟩ (p_X5_holds l G cy (aX 0) (aX 2) (aX 11) (aX 20) (aX 39) (aX 44) (aX 1) iKp iYe iTv (aX 40) (aX 41) (aX 42) (aX 43) fH (xs (kI + 1))) L_L_35 (preRV (q := (RX5, TX5, 9)) hN hP2 (trueIx 0 (true :: false :: false :: false :: false :: false :: false :: false :: false :: false :: false :: false :: false :: false :: false :: false :: false :: false :: false :: false :: false :: false :: false :: false :: false :: false :: false :: false :: false :: false :: false :: false :: false :: false :: false :: false :: false :: false :: false :: true :: true :: [])) (sel_fm rfl rfl) 0 4 rfl rfl) rfl ⟨Nat.le_of_ble_eq_true rfl, Nat.le_of_ble_eq_true rfl⟩ hl.1 (Nat.le_of_ble_eq_true rfl) (g_182 (v := 35) bL_law rfl) ⟨by show nC + 0 ≤ 600000; omega, by show nS + 0 ≤ 7302250; omega⟩) (fun r_1 h_2 => ?_)
  clear hP2
  refine lv_pop hx hb (g_87 bL_law rfl) rfl ?_
  refine lv_aload_n hx hb (g_44 bL_law rfl) rfl (lv_at hl 1 rfl) ?_
  refine lv_aload_n hx hb (g_42 bL_law rfl) rfl (lv_at hl 3 rfl) ?_
  refine lv_iload_n hx hb (g_29 bL_law rfl) rfl (lv_at hl 0 rfl) ?_
  refine lv_iconst (v := 1) hx hb (g_4 bL_law rfl) (by decide +kernel) ?_
  refine lv_iadd hx hb (g_96 bL_law rfl) ?_
  refine lv_seti (v := nI (kI + 1)) (nI_add _ _) ?_
  refine va_sld hx hb hX hbl hbA hS (vp_in_nI (by omega) (by omega)) (g_46 bL_law rfl) ?_
  refine lv_seti (v := xs (kI + 1)) (congrArg xs (nI_clamp (by omega))) ?_
  replace hP : va_P G CL ((MK cy aM rR rB rO rK fMh fMo fMz gMv fMk fMa fMt kY fMr fM3 fMu fMy fMb eR tM iEn iTk uP uU kAt iTo iFr JFi iFa iSt iLv iWs wL uS0 uS1 uS2 uS3 uS4 iOm) ++ (((oM cy uU) ++ ((oL cy wL) ++ ((oM cy uP) ++ (oM cy uS0 ++ (oM cy uS1 ++ (oM cy uS2 ++ (oM cy uS3 ++ oM cy uS4))))))) ++ (XW cy aX iKp iYe iTv fR tA tB iL iBs tU tV fH fS fA gE kZ iT1 iT2 iT3 iT4 fB tD))) H := toNP hP
  replace hD : va_D A ((MK cy aM rR rB rO rK fMh fMo fMz gMv fMk fMa fMt kY fMr fM3 fMu fMy fMb eR tM iEn iTk uP uU kAt iTo iFr JFi iFa iSt iLv iWs wL uS0 uS1 uS2 uS3 uS4 iOm) ++ (((oM cy uU) ++ ((oL cy wL) ++ ((oM cy uP) ++ (oM cy uS0 ++ (oM cy uS1 ++ (oM cy uS2 ++ (oM cy uS3 ++ oM cy uS4))))))) ++ (XW cy aX iKp iYe iTv fR tA tB iL iBs tU tV fH fS fA gE kZ iT1 iT2 iT3 iT4 fB tD))) := toND hD
  have hP2 : va_P G CL ((zzO (aM 0) 5 (.ref (aM 1) :: .ref (aM 2) :: .ref (aM 3) :: .ref (aM 14) :: .ref (aM 4) :: .ref (aM 5) :: .ref (aM 6) :: .ref (aM 7) :: .int (nI kY) :: .ref (aM 8) :: .int (nI (T_nb tM)) :: .ref (aM 15) :: .int (nI (T_np tM)) :: .ref (aM 16) :: .ref (aM 17) :: .int iEn :: .int iTk :: .int (T_sd tM) :: ov uP :: ov uU :: .int (nI kAt) :: .int iTo :: .int iFr :: .long JFi :: .int iFa :: .ref (aM 9) :: .int iSt :: .int iLv :: .int iWs :: ovL wL :: .ref (aM 10) :: .ref (aM 11) :: .ref (aM 12) :: .ref (aM 13) :: .int iOm :: []) :: zzI cy (aM 1) 8 fMh :: zzI cy (aM 2) 8 fMo :: zzI cy (aM 3) 8 fMz :: zzJ cy (aM 4) 40 gMv :: zzI cy (aM 5) 8 fMk :: zzI cy (aM 6) 8 fMa :: zzI cy (aM 7) 250 fMt :: zzI cy (aM 8) 8 fMr :: zzI cy (aM 9) 3 fM3 :: zzI cy (aM 10) 8 fMu :: zzI cy (aM 11) 5 fMy :: zzI cy (aM 12) 5 fMb :: zzQ cy 5 (aM 13) 6 (sF (refU uS0) (refU uS1) (refU uS2) (refU uS3) (refU uS4)) :: zzG cy 4 (aM 14) rR :: zzJ cy (rR 0) 40 (eR 0) :: zzJ cy (rR 1) 40 (eR 1) :: zzJ cy (rR 2) 40 (eR 2) :: zzJ cy (rR 3) 40 (eR 3) :: zzJ cy (rR 4) 40 (eR 4) :: zzJ cy (rR 5) 40 (eR 5) :: zzJ cy (rR 6) 40 (eR 6) :: zzJ cy (rR 7) 40 (eR 7) :: zzG cy 3 (aM 15) rB :: zzI cy (rB 0) 4 (bkR tM 0) :: zzI cy (rB 1) 4 (bkR tM 1) :: zzI cy (rB 2) 4 (bkR tM 2) :: zzI cy (rB 3) 4 (bkR tM 3) :: zzI cy (rB 4) 4 (bkR tM 4) :: zzI cy (rB 5) 4 (bkR tM 5) :: zzI cy (rB 6) 4 (bkR tM 6) :: zzI cy (rB 7) 4 (bkR tM 7) :: zzG cy 3 (aM 16) rO :: zzI cy (rO 0) 5 (onR tM 0) :: zzI cy (rO 1) 5 (onR tM 1) :: zzI cy (rO 2) 5 (onR tM 2) :: zzI cy (rO 3) 5 (onR tM 3) :: zzI cy (rO 4) 5 (onR tM 4) :: zzI cy (rO 5) 5 (onR tM 5) :: zzI cy (rO 6) 5 (onR tM 6) :: zzI cy (rO 7) 5 (onR tM 7) :: zzG cy 3 (aM 17) rK :: zzI cy (rK 0) 8 (T_kn tM 0) :: zzI cy (rK 1) 8 (T_kn tM 1) :: zzI cy (rK 2) 8 (T_kn tM 2) :: zzI cy (rK 3) 8 (T_kn tM 3) :: zzI cy (rK 4) 8 (T_kn tM 4) :: zzI cy (rK 5) 8 (T_kn tM 5) :: zzI cy (rK 6) 8 (T_kn tM 6) :: zzI cy (rK 7) 8 (T_kn tM 7) :: []) ++ (((oM cy uU) ++ ((oL cy wL) ++ ((oM cy uP) ++ (oM cy uS0 ++ (oM cy uS1 ++ (oM cy uS2 ++ (oM cy uS3 ++ oM cy uS4))))))) ++ (XW cy aX iKp iYe iTv fR tA tB iL iBs tU tV fH fS fA gE kZ iT1 iT2 iT3 iT4 fB tD))) H := hP
  refine kRi (rV (As := [.int (xs (kI + 1))]) (rest := []) (b := (aM 0)) ⟨hx, hb, hml, hown, hts⟩ (p_X6_holds l G cy (aM 0) (aM 1) (aM 2) (aM 3) (aM 14) (aM 4) (aM 5) (aM 6) (aM 7) kY (aM 8) tM (aM 15) (aM 16) (aM 17) iEn iTk uP uU kAt iTo iFr JFi iFa (aM 9) iSt iLv iWs (ovL wL) (aM 10) (aM 11) (aM 12) (aM 13) iOm fMh fMo fMk (xs (kI + 1))) L_L_39 (preRV (q := (RX6, TX6, 35)) hN hP2 (trueIx 0 [true, true, true, false, false, true]) (sel_fm rfl rfl) 0 5 rfl rfl) rfl ⟨Nat.le_of_ble_eq_true rfl, Nat.le_of_ble_eq_true rfl⟩ hl.1 (Nat.le_of_ble_eq_true rfl) (g_182 (v := 39) bL_law rfl) ⟨by show nC + 0 ≤ 600000; omega, by show nS + 0 ≤ 7302250; omega⟩) (fun r_3 h_4 => ?_)
  clear hP2
  replace hP : va_P G CL ((XW cy aX iKp iYe iTv fR tA tB iL iBs tU tV fH fS fA gE kZ iT1 iT2 iT3 iT4 fB tD) ++ ((MK cy aM rR rB rO rK fMh fMo fMz gMv fMk fMa fMt kY fMr fM3 fMu fMy fMb eR tM iEn iTk uP uU kAt iTo iFr JFi iFa iSt iLv iWs wL uS0 uS1 uS2 uS3 uS4 iOm) ++ ((oM cy uU) ++ ((oL cy wL) ++ ((oM cy uP) ++ (oM cy uS0 ++ (oM cy uS1 ++ (oM cy uS2 ++ (oM cy uS3 ++ oM cy uS4))))))))) H := ofNP hP
  replace hD : va_D A ((XW cy aX iKp iYe iTv fR tA tB iL iBs tU tV fH fS fA gE kZ iT1 iT2 iT3 iT4 fB tD) ++ ((MK cy aM rR rB rO rK fMh fMo fMz gMv fMk fMa fMt kY fMr fM3 fMu fMy fMb eR tM iEn iTk uP uU kAt iTo iFr JFi iFa iSt iLv iWs wL uS0 uS1 uS2 uS3 uS4 iOm) ++ ((oM cy uU) ++ ((oL cy wL) ++ ((oM cy uP) ++ (oM cy uS0 ++ (oM cy uS1 ++ (oM cy uS2 ++ (oM cy uS3 ++ oM cy uS4))))))))) := ofND hD
  refine lv_pop hx hb (g_87 bL_law rfl) rfl ?_
  refine lv_goto (tgt := 1807) hx hb dL_law_476 (by decide +kernel) ?_
  refine W.widen (k := nC + 250) (n := nS + 4440) (by omega) (by omega) ?_
  exact kk _ _ (linv_mk hP hD (hsX) (hsM) (⟨hLR.1, hLR.2⟩)) hS
set_option maxHeartbeats 4000000 in
set_option maxRecDepth 100000 in
theorem law_5 {p : Program} {l : Launch} {e : Env} {s : State} {m : MethodId} {below : List Frame} {meth : Method} {c : Code} {b L : Nat} {xs : Nat → Int32} {A : Nat → Prop} {G : va_G} {cy : Nat → ClassId} {aX aM rR rB rO rK : Nat → Nat} (hx : p.tables.exec = Jvm.exec) (hb : c.code = code) (hr : meth.sig.returnType = ret) (hml : c.maxLocals = 4) (hown : s.vm.findClass RL = some m.cls) (hts : ∀ w ∈ BIG, w.before #[Value.ref b] s = true) (hX : va_X b L xs s s.heap) (hbl : b < s.heap.size) (hlocks : meth.locks = false) (hN : KN G cy s) (hA : ∀ q : Nat, s.heap.size ≤ q → A q) (hAn : ∀ q : Nat, A q → s.heap.size ≤ q) (hbA : ¬ A b) (hSO : SO A s s.heap) {H : Heap} {locs : List Loc} {ls : Array Slot} {kI nC nS : Nat} (hkI : kI + 6 ≤ L) (hL : L ≤ 384) (hnC : nC + 250 ≤ 600000) (hnS : nS + 4440 ≤ 7302250) {iKp : Int32} {iYe : Int32} {iTv : Int32} {fR : Nat → Int32} {tA : TA} {tB : TA} {iL : Int32} {iBs : Int32} {tU : TA} {tV : TA} {fH : Nat → Int32} {fS : Nat → Int32} {fA : Nat → Int32} {gE : Nat → Int64} {kZ : Nat} {iT1 : Int32} {iT2 : Int32} {iT3 : Int32} {iT4 : Int32} {fB : Nat → Int32} {tD : TA} {fMh : Nat → Int32} {fMo : Nat → Int32} {fMz : Nat → Int32} {gMv : Nat → Int64} {fMk : Nat → Int32} {fMa : Nat → Int32} {fMt : Nat → Int32} {kY : Nat} {fMr : Nat → Int32} {fM3 : Nat → Int32} {fMu : Nat → Int32} {fMy : Nat → Int32} {fMb : Nat → Int32} {eR : Nat → Nat → Int64} {tM : TA} {iEn : Int32} {iTk : Int32} {uP : UM} {uU : UM} {kAt : Nat} {iTo : Int32} {iFr : Int32} {JFi : Int64} {iFa : Int32} {iSt : Int32} {iLv : Int32} {iWs : Int32} {wL : UL} {uS0 : UM} {uS1 : UM} {uS2 : UM} {uS3 : UM} {uS4 : UM} {iOm : Int32} (hP : va_P G CL ((XW cy aX iKp iYe iTv fR tA tB iL iBs tU tV fH fS fA gE kZ iT1 iT2 iT3 iT4 fB tD) ++ ((MK cy aM rR rB rO rK fMh fMo fMz gMv fMk fMa fMt kY fMr fM3 fMu fMy fMb eR tM iEn iTk uP uU kAt iTo iFr JFi iFa iSt iLv iWs wL uS0 uS1 uS2 uS3 uS4 iOm) ++ ((oM cy uU) ++ ((oL cy wL) ++ ((oM cy uP) ++ (oM cy uS0 ++ (oM cy uS1 ++ (oM cy uS2 ++ (oM cy uS3 ++ oM cy uS4))))))))) H) (hD : va_D A ((XW cy aX iKp iYe iTv fR tA tB iL iBs tU tV fH fS fA gE kZ iT1 iT2 iT3 iT4 fB tD) ++ ((MK cy aM rR rB rO rK fMh fMo fMz gMv fMk fMa fMt kY fMr fM3 fMu fMy fMb eR tM iEn iTk uP uU kAt iTo iFr JFi iFa iSt iLv iWs wL uS0 uS1 uS2 uS3 uS4 iOm) ++ ((oM cy uU) ++ ((oL cy wL) ++ ((oM cy uP) ++ (oM cy uS0 ++ (oM cy uS1 ++ (oM cy uS2 ++ (oM cy uS3 ++ oM cy uS4)))))))))) (hsX : SX tA tB tD fS kZ) (hsM : SM tM uP fMz fMa kY) (hLR : LR iKp tA tB fH fS fA gE kZ fMh fMo fMz fMk fMa eR kY tM uP fB fMt) (hS : va_S A s.heap H locs) (hl : lv_has ls 4 [(3, .int (nI kI)), (2, .ref (aM 0)), (1, .ref (aX 0)), (0, .ref b)]) (kk : ∀ (H : Heap) (locs : List Loc), LINV G cy A H aX aM rR rB rO rK → va_S A s.heap H locs → W p l e room_1 s m #[Value.ref b] below meth c H locs (nC + 250) (nS + 4440) (lw_Z below #[Value.ref b] s) (F0 m 1807 ls [])) : W p l e room_1 s m #[Value.ref b] below meth c H locs nC nS (lw_Z below #[Value.ref b] s) (F0 m 479 ls []) := by
  refine lv_aload_n hx hb (g_43 bL_law rfl) rfl (lv_at hl 2 rfl) ?_
  refine lv_aload_n hx hb (g_42 bL_law rfl) rfl (lv_at hl 3 rfl) ?_
  refine lv_iload_n hx hb (g_29 bL_law rfl) rfl (lv_at hl 0 rfl) ?_
  refine lv_iconst (v := 1) hx hb (g_4 bL_law rfl) (by decide +kernel) ?_
  refine lv_iadd hx hb (g_96 bL_law rfl) ?_
  refine lv_seti (v := nI (kI + 1)) (nI_add _ _) ?_
  refine va_sld hx hb hX hbl hbA hS (vp_in_nI (by omega) (by omega)) (g_46 bL_law rfl) ?_
  refine lv_seti (v := xs (kI + 1)) (congrArg xs (nI_clamp (by omega))) ?_
  refine lv_aload_n hx hb (g_42 bL_law rfl) rfl (lv_at hl 3 rfl) ?_
  refine lv_iload_n hx hb (g_29 bL_law rfl) rfl (lv_at hl 0 rfl) ?_
  refine lv_iconst (v := 2) hx hb (g_5 bL_law rfl) (by decide +kernel) ?_
  refine lv_iadd hx hb (g_96 bL_law rfl) ?_
  refine lv_seti (v := nI (kI + 2)) (nI_add _ _) ?_
  refine va_sld hx hb hX hbl hbA hS (vp_in_nI (by omega) (by omega)) (g_46 bL_law rfl) ?_
  refine lv_seti (v := xs (kI + 2)) (congrArg xs (nI_clamp (by omega))) ?_
  refine lv_aload_n hx hb (g_42 bL_law rfl) rfl (lv_at hl 3 rfl) ?_
  refine lv_iload_n hx hb (g_29 bL_law rfl) rfl (lv_at hl 0 rfl) ?_
  refine lv_iconst (v := 3) hx hb (g_6 bL_law rfl) (by decide +kernel) ?_
  refine lv_iadd hx hb (g_96 bL_law rfl) ?_
  refine lv_seti (v := nI (kI + 3)) (nI_add _ _) ?_
  refine va_sld hx hb hX hbl hbA hS (vp_in_nI (by omega) (by omega)) (g_46 bL_law rfl) ?_
  refine lv_seti (v := xs (kI + 3)) (congrArg xs (nI_clamp (by omega))) ?_
  have hPD := pd_as (((zzO (aX 0) 4 [.ref (aX 2), .ref (aX 11), .ref (aX 20), .ref (aX 39), .ref (aX 44), .ref (aX 1), .int iKp, .int iYe, .int iTv] :: zzI cy (aX 1) 5 fR :: zzO (aX 2) 3 [.int (nI (T_nb tA)), .int (nI (T_np tA)), .int (wb (T_wh tA)), .int (wb (T_gn tA)), .int (T_sd tA), .ref (aX 3), .ref (aX 4), .ref (aX 5), .ref (aX 6), .ref (aX 7), .ref (aX 8), .ref (aX 9), .ref (aX 10)] :: zzI cy (aX 3) 8 (T_wo tA) :: zzI cy (aX 4) 8 (T_ne tA) :: zzI cy (aX 5) 8 (T_go tA) :: zzI cy (aX 6) 8 (T_ag tA) :: zzI cy (aX 7) 8 (T_re tA) :: zzI cy (aX 8) 8 (T_me tA) :: zzI cy (aX 9) 8 (T_te tA) :: zzI cy (aX 10) 64 (shF (T_kn tA)) :: zzO (aX 11) 3 [.int (nI (T_nb tB)), .int (nI (T_np tB)), .int (wb (T_wh tB)), .int (wb (T_gn tB)), .int (T_sd tB), .ref (aX 12), .ref (aX 13), .ref (aX 14), .ref (aX 15), .ref (aX 16), .ref (aX 17), .ref (aX 18), .ref (aX 19)] :: zzI cy (aX 12) 8 (T_wo tB) :: zzI cy (aX 13) 8 (T_ne tB) :: zzI cy (aX 14) 8 (T_go tB) :: zzI cy (aX 15) 8 (T_ag tB) :: zzI cy (aX 16) 8 (T_re tB) :: zzI cy (aX 17) 8 (T_me tB) :: zzI cy (aX 18) 8 (T_te tB) :: zzI cy (aX 19) 64 (shF (T_kn tB)) :: zzO (aX 20) 0 [.ref (aX 21), .ref (aX 30), .int iL, .int iBs] :: zzO (aX 21) 3 [.int (nI (T_nb tU)), .int (nI (T_np tU)), .int (wb (T_wh tU)), .int (wb (T_gn tU)), .int (T_sd tU), .ref (aX 22), .ref (aX 23), .ref (aX 24), .ref (aX 25), .ref (aX 26), .ref (aX 27), .ref (aX 28), .ref (aX 29)] :: zzI cy (aX 22) 8 (T_wo tU) :: zzI cy (aX 23) 8 (T_ne tU) :: zzI cy (aX 24) 8 (T_go tU) :: zzI cy (aX 25) 8 (T_ag tU) :: zzI cy (aX 26) 8 (T_re tU) :: zzI cy (aX 27) 8 (T_me tU) :: zzI cy (aX 28) 8 (T_te tU) :: zzI cy (aX 29) 64 (shF (T_kn tU)) :: zzO (aX 30) 3 [.int (nI (T_nb tV)), .int (nI (T_np tV)), .int (wb (T_wh tV)), .int (wb (T_gn tV)), .int (T_sd tV), .ref (aX 31), .ref (aX 32), .ref (aX 33), .ref (aX 34), .ref (aX 35), .ref (aX 36), .ref (aX 37), .ref (aX 38)] :: zzI cy (aX 31) 8 (T_wo tV) :: zzI cy (aX 32) 8 (T_ne tV) :: zzI cy (aX 33) 8 (T_go tV) :: zzI cy (aX 34) 8 (T_ag tV) :: zzI cy (aX 35) 8 (T_re tV) :: zzI cy (aX 36) 8 (T_me tV) :: zzI cy (aX 37) 8 (T_te tV) :: zzI cy (aX 38) 64 (shF (T_kn tV)) :: zzO (aX 39) 1 [.ref (aX 40), .ref (aX 41), .ref (aX 42), .ref (aX 43)] :: zzI cy (aX 40) 8 fH :: zzI cy (aX 41) 8 fS :: zzI cy (aX 42) 8 fA :: zzJ cy (aX 43) 320 gE :: zzO (aX 44) 2 [.ref (aX 45), .int (nI kZ), .int iT1, .int iT2, .int iT3, .int iT4, .ref (aX 46)] :: zzB cy (aX 45) 250 fB :: zzO (aX 46) 3 [.int (nI (T_nb tD)), .int (nI (T_np tD)), .int (wb (T_wh tD)), .int (wb (T_gn tD)), .int (T_sd tD), .ref (aX 47), .ref (aX 48), .ref (aX 49), .ref (aX 50), .ref (aX 51), .ref (aX 52), .ref (aX 53), .ref (aX 54)] :: zzI cy (aX 47) 8 (T_wo tD) :: zzI cy (aX 48) 8 (T_ne tD) :: zzI cy (aX 49) 8 (T_go tD) :: zzI cy (aX 50) 8 (T_ag tD) :: zzI cy (aX 51) 8 (T_re tD) :: zzI cy (aX 52) 8 (T_me tD) :: zzI cy (aX 53) 8 (T_te tD) :: zzI cy (aX 54) 64 (shF (T_kn tD)) :: []) : va_W) ++ ((MK cy aM rR rB rO rK fMh fMo fMz gMv fMk fMa fMt kY fMr fM3 fMu fMy fMb eR tM iEn iTk uP uU kAt iTo iFr JFi iFa iSt iLv iWs wL uS0 uS1 uS2 uS3 uS4 iOm) ++ ((oM cy uU) ++ ((oL cy wL) ++ ((oM cy uP) ++ (oM cy uS0 ++ (oM cy uS1 ++ (oM cy uS2 ++ (oM cy uS3 ++ oM cy uS4))))))))) hP hD rfl
  clear hP hD
  obtain ⟨hP, hD⟩ := hPD
  refine cViQ (As := [.int (xs (kI + 1)), .int (xs (kI + 2)), .int (xs (kI + 3))]) (rest := []) (b := (aX 0)) (q := (RX5, TX5, 9)) ⟨hx, hb, hml, hown, hts⟩ (p_X5_rule l G cy (H).size (aX 0) (aX 2) (aX 11) (aX 20) (aX 39) (aX 44) (aX 1) iKp iYe iTv fR (aX 40) (aX 41) (aX 42) (aX 43) fH fA (xs (kI + 1)) (xs (kI + 2)) (xs (kI + 3))) L_L_40 hN hP hD hS hA (trueIx 0 (true :: true :: false :: false :: false :: false :: false :: false :: false :: false :: false :: false :: false :: false :: false :: false :: false :: false :: false :: false :: false :: false :: false :: false :: false :: false :: false :: false :: false :: false :: false :: false :: false :: false :: false :: false :: false :: false :: false :: true :: true :: false :: true :: [])) (false :: false :: true :: true :: true :: true :: true :: true :: true :: true :: true :: true :: true :: true :: true :: true :: true :: true :: true :: true :: true :: true :: true :: true :: true :: true :: true :: true :: true :: true :: true :: true :: true :: true :: true :: true :: true :: true :: true :: false :: false :: true :: false :: true :: true :: true :: true :: true :: true :: true :: true :: true :: true :: true :: true :: []) (sel_eq rfl rfl) (by decide +kernel) rfl 0 4 rfl rfl rfl ⟨Nat.le_of_ble_eq_true rfl, Nat.le_of_ble_eq_true rfl⟩ hl.1 (Nat.le_of_ble_eq_true rfl) (g_182 (v := 40) bL_law rfl) ⟨by show nC + 0 ≤ 600000; omega, by show nS + 0 ≤ 7302250; omega⟩ (fun r_1 u_3 H locs h_2 => ?_)
  clear hP hD hS
  intro hP hD hS
  obtain ⟨fX_4, fY_5, fW_6, hu9, h_7, h_2⟩ := h_2
  have hPD := pd_eqQ (((_ :: _ :: _ :: _ :: _ :: _ :: _ :: _ :: _ :: _ :: _ :: _ :: _ :: _ :: _ :: _ :: _ :: _ :: _ :: _ :: _ :: _ :: _ :: _ :: _ :: _ :: _ :: _ :: _ :: _ :: _ :: _ :: _ :: _ :: _ :: _ :: _ :: _ :: _ :: _ :: _ :: _ :: _ :: _ :: _ :: _ :: _ :: _ :: _ :: _ :: _ :: zzI cy (aX 1) 5 fX_4 :: _ :: zzI cy (aX 40) 8 fY_5 :: zzI cy (aX 42) 8 fW_6 :: []) : va_W) ++ ((MK cy aM rR rB rO rK fMh fMo fMz gMv fMk fMa fMt kY fMr fM3 fMu fMy fMb eR tM iEn iTk uP uU kAt iTo iFr JFi iFa iSt iLv iWs wL uS0 uS1 uS2 uS3 uS4 iOm) ++ ((oM cy uU) ++ ((oL cy wL) ++ ((oM cy uP) ++ (oM cy uS0 ++ (oM cy uS1 ++ (oM cy uS2 ++ (oM cy uS3 ++ oM cy uS4))))))))) hP hD hu9 rfl
  clear hP hD hu9
  obtain ⟨hP, hD⟩ := hPD
  have hPD := pt_as (XW cy aX iKp iYe iTv fX_4 tA tB iL iBs tU tV fY_5 fS fW_6 gE kZ iT1 iT2 iT3 iT4 fB tD) (50 :: 51 :: 0 :: 1 :: 2 :: 3 :: 4 :: 5 :: 6 :: 7 :: 8 :: 9 :: 10 :: 11 :: 12 :: 13 :: 14 :: 15 :: 16 :: 17 :: 18 :: 19 :: 20 :: 21 :: 22 :: 23 :: 24 :: 25 :: 26 :: 27 :: 28 :: 29 :: 30 :: 31 :: 32 :: 33 :: 34 :: 35 :: 36 :: 52 :: 53 :: 37 :: 54 :: 38 :: 39 :: 40 :: 41 :: 42 :: 43 :: 44 :: 45 :: 46 :: 47 :: 48 :: 49 :: []) hP hD (by decide +kernel) rfl
  clear hP hD
  obtain ⟨hP, hD⟩ := hPD
  refine lv_pop hx hb (g_87 bL_law rfl) rfl ?_
  refine lv_aload_n hx hb (g_44 bL_law rfl) rfl (lv_at hl 1 rfl) ?_
  refine lv_aload_n hx hb (g_42 bL_law rfl) rfl (lv_at hl 3 rfl) ?_
  refine lv_iload_n hx hb (g_29 bL_law rfl) rfl (lv_at hl 0 rfl) ?_
  refine lv_iconst (v := 1) hx hb (g_4 bL_law rfl) (by decide +kernel) ?_
  refine lv_iadd hx hb (g_96 bL_law rfl) ?_
  refine lv_seti (v := nI (kI + 1)) (nI_add _ _) ?_
  refine va_sld hx hb hX hbl hbA hS (vp_in_nI (by omega) (by omega)) (g_46 bL_law rfl) ?_
  refine lv_seti (v := xs (kI + 1)) (congrArg xs (nI_clamp (by omega))) ?_
  refine lv_aload_n hx hb (g_42 bL_law rfl) rfl (lv_at hl 3 rfl) ?_
  refine lv_iload_n hx hb (g_29 bL_law rfl) rfl (lv_at hl 0 rfl) ?_
  refine lv_iconst (v := 2) hx hb (g_5 bL_law rfl) (by decide +kernel) ?_
  refine lv_iadd hx hb (g_96 bL_law rfl) ?_
  refine lv_seti (v := nI (kI + 2)) (nI_add _ _) ?_
  refine va_sld hx hb hX hbl hbA hS (vp_in_nI (by omega) (by omega)) (g_46 bL_law rfl) ?_
  refine lv_seti (v := xs (kI + 2)) (congrArg xs (nI_clamp (by omega))) ?_
  refine lv_aload_n hx hb (g_42 bL_law rfl) rfl (lv_at hl 3 rfl) ?_
  refine lv_iload_n hx hb (g_29 bL_law rfl) rfl (lv_at hl 0 rfl) ?_
  refine lv_iconst (v := 3) hx hb (g_6 bL_law rfl) (by decide +kernel) ?_
  refine lv_iadd hx hb (g_96 bL_law rfl) ?_
  refine lv_seti (v := nI (kI + 3)) (nI_add _ _) ?_
  refine va_sld hx hb hX hbl hbA hS (vp_in_nI (by omega) (by omega)) (g_46 bL_law rfl) ?_
  refine lv_seti (v := xs (kI + 3)) (congrArg xs (nI_clamp (by omega))) ?_
  replace hP : va_P G CL ((MK cy aM rR rB rO rK fMh fMo fMz gMv fMk fMa fMt kY fMr fM3 fMu fMy fMb eR tM iEn iTk uP uU kAt iTo iFr JFi iFa iSt iLv iWs wL uS0 uS1 uS2 uS3 uS4 iOm) ++ (((oM cy uU) ++ ((oL cy wL) ++ ((oM cy uP) ++ (oM cy uS0 ++ (oM cy uS1 ++ (oM cy uS2 ++ (oM cy uS3 ++ oM cy uS4))))))) ++ (XW cy aX iKp iYe iTv fX_4 tA tB iL iBs tU tV fY_5 fS fW_6 gE kZ iT1 iT2 iT3 iT4 fB tD))) H := toNP hP
  replace hD : va_D A ((MK cy aM rR rB rO rK fMh fMo fMz gMv fMk fMa fMt kY fMr fM3 fMu fMy fMb eR tM iEn iTk uP uU kAt iTo iFr JFi iFa iSt iLv iWs wL uS0 uS1 uS2 uS3 uS4 iOm) ++ (((oM cy uU) ++ ((oL cy wL) ++ ((oM cy uP) ++ (oM cy uS0 ++ (oM cy uS1 ++ (oM cy uS2 ++ (oM cy uS3 ++ oM cy uS4))))))) ++ (XW cy aX iKp iYe iTv fX_4 tA tB iL iBs tU tV fY_5 fS fW_6 gE kZ iT1 iT2 iT3 iT4 fB tD))) := toND hD
  have hPD := pd_as (((zzO (aM 0) 5 (.ref (aM 1) :: .ref (aM 2) :: .ref (aM 3) :: .ref (aM 14) :: .ref (aM 4) :: .ref (aM 5) :: .ref (aM 6) :: .ref (aM 7) :: .int (nI kY) :: .ref (aM 8) :: .int (nI (T_nb tM)) :: .ref (aM 15) :: .int (nI (T_np tM)) :: .ref (aM 16) :: .ref (aM 17) :: .int iEn :: .int iTk :: .int (T_sd tM) :: ov uP :: ov uU :: .int (nI kAt) :: .int iTo :: .int iFr :: .long JFi :: .int iFa :: .ref (aM 9) :: .int iSt :: .int iLv :: .int iWs :: ovL wL :: .ref (aM 10) :: .ref (aM 11) :: .ref (aM 12) :: .ref (aM 13) :: .int iOm :: []) :: zzI cy (aM 1) 8 fMh :: zzI cy (aM 2) 8 fMo :: zzI cy (aM 3) 8 fMz :: zzJ cy (aM 4) 40 gMv :: zzI cy (aM 5) 8 fMk :: zzI cy (aM 6) 8 fMa :: zzI cy (aM 7) 250 fMt :: zzI cy (aM 8) 8 fMr :: zzI cy (aM 9) 3 fM3 :: zzI cy (aM 10) 8 fMu :: zzI cy (aM 11) 5 fMy :: zzI cy (aM 12) 5 fMb :: zzQ cy 5 (aM 13) 6 (sF (refU uS0) (refU uS1) (refU uS2) (refU uS3) (refU uS4)) :: zzG cy 4 (aM 14) rR :: zzJ cy (rR 0) 40 (eR 0) :: zzJ cy (rR 1) 40 (eR 1) :: zzJ cy (rR 2) 40 (eR 2) :: zzJ cy (rR 3) 40 (eR 3) :: zzJ cy (rR 4) 40 (eR 4) :: zzJ cy (rR 5) 40 (eR 5) :: zzJ cy (rR 6) 40 (eR 6) :: zzJ cy (rR 7) 40 (eR 7) :: zzG cy 3 (aM 15) rB :: zzI cy (rB 0) 4 (bkR tM 0) :: zzI cy (rB 1) 4 (bkR tM 1) :: zzI cy (rB 2) 4 (bkR tM 2) :: zzI cy (rB 3) 4 (bkR tM 3) :: zzI cy (rB 4) 4 (bkR tM 4) :: zzI cy (rB 5) 4 (bkR tM 5) :: zzI cy (rB 6) 4 (bkR tM 6) :: zzI cy (rB 7) 4 (bkR tM 7) :: zzG cy 3 (aM 16) rO :: zzI cy (rO 0) 5 (onR tM 0) :: zzI cy (rO 1) 5 (onR tM 1) :: zzI cy (rO 2) 5 (onR tM 2) :: zzI cy (rO 3) 5 (onR tM 3) :: zzI cy (rO 4) 5 (onR tM 4) :: zzI cy (rO 5) 5 (onR tM 5) :: zzI cy (rO 6) 5 (onR tM 6) :: zzI cy (rO 7) 5 (onR tM 7) :: zzG cy 3 (aM 17) rK :: zzI cy (rK 0) 8 (T_kn tM 0) :: zzI cy (rK 1) 8 (T_kn tM 1) :: zzI cy (rK 2) 8 (T_kn tM 2) :: zzI cy (rK 3) 8 (T_kn tM 3) :: zzI cy (rK 4) 8 (T_kn tM 4) :: zzI cy (rK 5) 8 (T_kn tM 5) :: zzI cy (rK 6) 8 (T_kn tM 6) :: zzI cy (rK 7) 8 (T_kn tM 7) :: []) : va_W) ++ (((oM cy uU) ++ ((oL cy wL) ++ ((oM cy uP) ++ (oM cy uS0 ++ (oM cy uS1 ++ (oM cy uS2 ++ (oM cy uS3 ++ oM cy uS4))))))) ++ (XW cy aX iKp iYe iTv fX_4 tA tB iL iBs tU tV fY_5 fS fW_6 gE kZ iT1 iT2 iT3 iT4 fB tD))) hP hD rfl
  clear hP hD
  obtain ⟨hP, hD⟩ := hPD
  refine cViQ (As := [.int (xs (kI + 1)), .int (xs (kI + 2)), .int (xs (kI + 3))]) (rest := []) (b := (aM 0)) (q := (RX6, TX6, 35)) ⟨hx, hb, hml, hown, hts⟩ (p_X6_rule l G cy (H).size (aM 0) (aM 1) (aM 2) (aM 3) (aM 14) (aM 4) (aM 5) (aM 6) (aM 7) kY (aM 8) tM (aM 15) (aM 16) (aM 17) iEn iTk uP uU kAt iTo iFr JFi iFa (aM 9) iSt iLv iWs (ovL wL) (aM 10) (aM 11) (aM 12) (aM 13) iOm fMh fMk fMa fMr (xs (kI + 1)) (xs (kI + 2)) (xs (kI + 3))) L_L_43 hN hP hD hS hA (trueIx 0 [true, true, false, false, false, true, true, false, true]) (false :: false :: true :: true :: true :: false :: false :: true :: false :: true :: true :: true :: true :: true :: true :: true :: true :: true :: true :: true :: true :: true :: true :: true :: true :: true :: true :: true :: true :: true :: true :: true :: true :: true :: true :: true :: true :: true :: true :: true :: true :: true :: true :: true :: true :: true :: true :: true :: true :: true :: []) (sel_eq rfl rfl) (by decide +kernel) rfl 0 5 rfl rfl rfl ⟨Nat.le_of_ble_eq_true rfl, Nat.le_of_ble_eq_true rfl⟩ hl.1 (Nat.le_of_ble_eq_true rfl) (g_182 (v := 43) bL_law rfl) ⟨by show nC + 0 + 0 ≤ 600000; omega, by show nS + 0 + 0 ≤ 7302250; omega⟩ (fun r_8 u_10 H locs h_9 => ?_)
  clear hP hD hS
  intro hP hD hS
  obtain ⟨fNh_11, fNk_12, fNa_13, fNr_14, hu9, h_15, h_9⟩ := h_9
  have hPD := pd_eqQ (((_ :: _ :: _ :: _ :: _ :: _ :: _ :: _ :: _ :: _ :: _ :: _ :: _ :: _ :: _ :: _ :: _ :: _ :: _ :: _ :: _ :: _ :: _ :: _ :: _ :: _ :: _ :: _ :: _ :: _ :: _ :: _ :: _ :: _ :: _ :: _ :: _ :: _ :: _ :: _ :: _ :: _ :: _ :: _ :: _ :: _ :: zzI cy (aM 1) 8 fNh_11 :: zzI cy (aM 5) 8 fNk_12 :: zzI cy (aM 6) 8 fNa_13 :: zzI cy (aM 8) 8 fNr_14 :: []) : va_W) ++ (((oM cy uU) ++ ((oL cy wL) ++ ((oM cy uP) ++ (oM cy uS0 ++ (oM cy uS1 ++ (oM cy uS2 ++ (oM cy uS3 ++ oM cy uS4))))))) ++ (XW cy aX iKp iYe iTv fX_4 tA tB iL iBs tU tV fY_5 fS fW_6 gE kZ iT1 iT2 iT3 iT4 fB tD))) hP hD hu9 rfl
  clear hP hD hu9
  obtain ⟨hP, hD⟩ := hPD
  have hPD := pt_as (MK cy aM rR rB rO rK fNh_11 fMo fMz gMv fNk_12 fNa_13 fMt kY fNr_14 fM3 fMu fMy fMb eR tM iEn iTk uP uU kAt iTo iFr JFi iFa iSt iLv iWs wL uS0 uS1 uS2 uS3 uS4 iOm) (45 :: 46 :: 0 :: 1 :: 2 :: 47 :: 48 :: 3 :: 49 :: 4 :: 5 :: 6 :: 7 :: 8 :: 9 :: 10 :: 11 :: 12 :: 13 :: 14 :: 15 :: 16 :: 17 :: 18 :: 19 :: 20 :: 21 :: 22 :: 23 :: 24 :: 25 :: 26 :: 27 :: 28 :: 29 :: 30 :: 31 :: 32 :: 33 :: 34 :: 35 :: 36 :: 37 :: 38 :: 39 :: 40 :: 41 :: 42 :: 43 :: 44 :: []) hP hD (by decide +kernel) rfl
  clear hP hD
  obtain ⟨hP, hD⟩ := hPD
  replace hP : va_P G CL ((XW cy aX iKp iYe iTv fX_4 tA tB iL iBs tU tV fY_5 fS fW_6 gE kZ iT1 iT2 iT3 iT4 fB tD) ++ ((MK cy aM rR rB rO rK fNh_11 fMo fMz gMv fNk_12 fNa_13 fMt kY fNr_14 fM3 fMu fMy fMb eR tM iEn iTk uP uU kAt iTo iFr JFi iFa iSt iLv iWs wL uS0 uS1 uS2 uS3 uS4 iOm) ++ ((oM cy uU) ++ ((oL cy wL) ++ ((oM cy uP) ++ (oM cy uS0 ++ (oM cy uS1 ++ (oM cy uS2 ++ (oM cy uS3 ++ oM cy uS4))))))))) H := ofNP hP
  replace hD : va_D A ((XW cy aX iKp iYe iTv fX_4 tA tB iL iBs tU tV fY_5 fS fW_6 gE kZ iT1 iT2 iT3 iT4 fB tD) ++ ((MK cy aM rR rB rO rK fNh_11 fMo fMz gMv fNk_12 fNa_13 fMt kY fNr_14 fM3 fMu fMy fMb eR tM iEn iTk uP uU kAt iTo iFr JFi iFa iSt iLv iWs wL uS0 uS1 uS2 uS3 uS4 iOm) ++ ((oM cy uU) ++ ((oL cy wL) ++ ((oM cy uP) ++ (oM cy uS0 ++ (oM cy uS1 ++ (oM cy uS2 ++ (oM cy uS3 ++ oM cy uS4))))))))) := ofND hD
  refine lv_pop hx hb (g_87 bL_law rfl) rfl ?_
  refine lv_goto (tgt := 1807) hx hb dL_law_519 (by decide +kernel) ?_
  refine W.widen (k := nC + 250) (n := nS + 4440) (by omega) (by omega) ?_
  exact kk _ _ (linv_mk hP hD (hsX) (sm_rule hsM h_15) (⟨⟨hLR.1.1, hLR.1.2.1, (rule_k hLR.1.2.2 h_7 h_15).2⟩, hLR.2⟩)) hS
set_option maxHeartbeats 4000000 in
set_option maxRecDepth 100000 in
theorem law_6 {p : Program} {l : Launch} {e : Env} {s : State} {m : MethodId} {below : List Frame} {meth : Method} {c : Code} {b L : Nat} {xs : Nat → Int32} {A : Nat → Prop} {G : va_G} {cy : Nat → ClassId} {aX aM rR rB rO rK : Nat → Nat} (hx : p.tables.exec = Jvm.exec) (hb : c.code = code) (hr : meth.sig.returnType = ret) (hml : c.maxLocals = 4) (hown : s.vm.findClass RL = some m.cls) (hts : ∀ w ∈ BIG, w.before #[Value.ref b] s = true) (hX : va_X b L xs s s.heap) (hbl : b < s.heap.size) (hlocks : meth.locks = false) (hN : KN G cy s) (hA : ∀ q : Nat, s.heap.size ≤ q → A q) (hAn : ∀ q : Nat, A q → s.heap.size ≤ q) (hbA : ¬ A b) (hSO : SO A s s.heap) {H : Heap} {locs : List Loc} {ls : Array Slot} {kI nC nS : Nat} (hkI : kI + 6 ≤ L) (hL : L ≤ 384) (hnC : nC + 250 ≤ 600000) (hnS : nS + 4440 ≤ 7302250) {iKp : Int32} {iYe : Int32} {iTv : Int32} {fR : Nat → Int32} {tA : TA} {tB : TA} {iL : Int32} {iBs : Int32} {tU : TA} {tV : TA} {fH : Nat → Int32} {fS : Nat → Int32} {fA : Nat → Int32} {gE : Nat → Int64} {kZ : Nat} {iT1 : Int32} {iT2 : Int32} {iT3 : Int32} {iT4 : Int32} {fB : Nat → Int32} {tD : TA} {fMh : Nat → Int32} {fMo : Nat → Int32} {fMz : Nat → Int32} {gMv : Nat → Int64} {fMk : Nat → Int32} {fMa : Nat → Int32} {fMt : Nat → Int32} {kY : Nat} {fMr : Nat → Int32} {fM3 : Nat → Int32} {fMu : Nat → Int32} {fMy : Nat → Int32} {fMb : Nat → Int32} {eR : Nat → Nat → Int64} {tM : TA} {iEn : Int32} {iTk : Int32} {uP : UM} {uU : UM} {kAt : Nat} {iTo : Int32} {iFr : Int32} {JFi : Int64} {iFa : Int32} {iSt : Int32} {iLv : Int32} {iWs : Int32} {wL : UL} {uS0 : UM} {uS1 : UM} {uS2 : UM} {uS3 : UM} {uS4 : UM} {iOm : Int32} (hP : va_P G CL ((XW cy aX iKp iYe iTv fR tA tB iL iBs tU tV fH fS fA gE kZ iT1 iT2 iT3 iT4 fB tD) ++ ((MK cy aM rR rB rO rK fMh fMo fMz gMv fMk fMa fMt kY fMr fM3 fMu fMy fMb eR tM iEn iTk uP uU kAt iTo iFr JFi iFa iSt iLv iWs wL uS0 uS1 uS2 uS3 uS4 iOm) ++ ((oM cy uU) ++ ((oL cy wL) ++ ((oM cy uP) ++ (oM cy uS0 ++ (oM cy uS1 ++ (oM cy uS2 ++ (oM cy uS3 ++ oM cy uS4))))))))) H) (hD : va_D A ((XW cy aX iKp iYe iTv fR tA tB iL iBs tU tV fH fS fA gE kZ iT1 iT2 iT3 iT4 fB tD) ++ ((MK cy aM rR rB rO rK fMh fMo fMz gMv fMk fMa fMt kY fMr fM3 fMu fMy fMb eR tM iEn iTk uP uU kAt iTo iFr JFi iFa iSt iLv iWs wL uS0 uS1 uS2 uS3 uS4 iOm) ++ ((oM cy uU) ++ ((oL cy wL) ++ ((oM cy uP) ++ (oM cy uS0 ++ (oM cy uS1 ++ (oM cy uS2 ++ (oM cy uS3 ++ oM cy uS4)))))))))) (hsX : SX tA tB tD fS kZ) (hsM : SM tM uP fMz fMa kY) (hLR : LR iKp tA tB fH fS fA gE kZ fMh fMo fMz fMk fMa eR kY tM uP fB fMt) (hS : va_S A s.heap H locs) (hl : lv_has ls 4 [(3, .int (nI kI)), (2, .ref (aM 0)), (1, .ref (aX 0)), (0, .ref b)]) (kk : ∀ (H : Heap) (locs : List Loc), LINV G cy A H aX aM rR rB rO rK → va_S A s.heap H locs → W p l e room_1 s m #[Value.ref b] below meth c H locs (nC + 250) (nS + 4440) (lw_Z below #[Value.ref b] s) (F0 m 1807 ls [])) : W p l e room_1 s m #[Value.ref b] below meth c H locs nC nS (lw_Z below #[Value.ref b] s) (F0 m 522 ls []) := by
  refine lv_aload_n hx hb (g_43 bL_law rfl) rfl (lv_at hl 2 rfl) ?_
  refine lv_aload_n hx hb (g_42 bL_law rfl) rfl (lv_at hl 3 rfl) ?_
  refine lv_iload_n hx hb (g_29 bL_law rfl) rfl (lv_at hl 0 rfl) ?_
  refine lv_iconst (v := 1) hx hb (g_4 bL_law rfl) (by decide +kernel) ?_
  refine lv_iadd hx hb (g_96 bL_law rfl) ?_
  refine lv_seti (v := nI (kI + 1)) (nI_add _ _) ?_
  refine va_sld hx hb hX hbl hbA hS (vp_in_nI (by omega) (by omega)) (g_46 bL_law rfl) ?_
  refine lv_seti (v := xs (kI + 1)) (congrArg xs (nI_clamp (by omega))) ?_
  refine lv_aload_n hx hb (g_42 bL_law rfl) rfl (lv_at hl 3 rfl) ?_
  refine lv_iload_n hx hb (g_29 bL_law rfl) rfl (lv_at hl 0 rfl) ?_
  refine lv_iconst (v := 2) hx hb (g_5 bL_law rfl) (by decide +kernel) ?_
  refine lv_iadd hx hb (g_96 bL_law rfl) ?_
  refine lv_seti (v := nI (kI + 2)) (nI_add _ _) ?_
  refine va_sld hx hb hX hbl hbA hS (vp_in_nI (by omega) (by omega)) (g_46 bL_law rfl) ?_
  refine lv_seti (v := xs (kI + 2)) (congrArg xs (nI_clamp (by omega))) ?_
  have hPD := pd_as (((zzO (aX 0) 4 [.ref (aX 2), .ref (aX 11), .ref (aX 20), .ref (aX 39), .ref (aX 44), .ref (aX 1), .int iKp, .int iYe, .int iTv] :: zzI cy (aX 1) 5 fR :: zzO (aX 2) 3 [.int (nI (T_nb tA)), .int (nI (T_np tA)), .int (wb (T_wh tA)), .int (wb (T_gn tA)), .int (T_sd tA), .ref (aX 3), .ref (aX 4), .ref (aX 5), .ref (aX 6), .ref (aX 7), .ref (aX 8), .ref (aX 9), .ref (aX 10)] :: zzI cy (aX 3) 8 (T_wo tA) :: zzI cy (aX 4) 8 (T_ne tA) :: zzI cy (aX 5) 8 (T_go tA) :: zzI cy (aX 6) 8 (T_ag tA) :: zzI cy (aX 7) 8 (T_re tA) :: zzI cy (aX 8) 8 (T_me tA) :: zzI cy (aX 9) 8 (T_te tA) :: zzI cy (aX 10) 64 (shF (T_kn tA)) :: zzO (aX 11) 3 [.int (nI (T_nb tB)), .int (nI (T_np tB)), .int (wb (T_wh tB)), .int (wb (T_gn tB)), .int (T_sd tB), .ref (aX 12), .ref (aX 13), .ref (aX 14), .ref (aX 15), .ref (aX 16), .ref (aX 17), .ref (aX 18), .ref (aX 19)] :: zzI cy (aX 12) 8 (T_wo tB) :: zzI cy (aX 13) 8 (T_ne tB) :: zzI cy (aX 14) 8 (T_go tB) :: zzI cy (aX 15) 8 (T_ag tB) :: zzI cy (aX 16) 8 (T_re tB) :: zzI cy (aX 17) 8 (T_me tB) :: zzI cy (aX 18) 8 (T_te tB) :: zzI cy (aX 19) 64 (shF (T_kn tB)) :: zzO (aX 20) 0 [.ref (aX 21), .ref (aX 30), .int iL, .int iBs] :: zzO (aX 21) 3 [.int (nI (T_nb tU)), .int (nI (T_np tU)), .int (wb (T_wh tU)), .int (wb (T_gn tU)), .int (T_sd tU), .ref (aX 22), .ref (aX 23), .ref (aX 24), .ref (aX 25), .ref (aX 26), .ref (aX 27), .ref (aX 28), .ref (aX 29)] :: zzI cy (aX 22) 8 (T_wo tU) :: zzI cy (aX 23) 8 (T_ne tU) :: zzI cy (aX 24) 8 (T_go tU) :: zzI cy (aX 25) 8 (T_ag tU) :: zzI cy (aX 26) 8 (T_re tU) :: zzI cy (aX 27) 8 (T_me tU) :: zzI cy (aX 28) 8 (T_te tU) :: zzI cy (aX 29) 64 (shF (T_kn tU)) :: zzO (aX 30) 3 [.int (nI (T_nb tV)), .int (nI (T_np tV)), .int (wb (T_wh tV)), .int (wb (T_gn tV)), .int (T_sd tV), .ref (aX 31), .ref (aX 32), .ref (aX 33), .ref (aX 34), .ref (aX 35), .ref (aX 36), .ref (aX 37), .ref (aX 38)] :: zzI cy (aX 31) 8 (T_wo tV) :: zzI cy (aX 32) 8 (T_ne tV) :: zzI cy (aX 33) 8 (T_go tV) :: zzI cy (aX 34) 8 (T_ag tV) :: zzI cy (aX 35) 8 (T_re tV) :: zzI cy (aX 36) 8 (T_me tV) :: zzI cy (aX 37) 8 (T_te tV) :: zzI cy (aX 38) 64 (shF (T_kn tV)) :: zzO (aX 39) 1 [.ref (aX 40), .ref (aX 41), .ref (aX 42), .ref (aX 43)] :: zzI cy (aX 40) 8 fH :: zzI cy (aX 41) 8 fS :: zzI cy (aX 42) 8 fA :: zzJ cy (aX 43) 320 gE :: zzO (aX 44) 2 [.ref (aX 45), .int (nI kZ), .int iT1, .int iT2, .int iT3, .int iT4, .ref (aX 46)] :: zzB cy (aX 45) 250 fB :: zzO (aX 46) 3 [.int (nI (T_nb tD)), .int (nI (T_np tD)), .int (wb (T_wh tD)), .int (wb (T_gn tD)), .int (T_sd tD), .ref (aX 47), .ref (aX 48), .ref (aX 49), .ref (aX 50), .ref (aX 51), .ref (aX 52), .ref (aX 53), .ref (aX 54)] :: zzI cy (aX 47) 8 (T_wo tD) :: zzI cy (aX 48) 8 (T_ne tD) :: zzI cy (aX 49) 8 (T_go tD) :: zzI cy (aX 50) 8 (T_ag tD) :: zzI cy (aX 51) 8 (T_re tD) :: zzI cy (aX 52) 8 (T_me tD) :: zzI cy (aX 53) 8 (T_te tD) :: zzI cy (aX 54) 64 (shF (T_kn tD)) :: []) : va_W) ++ ((MK cy aM rR rB rO rK fMh fMo fMz gMv fMk fMa fMt kY fMr fM3 fMu fMy fMb eR tM iEn iTk uP uU kAt iTo iFr JFi iFa iSt iLv iWs wL uS0 uS1 uS2 uS3 uS4 iOm) ++ ((oM cy uU) ++ ((oL cy wL) ++ ((oM cy uP) ++ (oM cy uS0 ++ (oM cy uS1 ++ (oM cy uS2 ++ (oM cy uS3 ++ oM cy uS4))))))))) hP hD rfl
  clear hP hD
  obtain ⟨hP, hD⟩ := hPD
  refine cViQ (As := [.int (xs (kI + 1)), .int (xs (kI + 2))]) (rest := []) (b := (aX 0)) (q := (RX5, TX5, 9)) ⟨hx, hb, hml, hown, hts⟩ (p_X5_says l G cy (H).size (aX 0) (aX 2) (aX 11) (aX 20) (aX 39) (aX 44) (aX 1) iKp iYe iTv fR (aX 40) (aX 41) (aX 42) (aX 43) fH fA tA (aX 3) (aX 4) (aX 5) (aX 6) (aX 7) (aX 8) (aX 9) (aX 10) (aX 21) (aX 30) iL iBs tU (aX 22) (aX 23) (aX 24) (aX 25) (aX 26) (aX 27) (aX 28) (aX 29) (xs (kI + 1)) (xs (kI + 2)) hsX.1.1 hsX.1.2) L_L_44 hN hP hD hS hA (trueIxs [(true :: true :: false :: false :: false :: false :: false :: false :: false :: false :: false :: false :: false :: false :: false :: false :: false :: false :: false :: false :: false :: false :: false :: false :: false :: false :: false :: false :: false :: false :: false :: false :: false :: false :: false :: false :: false :: false :: false :: true :: true :: false :: true :: []), [false, false, true, true, true, true, true, true, true, true, true, false, false, false, false, false, false, false, false, false, true, true, true, true, true, true, true, true, true, true]]) (false :: false :: false :: false :: false :: false :: false :: false :: false :: false :: false :: true :: true :: true :: true :: true :: true :: true :: true :: true :: false :: false :: false :: false :: false :: false :: false :: false :: false :: false :: true :: true :: true :: true :: true :: true :: true :: true :: true :: false :: false :: true :: false :: true :: true :: true :: true :: true :: true :: true :: true :: true :: true :: true :: true :: []) (sels_eq rfl rfl) (by decide +kernel) rfl 0 4 rfl rfl rfl ⟨Nat.le_of_ble_eq_true rfl, Nat.le_of_ble_eq_true rfl⟩ hl.1 (Nat.le_of_ble_eq_true rfl) (g_182 (v := 44) bL_law rfl) ⟨by show nC + 0 ≤ 600000; omega, by show nS + 0 ≤ 7302250; omega⟩ (fun r_1 u_3 H locs h_2 => ?_)
  clear hP hD hS
  intro hP hD hS
  obtain ⟨fX_4, iX_5, iY_6, tX_7, hu9, h_2⟩ := h_2
  have hPD := pd_eqQ (((_ :: _ :: _ :: _ :: _ :: _ :: _ :: _ :: _ :: _ :: _ :: _ :: _ :: _ :: _ :: _ :: _ :: _ :: _ :: _ :: _ :: _ :: _ :: _ :: _ :: _ :: _ :: _ :: _ :: _ :: _ :: _ :: zzI cy (aX 1) 5 fX_4 :: _ :: _ :: _ :: _ :: _ :: _ :: _ :: _ :: _ :: _ :: _ :: _ :: zzO (aX 20) 0 [.ref (aX 21), .ref (aX 30), .int iX_5, .int iY_6] :: zzO (aX 21) 3 [.int (nI (T_nb tX_7)), .int (nI (T_np tX_7)), .int (wb (T_wh tX_7)), .int (wb (T_gn tX_7)), .int (T_sd tX_7), .ref (aX 22), .ref (aX 23), .ref (aX 24), .ref (aX 25), .ref (aX 26), .ref (aX 27), .ref (aX 28), .ref (aX 29)] :: zzI cy (aX 22) 8 (T_wo tX_7) :: zzI cy (aX 23) 8 (T_ne tX_7) :: zzI cy (aX 24) 8 (T_go tX_7) :: zzI cy (aX 25) 8 (T_ag tX_7) :: zzI cy (aX 26) 8 (T_re tX_7) :: zzI cy (aX 27) 8 (T_me tX_7) :: zzI cy (aX 28) 8 (T_te tX_7) :: zzI cy (aX 29) 64 (shF (T_kn tX_7)) :: []) : va_W) ++ ((MK cy aM rR rB rO rK fMh fMo fMz gMv fMk fMa fMt kY fMr fM3 fMu fMy fMb eR tM iEn iTk uP uU kAt iTo iFr JFi iFa iSt iLv iWs wL uS0 uS1 uS2 uS3 uS4 iOm) ++ ((oM cy uU) ++ ((oL cy wL) ++ ((oM cy uP) ++ (oM cy uS0 ++ (oM cy uS1 ++ (oM cy uS2 ++ (oM cy uS3 ++ oM cy uS4))))))))) hP hD hu9 rfl
  clear hP hD hu9
  obtain ⟨hP, hD⟩ := hPD
  have hPD := pt_as (XW cy aX iKp iYe iTv fX_4 tA tB iX_5 iY_6 tX_7 tV fH fS fA gE kZ iT1 iT2 iT3 iT4 fB tD) (31 :: 32 :: 36 :: 37 :: 38 :: 39 :: 40 :: 41 :: 42 :: 43 :: 44 :: 0 :: 1 :: 2 :: 3 :: 4 :: 5 :: 6 :: 7 :: 8 :: 45 :: 46 :: 47 :: 48 :: 49 :: 50 :: 51 :: 52 :: 53 :: 54 :: 9 :: 10 :: 11 :: 12 :: 13 :: 14 :: 15 :: 16 :: 17 :: 33 :: 34 :: 18 :: 35 :: 19 :: 20 :: 21 :: 22 :: 23 :: 24 :: 25 :: 26 :: 27 :: 28 :: 29 :: 30 :: []) hP hD (by decide +kernel) rfl
  clear hP hD
  obtain ⟨hP, hD⟩ := hPD
  refine lv_pop hx hb (g_87 bL_law rfl) rfl ?_
  refine lv_aload_n hx hb (g_44 bL_law rfl) rfl (lv_at hl 1 rfl) ?_
  refine lv_aload_n hx hb (g_42 bL_law rfl) rfl (lv_at hl 3 rfl) ?_
  refine lv_iload_n hx hb (g_29 bL_law rfl) rfl (lv_at hl 0 rfl) ?_
  refine lv_iconst (v := 1) hx hb (g_4 bL_law rfl) (by decide +kernel) ?_
  refine lv_iadd hx hb (g_96 bL_law rfl) ?_
  refine lv_seti (v := nI (kI + 1)) (nI_add _ _) ?_
  refine va_sld hx hb hX hbl hbA hS (vp_in_nI (by omega) (by omega)) (g_46 bL_law rfl) ?_
  refine lv_seti (v := xs (kI + 1)) (congrArg xs (nI_clamp (by omega))) ?_
  refine lv_aload_n hx hb (g_42 bL_law rfl) rfl (lv_at hl 3 rfl) ?_
  refine lv_iload_n hx hb (g_29 bL_law rfl) rfl (lv_at hl 0 rfl) ?_
  refine lv_iconst (v := 2) hx hb (g_5 bL_law rfl) (by decide +kernel) ?_
  refine lv_iadd hx hb (g_96 bL_law rfl) ?_
  refine lv_seti (v := nI (kI + 2)) (nI_add _ _) ?_
  refine va_sld hx hb hX hbl hbA hS (vp_in_nI (by omega) (by omega)) (g_46 bL_law rfl) ?_
  refine lv_seti (v := xs (kI + 2)) (congrArg xs (nI_clamp (by omega))) ?_
  replace hP : va_P G CL (((MK cy aM rR rB rO rK fMh fMo fMz gMv fMk fMa fMt kY fMr fM3 fMu fMy fMb eR tM iEn iTk uP uU kAt iTo iFr JFi iFa iSt iLv iWs wL uS0 uS1 uS2 uS3 uS4 iOm) ++ (oM cy uU)) ++ (((oL cy wL) ++ ((oM cy uP) ++ (oM cy uS0 ++ (oM cy uS1 ++ (oM cy uS2 ++ (oM cy uS3 ++ oM cy uS4)))))) ++ (XW cy aX iKp iYe iTv fX_4 tA tB iX_5 iY_6 tX_7 tV fH fS fA gE kZ iT1 iT2 iT3 iT4 fB tD))) H := toUP hP
  replace hD : va_D A (((MK cy aM rR rB rO rK fMh fMo fMz gMv fMk fMa fMt kY fMr fM3 fMu fMy fMb eR tM iEn iTk uP uU kAt iTo iFr JFi iFa iSt iLv iWs wL uS0 uS1 uS2 uS3 uS4 iOm) ++ (oM cy uU)) ++ (((oL cy wL) ++ ((oM cy uP) ++ (oM cy uS0 ++ (oM cy uS1 ++ (oM cy uS2 ++ (oM cy uS3 ++ oM cy uS4)))))) ++ (XW cy aX iKp iYe iTv fX_4 tA tB iX_5 iY_6 tX_7 tV fH fS fA gE kZ iT1 iT2 iT3 iT4 fB tD))) := toUD hD
  have hPD := pd_as (((zzO (aM 0) 5 (.ref (aM 1) :: .ref (aM 2) :: .ref (aM 3) :: .ref (aM 14) :: .ref (aM 4) :: .ref (aM 5) :: .ref (aM 6) :: .ref (aM 7) :: .int (nI kY) :: .ref (aM 8) :: .int (nI (T_nb tM)) :: .ref (aM 15) :: .int (nI (T_np tM)) :: .ref (aM 16) :: .ref (aM 17) :: .int iEn :: .int iTk :: .int (T_sd tM) :: ov uP :: ov uU :: .int (nI kAt) :: .int iTo :: .int iFr :: .long JFi :: .int iFa :: .ref (aM 9) :: .int iSt :: .int iLv :: .int iWs :: ovL wL :: .ref (aM 10) :: .ref (aM 11) :: .ref (aM 12) :: .ref (aM 13) :: .int iOm :: []) :: zzI cy (aM 1) 8 fMh :: zzI cy (aM 2) 8 fMo :: zzI cy (aM 3) 8 fMz :: zzJ cy (aM 4) 40 gMv :: zzI cy (aM 5) 8 fMk :: zzI cy (aM 6) 8 fMa :: zzI cy (aM 7) 250 fMt :: zzI cy (aM 8) 8 fMr :: zzI cy (aM 9) 3 fM3 :: zzI cy (aM 10) 8 fMu :: zzI cy (aM 11) 5 fMy :: zzI cy (aM 12) 5 fMb :: zzQ cy 5 (aM 13) 6 (sF (refU uS0) (refU uS1) (refU uS2) (refU uS3) (refU uS4)) :: zzG cy 4 (aM 14) rR :: zzJ cy (rR 0) 40 (eR 0) :: zzJ cy (rR 1) 40 (eR 1) :: zzJ cy (rR 2) 40 (eR 2) :: zzJ cy (rR 3) 40 (eR 3) :: zzJ cy (rR 4) 40 (eR 4) :: zzJ cy (rR 5) 40 (eR 5) :: zzJ cy (rR 6) 40 (eR 6) :: zzJ cy (rR 7) 40 (eR 7) :: zzG cy 3 (aM 15) rB :: zzI cy (rB 0) 4 (bkR tM 0) :: zzI cy (rB 1) 4 (bkR tM 1) :: zzI cy (rB 2) 4 (bkR tM 2) :: zzI cy (rB 3) 4 (bkR tM 3) :: zzI cy (rB 4) 4 (bkR tM 4) :: zzI cy (rB 5) 4 (bkR tM 5) :: zzI cy (rB 6) 4 (bkR tM 6) :: zzI cy (rB 7) 4 (bkR tM 7) :: zzG cy 3 (aM 16) rO :: zzI cy (rO 0) 5 (onR tM 0) :: zzI cy (rO 1) 5 (onR tM 1) :: zzI cy (rO 2) 5 (onR tM 2) :: zzI cy (rO 3) 5 (onR tM 3) :: zzI cy (rO 4) 5 (onR tM 4) :: zzI cy (rO 5) 5 (onR tM 5) :: zzI cy (rO 6) 5 (onR tM 6) :: zzI cy (rO 7) 5 (onR tM 7) :: zzG cy 3 (aM 17) rK :: zzI cy (rK 0) 8 (T_kn tM 0) :: zzI cy (rK 1) 8 (T_kn tM 1) :: zzI cy (rK 2) 8 (T_kn tM 2) :: zzI cy (rK 3) 8 (T_kn tM 3) :: zzI cy (rK 4) 8 (T_kn tM 4) :: zzI cy (rK 5) 8 (T_kn tM 5) :: zzI cy (rK 6) 8 (T_kn tM 6) :: zzI cy (rK 7) 8 (T_kn tM 7) :: []) ++ (oM cy uU)) ++ (((oL cy wL) ++ ((oM cy uP) ++ (oM cy uS0 ++ (oM cy uS1 ++ (oM cy uS2 ++ (oM cy uS3 ++ oM cy uS4)))))) ++ (XW cy aX iKp iYe iTv fX_4 tA tB iX_5 iY_6 tX_7 tV fH fS fA gE kZ iT1 iT2 iT3 iT4 fB tD))) hP hD rfl
  clear hP hD
  obtain ⟨hP, hD⟩ := hPD
  refine cViPQ (As := [.int (xs (kI + 1)), .int (xs (kI + 2))]) (rest := []) (b := (aM 0)) (q := (RX6, TX6, 35)) ⟨hx, hb, hml, hown, hts⟩ (p_X6_says l G cy (H).size (aM 0) (aM 1) (aM 2) (aM 3) (aM 14) (aM 4) (aM 5) (aM 6) (aM 7) kY (aM 8) tM (aM 15) (aM 16) (aM 17) iEn iTk uP uU kAt iTo iFr JFi iFa (aM 9) iSt iLv iWs (ovL wL) (aM 10) (aM 11) (aM 12) (aM 13) iOm fMh fMk fMa fMr rB rO rK (xs (kI + 1)) (xs (kI + 2)) hsM.1.1.1 hsM.1.1.2 hsM.1 hsM.2.2.2.1) L_L_48 hN hP hD hS hA (trueIx 0 (true :: true :: false :: false :: false :: true :: true :: false :: true :: false :: false :: false :: false :: false :: false :: false :: false :: false :: false :: false :: false :: false :: false :: true :: true :: true :: true :: true :: true :: true :: true :: true :: true :: true :: true :: true :: true :: true :: true :: true :: true :: true :: true :: true :: true :: true :: true :: true :: true :: true :: [])) (false :: false :: true :: true :: true :: false :: false :: true :: false :: true :: true :: true :: true :: true :: true :: true :: true :: true :: true :: true :: true :: true :: true :: false :: false :: false :: false :: false :: false :: false :: false :: false :: false :: false :: false :: false :: false :: false :: false :: false :: false :: false :: false :: false :: false :: false :: false :: false :: false :: false :: []) (sel_eq rfl rfl) (by decide +kernel) rfl 0 5 rfl rfl rfl ⟨Nat.le_of_ble_eq_true rfl, Nat.le_of_ble_eq_true rfl⟩ hl.1 (Nat.le_of_ble_eq_true rfl) (g_182 (v := 48) bL_law rfl) ⟨by show nC + 0 + 50 ≤ 600000; omega, by show nS + 0 + 888 ≤ 7302250; omega⟩ (fun r_8 u_10 H locs h_9 => ?_)
  clear hP hD hS
  intro hP hD hS
  obtain ⟨fNr_11, uN_12, rfl, h_9⟩ := h_9
  replace hP := as1P hP
  replace hD := as1D hD
  have hPD := pd_as (((zzI cy (aM 2) 8 fMo :: zzI cy (aM 3) 8 fMz :: zzJ cy (aM 4) 40 gMv :: zzI cy (aM 7) 250 fMt :: zzI cy (aM 9) 3 fM3 :: zzI cy (aM 10) 8 fMu :: zzI cy (aM 11) 5 fMy :: zzI cy (aM 12) 5 fMb :: zzQ cy 5 (aM 13) 6 (sF (refU uS0) (refU uS1) (refU uS2) (refU uS3) (refU uS4)) :: zzG cy 4 (aM 14) rR :: zzJ cy (rR 0) 40 (eR 0) :: zzJ cy (rR 1) 40 (eR 1) :: zzJ cy (rR 2) 40 (eR 2) :: zzJ cy (rR 3) 40 (eR 3) :: zzJ cy (rR 4) 40 (eR 4) :: zzJ cy (rR 5) 40 (eR 5) :: zzJ cy (rR 6) 40 (eR 6) :: zzJ cy (rR 7) 40 (eR 7) :: zzO (aM 0) 5 (.ref (aM 1) :: .ref (aM 2) :: .ref (aM 3) :: .ref (aM 14) :: .ref (aM 4) :: .ref (aM 5) :: .ref (aM 6) :: .ref (aM 7) :: .int (nI kY) :: .ref (aM 8) :: .int (nI (T_nb tM)) :: .ref (aM 15) :: .int (nI (T_np tM)) :: .ref (aM 16) :: .ref (aM 17) :: .int iEn :: .int iTk :: .int (T_sd tM) :: ov uP :: ov uN_12 :: .int (nI kAt) :: .int iTo :: .int iFr :: .long JFi :: .int iFa :: .ref (aM 9) :: .int iSt :: .int iLv :: .int iWs :: ovL wL :: .ref (aM 10) :: .ref (aM 11) :: .ref (aM 12) :: .ref (aM 13) :: .int iOm :: []) :: zzI cy (aM 1) 8 fMh :: zzI cy (aM 5) 8 fMk :: zzI cy (aM 6) 8 fMa :: zzI cy (aM 8) 8 fNr_11 :: zzG cy 3 (aM 15) rB :: zzI cy (rB 0) 4 (bkR tM 0) :: zzI cy (rB 1) 4 (bkR tM 1) :: zzI cy (rB 2) 4 (bkR tM 2) :: zzI cy (rB 3) 4 (bkR tM 3) :: zzI cy (rB 4) 4 (bkR tM 4) :: zzI cy (rB 5) 4 (bkR tM 5) :: zzI cy (rB 6) 4 (bkR tM 6) :: zzI cy (rB 7) 4 (bkR tM 7) :: zzG cy 3 (aM 16) rO :: zzI cy (rO 0) 5 (onR tM 0) :: zzI cy (rO 1) 5 (onR tM 1) :: zzI cy (rO 2) 5 (onR tM 2) :: zzI cy (rO 3) 5 (onR tM 3) :: zzI cy (rO 4) 5 (onR tM 4) :: zzI cy (rO 5) 5 (onR tM 5) :: zzI cy (rO 6) 5 (onR tM 6) :: zzI cy (rO 7) 5 (onR tM 7) :: zzG cy 3 (aM 17) rK :: zzI cy (rK 0) 8 (T_kn tM 0) :: zzI cy (rK 1) 8 (T_kn tM 1) :: zzI cy (rK 2) 8 (T_kn tM 2) :: zzI cy (rK 3) 8 (T_kn tM 3) :: zzI cy (rK 4) 8 (T_kn tM 4) :: zzI cy (rK 5) 8 (T_kn tM 5) :: zzI cy (rK 6) 8 (T_kn tM 6) :: zzI cy (rK 7) 8 (T_kn tM 7) :: []) : va_W) ++ ((oM cy uN_12) ++ (((oL cy wL) ++ ((oM cy uP) ++ (oM cy uS0 ++ (oM cy uS1 ++ (oM cy uS2 ++ (oM cy uS3 ++ oM cy uS4)))))) ++ (XW cy aX iKp iYe iTv fX_4 tA tB iX_5 iY_6 tX_7 tV fH fS fA gE kZ iT1 iT2 iT3 iT4 fB tD)))) hP hD rfl
  clear hP hD
  obtain ⟨hP, hD⟩ := hPD
  have hPD := pt_as (MK cy aM rR rB rO rK fMh fMo fMz gMv fMk fMa fMt kY fNr_11 fM3 fMu fMy fMb eR tM iEn iTk uP uN_12 kAt iTo iFr JFi iFa iSt iLv iWs wL uS0 uS1 uS2 uS3 uS4 iOm) (18 :: 19 :: 0 :: 1 :: 2 :: 20 :: 21 :: 3 :: 22 :: 4 :: 5 :: 6 :: 7 :: 8 :: 9 :: 10 :: 11 :: 12 :: 13 :: 14 :: 15 :: 16 :: 17 :: 23 :: 24 :: 25 :: 26 :: 27 :: 28 :: 29 :: 30 :: 31 :: 32 :: 33 :: 34 :: 35 :: 36 :: 37 :: 38 :: 39 :: 40 :: 41 :: 42 :: 43 :: 44 :: 45 :: 46 :: 47 :: 48 :: 49 :: []) hP hD (by decide +kernel) rfl
  clear hP hD
  obtain ⟨hP, hD⟩ := hPD
  replace hP : va_P G CL ((XW cy aX iKp iYe iTv fX_4 tA tB iX_5 iY_6 tX_7 tV fH fS fA gE kZ iT1 iT2 iT3 iT4 fB tD) ++ ((MK cy aM rR rB rO rK fMh fMo fMz gMv fMk fMa fMt kY fNr_11 fM3 fMu fMy fMb eR tM iEn iTk uP uN_12 kAt iTo iFr JFi iFa iSt iLv iWs wL uS0 uS1 uS2 uS3 uS4 iOm) ++ ((oM cy uN_12) ++ ((oL cy wL) ++ ((oM cy uP) ++ (oM cy uS0 ++ (oM cy uS1 ++ (oM cy uS2 ++ (oM cy uS3 ++ oM cy uS4))))))))) H := ofUP hP
  replace hD : va_D A ((XW cy aX iKp iYe iTv fX_4 tA tB iX_5 iY_6 tX_7 tV fH fS fA gE kZ iT1 iT2 iT3 iT4 fB tD) ++ ((MK cy aM rR rB rO rK fMh fMo fMz gMv fMk fMa fMt kY fNr_11 fM3 fMu fMy fMb eR tM iEn iTk uP uN_12 kAt iTo iFr JFi iFa iSt iLv iWs wL uS0 uS1 uS2 uS3 uS4 iOm) ++ ((oM cy uN_12) ++ ((oL cy wL) ++ ((oM cy uP) ++ (oM cy uS0 ++ (oM cy uS1 ++ (oM cy uS2 ++ (oM cy uS3 ++ oM cy uS4))))))))) := ofUD hD
  refine lv_pop hx hb (g_87 bL_law rfl) rfl ?_
  refine lv_goto (tgt := 1807) hx hb dL_law_552 (by decide +kernel) ?_
  refine W.widen (k := nC + 250) (n := nS + 4440) (by omega) (by omega) ?_
  exact kk _ _ (linv_mk hP hD (hsX) (hsM) (⟨hLR.1, hLR.2⟩)) hS
set_option maxHeartbeats 4000000 in
set_option maxRecDepth 100000 in
theorem law_7 {p : Program} {l : Launch} {e : Env} {s : State} {m : MethodId} {below : List Frame} {meth : Method} {c : Code} {b L : Nat} {xs : Nat → Int32} {A : Nat → Prop} {G : va_G} {cy : Nat → ClassId} {aX aM rR rB rO rK : Nat → Nat} (hx : p.tables.exec = Jvm.exec) (hb : c.code = code) (hr : meth.sig.returnType = ret) (hml : c.maxLocals = 4) (hown : s.vm.findClass RL = some m.cls) (hts : ∀ w ∈ BIG, w.before #[Value.ref b] s = true) (hX : va_X b L xs s s.heap) (hbl : b < s.heap.size) (hlocks : meth.locks = false) (hN : KN G cy s) (hA : ∀ q : Nat, s.heap.size ≤ q → A q) (hAn : ∀ q : Nat, A q → s.heap.size ≤ q) (hbA : ¬ A b) (hSO : SO A s s.heap) {H : Heap} {locs : List Loc} {ls : Array Slot} {kI nC nS : Nat} (hkI : kI + 6 ≤ L) (hL : L ≤ 384) (hnC : nC + 250 ≤ 600000) (hnS : nS + 4440 ≤ 7302250) {iKp : Int32} {iYe : Int32} {iTv : Int32} {fR : Nat → Int32} {tA : TA} {tB : TA} {iL : Int32} {iBs : Int32} {tU : TA} {tV : TA} {fH : Nat → Int32} {fS : Nat → Int32} {fA : Nat → Int32} {gE : Nat → Int64} {kZ : Nat} {iT1 : Int32} {iT2 : Int32} {iT3 : Int32} {iT4 : Int32} {fB : Nat → Int32} {tD : TA} {fMh : Nat → Int32} {fMo : Nat → Int32} {fMz : Nat → Int32} {gMv : Nat → Int64} {fMk : Nat → Int32} {fMa : Nat → Int32} {fMt : Nat → Int32} {kY : Nat} {fMr : Nat → Int32} {fM3 : Nat → Int32} {fMu : Nat → Int32} {fMy : Nat → Int32} {fMb : Nat → Int32} {eR : Nat → Nat → Int64} {tM : TA} {iEn : Int32} {iTk : Int32} {uP : UM} {uU : UM} {kAt : Nat} {iTo : Int32} {iFr : Int32} {JFi : Int64} {iFa : Int32} {iSt : Int32} {iLv : Int32} {iWs : Int32} {wL : UL} {uS0 : UM} {uS1 : UM} {uS2 : UM} {uS3 : UM} {uS4 : UM} {iOm : Int32} (hP : va_P G CL ((XW cy aX iKp iYe iTv fR tA tB iL iBs tU tV fH fS fA gE kZ iT1 iT2 iT3 iT4 fB tD) ++ ((MK cy aM rR rB rO rK fMh fMo fMz gMv fMk fMa fMt kY fMr fM3 fMu fMy fMb eR tM iEn iTk uP uU kAt iTo iFr JFi iFa iSt iLv iWs wL uS0 uS1 uS2 uS3 uS4 iOm) ++ ((oM cy uU) ++ ((oL cy wL) ++ ((oM cy uP) ++ (oM cy uS0 ++ (oM cy uS1 ++ (oM cy uS2 ++ (oM cy uS3 ++ oM cy uS4))))))))) H) (hD : va_D A ((XW cy aX iKp iYe iTv fR tA tB iL iBs tU tV fH fS fA gE kZ iT1 iT2 iT3 iT4 fB tD) ++ ((MK cy aM rR rB rO rK fMh fMo fMz gMv fMk fMa fMt kY fMr fM3 fMu fMy fMb eR tM iEn iTk uP uU kAt iTo iFr JFi iFa iSt iLv iWs wL uS0 uS1 uS2 uS3 uS4 iOm) ++ ((oM cy uU) ++ ((oL cy wL) ++ ((oM cy uP) ++ (oM cy uS0 ++ (oM cy uS1 ++ (oM cy uS2 ++ (oM cy uS3 ++ oM cy uS4)))))))))) (hsX : SX tA tB tD fS kZ) (hsM : SM tM uP fMz fMa kY) (hLR : LR iKp tA tB fH fS fA gE kZ fMh fMo fMz fMk fMa eR kY tM uP fB fMt) (hS : va_S A s.heap H locs) (hl : lv_has ls 4 [(3, .int (nI kI)), (2, .ref (aM 0)), (1, .ref (aX 0)), (0, .ref b)]) (kk : ∀ (H : Heap) (locs : List Loc), LINV G cy A H aX aM rR rB rO rK → va_S A s.heap H locs → W p l e room_1 s m #[Value.ref b] below meth c H locs (nC + 250) (nS + 4440) (lw_Z below #[Value.ref b] s) (F0 m 1807 ls [])) : W p l e room_1 s m #[Value.ref b] below meth c H locs nC nS (lw_Z below #[Value.ref b] s) (F0 m 555 ls []) := by
  refine lv_aload_n hx hb (g_43 bL_law rfl) rfl (lv_at hl 2 rfl) ?_
  refine lv_aload_n hx hb (g_42 bL_law rfl) rfl (lv_at hl 3 rfl) ?_
  refine lv_iload_n hx hb (g_29 bL_law rfl) rfl (lv_at hl 0 rfl) ?_
  refine lv_iconst (v := 1) hx hb (g_4 bL_law rfl) (by decide +kernel) ?_
  refine lv_iadd hx hb (g_96 bL_law rfl) ?_
  refine lv_seti (v := nI (kI + 1)) (nI_add _ _) ?_
  refine va_sld hx hb hX hbl hbA hS (vp_in_nI (by omega) (by omega)) (g_46 bL_law rfl) ?_
  refine lv_seti (v := xs (kI + 1)) (congrArg xs (nI_clamp (by omega))) ?_
  refine lv_aload_n hx hb (g_42 bL_law rfl) rfl (lv_at hl 3 rfl) ?_
  refine lv_iload_n hx hb (g_29 bL_law rfl) rfl (lv_at hl 0 rfl) ?_
  refine lv_iconst (v := 2) hx hb (g_5 bL_law rfl) (by decide +kernel) ?_
  refine lv_iadd hx hb (g_96 bL_law rfl) ?_
  refine lv_seti (v := nI (kI + 2)) (nI_add _ _) ?_
  refine va_sld hx hb hX hbl hbA hS (vp_in_nI (by omega) (by omega)) (g_46 bL_law rfl) ?_
  refine lv_seti (v := xs (kI + 2)) (congrArg xs (nI_clamp (by omega))) ?_
  have hPD := pd_as (((zzO (aX 0) 4 [.ref (aX 2), .ref (aX 11), .ref (aX 20), .ref (aX 39), .ref (aX 44), .ref (aX 1), .int iKp, .int iYe, .int iTv] :: zzI cy (aX 1) 5 fR :: zzO (aX 2) 3 [.int (nI (T_nb tA)), .int (nI (T_np tA)), .int (wb (T_wh tA)), .int (wb (T_gn tA)), .int (T_sd tA), .ref (aX 3), .ref (aX 4), .ref (aX 5), .ref (aX 6), .ref (aX 7), .ref (aX 8), .ref (aX 9), .ref (aX 10)] :: zzI cy (aX 3) 8 (T_wo tA) :: zzI cy (aX 4) 8 (T_ne tA) :: zzI cy (aX 5) 8 (T_go tA) :: zzI cy (aX 6) 8 (T_ag tA) :: zzI cy (aX 7) 8 (T_re tA) :: zzI cy (aX 8) 8 (T_me tA) :: zzI cy (aX 9) 8 (T_te tA) :: zzI cy (aX 10) 64 (shF (T_kn tA)) :: zzO (aX 11) 3 [.int (nI (T_nb tB)), .int (nI (T_np tB)), .int (wb (T_wh tB)), .int (wb (T_gn tB)), .int (T_sd tB), .ref (aX 12), .ref (aX 13), .ref (aX 14), .ref (aX 15), .ref (aX 16), .ref (aX 17), .ref (aX 18), .ref (aX 19)] :: zzI cy (aX 12) 8 (T_wo tB) :: zzI cy (aX 13) 8 (T_ne tB) :: zzI cy (aX 14) 8 (T_go tB) :: zzI cy (aX 15) 8 (T_ag tB) :: zzI cy (aX 16) 8 (T_re tB) :: zzI cy (aX 17) 8 (T_me tB) :: zzI cy (aX 18) 8 (T_te tB) :: zzI cy (aX 19) 64 (shF (T_kn tB)) :: zzO (aX 20) 0 [.ref (aX 21), .ref (aX 30), .int iL, .int iBs] :: zzO (aX 21) 3 [.int (nI (T_nb tU)), .int (nI (T_np tU)), .int (wb (T_wh tU)), .int (wb (T_gn tU)), .int (T_sd tU), .ref (aX 22), .ref (aX 23), .ref (aX 24), .ref (aX 25), .ref (aX 26), .ref (aX 27), .ref (aX 28), .ref (aX 29)] :: zzI cy (aX 22) 8 (T_wo tU) :: zzI cy (aX 23) 8 (T_ne tU) :: zzI cy (aX 24) 8 (T_go tU) :: zzI cy (aX 25) 8 (T_ag tU) :: zzI cy (aX 26) 8 (T_re tU) :: zzI cy (aX 27) 8 (T_me tU) :: zzI cy (aX 28) 8 (T_te tU) :: zzI cy (aX 29) 64 (shF (T_kn tU)) :: zzO (aX 30) 3 [.int (nI (T_nb tV)), .int (nI (T_np tV)), .int (wb (T_wh tV)), .int (wb (T_gn tV)), .int (T_sd tV), .ref (aX 31), .ref (aX 32), .ref (aX 33), .ref (aX 34), .ref (aX 35), .ref (aX 36), .ref (aX 37), .ref (aX 38)] :: zzI cy (aX 31) 8 (T_wo tV) :: zzI cy (aX 32) 8 (T_ne tV) :: zzI cy (aX 33) 8 (T_go tV) :: zzI cy (aX 34) 8 (T_ag tV) :: zzI cy (aX 35) 8 (T_re tV) :: zzI cy (aX 36) 8 (T_me tV) :: zzI cy (aX 37) 8 (T_te tV) :: zzI cy (aX 38) 64 (shF (T_kn tV)) :: zzO (aX 39) 1 [.ref (aX 40), .ref (aX 41), .ref (aX 42), .ref (aX 43)] :: zzI cy (aX 40) 8 fH :: zzI cy (aX 41) 8 fS :: zzI cy (aX 42) 8 fA :: zzJ cy (aX 43) 320 gE :: zzO (aX 44) 2 [.ref (aX 45), .int (nI kZ), .int iT1, .int iT2, .int iT3, .int iT4, .ref (aX 46)] :: zzB cy (aX 45) 250 fB :: zzO (aX 46) 3 [.int (nI (T_nb tD)), .int (nI (T_np tD)), .int (wb (T_wh tD)), .int (wb (T_gn tD)), .int (T_sd tD), .ref (aX 47), .ref (aX 48), .ref (aX 49), .ref (aX 50), .ref (aX 51), .ref (aX 52), .ref (aX 53), .ref (aX 54)] :: zzI cy (aX 47) 8 (T_wo tD) :: zzI cy (aX 48) 8 (T_ne tD) :: zzI cy (aX 49) 8 (T_go tD) :: zzI cy (aX 50) 8 (T_ag tD) :: zzI cy (aX 51) 8 (T_re tD) :: zzI cy (aX 52) 8 (T_me tD) :: zzI cy (aX 53) 8 (T_te tD) :: zzI cy (aX 54) 64 (shF (T_kn tD)) :: []) : va_W) ++ ((MK cy aM rR rB rO rK fMh fMo fMz gMv fMk fMa fMt kY fMr fM3 fMu fMy fMb eR tM iEn iTk uP uU kAt iTo iFr JFi iFa iSt iLv iWs wL uS0 uS1 uS2 uS3 uS4 iOm) ++ ((oM cy uU) ++ ((oL cy wL) ++ ((oM cy uP) ++ (oM cy uS0 ++ (oM cy uS1 ++ (oM cy uS2 ++ (oM cy uS3 ++ oM cy uS4))))))))) hP hD rfl
  clear hP hD
  obtain ⟨hP, hD⟩ := hPD
  refine cViQ (As := [.int (xs (kI + 1)), .int (xs (kI + 2))]) (rest := []) (b := (aX 0)) (q := (RX5, TX5, 9)) ⟨hx, hb, hml, hown, hts⟩ (p_X5_book l G cy (H).size (aX 0) (aX 2) (aX 11) (aX 20) (aX 39) (aX 44) (aX 1) iKp iYe iTv fR tA (aX 3) (aX 4) (aX 5) (aX 6) (aX 7) (aX 8) (aX 9) (aX 10) (xs (kI + 1)) (xs (kI + 2)) hsX.1.1 hsX.1.2) L_L_49 hN hP hD hS hA (trueIx 0 [true, true, true, true, true, true, true, true, true, true, true]) (false :: false :: false :: false :: false :: false :: false :: false :: false :: false :: false :: true :: true :: true :: true :: true :: true :: true :: true :: true :: true :: true :: true :: true :: true :: true :: true :: true :: true :: true :: true :: true :: true :: true :: true :: true :: true :: true :: true :: true :: true :: true :: true :: true :: true :: true :: true :: true :: true :: true :: true :: true :: true :: true :: true :: []) (sel_eq rfl rfl) (by decide +kernel) rfl 0 4 rfl rfl rfl ⟨Nat.le_of_ble_eq_true rfl, Nat.le_of_ble_eq_true rfl⟩ hl.1 (Nat.le_of_ble_eq_true rfl) (g_182 (v := 49) bL_law rfl) ⟨by show nC + 0 ≤ 600000; omega, by show nS + 0 ≤ 7302250; omega⟩ (fun r_1 u_3 H locs h_2 => ?_)
  clear hP hD hS
  intro hP hD hS
  obtain ⟨fX_4, tN_5, hu9, h_6, h_2⟩ := h_2
  have hPD := pd_eqQ (((_ :: _ :: _ :: _ :: _ :: _ :: _ :: _ :: _ :: _ :: _ :: _ :: _ :: _ :: _ :: _ :: _ :: _ :: _ :: _ :: _ :: _ :: _ :: _ :: _ :: _ :: _ :: _ :: _ :: _ :: _ :: _ :: _ :: _ :: _ :: _ :: _ :: _ :: _ :: _ :: _ :: _ :: _ :: _ :: _ :: zzI cy (aX 1) 5 fX_4 :: zzO (aX 2) 3 [.int (nI (T_nb tN_5)), .int (nI (T_np tN_5)), .int (wb (T_wh tN_5)), .int (wb (T_gn tN_5)), .int (T_sd tN_5), .ref (aX 3), .ref (aX 4), .ref (aX 5), .ref (aX 6), .ref (aX 7), .ref (aX 8), .ref (aX 9), .ref (aX 10)] :: zzI cy (aX 3) 8 (T_wo tN_5) :: zzI cy (aX 4) 8 (T_ne tN_5) :: zzI cy (aX 5) 8 (T_go tN_5) :: zzI cy (aX 6) 8 (T_ag tN_5) :: zzI cy (aX 7) 8 (T_re tN_5) :: zzI cy (aX 8) 8 (T_me tN_5) :: zzI cy (aX 9) 8 (T_te tN_5) :: zzI cy (aX 10) 64 (shF (T_kn tN_5)) :: []) : va_W) ++ ((MK cy aM rR rB rO rK fMh fMo fMz gMv fMk fMa fMt kY fMr fM3 fMu fMy fMb eR tM iEn iTk uP uU kAt iTo iFr JFi iFa iSt iLv iWs wL uS0 uS1 uS2 uS3 uS4 iOm) ++ ((oM cy uU) ++ ((oL cy wL) ++ ((oM cy uP) ++ (oM cy uS0 ++ (oM cy uS1 ++ (oM cy uS2 ++ (oM cy uS3 ++ oM cy uS4))))))))) hP hD hu9 rfl
  clear hP hD hu9
  obtain ⟨hP, hD⟩ := hPD
  have hPD := pt_as (XW cy aX iKp iYe iTv fX_4 tN_5 tB iL iBs tU tV fH fS fA gE kZ iT1 iT2 iT3 iT4 fB tD) (44 :: 45 :: 46 :: 47 :: 48 :: 49 :: 50 :: 51 :: 52 :: 53 :: 54 :: 0 :: 1 :: 2 :: 3 :: 4 :: 5 :: 6 :: 7 :: 8 :: 9 :: 10 :: 11 :: 12 :: 13 :: 14 :: 15 :: 16 :: 17 :: 18 :: 19 :: 20 :: 21 :: 22 :: 23 :: 24 :: 25 :: 26 :: 27 :: 28 :: 29 :: 30 :: 31 :: 32 :: 33 :: 34 :: 35 :: 36 :: 37 :: 38 :: 39 :: 40 :: 41 :: 42 :: 43 :: []) hP hD (by decide +kernel) rfl
  clear hP hD
  obtain ⟨hP, hD⟩ := hPD
  refine lv_pop hx hb (g_87 bL_law rfl) rfl ?_
  refine lv_aload_n hx hb (g_44 bL_law rfl) rfl (lv_at hl 1 rfl) ?_
  refine lv_aload_n hx hb (g_42 bL_law rfl) rfl (lv_at hl 3 rfl) ?_
  refine lv_iload_n hx hb (g_29 bL_law rfl) rfl (lv_at hl 0 rfl) ?_
  refine lv_iconst (v := 1) hx hb (g_4 bL_law rfl) (by decide +kernel) ?_
  refine lv_iadd hx hb (g_96 bL_law rfl) ?_
  refine lv_seti (v := nI (kI + 1)) (nI_add _ _) ?_
  refine va_sld hx hb hX hbl hbA hS (vp_in_nI (by omega) (by omega)) (g_46 bL_law rfl) ?_
  refine lv_seti (v := xs (kI + 1)) (congrArg xs (nI_clamp (by omega))) ?_
  refine lv_aload_n hx hb (g_42 bL_law rfl) rfl (lv_at hl 3 rfl) ?_
  refine lv_iload_n hx hb (g_29 bL_law rfl) rfl (lv_at hl 0 rfl) ?_
  refine lv_iconst (v := 2) hx hb (g_5 bL_law rfl) (by decide +kernel) ?_
  refine lv_iadd hx hb (g_96 bL_law rfl) ?_
  refine lv_seti (v := nI (kI + 2)) (nI_add _ _) ?_
  refine va_sld hx hb hX hbl hbA hS (vp_in_nI (by omega) (by omega)) (g_46 bL_law rfl) ?_
  refine lv_seti (v := xs (kI + 2)) (congrArg xs (nI_clamp (by omega))) ?_
  replace hP : va_P G CL ((MK cy aM rR rB rO rK fMh fMo fMz gMv fMk fMa fMt kY fMr fM3 fMu fMy fMb eR tM iEn iTk uP uU kAt iTo iFr JFi iFa iSt iLv iWs wL uS0 uS1 uS2 uS3 uS4 iOm) ++ (((oM cy uU) ++ ((oL cy wL) ++ ((oM cy uP) ++ (oM cy uS0 ++ (oM cy uS1 ++ (oM cy uS2 ++ (oM cy uS3 ++ oM cy uS4))))))) ++ (XW cy aX iKp iYe iTv fX_4 tN_5 tB iL iBs tU tV fH fS fA gE kZ iT1 iT2 iT3 iT4 fB tD))) H := toNP hP
  replace hD : va_D A ((MK cy aM rR rB rO rK fMh fMo fMz gMv fMk fMa fMt kY fMr fM3 fMu fMy fMb eR tM iEn iTk uP uU kAt iTo iFr JFi iFa iSt iLv iWs wL uS0 uS1 uS2 uS3 uS4 iOm) ++ (((oM cy uU) ++ ((oL cy wL) ++ ((oM cy uP) ++ (oM cy uS0 ++ (oM cy uS1 ++ (oM cy uS2 ++ (oM cy uS3 ++ oM cy uS4))))))) ++ (XW cy aX iKp iYe iTv fX_4 tN_5 tB iL iBs tU tV fH fS fA gE kZ iT1 iT2 iT3 iT4 fB tD))) := toND hD
  have hPD := pd_as (((zzO (aM 0) 5 (.ref (aM 1) :: .ref (aM 2) :: .ref (aM 3) :: .ref (aM 14) :: .ref (aM 4) :: .ref (aM 5) :: .ref (aM 6) :: .ref (aM 7) :: .int (nI kY) :: .ref (aM 8) :: .int (nI (T_nb tM)) :: .ref (aM 15) :: .int (nI (T_np tM)) :: .ref (aM 16) :: .ref (aM 17) :: .int iEn :: .int iTk :: .int (T_sd tM) :: ov uP :: ov uU :: .int (nI kAt) :: .int iTo :: .int iFr :: .long JFi :: .int iFa :: .ref (aM 9) :: .int iSt :: .int iLv :: .int iWs :: ovL wL :: .ref (aM 10) :: .ref (aM 11) :: .ref (aM 12) :: .ref (aM 13) :: .int iOm :: []) :: zzI cy (aM 1) 8 fMh :: zzI cy (aM 2) 8 fMo :: zzI cy (aM 3) 8 fMz :: zzJ cy (aM 4) 40 gMv :: zzI cy (aM 5) 8 fMk :: zzI cy (aM 6) 8 fMa :: zzI cy (aM 7) 250 fMt :: zzI cy (aM 8) 8 fMr :: zzI cy (aM 9) 3 fM3 :: zzI cy (aM 10) 8 fMu :: zzI cy (aM 11) 5 fMy :: zzI cy (aM 12) 5 fMb :: zzQ cy 5 (aM 13) 6 (sF (refU uS0) (refU uS1) (refU uS2) (refU uS3) (refU uS4)) :: zzG cy 4 (aM 14) rR :: zzJ cy (rR 0) 40 (eR 0) :: zzJ cy (rR 1) 40 (eR 1) :: zzJ cy (rR 2) 40 (eR 2) :: zzJ cy (rR 3) 40 (eR 3) :: zzJ cy (rR 4) 40 (eR 4) :: zzJ cy (rR 5) 40 (eR 5) :: zzJ cy (rR 6) 40 (eR 6) :: zzJ cy (rR 7) 40 (eR 7) :: zzG cy 3 (aM 15) rB :: zzI cy (rB 0) 4 (bkR tM 0) :: zzI cy (rB 1) 4 (bkR tM 1) :: zzI cy (rB 2) 4 (bkR tM 2) :: zzI cy (rB 3) 4 (bkR tM 3) :: zzI cy (rB 4) 4 (bkR tM 4) :: zzI cy (rB 5) 4 (bkR tM 5) :: zzI cy (rB 6) 4 (bkR tM 6) :: zzI cy (rB 7) 4 (bkR tM 7) :: zzG cy 3 (aM 16) rO :: zzI cy (rO 0) 5 (onR tM 0) :: zzI cy (rO 1) 5 (onR tM 1) :: zzI cy (rO 2) 5 (onR tM 2) :: zzI cy (rO 3) 5 (onR tM 3) :: zzI cy (rO 4) 5 (onR tM 4) :: zzI cy (rO 5) 5 (onR tM 5) :: zzI cy (rO 6) 5 (onR tM 6) :: zzI cy (rO 7) 5 (onR tM 7) :: zzG cy 3 (aM 17) rK :: zzI cy (rK 0) 8 (T_kn tM 0) :: zzI cy (rK 1) 8 (T_kn tM 1) :: zzI cy (rK 2) 8 (T_kn tM 2) :: zzI cy (rK 3) 8 (T_kn tM 3) :: zzI cy (rK 4) 8 (T_kn tM 4) :: zzI cy (rK 5) 8 (T_kn tM 5) :: zzI cy (rK 6) 8 (T_kn tM 6) :: zzI cy (rK 7) 8 (T_kn tM 7) :: []) : va_W) ++ (((oM cy uU) ++ ((oL cy wL) ++ ((oM cy uP) ++ (oM cy uS0 ++ (oM cy uS1 ++ (oM cy uS2 ++ (oM cy uS3 ++ oM cy uS4))))))) ++ (XW cy aX iKp iYe iTv fX_4 tN_5 tB iL iBs tU tV fH fS fA gE kZ iT1 iT2 iT3 iT4 fB tD))) hP hD rfl
  clear hP hD
  obtain ⟨hP, hD⟩ := hPD
  refine cViQ (As := [.int (xs (kI + 1)), .int (xs (kI + 2))]) (rest := []) (b := (aM 0)) (q := (RX6, TX6, 35)) ⟨hx, hb, hml, hown, hts⟩ (x_X6_book l G cy (H).size (aM 0) (aM 1) (aM 2) (aM 3) (aM 14) (aM 4) (aM 5) (aM 6) (aM 7) kY (aM 8) tM (aM 15) (aM 16) (aM 17) iEn iTk uP uU kAt iTo iFr JFi iFa (aM 9) iSt iLv iWs (ovL wL) (aM 10) (aM 11) (aM 12) (aM 13) iOm rB rO rK fMr (xs (kI + 1)) (xs (kI + 2)) hsM.1.1.1 hsM.1.1.2 hsM.1 hLR.2.2.1) L_L_52 hN hP hD hS hA (trueIxs [(true :: false :: false :: false :: false :: false :: false :: false :: false :: false :: false :: false :: false :: false :: false :: false :: false :: false :: false :: false :: false :: false :: false :: true :: true :: true :: true :: true :: true :: true :: true :: true :: true :: true :: true :: true :: true :: true :: true :: true :: true :: true :: true :: true :: true :: true :: true :: true :: true :: true :: []), [false, false, false, false, false, false, false, false, true]]) (false :: true :: true :: true :: true :: true :: true :: true :: false :: true :: true :: true :: true :: true :: true :: true :: true :: true :: true :: true :: true :: true :: true :: false :: false :: false :: false :: false :: false :: false :: false :: false :: false :: false :: false :: false :: false :: false :: false :: false :: false :: false :: false :: false :: false :: false :: false :: false :: false :: false :: []) (sels_eq rfl rfl) (by decide +kernel) rfl 0 5 rfl rfl rfl ⟨Nat.le_of_ble_eq_true rfl, Nat.le_of_ble_eq_true rfl⟩ hl.1 (Nat.le_of_ble_eq_true rfl) (g_182 (v := 52) bL_law rfl) ⟨by show nC + 0 + 0 ≤ 600000; omega, by show nS + 0 + 0 ≤ 7302250; omega⟩ (fun r_7 u_9 H locs h_8 => ?_)
  clear hP hD hS
  intro hP hD hS
  obtain ⟨tN_10, fNr_11, hu9, h_12, h_8⟩ := h_8
  have hPD := pd_eqQ (((_ :: _ :: _ :: _ :: _ :: _ :: _ :: _ :: _ :: _ :: _ :: _ :: _ :: _ :: _ :: _ :: _ :: _ :: _ :: _ :: _ :: zzO (aM 0) 5 (.ref (aM 1) :: .ref (aM 2) :: .ref (aM 3) :: .ref (aM 14) :: .ref (aM 4) :: .ref (aM 5) :: .ref (aM 6) :: .ref (aM 7) :: .int (nI kY) :: .ref (aM 8) :: .int (nI (T_nb tN_10)) :: .ref (aM 15) :: .int (nI (T_np tN_10)) :: .ref (aM 16) :: .ref (aM 17) :: .int iEn :: .int iTk :: .int (T_sd tN_10) :: ov uP :: ov uU :: .int (nI kAt) :: .int iTo :: .int iFr :: .long JFi :: .int iFa :: .ref (aM 9) :: .int iSt :: .int iLv :: .int iWs :: ovL wL :: .ref (aM 10) :: .ref (aM 11) :: .ref (aM 12) :: .ref (aM 13) :: .int iOm :: []) :: _ :: zzI cy (rB 0) 4 (bkR tN_10 0) :: zzI cy (rB 1) 4 (bkR tN_10 1) :: zzI cy (rB 2) 4 (bkR tN_10 2) :: zzI cy (rB 3) 4 (bkR tN_10 3) :: zzI cy (rB 4) 4 (bkR tN_10 4) :: zzI cy (rB 5) 4 (bkR tN_10 5) :: zzI cy (rB 6) 4 (bkR tN_10 6) :: zzI cy (rB 7) 4 (bkR tN_10 7) :: _ :: zzI cy (rO 0) 5 (onR tN_10 0) :: zzI cy (rO 1) 5 (onR tN_10 1) :: zzI cy (rO 2) 5 (onR tN_10 2) :: zzI cy (rO 3) 5 (onR tN_10 3) :: zzI cy (rO 4) 5 (onR tN_10 4) :: zzI cy (rO 5) 5 (onR tN_10 5) :: zzI cy (rO 6) 5 (onR tN_10 6) :: zzI cy (rO 7) 5 (onR tN_10 7) :: _ :: zzI cy (rK 0) 8 (T_kn tN_10 0) :: zzI cy (rK 1) 8 (T_kn tN_10 1) :: zzI cy (rK 2) 8 (T_kn tN_10 2) :: zzI cy (rK 3) 8 (T_kn tN_10 3) :: zzI cy (rK 4) 8 (T_kn tN_10 4) :: zzI cy (rK 5) 8 (T_kn tN_10 5) :: zzI cy (rK 6) 8 (T_kn tN_10 6) :: zzI cy (rK 7) 8 (T_kn tN_10 7) :: zzI cy (aM 8) 8 fNr_11 :: []) : va_W) ++ (((oM cy uU) ++ ((oL cy wL) ++ ((oM cy uP) ++ (oM cy uS0 ++ (oM cy uS1 ++ (oM cy uS2 ++ (oM cy uS3 ++ oM cy uS4))))))) ++ (XW cy aX iKp iYe iTv fX_4 tN_5 tB iL iBs tU tV fH fS fA gE kZ iT1 iT2 iT3 iT4 fB tD))) hP hD hu9 rfl
  clear hP hD hu9
  obtain ⟨hP, hD⟩ := hPD
  have hPD := pt_as (MK cy aM rR rB rO rK fMh fMo fMz gMv fMk fMa fMt kY fNr_11 fM3 fMu fMy fMb eR tN_10 iEn iTk uP uU kAt iTo iFr JFi iFa iSt iLv iWs wL uS0 uS1 uS2 uS3 uS4 iOm) (21 :: 0 :: 1 :: 2 :: 3 :: 4 :: 5 :: 6 :: 49 :: 7 :: 8 :: 9 :: 10 :: 11 :: 12 :: 13 :: 14 :: 15 :: 16 :: 17 :: 18 :: 19 :: 20 :: 22 :: 23 :: 24 :: 25 :: 26 :: 27 :: 28 :: 29 :: 30 :: 31 :: 32 :: 33 :: 34 :: 35 :: 36 :: 37 :: 38 :: 39 :: 40 :: 41 :: 42 :: 43 :: 44 :: 45 :: 46 :: 47 :: 48 :: []) hP hD (by decide +kernel) rfl
  clear hP hD
  obtain ⟨hP, hD⟩ := hPD
  replace hP : va_P G CL ((XW cy aX iKp iYe iTv fX_4 tN_5 tB iL iBs tU tV fH fS fA gE kZ iT1 iT2 iT3 iT4 fB tD) ++ ((MK cy aM rR rB rO rK fMh fMo fMz gMv fMk fMa fMt kY fNr_11 fM3 fMu fMy fMb eR tN_10 iEn iTk uP uU kAt iTo iFr JFi iFa iSt iLv iWs wL uS0 uS1 uS2 uS3 uS4 iOm) ++ ((oM cy uU) ++ ((oL cy wL) ++ ((oM cy uP) ++ (oM cy uS0 ++ (oM cy uS1 ++ (oM cy uS2 ++ (oM cy uS3 ++ oM cy uS4))))))))) H := ofNP hP
  replace hD : va_D A ((XW cy aX iKp iYe iTv fX_4 tN_5 tB iL iBs tU tV fH fS fA gE kZ iT1 iT2 iT3 iT4 fB tD) ++ ((MK cy aM rR rB rO rK fMh fMo fMz gMv fMk fMa fMt kY fNr_11 fM3 fMu fMy fMb eR tN_10 iEn iTk uP uU kAt iTo iFr JFi iFa iSt iLv iWs wL uS0 uS1 uS2 uS3 uS4 iOm) ++ ((oM cy uU) ++ ((oL cy wL) ++ ((oM cy uP) ++ (oM cy uS0 ++ (oM cy uS1 ++ (oM cy uS2 ++ (oM cy uS3 ++ oM cy uS4))))))))) := ofND hD
  refine lv_pop hx hb (g_87 bL_law rfl) rfl ?_
  refine lv_goto (tgt := 1807) hx hb dL_law_585 (by decide +kernel) ?_
  refine W.widen (k := nC + 250) (n := nS + 4440) (by omega) (by omega) ?_
  exact kk _ _ (linv_mk hP hD (sx_t hsX (nb_book hsX.1 h_6)) (sm_t hsM h_12.1.1) (⟨hLR.1, ⟨(book_k hLR.2.1 h_6 h_12.2).2, h_12.1, hLR.2.2.2⟩⟩)) hS
set_option maxHeartbeats 4000000 in
set_option maxRecDepth 100000 in
theorem law_8 {p : Program} {l : Launch} {e : Env} {s : State} {m : MethodId} {below : List Frame} {meth : Method} {c : Code} {b L : Nat} {xs : Nat → Int32} {A : Nat → Prop} {G : va_G} {cy : Nat → ClassId} {aX aM rR rB rO rK : Nat → Nat} (hx : p.tables.exec = Jvm.exec) (hb : c.code = code) (hr : meth.sig.returnType = ret) (hml : c.maxLocals = 4) (hown : s.vm.findClass RL = some m.cls) (hts : ∀ w ∈ BIG, w.before #[Value.ref b] s = true) (hX : va_X b L xs s s.heap) (hbl : b < s.heap.size) (hlocks : meth.locks = false) (hN : KN G cy s) (hA : ∀ q : Nat, s.heap.size ≤ q → A q) (hAn : ∀ q : Nat, A q → s.heap.size ≤ q) (hbA : ¬ A b) (hSO : SO A s s.heap) {H : Heap} {locs : List Loc} {ls : Array Slot} {kI nC nS : Nat} (hkI : kI + 6 ≤ L) (hL : L ≤ 384) (hnC : nC + 250 ≤ 600000) (hnS : nS + 4440 ≤ 7302250) {iKp : Int32} {iYe : Int32} {iTv : Int32} {fR : Nat → Int32} {tA : TA} {tB : TA} {iL : Int32} {iBs : Int32} {tU : TA} {tV : TA} {fH : Nat → Int32} {fS : Nat → Int32} {fA : Nat → Int32} {gE : Nat → Int64} {kZ : Nat} {iT1 : Int32} {iT2 : Int32} {iT3 : Int32} {iT4 : Int32} {fB : Nat → Int32} {tD : TA} {fMh : Nat → Int32} {fMo : Nat → Int32} {fMz : Nat → Int32} {gMv : Nat → Int64} {fMk : Nat → Int32} {fMa : Nat → Int32} {fMt : Nat → Int32} {kY : Nat} {fMr : Nat → Int32} {fM3 : Nat → Int32} {fMu : Nat → Int32} {fMy : Nat → Int32} {fMb : Nat → Int32} {eR : Nat → Nat → Int64} {tM : TA} {iEn : Int32} {iTk : Int32} {uP : UM} {uU : UM} {kAt : Nat} {iTo : Int32} {iFr : Int32} {JFi : Int64} {iFa : Int32} {iSt : Int32} {iLv : Int32} {iWs : Int32} {wL : UL} {uS0 : UM} {uS1 : UM} {uS2 : UM} {uS3 : UM} {uS4 : UM} {iOm : Int32} (hP : va_P G CL ((XW cy aX iKp iYe iTv fR tA tB iL iBs tU tV fH fS fA gE kZ iT1 iT2 iT3 iT4 fB tD) ++ ((MK cy aM rR rB rO rK fMh fMo fMz gMv fMk fMa fMt kY fMr fM3 fMu fMy fMb eR tM iEn iTk uP uU kAt iTo iFr JFi iFa iSt iLv iWs wL uS0 uS1 uS2 uS3 uS4 iOm) ++ ((oM cy uU) ++ ((oL cy wL) ++ ((oM cy uP) ++ (oM cy uS0 ++ (oM cy uS1 ++ (oM cy uS2 ++ (oM cy uS3 ++ oM cy uS4))))))))) H) (hD : va_D A ((XW cy aX iKp iYe iTv fR tA tB iL iBs tU tV fH fS fA gE kZ iT1 iT2 iT3 iT4 fB tD) ++ ((MK cy aM rR rB rO rK fMh fMo fMz gMv fMk fMa fMt kY fMr fM3 fMu fMy fMb eR tM iEn iTk uP uU kAt iTo iFr JFi iFa iSt iLv iWs wL uS0 uS1 uS2 uS3 uS4 iOm) ++ ((oM cy uU) ++ ((oL cy wL) ++ ((oM cy uP) ++ (oM cy uS0 ++ (oM cy uS1 ++ (oM cy uS2 ++ (oM cy uS3 ++ oM cy uS4)))))))))) (hsX : SX tA tB tD fS kZ) (hsM : SM tM uP fMz fMa kY) (hLR : LR iKp tA tB fH fS fA gE kZ fMh fMo fMz fMk fMa eR kY tM uP fB fMt) (hS : va_S A s.heap H locs) (hl : lv_has ls 4 [(3, .int (nI kI)), (2, .ref (aM 0)), (1, .ref (aX 0)), (0, .ref b)]) (kk : ∀ (H : Heap) (locs : List Loc), LINV G cy A H aX aM rR rB rO rK → va_S A s.heap H locs → W p l e room_1 s m #[Value.ref b] below meth c H locs (nC + 250) (nS + 4440) (lw_Z below #[Value.ref b] s) (F0 m 1807 ls [])) : W p l e room_1 s m #[Value.ref b] below meth c H locs nC nS (lw_Z below #[Value.ref b] s) (F0 m 588 ls []) := by
  refine lv_aload_n hx hb (g_43 bL_law rfl) rfl (lv_at hl 2 rfl) ?_
  refine lv_aload_n hx hb (g_42 bL_law rfl) rfl (lv_at hl 3 rfl) ?_
  refine lv_iload_n hx hb (g_29 bL_law rfl) rfl (lv_at hl 0 rfl) ?_
  refine lv_iconst (v := 1) hx hb (g_4 bL_law rfl) (by decide +kernel) ?_
  refine lv_iadd hx hb (g_96 bL_law rfl) ?_
  refine lv_seti (v := nI (kI + 1)) (nI_add _ _) ?_
  refine va_sld hx hb hX hbl hbA hS (vp_in_nI (by omega) (by omega)) (g_46 bL_law rfl) ?_
  refine lv_seti (v := xs (kI + 1)) (congrArg xs (nI_clamp (by omega))) ?_
  refine lv_aload_n hx hb (g_42 bL_law rfl) rfl (lv_at hl 3 rfl) ?_
  refine lv_iload_n hx hb (g_29 bL_law rfl) rfl (lv_at hl 0 rfl) ?_
  refine lv_iconst (v := 2) hx hb (g_5 bL_law rfl) (by decide +kernel) ?_
  refine lv_iadd hx hb (g_96 bL_law rfl) ?_
  refine lv_seti (v := nI (kI + 2)) (nI_add _ _) ?_
  refine va_sld hx hb hX hbl hbA hS (vp_in_nI (by omega) (by omega)) (g_46 bL_law rfl) ?_
  refine lv_seti (v := xs (kI + 2)) (congrArg xs (nI_clamp (by omega))) ?_
  refine lv_aload_n hx hb (g_42 bL_law rfl) rfl (lv_at hl 3 rfl) ?_
  refine lv_iload_n hx hb (g_29 bL_law rfl) rfl (lv_at hl 0 rfl) ?_
  refine lv_iconst (v := 3) hx hb (g_6 bL_law rfl) (by decide +kernel) ?_
  refine lv_iadd hx hb (g_96 bL_law rfl) ?_
  refine lv_seti (v := nI (kI + 3)) (nI_add _ _) ?_
  refine va_sld hx hb hX hbl hbA hS (vp_in_nI (by omega) (by omega)) (g_46 bL_law rfl) ?_
  refine lv_seti (v := xs (kI + 3)) (congrArg xs (nI_clamp (by omega))) ?_
  refine lv_aload_n hx hb (g_42 bL_law rfl) rfl (lv_at hl 3 rfl) ?_
  refine lv_iload_n hx hb (g_29 bL_law rfl) rfl (lv_at hl 0 rfl) ?_
  refine lv_iconst (v := 4) hx hb (g_7 bL_law rfl) (by decide +kernel) ?_
  refine lv_iadd hx hb (g_96 bL_law rfl) ?_
  refine lv_seti (v := nI (kI + 4)) (nI_add _ _) ?_
  refine va_sld hx hb hX hbl hbA hS (vp_in_nI (by omega) (by omega)) (g_46 bL_law rfl) ?_
  refine lv_seti (v := xs (kI + 4)) (congrArg xs (nI_clamp (by omega))) ?_
  have hPD := pd_as (((zzO (aX 0) 4 [.ref (aX 2), .ref (aX 11), .ref (aX 20), .ref (aX 39), .ref (aX 44), .ref (aX 1), .int iKp, .int iYe, .int iTv] :: zzI cy (aX 1) 5 fR :: zzO (aX 2) 3 [.int (nI (T_nb tA)), .int (nI (T_np tA)), .int (wb (T_wh tA)), .int (wb (T_gn tA)), .int (T_sd tA), .ref (aX 3), .ref (aX 4), .ref (aX 5), .ref (aX 6), .ref (aX 7), .ref (aX 8), .ref (aX 9), .ref (aX 10)] :: zzI cy (aX 3) 8 (T_wo tA) :: zzI cy (aX 4) 8 (T_ne tA) :: zzI cy (aX 5) 8 (T_go tA) :: zzI cy (aX 6) 8 (T_ag tA) :: zzI cy (aX 7) 8 (T_re tA) :: zzI cy (aX 8) 8 (T_me tA) :: zzI cy (aX 9) 8 (T_te tA) :: zzI cy (aX 10) 64 (shF (T_kn tA)) :: zzO (aX 11) 3 [.int (nI (T_nb tB)), .int (nI (T_np tB)), .int (wb (T_wh tB)), .int (wb (T_gn tB)), .int (T_sd tB), .ref (aX 12), .ref (aX 13), .ref (aX 14), .ref (aX 15), .ref (aX 16), .ref (aX 17), .ref (aX 18), .ref (aX 19)] :: zzI cy (aX 12) 8 (T_wo tB) :: zzI cy (aX 13) 8 (T_ne tB) :: zzI cy (aX 14) 8 (T_go tB) :: zzI cy (aX 15) 8 (T_ag tB) :: zzI cy (aX 16) 8 (T_re tB) :: zzI cy (aX 17) 8 (T_me tB) :: zzI cy (aX 18) 8 (T_te tB) :: zzI cy (aX 19) 64 (shF (T_kn tB)) :: zzO (aX 20) 0 [.ref (aX 21), .ref (aX 30), .int iL, .int iBs] :: zzO (aX 21) 3 [.int (nI (T_nb tU)), .int (nI (T_np tU)), .int (wb (T_wh tU)), .int (wb (T_gn tU)), .int (T_sd tU), .ref (aX 22), .ref (aX 23), .ref (aX 24), .ref (aX 25), .ref (aX 26), .ref (aX 27), .ref (aX 28), .ref (aX 29)] :: zzI cy (aX 22) 8 (T_wo tU) :: zzI cy (aX 23) 8 (T_ne tU) :: zzI cy (aX 24) 8 (T_go tU) :: zzI cy (aX 25) 8 (T_ag tU) :: zzI cy (aX 26) 8 (T_re tU) :: zzI cy (aX 27) 8 (T_me tU) :: zzI cy (aX 28) 8 (T_te tU) :: zzI cy (aX 29) 64 (shF (T_kn tU)) :: zzO (aX 30) 3 [.int (nI (T_nb tV)), .int (nI (T_np tV)), .int (wb (T_wh tV)), .int (wb (T_gn tV)), .int (T_sd tV), .ref (aX 31), .ref (aX 32), .ref (aX 33), .ref (aX 34), .ref (aX 35), .ref (aX 36), .ref (aX 37), .ref (aX 38)] :: zzI cy (aX 31) 8 (T_wo tV) :: zzI cy (aX 32) 8 (T_ne tV) :: zzI cy (aX 33) 8 (T_go tV) :: zzI cy (aX 34) 8 (T_ag tV) :: zzI cy (aX 35) 8 (T_re tV) :: zzI cy (aX 36) 8 (T_me tV) :: zzI cy (aX 37) 8 (T_te tV) :: zzI cy (aX 38) 64 (shF (T_kn tV)) :: zzO (aX 39) 1 [.ref (aX 40), .ref (aX 41), .ref (aX 42), .ref (aX 43)] :: zzI cy (aX 40) 8 fH :: zzI cy (aX 41) 8 fS :: zzI cy (aX 42) 8 fA :: zzJ cy (aX 43) 320 gE :: zzO (aX 44) 2 [.ref (aX 45), .int (nI kZ), .int iT1, .int iT2, .int iT3, .int iT4, .ref (aX 46)] :: zzB cy (aX 45) 250 fB :: zzO (aX 46) 3 [.int (nI (T_nb tD)), .int (nI (T_np tD)), .int (wb (T_wh tD)), .int (wb (T_gn tD)), .int (T_sd tD), .ref (aX 47), .ref (aX 48), .ref (aX 49), .ref (aX 50), .ref (aX 51), .ref (aX 52), .ref (aX 53), .ref (aX 54)] :: zzI cy (aX 47) 8 (T_wo tD) :: zzI cy (aX 48) 8 (T_ne tD) :: zzI cy (aX 49) 8 (T_go tD) :: zzI cy (aX 50) 8 (T_ag tD) :: zzI cy (aX 51) 8 (T_re tD) :: zzI cy (aX 52) 8 (T_me tD) :: zzI cy (aX 53) 8 (T_te tD) :: zzI cy (aX 54) 64 (shF (T_kn tD)) :: []) : va_W) ++ ((MK cy aM rR rB rO rK fMh fMo fMz gMv fMk fMa fMt kY fMr fM3 fMu fMy fMb eR tM iEn iTk uP uU kAt iTo iFr JFi iFa iSt iLv iWs wL uS0 uS1 uS2 uS3 uS4 iOm) ++ ((oM cy uU) ++ ((oL cy wL) ++ ((oM cy uP) ++ (oM cy uS0 ++ (oM cy uS1 ++ (oM cy uS2 ++ (oM cy uS3 ++ oM cy uS4))))))))) hP hD rfl
  clear hP hD
  obtain ⟨hP, hD⟩ := hPD
  refine cViQ (As := [.int (xs (kI + 1)), .int (xs (kI + 2)), .int (xs (kI + 3)), .int (xs (kI + 4))]) (rest := []) (b := (aX 0)) (q := (RX5, TX5, 9)) ⟨hx, hb, hml, hown, hts⟩ (p_X5_one l G cy (H).size (aX 0) (aX 2) (aX 11) (aX 20) (aX 39) (aX 44) (aX 1) iKp iYe iTv fR tA (aX 3) (aX 4) (aX 5) (aX 6) (aX 7) (aX 8) (aX 9) (aX 10) (xs (kI + 1)) (xs (kI + 2)) (xs (kI + 3)) (xs (kI + 4)) hsX.1.1 hsX.1.2) L_L_53 hN hP hD hS hA (trueIx 0 [true, true, true, true, true, true, true, true, true, true, true]) (false :: false :: false :: false :: false :: false :: false :: false :: false :: false :: false :: true :: true :: true :: true :: true :: true :: true :: true :: true :: true :: true :: true :: true :: true :: true :: true :: true :: true :: true :: true :: true :: true :: true :: true :: true :: true :: true :: true :: true :: true :: true :: true :: true :: true :: true :: true :: true :: true :: true :: true :: true :: true :: true :: true :: []) (sel_eq rfl rfl) (by decide +kernel) rfl 0 4 rfl rfl rfl ⟨Nat.le_of_ble_eq_true rfl, Nat.le_of_ble_eq_true rfl⟩ hl.1 (Nat.le_of_ble_eq_true rfl) (g_182 (v := 53) bL_law rfl) ⟨by show nC + 0 ≤ 600000; omega, by show nS + 0 ≤ 7302250; omega⟩ (fun r_1 u_3 H locs h_2 => ?_)
  clear hP hD hS
  intro hP hD hS
  obtain ⟨fX_4, tN_5, hu9, h_6, h_2⟩ := h_2
  have hPD := pd_eqQ (((_ :: _ :: _ :: _ :: _ :: _ :: _ :: _ :: _ :: _ :: _ :: _ :: _ :: _ :: _ :: _ :: _ :: _ :: _ :: _ :: _ :: _ :: _ :: _ :: _ :: _ :: _ :: _ :: _ :: _ :: _ :: _ :: _ :: _ :: _ :: _ :: _ :: _ :: _ :: _ :: _ :: _ :: _ :: _ :: _ :: zzI cy (aX 1) 5 fX_4 :: zzO (aX 2) 3 [.int (nI (T_nb tN_5)), .int (nI (T_np tN_5)), .int (wb (T_wh tN_5)), .int (wb (T_gn tN_5)), .int (T_sd tN_5), .ref (aX 3), .ref (aX 4), .ref (aX 5), .ref (aX 6), .ref (aX 7), .ref (aX 8), .ref (aX 9), .ref (aX 10)] :: zzI cy (aX 3) 8 (T_wo tN_5) :: zzI cy (aX 4) 8 (T_ne tN_5) :: zzI cy (aX 5) 8 (T_go tN_5) :: zzI cy (aX 6) 8 (T_ag tN_5) :: zzI cy (aX 7) 8 (T_re tN_5) :: zzI cy (aX 8) 8 (T_me tN_5) :: zzI cy (aX 9) 8 (T_te tN_5) :: zzI cy (aX 10) 64 (shF (T_kn tN_5)) :: []) : va_W) ++ ((MK cy aM rR rB rO rK fMh fMo fMz gMv fMk fMa fMt kY fMr fM3 fMu fMy fMb eR tM iEn iTk uP uU kAt iTo iFr JFi iFa iSt iLv iWs wL uS0 uS1 uS2 uS3 uS4 iOm) ++ ((oM cy uU) ++ ((oL cy wL) ++ ((oM cy uP) ++ (oM cy uS0 ++ (oM cy uS1 ++ (oM cy uS2 ++ (oM cy uS3 ++ oM cy uS4))))))))) hP hD hu9 rfl
  clear hP hD hu9
  obtain ⟨hP, hD⟩ := hPD
  have hPD := pt_as (XW cy aX iKp iYe iTv fX_4 tN_5 tB iL iBs tU tV fH fS fA gE kZ iT1 iT2 iT3 iT4 fB tD) (44 :: 45 :: 46 :: 47 :: 48 :: 49 :: 50 :: 51 :: 52 :: 53 :: 54 :: 0 :: 1 :: 2 :: 3 :: 4 :: 5 :: 6 :: 7 :: 8 :: 9 :: 10 :: 11 :: 12 :: 13 :: 14 :: 15 :: 16 :: 17 :: 18 :: 19 :: 20 :: 21 :: 22 :: 23 :: 24 :: 25 :: 26 :: 27 :: 28 :: 29 :: 30 :: 31 :: 32 :: 33 :: 34 :: 35 :: 36 :: 37 :: 38 :: 39 :: 40 :: 41 :: 42 :: 43 :: []) hP hD (by decide +kernel) rfl
  clear hP hD
  obtain ⟨hP, hD⟩ := hPD
  refine lv_pop hx hb (g_87 bL_law rfl) rfl ?_
  refine lv_aload_n hx hb (g_44 bL_law rfl) rfl (lv_at hl 1 rfl) ?_
  refine lv_aload_n hx hb (g_42 bL_law rfl) rfl (lv_at hl 3 rfl) ?_
  refine lv_iload_n hx hb (g_29 bL_law rfl) rfl (lv_at hl 0 rfl) ?_
  refine lv_iconst (v := 1) hx hb (g_4 bL_law rfl) (by decide +kernel) ?_
  refine lv_iadd hx hb (g_96 bL_law rfl) ?_
  refine lv_seti (v := nI (kI + 1)) (nI_add _ _) ?_
  refine va_sld hx hb hX hbl hbA hS (vp_in_nI (by omega) (by omega)) (g_46 bL_law rfl) ?_
  refine lv_seti (v := xs (kI + 1)) (congrArg xs (nI_clamp (by omega))) ?_
  refine lv_aload_n hx hb (g_42 bL_law rfl) rfl (lv_at hl 3 rfl) ?_
  refine lv_iload_n hx hb (g_29 bL_law rfl) rfl (lv_at hl 0 rfl) ?_
  refine lv_iconst (v := 2) hx hb (g_5 bL_law rfl) (by decide +kernel) ?_
  refine lv_iadd hx hb (g_96 bL_law rfl) ?_
  refine lv_seti (v := nI (kI + 2)) (nI_add _ _) ?_
  refine va_sld hx hb hX hbl hbA hS (vp_in_nI (by omega) (by omega)) (g_46 bL_law rfl) ?_
  refine lv_seti (v := xs (kI + 2)) (congrArg xs (nI_clamp (by omega))) ?_
  refine lv_aload_n hx hb (g_42 bL_law rfl) rfl (lv_at hl 3 rfl) ?_
  refine lv_iload_n hx hb (g_29 bL_law rfl) rfl (lv_at hl 0 rfl) ?_
  refine lv_iconst (v := 3) hx hb (g_6 bL_law rfl) (by decide +kernel) ?_
  refine lv_iadd hx hb (g_96 bL_law rfl) ?_
  refine lv_seti (v := nI (kI + 3)) (nI_add _ _) ?_
  refine va_sld hx hb hX hbl hbA hS (vp_in_nI (by omega) (by omega)) (g_46 bL_law rfl) ?_
  refine lv_seti (v := xs (kI + 3)) (congrArg xs (nI_clamp (by omega))) ?_
  refine lv_aload_n hx hb (g_42 bL_law rfl) rfl (lv_at hl 3 rfl) ?_
  refine lv_iload_n hx hb (g_29 bL_law rfl) rfl (lv_at hl 0 rfl) ?_
  refine lv_iconst (v := 4) hx hb (g_7 bL_law rfl) (by decide +kernel) ?_
  refine lv_iadd hx hb (g_96 bL_law rfl) ?_
  refine lv_seti (v := nI (kI + 4)) (nI_add _ _) ?_
  refine va_sld hx hb hX hbl hbA hS (vp_in_nI (by omega) (by omega)) (g_46 bL_law rfl) ?_
  refine lv_seti (v := xs (kI + 4)) (congrArg xs (nI_clamp (by omega))) ?_
  replace hP : va_P G CL ((MK cy aM rR rB rO rK fMh fMo fMz gMv fMk fMa fMt kY fMr fM3 fMu fMy fMb eR tM iEn iTk uP uU kAt iTo iFr JFi iFa iSt iLv iWs wL uS0 uS1 uS2 uS3 uS4 iOm) ++ (((oM cy uU) ++ ((oL cy wL) ++ ((oM cy uP) ++ (oM cy uS0 ++ (oM cy uS1 ++ (oM cy uS2 ++ (oM cy uS3 ++ oM cy uS4))))))) ++ (XW cy aX iKp iYe iTv fX_4 tN_5 tB iL iBs tU tV fH fS fA gE kZ iT1 iT2 iT3 iT4 fB tD))) H := toNP hP
  replace hD : va_D A ((MK cy aM rR rB rO rK fMh fMo fMz gMv fMk fMa fMt kY fMr fM3 fMu fMy fMb eR tM iEn iTk uP uU kAt iTo iFr JFi iFa iSt iLv iWs wL uS0 uS1 uS2 uS3 uS4 iOm) ++ (((oM cy uU) ++ ((oL cy wL) ++ ((oM cy uP) ++ (oM cy uS0 ++ (oM cy uS1 ++ (oM cy uS2 ++ (oM cy uS3 ++ oM cy uS4))))))) ++ (XW cy aX iKp iYe iTv fX_4 tN_5 tB iL iBs tU tV fH fS fA gE kZ iT1 iT2 iT3 iT4 fB tD))) := toND hD
  have hPD := pd_as (((zzO (aM 0) 5 (.ref (aM 1) :: .ref (aM 2) :: .ref (aM 3) :: .ref (aM 14) :: .ref (aM 4) :: .ref (aM 5) :: .ref (aM 6) :: .ref (aM 7) :: .int (nI kY) :: .ref (aM 8) :: .int (nI (T_nb tM)) :: .ref (aM 15) :: .int (nI (T_np tM)) :: .ref (aM 16) :: .ref (aM 17) :: .int iEn :: .int iTk :: .int (T_sd tM) :: ov uP :: ov uU :: .int (nI kAt) :: .int iTo :: .int iFr :: .long JFi :: .int iFa :: .ref (aM 9) :: .int iSt :: .int iLv :: .int iWs :: ovL wL :: .ref (aM 10) :: .ref (aM 11) :: .ref (aM 12) :: .ref (aM 13) :: .int iOm :: []) :: zzI cy (aM 1) 8 fMh :: zzI cy (aM 2) 8 fMo :: zzI cy (aM 3) 8 fMz :: zzJ cy (aM 4) 40 gMv :: zzI cy (aM 5) 8 fMk :: zzI cy (aM 6) 8 fMa :: zzI cy (aM 7) 250 fMt :: zzI cy (aM 8) 8 fMr :: zzI cy (aM 9) 3 fM3 :: zzI cy (aM 10) 8 fMu :: zzI cy (aM 11) 5 fMy :: zzI cy (aM 12) 5 fMb :: zzQ cy 5 (aM 13) 6 (sF (refU uS0) (refU uS1) (refU uS2) (refU uS3) (refU uS4)) :: zzG cy 4 (aM 14) rR :: zzJ cy (rR 0) 40 (eR 0) :: zzJ cy (rR 1) 40 (eR 1) :: zzJ cy (rR 2) 40 (eR 2) :: zzJ cy (rR 3) 40 (eR 3) :: zzJ cy (rR 4) 40 (eR 4) :: zzJ cy (rR 5) 40 (eR 5) :: zzJ cy (rR 6) 40 (eR 6) :: zzJ cy (rR 7) 40 (eR 7) :: zzG cy 3 (aM 15) rB :: zzI cy (rB 0) 4 (bkR tM 0) :: zzI cy (rB 1) 4 (bkR tM 1) :: zzI cy (rB 2) 4 (bkR tM 2) :: zzI cy (rB 3) 4 (bkR tM 3) :: zzI cy (rB 4) 4 (bkR tM 4) :: zzI cy (rB 5) 4 (bkR tM 5) :: zzI cy (rB 6) 4 (bkR tM 6) :: zzI cy (rB 7) 4 (bkR tM 7) :: zzG cy 3 (aM 16) rO :: zzI cy (rO 0) 5 (onR tM 0) :: zzI cy (rO 1) 5 (onR tM 1) :: zzI cy (rO 2) 5 (onR tM 2) :: zzI cy (rO 3) 5 (onR tM 3) :: zzI cy (rO 4) 5 (onR tM 4) :: zzI cy (rO 5) 5 (onR tM 5) :: zzI cy (rO 6) 5 (onR tM 6) :: zzI cy (rO 7) 5 (onR tM 7) :: zzG cy 3 (aM 17) rK :: zzI cy (rK 0) 8 (T_kn tM 0) :: zzI cy (rK 1) 8 (T_kn tM 1) :: zzI cy (rK 2) 8 (T_kn tM 2) :: zzI cy (rK 3) 8 (T_kn tM 3) :: zzI cy (rK 4) 8 (T_kn tM 4) :: zzI cy (rK 5) 8 (T_kn tM 5) :: zzI cy (rK 6) 8 (T_kn tM 6) :: zzI cy (rK 7) 8 (T_kn tM 7) :: []) : va_W) ++ (((oM cy uU) ++ ((oL cy wL) ++ ((oM cy uP) ++ (oM cy uS0 ++ (oM cy uS1 ++ (oM cy uS2 ++ (oM cy uS3 ++ oM cy uS4))))))) ++ (XW cy aX iKp iYe iTv fX_4 tN_5 tB iL iBs tU tV fH fS fA gE kZ iT1 iT2 iT3 iT4 fB tD))) hP hD rfl
  clear hP hD
  obtain ⟨hP, hD⟩ := hPD
  refine cViQ (As := [.int (xs (kI + 1)), .int (xs (kI + 2)), .int (xs (kI + 3)), .int (xs (kI + 4))]) (rest := []) (b := (aM 0)) (q := (RX6, TX6, 35)) ⟨hx, hb, hml, hown, hts⟩ (x_X6_one l G cy (H).size (aM 0) (aM 1) (aM 2) (aM 3) (aM 14) (aM 4) (aM 5) (aM 6) (aM 7) kY (aM 8) tM (aM 15) (aM 16) (aM 17) iEn iTk uP uU kAt iTo iFr JFi iFa (aM 9) iSt iLv iWs (ovL wL) (aM 10) (aM 11) (aM 12) (aM 13) iOm rB rO rK fMr (xs (kI + 1)) (xs (kI + 2)) (xs (kI + 3)) (xs (kI + 4)) hsM.1.1.1 hsM.1.1.2 hsM.1 hLR.2.2.1) L_L_57 hN hP hD hS hA (trueIxs [(true :: false :: false :: false :: false :: false :: false :: false :: false :: false :: false :: false :: false :: false :: false :: false :: false :: false :: false :: false :: false :: false :: false :: true :: true :: true :: true :: true :: true :: true :: true :: true :: true :: true :: true :: true :: true :: true :: true :: true :: true :: true :: true :: true :: true :: true :: true :: true :: true :: true :: []), [false, false, false, false, false, false, false, false, true]]) (false :: true :: true :: true :: true :: true :: true :: true :: false :: true :: true :: true :: true :: true :: true :: true :: true :: true :: true :: true :: true :: true :: true :: false :: false :: false :: false :: false :: false :: false :: false :: false :: false :: false :: false :: false :: false :: false :: false :: false :: false :: false :: false :: false :: false :: false :: false :: false :: false :: false :: []) (sels_eq rfl rfl) (by decide +kernel) rfl 0 5 rfl rfl rfl ⟨Nat.le_of_ble_eq_true rfl, Nat.le_of_ble_eq_true rfl⟩ hl.1 (Nat.le_of_ble_eq_true rfl) (g_182 (v := 57) bL_law rfl) ⟨by show nC + 0 + 0 ≤ 600000; omega, by show nS + 0 + 0 ≤ 7302250; omega⟩ (fun r_7 u_9 H locs h_8 => ?_)
  clear hP hD hS
  intro hP hD hS
  obtain ⟨tN_10, fNr_11, hu9, h_12, h_8⟩ := h_8
  have hPD := pd_eqQ (((_ :: _ :: _ :: _ :: _ :: _ :: _ :: _ :: _ :: _ :: _ :: _ :: _ :: _ :: _ :: _ :: _ :: _ :: _ :: _ :: _ :: zzO (aM 0) 5 (.ref (aM 1) :: .ref (aM 2) :: .ref (aM 3) :: .ref (aM 14) :: .ref (aM 4) :: .ref (aM 5) :: .ref (aM 6) :: .ref (aM 7) :: .int (nI kY) :: .ref (aM 8) :: .int (nI (T_nb tN_10)) :: .ref (aM 15) :: .int (nI (T_np tN_10)) :: .ref (aM 16) :: .ref (aM 17) :: .int iEn :: .int iTk :: .int (T_sd tN_10) :: ov uP :: ov uU :: .int (nI kAt) :: .int iTo :: .int iFr :: .long JFi :: .int iFa :: .ref (aM 9) :: .int iSt :: .int iLv :: .int iWs :: ovL wL :: .ref (aM 10) :: .ref (aM 11) :: .ref (aM 12) :: .ref (aM 13) :: .int iOm :: []) :: _ :: zzI cy (rB 0) 4 (bkR tN_10 0) :: zzI cy (rB 1) 4 (bkR tN_10 1) :: zzI cy (rB 2) 4 (bkR tN_10 2) :: zzI cy (rB 3) 4 (bkR tN_10 3) :: zzI cy (rB 4) 4 (bkR tN_10 4) :: zzI cy (rB 5) 4 (bkR tN_10 5) :: zzI cy (rB 6) 4 (bkR tN_10 6) :: zzI cy (rB 7) 4 (bkR tN_10 7) :: _ :: zzI cy (rO 0) 5 (onR tN_10 0) :: zzI cy (rO 1) 5 (onR tN_10 1) :: zzI cy (rO 2) 5 (onR tN_10 2) :: zzI cy (rO 3) 5 (onR tN_10 3) :: zzI cy (rO 4) 5 (onR tN_10 4) :: zzI cy (rO 5) 5 (onR tN_10 5) :: zzI cy (rO 6) 5 (onR tN_10 6) :: zzI cy (rO 7) 5 (onR tN_10 7) :: _ :: zzI cy (rK 0) 8 (T_kn tN_10 0) :: zzI cy (rK 1) 8 (T_kn tN_10 1) :: zzI cy (rK 2) 8 (T_kn tN_10 2) :: zzI cy (rK 3) 8 (T_kn tN_10 3) :: zzI cy (rK 4) 8 (T_kn tN_10 4) :: zzI cy (rK 5) 8 (T_kn tN_10 5) :: zzI cy (rK 6) 8 (T_kn tN_10 6) :: zzI cy (rK 7) 8 (T_kn tN_10 7) :: zzI cy (aM 8) 8 fNr_11 :: []) : va_W) ++ (((oM cy uU) ++ ((oL cy wL) ++ ((oM cy uP) ++ (oM cy uS0 ++ (oM cy uS1 ++ (oM cy uS2 ++ (oM cy uS3 ++ oM cy uS4))))))) ++ (XW cy aX iKp iYe iTv fX_4 tN_5 tB iL iBs tU tV fH fS fA gE kZ iT1 iT2 iT3 iT4 fB tD))) hP hD hu9 rfl
  clear hP hD hu9
  obtain ⟨hP, hD⟩ := hPD
  have hPD := pt_as (MK cy aM rR rB rO rK fMh fMo fMz gMv fMk fMa fMt kY fNr_11 fM3 fMu fMy fMb eR tN_10 iEn iTk uP uU kAt iTo iFr JFi iFa iSt iLv iWs wL uS0 uS1 uS2 uS3 uS4 iOm) (21 :: 0 :: 1 :: 2 :: 3 :: 4 :: 5 :: 6 :: 49 :: 7 :: 8 :: 9 :: 10 :: 11 :: 12 :: 13 :: 14 :: 15 :: 16 :: 17 :: 18 :: 19 :: 20 :: 22 :: 23 :: 24 :: 25 :: 26 :: 27 :: 28 :: 29 :: 30 :: 31 :: 32 :: 33 :: 34 :: 35 :: 36 :: 37 :: 38 :: 39 :: 40 :: 41 :: 42 :: 43 :: 44 :: 45 :: 46 :: 47 :: 48 :: []) hP hD (by decide +kernel) rfl
  clear hP hD
  obtain ⟨hP, hD⟩ := hPD
  replace hP : va_P G CL ((XW cy aX iKp iYe iTv fX_4 tN_5 tB iL iBs tU tV fH fS fA gE kZ iT1 iT2 iT3 iT4 fB tD) ++ ((MK cy aM rR rB rO rK fMh fMo fMz gMv fMk fMa fMt kY fNr_11 fM3 fMu fMy fMb eR tN_10 iEn iTk uP uU kAt iTo iFr JFi iFa iSt iLv iWs wL uS0 uS1 uS2 uS3 uS4 iOm) ++ ((oM cy uU) ++ ((oL cy wL) ++ ((oM cy uP) ++ (oM cy uS0 ++ (oM cy uS1 ++ (oM cy uS2 ++ (oM cy uS3 ++ oM cy uS4))))))))) H := ofNP hP
  replace hD : va_D A ((XW cy aX iKp iYe iTv fX_4 tN_5 tB iL iBs tU tV fH fS fA gE kZ iT1 iT2 iT3 iT4 fB tD) ++ ((MK cy aM rR rB rO rK fMh fMo fMz gMv fMk fMa fMt kY fNr_11 fM3 fMu fMy fMb eR tN_10 iEn iTk uP uU kAt iTo iFr JFi iFa iSt iLv iWs wL uS0 uS1 uS2 uS3 uS4 iOm) ++ ((oM cy uU) ++ ((oL cy wL) ++ ((oM cy uP) ++ (oM cy uS0 ++ (oM cy uS1 ++ (oM cy uS2 ++ (oM cy uS3 ++ oM cy uS4))))))))) := ofND hD
  refine lv_pop hx hb (g_87 bL_law rfl) rfl ?_
  refine lv_goto (tgt := 1807) hx hb dL_law_638 (by decide +kernel) ?_
  refine W.widen (k := nC + 250) (n := nS + 4440) (by omega) (by omega) ?_
  exact kk _ _ (linv_mk hP hD (sx_t hsX (nb_one hsX.1 h_6)) (sm_t hsM h_12.1.1) (⟨hLR.1, ⟨(one_k hLR.2.1 h_6 h_12.2).2, h_12.1, hLR.2.2.2⟩⟩)) hS
set_option maxHeartbeats 4000000 in
set_option maxRecDepth 100000 in
theorem law_9 {p : Program} {l : Launch} {e : Env} {s : State} {m : MethodId} {below : List Frame} {meth : Method} {c : Code} {b L : Nat} {xs : Nat → Int32} {A : Nat → Prop} {G : va_G} {cy : Nat → ClassId} {aX aM rR rB rO rK : Nat → Nat} (hx : p.tables.exec = Jvm.exec) (hb : c.code = code) (hr : meth.sig.returnType = ret) (hml : c.maxLocals = 4) (hown : s.vm.findClass RL = some m.cls) (hts : ∀ w ∈ BIG, w.before #[Value.ref b] s = true) (hX : va_X b L xs s s.heap) (hbl : b < s.heap.size) (hlocks : meth.locks = false) (hN : KN G cy s) (hA : ∀ q : Nat, s.heap.size ≤ q → A q) (hAn : ∀ q : Nat, A q → s.heap.size ≤ q) (hbA : ¬ A b) (hSO : SO A s s.heap) {H : Heap} {locs : List Loc} {ls : Array Slot} {kI nC nS : Nat} (hkI : kI + 6 ≤ L) (hL : L ≤ 384) (hnC : nC + 250 ≤ 600000) (hnS : nS + 4440 ≤ 7302250) {iKp : Int32} {iYe : Int32} {iTv : Int32} {fR : Nat → Int32} {tA : TA} {tB : TA} {iL : Int32} {iBs : Int32} {tU : TA} {tV : TA} {fH : Nat → Int32} {fS : Nat → Int32} {fA : Nat → Int32} {gE : Nat → Int64} {kZ : Nat} {iT1 : Int32} {iT2 : Int32} {iT3 : Int32} {iT4 : Int32} {fB : Nat → Int32} {tD : TA} {fMh : Nat → Int32} {fMo : Nat → Int32} {fMz : Nat → Int32} {gMv : Nat → Int64} {fMk : Nat → Int32} {fMa : Nat → Int32} {fMt : Nat → Int32} {kY : Nat} {fMr : Nat → Int32} {fM3 : Nat → Int32} {fMu : Nat → Int32} {fMy : Nat → Int32} {fMb : Nat → Int32} {eR : Nat → Nat → Int64} {tM : TA} {iEn : Int32} {iTk : Int32} {uP : UM} {uU : UM} {kAt : Nat} {iTo : Int32} {iFr : Int32} {JFi : Int64} {iFa : Int32} {iSt : Int32} {iLv : Int32} {iWs : Int32} {wL : UL} {uS0 : UM} {uS1 : UM} {uS2 : UM} {uS3 : UM} {uS4 : UM} {iOm : Int32} (hP : va_P G CL ((XW cy aX iKp iYe iTv fR tA tB iL iBs tU tV fH fS fA gE kZ iT1 iT2 iT3 iT4 fB tD) ++ ((MK cy aM rR rB rO rK fMh fMo fMz gMv fMk fMa fMt kY fMr fM3 fMu fMy fMb eR tM iEn iTk uP uU kAt iTo iFr JFi iFa iSt iLv iWs wL uS0 uS1 uS2 uS3 uS4 iOm) ++ ((oM cy uU) ++ ((oL cy wL) ++ ((oM cy uP) ++ (oM cy uS0 ++ (oM cy uS1 ++ (oM cy uS2 ++ (oM cy uS3 ++ oM cy uS4))))))))) H) (hD : va_D A ((XW cy aX iKp iYe iTv fR tA tB iL iBs tU tV fH fS fA gE kZ iT1 iT2 iT3 iT4 fB tD) ++ ((MK cy aM rR rB rO rK fMh fMo fMz gMv fMk fMa fMt kY fMr fM3 fMu fMy fMb eR tM iEn iTk uP uU kAt iTo iFr JFi iFa iSt iLv iWs wL uS0 uS1 uS2 uS3 uS4 iOm) ++ ((oM cy uU) ++ ((oL cy wL) ++ ((oM cy uP) ++ (oM cy uS0 ++ (oM cy uS1 ++ (oM cy uS2 ++ (oM cy uS3 ++ oM cy uS4)))))))))) (hsX : SX tA tB tD fS kZ) (hsM : SM tM uP fMz fMa kY) (hLR : LR iKp tA tB fH fS fA gE kZ fMh fMo fMz fMk fMa eR kY tM uP fB fMt) (hS : va_S A s.heap H locs) (hl : lv_has ls 4 [(3, .int (nI kI)), (2, .ref (aM 0)), (1, .ref (aX 0)), (0, .ref b)]) (kk : ∀ (H : Heap) (locs : List Loc), LINV G cy A H aX aM rR rB rO rK → va_S A s.heap H locs → W p l e room_1 s m #[Value.ref b] below meth c H locs (nC + 250) (nS + 4440) (lw_Z below #[Value.ref b] s) (F0 m 1807 ls [])) : W p l e room_1 s m #[Value.ref b] below meth c H locs nC nS (lw_Z below #[Value.ref b] s) (F0 m 641 ls []) := by
  refine lv_aload_n hx hb (g_43 bL_law rfl) rfl (lv_at hl 2 rfl) ?_
  refine lv_aload_n hx hb (g_42 bL_law rfl) rfl (lv_at hl 3 rfl) ?_
  refine lv_iload_n hx hb (g_29 bL_law rfl) rfl (lv_at hl 0 rfl) ?_
  refine lv_iconst (v := 1) hx hb (g_4 bL_law rfl) (by decide +kernel) ?_
  refine lv_iadd hx hb (g_96 bL_law rfl) ?_
  refine lv_seti (v := nI (kI + 1)) (nI_add _ _) ?_
  refine va_sld hx hb hX hbl hbA hS (vp_in_nI (by omega) (by omega)) (g_46 bL_law rfl) ?_
  refine lv_seti (v := xs (kI + 1)) (congrArg xs (nI_clamp (by omega))) ?_
  refine lv_aload_n hx hb (g_42 bL_law rfl) rfl (lv_at hl 3 rfl) ?_
  refine lv_iload_n hx hb (g_29 bL_law rfl) rfl (lv_at hl 0 rfl) ?_
  refine lv_iconst (v := 2) hx hb (g_5 bL_law rfl) (by decide +kernel) ?_
  refine lv_iadd hx hb (g_96 bL_law rfl) ?_
  refine lv_seti (v := nI (kI + 2)) (nI_add _ _) ?_
  refine va_sld hx hb hX hbl hbA hS (vp_in_nI (by omega) (by omega)) (g_46 bL_law rfl) ?_
  refine lv_seti (v := xs (kI + 2)) (congrArg xs (nI_clamp (by omega))) ?_
  have hPD := pd_as (((zzO (aX 0) 4 [.ref (aX 2), .ref (aX 11), .ref (aX 20), .ref (aX 39), .ref (aX 44), .ref (aX 1), .int iKp, .int iYe, .int iTv] :: zzI cy (aX 1) 5 fR :: zzO (aX 2) 3 [.int (nI (T_nb tA)), .int (nI (T_np tA)), .int (wb (T_wh tA)), .int (wb (T_gn tA)), .int (T_sd tA), .ref (aX 3), .ref (aX 4), .ref (aX 5), .ref (aX 6), .ref (aX 7), .ref (aX 8), .ref (aX 9), .ref (aX 10)] :: zzI cy (aX 3) 8 (T_wo tA) :: zzI cy (aX 4) 8 (T_ne tA) :: zzI cy (aX 5) 8 (T_go tA) :: zzI cy (aX 6) 8 (T_ag tA) :: zzI cy (aX 7) 8 (T_re tA) :: zzI cy (aX 8) 8 (T_me tA) :: zzI cy (aX 9) 8 (T_te tA) :: zzI cy (aX 10) 64 (shF (T_kn tA)) :: zzO (aX 11) 3 [.int (nI (T_nb tB)), .int (nI (T_np tB)), .int (wb (T_wh tB)), .int (wb (T_gn tB)), .int (T_sd tB), .ref (aX 12), .ref (aX 13), .ref (aX 14), .ref (aX 15), .ref (aX 16), .ref (aX 17), .ref (aX 18), .ref (aX 19)] :: zzI cy (aX 12) 8 (T_wo tB) :: zzI cy (aX 13) 8 (T_ne tB) :: zzI cy (aX 14) 8 (T_go tB) :: zzI cy (aX 15) 8 (T_ag tB) :: zzI cy (aX 16) 8 (T_re tB) :: zzI cy (aX 17) 8 (T_me tB) :: zzI cy (aX 18) 8 (T_te tB) :: zzI cy (aX 19) 64 (shF (T_kn tB)) :: zzO (aX 20) 0 [.ref (aX 21), .ref (aX 30), .int iL, .int iBs] :: zzO (aX 21) 3 [.int (nI (T_nb tU)), .int (nI (T_np tU)), .int (wb (T_wh tU)), .int (wb (T_gn tU)), .int (T_sd tU), .ref (aX 22), .ref (aX 23), .ref (aX 24), .ref (aX 25), .ref (aX 26), .ref (aX 27), .ref (aX 28), .ref (aX 29)] :: zzI cy (aX 22) 8 (T_wo tU) :: zzI cy (aX 23) 8 (T_ne tU) :: zzI cy (aX 24) 8 (T_go tU) :: zzI cy (aX 25) 8 (T_ag tU) :: zzI cy (aX 26) 8 (T_re tU) :: zzI cy (aX 27) 8 (T_me tU) :: zzI cy (aX 28) 8 (T_te tU) :: zzI cy (aX 29) 64 (shF (T_kn tU)) :: zzO (aX 30) 3 [.int (nI (T_nb tV)), .int (nI (T_np tV)), .int (wb (T_wh tV)), .int (wb (T_gn tV)), .int (T_sd tV), .ref (aX 31), .ref (aX 32), .ref (aX 33), .ref (aX 34), .ref (aX 35), .ref (aX 36), .ref (aX 37), .ref (aX 38)] :: zzI cy (aX 31) 8 (T_wo tV) :: zzI cy (aX 32) 8 (T_ne tV) :: zzI cy (aX 33) 8 (T_go tV) :: zzI cy (aX 34) 8 (T_ag tV) :: zzI cy (aX 35) 8 (T_re tV) :: zzI cy (aX 36) 8 (T_me tV) :: zzI cy (aX 37) 8 (T_te tV) :: zzI cy (aX 38) 64 (shF (T_kn tV)) :: zzO (aX 39) 1 [.ref (aX 40), .ref (aX 41), .ref (aX 42), .ref (aX 43)] :: zzI cy (aX 40) 8 fH :: zzI cy (aX 41) 8 fS :: zzI cy (aX 42) 8 fA :: zzJ cy (aX 43) 320 gE :: zzO (aX 44) 2 [.ref (aX 45), .int (nI kZ), .int iT1, .int iT2, .int iT3, .int iT4, .ref (aX 46)] :: zzB cy (aX 45) 250 fB :: zzO (aX 46) 3 [.int (nI (T_nb tD)), .int (nI (T_np tD)), .int (wb (T_wh tD)), .int (wb (T_gn tD)), .int (T_sd tD), .ref (aX 47), .ref (aX 48), .ref (aX 49), .ref (aX 50), .ref (aX 51), .ref (aX 52), .ref (aX 53), .ref (aX 54)] :: zzI cy (aX 47) 8 (T_wo tD) :: zzI cy (aX 48) 8 (T_ne tD) :: zzI cy (aX 49) 8 (T_go tD) :: zzI cy (aX 50) 8 (T_ag tD) :: zzI cy (aX 51) 8 (T_re tD) :: zzI cy (aX 52) 8 (T_me tD) :: zzI cy (aX 53) 8 (T_te tD) :: zzI cy (aX 54) 64 (shF (T_kn tD)) :: []) : va_W) ++ ((MK cy aM rR rB rO rK fMh fMo fMz gMv fMk fMa fMt kY fMr fM3 fMu fMy fMb eR tM iEn iTk uP uU kAt iTo iFr JFi iFa iSt iLv iWs wL uS0 uS1 uS2 uS3 uS4 iOm) ++ ((oM cy uU) ++ ((oL cy wL) ++ ((oM cy uP) ++ (oM cy uS0 ++ (oM cy uS1 ++ (oM cy uS2 ++ (oM cy uS3 ++ oM cy uS4))))))))) hP hD rfl
  clear hP hD
  obtain ⟨hP, hD⟩ := hPD
  refine cViQ (As := [.int (xs (kI + 1)), .int (xs (kI + 2))]) (rest := []) (b := (aX 0)) (q := (RX5, TX5, 9)) ⟨hx, hb, hml, hown, hts⟩ (p_X5_ones l G cy (H).size (aX 0) (aX 2) (aX 11) (aX 20) (aX 39) (aX 44) (aX 1) iKp iYe iTv fR (aX 40) (aX 41) (aX 42) (aX 43) fH fS gE tA (aX 3) (aX 4) (aX 5) (aX 6) (aX 7) (aX 8) (aX 9) (aX 10) (xs (kI + 1)) (xs (kI + 2)) hsX.1.1 hsX.1.2 hsX.2.2.2.1) L_L_58 hN hP hD hS hA (trueIxs [(true :: true :: false :: false :: false :: false :: false :: false :: false :: false :: false :: false :: false :: false :: false :: false :: false :: false :: false :: false :: false :: false :: false :: false :: false :: false :: false :: false :: false :: false :: false :: false :: false :: false :: false :: false :: false :: false :: false :: true :: true :: true :: false :: true :: []), [false, false, true, true, true, true, true, true, true, true, true]]) (false :: false :: false :: false :: false :: false :: false :: false :: false :: false :: false :: true :: true :: true :: true :: true :: true :: true :: true :: true :: true :: true :: true :: true :: true :: true :: true :: true :: true :: true :: true :: true :: true :: true :: true :: true :: true :: true :: true :: false :: false :: false :: true :: false :: true :: true :: true :: true :: true :: true :: true :: true :: true :: true :: true :: []) (sels_eq rfl rfl) (by decide +kernel) rfl 0 4 rfl rfl rfl ⟨Nat.le_of_ble_eq_true rfl, Nat.le_of_ble_eq_true rfl⟩ hl.1 (Nat.le_of_ble_eq_true rfl) (g_182 (v := 58) bL_law rfl) ⟨by show nC + 0 ≤ 600000; omega, by show nS + 0 ≤ 7302250; omega⟩ (fun r_1 u_3 H locs h_2 => ?_)
  clear hP hD hS
  intro hP hD hS
  obtain ⟨fX_4, tN_5, hu9, h_6, h_2⟩ := h_2
  have hPD := pd_eqQ (((_ :: _ :: _ :: _ :: _ :: _ :: _ :: _ :: _ :: _ :: _ :: _ :: _ :: _ :: _ :: _ :: _ :: _ :: _ :: _ :: _ :: _ :: _ :: _ :: _ :: _ :: _ :: _ :: _ :: _ :: _ :: _ :: _ :: _ :: _ :: _ :: _ :: _ :: _ :: _ :: _ :: zzI cy (aX 1) 5 fX_4 :: _ :: _ :: _ :: _ :: zzO (aX 2) 3 [.int (nI (T_nb tN_5)), .int (nI (T_np tN_5)), .int (wb (T_wh tN_5)), .int (wb (T_gn tN_5)), .int (T_sd tN_5), .ref (aX 3), .ref (aX 4), .ref (aX 5), .ref (aX 6), .ref (aX 7), .ref (aX 8), .ref (aX 9), .ref (aX 10)] :: zzI cy (aX 3) 8 (T_wo tN_5) :: zzI cy (aX 4) 8 (T_ne tN_5) :: zzI cy (aX 5) 8 (T_go tN_5) :: zzI cy (aX 6) 8 (T_ag tN_5) :: zzI cy (aX 7) 8 (T_re tN_5) :: zzI cy (aX 8) 8 (T_me tN_5) :: zzI cy (aX 9) 8 (T_te tN_5) :: zzI cy (aX 10) 64 (shF (T_kn tN_5)) :: []) : va_W) ++ ((MK cy aM rR rB rO rK fMh fMo fMz gMv fMk fMa fMt kY fMr fM3 fMu fMy fMb eR tM iEn iTk uP uU kAt iTo iFr JFi iFa iSt iLv iWs wL uS0 uS1 uS2 uS3 uS4 iOm) ++ ((oM cy uU) ++ ((oL cy wL) ++ ((oM cy uP) ++ (oM cy uS0 ++ (oM cy uS1 ++ (oM cy uS2 ++ (oM cy uS3 ++ oM cy uS4))))))))) hP hD hu9 rfl
  clear hP hD hu9
  obtain ⟨hP, hD⟩ := hPD
  have hPD := pt_as (XW cy aX iKp iYe iTv fX_4 tN_5 tB iL iBs tU tV fH fS fA gE kZ iT1 iT2 iT3 iT4 fB tD) (40 :: 41 :: 46 :: 47 :: 48 :: 49 :: 50 :: 51 :: 52 :: 53 :: 54 :: 0 :: 1 :: 2 :: 3 :: 4 :: 5 :: 6 :: 7 :: 8 :: 9 :: 10 :: 11 :: 12 :: 13 :: 14 :: 15 :: 16 :: 17 :: 18 :: 19 :: 20 :: 21 :: 22 :: 23 :: 24 :: 25 :: 26 :: 27 :: 42 :: 43 :: 44 :: 28 :: 45 :: 29 :: 30 :: 31 :: 32 :: 33 :: 34 :: 35 :: 36 :: 37 :: 38 :: 39 :: []) hP hD (by decide +kernel) rfl
  clear hP hD
  obtain ⟨hP, hD⟩ := hPD
  refine lv_pop hx hb (g_87 bL_law rfl) rfl ?_
  refine lv_aload_n hx hb (g_44 bL_law rfl) rfl (lv_at hl 1 rfl) ?_
  refine lv_aload_n hx hb (g_42 bL_law rfl) rfl (lv_at hl 3 rfl) ?_
  refine lv_iload_n hx hb (g_29 bL_law rfl) rfl (lv_at hl 0 rfl) ?_
  refine lv_iconst (v := 1) hx hb (g_4 bL_law rfl) (by decide +kernel) ?_
  refine lv_iadd hx hb (g_96 bL_law rfl) ?_
  refine lv_seti (v := nI (kI + 1)) (nI_add _ _) ?_
  refine va_sld hx hb hX hbl hbA hS (vp_in_nI (by omega) (by omega)) (g_46 bL_law rfl) ?_
  refine lv_seti (v := xs (kI + 1)) (congrArg xs (nI_clamp (by omega))) ?_
  refine lv_aload_n hx hb (g_42 bL_law rfl) rfl (lv_at hl 3 rfl) ?_
  refine lv_iload_n hx hb (g_29 bL_law rfl) rfl (lv_at hl 0 rfl) ?_
  refine lv_iconst (v := 2) hx hb (g_5 bL_law rfl) (by decide +kernel) ?_
  refine lv_iadd hx hb (g_96 bL_law rfl) ?_
  refine lv_seti (v := nI (kI + 2)) (nI_add _ _) ?_
  refine va_sld hx hb hX hbl hbA hS (vp_in_nI (by omega) (by omega)) (g_46 bL_law rfl) ?_
  refine lv_seti (v := xs (kI + 2)) (congrArg xs (nI_clamp (by omega))) ?_
  replace hP : va_P G CL ((MK cy aM rR rB rO rK fMh fMo fMz gMv fMk fMa fMt kY fMr fM3 fMu fMy fMb eR tM iEn iTk uP uU kAt iTo iFr JFi iFa iSt iLv iWs wL uS0 uS1 uS2 uS3 uS4 iOm) ++ (((oM cy uU) ++ ((oL cy wL) ++ ((oM cy uP) ++ (oM cy uS0 ++ (oM cy uS1 ++ (oM cy uS2 ++ (oM cy uS3 ++ oM cy uS4))))))) ++ (XW cy aX iKp iYe iTv fX_4 tN_5 tB iL iBs tU tV fH fS fA gE kZ iT1 iT2 iT3 iT4 fB tD))) H := toNP hP
  replace hD : va_D A ((MK cy aM rR rB rO rK fMh fMo fMz gMv fMk fMa fMt kY fMr fM3 fMu fMy fMb eR tM iEn iTk uP uU kAt iTo iFr JFi iFa iSt iLv iWs wL uS0 uS1 uS2 uS3 uS4 iOm) ++ (((oM cy uU) ++ ((oL cy wL) ++ ((oM cy uP) ++ (oM cy uS0 ++ (oM cy uS1 ++ (oM cy uS2 ++ (oM cy uS3 ++ oM cy uS4))))))) ++ (XW cy aX iKp iYe iTv fX_4 tN_5 tB iL iBs tU tV fH fS fA gE kZ iT1 iT2 iT3 iT4 fB tD))) := toND hD
  have hPD := pd_as (((zzO (aM 0) 5 (.ref (aM 1) :: .ref (aM 2) :: .ref (aM 3) :: .ref (aM 14) :: .ref (aM 4) :: .ref (aM 5) :: .ref (aM 6) :: .ref (aM 7) :: .int (nI kY) :: .ref (aM 8) :: .int (nI (T_nb tM)) :: .ref (aM 15) :: .int (nI (T_np tM)) :: .ref (aM 16) :: .ref (aM 17) :: .int iEn :: .int iTk :: .int (T_sd tM) :: ov uP :: ov uU :: .int (nI kAt) :: .int iTo :: .int iFr :: .long JFi :: .int iFa :: .ref (aM 9) :: .int iSt :: .int iLv :: .int iWs :: ovL wL :: .ref (aM 10) :: .ref (aM 11) :: .ref (aM 12) :: .ref (aM 13) :: .int iOm :: []) :: zzI cy (aM 1) 8 fMh :: zzI cy (aM 2) 8 fMo :: zzI cy (aM 3) 8 fMz :: zzJ cy (aM 4) 40 gMv :: zzI cy (aM 5) 8 fMk :: zzI cy (aM 6) 8 fMa :: zzI cy (aM 7) 250 fMt :: zzI cy (aM 8) 8 fMr :: zzI cy (aM 9) 3 fM3 :: zzI cy (aM 10) 8 fMu :: zzI cy (aM 11) 5 fMy :: zzI cy (aM 12) 5 fMb :: zzQ cy 5 (aM 13) 6 (sF (refU uS0) (refU uS1) (refU uS2) (refU uS3) (refU uS4)) :: zzG cy 4 (aM 14) rR :: zzJ cy (rR 0) 40 (eR 0) :: zzJ cy (rR 1) 40 (eR 1) :: zzJ cy (rR 2) 40 (eR 2) :: zzJ cy (rR 3) 40 (eR 3) :: zzJ cy (rR 4) 40 (eR 4) :: zzJ cy (rR 5) 40 (eR 5) :: zzJ cy (rR 6) 40 (eR 6) :: zzJ cy (rR 7) 40 (eR 7) :: zzG cy 3 (aM 15) rB :: zzI cy (rB 0) 4 (bkR tM 0) :: zzI cy (rB 1) 4 (bkR tM 1) :: zzI cy (rB 2) 4 (bkR tM 2) :: zzI cy (rB 3) 4 (bkR tM 3) :: zzI cy (rB 4) 4 (bkR tM 4) :: zzI cy (rB 5) 4 (bkR tM 5) :: zzI cy (rB 6) 4 (bkR tM 6) :: zzI cy (rB 7) 4 (bkR tM 7) :: zzG cy 3 (aM 16) rO :: zzI cy (rO 0) 5 (onR tM 0) :: zzI cy (rO 1) 5 (onR tM 1) :: zzI cy (rO 2) 5 (onR tM 2) :: zzI cy (rO 3) 5 (onR tM 3) :: zzI cy (rO 4) 5 (onR tM 4) :: zzI cy (rO 5) 5 (onR tM 5) :: zzI cy (rO 6) 5 (onR tM 6) :: zzI cy (rO 7) 5 (onR tM 7) :: zzG cy 3 (aM 17) rK :: zzI cy (rK 0) 8 (T_kn tM 0) :: zzI cy (rK 1) 8 (T_kn tM 1) :: zzI cy (rK 2) 8 (T_kn tM 2) :: zzI cy (rK 3) 8 (T_kn tM 3) :: zzI cy (rK 4) 8 (T_kn tM 4) :: zzI cy (rK 5) 8 (T_kn tM 5) :: zzI cy (rK 6) 8 (T_kn tM 6) :: zzI cy (rK 7) 8 (T_kn tM 7) :: []) : va_W) ++ (((oM cy uU) ++ ((oL cy wL) ++ ((oM cy uP) ++ (oM cy uS0 ++ (oM cy uS1 ++ (oM cy uS2 ++ (oM cy uS3 ++ oM cy uS4))))))) ++ (XW cy aX iKp iYe iTv fX_4 tN_5 tB iL iBs tU tV fH fS fA gE kZ iT1 iT2 iT3 iT4 fB tD))) hP hD rfl
  clear hP hD
  obtain ⟨hP, hD⟩ := hPD
  refine cViQ (As := [.int (xs (kI + 1)), .int (xs (kI + 2))]) (rest := []) (b := (aM 0)) (q := (RX6, TX6, 35)) ⟨hx, hb, hml, hown, hts⟩ (x_X6_ones l G cy (H).size (aM 0) (aM 1) (aM 2) (aM 3) (aM 14) (aM 4) (aM 5) (aM 6) (aM 7) kY (aM 8) tM (aM 15) (aM 16) (aM 17) iEn iTk uP uU kAt iTo iFr JFi iFa (aM 9) iSt iLv iWs (ovL wL) (aM 10) (aM 11) (aM 12) (aM 13) iOm fMh fMz rR eR rB rO rK fMr (xs (kI + 1)) (xs (kI + 2)) hsM.1.1.1 hsM.1.1.2 hsM.1 hsM.2.2.1 hLR.2.2.1) L_L_61 hN hP hD hS hA (trueIxs [(true :: true :: false :: true :: false :: false :: false :: false :: false :: false :: false :: false :: false :: false :: true :: true :: true :: true :: true :: true :: true :: true :: true :: true :: true :: true :: true :: true :: true :: true :: true :: true :: true :: true :: true :: true :: true :: true :: true :: true :: true :: true :: true :: true :: true :: true :: true :: true :: true :: true :: []), [false, false, false, false, false, false, false, false, true]]) (false :: false :: true :: false :: true :: true :: true :: true :: false :: true :: true :: true :: true :: true :: false :: false :: false :: false :: false :: false :: false :: false :: false :: false :: false :: false :: false :: false :: false :: false :: false :: false :: false :: false :: false :: false :: false :: false :: false :: false :: false :: false :: false :: false :: false :: false :: false :: false :: false :: false :: []) (sels_eq rfl rfl) (by decide +kernel) rfl 0 5 rfl rfl rfl ⟨Nat.le_of_ble_eq_true rfl, Nat.le_of_ble_eq_true rfl⟩ hl.1 (Nat.le_of_ble_eq_true rfl) (g_182 (v := 61) bL_law rfl) ⟨by show nC + 0 + 0 ≤ 600000; omega, by show nS + 0 + 0 ≤ 7302250; omega⟩ (fun r_7 u_9 H locs h_8 => ?_)
  clear hP hD hS
  intro hP hD hS
  obtain ⟨tN_10, fNr_11, hu9, h_12, h_8⟩ := h_8
  have hPD := pd_eqQ (((_ :: _ :: _ :: _ :: _ :: _ :: _ :: _ :: _ :: _ :: zzO (aM 0) 5 (.ref (aM 1) :: .ref (aM 2) :: .ref (aM 3) :: .ref (aM 14) :: .ref (aM 4) :: .ref (aM 5) :: .ref (aM 6) :: .ref (aM 7) :: .int (nI kY) :: .ref (aM 8) :: .int (nI (T_nb tN_10)) :: .ref (aM 15) :: .int (nI (T_np tN_10)) :: .ref (aM 16) :: .ref (aM 17) :: .int iEn :: .int iTk :: .int (T_sd tN_10) :: ov uP :: ov uU :: .int (nI kAt) :: .int iTo :: .int iFr :: .long JFi :: .int iFa :: .ref (aM 9) :: .int iSt :: .int iLv :: .int iWs :: ovL wL :: .ref (aM 10) :: .ref (aM 11) :: .ref (aM 12) :: .ref (aM 13) :: .int iOm :: []) :: _ :: _ :: _ :: _ :: _ :: _ :: _ :: _ :: _ :: _ :: _ :: _ :: zzI cy (rB 0) 4 (bkR tN_10 0) :: zzI cy (rB 1) 4 (bkR tN_10 1) :: zzI cy (rB 2) 4 (bkR tN_10 2) :: zzI cy (rB 3) 4 (bkR tN_10 3) :: zzI cy (rB 4) 4 (bkR tN_10 4) :: zzI cy (rB 5) 4 (bkR tN_10 5) :: zzI cy (rB 6) 4 (bkR tN_10 6) :: zzI cy (rB 7) 4 (bkR tN_10 7) :: _ :: zzI cy (rO 0) 5 (onR tN_10 0) :: zzI cy (rO 1) 5 (onR tN_10 1) :: zzI cy (rO 2) 5 (onR tN_10 2) :: zzI cy (rO 3) 5 (onR tN_10 3) :: zzI cy (rO 4) 5 (onR tN_10 4) :: zzI cy (rO 5) 5 (onR tN_10 5) :: zzI cy (rO 6) 5 (onR tN_10 6) :: zzI cy (rO 7) 5 (onR tN_10 7) :: _ :: zzI cy (rK 0) 8 (T_kn tN_10 0) :: zzI cy (rK 1) 8 (T_kn tN_10 1) :: zzI cy (rK 2) 8 (T_kn tN_10 2) :: zzI cy (rK 3) 8 (T_kn tN_10 3) :: zzI cy (rK 4) 8 (T_kn tN_10 4) :: zzI cy (rK 5) 8 (T_kn tN_10 5) :: zzI cy (rK 6) 8 (T_kn tN_10 6) :: zzI cy (rK 7) 8 (T_kn tN_10 7) :: zzI cy (aM 8) 8 fNr_11 :: []) : va_W) ++ (((oM cy uU) ++ ((oL cy wL) ++ ((oM cy uP) ++ (oM cy uS0 ++ (oM cy uS1 ++ (oM cy uS2 ++ (oM cy uS3 ++ oM cy uS4))))))) ++ (XW cy aX iKp iYe iTv fX_4 tN_5 tB iL iBs tU tV fH fS fA gE kZ iT1 iT2 iT3 iT4 fB tD))) hP hD hu9 rfl
  clear hP hD hu9
  obtain ⟨hP, hD⟩ := hPD
  have hPD := pt_as (MK cy aM rR rB rO rK fMh fMo fMz gMv fMk fMa fMt kY fNr_11 fM3 fMu fMy fMb eR tN_10 iEn iTk uP uU kAt iTo iFr JFi iFa iSt iLv iWs wL uS0 uS1 uS2 uS3 uS4 iOm) (10 :: 11 :: 0 :: 12 :: 1 :: 2 :: 3 :: 4 :: 49 :: 5 :: 6 :: 7 :: 8 :: 9 :: 13 :: 14 :: 15 :: 16 :: 17 :: 18 :: 19 :: 20 :: 21 :: 22 :: 23 :: 24 :: 25 :: 26 :: 27 :: 28 :: 29 :: 30 :: 31 :: 32 :: 33 :: 34 :: 35 :: 36 :: 37 :: 38 :: 39 :: 40 :: 41 :: 42 :: 43 :: 44 :: 45 :: 46 :: 47 :: 48 :: []) hP hD (by decide +kernel) rfl
  clear hP hD
  obtain ⟨hP, hD⟩ := hPD
  replace hP : va_P G CL ((XW cy aX iKp iYe iTv fX_4 tN_5 tB iL iBs tU tV fH fS fA gE kZ iT1 iT2 iT3 iT4 fB tD) ++ ((MK cy aM rR rB rO rK fMh fMo fMz gMv fMk fMa fMt kY fNr_11 fM3 fMu fMy fMb eR tN_10 iEn iTk uP uU kAt iTo iFr JFi iFa iSt iLv iWs wL uS0 uS1 uS2 uS3 uS4 iOm) ++ ((oM cy uU) ++ ((oL cy wL) ++ ((oM cy uP) ++ (oM cy uS0 ++ (oM cy uS1 ++ (oM cy uS2 ++ (oM cy uS3 ++ oM cy uS4))))))))) H := ofNP hP
  replace hD : va_D A ((XW cy aX iKp iYe iTv fX_4 tN_5 tB iL iBs tU tV fH fS fA gE kZ iT1 iT2 iT3 iT4 fB tD) ++ ((MK cy aM rR rB rO rK fMh fMo fMz gMv fMk fMa fMt kY fNr_11 fM3 fMu fMy fMb eR tN_10 iEn iTk uP uU kAt iTo iFr JFi iFa iSt iLv iWs wL uS0 uS1 uS2 uS3 uS4 iOm) ++ ((oM cy uU) ++ ((oL cy wL) ++ ((oM cy uP) ++ (oM cy uS0 ++ (oM cy uS1 ++ (oM cy uS2 ++ (oM cy uS3 ++ oM cy uS4))))))))) := ofND hD
  refine lv_pop hx hb (g_87 bL_law rfl) rfl ?_
  refine lv_goto (tgt := 1807) hx hb dL_law_671 (by decide +kernel) ?_
  refine W.widen (k := nC + 250) (n := nS + 4440) (by omega) (by omega) ?_
  exact kk _ _ (linv_mk hP hD (sx_t hsX (nb_ones hsX.1 h_6)) (sm_t hsM h_12.1.1) (⟨hLR.1, ⟨(ones_k hsX.2.2.2.1 hLR.1.2.2 hLR.2.1 h_6 h_12.2).2, h_12.1, hLR.2.2.2⟩⟩)) hS
end
