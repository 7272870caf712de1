/-! what the calls keep: sizes in range -/
abbrev NB8 (t : TA) : Prop := T_nb t ≤ 8 ∧ T_np t ≤ 8
theorem nb_book {t t' : TA} {a b r : Int32} (h : NB8 t) (q : PXbook t a b r t') : NB8 t' := by
  rcases q with ⟨-, -, rfl⟩ | ⟨-, -, -, -, rfl⟩ | ⟨-, -, -, h1, rfl⟩
  · exact h
  · exact h
  · exact ⟨h1, h.2⟩
theorem nb_one {t t' : TA} {a b c d r : Int32} (h : NB8 t) (q : PXone t a b c d r t') : NB8 t' := by
  rcases q with ⟨-, -, rfl⟩ | ⟨-, -, -, rfl⟩ | ⟨-, -, h1, rfl⟩
  · exact h
  · exact h
  · exact ⟨h.1, h1⟩
theorem nb_onG (e : Nat → Int64) : ∀ (n i : Nat) (t : TA) (c : Int32), NB8 t → NB8 (onG e n i t c).1 := by
  intro n
  induction n with
  | zero => intro i t c h; exact h
  | succ n ih =>
    intro i t c h
    by_cases h1 : T_np t < 8
    · by_cases h2 : Cbo (e i) (e (i + 1)) (e (i + 2)) (e (i + 3))
      · rw [on_go h1 h2]
        exact ih _ _ _ ⟨h.1, h1⟩
      · rw [on_2 h2]
        exact h
    · rw [on_1 h1]
      exact h
theorem nb_ones {f s : Nat → Int32} {e : Nat → Int64} {t t' : TA} {a n r : Int32} (h : NB8 t) (q : PXones f s e t a n r t') : NB8 t' := by
  rcases q with ⟨-, -, rfl⟩ | ⟨-, -, rfl⟩ | ⟨-, -, rfl⟩ | ⟨k, m, -, -, -, -, -, -, -, e1⟩
  · exact h
  · exact h
  · exact h
  · have := nb_onG (fun i => e (k * 40 + i)) m 0 t 0 h
    rw [← e1] at this
    exact this
theorem nb_alter {t t' : TA} {a b v r : Int32} (h : NB8 t) (q : PXalter t a b v r t') : NB8 t' := by
  rcases q with ⟨-, -, rfl⟩ | ⟨k, m, -, -, -, -, -, ⟨-, -, rfl⟩ | ⟨-, -, rfl⟩⟩ <;> exact h
theorem nb_read {t t' : TA} {a b r : Int32} (h : NB8 t) (q : PXread t a b r t') : NB8 t' := by
  rcases q with ⟨-, -, rfl⟩ | ⟨k, m, -, -, -, -, ⟨-, -, rfl⟩ | ⟨-, -, -, rfl⟩⟩
  · exact h
  · exact h
  · exact ⟨by rw [nb_rd]; exact h.1, by rw [np_rd]; exact h.2⟩
theorem nb_aloud {t t' : TA} {a b o r : Int32} (h : NB8 t) (q : PXaloud t a b o r t') : NB8 t' := by
  rcases q with ⟨-, -, rfl⟩ | ⟨k, m, -, -, -, -, -, ⟨-, -, rfl⟩ | ⟨-, -, -, rfl⟩⟩
  · exact h
  · exact h
  · exact ⟨by rw [nb_hf, nb_rd]; exact h.1, by rw [np_hf, np_rd]; exact h.2⟩
theorem nb_tell {t t' : TA} {a o b r : Int32} (h : NB8 t) (q : PXtell t a o b r t') : NB8 t' := by
  rcases q with ⟨-, -, rfl⟩ | ⟨k, j, m, -, -, -, -, -, -, -, ⟨-, -, rfl⟩ | ⟨-, -, -, rfl⟩⟩ <;> exact h
theorem nb_write {t t' : TA} {a b r : Int32} (h : NB8 t) (q : PXwrite t a b r t') : NB8 t' := by
  rcases q with ⟨-, -, rfl⟩ | ⟨k, m, -, -, -, -, ⟨-, -, rfl⟩ | ⟨-, -, -, -, rfl⟩⟩ <;> exact h
theorem nb_yrG (k a : Int32) : ∀ (n : Nat) (t : TA) (s : Int32), NB8 t → NB8 (yrG k a n t s).1 := by
  intro n
  induction n with
  | zero => intro t s h; exact h
  | succ n ih =>
    intro t s h
    refine ih _ _ ⟨?_, ?_⟩
    · rw [nb_ey, nb_dd, nb_za]; exact h.1
    · rw [np_ey, np_dd, np_za]; exact h.2
theorem nb_years {f am : Nat → Int32} {t t' : TA} {a n r : Int32} (h : NB8 t) (q : PXyears f am t a n r t') : NB8 t' := by
  rcases q with ⟨-, -, rfl⟩ | ⟨-, -, -, rfl⟩ | ⟨-, -, -, rfl⟩ | ⟨k, m, -, -, -, -, -, -, -, e1⟩
  · exact h
  · exact h
  · exact h
  · have := nb_yrG (f k - 10) (am k) m t 0 h
    rw [← e1] at this
    exact this
theorem nb_zey8 {t : TA} (h : NB8 t) : NB8 (zey t) := ⟨by rw [nb_ey]; exact h.1, by rw [np_ey]; exact h.2⟩
theorem sx_t {tA tB tD tN : TA} {fS : Nat → Int32} {kZ : Nat} (h : SX tA tB tD fS kZ) (q : NB8 tN) : SX tN tB tD fS kZ := ⟨q, h.2⟩
theorem sz_upd {f : Nat → Int32} {k n m : Nat} {v : Int32} (h : ∀ s, s < 8 → ∃ n : Nat, n ≤ m ∧ f s = nI n) (hn : n ≤ m) (hv : v = nI n) : ∀ s, s < 8 → ∃ n : Nat, n ≤ m ∧ upd f k v s = nI n := fun s hs => by
  show ∃ n : Nat, n ≤ m ∧ (if s = k then v else f s) = nI n
  by_cases e : s = k
  · rw [if_pos e]
    exact ⟨n, hn, hv⟩
  · rw [if_neg e]
    exact h s hs
theorem sx_row {tA tB tD : TA} {fH fS fY fZ : Nat → Int32} {gE gX : Nat → Int64} {kZ : Nat} {a b c r : Int32} (h : SX tA tB tD fS kZ) (q : PXrow fH fS gE a b c r fY fZ gX) : SX tA tB tD fZ kZ := by
  rcases q with ⟨-, -, -, rfl, -⟩ | ⟨-, k, n, -, h2, -, -, -, -, rfl, -⟩
  · exact h
  · exact ⟨h.1, h.2.1, h.2.2.1, sz_upd h.2.2.2.1 h2 rfl, h.2.2.2.2⟩
theorem fd_le {z z' : Nat} {n r : Int32} (h : z ≤ 250) (q : PXfeed z n r z') : z' ≤ 250 := by
  rcases q with ⟨-, -, rfl⟩ | ⟨k, -, -, -, ⟨-, -, rfl⟩ | ⟨-, h1, rfl⟩⟩
  · exact h
  · exact h
  · exact h1
theorem sx_z {tA tB tD : TA} {fS : Nat → Int32} {kZ kN : Nat} (h : SX tA tB tD fS kZ) (q : kN ≤ 250) : SX tA tB tD fS kN := ⟨h.1, h.2.1, h.2.2.1, h.2.2.2.1, q⟩
theorem sx_town {tA tB tD tN tO : TA} {fS : Nat → Int32} {kZ kN : Nat} (h : SX tA tB tD fS kZ) (q : T_nb tN ≤ 8 ∧ T_np tN ≤ 8 ∧ kN = 0 ∧ T_nb tO ≤ 8) : SX tN tB tO fS kN := ⟨⟨q.1, q.2.1⟩, h.2.1, q.2.2.2, h.2.2.2.1, by have := q.2.2.1; omega⟩
theorem sx_image {tA tB tD tN : TA} {fS : Nat → Int32} {kZ : Nat} (h : SX tA tB tD fS kZ) (q : tN = tA) : SX tA tN tD fS kZ := by
  subst q
  exact ⟨h.1, h.1, h.2.2⟩
theorem sx_back {tA tB tD tN : TA} {fS : Nat → Int32} {kZ : Nat} {i r : Int32} (h : SX tA tB tD fS kZ) (q : (i = 0 ∧ r = -5 ∧ tN = tA) ∨ (¬ i = 0 ∧ r = 1 ∧ tN = tB)) : SX tN tB tD fS kZ := by
  rcases q with ⟨-, -, rfl⟩ | ⟨-, -, rfl⟩
  · exact h
  · exact ⟨h.2.1, h.2⟩
theorem sm_row {tM : TA} {uP : UM} {h z a o h' o' z' : Nat → Int32} {e e' : Nat → Nat → Int64} {k : Nat} {x y c r : Int32} (q0 : SM tM uP z a k) (q : PMrow h o z e x y c r h' o' z' e') : SM tM uP z' a k := by
  rcases q with ⟨-, -, -, -, rfl, -⟩ | ⟨-, m, n, -, h2, -, -, -, -, -, rfl, -⟩
  · exact q0
  · exact ⟨q0.1, q0.2.1, sz_upd q0.2.2.1 h2 rfl, q0.2.2.2⟩
theorem sm_rule {tM : TA} {uP : UM} {h z a w h' w' a' : Nat → Int32} {k : Nat} {x y c r : Int32} (q0 : SM tM uP z a k) (q : PMrule h w a x y c r h' w' a') : SM tM uP z a' k := by
  rcases q with ⟨-, -, -, -, rfl⟩ | ⟨-, m, -, -, -, h5, -, -, rfl⟩
  · exact q0
  · obtain ⟨n, -, hn, rfl⟩ := iv_nI 0 99 (by decide) (by decide) h5
    exact ⟨q0.1, q0.2.1, q0.2.2.1, sz_upd q0.2.2.2.1 hn rfl, q0.2.2.2.2⟩
theorem sm_t {tM tN : TA} {uP : UM} {z a : Nat → Int32} {k : Nat} (q0 : SM tM uP z a k) (q : TI tN) : SM tN uP z a k := ⟨q, q0.2⟩
theorem sm_z {tM : TA} {uP : UM} {z a : Nat → Int32} {k n : Nat} (q0 : SM tM uP z a k) (q : n ≤ 250) : SM tM uP z a n := ⟨q0.1, q0.2.1, q0.2.2.1, q0.2.2.2.1, q⟩
theorem sm_town {tM tN : TA} {uP : UM} {z a : Nat → Int32} {k n : Nat} (q0 : SM tM uP z a k) (q : TI tN ∧ n = 0) : SM tN uP z a n := ⟨q.1, q0.2.1, q0.2.2.1, q0.2.2.2.1, by have := q.2; omega⟩
theorem sm_image {tM : TA} {uP uQ : UM} {z a : Nat → Int32} {k : Nat} {r : Int32} (q0 : SM tM uP z a k) (q : r = 1 ∧ isS uQ = true ∧ uT uQ = tM) : SM tM uQ z a k := ⟨q0.1, fun _ => by rw [q.2.2]; exact q0.1, q0.2.2⟩
theorem sm_back {tM tN : TA} {uP : UM} {z a : Nat → Int32} {k : Nat} {r : Int32} (q0 : SM tM uP z a k) (q : (isS uP = false ∧ r = -5 ∧ tN = tM) ∨ (isS uP = true ∧ r = 1 ∧ tN = uT uP)) : SM tN uP z a k := by
  rcases q with ⟨-, -, rfl⟩ | ⟨h1, -, rfl⟩
  · exact q0
  · exact ⟨q0.2.1 h1, q0.2⟩
theorem iv_n40 {n : Nat} (h : n ≤ 40) : Iv (nI n).toInt64 0 40 := ofI (m := 0) (n := 40) (by decide) (by decide) ⟨by rw [nI_toInt (by omega)]; omega, by rw [nI_toInt (by omega)]; omega⟩
theorem row_eq {h s h2 o z h' s' h2' o' z' : Nat → Int32} {e e' : Nat → Int64} {f f' : Nat → Nat → Int64} {a b c r r' : Int32} (q : PXrow h s e a b c r h' s' e') (q' : PMrow h2 o z f a b c r' h2' o' z' f') : r = r' := by
  rcases q with ⟨rfl, h1, -⟩ | ⟨rfl, k, n, h1, h2, rfl, rfl, h3, -⟩
  · rcases q' with ⟨rfl, -⟩ | ⟨-, k, n, g1, g2, rfl, rfl, g3, -⟩
    · rfl
    · exact absurd ⟨⟨k, g1, rfl⟩, g3, iv_n40 g2⟩ h1
  · rcases q' with ⟨-, g1, -⟩ | ⟨rfl, -⟩
    · exact absurd ⟨⟨k, h1, rfl⟩, h3, iv_n40 h2⟩ g1
    · rfl
