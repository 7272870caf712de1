/-! what the questions answer, the same on both sides -/
def PQ2 (t : TA) (f : Nat → Nat → Int32) (a b r : Int32) : Prop := (r = -2 ∧ ¬ Pr t a b) ∨ ∃ k m : Nat, k < T_np t ∧ m < T_nb t ∧ a = nI k ∧ b = nI m ∧ r = f k m
def PQ1 (n : Nat) (f : Nat → Int32) (a r : Int32) : Prop := (r = -2 ∧ ¬ ∃ k : Nat, k < n ∧ a = nI k) ∨ ∃ k : Nat, k < n ∧ a = nI k ∧ r = f k
def PQt (n : Nat) (f : Nat → Nat → Int32) (a b r : Int32) : Prop := (r = -2 ∧ ¬ ((∃ k : Nat, k < n ∧ a = nI k) ∧ ∃ k : Nat, k < n ∧ b = nI k)) ∨ ∃ k m : Nat, k < n ∧ m < n ∧ a = nI k ∧ b = nI m ∧ r = f k m
theorem pq2_eq {t t' : TA} {f f' : Nat → Nat → Int32} {a b r r' : Int32} (e : t = t') (hn : T_nb t' ≤ 8 ∧ T_np t' ≤ 8) (ef : f = f') (h1 : PQ2 t f a b r) (h2 : PQ2 t' f' a b r') : r = r' := by
  subst e
  subst ef
  rcases h1 with ⟨e1, c1⟩ | ⟨k, m, hk, hm, ek, em, e1⟩
  · rcases h2 with ⟨e2, c2⟩ | ⟨k, m, hk, hm, ek, em, e2⟩
    · exact e1.trans e2.symm
    · exact absurd ⟨⟨k, hk, ek⟩, ⟨m, hm, em⟩⟩ c1
  · rcases h2 with ⟨e2, c2⟩ | ⟨k', m', hk', hm', ek', em', e2⟩
    · exact absurd ⟨⟨k, hk, ek⟩, ⟨m, hm, em⟩⟩ c2
    · have q1 : k = k' := nI_inj (by omega) (by omega) (ek.symm.trans ek')
      have q2 : m = m' := nI_inj (by omega) (by omega) (em.symm.trans em')
      subst q1
      subst q2
      exact e1.trans e2.symm
theorem pqt_eq {n : Nat} {f f' : Nat → Nat → Int32} {a b r r' : Int32} (hn : n ≤ 8) (ef : f = f') (h1 : PQt n f a b r) (h2 : PQt n f' a b r') : r = r' := by
  subst ef
  rcases h1 with ⟨e1, c1⟩ | ⟨k, m, hk, hm, ek, em, e1⟩
  · rcases h2 with ⟨e2, c2⟩ | ⟨k, m, hk, hm, ek, em, e2⟩
    · exact e1.trans e2.symm
    · exact absurd ⟨⟨k, hk, ek⟩, ⟨m, hm, em⟩⟩ c1
  · rcases h2 with ⟨e2, c2⟩ | ⟨k', m', hk', hm', ek', em', e2⟩
    · exact absurd ⟨⟨k, hk, ek⟩, ⟨m, hm, em⟩⟩ c2
    · have q1 : k = k' := nI_inj (by omega) (by omega) (ek.symm.trans ek')
      have q2 : m = m' := nI_inj (by omega) (by omega) (em.symm.trans em')
      subst q1
      subst q2
      exact e1.trans e2.symm
theorem pq1_eq {n n' : Nat} {f f' : Nat → Int32} {a r r' : Int32} (e : n = n') (hn : n' ≤ 8) (ef : f = f') (h1 : PQ1 n f a r) (h2 : PQ1 n' f' a r') : r = r' := by
  subst e
  subst ef
  rcases h1 with ⟨e1, c1⟩ | ⟨k, hk, ek, e1⟩
  · rcases h2 with ⟨e2, c2⟩ | ⟨k, hk, ek, e2⟩
    · exact e1.trans e2.symm
    · exact absurd ⟨k, hk, ek⟩ c1
  · rcases h2 with ⟨e2, c2⟩ | ⟨k', hk', ek', e2⟩
    · exact absurd ⟨k, hk, ek⟩ c2
    · have q1 : k = k' := nI_inj (by omega) (by omega) (ek.symm.trans ek')
      subst q1
      exact e1.trans e2.symm
def wouF (t : TA) (k m : Nat) : Int32 := if T_wh t m = true ∨ T_gn t k = true then -5 else zwk t k m
theorem wou_5 {t : TA} {k m : Nat} (h : T_wh t m = true ∨ T_gn t k = true) : (-5 : Int32) = wouF t k m := (if_pos h).symm
theorem wou_n {t : TA} {k m : Nat} (h1 : T_wh t m = false) (h2 : T_gn t k = false) : zwk t k m = wouF t k m := (if_neg (fun q => q.elim (fun q => by rw [h1] at q; cases q) (fun q => by rw [h2] at q; cases q))).symm
def rdrF (t : TA) (m : Nat) : Int32 := if T_wh t m = true then -5 else zbr t m
theorem rdr_5 {t : TA} {m : Nat} (h : T_wh t m = true) : (-5 : Int32) = rdrF t m := (if_pos h).symm
theorem rdr_n {t : TA} {m : Nat} (h : T_wh t m = false) : zbr t m = rdrF t m := (if_neg (fun q => by rw [h] at q; cases q)).symm
def twF (t : TA) (k m : Nat) : Int32 := waF t (zthere t &&& (((1 : Int32) <<< (nI k &&& 31)) ||| ((1 : Int32) <<< (nI m &&& 31))))
theorem tw_m {t : TA} {k m : Nat} (h8 : T_np t ≤ 8) : mvo t (((1 : Int32) <<< (nI k &&& 31)) ||| ((1 : Int32) <<< (nI m &&& 31))) = twF t k m := by
  rw [mvo_waF h8, Int32.and_comm]
  rfl
def PQo (n : Nat) (f : Nat → Nat → Int32) (a b r : Int32) : Prop := (r = -2 ∧ ¬ ((∃ k : Nat, k < n ∧ a = nI k) ∧ Iv b.toInt64 0 4)) ∨ ∃ k j : Nat, k < n ∧ j < 5 ∧ a = nI k ∧ b = nI j ∧ r = f k j
theorem iv04_nI {j : Nat} (h : j < 5) : Iv (nI j).toInt64 0 4 := ofI (m := 0) (n := 4) (by decide) (by decide) ⟨by rw [nI_toInt (by omega)]; omega, by rw [nI_toInt (by omega)]; omega⟩
theorem pqo_eq {n n' : Nat} {f f' : Nat → Nat → Int32} {a b r r' : Int32} (e : n = n') (hn : n' ≤ 8) (ef : f = f') (h1 : PQo n f a b r) (h2 : PQo n' f' a b r') : r = r' := by
  subst e
  subst ef
  rcases h1 with ⟨e1, c1⟩ | ⟨k, m, hk, hm, ek, em, e1⟩
  · rcases h2 with ⟨e2, c2⟩ | ⟨k, m, hk, hm, ek, em, e2⟩
    · exact e1.trans e2.symm
    · exact absurd ⟨⟨k, hk, ek⟩, by rw [em]; exact iv04_nI hm⟩ c1
  · rcases h2 with ⟨e2, c2⟩ | ⟨k', m', hk', hm', ek', em', e2⟩
    · exact absurd ⟨⟨k, hk, ek⟩, by rw [em]; exact iv04_nI hm⟩ c2
    · have q1 : k = k' := nI_inj (by omega) (by omega) (ek.symm.trans ek')
      have q2 : m = m' := nI_inj (by omega) (by omega) (em.symm.trans em')
      subst q1
      subst q2
      exact e1.trans e2.symm
def ooF (t : TA) (k j : Nat) : Int32 := if j = 0 then T_ag t k else if j = 1 then T_re t k else if j = 2 then T_me t k else if j = 3 then T_te t k else if T_gn t k = true then 1 else 0
theorem oo_g1 {t : TA} {k : Nat} (h : T_gn t k = true) : (1 : Int32) = ooF t k 4 := (if_pos h).symm
theorem oo_g0 {t : TA} {k : Nat} (h : T_gn t k = false) : (0 : Int32) = ooF t k 4 := (if_neg (fun q => by rw [h] at q; cases q)).symm
/-! teach -/
def tchX (t : TA) (k m j : Nat) : Int32 := if j = k ∨ T_gn t j = true then 0 else zgt t k j m
def tchF (t : TA) (k m : Nat) : Nat → Int32 × Int32
  | 0 => (-1, 0)
  | j + 1 => if tchX t k m j ≤ (tchF t k m j).2 then tchF t k m j else (nI j, tchX t k m j)
section TCH
variable {t : TA} {k m j : Nat} {x y X : Int32}
theorem tch_no (hE : (x, y) = tchF t k m j) (hX : X = tchX t k m j) (c : X ≤ y) : (x, y) = tchF t k m (j + 1) := by
  subst hX
  show (x, y) = if tchX t k m j ≤ (tchF t k m j).2 then tchF t k m j else (nI j, tchX t k m j)
  rw [← hE, if_pos c]
theorem tch_go (hE : (x, y) = tchF t k m j) (hX : X = tchX t k m j) (c : ¬ X ≤ y) : (nI j, X) = tchF t k m (j + 1) := by
  subst hX
  show (nI j, tchX t k m j) = if tchX t k m j ≤ (tchF t k m j).2 then tchF t k m j else (nI j, tchX t k m j)
  rw [← hE, if_neg c]
theorem tch_e (hk : k < 8) (hj : j < 8) (h : nI j = nI k) : (0 : Int32) = tchX t k m j := (if_pos (Or.inl (nI_inj (by omega) (by omega) h))).symm
theorem tch_g (h : T_gn t j = true) : (0 : Int32) = tchX t k m j := (if_pos (Or.inr h)).symm
theorem tch_n (h : ¬ nI j = nI k) (g : T_gn t j = false) : zgt t k j m = tchX t k m j := (if_neg (fun q => q.elim (fun q => h (congrArg nI q)) (fun q => by rw [g] at q; cases q))).symm
end TCH
def tchA (t : TA) (k m : Nat) : Int32 := if T_gn t k = true then -5 else (tchF t k m (T_np t)).1
theorem tcA_5 {t : TA} {k m : Nat} (h : T_gn t k = true) : (-5 : Int32) = tchA t k m := (if_pos h).symm
theorem tcA_n {t : TA} {k m j : Nat} {x y : Int32} (h : T_gn t k = false) (e : j = T_np t) (hE : (x, y) = tchF t k m j) : x = tchA t k m := by
  unfold tchA
  rw [if_neg (fun q => by rw [h] at q; cases q), ← e, ← hE]
/-! hangs -/
def hgV (t : TA) (j : Nat) : Int32 := waF t (zthere t &&& (((1 : Int32) <<< (nI j &&& 31)) ^^^ -1))
def hgF (t : TA) : Nat → Int32 × Int32
  | 0 => (-1, 0)
  | j + 1 => if T_gn t j = true then hgF t j else if (hgF t j).1 = -1 ∨ hgV t j < (hgF t j).2 then (nI j, hgV t j) else hgF t j
section HG
variable {t : TA} {j : Nat} {x y X : Int32}
theorem hg_g (hE : (x, y) = hgF t j) (g : T_gn t j = true) : (x, y) = hgF t (j + 1) := by
  show (x, y) = if T_gn t j = true then hgF t j else if (hgF t j).1 = -1 ∨ hgV t j < (hgF t j).2 then (nI j, hgV t j) else hgF t j
  rw [if_pos g]; exact hE
theorem hg_y (hE : (x, y) = hgF t j) (g : T_gn t j = false) (hX : X = hgV t j) (c : x = -1 ∨ X < y) : (nI j, X) = hgF t (j + 1) := by
  subst hX
  show (nI j, hgV t j) = if T_gn t j = true then hgF t j else if (hgF t j).1 = -1 ∨ hgV t j < (hgF t j).2 then (nI j, hgV t j) else hgF t j
  rw [if_neg (fun q => by rw [g] at q; cases q), ← hE, if_pos c]
theorem hg_n (hE : (x, y) = hgF t j) (g : T_gn t j = false) (hX : X = hgV t j) (c1 : ¬ x = -1) (c2 : ¬ X < y) : (x, y) = hgF t (j + 1) := by
  subst hX
  show (x, y) = if T_gn t j = true then hgF t j else if (hgF t j).1 = -1 ∨ hgV t j < (hgF t j).2 then (nI j, hgV t j) else hgF t j
  rw [if_neg (fun q => by rw [g] at q; cases q), ← hE, if_neg (fun q => q.elim c1 c2)]
end HG
def hgA (t : TA) : Int32 := if (hgF t (T_np t)).1 = -1 then -5 else (hgF t (T_np t)).1
theorem hgA_5 {t : TA} {j : Nat} {x y : Int32} (e : j = T_np t) (hE : (x, y) = hgF t j) (c : x = -1) : (-5 : Int32) = hgA t := by
  unfold hgA; rw [← e, ← hE, if_pos c]
theorem hgA_n {t : TA} {j : Nat} {x y : Int32} (e : j = T_np t) (hE : (x, y) = hgF t j) (c : ¬ x = -1) : x = hgA t := by
  unfold hgA; rw [← e, ← hE, if_neg c]
theorem hg_m {t : TA} {j : Nat} (h8 : T_np t ≤ 8) : mvo t ((((1 : Int32) <<< (nI (T_np t) &&& 31)) - 1) &&& (((1 : Int32) <<< (nI j &&& 31)) ^^^ -1)) = hgV t j := by
  rw [mvo_waF h8, Int32.and_assoc, Int32.and_comm _ (zthere t), ← Int32.and_assoc, all_there h8]
  rfl
/-! lost -/
def lbF (t : TA) (v s : Int32) : Int32 := orF (fun b => decide (mgr t b s < v)) (T_nb t)
def u8 (a b c d e f g h : Bool) : Nat := a.toNat + 2 * b.toNat + 4 * c.toNat + 8 * d.toNat + 16 * e.toNat + 32 * f.toNat + 64 * g.toNat + 128 * h.toNat
theorem u8_b : ∀ a b c d e f g h : Bool, (u8 a b c d e f g h).testBit 0 = a ∧ (u8 a b c d e f g h).testBit 1 = b ∧ (u8 a b c d e f g h).testBit 2 = c ∧ (u8 a b c d e f g h).testBit 3 = d ∧ (u8 a b c d e f g h).testBit 4 = e ∧ (u8 a b c d e f g h).testBit 5 = f ∧ (u8 a b c d e f g h).testBit 6 = g ∧ (u8 a b c d e f g h).testBit 7 = h ∧ u8 a b c d e f g h < 256 := by decide +kernel
theorem ex_u (g : Nat → Bool) : ∃ u, u < 256 ∧ ∀ b, b < 8 → g b = u.testBit b := by
  obtain ⟨h0, h1, h2, h3, h4, h5, h6, h7, hl⟩ := u8_b (g 0) (g 1) (g 2) (g 3) (g 4) (g 5) (g 6) (g 7)
  refine ⟨_, hl, fun b hb => ?_⟩
  match b, hb with
  | 0, _ => exact h0.symm
  | 1, _ => exact h1.symm
  | 2, _ => exact h2.symm
  | 3, _ => exact h3.symm
  | 4, _ => exact h4.symm
  | 5, _ => exact h5.symm
  | 6, _ => exact h6.symm
  | 7, _ => exact h7.symm
  | b + 8, h => exact absurd h (by omega)
theorem or_cong {f g : Nat → Bool} : ∀ n, (∀ b, b < n → f b = g b) → orF f n = orF g n := by
  intro n
  induction n with
  | zero => intro _; rfl
  | succ n ih =>
    intro h
    unfold orF
    rw [ih (fun b hb => h b (by omega)), h n (by omega)]
theorem or_not_u : ∀ u, u < 256 → ∀ n, n < 9 → orF (fun b => !u.testBit b) n = (((1 : Int32) <<< (nI n &&& 31)) - 1) &&& (orF (fun b => u.testBit b) n ^^^ -1) := by decide +kernel
theorem or_not {g : Nat → Bool} {n : Nat} (hn : n ≤ 8) : orF (fun b => !g b) n = (((1 : Int32) <<< (nI n &&& 31)) - 1) &&& (orF g n ^^^ -1) := by
  obtain ⟨u, hu, e⟩ := ex_u g
  rw [or_cong (f := fun b => !g b) (g := fun b => !u.testBit b) n (fun b hb => by show (!g b) = !u.testBit b; rw [e b (by omega)]), or_cong (f := g) (g := fun b => u.testBit b) n (fun b hb => e b (by omega))]
  exact or_not_u u hu n (by omega)
def loF (t : TA) (v : Int32) : Int32 := orF (fun b => decide (mkn t b (zthere t) < v)) (T_nb t)
theorem lo_m {t : TA} {v : Int32} (h8 : T_np t ≤ 8) : lbF t v (((1 : Int32) <<< (nI (T_np t) &&& 31)) - 1) = loF t v := or_cong _ (fun b _ => by rw [mgr_mkn h8, all_there h8])
theorem lo_x {t : TA} {v : Int32} (h8 : T_nb t ≤ 8) : (((1 : Int32) <<< (nI (T_nb t) &&& 31)) - 1) &&& (bkn t (zthere t) v ^^^ -1) = loF t v := by
  unfold bkn
  rw [← or_not h8]
  refine or_cong _ (fun b _ => ?_)
  show (!decide (v ≤ mkn t b (zthere t))) = decide (mkn t b (zthere t) < v)
  by_cases c : v ≤ mkn t b (zthere t)
  · rw [decide_eq_true c, decide_eq_false (Int32.not_lt.mpr c)]; rfl
  · rw [decide_eq_false c, decide_eq_true (Int32.not_le.mp c)]; rfl
def PQv (f : Int32) (v r : Int32) : Prop := (r = -2 ∧ ¬ Iv v.toInt64 1 1000) ∨ (Iv v.toInt64 1 1000 ∧ r = f)
theorem pqv_eq {f f' v r r' : Int32} (ef : f = f') (h1 : PQv f v r) (h2 : PQv f' v r') : r = r' := by
  subst ef
  rcases h1 with ⟨e1, c1⟩ | ⟨c1, e1⟩
  · rcases h2 with ⟨e2, c2⟩ | ⟨c2, e2⟩
    · exact e1.trans e2.symm
    · exact absurd c2 c1
  · rcases h2 with ⟨e2, c2⟩ | ⟨c2, e2⟩
    · exact absurd c1 c2
    · exact e1.trans e2.symm
theorem lb_0 {t : TA} {v s x : Int32} {j : Nat} (hx : x = orF (fun b => decide (mgr t b s < v)) j) (c : v ≤ mgr t j s) : x ||| 0 = orF (fun b => decide (mgr t b s < v)) (j + 1) := by
  rw [Int32.or_zero, hx]
  exact (if_neg (fun q => absurd (of_decide_eq_true q) (Int32.not_lt.mpr c))).symm
theorem lb_1 {t : TA} {v s x : Int32} {j : Nat} (hx : x = orF (fun b => decide (mgr t b s < v)) j) (c : mgr t j s < v) : x ||| ((1 : Int32) <<< (nI j &&& 31)) = orF (fun b => decide (mgr t b s < v)) (j + 1) := by
  rw [hx]
  exact (if_pos (decide_eq_true c)).symm
theorem th_t {t : TA} {j : Nat} (h8 : T_np t ≤ 8) (hj : j < T_np t) (h : bitb (zthere t) j = true) : T_gn t j = false := by
  rw [bitb_th (by omega), decide_eq_true hj] at h
  cases q : T_gn t j with
  | true => rw [q] at h; cases h
  | false => rfl
theorem th_f {t : TA} {j : Nat} (h8 : T_np t ≤ 8) (hj : j < T_np t) (h : bitb (zthere t) j = false) : T_gn t j = true := by
  rw [bitb_th (by omega), decide_eq_true hj] at h
  cases q : T_gn t j with
  | true => rfl
  | false => rw [q] at h; cases h
theorem sw04_no {x : Int32} (h : x.toInt < 0 ∨ 4 < x.toInt) : ¬ Iv x.toInt64 0 4 := fun q => by
  obtain ⟨h1, h2⟩ := Iv_iff.mp q
  rw [Int64.le_iff_toInt_le, Int32.toInt_toInt64] at h1 h2
  have e1 : (0 : Int64).toInt = 0 := by decide
  have e2 : (4 : Int64).toInt = 4 := by decide
  rw [e1] at h1
  rw [e2] at h2
  omega
/-! nobody is there: nothing changes -/
theorem bitb0 (i : Nat) : bitb 0 i = false := by
  unfold bitb
  rw [Int32.zero_shiftRight, Int32.zero_and]
  rfl
theorem em_gn {t : TA} (h8 : T_np t ≤ 8) (h : zthere t = 0) {p : Nat} (hp : p < T_np t) : T_gn t p = true := by
  have q := bitb_th (t := t) (n := p) (by omega)
  rw [h, bitb0, decide_eq_true hp] at q
  cases e : T_gn t p with
  | true => rfl
  | false => rw [e] at q; cases q
theorem em_gA (k : Nat → Int32) : ∀ n, gA (bitb 0) k n = 0 := by
  intro n
  induction n with
  | zero => rfl
  | succ n ih =>
    show (if bitb 0 n = true then mx (gA (bitb 0) k n) (k n) else gA (bitb 0) k n) = 0
    rw [if_neg (by rw [bitb0]; decide), ih]
theorem em_ws {f : Nat → Int32} (h : ∀ b, f b = 0) : ∀ n, wsum f n = 0 := by
  intro n
  induction n with
  | zero => rfl
  | succ n ih =>
    show wsum f n + f n = 0
    rw [ih, h]; rfl
theorem em_val {t : TA} (h : zthere t = 0) : zval t = 0 := by
  unfold zval waF
  rw [h]
  exact em_ws (fun b => by show T_wo t b * mkn t b 0 = 0; rw [show mkn t b 0 = 0 from em_gA _ _, Int32.mul_zero]) _
theorem em_eyF (t : TA) : ∀ n, eyF 0 t n = t := by
  intro n
  induction n with
  | zero => rfl
  | succ n ih =>
    show (if bitb 0 n = true then eyS (eyF 0 t n) n else eyF 0 t n) = t
    rw [if_neg (by rw [bitb0]; decide), ih]
theorem em_ey {t : TA} (h : zthere t = 0) : zey t = t := by
  unfold zey
  rw [h]
  exact em_eyF t _
theorem em_brF {t : TA} {b : Nat} : ∀ n, (∀ p, p < n → T_gn t p = true) → brF t b n = (-1, 0) := by
  intro n
  induction n with
  | zero => intro _; rfl
  | succ n ih =>
    intro h
    rw [brF, if_neg (fun q => by rw [h n (by omega)] at q; exact absurd q.1 (by decide))]
    exact ih (fun p hp => h p (by omega))
theorem em_br {t : TA} {b : Nat} (h8 : T_np t ≤ 8) (h : zthere t = 0) : zbr t b = -1 := by
  unfold zbr
  rw [em_brF _ (fun p hp => em_gn h8 h hp)]
theorem em_rd {t : TA} {m l : Int32} (h8 : T_np t ≤ 8) (h : zthere t = 0) : zrd t m l = (t, 0) := by
  unfold zrd
  rw [rdG]
  split
  · rfl
  · split
    · rfl
    · rw [if_pos (em_br h8 h)]
theorem em_tc {t : TA} : ∀ n, (∀ p, p < n → T_gn t p = true) → tcF t n = t := by
  intro n
  induction n with
  | zero => intro _; rfl
  | succ n ih =>
    intro h
    show tcS (tcF t n) n = t
    rw [ih (fun p hp => h p (by omega)), tcS, if_pos (h n (by omega))]
theorem em_ch {t : TA} (h8 : T_np t ≤ 8) (h : zthere t = 0) : zch t = t := em_tc _ (fun p hp => em_gn h8 h hp)
theorem em_act {t : TA} {k a : Int32} (h8 : T_np t ≤ 8) (h : zthere t = 0) : (zact t k a).1 = t := by
  unfold zact
  rw [em_ch h8 h]
  split
  · rw [em_rd h8 h]
  · split
    · rw [em_rd h8 h]
    · split
      · rw [em_rd h8 h]
      · split
        · rfl
        · split
          · exact em_ch h8 h
          · split
            · rw [em_rd h8 h]
            · rfl
/-- years without a stop: the town, the last value, the sum -/
def gG (k a : Int32) : Nat → TA → Int32 → Int32 → TA × Int32 × Int32
  | 0, t, l, s => (t, l, s)
  | n + 1, t, l, s => gG k a n (zey (zact t k a).1) (zval (zact t k a).1) (s + zval (zact t k a).1)
theorem gG_em {k a : Int32} {t : TA} {s : Int32} (h8 : T_np t ≤ 8) (h : zthere t = 0) : ∀ n, gG k a n t 0 s = (t, 0, s) := by
  intro n
  induction n with
  | zero => rfl
  | succ n ih =>
    rw [gG, em_act h8 h, em_ey h, em_val h, Int32.add_zero]
    exact ih
theorem gG_sr {k a : Int32} : ∀ (n : Nat) (t : TA) (l s : Int32), T_np t ≤ 8 → gG k a n t l s = srG k a n t l s := by
  intro n
  induction n with
  | zero => intro t l s _; rfl
  | succ n ih =>
    intro t l s h8
    by_cases h : zthere t = 0
    · rw [sr_0 h, gG, em_act h8 h, em_ey h, em_val h, Int32.add_zero]
      exact gG_em h8 h n
    · rw [sr_go h, gG]
      exact ih _ _ _ (by rw [(zey_nb _).2, (zact_nb _ _ _).2]; exact h8)
theorem act_m1 {t : TA} {a : Int32} : (zact t (-1) a).1 = t := rfl
theorem gG_so {a : Int32} : ∀ (n : Nat) (t : TA) (l s : Int32), T_np t ≤ 8 → (gG (-1) a n t l s).1 = (soG n t s).1 ∧ (gG (-1) a n t l s).2.2 = (soG n t s).2 := by
  intro n
  induction n with
  | zero => intro t l s _; exact ⟨rfl, rfl⟩
  | succ n ih =>
    intro t l s h8
    by_cases h : zthere t = 0
    · rw [so_0 h, gG, act_m1, em_ey h, em_val h, Int32.add_zero, gG_em h8 h n]
      exact ⟨rfl, rfl⟩
    · rw [so_go h, gG, act_m1]
      exact ih _ _ _ (by rw [(zey_nb _).2]; exact h8)
theorem gg_st {k a l s v : Int32} {n : Nat} {t t1 : TA} {R : TA × Int32 × Int32} (h : gG k a (n + 1) t l s = R) (ht : t1 = zey (zact t k a).1) (hv : v = zval (zact t k a).1) : gG k a n t1 v (s + v) = R := by
  subst ht
  subst hv
  exact h
/-! a rule on a shelf, and what is asked of it -/
def PXk (h : Nat → Int32) (a : Int32) (P : Prop) (v2 v3 v4 : Int32) (F : Nat → Int32) (r : Int32) : Prop := (r = v2 ∧ ¬ (Sh a ∧ P)) ∨ (r = v3 ∧ P ∧ ∃ k : Nat, k < 8 ∧ a = nI k ∧ Rw (h k)) ∨ (r = v4 ∧ P ∧ ∃ k : Nat, k < 8 ∧ a = nI k ∧ ¬ Rw (h k) ∧ ¬ 10 ≤ h k) ∨ ∃ k : Nat, k < 8 ∧ a = nI k ∧ ¬ Rw (h k) ∧ 10 ≤ h k ∧ P ∧ r = F k
def PMk (h : Nat → Int32) (a : Int32) (P : Prop) (v2 v3 v4 : Int32) (F : Nat → Int32) (r : Int32) : Prop := (r = v2 ∧ ¬ (Sh a ∧ P)) ∨ (r = v3 ∧ P ∧ ∃ k : Nat, k < 8 ∧ a = nI k ∧ h k = 1) ∨ (r = v4 ∧ P ∧ ∃ k : Nat, k < 8 ∧ a = nI k ∧ ¬ h k = 1 ∧ h k = 0) ∨ ∃ k : Nat, k < 8 ∧ a = nI k ∧ ¬ h k = 1 ∧ ¬ h k = 0 ∧ P ∧ r = F k
theorem gG_l {k a : Int32} {n : Nat} {t : TA} {l s : Int32} (h : 1 ≤ n) : gG k a n t l s = gG k a n t 0 s := by
  cases n with
  | zero => omega
  | succ n => rfl
theorem sr_l {k a : Int32} {n : Nat} {t : TA} {l s : Int32} (h : 1 ≤ n) : srG k a n t l s = srG k a n t 0 s := by
  cases n with
  | zero => omega
  | succ n =>
    by_cases q : zthere t = 0
    · rw [sr_0 q, sr_0 q]
    · rw [sr_go q, sr_go q]
theorem zbc_8 : ∀ a b c d e f g h : Bool, zbc (wb8 a b c d e f g h) = 0 + b01 a + b01 b + b01 c + b01 d + b01 e + b01 f + b01 g + b01 h := by decide +kernel
theorem zbc_wb (f : Nat → Bool) : zbc (wb f) = wsum (fun b => b01 (f b)) 8 := zbc_8 _ _ _ _ _ _ _ _
theorem ws_more {f : Nat → Int32} : ∀ d n, (∀ b, n ≤ b → b < n + d → f b = 0) → wsum f (n + d) = wsum f n := by
  intro d
  induction d with
  | zero => intro n _; rfl
  | succ d ih =>
    intro n h
    show wsum f (n + d) + f (n + d) = wsum f n
    rw [ih n (fun b h1 h2 => h b h1 (by omega)), h (n + d) (by omega) (by omega), Int32.add_zero]
theorem wh_many {t : TA} (h : WI t) : wsum (fun b => b01 (T_wh t b)) (T_nb t) = zbc (wb (T_wh t)) := by
  have h8 := h.1.1.1
  rw [zbc_wb, show (8 : Nat) = T_nb t + (8 - T_nb t) by omega]
  exact (ws_more _ _ (fun b h1 h2 => by rw [h.2.1.2.1 b (by omega) h1]; rfl)).symm
theorem th_sum {t : TA} : ∀ n, n ≤ T_np t → T_np t ≤ 8 → wsum (fun p => b01 (decide (p < T_np t) && !T_gn t p)) n = nI (tmF t n) := by
  intro n
  induction n with
  | zero => intro _ _; rfl
  | succ n ih =>
    intro h1 h2
    show wsum (fun p => b01 (decide (p < T_np t) && !T_gn t p)) n + b01 (decide (n < T_np t) && !T_gn t n) = nI (tmF t (n + 1))
    rw [ih (by omega) h2, decide_eq_true (show n < T_np t by omega)]
    cases q : T_gn t n with
    | true => rw [tm_n q]; exact Int32.add_zero _
    | false => rw [tm_y q]; exact nI_add _ 1
theorem th_many {t : TA} (h8 : T_np t ≤ 8) : nI (tmF t (T_np t)) = zbc (zthere t) := by
  unfold zthere
  rw [zbc_wb, ← th_sum _ (Nat.le_refl _) h8, show (8 : Nat) = T_np t + (8 - T_np t) by omega]
  exact (ws_more _ _ (fun b h1 h2 => by rw [decide_eq_false (show ¬ b < T_np t by omega)]; rfl)).symm
def rnF (R : TA × Int32 × Int32) (w : Int32) : Int32 := if w = 0 then R.2.2 else if w = 1 then R.2.1 else if w = 2 then zbc (wb (T_wh R.1)) else zbc (zthere R.1)
theorem rn_3 {R : TA × Int32 × Int32} {w : Int32} (h : w.toInt < 0 ∨ 2 < w.toInt) : zbc (zthere R.1) = rnF R w := by
  unfold rnF
  rw [if_neg (fun q => by rw [q] at h; exact absurd h (by decide)), if_neg (fun q => by rw [q] at h; exact absurd h (by decide)), if_neg (fun q => by rw [q] at h; exact absurd h (by decide))]
def rnK (q a : Int32) (t : TA) (n w : Int32) : Int32 := rnF (srG q a n.toNatClampNeg t 0 0) w
def gnK (q a : Int32) (t : TA) (n : Int32) : Int32 := (srG q a n.toNatClampNeg t 0 0).2.2 - (soG n.toNatClampNeg t 0).2
section RN
variable {q a r0 r1 x y l w : Int32} {t tX tY : TA} {m : Nat}
theorem rn_e0 (hm : m ≤ 60) (h1 : (tX, x, r0) = srG q a m t 0 0) : r0 = rnK q a t (nI m) 0 := by
  unfold rnK; rw [nI_clamp (by omega), ← h1]; rfl
theorem rn_e1 (hm : m ≤ 60) (h1 : (tX, x, r0) = srG q a m t 0 0) : x = rnK q a t (nI m) 1 := by
  unfold rnK; rw [nI_clamp (by omega), ← h1]; rfl
theorem rn_e2 (hm : m ≤ 60) (W : WI tX) (h1 : (tX, x, r0) = srG q a m t 0 0) : wsum (fun b => b01 (T_wh tX b)) (T_nb tX) = rnK q a t (nI m) 2 := by
  unfold rnK; rw [nI_clamp (by omega), ← h1, wh_many W]; rfl
theorem rn_e3 (hm : m ≤ 60) (W : WI tX) (h : w.toInt < 0 ∨ 2 < w.toInt) (h1 : (tX, x, r0) = srG q a m t 0 0) : nI (tmF tX (T_np tX)) = rnK q a t (nI m) w := by
  unfold rnK; rw [nI_clamp (by omega), ← h1, th_many W.1.1.2]; exact rn_3 (R := (tX, x, r0)) h
theorem gn_e (hm : m ≤ 60) (h8 : T_np t ≤ 8) (h1 : (tX, x, r0) = srG q a m t 0 0) (h2 : (tY, y, r1) = gG (-1) 0 m t l 0) : r0 - r1 = gnK q a t (nI m) := by
  unfold gnK; rw [nI_clamp (by omega), ← h1, ← (gG_so (a := 0) m t l 0 h8).2, ← h2]
theorem rx_0 (h : 1 ≤ m) (hm : m ≤ 60) : (srG q a m t l 0).2.2 = rnK q a t (nI m) 0 := by
  unfold rnK; rw [nI_clamp (by omega), sr_l h]; rfl
theorem rx_1 (h : 1 ≤ m) (hm : m ≤ 60) : (srG q a m t l 0).2.1 = rnK q a t (nI m) 1 := by
  unfold rnK; rw [nI_clamp (by omega), sr_l h]; rfl
theorem rx_2 (h : 1 ≤ m) (hm : m ≤ 60) : zbc (wb (T_wh (srG q a m t l 0).1)) = rnK q a t (nI m) 2 := by
  unfold rnK; rw [nI_clamp (by omega), sr_l h]; rfl
theorem rx_3 (h : 1 ≤ m) (hm : m ≤ 60) (hw : w.toInt < 0 ∨ 2 < w.toInt) : zbc (zthere (srG q a m t l 0).1) = rnK q a t (nI m) w := by
  unfold rnK; rw [nI_clamp (by omega), sr_l h]; exact rn_3 hw
theorem gx_e (h : 1 ≤ m) (hm : m ≤ 60) : (srG q a m t l 0).2.2 - (soG m t 0).2 = gnK q a t (nI m) := by
  unfold gnK; rw [nI_clamp (by omega), sr_l h]
end RN
/-! sets below 256 as numbers; ends: how many go -/
theorem nI_and (a b : Nat) : nI a &&& nI b = nI (a &&& b) := by
  apply Int32.toBitVec_inj.mp
  exact BitVec.ofNat_and.symm
theorem wb_u : ∀ u, u < 256 → wb (fun b => u.testBit b) = nI u := by decide +kernel
theorem wb_ex (f : Nat → Bool) : ∃ u, u < 256 ∧ (∀ b, b < 8 → f b = u.testBit b) ∧ wb f = nI u := by
  obtain ⟨u, hu, e⟩ := ex_u f
  refine ⟨u, hu, e, ?_⟩
  rw [← wb_u u hu]
  unfold wb
  rw [e 0 (by omega), e 1 (by omega), e 2 (by omega), e 3 (by omega), e 4 (by omega), e 5 (by omega), e 6 (by omega), e 7 (by omega)]
theorem wb_and (f g : Nat → Bool) : wb f &&& wb g = wb (fun b => f b && g b) := by
  obtain ⟨u, hu, e, E⟩ := wb_ex f
  obtain ⟨v, hv, e', E'⟩ := wb_ex g
  have hl : u &&& v < 256 := Nat.lt_of_le_of_lt Nat.and_le_left hu
  rw [E, E', nI_and, ← wb_u _ hl]
  unfold wb
  have q : ∀ b, b < 8 → (u &&& v).testBit b = (f b && g b) := fun b hb => by rw [Nat.testBit_and, e b hb, e' b hb]
  show wb8 ((u &&& v).testBit 0) ((u &&& v).testBit 1) ((u &&& v).testBit 2) ((u &&& v).testBit 3) ((u &&& v).testBit 4) ((u &&& v).testBit 5) ((u &&& v).testBit 6) ((u &&& v).testBit 7) = wb8 (f 0 && g 0) (f 1 && g 1) (f 2 && g 2) (f 3 && g 3) (f 4 && g 4) (f 5 && g 5) (f 6 && g 6) (f 7 && g 7)
  rw [q 0 (by omega), q 1 (by omega), q 2 (by omega), q 3 (by omega), q 4 (by omega), q 5 (by omega), q 6 (by omega), q 7 (by omega)]
def egB (t : TA) (p : Nat) : Bool := !T_gn t p && decide (T_ag t p + 1 = 10)
def enA (t : TA) : Int32 := wsum (fun p => b01 (egB t p)) (T_np t)
section EN
variable {tA tJ : TA} {j : Nat} {x : Int32}
theorem en_off (hE : tJ = eyF (zthere tA) tA j) (hg : T_gn tJ j = true) (hx : x = wsum (fun p => b01 (egB tA p)) j) : x = wsum (fun p => b01 (egB tA p)) (j + 1) := by
  subst hE
  rw [(ey_far _ _ j j (Nat.le_refl _)).1] at hg
  show x = wsum (fun p => b01 (egB tA p)) j + b01 (egB tA j)
  rw [← hx]
  unfold egB
  rw [hg]
  exact (Int32.add_zero x).symm
theorem en_die (hE : tJ = eyF (zthere tA) tA j) (hg : T_gn tJ j = false) (hc : T_ag tJ j + 1 = 10) (hx : x = wsum (fun p => b01 (egB tA p)) j) : x + 1 = wsum (fun p => b01 (egB tA p)) (j + 1) := by
  subst hE
  rw [(ey_far _ _ j j (Nat.le_refl _)).1] at hg
  rw [(ey_far _ _ j j (Nat.le_refl _)).2] at hc
  show x + 1 = wsum (fun p => b01 (egB tA p)) j + b01 (egB tA j)
  rw [← hx]
  unfold egB
  rw [hg, decide_eq_true hc]
  rfl
theorem en_live (hE : tJ = eyF (zthere tA) tA j) (hg : T_gn tJ j = false) (hc : ¬ T_ag tJ j + 1 = 10) (hx : x = wsum (fun p => b01 (egB tA p)) j) : x + 0 = wsum (fun p => b01 (egB tA p)) (j + 1) := by
  subst hE
  rw [(ey_far _ _ j j (Nat.le_refl _)).1] at hg
  rw [(ey_far _ _ j j (Nat.le_refl _)).2] at hc
  show x + 0 = wsum (fun p => b01 (egB tA p)) j + b01 (egB tA j)
  rw [← hx]
  unfold egB
  rw [hg, decide_eq_false hc]
  rfl
end EN
theorem ey_gn (th : Int32) (t : TA) : ∀ n p, p < n → T_gn (eyF th t n) p = (T_gn t p || (bitb th p && decide (9 < T_ag t p + 1))) := by
  intro n
  induction n with
  | zero => intro p h; omega
  | succ n ih =>
    intro p hp
    cases hb : bitb th n with
    | false =>
      rw [ey_no hb]
      by_cases e : p = n
      · subst e
        rw [(ey_far th t p p (Nat.le_refl _)).1, hb, Bool.false_and, Bool.or_false]
      · exact ih p (by omega)
    | true =>
      rw [ey_on hb]
      show (if 9 < T_ag (eyF th t n) n + 1 then updB (T_gn (eyF th t n)) n true else T_gn (eyF th t n)) p = _
      by_cases e : p = n
      · subst e
        rw [(ey_far th t p p (Nat.le_refl _)).2]
        by_cases c : 9 < T_ag t p + 1
        · rw [if_pos c, hb, decide_eq_true c, Bool.true_and, Bool.or_true]
          exact updB_s
        · rw [if_neg c, (ey_far th t p p (Nat.le_refl _)).1, decide_eq_false c, Bool.and_false, Bool.or_false]
      · have i := ih p (by omega)
        by_cases c : 9 < T_ag (eyF th t n) n + 1
        · rw [if_pos c]
          show (if p = n then true else T_gn (eyF th t n) p) = _
          rw [if_neg e]
          exact i
        · rw [if_neg c]
          exact i
theorem ag_10 {x : Int32} (h : R0 9 x) : (9 < x + 1) ↔ x + 1 = 10 := by
  obtain ⟨a, ha, rfl⟩ := h
  have : ∀ a, a < 10 → ((9 : Int32) < nI a + 1 ↔ nI a + 1 = 10) := by decide +kernel
  exact this a (by omega)
theorem en_x {t : TA} (h8 : T_np t ≤ 8) (hA : AI t) : zbc (zthere t &&& wb (T_gn (zey t))) = enA t := by
  unfold zthere
  rw [wb_and, zbc_wb, show (8 : Nat) = T_np t + (8 - T_np t) by omega, ws_more (8 - T_np t) (T_np t) (fun b h1 _ => by rw [decide_eq_false (show ¬ b < T_np t by omega)]; rfl)]
  refine ws_cong _ (fun p hp => congrArg b01 ?_)
  show (decide (p < T_np t) && !T_gn t p && T_gn (zey t) p) = (!T_gn t p && decide (T_ag t p + 1 = 10))
  have e : T_gn (zey t) p = (T_gn t p || (bitb (zthere t) p && decide (9 < T_ag t p + 1))) := ey_gn _ _ _ p hp
  rw [e, bitb_th (by omega), decide_eq_true hp]
  cases g : T_gn t p with
  | true => rfl
  | false =>
    have q := ag_10 (hA p hp g)
    show decide (9 < T_ag t p + 1) = decide (T_ag t p + 1 = 10)
    exact decide_eq_decide.mpr q
/-! says: what a rule says, taken for one of a kind -/
def mun (k a : Int32) : Bool := decide (a = 0) || (decide (k = a) || ((decide (a = 1) && decide (k ≤ 3)) || (decide (a = 4) && decide (4 ≤ k))))
theorem mun_zun {k a : Int32} (hk : Iv k.toInt64 1 6) (ha : Iv a.toInt64 0 6) : mun k a = zun k a := by
  obtain ⟨m, h1, h2, rfl⟩ := iv_nI 1 6 (by decide) (by decide) hk
  obtain ⟨n, h3, h4, rfl⟩ := iv_nI 0 6 (by decide) (by decide) ha
  have : ∀ m, m < 7 → 1 ≤ m → ∀ n, n < 7 → mun (nI m) (nI n) = zun (nI m) (nI n) := by decide +kernel
  exact this m (by omega) (by omega) n (by omega)
def sayF (q a : Int32) (t : TA) (b : Int32) : Int32 := if b = 0 then a else if b ≤ 3 then (zact t q a).2 else zval (zact t q a).1
section SY
variable {q a b : Int32} {t : TA}
theorem sy_0 (h : b = 0) : a = sayF q a t b := (if_pos h).symm
theorem sy_c (h : ¬ b = 0) (h3 : b ≤ 3) : (zact t q a).2 = sayF q a t b := by unfold sayF; rw [if_neg h, if_pos h3]
theorem sy_v (h : ¬ b = 0) (h3 : ¬ b ≤ 3) : zval (zact t q a).1 = sayF q a t b := by unfold sayF; rw [if_neg h, if_neg h3]
end SY
def PXs (h : Nat → Int32) (a b : Int32) (F : Nat → Int32) (r : Int32) : Prop := (r = -2 ∧ ¬ (Sh a ∧ Iv b.toInt64 0 6)) ∨ (r = -3 ∧ Iv b.toInt64 0 6 ∧ ∃ k : Nat, k < 8 ∧ a = nI k ∧ (Rw (h k) ∨ (10 ≤ h k ∧ zun (h k - 10) b = false))) ∨ (r = -4 ∧ Iv b.toInt64 0 6 ∧ ∃ k : Nat, k < 8 ∧ a = nI k ∧ ¬ Rw (h k) ∧ ¬ 10 ≤ h k) ∨ ∃ k : Nat, k < 8 ∧ a = nI k ∧ 10 ≤ h k ∧ Iv b.toInt64 0 6 ∧ zun (h k - 10) b = true ∧ r = F k
def PMs (h q : Nat → Int32) (a b : Int32) (F : Nat → Int32) (r : Int32) : Prop := (r = -2 ∧ ¬ (Sh a ∧ Iv b.toInt64 0 6)) ∨ (r = -3 ∧ Iv b.toInt64 0 6 ∧ ∃ k : Nat, k < 8 ∧ a = nI k ∧ (h k = 1 ∨ (h k = 2 ∧ mun (q k) b = false))) ∨ (r = -4 ∧ Iv b.toInt64 0 6 ∧ ∃ k : Nat, k < 8 ∧ a = nI k ∧ h k = 0) ∨ ∃ k : Nat, k < 8 ∧ a = nI k ∧ h k = 2 ∧ Iv b.toInt64 0 6 ∧ mun (q k) b = true ∧ r = F k
set_option maxHeartbeats 4000000 in
set_option maxRecDepth 100000 in
theorem x_X6_endn (l : Launch) (G : va_G) (cy : Nat → ClassId) (sz : Nat) (qm : Nat) (v0 : Value) (v1 : Value) (v2 : Value) (v3 : Value) (v4 : Value) (v5 : Value) (v6 : Value) (v7 : Value) (v8 : Value) (v9 : Value) (tA : TA) (qmB : Nat) (qmO : Nat) (qmK : Nat) (iEn : Int32) (iTk : Int32) (v18 : Value) (v19 : Value) (v20 : Value) (v21 : Value) (v22 : Value) (v23 : Value) (v24 : Value) (v25 : Value) (v26 : Value) (iLv : Int32) (iWs : Int32) (v29 : Value) (v30 : Value) (v31 : Value) (v32 : Value) (v33 : Value) (v34 : Value) (rB : Nat → Nat) (rO : Nat → Nat) (rK : Nat → Nat)  (hB : T_nb tA ≤ 8) (hPp : T_np tA ≤ 8) (hTI : TI tA) (hAG : AI tA) : MW l yX6_end cX6_end 5 (some .int) 2 0 0 G cy [zzO qm 5 [v0, v1, v2, v3, v4, v5, v6, v7, v8, v9, .int (nI (T_nb tA)), .ref qmB, .int (nI (T_np tA)), .ref qmO, .ref qmK, .int iEn, .int iTk, .int (T_sd tA), v18, v19, v20, v21, v22, v23, v24, v25, v26, .int iLv, .int iWs, v29, v30, v31, v32, v33, v34], zzG cy 3 qmB rB, zzI cy (rB 0) 4 (bkR tA 0), zzI cy (rB 1) 4 (bkR tA 1), zzI cy (rB 2) 4 (bkR tA 2), zzI cy (rB 3) 4 (bkR tA 3), zzI cy (rB 4) 4 (bkR tA 4), zzI cy (rB 5) 4 (bkR tA 5), zzI cy (rB 6) 4 (bkR tA 6), zzI cy (rB 7) 4 (bkR tA 7), zzG cy 3 qmO rO, zzI cy (rO 0) 5 (onR tA 0), zzI cy (rO 1) 5 (onR tA 1), zzI cy (rO 2) 5 (onR tA 2), zzI cy (rO 3) 5 (onR tA 3), zzI cy (rO 4) 5 (onR tA 4), zzI cy (rO 5) 5 (onR tA 5), zzI cy (rO 6) 5 (onR tA 6), zzI cy (rO 7) 5 (onR tA 7), zzG cy 3 qmK rK, zzI cy (rK 0) 8 (T_kn tA 0), zzI cy (rK 1) 8 (T_kn tA 1), zzI cy (rK 2) 8 (T_kn tA 2), zzI cy (rK 3) 8 (T_kn tA 3), zzI cy (rK 4) 8 (T_kn tA 4), zzI cy (rK 5) 8 (T_kn tA 5), zzI cy (rK 6) 8 (T_kn tA 6), zzI cy (rK 7) 8 (T_kn tA 7)] sz [.ref qm] (Wi G (fun r u => ∃ (tX : TA) (iX : Int32), u = [zzO qm 5 [v0, v1, v2, v3, v4, v5, v6, v7, v8, v9, .int (nI (T_nb tX)), .ref qmB, .int (nI (T_np tX)), .ref qmO, .ref qmK, .int iX, .int iTk, .int (T_sd tX), v18, v19, v20, v21, v22, v23, v24, v25, v26, .int iLv, .int iWs, v29, v30, v31, v32, v33, v34], zzG cy 3 qmB rB, zzI cy (rB 0) 4 (bkR tX 0), zzI cy (rB 1) 4 (bkR tX 1), zzI cy (rB 2) 4 (bkR tX 2), zzI cy (rB 3) 4 (bkR tX 3), zzI cy (rB 4) 4 (bkR tX 4), zzI cy (rB 5) 4 (bkR tX 5), zzI cy (rB 6) 4 (bkR tX 6), zzI cy (rB 7) 4 (bkR tX 7), zzG cy 3 qmO rO, zzI cy (rO 0) 5 (onR tX 0), zzI cy (rO 1) 5 (onR tX 1), zzI cy (rO 2) 5 (onR tX 2), zzI cy (rO 3) 5 (onR tX 3), zzI cy (rO 4) 5 (onR tX 4), zzI cy (rO 5) 5 (onR tX 5), zzI cy (rO 6) 5 (onR tX 6), zzI cy (rO 7) 5 (onR tX 7), zzG cy 3 qmK rK, zzI cy (rK 0) 8 (T_kn tX 0), zzI cy (rK 1) 8 (T_kn tX 1), zzI cy (rK 2) 8 (T_kn tX 2), zzI cy (rK 3) 8 (T_kn tX 3), zzI cy (rK 4) 8 (T_kn tX 4), zzI cy (rK 5) 8 (T_kn tX 5), zzI cy (rK 6) 8 (T_kn tX 6), zzI cy (rK 7) 8 (T_kn tX 7)] ∧ (TI tX ∧ T_nb tX = T_nb tA ∧ T_np tX = T_np tA) ∧ (tX = zey tA ∧ r = enA tA) ∧ (True))) := by
  refine enW RX6 (by decide) rfl (Nat.le_of_ble_eq_true rfl) (fun p e s m below meth c ls A hx hb hml hown hts hr hlocks hP hN hl hin hD hA hS => ?_)
  have hin : meth.name = _ := hin
  have hK := hN.1
  replace hl : lv_has ls 5 [(0, .ref qm)] := hl
  refine lv_iconst (v := 0) hx hb dX6_end_0 (by decide) ?_
  refine lv_istore_n (lv' := [(1, .int 0), (0, .ref qm)]) hx hb dX6_end_1 rfl hl (by decide) rfl (fun ls => ?_)
  clear hl
  intro hl
  refine lv_iconst (v := 0) hx hb dX6_end_2 (by decide) ?_
  refine lv_istore_n (lv' := [(2, .int 0), (1, .int 0), (0, .ref qm)]) hx hb dX6_end_3 rfl hl (by decide) rfl (fun ls => ?_)
  clear hl
  intro hl
  have lp_1 : ∀ (n_2 : Nat) (j_4 : Nat) (tJ_5 : TA) (xG_6 : Int32), 8 - j_4 < n_2 → j_4 ≤ T_np tA → TI tJ_5 ∧ T_nb tJ_5 = T_nb tA ∧ T_np tJ_5 = T_np tA → tJ_5 = eyF (zthere tA) tA j_4 → xG_6 = wsum (fun p => b01 (egB tA p)) j_4 → ∀ (H : Heap) (locs : List Loc) (ls : Array Slot), va_P G CL [zzO qm 5 [v0, v1, v2, v3, v4, v5, v6, v7, v8, v9, .int (nI (T_nb tJ_5)), .ref qmB, .int (nI (T_np tJ_5)), .ref qmO, .ref qmK, .int iEn, .int iTk, .int (T_sd tJ_5), v18, v19, v20, v21, v22, v23, v24, v25, v26, .int iLv, .int iWs, v29, v30, v31, v32, v33, v34], zzG cy 3 qmB rB, zzI cy (rB 0) 4 (bkR tJ_5 0), zzI cy (rB 1) 4 (bkR tJ_5 1), zzI cy (rB 2) 4 (bkR tJ_5 2), zzI cy (rB 3) 4 (bkR tJ_5 3), zzI cy (rB 4) 4 (bkR tJ_5 4), zzI cy (rB 5) 4 (bkR tJ_5 5), zzI cy (rB 6) 4 (bkR tJ_5 6), zzI cy (rB 7) 4 (bkR tJ_5 7), zzG cy 3 qmO rO, zzI cy (rO 0) 5 (onR tJ_5 0), zzI cy (rO 1) 5 (onR tJ_5 1), zzI cy (rO 2) 5 (onR tJ_5 2), zzI cy (rO 3) 5 (onR tJ_5 3), zzI cy (rO 4) 5 (onR tJ_5 4), zzI cy (rO 5) 5 (onR tJ_5 5), zzI cy (rO 6) 5 (onR tJ_5 6), zzI cy (rO 7) 5 (onR tJ_5 7), zzG cy 3 qmK rK, zzI cy (rK 0) 8 (T_kn tJ_5 0), zzI cy (rK 1) 8 (T_kn tJ_5 1), zzI cy (rK 2) 8 (T_kn tJ_5 2), zzI cy (rK 3) 8 (T_kn tJ_5 3), zzI cy (rK 4) 8 (T_kn tJ_5 4), zzI cy (rK 5) 8 (T_kn tJ_5 5), zzI cy (rK 6) 8 (T_kn tJ_5 6), zzI cy (rK 7) 8 (T_kn tJ_5 7)] H → va_D A [zzO qm 5 [v0, v1, v2, v3, v4, v5, v6, v7, v8, v9, .int (nI (T_nb tJ_5)), .ref qmB, .int (nI (T_np tJ_5)), .ref qmO, .ref qmK, .int iEn, .int iTk, .int (T_sd tJ_5), v18, v19, v20, v21, v22, v23, v24, v25, v26, .int iLv, .int iWs, v29, v30, v31, v32, v33, v34], zzG cy 3 qmB rB, zzI cy (rB 0) 4 (bkR tJ_5 0), zzI cy (rB 1) 4 (bkR tJ_5 1), zzI cy (rB 2) 4 (bkR tJ_5 2), zzI cy (rB 3) 4 (bkR tJ_5 3), zzI cy (rB 4) 4 (bkR tJ_5 4), zzI cy (rB 5) 4 (bkR tJ_5 5), zzI cy (rB 6) 4 (bkR tJ_5 6), zzI cy (rB 7) 4 (bkR tJ_5 7), zzG cy 3 qmO rO, zzI cy (rO 0) 5 (onR tJ_5 0), zzI cy (rO 1) 5 (onR tJ_5 1), zzI cy (rO 2) 5 (onR tJ_5 2), zzI cy (rO 3) 5 (onR tJ_5 3), zzI cy (rO 4) 5 (onR tJ_5 4), zzI cy (rO 5) 5 (onR tJ_5 5), zzI cy (rO 6) 5 (onR tJ_5 6), zzI cy (rO 7) 5 (onR tJ_5 7), zzG cy 3 qmK rK, zzI cy (rK 0) 8 (T_kn tJ_5 0), zzI cy (rK 1) 8 (T_kn tJ_5 1), zzI cy (rK 2) 8 (T_kn tJ_5 2), zzI cy (rK 3) 8 (T_kn tJ_5 3), zzI cy (rK 4) 8 (T_kn tJ_5 4), zzI cy (rK 5) 8 (T_kn tJ_5 5), zzI cy (rK 6) 8 (T_kn tJ_5 6), zzI cy (rK 7) 8 (T_kn tJ_5 7)] → va_S A s.heap H locs → lv_has ls 5 [(2, .int (nI j_4)), (1, .int xG_6), (0, .ref qm)] → W p l e (Rm 2 0 0) s m (List.toArray (α := Value) [.ref qm]) below meth c H locs 0 0 (MQ below ((Wi G (fun r u => ∃ (tX : TA) (iX : Int32), u = [zzO qm 5 [v0, v1, v2, v3, v4, v5, v6, v7, v8, v9, .int (nI (T_nb tX)), .ref qmB, .int (nI (T_np tX)), .ref qmO, .ref qmK, .int iX, .int iTk, .int (T_sd tX), v18, v19, v20, v21, v22, v23, v24, v25, v26, .int iLv, .int iWs, v29, v30, v31, v32, v33, v34], zzG cy 3 qmB rB, zzI cy (rB 0) 4 (bkR tX 0), zzI cy (rB 1) 4 (bkR tX 1), zzI cy (rB 2) 4 (bkR tX 2), zzI cy (rB 3) 4 (bkR tX 3), zzI cy (rB 4) 4 (bkR tX 4), zzI cy (rB 5) 4 (bkR tX 5), zzI cy (rB 6) 4 (bkR tX 6), zzI cy (rB 7) 4 (bkR tX 7), zzG cy 3 qmO rO, zzI cy (rO 0) 5 (onR tX 0), zzI cy (rO 1) 5 (onR tX 1), zzI cy (rO 2) 5 (onR tX 2), zzI cy (rO 3) 5 (onR tX 3), zzI cy (rO 4) 5 (onR tX 4), zzI cy (rO 5) 5 (onR tX 5), zzI cy (rO 6) 5 (onR tX 6), zzI cy (rO 7) 5 (onR tX 7), zzG cy 3 qmK rK, zzI cy (rK 0) 8 (T_kn tX 0), zzI cy (rK 1) 8 (T_kn tX 1), zzI cy (rK 2) 8 (T_kn tX 2), zzI cy (rK 3) 8 (T_kn tX 3), zzI cy (rK 4) 8 (T_kn tX 4), zzI cy (rK 5) 8 (T_kn tX 5), zzI cy (rK 6) 8 (T_kn tX 6), zzI cy (rK 7) 8 (T_kn tX 7)] ∧ (TI tX ∧ T_nb tX = T_nb tA ∧ T_np tX = T_np tA) ∧ (tX = zey tA ∧ r = enA tA) ∧ (True))) A) (List.toArray (α := Value) [.ref qm]) s 0 0 A) (F0 m 4 ls []) := by
    intro n_2
    induction n_2 with
    | zero => intro j_4 tJ_5 xG_6 hm9; exact absurd hm9 (Nat.not_lt_zero _)
    | succ n_2 ih_3 =>
      intro j_4 tJ_5 xG_6 hm_11 hj_7 hT_8 hE_9 hG_10 H locs ls hP hD hS hl
      refine lv_iload_n hx hb dX6_end_4 rfl (lv_at hl 0 rfl) ?_
      refine lv_aload_n hx hb dX6_end_5 rfl (lv_at hl 2 rfl) ?_
      refine va_get (D := G) (ci := 5) (v := .int (nI (T_np tJ_5))) (C := RX6) (T := TX6) (N := 35) hx hb hts iX_X6 hown hK hP 0 rfl rfl 12 (by decide) (hts _ m_t862) (fun _ h9 => h9) rfl dX6_end_6 ?_
      refine lv_icmp_ge (tgt := 145) hx hb dX6_end_9 (by decide) (fun c_12 => ?_) (fun c_12 => ?_)
      · have hlt_13e : T_np tJ_5 = T_np tA := hT_8.2.2
        have hlt_13 : j_4 = T_np tA := Nat.le_antisymm (by omega) (by rw [hlt_13e] at c_12; exact lp_ge rfl rfl (by omega) (by omega) c_12)
        obtain ⟨hlt_13i, hlt_13b, hlt_13p⟩ := id hT_8
        refine lv_aload_n hx hb dX6_end_145 rfl (lv_at hl 2 rfl) ?_
        refine lv_dup hx hb dX6_end_146 rfl ?_
        refine va_get (D := G) (ci := 5) (v := .int iEn) (C := RX6) (T := TX6) (N := 35) hx hb hts iX_X6 hown hK hP 0 rfl rfl 15 (by decide) (hts _ m_t865) (fun _ h9 => h9) rfl dX6_end_147 ?_
        refine lv_iconst (v := 1) hx hb dX6_end_150 (by decide) ?_
        refine lv_iadd hx hb dX6_end_151 ?_
        refine va_put (D := G) (ci := 5) (v := .int (iEn + 1)) (ty := .int) (C := RX6) (T := TX6) (N := 35) hx hb hts iX_X6 tyX6 tyX6_ok nmX6 hown hK hP hD hS 0 rfl rfl 15 (by decide) (hts _ m_t865) (fun _ h9 => h9) rfl (by decide +kernel) rfl rfl (Nat.le_of_ble_eq_true rfl) dX6_end_152 (fun H locs => ?_)
        clear hP hD hS
        intro hP hD hS
        have hPD := pd_as [zzO qm 5 [v0, v1, v2, v3, v4, v5, v6, v7, v8, v9, .int (nI (T_nb tJ_5)), .ref qmB, .int (nI (T_np tJ_5)), .ref qmO, .ref qmK, .int (iEn + 1), .int iTk, .int (T_sd tJ_5), v18, v19, v20, v21, v22, v23, v24, v25, v26, .int iLv, .int iWs, v29, v30, v31, v32, v33, v34], zzG cy 3 qmB rB, zzI cy (rB 0) 4 (bkR tJ_5 0), zzI cy (rB 1) 4 (bkR tJ_5 1), zzI cy (rB 2) 4 (bkR tJ_5 2), zzI cy (rB 3) 4 (bkR tJ_5 3), zzI cy (rB 4) 4 (bkR tJ_5 4), zzI cy (rB 5) 4 (bkR tJ_5 5), zzI cy (rB 6) 4 (bkR tJ_5 6), zzI cy (rB 7) 4 (bkR tJ_5 7), zzG cy 3 qmO rO, zzI cy (rO 0) 5 (onR tJ_5 0), zzI cy (rO 1) 5 (onR tJ_5 1), zzI cy (rO 2) 5 (onR tJ_5 2), zzI cy (rO 3) 5 (onR tJ_5 3), zzI cy (rO 4) 5 (onR tJ_5 4), zzI cy (rO 5) 5 (onR tJ_5 5), zzI cy (rO 6) 5 (onR tJ_5 6), zzI cy (rO 7) 5 (onR tJ_5 7), zzG cy 3 qmK rK, zzI cy (rK 0) 8 (T_kn tJ_5 0), zzI cy (rK 1) 8 (T_kn tJ_5 1), zzI cy (rK 2) 8 (T_kn tJ_5 2), zzI cy (rK 3) 8 (T_kn tJ_5 3), zzI cy (rK 4) 8 (T_kn tJ_5 4), zzI cy (rK 5) 8 (T_kn tJ_5 5), zzI cy (rK 6) 8 (T_kn tJ_5 6), zzI cy (rK 7) 8 (T_kn tJ_5 7)] hP hD rfl
        clear hP hD
        obtain ⟨hP, hD⟩ := hPD
        refine lv_iload_n hx hb dX6_end_155 rfl (lv_at hl 1 rfl) ?_
        exact endW (u := [zzO qm 5 [v0, v1, v2, v3, v4, v5, v6, v7, v8, v9, .int (nI (T_nb tJ_5)), .ref qmB, .int (nI (T_np tJ_5)), .ref qmO, .ref qmK, .int (iEn + 1), .int iTk, .int (T_sd tJ_5), v18, v19, v20, v21, v22, v23, v24, v25, v26, .int iLv, .int iWs, v29, v30, v31, v32, v33, v34], zzG cy 3 qmB rB, zzI cy (rB 0) 4 (bkR tJ_5 0), zzI cy (rB 1) 4 (bkR tJ_5 1), zzI cy (rB 2) 4 (bkR tJ_5 2), zzI cy (rB 3) 4 (bkR tJ_5 3), zzI cy (rB 4) 4 (bkR tJ_5 4), zzI cy (rB 5) 4 (bkR tJ_5 5), zzI cy (rB 6) 4 (bkR tJ_5 6), zzI cy (rB 7) 4 (bkR tJ_5 7), zzG cy 3 qmO rO, zzI cy (rO 0) 5 (onR tJ_5 0), zzI cy (rO 1) 5 (onR tJ_5 1), zzI cy (rO 2) 5 (onR tJ_5 2), zzI cy (rO 3) 5 (onR tJ_5 3), zzI cy (rO 4) 5 (onR tJ_5 4), zzI cy (rO 5) 5 (onR tJ_5 5), zzI cy (rO 6) 5 (onR tJ_5 6), zzI cy (rO 7) 5 (onR tJ_5 7), zzG cy 3 qmK rK, zzI cy (rK 0) 8 (T_kn tJ_5 0), zzI cy (rK 1) 8 (T_kn tJ_5 1), zzI cy (rK 2) 8 (T_kn tJ_5 2), zzI cy (rK 3) 8 (T_kn tJ_5 3), zzI cy (rK 4) 8 (T_kn tJ_5 4), zzI cy (rK 5) 8 (T_kn tJ_5 5), zzI cy (rK 6) 8 (T_kn tJ_5 6), zzI cy (rK 7) 8 (T_kn tJ_5 7)]) hx hb hr hlocks rfl (hP.sub [0, 1, 2, 3, 4, 5, 6, 7, 8, 9, 10, 11, 12, 13, 14, 15, 16, 17, 18, 19, 20, 21, 22, 23, 24, 25, 26, 27] rfl) (hD.sub [0, 1, 2, 3, 4, 5, 6, 7, 8, 9, 10, 11, 12, 13, 14, 15, 16, 17, 18, 19, 20, 21, 22, 23, 24, 25, 26, 27] (by decide +kernel) rfl) hS ⟨tJ_5, iEn + 1, rfl, hT_8, ⟨(by have h9 := hE_9; rw [hlt_13] at h9; exact h9), (by have h9 := hG_10; rw [hlt_13] at h9; exact h9)⟩, trivial⟩ dX6_end_156
      · have hlt_14e : T_np tJ_5 = T_np tA := hT_8.2.2
        have hlt_14 : j_4 < T_np tA := by rw [hlt_14e] at c_12; exact lp_lt rfl rfl (by omega) (by omega) c_12
        obtain ⟨hlt_14i, hlt_14b, hlt_14p⟩ := id hT_8
        refine lv_aload_n hx hb dX6_end_12 rfl (lv_at hl 2 rfl) ?_
        refine lv_iload_n hx hb dX6_end_13 rfl (lv_at hl 0 rfl) ?_
        refine kRi (rV (As := [.int (nI j_4)]) (rest := []) (b := qm) ⟨hx, hb, hml, hown, hts⟩ (c_X6_isThere l G cy qm v0 v1 v2 v3 v4 v5 v6 v7 v8 v9 tJ_5 qmB qmO qmK iEn iTk v18 v19 v20 v21 v22 v23 v24 v25 v26 iLv iWs v29 v30 v31 v32 v33 v34 rO j_4 (by omega)) L_X6_81 (preRV (q := (RX6, TX6, 35)) hN hP [0, 10, 11, 12, 13, 14, 15, 16, 17, 18] rfl 0 5 rfl rfl) rfl ⟨Nat.le_of_ble_eq_true rfl, Nat.le_of_ble_eq_true rfl⟩ hl.1 (Nat.le_of_ble_eq_true rfl) dX6_end_14 ⟨Nat.le_of_ble_eq_true rfl, Nat.le_of_ble_eq_true rfl⟩) (fun r_15 h_16 => ?_)
        rcases h_16 with ⟨rfl, h_17⟩ | ⟨rfl, h_17⟩
        · refine lv_if_eq (tgt := 139) hx hb dX6_end_17 (by decide) (fun h9 => absurd h9 (by decide)) (fun _ => ?_)
          refine lv_aload_n hx hb dX6_end_20 rfl (lv_at hl 2 rfl) ?_
          refine va_get (D := G) (ci := 5) (v := .ref qmO) (C := RX6) (T := TX6) (N := 35) hx hb hts iX_X6 hown hK hP 0 rfl rfl 13 (by decide) (hts _ m_t863) (fun _ h9 => h9) rfl dX6_end_21 ?_
          refine lv_iload_n hx hb dX6_end_24 rfl (lv_at hl 0 rfl) ?_
          refine va_alda hx hb hK hP 10 3 rfl rfl (in8 (by omega)) dX6_end_25 ?_
          refine lv_setv (v := .ref (rO j_4)) (g_ref (by omega)) ?_
          refine lv_iconst (v := 0) hx hb dX6_end_26 (by decide) ?_
          refine lv_dup2_11 hx hb dX6_end_27 rfl rfl ?_
          refine va_iald hx hb hK hP (11 + j_4) 0 (sg8 (n0 := 11) (f := (fun j => zzI cy (rO j) 5 (onR tJ_5 j))) rfl rfl rfl rfl rfl rfl rfl rfl j_4 (by omega)) rfl (in_c rfl) dX6_end_28 ?_
          refine lv_seti (v := T_ag tJ_5 j_4) (on_0 _ _) ?_
          refine lv_iconst (v := 1) hx hb dX6_end_29 (by decide) ?_
          refine lv_iadd hx hb dX6_end_30 ?_
          refine va_iast hx hb hK hP hD hS (11 + j_4) 0 ((sg8 (n0 := 11) (f := (fun j => zzI cy (rO j) 5 (onR tJ_5 j))) rfl rfl rfl rfl rfl rfl rfl rfl) j_4 (by omega)) rfl (in_c rfl) dX6_end_31 (fun H locs => ?_)
          clear hP hD hS
          intro hP hD hS
          have hPD := st8PD (ws' := [zzO qm 5 [v0, v1, v2, v3, v4, v5, v6, v7, v8, v9, .int (nI (T_nb (T_setag tJ_5 (upd (T_ag tJ_5) j_4 ((T_ag tJ_5 j_4) + 1))))), .ref qmB, .int (nI (T_np (T_setag tJ_5 (upd (T_ag tJ_5) j_4 ((T_ag tJ_5 j_4) + 1))))), .ref qmO, .ref qmK, .int iEn, .int iTk, .int (T_sd (T_setag tJ_5 (upd (T_ag tJ_5) j_4 ((T_ag tJ_5 j_4) + 1)))), v18, v19, v20, v21, v22, v23, v24, v25, v26, .int iLv, .int iWs, v29, v30, v31, v32, v33, v34], zzG cy 3 qmB rB, zzI cy (rB 0) 4 (bkR (T_setag tJ_5 (upd (T_ag tJ_5) j_4 ((T_ag tJ_5 j_4) + 1))) 0), zzI cy (rB 1) 4 (bkR (T_setag tJ_5 (upd (T_ag tJ_5) j_4 ((T_ag tJ_5 j_4) + 1))) 1), zzI cy (rB 2) 4 (bkR (T_setag tJ_5 (upd (T_ag tJ_5) j_4 ((T_ag tJ_5 j_4) + 1))) 2), zzI cy (rB 3) 4 (bkR (T_setag tJ_5 (upd (T_ag tJ_5) j_4 ((T_ag tJ_5 j_4) + 1))) 3), zzI cy (rB 4) 4 (bkR (T_setag tJ_5 (upd (T_ag tJ_5) j_4 ((T_ag tJ_5 j_4) + 1))) 4), zzI cy (rB 5) 4 (bkR (T_setag tJ_5 (upd (T_ag tJ_5) j_4 ((T_ag tJ_5 j_4) + 1))) 5), zzI cy (rB 6) 4 (bkR (T_setag tJ_5 (upd (T_ag tJ_5) j_4 ((T_ag tJ_5 j_4) + 1))) 6), zzI cy (rB 7) 4 (bkR (T_setag tJ_5 (upd (T_ag tJ_5) j_4 ((T_ag tJ_5 j_4) + 1))) 7), zzG cy 3 qmO rO, zzI cy (rO 0) 5 (onR (T_setag tJ_5 (upd (T_ag tJ_5) j_4 ((T_ag tJ_5 j_4) + 1))) 0), zzI cy (rO 1) 5 (onR (T_setag tJ_5 (upd (T_ag tJ_5) j_4 ((T_ag tJ_5 j_4) + 1))) 1), zzI cy (rO 2) 5 (onR (T_setag tJ_5 (upd (T_ag tJ_5) j_4 ((T_ag tJ_5 j_4) + 1))) 2), zzI cy (rO 3) 5 (onR (T_setag tJ_5 (upd (T_ag tJ_5) j_4 ((T_ag tJ_5 j_4) + 1))) 3), zzI cy (rO 4) 5 (onR (T_setag tJ_5 (upd (T_ag tJ_5) j_4 ((T_ag tJ_5 j_4) + 1))) 4), zzI cy (rO 5) 5 (onR (T_setag tJ_5 (upd (T_ag tJ_5) j_4 ((T_ag tJ_5 j_4) + 1))) 5), zzI cy (rO 6) 5 (onR (T_setag tJ_5 (upd (T_ag tJ_5) j_4 ((T_ag tJ_5 j_4) + 1))) 6), zzI cy (rO 7) 5 (onR (T_setag tJ_5 (upd (T_ag tJ_5) j_4 ((T_ag tJ_5 j_4) + 1))) 7), zzG cy 3 qmK rK, zzI cy (rK 0) 8 (T_kn (T_setag tJ_5 (upd (T_ag tJ_5) j_4 ((T_ag tJ_5 j_4) + 1))) 0), zzI cy (rK 1) 8 (T_kn (T_setag tJ_5 (upd (T_ag tJ_5) j_4 ((T_ag tJ_5 j_4) + 1))) 1), zzI cy (rK 2) 8 (T_kn (T_setag tJ_5 (upd (T_ag tJ_5) j_4 ((T_ag tJ_5 j_4) + 1))) 2), zzI cy (rK 3) 8 (T_kn (T_setag tJ_5 (upd (T_ag tJ_5) j_4 ((T_ag tJ_5 j_4) + 1))) 3), zzI cy (rK 4) 8 (T_kn (T_setag tJ_5 (upd (T_ag tJ_5) j_4 ((T_ag tJ_5 j_4) + 1))) 4), zzI cy (rK 5) 8 (T_kn (T_setag tJ_5 (upd (T_ag tJ_5) j_4 ((T_ag tJ_5 j_4) + 1))) 5), zzI cy (rK 6) 8 (T_kn (T_setag tJ_5 (upd (T_ag tJ_5) j_4 ((T_ag tJ_5 j_4) + 1))) 6), zzI cy (rK 7) 8 (T_kn (T_setag tJ_5 (upd (T_ag tJ_5) j_4 ((T_ag tJ_5 j_4) + 1))) 7)]) (k := j_4) (g1 := onR (T_setag tJ_5 (upd (T_ag tJ_5) j_4 ((T_ag tJ_5 j_4) + 1))) j_4) hP hD (sg8 (n0 := 11) (f := (fun j => zzI cy (rO j) 5 (onR tJ_5 j))) rfl rfl rfl rfl rfl rfl rfl rfl) (sg8 (n0 := 11) (f := (fun j => zzI cy (rO j) 5 (onR (T_setag tJ_5 (upd (T_ag tJ_5) j_4 ((T_ag tJ_5 j_4) + 1))) j))) rfl rfl rfl rfl rfl rfl rfl rfl) rfl rfl (by omega) rfl (fun i _ => (congrFun (on_u0 tJ_5 j_4 ((T_ag tJ_5 j_4) + 1)) i).symm) (fun j hj => congrArg (zzI cy (rO j) 5) (on_n0 tJ_5 j_4 ((T_ag tJ_5 j_4) + 1) hj))
          clear hP hD
          obtain ⟨hP, hD⟩ := hPD
          refine lv_aload_n hx hb dX6_end_32 rfl (lv_at hl 2 rfl) ?_
          refine va_get (D := G) (ci := 5) (v := .ref qmO) (C := RX6) (T := TX6) (N := 35) hx hb hts iX_X6 hown hK hP 0 rfl rfl 13 (by decide) (hts _ m_t863) (fun _ h9 => h9) rfl dX6_end_33 ?_
          refine lv_iload_n hx hb dX6_end_36 rfl (lv_at hl 0 rfl) ?_
          refine va_alda hx hb hK hP 10 3 rfl rfl (in8 (by omega)) dX6_end_37 ?_
          refine lv_setv (v := .ref (rO j_4)) (g_ref (by omega)) ?_
          refine lv_iconst (v := 0) hx hb dX6_end_38 (by decide) ?_
          refine va_iald hx hb hK hP (11 + j_4) 0 (sg8 (n0 := 11) (f := (fun j => zzI cy (rO j) 5 (onR (T_setag tJ_5 (upd (T_ag tJ_5) j_4 ((T_ag tJ_5 j_4) + 1))) j))) rfl rfl rfl rfl rfl rfl rfl rfl j_4 (by omega)) rfl (in_c rfl) dX6_end_39 ?_
          refine lv_seti (v := T_ag (T_setag tJ_5 (upd (T_ag tJ_5) j_4 ((T_ag tJ_5 j_4) + 1))) j_4) (on_0 _ _) ?_
          refine lv_bipush (v := 10) hx hb dX6_end_40 (by decide) ?_
          refine lv_icmp_ne (tgt := 49) hx hb dX6_end_42 (by decide) (fun c_19 => ?_) (fun c_19 => ?_)
          · refine lv_iconst (v := 0) hx hb dX6_end_49 (by decide) ?_
            refine lv_istore_n (lv' := [(3, .int 0), (2, .int (nI j_4)), (1, .int xG_6), (0, .ref qm)]) hx hb dX6_end_50 rfl hl (by decide) rfl (fun ls => ?_)
            clear hl
            intro hl
            refine lv_aload_n hx hb dX6_end_51 rfl (lv_at hl 3 rfl) ?_
            refine va_get (D := G) (ci := 5) (v := .ref qmO) (C := RX6) (T := TX6) (N := 35) hx hb hts iX_X6 hown hK hP 0 rfl rfl 13 (by decide) (hts _ m_t863) (fun _ h9 => h9) rfl dX6_end_52 ?_
            refine lv_iload_n hx hb dX6_end_55 rfl (lv_at hl 1 rfl) ?_
            refine va_alda hx hb hK hP 10 3 rfl rfl (in8 (by omega)) dX6_end_56 ?_
            refine lv_setv (v := .ref (rO j_4)) (g_ref (by omega)) ?_
            refine lv_iconst (v := 4) hx hb dX6_end_57 (by decide) ?_
            refine lv_iload_n hx hb dX6_end_58 rfl (lv_at hl 0 rfl) ?_
            refine lv_if_eq (tgt := 66) hx hb dX6_end_59 (by decide) (fun _ => ?_) (fun h9 => absurd (by decide) h9)
            refine lv_iconst (v := 0) hx hb dX6_end_66 (by decide) ?_
            refine va_iast hx hb hK hP hD hS (11 + j_4) 0 ((sg8 (n0 := 11) (f := (fun j => zzI cy (rO j) 5 (onR (T_setag tJ_5 (upd (T_ag tJ_5) j_4 ((T_ag tJ_5 j_4) + 1))) j))) rfl rfl rfl rfl rfl rfl rfl rfl) j_4 (by omega)) rfl (in_c rfl) dX6_end_67 (fun H locs => ?_)
            clear hP hD hS
            intro hP hD hS
            have hPD := st8PD (ws' := [zzO qm 5 [v0, v1, v2, v3, v4, v5, v6, v7, v8, v9, .int (nI (T_nb (T_setgn (T_setag tJ_5 (upd (T_ag tJ_5) j_4 ((T_ag tJ_5 j_4) + 1))) (updB (T_gn (T_setag tJ_5 (upd (T_ag tJ_5) j_4 ((T_ag tJ_5 j_4) + 1)))) j_4 false)))), .ref qmB, .int (nI (T_np (T_setgn (T_setag tJ_5 (upd (T_ag tJ_5) j_4 ((T_ag tJ_5 j_4) + 1))) (updB (T_gn (T_setag tJ_5 (upd (T_ag tJ_5) j_4 ((T_ag tJ_5 j_4) + 1)))) j_4 false)))), .ref qmO, .ref qmK, .int iEn, .int iTk, .int (T_sd (T_setgn (T_setag tJ_5 (upd (T_ag tJ_5) j_4 ((T_ag tJ_5 j_4) + 1))) (updB (T_gn (T_setag tJ_5 (upd (T_ag tJ_5) j_4 ((T_ag tJ_5 j_4) + 1)))) j_4 false))), v18, v19, v20, v21, v22, v23, v24, v25, v26, .int iLv, .int iWs, v29, v30, v31, v32, v33, v34], zzG cy 3 qmB rB, zzI cy (rB 0) 4 (bkR (T_setgn (T_setag tJ_5 (upd (T_ag tJ_5) j_4 ((T_ag tJ_5 j_4) + 1))) (updB (T_gn (T_setag tJ_5 (upd (T_ag tJ_5) j_4 ((T_ag tJ_5 j_4) + 1)))) j_4 false)) 0), zzI cy (rB 1) 4 (bkR (T_setgn (T_setag tJ_5 (upd (T_ag tJ_5) j_4 ((T_ag tJ_5 j_4) + 1))) (updB (T_gn (T_setag tJ_5 (upd (T_ag tJ_5) j_4 ((T_ag tJ_5 j_4) + 1)))) j_4 false)) 1), zzI cy (rB 2) 4 (bkR (T_setgn (T_setag tJ_5 (upd (T_ag tJ_5) j_4 ((T_ag tJ_5 j_4) + 1))) (updB (T_gn (T_setag tJ_5 (upd (T_ag tJ_5) j_4 ((T_ag tJ_5 j_4) + 1)))) j_4 false)) 2), zzI cy (rB 3) 4 (bkR (T_setgn (T_setag tJ_5 (upd (T_ag tJ_5) j_4 ((T_ag tJ_5 j_4) + 1))) (updB (T_gn (T_setag tJ_5 (upd (T_ag tJ_5) j_4 ((T_ag tJ_5 j_4) + 1)))) j_4 false)) 3), zzI cy (rB 4) 4 (bkR (T_setgn (T_setag tJ_5 (upd (T_ag tJ_5) j_4 ((T_ag tJ_5 j_4) + 1))) (updB (T_gn (T_setag tJ_5 (upd (T_ag tJ_5) j_4 ((T_ag tJ_5 j_4) + 1)))) j_4 false)) 4), zzI cy (rB 5) 4 (bkR (T_setgn (T_setag tJ_5 (upd (T_ag tJ_5) j_4 ((T_ag tJ_5 j_4) + 1))) (updB (T_gn (T_setag tJ_5 (upd (T_ag tJ_5) j_4 ((T_ag tJ_5 j_4) + 1)))) j_4 false)) 5), zzI cy (rB 6) 4 (bkR (T_setgn (T_setag tJ_5 (upd (T_ag tJ_5) j_4 ((T_ag tJ_5 j_4) + 1))) (updB (T_gn (T_setag tJ_5 (upd (T_ag tJ_5) j_4 ((T_ag tJ_5 j_4) + 1)))) j_4 false)) 6), zzI cy (rB 7) 4 (bkR (T_setgn (T_setag tJ_5 (upd (T_ag tJ_5) j_4 ((T_ag tJ_5 j_4) + 1))) (updB (T_gn (T_setag tJ_5 (upd (T_ag tJ_5) j_4 ((T_ag tJ_5 j_4) + 1)))) j_4 false)) 7), zzG cy 3 qmO rO, zzI cy (rO 0) 5 (onR (T_setgn (T_setag tJ_5 (upd (T_ag tJ_5) j_4 ((T_ag tJ_5 j_4) + 1))) (updB (T_gn (T_setag tJ_5 (upd (T_ag tJ_5) j_4 ((T_ag tJ_5 j_4) + 1)))) j_4 false)) 0), zzI cy (rO 1) 5 (onR (T_setgn (T_setag tJ_5 (upd (T_ag tJ_5) j_4 ((T_ag tJ_5 j_4) + 1))) (updB (T_gn (T_setag tJ_5 (upd (T_ag tJ_5) j_4 ((T_ag tJ_5 j_4) + 1)))) j_4 false)) 1), zzI cy (rO 2) 5 (onR (T_setgn (T_setag tJ_5 (upd (T_ag tJ_5) j_4 ((T_ag tJ_5 j_4) + 1))) (updB (T_gn (T_setag tJ_5 (upd (T_ag tJ_5) j_4 ((T_ag tJ_5 j_4) + 1)))) j_4 false)) 2), zzI cy (rO 3) 5 (onR (T_setgn (T_setag tJ_5 (upd (T_ag tJ_5) j_4 ((T_ag tJ_5 j_4) + 1))) (updB (T_gn (T_setag tJ_5 (upd (T_ag tJ_5) j_4 ((T_ag tJ_5 j_4) + 1)))) j_4 false)) 3), zzI cy (rO 4) 5 (onR (T_setgn (T_setag tJ_5 (upd (T_ag tJ_5) j_4 ((T_ag tJ_5 j_4) + 1))) (updB (T_gn (T_setag tJ_5 (upd (T_ag tJ_5) j_4 ((T_ag tJ_5 j_4) + 1)))) j_4 false)) 4), zzI cy (rO 5) 5 (onR (T_setgn (T_setag tJ_5 (upd (T_ag tJ_5) j_4 ((T_ag tJ_5 j_4) + 1))) (updB (T_gn (T_setag tJ_5 (upd (T_ag tJ_5) j_4 ((T_ag tJ_5 j_4) + 1)))) j_4 false)) 5), zzI cy (rO 6) 5 (onR (T_setgn (T_setag tJ_5 (upd (T_ag tJ_5) j_4 ((T_ag tJ_5 j_4) + 1))) (updB (T_gn (T_setag tJ_5 (upd (T_ag tJ_5) j_4 ((T_ag tJ_5 j_4) + 1)))) j_4 false)) 6), zzI cy (rO 7) 5 (onR (T_setgn (T_setag tJ_5 (upd (T_ag tJ_5) j_4 ((T_ag tJ_5 j_4) + 1))) (updB (T_gn (T_setag tJ_5 (upd (T_ag tJ_5) j_4 ((T_ag tJ_5 j_4) + 1)))) j_4 false)) 7), zzG cy 3 qmK rK, zzI cy (rK 0) 8 (T_kn (T_setgn (T_setag tJ_5 (upd (T_ag tJ_5) j_4 ((T_ag tJ_5 j_4) + 1))) (updB (T_gn (T_setag tJ_5 (upd (T_ag tJ_5) j_4 ((T_ag tJ_5 j_4) + 1)))) j_4 false)) 0), zzI cy (rK 1) 8 (T_kn (T_setgn (T_setag tJ_5 (upd (T_ag tJ_5) j_4 ((T_ag tJ_5 j_4) + 1))) (updB (T_gn (T_setag tJ_5 (upd (T_ag tJ_5) j_4 ((T_ag tJ_5 j_4) + 1)))) j_4 false)) 1), zzI cy (rK 2) 8 (T_kn (T_setgn (T_setag tJ_5 (upd (T_ag tJ_5) j_4 ((T_ag tJ_5 j_4) + 1))) (updB (T_gn (T_setag tJ_5 (upd (T_ag tJ_5) j_4 ((T_ag tJ_5 j_4) + 1)))) j_4 false)) 2), zzI cy (rK 3) 8 (T_kn (T_setgn (T_setag tJ_5 (upd (T_ag tJ_5) j_4 ((T_ag tJ_5 j_4) + 1))) (updB (T_gn (T_setag tJ_5 (upd (T_ag tJ_5) j_4 ((T_ag tJ_5 j_4) + 1)))) j_4 false)) 3), zzI cy (rK 4) 8 (T_kn (T_setgn (T_setag tJ_5 (upd (T_ag tJ_5) j_4 ((T_ag tJ_5 j_4) + 1))) (updB (T_gn (T_setag tJ_5 (upd (T_ag tJ_5) j_4 ((T_ag tJ_5 j_4) + 1)))) j_4 false)) 4), zzI cy (rK 5) 8 (T_kn (T_setgn (T_setag tJ_5 (upd (T_ag tJ_5) j_4 ((T_ag tJ_5 j_4) + 1))) (updB (T_gn (T_setag tJ_5 (upd (T_ag tJ_5) j_4 ((T_ag tJ_5 j_4) + 1)))) j_4 false)) 5), zzI cy (rK 6) 8 (T_kn (T_setgn (T_setag tJ_5 (upd (T_ag tJ_5) j_4 ((T_ag tJ_5 j_4) + 1))) (updB (T_gn (T_setag tJ_5 (upd (T_ag tJ_5) j_4 ((T_ag tJ_5 j_4) + 1)))) j_4 false)) 6), zzI cy (rK 7) 8 (T_kn (T_setgn (T_setag tJ_5 (upd (T_ag tJ_5) j_4 ((T_ag tJ_5 j_4) + 1))) (updB (T_gn (T_setag tJ_5 (upd (T_ag tJ_5) j_4 ((T_ag tJ_5 j_4) + 1)))) j_4 false)) 7)]) (k := j_4) (g1 := onR (T_setgn (T_setag tJ_5 (upd (T_ag tJ_5) j_4 ((T_ag tJ_5 j_4) + 1))) (updB (T_gn (T_setag tJ_5 (upd (T_ag tJ_5) j_4 ((T_ag tJ_5 j_4) + 1)))) j_4 false)) j_4) hP hD (sg8 (n0 := 11) (f := (fun j => zzI cy (rO j) 5 (onR (T_setag tJ_5 (upd (T_ag tJ_5) j_4 ((T_ag tJ_5 j_4) + 1))) j))) rfl rfl rfl rfl rfl rfl rfl rfl) (sg8 (n0 := 11) (f := (fun j => zzI cy (rO j) 5 (onR (T_setgn (T_setag tJ_5 (upd (T_ag tJ_5) j_4 ((T_ag tJ_5 j_4) + 1))) (updB (T_gn (T_setag tJ_5 (upd (T_ag tJ_5) j_4 ((T_ag tJ_5 j_4) + 1)))) j_4 false)) j))) rfl rfl rfl rfl rfl rfl rfl rfl) rfl rfl (by omega) rfl (on_w4 (T_setag tJ_5 (upd (T_ag tJ_5) j_4 ((T_ag tJ_5 j_4) + 1))) j_4 false) (fun j hj => congrArg (zzI cy (rO j) 5) (on_n4 (T_setag tJ_5 (upd (T_ag tJ_5) j_4 ((T_ag tJ_5 j_4) + 1))) j_4 false hj))
            clear hP hD
            obtain ⟨hP, hD⟩ := hPD
            refine lv_iload_n hx hb dX6_end_68 rfl (lv_at hl 2 rfl) ?_
            refine lv_iload_n hx hb dX6_end_69 rfl (lv_at hl 0 rfl) ?_
            refine lv_if_eq (tgt := 77) hx hb dX6_end_70 (by decide) (fun _ => ?_) (fun h9 => absurd (by decide) h9)
            refine lv_iconst (v := 0) hx hb dX6_end_77 (by decide) ?_
            refine lv_iadd hx hb dX6_end_78 ?_
            refine lv_istore_n (lv' := [(1, .int (xG_6 + 0)), (3, .int 0), (2, .int (nI j_4)), (0, .ref qm)]) hx hb dX6_end_79 rfl hl (by decide) rfl (fun ls => ?_)
            clear hl
            intro hl
            refine lv_iconst (v := 0) hx hb dX6_end_80 (by decide) ?_
            refine lv_istore (lv' := [(4, .int 0), (1, .int (xG_6 + 0)), (3, .int 0), (2, .int (nI j_4)), (0, .ref qm)]) hx hb dX6_end_81 hl (by decide) rfl (fun ls => ?_)
            clear hl
            intro hl
            have lp_22 : ∀ (n_23 : Nat) (m_25 : Nat) (tK_26 : TA), 8 - m_25 < n_23 → m_25 ≤ T_nb tA → TI tK_26 ∧ T_nb tK_26 = T_nb tA ∧ T_np tK_26 = T_np tA → tK_26 = T_setkn (T_setgn (T_setag tJ_5 (upd (T_ag tJ_5) j_4 ((T_ag tJ_5 j_4) + 1))) (updB (T_gn (T_setag tJ_5 (upd (T_ag tJ_5) j_4 ((T_ag tJ_5 j_4) + 1)))) j_4 false)) (fgK (T_kn tJ_5) j_4 (90 + T_me tJ_5 j_4) m_25) → ∀ (H : Heap) (locs : List Loc) (ls : Array Slot), va_P G CL [zzO qm 5 [v0, v1, v2, v3, v4, v5, v6, v7, v8, v9, .int (nI (T_nb tK_26)), .ref qmB, .int (nI (T_np tK_26)), .ref qmO, .ref qmK, .int iEn, .int iTk, .int (T_sd tK_26), v18, v19, v20, v21, v22, v23, v24, v25, v26, .int iLv, .int iWs, v29, v30, v31, v32, v33, v34], zzG cy 3 qmB rB, zzI cy (rB 0) 4 (bkR tK_26 0), zzI cy (rB 1) 4 (bkR tK_26 1), zzI cy (rB 2) 4 (bkR tK_26 2), zzI cy (rB 3) 4 (bkR tK_26 3), zzI cy (rB 4) 4 (bkR tK_26 4), zzI cy (rB 5) 4 (bkR tK_26 5), zzI cy (rB 6) 4 (bkR tK_26 6), zzI cy (rB 7) 4 (bkR tK_26 7), zzG cy 3 qmO rO, zzI cy (rO 0) 5 (onR tK_26 0), zzI cy (rO 1) 5 (onR tK_26 1), zzI cy (rO 2) 5 (onR tK_26 2), zzI cy (rO 3) 5 (onR tK_26 3), zzI cy (rO 4) 5 (onR tK_26 4), zzI cy (rO 5) 5 (onR tK_26 5), zzI cy (rO 6) 5 (onR tK_26 6), zzI cy (rO 7) 5 (onR tK_26 7), zzG cy 3 qmK rK, zzI cy (rK 0) 8 (T_kn tK_26 0), zzI cy (rK 1) 8 (T_kn tK_26 1), zzI cy (rK 2) 8 (T_kn tK_26 2), zzI cy (rK 3) 8 (T_kn tK_26 3), zzI cy (rK 4) 8 (T_kn tK_26 4), zzI cy (rK 5) 8 (T_kn tK_26 5), zzI cy (rK 6) 8 (T_kn tK_26 6), zzI cy (rK 7) 8 (T_kn tK_26 7)] H → va_D A [zzO qm 5 [v0, v1, v2, v3, v4, v5, v6, v7, v8, v9, .int (nI (T_nb tK_26)), .ref qmB, .int (nI (T_np tK_26)), .ref qmO, .ref qmK, .int iEn, .int iTk, .int (T_sd tK_26), v18, v19, v20, v21, v22, v23, v24, v25, v26, .int iLv, .int iWs, v29, v30, v31, v32, v33, v34], zzG cy 3 qmB rB, zzI cy (rB 0) 4 (bkR tK_26 0), zzI cy (rB 1) 4 (bkR tK_26 1), zzI cy (rB 2) 4 (bkR tK_26 2), zzI cy (rB 3) 4 (bkR tK_26 3), zzI cy (rB 4) 4 (bkR tK_26 4), zzI cy (rB 5) 4 (bkR tK_26 5), zzI cy (rB 6) 4 (bkR tK_26 6), zzI cy (rB 7) 4 (bkR tK_26 7), zzG cy 3 qmO rO, zzI cy (rO 0) 5 (onR tK_26 0), zzI cy (rO 1) 5 (onR tK_26 1), zzI cy (rO 2) 5 (onR tK_26 2), zzI cy (rO 3) 5 (onR tK_26 3), zzI cy (rO 4) 5 (onR tK_26 4), zzI cy (rO 5) 5 (onR tK_26 5), zzI cy (rO 6) 5 (onR tK_26 6), zzI cy (rO 7) 5 (onR tK_26 7), zzG cy 3 qmK rK, zzI cy (rK 0) 8 (T_kn tK_26 0), zzI cy (rK 1) 8 (T_kn tK_26 1), zzI cy (rK 2) 8 (T_kn tK_26 2), zzI cy (rK 3) 8 (T_kn tK_26 3), zzI cy (rK 4) 8 (T_kn tK_26 4), zzI cy (rK 5) 8 (T_kn tK_26 5), zzI cy (rK 6) 8 (T_kn tK_26 6), zzI cy (rK 7) 8 (T_kn tK_26 7)] → va_S A s.heap H locs → lv_has ls 5 [(4, .int (nI m_25)), (1, .int (xG_6 + 0)), (3, .int 0), (2, .int (nI j_4)), (0, .ref qm)] → W p l e (Rm 2 0 0) s m (List.toArray (α := Value) [.ref qm]) below meth c H locs 0 0 (MQ below ((Wi G (fun r u => ∃ (tX : TA) (iX : Int32), u = [zzO qm 5 [v0, v1, v2, v3, v4, v5, v6, v7, v8, v9, .int (nI (T_nb tX)), .ref qmB, .int (nI (T_np tX)), .ref qmO, .ref qmK, .int iX, .int iTk, .int (T_sd tX), v18, v19, v20, v21, v22, v23, v24, v25, v26, .int iLv, .int iWs, v29, v30, v31, v32, v33, v34], zzG cy 3 qmB rB, zzI cy (rB 0) 4 (bkR tX 0), zzI cy (rB 1) 4 (bkR tX 1), zzI cy (rB 2) 4 (bkR tX 2), zzI cy (rB 3) 4 (bkR tX 3), zzI cy (rB 4) 4 (bkR tX 4), zzI cy (rB 5) 4 (bkR tX 5), zzI cy (rB 6) 4 (bkR tX 6), zzI cy (rB 7) 4 (bkR tX 7), zzG cy 3 qmO rO, zzI cy (rO 0) 5 (onR tX 0), zzI cy (rO 1) 5 (onR tX 1), zzI cy (rO 2) 5 (onR tX 2), zzI cy (rO 3) 5 (onR tX 3), zzI cy (rO 4) 5 (onR tX 4), zzI cy (rO 5) 5 (onR tX 5), zzI cy (rO 6) 5 (onR tX 6), zzI cy (rO 7) 5 (onR tX 7), zzG cy 3 qmK rK, zzI cy (rK 0) 8 (T_kn tX 0), zzI cy (rK 1) 8 (T_kn tX 1), zzI cy (rK 2) 8 (T_kn tX 2), zzI cy (rK 3) 8 (T_kn tX 3), zzI cy (rK 4) 8 (T_kn tX 4), zzI cy (rK 5) 8 (T_kn tX 5), zzI cy (rK 6) 8 (T_kn tX 6), zzI cy (rK 7) 8 (T_kn tX 7)] ∧ (TI tX ∧ T_nb tX = T_nb tA ∧ T_np tX = T_np tA) ∧ (tX = zey tA ∧ r = enA tA) ∧ (True))) A) (List.toArray (α := Value) [.ref qm]) s 0 0 A) (F0 m 83 ls []) := by
              intro n_23
              induction n_23 with
              | zero => intro m_25 tK_26 hm9; exact absurd hm9 (Nat.not_lt_zero _)
              | succ n_23 ih_24 =>
                intro m_25 tK_26 hm_30 hm_30 hTK_28 hEK_29 H locs ls hP hD hS hl
                refine lv_iload hx hb dX6_end_83 (lv_at hl 0 rfl) ?_
                refine lv_aload_n hx hb dX6_end_85 rfl (lv_at hl 4 rfl) ?_
                refine va_get (D := G) (ci := 5) (v := .int (nI (T_nb tK_26))) (C := RX6) (T := TX6) (N := 35) hx hb hts iX_X6 hown hK hP 0 rfl rfl 10 (by decide) (hts _ m_t860) (fun _ h9 => h9) rfl dX6_end_86 ?_
                refine lv_icmp_ge (tgt := 139) hx hb dX6_end_89 (by decide) (fun c_31 => ?_) (fun c_31 => ?_)
                · have hlt_32e : T_nb tK_26 = T_nb tA := hTK_28.2.1
                  have hlt_32 : m_25 = T_nb tA := Nat.le_antisymm (by omega) (by rw [hlt_32e] at c_31; exact lp_ge rfl rfl (by omega) (by omega) c_31)
                  refine lv_iinc (v := nI (j_4 + 1)) (lv' := [(2, .int (nI (j_4 + 1))), (4, .int (nI m_25)), (1, .int (xG_6 + 0)), (3, .int 0), (0, .ref qm)]) hx hb dX6_end_139 hl (k := 3) rfl (nI_1 _) (by decide) rfl (fun ls => ?_)
                  clear hl
                  intro hl
                  refine lv_goto (tgt := 4) hx hb dX6_end_142 (by decide) ?_
                  exact ih_3 (j_4 + 1) tK_26 (xG_6 + 0) (by omega) (by omega) hTK_28 (ey_live hAG (by omega) (by omega) hE_9 h_17 (by have h9 := c_19; rw [ag_up] at h9; exact h9) (by rw [hEK_29, hlt_32, hT_8.2.1])) (en_live hE_9 h_17 (by have h9 := c_19; rw [ag_up] at h9; exact h9) hG_10) _ _ _ hP hD hS (lv_sub hl [0, 2, 4] rfl)
                · have hlt_33e : T_nb tK_26 = T_nb tA := hTK_28.2.1
                  have hlt_33 : m_25 < T_nb tA := by rw [hlt_33e] at c_31; exact lp_lt rfl rfl (by omega) (by omega) c_31
                  refine lv_aload_n hx hb dX6_end_92 rfl (lv_at hl 4 rfl) ?_
                  refine va_get (D := G) (ci := 5) (v := .ref qmK) (C := RX6) (T := TX6) (N := 35) hx hb hts iX_X6 hown hK hP 0 rfl rfl 14 (by decide) (hts _ m_t864) (fun _ h9 => h9) rfl dX6_end_93 ?_
                  refine lv_iload_n hx hb dX6_end_96 rfl (lv_at hl 3 rfl) ?_
                  refine va_alda hx hb hK hP 19 3 rfl rfl (in8 (by omega)) dX6_end_97 ?_
                  refine lv_setv (v := .ref (rK j_4)) (g_ref (by omega)) ?_
                  refine lv_iload hx hb dX6_end_98 (lv_at hl 0 rfl) ?_
                  refine lv_iload_n hx hb dX6_end_100 rfl (lv_at hl 2 rfl) ?_
                  refine lv_if_eq (tgt := 108) hx hb dX6_end_101 (by decide) (fun _ => ?_) (fun h9 => absurd (by decide) h9)
                  refine lv_aload_n hx hb dX6_end_108 rfl (lv_at hl 4 rfl) ?_
                  refine va_get (D := G) (ci := 5) (v := .ref qmK) (C := RX6) (T := TX6) (N := 35) hx hb hts iX_X6 hown hK hP 0 rfl rfl 14 (by decide) (hts _ m_t864) (fun _ h9 => h9) rfl dX6_end_109 ?_
                  refine lv_iload_n hx hb dX6_end_112 rfl (lv_at hl 3 rfl) ?_
                  refine va_alda hx hb hK hP 19 3 rfl rfl (in8 (by omega)) dX6_end_113 ?_
                  refine lv_setv (v := .ref (rK j_4)) (g_ref (by omega)) ?_
                  refine lv_iload hx hb dX6_end_114 (lv_at hl 0 rfl) ?_
                  refine va_iald hx hb hK hP (20 + j_4) 0 (sg8 (n0 := 20) (f := (fun j => zzI cy (rK j) 8 (T_kn tK_26 j))) rfl rfl rfl rfl rfl rfl rfl rfl j_4 (by omega)) rfl (vp_in_nI (by omega) (by omega)) dX6_end_116 ?_
                  refine lv_seti (v := T_kn tK_26 j_4 m_25) (congrArg (T_kn tK_26 j_4) (nI_clamp (by omega))) ?_
                  refine lv_bipush (v := 90) hx hb dX6_end_117 (by decide) ?_
                  refine lv_aload_n hx hb dX6_end_119 rfl (lv_at hl 4 rfl) ?_
                  refine va_get (D := G) (ci := 5) (v := .ref qmO) (C := RX6) (T := TX6) (N := 35) hx hb hts iX_X6 hown hK hP 0 rfl rfl 13 (by decide) (hts _ m_t863) (fun _ h9 => h9) rfl dX6_end_120 ?_
                  refine lv_iload_n hx hb dX6_end_123 rfl (lv_at hl 3 rfl) ?_
                  refine va_alda hx hb hK hP 10 3 rfl rfl (in8 (by omega)) dX6_end_124 ?_
                  refine lv_setv (v := .ref (rO j_4)) (g_ref (by omega)) ?_
                  refine lv_iconst (v := 2) hx hb dX6_end_125 (by decide) ?_
                  refine va_iald hx hb hK hP (11 + j_4) 0 (sg8 (n0 := 11) (f := (fun j => zzI cy (rO j) 5 (onR tK_26 j))) rfl rfl rfl rfl rfl rfl rfl rfl j_4 (by omega)) rfl (in_c rfl) dX6_end_126 ?_
                  refine lv_seti (v := T_me tK_26 j_4) (on_2' _ _) ?_
                  refine lv_iadd hx hb dX6_end_127 ?_
                  refine lv_imul hx hb dX6_end_128 ?_
                  refine lv_bipush (v := 100) hx hb dX6_end_129 (by decide) ?_
                  refine lv_idiv hx hb dX6_end_131 (by decide) ?_
                  refine va_iast hx hb hK hP hD hS (20 + j_4) 0 ((sg8 (n0 := 20) (f := (fun j => zzI cy (rK j) 8 (T_kn tK_26 j))) rfl rfl rfl rfl rfl rfl rfl rfl) j_4 (by omega)) rfl (vp_in_nI (by omega) (by omega)) dX6_end_132 (fun H locs => ?_)
                  clear hP hD hS
                  intro hP hD hS
                  rw [nI_clamp (n := m_25) (by omega)] at hP hD
                  have hPD := st8PD (ws' := [zzO qm 5 [v0, v1, v2, v3, v4, v5, v6, v7, v8, v9, .int (nI (T_nb (T_setkn tK_26 (updM (T_kn tK_26) j_4 m_25 (((T_kn tK_26 j_4 m_25) * (90 + (T_me tK_26 j_4))) / 100))))), .ref qmB, .int (nI (T_np (T_setkn tK_26 (updM (T_kn tK_26) j_4 m_25 (((T_kn tK_26 j_4 m_25) * (90 + (T_me tK_26 j_4))) / 100))))), .ref qmO, .ref qmK, .int iEn, .int iTk, .int (T_sd (T_setkn tK_26 (updM (T_kn tK_26) j_4 m_25 (((T_kn tK_26 j_4 m_25) * (90 + (T_me tK_26 j_4))) / 100)))), v18, v19, v20, v21, v22, v23, v24, v25, v26, .int iLv, .int iWs, v29, v30, v31, v32, v33, v34], zzG cy 3 qmB rB, zzI cy (rB 0) 4 (bkR (T_setkn tK_26 (updM (T_kn tK_26) j_4 m_25 (((T_kn tK_26 j_4 m_25) * (90 + (T_me tK_26 j_4))) / 100))) 0), zzI cy (rB 1) 4 (bkR (T_setkn tK_26 (updM (T_kn tK_26) j_4 m_25 (((T_kn tK_26 j_4 m_25) * (90 + (T_me tK_26 j_4))) / 100))) 1), zzI cy (rB 2) 4 (bkR (T_setkn tK_26 (updM (T_kn tK_26) j_4 m_25 (((T_kn tK_26 j_4 m_25) * (90 + (T_me tK_26 j_4))) / 100))) 2), zzI cy (rB 3) 4 (bkR (T_setkn tK_26 (updM (T_kn tK_26) j_4 m_25 (((T_kn tK_26 j_4 m_25) * (90 + (T_me tK_26 j_4))) / 100))) 3), zzI cy (rB 4) 4 (bkR (T_setkn tK_26 (updM (T_kn tK_26) j_4 m_25 (((T_kn tK_26 j_4 m_25) * (90 + (T_me tK_26 j_4))) / 100))) 4), zzI cy (rB 5) 4 (bkR (T_setkn tK_26 (updM (T_kn tK_26) j_4 m_25 (((T_kn tK_26 j_4 m_25) * (90 + (T_me tK_26 j_4))) / 100))) 5), zzI cy (rB 6) 4 (bkR (T_setkn tK_26 (updM (T_kn tK_26) j_4 m_25 (((T_kn tK_26 j_4 m_25) * (90 + (T_me tK_26 j_4))) / 100))) 6), zzI cy (rB 7) 4 (bkR (T_setkn tK_26 (updM (T_kn tK_26) j_4 m_25 (((T_kn tK_26 j_4 m_25) * (90 + (T_me tK_26 j_4))) / 100))) 7), zzG cy 3 qmO rO, zzI cy (rO 0) 5 (onR (T_setkn tK_26 (updM (T_kn tK_26) j_4 m_25 (((T_kn tK_26 j_4 m_25) * (90 + (T_me tK_26 j_4))) / 100))) 0), zzI cy (rO 1) 5 (onR (T_setkn tK_26 (updM (T_kn tK_26) j_4 m_25 (((T_kn tK_26 j_4 m_25) * (90 + (T_me tK_26 j_4))) / 100))) 1), zzI cy (rO 2) 5 (onR (T_setkn tK_26 (updM (T_kn tK_26) j_4 m_25 (((T_kn tK_26 j_4 m_25) * (90 + (T_me tK_26 j_4))) / 100))) 2), zzI cy (rO 3) 5 (onR (T_setkn tK_26 (updM (T_kn tK_26) j_4 m_25 (((T_kn tK_26 j_4 m_25) * (90 + (T_me tK_26 j_4))) / 100))) 3), zzI cy (rO 4) 5 (onR (T_setkn tK_26 (updM (T_kn tK_26) j_4 m_25 (((T_kn tK_26 j_4 m_25) * (90 + (T_me tK_26 j_4))) / 100))) 4), zzI cy (rO 5) 5 (onR (T_setkn tK_26 (updM (T_kn tK_26) j_4 m_25 (((T_kn tK_26 j_4 m_25) * (90 + (T_me tK_26 j_4))) / 100))) 5), zzI cy (rO 6) 5 (onR (T_setkn tK_26 (updM (T_kn tK_26) j_4 m_25 (((T_kn tK_26 j_4 m_25) * (90 + (T_me tK_26 j_4))) / 100))) 6), zzI cy (rO 7) 5 (onR (T_setkn tK_26 (updM (T_kn tK_26) j_4 m_25 (((T_kn tK_26 j_4 m_25) * (90 + (T_me tK_26 j_4))) / 100))) 7), zzG cy 3 qmK rK, zzI cy (rK 0) 8 (T_kn (T_setkn tK_26 (updM (T_kn tK_26) j_4 m_25 (((T_kn tK_26 j_4 m_25) * (90 + (T_me tK_26 j_4))) / 100))) 0), zzI cy (rK 1) 8 (T_kn (T_setkn tK_26 (updM (T_kn tK_26) j_4 m_25 (((T_kn tK_26 j_4 m_25) * (90 + (T_me tK_26 j_4))) / 100))) 1), zzI cy (rK 2) 8 (T_kn (T_setkn tK_26 (updM (T_kn tK_26) j_4 m_25 (((T_kn tK_26 j_4 m_25) * (90 + (T_me tK_26 j_4))) / 100))) 2), zzI cy (rK 3) 8 (T_kn (T_setkn tK_26 (updM (T_kn tK_26) j_4 m_25 (((T_kn tK_26 j_4 m_25) * (90 + (T_me tK_26 j_4))) / 100))) 3), zzI cy (rK 4) 8 (T_kn (T_setkn tK_26 (updM (T_kn tK_26) j_4 m_25 (((T_kn tK_26 j_4 m_25) * (90 + (T_me tK_26 j_4))) / 100))) 4), zzI cy (rK 5) 8 (T_kn (T_setkn tK_26 (updM (T_kn tK_26) j_4 m_25 (((T_kn tK_26 j_4 m_25) * (90 + (T_me tK_26 j_4))) / 100))) 5), zzI cy (rK 6) 8 (T_kn (T_setkn tK_26 (updM (T_kn tK_26) j_4 m_25 (((T_kn tK_26 j_4 m_25) * (90 + (T_me tK_26 j_4))) / 100))) 6), zzI cy (rK 7) 8 (T_kn (T_setkn tK_26 (updM (T_kn tK_26) j_4 m_25 (((T_kn tK_26 j_4 m_25) * (90 + (T_me tK_26 j_4))) / 100))) 7)]) (k := j_4) (g1 := T_kn (T_setkn tK_26 (updM (T_kn tK_26) j_4 m_25 (((T_kn tK_26 j_4 m_25) * (90 + (T_me tK_26 j_4))) / 100))) j_4) hP hD (sg8 (n0 := 20) (f := (fun j => zzI cy (rK j) 8 (T_kn tK_26 j))) rfl rfl rfl rfl rfl rfl rfl rfl) (sg8 (n0 := 20) (f := (fun j => zzI cy (rK j) 8 (T_kn (T_setkn tK_26 (updM (T_kn tK_26) j_4 m_25 (((T_kn tK_26 j_4 m_25) * (90 + (T_me tK_26 j_4))) / 100))) j))) rfl rfl rfl rfl rfl rfl rfl rfl) rfl rfl (by omega) rfl (fun i _ => (congrFun (kn_u tK_26 j_4 m_25 (((T_kn tK_26 j_4 m_25) * (90 + (T_me tK_26 j_4))) / 100)) i).symm) (fun j hj => congrArg (zzI cy (rK j) 8) (kn_n tK_26 j_4 m_25 (((T_kn tK_26 j_4 m_25) * (90 + (T_me tK_26 j_4))) / 100) hj))
                  clear hP hD
                  obtain ⟨hP, hD⟩ := hPD
                  refine lv_iinc (v := nI (m_25 + 1)) (lv' := [(4, .int (nI (m_25 + 1))), (1, .int (xG_6 + 0)), (3, .int 0), (2, .int (nI j_4)), (0, .ref qm)]) hx hb dX6_end_133 hl (k := 0) rfl (nI_1 _) (by decide) rfl (fun ls => ?_)
                  clear hl
                  intro hl
                  refine lv_goto (tgt := 83) hx hb dX6_end_136 (by decide) ?_
                  exact ih_24 (m_25 + 1) (T_setkn tK_26 (updM (T_kn tK_26) j_4 m_25 (((T_kn tK_26 j_4 m_25) * (90 + (T_me tK_26 j_4))) / 100))) (by omega) (by omega) (⟨TI_kn hTK_28.1 (r_fg (hTK_28.1.2.1 _ _) (hTK_28.1.2.2.2.2.1 _)), hTK_28.2⟩) (by rw [hEK_29]; rfl) _ _ _ hP hD hS (lv_sub hl [0, 1, 2, 3, 4] rfl)
            exact lp_22 ((8 - 0) + 1) 0 (T_setgn (T_setag tJ_5 (upd (T_ag tJ_5) j_4 ((T_ag tJ_5 j_4) + 1))) (updB (T_gn (T_setag tJ_5 (upd (T_ag tJ_5) j_4 ((T_ag tJ_5 j_4) + 1)))) j_4 false)) (Nat.lt_succ_self _) (Nat.zero_le _) (⟨hT_8.1, hT_8.2⟩) rfl _ _ ls hP hD hS (lv_sub hl [0, 1, 2, 3, 4] rfl)
          · refine lv_iconst (v := 1) hx hb dX6_end_45 (by decide) ?_
            refine lv_goto (tgt := 50) hx hb dX6_end_46 (by decide) ?_
            refine lv_istore_n (lv' := [(3, .int 1), (2, .int (nI j_4)), (1, .int xG_6), (0, .ref qm)]) hx hb dX6_end_50 rfl hl (by decide) rfl (fun ls => ?_)
            clear hl
            intro hl
            refine lv_aload_n hx hb dX6_end_51 rfl (lv_at hl 3 rfl) ?_
            refine va_get (D := G) (ci := 5) (v := .ref qmO) (C := RX6) (T := TX6) (N := 35) hx hb hts iX_X6 hown hK hP 0 rfl rfl 13 (by decide) (hts _ m_t863) (fun _ h9 => h9) rfl dX6_end_52 ?_
            refine lv_iload_n hx hb dX6_end_55 rfl (lv_at hl 1 rfl) ?_
            refine va_alda hx hb hK hP 10 3 rfl rfl (in8 (by omega)) dX6_end_56 ?_
            refine lv_setv (v := .ref (rO j_4)) (g_ref (by omega)) ?_
            refine lv_iconst (v := 4) hx hb dX6_end_57 (by decide) ?_
            refine lv_iload_n hx hb dX6_end_58 rfl (lv_at hl 0 rfl) ?_
            refine lv_if_eq (tgt := 66) hx hb dX6_end_59 (by decide) (fun h9 => absurd h9 (by decide)) (fun _ => ?_)
            refine lv_iconst (v := 1) hx hb dX6_end_62 (by decide) ?_
            refine lv_goto (tgt := 67) hx hb dX6_end_63 (by decide) ?_
            refine va_iast hx hb hK hP hD hS (11 + j_4) 0 ((sg8 (n0 := 11) (f := (fun j => zzI cy (rO j) 5 (onR (T_setag tJ_5 (upd (T_ag tJ_5) j_4 ((T_ag tJ_5 j_4) + 1))) j))) rfl rfl rfl rfl rfl rfl rfl rfl) j_4 (by omega)) rfl (in_c rfl) dX6_end_67 (fun H locs => ?_)
            clear hP hD hS
            intro hP hD hS
            have hPD := st8PD (ws' := [zzO qm 5 [v0, v1, v2, v3, v4, v5, v6, v7, v8, v9, .int (nI (T_nb (T_setgn (T_setag tJ_5 (upd (T_ag tJ_5) j_4 ((T_ag tJ_5 j_4) + 1))) (updB (T_gn (T_setag tJ_5 (upd (T_ag tJ_5) j_4 ((T_ag tJ_5 j_4) + 1)))) j_4 true)))), .ref qmB, .int (nI (T_np (T_setgn (T_setag tJ_5 (upd (T_ag tJ_5) j_4 ((T_ag tJ_5 j_4) + 1))) (updB (T_gn (T_setag tJ_5 (upd (T_ag tJ_5) j_4 ((T_ag tJ_5 j_4) + 1)))) j_4 true)))), .ref qmO, .ref qmK, .int iEn, .int iTk, .int (T_sd (T_setgn (T_setag tJ_5 (upd (T_ag tJ_5) j_4 ((T_ag tJ_5 j_4) + 1))) (updB (T_gn (T_setag tJ_5 (upd (T_ag tJ_5) j_4 ((T_ag tJ_5 j_4) + 1)))) j_4 true))), v18, v19, v20, v21, v22, v23, v24, v25, v26, .int iLv, .int iWs, v29, v30, v31, v32, v33, v34], zzG cy 3 qmB rB, zzI cy (rB 0) 4 (bkR (T_setgn (T_setag tJ_5 (upd (T_ag tJ_5) j_4 ((T_ag tJ_5 j_4) + 1))) (updB (T_gn (T_setag tJ_5 (upd (T_ag tJ_5) j_4 ((T_ag tJ_5 j_4) + 1)))) j_4 true)) 0), zzI cy (rB 1) 4 (bkR (T_setgn (T_setag tJ_5 (upd (T_ag tJ_5) j_4 ((T_ag tJ_5 j_4) + 1))) (updB (T_gn (T_setag tJ_5 (upd (T_ag tJ_5) j_4 ((T_ag tJ_5 j_4) + 1)))) j_4 true)) 1), zzI cy (rB 2) 4 (bkR (T_setgn (T_setag tJ_5 (upd (T_ag tJ_5) j_4 ((T_ag tJ_5 j_4) + 1))) (updB (T_gn (T_setag tJ_5 (upd (T_ag tJ_5) j_4 ((T_ag tJ_5 j_4) + 1)))) j_4 true)) 2), zzI cy (rB 3) 4 (bkR (T_setgn (T_setag tJ_5 (upd (T_ag tJ_5) j_4 ((T_ag tJ_5 j_4) + 1))) (updB (T_gn (T_setag tJ_5 (upd (T_ag tJ_5) j_4 ((T_ag tJ_5 j_4) + 1)))) j_4 true)) 3), zzI cy (rB 4) 4 (bkR (T_setgn (T_setag tJ_5 (upd (T_ag tJ_5) j_4 ((T_ag tJ_5 j_4) + 1))) (updB (T_gn (T_setag tJ_5 (upd (T_ag tJ_5) j_4 ((T_ag tJ_5 j_4) + 1)))) j_4 true)) 4), zzI cy (rB 5) 4 (bkR (T_setgn (T_setag tJ_5 (upd (T_ag tJ_5) j_4 ((T_ag tJ_5 j_4) + 1))) (updB (T_gn (T_setag tJ_5 (upd (T_ag tJ_5) j_4 ((T_ag tJ_5 j_4) + 1)))) j_4 true)) 5), zzI cy (rB 6) 4 (bkR (T_setgn (T_setag tJ_5 (upd (T_ag tJ_5) j_4 ((T_ag tJ_5 j_4) + 1))) (updB (T_gn (T_setag tJ_5 (upd (T_ag tJ_5) j_4 ((T_ag tJ_5 j_4) + 1)))) j_4 true)) 6), zzI cy (rB 7) 4 (bkR (T_setgn (T_setag tJ_5 (upd (T_ag tJ_5) j_4 ((T_ag tJ_5 j_4) + 1))) (updB (T_gn (T_setag tJ_5 (upd (T_ag tJ_5) j_4 ((T_ag tJ_5 j_4) + 1)))) j_4 true)) 7), zzG cy 3 qmO rO, zzI cy (rO 0) 5 (onR (T_setgn (T_setag tJ_5 (upd (T_ag tJ_5) j_4 ((T_ag tJ_5 j_4) + 1))) (updB (T_gn (T_setag tJ_5 (upd (T_ag tJ_5) j_4 ((T_ag tJ_5 j_4) + 1)))) j_4 true)) 0), zzI cy (rO 1) 5 (onR (T_setgn (T_setag tJ_5 (upd (T_ag tJ_5) j_4 ((T_ag tJ_5 j_4) + 1))) (updB (T_gn (T_setag tJ_5 (upd (T_ag tJ_5) j_4 ((T_ag tJ_5 j_4) + 1)))) j_4 true)) 1), zzI cy (rO 2) 5 (onR (T_setgn (T_setag tJ_5 (upd (T_ag tJ_5) j_4 ((T_ag tJ_5 j_4) + 1))) (updB (T_gn (T_setag tJ_5 (upd (T_ag tJ_5) j_4 ((T_ag tJ_5 j_4) + 1)))) j_4 true)) 2), zzI cy (rO 3) 5 (onR (T_setgn (T_setag tJ_5 (upd (T_ag tJ_5) j_4 ((T_ag tJ_5 j_4) + 1))) (updB (T_gn (T_setag tJ_5 (upd (T_ag tJ_5) j_4 ((T_ag tJ_5 j_4) + 1)))) j_4 true)) 3), zzI cy (rO 4) 5 (onR (T_setgn (T_setag tJ_5 (upd (T_ag tJ_5) j_4 ((T_ag tJ_5 j_4) + 1))) (updB (T_gn (T_setag tJ_5 (upd (T_ag tJ_5) j_4 ((T_ag tJ_5 j_4) + 1)))) j_4 true)) 4), zzI cy (rO 5) 5 (onR (T_setgn (T_setag tJ_5 (upd (T_ag tJ_5) j_4 ((T_ag tJ_5 j_4) + 1))) (updB (T_gn (T_setag tJ_5 (upd (T_ag tJ_5) j_4 ((T_ag tJ_5 j_4) + 1)))) j_4 true)) 5), zzI cy (rO 6) 5 (onR (T_setgn (T_setag tJ_5 (upd (T_ag tJ_5) j_4 ((T_ag tJ_5 j_4) + 1))) (updB (T_gn (T_setag tJ_5 (upd (T_ag tJ_5) j_4 ((T_ag tJ_5 j_4) + 1)))) j_4 true)) 6), zzI cy (rO 7) 5 (onR (T_setgn (T_setag tJ_5 (upd (T_ag tJ_5) j_4 ((T_ag tJ_5 j_4) + 1))) (updB (T_gn (T_setag tJ_5 (upd (T_ag tJ_5) j_4 ((T_ag tJ_5 j_4) + 1)))) j_4 true)) 7), zzG cy 3 qmK rK, zzI cy (rK 0) 8 (T_kn (T_setgn (T_setag tJ_5 (upd (T_ag tJ_5) j_4 ((T_ag tJ_5 j_4) + 1))) (updB (T_gn (T_setag tJ_5 (upd (T_ag tJ_5) j_4 ((T_ag tJ_5 j_4) + 1)))) j_4 true)) 0), zzI cy (rK 1) 8 (T_kn (T_setgn (T_setag tJ_5 (upd (T_ag tJ_5) j_4 ((T_ag tJ_5 j_4) + 1))) (updB (T_gn (T_setag tJ_5 (upd (T_ag tJ_5) j_4 ((T_ag tJ_5 j_4) + 1)))) j_4 true)) 1), zzI cy (rK 2) 8 (T_kn (T_setgn (T_setag tJ_5 (upd (T_ag tJ_5) j_4 ((T_ag tJ_5 j_4) + 1))) (updB (T_gn (T_setag tJ_5 (upd (T_ag tJ_5) j_4 ((T_ag tJ_5 j_4) + 1)))) j_4 true)) 2), zzI cy (rK 3) 8 (T_kn (T_setgn (T_setag tJ_5 (upd (T_ag tJ_5) j_4 ((T_ag tJ_5 j_4) + 1))) (updB (T_gn (T_setag tJ_5 (upd (T_ag tJ_5) j_4 ((T_ag tJ_5 j_4) + 1)))) j_4 true)) 3), zzI cy (rK 4) 8 (T_kn (T_setgn (T_setag tJ_5 (upd (T_ag tJ_5) j_4 ((T_ag tJ_5 j_4) + 1))) (updB (T_gn (T_setag tJ_5 (upd (T_ag tJ_5) j_4 ((T_ag tJ_5 j_4) + 1)))) j_4 true)) 4), zzI cy (rK 5) 8 (T_kn (T_setgn (T_setag tJ_5 (upd (T_ag tJ_5) j_4 ((T_ag tJ_5 j_4) + 1))) (updB (T_gn (T_setag tJ_5 (upd (T_ag tJ_5) j_4 ((T_ag tJ_5 j_4) + 1)))) j_4 true)) 5), zzI cy (rK 6) 8 (T_kn (T_setgn (T_setag tJ_5 (upd (T_ag tJ_5) j_4 ((T_ag tJ_5 j_4) + 1))) (updB (T_gn (T_setag tJ_5 (upd (T_ag tJ_5) j_4 ((T_ag tJ_5 j_4) + 1)))) j_4 true)) 6), zzI cy (rK 7) 8 (T_kn (T_setgn (T_setag tJ_5 (upd (T_ag tJ_5) j_4 ((T_ag tJ_5 j_4) + 1))) (updB (T_gn (T_setag tJ_5 (upd (T_ag tJ_5) j_4 ((T_ag tJ_5 j_4) + 1)))) j_4 true)) 7)]) (k := j_4) (g1 := onR (T_setgn (T_setag tJ_5 (upd (T_ag tJ_5) j_4 ((T_ag tJ_5 j_4) + 1))) (updB (T_gn (T_setag tJ_5 (upd (T_ag tJ_5) j_4 ((T_ag tJ_5 j_4) + 1)))) j_4 true)) j_4) hP hD (sg8 (n0 := 11) (f := (fun j => zzI cy (rO j) 5 (onR (T_setag tJ_5 (upd (T_ag tJ_5) j_4 ((T_ag tJ_5 j_4) + 1))) j))) rfl rfl rfl rfl rfl rfl rfl rfl) (sg8 (n0 := 11) (f := (fun j => zzI cy (rO j) 5 (onR (T_setgn (T_setag tJ_5 (upd (T_ag tJ_5) j_4 ((T_ag tJ_5 j_4) + 1))) (updB (T_gn (T_setag tJ_5 (upd (T_ag tJ_5) j_4 ((T_ag tJ_5 j_4) + 1)))) j_4 true)) j))) rfl rfl rfl rfl rfl rfl rfl rfl) rfl rfl (by omega) rfl (on_w4 (T_setag tJ_5 (upd (T_ag tJ_5) j_4 ((T_ag tJ_5 j_4) + 1))) j_4 true) (fun j hj => congrArg (zzI cy (rO j) 5) (on_n4 (T_setag tJ_5 (upd (T_ag tJ_5) j_4 ((T_ag tJ_5 j_4) + 1))) j_4 true hj))
            clear hP hD
            obtain ⟨hP, hD⟩ := hPD
            refine lv_iload_n hx hb dX6_end_68 rfl (lv_at hl 2 rfl) ?_
            refine lv_iload_n hx hb dX6_end_69 rfl (lv_at hl 0 rfl) ?_
            refine lv_if_eq (tgt := 77) hx hb dX6_end_70 (by decide) (fun h9 => absurd h9 (by decide)) (fun _ => ?_)
            refine lv_iconst (v := 1) hx hb dX6_end_73 (by decide) ?_
            refine lv_goto (tgt := 78) hx hb dX6_end_74 (by decide) ?_
            refine lv_iadd hx hb dX6_end_78 ?_
            refine lv_istore_n (lv' := [(1, .int (xG_6 + 1)), (3, .int 1), (2, .int (nI j_4)), (0, .ref qm)]) hx hb dX6_end_79 rfl hl (by decide) rfl (fun ls => ?_)
            clear hl
            intro hl
            refine lv_iconst (v := 0) hx hb dX6_end_80 (by decide) ?_
            refine lv_istore (lv' := [(4, .int 0), (1, .int (xG_6 + 1)), (3, .int 1), (2, .int (nI j_4)), (0, .ref qm)]) hx hb dX6_end_81 hl (by decide) rfl (fun ls => ?_)
            clear hl
            intro hl
            have lp_37 : ∀ (n_38 : Nat) (m_40 : Nat) (tK_41 : TA), 8 - m_40 < n_38 → m_40 ≤ T_nb tA → TI tK_41 ∧ T_nb tK_41 = T_nb tA ∧ T_np tK_41 = T_np tA → tK_41 = T_setkn (T_setgn (T_setag tJ_5 (upd (T_ag tJ_5) j_4 ((T_ag tJ_5 j_4) + 1))) (updB (T_gn (T_setag tJ_5 (upd (T_ag tJ_5) j_4 ((T_ag tJ_5 j_4) + 1)))) j_4 true)) (fgK (T_kn tJ_5) j_4 0 m_40) → ∀ (H : Heap) (locs : List Loc) (ls : Array Slot), va_P G CL [zzO qm 5 [v0, v1, v2, v3, v4, v5, v6, v7, v8, v9, .int (nI (T_nb tK_41)), .ref qmB, .int (nI (T_np tK_41)), .ref qmO, .ref qmK, .int iEn, .int iTk, .int (T_sd tK_41), v18, v19, v20, v21, v22, v23, v24, v25, v26, .int iLv, .int iWs, v29, v30, v31, v32, v33, v34], zzG cy 3 qmB rB, zzI cy (rB 0) 4 (bkR tK_41 0), zzI cy (rB 1) 4 (bkR tK_41 1), zzI cy (rB 2) 4 (bkR tK_41 2), zzI cy (rB 3) 4 (bkR tK_41 3), zzI cy (rB 4) 4 (bkR tK_41 4), zzI cy (rB 5) 4 (bkR tK_41 5), zzI cy (rB 6) 4 (bkR tK_41 6), zzI cy (rB 7) 4 (bkR tK_41 7), zzG cy 3 qmO rO, zzI cy (rO 0) 5 (onR tK_41 0), zzI cy (rO 1) 5 (onR tK_41 1), zzI cy (rO 2) 5 (onR tK_41 2), zzI cy (rO 3) 5 (onR tK_41 3), zzI cy (rO 4) 5 (onR tK_41 4), zzI cy (rO 5) 5 (onR tK_41 5), zzI cy (rO 6) 5 (onR tK_41 6), zzI cy (rO 7) 5 (onR tK_41 7), zzG cy 3 qmK rK, zzI cy (rK 0) 8 (T_kn tK_41 0), zzI cy (rK 1) 8 (T_kn tK_41 1), zzI cy (rK 2) 8 (T_kn tK_41 2), zzI cy (rK 3) 8 (T_kn tK_41 3), zzI cy (rK 4) 8 (T_kn tK_41 4), zzI cy (rK 5) 8 (T_kn tK_41 5), zzI cy (rK 6) 8 (T_kn tK_41 6), zzI cy (rK 7) 8 (T_kn tK_41 7)] H → va_D A [zzO qm 5 [v0, v1, v2, v3, v4, v5, v6, v7, v8, v9, .int (nI (T_nb tK_41)), .ref qmB, .int (nI (T_np tK_41)), .ref qmO, .ref qmK, .int iEn, .int iTk, .int (T_sd tK_41), v18, v19, v20, v21, v22, v23, v24, v25, v26, .int iLv, .int iWs, v29, v30, v31, v32, v33, v34], zzG cy 3 qmB rB, zzI cy (rB 0) 4 (bkR tK_41 0), zzI cy (rB 1) 4 (bkR tK_41 1), zzI cy (rB 2) 4 (bkR tK_41 2), zzI cy (rB 3) 4 (bkR tK_41 3), zzI cy (rB 4) 4 (bkR tK_41 4), zzI cy (rB 5) 4 (bkR tK_41 5), zzI cy (rB 6) 4 (bkR tK_41 6), zzI cy (rB 7) 4 (bkR tK_41 7), zzG cy 3 qmO rO, zzI cy (rO 0) 5 (onR tK_41 0), zzI cy (rO 1) 5 (onR tK_41 1), zzI cy (rO 2) 5 (onR tK_41 2), zzI cy (rO 3) 5 (onR tK_41 3), zzI cy (rO 4) 5 (onR tK_41 4), zzI cy (rO 5) 5 (onR tK_41 5), zzI cy (rO 6) 5 (onR tK_41 6), zzI cy (rO 7) 5 (onR tK_41 7), zzG cy 3 qmK rK, zzI cy (rK 0) 8 (T_kn tK_41 0), zzI cy (rK 1) 8 (T_kn tK_41 1), zzI cy (rK 2) 8 (T_kn tK_41 2), zzI cy (rK 3) 8 (T_kn tK_41 3), zzI cy (rK 4) 8 (T_kn tK_41 4), zzI cy (rK 5) 8 (T_kn tK_41 5), zzI cy (rK 6) 8 (T_kn tK_41 6), zzI cy (rK 7) 8 (T_kn tK_41 7)] → va_S A s.heap H locs → lv_has ls 5 [(4, .int (nI m_40)), (1, .int (xG_6 + 1)), (3, .int 1), (2, .int (nI j_4)), (0, .ref qm)] → W p l e (Rm 2 0 0) s m (List.toArray (α := Value) [.ref qm]) below meth c H locs 0 0 (MQ below ((Wi G (fun r u => ∃ (tX : TA) (iX : Int32), u = [zzO qm 5 [v0, v1, v2, v3, v4, v5, v6, v7, v8, v9, .int (nI (T_nb tX)), .ref qmB, .int (nI (T_np tX)), .ref qmO, .ref qmK, .int iX, .int iTk, .int (T_sd tX), v18, v19, v20, v21, v22, v23, v24, v25, v26, .int iLv, .int iWs, v29, v30, v31, v32, v33, v34], zzG cy 3 qmB rB, zzI cy (rB 0) 4 (bkR tX 0), zzI cy (rB 1) 4 (bkR tX 1), zzI cy (rB 2) 4 (bkR tX 2), zzI cy (rB 3) 4 (bkR tX 3), zzI cy (rB 4) 4 (bkR tX 4), zzI cy (rB 5) 4 (bkR tX 5), zzI cy (rB 6) 4 (bkR tX 6), zzI cy (rB 7) 4 (bkR tX 7), zzG cy 3 qmO rO, zzI cy (rO 0) 5 (onR tX 0), zzI cy (rO 1) 5 (onR tX 1), zzI cy (rO 2) 5 (onR tX 2), zzI cy (rO 3) 5 (onR tX 3), zzI cy (rO 4) 5 (onR tX 4), zzI cy (rO 5) 5 (onR tX 5), zzI cy (rO 6) 5 (onR tX 6), zzI cy (rO 7) 5 (onR tX 7), zzG cy 3 qmK rK, zzI cy (rK 0) 8 (T_kn tX 0), zzI cy (rK 1) 8 (T_kn tX 1), zzI cy (rK 2) 8 (T_kn tX 2), zzI cy (rK 3) 8 (T_kn tX 3), zzI cy (rK 4) 8 (T_kn tX 4), zzI cy (rK 5) 8 (T_kn tX 5), zzI cy (rK 6) 8 (T_kn tX 6), zzI cy (rK 7) 8 (T_kn tX 7)] ∧ (TI tX ∧ T_nb tX = T_nb tA ∧ T_np tX = T_np tA) ∧ (tX = zey tA ∧ r = enA tA) ∧ (True))) A) (List.toArray (α := Value) [.ref qm]) s 0 0 A) (F0 m 83 ls []) := by
              intro n_38
              induction n_38 with
              | zero => intro m_40 tK_41 hm9; exact absurd hm9 (Nat.not_lt_zero _)
              | succ n_38 ih_39 =>
                intro m_40 tK_41 hm_45 hm_45 hTK_43 hEK_44 H locs ls hP hD hS hl
                refine lv_iload hx hb dX6_end_83 (lv_at hl 0 rfl) ?_
                refine lv_aload_n hx hb dX6_end_85 rfl (lv_at hl 4 rfl) ?_
                refine va_get (D := G) (ci := 5) (v := .int (nI (T_nb tK_41))) (C := RX6) (T := TX6) (N := 35) hx hb hts iX_X6 hown hK hP 0 rfl rfl 10 (by decide) (hts _ m_t860) (fun _ h9 => h9) rfl dX6_end_86 ?_
                refine lv_icmp_ge (tgt := 139) hx hb dX6_end_89 (by decide) (fun c_46 => ?_) (fun c_46 => ?_)
                · have hlt_47e : T_nb tK_41 = T_nb tA := hTK_43.2.1
                  have hlt_47 : m_40 = T_nb tA := Nat.le_antisymm (by omega) (by rw [hlt_47e] at c_46; exact lp_ge rfl rfl (by omega) (by omega) c_46)
                  refine lv_iinc (v := nI (j_4 + 1)) (lv' := [(2, .int (nI (j_4 + 1))), (4, .int (nI m_40)), (1, .int (xG_6 + 1)), (3, .int 1), (0, .ref qm)]) hx hb dX6_end_139 hl (k := 3) rfl (nI_1 _) (by decide) rfl (fun ls => ?_)
                  clear hl
                  intro hl
                  refine lv_goto (tgt := 4) hx hb dX6_end_142 (by decide) ?_
                  exact ih_3 (j_4 + 1) tK_41 (xG_6 + 1) (by omega) (by omega) hTK_43 (ey_die hAG (by omega) (by omega) hE_9 h_17 (by have h9 := c_19; rw [ag_up] at h9; exact h9) (by rw [hEK_44, hlt_47, hT_8.2.1])) (en_die hE_9 h_17 (by have h9 := c_19; rw [ag_up] at h9; exact h9) hG_10) _ _ _ hP hD hS (lv_sub hl [0, 2, 4] rfl)
                · have hlt_48e : T_nb tK_41 = T_nb tA := hTK_43.2.1
                  have hlt_48 : m_40 < T_nb tA := by rw [hlt_48e] at c_46; exact lp_lt rfl rfl (by omega) (by omega) c_46
                  refine lv_aload_n hx hb dX6_end_92 rfl (lv_at hl 4 rfl) ?_
                  refine va_get (D := G) (ci := 5) (v := .ref qmK) (C := RX6) (T := TX6) (N := 35) hx hb hts iX_X6 hown hK hP 0 rfl rfl 14 (by decide) (hts _ m_t864) (fun _ h9 => h9) rfl dX6_end_93 ?_
                  refine lv_iload_n hx hb dX6_end_96 rfl (lv_at hl 3 rfl) ?_
                  refine va_alda hx hb hK hP 19 3 rfl rfl (in8 (by omega)) dX6_end_97 ?_
                  refine lv_setv (v := .ref (rK j_4)) (g_ref (by omega)) ?_
                  refine lv_iload hx hb dX6_end_98 (lv_at hl 0 rfl) ?_
                  refine lv_iload_n hx hb dX6_end_100 rfl (lv_at hl 2 rfl) ?_
                  refine lv_if_eq (tgt := 108) hx hb dX6_end_101 (by decide) (fun h9 => absurd h9 (by decide)) (fun _ => ?_)
                  refine lv_iconst (v := 0) hx hb dX6_end_104 (by decide) ?_
                  refine lv_goto (tgt := 132) hx hb dX6_end_105 (by decide) ?_
                  refine va_iast hx hb hK hP hD hS (20 + j_4) 0 ((sg8 (n0 := 20) (f := (fun j => zzI cy (rK j) 8 (T_kn tK_41 j))) rfl rfl rfl rfl rfl rfl rfl rfl) j_4 (by omega)) rfl (vp_in_nI (by omega) (by omega)) dX6_end_132 (fun H locs => ?_)
                  clear hP hD hS
                  intro hP hD hS
                  rw [nI_clamp (n := m_40) (by omega)] at hP hD
                  have hPD := st8PD (ws' := [zzO qm 5 [v0, v1, v2, v3, v4, v5, v6, v7, v8, v9, .int (nI (T_nb (T_setkn tK_41 (updM (T_kn tK_41) j_4 m_40 0)))), .ref qmB, .int (nI (T_np (T_setkn tK_41 (updM (T_kn tK_41) j_4 m_40 0)))), .ref qmO, .ref qmK, .int iEn, .int iTk, .int (T_sd (T_setkn tK_41 (updM (T_kn tK_41) j_4 m_40 0))), v18, v19, v20, v21, v22, v23, v24, v25, v26, .int iLv, .int iWs, v29, v30, v31, v32, v33, v34], zzG cy 3 qmB rB, zzI cy (rB 0) 4 (bkR (T_setkn tK_41 (updM (T_kn tK_41) j_4 m_40 0)) 0), zzI cy (rB 1) 4 (bkR (T_setkn tK_41 (updM (T_kn tK_41) j_4 m_40 0)) 1), zzI cy (rB 2) 4 (bkR (T_setkn tK_41 (updM (T_kn tK_41) j_4 m_40 0)) 2), zzI cy (rB 3) 4 (bkR (T_setkn tK_41 (updM (T_kn tK_41) j_4 m_40 0)) 3), zzI cy (rB 4) 4 (bkR (T_setkn tK_41 (updM (T_kn tK_41) j_4 m_40 0)) 4), zzI cy (rB 5) 4 (bkR (T_setkn tK_41 (updM (T_kn tK_41) j_4 m_40 0)) 5), zzI cy (rB 6) 4 (bkR (T_setkn tK_41 (updM (T_kn tK_41) j_4 m_40 0)) 6), zzI cy (rB 7) 4 (bkR (T_setkn tK_41 (updM (T_kn tK_41) j_4 m_40 0)) 7), zzG cy 3 qmO rO, zzI cy (rO 0) 5 (onR (T_setkn tK_41 (updM (T_kn tK_41) j_4 m_40 0)) 0), zzI cy (rO 1) 5 (onR (T_setkn tK_41 (updM (T_kn tK_41) j_4 m_40 0)) 1), zzI cy (rO 2) 5 (onR (T_setkn tK_41 (updM (T_kn tK_41) j_4 m_40 0)) 2), zzI cy (rO 3) 5 (onR (T_setkn tK_41 (updM (T_kn tK_41) j_4 m_40 0)) 3), zzI cy (rO 4) 5 (onR (T_setkn tK_41 (updM (T_kn tK_41) j_4 m_40 0)) 4), zzI cy (rO 5) 5 (onR (T_setkn tK_41 (updM (T_kn tK_41) j_4 m_40 0)) 5), zzI cy (rO 6) 5 (onR (T_setkn tK_41 (updM (T_kn tK_41) j_4 m_40 0)) 6), zzI cy (rO 7) 5 (onR (T_setkn tK_41 (updM (T_kn tK_41) j_4 m_40 0)) 7), zzG cy 3 qmK rK, zzI cy (rK 0) 8 (T_kn (T_setkn tK_41 (updM (T_kn tK_41) j_4 m_40 0)) 0), zzI cy (rK 1) 8 (T_kn (T_setkn tK_41 (updM (T_kn tK_41) j_4 m_40 0)) 1), zzI cy (rK 2) 8 (T_kn (T_setkn tK_41 (updM (T_kn tK_41) j_4 m_40 0)) 2), zzI cy (rK 3) 8 (T_kn (T_setkn tK_41 (updM (T_kn tK_41) j_4 m_40 0)) 3), zzI cy (rK 4) 8 (T_kn (T_setkn tK_41 (updM (T_kn tK_41) j_4 m_40 0)) 4), zzI cy (rK 5) 8 (T_kn (T_setkn tK_41 (updM (T_kn tK_41) j_4 m_40 0)) 5), zzI cy (rK 6) 8 (T_kn (T_setkn tK_41 (updM (T_kn tK_41) j_4 m_40 0)) 6), zzI cy (rK 7) 8 (T_kn (T_setkn tK_41 (updM (T_kn tK_41) j_4 m_40 0)) 7)]) (k := j_4) (g1 := T_kn (T_setkn tK_41 (updM (T_kn tK_41) j_4 m_40 0)) j_4) hP hD (sg8 (n0 := 20) (f := (fun j => zzI cy (rK j) 8 (T_kn tK_41 j))) rfl rfl rfl rfl rfl rfl rfl rfl) (sg8 (n0 := 20) (f := (fun j => zzI cy (rK j) 8 (T_kn (T_setkn tK_41 (updM (T_kn tK_41) j_4 m_40 0)) j))) rfl rfl rfl rfl rfl rfl rfl rfl) rfl rfl (by omega) rfl (fun i _ => (congrFun (kn_u tK_41 j_4 m_40 0) i).symm) (fun j hj => congrArg (zzI cy (rK j) 8) (kn_n tK_41 j_4 m_40 0 hj))
                  clear hP hD
                  obtain ⟨hP, hD⟩ := hPD
                  refine lv_iinc (v := nI (m_40 + 1)) (lv' := [(4, .int (nI (m_40 + 1))), (1, .int (xG_6 + 1)), (3, .int 1), (2, .int (nI j_4)), (0, .ref qm)]) hx hb dX6_end_133 hl (k := 0) rfl (nI_1 _) (by decide) rfl (fun ls => ?_)
                  clear hl
                  intro hl
                  refine lv_goto (tgt := 83) hx hb dX6_end_136 (by decide) ?_
                  exact ih_39 (m_40 + 1) (T_setkn tK_41 (updM (T_kn tK_41) j_4 m_40 0)) (by omega) (by omega) (⟨TI_kn hTK_43.1 (r_0 1000), hTK_43.2⟩) (by rw [hEK_44]; exact ey_i0 _ _ _ _) _ _ _ hP hD hS (lv_sub hl [0, 1, 2, 3, 4] rfl)
            exact lp_37 ((8 - 0) + 1) 0 (T_setgn (T_setag tJ_5 (upd (T_ag tJ_5) j_4 ((T_ag tJ_5 j_4) + 1))) (updB (T_gn (T_setag tJ_5 (upd (T_ag tJ_5) j_4 ((T_ag tJ_5 j_4) + 1)))) j_4 true)) (Nat.lt_succ_self _) (Nat.zero_le _) (⟨hT_8.1, hT_8.2⟩) rfl _ _ ls hP hD hS (lv_sub hl [0, 1, 2, 3, 4] rfl)
        · refine lv_if_eq (tgt := 139) hx hb dX6_end_17 (by decide) (fun _ => ?_) (fun h9 => absurd (by decide) h9)
          refine lv_iinc (v := nI (j_4 + 1)) (lv' := [(2, .int (nI (j_4 + 1))), (1, .int xG_6), (0, .ref qm)]) hx hb dX6_end_139 hl (k := 0) rfl (nI_1 _) (by decide) rfl (fun ls => ?_)
          clear hl
          intro hl
          refine lv_goto (tgt := 4) hx hb dX6_end_142 (by decide) ?_
          exact ih_3 (j_4 + 1) tJ_5 xG_6 (by omega) (by omega) hT_8 (ey_off (by omega) (by omega) hE_9 h_17) (en_off hE_9 h_17 hG_10) _ _ _ hP hD hS (lv_sub hl [0, 1, 2] rfl)
  exact lp_1 ((8 - 0) + 1) 0 tA 0 (Nat.lt_succ_self _) (Nat.zero_le _) (⟨hTI, rfl, rfl⟩) rfl rfl _ _ ls hP hD hS (lv_sub hl [0, 1, 2] rfl)
set_option maxHeartbeats 4000000 in
set_option maxRecDepth 100000 in
theorem x_X6_endsn (l : Launch) (G : va_G) (cy : Nat → ClassId) (sz : Nat) (qm : Nat) (qmh : Nat) (qmo : Nat) (qmz : Nat) (qmR : Nat) (qmv : Nat) (qmk : Nat) (qma : Nat) (qmt : Nat) (kZ : Nat) (qmr : Nat) (tA : TA) (qmB : Nat) (qmO : Nat) (qmK : Nat) (iEn : Int32) (iTk : Int32) (uP : UM) (uU : UM) (kAt : Nat) (iTo : Int32) (iFr : Int32) (JFi : Int64) (iFa : Int32) (qm3 : Nat) (iSt : Int32) (iLv : Int32) (iWs : Int32) (vLa : Value) (qmu : Nat) (qmy : Nat) (qmb : Nat) (qms : Nat) (iOm : Int32) (rB : Nat → Nat) (rO : Nat → Nat) (rK : Nat → Nat)  (hB : T_nb tA ≤ 8) (hPp : T_np tA ≤ 8) (hTI : TI tA) (hWI : WI tA) : MW l yX6_ends cX6_ends 1 (some .int) 16 0 0 G cy [zzO qm 5 [.ref qmh, .ref qmo, .ref qmz, .ref qmR, .ref qmv, .ref qmk, .ref qma, .ref qmt, .int (nI kZ), .ref qmr, .int (nI (T_nb tA)), .ref qmB, .int (nI (T_np tA)), .ref qmO, .ref qmK, .int iEn, .int iTk, .int (T_sd tA), ov uP, ov uU, .int (nI kAt), .int iTo, .int iFr, .long JFi, .int iFa, .ref qm3, .int iSt, .int iLv, .int iWs, vLa, .ref qmu, .ref qmy, .ref qmb, .ref qms, .int iOm], zzG cy 3 qmB rB, zzI cy (rB 0) 4 (bkR tA 0), zzI cy (rB 1) 4 (bkR tA 1), zzI cy (rB 2) 4 (bkR tA 2), zzI cy (rB 3) 4 (bkR tA 3), zzI cy (rB 4) 4 (bkR tA 4), zzI cy (rB 5) 4 (bkR tA 5), zzI cy (rB 6) 4 (bkR tA 6), zzI cy (rB 7) 4 (bkR tA 7), zzG cy 3 qmO rO, zzI cy (rO 0) 5 (onR tA 0), zzI cy (rO 1) 5 (onR tA 1), zzI cy (rO 2) 5 (onR tA 2), zzI cy (rO 3) 5 (onR tA 3), zzI cy (rO 4) 5 (onR tA 4), zzI cy (rO 5) 5 (onR tA 5), zzI cy (rO 6) 5 (onR tA 6), zzI cy (rO 7) 5 (onR tA 7), zzG cy 3 qmK rK, zzI cy (rK 0) 8 (T_kn tA 0), zzI cy (rK 1) 8 (T_kn tA 1), zzI cy (rK 2) 8 (T_kn tA 2), zzI cy (rK 3) 8 (T_kn tA 3), zzI cy (rK 4) 8 (T_kn tA 4), zzI cy (rK 5) 8 (T_kn tA 5), zzI cy (rK 6) 8 (T_kn tA 6), zzI cy (rK 7) 8 (T_kn tA 7)] sz [.ref qm] (Wi G (fun r u => ∃ (iNe : Int32) (tN : TA), u = [zzO qm 5 [.ref qmh, .ref qmo, .ref qmz, .ref qmR, .ref qmv, .ref qmk, .ref qma, .ref qmt, .int (nI kZ), .ref qmr, .int (nI (T_nb tN)), .ref qmB, .int (nI (T_np tN)), .ref qmO, .ref qmK, .int iNe, .int iTk, .int (T_sd tN), ov uP, ov uU, .int (nI kAt), .int iTo, .int iFr, .long JFi, .int iFa, .ref qm3, .int iSt, .int iLv, .int iWs, vLa, .ref qmu, .ref qmy, .ref qmb, .ref qms, .int iOm], zzG cy 3 qmB rB, zzI cy (rB 0) 4 (bkR tN 0), zzI cy (rB 1) 4 (bkR tN 1), zzI cy (rB 2) 4 (bkR tN 2), zzI cy (rB 3) 4 (bkR tN 3), zzI cy (rB 4) 4 (bkR tN 4), zzI cy (rB 5) 4 (bkR tN 5), zzI cy (rB 6) 4 (bkR tN 6), zzI cy (rB 7) 4 (bkR tN 7), zzG cy 3 qmO rO, zzI cy (rO 0) 5 (onR tN 0), zzI cy (rO 1) 5 (onR tN 1), zzI cy (rO 2) 5 (onR tN 2), zzI cy (rO 3) 5 (onR tN 3), zzI cy (rO 4) 5 (onR tN 4), zzI cy (rO 5) 5 (onR tN 5), zzI cy (rO 6) 5 (onR tN 6), zzI cy (rO 7) 5 (onR tN 7), zzG cy 3 qmK rK, zzI cy (rK 0) 8 (T_kn tN 0), zzI cy (rK 1) 8 (T_kn tN 1), zzI cy (rK 2) 8 (T_kn tN 2), zzI cy (rK 3) 8 (T_kn tN 3), zzI cy (rK 4) 8 (T_kn tN 4), zzI cy (rK 5) 8 (T_kn tN 5), zzI cy (rK 6) 8 (T_kn tN 6), zzI cy (rK 7) 8 (T_kn tN 7)] ∧ (WI tN ∧ tN = zey tA ∧ r = enA tA) ∧ (True))) := by
  refine enW RX6 (by decide) rfl (Nat.le_of_ble_eq_true rfl) (fun p e s m below meth c ls A hx hb hml hown hts hr hlocks hP hN hl hin hD hA hS => ?_)
  have hin : meth.name = _ := hin
  have hK := hN.1
  replace hl : lv_has ls 1 [(0, .ref qm)] := hl
  refine lv_aload_n hx hb dX6_ends_0 rfl (lv_at hl 0 rfl) ?_
  refine cVi (As := []) (rest := []) (b := qm) (q := (RX6, TX6, 35)) ⟨hx, hb, hml, hown, hts⟩ (x_X6_endn l G cy (s.heap).size qm (.ref qmh) (.ref qmo) (.ref qmz) (.ref qmR) (.ref qmv) (.ref qmk) (.ref qma) (.ref qmt) (.int (nI kZ)) (.ref qmr) tA qmB qmO qmK iEn iTk (ov uP) (ov uU) (.int (nI kAt)) (.int iTo) (.int iFr) (.long JFi) (.int iFa) (.ref qm3) (.int iSt) iLv iWs vLa (.ref qmu) (.ref qmy) (.ref qmb) (.ref qms) (.int iOm) rB rO rK hB hPp hTI hWI.2.2) L_X6_288 hN hP hD hS hA [0, 1, 2, 3, 4, 5, 6, 7, 8, 9, 10, 11, 12, 13, 14, 15, 16, 17, 18, 19, 20, 21, 22, 23, 24, 25, 26, 27] [false, false, false, false, false, false, false, false, false, false, false, false, false, false, false, false, false, false, false, false, false, false, false, false, false, false, false, false] rfl (by decide +kernel) rfl 0 5 rfl rfl rfl ⟨Nat.le_of_ble_eq_true rfl, Nat.le_of_ble_eq_true rfl⟩ hl.1 (Nat.le_of_ble_eq_true rfl) dX6_ends_1 ⟨Nat.le_of_ble_eq_true rfl, Nat.le_of_ble_eq_true rfl⟩ (fun r_1 u_3 H locs h_2 => ?_)
  clear hP hD hS
  intro hP hD hS
  obtain ⟨tX_4, iX_5, rfl, h_6, h_7, h_2⟩ := h_2
  have hPD := pd_as [zzO qm 5 [.ref qmh, .ref qmo, .ref qmz, .ref qmR, .ref qmv, .ref qmk, .ref qma, .ref qmt, .int (nI kZ), .ref qmr, .int (nI (T_nb tX_4)), .ref qmB, .int (nI (T_np tX_4)), .ref qmO, .ref qmK, .int iX_5, .int iTk, .int (T_sd tX_4), ov uP, ov uU, .int (nI kAt), .int iTo, .int iFr, .long JFi, .int iFa, .ref qm3, .int iSt, .int iLv, .int iWs, vLa, .ref qmu, .ref qmy, .ref qmb, .ref qms, .int iOm], zzG cy 3 qmB rB, zzI cy (rB 0) 4 (bkR tX_4 0), zzI cy (rB 1) 4 (bkR tX_4 1), zzI cy (rB 2) 4 (bkR tX_4 2), zzI cy (rB 3) 4 (bkR tX_4 3), zzI cy (rB 4) 4 (bkR tX_4 4), zzI cy (rB 5) 4 (bkR tX_4 5), zzI cy (rB 6) 4 (bkR tX_4 6), zzI cy (rB 7) 4 (bkR tX_4 7), zzG cy 3 qmO rO, zzI cy (rO 0) 5 (onR tX_4 0), zzI cy (rO 1) 5 (onR tX_4 1), zzI cy (rO 2) 5 (onR tX_4 2), zzI cy (rO 3) 5 (onR tX_4 3), zzI cy (rO 4) 5 (onR tX_4 4), zzI cy (rO 5) 5 (onR tX_4 5), zzI cy (rO 6) 5 (onR tX_4 6), zzI cy (rO 7) 5 (onR tX_4 7), zzG cy 3 qmK rK, zzI cy (rK 0) 8 (T_kn tX_4 0), zzI cy (rK 1) 8 (T_kn tX_4 1), zzI cy (rK 2) 8 (T_kn tX_4 2), zzI cy (rK 3) 8 (T_kn tX_4 3), zzI cy (rK 4) 8 (T_kn tX_4 4), zzI cy (rK 5) 8 (T_kn tX_4 5), zzI cy (rK 6) 8 (T_kn tX_4 6), zzI cy (rK 7) 8 (T_kn tX_4 7)] hP hD rfl
  clear hP hD
  obtain ⟨hP, hD⟩ := hPD
  exact endW (u := [zzO qm 5 [.ref qmh, .ref qmo, .ref qmz, .ref qmR, .ref qmv, .ref qmk, .ref qma, .ref qmt, .int (nI kZ), .ref qmr, .int (nI (T_nb tX_4)), .ref qmB, .int (nI (T_np tX_4)), .ref qmO, .ref qmK, .int iX_5, .int iTk, .int (T_sd tX_4), ov uP, ov uU, .int (nI kAt), .int iTo, .int iFr, .long JFi, .int iFa, .ref qm3, .int iSt, .int iLv, .int iWs, vLa, .ref qmu, .ref qmy, .ref qmb, .ref qms, .int iOm], zzG cy 3 qmB rB, zzI cy (rB 0) 4 (bkR tX_4 0), zzI cy (rB 1) 4 (bkR tX_4 1), zzI cy (rB 2) 4 (bkR tX_4 2), zzI cy (rB 3) 4 (bkR tX_4 3), zzI cy (rB 4) 4 (bkR tX_4 4), zzI cy (rB 5) 4 (bkR tX_4 5), zzI cy (rB 6) 4 (bkR tX_4 6), zzI cy (rB 7) 4 (bkR tX_4 7), zzG cy 3 qmO rO, zzI cy (rO 0) 5 (onR tX_4 0), zzI cy (rO 1) 5 (onR tX_4 1), zzI cy (rO 2) 5 (onR tX_4 2), zzI cy (rO 3) 5 (onR tX_4 3), zzI cy (rO 4) 5 (onR tX_4 4), zzI cy (rO 5) 5 (onR tX_4 5), zzI cy (rO 6) 5 (onR tX_4 6), zzI cy (rO 7) 5 (onR tX_4 7), zzG cy 3 qmK rK, zzI cy (rK 0) 8 (T_kn tX_4 0), zzI cy (rK 1) 8 (T_kn tX_4 1), zzI cy (rK 2) 8 (T_kn tX_4 2), zzI cy (rK 3) 8 (T_kn tX_4 3), zzI cy (rK 4) 8 (T_kn tX_4 4), zzI cy (rK 5) 8 (T_kn tX_4 5), zzI cy (rK 6) 8 (T_kn tX_4 6), zzI cy (rK 7) 8 (T_kn tX_4 7)]) hx hb hr hlocks rfl (hP.sub [0, 1, 2, 3, 4, 5, 6, 7, 8, 9, 10, 11, 12, 13, 14, 15, 16, 17, 18, 19, 20, 21, 22, 23, 24, 25, 26, 27] rfl) (hD.sub [0, 1, 2, 3, 4, 5, 6, 7, 8, 9, 10, 11, 12, 13, 14, 15, 16, 17, 18, 19, 20, 21, 22, 23, 24, 25, 26, 27] (by decide +kernel) rfl) hS ⟨iX_5, tX_4, rfl, ⟨by rw [h_7.1]; exact WI_ey hWI, h_7⟩, trivial⟩ dX6_ends_4
set_option maxHeartbeats 4000000 in
set_option maxRecDepth 100000 in
theorem x_X6_isUnder (l : Launch) (G : va_G) (cy : Nat → ClassId) (iK : Int32) (iA : Int32)   : MR l yX6_isUnder cX6_isUnder 2 (some .boolean) 1 G cy [] [.int iK, .int iA] (vp_Si (fun r => (r = 1 ∧ mun iK iA = true) ∨ (r = 0 ∧ mun iK iA = false))) := by
  refine enR RX6 (by decide) rfl (Nat.le_of_ble_eq_true rfl) (fun p e s m below meth c ls hx hb hml hown hts hr hlocks hP hN hl => ?_)
  have hK := hN.1
  replace hl : lv_has ls 2 [(0, .int iK), (1, .int iA)] := hl
  refine lv_iload_n hx hb dX6_isUnder_0 rfl (lv_at hl 1 rfl) ?_
  refine lv_if_eq (tgt := 29) hx hb dX6_isUnder_1 (by decide) (fun c_1 => ?_) (fun c_1 => ?_)
  · refine lv_iconst (v := 1) hx hb dX6_isUnder_29 (by decide) ?_
    refine lv_goto (tgt := 34) hx hb dX6_isUnder_30 (by decide) ?_
    exact endR hx hb hr hlocks rfl (Or.inl (⟨rfl, (by unfold mun; rw [decide_eq_true c_1] <;> rfl)⟩)) dX6_isUnder_34
  · refine lv_iload_n hx hb dX6_isUnder_4 rfl (lv_at hl 0 rfl) ?_
    refine lv_iload_n hx hb dX6_isUnder_5 rfl (lv_at hl 1 rfl) ?_
    refine lv_icmp_eq (tgt := 29) hx hb dX6_isUnder_6 (by decide) (fun c_2 => ?_) (fun c_2 => ?_)
    · refine lv_iconst (v := 1) hx hb dX6_isUnder_29 (by decide) ?_
      refine lv_goto (tgt := 34) hx hb dX6_isUnder_30 (by decide) ?_
      exact endR hx hb hr hlocks rfl (Or.inl (⟨rfl, (by unfold mun; rw [decide_eq_false c_1, decide_eq_true c_2, Bool.true_or, Bool.or_true])⟩)) dX6_isUnder_34
    · refine lv_iload_n hx hb dX6_isUnder_9 rfl (lv_at hl 1 rfl) ?_
      refine lv_iconst (v := 1) hx hb dX6_isUnder_10 (by decide) ?_
      refine lv_icmp_ne (tgt := 19) hx hb dX6_isUnder_11 (by decide) (fun c_3 => ?_) (fun c_3 => ?_)
      · refine lv_iload_n hx hb dX6_isUnder_19 rfl (lv_at hl 1 rfl) ?_
        refine lv_iconst (v := 4) hx hb dX6_isUnder_20 (by decide) ?_
        refine lv_icmp_ne (tgt := 33) hx hb dX6_isUnder_21 (by decide) (fun c_4 => ?_) (fun c_4 => ?_)
        · refine lv_iconst (v := 0) hx hb dX6_isUnder_33 (by decide) ?_
          exact endR hx hb hr hlocks rfl (Or.inr (⟨rfl, (by unfold mun; rw [decide_eq_false c_1, decide_eq_false c_2, decide_eq_false c_3, decide_eq_false c_4] <;> rfl)⟩)) dX6_isUnder_34
        · refine lv_iload_n hx hb dX6_isUnder_24 rfl (lv_at hl 0 rfl) ?_
          refine lv_iconst (v := 4) hx hb dX6_isUnder_25 (by decide) ?_
          refine lv_icmp_lt (tgt := 33) hx hb dX6_isUnder_26 (by decide) (fun c_5 => ?_) (fun c_5 => ?_)
          · refine lv_iconst (v := 0) hx hb dX6_isUnder_33 (by decide) ?_
            exact endR hx hb hr hlocks rfl (Or.inr (⟨rfl, (by unfold mun; rw [decide_eq_false c_1, decide_eq_false c_2, decide_eq_false c_3, decide_eq_true c_4, decide_eq_false (Int32.not_le.mpr c_5)] <;> rfl)⟩)) dX6_isUnder_34
          · refine lv_iconst (v := 1) hx hb dX6_isUnder_29 (by decide) ?_
            refine lv_goto (tgt := 34) hx hb dX6_isUnder_30 (by decide) ?_
            exact endR hx hb hr hlocks rfl (Or.inl (⟨rfl, (by unfold mun; rw [decide_eq_false c_1, decide_eq_false c_2, decide_eq_false c_3, decide_eq_true c_4, decide_eq_true (Int32.not_lt.mp c_5)] <;> rfl)⟩)) dX6_isUnder_34
      · refine lv_iload_n hx hb dX6_isUnder_14 rfl (lv_at hl 0 rfl) ?_
        refine lv_iconst (v := 3) hx hb dX6_isUnder_15 (by decide) ?_
        refine lv_icmp_le (tgt := 29) hx hb dX6_isUnder_16 (by decide) (fun c_6 => ?_) (fun c_6 => ?_)
        · refine lv_iconst (v := 1) hx hb dX6_isUnder_29 (by decide) ?_
          refine lv_goto (tgt := 34) hx hb dX6_isUnder_30 (by decide) ?_
          exact endR hx hb hr hlocks rfl (Or.inl (⟨rfl, (by unfold mun; rw [decide_eq_false c_1, decide_eq_false c_2, decide_eq_true c_3, decide_eq_true c_6] <;> rfl)⟩)) dX6_isUnder_34
        · refine lv_iload_n hx hb dX6_isUnder_19 rfl (lv_at hl 1 rfl) ?_
          refine lv_iconst (v := 4) hx hb dX6_isUnder_20 (by decide) ?_
          refine lv_icmp_ne (tgt := 33) hx hb dX6_isUnder_21 (by decide) (fun c_7 => ?_) (fun c_7 => ?_)
          · refine lv_iconst (v := 0) hx hb dX6_isUnder_33 (by decide) ?_
            exact endR hx hb hr hlocks rfl (Or.inr (⟨rfl, (by unfold mun; rw [decide_eq_false c_1, decide_eq_false c_2, decide_eq_true c_3, decide_eq_false c_6, decide_eq_false c_7] <;> rfl)⟩)) dX6_isUnder_34
          · refine lv_iload_n hx hb dX6_isUnder_24 rfl (lv_at hl 0 rfl) ?_
            refine lv_iconst (v := 4) hx hb dX6_isUnder_25 (by decide) ?_
            refine lv_icmp_lt (tgt := 33) hx hb dX6_isUnder_26 (by decide) (fun c_8 => ?_) (fun c_8 => ?_)
            · refine lv_iconst (v := 0) hx hb dX6_isUnder_33 (by decide) ?_
              exact endR hx hb hr hlocks rfl (Or.inr (⟨rfl, (by unfold mun; rw [decide_eq_false c_1, decide_eq_false c_2, decide_eq_true c_3, decide_eq_false c_6, decide_eq_true c_7, decide_eq_false (Int32.not_le.mpr c_8)] <;> rfl)⟩)) dX6_isUnder_34
            · refine lv_iconst (v := 1) hx hb dX6_isUnder_29 (by decide) ?_
              refine lv_goto (tgt := 34) hx hb dX6_isUnder_30 (by decide) ?_
              exact endR hx hb hr hlocks rfl (Or.inl (⟨rfl, (by unfold mun; rw [decide_eq_false c_1, decide_eq_false c_2, decide_eq_true c_3, decide_eq_false c_6, decide_eq_true c_7, decide_eq_true (Int32.not_lt.mp c_8)] <;> rfl)⟩)) dX6_isUnder_34
set_option maxHeartbeats 4000000 in
set_option maxRecDepth 100000 in
theorem x_X6_says (l : Launch) (G : va_G) (cy : Nat → ClassId) (sz : Nat) (qm : Nat) (qmh : Nat) (qmo : Nat) (qmz : Nat) (qmR : Nat) (qmv : Nat) (qmk : Nat) (qma : Nat) (qmt : Nat) (kZ : Nat) (qmr : Nat) (tA : TA) (qmB : Nat) (qmO : Nat) (qmK : Nat) (iEn : Int32) (iTk : Int32) (uP : UM) (uU : UM) (kAt : Nat) (iTo : Int32) (iFr : Int32) (JFi : Int64) (iFa : Int32) (qm3 : Nat) (iSt : Int32) (iLv : Int32) (iWs : Int32) (vLa : Value) (qmu : Nat) (qmy : Nat) (qmb : Nat) (qms : Nat) (iOm : Int32) (fMh : Nat → Int32) (fMk : Nat → Int32) (fMa : Nat → Int32) (fMr : Nat → Int32) (rB : Nat → Nat) (rO : Nat → Nat) (rK : Nat → Nat) (iA : Int32) (iB : Int32)  (hMk : ∀ s, s < 8 → ¬ fMh s = 1 → ¬ fMh s = 0 → Iv (fMk s).toInt64 1 6) (hM2 : ∀ s, s < 8 → ¬ fMh s = 1 → ¬ fMh s = 0 → fMh s = 2) (hB : T_nb tA ≤ 8) (hPp : T_np tA ≤ 8) (hTI : TI tA) (hMa : ∀ s, s < 8 → ∃ n : Nat, n ≤ 99 ∧ fMa s = nI n) (hWI : WI tA) : MW l yX6_says cX6_says 4 (some .int) 16 50 888 G cy ([zzO qm 5 [.ref qmh, .ref qmo, .ref qmz, .ref qmR, .ref qmv, .ref qmk, .ref qma, .ref qmt, .int (nI kZ), .ref qmr, .int (nI (T_nb tA)), .ref qmB, .int (nI (T_np tA)), .ref qmO, .ref qmK, .int iEn, .int iTk, .int (T_sd tA), ov uP, ov uU, .int (nI kAt), .int iTo, .int iFr, .long JFi, .int iFa, .ref qm3, .int iSt, .int iLv, .int iWs, vLa, .ref qmu, .ref qmy, .ref qmb, .ref qms, .int iOm], zzI cy qmh 8 fMh, zzI cy qmk 8 fMk, zzI cy qma 8 fMa, zzI cy qmr 8 fMr, zzG cy 3 qmB rB, zzI cy (rB 0) 4 (bkR tA 0), zzI cy (rB 1) 4 (bkR tA 1), zzI cy (rB 2) 4 (bkR tA 2), zzI cy (rB 3) 4 (bkR tA 3), zzI cy (rB 4) 4 (bkR tA 4), zzI cy (rB 5) 4 (bkR tA 5), zzI cy (rB 6) 4 (bkR tA 6), zzI cy (rB 7) 4 (bkR tA 7), zzG cy 3 qmO rO, zzI cy (rO 0) 5 (onR tA 0), zzI cy (rO 1) 5 (onR tA 1), zzI cy (rO 2) 5 (onR tA 2), zzI cy (rO 3) 5 (onR tA 3), zzI cy (rO 4) 5 (onR tA 4), zzI cy (rO 5) 5 (onR tA 5), zzI cy (rO 6) 5 (onR tA 6), zzI cy (rO 7) 5 (onR tA 7), zzG cy 3 qmK rK, zzI cy (rK 0) 8 (T_kn tA 0), zzI cy (rK 1) 8 (T_kn tA 1), zzI cy (rK 2) 8 (T_kn tA 2), zzI cy (rK 3) 8 (T_kn tA 3), zzI cy (rK 4) 8 (T_kn tA 4), zzI cy (rK 5) 8 (T_kn tA 5), zzI cy (rK 6) 8 (T_kn tA 6), zzI cy (rK 7) 8 (T_kn tA 7)] ++ oM cy uU) sz [.ref qm, .int iA, .int iB] (Wi G (fun r u => ∃ (fNr : Nat → Int32) (uN : UM), u = ([zzO qm 5 [.ref qmh, .ref qmo, .ref qmz, .ref qmR, .ref qmv, .ref qmk, .ref qma, .ref qmt, .int (nI kZ), .ref qmr, .int (nI (T_nb tA)), .ref qmB, .int (nI (T_np tA)), .ref qmO, .ref qmK, .int iEn, .int iTk, .int (T_sd tA), ov uP, ov uN, .int (nI kAt), .int iTo, .int iFr, .long JFi, .int iFa, .ref qm3, .int iSt, .int iLv, .int iWs, vLa, .ref qmu, .ref qmy, .ref qmb, .ref qms, .int iOm], zzI cy qmh 8 fMh, zzI cy qmk 8 fMk, zzI cy qma 8 fMa, zzI cy qmr 8 fNr, zzG cy 3 qmB rB, zzI cy (rB 0) 4 (bkR tA 0), zzI cy (rB 1) 4 (bkR tA 1), zzI cy (rB 2) 4 (bkR tA 2), zzI cy (rB 3) 4 (bkR tA 3), zzI cy (rB 4) 4 (bkR tA 4), zzI cy (rB 5) 4 (bkR tA 5), zzI cy (rB 6) 4 (bkR tA 6), zzI cy (rB 7) 4 (bkR tA 7), zzG cy 3 qmO rO, zzI cy (rO 0) 5 (onR tA 0), zzI cy (rO 1) 5 (onR tA 1), zzI cy (rO 2) 5 (onR tA 2), zzI cy (rO 3) 5 (onR tA 3), zzI cy (rO 4) 5 (onR tA 4), zzI cy (rO 5) 5 (onR tA 5), zzI cy (rO 6) 5 (onR tA 6), zzI cy (rO 7) 5 (onR tA 7), zzG cy 3 qmK rK, zzI cy (rK 0) 8 (T_kn tA 0), zzI cy (rK 1) 8 (T_kn tA 1), zzI cy (rK 2) 8 (T_kn tA 2), zzI cy (rK 3) 8 (T_kn tA 3), zzI cy (rK 4) 8 (T_kn tA 4), zzI cy (rK 5) 8 (T_kn tA 5), zzI cy (rK 6) 8 (T_kn tA 6), zzI cy (rK 7) 8 (T_kn tA 7)] ++ oM cy uN) ∧ (PMs fMh fMk iA iB (fun k => sayF (fMk k) (fMa k) tA iB) r) ∧ (True))) := by
  refine enW RX6 (by decide) rfl (Nat.le_of_ble_eq_true rfl) (fun p e s m below meth c ls A hx hb hml hown hts hr hlocks hP hN hl hin hD hA hS => ?_)
  have hin : meth.name = _ := hin
  have hK := hN.1
  replace hl : lv_has ls 4 [(0, .ref qm), (1, .int iA), (2, .int iB)] := hl
  refine lv_iload_n hx hb dX6_says_0 rfl (lv_at hl 1 rfl) ?_
  refine lv_i2l (v := iA.toInt64) hx hb dX6_says_1 rfl ?_
  refine lv_lconst (v := 0) hx hb dX6_says_2 (by decide) ?_
  refine lv_ldc2 hx hb hown (hts _ m_t960) dX6_says_3 ?_
  refine kRi (rS (As := [.long iA.toInt64, .long 0, .long 7]) (rest := []) ⟨hx, hb, hml, hown, hts⟩ (c_X6_in l G cy iA.toInt64 0 7) L_X6_74 (preRS hN hP [] rfl) rfl ⟨Nat.le_of_ble_eq_true rfl, Nat.le_of_ble_eq_true rfl⟩ hl.1 (Nat.le_of_ble_eq_true rfl) dX6_says_6 ⟨Nat.le_of_ble_eq_true rfl, Nat.le_of_ble_eq_true rfl⟩) (fun r_1 h_2 => ?_)
  rcases h_2 with ⟨rfl, h_3⟩ | ⟨rfl, h_3⟩
  · obtain ⟨k_4, hk_5, hk_6, rfl⟩ := iv_nI 0 7 (by decide) (by decide) h_3
    refine lv_if_eq (tgt := 24) hx hb dX6_says_9 (by decide) (fun h9 => absurd h9 (by decide)) (fun _ => ?_)
    refine lv_iload_n hx hb dX6_says_12 rfl (lv_at hl 2 rfl) ?_
    refine lv_i2l (v := iB.toInt64) hx hb dX6_says_13 rfl ?_
    refine lv_lconst (v := 0) hx hb dX6_says_14 (by decide) ?_
    refine lv_ldc2 hx hb hown (hts _ m_t997) dX6_says_15 ?_
    refine kRi (rS (As := [.long iB.toInt64, .long 0, .long 6]) (rest := []) ⟨hx, hb, hml, hown, hts⟩ (c_X6_in l G cy iB.toInt64 0 6) L_X6_74 (preRS hN hP [] rfl) rfl ⟨Nat.le_of_ble_eq_true rfl, Nat.le_of_ble_eq_true rfl⟩ hl.1 (Nat.le_of_ble_eq_true rfl) dX6_says_18 ⟨Nat.le_of_ble_eq_true rfl, Nat.le_of_ble_eq_true rfl⟩) (fun r_8 h_9 => ?_)
    rcases h_9 with ⟨rfl, h_10⟩ | ⟨rfl, h_10⟩
    · refine lv_if_ne (tgt := 31) hx hb dX6_says_21 (by decide) (fun _ => ?_) (fun h9 => absurd h9 (by decide))
      refine lv_aload_n hx hb dX6_says_31 rfl (lv_at hl 0 rfl) ?_
      refine va_get (D := G) (ci := 5) (v := .ref qmh) (C := RX6) (T := TX6) (N := 35) hx hb hts iX_X6 hown hK hP 0 rfl rfl 0 (by decide) (hts _ m_t850) (fun _ h9 => h9) rfl dX6_says_32 ?_
      refine lv_iload_n hx hb dX6_says_35 rfl (lv_at hl 1 rfl) ?_
      refine va_iald hx hb hK hP 1 0 rfl rfl (in_shelf h_3) dX6_says_36 ?_
      refine lv_seti (v := fMh k_4) (congrArg fMh (cl8 (by omega))) ?_
      refine lv_iconst (v := 1) hx hb dX6_says_37 (by decide) ?_
      refine lv_icmp_eq (tgt := 64) hx hb dX6_says_38 (by decide) (fun c_12 => ?_) (fun c_12 => ?_)
      · refine lv_aload_n hx hb dX6_says_64 rfl (lv_at hl 0 rfl) ?_
        refine lv_bipush (v := (-3)) hx hb dX6_says_65 (by decide) ?_
        refine cViQ (As := [.int (-3)]) (rest := []) (b := qm) (q := (RX6, TX6, 35)) ⟨hx, hb, hml, hown, hts⟩ (c_X6_refuse3 l G cy (s.heap).size qm (.ref qmh) (.ref qmo) (.ref qmz) (.ref qmR) (.ref qmv) (.ref qmk) (.ref qma) (.ref qmt) (.int (nI kZ)) qmr tA qmB qmO qmK iEn iTk (ov uP) (ov uU) (.int (nI kAt)) (.int iTo) (.int iFr) (.long JFi) (.int iFa) (.ref qm3) (.int iSt) iLv iWs vLa (.ref qmu) (.ref qmy) (.ref qmb) (.ref qms) (.int iOm) fMr) L_X6_91 hN hP hD hS hA [0, 4] [false, true, true, true, false, true, true, true, true, true, true, true, true, true, true, true, true, true, true, true, true, true, true, true, true, true, true, true, true, true, true, true] rfl (by decide +kernel) rfl 0 5 rfl rfl rfl ⟨Nat.le_of_ble_eq_true rfl, Nat.le_of_ble_eq_true rfl⟩ hl.1 (Nat.le_of_ble_eq_true rfl) dX6_says_67 ⟨Nat.le_of_ble_eq_true rfl, Nat.le_of_ble_eq_true rfl⟩ (fun r_13 u_15 H locs h_14 => ?_)
        clear hP hD hS
        intro hP hD hS
        obtain ⟨fX_16, rfl, h_14⟩ := h_14
        have hPD := pd_as ([zzI cy qmh 8 fMh, zzI cy qmk 8 fMk, zzI cy qma 8 fMa, zzG cy 3 qmB rB, zzI cy (rB 0) 4 (bkR tA 0), zzI cy (rB 1) 4 (bkR tA 1), zzI cy (rB 2) 4 (bkR tA 2), zzI cy (rB 3) 4 (bkR tA 3), zzI cy (rB 4) 4 (bkR tA 4), zzI cy (rB 5) 4 (bkR tA 5), zzI cy (rB 6) 4 (bkR tA 6), zzI cy (rB 7) 4 (bkR tA 7), zzG cy 3 qmO rO, zzI cy (rO 0) 5 (onR tA 0), zzI cy (rO 1) 5 (onR tA 1), zzI cy (rO 2) 5 (onR tA 2), zzI cy (rO 3) 5 (onR tA 3), zzI cy (rO 4) 5 (onR tA 4), zzI cy (rO 5) 5 (onR tA 5), zzI cy (rO 6) 5 (onR tA 6), zzI cy (rO 7) 5 (onR tA 7), zzG cy 3 qmK rK, zzI cy (rK 0) 8 (T_kn tA 0), zzI cy (rK 1) 8 (T_kn tA 1), zzI cy (rK 2) 8 (T_kn tA 2), zzI cy (rK 3) 8 (T_kn tA 3), zzI cy (rK 4) 8 (T_kn tA 4), zzI cy (rK 5) 8 (T_kn tA 5), zzI cy (rK 6) 8 (T_kn tA 6), zzI cy (rK 7) 8 (T_kn tA 7), zzO qm 5 [.ref qmh, .ref qmo, .ref qmz, .ref qmR, .ref qmv, .ref qmk, .ref qma, .ref qmt, .int (nI kZ), .ref qmr, .int (nI (T_nb tA)), .ref qmB, .int (nI (T_np tA)), .ref qmO, .ref qmK, .int iEn, .int iTk, .int (T_sd tA), ov uP, ov uU, .int (nI kAt), .int iTo, .int iFr, .long JFi, .int iFa, .ref qm3, .int iSt, .int iLv, .int iWs, vLa, .ref qmu, .ref qmy, .ref qmb, .ref qms, .int iOm], zzI cy qmr 8 fX_16] ++ oM cy uU) hP hD rfl
        clear hP hD
        obtain ⟨hP, hD⟩ := hPD
        subst h_14
        refine W.widen (k := 50) (n := 888) (Nat.le_of_ble_eq_true rfl) (Nat.le_of_ble_eq_true rfl) ?_
        exact endW (u := ([zzO qm 5 [.ref qmh, .ref qmo, .ref qmz, .ref qmR, .ref qmv, .ref qmk, .ref qma, .ref qmt, .int (nI kZ), .ref qmr, .int (nI (T_nb tA)), .ref qmB, .int (nI (T_np tA)), .ref qmO, .ref qmK, .int iEn, .int iTk, .int (T_sd tA), ov uP, ov uU, .int (nI kAt), .int iTo, .int iFr, .long JFi, .int iFa, .ref qm3, .int iSt, .int iLv, .int iWs, vLa, .ref qmu, .ref qmy, .ref qmb, .ref qms, .int iOm], zzI cy qmh 8 fMh, zzI cy qmk 8 fMk, zzI cy qma 8 fMa, zzI cy qmr 8 fX_16, zzG cy 3 qmB rB, zzI cy (rB 0) 4 (bkR tA 0), zzI cy (rB 1) 4 (bkR tA 1), zzI cy (rB 2) 4 (bkR tA 2), zzI cy (rB 3) 4 (bkR tA 3), zzI cy (rB 4) 4 (bkR tA 4), zzI cy (rB 5) 4 (bkR tA 5), zzI cy (rB 6) 4 (bkR tA 6), zzI cy (rB 7) 4 (bkR tA 7), zzG cy 3 qmO rO, zzI cy (rO 0) 5 (onR tA 0), zzI cy (rO 1) 5 (onR tA 1), zzI cy (rO 2) 5 (onR tA 2), zzI cy (rO 3) 5 (onR tA 3), zzI cy (rO 4) 5 (onR tA 4), zzI cy (rO 5) 5 (onR tA 5), zzI cy (rO 6) 5 (onR tA 6), zzI cy (rO 7) 5 (onR tA 7), zzG cy 3 qmK rK, zzI cy (rK 0) 8 (T_kn tA 0), zzI cy (rK 1) 8 (T_kn tA 1), zzI cy (rK 2) 8 (T_kn tA 2), zzI cy (rK 3) 8 (T_kn tA 3), zzI cy (rK 4) 8 (T_kn tA 4), zzI cy (rK 5) 8 (T_kn tA 5), zzI cy (rK 6) 8 (T_kn tA 6), zzI cy (rK 7) 8 (T_kn tA 7)] ++ oM cy uU)) hx hb hr hlocks rfl (hP.part [30, 0, 1, 2, 31, 3, 4, 5, 6, 7, 8, 9, 10, 11, 12, 13, 14, 15, 16, 17, 18, 19, 20, 21, 22, 23, 24, 25, 26, 27, 28, 29] rfl) (hD.part [30, 0, 1, 2, 31, 3, 4, 5, 6, 7, 8, 9, 10, 11, 12, 13, 14, 15, 16, 17, 18, 19, 20, 21, 22, 23, 24, 25, 26, 27, 28, 29] (by decide +kernel) rfl) hS ⟨fX_16, uU, rfl, Or.inr (Or.inl ⟨rfl, h_10, k_4, by omega, rfl, Or.inl c_12⟩), trivial⟩ dX6_says_70
      · refine lv_aload_n hx hb dX6_says_41 rfl (lv_at hl 0 rfl) ?_
        refine va_get (D := G) (ci := 5) (v := .ref qmh) (C := RX6) (T := TX6) (N := 35) hx hb hts iX_X6 hown hK hP 0 rfl rfl 0 (by decide) (hts _ m_t850) (fun _ h9 => h9) rfl dX6_says_42 ?_
        refine lv_iload_n hx hb dX6_says_45 rfl (lv_at hl 1 rfl) ?_
        refine va_iald hx hb hK hP 1 0 rfl rfl (in_shelf h_3) dX6_says_46 ?_
        refine lv_seti (v := fMh k_4) (congrArg fMh (cl8 (by omega))) ?_
        refine lv_iconst (v := 2) hx hb dX6_says_47 (by decide) ?_
        refine lv_icmp_ne (tgt := 71) hx hb dX6_says_48 (by decide) (fun c_17 => ?_) (fun c_17 => ?_)
        · refine lv_aload_n hx hb dX6_says_71 rfl (lv_at hl 0 rfl) ?_
          refine va_get (D := G) (ci := 5) (v := .ref qmh) (C := RX6) (T := TX6) (N := 35) hx hb hts iX_X6 hown hK hP 0 rfl rfl 0 (by decide) (hts _ m_t850) (fun _ h9 => h9) rfl dX6_says_72 ?_
          refine lv_iload_n hx hb dX6_says_75 rfl (lv_at hl 1 rfl) ?_
          refine va_iald hx hb hK hP 1 0 rfl rfl (in_shelf h_3) dX6_says_76 ?_
          refine lv_seti (v := fMh k_4) (congrArg fMh (cl8 (by omega))) ?_
          refine lv_if_ne (tgt := 87) hx hb dX6_says_77 (by decide) (fun c_18 => ?_) (fun c_18 => ?_)
          · exact absurd (hM2 k_4 (by omega) c_12 c_18) c_17
          · refine lv_aload_n hx hb dX6_says_80 rfl (lv_at hl 0 rfl) ?_
            refine lv_bipush (v := (-4)) hx hb dX6_says_81 (by decide) ?_
            refine cViQ (As := [.int (-4)]) (rest := []) (b := qm) (q := (RX6, TX6, 35)) ⟨hx, hb, hml, hown, hts⟩ (c_X6_refuse4 l G cy (s.heap).size qm (.ref qmh) (.ref qmo) (.ref qmz) (.ref qmR) (.ref qmv) (.ref qmk) (.ref qma) (.ref qmt) (.int (nI kZ)) qmr tA qmB qmO qmK iEn iTk (ov uP) (ov uU) (.int (nI kAt)) (.int iTo) (.int iFr) (.long JFi) (.int iFa) (.ref qm3) (.int iSt) iLv iWs vLa (.ref qmu) (.ref qmy) (.ref qmb) (.ref qms) (.int iOm) fMr) L_X6_91 hN hP hD hS hA [0, 4] [false, true, true, true, false, true, true, true, true, true, true, true, true, true, true, true, true, true, true, true, true, true, true, true, true, true, true, true, true, true, true, true] rfl (by decide +kernel) rfl 0 5 rfl rfl rfl ⟨Nat.le_of_ble_eq_true rfl, Nat.le_of_ble_eq_true rfl⟩ hl.1 (Nat.le_of_ble_eq_true rfl) dX6_says_83 ⟨Nat.le_of_ble_eq_true rfl, Nat.le_of_ble_eq_true rfl⟩ (fun r_19 u_21 H locs h_20 => ?_)
            clear hP hD hS
            intro hP hD hS
            obtain ⟨fX_22, rfl, h_20⟩ := h_20
            have hPD := pd_as ([zzI cy qmh 8 fMh, zzI cy qmk 8 fMk, zzI cy qma 8 fMa, zzG cy 3 qmB rB, zzI cy (rB 0) 4 (bkR tA 0), zzI cy (rB 1) 4 (bkR tA 1), zzI cy (rB 2) 4 (bkR tA 2), zzI cy (rB 3) 4 (bkR tA 3), zzI cy (rB 4) 4 (bkR tA 4), zzI cy (rB 5) 4 (bkR tA 5), zzI cy (rB 6) 4 (bkR tA 6), zzI cy (rB 7) 4 (bkR tA 7), zzG cy 3 qmO rO, zzI cy (rO 0) 5 (onR tA 0), zzI cy (rO 1) 5 (onR tA 1), zzI cy (rO 2) 5 (onR tA 2), zzI cy (rO 3) 5 (onR tA 3), zzI cy (rO 4) 5 (onR tA 4), zzI cy (rO 5) 5 (onR tA 5), zzI cy (rO 6) 5 (onR tA 6), zzI cy (rO 7) 5 (onR tA 7), zzG cy 3 qmK rK, zzI cy (rK 0) 8 (T_kn tA 0), zzI cy (rK 1) 8 (T_kn tA 1), zzI cy (rK 2) 8 (T_kn tA 2), zzI cy (rK 3) 8 (T_kn tA 3), zzI cy (rK 4) 8 (T_kn tA 4), zzI cy (rK 5) 8 (T_kn tA 5), zzI cy (rK 6) 8 (T_kn tA 6), zzI cy (rK 7) 8 (T_kn tA 7), zzO qm 5 [.ref qmh, .ref qmo, .ref qmz, .ref qmR, .ref qmv, .ref qmk, .ref qma, .ref qmt, .int (nI kZ), .ref qmr, .int (nI (T_nb tA)), .ref qmB, .int (nI (T_np tA)), .ref qmO, .ref qmK, .int iEn, .int iTk, .int (T_sd tA), ov uP, ov uU, .int (nI kAt), .int iTo, .int iFr, .long JFi, .int iFa, .ref qm3, .int iSt, .int iLv, .int iWs, vLa, .ref qmu, .ref qmy, .ref qmb, .ref qms, .int iOm], zzI cy qmr 8 fX_22] ++ oM cy uU) hP hD rfl
            clear hP hD
            obtain ⟨hP, hD⟩ := hPD
            subst h_20
            refine W.widen (k := 50) (n := 888) (Nat.le_of_ble_eq_true rfl) (Nat.le_of_ble_eq_true rfl) ?_
            exact endW (u := ([zzO qm 5 [.ref qmh, .ref qmo, .ref qmz, .ref qmR, .ref qmv, .ref qmk, .ref qma, .ref qmt, .int (nI kZ), .ref qmr, .int (nI (T_nb tA)), .ref qmB, .int (nI (T_np tA)), .ref qmO, .ref qmK, .int iEn, .int iTk, .int (T_sd tA), ov uP, ov uU, .int (nI kAt), .int iTo, .int iFr, .long JFi, .int iFa, .ref qm3, .int iSt, .int iLv, .int iWs, vLa, .ref qmu, .ref qmy, .ref qmb, .ref qms, .int iOm], zzI cy qmh 8 fMh, zzI cy qmk 8 fMk, zzI cy qma 8 fMa, zzI cy qmr 8 fX_22, zzG cy 3 qmB rB, zzI cy (rB 0) 4 (bkR tA 0), zzI cy (rB 1) 4 (bkR tA 1), zzI cy (rB 2) 4 (bkR tA 2), zzI cy (rB 3) 4 (bkR tA 3), zzI cy (rB 4) 4 (bkR tA 4), zzI cy (rB 5) 4 (bkR tA 5), zzI cy (rB 6) 4 (bkR tA 6), zzI cy (rB 7) 4 (bkR tA 7), zzG cy 3 qmO rO, zzI cy (rO 0) 5 (onR tA 0), zzI cy (rO 1) 5 (onR tA 1), zzI cy (rO 2) 5 (onR tA 2), zzI cy (rO 3) 5 (onR tA 3), zzI cy (rO 4) 5 (onR tA 4), zzI cy (rO 5) 5 (onR tA 5), zzI cy (rO 6) 5 (onR tA 6), zzI cy (rO 7) 5 (onR tA 7), zzG cy 3 qmK rK, zzI cy (rK 0) 8 (T_kn tA 0), zzI cy (rK 1) 8 (T_kn tA 1), zzI cy (rK 2) 8 (T_kn tA 2), zzI cy (rK 3) 8 (T_kn tA 3), zzI cy (rK 4) 8 (T_kn tA 4), zzI cy (rK 5) 8 (T_kn tA 5), zzI cy (rK 6) 8 (T_kn tA 6), zzI cy (rK 7) 8 (T_kn tA 7)] ++ oM cy uU)) hx hb hr hlocks rfl (hP.part [30, 0, 1, 2, 31, 3, 4, 5, 6, 7, 8, 9, 10, 11, 12, 13, 14, 15, 16, 17, 18, 19, 20, 21, 22, 23, 24, 25, 26, 27, 28, 29] rfl) (hD.part [30, 0, 1, 2, 31, 3, 4, 5, 6, 7, 8, 9, 10, 11, 12, 13, 14, 15, 16, 17, 18, 19, 20, 21, 22, 23, 24, 25, 26, 27, 28, 29] (by decide +kernel) rfl) hS ⟨fX_22, uU, rfl, Or.inr (Or.inr (Or.inl ⟨rfl, h_10, k_4, by omega, rfl, c_18⟩)), trivial⟩ dX6_says_86
        · refine lv_aload_n hx hb dX6_says_51 rfl (lv_at hl 0 rfl) ?_
          refine va_get (D := G) (ci := 5) (v := .ref qmk) (C := RX6) (T := TX6) (N := 35) hx hb hts iX_X6 hown hK hP 0 rfl rfl 5 (by decide) (hts _ m_t855) (fun _ h9 => h9) rfl dX6_says_52 ?_
          refine lv_iload_n hx hb dX6_says_55 rfl (lv_at hl 1 rfl) ?_
          refine va_iald hx hb hK hP 2 0 rfl rfl (in_shelf h_3) dX6_says_56 ?_
          refine lv_seti (v := fMk k_4) (congrArg fMk (cl8 (by omega))) ?_
          refine lv_iload_n hx hb dX6_says_57 rfl (lv_at hl 2 rfl) ?_
          refine kRi (rS (As := [.int (fMk k_4), .int iB]) (rest := []) ⟨hx, hb, hml, hown, hts⟩ (x_X6_isUnder l G cy (fMk k_4) iB) L_X6_106 (preRS hN hP [] rfl) rfl ⟨Nat.le_of_ble_eq_true rfl, Nat.le_of_ble_eq_true rfl⟩ hl.1 (Nat.le_of_ble_eq_true rfl) dX6_says_58 ⟨Nat.le_of_ble_eq_true rfl, Nat.le_of_ble_eq_true rfl⟩) (fun r_23 h_24 => ?_)
          rcases h_24 with ⟨rfl, h_25⟩ | ⟨rfl, h_25⟩
          · refine lv_if_ne (tgt := 71) hx hb dX6_says_61 (by decide) (fun _ => ?_) (fun h9 => absurd h9 (by decide))
            refine lv_aload_n hx hb dX6_says_71 rfl (lv_at hl 0 rfl) ?_
            refine va_get (D := G) (ci := 5) (v := .ref qmh) (C := RX6) (T := TX6) (N := 35) hx hb hts iX_X6 hown hK hP 0 rfl rfl 0 (by decide) (hts _ m_t850) (fun _ h9 => h9) rfl dX6_says_72 ?_
            refine lv_iload_n hx hb dX6_says_75 rfl (lv_at hl 1 rfl) ?_
            refine va_iald hx hb hK hP 1 0 rfl rfl (in_shelf h_3) dX6_says_76 ?_
            refine lv_seti (v := fMh k_4) (congrArg fMh (cl8 (by omega))) ?_
            refine lv_if_ne (tgt := 87) hx hb dX6_says_77 (by decide) (fun c_27 => ?_) (fun c_27 => ?_)
            · refine lv_iload_n hx hb dX6_says_87 rfl (lv_at hl 2 rfl) ?_
              refine lv_if_ne (tgt := 98) hx hb dX6_says_88 (by decide) (fun c_28 => ?_) (fun c_28 => ?_)
              · refine lv_aload_n hx hb dX6_says_98 rfl (lv_at hl 0 rfl) ?_
                refine cVqP (As := []) (rest := []) (b := qm) (q := (RX6, TX6, 35)) ⟨hx, hb, hml, hown, hts⟩ (c_X6_fresh l G cy (s.heap).size qm (.ref qmh) (.ref qmo) (.ref qmz) (.ref qmR) (.ref qmv) (.ref qmk) (.ref qma) (.ref qmt) (.int (nI kZ)) (.ref qmr) tA qmB qmO qmK iEn iTk (ov uP) uU (.int (nI kAt)) (.int iTo) (.int iFr) (.long JFi) (.int iFa) (.ref qm3) (.int iSt) iLv iWs vLa (.ref qmu) (.ref qmy) (.ref qmb) (.ref qms) (.int iOm) rB rO rK) L_X6_110 hN hP hD hS hA [0, 5, 6, 7, 8, 9, 10, 11, 12, 13, 14, 15, 16, 17, 18, 19, 20, 21, 22, 23, 24, 25, 26, 27, 28, 29, 30, 31] [false, true, true, true, true, false, false, false, false, false, false, false, false, false, false, false, false, false, false, false, false, false, false, false, false, false, false, false, false, false, false, false] rfl (by decide +kernel) rfl 0 5 rfl rfl rfl ⟨Nat.le_of_ble_eq_true rfl, Nat.le_of_ble_eq_true rfl⟩ hl.1 (Nat.le_of_ble_eq_true rfl) dX6_says_99 ⟨Nat.le_of_ble_eq_true rfl, Nat.le_of_ble_eq_true rfl⟩ (fun r_29 u_31 H locs h_30 => ?_)
                clear hP hD hS
                intro hP hD hS
                obtain ⟨qU_32, qUB_33, qUO_34, qUK_35, rUB_36, rUO_37, rUK_38, xU_39, iLvU_40, iWsU_41, rfl, h_30⟩ := h_30
                have hPD := pd_as [zzI cy qmh 8 fMh, zzI cy qmk 8 fMk, zzI cy qma 8 fMa, zzI cy qmr 8 fMr, zzO qm 5 [.ref qmh, .ref qmo, .ref qmz, .ref qmR, .ref qmv, .ref qmk, .ref qma, .ref qmt, .int (nI kZ), .ref qmr, .int (nI (T_nb tA)), .ref qmB, .int (nI (T_np tA)), .ref qmO, .ref qmK, .int iEn, .int iTk, .int (T_sd tA), ov uP, .ref qU_32, .int (nI kAt), .int iTo, .int iFr, .long JFi, .int iFa, .ref qm3, .int iSt, .int iLv, .int iWs, vLa, .ref qmu, .ref qmy, .ref qmb, .ref qms, .int iOm], zzG cy 3 qmB rB, zzI cy (rB 0) 4 (bkR tA 0), zzI cy (rB 1) 4 (bkR tA 1), zzI cy (rB 2) 4 (bkR tA 2), zzI cy (rB 3) 4 (bkR tA 3), zzI cy (rB 4) 4 (bkR tA 4), zzI cy (rB 5) 4 (bkR tA 5), zzI cy (rB 6) 4 (bkR tA 6), zzI cy (rB 7) 4 (bkR tA 7), zzG cy 3 qmO rO, zzI cy (rO 0) 5 (onR tA 0), zzI cy (rO 1) 5 (onR tA 1), zzI cy (rO 2) 5 (onR tA 2), zzI cy (rO 3) 5 (onR tA 3), zzI cy (rO 4) 5 (onR tA 4), zzI cy (rO 5) 5 (onR tA 5), zzI cy (rO 6) 5 (onR tA 6), zzI cy (rO 7) 5 (onR tA 7), zzG cy 3 qmK rK, zzI cy (rK 0) 8 (T_kn tA 0), zzI cy (rK 1) 8 (T_kn tA 1), zzI cy (rK 2) 8 (T_kn tA 2), zzI cy (rK 3) 8 (T_kn tA 3), zzI cy (rK 4) 8 (T_kn tA 4), zzI cy (rK 5) 8 (T_kn tA 5), zzI cy (rK 6) 8 (T_kn tA 6), zzI cy (rK 7) 8 (T_kn tA 7), zzO qU_32 5 [xU_39 0, xU_39 1, xU_39 2, xU_39 3, xU_39 4, xU_39 5, xU_39 6, xU_39 7, xU_39 8, xU_39 9, .int (nI (T_nb tA)), .ref qUB_33, .int (nI (T_np tA)), .ref qUO_34, .ref qUK_35, .int iEn, .int iTk, .int (T_sd tA), xU_39 18, xU_39 19, xU_39 20, xU_39 21, xU_39 22, xU_39 23, xU_39 24, xU_39 25, xU_39 26, .int iLvU_40, .int iWsU_41, xU_39 29, xU_39 30, xU_39 31, xU_39 32, xU_39 33, xU_39 34], zzG cy 3 qUB_33 rUB_36, zzI cy (rUB_36 0) 4 (bkR tA 0), zzI cy (rUB_36 1) 4 (bkR tA 1), zzI cy (rUB_36 2) 4 (bkR tA 2), zzI cy (rUB_36 3) 4 (bkR tA 3), zzI cy (rUB_36 4) 4 (bkR tA 4), zzI cy (rUB_36 5) 4 (bkR tA 5), zzI cy (rUB_36 6) 4 (bkR tA 6), zzI cy (rUB_36 7) 4 (bkR tA 7), zzG cy 3 qUO_34 rUO_37, zzI cy (rUO_37 0) 5 (onR tA 0), zzI cy (rUO_37 1) 5 (onR tA 1), zzI cy (rUO_37 2) 5 (onR tA 2), zzI cy (rUO_37 3) 5 (onR tA 3), zzI cy (rUO_37 4) 5 (onR tA 4), zzI cy (rUO_37 5) 5 (onR tA 5), zzI cy (rUO_37 6) 5 (onR tA 6), zzI cy (rUO_37 7) 5 (onR tA 7), zzG cy 3 qUK_35 rUK_38, zzI cy (rUK_38 0) 8 (T_kn tA 0), zzI cy (rUK_38 1) 8 (T_kn tA 1), zzI cy (rUK_38 2) 8 (T_kn tA 2), zzI cy (rUK_38 3) 8 (T_kn tA 3), zzI cy (rUK_38 4) 8 (T_kn tA 4), zzI cy (rUK_38 5) 8 (T_kn tA 5), zzI cy (rUK_38 6) 8 (T_kn tA 6), zzI cy (rUK_38 7) 8 (T_kn tA 7)] hP hD rfl
                clear hP hD
                obtain ⟨hP, hD⟩ := hPD
                refine W.widen (k := 50) (n := 888) (Nat.le_of_ble_eq_true rfl) (Nat.le_of_ble_eq_true rfl) ?_
                subst h_30
                refine lv_aload_n hx hb dX6_says_102 rfl (lv_at hl 0 rfl) ?_
                refine va_get (D := G) (ci := 5) (v := .ref qmk) (C := RX6) (T := TX6) (N := 35) hx hb hts iX_X6 hown hK hP 4 rfl rfl 5 (by decide) (hts _ m_t855) (fun _ h9 => h9) rfl dX6_says_103 ?_
                refine lv_iload_n hx hb dX6_says_106 rfl (lv_at hl 1 rfl) ?_
                refine va_iald hx hb hK hP 1 0 rfl rfl (in_shelf h_3) dX6_says_107 ?_
                refine lv_seti (v := fMk k_4) (congrArg fMk (cl8 (by omega))) ?_
                refine lv_aload_n hx hb dX6_says_108 rfl (lv_at hl 0 rfl) ?_
                refine va_get (D := G) (ci := 5) (v := .ref qma) (C := RX6) (T := TX6) (N := 35) hx hb hts iX_X6 hown hK hP 4 rfl rfl 6 (by decide) (hts _ m_t856) (fun _ h9 => h9) rfl dX6_says_109 ?_
                refine lv_iload_n hx hb dX6_says_112 rfl (lv_at hl 1 rfl) ?_
                refine va_iald hx hb hK hP 2 0 rfl rfl (in_shelf h_3) dX6_says_113 ?_
                refine lv_seti (v := fMa k_4) (congrArg fMa (cl8 (by omega))) ?_
                obtain ⟨n_42, hn_43, en_44⟩ := hMa k_4 (by omega)
                refine lv_seti (v := nI n_42) en_44 ?_
                refine cVi (As := [.int (fMk k_4), .int (nI n_42)]) (rest := []) (b := r_29) (q := (RX6, TX6, 35)) ⟨hx, hb, hml, hown, hts⟩ (x_X6_does l G cy (H).size r_29 (xU_39 0) (xU_39 1) (xU_39 2) (xU_39 3) (xU_39 4) (xU_39 5) (xU_39 6) (xU_39 7) (xU_39 8) (xU_39 9) tA qUB_33 qUO_34 qUK_35 iEn iTk (xU_39 18) (xU_39 19) (xU_39 20) (xU_39 21) (xU_39 22) (xU_39 23) (xU_39 24) (xU_39 25) (xU_39 26) iLvU_40 iWsU_41 (xU_39 29) (xU_39 30) (xU_39 31) (xU_39 32) (xU_39 33) (xU_39 34) rUB_36 rUO_37 rUK_38 (fMk k_4) n_42 hB hPp hWI (by omega) (hMk k_4 (by omega) c_12 c_27)) L_X6_114 hN hP hD hS hA [32, 33, 34, 35, 36, 37, 38, 39, 40, 41, 42, 43, 44, 45, 46, 47, 48, 49, 50, 51, 52, 53, 54, 55, 56, 57, 58, 59] [true, true, true, true, true, true, true, true, true, true, true, true, true, true, true, true, true, true, true, true, true, true, true, true, true, true, true, true, true, true, true, true, false, false, false, false, false, false, false, false, false, false, false, false, false, false, false, false, false, false, false, false, false, false, false, false, false, false, false, false] rfl (by decide +kernel) rfl 32 5 rfl rfl rfl ⟨Nat.le_of_ble_eq_true rfl, Nat.le_of_ble_eq_true rfl⟩ hl.1 (Nat.le_of_ble_eq_true rfl) dX6_says_114 ⟨Nat.le_of_ble_eq_true rfl, Nat.le_of_ble_eq_true rfl⟩ (fun r_45 u_47 H locs h_46 => ?_)
                clear hP hD hS
                intro hP hD hS
                obtain ⟨tX_48, rfl, h_49, h_50, h_46⟩ := h_46
                have hPD := pd_as [zzI cy qmh 8 fMh, zzI cy qmk 8 fMk, zzI cy qma 8 fMa, zzI cy qmr 8 fMr, zzO qm 5 [.ref qmh, .ref qmo, .ref qmz, .ref qmR, .ref qmv, .ref qmk, .ref qma, .ref qmt, .int (nI kZ), .ref qmr, .int (nI (T_nb tA)), .ref qmB, .int (nI (T_np tA)), .ref qmO, .ref qmK, .int iEn, .int iTk, .int (T_sd tA), ov uP, .ref r_29, .int (nI kAt), .int iTo, .int iFr, .long JFi, .int iFa, .ref qm3, .int iSt, .int iLv, .int iWs, vLa, .ref qmu, .ref qmy, .ref qmb, .ref qms, .int iOm], zzG cy 3 qmB rB, zzI cy (rB 0) 4 (bkR tA 0), zzI cy (rB 1) 4 (bkR tA 1), zzI cy (rB 2) 4 (bkR tA 2), zzI cy (rB 3) 4 (bkR tA 3), zzI cy (rB 4) 4 (bkR tA 4), zzI cy (rB 5) 4 (bkR tA 5), zzI cy (rB 6) 4 (bkR tA 6), zzI cy (rB 7) 4 (bkR tA 7), zzG cy 3 qmO rO, zzI cy (rO 0) 5 (onR tA 0), zzI cy (rO 1) 5 (onR tA 1), zzI cy (rO 2) 5 (onR tA 2), zzI cy (rO 3) 5 (onR tA 3), zzI cy (rO 4) 5 (onR tA 4), zzI cy (rO 5) 5 (onR tA 5), zzI cy (rO 6) 5 (onR tA 6), zzI cy (rO 7) 5 (onR tA 7), zzG cy 3 qmK rK, zzI cy (rK 0) 8 (T_kn tA 0), zzI cy (rK 1) 8 (T_kn tA 1), zzI cy (rK 2) 8 (T_kn tA 2), zzI cy (rK 3) 8 (T_kn tA 3), zzI cy (rK 4) 8 (T_kn tA 4), zzI cy (rK 5) 8 (T_kn tA 5), zzI cy (rK 6) 8 (T_kn tA 6), zzI cy (rK 7) 8 (T_kn tA 7), zzO r_29 5 [xU_39 0, xU_39 1, xU_39 2, xU_39 3, xU_39 4, xU_39 5, xU_39 6, xU_39 7, xU_39 8, xU_39 9, .int (nI (T_nb tX_48)), .ref qUB_33, .int (nI (T_np tX_48)), .ref qUO_34, .ref qUK_35, .int iEn, .int iTk, .int (T_sd tX_48), xU_39 18, xU_39 19, xU_39 20, xU_39 21, xU_39 22, xU_39 23, xU_39 24, xU_39 25, xU_39 26, .int iLvU_40, .int iWsU_41, xU_39 29, xU_39 30, xU_39 31, xU_39 32, xU_39 33, xU_39 34], zzG cy 3 qUB_33 rUB_36, zzI cy (rUB_36 0) 4 (bkR tX_48 0), zzI cy (rUB_36 1) 4 (bkR tX_48 1), zzI cy (rUB_36 2) 4 (bkR tX_48 2), zzI cy (rUB_36 3) 4 (bkR tX_48 3), zzI cy (rUB_36 4) 4 (bkR tX_48 4), zzI cy (rUB_36 5) 4 (bkR tX_48 5), zzI cy (rUB_36 6) 4 (bkR tX_48 6), zzI cy (rUB_36 7) 4 (bkR tX_48 7), zzG cy 3 qUO_34 rUO_37, zzI cy (rUO_37 0) 5 (onR tX_48 0), zzI cy (rUO_37 1) 5 (onR tX_48 1), zzI cy (rUO_37 2) 5 (onR tX_48 2), zzI cy (rUO_37 3) 5 (onR tX_48 3), zzI cy (rUO_37 4) 5 (onR tX_48 4), zzI cy (rUO_37 5) 5 (onR tX_48 5), zzI cy (rUO_37 6) 5 (onR tX_48 6), zzI cy (rUO_37 7) 5 (onR tX_48 7), zzG cy 3 qUK_35 rUK_38, zzI cy (rUK_38 0) 8 (T_kn tX_48 0), zzI cy (rUK_38 1) 8 (T_kn tX_48 1), zzI cy (rUK_38 2) 8 (T_kn tX_48 2), zzI cy (rUK_38 3) 8 (T_kn tX_48 3), zzI cy (rUK_38 4) 8 (T_kn tX_48 4), zzI cy (rUK_38 5) 8 (T_kn tX_48 5), zzI cy (rUK_38 6) 8 (T_kn tX_48 6), zzI cy (rUK_38 7) 8 (T_kn tX_48 7)] hP hD rfl
                clear hP hD
                obtain ⟨hP, hD⟩ := hPD
                refine lv_istore_n (lv' := [(3, .int r_45), (0, .ref qm), (1, .int (nI k_4)), (2, .int iB)]) hx hb dX6_says_117 rfl hl (by decide) rfl (fun ls => ?_)
                clear hl
                intro hl
                refine lv_iload_n hx hb dX6_says_118 rfl (lv_at hl 3 rfl) ?_
                refine lv_iconst (v := 3) hx hb dX6_says_119 (by decide) ?_
                refine lv_icmp_gt (tgt := 127) hx hb dX6_says_120 (by decide) (fun c_51 => ?_) (fun c_51 => ?_)
                · refine lv_aload_n hx hb dX6_says_127 rfl (lv_at hl 1 rfl) ?_
                  refine va_get (D := G) (ci := 5) (v := .ref r_29) (C := RX6) (T := TX6) (N := 35) hx hb hts iX_X6 hown hK hP 4 rfl rfl 19 (by decide) (hts _ m_t869) (fun _ h9 => h9) rfl dX6_says_128 ?_
                  refine kRi (rV (As := []) (rest := []) (b := r_29) ⟨hx, hb, hml, hown, hts⟩ (c_X6_valueNow l G cy r_29 (xU_39 0) (xU_39 1) (xU_39 2) (xU_39 3) (xU_39 4) (xU_39 5) (xU_39 6) (xU_39 7) (xU_39 8) (xU_39 9) tX_48 qUB_33 qUO_34 qUK_35 iEn iTk (xU_39 18) (xU_39 19) (xU_39 20) (xU_39 21) (xU_39 22) (xU_39 23) (xU_39 24) (xU_39 25) (xU_39 26) iLvU_40 iWsU_41 (xU_39 29) (xU_39 30) (xU_39 31) (xU_39 32) (xU_39 33) (xU_39 34) rUB_36 rUO_37 rUK_38 (by omega) (by omega)) L_X6_122 (preRV (q := (RX6, TX6, 35)) hN hP [32, 33, 34, 35, 36, 37, 38, 39, 40, 41, 42, 43, 44, 45, 46, 47, 48, 49, 50, 51, 52, 53, 54, 55, 56, 57, 58, 59] rfl 32 5 rfl rfl) rfl ⟨Nat.le_of_ble_eq_true rfl, Nat.le_of_ble_eq_true rfl⟩ hl.1 (Nat.le_of_ble_eq_true rfl) dX6_says_131 ⟨Nat.le_of_ble_eq_true rfl, Nat.le_of_ble_eq_true rfl⟩) (fun r_52 h_53 => ?_)
                  subst h_53
                  exact endW (u := [zzO qm 5 [.ref qmh, .ref qmo, .ref qmz, .ref qmR, .ref qmv, .ref qmk, .ref qma, .ref qmt, .int (nI kZ), .ref qmr, .int (nI (T_nb tA)), .ref qmB, .int (nI (T_np tA)), .ref qmO, .ref qmK, .int iEn, .int iTk, .int (T_sd tA), ov uP, .ref r_29, .int (nI kAt), .int iTo, .int iFr, .long JFi, .int iFa, .ref qm3, .int iSt, .int iLv, .int iWs, vLa, .ref qmu, .ref qmy, .ref qmb, .ref qms, .int iOm], zzI cy qmh 8 fMh, zzI cy qmk 8 fMk, zzI cy qma 8 fMa, zzI cy qmr 8 fMr, zzG cy 3 qmB rB, zzI cy (rB 0) 4 (bkR tA 0), zzI cy (rB 1) 4 (bkR tA 1), zzI cy (rB 2) 4 (bkR tA 2), zzI cy (rB 3) 4 (bkR tA 3), zzI cy (rB 4) 4 (bkR tA 4), zzI cy (rB 5) 4 (bkR tA 5), zzI cy (rB 6) 4 (bkR tA 6), zzI cy (rB 7) 4 (bkR tA 7), zzG cy 3 qmO rO, zzI cy (rO 0) 5 (onR tA 0), zzI cy (rO 1) 5 (onR tA 1), zzI cy (rO 2) 5 (onR tA 2), zzI cy (rO 3) 5 (onR tA 3), zzI cy (rO 4) 5 (onR tA 4), zzI cy (rO 5) 5 (onR tA 5), zzI cy (rO 6) 5 (onR tA 6), zzI cy (rO 7) 5 (onR tA 7), zzG cy 3 qmK rK, zzI cy (rK 0) 8 (T_kn tA 0), zzI cy (rK 1) 8 (T_kn tA 1), zzI cy (rK 2) 8 (T_kn tA 2), zzI cy (rK 3) 8 (T_kn tA 3), zzI cy (rK 4) 8 (T_kn tA 4), zzI cy (rK 5) 8 (T_kn tA 5), zzI cy (rK 6) 8 (T_kn tA 6), zzI cy (rK 7) 8 (T_kn tA 7), zzO r_29 5 [xU_39 0, xU_39 1, xU_39 2, xU_39 3, xU_39 4, xU_39 5, xU_39 6, xU_39 7, xU_39 8, xU_39 9, .int (nI (T_nb tX_48)), .ref qUB_33, .int (nI (T_np tX_48)), .ref qUO_34, .ref qUK_35, .int iEn, .int iTk, .int (T_sd tX_48), xU_39 18, xU_39 19, xU_39 20, xU_39 21, xU_39 22, xU_39 23, xU_39 24, xU_39 25, xU_39 26, .int iLvU_40, .int iWsU_41, xU_39 29, xU_39 30, xU_39 31, xU_39 32, xU_39 33, xU_39 34], zzG cy 3 qUB_33 rUB_36, zzI cy (rUB_36 0) 4 (bkR tX_48 0), zzI cy (rUB_36 1) 4 (bkR tX_48 1), zzI cy (rUB_36 2) 4 (bkR tX_48 2), zzI cy (rUB_36 3) 4 (bkR tX_48 3), zzI cy (rUB_36 4) 4 (bkR tX_48 4), zzI cy (rUB_36 5) 4 (bkR tX_48 5), zzI cy (rUB_36 6) 4 (bkR tX_48 6), zzI cy (rUB_36 7) 4 (bkR tX_48 7), zzG cy 3 qUO_34 rUO_37, zzI cy (rUO_37 0) 5 (onR tX_48 0), zzI cy (rUO_37 1) 5 (onR tX_48 1), zzI cy (rUO_37 2) 5 (onR tX_48 2), zzI cy (rUO_37 3) 5 (onR tX_48 3), zzI cy (rUO_37 4) 5 (onR tX_48 4), zzI cy (rUO_37 5) 5 (onR tX_48 5), zzI cy (rUO_37 6) 5 (onR tX_48 6), zzI cy (rUO_37 7) 5 (onR tX_48 7), zzG cy 3 qUK_35 rUK_38, zzI cy (rUK_38 0) 8 (T_kn tX_48 0), zzI cy (rUK_38 1) 8 (T_kn tX_48 1), zzI cy (rUK_38 2) 8 (T_kn tX_48 2), zzI cy (rUK_38 3) 8 (T_kn tX_48 3), zzI cy (rUK_38 4) 8 (T_kn tX_48 4), zzI cy (rUK_38 5) 8 (T_kn tX_48 5), zzI cy (rUK_38 6) 8 (T_kn tX_48 6), zzI cy (rUK_38 7) 8 (T_kn tX_48 7)]) hx hb hr hlocks rfl (hP.sub [4, 0, 1, 2, 3, 5, 6, 7, 8, 9, 10, 11, 12, 13, 14, 15, 16, 17, 18, 19, 20, 21, 22, 23, 24, 25, 26, 27, 28, 29, 30, 31, 32, 33, 34, 35, 36, 37, 38, 39, 40, 41, 42, 43, 44, 45, 46, 47, 48, 49, 50, 51, 52, 53, 54, 55, 56, 57, 58, 59] rfl) (hD.sub [4, 0, 1, 2, 3, 5, 6, 7, 8, 9, 10, 11, 12, 13, 14, 15, 16, 17, 18, 19, 20, 21, 22, 23, 24, 25, 26, 27, 28, 29, 30, 31, 32, 33, 34, 35, 36, 37, 38, 39, 40, 41, 42, 43, 44, 45, 46, 47, 48, 49, 50, 51, 52, 53, 54, 55, 56, 57, 58, 59] (by decide +kernel) rfl) hS ⟨fMr, (some (r_29, qUB_33, qUO_34, qUK_35, rUB_36, rUO_37, rUK_38, tX_48, xU_39, iEn, iTk, iLvU_40, iWsU_41)), rfl, Or.inr (Or.inr (Or.inr ⟨k_4, by omega, rfl, c_17, h_10, h_25, (by rw [mvo_all (by have := h_49.2.2; omega), h_50.1, ← en_44]; exact sy_v c_28 (Int32.not_le.mpr c_51))⟩)), trivial⟩ dX6_says_134
                · refine lv_iload_n hx hb dX6_says_123 rfl (lv_at hl 0 rfl) ?_
                  refine lv_goto (tgt := 134) hx hb dX6_says_124 (by decide) ?_
                  exact endW (u := [zzO qm 5 [.ref qmh, .ref qmo, .ref qmz, .ref qmR, .ref qmv, .ref qmk, .ref qma, .ref qmt, .int (nI kZ), .ref qmr, .int (nI (T_nb tA)), .ref qmB, .int (nI (T_np tA)), .ref qmO, .ref qmK, .int iEn, .int iTk, .int (T_sd tA), ov uP, .ref r_29, .int (nI kAt), .int iTo, .int iFr, .long JFi, .int iFa, .ref qm3, .int iSt, .int iLv, .int iWs, vLa, .ref qmu, .ref qmy, .ref qmb, .ref qms, .int iOm], zzI cy qmh 8 fMh, zzI cy qmk 8 fMk, zzI cy qma 8 fMa, zzI cy qmr 8 fMr, zzG cy 3 qmB rB, zzI cy (rB 0) 4 (bkR tA 0), zzI cy (rB 1) 4 (bkR tA 1), zzI cy (rB 2) 4 (bkR tA 2), zzI cy (rB 3) 4 (bkR tA 3), zzI cy (rB 4) 4 (bkR tA 4), zzI cy (rB 5) 4 (bkR tA 5), zzI cy (rB 6) 4 (bkR tA 6), zzI cy (rB 7) 4 (bkR tA 7), zzG cy 3 qmO rO, zzI cy (rO 0) 5 (onR tA 0), zzI cy (rO 1) 5 (onR tA 1), zzI cy (rO 2) 5 (onR tA 2), zzI cy (rO 3) 5 (onR tA 3), zzI cy (rO 4) 5 (onR tA 4), zzI cy (rO 5) 5 (onR tA 5), zzI cy (rO 6) 5 (onR tA 6), zzI cy (rO 7) 5 (onR tA 7), zzG cy 3 qmK rK, zzI cy (rK 0) 8 (T_kn tA 0), zzI cy (rK 1) 8 (T_kn tA 1), zzI cy (rK 2) 8 (T_kn tA 2), zzI cy (rK 3) 8 (T_kn tA 3), zzI cy (rK 4) 8 (T_kn tA 4), zzI cy (rK 5) 8 (T_kn tA 5), zzI cy (rK 6) 8 (T_kn tA 6), zzI cy (rK 7) 8 (T_kn tA 7), zzO r_29 5 [xU_39 0, xU_39 1, xU_39 2, xU_39 3, xU_39 4, xU_39 5, xU_39 6, xU_39 7, xU_39 8, xU_39 9, .int (nI (T_nb tX_48)), .ref qUB_33, .int (nI (T_np tX_48)), .ref qUO_34, .ref qUK_35, .int iEn, .int iTk, .int (T_sd tX_48), xU_39 18, xU_39 19, xU_39 20, xU_39 21, xU_39 22, xU_39 23, xU_39 24, xU_39 25, xU_39 26, .int iLvU_40, .int iWsU_41, xU_39 29, xU_39 30, xU_39 31, xU_39 32, xU_39 33, xU_39 34], zzG cy 3 qUB_33 rUB_36, zzI cy (rUB_36 0) 4 (bkR tX_48 0), zzI cy (rUB_36 1) 4 (bkR tX_48 1), zzI cy (rUB_36 2) 4 (bkR tX_48 2), zzI cy (rUB_36 3) 4 (bkR tX_48 3), zzI cy (rUB_36 4) 4 (bkR tX_48 4), zzI cy (rUB_36 5) 4 (bkR tX_48 5), zzI cy (rUB_36 6) 4 (bkR tX_48 6), zzI cy (rUB_36 7) 4 (bkR tX_48 7), zzG cy 3 qUO_34 rUO_37, zzI cy (rUO_37 0) 5 (onR tX_48 0), zzI cy (rUO_37 1) 5 (onR tX_48 1), zzI cy (rUO_37 2) 5 (onR tX_48 2), zzI cy (rUO_37 3) 5 (onR tX_48 3), zzI cy (rUO_37 4) 5 (onR tX_48 4), zzI cy (rUO_37 5) 5 (onR tX_48 5), zzI cy (rUO_37 6) 5 (onR tX_48 6), zzI cy (rUO_37 7) 5 (onR tX_48 7), zzG cy 3 qUK_35 rUK_38, zzI cy (rUK_38 0) 8 (T_kn tX_48 0), zzI cy (rUK_38 1) 8 (T_kn tX_48 1), zzI cy (rUK_38 2) 8 (T_kn tX_48 2), zzI cy (rUK_38 3) 8 (T_kn tX_48 3), zzI cy (rUK_38 4) 8 (T_kn tX_48 4), zzI cy (rUK_38 5) 8 (T_kn tX_48 5), zzI cy (rUK_38 6) 8 (T_kn tX_48 6), zzI cy (rUK_38 7) 8 (T_kn tX_48 7)]) hx hb hr hlocks rfl (hP.sub [4, 0, 1, 2, 3, 5, 6, 7, 8, 9, 10, 11, 12, 13, 14, 15, 16, 17, 18, 19, 20, 21, 22, 23, 24, 25, 26, 27, 28, 29, 30, 31, 32, 33, 34, 35, 36, 37, 38, 39, 40, 41, 42, 43, 44, 45, 46, 47, 48, 49, 50, 51, 52, 53, 54, 55, 56, 57, 58, 59] rfl) (hD.sub [4, 0, 1, 2, 3, 5, 6, 7, 8, 9, 10, 11, 12, 13, 14, 15, 16, 17, 18, 19, 20, 21, 22, 23, 24, 25, 26, 27, 28, 29, 30, 31, 32, 33, 34, 35, 36, 37, 38, 39, 40, 41, 42, 43, 44, 45, 46, 47, 48, 49, 50, 51, 52, 53, 54, 55, 56, 57, 58, 59] (by decide +kernel) rfl) hS ⟨fMr, (some (r_29, qUB_33, qUO_34, qUK_35, rUB_36, rUO_37, rUK_38, tX_48, xU_39, iEn, iTk, iLvU_40, iWsU_41)), rfl, Or.inr (Or.inr (Or.inr ⟨k_4, by omega, rfl, c_17, h_10, h_25, (h_50.2.trans (by rw [← en_44]; exact sy_c c_28 (Int32.not_lt.mp c_51)))⟩)), trivial⟩ dX6_says_134
              · refine lv_aload_n hx hb dX6_says_91 rfl (lv_at hl 0 rfl) ?_
                refine va_get (D := G) (ci := 5) (v := .ref qma) (C := RX6) (T := TX6) (N := 35) hx hb hts iX_X6 hown hK hP 0 rfl rfl 6 (by decide) (hts _ m_t856) (fun _ h9 => h9) rfl dX6_says_92 ?_
                refine lv_iload_n hx hb dX6_says_95 rfl (lv_at hl 1 rfl) ?_
                refine va_iald hx hb hK hP 3 0 rfl rfl (in_shelf h_3) dX6_says_96 ?_
                refine lv_seti (v := fMa k_4) (congrArg fMa (cl8 (by omega))) ?_
                refine W.widen (k := 50) (n := 888) (Nat.le_of_ble_eq_true rfl) (Nat.le_of_ble_eq_true rfl) ?_
                exact endW (u := ([zzO qm 5 [.ref qmh, .ref qmo, .ref qmz, .ref qmR, .ref qmv, .ref qmk, .ref qma, .ref qmt, .int (nI kZ), .ref qmr, .int (nI (T_nb tA)), .ref qmB, .int (nI (T_np tA)), .ref qmO, .ref qmK, .int iEn, .int iTk, .int (T_sd tA), ov uP, ov uU, .int (nI kAt), .int iTo, .int iFr, .long JFi, .int iFa, .ref qm3, .int iSt, .int iLv, .int iWs, vLa, .ref qmu, .ref qmy, .ref qmb, .ref qms, .int iOm], zzI cy qmh 8 fMh, zzI cy qmk 8 fMk, zzI cy qma 8 fMa, zzI cy qmr 8 fMr, zzG cy 3 qmB rB, zzI cy (rB 0) 4 (bkR tA 0), zzI cy (rB 1) 4 (bkR tA 1), zzI cy (rB 2) 4 (bkR tA 2), zzI cy (rB 3) 4 (bkR tA 3), zzI cy (rB 4) 4 (bkR tA 4), zzI cy (rB 5) 4 (bkR tA 5), zzI cy (rB 6) 4 (bkR tA 6), zzI cy (rB 7) 4 (bkR tA 7), zzG cy 3 qmO rO, zzI cy (rO 0) 5 (onR tA 0), zzI cy (rO 1) 5 (onR tA 1), zzI cy (rO 2) 5 (onR tA 2), zzI cy (rO 3) 5 (onR tA 3), zzI cy (rO 4) 5 (onR tA 4), zzI cy (rO 5) 5 (onR tA 5), zzI cy (rO 6) 5 (onR tA 6), zzI cy (rO 7) 5 (onR tA 7), zzG cy 3 qmK rK, zzI cy (rK 0) 8 (T_kn tA 0), zzI cy (rK 1) 8 (T_kn tA 1), zzI cy (rK 2) 8 (T_kn tA 2), zzI cy (rK 3) 8 (T_kn tA 3), zzI cy (rK 4) 8 (T_kn tA 4), zzI cy (rK 5) 8 (T_kn tA 5), zzI cy (rK 6) 8 (T_kn tA 6), zzI cy (rK 7) 8 (T_kn tA 7)] ++ oM cy uU)) hx hb hr hlocks rfl (hP.part [0, 1, 2, 3, 4, 5, 6, 7, 8, 9, 10, 11, 12, 13, 14, 15, 16, 17, 18, 19, 20, 21, 22, 23, 24, 25, 26, 27, 28, 29, 30, 31] rfl) (hD.part [0, 1, 2, 3, 4, 5, 6, 7, 8, 9, 10, 11, 12, 13, 14, 15, 16, 17, 18, 19, 20, 21, 22, 23, 24, 25, 26, 27, 28, 29, 30, 31] (by decide +kernel) rfl) hS ⟨fMr, uU, rfl, Or.inr (Or.inr (Or.inr ⟨k_4, by omega, rfl, c_17, h_10, h_25, sy_0 c_28⟩)), trivial⟩ dX6_says_97
            · exact absurd (c_17.symm.trans c_27) (by decide)
          · refine lv_if_ne (tgt := 71) hx hb dX6_says_61 (by decide) (fun h9 => absurd (by decide) h9) (fun _ => ?_)
            refine lv_aload_n hx hb dX6_says_64 rfl (lv_at hl 0 rfl) ?_
            refine lv_bipush (v := (-3)) hx hb dX6_says_65 (by decide) ?_
            refine cViQ (As := [.int (-3)]) (rest := []) (b := qm) (q := (RX6, TX6, 35)) ⟨hx, hb, hml, hown, hts⟩ (c_X6_refuse3 l G cy (s.heap).size qm (.ref qmh) (.ref qmo) (.ref qmz) (.ref qmR) (.ref qmv) (.ref qmk) (.ref qma) (.ref qmt) (.int (nI kZ)) qmr tA qmB qmO qmK iEn iTk (ov uP) (ov uU) (.int (nI kAt)) (.int iTo) (.int iFr) (.long JFi) (.int iFa) (.ref qm3) (.int iSt) iLv iWs vLa (.ref qmu) (.ref qmy) (.ref qmb) (.ref qms) (.int iOm) fMr) L_X6_91 hN hP hD hS hA [0, 4] [false, true, true, true, false, true, true, true, true, true, true, true, true, true, true, true, true, true, true, true, true, true, true, true, true, true, true, true, true, true, true, true] rfl (by decide +kernel) rfl 0 5 rfl rfl rfl ⟨Nat.le_of_ble_eq_true rfl, Nat.le_of_ble_eq_true rfl⟩ hl.1 (Nat.le_of_ble_eq_true rfl) dX6_says_67 ⟨Nat.le_of_ble_eq_true rfl, Nat.le_of_ble_eq_true rfl⟩ (fun r_55 u_57 H locs h_56 => ?_)
            clear hP hD hS
            intro hP hD hS
            obtain ⟨fX_58, rfl, h_56⟩ := h_56
            have hPD := pd_as ([zzI cy qmh 8 fMh, zzI cy qmk 8 fMk, zzI cy qma 8 fMa, zzG cy 3 qmB rB, zzI cy (rB 0) 4 (bkR tA 0), zzI cy (rB 1) 4 (bkR tA 1), zzI cy (rB 2) 4 (bkR tA 2), zzI cy (rB 3) 4 (bkR tA 3), zzI cy (rB 4) 4 (bkR tA 4), zzI cy (rB 5) 4 (bkR tA 5), zzI cy (rB 6) 4 (bkR tA 6), zzI cy (rB 7) 4 (bkR tA 7), zzG cy 3 qmO rO, zzI cy (rO 0) 5 (onR tA 0), zzI cy (rO 1) 5 (onR tA 1), zzI cy (rO 2) 5 (onR tA 2), zzI cy (rO 3) 5 (onR tA 3), zzI cy (rO 4) 5 (onR tA 4), zzI cy (rO 5) 5 (onR tA 5), zzI cy (rO 6) 5 (onR tA 6), zzI cy (rO 7) 5 (onR tA 7), zzG cy 3 qmK rK, zzI cy (rK 0) 8 (T_kn tA 0), zzI cy (rK 1) 8 (T_kn tA 1), zzI cy (rK 2) 8 (T_kn tA 2), zzI cy (rK 3) 8 (T_kn tA 3), zzI cy (rK 4) 8 (T_kn tA 4), zzI cy (rK 5) 8 (T_kn tA 5), zzI cy (rK 6) 8 (T_kn tA 6), zzI cy (rK 7) 8 (T_kn tA 7), zzO qm 5 [.ref qmh, .ref qmo, .ref qmz, .ref qmR, .ref qmv, .ref qmk, .ref qma, .ref qmt, .int (nI kZ), .ref qmr, .int (nI (T_nb tA)), .ref qmB, .int (nI (T_np tA)), .ref qmO, .ref qmK, .int iEn, .int iTk, .int (T_sd tA), ov uP, ov uU, .int (nI kAt), .int iTo, .int iFr, .long JFi, .int iFa, .ref qm3, .int iSt, .int iLv, .int iWs, vLa, .ref qmu, .ref qmy, .ref qmb, .ref qms, .int iOm], zzI cy qmr 8 fX_58] ++ oM cy uU) hP hD rfl
            clear hP hD
            obtain ⟨hP, hD⟩ := hPD
            subst h_56
            refine W.widen (k := 50) (n := 888) (Nat.le_of_ble_eq_true rfl) (Nat.le_of_ble_eq_true rfl) ?_
            exact endW (u := ([zzO qm 5 [.ref qmh, .ref qmo, .ref qmz, .ref qmR, .ref qmv, .ref qmk, .ref qma, .ref qmt, .int (nI kZ), .ref qmr, .int (nI (T_nb tA)), .ref qmB, .int (nI (T_np tA)), .ref qmO, .ref qmK, .int iEn, .int iTk, .int (T_sd tA), ov uP, ov uU, .int (nI kAt), .int iTo, .int iFr, .long JFi, .int iFa, .ref qm3, .int iSt, .int iLv, .int iWs, vLa, .ref qmu, .ref qmy, .ref qmb, .ref qms, .int iOm], zzI cy qmh 8 fMh, zzI cy qmk 8 fMk, zzI cy qma 8 fMa, zzI cy qmr 8 fX_58, zzG cy 3 qmB rB, zzI cy (rB 0) 4 (bkR tA 0), zzI cy (rB 1) 4 (bkR tA 1), zzI cy (rB 2) 4 (bkR tA 2), zzI cy (rB 3) 4 (bkR tA 3), zzI cy (rB 4) 4 (bkR tA 4), zzI cy (rB 5) 4 (bkR tA 5), zzI cy (rB 6) 4 (bkR tA 6), zzI cy (rB 7) 4 (bkR tA 7), zzG cy 3 qmO rO, zzI cy (rO 0) 5 (onR tA 0), zzI cy (rO 1) 5 (onR tA 1), zzI cy (rO 2) 5 (onR tA 2), zzI cy (rO 3) 5 (onR tA 3), zzI cy (rO 4) 5 (onR tA 4), zzI cy (rO 5) 5 (onR tA 5), zzI cy (rO 6) 5 (onR tA 6), zzI cy (rO 7) 5 (onR tA 7), zzG cy 3 qmK rK, zzI cy (rK 0) 8 (T_kn tA 0), zzI cy (rK 1) 8 (T_kn tA 1), zzI cy (rK 2) 8 (T_kn tA 2), zzI cy (rK 3) 8 (T_kn tA 3), zzI cy (rK 4) 8 (T_kn tA 4), zzI cy (rK 5) 8 (T_kn tA 5), zzI cy (rK 6) 8 (T_kn tA 6), zzI cy (rK 7) 8 (T_kn tA 7)] ++ oM cy uU)) hx hb hr hlocks rfl (hP.part [30, 0, 1, 2, 31, 3, 4, 5, 6, 7, 8, 9, 10, 11, 12, 13, 14, 15, 16, 17, 18, 19, 20, 21, 22, 23, 24, 25, 26, 27, 28, 29] rfl) (hD.part [30, 0, 1, 2, 31, 3, 4, 5, 6, 7, 8, 9, 10, 11, 12, 13, 14, 15, 16, 17, 18, 19, 20, 21, 22, 23, 24, 25, 26, 27, 28, 29] (by decide +kernel) rfl) hS ⟨fX_58, uU, rfl, Or.inr (Or.inl ⟨rfl, h_10, k_4, by omega, rfl, Or.inr ⟨c_17, h_25⟩⟩), trivial⟩ dX6_says_70
    · refine lv_if_ne (tgt := 31) hx hb dX6_says_21 (by decide) (fun h9 => absurd (by decide) h9) (fun _ => ?_)
      refine lv_aload_n hx hb dX6_says_24 rfl (lv_at hl 0 rfl) ?_
      refine lv_bipush (v := (-2)) hx hb dX6_says_25 (by decide) ?_
      refine cViQ (As := [.int (-2)]) (rest := []) (b := qm) (q := (RX6, TX6, 35)) ⟨hx, hb, hml, hown, hts⟩ (c_X6_refuse2 l G cy (s.heap).size qm (.ref qmh) (.ref qmo) (.ref qmz) (.ref qmR) (.ref qmv) (.ref qmk) (.ref qma) (.ref qmt) (.int (nI kZ)) qmr tA qmB qmO qmK iEn iTk (ov uP) (ov uU) (.int (nI kAt)) (.int iTo) (.int iFr) (.long JFi) (.int iFa) (.ref qm3) (.int iSt) iLv iWs vLa (.ref qmu) (.ref qmy) (.ref qmb) (.ref qms) (.int iOm) fMr) L_X6_91 hN hP hD hS hA [0, 4] [false, true, true, true, false, true, true, true, true, true, true, true, true, true, true, true, true, true, true, true, true, true, true, true, true, true, true, true, true, true, true, true] rfl (by decide +kernel) rfl 0 5 rfl rfl rfl ⟨Nat.le_of_ble_eq_true rfl, Nat.le_of_ble_eq_true rfl⟩ hl.1 (Nat.le_of_ble_eq_true rfl) dX6_says_27 ⟨Nat.le_of_ble_eq_true rfl, Nat.le_of_ble_eq_true rfl⟩ (fun r_60 u_62 H locs h_61 => ?_)
      clear hP hD hS
      intro hP hD hS
      obtain ⟨fX_63, rfl, h_61⟩ := h_61
      have hPD := pd_as ([zzI cy qmh 8 fMh, zzI cy qmk 8 fMk, zzI cy qma 8 fMa, zzG cy 3 qmB rB, zzI cy (rB 0) 4 (bkR tA 0), zzI cy (rB 1) 4 (bkR tA 1), zzI cy (rB 2) 4 (bkR tA 2), zzI cy (rB 3) 4 (bkR tA 3), zzI cy (rB 4) 4 (bkR tA 4), zzI cy (rB 5) 4 (bkR tA 5), zzI cy (rB 6) 4 (bkR tA 6), zzI cy (rB 7) 4 (bkR tA 7), zzG cy 3 qmO rO, zzI cy (rO 0) 5 (onR tA 0), zzI cy (rO 1) 5 (onR tA 1), zzI cy (rO 2) 5 (onR tA 2), zzI cy (rO 3) 5 (onR tA 3), zzI cy (rO 4) 5 (onR tA 4), zzI cy (rO 5) 5 (onR tA 5), zzI cy (rO 6) 5 (onR tA 6), zzI cy (rO 7) 5 (onR tA 7), zzG cy 3 qmK rK, zzI cy (rK 0) 8 (T_kn tA 0), zzI cy (rK 1) 8 (T_kn tA 1), zzI cy (rK 2) 8 (T_kn tA 2), zzI cy (rK 3) 8 (T_kn tA 3), zzI cy (rK 4) 8 (T_kn tA 4), zzI cy (rK 5) 8 (T_kn tA 5), zzI cy (rK 6) 8 (T_kn tA 6), zzI cy (rK 7) 8 (T_kn tA 7), zzO qm 5 [.ref qmh, .ref qmo, .ref qmz, .ref qmR, .ref qmv, .ref qmk, .ref qma, .ref qmt, .int (nI kZ), .ref qmr, .int (nI (T_nb tA)), .ref qmB, .int (nI (T_np tA)), .ref qmO, .ref qmK, .int iEn, .int iTk, .int (T_sd tA), ov uP, ov uU, .int (nI kAt), .int iTo, .int iFr, .long JFi, .int iFa, .ref qm3, .int iSt, .int iLv, .int iWs, vLa, .ref qmu, .ref qmy, .ref qmb, .ref qms, .int iOm], zzI cy qmr 8 fX_63] ++ oM cy uU) hP hD rfl
      clear hP hD
      obtain ⟨hP, hD⟩ := hPD
      subst h_61
      refine W.widen (k := 50) (n := 888) (Nat.le_of_ble_eq_true rfl) (Nat.le_of_ble_eq_true rfl) ?_
      exact endW (u := ([zzO qm 5 [.ref qmh, .ref qmo, .ref qmz, .ref qmR, .ref qmv, .ref qmk, .ref qma, .ref qmt, .int (nI kZ), .ref qmr, .int (nI (T_nb tA)), .ref qmB, .int (nI (T_np tA)), .ref qmO, .ref qmK, .int iEn, .int iTk, .int (T_sd tA), ov uP, ov uU, .int (nI kAt), .int iTo, .int iFr, .long JFi, .int iFa, .ref qm3, .int iSt, .int iLv, .int iWs, vLa, .ref qmu, .ref qmy, .ref qmb, .ref qms, .int iOm], zzI cy qmh 8 fMh, zzI cy qmk 8 fMk, zzI cy qma 8 fMa, zzI cy qmr 8 fX_63, zzG cy 3 qmB rB, zzI cy (rB 0) 4 (bkR tA 0), zzI cy (rB 1) 4 (bkR tA 1), zzI cy (rB 2) 4 (bkR tA 2), zzI cy (rB 3) 4 (bkR tA 3), zzI cy (rB 4) 4 (bkR tA 4), zzI cy (rB 5) 4 (bkR tA 5), zzI cy (rB 6) 4 (bkR tA 6), zzI cy (rB 7) 4 (bkR tA 7), zzG cy 3 qmO rO, zzI cy (rO 0) 5 (onR tA 0), zzI cy (rO 1) 5 (onR tA 1), zzI cy (rO 2) 5 (onR tA 2), zzI cy (rO 3) 5 (onR tA 3), zzI cy (rO 4) 5 (onR tA 4), zzI cy (rO 5) 5 (onR tA 5), zzI cy (rO 6) 5 (onR tA 6), zzI cy (rO 7) 5 (onR tA 7), zzG cy 3 qmK rK, zzI cy (rK 0) 8 (T_kn tA 0), zzI cy (rK 1) 8 (T_kn tA 1), zzI cy (rK 2) 8 (T_kn tA 2), zzI cy (rK 3) 8 (T_kn tA 3), zzI cy (rK 4) 8 (T_kn tA 4), zzI cy (rK 5) 8 (T_kn tA 5), zzI cy (rK 6) 8 (T_kn tA 6), zzI cy (rK 7) 8 (T_kn tA 7)] ++ oM cy uU)) hx hb hr hlocks rfl (hP.part [30, 0, 1, 2, 31, 3, 4, 5, 6, 7, 8, 9, 10, 11, 12, 13, 14, 15, 16, 17, 18, 19, 20, 21, 22, 23, 24, 25, 26, 27, 28, 29] rfl) (hD.part [30, 0, 1, 2, 31, 3, 4, 5, 6, 7, 8, 9, 10, 11, 12, 13, 14, 15, 16, 17, 18, 19, 20, 21, 22, 23, 24, 25, 26, 27, 28, 29] (by decide +kernel) rfl) hS ⟨fX_63, uU, rfl, Or.inl ⟨rfl, fun q => h_10 q.2⟩, trivial⟩ dX6_says_30
  · refine lv_if_eq (tgt := 24) hx hb dX6_says_9 (by decide) (fun _ => ?_) (fun h9 => absurd (by decide) h9)
    refine lv_aload_n hx hb dX6_says_24 rfl (lv_at hl 0 rfl) ?_
    refine lv_bipush (v := (-2)) hx hb dX6_says_25 (by decide) ?_
    refine cViQ (As := [.int (-2)]) (rest := []) (b := qm) (q := (RX6, TX6, 35)) ⟨hx, hb, hml, hown, hts⟩ (c_X6_refuse2 l G cy (s.heap).size qm (.ref qmh) (.ref qmo) (.ref qmz) (.ref qmR) (.ref qmv) (.ref qmk) (.ref qma) (.ref qmt) (.int (nI kZ)) qmr tA qmB qmO qmK iEn iTk (ov uP) (ov uU) (.int (nI kAt)) (.int iTo) (.int iFr) (.long JFi) (.int iFa) (.ref qm3) (.int iSt) iLv iWs vLa (.ref qmu) (.ref qmy) (.ref qmb) (.ref qms) (.int iOm) fMr) L_X6_91 hN hP hD hS hA [0, 4] [false, true, true, true, false, true, true, true, true, true, true, true, true, true, true, true, true, true, true, true, true, true, true, true, true, true, true, true, true, true, true, true] rfl (by decide +kernel) rfl 0 5 rfl rfl rfl ⟨Nat.le_of_ble_eq_true rfl, Nat.le_of_ble_eq_true rfl⟩ hl.1 (Nat.le_of_ble_eq_true rfl) dX6_says_27 ⟨Nat.le_of_ble_eq_true rfl, Nat.le_of_ble_eq_true rfl⟩ (fun r_65 u_67 H locs h_66 => ?_)
    clear hP hD hS
    intro hP hD hS
    obtain ⟨fX_68, rfl, h_66⟩ := h_66
    have hPD := pd_as ([zzI cy qmh 8 fMh, zzI cy qmk 8 fMk, zzI cy qma 8 fMa, zzG cy 3 qmB rB, zzI cy (rB 0) 4 (bkR tA 0), zzI cy (rB 1) 4 (bkR tA 1), zzI cy (rB 2) 4 (bkR tA 2), zzI cy (rB 3) 4 (bkR tA 3), zzI cy (rB 4) 4 (bkR tA 4), zzI cy (rB 5) 4 (bkR tA 5), zzI cy (rB 6) 4 (bkR tA 6), zzI cy (rB 7) 4 (bkR tA 7), zzG cy 3 qmO rO, zzI cy (rO 0) 5 (onR tA 0), zzI cy (rO 1) 5 (onR tA 1), zzI cy (rO 2) 5 (onR tA 2), zzI cy (rO 3) 5 (onR tA 3), zzI cy (rO 4) 5 (onR tA 4), zzI cy (rO 5) 5 (onR tA 5), zzI cy (rO 6) 5 (onR tA 6), zzI cy (rO 7) 5 (onR tA 7), zzG cy 3 qmK rK, zzI cy (rK 0) 8 (T_kn tA 0), zzI cy (rK 1) 8 (T_kn tA 1), zzI cy (rK 2) 8 (T_kn tA 2), zzI cy (rK 3) 8 (T_kn tA 3), zzI cy (rK 4) 8 (T_kn tA 4), zzI cy (rK 5) 8 (T_kn tA 5), zzI cy (rK 6) 8 (T_kn tA 6), zzI cy (rK 7) 8 (T_kn tA 7), zzO qm 5 [.ref qmh, .ref qmo, .ref qmz, .ref qmR, .ref qmv, .ref qmk, .ref qma, .ref qmt, .int (nI kZ), .ref qmr, .int (nI (T_nb tA)), .ref qmB, .int (nI (T_np tA)), .ref qmO, .ref qmK, .int iEn, .int iTk, .int (T_sd tA), ov uP, ov uU, .int (nI kAt), .int iTo, .int iFr, .long JFi, .int iFa, .ref qm3, .int iSt, .int iLv, .int iWs, vLa, .ref qmu, .ref qmy, .ref qmb, .ref qms, .int iOm], zzI cy qmr 8 fX_68] ++ oM cy uU) hP hD rfl
    clear hP hD
    obtain ⟨hP, hD⟩ := hPD
    subst h_66
    refine W.widen (k := 50) (n := 888) (Nat.le_of_ble_eq_true rfl) (Nat.le_of_ble_eq_true rfl) ?_
    exact endW (u := ([zzO qm 5 [.ref qmh, .ref qmo, .ref qmz, .ref qmR, .ref qmv, .ref qmk, .ref qma, .ref qmt, .int (nI kZ), .ref qmr, .int (nI (T_nb tA)), .ref qmB, .int (nI (T_np tA)), .ref qmO, .ref qmK, .int iEn, .int iTk, .int (T_sd tA), ov uP, ov uU, .int (nI kAt), .int iTo, .int iFr, .long JFi, .int iFa, .ref qm3, .int iSt, .int iLv, .int iWs, vLa, .ref qmu, .ref qmy, .ref qmb, .ref qms, .int iOm], zzI cy qmh 8 fMh, zzI cy qmk 8 fMk, zzI cy qma 8 fMa, zzI cy qmr 8 fX_68, zzG cy 3 qmB rB, zzI cy (rB 0) 4 (bkR tA 0), zzI cy (rB 1) 4 (bkR tA 1), zzI cy (rB 2) 4 (bkR tA 2), zzI cy (rB 3) 4 (bkR tA 3), zzI cy (rB 4) 4 (bkR tA 4), zzI cy (rB 5) 4 (bkR tA 5), zzI cy (rB 6) 4 (bkR tA 6), zzI cy (rB 7) 4 (bkR tA 7), zzG cy 3 qmO rO, zzI cy (rO 0) 5 (onR tA 0), zzI cy (rO 1) 5 (onR tA 1), zzI cy (rO 2) 5 (onR tA 2), zzI cy (rO 3) 5 (onR tA 3), zzI cy (rO 4) 5 (onR tA 4), zzI cy (rO 5) 5 (onR tA 5), zzI cy (rO 6) 5 (onR tA 6), zzI cy (rO 7) 5 (onR tA 7), zzG cy 3 qmK rK, zzI cy (rK 0) 8 (T_kn tA 0), zzI cy (rK 1) 8 (T_kn tA 1), zzI cy (rK 2) 8 (T_kn tA 2), zzI cy (rK 3) 8 (T_kn tA 3), zzI cy (rK 4) 8 (T_kn tA 4), zzI cy (rK 5) 8 (T_kn tA 5), zzI cy (rK 6) 8 (T_kn tA 6), zzI cy (rK 7) 8 (T_kn tA 7)] ++ oM cy uU)) hx hb hr hlocks rfl (hP.part [30, 0, 1, 2, 31, 3, 4, 5, 6, 7, 8, 9, 10, 11, 12, 13, 14, 15, 16, 17, 18, 19, 20, 21, 22, 23, 24, 25, 26, 27, 28, 29] rfl) (hD.part [30, 0, 1, 2, 31, 3, 4, 5, 6, 7, 8, 9, 10, 11, 12, 13, 14, 15, 16, 17, 18, 19, 20, 21, 22, 23, 24, 25, 26, 27, 28, 29] (by decide +kernel) rfl) hS ⟨fX_68, uU, rfl, Or.inl ⟨rfl, fun q => no_of7 h_3 q.1⟩, trivial⟩ dX6_says_30
set_option maxHeartbeats 4000000 in
set_option maxRecDepth 100000 in
theorem x_X5_says (l : Launch) (G : va_G) (cy : Nat → ClassId) (sz : Nat) (qx : Nat) (qt : Nat) (qk : Nat) (qp : Nat) (qs : Nat) (qa : Nat) (qr : Nat) (iKp : Int32) (iYe : Int32) (iTv : Int32) (fR : Nat → Int32) (qsh : Nat) (qss : Nat) (qsa : Nat) (qse : Nat) (fH : Nat → Int32) (fA : Nat → Int32) (tA : TA) (qtw : Nat) (qtn : Nat) (qtg : Nat) (qta : Nat) (qtr : Nat) (qtm : Nat) (qtt : Nat) (qts : Nat) (qu : Nat) (qv : Nat) (iL : Int32) (iBs : Int32) (tU : TA) (quw : Nat) (qun : Nat) (qug : Nat) (qua : Nat) (qur : Nat) (qum : Nat) (qut : Nat) (qus : Nat) (iA : Int32) (iB : Int32)  (hB : T_nb tA ≤ 8) (hPp : T_np tA ≤ 8) : MW l yX5_says cX5_says 6 (some .int) 12 0 0 G cy [zzO qx 4 [.ref qt, .ref qk, .ref qp, .ref qs, .ref qa, .ref qr, .int iKp, .int iYe, .int iTv], zzI cy qr 5 fR, zzO qs 1 [.ref qsh, .ref qss, .ref qsa, .ref qse], zzI cy qsh 8 fH, zzI cy qsa 8 fA, zzO qt 3 [.int (nI (T_nb tA)), .int (nI (T_np tA)), .int (wb (T_wh tA)), .int (wb (T_gn tA)), .int (T_sd tA), .ref qtw, .ref qtn, .ref qtg, .ref qta, .ref qtr, .ref qtm, .ref qtt, .ref qts], zzI cy qtw 8 (T_wo tA), zzI cy qtn 8 (T_ne tA), zzI cy qtg 8 (T_go tA), zzI cy qta 8 (T_ag tA), zzI cy qtr 8 (T_re tA), zzI cy qtm 8 (T_me tA), zzI cy qtt 8 (T_te tA), zzI cy qts 64 (shF (T_kn tA)), zzO qp 0 [.ref qu, .ref qv, .int iL, .int iBs], zzO qu 3 [.int (nI (T_nb tU)), .int (nI (T_np tU)), .int (wb (T_wh tU)), .int (wb (T_gn tU)), .int (T_sd tU), .ref quw, .ref qun, .ref qug, .ref qua, .ref qur, .ref qum, .ref qut, .ref qus], zzI cy quw 8 (T_wo tU), zzI cy qun 8 (T_ne tU), zzI cy qug 8 (T_go tU), zzI cy qua 8 (T_ag tU), zzI cy qur 8 (T_re tU), zzI cy qum 8 (T_me tU), zzI cy qut 8 (T_te tU), zzI cy qus 64 (shF (T_kn tU))] sz [.ref qx, .int iA, .int iB] (Wi G (fun r u => ∃ (fX : Nat → Int32) (iX : Int32) (iY : Int32) (tX : TA), u = [zzO qx 4 [.ref qt, .ref qk, .ref qp, .ref qs, .ref qa, .ref qr, .int iKp, .int iYe, .int iTv], zzI cy qr 5 fX, zzO qs 1 [.ref qsh, .ref qss, .ref qsa, .ref qse], zzI cy qsh 8 fH, zzI cy qsa 8 fA, zzO qt 3 [.int (nI (T_nb tA)), .int (nI (T_np tA)), .int (wb (T_wh tA)), .int (wb (T_gn tA)), .int (T_sd tA), .ref qtw, .ref qtn, .ref qtg, .ref qta, .ref qtr, .ref qtm, .ref qtt, .ref qts], zzI cy qtw 8 (T_wo tA), zzI cy qtn 8 (T_ne tA), zzI cy qtg 8 (T_go tA), zzI cy qta 8 (T_ag tA), zzI cy qtr 8 (T_re tA), zzI cy qtm 8 (T_me tA), zzI cy qtt 8 (T_te tA), zzI cy qts 64 (shF (T_kn tA)), zzO qp 0 [.ref qu, .ref qv, .int iX, .int iY], zzO qu 3 [.int (nI (T_nb tX)), .int (nI (T_np tX)), .int (wb (T_wh tX)), .int (wb (T_gn tX)), .int (T_sd tX), .ref quw, .ref qun, .ref qug, .ref qua, .ref qur, .ref qum, .ref qut, .ref qus], zzI cy quw 8 (T_wo tX), zzI cy qun 8 (T_ne tX), zzI cy qug 8 (T_go tX), zzI cy qua 8 (T_ag tX), zzI cy qur 8 (T_re tX), zzI cy qum 8 (T_me tX), zzI cy qut 8 (T_te tX), zzI cy qus 64 (shF (T_kn tX))] ∧ (PXs fH iA iB (fun k => sayF (fH k - 10) (fA k) tA iB) r) ∧ (True))) := by
  refine enW RX5 (by decide) rfl (Nat.le_of_ble_eq_true rfl) (fun p e s m below meth c ls A hx hb hml hown hts hr hlocks hP hN hl hin hD hA hS => ?_)
  have hin : meth.name = _ := hin
  have hK := hN.1
  replace hl : lv_has ls 6 [(0, .ref qx), (1, .int iA), (2, .int iB)] := hl
  refine lv_iload_n hx hb dX5_says_0 rfl (lv_at hl 2 rfl) ?_
  refine lv_i2l (v := iB.toInt64) hx hb dX5_says_1 rfl ?_
  refine lv_lconst (v := 0) hx hb dX5_says_2 (by decide) ?_
  refine lv_ldc2 hx hb hown (hts _ m_t281) dX5_says_3 ?_
  refine kRi (rS (As := [.long iB.toInt64, .long 0, .long 6]) (rest := []) ⟨hx, hb, hml, hown, hts⟩ (c_X5_within l G cy iB.toInt64 0 6) L_X5_50 (preRS hN hP [] rfl) rfl ⟨Nat.le_of_ble_eq_true rfl, Nat.le_of_ble_eq_true rfl⟩ hl.1 (Nat.le_of_ble_eq_true rfl) dX5_says_6 ⟨Nat.le_of_ble_eq_true rfl, Nat.le_of_ble_eq_true rfl⟩) (fun r_1 h_2 => ?_)
  rcases h_2 with ⟨rfl, h_3⟩ | ⟨rfl, h_3⟩
  · refine lv_if_eq (tgt := 20) hx hb dX5_says_9 (by decide) (fun h9 => absurd h9 (by decide)) (fun _ => ?_)
    refine lv_aload_n hx hb dX5_says_12 rfl (lv_at hl 0 rfl) ?_
    refine lv_iload_n hx hb dX5_says_13 rfl (lv_at hl 1 rfl) ?_
    refine kRi (rV (As := [.int iA]) (rest := []) (b := qx) ⟨hx, hb, hml, hown, hts⟩ (c_X5_ruleFit l G cy qx qt qk qp qs qa qr iKp iYe iTv qsh qss qsa qse fH iA) L_X5_100 (preRV (q := (RX5, TX5, 9)) hN hP [0, 2, 3] rfl 0 4 rfl rfl) rfl ⟨Nat.le_of_ble_eq_true rfl, Nat.le_of_ble_eq_true rfl⟩ hl.1 (Nat.le_of_ble_eq_true rfl) dX5_says_14 ⟨Nat.le_of_ble_eq_true rfl, Nat.le_of_ble_eq_true rfl⟩) (fun r_5 h_6 => ?_)
    rcases h_6 with ⟨rfl, h_7⟩ | ⟨rfl, h_7⟩ | ⟨rfl, h_7⟩ | ⟨rfl, h_7⟩
    · refine lv_goto (tgt := 22) hx hb dX5_says_17 (by decide) ?_
      refine lv_istore_n (lv' := [(3, .int (-2)), (0, .ref qx), (1, .int iA), (2, .int iB)]) hx hb dX5_says_22 rfl hl (by decide) rfl (fun ls => ?_)
      clear hl
      intro hl
      refine lv_iload_n hx hb dX5_says_23 rfl (lv_at hl 0 rfl) ?_
      refine lv_if_ne (tgt := 45) hx hb dX5_says_24 (by decide) (fun _ => ?_) (fun h9 => absurd h9 (by decide))
      refine lv_iload_n hx hb dX5_says_45 rfl (lv_at hl 0 rfl) ?_
      refine lv_if_eq (tgt := 55) hx hb dX5_says_46 (by decide) (fun h9 => absurd h9 (by decide)) (fun _ => ?_)
      refine lv_aload_n hx hb dX5_says_49 rfl (lv_at hl 1 rfl) ?_
      refine lv_iload_n hx hb dX5_says_50 rfl (lv_at hl 0 rfl) ?_
      refine cVi (As := [.int (-2)]) (rest := []) (b := qx) (q := (RX5, TX5, 9)) ⟨hx, hb, hml, hown, hts⟩ (c_X5_refuse2 l G cy (s.heap).size qx qt qk qp qs qa qr iKp iYe iTv fR) L_X5_56 hN hP hD hS hA [0, 1] [false, false, true, true, true, true, true, true, true, true, true, true, true, true, true, true, true, true, true, true, true, true, true, true] rfl (by decide +kernel) rfl 0 4 rfl rfl rfl ⟨Nat.le_of_ble_eq_true rfl, Nat.le_of_ble_eq_true rfl⟩ hl.1 (Nat.le_of_ble_eq_true rfl) dX5_says_51 ⟨Nat.le_of_ble_eq_true rfl, Nat.le_of_ble_eq_true rfl⟩ (fun r_10 u_12 H locs h_11 => ?_)
      clear hP hD hS
      intro hP hD hS
      obtain ⟨fX_13, rfl, h_11⟩ := h_11
      have hPD := pd_as [zzO qs 1 [.ref qsh, .ref qss, .ref qsa, .ref qse], zzI cy qsh 8 fH, zzI cy qsa 8 fA, zzO qt 3 [.int (nI (T_nb tA)), .int (nI (T_np tA)), .int (wb (T_wh tA)), .int (wb (T_gn tA)), .int (T_sd tA), .ref qtw, .ref qtn, .ref qtg, .ref qta, .ref qtr, .ref qtm, .ref qtt, .ref qts], zzI cy qtw 8 (T_wo tA), zzI cy qtn 8 (T_ne tA), zzI cy qtg 8 (T_go tA), zzI cy qta 8 (T_ag tA), zzI cy qtr 8 (T_re tA), zzI cy qtm 8 (T_me tA), zzI cy qtt 8 (T_te tA), zzI cy qts 64 (shF (T_kn tA)), zzO qp 0 [.ref qu, .ref qv, .int iL, .int iBs], zzO qu 3 [.int (nI (T_nb tU)), .int (nI (T_np tU)), .int (wb (T_wh tU)), .int (wb (T_gn tU)), .int (T_sd tU), .ref quw, .ref qun, .ref qug, .ref qua, .ref qur, .ref qum, .ref qut, .ref qus], zzI cy quw 8 (T_wo tU), zzI cy qun 8 (T_ne tU), zzI cy qug 8 (T_go tU), zzI cy qua 8 (T_ag tU), zzI cy qur 8 (T_re tU), zzI cy qum 8 (T_me tU), zzI cy qut 8 (T_te tU), zzI cy qus 64 (shF (T_kn tU)), zzO qx 4 [.ref qt, .ref qk, .ref qp, .ref qs, .ref qa, .ref qr, .int iKp, .int iYe, .int iTv], zzI cy qr 5 fX_13] hP hD rfl
      clear hP hD
      obtain ⟨hP, hD⟩ := hPD
      subst h_11
      exact endW (u := [zzO qx 4 [.ref qt, .ref qk, .ref qp, .ref qs, .ref qa, .ref qr, .int iKp, .int iYe, .int iTv], zzI cy qr 5 fX_13, zzO qs 1 [.ref qsh, .ref qss, .ref qsa, .ref qse], zzI cy qsh 8 fH, zzI cy qsa 8 fA, zzO qt 3 [.int (nI (T_nb tA)), .int (nI (T_np tA)), .int (wb (T_wh tA)), .int (wb (T_gn tA)), .int (T_sd tA), .ref qtw, .ref qtn, .ref qtg, .ref qta, .ref qtr, .ref qtm, .ref qtt, .ref qts], zzI cy qtw 8 (T_wo tA), zzI cy qtn 8 (T_ne tA), zzI cy qtg 8 (T_go tA), zzI cy qta 8 (T_ag tA), zzI cy qtr 8 (T_re tA), zzI cy qtm 8 (T_me tA), zzI cy qtt 8 (T_te tA), zzI cy qts 64 (shF (T_kn tA)), zzO qp 0 [.ref qu, .ref qv, .int iL, .int iBs], zzO qu 3 [.int (nI (T_nb tU)), .int (nI (T_np tU)), .int (wb (T_wh tU)), .int (wb (T_gn tU)), .int (T_sd tU), .ref quw, .ref qun, .ref qug, .ref qua, .ref qur, .ref qum, .ref qut, .ref qus], zzI cy quw 8 (T_wo tU), zzI cy qun 8 (T_ne tU), zzI cy qug 8 (T_go tU), zzI cy qua 8 (T_ag tU), zzI cy qur 8 (T_re tU), zzI cy qum 8 (T_me tU), zzI cy qut 8 (T_te tU), zzI cy qus 64 (shF (T_kn tU))]) hx hb hr hlocks rfl (hP.sub [22, 23, 0, 1, 2, 3, 4, 5, 6, 7, 8, 9, 10, 11, 12, 13, 14, 15, 16, 17, 18, 19, 20, 21] rfl) (hD.sub [22, 23, 0, 1, 2, 3, 4, 5, 6, 7, 8, 9, 10, 11, 12, 13, 14, 15, 16, 17, 18, 19, 20, 21] (by decide +kernel) rfl) hS ⟨fX_13, iL, iBs, tU, rfl, Or.inl ⟨rfl, fun q => h_7 q.1⟩, trivial⟩ dX5_says_54
    · obtain ⟨k_14, hk_15, rfl, h_16⟩ := h_7
      refine lv_goto (tgt := 22) hx hb dX5_says_17 (by decide) ?_
      refine lv_istore_n (lv' := [(3, .int (-3)), (0, .ref qx), (1, .int (nI k_14)), (2, .int iB)]) hx hb dX5_says_22 rfl hl (by decide) rfl (fun ls => ?_)
      clear hl
      intro hl
      refine lv_iload_n hx hb dX5_says_23 rfl (lv_at hl 0 rfl) ?_
      refine lv_if_ne (tgt := 45) hx hb dX5_says_24 (by decide) (fun _ => ?_) (fun h9 => absurd h9 (by decide))
      refine lv_iload_n hx hb dX5_says_45 rfl (lv_at hl 0 rfl) ?_
      refine lv_if_eq (tgt := 55) hx hb dX5_says_46 (by decide) (fun h9 => absurd h9 (by decide)) (fun _ => ?_)
      refine lv_aload_n hx hb dX5_says_49 rfl (lv_at hl 1 rfl) ?_
      refine lv_iload_n hx hb dX5_says_50 rfl (lv_at hl 0 rfl) ?_
      refine cVi (As := [.int (-3)]) (rest := []) (b := qx) (q := (RX5, TX5, 9)) ⟨hx, hb, hml, hown, hts⟩ (c_X5_refuse3 l G cy (s.heap).size qx qt qk qp qs qa qr iKp iYe iTv fR) L_X5_56 hN hP hD hS hA [0, 1] [false, false, true, true, true, true, true, true, true, true, true, true, true, true, true, true, true, true, true, true, true, true, true, true] rfl (by decide +kernel) rfl 0 4 rfl rfl rfl ⟨Nat.le_of_ble_eq_true rfl, Nat.le_of_ble_eq_true rfl⟩ hl.1 (Nat.le_of_ble_eq_true rfl) dX5_says_51 ⟨Nat.le_of_ble_eq_true rfl, Nat.le_of_ble_eq_true rfl⟩ (fun r_19 u_21 H locs h_20 => ?_)
      clear hP hD hS
      intro hP hD hS
      obtain ⟨fX_22, rfl, h_20⟩ := h_20
      have hPD := pd_as [zzO qs 1 [.ref qsh, .ref qss, .ref qsa, .ref qse], zzI cy qsh 8 fH, zzI cy qsa 8 fA, zzO qt 3 [.int (nI (T_nb tA)), .int (nI (T_np tA)), .int (wb (T_wh tA)), .int (wb (T_gn tA)), .int (T_sd tA), .ref qtw, .ref qtn, .ref qtg, .ref qta, .ref qtr, .ref qtm, .ref qtt, .ref qts], zzI cy qtw 8 (T_wo tA), zzI cy qtn 8 (T_ne tA), zzI cy qtg 8 (T_go tA), zzI cy qta 8 (T_ag tA), zzI cy qtr 8 (T_re tA), zzI cy qtm 8 (T_me tA), zzI cy qtt 8 (T_te tA), zzI cy qts 64 (shF (T_kn tA)), zzO qp 0 [.ref qu, .ref qv, .int iL, .int iBs], zzO qu 3 [.int (nI (T_nb tU)), .int (nI (T_np tU)), .int (wb (T_wh tU)), .int (wb (T_gn tU)), .int (T_sd tU), .ref quw, .ref qun, .ref qug, .ref qua, .ref qur, .ref qum, .ref qut, .ref qus], zzI cy quw 8 (T_wo tU), zzI cy qun 8 (T_ne tU), zzI cy qug 8 (T_go tU), zzI cy qua 8 (T_ag tU), zzI cy qur 8 (T_re tU), zzI cy qum 8 (T_me tU), zzI cy qut 8 (T_te tU), zzI cy qus 64 (shF (T_kn tU)), zzO qx 4 [.ref qt, .ref qk, .ref qp, .ref qs, .ref qa, .ref qr, .int iKp, .int iYe, .int iTv], zzI cy qr 5 fX_22] hP hD rfl
      clear hP hD
      obtain ⟨hP, hD⟩ := hPD
      subst h_20
      exact endW (u := [zzO qx 4 [.ref qt, .ref qk, .ref qp, .ref qs, .ref qa, .ref qr, .int iKp, .int iYe, .int iTv], zzI cy qr 5 fX_22, zzO qs 1 [.ref qsh, .ref qss, .ref qsa, .ref qse], zzI cy qsh 8 fH, zzI cy qsa 8 fA, zzO qt 3 [.int (nI (T_nb tA)), .int (nI (T_np tA)), .int (wb (T_wh tA)), .int (wb (T_gn tA)), .int (T_sd tA), .ref qtw, .ref qtn, .ref qtg, .ref qta, .ref qtr, .ref qtm, .ref qtt, .ref qts], zzI cy qtw 8 (T_wo tA), zzI cy qtn 8 (T_ne tA), zzI cy qtg 8 (T_go tA), zzI cy qta 8 (T_ag tA), zzI cy qtr 8 (T_re tA), zzI cy qtm 8 (T_me tA), zzI cy qtt 8 (T_te tA), zzI cy qts 64 (shF (T_kn tA)), zzO qp 0 [.ref qu, .ref qv, .int iL, .int iBs], zzO qu 3 [.int (nI (T_nb tU)), .int (nI (T_np tU)), .int (wb (T_wh tU)), .int (wb (T_gn tU)), .int (T_sd tU), .ref quw, .ref qun, .ref qug, .ref qua, .ref qur, .ref qum, .ref qut, .ref qus], zzI cy quw 8 (T_wo tU), zzI cy qun 8 (T_ne tU), zzI cy qug 8 (T_go tU), zzI cy qua 8 (T_ag tU), zzI cy qur 8 (T_re tU), zzI cy qum 8 (T_me tU), zzI cy qut 8 (T_te tU), zzI cy qus 64 (shF (T_kn tU))]) hx hb hr hlocks rfl (hP.sub [22, 23, 0, 1, 2, 3, 4, 5, 6, 7, 8, 9, 10, 11, 12, 13, 14, 15, 16, 17, 18, 19, 20, 21] rfl) (hD.sub [22, 23, 0, 1, 2, 3, 4, 5, 6, 7, 8, 9, 10, 11, 12, 13, 14, 15, 16, 17, 18, 19, 20, 21] (by decide +kernel) rfl) hS ⟨fX_22, iL, iBs, tU, rfl, Or.inr (Or.inl ⟨rfl, h_3, k_14, hk_15, rfl, Or.inl h_16⟩), trivial⟩ dX5_says_54
    · obtain ⟨k_23, hk_24, rfl, h_25, h_26⟩ := h_7
      refine lv_goto (tgt := 22) hx hb dX5_says_17 (by decide) ?_
      refine lv_istore_n (lv' := [(3, .int 0), (0, .ref qx), (1, .int (nI k_23)), (2, .int iB)]) hx hb dX5_says_22 rfl hl (by decide) rfl (fun ls => ?_)
      clear hl
      intro hl
      refine lv_iload_n hx hb dX5_says_23 rfl (lv_at hl 0 rfl) ?_
      refine lv_if_ne (tgt := 45) hx hb dX5_says_24 (by decide) (fun h9 => absurd (by decide) h9) (fun _ => ?_)
      refine lv_aload_n hx hb dX5_says_27 rfl (lv_at hl 1 rfl) ?_
      refine va_get (D := G) (ci := 4) (v := .ref qs) (C := RX5) (T := TX5) (N := 9) hx hb hts iX_X5 hown hK hP 0 rfl rfl 3 (by decide) (hts _ m_t177) (fun _ h9 => h9) rfl dX5_says_28 ?_
      refine lv_iload_n hx hb dX5_says_31 rfl (lv_at hl 2 rfl) ?_
      refine kRi (rV (As := [.int (nI k_23)]) (rest := []) (b := qs) ⟨hx, hb, hml, hown, hts⟩ (c_X2_kindIn l G cy qs qsh qss qsa qse fH k_23 (by omega)) L_X5_103 (preRV (q := (RX2, TX2, 4)) hN hP [2, 3] rfl 2 1 rfl rfl) rfl ⟨Nat.le_of_ble_eq_true rfl, Nat.le_of_ble_eq_true rfl⟩ hl.1 (Nat.le_of_ble_eq_true rfl) dX5_says_32 ⟨Nat.le_of_ble_eq_true rfl, Nat.le_of_ble_eq_true rfl⟩) (fun r_28 h_29 => ?_)
      subst h_29
      refine lv_iload_n hx hb dX5_says_35 rfl (lv_at hl 3 rfl) ?_
      refine kRi (rS (As := [.int ((fH k_23) - 10), .int iB]) (rest := []) ⟨hx, hb, hml, hown, hts⟩ (c_X1_isUnder l G cy ((fH k_23) - 10) iB) L_X5_106 (preRS hN hP [] rfl) rfl ⟨Nat.le_of_ble_eq_true rfl, Nat.le_of_ble_eq_true rfl⟩ hl.1 (Nat.le_of_ble_eq_true rfl) dX5_says_36 ⟨Nat.le_of_ble_eq_true rfl, Nat.le_of_ble_eq_true rfl⟩) (fun r_30 h_31 => ?_)
      rcases h_31 with ⟨rfl, h_32⟩ | ⟨rfl, h_32⟩
      · refine lv_if_ne (tgt := 45) hx hb dX5_says_39 (by decide) (fun _ => ?_) (fun h9 => absurd h9 (by decide))
        refine lv_iload_n hx hb dX5_says_45 rfl (lv_at hl 0 rfl) ?_
        refine lv_if_eq (tgt := 55) hx hb dX5_says_46 (by decide) (fun _ => ?_) (fun h9 => absurd (by decide) h9)
        refine lv_iload_n hx hb dX5_says_55 rfl (lv_at hl 3 rfl) ?_
        refine lv_if_ne (tgt := 69) hx hb dX5_says_56 (by decide) (fun c_35 => ?_) (fun c_35 => ?_)
        · refine lv_aload_n hx hb dX5_says_69 rfl (lv_at hl 1 rfl) ?_
          refine va_get (D := G) (ci := 4) (v := .ref qp) (C := RX5) (T := TX5) (N := 9) hx hb hts iX_X5 hown hK hP 0 rfl rfl 2 (by decide) (hts _ m_t176) (fun _ h9 => h9) rfl dX5_says_70 ?_
          refine lv_aload_n hx hb dX5_says_73 rfl (lv_at hl 1 rfl) ?_
          refine va_get (D := G) (ci := 4) (v := .ref qt) (C := RX5) (T := TX5) (N := 9) hx hb hts iX_X5 hown hK hP 0 rfl rfl 0 (by decide) (hts _ m_t174) (fun _ h9 => h9) rfl dX5_says_74 ?_
          refine cVq (As := [.ref qt]) (rest := []) (b := qp) (q := (RX0, TX0, 4)) ⟨hx, hb, hml, hown, hts⟩ (c_X0_trialOf l G cy (s.heap).size qp qu (.ref qv) (.int iL) (.int iBs) tU quw qun qug qua qur qum qut qus qt tA qtw qtn qtg qta qtr qtm qtt qts) L_X5_115 hN hP hD hS hA [14, 15, 16, 17, 18, 19, 20, 21, 22, 23, 5, 6, 7, 8, 9, 10, 11, 12, 13] [true, true, true, true, true, false, false, false, false, false, false, false, false, false, false, false, false, false, false, false, false, false, false, false] rfl (by decide +kernel) rfl 14 0 rfl rfl rfl ⟨Nat.le_of_ble_eq_true rfl, Nat.le_of_ble_eq_true rfl⟩ hl.1 (Nat.le_of_ble_eq_true rfl) dX5_says_77 ⟨Nat.le_of_ble_eq_true rfl, Nat.le_of_ble_eq_true rfl⟩ (fun r_36 u_38 H locs h_37 => ?_)
          clear hP hD hS
          intro hP hD hS
          obtain ⟨rfl, h_37⟩ := h_37
          have hPD := pd_as [zzO qx 4 [.ref qt, .ref qk, .ref qp, .ref qs, .ref qa, .ref qr, .int iKp, .int iYe, .int iTv], zzI cy qr 5 fR, zzO qs 1 [.ref qsh, .ref qss, .ref qsa, .ref qse], zzI cy qsh 8 fH, zzI cy qsa 8 fA, zzO qp 0 [.ref qu, .ref qv, .int iL, .int iBs], zzO qu 3 [.int (nI (T_nb tA)), .int (nI (T_np tA)), .int (wb (T_wh tA)), .int (wb (T_gn tA)), .int (T_sd tA), .ref quw, .ref qun, .ref qug, .ref qua, .ref qur, .ref qum, .ref qut, .ref qus], zzI cy quw 8 (T_wo tA), zzI cy qun 8 (T_ne tA), zzI cy qug 8 (T_go tA), zzI cy qua 8 (T_ag tA), zzI cy qur 8 (T_re tA), zzI cy qum 8 (T_me tA), zzI cy qut 8 (T_te tA), zzI cy qus 64 (shF (T_kn tA)), zzO qt 3 [.int (nI (T_nb tA)), .int (nI (T_np tA)), .int (wb (T_wh tA)), .int (wb (T_gn tA)), .int (T_sd tA), .ref qtw, .ref qtn, .ref qtg, .ref qta, .ref qtr, .ref qtm, .ref qtt, .ref qts], zzI cy qtw 8 (T_wo tA), zzI cy qtn 8 (T_ne tA), zzI cy qtg 8 (T_go tA), zzI cy qta 8 (T_ag tA), zzI cy qtr 8 (T_re tA), zzI cy qtm 8 (T_me tA), zzI cy qtt 8 (T_te tA), zzI cy qts 64 (shF (T_kn tA))] hP hD rfl
          clear hP hD
          obtain ⟨hP, hD⟩ := hPD
          have h_37 := h_37.symm
          subst h_37
          refine lv_astore (lv' := [(4, .ref qu), (3, .int 0), (0, .ref qx), (1, .int (nI k_23)), (2, .int iB)]) hx hb dX5_says_80 hl (by decide) rfl (fun ls => ?_)
          clear hl
          intro hl
          refine lv_aload hx hb dX5_says_82 (lv_at hl 0 rfl) ?_
          refine lv_aload_n hx hb dX5_says_84 rfl (lv_at hl 2 rfl) ?_
          refine va_get (D := G) (ci := 4) (v := .ref qs) (C := RX5) (T := TX5) (N := 9) hx hb hts iX_X5 hown hK hP 0 rfl rfl 3 (by decide) (hts _ m_t177) (fun _ h9 => h9) rfl dX5_says_85 ?_
          refine lv_iload_n hx hb dX5_says_88 rfl (lv_at hl 3 rfl) ?_
          refine kRi (rV (As := [.int (nI k_23)]) (rest := [.ref qu]) (b := qs) ⟨hx, hb, hml, hown, hts⟩ (c_X2_kindIn l G cy qs qsh qss qsa qse fH k_23 (by omega)) L_X5_103 (preRV (q := (RX2, TX2, 4)) hN hP [2, 3] rfl 2 1 rfl rfl) rfl ⟨Nat.le_of_ble_eq_true rfl, Nat.le_of_ble_eq_true rfl⟩ hl.1 (Nat.le_of_ble_eq_true rfl) dX5_says_89 ⟨Nat.le_of_ble_eq_true rfl, Nat.le_of_ble_eq_true rfl⟩) (fun r_39 h_40 => ?_)
          subst h_40
          refine lv_aload_n hx hb dX5_says_92 rfl (lv_at hl 2 rfl) ?_
          refine va_get (D := G) (ci := 4) (v := .ref qs) (C := RX5) (T := TX5) (N := 9) hx hb hts iX_X5 hown hK hP 0 rfl rfl 3 (by decide) (hts _ m_t177) (fun _ h9 => h9) rfl dX5_says_93 ?_
          refine va_getN (D := G) (ci := 1) (v := .ref qsa) (C := RX2) (T := TX2) (N := 4) hx hb hts iX_X2 hown hK hP 2 rfl rfl 2 (by decide) (va_Nw.use rfl (hN.2.1 (RX5, 112, "EachBookOnce$Shelves", "amount", "[I") (List.mem_of_getElem? (i := 28) rfl))) (fun _ h9 => h9) rfl dX5_says_96 ?_
          refine lv_iload_n hx hb dX5_says_99 rfl (lv_at hl 3 rfl) ?_
          refine va_iald hx hb hK hP 4 0 rfl rfl (in8 (by omega)) dX5_says_100 ?_
          refine lv_seti (v := fA k_23) (congrArg fA (cl8 (by omega))) ?_
          refine cSi (As := [.ref qu, .int ((fH k_23) - 10), .int (fA k_23)]) (rest := []) ⟨hx, hb, hml, hown, hts⟩ (c_X1_act l G cy (H).size qu tA quw qun qug qua qur qum qut qus ((fH k_23) - 10) (fA k_23) hB hPp) L_X5_119 hN hP hD hS hA [6, 7, 8, 9, 10, 11, 12, 13, 14] [true, true, true, true, true, true, false, false, false, false, false, false, false, false, false, true, true, true, true, true, true, true, true, true] rfl (by decide +kernel) rfl rfl ⟨Nat.le_of_ble_eq_true rfl, Nat.le_of_ble_eq_true rfl⟩ hl.1 (Nat.le_of_ble_eq_true rfl) dX5_says_101 ⟨Nat.le_of_ble_eq_true rfl, Nat.le_of_ble_eq_true rfl⟩ (fun r_41 u_43 H locs h_42 => ?_)
          clear hP hD hS
          intro hP hD hS
          obtain ⟨rfl, h_42⟩ := h_42
          have hPD := pd_as [zzO qx 4 [.ref qt, .ref qk, .ref qp, .ref qs, .ref qa, .ref qr, .int iKp, .int iYe, .int iTv], zzI cy qr 5 fR, zzO qs 1 [.ref qsh, .ref qss, .ref qsa, .ref qse], zzI cy qsh 8 fH, zzI cy qsa 8 fA, zzO qp 0 [.ref qu, .ref qv, .int iL, .int iBs], zzO qt 3 [.int (nI (T_nb tA)), .int (nI (T_np tA)), .int (wb (T_wh tA)), .int (wb (T_gn tA)), .int (T_sd tA), .ref qtw, .ref qtn, .ref qtg, .ref qta, .ref qtr, .ref qtm, .ref qtt, .ref qts], zzI cy qtw 8 (T_wo tA), zzI cy qtn 8 (T_ne tA), zzI cy qtg 8 (T_go tA), zzI cy qta 8 (T_ag tA), zzI cy qtr 8 (T_re tA), zzI cy qtm 8 (T_me tA), zzI cy qtt 8 (T_te tA), zzI cy qts 64 (shF (T_kn tA)), zzO qu 3 [.int (nI (T_nb ((zact tA ((fH k_23) - 10) (fA k_23)).1))), .int (nI (T_np ((zact tA ((fH k_23) - 10) (fA k_23)).1))), .int (wb (T_wh ((zact tA ((fH k_23) - 10) (fA k_23)).1))), .int (wb (T_gn ((zact tA ((fH k_23) - 10) (fA k_23)).1))), .int (T_sd ((zact tA ((fH k_23) - 10) (fA k_23)).1)), .ref quw, .ref qun, .ref qug, .ref qua, .ref qur, .ref qum, .ref qut, .ref qus], zzI cy quw 8 (T_wo ((zact tA ((fH k_23) - 10) (fA k_23)).1)), zzI cy qun 8 (T_ne ((zact tA ((fH k_23) - 10) (fA k_23)).1)), zzI cy qug 8 (T_go ((zact tA ((fH k_23) - 10) (fA k_23)).1)), zzI cy qua 8 (T_ag ((zact tA ((fH k_23) - 10) (fA k_23)).1)), zzI cy qur 8 (T_re ((zact tA ((fH k_23) - 10) (fA k_23)).1)), zzI cy qum 8 (T_me ((zact tA ((fH k_23) - 10) (fA k_23)).1)), zzI cy qut 8 (T_te ((zact tA ((fH k_23) - 10) (fA k_23)).1)), zzI cy qus 64 (shF (T_kn ((zact tA ((fH k_23) - 10) (fA k_23)).1)))] hP hD rfl
          clear hP hD
          obtain ⟨hP, hD⟩ := hPD
          subst h_42
          refine lv_istore (lv' := [(5, .int ((zact tA ((fH k_23) - 10) (fA k_23)).2)), (4, .ref qu), (3, .int 0), (0, .ref qx), (1, .int (nI k_23)), (2, .int iB)]) hx hb dX5_says_104 hl (by decide) rfl (fun ls => ?_)
          clear hl
          intro hl
          refine lv_iload_n hx hb dX5_says_106 rfl (lv_at hl 5 rfl) ?_
          refine lv_iconst (v := 3) hx hb dX5_says_107 (by decide) ?_
          refine lv_icmp_gt (tgt := 116) hx hb dX5_says_108 (by decide) (fun c_44 => ?_) (fun c_44 => ?_)
          · refine lv_aload hx hb dX5_says_116 (lv_at hl 1 rfl) ?_
            refine kRi (rV (As := []) (rest := []) (b := qu) ⟨hx, hb, hml, hown, hts⟩ (c_X4_worthNow l G cy qu ((zact tA ((fH k_23) - 10) (fA k_23)).1) quw qun qug qua qur qum qut qus (by rw [nb_za]; omega) (by rw [np_za]; omega)) L_X5_123 (preRV (q := (RX4, TX4, 13)) hN hP [15, 16, 23] rfl 15 3 rfl rfl) rfl ⟨Nat.le_of_ble_eq_true rfl, Nat.le_of_ble_eq_true rfl⟩ hl.1 (Nat.le_of_ble_eq_true rfl) dX5_says_118 ⟨Nat.le_of_ble_eq_true rfl, Nat.le_of_ble_eq_true rfl⟩) (fun r_45 h_46 => ?_)
            subst h_46
            exact endW (u := [zzO qx 4 [.ref qt, .ref qk, .ref qp, .ref qs, .ref qa, .ref qr, .int iKp, .int iYe, .int iTv], zzI cy qr 5 fR, zzO qs 1 [.ref qsh, .ref qss, .ref qsa, .ref qse], zzI cy qsh 8 fH, zzI cy qsa 8 fA, zzO qt 3 [.int (nI (T_nb tA)), .int (nI (T_np tA)), .int (wb (T_wh tA)), .int (wb (T_gn tA)), .int (T_sd tA), .ref qtw, .ref qtn, .ref qtg, .ref qta, .ref qtr, .ref qtm, .ref qtt, .ref qts], zzI cy qtw 8 (T_wo tA), zzI cy qtn 8 (T_ne tA), zzI cy qtg 8 (T_go tA), zzI cy qta 8 (T_ag tA), zzI cy qtr 8 (T_re tA), zzI cy qtm 8 (T_me tA), zzI cy qtt 8 (T_te tA), zzI cy qts 64 (shF (T_kn tA)), zzO qp 0 [.ref qu, .ref qv, .int iL, .int iBs], zzO qu 3 [.int (nI (T_nb ((zact tA ((fH k_23) - 10) (fA k_23)).1))), .int (nI (T_np ((zact tA ((fH k_23) - 10) (fA k_23)).1))), .int (wb (T_wh ((zact tA ((fH k_23) - 10) (fA k_23)).1))), .int (wb (T_gn ((zact tA ((fH k_23) - 10) (fA k_23)).1))), .int (T_sd ((zact tA ((fH k_23) - 10) (fA k_23)).1)), .ref quw, .ref qun, .ref qug, .ref qua, .ref qur, .ref qum, .ref qut, .ref qus], zzI cy quw 8 (T_wo ((zact tA ((fH k_23) - 10) (fA k_23)).1)), zzI cy qun 8 (T_ne ((zact tA ((fH k_23) - 10) (fA k_23)).1)), zzI cy qug 8 (T_go ((zact tA ((fH k_23) - 10) (fA k_23)).1)), zzI cy qua 8 (T_ag ((zact tA ((fH k_23) - 10) (fA k_23)).1)), zzI cy qur 8 (T_re ((zact tA ((fH k_23) - 10) (fA k_23)).1)), zzI cy qum 8 (T_me ((zact tA ((fH k_23) - 10) (fA k_23)).1)), zzI cy qut 8 (T_te ((zact tA ((fH k_23) - 10) (fA k_23)).1)), zzI cy qus 64 (shF (T_kn ((zact tA ((fH k_23) - 10) (fA k_23)).1)))]) hx hb hr hlocks rfl (hP.sub [0, 1, 2, 3, 4, 6, 7, 8, 9, 10, 11, 12, 13, 14, 5, 15, 16, 17, 18, 19, 20, 21, 22, 23] rfl) (hD.sub [0, 1, 2, 3, 4, 6, 7, 8, 9, 10, 11, 12, 13, 14, 5, 15, 16, 17, 18, 19, 20, 21, 22, 23] (by decide +kernel) rfl) hS ⟨fR, iL, iBs, ((zact tA ((fH k_23) - 10) (fA k_23)).1), rfl, Or.inr (Or.inr (Or.inr ⟨k_23, hk_24, rfl, h_26, h_3, h_32, sy_v c_35 (Int32.not_le.mpr c_44)⟩)), trivial⟩ dX5_says_121
          · refine lv_iload hx hb dX5_says_111 (lv_at hl 0 rfl) ?_
            refine lv_goto (tgt := 121) hx hb dX5_says_113 (by decide) ?_
            exact endW (u := [zzO qx 4 [.ref qt, .ref qk, .ref qp, .ref qs, .ref qa, .ref qr, .int iKp, .int iYe, .int iTv], zzI cy qr 5 fR, zzO qs 1 [.ref qsh, .ref qss, .ref qsa, .ref qse], zzI cy qsh 8 fH, zzI cy qsa 8 fA, zzO qt 3 [.int (nI (T_nb tA)), .int (nI (T_np tA)), .int (wb (T_wh tA)), .int (wb (T_gn tA)), .int (T_sd tA), .ref qtw, .ref qtn, .ref qtg, .ref qta, .ref qtr, .ref qtm, .ref qtt, .ref qts], zzI cy qtw 8 (T_wo tA), zzI cy qtn 8 (T_ne tA), zzI cy qtg 8 (T_go tA), zzI cy qta 8 (T_ag tA), zzI cy qtr 8 (T_re tA), zzI cy qtm 8 (T_me tA), zzI cy qtt 8 (T_te tA), zzI cy qts 64 (shF (T_kn tA)), zzO qp 0 [.ref qu, .ref qv, .int iL, .int iBs], zzO qu 3 [.int (nI (T_nb ((zact tA ((fH k_23) - 10) (fA k_23)).1))), .int (nI (T_np ((zact tA ((fH k_23) - 10) (fA k_23)).1))), .int (wb (T_wh ((zact tA ((fH k_23) - 10) (fA k_23)).1))), .int (wb (T_gn ((zact tA ((fH k_23) - 10) (fA k_23)).1))), .int (T_sd ((zact tA ((fH k_23) - 10) (fA k_23)).1)), .ref quw, .ref qun, .ref qug, .ref qua, .ref qur, .ref qum, .ref qut, .ref qus], zzI cy quw 8 (T_wo ((zact tA ((fH k_23) - 10) (fA k_23)).1)), zzI cy qun 8 (T_ne ((zact tA ((fH k_23) - 10) (fA k_23)).1)), zzI cy qug 8 (T_go ((zact tA ((fH k_23) - 10) (fA k_23)).1)), zzI cy qua 8 (T_ag ((zact tA ((fH k_23) - 10) (fA k_23)).1)), zzI cy qur 8 (T_re ((zact tA ((fH k_23) - 10) (fA k_23)).1)), zzI cy qum 8 (T_me ((zact tA ((fH k_23) - 10) (fA k_23)).1)), zzI cy qut 8 (T_te ((zact tA ((fH k_23) - 10) (fA k_23)).1)), zzI cy qus 64 (shF (T_kn ((zact tA ((fH k_23) - 10) (fA k_23)).1)))]) hx hb hr hlocks rfl (hP.sub [0, 1, 2, 3, 4, 6, 7, 8, 9, 10, 11, 12, 13, 14, 5, 15, 16, 17, 18, 19, 20, 21, 22, 23] rfl) (hD.sub [0, 1, 2, 3, 4, 6, 7, 8, 9, 10, 11, 12, 13, 14, 5, 15, 16, 17, 18, 19, 20, 21, 22, 23] (by decide +kernel) rfl) hS ⟨fR, iL, iBs, ((zact tA ((fH k_23) - 10) (fA k_23)).1), rfl, Or.inr (Or.inr (Or.inr ⟨k_23, hk_24, rfl, h_26, h_3, h_32, sy_c c_35 (Int32.not_lt.mp c_44)⟩)), trivial⟩ dX5_says_121
        · refine lv_aload_n hx hb dX5_says_59 rfl (lv_at hl 1 rfl) ?_
          refine va_get (D := G) (ci := 4) (v := .ref qs) (C := RX5) (T := TX5) (N := 9) hx hb hts iX_X5 hown hK hP 0 rfl rfl 3 (by decide) (hts _ m_t177) (fun _ h9 => h9) rfl dX5_says_60 ?_
          refine va_getN (D := G) (ci := 1) (v := .ref qsa) (C := RX2) (T := TX2) (N := 4) hx hb hts iX_X2 hown hK hP 2 rfl rfl 2 (by decide) (va_Nw.use rfl (hN.2.1 (RX5, 112, "EachBookOnce$Shelves", "amount", "[I") (List.mem_of_getElem? (i := 28) rfl))) (fun _ h9 => h9) rfl dX5_says_63 ?_
          refine lv_iload_n hx hb dX5_says_66 rfl (lv_at hl 2 rfl) ?_
          refine va_iald hx hb hK hP 4 0 rfl rfl (in8 (by omega)) dX5_says_67 ?_
          refine lv_seti (v := fA k_23) (congrArg fA (cl8 (by omega))) ?_
          exact endW (u := [zzO qx 4 [.ref qt, .ref qk, .ref qp, .ref qs, .ref qa, .ref qr, .int iKp, .int iYe, .int iTv], zzI cy qr 5 fR, zzO qs 1 [.ref qsh, .ref qss, .ref qsa, .ref qse], zzI cy qsh 8 fH, zzI cy qsa 8 fA, zzO qt 3 [.int (nI (T_nb tA)), .int (nI (T_np tA)), .int (wb (T_wh tA)), .int (wb (T_gn tA)), .int (T_sd tA), .ref qtw, .ref qtn, .ref qtg, .ref qta, .ref qtr, .ref qtm, .ref qtt, .ref qts], zzI cy qtw 8 (T_wo tA), zzI cy qtn 8 (T_ne tA), zzI cy qtg 8 (T_go tA), zzI cy qta 8 (T_ag tA), zzI cy qtr 8 (T_re tA), zzI cy qtm 8 (T_me tA), zzI cy qtt 8 (T_te tA), zzI cy qts 64 (shF (T_kn tA)), zzO qp 0 [.ref qu, .ref qv, .int iL, .int iBs], zzO qu 3 [.int (nI (T_nb tU)), .int (nI (T_np tU)), .int (wb (T_wh tU)), .int (wb (T_gn tU)), .int (T_sd tU), .ref quw, .ref qun, .ref qug, .ref qua, .ref qur, .ref qum, .ref qut, .ref qus], zzI cy quw 8 (T_wo tU), zzI cy qun 8 (T_ne tU), zzI cy qug 8 (T_go tU), zzI cy qua 8 (T_ag tU), zzI cy qur 8 (T_re tU), zzI cy qum 8 (T_me tU), zzI cy qut 8 (T_te tU), zzI cy qus 64 (shF (T_kn tU))]) hx hb hr hlocks rfl (hP.sub [0, 1, 2, 3, 4, 5, 6, 7, 8, 9, 10, 11, 12, 13, 14, 15, 16, 17, 18, 19, 20, 21, 22, 23] rfl) (hD.sub [0, 1, 2, 3, 4, 5, 6, 7, 8, 9, 10, 11, 12, 13, 14, 15, 16, 17, 18, 19, 20, 21, 22, 23] (by decide +kernel) rfl) hS ⟨fR, iL, iBs, tU, rfl, Or.inr (Or.inr (Or.inr ⟨k_23, hk_24, rfl, h_26, h_3, h_32, sy_0 c_35⟩)), trivial⟩ dX5_says_68
      · refine lv_if_ne (tgt := 45) hx hb dX5_says_39 (by decide) (fun h9 => absurd (by decide) h9) (fun _ => ?_)
        refine lv_bipush (v := (-3)) hx hb dX5_says_42 (by decide) ?_
        refine lv_istore_n (lv' := [(3, .int (-3)), (0, .ref qx), (1, .int (nI k_23)), (2, .int iB)]) hx hb dX5_says_44 rfl hl (by decide) rfl (fun ls => ?_)
        clear hl
        intro hl
        refine lv_iload_n hx hb dX5_says_45 rfl (lv_at hl 0 rfl) ?_
        refine lv_if_eq (tgt := 55) hx hb dX5_says_46 (by decide) (fun h9 => absurd h9 (by decide)) (fun _ => ?_)
        refine lv_aload_n hx hb dX5_says_49 rfl (lv_at hl 1 rfl) ?_
        refine lv_iload_n hx hb dX5_says_50 rfl (lv_at hl 0 rfl) ?_
        refine cVi (As := [.int (-3)]) (rest := []) (b := qx) (q := (RX5, TX5, 9)) ⟨hx, hb, hml, hown, hts⟩ (c_X5_refuse3 l G cy (s.heap).size qx qt qk qp qs qa qr iKp iYe iTv fR) L_X5_56 hN hP hD hS hA [0, 1] [false, false, true, true, true, true, true, true, true, true, true, true, true, true, true, true, true, true, true, true, true, true, true, true] rfl (by decide +kernel) rfl 0 4 rfl rfl rfl ⟨Nat.le_of_ble_eq_true rfl, Nat.le_of_ble_eq_true rfl⟩ hl.1 (Nat.le_of_ble_eq_true rfl) dX5_says_51 ⟨Nat.le_of_ble_eq_true rfl, Nat.le_of_ble_eq_true rfl⟩ (fun r_49 u_51 H locs h_50 => ?_)
        clear hP hD hS
        intro hP hD hS
        obtain ⟨fX_52, rfl, h_50⟩ := h_50
        have hPD := pd_as [zzO qs 1 [.ref qsh, .ref qss, .ref qsa, .ref qse], zzI cy qsh 8 fH, zzI cy qsa 8 fA, zzO qt 3 [.int (nI (T_nb tA)), .int (nI (T_np tA)), .int (wb (T_wh tA)), .int (wb (T_gn tA)), .int (T_sd tA), .ref qtw, .ref qtn, .ref qtg, .ref qta, .ref qtr, .ref qtm, .ref qtt, .ref qts], zzI cy qtw 8 (T_wo tA), zzI cy qtn 8 (T_ne tA), zzI cy qtg 8 (T_go tA), zzI cy qta 8 (T_ag tA), zzI cy qtr 8 (T_re tA), zzI cy qtm 8 (T_me tA), zzI cy qtt 8 (T_te tA), zzI cy qts 64 (shF (T_kn tA)), zzO qp 0 [.ref qu, .ref qv, .int iL, .int iBs], zzO qu 3 [.int (nI (T_nb tU)), .int (nI (T_np tU)), .int (wb (T_wh tU)), .int (wb (T_gn tU)), .int (T_sd tU), .ref quw, .ref qun, .ref qug, .ref qua, .ref qur, .ref qum, .ref qut, .ref qus], zzI cy quw 8 (T_wo tU), zzI cy qun 8 (T_ne tU), zzI cy qug 8 (T_go tU), zzI cy qua 8 (T_ag tU), zzI cy qur 8 (T_re tU), zzI cy qum 8 (T_me tU), zzI cy qut 8 (T_te tU), zzI cy qus 64 (shF (T_kn tU)), zzO qx 4 [.ref qt, .ref qk, .ref qp, .ref qs, .ref qa, .ref qr, .int iKp, .int iYe, .int iTv], zzI cy qr 5 fX_52] hP hD rfl
        clear hP hD
        obtain ⟨hP, hD⟩ := hPD
        subst h_50
        exact endW (u := [zzO qx 4 [.ref qt, .ref qk, .ref qp, .ref qs, .ref qa, .ref qr, .int iKp, .int iYe, .int iTv], zzI cy qr 5 fX_52, zzO qs 1 [.ref qsh, .ref qss, .ref qsa, .ref qse], zzI cy qsh 8 fH, zzI cy qsa 8 fA, zzO qt 3 [.int (nI (T_nb tA)), .int (nI (T_np tA)), .int (wb (T_wh tA)), .int (wb (T_gn tA)), .int (T_sd tA), .ref qtw, .ref qtn, .ref qtg, .ref qta, .ref qtr, .ref qtm, .ref qtt, .ref qts], zzI cy qtw 8 (T_wo tA), zzI cy qtn 8 (T_ne tA), zzI cy qtg 8 (T_go tA), zzI cy qta 8 (T_ag tA), zzI cy qtr 8 (T_re tA), zzI cy qtm 8 (T_me tA), zzI cy qtt 8 (T_te tA), zzI cy qts 64 (shF (T_kn tA)), zzO qp 0 [.ref qu, .ref qv, .int iL, .int iBs], zzO qu 3 [.int (nI (T_nb tU)), .int (nI (T_np tU)), .int (wb (T_wh tU)), .int (wb (T_gn tU)), .int (T_sd tU), .ref quw, .ref qun, .ref qug, .ref qua, .ref qur, .ref qum, .ref qut, .ref qus], zzI cy quw 8 (T_wo tU), zzI cy qun 8 (T_ne tU), zzI cy qug 8 (T_go tU), zzI cy qua 8 (T_ag tU), zzI cy qur 8 (T_re tU), zzI cy qum 8 (T_me tU), zzI cy qut 8 (T_te tU), zzI cy qus 64 (shF (T_kn tU))]) hx hb hr hlocks rfl (hP.sub [22, 23, 0, 1, 2, 3, 4, 5, 6, 7, 8, 9, 10, 11, 12, 13, 14, 15, 16, 17, 18, 19, 20, 21] rfl) (hD.sub [22, 23, 0, 1, 2, 3, 4, 5, 6, 7, 8, 9, 10, 11, 12, 13, 14, 15, 16, 17, 18, 19, 20, 21] (by decide +kernel) rfl) hS ⟨fX_52, iL, iBs, tU, rfl, Or.inr (Or.inl ⟨rfl, h_3, k_23, hk_24, rfl, Or.inr ⟨h_26, h_32⟩⟩), trivial⟩ dX5_says_54
    · obtain ⟨k_53, hk_54, rfl, h_55, h_56⟩ := h_7
      refine lv_goto (tgt := 22) hx hb dX5_says_17 (by decide) ?_
      refine lv_istore_n (lv' := [(3, .int (-4)), (0, .ref qx), (1, .int (nI k_53)), (2, .int iB)]) hx hb dX5_says_22 rfl hl (by decide) rfl (fun ls => ?_)
      clear hl
      intro hl
      refine lv_iload_n hx hb dX5_says_23 rfl (lv_at hl 0 rfl) ?_
      refine lv_if_ne (tgt := 45) hx hb dX5_says_24 (by decide) (fun _ => ?_) (fun h9 => absurd h9 (by decide))
      refine lv_iload_n hx hb dX5_says_45 rfl (lv_at hl 0 rfl) ?_
      refine lv_if_eq (tgt := 55) hx hb dX5_says_46 (by decide) (fun h9 => absurd h9 (by decide)) (fun _ => ?_)
      refine lv_aload_n hx hb dX5_says_49 rfl (lv_at hl 1 rfl) ?_
      refine lv_iload_n hx hb dX5_says_50 rfl (lv_at hl 0 rfl) ?_
      refine cVi (As := [.int (-4)]) (rest := []) (b := qx) (q := (RX5, TX5, 9)) ⟨hx, hb, hml, hown, hts⟩ (c_X5_refuse4 l G cy (s.heap).size qx qt qk qp qs qa qr iKp iYe iTv fR) L_X5_56 hN hP hD hS hA [0, 1] [false, false, true, true, true, true, true, true, true, true, true, true, true, true, true, true, true, true, true, true, true, true, true, true] rfl (by decide +kernel) rfl 0 4 rfl rfl rfl ⟨Nat.le_of_ble_eq_true rfl, Nat.le_of_ble_eq_true rfl⟩ hl.1 (Nat.le_of_ble_eq_true rfl) dX5_says_51 ⟨Nat.le_of_ble_eq_true rfl, Nat.le_of_ble_eq_true rfl⟩ (fun r_59 u_61 H locs h_60 => ?_)
      clear hP hD hS
      intro hP hD hS
      obtain ⟨fX_62, rfl, h_60⟩ := h_60
      have hPD := pd_as [zzO qs 1 [.ref qsh, .ref qss, .ref qsa, .ref qse], zzI cy qsh 8 fH, zzI cy qsa 8 fA, zzO qt 3 [.int (nI (T_nb tA)), .int (nI (T_np tA)), .int (wb (T_wh tA)), .int (wb (T_gn tA)), .int (T_sd tA), .ref qtw, .ref qtn, .ref qtg, .ref qta, .ref qtr, .ref qtm, .ref qtt, .ref qts], zzI cy qtw 8 (T_wo tA), zzI cy qtn 8 (T_ne tA), zzI cy qtg 8 (T_go tA), zzI cy qta 8 (T_ag tA), zzI cy qtr 8 (T_re tA), zzI cy qtm 8 (T_me tA), zzI cy qtt 8 (T_te tA), zzI cy qts 64 (shF (T_kn tA)), zzO qp 0 [.ref qu, .ref qv, .int iL, .int iBs], zzO qu 3 [.int (nI (T_nb tU)), .int (nI (T_np tU)), .int (wb (T_wh tU)), .int (wb (T_gn tU)), .int (T_sd tU), .ref quw, .ref qun, .ref qug, .ref qua, .ref qur, .ref qum, .ref qut, .ref qus], zzI cy quw 8 (T_wo tU), zzI cy qun 8 (T_ne tU), zzI cy qug 8 (T_go tU), zzI cy qua 8 (T_ag tU), zzI cy qur 8 (T_re tU), zzI cy qum 8 (T_me tU), zzI cy qut 8 (T_te tU), zzI cy qus 64 (shF (T_kn tU)), zzO qx 4 [.ref qt, .ref qk, .ref qp, .ref qs, .ref qa, .ref qr, .int iKp, .int iYe, .int iTv], zzI cy qr 5 fX_62] hP hD rfl
      clear hP hD
      obtain ⟨hP, hD⟩ := hPD
      subst h_60
      exact endW (u := [zzO qx 4 [.ref qt, .ref qk, .ref qp, .ref qs, .ref qa, .ref qr, .int iKp, .int iYe, .int iTv], zzI cy qr 5 fX_62, zzO qs 1 [.ref qsh, .ref qss, .ref qsa, .ref qse], zzI cy qsh 8 fH, zzI cy qsa 8 fA, zzO qt 3 [.int (nI (T_nb tA)), .int (nI (T_np tA)), .int (wb (T_wh tA)), .int (wb (T_gn tA)), .int (T_sd tA), .ref qtw, .ref qtn, .ref qtg, .ref qta, .ref qtr, .ref qtm, .ref qtt, .ref qts], zzI cy qtw 8 (T_wo tA), zzI cy qtn 8 (T_ne tA), zzI cy qtg 8 (T_go tA), zzI cy qta 8 (T_ag tA), zzI cy qtr 8 (T_re tA), zzI cy qtm 8 (T_me tA), zzI cy qtt 8 (T_te tA), zzI cy qts 64 (shF (T_kn tA)), zzO qp 0 [.ref qu, .ref qv, .int iL, .int iBs], zzO qu 3 [.int (nI (T_nb tU)), .int (nI (T_np tU)), .int (wb (T_wh tU)), .int (wb (T_gn tU)), .int (T_sd tU), .ref quw, .ref qun, .ref qug, .ref qua, .ref qur, .ref qum, .ref qut, .ref qus], zzI cy quw 8 (T_wo tU), zzI cy qun 8 (T_ne tU), zzI cy qug 8 (T_go tU), zzI cy qua 8 (T_ag tU), zzI cy qur 8 (T_re tU), zzI cy qum 8 (T_me tU), zzI cy qut 8 (T_te tU), zzI cy qus 64 (shF (T_kn tU))]) hx hb hr hlocks rfl (hP.sub [22, 23, 0, 1, 2, 3, 4, 5, 6, 7, 8, 9, 10, 11, 12, 13, 14, 15, 16, 17, 18, 19, 20, 21] rfl) (hD.sub [22, 23, 0, 1, 2, 3, 4, 5, 6, 7, 8, 9, 10, 11, 12, 13, 14, 15, 16, 17, 18, 19, 20, 21] (by decide +kernel) rfl) hS ⟨fX_62, iL, iBs, tU, rfl, Or.inr (Or.inr (Or.inl ⟨rfl, h_3, k_53, hk_54, rfl, h_55, h_56⟩)), trivial⟩ dX5_says_54
  · refine lv_if_eq (tgt := 20) hx hb dX5_says_9 (by decide) (fun _ => ?_) (fun h9 => absurd (by decide) h9)
    refine lv_bipush (v := (-2)) hx hb dX5_says_20 (by decide) ?_
    refine lv_istore_n (lv' := [(3, .int (-2)), (0, .ref qx), (1, .int iA), (2, .int iB)]) hx hb dX5_says_22 rfl hl (by decide) rfl (fun ls => ?_)
    clear hl
    intro hl
    refine lv_iload_n hx hb dX5_says_23 rfl (lv_at hl 0 rfl) ?_
    refine lv_if_ne (tgt := 45) hx hb dX5_says_24 (by decide) (fun _ => ?_) (fun h9 => absurd h9 (by decide))
    refine lv_iload_n hx hb dX5_says_45 rfl (lv_at hl 0 rfl) ?_
    refine lv_if_eq (tgt := 55) hx hb dX5_says_46 (by decide) (fun h9 => absurd h9 (by decide)) (fun _ => ?_)
    refine lv_aload_n hx hb dX5_says_49 rfl (lv_at hl 1 rfl) ?_
    refine lv_iload_n hx hb dX5_says_50 rfl (lv_at hl 0 rfl) ?_
    refine cVi (As := [.int (-2)]) (rest := []) (b := qx) (q := (RX5, TX5, 9)) ⟨hx, hb, hml, hown, hts⟩ (c_X5_refuse2 l G cy (s.heap).size qx qt qk qp qs qa qr iKp iYe iTv fR) L_X5_56 hN hP hD hS hA [0, 1] [false, false, true, true, true, true, true, true, true, true, true, true, true, true, true, true, true, true, true, true, true, true, true, true] rfl (by decide +kernel) rfl 0 4 rfl rfl rfl ⟨Nat.le_of_ble_eq_true rfl, Nat.le_of_ble_eq_true rfl⟩ hl.1 (Nat.le_of_ble_eq_true rfl) dX5_says_51 ⟨Nat.le_of_ble_eq_true rfl, Nat.le_of_ble_eq_true rfl⟩ (fun r_66 u_68 H locs h_67 => ?_)
    clear hP hD hS
    intro hP hD hS
    obtain ⟨fX_69, rfl, h_67⟩ := h_67
    have hPD := pd_as [zzO qs 1 [.ref qsh, .ref qss, .ref qsa, .ref qse], zzI cy qsh 8 fH, zzI cy qsa 8 fA, zzO qt 3 [.int (nI (T_nb tA)), .int (nI (T_np tA)), .int (wb (T_wh tA)), .int (wb (T_gn tA)), .int (T_sd tA), .ref qtw, .ref qtn, .ref qtg, .ref qta, .ref qtr, .ref qtm, .ref qtt, .ref qts], zzI cy qtw 8 (T_wo tA), zzI cy qtn 8 (T_ne tA), zzI cy qtg 8 (T_go tA), zzI cy qta 8 (T_ag tA), zzI cy qtr 8 (T_re tA), zzI cy qtm 8 (T_me tA), zzI cy qtt 8 (T_te tA), zzI cy qts 64 (shF (T_kn tA)), zzO qp 0 [.ref qu, .ref qv, .int iL, .int iBs], zzO qu 3 [.int (nI (T_nb tU)), .int (nI (T_np tU)), .int (wb (T_wh tU)), .int (wb (T_gn tU)), .int (T_sd tU), .ref quw, .ref qun, .ref qug, .ref qua, .ref qur, .ref qum, .ref qut, .ref qus], zzI cy quw 8 (T_wo tU), zzI cy qun 8 (T_ne tU), zzI cy qug 8 (T_go tU), zzI cy qua 8 (T_ag tU), zzI cy qur 8 (T_re tU), zzI cy qum 8 (T_me tU), zzI cy qut 8 (T_te tU), zzI cy qus 64 (shF (T_kn tU)), zzO qx 4 [.ref qt, .ref qk, .ref qp, .ref qs, .ref qa, .ref qr, .int iKp, .int iYe, .int iTv], zzI cy qr 5 fX_69] hP hD rfl
    clear hP hD
    obtain ⟨hP, hD⟩ := hPD
    subst h_67
    exact endW (u := [zzO qx 4 [.ref qt, .ref qk, .ref qp, .ref qs, .ref qa, .ref qr, .int iKp, .int iYe, .int iTv], zzI cy qr 5 fX_69, zzO qs 1 [.ref qsh, .ref qss, .ref qsa, .ref qse], zzI cy qsh 8 fH, zzI cy qsa 8 fA, zzO qt 3 [.int (nI (T_nb tA)), .int (nI (T_np tA)), .int (wb (T_wh tA)), .int (wb (T_gn tA)), .int (T_sd tA), .ref qtw, .ref qtn, .ref qtg, .ref qta, .ref qtr, .ref qtm, .ref qtt, .ref qts], zzI cy qtw 8 (T_wo tA), zzI cy qtn 8 (T_ne tA), zzI cy qtg 8 (T_go tA), zzI cy qta 8 (T_ag tA), zzI cy qtr 8 (T_re tA), zzI cy qtm 8 (T_me tA), zzI cy qtt 8 (T_te tA), zzI cy qts 64 (shF (T_kn tA)), zzO qp 0 [.ref qu, .ref qv, .int iL, .int iBs], zzO qu 3 [.int (nI (T_nb tU)), .int (nI (T_np tU)), .int (wb (T_wh tU)), .int (wb (T_gn tU)), .int (T_sd tU), .ref quw, .ref qun, .ref qug, .ref qua, .ref qur, .ref qum, .ref qut, .ref qus], zzI cy quw 8 (T_wo tU), zzI cy qun 8 (T_ne tU), zzI cy qug 8 (T_go tU), zzI cy qua 8 (T_ag tU), zzI cy qur 8 (T_re tU), zzI cy qum 8 (T_me tU), zzI cy qut 8 (T_te tU), zzI cy qus 64 (shF (T_kn tU))]) hx hb hr hlocks rfl (hP.sub [22, 23, 0, 1, 2, 3, 4, 5, 6, 7, 8, 9, 10, 11, 12, 13, 14, 15, 16, 17, 18, 19, 20, 21] rfl) (hD.sub [22, 23, 0, 1, 2, 3, 4, 5, 6, 7, 8, 9, 10, 11, 12, 13, 14, 15, 16, 17, 18, 19, 20, 21] (by decide +kernel) rfl) hS ⟨fX_69, iL, iBs, tU, rfl, Or.inl ⟨rfl, fun q => h_3 q.2⟩, trivial⟩ dX5_says_54
