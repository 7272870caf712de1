/-! THE REFERENCE'S GRIDS: rows of books, of ones, of what is known -/
def b01 (b : Bool) : Int32 := if b then 1 else 0
def bkV (a b c : Int32) (w : Bool) : Nat → Int32 := fun i => if i = 0 then a else if i = 1 then b else if i = 2 then c else b01 w
def onV (a b c d : Int32) (w : Bool) : Nat → Int32 := fun i => if i = 0 then a else if i = 1 then b else if i = 2 then c else if i = 3 then d else b01 w
def bkR (t : TA) (j : Nat) : Nat → Int32 := bkV (T_wo t j) (T_ne t j) (T_go t j) (T_wh t j)
def onR (t : TA) (j : Nat) : Nat → Int32 := onV (T_ag t j) (T_re t j) (T_me t j) (T_te t j) (T_gn t j)
abbrev T_setwo (t : TA) (x : Nat → Int32) : TA := T_mk (T_nb t) (T_np t) (T_sd t) (T_wh t) (T_gn t) x (T_ne t) (T_go t) (T_ag t) (T_re t) (T_me t) (T_te t) (T_kn t)
abbrev T_setre (t : TA) (x : Nat → Int32) : TA := T_mk (T_nb t) (T_np t) (T_sd t) (T_wh t) (T_gn t) (T_wo t) (T_ne t) (T_go t) (T_ag t) x (T_me t) (T_te t) (T_kn t)
abbrev T_setme (t : TA) (x : Nat → Int32) : TA := T_mk (T_nb t) (T_np t) (T_sd t) (T_wh t) (T_gn t) (T_wo t) (T_ne t) (T_go t) (T_ag t) (T_re t) x (T_te t) (T_kn t)
abbrev T_sette (t : TA) (x : Nat → Int32) : TA := T_mk (T_nb t) (T_np t) (T_sd t) (T_wh t) (T_gn t) (T_wo t) (T_ne t) (T_go t) (T_ag t) (T_re t) (T_me t) x (T_kn t)
abbrev T_setnb (t : TA) (n : Nat) : TA := T_mk n (T_np t) (T_sd t) (T_wh t) (T_gn t) (T_wo t) (T_ne t) (T_go t) (T_ag t) (T_re t) (T_me t) (T_te t) (T_kn t)
abbrev T_setnp (t : TA) (n : Nat) : TA := T_mk (T_nb t) n (T_sd t) (T_wh t) (T_gn t) (T_wo t) (T_ne t) (T_go t) (T_ag t) (T_re t) (T_me t) (T_te t) (T_kn t)
theorem c1_ : Int32.toNatClampNeg 1 = 1 := by decide
theorem c2_ : Int32.toNatClampNeg 2 = 2 := by decide
theorem c3_ : Int32.toNatClampNeg 3 = 3 := by decide
theorem c4_ : Int32.toNatClampNeg 4 = 4 := by decide
theorem c0_ : Int32.toNatClampNeg 0 = 0 := by decide
theorem bk_0 (t : TA) (k : Nat) : bkR t k (Int32.toNatClampNeg 0) = T_wo t k := by rw [c0_]; rfl
theorem bk_1 (t : TA) (k : Nat) : bkR t k (Int32.toNatClampNeg 1) = T_ne t k := by rw [c1_]; rfl
theorem bk_2 (t : TA) (k : Nat) : bkR t k (Int32.toNatClampNeg 2) = T_go t k := by rw [c2_]; rfl
theorem bk_3 (t : TA) (k : Nat) : bkR t k (Int32.toNatClampNeg 3) = b01 (T_wh t k) := by rw [c3_]; rfl
theorem on_0 (t : TA) (k : Nat) : onR t k (Int32.toNatClampNeg 0) = T_ag t k := by rw [c0_]; rfl
theorem on_1' (t : TA) (k : Nat) : onR t k (Int32.toNatClampNeg 1) = T_re t k := by rw [c1_]; rfl
theorem on_2' (t : TA) (k : Nat) : onR t k (Int32.toNatClampNeg 2) = T_me t k := by rw [c2_]; rfl
theorem on_3 (t : TA) (k : Nat) : onR t k (Int32.toNatClampNeg 3) = T_te t k := by rw [c3_]; rfl
theorem on_4 (t : TA) (k : Nat) : onR t k (Int32.toNatClampNeg 4) = b01 (T_gn t k) := by rw [c4_]; rfl
theorem b01_1 {b : Bool} (h : b01 b = 1) : b = true := by cases b with | true => rfl | false => exact absurd h (by decide)
theorem b01_n1 {b : Bool} (h : ¬ b01 b = 1) : b = false := by cases b with | false => rfl | true => exact absurd rfl h
theorem b01_0 {b : Bool} (h : b01 b = 0) : b = false := by cases b with | false => rfl | true => exact absurd h (by decide)
theorem b01_n0 {b : Bool} (h : ¬ b01 b = 0) : b = true := by cases b with | true => rfl | false => exact absurd rfl h
/-- a store into a row -/
theorem bk_v0 (a b c v : Int32) (w : Bool) : bkV v b c w = upd (bkV a b c w) 0 v := by
  funext j
  show _ = (if j = 0 then v else bkV a b c w j)
  by_cases h : j = 0
  · subst h; rfl
  · rw [if_neg h]; unfold bkV; simp [h]
theorem bk_u0 (t : TA) (k : Nat) (v : Int32) : bkR (T_setwo t (upd (T_wo t) k v)) k = upd (bkR t k) (Int32.toNatClampNeg 0) v := by
  rw [c0_]
  show bkV (upd (T_wo t) k v k) (T_ne t k) (T_go t k) (T_wh t k) = _
  rw [pk_us]
  exact bk_v0 _ _ _ _ _
theorem bk_n0 (t : TA) (k : Nat) (v : Int32) {j : Nat} (h : j ≠ k) : bkR (T_setwo t (upd (T_wo t) k v)) j = bkR t j := by
  show bkV (upd (T_wo t) k v j) (T_ne t j) (T_go t j) (T_wh t j) = _
  rw [pk_un h]
  rfl
theorem bk_v1 (a b c v : Int32) (w : Bool) : bkV a v c w = upd (bkV a b c w) 1 v := by
  funext j
  show _ = (if j = 1 then v else bkV a b c w j)
  by_cases h : j = 1
  · subst h; rfl
  · rw [if_neg h]; unfold bkV; simp [h]
theorem bk_u1 (t : TA) (k : Nat) (v : Int32) : bkR (T_setne t (upd (T_ne t) k v)) k = upd (bkR t k) (Int32.toNatClampNeg 1) v := by
  rw [c1_]
  show bkV (T_wo t k) (upd (T_ne t) k v k) (T_go t k) (T_wh t k) = _
  rw [pk_us]
  exact bk_v1 _ _ _ _ _
theorem bk_n1 (t : TA) (k : Nat) (v : Int32) {j : Nat} (h : j ≠ k) : bkR (T_setne t (upd (T_ne t) k v)) j = bkR t j := by
  show bkV (T_wo t j) (upd (T_ne t) k v j) (T_go t j) (T_wh t j) = _
  rw [pk_un h]
  rfl
theorem bk_v2 (a b c v : Int32) (w : Bool) : bkV a b v w = upd (bkV a b c w) 2 v := by
  funext j
  show _ = (if j = 2 then v else bkV a b c w j)
  by_cases h : j = 2
  · subst h; rfl
  · rw [if_neg h]; unfold bkV; simp [h]
theorem bk_u2 (t : TA) (k : Nat) (v : Int32) : bkR (T_setgo t (upd (T_go t) k v)) k = upd (bkR t k) (Int32.toNatClampNeg 2) v := by
  rw [c2_]
  show bkV (T_wo t k) (T_ne t k) (upd (T_go t) k v k) (T_wh t k) = _
  rw [pk_us]
  exact bk_v2 _ _ _ _ _
theorem bk_n2 (t : TA) (k : Nat) (v : Int32) {j : Nat} (h : j ≠ k) : bkR (T_setgo t (upd (T_go t) k v)) j = bkR t j := by
  show bkV (T_wo t j) (T_ne t j) (upd (T_go t) k v j) (T_wh t j) = _
  rw [pk_un h]
  rfl
theorem on_v0 (a b c d v : Int32) (w : Bool) : onV v b c d w = upd (onV a b c d w) 0 v := by
  funext j
  show _ = (if j = 0 then v else onV a b c d w j)
  by_cases h : j = 0
  · subst h; rfl
  · rw [if_neg h]; unfold onV; simp [h]
theorem on_u0 (t : TA) (k : Nat) (v : Int32) : onR (T_setag t (upd (T_ag t) k v)) k = upd (onR t k) (Int32.toNatClampNeg 0) v := by
  rw [c0_]
  show onV (upd (T_ag t) k v k) (T_re t k) (T_me t k) (T_te t k) (T_gn t k) = _
  rw [pk_us]
  exact on_v0 _ _ _ _ _ _
theorem on_n0 (t : TA) (k : Nat) (v : Int32) {j : Nat} (h : j ≠ k) : onR (T_setag t (upd (T_ag t) k v)) j = onR t j := by
  show onV (upd (T_ag t) k v j) (T_re t j) (T_me t j) (T_te t j) (T_gn t j) = _
  rw [pk_un h]
  rfl
theorem on_v1 (a b c d v : Int32) (w : Bool) : onV a v c d w = upd (onV a b c d w) 1 v := by
  funext j
  show _ = (if j = 1 then v else onV a b c d w j)
  by_cases h : j = 1
  · subst h; rfl
  · rw [if_neg h]; unfold onV; simp [h]
theorem on_u1 (t : TA) (k : Nat) (v : Int32) : onR (T_setre t (upd (T_re t) k v)) k = upd (onR t k) (Int32.toNatClampNeg 1) v := by
  rw [c1_]
  show onV (T_ag t k) (upd (T_re t) k v k) (T_me t k) (T_te t k) (T_gn t k) = _
  rw [pk_us]
  exact on_v1 _ _ _ _ _ _
theorem on_n1 (t : TA) (k : Nat) (v : Int32) {j : Nat} (h : j ≠ k) : onR (T_setre t (upd (T_re t) k v)) j = onR t j := by
  show onV (T_ag t j) (upd (T_re t) k v j) (T_me t j) (T_te t j) (T_gn t j) = _
  rw [pk_un h]
  rfl
theorem on_v2 (a b c d v : Int32) (w : Bool) : onV a b v d w = upd (onV a b c d w) 2 v := by
  funext j
  show _ = (if j = 2 then v else onV a b c d w j)
  by_cases h : j = 2
  · subst h; rfl
  · rw [if_neg h]; unfold onV; simp [h]
theorem on_u2 (t : TA) (k : Nat) (v : Int32) : onR (T_setme t (upd (T_me t) k v)) k = upd (onR t k) (Int32.toNatClampNeg 2) v := by
  rw [c2_]
  show onV (T_ag t k) (T_re t k) (upd (T_me t) k v k) (T_te t k) (T_gn t k) = _
  rw [pk_us]
  exact on_v2 _ _ _ _ _ _
theorem on_n2 (t : TA) (k : Nat) (v : Int32) {j : Nat} (h : j ≠ k) : onR (T_setme t (upd (T_me t) k v)) j = onR t j := by
  show onV (T_ag t j) (T_re t j) (upd (T_me t) k v j) (T_te t j) (T_gn t j) = _
  rw [pk_un h]
  rfl
theorem on_v3 (a b c d v : Int32) (w : Bool) : onV a b c v w = upd (onV a b c d w) 3 v := by
  funext j
  show _ = (if j = 3 then v else onV a b c d w j)
  by_cases h : j = 3
  · subst h; rfl
  · rw [if_neg h]; unfold onV; simp [h]
theorem on_u3 (t : TA) (k : Nat) (v : Int32) : onR (T_sette t (upd (T_te t) k v)) k = upd (onR t k) (Int32.toNatClampNeg 3) v := by
  rw [c3_]
  show onV (T_ag t k) (T_re t k) (T_me t k) (upd (T_te t) k v k) (T_gn t k) = _
  rw [pk_us]
  exact on_v3 _ _ _ _ _ _
theorem on_n3 (t : TA) (k : Nat) (v : Int32) {j : Nat} (h : j ≠ k) : onR (T_sette t (upd (T_te t) k v)) j = onR t j := by
  show onV (T_ag t j) (T_re t j) (T_me t j) (upd (T_te t) k v j) (T_gn t j) = _
  rw [pk_un h]
  rfl
theorem ub_n {f : Nat → Bool} {k j : Nat} {v : Bool} (h : j ≠ k) : updB f k v j = f j := if_neg h
theorem bk_n3 (t : TA) (k : Nat) (v : Bool) {j : Nat} (h : j ≠ k) : bkR (T_setwh t (updB (T_wh t) k v)) j = bkR t j := by
  show bkV (T_wo t j) (T_ne t j) (T_go t j) (updB (T_wh t) k v j) = _
  rw [ub_n h]
  rfl
theorem on_n4 (t : TA) (k : Nat) (v : Bool) {j : Nat} (h : j ≠ k) : onR (T_setgn t (updB (T_gn t) k v)) j = onR t j := by
  show onV (T_ag t j) (T_re t j) (T_me t j) (T_te t j) (updB (T_gn t) k v j) = _
  rw [ub_n h]
  rfl
theorem kn_u (t : TA) (k i : Nat) (v : Int32) : T_kn (T_setkn t (updM (T_kn t) k i v)) k = upd (T_kn t k) i v := if_pos rfl
theorem kn_n (t : TA) (k i : Nat) (v : Int32) {j : Nat} (h : j ≠ k) : T_kn (T_setkn t (updM (T_kn t) k i v)) j = T_kn t j := if_neg h
/-- rows of four and five: the last column stands for all behind it, so a store there is told of the row's own places alone -/
theorem arr_at {G : va_G} {ws : va_W} {H : Heap} {n0 : Nat} {a : Nat} {cA : ClassId} {n : Nat} {f g : Nat → Int32} (hP : va_P G CL ws H) (h0 : ws[n0]? = some (a, .inl (cA, n, .inl f))) (h : ∀ i, i < n → f i = g i) : va_P G CL (ws.set n0 (a, .inl (cA, n, .inl g))) H := by
  intro k q hq
  by_cases hk : k = n0
  · subst hk
    have hl : k < ws.length := (List.getElem?_eq_some_iff.mp h0).1
    rw [List.getElem?_set_self hl] at hq
    cases hq
    have h1 := hP k _ h0
    exact Eq.trans h1 (congrArg some (arr_same h))
  · rw [List.getElem?_set_ne (fun e => hk e.symm)] at hq
    exact hP k q hq
theorem arr_dt {A : Nat → Prop} {ws : va_W} {n0 : Nat} {a : Nat} {e e' : va_E} (hD : va_D A ws) (h0 : ws[n0]? = some (a, e)) : va_D A (ws.set n0 (a, e')) := by
  have hl : n0 < ws.length := (List.getElem?_eq_some_iff.mp h0).1
  have key : ∀ (k : Nat) (z : Nat × va_E), (ws.set n0 (a, e'))[k]? = some z → ∃ z', ws[k]? = some z' ∧ z'.1 = z.1 := fun k z hz => by
    by_cases hk : k = n0
    · subst hk
      rw [List.getElem?_set_self hl] at hz
      cases hz
      exact ⟨_, h0, rfl⟩
    · rw [List.getElem?_set_ne (fun e => hk e.symm)] at hz
      exact ⟨z, hz, rfl⟩
  refine ⟨fun i j x y hx hy hxy => ?_, fun k q hq => ?_⟩
  · obtain ⟨x', h1, h2⟩ := key i x hx
    obtain ⟨y', h3, h4⟩ := key j y hy
    exact hD.1 i j x' y' h1 h3 (by rw [h2, h4]; exact hxy)
  · obtain ⟨z', h1, h2⟩ := key k q hq
    rw [← h2]
    exact hD.2 k z' h1
theorem sg8 {ws : va_W} {n0 : Nat} {f : Nat → Nat × va_E} (h0 : ws[n0]? = some (f 0)) (h1 : ws[n0 + 1]? = some (f 1)) (h2 : ws[n0 + 2]? = some (f 2)) (h3 : ws[n0 + 3]? = some (f 3)) (h4 : ws[n0 + 4]? = some (f 4)) (h5 : ws[n0 + 5]? = some (f 5)) (h6 : ws[n0 + 6]? = some (f 6)) (h7 : ws[n0 + 7]? = some (f 7)) : ∀ k, k < 8 → ws[n0 + k]? = some (f k)
  | 0, _ => h0
  | 1, _ => h1
  | 2, _ => h2
  | 3, _ => h3
  | 4, _ => h4
  | 5, _ => h5
  | 6, _ => h6
  | 7, _ => h7
  | k + 8, h => absurd h (by omega)
theorem set8 {ws ws' : va_W} {n0 k : Nat} {f f' : Nat → Nat × va_E} {x : Nat × va_E} (h : ∀ j, j < 8 → ws[n0 + j]? = some (f j)) (h' : ∀ j, j < 8 → ws'[n0 + j]? = some (f' j)) (ht : ws'.take n0 = ws.take n0) (hd : ws'.drop (n0 + 8) = ws.drop (n0 + 8)) (hk : k < 8) (hx : f' k = x) (hj : ∀ j, j ≠ k → f' j = f j) : ws.set (n0 + k) x = ws' := by
  have hl : n0 + k < ws.length := (List.getElem?_eq_some_iff.mp (h k hk)).1
  apply List.ext_getElem?
  intro i
  by_cases hi : i = n0 + k
  · subst hi
    rw [List.getElem?_set_self hl, h' k hk, hx]
  · rw [List.getElem?_set_ne (fun e => hi e.symm)]
    by_cases h1 : i < n0
    · have a1 := congrArg (fun z : va_W => z[i]?) ht
      simp only [List.getElem?_take, h1, if_true] at a1
      exact a1.symm
    · by_cases h2 : i < n0 + 8
      · obtain ⟨j, rfl⟩ : ∃ j, i = n0 + j := ⟨i - n0, by omega⟩
        rw [h j (by omega), h' j (by omega), hj j (by omega)]
      · obtain ⟨j, rfl⟩ : ∃ j, i = n0 + 8 + j := ⟨i - (n0 + 8), by omega⟩
        have a1 := congrArg (fun z : va_W => z[j]?) hd
        simp only [List.getElem?_drop] at a1
        exact a1.symm
theorem g_ref {r : Nat → Nat} {k : Nat} (h : k < 8) : va_rf ((fun i => if i < 8 then some (r i) else none) (nI k).toNatClampNeg) = .ref (r k) := by
  rw [nI_clamp (by omega)]
  show va_rf (if k < 8 then some (r k) else none) = _
  rw [if_pos h]
  rfl
theorem bk_w3 (t : TA) (k : Nat) (v : Bool) : ∀ i, i < 4 → upd (bkR t k) (Int32.toNatClampNeg 3) (b01 v) i = bkR (T_setwh t (updB (T_wh t) k v)) k i := by
  rw [c3_]
  intro i hi
  match i, hi with
  | 0, _ => rfl
  | 1, _ => rfl
  | 2, _ => rfl
  | 3, _ => show (if 3 = 3 then b01 v else _) = b01 (if k = k then v else _); rw [if_pos rfl, if_pos rfl]
  | i + 4, h => exact absurd h (by omega)
theorem on_w4 (t : TA) (k : Nat) (v : Bool) : ∀ i, i < 5 → upd (onR t k) (Int32.toNatClampNeg 4) (b01 v) i = onR (T_setgn t (updB (T_gn t) k v)) k i := by
  rw [c4_]
  intro i hi
  match i, hi with
  | 0, _ => rfl
  | 1, _ => rfl
  | 2, _ => rfl
  | 3, _ => rfl
  | 4, _ => show (if 4 = 4 then b01 v else _) = b01 (if k = k then v else _); rw [if_pos rfl, if_pos rfl]
  | i + 5, h => exact absurd h (by omega)
/-- ranges -/
def R0 (n : Nat) (x : Int32) : Prop := ∃ k : Nat, k ≤ n ∧ x = nI k
theorem r_te {x y : Int32} (hx : R0 1000 x) (hy : R0 10 y) : R0 1000 (x * y / 10) := by
  obtain ⟨a, ha, rfl⟩ := hx
  obtain ⟨b, hb, rfl⟩ := hy
  have h1 : a * b ≤ 1000 * 10 := Nat.mul_le_mul ha hb
  refine ⟨a * b / 10, by omega, ?_⟩
  rw [pk_mul, show (10 : Int32) = nI 10 from rfl, pk_div (by omega) (by omega) (by omega)]
theorem r_gr {o g : Int32} (ho : R0 1000 o) (hg : R0 1000 g) : R0 1000 (zgr o g) := by
  obtain ⟨a, ha, rfl⟩ := ho
  obtain ⟨b, hb, rfl⟩ := hg
  have h1 : a * (b + 1000) ≤ 1000 * 2000 := Nat.mul_le_mul ha (by omega)
  refine ⟨a * (b + 1000) / 2000, by omega, ?_⟩
  unfold zgr
  rw [show (1000 : Int32) = nI 1000 from rfl, nI_add, pk_mul, show (2000 : Int32) = nI 2000 from rfl, pk_div (by omega) (by omega) (by omega)]
theorem r_mx {n : Nat} {a b : Int32} (ha : R0 n a) (hb : R0 n b) : R0 n (mx a b) := by
  unfold mx
  split
  · exact hb
  · exact ha
theorem r_gd {need : Int32} {K : Nat → Int32} (h : ∀ k, R0 1000 (K k)) : ∀ n, R0 1000 (gdF need K n) := by
  intro n
  induction n with
  | zero => exact ⟨1000, by omega, rfl⟩
  | succ n ih =>
    unfold gdF
    split
    · exact h n
    · exact ih
theorem r_half {x : Int32} (hx : R0 1000 x) : R0 1000 (x / 2) := by
  obtain ⟨a, ha, rfl⟩ := hx
  refine ⟨a / 2, by omega, ?_⟩
  rw [show (2 : Int32) = nI 2 from rfl, pk_div (by omega) (by omega) (by omega)]
theorem r_fg {x m : Int32} (hx : R0 1000 x) (hm : R0 10 m) : R0 1000 (x * (90 + m) / 100) := by
  obtain ⟨a, ha, rfl⟩ := hx
  obtain ⟨b, hb, rfl⟩ := hm
  have h1 : a * (90 + b) ≤ 1000 * 100 := Nat.mul_le_mul ha (by omega)
  refine ⟨a * (90 + b) / 100, by omega, ?_⟩
  rw [show (90 : Int32) = nI 90 from rfl, nI_add, pk_mul, show (100 : Int32) = nI 100 from rfl, pk_div (by omega) (by omega) (by omega)]
theorem r_0 (n : Nat) : R0 n 0 := ⟨0, by omega, rfl⟩
theorem r_iv {x : Int32} {b : Int64} (n : Nat) (hb : b.toInt = n) (h : Iv x.toInt64 0 b) : R0 n x := by
  obtain ⟨k, _, h2, h3⟩ := iv_nI 0 n (by decide) hb h
  exact ⟨k, h2, h3⟩
theorem r_lt {n : Nat} {x y : Int32} (hn : n ≤ 1000) (hx : R0 n x) (hy : R0 n y) (h : y < x) : R0 n (x - y) ∧ y + (x - y) = x := by
  obtain ⟨a, ha, rfl⟩ := hx
  obtain ⟨b, hb, rfl⟩ := hy
  rw [Int32.lt_iff_toInt_lt, nI_toInt (by omega), nI_toInt (by omega)] at h
  rw [pk_sub (by omega), nI_add]
  exact ⟨⟨a - b, by omega, rfl⟩, by congr 1; omega⟩
theorem gt_up {v x : Int32} (hv : R0 1000 v) (hx : R0 1000 x) (h : x < v) : mx 0 (v - x) = v - x := by
  obtain ⟨⟨k, hk, e⟩, _⟩ := r_lt (by omega) hv hx h
  unfold mx
  rw [e]
  split
  · rfl
  · next q =>
    rcases Nat.eq_zero_or_pos k with z | z
    · subst z; rfl
    · exact absurd (by rw [Int32.lt_iff_toInt_lt, nI_toInt (by omega)]; show (0 : Int) < _; omega) q
theorem gt_no {v x : Int32} (hv : R0 1000 v) (hx : R0 1000 x) (h : ¬ x < v) : mx 0 (v - x) = 0 := by
  obtain ⟨a, ha, rfl⟩ := hv
  obtain ⟨b, hb, rfl⟩ := hx
  unfold mx
  rw [if_neg]
  rw [Int32.lt_iff_toInt_lt, pk_sub_toInt (by omega) (by omega)]
  rw [Int32.lt_iff_toInt_lt, nI_toInt (by omega), nI_toInt (by omega)] at h
  show ¬ (0 : Int) < _
  omega
def TI (t : TA) : Prop := (T_nb t ≤ 8 ∧ T_np t ≤ 8) ∧ (∀ p b, R0 1000 (T_kn t p b)) ∧ (∀ b, R0 1000 (T_go t b)) ∧ (∀ p, R0 10 (T_re t p)) ∧ (∀ p, R0 10 (T_me t p)) ∧ ∀ p, R0 10 (T_te t p)
theorem r_upd {n : Nat} {f : Nat → Int32} {k : Nat} {v : Int32} (h : ∀ j, R0 n (f j)) (hv : R0 n v) : ∀ j, R0 n (upd f k v j) := fun j => by
  show R0 n (if j = k then v else f j)
  split
  · exact hv
  · exact h j
theorem r_updM {n : Nat} {K : Nat → Nat → Int32} {p b : Nat} {v : Int32} (h : ∀ p b, R0 n (K p b)) (hv : R0 n v) : ∀ p' b', R0 n (updM K p b v p' b') := fun p' b' => by
  show R0 n ((if p' = p then upd (K p) b v else K p') b')
  split
  · exact r_upd (h p) hv b'
  · exact h p' b'
theorem TI_kn {t : TA} (h : TI t) {p b : Nat} {v : Int32} (hv : R0 1000 v) : TI (T_setkn t (updM (T_kn t) p b v)) := ⟨h.1, r_updM h.2.1 hv, h.2.2⟩
theorem TI_wh {t : TA} (h : TI t) (x : Nat → Bool) : TI (T_setwh t x) := h
theorem TI_gn {t : TA} (h : TI t) (x : Nat → Bool) : TI (T_setgn t x) := h
theorem TI_go {t : TA} (h : TI t) {b : Nat} {v : Int32} (hv : R0 1000 v) : TI (T_setgo t (upd (T_go t) b v)) := ⟨h.1, h.2.1, r_upd h.2.2.1 hv, h.2.2.2⟩
theorem r_wk {t : TA} (h : TI t) (p b : Nat) : R0 1000 (zwk t p b) := r_mx (r_gr (r_te (h.2.2.1 b) (h.2.2.2.1 p)) (r_gd (h.2.1 p) b)) (h.2.1 p b)
theorem TI_rd {t : TA} (h : TI t) (p b : Nat) : TI (rdT t p b) := TI_kn h (r_wk h p b)
theorem wk_m1 {t : TA} (h : TI t) (p b : Nat) : ¬ zwk t p b = -1 := by
  obtain ⟨k, hk, e⟩ := r_wk h p b
  rw [e]
  exact nI_ne1' (by omega)
theorem wk_gt {t : TA} (h : TI t) (p b : Nat) : -1 < zwk t p b := by
  obtain ⟨k, hk, e⟩ := r_wk h p b
  rw [e, Int32.lt_iff_toInt_lt, nI_toInt (by omega)]
  show (-1 : Int) < _
  omega
theorem r_tl {t : TA} (h : TI t) (p o b : Nat) : R0 1000 (T_kn t o b + zgt t p o b) := by
  have hv := r_te (h.2.1 p b) (h.2.2.2.2.2 p)
  by_cases c : T_kn t o b < T_kn t p b * T_te t p / 10
  · unfold zgt
    rw [gt_up hv (h.2.1 o b) c, (r_lt (by omega) hv (h.2.1 o b) c).2]
    exact hv
  · unfold zgt
    rw [gt_no hv (h.2.1 o b) c, Int32.add_zero]
    exact h.2.1 o b
theorem TI_tl {t : TA} (h : TI t) (p o b : Nat) : TI (tlT t p o b) := TI_kn h (r_tl h p o b)
theorem mx_le {a b : Int32} (h : a ≤ b) : mx a b = b := by
  unfold mx
  split
  · rfl
  · next q =>
    have := Int32.le_iff_toInt_le.mp h
    have q2 : ¬ a.toInt < b.toInt := fun z => q (Int32.lt_iff_toInt_lt.mpr z)
    exact Int32.toInt_inj.mp (by omega)
theorem mx_gt {a b : Int32} (h : ¬ a ≤ b) : mx a b = a := by
  unfold mx
  exact if_neg (fun q => h (by rw [Int32.le_iff_toInt_le]; have := Int32.lt_iff_toInt_lt.mp q; omega))
theorem st8P {G : va_G} {H : Heap} {ws ws' : va_W} {n0 k a n : Nat} {cA : ClassId} {g0 g1 : Nat → Int32} {f f' : Nat → Nat × va_E} (hP : va_P G CL (ws.set (n0 + k) (a, .inl (cA, n, .inl g0))) H) (h : ∀ j, j < 8 → ws[n0 + j]? = some (f j)) (h' : ∀ j, j < 8 → ws'[n0 + j]? = some (f' j)) (ht : ws'.take n0 = ws.take n0) (hd : ws'.drop (n0 + 8) = ws.drop (n0 + 8)) (hk : k < 8) (hx : f' k = (a, .inl (cA, n, .inl g1))) (hg : ∀ i, i < n → g0 i = g1 i) (hj : ∀ j, j ≠ k → f' j = f j) : va_P G CL ws' H := by
  have hl : n0 + k < ws.length := (List.getElem?_eq_some_iff.mp (h k hk)).1
  have h1 := arr_at (g := g1) hP (List.getElem?_set_self hl) hg
  rw [List.set_set, set8 h h' ht hd hk hx hj] at h1
  exact h1
theorem st8D {A : Nat → Prop} {ws ws' : va_W} {n0 k a : Nat} {e e' : va_E} {f f' : Nat → Nat × va_E} (hD : va_D A (ws.set (n0 + k) (a, e))) (h : ∀ j, j < 8 → ws[n0 + j]? = some (f j)) (h' : ∀ j, j < 8 → ws'[n0 + j]? = some (f' j)) (ht : ws'.take n0 = ws.take n0) (hd : ws'.drop (n0 + 8) = ws.drop (n0 + 8)) (hk : k < 8) (hx : f' k = (a, e')) (hj : ∀ j, j ≠ k → f' j = f j) : va_D A ws' := by
  have hl : n0 + k < ws.length := (List.getElem?_eq_some_iff.mp (h k hk)).1
  have h1 := arr_dt (e' := e') hD (List.getElem?_set_self hl)
  rw [List.set_set, set8 h h' ht hd hk hx hj] at h1
  exact h1
theorem st8PD {G : va_G} {H : Heap} {A : Nat → Prop} {ws ws' : va_W} {n0 k a n : Nat} {cA : ClassId} {g0 g1 : Nat → Int32} {f f' : Nat → Nat × va_E} (hP : va_P G CL (ws.set (n0 + k) (a, .inl (cA, n, .inl g0))) H) (hD : va_D A (ws.set (n0 + k) (a, .inl (cA, n, .inl g0)))) (h : ∀ j, j < 8 → ws[n0 + j]? = some (f j)) (h' : ∀ j, j < 8 → ws'[n0 + j]? = some (f' j)) (ht : ws'.take n0 = ws.take n0) (hd : ws'.drop (n0 + 8) = ws.drop (n0 + 8)) (hk : k < 8) (hx : f' k = (a, .inl (cA, n, .inl g1))) (hg : ∀ i, i < n → g0 i = g1 i) (hj : ∀ j, j ≠ k → f' j = f j) : va_P G CL ws' H ∧ va_D A ws' := ⟨st8P hP h h' ht hd hk hx hg hj, st8D hD h h' ht hd hk hx hj⟩
