section
/-! THE REFERENCE'S GRIDS: rows of books, of ones, of what is known -/
noncomputable def b01 (b : Bool) : Int32 := if b then 1 else 0
noncomputable def bkV (a b c : Int32) (w : Bool) : Nat → Int32 := fun i => if i = 0 then a else if i = 1 then b else if i = 2 then c else b01 w
noncomputable def onV (a b c d : Int32) (w : Bool) : Nat → Int32 := fun i => if i = 0 then a else if i = 1 then b else if i = 2 then c else if i = 3 then d else b01 w
noncomputable def bkR (t : TA) (j : Nat) : Nat → Int32 := bkV (T_wo t j) (T_ne t j) (T_go t j) (T_wh t j)
noncomputable def onR (t : TA) (j : Nat) : Nat → Int32 := onV (T_ag t j) (T_re t j) (T_me t j) (T_te t j) (T_gn t j)
noncomputable abbrev T_setwo (t : TA) (x : Nat → Int32) : TA := T_mk (T_nb t) (T_np t) (T_sd t) (T_wh t) (T_gn t) x (T_ne t) (T_go t) (T_ag t) (T_re t) (T_me t) (T_te t) (T_kn t)
noncomputable abbrev T_setre (t : TA) (x : Nat → Int32) : TA := T_mk (T_nb t) (T_np t) (T_sd t) (T_wh t) (T_gn t) (T_wo t) (T_ne t) (T_go t) (T_ag t) x (T_me t) (T_te t) (T_kn t)
noncomputable abbrev T_setme (t : TA) (x : Nat → Int32) : TA := T_mk (T_nb t) (T_np t) (T_sd t) (T_wh t) (T_gn t) (T_wo t) (T_ne t) (T_go t) (T_ag t) (T_re t) x (T_te t) (T_kn t)
noncomputable abbrev T_sette (t : TA) (x : Nat → Int32) : TA := T_mk (T_nb t) (T_np t) (T_sd t) (T_wh t) (T_gn t) (T_wo t) (T_ne t) (T_go t) (T_ag t) (T_re t) (T_me t) x (T_kn t)
noncomputable abbrev T_setnb (t : TA) (n : Nat) : TA := T_mk n (T_np t) (T_sd t) (T_wh t) (T_gn t) (T_wo t) (T_ne t) (T_go t) (T_ag t) (T_re t) (T_me t) (T_te t) (T_kn t)
noncomputable abbrev T_setnp (t : TA) (n : Nat) : TA := T_mk (T_nb t) n (T_sd t) (T_wh t) (T_gn t) (T_wo t) (T_ne t) (T_go t) (T_ag t) (T_re t) (T_me t) (T_te t) (T_kn t)
theorem c1_ : Int32.toNatClampNeg 1 = 1 := by decide +kernel
theorem c2_ : Int32.toNatClampNeg 2 = 2 := by decide +kernel
theorem c3_ : Int32.toNatClampNeg 3 = 3 := by decide +kernel
theorem c4_ : Int32.toNatClampNeg 4 = 4 := by decide +kernel
theorem c0_ : Int32.toNatClampNeg 0 = 0 := by decide +kernel
theorem bk_0 (t : TA) (k : Nat) : bkR t k (Int32.toNatClampNeg 0) = T_wo t k := by rw [c0_]; rfl
theorem bk_1 (t : TA) (k : Nat) : bkR t k (Int32.toNatClampNeg 1) = T_ne t k := by rw [c1_]; rfl
theorem bk_2 (t : TA) (k : Nat) : bkR t k (Int32.toNatClampNeg 2) = T_go t k := by rw [c2_]; rfl
theorem bk_3 (t : TA) (k : Nat) : bkR t k (Int32.toNatClampNeg 3) = b01 (T_wh t k) := by rw [c3_]; rfl
theorem on_0 (t : TA) (k : Nat) : onR t k (Int32.toNatClampNeg 0) = T_ag t k := by rw [c0_]; rfl
theorem on_1' (t : TA) (k : Nat) : onR t k (Int32.toNatClampNeg 1) = T_re t k := by rw [c1_]; rfl
theorem on_2' (t : TA) (k : Nat) : onR t k (Int32.toNatClampNeg 2) = T_me t k := by rw [c2_]; rfl
theorem on_3 (t : TA) (k : Nat) : onR t k (Int32.toNatClampNeg 3) = T_te t k := by rw [c3_]; rfl
theorem on_4 (t : TA) (k : Nat) : onR t k (Int32.toNatClampNeg 4) = b01 (T_gn t k) := by rw [c4_]; rfl
theorem b01_1 {b : Bool} (h : b01 b = 1) : b = true := by cases b with | true => rfl | false => exact absurd h (by decide +kernel)
theorem b01_n1 {b : Bool} (h : ¬ b01 b = 1) : b = false := by cases b with | false => rfl | true => exact absurd rfl h
theorem b01_0 {b : Bool} (h : b01 b = 0) : b = false := by cases b with | false => rfl | true => exact absurd h (by decide +kernel)
theorem b01_n0 {b : Bool} (h : ¬ b01 b = 0) : b = true := by cases b with | true => rfl | false => exact absurd rfl h
/-- a store into a row -/
theorem bk_v0 (a b c v : Int32) (w : Bool) : bkV v b c w = upd (bkV a b c w) 0 v := by
  funext j
  show _ = (if j = 0 then v else bkV a b c w j)
  by_cases h : j = 0
  · subst h; rfl
  · rw [if_neg h]; unfold bkV; simp [h]
theorem bk_u0 (t : TA) (k : Nat) (v : Int32) : bkR (T_setwo t (upd (T_wo t) k v)) k = upd (bkR t k) (Int32.toNatClampNeg 0) v := by
  rw [c0_]
  show bkV (upd (T_wo t) k v k) (T_ne t k) (T_go t k) (T_wh t k) = _
  rw [pk_us]
  exact bk_v0 _ _ _ _ _
theorem bk_n0 (t : TA) (k : Nat) (v : Int32) {j : Nat} (h : j ≠ k) : bkR (T_setwo t (upd (T_wo t) k v)) j = bkR t j := by
  show bkV (upd (T_wo t) k v j) (T_ne t j) (T_go t j) (T_wh t j) = _
  rw [pk_un h]
  rfl
theorem bk_v1 (a b c v : Int32) (w : Bool) : bkV a v c w = upd (bkV a b c w) 1 v := by
  funext j
  show _ = (if j = 1 then v else bkV a b c w j)
  by_cases h : j = 1
  · subst h; rfl
  · rw [if_neg h]; unfold bkV; simp [h]
theorem bk_u1 (t : TA) (k : Nat) (v : Int32) : bkR (T_setne t (upd (T_ne t) k v)) k = upd (bkR t k) (Int32.toNatClampNeg 1) v := by
  rw [c1_]
  show bkV (T_wo t k) (upd (T_ne t) k v k) (T_go t k) (T_wh t k) = _
  rw [pk_us]
  exact bk_v1 _ _ _ _ _
theorem bk_n1 (t : TA) (k : Nat) (v : Int32) {j : Nat} (h : j ≠ k) : bkR (T_setne t (upd (T_ne t) k v)) j = bkR t j := by
  show bkV (T_wo t j) (upd (T_ne t) k v j) (T_go t j) (T_wh t j) = _
  rw [pk_un h]
  rfl
theorem bk_v2 (a b c v : Int32) (w : Bool) : bkV a b v w = upd (bkV a b c w) 2 v := by
  funext j
  show _ = (if j = 2 then v else bkV a b c w j)
  by_cases h : j = 2
  · subst h; rfl
  · rw [if_neg h]; unfold bkV; simp [h]
theorem bk_u2 (t : TA) (k : Nat) (v : Int32) : bkR (T_setgo t (upd (T_go t) k v)) k = upd (bkR t k) (Int32.toNatClampNeg 2) v := by
  rw [c2_]
  show bkV (T_wo t k) (T_ne t k) (upd (T_go t) k v k) (T_wh t k) = _
  rw [pk_us]
  exact bk_v2 _ _ _ _ _
theorem bk_n2 (t : TA) (k : Nat) (v : Int32) {j : Nat} (h : j ≠ k) : bkR (T_setgo t (upd (T_go t) k v)) j = bkR t j := by
  show bkV (T_wo t j) (T_ne t j) (upd (T_go t) k v j) (T_wh t j) = _
  rw [pk_un h]
  rfl
theorem on_v0 (a b c d v : Int32) (w : Bool) : onV v b c d w = upd (onV a b c d w) 0 v := by
  funext j
  show _ = (if j = 0 then v else onV a b c d w j)
  by_cases h : j = 0
  · subst h; rfl
  · rw [if_neg h]; unfold onV; simp [h]
theorem on_u0 (t : TA) (k : Nat) (v : Int32) : onR (T_setag t (upd (T_ag t) k v)) k = upd (onR t k) (Int32.toNatClampNeg 0) v := by
  rw [c0_]
  show onV (upd (T_ag t) k v k) (T_re t k) (T_me t k) (T_te t k) (T_gn t k) = _
  rw [pk_us]
  exact on_v0 _ _ _ _ _ _
theorem on_n0 (t : TA) (k : Nat) (v : Int32) {j : Nat} (h : j ≠ k) : onR (T_setag t (upd (T_ag t) k v)) j = onR t j := by
  show onV (upd (T_ag t) k v j) (T_re t j) (T_me t j) (T_te t j) (T_gn t j) = _
  rw [pk_un h]
  rfl
theorem on_v1 (a b c d v : Int32) (w : Bool) : onV a v c d w = upd (onV a b c d w) 1 v := by
  funext j
  show _ = (if j = 1 then v else onV a b c d w j)
  by_cases h : j = 1
  · subst h; rfl
  · rw [if_neg h]; unfold onV; simp [h]
theorem on_u1 (t : TA) (k : Nat) (v : Int32) : onR (T_setre t (upd (T_re t) k v)) k = upd (onR t k) (Int32.toNatClampNeg 1) v := by
  rw [c1_]
  show onV (T_ag t k) (upd (T_re t) k v k) (T_me t k) (T_te t k) (T_gn t k) = _
  rw [pk_us]
  exact on_v1 _ _ _ _ _ _
theorem on_n1 (t : TA) (k : Nat) (v : Int32) {j : Nat} (h : j ≠ k) : onR (T_setre t (upd (T_re t) k v)) j = onR t j := by
  show onV (T_ag t j) (upd (T_re t) k v j) (T_me t j) (T_te t j) (T_gn t j) = _
  rw [pk_un h]
  rfl
theorem on_v2 (a b c d v : Int32) (w : Bool) : onV a b v d w = upd (onV a b c d w) 2 v := by
  funext j
  show _ = (if j = 2 then v else onV a b c d w j)
  by_cases h : j = 2
  · subst h; rfl
  · rw [if_neg h]; unfold onV; simp [h]
theorem on_u2 (t : TA) (k : Nat) (v : Int32) : onR (T_setme t (upd (T_me t) k v)) k = upd (onR t k) (Int32.toNatClampNeg 2) v := by
  rw [c2_]
  show onV (T_ag t k) (T_re t k) (upd (T_me t) k v k) (T_te t k) (T_gn t k) = _
  rw [pk_us]
  exact on_v2 _ _ _ _ _ _
theorem on_n2 (t : TA) (k : Nat) (v : Int32) {j : Nat} (h : j ≠ k) : onR (T_setme t (upd (T_me t) k v)) j = onR t j := by
  show onV (T_ag t j) (T_re t j) (upd (T_me t) k v j) (T_te t j) (T_gn t j) = _
  rw [pk_un h]
  rfl
theorem on_v3 (a b c d v : Int32) (w : Bool) : onV a b c v w = upd (onV a b c d w) 3 v := by
  funext j
  show _ = (if j = 3 then v else onV a b c d w j)
  by_cases h : j = 3
  · subst h; rfl
  · rw [if_neg h]; unfold onV; simp [h]
theorem on_u3 (t : TA) (k : Nat) (v : Int32) : onR (T_sette t (upd (T_te t) k v)) k = upd (onR t k) (Int32.toNatClampNeg 3) v := by
  rw [c3_]
  show onV (T_ag t k) (T_re t k) (T_me t k) (upd (T_te t) k v k) (T_gn t k) = _
  rw [pk_us]
  exact on_v3 _ _ _ _ _ _
theorem on_n3 (t : TA) (k : Nat) (v : Int32) {j : Nat} (h : j ≠ k) : onR (T_sette t (upd (T_te t) k v)) j = onR t j := by
  show onV (T_ag t j) (T_re t j) (T_me t j) (upd (T_te t) k v j) (T_gn t j) = _
  rw [pk_un h]
  rfl
theorem ub_n {f : Nat → Bool} {k j : Nat} {v : Bool} (h : j ≠ k) : updB f k v j = f j := if_neg h
theorem bk_n3 (t : TA) (k : Nat) (v : Bool) {j : Nat} (h : j ≠ k) : bkR (T_setwh t (updB (T_wh t) k v)) j = bkR t j := by
  show bkV (T_wo t j) (T_ne t j) (T_go t j) (updB (T_wh t) k v j) = _
  rw [ub_n h]
  rfl
theorem on_n4 (t : TA) (k : Nat) (v : Bool) {j : Nat} (h : j ≠ k) : onR (T_setgn t (updB (T_gn t) k v)) j = onR t j := by
  show onV (T_ag t j) (T_re t j) (T_me t j) (T_te t j) (updB (T_gn t) k v j) = _
  rw [ub_n h]
  rfl
theorem kn_u (t : TA) (k i : Nat) (v : Int32) : T_kn (T_setkn t (updM (T_kn t) k i v)) k = upd (T_kn t k) i v := if_pos rfl
theorem kn_n (t : TA) (k i : Nat) (v : Int32) {j : Nat} (h : j ≠ k) : T_kn (T_setkn t (updM (T_kn t) k i v)) j = T_kn t j := if_neg h
/-- rows of four and five: the last column stands for all behind it, so a store there is told of the row's own places alone -/
theorem arr_at {G : va_G} {ws : va_W} {H : Heap} {n0 : Nat} {a : Nat} {cA : ClassId} {n : Nat} {f g : Nat → Int32} (hP : va_P G CL ws H) (h0 : ws[n0]? = some (a, .inl (cA, n, .inl f))) (h : ∀ i, i < n → f i = g i) : va_P G CL (ws.set n0 (a, .inl (cA, n, .inl g))) H := by
  intro k q hq
  by_cases hk : k = n0
  · subst hk
    have hl : k < ws.length := (List.getElem?_eq_some_iff.mp h0).1
    rw [List.getElem?_set_self hl] at hq
    cases hq
    have h1 := hP k _ h0
    exact Eq.trans h1 (congrArg some (arr_same h))
  · rw [List.getElem?_set_ne (fun e => hk e.symm)] at hq
    exact hP k q hq
theorem arr_dt {A : Nat → Prop} {ws : va_W} {n0 : Nat} {a : Nat} {e e' : va_E} (hD : va_D A ws) (h0 : ws[n0]? = some (a, e)) : va_D A (ws.set n0 (a, e')) := by
  have hl : n0 < ws.length := (List.getElem?_eq_some_iff.mp h0).1
  have key : ∀ (k : Nat) (z : Nat × va_E), (ws.set n0 (a, e'))[k]? = some z → ∃ z', ws[k]? = some z' ∧ z'.1 = z.1 := fun k z hz => by
    by_cases hk : k = n0
    · subst hk
      rw [List.getElem?_set_self hl] at hz
      cases hz
      exact ⟨_, h0, rfl⟩
    · rw [List.getElem?_set_ne (fun e => hk e.symm)] at hz
      exact ⟨z, hz, rfl⟩
  refine ⟨fun i j x y hx hy hxy => ?_, fun k q hq => ?_⟩
  · obtain ⟨x', h1, h2⟩ := key i x hx
    obtain ⟨y', h3, h4⟩ := key j y hy
    exact hD.1 i j x' y' h1 h3 (by rw [h2, h4]; exact hxy)
  · obtain ⟨z', h1, h2⟩ := key k q hq
    rw [← h2]
    exact hD.2 k z' h1
theorem sg8 {ws : va_W} {n0 : Nat} {f : Nat → Nat × va_E} (h0 : ws[n0]? = some (f 0)) (h1 : ws[n0 + 1]? = some (f 1)) (h2 : ws[n0 + 2]? = some (f 2)) (h3 : ws[n0 + 3]? = some (f 3)) (h4 : ws[n0 + 4]? = some (f 4)) (h5 : ws[n0 + 5]? = some (f 5)) (h6 : ws[n0 + 6]? = some (f 6)) (h7 : ws[n0 + 7]? = some (f 7)) : ∀ k, k < 8 → ws[n0 + k]? = some (f k)
  | 0, _ => h0
  | 1, _ => h1
  | 2, _ => h2
  | 3, _ => h3
  | 4, _ => h4
  | 5, _ => h5
  | 6, _ => h6
  | 7, _ => h7
  | k + 8, h => absurd h (by omega)
theorem set8 {ws ws' : va_W} {n0 k : Nat} {f f' : Nat → Nat × va_E} {x : Nat × va_E} (h : ∀ j, j < 8 → ws[n0 + j]? = some (f j)) (h' : ∀ j, j < 8 → ws'[n0 + j]? = some (f' j)) (ht : ws'.take n0 = ws.take n0) (hd : ws'.drop (n0 + 8) = ws.drop (n0 + 8)) (hk : k < 8) (hx : f' k = x) (hj : ∀ j, j ≠ k → f' j = f j) : ws.set (n0 + k) x = ws' := by
  have hl : n0 + k < ws.length := (List.getElem?_eq_some_iff.mp (h k hk)).1
  apply List.ext_getElem?
  intro i
  by_cases hi : i = n0 + k
  · subst hi
    rw [List.getElem?_set_self hl, h' k hk, hx]
  · rw [List.getElem?_set_ne (fun e => hi e.symm)]
    by_cases h1 : i < n0
    · have a1 := congrArg (fun z : va_W => z[i]?) ht
      simp only [List.getElem?_take, h1, if_true] at a1
      exact a1.symm
    · by_cases h2 : i < n0 + 8
      · obtain ⟨j, rfl⟩ : ∃ j, i = n0 + j := ⟨i - n0, by omega⟩
        rw [h j (by omega), h' j (by omega), hj j (by omega)]
      · obtain ⟨j, rfl⟩ : ∃ j, i = n0 + 8 + j := ⟨i - (n0 + 8), by omega⟩
        have a1 := congrArg (fun z : va_W => z[j]?) hd
        simp only [List.getElem?_drop] at a1
        exact a1.symm
theorem g_ref {r : Nat → Nat} {k : Nat} (h : k < 8) : va_rf ((fun i => if i < 8 then some (r i) else none) (nI k).toNatClampNeg) = .ref (r k) := by
  rw [nI_clamp (by omega)]
  show va_rf (if k < 8 then some (r k) else none) = _
  rw [if_pos h]
  rfl
theorem bk_w3 (t : TA) (k : Nat) (v : Bool) : ∀ i, i < 4 → upd (bkR t k) (Int32.toNatClampNeg 3) (b01 v) i = bkR (T_setwh t (updB (T_wh t) k v)) k i := by
  rw [c3_]
  intro i hi
  match i, hi with
  | 0, _ => rfl
  | 1, _ => rfl
  | 2, _ => rfl
  | 3, _ => show (if 3 = 3 then b01 v else _) = b01 (if k = k then v else _); rw [if_pos rfl, if_pos rfl]
  | i + 4, h => exact absurd h (by omega)
theorem on_w4 (t : TA) (k : Nat) (v : Bool) : ∀ i, i < 5 → upd (onR t k) (Int32.toNatClampNeg 4) (b01 v) i = onR (T_setgn t (updB (T_gn t) k v)) k i := by
  rw [c4_]
  intro i hi
  match i, hi with
  | 0, _ => rfl
  | 1, _ => rfl
  | 2, _ => rfl
  | 3, _ => rfl
  | 4, _ => show (if 4 = 4 then b01 v else _) = b01 (if k = k then v else _); rw [if_pos rfl, if_pos rfl]
  | i + 5, h => exact absurd h (by omega)
/-- ranges -/
noncomputable def R0 (n : Nat) (x : Int32) : Prop := ∃ k : Nat, k ≤ n ∧ x = nI k
theorem r_te {x y : Int32} (hx : R0 1000 x) (hy : R0 10 y) : R0 1000 (x * y / 10) := by
  obtain ⟨a, ha, rfl⟩ := hx
  obtain ⟨b, hb, rfl⟩ := hy
  have h1 : a * b ≤ 1000 * 10 := Nat.mul_le_mul ha hb
  refine ⟨a * b / 10, by omega, ?_⟩
  rw [pk_mul, show (10 : Int32) = nI 10 from rfl, pk_div (by omega) (by omega) (by omega)]
theorem r_gr {o g : Int32} (ho : R0 1000 o) (hg : R0 1000 g) : R0 1000 (zgr o g) := by
  obtain ⟨a, ha, rfl⟩ := ho
  obtain ⟨b, hb, rfl⟩ := hg
  have h1 : a * (b + 1000) ≤ 1000 * 2000 := Nat.mul_le_mul ha (by omega)
  refine ⟨a * (b + 1000) / 2000, by omega, ?_⟩
  unfold zgr
  rw [show (1000 : Int32) = nI 1000 from rfl, nI_add, pk_mul, show (2000 : Int32) = nI 2000 from rfl, pk_div (by omega) (by omega) (by omega)]
theorem r_mx {n : Nat} {a b : Int32} (ha : R0 n a) (hb : R0 n b) : R0 n (mx a b) := by
  unfold mx
  split
  · exact hb
  · exact ha
theorem r_gd {need : Int32} {K : Nat → Int32} (h : ∀ k, R0 1000 (K k)) : ∀ n, R0 1000 (gdF need K n) := by
  intro n
  induction n with
  | zero => exact ⟨1000, by omega, rfl⟩
  | succ n ih =>
    unfold gdF
    split
    · exact h n
    · exact ih
theorem r_half {x : Int32} (hx : R0 1000 x) : R0 1000 (x / 2) := by
  obtain ⟨a, ha, rfl⟩ := hx
  refine ⟨a / 2, by omega, ?_⟩
  rw [show (2 : Int32) = nI 2 from rfl, pk_div (by omega) (by omega) (by omega)]
theorem r_fg {x m : Int32} (hx : R0 1000 x) (hm : R0 10 m) : R0 1000 (x * (90 + m) / 100) := by
  obtain ⟨a, ha, rfl⟩ := hx
  obtain ⟨b, hb, rfl⟩ := hm
  have h1 : a * (90 + b) ≤ 1000 * 100 := Nat.mul_le_mul ha (by omega)
  refine ⟨a * (90 + b) / 100, by omega, ?_⟩
  rw [show (90 : Int32) = nI 90 from rfl, nI_add, pk_mul, show (100 : Int32) = nI 100 from rfl, pk_div (by omega) (by omega) (by omega)]
theorem r_0 (n : Nat) : R0 n 0 := ⟨0, by omega, rfl⟩
theorem r_iv {x : Int32} {b : Int64} (n : Nat) (hb : b.toInt = n) (h : Iv x.toInt64 0 b) : R0 n x := by
  obtain ⟨k, _, h2, h3⟩ := iv_nI 0 n (by decide +kernel) hb h
  exact ⟨k, h2, h3⟩
theorem r_lt {n : Nat} {x y : Int32} (hn : n ≤ 1000) (hx : R0 n x) (hy : R0 n y) (h : y < x) : R0 n (x - y) ∧ y + (x - y) = x := by
  obtain ⟨a, ha, rfl⟩ := hx
  obtain ⟨b, hb, rfl⟩ := hy
  rw [Int32.lt_iff_toInt_lt, nI_toInt (by omega), nI_toInt (by omega)] at h
  rw [pk_sub (by omega), nI_add]
  exact ⟨⟨a - b, by omega, rfl⟩, by congr 1; omega⟩
theorem gt_up {v x : Int32} (hv : R0 1000 v) (hx : R0 1000 x) (h : x < v) : mx 0 (v - x) = v - x := by
  obtain ⟨⟨k, hk, e⟩, _⟩ := r_lt (by omega) hv hx h
  unfold mx
  rw [e]
  split
  · rfl
  · next q =>
    rcases Nat.eq_zero_or_pos k with z | z
    · subst z; rfl
    · exact absurd (by rw [Int32.lt_iff_toInt_lt, nI_toInt (by omega)]; show (0 : Int) < _; omega) q
theorem gt_no {v x : Int32} (hv : R0 1000 v) (hx : R0 1000 x) (h : ¬ x < v) : mx 0 (v - x) = 0 := by
  obtain ⟨a, ha, rfl⟩ := hv
  obtain ⟨b, hb, rfl⟩ := hx
  unfold mx
  rw [if_neg]
  rw [Int32.lt_iff_toInt_lt, pk_sub_toInt (by omega) (by omega)]
  rw [Int32.lt_iff_toInt_lt, nI_toInt (by omega), nI_toInt (by omega)] at h
  show ¬ (0 : Int) < _
  omega
noncomputable def TI (t : TA) : Prop := (T_nb t ≤ 8 ∧ T_np t ≤ 8) ∧ (∀ p b, R0 1000 (T_kn t p b)) ∧ (∀ b, R0 1000 (T_go t b)) ∧ (∀ p, R0 10 (T_re t p)) ∧ (∀ p, R0 10 (T_me t p)) ∧ ∀ p, R0 10 (T_te t p)
theorem r_upd {n : Nat} {f : Nat → Int32} {k : Nat} {v : Int32} (h : ∀ j, R0 n (f j)) (hv : R0 n v) : ∀ j, R0 n (upd f k v j) := fun j => by
  show R0 n (if j = k then v else f j)
  split
  · exact hv
  · exact h j
theorem r_updM {n : Nat} {K : Nat → Nat → Int32} {p b : Nat} {v : Int32} (h : ∀ p b, R0 n (K p b)) (hv : R0 n v) : ∀ p' b', R0 n (updM K p b v p' b') := fun p' b' => by
  show R0 n ((if p' = p then upd (K p) b v else K p') b')
  split
  · exact r_upd (h p) hv b'
  · exact h p' b'
theorem TI_kn {t : TA} (h : TI t) {p b : Nat} {v : Int32} (hv : R0 1000 v) : TI (T_setkn t (updM (T_kn t) p b v)) := ⟨h.1, r_updM h.2.1 hv, h.2.2⟩
theorem TI_wh {t : TA} (h : TI t) (x : Nat → Bool) : TI (T_setwh t x) := h
theorem TI_gn {t : TA} (h : TI t) (x : Nat → Bool) : TI (T_setgn t x) := h
theorem TI_go {t : TA} (h : TI t) {b : Nat} {v : Int32} (hv : R0 1000 v) : TI (T_setgo t (upd (T_go t) b v)) := ⟨h.1, h.2.1, r_upd h.2.2.1 hv, h.2.2.2⟩
theorem r_wk {t : TA} (h : TI t) (p b : Nat) : R0 1000 (zwk t p b) := r_mx (r_gr (r_te (h.2.2.1 b) (h.2.2.2.1 p)) (r_gd (h.2.1 p) b)) (h.2.1 p b)
theorem TI_rd {t : TA} (h : TI t) (p b : Nat) : TI (rdT t p b) := TI_kn h (r_wk h p b)
theorem wk_m1 {t : TA} (h : TI t) (p b : Nat) : ¬ zwk t p b = -1 := by
  obtain ⟨k, hk, e⟩ := r_wk h p b
  rw [e]
  exact nI_ne1' (by omega)
theorem wk_gt {t : TA} (h : TI t) (p b : Nat) : -1 < zwk t p b := by
  obtain ⟨k, hk, e⟩ := r_wk h p b
  rw [e, Int32.lt_iff_toInt_lt, nI_toInt (by omega)]
  show (-1 : Int) < _
  omega
theorem r_tl {t : TA} (h : TI t) (p o b : Nat) : R0 1000 (T_kn t o b + zgt t p o b) := by
  have hv := r_te (h.2.1 p b) (h.2.2.2.2.2 p)
  by_cases c : T_kn t o b < T_kn t p b * T_te t p / 10
  · unfold zgt
    rw [gt_up hv (h.2.1 o b) c, (r_lt (by omega) hv (h.2.1 o b) c).2]
    exact hv
  · unfold zgt
    rw [gt_no hv (h.2.1 o b) c, Int32.add_zero]
    exact h.2.1 o b
theorem TI_tl {t : TA} (h : TI t) (p o b : Nat) : TI (tlT t p o b) := TI_kn h (r_tl h p o b)
theorem mx_le {a b : Int32} (h : a ≤ b) : mx a b = b := by
  unfold mx
  split
  · rfl
  · next q =>
    have := Int32.le_iff_toInt_le.mp h
    have q2 : ¬ a.toInt < b.toInt := fun z => q (Int32.lt_iff_toInt_lt.mpr z)
    exact Int32.toInt_inj.mp (by omega)
theorem mx_gt {a b : Int32} (h : ¬ a ≤ b) : mx a b = a := by
  unfold mx
  exact if_neg (fun q => h (by rw [Int32.le_iff_toInt_le]; have := Int32.lt_iff_toInt_lt.mp q; omega))
theorem st8P {G : va_G} {H : Heap} {ws ws' : va_W} {n0 k a n : Nat} {cA : ClassId} {g0 g1 : Nat → Int32} {f f' : Nat → Nat × va_E} (hP : va_P G CL (ws.set (n0 + k) (a, .inl (cA, n, .inl g0))) H) (h : ∀ j, j < 8 → ws[n0 + j]? = some (f j)) (h' : ∀ j, j < 8 → ws'[n0 + j]? = some (f' j)) (ht : ws'.take n0 = ws.take n0) (hd : ws'.drop (n0 + 8) = ws.drop (n0 + 8)) (hk : k < 8) (hx : f' k = (a, .inl (cA, n, .inl g1))) (hg : ∀ i, i < n → g0 i = g1 i) (hj : ∀ j, j ≠ k → f' j = f j) : va_P G CL ws' H := by
  have hl : n0 + k < ws.length := (List.getElem?_eq_some_iff.mp (h k hk)).1
  have h1 := arr_at (g := g1) hP (List.getElem?_set_self hl) hg
  rw [List.set_set, set8 h h' ht hd hk hx hj] at h1
  exact h1
theorem st8D {A : Nat → Prop} {ws ws' : va_W} {n0 k a : Nat} {e e' : va_E} {f f' : Nat → Nat × va_E} (hD : va_D A (ws.set (n0 + k) (a, e))) (h : ∀ j, j < 8 → ws[n0 + j]? = some (f j)) (h' : ∀ j, j < 8 → ws'[n0 + j]? = some (f' j)) (ht : ws'.take n0 = ws.take n0) (hd : ws'.drop (n0 + 8) = ws.drop (n0 + 8)) (hk : k < 8) (hx : f' k = (a, e')) (hj : ∀ j, j ≠ k → f' j = f j) : va_D A ws' := by
  have hl : n0 + k < ws.length := (List.getElem?_eq_some_iff.mp (h k hk)).1
  have h1 := arr_dt (e' := e') hD (List.getElem?_set_self hl)
  rw [List.set_set, set8 h h' ht hd hk hx hj] at h1
  exact h1
theorem st8PD {G : va_G} {H : Heap} {A : Nat → Prop} {ws ws' : va_W} {n0 k a n : Nat} {cA : ClassId} {g0 g1 : Nat → Int32} {f f' : Nat → Nat × va_E} (hP : va_P G CL (ws.set (n0 + k) (a, .inl (cA, n, .inl g0))) H) (hD : va_D A (ws.set (n0 + k) (a, .inl (cA, n, .inl g0)))) (h : ∀ j, j < 8 → ws[n0 + j]? = some (f j)) (h' : ∀ j, j < 8 → ws'[n0 + j]? = some (f' j)) (ht : ws'.take n0 = ws.take n0) (hd : ws'.drop (n0 + 8) = ws.drop (n0 + 8)) (hk : k < 8) (hx : f' k = (a, .inl (cA, n, .inl g1))) (hg : ∀ i, i < n → g0 i = g1 i) (hj : ∀ j, j ≠ k → f' j = f j) : va_P G CL ws' H ∧ va_D A ws' := ⟨st8P hP h h' ht hd hk hx hg hj, st8D hD h h' ht hd hk hx hj⟩
end
section
theorem sz_no {x : Int32} {n : Nat} (hn : n ≤ 40) (h : ¬ Iv x.toInt64 0 (nI n - 1).toInt64) : ¬ ∃ k : Nat, k < n ∧ x = nI k := fun ⟨k, h1, h2⟩ => h (by
  subst h2
  have e : (nI n - 1).toInt = (n : Int) - 1 := by
    rw [show (1 : Int32) = nI 1 from rfl, pk_sub_toInt (by omega) (by omega)]
    rfl
  exact ofI (m := 0) (n := (n : Int) - 1) (by decide +kernel) (by rw [Int32.toInt_toInt64]; exact e) ⟨by rw [nI_toInt (by omega)]; omega, by rw [nI_toInt (by omega)]; omega⟩)
noncomputable def tmF (t : TA) : Nat → Nat
  | 0 => 0
  | p + 1 => tmF t p + (if T_gn t p = false then 1 else 0)
theorem tm_y {t : TA} {p : Nat} (h : T_gn t p = false) : tmF t (p + 1) = tmF t p + 1 := by rw [tmF, if_pos h]
theorem tm_n {t : TA} {p : Nat} (h : T_gn t p = true) : tmF t (p + 1) = tmF t p + 0 := by rw [tmF, if_neg (by rw [h]; decide)]
theorem bt_yes {s : Int32} {n : Nat} (h : ¬ (s >>> (nI n &&& 31)) &&& 1 = 0) : bitb s n = true := by unfold bitb; exact decide_eq_true h
theorem bt_no {s : Int32} {n : Nat} (h : (s >>> (nI n &&& 31)) &&& 1 = 0) : bitb s n = false := by unfold bitb; exact decide_eq_false (fun q => q h)
theorem ga_no {pr : Nat → Bool} {k : Nat → Int32} {n : Nat} (h : pr n = false) : gA pr k (n + 1) = gA pr k n := by rw [gA, if_neg (by rw [h]; decide)]
theorem ga_yy {pr : Nat → Bool} {k : Nat → Int32} {n : Nat} (h : pr n = true) (c : ¬ k n ≤ gA pr k n) : gA pr k (n + 1) = k n := by
  rw [gA, if_pos h]
  exact if_pos (Int32.not_le.mp c)
theorem ga_yn {pr : Nat → Bool} {k : Nat → Int32} {n : Nat} (h : pr n = true) (c : k n ≤ gA pr k n) : gA pr k (n + 1) = gA pr k n := by
  rw [gA, if_pos h]
  exact if_neg (Int32.not_lt.mpr c)
noncomputable def mgr (t : TA) (b : Nat) (s : Int32) : Int32 := gA (fun p => bitb s p && !T_gn t p) (fun p => T_kn t p b) (T_np t)
noncomputable def mvo (t : TA) (s : Int32) : Int32 := wsum (fun b => T_wo t b * mgr t b s) (T_nb t)
theorem br_snd {t : TA} {b : Nat} : ∀ {n k : Nat}, n ≤ 8 → (brF t b n).1 = nI k → k < 8 → (brF t b n).2 = zwk t k b := by
  intro n
  induction n with
  | zero => intro k _ h hk; exact absurd h.symm (nI_ne1 hk)
  | succ n ih =>
    intro k hn h hk
    by_cases c : (T_gn t n = false ∧ ¬ zwk t n b = -1 ∧ ((brF t b n).1 = -1 ∨ (brF t b n).2 < zwk t n b ∨ (zwk t n b = (brF t b n).2 ∧ T_ag t n < T_ag t (brF t b n).1.toNatClampNeg)))
    · rw [br_upd c] at h ⊢
      rw [nI_inj (by omega) (by omega) h]
    · rw [br_skip c] at h ⊢
      exact ih (by omega) h hk
set_option maxHeartbeats 4000000 in
set_option maxRecDepth 100000 in
theorem c_X6_in (l : Launch) (G : va_G) (cy : Nat → ClassId) (J1 : Int64) (J2 : Int64) (J3 : Int64)   : MR l yX6_in cX6_in 6 (some .boolean) 1 G cy [] [.long J1, .long J2, .long J3] (vp_Si (fun r => (r = 1 ∧ Iv J1 J2 J3) ∨ (r = 0 ∧ ¬ Iv J1 J2 J3))) := by
  refine enR RX6 (by decide +kernel) rfl (Nat.le_of_ble_eq_true rfl) (fun p e s m below meth c ls hx hb hml hown hts hr hlocks hP hN hl => ?_)
  have hK := hN.1
  replace hl : lv_has ls 6 [(0, .long J1), (2, .long J2), (4, .long J3)] := hl
  refine lv_lload_n hx hb (g_30 bX6_in rfl) rfl (lv_at hl 0 rfl) ?_
  refine lv_lload_n hx hb (g_32 bX6_in rfl) rfl (lv_at hl 1 rfl) ?_
  refine W.lcmp hx hb (g_148 bX6_in rfl) ?_
  refine lv_if_lt (tgt := 17) hx hb dX6_in_3 (by decide +kernel) (fun c_1 => ?_) (fun c_1 => ?_)
  · refine lv_iconst (v := 0) hx hb (g_3 bX6_in rfl) (by decide +kernel) ?_
    exact endR hx hb hr hlocks rfl (Or.inr (⟨rfl, in_no1 c_1⟩)) (g_172 bX6_in rfl)
  · refine lv_lload_n hx hb (g_30 bX6_in rfl) rfl (lv_at hl 0 rfl) ?_
    refine lv_lload hx hb (g_22 (v := 4) bX6_in rfl) (lv_at hl 2 rfl) ?_
    refine W.lcmp hx hb (g_148 bX6_in rfl) ?_
    refine lv_if_gt (tgt := 17) hx hb dX6_in_10 (by decide +kernel) (fun c_2 => ?_) (fun c_2 => ?_)
    · refine lv_iconst (v := 0) hx hb (g_3 bX6_in rfl) (by decide +kernel) ?_
      exact endR hx hb hr hlocks rfl (Or.inr (⟨rfl, in_no2 c_2⟩)) (g_172 bX6_in rfl)
    · refine lv_iconst (v := 1) hx hb (g_4 bX6_in rfl) (by decide +kernel) ?_
      refine lv_goto (tgt := 18) hx hb dX6_in_14 (by decide +kernel) ?_
      exact endR hx hb hr hlocks rfl (Or.inl (⟨rfl, in_yes c_1 c_2⟩)) (g_172 bX6_in rfl)
set_option maxHeartbeats 4000000 in
set_option maxRecDepth 100000 in
theorem c_X6_isBook (l : Launch) (G : va_G) (cy : Nat → ClassId) (qm : Nat) (v0 : Value) (v1 : Value) (v2 : Value) (v3 : Value) (v4 : Value) (v5 : Value) (v6 : Value) (v7 : Value) (v8 : Value) (v9 : Value) (tA : TA) (qmB : Nat) (qmO : Nat) (qmK : Nat) (iEn : Int32) (iTk : Int32) (v18 : Value) (v19 : Value) (v20 : Value) (v21 : Value) (v22 : Value) (v23 : Value) (v24 : Value) (v25 : Value) (v26 : Value) (iLv : Int32) (iWs : Int32) (v29 : Value) (v30 : Value) (v31 : Value) (v32 : Value) (v33 : Value) (v34 : Value) (iA : Int32)  (hB : T_nb tA ≤ 8) : MR l yX6_isBook cX6_isBook 3 (some .boolean) 2 G cy [zzO qm 5 (v0 :: v1 :: v2 :: v3 :: v4 :: v5 :: v6 :: v7 :: v8 :: v9 :: .int (nI (T_nb tA)) :: .ref qmB :: .int (nI (T_np tA)) :: .ref qmO :: .ref qmK :: .int iEn :: .int iTk :: .int (T_sd tA) :: v18 :: v19 :: v20 :: v21 :: v22 :: v23 :: v24 :: v25 :: v26 :: .int iLv :: .int iWs :: v29 :: v30 :: v31 :: v32 :: v33 :: v34 :: [])] [.ref qm, .long iA.toInt64] (vp_Si (fun r => (r = 1 ∧ ∃ k : Nat, k < T_nb tA ∧ iA = nI k) ∨ (r = 0 ∧ ¬ ∃ k : Nat, k < T_nb tA ∧ iA = nI k))) := by
  refine enR RX6 (by decide +kernel) rfl (Nat.le_of_ble_eq_true rfl) (fun p e s m below meth c ls hx hb hml hown hts hr hlocks hP hN hl => ?_)
  have hK := hN.1
  replace hl : lv_has ls 3 [(0, .ref qm), (1, .long iA.toInt64)] := hl
  refine lv_lload_n hx hb (g_31 bX6_isBook rfl) rfl (lv_at hl 1 rfl) ?_
  refine lv_lconst (v := 0) hx hb (g_9 bX6_isBook rfl) (by decide +kernel) ?_
  refine lv_aload_n hx hb (g_42 bX6_isBook rfl) rfl (lv_at hl 0 rfl) ?_
  refine va_get (D := G) (ci := 5) (v := .int (nI (T_nb tA))) (C := RX6) (T := TX6) (N := 35) hx hb hts iX_X6 hown hK hP 0 rfl rfl 10 (by decide +kernel) (hts _ m_t860) (fun _ h9 => h9) rfl (g_180 (v := 71) bX6_isBook rfl) ?_
  refine lv_iconst (v := 1) hx hb (g_4 bX6_isBook rfl) (by decide +kernel) ?_
  refine lv_isub hx hb (g_100 bX6_isBook rfl) ?_
  refine lv_i2l (v := ((nI (T_nb tA)) - 1).toInt64) hx hb (g_133 bX6_isBook rfl) rfl ?_
  refine kRi (rS (As := [.long iA.toInt64, .long 0, .long (((nI (T_nb tA)) - 1).toInt64)]) (rest := []) ⟨hx, hb, hml, hown, hts⟩ (c_X6_in l G cy iA.toInt64 0 (((nI (T_nb tA)) - 1).toInt64)) L_X6_74 (preRS hN hP [] rfl) rfl ⟨Nat.le_of_ble_eq_true rfl, Nat.le_of_ble_eq_true rfl⟩ hl.1 (Nat.le_of_ble_eq_true rfl) (g_184 (v := 74) bX6_isBook rfl) ⟨Nat.le_of_ble_eq_true rfl, Nat.le_of_ble_eq_true rfl⟩) (fun r_1 h_2 => ?_)
  rcases h_2 with ⟨rfl, h_3⟩ | ⟨rfl, h_3⟩
  · exact endR hx hb hr hlocks rfl (Or.inl (⟨rfl, sz_in rfl (by omega) h_3⟩)) (g_172 bX6_isBook rfl)
  · exact endR hx hb hr hlocks rfl (Or.inr (⟨rfl, sz_no (by omega) h_3⟩)) (g_172 bX6_isBook rfl)
set_option maxHeartbeats 4000000 in
set_option maxRecDepth 100000 in
theorem c_X6_isOne (l : Launch) (G : va_G) (cy : Nat → ClassId) (qm : Nat) (v0 : Value) (v1 : Value) (v2 : Value) (v3 : Value) (v4 : Value) (v5 : Value) (v6 : Value) (v7 : Value) (v8 : Value) (v9 : Value) (tA : TA) (qmB : Nat) (qmO : Nat) (qmK : Nat) (iEn : Int32) (iTk : Int32) (v18 : Value) (v19 : Value) (v20 : Value) (v21 : Value) (v22 : Value) (v23 : Value) (v24 : Value) (v25 : Value) (v26 : Value) (iLv : Int32) (iWs : Int32) (v29 : Value) (v30 : Value) (v31 : Value) (v32 : Value) (v33 : Value) (v34 : Value) (iA : Int32)  (hB : T_np tA ≤ 8) : MR l yX6_isOne cX6_isOne 3 (some .boolean) 2 G cy [zzO qm 5 (v0 :: v1 :: v2 :: v3 :: v4 :: v5 :: v6 :: v7 :: v8 :: v9 :: .int (nI (T_nb tA)) :: .ref qmB :: .int (nI (T_np tA)) :: .ref qmO :: .ref qmK :: .int iEn :: .int iTk :: .int (T_sd tA) :: v18 :: v19 :: v20 :: v21 :: v22 :: v23 :: v24 :: v25 :: v26 :: .int iLv :: .int iWs :: v29 :: v30 :: v31 :: v32 :: v33 :: v34 :: [])] [.ref qm, .long iA.toInt64] (vp_Si (fun r => (r = 1 ∧ ∃ k : Nat, k < T_np tA ∧ iA = nI k) ∨ (r = 0 ∧ ¬ ∃ k : Nat, k < T_np tA ∧ iA = nI k))) := by
  refine enR RX6 (by decide +kernel) rfl (Nat.le_of_ble_eq_true rfl) (fun p e s m below meth c ls hx hb hml hown hts hr hlocks hP hN hl => ?_)
  have hK := hN.1
  replace hl : lv_has ls 3 [(0, .ref qm), (1, .long iA.toInt64)] := hl
  refine lv_lload_n hx hb (g_31 bX6_isOne rfl) rfl (lv_at hl 1 rfl) ?_
  refine lv_lconst (v := 0) hx hb (g_9 bX6_isOne rfl) (by decide +kernel) ?_
  refine lv_aload_n hx hb (g_42 bX6_isOne rfl) rfl (lv_at hl 0 rfl) ?_
  refine va_get (D := G) (ci := 5) (v := .int (nI (T_np tA))) (C := RX6) (T := TX6) (N := 35) hx hb hts iX_X6 hown hK hP 0 rfl rfl 12 (by decide +kernel) (hts _ m_t862) (fun _ h9 => h9) rfl (g_180 (v := 78) bX6_isOne rfl) ?_
  refine lv_iconst (v := 1) hx hb (g_4 bX6_isOne rfl) (by decide +kernel) ?_
  refine lv_isub hx hb (g_100 bX6_isOne rfl) ?_
  refine lv_i2l (v := ((nI (T_np tA)) - 1).toInt64) hx hb (g_133 bX6_isOne rfl) rfl ?_
  refine kRi (rS (As := [.long iA.toInt64, .long 0, .long (((nI (T_np tA)) - 1).toInt64)]) (rest := []) ⟨hx, hb, hml, hown, hts⟩ (c_X6_in l G cy iA.toInt64 0 (((nI (T_np tA)) - 1).toInt64)) L_X6_74 (preRS hN hP [] rfl) rfl ⟨Nat.le_of_ble_eq_true rfl, Nat.le_of_ble_eq_true rfl⟩ hl.1 (Nat.le_of_ble_eq_true rfl) (g_184 (v := 74) bX6_isOne rfl) ⟨Nat.le_of_ble_eq_true rfl, Nat.le_of_ble_eq_true rfl⟩) (fun r_1 h_2 => ?_)
  rcases h_2 with ⟨rfl, h_3⟩ | ⟨rfl, h_3⟩
  · exact endR hx hb hr hlocks rfl (Or.inl (⟨rfl, sz_in rfl (by omega) h_3⟩)) (g_172 bX6_isOne rfl)
  · exact endR hx hb hr hlocks rfl (Or.inr (⟨rfl, sz_no (by omega) h_3⟩)) (g_172 bX6_isOne rfl)
set_option maxHeartbeats 4000000 in
set_option maxRecDepth 100000 in
theorem c_X6_isThere (l : Launch) (G : va_G) (cy : Nat → ClassId) (qm : Nat) (v0 : Value) (v1 : Value) (v2 : Value) (v3 : Value) (v4 : Value) (v5 : Value) (v6 : Value) (v7 : Value) (v8 : Value) (v9 : Value) (tA : TA) (qmB : Nat) (qmO : Nat) (qmK : Nat) (iEn : Int32) (iTk : Int32) (v18 : Value) (v19 : Value) (v20 : Value) (v21 : Value) (v22 : Value) (v23 : Value) (v24 : Value) (v25 : Value) (v26 : Value) (iLv : Int32) (iWs : Int32) (v29 : Value) (v30 : Value) (v31 : Value) (v32 : Value) (v33 : Value) (v34 : Value) (rO : Nat → Nat) (kI : Nat)  (hI : kI < 8) : MR l yX6_isThere cX6_isThere 2 (some .boolean) 1 G cy [zzO qm 5 (v0 :: v1 :: v2 :: v3 :: v4 :: v5 :: v6 :: v7 :: v8 :: v9 :: .int (nI (T_nb tA)) :: .ref qmB :: .int (nI (T_np tA)) :: .ref qmO :: .ref qmK :: .int iEn :: .int iTk :: .int (T_sd tA) :: v18 :: v19 :: v20 :: v21 :: v22 :: v23 :: v24 :: v25 :: v26 :: .int iLv :: .int iWs :: v29 :: v30 :: v31 :: v32 :: v33 :: v34 :: []), zzG cy 3 qmO rO, zzI cy (rO 0) 5 (onR tA 0), zzI cy (rO 1) 5 (onR tA 1), zzI cy (rO 2) 5 (onR tA 2), zzI cy (rO 3) 5 (onR tA 3), zzI cy (rO 4) 5 (onR tA 4), zzI cy (rO 5) 5 (onR tA 5), zzI cy (rO 6) 5 (onR tA 6), zzI cy (rO 7) 5 (onR tA 7)] [.ref qm, .int (nI kI)] (vp_Si (fun r => (r = 1 ∧ T_gn tA kI = false) ∨ (r = 0 ∧ T_gn tA kI = true))) := by
  refine enR RX6 (by decide +kernel) rfl (Nat.le_of_ble_eq_true rfl) (fun p e s m below meth c ls hx hb hml hown hts hr hlocks hP hN hl => ?_)
  have hK := hN.1
  replace hl : lv_has ls 2 [(0, .ref qm), (1, .int (nI kI))] := hl
  refine lv_aload_n hx hb (g_42 bX6_isThere rfl) rfl (lv_at hl 0 rfl) ?_
  refine va_get (D := G) (ci := 5) (v := .ref qmO) (C := RX6) (T := TX6) (N := 35) hx hb hts iX_X6 hown hK hP 0 rfl rfl 13 (by decide +kernel) (hts _ m_t863) (fun _ h9 => h9) rfl (g_180 (v := 45) bX6_isThere rfl) ?_
  refine lv_iload_n hx hb (g_27 bX6_isThere rfl) rfl (lv_at hl 1 rfl) ?_
  refine va_alda hx hb hK hP 1 3 rfl rfl (in8 (by omega)) (g_50 bX6_isThere rfl) ?_
  refine lv_setv (v := .ref (rO kI)) (g_ref (by omega)) ?_
  refine lv_iconst (v := 4) hx hb (g_7 bX6_isThere rfl) (by decide +kernel) ?_
  refine va_iald hx hb hK hP (2 + kI) 0 (sg8 (n0 := 2) (f := (fun j => zzI cy (rO j) 5 (onR tA j))) rfl rfl rfl rfl rfl rfl rfl rfl kI (by omega)) rfl (in_c rfl) (g_46 bX6_isThere rfl) ?_
  refine lv_seti (v := b01 (T_gn tA kI)) (on_4 _ _) ?_
  refine lv_if_ne (tgt := 15) hx hb dX6_isThere_8 (by decide +kernel) (fun c_1 => ?_) (fun c_1 => ?_)
  · refine lv_iconst (v := 0) hx hb (g_3 bX6_isThere rfl) (by decide +kernel) ?_
    exact endR hx hb hr hlocks rfl (Or.inr (⟨rfl, b01_n0 c_1⟩)) (g_172 bX6_isThere rfl)
  · refine lv_iconst (v := 1) hx hb (g_4 bX6_isThere rfl) (by decide +kernel) ?_
    refine lv_goto (tgt := 16) hx hb dX6_isThere_12 (by decide +kernel) ?_
    exact endR hx hb hr hlocks rfl (Or.inl (⟨rfl, b01_0 c_1⟩)) (g_172 bX6_isThere rfl)
set_option maxHeartbeats 4000000 in
set_option maxRecDepth 100000 in
theorem c_X6_isWhite (l : Launch) (G : va_G) (cy : Nat → ClassId) (qm : Nat) (v0 : Value) (v1 : Value) (v2 : Value) (v3 : Value) (v4 : Value) (v5 : Value) (v6 : Value) (v7 : Value) (v8 : Value) (v9 : Value) (tA : TA) (qmB : Nat) (qmO : Nat) (qmK : Nat) (iEn : Int32) (iTk : Int32) (v18 : Value) (v19 : Value) (v20 : Value) (v21 : Value) (v22 : Value) (v23 : Value) (v24 : Value) (v25 : Value) (v26 : Value) (iLv : Int32) (iWs : Int32) (v29 : Value) (v30 : Value) (v31 : Value) (v32 : Value) (v33 : Value) (v34 : Value) (rB : Nat → Nat) (kB : Nat)  (hJ : kB < 8) : MR l yX6_isWhite cX6_isWhite 2 (some .boolean) 1 G cy [zzO qm 5 (v0 :: v1 :: v2 :: v3 :: v4 :: v5 :: v6 :: v7 :: v8 :: v9 :: .int (nI (T_nb tA)) :: .ref qmB :: .int (nI (T_np tA)) :: .ref qmO :: .ref qmK :: .int iEn :: .int iTk :: .int (T_sd tA) :: v18 :: v19 :: v20 :: v21 :: v22 :: v23 :: v24 :: v25 :: v26 :: .int iLv :: .int iWs :: v29 :: v30 :: v31 :: v32 :: v33 :: v34 :: []), zzG cy 3 qmB rB, zzI cy (rB 0) 4 (bkR tA 0), zzI cy (rB 1) 4 (bkR tA 1), zzI cy (rB 2) 4 (bkR tA 2), zzI cy (rB 3) 4 (bkR tA 3), zzI cy (rB 4) 4 (bkR tA 4), zzI cy (rB 5) 4 (bkR tA 5), zzI cy (rB 6) 4 (bkR tA 6), zzI cy (rB 7) 4 (bkR tA 7)] [.ref qm, .int (nI kB)] (vp_Si (fun r => (r = 1 ∧ T_wh tA kB = true) ∨ (r = 0 ∧ T_wh tA kB = false))) := by
  refine enR RX6 (by decide +kernel) rfl (Nat.le_of_ble_eq_true rfl) (fun p e s m below meth c ls hx hb hml hown hts hr hlocks hP hN hl => ?_)
  have hK := hN.1
  replace hl : lv_has ls 2 [(0, .ref qm), (1, .int (nI kB))] := hl
  refine lv_aload_n hx hb (g_42 bX6_isWhite rfl) rfl (lv_at hl 0 rfl) ?_
  refine va_get (D := G) (ci := 5) (v := .ref qmB) (C := RX6) (T := TX6) (N := 35) hx hb hts iX_X6 hown hK hP 0 rfl rfl 11 (by decide +kernel) (hts _ m_t861) (fun _ h9 => h9) rfl (g_180 (v := 42) bX6_isWhite rfl) ?_
  refine lv_iload_n hx hb (g_27 bX6_isWhite rfl) rfl (lv_at hl 1 rfl) ?_
  refine va_alda hx hb hK hP 1 3 rfl rfl (in8 (by omega)) (g_50 bX6_isWhite rfl) ?_
  refine lv_setv (v := .ref (rB kB)) (g_ref (by omega)) ?_
  refine lv_iconst (v := 3) hx hb (g_6 bX6_isWhite rfl) (by decide +kernel) ?_
  refine va_iald hx hb hK hP (2 + kB) 0 (sg8 (n0 := 2) (f := (fun j => zzI cy (rB j) 4 (bkR tA j))) rfl rfl rfl rfl rfl rfl rfl rfl kB (by omega)) rfl (in_c rfl) (g_46 bX6_isWhite rfl) ?_
  refine lv_seti (v := b01 (T_wh tA kB)) (bk_3 _ _) ?_
  refine lv_iconst (v := 1) hx hb (g_4 bX6_isWhite rfl) (by decide +kernel) ?_
  refine lv_icmp_ne (tgt := 16) hx hb dX6_isWhite_9 (by decide +kernel) (fun c_1 => ?_) (fun c_1 => ?_)
  · refine lv_iconst (v := 0) hx hb (g_3 bX6_isWhite rfl) (by decide +kernel) ?_
    exact endR hx hb hr hlocks rfl (Or.inr (⟨rfl, b01_n1 c_1⟩)) (g_172 bX6_isWhite rfl)
  · refine lv_iconst (v := 1) hx hb (g_4 bX6_isWhite rfl) (by decide +kernel) ?_
    refine lv_goto (tgt := 17) hx hb dX6_isWhite_13 (by decide +kernel) ?_
    exact endR hx hb hr hlocks rfl (Or.inl (⟨rfl, b01_1 c_1⟩)) (g_172 bX6_isWhite rfl)
set_option maxHeartbeats 4000000 in
set_option maxRecDepth 100000 in
theorem c_X6_thereMany (l : Launch) (G : va_G) (cy : Nat → ClassId) (qm : Nat) (v0 : Value) (v1 : Value) (v2 : Value) (v3 : Value) (v4 : Value) (v5 : Value) (v6 : Value) (v7 : Value) (v8 : Value) (v9 : Value) (tA : TA) (qmB : Nat) (qmO : Nat) (qmK : Nat) (iEn : Int32) (iTk : Int32) (v18 : Value) (v19 : Value) (v20 : Value) (v21 : Value) (v22 : Value) (v23 : Value) (v24 : Value) (v25 : Value) (v26 : Value) (iLv : Int32) (iWs : Int32) (v29 : Value) (v30 : Value) (v31 : Value) (v32 : Value) (v33 : Value) (v34 : Value) (rO : Nat → Nat)  (hPp : T_np tA ≤ 8) : MR l yX6_thereMany cX6_thereMany 3 (some .int) 2 G cy [zzO qm 5 (v0 :: v1 :: v2 :: v3 :: v4 :: v5 :: v6 :: v7 :: v8 :: v9 :: .int (nI (T_nb tA)) :: .ref qmB :: .int (nI (T_np tA)) :: .ref qmO :: .ref qmK :: .int iEn :: .int iTk :: .int (T_sd tA) :: v18 :: v19 :: v20 :: v21 :: v22 :: v23 :: v24 :: v25 :: v26 :: .int iLv :: .int iWs :: v29 :: v30 :: v31 :: v32 :: v33 :: v34 :: []), zzG cy 3 qmO rO, zzI cy (rO 0) 5 (onR tA 0), zzI cy (rO 1) 5 (onR tA 1), zzI cy (rO 2) 5 (onR tA 2), zzI cy (rO 3) 5 (onR tA 3), zzI cy (rO 4) 5 (onR tA 4), zzI cy (rO 5) 5 (onR tA 5), zzI cy (rO 6) 5 (onR tA 6), zzI cy (rO 7) 5 (onR tA 7)] [.ref qm] (vp_Si (fun r => (r = (nI (tmF tA (T_np tA)))))) := by
  refine enR RX6 (by decide +kernel) rfl (Nat.le_of_ble_eq_true rfl) (fun p e s m below meth c ls hx hb hml hown hts hr hlocks hP hN hl => ?_)
  have hK := hN.1
  replace hl : lv_has ls 3 [(0, .ref qm)] := hl
  refine lv_iconst (v := 0) hx hb (g_3 bX6_thereMany rfl) (by decide +kernel) ?_
  refine lv_istore_n (lv' := [(1, .int 0), (0, .ref qm)]) hx hb (g_60 bX6_thereMany rfl) rfl hl (by decide +kernel) rfl (fun ls => ?_)
  clear hl
  intro hl
  refine lv_iconst (v := 0) hx hb (g_3 bX6_thereMany rfl) (by decide +kernel) ?_
  refine lv_istore_n (lv' := [(2, .int 0), (1, .int 0), (0, .ref qm)]) hx hb (g_61 bX6_thereMany rfl) rfl hl (by decide +kernel) rfl (fun ls => ?_)
  clear hl
  intro hl
  have lp_1 : ∀ (n_2 : Nat) (j_4 : Nat) (xC_5 : Int32), 8 - j_4 < n_2 → j_4 ≤ T_np tA → xC_5 = nI (tmF tA j_4) → ∀ (ls : Array Slot), lv_has ls 3 [(2, .int (nI j_4)), (1, .int xC_5), (0, .ref qm)] → W p l e (Rm 2 0 0) s m (List.toArray (α := Value) [.ref qm]) below meth c s.heap [] 0 0 (MQ below (vp_Si (fun r => (r = (nI (tmF tA (T_np tA)))))) (List.toArray (α := Value) [.ref qm]) s 0 0 (fun _ => False)) (F0 m 4 ls []) := by
    intro n_2
    induction n_2 with
    | zero => intro j_4 xC_5 hm9; exact absurd hm9 (Nat.not_lt_zero _)
    | succ n_2 ih_3 =>
      intro j_4 xC_5 hm_8 hj_6 hxC_7 ls hl
      refine lv_iload_n hx hb (g_28 bX6_thereMany rfl) rfl (lv_at hl 0 rfl) ?_
      refine lv_aload_n hx hb (g_42 bX6_thereMany rfl) rfl (lv_at hl 2 rfl) ?_
      refine va_get (D := G) (ci := 5) (v := .int (nI (T_np tA))) (C := RX6) (T := TX6) (N := 35) hx hb hts iX_X6 hown hK hP 0 rfl rfl 12 (by decide +kernel) (hts _ m_t862) (fun _ h9 => h9) rfl (g_180 (v := 78) bX6_thereMany rfl) ?_
      refine lv_icmp_ge (tgt := 34) hx hb dX6_thereMany_9 (by decide +kernel) (fun c_9 => ?_) (fun c_9 => ?_)
      · have hlt_10 : j_4 = T_np tA := Nat.le_antisymm (by omega) (lp_ge rfl rfl (by omega) (by omega) c_9)
        refine lv_iload_n hx hb (g_27 bX6_thereMany rfl) rfl (lv_at hl 1 rfl) ?_
        exact endR hx hb hr hlocks rfl (by rw [hxC_7, hlt_10]) (g_172 bX6_thereMany rfl)
      · have hlt_11 : j_4 < T_np tA := lp_lt rfl rfl (by omega) (by omega) c_9
        refine lv_iload_n hx hb (g_27 bX6_thereMany rfl) rfl (lv_at hl 1 rfl) ?_
        refine lv_aload_n hx hb (g_42 bX6_thereMany rfl) rfl (lv_at hl 2 rfl) ?_
        refine lv_iload_n hx hb (g_28 bX6_thereMany rfl) rfl (lv_at hl 0 rfl) ?_
        refine kRi (rV (As := [.int (nI j_4)]) (rest := [.int xC_5]) (b := qm) ⟨hx, hb, hml, hown, hts⟩ (c_X6_isThere l G cy qm v0 v1 v2 v3 v4 v5 v6 v7 v8 v9 tA qmB qmO qmK iEn iTk v18 v19 v20 v21 v22 v23 v24 v25 v26 iLv iWs v29 v30 v31 v32 v33 v34 rO j_4 (by first | omega | (simp only [nb_sr, np_sr, nb_wr, np_wr, nb_rd, np_rd, nb_ch, np_ch, nb_zr, np_zr, nb_za, np_za, nb_ey, np_ey, nb_hf, np_hf, nb_dd, np_dd, nb_so, np_so, nb_skn, np_skn, nb_swh, np_swh, nb_sgn, np_sgn, nb_ssd, np_ssd, nb_sgo, np_sgo, nb_sag, np_sag]; omega))) L_X6_81 (preRV (q := (RX6, TX6, 35)) hN hP (trueIx 0 [true, true, true, true, true, true, true, true, true, true]) (sel_fm rfl rfl) 0 5 rfl rfl) rfl ⟨Nat.le_of_ble_eq_true rfl, Nat.le_of_ble_eq_true rfl⟩ hl.1 (Nat.le_of_ble_eq_true rfl) (g_182 (v := 81) bX6_thereMany rfl) ⟨Nat.le_of_ble_eq_true rfl, Nat.le_of_ble_eq_true rfl⟩) (fun r_12 h_13 => ?_)
        rcases h_13 with ⟨rfl, h_14⟩ | ⟨rfl, h_14⟩
        · refine lv_if_eq (tgt := 25) hx hb dX6_thereMany_18 (by decide +kernel) (fun h9 => absurd h9 (by decide +kernel)) (fun _ => ?_)
          refine lv_iconst (v := 1) hx hb (g_4 bX6_thereMany rfl) (by decide +kernel) ?_
          refine lv_goto (tgt := 26) hx hb dX6_thereMany_22 (by decide +kernel) ?_
          refine lv_iadd hx hb (g_96 bX6_thereMany rfl) ?_
          refine lv_istore_n (lv' := [(1, .int (xC_5 + 1)), (2, .int (nI j_4)), (0, .ref qm)]) hx hb (g_60 bX6_thereMany rfl) rfl hl (by decide +kernel) rfl (fun ls => ?_)
          clear hl
          intro hl
          refine lv_iinc (v := nI (j_4 + 1)) (lv' := [(2, .int (nI (j_4 + 1))), (1, .int (xC_5 + 1)), (0, .ref qm)]) hx hb dX6_thereMany_28 hl (k := 1) rfl (nI_1 _) (by decide +kernel) rfl (fun ls => ?_)
          clear hl
          intro hl
          refine lv_goto (tgt := 4) hx hb dX6_thereMany_31 (by decide +kernel) ?_
          exact ih_3 (j_4 + 1) (xC_5 + 1) (by omega) (by omega) (by rw [hxC_7, tm_y h_14]; exact nI_add _ 1) _ (lv_sub hl [0, 1, 2] rfl)
        · refine lv_if_eq (tgt := 25) hx hb dX6_thereMany_18 (by decide +kernel) (fun _ => ?_) (fun h9 => absurd (by decide +kernel) h9)
          refine lv_iconst (v := 0) hx hb (g_3 bX6_thereMany rfl) (by decide +kernel) ?_
          refine lv_iadd hx hb (g_96 bX6_thereMany rfl) ?_
          refine lv_istore_n (lv' := [(1, .int (xC_5 + 0)), (2, .int (nI j_4)), (0, .ref qm)]) hx hb (g_60 bX6_thereMany rfl) rfl hl (by decide +kernel) rfl (fun ls => ?_)
          clear hl
          intro hl
          refine lv_iinc (v := nI (j_4 + 1)) (lv' := [(2, .int (nI (j_4 + 1))), (1, .int (xC_5 + 0)), (0, .ref qm)]) hx hb dX6_thereMany_28 hl (k := 1) rfl (nI_1 _) (by decide +kernel) rfl (fun ls => ?_)
          clear hl
          intro hl
          refine lv_goto (tgt := 4) hx hb dX6_thereMany_31 (by decide +kernel) ?_
          exact ih_3 (j_4 + 1) (xC_5 + 0) (by omega) (by omega) (by rw [hxC_7, tm_n h_14]; exact nI_add _ 0) _ (lv_sub hl [0, 1, 2] rfl)
  exact lp_1 ((8 - 0) + 1) 0 0 (Nat.lt_succ_self _) (Nat.zero_le _) rfl ls (lv_sub hl [0, 1, 2] rfl)
set_option maxHeartbeats 4000000 in
set_option maxRecDepth 100000 in
theorem c_X6_whiteMany (l : Launch) (G : va_G) (cy : Nat → ClassId) (qm : Nat) (v0 : Value) (v1 : Value) (v2 : Value) (v3 : Value) (v4 : Value) (v5 : Value) (v6 : Value) (v7 : Value) (v8 : Value) (v9 : Value) (tA : TA) (qmB : Nat) (qmO : Nat) (qmK : Nat) (iEn : Int32) (iTk : Int32) (v18 : Value) (v19 : Value) (v20 : Value) (v21 : Value) (v22 : Value) (v23 : Value) (v24 : Value) (v25 : Value) (v26 : Value) (iLv : Int32) (iWs : Int32) (v29 : Value) (v30 : Value) (v31 : Value) (v32 : Value) (v33 : Value) (v34 : Value) (rB : Nat → Nat)  (hB : T_nb tA ≤ 8) : MR l yX6_whiteMany cX6_whiteMany 3 (some .int) 1 G cy [zzO qm 5 (v0 :: v1 :: v2 :: v3 :: v4 :: v5 :: v6 :: v7 :: v8 :: v9 :: .int (nI (T_nb tA)) :: .ref qmB :: .int (nI (T_np tA)) :: .ref qmO :: .ref qmK :: .int iEn :: .int iTk :: .int (T_sd tA) :: v18 :: v19 :: v20 :: v21 :: v22 :: v23 :: v24 :: v25 :: v26 :: .int iLv :: .int iWs :: v29 :: v30 :: v31 :: v32 :: v33 :: v34 :: []), zzG cy 3 qmB rB, zzI cy (rB 0) 4 (bkR tA 0), zzI cy (rB 1) 4 (bkR tA 1), zzI cy (rB 2) 4 (bkR tA 2), zzI cy (rB 3) 4 (bkR tA 3), zzI cy (rB 4) 4 (bkR tA 4), zzI cy (rB 5) 4 (bkR tA 5), zzI cy (rB 6) 4 (bkR tA 6), zzI cy (rB 7) 4 (bkR tA 7)] [.ref qm] (vp_Si (fun r => (r = (wsum (fun b => b01 (T_wh tA b)) (T_nb tA))))) := by
  refine enR RX6 (by decide +kernel) rfl (Nat.le_of_ble_eq_true rfl) (fun p e s m below meth c ls hx hb hml hown hts hr hlocks hP hN hl => ?_)
  have hK := hN.1
  replace hl : lv_has ls 3 [(0, .ref qm)] := hl
  refine lv_iconst (v := 0) hx hb (g_3 bX6_whiteMany rfl) (by decide +kernel) ?_
  refine lv_istore_n (lv' := [(1, .int 0), (0, .ref qm)]) hx hb (g_60 bX6_whiteMany rfl) rfl hl (by decide +kernel) rfl (fun ls => ?_)
  clear hl
  intro hl
  refine lv_iconst (v := 0) hx hb (g_3 bX6_whiteMany rfl) (by decide +kernel) ?_
  refine lv_istore_n (lv' := [(2, .int 0), (1, .int 0), (0, .ref qm)]) hx hb (g_61 bX6_whiteMany rfl) rfl hl (by decide +kernel) rfl (fun ls => ?_)
  clear hl
  intro hl
  have lp_1 : ∀ (n_2 : Nat) (j_4 : Nat) (xC_5 : Int32), 8 - j_4 < n_2 → j_4 ≤ T_nb tA → xC_5 = wsum (fun b => b01 (T_wh tA b)) j_4 → ∀ (ls : Array Slot), lv_has ls 3 [(2, .int (nI j_4)), (1, .int xC_5), (0, .ref qm)] → W p l e (Rm 1 0 0) s m (List.toArray (α := Value) [.ref qm]) below meth c s.heap [] 0 0 (MQ below (vp_Si (fun r => (r = (wsum (fun b => b01 (T_wh tA b)) (T_nb tA))))) (List.toArray (α := Value) [.ref qm]) s 0 0 (fun _ => False)) (F0 m 4 ls []) := by
    intro n_2
    induction n_2 with
    | zero => intro j_4 xC_5 hm9; exact absurd hm9 (Nat.not_lt_zero _)
    | succ n_2 ih_3 =>
      intro j_4 xC_5 hm_8 hj_6 hxC_7 ls hl
      refine lv_iload_n hx hb (g_28 bX6_whiteMany rfl) rfl (lv_at hl 0 rfl) ?_
      refine lv_aload_n hx hb (g_42 bX6_whiteMany rfl) rfl (lv_at hl 2 rfl) ?_
      refine va_get (D := G) (ci := 5) (v := .int (nI (T_nb tA))) (C := RX6) (T := TX6) (N := 35) hx hb hts iX_X6 hown hK hP 0 rfl rfl 10 (by decide +kernel) (hts _ m_t860) (fun _ h9 => h9) rfl (g_180 (v := 71) bX6_whiteMany rfl) ?_
      refine lv_icmp_ge (tgt := 29) hx hb dX6_whiteMany_9 (by decide +kernel) (fun c_9 => ?_) (fun c_9 => ?_)
      · have hlt_10 : j_4 = T_nb tA := Nat.le_antisymm (by omega) (lp_ge rfl rfl (by omega) (by omega) c_9)
        refine lv_iload_n hx hb (g_27 bX6_whiteMany rfl) rfl (lv_at hl 1 rfl) ?_
        exact endR hx hb hr hlocks rfl (by rw [hxC_7, hlt_10]) (g_172 bX6_whiteMany rfl)
      · have hlt_11 : j_4 < T_nb tA := lp_lt rfl rfl (by omega) (by omega) c_9
        refine lv_iload_n hx hb (g_27 bX6_whiteMany rfl) rfl (lv_at hl 1 rfl) ?_
        refine lv_aload_n hx hb (g_42 bX6_whiteMany rfl) rfl (lv_at hl 2 rfl) ?_
        refine va_get (D := G) (ci := 5) (v := .ref qmB) (C := RX6) (T := TX6) (N := 35) hx hb hts iX_X6 hown hK hP 0 rfl rfl 11 (by decide +kernel) (hts _ m_t861) (fun _ h9 => h9) rfl (g_180 (v := 42) bX6_whiteMany rfl) ?_
        refine lv_iload_n hx hb (g_28 bX6_whiteMany rfl) rfl (lv_at hl 0 rfl) ?_
        refine va_alda hx hb hK hP 1 3 rfl rfl (in8 (by omega)) (g_50 bX6_whiteMany rfl) ?_
        refine lv_setv (v := .ref (rB j_4)) (g_ref (by omega)) ?_
        refine lv_iconst (v := 3) hx hb (g_6 bX6_whiteMany rfl) (by decide +kernel) ?_
        refine va_iald hx hb hK hP (2 + j_4) 0 (sg8 (n0 := 2) (f := (fun j => zzI cy (rB j) 4 (bkR tA j))) rfl rfl rfl rfl rfl rfl rfl rfl j_4 (by omega)) rfl (in_c rfl) (g_46 bX6_whiteMany rfl) ?_
        refine lv_seti (v := b01 (T_wh tA j_4)) (bk_3 _ _) ?_
        refine lv_iadd hx hb (g_96 bX6_whiteMany rfl) ?_
        refine lv_istore_n (lv' := [(1, .int (xC_5 + (b01 (T_wh tA j_4)))), (2, .int (nI j_4)), (0, .ref qm)]) hx hb (g_60 bX6_whiteMany rfl) rfl hl (by decide +kernel) rfl (fun ls => ?_)
        clear hl
        intro hl
        refine lv_iinc (v := nI (j_4 + 1)) (lv' := [(2, .int (nI (j_4 + 1))), (1, .int (xC_5 + (b01 (T_wh tA j_4)))), (0, .ref qm)]) hx hb dX6_whiteMany_23 hl (k := 1) rfl (nI_1 _) (by decide +kernel) rfl (fun ls => ?_)
        clear hl
        intro hl
        refine lv_goto (tgt := 4) hx hb dX6_whiteMany_26 (by decide +kernel) ?_
        exact ih_3 (j_4 + 1) (xC_5 + (b01 (T_wh tA j_4))) (by omega) (by omega) (by rw [hxC_7]; rfl) _ (lv_sub hl [0, 1, 2] rfl)
  exact lp_1 ((8 - 0) + 1) 0 0 (Nat.lt_succ_self _) (Nat.zero_le _) rfl ls (lv_sub hl [0, 1, 2] rfl)
set_option maxHeartbeats 4000000 in
set_option maxRecDepth 100000 in
theorem c_X6_bits (l : Launch) (G : va_G) (cy : Nat → ClassId) (iS : Int32)   : MR l yX6_bits cX6_bits 3 (some .int) 1 G cy [] [.int iS] (vp_Si (fun r => True)) := by
  refine enR RX6 (by decide +kernel) rfl (Nat.le_of_ble_eq_true rfl) (fun p e s m below meth c ls hx hb hml hown hts hr hlocks hP hN hl => ?_)
  have hK := hN.1
  replace hl : lv_has ls 3 [(0, .int iS)] := hl
  refine lv_iconst (v := 0) hx hb (g_3 bX6_bits rfl) (by decide +kernel) ?_
  refine lv_istore_n (lv' := [(1, .int 0), (0, .int iS)]) hx hb (g_60 bX6_bits rfl) rfl hl (by decide +kernel) rfl (fun ls => ?_)
  clear hl
  intro hl
  refine lv_iconst (v := 0) hx hb (g_3 bX6_bits rfl) (by decide +kernel) ?_
  refine lv_istore_n (lv' := [(2, .int 0), (1, .int 0), (0, .int iS)]) hx hb (g_61 bX6_bits rfl) rfl hl (by decide +kernel) rfl (fun ls => ?_)
  clear hl
  intro hl
  have lp_1 : ∀ (n_2 : Nat) (j_4 : Nat) (xC_5 : Int32), 8 - j_4 < n_2 → j_4 ≤ 8 → ∀ (ls : Array Slot), lv_has ls 3 [(2, .int (nI j_4)), (1, .int xC_5), (0, .int iS)] → W p l e (Rm 1 0 0) s m (List.toArray (α := Value) [.int iS]) below meth c s.heap [] 0 0 (MQ below (vp_Si (fun r => True)) (List.toArray (α := Value) [.int iS]) s 0 0 (fun _ => False)) (F0 m 4 ls []) := by
    intro n_2
    induction n_2 with
    | zero => intro j_4 xC_5 hm9; exact absurd hm9 (Nat.not_lt_zero _)
    | succ n_2 ih_3 =>
      intro j_4 xC_5 hm_7 hj_6 ls hl
      refine lv_iload_n hx hb (g_28 bX6_bits rfl) rfl (lv_at hl 0 rfl) ?_
      refine lv_bipush (v := 8) hx hb dX6_bits_5 (by decide +kernel) ?_
      refine lv_icmp_ge (tgt := 24) hx hb dX6_bits_7 (by decide +kernel) (fun c_8 => ?_) (fun c_8 => ?_)
      · have hlt_9 : j_4 = 8 := Nat.le_antisymm (by omega) (lp_ge rfl (rfl : (8 : Int32) = nI 8) (by omega) (by omega) c_8)
        refine lv_iload_n hx hb (g_27 bX6_bits rfl) rfl (lv_at hl 1 rfl) ?_
        exact endR hx hb hr hlocks rfl trivial (g_172 bX6_bits rfl)
      · have hlt_10 : j_4 < 8 := lp_lt rfl (rfl : (8 : Int32) = nI 8) (by omega) (by omega) c_8
        refine lv_iload_n hx hb (g_27 bX6_bits rfl) rfl (lv_at hl 1 rfl) ?_
        refine lv_iload_n hx hb (g_26 bX6_bits rfl) rfl (lv_at hl 2 rfl) ?_
        refine lv_iload_n hx hb (g_28 bX6_bits rfl) rfl (lv_at hl 0 rfl) ?_
        refine lv_ishr hx hb (g_122 bX6_bits rfl) ?_
        refine lv_iconst (v := 1) hx hb (g_4 bX6_bits rfl) (by decide +kernel) ?_
        refine lv_iand hx hb (g_126 bX6_bits rfl) ?_
        refine lv_iadd hx hb (g_96 bX6_bits rfl) ?_
        refine lv_istore_n (lv' := [(1, .int (xC_5 + ((iS >>> ((nI j_4) &&& 31)) &&& 1))), (2, .int (nI j_4)), (0, .int iS)]) hx hb (g_60 bX6_bits rfl) rfl hl (by decide +kernel) rfl (fun ls => ?_)
        clear hl
        intro hl
        refine lv_iinc (v := nI (j_4 + 1)) (lv' := [(2, .int (nI (j_4 + 1))), (1, .int (xC_5 + ((iS >>> ((nI j_4) &&& 31)) &&& 1))), (0, .int iS)]) hx hb dX6_bits_18 hl (k := 1) rfl (nI_1 _) (by decide +kernel) rfl (fun ls => ?_)
        clear hl
        intro hl
        refine lv_goto (tgt := 4) hx hb dX6_bits_21 (by decide +kernel) ?_
        exact ih_3 (j_4 + 1) (xC_5 + ((iS >>> ((nI j_4) &&& 31)) &&& 1)) (by omega) (by omega) _ (lv_sub hl [0, 1, 2] rfl)
  exact lp_1 ((8 - 0) + 1) 0 0 (Nat.lt_succ_self _) (Nat.zero_le _) ls (lv_sub hl [0, 1, 2] rfl)
set_option maxHeartbeats 4000000 in
set_option maxRecDepth 100000 in
theorem c_X6_refuse2 (l : Launch) (G : va_G) (cy : Nat → ClassId) (sz : Nat) (qm : Nat) (v0 : Value) (v1 : Value) (v2 : Value) (v3 : Value) (v4 : Value) (v5 : Value) (v6 : Value) (v7 : Value) (v8 : Value) (qmr : Nat) (tA : TA) (qmB : Nat) (qmO : Nat) (qmK : Nat) (iEn : Int32) (iTk : Int32) (v18 : Value) (v19 : Value) (v20 : Value) (v21 : Value) (v22 : Value) (v23 : Value) (v24 : Value) (v25 : Value) (v26 : Value) (iLv : Int32) (iWs : Int32) (v29 : Value) (v30 : Value) (v31 : Value) (v32 : Value) (v33 : Value) (v34 : Value) (fR : Nat → Int32)   : MW l yX6_refuse cX6_refuse 2 (some .int) 1 0 0 G cy [zzO qm 5 (v0 :: v1 :: v2 :: v3 :: v4 :: v5 :: v6 :: v7 :: v8 :: .ref qmr :: .int (nI (T_nb tA)) :: .ref qmB :: .int (nI (T_np tA)) :: .ref qmO :: .ref qmK :: .int iEn :: .int iTk :: .int (T_sd tA) :: v18 :: v19 :: v20 :: v21 :: v22 :: v23 :: v24 :: v25 :: v26 :: .int iLv :: .int iWs :: v29 :: v30 :: v31 :: v32 :: v33 :: v34 :: []), zzI cy qmr 8 fR] sz [.ref qm, .int (-2)] (Wi G (fun r u => ∃ (fX : Nat → Int32), u = [zzO qm 5 (v0 :: v1 :: v2 :: v3 :: v4 :: v5 :: v6 :: v7 :: v8 :: .ref qmr :: .int (nI (T_nb tA)) :: .ref qmB :: .int (nI (T_np tA)) :: .ref qmO :: .ref qmK :: .int iEn :: .int iTk :: .int (T_sd tA) :: v18 :: v19 :: v20 :: v21 :: v22 :: v23 :: v24 :: v25 :: v26 :: .int iLv :: .int iWs :: v29 :: v30 :: v31 :: v32 :: v33 :: v34 :: []), zzI cy qmr 8 fX] ∧ ((r = (-2))))) := by
  refine enW RX6 (by decide +kernel) rfl (Nat.le_of_ble_eq_true rfl) (fun p e s m below meth c ls A hx hb hml hown hts hr hlocks hP hN hl hin hD hA hS => ?_)
  have hin : meth.name = _ := hin
  have hK := hN.1
  replace hl : lv_has ls 2 [(0, .ref qm), (1, .int (-2))] := hl
  refine lv_aload_n hx hb (g_42 bX6_refuse rfl) rfl (lv_at hl 0 rfl) ?_
  refine va_get (D := G) (ci := 5) (v := .ref qmr) (C := RX6) (T := TX6) (N := 35) hx hb hts iX_X6 hown hK hP 0 rfl rfl 9 (by decide +kernel) (hts _ m_t859) (fun _ h9 => h9) rfl (g_180 (v := 37) bX6_refuse rfl) ?_
  refine lv_iload_n hx hb (g_27 bX6_refuse rfl) rfl (lv_at hl 1 rfl) ?_
  refine lv_ineg hx hb (g_116 bX6_refuse rfl) ?_
  refine lv_seti (v := 2) (by decide +kernel) ?_
  refine lv_dup2_11 hx hb (g_92 bX6_refuse rfl) rfl rfl ?_
  refine va_iald hx hb hK hP 1 0 rfl rfl (in_c rfl) (g_46 bX6_refuse rfl) ?_
  refine lv_seti (v := fR 2) (congrArg fR (by decide +kernel)) ?_
  refine lv_iconst (v := 1) hx hb (g_4 bX6_refuse rfl) (by decide +kernel) ?_
  refine lv_iadd hx hb (g_96 bX6_refuse rfl) ?_
  refine va_iast hx hb hK hP hD hS 1 0 rfl rfl (in_c rfl) (g_79 bX6_refuse rfl) (fun H locs => ?_)
  clear hP hD hS
  intro hP hD hS
  have hPD := pd_as [_, zzI cy qmr 8 (upd fR 2 ((fR 2) + 1))] hP hD rfl
  clear hP hD
  obtain ⟨hP, hD⟩ := hPD
  refine lv_iload_n hx hb (g_27 bX6_refuse rfl) rfl (lv_at hl 1 rfl) ?_
  exact endWs [[true, true]] hx hb hr hlocks rfl hP hD rfl (by decide +kernel) hS ⟨upd fR 2 ((fR 2) + 1), rfl, rfl⟩ (g_172 bX6_refuse rfl)
set_option maxHeartbeats 4000000 in
set_option maxRecDepth 100000 in
theorem c_X6_refuse3 (l : Launch) (G : va_G) (cy : Nat → ClassId) (sz : Nat) (qm : Nat) (v0 : Value) (v1 : Value) (v2 : Value) (v3 : Value) (v4 : Value) (v5 : Value) (v6 : Value) (v7 : Value) (v8 : Value) (qmr : Nat) (tA : TA) (qmB : Nat) (qmO : Nat) (qmK : Nat) (iEn : Int32) (iTk : Int32) (v18 : Value) (v19 : Value) (v20 : Value) (v21 : Value) (v22 : Value) (v23 : Value) (v24 : Value) (v25 : Value) (v26 : Value) (iLv : Int32) (iWs : Int32) (v29 : Value) (v30 : Value) (v31 : Value) (v32 : Value) (v33 : Value) (v34 : Value) (fR : Nat → Int32)   : MW l yX6_refuse cX6_refuse 2 (some .int) 1 0 0 G cy [zzO qm 5 (v0 :: v1 :: v2 :: v3 :: v4 :: v5 :: v6 :: v7 :: v8 :: .ref qmr :: .int (nI (T_nb tA)) :: .ref qmB :: .int (nI (T_np tA)) :: .ref qmO :: .ref qmK :: .int iEn :: .int iTk :: .int (T_sd tA) :: v18 :: v19 :: v20 :: v21 :: v22 :: v23 :: v24 :: v25 :: v26 :: .int iLv :: .int iWs :: v29 :: v30 :: v31 :: v32 :: v33 :: v34 :: []), zzI cy qmr 8 fR] sz [.ref qm, .int (-3)] (Wi G (fun r u => ∃ (fX : Nat → Int32), u = [zzO qm 5 (v0 :: v1 :: v2 :: v3 :: v4 :: v5 :: v6 :: v7 :: v8 :: .ref qmr :: .int (nI (T_nb tA)) :: .ref qmB :: .int (nI (T_np tA)) :: .ref qmO :: .ref qmK :: .int iEn :: .int iTk :: .int (T_sd tA) :: v18 :: v19 :: v20 :: v21 :: v22 :: v23 :: v24 :: v25 :: v26 :: .int iLv :: .int iWs :: v29 :: v30 :: v31 :: v32 :: v33 :: v34 :: []), zzI cy qmr 8 fX] ∧ ((r = (-3))))) := by
  refine enW RX6 (by decide +kernel) rfl (Nat.le_of_ble_eq_true rfl) (fun p e s m below meth c ls A hx hb hml hown hts hr hlocks hP hN hl hin hD hA hS => ?_)
  have hin : meth.name = _ := hin
  have hK := hN.1
  replace hl : lv_has ls 2 [(0, .ref qm), (1, .int (-3))] := hl
  refine lv_aload_n hx hb (g_42 bX6_refuse rfl) rfl (lv_at hl 0 rfl) ?_
  refine va_get (D := G) (ci := 5) (v := .ref qmr) (C := RX6) (T := TX6) (N := 35) hx hb hts iX_X6 hown hK hP 0 rfl rfl 9 (by decide +kernel) (hts _ m_t859) (fun _ h9 => h9) rfl (g_180 (v := 37) bX6_refuse rfl) ?_
  refine lv_iload_n hx hb (g_27 bX6_refuse rfl) rfl (lv_at hl 1 rfl) ?_
  refine lv_ineg hx hb (g_116 bX6_refuse rfl) ?_
  refine lv_seti (v := 3) (by decide +kernel) ?_
  refine lv_dup2_11 hx hb (g_92 bX6_refuse rfl) rfl rfl ?_
  refine va_iald hx hb hK hP 1 0 rfl rfl (in_c rfl) (g_46 bX6_refuse rfl) ?_
  refine lv_seti (v := fR 3) (congrArg fR (by decide +kernel)) ?_
  refine lv_iconst (v := 1) hx hb (g_4 bX6_refuse rfl) (by decide +kernel) ?_
  refine lv_iadd hx hb (g_96 bX6_refuse rfl) ?_
  refine va_iast hx hb hK hP hD hS 1 0 rfl rfl (in_c rfl) (g_79 bX6_refuse rfl) (fun H locs => ?_)
  clear hP hD hS
  intro hP hD hS
  have hPD := pd_as [_, zzI cy qmr 8 (upd fR 3 ((fR 3) + 1))] hP hD rfl
  clear hP hD
  obtain ⟨hP, hD⟩ := hPD
  refine lv_iload_n hx hb (g_27 bX6_refuse rfl) rfl (lv_at hl 1 rfl) ?_
  exact endWs [[true, true]] hx hb hr hlocks rfl hP hD rfl (by decide +kernel) hS ⟨upd fR 3 ((fR 3) + 1), rfl, rfl⟩ (g_172 bX6_refuse rfl)
set_option maxHeartbeats 4000000 in
set_option maxRecDepth 100000 in
theorem c_X6_refuse4 (l : Launch) (G : va_G) (cy : Nat → ClassId) (sz : Nat) (qm : Nat) (v0 : Value) (v1 : Value) (v2 : Value) (v3 : Value) (v4 : Value) (v5 : Value) (v6 : Value) (v7 : Value) (v8 : Value) (qmr : Nat) (tA : TA) (qmB : Nat) (qmO : Nat) (qmK : Nat) (iEn : Int32) (iTk : Int32) (v18 : Value) (v19 : Value) (v20 : Value) (v21 : Value) (v22 : Value) (v23 : Value) (v24 : Value) (v25 : Value) (v26 : Value) (iLv : Int32) (iWs : Int32) (v29 : Value) (v30 : Value) (v31 : Value) (v32 : Value) (v33 : Value) (v34 : Value) (fR : Nat → Int32)   : MW l yX6_refuse cX6_refuse 2 (some .int) 1 0 0 G cy [zzO qm 5 (v0 :: v1 :: v2 :: v3 :: v4 :: v5 :: v6 :: v7 :: v8 :: .ref qmr :: .int (nI (T_nb tA)) :: .ref qmB :: .int (nI (T_np tA)) :: .ref qmO :: .ref qmK :: .int iEn :: .int iTk :: .int (T_sd tA) :: v18 :: v19 :: v20 :: v21 :: v22 :: v23 :: v24 :: v25 :: v26 :: .int iLv :: .int iWs :: v29 :: v30 :: v31 :: v32 :: v33 :: v34 :: []), zzI cy qmr 8 fR] sz [.ref qm, .int (-4)] (Wi G (fun r u => ∃ (fX : Nat → Int32), u = [zzO qm 5 (v0 :: v1 :: v2 :: v3 :: v4 :: v5 :: v6 :: v7 :: v8 :: .ref qmr :: .int (nI (T_nb tA)) :: .ref qmB :: .int (nI (T_np tA)) :: .ref qmO :: .ref qmK :: .int iEn :: .int iTk :: .int (T_sd tA) :: v18 :: v19 :: v20 :: v21 :: v22 :: v23 :: v24 :: v25 :: v26 :: .int iLv :: .int iWs :: v29 :: v30 :: v31 :: v32 :: v33 :: v34 :: []), zzI cy qmr 8 fX] ∧ ((r = (-4))))) := by
  refine enW RX6 (by decide +kernel) rfl (Nat.le_of_ble_eq_true rfl) (fun p e s m below meth c ls A hx hb hml hown hts hr hlocks hP hN hl hin hD hA hS => ?_)
  have hin : meth.name = _ := hin
  have hK := hN.1
  replace hl : lv_has ls 2 [(0, .ref qm), (1, .int (-4))] := hl
  refine lv_aload_n hx hb (g_42 bX6_refuse rfl) rfl (lv_at hl 0 rfl) ?_
  refine va_get (D := G) (ci := 5) (v := .ref qmr) (C := RX6) (T := TX6) (N := 35) hx hb hts iX_X6 hown hK hP 0 rfl rfl 9 (by decide +kernel) (hts _ m_t859) (fun _ h9 => h9) rfl (g_180 (v := 37) bX6_refuse rfl) ?_
  refine lv_iload_n hx hb (g_27 bX6_refuse rfl) rfl (lv_at hl 1 rfl) ?_
  refine lv_ineg hx hb (g_116 bX6_refuse rfl) ?_
  refine lv_seti (v := 4) (by decide +kernel) ?_
  refine lv_dup2_11 hx hb (g_92 bX6_refuse rfl) rfl rfl ?_
  refine va_iald hx hb hK hP 1 0 rfl rfl (in_c rfl) (g_46 bX6_refuse rfl) ?_
  refine lv_seti (v := fR 4) (congrArg fR (by decide +kernel)) ?_
  refine lv_iconst (v := 1) hx hb (g_4 bX6_refuse rfl) (by decide +kernel) ?_
  refine lv_iadd hx hb (g_96 bX6_refuse rfl) ?_
  refine va_iast hx hb hK hP hD hS 1 0 rfl rfl (in_c rfl) (g_79 bX6_refuse rfl) (fun H locs => ?_)
  clear hP hD hS
  intro hP hD hS
  have hPD := pd_as [_, zzI cy qmr 8 (upd fR 4 ((fR 4) + 1))] hP hD rfl
  clear hP hD
  obtain ⟨hP, hD⟩ := hPD
  refine lv_iload_n hx hb (g_27 bX6_refuse rfl) rfl (lv_at hl 1 rfl) ?_
  exact endWs [[true, true]] hx hb hr hlocks rfl hP hD rfl (by decide +kernel) hS ⟨upd fR 4 ((fR 4) + 1), rfl, rfl⟩ (g_172 bX6_refuse rfl)
set_option maxHeartbeats 4000000 in
set_option maxRecDepth 100000 in
theorem c_X6_refuse5 (l : Launch) (G : va_G) (cy : Nat → ClassId) (sz : Nat) (qm : Nat) (v0 : Value) (v1 : Value) (v2 : Value) (v3 : Value) (v4 : Value) (v5 : Value) (v6 : Value) (v7 : Value) (v8 : Value) (qmr : Nat) (tA : TA) (qmB : Nat) (qmO : Nat) (qmK : Nat) (iEn : Int32) (iTk : Int32) (v18 : Value) (v19 : Value) (v20 : Value) (v21 : Value) (v22 : Value) (v23 : Value) (v24 : Value) (v25 : Value) (v26 : Value) (iLv : Int32) (iWs : Int32) (v29 : Value) (v30 : Value) (v31 : Value) (v32 : Value) (v33 : Value) (v34 : Value) (fR : Nat → Int32)   : MW l yX6_refuse cX6_refuse 2 (some .int) 1 0 0 G cy [zzO qm 5 (v0 :: v1 :: v2 :: v3 :: v4 :: v5 :: v6 :: v7 :: v8 :: .ref qmr :: .int (nI (T_nb tA)) :: .ref qmB :: .int (nI (T_np tA)) :: .ref qmO :: .ref qmK :: .int iEn :: .int iTk :: .int (T_sd tA) :: v18 :: v19 :: v20 :: v21 :: v22 :: v23 :: v24 :: v25 :: v26 :: .int iLv :: .int iWs :: v29 :: v30 :: v31 :: v32 :: v33 :: v34 :: []), zzI cy qmr 8 fR] sz [.ref qm, .int (-5)] (Wi G (fun r u => ∃ (fX : Nat → Int32), u = [zzO qm 5 (v0 :: v1 :: v2 :: v3 :: v4 :: v5 :: v6 :: v7 :: v8 :: .ref qmr :: .int (nI (T_nb tA)) :: .ref qmB :: .int (nI (T_np tA)) :: .ref qmO :: .ref qmK :: .int iEn :: .int iTk :: .int (T_sd tA) :: v18 :: v19 :: v20 :: v21 :: v22 :: v23 :: v24 :: v25 :: v26 :: .int iLv :: .int iWs :: v29 :: v30 :: v31 :: v32 :: v33 :: v34 :: []), zzI cy qmr 8 fX] ∧ ((r = (-5))))) := by
  refine enW RX6 (by decide +kernel) rfl (Nat.le_of_ble_eq_true rfl) (fun p e s m below meth c ls A hx hb hml hown hts hr hlocks hP hN hl hin hD hA hS => ?_)
  have hin : meth.name = _ := hin
  have hK := hN.1
  replace hl : lv_has ls 2 [(0, .ref qm), (1, .int (-5))] := hl
  refine lv_aload_n hx hb (g_42 bX6_refuse rfl) rfl (lv_at hl 0 rfl) ?_
  refine va_get (D := G) (ci := 5) (v := .ref qmr) (C := RX6) (T := TX6) (N := 35) hx hb hts iX_X6 hown hK hP 0 rfl rfl 9 (by decide +kernel) (hts _ m_t859) (fun _ h9 => h9) rfl (g_180 (v := 37) bX6_refuse rfl) ?_
  refine lv_iload_n hx hb (g_27 bX6_refuse rfl) rfl (lv_at hl 1 rfl) ?_
  refine lv_ineg hx hb (g_116 bX6_refuse rfl) ?_
  refine lv_seti (v := 5) (by decide +kernel) ?_
  refine lv_dup2_11 hx hb (g_92 bX6_refuse rfl) rfl rfl ?_
  refine va_iald hx hb hK hP 1 0 rfl rfl (in_c rfl) (g_46 bX6_refuse rfl) ?_
  refine lv_seti (v := fR 5) (congrArg fR (by decide +kernel)) ?_
  refine lv_iconst (v := 1) hx hb (g_4 bX6_refuse rfl) (by decide +kernel) ?_
  refine lv_iadd hx hb (g_96 bX6_refuse rfl) ?_
  refine va_iast hx hb hK hP hD hS 1 0 rfl rfl (in_c rfl) (g_79 bX6_refuse rfl) (fun H locs => ?_)
  clear hP hD hS
  intro hP hD hS
  have hPD := pd_as [_, zzI cy qmr 8 (upd fR 5 ((fR 5) + 1))] hP hD rfl
  clear hP hD
  obtain ⟨hP, hD⟩ := hPD
  refine lv_iload_n hx hb (g_27 bX6_refuse rfl) rfl (lv_at hl 1 rfl) ?_
  exact endWs [[true, true]] hx hb hr hlocks rfl hP hD rfl (by decide +kernel) hS ⟨upd fR 5 ((fR 5) + 1), rfl, rfl⟩ (g_172 bX6_refuse rfl)
set_option maxHeartbeats 4000000 in
set_option maxRecDepth 100000 in
theorem c_X6_refuse6 (l : Launch) (G : va_G) (cy : Nat → ClassId) (sz : Nat) (qm : Nat) (v0 : Value) (v1 : Value) (v2 : Value) (v3 : Value) (v4 : Value) (v5 : Value) (v6 : Value) (v7 : Value) (v8 : Value) (qmr : Nat) (tA : TA) (qmB : Nat) (qmO : Nat) (qmK : Nat) (iEn : Int32) (iTk : Int32) (v18 : Value) (v19 : Value) (v20 : Value) (v21 : Value) (v22 : Value) (v23 : Value) (v24 : Value) (v25 : Value) (v26 : Value) (iLv : Int32) (iWs : Int32) (v29 : Value) (v30 : Value) (v31 : Value) (v32 : Value) (v33 : Value) (v34 : Value) (fR : Nat → Int32)   : MW l yX6_refuse cX6_refuse 2 (some .int) 1 0 0 G cy [zzO qm 5 (v0 :: v1 :: v2 :: v3 :: v4 :: v5 :: v6 :: v7 :: v8 :: .ref qmr :: .int (nI (T_nb tA)) :: .ref qmB :: .int (nI (T_np tA)) :: .ref qmO :: .ref qmK :: .int iEn :: .int iTk :: .int (T_sd tA) :: v18 :: v19 :: v20 :: v21 :: v22 :: v23 :: v24 :: v25 :: v26 :: .int iLv :: .int iWs :: v29 :: v30 :: v31 :: v32 :: v33 :: v34 :: []), zzI cy qmr 8 fR] sz [.ref qm, .int (-6)] (Wi G (fun r u => ∃ (fX : Nat → Int32), u = [zzO qm 5 (v0 :: v1 :: v2 :: v3 :: v4 :: v5 :: v6 :: v7 :: v8 :: .ref qmr :: .int (nI (T_nb tA)) :: .ref qmB :: .int (nI (T_np tA)) :: .ref qmO :: .ref qmK :: .int iEn :: .int iTk :: .int (T_sd tA) :: v18 :: v19 :: v20 :: v21 :: v22 :: v23 :: v24 :: v25 :: v26 :: .int iLv :: .int iWs :: v29 :: v30 :: v31 :: v32 :: v33 :: v34 :: []), zzI cy qmr 8 fX] ∧ ((r = (-6))))) := by
  refine enW RX6 (by decide +kernel) rfl (Nat.le_of_ble_eq_true rfl) (fun p e s m below meth c ls A hx hb hml hown hts hr hlocks hP hN hl hin hD hA hS => ?_)
  have hin : meth.name = _ := hin
  have hK := hN.1
  replace hl : lv_has ls 2 [(0, .ref qm), (1, .int (-6))] := hl
  refine lv_aload_n hx hb (g_42 bX6_refuse rfl) rfl (lv_at hl 0 rfl) ?_
  refine va_get (D := G) (ci := 5) (v := .ref qmr) (C := RX6) (T := TX6) (N := 35) hx hb hts iX_X6 hown hK hP 0 rfl rfl 9 (by decide +kernel) (hts _ m_t859) (fun _ h9 => h9) rfl (g_180 (v := 37) bX6_refuse rfl) ?_
  refine lv_iload_n hx hb (g_27 bX6_refuse rfl) rfl (lv_at hl 1 rfl) ?_
  refine lv_ineg hx hb (g_116 bX6_refuse rfl) ?_
  refine lv_seti (v := 6) (by decide +kernel) ?_
  refine lv_dup2_11 hx hb (g_92 bX6_refuse rfl) rfl rfl ?_
  refine va_iald hx hb hK hP 1 0 rfl rfl (in_c rfl) (g_46 bX6_refuse rfl) ?_
  refine lv_seti (v := fR 6) (congrArg fR (by decide +kernel)) ?_
  refine lv_iconst (v := 1) hx hb (g_4 bX6_refuse rfl) (by decide +kernel) ?_
  refine lv_iadd hx hb (g_96 bX6_refuse rfl) ?_
  refine va_iast hx hb hK hP hD hS 1 0 rfl rfl (in_c rfl) (g_79 bX6_refuse rfl) (fun H locs => ?_)
  clear hP hD hS
  intro hP hD hS
  have hPD := pd_as [_, zzI cy qmr 8 (upd fR 6 ((fR 6) + 1))] hP hD rfl
  clear hP hD
  obtain ⟨hP, hD⟩ := hPD
  refine lv_iload_n hx hb (g_27 bX6_refuse rfl) rfl (lv_at hl 1 rfl) ?_
  exact endWs [[true, true]] hx hb hr hlocks rfl hP hD rfl (by decide +kernel) hS ⟨upd fR 6 ((fR 6) + 1), rfl, rfl⟩ (g_172 bX6_refuse rfl)
set_option maxHeartbeats 4000000 in
set_option maxRecDepth 100000 in
theorem c_X6_groundOf (l : Launch) (G : va_G) (cy : Nat → ClassId) (qm : Nat) (v0 : Value) (v1 : Value) (v2 : Value) (v3 : Value) (v4 : Value) (v5 : Value) (v6 : Value) (v7 : Value) (v8 : Value) (v9 : Value) (tA : TA) (qmB : Nat) (qmO : Nat) (qmK : Nat) (iEn : Int32) (iTk : Int32) (v18 : Value) (v19 : Value) (v20 : Value) (v21 : Value) (v22 : Value) (v23 : Value) (v24 : Value) (v25 : Value) (v26 : Value) (iLv : Int32) (iWs : Int32) (v29 : Value) (v30 : Value) (v31 : Value) (v32 : Value) (v33 : Value) (v34 : Value) (rB : Nat → Nat) (rK : Nat → Nat) (kI : Nat) (kB : Nat)  (hI : kI < 8) (hJ : kB < 8) : MR l yX6_groundOf cX6_groundOf 6 (some .int) 1 G cy [zzO qm 5 (v0 :: v1 :: v2 :: v3 :: v4 :: v5 :: v6 :: v7 :: v8 :: v9 :: .int (nI (T_nb tA)) :: .ref qmB :: .int (nI (T_np tA)) :: .ref qmO :: .ref qmK :: .int iEn :: .int iTk :: .int (T_sd tA) :: v18 :: v19 :: v20 :: v21 :: v22 :: v23 :: v24 :: v25 :: v26 :: .int iLv :: .int iWs :: v29 :: v30 :: v31 :: v32 :: v33 :: v34 :: []), zzG cy 3 qmB rB, zzI cy (rB 0) 4 (bkR tA 0), zzI cy (rB 1) 4 (bkR tA 1), zzI cy (rB 2) 4 (bkR tA 2), zzI cy (rB 3) 4 (bkR tA 3), zzI cy (rB 4) 4 (bkR tA 4), zzI cy (rB 5) 4 (bkR tA 5), zzI cy (rB 6) 4 (bkR tA 6), zzI cy (rB 7) 4 (bkR tA 7), zzG cy 3 qmK rK, zzI cy (rK 0) 8 (T_kn tA 0), zzI cy (rK 1) 8 (T_kn tA 1), zzI cy (rK 2) 8 (T_kn tA 2), zzI cy (rK 3) 8 (T_kn tA 3), zzI cy (rK 4) 8 (T_kn tA 4), zzI cy (rK 5) 8 (T_kn tA 5), zzI cy (rK 6) 8 (T_kn tA 6), zzI cy (rK 7) 8 (T_kn tA 7)] [.ref qm, .int (nI kI), .int (nI kB)] (vp_Si (fun r => (r = (zgd tA kI kB)))) := by
  refine enR RX6 (by decide +kernel) rfl (Nat.le_of_ble_eq_true rfl) (fun p e s m below meth c ls hx hb hml hown hts hr hlocks hP hN hl => ?_)
  have hK := hN.1
  replace hl : lv_has ls 6 [(0, .ref qm), (1, .int (nI kI)), (2, .int (nI kB))] := hl
  refine lv_sipush (v := 1000) hx hb dX6_groundOf_0 (by decide +kernel) ?_
  refine lv_istore_n (lv' := [(3, .int 1000), (0, .ref qm), (1, .int (nI kI)), (2, .int (nI kB))]) hx hb (g_62 bX6_groundOf rfl) rfl hl (by decide +kernel) rfl (fun ls => ?_)
  clear hl
  intro hl
  refine lv_iconst (v := 0) hx hb (g_3 bX6_groundOf rfl) (by decide +kernel) ?_
  refine lv_istore (lv' := [(4, .int 0), (3, .int 1000), (0, .ref qm), (1, .int (nI kI)), (2, .int (nI kB))]) hx hb (g_54 (v := 4) bX6_groundOf rfl) hl (by decide +kernel) rfl (fun ls => ?_)
  clear hl
  intro hl
  have lp_1 : ∀ (n_2 : Nat) (j_4 : Nat) (xM_5 : Int32), 8 - j_4 < n_2 → j_4 ≤ kB → xM_5 = gdF (T_ne tA kB) (T_kn tA kI) j_4 → ∀ (ls : Array Slot), lv_has ls 6 [(4, .int (nI j_4)), (3, .int xM_5), (0, .ref qm), (1, .int (nI kI)), (2, .int (nI kB))] → W p l e (Rm 1 0 0) s m (List.toArray (α := Value) [.ref qm, .int (nI kI), .int (nI kB)]) below meth c s.heap [] 0 0 (MQ below (vp_Si (fun r => (r = (zgd tA kI kB)))) (List.toArray (α := Value) [.ref qm, .int (nI kI), .int (nI kB)]) s 0 0 (fun _ => False)) (F0 m 7 ls []) := by
    intro n_2
    induction n_2 with
    | zero => intro j_4 xM_5 hm9; exact absurd hm9 (Nat.not_lt_zero _)
    | succ n_2 ih_3 =>
      intro j_4 xM_5 hm_8 hj_6 hxM_7 ls hl
      refine lv_iload hx hb (g_21 (v := 4) bX6_groundOf rfl) (lv_at hl 0 rfl) ?_
      refine lv_iload_n hx hb (g_28 bX6_groundOf rfl) rfl (lv_at hl 4 rfl) ?_
      refine lv_icmp_ge (tgt := 74) hx hb dX6_groundOf_10 (by decide +kernel) (fun c_9 => ?_) (fun c_9 => ?_)
      · have hlt_10 : j_4 = kB := Nat.le_antisymm (by omega) (lp_ge rfl rfl (by omega) (by omega) c_9)
        refine lv_iload_n hx hb (g_29 bX6_groundOf rfl) rfl (lv_at hl 1 rfl) ?_
        exact endR hx hb hr hlocks rfl (by rw [hxM_7, hlt_10]; rfl) (g_172 bX6_groundOf rfl)
      · have hlt_11 : j_4 < kB := lp_lt rfl rfl (by omega) (by omega) c_9
        refine lv_aload_n hx hb (g_42 bX6_groundOf rfl) rfl (lv_at hl 2 rfl) ?_
        refine va_get (D := G) (ci := 5) (v := .ref qmB) (C := RX6) (T := TX6) (N := 35) hx hb hts iX_X6 hown hK hP 0 rfl rfl 11 (by decide +kernel) (hts _ m_t861) (fun _ h9 => h9) rfl (g_180 (v := 42) bX6_groundOf rfl) ?_
        refine lv_iload_n hx hb (g_28 bX6_groundOf rfl) rfl (lv_at hl 4 rfl) ?_
        refine va_alda hx hb hK hP 1 3 rfl rfl (in8 (by omega)) (g_50 bX6_groundOf rfl) ?_
        refine lv_setv (v := .ref (rB kB)) (g_ref (by omega)) ?_
        refine lv_iconst (v := 1) hx hb (g_4 bX6_groundOf rfl) (by decide +kernel) ?_
        refine va_iald hx hb hK hP (2 + kB) 0 (sg8 (n0 := 2) (f := (fun j => zzI cy (rB j) 4 (bkR tA j))) rfl rfl rfl rfl rfl rfl rfl rfl kB (by omega)) rfl (in_c rfl) (g_46 bX6_groundOf rfl) ?_
        refine lv_seti (v := T_ne tA kB) (bk_1 _ _) ?_
        refine lv_iload hx hb (g_21 (v := 4) bX6_groundOf rfl) (lv_at hl 0 rfl) ?_
        refine lv_ishr hx hb (g_122 bX6_groundOf rfl) ?_
        refine lv_iconst (v := 1) hx hb (g_4 bX6_groundOf rfl) (by decide +kernel) ?_
        refine lv_iand hx hb (g_126 bX6_groundOf rfl) ?_
        refine lv_if_eq (tgt := 33) hx hb dX6_groundOf_26 (by decide +kernel) (fun c_12 => ?_) (fun c_12 => ?_)
        · refine lv_iconst (v := 0) hx hb (g_3 bX6_groundOf rfl) (by decide +kernel) ?_
          refine lv_istore (lv' := [(5, .int 0), (4, .int (nI j_4)), (3, .int xM_5), (0, .ref qm), (1, .int (nI kI)), (2, .int (nI kB))]) hx hb (g_54 (v := 5) bX6_groundOf rfl) hl (by decide +kernel) rfl (fun ls => ?_)
          clear hl
          intro hl
          refine lv_iload hx hb (g_21 (v := 5) bX6_groundOf rfl) (lv_at hl 0 rfl) ?_
          refine lv_if_eq (tgt := 66) hx hb dX6_groundOf_38 (by decide +kernel) (fun _ => ?_) (fun h9 => absurd (by decide +kernel) h9)
          refine lv_iload_n hx hb (g_29 bX6_groundOf rfl) rfl (lv_at hl 2 rfl) ?_
          refine lv_istore_n (lv' := [(3, .int xM_5), (5, .int 0), (4, .int (nI j_4)), (0, .ref qm), (1, .int (nI kI)), (2, .int (nI kB))]) hx hb (g_62 bX6_groundOf rfl) rfl hl (by decide +kernel) rfl (fun ls => ?_)
          clear hl
          intro hl
          refine lv_iinc (v := nI (j_4 + 1)) (lv' := [(4, .int (nI (j_4 + 1))), (3, .int xM_5), (5, .int 0), (0, .ref qm), (1, .int (nI kI)), (2, .int (nI kB))]) hx hb dX6_groundOf_68 hl (k := 2) rfl (nI_1 _) (by decide +kernel) rfl (fun ls => ?_)
          clear hl
          intro hl
          refine lv_goto (tgt := 7) hx hb dX6_groundOf_71 (by decide +kernel) ?_
          exact ih_3 (j_4 + 1) xM_5 (by omega) (by omega) (by rw [hxM_7]; exact (if_neg (fun q => absurd c_12 (by have := q.1; unfold bitb at this; exact of_decide_eq_true this))).symm) _ (lv_sub hl [0, 1, 3, 4, 5] rfl)
        · refine lv_iconst (v := 1) hx hb (g_4 bX6_groundOf rfl) (by decide +kernel) ?_
          refine lv_goto (tgt := 34) hx hb dX6_groundOf_30 (by decide +kernel) ?_
          refine lv_istore (lv' := [(5, .int 1), (4, .int (nI j_4)), (3, .int xM_5), (0, .ref qm), (1, .int (nI kI)), (2, .int (nI kB))]) hx hb (g_54 (v := 5) bX6_groundOf rfl) hl (by decide +kernel) rfl (fun ls => ?_)
          clear hl
          intro hl
          refine lv_iload hx hb (g_21 (v := 5) bX6_groundOf rfl) (lv_at hl 0 rfl) ?_
          refine lv_if_eq (tgt := 66) hx hb dX6_groundOf_38 (by decide +kernel) (fun h9 => absurd h9 (by decide +kernel)) (fun _ => ?_)
          refine lv_aload_n hx hb (g_42 bX6_groundOf rfl) rfl (lv_at hl 3 rfl) ?_
          refine va_get (D := G) (ci := 5) (v := .ref qmK) (C := RX6) (T := TX6) (N := 35) hx hb hts iX_X6 hown hK hP 0 rfl rfl 14 (by decide +kernel) (hts _ m_t864) (fun _ h9 => h9) rfl (g_180 (v := 48) bX6_groundOf rfl) ?_
          refine lv_iload_n hx hb (g_27 bX6_groundOf rfl) rfl (lv_at hl 4 rfl) ?_
          refine va_alda hx hb hK hP 10 3 rfl rfl (in8 (by omega)) (g_50 bX6_groundOf rfl) ?_
          refine lv_setv (v := .ref (rK kI)) (g_ref (by omega)) ?_
          refine lv_iload hx hb (g_21 (v := 4) bX6_groundOf rfl) (lv_at hl 1 rfl) ?_
          refine va_iald hx hb hK hP (11 + kI) 0 (sg8 (n0 := 11) (f := (fun j => zzI cy (rK j) 8 (T_kn tA j))) rfl rfl rfl rfl rfl rfl rfl rfl kI (by omega)) rfl (vp_in_nI (by omega) (by omega)) (g_46 bX6_groundOf rfl) ?_
          refine lv_seti (v := T_kn tA kI j_4) (congrArg (T_kn tA kI) (nI_clamp (by omega))) ?_
          refine lv_iload_n hx hb (g_29 bX6_groundOf rfl) rfl (lv_at hl 2 rfl) ?_
          refine lv_icmp_ge (tgt := 66) hx hb dX6_groundOf_51 (by decide +kernel) (fun c_15 => ?_) (fun c_15 => ?_)
          · refine lv_iload_n hx hb (g_29 bX6_groundOf rfl) rfl (lv_at hl 2 rfl) ?_
            refine lv_istore_n (lv' := [(3, .int xM_5), (5, .int 1), (4, .int (nI j_4)), (0, .ref qm), (1, .int (nI kI)), (2, .int (nI kB))]) hx hb (g_62 bX6_groundOf rfl) rfl hl (by decide +kernel) rfl (fun ls => ?_)
            clear hl
            intro hl
            refine lv_iinc (v := nI (j_4 + 1)) (lv' := [(4, .int (nI (j_4 + 1))), (3, .int xM_5), (5, .int 1), (0, .ref qm), (1, .int (nI kI)), (2, .int (nI kB))]) hx hb dX6_groundOf_68 hl (k := 2) rfl (nI_1 _) (by decide +kernel) rfl (fun ls => ?_)
            clear hl
            intro hl
            refine lv_goto (tgt := 7) hx hb dX6_groundOf_71 (by decide +kernel) ?_
            exact ih_3 (j_4 + 1) xM_5 (by omega) (by omega) (by rw [hxM_7] at c_15; rw [hxM_7]; exact (if_neg (fun q => Int32.not_lt.mpr c_15 q.2)).symm) _ (lv_sub hl [0, 1, 3, 4, 5] rfl)
          · refine lv_aload_n hx hb (g_42 bX6_groundOf rfl) rfl (lv_at hl 3 rfl) ?_
            refine va_get (D := G) (ci := 5) (v := .ref qmK) (C := RX6) (T := TX6) (N := 35) hx hb hts iX_X6 hown hK hP 0 rfl rfl 14 (by decide +kernel) (hts _ m_t864) (fun _ h9 => h9) rfl (g_180 (v := 48) bX6_groundOf rfl) ?_
            refine lv_iload_n hx hb (g_27 bX6_groundOf rfl) rfl (lv_at hl 4 rfl) ?_
            refine va_alda hx hb hK hP 10 3 rfl rfl (in8 (by omega)) (g_50 bX6_groundOf rfl) ?_
            refine lv_setv (v := .ref (rK kI)) (g_ref (by omega)) ?_
            refine lv_iload hx hb (g_21 (v := 4) bX6_groundOf rfl) (lv_at hl 1 rfl) ?_
            refine va_iald hx hb hK hP (11 + kI) 0 (sg8 (n0 := 11) (f := (fun j => zzI cy (rK j) 8 (T_kn tA j))) rfl rfl rfl rfl rfl rfl rfl rfl kI (by omega)) rfl (vp_in_nI (by omega) (by omega)) (g_46 bX6_groundOf rfl) ?_
            refine lv_seti (v := T_kn tA kI j_4) (congrArg (T_kn tA kI) (nI_clamp (by omega))) ?_
            refine lv_goto (tgt := 67) hx hb dX6_groundOf_63 (by decide +kernel) ?_
            refine lv_istore_n (lv' := [(3, .int (T_kn tA kI j_4)), (5, .int 1), (4, .int (nI j_4)), (0, .ref qm), (1, .int (nI kI)), (2, .int (nI kB))]) hx hb (g_62 bX6_groundOf rfl) rfl hl (by decide +kernel) rfl (fun ls => ?_)
            clear hl
            intro hl
            refine lv_iinc (v := nI (j_4 + 1)) (lv' := [(4, .int (nI (j_4 + 1))), (3, .int (T_kn tA kI j_4)), (5, .int 1), (0, .ref qm), (1, .int (nI kI)), (2, .int (nI kB))]) hx hb dX6_groundOf_68 hl (k := 2) rfl (nI_1 _) (by decide +kernel) rfl (fun ls => ?_)
            clear hl
            intro hl
            refine lv_goto (tgt := 7) hx hb dX6_groundOf_71 (by decide +kernel) ?_
            exact ih_3 (j_4 + 1) (T_kn tA kI j_4) (by omega) (by omega) (by rw [hxM_7] at c_15; exact (if_pos ⟨by unfold bitb; exact decide_eq_true c_12, Int32.not_le.mp c_15⟩).symm) _ (lv_sub hl [0, 1, 3, 4, 5] rfl)
  exact lp_1 ((8 - 0) + 1) 0 1000 (Nat.lt_succ_self _) (Nat.zero_le _) rfl ls (lv_sub hl [0, 1, 2, 3, 4] rfl)
set_option maxHeartbeats 4000000 in
set_option maxRecDepth 100000 in
theorem c_X6_byGround (l : Launch) (G : va_G) (cy : Nat → ClassId) (qm : Nat) (v0 : Value) (v1 : Value) (v2 : Value) (v3 : Value) (v4 : Value) (v5 : Value) (v6 : Value) (v7 : Value) (v8 : Value) (v9 : Value) (tA : TA) (qmB : Nat) (qmO : Nat) (qmK : Nat) (iEn : Int32) (iTk : Int32) (v18 : Value) (v19 : Value) (v20 : Value) (v21 : Value) (v22 : Value) (v23 : Value) (v24 : Value) (v25 : Value) (v26 : Value) (iLv : Int32) (iWs : Int32) (v29 : Value) (v30 : Value) (v31 : Value) (v32 : Value) (v33 : Value) (v34 : Value) (rB : Nat → Nat) (rK : Nat → Nat) (iV : Int32) (kI : Nat) (kB : Nat)  (hI : kI < 8) (hJ : kB < 8) : MR l yX6_byGround cX6_byGround 4 (some .int) 2 G cy [zzO qm 5 (v0 :: v1 :: v2 :: v3 :: v4 :: v5 :: v6 :: v7 :: v8 :: v9 :: .int (nI (T_nb tA)) :: .ref qmB :: .int (nI (T_np tA)) :: .ref qmO :: .ref qmK :: .int iEn :: .int iTk :: .int (T_sd tA) :: v18 :: v19 :: v20 :: v21 :: v22 :: v23 :: v24 :: v25 :: v26 :: .int iLv :: .int iWs :: v29 :: v30 :: v31 :: v32 :: v33 :: v34 :: []), zzG cy 3 qmB rB, zzI cy (rB 0) 4 (bkR tA 0), zzI cy (rB 1) 4 (bkR tA 1), zzI cy (rB 2) 4 (bkR tA 2), zzI cy (rB 3) 4 (bkR tA 3), zzI cy (rB 4) 4 (bkR tA 4), zzI cy (rB 5) 4 (bkR tA 5), zzI cy (rB 6) 4 (bkR tA 6), zzI cy (rB 7) 4 (bkR tA 7), zzG cy 3 qmK rK, zzI cy (rK 0) 8 (T_kn tA 0), zzI cy (rK 1) 8 (T_kn tA 1), zzI cy (rK 2) 8 (T_kn tA 2), zzI cy (rK 3) 8 (T_kn tA 3), zzI cy (rK 4) 8 (T_kn tA 4), zzI cy (rK 5) 8 (T_kn tA 5), zzI cy (rK 6) 8 (T_kn tA 6), zzI cy (rK 7) 8 (T_kn tA 7)] [.ref qm, .int iV, .int (nI kI), .int (nI kB)] (vp_Si (fun r => (r = (zgr iV (zgd tA kI kB))))) := by
  refine enR RX6 (by decide +kernel) rfl (Nat.le_of_ble_eq_true rfl) (fun p e s m below meth c ls hx hb hml hown hts hr hlocks hP hN hl => ?_)
  have hK := hN.1
  replace hl : lv_has ls 4 [(0, .ref qm), (1, .int iV), (2, .int (nI kI)), (3, .int (nI kB))] := hl
  refine lv_iload_n hx hb (g_27 bX6_byGround rfl) rfl (lv_at hl 1 rfl) ?_
  refine lv_aload_n hx hb (g_42 bX6_byGround rfl) rfl (lv_at hl 0 rfl) ?_
  refine lv_iload_n hx hb (g_28 bX6_byGround rfl) rfl (lv_at hl 2 rfl) ?_
  refine lv_iload_n hx hb (g_29 bX6_byGround rfl) rfl (lv_at hl 3 rfl) ?_
  refine kRi (rV (As := [.int (nI kI), .int (nI kB)]) (rest := [.int iV]) (b := qm) ⟨hx, hb, hml, hown, hts⟩ (c_X6_groundOf l G cy qm v0 v1 v2 v3 v4 v5 v6 v7 v8 v9 tA qmB qmO qmK iEn iTk v18 v19 v20 v21 v22 v23 v24 v25 v26 iLv iWs v29 v30 v31 v32 v33 v34 rB rK kI kB hI hJ) L_X6_241 (preRV (q := (RX6, TX6, 35)) hN hP (trueIx 0 [true, true, true, true, true, true, true, true, true, true, true, true, true, true, true, true, true, true, true]) (sel_fm rfl rfl) 0 5 rfl rfl) rfl ⟨Nat.le_of_ble_eq_true rfl, Nat.le_of_ble_eq_true rfl⟩ hl.1 (Nat.le_of_ble_eq_true rfl) (g_182 (v := 241) bX6_byGround rfl) ⟨Nat.le_of_ble_eq_true rfl, Nat.le_of_ble_eq_true rfl⟩) (fun r_1 h_2 => ?_)
  subst h_2
  refine lv_sipush (v := 1000) hx hb dX6_byGround_7 (by decide +kernel) ?_
  refine lv_iadd hx hb (g_96 bX6_byGround rfl) ?_
  refine lv_imul hx hb (g_104 bX6_byGround rfl) ?_
  refine lv_sipush (v := 2000) hx hb dX6_byGround_12 (by decide +kernel) ?_
  refine lv_idiv hx hb (g_108 bX6_byGround rfl) (by decide +kernel) ?_
  exact endR hx hb hr hlocks rfl (by rfl) (g_172 bX6_byGround rfl)
set_option maxHeartbeats 4000000 in
set_option maxRecDepth 100000 in
theorem c_X6_wouldKnow (l : Launch) (G : va_G) (cy : Nat → ClassId) (qm : Nat) (v0 : Value) (v1 : Value) (v2 : Value) (v3 : Value) (v4 : Value) (v5 : Value) (v6 : Value) (v7 : Value) (v8 : Value) (v9 : Value) (tA : TA) (qmB : Nat) (qmO : Nat) (qmK : Nat) (iEn : Int32) (iTk : Int32) (v18 : Value) (v19 : Value) (v20 : Value) (v21 : Value) (v22 : Value) (v23 : Value) (v24 : Value) (v25 : Value) (v26 : Value) (iLv : Int32) (iWs : Int32) (v29 : Value) (v30 : Value) (v31 : Value) (v32 : Value) (v33 : Value) (v34 : Value) (rB : Nat → Nat) (rO : Nat → Nat) (rK : Nat → Nat) (kI : Nat) (kB : Nat)  (hI : kI < 8) (hJ : kB < 8) : MR l yX6_wouldKnow cX6_wouldKnow 4 (some .int) 3 G cy [zzO qm 5 (v0 :: v1 :: v2 :: v3 :: v4 :: v5 :: v6 :: v7 :: v8 :: v9 :: .int (nI (T_nb tA)) :: .ref qmB :: .int (nI (T_np tA)) :: .ref qmO :: .ref qmK :: .int iEn :: .int iTk :: .int (T_sd tA) :: v18 :: v19 :: v20 :: v21 :: v22 :: v23 :: v24 :: v25 :: v26 :: .int iLv :: .int iWs :: v29 :: v30 :: v31 :: v32 :: v33 :: v34 :: []), zzG cy 3 qmB rB, zzI cy (rB 0) 4 (bkR tA 0), zzI cy (rB 1) 4 (bkR tA 1), zzI cy (rB 2) 4 (bkR tA 2), zzI cy (rB 3) 4 (bkR tA 3), zzI cy (rB 4) 4 (bkR tA 4), zzI cy (rB 5) 4 (bkR tA 5), zzI cy (rB 6) 4 (bkR tA 6), zzI cy (rB 7) 4 (bkR tA 7), zzG cy 3 qmO rO, zzI cy (rO 0) 5 (onR tA 0), zzI cy (rO 1) 5 (onR tA 1), zzI cy (rO 2) 5 (onR tA 2), zzI cy (rO 3) 5 (onR tA 3), zzI cy (rO 4) 5 (onR tA 4), zzI cy (rO 5) 5 (onR tA 5), zzI cy (rO 6) 5 (onR tA 6), zzI cy (rO 7) 5 (onR tA 7), zzG cy 3 qmK rK, zzI cy (rK 0) 8 (T_kn tA 0), zzI cy (rK 1) 8 (T_kn tA 1), zzI cy (rK 2) 8 (T_kn tA 2), zzI cy (rK 3) 8 (T_kn tA 3), zzI cy (rK 4) 8 (T_kn tA 4), zzI cy (rK 5) 8 (T_kn tA 5), zzI cy (rK 6) 8 (T_kn tA 6), zzI cy (rK 7) 8 (T_kn tA 7)] [.ref qm, .int (nI kI), .int (nI kB)] (vp_Si (fun r => (r = (zwk tA kI kB)))) := by
  refine enR RX6 (by decide +kernel) rfl (Nat.le_of_ble_eq_true rfl) (fun p e s m below meth c ls hx hb hml hown hts hr hlocks hP hN hl => ?_)
  have hK := hN.1
  replace hl : lv_has ls 4 [(0, .ref qm), (1, .int (nI kI)), (2, .int (nI kB))] := hl
  refine lv_aload_n hx hb (g_42 bX6_wouldKnow rfl) rfl (lv_at hl 0 rfl) ?_
  refine lv_aload_n hx hb (g_42 bX6_wouldKnow rfl) rfl (lv_at hl 0 rfl) ?_
  refine va_get (D := G) (ci := 5) (v := .ref qmB) (C := RX6) (T := TX6) (N := 35) hx hb hts iX_X6 hown hK hP 0 rfl rfl 11 (by decide +kernel) (hts _ m_t861) (fun _ h9 => h9) rfl (g_180 (v := 42) bX6_wouldKnow rfl) ?_
  refine lv_iload_n hx hb (g_28 bX6_wouldKnow rfl) rfl (lv_at hl 2 rfl) ?_
  refine va_alda hx hb hK hP 1 3 rfl rfl (in8 (by omega)) (g_50 bX6_wouldKnow rfl) ?_
  refine lv_setv (v := .ref (rB kB)) (g_ref (by omega)) ?_
  refine lv_iconst (v := 2) hx hb (g_5 bX6_wouldKnow rfl) (by decide +kernel) ?_
  refine va_iald hx hb hK hP (2 + kB) 0 (sg8 (n0 := 2) (f := (fun j => zzI cy (rB j) 4 (bkR tA j))) rfl rfl rfl rfl rfl rfl rfl rfl kB (by omega)) rfl (in_c rfl) (g_46 bX6_wouldKnow rfl) ?_
  refine lv_seti (v := T_go tA kB) (bk_2 _ _) ?_
  refine lv_aload_n hx hb (g_42 bX6_wouldKnow rfl) rfl (lv_at hl 0 rfl) ?_
  refine va_get (D := G) (ci := 5) (v := .ref qmO) (C := RX6) (T := TX6) (N := 35) hx hb hts iX_X6 hown hK hP 0 rfl rfl 13 (by decide +kernel) (hts _ m_t863) (fun _ h9 => h9) rfl (g_180 (v := 45) bX6_wouldKnow rfl) ?_
  refine lv_iload_n hx hb (g_27 bX6_wouldKnow rfl) rfl (lv_at hl 1 rfl) ?_
  refine va_alda hx hb hK hP 10 3 rfl rfl (in8 (by omega)) (g_50 bX6_wouldKnow rfl) ?_
  refine lv_setv (v := .ref (rO kI)) (g_ref (by omega)) ?_
  refine lv_iconst (v := 1) hx hb (g_4 bX6_wouldKnow rfl) (by decide +kernel) ?_
  refine va_iald hx hb hK hP (11 + kI) 0 (sg8 (n0 := 11) (f := (fun j => zzI cy (rO j) 5 (onR tA j))) rfl rfl rfl rfl rfl rfl rfl rfl kI (by omega)) rfl (in_c rfl) (g_46 bX6_wouldKnow rfl) ?_
  refine lv_seti (v := T_re tA kI) (on_1' _ _) ?_
  refine lv_imul hx hb (g_104 bX6_wouldKnow rfl) ?_
  refine lv_bipush (v := 10) hx hb dX6_wouldKnow_18 (by decide +kernel) ?_
  refine lv_idiv hx hb (g_108 bX6_wouldKnow rfl) (by decide +kernel) ?_
  refine lv_iload_n hx hb (g_27 bX6_wouldKnow rfl) rfl (lv_at hl 1 rfl) ?_
  refine lv_iload_n hx hb (g_28 bX6_wouldKnow rfl) rfl (lv_at hl 2 rfl) ?_
  refine kRi (rV (As := [.int (((T_go tA kB) * (T_re tA kI)) / 10), .int (nI kI), .int (nI kB)]) (rest := []) (b := qm) ⟨hx, hb, hml, hown, hts⟩ (c_X6_byGround l G cy qm v0 v1 v2 v3 v4 v5 v6 v7 v8 v9 tA qmB qmO qmK iEn iTk v18 v19 v20 v21 v22 v23 v24 v25 v26 iLv iWs v29 v30 v31 v32 v33 v34 rB rK (((T_go tA kB) * (T_re tA kI)) / 10) kI kB hI hJ) L_X6_244 (preRV (q := (RX6, TX6, 35)) hN hP (trueIx 0 [true, true, true, true, true, true, true, true, true, true, false, false, false, false, false, false, false, false, false, true, true, true, true, true, true, true, true, true]) (sel_fm rfl rfl) 0 5 rfl rfl) rfl ⟨Nat.le_of_ble_eq_true rfl, Nat.le_of_ble_eq_true rfl⟩ hl.1 (Nat.le_of_ble_eq_true rfl) (g_182 (v := 244) bX6_wouldKnow rfl) ⟨Nat.le_of_ble_eq_true rfl, Nat.le_of_ble_eq_true rfl⟩) (fun r_1 h_2 => ?_)
  subst h_2
  refine lv_istore_n (lv' := [(3, .int (zgr (((T_go tA kB) * (T_re tA kI)) / 10) (zgd tA kI kB))), (0, .ref qm), (1, .int (nI kI)), (2, .int (nI kB))]) hx hb (g_62 bX6_wouldKnow rfl) rfl hl (by decide +kernel) rfl (fun ls => ?_)
  clear hl
  intro hl
  refine lv_iload_n hx hb (g_29 bX6_wouldKnow rfl) rfl (lv_at hl 0 rfl) ?_
  refine lv_aload_n hx hb (g_42 bX6_wouldKnow rfl) rfl (lv_at hl 1 rfl) ?_
  refine va_get (D := G) (ci := 5) (v := .ref qmK) (C := RX6) (T := TX6) (N := 35) hx hb hts iX_X6 hown hK hP 0 rfl rfl 14 (by decide +kernel) (hts _ m_t864) (fun _ h9 => h9) rfl (g_180 (v := 48) bX6_wouldKnow rfl) ?_
  refine lv_iload_n hx hb (g_27 bX6_wouldKnow rfl) rfl (lv_at hl 2 rfl) ?_
  refine va_alda hx hb hK hP 19 3 rfl rfl (in8 (by omega)) (g_50 bX6_wouldKnow rfl) ?_
  refine lv_setv (v := .ref (rK kI)) (g_ref (by omega)) ?_
  refine lv_iload_n hx hb (g_28 bX6_wouldKnow rfl) rfl (lv_at hl 3 rfl) ?_
  refine va_iald hx hb hK hP (20 + kI) 0 (sg8 (n0 := 20) (f := (fun j => zzI cy (rK j) 8 (T_kn tA j))) rfl rfl rfl rfl rfl rfl rfl rfl kI (by omega)) rfl (vp_in_nI (by omega) (by omega)) (g_46 bX6_wouldKnow rfl) ?_
  refine lv_seti (v := T_kn tA kI kB) (congrArg (T_kn tA kI) (nI_clamp (by omega))) ?_
  refine lv_icmp_le (tgt := 43) hx hb dX6_wouldKnow_36 (by decide +kernel) (fun c_3 => ?_) (fun c_3 => ?_)
  · refine lv_aload_n hx hb (g_42 bX6_wouldKnow rfl) rfl (lv_at hl 1 rfl) ?_
    refine va_get (D := G) (ci := 5) (v := .ref qmK) (C := RX6) (T := TX6) (N := 35) hx hb hts iX_X6 hown hK hP 0 rfl rfl 14 (by decide +kernel) (hts _ m_t864) (fun _ h9 => h9) rfl (g_180 (v := 48) bX6_wouldKnow rfl) ?_
    refine lv_iload_n hx hb (g_27 bX6_wouldKnow rfl) rfl (lv_at hl 2 rfl) ?_
    refine va_alda hx hb hK hP 19 3 rfl rfl (in8 (by omega)) (g_50 bX6_wouldKnow rfl) ?_
    refine lv_setv (v := .ref (rK kI)) (g_ref (by omega)) ?_
    refine lv_iload_n hx hb (g_28 bX6_wouldKnow rfl) rfl (lv_at hl 3 rfl) ?_
    refine va_iald hx hb hK hP (20 + kI) 0 (sg8 (n0 := 20) (f := (fun j => zzI cy (rK j) 8 (T_kn tA j))) rfl rfl rfl rfl rfl rfl rfl rfl kI (by omega)) rfl (vp_in_nI (by omega) (by omega)) (g_46 bX6_wouldKnow rfl) ?_
    refine lv_seti (v := T_kn tA kI kB) (congrArg (T_kn tA kI) (nI_clamp (by omega))) ?_
    exact endR hx hb hr hlocks rfl (by unfold zwk; rw [mx_le c_3]) (g_172 bX6_wouldKnow rfl)
  · refine lv_iload_n hx hb (g_29 bX6_wouldKnow rfl) rfl (lv_at hl 0 rfl) ?_
    refine lv_goto (tgt := 51) hx hb dX6_wouldKnow_40 (by decide +kernel) ?_
    exact endR hx hb hr hlocks rfl (by unfold zwk; rw [mx_gt c_3]) (g_172 bX6_wouldKnow rfl)
set_option maxHeartbeats 4000000 in
set_option maxRecDepth 100000 in
theorem c_X6_reads (l : Launch) (G : va_G) (cy : Nat → ClassId) (sz : Nat) (qm : Nat) (v0 : Value) (v1 : Value) (v2 : Value) (v3 : Value) (v4 : Value) (v5 : Value) (v6 : Value) (v7 : Value) (v8 : Value) (v9 : Value) (tA : TA) (qmB : Nat) (qmO : Nat) (qmK : Nat) (iEn : Int32) (iTk : Int32) (v18 : Value) (v19 : Value) (v20 : Value) (v21 : Value) (v22 : Value) (v23 : Value) (v24 : Value) (v25 : Value) (v26 : Value) (iLv : Int32) (iWs : Int32) (v29 : Value) (v30 : Value) (v31 : Value) (v32 : Value) (v33 : Value) (v34 : Value) (rB : Nat → Nat) (rO : Nat → Nat) (rK : Nat → Nat) (kI : Nat) (kB : Nat)  (hI : kI < 8) (hJ : kB < 8) : MW l yX6_reads cX6_reads 3 none 4 0 0 G cy [zzO qm 5 (v0 :: v1 :: v2 :: v3 :: v4 :: v5 :: v6 :: v7 :: v8 :: v9 :: .int (nI (T_nb tA)) :: .ref qmB :: .int (nI (T_np tA)) :: .ref qmO :: .ref qmK :: .int iEn :: .int iTk :: .int (T_sd tA) :: v18 :: v19 :: v20 :: v21 :: v22 :: v23 :: v24 :: v25 :: v26 :: .int iLv :: .int iWs :: v29 :: v30 :: v31 :: v32 :: v33 :: v34 :: []), zzG cy 3 qmB rB, zzI cy (rB 0) 4 (bkR tA 0), zzI cy (rB 1) 4 (bkR tA 1), zzI cy (rB 2) 4 (bkR tA 2), zzI cy (rB 3) 4 (bkR tA 3), zzI cy (rB 4) 4 (bkR tA 4), zzI cy (rB 5) 4 (bkR tA 5), zzI cy (rB 6) 4 (bkR tA 6), zzI cy (rB 7) 4 (bkR tA 7), zzG cy 3 qmO rO, zzI cy (rO 0) 5 (onR tA 0), zzI cy (rO 1) 5 (onR tA 1), zzI cy (rO 2) 5 (onR tA 2), zzI cy (rO 3) 5 (onR tA 3), zzI cy (rO 4) 5 (onR tA 4), zzI cy (rO 5) 5 (onR tA 5), zzI cy (rO 6) 5 (onR tA 6), zzI cy (rO 7) 5 (onR tA 7), zzG cy 3 qmK rK, zzI cy (rK 0) 8 (T_kn tA 0), zzI cy (rK 1) 8 (T_kn tA 1), zzI cy (rK 2) 8 (T_kn tA 2), zzI cy (rK 3) 8 (T_kn tA 3), zzI cy (rK 4) 8 (T_kn tA 4), zzI cy (rK 5) 8 (T_kn tA 5), zzI cy (rK 6) 8 (T_kn tA 6), zzI cy (rK 7) 8 (T_kn tA 7)] sz [.ref qm, .int (nI kI), .int (nI kB)] (Wv G (fun u => u = [zzO qm 5 (v0 :: v1 :: v2 :: v3 :: v4 :: v5 :: v6 :: v7 :: v8 :: v9 :: .int (nI (T_nb (rdT tA kI kB))) :: .ref qmB :: .int (nI (T_np (rdT tA kI kB))) :: .ref qmO :: .ref qmK :: .int iEn :: .int iTk :: .int (T_sd (rdT tA kI kB)) :: v18 :: v19 :: v20 :: v21 :: v22 :: v23 :: v24 :: v25 :: v26 :: .int iLv :: .int iWs :: v29 :: v30 :: v31 :: v32 :: v33 :: v34 :: []), zzG cy 3 qmB rB, zzI cy (rB 0) 4 (bkR (rdT tA kI kB) 0), zzI cy (rB 1) 4 (bkR (rdT tA kI kB) 1), zzI cy (rB 2) 4 (bkR (rdT tA kI kB) 2), zzI cy (rB 3) 4 (bkR (rdT tA kI kB) 3), zzI cy (rB 4) 4 (bkR (rdT tA kI kB) 4), zzI cy (rB 5) 4 (bkR (rdT tA kI kB) 5), zzI cy (rB 6) 4 (bkR (rdT tA kI kB) 6), zzI cy (rB 7) 4 (bkR (rdT tA kI kB) 7), zzG cy 3 qmO rO, zzI cy (rO 0) 5 (onR (rdT tA kI kB) 0), zzI cy (rO 1) 5 (onR (rdT tA kI kB) 1), zzI cy (rO 2) 5 (onR (rdT tA kI kB) 2), zzI cy (rO 3) 5 (onR (rdT tA kI kB) 3), zzI cy (rO 4) 5 (onR (rdT tA kI kB) 4), zzI cy (rO 5) 5 (onR (rdT tA kI kB) 5), zzI cy (rO 6) 5 (onR (rdT tA kI kB) 6), zzI cy (rO 7) 5 (onR (rdT tA kI kB) 7), zzG cy 3 qmK rK, zzI cy (rK 0) 8 (T_kn (rdT tA kI kB) 0), zzI cy (rK 1) 8 (T_kn (rdT tA kI kB) 1), zzI cy (rK 2) 8 (T_kn (rdT tA kI kB) 2), zzI cy (rK 3) 8 (T_kn (rdT tA kI kB) 3), zzI cy (rK 4) 8 (T_kn (rdT tA kI kB) 4), zzI cy (rK 5) 8 (T_kn (rdT tA kI kB) 5), zzI cy (rK 6) 8 (T_kn (rdT tA kI kB) 6), zzI cy (rK 7) 8 (T_kn (rdT tA kI kB) 7)])) := by
  refine enW RX6 (by decide +kernel) rfl (Nat.le_of_ble_eq_true rfl) (fun p e s m below meth c ls A hx hb hml hown hts hr hlocks hP hN hl hin hD hA hS => ?_)
  have hin : meth.name = _ := hin
  have hK := hN.1
  replace hl : lv_has ls 3 [(0, .ref qm), (1, .int (nI kI)), (2, .int (nI kB))] := hl
  refine lv_aload_n hx hb (g_42 bX6_reads rfl) rfl (lv_at hl 0 rfl) ?_
  refine va_get (D := G) (ci := 5) (v := .ref qmK) (C := RX6) (T := TX6) (N := 35) hx hb hts iX_X6 hown hK hP 0 rfl rfl 14 (by decide +kernel) (hts _ m_t864) (fun _ h9 => h9) rfl (g_180 (v := 48) bX6_reads rfl) ?_
  refine lv_iload_n hx hb (g_27 bX6_reads rfl) rfl (lv_at hl 1 rfl) ?_
  refine va_alda hx hb hK hP 19 3 rfl rfl (in8 (by omega)) (g_50 bX6_reads rfl) ?_
  refine lv_setv (v := .ref (rK kI)) (g_ref (by omega)) ?_
  refine lv_iload_n hx hb (g_28 bX6_reads rfl) rfl (lv_at hl 2 rfl) ?_
  refine lv_aload_n hx hb (g_42 bX6_reads rfl) rfl (lv_at hl 0 rfl) ?_
  refine lv_iload_n hx hb (g_27 bX6_reads rfl) rfl (lv_at hl 1 rfl) ?_
  refine lv_iload_n hx hb (g_28 bX6_reads rfl) rfl (lv_at hl 2 rfl) ?_
  refine kRi (rV (As := [.int (nI kI), .int (nI kB)]) (rest := [.int (nI kB), .ref (rK kI)]) (b := qm) ⟨hx, hb, hml, hown, hts⟩ (c_X6_wouldKnow l G cy qm v0 v1 v2 v3 v4 v5 v6 v7 v8 v9 tA qmB qmO qmK iEn iTk v18 v19 v20 v21 v22 v23 v24 v25 v26 iLv iWs v29 v30 v31 v32 v33 v34 rB rO rK kI kB hI hJ) L_X6_254 (preRV (q := (RX6, TX6, 35)) hN hP (trueIx 0 [true, true, true, true, true, true, true, true, true, true, true, true, true, true, true, true, true, true, true, true, true, true, true, true, true, true, true, true]) (sel_fm rfl rfl) 0 5 rfl rfl) rfl ⟨Nat.le_of_ble_eq_true rfl, Nat.le_of_ble_eq_true rfl⟩ hl.1 (Nat.le_of_ble_eq_true rfl) (g_182 (v := 254) bX6_reads rfl) ⟨Nat.le_of_ble_eq_true rfl, Nat.le_of_ble_eq_true rfl⟩) (fun r_1 h_2 => ?_)
  subst h_2
  refine va_iast hx hb hK hP hD hS (20 + kI) 0 ((sg8 (n0 := 20) (f := (fun j => zzI cy (rK j) 8 (T_kn tA j))) rfl rfl rfl rfl rfl rfl rfl rfl) kI (by omega)) rfl (vp_in_nI (by omega) (by omega)) (g_79 bX6_reads rfl) (fun H locs => ?_)
  clear hP hD hS
  intro hP hD hS
  rw [nI_clamp (n := kB) (by omega)] at hP hD
  have hPD := st8PD (ws' := [zzO qm 5 (v0 :: v1 :: v2 :: v3 :: v4 :: v5 :: v6 :: v7 :: v8 :: v9 :: .int (nI (T_nb (T_setkn tA (updM (T_kn tA) kI kB (zwk tA kI kB))))) :: .ref qmB :: .int (nI (T_np (T_setkn tA (updM (T_kn tA) kI kB (zwk tA kI kB))))) :: .ref qmO :: .ref qmK :: .int iEn :: .int iTk :: .int (T_sd (T_setkn tA (updM (T_kn tA) kI kB (zwk tA kI kB)))) :: v18 :: v19 :: v20 :: v21 :: v22 :: v23 :: v24 :: v25 :: v26 :: .int iLv :: .int iWs :: v29 :: v30 :: v31 :: v32 :: v33 :: v34 :: []), zzG cy 3 qmB rB, zzI cy (rB 0) 4 (bkR (T_setkn tA (updM (T_kn tA) kI kB (zwk tA kI kB))) 0), zzI cy (rB 1) 4 (bkR (T_setkn tA (updM (T_kn tA) kI kB (zwk tA kI kB))) 1), zzI cy (rB 2) 4 (bkR (T_setkn tA (updM (T_kn tA) kI kB (zwk tA kI kB))) 2), zzI cy (rB 3) 4 (bkR (T_setkn tA (updM (T_kn tA) kI kB (zwk tA kI kB))) 3), zzI cy (rB 4) 4 (bkR (T_setkn tA (updM (T_kn tA) kI kB (zwk tA kI kB))) 4), zzI cy (rB 5) 4 (bkR (T_setkn tA (updM (T_kn tA) kI kB (zwk tA kI kB))) 5), zzI cy (rB 6) 4 (bkR (T_setkn tA (updM (T_kn tA) kI kB (zwk tA kI kB))) 6), zzI cy (rB 7) 4 (bkR (T_setkn tA (updM (T_kn tA) kI kB (zwk tA kI kB))) 7), zzG cy 3 qmO rO, zzI cy (rO 0) 5 (onR (T_setkn tA (updM (T_kn tA) kI kB (zwk tA kI kB))) 0), zzI cy (rO 1) 5 (onR (T_setkn tA (updM (T_kn tA) kI kB (zwk tA kI kB))) 1), zzI cy (rO 2) 5 (onR (T_setkn tA (updM (T_kn tA) kI kB (zwk tA kI kB))) 2), zzI cy (rO 3) 5 (onR (T_setkn tA (updM (T_kn tA) kI kB (zwk tA kI kB))) 3), zzI cy (rO 4) 5 (onR (T_setkn tA (updM (T_kn tA) kI kB (zwk tA kI kB))) 4), zzI cy (rO 5) 5 (onR (T_setkn tA (updM (T_kn tA) kI kB (zwk tA kI kB))) 5), zzI cy (rO 6) 5 (onR (T_setkn tA (updM (T_kn tA) kI kB (zwk tA kI kB))) 6), zzI cy (rO 7) 5 (onR (T_setkn tA (updM (T_kn tA) kI kB (zwk tA kI kB))) 7), zzG cy 3 qmK rK, zzI cy (rK 0) 8 (T_kn (T_setkn tA (updM (T_kn tA) kI kB (zwk tA kI kB))) 0), zzI cy (rK 1) 8 (T_kn (T_setkn tA (updM (T_kn tA) kI kB (zwk tA kI kB))) 1), zzI cy (rK 2) 8 (T_kn (T_setkn tA (updM (T_kn tA) kI kB (zwk tA kI kB))) 2), zzI cy (rK 3) 8 (T_kn (T_setkn tA (updM (T_kn tA) kI kB (zwk tA kI kB))) 3), zzI cy (rK 4) 8 (T_kn (T_setkn tA (updM (T_kn tA) kI kB (zwk tA kI kB))) 4), zzI cy (rK 5) 8 (T_kn (T_setkn tA (updM (T_kn tA) kI kB (zwk tA kI kB))) 5), zzI cy (rK 6) 8 (T_kn (T_setkn tA (updM (T_kn tA) kI kB (zwk tA kI kB))) 6), zzI cy (rK 7) 8 (T_kn (T_setkn tA (updM (T_kn tA) kI kB (zwk tA kI kB))) 7)]) (k := kI) (g1 := T_kn (T_setkn tA (updM (T_kn tA) kI kB (zwk tA kI kB))) kI) hP hD (sg8 (n0 := 20) (f := (fun j => zzI cy (rK j) 8 (T_kn tA j))) rfl rfl rfl rfl rfl rfl rfl rfl) (sg8 (n0 := 20) (f := (fun j => zzI cy (rK j) 8 (T_kn (T_setkn tA (updM (T_kn tA) kI kB (zwk tA kI kB))) j))) rfl rfl rfl rfl rfl rfl rfl rfl) rfl rfl (by omega) rfl (fun i _ => (congrFun (kn_u tA kI kB (zwk tA kI kB)) i).symm) (fun j hj => congrArg (zzI cy (rK j) 8) (kn_n tA kI kB (zwk tA kI kB) hj))
  clear hP hD
  obtain ⟨hP, hD⟩ := hPD
  refine lv_aload_n hx hb (g_42 bX6_reads rfl) rfl (lv_at hl 0 rfl) ?_
  refine va_get (D := G) (ci := 5) (v := .ref qmB) (C := RX6) (T := TX6) (N := 35) hx hb hts iX_X6 hown hK hP 0 rfl rfl 11 (by decide +kernel) (hts _ m_t861) (fun _ h9 => h9) rfl (g_180 (v := 42) bX6_reads rfl) ?_
  refine lv_iload_n hx hb (g_28 bX6_reads rfl) rfl (lv_at hl 2 rfl) ?_
  refine va_alda hx hb hK hP 1 3 rfl rfl (in8 (by omega)) (g_50 bX6_reads rfl) ?_
  refine lv_setv (v := .ref (rB kB)) (g_ref (by omega)) ?_
  refine lv_iconst (v := 3) hx hb (g_6 bX6_reads rfl) (by decide +kernel) ?_
  refine lv_iconst (v := 1) hx hb (g_4 bX6_reads rfl) (by decide +kernel) ?_
  refine va_iast hx hb hK hP hD hS (2 + kB) 0 ((sg8 (n0 := 2) (f := (fun j => zzI cy (rB j) 4 (bkR (T_setkn tA (updM (T_kn tA) kI kB (zwk tA kI kB))) j))) rfl rfl rfl rfl rfl rfl rfl rfl) kB (by omega)) rfl (in_c rfl) (g_79 bX6_reads rfl) (fun H locs => ?_)
  clear hP hD hS
  intro hP hD hS
  have hPD := st8PD (ws' := [zzO qm 5 (v0 :: v1 :: v2 :: v3 :: v4 :: v5 :: v6 :: v7 :: v8 :: v9 :: .int (nI (T_nb (T_setwh (T_setkn tA (updM (T_kn tA) kI kB (zwk tA kI kB))) (updB (T_wh (T_setkn tA (updM (T_kn tA) kI kB (zwk tA kI kB)))) kB true)))) :: .ref qmB :: .int (nI (T_np (T_setwh (T_setkn tA (updM (T_kn tA) kI kB (zwk tA kI kB))) (updB (T_wh (T_setkn tA (updM (T_kn tA) kI kB (zwk tA kI kB)))) kB true)))) :: .ref qmO :: .ref qmK :: .int iEn :: .int iTk :: .int (T_sd (T_setwh (T_setkn tA (updM (T_kn tA) kI kB (zwk tA kI kB))) (updB (T_wh (T_setkn tA (updM (T_kn tA) kI kB (zwk tA kI kB)))) kB true))) :: v18 :: v19 :: v20 :: v21 :: v22 :: v23 :: v24 :: v25 :: v26 :: .int iLv :: .int iWs :: v29 :: v30 :: v31 :: v32 :: v33 :: v34 :: []), zzG cy 3 qmB rB, zzI cy (rB 0) 4 (bkR (T_setwh (T_setkn tA (updM (T_kn tA) kI kB (zwk tA kI kB))) (updB (T_wh (T_setkn tA (updM (T_kn tA) kI kB (zwk tA kI kB)))) kB true)) 0), zzI cy (rB 1) 4 (bkR (T_setwh (T_setkn tA (updM (T_kn tA) kI kB (zwk tA kI kB))) (updB (T_wh (T_setkn tA (updM (T_kn tA) kI kB (zwk tA kI kB)))) kB true)) 1), zzI cy (rB 2) 4 (bkR (T_setwh (T_setkn tA (updM (T_kn tA) kI kB (zwk tA kI kB))) (updB (T_wh (T_setkn tA (updM (T_kn tA) kI kB (zwk tA kI kB)))) kB true)) 2), zzI cy (rB 3) 4 (bkR (T_setwh (T_setkn tA (updM (T_kn tA) kI kB (zwk tA kI kB))) (updB (T_wh (T_setkn tA (updM (T_kn tA) kI kB (zwk tA kI kB)))) kB true)) 3), zzI cy (rB 4) 4 (bkR (T_setwh (T_setkn tA (updM (T_kn tA) kI kB (zwk tA kI kB))) (updB (T_wh (T_setkn tA (updM (T_kn tA) kI kB (zwk tA kI kB)))) kB true)) 4), zzI cy (rB 5) 4 (bkR (T_setwh (T_setkn tA (updM (T_kn tA) kI kB (zwk tA kI kB))) (updB (T_wh (T_setkn tA (updM (T_kn tA) kI kB (zwk tA kI kB)))) kB true)) 5), zzI cy (rB 6) 4 (bkR (T_setwh (T_setkn tA (updM (T_kn tA) kI kB (zwk tA kI kB))) (updB (T_wh (T_setkn tA (updM (T_kn tA) kI kB (zwk tA kI kB)))) kB true)) 6), zzI cy (rB 7) 4 (bkR (T_setwh (T_setkn tA (updM (T_kn tA) kI kB (zwk tA kI kB))) (updB (T_wh (T_setkn tA (updM (T_kn tA) kI kB (zwk tA kI kB)))) kB true)) 7), zzG cy 3 qmO rO, zzI cy (rO 0) 5 (onR (T_setwh (T_setkn tA (updM (T_kn tA) kI kB (zwk tA kI kB))) (updB (T_wh (T_setkn tA (updM (T_kn tA) kI kB (zwk tA kI kB)))) kB true)) 0), zzI cy (rO 1) 5 (onR (T_setwh (T_setkn tA (updM (T_kn tA) kI kB (zwk tA kI kB))) (updB (T_wh (T_setkn tA (updM (T_kn tA) kI kB (zwk tA kI kB)))) kB true)) 1), zzI cy (rO 2) 5 (onR (T_setwh (T_setkn tA (updM (T_kn tA) kI kB (zwk tA kI kB))) (updB (T_wh (T_setkn tA (updM (T_kn tA) kI kB (zwk tA kI kB)))) kB true)) 2), zzI cy (rO 3) 5 (onR (T_setwh (T_setkn tA (updM (T_kn tA) kI kB (zwk tA kI kB))) (updB (T_wh (T_setkn tA (updM (T_kn tA) kI kB (zwk tA kI kB)))) kB true)) 3), zzI cy (rO 4) 5 (onR (T_setwh (T_setkn tA (updM (T_kn tA) kI kB (zwk tA kI kB))) (updB (T_wh (T_setkn tA (updM (T_kn tA) kI kB (zwk tA kI kB)))) kB true)) 4), zzI cy (rO 5) 5 (onR (T_setwh (T_setkn tA (updM (T_kn tA) kI kB (zwk tA kI kB))) (updB (T_wh (T_setkn tA (updM (T_kn tA) kI kB (zwk tA kI kB)))) kB true)) 5), zzI cy (rO 6) 5 (onR (T_setwh (T_setkn tA (updM (T_kn tA) kI kB (zwk tA kI kB))) (updB (T_wh (T_setkn tA (updM (T_kn tA) kI kB (zwk tA kI kB)))) kB true)) 6), zzI cy (rO 7) 5 (onR (T_setwh (T_setkn tA (updM (T_kn tA) kI kB (zwk tA kI kB))) (updB (T_wh (T_setkn tA (updM (T_kn tA) kI kB (zwk tA kI kB)))) kB true)) 7), zzG cy 3 qmK rK, zzI cy (rK 0) 8 (T_kn (T_setwh (T_setkn tA (updM (T_kn tA) kI kB (zwk tA kI kB))) (updB (T_wh (T_setkn tA (updM (T_kn tA) kI kB (zwk tA kI kB)))) kB true)) 0), zzI cy (rK 1) 8 (T_kn (T_setwh (T_setkn tA (updM (T_kn tA) kI kB (zwk tA kI kB))) (updB (T_wh (T_setkn tA (updM (T_kn tA) kI kB (zwk tA kI kB)))) kB true)) 1), zzI cy (rK 2) 8 (T_kn (T_setwh (T_setkn tA (updM (T_kn tA) kI kB (zwk tA kI kB))) (updB (T_wh (T_setkn tA (updM (T_kn tA) kI kB (zwk tA kI kB)))) kB true)) 2), zzI cy (rK 3) 8 (T_kn (T_setwh (T_setkn tA (updM (T_kn tA) kI kB (zwk tA kI kB))) (updB (T_wh (T_setkn tA (updM (T_kn tA) kI kB (zwk tA kI kB)))) kB true)) 3), zzI cy (rK 4) 8 (T_kn (T_setwh (T_setkn tA (updM (T_kn tA) kI kB (zwk tA kI kB))) (updB (T_wh (T_setkn tA (updM (T_kn tA) kI kB (zwk tA kI kB)))) kB true)) 4), zzI cy (rK 5) 8 (T_kn (T_setwh (T_setkn tA (updM (T_kn tA) kI kB (zwk tA kI kB))) (updB (T_wh (T_setkn tA (updM (T_kn tA) kI kB (zwk tA kI kB)))) kB true)) 5), zzI cy (rK 6) 8 (T_kn (T_setwh (T_setkn tA (updM (T_kn tA) kI kB (zwk tA kI kB))) (updB (T_wh (T_setkn tA (updM (T_kn tA) kI kB (zwk tA kI kB)))) kB true)) 6), zzI cy (rK 7) 8 (T_kn (T_setwh (T_setkn tA (updM (T_kn tA) kI kB (zwk tA kI kB))) (updB (T_wh (T_setkn tA (updM (T_kn tA) kI kB (zwk tA kI kB)))) kB true)) 7)]) (k := kB) (g1 := bkR (T_setwh (T_setkn tA (updM (T_kn tA) kI kB (zwk tA kI kB))) (updB (T_wh (T_setkn tA (updM (T_kn tA) kI kB (zwk tA kI kB)))) kB true)) kB) hP hD (sg8 (n0 := 2) (f := (fun j => zzI cy (rB j) 4 (bkR (T_setkn tA (updM (T_kn tA) kI kB (zwk tA kI kB))) j))) rfl rfl rfl rfl rfl rfl rfl rfl) (sg8 (n0 := 2) (f := (fun j => zzI cy (rB j) 4 (bkR (T_setwh (T_setkn tA (updM (T_kn tA) kI kB (zwk tA kI kB))) (updB (T_wh (T_setkn tA (updM (T_kn tA) kI kB (zwk tA kI kB)))) kB true)) j))) rfl rfl rfl rfl rfl rfl rfl rfl) rfl rfl (by omega) rfl (bk_w3 (T_setkn tA (updM (T_kn tA) kI kB (zwk tA kI kB))) kB true) (fun j hj => congrArg (zzI cy (rB j) 4) (bk_n3 (T_setkn tA (updM (T_kn tA) kI kB (zwk tA kI kB))) kB true hj))
  clear hP hD
  obtain ⟨hP, hD⟩ := hPD
  exact endVs [[true, true, true, true, true, true, true, true, true, true, true, true, true, true, true, true, true, true, true, true, true, true, true, true, true, true, true, true]] hx hb hr hlocks hP hD rfl (by decide +kernel) hS rfl (g_177 bX6_reads rfl)
set_option maxHeartbeats 4000000 in
set_option maxRecDepth 100000 in
theorem c_X6_moreBy (l : Launch) (G : va_G) (cy : Nat → ClassId) (qm : Nat) (v0 : Value) (v1 : Value) (v2 : Value) (v3 : Value) (v4 : Value) (v5 : Value) (v6 : Value) (v7 : Value) (v8 : Value) (v9 : Value) (tA : TA) (qmB : Nat) (qmO : Nat) (qmK : Nat) (iEn : Int32) (iTk : Int32) (v18 : Value) (v19 : Value) (v20 : Value) (v21 : Value) (v22 : Value) (v23 : Value) (v24 : Value) (v25 : Value) (v26 : Value) (iLv : Int32) (iWs : Int32) (v29 : Value) (v30 : Value) (v31 : Value) (v32 : Value) (v33 : Value) (v34 : Value) (rB : Nat → Nat) (rO : Nat → Nat) (rK : Nat → Nat) (kI : Nat) (kO : Nat) (kB : Nat)  (hI : kI < 8) (hO : kO < 8) (hJ : kB < 8) (hTI : TI tA) : MR l yX6_moreBy cX6_moreBy 5 (some .int) 1 G cy [zzO qm 5 (v0 :: v1 :: v2 :: v3 :: v4 :: v5 :: v6 :: v7 :: v8 :: v9 :: .int (nI (T_nb tA)) :: .ref qmB :: .int (nI (T_np tA)) :: .ref qmO :: .ref qmK :: .int iEn :: .int iTk :: .int (T_sd tA) :: v18 :: v19 :: v20 :: v21 :: v22 :: v23 :: v24 :: v25 :: v26 :: .int iLv :: .int iWs :: v29 :: v30 :: v31 :: v32 :: v33 :: v34 :: []), zzG cy 3 qmB rB, zzI cy (rB 0) 4 (bkR tA 0), zzI cy (rB 1) 4 (bkR tA 1), zzI cy (rB 2) 4 (bkR tA 2), zzI cy (rB 3) 4 (bkR tA 3), zzI cy (rB 4) 4 (bkR tA 4), zzI cy (rB 5) 4 (bkR tA 5), zzI cy (rB 6) 4 (bkR tA 6), zzI cy (rB 7) 4 (bkR tA 7), zzG cy 3 qmO rO, zzI cy (rO 0) 5 (onR tA 0), zzI cy (rO 1) 5 (onR tA 1), zzI cy (rO 2) 5 (onR tA 2), zzI cy (rO 3) 5 (onR tA 3), zzI cy (rO 4) 5 (onR tA 4), zzI cy (rO 5) 5 (onR tA 5), zzI cy (rO 6) 5 (onR tA 6), zzI cy (rO 7) 5 (onR tA 7), zzG cy 3 qmK rK, zzI cy (rK 0) 8 (T_kn tA 0), zzI cy (rK 1) 8 (T_kn tA 1), zzI cy (rK 2) 8 (T_kn tA 2), zzI cy (rK 3) 8 (T_kn tA 3), zzI cy (rK 4) 8 (T_kn tA 4), zzI cy (rK 5) 8 (T_kn tA 5), zzI cy (rK 6) 8 (T_kn tA 6), zzI cy (rK 7) 8 (T_kn tA 7)] [.ref qm, .int (nI kI), .int (nI kO), .int (nI kB)] (vp_Si (fun r => (r = (zgt tA kI kO kB)))) := by
  refine enR RX6 (by decide +kernel) rfl (Nat.le_of_ble_eq_true rfl) (fun p e s m below meth c ls hx hb hml hown hts hr hlocks hP hN hl => ?_)
  have hK := hN.1
  replace hl : lv_has ls 5 [(0, .ref qm), (1, .int (nI kI)), (2, .int (nI kO)), (3, .int (nI kB))] := hl
  refine lv_aload_n hx hb (g_42 bX6_moreBy rfl) rfl (lv_at hl 0 rfl) ?_
  refine va_get (D := G) (ci := 5) (v := .ref qmK) (C := RX6) (T := TX6) (N := 35) hx hb hts iX_X6 hown hK hP 0 rfl rfl 14 (by decide +kernel) (hts _ m_t864) (fun _ h9 => h9) rfl (g_180 (v := 48) bX6_moreBy rfl) ?_
  refine lv_iload_n hx hb (g_27 bX6_moreBy rfl) rfl (lv_at hl 1 rfl) ?_
  refine va_alda hx hb hK hP 19 3 rfl rfl (in8 (by omega)) (g_50 bX6_moreBy rfl) ?_
  refine lv_setv (v := .ref (rK kI)) (g_ref (by omega)) ?_
  refine lv_iload_n hx hb (g_29 bX6_moreBy rfl) rfl (lv_at hl 3 rfl) ?_
  refine va_iald hx hb hK hP (20 + kI) 0 (sg8 (n0 := 20) (f := (fun j => zzI cy (rK j) 8 (T_kn tA j))) rfl rfl rfl rfl rfl rfl rfl rfl kI (by omega)) rfl (vp_in_nI (by omega) (by omega)) (g_46 bX6_moreBy rfl) ?_
  refine lv_seti (v := T_kn tA kI kB) (congrArg (T_kn tA kI) (nI_clamp (by omega))) ?_
  refine lv_aload_n hx hb (g_42 bX6_moreBy rfl) rfl (lv_at hl 0 rfl) ?_
  refine va_get (D := G) (ci := 5) (v := .ref qmO) (C := RX6) (T := TX6) (N := 35) hx hb hts iX_X6 hown hK hP 0 rfl rfl 13 (by decide +kernel) (hts _ m_t863) (fun _ h9 => h9) rfl (g_180 (v := 45) bX6_moreBy rfl) ?_
  refine lv_iload_n hx hb (g_27 bX6_moreBy rfl) rfl (lv_at hl 1 rfl) ?_
  refine va_alda hx hb hK hP 10 3 rfl rfl (in8 (by omega)) (g_50 bX6_moreBy rfl) ?_
  refine lv_setv (v := .ref (rO kI)) (g_ref (by omega)) ?_
  refine lv_iconst (v := 3) hx hb (g_6 bX6_moreBy rfl) (by decide +kernel) ?_
  refine va_iald hx hb hK hP (11 + kI) 0 (sg8 (n0 := 11) (f := (fun j => zzI cy (rO j) 5 (onR tA j))) rfl rfl rfl rfl rfl rfl rfl rfl kI (by omega)) rfl (in_c rfl) (g_46 bX6_moreBy rfl) ?_
  refine lv_seti (v := T_te tA kI) (on_3 _ _) ?_
  refine lv_imul hx hb (g_104 bX6_moreBy rfl) ?_
  refine lv_bipush (v := 10) hx hb dX6_moreBy_17 (by decide +kernel) ?_
  refine lv_idiv hx hb (g_108 bX6_moreBy rfl) (by decide +kernel) ?_
  refine lv_istore (lv' := [(4, .int (((T_kn tA kI kB) * (T_te tA kI)) / 10)), (0, .ref qm), (1, .int (nI kI)), (2, .int (nI kO)), (3, .int (nI kB))]) hx hb (g_54 (v := 4) bX6_moreBy rfl) hl (by decide +kernel) rfl (fun ls => ?_)
  clear hl
  intro hl
  refine lv_iload hx hb (g_21 (v := 4) bX6_moreBy rfl) (lv_at hl 0 rfl) ?_
  refine lv_aload_n hx hb (g_42 bX6_moreBy rfl) rfl (lv_at hl 1 rfl) ?_
  refine va_get (D := G) (ci := 5) (v := .ref qmK) (C := RX6) (T := TX6) (N := 35) hx hb hts iX_X6 hown hK hP 0 rfl rfl 14 (by decide +kernel) (hts _ m_t864) (fun _ h9 => h9) rfl (g_180 (v := 48) bX6_moreBy rfl) ?_
  refine lv_iload_n hx hb (g_28 bX6_moreBy rfl) rfl (lv_at hl 3 rfl) ?_
  refine va_alda hx hb hK hP 19 3 rfl rfl (in8 (by omega)) (g_50 bX6_moreBy rfl) ?_
  refine lv_setv (v := .ref (rK kO)) (g_ref (by omega)) ?_
  refine lv_iload_n hx hb (g_29 bX6_moreBy rfl) rfl (lv_at hl 4 rfl) ?_
  refine va_iald hx hb hK hP (20 + kO) 0 (sg8 (n0 := 20) (f := (fun j => zzI cy (rK j) 8 (T_kn tA j))) rfl rfl rfl rfl rfl rfl rfl rfl kO (by omega)) rfl (vp_in_nI (by omega) (by omega)) (g_46 bX6_moreBy rfl) ?_
  refine lv_seti (v := T_kn tA kO kB) (congrArg (T_kn tA kO) (nI_clamp (by omega))) ?_
  refine lv_icmp_le (tgt := 49) hx hb dX6_moreBy_32 (by decide +kernel) (fun c_1 => ?_) (fun c_1 => ?_)
  · refine lv_iconst (v := 0) hx hb (g_3 bX6_moreBy rfl) (by decide +kernel) ?_
    exact endR hx hb hr hlocks rfl (by unfold zgt; rw [gt_no (r_te (hTI.2.1 _ _) (hTI.2.2.2.2.2 _)) (hTI.2.1 _ _) (Int32.not_lt.mpr c_1)]) (g_172 bX6_moreBy rfl)
  · refine lv_iload hx hb (g_21 (v := 4) bX6_moreBy rfl) (lv_at hl 0 rfl) ?_
    refine lv_aload_n hx hb (g_42 bX6_moreBy rfl) rfl (lv_at hl 1 rfl) ?_
    refine va_get (D := G) (ci := 5) (v := .ref qmK) (C := RX6) (T := TX6) (N := 35) hx hb hts iX_X6 hown hK hP 0 rfl rfl 14 (by decide +kernel) (hts _ m_t864) (fun _ h9 => h9) rfl (g_180 (v := 48) bX6_moreBy rfl) ?_
    refine lv_iload_n hx hb (g_28 bX6_moreBy rfl) rfl (lv_at hl 3 rfl) ?_
    refine va_alda hx hb hK hP 19 3 rfl rfl (in8 (by omega)) (g_50 bX6_moreBy rfl) ?_
    refine lv_setv (v := .ref (rK kO)) (g_ref (by omega)) ?_
    refine lv_iload_n hx hb (g_29 bX6_moreBy rfl) rfl (lv_at hl 4 rfl) ?_
    refine va_iald hx hb hK hP (20 + kO) 0 (sg8 (n0 := 20) (f := (fun j => zzI cy (rK j) 8 (T_kn tA j))) rfl rfl rfl rfl rfl rfl rfl rfl kO (by omega)) rfl (vp_in_nI (by omega) (by omega)) (g_46 bX6_moreBy rfl) ?_
    refine lv_seti (v := T_kn tA kO kB) (congrArg (T_kn tA kO) (nI_clamp (by omega))) ?_
    refine lv_isub hx hb (g_100 bX6_moreBy rfl) ?_
    refine lv_goto (tgt := 50) hx hb dX6_moreBy_46 (by decide +kernel) ?_
    exact endR hx hb hr hlocks rfl (by unfold zgt; rw [gt_up (r_te (hTI.2.1 _ _) (hTI.2.2.2.2.2 _)) (hTI.2.1 _ _) (Int32.not_le.mp c_1)]) (g_172 bX6_moreBy rfl)
set_option maxHeartbeats 4000000 in
set_option maxRecDepth 100000 in
theorem c_X6_greatest (l : Launch) (G : va_G) (cy : Nat → ClassId) (qm : Nat) (v0 : Value) (v1 : Value) (v2 : Value) (v3 : Value) (v4 : Value) (v5 : Value) (v6 : Value) (v7 : Value) (v8 : Value) (v9 : Value) (tA : TA) (qmB : Nat) (qmO : Nat) (qmK : Nat) (iEn : Int32) (iTk : Int32) (v18 : Value) (v19 : Value) (v20 : Value) (v21 : Value) (v22 : Value) (v23 : Value) (v24 : Value) (v25 : Value) (v26 : Value) (iLv : Int32) (iWs : Int32) (v29 : Value) (v30 : Value) (v31 : Value) (v32 : Value) (v33 : Value) (v34 : Value) (rO : Nat → Nat) (rK : Nat → Nat) (kB : Nat) (iS : Int32)  (hPp : T_np tA ≤ 8) (hJ : kB < 8) : MR l yX6_greatest cX6_greatest 5 (some .int) 2 G cy [zzO qm 5 (v0 :: v1 :: v2 :: v3 :: v4 :: v5 :: v6 :: v7 :: v8 :: v9 :: .int (nI (T_nb tA)) :: .ref qmB :: .int (nI (T_np tA)) :: .ref qmO :: .ref qmK :: .int iEn :: .int iTk :: .int (T_sd tA) :: v18 :: v19 :: v20 :: v21 :: v22 :: v23 :: v24 :: v25 :: v26 :: .int iLv :: .int iWs :: v29 :: v30 :: v31 :: v32 :: v33 :: v34 :: []), zzG cy 3 qmO rO, zzI cy (rO 0) 5 (onR tA 0), zzI cy (rO 1) 5 (onR tA 1), zzI cy (rO 2) 5 (onR tA 2), zzI cy (rO 3) 5 (onR tA 3), zzI cy (rO 4) 5 (onR tA 4), zzI cy (rO 5) 5 (onR tA 5), zzI cy (rO 6) 5 (onR tA 6), zzI cy (rO 7) 5 (onR tA 7), zzG cy 3 qmK rK, zzI cy (rK 0) 8 (T_kn tA 0), zzI cy (rK 1) 8 (T_kn tA 1), zzI cy (rK 2) 8 (T_kn tA 2), zzI cy (rK 3) 8 (T_kn tA 3), zzI cy (rK 4) 8 (T_kn tA 4), zzI cy (rK 5) 8 (T_kn tA 5), zzI cy (rK 6) 8 (T_kn tA 6), zzI cy (rK 7) 8 (T_kn tA 7)] [.ref qm, .int (nI kB), .int iS] (vp_Si (fun r => (r = (mgr tA kB iS)))) := by
  refine enR RX6 (by decide +kernel) rfl (Nat.le_of_ble_eq_true rfl) (fun p e s m below meth c ls hx hb hml hown hts hr hlocks hP hN hl => ?_)
  have hK := hN.1
  replace hl : lv_has ls 5 [(0, .ref qm), (1, .int (nI kB)), (2, .int iS)] := hl
  refine lv_iconst (v := 0) hx hb (g_3 bX6_greatest rfl) (by decide +kernel) ?_
  refine lv_istore_n (lv' := [(3, .int 0), (0, .ref qm), (1, .int (nI kB)), (2, .int iS)]) hx hb (g_62 bX6_greatest rfl) rfl hl (by decide +kernel) rfl (fun ls => ?_)
  clear hl
  intro hl
  refine lv_iconst (v := 0) hx hb (g_3 bX6_greatest rfl) (by decide +kernel) ?_
  refine lv_istore (lv' := [(4, .int 0), (3, .int 0), (0, .ref qm), (1, .int (nI kB)), (2, .int iS)]) hx hb (g_54 (v := 4) bX6_greatest rfl) hl (by decide +kernel) rfl (fun ls => ?_)
  clear hl
  intro hl
  have lp_1 : ∀ (n_2 : Nat) (j_4 : Nat) (xM_5 : Int32), 8 - j_4 < n_2 → j_4 ≤ T_np tA → xM_5 = gA (fun p => bitb iS p && !T_gn tA p) (fun p => T_kn tA p kB) j_4 → ∀ (ls : Array Slot), lv_has ls 5 [(4, .int (nI j_4)), (3, .int xM_5), (0, .ref qm), (1, .int (nI kB)), (2, .int iS)] → W p l e (Rm 2 0 0) s m (List.toArray (α := Value) [.ref qm, .int (nI kB), .int iS]) below meth c s.heap [] 0 0 (MQ below (vp_Si (fun r => (r = (mgr tA kB iS)))) (List.toArray (α := Value) [.ref qm, .int (nI kB), .int iS]) s 0 0 (fun _ => False)) (F0 m 5 ls []) := by
    intro n_2
    induction n_2 with
    | zero => intro j_4 xM_5 hm9; exact absurd hm9 (Nat.not_lt_zero _)
    | succ n_2 ih_3 =>
      intro j_4 xM_5 hm_8 hj_6 hxM_7 ls hl
      refine lv_iload hx hb (g_21 (v := 4) bX6_greatest rfl) (lv_at hl 0 rfl) ?_
      refine lv_aload_n hx hb (g_42 bX6_greatest rfl) rfl (lv_at hl 2 rfl) ?_
      refine va_get (D := G) (ci := 5) (v := .int (nI (T_np tA))) (C := RX6) (T := TX6) (N := 35) hx hb hts iX_X6 hown hK hP 0 rfl rfl 12 (by decide +kernel) (hts _ m_t862) (fun _ h9 => h9) rfl (g_180 (v := 78) bX6_greatest rfl) ?_
      refine lv_icmp_ge (tgt := 65) hx hb dX6_greatest_11 (by decide +kernel) (fun c_9 => ?_) (fun c_9 => ?_)
      · have hlt_10 : j_4 = T_np tA := Nat.le_antisymm (by omega) (lp_ge rfl rfl (by omega) (by omega) c_9)
        refine lv_iload_n hx hb (g_29 bX6_greatest rfl) rfl (lv_at hl 1 rfl) ?_
        exact endR hx hb hr hlocks rfl (by rw [hxM_7, hlt_10]; rfl) (g_172 bX6_greatest rfl)
      · have hlt_11 : j_4 < T_np tA := lp_lt rfl rfl (by omega) (by omega) c_9
        refine lv_iload_n hx hb (g_28 bX6_greatest rfl) rfl (lv_at hl 4 rfl) ?_
        refine lv_iload hx hb (g_21 (v := 4) bX6_greatest rfl) (lv_at hl 0 rfl) ?_
        refine lv_ishr hx hb (g_122 bX6_greatest rfl) ?_
        refine lv_iconst (v := 1) hx hb (g_4 bX6_greatest rfl) (by decide +kernel) ?_
        refine lv_iand hx hb (g_126 bX6_greatest rfl) ?_
        refine lv_if_eq (tgt := 57) hx hb dX6_greatest_20 (by decide +kernel) (fun c_12 => ?_) (fun c_12 => ?_)
        · refine lv_iload_n hx hb (g_29 bX6_greatest rfl) rfl (lv_at hl 1 rfl) ?_
          refine lv_istore_n (lv' := [(3, .int xM_5), (4, .int (nI j_4)), (0, .ref qm), (1, .int (nI kB)), (2, .int iS)]) hx hb (g_62 bX6_greatest rfl) rfl hl (by decide +kernel) rfl (fun ls => ?_)
          clear hl
          intro hl
          refine lv_iinc (v := nI (j_4 + 1)) (lv' := [(4, .int (nI (j_4 + 1))), (3, .int xM_5), (0, .ref qm), (1, .int (nI kB)), (2, .int iS)]) hx hb dX6_greatest_59 hl (k := 1) rfl (nI_1 _) (by decide +kernel) rfl (fun ls => ?_)
          clear hl
          intro hl
          refine lv_goto (tgt := 5) hx hb dX6_greatest_62 (by decide +kernel) ?_
          exact ih_3 (j_4 + 1) xM_5 (by omega) (by omega) (by rw [hxM_7]; exact (ga_no (by rw [bt_no c_12]; rfl)).symm) _ (lv_sub hl [0, 1, 2, 3, 4] rfl)
        · refine lv_aload_n hx hb (g_42 bX6_greatest rfl) rfl (lv_at hl 2 rfl) ?_
          refine lv_iload hx hb (g_21 (v := 4) bX6_greatest rfl) (lv_at hl 0 rfl) ?_
          refine kRi (rV (As := [.int (nI j_4)]) (rest := []) (b := qm) ⟨hx, hb, hml, hown, hts⟩ (c_X6_isThere l G cy qm v0 v1 v2 v3 v4 v5 v6 v7 v8 v9 tA qmB qmO qmK iEn iTk v18 v19 v20 v21 v22 v23 v24 v25 v26 iLv iWs v29 v30 v31 v32 v33 v34 rO j_4 (by first | omega | (simp only [nb_sr, np_sr, nb_wr, np_wr, nb_rd, np_rd, nb_ch, np_ch, nb_zr, np_zr, nb_za, np_za, nb_ey, np_ey, nb_hf, np_hf, nb_dd, np_dd, nb_so, np_so, nb_skn, np_skn, nb_swh, np_swh, nb_sgn, np_sgn, nb_ssd, np_ssd, nb_sgo, np_sgo, nb_sag, np_sag]; omega))) L_X6_81 (preRV (q := (RX6, TX6, 35)) hN hP (trueIx 0 [true, true, true, true, true, true, true, true, true, true]) (sel_fm rfl rfl) 0 5 rfl rfl) rfl ⟨Nat.le_of_ble_eq_true rfl, Nat.le_of_ble_eq_true rfl⟩ hl.1 (Nat.le_of_ble_eq_true rfl) (g_182 (v := 81) bX6_greatest rfl) ⟨Nat.le_of_ble_eq_true rfl, Nat.le_of_ble_eq_true rfl⟩) (fun r_13 h_14 => ?_)
          rcases h_14 with ⟨rfl, h_15⟩ | ⟨rfl, h_15⟩
          · refine lv_if_eq (tgt := 57) hx hb dX6_greatest_29 (by decide +kernel) (fun h9 => absurd h9 (by decide +kernel)) (fun _ => ?_)
            refine lv_aload_n hx hb (g_42 bX6_greatest rfl) rfl (lv_at hl 2 rfl) ?_
            refine va_get (D := G) (ci := 5) (v := .ref qmK) (C := RX6) (T := TX6) (N := 35) hx hb hts iX_X6 hown hK hP 0 rfl rfl 14 (by decide +kernel) (hts _ m_t864) (fun _ h9 => h9) rfl (g_180 (v := 48) bX6_greatest rfl) ?_
            refine lv_iload hx hb (g_21 (v := 4) bX6_greatest rfl) (lv_at hl 0 rfl) ?_
            refine va_alda hx hb hK hP 10 3 rfl rfl (in8 (by omega)) (g_50 bX6_greatest rfl) ?_
            refine lv_setv (v := .ref (rK j_4)) (g_ref (by omega)) ?_
            refine lv_iload_n hx hb (g_27 bX6_greatest rfl) rfl (lv_at hl 3 rfl) ?_
            refine va_iald hx hb hK hP (11 + j_4) 0 (sg8 (n0 := 11) (f := (fun j => zzI cy (rK j) 8 (T_kn tA j))) rfl rfl rfl rfl rfl rfl rfl rfl j_4 (by omega)) rfl (vp_in_nI (by omega) (by omega)) (g_46 bX6_greatest rfl) ?_
            refine lv_seti (v := T_kn tA j_4 kB) (congrArg (T_kn tA j_4) (nI_clamp (by omega))) ?_
            refine lv_iload_n hx hb (g_29 bX6_greatest rfl) rfl (lv_at hl 1 rfl) ?_
            refine lv_icmp_le (tgt := 57) hx hb dX6_greatest_42 (by decide +kernel) (fun c_17 => ?_) (fun c_17 => ?_)
            · refine lv_iload_n hx hb (g_29 bX6_greatest rfl) rfl (lv_at hl 1 rfl) ?_
              refine lv_istore_n (lv' := [(3, .int xM_5), (4, .int (nI j_4)), (0, .ref qm), (1, .int (nI kB)), (2, .int iS)]) hx hb (g_62 bX6_greatest rfl) rfl hl (by decide +kernel) rfl (fun ls => ?_)
              clear hl
              intro hl
              refine lv_iinc (v := nI (j_4 + 1)) (lv' := [(4, .int (nI (j_4 + 1))), (3, .int xM_5), (0, .ref qm), (1, .int (nI kB)), (2, .int iS)]) hx hb dX6_greatest_59 hl (k := 1) rfl (nI_1 _) (by decide +kernel) rfl (fun ls => ?_)
              clear hl
              intro hl
              refine lv_goto (tgt := 5) hx hb dX6_greatest_62 (by decide +kernel) ?_
              exact ih_3 (j_4 + 1) xM_5 (by omega) (by omega) (by rw [hxM_7] at c_17 ⊢; exact (ga_yn (by rw [bt_yes c_12, h_15]; rfl) c_17).symm) _ (lv_sub hl [0, 1, 2, 3, 4] rfl)
            · refine lv_aload_n hx hb (g_42 bX6_greatest rfl) rfl (lv_at hl 2 rfl) ?_
              refine va_get (D := G) (ci := 5) (v := .ref qmK) (C := RX6) (T := TX6) (N := 35) hx hb hts iX_X6 hown hK hP 0 rfl rfl 14 (by decide +kernel) (hts _ m_t864) (fun _ h9 => h9) rfl (g_180 (v := 48) bX6_greatest rfl) ?_
              refine lv_iload hx hb (g_21 (v := 4) bX6_greatest rfl) (lv_at hl 0 rfl) ?_
              refine va_alda hx hb hK hP 10 3 rfl rfl (in8 (by omega)) (g_50 bX6_greatest rfl) ?_
              refine lv_setv (v := .ref (rK j_4)) (g_ref (by omega)) ?_
              refine lv_iload_n hx hb (g_27 bX6_greatest rfl) rfl (lv_at hl 3 rfl) ?_
              refine va_iald hx hb hK hP (11 + j_4) 0 (sg8 (n0 := 11) (f := (fun j => zzI cy (rK j) 8 (T_kn tA j))) rfl rfl rfl rfl rfl rfl rfl rfl j_4 (by omega)) rfl (vp_in_nI (by omega) (by omega)) (g_46 bX6_greatest rfl) ?_
              refine lv_seti (v := T_kn tA j_4 kB) (congrArg (T_kn tA j_4) (nI_clamp (by omega))) ?_
              refine lv_goto (tgt := 58) hx hb dX6_greatest_54 (by decide +kernel) ?_
              refine lv_istore_n (lv' := [(3, .int (T_kn tA j_4 kB)), (4, .int (nI j_4)), (0, .ref qm), (1, .int (nI kB)), (2, .int iS)]) hx hb (g_62 bX6_greatest rfl) rfl hl (by decide +kernel) rfl (fun ls => ?_)
              clear hl
              intro hl
              refine lv_iinc (v := nI (j_4 + 1)) (lv' := [(4, .int (nI (j_4 + 1))), (3, .int (T_kn tA j_4 kB)), (0, .ref qm), (1, .int (nI kB)), (2, .int iS)]) hx hb dX6_greatest_59 hl (k := 1) rfl (nI_1 _) (by decide +kernel) rfl (fun ls => ?_)
              clear hl
              intro hl
              refine lv_goto (tgt := 5) hx hb dX6_greatest_62 (by decide +kernel) ?_
              exact ih_3 (j_4 + 1) (T_kn tA j_4 kB) (by omega) (by omega) (by rw [hxM_7] at c_17; exact (ga_yy (by rw [bt_yes c_12, h_15]; rfl) c_17).symm) _ (lv_sub hl [0, 1, 2, 3, 4] rfl)
          · refine lv_if_eq (tgt := 57) hx hb dX6_greatest_29 (by decide +kernel) (fun _ => ?_) (fun h9 => absurd (by decide +kernel) h9)
            refine lv_iload_n hx hb (g_29 bX6_greatest rfl) rfl (lv_at hl 1 rfl) ?_
            refine lv_istore_n (lv' := [(3, .int xM_5), (4, .int (nI j_4)), (0, .ref qm), (1, .int (nI kB)), (2, .int iS)]) hx hb (g_62 bX6_greatest rfl) rfl hl (by decide +kernel) rfl (fun ls => ?_)
            clear hl
            intro hl
            refine lv_iinc (v := nI (j_4 + 1)) (lv' := [(4, .int (nI (j_4 + 1))), (3, .int xM_5), (0, .ref qm), (1, .int (nI kB)), (2, .int iS)]) hx hb dX6_greatest_59 hl (k := 1) rfl (nI_1 _) (by decide +kernel) rfl (fun ls => ?_)
            clear hl
            intro hl
            refine lv_goto (tgt := 5) hx hb dX6_greatest_62 (by decide +kernel) ?_
            exact ih_3 (j_4 + 1) xM_5 (by omega) (by omega) (by rw [hxM_7]; exact (ga_no (by rw [h_15]; exact Bool.and_false _)).symm) _ (lv_sub hl [0, 1, 2, 3, 4] rfl)
  exact lp_1 ((8 - 0) + 1) 0 0 (Nat.lt_succ_self _) (Nat.zero_le _) rfl ls (lv_sub hl [0, 1, 2, 3, 4] rfl)
set_option maxHeartbeats 4000000 in
set_option maxRecDepth 100000 in
theorem c_X6_valueOf (l : Launch) (G : va_G) (cy : Nat → ClassId) (qm : Nat) (v0 : Value) (v1 : Value) (v2 : Value) (v3 : Value) (v4 : Value) (v5 : Value) (v6 : Value) (v7 : Value) (v8 : Value) (v9 : Value) (tA : TA) (qmB : Nat) (qmO : Nat) (qmK : Nat) (iEn : Int32) (iTk : Int32) (v18 : Value) (v19 : Value) (v20 : Value) (v21 : Value) (v22 : Value) (v23 : Value) (v24 : Value) (v25 : Value) (v26 : Value) (iLv : Int32) (iWs : Int32) (v29 : Value) (v30 : Value) (v31 : Value) (v32 : Value) (v33 : Value) (v34 : Value) (rB : Nat → Nat) (rO : Nat → Nat) (rK : Nat → Nat) (iS : Int32)  (hB : T_nb tA ≤ 8) (hPp : T_np tA ≤ 8) : MR l yX6_valueOf cX6_valueOf 4 (some .int) 3 G cy [zzO qm 5 (v0 :: v1 :: v2 :: v3 :: v4 :: v5 :: v6 :: v7 :: v8 :: v9 :: .int (nI (T_nb tA)) :: .ref qmB :: .int (nI (T_np tA)) :: .ref qmO :: .ref qmK :: .int iEn :: .int iTk :: .int (T_sd tA) :: v18 :: v19 :: v20 :: v21 :: v22 :: v23 :: v24 :: v25 :: v26 :: .int iLv :: .int iWs :: v29 :: v30 :: v31 :: v32 :: v33 :: v34 :: []), zzG cy 3 qmB rB, zzI cy (rB 0) 4 (bkR tA 0), zzI cy (rB 1) 4 (bkR tA 1), zzI cy (rB 2) 4 (bkR tA 2), zzI cy (rB 3) 4 (bkR tA 3), zzI cy (rB 4) 4 (bkR tA 4), zzI cy (rB 5) 4 (bkR tA 5), zzI cy (rB 6) 4 (bkR tA 6), zzI cy (rB 7) 4 (bkR tA 7), zzG cy 3 qmO rO, zzI cy (rO 0) 5 (onR tA 0), zzI cy (rO 1) 5 (onR tA 1), zzI cy (rO 2) 5 (onR tA 2), zzI cy (rO 3) 5 (onR tA 3), zzI cy (rO 4) 5 (onR tA 4), zzI cy (rO 5) 5 (onR tA 5), zzI cy (rO 6) 5 (onR tA 6), zzI cy (rO 7) 5 (onR tA 7), zzG cy 3 qmK rK, zzI cy (rK 0) 8 (T_kn tA 0), zzI cy (rK 1) 8 (T_kn tA 1), zzI cy (rK 2) 8 (T_kn tA 2), zzI cy (rK 3) 8 (T_kn tA 3), zzI cy (rK 4) 8 (T_kn tA 4), zzI cy (rK 5) 8 (T_kn tA 5), zzI cy (rK 6) 8 (T_kn tA 6), zzI cy (rK 7) 8 (T_kn tA 7)] [.ref qm, .int iS] (vp_Si (fun r => (r = (mvo tA iS)))) := by
  refine enR RX6 (by decide +kernel) rfl (Nat.le_of_ble_eq_true rfl) (fun p e s m below meth c ls hx hb hml hown hts hr hlocks hP hN hl => ?_)
  have hK := hN.1
  replace hl : lv_has ls 4 [(0, .ref qm), (1, .int iS)] := hl
  refine lv_iconst (v := 0) hx hb (g_3 bX6_valueOf rfl) (by decide +kernel) ?_
  refine lv_istore_n (lv' := [(2, .int 0), (0, .ref qm), (1, .int iS)]) hx hb (g_61 bX6_valueOf rfl) rfl hl (by decide +kernel) rfl (fun ls => ?_)
  clear hl
  intro hl
  refine lv_iconst (v := 0) hx hb (g_3 bX6_valueOf rfl) (by decide +kernel) ?_
  refine lv_istore_n (lv' := [(3, .int 0), (2, .int 0), (0, .ref qm), (1, .int iS)]) hx hb (g_62 bX6_valueOf rfl) rfl hl (by decide +kernel) rfl (fun ls => ?_)
  clear hl
  intro hl
  have lp_1 : ∀ (n_2 : Nat) (j_4 : Nat) (xM_5 : Int32), 8 - j_4 < n_2 → j_4 ≤ T_nb tA → xM_5 = wsum (fun b => T_wo tA b * mgr tA b iS) j_4 → ∀ (ls : Array Slot), lv_has ls 4 [(3, .int (nI j_4)), (2, .int xM_5), (0, .ref qm), (1, .int iS)] → W p l e (Rm 3 0 0) s m (List.toArray (α := Value) [.ref qm, .int iS]) below meth c s.heap [] 0 0 (MQ below (vp_Si (fun r => (r = (mvo tA iS)))) (List.toArray (α := Value) [.ref qm, .int iS]) s 0 0 (fun _ => False)) (F0 m 4 ls []) := by
    intro n_2
    induction n_2 with
    | zero => intro j_4 xM_5 hm9; exact absurd hm9 (Nat.not_lt_zero _)
    | succ n_2 ih_3 =>
      intro j_4 xM_5 hm_8 hj_6 hxM_7 ls hl
      refine lv_iload_n hx hb (g_29 bX6_valueOf rfl) rfl (lv_at hl 0 rfl) ?_
      refine lv_aload_n hx hb (g_42 bX6_valueOf rfl) rfl (lv_at hl 2 rfl) ?_
      refine va_get (D := G) (ci := 5) (v := .int (nI (T_nb tA))) (C := RX6) (T := TX6) (N := 35) hx hb hts iX_X6 hown hK hP 0 rfl rfl 10 (by decide +kernel) (hts _ m_t860) (fun _ h9 => h9) rfl (g_180 (v := 71) bX6_valueOf rfl) ?_
      refine lv_icmp_ge (tgt := 36) hx hb dX6_valueOf_9 (by decide +kernel) (fun c_9 => ?_) (fun c_9 => ?_)
      · have hlt_10 : j_4 = T_nb tA := Nat.le_antisymm (by omega) (lp_ge rfl rfl (by omega) (by omega) c_9)
        refine lv_iload_n hx hb (g_28 bX6_valueOf rfl) rfl (lv_at hl 1 rfl) ?_
        exact endR hx hb hr hlocks rfl (by rw [hxM_7, hlt_10]; rfl) (g_172 bX6_valueOf rfl)
      · have hlt_11 : j_4 < T_nb tA := lp_lt rfl rfl (by omega) (by omega) c_9
        refine lv_iload_n hx hb (g_28 bX6_valueOf rfl) rfl (lv_at hl 1 rfl) ?_
        refine lv_aload_n hx hb (g_42 bX6_valueOf rfl) rfl (lv_at hl 2 rfl) ?_
        refine va_get (D := G) (ci := 5) (v := .ref qmB) (C := RX6) (T := TX6) (N := 35) hx hb hts iX_X6 hown hK hP 0 rfl rfl 11 (by decide +kernel) (hts _ m_t861) (fun _ h9 => h9) rfl (g_180 (v := 42) bX6_valueOf rfl) ?_
        refine lv_iload_n hx hb (g_29 bX6_valueOf rfl) rfl (lv_at hl 0 rfl) ?_
        refine va_alda hx hb hK hP 1 3 rfl rfl (in8 (by omega)) (g_50 bX6_valueOf rfl) ?_
        refine lv_setv (v := .ref (rB j_4)) (g_ref (by omega)) ?_
        refine lv_iconst (v := 0) hx hb (g_3 bX6_valueOf rfl) (by decide +kernel) ?_
        refine va_iald hx hb hK hP (2 + j_4) 0 (sg8 (n0 := 2) (f := (fun j => zzI cy (rB j) 4 (bkR tA j))) rfl rfl rfl rfl rfl rfl rfl rfl j_4 (by omega)) rfl (in_c rfl) (g_46 bX6_valueOf rfl) ?_
        refine lv_seti (v := T_wo tA j_4) (bk_0 _ _) ?_
        refine lv_aload_n hx hb (g_42 bX6_valueOf rfl) rfl (lv_at hl 2 rfl) ?_
        refine lv_iload_n hx hb (g_29 bX6_valueOf rfl) rfl (lv_at hl 0 rfl) ?_
        refine lv_iload_n hx hb (g_27 bX6_valueOf rfl) rfl (lv_at hl 3 rfl) ?_
        refine kRi (rV (As := [.int (nI j_4), .int iS]) (rest := [.int (T_wo tA j_4), .int xM_5]) (b := qm) ⟨hx, hb, hml, hown, hts⟩ (c_X6_greatest l G cy qm v0 v1 v2 v3 v4 v5 v6 v7 v8 v9 tA qmB qmO qmK iEn iTk v18 v19 v20 v21 v22 v23 v24 v25 v26 iLv iWs v29 v30 v31 v32 v33 v34 rO rK j_4 iS hPp (by first | omega | (simp only [nb_sr, np_sr, nb_wr, np_wr, nb_rd, np_rd, nb_ch, np_ch, nb_zr, np_zr, nb_za, np_za, nb_ey, np_ey, nb_hf, np_hf, nb_dd, np_dd, nb_so, np_so, nb_skn, np_skn, nb_swh, np_swh, nb_sgn, np_sgn, nb_ssd, np_ssd, nb_sgo, np_sgo, nb_sag, np_sag]; omega))) L_X6_233 (preRV (q := (RX6, TX6, 35)) hN hP (trueIx 0 [true, false, false, false, false, false, false, false, false, false, true, true, true, true, true, true, true, true, true, true, true, true, true, true, true, true, true, true]) (sel_fm rfl rfl) 0 5 rfl rfl) rfl ⟨Nat.le_of_ble_eq_true rfl, Nat.le_of_ble_eq_true rfl⟩ hl.1 (Nat.le_of_ble_eq_true rfl) (g_182 (v := 233) bX6_valueOf rfl) ⟨Nat.le_of_ble_eq_true rfl, Nat.le_of_ble_eq_true rfl⟩) (fun r_12 h_13 => ?_)
        subst h_13
        refine lv_imul hx hb (g_104 bX6_valueOf rfl) ?_
        refine lv_iadd hx hb (g_96 bX6_valueOf rfl) ?_
        refine lv_istore_n (lv' := [(2, .int (xM_5 + ((T_wo tA j_4) * (mgr tA j_4 iS)))), (3, .int (nI j_4)), (0, .ref qm), (1, .int iS)]) hx hb (g_61 bX6_valueOf rfl) rfl hl (by decide +kernel) rfl (fun ls => ?_)
        clear hl
        intro hl
        refine lv_iinc (v := nI (j_4 + 1)) (lv' := [(3, .int (nI (j_4 + 1))), (2, .int (xM_5 + ((T_wo tA j_4) * (mgr tA j_4 iS)))), (0, .ref qm), (1, .int iS)]) hx hb dX6_valueOf_30 hl (k := 1) rfl (nI_1 _) (by decide +kernel) rfl (fun ls => ?_)
        clear hl
        intro hl
        refine lv_goto (tgt := 4) hx hb dX6_valueOf_33 (by decide +kernel) ?_
        exact ih_3 (j_4 + 1) (xM_5 + ((T_wo tA j_4) * (mgr tA j_4 iS))) (by omega) (by omega) (by rw [hxM_7]; rfl) _ (lv_sub hl [0, 1, 2, 3] rfl)
  exact lp_1 ((8 - 0) + 1) 0 0 (Nat.lt_succ_self _) (Nat.zero_le _) rfl ls (lv_sub hl [0, 1, 2, 3] rfl)
set_option maxHeartbeats 4000000 in
set_option maxRecDepth 100000 in
theorem c_X6_valueNow (l : Launch) (G : va_G) (cy : Nat → ClassId) (qm : Nat) (v0 : Value) (v1 : Value) (v2 : Value) (v3 : Value) (v4 : Value) (v5 : Value) (v6 : Value) (v7 : Value) (v8 : Value) (v9 : Value) (tA : TA) (qmB : Nat) (qmO : Nat) (qmK : Nat) (iEn : Int32) (iTk : Int32) (v18 : Value) (v19 : Value) (v20 : Value) (v21 : Value) (v22 : Value) (v23 : Value) (v24 : Value) (v25 : Value) (v26 : Value) (iLv : Int32) (iWs : Int32) (v29 : Value) (v30 : Value) (v31 : Value) (v32 : Value) (v33 : Value) (v34 : Value) (rB : Nat → Nat) (rO : Nat → Nat) (rK : Nat → Nat)  (hB : T_nb tA ≤ 8) (hPp : T_np tA ≤ 8) : MR l yX6_valueNow cX6_valueNow 1 (some .int) 4 G cy [zzO qm 5 (v0 :: v1 :: v2 :: v3 :: v4 :: v5 :: v6 :: v7 :: v8 :: v9 :: .int (nI (T_nb tA)) :: .ref qmB :: .int (nI (T_np tA)) :: .ref qmO :: .ref qmK :: .int iEn :: .int iTk :: .int (T_sd tA) :: v18 :: v19 :: v20 :: v21 :: v22 :: v23 :: v24 :: v25 :: v26 :: .int iLv :: .int iWs :: v29 :: v30 :: v31 :: v32 :: v33 :: v34 :: []), zzG cy 3 qmB rB, zzI cy (rB 0) 4 (bkR tA 0), zzI cy (rB 1) 4 (bkR tA 1), zzI cy (rB 2) 4 (bkR tA 2), zzI cy (rB 3) 4 (bkR tA 3), zzI cy (rB 4) 4 (bkR tA 4), zzI cy (rB 5) 4 (bkR tA 5), zzI cy (rB 6) 4 (bkR tA 6), zzI cy (rB 7) 4 (bkR tA 7), zzG cy 3 qmO rO, zzI cy (rO 0) 5 (onR tA 0), zzI cy (rO 1) 5 (onR tA 1), zzI cy (rO 2) 5 (onR tA 2), zzI cy (rO 3) 5 (onR tA 3), zzI cy (rO 4) 5 (onR tA 4), zzI cy (rO 5) 5 (onR tA 5), zzI cy (rO 6) 5 (onR tA 6), zzI cy (rO 7) 5 (onR tA 7), zzG cy 3 qmK rK, zzI cy (rK 0) 8 (T_kn tA 0), zzI cy (rK 1) 8 (T_kn tA 1), zzI cy (rK 2) 8 (T_kn tA 2), zzI cy (rK 3) 8 (T_kn tA 3), zzI cy (rK 4) 8 (T_kn tA 4), zzI cy (rK 5) 8 (T_kn tA 5), zzI cy (rK 6) 8 (T_kn tA 6), zzI cy (rK 7) 8 (T_kn tA 7)] [.ref qm] (vp_Si (fun r => (r = (mvo tA ((1 <<< (nI (T_np tA) &&& 31)) - 1))))) := by
  refine enR RX6 (by decide +kernel) rfl (Nat.le_of_ble_eq_true rfl) (fun p e s m below meth c ls hx hb hml hown hts hr hlocks hP hN hl => ?_)
  have hK := hN.1
  replace hl : lv_has ls 1 [(0, .ref qm)] := hl
  refine lv_aload_n hx hb (g_42 bX6_valueNow rfl) rfl (lv_at hl 0 rfl) ?_
  refine lv_iconst (v := 1) hx hb (g_4 bX6_valueNow rfl) (by decide +kernel) ?_
  refine lv_aload_n hx hb (g_42 bX6_valueNow rfl) rfl (lv_at hl 0 rfl) ?_
  refine va_get (D := G) (ci := 5) (v := .int (nI (T_np tA))) (C := RX6) (T := TX6) (N := 35) hx hb hts iX_X6 hown hK hP 0 rfl rfl 12 (by decide +kernel) (hts _ m_t862) (fun _ h9 => h9) rfl (g_180 (v := 78) bX6_valueNow rfl) ?_
  refine lv_ishl hx hb (g_120 bX6_valueNow rfl) ?_
  refine lv_iconst (v := 1) hx hb (g_4 bX6_valueNow rfl) (by decide +kernel) ?_
  refine lv_isub hx hb (g_100 bX6_valueNow rfl) ?_
  refine kRi (rV (As := [.int ((1 <<< ((nI (T_np tA)) &&& 31)) - 1)]) (rest := []) (b := qm) ⟨hx, hb, hml, hown, hts⟩ (c_X6_valueOf l G cy qm v0 v1 v2 v3 v4 v5 v6 v7 v8 v9 tA qmB qmO qmK iEn iTk v18 v19 v20 v21 v22 v23 v24 v25 v26 iLv iWs v29 v30 v31 v32 v33 v34 rB rO rK ((1 <<< ((nI (T_np tA)) &&& 31)) - 1) hB hPp) L_X6_266 (preRV (q := (RX6, TX6, 35)) hN hP (trueIx 0 [true, true, true, true, true, true, true, true, true, true, true, true, true, true, true, true, true, true, true, true, true, true, true, true, true, true, true, true]) (sel_fm rfl rfl) 0 5 rfl rfl) rfl ⟨Nat.le_of_ble_eq_true rfl, Nat.le_of_ble_eq_true rfl⟩ hl.1 (Nat.le_of_ble_eq_true rfl) (g_182 (v := 266) bX6_valueNow rfl) ⟨Nat.le_of_ble_eq_true rfl, Nat.le_of_ble_eq_true rfl⟩) (fun r_1 h_2 => ?_)
  subst h_2
  exact endR hx hb hr hlocks rfl (by rfl) (g_172 bX6_valueNow rfl)
set_option maxHeartbeats 4000000 in
set_option maxRecDepth 100000 in
theorem c_X6_youngestBut (l : Launch) (G : va_G) (cy : Nat → ClassId) (qm : Nat) (v0 : Value) (v1 : Value) (v2 : Value) (v3 : Value) (v4 : Value) (v5 : Value) (v6 : Value) (v7 : Value) (v8 : Value) (v9 : Value) (tA : TA) (qmB : Nat) (qmO : Nat) (qmK : Nat) (iEn : Int32) (iTk : Int32) (v18 : Value) (v19 : Value) (v20 : Value) (v21 : Value) (v22 : Value) (v23 : Value) (v24 : Value) (v25 : Value) (v26 : Value) (iLv : Int32) (iWs : Int32) (v29 : Value) (v30 : Value) (v31 : Value) (v32 : Value) (v33 : Value) (v34 : Value) (rO : Nat → Nat) (iO : Int32)  (hPp : T_np tA ≤ 8) : MR l yX6_youngestBut cX6_youngestBut 4 (some .int) 2 G cy [zzO qm 5 (v0 :: v1 :: v2 :: v3 :: v4 :: v5 :: v6 :: v7 :: v8 :: v9 :: .int (nI (T_nb tA)) :: .ref qmB :: .int (nI (T_np tA)) :: .ref qmO :: .ref qmK :: .int iEn :: .int iTk :: .int (T_sd tA) :: v18 :: v19 :: v20 :: v21 :: v22 :: v23 :: v24 :: v25 :: v26 :: .int iLv :: .int iWs :: v29 :: v30 :: v31 :: v32 :: v33 :: v34 :: []), zzG cy 3 qmO rO, zzI cy (rO 0) 5 (onR tA 0), zzI cy (rO 1) 5 (onR tA 1), zzI cy (rO 2) 5 (onR tA 2), zzI cy (rO 3) 5 (onR tA 3), zzI cy (rO 4) 5 (onR tA 4), zzI cy (rO 5) 5 (onR tA 5), zzI cy (rO 6) 5 (onR tA 6), zzI cy (rO 7) 5 (onR tA 7)] [.ref qm, .int iO] (vp_Si (fun r => (r = (zyb tA iO)))) := by
  refine enR RX6 (by decide +kernel) rfl (Nat.le_of_ble_eq_true rfl) (fun p e s m below meth c ls hx hb hml hown hts hr hlocks hP hN hl => ?_)
  have hK := hN.1
  replace hl : lv_has ls 4 [(0, .ref qm), (1, .int iO)] := hl
  refine lv_iconst (v := (-1)) hx hb (g_2 bX6_youngestBut rfl) (by decide +kernel) ?_
  refine lv_istore_n (lv' := [(2, .int (-1)), (0, .ref qm), (1, .int iO)]) hx hb (g_61 bX6_youngestBut rfl) rfl hl (by decide +kernel) rfl (fun ls => ?_)
  clear hl
  intro hl
  refine lv_iconst (v := 0) hx hb (g_3 bX6_youngestBut rfl) (by decide +kernel) ?_
  refine lv_istore_n (lv' := [(3, .int 0), (2, .int (-1)), (0, .ref qm), (1, .int iO)]) hx hb (g_62 bX6_youngestBut rfl) rfl hl (by decide +kernel) rfl (fun ls => ?_)
  clear hl
  intro hl
  have lp_1 : ∀ (n_2 : Nat) (j_4 : Nat) (xB_5 : Int32), 8 - j_4 < n_2 → j_4 ≤ T_np tA → xB_5 = ybF tA iO j_4 → ∀ (ls : Array Slot), lv_has ls 4 [(3, .int (nI j_4)), (2, .int xB_5), (0, .ref qm), (1, .int iO)] → W p l e (Rm 2 0 0) s m (List.toArray (α := Value) [.ref qm, .int iO]) below meth c s.heap [] 0 0 (MQ below (vp_Si (fun r => (r = (zyb tA iO)))) (List.toArray (α := Value) [.ref qm, .int iO]) s 0 0 (fun _ => False)) (F0 m 4 ls []) := by
    intro n_2
    induction n_2 with
    | zero => intro j_4 xB_5 hm9; exact absurd hm9 (Nat.not_lt_zero _)
    | succ n_2 ih_3 =>
      intro j_4 xB_5 hm_8 hj_6 hxB_7 ls hl
      refine lv_iload_n hx hb (g_29 bX6_youngestBut rfl) rfl (lv_at hl 0 rfl) ?_
      refine lv_aload_n hx hb (g_42 bX6_youngestBut rfl) rfl (lv_at hl 2 rfl) ?_
      refine va_get (D := G) (ci := 5) (v := .int (nI (T_np tA))) (C := RX6) (T := TX6) (N := 35) hx hb hts iX_X6 hown hK hP 0 rfl rfl 12 (by decide +kernel) (hts _ m_t862) (fun _ h9 => h9) rfl (g_180 (v := 78) bX6_youngestBut rfl) ?_
      refine lv_icmp_ge (tgt := 61) hx hb dX6_youngestBut_9 (by decide +kernel) (fun c_9 => ?_) (fun c_9 => ?_)
      · have hlt_10 : j_4 = T_np tA := Nat.le_antisymm (by omega) (lp_ge rfl rfl (by omega) (by omega) c_9)
        refine lv_iload_n hx hb (g_28 bX6_youngestBut rfl) rfl (lv_at hl 1 rfl) ?_
        exact endR hx hb hr hlocks rfl (by rw [hxB_7, hlt_10]; rfl) (g_172 bX6_youngestBut rfl)
      · have hlt_11 : j_4 < T_np tA := lp_lt rfl rfl (by omega) (by omega) c_9
        refine lv_iload_n hx hb (g_29 bX6_youngestBut rfl) rfl (lv_at hl 0 rfl) ?_
        refine lv_iload_n hx hb (g_27 bX6_youngestBut rfl) rfl (lv_at hl 3 rfl) ?_
        refine lv_icmp_eq (tgt := 53) hx hb dX6_youngestBut_14 (by decide +kernel) (fun c_12 => ?_) (fun c_12 => ?_)
        · refine lv_iload_n hx hb (g_28 bX6_youngestBut rfl) rfl (lv_at hl 1 rfl) ?_
          refine lv_istore_n (lv' := [(2, .int xB_5), (3, .int (nI j_4)), (0, .ref qm), (1, .int iO)]) hx hb (g_61 bX6_youngestBut rfl) rfl hl (by decide +kernel) rfl (fun ls => ?_)
          clear hl
          intro hl
          refine lv_iinc (v := nI (j_4 + 1)) (lv' := [(3, .int (nI (j_4 + 1))), (2, .int xB_5), (0, .ref qm), (1, .int iO)]) hx hb dX6_youngestBut_55 hl (k := 1) rfl (nI_1 _) (by decide +kernel) rfl (fun ls => ?_)
          clear hl
          intro hl
          refine lv_goto (tgt := 4) hx hb dX6_youngestBut_58 (by decide +kernel) ?_
          exact ih_3 (j_4 + 1) xB_5 (by omega) (by omega) (by rw [yb_skip (fun q => q.1 c_12)]; exact hxB_7) _ (lv_sub hl [0, 1, 2, 3] rfl)
        · refine lv_aload_n hx hb (g_42 bX6_youngestBut rfl) rfl (lv_at hl 2 rfl) ?_
          refine lv_iload_n hx hb (g_29 bX6_youngestBut rfl) rfl (lv_at hl 0 rfl) ?_
          refine kRi (rV (As := [.int (nI j_4)]) (rest := []) (b := qm) ⟨hx, hb, hml, hown, hts⟩ (c_X6_isThere l G cy qm v0 v1 v2 v3 v4 v5 v6 v7 v8 v9 tA qmB qmO qmK iEn iTk v18 v19 v20 v21 v22 v23 v24 v25 v26 iLv iWs v29 v30 v31 v32 v33 v34 rO j_4 (by first | omega | (simp only [nb_sr, np_sr, nb_wr, np_wr, nb_rd, np_rd, nb_ch, np_ch, nb_zr, np_zr, nb_za, np_za, nb_ey, np_ey, nb_hf, np_hf, nb_dd, np_dd, nb_so, np_so, nb_skn, np_skn, nb_swh, np_swh, nb_sgn, np_sgn, nb_ssd, np_ssd, nb_sgo, np_sgo, nb_sag, np_sag]; omega))) L_X6_81 (preRV (q := (RX6, TX6, 35)) hN hP (trueIx 0 [true, true, true, true, true, true, true, true, true, true]) (sel_fm rfl rfl) 0 5 rfl rfl) rfl ⟨Nat.le_of_ble_eq_true rfl, Nat.le_of_ble_eq_true rfl⟩ hl.1 (Nat.le_of_ble_eq_true rfl) (g_182 (v := 81) bX6_youngestBut rfl) ⟨Nat.le_of_ble_eq_true rfl, Nat.le_of_ble_eq_true rfl⟩) (fun r_13 h_14 => ?_)
          rcases h_14 with ⟨rfl, h_15⟩ | ⟨rfl, h_15⟩
          · refine lv_if_eq (tgt := 53) hx hb dX6_youngestBut_22 (by decide +kernel) (fun h9 => absurd h9 (by decide +kernel)) (fun _ => ?_)
            refine lv_iload_n hx hb (g_28 bX6_youngestBut rfl) rfl (lv_at hl 1 rfl) ?_
            refine lv_iconst (v := (-1)) hx hb (g_2 bX6_youngestBut rfl) (by decide +kernel) ?_
            refine lv_icmp_eq (tgt := 49) hx hb dX6_youngestBut_27 (by decide +kernel) (fun c_17 => ?_) (fun c_17 => ?_)
            · refine lv_iload_n hx hb (g_29 bX6_youngestBut rfl) rfl (lv_at hl 0 rfl) ?_
              refine lv_goto (tgt := 54) hx hb dX6_youngestBut_50 (by decide +kernel) ?_
              refine lv_istore_n (lv' := [(2, .int (nI j_4)), (3, .int (nI j_4)), (0, .ref qm), (1, .int iO)]) hx hb (g_61 bX6_youngestBut rfl) rfl hl (by decide +kernel) rfl (fun ls => ?_)
              clear hl
              intro hl
              refine lv_iinc (v := nI (j_4 + 1)) (lv' := [(3, .int (nI (j_4 + 1))), (2, .int (nI j_4)), (0, .ref qm), (1, .int iO)]) hx hb dX6_youngestBut_55 hl (k := 1) rfl (nI_1 _) (by decide +kernel) rfl (fun ls => ?_)
              clear hl
              intro hl
              refine lv_goto (tgt := 4) hx hb dX6_youngestBut_58 (by decide +kernel) ?_
              exact ih_3 (j_4 + 1) (nI j_4) (by omega) (by omega) (by rw [yb_upd ⟨c_12, h_15, Or.inl (hxB_7 ▸ c_17)⟩]) _ (lv_sub hl [0, 1, 2, 3] rfl)
            · obtain ⟨k_18, hk_19, ek_20⟩ : ∃ k : Nat, k < j_4 ∧ xB_5 = nI k := by
                rcases yb_in tA iO j_4 with q | ⟨k, h1, h2⟩
                · exact absurd (hxB_7.trans q) c_17
                · exact ⟨k, h1, hxB_7.trans h2⟩
              rw [ek_20] at hl
              refine lv_aload_n hx hb (g_42 bX6_youngestBut rfl) rfl (lv_at hl 2 rfl) ?_
              refine va_get (D := G) (ci := 5) (v := .ref qmO) (C := RX6) (T := TX6) (N := 35) hx hb hts iX_X6 hown hK hP 0 rfl rfl 13 (by decide +kernel) (hts _ m_t863) (fun _ h9 => h9) rfl (g_180 (v := 45) bX6_youngestBut rfl) ?_
              refine lv_iload_n hx hb (g_29 bX6_youngestBut rfl) rfl (lv_at hl 0 rfl) ?_
              refine va_alda hx hb hK hP 1 3 rfl rfl (in8 (by omega)) (g_50 bX6_youngestBut rfl) ?_
              refine lv_setv (v := .ref (rO j_4)) (g_ref (by omega)) ?_
              refine lv_iconst (v := 0) hx hb (g_3 bX6_youngestBut rfl) (by decide +kernel) ?_
              refine va_iald hx hb hK hP (2 + j_4) 0 (sg8 (n0 := 2) (f := (fun j => zzI cy (rO j) 5 (onR tA j))) rfl rfl rfl rfl rfl rfl rfl rfl j_4 (by omega)) rfl (in_c rfl) (g_46 bX6_youngestBut rfl) ?_
              refine lv_seti (v := T_ag tA j_4) (on_0 _ _) ?_
              refine lv_aload_n hx hb (g_42 bX6_youngestBut rfl) rfl (lv_at hl 2 rfl) ?_
              refine va_get (D := G) (ci := 5) (v := .ref qmO) (C := RX6) (T := TX6) (N := 35) hx hb hts iX_X6 hown hK hP 0 rfl rfl 13 (by decide +kernel) (hts _ m_t863) (fun _ h9 => h9) rfl (g_180 (v := 45) bX6_youngestBut rfl) ?_
              refine lv_iload_n hx hb (g_28 bX6_youngestBut rfl) rfl (lv_at hl 1 rfl) ?_
              refine va_alda hx hb hK hP 1 3 rfl rfl (in8 (by omega)) (g_50 bX6_youngestBut rfl) ?_
              refine lv_setv (v := .ref (rO k_18)) (g_ref (by omega)) ?_
              refine lv_iconst (v := 0) hx hb (g_3 bX6_youngestBut rfl) (by decide +kernel) ?_
              refine va_iald hx hb hK hP (2 + k_18) 0 (sg8 (n0 := 2) (f := (fun j => zzI cy (rO j) 5 (onR tA j))) rfl rfl rfl rfl rfl rfl rfl rfl k_18 (by omega)) rfl (in_c rfl) (g_46 bX6_youngestBut rfl) ?_
              refine lv_seti (v := T_ag tA k_18) (on_0 _ _) ?_
              refine lv_icmp_ge (tgt := 53) hx hb dX6_youngestBut_46 (by decide +kernel) (fun c_21 => ?_) (fun c_21 => ?_)
              · refine lv_iload_n hx hb (g_28 bX6_youngestBut rfl) rfl (lv_at hl 1 rfl) ?_
                refine lv_istore_n (lv' := [(2, .int (nI k_18)), (3, .int (nI j_4)), (0, .ref qm), (1, .int iO)]) hx hb (g_61 bX6_youngestBut rfl) rfl hl (by decide +kernel) rfl (fun ls => ?_)
                clear hl
                intro hl
                refine lv_iinc (v := nI (j_4 + 1)) (lv' := [(3, .int (nI (j_4 + 1))), (2, .int (nI k_18)), (0, .ref qm), (1, .int iO)]) hx hb dX6_youngestBut_55 hl (k := 1) rfl (nI_1 _) (by decide +kernel) rfl (fun ls => ?_)
                clear hl
                intro hl
                refine lv_goto (tgt := 4) hx hb dX6_youngestBut_58 (by decide +kernel) ?_
                exact ih_3 (j_4 + 1) (nI k_18) (by omega) (by omega) (by rw [yb_skip (fun q => q.2.2.elim (fun r => c_17 (hxB_7.trans r)) (fun r => by rw [← hxB_7, ek_20, nI_clamp (by omega)] at r; exact Int32.not_lt.mpr c_21 r))]; exact ek_20.symm.trans hxB_7) _ (lv_sub hl [0, 1, 2, 3] rfl)
              · refine lv_iload_n hx hb (g_29 bX6_youngestBut rfl) rfl (lv_at hl 0 rfl) ?_
                refine lv_goto (tgt := 54) hx hb dX6_youngestBut_50 (by decide +kernel) ?_
                refine lv_istore_n (lv' := [(2, .int (nI j_4)), (3, .int (nI j_4)), (0, .ref qm), (1, .int iO)]) hx hb (g_61 bX6_youngestBut rfl) rfl hl (by decide +kernel) rfl (fun ls => ?_)
                clear hl
                intro hl
                refine lv_iinc (v := nI (j_4 + 1)) (lv' := [(3, .int (nI (j_4 + 1))), (2, .int (nI j_4)), (0, .ref qm), (1, .int iO)]) hx hb dX6_youngestBut_55 hl (k := 1) rfl (nI_1 _) (by decide +kernel) rfl (fun ls => ?_)
                clear hl
                intro hl
                refine lv_goto (tgt := 4) hx hb dX6_youngestBut_58 (by decide +kernel) ?_
                exact ih_3 (j_4 + 1) (nI j_4) (by omega) (by omega) (by rw [yb_upd ⟨c_12, h_15, Or.inr (by rw [← hxB_7, ek_20, nI_clamp (by omega)]; exact Int32.not_le.mp c_21)⟩]) _ (lv_sub hl [0, 1, 2, 3] rfl)
          · refine lv_if_eq (tgt := 53) hx hb dX6_youngestBut_22 (by decide +kernel) (fun _ => ?_) (fun h9 => absurd (by decide +kernel) h9)
            refine lv_iload_n hx hb (g_28 bX6_youngestBut rfl) rfl (lv_at hl 1 rfl) ?_
            refine lv_istore_n (lv' := [(2, .int xB_5), (3, .int (nI j_4)), (0, .ref qm), (1, .int iO)]) hx hb (g_61 bX6_youngestBut rfl) rfl hl (by decide +kernel) rfl (fun ls => ?_)
            clear hl
            intro hl
            refine lv_iinc (v := nI (j_4 + 1)) (lv' := [(3, .int (nI (j_4 + 1))), (2, .int xB_5), (0, .ref qm), (1, .int iO)]) hx hb dX6_youngestBut_55 hl (k := 1) rfl (nI_1 _) (by decide +kernel) rfl (fun ls => ?_)
            clear hl
            intro hl
            refine lv_goto (tgt := 4) hx hb dX6_youngestBut_58 (by decide +kernel) ?_
            exact ih_3 (j_4 + 1) xB_5 (by omega) (by omega) (by rw [yb_skip (fun q => by rw [h_15] at q; exact absurd q.2.1 (by decide +kernel))]; exact hxB_7) _ (lv_sub hl [0, 1, 2, 3] rfl)
  exact lp_1 ((8 - 0) + 1) 0 (-1) (Nat.lt_succ_self _) (Nat.zero_le _) rfl ls (lv_sub hl [0, 1, 2, 3] rfl)
set_option maxHeartbeats 4000000 in
set_option maxRecDepth 100000 in
theorem c_X6_readerOf (l : Launch) (G : va_G) (cy : Nat → ClassId) (qm : Nat) (v0 : Value) (v1 : Value) (v2 : Value) (v3 : Value) (v4 : Value) (v5 : Value) (v6 : Value) (v7 : Value) (v8 : Value) (v9 : Value) (tA : TA) (qmB : Nat) (qmO : Nat) (qmK : Nat) (iEn : Int32) (iTk : Int32) (v18 : Value) (v19 : Value) (v20 : Value) (v21 : Value) (v22 : Value) (v23 : Value) (v24 : Value) (v25 : Value) (v26 : Value) (iLv : Int32) (iWs : Int32) (v29 : Value) (v30 : Value) (v31 : Value) (v32 : Value) (v33 : Value) (v34 : Value) (rB : Nat → Nat) (rO : Nat → Nat) (rK : Nat → Nat) (kB : Nat)  (hPp : T_np tA ≤ 8) (hJ : kB < 8) (hTI : TI tA) : MR l yX6_readerOf cX6_readerOf 6 (some .int) 4 G cy [zzO qm 5 (v0 :: v1 :: v2 :: v3 :: v4 :: v5 :: v6 :: v7 :: v8 :: v9 :: .int (nI (T_nb tA)) :: .ref qmB :: .int (nI (T_np tA)) :: .ref qmO :: .ref qmK :: .int iEn :: .int iTk :: .int (T_sd tA) :: v18 :: v19 :: v20 :: v21 :: v22 :: v23 :: v24 :: v25 :: v26 :: .int iLv :: .int iWs :: v29 :: v30 :: v31 :: v32 :: v33 :: v34 :: []), zzG cy 3 qmB rB, zzI cy (rB 0) 4 (bkR tA 0), zzI cy (rB 1) 4 (bkR tA 1), zzI cy (rB 2) 4 (bkR tA 2), zzI cy (rB 3) 4 (bkR tA 3), zzI cy (rB 4) 4 (bkR tA 4), zzI cy (rB 5) 4 (bkR tA 5), zzI cy (rB 6) 4 (bkR tA 6), zzI cy (rB 7) 4 (bkR tA 7), zzG cy 3 qmO rO, zzI cy (rO 0) 5 (onR tA 0), zzI cy (rO 1) 5 (onR tA 1), zzI cy (rO 2) 5 (onR tA 2), zzI cy (rO 3) 5 (onR tA 3), zzI cy (rO 4) 5 (onR tA 4), zzI cy (rO 5) 5 (onR tA 5), zzI cy (rO 6) 5 (onR tA 6), zzI cy (rO 7) 5 (onR tA 7), zzG cy 3 qmK rK, zzI cy (rK 0) 8 (T_kn tA 0), zzI cy (rK 1) 8 (T_kn tA 1), zzI cy (rK 2) 8 (T_kn tA 2), zzI cy (rK 3) 8 (T_kn tA 3), zzI cy (rK 4) 8 (T_kn tA 4), zzI cy (rK 5) 8 (T_kn tA 5), zzI cy (rK 6) 8 (T_kn tA 6), zzI cy (rK 7) 8 (T_kn tA 7)] [.ref qm, .int (nI kB)] (vp_Si (fun r => (r = (zbr tA kB)))) := by
  refine enR RX6 (by decide +kernel) rfl (Nat.le_of_ble_eq_true rfl) (fun p e s m below meth c ls hx hb hml hown hts hr hlocks hP hN hl => ?_)
  have hK := hN.1
  replace hl : lv_has ls 6 [(0, .ref qm), (1, .int (nI kB))] := hl
  refine lv_iconst (v := (-1)) hx hb (g_2 bX6_readerOf rfl) (by decide +kernel) ?_
  refine lv_istore_n (lv' := [(2, .int (-1)), (0, .ref qm), (1, .int (nI kB))]) hx hb (g_61 bX6_readerOf rfl) rfl hl (by decide +kernel) rfl (fun ls => ?_)
  clear hl
  intro hl
  refine lv_iconst (v := 0) hx hb (g_3 bX6_readerOf rfl) (by decide +kernel) ?_
  refine lv_istore_n (lv' := [(3, .int 0), (2, .int (-1)), (0, .ref qm), (1, .int (nI kB))]) hx hb (g_62 bX6_readerOf rfl) rfl hl (by decide +kernel) rfl (fun ls => ?_)
  clear hl
  intro hl
  have lp_1 : ∀ (n_2 : Nat) (j_4 : Nat) (xB_5 : Int32), 8 - j_4 < n_2 → j_4 ≤ T_np tA → xB_5 = (brF tA kB j_4).1 → ∀ (ls : Array Slot), lv_has ls 6 [(3, .int (nI j_4)), (2, .int xB_5), (0, .ref qm), (1, .int (nI kB))] → W p l e (Rm 4 0 0) s m (List.toArray (α := Value) [.ref qm, .int (nI kB)]) below meth c s.heap [] 0 0 (MQ below (vp_Si (fun r => (r = (zbr tA kB)))) (List.toArray (α := Value) [.ref qm, .int (nI kB)]) s 0 0 (fun _ => False)) (F0 m 4 ls []) := by
    intro n_2
    induction n_2 with
    | zero => intro j_4 xB_5 hm9; exact absurd hm9 (Nat.not_lt_zero _)
    | succ n_2 ih_3 =>
      intro j_4 xB_5 hm_8 hj_6 hxB_7 ls hl
      refine lv_iload_n hx hb (g_29 bX6_readerOf rfl) rfl (lv_at hl 0 rfl) ?_
      refine lv_aload_n hx hb (g_42 bX6_readerOf rfl) rfl (lv_at hl 2 rfl) ?_
      refine va_get (D := G) (ci := 5) (v := .int (nI (T_np tA))) (C := RX6) (T := TX6) (N := 35) hx hb hts iX_X6 hown hK hP 0 rfl rfl 12 (by decide +kernel) (hts _ m_t862) (fun _ h9 => h9) rfl (g_180 (v := 78) bX6_readerOf rfl) ?_
      refine lv_icmp_ge (tgt := 90) hx hb dX6_readerOf_9 (by decide +kernel) (fun c_9 => ?_) (fun c_9 => ?_)
      · have hlt_10 : j_4 = T_np tA := Nat.le_antisymm (by omega) (lp_ge rfl rfl (by omega) (by omega) c_9)
        refine lv_iload_n hx hb (g_28 bX6_readerOf rfl) rfl (lv_at hl 1 rfl) ?_
        exact endR hx hb hr hlocks rfl (by rw [hxB_7, hlt_10]; rfl) (g_172 bX6_readerOf rfl)
      · have hlt_11 : j_4 < T_np tA := lp_lt rfl rfl (by omega) (by omega) c_9
        refine lv_aload_n hx hb (g_42 bX6_readerOf rfl) rfl (lv_at hl 2 rfl) ?_
        refine lv_iload_n hx hb (g_29 bX6_readerOf rfl) rfl (lv_at hl 0 rfl) ?_
        refine kRi (rV (As := [.int (nI j_4)]) (rest := []) (b := qm) ⟨hx, hb, hml, hown, hts⟩ (c_X6_isThere l G cy qm v0 v1 v2 v3 v4 v5 v6 v7 v8 v9 tA qmB qmO qmK iEn iTk v18 v19 v20 v21 v22 v23 v24 v25 v26 iLv iWs v29 v30 v31 v32 v33 v34 rO j_4 (by first | omega | (simp only [nb_sr, np_sr, nb_wr, np_wr, nb_rd, np_rd, nb_ch, np_ch, nb_zr, np_zr, nb_za, np_za, nb_ey, np_ey, nb_hf, np_hf, nb_dd, np_dd, nb_so, np_so, nb_skn, np_skn, nb_swh, np_swh, nb_sgn, np_sgn, nb_ssd, np_ssd, nb_sgo, np_sgo, nb_sag, np_sag]; omega))) L_X6_81 (preRV (q := (RX6, TX6, 35)) hN hP (trueIx 0 [true, false, false, false, false, false, false, false, false, false, true, true, true, true, true, true, true, true, true]) (sel_fm rfl rfl) 0 5 rfl rfl) rfl ⟨Nat.le_of_ble_eq_true rfl, Nat.le_of_ble_eq_true rfl⟩ hl.1 (Nat.le_of_ble_eq_true rfl) (g_182 (v := 81) bX6_readerOf rfl) ⟨Nat.le_of_ble_eq_true rfl, Nat.le_of_ble_eq_true rfl⟩) (fun r_12 h_13 => ?_)
        rcases h_13 with ⟨rfl, h_14⟩ | ⟨rfl, h_14⟩
        · refine lv_if_eq (tgt := 84) hx hb dX6_readerOf_17 (by decide +kernel) (fun h9 => absurd h9 (by decide +kernel)) (fun _ => ?_)
          refine lv_aload_n hx hb (g_42 bX6_readerOf rfl) rfl (lv_at hl 2 rfl) ?_
          refine lv_iload_n hx hb (g_29 bX6_readerOf rfl) rfl (lv_at hl 0 rfl) ?_
          refine lv_iload_n hx hb (g_27 bX6_readerOf rfl) rfl (lv_at hl 3 rfl) ?_
          refine kRi (rV (As := [.int (nI j_4), .int (nI kB)]) (rest := []) (b := qm) ⟨hx, hb, hml, hown, hts⟩ (c_X6_wouldKnow l G cy qm v0 v1 v2 v3 v4 v5 v6 v7 v8 v9 tA qmB qmO qmK iEn iTk v18 v19 v20 v21 v22 v23 v24 v25 v26 iLv iWs v29 v30 v31 v32 v33 v34 rB rO rK j_4 kB (by first | omega | (simp only [nb_sr, np_sr, nb_wr, np_wr, nb_rd, np_rd, nb_ch, np_ch, nb_zr, np_zr, nb_za, np_za, nb_ey, np_ey, nb_hf, np_hf, nb_dd, np_dd, nb_so, np_so, nb_skn, np_skn, nb_swh, np_swh, nb_sgn, np_sgn, nb_ssd, np_ssd, nb_sgo, np_sgo, nb_sag, np_sag]; omega)) hJ) L_X6_254 (preRV (q := (RX6, TX6, 35)) hN hP (trueIx 0 [true, true, true, true, true, true, true, true, true, true, true, true, true, true, true, true, true, true, true, true, true, true, true, true, true, true, true, true]) (sel_fm rfl rfl) 0 5 rfl rfl) rfl ⟨Nat.le_of_ble_eq_true rfl, Nat.le_of_ble_eq_true rfl⟩ hl.1 (Nat.le_of_ble_eq_true rfl) (g_182 (v := 254) bX6_readerOf rfl) ⟨Nat.le_of_ble_eq_true rfl, Nat.le_of_ble_eq_true rfl⟩) (fun r_16 h_17 => ?_)
          subst h_17
          refine lv_istore (lv' := [(4, .int (zwk tA j_4 kB)), (3, .int (nI j_4)), (2, .int xB_5), (0, .ref qm), (1, .int (nI kB))]) hx hb (g_54 (v := 4) bX6_readerOf rfl) hl (by decide +kernel) rfl (fun ls => ?_)
          clear hl
          intro hl
          refine lv_iload_n hx hb (g_28 bX6_readerOf rfl) rfl (lv_at hl 2 rfl) ?_
          refine lv_iconst (v := (-1)) hx hb (g_2 bX6_readerOf rfl) (by decide +kernel) ?_
          refine lv_icmp_ne (tgt := 37) hx hb dX6_readerOf_30 (by decide +kernel) (fun c_18 => ?_) (fun c_18 => ?_)
          · obtain ⟨k_19, hk_20, ek_21⟩ : ∃ k : Nat, k < j_4 ∧ xB_5 = nI k := by
              rcases br_in tA kB j_4 with q | ⟨k, h1, h2⟩
              · exact absurd (hxB_7.trans q) c_18
              · exact ⟨k, h1, hxB_7.trans h2⟩
            rw [ek_21] at hl
            refine lv_aload_n hx hb (g_42 bX6_readerOf rfl) rfl (lv_at hl 3 rfl) ?_
            refine lv_iload_n hx hb (g_28 bX6_readerOf rfl) rfl (lv_at hl 2 rfl) ?_
            refine lv_iload_n hx hb (g_27 bX6_readerOf rfl) rfl (lv_at hl 4 rfl) ?_
            refine kRi (rV (As := [.int (nI k_19), .int (nI kB)]) (rest := []) (b := qm) ⟨hx, hb, hml, hown, hts⟩ (c_X6_wouldKnow l G cy qm v0 v1 v2 v3 v4 v5 v6 v7 v8 v9 tA qmB qmO qmK iEn iTk v18 v19 v20 v21 v22 v23 v24 v25 v26 iLv iWs v29 v30 v31 v32 v33 v34 rB rO rK k_19 kB (by first | omega | (simp only [nb_sr, np_sr, nb_wr, np_wr, nb_rd, np_rd, nb_ch, np_ch, nb_zr, np_zr, nb_za, np_za, nb_ey, np_ey, nb_hf, np_hf, nb_dd, np_dd, nb_so, np_so, nb_skn, np_skn, nb_swh, np_swh, nb_sgn, np_sgn, nb_ssd, np_ssd, nb_sgo, np_sgo, nb_sag, np_sag]; omega)) hJ) L_X6_254 (preRV (q := (RX6, TX6, 35)) hN hP (trueIx 0 [true, true, true, true, true, true, true, true, true, true, true, true, true, true, true, true, true, true, true, true, true, true, true, true, true, true, true, true]) (sel_fm rfl rfl) 0 5 rfl rfl) rfl ⟨Nat.le_of_ble_eq_true rfl, Nat.le_of_ble_eq_true rfl⟩ hl.1 (Nat.le_of_ble_eq_true rfl) (g_182 (v := 254) bX6_readerOf rfl) ⟨Nat.le_of_ble_eq_true rfl, Nat.le_of_ble_eq_true rfl⟩) (fun r_22 h_23 => ?_)
            subst h_23
            refine lv_istore (lv' := [(5, .int (zwk tA k_19 kB)), (4, .int (zwk tA j_4 kB)), (3, .int (nI j_4)), (2, .int (nI k_19)), (0, .ref qm), (1, .int (nI kB))]) hx hb (g_54 (v := 5) bX6_readerOf rfl) hl (by decide +kernel) rfl (fun ls => ?_)
            clear hl
            intro hl
            refine lv_iload hx hb (g_21 (v := 4) bX6_readerOf rfl) (lv_at hl 1 rfl) ?_
            refine lv_iload hx hb (g_21 (v := 5) bX6_readerOf rfl) (lv_at hl 0 rfl) ?_
            refine lv_icmp_gt (tgt := 78) hx hb dX6_readerOf_49 (by decide +kernel) (fun c_24 => ?_) (fun c_24 => ?_)
            · refine lv_iload_n hx hb (g_29 bX6_readerOf rfl) rfl (lv_at hl 2 rfl) ?_
              refine lv_goto (tgt := 83) hx hb dX6_readerOf_79 (by decide +kernel) ?_
              refine lv_istore_n (lv' := [(2, .int (nI j_4)), (5, .int (zwk tA k_19 kB)), (4, .int (zwk tA j_4 kB)), (3, .int (nI j_4)), (0, .ref qm), (1, .int (nI kB))]) hx hb (g_61 bX6_readerOf rfl) rfl hl (by decide +kernel) rfl (fun ls => ?_)
              clear hl
              intro hl
              refine lv_iinc (v := nI (j_4 + 1)) (lv' := [(3, .int (nI (j_4 + 1))), (2, .int (nI j_4)), (5, .int (zwk tA k_19 kB)), (4, .int (zwk tA j_4 kB)), (0, .ref qm), (1, .int (nI kB))]) hx hb dX6_readerOf_84 hl (k := 3) rfl (nI_1 _) (by decide +kernel) rfl (fun ls => ?_)
              clear hl
              intro hl
              refine lv_goto (tgt := 4) hx hb dX6_readerOf_87 (by decide +kernel) ?_
              exact ih_3 (j_4 + 1) (nI j_4) (by omega) (by omega) (by rw [br_upd ⟨h_14, (wk_m1 hTI _ _), Or.inr (Or.inl (by rw [(br_snd (by omega) (hxB_7.symm.trans ek_21) (by omega))]; exact c_24))⟩]) _ (lv_sub hl [0, 1, 4, 5] rfl)
            · refine lv_iload hx hb (g_21 (v := 4) bX6_readerOf rfl) (lv_at hl 1 rfl) ?_
              refine lv_iload hx hb (g_21 (v := 5) bX6_readerOf rfl) (lv_at hl 0 rfl) ?_
              refine lv_icmp_ne (tgt := 82) hx hb dX6_readerOf_56 (by decide +kernel) (fun c_25 => ?_) (fun c_25 => ?_)
              · refine lv_iload_n hx hb (g_28 bX6_readerOf rfl) rfl (lv_at hl 3 rfl) ?_
                refine lv_istore_n (lv' := [(2, .int (nI k_19)), (5, .int (zwk tA k_19 kB)), (4, .int (zwk tA j_4 kB)), (3, .int (nI j_4)), (0, .ref qm), (1, .int (nI kB))]) hx hb (g_61 bX6_readerOf rfl) rfl hl (by decide +kernel) rfl (fun ls => ?_)
                clear hl
                intro hl
                refine lv_iinc (v := nI (j_4 + 1)) (lv' := [(3, .int (nI (j_4 + 1))), (2, .int (nI k_19)), (5, .int (zwk tA k_19 kB)), (4, .int (zwk tA j_4 kB)), (0, .ref qm), (1, .int (nI kB))]) hx hb dX6_readerOf_84 hl (k := 3) rfl (nI_1 _) (by decide +kernel) rfl (fun ls => ?_)
                clear hl
                intro hl
                refine lv_goto (tgt := 4) hx hb dX6_readerOf_87 (by decide +kernel) ?_
                exact ih_3 (j_4 + 1) (nI k_19) (by omega) (by omega) (by rw [br_skip (fun q => q.2.2.elim (fun r => c_18 (hxB_7.trans r)) (fun r => r.elim (fun r => c_24 (by rw [(br_snd (by omega) (hxB_7.symm.trans ek_21) (by omega))] at r; exact r)) (fun r => c_25 (by rw [(br_snd (by omega) (hxB_7.symm.trans ek_21) (by omega))] at r; exact r.1))))]; exact ek_21.symm.trans hxB_7) _ (lv_sub hl [0, 1, 4, 5] rfl)
              · refine lv_aload_n hx hb (g_42 bX6_readerOf rfl) rfl (lv_at hl 4 rfl) ?_
                refine va_get (D := G) (ci := 5) (v := .ref qmO) (C := RX6) (T := TX6) (N := 35) hx hb hts iX_X6 hown hK hP 0 rfl rfl 13 (by decide +kernel) (hts _ m_t863) (fun _ h9 => h9) rfl (g_180 (v := 45) bX6_readerOf rfl) ?_
                refine lv_iload_n hx hb (g_29 bX6_readerOf rfl) rfl (lv_at hl 2 rfl) ?_
                refine va_alda hx hb hK hP 10 3 rfl rfl (in8 (by omega)) (g_50 bX6_readerOf rfl) ?_
                refine lv_setv (v := .ref (rO j_4)) (g_ref (by omega)) ?_
                refine lv_iconst (v := 0) hx hb (g_3 bX6_readerOf rfl) (by decide +kernel) ?_
                refine va_iald hx hb hK hP (11 + j_4) 0 (sg8 (n0 := 11) (f := (fun j => zzI cy (rO j) 5 (onR tA j))) rfl rfl rfl rfl rfl rfl rfl rfl j_4 (by omega)) rfl (in_c rfl) (g_46 bX6_readerOf rfl) ?_
                refine lv_seti (v := T_ag tA j_4) (on_0 _ _) ?_
                refine lv_aload_n hx hb (g_42 bX6_readerOf rfl) rfl (lv_at hl 4 rfl) ?_
                refine va_get (D := G) (ci := 5) (v := .ref qmO) (C := RX6) (T := TX6) (N := 35) hx hb hts iX_X6 hown hK hP 0 rfl rfl 13 (by decide +kernel) (hts _ m_t863) (fun _ h9 => h9) rfl (g_180 (v := 45) bX6_readerOf rfl) ?_
                refine lv_iload_n hx hb (g_28 bX6_readerOf rfl) rfl (lv_at hl 3 rfl) ?_
                refine va_alda hx hb hK hP 10 3 rfl rfl (in8 (by omega)) (g_50 bX6_readerOf rfl) ?_
                refine lv_setv (v := .ref (rO k_19)) (g_ref (by omega)) ?_
                refine lv_iconst (v := 0) hx hb (g_3 bX6_readerOf rfl) (by decide +kernel) ?_
                refine va_iald hx hb hK hP (11 + k_19) 0 (sg8 (n0 := 11) (f := (fun j => zzI cy (rO j) 5 (onR tA j))) rfl rfl rfl rfl rfl rfl rfl rfl k_19 (by omega)) rfl (in_c rfl) (g_46 bX6_readerOf rfl) ?_
                refine lv_seti (v := T_ag tA k_19) (on_0 _ _) ?_
                refine lv_icmp_ge (tgt := 82) hx hb dX6_readerOf_75 (by decide +kernel) (fun c_26 => ?_) (fun c_26 => ?_)
                · refine lv_iload_n hx hb (g_28 bX6_readerOf rfl) rfl (lv_at hl 3 rfl) ?_
                  refine lv_istore_n (lv' := [(2, .int (nI k_19)), (5, .int (zwk tA k_19 kB)), (4, .int (zwk tA j_4 kB)), (3, .int (nI j_4)), (0, .ref qm), (1, .int (nI kB))]) hx hb (g_61 bX6_readerOf rfl) rfl hl (by decide +kernel) rfl (fun ls => ?_)
                  clear hl
                  intro hl
                  refine lv_iinc (v := nI (j_4 + 1)) (lv' := [(3, .int (nI (j_4 + 1))), (2, .int (nI k_19)), (5, .int (zwk tA k_19 kB)), (4, .int (zwk tA j_4 kB)), (0, .ref qm), (1, .int (nI kB))]) hx hb dX6_readerOf_84 hl (k := 3) rfl (nI_1 _) (by decide +kernel) rfl (fun ls => ?_)
                  clear hl
                  intro hl
                  refine lv_goto (tgt := 4) hx hb dX6_readerOf_87 (by decide +kernel) ?_
                  exact ih_3 (j_4 + 1) (nI k_19) (by omega) (by omega) (by rw [br_skip (fun q => q.2.2.elim (fun r => c_18 (hxB_7.trans r)) (fun r => r.elim (fun r => c_24 (by rw [(br_snd (by omega) (hxB_7.symm.trans ek_21) (by omega))] at r; exact r)) (fun r => Int32.not_lt.mpr c_26 (by have z := r.2; rw [← hxB_7, ek_21, nI_clamp (by omega)] at z; exact z))))]; exact ek_21.symm.trans hxB_7) _ (lv_sub hl [0, 1, 4, 5] rfl)
                · refine lv_iload_n hx hb (g_29 bX6_readerOf rfl) rfl (lv_at hl 2 rfl) ?_
                  refine lv_goto (tgt := 83) hx hb dX6_readerOf_79 (by decide +kernel) ?_
                  refine lv_istore_n (lv' := [(2, .int (nI j_4)), (5, .int (zwk tA k_19 kB)), (4, .int (zwk tA j_4 kB)), (3, .int (nI j_4)), (0, .ref qm), (1, .int (nI kB))]) hx hb (g_61 bX6_readerOf rfl) rfl hl (by decide +kernel) rfl (fun ls => ?_)
                  clear hl
                  intro hl
                  refine lv_iinc (v := nI (j_4 + 1)) (lv' := [(3, .int (nI (j_4 + 1))), (2, .int (nI j_4)), (5, .int (zwk tA k_19 kB)), (4, .int (zwk tA j_4 kB)), (0, .ref qm), (1, .int (nI kB))]) hx hb dX6_readerOf_84 hl (k := 3) rfl (nI_1 _) (by decide +kernel) rfl (fun ls => ?_)
                  clear hl
                  intro hl
                  refine lv_goto (tgt := 4) hx hb dX6_readerOf_87 (by decide +kernel) ?_
                  exact ih_3 (j_4 + 1) (nI j_4) (by omega) (by omega) (by rw [br_upd ⟨h_14, (wk_m1 hTI _ _), Or.inr (Or.inr ⟨by rw [(br_snd (by omega) (hxB_7.symm.trans ek_21) (by omega))]; exact c_25, by rw [← hxB_7, ek_21, nI_clamp (by omega)]; exact Int32.not_le.mp c_26⟩)⟩]) _ (lv_sub hl [0, 1, 4, 5] rfl)
          · refine lv_iconst (v := (-1)) hx hb (g_2 bX6_readerOf rfl) (by decide +kernel) ?_
            refine lv_goto (tgt := 43) hx hb dX6_readerOf_34 (by decide +kernel) ?_
            refine lv_istore (lv' := [(5, .int (-1)), (4, .int (zwk tA j_4 kB)), (3, .int (nI j_4)), (2, .int xB_5), (0, .ref qm), (1, .int (nI kB))]) hx hb (g_54 (v := 5) bX6_readerOf rfl) hl (by decide +kernel) rfl (fun ls => ?_)
            clear hl
            intro hl
            refine lv_iload hx hb (g_21 (v := 4) bX6_readerOf rfl) (lv_at hl 1 rfl) ?_
            refine lv_iload hx hb (g_21 (v := 5) bX6_readerOf rfl) (lv_at hl 0 rfl) ?_
            refine lv_icmp_gt (tgt := 78) hx hb dX6_readerOf_49 (by decide +kernel) (fun c_27 => ?_) (fun c_27 => ?_)
            · refine lv_iload_n hx hb (g_29 bX6_readerOf rfl) rfl (lv_at hl 2 rfl) ?_
              refine lv_goto (tgt := 83) hx hb dX6_readerOf_79 (by decide +kernel) ?_
              refine lv_istore_n (lv' := [(2, .int (nI j_4)), (5, .int (-1)), (4, .int (zwk tA j_4 kB)), (3, .int (nI j_4)), (0, .ref qm), (1, .int (nI kB))]) hx hb (g_61 bX6_readerOf rfl) rfl hl (by decide +kernel) rfl (fun ls => ?_)
              clear hl
              intro hl
              refine lv_iinc (v := nI (j_4 + 1)) (lv' := [(3, .int (nI (j_4 + 1))), (2, .int (nI j_4)), (5, .int (-1)), (4, .int (zwk tA j_4 kB)), (0, .ref qm), (1, .int (nI kB))]) hx hb dX6_readerOf_84 hl (k := 3) rfl (nI_1 _) (by decide +kernel) rfl (fun ls => ?_)
              clear hl
              intro hl
              refine lv_goto (tgt := 4) hx hb dX6_readerOf_87 (by decide +kernel) ?_
              exact ih_3 (j_4 + 1) (nI j_4) (by omega) (by omega) (by rw [br_upd ⟨h_14, (wk_m1 hTI _ _), Or.inl (hxB_7 ▸ c_18)⟩]) _ (lv_sub hl [0, 1, 4, 5] rfl)
            · exact absurd (wk_gt hTI _ _) c_27
        · refine lv_if_eq (tgt := 84) hx hb dX6_readerOf_17 (by decide +kernel) (fun _ => ?_) (fun h9 => absurd (by decide +kernel) h9)
          refine lv_iinc (v := nI (j_4 + 1)) (lv' := [(3, .int (nI (j_4 + 1))), (2, .int xB_5), (0, .ref qm), (1, .int (nI kB))]) hx hb dX6_readerOf_84 hl (k := 0) rfl (nI_1 _) (by decide +kernel) rfl (fun ls => ?_)
          clear hl
          intro hl
          refine lv_goto (tgt := 4) hx hb dX6_readerOf_87 (by decide +kernel) ?_
          exact ih_3 (j_4 + 1) xB_5 (by omega) (by omega) (by rw [br_skip (fun q => by rw [h_14] at q; exact absurd q.1 (by decide +kernel))]; exact hxB_7) _ (lv_sub hl [0, 1, 2, 3] rfl)
  exact lp_1 ((8 - 0) + 1) 0 (-1) (Nat.lt_succ_self _) (Nat.zero_le _) rfl ls (lv_sub hl [0, 1, 2, 3] rfl)
end
