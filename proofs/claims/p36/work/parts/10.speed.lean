/-! cells by short names; one restatement for both facts; a call as one step -/
noncomputable abbrev zzI (cy : Nat → ClassId) (q n : Nat) (f : Nat → Int32) : Nat × va_E := (q, .inl (cy 0, n, .inl f))
noncomputable abbrev zzB (cy : Nat → ClassId) (q n : Nat) (f : Nat → Int32) : Nat × va_E := (q, .inl (cy 2, n, .inl f))
noncomputable abbrev zzJ (cy : Nat → ClassId) (q n : Nat) (f : Nat → Int64) : Nat × va_E := (q, .inl (cy 1, n, .inr (.inl f)))
noncomputable abbrev zzQ (cy : Nat → ClassId) (k q n : Nat) (f : Nat → Option Nat) : Nat × va_E := (q, .inl (cy k, n, .inr (.inr (.inr (.inr f)))))
noncomputable abbrev zzG (cy : Nat → ClassId) (k q : Nat) (r : Nat → Nat) : Nat × va_E := (q, .inl (cy k, 8, .inr (.inr (.inr (.inr (fun i => if i < 8 then some (r i) else none))))))
noncomputable abbrev zzO (q k : Nat) (fs : List Value) : Nat × va_E := (q, .inr (k, fs))
theorem pd_as {G : va_G} {H : Heap} {A : Nat → Prop} {ws : va_W} (ws' : va_W) (h : va_P G CL ws H) (d : va_D A ws) (e : ws = ws') : va_P G CL ws' H ∧ va_D A ws' := e ▸ ⟨h, d⟩
theorem al_P {G : va_G} {H : Heap} {a b c : va_W} (h : va_P G CL (a ++ (b ++ c)) H) : va_P G CL ((a ++ b) ++ c) H := (List.append_assoc a b c).symm ▸ h
theorem al_D {A : Nat → Prop} {a b c : va_W} (h : va_D A (a ++ (b ++ c))) : va_D A ((a ++ b) ++ c) := (List.append_assoc a b c).symm ▸ h
theorem ar_P {G : va_G} {H : Heap} {a b c : va_W} (h : va_P G CL ((a ++ b) ++ c) H) : va_P G CL (a ++ (b ++ c)) H := List.append_assoc a b c ▸ h
theorem ar_D {A : Nat → Prop} {a b c : va_W} (h : va_D A ((a ++ b) ++ c)) : va_D A (a ++ (b ++ c)) := List.append_assoc a b c ▸ h
theorem as1P {G : va_G} {H : Heap} {w k u q : va_W} (h : va_P G CL ((w ++ (k ++ u)) ++ q) H) : va_P G CL ((w ++ k) ++ (u ++ q)) H := by simpa only [List.append_assoc] using h
theorem as1D {A : Nat → Prop} {w k u q : va_W} (h : va_D A ((w ++ (k ++ u)) ++ q)) : va_D A ((w ++ k) ++ (u ++ q)) := by simpa only [List.append_assoc] using h
noncomputable def selW : List Bool → va_W → va_W
  | [], _ => []
  | true :: m, w => match w with
    | [] => []
    | c :: ws => c :: selW m ws
  | false :: m, w => match w with
    | [] => []
    | _ :: ws => selW m ws
noncomputable def trueIx : Nat → List Bool → List Nat
  | _, [] => []
  | k, true :: m => k :: trueIx (k + 1) m
  | k, false :: m => trueIx (k + 1) m
noncomputable def okC (isC : List Nat) (mk : List Bool) : Bool := va_nd isC && isC.all (fun i => !(mk.getD i false))
theorem tr_mem : ∀ (mk : List Bool) (k i : Nat), i ∈ trueIx k mk → k ≤ i ∧ mk.getD (i - k) false = true := by
  intro mk
  induction mk with
  | nil => intro k i h; cases h
  | cons x m ih =>
    intro k i h
    have step : ∀ j, j ∈ trueIx (k + 1) m → k ≤ j ∧ (x :: m).getD (j - k) false = true := fun j hj => by
      obtain ⟨h1, h2⟩ := ih (k + 1) j hj
      refine ⟨by omega, ?_⟩
      rw [show j - k = (j - (k + 1)) + 1 by omega]
      exact h2
    cases x with
    | true =>
      rcases List.mem_cons.mp h with rfl | h
      · exact ⟨Nat.le_refl _, by rw [Nat.sub_self]; rfl⟩
      · exact step i h
    | false => exact step i h
theorem okC_nd {isC : List Nat} {mk : List Bool} (h : okC isC mk = true) : va_nd isC = true := by
  unfold okC at h
  rw [Bool.and_eq_true] at h
  exact h.1
theorem okC_dis {isC : List Nat} {mk : List Bool} (h : okC isC mk = true) : ∀ i ∈ trueIx 0 mk, i ∉ isC := fun i hi hc => by
  unfold okC at h
  rw [Bool.and_eq_true, List.all_eq_true] at h
  have h1 := h.2 i hc
  have h2 := (tr_mem mk 0 i hi).2
  rw [Nat.sub_zero] at h2
  rw [h2] at h1
  cases h1
theorem sel_nd : ∀ (mk : List Bool) (k : Nat), va_nd (trueIx k mk) = true := by
  intro mk
  induction mk with
  | nil => intro k; rfl
  | cons x m ih =>
    intro k
    cases x with
    | true =>
      show (decide (k ∉ trueIx (k + 1) m) && va_nd (trueIx (k + 1) m)) = true
      rw [Bool.and_eq_true]
      exact ⟨decide_eq_true (fun h => by have := (tr_mem m (k + 1) k h).1; omega), ih (k + 1)⟩
    | false => exact ih (k + 1)
theorem sel_okk : ∀ (mk : List Bool) (ws full : va_W) (k : Nat), (∀ j : Nat, full[k + j]? = ws[j]?) → mk.length ≤ ws.length → (trueIx k mk).map (fun i => full[i]?) = (selW mk ws).map some := by
  intro mk
  induction mk with
  | nil => intro ws full k _ _; rfl
  | cons x m ih =>
    intro ws full k hf hm
    cases ws with
    | nil => exact absurd hm (by simp)
    | cons c ws =>
      have h1 := ih ws full (k + 1) (fun j => by rw [show k + 1 + j = k + (j + 1) by omega, hf (j + 1)]; rfl) (by simpa using hm)
      cases x with
      | true =>
        show full[k]? :: (trueIx (k + 1) m).map (fun i => full[i]?) = some c :: (selW m ws).map some
        rw [h1, ← Nat.add_zero k, hf 0]
        rfl
      | false => exact h1
theorem sel_ok {mk : List Bool} {ws : va_W} (hm : Nat.ble mk.length ws.length = true) : (trueIx 0 mk).map (fun i => ws[i]?) = (selW mk ws).map some := sel_okk mk ws ws 0 (fun j => by rw [Nat.zero_add]) (Nat.le_of_ble_eq_true hm)
theorem tx_lt {X w : va_W} {is : List Nat} (h : is.map (fun i => X[i]?) = w.map some) : ∀ i ∈ is, i < X.length := fun i hi => by
  have h1 : X[i]? ∈ is.map (fun i => X[i]?) := List.mem_map.mpr ⟨i, hi, rfl⟩
  rw [h] at h1
  obtain ⟨x, _, hx⟩ := List.mem_map.mp h1
  exact (List.getElem?_eq_some_iff.mp hx.symm).1
theorem tx_app {X w pl : va_W} {is : List Nat} (h : is.map (fun i => X[i]?) = w.map some) : is.map (fun i => (X ++ pl)[i]?) = w.map some := by
  rw [← h]
  apply List.map_congr_left
  intro i hi
  exact List.getElem?_append_left (tx_lt h i hi)
section SPEED1
variable {p : Program} {l : Launch} {e : Env} {R : Room} {s : State} {m : MethodId} {args : Array Value} {below : List Frame} {meth : Method} {c : Code} {H : Heap} {locs : List Loc} {cells slots : Nat} {Q : State → Prop}
variable {y : MethodName} {bytes cc : ByteArray} {maxL nL mc ms index d pc : Nat} {ret : Option FieldType} {own : String} {b : Addr} {As rest st0 : List Value} {ls : Array Slot} {G : va_G} {cy : Nat → ClassId}
variable {ws wc Xw cx pl p1 p2 : va_W} {A : Nat → Prop} {q : vw_C} {fs : List Value} {X : (Nat → Prop) → State → Heap → Prop}
theorem cVi {post : Int32 → va_W → Prop} (S : CallFix p m c cc nL s args BIG own) (hM : Met l y (.code y bytes maxL ret :: BIG) (Rm d mc ms) (Wr G cy wc H.size (.ref b :: As)) (Wi G post (va_A wc H.size)) mc ms (va_A wc H.size)) (L : LkV own index q.1 y bytes maxL ret As.length) (hN : KN G cy s) (hP : va_P G CL ws H) (hD : va_D A ws) (hS : va_S A s.heap H locs) (hA : ∀ q, s.heap.size ≤ q → A q) (isC : List Nat) (mk : List Bool) (hC : isC.map (fun i => ws[i]?) = wc.map some) (hk : okC isC mk = true) (hm : Nat.ble mk.length ws.length = true) (qr ci : Nat) (he : ws[qr]? = some (b, .inr (ci, fs))) (hc : CL[ci]? = some q) (hst : st0 = As.reverse ++ .ref b :: rest) (hR : d + 1 ≤ R.frames ∧ 8 + (maxL + 11) + 60 * d ≤ R.locals) (hsize : ls.size = nL) (hW : (rest.map fun v => v.category).sum ≤ 8) (hdg : decode cc pc = .ok (.invokevirtual index, 3)) (hf : cells + mc ≤ R.cells ∧ slots + ms ≤ R.slots)
    (kk : ∀ (r : Int32) (u : va_W) (H1 : Heap) (locs1 : List Loc), post r u → va_P G CL (selW mk ws ++ u) H1 → va_D A (selW mk ws ++ u) → va_S A s.heap H1 locs1 → W p l e R s m args below meth c H1 locs1 (cells + mc) (slots + ms) Q (F0 m (pc + 3) ls (.int r :: rest))) : W p l e R s m args below meth c H locs cells slots Q (F0 m pc ls st0) := kWi (rV S hM L (preWV hN hP hD isC hC (okC_nd hk) qr ci he hc) hst hR hsize hW hdg hf) hP hD hS hA isC (trueIx 0 mk) hC (sel_ok hm) (sel_nd mk 0) (okC_dis hk) kk
theorem cVv {post : va_W → Prop} (S : CallFix p m c cc nL s args BIG own) (hM : Met l y (.code y bytes maxL ret :: BIG) (Rm d mc ms) (Wr G cy wc H.size (.ref b :: As)) (Wv G post (va_A wc H.size)) mc ms (va_A wc H.size)) (L : LkV own index q.1 y bytes maxL ret As.length) (hN : KN G cy s) (hP : va_P G CL ws H) (hD : va_D A ws) (hS : va_S A s.heap H locs) (hA : ∀ q, s.heap.size ≤ q → A q) (isC : List Nat) (mk : List Bool) (hC : isC.map (fun i => ws[i]?) = wc.map some) (hk : okC isC mk = true) (hm : Nat.ble mk.length ws.length = true) (qr ci : Nat) (he : ws[qr]? = some (b, .inr (ci, fs))) (hc : CL[ci]? = some q) (hst : st0 = As.reverse ++ .ref b :: rest) (hR : d + 1 ≤ R.frames ∧ 8 + (maxL + 11) + 60 * d ≤ R.locals) (hsize : ls.size = nL) (hW : (rest.map fun v => v.category).sum ≤ 8) (hdg : decode cc pc = .ok (.invokevirtual index, 3)) (hf : cells + mc ≤ R.cells ∧ slots + ms ≤ R.slots)
    (kk : ∀ (u : va_W) (H1 : Heap) (locs1 : List Loc), post u → va_P G CL (selW mk ws ++ u) H1 → va_D A (selW mk ws ++ u) → va_S A s.heap H1 locs1 → W p l e R s m args below meth c H1 locs1 (cells + mc) (slots + ms) Q (F0 m (pc + 3) ls rest)) : W p l e R s m args below meth c H locs cells slots Q (F0 m pc ls st0) := kWv (rV S hM L (preWV hN hP hD isC hC (okC_nd hk) qr ci he hc) hst hR hsize hW hdg hf) hP hD hS hA isC (trueIx 0 mk) hC (sel_ok hm) (sel_nd mk 0) (okC_dis hk) kk
theorem cVq {post : Nat → va_W → Prop} (S : CallFix p m c cc nL s args BIG own) (hM : Met l y (.code y bytes maxL ret :: BIG) (Rm d mc ms) (Wr G cy wc H.size (.ref b :: As)) (Wq G post (va_A wc H.size)) mc ms (va_A wc H.size)) (L : LkV own index q.1 y bytes maxL ret As.length) (hN : KN G cy s) (hP : va_P G CL ws H) (hD : va_D A ws) (hS : va_S A s.heap H locs) (hA : ∀ q, s.heap.size ≤ q → A q) (isC : List Nat) (mk : List Bool) (hC : isC.map (fun i => ws[i]?) = wc.map some) (hk : okC isC mk = true) (hm : Nat.ble mk.length ws.length = true) (qr ci : Nat) (he : ws[qr]? = some (b, .inr (ci, fs))) (hc : CL[ci]? = some q) (hst : st0 = As.reverse ++ .ref b :: rest) (hR : d + 1 ≤ R.frames ∧ 8 + (maxL + 11) + 60 * d ≤ R.locals) (hsize : ls.size = nL) (hW : (rest.map fun v => v.category).sum ≤ 8) (hdg : decode cc pc = .ok (.invokevirtual index, 3)) (hf : cells + mc ≤ R.cells ∧ slots + ms ≤ R.slots)
    (kk : ∀ (r : Nat) (u : va_W) (H1 : Heap) (locs1 : List Loc), post r u → va_P G CL (selW mk ws ++ u) H1 → va_D A (selW mk ws ++ u) → va_S A s.heap H1 locs1 → W p l e R s m args below meth c H1 locs1 (cells + mc) (slots + ms) Q (F0 m (pc + 3) ls (.ref r :: rest))) : W p l e R s m args below meth c H locs cells slots Q (F0 m pc ls st0) := kWq (rV S hM L (preWV hN hP hD isC hC (okC_nd hk) qr ci he hc) hst hR hsize hW hdg hf) hP hD hS hA isC (trueIx 0 mk) hC (sel_ok hm) (sel_nd mk 0) (okC_dis hk) kk
theorem cSi {post : Int32 → va_W → Prop} (S : CallFix p m c cc nL s args BIG own) (hM : Met l y (.code y bytes maxL ret :: BIG) (Rm d mc ms) (Wr G cy wc H.size As) (Wi G post (va_A wc H.size)) mc ms (va_A wc H.size)) (L : LkS own index y bytes maxL ret As.length) (hN : KN G cy s) (hP : va_P G CL ws H) (hD : va_D A ws) (hS : va_S A s.heap H locs) (hA : ∀ q, s.heap.size ≤ q → A q) (isC : List Nat) (mk : List Bool) (hC : isC.map (fun i => ws[i]?) = wc.map some) (hk : okC isC mk = true) (hm : Nat.ble mk.length ws.length = true) (hst : st0 = As.reverse ++ rest) (hR : d + 1 ≤ R.frames ∧ 8 + (maxL + 11) + 60 * d ≤ R.locals) (hsize : ls.size = nL) (hW : (rest.map fun v => v.category).sum ≤ 8) (hdg : decode cc pc = .ok (.invokestatic index, 3)) (hf : cells + mc ≤ R.cells ∧ slots + ms ≤ R.slots)
    (kk : ∀ (r : Int32) (u : va_W) (H1 : Heap) (locs1 : List Loc), post r u → va_P G CL (selW mk ws ++ u) H1 → va_D A (selW mk ws ++ u) → va_S A s.heap H1 locs1 → W p l e R s m args below meth c H1 locs1 (cells + mc) (slots + ms) Q (F0 m (pc + 3) ls (.int r :: rest))) : W p l e R s m args below meth c H locs cells slots Q (F0 m pc ls st0) := kWi (rS S hM L (preWS hN hP hD isC hC (okC_nd hk)) hst hR hsize hW hdg hf) hP hD hS hA isC (trueIx 0 mk) hC (sel_ok hm) (sel_nd mk 0) (okC_dis hk) kk
theorem cSv {post : va_W → Prop} (S : CallFix p m c cc nL s args BIG own) (hM : Met l y (.code y bytes maxL ret :: BIG) (Rm d mc ms) (Wr G cy wc H.size As) (Wv G post (va_A wc H.size)) mc ms (va_A wc H.size)) (L : LkS own index y bytes maxL ret As.length) (hN : KN G cy s) (hP : va_P G CL ws H) (hD : va_D A ws) (hS : va_S A s.heap H locs) (hA : ∀ q, s.heap.size ≤ q → A q) (isC : List Nat) (mk : List Bool) (hC : isC.map (fun i => ws[i]?) = wc.map some) (hk : okC isC mk = true) (hm : Nat.ble mk.length ws.length = true) (hst : st0 = As.reverse ++ rest) (hR : d + 1 ≤ R.frames ∧ 8 + (maxL + 11) + 60 * d ≤ R.locals) (hsize : ls.size = nL) (hW : (rest.map fun v => v.category).sum ≤ 8) (hdg : decode cc pc = .ok (.invokestatic index, 3)) (hf : cells + mc ≤ R.cells ∧ slots + ms ≤ R.slots)
    (kk : ∀ (u : va_W) (H1 : Heap) (locs1 : List Loc), post u → va_P G CL (selW mk ws ++ u) H1 → va_D A (selW mk ws ++ u) → va_S A s.heap H1 locs1 → W p l e R s m args below meth c H1 locs1 (cells + mc) (slots + ms) Q (F0 m (pc + 3) ls rest)) : W p l e R s m args below meth c H locs cells slots Q (F0 m pc ls st0) := kWv (rS S hM L (preWS hN hP hD isC hC (okC_nd hk)) hst hR hsize hW hdg hf) hP hD hS hA isC (trueIx 0 mk) hC (sel_ok hm) (sel_nd mk 0) (okC_dis hk) kk
theorem cSq {post : Nat → va_W → Prop} (S : CallFix p m c cc nL s args BIG own) (hM : Met l y (.code y bytes maxL ret :: BIG) (Rm d mc ms) (Wr G cy wc H.size As) (Wq G post (va_A wc H.size)) mc ms (va_A wc H.size)) (L : LkS own index y bytes maxL ret As.length) (hN : KN G cy s) (hP : va_P G CL ws H) (hD : va_D A ws) (hS : va_S A s.heap H locs) (hA : ∀ q, s.heap.size ≤ q → A q) (isC : List Nat) (mk : List Bool) (hC : isC.map (fun i => ws[i]?) = wc.map some) (hk : okC isC mk = true) (hm : Nat.ble mk.length ws.length = true) (hst : st0 = As.reverse ++ rest) (hR : d + 1 ≤ R.frames ∧ 8 + (maxL + 11) + 60 * d ≤ R.locals) (hsize : ls.size = nL) (hW : (rest.map fun v => v.category).sum ≤ 8) (hdg : decode cc pc = .ok (.invokestatic index, 3)) (hf : cells + mc ≤ R.cells ∧ slots + ms ≤ R.slots)
    (kk : ∀ (r : Nat) (u : va_W) (H1 : Heap) (locs1 : List Loc), post r u → va_P G CL (selW mk ws ++ u) H1 → va_D A (selW mk ws ++ u) → va_S A s.heap H1 locs1 → W p l e R s m args below meth c H1 locs1 (cells + mc) (slots + ms) Q (F0 m (pc + 3) ls (.ref r :: rest))) : W p l e R s m args below meth c H locs cells slots Q (F0 m pc ls st0) := kWq (rS S hM L (preWS hN hP hD isC hC (okC_nd hk)) hst hR hsize hW hdg hf) hP hD hS hA isC (trueIx 0 mk) hC (sel_ok hm) (sel_nd mk 0) (okC_dis hk) kk
theorem cIv {post : va_W → Prop} (S : CallFix p m c cc nL s args BIG own) (hM : Met l y (.code y bytes maxL none :: BIG) (Rm d mc ms) (Wr G cy wc H.size (.ref b :: As)) (Wv G post (va_A wc H.size)) mc ms (va_A wc H.size)) (L : LkI own index y bytes maxL As.length) (hN : KN G cy s) (hP : va_P G CL ws H) (hD : va_D A ws) (hS : va_S A s.heap H locs) (hA : ∀ q, s.heap.size ≤ q → A q) (isC : List Nat) (mk : List Bool) (hC : isC.map (fun i => ws[i]?) = wc.map some) (hk : okC isC mk = true) (hm : Nat.ble mk.length ws.length = true) (hst : st0 = As.reverse ++ .ref b :: rest) (hR : d + 1 ≤ R.frames ∧ 8 + (maxL + 11) + 60 * d ≤ R.locals) (hsize : ls.size = nL) (hW : (rest.map fun v => v.category).sum ≤ 8) (hdg : decode cc pc = .ok (.invokespecial index, 3)) (hf : cells + mc ≤ R.cells ∧ slots + ms ≤ R.slots)
    (kk : ∀ (u : va_W) (H1 : Heap) (locs1 : List Loc), post u → va_P G CL (selW mk ws ++ u) H1 → va_D A (selW mk ws ++ u) → va_S A s.heap H1 locs1 → W p l e R s m args below meth c H1 locs1 (cells + mc) (slots + ms) Q (F0 m (pc + 3) ls rest)) : W p l e R s m args below meth c H locs cells slots Q (F0 m pc ls st0) := kWv (rI S hM L (preWS hN hP hD isC hC (okC_nd hk)) hst hR hsize hW hdg hf) hP hD hS hA isC (trueIx 0 mk) hC (sel_ok hm) (sel_nd mk 0) (okC_dis hk) kk
theorem cSNi {post : Int32 → va_W → Prop} (S : CallFix p m c cc nL s args BIG own) (hM : Met l y (.code y bytes maxL ret :: BIG) (Rm d mc ms) (Wr G cy wc H.size As) (Wi G post (va_A wc H.size)) mc ms (va_A wc H.size)) (L : LkSN own index y bytes maxL ret As.length) (hN : KN G cy s) (hP : va_P G CL ws H) (hD : va_D A ws) (hS : va_S A s.heap H locs) (hA : ∀ q, s.heap.size ≤ q → A q) (isC : List Nat) (mk : List Bool) (hC : isC.map (fun i => ws[i]?) = wc.map some) (hk : okC isC mk = true) (hm : Nat.ble mk.length ws.length = true) (hst : st0 = As.reverse ++ rest) (hR : d + 1 ≤ R.frames ∧ 8 + (maxL + 11) + 60 * d ≤ R.locals) (hsize : ls.size = nL) (hW : (rest.map fun v => v.category).sum ≤ 8) (hdg : decode cc pc = .ok (.invokestatic index, 3)) (hf : cells + mc ≤ R.cells ∧ slots + ms ≤ R.slots)
    (kk : ∀ (r : Int32) (u : va_W) (H1 : Heap) (locs1 : List Loc), post r u → va_P G CL (selW mk ws ++ u) H1 → va_D A (selW mk ws ++ u) → va_S A s.heap H1 locs1 → W p l e R s m args below meth c H1 locs1 (cells + mc) (slots + ms) Q (F0 m (pc + 3) ls (.int r :: rest))) : W p l e R s m args below meth c H locs cells slots Q (F0 m pc ls st0) := kWi (rSN S hN hM L (preWS hN hP hD isC hC (okC_nd hk)) hst hR hsize hW hdg hf) hP hD hS hA isC (trueIx 0 mk) hC (sel_ok hm) (sel_nd mk 0) (okC_dis hk) kk
theorem cSNv {post : va_W → Prop} (S : CallFix p m c cc nL s args BIG own) (hM : Met l y (.code y bytes maxL ret :: BIG) (Rm d mc ms) (Wr G cy wc H.size As) (Wv G post (va_A wc H.size)) mc ms (va_A wc H.size)) (L : LkSN own index y bytes maxL ret As.length) (hN : KN G cy s) (hP : va_P G CL ws H) (hD : va_D A ws) (hS : va_S A s.heap H locs) (hA : ∀ q, s.heap.size ≤ q → A q) (isC : List Nat) (mk : List Bool) (hC : isC.map (fun i => ws[i]?) = wc.map some) (hk : okC isC mk = true) (hm : Nat.ble mk.length ws.length = true) (hst : st0 = As.reverse ++ rest) (hR : d + 1 ≤ R.frames ∧ 8 + (maxL + 11) + 60 * d ≤ R.locals) (hsize : ls.size = nL) (hW : (rest.map fun v => v.category).sum ≤ 8) (hdg : decode cc pc = .ok (.invokestatic index, 3)) (hf : cells + mc ≤ R.cells ∧ slots + ms ≤ R.slots)
    (kk : ∀ (u : va_W) (H1 : Heap) (locs1 : List Loc), post u → va_P G CL (selW mk ws ++ u) H1 → va_D A (selW mk ws ++ u) → va_S A s.heap H1 locs1 → W p l e R s m args below meth c H1 locs1 (cells + mc) (slots + ms) Q (F0 m (pc + 3) ls rest)) : W p l e R s m args below meth c H locs cells slots Q (F0 m pc ls st0) := kWv (rSN S hN hM L (preWS hN hP hD isC hC (okC_nd hk)) hst hR hsize hW hdg hf) hP hD hS hA isC (trueIx 0 mk) hC (sel_ok hm) (sel_nd mk 0) (okC_dis hk) kk
theorem cSNq {post : Nat → va_W → Prop} (S : CallFix p m c cc nL s args BIG own) (hM : Met l y (.code y bytes maxL ret :: BIG) (Rm d mc ms) (Wr G cy wc H.size As) (Wq G post (va_A wc H.size)) mc ms (va_A wc H.size)) (L : LkSN own index y bytes maxL ret As.length) (hN : KN G cy s) (hP : va_P G CL ws H) (hD : va_D A ws) (hS : va_S A s.heap H locs) (hA : ∀ q, s.heap.size ≤ q → A q) (isC : List Nat) (mk : List Bool) (hC : isC.map (fun i => ws[i]?) = wc.map some) (hk : okC isC mk = true) (hm : Nat.ble mk.length ws.length = true) (hst : st0 = As.reverse ++ rest) (hR : d + 1 ≤ R.frames ∧ 8 + (maxL + 11) + 60 * d ≤ R.locals) (hsize : ls.size = nL) (hW : (rest.map fun v => v.category).sum ≤ 8) (hdg : decode cc pc = .ok (.invokestatic index, 3)) (hf : cells + mc ≤ R.cells ∧ slots + ms ≤ R.slots)
    (kk : ∀ (r : Nat) (u : va_W) (H1 : Heap) (locs1 : List Loc), post r u → va_P G CL (selW mk ws ++ u) H1 → va_D A (selW mk ws ++ u) → va_S A s.heap H1 locs1 → W p l e R s m args below meth c H1 locs1 (cells + mc) (slots + ms) Q (F0 m (pc + 3) ls (.ref r :: rest))) : W p l e R s m args below meth c H locs cells slots Q (F0 m pc ls st0) := kWq (rSN S hN hM L (preWS hN hP hD isC hC (okC_nd hk)) hst hR hsize hW hdg hf) hP hD hS hA isC (trueIx 0 mk) hC (sel_ok hm) (sel_nd mk 0) (okC_dis hk) kk
theorem cINv {post : va_W → Prop} (S : CallFix p m c cc nL s args BIG own) (hM : Met l y (.code y bytes maxL none :: BIG) (Rm d mc ms) (Wr G cy wc H.size (.ref b :: As)) (Wv G post (va_A wc H.size)) mc ms (va_A wc H.size)) (L : LkIN own index y bytes maxL As.length) (hN : KN G cy s) (hP : va_P G CL ws H) (hD : va_D A ws) (hS : va_S A s.heap H locs) (hA : ∀ q, s.heap.size ≤ q → A q) (isC : List Nat) (mk : List Bool) (hC : isC.map (fun i => ws[i]?) = wc.map some) (hk : okC isC mk = true) (hm : Nat.ble mk.length ws.length = true) (hst : st0 = As.reverse ++ .ref b :: rest) (hR : d + 1 ≤ R.frames ∧ 8 + (maxL + 11) + 60 * d ≤ R.locals) (hsize : ls.size = nL) (hW : (rest.map fun v => v.category).sum ≤ 8) (hdg : decode cc pc = .ok (.invokespecial index, 3)) (hf : cells + mc ≤ R.cells ∧ slots + ms ≤ R.slots)
    (kk : ∀ (u : va_W) (H1 : Heap) (locs1 : List Loc), post u → va_P G CL (selW mk ws ++ u) H1 → va_D A (selW mk ws ++ u) → va_S A s.heap H1 locs1 → W p l e R s m args below meth c H1 locs1 (cells + mc) (slots + ms) Q (F0 m (pc + 3) ls rest)) : W p l e R s m args below meth c H locs cells slots Q (F0 m pc ls st0) := kWv (rIN S hN hM L (preWS hN hP hD isC hC (okC_nd hk)) hst hR hsize hW hdg hf) hP hD hS hA isC (trueIx 0 mk) hC (sel_ok hm) (sel_nd mk 0) (okC_dis hk) kk
end SPEED1
