/-! a world with a tail: cells that may be there or not stand behind the known ones -/
section TAIL
variable {p : Program} {l : Launch} {e : Env} {R : Room} {s : State} {m : MethodId} {args : Array Value} {below : List Frame} {meth : Method} {c : Code} {H : Heap} {locs : List Loc} {cells slots : Nat} {Q : State → Prop}
variable {pc mc ms : Nat} {ls : Array Slot} {st0 rest As : List Value} {G : va_G} {cy : Nat → ClassId} {b : Nat} {a : Array Value}
variable {Xw cx wr pl : va_W} {A : Nat → Prop} {H0 : Heap} {X : (Nat → Prop) → State → Heap → Prop}
theorem preWVP {q : vw_C} {fs : List Value} (hN : KN G cy s) (hP : va_P G CL (Xw ++ pl) H) (hD : va_D A (Xw ++ pl)) (isC : List Nat) (hC : isC.map (fun i => Xw[i]?) = cx.map some) (hn : va_nd isC = true) (qr ci : Nat) (he : (Xw ++ pl)[qr]? = some (b, .inr (ci, fs))) (hc : CL[ci]? = some q) : PreV s H q.1 b (Wr G cy (cx ++ pl) H.size (.ref b :: As)) As :=
  ⟨Wr.blind, va_recv hN.1 hP hc he, fun U hU hW => ⟨rfl, by rw [hU], by rw [hU]; exact hP.part isC hC, hN.warm hW, (hD.part isC hn hC).weaken (fun _ _ _ _ => trivial)⟩⟩
theorem preWVXP {q : vw_C} {fs : List Value} (hN : KN G cy s) (hP : va_P G CL (Xw ++ pl) H) (hD : va_D A (Xw ++ pl)) (isC : List Nat) (hC : isC.map (fun i => Xw[i]?) = cx.map some) (hn : va_nd isC = true) (qr ci : Nat) (he : (Xw ++ pl)[qr]? = some (b, .inr (ci, fs))) (hc : CL[ci]? = some q) (ok : XOK X) (hX : X A s s.heap) (hS : va_S A s.heap H locs) (hA : ∀ q, s.heap.size ≤ q → A q) : PreV s H q.1 b (WrX G cy X (cx ++ pl) H.size (.ref b :: As)) As :=
  ⟨WrX.blind, va_recv hN.1 hP hc he, fun U hU hW => ⟨rfl, by rw [hU], by rw [hU]; exact hP.part isC hC, hN.warm hW, (hD.part isC hn hC).weaken (fun _ _ _ _ => trivial), ok, xq ok hX hS hU hW (va_freeP hD hS hA isC hC)⟩⟩
/-- the callee has no tail -/
theorem kWiQ {wc : va_W} {post : Int32 → va_W → Prop} (hr : va_Run p l e R s m args below meth c H locs cells slots mc ms (F0 m pc ls st0) rest (Wi G post (va_A wc H.size) a) (va_A wc H.size)) (hP : va_P G CL (Xw ++ pl) H) (hD : va_D A (Xw ++ pl)) (hS : va_S A H0 H locs) (hA : ∀ q, H0.size ≤ q → A q)
    (isC isR : List Nat) (hC : isC.map (fun i => Xw[i]?) = wc.map some) (hC2 : isC.map (fun i => (Xw ++ pl)[i]?) = wc.map some) (hR : isR.map (fun i => Xw[i]?) = wr.map some) (hn : va_nd isR = true) (hdis : ∀ i ∈ isR, i ∉ isC)
    (kk : ∀ (r : Int32) (u : va_W) (H1 : Heap) (locs1 : List Loc), post r u → va_P G CL ((wr ++ u) ++ pl) H1 → va_D A ((wr ++ u) ++ pl) → va_S A H0 H1 locs1 → W p l e R s m args below meth c H1 locs1 (cells + mc) (slots + ms) Q (F0 m (pc + 3) ls (.int r :: rest))) : W p l e R s m args below meth c H locs cells slots Q (F0 m pc ls st0) := by
  have hF := va_free (wc := wc) hD hS hA isC hC2
  refine va_calli hr hS (fun q _ h => hF q h) hF (fun r u t H1 locs1 ht hvm hw hB hz1 hk1 hS1 => ?_)
  obtain ⟨hP1, hD1⟩ := hB
  rw [ht] at hP1
  obtain ⟨hP2, hD2⟩ := va_joinQ hP hD isC isR hC hR hn hdis hk1 hF hP1 hD1
  exact kk r u H1 locs1 hw hP2 hD2 hS1
theorem kWvQ {wc : va_W} {post : va_W → Prop} (hr : va_Run p l e R s m args below meth c H locs cells slots mc ms (F0 m pc ls st0) rest (Wv G post (va_A wc H.size) a) (va_A wc H.size)) (hP : va_P G CL (Xw ++ pl) H) (hD : va_D A (Xw ++ pl)) (hS : va_S A H0 H locs) (hA : ∀ q, H0.size ≤ q → A q)
    (isC isR : List Nat) (hC : isC.map (fun i => Xw[i]?) = wc.map some) (hC2 : isC.map (fun i => (Xw ++ pl)[i]?) = wc.map some) (hR : isR.map (fun i => Xw[i]?) = wr.map some) (hn : va_nd isR = true) (hdis : ∀ i ∈ isR, i ∉ isC)
    (kk : ∀ (u : va_W) (H1 : Heap) (locs1 : List Loc), post u → va_P G CL ((wr ++ u) ++ pl) H1 → va_D A ((wr ++ u) ++ pl) → va_S A H0 H1 locs1 → W p l e R s m args below meth c H1 locs1 (cells + mc) (slots + ms) Q (F0 m (pc + 3) ls rest)) : W p l e R s m args below meth c H locs cells slots Q (F0 m pc ls st0) := by
  have hF := va_free (wc := wc) hD hS hA isC hC2
  refine va_callv hr hS (fun q _ h => hF q h) hF (fun u t H1 locs1 ht hvm hw hB hz1 hk1 hS1 => ?_)
  obtain ⟨hP1, hD1⟩ := hB
  rw [ht] at hP1
  obtain ⟨hP2, hD2⟩ := va_joinQ hP hD isC isR hC hR hn hdis hk1 hF hP1 hD1
  exact kk u H1 locs1 hw hP2 hD2 hS1
/-- the callee has the tail -/
theorem va_joinT {D : va_G} {u : va_W} {H1 : Heap} (hP : va_P D CL (Xw ++ pl) H) (hD : va_D A (Xw ++ pl)) (isC isR : List Nat) (hC : isC.map (fun i => Xw[i]?) = cx.map some) (hR : isR.map (fun i => Xw[i]?) = wr.map some) (hn : va_nd isR = true) (hdis : ∀ i ∈ isR, i ∉ isC)
    (hk : ∀ q : Nat, q < H.size → ¬ va_A (cx ++ pl) H.size q → H1[q]? = H[q]?) (hF : ∀ q, va_A (cx ++ pl) H.size q → A q) (hP1 : va_P D CL u H1) (hD1 : va_D (va_A (cx ++ pl) H.size) u) : va_P D CL (wr ++ u) H1 ∧ va_D A (wr ++ u) := by
  have h := va_joinP (rx := []) (pl1 := u) hP hD isC isR hC hR hn hdis hk hF hP1 hD1
  rw [List.append_nil] at h
  exact h
theorem kWiP {post : Int32 → va_W → Prop} (hr : va_Run p l e R s m args below meth c H locs cells slots mc ms (F0 m pc ls st0) rest (Wi G post (va_A (cx ++ pl) H.size) a) (va_A (cx ++ pl) H.size)) (hP : va_P G CL (Xw ++ pl) H) (hD : va_D A (Xw ++ pl)) (hS : va_S A H0 H locs) (hA : ∀ q, H0.size ≤ q → A q)
    (isC isR : List Nat) (hC : isC.map (fun i => Xw[i]?) = cx.map some) (hR : isR.map (fun i => Xw[i]?) = wr.map some) (hn : va_nd isR = true) (hdis : ∀ i ∈ isR, i ∉ isC)
    (kk : ∀ (r : Int32) (u : va_W) (H1 : Heap) (locs1 : List Loc), post r u → va_P G CL (wr ++ u) H1 → va_D A (wr ++ u) → va_S A H0 H1 locs1 → W p l e R s m args below meth c H1 locs1 (cells + mc) (slots + ms) Q (F0 m (pc + 3) ls (.int r :: rest))) : W p l e R s m args below meth c H locs cells slots Q (F0 m pc ls st0) := by
  have hF := va_freeP hD hS hA isC hC
  refine va_calli hr hS (fun q _ h => hF q h) hF (fun r u t H1 locs1 ht hvm hw hB hz1 hk1 hS1 => ?_)
  obtain ⟨hP1, hD1⟩ := hB
  rw [ht] at hP1
  obtain ⟨hP2, hD2⟩ := va_joinT hP hD isC isR hC hR hn hdis hk1 hF hP1 hD1
  exact kk r u H1 locs1 hw hP2 hD2 hS1
theorem kWvP {post : va_W → Prop} (hr : va_Run p l e R s m args below meth c H locs cells slots mc ms (F0 m pc ls st0) rest (Wv G post (va_A (cx ++ pl) H.size) a) (va_A (cx ++ pl) H.size)) (hP : va_P G CL (Xw ++ pl) H) (hD : va_D A (Xw ++ pl)) (hS : va_S A H0 H locs) (hA : ∀ q, H0.size ≤ q → A q)
    (isC isR : List Nat) (hC : isC.map (fun i => Xw[i]?) = cx.map some) (hR : isR.map (fun i => Xw[i]?) = wr.map some) (hn : va_nd isR = true) (hdis : ∀ i ∈ isR, i ∉ isC)
    (kk : ∀ (u : va_W) (H1 : Heap) (locs1 : List Loc), post u → va_P G CL (wr ++ u) H1 → va_D A (wr ++ u) → va_S A H0 H1 locs1 → W p l e R s m args below meth c H1 locs1 (cells + mc) (slots + ms) Q (F0 m (pc + 3) ls rest)) : W p l e R s m args below meth c H locs cells slots Q (F0 m pc ls st0) := by
  have hF := va_freeP hD hS hA isC hC
  refine va_callv hr hS (fun q _ h => hF q h) hF (fun u t H1 locs1 ht hvm hw hB hz1 hk1 hS1 => ?_)
  obtain ⟨hP1, hD1⟩ := hB
  rw [ht] at hP1
  obtain ⟨hP2, hD2⟩ := va_joinT hP hD isC isR hC hR hn hdis hk1 hF hP1 hD1
  exact kk u H1 locs1 hw hP2 hD2 hS1
theorem kWqP {post : Nat → va_W → Prop} (hr : va_Run p l e R s m args below meth c H locs cells slots mc ms (F0 m pc ls st0) rest (Wq G post (va_A (cx ++ pl) H.size) a) (va_A (cx ++ pl) H.size)) (hP : va_P G CL (Xw ++ pl) H) (hD : va_D A (Xw ++ pl)) (hS : va_S A H0 H locs) (hA : ∀ q, H0.size ≤ q → A q)
    (isC isR : List Nat) (hC : isC.map (fun i => Xw[i]?) = cx.map some) (hR : isR.map (fun i => Xw[i]?) = wr.map some) (hn : va_nd isR = true) (hdis : ∀ i ∈ isR, i ∉ isC)
    (kk : ∀ (r : Nat) (u : va_W) (H1 : Heap) (locs1 : List Loc), post r u → va_P G CL (wr ++ u) H1 → va_D A (wr ++ u) → va_S A H0 H1 locs1 → W p l e R s m args below meth c H1 locs1 (cells + mc) (slots + ms) Q (F0 m (pc + 3) ls (.ref r :: rest))) : W p l e R s m args below meth c H locs cells slots Q (F0 m pc ls st0) := by
  have hF := va_freeP hD hS hA isC hC
  refine va_callr hr hS (fun q _ h => hF q h) hF (fun u ra t H1 locs1 ht hvm hw hB hz1 hk1 hS1 => ?_)
  obtain ⟨⟨hP1, hD1⟩, hpo⟩ := hB
  rw [ht] at hP1
  obtain ⟨hP2, hD2⟩ := va_joinT hP hD isC isR hC hR hn hdis hk1 hF hP1 hD1
  exact kk ra u H1 locs1 hpo hP2 hD2 hS1
end TAIL
/-- rows of longs -/
def updN (K : Nat → Nat → Int64) (p b : Nat) (v : Int64) : Nat → Nat → Int64 := fun p' => if p' = p then vp_updL (K p) b v else K p'
theorem un_u {K : Nat → Nat → Int64} {p b : Nat} {v : Int64} : updN K p b v p = vp_updL (K p) b v := if_pos rfl
theorem un_n {K : Nat → Nat → Int64} {p b : Nat} {v : Int64} {j : Nat} (h : j ≠ p) : updN K p b v j = K j := if_neg h
/-- a reference that is kept beside: its place, its grids, its town, the rest of its fields -/
abbrev DM : Type := Nat × Nat × Nat × Nat × (Nat → Nat) × (Nat → Nat) × (Nat → Nat) × TA × (Nat → Value) × Int32 × Int32 × Int32 × Int32
abbrev UM : Type := Option DM
def fvL (l : List Value) : Nat → Value := fun i => l.getD i .null
def ov (u : UM) : Value := match u with
  | none => .null
  | some d => .ref d.1
def mC (cy : Nat → ClassId) (q qB qO qK : Nat) (rB rO rK : Nat → Nat) (t : TA) (x : Nat → Value) (iE iT iL iW : Int32) : va_W := [zzO q 5 [x 0, x 1, x 2, x 3, x 4, x 5, x 6, x 7, x 8, x 9, .int (nI (T_nb t)), .ref qB, .int (nI (T_np t)), .ref qO, .ref qK, .int iE, .int iT, .int (T_sd t), x 18, x 19, x 20, x 21, x 22, x 23, x 24, x 25, x 26, .int iL, .int iW, x 29, x 30, x 31, x 32, x 33, x 34], zzG cy 3 qB rB, zzI cy (rB 0) 4 (bkR t 0), zzI cy (rB 1) 4 (bkR t 1), zzI cy (rB 2) 4 (bkR t 2), zzI cy (rB 3) 4 (bkR t 3), zzI cy (rB 4) 4 (bkR t 4), zzI cy (rB 5) 4 (bkR t 5), zzI cy (rB 6) 4 (bkR t 6), zzI cy (rB 7) 4 (bkR t 7), zzG cy 3 qO rO, zzI cy (rO 0) 5 (onR t 0), zzI cy (rO 1) 5 (onR t 1), zzI cy (rO 2) 5 (onR t 2), zzI cy (rO 3) 5 (onR t 3), zzI cy (rO 4) 5 (onR t 4), zzI cy (rO 5) 5 (onR t 5), zzI cy (rO 6) 5 (onR t 6), zzI cy (rO 7) 5 (onR t 7), zzG cy 3 qK rK, zzI cy (rK 0) 8 (T_kn t 0), zzI cy (rK 1) 8 (T_kn t 1), zzI cy (rK 2) 8 (T_kn t 2), zzI cy (rK 3) 8 (T_kn t 3), zzI cy (rK 4) 8 (T_kn t 4), zzI cy (rK 5) 8 (T_kn t 5), zzI cy (rK 6) 8 (T_kn t 6), zzI cy (rK 7) 8 (T_kn t 7)]
def oM (cy : Nat → ClassId) (u : UM) : va_W := match u with
  | none => []
  | some (q, qB, qO, qK, rB, rO, rK, t, x, iE, iT, iL, iW) => mC cy q qB qO qK rB rO rK t x iE iT iL iW
def T0 : TA := T_mk 0 0 1 (fun _ => false) (fun _ => false) (fun _ => 0) (fun _ => 0) (fun _ => 0) (fun _ => 0) (fun _ => 0) (fun _ => 0) (fun _ => 0) (fun _ _ => 0)
theorem bk_T0 (j : Nat) : bkR T0 j = fun _ => 0 := by
  funext i
  show (if i = 0 then (0 : Int32) else if i = 1 then 0 else if i = 2 then 0 else 0) = 0
  split
  · rfl
  · split
    · rfl
    · split <;> rfl
theorem on_T0 (j : Nat) : onR T0 j = fun _ => 0 := by
  funext i
  show (if i = 0 then (0 : Int32) else if i = 1 then 0 else if i = 2 then 0 else if i = 3 then 0 else 0) = 0
  split
  · rfl
  · split
    · rfl
    · split
      · rfl
      · split <;> rfl
theorem TI_0 : TI T0 := ⟨⟨by decide, by decide⟩, fun _ _ => r_0 _, fun _ => r_0 _, fun _ => r_0 _, fun _ => r_0 _, fun _ => r_0 _⟩
section SPEEDT
variable {p : Program} {l : Launch} {e : Env} {R : Room} {s : State} {m : MethodId} {args : Array Value} {below : List Frame} {meth : Method} {c : Code} {H : Heap} {locs : List Loc} {cells slots : Nat} {Q : State → Prop}
variable {y : MethodName} {bytes cc : ByteArray} {maxL nL mc ms index d pc : Nat} {ret : Option FieldType} {own : String} {b : Addr} {As rest st0 : List Value} {ls : Array Slot} {G : va_G} {cy : Nat → ClassId}
variable {ws wc Xw cx pl p1 p2 : va_W} {A : Nat → Prop} {q : vw_C} {fs : List Value} {X : (Nat → Prop) → State → Heap → Prop}
theorem cViQ {post : Int32 → va_W → Prop} (S : CallFix p m c cc nL s args BIG own) (hM : Met l y (.code y bytes maxL ret :: BIG) (Rm d mc ms) (Wr G cy wc H.size (.ref b :: As)) (Wi G post (va_A wc H.size)) mc ms (va_A wc H.size)) (L : LkV own index q.1 y bytes maxL ret As.length) (hN : KN G cy s) (hP : va_P G CL (Xw ++ pl) H) (hD : va_D A (Xw ++ pl)) (hS : va_S A s.heap H locs) (hA : ∀ q, s.heap.size ≤ q → A q) (isC : List Nat) (mk : List Bool) (hC : isC.map (fun i => Xw[i]?) = wc.map some) (hk : okC isC mk = true) (hm : Nat.ble mk.length Xw.length = true) (qr ci : Nat) (he : (Xw ++ pl)[qr]? = some (b, .inr (ci, fs))) (hc : CL[ci]? = some q) (hst : st0 = As.reverse ++ .ref b :: rest) (hR : d + 1 ≤ R.frames ∧ 8 + (maxL + 11) + 60 * d ≤ R.locals) (hsize : ls.size = nL) (hW : (rest.map fun v => v.category).sum ≤ 8) (hdg : decode cc pc = .ok (.invokevirtual index, 3)) (hf : cells + mc ≤ R.cells ∧ slots + ms ≤ R.slots)
    (kk : ∀ (r : Int32) (u : va_W) (H1 : Heap) (locs1 : List Loc), post r u → va_P G CL ((selW mk Xw ++ u) ++ pl) H1 → va_D A ((selW mk Xw ++ u) ++ pl) → va_S A s.heap H1 locs1 → W p l e R s m args below meth c H1 locs1 (cells + mc) (slots + ms) Q (F0 m (pc + 3) ls (.int r :: rest))) : W p l e R s m args below meth c H locs cells slots Q (F0 m pc ls st0) := kWiQ (rV S hM L (preWV hN hP hD isC (tx_app hC) (okC_nd hk) qr ci he hc) hst hR hsize hW hdg hf) hP hD hS hA isC (trueIx 0 mk) hC (tx_app hC) (sel_ok hm) (sel_nd mk 0) (okC_dis hk) kk
theorem cViP {post : Int32 → va_W → Prop} (S : CallFix p m c cc nL s args BIG own) (hM : Met l y (.code y bytes maxL ret :: BIG) (Rm d mc ms) (Wr G cy (cx ++ pl) H.size (.ref b :: As)) (Wi G post (va_A (cx ++ pl) H.size)) mc ms (va_A (cx ++ pl) H.size)) (L : LkV own index q.1 y bytes maxL ret As.length) (hN : KN G cy s) (hP : va_P G CL (Xw ++ pl) H) (hD : va_D A (Xw ++ pl)) (hS : va_S A s.heap H locs) (hA : ∀ q, s.heap.size ≤ q → A q) (isC : List Nat) (mk : List Bool) (hC : isC.map (fun i => Xw[i]?) = cx.map some) (hk : okC isC mk = true) (hm : Nat.ble mk.length Xw.length = true) (qr ci : Nat) (he : (Xw ++ pl)[qr]? = some (b, .inr (ci, fs))) (hc : CL[ci]? = some q) (hst : st0 = As.reverse ++ .ref b :: rest) (hR : d + 1 ≤ R.frames ∧ 8 + (maxL + 11) + 60 * d ≤ R.locals) (hsize : ls.size = nL) (hW : (rest.map fun v => v.category).sum ≤ 8) (hdg : decode cc pc = .ok (.invokevirtual index, 3)) (hf : cells + mc ≤ R.cells ∧ slots + ms ≤ R.slots)
    (kk : ∀ (r : Int32) (u : va_W) (H1 : Heap) (locs1 : List Loc), post r u → va_P G CL (selW mk Xw ++ u) H1 → va_D A (selW mk Xw ++ u) → va_S A s.heap H1 locs1 → W p l e R s m args below meth c H1 locs1 (cells + mc) (slots + ms) Q (F0 m (pc + 3) ls (.int r :: rest))) : W p l e R s m args below meth c H locs cells slots Q (F0 m pc ls st0) := kWiP (rV S hM L (preWVP hN hP hD isC hC (okC_nd hk) qr ci he hc) hst hR hsize hW hdg hf) hP hD hS hA isC (trueIx 0 mk) hC (sel_ok hm) (sel_nd mk 0) (okC_dis hk) kk
theorem cVvQ {post : va_W → Prop} (S : CallFix p m c cc nL s args BIG own) (hM : Met l y (.code y bytes maxL ret :: BIG) (Rm d mc ms) (Wr G cy wc H.size (.ref b :: As)) (Wv G post (va_A wc H.size)) mc ms (va_A wc H.size)) (L : LkV own index q.1 y bytes maxL ret As.length) (hN : KN G cy s) (hP : va_P G CL (Xw ++ pl) H) (hD : va_D A (Xw ++ pl)) (hS : va_S A s.heap H locs) (hA : ∀ q, s.heap.size ≤ q → A q) (isC : List Nat) (mk : List Bool) (hC : isC.map (fun i => Xw[i]?) = wc.map some) (hk : okC isC mk = true) (hm : Nat.ble mk.length Xw.length = true) (qr ci : Nat) (he : (Xw ++ pl)[qr]? = some (b, .inr (ci, fs))) (hc : CL[ci]? = some q) (hst : st0 = As.reverse ++ .ref b :: rest) (hR : d + 1 ≤ R.frames ∧ 8 + (maxL + 11) + 60 * d ≤ R.locals) (hsize : ls.size = nL) (hW : (rest.map fun v => v.category).sum ≤ 8) (hdg : decode cc pc = .ok (.invokevirtual index, 3)) (hf : cells + mc ≤ R.cells ∧ slots + ms ≤ R.slots)
    (kk : ∀ (u : va_W) (H1 : Heap) (locs1 : List Loc), post u → va_P G CL ((selW mk Xw ++ u) ++ pl) H1 → va_D A ((selW mk Xw ++ u) ++ pl) → va_S A s.heap H1 locs1 → W p l e R s m args below meth c H1 locs1 (cells + mc) (slots + ms) Q (F0 m (pc + 3) ls rest)) : W p l e R s m args below meth c H locs cells slots Q (F0 m pc ls st0) := kWvQ (rV S hM L (preWV hN hP hD isC (tx_app hC) (okC_nd hk) qr ci he hc) hst hR hsize hW hdg hf) hP hD hS hA isC (trueIx 0 mk) hC (tx_app hC) (sel_ok hm) (sel_nd mk 0) (okC_dis hk) kk
theorem cVvP {post : va_W → Prop} (S : CallFix p m c cc nL s args BIG own) (hM : Met l y (.code y bytes maxL ret :: BIG) (Rm d mc ms) (Wr G cy (cx ++ pl) H.size (.ref b :: As)) (Wv G post (va_A (cx ++ pl) H.size)) mc ms (va_A (cx ++ pl) H.size)) (L : LkV own index q.1 y bytes maxL ret As.length) (hN : KN G cy s) (hP : va_P G CL (Xw ++ pl) H) (hD : va_D A (Xw ++ pl)) (hS : va_S A s.heap H locs) (hA : ∀ q, s.heap.size ≤ q → A q) (isC : List Nat) (mk : List Bool) (hC : isC.map (fun i => Xw[i]?) = cx.map some) (hk : okC isC mk = true) (hm : Nat.ble mk.length Xw.length = true) (qr ci : Nat) (he : (Xw ++ pl)[qr]? = some (b, .inr (ci, fs))) (hc : CL[ci]? = some q) (hst : st0 = As.reverse ++ .ref b :: rest) (hR : d + 1 ≤ R.frames ∧ 8 + (maxL + 11) + 60 * d ≤ R.locals) (hsize : ls.size = nL) (hW : (rest.map fun v => v.category).sum ≤ 8) (hdg : decode cc pc = .ok (.invokevirtual index, 3)) (hf : cells + mc ≤ R.cells ∧ slots + ms ≤ R.slots)
    (kk : ∀ (u : va_W) (H1 : Heap) (locs1 : List Loc), post u → va_P G CL (selW mk Xw ++ u) H1 → va_D A (selW mk Xw ++ u) → va_S A s.heap H1 locs1 → W p l e R s m args below meth c H1 locs1 (cells + mc) (slots + ms) Q (F0 m (pc + 3) ls rest)) : W p l e R s m args below meth c H locs cells slots Q (F0 m pc ls st0) := kWvP (rV S hM L (preWVP hN hP hD isC hC (okC_nd hk) qr ci he hc) hst hR hsize hW hdg hf) hP hD hS hA isC (trueIx 0 mk) hC (sel_ok hm) (sel_nd mk 0) (okC_dis hk) kk
theorem cVqP {post : Nat → va_W → Prop} (S : CallFix p m c cc nL s args BIG own) (hM : Met l y (.code y bytes maxL ret :: BIG) (Rm d mc ms) (Wr G cy (cx ++ pl) H.size (.ref b :: As)) (Wq G post (va_A (cx ++ pl) H.size)) mc ms (va_A (cx ++ pl) H.size)) (L : LkV own index q.1 y bytes maxL ret As.length) (hN : KN G cy s) (hP : va_P G CL (Xw ++ pl) H) (hD : va_D A (Xw ++ pl)) (hS : va_S A s.heap H locs) (hA : ∀ q, s.heap.size ≤ q → A q) (isC : List Nat) (mk : List Bool) (hC : isC.map (fun i => Xw[i]?) = cx.map some) (hk : okC isC mk = true) (hm : Nat.ble mk.length Xw.length = true) (qr ci : Nat) (he : (Xw ++ pl)[qr]? = some (b, .inr (ci, fs))) (hc : CL[ci]? = some q) (hst : st0 = As.reverse ++ .ref b :: rest) (hR : d + 1 ≤ R.frames ∧ 8 + (maxL + 11) + 60 * d ≤ R.locals) (hsize : ls.size = nL) (hW : (rest.map fun v => v.category).sum ≤ 8) (hdg : decode cc pc = .ok (.invokevirtual index, 3)) (hf : cells + mc ≤ R.cells ∧ slots + ms ≤ R.slots)
    (kk : ∀ (r : Nat) (u : va_W) (H1 : Heap) (locs1 : List Loc), post r u → va_P G CL (selW mk Xw ++ u) H1 → va_D A (selW mk Xw ++ u) → va_S A s.heap H1 locs1 → W p l e R s m args below meth c H1 locs1 (cells + mc) (slots + ms) Q (F0 m (pc + 3) ls (.ref r :: rest))) : W p l e R s m args below meth c H locs cells slots Q (F0 m pc ls st0) := kWqP (rV S hM L (preWVP hN hP hD isC hC (okC_nd hk) qr ci he hc) hst hR hsize hW hdg hf) hP hD hS hA isC (trueIx 0 mk) hC (sel_ok hm) (sel_nd mk 0) (okC_dis hk) kk
theorem cVXiQ {post : Int32 → va_W → Prop} (S : CallFix p m c cc nL s args BIG own) (hM : Met l y (.code y bytes maxL ret :: BIG) (Rm d mc ms) (WrX G cy X wc H.size (.ref b :: As)) (Wi G post (va_A wc H.size)) mc ms (va_A wc H.size)) (L : LkV own index q.1 y bytes maxL ret As.length) (hN : KN G cy s) (hP : va_P G CL (Xw ++ pl) H) (hD : va_D A (Xw ++ pl)) (hS : va_S A s.heap H locs) (hA : ∀ q, s.heap.size ≤ q → A q) (isC : List Nat) (mk : List Bool) (hC : isC.map (fun i => Xw[i]?) = wc.map some) (hk : okC isC mk = true) (hm : Nat.ble mk.length Xw.length = true) (qr ci : Nat) (he : (Xw ++ pl)[qr]? = some (b, .inr (ci, fs))) (hc : CL[ci]? = some q) (ok : XOK X) (hX : X A s s.heap) (hst : st0 = As.reverse ++ .ref b :: rest) (hR : d + 1 ≤ R.frames ∧ 8 + (maxL + 11) + 60 * d ≤ R.locals) (hsize : ls.size = nL) (hW : (rest.map fun v => v.category).sum ≤ 8) (hdg : decode cc pc = .ok (.invokevirtual index, 3)) (hf : cells + mc ≤ R.cells ∧ slots + ms ≤ R.slots)
    (kk : ∀ (r : Int32) (u : va_W) (H1 : Heap) (locs1 : List Loc), post r u → va_P G CL ((selW mk Xw ++ u) ++ pl) H1 → va_D A ((selW mk Xw ++ u) ++ pl) → va_S A s.heap H1 locs1 → W p l e R s m args below meth c H1 locs1 (cells + mc) (slots + ms) Q (F0 m (pc + 3) ls (.int r :: rest))) : W p l e R s m args below meth c H locs cells slots Q (F0 m pc ls st0) := kWiQ (rV S hM L (preWVX hN hP hD isC (tx_app hC) (okC_nd hk) qr ci he hc ok hX hS hA) hst hR hsize hW hdg hf) hP hD hS hA isC (trueIx 0 mk) hC (tx_app hC) (sel_ok hm) (sel_nd mk 0) (okC_dis hk) kk
theorem cIvQ {post : va_W → Prop} (S : CallFix p m c cc nL s args BIG own) (hM : Met l y (.code y bytes maxL none :: BIG) (Rm d mc ms) (Wr G cy wc H.size (.ref b :: As)) (Wv G post (va_A wc H.size)) mc ms (va_A wc H.size)) (L : LkI own index y bytes maxL As.length) (hN : KN G cy s) (hP : va_P G CL (Xw ++ pl) H) (hD : va_D A (Xw ++ pl)) (hS : va_S A s.heap H locs) (hA : ∀ q, s.heap.size ≤ q → A q) (isC : List Nat) (mk : List Bool) (hC : isC.map (fun i => Xw[i]?) = wc.map some) (hk : okC isC mk = true) (hm : Nat.ble mk.length Xw.length = true) (hst : st0 = As.reverse ++ .ref b :: rest) (hR : d + 1 ≤ R.frames ∧ 8 + (maxL + 11) + 60 * d ≤ R.locals) (hsize : ls.size = nL) (hW : (rest.map fun v => v.category).sum ≤ 8) (hdg : decode cc pc = .ok (.invokespecial index, 3)) (hf : cells + mc ≤ R.cells ∧ slots + ms ≤ R.slots)
    (kk : ∀ (u : va_W) (H1 : Heap) (locs1 : List Loc), post u → va_P G CL ((selW mk Xw ++ u) ++ pl) H1 → va_D A ((selW mk Xw ++ u) ++ pl) → va_S A s.heap H1 locs1 → W p l e R s m args below meth c H1 locs1 (cells + mc) (slots + ms) Q (F0 m (pc + 3) ls rest)) : W p l e R s m args below meth c H locs cells slots Q (F0 m pc ls st0) := kWvQ (rI S hM L (preWS hN hP hD isC (tx_app hC) (okC_nd hk)) hst hR hsize hW hdg hf) hP hD hS hA isC (trueIx 0 mk) hC (tx_app hC) (sel_ok hm) (sel_nd mk 0) (okC_dis hk) kk
end SPEEDT
