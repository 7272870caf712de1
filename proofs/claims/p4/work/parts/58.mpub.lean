/-! a callee that has one tail, the caller another -/
theorem tx_map {X w pl : va_W} {is : List Nat} (h : is.map (fun i => X[i]?) = w.map some) : (is ++ (List.range pl.length).map (fun i => X.length + i)).map (fun i => (X ++ pl)[i]?) = (w ++ pl).map some := by
  rw [List.map_append, List.map_append, tx_app h]
  congr 1
  rw [List.map_map]
  apply List.ext_getElem?
  intro k
  rw [List.getElem?_map, List.getElem?_map]
  by_cases hk : k < pl.length
  · rw [List.getElem?_range hk]
    show some ((X ++ pl)[X.length + k]?) = _
    rw [List.getElem?_append_right (by omega), show X.length + k - X.length = k by omega, List.getElem?_eq_getElem hk]
    rfl
  · rw [List.getElem?_eq_none (by simpa using hk), List.getElem?_eq_none (by simpa using hk)]
    rfl
theorem tx_nd1 (n : Nat) : ∀ m k : Nat, va_nd ((List.range m).map (fun i => n + (i + k))) = true := by
  intro m
  induction m with
  | zero => intro k; rfl
  | succ m ih =>
    intro k
    rw [List.range_succ_eq_map, List.map_cons, List.map_map]
    show (decide (_ ∉ _) && va_nd _) = true
    rw [Bool.and_eq_true]
    refine ⟨decide_eq_true ?_, ?_⟩
    · intro h
      obtain ⟨x, _, hx⟩ := List.mem_map.mp h
      simp at hx
    · have := ih (k + 1)
      rw [show ((fun i => n + (i + k)) ∘ Nat.succ) = (fun i => n + (i + (k + 1))) by funext x; simp; omega]
      exact this
theorem tx_nd2 {b : List Nat} (hb : va_nd b = true) : ∀ {a : List Nat}, va_nd a = true → (∀ i ∈ a, i ∉ b) → va_nd (a ++ b) = true := by
  intro a
  induction a with
  | nil => intro _ _; exact hb
  | cons x a ih =>
    intro h hd
    have h' : (decide (x ∉ a) && va_nd a) = true := h
    rw [Bool.and_eq_true, decide_eq_true_eq] at h'
    show (decide (x ∉ a ++ b) && va_nd (a ++ b)) = true
    rw [Bool.and_eq_true, decide_eq_true_eq]
    refine ⟨fun q => ?_, ih h'.2 (fun i hi => hd i (List.mem_cons_of_mem _ hi))⟩
    rcases List.mem_append.mp q with q | q
    · exact h'.1 q
    · exact hd x List.mem_cons_self q
theorem tx_nd {is : List Nat} {n m : Nat} (h : va_nd is = true) (hb : ∀ i ∈ is, i < n) : va_nd (is ++ (List.range m).map (fun i => n + i)) = true := by
  refine tx_nd2 (by have := tx_nd1 n m 0; simpa using this) h (fun i hi q => ?_)
  obtain ⟨x, _, hx⟩ := List.mem_map.mp q
  have := hb i hi
  omega
theorem va_joinPQ {D : va_G} {A : Nat → Prop} {Xw cx wr p1 p2 u : va_W} {H H1 : Heap} (hP : va_P D CL ((Xw ++ p1) ++ p2) H) (hD : va_D A ((Xw ++ p1) ++ p2)) (isC isR : List Nat) (hC : isC.map (fun i => Xw[i]?) = cx.map some) (hR : isR.map (fun i => Xw[i]?) = wr.map some) (hn : va_nd isR = true) (hdis : ∀ i ∈ isR, i ∉ isC)
    (hk : ∀ q : Nat, q < H.size → ¬ va_A (cx ++ p1) H.size q → H1[q]? = H[q]?) (hF : ∀ q, va_A (cx ++ p1) H.size q → A q) (hP1 : va_P D CL u H1) (hD1 : va_D (va_A (cx ++ p1) H.size) u) : va_P D CL ((wr ++ u) ++ p2) H1 ∧ va_D A ((wr ++ u) ++ p2) := by
  have h := va_joinP (rx := []) (pl1 := u) (X := Xw ++ p2) (pl := p1) hP.swap hD.swap isC (isR ++ (List.range p2.length).map (fun i => Xw.length + i)) (tx_app hC) (tx_map hR) (tx_nd hn (tx_lt hR)) (fun i hi hc => by
    rcases List.mem_append.mp hi with q | q
    · exact hdis i q hc
    · obtain ⟨x, _, hx⟩ := List.mem_map.mp q
      have := tx_lt hC i hc
      omega) hk hF hP1 hD1
  rw [List.append_nil] at h
  exact ⟨h.1.swap, h.2.swap⟩
section TAIL2
variable {p : Program} {l : Launch} {e : Env} {R : Room} {s : State} {m : MethodId} {args : Array Value} {below : List Frame} {meth : Method} {c : Code} {H : Heap} {locs : List Loc} {cells slots : Nat} {Q : State → Prop}
variable {pc mc ms : Nat} {ls : Array Slot} {st0 rest As : List Value} {G : va_G} {cy : Nat → ClassId} {b : Nat} {a : Array Value}
variable {Xw cx wr p1 p2 : va_W} {A : Nat → Prop} {H0 : Heap}
theorem va_D.left {w1 w2 : va_W} (h : va_D A (w1 ++ w2)) : va_D A w1 := h.by id (fun k q hq => by
  show (w1 ++ w2)[k]? = some q
  rw [List.getElem?_append_left (List.getElem?_eq_some_iff.mp hq).1]
  exact hq) (fun _ _ _ _ h => h)
theorem va_P.left {w1 w2 : va_W} (h : va_P G CL (w1 ++ w2) H) : va_P G CL w1 H := h.by id (fun k q hq => by
  show (w1 ++ w2)[k]? = some q
  rw [List.getElem?_append_left (List.getElem?_eq_some_iff.mp hq).1]
  exact hq)
theorem kWiPQ {post : Int32 → va_W → Prop} (hr : va_Run p l e R s m args below meth c H locs cells slots mc ms (F0 m pc ls st0) rest (Wi G post (va_A (cx ++ p1) H.size) a) (va_A (cx ++ p1) H.size)) (hP : va_P G CL ((Xw ++ p1) ++ p2) H) (hD : va_D A ((Xw ++ p1) ++ p2)) (hS : va_S A H0 H locs) (hA : ∀ q, H0.size ≤ q → A q)
    (isC isR : List Nat) (hC : isC.map (fun i => Xw[i]?) = cx.map some) (hR : isR.map (fun i => Xw[i]?) = wr.map some) (hn : va_nd isR = true) (hdis : ∀ i ∈ isR, i ∉ isC)
    (kk : ∀ (r : Int32) (u : va_W) (H1 : Heap) (locs1 : List Loc), post r u → va_P G CL ((wr ++ u) ++ p2) H1 → va_D A ((wr ++ u) ++ p2) → va_S A H0 H1 locs1 → W p l e R s m args below meth c H1 locs1 (cells + mc) (slots + ms) Q (F0 m (pc + 3) ls (.int r :: rest))) : W p l e R s m args below meth c H locs cells slots Q (F0 m pc ls st0) := by
  have hF := va_freeP hD.left hS hA isC hC
  refine va_calli hr hS (fun q _ h => hF q h) hF (fun r u t H1 locs1 ht hvm hw hB hz1 hk1 hS1 => ?_)
  obtain ⟨hP1, hD1⟩ := hB
  rw [ht] at hP1
  obtain ⟨hP2, hD2⟩ := va_joinPQ hP hD isC isR hC hR hn hdis hk1 hF hP1 hD1
  exact kk r u H1 locs1 hw hP2 hD2 hS1
theorem preWVPQ {q : vw_C} {fs : List Value} (hN : KN G cy s) (hP : va_P G CL ((Xw ++ p1) ++ p2) H) (hD : va_D A ((Xw ++ p1) ++ p2)) (isC : List Nat) (hC : isC.map (fun i => Xw[i]?) = cx.map some) (hn : va_nd isC = true) (qr ci : Nat) (he : (Xw ++ p1)[qr]? = some (b, .inr (ci, fs))) (hc : CL[ci]? = some q) : PreV s H q.1 b (Wr G cy (cx ++ p1) H.size (.ref b :: As)) As := preWVP hN hP.left hD.left isC hC hn qr ci he hc
theorem preWVXPQ {locs : List Loc} {X : (Nat → Prop) → State → Heap → Prop} {q : vw_C} {fs : List Value} (hN : KN G cy s) (hP : va_P G CL ((Xw ++ p1) ++ p2) H) (hD : va_D A ((Xw ++ p1) ++ p2)) (isC : List Nat) (hC : isC.map (fun i => Xw[i]?) = cx.map some) (hn : va_nd isC = true) (qr ci : Nat) (he : (Xw ++ p1)[qr]? = some (b, .inr (ci, fs))) (hc : CL[ci]? = some q) (ok : XOK X) (hX : X A s s.heap) (hS : va_S A s.heap H locs) (hA : ∀ q, s.heap.size ≤ q → A q) : PreV s H q.1 b (WrX G cy X (cx ++ p1) H.size (.ref b :: As)) As := preWVXP hN hP.left hD.left isC hC hn qr ci he hc ok hX hS hA
end TAIL2
/-- the model that is a year ahead, with one beside it -/
noncomputable abbrev UL : Type := Option (DM × UM)
noncomputable def ovL (u : UL) : Value := match u with
  | none => .null
  | some (d, _) => .ref d.1
noncomputable def mL (cy : Nat → ClassId) (q qB qO qK : Nat) (rB rO rK : Nat → Nat) (t : TA) (x : Nat → Value) (iE iT iL iW : Int32) (uW : UM) : va_W := [zzO q 5 (x 0 :: x 1 :: x 2 :: x 3 :: x 4 :: x 5 :: x 6 :: x 7 :: x 8 :: x 9 :: .int (nI (T_nb t)) :: .ref qB :: .int (nI (T_np t)) :: .ref qO :: .ref qK :: .int iE :: .int iT :: .int (T_sd t) :: x 18 :: ov uW :: x 20 :: x 21 :: x 22 :: x 23 :: x 24 :: x 25 :: x 26 :: .int iL :: .int iW :: x 29 :: x 30 :: x 31 :: x 32 :: x 33 :: x 34 :: []), zzG cy 3 qB rB, zzI cy (rB 0) 4 (bkR t 0), zzI cy (rB 1) 4 (bkR t 1), zzI cy (rB 2) 4 (bkR t 2), zzI cy (rB 3) 4 (bkR t 3), zzI cy (rB 4) 4 (bkR t 4), zzI cy (rB 5) 4 (bkR t 5), zzI cy (rB 6) 4 (bkR t 6), zzI cy (rB 7) 4 (bkR t 7), zzG cy 3 qO rO, zzI cy (rO 0) 5 (onR t 0), zzI cy (rO 1) 5 (onR t 1), zzI cy (rO 2) 5 (onR t 2), zzI cy (rO 3) 5 (onR t 3), zzI cy (rO 4) 5 (onR t 4), zzI cy (rO 5) 5 (onR t 5), zzI cy (rO 6) 5 (onR t 6), zzI cy (rO 7) 5 (onR t 7), zzG cy 3 qK rK, zzI cy (rK 0) 8 (T_kn t 0), zzI cy (rK 1) 8 (T_kn t 1), zzI cy (rK 2) 8 (T_kn t 2), zzI cy (rK 3) 8 (T_kn t 3), zzI cy (rK 4) 8 (T_kn t 4), zzI cy (rK 5) 8 (T_kn t 5), zzI cy (rK 6) 8 (T_kn t 6), zzI cy (rK 7) 8 (T_kn t 7)]
noncomputable def oL (cy : Nat → ClassId) (u : UL) : va_W := match u with
  | none => []
  | some ((q, qB, qO, qK, rB, rO, rK, t, x, iE, iT, iL, iW), uW) => mL cy q qB qO qK rB rO rK t x iE iT iL iW uW ++ oM cy uW
theorem ul_or (u : UL) : u = none ∨ ∃ (q qB qO qK : Nat) (rB rO rK : Nat → Nat) (t : TA) (x : Nat → Value) (e1 e2 e3 e4 : Int32) (uW : UM), u = some ((q, qB, qO, qK, rB, rO, rK, t, x, e1, e2, e3, e4), uW) := by
  rcases u with _ | ⟨⟨q, qB, qO, qK, rB, rO, rK, t, x, e1, e2, e3, e4⟩, uW⟩
  · exact Or.inl rfl
  · exact Or.inr ⟨q, qB, qO, qK, rB, rO, rK, t, x, e1, e2, e3, e4, uW, rfl⟩
theorem pt_as {G : va_G} {H : Heap} {A : Nat → Prop} {X pl : va_W} (cx : va_W) (is : List Nat) (h : va_P G CL (X ++ pl) H) (d : va_D A (X ++ pl)) (hn : va_nd is = true) (hs : is.map (fun i => X[i]?) = cx.map some) : va_P G CL (cx ++ pl) H ∧ va_D A (cx ++ pl) := ⟨h.part is hs, d.part is hn hs⟩
theorem kl0P {G : va_G} {H : Heap} {cy : Nat → ClassId} {K U : va_W} (h : va_P G CL (K ++ (U ++ oL cy none)) H) : va_P G CL (K ++ U) H := by
  have e : U ++ oL cy none = U := List.append_nil U
  rw [e] at h
  exact h
theorem kl1P {G : va_G} {H : Heap} {cy : Nat → ClassId} {K U : va_W} {q qB qO qK : Nat} {rB rO rK : Nat → Nat} {t : TA} {x : Nat → Value} {e1 e2 e3 e4 : Int32} {uW : UM} (h : va_P G CL (K ++ (U ++ oL cy (some ((q, qB, qO, qK, rB, rO, rK, t, x, e1, e2, e3, e4), uW)))) H) : va_P G CL ((K ++ mL cy q qB qO qK rB rO rK t x e1 e2 e3 e4 uW) ++ (oM cy uW ++ U)) H := by
  have h1 : va_P G CL ((K ++ U) ++ (mL cy q qB qO qK rB rO rK t x e1 e2 e3 e4 uW ++ oM cy uW)) H := al_P h
  exact as1P (va_P.swap h1)
theorem kl2P {G : va_G} {H : Heap} {cy : Nat → ClassId} {K U : va_W} {q qB qO qK : Nat} {rB rO rK : Nat → Nat} {t : TA} {x : Nat → Value} {e1 e2 e3 e4 : Int32} {uW : UM} (h : va_P G CL ((K ++ mL cy q qB qO qK rB rO rK t x e1 e2 e3 e4 uW) ++ (oM cy uW ++ U)) H) : va_P G CL (K ++ (U ++ oL cy (some ((q, qB, qO, qK, rB, rO, rK, t, x, e1, e2, e3, e4), uW)))) H := by
  have h1 : va_P G CL ((K ++ (mL cy q qB qO qK rB rO rK t x e1 e2 e3 e4 uW ++ oM cy uW)) ++ U) H := by simpa only [List.append_assoc] using h
  have h2 : va_P G CL ((K ++ U) ++ (mL cy q qB qO qK rB rO rK t x e1 e2 e3 e4 uW ++ oM cy uW)) H := va_P.swap h1
  exact ar_P h2
theorem kl0D {A : Nat → Prop} {cy : Nat → ClassId} {K U : va_W} (h : va_D A (K ++ (U ++ oL cy none))) : va_D A (K ++ U) := by
  have e : U ++ oL cy none = U := List.append_nil U
  rw [e] at h
  exact h
theorem kl1D {A : Nat → Prop} {cy : Nat → ClassId} {K U : va_W} {q qB qO qK : Nat} {rB rO rK : Nat → Nat} {t : TA} {x : Nat → Value} {e1 e2 e3 e4 : Int32} {uW : UM} (h : va_D A (K ++ (U ++ oL cy (some ((q, qB, qO, qK, rB, rO, rK, t, x, e1, e2, e3, e4), uW))))) : va_D A ((K ++ mL cy q qB qO qK rB rO rK t x e1 e2 e3 e4 uW) ++ (oM cy uW ++ U)) := by
  have h1 : va_D A ((K ++ U) ++ (mL cy q qB qO qK rB rO rK t x e1 e2 e3 e4 uW ++ oM cy uW)) := al_D h
  exact as1D (va_D.swap h1)
theorem kl2D {A : Nat → Prop} {cy : Nat → ClassId} {K U : va_W} {q qB qO qK : Nat} {rB rO rK : Nat → Nat} {t : TA} {x : Nat → Value} {e1 e2 e3 e4 : Int32} {uW : UM} (h : va_D A ((K ++ mL cy q qB qO qK rB rO rK t x e1 e2 e3 e4 uW) ++ (oM cy uW ++ U))) : va_D A (K ++ (U ++ oL cy (some ((q, qB, qO, qK, rB, rO, rK, t, x, e1, e2, e3, e4), uW)))) := by
  have h1 : va_D A ((K ++ (mL cy q qB qO qK rB rO rK t x e1 e2 e3 e4 uW ++ oM cy uW)) ++ U) := by simpa only [List.append_assoc] using h
  have h2 : va_D A ((K ++ U) ++ (mL cy q qB qO qK rB rO rK t x e1 e2 e3 e4 uW ++ oM cy uW)) := va_D.swap h1
  exact ar_D h2
section SPEEDU
variable {p : Program} {l : Launch} {e : Env} {R : Room} {s : State} {m : MethodId} {args : Array Value} {below : List Frame} {meth : Method} {c : Code} {H : Heap} {locs : List Loc} {cells slots : Nat} {Q : State → Prop}
variable {y : MethodName} {bytes cc : ByteArray} {maxL nL mc ms index d pc : Nat} {ret : Option FieldType} {own : String} {b : Addr} {As rest st0 : List Value} {ls : Array Slot} {G : va_G} {cy : Nat → ClassId}
variable {ws wc Xw cx pl p1 p2 : va_W} {A : Nat → Prop} {q : vw_C} {fs : List Value} {X : (Nat → Prop) → State → Heap → Prop}
theorem cViPQ {post : Int32 → va_W → Prop} (S : CallFix p m c cc nL s args BIG own) (hM : Met l y (.code y bytes maxL ret :: BIG) (Rm d mc ms) (Wr G cy (cx ++ p1) H.size (.ref b :: As)) (Wi G post (va_A (cx ++ p1) H.size)) mc ms (va_A (cx ++ p1) H.size)) (L : LkV own index q.1 y bytes maxL ret As.length) (hN : KN G cy s) (hP : va_P G CL ((Xw ++ p1) ++ p2) H) (hD : va_D A ((Xw ++ p1) ++ p2)) (hS : va_S A s.heap H locs) (hA : ∀ q, s.heap.size ≤ q → A q) (isC : List Nat) (mk : List Bool) (hC : isC.map (fun i => Xw[i]?) = cx.map some) (hk : okC isC mk = true) (hm : Nat.ble mk.length Xw.length = true) (qr ci : Nat) (he : (Xw ++ p1)[qr]? = some (b, .inr (ci, fs))) (hc : CL[ci]? = some q) (hst : st0 = As.reverse ++ .ref b :: rest) (hR : d + 1 ≤ R.frames ∧ 8 + (maxL + 11) + 60 * d ≤ R.locals) (hsize : ls.size = nL) (hW : (rest.map fun v => v.category).sum ≤ 8) (hdg : decode cc pc = .ok (.invokevirtual index, 3)) (hf : cells + mc ≤ R.cells ∧ slots + ms ≤ R.slots)
    (kk : ∀ (r : Int32) (u : va_W) (H1 : Heap) (locs1 : List Loc), post r u → va_P G CL ((selW mk Xw ++ u) ++ p2) H1 → va_D A ((selW mk Xw ++ u) ++ p2) → va_S A s.heap H1 locs1 → W p l e R s m args below meth c H1 locs1 (cells + mc) (slots + ms) Q (F0 m (pc + 3) ls (.int r :: rest))) : W p l e R s m args below meth c H locs cells slots Q (F0 m pc ls st0) := kWiPQ (rV S hM L (preWVPQ hN hP hD isC hC (okC_nd hk) qr ci he hc) hst hR hsize hW hdg hf) hP hD hS hA isC (trueIx 0 mk) hC (sel_ok hm) (sel_nd mk 0) (okC_dis hk) kk
theorem cVXiPQ {post : Int32 → va_W → Prop} (S : CallFix p m c cc nL s args BIG own) (hM : Met l y (.code y bytes maxL ret :: BIG) (Rm d mc ms) (WrX G cy X (cx ++ p1) H.size (.ref b :: As)) (Wi G post (va_A (cx ++ p1) H.size)) mc ms (va_A (cx ++ p1) H.size)) (L : LkV own index q.1 y bytes maxL ret As.length) (hN : KN G cy s) (hP : va_P G CL ((Xw ++ p1) ++ p2) H) (hD : va_D A ((Xw ++ p1) ++ p2)) (hS : va_S A s.heap H locs) (hA : ∀ q, s.heap.size ≤ q → A q) (isC : List Nat) (mk : List Bool) (hC : isC.map (fun i => Xw[i]?) = cx.map some) (hk : okC isC mk = true) (hm : Nat.ble mk.length Xw.length = true) (qr ci : Nat) (he : (Xw ++ p1)[qr]? = some (b, .inr (ci, fs))) (hc : CL[ci]? = some q) (ok : XOK X) (hX : X A s s.heap) (hst : st0 = As.reverse ++ .ref b :: rest) (hR : d + 1 ≤ R.frames ∧ 8 + (maxL + 11) + 60 * d ≤ R.locals) (hsize : ls.size = nL) (hW : (rest.map fun v => v.category).sum ≤ 8) (hdg : decode cc pc = .ok (.invokevirtual index, 3)) (hf : cells + mc ≤ R.cells ∧ slots + ms ≤ R.slots)
    (kk : ∀ (r : Int32) (u : va_W) (H1 : Heap) (locs1 : List Loc), post r u → va_P G CL ((selW mk Xw ++ u) ++ p2) H1 → va_D A ((selW mk Xw ++ u) ++ p2) → va_S A s.heap H1 locs1 → W p l e R s m args below meth c H1 locs1 (cells + mc) (slots + ms) Q (F0 m (pc + 3) ls (.int r :: rest))) : W p l e R s m args below meth c H locs cells slots Q (F0 m pc ls st0) := kWiPQ (rV S hM L (preWVXPQ hN hP hD isC hC (okC_nd hk) qr ci he hc ok hX hS hA) hst hR hsize hW hdg hf) hP hD hS hA isC (trueIx 0 mk) hC (sel_ok hm) (sel_nd mk 0) (okC_dis hk) kk
end SPEEDU

set_option maxHeartbeats 4000000 in
set_option maxRecDepth 100000 in
theorem c_X6_initL (l : Launch) (G : va_G) (cy : Nat → ClassId) (sz : Nat) (qm : Nat)   : MW l yX6_init cX6_init 1 none 1 49 853 G cy [zzO qm 5 (.null :: .null :: .null :: .null :: .null :: .null :: .null :: .null :: .int 0 :: .null :: .int 0 :: .null :: .int 0 :: .null :: .null :: .int 0 :: .int 0 :: .int 0 :: .null :: .null :: .int 0 :: .int 0 :: .int 0 :: .long 0 :: .int 0 :: .null :: .int 0 :: .int 0 :: .int 0 :: .null :: .null :: .null :: .null :: .null :: .int 0 :: [])] sz [.ref qm] (Wv G (fun u => ∃ (qmB : Nat) (qmO : Nat) (qmK : Nat) (rB : Nat → Nat) (rO : Nat → Nat) (rK : Nat → Nat) (xF : Nat → Value), u = [zzO qm 5 (xF 0 :: xF 1 :: xF 2 :: xF 3 :: xF 4 :: xF 5 :: xF 6 :: xF 7 :: xF 8 :: xF 9 :: .int (nI (T_nb T0)) :: .ref qmB :: .int (nI (T_np T0)) :: .ref qmO :: .ref qmK :: .int 0 :: .int 0 :: .int (T_sd T0) :: xF 18 :: .null :: xF 20 :: xF 21 :: xF 22 :: xF 23 :: xF 24 :: xF 25 :: xF 26 :: .int 0 :: .int 0 :: xF 29 :: xF 30 :: xF 31 :: xF 32 :: xF 33 :: xF 34 :: []), zzG cy 3 qmB rB, zzI cy (rB 0) 4 (bkR T0 0), zzI cy (rB 1) 4 (bkR T0 1), zzI cy (rB 2) 4 (bkR T0 2), zzI cy (rB 3) 4 (bkR T0 3), zzI cy (rB 4) 4 (bkR T0 4), zzI cy (rB 5) 4 (bkR T0 5), zzI cy (rB 6) 4 (bkR T0 6), zzI cy (rB 7) 4 (bkR T0 7), zzG cy 3 qmO rO, zzI cy (rO 0) 5 (onR T0 0), zzI cy (rO 1) 5 (onR T0 1), zzI cy (rO 2) 5 (onR T0 2), zzI cy (rO 3) 5 (onR T0 3), zzI cy (rO 4) 5 (onR T0 4), zzI cy (rO 5) 5 (onR T0 5), zzI cy (rO 6) 5 (onR T0 6), zzI cy (rO 7) 5 (onR T0 7), zzG cy 3 qmK rK, zzI cy (rK 0) 8 (T_kn T0 0), zzI cy (rK 1) 8 (T_kn T0 1), zzI cy (rK 2) 8 (T_kn T0 2), zzI cy (rK 3) 8 (T_kn T0 3), zzI cy (rK 4) 8 (T_kn T0 4), zzI cy (rK 5) 8 (T_kn T0 5), zzI cy (rK 6) 8 (T_kn T0 6), zzI cy (rK 7) 8 (T_kn T0 7)])) := by
  refine enW RX6 (by decide +kernel) rfl (Nat.le_of_ble_eq_true rfl) (fun p e s m below meth c ls A hx hb hml hown hts hr hlocks hP hN hl hin hD hA hS => ?_)
  have hin : meth.name = _ := hin
  have hK := hN.1
  replace hl : lv_has ls 1 [(0, .ref qm)] := hl
  refine lv_aload_n hx hb (g_42 bX6_init rfl) rfl (lv_at hl 0 rfl) ?_
  refine W.objInit hx hb hown (hts _ m_t843) (hts _ m_t21) (hts _ m_t22) rfl (by rw [hml]; exact hl.1) rfl dX6_init_1 (Nat.le_of_ble_eq_true rfl) (Nat.le_of_ble_eq_true rfl) ?_
  refine W.eq (g2 := F0 m 4 ls []) rfl ?_
  refine lv_aload_n hx hb (g_42 bX6_init rfl) rfl (lv_at hl 0 rfl) ?_
  refine lv_bipush (v := 8) hx hb dX6_init_5 (by decide +kernel) ?_
  refine newI hx hb hts m_t92 hN hP hD hS hA 8 (by decide +kernel) (by decide +kernel) (Nat.le_of_ble_eq_true rfl) (Nat.le_of_ble_eq_true rfl) (Nat.le_of_ble_eq_true rfl) (g_na10 bX6_init rfl) (fun q_1 H => ?_)
  clear hP hD hS
  intro hP hD hS
  have hPD := pd_as [_, zzI cy q_1 8 (fun _ => 0)] hP hD rfl
  clear hP hD
  obtain ⟨hP, hD⟩ := hPD
  refine W.widen (k := 1) (n := 8) (Nat.le_of_ble_eq_true rfl) (Nat.le_of_ble_eq_true rfl) ?_
  refine va_putF (D := G) (ci := 5) (v := .ref q_1) (ty := (.array .int)) (C := RX6) (T := TX6) (N := 35) hx hb hts iX_X6 tyX6 tyX6_ok nmX6 hown hK hP hD hS 0 rfl rfl 0 (by decide +kernel) (hts _ m_t850) (fun _ h9 => h9) rfl hin rfl (by decide +kernel) rfl rfl (Nat.le_of_ble_eq_true rfl) (g_181 (v := 7) bX6_init rfl) (fun H locs => ?_)
  clear hP hD hS
  intro hP hD hS
  have hPD := pd_as [zzO qm 5 (.ref q_1 :: .null :: .null :: .null :: .null :: .null :: .null :: .null :: .int 0 :: .null :: .int 0 :: .null :: .int 0 :: .null :: .null :: .int 0 :: .int 0 :: .int 0 :: .null :: .null :: .int 0 :: .int 0 :: .int 0 :: .long 0 :: .int 0 :: .null :: .int 0 :: .int 0 :: .int 0 :: .null :: .null :: .null :: .null :: .null :: .int 0 :: []), _] hP hD rfl
  clear hP hD
  obtain ⟨hP, hD⟩ := hPD
  refine lv_aload_n hx hb (g_42 bX6_init rfl) rfl (lv_at hl 0 rfl) ?_
  refine lv_bipush (v := 8) hx hb dX6_init_13 (by decide +kernel) ?_
  refine newI hx hb hts m_t92 hN hP hD hS hA 8 (by decide +kernel) (by decide +kernel) (Nat.le_of_ble_eq_true rfl) (Nat.le_of_ble_eq_true rfl) (Nat.le_of_ble_eq_true rfl) (g_na10 bX6_init rfl) (fun q_2 H => ?_)
  clear hP hD hS
  intro hP hD hS
  have hPD := pd_as [_, _, zzI cy q_2 8 (fun _ => 0)] hP hD rfl
  clear hP hD
  obtain ⟨hP, hD⟩ := hPD
  refine W.widen (k := 2) (n := 16) (Nat.le_of_ble_eq_true rfl) (Nat.le_of_ble_eq_true rfl) ?_
  refine va_putF (D := G) (ci := 5) (v := .ref q_2) (ty := (.array .int)) (C := RX6) (T := TX6) (N := 35) hx hb hts iX_X6 tyX6 tyX6_ok nmX6 hown hK hP hD hS 0 rfl rfl 1 (by decide +kernel) (hts _ m_t851) (fun _ h9 => h9) rfl hin rfl (by decide +kernel) rfl rfl (Nat.le_of_ble_eq_true rfl) (g_181 (v := 13) bX6_init rfl) (fun H locs => ?_)
  clear hP hD hS
  intro hP hD hS
  have hPD := pd_as [zzO qm 5 (.ref q_1 :: .ref q_2 :: .null :: .null :: .null :: .null :: .null :: .null :: .int 0 :: .null :: .int 0 :: .null :: .int 0 :: .null :: .null :: .int 0 :: .int 0 :: .int 0 :: .null :: .null :: .int 0 :: .int 0 :: .int 0 :: .long 0 :: .int 0 :: .null :: .int 0 :: .int 0 :: .int 0 :: .null :: .null :: .null :: .null :: .null :: .int 0 :: []), _, _] hP hD rfl
  clear hP hD
  obtain ⟨hP, hD⟩ := hPD
  refine lv_aload_n hx hb (g_42 bX6_init rfl) rfl (lv_at hl 0 rfl) ?_
  refine lv_bipush (v := 8) hx hb dX6_init_21 (by decide +kernel) ?_
  refine newI hx hb hts m_t92 hN hP hD hS hA 8 (by decide +kernel) (by decide +kernel) (Nat.le_of_ble_eq_true rfl) (Nat.le_of_ble_eq_true rfl) (Nat.le_of_ble_eq_true rfl) (g_na10 bX6_init rfl) (fun q_3 H => ?_)
  clear hP hD hS
  intro hP hD hS
  have hPD := pd_as [_, _, _, zzI cy q_3 8 (fun _ => 0)] hP hD rfl
  clear hP hD
  obtain ⟨hP, hD⟩ := hPD
  refine W.widen (k := 3) (n := 24) (Nat.le_of_ble_eq_true rfl) (Nat.le_of_ble_eq_true rfl) ?_
  refine va_putF (D := G) (ci := 5) (v := .ref q_3) (ty := (.array .int)) (C := RX6) (T := TX6) (N := 35) hx hb hts iX_X6 tyX6 tyX6_ok nmX6 hown hK hP hD hS 0 rfl rfl 2 (by decide +kernel) (hts _ m_t852) (fun _ h9 => h9) rfl hin rfl (by decide +kernel) rfl rfl (Nat.le_of_ble_eq_true rfl) (g_181 (v := 16) bX6_init rfl) (fun H locs => ?_)
  clear hP hD hS
  intro hP hD hS
  have hPD := pd_as [zzO qm 5 (.ref q_1 :: .ref q_2 :: .ref q_3 :: .null :: .null :: .null :: .null :: .null :: .int 0 :: .null :: .int 0 :: .null :: .int 0 :: .null :: .null :: .int 0 :: .int 0 :: .int 0 :: .null :: .null :: .int 0 :: .int 0 :: .int 0 :: .long 0 :: .int 0 :: .null :: .int 0 :: .int 0 :: .int 0 :: .null :: .null :: .null :: .null :: .null :: .int 0 :: []), _, _, _] hP hD rfl
  clear hP hD
  obtain ⟨hP, hD⟩ := hPD
  refine lv_aload_n hx hb (g_42 bX6_init rfl) rfl (lv_at hl 0 rfl) ?_
  refine lv_bipush (v := 8) hx hb dX6_init_29 (by decide +kernel) ?_
  refine lv_bipush (v := 40) hx hb dX6_init_31 (by decide +kernel) ?_
  refine newJJ hx hb hts hown m_t844 m_t139 hN hP hD hS hA 40 (by decide +kernel) (by decide +kernel) (by decide +kernel) (Nat.le_of_ble_eq_true rfl) (Nat.le_of_ble_eq_true rfl) (Nat.le_of_ble_eq_true rfl) (Nat.le_of_ble_eq_true rfl) dX6_init_33 (fun q_4 r_5 H => ?_)
  clear hP hD hS
  intro hP hD hS
  have hPD := pd_as [_, _, _, _, zzG cy 4 q_4 r_5, zzJ cy (r_5 0) 40 (fun _ => 0), zzJ cy (r_5 1) 40 (fun _ => 0), zzJ cy (r_5 2) 40 (fun _ => 0), zzJ cy (r_5 3) 40 (fun _ => 0), zzJ cy (r_5 4) 40 (fun _ => 0), zzJ cy (r_5 5) 40 (fun _ => 0), zzJ cy (r_5 6) 40 (fun _ => 0), zzJ cy (r_5 7) 40 (fun _ => 0)] hP hD rfl
  clear hP hD
  obtain ⟨hP, hD⟩ := hPD
  refine W.widen (k := 12) (n := 352) (Nat.le_of_ble_eq_true rfl) (Nat.le_of_ble_eq_true rfl) ?_
  refine va_putF (D := G) (ci := 5) (v := .ref q_4) (ty := (.array (.array .long))) (C := RX6) (T := TX6) (N := 35) hx hb hts iX_X6 tyX6 tyX6_ok nmX6 hown hK hP hD hS 0 rfl rfl 3 (by decide +kernel) (hts _ m_t853) (fun _ h9 => h9) rfl hin rfl (by decide +kernel) rfl rfl (Nat.le_of_ble_eq_true rfl) (g_181 (v := 21) bX6_init rfl) (fun H locs => ?_)
  clear hP hD hS
  intro hP hD hS
  have hPD := pd_as [zzO qm 5 (.ref q_1 :: .ref q_2 :: .ref q_3 :: .ref q_4 :: .null :: .null :: .null :: .null :: .int 0 :: .null :: .int 0 :: .null :: .int 0 :: .null :: .null :: .int 0 :: .int 0 :: .int 0 :: .null :: .null :: .int 0 :: .int 0 :: .int 0 :: .long 0 :: .int 0 :: .null :: .int 0 :: .int 0 :: .int 0 :: .null :: .null :: .null :: .null :: .null :: .int 0 :: []), _, _, _, _, _, _, _, _, _, _, _, _] hP hD rfl
  clear hP hD
  obtain ⟨hP, hD⟩ := hPD
  refine lv_aload_n hx hb (g_42 bX6_init rfl) rfl (lv_at hl 0 rfl) ?_
  refine lv_bipush (v := 40) hx hb dX6_init_41 (by decide +kernel) ?_
  refine newJ hx hb hts m_t139 hN hP hD hS hA 40 (by decide +kernel) (by decide +kernel) (Nat.le_of_ble_eq_true rfl) (Nat.le_of_ble_eq_true rfl) (Nat.le_of_ble_eq_true rfl) (g_na11 bX6_init rfl) (fun q_6 H => ?_)
  clear hP hD hS
  intro hP hD hS
  have hPD := pd_as [_, _, _, _, _, _, _, _, _, _, _, _, _, zzJ cy q_6 40 (fun _ => 0)] hP hD rfl
  clear hP hD
  obtain ⟨hP, hD⟩ := hPD
  refine W.widen (k := 13) (n := 392) (Nat.le_of_ble_eq_true rfl) (Nat.le_of_ble_eq_true rfl) ?_
  refine va_putF (D := G) (ci := 5) (v := .ref q_6) (ty := (.array .long)) (C := RX6) (T := TX6) (N := 35) hx hb hts iX_X6 tyX6 tyX6_ok nmX6 hown hK hP hD hS 0 rfl rfl 4 (by decide +kernel) (hts _ m_t854) (fun _ h9 => h9) rfl hin rfl (by decide +kernel) rfl rfl (Nat.le_of_ble_eq_true rfl) (g_181 (v := 24) bX6_init rfl) (fun H locs => ?_)
  clear hP hD hS
  intro hP hD hS
  have hPD := pd_as [zzO qm 5 (.ref q_1 :: .ref q_2 :: .ref q_3 :: .ref q_4 :: .ref q_6 :: .null :: .null :: .null :: .int 0 :: .null :: .int 0 :: .null :: .int 0 :: .null :: .null :: .int 0 :: .int 0 :: .int 0 :: .null :: .null :: .int 0 :: .int 0 :: .int 0 :: .long 0 :: .int 0 :: .null :: .int 0 :: .int 0 :: .int 0 :: .null :: .null :: .null :: .null :: .null :: .int 0 :: []), _, _, _, _, _, _, _, _, _, _, _, _, _] hP hD rfl
  clear hP hD
  obtain ⟨hP, hD⟩ := hPD
  refine lv_aload_n hx hb (g_42 bX6_init rfl) rfl (lv_at hl 0 rfl) ?_
  refine lv_bipush (v := 8) hx hb dX6_init_49 (by decide +kernel) ?_
  refine newI hx hb hts m_t92 hN hP hD hS hA 8 (by decide +kernel) (by decide +kernel) (Nat.le_of_ble_eq_true rfl) (Nat.le_of_ble_eq_true rfl) (Nat.le_of_ble_eq_true rfl) (g_na10 bX6_init rfl) (fun q_7 H => ?_)
  clear hP hD hS
  intro hP hD hS
  have hPD := pd_as [_, _, _, _, _, _, _, _, _, _, _, _, _, _, zzI cy q_7 8 (fun _ => 0)] hP hD rfl
  clear hP hD
  obtain ⟨hP, hD⟩ := hPD
  refine W.widen (k := 14) (n := 400) (Nat.le_of_ble_eq_true rfl) (Nat.le_of_ble_eq_true rfl) ?_
  refine va_putF (D := G) (ci := 5) (v := .ref q_7) (ty := (.array .int)) (C := RX6) (T := TX6) (N := 35) hx hb hts iX_X6 tyX6 tyX6_ok nmX6 hown hK hP hD hS 0 rfl rfl 5 (by decide +kernel) (hts _ m_t855) (fun _ h9 => h9) rfl hin rfl (by decide +kernel) rfl rfl (Nat.le_of_ble_eq_true rfl) (g_181 (v := 28) bX6_init rfl) (fun H locs => ?_)
  clear hP hD hS
  intro hP hD hS
  have hPD := pd_as [zzO qm 5 (.ref q_1 :: .ref q_2 :: .ref q_3 :: .ref q_4 :: .ref q_6 :: .ref q_7 :: .null :: .null :: .int 0 :: .null :: .int 0 :: .null :: .int 0 :: .null :: .null :: .int 0 :: .int 0 :: .int 0 :: .null :: .null :: .int 0 :: .int 0 :: .int 0 :: .long 0 :: .int 0 :: .null :: .int 0 :: .int 0 :: .int 0 :: .null :: .null :: .null :: .null :: .null :: .int 0 :: []), _, _, _, _, _, _, _, _, _, _, _, _, _, _] hP hD rfl
  clear hP hD
  obtain ⟨hP, hD⟩ := hPD
  refine lv_aload_n hx hb (g_42 bX6_init rfl) rfl (lv_at hl 0 rfl) ?_
  refine lv_bipush (v := 8) hx hb dX6_init_57 (by decide +kernel) ?_
  refine newI hx hb hts m_t92 hN hP hD hS hA 8 (by decide +kernel) (by decide +kernel) (Nat.le_of_ble_eq_true rfl) (Nat.le_of_ble_eq_true rfl) (Nat.le_of_ble_eq_true rfl) (g_na10 bX6_init rfl) (fun q_8 H => ?_)
  clear hP hD hS
  intro hP hD hS
  have hPD := pd_as [_, _, _, _, _, _, _, _, _, _, _, _, _, _, _, zzI cy q_8 8 (fun _ => 0)] hP hD rfl
  clear hP hD
  obtain ⟨hP, hD⟩ := hPD
  refine W.widen (k := 15) (n := 408) (Nat.le_of_ble_eq_true rfl) (Nat.le_of_ble_eq_true rfl) ?_
  refine va_putF (D := G) (ci := 5) (v := .ref q_8) (ty := (.array .int)) (C := RX6) (T := TX6) (N := 35) hx hb hts iX_X6 tyX6 tyX6_ok nmX6 hown hK hP hD hS 0 rfl rfl 6 (by decide +kernel) (hts _ m_t856) (fun _ h9 => h9) rfl hin rfl (by decide +kernel) rfl rfl (Nat.le_of_ble_eq_true rfl) (g_181 (v := 31) bX6_init rfl) (fun H locs => ?_)
  clear hP hD hS
  intro hP hD hS
  have hPD := pd_as [zzO qm 5 (.ref q_1 :: .ref q_2 :: .ref q_3 :: .ref q_4 :: .ref q_6 :: .ref q_7 :: .ref q_8 :: .null :: .int 0 :: .null :: .int 0 :: .null :: .int 0 :: .null :: .null :: .int 0 :: .int 0 :: .int 0 :: .null :: .null :: .int 0 :: .int 0 :: .int 0 :: .long 0 :: .int 0 :: .null :: .int 0 :: .int 0 :: .int 0 :: .null :: .null :: .null :: .null :: .null :: .int 0 :: []), _, _, _, _, _, _, _, _, _, _, _, _, _, _, _] hP hD rfl
  clear hP hD
  obtain ⟨hP, hD⟩ := hPD
  refine lv_aload_n hx hb (g_42 bX6_init rfl) rfl (lv_at hl 0 rfl) ?_
  refine lv_sipush (v := 250) hx hb dX6_init_65 (by decide +kernel) ?_
  refine newI hx hb hts m_t92 hN hP hD hS hA 250 (by decide +kernel) (by decide +kernel) (Nat.le_of_ble_eq_true rfl) (Nat.le_of_ble_eq_true rfl) (Nat.le_of_ble_eq_true rfl) (g_na10 bX6_init rfl) (fun q_9 H => ?_)
  clear hP hD hS
  intro hP hD hS
  have hPD := pd_as [_, _, _, _, _, _, _, _, _, _, _, _, _, _, _, _, zzI cy q_9 250 (fun _ => 0)] hP hD rfl
  clear hP hD
  obtain ⟨hP, hD⟩ := hPD
  refine W.widen (k := 16) (n := 658) (Nat.le_of_ble_eq_true rfl) (Nat.le_of_ble_eq_true rfl) ?_
  refine va_putF (D := G) (ci := 5) (v := .ref q_9) (ty := (.array .int)) (C := RX6) (T := TX6) (N := 35) hx hb hts iX_X6 tyX6 tyX6_ok nmX6 hown hK hP hD hS 0 rfl rfl 7 (by decide +kernel) (hts _ m_t857) (fun _ h9 => h9) rfl hin rfl (by decide +kernel) rfl rfl (Nat.le_of_ble_eq_true rfl) (g_181 (v := 34) bX6_init rfl) (fun H locs => ?_)
  clear hP hD hS
  intro hP hD hS
  have hPD := pd_as [zzO qm 5 (.ref q_1 :: .ref q_2 :: .ref q_3 :: .ref q_4 :: .ref q_6 :: .ref q_7 :: .ref q_8 :: .ref q_9 :: .int 0 :: .null :: .int 0 :: .null :: .int 0 :: .null :: .null :: .int 0 :: .int 0 :: .int 0 :: .null :: .null :: .int 0 :: .int 0 :: .int 0 :: .long 0 :: .int 0 :: .null :: .int 0 :: .int 0 :: .int 0 :: .null :: .null :: .null :: .null :: .null :: .int 0 :: []), _, _, _, _, _, _, _, _, _, _, _, _, _, _, _, _] hP hD rfl
  clear hP hD
  obtain ⟨hP, hD⟩ := hPD
  refine lv_aload_n hx hb (g_42 bX6_init rfl) rfl (lv_at hl 0 rfl) ?_
  refine lv_bipush (v := 8) hx hb dX6_init_74 (by decide +kernel) ?_
  refine newI hx hb hts m_t92 hN hP hD hS hA 8 (by decide +kernel) (by decide +kernel) (Nat.le_of_ble_eq_true rfl) (Nat.le_of_ble_eq_true rfl) (Nat.le_of_ble_eq_true rfl) (g_na10 bX6_init rfl) (fun q_10 H => ?_)
  clear hP hD hS
  intro hP hD hS
  have hPD := pd_as [_, _, _, _, _, _, _, _, _, _, _, _, _, _, _, _, _, zzI cy q_10 8 (fun _ => 0)] hP hD rfl
  clear hP hD
  obtain ⟨hP, hD⟩ := hPD
  refine W.widen (k := 17) (n := 666) (Nat.le_of_ble_eq_true rfl) (Nat.le_of_ble_eq_true rfl) ?_
  refine va_putF (D := G) (ci := 5) (v := .ref q_10) (ty := (.array .int)) (C := RX6) (T := TX6) (N := 35) hx hb hts iX_X6 tyX6 tyX6_ok nmX6 hown hK hP hD hS 0 rfl rfl 9 (by decide +kernel) (hts _ m_t859) (fun _ h9 => h9) rfl hin rfl (by decide +kernel) rfl rfl (Nat.le_of_ble_eq_true rfl) (g_181 (v := 37) bX6_init rfl) (fun H locs => ?_)
  clear hP hD hS
  intro hP hD hS
  have hPD := pd_as [zzO qm 5 (.ref q_1 :: .ref q_2 :: .ref q_3 :: .ref q_4 :: .ref q_6 :: .ref q_7 :: .ref q_8 :: .ref q_9 :: .int 0 :: .ref q_10 :: .int 0 :: .null :: .int 0 :: .null :: .null :: .int 0 :: .int 0 :: .int 0 :: .null :: .null :: .int 0 :: .int 0 :: .int 0 :: .long 0 :: .int 0 :: .null :: .int 0 :: .int 0 :: .int 0 :: .null :: .null :: .null :: .null :: .null :: .int 0 :: []), _, _, _, _, _, _, _, _, _, _, _, _, _, _, _, _, _] hP hD rfl
  clear hP hD
  obtain ⟨hP, hD⟩ := hPD
  refine lv_aload_n hx hb (g_42 bX6_init rfl) rfl (lv_at hl 0 rfl) ?_
  refine lv_bipush (v := 8) hx hb dX6_init_82 (by decide +kernel) ?_
  refine lv_iconst (v := 4) hx hb (g_7 bX6_init rfl) (by decide +kernel) ?_
  refine newII hx hb hts hown m_t846 m_t92 hN hP hD hS hA 4 (by decide +kernel) (by decide +kernel) (by decide +kernel) (Nat.le_of_ble_eq_true rfl) (Nat.le_of_ble_eq_true rfl) (Nat.le_of_ble_eq_true rfl) (Nat.le_of_ble_eq_true rfl) dX6_init_85 (fun q_11 r_12 H => ?_)
  clear hP hD hS
  intro hP hD hS
  have hPD := pd_as [_, _, _, _, _, _, _, _, _, _, _, _, _, _, _, _, _, _, zzG cy 3 q_11 r_12, zzI cy (r_12 0) 4 (fun _ => 0), zzI cy (r_12 1) 4 (fun _ => 0), zzI cy (r_12 2) 4 (fun _ => 0), zzI cy (r_12 3) 4 (fun _ => 0), zzI cy (r_12 4) 4 (fun _ => 0), zzI cy (r_12 5) 4 (fun _ => 0), zzI cy (r_12 6) 4 (fun _ => 0), zzI cy (r_12 7) 4 (fun _ => 0)] hP hD rfl
  clear hP hD
  obtain ⟨hP, hD⟩ := hPD
  refine W.widen (k := 26) (n := 706) (Nat.le_of_ble_eq_true rfl) (Nat.le_of_ble_eq_true rfl) ?_
  refine va_putF (D := G) (ci := 5) (v := .ref q_11) (ty := (.array (.array .int))) (C := RX6) (T := TX6) (N := 35) hx hb hts iX_X6 tyX6 tyX6_ok nmX6 hown hK hP hD hS 0 rfl rfl 11 (by decide +kernel) (hts _ m_t861) (fun _ h9 => h9) rfl hin rfl (by decide +kernel) rfl rfl (Nat.le_of_ble_eq_true rfl) (g_181 (v := 42) bX6_init rfl) (fun H locs => ?_)
  clear hP hD hS
  intro hP hD hS
  have hPD := pd_as [zzO qm 5 (.ref q_1 :: .ref q_2 :: .ref q_3 :: .ref q_4 :: .ref q_6 :: .ref q_7 :: .ref q_8 :: .ref q_9 :: .int 0 :: .ref q_10 :: .int 0 :: .ref q_11 :: .int 0 :: .null :: .null :: .int 0 :: .int 0 :: .int 0 :: .null :: .null :: .int 0 :: .int 0 :: .int 0 :: .long 0 :: .int 0 :: .null :: .int 0 :: .int 0 :: .int 0 :: .null :: .null :: .null :: .null :: .null :: .int 0 :: []), _, _, _, _, _, _, _, _, _, _, _, _, _, _, _, _, _, _, _, _, _, _, _, _, _, _] hP hD rfl
  clear hP hD
  obtain ⟨hP, hD⟩ := hPD
  refine lv_aload_n hx hb (g_42 bX6_init rfl) rfl (lv_at hl 0 rfl) ?_
  refine lv_bipush (v := 8) hx hb dX6_init_93 (by decide +kernel) ?_
  refine lv_iconst (v := 5) hx hb (g_8 bX6_init rfl) (by decide +kernel) ?_
  refine newII hx hb hts hown m_t846 m_t92 hN hP hD hS hA 5 (by decide +kernel) (by decide +kernel) (by decide +kernel) (Nat.le_of_ble_eq_true rfl) (Nat.le_of_ble_eq_true rfl) (Nat.le_of_ble_eq_true rfl) (Nat.le_of_ble_eq_true rfl) dX6_init_96 (fun q_13 r_14 H => ?_)
  clear hP hD hS
  intro hP hD hS
  have hPD := pd_as (_ :: _ :: _ :: _ :: _ :: _ :: _ :: _ :: _ :: _ :: _ :: _ :: _ :: _ :: _ :: _ :: _ :: _ :: _ :: _ :: _ :: _ :: _ :: _ :: _ :: _ :: _ :: zzG cy 3 q_13 r_14 :: zzI cy (r_14 0) 5 (fun _ => 0) :: zzI cy (r_14 1) 5 (fun _ => 0) :: zzI cy (r_14 2) 5 (fun _ => 0) :: zzI cy (r_14 3) 5 (fun _ => 0) :: zzI cy (r_14 4) 5 (fun _ => 0) :: zzI cy (r_14 5) 5 (fun _ => 0) :: zzI cy (r_14 6) 5 (fun _ => 0) :: zzI cy (r_14 7) 5 (fun _ => 0) :: []) hP hD rfl
  clear hP hD
  obtain ⟨hP, hD⟩ := hPD
  refine W.widen (k := 35) (n := 754) (Nat.le_of_ble_eq_true rfl) (Nat.le_of_ble_eq_true rfl) ?_
  refine va_putF (D := G) (ci := 5) (v := .ref q_13) (ty := (.array (.array .int))) (C := RX6) (T := TX6) (N := 35) hx hb hts iX_X6 tyX6 tyX6_ok nmX6 hown hK hP hD hS 0 rfl rfl 13 (by decide +kernel) (hts _ m_t863) (fun _ h9 => h9) rfl hin rfl (by decide +kernel) rfl rfl (Nat.le_of_ble_eq_true rfl) (g_181 (v := 45) bX6_init rfl) (fun H locs => ?_)
  clear hP hD hS
  intro hP hD hS
  have hPD := pd_as (zzO qm 5 (.ref q_1 :: .ref q_2 :: .ref q_3 :: .ref q_4 :: .ref q_6 :: .ref q_7 :: .ref q_8 :: .ref q_9 :: .int 0 :: .ref q_10 :: .int 0 :: .ref q_11 :: .int 0 :: .ref q_13 :: .null :: .int 0 :: .int 0 :: .int 0 :: .null :: .null :: .int 0 :: .int 0 :: .int 0 :: .long 0 :: .int 0 :: .null :: .int 0 :: .int 0 :: .int 0 :: .null :: .null :: .null :: .null :: .null :: .int 0 :: []) :: _ :: _ :: _ :: _ :: _ :: _ :: _ :: _ :: _ :: _ :: _ :: _ :: _ :: _ :: _ :: _ :: _ :: _ :: _ :: _ :: _ :: _ :: _ :: _ :: _ :: _ :: _ :: _ :: _ :: _ :: _ :: _ :: _ :: _ :: _ :: []) hP hD rfl
  clear hP hD
  obtain ⟨hP, hD⟩ := hPD
  refine lv_aload_n hx hb (g_42 bX6_init rfl) rfl (lv_at hl 0 rfl) ?_
  refine lv_bipush (v := 8) hx hb dX6_init_104 (by decide +kernel) ?_
  refine lv_bipush (v := 8) hx hb dX6_init_106 (by decide +kernel) ?_
  refine newII hx hb hts hown m_t846 m_t92 hN hP hD hS hA 8 (by decide +kernel) (by decide +kernel) (by decide +kernel) (Nat.le_of_ble_eq_true rfl) (Nat.le_of_ble_eq_true rfl) (Nat.le_of_ble_eq_true rfl) (Nat.le_of_ble_eq_true rfl) dX6_init_108 (fun q_15 r_16 H => ?_)
  clear hP hD hS
  intro hP hD hS
  have hPD := pd_as (_ :: _ :: _ :: _ :: _ :: _ :: _ :: _ :: _ :: _ :: _ :: _ :: _ :: _ :: _ :: _ :: _ :: _ :: _ :: _ :: _ :: _ :: _ :: _ :: _ :: _ :: _ :: _ :: _ :: _ :: _ :: _ :: _ :: _ :: _ :: _ :: zzG cy 3 q_15 r_16 :: zzI cy (r_16 0) 8 (fun _ => 0) :: zzI cy (r_16 1) 8 (fun _ => 0) :: zzI cy (r_16 2) 8 (fun _ => 0) :: zzI cy (r_16 3) 8 (fun _ => 0) :: zzI cy (r_16 4) 8 (fun _ => 0) :: zzI cy (r_16 5) 8 (fun _ => 0) :: zzI cy (r_16 6) 8 (fun _ => 0) :: zzI cy (r_16 7) 8 (fun _ => 0) :: []) hP hD rfl
  clear hP hD
  obtain ⟨hP, hD⟩ := hPD
  refine W.widen (k := 44) (n := 826) (Nat.le_of_ble_eq_true rfl) (Nat.le_of_ble_eq_true rfl) ?_
  refine va_putF (D := G) (ci := 5) (v := .ref q_15) (ty := (.array (.array .int))) (C := RX6) (T := TX6) (N := 35) hx hb hts iX_X6 tyX6 tyX6_ok nmX6 hown hK hP hD hS 0 rfl rfl 14 (by decide +kernel) (hts _ m_t864) (fun _ h9 => h9) rfl hin rfl (by decide +kernel) rfl rfl (Nat.le_of_ble_eq_true rfl) (g_181 (v := 48) bX6_init rfl) (fun H locs => ?_)
  clear hP hD hS
  intro hP hD hS
  have hPD := pd_as (zzO qm 5 (.ref q_1 :: .ref q_2 :: .ref q_3 :: .ref q_4 :: .ref q_6 :: .ref q_7 :: .ref q_8 :: .ref q_9 :: .int 0 :: .ref q_10 :: .int 0 :: .ref q_11 :: .int 0 :: .ref q_13 :: .ref q_15 :: .int 0 :: .int 0 :: .int 0 :: .null :: .null :: .int 0 :: .int 0 :: .int 0 :: .long 0 :: .int 0 :: .null :: .int 0 :: .int 0 :: .int 0 :: .null :: .null :: .null :: .null :: .null :: .int 0 :: []) :: _ :: _ :: _ :: _ :: _ :: _ :: _ :: _ :: _ :: _ :: _ :: _ :: _ :: _ :: _ :: _ :: _ :: _ :: _ :: _ :: _ :: _ :: _ :: _ :: _ :: _ :: _ :: _ :: _ :: _ :: _ :: _ :: _ :: _ :: _ :: _ :: _ :: _ :: _ :: _ :: _ :: _ :: _ :: _ :: []) hP hD rfl
  clear hP hD
  obtain ⟨hP, hD⟩ := hPD
  refine lv_aload_n hx hb (g_42 bX6_init rfl) rfl (lv_at hl 0 rfl) ?_
  refine lv_iconst (v := 1) hx hb (g_4 bX6_init rfl) (by decide +kernel) ?_
  refine va_put (D := G) (ci := 5) (v := .int 1) (ty := .int) (C := RX6) (T := TX6) (N := 35) hx hb hts iX_X6 tyX6 tyX6_ok nmX6 hown hK hP hD hS 0 rfl rfl 17 (by decide +kernel) (hts _ m_t867) (fun _ h9 => h9) rfl (by decide +kernel) rfl rfl (Nat.le_of_ble_eq_true rfl) (g_181 (v := 51) bX6_init rfl) (fun H locs => ?_)
  clear hP hD hS
  intro hP hD hS
  have hPD := pd_as (zzO qm 5 (.ref q_1 :: .ref q_2 :: .ref q_3 :: .ref q_4 :: .ref q_6 :: .ref q_7 :: .ref q_8 :: .ref q_9 :: .int 0 :: .ref q_10 :: .int 0 :: .ref q_11 :: .int 0 :: .ref q_13 :: .ref q_15 :: .int 0 :: .int 0 :: .int 1 :: .null :: .null :: .int 0 :: .int 0 :: .int 0 :: .long 0 :: .int 0 :: .null :: .int 0 :: .int 0 :: .int 0 :: .null :: .null :: .null :: .null :: .null :: .int 0 :: []) :: _ :: _ :: _ :: _ :: _ :: _ :: _ :: _ :: _ :: _ :: _ :: _ :: _ :: _ :: _ :: _ :: _ :: _ :: _ :: _ :: _ :: _ :: _ :: _ :: _ :: _ :: _ :: _ :: _ :: _ :: _ :: _ :: _ :: _ :: _ :: _ :: _ :: _ :: _ :: _ :: _ :: _ :: _ :: _ :: []) hP hD rfl
  clear hP hD
  obtain ⟨hP, hD⟩ := hPD
  refine lv_aload_n hx hb (g_42 bX6_init rfl) rfl (lv_at hl 0 rfl) ?_
  refine lv_iconst (v := 3) hx hb (g_6 bX6_init rfl) (by decide +kernel) ?_
  refine newI hx hb hts m_t92 hN hP hD hS hA 3 (by decide +kernel) (by decide +kernel) (Nat.le_of_ble_eq_true rfl) (Nat.le_of_ble_eq_true rfl) (Nat.le_of_ble_eq_true rfl) (g_na10 bX6_init rfl) (fun q_17 H => ?_)
  clear hP hD hS
  intro hP hD hS
  have hPD := pd_as (_ :: _ :: _ :: _ :: _ :: _ :: _ :: _ :: _ :: _ :: _ :: _ :: _ :: _ :: _ :: _ :: _ :: _ :: _ :: _ :: _ :: _ :: _ :: _ :: _ :: _ :: _ :: _ :: _ :: _ :: _ :: _ :: _ :: _ :: _ :: _ :: _ :: _ :: _ :: _ :: _ :: _ :: _ :: _ :: _ :: zzI cy q_17 3 (fun _ => 0) :: []) hP hD rfl
  clear hP hD
  obtain ⟨hP, hD⟩ := hPD
  refine W.widen (k := 45) (n := 829) (Nat.le_of_ble_eq_true rfl) (Nat.le_of_ble_eq_true rfl) ?_
  refine va_putF (D := G) (ci := 5) (v := .ref q_17) (ty := (.array .int)) (C := RX6) (T := TX6) (N := 35) hx hb hts iX_X6 tyX6 tyX6_ok nmX6 hown hK hP hD hS 0 rfl rfl 25 (by decide +kernel) (hts _ m_t875) (fun _ h9 => h9) rfl hin rfl (by decide +kernel) rfl rfl (Nat.le_of_ble_eq_true rfl) (g_181 (v := 55) bX6_init rfl) (fun H locs => ?_)
  clear hP hD hS
  intro hP hD hS
  have hPD := pd_as (zzO qm 5 (.ref q_1 :: .ref q_2 :: .ref q_3 :: .ref q_4 :: .ref q_6 :: .ref q_7 :: .ref q_8 :: .ref q_9 :: .int 0 :: .ref q_10 :: .int 0 :: .ref q_11 :: .int 0 :: .ref q_13 :: .ref q_15 :: .int 0 :: .int 0 :: .int 1 :: .null :: .null :: .int 0 :: .int 0 :: .int 0 :: .long 0 :: .int 0 :: .ref q_17 :: .int 0 :: .int 0 :: .int 0 :: .null :: .null :: .null :: .null :: .null :: .int 0 :: []) :: _ :: _ :: _ :: _ :: _ :: _ :: _ :: _ :: _ :: _ :: _ :: _ :: _ :: _ :: _ :: _ :: _ :: _ :: _ :: _ :: _ :: _ :: _ :: _ :: _ :: _ :: _ :: _ :: _ :: _ :: _ :: _ :: _ :: _ :: _ :: _ :: _ :: _ :: _ :: _ :: _ :: _ :: _ :: _ :: _ :: []) hP hD rfl
  clear hP hD
  obtain ⟨hP, hD⟩ := hPD
  refine lv_aload_n hx hb (g_42 bX6_init rfl) rfl (lv_at hl 0 rfl) ?_
  refine lv_bipush (v := 8) hx hb dX6_init_128 (by decide +kernel) ?_
  refine newI hx hb hts m_t92 hN hP hD hS hA 8 (by decide +kernel) (by decide +kernel) (Nat.le_of_ble_eq_true rfl) (Nat.le_of_ble_eq_true rfl) (Nat.le_of_ble_eq_true rfl) (g_na10 bX6_init rfl) (fun q_18 H => ?_)
  clear hP hD hS
  intro hP hD hS
  have hPD := pd_as (_ :: _ :: _ :: _ :: _ :: _ :: _ :: _ :: _ :: _ :: _ :: _ :: _ :: _ :: _ :: _ :: _ :: _ :: _ :: _ :: _ :: _ :: _ :: _ :: _ :: _ :: _ :: _ :: _ :: _ :: _ :: _ :: _ :: _ :: _ :: _ :: _ :: _ :: _ :: _ :: _ :: _ :: _ :: _ :: _ :: _ :: zzI cy q_18 8 (fun _ => 0) :: []) hP hD rfl
  clear hP hD
  obtain ⟨hP, hD⟩ := hPD
  refine W.widen (k := 46) (n := 837) (Nat.le_of_ble_eq_true rfl) (Nat.le_of_ble_eq_true rfl) ?_
  refine va_putF (D := G) (ci := 5) (v := .ref q_18) (ty := (.array .int)) (C := RX6) (T := TX6) (N := 35) hx hb hts iX_X6 tyX6 tyX6_ok nmX6 hown hK hP hD hS 0 rfl rfl 30 (by decide +kernel) (hts _ m_t880) (fun _ h9 => h9) rfl hin rfl (by decide +kernel) rfl rfl (Nat.le_of_ble_eq_true rfl) (g_181 (v := 58) bX6_init rfl) (fun H locs => ?_)
  clear hP hD hS
  intro hP hD hS
  have hPD := pd_as (zzO qm 5 (.ref q_1 :: .ref q_2 :: .ref q_3 :: .ref q_4 :: .ref q_6 :: .ref q_7 :: .ref q_8 :: .ref q_9 :: .int 0 :: .ref q_10 :: .int 0 :: .ref q_11 :: .int 0 :: .ref q_13 :: .ref q_15 :: .int 0 :: .int 0 :: .int 1 :: .null :: .null :: .int 0 :: .int 0 :: .int 0 :: .long 0 :: .int 0 :: .ref q_17 :: .int 0 :: .int 0 :: .int 0 :: .null :: .ref q_18 :: .null :: .null :: .null :: .int 0 :: []) :: _ :: _ :: _ :: _ :: _ :: _ :: _ :: _ :: _ :: _ :: _ :: _ :: _ :: _ :: _ :: _ :: _ :: _ :: _ :: _ :: _ :: _ :: _ :: _ :: _ :: _ :: _ :: _ :: _ :: _ :: _ :: _ :: _ :: _ :: _ :: _ :: _ :: _ :: _ :: _ :: _ :: _ :: _ :: _ :: _ :: _ :: []) hP hD rfl
  clear hP hD
  obtain ⟨hP, hD⟩ := hPD
  refine lv_aload_n hx hb (g_42 bX6_init rfl) rfl (lv_at hl 0 rfl) ?_
  refine lv_iconst (v := 5) hx hb (g_8 bX6_init rfl) (by decide +kernel) ?_
  refine newI hx hb hts m_t92 hN hP hD hS hA 5 (by decide +kernel) (by decide +kernel) (Nat.le_of_ble_eq_true rfl) (Nat.le_of_ble_eq_true rfl) (Nat.le_of_ble_eq_true rfl) (g_na10 bX6_init rfl) (fun q_19 H => ?_)
  clear hP hD hS
  intro hP hD hS
  have hPD := pd_as (_ :: _ :: _ :: _ :: _ :: _ :: _ :: _ :: _ :: _ :: _ :: _ :: _ :: _ :: _ :: _ :: _ :: _ :: _ :: _ :: _ :: _ :: _ :: _ :: _ :: _ :: _ :: _ :: _ :: _ :: _ :: _ :: _ :: _ :: _ :: _ :: _ :: _ :: _ :: _ :: _ :: _ :: _ :: _ :: _ :: _ :: _ :: zzI cy q_19 5 (fun _ => 0) :: []) hP hD rfl
  clear hP hD
  obtain ⟨hP, hD⟩ := hPD
  refine W.widen (k := 47) (n := 842) (Nat.le_of_ble_eq_true rfl) (Nat.le_of_ble_eq_true rfl) ?_
  refine va_putF (D := G) (ci := 5) (v := .ref q_19) (ty := (.array .int)) (C := RX6) (T := TX6) (N := 35) hx hb hts iX_X6 tyX6 tyX6_ok nmX6 hown hK hP hD hS 0 rfl rfl 31 (by decide +kernel) (hts _ m_t881) (fun _ h9 => h9) rfl hin rfl (by decide +kernel) rfl rfl (Nat.le_of_ble_eq_true rfl) (g_181 (v := 61) bX6_init rfl) (fun H locs => ?_)
  clear hP hD hS
  intro hP hD hS
  have hPD := pd_as (zzO qm 5 (.ref q_1 :: .ref q_2 :: .ref q_3 :: .ref q_4 :: .ref q_6 :: .ref q_7 :: .ref q_8 :: .ref q_9 :: .int 0 :: .ref q_10 :: .int 0 :: .ref q_11 :: .int 0 :: .ref q_13 :: .ref q_15 :: .int 0 :: .int 0 :: .int 1 :: .null :: .null :: .int 0 :: .int 0 :: .int 0 :: .long 0 :: .int 0 :: .ref q_17 :: .int 0 :: .int 0 :: .int 0 :: .null :: .ref q_18 :: .ref q_19 :: .null :: .null :: .int 0 :: []) :: _ :: _ :: _ :: _ :: _ :: _ :: _ :: _ :: _ :: _ :: _ :: _ :: _ :: _ :: _ :: _ :: _ :: _ :: _ :: _ :: _ :: _ :: _ :: _ :: _ :: _ :: _ :: _ :: _ :: _ :: _ :: _ :: _ :: _ :: _ :: _ :: _ :: _ :: _ :: _ :: _ :: _ :: _ :: _ :: _ :: _ :: _ :: []) hP hD rfl
  clear hP hD
  obtain ⟨hP, hD⟩ := hPD
  refine lv_aload_n hx hb (g_42 bX6_init rfl) rfl (lv_at hl 0 rfl) ?_
  refine lv_iconst (v := 5) hx hb (g_8 bX6_init rfl) (by decide +kernel) ?_
  refine newI hx hb hts m_t92 hN hP hD hS hA 5 (by decide +kernel) (by decide +kernel) (Nat.le_of_ble_eq_true rfl) (Nat.le_of_ble_eq_true rfl) (Nat.le_of_ble_eq_true rfl) (g_na10 bX6_init rfl) (fun q_20 H => ?_)
  clear hP hD hS
  intro hP hD hS
  have hPD := pd_as (_ :: _ :: _ :: _ :: _ :: _ :: _ :: _ :: _ :: _ :: _ :: _ :: _ :: _ :: _ :: _ :: _ :: _ :: _ :: _ :: _ :: _ :: _ :: _ :: _ :: _ :: _ :: _ :: _ :: _ :: _ :: _ :: _ :: _ :: _ :: _ :: _ :: _ :: _ :: _ :: _ :: _ :: _ :: _ :: _ :: _ :: _ :: _ :: zzI cy q_20 5 (fun _ => 0) :: []) hP hD rfl
  clear hP hD
  obtain ⟨hP, hD⟩ := hPD
  refine W.widen (k := 48) (n := 847) (Nat.le_of_ble_eq_true rfl) (Nat.le_of_ble_eq_true rfl) ?_
  refine va_putF (D := G) (ci := 5) (v := .ref q_20) (ty := (.array .int)) (C := RX6) (T := TX6) (N := 35) hx hb hts iX_X6 tyX6 tyX6_ok nmX6 hown hK hP hD hS 0 rfl rfl 32 (by decide +kernel) (hts _ m_t882) (fun _ h9 => h9) rfl hin rfl (by decide +kernel) rfl rfl (Nat.le_of_ble_eq_true rfl) (g_181 (v := 64) bX6_init rfl) (fun H locs => ?_)
  clear hP hD hS
  intro hP hD hS
  have hPD := pd_as (zzO qm 5 (.ref q_1 :: .ref q_2 :: .ref q_3 :: .ref q_4 :: .ref q_6 :: .ref q_7 :: .ref q_8 :: .ref q_9 :: .int 0 :: .ref q_10 :: .int 0 :: .ref q_11 :: .int 0 :: .ref q_13 :: .ref q_15 :: .int 0 :: .int 0 :: .int 1 :: .null :: .null :: .int 0 :: .int 0 :: .int 0 :: .long 0 :: .int 0 :: .ref q_17 :: .int 0 :: .int 0 :: .int 0 :: .null :: .ref q_18 :: .ref q_19 :: .ref q_20 :: .null :: .int 0 :: []) :: _ :: _ :: _ :: _ :: _ :: _ :: _ :: _ :: _ :: _ :: _ :: _ :: _ :: _ :: _ :: _ :: _ :: _ :: _ :: _ :: _ :: _ :: _ :: _ :: _ :: _ :: _ :: _ :: _ :: _ :: _ :: _ :: _ :: _ :: _ :: _ :: _ :: _ :: _ :: _ :: _ :: _ :: _ :: _ :: _ :: _ :: _ :: _ :: []) hP hD rfl
  clear hP hD
  obtain ⟨hP, hD⟩ := hPD
  refine lv_aload_n hx hb (g_42 bX6_init rfl) rfl (lv_at hl 0 rfl) ?_
  refine lv_bipush (v := 6) hx hb dX6_init_150 (by decide +kernel) ?_
  refine newM hx hb hts hown m_t848 hN hP hD hS hA 6 (by decide +kernel) (by decide +kernel) (Nat.le_of_ble_eq_true rfl) (Nat.le_of_ble_eq_true rfl) (Nat.le_of_ble_eq_true rfl) (g_189 (v := 8) bX6_init rfl) (fun q_21 H => ?_)
  clear hP hD hS
  intro hP hD hS
  have hPD := pd_as (_ :: _ :: _ :: _ :: _ :: _ :: _ :: _ :: _ :: _ :: _ :: _ :: _ :: _ :: _ :: _ :: _ :: _ :: _ :: _ :: _ :: _ :: _ :: _ :: _ :: _ :: _ :: _ :: _ :: _ :: _ :: _ :: _ :: _ :: _ :: _ :: _ :: _ :: _ :: _ :: _ :: _ :: _ :: _ :: _ :: _ :: _ :: _ :: _ :: zzQ cy 5 q_21 6 (fun _ => none) :: []) hP hD rfl
  clear hP hD
  obtain ⟨hP, hD⟩ := hPD
  refine W.widen (k := 49) (n := 853) (Nat.le_of_ble_eq_true rfl) (Nat.le_of_ble_eq_true rfl) ?_
  refine va_putF (D := G) (ci := 5) (v := .ref q_21) (ty := (.array (.object "EachBookOnceModel"))) (C := RX6) (T := TX6) (N := 35) hx hb hts iX_X6 tyX6 tyX6_ok nmX6 hown hK hP hD hS 0 rfl rfl 33 (by decide +kernel) (hts _ m_t883) (fun _ h9 => h9) rfl hin rfl (by decide +kernel) rfl rfl (Nat.le_of_ble_eq_true rfl) (g_181 (v := 67) bX6_init rfl) (fun H locs => ?_)
  clear hP hD hS
  intro hP hD hS
  have hPD := pd_as (zzO qm 5 (.ref q_1 :: .ref q_2 :: .ref q_3 :: .ref q_4 :: .ref q_6 :: .ref q_7 :: .ref q_8 :: .ref q_9 :: .int 0 :: .ref q_10 :: .int 0 :: .ref q_11 :: .int 0 :: .ref q_13 :: .ref q_15 :: .int 0 :: .int 0 :: .int 1 :: .null :: .null :: .int 0 :: .int 0 :: .int 0 :: .long 0 :: .int 0 :: .ref q_17 :: .int 0 :: .int 0 :: .int 0 :: .null :: .ref q_18 :: .ref q_19 :: .ref q_20 :: .ref q_21 :: .int 0 :: []) :: _ :: _ :: _ :: _ :: _ :: _ :: _ :: _ :: _ :: _ :: _ :: _ :: _ :: _ :: _ :: _ :: _ :: _ :: _ :: _ :: _ :: _ :: _ :: _ :: _ :: _ :: _ :: _ :: _ :: _ :: _ :: _ :: _ :: _ :: _ :: _ :: _ :: _ :: _ :: _ :: _ :: _ :: _ :: _ :: _ :: _ :: _ :: _ :: _ :: []) hP hD rfl
  clear hP hD
  obtain ⟨hP, hD⟩ := hPD
  exact endV (u := [zzO qm 5 (.ref q_1 :: .ref q_2 :: .ref q_3 :: .ref q_4 :: .ref q_6 :: .ref q_7 :: .ref q_8 :: .ref q_9 :: .int 0 :: .ref q_10 :: .int 0 :: .ref q_11 :: .int 0 :: .ref q_13 :: .ref q_15 :: .int 0 :: .int 0 :: .int 1 :: .null :: .null :: .int 0 :: .int 0 :: .int 0 :: .long 0 :: .int 0 :: .ref q_17 :: .int 0 :: .int 0 :: .int 0 :: .null :: .ref q_18 :: .ref q_19 :: .ref q_20 :: .ref q_21 :: .int 0 :: []), zzG cy 3 q_11 r_12, zzI cy (r_12 0) 4 (fun _ => 0), zzI cy (r_12 1) 4 (fun _ => 0), zzI cy (r_12 2) 4 (fun _ => 0), zzI cy (r_12 3) 4 (fun _ => 0), zzI cy (r_12 4) 4 (fun _ => 0), zzI cy (r_12 5) 4 (fun _ => 0), zzI cy (r_12 6) 4 (fun _ => 0), zzI cy (r_12 7) 4 (fun _ => 0), zzG cy 3 q_13 r_14, zzI cy (r_14 0) 5 (fun _ => 0), zzI cy (r_14 1) 5 (fun _ => 0), zzI cy (r_14 2) 5 (fun _ => 0), zzI cy (r_14 3) 5 (fun _ => 0), zzI cy (r_14 4) 5 (fun _ => 0), zzI cy (r_14 5) 5 (fun _ => 0), zzI cy (r_14 6) 5 (fun _ => 0), zzI cy (r_14 7) 5 (fun _ => 0), zzG cy 3 q_15 r_16, zzI cy (r_16 0) 8 (fun _ => 0), zzI cy (r_16 1) 8 (fun _ => 0), zzI cy (r_16 2) 8 (fun _ => 0), zzI cy (r_16 3) 8 (fun _ => 0), zzI cy (r_16 4) 8 (fun _ => 0), zzI cy (r_16 5) 8 (fun _ => 0), zzI cy (r_16 6) 8 (fun _ => 0), zzI cy (r_16 7) 8 (fun _ => 0)]) hx hb hr hlocks (pSb hP [(true :: false :: false :: false :: false :: false :: false :: false :: false :: false :: false :: false :: false :: false :: false :: false :: false :: false :: true :: true :: true :: true :: true :: true :: true :: true :: true :: true :: true :: true :: true :: true :: true :: true :: true :: true :: true :: true :: true :: true :: true :: true :: true :: true :: true :: [])] rfl rfl) (dSb hD [(true :: false :: false :: false :: false :: false :: false :: false :: false :: false :: false :: false :: false :: false :: false :: false :: false :: false :: true :: true :: true :: true :: true :: true :: true :: true :: true :: true :: true :: true :: true :: true :: true :: true :: true :: true :: true :: true :: true :: true :: true :: true :: true :: true :: true :: [])] (by decide +kernel) rfl rfl) hS ⟨q_11, q_13, q_15, r_12, r_14, r_16, (fvL (.ref q_1 :: .ref q_2 :: .ref q_3 :: .ref q_4 :: .ref q_6 :: .ref q_7 :: .ref q_8 :: .ref q_9 :: .int 0 :: .ref q_10 :: .null :: .null :: .null :: .null :: .null :: .null :: .null :: .null :: .null :: .null :: .int 0 :: .int 0 :: .int 0 :: .long 0 :: .int 0 :: .ref q_17 :: .int 0 :: .null :: .null :: .null :: .ref q_18 :: .ref q_19 :: .ref q_20 :: .ref q_21 :: .int 0 :: [])), (by rw [bk_T0 0, bk_T0 1, bk_T0 2, bk_T0 3, bk_T0 4, bk_T0 5, bk_T0 6, bk_T0 7, on_T0 0, on_T0 1, on_T0 2, on_T0 3, on_T0 4, on_T0 5, on_T0 6, on_T0 7]; rfl)⟩ (g_177 bX6_init rfl)
set_option maxHeartbeats 4000000 in
set_option maxRecDepth 100000 in
theorem p_X6_keeping (l : Launch) (G : va_G) (cy : Nat → ClassId) (sz : Nat) (qm : Nat) (qmh : Nat) (qmo : Nat) (qmz : Nat) (qmR : Nat) (qmv : Nat) (qmk : Nat) (qma : Nat) (qmt : Nat) (kZ : Nat) (qmr : Nat) (tA : TA) (qmB : Nat) (qmO : Nat) (qmK : Nat) (iEn : Int32) (iTk : Int32) (uP : UM) (uU : UM) (kAt : Nat) (iTo : Int32) (iFr : Int32) (JFi : Int64) (iFa : Int32) (qm3 : Nat) (iSt : Int32) (iLv : Int32) (iWs : Int32) (wL : UL) (qmu : Nat) (qmy : Nat) (qmb : Nat) (qms : Nat) (iOm : Int32) (fMr : Nat → Int32) (rB : Nat → Nat) (rO : Nat → Nat) (rK : Nat → Nat) (iA : Int32) (iB : Int32)  (hB : T_nb tA ≤ 8) (hPp : T_np tA ≤ 8) (hTI : TI tA) : MW l yX6_keeping cX6_keeping 4 (some .int) 18 200 3552 G cy ([zzO qm 5 (.ref qmh :: .ref qmo :: .ref qmz :: .ref qmR :: .ref qmv :: .ref qmk :: .ref qma :: .ref qmt :: .int (nI kZ) :: .ref qmr :: .int (nI (T_nb tA)) :: .ref qmB :: .int (nI (T_np tA)) :: .ref qmO :: .ref qmK :: .int iEn :: .int iTk :: .int (T_sd tA) :: ov uP :: ov uU :: .int (nI kAt) :: .int iTo :: .int iFr :: .long JFi :: .int iFa :: .ref qm3 :: .int iSt :: .int iLv :: .int iWs :: ovL wL :: .ref qmu :: .ref qmy :: .ref qmb :: .ref qms :: .int iOm :: []), zzI cy qmr 8 fMr, zzG cy 3 qmB rB, zzI cy (rB 0) 4 (bkR tA 0), zzI cy (rB 1) 4 (bkR tA 1), zzI cy (rB 2) 4 (bkR tA 2), zzI cy (rB 3) 4 (bkR tA 3), zzI cy (rB 4) 4 (bkR tA 4), zzI cy (rB 5) 4 (bkR tA 5), zzI cy (rB 6) 4 (bkR tA 6), zzI cy (rB 7) 4 (bkR tA 7), zzG cy 3 qmO rO, zzI cy (rO 0) 5 (onR tA 0), zzI cy (rO 1) 5 (onR tA 1), zzI cy (rO 2) 5 (onR tA 2), zzI cy (rO 3) 5 (onR tA 3), zzI cy (rO 4) 5 (onR tA 4), zzI cy (rO 5) 5 (onR tA 5), zzI cy (rO 6) 5 (onR tA 6), zzI cy (rO 7) 5 (onR tA 7), zzG cy 3 qmK rK, zzI cy (rK 0) 8 (T_kn tA 0), zzI cy (rK 1) 8 (T_kn tA 1), zzI cy (rK 2) 8 (T_kn tA 2), zzI cy (rK 3) 8 (T_kn tA 3), zzI cy (rK 4) 8 (T_kn tA 4), zzI cy (rK 5) 8 (T_kn tA 5), zzI cy (rK 6) 8 (T_kn tA 6), zzI cy (rK 7) 8 (T_kn tA 7)] ++ (oM cy uU ++ oL cy wL)) sz [.ref qm, .int iA, .int iB] (Wi G (fun r u => ∃ (uN : UM) (wN : UL) (iNw : Int32) (fNr : Nat → Int32), u = ([zzO qm 5 (.ref qmh :: .ref qmo :: .ref qmz :: .ref qmR :: .ref qmv :: .ref qmk :: .ref qma :: .ref qmt :: .int (nI kZ) :: .ref qmr :: .int (nI (T_nb tA)) :: .ref qmB :: .int (nI (T_np tA)) :: .ref qmO :: .ref qmK :: .int iEn :: .int iTk :: .int (T_sd tA) :: ov uP :: ov uN :: .int (nI kAt) :: .int iTo :: .int iFr :: .long JFi :: .int iFa :: .ref qm3 :: .int iSt :: .int iLv :: .int iNw :: ovL wN :: .ref qmu :: .ref qmy :: .ref qmb :: .ref qms :: .int iOm :: []), zzI cy qmr 8 fNr, zzG cy 3 qmB rB, zzI cy (rB 0) 4 (bkR tA 0), zzI cy (rB 1) 4 (bkR tA 1), zzI cy (rB 2) 4 (bkR tA 2), zzI cy (rB 3) 4 (bkR tA 3), zzI cy (rB 4) 4 (bkR tA 4), zzI cy (rB 5) 4 (bkR tA 5), zzI cy (rB 6) 4 (bkR tA 6), zzI cy (rB 7) 4 (bkR tA 7), zzG cy 3 qmO rO, zzI cy (rO 0) 5 (onR tA 0), zzI cy (rO 1) 5 (onR tA 1), zzI cy (rO 2) 5 (onR tA 2), zzI cy (rO 3) 5 (onR tA 3), zzI cy (rO 4) 5 (onR tA 4), zzI cy (rO 5) 5 (onR tA 5), zzI cy (rO 6) 5 (onR tA 6), zzI cy (rO 7) 5 (onR tA 7), zzG cy 3 qmK rK, zzI cy (rK 0) 8 (T_kn tA 0), zzI cy (rK 1) 8 (T_kn tA 1), zzI cy (rK 2) 8 (T_kn tA 2), zzI cy (rK 3) 8 (T_kn tA 3), zzI cy (rK 4) 8 (T_kn tA 4), zzI cy (rK 5) 8 (T_kn tA 5), zzI cy (rK 6) 8 (T_kn tA 6), zzI cy (rK 7) 8 (T_kn tA 7)] ++ (oM cy uN ++ oL cy wN)) ∧ (True))) := by
  refine enW RX6 (by decide +kernel) rfl (Nat.le_of_ble_eq_true rfl) (fun p e s m below meth c ls A hx hb hml hown hts hr hlocks hP hN hl hin hD hA hS => ?_)
  have hin : meth.name = _ := hin
  have hK := hN.1
  replace hl : lv_has ls 4 [(0, .ref qm), (1, .int iA), (2, .int iB)] := hl
  refine lv_aload_n hx hb (g_42 bX6_keeping rfl) rfl (lv_at hl 0 rfl) ?_
  refine lv_iload_n hx hb (g_27 bX6_keeping rfl) rfl (lv_at hl 1 rfl) ?_
  refine lv_i2l (v := iA.toInt64) hx hb (g_133 bX6_keeping rfl) rfl ?_
  refine kRi (rV (As := [.long iA.toInt64]) (rest := []) (b := qm) ⟨hx, hb, hml, hown, hts⟩ (c_X6_isBook l G cy qm (.ref qmh) (.ref qmo) (.ref qmz) (.ref qmR) (.ref qmv) (.ref qmk) (.ref qma) (.ref qmt) (.int (nI kZ)) (.ref qmr) tA qmB qmO qmK iEn iTk (ov uP) (ov uU) (.int (nI kAt)) (.int iTo) (.int iFr) (.long JFi) (.int iFa) (.ref qm3) (.int iSt) iLv iWs (ovL wL) (.ref qmu) (.ref qmy) (.ref qmb) (.ref qms) (.int iOm) iA hB) L_X6_229 (preRV (q := (RX6, TX6, 35)) hN hP [0] rfl 0 5 rfl rfl) rfl ⟨Nat.le_of_ble_eq_true rfl, Nat.le_of_ble_eq_true rfl⟩ hl.1 (Nat.le_of_ble_eq_true rfl) (g_182 (v := 229) bX6_keeping rfl) ⟨Nat.le_of_ble_eq_true rfl, Nat.le_of_ble_eq_true rfl⟩) (fun r_1 h_2 => ?_)
  rcases h_2 with ⟨rfl, h_3⟩ | ⟨rfl, h_3⟩
  · obtain ⟨k_4, hk_5, rfl⟩ := h_3
    refine lv_if_eq (tgt := 23) hx hb dX6_keeping_6 (by decide +kernel) (fun h9 => absurd h9 (by decide +kernel)) (fun _ => ?_)
    refine lv_iload_n hx hb (g_28 bX6_keeping rfl) rfl (lv_at hl 2 rfl) ?_
    refine lv_i2l (v := iB.toInt64) hx hb (g_133 bX6_keeping rfl) rfl ?_
    refine lv_ldc2 hx hb hown (hts _ m_t1307) (g_20 (v := 318) bX6_keeping rfl) ?_
    refine lv_ldc2 hx hb hown (hts _ m_t1268) (g_20 (v := 298) bX6_keeping rfl) ?_
    refine kRi (rS (As := [.long iB.toInt64, .long 2, .long 60]) (rest := []) ⟨hx, hb, hml, hown, hts⟩ (c_X6_in l G cy iB.toInt64 2 60) L_X6_74 (preRS hN hP [] rfl) rfl ⟨Nat.le_of_ble_eq_true rfl, Nat.le_of_ble_eq_true rfl⟩ hl.1 (Nat.le_of_ble_eq_true rfl) (g_184 (v := 74) bX6_keeping rfl) ⟨Nat.le_of_ble_eq_true rfl, Nat.le_of_ble_eq_true rfl⟩) (fun r_7 h_8 => ?_)
    rcases h_8 with ⟨rfl, h_9⟩ | ⟨rfl, h_9⟩
    · obtain ⟨k_10, hk_11, hk_12, rfl⟩ := iv_nI 2 60 (by decide +kernel) (by decide +kernel) h_9
      refine lv_if_ne (tgt := 34) hx hb dX6_keeping_20 (by decide +kernel) (fun _ => ?_) (fun h9 => absurd h9 (by decide +kernel))
      refine lv_aload_n hx hb (g_42 bX6_keeping rfl) rfl (lv_at hl 0 rfl) ?_
      refine lv_iload_n hx hb (g_27 bX6_keeping rfl) rfl (lv_at hl 1 rfl) ?_
      refine kRi (rV (As := [.int (nI k_4)]) (rest := []) (b := qm) ⟨hx, hb, hml, hown, hts⟩ (c_X6_isWhite l G cy qm (.ref qmh) (.ref qmo) (.ref qmz) (.ref qmR) (.ref qmv) (.ref qmk) (.ref qma) (.ref qmt) (.int (nI kZ)) (.ref qmr) tA qmB qmO qmK iEn iTk (ov uP) (ov uU) (.int (nI kAt)) (.int iTo) (.int iFr) (.long JFi) (.int iFa) (.ref qm3) (.int iSt) iLv iWs (ovL wL) (.ref qmu) (.ref qmy) (.ref qmb) (.ref qms) (.int iOm) rB k_4 (by first | omega | (simp only [nb_sr, np_sr, nb_wr, np_wr, nb_rd, np_rd, nb_ch, np_ch, nb_zr, np_zr, nb_za, np_za, nb_ey, np_ey, nb_hf, np_hf, nb_dd, np_dd, nb_so, np_so, nb_skn, np_skn, nb_swh, np_swh, nb_sgn, np_sgn, nb_ssd, np_ssd, nb_sgo, np_sgo, nb_sag, np_sag]; omega))) L_X6_248 (preRV (q := (RX6, TX6, 35)) hN hP (trueIx 0 [true, false, true, true, true, true, true, true, true, true, true]) (sel_fm rfl rfl) 0 5 rfl rfl) rfl ⟨Nat.le_of_ble_eq_true rfl, Nat.le_of_ble_eq_true rfl⟩ hl.1 (Nat.le_of_ble_eq_true rfl) (g_182 (v := 248) bX6_keeping rfl) ⟨Nat.le_of_ble_eq_true rfl, Nat.le_of_ble_eq_true rfl⟩) (fun r_14 h_15 => ?_)
      rcases h_15 with ⟨rfl, h_16⟩ | ⟨rfl, h_16⟩
      · refine lv_if_ne (tgt := 52) hx hb dX6_keeping_39 (by decide +kernel) (fun _ => ?_) (fun h9 => absurd h9 (by decide +kernel))
        refine lv_aload_n hx hb (g_42 bX6_keeping rfl) rfl (lv_at hl 0 rfl) ?_
        refine lv_bipush (v := (-5)) hx hb dX6_keeping_53 (by decide +kernel) ?_
        refine cViQ (As := [.int (-5)]) (rest := []) (b := qm) (q := (RX6, TX6, 35)) ⟨hx, hb, hml, hown, hts⟩ (c_X6_refuse5 l G cy (s.heap).size qm (.ref qmh) (.ref qmo) (.ref qmz) (.ref qmR) (.ref qmv) (.ref qmk) (.ref qma) (.ref qmt) (.int (nI kZ)) qmr tA qmB qmO qmK iEn iTk (ov uP) (ov uU) (.int (nI kAt)) (.int iTo) (.int iFr) (.long JFi) (.int iFa) (.ref qm3) (.int iSt) iLv iWs (ovL wL) (.ref qmu) (.ref qmy) (.ref qmb) (.ref qms) (.int iOm) fMr) L_X6_91 hN hP hD hS hA [0, 1] [false, false, true, true, true, true, true, true, true, true, true, true, true, true, true, true, true, true, true, true, true, true, true, true, true, true, true, true, true] rfl (by decide +kernel) rfl 0 5 rfl rfl rfl ⟨Nat.le_of_ble_eq_true rfl, Nat.le_of_ble_eq_true rfl⟩ hl.1 (Nat.le_of_ble_eq_true rfl) (g_182 (v := 91) bX6_keeping rfl) ⟨Nat.le_of_ble_eq_true rfl, Nat.le_of_ble_eq_true rfl⟩ (fun r_18 u_20 H locs h_19 => ?_)
        clear hP hD hS
        intro hP hD hS
        obtain ⟨fX_21, hu9, h_19⟩ := h_19
        have hPD := pd_eqQ (([_, _, _, _, _, _, _, _, _, _, _, _, _, _, _, _, _, _, _, _, _, _, _, _, _, _, _, _, zzI cy qmr 8 fX_21] : va_W) ++ (oM cy uU ++ oL cy wL)) hP hD hu9 rfl
        clear hP hD hu9
        obtain ⟨hP, hD⟩ := hPD
        subst h_19
        refine lv_ldcw hx hb hown (hts _ m_t1290) (g_19 (v := 311) bX6_keeping rfl) ?_
        refine lv_isub hx hb (g_100 bX6_keeping rfl) ?_
        refine lv_seti (v := (-1000005)) (by decide +kernel) ?_
        refine W.widen (k := 200) (n := 3552) (Nat.le_of_ble_eq_true rfl) (Nat.le_of_ble_eq_true rfl) ?_
        exact endWt [[false, false, false, false, false, false, false, false, false, false, false, false, false, false, false, false, false, false, false, false, false, false, false, false, false, false, false, true, true], [true, true, true, true, true, true, true, true, true, true, true, true, true, true, true, true, true, true, true, true, true, true, true, true, true, true, true]] hx hb hr hlocks rfl hP hD rfl (by decide +kernel) hS ⟨(uU), (wL), iWs, fX_21, rfl, trivial⟩ (g_172 bX6_keeping rfl)
      · refine lv_if_ne (tgt := 52) hx hb dX6_keeping_39 (by decide +kernel) (fun h9 => absurd (by decide +kernel) h9) (fun _ => ?_)
        refine lv_aload_n hx hb (g_42 bX6_keeping rfl) rfl (lv_at hl 0 rfl) ?_
        refine lv_iload_n hx hb (g_27 bX6_keeping rfl) rfl (lv_at hl 1 rfl) ?_
        refine lv_iload_n hx hb (g_28 bX6_keeping rfl) rfl (lv_at hl 2 rfl) ?_
        replace hP := al_P hP
        replace hD := al_D hD
        refine cViPQ (As := [.int (nI k_4), .int (nI k_10)]) (rest := []) (b := qm) (q := (RX6, TX6, 35)) ⟨hx, hb, hml, hown, hts⟩ (c_X6_findWho l G cy (s.heap).size qm (.ref qmh) (.ref qmo) (.ref qmz) (.ref qmR) (.ref qmv) (.ref qmk) (.ref qma) (.ref qmt) (.int (nI kZ)) (.ref qmr) tA qmB qmO qmK iEn iTk (ov uP) uU (.int (nI kAt)) (.int iTo) (.int iFr) (.long JFi) (.int iFa) (.ref qm3) (.int iSt) iLv iWs (ovL wL) (.ref qmu) (.ref qmy) (.ref qmb) (.ref qms) (.int iOm) rB rO rK k_4 k_10 (by first | omega | (simp only [nb_sr, np_sr, nb_wr, np_wr, nb_rd, np_rd, nb_ch, np_ch, nb_zr, np_zr, nb_za, np_za, nb_ey, np_ey, nb_hf, np_hf, nb_dd, np_dd, nb_so, np_so, nb_skn, np_skn, nb_swh, np_swh, nb_sgn, np_sgn, nb_ssd, np_ssd, nb_sgo, np_sgo, nb_sag, np_sag]; omega)) (by first | omega | (simp only [nb_sr, np_sr, nb_wr, np_wr, nb_rd, np_rd, nb_ch, np_ch, nb_zr, np_zr, nb_za, np_za, nb_ey, np_ey, nb_hf, np_hf, nb_dd, np_dd, nb_so, np_so, nb_skn, np_skn, nb_swh, np_swh, nb_sgn, np_sgn, nb_ssd, np_ssd, nb_sgo, np_sgo, nb_sag, np_sag]; omega)) hB hPp hTI) L_X6_315 hN hP hD hS hA (trueIx 0 [true, false, true, true, true, true, true, true, true, true, true, true, true, true, true, true, true, true, true, true, true, true, true, true, true, true, true, true, true]) [false, true, false, false, false, false, false, false, false, false, false, false, false, false, false, false, false, false, false, false, false, false, false, false, false, false, false, false, false] (sel_eq rfl rfl) (by decide +kernel) rfl 0 5 rfl rfl rfl ⟨Nat.le_of_ble_eq_true rfl, Nat.le_of_ble_eq_true rfl⟩ hl.1 (Nat.le_of_ble_eq_true rfl) (g_182 (v := 315) bX6_keeping rfl) ⟨Nat.le_of_ble_eq_true rfl, Nat.le_of_ble_eq_true rfl⟩ (fun r_23 u_25 H locs h_24 => ?_)
        clear hP hD hS
        intro hP hD hS
        obtain ⟨uN_26, iNw_27, rfl, h_24⟩ := h_24
        replace hP := as1P hP
        replace hD := as1D hD
        have hPD := pd_as (([_, zzO qm 5 (.ref qmh :: .ref qmo :: .ref qmz :: .ref qmR :: .ref qmv :: .ref qmk :: .ref qma :: .ref qmt :: .int (nI kZ) :: .ref qmr :: .int (nI (T_nb tA)) :: .ref qmB :: .int (nI (T_np tA)) :: .ref qmO :: .ref qmK :: .int iEn :: .int iTk :: .int (T_sd tA) :: ov uP :: ov uN_26 :: .int (nI kAt) :: .int iTo :: .int iFr :: .long JFi :: .int iFa :: .ref qm3 :: .int iSt :: .int iLv :: .int iNw_27 :: ovL wL :: .ref qmu :: .ref qmy :: .ref qmb :: .ref qms :: .int iOm :: []), _, _, _, _, _, _, _, _, _, _, _, _, _, _, _, _, _, _, _, _, _, _, _, _, _, _, _] : va_W) ++ (oM cy uN_26 ++ oL cy wL)) hP hD rfl
        clear hP hD
        obtain ⟨hP, hD⟩ := hPD
        refine W.widen (k := 50) (n := 888) (Nat.le_of_ble_eq_true rfl) (Nat.le_of_ble_eq_true rfl) ?_
        refine lv_iconst (v := (-1)) hx hb (g_2 bX6_keeping rfl) (by decide +kernel) ?_
        refine lv_icmp_ne (tgt := 63) hx hb dX6_keeping_49 (by decide +kernel) (fun c_28 => ?_) (fun c_28 => ?_)
        · refine lv_aload_n hx hb (g_42 bX6_keeping rfl) rfl (lv_at hl 0 rfl) ?_
          refine va_get (D := G) (ci := 5) (v := ovL wL) (C := RX6) (T := TX6) (N := 35) hx hb hts iX_X6 hown hK hP 1 rfl rfl 29 (by decide +kernel) (hts _ m_t879) (fun _ h9 => h9) rfl (g_180 (v := 320) bX6_keeping rfl) ?_
          rcases ul_or wL with eL_43 | ⟨qL_29, qLB_30, qLO_31, qLK_32, rLB_33, rLO_34, rLK_35, tL_36, xL_37, iEnL_38, iTkL_39, iLvL_40, iWsL_41, uW_42, eL_43⟩
          · rw [eL_43] at hP hD
            replace hP := kl0P hP
            replace hD := kl0D hD
            have hPD := pd_as (([_, zzO qm 5 (.ref qmh :: .ref qmo :: .ref qmz :: .ref qmR :: .ref qmv :: .ref qmk :: .ref qma :: .ref qmt :: .int (nI kZ) :: .ref qmr :: .int (nI (T_nb tA)) :: .ref qmB :: .int (nI (T_np tA)) :: .ref qmO :: .ref qmK :: .int iEn :: .int iTk :: .int (T_sd tA) :: ov uP :: ov uN_26 :: .int (nI kAt) :: .int iTo :: .int iFr :: .long JFi :: .int iFa :: .ref qm3 :: .int iSt :: .int iLv :: .int iNw_27 :: .null :: .ref qmu :: .ref qmy :: .ref qmb :: .ref qms :: .int iOm :: []), _, _, _, _, _, _, _, _, _, _, _, _, _, _, _, _, _, _, _, _, _, _, _, _, _, _, _] : va_W) ++ oM cy uN_26) hP hD rfl
            clear hP hD
            obtain ⟨hP, hD⟩ := hPD
            refine lv_setv (v := .null) (by rw [eL_43]; rfl) ?_
            refine lv_ifnonnullN hx hb dX6_keeping_67 ?_
            refine lv_aload_n hx hb (g_42 bX6_keeping rfl) rfl (lv_at hl 0 rfl) ?_
            refine va_new (ci := 5) (fs := (.null :: .null :: .null :: .null :: .null :: .null :: .null :: .null :: .int 0 :: .null :: .int 0 :: .null :: .int 0 :: .null :: .null :: .int 0 :: .int 0 :: .int 0 :: .null :: .null :: .int 0 :: .int 0 :: .int 0 :: .long 0 :: .int 0 :: .null :: .int 0 :: .int 0 :: .int 0 :: .null :: .null :: .null :: .null :: .null :: .int 0 :: [])) (C := RX6) (T := TX6) (N := 35) hx hb hts iX_X6 tyX6 tyX6_ok hown (hts _ m_t848) (hts _ m_t839) (hts _ m_t6) hK hP hD hS hA rfl df_X6 (Nat.le_of_ble_eq_true rfl) (Nat.le_of_ble_eq_true rfl) (g_187 (v := 8) bX6_keeping rfl) (fun q_44 H => ?_)
            clear hP hD hS
            intro hP hD hS
            replace hP := va_P.swap hP
            replace hD := va_D.swap hD
            have hPD := pd_as (([_, _, _, _, _, _, _, _, _, _, _, _, _, _, _, _, _, _, _, _, _, _, _, _, _, _, _, _, _, zzO q_44 5 (.null :: .null :: .null :: .null :: .null :: .null :: .null :: .null :: .int 0 :: .null :: .int 0 :: .null :: .int 0 :: .null :: .null :: .int 0 :: .int 0 :: .int 0 :: .null :: .null :: .int 0 :: .int 0 :: .int 0 :: .long 0 :: .int 0 :: .null :: .int 0 :: .int 0 :: .int 0 :: .null :: .null :: .null :: .null :: .null :: .int 0 :: [])] : va_W) ++ oM cy uN_26) hP hD rfl
            clear hP hD
            obtain ⟨hP, hD⟩ := hPD
            refine W.widen (k := 51) (n := 923) (Nat.le_of_ble_eq_true rfl) (Nat.le_of_ble_eq_true rfl) ?_
            refine lv_dup hx hb (g_89 bX6_keeping rfl) rfl ?_
            refine cIvQ (As := []) (rest := [.ref q_44, .ref qm]) (b := q_44) ⟨hx, hb, hml, hown, hts⟩ (c_X6_initL l G cy (H).size q_44) L_X6_291 hN hP hD hS hA [29] [true, true, true, true, true, true, true, true, true, true, true, true, true, true, true, true, true, true, true, true, true, true, true, true, true, true, true, true, true, false] rfl (by decide +kernel) rfl rfl ⟨Nat.le_of_ble_eq_true rfl, Nat.le_of_ble_eq_true rfl⟩ hl.1 (Nat.le_of_ble_eq_true rfl) (g_183 (v := 291) bX6_keeping rfl) ⟨Nat.le_of_ble_eq_true rfl, Nat.le_of_ble_eq_true rfl⟩ (fun u_47 H locs h_46 => ?_)
            clear hP hD hS
            intro hP hD hS
            obtain ⟨qmB_48, qmO_49, qmK_50, rB_51, rO_52, rK_53, xF_54, hu9⟩ := h_46
            have hPD := pd_eqQ (((_ :: _ :: _ :: _ :: _ :: _ :: _ :: _ :: _ :: _ :: _ :: _ :: _ :: _ :: _ :: _ :: _ :: _ :: _ :: _ :: _ :: _ :: _ :: _ :: _ :: _ :: _ :: _ :: _ :: zzO q_44 5 (xF_54 0 :: xF_54 1 :: xF_54 2 :: xF_54 3 :: xF_54 4 :: xF_54 5 :: xF_54 6 :: xF_54 7 :: xF_54 8 :: xF_54 9 :: .int (nI (T_nb T0)) :: .ref qmB_48 :: .int (nI (T_np T0)) :: .ref qmO_49 :: .ref qmK_50 :: .int 0 :: .int 0 :: .int (T_sd T0) :: xF_54 18 :: .null :: xF_54 20 :: xF_54 21 :: xF_54 22 :: xF_54 23 :: xF_54 24 :: xF_54 25 :: xF_54 26 :: .int 0 :: .int 0 :: xF_54 29 :: xF_54 30 :: xF_54 31 :: xF_54 32 :: xF_54 33 :: xF_54 34 :: []) :: zzG cy 3 qmB_48 rB_51 :: zzI cy (rB_51 0) 4 (bkR T0 0) :: zzI cy (rB_51 1) 4 (bkR T0 1) :: zzI cy (rB_51 2) 4 (bkR T0 2) :: zzI cy (rB_51 3) 4 (bkR T0 3) :: zzI cy (rB_51 4) 4 (bkR T0 4) :: zzI cy (rB_51 5) 4 (bkR T0 5) :: zzI cy (rB_51 6) 4 (bkR T0 6) :: zzI cy (rB_51 7) 4 (bkR T0 7) :: zzG cy 3 qmO_49 rO_52 :: zzI cy (rO_52 0) 5 (onR T0 0) :: zzI cy (rO_52 1) 5 (onR T0 1) :: zzI cy (rO_52 2) 5 (onR T0 2) :: zzI cy (rO_52 3) 5 (onR T0 3) :: zzI cy (rO_52 4) 5 (onR T0 4) :: zzI cy (rO_52 5) 5 (onR T0 5) :: zzI cy (rO_52 6) 5 (onR T0 6) :: zzI cy (rO_52 7) 5 (onR T0 7) :: zzG cy 3 qmK_50 rK_53 :: zzI cy (rK_53 0) 8 (T_kn T0 0) :: zzI cy (rK_53 1) 8 (T_kn T0 1) :: zzI cy (rK_53 2) 8 (T_kn T0 2) :: zzI cy (rK_53 3) 8 (T_kn T0 3) :: zzI cy (rK_53 4) 8 (T_kn T0 4) :: zzI cy (rK_53 5) 8 (T_kn T0 5) :: zzI cy (rK_53 6) 8 (T_kn T0 6) :: zzI cy (rK_53 7) 8 (T_kn T0 7) :: []) : va_W) ++ oM cy uN_26) hP hD hu9 rfl
            clear hP hD hu9
            obtain ⟨hP, hD⟩ := hPD
            refine W.widen (k := 100) (n := 1776) (Nat.le_of_ble_eq_true rfl) (Nat.le_of_ble_eq_true rfl) ?_
            refine va_put (D := G) (ci := 5) (v := .ref q_44) (ty := (.object "EachBookOnceModel")) (C := RX6) (T := TX6) (N := 35) hx hb hts iX_X6 tyX6 tyX6_ok nmX6 hown hK hP hD hS 1 rfl rfl 29 (by decide +kernel) (hts _ m_t879) (fun _ h9 => h9) rfl (by decide +kernel) rfl rfl (Nat.le_of_ble_eq_true rfl) (g_181 (v := 320) bX6_keeping rfl) (fun H locs => ?_)
            clear hP hD hS
            intro hP hD hS
            have hPD := pd_as (((_ :: zzO qm 5 (.ref qmh :: .ref qmo :: .ref qmz :: .ref qmR :: .ref qmv :: .ref qmk :: .ref qma :: .ref qmt :: .int (nI kZ) :: .ref qmr :: .int (nI (T_nb tA)) :: .ref qmB :: .int (nI (T_np tA)) :: .ref qmO :: .ref qmK :: .int iEn :: .int iTk :: .int (T_sd tA) :: ov uP :: ov uN_26 :: .int (nI kAt) :: .int iTo :: .int iFr :: .long JFi :: .int iFa :: .ref qm3 :: .int iSt :: .int iLv :: .int iNw_27 :: .ref q_44 :: .ref qmu :: .ref qmy :: .ref qmb :: .ref qms :: .int iOm :: []) :: _ :: _ :: _ :: _ :: _ :: _ :: _ :: _ :: _ :: _ :: _ :: _ :: _ :: _ :: _ :: _ :: _ :: _ :: _ :: _ :: _ :: _ :: _ :: _ :: _ :: _ :: _ :: _ :: _ :: _ :: _ :: _ :: _ :: _ :: _ :: _ :: _ :: _ :: _ :: _ :: _ :: _ :: _ :: _ :: _ :: _ :: _ :: _ :: _ :: _ :: _ :: _ :: _ :: _ :: _ :: []) : va_W) ++ oM cy uN_26) hP hD rfl
            clear hP hD
            obtain ⟨hP, hD⟩ := hPD
            refine lv_aload_n hx hb (g_42 bX6_keeping rfl) rfl (lv_at hl 0 rfl) ?_
            refine va_get (D := G) (ci := 5) (v := .ref q_44) (C := RX6) (T := TX6) (N := 35) hx hb hts iX_X6 hown hK hP 1 rfl rfl 29 (by decide +kernel) (hts _ m_t879) (fun _ h9 => h9) rfl (g_180 (v := 320) bX6_keeping rfl) ?_
            refine lv_aload_n hx hb (g_42 bX6_keeping rfl) rfl (lv_at hl 0 rfl) ?_
            refine cVvQ (As := [.ref qm]) (rest := []) (b := q_44) (q := (RX6, TX6, 35)) ⟨hx, hb, hml, hown, hts⟩ (c_X6_takeFrom l G cy (H).size q_44 (xF_54 0) (xF_54 1) (xF_54 2) (xF_54 3) (xF_54 4) (xF_54 5) (xF_54 6) (xF_54 7) (xF_54 8) (xF_54 9) T0 qmB_48 qmO_49 qmK_50 0 0 (xF_54 18) .null (xF_54 20) (xF_54 21) (xF_54 22) (xF_54 23) (xF_54 24) (xF_54 25) (xF_54 26) 0 0 (xF_54 29) (xF_54 30) (xF_54 31) (xF_54 32) (xF_54 33) (xF_54 34) rB_51 rO_52 rK_53 qm (.ref qmh) (.ref qmo) (.ref qmz) (.ref qmR) (.ref qmv) (.ref qmk) (.ref qma) (.ref qmt) (.int (nI kZ)) (.ref qmr) tA qmB qmO qmK iEn iTk (ov uP) (ov uN_26) (.int (nI kAt)) (.int iTo) (.int iFr) (.long JFi) (.int iFa) (.ref qm3) (.int iSt) iLv iNw_27 (.ref q_44) (.ref qmu) (.ref qmy) (.ref qmb) (.ref qms) (.int iOm) rB rO rK) L_X6_225 hN hP hD hS hA (trueIxs [(false :: false :: false :: false :: false :: false :: false :: false :: false :: false :: false :: false :: false :: false :: false :: false :: false :: false :: false :: false :: false :: false :: false :: false :: false :: false :: false :: false :: false :: true :: true :: true :: true :: true :: true :: true :: true :: true :: true :: true :: true :: true :: true :: true :: true :: true :: true :: true :: true :: true :: true :: true :: true :: true :: true :: true :: true :: []), [false, true, true, true, true, true, true, true, true, true, true, true, true, true, true, true, true, true, true, true, true, true, true, true, true, true, true, true, true]]) (true :: false :: false :: false :: false :: false :: false :: false :: false :: false :: false :: false :: false :: false :: false :: false :: false :: false :: false :: false :: false :: false :: false :: false :: false :: false :: false :: false :: false :: false :: false :: false :: false :: false :: false :: false :: false :: false :: false :: false :: false :: false :: false :: false :: false :: false :: false :: false :: false :: false :: false :: false :: false :: false :: false :: false :: false :: []) (sels_eq rfl rfl) (by decide +kernel) rfl 29 5 rfl rfl rfl ⟨Nat.le_of_ble_eq_true rfl, Nat.le_of_ble_eq_true rfl⟩ hl.1 (Nat.le_of_ble_eq_true rfl) (g_182 (v := 225) bX6_keeping rfl) ⟨Nat.le_of_ble_eq_true rfl, Nat.le_of_ble_eq_true rfl⟩ (fun u_57 H locs h_56 => ?_)
            clear hP hD hS
            intro hP hD hS
            have hPD := pd_eqQ (((_ :: zzO q_44 5 (xF_54 0 :: xF_54 1 :: xF_54 2 :: xF_54 3 :: xF_54 4 :: xF_54 5 :: xF_54 6 :: xF_54 7 :: xF_54 8 :: xF_54 9 :: .int (nI (T_nb tA)) :: .ref qmB_48 :: .int (nI (T_np tA)) :: .ref qmO_49 :: .ref qmK_50 :: .int iEn :: .int iTk :: .int (T_sd tA) :: xF_54 18 :: .null :: xF_54 20 :: xF_54 21 :: xF_54 22 :: xF_54 23 :: xF_54 24 :: xF_54 25 :: xF_54 26 :: .int 0 :: .int 0 :: xF_54 29 :: xF_54 30 :: xF_54 31 :: xF_54 32 :: xF_54 33 :: xF_54 34 :: []) :: _ :: zzI cy (rB_51 0) 4 (bkR tA 0) :: zzI cy (rB_51 1) 4 (bkR tA 1) :: zzI cy (rB_51 2) 4 (bkR tA 2) :: zzI cy (rB_51 3) 4 (bkR tA 3) :: zzI cy (rB_51 4) 4 (bkR tA 4) :: zzI cy (rB_51 5) 4 (bkR tA 5) :: zzI cy (rB_51 6) 4 (bkR tA 6) :: zzI cy (rB_51 7) 4 (bkR tA 7) :: _ :: zzI cy (rO_52 0) 5 (onR tA 0) :: zzI cy (rO_52 1) 5 (onR tA 1) :: zzI cy (rO_52 2) 5 (onR tA 2) :: zzI cy (rO_52 3) 5 (onR tA 3) :: zzI cy (rO_52 4) 5 (onR tA 4) :: zzI cy (rO_52 5) 5 (onR tA 5) :: zzI cy (rO_52 6) 5 (onR tA 6) :: zzI cy (rO_52 7) 5 (onR tA 7) :: _ :: zzI cy (rK_53 0) 8 (T_kn tA 0) :: zzI cy (rK_53 1) 8 (T_kn tA 1) :: zzI cy (rK_53 2) 8 (T_kn tA 2) :: zzI cy (rK_53 3) 8 (T_kn tA 3) :: zzI cy (rK_53 4) 8 (T_kn tA 4) :: zzI cy (rK_53 5) 8 (T_kn tA 5) :: zzI cy (rK_53 6) 8 (T_kn tA 6) :: zzI cy (rK_53 7) 8 (T_kn tA 7) :: _ :: _ :: _ :: _ :: _ :: _ :: _ :: _ :: _ :: _ :: _ :: _ :: _ :: _ :: _ :: _ :: _ :: _ :: _ :: _ :: _ :: _ :: _ :: _ :: _ :: _ :: _ :: _ :: []) : va_W) ++ oM cy uN_26) hP hD h_56 rfl
            clear hP hD h_56
            obtain ⟨hP, hD⟩ := hPD
            refine lv_aload_n hx hb (g_42 bX6_keeping rfl) rfl (lv_at hl 0 rfl) ?_
            refine va_get (D := G) (ci := 5) (v := .ref q_44) (C := RX6) (T := TX6) (N := 35) hx hb hts iX_X6 hown hK hP 29 rfl rfl 29 (by decide +kernel) (hts _ m_t879) (fun _ h9 => h9) rfl (g_180 (v := 320) bX6_keeping rfl) ?_
            refine lv_iconst (v := (-1)) hx hb (g_2 bX6_keeping rfl) (by decide +kernel) ?_
            refine lv_iconst (v := 0) hx hb (g_3 bX6_keeping rfl) (by decide +kernel) ?_
            refine lv_iconst (v := 1) hx hb (g_4 bX6_keeping rfl) (by decide +kernel) ?_
            refine cViQ (As := [.int (-1), .int 0, .int 1]) (rest := []) (b := q_44) (q := (RX6, TX6, 35)) ⟨hx, hb, hml, hown, hts⟩ (c_X6_goes01 l G cy (H).size q_44 (xF_54 0) (xF_54 1) (xF_54 2) (xF_54 3) (xF_54 4) (xF_54 5) (xF_54 6) (xF_54 7) (xF_54 8) (xF_54 9) tA qmB_48 qmO_49 qmK_50 iEn iTk (xF_54 18) .null (xF_54 20) (xF_54 21) (xF_54 22) (xF_54 23) (xF_54 24) (xF_54 25) (xF_54 26) 0 0 (xF_54 29) (xF_54 30) (xF_54 31) (xF_54 32) (xF_54 33) (xF_54 34) rB_51 rO_52 rK_53 hB hPp hTI) L_X6_295 hN hP hD hS hA (trueIx 0 [false, true, true, true, true, true, true, true, true, true, true, true, true, true, true, true, true, true, true, true, true, true, true, true, true, true, true, true, true]) (true :: false :: false :: false :: false :: false :: false :: false :: false :: false :: false :: false :: false :: false :: false :: false :: false :: false :: false :: false :: false :: false :: false :: false :: false :: false :: false :: false :: false :: true :: true :: true :: true :: true :: true :: true :: true :: true :: true :: true :: true :: true :: true :: true :: true :: true :: true :: true :: true :: true :: true :: true :: true :: true :: true :: true :: true :: []) (sel_eq rfl rfl) (by decide +kernel) rfl 1 5 rfl rfl rfl ⟨Nat.le_of_ble_eq_true rfl, Nat.le_of_ble_eq_true rfl⟩ hl.1 (Nat.le_of_ble_eq_true rfl) (g_182 (v := 295) bX6_keeping rfl) ⟨Nat.le_of_ble_eq_true rfl, Nat.le_of_ble_eq_true rfl⟩ (fun r_58 u_60 H locs h_59 => ?_)
            clear hP hD hS
            intro hP hD hS
            obtain ⟨tX_61, iX_62, iY_63, hu9, h_64, h_59⟩ := h_59
            have hPD := pd_eqQ (((_ :: _ :: _ :: _ :: _ :: _ :: _ :: _ :: _ :: _ :: _ :: _ :: _ :: _ :: _ :: _ :: _ :: _ :: _ :: _ :: _ :: _ :: _ :: _ :: _ :: _ :: _ :: _ :: _ :: zzO q_44 5 (xF_54 0 :: xF_54 1 :: xF_54 2 :: xF_54 3 :: xF_54 4 :: xF_54 5 :: xF_54 6 :: xF_54 7 :: xF_54 8 :: xF_54 9 :: .int (nI (T_nb tX_61)) :: .ref qmB_48 :: .int (nI (T_np tX_61)) :: .ref qmO_49 :: .ref qmK_50 :: .int iX_62 :: .int iTk :: .int (T_sd tX_61) :: xF_54 18 :: .null :: xF_54 20 :: xF_54 21 :: xF_54 22 :: xF_54 23 :: xF_54 24 :: xF_54 25 :: xF_54 26 :: .int iY_63 :: .int 0 :: xF_54 29 :: xF_54 30 :: xF_54 31 :: xF_54 32 :: xF_54 33 :: xF_54 34 :: []) :: _ :: zzI cy (rB_51 0) 4 (bkR tX_61 0) :: zzI cy (rB_51 1) 4 (bkR tX_61 1) :: zzI cy (rB_51 2) 4 (bkR tX_61 2) :: zzI cy (rB_51 3) 4 (bkR tX_61 3) :: zzI cy (rB_51 4) 4 (bkR tX_61 4) :: zzI cy (rB_51 5) 4 (bkR tX_61 5) :: zzI cy (rB_51 6) 4 (bkR tX_61 6) :: zzI cy (rB_51 7) 4 (bkR tX_61 7) :: _ :: zzI cy (rO_52 0) 5 (onR tX_61 0) :: zzI cy (rO_52 1) 5 (onR tX_61 1) :: zzI cy (rO_52 2) 5 (onR tX_61 2) :: zzI cy (rO_52 3) 5 (onR tX_61 3) :: zzI cy (rO_52 4) 5 (onR tX_61 4) :: zzI cy (rO_52 5) 5 (onR tX_61 5) :: zzI cy (rO_52 6) 5 (onR tX_61 6) :: zzI cy (rO_52 7) 5 (onR tX_61 7) :: _ :: zzI cy (rK_53 0) 8 (T_kn tX_61 0) :: zzI cy (rK_53 1) 8 (T_kn tX_61 1) :: zzI cy (rK_53 2) 8 (T_kn tX_61 2) :: zzI cy (rK_53 3) 8 (T_kn tX_61 3) :: zzI cy (rK_53 4) 8 (T_kn tX_61 4) :: zzI cy (rK_53 5) 8 (T_kn tX_61 5) :: zzI cy (rK_53 6) 8 (T_kn tX_61 6) :: zzI cy (rK_53 7) 8 (T_kn tX_61 7) :: []) : va_W) ++ oM cy uN_26) hP hD hu9 rfl
            clear hP hD hu9
            obtain ⟨hP, hD⟩ := hPD
            refine lv_istore_n (lv' := [(3, .int r_58), (0, .ref qm), (1, .int (nI k_4)), (2, .int (nI k_10))]) hx hb (g_62 bX6_keeping rfl) rfl hl (by decide +kernel) rfl (fun ls => ?_)
            clear hl
            intro hl
            refine lv_aload_n hx hb (g_42 bX6_keeping rfl) rfl (lv_at hl 1 rfl) ?_
            refine va_get (D := G) (ci := 5) (v := .ref q_44) (C := RX6) (T := TX6) (N := 35) hx hb hts iX_X6 hown hK hP 1 rfl rfl 29 (by decide +kernel) (hts _ m_t879) (fun _ h9 => h9) rfl (g_180 (v := 320) bX6_keeping rfl) ?_
            refine lv_iload_n hx hb (g_27 bX6_keeping rfl) rfl (lv_at hl 2 rfl) ?_
            refine lv_iload_n hx hb (g_28 bX6_keeping rfl) rfl (lv_at hl 3 rfl) ?_
            refine lv_iconst (v := 1) hx hb (g_4 bX6_keeping rfl) (by decide +kernel) ?_
            refine lv_isub hx hb (g_100 bX6_keeping rfl) ?_
            refine lv_seti (v := nI (k_10 - 1)) (nI_sub1 (by omega)) ?_
            refine cViQ (As := [.int (nI k_4), .int (nI (k_10 - 1))]) (rest := []) (b := q_44) (q := (RX6, TX6, 35)) ⟨hx, hb, hml, hown, hts⟩ (c_X6_findWho l G cy (H).size q_44 (xF_54 0) (xF_54 1) (xF_54 2) (xF_54 3) (xF_54 4) (xF_54 5) (xF_54 6) (xF_54 7) (xF_54 8) (xF_54 9) tX_61 qmB_48 qmO_49 qmK_50 iX_62 iTk (xF_54 18) none (xF_54 20) (xF_54 21) (xF_54 22) (xF_54 23) (xF_54 24) (xF_54 25) (xF_54 26) iY_63 0 (xF_54 29) (xF_54 30) (xF_54 31) (xF_54 32) (xF_54 33) (xF_54 34) rB_51 rO_52 rK_53 k_4 (k_10 - 1) (by first | omega | (simp only [nb_sr, np_sr, nb_wr, np_wr, nb_rd, np_rd, nb_ch, np_ch, nb_zr, np_zr, nb_za, np_za, nb_ey, np_ey, nb_hf, np_hf, nb_dd, np_dd, nb_so, np_so, nb_skn, np_skn, nb_swh, np_swh, nb_sgn, np_sgn, nb_ssd, np_ssd, nb_sgo, np_sgo, nb_sag, np_sag]; omega)) (by first | omega | (simp only [nb_sr, np_sr, nb_wr, np_wr, nb_rd, np_rd, nb_ch, np_ch, nb_zr, np_zr, nb_za, np_za, nb_ey, np_ey, nb_hf, np_hf, nb_dd, np_dd, nb_so, np_so, nb_skn, np_skn, nb_swh, np_swh, nb_sgn, np_sgn, nb_ssd, np_ssd, nb_sgo, np_sgo, nb_sag, np_sag]; omega)) (by first | omega | (simp only [nb_sr, np_sr, nb_wr, np_wr, nb_rd, np_rd, nb_ch, np_ch, nb_zr, np_zr, nb_za, np_za, nb_ey, np_ey, nb_hf, np_hf, nb_dd, np_dd, nb_so, np_so, nb_skn, np_skn, nb_swh, np_swh, nb_sgn, np_sgn, nb_ssd, np_ssd, nb_sgo, np_sgo, nb_sag, np_sag]; omega)) (by first | omega | (simp only [nb_sr, np_sr, nb_wr, np_wr, nb_rd, np_rd, nb_ch, np_ch, nb_zr, np_zr, nb_za, np_za, nb_ey, np_ey, nb_hf, np_hf, nb_dd, np_dd, nb_so, np_so, nb_skn, np_skn, nb_swh, np_swh, nb_sgn, np_sgn, nb_ssd, np_ssd, nb_sgo, np_sgo, nb_sag, np_sag]; omega)) h_64.1) L_X6_315 hN hP hD hS hA (trueIx 0 (false :: false :: false :: false :: false :: false :: false :: false :: false :: false :: false :: false :: false :: false :: false :: false :: false :: false :: false :: false :: false :: false :: false :: false :: false :: false :: false :: false :: false :: true :: true :: true :: true :: true :: true :: true :: true :: true :: true :: true :: true :: true :: true :: true :: true :: true :: true :: true :: true :: true :: true :: true :: true :: true :: true :: true :: true :: [])) (true :: true :: true :: true :: true :: true :: true :: true :: true :: true :: true :: true :: true :: true :: true :: true :: true :: true :: true :: true :: true :: true :: true :: true :: true :: true :: true :: true :: true :: false :: false :: false :: false :: false :: false :: false :: false :: false :: false :: false :: false :: false :: false :: false :: false :: false :: false :: false :: false :: false :: false :: false :: false :: false :: false :: false :: false :: []) (sel_eq rfl rfl) (by decide +kernel) rfl 29 5 rfl rfl rfl ⟨Nat.le_of_ble_eq_true rfl, Nat.le_of_ble_eq_true rfl⟩ hl.1 (Nat.le_of_ble_eq_true rfl) (g_182 (v := 315) bX6_keeping rfl) ⟨Nat.le_of_ble_eq_true rfl, Nat.le_of_ble_eq_true rfl⟩ (fun r_65 u_67 H locs h_66 => ?_)
            clear hP hD hS
            intro hP hD hS
            obtain ⟨uN_68, iNw_69, rfl, h_66⟩ := h_66
            replace hP := as1P hP
            replace hD := as1D hD
            have hPD := pd_as (((_ :: _ :: _ :: _ :: _ :: _ :: _ :: _ :: _ :: _ :: _ :: _ :: _ :: _ :: _ :: _ :: _ :: _ :: _ :: _ :: _ :: _ :: _ :: _ :: _ :: _ :: _ :: _ :: _ :: zzO q_44 5 (xF_54 0 :: xF_54 1 :: xF_54 2 :: xF_54 3 :: xF_54 4 :: xF_54 5 :: xF_54 6 :: xF_54 7 :: xF_54 8 :: xF_54 9 :: .int (nI (T_nb tX_61)) :: .ref qmB_48 :: .int (nI (T_np tX_61)) :: .ref qmO_49 :: .ref qmK_50 :: .int iX_62 :: .int iTk :: .int (T_sd tX_61) :: xF_54 18 :: ov uN_68 :: xF_54 20 :: xF_54 21 :: xF_54 22 :: xF_54 23 :: xF_54 24 :: xF_54 25 :: xF_54 26 :: .int iY_63 :: .int iNw_69 :: xF_54 29 :: xF_54 30 :: xF_54 31 :: xF_54 32 :: xF_54 33 :: xF_54 34 :: []) :: _ :: _ :: _ :: _ :: _ :: _ :: _ :: _ :: _ :: _ :: _ :: _ :: _ :: _ :: _ :: _ :: _ :: _ :: _ :: _ :: _ :: _ :: _ :: _ :: _ :: _ :: _ :: []) : va_W) ++ (oM cy uN_68 ++ oM cy uN_26)) hP hD rfl
            clear hP hD
            obtain ⟨hP, hD⟩ := hPD
            refine W.widen (k := 150) (n := 2664) (Nat.le_of_ble_eq_true rfl) (Nat.le_of_ble_eq_true rfl) ?_
            refine lv_iconst (v := (-1)) hx hb (g_2 bX6_keeping rfl) (by decide +kernel) ?_
            refine lv_icmp_ne (tgt := 126) hx hb dX6_keeping_112 (by decide +kernel) (fun c_70 => ?_) (fun c_70 => ?_)
            · refine lv_iload_n hx hb (g_29 bX6_keeping rfl) rfl (lv_at hl 0 rfl) ?_
              refine lv_aload_n hx hb (g_42 bX6_keeping rfl) rfl (lv_at hl 1 rfl) ?_
              refine va_get (D := G) (ci := 5) (v := .ref q_44) (C := RX6) (T := TX6) (N := 35) hx hb hts iX_X6 hown hK hP 1 rfl rfl 29 (by decide +kernel) (hts _ m_t879) (fun _ h9 => h9) rfl (g_180 (v := 320) bX6_keeping rfl) ?_
              refine va_get (D := G) (ci := 5) (v := .int iNw_69) (C := RX6) (T := TX6) (N := 35) hx hb hts iX_X6 hown hK hP 29 rfl rfl 28 (by decide +kernel) (hts _ m_t878) (fun _ h9 => h9) rfl (g_180 (v := 312) bX6_keeping rfl) ?_
              refine lv_iadd hx hb (g_96 bX6_keeping rfl) ?_
              refine lv_aload_n hx hb (g_42 bX6_keeping rfl) rfl (lv_at hl 1 rfl) ?_
              refine va_get (D := G) (ci := 5) (v := .int iNw_27) (C := RX6) (T := TX6) (N := 35) hx hb hts iX_X6 hown hK hP 1 rfl rfl 28 (by decide +kernel) (hts _ m_t878) (fun _ h9 => h9) rfl (g_180 (v := 312) bX6_keeping rfl) ?_
              refine lv_isub hx hb (g_100 bX6_keeping rfl) ?_
              have hPD := pt_as (zzI cy qmr 8 fMr :: zzO qm 5 (.ref qmh :: .ref qmo :: .ref qmz :: .ref qmR :: .ref qmv :: .ref qmk :: .ref qma :: .ref qmt :: .int (nI kZ) :: .ref qmr :: .int (nI (T_nb tA)) :: .ref qmB :: .int (nI (T_np tA)) :: .ref qmO :: .ref qmK :: .int iEn :: .int iTk :: .int (T_sd tA) :: ov uP :: ov uN_26 :: .int (nI kAt) :: .int iTo :: .int iFr :: .long JFi :: .int iFa :: .ref qm3 :: .int iSt :: .int iLv :: .int iNw_27 :: .ref q_44 :: .ref qmu :: .ref qmy :: .ref qmb :: .ref qms :: .int iOm :: []) :: zzG cy 3 qmB rB :: zzI cy (rB 0) 4 (bkR tA 0) :: zzI cy (rB 1) 4 (bkR tA 1) :: zzI cy (rB 2) 4 (bkR tA 2) :: zzI cy (rB 3) 4 (bkR tA 3) :: zzI cy (rB 4) 4 (bkR tA 4) :: zzI cy (rB 5) 4 (bkR tA 5) :: zzI cy (rB 6) 4 (bkR tA 6) :: zzI cy (rB 7) 4 (bkR tA 7) :: zzG cy 3 qmO rO :: zzI cy (rO 0) 5 (onR tA 0) :: zzI cy (rO 1) 5 (onR tA 1) :: zzI cy (rO 2) 5 (onR tA 2) :: zzI cy (rO 3) 5 (onR tA 3) :: zzI cy (rO 4) 5 (onR tA 4) :: zzI cy (rO 5) 5 (onR tA 5) :: zzI cy (rO 6) 5 (onR tA 6) :: zzI cy (rO 7) 5 (onR tA 7) :: zzG cy 3 qmK rK :: zzI cy (rK 0) 8 (T_kn tA 0) :: zzI cy (rK 1) 8 (T_kn tA 1) :: zzI cy (rK 2) 8 (T_kn tA 2) :: zzI cy (rK 3) 8 (T_kn tA 3) :: zzI cy (rK 4) 8 (T_kn tA 4) :: zzI cy (rK 5) 8 (T_kn tA 5) :: zzI cy (rK 6) 8 (T_kn tA 6) :: zzI cy (rK 7) 8 (T_kn tA 7) :: zzO q_44 5 (xF_54 0 :: xF_54 1 :: xF_54 2 :: xF_54 3 :: xF_54 4 :: xF_54 5 :: xF_54 6 :: xF_54 7 :: xF_54 8 :: xF_54 9 :: .int (nI (T_nb tX_61)) :: .ref qmB_48 :: .int (nI (T_np tX_61)) :: .ref qmO_49 :: .ref qmK_50 :: .int iX_62 :: .int iTk :: .int (T_sd tX_61) :: xF_54 18 :: ov uN_68 :: xF_54 20 :: xF_54 21 :: xF_54 22 :: xF_54 23 :: xF_54 24 :: xF_54 25 :: xF_54 26 :: .int iY_63 :: .int iNw_69 :: xF_54 29 :: xF_54 30 :: xF_54 31 :: xF_54 32 :: xF_54 33 :: xF_54 34 :: []) :: zzG cy 3 qmB_48 rB_51 :: zzI cy (rB_51 0) 4 (bkR tX_61 0) :: zzI cy (rB_51 1) 4 (bkR tX_61 1) :: zzI cy (rB_51 2) 4 (bkR tX_61 2) :: zzI cy (rB_51 3) 4 (bkR tX_61 3) :: zzI cy (rB_51 4) 4 (bkR tX_61 4) :: zzI cy (rB_51 5) 4 (bkR tX_61 5) :: zzI cy (rB_51 6) 4 (bkR tX_61 6) :: zzI cy (rB_51 7) 4 (bkR tX_61 7) :: zzG cy 3 qmO_49 rO_52 :: zzI cy (rO_52 0) 5 (onR tX_61 0) :: zzI cy (rO_52 1) 5 (onR tX_61 1) :: zzI cy (rO_52 2) 5 (onR tX_61 2) :: zzI cy (rO_52 3) 5 (onR tX_61 3) :: zzI cy (rO_52 4) 5 (onR tX_61 4) :: zzI cy (rO_52 5) 5 (onR tX_61 5) :: zzI cy (rO_52 6) 5 (onR tX_61 6) :: zzI cy (rO_52 7) 5 (onR tX_61 7) :: zzG cy 3 qmK_50 rK_53 :: zzI cy (rK_53 0) 8 (T_kn tX_61 0) :: zzI cy (rK_53 1) 8 (T_kn tX_61 1) :: zzI cy (rK_53 2) 8 (T_kn tX_61 2) :: zzI cy (rK_53 3) 8 (T_kn tX_61 3) :: zzI cy (rK_53 4) 8 (T_kn tX_61 4) :: zzI cy (rK_53 5) 8 (T_kn tX_61 5) :: zzI cy (rK_53 6) 8 (T_kn tX_61 6) :: zzI cy (rK_53 7) 8 (T_kn tX_61 7) :: []) (0 :: 1 :: 2 :: 3 :: 4 :: 5 :: 6 :: 7 :: 8 :: 9 :: 10 :: 11 :: 12 :: 13 :: 14 :: 15 :: 16 :: 17 :: 18 :: 19 :: 20 :: 21 :: 22 :: 23 :: 24 :: 25 :: 26 :: 27 :: 28 :: 29 :: 30 :: 31 :: 32 :: 33 :: 34 :: 35 :: 36 :: 37 :: 38 :: 39 :: 40 :: 41 :: 42 :: 43 :: 44 :: 45 :: 46 :: 47 :: 48 :: 49 :: 50 :: 51 :: 52 :: 53 :: 54 :: 55 :: 56 :: []) hP hD (by decide +kernel) rfl
              clear hP hD
              obtain ⟨hP, hD⟩ := hPD
              have hPD := pd_as (([zzI cy qmr 8 fMr, zzO qm 5 (.ref qmh :: .ref qmo :: .ref qmz :: .ref qmR :: .ref qmv :: .ref qmk :: .ref qma :: .ref qmt :: .int (nI kZ) :: .ref qmr :: .int (nI (T_nb tA)) :: .ref qmB :: .int (nI (T_np tA)) :: .ref qmO :: .ref qmK :: .int iEn :: .int iTk :: .int (T_sd tA) :: ov uP :: ov uN_26 :: .int (nI kAt) :: .int iTo :: .int iFr :: .long JFi :: .int iFa :: .ref qm3 :: .int iSt :: .int iLv :: .int iNw_27 :: .ref q_44 :: .ref qmu :: .ref qmy :: .ref qmb :: .ref qms :: .int iOm :: []), zzG cy 3 qmB rB, zzI cy (rB 0) 4 (bkR tA 0), zzI cy (rB 1) 4 (bkR tA 1), zzI cy (rB 2) 4 (bkR tA 2), zzI cy (rB 3) 4 (bkR tA 3), zzI cy (rB 4) 4 (bkR tA 4), zzI cy (rB 5) 4 (bkR tA 5), zzI cy (rB 6) 4 (bkR tA 6), zzI cy (rB 7) 4 (bkR tA 7), zzG cy 3 qmO rO, zzI cy (rO 0) 5 (onR tA 0), zzI cy (rO 1) 5 (onR tA 1), zzI cy (rO 2) 5 (onR tA 2), zzI cy (rO 3) 5 (onR tA 3), zzI cy (rO 4) 5 (onR tA 4), zzI cy (rO 5) 5 (onR tA 5), zzI cy (rO 6) 5 (onR tA 6), zzI cy (rO 7) 5 (onR tA 7), zzG cy 3 qmK rK, zzI cy (rK 0) 8 (T_kn tA 0), zzI cy (rK 1) 8 (T_kn tA 1), zzI cy (rK 2) 8 (T_kn tA 2), zzI cy (rK 3) 8 (T_kn tA 3), zzI cy (rK 4) 8 (T_kn tA 4), zzI cy (rK 5) 8 (T_kn tA 5), zzI cy (rK 6) 8 (T_kn tA 6), zzI cy (rK 7) 8 (T_kn tA 7)] ++ mL cy q_44 qmB_48 qmO_49 qmK_50 rB_51 rO_52 rK_53 tX_61 xF_54 iX_62 iTk iY_63 iNw_69 uN_68) ++ (oM cy uN_68 ++ oM cy uN_26)) hP hD rfl
              clear hP hD
              obtain ⟨hP, hD⟩ := hPD
              replace hP := kl2P hP
              replace hD := kl2D hD
              refine W.widen (k := 200) (n := 3552) (Nat.le_of_ble_eq_true rfl) (Nat.le_of_ble_eq_true rfl) ?_
              exact endWt [[false, true], [true, false, true, true, true, true, true, true, true, true, true, true, true, true, true, true, true, true, true, true, true, true, true, true, true, true, true, true, true]] hx hb hr hlocks rfl hP hD rfl (by decide +kernel) hS ⟨(uN_26), (some ((q_44, qmB_48, qmO_49, qmK_50, rB_51, rO_52, rK_53, tX_61, xF_54, iX_62, iTk, iY_63, iNw_69), uN_68)), iNw_27, fMr, rfl, trivial⟩ (g_172 bX6_keeping rfl)
            · refine lv_aload_n hx hb (g_42 bX6_keeping rfl) rfl (lv_at hl 1 rfl) ?_
              refine lv_bipush (v := (-5)) hx hb dX6_keeping_116 (by decide +kernel) ?_
              refine cViQ (As := [.int (-5)]) (rest := []) (b := qm) (q := (RX6, TX6, 35)) ⟨hx, hb, hml, hown, hts⟩ (c_X6_refuse5 l G cy (H).size qm (.ref qmh) (.ref qmo) (.ref qmz) (.ref qmR) (.ref qmv) (.ref qmk) (.ref qma) (.ref qmt) (.int (nI kZ)) qmr tA qmB qmO qmK iEn iTk (ov uP) (ov uN_26) (.int (nI kAt)) (.int iTo) (.int iFr) (.long JFi) (.int iFa) (.ref qm3) (.int iSt) iLv iNw_27 (.ref q_44) (.ref qmu) (.ref qmy) (.ref qmb) (.ref qms) (.int iOm) fMr) L_X6_91 hN hP hD hS hA [1, 0] (false :: false :: true :: true :: true :: true :: true :: true :: true :: true :: true :: true :: true :: true :: true :: true :: true :: true :: true :: true :: true :: true :: true :: true :: true :: true :: true :: true :: true :: true :: true :: true :: true :: true :: true :: true :: true :: true :: true :: true :: true :: true :: true :: true :: true :: true :: true :: true :: true :: true :: true :: true :: true :: true :: true :: true :: true :: []) rfl (by decide +kernel) rfl 1 5 rfl rfl rfl ⟨Nat.le_of_ble_eq_true rfl, Nat.le_of_ble_eq_true rfl⟩ hl.1 (Nat.le_of_ble_eq_true rfl) (g_182 (v := 91) bX6_keeping rfl) ⟨Nat.le_of_ble_eq_true rfl, Nat.le_of_ble_eq_true rfl⟩ (fun r_71 u_73 H locs h_72 => ?_)
              clear hP hD hS
              intro hP hD hS
              obtain ⟨fX_74, hu9, h_72⟩ := h_72
              have hPD := pd_eqQ (((_ :: _ :: _ :: _ :: _ :: _ :: _ :: _ :: _ :: _ :: _ :: _ :: _ :: _ :: _ :: _ :: _ :: _ :: _ :: _ :: _ :: _ :: _ :: _ :: _ :: _ :: _ :: _ :: _ :: _ :: _ :: _ :: _ :: _ :: _ :: _ :: _ :: _ :: _ :: _ :: _ :: _ :: _ :: _ :: _ :: _ :: _ :: _ :: _ :: _ :: _ :: _ :: _ :: _ :: _ :: _ :: zzI cy qmr 8 fX_74 :: []) : va_W) ++ (oM cy uN_68 ++ oM cy uN_26)) hP hD hu9 rfl
              clear hP hD hu9
              obtain ⟨hP, hD⟩ := hPD
              subst h_72
              refine lv_ldcw hx hb hown (hts _ m_t1290) (g_19 (v := 311) bX6_keeping rfl) ?_
              refine lv_isub hx hb (g_100 bX6_keeping rfl) ?_
              refine lv_seti (v := (-1000005)) (by decide +kernel) ?_
              have hPD := pt_as (zzG cy 3 qmB rB :: zzI cy (rB 0) 4 (bkR tA 0) :: zzI cy (rB 1) 4 (bkR tA 1) :: zzI cy (rB 2) 4 (bkR tA 2) :: zzI cy (rB 3) 4 (bkR tA 3) :: zzI cy (rB 4) 4 (bkR tA 4) :: zzI cy (rB 5) 4 (bkR tA 5) :: zzI cy (rB 6) 4 (bkR tA 6) :: zzI cy (rB 7) 4 (bkR tA 7) :: zzG cy 3 qmO rO :: zzI cy (rO 0) 5 (onR tA 0) :: zzI cy (rO 1) 5 (onR tA 1) :: zzI cy (rO 2) 5 (onR tA 2) :: zzI cy (rO 3) 5 (onR tA 3) :: zzI cy (rO 4) 5 (onR tA 4) :: zzI cy (rO 5) 5 (onR tA 5) :: zzI cy (rO 6) 5 (onR tA 6) :: zzI cy (rO 7) 5 (onR tA 7) :: zzG cy 3 qmK rK :: zzI cy (rK 0) 8 (T_kn tA 0) :: zzI cy (rK 1) 8 (T_kn tA 1) :: zzI cy (rK 2) 8 (T_kn tA 2) :: zzI cy (rK 3) 8 (T_kn tA 3) :: zzI cy (rK 4) 8 (T_kn tA 4) :: zzI cy (rK 5) 8 (T_kn tA 5) :: zzI cy (rK 6) 8 (T_kn tA 6) :: zzI cy (rK 7) 8 (T_kn tA 7) :: zzO qm 5 (.ref qmh :: .ref qmo :: .ref qmz :: .ref qmR :: .ref qmv :: .ref qmk :: .ref qma :: .ref qmt :: .int (nI kZ) :: .ref qmr :: .int (nI (T_nb tA)) :: .ref qmB :: .int (nI (T_np tA)) :: .ref qmO :: .ref qmK :: .int iEn :: .int iTk :: .int (T_sd tA) :: ov uP :: ov uN_26 :: .int (nI kAt) :: .int iTo :: .int iFr :: .long JFi :: .int iFa :: .ref qm3 :: .int iSt :: .int iLv :: .int iNw_27 :: .ref q_44 :: .ref qmu :: .ref qmy :: .ref qmb :: .ref qms :: .int iOm :: []) :: zzI cy qmr 8 fX_74 :: zzO q_44 5 (xF_54 0 :: xF_54 1 :: xF_54 2 :: xF_54 3 :: xF_54 4 :: xF_54 5 :: xF_54 6 :: xF_54 7 :: xF_54 8 :: xF_54 9 :: .int (nI (T_nb tX_61)) :: .ref qmB_48 :: .int (nI (T_np tX_61)) :: .ref qmO_49 :: .ref qmK_50 :: .int iX_62 :: .int iTk :: .int (T_sd tX_61) :: xF_54 18 :: ov uN_68 :: xF_54 20 :: xF_54 21 :: xF_54 22 :: xF_54 23 :: xF_54 24 :: xF_54 25 :: xF_54 26 :: .int iY_63 :: .int iNw_69 :: xF_54 29 :: xF_54 30 :: xF_54 31 :: xF_54 32 :: xF_54 33 :: xF_54 34 :: []) :: zzG cy 3 qmB_48 rB_51 :: zzI cy (rB_51 0) 4 (bkR tX_61 0) :: zzI cy (rB_51 1) 4 (bkR tX_61 1) :: zzI cy (rB_51 2) 4 (bkR tX_61 2) :: zzI cy (rB_51 3) 4 (bkR tX_61 3) :: zzI cy (rB_51 4) 4 (bkR tX_61 4) :: zzI cy (rB_51 5) 4 (bkR tX_61 5) :: zzI cy (rB_51 6) 4 (bkR tX_61 6) :: zzI cy (rB_51 7) 4 (bkR tX_61 7) :: zzG cy 3 qmO_49 rO_52 :: zzI cy (rO_52 0) 5 (onR tX_61 0) :: zzI cy (rO_52 1) 5 (onR tX_61 1) :: zzI cy (rO_52 2) 5 (onR tX_61 2) :: zzI cy (rO_52 3) 5 (onR tX_61 3) :: zzI cy (rO_52 4) 5 (onR tX_61 4) :: zzI cy (rO_52 5) 5 (onR tX_61 5) :: zzI cy (rO_52 6) 5 (onR tX_61 6) :: zzI cy (rO_52 7) 5 (onR tX_61 7) :: zzG cy 3 qmK_50 rK_53 :: zzI cy (rK_53 0) 8 (T_kn tX_61 0) :: zzI cy (rK_53 1) 8 (T_kn tX_61 1) :: zzI cy (rK_53 2) 8 (T_kn tX_61 2) :: zzI cy (rK_53 3) 8 (T_kn tX_61 3) :: zzI cy (rK_53 4) 8 (T_kn tX_61 4) :: zzI cy (rK_53 5) 8 (T_kn tX_61 5) :: zzI cy (rK_53 6) 8 (T_kn tX_61 6) :: zzI cy (rK_53 7) 8 (T_kn tX_61 7) :: []) (0 :: 1 :: 2 :: 3 :: 4 :: 5 :: 6 :: 7 :: 8 :: 9 :: 10 :: 11 :: 12 :: 13 :: 14 :: 15 :: 16 :: 17 :: 18 :: 19 :: 20 :: 21 :: 22 :: 23 :: 24 :: 25 :: 26 :: 55 :: 56 :: 27 :: 28 :: 29 :: 30 :: 31 :: 32 :: 33 :: 34 :: 35 :: 36 :: 37 :: 38 :: 39 :: 40 :: 41 :: 42 :: 43 :: 44 :: 45 :: 46 :: 47 :: 48 :: 49 :: 50 :: 51 :: 52 :: 53 :: 54 :: []) hP hD (by decide +kernel) rfl
              clear hP hD
              obtain ⟨hP, hD⟩ := hPD
              have hPD := pd_as (([zzG cy 3 qmB rB, zzI cy (rB 0) 4 (bkR tA 0), zzI cy (rB 1) 4 (bkR tA 1), zzI cy (rB 2) 4 (bkR tA 2), zzI cy (rB 3) 4 (bkR tA 3), zzI cy (rB 4) 4 (bkR tA 4), zzI cy (rB 5) 4 (bkR tA 5), zzI cy (rB 6) 4 (bkR tA 6), zzI cy (rB 7) 4 (bkR tA 7), zzG cy 3 qmO rO, zzI cy (rO 0) 5 (onR tA 0), zzI cy (rO 1) 5 (onR tA 1), zzI cy (rO 2) 5 (onR tA 2), zzI cy (rO 3) 5 (onR tA 3), zzI cy (rO 4) 5 (onR tA 4), zzI cy (rO 5) 5 (onR tA 5), zzI cy (rO 6) 5 (onR tA 6), zzI cy (rO 7) 5 (onR tA 7), zzG cy 3 qmK rK, zzI cy (rK 0) 8 (T_kn tA 0), zzI cy (rK 1) 8 (T_kn tA 1), zzI cy (rK 2) 8 (T_kn tA 2), zzI cy (rK 3) 8 (T_kn tA 3), zzI cy (rK 4) 8 (T_kn tA 4), zzI cy (rK 5) 8 (T_kn tA 5), zzI cy (rK 6) 8 (T_kn tA 6), zzI cy (rK 7) 8 (T_kn tA 7), zzO qm 5 (.ref qmh :: .ref qmo :: .ref qmz :: .ref qmR :: .ref qmv :: .ref qmk :: .ref qma :: .ref qmt :: .int (nI kZ) :: .ref qmr :: .int (nI (T_nb tA)) :: .ref qmB :: .int (nI (T_np tA)) :: .ref qmO :: .ref qmK :: .int iEn :: .int iTk :: .int (T_sd tA) :: ov uP :: ov uN_26 :: .int (nI kAt) :: .int iTo :: .int iFr :: .long JFi :: .int iFa :: .ref qm3 :: .int iSt :: .int iLv :: .int iNw_27 :: .ref q_44 :: .ref qmu :: .ref qmy :: .ref qmb :: .ref qms :: .int iOm :: []), zzI cy qmr 8 fX_74] ++ mL cy q_44 qmB_48 qmO_49 qmK_50 rB_51 rO_52 rK_53 tX_61 xF_54 iX_62 iTk iY_63 iNw_69 uN_68) ++ (oM cy uN_68 ++ oM cy uN_26)) hP hD rfl
              clear hP hD
              obtain ⟨hP, hD⟩ := hPD
              replace hP := kl2P hP
              replace hD := kl2D hD
              refine W.widen (k := 200) (n := 3552) (Nat.le_of_ble_eq_true rfl) (Nat.le_of_ble_eq_true rfl) ?_
              exact endWt [[false, false, false, false, false, false, false, false, false, false, false, false, false, false, false, false, false, false, false, false, false, false, false, false, false, false, false, true, true], [true, true, true, true, true, true, true, true, true, true, true, true, true, true, true, true, true, true, true, true, true, true, true, true, true, true, true]] hx hb hr hlocks rfl hP hD rfl (by decide +kernel) hS ⟨(uN_26), (some ((q_44, qmB_48, qmO_49, qmK_50, rB_51, rO_52, rK_53, tX_61, xF_54, iX_62, iTk, iY_63, iNw_69), uN_68)), iNw_27, fX_74, rfl, trivial⟩ (g_172 bX6_keeping rfl)
          · rw [eL_43] at hP hD
            replace hP := kl1P hP
            replace hD := kl1D hD
            have hPD := pd_as (((_ :: zzO qm 5 (.ref qmh :: .ref qmo :: .ref qmz :: .ref qmR :: .ref qmv :: .ref qmk :: .ref qma :: .ref qmt :: .int (nI kZ) :: .ref qmr :: .int (nI (T_nb tA)) :: .ref qmB :: .int (nI (T_np tA)) :: .ref qmO :: .ref qmK :: .int iEn :: .int iTk :: .int (T_sd tA) :: ov uP :: ov uN_26 :: .int (nI kAt) :: .int iTo :: .int iFr :: .long JFi :: .int iFa :: .ref qm3 :: .int iSt :: .int iLv :: .int iNw_27 :: .ref qL_29 :: .ref qmu :: .ref qmy :: .ref qmb :: .ref qms :: .int iOm :: []) :: _ :: _ :: _ :: _ :: _ :: _ :: _ :: _ :: _ :: _ :: _ :: _ :: _ :: _ :: _ :: _ :: _ :: _ :: _ :: _ :: _ :: _ :: _ :: _ :: _ :: _ :: _ :: zzO qL_29 5 (xL_37 0 :: xL_37 1 :: xL_37 2 :: xL_37 3 :: xL_37 4 :: xL_37 5 :: xL_37 6 :: xL_37 7 :: xL_37 8 :: xL_37 9 :: .int (nI (T_nb tL_36)) :: .ref qLB_30 :: .int (nI (T_np tL_36)) :: .ref qLO_31 :: .ref qLK_32 :: .int iEnL_38 :: .int iTkL_39 :: .int (T_sd tL_36) :: xL_37 18 :: ov uW_42 :: xL_37 20 :: xL_37 21 :: xL_37 22 :: xL_37 23 :: xL_37 24 :: xL_37 25 :: xL_37 26 :: .int iLvL_40 :: .int iWsL_41 :: xL_37 29 :: xL_37 30 :: xL_37 31 :: xL_37 32 :: xL_37 33 :: xL_37 34 :: []) :: zzG cy 3 qLB_30 rLB_33 :: zzI cy (rLB_33 0) 4 (bkR tL_36 0) :: zzI cy (rLB_33 1) 4 (bkR tL_36 1) :: zzI cy (rLB_33 2) 4 (bkR tL_36 2) :: zzI cy (rLB_33 3) 4 (bkR tL_36 3) :: zzI cy (rLB_33 4) 4 (bkR tL_36 4) :: zzI cy (rLB_33 5) 4 (bkR tL_36 5) :: zzI cy (rLB_33 6) 4 (bkR tL_36 6) :: zzI cy (rLB_33 7) 4 (bkR tL_36 7) :: zzG cy 3 qLO_31 rLO_34 :: zzI cy (rLO_34 0) 5 (onR tL_36 0) :: zzI cy (rLO_34 1) 5 (onR tL_36 1) :: zzI cy (rLO_34 2) 5 (onR tL_36 2) :: zzI cy (rLO_34 3) 5 (onR tL_36 3) :: zzI cy (rLO_34 4) 5 (onR tL_36 4) :: zzI cy (rLO_34 5) 5 (onR tL_36 5) :: zzI cy (rLO_34 6) 5 (onR tL_36 6) :: zzI cy (rLO_34 7) 5 (onR tL_36 7) :: zzG cy 3 qLK_32 rLK_35 :: zzI cy (rLK_35 0) 8 (T_kn tL_36 0) :: zzI cy (rLK_35 1) 8 (T_kn tL_36 1) :: zzI cy (rLK_35 2) 8 (T_kn tL_36 2) :: zzI cy (rLK_35 3) 8 (T_kn tL_36 3) :: zzI cy (rLK_35 4) 8 (T_kn tL_36 4) :: zzI cy (rLK_35 5) 8 (T_kn tL_36 5) :: zzI cy (rLK_35 6) 8 (T_kn tL_36 6) :: zzI cy (rLK_35 7) 8 (T_kn tL_36 7) :: []) : va_W) ++ (oM cy uW_42 ++ oM cy uN_26)) hP hD rfl
            clear hP hD
            obtain ⟨hP, hD⟩ := hPD
            refine lv_setv (v := .ref qL_29) (by rw [eL_43]; rfl) ?_
            refine lv_ifnonnull (tgt := 81) hx hb dX6_keeping_67 (by decide +kernel) ?_
            refine lv_aload_n hx hb (g_42 bX6_keeping rfl) rfl (lv_at hl 0 rfl) ?_
            refine va_get (D := G) (ci := 5) (v := .ref qL_29) (C := RX6) (T := TX6) (N := 35) hx hb hts iX_X6 hown hK hP 1 rfl rfl 29 (by decide +kernel) (hts _ m_t879) (fun _ h9 => h9) rfl (g_180 (v := 320) bX6_keeping rfl) ?_
            refine lv_aload_n hx hb (g_42 bX6_keeping rfl) rfl (lv_at hl 0 rfl) ?_
            refine cVvQ (As := [.ref qm]) (rest := []) (b := qL_29) (q := (RX6, TX6, 35)) ⟨hx, hb, hml, hown, hts⟩ (c_X6_takeFrom l G cy (H).size qL_29 (xL_37 0) (xL_37 1) (xL_37 2) (xL_37 3) (xL_37 4) (xL_37 5) (xL_37 6) (xL_37 7) (xL_37 8) (xL_37 9) tL_36 qLB_30 qLO_31 qLK_32 iEnL_38 iTkL_39 (xL_37 18) (ov uW_42) (xL_37 20) (xL_37 21) (xL_37 22) (xL_37 23) (xL_37 24) (xL_37 25) (xL_37 26) iLvL_40 iWsL_41 (xL_37 29) (xL_37 30) (xL_37 31) (xL_37 32) (xL_37 33) (xL_37 34) rLB_33 rLO_34 rLK_35 qm (.ref qmh) (.ref qmo) (.ref qmz) (.ref qmR) (.ref qmv) (.ref qmk) (.ref qma) (.ref qmt) (.int (nI kZ)) (.ref qmr) tA qmB qmO qmK iEn iTk (ov uP) (ov uN_26) (.int (nI kAt)) (.int iTo) (.int iFr) (.long JFi) (.int iFa) (.ref qm3) (.int iSt) iLv iNw_27 (.ref qL_29) (.ref qmu) (.ref qmy) (.ref qmb) (.ref qms) (.int iOm) rB rO rK) L_X6_225 hN hP hD hS hA (trueIxs [(false :: false :: false :: false :: false :: false :: false :: false :: false :: false :: false :: false :: false :: false :: false :: false :: false :: false :: false :: false :: false :: false :: false :: false :: false :: false :: false :: false :: false :: true :: true :: true :: true :: true :: true :: true :: true :: true :: true :: true :: true :: true :: true :: true :: true :: true :: true :: true :: true :: true :: true :: true :: true :: true :: true :: true :: true :: []), [false, true, true, true, true, true, true, true, true, true, true, true, true, true, true, true, true, true, true, true, true, true, true, true, true, true, true, true, true]]) (true :: false :: false :: false :: false :: false :: false :: false :: false :: false :: false :: false :: false :: false :: false :: false :: false :: false :: false :: false :: false :: false :: false :: false :: false :: false :: false :: false :: false :: false :: false :: false :: false :: false :: false :: false :: false :: false :: false :: false :: false :: false :: false :: false :: false :: false :: false :: false :: false :: false :: false :: false :: false :: false :: false :: false :: false :: []) (sels_eq rfl rfl) (by decide +kernel) rfl 29 5 rfl rfl rfl ⟨Nat.le_of_ble_eq_true rfl, Nat.le_of_ble_eq_true rfl⟩ hl.1 (Nat.le_of_ble_eq_true rfl) (g_182 (v := 225) bX6_keeping rfl) ⟨Nat.le_of_ble_eq_true rfl, Nat.le_of_ble_eq_true rfl⟩ (fun u_77 H locs h_76 => ?_)
            clear hP hD hS
            intro hP hD hS
            have hPD := pd_eqQ (((_ :: zzO qL_29 5 (xL_37 0 :: xL_37 1 :: xL_37 2 :: xL_37 3 :: xL_37 4 :: xL_37 5 :: xL_37 6 :: xL_37 7 :: xL_37 8 :: xL_37 9 :: .int (nI (T_nb tA)) :: .ref qLB_30 :: .int (nI (T_np tA)) :: .ref qLO_31 :: .ref qLK_32 :: .int iEn :: .int iTk :: .int (T_sd tA) :: xL_37 18 :: ov uW_42 :: xL_37 20 :: xL_37 21 :: xL_37 22 :: xL_37 23 :: xL_37 24 :: xL_37 25 :: xL_37 26 :: .int iLvL_40 :: .int iWsL_41 :: xL_37 29 :: xL_37 30 :: xL_37 31 :: xL_37 32 :: xL_37 33 :: xL_37 34 :: []) :: _ :: zzI cy (rLB_33 0) 4 (bkR tA 0) :: zzI cy (rLB_33 1) 4 (bkR tA 1) :: zzI cy (rLB_33 2) 4 (bkR tA 2) :: zzI cy (rLB_33 3) 4 (bkR tA 3) :: zzI cy (rLB_33 4) 4 (bkR tA 4) :: zzI cy (rLB_33 5) 4 (bkR tA 5) :: zzI cy (rLB_33 6) 4 (bkR tA 6) :: zzI cy (rLB_33 7) 4 (bkR tA 7) :: _ :: zzI cy (rLO_34 0) 5 (onR tA 0) :: zzI cy (rLO_34 1) 5 (onR tA 1) :: zzI cy (rLO_34 2) 5 (onR tA 2) :: zzI cy (rLO_34 3) 5 (onR tA 3) :: zzI cy (rLO_34 4) 5 (onR tA 4) :: zzI cy (rLO_34 5) 5 (onR tA 5) :: zzI cy (rLO_34 6) 5 (onR tA 6) :: zzI cy (rLO_34 7) 5 (onR tA 7) :: _ :: zzI cy (rLK_35 0) 8 (T_kn tA 0) :: zzI cy (rLK_35 1) 8 (T_kn tA 1) :: zzI cy (rLK_35 2) 8 (T_kn tA 2) :: zzI cy (rLK_35 3) 8 (T_kn tA 3) :: zzI cy (rLK_35 4) 8 (T_kn tA 4) :: zzI cy (rLK_35 5) 8 (T_kn tA 5) :: zzI cy (rLK_35 6) 8 (T_kn tA 6) :: zzI cy (rLK_35 7) 8 (T_kn tA 7) :: _ :: _ :: _ :: _ :: _ :: _ :: _ :: _ :: _ :: _ :: _ :: _ :: _ :: _ :: _ :: _ :: _ :: _ :: _ :: _ :: _ :: _ :: _ :: _ :: _ :: _ :: _ :: _ :: []) : va_W) ++ (oM cy uW_42 ++ oM cy uN_26)) hP hD h_76 rfl
            clear hP hD h_76
            obtain ⟨hP, hD⟩ := hPD
            refine lv_aload_n hx hb (g_42 bX6_keeping rfl) rfl (lv_at hl 0 rfl) ?_
            refine va_get (D := G) (ci := 5) (v := .ref qL_29) (C := RX6) (T := TX6) (N := 35) hx hb hts iX_X6 hown hK hP 29 rfl rfl 29 (by decide +kernel) (hts _ m_t879) (fun _ h9 => h9) rfl (g_180 (v := 320) bX6_keeping rfl) ?_
            refine lv_iconst (v := (-1)) hx hb (g_2 bX6_keeping rfl) (by decide +kernel) ?_
            refine lv_iconst (v := 0) hx hb (g_3 bX6_keeping rfl) (by decide +kernel) ?_
            refine lv_iconst (v := 1) hx hb (g_4 bX6_keeping rfl) (by decide +kernel) ?_
            refine cViQ (As := [.int (-1), .int 0, .int 1]) (rest := []) (b := qL_29) (q := (RX6, TX6, 35)) ⟨hx, hb, hml, hown, hts⟩ (c_X6_goes01 l G cy (H).size qL_29 (xL_37 0) (xL_37 1) (xL_37 2) (xL_37 3) (xL_37 4) (xL_37 5) (xL_37 6) (xL_37 7) (xL_37 8) (xL_37 9) tA qLB_30 qLO_31 qLK_32 iEn iTk (xL_37 18) (ov uW_42) (xL_37 20) (xL_37 21) (xL_37 22) (xL_37 23) (xL_37 24) (xL_37 25) (xL_37 26) iLvL_40 iWsL_41 (xL_37 29) (xL_37 30) (xL_37 31) (xL_37 32) (xL_37 33) (xL_37 34) rLB_33 rLO_34 rLK_35 hB hPp hTI) L_X6_295 hN hP hD hS hA (trueIx 0 [false, true, true, true, true, true, true, true, true, true, true, true, true, true, true, true, true, true, true, true, true, true, true, true, true, true, true, true, true]) (true :: false :: false :: false :: false :: false :: false :: false :: false :: false :: false :: false :: false :: false :: false :: false :: false :: false :: false :: false :: false :: false :: false :: false :: false :: false :: false :: false :: false :: true :: true :: true :: true :: true :: true :: true :: true :: true :: true :: true :: true :: true :: true :: true :: true :: true :: true :: true :: true :: true :: true :: true :: true :: true :: true :: true :: true :: []) (sel_eq rfl rfl) (by decide +kernel) rfl 1 5 rfl rfl rfl ⟨Nat.le_of_ble_eq_true rfl, Nat.le_of_ble_eq_true rfl⟩ hl.1 (Nat.le_of_ble_eq_true rfl) (g_182 (v := 295) bX6_keeping rfl) ⟨Nat.le_of_ble_eq_true rfl, Nat.le_of_ble_eq_true rfl⟩ (fun r_78 u_80 H locs h_79 => ?_)
            clear hP hD hS
            intro hP hD hS
            obtain ⟨tX_81, iX_82, iY_83, hu9, h_84, h_79⟩ := h_79
            have hPD := pd_eqQ (((_ :: _ :: _ :: _ :: _ :: _ :: _ :: _ :: _ :: _ :: _ :: _ :: _ :: _ :: _ :: _ :: _ :: _ :: _ :: _ :: _ :: _ :: _ :: _ :: _ :: _ :: _ :: _ :: _ :: zzO qL_29 5 (xL_37 0 :: xL_37 1 :: xL_37 2 :: xL_37 3 :: xL_37 4 :: xL_37 5 :: xL_37 6 :: xL_37 7 :: xL_37 8 :: xL_37 9 :: .int (nI (T_nb tX_81)) :: .ref qLB_30 :: .int (nI (T_np tX_81)) :: .ref qLO_31 :: .ref qLK_32 :: .int iX_82 :: .int iTk :: .int (T_sd tX_81) :: xL_37 18 :: ov uW_42 :: xL_37 20 :: xL_37 21 :: xL_37 22 :: xL_37 23 :: xL_37 24 :: xL_37 25 :: xL_37 26 :: .int iY_83 :: .int iWsL_41 :: xL_37 29 :: xL_37 30 :: xL_37 31 :: xL_37 32 :: xL_37 33 :: xL_37 34 :: []) :: _ :: zzI cy (rLB_33 0) 4 (bkR tX_81 0) :: zzI cy (rLB_33 1) 4 (bkR tX_81 1) :: zzI cy (rLB_33 2) 4 (bkR tX_81 2) :: zzI cy (rLB_33 3) 4 (bkR tX_81 3) :: zzI cy (rLB_33 4) 4 (bkR tX_81 4) :: zzI cy (rLB_33 5) 4 (bkR tX_81 5) :: zzI cy (rLB_33 6) 4 (bkR tX_81 6) :: zzI cy (rLB_33 7) 4 (bkR tX_81 7) :: _ :: zzI cy (rLO_34 0) 5 (onR tX_81 0) :: zzI cy (rLO_34 1) 5 (onR tX_81 1) :: zzI cy (rLO_34 2) 5 (onR tX_81 2) :: zzI cy (rLO_34 3) 5 (onR tX_81 3) :: zzI cy (rLO_34 4) 5 (onR tX_81 4) :: zzI cy (rLO_34 5) 5 (onR tX_81 5) :: zzI cy (rLO_34 6) 5 (onR tX_81 6) :: zzI cy (rLO_34 7) 5 (onR tX_81 7) :: _ :: zzI cy (rLK_35 0) 8 (T_kn tX_81 0) :: zzI cy (rLK_35 1) 8 (T_kn tX_81 1) :: zzI cy (rLK_35 2) 8 (T_kn tX_81 2) :: zzI cy (rLK_35 3) 8 (T_kn tX_81 3) :: zzI cy (rLK_35 4) 8 (T_kn tX_81 4) :: zzI cy (rLK_35 5) 8 (T_kn tX_81 5) :: zzI cy (rLK_35 6) 8 (T_kn tX_81 6) :: zzI cy (rLK_35 7) 8 (T_kn tX_81 7) :: []) : va_W) ++ (oM cy uW_42 ++ oM cy uN_26)) hP hD hu9 rfl
            clear hP hD hu9
            obtain ⟨hP, hD⟩ := hPD
            refine lv_istore_n (lv' := [(3, .int r_78), (0, .ref qm), (1, .int (nI k_4)), (2, .int (nI k_10))]) hx hb (g_62 bX6_keeping rfl) rfl hl (by decide +kernel) rfl (fun ls => ?_)
            clear hl
            intro hl
            refine lv_aload_n hx hb (g_42 bX6_keeping rfl) rfl (lv_at hl 1 rfl) ?_
            refine va_get (D := G) (ci := 5) (v := .ref qL_29) (C := RX6) (T := TX6) (N := 35) hx hb hts iX_X6 hown hK hP 1 rfl rfl 29 (by decide +kernel) (hts _ m_t879) (fun _ h9 => h9) rfl (g_180 (v := 320) bX6_keeping rfl) ?_
            refine lv_iload_n hx hb (g_27 bX6_keeping rfl) rfl (lv_at hl 2 rfl) ?_
            refine lv_iload_n hx hb (g_28 bX6_keeping rfl) rfl (lv_at hl 3 rfl) ?_
            refine lv_iconst (v := 1) hx hb (g_4 bX6_keeping rfl) (by decide +kernel) ?_
            refine lv_isub hx hb (g_100 bX6_keeping rfl) ?_
            refine lv_seti (v := nI (k_10 - 1)) (nI_sub1 (by omega)) ?_
            replace hP := al_P hP
            replace hD := al_D hD
            refine cViPQ (As := [.int (nI k_4), .int (nI (k_10 - 1))]) (rest := []) (b := qL_29) (q := (RX6, TX6, 35)) ⟨hx, hb, hml, hown, hts⟩ (c_X6_findWho l G cy (H).size qL_29 (xL_37 0) (xL_37 1) (xL_37 2) (xL_37 3) (xL_37 4) (xL_37 5) (xL_37 6) (xL_37 7) (xL_37 8) (xL_37 9) tX_81 qLB_30 qLO_31 qLK_32 iX_82 iTk (xL_37 18) uW_42 (xL_37 20) (xL_37 21) (xL_37 22) (xL_37 23) (xL_37 24) (xL_37 25) (xL_37 26) iY_83 iWsL_41 (xL_37 29) (xL_37 30) (xL_37 31) (xL_37 32) (xL_37 33) (xL_37 34) rLB_33 rLO_34 rLK_35 k_4 (k_10 - 1) (by first | omega | (simp only [nb_sr, np_sr, nb_wr, np_wr, nb_rd, np_rd, nb_ch, np_ch, nb_zr, np_zr, nb_za, np_za, nb_ey, np_ey, nb_hf, np_hf, nb_dd, np_dd, nb_so, np_so, nb_skn, np_skn, nb_swh, np_swh, nb_sgn, np_sgn, nb_ssd, np_ssd, nb_sgo, np_sgo, nb_sag, np_sag]; omega)) (by first | omega | (simp only [nb_sr, np_sr, nb_wr, np_wr, nb_rd, np_rd, nb_ch, np_ch, nb_zr, np_zr, nb_za, np_za, nb_ey, np_ey, nb_hf, np_hf, nb_dd, np_dd, nb_so, np_so, nb_skn, np_skn, nb_swh, np_swh, nb_sgn, np_sgn, nb_ssd, np_ssd, nb_sgo, np_sgo, nb_sag, np_sag]; omega)) (by first | omega | (simp only [nb_sr, np_sr, nb_wr, np_wr, nb_rd, np_rd, nb_ch, np_ch, nb_zr, np_zr, nb_za, np_za, nb_ey, np_ey, nb_hf, np_hf, nb_dd, np_dd, nb_so, np_so, nb_skn, np_skn, nb_swh, np_swh, nb_sgn, np_sgn, nb_ssd, np_ssd, nb_sgo, np_sgo, nb_sag, np_sag]; omega)) (by first | omega | (simp only [nb_sr, np_sr, nb_wr, np_wr, nb_rd, np_rd, nb_ch, np_ch, nb_zr, np_zr, nb_za, np_za, nb_ey, np_ey, nb_hf, np_hf, nb_dd, np_dd, nb_so, np_so, nb_skn, np_skn, nb_swh, np_swh, nb_sgn, np_sgn, nb_ssd, np_ssd, nb_sgo, np_sgo, nb_sag, np_sag]; omega)) h_84.1) L_X6_315 hN hP hD hS hA (trueIx 0 (false :: false :: false :: false :: false :: false :: false :: false :: false :: false :: false :: false :: false :: false :: false :: false :: false :: false :: false :: false :: false :: false :: false :: false :: false :: false :: false :: false :: false :: true :: true :: true :: true :: true :: true :: true :: true :: true :: true :: true :: true :: true :: true :: true :: true :: true :: true :: true :: true :: true :: true :: true :: true :: true :: true :: true :: true :: [])) (true :: true :: true :: true :: true :: true :: true :: true :: true :: true :: true :: true :: true :: true :: true :: true :: true :: true :: true :: true :: true :: true :: true :: true :: true :: true :: true :: true :: true :: false :: false :: false :: false :: false :: false :: false :: false :: false :: false :: false :: false :: false :: false :: false :: false :: false :: false :: false :: false :: false :: false :: false :: false :: false :: false :: false :: false :: []) (sel_eq rfl rfl) (by decide +kernel) rfl 29 5 rfl rfl rfl ⟨Nat.le_of_ble_eq_true rfl, Nat.le_of_ble_eq_true rfl⟩ hl.1 (Nat.le_of_ble_eq_true rfl) (g_182 (v := 315) bX6_keeping rfl) ⟨Nat.le_of_ble_eq_true rfl, Nat.le_of_ble_eq_true rfl⟩ (fun r_85 u_87 H locs h_86 => ?_)
            clear hP hD hS
            intro hP hD hS
            obtain ⟨uN_88, iNw_89, rfl, h_86⟩ := h_86
            replace hP := as1P hP
            replace hD := as1D hD
            have hPD := pd_as (((_ :: _ :: _ :: _ :: _ :: _ :: _ :: _ :: _ :: _ :: _ :: _ :: _ :: _ :: _ :: _ :: _ :: _ :: _ :: _ :: _ :: _ :: _ :: _ :: _ :: _ :: _ :: _ :: _ :: zzO qL_29 5 (xL_37 0 :: xL_37 1 :: xL_37 2 :: xL_37 3 :: xL_37 4 :: xL_37 5 :: xL_37 6 :: xL_37 7 :: xL_37 8 :: xL_37 9 :: .int (nI (T_nb tX_81)) :: .ref qLB_30 :: .int (nI (T_np tX_81)) :: .ref qLO_31 :: .ref qLK_32 :: .int iX_82 :: .int iTk :: .int (T_sd tX_81) :: xL_37 18 :: ov uN_88 :: xL_37 20 :: xL_37 21 :: xL_37 22 :: xL_37 23 :: xL_37 24 :: xL_37 25 :: xL_37 26 :: .int iY_83 :: .int iNw_89 :: xL_37 29 :: xL_37 30 :: xL_37 31 :: xL_37 32 :: xL_37 33 :: xL_37 34 :: []) :: _ :: _ :: _ :: _ :: _ :: _ :: _ :: _ :: _ :: _ :: _ :: _ :: _ :: _ :: _ :: _ :: _ :: _ :: _ :: _ :: _ :: _ :: _ :: _ :: _ :: _ :: _ :: []) : va_W) ++ (oM cy uN_88 ++ oM cy uN_26)) hP hD rfl
            clear hP hD
            obtain ⟨hP, hD⟩ := hPD
            refine W.widen (k := 100) (n := 1776) (Nat.le_of_ble_eq_true rfl) (Nat.le_of_ble_eq_true rfl) ?_
            refine lv_iconst (v := (-1)) hx hb (g_2 bX6_keeping rfl) (by decide +kernel) ?_
            refine lv_icmp_ne (tgt := 126) hx hb dX6_keeping_112 (by decide +kernel) (fun c_90 => ?_) (fun c_90 => ?_)
            · refine lv_iload_n hx hb (g_29 bX6_keeping rfl) rfl (lv_at hl 0 rfl) ?_
              refine lv_aload_n hx hb (g_42 bX6_keeping rfl) rfl (lv_at hl 1 rfl) ?_
              refine va_get (D := G) (ci := 5) (v := .ref qL_29) (C := RX6) (T := TX6) (N := 35) hx hb hts iX_X6 hown hK hP 1 rfl rfl 29 (by decide +kernel) (hts _ m_t879) (fun _ h9 => h9) rfl (g_180 (v := 320) bX6_keeping rfl) ?_
              refine va_get (D := G) (ci := 5) (v := .int iNw_89) (C := RX6) (T := TX6) (N := 35) hx hb hts iX_X6 hown hK hP 29 rfl rfl 28 (by decide +kernel) (hts _ m_t878) (fun _ h9 => h9) rfl (g_180 (v := 312) bX6_keeping rfl) ?_
              refine lv_iadd hx hb (g_96 bX6_keeping rfl) ?_
              refine lv_aload_n hx hb (g_42 bX6_keeping rfl) rfl (lv_at hl 1 rfl) ?_
              refine va_get (D := G) (ci := 5) (v := .int iNw_27) (C := RX6) (T := TX6) (N := 35) hx hb hts iX_X6 hown hK hP 1 rfl rfl 28 (by decide +kernel) (hts _ m_t878) (fun _ h9 => h9) rfl (g_180 (v := 312) bX6_keeping rfl) ?_
              refine lv_isub hx hb (g_100 bX6_keeping rfl) ?_
              have hPD := pt_as (zzI cy qmr 8 fMr :: zzO qm 5 (.ref qmh :: .ref qmo :: .ref qmz :: .ref qmR :: .ref qmv :: .ref qmk :: .ref qma :: .ref qmt :: .int (nI kZ) :: .ref qmr :: .int (nI (T_nb tA)) :: .ref qmB :: .int (nI (T_np tA)) :: .ref qmO :: .ref qmK :: .int iEn :: .int iTk :: .int (T_sd tA) :: ov uP :: ov uN_26 :: .int (nI kAt) :: .int iTo :: .int iFr :: .long JFi :: .int iFa :: .ref qm3 :: .int iSt :: .int iLv :: .int iNw_27 :: .ref qL_29 :: .ref qmu :: .ref qmy :: .ref qmb :: .ref qms :: .int iOm :: []) :: zzG cy 3 qmB rB :: zzI cy (rB 0) 4 (bkR tA 0) :: zzI cy (rB 1) 4 (bkR tA 1) :: zzI cy (rB 2) 4 (bkR tA 2) :: zzI cy (rB 3) 4 (bkR tA 3) :: zzI cy (rB 4) 4 (bkR tA 4) :: zzI cy (rB 5) 4 (bkR tA 5) :: zzI cy (rB 6) 4 (bkR tA 6) :: zzI cy (rB 7) 4 (bkR tA 7) :: zzG cy 3 qmO rO :: zzI cy (rO 0) 5 (onR tA 0) :: zzI cy (rO 1) 5 (onR tA 1) :: zzI cy (rO 2) 5 (onR tA 2) :: zzI cy (rO 3) 5 (onR tA 3) :: zzI cy (rO 4) 5 (onR tA 4) :: zzI cy (rO 5) 5 (onR tA 5) :: zzI cy (rO 6) 5 (onR tA 6) :: zzI cy (rO 7) 5 (onR tA 7) :: zzG cy 3 qmK rK :: zzI cy (rK 0) 8 (T_kn tA 0) :: zzI cy (rK 1) 8 (T_kn tA 1) :: zzI cy (rK 2) 8 (T_kn tA 2) :: zzI cy (rK 3) 8 (T_kn tA 3) :: zzI cy (rK 4) 8 (T_kn tA 4) :: zzI cy (rK 5) 8 (T_kn tA 5) :: zzI cy (rK 6) 8 (T_kn tA 6) :: zzI cy (rK 7) 8 (T_kn tA 7) :: zzO qL_29 5 (xL_37 0 :: xL_37 1 :: xL_37 2 :: xL_37 3 :: xL_37 4 :: xL_37 5 :: xL_37 6 :: xL_37 7 :: xL_37 8 :: xL_37 9 :: .int (nI (T_nb tX_81)) :: .ref qLB_30 :: .int (nI (T_np tX_81)) :: .ref qLO_31 :: .ref qLK_32 :: .int iX_82 :: .int iTk :: .int (T_sd tX_81) :: xL_37 18 :: ov uN_88 :: xL_37 20 :: xL_37 21 :: xL_37 22 :: xL_37 23 :: xL_37 24 :: xL_37 25 :: xL_37 26 :: .int iY_83 :: .int iNw_89 :: xL_37 29 :: xL_37 30 :: xL_37 31 :: xL_37 32 :: xL_37 33 :: xL_37 34 :: []) :: zzG cy 3 qLB_30 rLB_33 :: zzI cy (rLB_33 0) 4 (bkR tX_81 0) :: zzI cy (rLB_33 1) 4 (bkR tX_81 1) :: zzI cy (rLB_33 2) 4 (bkR tX_81 2) :: zzI cy (rLB_33 3) 4 (bkR tX_81 3) :: zzI cy (rLB_33 4) 4 (bkR tX_81 4) :: zzI cy (rLB_33 5) 4 (bkR tX_81 5) :: zzI cy (rLB_33 6) 4 (bkR tX_81 6) :: zzI cy (rLB_33 7) 4 (bkR tX_81 7) :: zzG cy 3 qLO_31 rLO_34 :: zzI cy (rLO_34 0) 5 (onR tX_81 0) :: zzI cy (rLO_34 1) 5 (onR tX_81 1) :: zzI cy (rLO_34 2) 5 (onR tX_81 2) :: zzI cy (rLO_34 3) 5 (onR tX_81 3) :: zzI cy (rLO_34 4) 5 (onR tX_81 4) :: zzI cy (rLO_34 5) 5 (onR tX_81 5) :: zzI cy (rLO_34 6) 5 (onR tX_81 6) :: zzI cy (rLO_34 7) 5 (onR tX_81 7) :: zzG cy 3 qLK_32 rLK_35 :: zzI cy (rLK_35 0) 8 (T_kn tX_81 0) :: zzI cy (rLK_35 1) 8 (T_kn tX_81 1) :: zzI cy (rLK_35 2) 8 (T_kn tX_81 2) :: zzI cy (rLK_35 3) 8 (T_kn tX_81 3) :: zzI cy (rLK_35 4) 8 (T_kn tX_81 4) :: zzI cy (rLK_35 5) 8 (T_kn tX_81 5) :: zzI cy (rLK_35 6) 8 (T_kn tX_81 6) :: zzI cy (rLK_35 7) 8 (T_kn tX_81 7) :: []) (0 :: 1 :: 2 :: 3 :: 4 :: 5 :: 6 :: 7 :: 8 :: 9 :: 10 :: 11 :: 12 :: 13 :: 14 :: 15 :: 16 :: 17 :: 18 :: 19 :: 20 :: 21 :: 22 :: 23 :: 24 :: 25 :: 26 :: 27 :: 28 :: 29 :: 30 :: 31 :: 32 :: 33 :: 34 :: 35 :: 36 :: 37 :: 38 :: 39 :: 40 :: 41 :: 42 :: 43 :: 44 :: 45 :: 46 :: 47 :: 48 :: 49 :: 50 :: 51 :: 52 :: 53 :: 54 :: 55 :: 56 :: []) hP hD (by decide +kernel) rfl
              clear hP hD
              obtain ⟨hP, hD⟩ := hPD
              have hPD := pd_as (([zzI cy qmr 8 fMr, zzO qm 5 (.ref qmh :: .ref qmo :: .ref qmz :: .ref qmR :: .ref qmv :: .ref qmk :: .ref qma :: .ref qmt :: .int (nI kZ) :: .ref qmr :: .int (nI (T_nb tA)) :: .ref qmB :: .int (nI (T_np tA)) :: .ref qmO :: .ref qmK :: .int iEn :: .int iTk :: .int (T_sd tA) :: ov uP :: ov uN_26 :: .int (nI kAt) :: .int iTo :: .int iFr :: .long JFi :: .int iFa :: .ref qm3 :: .int iSt :: .int iLv :: .int iNw_27 :: .ref qL_29 :: .ref qmu :: .ref qmy :: .ref qmb :: .ref qms :: .int iOm :: []), zzG cy 3 qmB rB, zzI cy (rB 0) 4 (bkR tA 0), zzI cy (rB 1) 4 (bkR tA 1), zzI cy (rB 2) 4 (bkR tA 2), zzI cy (rB 3) 4 (bkR tA 3), zzI cy (rB 4) 4 (bkR tA 4), zzI cy (rB 5) 4 (bkR tA 5), zzI cy (rB 6) 4 (bkR tA 6), zzI cy (rB 7) 4 (bkR tA 7), zzG cy 3 qmO rO, zzI cy (rO 0) 5 (onR tA 0), zzI cy (rO 1) 5 (onR tA 1), zzI cy (rO 2) 5 (onR tA 2), zzI cy (rO 3) 5 (onR tA 3), zzI cy (rO 4) 5 (onR tA 4), zzI cy (rO 5) 5 (onR tA 5), zzI cy (rO 6) 5 (onR tA 6), zzI cy (rO 7) 5 (onR tA 7), zzG cy 3 qmK rK, zzI cy (rK 0) 8 (T_kn tA 0), zzI cy (rK 1) 8 (T_kn tA 1), zzI cy (rK 2) 8 (T_kn tA 2), zzI cy (rK 3) 8 (T_kn tA 3), zzI cy (rK 4) 8 (T_kn tA 4), zzI cy (rK 5) 8 (T_kn tA 5), zzI cy (rK 6) 8 (T_kn tA 6), zzI cy (rK 7) 8 (T_kn tA 7)] ++ mL cy qL_29 qLB_30 qLO_31 qLK_32 rLB_33 rLO_34 rLK_35 tX_81 xL_37 iX_82 iTk iY_83 iNw_89 uN_88) ++ (oM cy uN_88 ++ oM cy uN_26)) hP hD rfl
              clear hP hD
              obtain ⟨hP, hD⟩ := hPD
              replace hP := kl2P hP
              replace hD := kl2D hD
              refine W.widen (k := 200) (n := 3552) (Nat.le_of_ble_eq_true rfl) (Nat.le_of_ble_eq_true rfl) ?_
              exact endWt [[false, true], [true, false, true, true, true, true, true, true, true, true, true, true, true, true, true, true, true, true, true, true, true, true, true, true, true, true, true, true, true]] hx hb hr hlocks rfl hP hD rfl (by decide +kernel) hS ⟨(uN_26), (some ((qL_29, qLB_30, qLO_31, qLK_32, rLB_33, rLO_34, rLK_35, tX_81, xL_37, iX_82, iTk, iY_83, iNw_89), uN_88)), iNw_27, fMr, rfl, trivial⟩ (g_172 bX6_keeping rfl)
            · refine lv_aload_n hx hb (g_42 bX6_keeping rfl) rfl (lv_at hl 1 rfl) ?_
              refine lv_bipush (v := (-5)) hx hb dX6_keeping_116 (by decide +kernel) ?_
              refine cViQ (As := [.int (-5)]) (rest := []) (b := qm) (q := (RX6, TX6, 35)) ⟨hx, hb, hml, hown, hts⟩ (c_X6_refuse5 l G cy (H).size qm (.ref qmh) (.ref qmo) (.ref qmz) (.ref qmR) (.ref qmv) (.ref qmk) (.ref qma) (.ref qmt) (.int (nI kZ)) qmr tA qmB qmO qmK iEn iTk (ov uP) (ov uN_26) (.int (nI kAt)) (.int iTo) (.int iFr) (.long JFi) (.int iFa) (.ref qm3) (.int iSt) iLv iNw_27 (.ref qL_29) (.ref qmu) (.ref qmy) (.ref qmb) (.ref qms) (.int iOm) fMr) L_X6_91 hN hP hD hS hA [1, 0] (false :: false :: true :: true :: true :: true :: true :: true :: true :: true :: true :: true :: true :: true :: true :: true :: true :: true :: true :: true :: true :: true :: true :: true :: true :: true :: true :: true :: true :: true :: true :: true :: true :: true :: true :: true :: true :: true :: true :: true :: true :: true :: true :: true :: true :: true :: true :: true :: true :: true :: true :: true :: true :: true :: true :: true :: true :: []) rfl (by decide +kernel) rfl 1 5 rfl rfl rfl ⟨Nat.le_of_ble_eq_true rfl, Nat.le_of_ble_eq_true rfl⟩ hl.1 (Nat.le_of_ble_eq_true rfl) (g_182 (v := 91) bX6_keeping rfl) ⟨Nat.le_of_ble_eq_true rfl, Nat.le_of_ble_eq_true rfl⟩ (fun r_91 u_93 H locs h_92 => ?_)
              clear hP hD hS
              intro hP hD hS
              obtain ⟨fX_94, hu9, h_92⟩ := h_92
              have hPD := pd_eqQ (((_ :: _ :: _ :: _ :: _ :: _ :: _ :: _ :: _ :: _ :: _ :: _ :: _ :: _ :: _ :: _ :: _ :: _ :: _ :: _ :: _ :: _ :: _ :: _ :: _ :: _ :: _ :: _ :: _ :: _ :: _ :: _ :: _ :: _ :: _ :: _ :: _ :: _ :: _ :: _ :: _ :: _ :: _ :: _ :: _ :: _ :: _ :: _ :: _ :: _ :: _ :: _ :: _ :: _ :: _ :: _ :: zzI cy qmr 8 fX_94 :: []) : va_W) ++ (oM cy uN_88 ++ oM cy uN_26)) hP hD hu9 rfl
              clear hP hD hu9
              obtain ⟨hP, hD⟩ := hPD
              subst h_92
              refine lv_ldcw hx hb hown (hts _ m_t1290) (g_19 (v := 311) bX6_keeping rfl) ?_
              refine lv_isub hx hb (g_100 bX6_keeping rfl) ?_
              refine lv_seti (v := (-1000005)) (by decide +kernel) ?_
              have hPD := pt_as (zzG cy 3 qmB rB :: zzI cy (rB 0) 4 (bkR tA 0) :: zzI cy (rB 1) 4 (bkR tA 1) :: zzI cy (rB 2) 4 (bkR tA 2) :: zzI cy (rB 3) 4 (bkR tA 3) :: zzI cy (rB 4) 4 (bkR tA 4) :: zzI cy (rB 5) 4 (bkR tA 5) :: zzI cy (rB 6) 4 (bkR tA 6) :: zzI cy (rB 7) 4 (bkR tA 7) :: zzG cy 3 qmO rO :: zzI cy (rO 0) 5 (onR tA 0) :: zzI cy (rO 1) 5 (onR tA 1) :: zzI cy (rO 2) 5 (onR tA 2) :: zzI cy (rO 3) 5 (onR tA 3) :: zzI cy (rO 4) 5 (onR tA 4) :: zzI cy (rO 5) 5 (onR tA 5) :: zzI cy (rO 6) 5 (onR tA 6) :: zzI cy (rO 7) 5 (onR tA 7) :: zzG cy 3 qmK rK :: zzI cy (rK 0) 8 (T_kn tA 0) :: zzI cy (rK 1) 8 (T_kn tA 1) :: zzI cy (rK 2) 8 (T_kn tA 2) :: zzI cy (rK 3) 8 (T_kn tA 3) :: zzI cy (rK 4) 8 (T_kn tA 4) :: zzI cy (rK 5) 8 (T_kn tA 5) :: zzI cy (rK 6) 8 (T_kn tA 6) :: zzI cy (rK 7) 8 (T_kn tA 7) :: zzO qm 5 (.ref qmh :: .ref qmo :: .ref qmz :: .ref qmR :: .ref qmv :: .ref qmk :: .ref qma :: .ref qmt :: .int (nI kZ) :: .ref qmr :: .int (nI (T_nb tA)) :: .ref qmB :: .int (nI (T_np tA)) :: .ref qmO :: .ref qmK :: .int iEn :: .int iTk :: .int (T_sd tA) :: ov uP :: ov uN_26 :: .int (nI kAt) :: .int iTo :: .int iFr :: .long JFi :: .int iFa :: .ref qm3 :: .int iSt :: .int iLv :: .int iNw_27 :: .ref qL_29 :: .ref qmu :: .ref qmy :: .ref qmb :: .ref qms :: .int iOm :: []) :: zzI cy qmr 8 fX_94 :: zzO qL_29 5 (xL_37 0 :: xL_37 1 :: xL_37 2 :: xL_37 3 :: xL_37 4 :: xL_37 5 :: xL_37 6 :: xL_37 7 :: xL_37 8 :: xL_37 9 :: .int (nI (T_nb tX_81)) :: .ref qLB_30 :: .int (nI (T_np tX_81)) :: .ref qLO_31 :: .ref qLK_32 :: .int iX_82 :: .int iTk :: .int (T_sd tX_81) :: xL_37 18 :: ov uN_88 :: xL_37 20 :: xL_37 21 :: xL_37 22 :: xL_37 23 :: xL_37 24 :: xL_37 25 :: xL_37 26 :: .int iY_83 :: .int iNw_89 :: xL_37 29 :: xL_37 30 :: xL_37 31 :: xL_37 32 :: xL_37 33 :: xL_37 34 :: []) :: zzG cy 3 qLB_30 rLB_33 :: zzI cy (rLB_33 0) 4 (bkR tX_81 0) :: zzI cy (rLB_33 1) 4 (bkR tX_81 1) :: zzI cy (rLB_33 2) 4 (bkR tX_81 2) :: zzI cy (rLB_33 3) 4 (bkR tX_81 3) :: zzI cy (rLB_33 4) 4 (bkR tX_81 4) :: zzI cy (rLB_33 5) 4 (bkR tX_81 5) :: zzI cy (rLB_33 6) 4 (bkR tX_81 6) :: zzI cy (rLB_33 7) 4 (bkR tX_81 7) :: zzG cy 3 qLO_31 rLO_34 :: zzI cy (rLO_34 0) 5 (onR tX_81 0) :: zzI cy (rLO_34 1) 5 (onR tX_81 1) :: zzI cy (rLO_34 2) 5 (onR tX_81 2) :: zzI cy (rLO_34 3) 5 (onR tX_81 3) :: zzI cy (rLO_34 4) 5 (onR tX_81 4) :: zzI cy (rLO_34 5) 5 (onR tX_81 5) :: zzI cy (rLO_34 6) 5 (onR tX_81 6) :: zzI cy (rLO_34 7) 5 (onR tX_81 7) :: zzG cy 3 qLK_32 rLK_35 :: zzI cy (rLK_35 0) 8 (T_kn tX_81 0) :: zzI cy (rLK_35 1) 8 (T_kn tX_81 1) :: zzI cy (rLK_35 2) 8 (T_kn tX_81 2) :: zzI cy (rLK_35 3) 8 (T_kn tX_81 3) :: zzI cy (rLK_35 4) 8 (T_kn tX_81 4) :: zzI cy (rLK_35 5) 8 (T_kn tX_81 5) :: zzI cy (rLK_35 6) 8 (T_kn tX_81 6) :: zzI cy (rLK_35 7) 8 (T_kn tX_81 7) :: []) (0 :: 1 :: 2 :: 3 :: 4 :: 5 :: 6 :: 7 :: 8 :: 9 :: 10 :: 11 :: 12 :: 13 :: 14 :: 15 :: 16 :: 17 :: 18 :: 19 :: 20 :: 21 :: 22 :: 23 :: 24 :: 25 :: 26 :: 55 :: 56 :: 27 :: 28 :: 29 :: 30 :: 31 :: 32 :: 33 :: 34 :: 35 :: 36 :: 37 :: 38 :: 39 :: 40 :: 41 :: 42 :: 43 :: 44 :: 45 :: 46 :: 47 :: 48 :: 49 :: 50 :: 51 :: 52 :: 53 :: 54 :: []) hP hD (by decide +kernel) rfl
              clear hP hD
              obtain ⟨hP, hD⟩ := hPD
              have hPD := pd_as (([zzG cy 3 qmB rB, zzI cy (rB 0) 4 (bkR tA 0), zzI cy (rB 1) 4 (bkR tA 1), zzI cy (rB 2) 4 (bkR tA 2), zzI cy (rB 3) 4 (bkR tA 3), zzI cy (rB 4) 4 (bkR tA 4), zzI cy (rB 5) 4 (bkR tA 5), zzI cy (rB 6) 4 (bkR tA 6), zzI cy (rB 7) 4 (bkR tA 7), zzG cy 3 qmO rO, zzI cy (rO 0) 5 (onR tA 0), zzI cy (rO 1) 5 (onR tA 1), zzI cy (rO 2) 5 (onR tA 2), zzI cy (rO 3) 5 (onR tA 3), zzI cy (rO 4) 5 (onR tA 4), zzI cy (rO 5) 5 (onR tA 5), zzI cy (rO 6) 5 (onR tA 6), zzI cy (rO 7) 5 (onR tA 7), zzG cy 3 qmK rK, zzI cy (rK 0) 8 (T_kn tA 0), zzI cy (rK 1) 8 (T_kn tA 1), zzI cy (rK 2) 8 (T_kn tA 2), zzI cy (rK 3) 8 (T_kn tA 3), zzI cy (rK 4) 8 (T_kn tA 4), zzI cy (rK 5) 8 (T_kn tA 5), zzI cy (rK 6) 8 (T_kn tA 6), zzI cy (rK 7) 8 (T_kn tA 7), zzO qm 5 (.ref qmh :: .ref qmo :: .ref qmz :: .ref qmR :: .ref qmv :: .ref qmk :: .ref qma :: .ref qmt :: .int (nI kZ) :: .ref qmr :: .int (nI (T_nb tA)) :: .ref qmB :: .int (nI (T_np tA)) :: .ref qmO :: .ref qmK :: .int iEn :: .int iTk :: .int (T_sd tA) :: ov uP :: ov uN_26 :: .int (nI kAt) :: .int iTo :: .int iFr :: .long JFi :: .int iFa :: .ref qm3 :: .int iSt :: .int iLv :: .int iNw_27 :: .ref qL_29 :: .ref qmu :: .ref qmy :: .ref qmb :: .ref qms :: .int iOm :: []), zzI cy qmr 8 fX_94] ++ mL cy qL_29 qLB_30 qLO_31 qLK_32 rLB_33 rLO_34 rLK_35 tX_81 xL_37 iX_82 iTk iY_83 iNw_89 uN_88) ++ (oM cy uN_88 ++ oM cy uN_26)) hP hD rfl
              clear hP hD
              obtain ⟨hP, hD⟩ := hPD
              replace hP := kl2P hP
              replace hD := kl2D hD
              refine W.widen (k := 200) (n := 3552) (Nat.le_of_ble_eq_true rfl) (Nat.le_of_ble_eq_true rfl) ?_
              exact endWt [[false, false, false, false, false, false, false, false, false, false, false, false, false, false, false, false, false, false, false, false, false, false, false, false, false, false, false, true, true], [true, true, true, true, true, true, true, true, true, true, true, true, true, true, true, true, true, true, true, true, true, true, true, true, true, true, true]] hx hb hr hlocks rfl hP hD rfl (by decide +kernel) hS ⟨(uN_26), (some ((qL_29, qLB_30, qLO_31, qLK_32, rLB_33, rLO_34, rLK_35, tX_81, xL_37, iX_82, iTk, iY_83, iNw_89), uN_88)), iNw_27, fX_94, rfl, trivial⟩ (g_172 bX6_keeping rfl)
        · refine lv_aload_n hx hb (g_42 bX6_keeping rfl) rfl (lv_at hl 0 rfl) ?_
          refine lv_bipush (v := (-5)) hx hb dX6_keeping_53 (by decide +kernel) ?_
          refine cViQ (As := [.int (-5)]) (rest := []) (b := qm) (q := (RX6, TX6, 35)) ⟨hx, hb, hml, hown, hts⟩ (c_X6_refuse5 l G cy (H).size qm (.ref qmh) (.ref qmo) (.ref qmz) (.ref qmR) (.ref qmv) (.ref qmk) (.ref qma) (.ref qmt) (.int (nI kZ)) qmr tA qmB qmO qmK iEn iTk (ov uP) (ov uN_26) (.int (nI kAt)) (.int iTo) (.int iFr) (.long JFi) (.int iFa) (.ref qm3) (.int iSt) iLv iNw_27 (ovL wL) (.ref qmu) (.ref qmy) (.ref qmb) (.ref qms) (.int iOm) fMr) L_X6_91 hN hP hD hS hA [1, 0] [false, false, true, true, true, true, true, true, true, true, true, true, true, true, true, true, true, true, true, true, true, true, true, true, true, true, true, true, true] rfl (by decide +kernel) rfl 1 5 rfl rfl rfl ⟨Nat.le_of_ble_eq_true rfl, Nat.le_of_ble_eq_true rfl⟩ hl.1 (Nat.le_of_ble_eq_true rfl) (g_182 (v := 91) bX6_keeping rfl) ⟨Nat.le_of_ble_eq_true rfl, Nat.le_of_ble_eq_true rfl⟩ (fun r_95 u_97 H locs h_96 => ?_)
          clear hP hD hS
          intro hP hD hS
          obtain ⟨fX_98, hu9, h_96⟩ := h_96
          have hPD := pd_eqQ (([_, _, _, _, _, _, _, _, _, _, _, _, _, _, _, _, _, _, _, _, _, _, _, _, _, _, _, _, zzI cy qmr 8 fX_98] : va_W) ++ (oM cy uN_26 ++ oL cy wL)) hP hD hu9 rfl
          clear hP hD hu9
          obtain ⟨hP, hD⟩ := hPD
          subst h_96
          refine lv_ldcw hx hb hown (hts _ m_t1290) (g_19 (v := 311) bX6_keeping rfl) ?_
          refine lv_isub hx hb (g_100 bX6_keeping rfl) ?_
          refine lv_seti (v := (-1000005)) (by decide +kernel) ?_
          refine W.widen (k := 200) (n := 3552) (Nat.le_of_ble_eq_true rfl) (Nat.le_of_ble_eq_true rfl) ?_
          exact endWt [[false, false, false, false, false, false, false, false, false, false, false, false, false, false, false, false, false, false, false, false, false, false, false, false, false, false, false, true, true], [true, true, true, true, true, true, true, true, true, true, true, true, true, true, true, true, true, true, true, true, true, true, true, true, true, true, true]] hx hb hr hlocks rfl hP hD rfl (by decide +kernel) hS ⟨(uN_26), (wL), iNw_27, fX_98, rfl, trivial⟩ (g_172 bX6_keeping rfl)
    · refine lv_if_ne (tgt := 34) hx hb dX6_keeping_20 (by decide +kernel) (fun h9 => absurd (by decide +kernel) h9) (fun _ => ?_)
      refine lv_aload_n hx hb (g_42 bX6_keeping rfl) rfl (lv_at hl 0 rfl) ?_
      refine lv_bipush (v := (-2)) hx hb dX6_keeping_24 (by decide +kernel) ?_
      refine cViQ (As := [.int (-2)]) (rest := []) (b := qm) (q := (RX6, TX6, 35)) ⟨hx, hb, hml, hown, hts⟩ (c_X6_refuse2 l G cy (s.heap).size qm (.ref qmh) (.ref qmo) (.ref qmz) (.ref qmR) (.ref qmv) (.ref qmk) (.ref qma) (.ref qmt) (.int (nI kZ)) qmr tA qmB qmO qmK iEn iTk (ov uP) (ov uU) (.int (nI kAt)) (.int iTo) (.int iFr) (.long JFi) (.int iFa) (.ref qm3) (.int iSt) iLv iWs (ovL wL) (.ref qmu) (.ref qmy) (.ref qmb) (.ref qms) (.int iOm) fMr) L_X6_91 hN hP hD hS hA [0, 1] [false, false, true, true, true, true, true, true, true, true, true, true, true, true, true, true, true, true, true, true, true, true, true, true, true, true, true, true, true] rfl (by decide +kernel) rfl 0 5 rfl rfl rfl ⟨Nat.le_of_ble_eq_true rfl, Nat.le_of_ble_eq_true rfl⟩ hl.1 (Nat.le_of_ble_eq_true rfl) (g_182 (v := 91) bX6_keeping rfl) ⟨Nat.le_of_ble_eq_true rfl, Nat.le_of_ble_eq_true rfl⟩ (fun r_100 u_102 H locs h_101 => ?_)
      clear hP hD hS
      intro hP hD hS
      obtain ⟨fX_103, hu9, h_101⟩ := h_101
      have hPD := pd_eqQ (([_, _, _, _, _, _, _, _, _, _, _, _, _, _, _, _, _, _, _, _, _, _, _, _, _, _, _, _, zzI cy qmr 8 fX_103] : va_W) ++ (oM cy uU ++ oL cy wL)) hP hD hu9 rfl
      clear hP hD hu9
      obtain ⟨hP, hD⟩ := hPD
      subst h_101
      refine lv_ldcw hx hb hown (hts _ m_t1290) (g_19 (v := 311) bX6_keeping rfl) ?_
      refine lv_isub hx hb (g_100 bX6_keeping rfl) ?_
      refine lv_seti (v := (-1000002)) (by decide +kernel) ?_
      refine W.widen (k := 200) (n := 3552) (Nat.le_of_ble_eq_true rfl) (Nat.le_of_ble_eq_true rfl) ?_
      exact endWt [[false, false, false, false, false, false, false, false, false, false, false, false, false, false, false, false, false, false, false, false, false, false, false, false, false, false, false, true, true], [true, true, true, true, true, true, true, true, true, true, true, true, true, true, true, true, true, true, true, true, true, true, true, true, true, true, true]] hx hb hr hlocks rfl hP hD rfl (by decide +kernel) hS ⟨(uU), (wL), iWs, fX_103, rfl, trivial⟩ (g_172 bX6_keeping rfl)
  · refine lv_if_eq (tgt := 23) hx hb dX6_keeping_6 (by decide +kernel) (fun _ => ?_) (fun h9 => absurd (by decide +kernel) h9)
    refine lv_aload_n hx hb (g_42 bX6_keeping rfl) rfl (lv_at hl 0 rfl) ?_
    refine lv_bipush (v := (-2)) hx hb dX6_keeping_24 (by decide +kernel) ?_
    refine cViQ (As := [.int (-2)]) (rest := []) (b := qm) (q := (RX6, TX6, 35)) ⟨hx, hb, hml, hown, hts⟩ (c_X6_refuse2 l G cy (s.heap).size qm (.ref qmh) (.ref qmo) (.ref qmz) (.ref qmR) (.ref qmv) (.ref qmk) (.ref qma) (.ref qmt) (.int (nI kZ)) qmr tA qmB qmO qmK iEn iTk (ov uP) (ov uU) (.int (nI kAt)) (.int iTo) (.int iFr) (.long JFi) (.int iFa) (.ref qm3) (.int iSt) iLv iWs (ovL wL) (.ref qmu) (.ref qmy) (.ref qmb) (.ref qms) (.int iOm) fMr) L_X6_91 hN hP hD hS hA [0, 1] [false, false, true, true, true, true, true, true, true, true, true, true, true, true, true, true, true, true, true, true, true, true, true, true, true, true, true, true, true] rfl (by decide +kernel) rfl 0 5 rfl rfl rfl ⟨Nat.le_of_ble_eq_true rfl, Nat.le_of_ble_eq_true rfl⟩ hl.1 (Nat.le_of_ble_eq_true rfl) (g_182 (v := 91) bX6_keeping rfl) ⟨Nat.le_of_ble_eq_true rfl, Nat.le_of_ble_eq_true rfl⟩ (fun r_105 u_107 H locs h_106 => ?_)
    clear hP hD hS
    intro hP hD hS
    obtain ⟨fX_108, hu9, h_106⟩ := h_106
    have hPD := pd_eqQ (([_, _, _, _, _, _, _, _, _, _, _, _, _, _, _, _, _, _, _, _, _, _, _, _, _, _, _, _, zzI cy qmr 8 fX_108] : va_W) ++ (oM cy uU ++ oL cy wL)) hP hD hu9 rfl
    clear hP hD hu9
    obtain ⟨hP, hD⟩ := hPD
    subst h_106
    refine lv_ldcw hx hb hown (hts _ m_t1290) (g_19 (v := 311) bX6_keeping rfl) ?_
    refine lv_isub hx hb (g_100 bX6_keeping rfl) ?_
    refine lv_seti (v := (-1000002)) (by decide +kernel) ?_
    refine W.widen (k := 200) (n := 3552) (Nat.le_of_ble_eq_true rfl) (Nat.le_of_ble_eq_true rfl) ?_
    exact endWt [[false, false, false, false, false, false, false, false, false, false, false, false, false, false, false, false, false, false, false, false, false, false, false, false, false, false, false, true, true], [true, true, true, true, true, true, true, true, true, true, true, true, true, true, true, true, true, true, true, true, true, true, true, true, true, true, true]] hx hb hr hlocks rfl hP hD rfl (by decide +kernel) hS ⟨(uU), (wL), iWs, fX_108, rfl, trivial⟩ (g_172 bX6_keeping rfl)
