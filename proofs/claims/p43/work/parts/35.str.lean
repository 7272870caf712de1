/-! STRINGS: constants that nobody writes, and what a contract says of them -/
def SF (lB : List Int32) (a v : Nat) (A : Nat → Prop) (U : State) (H : Heap) : Prop := va_O "java/lang/String" a A U H ∧ va_OF "java/lang/String" "coder" "B" (.int 0) a A U H ∧ va_OF "java/lang/String" "value" "[B" (.ref v) a A U H ∧ va_T .byte v lB.length (fun j => .int (lB.getD j 0)) A U H ∧ va_Z "java/lang/String" "COMPACT_STRINGS" "Z" (.int 1) A U H ∧ va_Zq "jdk/internal/util/Preconditions" "SIOOBE_FORMATTER" "Ljava/util/function/BiFunction;" A U H
def XOK (X : (Nat → Prop) → State → Heap → Prop) : Prop := (∀ (A : Nat → Prop) (s U : State) (H : Heap), s.WarmedH U.vm → X A s H → X A U H) ∧ (∀ (A : Nat → Prop) (U : State) (H : Heap) (g : JFrame) (mk : MethodId) (a : Array Value), X A U H → X A (U.calling g mk a) H) ∧ (∀ (A : Nat → Prop) (U : State) (H H1 : Heap), X A U H → (∀ a : Nat, a < H.size → ¬ A a → H1[a]? = H[a]?) → X A U H1) ∧ ∀ (A B : Nat → Prop) (U : State) (H : Heap), X A U H → (∀ q, B q → A q) → X B U H
theorem SF_ok {lB : List Int32} {a v : Nat} : XOK (SF lB a v) :=
  ⟨fun A s U H hW h => ⟨va_O.moved hW.alike h.1, va_OF.moved hW.alike h.2.1, va_OF.moved hW.alike h.2.2.1, va_T.moved hW.alike h.2.2.2.1, va_Z.moved hW.alike h.2.2.2.2.1, va_Zq.moved hW.alike h.2.2.2.2.2⟩,
   fun A U H g mk a h => ⟨va_O.moved (Vm.Alike.refl U.vm) h.1, va_OF.moved (Vm.Alike.refl U.vm) h.2.1, va_OF.moved (Vm.Alike.refl U.vm) h.2.2.1, va_T.moved (Vm.Alike.refl U.vm) h.2.2.2.1, va_Z.moved (Vm.Alike.refl U.vm) h.2.2.2.2.1, va_Zq.moved (Vm.Alike.refl U.vm) h.2.2.2.2.2⟩,
   fun A U H H1 h hq => ⟨h.1.kept hq, h.2.1.kept hq, h.2.2.1.kept hq, h.2.2.2.1.kept hq, h.2.2.2.2.1.kept hq, h.2.2.2.2.2.kept hq⟩,
   fun A B U H h hq => ⟨h.1.narrow hq, h.2.1.narrow hq, h.2.2.1.narrow hq, h.2.2.2.1.narrow hq, h.2.2.2.2.1.narrow hq, h.2.2.2.2.2.narrow hq⟩⟩
def strT : List (String × Nat × String × List Int32) := [(RX3, 48, "book", [98, 111, 111, 107]), (RX3, 84, "good", [103, 111, 111, 100]), (RX3, 57, "need", [110, 101, 101, 100]), (RX3, 62, "one", [111, 110, 101]), (RX3, 101, "reads", [114, 101, 97, 100, 115]), (RX3, 103, "keeps", [107, 101, 101, 112, 115]), (RX3, 105, "tells", [116, 101, 108, 108, 115]), (RX3, 67, "knows", [107, 110, 111, 119, 115]), (RX3, 72, "white", [119, 104, 105, 116, 101]), (RX6, 198, "book", [98, 111, 111, 107]), (RX6, 199, "good", [103, 111, 111, 100]), (RX6, 204, "one", [111, 110, 101]), (RX6, 205, "reads", [114, 101, 97, 100, 115]), (RX6, 207, "keeps", [107, 101, 101, 112, 115]), (RX6, 209, "tells", [116, 101, 108, 108, 115]), (RX6, 210, "need", [110, 101, 101, 100]), (RX6, 212, "knows", [107, 110, 111, 119, 115]), (RX6, 214, "white", [119, 104, 105, 116, 101])]
def SO (A : Nat → Prop) (U : State) (H : Heap) : Prop := ∀ q ∈ strT, ∃ a v : Nat, vk_R q.1 q.2.1 q.2.2.1 a U ∧ SF q.2.2.2 a v A U H
theorem SO_ok : XOK SO :=
  ⟨fun A s U H hW h q hq => (h q hq).elim fun a h1 => h1.elim fun v h2 => ⟨a, v, vk_R.warm hW h2.1, SF_ok.1 A s U H hW h2.2⟩,
   fun A U H g mk x h q hq => (h q hq).elim fun a h1 => h1.elim fun v h2 => ⟨a, v, vk_R.same rfl h2.1, SF_ok.2.1 A U H g mk x h2.2⟩,
   fun A U H H1 h hk q hq => (h q hq).elim fun a h1 => h1.elim fun v h2 => ⟨a, v, h2.1, SF_ok.2.2.1 A U H H1 h2.2 hk⟩,
   fun A B U H h hk q hq => (h q hq).elim fun a h1 => h1.elim fun v h2 => ⟨a, v, h2.1, SF_ok.2.2.2 A B U H h2.2 hk⟩⟩
def RdX (G : va_G) (cy : Nat → ClassId) (X : (Nat → Prop) → State → Heap → Prop) (ws : va_W) (av : List Value) : Array Value → State → Prop := va_Pc av (fun U => va_P G CL ws U.heap ∧ KN G cy U ∧ XOK X ∧ X (fun _ => False) U U.heap)
def WrX (G : va_G) (cy : Nat → ClassId) (X : (Nat → Prop) → State → Heap → Prop) (ws : va_W) (sz : Nat) (av : List Value) : Array Value → State → Prop := va_Pc av (fun U => U.heap.size = sz ∧ va_P G CL ws U.heap ∧ KN G cy U ∧ va_D (fun _ => True) ws ∧ XOK X ∧ X (va_A ws sz) U U.heap)
theorem RdX.blind {G : va_G} {cy : Nat → ClassId} {X : (Nat → Prop) → State → Heap → Prop} {ws : va_W} {av : List Value} : FrameBlind (RdX G cy X ws av) := fun _ _ _ _ q => ⟨q.1, q.2.1, q.2.2.1.call, q.2.2.2.1, q.2.2.2.1.2.1 _ _ _ _ _ _ q.2.2.2.2⟩
theorem WrX.blind {G : va_G} {cy : Nat → ClassId} {X : (Nat → Prop) → State → Heap → Prop} {ws : va_W} {sz : Nat} {av : List Value} : FrameBlind (WrX G cy X ws sz av) := fun _ _ _ _ q => ⟨q.1, q.2.1, q.2.2.1, q.2.2.2.1.call, q.2.2.2.2.1, q.2.2.2.2.2.1, q.2.2.2.2.2.1.2.1 _ _ _ _ _ _ q.2.2.2.2.2.2⟩
abbrev MRX (l : Launch) (y : MethodName) (cc : ByteArray) (n : Nat) (ret : Option FieldType) (d : Nat) (G : va_G) (cy : Nat → ClassId) (X : (Nat → Prop) → State → Heap → Prop) (ws : va_W) (av : List Value) (Qc : Array Value → State → Outcome → State → Prop) : Prop := Met l y (.code y cc n ret :: BIG) (Rm d 0 0) (RdX G cy X ws av) Qc 0 0 (fun _ => False)
abbrev MWX (l : Launch) (y : MethodName) (cc : ByteArray) (n : Nat) (ret : Option FieldType) (d mc ms : Nat) (G : va_G) (cy : Nat → ClassId) (X : (Nat → Prop) → State → Heap → Prop) (ws : va_W) (sz : Nat) (av : List Value) (QA : (Nat → Prop) → Array Value → State → Outcome → State → Prop) : Prop := Met l y (.code y cc n ret :: BIG) (Rm d mc ms) (WrX G cy X ws sz av) (QA (va_A ws sz)) mc ms (va_A ws sz)
theorem enRX {l : Launch} {y : MethodName} {cc : ByteArray} {n : Nat} {ret : Option FieldType} {d : Nat} {G : va_G} {cy : Nat → ClassId} {X : (Nat → Prop) → State → Heap → Prop} {ws : va_W} {av : List Value} {Qc : Array Value → State → Outcome → State → Prop} (own : String) (hy : plainName y.cls = true) (ho : y.cls = own) (hn : (lg_sl av).length ≤ n)
    (body : ∀ (p : Program) (e : Env) (s : State) (m : MethodId) (below : List Frame) (meth : Method) (c : Code) (ls : Array Slot), p.tables.exec = Jvm.exec → c.code = cc → c.maxLocals = n → s.vm.findClass own = some m.cls → (∀ w ∈ BIG, w.before av.toArray s = true) → meth.sig.returnType = ret → meth.locks = false → va_P G CL ws s.heap → KN G cy s → lv_has ls n (lv_args 0 av) → X (fun _ => False) s s.heap →
      W p l e (Rm d 0 0) s m av.toArray below meth c s.heap [] 0 0 (MQ below Qc av.toArray s 0 0 (fun _ => False)) (F0 m 0 ls [])) : MRX l y cc n ret d G cy X ws av Qc := by
  refine Met.ofW (cc := cc) (maxL := n) (ret := ret) hy rfl ?_
  intro p e s m args below meth c s₁ B hml hv
  obtain ⟨rfl, hP, hN, hok, hX⟩ := hv
  have hts := atoms_spec (ws := .code y cc n ret :: BIG) B.pre
  have hown : s.vm.findClass own = some m.cls := by rw [← ho]; exact findClass_of_methodNamed B.named
  rw [lg_entry_eq]
  exact body p e s m below meth c _ B.exec B.bytes hml hown (fun w h => hts w (List.mem_cons_of_mem _ h)) B.returns B.notSynchronized hP hN (lv_entry av hn) hX
theorem enWX {l : Launch} {y : MethodName} {cc : ByteArray} {n : Nat} {ret : Option FieldType} {d mc ms : Nat} {G : va_G} {cy : Nat → ClassId} {X : (Nat → Prop) → State → Heap → Prop} {ws : va_W} {sz : Nat} {av : List Value} {QA : (Nat → Prop) → Array Value → State → Outcome → State → Prop} (own : String) (hy : plainName y.cls = true) (ho : y.cls = own) (hn : (lg_sl av).length ≤ n)
    (body : ∀ (p : Program) (e : Env) (s : State) (m : MethodId) (below : List Frame) (meth : Method) (c : Code) (ls : Array Slot) (A : Nat → Prop), p.tables.exec = Jvm.exec → c.code = cc → c.maxLocals = n → s.vm.findClass own = some m.cls → (∀ w ∈ BIG, w.before av.toArray s = true) → meth.sig.returnType = ret → meth.locks = false → va_P G CL ws s.heap → KN G cy s → lv_has ls n (lv_args 0 av) → meth.name = y.name →
      va_D A ws → (∀ q : Nat, s.heap.size ≤ q → A q) → va_S A s.heap s.heap [] → X A s s.heap →
      W p l e (Rm d mc ms) s m av.toArray below meth c s.heap [] 0 0 (MQ below (QA A) av.toArray s mc ms A) (F0 m 0 ls [])) : MWX l y cc n ret d mc ms G cy X ws sz av QA := by
  refine Met.ofW (cc := cc) (maxL := n) (ret := ret) hy rfl ?_
  intro p e s m args below meth c s₁ B hml hv
  obtain ⟨rfl, hsz, hP, hN, hD0, hok, hX⟩ := hv
  have hts := atoms_spec (ws := .code y cc n ret :: BIG) B.pre
  have hown : s.vm.findClass own = some m.cls := by rw [← ho]; exact findClass_of_methodNamed B.named
  subst hsz
  rw [lg_entry_eq]
  exact body p e s m below meth c _ _ B.exec B.bytes hml hown (fun w h => hts w (List.mem_cons_of_mem _ h)) B.returns B.notSynchronized hP hN (lv_entry av hn) (name_of_methodNamed B.named B.method).1 hD0.self (fun q h => Or.inr h) va_S.rf hX
theorem xq {X : (Nat → Prop) → State → Heap → Prop} {A B : Nat → Prop} {s U : State} {H : Heap} {locs : List Loc} (ok : XOK X) (hX : X A s s.heap) (hS : va_S A s.heap H locs) (hU : U.heap = H) (hW : s.WarmedH U.vm) (hB : ∀ q, B q → A q) : X B U U.heap := by
  rw [hU]
  exact ok.2.2.2 A B U H (ok.1 A s U H hW (ok.2.2.1 A s s.heap H hX hS.2.1)) hB
section STRC
variable {s : State} {H : Heap} {locs : List Loc} {b : Addr} {As : List Value} {G : va_G} {cy : Nat → ClassId} {X : (Nat → Prop) → State → Heap → Prop} {ws wc : va_W} {A : Nat → Prop}
theorem preRVX {q : vw_C} {fs : List Value} (hN : KN G cy s) (hP : va_P G CL ws H) (isC : List Nat) (hC : isC.filterMap (fun i => ws[i]?) = wc) (qr ci : Nat) (he : ws[qr]? = some (b, .inr (ci, fs))) (hc : CL[ci]? = some q) (ok : XOK X) (hX : X A s s.heap) (hS : va_S A s.heap H locs) : PreV s H q.1 b (RdX G cy X wc (.ref b :: As)) As :=
  ⟨RdX.blind, va_recv hN.1 hP hc he, fun U hU hW => ⟨rfl, by rw [hU]; exact hP.sub isC hC, hN.warm hW, ok, xq ok hX hS hU hW (fun _ h => h.elim)⟩⟩
theorem preRSX (hN : KN G cy s) (hP : va_P G CL ws H) (isC : List Nat) (hC : isC.filterMap (fun i => ws[i]?) = wc) (ok : XOK X) (hX : X A s s.heap) (hS : va_S A s.heap H locs) : PreS s H (RdX G cy X wc As) As :=
  ⟨RdX.blind, fun U hU hW => ⟨rfl, by rw [hU]; exact hP.sub isC hC, hN.warm hW, ok, xq ok hX hS hU hW (fun _ h => h.elim)⟩⟩
theorem preRVS {lB : List Int32} {v : Nat} (hN : KN G cy s) (hX : SF lB b v A s s.heap) (hS : va_S A s.heap H locs) : PreV s H "java/lang/String" b (RdX G cy (SF lB b v) [] (.ref b :: As)) As := by
  obtain ⟨cell, h1, h2, h3, -⟩ := hX.1.kept hS.2.1
  exact ⟨RdX.blind, ⟨cell, h1, h2, h3⟩, fun U hU hW => ⟨rfl, va_P0, hN.warm hW, SF_ok, xq SF_ok hX hS hU hW (fun _ h => h.elim)⟩⟩
theorem preWVX {q : vw_C} {fs : List Value} (hN : KN G cy s) (hP : va_P G CL ws H) (hD : va_D A ws) (isC : List Nat) (hC : isC.map (fun i => ws[i]?) = wc.map some) (hn : va_nd isC = true) (qr ci : Nat) (he : ws[qr]? = some (b, .inr (ci, fs))) (hc : CL[ci]? = some q) (ok : XOK X) (hX : X A s s.heap) (hS : va_S A s.heap H locs) (hA : ∀ q, s.heap.size ≤ q → A q) : PreV s H q.1 b (WrX G cy X wc H.size (.ref b :: As)) As :=
  ⟨WrX.blind, va_recv hN.1 hP hc he, fun U hU hW => ⟨rfl, by rw [hU], by rw [hU]; exact hP.sub isC (va_sub2 hC), hN.warm hW, (hD.sub isC hn hC).weaken (fun _ _ _ _ => trivial), ok, xq ok hX hS hU hW (va_free hD hS hA isC hC)⟩⟩
end STRC
/-- a method that only reads, and answers nothing -/
def vp_S0 : Array Value → State → Outcome → State → Prop := fun _ st o t => o = .returned none ∧ t.heap = st.heap
section STRD
variable {p : Program} {l : Launch} {e : Env} {R : Room} {s : State} {m : MethodId} {args : Array Value} {below : List Frame} {meth : Method} {c : Code} {H : Heap} {locs : List Loc} {cells slots : Nat} {Q : State → Prop} {cc : ByteArray} {pc : Nat} {ls : Array Slot} {rest st0 : List Value} {a : Array Value}
theorem kR0 (hr : va_Run p l e R s m args below meth c H locs cells slots 0 0 (F0 m pc ls st0) rest (vp_S0 a) (fun _ => False))
    (kk : W p l e R s m args below meth c H locs cells slots Q (F0 m (pc + 3) ls rest)) : W p l e R s m args below meth c H locs cells slots Q (F0 m pc ls st0) := by
  intro T hT X
  obtain ⟨v, st₀, t, T', L, h0, X', hL, e1, e2, ⟨hv, hh⟩, st⟩ := hr T hT X
  cases hv
  obtain ⟨t2, a1, b1⟩ := kk T' (by rw [e1, hh, h0]) (Stand.forget X' (fun q h => (hL q h).elim))
  exact ⟨t2, st t2 a1, b1⟩
theorem endR0 (hexec : p.tables.exec = Jvm.exec) (hb : c.code = cc) (hr : meth.sig.returnType = none) (hlocks : meth.locks = false) (hdg : decode cc pc = .ok (.return_, 1)) : W p l e R s m args below meth c s.heap [] cells slots (MQ below vp_S0 args s cells slots (fun _ => False)) (F0 m pc ls []) :=
  W.vret hexec hb hr (fun _ ht _ => ⟨rfl, ht⟩) (fun _ h => by cases h) hdg
end STRD
theorem sh0 (x : Int32) : x >>> ((0 : Int32) &&& 31) = x := by
  apply Int32.toInt_inj.mp
  rw [pk_shr x _ 0 (by decide)]
  simp
theorem ch8 : ∀ n : Nat, n < 128 → ((nI n) &&& 255) = nI n := by decide +kernel
