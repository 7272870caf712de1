section
/-! STRINGS: constants that nobody writes, and what a contract says of them -/
noncomputable def SF (lB : List Int32) (a v : Nat) (A : Nat → Prop) (U : State) (H : Heap) : Prop := va_O "java/lang/String" a A U H ∧ va_OF "java/lang/String" "coder" "B" (.int 0) a A U H ∧ va_OF "java/lang/String" "value" "[B" (.ref v) a A U H ∧ va_T .byte v lB.length (fun j => .int (lB.getD j 0)) A U H ∧ va_Z "java/lang/String" "COMPACT_STRINGS" "Z" (.int 1) A U H ∧ va_Zq "jdk/internal/util/Preconditions" "SIOOBE_FORMATTER" "Ljava/util/function/BiFunction;" A U H
noncomputable def XOK (X : (Nat → Prop) → State → Heap → Prop) : Prop := (∀ (A : Nat → Prop) (s U : State) (H : Heap), s.WarmedH U.vm → X A s H → X A U H) ∧ (∀ (A : Nat → Prop) (U : State) (H : Heap) (g : JFrame) (mk : MethodId) (a : Array Value), X A U H → X A (U.calling g mk a) H) ∧ (∀ (A : Nat → Prop) (U : State) (H H1 : Heap), X A U H → (∀ a : Nat, a < H.size → ¬ A a → H1[a]? = H[a]?) → X A U H1) ∧ ∀ (A B : Nat → Prop) (U : State) (H : Heap), X A U H → (∀ q, B q → A q) → X B U H
theorem SF_ok {lB : List Int32} {a v : Nat} : XOK (SF lB a v) :=
  ⟨fun A s U H hW h => ⟨va_O.moved hW.alike h.1, va_OF.moved hW.alike h.2.1, va_OF.moved hW.alike h.2.2.1, va_T.moved hW.alike h.2.2.2.1, va_Z.moved hW.alike h.2.2.2.2.1, va_Zq.moved hW.alike h.2.2.2.2.2⟩,
   fun A U H g mk a h => ⟨va_O.moved (Vm.Alike.refl U.vm) h.1, va_OF.moved (Vm.Alike.refl U.vm) h.2.1, va_OF.moved (Vm.Alike.refl U.vm) h.2.2.1, va_T.moved (Vm.Alike.refl U.vm) h.2.2.2.1, va_Z.moved (Vm.Alike.refl U.vm) h.2.2.2.2.1, va_Zq.moved (Vm.Alike.refl U.vm) h.2.2.2.2.2⟩,
   fun A U H H1 h hq => ⟨h.1.kept hq, h.2.1.kept hq, h.2.2.1.kept hq, h.2.2.2.1.kept hq, h.2.2.2.2.1.kept hq, h.2.2.2.2.2.kept hq⟩,
   fun A B U H h hq => ⟨h.1.narrow hq, h.2.1.narrow hq, h.2.2.1.narrow hq, h.2.2.2.1.narrow hq, h.2.2.2.2.1.narrow hq, h.2.2.2.2.2.narrow hq⟩⟩
noncomputable def strT : List (String × Nat × String × List Int32) := [(RX3, 48, "book", [98, 111, 111, 107]), (RX3, 84, "good", [103, 111, 111, 100]), (RX3, 57, "need", [110, 101, 101, 100]), (RX3, 62, "one", [111, 110, 101]), (RX3, 101, "reads", [114, 101, 97, 100, 115]), (RX3, 103, "keeps", [107, 101, 101, 112, 115]), (RX3, 105, "tells", [116, 101, 108, 108, 115]), (RX3, 67, "knows", [107, 110, 111, 119, 115]), (RX3, 72, "white", [119, 104, 105, 116, 101]), (RX6, 198, "book", [98, 111, 111, 107]), (RX6, 199, "good", [103, 111, 111, 100]), (RX6, 204, "one", [111, 110, 101]), (RX6, 205, "reads", [114, 101, 97, 100, 115]), (RX6, 207, "keeps", [107, 101, 101, 112, 115]), (RX6, 209, "tells", [116, 101, 108, 108, 115]), (RX6, 210, "need", [110, 101, 101, 100]), (RX6, 212, "knows", [107, 110, 111, 119, 115]), (RX6, 214, "white", [119, 104, 105, 116, 101])]
noncomputable def SO (A : Nat → Prop) (U : State) (H : Heap) : Prop := ∀ q ∈ strT, ∃ a v : Nat, vk_R q.1 q.2.1 q.2.2.1 a U ∧ SF q.2.2.2 a v A U H
theorem SO_ok : XOK SO :=
  ⟨fun A s U H hW h q hq => (h q hq).elim fun a h1 => h1.elim fun v h2 => ⟨a, v, vk_R.warm hW h2.1, SF_ok.1 A s U H hW h2.2⟩,
   fun A U H g mk x h q hq => (h q hq).elim fun a h1 => h1.elim fun v h2 => ⟨a, v, vk_R.same rfl h2.1, SF_ok.2.1 A U H g mk x h2.2⟩,
   fun A U H H1 h hk q hq => (h q hq).elim fun a h1 => h1.elim fun v h2 => ⟨a, v, h2.1, SF_ok.2.2.1 A U H H1 h2.2 hk⟩,
   fun A B U H h hk q hq => (h q hq).elim fun a h1 => h1.elim fun v h2 => ⟨a, v, h2.1, SF_ok.2.2.2 A B U H h2.2 hk⟩⟩
noncomputable def RdX (G : va_G) (cy : Nat → ClassId) (X : (Nat → Prop) → State → Heap → Prop) (ws : va_W) (av : List Value) : Array Value → State → Prop := va_Pc av (fun U => va_P G CL ws U.heap ∧ KN G cy U ∧ XOK X ∧ X (fun _ => False) U U.heap)
noncomputable def WrX (G : va_G) (cy : Nat → ClassId) (X : (Nat → Prop) → State → Heap → Prop) (ws : va_W) (sz : Nat) (av : List Value) : Array Value → State → Prop := va_Pc av (fun U => U.heap.size = sz ∧ va_P G CL ws U.heap ∧ KN G cy U ∧ va_D (fun _ => True) ws ∧ XOK X ∧ X (va_A ws sz) U U.heap)
theorem RdX.blind {G : va_G} {cy : Nat → ClassId} {X : (Nat → Prop) → State → Heap → Prop} {ws : va_W} {av : List Value} : FrameBlind (RdX G cy X ws av) := fun _ _ _ _ q => ⟨q.1, q.2.1, q.2.2.1.call, q.2.2.2.1, q.2.2.2.1.2.1 _ _ _ _ _ _ q.2.2.2.2⟩
theorem WrX.blind {G : va_G} {cy : Nat → ClassId} {X : (Nat → Prop) → State → Heap → Prop} {ws : va_W} {sz : Nat} {av : List Value} : FrameBlind (WrX G cy X ws sz av) := fun _ _ _ _ q => ⟨q.1, q.2.1, q.2.2.1, q.2.2.2.1.call, q.2.2.2.2.1, q.2.2.2.2.2.1, q.2.2.2.2.2.1.2.1 _ _ _ _ _ _ q.2.2.2.2.2.2⟩
noncomputable abbrev MRX (l : Launch) (y : MethodName) (cc : ByteArray) (n : Nat) (ret : Option FieldType) (d : Nat) (G : va_G) (cy : Nat → ClassId) (X : (Nat → Prop) → State → Heap → Prop) (ws : va_W) (av : List Value) (Qc : Array Value → State → Outcome → State → Prop) : Prop := Met l y (.code y cc n ret :: BIG) (Rm d 0 0) (RdX G cy X ws av) Qc 0 0 (fun _ => False)
noncomputable abbrev MWX (l : Launch) (y : MethodName) (cc : ByteArray) (n : Nat) (ret : Option FieldType) (d mc ms : Nat) (G : va_G) (cy : Nat → ClassId) (X : (Nat → Prop) → State → Heap → Prop) (ws : va_W) (sz : Nat) (av : List Value) (QA : (Nat → Prop) → Array Value → State → Outcome → State → Prop) : Prop := Met l y (.code y cc n ret :: BIG) (Rm d mc ms) (WrX G cy X ws sz av) (QA (va_A ws sz)) mc ms (va_A ws sz)
theorem enRX {l : Launch} {y : MethodName} {cc : ByteArray} {n : Nat} {ret : Option FieldType} {d : Nat} {G : va_G} {cy : Nat → ClassId} {X : (Nat → Prop) → State → Heap → Prop} {ws : va_W} {av : List Value} {Qc : Array Value → State → Outcome → State → Prop} (own : String) (hy : plainName y.cls = true) (ho : y.cls = own) (hn : (lg_sl av).length ≤ n)
    (body : ∀ (p : Program) (e : Env) (s : State) (m : MethodId) (below : List Frame) (meth : Method) (c : Code) (ls : Array Slot), p.tables.exec = Jvm.exec → c.code = cc → c.maxLocals = n → s.vm.findClass own = some m.cls → (∀ w ∈ BIG, w.before av.toArray s = true) → meth.sig.returnType = ret → meth.locks = false → va_P G CL ws s.heap → KN G cy s → lv_has ls n (lv_args 0 av) → X (fun _ => False) s s.heap →
      W p l e (Rm d 0 0) s m av.toArray below meth c s.heap [] 0 0 (MQ below Qc av.toArray s 0 0 (fun _ => False)) (F0 m 0 ls [])) : MRX l y cc n ret d G cy X ws av Qc := by
  refine Met.ofW (cc := cc) (maxL := n) (ret := ret) hy rfl ?_
  intro p e s m args below meth c s₁ B hml hv
  obtain ⟨rfl, hP, hN, hok, hX⟩ := hv
  have hts := atoms_spec (ws := .code y cc n ret :: BIG) B.pre
  have hown : s.vm.findClass own = some m.cls := by rw [← ho]; exact findClass_of_methodNamed B.named
  rw [lg_entry_eq]
  exact body p e s m below meth c _ B.exec B.bytes hml hown (fun w h => hts w (List.mem_cons_of_mem _ h)) B.returns B.notSynchronized hP hN (lv_entry av hn) hX
theorem enWX {l : Launch} {y : MethodName} {cc : ByteArray} {n : Nat} {ret : Option FieldType} {d mc ms : Nat} {G : va_G} {cy : Nat → ClassId} {X : (Nat → Prop) → State → Heap → Prop} {ws : va_W} {sz : Nat} {av : List Value} {QA : (Nat → Prop) → Array Value → State → Outcome → State → Prop} (own : String) (hy : plainName y.cls = true) (ho : y.cls = own) (hn : (lg_sl av).length ≤ n)
    (body : ∀ (p : Program) (e : Env) (s : State) (m : MethodId) (below : List Frame) (meth : Method) (c : Code) (ls : Array Slot) (A : Nat → Prop), p.tables.exec = Jvm.exec → c.code = cc → c.maxLocals = n → s.vm.findClass own = some m.cls → (∀ w ∈ BIG, w.before av.toArray s = true) → meth.sig.returnType = ret → meth.locks = false → va_P G CL ws s.heap → KN G cy s → lv_has ls n (lv_args 0 av) → meth.name = y.name →
      va_D A ws → (∀ q : Nat, s.heap.size ≤ q → A q) → va_S A s.heap s.heap [] → X A s s.heap →
      W p l e (Rm d mc ms) s m av.toArray below meth c s.heap [] 0 0 (MQ below (QA A) av.toArray s mc ms A) (F0 m 0 ls [])) : MWX l y cc n ret d mc ms G cy X ws sz av QA := by
  refine Met.ofW (cc := cc) (maxL := n) (ret := ret) hy rfl ?_
  intro p e s m args below meth c s₁ B hml hv
  obtain ⟨rfl, hsz, hP, hN, hD0, hok, hX⟩ := hv
  have hts := atoms_spec (ws := .code y cc n ret :: BIG) B.pre
  have hown : s.vm.findClass own = some m.cls := by rw [← ho]; exact findClass_of_methodNamed B.named
  subst hsz
  rw [lg_entry_eq]
  exact body p e s m below meth c _ _ B.exec B.bytes hml hown (fun w h => hts w (List.mem_cons_of_mem _ h)) B.returns B.notSynchronized hP hN (lv_entry av hn) (name_of_methodNamed B.named B.method).1 hD0.self (fun q h => Or.inr h) va_S.rf hX
theorem xq {X : (Nat → Prop) → State → Heap → Prop} {A B : Nat → Prop} {s U : State} {H : Heap} {locs : List Loc} (ok : XOK X) (hX : X A s s.heap) (hS : va_S A s.heap H locs) (hU : U.heap = H) (hW : s.WarmedH U.vm) (hB : ∀ q, B q → A q) : X B U U.heap := by
  rw [hU]
  exact ok.2.2.2 A B U H (ok.1 A s U H hW (ok.2.2.1 A s s.heap H hX hS.2.1)) hB
section STRC
variable {s : State} {H : Heap} {locs : List Loc} {b : Addr} {As : List Value} {G : va_G} {cy : Nat → ClassId} {X : (Nat → Prop) → State → Heap → Prop} {ws wc : va_W} {A : Nat → Prop}
theorem preRVX {q : vw_C} {fs : List Value} (hN : KN G cy s) (hP : va_P G CL ws H) (isC : List Nat) (hC : isC.filterMap (fun i => ws[i]?) = wc) (qr ci : Nat) (he : ws[qr]? = some (b, .inr (ci, fs))) (hc : CL[ci]? = some q) (ok : XOK X) (hX : X A s s.heap) (hS : va_S A s.heap H locs) : PreV s H q.1 b (RdX G cy X wc (.ref b :: As)) As :=
  ⟨RdX.blind, va_recv hN.1 hP hc he, fun U hU hW => ⟨rfl, by rw [hU]; exact hP.sub isC hC, hN.warm hW, ok, xq ok hX hS hU hW (fun _ h => h.elim)⟩⟩
theorem preRSX (hN : KN G cy s) (hP : va_P G CL ws H) (isC : List Nat) (hC : isC.filterMap (fun i => ws[i]?) = wc) (ok : XOK X) (hX : X A s s.heap) (hS : va_S A s.heap H locs) : PreS s H (RdX G cy X wc As) As :=
  ⟨RdX.blind, fun U hU hW => ⟨rfl, by rw [hU]; exact hP.sub isC hC, hN.warm hW, ok, xq ok hX hS hU hW (fun _ h => h.elim)⟩⟩
theorem preRVS {lB : List Int32} {v : Nat} (hN : KN G cy s) (hX : SF lB b v A s s.heap) (hS : va_S A s.heap H locs) : PreV s H "java/lang/String" b (RdX G cy (SF lB b v) [] (.ref b :: As)) As := by
  obtain ⟨cell, h1, h2, h3, -⟩ := hX.1.kept hS.2.1
  exact ⟨RdX.blind, ⟨cell, h1, h2, h3⟩, fun U hU hW => ⟨rfl, va_P0, hN.warm hW, SF_ok, xq SF_ok hX hS hU hW (fun _ h => h.elim)⟩⟩
theorem preWVX {q : vw_C} {fs : List Value} (hN : KN G cy s) (hP : va_P G CL ws H) (hD : va_D A ws) (isC : List Nat) (hC : isC.map (fun i => ws[i]?) = wc.map some) (hn : va_nd isC = true) (qr ci : Nat) (he : ws[qr]? = some (b, .inr (ci, fs))) (hc : CL[ci]? = some q) (ok : XOK X) (hX : X A s s.heap) (hS : va_S A s.heap H locs) (hA : ∀ q, s.heap.size ≤ q → A q) : PreV s H q.1 b (WrX G cy X wc H.size (.ref b :: As)) As :=
  ⟨WrX.blind, va_recv hN.1 hP hc he, fun U hU hW => ⟨rfl, by rw [hU], by rw [hU]; exact hP.sub isC (va_sub2 hC), hN.warm hW, (hD.sub isC hn hC).weaken (fun _ _ _ _ => trivial), ok, xq ok hX hS hU hW (va_free hD hS hA isC hC)⟩⟩
end STRC
/-- a method that only reads, and answers nothing -/
noncomputable def vp_S0 : Array Value → State → Outcome → State → Prop := fun _ st o t => o = .returned none ∧ t.heap = st.heap
section STRD
variable {p : Program} {l : Launch} {e : Env} {R : Room} {s : State} {m : MethodId} {args : Array Value} {below : List Frame} {meth : Method} {c : Code} {H : Heap} {locs : List Loc} {cells slots : Nat} {Q : State → Prop} {cc : ByteArray} {pc : Nat} {ls : Array Slot} {rest st0 : List Value} {a : Array Value}
theorem kR0 (hr : va_Run p l e R s m args below meth c H locs cells slots 0 0 (F0 m pc ls st0) rest (vp_S0 a) (fun _ => False))
    (kk : W p l e R s m args below meth c H locs cells slots Q (F0 m (pc + 3) ls rest)) : W p l e R s m args below meth c H locs cells slots Q (F0 m pc ls st0) := by
  intro T hT X
  obtain ⟨v, st₀, t, T', L, h0, X', hL, e1, e2, ⟨hv, hh⟩, st⟩ := hr T hT X
  cases hv
  obtain ⟨t2, a1, b1⟩ := kk T' (by rw [e1, hh, h0]) (Stand.forget X' (fun q h => (hL q h).elim))
  exact ⟨t2, st t2 a1, b1⟩
theorem endR0 (hexec : p.tables.exec = Jvm.exec) (hb : c.code = cc) (hr : meth.sig.returnType = none) (hlocks : meth.locks = false) (hdg : decode cc pc = .ok (.return_, 1)) : W p l e R s m args below meth c s.heap [] cells slots (MQ below vp_S0 args s cells slots (fun _ => False)) (F0 m pc ls []) :=
  W.vret hexec hb hr (fun _ ht _ => ⟨rfl, ht⟩) (fun _ h => by cases h) hdg
end STRD
theorem sh0 (x : Int32) : x >>> ((0 : Int32) &&& 31) = x := by
  apply Int32.toInt_inj.mp
  rw [pk_shr x _ 0 (by decide +kernel)]
  simp
theorem ch8 : ∀ n : Nat, n < 128 → ((nI n) &&& 255) = nI n := by decide +kernel
end
section
theorem L_J0_335 : LkV RJ0 335 RJ0 yJ0_coder_7d493 cJ0_coder_7d493 1 (some .byte) 0 := ⟨m_t468, m_t10, m_t471, ⟨by decide +kernel, by decide +kernel, by decide +kernel⟩, m_t469, m_t470⟩
theorem L_J0_492 : LkV RJ0 492 RJ0 yJ0_isLatin1_aae02 cJ0_isLatin1_aae02 1 (some .boolean) 0 := ⟨m_t478, m_t10, m_t481, ⟨by decide +kernel, by decide +kernel, by decide +kernel⟩, m_t479, m_t480⟩
theorem L_J0_495 : LkS RJ0 495 yJ1_charAt_3b067 cJ1_charAt_3b067 2 (some .char) 2 := ⟨m_t482, m_t11, m_t484, ⟨by decide +kernel, by decide +kernel, by decide +kernel⟩, m_t483⟩
theorem L_J1_9 : LkS RJ1 9 yJ0_checkIndex_df160 cJ0_checkIndex_df160 2 none 2 := ⟨m_t485, m_t10, m_t487, ⟨by decide +kernel, by decide +kernel, by decide +kernel⟩, m_t486⟩
theorem L_J0_1059 : LkS RJ0 1059 yJ3_checkIndex_8e157 cJ3_checkIndex_8e157 3 (some .int) 3 := ⟨m_t490, m_t12, m_t492, ⟨by decide +kernel, by decide +kernel, by decide +kernel⟩, m_t491⟩
set_option maxHeartbeats 4000000 in
theorem j_coder (l : Launch) (G : va_G) (cy : Nat → ClassId)  (lB : List Int32) (qw qv : Nat) : MRX l yJ0_coder_7d493 cJ0_coder_7d493 1 (some .byte) 1 G cy (SF lB qw qv) [] [.ref qw] (vp_Si (fun r => r = 0)) := by
  refine enRX RJ0 (by decide +kernel) rfl (Nat.le_of_ble_eq_true rfl) (fun p e s m below meth c ls hx hb hml hown hts hr hlocks hP hN hl hX => ?_)
  have hl : lv_has ls 1 [(0, .ref qw)] := hl
  refine va_gets hx hb (v := .int 1) hX.2.2.2.2.1 va_S.rf hown (hts _ m_t472) (fun _ h => h) (g_178 (v := 38) bJ0_coder_7d493 rfl) ?_
  refine lv_if_eq (tgt := 13) hx hb dJ0_coder_7d493_3 (by decide +kernel) (fun h9 => absurd h9 (by decide +kernel)) (fun _ => ?_)
  refine lv_aload_n hx hb (g_42 bJ0_coder_7d493 rfl) rfl (lv_at hl 0 rfl) ?_
  refine vk_getf hx hb hX.2.1 va_S.rf hown (hts _ m_t1394) (fun _ h => h) (g_180 (v := 15) bJ0_coder_7d493 rfl) ?_
  refine lv_goto (tgt := 14) hx hb dJ0_coder_7d493_10 (by decide +kernel) ?_
  exact endR hx hb hr hlocks rfl rfl (g_172 bJ0_coder_7d493 rfl)
set_option maxHeartbeats 4000000 in
theorem j_isLatin1 (l : Launch) (G : va_G) (cy : Nat → ClassId)  (lB : List Int32) (qw qv : Nat) : MRX l yJ0_isLatin1_aae02 cJ0_isLatin1_aae02 1 (some .boolean) 1 G cy (SF lB qw qv) [] [.ref qw] (vp_Si (fun r => r = 1)) := by
  refine enRX RJ0 (by decide +kernel) rfl (Nat.le_of_ble_eq_true rfl) (fun p e s m below meth c ls hx hb hml hown hts hr hlocks hP hN hl hX => ?_)
  have hl : lv_has ls 1 [(0, .ref qw)] := hl
  refine va_gets hx hb (v := .int 1) hX.2.2.2.2.1 va_S.rf hown (hts _ m_t472) (fun _ h => h) (g_178 (v := 38) bJ0_isLatin1_aae02 rfl) ?_
  refine lv_if_eq (tgt := 17) hx hb dJ0_isLatin1_aae02_3 (by decide +kernel) (fun h9 => absurd h9 (by decide +kernel)) (fun _ => ?_)
  refine lv_aload_n hx hb (g_42 bJ0_isLatin1_aae02 rfl) rfl (lv_at hl 0 rfl) ?_
  refine vk_getf hx hb hX.2.1 va_S.rf hown (hts _ m_t1394) (fun _ h => h) (g_180 (v := 15) bJ0_isLatin1_aae02 rfl) ?_
  refine lv_if_ne (tgt := 17) hx hb dJ0_isLatin1_aae02_10 (by decide +kernel) (fun h9 => absurd rfl h9) (fun _ => ?_)
  refine lv_iconst (v := 1) hx hb (g_4 bJ0_isLatin1_aae02 rfl) (by decide +kernel) ?_
  refine lv_goto (tgt := 18) hx hb dJ0_isLatin1_aae02_14 (by decide +kernel) ?_
  exact endR hx hb hr hlocks rfl rfl (g_172 bJ0_isLatin1_aae02 rfl)
set_option maxHeartbeats 4000000 in
theorem j_length (l : Launch) (G : va_G) (cy : Nat → ClassId)  (lB : List Int32) (qw qv : Nat) : MRX l yJ0_length_8abf5 cJ0_length_8abf5 1 (some .int) 2 G cy (SF lB qw qv) [] [.ref qw] (vp_Si (fun r => r = nI lB.length)) := by
  refine enRX RJ0 (by decide +kernel) rfl (Nat.le_of_ble_eq_true rfl) (fun p e s m below meth c ls hx hb hml hown hts hr hlocks hP hN hl hX => ?_)
  have hl : lv_has ls 1 [(0, .ref qw)] := hl
  refine lv_aload_n hx hb (g_42 bJ0_length_8abf5 rfl) rfl (lv_at hl 0 rfl) ?_
  refine vk_getf hx hb hX.2.2.1 va_S.rf hown (hts _ m_t1393) (fun _ h => h) (g_180 (v := 9) bJ0_length_8abf5 rfl) ?_
  refine va_tlen hx hb hX.2.2.2.1 va_S.rf (v := nI lB.length) rfl (g_190 bJ0_length_8abf5 rfl) ?_
  refine lv_aload_n hx hb (g_42 bJ0_length_8abf5 rfl) rfl (lv_at hl 0 rfl) ?_
  refine kRi (rV (As := []) (rest := [.int (nI lB.length)]) (b := qw) ⟨hx, hb, hml, hown, hts⟩ (j_coder l G cy lB qw qv) L_J0_335 (preRVS hN hX va_S.rf) rfl ⟨Nat.le_of_ble_eq_true rfl, Nat.le_of_ble_eq_true rfl⟩ hl.1 (Nat.le_of_ble_eq_true rfl) (g_182 (v := 335) bJ0_length_8abf5 rfl) ⟨Nat.le_of_ble_eq_true rfl, Nat.le_of_ble_eq_true rfl⟩) (fun r h => ?_)
  subst h
  refine lv_ishr hx hb (g_122 bJ0_length_8abf5 rfl) ?_
  refine lv_seti (sh0 _) ?_
  exact endR hx hb hr hlocks rfl rfl (g_172 bJ0_length_8abf5 rfl)
set_option maxHeartbeats 4000000 in
theorem j_pcheck (l : Launch) (G : va_G) (cy : Nat → ClassId)  (qF : Nat) (kI kN : Nat) (hI : kI < kN) (hN0 : kN < 2 ^ 31) : MR l yJ3_checkIndex_8e157 cJ3_checkIndex_8e157 3 (some .int) 1 G cy [] [.int (nI kI), .int (nI kN), .ref qF] (vp_Si (fun r => r = nI kI)) := by
  refine enR RJ3 (by decide +kernel) rfl (Nat.le_of_ble_eq_true rfl) (fun p e s m below meth c ls hx hb hml hown hts hr hlocks hP hN hl => ?_)
  have hl : lv_has ls 3 [(0, .int (nI kI)), (1, .int (nI kN)), (2, .ref qF)] := hl
  refine lv_iload_n hx hb (g_26 bJ3_checkIndex_8e157 rfl) rfl (lv_at hl 0 rfl) ?_
  refine lv_if_lt (tgt := 9) hx hb dJ3_checkIndex_8e157_1 (by decide +kernel) (fun h9 => absurd h9 (nI_pos (by omega))) (fun _ => ?_)
  refine lv_iload_n hx hb (g_26 bJ3_checkIndex_8e157 rfl) rfl (lv_at hl 0 rfl) ?_
  refine lv_iload_n hx hb (g_27 bJ3_checkIndex_8e157 rfl) rfl (lv_at hl 1 rfl) ?_
  refine lv_icmp_lt (tgt := 16) hx hb dJ3_checkIndex_8e157_6 (by decide +kernel) (fun _ => ?_) (fun h9 => absurd (Int32.not_le.mp (nI_ge hI (by omega))) h9)
  refine lv_iload_n hx hb (g_26 bJ3_checkIndex_8e157 rfl) rfl (lv_at hl 0 rfl) ?_
  exact endR hx hb hr hlocks rfl rfl (g_172 bJ3_checkIndex_8e157 rfl)
set_option maxHeartbeats 4000000 in
theorem j_pcheckN (l : Launch) (G : va_G) (cy : Nat → ClassId)  (kI kN : Nat) (hI : kI < kN) (hN0 : kN < 2 ^ 31) : MR l yJ3_checkIndex_8e157 cJ3_checkIndex_8e157 3 (some .int) 1 G cy [] [.int (nI kI), .int (nI kN), .null] (vp_Si (fun r => r = nI kI)) := by
  refine enR RJ3 (by decide +kernel) rfl (Nat.le_of_ble_eq_true rfl) (fun p e s m below meth c ls hx hb hml hown hts hr hlocks hP hN hl => ?_)
  have hl : lv_has ls 3 [(0, .int (nI kI)), (1, .int (nI kN)), (2, .null)] := hl
  refine lv_iload_n hx hb (g_26 bJ3_checkIndex_8e157 rfl) rfl (lv_at hl 0 rfl) ?_
  refine lv_if_lt (tgt := 9) hx hb dJ3_checkIndex_8e157_1 (by decide +kernel) (fun h9 => absurd h9 (nI_pos (by omega))) (fun _ => ?_)
  refine lv_iload_n hx hb (g_26 bJ3_checkIndex_8e157 rfl) rfl (lv_at hl 0 rfl) ?_
  refine lv_iload_n hx hb (g_27 bJ3_checkIndex_8e157 rfl) rfl (lv_at hl 1 rfl) ?_
  refine lv_icmp_lt (tgt := 16) hx hb dJ3_checkIndex_8e157_6 (by decide +kernel) (fun _ => ?_) (fun h9 => absurd (Int32.not_le.mp (nI_ge hI (by omega))) h9)
  refine lv_iload_n hx hb (g_26 bJ3_checkIndex_8e157 rfl) rfl (lv_at hl 0 rfl) ?_
  exact endR hx hb hr hlocks rfl rfl (g_172 bJ3_checkIndex_8e157 rfl)
set_option maxHeartbeats 4000000 in
theorem j_check (l : Launch) (G : va_G) (cy : Nat → ClassId)  (lB : List Int32) (qw qv kI kN : Nat) (hI : kI < kN) (hN0 : kN < 2 ^ 31) : MRX l yJ0_checkIndex_df160 cJ0_checkIndex_df160 2 none 2 G cy (SF lB qw qv) [] [.int (nI kI), .int (nI kN)] vp_S0 := by
  refine enRX RJ0 (by decide +kernel) rfl (Nat.le_of_ble_eq_true rfl) (fun p e s m below meth c ls hx hb hml hown hts hr hlocks hP hN hl hX => ?_)
  have hl : lv_has ls 2 [(0, .int (nI kI)), (1, .int (nI kN))] := hl
  rcases hX.2.2.2.2.2 with hf | ⟨qf, hf⟩
  · refine lv_iload_n hx hb (g_26 bJ0_checkIndex_df160 rfl) rfl (lv_at hl 0 rfl) ?_
    refine lv_iload_n hx hb (g_27 bJ0_checkIndex_df160 rfl) rfl (lv_at hl 1 rfl) ?_
    refine va_gets hx hb (v := .null) hf va_S.rf hown (hts _ m_t488) (fun _ h => h) (g_178 (v := 1053) bJ0_checkIndex_df160 rfl) ?_
    refine kRi (rS (As := [.int (nI kI), .int (nI kN), .null]) (rest := []) ⟨hx, hb, hml, hown, hts⟩ (j_pcheckN l G cy kI kN hI hN0) L_J0_1059 (preRS hN hP [] rfl) rfl ⟨Nat.le_of_ble_eq_true rfl, Nat.le_of_ble_eq_true rfl⟩ hl.1 (Nat.le_of_ble_eq_true rfl) (g_184 (v := 1059) bJ0_checkIndex_df160 rfl) ⟨Nat.le_of_ble_eq_true rfl, Nat.le_of_ble_eq_true rfl⟩) (fun r h => ?_)
    subst h
    refine lv_pop hx hb (g_87 bJ0_checkIndex_df160 rfl) rfl ?_
    exact endR0 hx hb hr hlocks (g_177 bJ0_checkIndex_df160 rfl)
  · refine lv_iload_n hx hb (g_26 bJ0_checkIndex_df160 rfl) rfl (lv_at hl 0 rfl) ?_
    refine lv_iload_n hx hb (g_27 bJ0_checkIndex_df160 rfl) rfl (lv_at hl 1 rfl) ?_
    refine va_gets hx hb (v := .ref qf) hf va_S.rf hown (hts _ m_t488) (fun _ h => h) (g_178 (v := 1053) bJ0_checkIndex_df160 rfl) ?_
    refine kRi (rS (As := [.int (nI kI), .int (nI kN), .ref qf]) (rest := []) ⟨hx, hb, hml, hown, hts⟩ (j_pcheck l G cy qf kI kN hI hN0) L_J0_1059 (preRS hN hP [] rfl) rfl ⟨Nat.le_of_ble_eq_true rfl, Nat.le_of_ble_eq_true rfl⟩ hl.1 (Nat.le_of_ble_eq_true rfl) (g_184 (v := 1059) bJ0_checkIndex_df160 rfl) ⟨Nat.le_of_ble_eq_true rfl, Nat.le_of_ble_eq_true rfl⟩) (fun r h => ?_)
    subst h
    refine lv_pop hx hb (g_87 bJ0_checkIndex_df160 rfl) rfl ?_
    exact endR0 hx hb hr hlocks (g_177 bJ0_checkIndex_df160 rfl)
theorem ch_n {x : Int32} (h : ∃ n : Nat, n < 128 ∧ x = nI n) : ((x &&& 255).toUInt32 % 65536).toInt32 = x ∧ narrow .char (.int x) = .int x := by
  obtain ⟨n, hn, rfl⟩ := h
  refine ⟨?_, (pk_charN (by omega)).1⟩
  rw [ch8 n hn, pk_char, pk_tn (by omega), Nat.mod_eq_of_lt (by omega)]
set_option maxHeartbeats 4000000 in
theorem j_charAt1 (l : Launch) (G : va_G) (cy : Nat → ClassId)  (lB : List Int32) (qw qv kI : Nat) (hI : kI < lB.length) (hN0 : lB.length < 2 ^ 31) (hA : ∃ n : Nat, n < 128 ∧ lB.getD kI 0 = nI n) : MRX l yJ1_charAt_3b067 cJ1_charAt_3b067 2 (some .char) 3 G cy (SF lB qw qv) [] [.ref qv, .int (nI kI)] (vp_Si (fun r => r = lB.getD kI 0)) := by
  refine enRX RJ1 (by decide +kernel) rfl (Nat.le_of_ble_eq_true rfl) (fun p e s m below meth c ls hx hb hml hown hts hr hlocks hP hN hl hX => ?_)
  have hl : lv_has ls 2 [(0, .ref qv), (1, .int (nI kI))] := hl
  refine lv_iload_n hx hb (g_27 bJ1_charAt_3b067 rfl) rfl (lv_at hl 1 rfl) ?_
  refine lv_aload_n hx hb (g_42 bJ1_charAt_3b067 rfl) rfl (lv_at hl 0 rfl) ?_
  refine va_tlen hx hb hX.2.2.2.1 va_S.rf (v := nI lB.length) rfl (g_190 bJ1_charAt_3b067 rfl) ?_
  refine kR0 (rS (As := [.int (nI kI), .int (nI lB.length)]) (rest := []) ⟨hx, hb, hml, hown, hts⟩ (j_check l G cy lB qw qv kI lB.length hI hN0) L_J1_9 (preRSX hN hP [] rfl SF_ok hX va_S.rf) rfl ⟨Nat.le_of_ble_eq_true rfl, Nat.le_of_ble_eq_true rfl⟩ hl.1 (Nat.le_of_ble_eq_true rfl) (g_184 (v := 9) bJ1_charAt_3b067 rfl) ⟨Nat.le_of_ble_eq_true rfl, Nat.le_of_ble_eq_true rfl⟩) ?_
  refine lv_aload_n hx hb (g_42 bJ1_charAt_3b067 rfl) rfl (lv_at hl 0 rfl) ?_
  refine lv_iload_n hx hb (g_27 bJ1_charAt_3b067 rfl) rfl (lv_at hl 1 rfl) ?_
  refine va_tb hx hb hX.2.2.2.1 va_S.rf (vp_in_nI hI hN0) (v := .int (lB.getD kI 0)) (by rw [nI_clamp (by omega)]) (g_51 bJ1_charAt_3b067 rfl) ?_
  refine lv_sipush (v := 255) hx hb dJ1_charAt_3b067_9 (by decide +kernel) ?_
  refine lv_iand hx hb (g_126 bJ1_charAt_3b067 rfl) ?_
  refine lv_i2c (v := lB.getD kI 0) hx hb (g_146 bJ1_charAt_3b067 rfl) (ch_n hA).1 ?_
  exact endR hx hb hr hlocks (ch_n hA).2 rfl (g_172 bJ1_charAt_3b067 rfl)
set_option maxHeartbeats 4000000 in
theorem j_charAt (l : Launch) (G : va_G) (cy : Nat → ClassId)  (lB : List Int32) (qw qv kI : Nat) (hI : kI < lB.length) (hN0 : lB.length < 2 ^ 31) (hA : ∃ n : Nat, n < 128 ∧ lB.getD kI 0 = nI n) : MRX l yJ0_charAt_5068e cJ0_charAt_5068e 2 (some .char) 4 G cy (SF lB qw qv) [] [.ref qw, .int (nI kI)] (vp_Si (fun r => r = lB.getD kI 0)) := by
  refine enRX RJ0 (by decide +kernel) rfl (Nat.le_of_ble_eq_true rfl) (fun p e s m below meth c ls hx hb hml hown hts hr hlocks hP hN hl hX => ?_)
  have hl : lv_has ls 2 [(0, .ref qw), (1, .int (nI kI))] := hl
  refine lv_aload_n hx hb (g_42 bJ0_charAt_5068e rfl) rfl (lv_at hl 0 rfl) ?_
  refine kRi (rV (As := []) (rest := []) (b := qw) ⟨hx, hb, hml, hown, hts⟩ (j_isLatin1 l G cy lB qw qv) L_J0_492 (preRVS hN hX va_S.rf) rfl ⟨Nat.le_of_ble_eq_true rfl, Nat.le_of_ble_eq_true rfl⟩ hl.1 (Nat.le_of_ble_eq_true rfl) (g_182 (v := 492) bJ0_charAt_5068e rfl) ⟨Nat.le_of_ble_eq_true rfl, Nat.le_of_ble_eq_true rfl⟩) (fun r h => ?_)
  subst h
  refine lv_if_eq (tgt := 16) hx hb dJ0_charAt_5068e_4 (by decide +kernel) (fun h9 => absurd h9 (by decide +kernel)) (fun _ => ?_)
  refine lv_aload_n hx hb (g_42 bJ0_charAt_5068e rfl) rfl (lv_at hl 0 rfl) ?_
  refine vk_getf hx hb hX.2.2.1 va_S.rf hown (hts _ m_t1393) (fun _ h => h) (g_180 (v := 9) bJ0_charAt_5068e rfl) ?_
  refine lv_iload_n hx hb (g_27 bJ0_charAt_5068e rfl) rfl (lv_at hl 1 rfl) ?_
  refine kRi (rS (As := [.ref qv, .int (nI kI)]) (rest := []) ⟨hx, hb, hml, hown, hts⟩ (j_charAt1 l G cy lB qw qv kI hI hN0 hA) L_J0_495 (preRSX hN hP [] rfl SF_ok hX va_S.rf) rfl ⟨Nat.le_of_ble_eq_true rfl, Nat.le_of_ble_eq_true rfl⟩ hl.1 (Nat.le_of_ble_eq_true rfl) (g_184 (v := 495) bJ0_charAt_5068e rfl) ⟨Nat.le_of_ble_eq_true rfl, Nat.le_of_ble_eq_true rfl⟩) (fun r h => ?_)
  subst h
  exact endR hx hb hr hlocks (ch_n hA).2 rfl (g_172 bJ0_charAt_5068e rfl)
end
section
section SPEEDX
variable {p : Program} {l : Launch} {e : Env} {R : Room} {s : State} {m : MethodId} {args : Array Value} {below : List Frame} {meth : Method} {c : Code} {H : Heap} {locs : List Loc} {cells slots : Nat} {Q : State → Prop}
variable {y : MethodName} {bytes cc : ByteArray} {maxL nL mc ms index d pc : Nat} {ret : Option FieldType} {own : String} {b : Addr} {As rest st0 : List Value} {ls : Array Slot} {G : va_G} {cy : Nat → ClassId}
variable {ws wc Xw cx pl p1 p2 : va_W} {A : Nat → Prop} {q : vw_C} {fs : List Value} {X : (Nat → Prop) → State → Heap → Prop}
theorem cVXi {post : Int32 → va_W → Prop} (S : CallFix p m c cc nL s args BIG own) (hM : Met l y (.code y bytes maxL ret :: BIG) (Rm d mc ms) (WrX G cy X wc H.size (.ref b :: As)) (Wi G post (va_A wc H.size)) mc ms (va_A wc H.size)) (L : LkV own index q.1 y bytes maxL ret As.length) (hN : KN G cy s) (hP : va_P G CL ws H) (hD : va_D A ws) (hS : va_S A s.heap H locs) (hA : ∀ q, s.heap.size ≤ q → A q) (isC : List Nat) (mk : List Bool) (hC : isC.map (fun i => ws[i]?) = wc.map some) (hk : okC isC mk = true) (hm : Nat.ble mk.length ws.length = true) (qr ci : Nat) (he : ws[qr]? = some (b, .inr (ci, fs))) (hc : CL[ci]? = some q) (ok : XOK X) (hX : X A s s.heap) (hst : st0 = As.reverse ++ .ref b :: rest) (hR : d + 1 ≤ R.frames ∧ 8 + (maxL + 11) + 60 * d ≤ R.locals) (hsize : ls.size = nL) (hW : (rest.map fun v => v.category).sum ≤ 8) (hdg : decode cc pc = .ok (.invokevirtual index, 3)) (hf : cells + mc ≤ R.cells ∧ slots + ms ≤ R.slots)
    (kk : ∀ (r : Int32) (u : va_W) (H1 : Heap) (locs1 : List Loc), post r u → va_P G CL (selW mk ws ++ u) H1 → va_D A (selW mk ws ++ u) → va_S A s.heap H1 locs1 → W p l e R s m args below meth c H1 locs1 (cells + mc) (slots + ms) Q (F0 m (pc + 3) ls (.int r :: rest))) : W p l e R s m args below meth c H locs cells slots Q (F0 m pc ls st0) := kWi (rV S hM L (preWVX hN hP hD isC hC (okC_nd hk) qr ci he hc ok hX hS hA) hst hR hsize hW hdg hf) hP hD hS hA isC (trueIx 0 mk) hC (sel_ok hm) (sel_nd mk 0) (okC_dis hk) kk
theorem cVXv {post : va_W → Prop} (S : CallFix p m c cc nL s args BIG own) (hM : Met l y (.code y bytes maxL ret :: BIG) (Rm d mc ms) (WrX G cy X wc H.size (.ref b :: As)) (Wv G post (va_A wc H.size)) mc ms (va_A wc H.size)) (L : LkV own index q.1 y bytes maxL ret As.length) (hN : KN G cy s) (hP : va_P G CL ws H) (hD : va_D A ws) (hS : va_S A s.heap H locs) (hA : ∀ q, s.heap.size ≤ q → A q) (isC : List Nat) (mk : List Bool) (hC : isC.map (fun i => ws[i]?) = wc.map some) (hk : okC isC mk = true) (hm : Nat.ble mk.length ws.length = true) (qr ci : Nat) (he : ws[qr]? = some (b, .inr (ci, fs))) (hc : CL[ci]? = some q) (ok : XOK X) (hX : X A s s.heap) (hst : st0 = As.reverse ++ .ref b :: rest) (hR : d + 1 ≤ R.frames ∧ 8 + (maxL + 11) + 60 * d ≤ R.locals) (hsize : ls.size = nL) (hW : (rest.map fun v => v.category).sum ≤ 8) (hdg : decode cc pc = .ok (.invokevirtual index, 3)) (hf : cells + mc ≤ R.cells ∧ slots + ms ≤ R.slots)
    (kk : ∀ (u : va_W) (H1 : Heap) (locs1 : List Loc), post u → va_P G CL (selW mk ws ++ u) H1 → va_D A (selW mk ws ++ u) → va_S A s.heap H1 locs1 → W p l e R s m args below meth c H1 locs1 (cells + mc) (slots + ms) Q (F0 m (pc + 3) ls rest)) : W p l e R s m args below meth c H locs cells slots Q (F0 m pc ls st0) := kWv (rV S hM L (preWVX hN hP hD isC hC (okC_nd hk) qr ci he hc ok hX hS hA) hst hR hsize hW hdg hf) hP hD hS hA isC (trueIx 0 mk) hC (sel_ok hm) (sel_nd mk 0) (okC_dis hk) kk
end SPEEDX
end
section
theorem lp_lt0 {j n : Nat} (hj : j < 2 ^ 31) (hn : n < 2 ^ 31) (c : nI j < nI n) : j < n := by
  rw [Int32.lt_iff_toInt_lt, nI_toInt hj, nI_toInt hn] at c
  omega
theorem nI_ne1' {k : Nat} (hk : k < 2 ^ 31) : ¬ nI k = -1 := fun q => by
  have := nI_pos (n := k) hk
  rw [q] at this
  exact this (by decide +kernel)
theorem wd_len {a b n : Nat} (ha : a < 2 ^ 30) (hb : b < 2 ^ 30) (hn : n ≤ 5) (c : nI b - nI a = nI n) : b = a + n := by
  have := congrArg Int32.toInt c
  rw [pk_sub_toInt hb ha, nI_toInt (by omega)] at this
  omega
theorem cnt250 {j : Nat} (hj : j ≤ 251) (c : ¬ (250 : Int32) < nI j) : j < 251 := by
  rcases Nat.lt_or_ge j 251 with q | q
  · exact q
  · exact absurd (by rw [show j = 251 by omega]; decide) c
theorem tk_in {x : Int32} {n : Nat} (hn : n ≤ 8) (h1 : 0 ≤ x) (h2 : x ≤ nI n - 1) : ∃ k : Nat, k < n ∧ x = nI k := by
  obtain ⟨k, hk, rfl⟩ := nI_of (Int32.not_lt.mpr h1)
  refine ⟨k, ?_, rfl⟩
  rw [Int32.le_iff_toInt_le, nI_toInt hk, show (1 : Int32) = nI 1 from rfl, pk_sub_toInt (by omega) (by omega)] at h2
  omega
noncomputable abbrev T_setne (t : TA) (x : Nat → Int32) : TA := T_mk (T_nb t) (T_np t) (T_sd t) (T_wh t) (T_gn t) (T_wo t) x (T_go t) (T_ag t) (T_re t) (T_me t) (T_te t) (T_kn t)
theorem as_book : ∀ k, k < ([98, 111, 111, 107] : List Int32).length → ∃ n : Nat, n < 128 ∧ ([98, 111, 111, 107] : List Int32).getD k 0 = nI n := fun k hk => by
  match k, hk with
  | 0, _ => exact ⟨98, by omega, rfl⟩
  | 1, _ => exact ⟨111, by omega, rfl⟩
  | 2, _ => exact ⟨111, by omega, rfl⟩
  | 3, _ => exact ⟨107, by omega, rfl⟩
  | k + 4, h => exact absurd h (by simp)
theorem as_good : ∀ k, k < ([103, 111, 111, 100] : List Int32).length → ∃ n : Nat, n < 128 ∧ ([103, 111, 111, 100] : List Int32).getD k 0 = nI n := fun k hk => by
  match k, hk with
  | 0, _ => exact ⟨103, by omega, rfl⟩
  | 1, _ => exact ⟨111, by omega, rfl⟩
  | 2, _ => exact ⟨111, by omega, rfl⟩
  | 3, _ => exact ⟨100, by omega, rfl⟩
  | k + 4, h => exact absurd h (by simp)
theorem as_need : ∀ k, k < ([110, 101, 101, 100] : List Int32).length → ∃ n : Nat, n < 128 ∧ ([110, 101, 101, 100] : List Int32).getD k 0 = nI n := fun k hk => by
  match k, hk with
  | 0, _ => exact ⟨110, by omega, rfl⟩
  | 1, _ => exact ⟨101, by omega, rfl⟩
  | 2, _ => exact ⟨101, by omega, rfl⟩
  | 3, _ => exact ⟨100, by omega, rfl⟩
  | k + 4, h => exact absurd h (by simp)
theorem as_one : ∀ k, k < ([111, 110, 101] : List Int32).length → ∃ n : Nat, n < 128 ∧ ([111, 110, 101] : List Int32).getD k 0 = nI n := fun k hk => by
  match k, hk with
  | 0, _ => exact ⟨111, by omega, rfl⟩
  | 1, _ => exact ⟨110, by omega, rfl⟩
  | 2, _ => exact ⟨101, by omega, rfl⟩
  | k + 3, h => exact absurd h (by simp)
theorem as_reads : ∀ k, k < ([114, 101, 97, 100, 115] : List Int32).length → ∃ n : Nat, n < 128 ∧ ([114, 101, 97, 100, 115] : List Int32).getD k 0 = nI n := fun k hk => by
  match k, hk with
  | 0, _ => exact ⟨114, by omega, rfl⟩
  | 1, _ => exact ⟨101, by omega, rfl⟩
  | 2, _ => exact ⟨97, by omega, rfl⟩
  | 3, _ => exact ⟨100, by omega, rfl⟩
  | 4, _ => exact ⟨115, by omega, rfl⟩
  | k + 5, h => exact absurd h (by simp)
theorem as_keeps : ∀ k, k < ([107, 101, 101, 112, 115] : List Int32).length → ∃ n : Nat, n < 128 ∧ ([107, 101, 101, 112, 115] : List Int32).getD k 0 = nI n := fun k hk => by
  match k, hk with
  | 0, _ => exact ⟨107, by omega, rfl⟩
  | 1, _ => exact ⟨101, by omega, rfl⟩
  | 2, _ => exact ⟨101, by omega, rfl⟩
  | 3, _ => exact ⟨112, by omega, rfl⟩
  | 4, _ => exact ⟨115, by omega, rfl⟩
  | k + 5, h => exact absurd h (by simp)
theorem as_tells : ∀ k, k < ([116, 101, 108, 108, 115] : List Int32).length → ∃ n : Nat, n < 128 ∧ ([116, 101, 108, 108, 115] : List Int32).getD k 0 = nI n := fun k hk => by
  match k, hk with
  | 0, _ => exact ⟨116, by omega, rfl⟩
  | 1, _ => exact ⟨101, by omega, rfl⟩
  | 2, _ => exact ⟨108, by omega, rfl⟩
  | 3, _ => exact ⟨108, by omega, rfl⟩
  | 4, _ => exact ⟨115, by omega, rfl⟩
  | k + 5, h => exact absurd h (by simp)
theorem as_knows : ∀ k, k < ([107, 110, 111, 119, 115] : List Int32).length → ∃ n : Nat, n < 128 ∧ ([107, 110, 111, 119, 115] : List Int32).getD k 0 = nI n := fun k hk => by
  match k, hk with
  | 0, _ => exact ⟨107, by omega, rfl⟩
  | 1, _ => exact ⟨110, by omega, rfl⟩
  | 2, _ => exact ⟨111, by omega, rfl⟩
  | 3, _ => exact ⟨119, by omega, rfl⟩
  | 4, _ => exact ⟨115, by omega, rfl⟩
  | k + 5, h => exact absurd h (by simp)
theorem as_white : ∀ k, k < ([119, 104, 105, 116, 101] : List Int32).length → ∃ n : Nat, n < 128 ∧ ([119, 104, 105, 116, 101] : List Int32).getD k 0 = nI n := fun k hk => by
  match k, hk with
  | 0, _ => exact ⟨119, by omega, rfl⟩
  | 1, _ => exact ⟨104, by omega, rfl⟩
  | 2, _ => exact ⟨105, by omega, rfl⟩
  | 3, _ => exact ⟨116, by omega, rfl⟩
  | 4, _ => exact ⟨101, by omega, rfl⟩
  | k + 5, h => exact absurd h (by simp)
set_option maxHeartbeats 4000000 in
set_option maxRecDepth 100000 in
theorem c_X3_sortAt (l : Launch) (G : va_G) (cy : Nat → ClassId) (qa : Nat) (qab : Nat) (kZ : Nat) (kS : Nat) (kE : Nat) (iT : Int32) (iF : Int32) (qd : Nat) (fB : Nat → Int32) (kP : Nat)  (hZ : kZ ≤ 250) (hPl : kP ≤ 250) : MR l yX3_sortAt cX3_sortAt 3 (some .int) 1 G cy [zzO qa 2 [.ref qab, .int (nI kZ), .int (nI kS), .int (nI kE), .int iT, .int iF, .ref qd], zzB cy qab 250 fB] [.ref qa, .int (nI kP)] (vp_Si (fun r => (r = 0 ∨ kP < kZ))) := by
  refine enR RX3 (by decide +kernel) rfl (Nat.le_of_ble_eq_true rfl) (fun p e s m below meth c ls hx hb hml hown hts hr hlocks hP hN hl => ?_)
  have hK := hN.1
  replace hl : lv_has ls 3 [(0, .ref qa), (1, .int (nI kP))] := hl
  refine lv_iload_n hx hb (g_27 bX3_sortAt rfl) rfl (lv_at hl 1 rfl) ?_
  refine lv_aload_n hx hb (g_42 bX3_sortAt rfl) rfl (lv_at hl 0 rfl) ?_
  refine va_get (D := G) (ci := 2) (v := .int (nI kZ)) (C := RX3) (T := TX3) (N := 7) hx hb hts iX_X3 hown hK hP 0 rfl rfl 1 (by decide +kernel) (hts _ m_t149) (fun _ h9 => h9) rfl (g_180 (v := 22) bX3_sortAt rfl) ?_
  refine lv_icmp_lt (tgt := 10) hx hb dX3_sortAt_5 (by decide +kernel) (fun c_1 => ?_) (fun c_1 => ?_)
  · have hlt : kP < kZ := lp_lt0 (by omega) (by omega) c_1
    refine lv_aload_n hx hb (g_42 bX3_sortAt rfl) rfl (lv_at hl 0 rfl) ?_
    refine va_get (D := G) (ci := 2) (v := .ref qab) (C := RX3) (T := TX3) (N := 7) hx hb hts iX_X3 hown hK hP 0 rfl rfl 0 (by decide +kernel) (hts _ m_t148) (fun _ h9 => h9) rfl (g_180 (v := 11) bX3_sortAt rfl) ?_
    refine lv_iload_n hx hb (g_27 bX3_sortAt rfl) rfl (lv_at hl 1 rfl) ?_
    refine va_bald hx hb hK hP 1 2 rfl rfl (vp_in_nI (by omega) (by omega)) (g_51 bX3_sortAt rfl) ?_
    refine lv_seti (v := fB kP) (congrArg fB (nI_clamp (by omega))) ?_
    refine lv_istore_n (lv' := [(2, .int (fB kP)), (0, .ref qa), (1, .int (nI kP))]) hx hb (g_61 bX3_sortAt rfl) rfl hl (by decide +kernel) rfl (fun ls => ?_)
    clear hl
    intro hl
    refine lv_iload_n hx hb (g_28 bX3_sortAt rfl) rfl (lv_at hl 0 rfl) ?_
    refine lv_bipush (v := 97) hx hb dX3_sortAt_18 (by decide +kernel) ?_
    refine lv_icmp_lt (tgt := 31) hx hb dX3_sortAt_20 (by decide +kernel) (fun c_2 => ?_) (fun c_2 => ?_)
    · refine lv_iload_n hx hb (g_28 bX3_sortAt rfl) rfl (lv_at hl 0 rfl) ?_
      refine lv_bipush (v := 48) hx hb dX3_sortAt_32 (by decide +kernel) ?_
      refine lv_icmp_lt (tgt := 45) hx hb dX3_sortAt_34 (by decide +kernel) (fun c_3 => ?_) (fun c_3 => ?_)
      · refine lv_iload_n hx hb (g_28 bX3_sortAt rfl) rfl (lv_at hl 0 rfl) ?_
        refine lv_bipush (v := 59) hx hb dX3_sortAt_46 (by decide +kernel) ?_
        refine lv_icmp_ne (tgt := 55) hx hb dX3_sortAt_48 (by decide +kernel) (fun c_4 => ?_) (fun c_4 => ?_)
        · refine lv_iconst (v := 4) hx hb (g_7 bX3_sortAt rfl) (by decide +kernel) ?_
          exact endR hx hb hr hlocks rfl (Or.inr (lp_lt0 (by omega) (by omega) c_1)) (g_172 bX3_sortAt rfl)
        · refine lv_iconst (v := 3) hx hb (g_6 bX3_sortAt rfl) (by decide +kernel) ?_
          refine lv_goto (tgt := 56) hx hb dX3_sortAt_52 (by decide +kernel) ?_
          exact endR hx hb hr hlocks rfl (Or.inr (lp_lt0 (by omega) (by omega) c_1)) (g_172 bX3_sortAt rfl)
      · refine lv_iload_n hx hb (g_28 bX3_sortAt rfl) rfl (lv_at hl 0 rfl) ?_
        refine lv_bipush (v := 57) hx hb dX3_sortAt_38 (by decide +kernel) ?_
        refine lv_icmp_gt (tgt := 45) hx hb dX3_sortAt_40 (by decide +kernel) (fun c_5 => ?_) (fun c_5 => ?_)
        · refine lv_iload_n hx hb (g_28 bX3_sortAt rfl) rfl (lv_at hl 0 rfl) ?_
          refine lv_bipush (v := 59) hx hb dX3_sortAt_46 (by decide +kernel) ?_
          refine lv_icmp_ne (tgt := 55) hx hb dX3_sortAt_48 (by decide +kernel) (fun c_6 => ?_) (fun c_6 => ?_)
          · refine lv_iconst (v := 4) hx hb (g_7 bX3_sortAt rfl) (by decide +kernel) ?_
            exact endR hx hb hr hlocks rfl (Or.inr (lp_lt0 (by omega) (by omega) c_1)) (g_172 bX3_sortAt rfl)
          · refine lv_iconst (v := 3) hx hb (g_6 bX3_sortAt rfl) (by decide +kernel) ?_
            refine lv_goto (tgt := 56) hx hb dX3_sortAt_52 (by decide +kernel) ?_
            exact endR hx hb hr hlocks rfl (Or.inr (lp_lt0 (by omega) (by omega) c_1)) (g_172 bX3_sortAt rfl)
        · refine lv_iconst (v := 2) hx hb (g_5 bX3_sortAt rfl) (by decide +kernel) ?_
          exact endR hx hb hr hlocks rfl (Or.inr (lp_lt0 (by omega) (by omega) c_1)) (g_172 bX3_sortAt rfl)
    · refine lv_iload_n hx hb (g_28 bX3_sortAt rfl) rfl (lv_at hl 0 rfl) ?_
      refine lv_bipush (v := 122) hx hb dX3_sortAt_24 (by decide +kernel) ?_
      refine lv_icmp_gt (tgt := 31) hx hb dX3_sortAt_26 (by decide +kernel) (fun c_7 => ?_) (fun c_7 => ?_)
      · refine lv_iload_n hx hb (g_28 bX3_sortAt rfl) rfl (lv_at hl 0 rfl) ?_
        refine lv_bipush (v := 48) hx hb dX3_sortAt_32 (by decide +kernel) ?_
        refine lv_icmp_lt (tgt := 45) hx hb dX3_sortAt_34 (by decide +kernel) (fun c_8 => ?_) (fun c_8 => ?_)
        · refine lv_iload_n hx hb (g_28 bX3_sortAt rfl) rfl (lv_at hl 0 rfl) ?_
          refine lv_bipush (v := 59) hx hb dX3_sortAt_46 (by decide +kernel) ?_
          refine lv_icmp_ne (tgt := 55) hx hb dX3_sortAt_48 (by decide +kernel) (fun c_9 => ?_) (fun c_9 => ?_)
          · refine lv_iconst (v := 4) hx hb (g_7 bX3_sortAt rfl) (by decide +kernel) ?_
            exact endR hx hb hr hlocks rfl (Or.inr (lp_lt0 (by omega) (by omega) c_1)) (g_172 bX3_sortAt rfl)
          · refine lv_iconst (v := 3) hx hb (g_6 bX3_sortAt rfl) (by decide +kernel) ?_
            refine lv_goto (tgt := 56) hx hb dX3_sortAt_52 (by decide +kernel) ?_
            exact endR hx hb hr hlocks rfl (Or.inr (lp_lt0 (by omega) (by omega) c_1)) (g_172 bX3_sortAt rfl)
        · refine lv_iload_n hx hb (g_28 bX3_sortAt rfl) rfl (lv_at hl 0 rfl) ?_
          refine lv_bipush (v := 57) hx hb dX3_sortAt_38 (by decide +kernel) ?_
          refine lv_icmp_gt (tgt := 45) hx hb dX3_sortAt_40 (by decide +kernel) (fun c_10 => ?_) (fun c_10 => ?_)
          · refine lv_iload_n hx hb (g_28 bX3_sortAt rfl) rfl (lv_at hl 0 rfl) ?_
            refine lv_bipush (v := 59) hx hb dX3_sortAt_46 (by decide +kernel) ?_
            refine lv_icmp_ne (tgt := 55) hx hb dX3_sortAt_48 (by decide +kernel) (fun c_11 => ?_) (fun c_11 => ?_)
            · refine lv_iconst (v := 4) hx hb (g_7 bX3_sortAt rfl) (by decide +kernel) ?_
              exact endR hx hb hr hlocks rfl (Or.inr (lp_lt0 (by omega) (by omega) c_1)) (g_172 bX3_sortAt rfl)
            · refine lv_iconst (v := 3) hx hb (g_6 bX3_sortAt rfl) (by decide +kernel) ?_
              refine lv_goto (tgt := 56) hx hb dX3_sortAt_52 (by decide +kernel) ?_
              exact endR hx hb hr hlocks rfl (Or.inr (lp_lt0 (by omega) (by omega) c_1)) (g_172 bX3_sortAt rfl)
          · refine lv_iconst (v := 2) hx hb (g_5 bX3_sortAt rfl) (by decide +kernel) ?_
            exact endR hx hb hr hlocks rfl (Or.inr (lp_lt0 (by omega) (by omega) c_1)) (g_172 bX3_sortAt rfl)
      · refine lv_iconst (v := 1) hx hb (g_4 bX3_sortAt rfl) (by decide +kernel) ?_
        exact endR hx hb hr hlocks rfl (Or.inr (lp_lt0 (by omega) (by omega) c_1)) (g_172 bX3_sortAt rfl)
  · refine lv_iconst (v := 0) hx hb (g_3 bX3_sortAt rfl) (by decide +kernel) ?_
    exact endR hx hb hr hlocks rfl (Or.inl rfl) (g_172 bX3_sortAt rfl)
set_option maxHeartbeats 4000000 in
set_option maxRecDepth 100000 in
theorem c_X3_step (l : Launch) (G : va_G) (cy : Nat → ClassId) (sz : Nat) (qa : Nat) (qab : Nat) (kZ : Nat) (iS0 : Int32) (kE : Nat) (iT : Int32) (iF : Int32) (qd : Nat) (fB : Nat → Int32)  (hZ : kZ ≤ 250) (hE : kE ≤ kZ) : MW l yX3_step cX3_step 2 none 2 0 0 G cy [zzO qa 2 [.ref qab, .int (nI kZ), .int iS0, .int (nI kE), .int iT, .int iF, .ref qd], zzB cy qab 250 fB] sz [.ref qa] (Wv G (fun u => ∃ (kX : Nat) (kY : Nat) (iX : Int32), u = [zzO qa 2 [.ref qab, .int (nI kZ), .int (nI kX), .int (nI kY), .int iX, .int iF, .ref qd], zzB cy qab 250 fB] ∧ (kX ≤ kY ∧ kY ≤ kZ))) := by
  refine enW RX3 (by decide +kernel) rfl (Nat.le_of_ble_eq_true rfl) (fun p e s m below meth c ls A hx hb hml hown hts hr hlocks hP hN hl hin hD hA hS => ?_)
  have hin : meth.name = _ := hin
  have hK := hN.1
  replace hl : lv_has ls 2 [(0, .ref qa)] := hl
  refine lv_aload_n hx hb (g_42 bX3_step rfl) rfl (lv_at hl 0 rfl) ?_
  refine lv_aload_n hx hb (g_42 bX3_step rfl) rfl (lv_at hl 0 rfl) ?_
  refine va_get (D := G) (ci := 2) (v := .int (nI kE)) (C := RX3) (T := TX3) (N := 7) hx hb hts iX_X3 hown hK hP 0 rfl rfl 3 (by decide +kernel) (hts _ m_t152) (fun _ h9 => h9) rfl (g_180 (v := 33) bX3_step rfl) ?_
  refine va_put (D := G) (ci := 2) (v := .int (nI kE)) (ty := .int) (C := RX3) (T := TX3) (N := 7) hx hb hts iX_X3 tyX3 tyX3_ok nmX3 hown hK hP hD hS 0 rfl rfl 2 (by decide +kernel) (hts _ m_t151) (fun _ h9 => h9) rfl (by decide +kernel) rfl rfl (Nat.le_of_ble_eq_true rfl) (g_181 (v := 121) bX3_step rfl) (fun H locs => ?_)
  clear hP hD hS
  intro hP hD hS
  have hPD := pd_as [zzO qa 2 [.ref qab, .int (nI kZ), .int (nI kE), .int (nI kE), .int iT, .int iF, .ref qd], _] hP hD rfl
  clear hP hD
  obtain ⟨hP, hD⟩ := hPD
  have lp_1 : ∀ (n_2 : Nat) (j_4 : Nat), 250 - j_4 < n_2 → j_4 ≤ kZ → ∀ (H : Heap) (locs : List Loc) (ls : Array Slot), va_P G CL [zzO qa 2 [.ref qab, .int (nI kZ), .int (nI j_4), .int (nI kE), .int iT, .int iF, .ref qd], zzB cy qab 250 fB] H → va_D A [zzO qa 2 [.ref qab, .int (nI kZ), .int (nI j_4), .int (nI kE), .int iT, .int iF, .ref qd], zzB cy qab 250 fB] → va_S A s.heap H locs → lv_has ls 2 [(0, .ref qa)] → W p l e (Rm 2 0 0) s m (List.toArray (α := Value) [.ref qa]) below meth c H locs 0 0 (MQ below ((Wv G (fun u => ∃ (kX : Nat) (kY : Nat) (iX : Int32), u = [zzO qa 2 [.ref qab, .int (nI kZ), .int (nI kX), .int (nI kY), .int iX, .int iF, .ref qd], zzB cy qab 250 fB] ∧ (kX ≤ kY ∧ kY ≤ kZ))) A) (List.toArray (α := Value) [.ref qa]) s 0 0 A) (F0 m 8 ls []) := by
    intro n_2
    induction n_2 with
    | zero => intro j_4 hm9; exact absurd hm9 (Nat.not_lt_zero _)
    | succ n_2 ih_3 =>
      intro j_4 hm_6 hj_5 H locs ls hP hD hS hl
      refine lv_aload_n hx hb (g_42 bX3_step rfl) rfl (lv_at hl 0 rfl) ?_
      refine va_get (D := G) (ci := 2) (v := .int (nI j_4)) (C := RX3) (T := TX3) (N := 7) hx hb hts iX_X3 hown hK hP 0 rfl rfl 2 (by decide +kernel) (hts _ m_t151) (fun _ h9 => h9) rfl (g_180 (v := 121) bX3_step rfl) ?_
      refine lv_aload_n hx hb (g_42 bX3_step rfl) rfl (lv_at hl 0 rfl) ?_
      refine va_get (D := G) (ci := 2) (v := .int (nI kZ)) (C := RX3) (T := TX3) (N := 7) hx hb hts iX_X3 hown hK hP 0 rfl rfl 1 (by decide +kernel) (hts _ m_t149) (fun _ h9 => h9) rfl (g_180 (v := 22) bX3_step rfl) ?_
      refine lv_icmp_ge (tgt := 46) hx hb dX3_step_16 (by decide +kernel) (fun c_7 => ?_) (fun c_7 => ?_)
      · refine lv_aload_n hx hb (g_42 bX3_step rfl) rfl (lv_at hl 0 rfl) ?_
        refine lv_aload_n hx hb (g_42 bX3_step rfl) rfl (lv_at hl 0 rfl) ?_
        refine lv_aload_n hx hb (g_42 bX3_step rfl) rfl (lv_at hl 0 rfl) ?_
        refine va_get (D := G) (ci := 2) (v := .int (nI j_4)) (C := RX3) (T := TX3) (N := 7) hx hb hts iX_X3 hown hK hP 0 rfl rfl 2 (by decide +kernel) (hts _ m_t151) (fun _ h9 => h9) rfl (g_180 (v := 121) bX3_step rfl) ?_
        refine kRi (rV (As := [.int (nI j_4)]) (rest := [.ref qa]) (b := qa) ⟨hx, hb, hml, hown, hts⟩ (c_X3_sortAt l G cy qa qab kZ j_4 kE iT iF qd fB j_4 hZ (by first | omega | (simp only [nb_sr, np_sr, nb_wr, np_wr, nb_rd, np_rd, nb_ch, np_ch, nb_zr, np_zr, nb_za, np_za, nb_ey, np_ey, nb_hf, np_hf, nb_dd, np_dd, nb_so, np_so, nb_skn, np_skn, nb_swh, np_swh, nb_sgn, np_sgn, nb_ssd, np_ssd, nb_sgo, np_sgo, nb_sag, np_sag]; omega))) L_X3_133 (preRV (q := (RX3, TX3, 7)) hN hP [0, 1] rfl 0 2 rfl rfl) rfl ⟨Nat.le_of_ble_eq_true rfl, Nat.le_of_ble_eq_true rfl⟩ hl.1 (Nat.le_of_ble_eq_true rfl) (g_182 (v := 133) bX3_step rfl) ⟨Nat.le_of_ble_eq_true rfl, Nat.le_of_ble_eq_true rfl⟩) (fun r_8 h_9 => ?_)
        refine va_put (D := G) (ci := 2) (v := .int r_8) (ty := .int) (C := RX3) (T := TX3) (N := 7) hx hb hts iX_X3 tyX3 tyX3_ok nmX3 hown hK hP hD hS 0 rfl rfl 4 (by decide +kernel) (hts _ m_t153) (fun _ h9 => h9) rfl (by decide +kernel) rfl rfl (Nat.le_of_ble_eq_true rfl) (g_181 (v := 42) bX3_step rfl) (fun H locs => ?_)
        clear hP hD hS
        intro hP hD hS
        have hPD := pd_as [zzO qa 2 [.ref qab, .int (nI kZ), .int (nI j_4), .int (nI kE), .int r_8, .int iF, .ref qd], _] hP hD rfl
        clear hP hD
        obtain ⟨hP, hD⟩ := hPD
        refine lv_aload_n hx hb (g_42 bX3_step rfl) rfl (lv_at hl 0 rfl) ?_
        refine lv_aload_n hx hb (g_42 bX3_step rfl) rfl (lv_at hl 0 rfl) ?_
        refine va_get (D := G) (ci := 2) (v := .int r_8) (C := RX3) (T := TX3) (N := 7) hx hb hts iX_X3 hown hK hP 0 rfl rfl 4 (by decide +kernel) (hts _ m_t153) (fun _ h9 => h9) rfl (g_180 (v := 42) bX3_step rfl) ?_
        refine lv_if_ne (tgt := 73) hx hb dX3_step_63 (by decide +kernel) (fun c_10 => ?_) (fun c_10 => ?_)
        · have hlt_11 : j_4 < kZ := h_9.resolve_left c_10
          refine lv_aload_n hx hb (g_42 bX3_step rfl) rfl (lv_at hl 0 rfl) ?_
          refine va_get (D := G) (ci := 2) (v := .int (nI j_4)) (C := RX3) (T := TX3) (N := 7) hx hb hts iX_X3 hown hK hP 0 rfl rfl 2 (by decide +kernel) (hts _ m_t151) (fun _ h9 => h9) rfl (g_180 (v := 121) bX3_step rfl) ?_
          refine lv_iconst (v := 1) hx hb (g_4 bX3_step rfl) (by decide +kernel) ?_
          refine lv_iadd hx hb (g_96 bX3_step rfl) ?_
          refine lv_seti (v := nI (j_4 + 1)) (nI_1 _) ?_
          refine va_put (D := G) (ci := 2) (v := .int (nI (j_4 + 1))) (ty := .int) (C := RX3) (T := TX3) (N := 7) hx hb hts iX_X3 tyX3 tyX3_ok nmX3 hown hK hP hD hS 0 rfl rfl 3 (by decide +kernel) (hts _ m_t152) (fun _ h9 => h9) rfl (by decide +kernel) rfl rfl (Nat.le_of_ble_eq_true rfl) (g_181 (v := 33) bX3_step rfl) (fun H locs => ?_)
          clear hP hD hS
          intro hP hD hS
          have hPD := pd_as [zzO qa 2 [.ref qab, .int (nI kZ), .int (nI j_4), .int (nI (j_4 + 1)), .int r_8, .int iF, .ref qd], _] hP hD rfl
          clear hP hD
          obtain ⟨hP, hD⟩ := hPD
          refine lv_aload_n hx hb (g_42 bX3_step rfl) rfl (lv_at hl 0 rfl) ?_
          refine va_get (D := G) (ci := 2) (v := .int r_8) (C := RX3) (T := TX3) (N := 7) hx hb hts iX_X3 hown hK hP 0 rfl rfl 4 (by decide +kernel) (hts _ m_t153) (fun _ h9 => h9) rfl (g_180 (v := 42) bX3_step rfl) ?_
          refine lv_iconst (v := 1) hx hb (g_4 bX3_step rfl) (by decide +kernel) ?_
          refine lv_icmp_eq (tgt := 98) hx hb dX3_step_87 (by decide +kernel) (fun c_12 => ?_) (fun c_12 => ?_)
          · refine lv_iconst (v := 1) hx hb (g_4 bX3_step rfl) (by decide +kernel) ?_
            refine lv_goto (tgt := 103) hx hb dX3_step_99 (by decide +kernel) ?_
            refine lv_istore_n (lv' := [(1, .int 1), (0, .ref qa)]) hx hb (g_60 bX3_step rfl) rfl hl (by decide +kernel) rfl (fun ls => ?_)
            clear hl
            intro hl
            have lp_13 : ∀ (n_14 : Nat) (m_16 : Nat), 250 - m_16 < n_14 → j_4 ≤ m_16 → m_16 ≤ kZ → ∀ (H : Heap) (locs : List Loc) (ls : Array Slot), va_P G CL [zzO qa 2 [.ref qab, .int (nI kZ), .int (nI j_4), .int (nI m_16), .int r_8, .int iF, .ref qd], zzB cy qab 250 fB] H → va_D A [zzO qa 2 [.ref qab, .int (nI kZ), .int (nI j_4), .int (nI m_16), .int r_8, .int iF, .ref qd], zzB cy qab 250 fB] → va_S A s.heap H locs → lv_has ls 2 [(1, .int 1), (0, .ref qa)] → W p l e (Rm 2 0 0) s m (List.toArray (α := Value) [.ref qa]) below meth c H locs 0 0 (MQ below ((Wv G (fun u => ∃ (kX : Nat) (kY : Nat) (iX : Int32), u = [zzO qa 2 [.ref qab, .int (nI kZ), .int (nI kX), .int (nI kY), .int iX, .int iF, .ref qd], zzB cy qab 250 fB] ∧ (kX ≤ kY ∧ kY ≤ kZ))) A) (List.toArray (α := Value) [.ref qa]) s 0 0 A) (F0 m 104 ls []) := by
              intro n_14
              induction n_14 with
              | zero => intro m_16 hm9; exact absurd hm9 (Nat.not_lt_zero _)
              | succ n_14 ih_15 =>
                intro m_16 hm_19 hm1_17 hm2_18 H locs ls hP hD hS hl
                refine lv_iload_n hx hb (g_27 bX3_step rfl) rfl (lv_at hl 0 rfl) ?_
                refine lv_if_eq (tgt := 147) hx hb dX3_step_105 (by decide +kernel) (fun h9 => absurd h9 (by decide +kernel)) (fun _ => ?_)
                refine lv_aload_n hx hb (g_42 bX3_step rfl) rfl (lv_at hl 1 rfl) ?_
                refine va_get (D := G) (ci := 2) (v := .int (nI m_16)) (C := RX3) (T := TX3) (N := 7) hx hb hts iX_X3 hown hK hP 0 rfl rfl 3 (by decide +kernel) (hts _ m_t152) (fun _ h9 => h9) rfl (g_180 (v := 33) bX3_step rfl) ?_
                refine lv_aload_n hx hb (g_42 bX3_step rfl) rfl (lv_at hl 1 rfl) ?_
                refine va_get (D := G) (ci := 2) (v := .int (nI kZ)) (C := RX3) (T := TX3) (N := 7) hx hb hts iX_X3 hown hK hP 0 rfl rfl 1 (by decide +kernel) (hts _ m_t149) (fun _ h9 => h9) rfl (g_180 (v := 22) bX3_step rfl) ?_
                refine lv_icmp_ge (tgt := 147) hx hb dX3_step_116 (by decide +kernel) (fun c_21 => ?_) (fun c_21 => ?_)
                · exact endVs [[true, true]] hx hb hr hlocks hP hD rfl (by decide +kernel) hS ⟨j_4, m_16, r_8, rfl, ⟨by omega, by omega⟩⟩ (g_177 bX3_step rfl)
                · have hlt_22 : m_16 < kZ := lp_lt rfl rfl (by omega) (by omega) c_21
                  refine lv_aload_n hx hb (g_42 bX3_step rfl) rfl (lv_at hl 1 rfl) ?_
                  refine lv_aload_n hx hb (g_42 bX3_step rfl) rfl (lv_at hl 1 rfl) ?_
                  refine va_get (D := G) (ci := 2) (v := .int (nI m_16)) (C := RX3) (T := TX3) (N := 7) hx hb hts iX_X3 hown hK hP 0 rfl rfl 3 (by decide +kernel) (hts _ m_t152) (fun _ h9 => h9) rfl (g_180 (v := 33) bX3_step rfl) ?_
                  refine kRi (rV (As := [.int (nI m_16)]) (rest := []) (b := qa) ⟨hx, hb, hml, hown, hts⟩ (c_X3_sortAt l G cy qa qab kZ j_4 m_16 r_8 iF qd fB m_16 hZ (by first | omega | (simp only [nb_sr, np_sr, nb_wr, np_wr, nb_rd, np_rd, nb_ch, np_ch, nb_zr, np_zr, nb_za, np_za, nb_ey, np_ey, nb_hf, np_hf, nb_dd, np_dd, nb_so, np_so, nb_skn, np_skn, nb_swh, np_swh, nb_sgn, np_sgn, nb_ssd, np_ssd, nb_sgo, np_sgo, nb_sag, np_sag]; omega))) L_X3_133 (preRV (q := (RX3, TX3, 7)) hN hP [0, 1] rfl 0 2 rfl rfl) rfl ⟨Nat.le_of_ble_eq_true rfl, Nat.le_of_ble_eq_true rfl⟩ hl.1 (Nat.le_of_ble_eq_true rfl) (g_182 (v := 133) bX3_step rfl) ⟨Nat.le_of_ble_eq_true rfl, Nat.le_of_ble_eq_true rfl⟩) (fun r_23 h_24 => ?_)
                  refine lv_aload_n hx hb (g_42 bX3_step rfl) rfl (lv_at hl 1 rfl) ?_
                  refine va_get (D := G) (ci := 2) (v := .int r_8) (C := RX3) (T := TX3) (N := 7) hx hb hts iX_X3 hown hK hP 0 rfl rfl 4 (by decide +kernel) (hts _ m_t153) (fun _ h9 => h9) rfl (g_180 (v := 42) bX3_step rfl) ?_
                  refine lv_icmp_ne (tgt := 147) hx hb dX3_step_131 (by decide +kernel) (fun c_25 => ?_) (fun c_25 => ?_)
                  · exact endVs [[true, true]] hx hb hr hlocks hP hD rfl (by decide +kernel) hS ⟨j_4, m_16, r_8, rfl, ⟨by omega, by omega⟩⟩ (g_177 bX3_step rfl)
                  · refine lv_aload_n hx hb (g_42 bX3_step rfl) rfl (lv_at hl 1 rfl) ?_
                    refine lv_dup hx hb (g_89 bX3_step rfl) rfl ?_
                    refine va_get (D := G) (ci := 2) (v := .int (nI m_16)) (C := RX3) (T := TX3) (N := 7) hx hb hts iX_X3 hown hK hP 0 rfl rfl 3 (by decide +kernel) (hts _ m_t152) (fun _ h9 => h9) rfl (g_180 (v := 33) bX3_step rfl) ?_
                    refine lv_iconst (v := 1) hx hb (g_4 bX3_step rfl) (by decide +kernel) ?_
                    refine lv_iadd hx hb (g_96 bX3_step rfl) ?_
                    refine lv_seti (v := nI (m_16 + 1)) (nI_1 _) ?_
                    refine va_put (D := G) (ci := 2) (v := .int (nI (m_16 + 1))) (ty := .int) (C := RX3) (T := TX3) (N := 7) hx hb hts iX_X3 tyX3 tyX3_ok nmX3 hown hK hP hD hS 0 rfl rfl 3 (by decide +kernel) (hts _ m_t152) (fun _ h9 => h9) rfl (by decide +kernel) rfl rfl (Nat.le_of_ble_eq_true rfl) (g_181 (v := 33) bX3_step rfl) (fun H locs => ?_)
                    clear hP hD hS
                    intro hP hD hS
                    have hPD := pd_as [zzO qa 2 [.ref qab, .int (nI kZ), .int (nI j_4), .int (nI (m_16 + 1)), .int r_8, .int iF, .ref qd], _] hP hD rfl
                    clear hP hD
                    obtain ⟨hP, hD⟩ := hPD
                    refine lv_goto (tgt := 104) hx hb dX3_step_144 (by decide +kernel) ?_
                    exact ih_15 (m_16 + 1) (by omega) (by omega) (by omega) _ _ _ hP hD hS (lv_sub hl [0, 1] rfl)
            exact lp_13 ((250 - (j_4 + 1)) + 1) (j_4 + 1) (Nat.lt_succ_self _) (by omega) (by omega) _ _ ls hP hD hS (lv_sub hl [0, 1] rfl)
          · refine lv_aload_n hx hb (g_42 bX3_step rfl) rfl (lv_at hl 0 rfl) ?_
            refine va_get (D := G) (ci := 2) (v := .int r_8) (C := RX3) (T := TX3) (N := 7) hx hb hts iX_X3 hown hK hP 0 rfl rfl 4 (by decide +kernel) (hts _ m_t153) (fun _ h9 => h9) rfl (g_180 (v := 42) bX3_step rfl) ?_
            refine lv_iconst (v := 2) hx hb (g_5 bX3_step rfl) (by decide +kernel) ?_
            refine lv_icmp_ne (tgt := 102) hx hb dX3_step_95 (by decide +kernel) (fun c_26 => ?_) (fun c_26 => ?_)
            · refine lv_iconst (v := 0) hx hb (g_3 bX3_step rfl) (by decide +kernel) ?_
              refine lv_istore_n (lv' := [(1, .int 0), (0, .ref qa)]) hx hb (g_60 bX3_step rfl) rfl hl (by decide +kernel) rfl (fun ls => ?_)
              clear hl
              intro hl
              have lp_27 : ∀ (n_28 : Nat) (m_30 : Nat), 250 - m_30 < n_28 → j_4 ≤ m_30 → m_30 ≤ kZ → ∀ (H : Heap) (locs : List Loc) (ls : Array Slot), va_P G CL [zzO qa 2 [.ref qab, .int (nI kZ), .int (nI j_4), .int (nI m_30), .int r_8, .int iF, .ref qd], zzB cy qab 250 fB] H → va_D A [zzO qa 2 [.ref qab, .int (nI kZ), .int (nI j_4), .int (nI m_30), .int r_8, .int iF, .ref qd], zzB cy qab 250 fB] → va_S A s.heap H locs → lv_has ls 2 [(1, .int 0), (0, .ref qa)] → W p l e (Rm 2 0 0) s m (List.toArray (α := Value) [.ref qa]) below meth c H locs 0 0 (MQ below ((Wv G (fun u => ∃ (kX : Nat) (kY : Nat) (iX : Int32), u = [zzO qa 2 [.ref qab, .int (nI kZ), .int (nI kX), .int (nI kY), .int iX, .int iF, .ref qd], zzB cy qab 250 fB] ∧ (kX ≤ kY ∧ kY ≤ kZ))) A) (List.toArray (α := Value) [.ref qa]) s 0 0 A) (F0 m 104 ls []) := by
                intro n_28
                induction n_28 with
                | zero => intro m_30 hm9; exact absurd hm9 (Nat.not_lt_zero _)
                | succ n_28 ih_29 =>
                  intro m_30 hm_33 hm1_31 hm2_32 H locs ls hP hD hS hl
                  refine lv_iload_n hx hb (g_27 bX3_step rfl) rfl (lv_at hl 0 rfl) ?_
                  refine lv_if_eq (tgt := 147) hx hb dX3_step_105 (by decide +kernel) (fun _ => ?_) (fun h9 => absurd (by decide +kernel) h9)
                  exact endVs [[true, true]] hx hb hr hlocks hP hD rfl (by decide +kernel) hS ⟨j_4, m_30, r_8, rfl, ⟨by omega, by omega⟩⟩ (g_177 bX3_step rfl)
              exact lp_27 ((250 - (j_4 + 1)) + 1) (j_4 + 1) (Nat.lt_succ_self _) (by omega) (by omega) _ _ ls hP hD hS (lv_sub hl [0, 1] rfl)
            · refine lv_iconst (v := 1) hx hb (g_4 bX3_step rfl) (by decide +kernel) ?_
              refine lv_goto (tgt := 103) hx hb dX3_step_99 (by decide +kernel) ?_
              refine lv_istore_n (lv' := [(1, .int 1), (0, .ref qa)]) hx hb (g_60 bX3_step rfl) rfl hl (by decide +kernel) rfl (fun ls => ?_)
              clear hl
              intro hl
              have lp_35 : ∀ (n_36 : Nat) (m_38 : Nat), 250 - m_38 < n_36 → j_4 ≤ m_38 → m_38 ≤ kZ → ∀ (H : Heap) (locs : List Loc) (ls : Array Slot), va_P G CL [zzO qa 2 [.ref qab, .int (nI kZ), .int (nI j_4), .int (nI m_38), .int r_8, .int iF, .ref qd], zzB cy qab 250 fB] H → va_D A [zzO qa 2 [.ref qab, .int (nI kZ), .int (nI j_4), .int (nI m_38), .int r_8, .int iF, .ref qd], zzB cy qab 250 fB] → va_S A s.heap H locs → lv_has ls 2 [(1, .int 1), (0, .ref qa)] → W p l e (Rm 2 0 0) s m (List.toArray (α := Value) [.ref qa]) below meth c H locs 0 0 (MQ below ((Wv G (fun u => ∃ (kX : Nat) (kY : Nat) (iX : Int32), u = [zzO qa 2 [.ref qab, .int (nI kZ), .int (nI kX), .int (nI kY), .int iX, .int iF, .ref qd], zzB cy qab 250 fB] ∧ (kX ≤ kY ∧ kY ≤ kZ))) A) (List.toArray (α := Value) [.ref qa]) s 0 0 A) (F0 m 104 ls []) := by
                intro n_36
                induction n_36 with
                | zero => intro m_38 hm9; exact absurd hm9 (Nat.not_lt_zero _)
                | succ n_36 ih_37 =>
                  intro m_38 hm_41 hm1_39 hm2_40 H locs ls hP hD hS hl
                  refine lv_iload_n hx hb (g_27 bX3_step rfl) rfl (lv_at hl 0 rfl) ?_
                  refine lv_if_eq (tgt := 147) hx hb dX3_step_105 (by decide +kernel) (fun h9 => absurd h9 (by decide +kernel)) (fun _ => ?_)
                  refine lv_aload_n hx hb (g_42 bX3_step rfl) rfl (lv_at hl 1 rfl) ?_
                  refine va_get (D := G) (ci := 2) (v := .int (nI m_38)) (C := RX3) (T := TX3) (N := 7) hx hb hts iX_X3 hown hK hP 0 rfl rfl 3 (by decide +kernel) (hts _ m_t152) (fun _ h9 => h9) rfl (g_180 (v := 33) bX3_step rfl) ?_
                  refine lv_aload_n hx hb (g_42 bX3_step rfl) rfl (lv_at hl 1 rfl) ?_
                  refine va_get (D := G) (ci := 2) (v := .int (nI kZ)) (C := RX3) (T := TX3) (N := 7) hx hb hts iX_X3 hown hK hP 0 rfl rfl 1 (by decide +kernel) (hts _ m_t149) (fun _ h9 => h9) rfl (g_180 (v := 22) bX3_step rfl) ?_
                  refine lv_icmp_ge (tgt := 147) hx hb dX3_step_116 (by decide +kernel) (fun c_43 => ?_) (fun c_43 => ?_)
                  · exact endVs [[true, true]] hx hb hr hlocks hP hD rfl (by decide +kernel) hS ⟨j_4, m_38, r_8, rfl, ⟨by omega, by omega⟩⟩ (g_177 bX3_step rfl)
                  · have hlt_44 : m_38 < kZ := lp_lt rfl rfl (by omega) (by omega) c_43
                    refine lv_aload_n hx hb (g_42 bX3_step rfl) rfl (lv_at hl 1 rfl) ?_
                    refine lv_aload_n hx hb (g_42 bX3_step rfl) rfl (lv_at hl 1 rfl) ?_
                    refine va_get (D := G) (ci := 2) (v := .int (nI m_38)) (C := RX3) (T := TX3) (N := 7) hx hb hts iX_X3 hown hK hP 0 rfl rfl 3 (by decide +kernel) (hts _ m_t152) (fun _ h9 => h9) rfl (g_180 (v := 33) bX3_step rfl) ?_
                    refine kRi (rV (As := [.int (nI m_38)]) (rest := []) (b := qa) ⟨hx, hb, hml, hown, hts⟩ (c_X3_sortAt l G cy qa qab kZ j_4 m_38 r_8 iF qd fB m_38 hZ (by first | omega | (simp only [nb_sr, np_sr, nb_wr, np_wr, nb_rd, np_rd, nb_ch, np_ch, nb_zr, np_zr, nb_za, np_za, nb_ey, np_ey, nb_hf, np_hf, nb_dd, np_dd, nb_so, np_so, nb_skn, np_skn, nb_swh, np_swh, nb_sgn, np_sgn, nb_ssd, np_ssd, nb_sgo, np_sgo, nb_sag, np_sag]; omega))) L_X3_133 (preRV (q := (RX3, TX3, 7)) hN hP [0, 1] rfl 0 2 rfl rfl) rfl ⟨Nat.le_of_ble_eq_true rfl, Nat.le_of_ble_eq_true rfl⟩ hl.1 (Nat.le_of_ble_eq_true rfl) (g_182 (v := 133) bX3_step rfl) ⟨Nat.le_of_ble_eq_true rfl, Nat.le_of_ble_eq_true rfl⟩) (fun r_45 h_46 => ?_)
                    refine lv_aload_n hx hb (g_42 bX3_step rfl) rfl (lv_at hl 1 rfl) ?_
                    refine va_get (D := G) (ci := 2) (v := .int r_8) (C := RX3) (T := TX3) (N := 7) hx hb hts iX_X3 hown hK hP 0 rfl rfl 4 (by decide +kernel) (hts _ m_t153) (fun _ h9 => h9) rfl (g_180 (v := 42) bX3_step rfl) ?_
                    refine lv_icmp_ne (tgt := 147) hx hb dX3_step_131 (by decide +kernel) (fun c_47 => ?_) (fun c_47 => ?_)
                    · exact endVs [[true, true]] hx hb hr hlocks hP hD rfl (by decide +kernel) hS ⟨j_4, m_38, r_8, rfl, ⟨by omega, by omega⟩⟩ (g_177 bX3_step rfl)
                    · refine lv_aload_n hx hb (g_42 bX3_step rfl) rfl (lv_at hl 1 rfl) ?_
                      refine lv_dup hx hb (g_89 bX3_step rfl) rfl ?_
                      refine va_get (D := G) (ci := 2) (v := .int (nI m_38)) (C := RX3) (T := TX3) (N := 7) hx hb hts iX_X3 hown hK hP 0 rfl rfl 3 (by decide +kernel) (hts _ m_t152) (fun _ h9 => h9) rfl (g_180 (v := 33) bX3_step rfl) ?_
                      refine lv_iconst (v := 1) hx hb (g_4 bX3_step rfl) (by decide +kernel) ?_
                      refine lv_iadd hx hb (g_96 bX3_step rfl) ?_
                      refine lv_seti (v := nI (m_38 + 1)) (nI_1 _) ?_
                      refine va_put (D := G) (ci := 2) (v := .int (nI (m_38 + 1))) (ty := .int) (C := RX3) (T := TX3) (N := 7) hx hb hts iX_X3 tyX3 tyX3_ok nmX3 hown hK hP hD hS 0 rfl rfl 3 (by decide +kernel) (hts _ m_t152) (fun _ h9 => h9) rfl (by decide +kernel) rfl rfl (Nat.le_of_ble_eq_true rfl) (g_181 (v := 33) bX3_step rfl) (fun H locs => ?_)
                      clear hP hD hS
                      intro hP hD hS
                      have hPD := pd_as [zzO qa 2 [.ref qab, .int (nI kZ), .int (nI j_4), .int (nI (m_38 + 1)), .int r_8, .int iF, .ref qd], _] hP hD rfl
                      clear hP hD
                      obtain ⟨hP, hD⟩ := hPD
                      refine lv_goto (tgt := 104) hx hb dX3_step_144 (by decide +kernel) ?_
                      exact ih_37 (m_38 + 1) (by omega) (by omega) (by omega) _ _ _ hP hD hS (lv_sub hl [0, 1] rfl)
              exact lp_35 ((250 - (j_4 + 1)) + 1) (j_4 + 1) (Nat.lt_succ_self _) (by omega) (by omega) _ _ ls hP hD hS (lv_sub hl [0, 1] rfl)
        · refine lv_aload_n hx hb (g_42 bX3_step rfl) rfl (lv_at hl 0 rfl) ?_
          refine va_get (D := G) (ci := 2) (v := .int (nI j_4)) (C := RX3) (T := TX3) (N := 7) hx hb hts iX_X3 hown hK hP 0 rfl rfl 2 (by decide +kernel) (hts _ m_t151) (fun _ h9 => h9) rfl (g_180 (v := 121) bX3_step rfl) ?_
          refine lv_goto (tgt := 79) hx hb dX3_step_70 (by decide +kernel) ?_
          refine va_put (D := G) (ci := 2) (v := .int (nI j_4)) (ty := .int) (C := RX3) (T := TX3) (N := 7) hx hb hts iX_X3 tyX3 tyX3_ok nmX3 hown hK hP hD hS 0 rfl rfl 3 (by decide +kernel) (hts _ m_t152) (fun _ h9 => h9) rfl (by decide +kernel) rfl rfl (Nat.le_of_ble_eq_true rfl) (g_181 (v := 33) bX3_step rfl) (fun H locs => ?_)
          clear hP hD hS
          intro hP hD hS
          have hPD := pd_as [zzO qa 2 [.ref qab, .int (nI kZ), .int (nI j_4), .int (nI j_4), .int r_8, .int iF, .ref qd], _] hP hD rfl
          clear hP hD
          obtain ⟨hP, hD⟩ := hPD
          refine lv_aload_n hx hb (g_42 bX3_step rfl) rfl (lv_at hl 0 rfl) ?_
          refine va_get (D := G) (ci := 2) (v := .int r_8) (C := RX3) (T := TX3) (N := 7) hx hb hts iX_X3 hown hK hP 0 rfl rfl 4 (by decide +kernel) (hts _ m_t153) (fun _ h9 => h9) rfl (g_180 (v := 42) bX3_step rfl) ?_
          refine lv_iconst (v := 1) hx hb (g_4 bX3_step rfl) (by decide +kernel) ?_
          refine lv_icmp_eq (tgt := 98) hx hb dX3_step_87 (by decide +kernel) (fun c_48 => ?_) (fun c_48 => ?_)
          · refine lv_iconst (v := 1) hx hb (g_4 bX3_step rfl) (by decide +kernel) ?_
            refine lv_goto (tgt := 103) hx hb dX3_step_99 (by decide +kernel) ?_
            refine lv_istore_n (lv' := [(1, .int 1), (0, .ref qa)]) hx hb (g_60 bX3_step rfl) rfl hl (by decide +kernel) rfl (fun ls => ?_)
            clear hl
            intro hl
            have lp_49 : ∀ (n_50 : Nat) (m_52 : Nat), 250 - m_52 < n_50 → j_4 ≤ m_52 → m_52 ≤ kZ → ∀ (H : Heap) (locs : List Loc) (ls : Array Slot), va_P G CL [zzO qa 2 [.ref qab, .int (nI kZ), .int (nI j_4), .int (nI m_52), .int r_8, .int iF, .ref qd], zzB cy qab 250 fB] H → va_D A [zzO qa 2 [.ref qab, .int (nI kZ), .int (nI j_4), .int (nI m_52), .int r_8, .int iF, .ref qd], zzB cy qab 250 fB] → va_S A s.heap H locs → lv_has ls 2 [(1, .int 1), (0, .ref qa)] → W p l e (Rm 2 0 0) s m (List.toArray (α := Value) [.ref qa]) below meth c H locs 0 0 (MQ below ((Wv G (fun u => ∃ (kX : Nat) (kY : Nat) (iX : Int32), u = [zzO qa 2 [.ref qab, .int (nI kZ), .int (nI kX), .int (nI kY), .int iX, .int iF, .ref qd], zzB cy qab 250 fB] ∧ (kX ≤ kY ∧ kY ≤ kZ))) A) (List.toArray (α := Value) [.ref qa]) s 0 0 A) (F0 m 104 ls []) := by
              intro n_50
              induction n_50 with
              | zero => intro m_52 hm9; exact absurd hm9 (Nat.not_lt_zero _)
              | succ n_50 ih_51 =>
                intro m_52 hm_55 hm1_53 hm2_54 H locs ls hP hD hS hl
                refine lv_iload_n hx hb (g_27 bX3_step rfl) rfl (lv_at hl 0 rfl) ?_
                refine lv_if_eq (tgt := 147) hx hb dX3_step_105 (by decide +kernel) (fun h9 => absurd h9 (by decide +kernel)) (fun _ => ?_)
                refine lv_aload_n hx hb (g_42 bX3_step rfl) rfl (lv_at hl 1 rfl) ?_
                refine va_get (D := G) (ci := 2) (v := .int (nI m_52)) (C := RX3) (T := TX3) (N := 7) hx hb hts iX_X3 hown hK hP 0 rfl rfl 3 (by decide +kernel) (hts _ m_t152) (fun _ h9 => h9) rfl (g_180 (v := 33) bX3_step rfl) ?_
                refine lv_aload_n hx hb (g_42 bX3_step rfl) rfl (lv_at hl 1 rfl) ?_
                refine va_get (D := G) (ci := 2) (v := .int (nI kZ)) (C := RX3) (T := TX3) (N := 7) hx hb hts iX_X3 hown hK hP 0 rfl rfl 1 (by decide +kernel) (hts _ m_t149) (fun _ h9 => h9) rfl (g_180 (v := 22) bX3_step rfl) ?_
                refine lv_icmp_ge (tgt := 147) hx hb dX3_step_116 (by decide +kernel) (fun c_57 => ?_) (fun c_57 => ?_)
                · exact endVs [[true, true]] hx hb hr hlocks hP hD rfl (by decide +kernel) hS ⟨j_4, m_52, r_8, rfl, ⟨by omega, by omega⟩⟩ (g_177 bX3_step rfl)
                · have hlt_58 : m_52 < kZ := lp_lt rfl rfl (by omega) (by omega) c_57
                  refine lv_aload_n hx hb (g_42 bX3_step rfl) rfl (lv_at hl 1 rfl) ?_
                  refine lv_aload_n hx hb (g_42 bX3_step rfl) rfl (lv_at hl 1 rfl) ?_
                  refine va_get (D := G) (ci := 2) (v := .int (nI m_52)) (C := RX3) (T := TX3) (N := 7) hx hb hts iX_X3 hown hK hP 0 rfl rfl 3 (by decide +kernel) (hts _ m_t152) (fun _ h9 => h9) rfl (g_180 (v := 33) bX3_step rfl) ?_
                  refine kRi (rV (As := [.int (nI m_52)]) (rest := []) (b := qa) ⟨hx, hb, hml, hown, hts⟩ (c_X3_sortAt l G cy qa qab kZ j_4 m_52 r_8 iF qd fB m_52 hZ (by first | omega | (simp only [nb_sr, np_sr, nb_wr, np_wr, nb_rd, np_rd, nb_ch, np_ch, nb_zr, np_zr, nb_za, np_za, nb_ey, np_ey, nb_hf, np_hf, nb_dd, np_dd, nb_so, np_so, nb_skn, np_skn, nb_swh, np_swh, nb_sgn, np_sgn, nb_ssd, np_ssd, nb_sgo, np_sgo, nb_sag, np_sag]; omega))) L_X3_133 (preRV (q := (RX3, TX3, 7)) hN hP [0, 1] rfl 0 2 rfl rfl) rfl ⟨Nat.le_of_ble_eq_true rfl, Nat.le_of_ble_eq_true rfl⟩ hl.1 (Nat.le_of_ble_eq_true rfl) (g_182 (v := 133) bX3_step rfl) ⟨Nat.le_of_ble_eq_true rfl, Nat.le_of_ble_eq_true rfl⟩) (fun r_59 h_60 => ?_)
                  refine lv_aload_n hx hb (g_42 bX3_step rfl) rfl (lv_at hl 1 rfl) ?_
                  refine va_get (D := G) (ci := 2) (v := .int r_8) (C := RX3) (T := TX3) (N := 7) hx hb hts iX_X3 hown hK hP 0 rfl rfl 4 (by decide +kernel) (hts _ m_t153) (fun _ h9 => h9) rfl (g_180 (v := 42) bX3_step rfl) ?_
                  refine lv_icmp_ne (tgt := 147) hx hb dX3_step_131 (by decide +kernel) (fun c_61 => ?_) (fun c_61 => ?_)
                  · exact endVs [[true, true]] hx hb hr hlocks hP hD rfl (by decide +kernel) hS ⟨j_4, m_52, r_8, rfl, ⟨by omega, by omega⟩⟩ (g_177 bX3_step rfl)
                  · refine lv_aload_n hx hb (g_42 bX3_step rfl) rfl (lv_at hl 1 rfl) ?_
                    refine lv_dup hx hb (g_89 bX3_step rfl) rfl ?_
                    refine va_get (D := G) (ci := 2) (v := .int (nI m_52)) (C := RX3) (T := TX3) (N := 7) hx hb hts iX_X3 hown hK hP 0 rfl rfl 3 (by decide +kernel) (hts _ m_t152) (fun _ h9 => h9) rfl (g_180 (v := 33) bX3_step rfl) ?_
                    refine lv_iconst (v := 1) hx hb (g_4 bX3_step rfl) (by decide +kernel) ?_
                    refine lv_iadd hx hb (g_96 bX3_step rfl) ?_
                    refine lv_seti (v := nI (m_52 + 1)) (nI_1 _) ?_
                    refine va_put (D := G) (ci := 2) (v := .int (nI (m_52 + 1))) (ty := .int) (C := RX3) (T := TX3) (N := 7) hx hb hts iX_X3 tyX3 tyX3_ok nmX3 hown hK hP hD hS 0 rfl rfl 3 (by decide +kernel) (hts _ m_t152) (fun _ h9 => h9) rfl (by decide +kernel) rfl rfl (Nat.le_of_ble_eq_true rfl) (g_181 (v := 33) bX3_step rfl) (fun H locs => ?_)
                    clear hP hD hS
                    intro hP hD hS
                    have hPD := pd_as [zzO qa 2 [.ref qab, .int (nI kZ), .int (nI j_4), .int (nI (m_52 + 1)), .int r_8, .int iF, .ref qd], _] hP hD rfl
                    clear hP hD
                    obtain ⟨hP, hD⟩ := hPD
                    refine lv_goto (tgt := 104) hx hb dX3_step_144 (by decide +kernel) ?_
                    exact ih_51 (m_52 + 1) (by omega) (by omega) (by omega) _ _ _ hP hD hS (lv_sub hl [0, 1] rfl)
            exact lp_49 ((250 - j_4) + 1) j_4 (Nat.lt_succ_self _) (by omega) (by omega) _ _ ls hP hD hS (lv_sub hl [0, 1] rfl)
          · refine lv_aload_n hx hb (g_42 bX3_step rfl) rfl (lv_at hl 0 rfl) ?_
            refine va_get (D := G) (ci := 2) (v := .int r_8) (C := RX3) (T := TX3) (N := 7) hx hb hts iX_X3 hown hK hP 0 rfl rfl 4 (by decide +kernel) (hts _ m_t153) (fun _ h9 => h9) rfl (g_180 (v := 42) bX3_step rfl) ?_
            refine lv_iconst (v := 2) hx hb (g_5 bX3_step rfl) (by decide +kernel) ?_
            refine lv_icmp_ne (tgt := 102) hx hb dX3_step_95 (by decide +kernel) (fun c_62 => ?_) (fun c_62 => ?_)
            · refine lv_iconst (v := 0) hx hb (g_3 bX3_step rfl) (by decide +kernel) ?_
              refine lv_istore_n (lv' := [(1, .int 0), (0, .ref qa)]) hx hb (g_60 bX3_step rfl) rfl hl (by decide +kernel) rfl (fun ls => ?_)
              clear hl
              intro hl
              have lp_63 : ∀ (n_64 : Nat) (m_66 : Nat), 250 - m_66 < n_64 → j_4 ≤ m_66 → m_66 ≤ kZ → ∀ (H : Heap) (locs : List Loc) (ls : Array Slot), va_P G CL [zzO qa 2 [.ref qab, .int (nI kZ), .int (nI j_4), .int (nI m_66), .int r_8, .int iF, .ref qd], zzB cy qab 250 fB] H → va_D A [zzO qa 2 [.ref qab, .int (nI kZ), .int (nI j_4), .int (nI m_66), .int r_8, .int iF, .ref qd], zzB cy qab 250 fB] → va_S A s.heap H locs → lv_has ls 2 [(1, .int 0), (0, .ref qa)] → W p l e (Rm 2 0 0) s m (List.toArray (α := Value) [.ref qa]) below meth c H locs 0 0 (MQ below ((Wv G (fun u => ∃ (kX : Nat) (kY : Nat) (iX : Int32), u = [zzO qa 2 [.ref qab, .int (nI kZ), .int (nI kX), .int (nI kY), .int iX, .int iF, .ref qd], zzB cy qab 250 fB] ∧ (kX ≤ kY ∧ kY ≤ kZ))) A) (List.toArray (α := Value) [.ref qa]) s 0 0 A) (F0 m 104 ls []) := by
                intro n_64
                induction n_64 with
                | zero => intro m_66 hm9; exact absurd hm9 (Nat.not_lt_zero _)
                | succ n_64 ih_65 =>
                  intro m_66 hm_69 hm1_67 hm2_68 H locs ls hP hD hS hl
                  refine lv_iload_n hx hb (g_27 bX3_step rfl) rfl (lv_at hl 0 rfl) ?_
                  refine lv_if_eq (tgt := 147) hx hb dX3_step_105 (by decide +kernel) (fun _ => ?_) (fun h9 => absurd (by decide +kernel) h9)
                  exact endVs [[true, true]] hx hb hr hlocks hP hD rfl (by decide +kernel) hS ⟨j_4, m_66, r_8, rfl, ⟨by omega, by omega⟩⟩ (g_177 bX3_step rfl)
              exact lp_63 ((250 - j_4) + 1) j_4 (Nat.lt_succ_self _) (by omega) (by omega) _ _ ls hP hD hS (lv_sub hl [0, 1] rfl)
            · refine lv_iconst (v := 1) hx hb (g_4 bX3_step rfl) (by decide +kernel) ?_
              refine lv_goto (tgt := 103) hx hb dX3_step_99 (by decide +kernel) ?_
              refine lv_istore_n (lv' := [(1, .int 1), (0, .ref qa)]) hx hb (g_60 bX3_step rfl) rfl hl (by decide +kernel) rfl (fun ls => ?_)
              clear hl
              intro hl
              have lp_71 : ∀ (n_72 : Nat) (m_74 : Nat), 250 - m_74 < n_72 → j_4 ≤ m_74 → m_74 ≤ kZ → ∀ (H : Heap) (locs : List Loc) (ls : Array Slot), va_P G CL [zzO qa 2 [.ref qab, .int (nI kZ), .int (nI j_4), .int (nI m_74), .int r_8, .int iF, .ref qd], zzB cy qab 250 fB] H → va_D A [zzO qa 2 [.ref qab, .int (nI kZ), .int (nI j_4), .int (nI m_74), .int r_8, .int iF, .ref qd], zzB cy qab 250 fB] → va_S A s.heap H locs → lv_has ls 2 [(1, .int 1), (0, .ref qa)] → W p l e (Rm 2 0 0) s m (List.toArray (α := Value) [.ref qa]) below meth c H locs 0 0 (MQ below ((Wv G (fun u => ∃ (kX : Nat) (kY : Nat) (iX : Int32), u = [zzO qa 2 [.ref qab, .int (nI kZ), .int (nI kX), .int (nI kY), .int iX, .int iF, .ref qd], zzB cy qab 250 fB] ∧ (kX ≤ kY ∧ kY ≤ kZ))) A) (List.toArray (α := Value) [.ref qa]) s 0 0 A) (F0 m 104 ls []) := by
                intro n_72
                induction n_72 with
                | zero => intro m_74 hm9; exact absurd hm9 (Nat.not_lt_zero _)
                | succ n_72 ih_73 =>
                  intro m_74 hm_77 hm1_75 hm2_76 H locs ls hP hD hS hl
                  refine lv_iload_n hx hb (g_27 bX3_step rfl) rfl (lv_at hl 0 rfl) ?_
                  refine lv_if_eq (tgt := 147) hx hb dX3_step_105 (by decide +kernel) (fun h9 => absurd h9 (by decide +kernel)) (fun _ => ?_)
                  refine lv_aload_n hx hb (g_42 bX3_step rfl) rfl (lv_at hl 1 rfl) ?_
                  refine va_get (D := G) (ci := 2) (v := .int (nI m_74)) (C := RX3) (T := TX3) (N := 7) hx hb hts iX_X3 hown hK hP 0 rfl rfl 3 (by decide +kernel) (hts _ m_t152) (fun _ h9 => h9) rfl (g_180 (v := 33) bX3_step rfl) ?_
                  refine lv_aload_n hx hb (g_42 bX3_step rfl) rfl (lv_at hl 1 rfl) ?_
                  refine va_get (D := G) (ci := 2) (v := .int (nI kZ)) (C := RX3) (T := TX3) (N := 7) hx hb hts iX_X3 hown hK hP 0 rfl rfl 1 (by decide +kernel) (hts _ m_t149) (fun _ h9 => h9) rfl (g_180 (v := 22) bX3_step rfl) ?_
                  refine lv_icmp_ge (tgt := 147) hx hb dX3_step_116 (by decide +kernel) (fun c_79 => ?_) (fun c_79 => ?_)
                  · exact endVs [[true, true]] hx hb hr hlocks hP hD rfl (by decide +kernel) hS ⟨j_4, m_74, r_8, rfl, ⟨by omega, by omega⟩⟩ (g_177 bX3_step rfl)
                  · have hlt_80 : m_74 < kZ := lp_lt rfl rfl (by omega) (by omega) c_79
                    refine lv_aload_n hx hb (g_42 bX3_step rfl) rfl (lv_at hl 1 rfl) ?_
                    refine lv_aload_n hx hb (g_42 bX3_step rfl) rfl (lv_at hl 1 rfl) ?_
                    refine va_get (D := G) (ci := 2) (v := .int (nI m_74)) (C := RX3) (T := TX3) (N := 7) hx hb hts iX_X3 hown hK hP 0 rfl rfl 3 (by decide +kernel) (hts _ m_t152) (fun _ h9 => h9) rfl (g_180 (v := 33) bX3_step rfl) ?_
                    refine kRi (rV (As := [.int (nI m_74)]) (rest := []) (b := qa) ⟨hx, hb, hml, hown, hts⟩ (c_X3_sortAt l G cy qa qab kZ j_4 m_74 r_8 iF qd fB m_74 hZ (by first | omega | (simp only [nb_sr, np_sr, nb_wr, np_wr, nb_rd, np_rd, nb_ch, np_ch, nb_zr, np_zr, nb_za, np_za, nb_ey, np_ey, nb_hf, np_hf, nb_dd, np_dd, nb_so, np_so, nb_skn, np_skn, nb_swh, np_swh, nb_sgn, np_sgn, nb_ssd, np_ssd, nb_sgo, np_sgo, nb_sag, np_sag]; omega))) L_X3_133 (preRV (q := (RX3, TX3, 7)) hN hP [0, 1] rfl 0 2 rfl rfl) rfl ⟨Nat.le_of_ble_eq_true rfl, Nat.le_of_ble_eq_true rfl⟩ hl.1 (Nat.le_of_ble_eq_true rfl) (g_182 (v := 133) bX3_step rfl) ⟨Nat.le_of_ble_eq_true rfl, Nat.le_of_ble_eq_true rfl⟩) (fun r_81 h_82 => ?_)
                    refine lv_aload_n hx hb (g_42 bX3_step rfl) rfl (lv_at hl 1 rfl) ?_
                    refine va_get (D := G) (ci := 2) (v := .int r_8) (C := RX3) (T := TX3) (N := 7) hx hb hts iX_X3 hown hK hP 0 rfl rfl 4 (by decide +kernel) (hts _ m_t153) (fun _ h9 => h9) rfl (g_180 (v := 42) bX3_step rfl) ?_
                    refine lv_icmp_ne (tgt := 147) hx hb dX3_step_131 (by decide +kernel) (fun c_83 => ?_) (fun c_83 => ?_)
                    · exact endVs [[true, true]] hx hb hr hlocks hP hD rfl (by decide +kernel) hS ⟨j_4, m_74, r_8, rfl, ⟨by omega, by omega⟩⟩ (g_177 bX3_step rfl)
                    · refine lv_aload_n hx hb (g_42 bX3_step rfl) rfl (lv_at hl 1 rfl) ?_
                      refine lv_dup hx hb (g_89 bX3_step rfl) rfl ?_
                      refine va_get (D := G) (ci := 2) (v := .int (nI m_74)) (C := RX3) (T := TX3) (N := 7) hx hb hts iX_X3 hown hK hP 0 rfl rfl 3 (by decide +kernel) (hts _ m_t152) (fun _ h9 => h9) rfl (g_180 (v := 33) bX3_step rfl) ?_
                      refine lv_iconst (v := 1) hx hb (g_4 bX3_step rfl) (by decide +kernel) ?_
                      refine lv_iadd hx hb (g_96 bX3_step rfl) ?_
                      refine lv_seti (v := nI (m_74 + 1)) (nI_1 _) ?_
                      refine va_put (D := G) (ci := 2) (v := .int (nI (m_74 + 1))) (ty := .int) (C := RX3) (T := TX3) (N := 7) hx hb hts iX_X3 tyX3 tyX3_ok nmX3 hown hK hP hD hS 0 rfl rfl 3 (by decide +kernel) (hts _ m_t152) (fun _ h9 => h9) rfl (by decide +kernel) rfl rfl (Nat.le_of_ble_eq_true rfl) (g_181 (v := 33) bX3_step rfl) (fun H locs => ?_)
                      clear hP hD hS
                      intro hP hD hS
                      have hPD := pd_as [zzO qa 2 [.ref qab, .int (nI kZ), .int (nI j_4), .int (nI (m_74 + 1)), .int r_8, .int iF, .ref qd], _] hP hD rfl
                      clear hP hD
                      obtain ⟨hP, hD⟩ := hPD
                      refine lv_goto (tgt := 104) hx hb dX3_step_144 (by decide +kernel) ?_
                      exact ih_73 (m_74 + 1) (by omega) (by omega) (by omega) _ _ _ hP hD hS (lv_sub hl [0, 1] rfl)
              exact lp_71 ((250 - j_4) + 1) j_4 (Nat.lt_succ_self _) (by omega) (by omega) _ _ ls hP hD hS (lv_sub hl [0, 1] rfl)
      · have hlt_84 : j_4 < kZ := lp_lt rfl rfl (by omega) (by omega) c_7
        refine lv_aload_n hx hb (g_42 bX3_step rfl) rfl (lv_at hl 0 rfl) ?_
        refine va_get (D := G) (ci := 2) (v := .ref qab) (C := RX3) (T := TX3) (N := 7) hx hb hts iX_X3 hown hK hP 0 rfl rfl 0 (by decide +kernel) (hts _ m_t148) (fun _ h9 => h9) rfl (g_180 (v := 11) bX3_step rfl) ?_
        refine lv_aload_n hx hb (g_42 bX3_step rfl) rfl (lv_at hl 0 rfl) ?_
        refine va_get (D := G) (ci := 2) (v := .int (nI j_4)) (C := RX3) (T := TX3) (N := 7) hx hb hts iX_X3 hown hK hP 0 rfl rfl 2 (by decide +kernel) (hts _ m_t151) (fun _ h9 => h9) rfl (g_180 (v := 121) bX3_step rfl) ?_
        refine va_bald hx hb hK hP 1 2 rfl rfl (vp_in_nI (by omega) (by omega)) (g_51 bX3_step rfl) ?_
        refine lv_seti (v := fB j_4) (congrArg fB (nI_clamp (by omega))) ?_
        refine lv_bipush (v := 32) hx hb dX3_step_28 (by decide +kernel) ?_
        refine lv_icmp_ne (tgt := 46) hx hb dX3_step_30 (by decide +kernel) (fun c_85 => ?_) (fun c_85 => ?_)
        · refine lv_aload_n hx hb (g_42 bX3_step rfl) rfl (lv_at hl 0 rfl) ?_
          refine lv_aload_n hx hb (g_42 bX3_step rfl) rfl (lv_at hl 0 rfl) ?_
          refine lv_aload_n hx hb (g_42 bX3_step rfl) rfl (lv_at hl 0 rfl) ?_
          refine va_get (D := G) (ci := 2) (v := .int (nI j_4)) (C := RX3) (T := TX3) (N := 7) hx hb hts iX_X3 hown hK hP 0 rfl rfl 2 (by decide +kernel) (hts _ m_t151) (fun _ h9 => h9) rfl (g_180 (v := 121) bX3_step rfl) ?_
          refine kRi (rV (As := [.int (nI j_4)]) (rest := [.ref qa]) (b := qa) ⟨hx, hb, hml, hown, hts⟩ (c_X3_sortAt l G cy qa qab kZ j_4 kE iT iF qd fB j_4 hZ (by first | omega | (simp only [nb_sr, np_sr, nb_wr, np_wr, nb_rd, np_rd, nb_ch, np_ch, nb_zr, np_zr, nb_za, np_za, nb_ey, np_ey, nb_hf, np_hf, nb_dd, np_dd, nb_so, np_so, nb_skn, np_skn, nb_swh, np_swh, nb_sgn, np_sgn, nb_ssd, np_ssd, nb_sgo, np_sgo, nb_sag, np_sag]; omega))) L_X3_133 (preRV (q := (RX3, TX3, 7)) hN hP [0, 1] rfl 0 2 rfl rfl) rfl ⟨Nat.le_of_ble_eq_true rfl, Nat.le_of_ble_eq_true rfl⟩ hl.1 (Nat.le_of_ble_eq_true rfl) (g_182 (v := 133) bX3_step rfl) ⟨Nat.le_of_ble_eq_true rfl, Nat.le_of_ble_eq_true rfl⟩) (fun r_86 h_87 => ?_)
          refine va_put (D := G) (ci := 2) (v := .int r_86) (ty := .int) (C := RX3) (T := TX3) (N := 7) hx hb hts iX_X3 tyX3 tyX3_ok nmX3 hown hK hP hD hS 0 rfl rfl 4 (by decide +kernel) (hts _ m_t153) (fun _ h9 => h9) rfl (by decide +kernel) rfl rfl (Nat.le_of_ble_eq_true rfl) (g_181 (v := 42) bX3_step rfl) (fun H locs => ?_)
          clear hP hD hS
          intro hP hD hS
          have hPD := pd_as [zzO qa 2 [.ref qab, .int (nI kZ), .int (nI j_4), .int (nI kE), .int r_86, .int iF, .ref qd], _] hP hD rfl
          clear hP hD
          obtain ⟨hP, hD⟩ := hPD
          refine lv_aload_n hx hb (g_42 bX3_step rfl) rfl (lv_at hl 0 rfl) ?_
          refine lv_aload_n hx hb (g_42 bX3_step rfl) rfl (lv_at hl 0 rfl) ?_
          refine va_get (D := G) (ci := 2) (v := .int r_86) (C := RX3) (T := TX3) (N := 7) hx hb hts iX_X3 hown hK hP 0 rfl rfl 4 (by decide +kernel) (hts _ m_t153) (fun _ h9 => h9) rfl (g_180 (v := 42) bX3_step rfl) ?_
          refine lv_if_ne (tgt := 73) hx hb dX3_step_63 (by decide +kernel) (fun c_88 => ?_) (fun c_88 => ?_)
          · have hlt_89 : j_4 < kZ := h_87.resolve_left c_88
            refine lv_aload_n hx hb (g_42 bX3_step rfl) rfl (lv_at hl 0 rfl) ?_
            refine va_get (D := G) (ci := 2) (v := .int (nI j_4)) (C := RX3) (T := TX3) (N := 7) hx hb hts iX_X3 hown hK hP 0 rfl rfl 2 (by decide +kernel) (hts _ m_t151) (fun _ h9 => h9) rfl (g_180 (v := 121) bX3_step rfl) ?_
            refine lv_iconst (v := 1) hx hb (g_4 bX3_step rfl) (by decide +kernel) ?_
            refine lv_iadd hx hb (g_96 bX3_step rfl) ?_
            refine lv_seti (v := nI (j_4 + 1)) (nI_1 _) ?_
            refine va_put (D := G) (ci := 2) (v := .int (nI (j_4 + 1))) (ty := .int) (C := RX3) (T := TX3) (N := 7) hx hb hts iX_X3 tyX3 tyX3_ok nmX3 hown hK hP hD hS 0 rfl rfl 3 (by decide +kernel) (hts _ m_t152) (fun _ h9 => h9) rfl (by decide +kernel) rfl rfl (Nat.le_of_ble_eq_true rfl) (g_181 (v := 33) bX3_step rfl) (fun H locs => ?_)
            clear hP hD hS
            intro hP hD hS
            have hPD := pd_as [zzO qa 2 [.ref qab, .int (nI kZ), .int (nI j_4), .int (nI (j_4 + 1)), .int r_86, .int iF, .ref qd], _] hP hD rfl
            clear hP hD
            obtain ⟨hP, hD⟩ := hPD
            refine lv_aload_n hx hb (g_42 bX3_step rfl) rfl (lv_at hl 0 rfl) ?_
            refine va_get (D := G) (ci := 2) (v := .int r_86) (C := RX3) (T := TX3) (N := 7) hx hb hts iX_X3 hown hK hP 0 rfl rfl 4 (by decide +kernel) (hts _ m_t153) (fun _ h9 => h9) rfl (g_180 (v := 42) bX3_step rfl) ?_
            refine lv_iconst (v := 1) hx hb (g_4 bX3_step rfl) (by decide +kernel) ?_
            refine lv_icmp_eq (tgt := 98) hx hb dX3_step_87 (by decide +kernel) (fun c_90 => ?_) (fun c_90 => ?_)
            · refine lv_iconst (v := 1) hx hb (g_4 bX3_step rfl) (by decide +kernel) ?_
              refine lv_goto (tgt := 103) hx hb dX3_step_99 (by decide +kernel) ?_
              refine lv_istore_n (lv' := [(1, .int 1), (0, .ref qa)]) hx hb (g_60 bX3_step rfl) rfl hl (by decide +kernel) rfl (fun ls => ?_)
              clear hl
              intro hl
              have lp_91 : ∀ (n_92 : Nat) (m_94 : Nat), 250 - m_94 < n_92 → j_4 ≤ m_94 → m_94 ≤ kZ → ∀ (H : Heap) (locs : List Loc) (ls : Array Slot), va_P G CL [zzO qa 2 [.ref qab, .int (nI kZ), .int (nI j_4), .int (nI m_94), .int r_86, .int iF, .ref qd], zzB cy qab 250 fB] H → va_D A [zzO qa 2 [.ref qab, .int (nI kZ), .int (nI j_4), .int (nI m_94), .int r_86, .int iF, .ref qd], zzB cy qab 250 fB] → va_S A s.heap H locs → lv_has ls 2 [(1, .int 1), (0, .ref qa)] → W p l e (Rm 2 0 0) s m (List.toArray (α := Value) [.ref qa]) below meth c H locs 0 0 (MQ below ((Wv G (fun u => ∃ (kX : Nat) (kY : Nat) (iX : Int32), u = [zzO qa 2 [.ref qab, .int (nI kZ), .int (nI kX), .int (nI kY), .int iX, .int iF, .ref qd], zzB cy qab 250 fB] ∧ (kX ≤ kY ∧ kY ≤ kZ))) A) (List.toArray (α := Value) [.ref qa]) s 0 0 A) (F0 m 104 ls []) := by
                intro n_92
                induction n_92 with
                | zero => intro m_94 hm9; exact absurd hm9 (Nat.not_lt_zero _)
                | succ n_92 ih_93 =>
                  intro m_94 hm_97 hm1_95 hm2_96 H locs ls hP hD hS hl
                  refine lv_iload_n hx hb (g_27 bX3_step rfl) rfl (lv_at hl 0 rfl) ?_
                  refine lv_if_eq (tgt := 147) hx hb dX3_step_105 (by decide +kernel) (fun h9 => absurd h9 (by decide +kernel)) (fun _ => ?_)
                  refine lv_aload_n hx hb (g_42 bX3_step rfl) rfl (lv_at hl 1 rfl) ?_
                  refine va_get (D := G) (ci := 2) (v := .int (nI m_94)) (C := RX3) (T := TX3) (N := 7) hx hb hts iX_X3 hown hK hP 0 rfl rfl 3 (by decide +kernel) (hts _ m_t152) (fun _ h9 => h9) rfl (g_180 (v := 33) bX3_step rfl) ?_
                  refine lv_aload_n hx hb (g_42 bX3_step rfl) rfl (lv_at hl 1 rfl) ?_
                  refine va_get (D := G) (ci := 2) (v := .int (nI kZ)) (C := RX3) (T := TX3) (N := 7) hx hb hts iX_X3 hown hK hP 0 rfl rfl 1 (by decide +kernel) (hts _ m_t149) (fun _ h9 => h9) rfl (g_180 (v := 22) bX3_step rfl) ?_
                  refine lv_icmp_ge (tgt := 147) hx hb dX3_step_116 (by decide +kernel) (fun c_99 => ?_) (fun c_99 => ?_)
                  · exact endVs [[true, true]] hx hb hr hlocks hP hD rfl (by decide +kernel) hS ⟨j_4, m_94, r_86, rfl, ⟨by omega, by omega⟩⟩ (g_177 bX3_step rfl)
                  · have hlt_100 : m_94 < kZ := lp_lt rfl rfl (by omega) (by omega) c_99
                    refine lv_aload_n hx hb (g_42 bX3_step rfl) rfl (lv_at hl 1 rfl) ?_
                    refine lv_aload_n hx hb (g_42 bX3_step rfl) rfl (lv_at hl 1 rfl) ?_
                    refine va_get (D := G) (ci := 2) (v := .int (nI m_94)) (C := RX3) (T := TX3) (N := 7) hx hb hts iX_X3 hown hK hP 0 rfl rfl 3 (by decide +kernel) (hts _ m_t152) (fun _ h9 => h9) rfl (g_180 (v := 33) bX3_step rfl) ?_
                    refine kRi (rV (As := [.int (nI m_94)]) (rest := []) (b := qa) ⟨hx, hb, hml, hown, hts⟩ (c_X3_sortAt l G cy qa qab kZ j_4 m_94 r_86 iF qd fB m_94 hZ (by first | omega | (simp only [nb_sr, np_sr, nb_wr, np_wr, nb_rd, np_rd, nb_ch, np_ch, nb_zr, np_zr, nb_za, np_za, nb_ey, np_ey, nb_hf, np_hf, nb_dd, np_dd, nb_so, np_so, nb_skn, np_skn, nb_swh, np_swh, nb_sgn, np_sgn, nb_ssd, np_ssd, nb_sgo, np_sgo, nb_sag, np_sag]; omega))) L_X3_133 (preRV (q := (RX3, TX3, 7)) hN hP [0, 1] rfl 0 2 rfl rfl) rfl ⟨Nat.le_of_ble_eq_true rfl, Nat.le_of_ble_eq_true rfl⟩ hl.1 (Nat.le_of_ble_eq_true rfl) (g_182 (v := 133) bX3_step rfl) ⟨Nat.le_of_ble_eq_true rfl, Nat.le_of_ble_eq_true rfl⟩) (fun r_101 h_102 => ?_)
                    refine lv_aload_n hx hb (g_42 bX3_step rfl) rfl (lv_at hl 1 rfl) ?_
                    refine va_get (D := G) (ci := 2) (v := .int r_86) (C := RX3) (T := TX3) (N := 7) hx hb hts iX_X3 hown hK hP 0 rfl rfl 4 (by decide +kernel) (hts _ m_t153) (fun _ h9 => h9) rfl (g_180 (v := 42) bX3_step rfl) ?_
                    refine lv_icmp_ne (tgt := 147) hx hb dX3_step_131 (by decide +kernel) (fun c_103 => ?_) (fun c_103 => ?_)
                    · exact endVs [[true, true]] hx hb hr hlocks hP hD rfl (by decide +kernel) hS ⟨j_4, m_94, r_86, rfl, ⟨by omega, by omega⟩⟩ (g_177 bX3_step rfl)
                    · refine lv_aload_n hx hb (g_42 bX3_step rfl) rfl (lv_at hl 1 rfl) ?_
                      refine lv_dup hx hb (g_89 bX3_step rfl) rfl ?_
                      refine va_get (D := G) (ci := 2) (v := .int (nI m_94)) (C := RX3) (T := TX3) (N := 7) hx hb hts iX_X3 hown hK hP 0 rfl rfl 3 (by decide +kernel) (hts _ m_t152) (fun _ h9 => h9) rfl (g_180 (v := 33) bX3_step rfl) ?_
                      refine lv_iconst (v := 1) hx hb (g_4 bX3_step rfl) (by decide +kernel) ?_
                      refine lv_iadd hx hb (g_96 bX3_step rfl) ?_
                      refine lv_seti (v := nI (m_94 + 1)) (nI_1 _) ?_
                      refine va_put (D := G) (ci := 2) (v := .int (nI (m_94 + 1))) (ty := .int) (C := RX3) (T := TX3) (N := 7) hx hb hts iX_X3 tyX3 tyX3_ok nmX3 hown hK hP hD hS 0 rfl rfl 3 (by decide +kernel) (hts _ m_t152) (fun _ h9 => h9) rfl (by decide +kernel) rfl rfl (Nat.le_of_ble_eq_true rfl) (g_181 (v := 33) bX3_step rfl) (fun H locs => ?_)
                      clear hP hD hS
                      intro hP hD hS
                      have hPD := pd_as [zzO qa 2 [.ref qab, .int (nI kZ), .int (nI j_4), .int (nI (m_94 + 1)), .int r_86, .int iF, .ref qd], _] hP hD rfl
                      clear hP hD
                      obtain ⟨hP, hD⟩ := hPD
                      refine lv_goto (tgt := 104) hx hb dX3_step_144 (by decide +kernel) ?_
                      exact ih_93 (m_94 + 1) (by omega) (by omega) (by omega) _ _ _ hP hD hS (lv_sub hl [0, 1] rfl)
              exact lp_91 ((250 - (j_4 + 1)) + 1) (j_4 + 1) (Nat.lt_succ_self _) (by omega) (by omega) _ _ ls hP hD hS (lv_sub hl [0, 1] rfl)
            · refine lv_aload_n hx hb (g_42 bX3_step rfl) rfl (lv_at hl 0 rfl) ?_
              refine va_get (D := G) (ci := 2) (v := .int r_86) (C := RX3) (T := TX3) (N := 7) hx hb hts iX_X3 hown hK hP 0 rfl rfl 4 (by decide +kernel) (hts _ m_t153) (fun _ h9 => h9) rfl (g_180 (v := 42) bX3_step rfl) ?_
              refine lv_iconst (v := 2) hx hb (g_5 bX3_step rfl) (by decide +kernel) ?_
              refine lv_icmp_ne (tgt := 102) hx hb dX3_step_95 (by decide +kernel) (fun c_104 => ?_) (fun c_104 => ?_)
              · refine lv_iconst (v := 0) hx hb (g_3 bX3_step rfl) (by decide +kernel) ?_
                refine lv_istore_n (lv' := [(1, .int 0), (0, .ref qa)]) hx hb (g_60 bX3_step rfl) rfl hl (by decide +kernel) rfl (fun ls => ?_)
                clear hl
                intro hl
                have lp_105 : ∀ (n_106 : Nat) (m_108 : Nat), 250 - m_108 < n_106 → j_4 ≤ m_108 → m_108 ≤ kZ → ∀ (H : Heap) (locs : List Loc) (ls : Array Slot), va_P G CL [zzO qa 2 [.ref qab, .int (nI kZ), .int (nI j_4), .int (nI m_108), .int r_86, .int iF, .ref qd], zzB cy qab 250 fB] H → va_D A [zzO qa 2 [.ref qab, .int (nI kZ), .int (nI j_4), .int (nI m_108), .int r_86, .int iF, .ref qd], zzB cy qab 250 fB] → va_S A s.heap H locs → lv_has ls 2 [(1, .int 0), (0, .ref qa)] → W p l e (Rm 2 0 0) s m (List.toArray (α := Value) [.ref qa]) below meth c H locs 0 0 (MQ below ((Wv G (fun u => ∃ (kX : Nat) (kY : Nat) (iX : Int32), u = [zzO qa 2 [.ref qab, .int (nI kZ), .int (nI kX), .int (nI kY), .int iX, .int iF, .ref qd], zzB cy qab 250 fB] ∧ (kX ≤ kY ∧ kY ≤ kZ))) A) (List.toArray (α := Value) [.ref qa]) s 0 0 A) (F0 m 104 ls []) := by
                  intro n_106
                  induction n_106 with
                  | zero => intro m_108 hm9; exact absurd hm9 (Nat.not_lt_zero _)
                  | succ n_106 ih_107 =>
                    intro m_108 hm_111 hm1_109 hm2_110 H locs ls hP hD hS hl
                    refine lv_iload_n hx hb (g_27 bX3_step rfl) rfl (lv_at hl 0 rfl) ?_
                    refine lv_if_eq (tgt := 147) hx hb dX3_step_105 (by decide +kernel) (fun _ => ?_) (fun h9 => absurd (by decide +kernel) h9)
                    exact endVs [[true, true]] hx hb hr hlocks hP hD rfl (by decide +kernel) hS ⟨j_4, m_108, r_86, rfl, ⟨by omega, by omega⟩⟩ (g_177 bX3_step rfl)
                exact lp_105 ((250 - (j_4 + 1)) + 1) (j_4 + 1) (Nat.lt_succ_self _) (by omega) (by omega) _ _ ls hP hD hS (lv_sub hl [0, 1] rfl)
              · refine lv_iconst (v := 1) hx hb (g_4 bX3_step rfl) (by decide +kernel) ?_
                refine lv_goto (tgt := 103) hx hb dX3_step_99 (by decide +kernel) ?_
                refine lv_istore_n (lv' := [(1, .int 1), (0, .ref qa)]) hx hb (g_60 bX3_step rfl) rfl hl (by decide +kernel) rfl (fun ls => ?_)
                clear hl
                intro hl
                have lp_113 : ∀ (n_114 : Nat) (m_116 : Nat), 250 - m_116 < n_114 → j_4 ≤ m_116 → m_116 ≤ kZ → ∀ (H : Heap) (locs : List Loc) (ls : Array Slot), va_P G CL [zzO qa 2 [.ref qab, .int (nI kZ), .int (nI j_4), .int (nI m_116), .int r_86, .int iF, .ref qd], zzB cy qab 250 fB] H → va_D A [zzO qa 2 [.ref qab, .int (nI kZ), .int (nI j_4), .int (nI m_116), .int r_86, .int iF, .ref qd], zzB cy qab 250 fB] → va_S A s.heap H locs → lv_has ls 2 [(1, .int 1), (0, .ref qa)] → W p l e (Rm 2 0 0) s m (List.toArray (α := Value) [.ref qa]) below meth c H locs 0 0 (MQ below ((Wv G (fun u => ∃ (kX : Nat) (kY : Nat) (iX : Int32), u = [zzO qa 2 [.ref qab, .int (nI kZ), .int (nI kX), .int (nI kY), .int iX, .int iF, .ref qd], zzB cy qab 250 fB] ∧ (kX ≤ kY ∧ kY ≤ kZ))) A) (List.toArray (α := Value) [.ref qa]) s 0 0 A) (F0 m 104 ls []) := by
                  intro n_114
                  induction n_114 with
                  | zero => intro m_116 hm9; exact absurd hm9 (Nat.not_lt_zero _)
                  | succ n_114 ih_115 =>
                    intro m_116 hm_119 hm1_117 hm2_118 H locs ls hP hD hS hl
                    refine lv_iload_n hx hb (g_27 bX3_step rfl) rfl (lv_at hl 0 rfl) ?_
                    refine lv_if_eq (tgt := 147) hx hb dX3_step_105 (by decide +kernel) (fun h9 => absurd h9 (by decide +kernel)) (fun _ => ?_)
                    refine lv_aload_n hx hb (g_42 bX3_step rfl) rfl (lv_at hl 1 rfl) ?_
                    refine va_get (D := G) (ci := 2) (v := .int (nI m_116)) (C := RX3) (T := TX3) (N := 7) hx hb hts iX_X3 hown hK hP 0 rfl rfl 3 (by decide +kernel) (hts _ m_t152) (fun _ h9 => h9) rfl (g_180 (v := 33) bX3_step rfl) ?_
                    refine lv_aload_n hx hb (g_42 bX3_step rfl) rfl (lv_at hl 1 rfl) ?_
                    refine va_get (D := G) (ci := 2) (v := .int (nI kZ)) (C := RX3) (T := TX3) (N := 7) hx hb hts iX_X3 hown hK hP 0 rfl rfl 1 (by decide +kernel) (hts _ m_t149) (fun _ h9 => h9) rfl (g_180 (v := 22) bX3_step rfl) ?_
                    refine lv_icmp_ge (tgt := 147) hx hb dX3_step_116 (by decide +kernel) (fun c_121 => ?_) (fun c_121 => ?_)
                    · exact endVs [[true, true]] hx hb hr hlocks hP hD rfl (by decide +kernel) hS ⟨j_4, m_116, r_86, rfl, ⟨by omega, by omega⟩⟩ (g_177 bX3_step rfl)
                    · have hlt_122 : m_116 < kZ := lp_lt rfl rfl (by omega) (by omega) c_121
                      refine lv_aload_n hx hb (g_42 bX3_step rfl) rfl (lv_at hl 1 rfl) ?_
                      refine lv_aload_n hx hb (g_42 bX3_step rfl) rfl (lv_at hl 1 rfl) ?_
                      refine va_get (D := G) (ci := 2) (v := .int (nI m_116)) (C := RX3) (T := TX3) (N := 7) hx hb hts iX_X3 hown hK hP 0 rfl rfl 3 (by decide +kernel) (hts _ m_t152) (fun _ h9 => h9) rfl (g_180 (v := 33) bX3_step rfl) ?_
                      refine kRi (rV (As := [.int (nI m_116)]) (rest := []) (b := qa) ⟨hx, hb, hml, hown, hts⟩ (c_X3_sortAt l G cy qa qab kZ j_4 m_116 r_86 iF qd fB m_116 hZ (by first | omega | (simp only [nb_sr, np_sr, nb_wr, np_wr, nb_rd, np_rd, nb_ch, np_ch, nb_zr, np_zr, nb_za, np_za, nb_ey, np_ey, nb_hf, np_hf, nb_dd, np_dd, nb_so, np_so, nb_skn, np_skn, nb_swh, np_swh, nb_sgn, np_sgn, nb_ssd, np_ssd, nb_sgo, np_sgo, nb_sag, np_sag]; omega))) L_X3_133 (preRV (q := (RX3, TX3, 7)) hN hP [0, 1] rfl 0 2 rfl rfl) rfl ⟨Nat.le_of_ble_eq_true rfl, Nat.le_of_ble_eq_true rfl⟩ hl.1 (Nat.le_of_ble_eq_true rfl) (g_182 (v := 133) bX3_step rfl) ⟨Nat.le_of_ble_eq_true rfl, Nat.le_of_ble_eq_true rfl⟩) (fun r_123 h_124 => ?_)
                      refine lv_aload_n hx hb (g_42 bX3_step rfl) rfl (lv_at hl 1 rfl) ?_
                      refine va_get (D := G) (ci := 2) (v := .int r_86) (C := RX3) (T := TX3) (N := 7) hx hb hts iX_X3 hown hK hP 0 rfl rfl 4 (by decide +kernel) (hts _ m_t153) (fun _ h9 => h9) rfl (g_180 (v := 42) bX3_step rfl) ?_
                      refine lv_icmp_ne (tgt := 147) hx hb dX3_step_131 (by decide +kernel) (fun c_125 => ?_) (fun c_125 => ?_)
                      · exact endVs [[true, true]] hx hb hr hlocks hP hD rfl (by decide +kernel) hS ⟨j_4, m_116, r_86, rfl, ⟨by omega, by omega⟩⟩ (g_177 bX3_step rfl)
                      · refine lv_aload_n hx hb (g_42 bX3_step rfl) rfl (lv_at hl 1 rfl) ?_
                        refine lv_dup hx hb (g_89 bX3_step rfl) rfl ?_
                        refine va_get (D := G) (ci := 2) (v := .int (nI m_116)) (C := RX3) (T := TX3) (N := 7) hx hb hts iX_X3 hown hK hP 0 rfl rfl 3 (by decide +kernel) (hts _ m_t152) (fun _ h9 => h9) rfl (g_180 (v := 33) bX3_step rfl) ?_
                        refine lv_iconst (v := 1) hx hb (g_4 bX3_step rfl) (by decide +kernel) ?_
                        refine lv_iadd hx hb (g_96 bX3_step rfl) ?_
                        refine lv_seti (v := nI (m_116 + 1)) (nI_1 _) ?_
                        refine va_put (D := G) (ci := 2) (v := .int (nI (m_116 + 1))) (ty := .int) (C := RX3) (T := TX3) (N := 7) hx hb hts iX_X3 tyX3 tyX3_ok nmX3 hown hK hP hD hS 0 rfl rfl 3 (by decide +kernel) (hts _ m_t152) (fun _ h9 => h9) rfl (by decide +kernel) rfl rfl (Nat.le_of_ble_eq_true rfl) (g_181 (v := 33) bX3_step rfl) (fun H locs => ?_)
                        clear hP hD hS
                        intro hP hD hS
                        have hPD := pd_as [zzO qa 2 [.ref qab, .int (nI kZ), .int (nI j_4), .int (nI (m_116 + 1)), .int r_86, .int iF, .ref qd], _] hP hD rfl
                        clear hP hD
                        obtain ⟨hP, hD⟩ := hPD
                        refine lv_goto (tgt := 104) hx hb dX3_step_144 (by decide +kernel) ?_
                        exact ih_115 (m_116 + 1) (by omega) (by omega) (by omega) _ _ _ hP hD hS (lv_sub hl [0, 1] rfl)
                exact lp_113 ((250 - (j_4 + 1)) + 1) (j_4 + 1) (Nat.lt_succ_self _) (by omega) (by omega) _ _ ls hP hD hS (lv_sub hl [0, 1] rfl)
          · refine lv_aload_n hx hb (g_42 bX3_step rfl) rfl (lv_at hl 0 rfl) ?_
            refine va_get (D := G) (ci := 2) (v := .int (nI j_4)) (C := RX3) (T := TX3) (N := 7) hx hb hts iX_X3 hown hK hP 0 rfl rfl 2 (by decide +kernel) (hts _ m_t151) (fun _ h9 => h9) rfl (g_180 (v := 121) bX3_step rfl) ?_
            refine lv_goto (tgt := 79) hx hb dX3_step_70 (by decide +kernel) ?_
            refine va_put (D := G) (ci := 2) (v := .int (nI j_4)) (ty := .int) (C := RX3) (T := TX3) (N := 7) hx hb hts iX_X3 tyX3 tyX3_ok nmX3 hown hK hP hD hS 0 rfl rfl 3 (by decide +kernel) (hts _ m_t152) (fun _ h9 => h9) rfl (by decide +kernel) rfl rfl (Nat.le_of_ble_eq_true rfl) (g_181 (v := 33) bX3_step rfl) (fun H locs => ?_)
            clear hP hD hS
            intro hP hD hS
            have hPD := pd_as [zzO qa 2 [.ref qab, .int (nI kZ), .int (nI j_4), .int (nI j_4), .int r_86, .int iF, .ref qd], _] hP hD rfl
            clear hP hD
            obtain ⟨hP, hD⟩ := hPD
            refine lv_aload_n hx hb (g_42 bX3_step rfl) rfl (lv_at hl 0 rfl) ?_
            refine va_get (D := G) (ci := 2) (v := .int r_86) (C := RX3) (T := TX3) (N := 7) hx hb hts iX_X3 hown hK hP 0 rfl rfl 4 (by decide +kernel) (hts _ m_t153) (fun _ h9 => h9) rfl (g_180 (v := 42) bX3_step rfl) ?_
            refine lv_iconst (v := 1) hx hb (g_4 bX3_step rfl) (by decide +kernel) ?_
            refine lv_icmp_eq (tgt := 98) hx hb dX3_step_87 (by decide +kernel) (fun c_126 => ?_) (fun c_126 => ?_)
            · refine lv_iconst (v := 1) hx hb (g_4 bX3_step rfl) (by decide +kernel) ?_
              refine lv_goto (tgt := 103) hx hb dX3_step_99 (by decide +kernel) ?_
              refine lv_istore_n (lv' := [(1, .int 1), (0, .ref qa)]) hx hb (g_60 bX3_step rfl) rfl hl (by decide +kernel) rfl (fun ls => ?_)
              clear hl
              intro hl
              have lp_127 : ∀ (n_128 : Nat) (m_130 : Nat), 250 - m_130 < n_128 → j_4 ≤ m_130 → m_130 ≤ kZ → ∀ (H : Heap) (locs : List Loc) (ls : Array Slot), va_P G CL [zzO qa 2 [.ref qab, .int (nI kZ), .int (nI j_4), .int (nI m_130), .int r_86, .int iF, .ref qd], zzB cy qab 250 fB] H → va_D A [zzO qa 2 [.ref qab, .int (nI kZ), .int (nI j_4), .int (nI m_130), .int r_86, .int iF, .ref qd], zzB cy qab 250 fB] → va_S A s.heap H locs → lv_has ls 2 [(1, .int 1), (0, .ref qa)] → W p l e (Rm 2 0 0) s m (List.toArray (α := Value) [.ref qa]) below meth c H locs 0 0 (MQ below ((Wv G (fun u => ∃ (kX : Nat) (kY : Nat) (iX : Int32), u = [zzO qa 2 [.ref qab, .int (nI kZ), .int (nI kX), .int (nI kY), .int iX, .int iF, .ref qd], zzB cy qab 250 fB] ∧ (kX ≤ kY ∧ kY ≤ kZ))) A) (List.toArray (α := Value) [.ref qa]) s 0 0 A) (F0 m 104 ls []) := by
                intro n_128
                induction n_128 with
                | zero => intro m_130 hm9; exact absurd hm9 (Nat.not_lt_zero _)
                | succ n_128 ih_129 =>
                  intro m_130 hm_133 hm1_131 hm2_132 H locs ls hP hD hS hl
                  refine lv_iload_n hx hb (g_27 bX3_step rfl) rfl (lv_at hl 0 rfl) ?_
                  refine lv_if_eq (tgt := 147) hx hb dX3_step_105 (by decide +kernel) (fun h9 => absurd h9 (by decide +kernel)) (fun _ => ?_)
                  refine lv_aload_n hx hb (g_42 bX3_step rfl) rfl (lv_at hl 1 rfl) ?_
                  refine va_get (D := G) (ci := 2) (v := .int (nI m_130)) (C := RX3) (T := TX3) (N := 7) hx hb hts iX_X3 hown hK hP 0 rfl rfl 3 (by decide +kernel) (hts _ m_t152) (fun _ h9 => h9) rfl (g_180 (v := 33) bX3_step rfl) ?_
                  refine lv_aload_n hx hb (g_42 bX3_step rfl) rfl (lv_at hl 1 rfl) ?_
                  refine va_get (D := G) (ci := 2) (v := .int (nI kZ)) (C := RX3) (T := TX3) (N := 7) hx hb hts iX_X3 hown hK hP 0 rfl rfl 1 (by decide +kernel) (hts _ m_t149) (fun _ h9 => h9) rfl (g_180 (v := 22) bX3_step rfl) ?_
                  refine lv_icmp_ge (tgt := 147) hx hb dX3_step_116 (by decide +kernel) (fun c_135 => ?_) (fun c_135 => ?_)
                  · exact endVs [[true, true]] hx hb hr hlocks hP hD rfl (by decide +kernel) hS ⟨j_4, m_130, r_86, rfl, ⟨by omega, by omega⟩⟩ (g_177 bX3_step rfl)
                  · have hlt_136 : m_130 < kZ := lp_lt rfl rfl (by omega) (by omega) c_135
                    refine lv_aload_n hx hb (g_42 bX3_step rfl) rfl (lv_at hl 1 rfl) ?_
                    refine lv_aload_n hx hb (g_42 bX3_step rfl) rfl (lv_at hl 1 rfl) ?_
                    refine va_get (D := G) (ci := 2) (v := .int (nI m_130)) (C := RX3) (T := TX3) (N := 7) hx hb hts iX_X3 hown hK hP 0 rfl rfl 3 (by decide +kernel) (hts _ m_t152) (fun _ h9 => h9) rfl (g_180 (v := 33) bX3_step rfl) ?_
                    refine kRi (rV (As := [.int (nI m_130)]) (rest := []) (b := qa) ⟨hx, hb, hml, hown, hts⟩ (c_X3_sortAt l G cy qa qab kZ j_4 m_130 r_86 iF qd fB m_130 hZ (by first | omega | (simp only [nb_sr, np_sr, nb_wr, np_wr, nb_rd, np_rd, nb_ch, np_ch, nb_zr, np_zr, nb_za, np_za, nb_ey, np_ey, nb_hf, np_hf, nb_dd, np_dd, nb_so, np_so, nb_skn, np_skn, nb_swh, np_swh, nb_sgn, np_sgn, nb_ssd, np_ssd, nb_sgo, np_sgo, nb_sag, np_sag]; omega))) L_X3_133 (preRV (q := (RX3, TX3, 7)) hN hP [0, 1] rfl 0 2 rfl rfl) rfl ⟨Nat.le_of_ble_eq_true rfl, Nat.le_of_ble_eq_true rfl⟩ hl.1 (Nat.le_of_ble_eq_true rfl) (g_182 (v := 133) bX3_step rfl) ⟨Nat.le_of_ble_eq_true rfl, Nat.le_of_ble_eq_true rfl⟩) (fun r_137 h_138 => ?_)
                    refine lv_aload_n hx hb (g_42 bX3_step rfl) rfl (lv_at hl 1 rfl) ?_
                    refine va_get (D := G) (ci := 2) (v := .int r_86) (C := RX3) (T := TX3) (N := 7) hx hb hts iX_X3 hown hK hP 0 rfl rfl 4 (by decide +kernel) (hts _ m_t153) (fun _ h9 => h9) rfl (g_180 (v := 42) bX3_step rfl) ?_
                    refine lv_icmp_ne (tgt := 147) hx hb dX3_step_131 (by decide +kernel) (fun c_139 => ?_) (fun c_139 => ?_)
                    · exact endVs [[true, true]] hx hb hr hlocks hP hD rfl (by decide +kernel) hS ⟨j_4, m_130, r_86, rfl, ⟨by omega, by omega⟩⟩ (g_177 bX3_step rfl)
                    · refine lv_aload_n hx hb (g_42 bX3_step rfl) rfl (lv_at hl 1 rfl) ?_
                      refine lv_dup hx hb (g_89 bX3_step rfl) rfl ?_
                      refine va_get (D := G) (ci := 2) (v := .int (nI m_130)) (C := RX3) (T := TX3) (N := 7) hx hb hts iX_X3 hown hK hP 0 rfl rfl 3 (by decide +kernel) (hts _ m_t152) (fun _ h9 => h9) rfl (g_180 (v := 33) bX3_step rfl) ?_
                      refine lv_iconst (v := 1) hx hb (g_4 bX3_step rfl) (by decide +kernel) ?_
                      refine lv_iadd hx hb (g_96 bX3_step rfl) ?_
                      refine lv_seti (v := nI (m_130 + 1)) (nI_1 _) ?_
                      refine va_put (D := G) (ci := 2) (v := .int (nI (m_130 + 1))) (ty := .int) (C := RX3) (T := TX3) (N := 7) hx hb hts iX_X3 tyX3 tyX3_ok nmX3 hown hK hP hD hS 0 rfl rfl 3 (by decide +kernel) (hts _ m_t152) (fun _ h9 => h9) rfl (by decide +kernel) rfl rfl (Nat.le_of_ble_eq_true rfl) (g_181 (v := 33) bX3_step rfl) (fun H locs => ?_)
                      clear hP hD hS
                      intro hP hD hS
                      have hPD := pd_as [zzO qa 2 [.ref qab, .int (nI kZ), .int (nI j_4), .int (nI (m_130 + 1)), .int r_86, .int iF, .ref qd], _] hP hD rfl
                      clear hP hD
                      obtain ⟨hP, hD⟩ := hPD
                      refine lv_goto (tgt := 104) hx hb dX3_step_144 (by decide +kernel) ?_
                      exact ih_129 (m_130 + 1) (by omega) (by omega) (by omega) _ _ _ hP hD hS (lv_sub hl [0, 1] rfl)
              exact lp_127 ((250 - j_4) + 1) j_4 (Nat.lt_succ_self _) (by omega) (by omega) _ _ ls hP hD hS (lv_sub hl [0, 1] rfl)
            · refine lv_aload_n hx hb (g_42 bX3_step rfl) rfl (lv_at hl 0 rfl) ?_
              refine va_get (D := G) (ci := 2) (v := .int r_86) (C := RX3) (T := TX3) (N := 7) hx hb hts iX_X3 hown hK hP 0 rfl rfl 4 (by decide +kernel) (hts _ m_t153) (fun _ h9 => h9) rfl (g_180 (v := 42) bX3_step rfl) ?_
              refine lv_iconst (v := 2) hx hb (g_5 bX3_step rfl) (by decide +kernel) ?_
              refine lv_icmp_ne (tgt := 102) hx hb dX3_step_95 (by decide +kernel) (fun c_140 => ?_) (fun c_140 => ?_)
              · refine lv_iconst (v := 0) hx hb (g_3 bX3_step rfl) (by decide +kernel) ?_
                refine lv_istore_n (lv' := [(1, .int 0), (0, .ref qa)]) hx hb (g_60 bX3_step rfl) rfl hl (by decide +kernel) rfl (fun ls => ?_)
                clear hl
                intro hl
                have lp_141 : ∀ (n_142 : Nat) (m_144 : Nat), 250 - m_144 < n_142 → j_4 ≤ m_144 → m_144 ≤ kZ → ∀ (H : Heap) (locs : List Loc) (ls : Array Slot), va_P G CL [zzO qa 2 [.ref qab, .int (nI kZ), .int (nI j_4), .int (nI m_144), .int r_86, .int iF, .ref qd], zzB cy qab 250 fB] H → va_D A [zzO qa 2 [.ref qab, .int (nI kZ), .int (nI j_4), .int (nI m_144), .int r_86, .int iF, .ref qd], zzB cy qab 250 fB] → va_S A s.heap H locs → lv_has ls 2 [(1, .int 0), (0, .ref qa)] → W p l e (Rm 2 0 0) s m (List.toArray (α := Value) [.ref qa]) below meth c H locs 0 0 (MQ below ((Wv G (fun u => ∃ (kX : Nat) (kY : Nat) (iX : Int32), u = [zzO qa 2 [.ref qab, .int (nI kZ), .int (nI kX), .int (nI kY), .int iX, .int iF, .ref qd], zzB cy qab 250 fB] ∧ (kX ≤ kY ∧ kY ≤ kZ))) A) (List.toArray (α := Value) [.ref qa]) s 0 0 A) (F0 m 104 ls []) := by
                  intro n_142
                  induction n_142 with
                  | zero => intro m_144 hm9; exact absurd hm9 (Nat.not_lt_zero _)
                  | succ n_142 ih_143 =>
                    intro m_144 hm_147 hm1_145 hm2_146 H locs ls hP hD hS hl
                    refine lv_iload_n hx hb (g_27 bX3_step rfl) rfl (lv_at hl 0 rfl) ?_
                    refine lv_if_eq (tgt := 147) hx hb dX3_step_105 (by decide +kernel) (fun _ => ?_) (fun h9 => absurd (by decide +kernel) h9)
                    exact endVs [[true, true]] hx hb hr hlocks hP hD rfl (by decide +kernel) hS ⟨j_4, m_144, r_86, rfl, ⟨by omega, by omega⟩⟩ (g_177 bX3_step rfl)
                exact lp_141 ((250 - j_4) + 1) j_4 (Nat.lt_succ_self _) (by omega) (by omega) _ _ ls hP hD hS (lv_sub hl [0, 1] rfl)
              · refine lv_iconst (v := 1) hx hb (g_4 bX3_step rfl) (by decide +kernel) ?_
                refine lv_goto (tgt := 103) hx hb dX3_step_99 (by decide +kernel) ?_
                refine lv_istore_n (lv' := [(1, .int 1), (0, .ref qa)]) hx hb (g_60 bX3_step rfl) rfl hl (by decide +kernel) rfl (fun ls => ?_)
                clear hl
                intro hl
                have lp_149 : ∀ (n_150 : Nat) (m_152 : Nat), 250 - m_152 < n_150 → j_4 ≤ m_152 → m_152 ≤ kZ → ∀ (H : Heap) (locs : List Loc) (ls : Array Slot), va_P G CL [zzO qa 2 [.ref qab, .int (nI kZ), .int (nI j_4), .int (nI m_152), .int r_86, .int iF, .ref qd], zzB cy qab 250 fB] H → va_D A [zzO qa 2 [.ref qab, .int (nI kZ), .int (nI j_4), .int (nI m_152), .int r_86, .int iF, .ref qd], zzB cy qab 250 fB] → va_S A s.heap H locs → lv_has ls 2 [(1, .int 1), (0, .ref qa)] → W p l e (Rm 2 0 0) s m (List.toArray (α := Value) [.ref qa]) below meth c H locs 0 0 (MQ below ((Wv G (fun u => ∃ (kX : Nat) (kY : Nat) (iX : Int32), u = [zzO qa 2 [.ref qab, .int (nI kZ), .int (nI kX), .int (nI kY), .int iX, .int iF, .ref qd], zzB cy qab 250 fB] ∧ (kX ≤ kY ∧ kY ≤ kZ))) A) (List.toArray (α := Value) [.ref qa]) s 0 0 A) (F0 m 104 ls []) := by
                  intro n_150
                  induction n_150 with
                  | zero => intro m_152 hm9; exact absurd hm9 (Nat.not_lt_zero _)
                  | succ n_150 ih_151 =>
                    intro m_152 hm_155 hm1_153 hm2_154 H locs ls hP hD hS hl
                    refine lv_iload_n hx hb (g_27 bX3_step rfl) rfl (lv_at hl 0 rfl) ?_
                    refine lv_if_eq (tgt := 147) hx hb dX3_step_105 (by decide +kernel) (fun h9 => absurd h9 (by decide +kernel)) (fun _ => ?_)
                    refine lv_aload_n hx hb (g_42 bX3_step rfl) rfl (lv_at hl 1 rfl) ?_
                    refine va_get (D := G) (ci := 2) (v := .int (nI m_152)) (C := RX3) (T := TX3) (N := 7) hx hb hts iX_X3 hown hK hP 0 rfl rfl 3 (by decide +kernel) (hts _ m_t152) (fun _ h9 => h9) rfl (g_180 (v := 33) bX3_step rfl) ?_
                    refine lv_aload_n hx hb (g_42 bX3_step rfl) rfl (lv_at hl 1 rfl) ?_
                    refine va_get (D := G) (ci := 2) (v := .int (nI kZ)) (C := RX3) (T := TX3) (N := 7) hx hb hts iX_X3 hown hK hP 0 rfl rfl 1 (by decide +kernel) (hts _ m_t149) (fun _ h9 => h9) rfl (g_180 (v := 22) bX3_step rfl) ?_
                    refine lv_icmp_ge (tgt := 147) hx hb dX3_step_116 (by decide +kernel) (fun c_157 => ?_) (fun c_157 => ?_)
                    · exact endVs [[true, true]] hx hb hr hlocks hP hD rfl (by decide +kernel) hS ⟨j_4, m_152, r_86, rfl, ⟨by omega, by omega⟩⟩ (g_177 bX3_step rfl)
                    · have hlt_158 : m_152 < kZ := lp_lt rfl rfl (by omega) (by omega) c_157
                      refine lv_aload_n hx hb (g_42 bX3_step rfl) rfl (lv_at hl 1 rfl) ?_
                      refine lv_aload_n hx hb (g_42 bX3_step rfl) rfl (lv_at hl 1 rfl) ?_
                      refine va_get (D := G) (ci := 2) (v := .int (nI m_152)) (C := RX3) (T := TX3) (N := 7) hx hb hts iX_X3 hown hK hP 0 rfl rfl 3 (by decide +kernel) (hts _ m_t152) (fun _ h9 => h9) rfl (g_180 (v := 33) bX3_step rfl) ?_
                      refine kRi (rV (As := [.int (nI m_152)]) (rest := []) (b := qa) ⟨hx, hb, hml, hown, hts⟩ (c_X3_sortAt l G cy qa qab kZ j_4 m_152 r_86 iF qd fB m_152 hZ (by first | omega | (simp only [nb_sr, np_sr, nb_wr, np_wr, nb_rd, np_rd, nb_ch, np_ch, nb_zr, np_zr, nb_za, np_za, nb_ey, np_ey, nb_hf, np_hf, nb_dd, np_dd, nb_so, np_so, nb_skn, np_skn, nb_swh, np_swh, nb_sgn, np_sgn, nb_ssd, np_ssd, nb_sgo, np_sgo, nb_sag, np_sag]; omega))) L_X3_133 (preRV (q := (RX3, TX3, 7)) hN hP [0, 1] rfl 0 2 rfl rfl) rfl ⟨Nat.le_of_ble_eq_true rfl, Nat.le_of_ble_eq_true rfl⟩ hl.1 (Nat.le_of_ble_eq_true rfl) (g_182 (v := 133) bX3_step rfl) ⟨Nat.le_of_ble_eq_true rfl, Nat.le_of_ble_eq_true rfl⟩) (fun r_159 h_160 => ?_)
                      refine lv_aload_n hx hb (g_42 bX3_step rfl) rfl (lv_at hl 1 rfl) ?_
                      refine va_get (D := G) (ci := 2) (v := .int r_86) (C := RX3) (T := TX3) (N := 7) hx hb hts iX_X3 hown hK hP 0 rfl rfl 4 (by decide +kernel) (hts _ m_t153) (fun _ h9 => h9) rfl (g_180 (v := 42) bX3_step rfl) ?_
                      refine lv_icmp_ne (tgt := 147) hx hb dX3_step_131 (by decide +kernel) (fun c_161 => ?_) (fun c_161 => ?_)
                      · exact endVs [[true, true]] hx hb hr hlocks hP hD rfl (by decide +kernel) hS ⟨j_4, m_152, r_86, rfl, ⟨by omega, by omega⟩⟩ (g_177 bX3_step rfl)
                      · refine lv_aload_n hx hb (g_42 bX3_step rfl) rfl (lv_at hl 1 rfl) ?_
                        refine lv_dup hx hb (g_89 bX3_step rfl) rfl ?_
                        refine va_get (D := G) (ci := 2) (v := .int (nI m_152)) (C := RX3) (T := TX3) (N := 7) hx hb hts iX_X3 hown hK hP 0 rfl rfl 3 (by decide +kernel) (hts _ m_t152) (fun _ h9 => h9) rfl (g_180 (v := 33) bX3_step rfl) ?_
                        refine lv_iconst (v := 1) hx hb (g_4 bX3_step rfl) (by decide +kernel) ?_
                        refine lv_iadd hx hb (g_96 bX3_step rfl) ?_
                        refine lv_seti (v := nI (m_152 + 1)) (nI_1 _) ?_
                        refine va_put (D := G) (ci := 2) (v := .int (nI (m_152 + 1))) (ty := .int) (C := RX3) (T := TX3) (N := 7) hx hb hts iX_X3 tyX3 tyX3_ok nmX3 hown hK hP hD hS 0 rfl rfl 3 (by decide +kernel) (hts _ m_t152) (fun _ h9 => h9) rfl (by decide +kernel) rfl rfl (Nat.le_of_ble_eq_true rfl) (g_181 (v := 33) bX3_step rfl) (fun H locs => ?_)
                        clear hP hD hS
                        intro hP hD hS
                        have hPD := pd_as [zzO qa 2 [.ref qab, .int (nI kZ), .int (nI j_4), .int (nI (m_152 + 1)), .int r_86, .int iF, .ref qd], _] hP hD rfl
                        clear hP hD
                        obtain ⟨hP, hD⟩ := hPD
                        refine lv_goto (tgt := 104) hx hb dX3_step_144 (by decide +kernel) ?_
                        exact ih_151 (m_152 + 1) (by omega) (by omega) (by omega) _ _ _ hP hD hS (lv_sub hl [0, 1] rfl)
                exact lp_149 ((250 - j_4) + 1) j_4 (Nat.lt_succ_self _) (by omega) (by omega) _ _ ls hP hD hS (lv_sub hl [0, 1] rfl)
        · refine lv_aload_n hx hb (g_42 bX3_step rfl) rfl (lv_at hl 0 rfl) ?_
          refine lv_dup hx hb (g_89 bX3_step rfl) rfl ?_
          refine va_get (D := G) (ci := 2) (v := .int (nI j_4)) (C := RX3) (T := TX3) (N := 7) hx hb hts iX_X3 hown hK hP 0 rfl rfl 2 (by decide +kernel) (hts _ m_t151) (fun _ h9 => h9) rfl (g_180 (v := 121) bX3_step rfl) ?_
          refine lv_iconst (v := 1) hx hb (g_4 bX3_step rfl) (by decide +kernel) ?_
          refine lv_iadd hx hb (g_96 bX3_step rfl) ?_
          refine lv_seti (v := nI (j_4 + 1)) (nI_1 _) ?_
          refine va_put (D := G) (ci := 2) (v := .int (nI (j_4 + 1))) (ty := .int) (C := RX3) (T := TX3) (N := 7) hx hb hts iX_X3 tyX3 tyX3_ok nmX3 hown hK hP hD hS 0 rfl rfl 2 (by decide +kernel) (hts _ m_t151) (fun _ h9 => h9) rfl (by decide +kernel) rfl rfl (Nat.le_of_ble_eq_true rfl) (g_181 (v := 121) bX3_step rfl) (fun H locs => ?_)
          clear hP hD hS
          intro hP hD hS
          have hPD := pd_as [zzO qa 2 [.ref qab, .int (nI kZ), .int (nI (j_4 + 1)), .int (nI kE), .int iT, .int iF, .ref qd], _] hP hD rfl
          clear hP hD
          obtain ⟨hP, hD⟩ := hPD
          refine lv_goto (tgt := 8) hx hb dX3_step_43 (by decide +kernel) ?_
          exact ih_3 (j_4 + 1) (by omega) (by omega) _ _ _ hP hD hS (lv_sub hl [0] rfl)
  exact lp_1 ((250 - kE) + 1) kE (Nat.lt_succ_self _) hE _ _ ls hP hD hS (lv_sub hl [0] rfl)
set_option maxHeartbeats 4000000 in
set_option maxRecDepth 100000 in
theorem c_X3_fail (l : Launch) (G : va_G) (cy : Nat → ClassId) (sz : Nat) (qa : Nat) (qab : Nat) (kZ : Nat) (kS : Nat) (kE : Nat) (iT : Int32) (iF : Int32) (qd : Nat)  (hZ : kZ ≤ 250) (hE : kS ≤ kE ∧ kE ≤ kZ) : MW l yX3_fail cX3_fail 1 none 1 0 0 G cy [zzO qa 2 [.ref qab, .int (nI kZ), .int (nI kS), .int (nI kE), .int iT, .int iF, .ref qd]] sz [.ref qa] (Wv G (fun u => ∃ (iX : Int32), u = [zzO qa 2 [.ref qab, .int (nI kZ), .int (nI kS), .int (nI kE), .int iT, .int iX, .ref qd]] ∧ (¬ iX = -1))) := by
  refine enW RX3 (by decide +kernel) rfl (Nat.le_of_ble_eq_true rfl) (fun p e s m below meth c ls A hx hb hml hown hts hr hlocks hP hN hl hin hD hA hS => ?_)
  have hin : meth.name = _ := hin
  have hK := hN.1
  replace hl : lv_has ls 1 [(0, .ref qa)] := hl
  refine lv_aload_n hx hb (g_42 bX3_fail rfl) rfl (lv_at hl 0 rfl) ?_
  refine va_get (D := G) (ci := 2) (v := .int iF) (C := RX3) (T := TX3) (N := 7) hx hb hts iX_X3 hown hK hP 0 rfl rfl 5 (by decide +kernel) (hts _ m_t154) (fun _ h9 => h9) rfl (g_180 (v := 30) bX3_fail rfl) ?_
  refine lv_iconst (v := (-1)) hx hb (g_2 bX3_fail rfl) (by decide +kernel) ?_
  refine lv_icmp_ne (tgt := 16) hx hb dX3_fail_5 (by decide +kernel) (fun c_1 => ?_) (fun c_1 => ?_)
  · exact endVs [[true]] hx hb hr hlocks hP hD rfl (by decide +kernel) hS ⟨iF, rfl, c_1⟩ (g_177 bX3_fail rfl)
  · refine lv_aload_n hx hb (g_42 bX3_fail rfl) rfl (lv_at hl 0 rfl) ?_
    refine lv_aload_n hx hb (g_42 bX3_fail rfl) rfl (lv_at hl 0 rfl) ?_
    refine va_get (D := G) (ci := 2) (v := .int (nI kS)) (C := RX3) (T := TX3) (N := 7) hx hb hts iX_X3 hown hK hP 0 rfl rfl 2 (by decide +kernel) (hts _ m_t151) (fun _ h9 => h9) rfl (g_180 (v := 121) bX3_fail rfl) ?_
    refine va_put (D := G) (ci := 2) (v := .int (nI kS)) (ty := .int) (C := RX3) (T := TX3) (N := 7) hx hb hts iX_X3 tyX3 tyX3_ok nmX3 hown hK hP hD hS 0 rfl rfl 5 (by decide +kernel) (hts _ m_t154) (fun _ h9 => h9) rfl (by decide +kernel) rfl rfl (Nat.le_of_ble_eq_true rfl) (g_181 (v := 30) bX3_fail rfl) (fun H locs => ?_)
    clear hP hD hS
    intro hP hD hS
    have hPD := pd_as [zzO qa 2 [.ref qab, .int (nI kZ), .int (nI kS), .int (nI kE), .int iT, .int (nI kS), .ref qd]] hP hD rfl
    clear hP hD
    obtain ⟨hP, hD⟩ := hPD
    exact endVs [[true]] hx hb hr hlocks hP hD rfl (by decide +kernel) hS ⟨nI kS, rfl, (nI_ne1' (by omega))⟩ (g_177 bX3_fail rfl)
set_option maxHeartbeats 4000000 in
set_option maxRecDepth 100000 in
theorem c_X3_numberThere (l : Launch) (G : va_G) (cy : Nat → ClassId) (qa : Nat) (qab : Nat) (kZ : Nat) (kS : Nat) (kE : Nat) (iT : Int32) (iF : Int32) (qd : Nat) (fB : Nat → Int32)  (hZ : kZ ≤ 250) (hE : kS ≤ kE ∧ kE ≤ kZ) : MR l yX3_numberThere cX3_numberThere 3 (some .int) 1 G cy [zzO qa 2 [.ref qab, .int (nI kZ), .int (nI kS), .int (nI kE), .int iT, .int iF, .ref qd], zzB cy qab 250 fB] [.ref qa] (vp_Si (fun r => True)) := by
  refine enR RX3 (by decide +kernel) rfl (Nat.le_of_ble_eq_true rfl) (fun p e s m below meth c ls hx hb hml hown hts hr hlocks hP hN hl => ?_)
  have hK := hN.1
  replace hl : lv_has ls 3 [(0, .ref qa)] := hl
  refine lv_aload_n hx hb (g_42 bX3_numberThere rfl) rfl (lv_at hl 0 rfl) ?_
  refine va_get (D := G) (ci := 2) (v := .int iT) (C := RX3) (T := TX3) (N := 7) hx hb hts iX_X3 hown hK hP 0 rfl rfl 4 (by decide +kernel) (hts _ m_t153) (fun _ h9 => h9) rfl (g_180 (v := 42) bX3_numberThere rfl) ?_
  refine lv_iconst (v := 2) hx hb (g_5 bX3_numberThere rfl) (by decide +kernel) ?_
  refine lv_icmp_ne (tgt := 21) hx hb dX3_numberThere_5 (by decide +kernel) (fun c_1 => ?_) (fun c_1 => ?_)
  · refine lv_iconst (v := (-1)) hx hb (g_2 bX3_numberThere rfl) (by decide +kernel) ?_
    exact endR hx hb hr hlocks rfl trivial (g_172 bX3_numberThere rfl)
  · refine lv_aload_n hx hb (g_42 bX3_numberThere rfl) rfl (lv_at hl 0 rfl) ?_
    refine va_get (D := G) (ci := 2) (v := .int (nI kE)) (C := RX3) (T := TX3) (N := 7) hx hb hts iX_X3 hown hK hP 0 rfl rfl 3 (by decide +kernel) (hts _ m_t152) (fun _ h9 => h9) rfl (g_180 (v := 33) bX3_numberThere rfl) ?_
    refine lv_aload_n hx hb (g_42 bX3_numberThere rfl) rfl (lv_at hl 0 rfl) ?_
    refine va_get (D := G) (ci := 2) (v := .int (nI kS)) (C := RX3) (T := TX3) (N := 7) hx hb hts iX_X3 hown hK hP 0 rfl rfl 2 (by decide +kernel) (hts _ m_t151) (fun _ h9 => h9) rfl (g_180 (v := 121) bX3_numberThere rfl) ?_
    refine lv_isub hx hb (g_100 bX3_numberThere rfl) ?_
    refine lv_iconst (v := 3) hx hb (g_6 bX3_numberThere rfl) (by decide +kernel) ?_
    refine lv_icmp_le (tgt := 23) hx hb dX3_numberThere_18 (by decide +kernel) (fun c_2 => ?_) (fun c_2 => ?_)
    · refine lv_iconst (v := 0) hx hb (g_3 bX3_numberThere rfl) (by decide +kernel) ?_
      refine lv_istore_n (lv' := [(1, .int 0), (0, .ref qa)]) hx hb (g_60 bX3_numberThere rfl) rfl hl (by decide +kernel) rfl (fun ls => ?_)
      clear hl
      intro hl
      refine lv_aload_n hx hb (g_42 bX3_numberThere rfl) rfl (lv_at hl 1 rfl) ?_
      refine va_get (D := G) (ci := 2) (v := .int (nI kS)) (C := RX3) (T := TX3) (N := 7) hx hb hts iX_X3 hown hK hP 0 rfl rfl 2 (by decide +kernel) (hts _ m_t151) (fun _ h9 => h9) rfl (g_180 (v := 121) bX3_numberThere rfl) ?_
      refine lv_istore_n (lv' := [(2, .int (nI kS)), (1, .int 0), (0, .ref qa)]) hx hb (g_61 bX3_numberThere rfl) rfl hl (by decide +kernel) rfl (fun ls => ?_)
      clear hl
      intro hl
      have lp_3 : ∀ (n_4 : Nat) (j_6 : Nat) (xV_7 : Int32), 250 - j_6 < n_4 → kS ≤ j_6 → j_6 ≤ kE → ∀ (ls : Array Slot), lv_has ls 3 [(2, .int (nI j_6)), (1, .int xV_7), (0, .ref qa)] → W p l e (Rm 1 0 0) s m (List.toArray (α := Value) [.ref qa]) below meth c s.heap [] 0 0 (MQ below (vp_Si (fun r => True)) (List.toArray (α := Value) [.ref qa]) s 0 0 (fun _ => False)) (F0 m 30 ls []) := by
        intro n_4
        induction n_4 with
        | zero => intro j_6 xV_7 hm9; exact absurd hm9 (Nat.not_lt_zero _)
        | succ n_4 ih_5 =>
          intro j_6 xV_7 hm_10 hj1_8 hj2_9 ls hl
          refine lv_iload_n hx hb (g_28 bX3_numberThere rfl) rfl (lv_at hl 0 rfl) ?_
          refine lv_aload_n hx hb (g_42 bX3_numberThere rfl) rfl (lv_at hl 2 rfl) ?_
          refine va_get (D := G) (ci := 2) (v := .int (nI kE)) (C := RX3) (T := TX3) (N := 7) hx hb hts iX_X3 hown hK hP 0 rfl rfl 3 (by decide +kernel) (hts _ m_t152) (fun _ h9 => h9) rfl (g_180 (v := 33) bX3_numberThere rfl) ?_
          refine lv_icmp_ge (tgt := 59) hx hb dX3_numberThere_35 (by decide +kernel) (fun c_11 => ?_) (fun c_11 => ?_)
          · refine lv_iload_n hx hb (g_27 bX3_numberThere rfl) rfl (lv_at hl 1 rfl) ?_
            exact endR hx hb hr hlocks rfl trivial (g_172 bX3_numberThere rfl)
          · have hlt_12 : j_6 < kE := lp_lt rfl rfl (by omega) (by omega) c_11
            refine lv_bipush (v := 10) hx hb dX3_numberThere_38 (by decide +kernel) ?_
            refine lv_iload_n hx hb (g_27 bX3_numberThere rfl) rfl (lv_at hl 1 rfl) ?_
            refine lv_imul hx hb (g_104 bX3_numberThere rfl) ?_
            refine lv_aload_n hx hb (g_42 bX3_numberThere rfl) rfl (lv_at hl 2 rfl) ?_
            refine va_get (D := G) (ci := 2) (v := .ref qab) (C := RX3) (T := TX3) (N := 7) hx hb hts iX_X3 hown hK hP 0 rfl rfl 0 (by decide +kernel) (hts _ m_t148) (fun _ h9 => h9) rfl (g_180 (v := 11) bX3_numberThere rfl) ?_
            refine lv_iload_n hx hb (g_28 bX3_numberThere rfl) rfl (lv_at hl 0 rfl) ?_
            refine va_bald hx hb hK hP 1 2 rfl rfl (vp_in_nI (by omega) (by omega)) (g_51 bX3_numberThere rfl) ?_
            refine lv_seti (v := fB j_6) (congrArg fB (nI_clamp (by omega))) ?_
            refine lv_iadd hx hb (g_96 bX3_numberThere rfl) ?_
            refine lv_bipush (v := 48) hx hb dX3_numberThere_49 (by decide +kernel) ?_
            refine lv_isub hx hb (g_100 bX3_numberThere rfl) ?_
            refine lv_istore_n (lv' := [(1, .int (((10 * xV_7) + (fB j_6)) - 48)), (2, .int (nI j_6)), (0, .ref qa)]) hx hb (g_60 bX3_numberThere rfl) rfl hl (by decide +kernel) rfl (fun ls => ?_)
            clear hl
            intro hl
            refine lv_iinc (v := nI (j_6 + 1)) (lv' := [(2, .int (nI (j_6 + 1))), (1, .int (((10 * xV_7) + (fB j_6)) - 48)), (0, .ref qa)]) hx hb dX3_numberThere_53 hl (k := 1) rfl (nI_1 _) (by decide +kernel) rfl (fun ls => ?_)
            clear hl
            intro hl
            refine lv_goto (tgt := 30) hx hb dX3_numberThere_56 (by decide +kernel) ?_
            exact ih_5 (j_6 + 1) (((10 * xV_7) + (fB j_6)) - 48) (by omega) (by omega) (by omega) _ (lv_sub hl [0, 1, 2] rfl)
      exact lp_3 ((250 - kS) + 1) kS 0 (Nat.lt_succ_self _) (Nat.le_refl _) hE.1 ls (lv_sub hl [0, 1, 2] rfl)
    · refine lv_iconst (v := (-1)) hx hb (g_2 bX3_numberThere rfl) (by decide +kernel) ?_
      exact endR hx hb hr hlocks rfl trivial (g_172 bX3_numberThere rfl)
set_option maxHeartbeats 4000000 in
set_option maxRecDepth 100000 in
theorem c_X3_isWord (l : Launch) (G : va_G) (cy : Nat → ClassId) (qa : Nat) (qab : Nat) (kZ : Nat) (kS : Nat) (kE : Nat) (iT : Int32) (iF : Int32) (qd : Nat) (fB : Nat → Int32) (qw : Nat) (lB : List Int32) (qvv : Nat)  (hZ : kZ ≤ 250) (hE : kS ≤ kE ∧ kE ≤ kZ) (hbs : lB.length ≤ 5) (hAs : ∀ k, k < lB.length → ∃ n : Nat, n < 128 ∧ lB.getD k 0 = nI n) : MRX l yX3_isWord cX3_isWord 3 (some .boolean) 5 G cy (SF lB qw qvv) [zzO qa 2 [.ref qab, .int (nI kZ), .int (nI kS), .int (nI kE), .int iT, .int iF, .ref qd], zzB cy qab 250 fB] [.ref qa, .ref qw] (vp_Si (fun r => (r = 1) ∨ (r = 0))) := by
  refine enRX RX3 (by decide +kernel) rfl (Nat.le_of_ble_eq_true rfl) (fun p e s m below meth c ls hx hb hml hown hts hr hlocks hP hN hl hX => ?_)
  have hK := hN.1
  replace hl : lv_has ls 3 [(0, .ref qa), (1, .ref qw)] := hl
  refine lv_aload_n hx hb (g_42 bX3_isWord rfl) rfl (lv_at hl 0 rfl) ?_
  refine va_get (D := G) (ci := 2) (v := .int iT) (C := RX3) (T := TX3) (N := 7) hx hb hts iX_X3 hown hK hP 0 rfl rfl 4 (by decide +kernel) (hts _ m_t153) (fun _ h9 => h9) rfl (g_180 (v := 42) bX3_isWord rfl) ?_
  refine lv_iconst (v := 1) hx hb (g_4 bX3_isWord rfl) (by decide +kernel) ?_
  refine lv_icmp_ne (tgt := 24) hx hb dX3_isWord_5 (by decide +kernel) (fun c_1 => ?_) (fun c_1 => ?_)
  · refine lv_iconst (v := 0) hx hb (g_3 bX3_isWord rfl) (by decide +kernel) ?_
    exact endR hx hb hr hlocks rfl (Or.inr rfl) (g_172 bX3_isWord rfl)
  · refine lv_aload_n hx hb (g_42 bX3_isWord rfl) rfl (lv_at hl 0 rfl) ?_
    refine va_get (D := G) (ci := 2) (v := .int (nI kE)) (C := RX3) (T := TX3) (N := 7) hx hb hts iX_X3 hown hK hP 0 rfl rfl 3 (by decide +kernel) (hts _ m_t152) (fun _ h9 => h9) rfl (g_180 (v := 33) bX3_isWord rfl) ?_
    refine lv_aload_n hx hb (g_42 bX3_isWord rfl) rfl (lv_at hl 0 rfl) ?_
    refine va_get (D := G) (ci := 2) (v := .int (nI kS)) (C := RX3) (T := TX3) (N := 7) hx hb hts iX_X3 hown hK hP 0 rfl rfl 2 (by decide +kernel) (hts _ m_t151) (fun _ h9 => h9) rfl (g_180 (v := 121) bX3_isWord rfl) ?_
    refine lv_isub hx hb (g_100 bX3_isWord rfl) ?_
    refine lv_aload_n hx hb (g_43 bX3_isWord rfl) rfl (lv_at hl 1 rfl) ?_
    refine kRi (rV (As := []) (rest := [.int ((nI kE) - (nI kS))]) (b := qw) ⟨hx, hb, hml, hown, hts⟩ (j_length l G cy lB qw qvv) L_X3_124 (preRVS hN hX va_S.rf) rfl ⟨Nat.le_of_ble_eq_true rfl, Nat.le_of_ble_eq_true rfl⟩ hl.1 (Nat.le_of_ble_eq_true rfl) (g_182 (v := 124) bX3_isWord rfl) ⟨Nat.le_of_ble_eq_true rfl, Nat.le_of_ble_eq_true rfl⟩) (fun r_2 h_3 => ?_)
    subst h_3
    refine lv_icmp_eq (tgt := 26) hx hb dX3_isWord_21 (by decide +kernel) (fun c_4 => ?_) (fun c_4 => ?_)
    · have hEn : kE = kS + lB.length := wd_len (by omega) (by omega) (by omega) c_4
      refine lv_iconst (v := 0) hx hb (g_3 bX3_isWord rfl) (by decide +kernel) ?_
      refine lv_istore_n (lv' := [(2, .int 0), (0, .ref qa), (1, .ref qw)]) hx hb (g_61 bX3_isWord rfl) rfl hl (by decide +kernel) rfl (fun ls => ?_)
      clear hl
      intro hl
      have lp_5 : ∀ (n_6 : Nat) (j_8 : Nat), 250 - j_8 < n_6 → j_8 ≤ lB.length → ∀ (ls : Array Slot), lv_has ls 3 [(2, .int (nI j_8)), (0, .ref qa), (1, .ref qw)] → W p l e (Rm 5 0 0) s m (List.toArray (α := Value) [.ref qa, .ref qw]) below meth c s.heap [] 0 0 (MQ below (vp_Si (fun r => (r = 1) ∨ (r = 0))) (List.toArray (α := Value) [.ref qa, .ref qw]) s 0 0 (fun _ => False)) (F0 m 28 ls []) := by
        intro n_6
        induction n_6 with
        | zero => intro j_8 hm9; exact absurd hm9 (Nat.not_lt_zero _)
        | succ n_6 ih_7 =>
          intro j_8 hm_10 hj_9 ls hl
          refine lv_iload_n hx hb (g_28 bX3_isWord rfl) rfl (lv_at hl 0 rfl) ?_
          refine lv_aload_n hx hb (g_43 bX3_isWord rfl) rfl (lv_at hl 2 rfl) ?_
          refine kRi (rV (As := []) (rest := [.int (nI j_8)]) (b := qw) ⟨hx, hb, hml, hown, hts⟩ (j_length l G cy lB qw qvv) L_X3_124 (preRVS hN hX va_S.rf) rfl ⟨Nat.le_of_ble_eq_true rfl, Nat.le_of_ble_eq_true rfl⟩ hl.1 (Nat.le_of_ble_eq_true rfl) (g_182 (v := 124) bX3_isWord rfl) ⟨Nat.le_of_ble_eq_true rfl, Nat.le_of_ble_eq_true rfl⟩) (fun r_11 h_12 => ?_)
          subst h_12
          refine lv_icmp_ge (tgt := 63) hx hb dX3_isWord_33 (by decide +kernel) (fun c_13 => ?_) (fun c_13 => ?_)
          · refine lv_iconst (v := 1) hx hb (g_4 bX3_isWord rfl) (by decide +kernel) ?_
            exact endR hx hb hr hlocks rfl (Or.inl rfl) (g_172 bX3_isWord rfl)
          · have hlt_14 : j_8 < lB.length := lp_lt rfl rfl (by omega) (by omega) c_13
            refine lv_aload_n hx hb (g_42 bX3_isWord rfl) rfl (lv_at hl 1 rfl) ?_
            refine va_get (D := G) (ci := 2) (v := .ref qab) (C := RX3) (T := TX3) (N := 7) hx hb hts iX_X3 hown hK hP 0 rfl rfl 0 (by decide +kernel) (hts _ m_t148) (fun _ h9 => h9) rfl (g_180 (v := 11) bX3_isWord rfl) ?_
            refine lv_aload_n hx hb (g_42 bX3_isWord rfl) rfl (lv_at hl 1 rfl) ?_
            refine va_get (D := G) (ci := 2) (v := .int (nI kS)) (C := RX3) (T := TX3) (N := 7) hx hb hts iX_X3 hown hK hP 0 rfl rfl 2 (by decide +kernel) (hts _ m_t151) (fun _ h9 => h9) rfl (g_180 (v := 121) bX3_isWord rfl) ?_
            refine lv_iload_n hx hb (g_28 bX3_isWord rfl) rfl (lv_at hl 0 rfl) ?_
            refine lv_iadd hx hb (g_96 bX3_isWord rfl) ?_
            refine lv_seti (v := nI (kS + j_8)) (nI_add _ _) ?_
            refine va_bald hx hb hK hP 1 2 rfl rfl (vp_in_nI (by omega) (by omega)) (g_51 bX3_isWord rfl) ?_
            refine lv_seti (v := fB (kS + j_8)) (congrArg fB (nI_clamp (by omega))) ?_
            refine lv_aload_n hx hb (g_43 bX3_isWord rfl) rfl (lv_at hl 2 rfl) ?_
            refine lv_iload_n hx hb (g_28 bX3_isWord rfl) rfl (lv_at hl 0 rfl) ?_
            refine kRi (rV (As := [.int (nI j_8)]) (rest := [.int (fB (kS + j_8))]) (b := qw) ⟨hx, hb, hml, hown, hts⟩ (j_charAt l G cy lB qw qvv j_8 (by omega) (by omega) (hAs _ (by omega))) L_X3_129 (preRVS hN hX va_S.rf) rfl ⟨Nat.le_of_ble_eq_true rfl, Nat.le_of_ble_eq_true rfl⟩ hl.1 (Nat.le_of_ble_eq_true rfl) (g_182 (v := 129) bX3_isWord rfl) ⟨Nat.le_of_ble_eq_true rfl, Nat.le_of_ble_eq_true rfl⟩) (fun r_15 h_16 => ?_)
            subst h_16
            refine lv_icmp_eq (tgt := 57) hx hb dX3_isWord_52 (by decide +kernel) (fun c_17 => ?_) (fun c_17 => ?_)
            · refine lv_iinc (v := nI (j_8 + 1)) (lv' := [(2, .int (nI (j_8 + 1))), (0, .ref qa), (1, .ref qw)]) hx hb dX3_isWord_57 hl (k := 0) rfl (nI_1 _) (by decide +kernel) rfl (fun ls => ?_)
              clear hl
              intro hl
              refine lv_goto (tgt := 28) hx hb dX3_isWord_60 (by decide +kernel) ?_
              exact ih_7 (j_8 + 1) (by omega) (by omega) _ (lv_sub hl [0, 1, 2] rfl)
            · refine lv_iconst (v := 0) hx hb (g_3 bX3_isWord rfl) (by decide +kernel) ?_
              exact endR hx hb hr hlocks rfl (Or.inr rfl) (g_172 bX3_isWord rfl)
      exact lp_5 ((250 - 0) + 1) 0 (Nat.lt_succ_self _) (Nat.zero_le _) ls (lv_sub hl [0, 1, 2] rfl)
    · refine lv_iconst (v := 0) hx hb (g_3 bX3_isWord rfl) (by decide +kernel) ?_
      exact endR hx hb hr hlocks rfl (Or.inr rfl) (g_172 bX3_isWord rfl)
set_option maxHeartbeats 4000000 in
set_option maxRecDepth 100000 in
theorem c_X3_passes (l : Launch) (G : va_G) (cy : Nat → ClassId) (sz : Nat) (qa : Nat) (qab : Nat) (kZ : Nat) (kS : Nat) (kE : Nat) (iT : Int32) (iF : Int32) (qd : Nat) (fB : Nat → Int32) (qw : Nat) (lB : List Int32) (qvv : Nat)  (hZ : kZ ≤ 250) (hE : kS ≤ kE ∧ kE ≤ kZ) (hbs : lB.length ≤ 5) (hAs : ∀ k, k < lB.length → ∃ n : Nat, n < 128 ∧ lB.getD k 0 = nI n) : MWX l yX3_passes cX3_passes 2 (some .boolean) 6 0 0 G cy (SF lB qw qvv) [zzO qa 2 [.ref qab, .int (nI kZ), .int (nI kS), .int (nI kE), .int iT, .int iF, .ref qd], zzB cy qab 250 fB] sz [.ref qa, .ref qw] (Wi G (fun r u => ∃ (kX : Nat) (kY : Nat) (iX : Int32), u = [zzO qa 2 [.ref qab, .int (nI kZ), .int (nI kX), .int (nI kY), .int iX, .int iF, .ref qd], zzB cy qab 250 fB] ∧ (kX ≤ kY ∧ kY ≤ kZ) ∧ (True))) := by
  refine enWX RX3 (by decide +kernel) rfl (Nat.le_of_ble_eq_true rfl) (fun p e s m below meth c ls A hx hb hml hown hts hr hlocks hP hN hl hin hD hA hS hX => ?_)
  have hin : meth.name = _ := hin
  have hK := hN.1
  replace hl : lv_has ls 2 [(0, .ref qa), (1, .ref qw)] := hl
  refine lv_aload_n hx hb (g_42 bX3_passes rfl) rfl (lv_at hl 0 rfl) ?_
  refine va_get (D := G) (ci := 2) (v := .int iF) (C := RX3) (T := TX3) (N := 7) hx hb hts iX_X3 hown hK hP 0 rfl rfl 5 (by decide +kernel) (hts _ m_t154) (fun _ h9 => h9) rfl (g_180 (v := 30) bX3_passes rfl) ?_
  refine lv_iconst (v := (-1)) hx hb (g_2 bX3_passes rfl) (by decide +kernel) ?_
  refine lv_icmp_ne (tgt := 16) hx hb dX3_passes_5 (by decide +kernel) (fun c_1 => ?_) (fun c_1 => ?_)
  · refine lv_iconst (v := 0) hx hb (g_3 bX3_passes rfl) (by decide +kernel) ?_
    exact endWs [[true, true]] hx hb hr hlocks rfl hP hD rfl (by decide +kernel) hS ⟨kS, kE, iT, rfl, ⟨by omega, by omega⟩, trivial⟩ (g_172 bX3_passes rfl)
  · refine lv_aload_n hx hb (g_42 bX3_passes rfl) rfl (lv_at hl 0 rfl) ?_
    refine lv_aload_n hx hb (g_43 bX3_passes rfl) rfl (lv_at hl 1 rfl) ?_
    refine kRi (rV (As := [.ref qw]) (rest := []) (b := qa) ⟨hx, hb, hml, hown, hts⟩ (c_X3_isWord l G cy qa qab kZ kS kE iT iF qd fB qw lB qvv hZ hE hbs hAs) L_X3_50 (preRVX (q := (RX3, TX3, 7)) hN hP [0, 1] rfl 0 2 rfl rfl SF_ok hX hS) rfl ⟨Nat.le_of_ble_eq_true rfl, Nat.le_of_ble_eq_true rfl⟩ hl.1 (Nat.le_of_ble_eq_true rfl) (g_182 (v := 50) bX3_passes rfl) ⟨Nat.le_of_ble_eq_true rfl, Nat.le_of_ble_eq_true rfl⟩) (fun r_2 h_3 => ?_)
    rcases h_3 with rfl | rfl
    · refine lv_if_ne (tgt := 18) hx hb dX3_passes_13 (by decide +kernel) (fun _ => ?_) (fun h9 => absurd h9 (by decide +kernel))
      refine lv_aload_n hx hb (g_42 bX3_passes rfl) rfl (lv_at hl 0 rfl) ?_
      refine cVv (As := []) (rest := []) (b := qa) (q := (RX3, TX3, 7)) ⟨hx, hb, hml, hown, hts⟩ (c_X3_step l G cy (s.heap).size qa qab kZ (nI kS) kE iT iF qd fB hZ (by first | omega | (simp only [nb_sr, np_sr, nb_wr, np_wr, nb_rd, np_rd, nb_ch, np_ch, nb_zr, np_zr, nb_za, np_za, nb_ey, np_ey, nb_hf, np_hf, nb_dd, np_dd, nb_so, np_so, nb_skn, np_skn, nb_swh, np_swh, nb_sgn, np_sgn, nb_ssd, np_ssd, nb_sgo, np_sgo, nb_sag, np_sag]; omega))) L_X3_36 hN hP hD hS hA [0, 1] [false, false] rfl (by decide +kernel) rfl 0 2 rfl rfl rfl ⟨Nat.le_of_ble_eq_true rfl, Nat.le_of_ble_eq_true rfl⟩ hl.1 (Nat.le_of_ble_eq_true rfl) (g_182 (v := 36) bX3_passes rfl) ⟨Nat.le_of_ble_eq_true rfl, Nat.le_of_ble_eq_true rfl⟩ (fun u_8 H locs h_7 => ?_)
      clear hP hD hS
      intro hP hD hS
      obtain ⟨kX_9, kY_10, iX_11, hu9, h_12⟩ := h_7
      have hPD := pd_eq [zzO qa 2 [.ref qab, .int (nI kZ), .int (nI kX_9), .int (nI kY_10), .int iX_11, .int iF, .ref qd], _] hP hD hu9 rfl
      clear hP hD hu9
      obtain ⟨hP, hD⟩ := hPD
      refine lv_iconst (v := 1) hx hb (g_4 bX3_passes rfl) (by decide +kernel) ?_
      exact endWs [[true, true]] hx hb hr hlocks rfl hP hD rfl (by decide +kernel) hS ⟨kX_9, kY_10, iX_11, rfl, ⟨by omega, by omega⟩, trivial⟩ (g_172 bX3_passes rfl)
    · refine lv_if_ne (tgt := 18) hx hb dX3_passes_13 (by decide +kernel) (fun h9 => absurd (by decide +kernel) h9) (fun _ => ?_)
      refine lv_iconst (v := 0) hx hb (g_3 bX3_passes rfl) (by decide +kernel) ?_
      exact endWs [[true, true]] hx hb hr hlocks rfl hP hD rfl (by decide +kernel) hS ⟨kS, kE, iT, rfl, ⟨by omega, by omega⟩, trivial⟩ (g_172 bX3_passes rfl)
set_option maxHeartbeats 4000000 in
set_option maxRecDepth 100000 in
theorem c_X3_takeNumber (l : Launch) (G : va_G) (cy : Nat → ClassId) (sz : Nat) (qa : Nat) (qab : Nat) (kZ : Nat) (kS : Nat) (kE : Nat) (iT : Int32) (iF : Int32) (qd : Nat) (fB : Nat → Int32) (iA : Int32) (iB : Int32)  (hZ : kZ ≤ 250) (hE : kS ≤ kE ∧ kE ≤ kZ) : MW l yX3_takeNumber cX3_takeNumber 4 (some .int) 3 0 0 G cy [zzO qa 2 [.ref qab, .int (nI kZ), .int (nI kS), .int (nI kE), .int iT, .int iF, .ref qd], zzB cy qab 250 fB] sz [.ref qa, .int iA, .int iB] (Wi G (fun r u => ∃ (kX : Nat) (kY : Nat) (iX : Int32) (iY : Int32), u = [zzO qa 2 [.ref qab, .int (nI kZ), .int (nI kX), .int (nI kY), .int iX, .int iY, .ref qd], zzB cy qab 250 fB] ∧ (kX ≤ kY ∧ kY ≤ kZ ∧ (iY = -1 → iF = -1 ∧ iA ≤ r ∧ r ≤ iB)) ∧ (True))) := by
  refine enW RX3 (by decide +kernel) rfl (Nat.le_of_ble_eq_true rfl) (fun p e s m below meth c ls A hx hb hml hown hts hr hlocks hP hN hl hin hD hA hS => ?_)
  have hin : meth.name = _ := hin
  have hK := hN.1
  replace hl : lv_has ls 4 [(0, .ref qa), (1, .int iA), (2, .int iB)] := hl
  refine lv_aload_n hx hb (g_42 bX3_takeNumber rfl) rfl (lv_at hl 0 rfl) ?_
  refine kRi (rV (As := []) (rest := []) (b := qa) ⟨hx, hb, hml, hown, hts⟩ (c_X3_numberThere l G cy qa qab kZ kS kE iT iF qd fB hZ hE) L_X3_117 (preRV (q := (RX3, TX3, 7)) hN hP [0, 1] rfl 0 2 rfl rfl) rfl ⟨Nat.le_of_ble_eq_true rfl, Nat.le_of_ble_eq_true rfl⟩ hl.1 (Nat.le_of_ble_eq_true rfl) (g_182 (v := 117) bX3_takeNumber rfl) ⟨Nat.le_of_ble_eq_true rfl, Nat.le_of_ble_eq_true rfl⟩) (fun r_1 h_2 => ?_)
  refine lv_istore_n (lv' := [(3, .int r_1), (0, .ref qa), (1, .int iA), (2, .int iB)]) hx hb (g_62 bX3_takeNumber rfl) rfl hl (by decide +kernel) rfl (fun ls => ?_)
  clear hl
  intro hl
  refine lv_aload_n hx hb (g_42 bX3_takeNumber rfl) rfl (lv_at hl 1 rfl) ?_
  refine va_get (D := G) (ci := 2) (v := .int iF) (C := RX3) (T := TX3) (N := 7) hx hb hts iX_X3 hown hK hP 0 rfl rfl 5 (by decide +kernel) (hts _ m_t154) (fun _ h9 => h9) rfl (g_180 (v := 30) bX3_takeNumber rfl) ?_
  refine lv_iconst (v := (-1)) hx hb (g_2 bX3_takeNumber rfl) (by decide +kernel) ?_
  refine lv_icmp_ne (tgt := 23) hx hb dX3_takeNumber_10 (by decide +kernel) (fun c_3 => ?_) (fun c_3 => ?_)
  · refine lv_aload_n hx hb (g_42 bX3_takeNumber rfl) rfl (lv_at hl 1 rfl) ?_
    refine cVv (As := []) (rest := []) (b := qa) (q := (RX3, TX3, 7)) ⟨hx, hb, hml, hown, hts⟩ (c_X3_fail l G cy (s.heap).size qa qab kZ kS kE iT iF qd hZ hE) L_X3_45 hN hP hD hS hA [0] [false, true] rfl (by decide +kernel) rfl 0 2 rfl rfl rfl ⟨Nat.le_of_ble_eq_true rfl, Nat.le_of_ble_eq_true rfl⟩ hl.1 (Nat.le_of_ble_eq_true rfl) (g_182 (v := 45) bX3_takeNumber rfl) ⟨Nat.le_of_ble_eq_true rfl, Nat.le_of_ble_eq_true rfl⟩ (fun u_6 H locs h_5 => ?_)
    clear hP hD hS
    intro hP hD hS
    obtain ⟨iX_7, hu9, h_8⟩ := h_5
    have hPD := pd_eq [_, zzO qa 2 [.ref qab, .int (nI kZ), .int (nI kS), .int (nI kE), .int iT, .int iX_7, .ref qd]] hP hD hu9 rfl
    clear hP hD hu9
    obtain ⟨hP, hD⟩ := hPD
    refine lv_iconst (v := (-1)) hx hb (g_2 bX3_takeNumber rfl) (by decide +kernel) ?_
    exact endWs [[false, true], [true]] hx hb hr hlocks rfl hP hD rfl (by decide +kernel) hS ⟨kS, kE, iT, iX_7, rfl, ⟨by omega, by omega, fun q => absurd q h_8⟩, trivial⟩ (g_172 bX3_takeNumber rfl)
  · refine lv_iload_n hx hb (g_29 bX3_takeNumber rfl) rfl (lv_at hl 0 rfl) ?_
    refine lv_iload_n hx hb (g_27 bX3_takeNumber rfl) rfl (lv_at hl 2 rfl) ?_
    refine lv_icmp_lt (tgt := 23) hx hb dX3_takeNumber_15 (by decide +kernel) (fun c_9 => ?_) (fun c_9 => ?_)
    · refine lv_aload_n hx hb (g_42 bX3_takeNumber rfl) rfl (lv_at hl 1 rfl) ?_
      refine cVv (As := []) (rest := []) (b := qa) (q := (RX3, TX3, 7)) ⟨hx, hb, hml, hown, hts⟩ (c_X3_fail l G cy (s.heap).size qa qab kZ kS kE iT iF qd hZ hE) L_X3_45 hN hP hD hS hA [0] [false, true] rfl (by decide +kernel) rfl 0 2 rfl rfl rfl ⟨Nat.le_of_ble_eq_true rfl, Nat.le_of_ble_eq_true rfl⟩ hl.1 (Nat.le_of_ble_eq_true rfl) (g_182 (v := 45) bX3_takeNumber rfl) ⟨Nat.le_of_ble_eq_true rfl, Nat.le_of_ble_eq_true rfl⟩ (fun u_12 H locs h_11 => ?_)
      clear hP hD hS
      intro hP hD hS
      obtain ⟨iX_13, hu9, h_14⟩ := h_11
      have hPD := pd_eq [_, zzO qa 2 [.ref qab, .int (nI kZ), .int (nI kS), .int (nI kE), .int iT, .int iX_13, .ref qd]] hP hD hu9 rfl
      clear hP hD hu9
      obtain ⟨hP, hD⟩ := hPD
      refine lv_iconst (v := (-1)) hx hb (g_2 bX3_takeNumber rfl) (by decide +kernel) ?_
      exact endWs [[false, true], [true]] hx hb hr hlocks rfl hP hD rfl (by decide +kernel) hS ⟨kS, kE, iT, iX_13, rfl, ⟨by omega, by omega, fun q => absurd q h_14⟩, trivial⟩ (g_172 bX3_takeNumber rfl)
    · refine lv_iload_n hx hb (g_29 bX3_takeNumber rfl) rfl (lv_at hl 0 rfl) ?_
      refine lv_iload_n hx hb (g_28 bX3_takeNumber rfl) rfl (lv_at hl 3 rfl) ?_
      refine lv_icmp_le (tgt := 29) hx hb dX3_takeNumber_20 (by decide +kernel) (fun c_15 => ?_) (fun c_15 => ?_)
      · refine lv_aload_n hx hb (g_42 bX3_takeNumber rfl) rfl (lv_at hl 1 rfl) ?_
        refine cVv (As := []) (rest := []) (b := qa) (q := (RX3, TX3, 7)) ⟨hx, hb, hml, hown, hts⟩ (c_X3_step l G cy (s.heap).size qa qab kZ (nI kS) kE iT iF qd fB hZ (by first | omega | (simp only [nb_sr, np_sr, nb_wr, np_wr, nb_rd, np_rd, nb_ch, np_ch, nb_zr, np_zr, nb_za, np_za, nb_ey, np_ey, nb_hf, np_hf, nb_dd, np_dd, nb_so, np_so, nb_skn, np_skn, nb_swh, np_swh, nb_sgn, np_sgn, nb_ssd, np_ssd, nb_sgo, np_sgo, nb_sag, np_sag]; omega))) L_X3_36 hN hP hD hS hA [0, 1] [false, false] rfl (by decide +kernel) rfl 0 2 rfl rfl rfl ⟨Nat.le_of_ble_eq_true rfl, Nat.le_of_ble_eq_true rfl⟩ hl.1 (Nat.le_of_ble_eq_true rfl) (g_182 (v := 36) bX3_takeNumber rfl) ⟨Nat.le_of_ble_eq_true rfl, Nat.le_of_ble_eq_true rfl⟩ (fun u_18 H locs h_17 => ?_)
        clear hP hD hS
        intro hP hD hS
        obtain ⟨kX_19, kY_20, iX_21, hu9, h_22⟩ := h_17
        have hPD := pd_eq [zzO qa 2 [.ref qab, .int (nI kZ), .int (nI kX_19), .int (nI kY_20), .int iX_21, .int iF, .ref qd], _] hP hD hu9 rfl
        clear hP hD hu9
        obtain ⟨hP, hD⟩ := hPD
        refine lv_iload_n hx hb (g_29 bX3_takeNumber rfl) rfl (lv_at hl 0 rfl) ?_
        exact endWs [[true, true]] hx hb hr hlocks rfl hP hD rfl (by decide +kernel) hS ⟨kX_19, kY_20, iX_21, iF, rfl, ⟨by omega, by omega, fun q => ⟨q, Int32.not_lt.mp c_9, c_15⟩⟩, trivial⟩ (g_172 bX3_takeNumber rfl)
      · refine lv_aload_n hx hb (g_42 bX3_takeNumber rfl) rfl (lv_at hl 1 rfl) ?_
        refine cVv (As := []) (rest := []) (b := qa) (q := (RX3, TX3, 7)) ⟨hx, hb, hml, hown, hts⟩ (c_X3_fail l G cy (s.heap).size qa qab kZ kS kE iT iF qd hZ hE) L_X3_45 hN hP hD hS hA [0] [false, true] rfl (by decide +kernel) rfl 0 2 rfl rfl rfl ⟨Nat.le_of_ble_eq_true rfl, Nat.le_of_ble_eq_true rfl⟩ hl.1 (Nat.le_of_ble_eq_true rfl) (g_182 (v := 45) bX3_takeNumber rfl) ⟨Nat.le_of_ble_eq_true rfl, Nat.le_of_ble_eq_true rfl⟩ (fun u_25 H locs h_24 => ?_)
        clear hP hD hS
        intro hP hD hS
        obtain ⟨iX_26, hu9, h_27⟩ := h_24
        have hPD := pd_eq [_, zzO qa 2 [.ref qab, .int (nI kZ), .int (nI kS), .int (nI kE), .int iT, .int iX_26, .ref qd]] hP hD hu9 rfl
        clear hP hD hu9
        obtain ⟨hP, hD⟩ := hPD
        refine lv_iconst (v := (-1)) hx hb (g_2 bX3_takeNumber rfl) (by decide +kernel) ?_
        exact endWs [[false, true], [true]] hx hb hr hlocks rfl hP hD rfl (by decide +kernel) hS ⟨kS, kE, iT, iX_26, rfl, ⟨by omega, by omega, fun q => absurd q h_27⟩, trivial⟩ (g_172 bX3_takeNumber rfl)
set_option maxHeartbeats 4000000 in
set_option maxRecDepth 100000 in
theorem c_X3_readBook (l : Launch) (G : va_G) (cy : Nat → ClassId) (sz : Nat) (qa : Nat) (qab : Nat) (kZ : Nat) (kS : Nat) (kE : Nat) (iT : Int32) (iF : Int32) (qd : Nat) (fB : Nat → Int32) (tD : TA) (qdw : Nat) (qdn : Nat) (qdg : Nat) (qda : Nat) (qdr : Nat) (qdm : Nat) (qdt : Nat) (qds : Nat)  (hZ : kZ ≤ 250) (hE : kS ≤ kE ∧ kE ≤ kZ) (hDb : T_nb tD ≤ 8) (hDp : T_np tD ≤ 8) : MWX l yX3_readBook cX3_readBook 3 none 8 0 0 G cy SO [zzO qa 2 [.ref qab, .int (nI kZ), .int (nI kS), .int (nI kE), .int iT, .int iF, .ref qd], zzB cy qab 250 fB, zzO qd 3 [.int (nI (T_nb tD)), .int (nI (T_np tD)), .int (wb (T_wh tD)), .int (wb (T_gn tD)), .int (T_sd tD), .ref qdw, .ref qdn, .ref qdg, .ref qda, .ref qdr, .ref qdm, .ref qdt, .ref qds], zzI cy qdw 8 (T_wo tD), zzI cy qdn 8 (T_ne tD), zzI cy qdg 8 (T_go tD), zzI cy qda 8 (T_ag tD), zzI cy qdr 8 (T_re tD), zzI cy qdm 8 (T_me tD), zzI cy qdt 8 (T_te tD), zzI cy qds 64 (shF (T_kn tD))] sz [.ref qa] (Wv G (fun u => ∃ (kX : Nat) (kY : Nat) (iX : Int32) (iY : Int32) (tX : TA), u = [zzO qa 2 [.ref qab, .int (nI kZ), .int (nI kX), .int (nI kY), .int iX, .int iY, .ref qd], zzB cy qab 250 fB, zzO qd 3 [.int (nI (T_nb tX)), .int (nI (T_np tX)), .int (wb (T_wh tX)), .int (wb (T_gn tX)), .int (T_sd tX), .ref qdw, .ref qdn, .ref qdg, .ref qda, .ref qdr, .ref qdm, .ref qdt, .ref qds], zzI cy qdw 8 (T_wo tX), zzI cy qdn 8 (T_ne tX), zzI cy qdg 8 (T_go tX), zzI cy qda 8 (T_ag tX), zzI cy qdr 8 (T_re tX), zzI cy qdm 8 (T_me tX), zzI cy qdt 8 (T_te tX), zzI cy qds 64 (shF (T_kn tX))] ∧ (kX ≤ kY ∧ kY ≤ kZ ∧ T_nb tX ≤ 8 ∧ T_np tX ≤ 8))) := by
  refine enWX RX3 (by decide +kernel) rfl (Nat.le_of_ble_eq_true rfl) (fun p e s m below meth c ls A hx hb hml hown hts hr hlocks hP hN hl hin hD hA hS hX => ?_)
  have hin : meth.name = _ := hin
  have hK := hN.1
  replace hl : lv_has ls 3 [(0, .ref qa)] := hl
  refine lv_aload_n hx hb (g_42 bX3_readBook rfl) rfl (lv_at hl 0 rfl) ?_
  refine va_get (D := G) (ci := 2) (v := .ref qd) (C := RX3) (T := TX3) (N := 7) hx hb hts iX_X3 hown hK hP 0 rfl rfl 6 (by decide +kernel) (hts _ m_t156) (fun _ h9 => h9) rfl (g_180 (v := 18) bX3_readBook rfl) ?_
  refine va_getN (D := G) (ci := 3) (v := .int (nI (T_nb tD))) (C := RX4) (T := TX4) (N := 13) hx hb hts iX_X4 hown hK hP 2 rfl rfl 0 (by decide +kernel) (va_Nw.use rfl (hN.2.1 (RX3, 77, "EachBookOnce$Town", "books", "I") (List.mem_of_getElem? (i := 0) rfl))) (fun _ h9 => h9) rfl (g_180 (v := 77) bX3_readBook rfl) ?_
  refine lv_bipush (v := 8) hx hb dX3_readBook_7 (by decide +kernel) ?_
  refine lv_icmp_lt (tgt := 17) hx hb dX3_readBook_9 (by decide +kernel) (fun c_1 => ?_) (fun c_1 => ?_)
  · have hlt8 : T_nb tD < 8 := lt_of8 (by omega) c_1
    refine lv_aload_n hx hb (g_42 bX3_readBook rfl) rfl (lv_at hl 0 rfl) ?_
    refine cVv (As := []) (rest := []) (b := qa) (q := (RX3, TX3, 7)) ⟨hx, hb, hml, hown, hts⟩ (c_X3_step l G cy (s.heap).size qa qab kZ (nI kS) kE iT iF qd fB hZ (by first | omega | (simp only [nb_sr, np_sr, nb_wr, np_wr, nb_rd, np_rd, nb_ch, np_ch, nb_zr, np_zr, nb_za, np_za, nb_ey, np_ey, nb_hf, np_hf, nb_dd, np_dd, nb_so, np_so, nb_skn, np_skn, nb_swh, np_swh, nb_sgn, np_sgn, nb_ssd, np_ssd, nb_sgo, np_sgo, nb_sag, np_sag]; omega))) L_X3_36 hN hP hD hS hA [0, 1] [false, false, true, true, true, true, true, true, true, true, true] rfl (by decide +kernel) rfl 0 2 rfl rfl rfl ⟨Nat.le_of_ble_eq_true rfl, Nat.le_of_ble_eq_true rfl⟩ hl.1 (Nat.le_of_ble_eq_true rfl) (g_182 (v := 36) bX3_readBook rfl) ⟨Nat.le_of_ble_eq_true rfl, Nat.le_of_ble_eq_true rfl⟩ (fun u_4 H locs h_3 => ?_)
    clear hP hD hS
    intro hP hD hS
    obtain ⟨kX_5, kY_6, iX_7, hu9, h_8⟩ := h_3
    have hPD := pd_eq [_, _, _, _, _, _, _, _, _, zzO qa 2 [.ref qab, .int (nI kZ), .int (nI kX_5), .int (nI kY_6), .int iX_7, .int iF, .ref qd], _] hP hD hu9 rfl
    clear hP hD hu9
    obtain ⟨hP, hD⟩ := hPD
    refine lv_aload_n hx hb (g_42 bX3_readBook rfl) rfl (lv_at hl 0 rfl) ?_
    refine lv_iconst (v := 1) hx hb (g_4 bX3_readBook rfl) (by decide +kernel) ?_
    refine lv_bipush (v := 99) hx hb dX3_readBook_23 (by decide +kernel) ?_
    refine cVi (As := [.int 1, .int 99]) (rest := []) (b := qa) (q := (RX3, TX3, 7)) ⟨hx, hb, hml, hown, hts⟩ (c_X3_takeNumber l G cy (H).size qa qab kZ kX_5 kY_6 iX_7 iF qd fB 1 99 hZ (by first | omega | (simp only [nb_sr, np_sr, nb_wr, np_wr, nb_rd, np_rd, nb_ch, np_ch, nb_zr, np_zr, nb_za, np_za, nb_ey, np_ey, nb_hf, np_hf, nb_dd, np_dd, nb_so, np_so, nb_skn, np_skn, nb_swh, np_swh, nb_sgn, np_sgn, nb_ssd, np_ssd, nb_sgo, np_sgo, nb_sag, np_sag]; omega))) L_X3_80 hN hP hD hS hA [9, 10] [true, true, true, true, true, true, true, true, true, false, false] rfl (by decide +kernel) rfl 9 2 rfl rfl rfl ⟨Nat.le_of_ble_eq_true rfl, Nat.le_of_ble_eq_true rfl⟩ hl.1 (Nat.le_of_ble_eq_true rfl) (g_182 (v := 80) bX3_readBook rfl) ⟨Nat.le_of_ble_eq_true rfl, Nat.le_of_ble_eq_true rfl⟩ (fun r_9 u_11 H locs h_10 => ?_)
    clear hP hD hS
    intro hP hD hS
    obtain ⟨kX_12, kY_13, iX_14, iY_15, hu9, h_16, h_10⟩ := h_10
    have hPD := pd_eq [_, _, _, _, _, _, _, _, _, zzO qa 2 [.ref qab, .int (nI kZ), .int (nI kX_12), .int (nI kY_13), .int iX_14, .int iY_15, .ref qd], _] hP hD hu9 rfl
    clear hP hD hu9
    obtain ⟨hP, hD⟩ := hPD
    refine lv_istore_n (lv' := [(1, .int r_9), (0, .ref qa)]) hx hb (g_60 bX3_readBook rfl) rfl hl (by decide +kernel) rfl (fun ls => ?_)
    clear hl
    intro hl
    refine lv_aload_n hx hb (g_42 bX3_readBook rfl) rfl (lv_at hl 1 rfl) ?_
    obtain ⟨qs_17, qv_19, hs_18, hf_20⟩ := hX (RX3, 84, "good", [103, 111, 111, 100]) (List.mem_of_getElem? (i := 1) rfl)
    refine va_ldcS hx hb hown hs_18 (g_18 (v := 84) bX3_readBook rfl) ?_
    refine cVXi (As := [.ref qs_17]) (rest := []) (b := qa) (q := (RX3, TX3, 7)) ⟨hx, hb, hml, hown, hts⟩ (c_X3_passes l G cy (H).size qa qab kZ kX_12 kY_13 iX_14 iY_15 qd fB qs_17 ([103, 111, 111, 100]) qv_19 hZ (by first | omega | (simp only [nb_sr, np_sr, nb_wr, np_wr, nb_rd, np_rd, nb_ch, np_ch, nb_zr, np_zr, nb_za, np_za, nb_ey, np_ey, nb_hf, np_hf, nb_dd, np_dd, nb_so, np_so, nb_skn, np_skn, nb_swh, np_swh, nb_sgn, np_sgn, nb_ssd, np_ssd, nb_sgo, np_sgo, nb_sag, np_sag]; omega)) (by decide +kernel) as_good) L_X3_86 hN hP hD hS hA [9, 10] [true, true, true, true, true, true, true, true, true, false, false] rfl (by decide +kernel) rfl 9 2 rfl rfl SF_ok hf_20 rfl ⟨Nat.le_of_ble_eq_true rfl, Nat.le_of_ble_eq_true rfl⟩ hl.1 (Nat.le_of_ble_eq_true rfl) (g_182 (v := 86) bX3_readBook rfl) ⟨Nat.le_of_ble_eq_true rfl, Nat.le_of_ble_eq_true rfl⟩ (fun r_21 u_23 H locs h_22 => ?_)
    clear hP hD hS
    intro hP hD hS
    obtain ⟨kX_24, kY_25, iX_26, hu9, h_27, h_22⟩ := h_22
    have hPD := pd_eq [_, _, _, _, _, _, _, _, _, zzO qa 2 [.ref qab, .int (nI kZ), .int (nI kX_24), .int (nI kY_25), .int iX_26, .int iY_15, .ref qd], _] hP hD hu9 rfl
    clear hP hD hu9
    obtain ⟨hP, hD⟩ := hPD
    refine lv_if_eq (tgt := 49) hx hb dX3_readBook_35 (by decide +kernel) (fun c_28 => ?_) (fun c_28 => ?_)
    · refine lv_sipush (v := 1000) hx hb dX3_readBook_49 (by decide +kernel) ?_
      refine lv_istore_n (lv' := [(2, .int 1000), (1, .int r_9), (0, .ref qa)]) hx hb (g_61 bX3_readBook rfl) rfl hl (by decide +kernel) rfl (fun ls => ?_)
      clear hl
      intro hl
      refine lv_aload_n hx hb (g_42 bX3_readBook rfl) rfl (lv_at hl 2 rfl) ?_
      refine va_get (D := G) (ci := 2) (v := .int iY_15) (C := RX3) (T := TX3) (N := 7) hx hb hts iX_X3 hown hK hP 9 rfl rfl 5 (by decide +kernel) (hts _ m_t154) (fun _ h9 => h9) rfl (g_180 (v := 30) bX3_readBook rfl) ?_
      refine lv_iconst (v := (-1)) hx hb (g_2 bX3_readBook rfl) (by decide +kernel) ?_
      refine lv_icmp_ne (tgt := 79) hx hb dX3_readBook_58 (by decide +kernel) (fun c_29 => ?_) (fun c_29 => ?_)
      · exact endV (u := [zzO qa 2 [.ref qab, .int (nI kZ), .int (nI kX_24), .int (nI kY_25), .int iX_26, .int iY_15, .ref qd], zzB cy qab 250 fB, zzO qd 3 [.int (nI (T_nb tD)), .int (nI (T_np tD)), .int (wb (T_wh tD)), .int (wb (T_gn tD)), .int (T_sd tD), .ref qdw, .ref qdn, .ref qdg, .ref qda, .ref qdr, .ref qdm, .ref qdt, .ref qds], zzI cy qdw 8 (T_wo tD), zzI cy qdn 8 (T_ne tD), zzI cy qdg 8 (T_go tD), zzI cy qda 8 (T_ag tD), zzI cy qdr 8 (T_re tD), zzI cy qdm 8 (T_me tD), zzI cy qdt 8 (T_te tD), zzI cy qds 64 (shF (T_kn tD))]) hx hb hr hlocks (pSb hP [[false, false, false, false, false, false, false, false, false, true, true], [true, true, true, true, true, true, true, true, true]] rfl rfl) (dSb hD [[false, false, false, false, false, false, false, false, false, true, true], [true, true, true, true, true, true, true, true, true]] (by decide +kernel) rfl rfl) hS ⟨kX_24, kY_25, iX_26, iY_15, tD, rfl, ⟨by omega, by omega, by first | omega | (show T_nb tD + 1 ≤ 8; omega) | (show T_nb tD ≤ 8; omega), by first | omega | (show T_np tD + 1 ≤ 8; omega) | (show T_np tD ≤ 8; omega)⟩⟩ (g_177 bX3_readBook rfl)
      · refine lv_aload_n hx hb (g_42 bX3_readBook rfl) rfl (lv_at hl 2 rfl) ?_
        refine va_get (D := G) (ci := 2) (v := .ref qd) (C := RX3) (T := TX3) (N := 7) hx hb hts iX_X3 hown hK hP 9 rfl rfl 6 (by decide +kernel) (hts _ m_t156) (fun _ h9 => h9) rfl (g_180 (v := 18) bX3_readBook rfl) ?_
        refine va_getN (D := G) (ci := 3) (v := .ref qdg) (C := RX4) (T := TX4) (N := 13) hx hb hts iX_X4 hown hK hP 0 rfl rfl 7 (by decide +kernel) (va_Nw.use rfl (hN.2.1 (RX3, 89, "EachBookOnce$Town", "good", "[I") (List.mem_of_getElem? (i := 17) rfl))) (fun _ h9 => h9) rfl (g_180 (v := 89) bX3_readBook rfl) ?_
        refine lv_aload_n hx hb (g_42 bX3_readBook rfl) rfl (lv_at hl 2 rfl) ?_
        refine va_get (D := G) (ci := 2) (v := .ref qd) (C := RX3) (T := TX3) (N := 7) hx hb hts iX_X3 hown hK hP 9 rfl rfl 6 (by decide +kernel) (hts _ m_t156) (fun _ h9 => h9) rfl (g_180 (v := 18) bX3_readBook rfl) ?_
        refine lv_iload_n hx hb (g_27 bX3_readBook rfl) rfl (lv_at hl 1 rfl) ?_
        refine lv_iconst (v := 0) hx hb (g_3 bX3_readBook rfl) (by decide +kernel) ?_
        refine cVi (As := [.int r_9, .int 0]) (rest := [.ref qdg]) (b := qd) (q := (RX4, TX4, 13)) ⟨hx, hb, hml, hown, hts⟩ (c_X4_addBook l G cy (H).size qd tD qdw qdn qdg qda qdr qdm qdt qds r_9 0 (by first | omega | (simp only [nb_sr, np_sr, nb_wr, np_wr, nb_rd, np_rd, nb_ch, np_ch, nb_zr, np_zr, nb_za, np_za, nb_ey, np_ey, nb_hf, np_hf, nb_dd, np_dd, nb_so, np_so, nb_skn, np_skn, nb_swh, np_swh, nb_sgn, np_sgn, nb_ssd, np_ssd, nb_sgo, np_sgo, nb_sag, np_sag]; omega))) L_X3_92 hN hP hD hS hA (trueIx 0 [true, true, true, true, true, true, true, true, true]) [false, false, false, false, false, false, false, false, false, true, true] (sel_eq rfl rfl) (by decide +kernel) rfl 0 3 rfl rfl rfl ⟨Nat.le_of_ble_eq_true rfl, Nat.le_of_ble_eq_true rfl⟩ hl.1 (Nat.le_of_ble_eq_true rfl) (g_182 (v := 92) bX3_readBook rfl) ⟨Nat.le_of_ble_eq_true rfl, Nat.le_of_ble_eq_true rfl⟩ (fun r_30 u_32 H locs h_31 => ?_)
        clear hP hD hS
        intro hP hD hS
        obtain ⟨hu9, h_31⟩ := h_31
        have hPD := pd_eq [_, _, zzO qd 3 [.int (nI (T_nb (zab tD r_9 0))), .int (nI (T_np (zab tD r_9 0))), .int (wb (T_wh (zab tD r_9 0))), .int (wb (T_gn (zab tD r_9 0))), .int (T_sd (zab tD r_9 0)), .ref qdw, .ref qdn, .ref qdg, .ref qda, .ref qdr, .ref qdm, .ref qdt, .ref qds], zzI cy qdw 8 (T_wo (zab tD r_9 0)), zzI cy qdn 8 (T_ne (zab tD r_9 0)), zzI cy qdg 8 (T_go (zab tD r_9 0)), zzI cy qda 8 (T_ag (zab tD r_9 0)), zzI cy qdr 8 (T_re (zab tD r_9 0)), zzI cy qdm 8 (T_me (zab tD r_9 0)), zzI cy qdt 8 (T_te (zab tD r_9 0)), zzI cy qds 64 (shF (T_kn (zab tD r_9 0)))] hP hD hu9 rfl
        clear hP hD hu9
        obtain ⟨hP, hD⟩ := hPD
        subst h_31
        refine lv_iload_n hx hb (g_28 bX3_readBook rfl) rfl (lv_at hl 0 rfl) ?_
        refine va_iast hx hb hK hP hD hS 5 0 rfl rfl (in8 (by omega)) (g_79 bX3_readBook rfl) (fun H locs => ?_)
        clear hP hD hS
        intro hP hD hS
        rw [cl8 (k := (T_nb tD)) (by omega)] at hP hD
        have hPD := pd_as [_, _, _, _, _, zzI cy qdg 8 (upd (T_go (zab tD r_9 0)) (T_nb tD) 1000), _, _, _, _, _] hP hD rfl
        clear hP hD
        obtain ⟨hP, hD⟩ := hPD
        have hPD := pd_as [_, _, zzO qd 3 [.int (nI (T_nb (T_setgo (zab tD r_9 0) (upd (T_go (zab tD r_9 0)) (T_nb tD) 1000)))), .int (nI (T_np (T_setgo (zab tD r_9 0) (upd (T_go (zab tD r_9 0)) (T_nb tD) 1000)))), .int (wb (T_wh (T_setgo (zab tD r_9 0) (upd (T_go (zab tD r_9 0)) (T_nb tD) 1000)))), .int (wb (T_gn (T_setgo (zab tD r_9 0) (upd (T_go (zab tD r_9 0)) (T_nb tD) 1000)))), .int (T_sd (T_setgo (zab tD r_9 0) (upd (T_go (zab tD r_9 0)) (T_nb tD) 1000))), .ref qdw, .ref qdn, .ref qdg, .ref qda, .ref qdr, .ref qdm, .ref qdt, .ref qds], zzI cy qdw 8 (T_wo (T_setgo (zab tD r_9 0) (upd (T_go (zab tD r_9 0)) (T_nb tD) 1000))), zzI cy qdn 8 (T_ne (T_setgo (zab tD r_9 0) (upd (T_go (zab tD r_9 0)) (T_nb tD) 1000))), zzI cy qdg 8 (T_go (T_setgo (zab tD r_9 0) (upd (T_go (zab tD r_9 0)) (T_nb tD) 1000))), zzI cy qda 8 (T_ag (T_setgo (zab tD r_9 0) (upd (T_go (zab tD r_9 0)) (T_nb tD) 1000))), zzI cy qdr 8 (T_re (T_setgo (zab tD r_9 0) (upd (T_go (zab tD r_9 0)) (T_nb tD) 1000))), zzI cy qdm 8 (T_me (T_setgo (zab tD r_9 0) (upd (T_go (zab tD r_9 0)) (T_nb tD) 1000))), zzI cy qdt 8 (T_te (T_setgo (zab tD r_9 0) (upd (T_go (zab tD r_9 0)) (T_nb tD) 1000))), zzI cy qds 64 (shF (T_kn (T_setgo (zab tD r_9 0) (upd (T_go (zab tD r_9 0)) (T_nb tD) 1000))))] hP hD rfl
        clear hP hD
        obtain ⟨hP, hD⟩ := hPD
        exact endV (u := [zzO qa 2 [.ref qab, .int (nI kZ), .int (nI kX_24), .int (nI kY_25), .int iX_26, .int iY_15, .ref qd], zzB cy qab 250 fB, zzO qd 3 [.int (nI (T_nb (T_setgo (zab tD r_9 0) (upd (T_go (zab tD r_9 0)) (T_nb tD) 1000)))), .int (nI (T_np (T_setgo (zab tD r_9 0) (upd (T_go (zab tD r_9 0)) (T_nb tD) 1000)))), .int (wb (T_wh (T_setgo (zab tD r_9 0) (upd (T_go (zab tD r_9 0)) (T_nb tD) 1000)))), .int (wb (T_gn (T_setgo (zab tD r_9 0) (upd (T_go (zab tD r_9 0)) (T_nb tD) 1000)))), .int (T_sd (T_setgo (zab tD r_9 0) (upd (T_go (zab tD r_9 0)) (T_nb tD) 1000))), .ref qdw, .ref qdn, .ref qdg, .ref qda, .ref qdr, .ref qdm, .ref qdt, .ref qds], zzI cy qdw 8 (T_wo (T_setgo (zab tD r_9 0) (upd (T_go (zab tD r_9 0)) (T_nb tD) 1000))), zzI cy qdn 8 (T_ne (T_setgo (zab tD r_9 0) (upd (T_go (zab tD r_9 0)) (T_nb tD) 1000))), zzI cy qdg 8 (T_go (T_setgo (zab tD r_9 0) (upd (T_go (zab tD r_9 0)) (T_nb tD) 1000))), zzI cy qda 8 (T_ag (T_setgo (zab tD r_9 0) (upd (T_go (zab tD r_9 0)) (T_nb tD) 1000))), zzI cy qdr 8 (T_re (T_setgo (zab tD r_9 0) (upd (T_go (zab tD r_9 0)) (T_nb tD) 1000))), zzI cy qdm 8 (T_me (T_setgo (zab tD r_9 0) (upd (T_go (zab tD r_9 0)) (T_nb tD) 1000))), zzI cy qdt 8 (T_te (T_setgo (zab tD r_9 0) (upd (T_go (zab tD r_9 0)) (T_nb tD) 1000))), zzI cy qds 64 (shF (T_kn (T_setgo (zab tD r_9 0) (upd (T_go (zab tD r_9 0)) (T_nb tD) 1000))))]) hx hb hr hlocks (pSb hP [[true, true, true, true, true, true, true, true, true, true, true]] rfl rfl) (dSb hD [[true, true, true, true, true, true, true, true, true, true, true]] (by decide +kernel) rfl rfl) hS ⟨kX_24, kY_25, iX_26, iY_15, (T_setgo (zab tD r_9 0) (upd (T_go (zab tD r_9 0)) (T_nb tD) 1000)), rfl, ⟨by omega, by omega, by first | omega | (show T_nb tD + 1 ≤ 8; omega) | (show T_nb tD ≤ 8; omega), by first | omega | (show T_np tD + 1 ≤ 8; omega) | (show T_np tD ≤ 8; omega)⟩⟩ (g_177 bX3_readBook rfl)
    · refine lv_aload_n hx hb (g_42 bX3_readBook rfl) rfl (lv_at hl 1 rfl) ?_
      refine lv_iconst (v := 0) hx hb (g_3 bX3_readBook rfl) (by decide +kernel) ?_
      refine lv_sipush (v := 1000) hx hb dX3_readBook_40 (by decide +kernel) ?_
      refine cVi (As := [.int 0, .int 1000]) (rest := []) (b := qa) (q := (RX3, TX3, 7)) ⟨hx, hb, hml, hown, hts⟩ (c_X3_takeNumber l G cy (H).size qa qab kZ kX_24 kY_25 iX_26 iY_15 qd fB 0 1000 hZ (by first | omega | (simp only [nb_sr, np_sr, nb_wr, np_wr, nb_rd, np_rd, nb_ch, np_ch, nb_zr, np_zr, nb_za, np_za, nb_ey, np_ey, nb_hf, np_hf, nb_dd, np_dd, nb_so, np_so, nb_skn, np_skn, nb_swh, np_swh, nb_sgn, np_sgn, nb_ssd, np_ssd, nb_sgo, np_sgo, nb_sag, np_sag]; omega))) L_X3_80 hN hP hD hS hA [9, 10] [true, true, true, true, true, true, true, true, true, false, false] rfl (by decide +kernel) rfl 9 2 rfl rfl rfl ⟨Nat.le_of_ble_eq_true rfl, Nat.le_of_ble_eq_true rfl⟩ hl.1 (Nat.le_of_ble_eq_true rfl) (g_182 (v := 80) bX3_readBook rfl) ⟨Nat.le_of_ble_eq_true rfl, Nat.le_of_ble_eq_true rfl⟩ (fun r_33 u_35 H locs h_34 => ?_)
      clear hP hD hS
      intro hP hD hS
      obtain ⟨kX_36, kY_37, iX_38, iY_39, hu9, h_40, h_34⟩ := h_34
      have hPD := pd_eq [_, _, _, _, _, _, _, _, _, zzO qa 2 [.ref qab, .int (nI kZ), .int (nI kX_36), .int (nI kY_37), .int iX_38, .int iY_39, .ref qd], _] hP hD hu9 rfl
      clear hP hD hu9
      obtain ⟨hP, hD⟩ := hPD
      refine lv_goto (tgt := 52) hx hb dX3_readBook_46 (by decide +kernel) ?_
      refine lv_istore_n (lv' := [(2, .int r_33), (1, .int r_9), (0, .ref qa)]) hx hb (g_61 bX3_readBook rfl) rfl hl (by decide +kernel) rfl (fun ls => ?_)
      clear hl
      intro hl
      refine lv_aload_n hx hb (g_42 bX3_readBook rfl) rfl (lv_at hl 2 rfl) ?_
      refine va_get (D := G) (ci := 2) (v := .int iY_39) (C := RX3) (T := TX3) (N := 7) hx hb hts iX_X3 hown hK hP 9 rfl rfl 5 (by decide +kernel) (hts _ m_t154) (fun _ h9 => h9) rfl (g_180 (v := 30) bX3_readBook rfl) ?_
      refine lv_iconst (v := (-1)) hx hb (g_2 bX3_readBook rfl) (by decide +kernel) ?_
      refine lv_icmp_ne (tgt := 79) hx hb dX3_readBook_58 (by decide +kernel) (fun c_41 => ?_) (fun c_41 => ?_)
      · exact endV (u := [zzO qa 2 [.ref qab, .int (nI kZ), .int (nI kX_36), .int (nI kY_37), .int iX_38, .int iY_39, .ref qd], zzB cy qab 250 fB, zzO qd 3 [.int (nI (T_nb tD)), .int (nI (T_np tD)), .int (wb (T_wh tD)), .int (wb (T_gn tD)), .int (T_sd tD), .ref qdw, .ref qdn, .ref qdg, .ref qda, .ref qdr, .ref qdm, .ref qdt, .ref qds], zzI cy qdw 8 (T_wo tD), zzI cy qdn 8 (T_ne tD), zzI cy qdg 8 (T_go tD), zzI cy qda 8 (T_ag tD), zzI cy qdr 8 (T_re tD), zzI cy qdm 8 (T_me tD), zzI cy qdt 8 (T_te tD), zzI cy qds 64 (shF (T_kn tD))]) hx hb hr hlocks (pSb hP [[false, false, false, false, false, false, false, false, false, true, true], [true, true, true, true, true, true, true, true, true]] rfl rfl) (dSb hD [[false, false, false, false, false, false, false, false, false, true, true], [true, true, true, true, true, true, true, true, true]] (by decide +kernel) rfl rfl) hS ⟨kX_36, kY_37, iX_38, iY_39, tD, rfl, ⟨by omega, by omega, by first | omega | (show T_nb tD + 1 ≤ 8; omega) | (show T_nb tD ≤ 8; omega), by first | omega | (show T_np tD + 1 ≤ 8; omega) | (show T_np tD ≤ 8; omega)⟩⟩ (g_177 bX3_readBook rfl)
      · refine lv_aload_n hx hb (g_42 bX3_readBook rfl) rfl (lv_at hl 2 rfl) ?_
        refine va_get (D := G) (ci := 2) (v := .ref qd) (C := RX3) (T := TX3) (N := 7) hx hb hts iX_X3 hown hK hP 9 rfl rfl 6 (by decide +kernel) (hts _ m_t156) (fun _ h9 => h9) rfl (g_180 (v := 18) bX3_readBook rfl) ?_
        refine va_getN (D := G) (ci := 3) (v := .ref qdg) (C := RX4) (T := TX4) (N := 13) hx hb hts iX_X4 hown hK hP 0 rfl rfl 7 (by decide +kernel) (va_Nw.use rfl (hN.2.1 (RX3, 89, "EachBookOnce$Town", "good", "[I") (List.mem_of_getElem? (i := 17) rfl))) (fun _ h9 => h9) rfl (g_180 (v := 89) bX3_readBook rfl) ?_
        refine lv_aload_n hx hb (g_42 bX3_readBook rfl) rfl (lv_at hl 2 rfl) ?_
        refine va_get (D := G) (ci := 2) (v := .ref qd) (C := RX3) (T := TX3) (N := 7) hx hb hts iX_X3 hown hK hP 9 rfl rfl 6 (by decide +kernel) (hts _ m_t156) (fun _ h9 => h9) rfl (g_180 (v := 18) bX3_readBook rfl) ?_
        refine lv_iload_n hx hb (g_27 bX3_readBook rfl) rfl (lv_at hl 1 rfl) ?_
        refine lv_iconst (v := 0) hx hb (g_3 bX3_readBook rfl) (by decide +kernel) ?_
        refine cVi (As := [.int r_9, .int 0]) (rest := [.ref qdg]) (b := qd) (q := (RX4, TX4, 13)) ⟨hx, hb, hml, hown, hts⟩ (c_X4_addBook l G cy (H).size qd tD qdw qdn qdg qda qdr qdm qdt qds r_9 0 (by first | omega | (simp only [nb_sr, np_sr, nb_wr, np_wr, nb_rd, np_rd, nb_ch, np_ch, nb_zr, np_zr, nb_za, np_za, nb_ey, np_ey, nb_hf, np_hf, nb_dd, np_dd, nb_so, np_so, nb_skn, np_skn, nb_swh, np_swh, nb_sgn, np_sgn, nb_ssd, np_ssd, nb_sgo, np_sgo, nb_sag, np_sag]; omega))) L_X3_92 hN hP hD hS hA (trueIx 0 [true, true, true, true, true, true, true, true, true]) [false, false, false, false, false, false, false, false, false, true, true] (sel_eq rfl rfl) (by decide +kernel) rfl 0 3 rfl rfl rfl ⟨Nat.le_of_ble_eq_true rfl, Nat.le_of_ble_eq_true rfl⟩ hl.1 (Nat.le_of_ble_eq_true rfl) (g_182 (v := 92) bX3_readBook rfl) ⟨Nat.le_of_ble_eq_true rfl, Nat.le_of_ble_eq_true rfl⟩ (fun r_42 u_44 H locs h_43 => ?_)
        clear hP hD hS
        intro hP hD hS
        obtain ⟨hu9, h_43⟩ := h_43
        have hPD := pd_eq [_, _, _, _, _, _, _, _, _, _, _] hP hD hu9 rfl
        clear hP hD hu9
        obtain ⟨hP, hD⟩ := hPD
        subst h_43
        refine lv_iload_n hx hb (g_28 bX3_readBook rfl) rfl (lv_at hl 0 rfl) ?_
        refine va_iast hx hb hK hP hD hS 5 0 rfl rfl (in8 (by omega)) (g_79 bX3_readBook rfl) (fun H locs => ?_)
        clear hP hD hS
        intro hP hD hS
        rw [cl8 (k := (T_nb tD)) (by omega)] at hP hD
        have hPD := pd_as [_, _, _, _, _, zzI cy qdg 8 (upd (T_go (zab tD r_9 0)) (T_nb tD) r_33), _, _, _, _, _] hP hD rfl
        clear hP hD
        obtain ⟨hP, hD⟩ := hPD
        have hPD := pd_as [_, _, zzO qd 3 [.int (nI (T_nb (T_setgo (zab tD r_9 0) (upd (T_go (zab tD r_9 0)) (T_nb tD) r_33)))), .int (nI (T_np (T_setgo (zab tD r_9 0) (upd (T_go (zab tD r_9 0)) (T_nb tD) r_33)))), .int (wb (T_wh (T_setgo (zab tD r_9 0) (upd (T_go (zab tD r_9 0)) (T_nb tD) r_33)))), .int (wb (T_gn (T_setgo (zab tD r_9 0) (upd (T_go (zab tD r_9 0)) (T_nb tD) r_33)))), .int (T_sd (T_setgo (zab tD r_9 0) (upd (T_go (zab tD r_9 0)) (T_nb tD) r_33))), .ref qdw, .ref qdn, .ref qdg, .ref qda, .ref qdr, .ref qdm, .ref qdt, .ref qds], zzI cy qdw 8 (T_wo (T_setgo (zab tD r_9 0) (upd (T_go (zab tD r_9 0)) (T_nb tD) r_33))), zzI cy qdn 8 (T_ne (T_setgo (zab tD r_9 0) (upd (T_go (zab tD r_9 0)) (T_nb tD) r_33))), zzI cy qdg 8 (T_go (T_setgo (zab tD r_9 0) (upd (T_go (zab tD r_9 0)) (T_nb tD) r_33))), zzI cy qda 8 (T_ag (T_setgo (zab tD r_9 0) (upd (T_go (zab tD r_9 0)) (T_nb tD) r_33))), zzI cy qdr 8 (T_re (T_setgo (zab tD r_9 0) (upd (T_go (zab tD r_9 0)) (T_nb tD) r_33))), zzI cy qdm 8 (T_me (T_setgo (zab tD r_9 0) (upd (T_go (zab tD r_9 0)) (T_nb tD) r_33))), zzI cy qdt 8 (T_te (T_setgo (zab tD r_9 0) (upd (T_go (zab tD r_9 0)) (T_nb tD) r_33))), zzI cy qds 64 (shF (T_kn (T_setgo (zab tD r_9 0) (upd (T_go (zab tD r_9 0)) (T_nb tD) r_33))))] hP hD rfl
        clear hP hD
        obtain ⟨hP, hD⟩ := hPD
        exact endV (u := [zzO qa 2 [.ref qab, .int (nI kZ), .int (nI kX_36), .int (nI kY_37), .int iX_38, .int iY_39, .ref qd], zzB cy qab 250 fB, zzO qd 3 [.int (nI (T_nb (T_setgo (zab tD r_9 0) (upd (T_go (zab tD r_9 0)) (T_nb tD) r_33)))), .int (nI (T_np (T_setgo (zab tD r_9 0) (upd (T_go (zab tD r_9 0)) (T_nb tD) r_33)))), .int (wb (T_wh (T_setgo (zab tD r_9 0) (upd (T_go (zab tD r_9 0)) (T_nb tD) r_33)))), .int (wb (T_gn (T_setgo (zab tD r_9 0) (upd (T_go (zab tD r_9 0)) (T_nb tD) r_33)))), .int (T_sd (T_setgo (zab tD r_9 0) (upd (T_go (zab tD r_9 0)) (T_nb tD) r_33))), .ref qdw, .ref qdn, .ref qdg, .ref qda, .ref qdr, .ref qdm, .ref qdt, .ref qds], zzI cy qdw 8 (T_wo (T_setgo (zab tD r_9 0) (upd (T_go (zab tD r_9 0)) (T_nb tD) r_33))), zzI cy qdn 8 (T_ne (T_setgo (zab tD r_9 0) (upd (T_go (zab tD r_9 0)) (T_nb tD) r_33))), zzI cy qdg 8 (T_go (T_setgo (zab tD r_9 0) (upd (T_go (zab tD r_9 0)) (T_nb tD) r_33))), zzI cy qda 8 (T_ag (T_setgo (zab tD r_9 0) (upd (T_go (zab tD r_9 0)) (T_nb tD) r_33))), zzI cy qdr 8 (T_re (T_setgo (zab tD r_9 0) (upd (T_go (zab tD r_9 0)) (T_nb tD) r_33))), zzI cy qdm 8 (T_me (T_setgo (zab tD r_9 0) (upd (T_go (zab tD r_9 0)) (T_nb tD) r_33))), zzI cy qdt 8 (T_te (T_setgo (zab tD r_9 0) (upd (T_go (zab tD r_9 0)) (T_nb tD) r_33))), zzI cy qds 64 (shF (T_kn (T_setgo (zab tD r_9 0) (upd (T_go (zab tD r_9 0)) (T_nb tD) r_33))))]) hx hb hr hlocks (pSb hP [[true, true, true, true, true, true, true, true, true, true, true]] rfl rfl) (dSb hD [[true, true, true, true, true, true, true, true, true, true, true]] (by decide +kernel) rfl rfl) hS ⟨kX_36, kY_37, iX_38, iY_39, (T_setgo (zab tD r_9 0) (upd (T_go (zab tD r_9 0)) (T_nb tD) r_33)), rfl, ⟨by omega, by omega, by first | omega | (show T_nb tD + 1 ≤ 8; omega) | (show T_nb tD ≤ 8; omega), by first | omega | (show T_np tD + 1 ≤ 8; omega) | (show T_np tD ≤ 8; omega)⟩⟩ (g_177 bX3_readBook rfl)
  · refine lv_aload_n hx hb (g_42 bX3_readBook rfl) rfl (lv_at hl 0 rfl) ?_
    refine cVv (As := []) (rest := []) (b := qa) (q := (RX3, TX3, 7)) ⟨hx, hb, hml, hown, hts⟩ (c_X3_fail l G cy (s.heap).size qa qab kZ kS kE iT iF qd hZ hE) L_X3_45 hN hP hD hS hA [0] [false, true, true, true, true, true, true, true, true, true, true] rfl (by decide +kernel) rfl 0 2 rfl rfl rfl ⟨Nat.le_of_ble_eq_true rfl, Nat.le_of_ble_eq_true rfl⟩ hl.1 (Nat.le_of_ble_eq_true rfl) (g_182 (v := 45) bX3_readBook rfl) ⟨Nat.le_of_ble_eq_true rfl, Nat.le_of_ble_eq_true rfl⟩ (fun u_47 H locs h_46 => ?_)
    clear hP hD hS
    intro hP hD hS
    obtain ⟨iX_48, hu9, h_49⟩ := h_46
    have hPD := pd_eq [_, _, _, _, _, _, _, _, _, _, zzO qa 2 [.ref qab, .int (nI kZ), .int (nI kS), .int (nI kE), .int iT, .int iX_48, .ref qd]] hP hD hu9 rfl
    clear hP hD hu9
    obtain ⟨hP, hD⟩ := hPD
    exact endV (u := [zzO qa 2 [.ref qab, .int (nI kZ), .int (nI kS), .int (nI kE), .int iT, .int iX_48, .ref qd], zzB cy qab 250 fB, zzO qd 3 [.int (nI (T_nb tD)), .int (nI (T_np tD)), .int (wb (T_wh tD)), .int (wb (T_gn tD)), .int (T_sd tD), .ref qdw, .ref qdn, .ref qdg, .ref qda, .ref qdr, .ref qdm, .ref qdt, .ref qds], zzI cy qdw 8 (T_wo tD), zzI cy qdn 8 (T_ne tD), zzI cy qdg 8 (T_go tD), zzI cy qda 8 (T_ag tD), zzI cy qdr 8 (T_re tD), zzI cy qdm 8 (T_me tD), zzI cy qdt 8 (T_te tD), zzI cy qds 64 (shF (T_kn tD))]) hx hb hr hlocks (pSb hP [[false, false, false, false, false, false, false, false, false, false, true], [true, true, true, true, true, true, true, true, true, true]] rfl rfl) (dSb hD [[false, false, false, false, false, false, false, false, false, false, true], [true, true, true, true, true, true, true, true, true, true]] (by decide +kernel) rfl rfl) hS ⟨kS, kE, iT, iX_48, tD, rfl, ⟨by omega, by omega, by first | omega | (show T_nb tD + 1 ≤ 8; omega) | (show T_nb tD ≤ 8; omega), by first | omega | (show T_np tD + 1 ≤ 8; omega) | (show T_np tD ≤ 8; omega)⟩⟩ (g_177 bX3_readBook rfl)
set_option maxHeartbeats 4000000 in
set_option maxRecDepth 100000 in
theorem c_X3_readNeed (l : Launch) (G : va_G) (cy : Nat → ClassId) (sz : Nat) (qa : Nat) (qab : Nat) (kZ : Nat) (kS : Nat) (kE : Nat) (iT : Int32) (iF : Int32) (qd : Nat) (fB : Nat → Int32) (tD : TA) (qdw : Nat) (qdn : Nat) (qdg : Nat) (qda : Nat) (qdr : Nat) (qdm : Nat) (qdt : Nat) (qds : Nat)  (hZ : kZ ≤ 250) (hE : kS ≤ kE ∧ kE ≤ kZ) (hDb : T_nb tD ≤ 8) (hDp : T_np tD ≤ 8) : MW l yX3_readNeed cX3_readNeed 3 none 8 0 0 G cy [zzO qa 2 [.ref qab, .int (nI kZ), .int (nI kS), .int (nI kE), .int iT, .int iF, .ref qd], zzB cy qab 250 fB, zzO qd 3 [.int (nI (T_nb tD)), .int (nI (T_np tD)), .int (wb (T_wh tD)), .int (wb (T_gn tD)), .int (T_sd tD), .ref qdw, .ref qdn, .ref qdg, .ref qda, .ref qdr, .ref qdm, .ref qdt, .ref qds], zzI cy qdw 8 (T_wo tD), zzI cy qdn 8 (T_ne tD), zzI cy qdg 8 (T_go tD), zzI cy qda 8 (T_ag tD), zzI cy qdr 8 (T_re tD), zzI cy qdm 8 (T_me tD), zzI cy qdt 8 (T_te tD), zzI cy qds 64 (shF (T_kn tD))] sz [.ref qa] (Wv G (fun u => ∃ (kX : Nat) (kY : Nat) (iX : Int32) (iY : Int32) (tX : TA), u = [zzO qa 2 [.ref qab, .int (nI kZ), .int (nI kX), .int (nI kY), .int iX, .int iY, .ref qd], zzB cy qab 250 fB, zzO qd 3 [.int (nI (T_nb tX)), .int (nI (T_np tX)), .int (wb (T_wh tX)), .int (wb (T_gn tX)), .int (T_sd tX), .ref qdw, .ref qdn, .ref qdg, .ref qda, .ref qdr, .ref qdm, .ref qdt, .ref qds], zzI cy qdw 8 (T_wo tX), zzI cy qdn 8 (T_ne tX), zzI cy qdg 8 (T_go tX), zzI cy qda 8 (T_ag tX), zzI cy qdr 8 (T_re tX), zzI cy qdm 8 (T_me tX), zzI cy qdt 8 (T_te tX), zzI cy qds 64 (shF (T_kn tX))] ∧ (kX ≤ kY ∧ kY ≤ kZ ∧ T_nb tX ≤ 8 ∧ T_np tX ≤ 8))) := by
  refine enW RX3 (by decide +kernel) rfl (Nat.le_of_ble_eq_true rfl) (fun p e s m below meth c ls A hx hb hml hown hts hr hlocks hP hN hl hin hD hA hS => ?_)
  have hin : meth.name = _ := hin
  have hK := hN.1
  replace hl : lv_has ls 3 [(0, .ref qa)] := hl
  refine lv_aload_n hx hb (g_42 bX3_readNeed rfl) rfl (lv_at hl 0 rfl) ?_
  refine cVv (As := []) (rest := []) (b := qa) (q := (RX3, TX3, 7)) ⟨hx, hb, hml, hown, hts⟩ (c_X3_step l G cy (s.heap).size qa qab kZ (nI kS) kE iT iF qd fB hZ (by first | omega | (simp only [nb_sr, np_sr, nb_wr, np_wr, nb_rd, np_rd, nb_ch, np_ch, nb_zr, np_zr, nb_za, np_za, nb_ey, np_ey, nb_hf, np_hf, nb_dd, np_dd, nb_so, np_so, nb_skn, np_skn, nb_swh, np_swh, nb_sgn, np_sgn, nb_ssd, np_ssd, nb_sgo, np_sgo, nb_sag, np_sag]; omega))) L_X3_36 hN hP hD hS hA [0, 1] [false, false, true, true, true, true, true, true, true, true, true] rfl (by decide +kernel) rfl 0 2 rfl rfl rfl ⟨Nat.le_of_ble_eq_true rfl, Nat.le_of_ble_eq_true rfl⟩ hl.1 (Nat.le_of_ble_eq_true rfl) (g_182 (v := 36) bX3_readNeed rfl) ⟨Nat.le_of_ble_eq_true rfl, Nat.le_of_ble_eq_true rfl⟩ (fun u_3 H locs h_2 => ?_)
  clear hP hD hS
  intro hP hD hS
  obtain ⟨kX_4, kY_5, iX_6, hu9, h_7⟩ := h_2
  have hPD := pd_eq [_, _, _, _, _, _, _, _, _, zzO qa 2 [.ref qab, .int (nI kZ), .int (nI kX_4), .int (nI kY_5), .int iX_6, .int iF, .ref qd], _] hP hD hu9 rfl
  clear hP hD hu9
  obtain ⟨hP, hD⟩ := hPD
  refine lv_aload_n hx hb (g_42 bX3_readNeed rfl) rfl (lv_at hl 0 rfl) ?_
  refine lv_iconst (v := 0) hx hb (g_3 bX3_readNeed rfl) (by decide +kernel) ?_
  refine lv_aload_n hx hb (g_42 bX3_readNeed rfl) rfl (lv_at hl 0 rfl) ?_
  refine va_get (D := G) (ci := 2) (v := .ref qd) (C := RX3) (T := TX3) (N := 7) hx hb hts iX_X3 hown hK hP 9 rfl rfl 6 (by decide +kernel) (hts _ m_t156) (fun _ h9 => h9) rfl (g_180 (v := 18) bX3_readNeed rfl) ?_
  refine va_getN (D := G) (ci := 3) (v := .int (nI (T_nb tD))) (C := RX4) (T := TX4) (N := 13) hx hb hts iX_X4 hown hK hP 0 rfl rfl 0 (by decide +kernel) (va_Nw.use rfl (hN.2.1 (RX3, 77, "EachBookOnce$Town", "books", "I") (List.mem_of_getElem? (i := 0) rfl))) (fun _ h9 => h9) rfl (g_180 (v := 77) bX3_readNeed rfl) ?_
  refine lv_iconst (v := 1) hx hb (g_4 bX3_readNeed rfl) (by decide +kernel) ?_
  refine lv_isub hx hb (g_100 bX3_readNeed rfl) ?_
  refine cVi (As := [.int 0, .int ((nI (T_nb tD)) - 1)]) (rest := []) (b := qa) (q := (RX3, TX3, 7)) ⟨hx, hb, hml, hown, hts⟩ (c_X3_takeNumber l G cy (H).size qa qab kZ kX_4 kY_5 iX_6 iF qd fB 0 ((nI (T_nb tD)) - 1) hZ (by first | omega | (simp only [nb_sr, np_sr, nb_wr, np_wr, nb_rd, np_rd, nb_ch, np_ch, nb_zr, np_zr, nb_za, np_za, nb_ey, np_ey, nb_hf, np_hf, nb_dd, np_dd, nb_so, np_so, nb_skn, np_skn, nb_swh, np_swh, nb_sgn, np_sgn, nb_ssd, np_ssd, nb_sgo, np_sgo, nb_sag, np_sag]; omega))) L_X3_80 hN hP hD hS hA [9, 10] [true, true, true, true, true, true, true, true, true, false, false] rfl (by decide +kernel) rfl 9 2 rfl rfl rfl ⟨Nat.le_of_ble_eq_true rfl, Nat.le_of_ble_eq_true rfl⟩ hl.1 (Nat.le_of_ble_eq_true rfl) (g_182 (v := 80) bX3_readNeed rfl) ⟨Nat.le_of_ble_eq_true rfl, Nat.le_of_ble_eq_true rfl⟩ (fun r_8 u_10 H locs h_9 => ?_)
  clear hP hD hS
  intro hP hD hS
  obtain ⟨kX_11, kY_12, iX_13, iY_14, hu9, h_15, h_9⟩ := h_9
  have hPD := pd_eq [_, _, _, _, _, _, _, _, _, zzO qa 2 [.ref qab, .int (nI kZ), .int (nI kX_11), .int (nI kY_12), .int iX_13, .int iY_14, .ref qd], _] hP hD hu9 rfl
  clear hP hD hu9
  obtain ⟨hP, hD⟩ := hPD
  refine lv_istore_n (lv' := [(1, .int r_8), (0, .ref qa)]) hx hb (g_60 bX3_readNeed rfl) rfl hl (by decide +kernel) rfl (fun ls => ?_)
  clear hl
  intro hl
  refine lv_aload_n hx hb (g_42 bX3_readNeed rfl) rfl (lv_at hl 1 rfl) ?_
  refine lv_iconst (v := 0) hx hb (g_3 bX3_readNeed rfl) (by decide +kernel) ?_
  refine lv_iload_n hx hb (g_27 bX3_readNeed rfl) rfl (lv_at hl 0 rfl) ?_
  refine lv_iconst (v := 1) hx hb (g_4 bX3_readNeed rfl) (by decide +kernel) ?_
  refine lv_isub hx hb (g_100 bX3_readNeed rfl) ?_
  refine cVi (As := [.int 0, .int (r_8 - 1)]) (rest := []) (b := qa) (q := (RX3, TX3, 7)) ⟨hx, hb, hml, hown, hts⟩ (c_X3_takeNumber l G cy (H).size qa qab kZ kX_11 kY_12 iX_13 iY_14 qd fB 0 (r_8 - 1) hZ (by first | omega | (simp only [nb_sr, np_sr, nb_wr, np_wr, nb_rd, np_rd, nb_ch, np_ch, nb_zr, np_zr, nb_za, np_za, nb_ey, np_ey, nb_hf, np_hf, nb_dd, np_dd, nb_so, np_so, nb_skn, np_skn, nb_swh, np_swh, nb_sgn, np_sgn, nb_ssd, np_ssd, nb_sgo, np_sgo, nb_sag, np_sag]; omega))) L_X3_80 hN hP hD hS hA [9, 10] [true, true, true, true, true, true, true, true, true, false, false] rfl (by decide +kernel) rfl 9 2 rfl rfl rfl ⟨Nat.le_of_ble_eq_true rfl, Nat.le_of_ble_eq_true rfl⟩ hl.1 (Nat.le_of_ble_eq_true rfl) (g_182 (v := 80) bX3_readNeed rfl) ⟨Nat.le_of_ble_eq_true rfl, Nat.le_of_ble_eq_true rfl⟩ (fun r_16 u_18 H locs h_17 => ?_)
  clear hP hD hS
  intro hP hD hS
  obtain ⟨kX_19, kY_20, iX_21, iY_22, hu9, h_23, h_17⟩ := h_17
  have hPD := pd_eq [_, _, _, _, _, _, _, _, _, zzO qa 2 [.ref qab, .int (nI kZ), .int (nI kX_19), .int (nI kY_20), .int iX_21, .int iY_22, .ref qd], _] hP hD hu9 rfl
  clear hP hD hu9
  obtain ⟨hP, hD⟩ := hPD
  refine lv_istore_n (lv' := [(2, .int r_16), (1, .int r_8), (0, .ref qa)]) hx hb (g_61 bX3_readNeed rfl) rfl hl (by decide +kernel) rfl (fun ls => ?_)
  clear hl
  intro hl
  refine lv_aload_n hx hb (g_42 bX3_readNeed rfl) rfl (lv_at hl 2 rfl) ?_
  refine va_get (D := G) (ci := 2) (v := .int iY_22) (C := RX3) (T := TX3) (N := 7) hx hb hts iX_X3 hown hK hP 9 rfl rfl 5 (by decide +kernel) (hts _ m_t154) (fun _ h9 => h9) rfl (g_180 (v := 30) bX3_readNeed rfl) ?_
  refine lv_iconst (v := (-1)) hx hb (g_2 bX3_readNeed rfl) (by decide +kernel) ?_
  refine lv_icmp_ne (tgt := 51) hx hb dX3_readNeed_33 (by decide +kernel) (fun c_24 => ?_) (fun c_24 => ?_)
  · exact endV (u := [zzO qa 2 [.ref qab, .int (nI kZ), .int (nI kX_19), .int (nI kY_20), .int iX_21, .int iY_22, .ref qd], zzB cy qab 250 fB, zzO qd 3 [.int (nI (T_nb tD)), .int (nI (T_np tD)), .int (wb (T_wh tD)), .int (wb (T_gn tD)), .int (T_sd tD), .ref qdw, .ref qdn, .ref qdg, .ref qda, .ref qdr, .ref qdm, .ref qdt, .ref qds], zzI cy qdw 8 (T_wo tD), zzI cy qdn 8 (T_ne tD), zzI cy qdg 8 (T_go tD), zzI cy qda 8 (T_ag tD), zzI cy qdr 8 (T_re tD), zzI cy qdm 8 (T_me tD), zzI cy qdt 8 (T_te tD), zzI cy qds 64 (shF (T_kn tD))]) hx hb hr hlocks (pSb hP [[false, false, false, false, false, false, false, false, false, true, true], [true, true, true, true, true, true, true, true, true]] rfl rfl) (dSb hD [[false, false, false, false, false, false, false, false, false, true, true], [true, true, true, true, true, true, true, true, true]] (by decide +kernel) rfl rfl) hS ⟨kX_19, kY_20, iX_21, iY_22, tD, rfl, ⟨by omega, by omega, by first | omega | (show T_nb tD + 1 ≤ 8; omega) | (show T_nb tD ≤ 8; omega), by first | omega | (show T_np tD + 1 ≤ 8; omega) | (show T_np tD ≤ 8; omega)⟩⟩ (g_177 bX3_readNeed rfl)
  · have hq_25 := h_23.2.2 c_24
    have hq_26 := h_15.2.2 hq_25.1
    obtain ⟨k_27, hk_28, ek_29⟩ := tk_in (n := T_nb tD) (by omega) hq_26.2.1 hq_26.2.2
    rw [ek_29] at hq_25
    obtain ⟨k_30, hk_31, ek_32⟩ := tk_in (n := k_27) (by omega) hq_25.2.1 hq_25.2.2
    rw [ek_32, ek_29] at hl
    refine lv_aload_n hx hb (g_42 bX3_readNeed rfl) rfl (lv_at hl 2 rfl) ?_
    refine va_get (D := G) (ci := 2) (v := .ref qd) (C := RX3) (T := TX3) (N := 7) hx hb hts iX_X3 hown hK hP 9 rfl rfl 6 (by decide +kernel) (hts _ m_t156) (fun _ h9 => h9) rfl (g_180 (v := 18) bX3_readNeed rfl) ?_
    refine va_getN (D := G) (ci := 3) (v := .ref qdn) (C := RX4) (T := TX4) (N := 13) hx hb hts iX_X4 hown hK hP 0 rfl rfl 6 (by decide +kernel) (va_Nw.use rfl (hN.2.1 (RX3, 95, "EachBookOnce$Town", "needed", "[I") (List.mem_of_getElem? (i := 15) rfl))) (fun _ h9 => h9) rfl (g_180 (v := 95) bX3_readNeed rfl) ?_
    refine lv_iload_n hx hb (g_27 bX3_readNeed rfl) rfl (lv_at hl 1 rfl) ?_
    refine lv_dup2_11 hx hb (g_92 bX3_readNeed rfl) rfl rfl ?_
    refine va_iald hx hb hK hP 2 0 rfl rfl (in8 (by omega)) (g_46 bX3_readNeed rfl) ?_
    refine lv_seti (v := (T_ne tD) k_27) (congrArg (T_ne tD) (cl8 (by omega))) ?_
    refine lv_iconst (v := 1) hx hb (g_4 bX3_readNeed rfl) (by decide +kernel) ?_
    refine lv_iload_n hx hb (g_28 bX3_readNeed rfl) rfl (lv_at hl 0 rfl) ?_
    refine lv_ishl hx hb (g_120 bX3_readNeed rfl) ?_
    refine lv_ior hx hb (g_128 bX3_readNeed rfl) ?_
    refine va_iast hx hb hK hP hD hS 2 0 rfl rfl (in8 (by omega)) (g_79 bX3_readNeed rfl) (fun H locs => ?_)
    clear hP hD hS
    intro hP hD hS
    rw [cl8 (k := k_27) (by omega)] at hP hD
    have hPD := pd_as [_, _, zzI cy qdn 8 (upd (T_ne tD) k_27 (((T_ne tD) k_27) ||| (1 <<< ((nI k_30) &&& 31)))), _, _, _, _, _, _, _, _] hP hD rfl
    clear hP hD
    obtain ⟨hP, hD⟩ := hPD
    have hPD := pd_as [zzO qd 3 [.int (nI (T_nb (T_setne tD (upd (T_ne tD) k_27 (((T_ne tD) k_27) ||| (1 <<< ((nI k_30) &&& 31))))))), .int (nI (T_np (T_setne tD (upd (T_ne tD) k_27 (((T_ne tD) k_27) ||| (1 <<< ((nI k_30) &&& 31))))))), .int (wb (T_wh (T_setne tD (upd (T_ne tD) k_27 (((T_ne tD) k_27) ||| (1 <<< ((nI k_30) &&& 31))))))), .int (wb (T_gn (T_setne tD (upd (T_ne tD) k_27 (((T_ne tD) k_27) ||| (1 <<< ((nI k_30) &&& 31))))))), .int (T_sd (T_setne tD (upd (T_ne tD) k_27 (((T_ne tD) k_27) ||| (1 <<< ((nI k_30) &&& 31)))))), .ref qdw, .ref qdn, .ref qdg, .ref qda, .ref qdr, .ref qdm, .ref qdt, .ref qds], zzI cy qdw 8 (T_wo (T_setne tD (upd (T_ne tD) k_27 (((T_ne tD) k_27) ||| (1 <<< ((nI k_30) &&& 31)))))), zzI cy qdn 8 (T_ne (T_setne tD (upd (T_ne tD) k_27 (((T_ne tD) k_27) ||| (1 <<< ((nI k_30) &&& 31)))))), zzI cy qdg 8 (T_go (T_setne tD (upd (T_ne tD) k_27 (((T_ne tD) k_27) ||| (1 <<< ((nI k_30) &&& 31)))))), zzI cy qda 8 (T_ag (T_setne tD (upd (T_ne tD) k_27 (((T_ne tD) k_27) ||| (1 <<< ((nI k_30) &&& 31)))))), zzI cy qdr 8 (T_re (T_setne tD (upd (T_ne tD) k_27 (((T_ne tD) k_27) ||| (1 <<< ((nI k_30) &&& 31)))))), zzI cy qdm 8 (T_me (T_setne tD (upd (T_ne tD) k_27 (((T_ne tD) k_27) ||| (1 <<< ((nI k_30) &&& 31)))))), zzI cy qdt 8 (T_te (T_setne tD (upd (T_ne tD) k_27 (((T_ne tD) k_27) ||| (1 <<< ((nI k_30) &&& 31)))))), zzI cy qds 64 (shF (T_kn (T_setne tD (upd (T_ne tD) k_27 (((T_ne tD) k_27) ||| (1 <<< ((nI k_30) &&& 31))))))), _, _] hP hD rfl
    clear hP hD
    obtain ⟨hP, hD⟩ := hPD
    exact endV (u := [zzO qa 2 [.ref qab, .int (nI kZ), .int (nI kX_19), .int (nI kY_20), .int iX_21, .int iY_22, .ref qd], zzB cy qab 250 fB, zzO qd 3 [.int (nI (T_nb (T_setne tD (upd (T_ne tD) k_27 (((T_ne tD) k_27) ||| (1 <<< ((nI k_30) &&& 31))))))), .int (nI (T_np (T_setne tD (upd (T_ne tD) k_27 (((T_ne tD) k_27) ||| (1 <<< ((nI k_30) &&& 31))))))), .int (wb (T_wh (T_setne tD (upd (T_ne tD) k_27 (((T_ne tD) k_27) ||| (1 <<< ((nI k_30) &&& 31))))))), .int (wb (T_gn (T_setne tD (upd (T_ne tD) k_27 (((T_ne tD) k_27) ||| (1 <<< ((nI k_30) &&& 31))))))), .int (T_sd (T_setne tD (upd (T_ne tD) k_27 (((T_ne tD) k_27) ||| (1 <<< ((nI k_30) &&& 31)))))), .ref qdw, .ref qdn, .ref qdg, .ref qda, .ref qdr, .ref qdm, .ref qdt, .ref qds], zzI cy qdw 8 (T_wo (T_setne tD (upd (T_ne tD) k_27 (((T_ne tD) k_27) ||| (1 <<< ((nI k_30) &&& 31)))))), zzI cy qdn 8 (T_ne (T_setne tD (upd (T_ne tD) k_27 (((T_ne tD) k_27) ||| (1 <<< ((nI k_30) &&& 31)))))), zzI cy qdg 8 (T_go (T_setne tD (upd (T_ne tD) k_27 (((T_ne tD) k_27) ||| (1 <<< ((nI k_30) &&& 31)))))), zzI cy qda 8 (T_ag (T_setne tD (upd (T_ne tD) k_27 (((T_ne tD) k_27) ||| (1 <<< ((nI k_30) &&& 31)))))), zzI cy qdr 8 (T_re (T_setne tD (upd (T_ne tD) k_27 (((T_ne tD) k_27) ||| (1 <<< ((nI k_30) &&& 31)))))), zzI cy qdm 8 (T_me (T_setne tD (upd (T_ne tD) k_27 (((T_ne tD) k_27) ||| (1 <<< ((nI k_30) &&& 31)))))), zzI cy qdt 8 (T_te (T_setne tD (upd (T_ne tD) k_27 (((T_ne tD) k_27) ||| (1 <<< ((nI k_30) &&& 31)))))), zzI cy qds 64 (shF (T_kn (T_setne tD (upd (T_ne tD) k_27 (((T_ne tD) k_27) ||| (1 <<< ((nI k_30) &&& 31)))))))]) hx hb hr hlocks (pSb hP [[false, false, false, false, false, false, false, false, false, true, true], [true, true, true, true, true, true, true, true, true]] rfl rfl) (dSb hD [[false, false, false, false, false, false, false, false, false, true, true], [true, true, true, true, true, true, true, true, true]] (by decide +kernel) rfl rfl) hS ⟨kX_19, kY_20, iX_21, iY_22, (T_setne tD (upd (T_ne tD) k_27 (((T_ne tD) k_27) ||| (1 <<< ((nI k_30) &&& 31))))), rfl, ⟨by omega, by omega, by first | omega | (show T_nb tD + 1 ≤ 8; omega) | (show T_nb tD ≤ 8; omega), by first | omega | (show T_np tD + 1 ≤ 8; omega) | (show T_np tD ≤ 8; omega)⟩⟩ (g_177 bX3_readNeed rfl)
set_option maxHeartbeats 4000000 in
set_option maxRecDepth 100000 in
theorem c_X3_readOne (l : Launch) (G : va_G) (cy : Nat → ClassId) (sz : Nat) (qa : Nat) (qab : Nat) (kZ : Nat) (kS : Nat) (kE : Nat) (iT : Int32) (iF : Int32) (qd : Nat) (fB : Nat → Int32) (tD : TA) (qdw : Nat) (qdn : Nat) (qdg : Nat) (qda : Nat) (qdr : Nat) (qdm : Nat) (qdt : Nat) (qds : Nat)  (hZ : kZ ≤ 250) (hE : kS ≤ kE ∧ kE ≤ kZ) (hDb : T_nb tD ≤ 8) (hDp : T_np tD ≤ 8) : MWX l yX3_readOne cX3_readOne 5 none 8 0 0 G cy SO [zzO qa 2 [.ref qab, .int (nI kZ), .int (nI kS), .int (nI kE), .int iT, .int iF, .ref qd], zzB cy qab 250 fB, zzO qd 3 [.int (nI (T_nb tD)), .int (nI (T_np tD)), .int (wb (T_wh tD)), .int (wb (T_gn tD)), .int (T_sd tD), .ref qdw, .ref qdn, .ref qdg, .ref qda, .ref qdr, .ref qdm, .ref qdt, .ref qds], zzI cy qdw 8 (T_wo tD), zzI cy qdn 8 (T_ne tD), zzI cy qdg 8 (T_go tD), zzI cy qda 8 (T_ag tD), zzI cy qdr 8 (T_re tD), zzI cy qdm 8 (T_me tD), zzI cy qdt 8 (T_te tD), zzI cy qds 64 (shF (T_kn tD))] sz [.ref qa] (Wv G (fun u => ∃ (kX : Nat) (kY : Nat) (iX : Int32) (iY : Int32) (tX : TA), u = [zzO qa 2 [.ref qab, .int (nI kZ), .int (nI kX), .int (nI kY), .int iX, .int iY, .ref qd], zzB cy qab 250 fB, zzO qd 3 [.int (nI (T_nb tX)), .int (nI (T_np tX)), .int (wb (T_wh tX)), .int (wb (T_gn tX)), .int (T_sd tX), .ref qdw, .ref qdn, .ref qdg, .ref qda, .ref qdr, .ref qdm, .ref qdt, .ref qds], zzI cy qdw 8 (T_wo tX), zzI cy qdn 8 (T_ne tX), zzI cy qdg 8 (T_go tX), zzI cy qda 8 (T_ag tX), zzI cy qdr 8 (T_re tX), zzI cy qdm 8 (T_me tX), zzI cy qdt 8 (T_te tX), zzI cy qds 64 (shF (T_kn tX))] ∧ (kX ≤ kY ∧ kY ≤ kZ ∧ T_nb tX ≤ 8 ∧ T_np tX ≤ 8))) := by
  refine enWX RX3 (by decide +kernel) rfl (Nat.le_of_ble_eq_true rfl) (fun p e s m below meth c ls A hx hb hml hown hts hr hlocks hP hN hl hin hD hA hS hX => ?_)
  have hin : meth.name = _ := hin
  have hK := hN.1
  replace hl : lv_has ls 5 [(0, .ref qa)] := hl
  refine lv_aload_n hx hb (g_42 bX3_readOne rfl) rfl (lv_at hl 0 rfl) ?_
  refine va_get (D := G) (ci := 2) (v := .ref qd) (C := RX3) (T := TX3) (N := 7) hx hb hts iX_X3 hown hK hP 0 rfl rfl 6 (by decide +kernel) (hts _ m_t156) (fun _ h9 => h9) rfl (g_180 (v := 18) bX3_readOne rfl) ?_
  refine va_getN (D := G) (ci := 3) (v := .int (nI (T_np tD))) (C := RX4) (T := TX4) (N := 13) hx hb hts iX_X4 hown hK hP 2 rfl rfl 1 (by decide +kernel) (va_Nw.use rfl (hN.2.1 (RX3, 98, "EachBookOnce$Town", "people", "I") (List.mem_of_getElem? (i := 6) rfl))) (fun _ h9 => h9) rfl (g_180 (v := 98) bX3_readOne rfl) ?_
  refine lv_bipush (v := 8) hx hb dX3_readOne_7 (by decide +kernel) ?_
  refine lv_icmp_lt (tgt := 17) hx hb dX3_readOne_9 (by decide +kernel) (fun c_1 => ?_) (fun c_1 => ?_)
  · have hlt8 : T_np tD < 8 := lt_of8 (by omega) c_1
    refine lv_aload_n hx hb (g_42 bX3_readOne rfl) rfl (lv_at hl 0 rfl) ?_
    refine cVv (As := []) (rest := []) (b := qa) (q := (RX3, TX3, 7)) ⟨hx, hb, hml, hown, hts⟩ (c_X3_step l G cy (s.heap).size qa qab kZ (nI kS) kE iT iF qd fB hZ (by first | omega | (simp only [nb_sr, np_sr, nb_wr, np_wr, nb_rd, np_rd, nb_ch, np_ch, nb_zr, np_zr, nb_za, np_za, nb_ey, np_ey, nb_hf, np_hf, nb_dd, np_dd, nb_so, np_so, nb_skn, np_skn, nb_swh, np_swh, nb_sgn, np_sgn, nb_ssd, np_ssd, nb_sgo, np_sgo, nb_sag, np_sag]; omega))) L_X3_36 hN hP hD hS hA [0, 1] [false, false, true, true, true, true, true, true, true, true, true] rfl (by decide +kernel) rfl 0 2 rfl rfl rfl ⟨Nat.le_of_ble_eq_true rfl, Nat.le_of_ble_eq_true rfl⟩ hl.1 (Nat.le_of_ble_eq_true rfl) (g_182 (v := 36) bX3_readOne rfl) ⟨Nat.le_of_ble_eq_true rfl, Nat.le_of_ble_eq_true rfl⟩ (fun u_4 H locs h_3 => ?_)
    clear hP hD hS
    intro hP hD hS
    obtain ⟨kX_5, kY_6, iX_7, hu9, h_8⟩ := h_3
    have hPD := pd_eq [_, _, _, _, _, _, _, _, _, zzO qa 2 [.ref qab, .int (nI kZ), .int (nI kX_5), .int (nI kY_6), .int iX_7, .int iF, .ref qd], _] hP hD hu9 rfl
    clear hP hD hu9
    obtain ⟨hP, hD⟩ := hPD
    refine lv_aload_n hx hb (g_42 bX3_readOne rfl) rfl (lv_at hl 0 rfl) ?_
    refine lv_iconst (v := 0) hx hb (g_3 bX3_readOne rfl) (by decide +kernel) ?_
    refine lv_bipush (v := 9) hx hb dX3_readOne_23 (by decide +kernel) ?_
    refine cVi (As := [.int 0, .int 9]) (rest := []) (b := qa) (q := (RX3, TX3, 7)) ⟨hx, hb, hml, hown, hts⟩ (c_X3_takeNumber l G cy (H).size qa qab kZ kX_5 kY_6 iX_7 iF qd fB 0 9 hZ (by first | omega | (simp only [nb_sr, np_sr, nb_wr, np_wr, nb_rd, np_rd, nb_ch, np_ch, nb_zr, np_zr, nb_za, np_za, nb_ey, np_ey, nb_hf, np_hf, nb_dd, np_dd, nb_so, np_so, nb_skn, np_skn, nb_swh, np_swh, nb_sgn, np_sgn, nb_ssd, np_ssd, nb_sgo, np_sgo, nb_sag, np_sag]; omega))) L_X3_80 hN hP hD hS hA [9, 10] [true, true, true, true, true, true, true, true, true, false, false] rfl (by decide +kernel) rfl 9 2 rfl rfl rfl ⟨Nat.le_of_ble_eq_true rfl, Nat.le_of_ble_eq_true rfl⟩ hl.1 (Nat.le_of_ble_eq_true rfl) (g_182 (v := 80) bX3_readOne rfl) ⟨Nat.le_of_ble_eq_true rfl, Nat.le_of_ble_eq_true rfl⟩ (fun r_9 u_11 H locs h_10 => ?_)
    clear hP hD hS
    intro hP hD hS
    obtain ⟨kX_12, kY_13, iX_14, iY_15, hu9, h_16, h_10⟩ := h_10
    have hPD := pd_eq [_, _, _, _, _, _, _, _, _, zzO qa 2 [.ref qab, .int (nI kZ), .int (nI kX_12), .int (nI kY_13), .int iX_14, .int iY_15, .ref qd], _] hP hD hu9 rfl
    clear hP hD hu9
    obtain ⟨hP, hD⟩ := hPD
    refine lv_istore_n (lv' := [(1, .int r_9), (0, .ref qa)]) hx hb (g_60 bX3_readOne rfl) rfl hl (by decide +kernel) rfl (fun ls => ?_)
    clear hl
    intro hl
    refine lv_aload_n hx hb (g_42 bX3_readOne rfl) rfl (lv_at hl 1 rfl) ?_
    obtain ⟨qs_17, qv_19, hs_18, hf_20⟩ := hX (RX3, 101, "reads", [114, 101, 97, 100, 115]) (List.mem_of_getElem? (i := 4) rfl)
    refine va_ldcS hx hb hown hs_18 (g_18 (v := 101) bX3_readOne rfl) ?_
    refine cVXi (As := [.ref qs_17]) (rest := []) (b := qa) (q := (RX3, TX3, 7)) ⟨hx, hb, hml, hown, hts⟩ (c_X3_passes l G cy (H).size qa qab kZ kX_12 kY_13 iX_14 iY_15 qd fB qs_17 ([114, 101, 97, 100, 115]) qv_19 hZ (by first | omega | (simp only [nb_sr, np_sr, nb_wr, np_wr, nb_rd, np_rd, nb_ch, np_ch, nb_zr, np_zr, nb_za, np_za, nb_ey, np_ey, nb_hf, np_hf, nb_dd, np_dd, nb_so, np_so, nb_skn, np_skn, nb_swh, np_swh, nb_sgn, np_sgn, nb_ssd, np_ssd, nb_sgo, np_sgo, nb_sag, np_sag]; omega)) (by decide +kernel) as_reads) L_X3_86 hN hP hD hS hA [9, 10] [true, true, true, true, true, true, true, true, true, false, false] rfl (by decide +kernel) rfl 9 2 rfl rfl SF_ok hf_20 rfl ⟨Nat.le_of_ble_eq_true rfl, Nat.le_of_ble_eq_true rfl⟩ hl.1 (Nat.le_of_ble_eq_true rfl) (g_182 (v := 86) bX3_readOne rfl) ⟨Nat.le_of_ble_eq_true rfl, Nat.le_of_ble_eq_true rfl⟩ (fun r_21 u_23 H locs h_22 => ?_)
    clear hP hD hS
    intro hP hD hS
    obtain ⟨kX_24, kY_25, iX_26, hu9, h_27, h_22⟩ := h_22
    have hPD := pd_eq [_, _, _, _, _, _, _, _, _, zzO qa 2 [.ref qab, .int (nI kZ), .int (nI kX_24), .int (nI kY_25), .int iX_26, .int iY_15, .ref qd], _] hP hD hu9 rfl
    clear hP hD hu9
    obtain ⟨hP, hD⟩ := hPD
    refine lv_if_eq (tgt := 48) hx hb dX3_readOne_35 (by decide +kernel) (fun c_28 => ?_) (fun c_28 => ?_)
    · refine lv_iconst (v := 5) hx hb (g_8 bX3_readOne rfl) (by decide +kernel) ?_
      refine lv_istore_n (lv' := [(2, .int 5), (1, .int r_9), (0, .ref qa)]) hx hb (g_61 bX3_readOne rfl) rfl hl (by decide +kernel) rfl (fun ls => ?_)
      clear hl
      intro hl
      refine lv_aload_n hx hb (g_42 bX3_readOne rfl) rfl (lv_at hl 2 rfl) ?_
      obtain ⟨qs_29, qv_31, hs_30, hf_32⟩ := hX (RX3, 103, "keeps", [107, 101, 101, 112, 115]) (List.mem_of_getElem? (i := 5) rfl)
      refine va_ldcS hx hb hown hs_30 (g_18 (v := 103) bX3_readOne rfl) ?_
      refine cVXi (As := [.ref qs_29]) (rest := []) (b := qa) (q := (RX3, TX3, 7)) ⟨hx, hb, hml, hown, hts⟩ (c_X3_passes l G cy (H).size qa qab kZ kX_24 kY_25 iX_26 iY_15 qd fB qs_29 ([107, 101, 101, 112, 115]) qv_31 hZ (by first | omega | (simp only [nb_sr, np_sr, nb_wr, np_wr, nb_rd, np_rd, nb_ch, np_ch, nb_zr, np_zr, nb_za, np_za, nb_ey, np_ey, nb_hf, np_hf, nb_dd, np_dd, nb_so, np_so, nb_skn, np_skn, nb_swh, np_swh, nb_sgn, np_sgn, nb_ssd, np_ssd, nb_sgo, np_sgo, nb_sag, np_sag]; omega)) (by decide +kernel) as_keeps) L_X3_86 hN hP hD hS hA [9, 10] [true, true, true, true, true, true, true, true, true, false, false] rfl (by decide +kernel) rfl 9 2 rfl rfl SF_ok hf_32 rfl ⟨Nat.le_of_ble_eq_true rfl, Nat.le_of_ble_eq_true rfl⟩ hl.1 (Nat.le_of_ble_eq_true rfl) (g_182 (v := 86) bX3_readOne rfl) ⟨Nat.le_of_ble_eq_true rfl, Nat.le_of_ble_eq_true rfl⟩ (fun r_33 u_35 H locs h_34 => ?_)
      clear hP hD hS
      intro hP hD hS
      obtain ⟨kX_36, kY_37, iX_38, hu9, h_39, h_34⟩ := h_34
      have hPD := pd_eq [_, _, _, _, _, _, _, _, _, zzO qa 2 [.ref qab, .int (nI kZ), .int (nI kX_36), .int (nI kY_37), .int iX_38, .int iY_15, .ref qd], _] hP hD hu9 rfl
      clear hP hD hu9
      obtain ⟨hP, hD⟩ := hPD
      refine lv_if_eq (tgt := 69) hx hb dX3_readOne_56 (by decide +kernel) (fun c_40 => ?_) (fun c_40 => ?_)
      · refine lv_iconst (v := 5) hx hb (g_8 bX3_readOne rfl) (by decide +kernel) ?_
        refine lv_istore_n (lv' := [(3, .int 5), (2, .int 5), (1, .int r_9), (0, .ref qa)]) hx hb (g_62 bX3_readOne rfl) rfl hl (by decide +kernel) rfl (fun ls => ?_)
        clear hl
        intro hl
        refine lv_aload_n hx hb (g_42 bX3_readOne rfl) rfl (lv_at hl 3 rfl) ?_
        obtain ⟨qs_41, qv_43, hs_42, hf_44⟩ := hX (RX3, 105, "tells", [116, 101, 108, 108, 115]) (List.mem_of_getElem? (i := 6) rfl)
        refine va_ldcS hx hb hown hs_42 (g_18 (v := 105) bX3_readOne rfl) ?_
        refine cVXi (As := [.ref qs_41]) (rest := []) (b := qa) (q := (RX3, TX3, 7)) ⟨hx, hb, hml, hown, hts⟩ (c_X3_passes l G cy (H).size qa qab kZ kX_36 kY_37 iX_38 iY_15 qd fB qs_41 ([116, 101, 108, 108, 115]) qv_43 hZ (by first | omega | (simp only [nb_sr, np_sr, nb_wr, np_wr, nb_rd, np_rd, nb_ch, np_ch, nb_zr, np_zr, nb_za, np_za, nb_ey, np_ey, nb_hf, np_hf, nb_dd, np_dd, nb_so, np_so, nb_skn, np_skn, nb_swh, np_swh, nb_sgn, np_sgn, nb_ssd, np_ssd, nb_sgo, np_sgo, nb_sag, np_sag]; omega)) (by decide +kernel) as_tells) L_X3_86 hN hP hD hS hA [9, 10] [true, true, true, true, true, true, true, true, true, false, false] rfl (by decide +kernel) rfl 9 2 rfl rfl SF_ok hf_44 rfl ⟨Nat.le_of_ble_eq_true rfl, Nat.le_of_ble_eq_true rfl⟩ hl.1 (Nat.le_of_ble_eq_true rfl) (g_182 (v := 86) bX3_readOne rfl) ⟨Nat.le_of_ble_eq_true rfl, Nat.le_of_ble_eq_true rfl⟩ (fun r_45 u_47 H locs h_46 => ?_)
        clear hP hD hS
        intro hP hD hS
        obtain ⟨kX_48, kY_49, iX_50, hu9, h_51, h_46⟩ := h_46
        have hPD := pd_eq [_, _, _, _, _, _, _, _, _, zzO qa 2 [.ref qab, .int (nI kZ), .int (nI kX_48), .int (nI kY_49), .int iX_50, .int iY_15, .ref qd], _] hP hD hu9 rfl
        clear hP hD hu9
        obtain ⟨hP, hD⟩ := hPD
        refine lv_if_eq (tgt := 90) hx hb dX3_readOne_77 (by decide +kernel) (fun c_52 => ?_) (fun c_52 => ?_)
        · refine lv_iconst (v := 5) hx hb (g_8 bX3_readOne rfl) (by decide +kernel) ?_
          refine lv_istore (lv' := [(4, .int 5), (3, .int 5), (2, .int 5), (1, .int r_9), (0, .ref qa)]) hx hb (g_54 (v := 4) bX3_readOne rfl) hl (by decide +kernel) rfl (fun ls => ?_)
          clear hl
          intro hl
          refine lv_aload_n hx hb (g_42 bX3_readOne rfl) rfl (lv_at hl 4 rfl) ?_
          refine va_get (D := G) (ci := 2) (v := .int iY_15) (C := RX3) (T := TX3) (N := 7) hx hb hts iX_X3 hown hK hP 9 rfl rfl 5 (by decide +kernel) (hts _ m_t154) (fun _ h9 => h9) rfl (g_180 (v := 30) bX3_readOne rfl) ?_
          refine lv_iconst (v := (-1)) hx hb (g_2 bX3_readOne rfl) (by decide +kernel) ?_
          refine lv_icmp_ne (tgt := 114) hx hb dX3_readOne_98 (by decide +kernel) (fun c_53 => ?_) (fun c_53 => ?_)
          · exact endV (u := [zzO qa 2 [.ref qab, .int (nI kZ), .int (nI kX_48), .int (nI kY_49), .int iX_50, .int iY_15, .ref qd], zzB cy qab 250 fB, zzO qd 3 [.int (nI (T_nb tD)), .int (nI (T_np tD)), .int (wb (T_wh tD)), .int (wb (T_gn tD)), .int (T_sd tD), .ref qdw, .ref qdn, .ref qdg, .ref qda, .ref qdr, .ref qdm, .ref qdt, .ref qds], zzI cy qdw 8 (T_wo tD), zzI cy qdn 8 (T_ne tD), zzI cy qdg 8 (T_go tD), zzI cy qda 8 (T_ag tD), zzI cy qdr 8 (T_re tD), zzI cy qdm 8 (T_me tD), zzI cy qdt 8 (T_te tD), zzI cy qds 64 (shF (T_kn tD))]) hx hb hr hlocks (pSb hP [[false, false, false, false, false, false, false, false, false, true, true], [true, true, true, true, true, true, true, true, true]] rfl rfl) (dSb hD [[false, false, false, false, false, false, false, false, false, true, true], [true, true, true, true, true, true, true, true, true]] (by decide +kernel) rfl rfl) hS ⟨kX_48, kY_49, iX_50, iY_15, tD, rfl, ⟨by omega, by omega, by first | omega | (show T_nb tD + 1 ≤ 8; omega) | (show T_nb tD ≤ 8; omega), by first | omega | (show T_np tD + 1 ≤ 8; omega) | (show T_np tD ≤ 8; omega)⟩⟩ (g_177 bX3_readOne rfl)
          · refine lv_aload_n hx hb (g_42 bX3_readOne rfl) rfl (lv_at hl 4 rfl) ?_
            refine va_get (D := G) (ci := 2) (v := .ref qd) (C := RX3) (T := TX3) (N := 7) hx hb hts iX_X3 hown hK hP 9 rfl rfl 6 (by decide +kernel) (hts _ m_t156) (fun _ h9 => h9) rfl (g_180 (v := 18) bX3_readOne rfl) ?_
            refine lv_iload_n hx hb (g_27 bX3_readOne rfl) rfl (lv_at hl 3 rfl) ?_
            refine lv_iload_n hx hb (g_28 bX3_readOne rfl) rfl (lv_at hl 2 rfl) ?_
            refine lv_iload_n hx hb (g_29 bX3_readOne rfl) rfl (lv_at hl 1 rfl) ?_
            refine lv_iload hx hb (g_21 (v := 4) bX3_readOne rfl) (lv_at hl 0 rfl) ?_
            refine cVi (As := [.int r_9, .int 5, .int 5, .int 5]) (rest := []) (b := qd) (q := (RX4, TX4, 13)) ⟨hx, hb, hml, hown, hts⟩ (c_X4_addOne l G cy (H).size qd tD qdw qdn qdg qda qdr qdm qdt qds r_9 5 5 5 (by first | omega | (simp only [nb_sr, np_sr, nb_wr, np_wr, nb_rd, np_rd, nb_ch, np_ch, nb_zr, np_zr, nb_za, np_za, nb_ey, np_ey, nb_hf, np_hf, nb_dd, np_dd, nb_so, np_so, nb_skn, np_skn, nb_swh, np_swh, nb_sgn, np_sgn, nb_ssd, np_ssd, nb_sgo, np_sgo, nb_sag, np_sag]; omega))) L_X3_107 hN hP hD hS hA (trueIx 0 [true, true, true, true, true, true, true, true, true]) [false, false, false, false, false, false, false, false, false, true, true] (sel_eq rfl rfl) (by decide +kernel) rfl 0 3 rfl rfl rfl ⟨Nat.le_of_ble_eq_true rfl, Nat.le_of_ble_eq_true rfl⟩ hl.1 (Nat.le_of_ble_eq_true rfl) (g_182 (v := 107) bX3_readOne rfl) ⟨Nat.le_of_ble_eq_true rfl, Nat.le_of_ble_eq_true rfl⟩ (fun r_54 u_56 H locs h_55 => ?_)
            clear hP hD hS
            intro hP hD hS
            obtain ⟨hu9, h_55⟩ := h_55
            have hPD := pd_eq [_, _, zzO qd 3 [.int (nI (T_nb (zao tD r_9 5 5 5))), .int (nI (T_np (zao tD r_9 5 5 5))), .int (wb (T_wh (zao tD r_9 5 5 5))), .int (wb (T_gn (zao tD r_9 5 5 5))), .int (T_sd (zao tD r_9 5 5 5)), .ref qdw, .ref qdn, .ref qdg, .ref qda, .ref qdr, .ref qdm, .ref qdt, .ref qds], zzI cy qdw 8 (T_wo (zao tD r_9 5 5 5)), zzI cy qdn 8 (T_ne (zao tD r_9 5 5 5)), zzI cy qdg 8 (T_go (zao tD r_9 5 5 5)), zzI cy qda 8 (T_ag (zao tD r_9 5 5 5)), zzI cy qdr 8 (T_re (zao tD r_9 5 5 5)), zzI cy qdm 8 (T_me (zao tD r_9 5 5 5)), zzI cy qdt 8 (T_te (zao tD r_9 5 5 5)), zzI cy qds 64 (shF (T_kn (zao tD r_9 5 5 5)))] hP hD hu9 rfl
            clear hP hD hu9
            obtain ⟨hP, hD⟩ := hPD
            subst h_55
            refine lv_pop hx hb (g_87 bX3_readOne rfl) rfl ?_
            exact endV (u := [zzO qa 2 [.ref qab, .int (nI kZ), .int (nI kX_48), .int (nI kY_49), .int iX_50, .int iY_15, .ref qd], zzB cy qab 250 fB, zzO qd 3 [.int (nI (T_nb (zao tD r_9 5 5 5))), .int (nI (T_np (zao tD r_9 5 5 5))), .int (wb (T_wh (zao tD r_9 5 5 5))), .int (wb (T_gn (zao tD r_9 5 5 5))), .int (T_sd (zao tD r_9 5 5 5)), .ref qdw, .ref qdn, .ref qdg, .ref qda, .ref qdr, .ref qdm, .ref qdt, .ref qds], zzI cy qdw 8 (T_wo (zao tD r_9 5 5 5)), zzI cy qdn 8 (T_ne (zao tD r_9 5 5 5)), zzI cy qdg 8 (T_go (zao tD r_9 5 5 5)), zzI cy qda 8 (T_ag (zao tD r_9 5 5 5)), zzI cy qdr 8 (T_re (zao tD r_9 5 5 5)), zzI cy qdm 8 (T_me (zao tD r_9 5 5 5)), zzI cy qdt 8 (T_te (zao tD r_9 5 5 5)), zzI cy qds 64 (shF (T_kn (zao tD r_9 5 5 5)))]) hx hb hr hlocks (pSb hP [[true, true, true, true, true, true, true, true, true, true, true]] rfl rfl) (dSb hD [[true, true, true, true, true, true, true, true, true, true, true]] (by decide +kernel) rfl rfl) hS ⟨kX_48, kY_49, iX_50, iY_15, (zao tD r_9 5 5 5), rfl, ⟨by omega, by omega, by first | omega | (show T_nb tD + 1 ≤ 8; omega) | (show T_nb tD ≤ 8; omega), by first | omega | (show T_np tD + 1 ≤ 8; omega) | (show T_np tD ≤ 8; omega)⟩⟩ (g_177 bX3_readOne rfl)
        · refine lv_aload_n hx hb (g_42 bX3_readOne rfl) rfl (lv_at hl 3 rfl) ?_
          refine lv_iconst (v := 0) hx hb (g_3 bX3_readOne rfl) (by decide +kernel) ?_
          refine lv_bipush (v := 10) hx hb dX3_readOne_82 (by decide +kernel) ?_
          refine cVi (As := [.int 0, .int 10]) (rest := []) (b := qa) (q := (RX3, TX3, 7)) ⟨hx, hb, hml, hown, hts⟩ (c_X3_takeNumber l G cy (H).size qa qab kZ kX_48 kY_49 iX_50 iY_15 qd fB 0 10 hZ (by first | omega | (simp only [nb_sr, np_sr, nb_wr, np_wr, nb_rd, np_rd, nb_ch, np_ch, nb_zr, np_zr, nb_za, np_za, nb_ey, np_ey, nb_hf, np_hf, nb_dd, np_dd, nb_so, np_so, nb_skn, np_skn, nb_swh, np_swh, nb_sgn, np_sgn, nb_ssd, np_ssd, nb_sgo, np_sgo, nb_sag, np_sag]; omega))) L_X3_80 hN hP hD hS hA [9, 10] [true, true, true, true, true, true, true, true, true, false, false] rfl (by decide +kernel) rfl 9 2 rfl rfl rfl ⟨Nat.le_of_ble_eq_true rfl, Nat.le_of_ble_eq_true rfl⟩ hl.1 (Nat.le_of_ble_eq_true rfl) (g_182 (v := 80) bX3_readOne rfl) ⟨Nat.le_of_ble_eq_true rfl, Nat.le_of_ble_eq_true rfl⟩ (fun r_57 u_59 H locs h_58 => ?_)
          clear hP hD hS
          intro hP hD hS
          obtain ⟨kX_60, kY_61, iX_62, iY_63, hu9, h_64, h_58⟩ := h_58
          have hPD := pd_eq [_, _, _, _, _, _, _, _, _, zzO qa 2 [.ref qab, .int (nI kZ), .int (nI kX_60), .int (nI kY_61), .int iX_62, .int iY_63, .ref qd], _] hP hD hu9 rfl
          clear hP hD hu9
          obtain ⟨hP, hD⟩ := hPD
          refine lv_goto (tgt := 91) hx hb dX3_readOne_87 (by decide +kernel) ?_
          refine lv_istore (lv' := [(4, .int r_57), (3, .int 5), (2, .int 5), (1, .int r_9), (0, .ref qa)]) hx hb (g_54 (v := 4) bX3_readOne rfl) hl (by decide +kernel) rfl (fun ls => ?_)
          clear hl
          intro hl
          refine lv_aload_n hx hb (g_42 bX3_readOne rfl) rfl (lv_at hl 4 rfl) ?_
          refine va_get (D := G) (ci := 2) (v := .int iY_63) (C := RX3) (T := TX3) (N := 7) hx hb hts iX_X3 hown hK hP 9 rfl rfl 5 (by decide +kernel) (hts _ m_t154) (fun _ h9 => h9) rfl (g_180 (v := 30) bX3_readOne rfl) ?_
          refine lv_iconst (v := (-1)) hx hb (g_2 bX3_readOne rfl) (by decide +kernel) ?_
          refine lv_icmp_ne (tgt := 114) hx hb dX3_readOne_98 (by decide +kernel) (fun c_65 => ?_) (fun c_65 => ?_)
          · exact endV (u := [zzO qa 2 [.ref qab, .int (nI kZ), .int (nI kX_60), .int (nI kY_61), .int iX_62, .int iY_63, .ref qd], zzB cy qab 250 fB, zzO qd 3 [.int (nI (T_nb tD)), .int (nI (T_np tD)), .int (wb (T_wh tD)), .int (wb (T_gn tD)), .int (T_sd tD), .ref qdw, .ref qdn, .ref qdg, .ref qda, .ref qdr, .ref qdm, .ref qdt, .ref qds], zzI cy qdw 8 (T_wo tD), zzI cy qdn 8 (T_ne tD), zzI cy qdg 8 (T_go tD), zzI cy qda 8 (T_ag tD), zzI cy qdr 8 (T_re tD), zzI cy qdm 8 (T_me tD), zzI cy qdt 8 (T_te tD), zzI cy qds 64 (shF (T_kn tD))]) hx hb hr hlocks (pSb hP [[false, false, false, false, false, false, false, false, false, true, true], [true, true, true, true, true, true, true, true, true]] rfl rfl) (dSb hD [[false, false, false, false, false, false, false, false, false, true, true], [true, true, true, true, true, true, true, true, true]] (by decide +kernel) rfl rfl) hS ⟨kX_60, kY_61, iX_62, iY_63, tD, rfl, ⟨by omega, by omega, by first | omega | (show T_nb tD + 1 ≤ 8; omega) | (show T_nb tD ≤ 8; omega), by first | omega | (show T_np tD + 1 ≤ 8; omega) | (show T_np tD ≤ 8; omega)⟩⟩ (g_177 bX3_readOne rfl)
          · refine lv_aload_n hx hb (g_42 bX3_readOne rfl) rfl (lv_at hl 4 rfl) ?_
            refine va_get (D := G) (ci := 2) (v := .ref qd) (C := RX3) (T := TX3) (N := 7) hx hb hts iX_X3 hown hK hP 9 rfl rfl 6 (by decide +kernel) (hts _ m_t156) (fun _ h9 => h9) rfl (g_180 (v := 18) bX3_readOne rfl) ?_
            refine lv_iload_n hx hb (g_27 bX3_readOne rfl) rfl (lv_at hl 3 rfl) ?_
            refine lv_iload_n hx hb (g_28 bX3_readOne rfl) rfl (lv_at hl 2 rfl) ?_
            refine lv_iload_n hx hb (g_29 bX3_readOne rfl) rfl (lv_at hl 1 rfl) ?_
            refine lv_iload hx hb (g_21 (v := 4) bX3_readOne rfl) (lv_at hl 0 rfl) ?_
            refine cVi (As := [.int r_9, .int 5, .int 5, .int r_57]) (rest := []) (b := qd) (q := (RX4, TX4, 13)) ⟨hx, hb, hml, hown, hts⟩ (c_X4_addOne l G cy (H).size qd tD qdw qdn qdg qda qdr qdm qdt qds r_9 5 5 r_57 (by first | omega | (simp only [nb_sr, np_sr, nb_wr, np_wr, nb_rd, np_rd, nb_ch, np_ch, nb_zr, np_zr, nb_za, np_za, nb_ey, np_ey, nb_hf, np_hf, nb_dd, np_dd, nb_so, np_so, nb_skn, np_skn, nb_swh, np_swh, nb_sgn, np_sgn, nb_ssd, np_ssd, nb_sgo, np_sgo, nb_sag, np_sag]; omega))) L_X3_107 hN hP hD hS hA (trueIx 0 [true, true, true, true, true, true, true, true, true]) [false, false, false, false, false, false, false, false, false, true, true] (sel_eq rfl rfl) (by decide +kernel) rfl 0 3 rfl rfl rfl ⟨Nat.le_of_ble_eq_true rfl, Nat.le_of_ble_eq_true rfl⟩ hl.1 (Nat.le_of_ble_eq_true rfl) (g_182 (v := 107) bX3_readOne rfl) ⟨Nat.le_of_ble_eq_true rfl, Nat.le_of_ble_eq_true rfl⟩ (fun r_66 u_68 H locs h_67 => ?_)
            clear hP hD hS
            intro hP hD hS
            obtain ⟨hu9, h_67⟩ := h_67
            have hPD := pd_eq [_, _, zzO qd 3 [.int (nI (T_nb (zao tD r_9 5 5 r_57))), .int (nI (T_np (zao tD r_9 5 5 r_57))), .int (wb (T_wh (zao tD r_9 5 5 r_57))), .int (wb (T_gn (zao tD r_9 5 5 r_57))), .int (T_sd (zao tD r_9 5 5 r_57)), .ref qdw, .ref qdn, .ref qdg, .ref qda, .ref qdr, .ref qdm, .ref qdt, .ref qds], zzI cy qdw 8 (T_wo (zao tD r_9 5 5 r_57)), zzI cy qdn 8 (T_ne (zao tD r_9 5 5 r_57)), zzI cy qdg 8 (T_go (zao tD r_9 5 5 r_57)), zzI cy qda 8 (T_ag (zao tD r_9 5 5 r_57)), zzI cy qdr 8 (T_re (zao tD r_9 5 5 r_57)), zzI cy qdm 8 (T_me (zao tD r_9 5 5 r_57)), zzI cy qdt 8 (T_te (zao tD r_9 5 5 r_57)), zzI cy qds 64 (shF (T_kn (zao tD r_9 5 5 r_57)))] hP hD hu9 rfl
            clear hP hD hu9
            obtain ⟨hP, hD⟩ := hPD
            subst h_67
            refine lv_pop hx hb (g_87 bX3_readOne rfl) rfl ?_
            exact endV (u := [zzO qa 2 [.ref qab, .int (nI kZ), .int (nI kX_60), .int (nI kY_61), .int iX_62, .int iY_63, .ref qd], zzB cy qab 250 fB, zzO qd 3 [.int (nI (T_nb (zao tD r_9 5 5 r_57))), .int (nI (T_np (zao tD r_9 5 5 r_57))), .int (wb (T_wh (zao tD r_9 5 5 r_57))), .int (wb (T_gn (zao tD r_9 5 5 r_57))), .int (T_sd (zao tD r_9 5 5 r_57)), .ref qdw, .ref qdn, .ref qdg, .ref qda, .ref qdr, .ref qdm, .ref qdt, .ref qds], zzI cy qdw 8 (T_wo (zao tD r_9 5 5 r_57)), zzI cy qdn 8 (T_ne (zao tD r_9 5 5 r_57)), zzI cy qdg 8 (T_go (zao tD r_9 5 5 r_57)), zzI cy qda 8 (T_ag (zao tD r_9 5 5 r_57)), zzI cy qdr 8 (T_re (zao tD r_9 5 5 r_57)), zzI cy qdm 8 (T_me (zao tD r_9 5 5 r_57)), zzI cy qdt 8 (T_te (zao tD r_9 5 5 r_57)), zzI cy qds 64 (shF (T_kn (zao tD r_9 5 5 r_57)))]) hx hb hr hlocks (pSb hP [[true, true, true, true, true, true, true, true, true, true, true]] rfl rfl) (dSb hD [[true, true, true, true, true, true, true, true, true, true, true]] (by decide +kernel) rfl rfl) hS ⟨kX_60, kY_61, iX_62, iY_63, (zao tD r_9 5 5 r_57), rfl, ⟨by omega, by omega, by first | omega | (show T_nb tD + 1 ≤ 8; omega) | (show T_nb tD ≤ 8; omega), by first | omega | (show T_np tD + 1 ≤ 8; omega) | (show T_np tD ≤ 8; omega)⟩⟩ (g_177 bX3_readOne rfl)
      · refine lv_aload_n hx hb (g_42 bX3_readOne rfl) rfl (lv_at hl 2 rfl) ?_
        refine lv_iconst (v := 0) hx hb (g_3 bX3_readOne rfl) (by decide +kernel) ?_
        refine lv_bipush (v := 10) hx hb dX3_readOne_61 (by decide +kernel) ?_
        refine cVi (As := [.int 0, .int 10]) (rest := []) (b := qa) (q := (RX3, TX3, 7)) ⟨hx, hb, hml, hown, hts⟩ (c_X3_takeNumber l G cy (H).size qa qab kZ kX_36 kY_37 iX_38 iY_15 qd fB 0 10 hZ (by first | omega | (simp only [nb_sr, np_sr, nb_wr, np_wr, nb_rd, np_rd, nb_ch, np_ch, nb_zr, np_zr, nb_za, np_za, nb_ey, np_ey, nb_hf, np_hf, nb_dd, np_dd, nb_so, np_so, nb_skn, np_skn, nb_swh, np_swh, nb_sgn, np_sgn, nb_ssd, np_ssd, nb_sgo, np_sgo, nb_sag, np_sag]; omega))) L_X3_80 hN hP hD hS hA [9, 10] [true, true, true, true, true, true, true, true, true, false, false] rfl (by decide +kernel) rfl 9 2 rfl rfl rfl ⟨Nat.le_of_ble_eq_true rfl, Nat.le_of_ble_eq_true rfl⟩ hl.1 (Nat.le_of_ble_eq_true rfl) (g_182 (v := 80) bX3_readOne rfl) ⟨Nat.le_of_ble_eq_true rfl, Nat.le_of_ble_eq_true rfl⟩ (fun r_69 u_71 H locs h_70 => ?_)
        clear hP hD hS
        intro hP hD hS
        obtain ⟨kX_72, kY_73, iX_74, iY_75, hu9, h_76, h_70⟩ := h_70
        have hPD := pd_eq [_, _, _, _, _, _, _, _, _, zzO qa 2 [.ref qab, .int (nI kZ), .int (nI kX_72), .int (nI kY_73), .int iX_74, .int iY_75, .ref qd], _] hP hD hu9 rfl
        clear hP hD hu9
        obtain ⟨hP, hD⟩ := hPD
        refine lv_goto (tgt := 70) hx hb dX3_readOne_66 (by decide +kernel) ?_
        refine lv_istore_n (lv' := [(3, .int r_69), (2, .int 5), (1, .int r_9), (0, .ref qa)]) hx hb (g_62 bX3_readOne rfl) rfl hl (by decide +kernel) rfl (fun ls => ?_)
        clear hl
        intro hl
        refine lv_aload_n hx hb (g_42 bX3_readOne rfl) rfl (lv_at hl 3 rfl) ?_
        obtain ⟨qs_77, qv_79, hs_78, hf_80⟩ := hX (RX3, 105, "tells", [116, 101, 108, 108, 115]) (List.mem_of_getElem? (i := 6) rfl)
        refine va_ldcS hx hb hown hs_78 (g_18 (v := 105) bX3_readOne rfl) ?_
        refine cVXi (As := [.ref qs_77]) (rest := []) (b := qa) (q := (RX3, TX3, 7)) ⟨hx, hb, hml, hown, hts⟩ (c_X3_passes l G cy (H).size qa qab kZ kX_72 kY_73 iX_74 iY_75 qd fB qs_77 ([116, 101, 108, 108, 115]) qv_79 hZ (by first | omega | (simp only [nb_sr, np_sr, nb_wr, np_wr, nb_rd, np_rd, nb_ch, np_ch, nb_zr, np_zr, nb_za, np_za, nb_ey, np_ey, nb_hf, np_hf, nb_dd, np_dd, nb_so, np_so, nb_skn, np_skn, nb_swh, np_swh, nb_sgn, np_sgn, nb_ssd, np_ssd, nb_sgo, np_sgo, nb_sag, np_sag]; omega)) (by decide +kernel) as_tells) L_X3_86 hN hP hD hS hA [9, 10] [true, true, true, true, true, true, true, true, true, false, false] rfl (by decide +kernel) rfl 9 2 rfl rfl SF_ok hf_80 rfl ⟨Nat.le_of_ble_eq_true rfl, Nat.le_of_ble_eq_true rfl⟩ hl.1 (Nat.le_of_ble_eq_true rfl) (g_182 (v := 86) bX3_readOne rfl) ⟨Nat.le_of_ble_eq_true rfl, Nat.le_of_ble_eq_true rfl⟩ (fun r_81 u_83 H locs h_82 => ?_)
        clear hP hD hS
        intro hP hD hS
        obtain ⟨kX_84, kY_85, iX_86, hu9, h_87, h_82⟩ := h_82
        have hPD := pd_eq [_, _, _, _, _, _, _, _, _, zzO qa 2 [.ref qab, .int (nI kZ), .int (nI kX_84), .int (nI kY_85), .int iX_86, .int iY_75, .ref qd], _] hP hD hu9 rfl
        clear hP hD hu9
        obtain ⟨hP, hD⟩ := hPD
        refine lv_if_eq (tgt := 90) hx hb dX3_readOne_77 (by decide +kernel) (fun c_88 => ?_) (fun c_88 => ?_)
        · refine lv_iconst (v := 5) hx hb (g_8 bX3_readOne rfl) (by decide +kernel) ?_
          refine lv_istore (lv' := [(4, .int 5), (3, .int r_69), (2, .int 5), (1, .int r_9), (0, .ref qa)]) hx hb (g_54 (v := 4) bX3_readOne rfl) hl (by decide +kernel) rfl (fun ls => ?_)
          clear hl
          intro hl
          refine lv_aload_n hx hb (g_42 bX3_readOne rfl) rfl (lv_at hl 4 rfl) ?_
          refine va_get (D := G) (ci := 2) (v := .int iY_75) (C := RX3) (T := TX3) (N := 7) hx hb hts iX_X3 hown hK hP 9 rfl rfl 5 (by decide +kernel) (hts _ m_t154) (fun _ h9 => h9) rfl (g_180 (v := 30) bX3_readOne rfl) ?_
          refine lv_iconst (v := (-1)) hx hb (g_2 bX3_readOne rfl) (by decide +kernel) ?_
          refine lv_icmp_ne (tgt := 114) hx hb dX3_readOne_98 (by decide +kernel) (fun c_89 => ?_) (fun c_89 => ?_)
          · exact endV (u := [zzO qa 2 [.ref qab, .int (nI kZ), .int (nI kX_84), .int (nI kY_85), .int iX_86, .int iY_75, .ref qd], zzB cy qab 250 fB, zzO qd 3 [.int (nI (T_nb tD)), .int (nI (T_np tD)), .int (wb (T_wh tD)), .int (wb (T_gn tD)), .int (T_sd tD), .ref qdw, .ref qdn, .ref qdg, .ref qda, .ref qdr, .ref qdm, .ref qdt, .ref qds], zzI cy qdw 8 (T_wo tD), zzI cy qdn 8 (T_ne tD), zzI cy qdg 8 (T_go tD), zzI cy qda 8 (T_ag tD), zzI cy qdr 8 (T_re tD), zzI cy qdm 8 (T_me tD), zzI cy qdt 8 (T_te tD), zzI cy qds 64 (shF (T_kn tD))]) hx hb hr hlocks (pSb hP [[false, false, false, false, false, false, false, false, false, true, true], [true, true, true, true, true, true, true, true, true]] rfl rfl) (dSb hD [[false, false, false, false, false, false, false, false, false, true, true], [true, true, true, true, true, true, true, true, true]] (by decide +kernel) rfl rfl) hS ⟨kX_84, kY_85, iX_86, iY_75, tD, rfl, ⟨by omega, by omega, by first | omega | (show T_nb tD + 1 ≤ 8; omega) | (show T_nb tD ≤ 8; omega), by first | omega | (show T_np tD + 1 ≤ 8; omega) | (show T_np tD ≤ 8; omega)⟩⟩ (g_177 bX3_readOne rfl)
          · refine lv_aload_n hx hb (g_42 bX3_readOne rfl) rfl (lv_at hl 4 rfl) ?_
            refine va_get (D := G) (ci := 2) (v := .ref qd) (C := RX3) (T := TX3) (N := 7) hx hb hts iX_X3 hown hK hP 9 rfl rfl 6 (by decide +kernel) (hts _ m_t156) (fun _ h9 => h9) rfl (g_180 (v := 18) bX3_readOne rfl) ?_
            refine lv_iload_n hx hb (g_27 bX3_readOne rfl) rfl (lv_at hl 3 rfl) ?_
            refine lv_iload_n hx hb (g_28 bX3_readOne rfl) rfl (lv_at hl 2 rfl) ?_
            refine lv_iload_n hx hb (g_29 bX3_readOne rfl) rfl (lv_at hl 1 rfl) ?_
            refine lv_iload hx hb (g_21 (v := 4) bX3_readOne rfl) (lv_at hl 0 rfl) ?_
            refine cVi (As := [.int r_9, .int 5, .int r_69, .int 5]) (rest := []) (b := qd) (q := (RX4, TX4, 13)) ⟨hx, hb, hml, hown, hts⟩ (c_X4_addOne l G cy (H).size qd tD qdw qdn qdg qda qdr qdm qdt qds r_9 5 r_69 5 (by first | omega | (simp only [nb_sr, np_sr, nb_wr, np_wr, nb_rd, np_rd, nb_ch, np_ch, nb_zr, np_zr, nb_za, np_za, nb_ey, np_ey, nb_hf, np_hf, nb_dd, np_dd, nb_so, np_so, nb_skn, np_skn, nb_swh, np_swh, nb_sgn, np_sgn, nb_ssd, np_ssd, nb_sgo, np_sgo, nb_sag, np_sag]; omega))) L_X3_107 hN hP hD hS hA (trueIx 0 [true, true, true, true, true, true, true, true, true]) [false, false, false, false, false, false, false, false, false, true, true] (sel_eq rfl rfl) (by decide +kernel) rfl 0 3 rfl rfl rfl ⟨Nat.le_of_ble_eq_true rfl, Nat.le_of_ble_eq_true rfl⟩ hl.1 (Nat.le_of_ble_eq_true rfl) (g_182 (v := 107) bX3_readOne rfl) ⟨Nat.le_of_ble_eq_true rfl, Nat.le_of_ble_eq_true rfl⟩ (fun r_90 u_92 H locs h_91 => ?_)
            clear hP hD hS
            intro hP hD hS
            obtain ⟨hu9, h_91⟩ := h_91
            have hPD := pd_eq [_, _, zzO qd 3 [.int (nI (T_nb (zao tD r_9 5 r_69 5))), .int (nI (T_np (zao tD r_9 5 r_69 5))), .int (wb (T_wh (zao tD r_9 5 r_69 5))), .int (wb (T_gn (zao tD r_9 5 r_69 5))), .int (T_sd (zao tD r_9 5 r_69 5)), .ref qdw, .ref qdn, .ref qdg, .ref qda, .ref qdr, .ref qdm, .ref qdt, .ref qds], zzI cy qdw 8 (T_wo (zao tD r_9 5 r_69 5)), zzI cy qdn 8 (T_ne (zao tD r_9 5 r_69 5)), zzI cy qdg 8 (T_go (zao tD r_9 5 r_69 5)), zzI cy qda 8 (T_ag (zao tD r_9 5 r_69 5)), zzI cy qdr 8 (T_re (zao tD r_9 5 r_69 5)), zzI cy qdm 8 (T_me (zao tD r_9 5 r_69 5)), zzI cy qdt 8 (T_te (zao tD r_9 5 r_69 5)), zzI cy qds 64 (shF (T_kn (zao tD r_9 5 r_69 5)))] hP hD hu9 rfl
            clear hP hD hu9
            obtain ⟨hP, hD⟩ := hPD
            subst h_91
            refine lv_pop hx hb (g_87 bX3_readOne rfl) rfl ?_
            exact endV (u := [zzO qa 2 [.ref qab, .int (nI kZ), .int (nI kX_84), .int (nI kY_85), .int iX_86, .int iY_75, .ref qd], zzB cy qab 250 fB, zzO qd 3 [.int (nI (T_nb (zao tD r_9 5 r_69 5))), .int (nI (T_np (zao tD r_9 5 r_69 5))), .int (wb (T_wh (zao tD r_9 5 r_69 5))), .int (wb (T_gn (zao tD r_9 5 r_69 5))), .int (T_sd (zao tD r_9 5 r_69 5)), .ref qdw, .ref qdn, .ref qdg, .ref qda, .ref qdr, .ref qdm, .ref qdt, .ref qds], zzI cy qdw 8 (T_wo (zao tD r_9 5 r_69 5)), zzI cy qdn 8 (T_ne (zao tD r_9 5 r_69 5)), zzI cy qdg 8 (T_go (zao tD r_9 5 r_69 5)), zzI cy qda 8 (T_ag (zao tD r_9 5 r_69 5)), zzI cy qdr 8 (T_re (zao tD r_9 5 r_69 5)), zzI cy qdm 8 (T_me (zao tD r_9 5 r_69 5)), zzI cy qdt 8 (T_te (zao tD r_9 5 r_69 5)), zzI cy qds 64 (shF (T_kn (zao tD r_9 5 r_69 5)))]) hx hb hr hlocks (pSb hP [[true, true, true, true, true, true, true, true, true, true, true]] rfl rfl) (dSb hD [[true, true, true, true, true, true, true, true, true, true, true]] (by decide +kernel) rfl rfl) hS ⟨kX_84, kY_85, iX_86, iY_75, (zao tD r_9 5 r_69 5), rfl, ⟨by omega, by omega, by first | omega | (show T_nb tD + 1 ≤ 8; omega) | (show T_nb tD ≤ 8; omega), by first | omega | (show T_np tD + 1 ≤ 8; omega) | (show T_np tD ≤ 8; omega)⟩⟩ (g_177 bX3_readOne rfl)
        · refine lv_aload_n hx hb (g_42 bX3_readOne rfl) rfl (lv_at hl 3 rfl) ?_
          refine lv_iconst (v := 0) hx hb (g_3 bX3_readOne rfl) (by decide +kernel) ?_
          refine lv_bipush (v := 10) hx hb dX3_readOne_82 (by decide +kernel) ?_
          refine cVi (As := [.int 0, .int 10]) (rest := []) (b := qa) (q := (RX3, TX3, 7)) ⟨hx, hb, hml, hown, hts⟩ (c_X3_takeNumber l G cy (H).size qa qab kZ kX_84 kY_85 iX_86 iY_75 qd fB 0 10 hZ (by first | omega | (simp only [nb_sr, np_sr, nb_wr, np_wr, nb_rd, np_rd, nb_ch, np_ch, nb_zr, np_zr, nb_za, np_za, nb_ey, np_ey, nb_hf, np_hf, nb_dd, np_dd, nb_so, np_so, nb_skn, np_skn, nb_swh, np_swh, nb_sgn, np_sgn, nb_ssd, np_ssd, nb_sgo, np_sgo, nb_sag, np_sag]; omega))) L_X3_80 hN hP hD hS hA [9, 10] [true, true, true, true, true, true, true, true, true, false, false] rfl (by decide +kernel) rfl 9 2 rfl rfl rfl ⟨Nat.le_of_ble_eq_true rfl, Nat.le_of_ble_eq_true rfl⟩ hl.1 (Nat.le_of_ble_eq_true rfl) (g_182 (v := 80) bX3_readOne rfl) ⟨Nat.le_of_ble_eq_true rfl, Nat.le_of_ble_eq_true rfl⟩ (fun r_93 u_95 H locs h_94 => ?_)
          clear hP hD hS
          intro hP hD hS
          obtain ⟨kX_96, kY_97, iX_98, iY_99, hu9, h_100, h_94⟩ := h_94
          have hPD := pd_eq [_, _, _, _, _, _, _, _, _, zzO qa 2 [.ref qab, .int (nI kZ), .int (nI kX_96), .int (nI kY_97), .int iX_98, .int iY_99, .ref qd], _] hP hD hu9 rfl
          clear hP hD hu9
          obtain ⟨hP, hD⟩ := hPD
          refine lv_goto (tgt := 91) hx hb dX3_readOne_87 (by decide +kernel) ?_
          refine lv_istore (lv' := [(4, .int r_93), (3, .int r_69), (2, .int 5), (1, .int r_9), (0, .ref qa)]) hx hb (g_54 (v := 4) bX3_readOne rfl) hl (by decide +kernel) rfl (fun ls => ?_)
          clear hl
          intro hl
          refine lv_aload_n hx hb (g_42 bX3_readOne rfl) rfl (lv_at hl 4 rfl) ?_
          refine va_get (D := G) (ci := 2) (v := .int iY_99) (C := RX3) (T := TX3) (N := 7) hx hb hts iX_X3 hown hK hP 9 rfl rfl 5 (by decide +kernel) (hts _ m_t154) (fun _ h9 => h9) rfl (g_180 (v := 30) bX3_readOne rfl) ?_
          refine lv_iconst (v := (-1)) hx hb (g_2 bX3_readOne rfl) (by decide +kernel) ?_
          refine lv_icmp_ne (tgt := 114) hx hb dX3_readOne_98 (by decide +kernel) (fun c_101 => ?_) (fun c_101 => ?_)
          · exact endV (u := [zzO qa 2 [.ref qab, .int (nI kZ), .int (nI kX_96), .int (nI kY_97), .int iX_98, .int iY_99, .ref qd], zzB cy qab 250 fB, zzO qd 3 [.int (nI (T_nb tD)), .int (nI (T_np tD)), .int (wb (T_wh tD)), .int (wb (T_gn tD)), .int (T_sd tD), .ref qdw, .ref qdn, .ref qdg, .ref qda, .ref qdr, .ref qdm, .ref qdt, .ref qds], zzI cy qdw 8 (T_wo tD), zzI cy qdn 8 (T_ne tD), zzI cy qdg 8 (T_go tD), zzI cy qda 8 (T_ag tD), zzI cy qdr 8 (T_re tD), zzI cy qdm 8 (T_me tD), zzI cy qdt 8 (T_te tD), zzI cy qds 64 (shF (T_kn tD))]) hx hb hr hlocks (pSb hP [[false, false, false, false, false, false, false, false, false, true, true], [true, true, true, true, true, true, true, true, true]] rfl rfl) (dSb hD [[false, false, false, false, false, false, false, false, false, true, true], [true, true, true, true, true, true, true, true, true]] (by decide +kernel) rfl rfl) hS ⟨kX_96, kY_97, iX_98, iY_99, tD, rfl, ⟨by omega, by omega, by first | omega | (show T_nb tD + 1 ≤ 8; omega) | (show T_nb tD ≤ 8; omega), by first | omega | (show T_np tD + 1 ≤ 8; omega) | (show T_np tD ≤ 8; omega)⟩⟩ (g_177 bX3_readOne rfl)
          · refine lv_aload_n hx hb (g_42 bX3_readOne rfl) rfl (lv_at hl 4 rfl) ?_
            refine va_get (D := G) (ci := 2) (v := .ref qd) (C := RX3) (T := TX3) (N := 7) hx hb hts iX_X3 hown hK hP 9 rfl rfl 6 (by decide +kernel) (hts _ m_t156) (fun _ h9 => h9) rfl (g_180 (v := 18) bX3_readOne rfl) ?_
            refine lv_iload_n hx hb (g_27 bX3_readOne rfl) rfl (lv_at hl 3 rfl) ?_
            refine lv_iload_n hx hb (g_28 bX3_readOne rfl) rfl (lv_at hl 2 rfl) ?_
            refine lv_iload_n hx hb (g_29 bX3_readOne rfl) rfl (lv_at hl 1 rfl) ?_
            refine lv_iload hx hb (g_21 (v := 4) bX3_readOne rfl) (lv_at hl 0 rfl) ?_
            refine cVi (As := [.int r_9, .int 5, .int r_69, .int r_93]) (rest := []) (b := qd) (q := (RX4, TX4, 13)) ⟨hx, hb, hml, hown, hts⟩ (c_X4_addOne l G cy (H).size qd tD qdw qdn qdg qda qdr qdm qdt qds r_9 5 r_69 r_93 (by first | omega | (simp only [nb_sr, np_sr, nb_wr, np_wr, nb_rd, np_rd, nb_ch, np_ch, nb_zr, np_zr, nb_za, np_za, nb_ey, np_ey, nb_hf, np_hf, nb_dd, np_dd, nb_so, np_so, nb_skn, np_skn, nb_swh, np_swh, nb_sgn, np_sgn, nb_ssd, np_ssd, nb_sgo, np_sgo, nb_sag, np_sag]; omega))) L_X3_107 hN hP hD hS hA (trueIx 0 [true, true, true, true, true, true, true, true, true]) [false, false, false, false, false, false, false, false, false, true, true] (sel_eq rfl rfl) (by decide +kernel) rfl 0 3 rfl rfl rfl ⟨Nat.le_of_ble_eq_true rfl, Nat.le_of_ble_eq_true rfl⟩ hl.1 (Nat.le_of_ble_eq_true rfl) (g_182 (v := 107) bX3_readOne rfl) ⟨Nat.le_of_ble_eq_true rfl, Nat.le_of_ble_eq_true rfl⟩ (fun r_102 u_104 H locs h_103 => ?_)
            clear hP hD hS
            intro hP hD hS
            obtain ⟨hu9, h_103⟩ := h_103
            have hPD := pd_eq [_, _, zzO qd 3 [.int (nI (T_nb (zao tD r_9 5 r_69 r_93))), .int (nI (T_np (zao tD r_9 5 r_69 r_93))), .int (wb (T_wh (zao tD r_9 5 r_69 r_93))), .int (wb (T_gn (zao tD r_9 5 r_69 r_93))), .int (T_sd (zao tD r_9 5 r_69 r_93)), .ref qdw, .ref qdn, .ref qdg, .ref qda, .ref qdr, .ref qdm, .ref qdt, .ref qds], zzI cy qdw 8 (T_wo (zao tD r_9 5 r_69 r_93)), zzI cy qdn 8 (T_ne (zao tD r_9 5 r_69 r_93)), zzI cy qdg 8 (T_go (zao tD r_9 5 r_69 r_93)), zzI cy qda 8 (T_ag (zao tD r_9 5 r_69 r_93)), zzI cy qdr 8 (T_re (zao tD r_9 5 r_69 r_93)), zzI cy qdm 8 (T_me (zao tD r_9 5 r_69 r_93)), zzI cy qdt 8 (T_te (zao tD r_9 5 r_69 r_93)), zzI cy qds 64 (shF (T_kn (zao tD r_9 5 r_69 r_93)))] hP hD hu9 rfl
            clear hP hD hu9
            obtain ⟨hP, hD⟩ := hPD
            subst h_103
            refine lv_pop hx hb (g_87 bX3_readOne rfl) rfl ?_
            exact endV (u := [zzO qa 2 [.ref qab, .int (nI kZ), .int (nI kX_96), .int (nI kY_97), .int iX_98, .int iY_99, .ref qd], zzB cy qab 250 fB, zzO qd 3 [.int (nI (T_nb (zao tD r_9 5 r_69 r_93))), .int (nI (T_np (zao tD r_9 5 r_69 r_93))), .int (wb (T_wh (zao tD r_9 5 r_69 r_93))), .int (wb (T_gn (zao tD r_9 5 r_69 r_93))), .int (T_sd (zao tD r_9 5 r_69 r_93)), .ref qdw, .ref qdn, .ref qdg, .ref qda, .ref qdr, .ref qdm, .ref qdt, .ref qds], zzI cy qdw 8 (T_wo (zao tD r_9 5 r_69 r_93)), zzI cy qdn 8 (T_ne (zao tD r_9 5 r_69 r_93)), zzI cy qdg 8 (T_go (zao tD r_9 5 r_69 r_93)), zzI cy qda 8 (T_ag (zao tD r_9 5 r_69 r_93)), zzI cy qdr 8 (T_re (zao tD r_9 5 r_69 r_93)), zzI cy qdm 8 (T_me (zao tD r_9 5 r_69 r_93)), zzI cy qdt 8 (T_te (zao tD r_9 5 r_69 r_93)), zzI cy qds 64 (shF (T_kn (zao tD r_9 5 r_69 r_93)))]) hx hb hr hlocks (pSb hP [[true, true, true, true, true, true, true, true, true, true, true]] rfl rfl) (dSb hD [[true, true, true, true, true, true, true, true, true, true, true]] (by decide +kernel) rfl rfl) hS ⟨kX_96, kY_97, iX_98, iY_99, (zao tD r_9 5 r_69 r_93), rfl, ⟨by omega, by omega, by first | omega | (show T_nb tD + 1 ≤ 8; omega) | (show T_nb tD ≤ 8; omega), by first | omega | (show T_np tD + 1 ≤ 8; omega) | (show T_np tD ≤ 8; omega)⟩⟩ (g_177 bX3_readOne rfl)
    · refine lv_aload_n hx hb (g_42 bX3_readOne rfl) rfl (lv_at hl 1 rfl) ?_
      refine lv_iconst (v := 0) hx hb (g_3 bX3_readOne rfl) (by decide +kernel) ?_
      refine lv_bipush (v := 10) hx hb dX3_readOne_40 (by decide +kernel) ?_
      refine cVi (As := [.int 0, .int 10]) (rest := []) (b := qa) (q := (RX3, TX3, 7)) ⟨hx, hb, hml, hown, hts⟩ (c_X3_takeNumber l G cy (H).size qa qab kZ kX_24 kY_25 iX_26 iY_15 qd fB 0 10 hZ (by first | omega | (simp only [nb_sr, np_sr, nb_wr, np_wr, nb_rd, np_rd, nb_ch, np_ch, nb_zr, np_zr, nb_za, np_za, nb_ey, np_ey, nb_hf, np_hf, nb_dd, np_dd, nb_so, np_so, nb_skn, np_skn, nb_swh, np_swh, nb_sgn, np_sgn, nb_ssd, np_ssd, nb_sgo, np_sgo, nb_sag, np_sag]; omega))) L_X3_80 hN hP hD hS hA [9, 10] [true, true, true, true, true, true, true, true, true, false, false] rfl (by decide +kernel) rfl 9 2 rfl rfl rfl ⟨Nat.le_of_ble_eq_true rfl, Nat.le_of_ble_eq_true rfl⟩ hl.1 (Nat.le_of_ble_eq_true rfl) (g_182 (v := 80) bX3_readOne rfl) ⟨Nat.le_of_ble_eq_true rfl, Nat.le_of_ble_eq_true rfl⟩ (fun r_105 u_107 H locs h_106 => ?_)
      clear hP hD hS
      intro hP hD hS
      obtain ⟨kX_108, kY_109, iX_110, iY_111, hu9, h_112, h_106⟩ := h_106
      have hPD := pd_eq [_, _, _, _, _, _, _, _, _, zzO qa 2 [.ref qab, .int (nI kZ), .int (nI kX_108), .int (nI kY_109), .int iX_110, .int iY_111, .ref qd], _] hP hD hu9 rfl
      clear hP hD hu9
      obtain ⟨hP, hD⟩ := hPD
      refine lv_goto (tgt := 49) hx hb dX3_readOne_45 (by decide +kernel) ?_
      refine lv_istore_n (lv' := [(2, .int r_105), (1, .int r_9), (0, .ref qa)]) hx hb (g_61 bX3_readOne rfl) rfl hl (by decide +kernel) rfl (fun ls => ?_)
      clear hl
      intro hl
      refine lv_aload_n hx hb (g_42 bX3_readOne rfl) rfl (lv_at hl 2 rfl) ?_
      obtain ⟨qs_113, qv_115, hs_114, hf_116⟩ := hX (RX3, 103, "keeps", [107, 101, 101, 112, 115]) (List.mem_of_getElem? (i := 5) rfl)
      refine va_ldcS hx hb hown hs_114 (g_18 (v := 103) bX3_readOne rfl) ?_
      refine cVXi (As := [.ref qs_113]) (rest := []) (b := qa) (q := (RX3, TX3, 7)) ⟨hx, hb, hml, hown, hts⟩ (c_X3_passes l G cy (H).size qa qab kZ kX_108 kY_109 iX_110 iY_111 qd fB qs_113 ([107, 101, 101, 112, 115]) qv_115 hZ (by first | omega | (simp only [nb_sr, np_sr, nb_wr, np_wr, nb_rd, np_rd, nb_ch, np_ch, nb_zr, np_zr, nb_za, np_za, nb_ey, np_ey, nb_hf, np_hf, nb_dd, np_dd, nb_so, np_so, nb_skn, np_skn, nb_swh, np_swh, nb_sgn, np_sgn, nb_ssd, np_ssd, nb_sgo, np_sgo, nb_sag, np_sag]; omega)) (by decide +kernel) as_keeps) L_X3_86 hN hP hD hS hA [9, 10] [true, true, true, true, true, true, true, true, true, false, false] rfl (by decide +kernel) rfl 9 2 rfl rfl SF_ok hf_116 rfl ⟨Nat.le_of_ble_eq_true rfl, Nat.le_of_ble_eq_true rfl⟩ hl.1 (Nat.le_of_ble_eq_true rfl) (g_182 (v := 86) bX3_readOne rfl) ⟨Nat.le_of_ble_eq_true rfl, Nat.le_of_ble_eq_true rfl⟩ (fun r_117 u_119 H locs h_118 => ?_)
      clear hP hD hS
      intro hP hD hS
      obtain ⟨kX_120, kY_121, iX_122, hu9, h_123, h_118⟩ := h_118
      have hPD := pd_eq [_, _, _, _, _, _, _, _, _, zzO qa 2 [.ref qab, .int (nI kZ), .int (nI kX_120), .int (nI kY_121), .int iX_122, .int iY_111, .ref qd], _] hP hD hu9 rfl
      clear hP hD hu9
      obtain ⟨hP, hD⟩ := hPD
      refine lv_if_eq (tgt := 69) hx hb dX3_readOne_56 (by decide +kernel) (fun c_124 => ?_) (fun c_124 => ?_)
      · refine lv_iconst (v := 5) hx hb (g_8 bX3_readOne rfl) (by decide +kernel) ?_
        refine lv_istore_n (lv' := [(3, .int 5), (2, .int r_105), (1, .int r_9), (0, .ref qa)]) hx hb (g_62 bX3_readOne rfl) rfl hl (by decide +kernel) rfl (fun ls => ?_)
        clear hl
        intro hl
        refine lv_aload_n hx hb (g_42 bX3_readOne rfl) rfl (lv_at hl 3 rfl) ?_
        obtain ⟨qs_125, qv_127, hs_126, hf_128⟩ := hX (RX3, 105, "tells", [116, 101, 108, 108, 115]) (List.mem_of_getElem? (i := 6) rfl)
        refine va_ldcS hx hb hown hs_126 (g_18 (v := 105) bX3_readOne rfl) ?_
        refine cVXi (As := [.ref qs_125]) (rest := []) (b := qa) (q := (RX3, TX3, 7)) ⟨hx, hb, hml, hown, hts⟩ (c_X3_passes l G cy (H).size qa qab kZ kX_120 kY_121 iX_122 iY_111 qd fB qs_125 ([116, 101, 108, 108, 115]) qv_127 hZ (by first | omega | (simp only [nb_sr, np_sr, nb_wr, np_wr, nb_rd, np_rd, nb_ch, np_ch, nb_zr, np_zr, nb_za, np_za, nb_ey, np_ey, nb_hf, np_hf, nb_dd, np_dd, nb_so, np_so, nb_skn, np_skn, nb_swh, np_swh, nb_sgn, np_sgn, nb_ssd, np_ssd, nb_sgo, np_sgo, nb_sag, np_sag]; omega)) (by decide +kernel) as_tells) L_X3_86 hN hP hD hS hA [9, 10] [true, true, true, true, true, true, true, true, true, false, false] rfl (by decide +kernel) rfl 9 2 rfl rfl SF_ok hf_128 rfl ⟨Nat.le_of_ble_eq_true rfl, Nat.le_of_ble_eq_true rfl⟩ hl.1 (Nat.le_of_ble_eq_true rfl) (g_182 (v := 86) bX3_readOne rfl) ⟨Nat.le_of_ble_eq_true rfl, Nat.le_of_ble_eq_true rfl⟩ (fun r_129 u_131 H locs h_130 => ?_)
        clear hP hD hS
        intro hP hD hS
        obtain ⟨kX_132, kY_133, iX_134, hu9, h_135, h_130⟩ := h_130
        have hPD := pd_eq [_, _, _, _, _, _, _, _, _, zzO qa 2 [.ref qab, .int (nI kZ), .int (nI kX_132), .int (nI kY_133), .int iX_134, .int iY_111, .ref qd], _] hP hD hu9 rfl
        clear hP hD hu9
        obtain ⟨hP, hD⟩ := hPD
        refine lv_if_eq (tgt := 90) hx hb dX3_readOne_77 (by decide +kernel) (fun c_136 => ?_) (fun c_136 => ?_)
        · refine lv_iconst (v := 5) hx hb (g_8 bX3_readOne rfl) (by decide +kernel) ?_
          refine lv_istore (lv' := [(4, .int 5), (3, .int 5), (2, .int r_105), (1, .int r_9), (0, .ref qa)]) hx hb (g_54 (v := 4) bX3_readOne rfl) hl (by decide +kernel) rfl (fun ls => ?_)
          clear hl
          intro hl
          refine lv_aload_n hx hb (g_42 bX3_readOne rfl) rfl (lv_at hl 4 rfl) ?_
          refine va_get (D := G) (ci := 2) (v := .int iY_111) (C := RX3) (T := TX3) (N := 7) hx hb hts iX_X3 hown hK hP 9 rfl rfl 5 (by decide +kernel) (hts _ m_t154) (fun _ h9 => h9) rfl (g_180 (v := 30) bX3_readOne rfl) ?_
          refine lv_iconst (v := (-1)) hx hb (g_2 bX3_readOne rfl) (by decide +kernel) ?_
          refine lv_icmp_ne (tgt := 114) hx hb dX3_readOne_98 (by decide +kernel) (fun c_137 => ?_) (fun c_137 => ?_)
          · exact endV (u := [zzO qa 2 [.ref qab, .int (nI kZ), .int (nI kX_132), .int (nI kY_133), .int iX_134, .int iY_111, .ref qd], zzB cy qab 250 fB, zzO qd 3 [.int (nI (T_nb tD)), .int (nI (T_np tD)), .int (wb (T_wh tD)), .int (wb (T_gn tD)), .int (T_sd tD), .ref qdw, .ref qdn, .ref qdg, .ref qda, .ref qdr, .ref qdm, .ref qdt, .ref qds], zzI cy qdw 8 (T_wo tD), zzI cy qdn 8 (T_ne tD), zzI cy qdg 8 (T_go tD), zzI cy qda 8 (T_ag tD), zzI cy qdr 8 (T_re tD), zzI cy qdm 8 (T_me tD), zzI cy qdt 8 (T_te tD), zzI cy qds 64 (shF (T_kn tD))]) hx hb hr hlocks (pSb hP [[false, false, false, false, false, false, false, false, false, true, true], [true, true, true, true, true, true, true, true, true]] rfl rfl) (dSb hD [[false, false, false, false, false, false, false, false, false, true, true], [true, true, true, true, true, true, true, true, true]] (by decide +kernel) rfl rfl) hS ⟨kX_132, kY_133, iX_134, iY_111, tD, rfl, ⟨by omega, by omega, by first | omega | (show T_nb tD + 1 ≤ 8; omega) | (show T_nb tD ≤ 8; omega), by first | omega | (show T_np tD + 1 ≤ 8; omega) | (show T_np tD ≤ 8; omega)⟩⟩ (g_177 bX3_readOne rfl)
          · refine lv_aload_n hx hb (g_42 bX3_readOne rfl) rfl (lv_at hl 4 rfl) ?_
            refine va_get (D := G) (ci := 2) (v := .ref qd) (C := RX3) (T := TX3) (N := 7) hx hb hts iX_X3 hown hK hP 9 rfl rfl 6 (by decide +kernel) (hts _ m_t156) (fun _ h9 => h9) rfl (g_180 (v := 18) bX3_readOne rfl) ?_
            refine lv_iload_n hx hb (g_27 bX3_readOne rfl) rfl (lv_at hl 3 rfl) ?_
            refine lv_iload_n hx hb (g_28 bX3_readOne rfl) rfl (lv_at hl 2 rfl) ?_
            refine lv_iload_n hx hb (g_29 bX3_readOne rfl) rfl (lv_at hl 1 rfl) ?_
            refine lv_iload hx hb (g_21 (v := 4) bX3_readOne rfl) (lv_at hl 0 rfl) ?_
            refine cVi (As := [.int r_9, .int r_105, .int 5, .int 5]) (rest := []) (b := qd) (q := (RX4, TX4, 13)) ⟨hx, hb, hml, hown, hts⟩ (c_X4_addOne l G cy (H).size qd tD qdw qdn qdg qda qdr qdm qdt qds r_9 r_105 5 5 (by first | omega | (simp only [nb_sr, np_sr, nb_wr, np_wr, nb_rd, np_rd, nb_ch, np_ch, nb_zr, np_zr, nb_za, np_za, nb_ey, np_ey, nb_hf, np_hf, nb_dd, np_dd, nb_so, np_so, nb_skn, np_skn, nb_swh, np_swh, nb_sgn, np_sgn, nb_ssd, np_ssd, nb_sgo, np_sgo, nb_sag, np_sag]; omega))) L_X3_107 hN hP hD hS hA (trueIx 0 [true, true, true, true, true, true, true, true, true]) [false, false, false, false, false, false, false, false, false, true, true] (sel_eq rfl rfl) (by decide +kernel) rfl 0 3 rfl rfl rfl ⟨Nat.le_of_ble_eq_true rfl, Nat.le_of_ble_eq_true rfl⟩ hl.1 (Nat.le_of_ble_eq_true rfl) (g_182 (v := 107) bX3_readOne rfl) ⟨Nat.le_of_ble_eq_true rfl, Nat.le_of_ble_eq_true rfl⟩ (fun r_138 u_140 H locs h_139 => ?_)
            clear hP hD hS
            intro hP hD hS
            obtain ⟨hu9, h_139⟩ := h_139
            have hPD := pd_eq [_, _, zzO qd 3 [.int (nI (T_nb (zao tD r_9 r_105 5 5))), .int (nI (T_np (zao tD r_9 r_105 5 5))), .int (wb (T_wh (zao tD r_9 r_105 5 5))), .int (wb (T_gn (zao tD r_9 r_105 5 5))), .int (T_sd (zao tD r_9 r_105 5 5)), .ref qdw, .ref qdn, .ref qdg, .ref qda, .ref qdr, .ref qdm, .ref qdt, .ref qds], zzI cy qdw 8 (T_wo (zao tD r_9 r_105 5 5)), zzI cy qdn 8 (T_ne (zao tD r_9 r_105 5 5)), zzI cy qdg 8 (T_go (zao tD r_9 r_105 5 5)), zzI cy qda 8 (T_ag (zao tD r_9 r_105 5 5)), zzI cy qdr 8 (T_re (zao tD r_9 r_105 5 5)), zzI cy qdm 8 (T_me (zao tD r_9 r_105 5 5)), zzI cy qdt 8 (T_te (zao tD r_9 r_105 5 5)), zzI cy qds 64 (shF (T_kn (zao tD r_9 r_105 5 5)))] hP hD hu9 rfl
            clear hP hD hu9
            obtain ⟨hP, hD⟩ := hPD
            subst h_139
            refine lv_pop hx hb (g_87 bX3_readOne rfl) rfl ?_
            exact endV (u := [zzO qa 2 [.ref qab, .int (nI kZ), .int (nI kX_132), .int (nI kY_133), .int iX_134, .int iY_111, .ref qd], zzB cy qab 250 fB, zzO qd 3 [.int (nI (T_nb (zao tD r_9 r_105 5 5))), .int (nI (T_np (zao tD r_9 r_105 5 5))), .int (wb (T_wh (zao tD r_9 r_105 5 5))), .int (wb (T_gn (zao tD r_9 r_105 5 5))), .int (T_sd (zao tD r_9 r_105 5 5)), .ref qdw, .ref qdn, .ref qdg, .ref qda, .ref qdr, .ref qdm, .ref qdt, .ref qds], zzI cy qdw 8 (T_wo (zao tD r_9 r_105 5 5)), zzI cy qdn 8 (T_ne (zao tD r_9 r_105 5 5)), zzI cy qdg 8 (T_go (zao tD r_9 r_105 5 5)), zzI cy qda 8 (T_ag (zao tD r_9 r_105 5 5)), zzI cy qdr 8 (T_re (zao tD r_9 r_105 5 5)), zzI cy qdm 8 (T_me (zao tD r_9 r_105 5 5)), zzI cy qdt 8 (T_te (zao tD r_9 r_105 5 5)), zzI cy qds 64 (shF (T_kn (zao tD r_9 r_105 5 5)))]) hx hb hr hlocks (pSb hP [[true, true, true, true, true, true, true, true, true, true, true]] rfl rfl) (dSb hD [[true, true, true, true, true, true, true, true, true, true, true]] (by decide +kernel) rfl rfl) hS ⟨kX_132, kY_133, iX_134, iY_111, (zao tD r_9 r_105 5 5), rfl, ⟨by omega, by omega, by first | omega | (show T_nb tD + 1 ≤ 8; omega) | (show T_nb tD ≤ 8; omega), by first | omega | (show T_np tD + 1 ≤ 8; omega) | (show T_np tD ≤ 8; omega)⟩⟩ (g_177 bX3_readOne rfl)
        · refine lv_aload_n hx hb (g_42 bX3_readOne rfl) rfl (lv_at hl 3 rfl) ?_
          refine lv_iconst (v := 0) hx hb (g_3 bX3_readOne rfl) (by decide +kernel) ?_
          refine lv_bipush (v := 10) hx hb dX3_readOne_82 (by decide +kernel) ?_
          refine cVi (As := [.int 0, .int 10]) (rest := []) (b := qa) (q := (RX3, TX3, 7)) ⟨hx, hb, hml, hown, hts⟩ (c_X3_takeNumber l G cy (H).size qa qab kZ kX_132 kY_133 iX_134 iY_111 qd fB 0 10 hZ (by first | omega | (simp only [nb_sr, np_sr, nb_wr, np_wr, nb_rd, np_rd, nb_ch, np_ch, nb_zr, np_zr, nb_za, np_za, nb_ey, np_ey, nb_hf, np_hf, nb_dd, np_dd, nb_so, np_so, nb_skn, np_skn, nb_swh, np_swh, nb_sgn, np_sgn, nb_ssd, np_ssd, nb_sgo, np_sgo, nb_sag, np_sag]; omega))) L_X3_80 hN hP hD hS hA [9, 10] [true, true, true, true, true, true, true, true, true, false, false] rfl (by decide +kernel) rfl 9 2 rfl rfl rfl ⟨Nat.le_of_ble_eq_true rfl, Nat.le_of_ble_eq_true rfl⟩ hl.1 (Nat.le_of_ble_eq_true rfl) (g_182 (v := 80) bX3_readOne rfl) ⟨Nat.le_of_ble_eq_true rfl, Nat.le_of_ble_eq_true rfl⟩ (fun r_141 u_143 H locs h_142 => ?_)
          clear hP hD hS
          intro hP hD hS
          obtain ⟨kX_144, kY_145, iX_146, iY_147, hu9, h_148, h_142⟩ := h_142
          have hPD := pd_eq [_, _, _, _, _, _, _, _, _, zzO qa 2 [.ref qab, .int (nI kZ), .int (nI kX_144), .int (nI kY_145), .int iX_146, .int iY_147, .ref qd], _] hP hD hu9 rfl
          clear hP hD hu9
          obtain ⟨hP, hD⟩ := hPD
          refine lv_goto (tgt := 91) hx hb dX3_readOne_87 (by decide +kernel) ?_
          refine lv_istore (lv' := [(4, .int r_141), (3, .int 5), (2, .int r_105), (1, .int r_9), (0, .ref qa)]) hx hb (g_54 (v := 4) bX3_readOne rfl) hl (by decide +kernel) rfl (fun ls => ?_)
          clear hl
          intro hl
          refine lv_aload_n hx hb (g_42 bX3_readOne rfl) rfl (lv_at hl 4 rfl) ?_
          refine va_get (D := G) (ci := 2) (v := .int iY_147) (C := RX3) (T := TX3) (N := 7) hx hb hts iX_X3 hown hK hP 9 rfl rfl 5 (by decide +kernel) (hts _ m_t154) (fun _ h9 => h9) rfl (g_180 (v := 30) bX3_readOne rfl) ?_
          refine lv_iconst (v := (-1)) hx hb (g_2 bX3_readOne rfl) (by decide +kernel) ?_
          refine lv_icmp_ne (tgt := 114) hx hb dX3_readOne_98 (by decide +kernel) (fun c_149 => ?_) (fun c_149 => ?_)
          · exact endV (u := [zzO qa 2 [.ref qab, .int (nI kZ), .int (nI kX_144), .int (nI kY_145), .int iX_146, .int iY_147, .ref qd], zzB cy qab 250 fB, zzO qd 3 [.int (nI (T_nb tD)), .int (nI (T_np tD)), .int (wb (T_wh tD)), .int (wb (T_gn tD)), .int (T_sd tD), .ref qdw, .ref qdn, .ref qdg, .ref qda, .ref qdr, .ref qdm, .ref qdt, .ref qds], zzI cy qdw 8 (T_wo tD), zzI cy qdn 8 (T_ne tD), zzI cy qdg 8 (T_go tD), zzI cy qda 8 (T_ag tD), zzI cy qdr 8 (T_re tD), zzI cy qdm 8 (T_me tD), zzI cy qdt 8 (T_te tD), zzI cy qds 64 (shF (T_kn tD))]) hx hb hr hlocks (pSb hP [[false, false, false, false, false, false, false, false, false, true, true], [true, true, true, true, true, true, true, true, true]] rfl rfl) (dSb hD [[false, false, false, false, false, false, false, false, false, true, true], [true, true, true, true, true, true, true, true, true]] (by decide +kernel) rfl rfl) hS ⟨kX_144, kY_145, iX_146, iY_147, tD, rfl, ⟨by omega, by omega, by first | omega | (show T_nb tD + 1 ≤ 8; omega) | (show T_nb tD ≤ 8; omega), by first | omega | (show T_np tD + 1 ≤ 8; omega) | (show T_np tD ≤ 8; omega)⟩⟩ (g_177 bX3_readOne rfl)
          · refine lv_aload_n hx hb (g_42 bX3_readOne rfl) rfl (lv_at hl 4 rfl) ?_
            refine va_get (D := G) (ci := 2) (v := .ref qd) (C := RX3) (T := TX3) (N := 7) hx hb hts iX_X3 hown hK hP 9 rfl rfl 6 (by decide +kernel) (hts _ m_t156) (fun _ h9 => h9) rfl (g_180 (v := 18) bX3_readOne rfl) ?_
            refine lv_iload_n hx hb (g_27 bX3_readOne rfl) rfl (lv_at hl 3 rfl) ?_
            refine lv_iload_n hx hb (g_28 bX3_readOne rfl) rfl (lv_at hl 2 rfl) ?_
            refine lv_iload_n hx hb (g_29 bX3_readOne rfl) rfl (lv_at hl 1 rfl) ?_
            refine lv_iload hx hb (g_21 (v := 4) bX3_readOne rfl) (lv_at hl 0 rfl) ?_
            refine cVi (As := [.int r_9, .int r_105, .int 5, .int r_141]) (rest := []) (b := qd) (q := (RX4, TX4, 13)) ⟨hx, hb, hml, hown, hts⟩ (c_X4_addOne l G cy (H).size qd tD qdw qdn qdg qda qdr qdm qdt qds r_9 r_105 5 r_141 (by first | omega | (simp only [nb_sr, np_sr, nb_wr, np_wr, nb_rd, np_rd, nb_ch, np_ch, nb_zr, np_zr, nb_za, np_za, nb_ey, np_ey, nb_hf, np_hf, nb_dd, np_dd, nb_so, np_so, nb_skn, np_skn, nb_swh, np_swh, nb_sgn, np_sgn, nb_ssd, np_ssd, nb_sgo, np_sgo, nb_sag, np_sag]; omega))) L_X3_107 hN hP hD hS hA (trueIx 0 [true, true, true, true, true, true, true, true, true]) [false, false, false, false, false, false, false, false, false, true, true] (sel_eq rfl rfl) (by decide +kernel) rfl 0 3 rfl rfl rfl ⟨Nat.le_of_ble_eq_true rfl, Nat.le_of_ble_eq_true rfl⟩ hl.1 (Nat.le_of_ble_eq_true rfl) (g_182 (v := 107) bX3_readOne rfl) ⟨Nat.le_of_ble_eq_true rfl, Nat.le_of_ble_eq_true rfl⟩ (fun r_150 u_152 H locs h_151 => ?_)
            clear hP hD hS
            intro hP hD hS
            obtain ⟨hu9, h_151⟩ := h_151
            have hPD := pd_eq [_, _, zzO qd 3 [.int (nI (T_nb (zao tD r_9 r_105 5 r_141))), .int (nI (T_np (zao tD r_9 r_105 5 r_141))), .int (wb (T_wh (zao tD r_9 r_105 5 r_141))), .int (wb (T_gn (zao tD r_9 r_105 5 r_141))), .int (T_sd (zao tD r_9 r_105 5 r_141)), .ref qdw, .ref qdn, .ref qdg, .ref qda, .ref qdr, .ref qdm, .ref qdt, .ref qds], zzI cy qdw 8 (T_wo (zao tD r_9 r_105 5 r_141)), zzI cy qdn 8 (T_ne (zao tD r_9 r_105 5 r_141)), zzI cy qdg 8 (T_go (zao tD r_9 r_105 5 r_141)), zzI cy qda 8 (T_ag (zao tD r_9 r_105 5 r_141)), zzI cy qdr 8 (T_re (zao tD r_9 r_105 5 r_141)), zzI cy qdm 8 (T_me (zao tD r_9 r_105 5 r_141)), zzI cy qdt 8 (T_te (zao tD r_9 r_105 5 r_141)), zzI cy qds 64 (shF (T_kn (zao tD r_9 r_105 5 r_141)))] hP hD hu9 rfl
            clear hP hD hu9
            obtain ⟨hP, hD⟩ := hPD
            subst h_151
            refine lv_pop hx hb (g_87 bX3_readOne rfl) rfl ?_
            exact endV (u := [zzO qa 2 [.ref qab, .int (nI kZ), .int (nI kX_144), .int (nI kY_145), .int iX_146, .int iY_147, .ref qd], zzB cy qab 250 fB, zzO qd 3 [.int (nI (T_nb (zao tD r_9 r_105 5 r_141))), .int (nI (T_np (zao tD r_9 r_105 5 r_141))), .int (wb (T_wh (zao tD r_9 r_105 5 r_141))), .int (wb (T_gn (zao tD r_9 r_105 5 r_141))), .int (T_sd (zao tD r_9 r_105 5 r_141)), .ref qdw, .ref qdn, .ref qdg, .ref qda, .ref qdr, .ref qdm, .ref qdt, .ref qds], zzI cy qdw 8 (T_wo (zao tD r_9 r_105 5 r_141)), zzI cy qdn 8 (T_ne (zao tD r_9 r_105 5 r_141)), zzI cy qdg 8 (T_go (zao tD r_9 r_105 5 r_141)), zzI cy qda 8 (T_ag (zao tD r_9 r_105 5 r_141)), zzI cy qdr 8 (T_re (zao tD r_9 r_105 5 r_141)), zzI cy qdm 8 (T_me (zao tD r_9 r_105 5 r_141)), zzI cy qdt 8 (T_te (zao tD r_9 r_105 5 r_141)), zzI cy qds 64 (shF (T_kn (zao tD r_9 r_105 5 r_141)))]) hx hb hr hlocks (pSb hP [[true, true, true, true, true, true, true, true, true, true, true]] rfl rfl) (dSb hD [[true, true, true, true, true, true, true, true, true, true, true]] (by decide +kernel) rfl rfl) hS ⟨kX_144, kY_145, iX_146, iY_147, (zao tD r_9 r_105 5 r_141), rfl, ⟨by omega, by omega, by first | omega | (show T_nb tD + 1 ≤ 8; omega) | (show T_nb tD ≤ 8; omega), by first | omega | (show T_np tD + 1 ≤ 8; omega) | (show T_np tD ≤ 8; omega)⟩⟩ (g_177 bX3_readOne rfl)
      · refine lv_aload_n hx hb (g_42 bX3_readOne rfl) rfl (lv_at hl 2 rfl) ?_
        refine lv_iconst (v := 0) hx hb (g_3 bX3_readOne rfl) (by decide +kernel) ?_
        refine lv_bipush (v := 10) hx hb dX3_readOne_61 (by decide +kernel) ?_
        refine cVi (As := [.int 0, .int 10]) (rest := []) (b := qa) (q := (RX3, TX3, 7)) ⟨hx, hb, hml, hown, hts⟩ (c_X3_takeNumber l G cy (H).size qa qab kZ kX_120 kY_121 iX_122 iY_111 qd fB 0 10 hZ (by first | omega | (simp only [nb_sr, np_sr, nb_wr, np_wr, nb_rd, np_rd, nb_ch, np_ch, nb_zr, np_zr, nb_za, np_za, nb_ey, np_ey, nb_hf, np_hf, nb_dd, np_dd, nb_so, np_so, nb_skn, np_skn, nb_swh, np_swh, nb_sgn, np_sgn, nb_ssd, np_ssd, nb_sgo, np_sgo, nb_sag, np_sag]; omega))) L_X3_80 hN hP hD hS hA [9, 10] [true, true, true, true, true, true, true, true, true, false, false] rfl (by decide +kernel) rfl 9 2 rfl rfl rfl ⟨Nat.le_of_ble_eq_true rfl, Nat.le_of_ble_eq_true rfl⟩ hl.1 (Nat.le_of_ble_eq_true rfl) (g_182 (v := 80) bX3_readOne rfl) ⟨Nat.le_of_ble_eq_true rfl, Nat.le_of_ble_eq_true rfl⟩ (fun r_153 u_155 H locs h_154 => ?_)
        clear hP hD hS
        intro hP hD hS
        obtain ⟨kX_156, kY_157, iX_158, iY_159, hu9, h_160, h_154⟩ := h_154
        have hPD := pd_eq [_, _, _, _, _, _, _, _, _, zzO qa 2 [.ref qab, .int (nI kZ), .int (nI kX_156), .int (nI kY_157), .int iX_158, .int iY_159, .ref qd], _] hP hD hu9 rfl
        clear hP hD hu9
        obtain ⟨hP, hD⟩ := hPD
        refine lv_goto (tgt := 70) hx hb dX3_readOne_66 (by decide +kernel) ?_
        refine lv_istore_n (lv' := [(3, .int r_153), (2, .int r_105), (1, .int r_9), (0, .ref qa)]) hx hb (g_62 bX3_readOne rfl) rfl hl (by decide +kernel) rfl (fun ls => ?_)
        clear hl
        intro hl
        refine lv_aload_n hx hb (g_42 bX3_readOne rfl) rfl (lv_at hl 3 rfl) ?_
        obtain ⟨qs_161, qv_163, hs_162, hf_164⟩ := hX (RX3, 105, "tells", [116, 101, 108, 108, 115]) (List.mem_of_getElem? (i := 6) rfl)
        refine va_ldcS hx hb hown hs_162 (g_18 (v := 105) bX3_readOne rfl) ?_
        refine cVXi (As := [.ref qs_161]) (rest := []) (b := qa) (q := (RX3, TX3, 7)) ⟨hx, hb, hml, hown, hts⟩ (c_X3_passes l G cy (H).size qa qab kZ kX_156 kY_157 iX_158 iY_159 qd fB qs_161 ([116, 101, 108, 108, 115]) qv_163 hZ (by first | omega | (simp only [nb_sr, np_sr, nb_wr, np_wr, nb_rd, np_rd, nb_ch, np_ch, nb_zr, np_zr, nb_za, np_za, nb_ey, np_ey, nb_hf, np_hf, nb_dd, np_dd, nb_so, np_so, nb_skn, np_skn, nb_swh, np_swh, nb_sgn, np_sgn, nb_ssd, np_ssd, nb_sgo, np_sgo, nb_sag, np_sag]; omega)) (by decide +kernel) as_tells) L_X3_86 hN hP hD hS hA [9, 10] [true, true, true, true, true, true, true, true, true, false, false] rfl (by decide +kernel) rfl 9 2 rfl rfl SF_ok hf_164 rfl ⟨Nat.le_of_ble_eq_true rfl, Nat.le_of_ble_eq_true rfl⟩ hl.1 (Nat.le_of_ble_eq_true rfl) (g_182 (v := 86) bX3_readOne rfl) ⟨Nat.le_of_ble_eq_true rfl, Nat.le_of_ble_eq_true rfl⟩ (fun r_165 u_167 H locs h_166 => ?_)
        clear hP hD hS
        intro hP hD hS
        obtain ⟨kX_168, kY_169, iX_170, hu9, h_171, h_166⟩ := h_166
        have hPD := pd_eq [_, _, _, _, _, _, _, _, _, zzO qa 2 [.ref qab, .int (nI kZ), .int (nI kX_168), .int (nI kY_169), .int iX_170, .int iY_159, .ref qd], _] hP hD hu9 rfl
        clear hP hD hu9
        obtain ⟨hP, hD⟩ := hPD
        refine lv_if_eq (tgt := 90) hx hb dX3_readOne_77 (by decide +kernel) (fun c_172 => ?_) (fun c_172 => ?_)
        · refine lv_iconst (v := 5) hx hb (g_8 bX3_readOne rfl) (by decide +kernel) ?_
          refine lv_istore (lv' := [(4, .int 5), (3, .int r_153), (2, .int r_105), (1, .int r_9), (0, .ref qa)]) hx hb (g_54 (v := 4) bX3_readOne rfl) hl (by decide +kernel) rfl (fun ls => ?_)
          clear hl
          intro hl
          refine lv_aload_n hx hb (g_42 bX3_readOne rfl) rfl (lv_at hl 4 rfl) ?_
          refine va_get (D := G) (ci := 2) (v := .int iY_159) (C := RX3) (T := TX3) (N := 7) hx hb hts iX_X3 hown hK hP 9 rfl rfl 5 (by decide +kernel) (hts _ m_t154) (fun _ h9 => h9) rfl (g_180 (v := 30) bX3_readOne rfl) ?_
          refine lv_iconst (v := (-1)) hx hb (g_2 bX3_readOne rfl) (by decide +kernel) ?_
          refine lv_icmp_ne (tgt := 114) hx hb dX3_readOne_98 (by decide +kernel) (fun c_173 => ?_) (fun c_173 => ?_)
          · exact endV (u := [zzO qa 2 [.ref qab, .int (nI kZ), .int (nI kX_168), .int (nI kY_169), .int iX_170, .int iY_159, .ref qd], zzB cy qab 250 fB, zzO qd 3 [.int (nI (T_nb tD)), .int (nI (T_np tD)), .int (wb (T_wh tD)), .int (wb (T_gn tD)), .int (T_sd tD), .ref qdw, .ref qdn, .ref qdg, .ref qda, .ref qdr, .ref qdm, .ref qdt, .ref qds], zzI cy qdw 8 (T_wo tD), zzI cy qdn 8 (T_ne tD), zzI cy qdg 8 (T_go tD), zzI cy qda 8 (T_ag tD), zzI cy qdr 8 (T_re tD), zzI cy qdm 8 (T_me tD), zzI cy qdt 8 (T_te tD), zzI cy qds 64 (shF (T_kn tD))]) hx hb hr hlocks (pSb hP [[false, false, false, false, false, false, false, false, false, true, true], [true, true, true, true, true, true, true, true, true]] rfl rfl) (dSb hD [[false, false, false, false, false, false, false, false, false, true, true], [true, true, true, true, true, true, true, true, true]] (by decide +kernel) rfl rfl) hS ⟨kX_168, kY_169, iX_170, iY_159, tD, rfl, ⟨by omega, by omega, by first | omega | (show T_nb tD + 1 ≤ 8; omega) | (show T_nb tD ≤ 8; omega), by first | omega | (show T_np tD + 1 ≤ 8; omega) | (show T_np tD ≤ 8; omega)⟩⟩ (g_177 bX3_readOne rfl)
          · refine lv_aload_n hx hb (g_42 bX3_readOne rfl) rfl (lv_at hl 4 rfl) ?_
            refine va_get (D := G) (ci := 2) (v := .ref qd) (C := RX3) (T := TX3) (N := 7) hx hb hts iX_X3 hown hK hP 9 rfl rfl 6 (by decide +kernel) (hts _ m_t156) (fun _ h9 => h9) rfl (g_180 (v := 18) bX3_readOne rfl) ?_
            refine lv_iload_n hx hb (g_27 bX3_readOne rfl) rfl (lv_at hl 3 rfl) ?_
            refine lv_iload_n hx hb (g_28 bX3_readOne rfl) rfl (lv_at hl 2 rfl) ?_
            refine lv_iload_n hx hb (g_29 bX3_readOne rfl) rfl (lv_at hl 1 rfl) ?_
            refine lv_iload hx hb (g_21 (v := 4) bX3_readOne rfl) (lv_at hl 0 rfl) ?_
            refine cVi (As := [.int r_9, .int r_105, .int r_153, .int 5]) (rest := []) (b := qd) (q := (RX4, TX4, 13)) ⟨hx, hb, hml, hown, hts⟩ (c_X4_addOne l G cy (H).size qd tD qdw qdn qdg qda qdr qdm qdt qds r_9 r_105 r_153 5 (by first | omega | (simp only [nb_sr, np_sr, nb_wr, np_wr, nb_rd, np_rd, nb_ch, np_ch, nb_zr, np_zr, nb_za, np_za, nb_ey, np_ey, nb_hf, np_hf, nb_dd, np_dd, nb_so, np_so, nb_skn, np_skn, nb_swh, np_swh, nb_sgn, np_sgn, nb_ssd, np_ssd, nb_sgo, np_sgo, nb_sag, np_sag]; omega))) L_X3_107 hN hP hD hS hA (trueIx 0 [true, true, true, true, true, true, true, true, true]) [false, false, false, false, false, false, false, false, false, true, true] (sel_eq rfl rfl) (by decide +kernel) rfl 0 3 rfl rfl rfl ⟨Nat.le_of_ble_eq_true rfl, Nat.le_of_ble_eq_true rfl⟩ hl.1 (Nat.le_of_ble_eq_true rfl) (g_182 (v := 107) bX3_readOne rfl) ⟨Nat.le_of_ble_eq_true rfl, Nat.le_of_ble_eq_true rfl⟩ (fun r_174 u_176 H locs h_175 => ?_)
            clear hP hD hS
            intro hP hD hS
            obtain ⟨hu9, h_175⟩ := h_175
            have hPD := pd_eq [_, _, zzO qd 3 [.int (nI (T_nb (zao tD r_9 r_105 r_153 5))), .int (nI (T_np (zao tD r_9 r_105 r_153 5))), .int (wb (T_wh (zao tD r_9 r_105 r_153 5))), .int (wb (T_gn (zao tD r_9 r_105 r_153 5))), .int (T_sd (zao tD r_9 r_105 r_153 5)), .ref qdw, .ref qdn, .ref qdg, .ref qda, .ref qdr, .ref qdm, .ref qdt, .ref qds], zzI cy qdw 8 (T_wo (zao tD r_9 r_105 r_153 5)), zzI cy qdn 8 (T_ne (zao tD r_9 r_105 r_153 5)), zzI cy qdg 8 (T_go (zao tD r_9 r_105 r_153 5)), zzI cy qda 8 (T_ag (zao tD r_9 r_105 r_153 5)), zzI cy qdr 8 (T_re (zao tD r_9 r_105 r_153 5)), zzI cy qdm 8 (T_me (zao tD r_9 r_105 r_153 5)), zzI cy qdt 8 (T_te (zao tD r_9 r_105 r_153 5)), zzI cy qds 64 (shF (T_kn (zao tD r_9 r_105 r_153 5)))] hP hD hu9 rfl
            clear hP hD hu9
            obtain ⟨hP, hD⟩ := hPD
            subst h_175
            refine lv_pop hx hb (g_87 bX3_readOne rfl) rfl ?_
            exact endV (u := [zzO qa 2 [.ref qab, .int (nI kZ), .int (nI kX_168), .int (nI kY_169), .int iX_170, .int iY_159, .ref qd], zzB cy qab 250 fB, zzO qd 3 [.int (nI (T_nb (zao tD r_9 r_105 r_153 5))), .int (nI (T_np (zao tD r_9 r_105 r_153 5))), .int (wb (T_wh (zao tD r_9 r_105 r_153 5))), .int (wb (T_gn (zao tD r_9 r_105 r_153 5))), .int (T_sd (zao tD r_9 r_105 r_153 5)), .ref qdw, .ref qdn, .ref qdg, .ref qda, .ref qdr, .ref qdm, .ref qdt, .ref qds], zzI cy qdw 8 (T_wo (zao tD r_9 r_105 r_153 5)), zzI cy qdn 8 (T_ne (zao tD r_9 r_105 r_153 5)), zzI cy qdg 8 (T_go (zao tD r_9 r_105 r_153 5)), zzI cy qda 8 (T_ag (zao tD r_9 r_105 r_153 5)), zzI cy qdr 8 (T_re (zao tD r_9 r_105 r_153 5)), zzI cy qdm 8 (T_me (zao tD r_9 r_105 r_153 5)), zzI cy qdt 8 (T_te (zao tD r_9 r_105 r_153 5)), zzI cy qds 64 (shF (T_kn (zao tD r_9 r_105 r_153 5)))]) hx hb hr hlocks (pSb hP [[true, true, true, true, true, true, true, true, true, true, true]] rfl rfl) (dSb hD [[true, true, true, true, true, true, true, true, true, true, true]] (by decide +kernel) rfl rfl) hS ⟨kX_168, kY_169, iX_170, iY_159, (zao tD r_9 r_105 r_153 5), rfl, ⟨by omega, by omega, by first | omega | (show T_nb tD + 1 ≤ 8; omega) | (show T_nb tD ≤ 8; omega), by first | omega | (show T_np tD + 1 ≤ 8; omega) | (show T_np tD ≤ 8; omega)⟩⟩ (g_177 bX3_readOne rfl)
        · refine lv_aload_n hx hb (g_42 bX3_readOne rfl) rfl (lv_at hl 3 rfl) ?_
          refine lv_iconst (v := 0) hx hb (g_3 bX3_readOne rfl) (by decide +kernel) ?_
          refine lv_bipush (v := 10) hx hb dX3_readOne_82 (by decide +kernel) ?_
          refine cVi (As := [.int 0, .int 10]) (rest := []) (b := qa) (q := (RX3, TX3, 7)) ⟨hx, hb, hml, hown, hts⟩ (c_X3_takeNumber l G cy (H).size qa qab kZ kX_168 kY_169 iX_170 iY_159 qd fB 0 10 hZ (by first | omega | (simp only [nb_sr, np_sr, nb_wr, np_wr, nb_rd, np_rd, nb_ch, np_ch, nb_zr, np_zr, nb_za, np_za, nb_ey, np_ey, nb_hf, np_hf, nb_dd, np_dd, nb_so, np_so, nb_skn, np_skn, nb_swh, np_swh, nb_sgn, np_sgn, nb_ssd, np_ssd, nb_sgo, np_sgo, nb_sag, np_sag]; omega))) L_X3_80 hN hP hD hS hA [9, 10] [true, true, true, true, true, true, true, true, true, false, false] rfl (by decide +kernel) rfl 9 2 rfl rfl rfl ⟨Nat.le_of_ble_eq_true rfl, Nat.le_of_ble_eq_true rfl⟩ hl.1 (Nat.le_of_ble_eq_true rfl) (g_182 (v := 80) bX3_readOne rfl) ⟨Nat.le_of_ble_eq_true rfl, Nat.le_of_ble_eq_true rfl⟩ (fun r_177 u_179 H locs h_178 => ?_)
          clear hP hD hS
          intro hP hD hS
          obtain ⟨kX_180, kY_181, iX_182, iY_183, hu9, h_184, h_178⟩ := h_178
          have hPD := pd_eq [_, _, _, _, _, _, _, _, _, zzO qa 2 [.ref qab, .int (nI kZ), .int (nI kX_180), .int (nI kY_181), .int iX_182, .int iY_183, .ref qd], _] hP hD hu9 rfl
          clear hP hD hu9
          obtain ⟨hP, hD⟩ := hPD
          refine lv_goto (tgt := 91) hx hb dX3_readOne_87 (by decide +kernel) ?_
          refine lv_istore (lv' := [(4, .int r_177), (3, .int r_153), (2, .int r_105), (1, .int r_9), (0, .ref qa)]) hx hb (g_54 (v := 4) bX3_readOne rfl) hl (by decide +kernel) rfl (fun ls => ?_)
          clear hl
          intro hl
          refine lv_aload_n hx hb (g_42 bX3_readOne rfl) rfl (lv_at hl 4 rfl) ?_
          refine va_get (D := G) (ci := 2) (v := .int iY_183) (C := RX3) (T := TX3) (N := 7) hx hb hts iX_X3 hown hK hP 9 rfl rfl 5 (by decide +kernel) (hts _ m_t154) (fun _ h9 => h9) rfl (g_180 (v := 30) bX3_readOne rfl) ?_
          refine lv_iconst (v := (-1)) hx hb (g_2 bX3_readOne rfl) (by decide +kernel) ?_
          refine lv_icmp_ne (tgt := 114) hx hb dX3_readOne_98 (by decide +kernel) (fun c_185 => ?_) (fun c_185 => ?_)
          · exact endV (u := [zzO qa 2 [.ref qab, .int (nI kZ), .int (nI kX_180), .int (nI kY_181), .int iX_182, .int iY_183, .ref qd], zzB cy qab 250 fB, zzO qd 3 [.int (nI (T_nb tD)), .int (nI (T_np tD)), .int (wb (T_wh tD)), .int (wb (T_gn tD)), .int (T_sd tD), .ref qdw, .ref qdn, .ref qdg, .ref qda, .ref qdr, .ref qdm, .ref qdt, .ref qds], zzI cy qdw 8 (T_wo tD), zzI cy qdn 8 (T_ne tD), zzI cy qdg 8 (T_go tD), zzI cy qda 8 (T_ag tD), zzI cy qdr 8 (T_re tD), zzI cy qdm 8 (T_me tD), zzI cy qdt 8 (T_te tD), zzI cy qds 64 (shF (T_kn tD))]) hx hb hr hlocks (pSb hP [[false, false, false, false, false, false, false, false, false, true, true], [true, true, true, true, true, true, true, true, true]] rfl rfl) (dSb hD [[false, false, false, false, false, false, false, false, false, true, true], [true, true, true, true, true, true, true, true, true]] (by decide +kernel) rfl rfl) hS ⟨kX_180, kY_181, iX_182, iY_183, tD, rfl, ⟨by omega, by omega, by first | omega | (show T_nb tD + 1 ≤ 8; omega) | (show T_nb tD ≤ 8; omega), by first | omega | (show T_np tD + 1 ≤ 8; omega) | (show T_np tD ≤ 8; omega)⟩⟩ (g_177 bX3_readOne rfl)
          · refine lv_aload_n hx hb (g_42 bX3_readOne rfl) rfl (lv_at hl 4 rfl) ?_
            refine va_get (D := G) (ci := 2) (v := .ref qd) (C := RX3) (T := TX3) (N := 7) hx hb hts iX_X3 hown hK hP 9 rfl rfl 6 (by decide +kernel) (hts _ m_t156) (fun _ h9 => h9) rfl (g_180 (v := 18) bX3_readOne rfl) ?_
            refine lv_iload_n hx hb (g_27 bX3_readOne rfl) rfl (lv_at hl 3 rfl) ?_
            refine lv_iload_n hx hb (g_28 bX3_readOne rfl) rfl (lv_at hl 2 rfl) ?_
            refine lv_iload_n hx hb (g_29 bX3_readOne rfl) rfl (lv_at hl 1 rfl) ?_
            refine lv_iload hx hb (g_21 (v := 4) bX3_readOne rfl) (lv_at hl 0 rfl) ?_
            refine cVi (As := [.int r_9, .int r_105, .int r_153, .int r_177]) (rest := []) (b := qd) (q := (RX4, TX4, 13)) ⟨hx, hb, hml, hown, hts⟩ (c_X4_addOne l G cy (H).size qd tD qdw qdn qdg qda qdr qdm qdt qds r_9 r_105 r_153 r_177 (by first | omega | (simp only [nb_sr, np_sr, nb_wr, np_wr, nb_rd, np_rd, nb_ch, np_ch, nb_zr, np_zr, nb_za, np_za, nb_ey, np_ey, nb_hf, np_hf, nb_dd, np_dd, nb_so, np_so, nb_skn, np_skn, nb_swh, np_swh, nb_sgn, np_sgn, nb_ssd, np_ssd, nb_sgo, np_sgo, nb_sag, np_sag]; omega))) L_X3_107 hN hP hD hS hA (trueIx 0 [true, true, true, true, true, true, true, true, true]) [false, false, false, false, false, false, false, false, false, true, true] (sel_eq rfl rfl) (by decide +kernel) rfl 0 3 rfl rfl rfl ⟨Nat.le_of_ble_eq_true rfl, Nat.le_of_ble_eq_true rfl⟩ hl.1 (Nat.le_of_ble_eq_true rfl) (g_182 (v := 107) bX3_readOne rfl) ⟨Nat.le_of_ble_eq_true rfl, Nat.le_of_ble_eq_true rfl⟩ (fun r_186 u_188 H locs h_187 => ?_)
            clear hP hD hS
            intro hP hD hS
            obtain ⟨hu9, h_187⟩ := h_187
            have hPD := pd_eq [_, _, zzO qd 3 [.int (nI (T_nb (zao tD r_9 r_105 r_153 r_177))), .int (nI (T_np (zao tD r_9 r_105 r_153 r_177))), .int (wb (T_wh (zao tD r_9 r_105 r_153 r_177))), .int (wb (T_gn (zao tD r_9 r_105 r_153 r_177))), .int (T_sd (zao tD r_9 r_105 r_153 r_177)), .ref qdw, .ref qdn, .ref qdg, .ref qda, .ref qdr, .ref qdm, .ref qdt, .ref qds], zzI cy qdw 8 (T_wo (zao tD r_9 r_105 r_153 r_177)), zzI cy qdn 8 (T_ne (zao tD r_9 r_105 r_153 r_177)), zzI cy qdg 8 (T_go (zao tD r_9 r_105 r_153 r_177)), zzI cy qda 8 (T_ag (zao tD r_9 r_105 r_153 r_177)), zzI cy qdr 8 (T_re (zao tD r_9 r_105 r_153 r_177)), zzI cy qdm 8 (T_me (zao tD r_9 r_105 r_153 r_177)), zzI cy qdt 8 (T_te (zao tD r_9 r_105 r_153 r_177)), zzI cy qds 64 (shF (T_kn (zao tD r_9 r_105 r_153 r_177)))] hP hD hu9 rfl
            clear hP hD hu9
            obtain ⟨hP, hD⟩ := hPD
            subst h_187
            refine lv_pop hx hb (g_87 bX3_readOne rfl) rfl ?_
            exact endV (u := [zzO qa 2 [.ref qab, .int (nI kZ), .int (nI kX_180), .int (nI kY_181), .int iX_182, .int iY_183, .ref qd], zzB cy qab 250 fB, zzO qd 3 [.int (nI (T_nb (zao tD r_9 r_105 r_153 r_177))), .int (nI (T_np (zao tD r_9 r_105 r_153 r_177))), .int (wb (T_wh (zao tD r_9 r_105 r_153 r_177))), .int (wb (T_gn (zao tD r_9 r_105 r_153 r_177))), .int (T_sd (zao tD r_9 r_105 r_153 r_177)), .ref qdw, .ref qdn, .ref qdg, .ref qda, .ref qdr, .ref qdm, .ref qdt, .ref qds], zzI cy qdw 8 (T_wo (zao tD r_9 r_105 r_153 r_177)), zzI cy qdn 8 (T_ne (zao tD r_9 r_105 r_153 r_177)), zzI cy qdg 8 (T_go (zao tD r_9 r_105 r_153 r_177)), zzI cy qda 8 (T_ag (zao tD r_9 r_105 r_153 r_177)), zzI cy qdr 8 (T_re (zao tD r_9 r_105 r_153 r_177)), zzI cy qdm 8 (T_me (zao tD r_9 r_105 r_153 r_177)), zzI cy qdt 8 (T_te (zao tD r_9 r_105 r_153 r_177)), zzI cy qds 64 (shF (T_kn (zao tD r_9 r_105 r_153 r_177)))]) hx hb hr hlocks (pSb hP [[true, true, true, true, true, true, true, true, true, true, true]] rfl rfl) (dSb hD [[true, true, true, true, true, true, true, true, true, true, true]] (by decide +kernel) rfl rfl) hS ⟨kX_180, kY_181, iX_182, iY_183, (zao tD r_9 r_105 r_153 r_177), rfl, ⟨by omega, by omega, by first | omega | (show T_nb tD + 1 ≤ 8; omega) | (show T_nb tD ≤ 8; omega), by first | omega | (show T_np tD + 1 ≤ 8; omega) | (show T_np tD ≤ 8; omega)⟩⟩ (g_177 bX3_readOne rfl)
  · refine lv_aload_n hx hb (g_42 bX3_readOne rfl) rfl (lv_at hl 0 rfl) ?_
    refine cVv (As := []) (rest := []) (b := qa) (q := (RX3, TX3, 7)) ⟨hx, hb, hml, hown, hts⟩ (c_X3_fail l G cy (s.heap).size qa qab kZ kS kE iT iF qd hZ hE) L_X3_45 hN hP hD hS hA [0] [false, true, true, true, true, true, true, true, true, true, true] rfl (by decide +kernel) rfl 0 2 rfl rfl rfl ⟨Nat.le_of_ble_eq_true rfl, Nat.le_of_ble_eq_true rfl⟩ hl.1 (Nat.le_of_ble_eq_true rfl) (g_182 (v := 45) bX3_readOne rfl) ⟨Nat.le_of_ble_eq_true rfl, Nat.le_of_ble_eq_true rfl⟩ (fun u_191 H locs h_190 => ?_)
    clear hP hD hS
    intro hP hD hS
    obtain ⟨iX_192, hu9, h_193⟩ := h_190
    have hPD := pd_eq [_, _, _, _, _, _, _, _, _, _, zzO qa 2 [.ref qab, .int (nI kZ), .int (nI kS), .int (nI kE), .int iT, .int iX_192, .ref qd]] hP hD hu9 rfl
    clear hP hD hu9
    obtain ⟨hP, hD⟩ := hPD
    exact endV (u := [zzO qa 2 [.ref qab, .int (nI kZ), .int (nI kS), .int (nI kE), .int iT, .int iX_192, .ref qd], zzB cy qab 250 fB, zzO qd 3 [.int (nI (T_nb tD)), .int (nI (T_np tD)), .int (wb (T_wh tD)), .int (wb (T_gn tD)), .int (T_sd tD), .ref qdw, .ref qdn, .ref qdg, .ref qda, .ref qdr, .ref qdm, .ref qdt, .ref qds], zzI cy qdw 8 (T_wo tD), zzI cy qdn 8 (T_ne tD), zzI cy qdg 8 (T_go tD), zzI cy qda 8 (T_ag tD), zzI cy qdr 8 (T_re tD), zzI cy qdm 8 (T_me tD), zzI cy qdt 8 (T_te tD), zzI cy qds 64 (shF (T_kn tD))]) hx hb hr hlocks (pSb hP [[false, false, false, false, false, false, false, false, false, false, true], [true, true, true, true, true, true, true, true, true, true]] rfl rfl) (dSb hD [[false, false, false, false, false, false, false, false, false, false, true], [true, true, true, true, true, true, true, true, true, true]] (by decide +kernel) rfl rfl) hS ⟨kS, kE, iT, iX_192, tD, rfl, ⟨by omega, by omega, by first | omega | (show T_nb tD + 1 ≤ 8; omega) | (show T_nb tD ≤ 8; omega), by first | omega | (show T_np tD + 1 ≤ 8; omega) | (show T_np tD ≤ 8; omega)⟩⟩ (g_177 bX3_readOne rfl)
set_option maxHeartbeats 4000000 in
set_option maxRecDepth 100000 in
theorem c_X3_readKnows (l : Launch) (G : va_G) (cy : Nat → ClassId) (sz : Nat) (qa : Nat) (qab : Nat) (kZ : Nat) (kS : Nat) (kE : Nat) (iT : Int32) (iF : Int32) (qd : Nat) (fB : Nat → Int32) (tD : TA) (qdw : Nat) (qdn : Nat) (qdg : Nat) (qda : Nat) (qdr : Nat) (qdm : Nat) (qdt : Nat) (qds : Nat)  (hZ : kZ ≤ 250) (hE : kS ≤ kE ∧ kE ≤ kZ) (hDb : T_nb tD ≤ 8) (hDp : T_np tD ≤ 8) : MW l yX3_readKnows cX3_readKnows 4 none 8 0 0 G cy [zzO qa 2 [.ref qab, .int (nI kZ), .int (nI kS), .int (nI kE), .int iT, .int iF, .ref qd], zzB cy qab 250 fB, zzO qd 3 [.int (nI (T_nb tD)), .int (nI (T_np tD)), .int (wb (T_wh tD)), .int (wb (T_gn tD)), .int (T_sd tD), .ref qdw, .ref qdn, .ref qdg, .ref qda, .ref qdr, .ref qdm, .ref qdt, .ref qds], zzI cy qdw 8 (T_wo tD), zzI cy qdn 8 (T_ne tD), zzI cy qdg 8 (T_go tD), zzI cy qda 8 (T_ag tD), zzI cy qdr 8 (T_re tD), zzI cy qdm 8 (T_me tD), zzI cy qdt 8 (T_te tD), zzI cy qds 64 (shF (T_kn tD))] sz [.ref qa] (Wv G (fun u => ∃ (kX : Nat) (kY : Nat) (iX : Int32) (iY : Int32) (tX : TA), u = [zzO qa 2 [.ref qab, .int (nI kZ), .int (nI kX), .int (nI kY), .int iX, .int iY, .ref qd], zzB cy qab 250 fB, zzO qd 3 [.int (nI (T_nb tX)), .int (nI (T_np tX)), .int (wb (T_wh tX)), .int (wb (T_gn tX)), .int (T_sd tX), .ref qdw, .ref qdn, .ref qdg, .ref qda, .ref qdr, .ref qdm, .ref qdt, .ref qds], zzI cy qdw 8 (T_wo tX), zzI cy qdn 8 (T_ne tX), zzI cy qdg 8 (T_go tX), zzI cy qda 8 (T_ag tX), zzI cy qdr 8 (T_re tX), zzI cy qdm 8 (T_me tX), zzI cy qdt 8 (T_te tX), zzI cy qds 64 (shF (T_kn tX))] ∧ (kX ≤ kY ∧ kY ≤ kZ ∧ T_nb tX ≤ 8 ∧ T_np tX ≤ 8))) := by
  refine enW RX3 (by decide +kernel) rfl (Nat.le_of_ble_eq_true rfl) (fun p e s m below meth c ls A hx hb hml hown hts hr hlocks hP hN hl hin hD hA hS => ?_)
  have hin : meth.name = _ := hin
  have hK := hN.1
  replace hl : lv_has ls 4 [(0, .ref qa)] := hl
  refine lv_aload_n hx hb (g_42 bX3_readKnows rfl) rfl (lv_at hl 0 rfl) ?_
  refine cVv (As := []) (rest := []) (b := qa) (q := (RX3, TX3, 7)) ⟨hx, hb, hml, hown, hts⟩ (c_X3_step l G cy (s.heap).size qa qab kZ (nI kS) kE iT iF qd fB hZ (by first | omega | (simp only [nb_sr, np_sr, nb_wr, np_wr, nb_rd, np_rd, nb_ch, np_ch, nb_zr, np_zr, nb_za, np_za, nb_ey, np_ey, nb_hf, np_hf, nb_dd, np_dd, nb_so, np_so, nb_skn, np_skn, nb_swh, np_swh, nb_sgn, np_sgn, nb_ssd, np_ssd, nb_sgo, np_sgo, nb_sag, np_sag]; omega))) L_X3_36 hN hP hD hS hA [0, 1] [false, false, true, true, true, true, true, true, true, true, true] rfl (by decide +kernel) rfl 0 2 rfl rfl rfl ⟨Nat.le_of_ble_eq_true rfl, Nat.le_of_ble_eq_true rfl⟩ hl.1 (Nat.le_of_ble_eq_true rfl) (g_182 (v := 36) bX3_readKnows rfl) ⟨Nat.le_of_ble_eq_true rfl, Nat.le_of_ble_eq_true rfl⟩ (fun u_3 H locs h_2 => ?_)
  clear hP hD hS
  intro hP hD hS
  obtain ⟨kX_4, kY_5, iX_6, hu9, h_7⟩ := h_2
  have hPD := pd_eq [_, _, _, _, _, _, _, _, _, zzO qa 2 [.ref qab, .int (nI kZ), .int (nI kX_4), .int (nI kY_5), .int iX_6, .int iF, .ref qd], _] hP hD hu9 rfl
  clear hP hD hu9
  obtain ⟨hP, hD⟩ := hPD
  refine lv_aload_n hx hb (g_42 bX3_readKnows rfl) rfl (lv_at hl 0 rfl) ?_
  refine lv_iconst (v := 0) hx hb (g_3 bX3_readKnows rfl) (by decide +kernel) ?_
  refine lv_aload_n hx hb (g_42 bX3_readKnows rfl) rfl (lv_at hl 0 rfl) ?_
  refine va_get (D := G) (ci := 2) (v := .ref qd) (C := RX3) (T := TX3) (N := 7) hx hb hts iX_X3 hown hK hP 9 rfl rfl 6 (by decide +kernel) (hts _ m_t156) (fun _ h9 => h9) rfl (g_180 (v := 18) bX3_readKnows rfl) ?_
  refine va_getN (D := G) (ci := 3) (v := .int (nI (T_np tD))) (C := RX4) (T := TX4) (N := 13) hx hb hts iX_X4 hown hK hP 0 rfl rfl 1 (by decide +kernel) (va_Nw.use rfl (hN.2.1 (RX3, 98, "EachBookOnce$Town", "people", "I") (List.mem_of_getElem? (i := 6) rfl))) (fun _ h9 => h9) rfl (g_180 (v := 98) bX3_readKnows rfl) ?_
  refine lv_iconst (v := 1) hx hb (g_4 bX3_readKnows rfl) (by decide +kernel) ?_
  refine lv_isub hx hb (g_100 bX3_readKnows rfl) ?_
  refine cVi (As := [.int 0, .int ((nI (T_np tD)) - 1)]) (rest := []) (b := qa) (q := (RX3, TX3, 7)) ⟨hx, hb, hml, hown, hts⟩ (c_X3_takeNumber l G cy (H).size qa qab kZ kX_4 kY_5 iX_6 iF qd fB 0 ((nI (T_np tD)) - 1) hZ (by first | omega | (simp only [nb_sr, np_sr, nb_wr, np_wr, nb_rd, np_rd, nb_ch, np_ch, nb_zr, np_zr, nb_za, np_za, nb_ey, np_ey, nb_hf, np_hf, nb_dd, np_dd, nb_so, np_so, nb_skn, np_skn, nb_swh, np_swh, nb_sgn, np_sgn, nb_ssd, np_ssd, nb_sgo, np_sgo, nb_sag, np_sag]; omega))) L_X3_80 hN hP hD hS hA [9, 10] [true, true, true, true, true, true, true, true, true, false, false] rfl (by decide +kernel) rfl 9 2 rfl rfl rfl ⟨Nat.le_of_ble_eq_true rfl, Nat.le_of_ble_eq_true rfl⟩ hl.1 (Nat.le_of_ble_eq_true rfl) (g_182 (v := 80) bX3_readKnows rfl) ⟨Nat.le_of_ble_eq_true rfl, Nat.le_of_ble_eq_true rfl⟩ (fun r_8 u_10 H locs h_9 => ?_)
  clear hP hD hS
  intro hP hD hS
  obtain ⟨kX_11, kY_12, iX_13, iY_14, hu9, h_15, h_9⟩ := h_9
  have hPD := pd_eq [_, _, _, _, _, _, _, _, _, zzO qa 2 [.ref qab, .int (nI kZ), .int (nI kX_11), .int (nI kY_12), .int iX_13, .int iY_14, .ref qd], _] hP hD hu9 rfl
  clear hP hD hu9
  obtain ⟨hP, hD⟩ := hPD
  refine lv_istore_n (lv' := [(1, .int r_8), (0, .ref qa)]) hx hb (g_60 bX3_readKnows rfl) rfl hl (by decide +kernel) rfl (fun ls => ?_)
  clear hl
  intro hl
  refine lv_aload_n hx hb (g_42 bX3_readKnows rfl) rfl (lv_at hl 1 rfl) ?_
  refine lv_iconst (v := 0) hx hb (g_3 bX3_readKnows rfl) (by decide +kernel) ?_
  refine lv_aload_n hx hb (g_42 bX3_readKnows rfl) rfl (lv_at hl 1 rfl) ?_
  refine va_get (D := G) (ci := 2) (v := .ref qd) (C := RX3) (T := TX3) (N := 7) hx hb hts iX_X3 hown hK hP 9 rfl rfl 6 (by decide +kernel) (hts _ m_t156) (fun _ h9 => h9) rfl (g_180 (v := 18) bX3_readKnows rfl) ?_
  refine va_getN (D := G) (ci := 3) (v := .int (nI (T_nb tD))) (C := RX4) (T := TX4) (N := 13) hx hb hts iX_X4 hown hK hP 0 rfl rfl 0 (by decide +kernel) (va_Nw.use rfl (hN.2.1 (RX3, 77, "EachBookOnce$Town", "books", "I") (List.mem_of_getElem? (i := 0) rfl))) (fun _ h9 => h9) rfl (g_180 (v := 77) bX3_readKnows rfl) ?_
  refine lv_iconst (v := 1) hx hb (g_4 bX3_readKnows rfl) (by decide +kernel) ?_
  refine lv_isub hx hb (g_100 bX3_readKnows rfl) ?_
  refine cVi (As := [.int 0, .int ((nI (T_nb tD)) - 1)]) (rest := []) (b := qa) (q := (RX3, TX3, 7)) ⟨hx, hb, hml, hown, hts⟩ (c_X3_takeNumber l G cy (H).size qa qab kZ kX_11 kY_12 iX_13 iY_14 qd fB 0 ((nI (T_nb tD)) - 1) hZ (by first | omega | (simp only [nb_sr, np_sr, nb_wr, np_wr, nb_rd, np_rd, nb_ch, np_ch, nb_zr, np_zr, nb_za, np_za, nb_ey, np_ey, nb_hf, np_hf, nb_dd, np_dd, nb_so, np_so, nb_skn, np_skn, nb_swh, np_swh, nb_sgn, np_sgn, nb_ssd, np_ssd, nb_sgo, np_sgo, nb_sag, np_sag]; omega))) L_X3_80 hN hP hD hS hA [9, 10] [true, true, true, true, true, true, true, true, true, false, false] rfl (by decide +kernel) rfl 9 2 rfl rfl rfl ⟨Nat.le_of_ble_eq_true rfl, Nat.le_of_ble_eq_true rfl⟩ hl.1 (Nat.le_of_ble_eq_true rfl) (g_182 (v := 80) bX3_readKnows rfl) ⟨Nat.le_of_ble_eq_true rfl, Nat.le_of_ble_eq_true rfl⟩ (fun r_16 u_18 H locs h_17 => ?_)
  clear hP hD hS
  intro hP hD hS
  obtain ⟨kX_19, kY_20, iX_21, iY_22, hu9, h_23, h_17⟩ := h_17
  have hPD := pd_eq [_, _, _, _, _, _, _, _, _, zzO qa 2 [.ref qab, .int (nI kZ), .int (nI kX_19), .int (nI kY_20), .int iX_21, .int iY_22, .ref qd], _] hP hD hu9 rfl
  clear hP hD hu9
  obtain ⟨hP, hD⟩ := hPD
  refine lv_istore_n (lv' := [(2, .int r_16), (1, .int r_8), (0, .ref qa)]) hx hb (g_61 bX3_readKnows rfl) rfl hl (by decide +kernel) rfl (fun ls => ?_)
  clear hl
  intro hl
  refine lv_aload_n hx hb (g_42 bX3_readKnows rfl) rfl (lv_at hl 2 rfl) ?_
  refine lv_iconst (v := 0) hx hb (g_3 bX3_readKnows rfl) (by decide +kernel) ?_
  refine lv_sipush (v := 1000) hx hb dX3_readKnows_36 (by decide +kernel) ?_
  refine cVi (As := [.int 0, .int 1000]) (rest := []) (b := qa) (q := (RX3, TX3, 7)) ⟨hx, hb, hml, hown, hts⟩ (c_X3_takeNumber l G cy (H).size qa qab kZ kX_19 kY_20 iX_21 iY_22 qd fB 0 1000 hZ (by first | omega | (simp only [nb_sr, np_sr, nb_wr, np_wr, nb_rd, np_rd, nb_ch, np_ch, nb_zr, np_zr, nb_za, np_za, nb_ey, np_ey, nb_hf, np_hf, nb_dd, np_dd, nb_so, np_so, nb_skn, np_skn, nb_swh, np_swh, nb_sgn, np_sgn, nb_ssd, np_ssd, nb_sgo, np_sgo, nb_sag, np_sag]; omega))) L_X3_80 hN hP hD hS hA [9, 10] [true, true, true, true, true, true, true, true, true, false, false] rfl (by decide +kernel) rfl 9 2 rfl rfl rfl ⟨Nat.le_of_ble_eq_true rfl, Nat.le_of_ble_eq_true rfl⟩ hl.1 (Nat.le_of_ble_eq_true rfl) (g_182 (v := 80) bX3_readKnows rfl) ⟨Nat.le_of_ble_eq_true rfl, Nat.le_of_ble_eq_true rfl⟩ (fun r_24 u_26 H locs h_25 => ?_)
  clear hP hD hS
  intro hP hD hS
  obtain ⟨kX_27, kY_28, iX_29, iY_30, hu9, h_31, h_25⟩ := h_25
  have hPD := pd_eq [_, _, _, _, _, _, _, _, _, zzO qa 2 [.ref qab, .int (nI kZ), .int (nI kX_27), .int (nI kY_28), .int iX_29, .int iY_30, .ref qd], _] hP hD hu9 rfl
  clear hP hD hu9
  obtain ⟨hP, hD⟩ := hPD
  refine lv_istore_n (lv' := [(3, .int r_24), (2, .int r_16), (1, .int r_8), (0, .ref qa)]) hx hb (g_62 bX3_readKnows rfl) rfl hl (by decide +kernel) rfl (fun ls => ?_)
  clear hl
  intro hl
  refine lv_aload_n hx hb (g_42 bX3_readKnows rfl) rfl (lv_at hl 3 rfl) ?_
  refine va_get (D := G) (ci := 2) (v := .int iY_30) (C := RX3) (T := TX3) (N := 7) hx hb hts iX_X3 hown hK hP 9 rfl rfl 5 (by decide +kernel) (hts _ m_t154) (fun _ h9 => h9) rfl (g_180 (v := 30) bX3_readKnows rfl) ?_
  refine lv_iconst (v := (-1)) hx hb (g_2 bX3_readKnows rfl) (by decide +kernel) ?_
  refine lv_icmp_ne (tgt := 61) hx hb dX3_readKnows_48 (by decide +kernel) (fun c_32 => ?_) (fun c_32 => ?_)
  · exact endV (u := [zzO qa 2 [.ref qab, .int (nI kZ), .int (nI kX_27), .int (nI kY_28), .int iX_29, .int iY_30, .ref qd], zzB cy qab 250 fB, zzO qd 3 [.int (nI (T_nb tD)), .int (nI (T_np tD)), .int (wb (T_wh tD)), .int (wb (T_gn tD)), .int (T_sd tD), .ref qdw, .ref qdn, .ref qdg, .ref qda, .ref qdr, .ref qdm, .ref qdt, .ref qds], zzI cy qdw 8 (T_wo tD), zzI cy qdn 8 (T_ne tD), zzI cy qdg 8 (T_go tD), zzI cy qda 8 (T_ag tD), zzI cy qdr 8 (T_re tD), zzI cy qdm 8 (T_me tD), zzI cy qdt 8 (T_te tD), zzI cy qds 64 (shF (T_kn tD))]) hx hb hr hlocks (pSb hP [[false, false, false, false, false, false, false, false, false, true, true], [true, true, true, true, true, true, true, true, true]] rfl rfl) (dSb hD [[false, false, false, false, false, false, false, false, false, true, true], [true, true, true, true, true, true, true, true, true]] (by decide +kernel) rfl rfl) hS ⟨kX_27, kY_28, iX_29, iY_30, tD, rfl, ⟨by omega, by omega, by first | omega | (show T_nb tD + 1 ≤ 8; omega) | (show T_nb tD ≤ 8; omega), by first | omega | (show T_np tD + 1 ≤ 8; omega) | (show T_np tD ≤ 8; omega)⟩⟩ (g_177 bX3_readKnows rfl)
  · have hq_33 := h_31.2.2 c_32
    have hq_34 := h_23.2.2 hq_33.1
    have hq_35 := h_15.2.2 hq_34.1
    obtain ⟨k_36, hk_37, ek_38⟩ := tk_in (n := T_np tD) (by omega) hq_35.2.1 hq_35.2.2
    obtain ⟨k_39, hk_40, ek_41⟩ := tk_in (n := T_nb tD) (by omega) hq_34.2.1 hq_34.2.2
    rw [ek_41, ek_38] at hl
    refine lv_aload_n hx hb (g_42 bX3_readKnows rfl) rfl (lv_at hl 3 rfl) ?_
    refine va_get (D := G) (ci := 2) (v := .ref qd) (C := RX3) (T := TX3) (N := 7) hx hb hts iX_X3 hown hK hP 9 rfl rfl 6 (by decide +kernel) (hts _ m_t156) (fun _ h9 => h9) rfl (g_180 (v := 18) bX3_readKnows rfl) ?_
    refine lv_iload_n hx hb (g_27 bX3_readKnows rfl) rfl (lv_at hl 2 rfl) ?_
    refine lv_iload_n hx hb (g_28 bX3_readKnows rfl) rfl (lv_at hl 1 rfl) ?_
    refine lv_iload_n hx hb (g_29 bX3_readKnows rfl) rfl (lv_at hl 0 rfl) ?_
    refine cVv (As := [.int (nI k_36), .int (nI k_39), .int r_24]) (rest := []) (b := qd) (q := (RX4, TX4, 13)) ⟨hx, hb, hml, hown, hts⟩ (c_X4_learn l G cy (H).size qd tD qdw qdn qdg qda qdr qdm qdt qds k_36 k_39 r_24 (by first | omega | (simp only [nb_sr, np_sr, nb_wr, np_wr, nb_rd, np_rd, nb_ch, np_ch, nb_zr, np_zr, nb_za, np_za, nb_ey, np_ey, nb_hf, np_hf, nb_dd, np_dd, nb_so, np_so, nb_skn, np_skn, nb_swh, np_swh, nb_sgn, np_sgn, nb_ssd, np_ssd, nb_sgo, np_sgo, nb_sag, np_sag]; omega)) (by first | omega | (simp only [nb_sr, np_sr, nb_wr, np_wr, nb_rd, np_rd, nb_ch, np_ch, nb_zr, np_zr, nb_za, np_za, nb_ey, np_ey, nb_hf, np_hf, nb_dd, np_dd, nb_so, np_so, nb_skn, np_skn, nb_swh, np_swh, nb_sgn, np_sgn, nb_ssd, np_ssd, nb_sgo, np_sgo, nb_sag, np_sag]; omega))) L_X3_111 hN hP hD hS hA [0, 8] [false, true, true, true, true, true, true, true, false, true, true] rfl (by decide +kernel) rfl 0 3 rfl rfl rfl ⟨Nat.le_of_ble_eq_true rfl, Nat.le_of_ble_eq_true rfl⟩ hl.1 (Nat.le_of_ble_eq_true rfl) (g_182 (v := 111) bX3_readKnows rfl) ⟨Nat.le_of_ble_eq_true rfl, Nat.le_of_ble_eq_true rfl⟩ (fun u_44 H locs h_43 => ?_)
    clear hP hD hS
    intro hP hD hS
    have hPD := pd_eq [zzI cy qdw 8 (T_wo (T_setkn tD (updM (T_kn tD) k_36 k_39 r_24))), zzI cy qdn 8 (T_ne (T_setkn tD (updM (T_kn tD) k_36 k_39 r_24))), zzI cy qdg 8 (T_go (T_setkn tD (updM (T_kn tD) k_36 k_39 r_24))), zzI cy qda 8 (T_ag (T_setkn tD (updM (T_kn tD) k_36 k_39 r_24))), zzI cy qdr 8 (T_re (T_setkn tD (updM (T_kn tD) k_36 k_39 r_24))), zzI cy qdm 8 (T_me (T_setkn tD (updM (T_kn tD) k_36 k_39 r_24))), zzI cy qdt 8 (T_te (T_setkn tD (updM (T_kn tD) k_36 k_39 r_24))), _, _, zzO qd 3 [.int (nI (T_nb (T_setkn tD (updM (T_kn tD) k_36 k_39 r_24)))), .int (nI (T_np (T_setkn tD (updM (T_kn tD) k_36 k_39 r_24)))), .int (wb (T_wh (T_setkn tD (updM (T_kn tD) k_36 k_39 r_24)))), .int (wb (T_gn (T_setkn tD (updM (T_kn tD) k_36 k_39 r_24)))), .int (T_sd (T_setkn tD (updM (T_kn tD) k_36 k_39 r_24))), .ref qdw, .ref qdn, .ref qdg, .ref qda, .ref qdr, .ref qdm, .ref qdt, .ref qds], zzI cy qds 64 (shF (T_kn (T_setkn tD (updM (T_kn tD) k_36 k_39 r_24))))] hP hD h_43 rfl
    clear hP hD h_43
    obtain ⟨hP, hD⟩ := hPD
    exact endV (u := [zzO qa 2 [.ref qab, .int (nI kZ), .int (nI kX_27), .int (nI kY_28), .int iX_29, .int iY_30, .ref qd], zzB cy qab 250 fB, zzO qd 3 [.int (nI (T_nb (T_setkn tD (updM (T_kn tD) k_36 k_39 r_24)))), .int (nI (T_np (T_setkn tD (updM (T_kn tD) k_36 k_39 r_24)))), .int (wb (T_wh (T_setkn tD (updM (T_kn tD) k_36 k_39 r_24)))), .int (wb (T_gn (T_setkn tD (updM (T_kn tD) k_36 k_39 r_24)))), .int (T_sd (T_setkn tD (updM (T_kn tD) k_36 k_39 r_24))), .ref qdw, .ref qdn, .ref qdg, .ref qda, .ref qdr, .ref qdm, .ref qdt, .ref qds], zzI cy qdw 8 (T_wo (T_setkn tD (updM (T_kn tD) k_36 k_39 r_24))), zzI cy qdn 8 (T_ne (T_setkn tD (updM (T_kn tD) k_36 k_39 r_24))), zzI cy qdg 8 (T_go (T_setkn tD (updM (T_kn tD) k_36 k_39 r_24))), zzI cy qda 8 (T_ag (T_setkn tD (updM (T_kn tD) k_36 k_39 r_24))), zzI cy qdr 8 (T_re (T_setkn tD (updM (T_kn tD) k_36 k_39 r_24))), zzI cy qdm 8 (T_me (T_setkn tD (updM (T_kn tD) k_36 k_39 r_24))), zzI cy qdt 8 (T_te (T_setkn tD (updM (T_kn tD) k_36 k_39 r_24))), zzI cy qds 64 (shF (T_kn (T_setkn tD (updM (T_kn tD) k_36 k_39 r_24))))]) hx hb hr hlocks (pSb hP [[false, false, false, false, false, false, false, true, true, true], [true, true, true, true, true, true, true, false, false, false, true]] rfl rfl) (dSb hD [[false, false, false, false, false, false, false, true, true, true], [true, true, true, true, true, true, true, false, false, false, true]] (by decide +kernel) rfl rfl) hS ⟨kX_27, kY_28, iX_29, iY_30, (T_setkn tD (updM (T_kn tD) k_36 k_39 r_24)), rfl, ⟨by omega, by omega, by first | omega | (show T_nb tD + 1 ≤ 8; omega) | (show T_nb tD ≤ 8; omega), by first | omega | (show T_np tD + 1 ≤ 8; omega) | (show T_np tD ≤ 8; omega)⟩⟩ (g_177 bX3_readKnows rfl)
set_option maxHeartbeats 4000000 in
set_option maxRecDepth 100000 in
theorem c_X3_readWhite (l : Launch) (G : va_G) (cy : Nat → ClassId) (sz : Nat) (qa : Nat) (qab : Nat) (kZ : Nat) (kS : Nat) (kE : Nat) (iT : Int32) (iF : Int32) (qd : Nat) (fB : Nat → Int32) (tD : TA) (qdw : Nat) (qdn : Nat) (qdg : Nat) (qda : Nat) (qdr : Nat) (qdm : Nat) (qdt : Nat) (qds : Nat)  (hZ : kZ ≤ 250) (hE : kS ≤ kE ∧ kE ≤ kZ) (hDb : T_nb tD ≤ 8) (hDp : T_np tD ≤ 8) : MW l yX3_readWhite cX3_readWhite 2 none 8 0 0 G cy [zzO qa 2 [.ref qab, .int (nI kZ), .int (nI kS), .int (nI kE), .int iT, .int iF, .ref qd], zzB cy qab 250 fB, zzO qd 3 [.int (nI (T_nb tD)), .int (nI (T_np tD)), .int (wb (T_wh tD)), .int (wb (T_gn tD)), .int (T_sd tD), .ref qdw, .ref qdn, .ref qdg, .ref qda, .ref qdr, .ref qdm, .ref qdt, .ref qds], zzI cy qdw 8 (T_wo tD), zzI cy qdn 8 (T_ne tD), zzI cy qdg 8 (T_go tD), zzI cy qda 8 (T_ag tD), zzI cy qdr 8 (T_re tD), zzI cy qdm 8 (T_me tD), zzI cy qdt 8 (T_te tD), zzI cy qds 64 (shF (T_kn tD))] sz [.ref qa] (Wv G (fun u => ∃ (kX : Nat) (kY : Nat) (iX : Int32) (iY : Int32) (tX : TA), u = [zzO qa 2 [.ref qab, .int (nI kZ), .int (nI kX), .int (nI kY), .int iX, .int iY, .ref qd], zzB cy qab 250 fB, zzO qd 3 [.int (nI (T_nb tX)), .int (nI (T_np tX)), .int (wb (T_wh tX)), .int (wb (T_gn tX)), .int (T_sd tX), .ref qdw, .ref qdn, .ref qdg, .ref qda, .ref qdr, .ref qdm, .ref qdt, .ref qds], zzI cy qdw 8 (T_wo tX), zzI cy qdn 8 (T_ne tX), zzI cy qdg 8 (T_go tX), zzI cy qda 8 (T_ag tX), zzI cy qdr 8 (T_re tX), zzI cy qdm 8 (T_me tX), zzI cy qdt 8 (T_te tX), zzI cy qds 64 (shF (T_kn tX))] ∧ (kX ≤ kY ∧ kY ≤ kZ ∧ T_nb tX ≤ 8 ∧ T_np tX ≤ 8))) := by
  refine enW RX3 (by decide +kernel) rfl (Nat.le_of_ble_eq_true rfl) (fun p e s m below meth c ls A hx hb hml hown hts hr hlocks hP hN hl hin hD hA hS => ?_)
  have hin : meth.name = _ := hin
  have hK := hN.1
  replace hl : lv_has ls 2 [(0, .ref qa)] := hl
  refine lv_aload_n hx hb (g_42 bX3_readWhite rfl) rfl (lv_at hl 0 rfl) ?_
  refine cVv (As := []) (rest := []) (b := qa) (q := (RX3, TX3, 7)) ⟨hx, hb, hml, hown, hts⟩ (c_X3_step l G cy (s.heap).size qa qab kZ (nI kS) kE iT iF qd fB hZ (by first | omega | (simp only [nb_sr, np_sr, nb_wr, np_wr, nb_rd, np_rd, nb_ch, np_ch, nb_zr, np_zr, nb_za, np_za, nb_ey, np_ey, nb_hf, np_hf, nb_dd, np_dd, nb_so, np_so, nb_skn, np_skn, nb_swh, np_swh, nb_sgn, np_sgn, nb_ssd, np_ssd, nb_sgo, np_sgo, nb_sag, np_sag]; omega))) L_X3_36 hN hP hD hS hA [0, 1] [false, false, true, true, true, true, true, true, true, true, true] rfl (by decide +kernel) rfl 0 2 rfl rfl rfl ⟨Nat.le_of_ble_eq_true rfl, Nat.le_of_ble_eq_true rfl⟩ hl.1 (Nat.le_of_ble_eq_true rfl) (g_182 (v := 36) bX3_readWhite rfl) ⟨Nat.le_of_ble_eq_true rfl, Nat.le_of_ble_eq_true rfl⟩ (fun u_3 H locs h_2 => ?_)
  clear hP hD hS
  intro hP hD hS
  obtain ⟨kX_4, kY_5, iX_6, hu9, h_7⟩ := h_2
  have hPD := pd_eq [_, _, _, _, _, _, _, _, _, zzO qa 2 [.ref qab, .int (nI kZ), .int (nI kX_4), .int (nI kY_5), .int iX_6, .int iF, .ref qd], _] hP hD hu9 rfl
  clear hP hD hu9
  obtain ⟨hP, hD⟩ := hPD
  refine lv_aload_n hx hb (g_42 bX3_readWhite rfl) rfl (lv_at hl 0 rfl) ?_
  refine lv_iconst (v := 0) hx hb (g_3 bX3_readWhite rfl) (by decide +kernel) ?_
  refine lv_aload_n hx hb (g_42 bX3_readWhite rfl) rfl (lv_at hl 0 rfl) ?_
  refine va_get (D := G) (ci := 2) (v := .ref qd) (C := RX3) (T := TX3) (N := 7) hx hb hts iX_X3 hown hK hP 9 rfl rfl 6 (by decide +kernel) (hts _ m_t156) (fun _ h9 => h9) rfl (g_180 (v := 18) bX3_readWhite rfl) ?_
  refine va_getN (D := G) (ci := 3) (v := .int (nI (T_nb tD))) (C := RX4) (T := TX4) (N := 13) hx hb hts iX_X4 hown hK hP 0 rfl rfl 0 (by decide +kernel) (va_Nw.use rfl (hN.2.1 (RX3, 77, "EachBookOnce$Town", "books", "I") (List.mem_of_getElem? (i := 0) rfl))) (fun _ h9 => h9) rfl (g_180 (v := 77) bX3_readWhite rfl) ?_
  refine lv_iconst (v := 1) hx hb (g_4 bX3_readWhite rfl) (by decide +kernel) ?_
  refine lv_isub hx hb (g_100 bX3_readWhite rfl) ?_
  refine cVi (As := [.int 0, .int ((nI (T_nb tD)) - 1)]) (rest := []) (b := qa) (q := (RX3, TX3, 7)) ⟨hx, hb, hml, hown, hts⟩ (c_X3_takeNumber l G cy (H).size qa qab kZ kX_4 kY_5 iX_6 iF qd fB 0 ((nI (T_nb tD)) - 1) hZ (by first | omega | (simp only [nb_sr, np_sr, nb_wr, np_wr, nb_rd, np_rd, nb_ch, np_ch, nb_zr, np_zr, nb_za, np_za, nb_ey, np_ey, nb_hf, np_hf, nb_dd, np_dd, nb_so, np_so, nb_skn, np_skn, nb_swh, np_swh, nb_sgn, np_sgn, nb_ssd, np_ssd, nb_sgo, np_sgo, nb_sag, np_sag]; omega))) L_X3_80 hN hP hD hS hA [9, 10] [true, true, true, true, true, true, true, true, true, false, false] rfl (by decide +kernel) rfl 9 2 rfl rfl rfl ⟨Nat.le_of_ble_eq_true rfl, Nat.le_of_ble_eq_true rfl⟩ hl.1 (Nat.le_of_ble_eq_true rfl) (g_182 (v := 80) bX3_readWhite rfl) ⟨Nat.le_of_ble_eq_true rfl, Nat.le_of_ble_eq_true rfl⟩ (fun r_8 u_10 H locs h_9 => ?_)
  clear hP hD hS
  intro hP hD hS
  obtain ⟨kX_11, kY_12, iX_13, iY_14, hu9, h_15, h_9⟩ := h_9
  have hPD := pd_eq [_, _, _, _, _, _, _, _, _, zzO qa 2 [.ref qab, .int (nI kZ), .int (nI kX_11), .int (nI kY_12), .int iX_13, .int iY_14, .ref qd], _] hP hD hu9 rfl
  clear hP hD hu9
  obtain ⟨hP, hD⟩ := hPD
  refine lv_istore_n (lv' := [(1, .int r_8), (0, .ref qa)]) hx hb (g_60 bX3_readWhite rfl) rfl hl (by decide +kernel) rfl (fun ls => ?_)
  clear hl
  intro hl
  refine lv_aload_n hx hb (g_42 bX3_readWhite rfl) rfl (lv_at hl 1 rfl) ?_
  refine va_get (D := G) (ci := 2) (v := .int iY_14) (C := RX3) (T := TX3) (N := 7) hx hb hts iX_X3 hown hK hP 9 rfl rfl 5 (by decide +kernel) (hts _ m_t154) (fun _ h9 => h9) rfl (g_180 (v := 30) bX3_readWhite rfl) ?_
  refine lv_iconst (v := (-1)) hx hb (g_2 bX3_readWhite rfl) (by decide +kernel) ?_
  refine lv_icmp_ne (tgt := 42) hx hb dX3_readWhite_24 (by decide +kernel) (fun c_16 => ?_) (fun c_16 => ?_)
  · exact endV (u := [zzO qa 2 [.ref qab, .int (nI kZ), .int (nI kX_11), .int (nI kY_12), .int iX_13, .int iY_14, .ref qd], zzB cy qab 250 fB, zzO qd 3 [.int (nI (T_nb tD)), .int (nI (T_np tD)), .int (wb (T_wh tD)), .int (wb (T_gn tD)), .int (T_sd tD), .ref qdw, .ref qdn, .ref qdg, .ref qda, .ref qdr, .ref qdm, .ref qdt, .ref qds], zzI cy qdw 8 (T_wo tD), zzI cy qdn 8 (T_ne tD), zzI cy qdg 8 (T_go tD), zzI cy qda 8 (T_ag tD), zzI cy qdr 8 (T_re tD), zzI cy qdm 8 (T_me tD), zzI cy qdt 8 (T_te tD), zzI cy qds 64 (shF (T_kn tD))]) hx hb hr hlocks (pSb hP [[false, false, false, false, false, false, false, false, false, true, true], [true, true, true, true, true, true, true, true, true]] rfl rfl) (dSb hD [[false, false, false, false, false, false, false, false, false, true, true], [true, true, true, true, true, true, true, true, true]] (by decide +kernel) rfl rfl) hS ⟨kX_11, kY_12, iX_13, iY_14, tD, rfl, ⟨by omega, by omega, by first | omega | (show T_nb tD + 1 ≤ 8; omega) | (show T_nb tD ≤ 8; omega), by first | omega | (show T_np tD + 1 ≤ 8; omega) | (show T_np tD ≤ 8; omega)⟩⟩ (g_177 bX3_readWhite rfl)
  · have hq_17 := h_15.2.2 c_16
    obtain ⟨k_18, hk_19, ek_20⟩ := tk_in (n := T_nb tD) (by omega) hq_17.2.1 hq_17.2.2
    rw [ek_20] at hl
    refine lv_aload_n hx hb (g_42 bX3_readWhite rfl) rfl (lv_at hl 1 rfl) ?_
    refine va_get (D := G) (ci := 2) (v := .ref qd) (C := RX3) (T := TX3) (N := 7) hx hb hts iX_X3 hown hK hP 9 rfl rfl 6 (by decide +kernel) (hts _ m_t156) (fun _ h9 => h9) rfl (g_180 (v := 18) bX3_readWhite rfl) ?_
    refine lv_dup hx hb (g_89 bX3_readWhite rfl) rfl ?_
    refine va_getN (D := G) (ci := 3) (v := .int (wb (T_wh tD))) (C := RX4) (T := TX4) (N := 13) hx hb hts iX_X4 hown hK hP 0 rfl rfl 2 (by decide +kernel) (va_Nw.use rfl (hN.2.1 (RX3, 115, "EachBookOnce$Town", "white", "I") (List.mem_of_getElem? (i := 9) rfl))) (fun _ h9 => h9) rfl (g_180 (v := 115) bX3_readWhite rfl) ?_
    refine lv_iconst (v := 1) hx hb (g_4 bX3_readWhite rfl) (by decide +kernel) ?_
    refine lv_iload_n hx hb (g_27 bX3_readWhite rfl) rfl (lv_at hl 0 rfl) ?_
    refine lv_ishl hx hb (g_120 bX3_readWhite rfl) ?_
    refine lv_ior hx hb (g_128 bX3_readWhite rfl) ?_
    refine lv_seti (v := wb (updB (T_wh tD) k_18 true)) (wb_on _ (by omega)) ?_
    refine va_putN (D := G) (ci := 3) (v := .int (wb (updB (T_wh tD) k_18 true))) (ty := .int) (C := RX4) (T := TX4) (N := 13) hx hb hts iX_X4 tyX4 tyX4_ok nmX4 hown hK hP hD hS 0 rfl rfl 2 (by decide +kernel) (va_Nw.use rfl (hN.2.1 (RX3, 115, "EachBookOnce$Town", "white", "I") (List.mem_of_getElem? (i := 9) rfl))) (fun _ h9 => h9) rfl (by decide +kernel) rfl rfl (Nat.le_of_ble_eq_true rfl) (g_181 (v := 115) bX3_readWhite rfl) (fun H locs => ?_)
    clear hP hD hS
    intro hP hD hS
    have hPD := pd_as [zzO qd 3 [.int (nI (T_nb tD)), .int (nI (T_np tD)), .int (wb (updB (T_wh tD) k_18 true)), .int (wb (T_gn tD)), .int (T_sd tD), .ref qdw, .ref qdn, .ref qdg, .ref qda, .ref qdr, .ref qdm, .ref qdt, .ref qds], _, _, _, _, _, _, _, _, _, _] hP hD rfl
    clear hP hD
    obtain ⟨hP, hD⟩ := hPD
    have hPD := pd_as [zzO qd 3 [.int (nI (T_nb (T_setwh tD (updB (T_wh tD) k_18 true)))), .int (nI (T_np (T_setwh tD (updB (T_wh tD) k_18 true)))), .int (wb (T_wh (T_setwh tD (updB (T_wh tD) k_18 true)))), .int (wb (T_gn (T_setwh tD (updB (T_wh tD) k_18 true)))), .int (T_sd (T_setwh tD (updB (T_wh tD) k_18 true))), .ref qdw, .ref qdn, .ref qdg, .ref qda, .ref qdr, .ref qdm, .ref qdt, .ref qds], zzI cy qdw 8 (T_wo (T_setwh tD (updB (T_wh tD) k_18 true))), zzI cy qdn 8 (T_ne (T_setwh tD (updB (T_wh tD) k_18 true))), zzI cy qdg 8 (T_go (T_setwh tD (updB (T_wh tD) k_18 true))), zzI cy qda 8 (T_ag (T_setwh tD (updB (T_wh tD) k_18 true))), zzI cy qdr 8 (T_re (T_setwh tD (updB (T_wh tD) k_18 true))), zzI cy qdm 8 (T_me (T_setwh tD (updB (T_wh tD) k_18 true))), zzI cy qdt 8 (T_te (T_setwh tD (updB (T_wh tD) k_18 true))), zzI cy qds 64 (shF (T_kn (T_setwh tD (updB (T_wh tD) k_18 true)))), _, _] hP hD rfl
    clear hP hD
    obtain ⟨hP, hD⟩ := hPD
    exact endV (u := [zzO qa 2 [.ref qab, .int (nI kZ), .int (nI kX_11), .int (nI kY_12), .int iX_13, .int iY_14, .ref qd], zzB cy qab 250 fB, zzO qd 3 [.int (nI (T_nb (T_setwh tD (updB (T_wh tD) k_18 true)))), .int (nI (T_np (T_setwh tD (updB (T_wh tD) k_18 true)))), .int (wb (T_wh (T_setwh tD (updB (T_wh tD) k_18 true)))), .int (wb (T_gn (T_setwh tD (updB (T_wh tD) k_18 true)))), .int (T_sd (T_setwh tD (updB (T_wh tD) k_18 true))), .ref qdw, .ref qdn, .ref qdg, .ref qda, .ref qdr, .ref qdm, .ref qdt, .ref qds], zzI cy qdw 8 (T_wo (T_setwh tD (updB (T_wh tD) k_18 true))), zzI cy qdn 8 (T_ne (T_setwh tD (updB (T_wh tD) k_18 true))), zzI cy qdg 8 (T_go (T_setwh tD (updB (T_wh tD) k_18 true))), zzI cy qda 8 (T_ag (T_setwh tD (updB (T_wh tD) k_18 true))), zzI cy qdr 8 (T_re (T_setwh tD (updB (T_wh tD) k_18 true))), zzI cy qdm 8 (T_me (T_setwh tD (updB (T_wh tD) k_18 true))), zzI cy qdt 8 (T_te (T_setwh tD (updB (T_wh tD) k_18 true))), zzI cy qds 64 (shF (T_kn (T_setwh tD (updB (T_wh tD) k_18 true))))]) hx hb hr hlocks (pSb hP [[false, false, false, false, false, false, false, false, false, true, true], [true, true, true, true, true, true, true, true, true]] rfl rfl) (dSb hD [[false, false, false, false, false, false, false, false, false, true, true], [true, true, true, true, true, true, true, true, true]] (by decide +kernel) rfl rfl) hS ⟨kX_11, kY_12, iX_13, iY_14, (T_setwh tD (updB (T_wh tD) k_18 true)), rfl, ⟨by omega, by omega, by first | omega | (show T_nb tD + 1 ≤ 8; omega) | (show T_nb tD ≤ 8; omega), by first | omega | (show T_np tD + 1 ≤ 8; omega) | (show T_np tD ≤ 8; omega)⟩⟩ (g_177 bX3_readWhite rfl)
set_option maxHeartbeats 4000000 in
set_option maxRecDepth 100000 in
theorem c_X3_readStatement (l : Launch) (G : va_G) (cy : Nat → ClassId) (sz : Nat) (qa : Nat) (qab : Nat) (kZ : Nat) (kS : Nat) (kE : Nat) (iT : Int32) (iF : Int32) (qd : Nat) (fB : Nat → Int32) (tD : TA) (qdw : Nat) (qdn : Nat) (qdg : Nat) (qda : Nat) (qdr : Nat) (qdm : Nat) (qdt : Nat) (qds : Nat)  (hZ : kZ ≤ 250) (hE : kS ≤ kE ∧ kE ≤ kZ) (hDb : T_nb tD ≤ 8) (hDp : T_np tD ≤ 8) : MWX l yX3_readStatement cX3_readStatement 1 none 9 0 0 G cy SO [zzO qa 2 [.ref qab, .int (nI kZ), .int (nI kS), .int (nI kE), .int iT, .int iF, .ref qd], zzB cy qab 250 fB, zzO qd 3 [.int (nI (T_nb tD)), .int (nI (T_np tD)), .int (wb (T_wh tD)), .int (wb (T_gn tD)), .int (T_sd tD), .ref qdw, .ref qdn, .ref qdg, .ref qda, .ref qdr, .ref qdm, .ref qdt, .ref qds], zzI cy qdw 8 (T_wo tD), zzI cy qdn 8 (T_ne tD), zzI cy qdg 8 (T_go tD), zzI cy qda 8 (T_ag tD), zzI cy qdr 8 (T_re tD), zzI cy qdm 8 (T_me tD), zzI cy qdt 8 (T_te tD), zzI cy qds 64 (shF (T_kn tD))] sz [.ref qa] (Wv G (fun u => ∃ (kX : Nat) (kY : Nat) (iX : Int32) (iY : Int32) (tX : TA), u = [zzO qa 2 [.ref qab, .int (nI kZ), .int (nI kX), .int (nI kY), .int iX, .int iY, .ref qd], zzB cy qab 250 fB, zzO qd 3 [.int (nI (T_nb tX)), .int (nI (T_np tX)), .int (wb (T_wh tX)), .int (wb (T_gn tX)), .int (T_sd tX), .ref qdw, .ref qdn, .ref qdg, .ref qda, .ref qdr, .ref qdm, .ref qdt, .ref qds], zzI cy qdw 8 (T_wo tX), zzI cy qdn 8 (T_ne tX), zzI cy qdg 8 (T_go tX), zzI cy qda 8 (T_ag tX), zzI cy qdr 8 (T_re tX), zzI cy qdm 8 (T_me tX), zzI cy qdt 8 (T_te tX), zzI cy qds 64 (shF (T_kn tX))] ∧ (kX ≤ kY ∧ kY ≤ kZ ∧ T_nb tX ≤ 8 ∧ T_np tX ≤ 8))) := by
  refine enWX RX3 (by decide +kernel) rfl (Nat.le_of_ble_eq_true rfl) (fun p e s m below meth c ls A hx hb hml hown hts hr hlocks hP hN hl hin hD hA hS hX => ?_)
  have hin : meth.name = _ := hin
  have hK := hN.1
  replace hl : lv_has ls 1 [(0, .ref qa)] := hl
  refine lv_aload_n hx hb (g_42 bX3_readStatement rfl) rfl (lv_at hl 0 rfl) ?_
  obtain ⟨qs_1, qv_3, hs_2, hf_4⟩ := hX (RX3, 48, "book", [98, 111, 111, 107]) (List.mem_of_getElem? (i := 0) rfl)
  refine va_ldcS hx hb hown hs_2 (g_18 (v := 48) bX3_readStatement rfl) ?_
  refine kRi (rV (As := [.ref qs_1]) (rest := []) (b := qa) ⟨hx, hb, hml, hown, hts⟩ (c_X3_isWord l G cy qa qab kZ kS kE iT iF qd fB qs_1 ([98, 111, 111, 107]) qv_3 hZ hE (by decide +kernel) as_book) L_X3_50 (preRVX (q := (RX3, TX3, 7)) hN hP [0, 1] rfl 0 2 rfl rfl SF_ok hf_4 hS) rfl ⟨Nat.le_of_ble_eq_true rfl, Nat.le_of_ble_eq_true rfl⟩ hl.1 (Nat.le_of_ble_eq_true rfl) (g_182 (v := 50) bX3_readStatement rfl) ⟨Nat.le_of_ble_eq_true rfl, Nat.le_of_ble_eq_true rfl⟩) (fun r_5 h_6 => ?_)
  rcases h_6 with rfl | rfl
  · refine lv_if_eq (tgt := 16) hx hb dX3_readStatement_6 (by decide +kernel) (fun h9 => absurd h9 (by decide +kernel)) (fun _ => ?_)
    refine lv_aload_n hx hb (g_42 bX3_readStatement rfl) rfl (lv_at hl 0 rfl) ?_
    refine cVXv (As := []) (rest := []) (b := qa) (q := (RX3, TX3, 7)) ⟨hx, hb, hml, hown, hts⟩ (c_X3_readBook l G cy (s.heap).size qa qab kZ kS kE iT iF qd fB tD qdw qdn qdg qda qdr qdm qdt qds hZ hE hDb hDp) L_X3_54 hN hP hD hS hA (trueIx 0 [true, true, true, true, true, true, true, true, true, true, true]) [false, false, false, false, false, false, false, false, false, false, false] (sel_eq rfl rfl) (by decide +kernel) rfl 0 2 rfl rfl SO_ok hX rfl ⟨Nat.le_of_ble_eq_true rfl, Nat.le_of_ble_eq_true rfl⟩ hl.1 (Nat.le_of_ble_eq_true rfl) (g_182 (v := 54) bX3_readStatement rfl) ⟨Nat.le_of_ble_eq_true rfl, Nat.le_of_ble_eq_true rfl⟩ (fun u_11 H locs h_10 => ?_)
    clear hP hD hS
    intro hP hD hS
    obtain ⟨kX_12, kY_13, iX_14, iY_15, tX_16, hu9, h_17⟩ := h_10
    have hPD := pd_eq [zzO qa 2 [.ref qab, .int (nI kZ), .int (nI kX_12), .int (nI kY_13), .int iX_14, .int iY_15, .ref qd], _, zzO qd 3 [.int (nI (T_nb tX_16)), .int (nI (T_np tX_16)), .int (wb (T_wh tX_16)), .int (wb (T_gn tX_16)), .int (T_sd tX_16), .ref qdw, .ref qdn, .ref qdg, .ref qda, .ref qdr, .ref qdm, .ref qdt, .ref qds], zzI cy qdw 8 (T_wo tX_16), zzI cy qdn 8 (T_ne tX_16), zzI cy qdg 8 (T_go tX_16), zzI cy qda 8 (T_ag tX_16), zzI cy qdr 8 (T_re tX_16), zzI cy qdm 8 (T_me tX_16), zzI cy qdt 8 (T_te tX_16), zzI cy qds 64 (shF (T_kn tX_16))] hP hD hu9 rfl
    clear hP hD hu9
    obtain ⟨hP, hD⟩ := hPD
    refine lv_goto (tgt := 84) hx hb dX3_readStatement_13 (by decide +kernel) ?_
    exact endV (u := [zzO qa 2 [.ref qab, .int (nI kZ), .int (nI kX_12), .int (nI kY_13), .int iX_14, .int iY_15, .ref qd], zzB cy qab 250 fB, zzO qd 3 [.int (nI (T_nb tX_16)), .int (nI (T_np tX_16)), .int (wb (T_wh tX_16)), .int (wb (T_gn tX_16)), .int (T_sd tX_16), .ref qdw, .ref qdn, .ref qdg, .ref qda, .ref qdr, .ref qdm, .ref qdt, .ref qds], zzI cy qdw 8 (T_wo tX_16), zzI cy qdn 8 (T_ne tX_16), zzI cy qdg 8 (T_go tX_16), zzI cy qda 8 (T_ag tX_16), zzI cy qdr 8 (T_re tX_16), zzI cy qdm 8 (T_me tX_16), zzI cy qdt 8 (T_te tX_16), zzI cy qds 64 (shF (T_kn tX_16))]) hx hb hr hlocks (pSb hP [[true, true, true, true, true, true, true, true, true, true, true]] rfl rfl) (dSb hD [[true, true, true, true, true, true, true, true, true, true, true]] (by decide +kernel) rfl rfl) hS ⟨kX_12, kY_13, iX_14, iY_15, tX_16, rfl, ⟨by omega, by omega, by first | omega | (show T_nb tD + 1 ≤ 8; omega) | (show T_nb tD ≤ 8; omega), by first | omega | (show T_np tD + 1 ≤ 8; omega) | (show T_np tD ≤ 8; omega)⟩⟩ (g_177 bX3_readStatement rfl)
  · refine lv_if_eq (tgt := 16) hx hb dX3_readStatement_6 (by decide +kernel) (fun _ => ?_) (fun h9 => absurd (by decide +kernel) h9)
    refine lv_aload_n hx hb (g_42 bX3_readStatement rfl) rfl (lv_at hl 0 rfl) ?_
    obtain ⟨qs_19, qv_21, hs_20, hf_22⟩ := hX (RX3, 57, "need", [110, 101, 101, 100]) (List.mem_of_getElem? (i := 2) rfl)
    refine va_ldcS hx hb hown hs_20 (g_18 (v := 57) bX3_readStatement rfl) ?_
    refine kRi (rV (As := [.ref qs_19]) (rest := []) (b := qa) ⟨hx, hb, hml, hown, hts⟩ (c_X3_isWord l G cy qa qab kZ kS kE iT iF qd fB qs_19 ([110, 101, 101, 100]) qv_21 hZ hE (by decide +kernel) as_need) L_X3_50 (preRVX (q := (RX3, TX3, 7)) hN hP [0, 1] rfl 0 2 rfl rfl SF_ok hf_22 hS) rfl ⟨Nat.le_of_ble_eq_true rfl, Nat.le_of_ble_eq_true rfl⟩ hl.1 (Nat.le_of_ble_eq_true rfl) (g_182 (v := 50) bX3_readStatement rfl) ⟨Nat.le_of_ble_eq_true rfl, Nat.le_of_ble_eq_true rfl⟩) (fun r_23 h_24 => ?_)
    rcases h_24 with rfl | rfl
    · refine lv_if_eq (tgt := 32) hx hb dX3_readStatement_22 (by decide +kernel) (fun h9 => absurd h9 (by decide +kernel)) (fun _ => ?_)
      refine lv_aload_n hx hb (g_42 bX3_readStatement rfl) rfl (lv_at hl 0 rfl) ?_
      refine cVv (As := []) (rest := []) (b := qa) (q := (RX3, TX3, 7)) ⟨hx, hb, hml, hown, hts⟩ (c_X3_readNeed l G cy (s.heap).size qa qab kZ kS kE iT iF qd fB tD qdw qdn qdg qda qdr qdm qdt qds hZ hE hDb hDp) L_X3_59 hN hP hD hS hA (trueIx 0 [true, true, true, true, true, true, true, true, true, true, true]) [false, false, false, false, false, false, false, false, false, false, false] (sel_eq rfl rfl) (by decide +kernel) rfl 0 2 rfl rfl rfl ⟨Nat.le_of_ble_eq_true rfl, Nat.le_of_ble_eq_true rfl⟩ hl.1 (Nat.le_of_ble_eq_true rfl) (g_182 (v := 59) bX3_readStatement rfl) ⟨Nat.le_of_ble_eq_true rfl, Nat.le_of_ble_eq_true rfl⟩ (fun u_29 H locs h_28 => ?_)
      clear hP hD hS
      intro hP hD hS
      obtain ⟨kX_30, kY_31, iX_32, iY_33, tX_34, hu9, h_35⟩ := h_28
      have hPD := pd_eq [zzO qa 2 [.ref qab, .int (nI kZ), .int (nI kX_30), .int (nI kY_31), .int iX_32, .int iY_33, .ref qd], _, zzO qd 3 [.int (nI (T_nb tX_34)), .int (nI (T_np tX_34)), .int (wb (T_wh tX_34)), .int (wb (T_gn tX_34)), .int (T_sd tX_34), .ref qdw, .ref qdn, .ref qdg, .ref qda, .ref qdr, .ref qdm, .ref qdt, .ref qds], zzI cy qdw 8 (T_wo tX_34), zzI cy qdn 8 (T_ne tX_34), zzI cy qdg 8 (T_go tX_34), zzI cy qda 8 (T_ag tX_34), zzI cy qdr 8 (T_re tX_34), zzI cy qdm 8 (T_me tX_34), zzI cy qdt 8 (T_te tX_34), zzI cy qds 64 (shF (T_kn tX_34))] hP hD hu9 rfl
      clear hP hD hu9
      obtain ⟨hP, hD⟩ := hPD
      refine lv_goto (tgt := 84) hx hb dX3_readStatement_29 (by decide +kernel) ?_
      exact endV (u := [zzO qa 2 [.ref qab, .int (nI kZ), .int (nI kX_30), .int (nI kY_31), .int iX_32, .int iY_33, .ref qd], zzB cy qab 250 fB, zzO qd 3 [.int (nI (T_nb tX_34)), .int (nI (T_np tX_34)), .int (wb (T_wh tX_34)), .int (wb (T_gn tX_34)), .int (T_sd tX_34), .ref qdw, .ref qdn, .ref qdg, .ref qda, .ref qdr, .ref qdm, .ref qdt, .ref qds], zzI cy qdw 8 (T_wo tX_34), zzI cy qdn 8 (T_ne tX_34), zzI cy qdg 8 (T_go tX_34), zzI cy qda 8 (T_ag tX_34), zzI cy qdr 8 (T_re tX_34), zzI cy qdm 8 (T_me tX_34), zzI cy qdt 8 (T_te tX_34), zzI cy qds 64 (shF (T_kn tX_34))]) hx hb hr hlocks (pSb hP [[true, true, true, true, true, true, true, true, true, true, true]] rfl rfl) (dSb hD [[true, true, true, true, true, true, true, true, true, true, true]] (by decide +kernel) rfl rfl) hS ⟨kX_30, kY_31, iX_32, iY_33, tX_34, rfl, ⟨by omega, by omega, by first | omega | (show T_nb tD + 1 ≤ 8; omega) | (show T_nb tD ≤ 8; omega), by first | omega | (show T_np tD + 1 ≤ 8; omega) | (show T_np tD ≤ 8; omega)⟩⟩ (g_177 bX3_readStatement rfl)
    · refine lv_if_eq (tgt := 32) hx hb dX3_readStatement_22 (by decide +kernel) (fun _ => ?_) (fun h9 => absurd (by decide +kernel) h9)
      refine lv_aload_n hx hb (g_42 bX3_readStatement rfl) rfl (lv_at hl 0 rfl) ?_
      obtain ⟨qs_37, qv_39, hs_38, hf_40⟩ := hX (RX3, 62, "one", [111, 110, 101]) (List.mem_of_getElem? (i := 3) rfl)
      refine va_ldcS hx hb hown hs_38 (g_18 (v := 62) bX3_readStatement rfl) ?_
      refine kRi (rV (As := [.ref qs_37]) (rest := []) (b := qa) ⟨hx, hb, hml, hown, hts⟩ (c_X3_isWord l G cy qa qab kZ kS kE iT iF qd fB qs_37 ([111, 110, 101]) qv_39 hZ hE (by decide +kernel) as_one) L_X3_50 (preRVX (q := (RX3, TX3, 7)) hN hP [0, 1] rfl 0 2 rfl rfl SF_ok hf_40 hS) rfl ⟨Nat.le_of_ble_eq_true rfl, Nat.le_of_ble_eq_true rfl⟩ hl.1 (Nat.le_of_ble_eq_true rfl) (g_182 (v := 50) bX3_readStatement rfl) ⟨Nat.le_of_ble_eq_true rfl, Nat.le_of_ble_eq_true rfl⟩) (fun r_41 h_42 => ?_)
      rcases h_42 with rfl | rfl
      · refine lv_if_eq (tgt := 48) hx hb dX3_readStatement_38 (by decide +kernel) (fun h9 => absurd h9 (by decide +kernel)) (fun _ => ?_)
        refine lv_aload_n hx hb (g_42 bX3_readStatement rfl) rfl (lv_at hl 0 rfl) ?_
        refine cVXv (As := []) (rest := []) (b := qa) (q := (RX3, TX3, 7)) ⟨hx, hb, hml, hown, hts⟩ (c_X3_readOne l G cy (s.heap).size qa qab kZ kS kE iT iF qd fB tD qdw qdn qdg qda qdr qdm qdt qds hZ hE hDb hDp) L_X3_64 hN hP hD hS hA (trueIx 0 [true, true, true, true, true, true, true, true, true, true, true]) [false, false, false, false, false, false, false, false, false, false, false] (sel_eq rfl rfl) (by decide +kernel) rfl 0 2 rfl rfl SO_ok hX rfl ⟨Nat.le_of_ble_eq_true rfl, Nat.le_of_ble_eq_true rfl⟩ hl.1 (Nat.le_of_ble_eq_true rfl) (g_182 (v := 64) bX3_readStatement rfl) ⟨Nat.le_of_ble_eq_true rfl, Nat.le_of_ble_eq_true rfl⟩ (fun u_47 H locs h_46 => ?_)
        clear hP hD hS
        intro hP hD hS
        obtain ⟨kX_48, kY_49, iX_50, iY_51, tX_52, hu9, h_53⟩ := h_46
        have hPD := pd_eq [zzO qa 2 [.ref qab, .int (nI kZ), .int (nI kX_48), .int (nI kY_49), .int iX_50, .int iY_51, .ref qd], _, zzO qd 3 [.int (nI (T_nb tX_52)), .int (nI (T_np tX_52)), .int (wb (T_wh tX_52)), .int (wb (T_gn tX_52)), .int (T_sd tX_52), .ref qdw, .ref qdn, .ref qdg, .ref qda, .ref qdr, .ref qdm, .ref qdt, .ref qds], zzI cy qdw 8 (T_wo tX_52), zzI cy qdn 8 (T_ne tX_52), zzI cy qdg 8 (T_go tX_52), zzI cy qda 8 (T_ag tX_52), zzI cy qdr 8 (T_re tX_52), zzI cy qdm 8 (T_me tX_52), zzI cy qdt 8 (T_te tX_52), zzI cy qds 64 (shF (T_kn tX_52))] hP hD hu9 rfl
        clear hP hD hu9
        obtain ⟨hP, hD⟩ := hPD
        refine lv_goto (tgt := 84) hx hb dX3_readStatement_45 (by decide +kernel) ?_
        exact endV (u := [zzO qa 2 [.ref qab, .int (nI kZ), .int (nI kX_48), .int (nI kY_49), .int iX_50, .int iY_51, .ref qd], zzB cy qab 250 fB, zzO qd 3 [.int (nI (T_nb tX_52)), .int (nI (T_np tX_52)), .int (wb (T_wh tX_52)), .int (wb (T_gn tX_52)), .int (T_sd tX_52), .ref qdw, .ref qdn, .ref qdg, .ref qda, .ref qdr, .ref qdm, .ref qdt, .ref qds], zzI cy qdw 8 (T_wo tX_52), zzI cy qdn 8 (T_ne tX_52), zzI cy qdg 8 (T_go tX_52), zzI cy qda 8 (T_ag tX_52), zzI cy qdr 8 (T_re tX_52), zzI cy qdm 8 (T_me tX_52), zzI cy qdt 8 (T_te tX_52), zzI cy qds 64 (shF (T_kn tX_52))]) hx hb hr hlocks (pSb hP [[true, true, true, true, true, true, true, true, true, true, true]] rfl rfl) (dSb hD [[true, true, true, true, true, true, true, true, true, true, true]] (by decide +kernel) rfl rfl) hS ⟨kX_48, kY_49, iX_50, iY_51, tX_52, rfl, ⟨by omega, by omega, by first | omega | (show T_nb tD + 1 ≤ 8; omega) | (show T_nb tD ≤ 8; omega), by first | omega | (show T_np tD + 1 ≤ 8; omega) | (show T_np tD ≤ 8; omega)⟩⟩ (g_177 bX3_readStatement rfl)
      · refine lv_if_eq (tgt := 48) hx hb dX3_readStatement_38 (by decide +kernel) (fun _ => ?_) (fun h9 => absurd (by decide +kernel) h9)
        refine lv_aload_n hx hb (g_42 bX3_readStatement rfl) rfl (lv_at hl 0 rfl) ?_
        obtain ⟨qs_55, qv_57, hs_56, hf_58⟩ := hX (RX3, 67, "knows", [107, 110, 111, 119, 115]) (List.mem_of_getElem? (i := 7) rfl)
        refine va_ldcS hx hb hown hs_56 (g_18 (v := 67) bX3_readStatement rfl) ?_
        refine kRi (rV (As := [.ref qs_55]) (rest := []) (b := qa) ⟨hx, hb, hml, hown, hts⟩ (c_X3_isWord l G cy qa qab kZ kS kE iT iF qd fB qs_55 ([107, 110, 111, 119, 115]) qv_57 hZ hE (by decide +kernel) as_knows) L_X3_50 (preRVX (q := (RX3, TX3, 7)) hN hP [0, 1] rfl 0 2 rfl rfl SF_ok hf_58 hS) rfl ⟨Nat.le_of_ble_eq_true rfl, Nat.le_of_ble_eq_true rfl⟩ hl.1 (Nat.le_of_ble_eq_true rfl) (g_182 (v := 50) bX3_readStatement rfl) ⟨Nat.le_of_ble_eq_true rfl, Nat.le_of_ble_eq_true rfl⟩) (fun r_59 h_60 => ?_)
        rcases h_60 with rfl | rfl
        · refine lv_if_eq (tgt := 64) hx hb dX3_readStatement_54 (by decide +kernel) (fun h9 => absurd h9 (by decide +kernel)) (fun _ => ?_)
          refine lv_aload_n hx hb (g_42 bX3_readStatement rfl) rfl (lv_at hl 0 rfl) ?_
          refine cVv (As := []) (rest := []) (b := qa) (q := (RX3, TX3, 7)) ⟨hx, hb, hml, hown, hts⟩ (c_X3_readKnows l G cy (s.heap).size qa qab kZ kS kE iT iF qd fB tD qdw qdn qdg qda qdr qdm qdt qds hZ hE hDb hDp) L_X3_69 hN hP hD hS hA (trueIx 0 [true, true, true, true, true, true, true, true, true, true, true]) [false, false, false, false, false, false, false, false, false, false, false] (sel_eq rfl rfl) (by decide +kernel) rfl 0 2 rfl rfl rfl ⟨Nat.le_of_ble_eq_true rfl, Nat.le_of_ble_eq_true rfl⟩ hl.1 (Nat.le_of_ble_eq_true rfl) (g_182 (v := 69) bX3_readStatement rfl) ⟨Nat.le_of_ble_eq_true rfl, Nat.le_of_ble_eq_true rfl⟩ (fun u_65 H locs h_64 => ?_)
          clear hP hD hS
          intro hP hD hS
          obtain ⟨kX_66, kY_67, iX_68, iY_69, tX_70, hu9, h_71⟩ := h_64
          have hPD := pd_eq [zzO qa 2 [.ref qab, .int (nI kZ), .int (nI kX_66), .int (nI kY_67), .int iX_68, .int iY_69, .ref qd], _, zzO qd 3 [.int (nI (T_nb tX_70)), .int (nI (T_np tX_70)), .int (wb (T_wh tX_70)), .int (wb (T_gn tX_70)), .int (T_sd tX_70), .ref qdw, .ref qdn, .ref qdg, .ref qda, .ref qdr, .ref qdm, .ref qdt, .ref qds], zzI cy qdw 8 (T_wo tX_70), zzI cy qdn 8 (T_ne tX_70), zzI cy qdg 8 (T_go tX_70), zzI cy qda 8 (T_ag tX_70), zzI cy qdr 8 (T_re tX_70), zzI cy qdm 8 (T_me tX_70), zzI cy qdt 8 (T_te tX_70), zzI cy qds 64 (shF (T_kn tX_70))] hP hD hu9 rfl
          clear hP hD hu9
          obtain ⟨hP, hD⟩ := hPD
          refine lv_goto (tgt := 84) hx hb dX3_readStatement_61 (by decide +kernel) ?_
          exact endV (u := [zzO qa 2 [.ref qab, .int (nI kZ), .int (nI kX_66), .int (nI kY_67), .int iX_68, .int iY_69, .ref qd], zzB cy qab 250 fB, zzO qd 3 [.int (nI (T_nb tX_70)), .int (nI (T_np tX_70)), .int (wb (T_wh tX_70)), .int (wb (T_gn tX_70)), .int (T_sd tX_70), .ref qdw, .ref qdn, .ref qdg, .ref qda, .ref qdr, .ref qdm, .ref qdt, .ref qds], zzI cy qdw 8 (T_wo tX_70), zzI cy qdn 8 (T_ne tX_70), zzI cy qdg 8 (T_go tX_70), zzI cy qda 8 (T_ag tX_70), zzI cy qdr 8 (T_re tX_70), zzI cy qdm 8 (T_me tX_70), zzI cy qdt 8 (T_te tX_70), zzI cy qds 64 (shF (T_kn tX_70))]) hx hb hr hlocks (pSb hP [[true, true, true, true, true, true, true, true, true, true, true]] rfl rfl) (dSb hD [[true, true, true, true, true, true, true, true, true, true, true]] (by decide +kernel) rfl rfl) hS ⟨kX_66, kY_67, iX_68, iY_69, tX_70, rfl, ⟨by omega, by omega, by first | omega | (show T_nb tD + 1 ≤ 8; omega) | (show T_nb tD ≤ 8; omega), by first | omega | (show T_np tD + 1 ≤ 8; omega) | (show T_np tD ≤ 8; omega)⟩⟩ (g_177 bX3_readStatement rfl)
        · refine lv_if_eq (tgt := 64) hx hb dX3_readStatement_54 (by decide +kernel) (fun _ => ?_) (fun h9 => absurd (by decide +kernel) h9)
          refine lv_aload_n hx hb (g_42 bX3_readStatement rfl) rfl (lv_at hl 0 rfl) ?_
          obtain ⟨qs_73, qv_75, hs_74, hf_76⟩ := hX (RX3, 72, "white", [119, 104, 105, 116, 101]) (List.mem_of_getElem? (i := 8) rfl)
          refine va_ldcS hx hb hown hs_74 (g_18 (v := 72) bX3_readStatement rfl) ?_
          refine kRi (rV (As := [.ref qs_73]) (rest := []) (b := qa) ⟨hx, hb, hml, hown, hts⟩ (c_X3_isWord l G cy qa qab kZ kS kE iT iF qd fB qs_73 ([119, 104, 105, 116, 101]) qv_75 hZ hE (by decide +kernel) as_white) L_X3_50 (preRVX (q := (RX3, TX3, 7)) hN hP [0, 1] rfl 0 2 rfl rfl SF_ok hf_76 hS) rfl ⟨Nat.le_of_ble_eq_true rfl, Nat.le_of_ble_eq_true rfl⟩ hl.1 (Nat.le_of_ble_eq_true rfl) (g_182 (v := 50) bX3_readStatement rfl) ⟨Nat.le_of_ble_eq_true rfl, Nat.le_of_ble_eq_true rfl⟩) (fun r_77 h_78 => ?_)
          rcases h_78 with rfl | rfl
          · refine lv_if_eq (tgt := 80) hx hb dX3_readStatement_70 (by decide +kernel) (fun h9 => absurd h9 (by decide +kernel)) (fun _ => ?_)
            refine lv_aload_n hx hb (g_42 bX3_readStatement rfl) rfl (lv_at hl 0 rfl) ?_
            refine cVv (As := []) (rest := []) (b := qa) (q := (RX3, TX3, 7)) ⟨hx, hb, hml, hown, hts⟩ (c_X3_readWhite l G cy (s.heap).size qa qab kZ kS kE iT iF qd fB tD qdw qdn qdg qda qdr qdm qdt qds hZ hE hDb hDp) L_X3_74 hN hP hD hS hA (trueIx 0 [true, true, true, true, true, true, true, true, true, true, true]) [false, false, false, false, false, false, false, false, false, false, false] (sel_eq rfl rfl) (by decide +kernel) rfl 0 2 rfl rfl rfl ⟨Nat.le_of_ble_eq_true rfl, Nat.le_of_ble_eq_true rfl⟩ hl.1 (Nat.le_of_ble_eq_true rfl) (g_182 (v := 74) bX3_readStatement rfl) ⟨Nat.le_of_ble_eq_true rfl, Nat.le_of_ble_eq_true rfl⟩ (fun u_83 H locs h_82 => ?_)
            clear hP hD hS
            intro hP hD hS
            obtain ⟨kX_84, kY_85, iX_86, iY_87, tX_88, hu9, h_89⟩ := h_82
            have hPD := pd_eq [zzO qa 2 [.ref qab, .int (nI kZ), .int (nI kX_84), .int (nI kY_85), .int iX_86, .int iY_87, .ref qd], _, zzO qd 3 [.int (nI (T_nb tX_88)), .int (nI (T_np tX_88)), .int (wb (T_wh tX_88)), .int (wb (T_gn tX_88)), .int (T_sd tX_88), .ref qdw, .ref qdn, .ref qdg, .ref qda, .ref qdr, .ref qdm, .ref qdt, .ref qds], zzI cy qdw 8 (T_wo tX_88), zzI cy qdn 8 (T_ne tX_88), zzI cy qdg 8 (T_go tX_88), zzI cy qda 8 (T_ag tX_88), zzI cy qdr 8 (T_re tX_88), zzI cy qdm 8 (T_me tX_88), zzI cy qdt 8 (T_te tX_88), zzI cy qds 64 (shF (T_kn tX_88))] hP hD hu9 rfl
            clear hP hD hu9
            obtain ⟨hP, hD⟩ := hPD
            refine lv_goto (tgt := 84) hx hb dX3_readStatement_77 (by decide +kernel) ?_
            exact endV (u := [zzO qa 2 [.ref qab, .int (nI kZ), .int (nI kX_84), .int (nI kY_85), .int iX_86, .int iY_87, .ref qd], zzB cy qab 250 fB, zzO qd 3 [.int (nI (T_nb tX_88)), .int (nI (T_np tX_88)), .int (wb (T_wh tX_88)), .int (wb (T_gn tX_88)), .int (T_sd tX_88), .ref qdw, .ref qdn, .ref qdg, .ref qda, .ref qdr, .ref qdm, .ref qdt, .ref qds], zzI cy qdw 8 (T_wo tX_88), zzI cy qdn 8 (T_ne tX_88), zzI cy qdg 8 (T_go tX_88), zzI cy qda 8 (T_ag tX_88), zzI cy qdr 8 (T_re tX_88), zzI cy qdm 8 (T_me tX_88), zzI cy qdt 8 (T_te tX_88), zzI cy qds 64 (shF (T_kn tX_88))]) hx hb hr hlocks (pSb hP [[true, true, true, true, true, true, true, true, true, true, true]] rfl rfl) (dSb hD [[true, true, true, true, true, true, true, true, true, true, true]] (by decide +kernel) rfl rfl) hS ⟨kX_84, kY_85, iX_86, iY_87, tX_88, rfl, ⟨by omega, by omega, by first | omega | (show T_nb tD + 1 ≤ 8; omega) | (show T_nb tD ≤ 8; omega), by first | omega | (show T_np tD + 1 ≤ 8; omega) | (show T_np tD ≤ 8; omega)⟩⟩ (g_177 bX3_readStatement rfl)
          · refine lv_if_eq (tgt := 80) hx hb dX3_readStatement_70 (by decide +kernel) (fun _ => ?_) (fun h9 => absurd (by decide +kernel) h9)
            refine lv_aload_n hx hb (g_42 bX3_readStatement rfl) rfl (lv_at hl 0 rfl) ?_
            refine cVv (As := []) (rest := []) (b := qa) (q := (RX3, TX3, 7)) ⟨hx, hb, hml, hown, hts⟩ (c_X3_fail l G cy (s.heap).size qa qab kZ kS kE iT iF qd hZ hE) L_X3_45 hN hP hD hS hA [0] [false, true, true, true, true, true, true, true, true, true, true] rfl (by decide +kernel) rfl 0 2 rfl rfl rfl ⟨Nat.le_of_ble_eq_true rfl, Nat.le_of_ble_eq_true rfl⟩ hl.1 (Nat.le_of_ble_eq_true rfl) (g_182 (v := 45) bX3_readStatement rfl) ⟨Nat.le_of_ble_eq_true rfl, Nat.le_of_ble_eq_true rfl⟩ (fun u_93 H locs h_92 => ?_)
            clear hP hD hS
            intro hP hD hS
            obtain ⟨iX_94, hu9, h_95⟩ := h_92
            have hPD := pd_eq [_, _, _, _, _, _, _, _, _, _, zzO qa 2 [.ref qab, .int (nI kZ), .int (nI kS), .int (nI kE), .int iT, .int iX_94, .ref qd]] hP hD hu9 rfl
            clear hP hD hu9
            obtain ⟨hP, hD⟩ := hPD
            exact endV (u := [zzO qa 2 [.ref qab, .int (nI kZ), .int (nI kS), .int (nI kE), .int iT, .int iX_94, .ref qd], zzB cy qab 250 fB, zzO qd 3 [.int (nI (T_nb tD)), .int (nI (T_np tD)), .int (wb (T_wh tD)), .int (wb (T_gn tD)), .int (T_sd tD), .ref qdw, .ref qdn, .ref qdg, .ref qda, .ref qdr, .ref qdm, .ref qdt, .ref qds], zzI cy qdw 8 (T_wo tD), zzI cy qdn 8 (T_ne tD), zzI cy qdg 8 (T_go tD), zzI cy qda 8 (T_ag tD), zzI cy qdr 8 (T_re tD), zzI cy qdm 8 (T_me tD), zzI cy qdt 8 (T_te tD), zzI cy qds 64 (shF (T_kn tD))]) hx hb hr hlocks (pSb hP [[false, false, false, false, false, false, false, false, false, false, true], [true, true, true, true, true, true, true, true, true, true]] rfl rfl) (dSb hD [[false, false, false, false, false, false, false, false, false, false, true], [true, true, true, true, true, true, true, true, true, true]] (by decide +kernel) rfl rfl) hS ⟨kS, kE, iT, iX_94, tD, rfl, ⟨by omega, by omega, by first | omega | (show T_nb tD + 1 ≤ 8; omega) | (show T_nb tD ≤ 8; omega), by first | omega | (show T_np tD + 1 ≤ 8; omega) | (show T_np tD ≤ 8; omega)⟩⟩ (g_177 bX3_readStatement rfl)
set_option maxHeartbeats 4000000 in
set_option maxRecDepth 100000 in
theorem c_X3_readFrom (l : Launch) (G : va_G) (cy : Nat → ClassId) (sz : Nat) (qa : Nat) (qab : Nat) (kZ : Nat) (iT1 : Int32) (iT2 : Int32) (iT : Int32) (iF : Int32) (qd : Nat) (fB : Nat → Int32) (tD : TA) (qdw : Nat) (qdn : Nat) (qdg : Nat) (qda : Nat) (qdr : Nat) (qdm : Nat) (qdt : Nat) (qds : Nat) (qt : Nat) (tA : TA) (qtw : Nat) (qtn : Nat) (qtg : Nat) (qta : Nat) (qtr : Nat) (qtm : Nat) (qtt : Nat) (qts : Nat)  (hZ : kZ ≤ 250) (hB : T_nb tA ≤ 8) (hPp : T_np tA ≤ 8) : MWX l yX3_readFrom cX3_readFrom 3 (some .int) 10 0 0 G cy SO [zzO qa 2 [.ref qab, .int (nI kZ), .int iT1, .int iT2, .int iT, .int iF, .ref qd], zzB cy qab 250 fB, zzO qd 3 [.int (nI (T_nb tD)), .int (nI (T_np tD)), .int (wb (T_wh tD)), .int (wb (T_gn tD)), .int (T_sd tD), .ref qdw, .ref qdn, .ref qdg, .ref qda, .ref qdr, .ref qdm, .ref qdt, .ref qds], zzI cy qdw 8 (T_wo tD), zzI cy qdn 8 (T_ne tD), zzI cy qdg 8 (T_go tD), zzI cy qda 8 (T_ag tD), zzI cy qdr 8 (T_re tD), zzI cy qdm 8 (T_me tD), zzI cy qdt 8 (T_te tD), zzI cy qds 64 (shF (T_kn tD)), zzO qt 3 [.int (nI (T_nb tA)), .int (nI (T_np tA)), .int (wb (T_wh tA)), .int (wb (T_gn tA)), .int (T_sd tA), .ref qtw, .ref qtn, .ref qtg, .ref qta, .ref qtr, .ref qtm, .ref qtt, .ref qts], zzI cy qtw 8 (T_wo tA), zzI cy qtn 8 (T_ne tA), zzI cy qtg 8 (T_go tA), zzI cy qta 8 (T_ag tA), zzI cy qtr 8 (T_re tA), zzI cy qtm 8 (T_me tA), zzI cy qtt 8 (T_te tA), zzI cy qts 64 (shF (T_kn tA))] sz [.ref qa, .ref qt] (Wi G (fun r u => ∃ (iX1 : Int32) (iX2 : Int32) (iX : Int32) (iY : Int32) (tX : TA), u = [zzO qa 2 [.ref qab, .int (nI kZ), .int iX1, .int iX2, .int iX, .int iY, .ref qd], zzB cy qab 250 fB, zzO qd 3 [.int (nI (T_nb tX)), .int (nI (T_np tX)), .int (wb (T_wh tX)), .int (wb (T_gn tX)), .int (T_sd tX), .ref qdw, .ref qdn, .ref qdg, .ref qda, .ref qdr, .ref qdm, .ref qdt, .ref qds], zzI cy qdw 8 (T_wo tX), zzI cy qdn 8 (T_ne tX), zzI cy qdg 8 (T_go tX), zzI cy qda 8 (T_ag tX), zzI cy qdr 8 (T_re tX), zzI cy qdm 8 (T_me tX), zzI cy qdt 8 (T_te tX), zzI cy qds 64 (shF (T_kn tX)), zzO qt 3 [.int (nI (T_nb tA)), .int (nI (T_np tA)), .int (wb (T_wh tA)), .int (wb (T_gn tA)), .int (T_sd tA), .ref qtw, .ref qtn, .ref qtg, .ref qta, .ref qtr, .ref qtm, .ref qtt, .ref qts], zzI cy qtw 8 (T_wo tA), zzI cy qtn 8 (T_ne tA), zzI cy qtg 8 (T_go tA), zzI cy qta 8 (T_ag tA), zzI cy qtr 8 (T_re tA), zzI cy qtm 8 (T_me tA), zzI cy qtt 8 (T_te tA), zzI cy qts 64 (shF (T_kn tA))] ∧ (T_nb tX ≤ 8 ∧ T_np tX ≤ 8) ∧ (True))) := by
  refine enWX RX3 (by decide +kernel) rfl (Nat.le_of_ble_eq_true rfl) (fun p e s m below meth c ls A hx hb hml hown hts hr hlocks hP hN hl hin hD hA hS hX => ?_)
  have hin : meth.name = _ := hin
  have hK := hN.1
  replace hl : lv_has ls 3 [(0, .ref qa), (1, .ref qt)] := hl
  refine lv_aload_n hx hb (g_42 bX3_readFrom rfl) rfl (lv_at hl 0 rfl) ?_
  refine va_get (D := G) (ci := 2) (v := .ref qd) (C := RX3) (T := TX3) (N := 7) hx hb hts iX_X3 hown hK hP 0 rfl rfl 6 (by decide +kernel) (hts _ m_t156) (fun _ h9 => h9) rfl (g_180 (v := 18) bX3_readFrom rfl) ?_
  refine lv_aload_n hx hb (g_43 bX3_readFrom rfl) rfl (lv_at hl 1 rfl) ?_
  refine cVv (As := [.ref qt]) (rest := []) (b := qd) (q := (RX4, TX4, 13)) ⟨hx, hb, hml, hown, hts⟩ (c_X4_become l G cy (s.heap).size qd tD qdw qdn qdg qda qdr qdm qdt qds qt tA qtw qtn qtg qta qtr qtm qtt qts) L_X3_26 hN hP hD hS hA (trueIx 0 [false, false, true, true, true, true, true, true, true, true, true, true, true, true, true, true, true, true, true, true]) [true, true, false, false, false, false, false, false, false, false, false, false, false, false, false, false, false, false, false, false] (sel_eq rfl rfl) (by decide +kernel) rfl 2 3 rfl rfl rfl ⟨Nat.le_of_ble_eq_true rfl, Nat.le_of_ble_eq_true rfl⟩ hl.1 (Nat.le_of_ble_eq_true rfl) (g_182 (v := 26) bX3_readFrom rfl) ⟨Nat.le_of_ble_eq_true rfl, Nat.le_of_ble_eq_true rfl⟩ (fun u_3 H locs h_2 => ?_)
  clear hP hD hS
  intro hP hD hS
  have hPD := pd_eq [_, _, zzO qd 3 [.int (nI (T_nb tA)), .int (nI (T_np tA)), .int (wb (T_wh tA)), .int (wb (T_gn tA)), .int (T_sd tA), .ref qdw, .ref qdn, .ref qdg, .ref qda, .ref qdr, .ref qdm, .ref qdt, .ref qds], zzI cy qdw 8 (T_wo tA), zzI cy qdn 8 (T_ne tA), zzI cy qdg 8 (T_go tA), zzI cy qda 8 (T_ag tA), zzI cy qdr 8 (T_re tA), zzI cy qdm 8 (T_me tA), zzI cy qdt 8 (T_te tA), zzI cy qds 64 (shF (T_kn tA)), _, _, _, _, _, _, _, _, _] hP hD h_2 rfl
  clear hP hD h_2
  obtain ⟨hP, hD⟩ := hPD
  refine lv_aload_n hx hb (g_42 bX3_readFrom rfl) rfl (lv_at hl 0 rfl) ?_
  refine lv_iconst (v := (-1)) hx hb (g_2 bX3_readFrom rfl) (by decide +kernel) ?_
  refine va_put (D := G) (ci := 2) (v := .int (-1)) (ty := .int) (C := RX3) (T := TX3) (N := 7) hx hb hts iX_X3 tyX3 tyX3_ok nmX3 hown hK hP hD hS 0 rfl rfl 5 (by decide +kernel) (hts _ m_t154) (fun _ h9 => h9) rfl (by decide +kernel) rfl rfl (Nat.le_of_ble_eq_true rfl) (g_181 (v := 30) bX3_readFrom rfl) (fun H locs => ?_)
  clear hP hD hS
  intro hP hD hS
  have hPD := pd_as [zzO qa 2 [.ref qab, .int (nI kZ), .int iT1, .int iT2, .int iT, .int (-1), .ref qd], _, _, _, _, _, _, _, _, _, _, _, _, _, _, _, _, _, _, _] hP hD rfl
  clear hP hD
  obtain ⟨hP, hD⟩ := hPD
  refine lv_aload_n hx hb (g_42 bX3_readFrom rfl) rfl (lv_at hl 0 rfl) ?_
  refine lv_iconst (v := 0) hx hb (g_3 bX3_readFrom rfl) (by decide +kernel) ?_
  refine va_put (D := G) (ci := 2) (v := .int 0) (ty := .int) (C := RX3) (T := TX3) (N := 7) hx hb hts iX_X3 tyX3 tyX3_ok nmX3 hown hK hP hD hS 0 rfl rfl 3 (by decide +kernel) (hts _ m_t152) (fun _ h9 => h9) rfl (by decide +kernel) rfl rfl (Nat.le_of_ble_eq_true rfl) (g_181 (v := 33) bX3_readFrom rfl) (fun H locs => ?_)
  clear hP hD hS
  intro hP hD hS
  have hPD := pd_as [zzO qa 2 [.ref qab, .int (nI kZ), .int iT1, .int 0, .int iT, .int (-1), .ref qd], _, _, _, _, _, _, _, _, _, _, _, _, _, _, _, _, _, _, _] hP hD rfl
  clear hP hD
  obtain ⟨hP, hD⟩ := hPD
  have hPD := pd_as [zzO qa 2 [.ref qab, .int (nI kZ), .int iT1, .int (nI 0), .int iT, .int (-1), .ref qd], _, _, _, _, _, _, _, _, _, _, _, _, _, _, _, _, _, _, _] hP hD rfl
  clear hP hD
  obtain ⟨hP, hD⟩ := hPD
  refine lv_aload_n hx hb (g_42 bX3_readFrom rfl) rfl (lv_at hl 0 rfl) ?_
  refine cVv (As := []) (rest := []) (b := qa) (q := (RX3, TX3, 7)) ⟨hx, hb, hml, hown, hts⟩ (c_X3_step l G cy (H).size qa qab kZ iT1 0 iT (-1) qd fB hZ (by first | omega | (simp only [nb_sr, np_sr, nb_wr, np_wr, nb_rd, np_rd, nb_ch, np_ch, nb_zr, np_zr, nb_za, np_za, nb_ey, np_ey, nb_hf, np_hf, nb_dd, np_dd, nb_so, np_so, nb_skn, np_skn, nb_swh, np_swh, nb_sgn, np_sgn, nb_ssd, np_ssd, nb_sgo, np_sgo, nb_sag, np_sag]; omega))) L_X3_36 hN hP hD hS hA [0, 1] [false, false, true, true, true, true, true, true, true, true, true, true, true, true, true, true, true, true, true, true] rfl (by decide +kernel) rfl 0 2 rfl rfl rfl ⟨Nat.le_of_ble_eq_true rfl, Nat.le_of_ble_eq_true rfl⟩ hl.1 (Nat.le_of_ble_eq_true rfl) (g_182 (v := 36) bX3_readFrom rfl) ⟨Nat.le_of_ble_eq_true rfl, Nat.le_of_ble_eq_true rfl⟩ (fun u_6 H locs h_5 => ?_)
  clear hP hD hS
  intro hP hD hS
  obtain ⟨kX_7, kY_8, iX_9, hu9, h_10⟩ := h_5
  have hPD := pd_eq [_, _, _, _, _, _, _, _, _, _, _, _, _, _, _, _, _, _, zzO qa 2 [.ref qab, .int (nI kZ), .int (nI kX_7), .int (nI kY_8), .int iX_9, .int (-1), .ref qd], _] hP hD hu9 rfl
  clear hP hD hu9
  obtain ⟨hP, hD⟩ := hPD
  refine lv_iconst (v := 1) hx hb (g_4 bX3_readFrom rfl) (by decide +kernel) ?_
  refine lv_istore_n (lv' := [(2, .int 1), (0, .ref qa), (1, .ref qt)]) hx hb (g_61 bX3_readFrom rfl) rfl hl (by decide +kernel) rfl (fun ls => ?_)
  clear hl
  intro hl
  replace hl : lv_has ls 3 [(2, .int (nI 1)), (0, .ref qa), (1, .ref qt)] := hl
  have lp_11 : ∀ (n_12 : Nat) (j_14 : Nat) (kS1_15 : Nat) (kE1_16 : Nat) (xT_17 : Int32) (xF_18 : Int32) (tJ_19 : TA), 251 - j_14 < n_12 → j_14 ≤ 251 ∧ 1 ≤ j_14 → kS1_15 ≤ kE1_16 ∧ kE1_16 ≤ kZ → T_nb tJ_19 ≤ 8 ∧ T_np tJ_19 ≤ 8 → ∀ (H : Heap) (locs : List Loc) (ls : Array Slot), va_P G CL [zzO qd 3 [.int (nI (T_nb tJ_19)), .int (nI (T_np tJ_19)), .int (wb (T_wh tJ_19)), .int (wb (T_gn tJ_19)), .int (T_sd tJ_19), .ref qdw, .ref qdn, .ref qdg, .ref qda, .ref qdr, .ref qdm, .ref qdt, .ref qds], zzI cy qdw 8 (T_wo tJ_19), zzI cy qdn 8 (T_ne tJ_19), zzI cy qdg 8 (T_go tJ_19), zzI cy qda 8 (T_ag tJ_19), zzI cy qdr 8 (T_re tJ_19), zzI cy qdm 8 (T_me tJ_19), zzI cy qdt 8 (T_te tJ_19), zzI cy qds 64 (shF (T_kn tJ_19)), zzO qt 3 [.int (nI (T_nb tA)), .int (nI (T_np tA)), .int (wb (T_wh tA)), .int (wb (T_gn tA)), .int (T_sd tA), .ref qtw, .ref qtn, .ref qtg, .ref qta, .ref qtr, .ref qtm, .ref qtt, .ref qts], zzI cy qtw 8 (T_wo tA), zzI cy qtn 8 (T_ne tA), zzI cy qtg 8 (T_go tA), zzI cy qta 8 (T_ag tA), zzI cy qtr 8 (T_re tA), zzI cy qtm 8 (T_me tA), zzI cy qtt 8 (T_te tA), zzI cy qts 64 (shF (T_kn tA)), zzO qa 2 [.ref qab, .int (nI kZ), .int (nI kS1_15), .int (nI kE1_16), .int xT_17, .int xF_18, .ref qd], zzB cy qab 250 fB] H → va_D A [zzO qd 3 [.int (nI (T_nb tJ_19)), .int (nI (T_np tJ_19)), .int (wb (T_wh tJ_19)), .int (wb (T_gn tJ_19)), .int (T_sd tJ_19), .ref qdw, .ref qdn, .ref qdg, .ref qda, .ref qdr, .ref qdm, .ref qdt, .ref qds], zzI cy qdw 8 (T_wo tJ_19), zzI cy qdn 8 (T_ne tJ_19), zzI cy qdg 8 (T_go tJ_19), zzI cy qda 8 (T_ag tJ_19), zzI cy qdr 8 (T_re tJ_19), zzI cy qdm 8 (T_me tJ_19), zzI cy qdt 8 (T_te tJ_19), zzI cy qds 64 (shF (T_kn tJ_19)), zzO qt 3 [.int (nI (T_nb tA)), .int (nI (T_np tA)), .int (wb (T_wh tA)), .int (wb (T_gn tA)), .int (T_sd tA), .ref qtw, .ref qtn, .ref qtg, .ref qta, .ref qtr, .ref qtm, .ref qtt, .ref qts], zzI cy qtw 8 (T_wo tA), zzI cy qtn 8 (T_ne tA), zzI cy qtg 8 (T_go tA), zzI cy qta 8 (T_ag tA), zzI cy qtr 8 (T_re tA), zzI cy qtm 8 (T_me tA), zzI cy qtt 8 (T_te tA), zzI cy qts 64 (shF (T_kn tA)), zzO qa 2 [.ref qab, .int (nI kZ), .int (nI kS1_15), .int (nI kE1_16), .int xT_17, .int xF_18, .ref qd], zzB cy qab 250 fB] → va_S A s.heap H locs → lv_has ls 3 [(2, .int (nI j_14)), (0, .ref qa), (1, .ref qt)] → W p l e (Rm 10 0 0) s m (List.toArray (α := Value) [.ref qa, .ref qt]) below meth c H locs 0 0 (MQ below ((Wi G (fun r u => ∃ (iX1 : Int32) (iX2 : Int32) (iX : Int32) (iY : Int32) (tX : TA), u = [zzO qa 2 [.ref qab, .int (nI kZ), .int iX1, .int iX2, .int iX, .int iY, .ref qd], zzB cy qab 250 fB, zzO qd 3 [.int (nI (T_nb tX)), .int (nI (T_np tX)), .int (wb (T_wh tX)), .int (wb (T_gn tX)), .int (T_sd tX), .ref qdw, .ref qdn, .ref qdg, .ref qda, .ref qdr, .ref qdm, .ref qdt, .ref qds], zzI cy qdw 8 (T_wo tX), zzI cy qdn 8 (T_ne tX), zzI cy qdg 8 (T_go tX), zzI cy qda 8 (T_ag tX), zzI cy qdr 8 (T_re tX), zzI cy qdm 8 (T_me tX), zzI cy qdt 8 (T_te tX), zzI cy qds 64 (shF (T_kn tX)), zzO qt 3 [.int (nI (T_nb tA)), .int (nI (T_np tA)), .int (wb (T_wh tA)), .int (wb (T_gn tA)), .int (T_sd tA), .ref qtw, .ref qtn, .ref qtg, .ref qta, .ref qtr, .ref qtm, .ref qtt, .ref qts], zzI cy qtw 8 (T_wo tA), zzI cy qtn 8 (T_ne tA), zzI cy qtg 8 (T_go tA), zzI cy qta 8 (T_ag tA), zzI cy qtr 8 (T_re tA), zzI cy qtm 8 (T_me tA), zzI cy qtt 8 (T_te tA), zzI cy qts 64 (shF (T_kn tA))] ∧ (T_nb tX ≤ 8 ∧ T_np tX ≤ 8) ∧ (True))) A) (List.toArray (α := Value) [.ref qa, .ref qt]) s 0 0 A) (F0 m 24 ls []) := by
    intro n_12
    induction n_12 with
    | zero => intro j_14 kS1_15 kE1_16 xT_17 xF_18 tJ_19 hm9; exact absurd hm9 (Nat.not_lt_zero _)
    | succ n_12 ih_13 =>
      intro j_14 kS1_15 kE1_16 xT_17 xF_18 tJ_19 hm_23 hj_20 hSE_21 hn_22 H locs ls hP hD hS hl
      refine lv_iload_n hx hb (g_28 bX3_readFrom rfl) rfl (lv_at hl 0 rfl) ?_
      refine lv_sipush (v := 250) hx hb dX3_readFrom_25 (by decide +kernel) ?_
      refine lv_icmp_gt (tgt := 76) hx hb dX3_readFrom_28 (by decide +kernel) (fun c_24 => ?_) (fun c_24 => ?_)
      · refine lv_sipush (v := 250) hx hb dX3_readFrom_76 (by decide +kernel) ?_
        exact endWs [[false, false, false, false, false, false, false, false, false, false, false, false, false, false, false, false, false, false, true, true], [true, true, true, true, true, true, true, true, true, true, true, true, true, true, true, true, true, true]] hx hb hr hlocks rfl hP hD rfl (by decide +kernel) hS ⟨nI kS1_15, nI kE1_16, xT_17, xF_18, tJ_19, rfl, ⟨by omega, by omega⟩, trivial⟩ (g_172 bX3_readFrom rfl)
      · have hlt_25 : j_14 < 251 := cnt250 (by omega) c_24
        refine lv_aload_n hx hb (g_42 bX3_readFrom rfl) rfl (lv_at hl 1 rfl) ?_
        refine cVXv (As := []) (rest := []) (b := qa) (q := (RX3, TX3, 7)) ⟨hx, hb, hml, hown, hts⟩ (c_X3_readStatement l G cy (H).size qa qab kZ kS1_15 kE1_16 xT_17 xF_18 qd fB tJ_19 qdw qdn qdg qda qdr qdm qdt qds hZ hSE_21 (by first | omega | (simp only [nb_sr, np_sr, nb_wr, np_wr, nb_rd, np_rd, nb_ch, np_ch, nb_zr, np_zr, nb_za, np_za, nb_ey, np_ey, nb_hf, np_hf, nb_dd, np_dd, nb_so, np_so, nb_skn, np_skn, nb_swh, np_swh, nb_sgn, np_sgn, nb_ssd, np_ssd, nb_sgo, np_sgo, nb_sag, np_sag]; omega)) (by first | omega | (simp only [nb_sr, np_sr, nb_wr, np_wr, nb_rd, np_rd, nb_ch, np_ch, nb_zr, np_zr, nb_za, np_za, nb_ey, np_ey, nb_hf, np_hf, nb_dd, np_dd, nb_so, np_so, nb_skn, np_skn, nb_swh, np_swh, nb_sgn, np_sgn, nb_ssd, np_ssd, nb_sgo, np_sgo, nb_sag, np_sag]; omega))) L_X3_39 hN hP hD hS hA (trueIxs [[false, false, false, false, false, false, false, false, false, false, false, false, false, false, false, false, false, false, true, true], [true, true, true, true, true, true, true, true, true]]) [false, false, false, false, false, false, false, false, false, true, true, true, true, true, true, true, true, true, false, false] (sels_eq rfl rfl) (by decide +kernel) rfl 18 2 rfl rfl SO_ok hX rfl ⟨Nat.le_of_ble_eq_true rfl, Nat.le_of_ble_eq_true rfl⟩ hl.1 (Nat.le_of_ble_eq_true rfl) (g_182 (v := 39) bX3_readFrom rfl) ⟨Nat.le_of_ble_eq_true rfl, Nat.le_of_ble_eq_true rfl⟩ (fun u_28 H locs h_27 => ?_)
        clear hP hD hS
        intro hP hD hS
        obtain ⟨kX_29, kY_30, iX_31, iY_32, tX_33, hu9, h_34⟩ := h_27
        have hPD := pd_eq [_, _, _, _, _, _, _, _, _, zzO qa 2 [.ref qab, .int (nI kZ), .int (nI kX_29), .int (nI kY_30), .int iX_31, .int iY_32, .ref qd], _, zzO qd 3 [.int (nI (T_nb tX_33)), .int (nI (T_np tX_33)), .int (wb (T_wh tX_33)), .int (wb (T_gn tX_33)), .int (T_sd tX_33), .ref qdw, .ref qdn, .ref qdg, .ref qda, .ref qdr, .ref qdm, .ref qdt, .ref qds], zzI cy qdw 8 (T_wo tX_33), zzI cy qdn 8 (T_ne tX_33), zzI cy qdg 8 (T_go tX_33), zzI cy qda 8 (T_ag tX_33), zzI cy qdr 8 (T_re tX_33), zzI cy qdm 8 (T_me tX_33), zzI cy qdt 8 (T_te tX_33), zzI cy qds 64 (shF (T_kn tX_33))] hP hD hu9 rfl
        clear hP hD hu9
        obtain ⟨hP, hD⟩ := hPD
        refine lv_aload_n hx hb (g_42 bX3_readFrom rfl) rfl (lv_at hl 1 rfl) ?_
        refine va_get (D := G) (ci := 2) (v := .int iY_32) (C := RX3) (T := TX3) (N := 7) hx hb hts iX_X3 hown hK hP 9 rfl rfl 5 (by decide +kernel) (hts _ m_t154) (fun _ h9 => h9) rfl (g_180 (v := 30) bX3_readFrom rfl) ?_
        refine lv_iconst (v := (-1)) hx hb (g_2 bX3_readFrom rfl) (by decide +kernel) ?_
        refine lv_icmp_ne (tgt := 50) hx hb dX3_readFrom_40 (by decide +kernel) (fun c_35 => ?_) (fun c_35 => ?_)
        · refine lv_iload_n hx hb (g_28 bX3_readFrom rfl) rfl (lv_at hl 0 rfl) ?_
          exact endWs [[false, false, false, false, false, false, false, false, false, true, true, true, true, true, true, true, true, true, true, true], [true, true, true, true, true, true, true, true, true]] hx hb hr hlocks rfl hP hD rfl (by decide +kernel) hS ⟨nI kX_29, nI kY_30, iX_31, iY_32, tX_33, rfl, ⟨by omega, by omega⟩, trivial⟩ (g_172 bX3_readFrom rfl)
        · refine lv_aload_n hx hb (g_42 bX3_readFrom rfl) rfl (lv_at hl 1 rfl) ?_
          refine va_get (D := G) (ci := 2) (v := .int iX_31) (C := RX3) (T := TX3) (N := 7) hx hb hts iX_X3 hown hK hP 9 rfl rfl 4 (by decide +kernel) (hts _ m_t153) (fun _ h9 => h9) rfl (g_180 (v := 42) bX3_readFrom rfl) ?_
          refine lv_if_ne (tgt := 52) hx hb dX3_readFrom_47 (by decide +kernel) (fun c_36 => ?_) (fun c_36 => ?_)
          · refine lv_aload_n hx hb (g_42 bX3_readFrom rfl) rfl (lv_at hl 1 rfl) ?_
            refine va_get (D := G) (ci := 2) (v := .int iX_31) (C := RX3) (T := TX3) (N := 7) hx hb hts iX_X3 hown hK hP 9 rfl rfl 4 (by decide +kernel) (hts _ m_t153) (fun _ h9 => h9) rfl (g_180 (v := 42) bX3_readFrom rfl) ?_
            refine lv_iconst (v := 3) hx hb (g_6 bX3_readFrom rfl) (by decide +kernel) ?_
            refine lv_icmp_eq (tgt := 66) hx hb dX3_readFrom_57 (by decide +kernel) (fun c_37 => ?_) (fun c_37 => ?_)
            · refine lv_aload_n hx hb (g_42 bX3_readFrom rfl) rfl (lv_at hl 1 rfl) ?_
              refine cVv (As := []) (rest := []) (b := qa) (q := (RX3, TX3, 7)) ⟨hx, hb, hml, hown, hts⟩ (c_X3_step l G cy (H).size qa qab kZ (nI kX_29) kY_30 iX_31 iY_32 qd fB hZ (by first | omega | (simp only [nb_sr, np_sr, nb_wr, np_wr, nb_rd, np_rd, nb_ch, np_ch, nb_zr, np_zr, nb_za, np_za, nb_ey, np_ey, nb_hf, np_hf, nb_dd, np_dd, nb_so, np_so, nb_skn, np_skn, nb_swh, np_swh, nb_sgn, np_sgn, nb_ssd, np_ssd, nb_sgo, np_sgo, nb_sag, np_sag]; omega))) L_X3_36 hN hP hD hS hA [9, 10] [true, true, true, true, true, true, true, true, true, false, false, true, true, true, true, true, true, true, true, true] rfl (by decide +kernel) rfl 9 2 rfl rfl rfl ⟨Nat.le_of_ble_eq_true rfl, Nat.le_of_ble_eq_true rfl⟩ hl.1 (Nat.le_of_ble_eq_true rfl) (g_182 (v := 36) bX3_readFrom rfl) ⟨Nat.le_of_ble_eq_true rfl, Nat.le_of_ble_eq_true rfl⟩ (fun u_40 H locs h_39 => ?_)
              clear hP hD hS
              intro hP hD hS
              obtain ⟨kX_41, kY_42, iX_43, hu9, h_44⟩ := h_39
              have hPD := pd_eq [_, _, _, _, _, _, _, _, _, _, _, _, _, _, _, _, _, _, zzO qa 2 [.ref qab, .int (nI kZ), .int (nI kX_41), .int (nI kY_42), .int iX_43, .int iY_32, .ref qd], _] hP hD hu9 rfl
              clear hP hD hu9
              obtain ⟨hP, hD⟩ := hPD
              refine lv_iinc (v := nI (j_14 + 1)) (lv' := [(2, .int (nI (j_14 + 1))), (0, .ref qa), (1, .ref qt)]) hx hb dX3_readFrom_70 hl (k := 0) rfl (nI_1 _) (by decide +kernel) rfl (fun ls => ?_)
              clear hl
              intro hl
              refine lv_goto (tgt := 24) hx hb dX3_readFrom_73 (by decide +kernel) ?_
              exact ih_13 (j_14 + 1) kX_41 kY_42 iX_43 iY_32 tX_33 (by omega) (⟨by omega, by omega⟩) (⟨by omega, by omega⟩) (⟨by omega, by omega⟩) _ _ _ (pSb hP [[false, false, false, false, false, false, false, false, false, true, true, true, true, true, true, true, true, true], [true, true, true, true, true, true, true, true, true, false, false, false, false, false, false, false, false, false, true, true]] rfl rfl) (dSb hD [[false, false, false, false, false, false, false, false, false, true, true, true, true, true, true, true, true, true], [true, true, true, true, true, true, true, true, true, false, false, false, false, false, false, false, false, false, true, true]] (by decide +kernel) rfl rfl) hS (lv_sub hl [0, 1, 2] rfl)
            · refine lv_aload_n hx hb (g_42 bX3_readFrom rfl) rfl (lv_at hl 1 rfl) ?_
              refine cVv (As := []) (rest := []) (b := qa) (q := (RX3, TX3, 7)) ⟨hx, hb, hml, hown, hts⟩ (c_X3_fail l G cy (H).size qa qab kZ kX_29 kY_30 iX_31 iY_32 qd hZ (by first | omega | (simp only [nb_sr, np_sr, nb_wr, np_wr, nb_rd, np_rd, nb_ch, np_ch, nb_zr, np_zr, nb_za, np_za, nb_ey, np_ey, nb_hf, np_hf, nb_dd, np_dd, nb_so, np_so, nb_skn, np_skn, nb_swh, np_swh, nb_sgn, np_sgn, nb_ssd, np_ssd, nb_sgo, np_sgo, nb_sag, np_sag]; omega))) L_X3_45 hN hP hD hS hA [9] [true, true, true, true, true, true, true, true, true, false, true, true, true, true, true, true, true, true, true, true] rfl (by decide +kernel) rfl 9 2 rfl rfl rfl ⟨Nat.le_of_ble_eq_true rfl, Nat.le_of_ble_eq_true rfl⟩ hl.1 (Nat.le_of_ble_eq_true rfl) (g_182 (v := 45) bX3_readFrom rfl) ⟨Nat.le_of_ble_eq_true rfl, Nat.le_of_ble_eq_true rfl⟩ (fun u_47 H locs h_46 => ?_)
              clear hP hD hS
              intro hP hD hS
              obtain ⟨iX_48, hu9, h_49⟩ := h_46
              have hPD := pd_eq [_, _, _, _, _, _, _, _, _, _, _, _, _, _, _, _, _, _, _, zzO qa 2 [.ref qab, .int (nI kZ), .int (nI kX_29), .int (nI kY_30), .int iX_31, .int iX_48, .ref qd]] hP hD hu9 rfl
              clear hP hD hu9
              obtain ⟨hP, hD⟩ := hPD
              refine lv_iload_n hx hb (g_28 bX3_readFrom rfl) rfl (lv_at hl 0 rfl) ?_
              exact endWs [[false, false, false, false, false, false, false, false, false, false, false, false, false, false, false, false, false, false, false, true], [false, false, false, false, false, false, false, false, false, true, true, true, true, true, true, true, true, true, true], [true, true, true, true, true, true, true, true, true]] hx hb hr hlocks rfl hP hD rfl (by decide +kernel) hS ⟨nI kX_29, nI kY_30, iX_31, iX_48, tX_33, rfl, ⟨by omega, by omega⟩, trivial⟩ (g_172 bX3_readFrom rfl)
          · refine lv_iload_n hx hb (g_28 bX3_readFrom rfl) rfl (lv_at hl 0 rfl) ?_
            exact endWs [[false, false, false, false, false, false, false, false, false, true, true, true, true, true, true, true, true, true, true, true], [true, true, true, true, true, true, true, true, true]] hx hb hr hlocks rfl hP hD rfl (by decide +kernel) hS ⟨nI kX_29, nI kY_30, iX_31, iY_32, tX_33, rfl, ⟨by omega, by omega⟩, trivial⟩ (g_172 bX3_readFrom rfl)
  exact lp_11 ((251 - 1) + 1) 1 kX_7 kY_8 iX_9 (-1) tA (Nat.lt_succ_self _) (⟨by omega, by omega⟩) (⟨by omega, by omega⟩) (⟨by omega, by omega⟩) _ _ ls hP hD hS (lv_sub hl [0, 1, 2] rfl)
set_option maxHeartbeats 4000000 in
set_option maxRecDepth 100000 in
theorem p_X5_town (l : Launch) (G : va_G) (cy : Nat → ClassId) (sz : Nat) (qx : Nat) (qt : Nat) (qk : Nat) (qp : Nat) (qs : Nat) (qa : Nat) (qr : Nat) (iKp : Int32) (iYe : Int32) (iTv : Int32) (fR : Nat → Int32) (tA : TA) (qtw : Nat) (qtn : Nat) (qtg : Nat) (qta : Nat) (qtr : Nat) (qtm : Nat) (qtt : Nat) (qts : Nat) (qab : Nat) (kZ : Nat) (iT1 : Int32) (iT2 : Int32) (iT3 : Int32) (iT4 : Int32) (qd : Nat) (fB : Nat → Int32) (tD : TA) (qdw : Nat) (qdn : Nat) (qdg : Nat) (qda : Nat) (qdr : Nat) (qdm : Nat) (qdt : Nat) (qds : Nat)  (hDb : T_nb tD ≤ 8) (hB : T_nb tA ≤ 8) (hPp : T_np tA ≤ 8) (hZ : kZ ≤ 250) : MWX l yX5_town cX5_town 2 (some .int) 14 0 0 G cy SO [zzO qx 4 [.ref qt, .ref qk, .ref qp, .ref qs, .ref qa, .ref qr, .int iKp, .int iYe, .int iTv], zzI cy qr 5 fR, zzO qt 3 [.int (nI (T_nb tA)), .int (nI (T_np tA)), .int (wb (T_wh tA)), .int (wb (T_gn tA)), .int (T_sd tA), .ref qtw, .ref qtn, .ref qtg, .ref qta, .ref qtr, .ref qtm, .ref qtt, .ref qts], zzI cy qtw 8 (T_wo tA), zzI cy qtn 8 (T_ne tA), zzI cy qtg 8 (T_go tA), zzI cy qta 8 (T_ag tA), zzI cy qtr 8 (T_re tA), zzI cy qtm 8 (T_me tA), zzI cy qtt 8 (T_te tA), zzI cy qts 64 (shF (T_kn tA)), zzO qa 2 [.ref qab, .int (nI kZ), .int iT1, .int iT2, .int iT3, .int iT4, .ref qd], zzB cy qab 250 fB, zzO qd 3 [.int (nI (T_nb tD)), .int (nI (T_np tD)), .int (wb (T_wh tD)), .int (wb (T_gn tD)), .int (T_sd tD), .ref qdw, .ref qdn, .ref qdg, .ref qda, .ref qdr, .ref qdm, .ref qdt, .ref qds], zzI cy qdw 8 (T_wo tD), zzI cy qdn 8 (T_ne tD), zzI cy qdg 8 (T_go tD), zzI cy qda 8 (T_ag tD), zzI cy qdr 8 (T_re tD), zzI cy qdm 8 (T_me tD), zzI cy qdt 8 (T_te tD), zzI cy qds 64 (shF (T_kn tD))] sz [.ref qx] (Wi G (fun r u => ∃ (fX : Nat → Int32) (tN : TA) (kY : Nat) (iX4 : Int32) (iX5 : Int32) (iX6 : Int32) (iX7 : Int32) (tO : TA), u = [zzO qx 4 [.ref qt, .ref qk, .ref qp, .ref qs, .ref qa, .ref qr, .int iKp, .int iYe, .int iTv], zzI cy qr 5 fX, zzO qt 3 [.int (nI (T_nb tN)), .int (nI (T_np tN)), .int (wb (T_wh tN)), .int (wb (T_gn tN)), .int (T_sd tN), .ref qtw, .ref qtn, .ref qtg, .ref qta, .ref qtr, .ref qtm, .ref qtt, .ref qts], zzI cy qtw 8 (T_wo tN), zzI cy qtn 8 (T_ne tN), zzI cy qtg 8 (T_go tN), zzI cy qta 8 (T_ag tN), zzI cy qtr 8 (T_re tN), zzI cy qtm 8 (T_me tN), zzI cy qtt 8 (T_te tN), zzI cy qts 64 (shF (T_kn tN)), zzO qa 2 [.ref qab, .int (nI kY), .int iX4, .int iX5, .int iX6, .int iX7, .ref qd], zzB cy qab 250 fB, zzO qd 3 [.int (nI (T_nb tO)), .int (nI (T_np tO)), .int (wb (T_wh tO)), .int (wb (T_gn tO)), .int (T_sd tO), .ref qdw, .ref qdn, .ref qdg, .ref qda, .ref qdr, .ref qdm, .ref qdt, .ref qds], zzI cy qdw 8 (T_wo tO), zzI cy qdn 8 (T_ne tO), zzI cy qdg 8 (T_go tO), zzI cy qda 8 (T_ag tO), zzI cy qdr 8 (T_re tO), zzI cy qdm 8 (T_me tO), zzI cy qdt 8 (T_te tO), zzI cy qds 64 (shF (T_kn tO))] ∧ (T_nb tN ≤ 8 ∧ T_np tN ≤ 8 ∧ kY = 0 ∧ T_nb tO ≤ 8) ∧ (True))) := by
  refine enWX RX5 (by decide +kernel) rfl (Nat.le_of_ble_eq_true rfl) (fun p e s m below meth c ls A hx hb hml hown hts hr hlocks hP hN hl hin hD hA hS hX => ?_)
  have hin : meth.name = _ := hin
  have hK := hN.1
  replace hl : lv_has ls 2 [(0, .ref qx)] := hl
  refine lv_aload_n hx hb (g_42 bX5_town rfl) rfl (lv_at hl 0 rfl) ?_
  refine va_get (D := G) (ci := 4) (v := .ref qa) (C := RX5) (T := TX5) (N := 9) hx hb hts iX_X5 hown hK hP 0 rfl rfl 4 (by decide +kernel) (hts _ m_t178) (fun _ h9 => h9) rfl (g_180 (v := 36) bX5_town rfl) ?_
  refine lv_aload_n hx hb (g_42 bX5_town rfl) rfl (lv_at hl 0 rfl) ?_
  refine va_get (D := G) (ci := 4) (v := .ref qt) (C := RX5) (T := TX5) (N := 9) hx hb hts iX_X5 hown hK hP 0 rfl rfl 0 (by decide +kernel) (hts _ m_t174) (fun _ h9 => h9) rfl (g_180 (v := 10) bX5_town rfl) ?_
  refine cVXi (As := [.ref qt]) (rest := []) (b := qa) (q := (RX3, TX3, 7)) ⟨hx, hb, hml, hown, hts⟩ (c_X3_readFrom l G cy (s.heap).size qa qab kZ iT1 iT2 iT3 iT4 qd fB tD qdw qdn qdg qda qdr qdm qdt qds qt tA qtw qtn qtg qta qtr qtm qtt qts hZ hB hPp) L_X5_154 hN hP hD hS hA (trueIxs [[false, false, false, false, false, false, false, false, false, false, false, true, true, true, true, true, true, true, true, true, true, true], [false, false, true, true, true, true, true, true, true, true, true]]) [true, true, false, false, false, false, false, false, false, false, false, false, false, false, false, false, false, false, false, false, false, false] (sels_eq rfl rfl) (by decide +kernel) rfl 11 2 rfl rfl SO_ok hX rfl ⟨Nat.le_of_ble_eq_true rfl, Nat.le_of_ble_eq_true rfl⟩ hl.1 (Nat.le_of_ble_eq_true rfl) (g_182 (v := 154) bX5_town rfl) ⟨Nat.le_of_ble_eq_true rfl, Nat.le_of_ble_eq_true rfl⟩ (fun r_1 u_3 H locs h_2 => ?_)
  clear hP hD hS
  intro hP hD hS
  obtain ⟨iX_4, iX_5, iX_6, iY_7, tX_8, hu9, h_9, h_2⟩ := h_2
  have hPD := pd_eq [_, _, zzO qa 2 [.ref qab, .int (nI kZ), .int iX_4, .int iX_5, .int iX_6, .int iY_7, .ref qd], _, zzO qd 3 [.int (nI (T_nb tX_8)), .int (nI (T_np tX_8)), .int (wb (T_wh tX_8)), .int (wb (T_gn tX_8)), .int (T_sd tX_8), .ref qdw, .ref qdn, .ref qdg, .ref qda, .ref qdr, .ref qdm, .ref qdt, .ref qds], zzI cy qdw 8 (T_wo tX_8), zzI cy qdn 8 (T_ne tX_8), zzI cy qdg 8 (T_go tX_8), zzI cy qda 8 (T_ag tX_8), zzI cy qdr 8 (T_re tX_8), zzI cy qdm 8 (T_me tX_8), zzI cy qdt 8 (T_te tX_8), zzI cy qds 64 (shF (T_kn tX_8)), _, _, _, _, _, _, _, _, _] hP hD hu9 rfl
  clear hP hD hu9
  obtain ⟨hP, hD⟩ := hPD
  refine lv_istore_n (lv' := [(1, .int r_1), (0, .ref qx)]) hx hb (g_60 bX5_town rfl) rfl hl (by decide +kernel) rfl (fun ls => ?_)
  clear hl
  intro hl
  refine lv_aload_n hx hb (g_42 bX5_town rfl) rfl (lv_at hl 1 rfl) ?_
  refine va_get (D := G) (ci := 4) (v := .ref qa) (C := RX5) (T := TX5) (N := 9) hx hb hts iX_X5 hown hK hP 0 rfl rfl 4 (by decide +kernel) (hts _ m_t178) (fun _ h9 => h9) rfl (g_180 (v := 36) bX5_town rfl) ?_
  refine lv_iconst (v := 0) hx hb (g_3 bX5_town rfl) (by decide +kernel) ?_
  refine va_putN (D := G) (ci := 2) (v := .int 0) (ty := .int) (C := RX3) (T := TX3) (N := 7) hx hb hts iX_X3 tyX3 tyX3_ok nmX3 hown hK hP hD hS 2 rfl rfl 1 (by decide +kernel) (va_Nw.use rfl (hN.2.1 (RX5, 148, "EachBookOnce$Tape", "size", "I") (List.mem_of_getElem? (i := 29) rfl))) (fun _ h9 => h9) rfl (by decide +kernel) rfl rfl (Nat.le_of_ble_eq_true rfl) (g_181 (v := 148) bX5_town rfl) (fun H locs => ?_)
  clear hP hD hS
  intro hP hD hS
  have hPD := pd_as [_, _, zzO qa 2 [.ref qab, .int 0, .int iX_4, .int iX_5, .int iX_6, .int iY_7, .ref qd], _, _, _, _, _, _, _, _, _, _, _, _, _, _, _, _, _, _, _] hP hD rfl
  clear hP hD
  obtain ⟨hP, hD⟩ := hPD
  refine lv_aload_n hx hb (g_42 bX5_town rfl) rfl (lv_at hl 1 rfl) ?_
  refine va_get (D := G) (ci := 4) (v := .ref qa) (C := RX5) (T := TX5) (N := 9) hx hb hts iX_X5 hown hK hP 0 rfl rfl 4 (by decide +kernel) (hts _ m_t178) (fun _ h9 => h9) rfl (g_180 (v := 36) bX5_town rfl) ?_
  refine va_getN (D := G) (ci := 2) (v := .int iY_7) (C := RX3) (T := TX3) (N := 7) hx hb hts iX_X3 hown hK hP 2 rfl rfl 5 (by decide +kernel) (va_Nw.use rfl (hN.2.1 (RX5, 158, "EachBookOnce$Tape", "fault", "I") (List.mem_of_getElem? (i := 30) rfl))) (fun _ h9 => h9) rfl (g_180 (v := 158) bX5_town rfl) ?_
  refine lv_iconst (v := (-1)) hx hb (g_2 bX5_town rfl) (by decide +kernel) ?_
  refine lv_icmp_eq (tgt := 49) hx hb dX5_town_28 (by decide +kernel) (fun c_10 => ?_) (fun c_10 => ?_)
  · refine lv_aload_n hx hb (g_42 bX5_town rfl) rfl (lv_at hl 1 rfl) ?_
    refine va_get (D := G) (ci := 4) (v := .ref qt) (C := RX5) (T := TX5) (N := 9) hx hb hts iX_X5 hown hK hP 0 rfl rfl 0 (by decide +kernel) (hts _ m_t174) (fun _ h9 => h9) rfl (g_180 (v := 10) bX5_town rfl) ?_
    refine lv_aload_n hx hb (g_42 bX5_town rfl) rfl (lv_at hl 1 rfl) ?_
    refine va_get (D := G) (ci := 4) (v := .ref qa) (C := RX5) (T := TX5) (N := 9) hx hb hts iX_X5 hown hK hP 0 rfl rfl 4 (by decide +kernel) (hts _ m_t178) (fun _ h9 => h9) rfl (g_180 (v := 36) bX5_town rfl) ?_
    refine va_getN (D := G) (ci := 2) (v := .ref qd) (C := RX3) (T := TX3) (N := 7) hx hb hts iX_X3 hown hK hP 2 rfl rfl 6 (by decide +kernel) (va_Nw.use rfl (hN.2.1 (RX5, 161, "EachBookOnce$Tape", "draft", "LEachBookOnce$Town;") (List.mem_of_getElem? (i := 31) rfl))) (fun _ h9 => h9) rfl (g_180 (v := 161) bX5_town rfl) ?_
    refine cVv (As := [.ref qd]) (rest := []) (b := qt) (q := (RX4, TX4, 13)) ⟨hx, hb, hml, hown, hts⟩ (c_X4_become l G cy (H).size qt tA qtw qtn qtg qta qtr qtm qtt qts qd tX_8 qdw qdn qdg qda qdr qdm qdt qds) L_X5_164 hN hP hD hS hA (trueIxs [[false, false, false, false, false, false, false, false, false, false, false, false, false, true, true, true, true, true, true, true, true, true], [false, false, false, false, true, true, true, true, true, true, true, true, true]]) [true, true, true, true, false, false, false, false, false, false, false, false, false, false, false, false, false, false, false, false, false, false] (sels_eq rfl rfl) (by decide +kernel) rfl 13 3 rfl rfl rfl ⟨Nat.le_of_ble_eq_true rfl, Nat.le_of_ble_eq_true rfl⟩ hl.1 (Nat.le_of_ble_eq_true rfl) (g_182 (v := 164) bX5_town rfl) ⟨Nat.le_of_ble_eq_true rfl, Nat.le_of_ble_eq_true rfl⟩ (fun u_13 H locs h_12 => ?_)
    clear hP hD hS
    intro hP hD hS
    have hPD := pd_eq [_, _, _, _, zzO qt 3 [.int (nI (T_nb tX_8)), .int (nI (T_np tX_8)), .int (wb (T_wh tX_8)), .int (wb (T_gn tX_8)), .int (T_sd tX_8), .ref qtw, .ref qtn, .ref qtg, .ref qta, .ref qtr, .ref qtm, .ref qtt, .ref qts], zzI cy qtw 8 (T_wo tX_8), zzI cy qtn 8 (T_ne tX_8), zzI cy qtg 8 (T_go tX_8), zzI cy qta 8 (T_ag tX_8), zzI cy qtr 8 (T_re tX_8), zzI cy qtm 8 (T_me tX_8), zzI cy qtt 8 (T_te tX_8), zzI cy qts 64 (shF (T_kn tX_8)), _, _, _, _, _, _, _, _, _] hP hD h_12 rfl
    clear hP hD h_12
    obtain ⟨hP, hD⟩ := hPD
    refine lv_iload_n hx hb (g_27 bX5_town rfl) rfl (lv_at hl 0 rfl) ?_
    exact endWs [[true, true, false, false, true, true, true, true, true, true, true, true, true], [false, false, true, true, false, false, false, false, false, false, false, false, false, true, true, true, true, true, true, true, true, true]] hx hb hr hlocks rfl hP hD rfl (by decide +kernel) hS ⟨fR, tX_8, 0, iX_4, iX_5, iX_6, iY_7, tX_8, rfl, ⟨by omega, by omega, rfl, by omega⟩, trivial⟩ (g_172 bX5_town rfl)
  · refine lv_aload_n hx hb (g_42 bX5_town rfl) rfl (lv_at hl 1 rfl) ?_
    refine lv_bipush (v := (-2)) hx hb dX5_town_32 (by decide +kernel) ?_
    refine cVi (As := [.int (-2)]) (rest := []) (b := qx) (q := (RX5, TX5, 9)) ⟨hx, hb, hml, hown, hts⟩ (c_X5_refuse2 l G cy (H).size qx qt qk qp qs qa qr iKp iYe iTv fR) L_X5_56 hN hP hD hS hA [0, 1] [false, false, true, true, true, true, true, true, true, true, true, true, true, true, true, true, true, true, true, true, true, true] rfl (by decide +kernel) rfl 0 4 rfl rfl rfl ⟨Nat.le_of_ble_eq_true rfl, Nat.le_of_ble_eq_true rfl⟩ hl.1 (Nat.le_of_ble_eq_true rfl) (g_182 (v := 56) bX5_town rfl) ⟨Nat.le_of_ble_eq_true rfl, Nat.le_of_ble_eq_true rfl⟩ (fun r_14 u_16 H locs h_15 => ?_)
    clear hP hD hS
    intro hP hD hS
    obtain ⟨fX_17, hu9, h_15⟩ := h_15
    have hPD := pd_eq [_, _, _, _, _, _, _, _, _, _, _, _, _, _, _, _, _, _, _, _, _, zzI cy qr 5 fX_17] hP hD hu9 rfl
    clear hP hD hu9
    obtain ⟨hP, hD⟩ := hPD
    subst h_15
    refine lv_pop hx hb (g_87 bX5_town rfl) rfl ?_
    refine lv_bipush (v := (-20)) hx hb dX5_town_38 (by decide +kernel) ?_
    refine lv_aload_n hx hb (g_42 bX5_town rfl) rfl (lv_at hl 1 rfl) ?_
    refine va_get (D := G) (ci := 4) (v := .ref qa) (C := RX5) (T := TX5) (N := 9) hx hb hts iX_X5 hown hK hP 20 rfl rfl 4 (by decide +kernel) (hts _ m_t178) (fun _ h9 => h9) rfl (g_180 (v := 36) bX5_town rfl) ?_
    refine va_getN (D := G) (ci := 2) (v := .int iY_7) (C := RX3) (T := TX3) (N := 7) hx hb hts iX_X3 hown hK hP 0 rfl rfl 5 (by decide +kernel) (va_Nw.use rfl (hN.2.1 (RX5, 158, "EachBookOnce$Tape", "fault", "I") (List.mem_of_getElem? (i := 30) rfl))) (fun _ h9 => h9) rfl (g_180 (v := 158) bX5_town rfl) ?_
    refine lv_isub hx hb (g_100 bX5_town rfl) ?_
    exact endWs [[false, false, false, false, false, false, false, false, false, false, false, false, false, false, false, false, false, false, false, false, true, true], [false, false, false, false, false, false, false, false, false, false, false, true, true, true, true, true, true, true, true, true], [true, true, true, true, true, true, true, true, true, true, true]] hx hb hr hlocks rfl hP hD rfl (by decide +kernel) hS ⟨fX_17, tA, 0, iX_4, iX_5, iX_6, iY_7, tX_8, rfl, ⟨by omega, by omega, rfl, by omega⟩, trivial⟩ (g_172 bX5_town rfl)
end
section
/-! THE REFERENCE'S GRIDS: rows of books, of ones, of what is known -/
noncomputable def b01 (b : Bool) : Int32 := if b then 1 else 0
noncomputable def bkV (a b c : Int32) (w : Bool) : Nat → Int32 := fun i => if i = 0 then a else if i = 1 then b else if i = 2 then c else b01 w
noncomputable def onV (a b c d : Int32) (w : Bool) : Nat → Int32 := fun i => if i = 0 then a else if i = 1 then b else if i = 2 then c else if i = 3 then d else b01 w
noncomputable def bkR (t : TA) (j : Nat) : Nat → Int32 := bkV (T_wo t j) (T_ne t j) (T_go t j) (T_wh t j)
noncomputable def onR (t : TA) (j : Nat) : Nat → Int32 := onV (T_ag t j) (T_re t j) (T_me t j) (T_te t j) (T_gn t j)
noncomputable abbrev T_setwo (t : TA) (x : Nat → Int32) : TA := T_mk (T_nb t) (T_np t) (T_sd t) (T_wh t) (T_gn t) x (T_ne t) (T_go t) (T_ag t) (T_re t) (T_me t) (T_te t) (T_kn t)
noncomputable abbrev T_setre (t : TA) (x : Nat → Int32) : TA := T_mk (T_nb t) (T_np t) (T_sd t) (T_wh t) (T_gn t) (T_wo t) (T_ne t) (T_go t) (T_ag t) x (T_me t) (T_te t) (T_kn t)
noncomputable abbrev T_setme (t : TA) (x : Nat → Int32) : TA := T_mk (T_nb t) (T_np t) (T_sd t) (T_wh t) (T_gn t) (T_wo t) (T_ne t) (T_go t) (T_ag t) (T_re t) x (T_te t) (T_kn t)
noncomputable abbrev T_sette (t : TA) (x : Nat → Int32) : TA := T_mk (T_nb t) (T_np t) (T_sd t) (T_wh t) (T_gn t) (T_wo t) (T_ne t) (T_go t) (T_ag t) (T_re t) (T_me t) x (T_kn t)
noncomputable abbrev T_setnb (t : TA) (n : Nat) : TA := T_mk n (T_np t) (T_sd t) (T_wh t) (T_gn t) (T_wo t) (T_ne t) (T_go t) (T_ag t) (T_re t) (T_me t) (T_te t) (T_kn t)
noncomputable abbrev T_setnp (t : TA) (n : Nat) : TA := T_mk (T_nb t) n (T_sd t) (T_wh t) (T_gn t) (T_wo t) (T_ne t) (T_go t) (T_ag t) (T_re t) (T_me t) (T_te t) (T_kn t)
theorem c1_ : Int32.toNatClampNeg 1 = 1 := by decide +kernel
theorem c2_ : Int32.toNatClampNeg 2 = 2 := by decide +kernel
theorem c3_ : Int32.toNatClampNeg 3 = 3 := by decide +kernel
theorem c4_ : Int32.toNatClampNeg 4 = 4 := by decide +kernel
theorem c0_ : Int32.toNatClampNeg 0 = 0 := by decide +kernel
theorem bk_0 (t : TA) (k : Nat) : bkR t k (Int32.toNatClampNeg 0) = T_wo t k := by rw [c0_]; rfl
theorem bk_1 (t : TA) (k : Nat) : bkR t k (Int32.toNatClampNeg 1) = T_ne t k := by rw [c1_]; rfl
theorem bk_2 (t : TA) (k : Nat) : bkR t k (Int32.toNatClampNeg 2) = T_go t k := by rw [c2_]; rfl
theorem bk_3 (t : TA) (k : Nat) : bkR t k (Int32.toNatClampNeg 3) = b01 (T_wh t k) := by rw [c3_]; rfl
theorem on_0 (t : TA) (k : Nat) : onR t k (Int32.toNatClampNeg 0) = T_ag t k := by rw [c0_]; rfl
theorem on_1' (t : TA) (k : Nat) : onR t k (Int32.toNatClampNeg 1) = T_re t k := by rw [c1_]; rfl
theorem on_2' (t : TA) (k : Nat) : onR t k (Int32.toNatClampNeg 2) = T_me t k := by rw [c2_]; rfl
theorem on_3 (t : TA) (k : Nat) : onR t k (Int32.toNatClampNeg 3) = T_te t k := by rw [c3_]; rfl
theorem on_4 (t : TA) (k : Nat) : onR t k (Int32.toNatClampNeg 4) = b01 (T_gn t k) := by rw [c4_]; rfl
theorem b01_1 {b : Bool} (h : b01 b = 1) : b = true := by cases b with | true => rfl | false => exact absurd h (by decide +kernel)
theorem b01_n1 {b : Bool} (h : ¬ b01 b = 1) : b = false := by cases b with | false => rfl | true => exact absurd rfl h
theorem b01_0 {b : Bool} (h : b01 b = 0) : b = false := by cases b with | false => rfl | true => exact absurd h (by decide +kernel)
theorem b01_n0 {b : Bool} (h : ¬ b01 b = 0) : b = true := by cases b with | true => rfl | false => exact absurd rfl h
/-- a store into a row -/
theorem bk_v0 (a b c v : Int32) (w : Bool) : bkV v b c w = upd (bkV a b c w) 0 v := by
  funext j
  show _ = (if j = 0 then v else bkV a b c w j)
  by_cases h : j = 0
  · subst h; rfl
  · rw [if_neg h]; unfold bkV; simp [h]
theorem bk_u0 (t : TA) (k : Nat) (v : Int32) : bkR (T_setwo t (upd (T_wo t) k v)) k = upd (bkR t k) (Int32.toNatClampNeg 0) v := by
  rw [c0_]
  show bkV (upd (T_wo t) k v k) (T_ne t k) (T_go t k) (T_wh t k) = _
  rw [pk_us]
  exact bk_v0 _ _ _ _ _
theorem bk_n0 (t : TA) (k : Nat) (v : Int32) {j : Nat} (h : j ≠ k) : bkR (T_setwo t (upd (T_wo t) k v)) j = bkR t j := by
  show bkV (upd (T_wo t) k v j) (T_ne t j) (T_go t j) (T_wh t j) = _
  rw [pk_un h]
  rfl
theorem bk_v1 (a b c v : Int32) (w : Bool) : bkV a v c w = upd (bkV a b c w) 1 v := by
  funext j
  show _ = (if j = 1 then v else bkV a b c w j)
  by_cases h : j = 1
  · subst h; rfl
  · rw [if_neg h]; unfold bkV; simp [h]
theorem bk_u1 (t : TA) (k : Nat) (v : Int32) : bkR (T_setne t (upd (T_ne t) k v)) k = upd (bkR t k) (Int32.toNatClampNeg 1) v := by
  rw [c1_]
  show bkV (T_wo t k) (upd (T_ne t) k v k) (T_go t k) (T_wh t k) = _
  rw [pk_us]
  exact bk_v1 _ _ _ _ _
theorem bk_n1 (t : TA) (k : Nat) (v : Int32) {j : Nat} (h : j ≠ k) : bkR (T_setne t (upd (T_ne t) k v)) j = bkR t j := by
  show bkV (T_wo t j) (upd (T_ne t) k v j) (T_go t j) (T_wh t j) = _
  rw [pk_un h]
  rfl
theorem bk_v2 (a b c v : Int32) (w : Bool) : bkV a b v w = upd (bkV a b c w) 2 v := by
  funext j
  show _ = (if j = 2 then v else bkV a b c w j)
  by_cases h : j = 2
  · subst h; rfl
  · rw [if_neg h]; unfold bkV; simp [h]
theorem bk_u2 (t : TA) (k : Nat) (v : Int32) : bkR (T_setgo t (upd (T_go t) k v)) k = upd (bkR t k) (Int32.toNatClampNeg 2) v := by
  rw [c2_]
  show bkV (T_wo t k) (T_ne t k) (upd (T_go t) k v k) (T_wh t k) = _
  rw [pk_us]
  exact bk_v2 _ _ _ _ _
theorem bk_n2 (t : TA) (k : Nat) (v : Int32) {j : Nat} (h : j ≠ k) : bkR (T_setgo t (upd (T_go t) k v)) j = bkR t j := by
  show bkV (T_wo t j) (T_ne t j) (upd (T_go t) k v j) (T_wh t j) = _
  rw [pk_un h]
  rfl
theorem on_v0 (a b c d v : Int32) (w : Bool) : onV v b c d w = upd (onV a b c d w) 0 v := by
  funext j
  show _ = (if j = 0 then v else onV a b c d w j)
  by_cases h : j = 0
  · subst h; rfl
  · rw [if_neg h]; unfold onV; simp [h]
theorem on_u0 (t : TA) (k : Nat) (v : Int32) : onR (T_setag t (upd (T_ag t) k v)) k = upd (onR t k) (Int32.toNatClampNeg 0) v := by
  rw [c0_]
  show onV (upd (T_ag t) k v k) (T_re t k) (T_me t k) (T_te t k) (T_gn t k) = _
  rw [pk_us]
  exact on_v0 _ _ _ _ _ _
theorem on_n0 (t : TA) (k : Nat) (v : Int32) {j : Nat} (h : j ≠ k) : onR (T_setag t (upd (T_ag t) k v)) j = onR t j := by
  show onV (upd (T_ag t) k v j) (T_re t j) (T_me t j) (T_te t j) (T_gn t j) = _
  rw [pk_un h]
  rfl
theorem on_v1 (a b c d v : Int32) (w : Bool) : onV a v c d w = upd (onV a b c d w) 1 v := by
  funext j
  show _ = (if j = 1 then v else onV a b c d w j)
  by_cases h : j = 1
  · subst h; rfl
  · rw [if_neg h]; unfold onV; simp [h]
theorem on_u1 (t : TA) (k : Nat) (v : Int32) : onR (T_setre t (upd (T_re t) k v)) k = upd (onR t k) (Int32.toNatClampNeg 1) v := by
  rw [c1_]
  show onV (T_ag t k) (upd (T_re t) k v k) (T_me t k) (T_te t k) (T_gn t k) = _
  rw [pk_us]
  exact on_v1 _ _ _ _ _ _
theorem on_n1 (t : TA) (k : Nat) (v : Int32) {j : Nat} (h : j ≠ k) : onR (T_setre t (upd (T_re t) k v)) j = onR t j := by
  show onV (T_ag t j) (upd (T_re t) k v j) (T_me t j) (T_te t j) (T_gn t j) = _
  rw [pk_un h]
  rfl
theorem on_v2 (a b c d v : Int32) (w : Bool) : onV a b v d w = upd (onV a b c d w) 2 v := by
  funext j
  show _ = (if j = 2 then v else onV a b c d w j)
  by_cases h : j = 2
  · subst h; rfl
  · rw [if_neg h]; unfold onV; simp [h]
theorem on_u2 (t : TA) (k : Nat) (v : Int32) : onR (T_setme t (upd (T_me t) k v)) k = upd (onR t k) (Int32.toNatClampNeg 2) v := by
  rw [c2_]
  show onV (T_ag t k) (T_re t k) (upd (T_me t) k v k) (T_te t k) (T_gn t k) = _
  rw [pk_us]
  exact on_v2 _ _ _ _ _ _
theorem on_n2 (t : TA) (k : Nat) (v : Int32) {j : Nat} (h : j ≠ k) : onR (T_setme t (upd (T_me t) k v)) j = onR t j := by
  show onV (T_ag t j) (T_re t j) (upd (T_me t) k v j) (T_te t j) (T_gn t j) = _
  rw [pk_un h]
  rfl
theorem on_v3 (a b c d v : Int32) (w : Bool) : onV a b c v w = upd (onV a b c d w) 3 v := by
  funext j
  show _ = (if j = 3 then v else onV a b c d w j)
  by_cases h : j = 3
  · subst h; rfl
  · rw [if_neg h]; unfold onV; simp [h]
theorem on_u3 (t : TA) (k : Nat) (v : Int32) : onR (T_sette t (upd (T_te t) k v)) k = upd (onR t k) (Int32.toNatClampNeg 3) v := by
  rw [c3_]
  show onV (T_ag t k) (T_re t k) (T_me t k) (upd (T_te t) k v k) (T_gn t k) = _
  rw [pk_us]
  exact on_v3 _ _ _ _ _ _
theorem on_n3 (t : TA) (k : Nat) (v : Int32) {j : Nat} (h : j ≠ k) : onR (T_sette t (upd (T_te t) k v)) j = onR t j := by
  show onV (T_ag t j) (T_re t j) (T_me t j) (upd (T_te t) k v j) (T_gn t j) = _
  rw [pk_un h]
  rfl
theorem ub_n {f : Nat → Bool} {k j : Nat} {v : Bool} (h : j ≠ k) : updB f k v j = f j := if_neg h
theorem bk_n3 (t : TA) (k : Nat) (v : Bool) {j : Nat} (h : j ≠ k) : bkR (T_setwh t (updB (T_wh t) k v)) j = bkR t j := by
  show bkV (T_wo t j) (T_ne t j) (T_go t j) (updB (T_wh t) k v j) = _
  rw [ub_n h]
  rfl
theorem on_n4 (t : TA) (k : Nat) (v : Bool) {j : Nat} (h : j ≠ k) : onR (T_setgn t (updB (T_gn t) k v)) j = onR t j := by
  show onV (T_ag t j) (T_re t j) (T_me t j) (T_te t j) (updB (T_gn t) k v j) = _
  rw [ub_n h]
  rfl
theorem kn_u (t : TA) (k i : Nat) (v : Int32) : T_kn (T_setkn t (updM (T_kn t) k i v)) k = upd (T_kn t k) i v := if_pos rfl
theorem kn_n (t : TA) (k i : Nat) (v : Int32) {j : Nat} (h : j ≠ k) : T_kn (T_setkn t (updM (T_kn t) k i v)) j = T_kn t j := if_neg h
/-- rows of four and five: the last column stands for all behind it, so a store there is told of the row's own places alone -/
theorem arr_at {G : va_G} {ws : va_W} {H : Heap} {n0 : Nat} {a : Nat} {cA : ClassId} {n : Nat} {f g : Nat → Int32} (hP : va_P G CL ws H) (h0 : ws[n0]? = some (a, .inl (cA, n, .inl f))) (h : ∀ i, i < n → f i = g i) : va_P G CL (ws.set n0 (a, .inl (cA, n, .inl g))) H := by
  intro k q hq
  by_cases hk : k = n0
  · subst hk
    have hl : k < ws.length := (List.getElem?_eq_some_iff.mp h0).1
    rw [List.getElem?_set_self hl] at hq
    cases hq
    have h1 := hP k _ h0
    exact Eq.trans h1 (congrArg some (arr_same h))
  · rw [List.getElem?_set_ne (fun e => hk e.symm)] at hq
    exact hP k q hq
theorem arr_dt {A : Nat → Prop} {ws : va_W} {n0 : Nat} {a : Nat} {e e' : va_E} (hD : va_D A ws) (h0 : ws[n0]? = some (a, e)) : va_D A (ws.set n0 (a, e')) := by
  have hl : n0 < ws.length := (List.getElem?_eq_some_iff.mp h0).1
  have key : ∀ (k : Nat) (z : Nat × va_E), (ws.set n0 (a, e'))[k]? = some z → ∃ z', ws[k]? = some z' ∧ z'.1 = z.1 := fun k z hz => by
    by_cases hk : k = n0
    · subst hk
      rw [List.getElem?_set_self hl] at hz
      cases hz
      exact ⟨_, h0, rfl⟩
    · rw [List.getElem?_set_ne (fun e => hk e.symm)] at hz
      exact ⟨z, hz, rfl⟩
  refine ⟨fun i j x y hx hy hxy => ?_, fun k q hq => ?_⟩
  · obtain ⟨x', h1, h2⟩ := key i x hx
    obtain ⟨y', h3, h4⟩ := key j y hy
    exact hD.1 i j x' y' h1 h3 (by rw [h2, h4]; exact hxy)
  · obtain ⟨z', h1, h2⟩ := key k q hq
    rw [← h2]
    exact hD.2 k z' h1
theorem sg8 {ws : va_W} {n0 : Nat} {f : Nat → Nat × va_E} (h0 : ws[n0]? = some (f 0)) (h1 : ws[n0 + 1]? = some (f 1)) (h2 : ws[n0 + 2]? = some (f 2)) (h3 : ws[n0 + 3]? = some (f 3)) (h4 : ws[n0 + 4]? = some (f 4)) (h5 : ws[n0 + 5]? = some (f 5)) (h6 : ws[n0 + 6]? = some (f 6)) (h7 : ws[n0 + 7]? = some (f 7)) : ∀ k, k < 8 → ws[n0 + k]? = some (f k)
  | 0, _ => h0
  | 1, _ => h1
  | 2, _ => h2
  | 3, _ => h3
  | 4, _ => h4
  | 5, _ => h5
  | 6, _ => h6
  | 7, _ => h7
  | k + 8, h => absurd h (by omega)
theorem set8 {ws ws' : va_W} {n0 k : Nat} {f f' : Nat → Nat × va_E} {x : Nat × va_E} (h : ∀ j, j < 8 → ws[n0 + j]? = some (f j)) (h' : ∀ j, j < 8 → ws'[n0 + j]? = some (f' j)) (ht : ws'.take n0 = ws.take n0) (hd : ws'.drop (n0 + 8) = ws.drop (n0 + 8)) (hk : k < 8) (hx : f' k = x) (hj : ∀ j, j ≠ k → f' j = f j) : ws.set (n0 + k) x = ws' := by
  have hl : n0 + k < ws.length := (List.getElem?_eq_some_iff.mp (h k hk)).1
  apply List.ext_getElem?
  intro i
  by_cases hi : i = n0 + k
  · subst hi
    rw [List.getElem?_set_self hl, h' k hk, hx]
  · rw [List.getElem?_set_ne (fun e => hi e.symm)]
    by_cases h1 : i < n0
    · have a1 := congrArg (fun z : va_W => z[i]?) ht
      simp only [List.getElem?_take, h1, if_true] at a1
      exact a1.symm
    · by_cases h2 : i < n0 + 8
      · obtain ⟨j, rfl⟩ : ∃ j, i = n0 + j := ⟨i - n0, by omega⟩
        rw [h j (by omega), h' j (by omega), hj j (by omega)]
      · obtain ⟨j, rfl⟩ : ∃ j, i = n0 + 8 + j := ⟨i - (n0 + 8), by omega⟩
        have a1 := congrArg (fun z : va_W => z[j]?) hd
        simp only [List.getElem?_drop] at a1
        exact a1.symm
theorem g_ref {r : Nat → Nat} {k : Nat} (h : k < 8) : va_rf ((fun i => if i < 8 then some (r i) else none) (nI k).toNatClampNeg) = .ref (r k) := by
  rw [nI_clamp (by omega)]
  show va_rf (if k < 8 then some (r k) else none) = _
  rw [if_pos h]
  rfl
theorem bk_w3 (t : TA) (k : Nat) (v : Bool) : ∀ i, i < 4 → upd (bkR t k) (Int32.toNatClampNeg 3) (b01 v) i = bkR (T_setwh t (updB (T_wh t) k v)) k i := by
  rw [c3_]
  intro i hi
  match i, hi with
  | 0, _ => rfl
  | 1, _ => rfl
  | 2, _ => rfl
  | 3, _ => show (if 3 = 3 then b01 v else _) = b01 (if k = k then v else _); rw [if_pos rfl, if_pos rfl]
  | i + 4, h => exact absurd h (by omega)
theorem on_w4 (t : TA) (k : Nat) (v : Bool) : ∀ i, i < 5 → upd (onR t k) (Int32.toNatClampNeg 4) (b01 v) i = onR (T_setgn t (updB (T_gn t) k v)) k i := by
  rw [c4_]
  intro i hi
  match i, hi with
  | 0, _ => rfl
  | 1, _ => rfl
  | 2, _ => rfl
  | 3, _ => rfl
  | 4, _ => show (if 4 = 4 then b01 v else _) = b01 (if k = k then v else _); rw [if_pos rfl, if_pos rfl]
  | i + 5, h => exact absurd h (by omega)
/-- ranges -/
noncomputable def R0 (n : Nat) (x : Int32) : Prop := ∃ k : Nat, k ≤ n ∧ x = nI k
theorem r_te {x y : Int32} (hx : R0 1000 x) (hy : R0 10 y) : R0 1000 (x * y / 10) := by
  obtain ⟨a, ha, rfl⟩ := hx
  obtain ⟨b, hb, rfl⟩ := hy
  have h1 : a * b ≤ 1000 * 10 := Nat.mul_le_mul ha hb
  refine ⟨a * b / 10, by omega, ?_⟩
  rw [pk_mul, show (10 : Int32) = nI 10 from rfl, pk_div (by omega) (by omega) (by omega)]
theorem r_gr {o g : Int32} (ho : R0 1000 o) (hg : R0 1000 g) : R0 1000 (zgr o g) := by
  obtain ⟨a, ha, rfl⟩ := ho
  obtain ⟨b, hb, rfl⟩ := hg
  have h1 : a * (b + 1000) ≤ 1000 * 2000 := Nat.mul_le_mul ha (by omega)
  refine ⟨a * (b + 1000) / 2000, by omega, ?_⟩
  unfold zgr
  rw [show (1000 : Int32) = nI 1000 from rfl, nI_add, pk_mul, show (2000 : Int32) = nI 2000 from rfl, pk_div (by omega) (by omega) (by omega)]
theorem r_mx {n : Nat} {a b : Int32} (ha : R0 n a) (hb : R0 n b) : R0 n (mx a b) := by
  unfold mx
  split
  · exact hb
  · exact ha
theorem r_gd {need : Int32} {K : Nat → Int32} (h : ∀ k, R0 1000 (K k)) : ∀ n, R0 1000 (gdF need K n) := by
  intro n
  induction n with
  | zero => exact ⟨1000, by omega, rfl⟩
  | succ n ih =>
    unfold gdF
    split
    · exact h n
    · exact ih
theorem r_half {x : Int32} (hx : R0 1000 x) : R0 1000 (x / 2) := by
  obtain ⟨a, ha, rfl⟩ := hx
  refine ⟨a / 2, by omega, ?_⟩
  rw [show (2 : Int32) = nI 2 from rfl, pk_div (by omega) (by omega) (by omega)]
theorem r_fg {x m : Int32} (hx : R0 1000 x) (hm : R0 10 m) : R0 1000 (x * (90 + m) / 100) := by
  obtain ⟨a, ha, rfl⟩ := hx
  obtain ⟨b, hb, rfl⟩ := hm
  have h1 : a * (90 + b) ≤ 1000 * 100 := Nat.mul_le_mul ha (by omega)
  refine ⟨a * (90 + b) / 100, by omega, ?_⟩
  rw [show (90 : Int32) = nI 90 from rfl, nI_add, pk_mul, show (100 : Int32) = nI 100 from rfl, pk_div (by omega) (by omega) (by omega)]
theorem r_0 (n : Nat) : R0 n 0 := ⟨0, by omega, rfl⟩
theorem r_iv {x : Int32} {b : Int64} (n : Nat) (hb : b.toInt = n) (h : Iv x.toInt64 0 b) : R0 n x := by
  obtain ⟨k, _, h2, h3⟩ := iv_nI 0 n (by decide +kernel) hb h
  exact ⟨k, h2, h3⟩
theorem r_lt {n : Nat} {x y : Int32} (hn : n ≤ 1000) (hx : R0 n x) (hy : R0 n y) (h : y < x) : R0 n (x - y) ∧ y + (x - y) = x := by
  obtain ⟨a, ha, rfl⟩ := hx
  obtain ⟨b, hb, rfl⟩ := hy
  rw [Int32.lt_iff_toInt_lt, nI_toInt (by omega), nI_toInt (by omega)] at h
  rw [pk_sub (by omega), nI_add]
  exact ⟨⟨a - b, by omega, rfl⟩, by congr 1; omega⟩
theorem gt_up {v x : Int32} (hv : R0 1000 v) (hx : R0 1000 x) (h : x < v) : mx 0 (v - x) = v - x := by
  obtain ⟨⟨k, hk, e⟩, _⟩ := r_lt (by omega) hv hx h
  unfold mx
  rw [e]
  split
  · rfl
  · next q =>
    rcases Nat.eq_zero_or_pos k with z | z
    · subst z; rfl
    · exact absurd (by rw [Int32.lt_iff_toInt_lt, nI_toInt (by omega)]; show (0 : Int) < _; omega) q
theorem gt_no {v x : Int32} (hv : R0 1000 v) (hx : R0 1000 x) (h : ¬ x < v) : mx 0 (v - x) = 0 := by
  obtain ⟨a, ha, rfl⟩ := hv
  obtain ⟨b, hb, rfl⟩ := hx
  unfold mx
  rw [if_neg]
  rw [Int32.lt_iff_toInt_lt, pk_sub_toInt (by omega) (by omega)]
  rw [Int32.lt_iff_toInt_lt, nI_toInt (by omega), nI_toInt (by omega)] at h
  show ¬ (0 : Int) < _
  omega
noncomputable def TI (t : TA) : Prop := (T_nb t ≤ 8 ∧ T_np t ≤ 8) ∧ (∀ p b, R0 1000 (T_kn t p b)) ∧ (∀ b, R0 1000 (T_go t b)) ∧ (∀ p, R0 10 (T_re t p)) ∧ (∀ p, R0 10 (T_me t p)) ∧ ∀ p, R0 10 (T_te t p)
theorem r_upd {n : Nat} {f : Nat → Int32} {k : Nat} {v : Int32} (h : ∀ j, R0 n (f j)) (hv : R0 n v) : ∀ j, R0 n (upd f k v j) := fun j => by
  show R0 n (if j = k then v else f j)
  split
  · exact hv
  · exact h j
theorem r_updM {n : Nat} {K : Nat → Nat → Int32} {p b : Nat} {v : Int32} (h : ∀ p b, R0 n (K p b)) (hv : R0 n v) : ∀ p' b', R0 n (updM K p b v p' b') := fun p' b' => by
  show R0 n ((if p' = p then upd (K p) b v else K p') b')
  split
  · exact r_upd (h p) hv b'
  · exact h p' b'
theorem TI_kn {t : TA} (h : TI t) {p b : Nat} {v : Int32} (hv : R0 1000 v) : TI (T_setkn t (updM (T_kn t) p b v)) := ⟨h.1, r_updM h.2.1 hv, h.2.2⟩
theorem TI_wh {t : TA} (h : TI t) (x : Nat → Bool) : TI (T_setwh t x) := h
theorem TI_ag {t : TA} (h : TI t) (x : Nat → Int32) : TI (T_setag t x) := h
theorem TI_go {t : TA} (h : TI t) {b : Nat} {v : Int32} (hv : R0 1000 v) : TI (T_setgo t (upd (T_go t) b v)) := ⟨h.1, h.2.1, r_upd h.2.2.1 hv, h.2.2.2⟩
theorem r_wk {t : TA} (h : TI t) (p b : Nat) : R0 1000 (zwk t p b) := r_mx (r_gr (r_te (h.2.2.1 b) (h.2.2.2.1 p)) (r_gd (h.2.1 p) b)) (h.2.1 p b)
theorem TI_rd {t : TA} (h : TI t) (p b : Nat) : TI (rdT t p b) := TI_kn h (r_wk h p b)
theorem wk_m1 {t : TA} (h : TI t) (p b : Nat) : ¬ zwk t p b = -1 := by
  obtain ⟨k, hk, e⟩ := r_wk h p b
  rw [e]
  exact nI_ne1' (by omega)
theorem wk_gt {t : TA} (h : TI t) (p b : Nat) : -1 < zwk t p b := by
  obtain ⟨k, hk, e⟩ := r_wk h p b
  rw [e, Int32.lt_iff_toInt_lt, nI_toInt (by omega)]
  show (-1 : Int) < _
  omega
theorem r_tl {t : TA} (h : TI t) (p o b : Nat) : R0 1000 (T_kn t o b + zgt t p o b) := by
  have hv := r_te (h.2.1 p b) (h.2.2.2.2.2 p)
  by_cases c : T_kn t o b < T_kn t p b * T_te t p / 10
  · unfold zgt
    rw [gt_up hv (h.2.1 o b) c, (r_lt (by omega) hv (h.2.1 o b) c).2]
    exact hv
  · unfold zgt
    rw [gt_no hv (h.2.1 o b) c, Int32.add_zero]
    exact h.2.1 o b
theorem TI_tl {t : TA} (h : TI t) (p o b : Nat) : TI (tlT t p o b) := TI_kn h (r_tl h p o b)
theorem mx_le {a b : Int32} (h : a ≤ b) : mx a b = b := by
  unfold mx
  split
  · rfl
  · next q =>
    have := Int32.le_iff_toInt_le.mp h
    have q2 : ¬ a.toInt < b.toInt := fun z => q (Int32.lt_iff_toInt_lt.mpr z)
    exact Int32.toInt_inj.mp (by omega)
theorem mx_gt {a b : Int32} (h : ¬ a ≤ b) : mx a b = a := by
  unfold mx
  exact if_neg (fun q => h (by rw [Int32.le_iff_toInt_le]; have := Int32.lt_iff_toInt_lt.mp q; omega))
theorem st8P {G : va_G} {H : Heap} {ws ws' : va_W} {n0 k a n : Nat} {cA : ClassId} {g0 g1 : Nat → Int32} {f f' : Nat → Nat × va_E} (hP : va_P G CL (ws.set (n0 + k) (a, .inl (cA, n, .inl g0))) H) (h : ∀ j, j < 8 → ws[n0 + j]? = some (f j)) (h' : ∀ j, j < 8 → ws'[n0 + j]? = some (f' j)) (ht : ws'.take n0 = ws.take n0) (hd : ws'.drop (n0 + 8) = ws.drop (n0 + 8)) (hk : k < 8) (hx : f' k = (a, .inl (cA, n, .inl g1))) (hg : ∀ i, i < n → g0 i = g1 i) (hj : ∀ j, j ≠ k → f' j = f j) : va_P G CL ws' H := by
  have hl : n0 + k < ws.length := (List.getElem?_eq_some_iff.mp (h k hk)).1
  have h1 := arr_at (g := g1) hP (List.getElem?_set_self hl) hg
  rw [List.set_set, set8 h h' ht hd hk hx hj] at h1
  exact h1
theorem st8D {A : Nat → Prop} {ws ws' : va_W} {n0 k a : Nat} {e e' : va_E} {f f' : Nat → Nat × va_E} (hD : va_D A (ws.set (n0 + k) (a, e))) (h : ∀ j, j < 8 → ws[n0 + j]? = some (f j)) (h' : ∀ j, j < 8 → ws'[n0 + j]? = some (f' j)) (ht : ws'.take n0 = ws.take n0) (hd : ws'.drop (n0 + 8) = ws.drop (n0 + 8)) (hk : k < 8) (hx : f' k = (a, e')) (hj : ∀ j, j ≠ k → f' j = f j) : va_D A ws' := by
  have hl : n0 + k < ws.length := (List.getElem?_eq_some_iff.mp (h k hk)).1
  have h1 := arr_dt (e' := e') hD (List.getElem?_set_self hl)
  rw [List.set_set, set8 h h' ht hd hk hx hj] at h1
  exact h1
theorem st8PD {G : va_G} {H : Heap} {A : Nat → Prop} {ws ws' : va_W} {n0 k a n : Nat} {cA : ClassId} {g0 g1 : Nat → Int32} {f f' : Nat → Nat × va_E} (hP : va_P G CL (ws.set (n0 + k) (a, .inl (cA, n, .inl g0))) H) (hD : va_D A (ws.set (n0 + k) (a, .inl (cA, n, .inl g0)))) (h : ∀ j, j < 8 → ws[n0 + j]? = some (f j)) (h' : ∀ j, j < 8 → ws'[n0 + j]? = some (f' j)) (ht : ws'.take n0 = ws.take n0) (hd : ws'.drop (n0 + 8) = ws.drop (n0 + 8)) (hk : k < 8) (hx : f' k = (a, .inl (cA, n, .inl g1))) (hg : ∀ i, i < n → g0 i = g1 i) (hj : ∀ j, j ≠ k → f' j = f j) : va_P G CL ws' H ∧ va_D A ws' := ⟨st8P hP h h' ht hd hk hx hg hj, st8D hD h h' ht hd hk hx hj⟩
end
