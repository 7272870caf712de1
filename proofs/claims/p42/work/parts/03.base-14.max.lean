section
/-! what all contracts share: one list of words, one picture of the tables, the ways in, out and through a call -/
noncomputable abbrev CL : List vw_C := [(RX0, TX0, 4), (RX2, TX2, 4), (RX3, TX3, 7), (RX4, TX4, 13), (RX5, TX5, 9), (RX6, TX6, 35)]
noncomputable def BIG : List Cond := lw_tbl.filter goodWord
theorem big_of {w : Cond} (h : w ∈ lw_tbl) (g : goodWord w = true) : w ∈ BIG := List.mem_filter.mpr ⟨h, g⟩
theorem big_t {w : Cond} (i : Nat) (h : tables_1[i]? = some w) (g : goodWord w = true) : w ∈ BIG := big_of (List.mem_append_right _ (List.mem_of_getElem? h)) g
theorem big_s {w : Cond} (i : Nat) (h : (k2_sels lw_privs)[i]? = some w) (g : goodWord w = true) : w ∈ BIG := big_of (List.mem_append_left _ (List.mem_of_getElem? h)) g
theorem big_good : GoodIn BIG BIG := fun w h => ⟨h, good_of_word (List.mem_filter.mp h).2⟩
theorem gB {c : Cond} (h : c ∈ BIG) : GoodIn BIG (c :: BIG) := fun w hw => by
  rcases List.mem_cons.mp hw with rfl | hw
  · exact big_good _ h
  · exact big_good _ hw
noncomputable abbrev tysA (cy : Nat → ClassId) : List (ClassId × FieldType) := [(cy 0, .int), (cy 1, .long), (cy 2, .byte), (cy 3, .array .int), (cy 4, .array .long), (cy 5, .object RX6)]
noncomputable abbrev AO0 : String := "EachBookOnce"
noncomputable def nestF : List (String × Nat × String × String × String) := [(RX3, 77, "EachBookOnce$Town", "books", "I"), (RX1, 54, "EachBookOnce$Town", "books", "I"), (RX0, 70, "EachBookOnce$Town", "books", "I"), (RX5, 127, "EachBookOnce$Town", "books", "I"), (RX1, 40, "EachBookOnce$Town", "people", "I"), (RX0, 49, "EachBookOnce$Town", "people", "I"), (RX3, 98, "EachBookOnce$Town", "people", "I"), (RX5, 141, "EachBookOnce$Town", "people", "I"), (RX0, 73, "EachBookOnce$Town", "white", "I"), (RX3, 115, "EachBookOnce$Town", "white", "I"), (RX5, 180, "EachBookOnce$Town", "white", "I"), (RX1, 44, "EachBookOnce$Town", "gone", "I"), (RX5, 207, "EachBookOnce$Town", "gone", "I"), (RX5, 341, "EachBookOnce$Town", "luck", "I"), (RX5, 171, "EachBookOnce$Town", "worth", "[I"), (RX3, 95, "EachBookOnce$Town", "needed", "[I"), (RX5, 174, "EachBookOnce$Town", "needed", "[I"), (RX3, 89, "EachBookOnce$Town", "good", "[I"), (RX5, 177, "EachBookOnce$Town", "good", "[I"), (RX5, 195, "EachBookOnce$Town", "age", "[I"), (RX5, 198, "EachBookOnce$Town", "reading", "[I"), (RX5, 201, "EachBookOnce$Town", "memory", "[I"), (RX5, 204, "EachBookOnce$Town", "telling", "[I"), (RX5, 261, "EachBookOnce$Plans", "trial", "LEachBookOnce$Town;"), (RX5, 258, "EachBookOnce$Plans", "lastValue", "I"), (RX5, 291, "EachBookOnce$Plans", "bestSum", "I"), (RX5, 90, "EachBookOnce$Shelves", "holding", "[I"), (RX5, 67, "EachBookOnce$Shelves", "size", "[I"), (RX5, 112, "EachBookOnce$Shelves", "amount", "[I"), (RX5, 148, "EachBookOnce$Tape", "size", "I"), (RX5, 158, "EachBookOnce$Tape", "fault", "I"), (RX5, 161, "EachBookOnce$Tape", "draft", "LEachBookOnce$Town;")]
noncomputable def nestM : List (String × Nat × MethodName) := [(RX5, 9, yX4_init), (RX5, 21, yX0_init), (RX0, 11, yX4_init), (RX5, 35, yX3_init), (RX3, 17, yX4_init), (RX4, 62, yX5_has), (RX4, 58, yX5_setOfAll), (RX1, 47, yX5_has), (RX0, 52, yX5_has)]
noncomputable def strW : List (String × Nat × String) := [(RX3, 48, "book"), (RX3, 84, "good"), (RX3, 57, "need"), (RX3, 62, "one"), (RX3, 101, "reads"), (RX3, 103, "keeps"), (RX3, 105, "tells"), (RX3, 67, "knows"), (RX3, 72, "white"), (RX6, 198, "book"), (RX6, 199, "good"), (RX6, 204, "one"), (RX6, 205, "reads"), (RX6, 207, "keeps"), (RX6, 209, "tells"), (RX6, 210, "need"), (RX6, 212, "knows"), (RX6, 214, "white")]
noncomputable def KN (G : va_G) (cy : Nat → ClassId) (U : State) : Prop := va_K G CL (tysA cy) U ∧ (∀ q ∈ nestF, va_Nw (.fieldLinkNest q.1 q.2.1 q.2.2.1 q.2.2.2.1 q.2.2.2.2 AO0) U) ∧ (∀ q ∈ nestM, va_Nw (.methodLinkNest q.1 q.2.1 q.2.2 AO0) U) ∧ (∀ q ∈ strW, ∃ a : Nat, vk_R q.1 q.2.1 q.2.2 a U) ∧ va_AO RX6 U ∧ va_AOA .int U ∧ va_AOA .long U
theorem KN.warm {G : va_G} {cy : Nat → ClassId} {s U : State} (hW : s.WarmedH U.vm) (h : KN G cy s) : KN G cy U :=
  ⟨va_K.moved hW.alike h.1, fun q hq => va_Nw.warmF hW (h.2.1 q hq), fun q hq => va_Nw.warmM hW (h.2.2.1 q hq), fun q hq => (h.2.2.2.1 q hq).elim fun a ha => ⟨a, vk_R.warm hW ha⟩, va_AO.moved hW.alike h.2.2.2.2.1, va_AOA.moved hW.alike h.2.2.2.2.2.1, va_AOA.moved hW.alike h.2.2.2.2.2.2⟩
theorem KN.call {G : va_G} {cy : Nat → ClassId} {U : State} {g : JFrame} {mk : MethodId} {a : Array Value} (h : KN G cy U) : KN G cy (U.calling g mk a) :=
  ⟨va_K.moved (Vm.Alike.refl U.vm) h.1, fun q hq => va_Nw.same rfl rfl (h.2.1 q hq), fun q hq => va_Nw.same rfl rfl (h.2.2.1 q hq), fun q hq => (h.2.2.2.1 q hq).elim fun a ha => ⟨a, vk_R.same rfl ha⟩, va_AO.moved (Vm.Alike.refl U.vm) h.2.2.2.2.1, va_AOA.moved (Vm.Alike.refl U.vm) h.2.2.2.2.2.1, va_AOA.moved (Vm.Alike.refl U.vm) h.2.2.2.2.2.2⟩
/-- the starts: a method that only reads, a method that writes -/
noncomputable def Rd (G : va_G) (cy : Nat → ClassId) (ws : va_W) (av : List Value) : Array Value → State → Prop := va_Pc av (fun U => va_P G CL ws U.heap ∧ KN G cy U)
noncomputable def Wr (G : va_G) (cy : Nat → ClassId) (ws : va_W) (sz : Nat) (av : List Value) : Array Value → State → Prop := va_Pc av (fun U => U.heap.size = sz ∧ va_P G CL ws U.heap ∧ KN G cy U ∧ va_D (fun _ => True) ws)
theorem Rd.blind {G : va_G} {cy : Nat → ClassId} {ws : va_W} {av : List Value} : FrameBlind (Rd G cy ws av) := fun _ _ _ _ q => ⟨q.1, q.2.1, q.2.2.call⟩
theorem Wr.blind {G : va_G} {cy : Nat → ClassId} {ws : va_W} {sz : Nat} {av : List Value} : FrameBlind (Wr G cy ws sz av) := fun _ _ _ _ q => ⟨q.1, q.2.1, q.2.2.1, q.2.2.2.1.call, q.2.2.2.2⟩
noncomputable def Bw (G : va_G) (A : Nat → Prop) : va_W → State → Prop := fun u t => va_P G CL u t.heap ∧ va_D A u
noncomputable abbrev Rm (d mc ms : Nat) : Room := { frames := d, cells := mc, slots := ms, locals := 60 * d }
noncomputable abbrev MR (l : Launch) (y : MethodName) (cc : ByteArray) (n : Nat) (ret : Option FieldType) (d : Nat) (G : va_G) (cy : Nat → ClassId) (ws : va_W) (av : List Value) (Qc : Array Value → State → Outcome → State → Prop) : Prop := Met l y (.code y cc n ret :: BIG) (Rm d 0 0) (Rd G cy ws av) Qc 0 0 (fun _ => False)
noncomputable abbrev MW (l : Launch) (y : MethodName) (cc : ByteArray) (n : Nat) (ret : Option FieldType) (d mc ms : Nat) (G : va_G) (cy : Nat → ClassId) (ws : va_W) (sz : Nat) (av : List Value) (QA : (Nat → Prop) → Array Value → State → Outcome → State → Prop) : Prop := Met l y (.code y cc n ret :: BIG) (Rm d mc ms) (Wr G cy ws sz av) (QA (va_A ws sz)) mc ms (va_A ws sz)
/-- the ends of a method that writes -/
noncomputable abbrev Wi (G : va_G) (post : Int32 → va_W → Prop) : (Nat → Prop) → Array Value → State → Outcome → State → Prop := fun A => va_Qi post (Bw G A) A
noncomputable abbrev Wv (G : va_G) (post : va_W → Prop) : (Nat → Prop) → Array Value → State → Outcome → State → Prop := fun A => va_Qv post (Bw G A) A
noncomputable abbrev Wq (G : va_G) (post : Nat → va_W → Prop) : (Nat → Prop) → Array Value → State → Outcome → State → Prop := fun A => va_Qr (fun _ : va_W => True) (fun u a t => Bw G A u t ∧ post a u) A
theorem enR {l : Launch} {y : MethodName} {cc : ByteArray} {n : Nat} {ret : Option FieldType} {d : Nat} {G : va_G} {cy : Nat → ClassId} {ws : va_W} {av : List Value} {Qc : Array Value → State → Outcome → State → Prop} (own : String) (hy : plainName y.cls = true) (ho : y.cls = own) (hn : (lg_sl av).length ≤ n)
    (body : ∀ (p : Program) (e : Env) (s : State) (m : MethodId) (below : List Frame) (meth : Method) (c : Code) (ls : Array Slot), p.tables.exec = Jvm.exec → c.code = cc → c.maxLocals = n → s.vm.findClass own = some m.cls → (∀ w ∈ BIG, w.before av.toArray s = true) → meth.sig.returnType = ret → meth.locks = false → va_P G CL ws s.heap → KN G cy s → lv_has ls n (lv_args 0 av) →
      W p l e (Rm d 0 0) s m av.toArray below meth c s.heap [] 0 0 (MQ below Qc av.toArray s 0 0 (fun _ => False)) (F0 m 0 ls [])) : MR l y cc n ret d G cy ws av Qc := by
  refine Met.ofW (cc := cc) (maxL := n) (ret := ret) hy rfl ?_
  intro p e s m args below meth c s₁ B hml hv
  obtain ⟨rfl, hP, hN⟩ := hv
  have hts := atoms_spec (ws := .code y cc n ret :: BIG) B.pre
  have hown : s.vm.findClass own = some m.cls := by rw [← ho]; exact findClass_of_methodNamed B.named
  rw [lg_entry_eq]
  exact body p e s m below meth c _ B.exec B.bytes hml hown (fun w h => hts w (List.mem_cons_of_mem _ h)) B.returns B.notSynchronized hP hN (lv_entry av hn)
theorem enW {l : Launch} {y : MethodName} {cc : ByteArray} {n : Nat} {ret : Option FieldType} {d mc ms : Nat} {G : va_G} {cy : Nat → ClassId} {ws : va_W} {sz : Nat} {av : List Value} {QA : (Nat → Prop) → Array Value → State → Outcome → State → Prop} (own : String) (hy : plainName y.cls = true) (ho : y.cls = own) (hn : (lg_sl av).length ≤ n)
    (body : ∀ (p : Program) (e : Env) (s : State) (m : MethodId) (below : List Frame) (meth : Method) (c : Code) (ls : Array Slot) (A : Nat → Prop), p.tables.exec = Jvm.exec → c.code = cc → c.maxLocals = n → s.vm.findClass own = some m.cls → (∀ w ∈ BIG, w.before av.toArray s = true) → meth.sig.returnType = ret → meth.locks = false → va_P G CL ws s.heap → KN G cy s → lv_has ls n (lv_args 0 av) → meth.name = y.name →
      va_D A ws → (∀ q : Nat, s.heap.size ≤ q → A q) → va_S A s.heap s.heap [] →
      W p l e (Rm d mc ms) s m av.toArray below meth c s.heap [] 0 0 (MQ below (QA A) av.toArray s mc ms A) (F0 m 0 ls [])) : MW l y cc n ret d mc ms G cy ws sz av QA := by
  refine Met.ofW (cc := cc) (maxL := n) (ret := ret) hy rfl ?_
  intro p e s m args below meth c s₁ B hml hv
  obtain ⟨rfl, hsz, hP, hN, hD0⟩ := hv
  have hts := atoms_spec (ws := .code y cc n ret :: BIG) B.pre
  have hown : s.vm.findClass own = some m.cls := by rw [← ho]; exact findClass_of_methodNamed B.named
  subst hsz
  rw [lg_entry_eq]
  exact body p e s m below meth c _ _ B.exec B.bytes hml hown (fun w h => hts w (List.mem_cons_of_mem _ h)) B.returns B.notSynchronized hP hN (lv_entry av hn) (name_of_methodNamed B.named B.method).1 hD0.self (fun q h => Or.inr h) va_S.rf
/-- the links of a call -/
noncomputable abbrev LkD (y : MethodName) (k : Nat) : Prop := y.cls ≠ "java/lang/invoke/MethodHandle" ∧ y.cls ≠ "java/lang/invoke/VarHandle" ∧ (parseMethodDescriptor y.desc).map (fun d => d.parameters.length) = some k
noncomputable def LkV (own : String) (index : Nat) (C : String) (y : MethodName) (bytes : ByteArray) (maxL : Nat) (ret : Option FieldType) (k : Nat) : Prop := Cond.methodLink own index y ∈ BIG ∧ Cond.initialized y.cls ∈ BIG ∧ Cond.code y bytes maxL ret ∈ BIG ∧ LkD y k ∧ Cond.instanceMethod y ∈ BIG ∧ Cond.selects C y y ∈ BIG
noncomputable def LkS (own : String) (index : Nat) (y : MethodName) (bytes : ByteArray) (maxL : Nat) (ret : Option FieldType) (k : Nat) : Prop := Cond.methodLink own index y ∈ BIG ∧ Cond.initialized y.cls ∈ BIG ∧ Cond.code y bytes maxL ret ∈ BIG ∧ LkD y k ∧ Cond.static y ∈ BIG
noncomputable def LkI (own : String) (index : Nat) (y : MethodName) (bytes : ByteArray) (maxL : Nat) (k : Nat) : Prop := Cond.methodLink own index y ∈ BIG ∧ Cond.initialized y.cls ∈ BIG ∧ Cond.code y bytes maxL none ∈ BIG ∧ LkD y k ∧ y.name = "<init>" ∧ Cond.instanceMethod y ∈ BIG
noncomputable def LkSN (own : String) (index : Nat) (y : MethodName) (bytes : ByteArray) (maxL : Nat) (ret : Option FieldType) (k : Nat) : Prop := (own, index, y) ∈ nestM ∧ Cond.initialized y.cls ∈ BIG ∧ Cond.code y bytes maxL ret ∈ BIG ∧ LkD y k ∧ Cond.static y ∈ BIG
noncomputable def LkIN (own : String) (index : Nat) (y : MethodName) (bytes : ByteArray) (maxL : Nat) (k : Nat) : Prop := (own, index, y) ∈ nestM ∧ Cond.initialized y.cls ∈ BIG ∧ Cond.code y bytes maxL none ∈ BIG ∧ LkD y k ∧ y.name = "<init>" ∧ Cond.instanceMethod y ∈ BIG
section BCALL
variable {p : Program} {l : Launch} {e : Env} {R : Room} {s : State} {m : MethodId} {args : Array Value} {below : List Frame} {meth : Method} {c : Code} {H : Heap} {locs : List Loc} {cells slots : Nat} {Q : State → Prop}
variable {y : MethodName} {bytes cc : ByteArray} {maxL nL mc ms index d pc : Nat} {ret : Option FieldType} {Pc : Array Value → State → Prop} {Qc : Array Value → State → Outcome → State → Prop} {free : Addr → Prop} {own C : String} {b : Addr} {As rest st0 : List Value} {ls : Array Slot} {G : va_G} {cy : Nat → ClassId}
theorem rV (S : CallFix p m c cc nL s args BIG own) (hM : Met l y (.code y bytes maxL ret :: BIG) (Rm d mc ms) Pc Qc mc ms free) (L : LkV own index C y bytes maxL ret As.length) (hp : PreV s H C b Pc As) (hst : st0 = As.reverse ++ .ref b :: rest)
    (hR : d + 1 ≤ R.frames ∧ 8 + (maxL + 11) + 60 * d ≤ R.locals) (hsize : ls.size = nL) (hW : (rest.map fun v => v.category).sum ≤ 8) (hdg : decode cc pc = .ok (.invokevirtual index, 3)) (hf : cells + mc ≤ R.cells ∧ slots + ms ≤ R.slots) :
    va_Run p l e R s m args below meth c H locs cells slots mc ms (F0 m pc ls st0) rest (Qc (Value.ref b :: As).toArray) free := by
  obtain ⟨k1, k2, k3, k4, k5, k6⟩ := L
  have hts := S.2.2.2.2
  exact va_runV S hM ⟨callB_of As.length hts (gB k3) rfl rfl rfl (hts _ k2) (hts _ k1) k4 hR, hts _ k5, hts _ k6⟩ hp rfl rfl hsize hst (lv_room hW) hdg hf
theorem rS (S : CallFix p m c cc nL s args BIG own) (hM : Met l y (.code y bytes maxL ret :: BIG) (Rm d mc ms) Pc Qc mc ms free) (L : LkS own index y bytes maxL ret As.length) (hp : PreS s H Pc As) (hst : st0 = As.reverse ++ rest)
    (hR : d + 1 ≤ R.frames ∧ 8 + (maxL + 11) + 60 * d ≤ R.locals) (hsize : ls.size = nL) (hW : (rest.map fun v => v.category).sum ≤ 8) (hdg : decode cc pc = .ok (.invokestatic index, 3)) (hf : cells + mc ≤ R.cells ∧ slots + ms ≤ R.slots) :
    va_Run p l e R s m args below meth c H locs cells slots mc ms (F0 m pc ls st0) rest (Qc As.toArray) free := by
  obtain ⟨k1, k2, k3, k4, k5⟩ := L
  have hts := S.2.2.2.2
  exact va_runS S hM ⟨callB_of As.length hts (gB k3) rfl rfl rfl (hts _ k2) (hts _ k1) k4 hR, hts _ k5⟩ hp rfl rfl hsize hst (lv_room hW) hdg hf
theorem rI (S : CallFix p m c cc nL s args BIG own) (hM : Met l y (.code y bytes maxL none :: BIG) (Rm d mc ms) Pc Qc mc ms free) (L : LkI own index y bytes maxL As.length) (hp : PreS s H Pc (.ref b :: As)) (hst : st0 = As.reverse ++ .ref b :: rest)
    (hR : d + 1 ≤ R.frames ∧ 8 + (maxL + 11) + 60 * d ≤ R.locals) (hsize : ls.size = nL) (hW : (rest.map fun v => v.category).sum ≤ 8) (hdg : decode cc pc = .ok (.invokespecial index, 3)) (hf : cells + mc ≤ R.cells ∧ slots + ms ≤ R.slots) :
    va_Run p l e R s m args below meth c H locs cells slots mc ms (F0 m pc ls st0) rest (Qc (Value.ref b :: As).toArray) free := by
  obtain ⟨k1, k2, k3, k4, k5, k6⟩ := L
  have hts := S.2.2.2.2
  exact va_runI S hM ⟨callB_of As.length hts (gB k3) rfl rfl rfl (hts _ k2) (hts _ k1) k4 hR, k5, hts _ k6⟩ hp rfl rfl hsize hst (lv_room hW) hdg hf
theorem rSN (S : CallFix p m c cc nL s args BIG own) (hN : KN G cy s) (hM : Met l y (.code y bytes maxL ret :: BIG) (Rm d mc ms) Pc Qc mc ms free) (L : LkSN own index y bytes maxL ret As.length) (hp : PreS s H Pc As) (hst : st0 = As.reverse ++ rest)
    (hR : d + 1 ≤ R.frames ∧ 8 + (maxL + 11) + 60 * d ≤ R.locals) (hsize : ls.size = nL) (hW : (rest.map fun v => v.category).sum ≤ 8) (hdg : decode cc pc = .ok (.invokestatic index, 3)) (hf : cells + mc ≤ R.cells ∧ slots + ms ≤ R.slots) :
    va_Run p l e R s m args below meth c H locs cells slots mc ms (F0 m pc ls st0) rest (Qc As.toArray) free := by
  obtain ⟨k1, k2, k3, k4, k5⟩ := L
  have hts := S.2.2.2.2
  exact va_runSN S hM ⟨va_cnB As.length hts (gB k3) rfl rfl rfl (show va_Nw (.methodLinkNest own index y AO0) s from hN.2.2.1 (own, index, y) k1) (hts _ k2) k4 hR, hts _ k5, trivial⟩ hp rfl rfl hsize hst (lv_room hW) hdg hf
theorem rIN (S : CallFix p m c cc nL s args BIG own) (hN : KN G cy s) (hM : Met l y (.code y bytes maxL none :: BIG) (Rm d mc ms) Pc Qc mc ms free) (L : LkIN own index y bytes maxL As.length) (hp : PreS s H Pc (.ref b :: As)) (hst : st0 = As.reverse ++ .ref b :: rest)
    (hR : d + 1 ≤ R.frames ∧ 8 + (maxL + 11) + 60 * d ≤ R.locals) (hsize : ls.size = nL) (hW : (rest.map fun v => v.category).sum ≤ 8) (hdg : decode cc pc = .ok (.invokespecial index, 3)) (hf : cells + mc ≤ R.cells ∧ slots + ms ≤ R.slots) :
    va_Run p l e R s m args below meth c H locs cells slots mc ms (F0 m pc ls st0) rest (Qc (Value.ref b :: As).toArray) free := by
  obtain ⟨k1, k2, k3, k4, k5, k6⟩ := L
  have hts := S.2.2.2.2
  exact va_runIN S hM ⟨va_cnB As.length hts (gB k3) rfl rfl rfl (show va_Nw (.methodLinkNest own index y AO0) s from hN.2.2.1 (own, index, y) k1) (hts _ k2) k4 hR, k5, hts _ k6⟩ hp rfl rfl hsize hst (lv_room hW) hdg hf
/-- what a call wants of the caller's world -/
theorem preRV {ws wc : va_W} {q : vw_C} {fs : List Value} (hN : KN G cy s) (hP : va_P G CL ws H) (isC : List Nat) (hC : isC.filterMap (fun i => ws[i]?) = wc) (qr ci : Nat) (he : ws[qr]? = some (b, .inr (ci, fs))) (hc : CL[ci]? = some q) : PreV s H q.1 b (Rd G cy wc (.ref b :: As)) As :=
  ⟨Rd.blind, va_recv hN.1 hP hc he, fun U hU hW => ⟨rfl, by rw [hU]; exact hP.sub isC hC, hN.warm hW⟩⟩
theorem preRS {ws wc : va_W} (hN : KN G cy s) (hP : va_P G CL ws H) (isC : List Nat) (hC : isC.filterMap (fun i => ws[i]?) = wc) : PreS s H (Rd G cy wc As) As :=
  ⟨Rd.blind, fun U hU hW => ⟨rfl, by rw [hU]; exact hP.sub isC hC, hN.warm hW⟩⟩
theorem va_sub2 {ws wc : va_W} {isC : List Nat} (hC : isC.map (fun i => ws[i]?) = wc.map some) : isC.filterMap (fun i => ws[i]?) = wc := by
  induction isC generalizing wc with
  | nil => cases wc with
    | nil => rfl
    | cons a t => simp at hC
  | cons i t ih => cases wc with
    | nil => simp at hC
    | cons a u =>
      simp only [List.map_cons, List.cons.injEq] at hC
      rw [List.filterMap_cons, hC.1, ih hC.2]
theorem preWV {ws wc : va_W} {q : vw_C} {fs : List Value} {A : Nat → Prop} (hN : KN G cy s) (hP : va_P G CL ws H) (hD : va_D A ws) (isC : List Nat) (hC : isC.map (fun i => ws[i]?) = wc.map some) (hn : va_nd isC = true) (qr ci : Nat) (he : ws[qr]? = some (b, .inr (ci, fs))) (hc : CL[ci]? = some q) : PreV s H q.1 b (Wr G cy wc H.size (.ref b :: As)) As :=
  ⟨Wr.blind, va_recv hN.1 hP hc he, fun U hU hW => ⟨rfl, by rw [hU], by rw [hU]; exact hP.sub isC (va_sub2 hC), hN.warm hW, (hD.sub isC hn hC).weaken (fun _ _ _ _ => trivial)⟩⟩
theorem preWS {ws wc : va_W} {A : Nat → Prop} (hN : KN G cy s) (hP : va_P G CL ws H) (hD : va_D A ws) (isC : List Nat) (hC : isC.map (fun i => ws[i]?) = wc.map some) (hn : va_nd isC = true) : PreS s H (Wr G cy wc H.size As) As :=
  ⟨Wr.blind, fun U hU hW => ⟨rfl, by rw [hU], by rw [hU]; exact hP.sub isC (va_sub2 hC), hN.warm hW, (hD.sub isC hn hC).weaken (fun _ _ _ _ => trivial)⟩⟩
variable {a : Array Value}
theorem kRi {post : Int32 → Prop} (hr : va_Run p l e R s m args below meth c H locs cells slots 0 0 (F0 m pc ls st0) rest (vp_Si post a) (fun _ => False))
    (kk : ∀ r : Int32, post r → W p l e R s m args below meth c H locs cells slots Q (F0 m (pc + 3) ls (.int r :: rest))) : W p l e R s m args below meth c H locs cells slots Q (F0 m pc ls st0) := by
  intro T hT X
  obtain ⟨v, st₀, t, T', L, h0, X', hL, e1, e2, ⟨r, hv, hp, hh⟩, st⟩ := hr T hT X
  cases hv
  obtain ⟨t2, a1, b1⟩ := kk r hp T' (by rw [e1, hh, h0]) (Stand.forget X' (fun q h => (hL q h).elim))
  exact ⟨t2, st t2 a1, b1⟩
theorem kRl {post : Int64 → Prop} (hr : va_Run p l e R s m args below meth c H locs cells slots 0 0 (F0 m pc ls st0) rest (vp_Sl post a) (fun _ => False))
    (kk : ∀ r : Int64, post r → W p l e R s m args below meth c H locs cells slots Q (F0 m (pc + 3) ls (.long r :: rest))) : W p l e R s m args below meth c H locs cells slots Q (F0 m pc ls st0) := by
  intro T hT X
  obtain ⟨v, st₀, t, T', L, h0, X', hL, e1, e2, ⟨r, hv, hp, hh⟩, st⟩ := hr T hT X
  cases hv
  obtain ⟨t2, a1, b1⟩ := kk r hp T' (by rw [e1, hh, h0]) (Stand.forget X' (fun q h => (hL q h).elim))
  exact ⟨t2, st t2 a1, b1⟩
variable {ws wc wr : va_W} {A : Nat → Prop} {H0 : Heap}
theorem kWi {post : Int32 → va_W → Prop} (hr : va_Run p l e R s m args below meth c H locs cells slots mc ms (F0 m pc ls st0) rest (Wi G post (va_A wc H.size) a) (va_A wc H.size)) (hP : va_P G CL ws H) (hD : va_D A ws) (hS : va_S A H0 H locs) (hA : ∀ q, H0.size ≤ q → A q)
    (isC isR : List Nat) (hC : isC.map (fun i => ws[i]?) = wc.map some) (hR : isR.map (fun i => ws[i]?) = wr.map some) (hn : va_nd isR = true) (hdis : ∀ i ∈ isR, i ∉ isC)
    (kk : ∀ (r : Int32) (u : va_W) (H1 : Heap) (locs1 : List Loc), post r u → va_P G CL (wr ++ u) H1 → va_D A (wr ++ u) → va_S A H0 H1 locs1 → W p l e R s m args below meth c H1 locs1 (cells + mc) (slots + ms) Q (F0 m (pc + 3) ls (.int r :: rest))) : W p l e R s m args below meth c H locs cells slots Q (F0 m pc ls st0) := by
  have hF := va_free (wc := wc) hD hS hA isC hC
  refine va_calli hr hS (fun q _ h => hF q h) hF (fun r u t H1 locs1 ht hvm hw hB hz1 hk1 hS1 => ?_)
  obtain ⟨hP1, hD1⟩ := hB
  rw [ht] at hP1
  obtain ⟨hP2, hD2⟩ := va_join hP hD isC isR hC hR hn hdis hk1 hF hP1 hD1
  exact kk r u H1 locs1 hw hP2 hD2 hS1
theorem kWv {post : va_W → Prop} (hr : va_Run p l e R s m args below meth c H locs cells slots mc ms (F0 m pc ls st0) rest (Wv G post (va_A wc H.size) a) (va_A wc H.size)) (hP : va_P G CL ws H) (hD : va_D A ws) (hS : va_S A H0 H locs) (hA : ∀ q, H0.size ≤ q → A q)
    (isC isR : List Nat) (hC : isC.map (fun i => ws[i]?) = wc.map some) (hR : isR.map (fun i => ws[i]?) = wr.map some) (hn : va_nd isR = true) (hdis : ∀ i ∈ isR, i ∉ isC)
    (kk : ∀ (u : va_W) (H1 : Heap) (locs1 : List Loc), post u → va_P G CL (wr ++ u) H1 → va_D A (wr ++ u) → va_S A H0 H1 locs1 → W p l e R s m args below meth c H1 locs1 (cells + mc) (slots + ms) Q (F0 m (pc + 3) ls rest)) : W p l e R s m args below meth c H locs cells slots Q (F0 m pc ls st0) := by
  have hF := va_free (wc := wc) hD hS hA isC hC
  refine va_callv hr hS (fun q _ h => hF q h) hF (fun u t H1 locs1 ht hvm hw hB hz1 hk1 hS1 => ?_)
  obtain ⟨hP1, hD1⟩ := hB
  rw [ht] at hP1
  obtain ⟨hP2, hD2⟩ := va_join hP hD isC isR hC hR hn hdis hk1 hF hP1 hD1
  exact kk u H1 locs1 hw hP2 hD2 hS1
theorem kWq {post : Nat → va_W → Prop} (hr : va_Run p l e R s m args below meth c H locs cells slots mc ms (F0 m pc ls st0) rest (Wq G post (va_A wc H.size) a) (va_A wc H.size)) (hP : va_P G CL ws H) (hD : va_D A ws) (hS : va_S A H0 H locs) (hA : ∀ q, H0.size ≤ q → A q)
    (isC isR : List Nat) (hC : isC.map (fun i => ws[i]?) = wc.map some) (hR : isR.map (fun i => ws[i]?) = wr.map some) (hn : va_nd isR = true) (hdis : ∀ i ∈ isR, i ∉ isC)
    (kk : ∀ (r : Nat) (u : va_W) (H1 : Heap) (locs1 : List Loc), post r u → va_P G CL (wr ++ u) H1 → va_D A (wr ++ u) → va_S A H0 H1 locs1 → W p l e R s m args below meth c H1 locs1 (cells + mc) (slots + ms) Q (F0 m (pc + 3) ls (.ref r :: rest))) : W p l e R s m args below meth c H locs cells slots Q (F0 m pc ls st0) := by
  have hF := va_free (wc := wc) hD hS hA isC hC
  refine va_callr hr hS (fun q _ h => hF q h) hF (fun u ra t H1 locs1 ht hvm hw hB hz1 hk1 hS1 => ?_)
  obtain ⟨⟨hP1, hD1⟩, hpo⟩ := hB
  rw [ht] at hP1
  obtain ⟨hP2, hD2⟩ := va_join hP hD isC isR hC hR hn hdis hk1 hF hP1 hD1
  exact kk ra u H1 locs1 hpo hP2 hD2 hS1
variable {tys : List (ClassId × FieldType)}
theorem lv_seti {x v : Int32} (h : x = v) (k : W p l e R s m args below meth c H locs cells slots Q (F0 m pc ls (.int v :: rest))) : W p l e R s m args below meth c H locs cells slots Q (F0 m pc ls (.int x :: rest)) := h ▸ k
theorem lv_setl {x v : Int64} (h : x = v) (k : W p l e R s m args below meth c H locs cells slots Q (F0 m pc ls (.long v :: rest))) : W p l e R s m args below meth c H locs cells slots Q (F0 m pc ls (.long x :: rest)) := h ▸ k
theorem lv_setv {x v : Value} (h : x = v) (k : W p l e R s m args below meth c H locs cells slots Q (F0 m pc ls (v :: rest))) : W p l e R s m args below meth c H locs cells slots Q (F0 m pc ls (x :: rest)) := h ▸ k
/-- newarray, anewarray, aaload over the known array classes -/
theorem cyOne {t0 : Nat} {cA cB : ClassId} {ty : FieldType} (h1 : va_K G CL tys s) (ht : tys[t0]? = some (cA, ty)) (h2 : va_K G CL (tys ++ [(cB, ty)]) s) : cB = cA := by
  have a1 := (h1.2 t0 _ ht).2
  have a2 := (h2.2 tys.length (cB, ty) (by simp)).2
  cases ty with
  | object C =>
    obtain ⟨_, _, _, _, _, x1⟩ := a1
    obtain ⟨_, _, _, _, _, x2⟩ := a2
    exact Option.some.inj (x2.symm.trans x1)
  | _ => exact Option.some.inj (a2.symm.trans a1)
theorem newI (hexec : p.tables.exec = Jvm.exec) (hb : c.code = cc) (hts : ∀ w ∈ BIG, w.before args s = true) (harr : Cond.arrayClass .int ∈ BIG) (hN : KN G cy s) (hP : va_P G CL ws H) (hD : va_D A ws) (hS : va_S A H0 H locs) (hA : ∀ q, H0.size ≤ q → A q) {n : Int32} (N' : Nat) (hn : ¬ n < 0) (hN' : n.toNatClampNeg = N') (hbytes : N' * componentBytes .int ≤ 536870912) (hcells : cells + 1 ≤ R.cells) (hslots : slots + N' ≤ R.slots) (hdg : decode cc pc = .ok (.newarray .int, 2))
    (kk : ∀ (q : Nat) (H1 : Heap), va_P G CL (ws ++ [(q, .inl (cy 0, N', .inl (fun _ => 0)))]) H1 → va_D A (ws ++ [(q, .inl (cy 0, N', .inl (fun _ => 0)))]) → va_S A H0 H1 locs → W p l e R s m args below meth c H1 locs (cells + 1) (slots + N') Q (F0 m (pc + 2) ls (.ref q :: rest))) : W p l e R s m args below meth c H locs cells slots Q (F0 m pc ls (.int n :: rest)) := by
  refine va_newa (atype := .int) (a0 := (N', .inl (fun _ => 0))) hexec hb (hts _ harr) (ty := .int) rfl hN.1 hP hD hS hA (fun _ => rfl) hn hN' hbytes hcells hslots hdg (fun q cA H1 hK2 hP2 hD2 hS2 => ?_)
  have e := cyOne (t0 := 0) hN.1 rfl hK2
  subst e
  exact kk q H1 hP2 hD2 hS2
theorem newJ (hexec : p.tables.exec = Jvm.exec) (hb : c.code = cc) (hts : ∀ w ∈ BIG, w.before args s = true) (harr : Cond.arrayClass .long ∈ BIG) (hN : KN G cy s) (hP : va_P G CL ws H) (hD : va_D A ws) (hS : va_S A H0 H locs) (hA : ∀ q, H0.size ≤ q → A q) {n : Int32} (N' : Nat) (hn : ¬ n < 0) (hN' : n.toNatClampNeg = N') (hbytes : N' * componentBytes .long ≤ 536870912) (hcells : cells + 1 ≤ R.cells) (hslots : slots + N' ≤ R.slots) (hdg : decode cc pc = .ok (.newarray .long, 2))
    (kk : ∀ (q : Nat) (H1 : Heap), va_P G CL (ws ++ [(q, .inl (cy 1, N', .inr (.inl (fun _ => 0))))]) H1 → va_D A (ws ++ [(q, .inl (cy 1, N', .inr (.inl (fun _ => 0))))]) → va_S A H0 H1 locs → W p l e R s m args below meth c H1 locs (cells + 1) (slots + N') Q (F0 m (pc + 2) ls (.ref q :: rest))) : W p l e R s m args below meth c H locs cells slots Q (F0 m pc ls (.int n :: rest)) := by
  refine va_newa (atype := .long) (a0 := (N', .inr (.inl (fun _ => 0)))) hexec hb (hts _ harr) (ty := .long) rfl hN.1 hP hD hS hA (fun _ => rfl) hn hN' hbytes hcells hslots hdg (fun q cA H1 hK2 hP2 hD2 hS2 => ?_)
  have e := cyOne (t0 := 1) hN.1 rfl hK2
  subst e
  exact kk q H1 hP2 hD2 hS2
theorem newB (hexec : p.tables.exec = Jvm.exec) (hb : c.code = cc) (hts : ∀ w ∈ BIG, w.before args s = true) (harr : Cond.arrayClass .byte ∈ BIG) (hN : KN G cy s) (hP : va_P G CL ws H) (hD : va_D A ws) (hS : va_S A H0 H locs) (hA : ∀ q, H0.size ≤ q → A q) {n : Int32} (N' : Nat) (hn : ¬ n < 0) (hN' : n.toNatClampNeg = N') (hbytes : N' * componentBytes .byte ≤ 536870912) (hcells : cells + 1 ≤ R.cells) (hslots : slots + N' ≤ R.slots) (hdg : decode cc pc = .ok (.newarray .byte, 2))
    (kk : ∀ (q : Nat) (H1 : Heap), va_P G CL (ws ++ [(q, .inl (cy 2, N', .inl (fun _ => 0)))]) H1 → va_D A (ws ++ [(q, .inl (cy 2, N', .inl (fun _ => 0)))]) → va_S A H0 H1 locs → W p l e R s m args below meth c H1 locs (cells + 1) (slots + N') Q (F0 m (pc + 2) ls (.ref q :: rest))) : W p l e R s m args below meth c H locs cells slots Q (F0 m pc ls (.int n :: rest)) := by
  refine va_newa (atype := .byte) (a0 := (N', .inl (fun _ => 0))) hexec hb (hts _ harr) (ty := .byte) rfl hN.1 hP hD hS hA (fun _ => rfl) hn hN' hbytes hcells hslots hdg (fun q cA H1 hK2 hP2 hD2 hS2 => ?_)
  have e := cyOne (t0 := 2) hN.1 rfl hK2
  subst e
  exact kk q H1 hP2 hD2 hS2
theorem newM (hexec : p.tables.exec = Jvm.exec) (hb : c.code = cc) (hts : ∀ w ∈ BIG, w.before args s = true) (hown : s.vm.findClass RX6 = some m.cls) (hcl : Cond.classLink RX6 index RX6 ∈ BIG) (hN : KN G cy s) (hP : va_P G CL ws H) (hD : va_D A ws) (hS : va_S A H0 H locs) (hA : ∀ q, H0.size ≤ q → A q) {n : Int32} (N' : Nat) (hn : ¬ n < 0) (hN' : n.toNatClampNeg = N') (hbytes : N' * 4 ≤ 536870912) (hcells : cells + 1 ≤ R.cells) (hslots : slots + N' ≤ R.slots) (hdg : decode cc pc = .ok (.anewarray index, 3))
    (kk : ∀ (q : Nat) (H1 : Heap), va_P G CL (ws ++ [(q, .inl (cy 5, N', .inr (.inr (.inr (.inr (fun _ => none))))))]) H1 → va_D A (ws ++ [(q, .inl (cy 5, N', .inr (.inr (.inr (.inr (fun _ => none))))))]) → va_S A H0 H1 locs → W p l e R s m args below meth c H1 locs (cells + 1) (slots + N') Q (F0 m (pc + 3) ls (.ref q :: rest))) : W p l e R s m args below meth c H locs cells slots Q (F0 m pc ls (.int n :: rest)) := by
  refine va_newq (C := RX6) hexec hb hown (hts _ hcl) hN.2.2.2.2.1 hN.1 hP hD hS hA hn hN' hbytes hcells hslots hdg (fun q cA H1 hK2 hP2 hD2 hS2 => ?_)
  have e := cyOne (t0 := 5) hN.1 rfl hK2
  subst e
  exact kk q H1 hP2 hD2 hS2
theorem va_alda (hexec : p.tables.exec = Jvm.exec) (hb : c.code = cc) {D : va_G} {cl : List vw_C} (hK : va_K D cl tys s) (hP : va_P D cl ws H) (q0 t0 : Nat) {a0 : Nat} {cA : ClassId} {ty : FieldType} {n : Nat} {f : Nat → Option Nat} (ha : ws[q0]? = some (a0, .inl (cA, n, .inr (.inr (.inr (.inr f)))))) (ht : tys[t0]? = some (cA, .array ty)) {i : Int32} (hin : vp_in i n) (hdg : decode cc pc = .ok (.aaload, 1))
    (kk : W p l e R s m args below meth c H locs cells slots Q (F0 m (pc + 1) ls (va_rf (f i.toNatClampNeg) :: rest))) : W p l e R s m args below meth c H locs cells slots Q (F0 m pc ls (.int i :: .ref a0 :: rest)) := by
  have hlt : i.toNatClampNeg < n := Nat.not_le.mp fun q => hin (Or.inr q)
  exact W.aald (v := va_rf (f i.toNatClampNeg)) (ty := .array ty) hexec hb (hP q0 _ ha) ((hK.2 t0 _ ht).1 n (fun j => va_rf (f j))) rfl (fun q => by cases q) (by show ¬ (i < 0 ∨ (arrV _ _ _).slots.size ≤ _); rw [arrV_size]; exact hin) (by show (arrV _ _ _).slots[_]? = _; rw [arrV_read _ _ hlt]) rfl rfl hdg kk
/-- the ends -/
theorem endR {post : Int32 → Prop} {v : Int32} {ty : FieldType} (hexec : p.tables.exec = Jvm.exec) (hb : c.code = cc) (hr : meth.sig.returnType = some ty) (hlocks : meth.locks = false) (hn : narrow ty (.int v) = .int v) (hp : post v) (hdg : decode cc pc = .ok (.ireturn, 1)) : W p l e R s m args below meth c s.heap [] cells slots (MQ below (vp_Si post) args s cells slots (fun _ => False)) (F0 m pc ls [.int v]) :=
  W.zret hexec hb hr hn (fun _ ht _ => ⟨v, rfl, hp, ht⟩) (fun _ h => by cases h) hdg
theorem endRl {post : Int64 → Prop} {v : Int64} (hexec : p.tables.exec = Jvm.exec) (hb : c.code = cc) (hr : meth.sig.returnType = some .long) (hlocks : meth.locks = false) (hp : post v) (hdg : decode cc pc = .ok (.lreturn, 1)) : W p l e R s m args below meth c s.heap [] cells slots (MQ below (vp_Sl post) args s cells slots (fun _ => False)) (F0 m pc ls [.long v]) :=
  W.lret hexec hb hr (fun _ ht _ => ⟨v, rfl, hp, ht⟩) (fun _ h => by cases h) hdg
theorem endW {post : Int32 → va_W → Prop} {v : Int32} {ty : FieldType} {u : va_W} (hexec : p.tables.exec = Jvm.exec) (hb : c.code = cc) (hr : meth.sig.returnType = some ty) (hlocks : meth.locks = false) (hn : narrow ty (.int v) = .int v) (hP : va_P G CL u H) (hD : va_D A u) (hS : va_S A s.heap H locs) (hp : post v u) (hdg : decode cc pc = .ok (.ireturn, 1)) : W p l e R s m args below meth c H locs cells slots (MQ below (Wi G post A) args s cells slots A) (F0 m pc ls [.int v]) :=
  W.zret hexec hb hr hn (fun _ ht _ => ⟨⟨v, u, rfl, hp, by rw [ht]; exact hP, hD⟩, hS.F ht⟩) hS.2.2 hdg
theorem endV {post : va_W → Prop} {u : va_W} (hexec : p.tables.exec = Jvm.exec) (hb : c.code = cc) (hr : meth.sig.returnType = none) (hlocks : meth.locks = false) (hP : va_P G CL u H) (hD : va_D A u) (hS : va_S A s.heap H locs) (hp : post u) (hdg : decode cc pc = .ok (.return_, 1)) : W p l e R s m args below meth c H locs cells slots (MQ below (Wv G post A) args s cells slots A) (F0 m pc ls []) :=
  W.vret hexec hb hr (fun _ ht _ => ⟨⟨u, rfl, hp, by rw [ht]; exact hP, hD⟩, hS.F ht⟩) hS.2.2 hdg
theorem endQ {post : Nat → va_W → Prop} {ra : Nat} {C : String} {u : va_W} (hexec : p.tables.exec = Jvm.exec) (hb : c.code = cc) (hr : meth.sig.returnType = some (.object C)) (hlocks : meth.locks = false) (hP : va_P G CL u H) (hD : va_D A u) (hS : va_S A s.heap H locs) (hp : post ra u) (hdg : decode cc pc = .ok (.areturn, 1)) : W p l e R s m args below meth c H locs cells slots (MQ below (Wq G post A) args s cells slots A) (F0 m pc ls [.ref ra]) :=
  W.aret hexec hb hr (Or.inl ⟨C, rfl⟩) (Or.inr ⟨ra, rfl⟩) (fun _ ht _ => ⟨⟨u, ra, rfl, trivial, ⟨by rw [ht]; exact hP, hD⟩, hp⟩, hS.F ht⟩) hS.2.2 hdg
end BCALL
theorem va_P0 {D : va_G} {cl : List vw_C} {H : Heap} : va_P D cl [] H := fun k q h => by simp at h
theorem va_D0 {A : Nat → Prop} : va_D A [] := ⟨fun i j p q h => by simp at h, fun k q h => by simp at h⟩
theorem in_c {i : Int32} {n : Nat} (h : (decide (i < 0) || decide (n ≤ i.toNatClampNeg)) = false) : vp_in i n := by
  rw [Bool.or_eq_false_iff, decide_eq_false_iff_not, decide_eq_false_iff_not] at h
  exact fun q => q.elim h.1 h.2
/-- v lies from a to b -/
noncomputable def In (v a b : Int64) : Prop := a ≤ v ∧ v ≤ b
end
section
theorem big_w {L X Y : List Cond} {ms : List Bool} {T : List Cond} (e : selM ms T = X ++ (L ++ Y)) (hT : ∀ w, w ∈ T → w ∈ tables_1) (g : L.all goodWord = true) : ∀ w, w ∈ L → w ∈ BIG := fun w hw =>
  big_of (List.mem_append_right _ (hT w (selM_mem ms T w (by rw [e]; exact List.mem_append_right _ (List.mem_append_left _ hw))))) (List.all_eq_true.mp g w hw)
theorem app_nil (L : List Cond) : L = L ++ [] := (List.append_nil L).symm
noncomputable def wl_0 : List Cond := [Cond.initialized RL, Cond.initialized RX5, Cond.initialized RX4, Cond.initialized RX0, Cond.initialized RX2, Cond.initialized RX3, Cond.initialized RX6, Cond.initialized RJ10, Cond.initialized RX1, Cond.initialized RJ9, Cond.initialized RJ0, Cond.initialized RJ1, Cond.initialized RJ3, Cond.initialized RJ2, Cond.initialized RJ6, Cond.classLink RL 7 RX5, Cond.instantiable RX5 9, Cond.methodLink RL 9 yX5_init, Cond.instanceMethod yX5_init, Cond.code yX5_init cX5_init 1 none, Cond.methodLink RX5 1 objectInit, Cond.instanceMethod objectInit, Cond.code objectInit ⟨#[0xb1]⟩ 1 none, Cond.classLink RX5 7 RX4, Cond.instantiable RX4 13]
noncomputable def wl_1 : List Cond := [Cond.instanceMethod yX4_init, Cond.code yX4_init cX4_init 1 none, Cond.methodLink RX4 3 objectInit, Cond.fieldLink RX4 40 "EachBookOnce$Town" "books" "I", Cond.fieldLink RX4 43 "EachBookOnce$Town" "people" "I", Cond.fieldLink RX4 46 "EachBookOnce$Town" "white" "I", Cond.fieldLink RX4 49 "EachBookOnce$Town" "gone" "I", Cond.fieldLink RX4 9 "EachBookOnce$Town" "luck" "I", Cond.fieldLink RX4 15 "EachBookOnce$Town" "worth" "[I", Cond.fieldLink RX4 19 "EachBookOnce$Town" "needed" "[I", Cond.fieldLink RX4 22 "EachBookOnce$Town" "good" "[I", Cond.fieldLink RX4 25 "EachBookOnce$Town" "age" "[I", Cond.fieldLink RX4 28 "EachBookOnce$Town" "reading" "[I", Cond.fieldLink RX4 31 "EachBookOnce$Town" "memory" "[I", Cond.fieldLink RX4 34 "EachBookOnce$Town" "telling" "[I", Cond.fieldLink RX4 37 "EachBookOnce$Town" "share" "[I", Cond.arrayClass .int, Cond.classLink RX5 19 RX0, Cond.instantiable RX0 4, Cond.instanceMethod yX0_init, Cond.code yX0_init cX0_init 1 none, Cond.methodLink RX0 3 objectInit, Cond.classLink RX0 9 RX4, Cond.fieldLink RX0 12 "EachBookOnce$Plans" "trial" "LEachBookOnce$Town;", Cond.fieldLink RX0 18 "EachBookOnce$Plans" "second" "LEachBookOnce$Town;"]
noncomputable def wl_2 : List Cond := [Cond.fieldLink RX0 29 "EachBookOnce$Plans" "lastValue" "I", Cond.fieldLink RX0 64 "EachBookOnce$Plans" "bestSum" "I", Cond.classLink RX5 26 RX2, Cond.instantiable RX2 4, Cond.methodLink RX5 28 yX2_init, Cond.instanceMethod yX2_init, Cond.code yX2_init cX2_init 2 none, Cond.methodLink RX2 3 objectInit, Cond.fieldLink RX2 9 "EachBookOnce$Shelves" "holding" "[I", Cond.fieldLink RX2 15 "EachBookOnce$Shelves" "size" "[I", Cond.fieldLink RX2 18 "EachBookOnce$Shelves" "amount" "[I", Cond.fieldLink RX2 21 "EachBookOnce$Shelves" "elements" "[J", Cond.arrayClass .long, Cond.classLink RX5 33 RX3, Cond.instantiable RX3 7, Cond.instanceMethod yX3_init, Cond.code yX3_init cX3_init 1 none, Cond.methodLink RX3 3 objectInit, Cond.classLink RX3 15 RX4, Cond.fieldLink RX3 11 "EachBookOnce$Tape" "bytes" "[B", Cond.fieldLink RX3 22 "EachBookOnce$Tape" "size" "I", Cond.fieldLink RX3 121 "EachBookOnce$Tape" "start" "I", Cond.fieldLink RX3 33 "EachBookOnce$Tape" "end" "I", Cond.fieldLink RX3 42 "EachBookOnce$Tape" "token" "I", Cond.fieldLink RX3 30 "EachBookOnce$Tape" "fault" "I"]
noncomputable def wl_3 : List Cond := [Cond.fieldLink RX3 18 "EachBookOnce$Tape" "draft" "LEachBookOnce$Town;", Cond.arrayClass .byte, Cond.fieldLink RX5 10 "EachBookOnce" "town" "LEachBookOnce$Town;", Cond.fieldLink RX5 16 "EachBookOnce" "kept" "LEachBookOnce$Town;", Cond.fieldLink RX5 22 "EachBookOnce" "plans" "LEachBookOnce$Plans;", Cond.fieldLink RX5 29 "EachBookOnce" "shelves" "LEachBookOnce$Shelves;", Cond.fieldLink RX5 36 "EachBookOnce" "tape" "LEachBookOnce$Tape;", Cond.fieldLink RX5 40 "EachBookOnce" "refusals" "[I", Cond.fieldLink RX5 344 "EachBookOnce" "isKept" "Z", Cond.fieldLink RX5 335 "EachBookOnce" "yearsEnded" "I", Cond.fieldLink RX5 338 "EachBookOnce" "trueValues" "I", Cond.methodLink RL 13 yX5_row, Cond.instanceMethod yX5_row, Cond.selects RX5 yX5_row yX5_row, Cond.code yX5_row cX5_row 4 (some .int), Cond.methodLink RX5 44 yX5_isShelf, Cond.static yX5_isShelf, Cond.code yX5_isShelf cX5_isShelf 1 (some .boolean), Cond.constantLong RX5 355 7, Cond.methodLink RX5 50 yX5_within, Cond.static yX5_within, Cond.code yX5_within cX5_within 6 (some .boolean), Cond.constantLong RX5 48 4, Cond.constantLong RX5 54 40, Cond.methodLink RX5 56 yX5_refuse]
noncomputable def wl_4 : List Cond := [Cond.instanceMethod yX5_refuse, Cond.code yX5_refuse cX5_refuse 3 (some .int), Cond.methodLink RX5 60 yX2_putRow, Cond.instanceMethod yX2_putRow, Cond.selects RX2 yX2_putRow yX2_putRow, Cond.code yX2_putRow cX2_putRow 5 none, Cond.methodLink RL 20 yX5_set, Cond.instanceMethod yX5_set, Cond.selects RX5 yX5_set yX5_set, Cond.code yX5_set cX5_set 6 (some .int), Cond.methodLink RX5 64 yX5_rowFit, Cond.instanceMethod yX5_rowFit, Cond.code yX5_rowFit cX5_rowFit 2 (some .int), Cond.methodLink RX5 361 yX2_hasRule, Cond.instanceMethod yX2_hasRule, Cond.selects RX2 yX2_hasRule yX2_hasRule, Cond.code yX2_hasRule cX2_hasRule 2 (some .boolean), Cond.methodLink RX5 364 yX2_hasRow, Cond.instanceMethod yX2_hasRow, Cond.selects RX2 yX2_hasRow yX2_hasRow, Cond.code yX2_hasRow cX2_hasRow 2 (some .boolean), Cond.methodLink RX5 70 yX2_put]
set_option maxRecDepth 100000 in
theorem tb_1 : selM ([true, true, true, true, true, true, true, true, true, true, true, true, true, true, true, true, true, true, true, true, true, true, true, true, true, false, true, true, true, true, false, false, false, false, true, false, false, false, false, true, false, false, false, true, false, false, true, false, true, false, true, false, false, true, false, false, true, false, true, false] ++ ([true, false, true, false, true, false, false, false, false, false, false, false, false, false, false, false, false, false, false, false, false, false, false, false, false, false, false, false, false, false, false, false, true, true, true, false, true, true, true, true, false, true, false, true, true, false, true, false, false, false, false, false, false, false, false, false, false, true, true, true] ++ ([true, true, true, true, false, true, false, true, false, true, false, false, false, false, false, false, false, false, false, true, true, true, false, true, true, true, true, false, true, true, false, true, true, true, true, false, true, false, false, false, false, false, false, false, false, false, false, false, false, false, false, false, false, true, true, true, true, true, true, true] ++ ([true, true, true, false, false, false, false, false, false, false, false, false, false, false, false, false, false, false, false, false, false, false, true, true, true, true, true, true, true, true, true, true, true, true, true, true, false, true, true, true, true, true, true, true, true, true, true, true, false, true, true, true, true, true, true, true, true, true, true, true])))) tables_1_1 = wl_0 ++ (wl_1 ++ (wl_2 ++ (wl_3 ++ (wl_4 ++ ([]))))) := rfl
theorem wc_0 : ∀ w, w ∈ wl_0 → w ∈ BIG := big_w (X := []) (Y := wl_1 ++ (wl_2 ++ (wl_3 ++ (wl_4 ++ ([]))))) (show _ = [] ++ _ from tb_1) in_tb1 (by decide +kernel)
theorem m_t0 : Cond.initialized RL ∈ BIG := wc_0 _ (List.mem_of_getElem? (l := wl_0) (i := 0) rfl)
theorem m_t1 : Cond.initialized RX5 ∈ BIG := wc_0 _ (List.mem_of_getElem? (l := wl_0) (i := 1) rfl)
theorem m_t2 : Cond.initialized RX4 ∈ BIG := wc_0 _ (List.mem_of_getElem? (l := wl_0) (i := 2) rfl)
theorem m_t3 : Cond.initialized RX0 ∈ BIG := wc_0 _ (List.mem_of_getElem? (l := wl_0) (i := 3) rfl)
theorem m_t4 : Cond.initialized RX2 ∈ BIG := wc_0 _ (List.mem_of_getElem? (l := wl_0) (i := 4) rfl)
theorem m_t5 : Cond.initialized RX3 ∈ BIG := wc_0 _ (List.mem_of_getElem? (l := wl_0) (i := 5) rfl)
theorem m_t6 : Cond.initialized RX6 ∈ BIG := wc_0 _ (List.mem_of_getElem? (l := wl_0) (i := 6) rfl)
theorem m_t7 : Cond.initialized RJ10 ∈ BIG := wc_0 _ (List.mem_of_getElem? (l := wl_0) (i := 7) rfl)
theorem m_t8 : Cond.initialized RX1 ∈ BIG := wc_0 _ (List.mem_of_getElem? (l := wl_0) (i := 8) rfl)
theorem m_t9 : Cond.initialized RJ9 ∈ BIG := wc_0 _ (List.mem_of_getElem? (l := wl_0) (i := 9) rfl)
theorem m_t10 : Cond.initialized RJ0 ∈ BIG := wc_0 _ (List.mem_of_getElem? (l := wl_0) (i := 10) rfl)
theorem m_t11 : Cond.initialized RJ1 ∈ BIG := wc_0 _ (List.mem_of_getElem? (l := wl_0) (i := 11) rfl)
theorem m_t12 : Cond.initialized RJ3 ∈ BIG := wc_0 _ (List.mem_of_getElem? (l := wl_0) (i := 12) rfl)
theorem m_t13 : Cond.initialized RJ2 ∈ BIG := wc_0 _ (List.mem_of_getElem? (l := wl_0) (i := 13) rfl)
theorem m_t14 : Cond.initialized RJ6 ∈ BIG := wc_0 _ (List.mem_of_getElem? (l := wl_0) (i := 14) rfl)
theorem m_t15 : Cond.classLink RL 7 RX5 ∈ BIG := wc_0 _ (List.mem_of_getElem? (l := wl_0) (i := 15) rfl)
theorem m_t16 : Cond.instantiable RX5 9 ∈ BIG := wc_0 _ (List.mem_of_getElem? (l := wl_0) (i := 16) rfl)
theorem m_t17 : Cond.methodLink RL 9 yX5_init ∈ BIG := wc_0 _ (List.mem_of_getElem? (l := wl_0) (i := 17) rfl)
theorem m_t18 : Cond.instanceMethod yX5_init ∈ BIG := wc_0 _ (List.mem_of_getElem? (l := wl_0) (i := 18) rfl)
theorem m_t19 : Cond.code yX5_init cX5_init 1 none ∈ BIG := wc_0 _ (List.mem_of_getElem? (l := wl_0) (i := 19) rfl)
theorem m_t20 : Cond.methodLink RX5 1 objectInit ∈ BIG := wc_0 _ (List.mem_of_getElem? (l := wl_0) (i := 20) rfl)
theorem m_t21 : Cond.instanceMethod objectInit ∈ BIG := wc_0 _ (List.mem_of_getElem? (l := wl_0) (i := 21) rfl)
theorem m_t22 : Cond.code objectInit ⟨#[0xb1]⟩ 1 none ∈ BIG := wc_0 _ (List.mem_of_getElem? (l := wl_0) (i := 22) rfl)
theorem m_t23 : Cond.classLink RX5 7 RX4 ∈ BIG := wc_0 _ (List.mem_of_getElem? (l := wl_0) (i := 23) rfl)
theorem m_t24 : Cond.instantiable RX4 13 ∈ BIG := wc_0 _ (List.mem_of_getElem? (l := wl_0) (i := 24) rfl)
theorem wc_1 : ∀ w, w ∈ wl_1 → w ∈ BIG := big_w (X := wl_0) (Y := wl_2 ++ (wl_3 ++ (wl_4 ++ ([])))) (by rw [tb_1]) in_tb1 (by decide +kernel)
theorem m_t26 : Cond.instanceMethod yX4_init ∈ BIG := wc_1 _ (List.mem_of_getElem? (l := wl_1) (i := 0) rfl)
theorem m_t27 : Cond.code yX4_init cX4_init 1 none ∈ BIG := wc_1 _ (List.mem_of_getElem? (l := wl_1) (i := 1) rfl)
theorem m_t28 : Cond.methodLink RX4 3 objectInit ∈ BIG := wc_1 _ (List.mem_of_getElem? (l := wl_1) (i := 2) rfl)
theorem m_t29 : Cond.fieldLink RX4 40 "EachBookOnce$Town" "books" "I" ∈ BIG := wc_1 _ (List.mem_of_getElem? (l := wl_1) (i := 3) rfl)
theorem m_t34 : Cond.fieldLink RX4 43 "EachBookOnce$Town" "people" "I" ∈ BIG := wc_1 _ (List.mem_of_getElem? (l := wl_1) (i := 4) rfl)
theorem m_t39 : Cond.fieldLink RX4 46 "EachBookOnce$Town" "white" "I" ∈ BIG := wc_1 _ (List.mem_of_getElem? (l := wl_1) (i := 5) rfl)
theorem m_t43 : Cond.fieldLink RX4 49 "EachBookOnce$Town" "gone" "I" ∈ BIG := wc_1 _ (List.mem_of_getElem? (l := wl_1) (i := 6) rfl)
theorem m_t46 : Cond.fieldLink RX4 9 "EachBookOnce$Town" "luck" "I" ∈ BIG := wc_1 _ (List.mem_of_getElem? (l := wl_1) (i := 7) rfl)
theorem m_t48 : Cond.fieldLink RX4 15 "EachBookOnce$Town" "worth" "[I" ∈ BIG := wc_1 _ (List.mem_of_getElem? (l := wl_1) (i := 8) rfl)
theorem m_t50 : Cond.fieldLink RX4 19 "EachBookOnce$Town" "needed" "[I" ∈ BIG := wc_1 _ (List.mem_of_getElem? (l := wl_1) (i := 9) rfl)
theorem m_t53 : Cond.fieldLink RX4 22 "EachBookOnce$Town" "good" "[I" ∈ BIG := wc_1 _ (List.mem_of_getElem? (l := wl_1) (i := 10) rfl)
theorem m_t56 : Cond.fieldLink RX4 25 "EachBookOnce$Town" "age" "[I" ∈ BIG := wc_1 _ (List.mem_of_getElem? (l := wl_1) (i := 11) rfl)
theorem m_t58 : Cond.fieldLink RX4 28 "EachBookOnce$Town" "reading" "[I" ∈ BIG := wc_1 _ (List.mem_of_getElem? (l := wl_1) (i := 12) rfl)
theorem m_t60 : Cond.fieldLink RX4 31 "EachBookOnce$Town" "memory" "[I" ∈ BIG := wc_1 _ (List.mem_of_getElem? (l := wl_1) (i := 13) rfl)
theorem m_t62 : Cond.fieldLink RX4 34 "EachBookOnce$Town" "telling" "[I" ∈ BIG := wc_1 _ (List.mem_of_getElem? (l := wl_1) (i := 14) rfl)
theorem m_t64 : Cond.fieldLink RX4 37 "EachBookOnce$Town" "share" "[I" ∈ BIG := wc_1 _ (List.mem_of_getElem? (l := wl_1) (i := 15) rfl)
theorem m_t92 : Cond.arrayClass .int ∈ BIG := wc_1 _ (List.mem_of_getElem? (l := wl_1) (i := 16) rfl)
theorem m_t93 : Cond.classLink RX5 19 RX0 ∈ BIG := wc_1 _ (List.mem_of_getElem? (l := wl_1) (i := 17) rfl)
theorem m_t94 : Cond.instantiable RX0 4 ∈ BIG := wc_1 _ (List.mem_of_getElem? (l := wl_1) (i := 18) rfl)
theorem m_t96 : Cond.instanceMethod yX0_init ∈ BIG := wc_1 _ (List.mem_of_getElem? (l := wl_1) (i := 19) rfl)
theorem m_t97 : Cond.code yX0_init cX0_init 1 none ∈ BIG := wc_1 _ (List.mem_of_getElem? (l := wl_1) (i := 20) rfl)
theorem m_t98 : Cond.methodLink RX0 3 objectInit ∈ BIG := wc_1 _ (List.mem_of_getElem? (l := wl_1) (i := 21) rfl)
theorem m_t99 : Cond.classLink RX0 9 RX4 ∈ BIG := wc_1 _ (List.mem_of_getElem? (l := wl_1) (i := 22) rfl)
theorem m_t101 : Cond.fieldLink RX0 12 "EachBookOnce$Plans" "trial" "LEachBookOnce$Town;" ∈ BIG := wc_1 _ (List.mem_of_getElem? (l := wl_1) (i := 23) rfl)
theorem m_t103 : Cond.fieldLink RX0 18 "EachBookOnce$Plans" "second" "LEachBookOnce$Town;" ∈ BIG := wc_1 _ (List.mem_of_getElem? (l := wl_1) (i := 24) rfl)
theorem wc_2 : ∀ w, w ∈ wl_2 → w ∈ BIG := big_w (X := (wl_0 ++ wl_1)) (Y := wl_3 ++ (wl_4 ++ ([]))) (by rw [tb_1]; simp only [List.append_assoc]) in_tb1 (by decide +kernel)
theorem m_t104 : Cond.fieldLink RX0 29 "EachBookOnce$Plans" "lastValue" "I" ∈ BIG := wc_2 _ (List.mem_of_getElem? (l := wl_2) (i := 0) rfl)
theorem m_t106 : Cond.fieldLink RX0 64 "EachBookOnce$Plans" "bestSum" "I" ∈ BIG := wc_2 _ (List.mem_of_getElem? (l := wl_2) (i := 1) rfl)
theorem m_t117 : Cond.classLink RX5 26 RX2 ∈ BIG := wc_2 _ (List.mem_of_getElem? (l := wl_2) (i := 2) rfl)
theorem m_t118 : Cond.instantiable RX2 4 ∈ BIG := wc_2 _ (List.mem_of_getElem? (l := wl_2) (i := 3) rfl)
theorem m_t119 : Cond.methodLink RX5 28 yX2_init ∈ BIG := wc_2 _ (List.mem_of_getElem? (l := wl_2) (i := 4) rfl)
theorem m_t120 : Cond.instanceMethod yX2_init ∈ BIG := wc_2 _ (List.mem_of_getElem? (l := wl_2) (i := 5) rfl)
theorem m_t121 : Cond.code yX2_init cX2_init 2 none ∈ BIG := wc_2 _ (List.mem_of_getElem? (l := wl_2) (i := 6) rfl)
theorem m_t122 : Cond.methodLink RX2 3 objectInit ∈ BIG := wc_2 _ (List.mem_of_getElem? (l := wl_2) (i := 7) rfl)
theorem m_t123 : Cond.fieldLink RX2 9 "EachBookOnce$Shelves" "holding" "[I" ∈ BIG := wc_2 _ (List.mem_of_getElem? (l := wl_2) (i := 8) rfl)
theorem m_t125 : Cond.fieldLink RX2 15 "EachBookOnce$Shelves" "size" "[I" ∈ BIG := wc_2 _ (List.mem_of_getElem? (l := wl_2) (i := 9) rfl)
theorem m_t127 : Cond.fieldLink RX2 18 "EachBookOnce$Shelves" "amount" "[I" ∈ BIG := wc_2 _ (List.mem_of_getElem? (l := wl_2) (i := 10) rfl)
theorem m_t129 : Cond.fieldLink RX2 21 "EachBookOnce$Shelves" "elements" "[J" ∈ BIG := wc_2 _ (List.mem_of_getElem? (l := wl_2) (i := 11) rfl)
theorem m_t139 : Cond.arrayClass .long ∈ BIG := wc_2 _ (List.mem_of_getElem? (l := wl_2) (i := 12) rfl)
theorem m_t140 : Cond.classLink RX5 33 RX3 ∈ BIG := wc_2 _ (List.mem_of_getElem? (l := wl_2) (i := 13) rfl)
theorem m_t141 : Cond.instantiable RX3 7 ∈ BIG := wc_2 _ (List.mem_of_getElem? (l := wl_2) (i := 14) rfl)
theorem m_t143 : Cond.instanceMethod yX3_init ∈ BIG := wc_2 _ (List.mem_of_getElem? (l := wl_2) (i := 15) rfl)
theorem m_t144 : Cond.code yX3_init cX3_init 1 none ∈ BIG := wc_2 _ (List.mem_of_getElem? (l := wl_2) (i := 16) rfl)
theorem m_t145 : Cond.methodLink RX3 3 objectInit ∈ BIG := wc_2 _ (List.mem_of_getElem? (l := wl_2) (i := 17) rfl)
theorem m_t146 : Cond.classLink RX3 15 RX4 ∈ BIG := wc_2 _ (List.mem_of_getElem? (l := wl_2) (i := 18) rfl)
theorem m_t148 : Cond.fieldLink RX3 11 "EachBookOnce$Tape" "bytes" "[B" ∈ BIG := wc_2 _ (List.mem_of_getElem? (l := wl_2) (i := 19) rfl)
theorem m_t149 : Cond.fieldLink RX3 22 "EachBookOnce$Tape" "size" "I" ∈ BIG := wc_2 _ (List.mem_of_getElem? (l := wl_2) (i := 20) rfl)
theorem m_t151 : Cond.fieldLink RX3 121 "EachBookOnce$Tape" "start" "I" ∈ BIG := wc_2 _ (List.mem_of_getElem? (l := wl_2) (i := 21) rfl)
theorem m_t152 : Cond.fieldLink RX3 33 "EachBookOnce$Tape" "end" "I" ∈ BIG := wc_2 _ (List.mem_of_getElem? (l := wl_2) (i := 22) rfl)
theorem m_t153 : Cond.fieldLink RX3 42 "EachBookOnce$Tape" "token" "I" ∈ BIG := wc_2 _ (List.mem_of_getElem? (l := wl_2) (i := 23) rfl)
theorem m_t154 : Cond.fieldLink RX3 30 "EachBookOnce$Tape" "fault" "I" ∈ BIG := wc_2 _ (List.mem_of_getElem? (l := wl_2) (i := 24) rfl)
theorem wc_3 : ∀ w, w ∈ wl_3 → w ∈ BIG := big_w (X := ((wl_0 ++ wl_1) ++ wl_2)) (Y := wl_4 ++ ([])) (by rw [tb_1]; simp only [List.append_assoc]) in_tb1 (by decide +kernel)
theorem m_t156 : Cond.fieldLink RX3 18 "EachBookOnce$Tape" "draft" "LEachBookOnce$Town;" ∈ BIG := wc_3 _ (List.mem_of_getElem? (l := wl_3) (i := 0) rfl)
theorem m_t173 : Cond.arrayClass .byte ∈ BIG := wc_3 _ (List.mem_of_getElem? (l := wl_3) (i := 1) rfl)
theorem m_t174 : Cond.fieldLink RX5 10 "EachBookOnce" "town" "LEachBookOnce$Town;" ∈ BIG := wc_3 _ (List.mem_of_getElem? (l := wl_3) (i := 2) rfl)
theorem m_t175 : Cond.fieldLink RX5 16 "EachBookOnce" "kept" "LEachBookOnce$Town;" ∈ BIG := wc_3 _ (List.mem_of_getElem? (l := wl_3) (i := 3) rfl)
theorem m_t176 : Cond.fieldLink RX5 22 "EachBookOnce" "plans" "LEachBookOnce$Plans;" ∈ BIG := wc_3 _ (List.mem_of_getElem? (l := wl_3) (i := 4) rfl)
theorem m_t177 : Cond.fieldLink RX5 29 "EachBookOnce" "shelves" "LEachBookOnce$Shelves;" ∈ BIG := wc_3 _ (List.mem_of_getElem? (l := wl_3) (i := 5) rfl)
theorem m_t178 : Cond.fieldLink RX5 36 "EachBookOnce" "tape" "LEachBookOnce$Tape;" ∈ BIG := wc_3 _ (List.mem_of_getElem? (l := wl_3) (i := 6) rfl)
theorem m_t179 : Cond.fieldLink RX5 40 "EachBookOnce" "refusals" "[I" ∈ BIG := wc_3 _ (List.mem_of_getElem? (l := wl_3) (i := 7) rfl)
theorem m_t180 : Cond.fieldLink RX5 344 "EachBookOnce" "isKept" "Z" ∈ BIG := wc_3 _ (List.mem_of_getElem? (l := wl_3) (i := 8) rfl)
theorem m_t181 : Cond.fieldLink RX5 335 "EachBookOnce" "yearsEnded" "I" ∈ BIG := wc_3 _ (List.mem_of_getElem? (l := wl_3) (i := 9) rfl)
theorem m_t182 : Cond.fieldLink RX5 338 "EachBookOnce" "trueValues" "I" ∈ BIG := wc_3 _ (List.mem_of_getElem? (l := wl_3) (i := 10) rfl)
theorem m_t202 : Cond.methodLink RL 13 yX5_row ∈ BIG := wc_3 _ (List.mem_of_getElem? (l := wl_3) (i := 11) rfl)
theorem m_t203 : Cond.instanceMethod yX5_row ∈ BIG := wc_3 _ (List.mem_of_getElem? (l := wl_3) (i := 12) rfl)
theorem m_t204 : Cond.selects RX5 yX5_row yX5_row ∈ BIG := wc_3 _ (List.mem_of_getElem? (l := wl_3) (i := 13) rfl)
theorem m_t205 : Cond.code yX5_row cX5_row 4 (some .int) ∈ BIG := wc_3 _ (List.mem_of_getElem? (l := wl_3) (i := 14) rfl)
theorem m_t206 : Cond.methodLink RX5 44 yX5_isShelf ∈ BIG := wc_3 _ (List.mem_of_getElem? (l := wl_3) (i := 15) rfl)
theorem m_t207 : Cond.static yX5_isShelf ∈ BIG := wc_3 _ (List.mem_of_getElem? (l := wl_3) (i := 16) rfl)
theorem m_t208 : Cond.code yX5_isShelf cX5_isShelf 1 (some .boolean) ∈ BIG := wc_3 _ (List.mem_of_getElem? (l := wl_3) (i := 17) rfl)
theorem m_t209 : Cond.constantLong RX5 355 7 ∈ BIG := wc_3 _ (List.mem_of_getElem? (l := wl_3) (i := 18) rfl)
theorem m_t210 : Cond.methodLink RX5 50 yX5_within ∈ BIG := wc_3 _ (List.mem_of_getElem? (l := wl_3) (i := 19) rfl)
theorem m_t211 : Cond.static yX5_within ∈ BIG := wc_3 _ (List.mem_of_getElem? (l := wl_3) (i := 20) rfl)
theorem m_t212 : Cond.code yX5_within cX5_within 6 (some .boolean) ∈ BIG := wc_3 _ (List.mem_of_getElem? (l := wl_3) (i := 21) rfl)
theorem m_t213 : Cond.constantLong RX5 48 4 ∈ BIG := wc_3 _ (List.mem_of_getElem? (l := wl_3) (i := 22) rfl)
theorem m_t214 : Cond.constantLong RX5 54 40 ∈ BIG := wc_3 _ (List.mem_of_getElem? (l := wl_3) (i := 23) rfl)
theorem m_t215 : Cond.methodLink RX5 56 yX5_refuse ∈ BIG := wc_3 _ (List.mem_of_getElem? (l := wl_3) (i := 24) rfl)
theorem wc_4 : ∀ w, w ∈ wl_4 → w ∈ BIG := big_w (X := (((wl_0 ++ wl_1) ++ wl_2) ++ wl_3)) (Y := []) (by rw [tb_1]; simp only [List.append_assoc]) in_tb1 (by decide +kernel)
theorem m_t217 : Cond.instanceMethod yX5_refuse ∈ BIG := wc_4 _ (List.mem_of_getElem? (l := wl_4) (i := 0) rfl)
theorem m_t218 : Cond.code yX5_refuse cX5_refuse 3 (some .int) ∈ BIG := wc_4 _ (List.mem_of_getElem? (l := wl_4) (i := 1) rfl)
theorem m_t219 : Cond.methodLink RX5 60 yX2_putRow ∈ BIG := wc_4 _ (List.mem_of_getElem? (l := wl_4) (i := 2) rfl)
theorem m_t220 : Cond.instanceMethod yX2_putRow ∈ BIG := wc_4 _ (List.mem_of_getElem? (l := wl_4) (i := 3) rfl)
theorem m_t221 : Cond.selects RX2 yX2_putRow yX2_putRow ∈ BIG := wc_4 _ (List.mem_of_getElem? (l := wl_4) (i := 4) rfl)
theorem m_t222 : Cond.code yX2_putRow cX2_putRow 5 none ∈ BIG := wc_4 _ (List.mem_of_getElem? (l := wl_4) (i := 5) rfl)
theorem m_t223 : Cond.methodLink RL 20 yX5_set ∈ BIG := wc_4 _ (List.mem_of_getElem? (l := wl_4) (i := 6) rfl)
theorem m_t224 : Cond.instanceMethod yX5_set ∈ BIG := wc_4 _ (List.mem_of_getElem? (l := wl_4) (i := 7) rfl)
theorem m_t225 : Cond.selects RX5 yX5_set yX5_set ∈ BIG := wc_4 _ (List.mem_of_getElem? (l := wl_4) (i := 8) rfl)
theorem m_t226 : Cond.code yX5_set cX5_set 6 (some .int) ∈ BIG := wc_4 _ (List.mem_of_getElem? (l := wl_4) (i := 9) rfl)
theorem m_t227 : Cond.methodLink RX5 64 yX5_rowFit ∈ BIG := wc_4 _ (List.mem_of_getElem? (l := wl_4) (i := 10) rfl)
theorem m_t229 : Cond.instanceMethod yX5_rowFit ∈ BIG := wc_4 _ (List.mem_of_getElem? (l := wl_4) (i := 11) rfl)
theorem m_t230 : Cond.code yX5_rowFit cX5_rowFit 2 (some .int) ∈ BIG := wc_4 _ (List.mem_of_getElem? (l := wl_4) (i := 12) rfl)
theorem m_t231 : Cond.methodLink RX5 361 yX2_hasRule ∈ BIG := wc_4 _ (List.mem_of_getElem? (l := wl_4) (i := 13) rfl)
theorem m_t232 : Cond.instanceMethod yX2_hasRule ∈ BIG := wc_4 _ (List.mem_of_getElem? (l := wl_4) (i := 14) rfl)
theorem m_t233 : Cond.selects RX2 yX2_hasRule yX2_hasRule ∈ BIG := wc_4 _ (List.mem_of_getElem? (l := wl_4) (i := 15) rfl)
theorem m_t234 : Cond.code yX2_hasRule cX2_hasRule 2 (some .boolean) ∈ BIG := wc_4 _ (List.mem_of_getElem? (l := wl_4) (i := 16) rfl)
theorem m_t235 : Cond.methodLink RX5 364 yX2_hasRow ∈ BIG := wc_4 _ (List.mem_of_getElem? (l := wl_4) (i := 17) rfl)
theorem m_t236 : Cond.instanceMethod yX2_hasRow ∈ BIG := wc_4 _ (List.mem_of_getElem? (l := wl_4) (i := 18) rfl)
theorem m_t237 : Cond.selects RX2 yX2_hasRow yX2_hasRow ∈ BIG := wc_4 _ (List.mem_of_getElem? (l := wl_4) (i := 19) rfl)
theorem m_t238 : Cond.code yX2_hasRow cX2_hasRow 2 (some .boolean) ∈ BIG := wc_4 _ (List.mem_of_getElem? (l := wl_4) (i := 20) rfl)
theorem m_t239 : Cond.methodLink RX5 70 yX2_put ∈ BIG := wc_4 _ (List.mem_of_getElem? (l := wl_4) (i := 21) rfl)
noncomputable def wl_5 : List Cond := [Cond.instanceMethod yX2_put, Cond.selects RX2 yX2_put yX2_put, Cond.code yX2_put cX2_put 5 none, Cond.methodLink RX2 25 yX2_lowestBits, Cond.static yX2_lowestBits, Cond.code yX2_lowestBits cX2_lowestBits 3 (some .long), Cond.methodLink RL 25 yX5_copy, Cond.instanceMethod yX5_copy, Cond.selects RX5 yX5_copy yX5_copy, Cond.code yX5_copy cX5_copy 7 (some .int), Cond.methodLink RX5 74 yX5_copyFit, Cond.instanceMethod yX5_copyFit, Cond.code yX5_copyFit cX5_copyFit 3 (some .int), Cond.methodLink RX5 78 yX5_hasSpan, Cond.instanceMethod yX5_hasSpan, Cond.code yX5_hasSpan cX5_hasSpan 4 (some .boolean), Cond.methodLink RX5 82 yX2_move, Cond.instanceMethod yX2_move, Cond.selects RX2 yX2_move yX2_move, Cond.code yX2_move cX2_move 6 none, Cond.methodLink RL 30 yX5_element, Cond.instanceMethod yX5_element, Cond.selects RX5 yX5_element yX5_element, Cond.code yX5_element cX5_element 3 (some .long), Cond.methodLink RX5 86 yX2_at]
noncomputable def wl_6 : List Cond := [Cond.instanceMethod yX2_at, Cond.selects RX2 yX2_at yX2_at, Cond.code yX2_at cX2_at 3 (some .long), Cond.methodLink RL 35 yX5_holds, Cond.instanceMethod yX5_holds, Cond.selects RX5 yX5_holds yX5_holds, Cond.code yX5_holds cX5_holds 2 (some .int), Cond.methodLink RL 40 yX5_rule, Cond.instanceMethod yX5_rule, Cond.selects RX5 yX5_rule yX5_rule, Cond.code yX5_rule cX5_rule 4 (some .int), Cond.constantLong RX5 93 6, Cond.constantLong RX5 95 99, Cond.methodLink RX5 97 yX2_putRule, Cond.instanceMethod yX2_putRule, Cond.selects RX2 yX2_putRule yX2_putRule, Cond.code yX2_putRule cX2_putRule 4 none, Cond.methodLink RL 44 yX5_says, Cond.instanceMethod yX5_says, Cond.selects RX5 yX5_says yX5_says, Cond.code yX5_says cX5_says 6 (some .int), Cond.methodLink RX5 100 yX5_ruleFit, Cond.instanceMethod yX5_ruleFit, Cond.code yX5_ruleFit cX5_ruleFit 2 (some .int), Cond.methodLink RX5 103 yX2_kindIn]
noncomputable def wl_7 : List Cond := [Cond.instanceMethod yX2_kindIn, Cond.selects RX2 yX2_kindIn yX2_kindIn, Cond.code yX2_kindIn cX2_kindIn 2 (some .int), Cond.methodLink RX5 106 yX1_isUnder, Cond.static yX1_isUnder, Cond.code yX1_isUnder cX1_isUnder 2 (some .boolean), Cond.methodLink RX5 115 yX0_trialOf, Cond.instanceMethod yX0_trialOf, Cond.selects RX0 yX0_trialOf yX0_trialOf, Cond.code yX0_trialOf cX0_trialOf 2 (some (.object "EachBookOnce$Town")), Cond.methodLink RX0 21 yX4_become, Cond.instanceMethod yX4_become, Cond.selects RX4 yX4_become yX4_become, Cond.code yX4_become cX4_become 2 none, Cond.methodLink RX5 119 yX1_act, Cond.static yX1_act, Cond.code yX1_act cX1_act 3 (some .int), Cond.methodLink RX1 9 yX1_readDearest, Cond.static yX1_readDearest, Cond.code yX1_readDearest cX1_readDearest 7 (some .int), Cond.methodLink RX1 19 yX4_dearestUnread, Cond.instanceMethod yX4_dearestUnread, Cond.selects RX4 yX4_dearestUnread yX4_dearestUnread, Cond.code yX4_dearestUnread cX4_dearestUnread 3 (some .int), Cond.static yX5_has]
noncomputable def wl_8 : List Cond := [Cond.code yX5_has cX5_has 2 (some .boolean), Cond.methodLink RX1 25 yX4_bestReader, Cond.instanceMethod yX4_bestReader, Cond.selects RX4 yX4_bestReader yX4_bestReader, Cond.code yX4_bestReader cX4_bestReader 6 (some .int), Cond.methodLink RX4 91 yX4_wouldKnow, Cond.instanceMethod yX4_wouldKnow, Cond.selects RX4 yX4_wouldKnow yX4_wouldKnow, Cond.code yX4_wouldKnow cX4_wouldKnow 4 (some .int), Cond.methodLink RX4 85 yX4_groundOf, Cond.instanceMethod yX4_groundOf, Cond.selects RX4 yX4_groundOf yX4_groundOf, Cond.code yX4_groundOf cX4_groundOf 5 (some .int), Cond.methodLink RX4 88 yX4_grasped, Cond.static yX4_grasped, Cond.code yX4_grasped cX4_grasped 2 (some .int), Cond.methodLink RX4 66 yX4_knows, Cond.instanceMethod yX4_knows, Cond.selects RX4 yX4_knows yX4_knows, Cond.code yX4_knows cX4_knows 3 (some .int), Cond.methodLink RX4 70 yJ9_max_7cf53, Cond.static yJ9_max_7cf53, Cond.code yJ9_max_7cf53 cJ9_max_7cf53 2 (some .int), Cond.methodLink RX1 29 yX4_readBy, Cond.instanceMethod yX4_readBy]
noncomputable def wl_9 : List Cond := [Cond.selects RX4 yX4_readBy yX4_readBy, Cond.code yX4_readBy cX4_readBy 3 none, Cond.methodLink RX4 94 yX4_learn, Cond.instanceMethod yX4_learn, Cond.selects RX4 yX4_learn yX4_learn, Cond.code yX4_learn cX4_learn 4 none, Cond.methodLink RX1 33 yX4_setThere, Cond.instanceMethod yX4_setThere, Cond.selects RX4 yX4_setThere yX4_setThere, Cond.code yX4_setThere cX4_setThere 1 (some .int), Cond.static yX5_setOfAll, Cond.code yX5_setOfAll cX5_setOfAll 1 (some .int), Cond.methodLink RX1 36 yX4_hearFrom, Cond.instanceMethod yX4_hearFrom, Cond.selects RX4 yX4_hearFrom yX4_hearFrom, Cond.code yX4_hearFrom cX4_hearFrom 9 (some .int), Cond.methodLink RX4 78 yX4_setThere, Cond.methodLink RX1 15 yX1_tellChain, Cond.static yX1_tellChain, Cond.code yX1_tellChain cX1_tellChain 4 none, Cond.methodLink RX1 51 yX4_youngestBut, Cond.instanceMethod yX4_youngestBut, Cond.selects RX4 yX4_youngestBut yX4_youngestBut, Cond.code yX4_youngestBut cX4_youngestBut 4 (some .int), Cond.methodLink RX1 57 yX4_tellTo]
noncomputable def wl_10 : List Cond := [Cond.instanceMethod yX4_tellTo, Cond.selects RX4 yX4_tellTo yX4_tellTo, Cond.code yX4_tellTo cX4_tellTo 4 none, Cond.methodLink RX4 101 yX4_gainByTelling, Cond.instanceMethod yX4_gainByTelling, Cond.selects RX4 yX4_gainByTelling yX4_gainByTelling, Cond.code yX4_gainByTelling cX4_gainByTelling 4 (some .int), Cond.methodLink RX4 98 yX4_afterTelling, Cond.static yX4_afterTelling, Cond.code yX4_afterTelling cX4_afterTelling 2 (some .int), Cond.methodLink RX5 123 yX4_worthNow, Cond.instanceMethod yX4_worthNow, Cond.selects RX4 yX4_worthNow yX4_worthNow, Cond.code yX4_worthNow cX4_worthNow 1 (some .int), Cond.methodLink RX4 82 yX4_worthAmong, Cond.instanceMethod yX4_worthAmong, Cond.selects RX4 yX4_worthAmong yX4_worthAmong, Cond.code yX4_worthAmong cX4_worthAmong 4 (some .int), Cond.methodLink RX4 75 yX4_mostKnown, Cond.instanceMethod yX4_mostKnown, Cond.selects RX4 yX4_mostKnown yX4_mostKnown, Cond.code yX4_mostKnown cX4_mostKnown 5 (some .int), Cond.methodLink RL 49 yX5_book, Cond.instanceMethod yX5_book, Cond.selects RX5 yX5_book yX5_book]
noncomputable def wl_11 : List Cond := [Cond.code yX5_book cX5_book 3 (some .int), Cond.methodLink RX5 131 yX5_isSetOf, Cond.static yX5_isSetOf, Cond.code yX5_isSetOf cX5_isSetOf 2 (some .boolean), Cond.methodLink RX5 186 yX5_setOfAll, Cond.methodLink RX5 134 yX4_addBook, Cond.instanceMethod yX4_addBook, Cond.selects RX4 yX4_addBook yX4_addBook, Cond.code yX4_addBook cX4_addBook 4 (some .int), Cond.methodLink RL 53 yX5_one, Cond.instanceMethod yX5_one, Cond.selects RX5 yX5_one yX5_one, Cond.code yX5_one cX5_one 5 (some .int), Cond.methodLink RX5 137 yX5_canBeOne, Cond.static yX5_canBeOne, Cond.code yX5_canBeOne cX5_canBeOne 8 (some .boolean), Cond.constantLong RX5 357 9, Cond.constantLong RX5 359 10, Cond.methodLink RX5 144 yX4_addOne, Cond.instanceMethod yX4_addOne, Cond.selects RX4 yX4_addOne yX4_addOne, Cond.code yX4_addOne cX4_addOne 6 (some .int), Cond.methodLink RL 58 yX5_ones, Cond.instanceMethod yX5_ones, Cond.selects RX5 yX5_ones yX5_ones]
noncomputable def wl_12 : List Cond := [Cond.code yX5_ones cX5_ones 14 (some .int), Cond.methodLink RL 62 yX5_feed, Cond.instanceMethod yX5_feed, Cond.selects RX5 yX5_feed yX5_feed, Cond.code yX5_feed cX5_feed 4 (some .int), Cond.methodLink RX5 150 yX3_append, Cond.instanceMethod yX3_append, Cond.selects RX3 yX3_append yX3_append, Cond.code yX3_append cX3_append 2 none, Cond.methodLink RL 66 yX5_wipe, Cond.instanceMethod yX5_wipe, Cond.selects RX5 yX5_wipe yX5_wipe, Cond.code yX5_wipe cX5_wipe 2 (some .int), Cond.methodLink RL 71 yX5_town, Cond.instanceMethod yX5_town, Cond.selects RX5 yX5_town yX5_town, Cond.code yX5_town cX5_town 2 (some .int), Cond.methodLink RX5 154 yX3_readFrom, Cond.instanceMethod yX3_readFrom, Cond.selects RX3 yX3_readFrom yX3_readFrom, Cond.code yX3_readFrom cX3_readFrom 3 (some .int), Cond.methodLink RX3 26 yX4_become, Cond.methodLink RX3 36 yX3_step, Cond.instanceMethod yX3_step, Cond.code yX3_step cX3_step 2 none]
noncomputable def wl_13 : List Cond := [Cond.methodLink RX3 133 yX3_sortAt, Cond.instanceMethod yX3_sortAt, Cond.code yX3_sortAt cX3_sortAt 3 (some .int), Cond.methodLink RX3 39 yX3_readStatement, Cond.instanceMethod yX3_readStatement, Cond.code yX3_readStatement cX3_readStatement 1 none, Cond.methodLink RX3 50 yX3_isWord, Cond.instanceMethod yX3_isWord, Cond.code yX3_isWord cX3_isWord 3 (some .boolean), Cond.methodLink RX3 124 yJ0_length_8abf5, Cond.instanceMethod yJ0_length_8abf5, Cond.selects RJ0 yJ0_length_8abf5 yJ0_length_8abf5, Cond.code yJ0_length_8abf5 cJ0_length_8abf5 1 (some .int), Cond.methodLink RJ0 335 yJ0_coder_7d493, Cond.instanceMethod yJ0_coder_7d493, Cond.selects RJ0 yJ0_coder_7d493 yJ0_coder_7d493, Cond.code yJ0_coder_7d493 cJ0_coder_7d493 1 (some .byte), Cond.fieldLink RJ0 38 "java/lang/String" "COMPACT_STRINGS" "Z", Cond.methodLink RX3 129 yJ0_charAt_5068e, Cond.instanceMethod yJ0_charAt_5068e, Cond.selects RJ0 yJ0_charAt_5068e yJ0_charAt_5068e, Cond.code yJ0_charAt_5068e cJ0_charAt_5068e 2 (some .char), Cond.methodLink RJ0 492 yJ0_isLatin1_aae02, Cond.instanceMethod yJ0_isLatin1_aae02]
set_option maxRecDepth 100000 in
theorem tb_2 : selM ([true, true, true, true, true, true, true, true, true, true, true, false, true, true, true, false, true, true, true, true, true, true, false, false, false, true, true, true, true, true, true, true, true, true, true, true, true, true, true, true, true, true, true, true, true, true, true, true, true, true, true, true, false, true, true, true, true, true, true, true] ++ ([true, true, true, true, true, true, true, true, true, true, false, true, true, true, true, true, true, true, true, true, true, false, true, true, true, true, true, true, true, true, true, true, true, true, true, true, true, true, true, true, true, true, true, true, true, true, true, true, true, true, true, true, true, true, true, true, true, true, false, true] ++ ([true, true, true, true, true, true, true, true, true, false, true, true, true, true, true, true, true, true, true, true, true, true, true, true, true, true, true, true, true, true, true, true, true, true, true, true, true, true, true, true, true, true, true, true, true, true, true, true, true, true, true, true, true, true, true, true, true, true, true, true] ++ ([true, true, true, true, true, true, true, true, true, true, true, true, true, true, true, true, true, true, true, true, true, true, true, true, true, true, true, true, false, true, true, true, false, true, true, true, false, true, true, false, true, false, true, true, true, true, true, true, true, true, true, true, true, false, true, true, true, true, true, true])))) tables_1_2 = wl_5 ++ (wl_6 ++ (wl_7 ++ (wl_8 ++ (wl_9 ++ (wl_10 ++ (wl_11 ++ (wl_12 ++ (wl_13 ++ ([]))))))))) := rfl
theorem wc_5 : ∀ w, w ∈ wl_5 → w ∈ BIG := big_w (X := []) (Y := wl_6 ++ (wl_7 ++ (wl_8 ++ (wl_9 ++ (wl_10 ++ (wl_11 ++ (wl_12 ++ (wl_13 ++ ([]))))))))) (show _ = [] ++ _ from tb_2) in_tb2 (by decide +kernel)
theorem m_t240 : Cond.instanceMethod yX2_put ∈ BIG := wc_5 _ (List.mem_of_getElem? (l := wl_5) (i := 0) rfl)
theorem m_t241 : Cond.selects RX2 yX2_put yX2_put ∈ BIG := wc_5 _ (List.mem_of_getElem? (l := wl_5) (i := 1) rfl)
theorem m_t242 : Cond.code yX2_put cX2_put 5 none ∈ BIG := wc_5 _ (List.mem_of_getElem? (l := wl_5) (i := 2) rfl)
theorem m_t243 : Cond.methodLink RX2 25 yX2_lowestBits ∈ BIG := wc_5 _ (List.mem_of_getElem? (l := wl_5) (i := 3) rfl)
theorem m_t244 : Cond.static yX2_lowestBits ∈ BIG := wc_5 _ (List.mem_of_getElem? (l := wl_5) (i := 4) rfl)
theorem m_t245 : Cond.code yX2_lowestBits cX2_lowestBits 3 (some .long) ∈ BIG := wc_5 _ (List.mem_of_getElem? (l := wl_5) (i := 5) rfl)
theorem m_t246 : Cond.methodLink RL 25 yX5_copy ∈ BIG := wc_5 _ (List.mem_of_getElem? (l := wl_5) (i := 6) rfl)
theorem m_t247 : Cond.instanceMethod yX5_copy ∈ BIG := wc_5 _ (List.mem_of_getElem? (l := wl_5) (i := 7) rfl)
theorem m_t248 : Cond.selects RX5 yX5_copy yX5_copy ∈ BIG := wc_5 _ (List.mem_of_getElem? (l := wl_5) (i := 8) rfl)
theorem m_t249 : Cond.code yX5_copy cX5_copy 7 (some .int) ∈ BIG := wc_5 _ (List.mem_of_getElem? (l := wl_5) (i := 9) rfl)
theorem m_t250 : Cond.methodLink RX5 74 yX5_copyFit ∈ BIG := wc_5 _ (List.mem_of_getElem? (l := wl_5) (i := 10) rfl)
theorem m_t252 : Cond.instanceMethod yX5_copyFit ∈ BIG := wc_5 _ (List.mem_of_getElem? (l := wl_5) (i := 11) rfl)
theorem m_t253 : Cond.code yX5_copyFit cX5_copyFit 3 (some .int) ∈ BIG := wc_5 _ (List.mem_of_getElem? (l := wl_5) (i := 12) rfl)
theorem m_t254 : Cond.methodLink RX5 78 yX5_hasSpan ∈ BIG := wc_5 _ (List.mem_of_getElem? (l := wl_5) (i := 13) rfl)
theorem m_t256 : Cond.instanceMethod yX5_hasSpan ∈ BIG := wc_5 _ (List.mem_of_getElem? (l := wl_5) (i := 14) rfl)
theorem m_t257 : Cond.code yX5_hasSpan cX5_hasSpan 4 (some .boolean) ∈ BIG := wc_5 _ (List.mem_of_getElem? (l := wl_5) (i := 15) rfl)
theorem m_t258 : Cond.methodLink RX5 82 yX2_move ∈ BIG := wc_5 _ (List.mem_of_getElem? (l := wl_5) (i := 16) rfl)
theorem m_t259 : Cond.instanceMethod yX2_move ∈ BIG := wc_5 _ (List.mem_of_getElem? (l := wl_5) (i := 17) rfl)
theorem m_t260 : Cond.selects RX2 yX2_move yX2_move ∈ BIG := wc_5 _ (List.mem_of_getElem? (l := wl_5) (i := 18) rfl)
theorem m_t261 : Cond.code yX2_move cX2_move 6 none ∈ BIG := wc_5 _ (List.mem_of_getElem? (l := wl_5) (i := 19) rfl)
theorem m_t265 : Cond.methodLink RL 30 yX5_element ∈ BIG := wc_5 _ (List.mem_of_getElem? (l := wl_5) (i := 20) rfl)
theorem m_t266 : Cond.instanceMethod yX5_element ∈ BIG := wc_5 _ (List.mem_of_getElem? (l := wl_5) (i := 21) rfl)
theorem m_t267 : Cond.selects RX5 yX5_element yX5_element ∈ BIG := wc_5 _ (List.mem_of_getElem? (l := wl_5) (i := 22) rfl)
theorem m_t268 : Cond.code yX5_element cX5_element 3 (some .long) ∈ BIG := wc_5 _ (List.mem_of_getElem? (l := wl_5) (i := 23) rfl)
theorem m_t269 : Cond.methodLink RX5 86 yX2_at ∈ BIG := wc_5 _ (List.mem_of_getElem? (l := wl_5) (i := 24) rfl)
theorem wc_6 : ∀ w, w ∈ wl_6 → w ∈ BIG := big_w (X := wl_5) (Y := wl_7 ++ (wl_8 ++ (wl_9 ++ (wl_10 ++ (wl_11 ++ (wl_12 ++ (wl_13 ++ ([])))))))) (by rw [tb_2]) in_tb2 (by decide +kernel)
theorem m_t270 : Cond.instanceMethod yX2_at ∈ BIG := wc_6 _ (List.mem_of_getElem? (l := wl_6) (i := 0) rfl)
theorem m_t271 : Cond.selects RX2 yX2_at yX2_at ∈ BIG := wc_6 _ (List.mem_of_getElem? (l := wl_6) (i := 1) rfl)
theorem m_t272 : Cond.code yX2_at cX2_at 3 (some .long) ∈ BIG := wc_6 _ (List.mem_of_getElem? (l := wl_6) (i := 2) rfl)
theorem m_t273 : Cond.methodLink RL 35 yX5_holds ∈ BIG := wc_6 _ (List.mem_of_getElem? (l := wl_6) (i := 3) rfl)
theorem m_t274 : Cond.instanceMethod yX5_holds ∈ BIG := wc_6 _ (List.mem_of_getElem? (l := wl_6) (i := 4) rfl)
theorem m_t275 : Cond.selects RX5 yX5_holds yX5_holds ∈ BIG := wc_6 _ (List.mem_of_getElem? (l := wl_6) (i := 5) rfl)
theorem m_t276 : Cond.code yX5_holds cX5_holds 2 (some .int) ∈ BIG := wc_6 _ (List.mem_of_getElem? (l := wl_6) (i := 6) rfl)
theorem m_t277 : Cond.methodLink RL 40 yX5_rule ∈ BIG := wc_6 _ (List.mem_of_getElem? (l := wl_6) (i := 7) rfl)
theorem m_t278 : Cond.instanceMethod yX5_rule ∈ BIG := wc_6 _ (List.mem_of_getElem? (l := wl_6) (i := 8) rfl)
theorem m_t279 : Cond.selects RX5 yX5_rule yX5_rule ∈ BIG := wc_6 _ (List.mem_of_getElem? (l := wl_6) (i := 9) rfl)
theorem m_t280 : Cond.code yX5_rule cX5_rule 4 (some .int) ∈ BIG := wc_6 _ (List.mem_of_getElem? (l := wl_6) (i := 10) rfl)
theorem m_t281 : Cond.constantLong RX5 93 6 ∈ BIG := wc_6 _ (List.mem_of_getElem? (l := wl_6) (i := 11) rfl)
theorem m_t282 : Cond.constantLong RX5 95 99 ∈ BIG := wc_6 _ (List.mem_of_getElem? (l := wl_6) (i := 12) rfl)
theorem m_t283 : Cond.methodLink RX5 97 yX2_putRule ∈ BIG := wc_6 _ (List.mem_of_getElem? (l := wl_6) (i := 13) rfl)
theorem m_t284 : Cond.instanceMethod yX2_putRule ∈ BIG := wc_6 _ (List.mem_of_getElem? (l := wl_6) (i := 14) rfl)
theorem m_t285 : Cond.selects RX2 yX2_putRule yX2_putRule ∈ BIG := wc_6 _ (List.mem_of_getElem? (l := wl_6) (i := 15) rfl)
theorem m_t286 : Cond.code yX2_putRule cX2_putRule 4 none ∈ BIG := wc_6 _ (List.mem_of_getElem? (l := wl_6) (i := 16) rfl)
theorem m_t287 : Cond.methodLink RL 44 yX5_says ∈ BIG := wc_6 _ (List.mem_of_getElem? (l := wl_6) (i := 17) rfl)
theorem m_t288 : Cond.instanceMethod yX5_says ∈ BIG := wc_6 _ (List.mem_of_getElem? (l := wl_6) (i := 18) rfl)
theorem m_t289 : Cond.selects RX5 yX5_says yX5_says ∈ BIG := wc_6 _ (List.mem_of_getElem? (l := wl_6) (i := 19) rfl)
theorem m_t290 : Cond.code yX5_says cX5_says 6 (some .int) ∈ BIG := wc_6 _ (List.mem_of_getElem? (l := wl_6) (i := 20) rfl)
theorem m_t291 : Cond.methodLink RX5 100 yX5_ruleFit ∈ BIG := wc_6 _ (List.mem_of_getElem? (l := wl_6) (i := 21) rfl)
theorem m_t293 : Cond.instanceMethod yX5_ruleFit ∈ BIG := wc_6 _ (List.mem_of_getElem? (l := wl_6) (i := 22) rfl)
theorem m_t294 : Cond.code yX5_ruleFit cX5_ruleFit 2 (some .int) ∈ BIG := wc_6 _ (List.mem_of_getElem? (l := wl_6) (i := 23) rfl)
theorem m_t295 : Cond.methodLink RX5 103 yX2_kindIn ∈ BIG := wc_6 _ (List.mem_of_getElem? (l := wl_6) (i := 24) rfl)
theorem wc_7 : ∀ w, w ∈ wl_7 → w ∈ BIG := big_w (X := (wl_5 ++ wl_6)) (Y := wl_8 ++ (wl_9 ++ (wl_10 ++ (wl_11 ++ (wl_12 ++ (wl_13 ++ ([]))))))) (by rw [tb_2]; simp only [List.append_assoc]) in_tb2 (by decide +kernel)
theorem m_t296 : Cond.instanceMethod yX2_kindIn ∈ BIG := wc_7 _ (List.mem_of_getElem? (l := wl_7) (i := 0) rfl)
theorem m_t297 : Cond.selects RX2 yX2_kindIn yX2_kindIn ∈ BIG := wc_7 _ (List.mem_of_getElem? (l := wl_7) (i := 1) rfl)
theorem m_t298 : Cond.code yX2_kindIn cX2_kindIn 2 (some .int) ∈ BIG := wc_7 _ (List.mem_of_getElem? (l := wl_7) (i := 2) rfl)
theorem m_t299 : Cond.methodLink RX5 106 yX1_isUnder ∈ BIG := wc_7 _ (List.mem_of_getElem? (l := wl_7) (i := 3) rfl)
theorem m_t300 : Cond.static yX1_isUnder ∈ BIG := wc_7 _ (List.mem_of_getElem? (l := wl_7) (i := 4) rfl)
theorem m_t301 : Cond.code yX1_isUnder cX1_isUnder 2 (some .boolean) ∈ BIG := wc_7 _ (List.mem_of_getElem? (l := wl_7) (i := 5) rfl)
theorem m_t302 : Cond.methodLink RX5 115 yX0_trialOf ∈ BIG := wc_7 _ (List.mem_of_getElem? (l := wl_7) (i := 6) rfl)
theorem m_t303 : Cond.instanceMethod yX0_trialOf ∈ BIG := wc_7 _ (List.mem_of_getElem? (l := wl_7) (i := 7) rfl)
theorem m_t304 : Cond.selects RX0 yX0_trialOf yX0_trialOf ∈ BIG := wc_7 _ (List.mem_of_getElem? (l := wl_7) (i := 8) rfl)
theorem m_t305 : Cond.code yX0_trialOf cX0_trialOf 2 (some (.object "EachBookOnce$Town")) ∈ BIG := wc_7 _ (List.mem_of_getElem? (l := wl_7) (i := 9) rfl)
theorem m_t306 : Cond.methodLink RX0 21 yX4_become ∈ BIG := wc_7 _ (List.mem_of_getElem? (l := wl_7) (i := 10) rfl)
theorem m_t307 : Cond.instanceMethod yX4_become ∈ BIG := wc_7 _ (List.mem_of_getElem? (l := wl_7) (i := 11) rfl)
theorem m_t308 : Cond.selects RX4 yX4_become yX4_become ∈ BIG := wc_7 _ (List.mem_of_getElem? (l := wl_7) (i := 12) rfl)
theorem m_t309 : Cond.code yX4_become cX4_become 2 none ∈ BIG := wc_7 _ (List.mem_of_getElem? (l := wl_7) (i := 13) rfl)
theorem m_t311 : Cond.methodLink RX5 119 yX1_act ∈ BIG := wc_7 _ (List.mem_of_getElem? (l := wl_7) (i := 14) rfl)
theorem m_t312 : Cond.static yX1_act ∈ BIG := wc_7 _ (List.mem_of_getElem? (l := wl_7) (i := 15) rfl)
theorem m_t313 : Cond.code yX1_act cX1_act 3 (some .int) ∈ BIG := wc_7 _ (List.mem_of_getElem? (l := wl_7) (i := 16) rfl)
theorem m_t314 : Cond.methodLink RX1 9 yX1_readDearest ∈ BIG := wc_7 _ (List.mem_of_getElem? (l := wl_7) (i := 17) rfl)
theorem m_t315 : Cond.static yX1_readDearest ∈ BIG := wc_7 _ (List.mem_of_getElem? (l := wl_7) (i := 18) rfl)
theorem m_t316 : Cond.code yX1_readDearest cX1_readDearest 7 (some .int) ∈ BIG := wc_7 _ (List.mem_of_getElem? (l := wl_7) (i := 19) rfl)
theorem m_t317 : Cond.methodLink RX1 19 yX4_dearestUnread ∈ BIG := wc_7 _ (List.mem_of_getElem? (l := wl_7) (i := 20) rfl)
theorem m_t318 : Cond.instanceMethod yX4_dearestUnread ∈ BIG := wc_7 _ (List.mem_of_getElem? (l := wl_7) (i := 21) rfl)
theorem m_t319 : Cond.selects RX4 yX4_dearestUnread yX4_dearestUnread ∈ BIG := wc_7 _ (List.mem_of_getElem? (l := wl_7) (i := 22) rfl)
theorem m_t320 : Cond.code yX4_dearestUnread cX4_dearestUnread 3 (some .int) ∈ BIG := wc_7 _ (List.mem_of_getElem? (l := wl_7) (i := 23) rfl)
theorem m_t322 : Cond.static yX5_has ∈ BIG := wc_7 _ (List.mem_of_getElem? (l := wl_7) (i := 24) rfl)
theorem wc_8 : ∀ w, w ∈ wl_8 → w ∈ BIG := big_w (X := ((wl_5 ++ wl_6) ++ wl_7)) (Y := wl_9 ++ (wl_10 ++ (wl_11 ++ (wl_12 ++ (wl_13 ++ ([])))))) (by rw [tb_2]; simp only [List.append_assoc]) in_tb2 (by decide +kernel)
theorem m_t323 : Cond.code yX5_has cX5_has 2 (some .boolean) ∈ BIG := wc_8 _ (List.mem_of_getElem? (l := wl_8) (i := 0) rfl)
theorem m_t324 : Cond.methodLink RX1 25 yX4_bestReader ∈ BIG := wc_8 _ (List.mem_of_getElem? (l := wl_8) (i := 1) rfl)
theorem m_t325 : Cond.instanceMethod yX4_bestReader ∈ BIG := wc_8 _ (List.mem_of_getElem? (l := wl_8) (i := 2) rfl)
theorem m_t326 : Cond.selects RX4 yX4_bestReader yX4_bestReader ∈ BIG := wc_8 _ (List.mem_of_getElem? (l := wl_8) (i := 3) rfl)
theorem m_t327 : Cond.code yX4_bestReader cX4_bestReader 6 (some .int) ∈ BIG := wc_8 _ (List.mem_of_getElem? (l := wl_8) (i := 4) rfl)
theorem m_t328 : Cond.methodLink RX4 91 yX4_wouldKnow ∈ BIG := wc_8 _ (List.mem_of_getElem? (l := wl_8) (i := 5) rfl)
theorem m_t329 : Cond.instanceMethod yX4_wouldKnow ∈ BIG := wc_8 _ (List.mem_of_getElem? (l := wl_8) (i := 6) rfl)
theorem m_t330 : Cond.selects RX4 yX4_wouldKnow yX4_wouldKnow ∈ BIG := wc_8 _ (List.mem_of_getElem? (l := wl_8) (i := 7) rfl)
theorem m_t331 : Cond.code yX4_wouldKnow cX4_wouldKnow 4 (some .int) ∈ BIG := wc_8 _ (List.mem_of_getElem? (l := wl_8) (i := 8) rfl)
theorem m_t332 : Cond.methodLink RX4 85 yX4_groundOf ∈ BIG := wc_8 _ (List.mem_of_getElem? (l := wl_8) (i := 9) rfl)
theorem m_t333 : Cond.instanceMethod yX4_groundOf ∈ BIG := wc_8 _ (List.mem_of_getElem? (l := wl_8) (i := 10) rfl)
theorem m_t334 : Cond.selects RX4 yX4_groundOf yX4_groundOf ∈ BIG := wc_8 _ (List.mem_of_getElem? (l := wl_8) (i := 11) rfl)
theorem m_t335 : Cond.code yX4_groundOf cX4_groundOf 5 (some .int) ∈ BIG := wc_8 _ (List.mem_of_getElem? (l := wl_8) (i := 12) rfl)
theorem m_t336 : Cond.methodLink RX4 88 yX4_grasped ∈ BIG := wc_8 _ (List.mem_of_getElem? (l := wl_8) (i := 13) rfl)
theorem m_t337 : Cond.static yX4_grasped ∈ BIG := wc_8 _ (List.mem_of_getElem? (l := wl_8) (i := 14) rfl)
theorem m_t338 : Cond.code yX4_grasped cX4_grasped 2 (some .int) ∈ BIG := wc_8 _ (List.mem_of_getElem? (l := wl_8) (i := 15) rfl)
theorem m_t339 : Cond.methodLink RX4 66 yX4_knows ∈ BIG := wc_8 _ (List.mem_of_getElem? (l := wl_8) (i := 16) rfl)
theorem m_t340 : Cond.instanceMethod yX4_knows ∈ BIG := wc_8 _ (List.mem_of_getElem? (l := wl_8) (i := 17) rfl)
theorem m_t341 : Cond.selects RX4 yX4_knows yX4_knows ∈ BIG := wc_8 _ (List.mem_of_getElem? (l := wl_8) (i := 18) rfl)
theorem m_t342 : Cond.code yX4_knows cX4_knows 3 (some .int) ∈ BIG := wc_8 _ (List.mem_of_getElem? (l := wl_8) (i := 19) rfl)
theorem m_t343 : Cond.methodLink RX4 70 yJ9_max_7cf53 ∈ BIG := wc_8 _ (List.mem_of_getElem? (l := wl_8) (i := 20) rfl)
theorem m_t344 : Cond.static yJ9_max_7cf53 ∈ BIG := wc_8 _ (List.mem_of_getElem? (l := wl_8) (i := 21) rfl)
theorem m_t345 : Cond.code yJ9_max_7cf53 cJ9_max_7cf53 2 (some .int) ∈ BIG := wc_8 _ (List.mem_of_getElem? (l := wl_8) (i := 22) rfl)
theorem m_t346 : Cond.methodLink RX1 29 yX4_readBy ∈ BIG := wc_8 _ (List.mem_of_getElem? (l := wl_8) (i := 23) rfl)
theorem m_t347 : Cond.instanceMethod yX4_readBy ∈ BIG := wc_8 _ (List.mem_of_getElem? (l := wl_8) (i := 24) rfl)
theorem wc_9 : ∀ w, w ∈ wl_9 → w ∈ BIG := big_w (X := (((wl_5 ++ wl_6) ++ wl_7) ++ wl_8)) (Y := wl_10 ++ (wl_11 ++ (wl_12 ++ (wl_13 ++ ([]))))) (by rw [tb_2]; simp only [List.append_assoc]) in_tb2 (by decide +kernel)
theorem m_t348 : Cond.selects RX4 yX4_readBy yX4_readBy ∈ BIG := wc_9 _ (List.mem_of_getElem? (l := wl_9) (i := 0) rfl)
theorem m_t349 : Cond.code yX4_readBy cX4_readBy 3 none ∈ BIG := wc_9 _ (List.mem_of_getElem? (l := wl_9) (i := 1) rfl)
theorem m_t350 : Cond.methodLink RX4 94 yX4_learn ∈ BIG := wc_9 _ (List.mem_of_getElem? (l := wl_9) (i := 2) rfl)
theorem m_t351 : Cond.instanceMethod yX4_learn ∈ BIG := wc_9 _ (List.mem_of_getElem? (l := wl_9) (i := 3) rfl)
theorem m_t352 : Cond.selects RX4 yX4_learn yX4_learn ∈ BIG := wc_9 _ (List.mem_of_getElem? (l := wl_9) (i := 4) rfl)
theorem m_t353 : Cond.code yX4_learn cX4_learn 4 none ∈ BIG := wc_9 _ (List.mem_of_getElem? (l := wl_9) (i := 5) rfl)
theorem m_t354 : Cond.methodLink RX1 33 yX4_setThere ∈ BIG := wc_9 _ (List.mem_of_getElem? (l := wl_9) (i := 6) rfl)
theorem m_t355 : Cond.instanceMethod yX4_setThere ∈ BIG := wc_9 _ (List.mem_of_getElem? (l := wl_9) (i := 7) rfl)
theorem m_t356 : Cond.selects RX4 yX4_setThere yX4_setThere ∈ BIG := wc_9 _ (List.mem_of_getElem? (l := wl_9) (i := 8) rfl)
theorem m_t357 : Cond.code yX4_setThere cX4_setThere 1 (some .int) ∈ BIG := wc_9 _ (List.mem_of_getElem? (l := wl_9) (i := 9) rfl)
theorem m_t359 : Cond.static yX5_setOfAll ∈ BIG := wc_9 _ (List.mem_of_getElem? (l := wl_9) (i := 10) rfl)
theorem m_t360 : Cond.code yX5_setOfAll cX5_setOfAll 1 (some .int) ∈ BIG := wc_9 _ (List.mem_of_getElem? (l := wl_9) (i := 11) rfl)
theorem m_t361 : Cond.methodLink RX1 36 yX4_hearFrom ∈ BIG := wc_9 _ (List.mem_of_getElem? (l := wl_9) (i := 12) rfl)
theorem m_t362 : Cond.instanceMethod yX4_hearFrom ∈ BIG := wc_9 _ (List.mem_of_getElem? (l := wl_9) (i := 13) rfl)
theorem m_t363 : Cond.selects RX4 yX4_hearFrom yX4_hearFrom ∈ BIG := wc_9 _ (List.mem_of_getElem? (l := wl_9) (i := 14) rfl)
theorem m_t364 : Cond.code yX4_hearFrom cX4_hearFrom 9 (some .int) ∈ BIG := wc_9 _ (List.mem_of_getElem? (l := wl_9) (i := 15) rfl)
theorem m_t365 : Cond.methodLink RX4 78 yX4_setThere ∈ BIG := wc_9 _ (List.mem_of_getElem? (l := wl_9) (i := 16) rfl)
theorem m_t366 : Cond.methodLink RX1 15 yX1_tellChain ∈ BIG := wc_9 _ (List.mem_of_getElem? (l := wl_9) (i := 17) rfl)
theorem m_t367 : Cond.static yX1_tellChain ∈ BIG := wc_9 _ (List.mem_of_getElem? (l := wl_9) (i := 18) rfl)
theorem m_t368 : Cond.code yX1_tellChain cX1_tellChain 4 none ∈ BIG := wc_9 _ (List.mem_of_getElem? (l := wl_9) (i := 19) rfl)
theorem m_t370 : Cond.methodLink RX1 51 yX4_youngestBut ∈ BIG := wc_9 _ (List.mem_of_getElem? (l := wl_9) (i := 20) rfl)
theorem m_t371 : Cond.instanceMethod yX4_youngestBut ∈ BIG := wc_9 _ (List.mem_of_getElem? (l := wl_9) (i := 21) rfl)
theorem m_t372 : Cond.selects RX4 yX4_youngestBut yX4_youngestBut ∈ BIG := wc_9 _ (List.mem_of_getElem? (l := wl_9) (i := 22) rfl)
theorem m_t373 : Cond.code yX4_youngestBut cX4_youngestBut 4 (some .int) ∈ BIG := wc_9 _ (List.mem_of_getElem? (l := wl_9) (i := 23) rfl)
theorem m_t374 : Cond.methodLink RX1 57 yX4_tellTo ∈ BIG := wc_9 _ (List.mem_of_getElem? (l := wl_9) (i := 24) rfl)
theorem wc_10 : ∀ w, w ∈ wl_10 → w ∈ BIG := big_w (X := ((((wl_5 ++ wl_6) ++ wl_7) ++ wl_8) ++ wl_9)) (Y := wl_11 ++ (wl_12 ++ (wl_13 ++ ([])))) (by rw [tb_2]; simp only [List.append_assoc]) in_tb2 (by decide +kernel)
theorem m_t375 : Cond.instanceMethod yX4_tellTo ∈ BIG := wc_10 _ (List.mem_of_getElem? (l := wl_10) (i := 0) rfl)
theorem m_t376 : Cond.selects RX4 yX4_tellTo yX4_tellTo ∈ BIG := wc_10 _ (List.mem_of_getElem? (l := wl_10) (i := 1) rfl)
theorem m_t377 : Cond.code yX4_tellTo cX4_tellTo 4 none ∈ BIG := wc_10 _ (List.mem_of_getElem? (l := wl_10) (i := 2) rfl)
theorem m_t378 : Cond.methodLink RX4 101 yX4_gainByTelling ∈ BIG := wc_10 _ (List.mem_of_getElem? (l := wl_10) (i := 3) rfl)
theorem m_t379 : Cond.instanceMethod yX4_gainByTelling ∈ BIG := wc_10 _ (List.mem_of_getElem? (l := wl_10) (i := 4) rfl)
theorem m_t380 : Cond.selects RX4 yX4_gainByTelling yX4_gainByTelling ∈ BIG := wc_10 _ (List.mem_of_getElem? (l := wl_10) (i := 5) rfl)
theorem m_t381 : Cond.code yX4_gainByTelling cX4_gainByTelling 4 (some .int) ∈ BIG := wc_10 _ (List.mem_of_getElem? (l := wl_10) (i := 6) rfl)
theorem m_t382 : Cond.methodLink RX4 98 yX4_afterTelling ∈ BIG := wc_10 _ (List.mem_of_getElem? (l := wl_10) (i := 7) rfl)
theorem m_t383 : Cond.static yX4_afterTelling ∈ BIG := wc_10 _ (List.mem_of_getElem? (l := wl_10) (i := 8) rfl)
theorem m_t384 : Cond.code yX4_afterTelling cX4_afterTelling 2 (some .int) ∈ BIG := wc_10 _ (List.mem_of_getElem? (l := wl_10) (i := 9) rfl)
theorem m_t385 : Cond.methodLink RX5 123 yX4_worthNow ∈ BIG := wc_10 _ (List.mem_of_getElem? (l := wl_10) (i := 10) rfl)
theorem m_t386 : Cond.instanceMethod yX4_worthNow ∈ BIG := wc_10 _ (List.mem_of_getElem? (l := wl_10) (i := 11) rfl)
theorem m_t387 : Cond.selects RX4 yX4_worthNow yX4_worthNow ∈ BIG := wc_10 _ (List.mem_of_getElem? (l := wl_10) (i := 12) rfl)
theorem m_t388 : Cond.code yX4_worthNow cX4_worthNow 1 (some .int) ∈ BIG := wc_10 _ (List.mem_of_getElem? (l := wl_10) (i := 13) rfl)
theorem m_t389 : Cond.methodLink RX4 82 yX4_worthAmong ∈ BIG := wc_10 _ (List.mem_of_getElem? (l := wl_10) (i := 14) rfl)
theorem m_t390 : Cond.instanceMethod yX4_worthAmong ∈ BIG := wc_10 _ (List.mem_of_getElem? (l := wl_10) (i := 15) rfl)
theorem m_t391 : Cond.selects RX4 yX4_worthAmong yX4_worthAmong ∈ BIG := wc_10 _ (List.mem_of_getElem? (l := wl_10) (i := 16) rfl)
theorem m_t392 : Cond.code yX4_worthAmong cX4_worthAmong 4 (some .int) ∈ BIG := wc_10 _ (List.mem_of_getElem? (l := wl_10) (i := 17) rfl)
theorem m_t393 : Cond.methodLink RX4 75 yX4_mostKnown ∈ BIG := wc_10 _ (List.mem_of_getElem? (l := wl_10) (i := 18) rfl)
theorem m_t394 : Cond.instanceMethod yX4_mostKnown ∈ BIG := wc_10 _ (List.mem_of_getElem? (l := wl_10) (i := 19) rfl)
theorem m_t395 : Cond.selects RX4 yX4_mostKnown yX4_mostKnown ∈ BIG := wc_10 _ (List.mem_of_getElem? (l := wl_10) (i := 20) rfl)
theorem m_t396 : Cond.code yX4_mostKnown cX4_mostKnown 5 (some .int) ∈ BIG := wc_10 _ (List.mem_of_getElem? (l := wl_10) (i := 21) rfl)
theorem m_t397 : Cond.methodLink RL 49 yX5_book ∈ BIG := wc_10 _ (List.mem_of_getElem? (l := wl_10) (i := 22) rfl)
theorem m_t398 : Cond.instanceMethod yX5_book ∈ BIG := wc_10 _ (List.mem_of_getElem? (l := wl_10) (i := 23) rfl)
theorem m_t399 : Cond.selects RX5 yX5_book yX5_book ∈ BIG := wc_10 _ (List.mem_of_getElem? (l := wl_10) (i := 24) rfl)
theorem wc_11 : ∀ w, w ∈ wl_11 → w ∈ BIG := big_w (X := (((((wl_5 ++ wl_6) ++ wl_7) ++ wl_8) ++ wl_9) ++ wl_10)) (Y := wl_12 ++ (wl_13 ++ ([]))) (by rw [tb_2]; simp only [List.append_assoc]) in_tb2 (by decide +kernel)
theorem m_t400 : Cond.code yX5_book cX5_book 3 (some .int) ∈ BIG := wc_11 _ (List.mem_of_getElem? (l := wl_11) (i := 0) rfl)
theorem m_t401 : Cond.methodLink RX5 131 yX5_isSetOf ∈ BIG := wc_11 _ (List.mem_of_getElem? (l := wl_11) (i := 1) rfl)
theorem m_t402 : Cond.static yX5_isSetOf ∈ BIG := wc_11 _ (List.mem_of_getElem? (l := wl_11) (i := 2) rfl)
theorem m_t403 : Cond.code yX5_isSetOf cX5_isSetOf 2 (some .boolean) ∈ BIG := wc_11 _ (List.mem_of_getElem? (l := wl_11) (i := 3) rfl)
theorem m_t404 : Cond.methodLink RX5 186 yX5_setOfAll ∈ BIG := wc_11 _ (List.mem_of_getElem? (l := wl_11) (i := 4) rfl)
theorem m_t405 : Cond.methodLink RX5 134 yX4_addBook ∈ BIG := wc_11 _ (List.mem_of_getElem? (l := wl_11) (i := 5) rfl)
theorem m_t406 : Cond.instanceMethod yX4_addBook ∈ BIG := wc_11 _ (List.mem_of_getElem? (l := wl_11) (i := 6) rfl)
theorem m_t407 : Cond.selects RX4 yX4_addBook yX4_addBook ∈ BIG := wc_11 _ (List.mem_of_getElem? (l := wl_11) (i := 7) rfl)
theorem m_t408 : Cond.code yX4_addBook cX4_addBook 4 (some .int) ∈ BIG := wc_11 _ (List.mem_of_getElem? (l := wl_11) (i := 8) rfl)
theorem m_t409 : Cond.methodLink RL 53 yX5_one ∈ BIG := wc_11 _ (List.mem_of_getElem? (l := wl_11) (i := 9) rfl)
theorem m_t410 : Cond.instanceMethod yX5_one ∈ BIG := wc_11 _ (List.mem_of_getElem? (l := wl_11) (i := 10) rfl)
theorem m_t411 : Cond.selects RX5 yX5_one yX5_one ∈ BIG := wc_11 _ (List.mem_of_getElem? (l := wl_11) (i := 11) rfl)
theorem m_t412 : Cond.code yX5_one cX5_one 5 (some .int) ∈ BIG := wc_11 _ (List.mem_of_getElem? (l := wl_11) (i := 12) rfl)
theorem m_t413 : Cond.methodLink RX5 137 yX5_canBeOne ∈ BIG := wc_11 _ (List.mem_of_getElem? (l := wl_11) (i := 13) rfl)
theorem m_t414 : Cond.static yX5_canBeOne ∈ BIG := wc_11 _ (List.mem_of_getElem? (l := wl_11) (i := 14) rfl)
theorem m_t415 : Cond.code yX5_canBeOne cX5_canBeOne 8 (some .boolean) ∈ BIG := wc_11 _ (List.mem_of_getElem? (l := wl_11) (i := 15) rfl)
theorem m_t416 : Cond.constantLong RX5 357 9 ∈ BIG := wc_11 _ (List.mem_of_getElem? (l := wl_11) (i := 16) rfl)
theorem m_t417 : Cond.constantLong RX5 359 10 ∈ BIG := wc_11 _ (List.mem_of_getElem? (l := wl_11) (i := 17) rfl)
theorem m_t418 : Cond.methodLink RX5 144 yX4_addOne ∈ BIG := wc_11 _ (List.mem_of_getElem? (l := wl_11) (i := 18) rfl)
theorem m_t419 : Cond.instanceMethod yX4_addOne ∈ BIG := wc_11 _ (List.mem_of_getElem? (l := wl_11) (i := 19) rfl)
theorem m_t420 : Cond.selects RX4 yX4_addOne yX4_addOne ∈ BIG := wc_11 _ (List.mem_of_getElem? (l := wl_11) (i := 20) rfl)
theorem m_t421 : Cond.code yX4_addOne cX4_addOne 6 (some .int) ∈ BIG := wc_11 _ (List.mem_of_getElem? (l := wl_11) (i := 21) rfl)
theorem m_t422 : Cond.methodLink RL 58 yX5_ones ∈ BIG := wc_11 _ (List.mem_of_getElem? (l := wl_11) (i := 22) rfl)
theorem m_t423 : Cond.instanceMethod yX5_ones ∈ BIG := wc_11 _ (List.mem_of_getElem? (l := wl_11) (i := 23) rfl)
theorem m_t424 : Cond.selects RX5 yX5_ones yX5_ones ∈ BIG := wc_11 _ (List.mem_of_getElem? (l := wl_11) (i := 24) rfl)
theorem wc_12 : ∀ w, w ∈ wl_12 → w ∈ BIG := big_w (X := ((((((wl_5 ++ wl_6) ++ wl_7) ++ wl_8) ++ wl_9) ++ wl_10) ++ wl_11)) (Y := wl_13 ++ ([])) (by rw [tb_2]; simp only [List.append_assoc]) in_tb2 (by decide +kernel)
theorem m_t425 : Cond.code yX5_ones cX5_ones 14 (some .int) ∈ BIG := wc_12 _ (List.mem_of_getElem? (l := wl_12) (i := 0) rfl)
theorem m_t426 : Cond.methodLink RL 62 yX5_feed ∈ BIG := wc_12 _ (List.mem_of_getElem? (l := wl_12) (i := 1) rfl)
theorem m_t427 : Cond.instanceMethod yX5_feed ∈ BIG := wc_12 _ (List.mem_of_getElem? (l := wl_12) (i := 2) rfl)
theorem m_t428 : Cond.selects RX5 yX5_feed yX5_feed ∈ BIG := wc_12 _ (List.mem_of_getElem? (l := wl_12) (i := 3) rfl)
theorem m_t429 : Cond.code yX5_feed cX5_feed 4 (some .int) ∈ BIG := wc_12 _ (List.mem_of_getElem? (l := wl_12) (i := 4) rfl)
theorem m_t430 : Cond.methodLink RX5 150 yX3_append ∈ BIG := wc_12 _ (List.mem_of_getElem? (l := wl_12) (i := 5) rfl)
theorem m_t431 : Cond.instanceMethod yX3_append ∈ BIG := wc_12 _ (List.mem_of_getElem? (l := wl_12) (i := 6) rfl)
theorem m_t432 : Cond.selects RX3 yX3_append yX3_append ∈ BIG := wc_12 _ (List.mem_of_getElem? (l := wl_12) (i := 7) rfl)
theorem m_t433 : Cond.code yX3_append cX3_append 2 none ∈ BIG := wc_12 _ (List.mem_of_getElem? (l := wl_12) (i := 8) rfl)
theorem m_t434 : Cond.methodLink RL 66 yX5_wipe ∈ BIG := wc_12 _ (List.mem_of_getElem? (l := wl_12) (i := 9) rfl)
theorem m_t435 : Cond.instanceMethod yX5_wipe ∈ BIG := wc_12 _ (List.mem_of_getElem? (l := wl_12) (i := 10) rfl)
theorem m_t436 : Cond.selects RX5 yX5_wipe yX5_wipe ∈ BIG := wc_12 _ (List.mem_of_getElem? (l := wl_12) (i := 11) rfl)
theorem m_t437 : Cond.code yX5_wipe cX5_wipe 2 (some .int) ∈ BIG := wc_12 _ (List.mem_of_getElem? (l := wl_12) (i := 12) rfl)
theorem m_t438 : Cond.methodLink RL 71 yX5_town ∈ BIG := wc_12 _ (List.mem_of_getElem? (l := wl_12) (i := 13) rfl)
theorem m_t439 : Cond.instanceMethod yX5_town ∈ BIG := wc_12 _ (List.mem_of_getElem? (l := wl_12) (i := 14) rfl)
theorem m_t440 : Cond.selects RX5 yX5_town yX5_town ∈ BIG := wc_12 _ (List.mem_of_getElem? (l := wl_12) (i := 15) rfl)
theorem m_t441 : Cond.code yX5_town cX5_town 2 (some .int) ∈ BIG := wc_12 _ (List.mem_of_getElem? (l := wl_12) (i := 16) rfl)
theorem m_t442 : Cond.methodLink RX5 154 yX3_readFrom ∈ BIG := wc_12 _ (List.mem_of_getElem? (l := wl_12) (i := 17) rfl)
theorem m_t443 : Cond.instanceMethod yX3_readFrom ∈ BIG := wc_12 _ (List.mem_of_getElem? (l := wl_12) (i := 18) rfl)
theorem m_t444 : Cond.selects RX3 yX3_readFrom yX3_readFrom ∈ BIG := wc_12 _ (List.mem_of_getElem? (l := wl_12) (i := 19) rfl)
theorem m_t445 : Cond.code yX3_readFrom cX3_readFrom 3 (some .int) ∈ BIG := wc_12 _ (List.mem_of_getElem? (l := wl_12) (i := 20) rfl)
theorem m_t446 : Cond.methodLink RX3 26 yX4_become ∈ BIG := wc_12 _ (List.mem_of_getElem? (l := wl_12) (i := 21) rfl)
theorem m_t447 : Cond.methodLink RX3 36 yX3_step ∈ BIG := wc_12 _ (List.mem_of_getElem? (l := wl_12) (i := 22) rfl)
theorem m_t449 : Cond.instanceMethod yX3_step ∈ BIG := wc_12 _ (List.mem_of_getElem? (l := wl_12) (i := 23) rfl)
theorem m_t450 : Cond.code yX3_step cX3_step 2 none ∈ BIG := wc_12 _ (List.mem_of_getElem? (l := wl_12) (i := 24) rfl)
theorem wc_13 : ∀ w, w ∈ wl_13 → w ∈ BIG := big_w (X := (((((((wl_5 ++ wl_6) ++ wl_7) ++ wl_8) ++ wl_9) ++ wl_10) ++ wl_11) ++ wl_12)) (Y := []) (by rw [tb_2]; simp only [List.append_assoc]) in_tb2 (by decide +kernel)
theorem m_t451 : Cond.methodLink RX3 133 yX3_sortAt ∈ BIG := wc_13 _ (List.mem_of_getElem? (l := wl_13) (i := 0) rfl)
theorem m_t453 : Cond.instanceMethod yX3_sortAt ∈ BIG := wc_13 _ (List.mem_of_getElem? (l := wl_13) (i := 1) rfl)
theorem m_t454 : Cond.code yX3_sortAt cX3_sortAt 3 (some .int) ∈ BIG := wc_13 _ (List.mem_of_getElem? (l := wl_13) (i := 2) rfl)
theorem m_t455 : Cond.methodLink RX3 39 yX3_readStatement ∈ BIG := wc_13 _ (List.mem_of_getElem? (l := wl_13) (i := 3) rfl)
theorem m_t457 : Cond.instanceMethod yX3_readStatement ∈ BIG := wc_13 _ (List.mem_of_getElem? (l := wl_13) (i := 4) rfl)
theorem m_t458 : Cond.code yX3_readStatement cX3_readStatement 1 none ∈ BIG := wc_13 _ (List.mem_of_getElem? (l := wl_13) (i := 5) rfl)
theorem m_t460 : Cond.methodLink RX3 50 yX3_isWord ∈ BIG := wc_13 _ (List.mem_of_getElem? (l := wl_13) (i := 6) rfl)
theorem m_t462 : Cond.instanceMethod yX3_isWord ∈ BIG := wc_13 _ (List.mem_of_getElem? (l := wl_13) (i := 7) rfl)
theorem m_t463 : Cond.code yX3_isWord cX3_isWord 3 (some .boolean) ∈ BIG := wc_13 _ (List.mem_of_getElem? (l := wl_13) (i := 8) rfl)
theorem m_t464 : Cond.methodLink RX3 124 yJ0_length_8abf5 ∈ BIG := wc_13 _ (List.mem_of_getElem? (l := wl_13) (i := 9) rfl)
theorem m_t465 : Cond.instanceMethod yJ0_length_8abf5 ∈ BIG := wc_13 _ (List.mem_of_getElem? (l := wl_13) (i := 10) rfl)
theorem m_t466 : Cond.selects RJ0 yJ0_length_8abf5 yJ0_length_8abf5 ∈ BIG := wc_13 _ (List.mem_of_getElem? (l := wl_13) (i := 11) rfl)
theorem m_t467 : Cond.code yJ0_length_8abf5 cJ0_length_8abf5 1 (some .int) ∈ BIG := wc_13 _ (List.mem_of_getElem? (l := wl_13) (i := 12) rfl)
theorem m_t468 : Cond.methodLink RJ0 335 yJ0_coder_7d493 ∈ BIG := wc_13 _ (List.mem_of_getElem? (l := wl_13) (i := 13) rfl)
theorem m_t469 : Cond.instanceMethod yJ0_coder_7d493 ∈ BIG := wc_13 _ (List.mem_of_getElem? (l := wl_13) (i := 14) rfl)
theorem m_t470 : Cond.selects RJ0 yJ0_coder_7d493 yJ0_coder_7d493 ∈ BIG := wc_13 _ (List.mem_of_getElem? (l := wl_13) (i := 15) rfl)
theorem m_t471 : Cond.code yJ0_coder_7d493 cJ0_coder_7d493 1 (some .byte) ∈ BIG := wc_13 _ (List.mem_of_getElem? (l := wl_13) (i := 16) rfl)
theorem m_t472 : Cond.fieldLink RJ0 38 "java/lang/String" "COMPACT_STRINGS" "Z" ∈ BIG := wc_13 _ (List.mem_of_getElem? (l := wl_13) (i := 17) rfl)
theorem m_t474 : Cond.methodLink RX3 129 yJ0_charAt_5068e ∈ BIG := wc_13 _ (List.mem_of_getElem? (l := wl_13) (i := 18) rfl)
theorem m_t475 : Cond.instanceMethod yJ0_charAt_5068e ∈ BIG := wc_13 _ (List.mem_of_getElem? (l := wl_13) (i := 19) rfl)
theorem m_t476 : Cond.selects RJ0 yJ0_charAt_5068e yJ0_charAt_5068e ∈ BIG := wc_13 _ (List.mem_of_getElem? (l := wl_13) (i := 20) rfl)
theorem m_t477 : Cond.code yJ0_charAt_5068e cJ0_charAt_5068e 2 (some .char) ∈ BIG := wc_13 _ (List.mem_of_getElem? (l := wl_13) (i := 21) rfl)
theorem m_t478 : Cond.methodLink RJ0 492 yJ0_isLatin1_aae02 ∈ BIG := wc_13 _ (List.mem_of_getElem? (l := wl_13) (i := 22) rfl)
theorem m_t479 : Cond.instanceMethod yJ0_isLatin1_aae02 ∈ BIG := wc_13 _ (List.mem_of_getElem? (l := wl_13) (i := 23) rfl)
noncomputable def wl_14 : List Cond := [Cond.selects RJ0 yJ0_isLatin1_aae02 yJ0_isLatin1_aae02, Cond.code yJ0_isLatin1_aae02 cJ0_isLatin1_aae02 1 (some .boolean), Cond.methodLink RJ0 495 yJ1_charAt_3b067, Cond.static yJ1_charAt_3b067, Cond.code yJ1_charAt_3b067 cJ1_charAt_3b067 2 (some .char), Cond.methodLink RJ1 9 yJ0_checkIndex_df160, Cond.static yJ0_checkIndex_df160, Cond.code yJ0_checkIndex_df160 cJ0_checkIndex_df160 2 none, Cond.fieldLink RJ0 1053 "jdk/internal/util/Preconditions" "SIOOBE_FORMATTER" "Ljava/util/function/BiFunction;", Cond.methodLink RJ0 1059 yJ3_checkIndex_8e157, Cond.static yJ3_checkIndex_8e157, Cond.code yJ3_checkIndex_8e157 cJ3_checkIndex_8e157 3 (some .int), Cond.methodLink RJ0 498 yJ2_charAt_3b067, Cond.static yJ2_charAt_3b067, Cond.code yJ2_charAt_3b067 cJ2_charAt_3b067 2 (some .char), Cond.methodLink RJ2 67 yJ2_checkIndex_2214a, Cond.static yJ2_checkIndex_2214a, Cond.code yJ2_checkIndex_2214a cJ2_checkIndex_2214a 2 none, Cond.methodLink RJ2 48 yJ2_length_9d52b, Cond.static yJ2_length_9d52b, Cond.code yJ2_length_9d52b cJ2_length_9d52b 1 (some .int), Cond.methodLink RJ2 414 yJ0_checkIndex_df160, Cond.methodLink RJ2 71 yJ2_getChar_3b067, Cond.static yJ2_getChar_3b067, Cond.code yJ2_getChar_3b067 cJ2_getChar_3b067 2 (some .char)]
noncomputable def wl_15 : List Cond := [Cond.fieldLink RJ2 44 "java/lang/StringUTF16" "$assertionsDisabled" "Z", Cond.fieldLink RJ2 59 "java/lang/StringUTF16" "HI_BYTE_SHIFT" "I", Cond.fieldLink RJ2 63 "java/lang/StringUTF16" "LO_BYTE_SHIFT" "I", Cond.methodLink RX3 54 yX3_readBook, Cond.instanceMethod yX3_readBook, Cond.code yX3_readBook cX3_readBook 3 none, Cond.methodLink RX3 45 yX3_fail, Cond.instanceMethod yX3_fail, Cond.code yX3_fail cX3_fail 1 none, Cond.methodLink RX3 80 yX3_takeNumber, Cond.instanceMethod yX3_takeNumber, Cond.code yX3_takeNumber cX3_takeNumber 4 (some .int), Cond.methodLink RX3 117 yX3_numberThere, Cond.instanceMethod yX3_numberThere, Cond.code yX3_numberThere cX3_numberThere 3 (some .int), Cond.methodLink RX3 86 yX3_passes, Cond.instanceMethod yX3_passes, Cond.code yX3_passes cX3_passes 2 (some .boolean), Cond.methodLink RX3 92 yX4_addBook, Cond.methodLink RX3 59 yX3_readNeed, Cond.instanceMethod yX3_readNeed, Cond.code yX3_readNeed cX3_readNeed 3 none, Cond.methodLink RX3 64 yX3_readOne, Cond.instanceMethod yX3_readOne, Cond.code yX3_readOne cX3_readOne 5 none]
noncomputable def wl_16 : List Cond := [Cond.methodLink RX3 107 yX4_addOne, Cond.methodLink RX3 69 yX3_readKnows, Cond.instanceMethod yX3_readKnows, Cond.code yX3_readKnows cX3_readKnows 4 none, Cond.methodLink RX3 111 yX4_learn, Cond.methodLink RX3 74 yX3_readWhite, Cond.instanceMethod yX3_readWhite, Cond.code yX3_readWhite cX3_readWhite 2 none, Cond.methodLink RX5 164 yX4_become, Cond.methodLink RL 75 yX5_bookOf, Cond.instanceMethod yX5_bookOf, Cond.selects RX5 yX5_bookOf yX5_bookOf, Cond.code yX5_bookOf cX5_bookOf 3 (some .int), Cond.methodLink RX5 168 yX4_isBook, Cond.instanceMethod yX4_isBook, Cond.selects RX4 yX4_isBook yX4_isBook, Cond.code yX4_isBook cX4_isBook 2 (some .boolean), Cond.methodLink RX5 183 yX5_has, Cond.methodLink RX5 189 yX4_mostKnown, Cond.methodLink RL 79 yX5_oneOf, Cond.instanceMethod yX5_oneOf, Cond.selects RX5 yX5_oneOf yX5_oneOf, Cond.code yX5_oneOf cX5_oneOf 3 (some .int), Cond.methodLink RX5 192 yX4_isOne, Cond.instanceMethod yX4_isOne]
noncomputable def wl_17 : List Cond := [Cond.selects RX4 yX4_isOne yX4_isOne, Cond.code yX4_isOne cX4_isOne 2 (some .boolean), Cond.methodLink RL 83 yX5_known, Cond.instanceMethod yX5_known, Cond.selects RX5 yX5_known yX5_known, Cond.code yX5_known cX5_known 3 (some .int), Cond.methodLink RX5 210 yX5_isPair, Cond.instanceMethod yX5_isPair, Cond.code yX5_isPair cX5_isPair 3 (some .boolean), Cond.methodLink RX5 213 yX4_knows, Cond.methodLink RL 87 yX5_alter, Cond.instanceMethod yX5_alter, Cond.selects RX5 yX5_alter yX5_alter, Cond.code yX5_alter cX5_alter 5 (some .int), Cond.constantLong RX5 216 1000, Cond.methodLink RX5 218 yX4_learn, Cond.methodLink RL 91 yX5_ground, Cond.instanceMethod yX5_ground, Cond.selects RX5 yX5_ground yX5_ground, Cond.code yX5_ground cX5_ground 3 (some .int), Cond.methodLink RX5 221 yX4_groundOf, Cond.methodLink RL 95 yX5_would, Cond.instanceMethod yX5_would, Cond.selects RX5 yX5_would yX5_would, Cond.code yX5_would cX5_would 4 (some .int)]
noncomputable def wl_18 : List Cond := [Cond.methodLink RX5 224 yX5_readFit, Cond.instanceMethod yX5_readFit, Cond.code yX5_readFit cX5_readFit 3 (some .int), Cond.methodLink RX5 227 yX4_wouldKnow, Cond.methodLink RL 99 yX5_read, Cond.instanceMethod yX5_read, Cond.selects RX5 yX5_read yX5_read, Cond.code yX5_read cX5_read 4 (some .int), Cond.methodLink RX5 230 yX4_readBy, Cond.methodLink RL 103 yX5_aloud, Cond.instanceMethod yX5_aloud, Cond.selects RX5 yX5_aloud yX5_aloud, Cond.code yX5_aloud cX5_aloud 5 (some .int), Cond.methodLink RX5 234 yX4_hearFrom, Cond.methodLink RL 107 yX5_tell, Cond.instanceMethod yX5_tell, Cond.selects RX5 yX5_tell yX5_tell, Cond.code yX5_tell cX5_tell 5 (some .int), Cond.methodLink RX5 238 yX4_gainByTelling, Cond.methodLink RX5 241 yX4_tellTo, Cond.methodLink RL 111 yX5_write, Cond.instanceMethod yX5_write, Cond.selects RX5 yX5_write yX5_write, Cond.code yX5_write cX5_write 3 (some .int), Cond.methodLink RX5 244 yX4_writeBy]
noncomputable def wl_19 : List Cond := [Cond.instanceMethod yX4_writeBy, Cond.selects RX4 yX4_writeBy yX4_writeBy, Cond.code yX4_writeBy cX4_writeBy 3 (some .int), Cond.methodLink RL 115 yX5_value, Cond.instanceMethod yX5_value, Cond.selects RX5 yX5_value yX5_value, Cond.code yX5_value cX5_value 1 (some .int), Cond.methodLink RL 119 yX5_reader, Cond.instanceMethod yX5_reader, Cond.selects RX5 yX5_reader yX5_reader, Cond.code yX5_reader cX5_reader 2 (some .int), Cond.methodLink RX5 247 yX4_bestReader, Cond.methodLink RL 123 yX5_run, Cond.instanceMethod yX5_run, Cond.selects RX5 yX5_run yX5_run, Cond.code yX5_run cX5_run 6 (some .int), Cond.constantLong RX5 250 60, Cond.constantLong RX5 252 3, Cond.methodLink RX5 254 yX0_sumOfRun, Cond.instanceMethod yX0_sumOfRun, Cond.selects RX0 yX0_sumOfRun yX0_sumOfRun, Cond.code yX0_sumOfRun cX0_sumOfRun 7 (some .int), Cond.methodLink RX0 25 yX4_setThere, Cond.methodLink RX0 33 yX1_act, Cond.methodLink RX0 39 yX4_worthNow]
noncomputable def wl_20 : List Cond := [Cond.methodLink RX0 42 yX4_endYear, Cond.instanceMethod yX4_endYear, Cond.selects RX4 yX4_endYear yX4_endYear, Cond.code yX4_endYear cX4_endYear 3 (some .int), Cond.methodLink RX4 111 yX4_forget, Cond.instanceMethod yX4_forget, Cond.code yX4_forget cX4_forget 4 none, Cond.methodLink RX4 115 yJ6_bitCount_0f7a4, Cond.static yJ6_bitCount_0f7a4, Cond.code yJ6_bitCount_0f7a4 cJ6_bitCount_0f7a4 1 (some .int), Cond.constant RJ6 265 1431655765, Cond.constant RJ6 266 858993459, Cond.constant RJ6 267 252645135, Cond.methodLink RX5 264 yJ6_bitCount_0f7a4, Cond.methodLink RX5 269 yX4_setThere, Cond.methodLink RL 127 yX5_head, Cond.instanceMethod yX5_head, Cond.selects RX5 yX5_head yX5_head, Cond.code yX5_head cX5_head 6 (some .int), Cond.methodLink RL 131 yX5_who, Cond.instanceMethod yX5_who, Cond.selects RX5 yX5_who yX5_who, Cond.code yX5_who cX5_who 3 (some .int), Cond.methodLink RX5 272 yX0_bestWho, Cond.instanceMethod yX0_bestWho]
noncomputable def wl_21 : List Cond := [Cond.selects RX0 yX0_bestWho yX0_bestWho, Cond.code yX0_bestWho cX0_bestWho 7 (some .int), Cond.methodLink RX0 56 yX4_readBy, Cond.methodLink RX0 60 yX0_sumOfRest, Cond.static yX0_sumOfRest, Cond.code yX0_sumOfRest cX0_sumOfRest 4 (some .int), Cond.methodLink RX0 45 yX4_worthAmong, Cond.methodLink RL 135 yX5_order, Cond.instanceMethod yX5_order, Cond.selects RX5 yX5_order yX5_order, Cond.code yX5_order cX5_order 4 (some .int), Cond.constantLong RX5 275 (-1), Cond.methodLink RX5 277 yX0_worthByRising, Cond.instanceMethod yX0_worthByRising, Cond.selects RX0 yX0_worthByRising yX0_worthByRising, Cond.code yX0_worthByRising cX0_worthByRising 4 (some .int), Cond.methodLink RX5 281 yX4_unreadAt, Cond.instanceMethod yX4_unreadAt, Cond.selects RX4 yX4_unreadAt yX4_unreadAt, Cond.code yX4_unreadAt cX4_unreadAt 4 (some .int), Cond.methodLink RL 139 yX5_keeping, Cond.instanceMethod yX5_keeping, Cond.selects RX5 yX5_keeping yX5_keeping, Cond.code yX5_keeping cX5_keeping 4 (some .int), Cond.constantLong RX5 284 2]
noncomputable def wl_22 : List Cond := [Cond.constant RX5 286 1000000, Cond.methodLink RX5 287 yX0_findKeeping, Cond.instanceMethod yX0_findKeeping, Cond.selects RX0 yX0_findKeeping yX0_findKeeping, Cond.code yX0_findKeeping cX0_findKeeping 6 (some .boolean), Cond.methodLink RX0 67 yX0_bestWho, Cond.methodLink RL 143 yX5_left, Cond.instanceMethod yX5_left, Cond.selects RX5 yX5_left yX5_left, Cond.code yX5_left cX5_left 6 (some .int), Cond.methodLink RX5 294 yX5_canBeTold, Cond.static yX5_canBeTold, Cond.code yX5_canBeTold cX5_canBeTold 2 (some .boolean), Cond.methodLink RX5 297 yX4_afterTelling, Cond.methodLink RL 147 yX5_longest]
set_option maxRecDepth 100000 in
theorem tb_3 : selM ([true, true, true, true, true, true, true, true, true, false, true, true, true, true, true, true, true, true, true, true, true, true, true, true, true, true, true, false, true, false, true, false, true, false, true, true, true, false, true, true, true, false, true, true, true, false, true, true, false, true, false, true, true, true, false, true, false, true, true, false] ++ ([true, false, true, true, false, false, false, true, false, true, false, true, true, true, false, true, false, true, true, true, true, true, true, true, true, true, true, true, true, true, true, true, true, true, true, true, true, true, true, true, true, true, true, false, true, true, true, true, true, true, true, true, true, true, true, true, true, true, true, true] ++ ([true, true, true, false, true, true, true, true, true, true, true, true, true, true, true, true, true, true, true, true, true, true, true, true, true, true, true, true, true, true, true, true, true, true, true, true, true, true, true, true, true, true, true, true, true, true, true, true, true, true, true, true, true, true, true, true, true, true, false, true] ++ ([true, true, true, true, true, true, true, true, true, true, true, true, true, true, true, true, true, true, true, true, true, false, true, true, true, true, true, true, true, true, true, true, true, true, true, true, true, true, true, true, true, true, true, true, true, true, true, true, true, true, true, true, true, true, true, true, true, true, true, true])))) tables_1_3 = wl_14 ++ (wl_15 ++ (wl_16 ++ (wl_17 ++ (wl_18 ++ (wl_19 ++ (wl_20 ++ (wl_21 ++ (wl_22 ++ ([]))))))))) := rfl
theorem wc_14 : ∀ w, w ∈ wl_14 → w ∈ BIG := big_w (X := []) (Y := wl_15 ++ (wl_16 ++ (wl_17 ++ (wl_18 ++ (wl_19 ++ (wl_20 ++ (wl_21 ++ (wl_22 ++ ([]))))))))) (show _ = [] ++ _ from tb_3) in_tb3 (by decide +kernel)
theorem m_t480 : Cond.selects RJ0 yJ0_isLatin1_aae02 yJ0_isLatin1_aae02 ∈ BIG := wc_14 _ (List.mem_of_getElem? (l := wl_14) (i := 0) rfl)
theorem m_t481 : Cond.code yJ0_isLatin1_aae02 cJ0_isLatin1_aae02 1 (some .boolean) ∈ BIG := wc_14 _ (List.mem_of_getElem? (l := wl_14) (i := 1) rfl)
theorem m_t482 : Cond.methodLink RJ0 495 yJ1_charAt_3b067 ∈ BIG := wc_14 _ (List.mem_of_getElem? (l := wl_14) (i := 2) rfl)
theorem m_t483 : Cond.static yJ1_charAt_3b067 ∈ BIG := wc_14 _ (List.mem_of_getElem? (l := wl_14) (i := 3) rfl)
theorem m_t484 : Cond.code yJ1_charAt_3b067 cJ1_charAt_3b067 2 (some .char) ∈ BIG := wc_14 _ (List.mem_of_getElem? (l := wl_14) (i := 4) rfl)
theorem m_t485 : Cond.methodLink RJ1 9 yJ0_checkIndex_df160 ∈ BIG := wc_14 _ (List.mem_of_getElem? (l := wl_14) (i := 5) rfl)
theorem m_t486 : Cond.static yJ0_checkIndex_df160 ∈ BIG := wc_14 _ (List.mem_of_getElem? (l := wl_14) (i := 6) rfl)
theorem m_t487 : Cond.code yJ0_checkIndex_df160 cJ0_checkIndex_df160 2 none ∈ BIG := wc_14 _ (List.mem_of_getElem? (l := wl_14) (i := 7) rfl)
theorem m_t488 : Cond.fieldLink RJ0 1053 "jdk/internal/util/Preconditions" "SIOOBE_FORMATTER" "Ljava/util/function/BiFunction;" ∈ BIG := wc_14 _ (List.mem_of_getElem? (l := wl_14) (i := 8) rfl)
theorem m_t490 : Cond.methodLink RJ0 1059 yJ3_checkIndex_8e157 ∈ BIG := wc_14 _ (List.mem_of_getElem? (l := wl_14) (i := 9) rfl)
theorem m_t491 : Cond.static yJ3_checkIndex_8e157 ∈ BIG := wc_14 _ (List.mem_of_getElem? (l := wl_14) (i := 10) rfl)
theorem m_t492 : Cond.code yJ3_checkIndex_8e157 cJ3_checkIndex_8e157 3 (some .int) ∈ BIG := wc_14 _ (List.mem_of_getElem? (l := wl_14) (i := 11) rfl)
theorem m_t493 : Cond.methodLink RJ0 498 yJ2_charAt_3b067 ∈ BIG := wc_14 _ (List.mem_of_getElem? (l := wl_14) (i := 12) rfl)
theorem m_t494 : Cond.static yJ2_charAt_3b067 ∈ BIG := wc_14 _ (List.mem_of_getElem? (l := wl_14) (i := 13) rfl)
theorem m_t495 : Cond.code yJ2_charAt_3b067 cJ2_charAt_3b067 2 (some .char) ∈ BIG := wc_14 _ (List.mem_of_getElem? (l := wl_14) (i := 14) rfl)
theorem m_t496 : Cond.methodLink RJ2 67 yJ2_checkIndex_2214a ∈ BIG := wc_14 _ (List.mem_of_getElem? (l := wl_14) (i := 15) rfl)
theorem m_t497 : Cond.static yJ2_checkIndex_2214a ∈ BIG := wc_14 _ (List.mem_of_getElem? (l := wl_14) (i := 16) rfl)
theorem m_t498 : Cond.code yJ2_checkIndex_2214a cJ2_checkIndex_2214a 2 none ∈ BIG := wc_14 _ (List.mem_of_getElem? (l := wl_14) (i := 17) rfl)
theorem m_t499 : Cond.methodLink RJ2 48 yJ2_length_9d52b ∈ BIG := wc_14 _ (List.mem_of_getElem? (l := wl_14) (i := 18) rfl)
theorem m_t500 : Cond.static yJ2_length_9d52b ∈ BIG := wc_14 _ (List.mem_of_getElem? (l := wl_14) (i := 19) rfl)
theorem m_t501 : Cond.code yJ2_length_9d52b cJ2_length_9d52b 1 (some .int) ∈ BIG := wc_14 _ (List.mem_of_getElem? (l := wl_14) (i := 20) rfl)
theorem m_t502 : Cond.methodLink RJ2 414 yJ0_checkIndex_df160 ∈ BIG := wc_14 _ (List.mem_of_getElem? (l := wl_14) (i := 21) rfl)
theorem m_t503 : Cond.methodLink RJ2 71 yJ2_getChar_3b067 ∈ BIG := wc_14 _ (List.mem_of_getElem? (l := wl_14) (i := 22) rfl)
theorem m_t504 : Cond.static yJ2_getChar_3b067 ∈ BIG := wc_14 _ (List.mem_of_getElem? (l := wl_14) (i := 23) rfl)
theorem m_t505 : Cond.code yJ2_getChar_3b067 cJ2_getChar_3b067 2 (some .char) ∈ BIG := wc_14 _ (List.mem_of_getElem? (l := wl_14) (i := 24) rfl)
theorem wc_15 : ∀ w, w ∈ wl_15 → w ∈ BIG := big_w (X := wl_14) (Y := wl_16 ++ (wl_17 ++ (wl_18 ++ (wl_19 ++ (wl_20 ++ (wl_21 ++ (wl_22 ++ ([])))))))) (by rw [tb_3]) in_tb3 (by decide +kernel)
theorem m_t506 : Cond.fieldLink RJ2 44 "java/lang/StringUTF16" "$assertionsDisabled" "Z" ∈ BIG := wc_15 _ (List.mem_of_getElem? (l := wl_15) (i := 0) rfl)
theorem m_t508 : Cond.fieldLink RJ2 59 "java/lang/StringUTF16" "HI_BYTE_SHIFT" "I" ∈ BIG := wc_15 _ (List.mem_of_getElem? (l := wl_15) (i := 1) rfl)
theorem m_t510 : Cond.fieldLink RJ2 63 "java/lang/StringUTF16" "LO_BYTE_SHIFT" "I" ∈ BIG := wc_15 _ (List.mem_of_getElem? (l := wl_15) (i := 2) rfl)
theorem m_t512 : Cond.methodLink RX3 54 yX3_readBook ∈ BIG := wc_15 _ (List.mem_of_getElem? (l := wl_15) (i := 3) rfl)
theorem m_t514 : Cond.instanceMethod yX3_readBook ∈ BIG := wc_15 _ (List.mem_of_getElem? (l := wl_15) (i := 4) rfl)
theorem m_t515 : Cond.code yX3_readBook cX3_readBook 3 none ∈ BIG := wc_15 _ (List.mem_of_getElem? (l := wl_15) (i := 5) rfl)
theorem m_t516 : Cond.methodLink RX3 45 yX3_fail ∈ BIG := wc_15 _ (List.mem_of_getElem? (l := wl_15) (i := 6) rfl)
theorem m_t518 : Cond.instanceMethod yX3_fail ∈ BIG := wc_15 _ (List.mem_of_getElem? (l := wl_15) (i := 7) rfl)
theorem m_t519 : Cond.code yX3_fail cX3_fail 1 none ∈ BIG := wc_15 _ (List.mem_of_getElem? (l := wl_15) (i := 8) rfl)
theorem m_t520 : Cond.methodLink RX3 80 yX3_takeNumber ∈ BIG := wc_15 _ (List.mem_of_getElem? (l := wl_15) (i := 9) rfl)
theorem m_t522 : Cond.instanceMethod yX3_takeNumber ∈ BIG := wc_15 _ (List.mem_of_getElem? (l := wl_15) (i := 10) rfl)
theorem m_t523 : Cond.code yX3_takeNumber cX3_takeNumber 4 (some .int) ∈ BIG := wc_15 _ (List.mem_of_getElem? (l := wl_15) (i := 11) rfl)
theorem m_t524 : Cond.methodLink RX3 117 yX3_numberThere ∈ BIG := wc_15 _ (List.mem_of_getElem? (l := wl_15) (i := 12) rfl)
theorem m_t526 : Cond.instanceMethod yX3_numberThere ∈ BIG := wc_15 _ (List.mem_of_getElem? (l := wl_15) (i := 13) rfl)
theorem m_t527 : Cond.code yX3_numberThere cX3_numberThere 3 (some .int) ∈ BIG := wc_15 _ (List.mem_of_getElem? (l := wl_15) (i := 14) rfl)
theorem m_t529 : Cond.methodLink RX3 86 yX3_passes ∈ BIG := wc_15 _ (List.mem_of_getElem? (l := wl_15) (i := 15) rfl)
theorem m_t531 : Cond.instanceMethod yX3_passes ∈ BIG := wc_15 _ (List.mem_of_getElem? (l := wl_15) (i := 16) rfl)
theorem m_t532 : Cond.code yX3_passes cX3_passes 2 (some .boolean) ∈ BIG := wc_15 _ (List.mem_of_getElem? (l := wl_15) (i := 17) rfl)
theorem m_t533 : Cond.methodLink RX3 92 yX4_addBook ∈ BIG := wc_15 _ (List.mem_of_getElem? (l := wl_15) (i := 18) rfl)
theorem m_t535 : Cond.methodLink RX3 59 yX3_readNeed ∈ BIG := wc_15 _ (List.mem_of_getElem? (l := wl_15) (i := 19) rfl)
theorem m_t537 : Cond.instanceMethod yX3_readNeed ∈ BIG := wc_15 _ (List.mem_of_getElem? (l := wl_15) (i := 20) rfl)
theorem m_t538 : Cond.code yX3_readNeed cX3_readNeed 3 none ∈ BIG := wc_15 _ (List.mem_of_getElem? (l := wl_15) (i := 21) rfl)
theorem m_t540 : Cond.methodLink RX3 64 yX3_readOne ∈ BIG := wc_15 _ (List.mem_of_getElem? (l := wl_15) (i := 22) rfl)
theorem m_t542 : Cond.instanceMethod yX3_readOne ∈ BIG := wc_15 _ (List.mem_of_getElem? (l := wl_15) (i := 23) rfl)
theorem m_t543 : Cond.code yX3_readOne cX3_readOne 5 none ∈ BIG := wc_15 _ (List.mem_of_getElem? (l := wl_15) (i := 24) rfl)
theorem wc_16 : ∀ w, w ∈ wl_16 → w ∈ BIG := big_w (X := (wl_14 ++ wl_15)) (Y := wl_17 ++ (wl_18 ++ (wl_19 ++ (wl_20 ++ (wl_21 ++ (wl_22 ++ ([]))))))) (by rw [tb_3]; simp only [List.append_assoc]) in_tb3 (by decide +kernel)
theorem m_t547 : Cond.methodLink RX3 107 yX4_addOne ∈ BIG := wc_16 _ (List.mem_of_getElem? (l := wl_16) (i := 0) rfl)
theorem m_t549 : Cond.methodLink RX3 69 yX3_readKnows ∈ BIG := wc_16 _ (List.mem_of_getElem? (l := wl_16) (i := 1) rfl)
theorem m_t551 : Cond.instanceMethod yX3_readKnows ∈ BIG := wc_16 _ (List.mem_of_getElem? (l := wl_16) (i := 2) rfl)
theorem m_t552 : Cond.code yX3_readKnows cX3_readKnows 4 none ∈ BIG := wc_16 _ (List.mem_of_getElem? (l := wl_16) (i := 3) rfl)
theorem m_t553 : Cond.methodLink RX3 111 yX4_learn ∈ BIG := wc_16 _ (List.mem_of_getElem? (l := wl_16) (i := 4) rfl)
theorem m_t555 : Cond.methodLink RX3 74 yX3_readWhite ∈ BIG := wc_16 _ (List.mem_of_getElem? (l := wl_16) (i := 5) rfl)
theorem m_t557 : Cond.instanceMethod yX3_readWhite ∈ BIG := wc_16 _ (List.mem_of_getElem? (l := wl_16) (i := 6) rfl)
theorem m_t558 : Cond.code yX3_readWhite cX3_readWhite 2 none ∈ BIG := wc_16 _ (List.mem_of_getElem? (l := wl_16) (i := 7) rfl)
theorem m_t559 : Cond.methodLink RX5 164 yX4_become ∈ BIG := wc_16 _ (List.mem_of_getElem? (l := wl_16) (i := 8) rfl)
theorem m_t560 : Cond.methodLink RL 75 yX5_bookOf ∈ BIG := wc_16 _ (List.mem_of_getElem? (l := wl_16) (i := 9) rfl)
theorem m_t561 : Cond.instanceMethod yX5_bookOf ∈ BIG := wc_16 _ (List.mem_of_getElem? (l := wl_16) (i := 10) rfl)
theorem m_t562 : Cond.selects RX5 yX5_bookOf yX5_bookOf ∈ BIG := wc_16 _ (List.mem_of_getElem? (l := wl_16) (i := 11) rfl)
theorem m_t563 : Cond.code yX5_bookOf cX5_bookOf 3 (some .int) ∈ BIG := wc_16 _ (List.mem_of_getElem? (l := wl_16) (i := 12) rfl)
theorem m_t564 : Cond.methodLink RX5 168 yX4_isBook ∈ BIG := wc_16 _ (List.mem_of_getElem? (l := wl_16) (i := 13) rfl)
theorem m_t565 : Cond.instanceMethod yX4_isBook ∈ BIG := wc_16 _ (List.mem_of_getElem? (l := wl_16) (i := 14) rfl)
theorem m_t566 : Cond.selects RX4 yX4_isBook yX4_isBook ∈ BIG := wc_16 _ (List.mem_of_getElem? (l := wl_16) (i := 15) rfl)
theorem m_t567 : Cond.code yX4_isBook cX4_isBook 2 (some .boolean) ∈ BIG := wc_16 _ (List.mem_of_getElem? (l := wl_16) (i := 16) rfl)
theorem m_t568 : Cond.methodLink RX5 183 yX5_has ∈ BIG := wc_16 _ (List.mem_of_getElem? (l := wl_16) (i := 17) rfl)
theorem m_t569 : Cond.methodLink RX5 189 yX4_mostKnown ∈ BIG := wc_16 _ (List.mem_of_getElem? (l := wl_16) (i := 18) rfl)
theorem m_t570 : Cond.methodLink RL 79 yX5_oneOf ∈ BIG := wc_16 _ (List.mem_of_getElem? (l := wl_16) (i := 19) rfl)
theorem m_t571 : Cond.instanceMethod yX5_oneOf ∈ BIG := wc_16 _ (List.mem_of_getElem? (l := wl_16) (i := 20) rfl)
theorem m_t572 : Cond.selects RX5 yX5_oneOf yX5_oneOf ∈ BIG := wc_16 _ (List.mem_of_getElem? (l := wl_16) (i := 21) rfl)
theorem m_t573 : Cond.code yX5_oneOf cX5_oneOf 3 (some .int) ∈ BIG := wc_16 _ (List.mem_of_getElem? (l := wl_16) (i := 22) rfl)
theorem m_t574 : Cond.methodLink RX5 192 yX4_isOne ∈ BIG := wc_16 _ (List.mem_of_getElem? (l := wl_16) (i := 23) rfl)
theorem m_t575 : Cond.instanceMethod yX4_isOne ∈ BIG := wc_16 _ (List.mem_of_getElem? (l := wl_16) (i := 24) rfl)
theorem wc_17 : ∀ w, w ∈ wl_17 → w ∈ BIG := big_w (X := ((wl_14 ++ wl_15) ++ wl_16)) (Y := wl_18 ++ (wl_19 ++ (wl_20 ++ (wl_21 ++ (wl_22 ++ ([])))))) (by rw [tb_3]; simp only [List.append_assoc]) in_tb3 (by decide +kernel)
theorem m_t576 : Cond.selects RX4 yX4_isOne yX4_isOne ∈ BIG := wc_17 _ (List.mem_of_getElem? (l := wl_17) (i := 0) rfl)
theorem m_t577 : Cond.code yX4_isOne cX4_isOne 2 (some .boolean) ∈ BIG := wc_17 _ (List.mem_of_getElem? (l := wl_17) (i := 1) rfl)
theorem m_t578 : Cond.methodLink RL 83 yX5_known ∈ BIG := wc_17 _ (List.mem_of_getElem? (l := wl_17) (i := 2) rfl)
theorem m_t579 : Cond.instanceMethod yX5_known ∈ BIG := wc_17 _ (List.mem_of_getElem? (l := wl_17) (i := 3) rfl)
theorem m_t580 : Cond.selects RX5 yX5_known yX5_known ∈ BIG := wc_17 _ (List.mem_of_getElem? (l := wl_17) (i := 4) rfl)
theorem m_t581 : Cond.code yX5_known cX5_known 3 (some .int) ∈ BIG := wc_17 _ (List.mem_of_getElem? (l := wl_17) (i := 5) rfl)
theorem m_t582 : Cond.methodLink RX5 210 yX5_isPair ∈ BIG := wc_17 _ (List.mem_of_getElem? (l := wl_17) (i := 6) rfl)
theorem m_t584 : Cond.instanceMethod yX5_isPair ∈ BIG := wc_17 _ (List.mem_of_getElem? (l := wl_17) (i := 7) rfl)
theorem m_t585 : Cond.code yX5_isPair cX5_isPair 3 (some .boolean) ∈ BIG := wc_17 _ (List.mem_of_getElem? (l := wl_17) (i := 8) rfl)
theorem m_t586 : Cond.methodLink RX5 213 yX4_knows ∈ BIG := wc_17 _ (List.mem_of_getElem? (l := wl_17) (i := 9) rfl)
theorem m_t587 : Cond.methodLink RL 87 yX5_alter ∈ BIG := wc_17 _ (List.mem_of_getElem? (l := wl_17) (i := 10) rfl)
theorem m_t588 : Cond.instanceMethod yX5_alter ∈ BIG := wc_17 _ (List.mem_of_getElem? (l := wl_17) (i := 11) rfl)
theorem m_t589 : Cond.selects RX5 yX5_alter yX5_alter ∈ BIG := wc_17 _ (List.mem_of_getElem? (l := wl_17) (i := 12) rfl)
theorem m_t590 : Cond.code yX5_alter cX5_alter 5 (some .int) ∈ BIG := wc_17 _ (List.mem_of_getElem? (l := wl_17) (i := 13) rfl)
theorem m_t591 : Cond.constantLong RX5 216 1000 ∈ BIG := wc_17 _ (List.mem_of_getElem? (l := wl_17) (i := 14) rfl)
theorem m_t592 : Cond.methodLink RX5 218 yX4_learn ∈ BIG := wc_17 _ (List.mem_of_getElem? (l := wl_17) (i := 15) rfl)
theorem m_t593 : Cond.methodLink RL 91 yX5_ground ∈ BIG := wc_17 _ (List.mem_of_getElem? (l := wl_17) (i := 16) rfl)
theorem m_t594 : Cond.instanceMethod yX5_ground ∈ BIG := wc_17 _ (List.mem_of_getElem? (l := wl_17) (i := 17) rfl)
theorem m_t595 : Cond.selects RX5 yX5_ground yX5_ground ∈ BIG := wc_17 _ (List.mem_of_getElem? (l := wl_17) (i := 18) rfl)
theorem m_t596 : Cond.code yX5_ground cX5_ground 3 (some .int) ∈ BIG := wc_17 _ (List.mem_of_getElem? (l := wl_17) (i := 19) rfl)
theorem m_t597 : Cond.methodLink RX5 221 yX4_groundOf ∈ BIG := wc_17 _ (List.mem_of_getElem? (l := wl_17) (i := 20) rfl)
theorem m_t598 : Cond.methodLink RL 95 yX5_would ∈ BIG := wc_17 _ (List.mem_of_getElem? (l := wl_17) (i := 21) rfl)
theorem m_t599 : Cond.instanceMethod yX5_would ∈ BIG := wc_17 _ (List.mem_of_getElem? (l := wl_17) (i := 22) rfl)
theorem m_t600 : Cond.selects RX5 yX5_would yX5_would ∈ BIG := wc_17 _ (List.mem_of_getElem? (l := wl_17) (i := 23) rfl)
theorem m_t601 : Cond.code yX5_would cX5_would 4 (some .int) ∈ BIG := wc_17 _ (List.mem_of_getElem? (l := wl_17) (i := 24) rfl)
theorem wc_18 : ∀ w, w ∈ wl_18 → w ∈ BIG := big_w (X := (((wl_14 ++ wl_15) ++ wl_16) ++ wl_17)) (Y := wl_19 ++ (wl_20 ++ (wl_21 ++ (wl_22 ++ ([]))))) (by rw [tb_3]; simp only [List.append_assoc]) in_tb3 (by decide +kernel)
theorem m_t602 : Cond.methodLink RX5 224 yX5_readFit ∈ BIG := wc_18 _ (List.mem_of_getElem? (l := wl_18) (i := 0) rfl)
theorem m_t604 : Cond.instanceMethod yX5_readFit ∈ BIG := wc_18 _ (List.mem_of_getElem? (l := wl_18) (i := 1) rfl)
theorem m_t605 : Cond.code yX5_readFit cX5_readFit 3 (some .int) ∈ BIG := wc_18 _ (List.mem_of_getElem? (l := wl_18) (i := 2) rfl)
theorem m_t606 : Cond.methodLink RX5 227 yX4_wouldKnow ∈ BIG := wc_18 _ (List.mem_of_getElem? (l := wl_18) (i := 3) rfl)
theorem m_t607 : Cond.methodLink RL 99 yX5_read ∈ BIG := wc_18 _ (List.mem_of_getElem? (l := wl_18) (i := 4) rfl)
theorem m_t608 : Cond.instanceMethod yX5_read ∈ BIG := wc_18 _ (List.mem_of_getElem? (l := wl_18) (i := 5) rfl)
theorem m_t609 : Cond.selects RX5 yX5_read yX5_read ∈ BIG := wc_18 _ (List.mem_of_getElem? (l := wl_18) (i := 6) rfl)
theorem m_t610 : Cond.code yX5_read cX5_read 4 (some .int) ∈ BIG := wc_18 _ (List.mem_of_getElem? (l := wl_18) (i := 7) rfl)
theorem m_t611 : Cond.methodLink RX5 230 yX4_readBy ∈ BIG := wc_18 _ (List.mem_of_getElem? (l := wl_18) (i := 8) rfl)
theorem m_t612 : Cond.methodLink RL 103 yX5_aloud ∈ BIG := wc_18 _ (List.mem_of_getElem? (l := wl_18) (i := 9) rfl)
theorem m_t613 : Cond.instanceMethod yX5_aloud ∈ BIG := wc_18 _ (List.mem_of_getElem? (l := wl_18) (i := 10) rfl)
theorem m_t614 : Cond.selects RX5 yX5_aloud yX5_aloud ∈ BIG := wc_18 _ (List.mem_of_getElem? (l := wl_18) (i := 11) rfl)
theorem m_t615 : Cond.code yX5_aloud cX5_aloud 5 (some .int) ∈ BIG := wc_18 _ (List.mem_of_getElem? (l := wl_18) (i := 12) rfl)
theorem m_t616 : Cond.methodLink RX5 234 yX4_hearFrom ∈ BIG := wc_18 _ (List.mem_of_getElem? (l := wl_18) (i := 13) rfl)
theorem m_t617 : Cond.methodLink RL 107 yX5_tell ∈ BIG := wc_18 _ (List.mem_of_getElem? (l := wl_18) (i := 14) rfl)
theorem m_t618 : Cond.instanceMethod yX5_tell ∈ BIG := wc_18 _ (List.mem_of_getElem? (l := wl_18) (i := 15) rfl)
theorem m_t619 : Cond.selects RX5 yX5_tell yX5_tell ∈ BIG := wc_18 _ (List.mem_of_getElem? (l := wl_18) (i := 16) rfl)
theorem m_t620 : Cond.code yX5_tell cX5_tell 5 (some .int) ∈ BIG := wc_18 _ (List.mem_of_getElem? (l := wl_18) (i := 17) rfl)
theorem m_t621 : Cond.methodLink RX5 238 yX4_gainByTelling ∈ BIG := wc_18 _ (List.mem_of_getElem? (l := wl_18) (i := 18) rfl)
theorem m_t622 : Cond.methodLink RX5 241 yX4_tellTo ∈ BIG := wc_18 _ (List.mem_of_getElem? (l := wl_18) (i := 19) rfl)
theorem m_t623 : Cond.methodLink RL 111 yX5_write ∈ BIG := wc_18 _ (List.mem_of_getElem? (l := wl_18) (i := 20) rfl)
theorem m_t624 : Cond.instanceMethod yX5_write ∈ BIG := wc_18 _ (List.mem_of_getElem? (l := wl_18) (i := 21) rfl)
theorem m_t625 : Cond.selects RX5 yX5_write yX5_write ∈ BIG := wc_18 _ (List.mem_of_getElem? (l := wl_18) (i := 22) rfl)
theorem m_t626 : Cond.code yX5_write cX5_write 3 (some .int) ∈ BIG := wc_18 _ (List.mem_of_getElem? (l := wl_18) (i := 23) rfl)
theorem m_t627 : Cond.methodLink RX5 244 yX4_writeBy ∈ BIG := wc_18 _ (List.mem_of_getElem? (l := wl_18) (i := 24) rfl)
theorem wc_19 : ∀ w, w ∈ wl_19 → w ∈ BIG := big_w (X := ((((wl_14 ++ wl_15) ++ wl_16) ++ wl_17) ++ wl_18)) (Y := wl_20 ++ (wl_21 ++ (wl_22 ++ ([])))) (by rw [tb_3]; simp only [List.append_assoc]) in_tb3 (by decide +kernel)
theorem m_t628 : Cond.instanceMethod yX4_writeBy ∈ BIG := wc_19 _ (List.mem_of_getElem? (l := wl_19) (i := 0) rfl)
theorem m_t629 : Cond.selects RX4 yX4_writeBy yX4_writeBy ∈ BIG := wc_19 _ (List.mem_of_getElem? (l := wl_19) (i := 1) rfl)
theorem m_t630 : Cond.code yX4_writeBy cX4_writeBy 3 (some .int) ∈ BIG := wc_19 _ (List.mem_of_getElem? (l := wl_19) (i := 2) rfl)
theorem m_t631 : Cond.methodLink RL 115 yX5_value ∈ BIG := wc_19 _ (List.mem_of_getElem? (l := wl_19) (i := 3) rfl)
theorem m_t632 : Cond.instanceMethod yX5_value ∈ BIG := wc_19 _ (List.mem_of_getElem? (l := wl_19) (i := 4) rfl)
theorem m_t633 : Cond.selects RX5 yX5_value yX5_value ∈ BIG := wc_19 _ (List.mem_of_getElem? (l := wl_19) (i := 5) rfl)
theorem m_t634 : Cond.code yX5_value cX5_value 1 (some .int) ∈ BIG := wc_19 _ (List.mem_of_getElem? (l := wl_19) (i := 6) rfl)
theorem m_t635 : Cond.methodLink RL 119 yX5_reader ∈ BIG := wc_19 _ (List.mem_of_getElem? (l := wl_19) (i := 7) rfl)
theorem m_t636 : Cond.instanceMethod yX5_reader ∈ BIG := wc_19 _ (List.mem_of_getElem? (l := wl_19) (i := 8) rfl)
theorem m_t637 : Cond.selects RX5 yX5_reader yX5_reader ∈ BIG := wc_19 _ (List.mem_of_getElem? (l := wl_19) (i := 9) rfl)
theorem m_t638 : Cond.code yX5_reader cX5_reader 2 (some .int) ∈ BIG := wc_19 _ (List.mem_of_getElem? (l := wl_19) (i := 10) rfl)
theorem m_t639 : Cond.methodLink RX5 247 yX4_bestReader ∈ BIG := wc_19 _ (List.mem_of_getElem? (l := wl_19) (i := 11) rfl)
theorem m_t640 : Cond.methodLink RL 123 yX5_run ∈ BIG := wc_19 _ (List.mem_of_getElem? (l := wl_19) (i := 12) rfl)
theorem m_t641 : Cond.instanceMethod yX5_run ∈ BIG := wc_19 _ (List.mem_of_getElem? (l := wl_19) (i := 13) rfl)
theorem m_t642 : Cond.selects RX5 yX5_run yX5_run ∈ BIG := wc_19 _ (List.mem_of_getElem? (l := wl_19) (i := 14) rfl)
theorem m_t643 : Cond.code yX5_run cX5_run 6 (some .int) ∈ BIG := wc_19 _ (List.mem_of_getElem? (l := wl_19) (i := 15) rfl)
theorem m_t644 : Cond.constantLong RX5 250 60 ∈ BIG := wc_19 _ (List.mem_of_getElem? (l := wl_19) (i := 16) rfl)
theorem m_t645 : Cond.constantLong RX5 252 3 ∈ BIG := wc_19 _ (List.mem_of_getElem? (l := wl_19) (i := 17) rfl)
theorem m_t646 : Cond.methodLink RX5 254 yX0_sumOfRun ∈ BIG := wc_19 _ (List.mem_of_getElem? (l := wl_19) (i := 18) rfl)
theorem m_t647 : Cond.instanceMethod yX0_sumOfRun ∈ BIG := wc_19 _ (List.mem_of_getElem? (l := wl_19) (i := 19) rfl)
theorem m_t648 : Cond.selects RX0 yX0_sumOfRun yX0_sumOfRun ∈ BIG := wc_19 _ (List.mem_of_getElem? (l := wl_19) (i := 20) rfl)
theorem m_t649 : Cond.code yX0_sumOfRun cX0_sumOfRun 7 (some .int) ∈ BIG := wc_19 _ (List.mem_of_getElem? (l := wl_19) (i := 21) rfl)
theorem m_t650 : Cond.methodLink RX0 25 yX4_setThere ∈ BIG := wc_19 _ (List.mem_of_getElem? (l := wl_19) (i := 22) rfl)
theorem m_t651 : Cond.methodLink RX0 33 yX1_act ∈ BIG := wc_19 _ (List.mem_of_getElem? (l := wl_19) (i := 23) rfl)
theorem m_t652 : Cond.methodLink RX0 39 yX4_worthNow ∈ BIG := wc_19 _ (List.mem_of_getElem? (l := wl_19) (i := 24) rfl)
theorem wc_20 : ∀ w, w ∈ wl_20 → w ∈ BIG := big_w (X := (((((wl_14 ++ wl_15) ++ wl_16) ++ wl_17) ++ wl_18) ++ wl_19)) (Y := wl_21 ++ (wl_22 ++ ([]))) (by rw [tb_3]; simp only [List.append_assoc]) in_tb3 (by decide +kernel)
theorem m_t653 : Cond.methodLink RX0 42 yX4_endYear ∈ BIG := wc_20 _ (List.mem_of_getElem? (l := wl_20) (i := 0) rfl)
theorem m_t654 : Cond.instanceMethod yX4_endYear ∈ BIG := wc_20 _ (List.mem_of_getElem? (l := wl_20) (i := 1) rfl)
theorem m_t655 : Cond.selects RX4 yX4_endYear yX4_endYear ∈ BIG := wc_20 _ (List.mem_of_getElem? (l := wl_20) (i := 2) rfl)
theorem m_t656 : Cond.code yX4_endYear cX4_endYear 3 (some .int) ∈ BIG := wc_20 _ (List.mem_of_getElem? (l := wl_20) (i := 3) rfl)
theorem m_t657 : Cond.methodLink RX4 111 yX4_forget ∈ BIG := wc_20 _ (List.mem_of_getElem? (l := wl_20) (i := 4) rfl)
theorem m_t659 : Cond.instanceMethod yX4_forget ∈ BIG := wc_20 _ (List.mem_of_getElem? (l := wl_20) (i := 5) rfl)
theorem m_t660 : Cond.code yX4_forget cX4_forget 4 none ∈ BIG := wc_20 _ (List.mem_of_getElem? (l := wl_20) (i := 6) rfl)
theorem m_t661 : Cond.methodLink RX4 115 yJ6_bitCount_0f7a4 ∈ BIG := wc_20 _ (List.mem_of_getElem? (l := wl_20) (i := 7) rfl)
theorem m_t662 : Cond.static yJ6_bitCount_0f7a4 ∈ BIG := wc_20 _ (List.mem_of_getElem? (l := wl_20) (i := 8) rfl)
theorem m_t663 : Cond.code yJ6_bitCount_0f7a4 cJ6_bitCount_0f7a4 1 (some .int) ∈ BIG := wc_20 _ (List.mem_of_getElem? (l := wl_20) (i := 9) rfl)
theorem m_t664 : Cond.constant RJ6 265 1431655765 ∈ BIG := wc_20 _ (List.mem_of_getElem? (l := wl_20) (i := 10) rfl)
theorem m_t665 : Cond.constant RJ6 266 858993459 ∈ BIG := wc_20 _ (List.mem_of_getElem? (l := wl_20) (i := 11) rfl)
theorem m_t666 : Cond.constant RJ6 267 252645135 ∈ BIG := wc_20 _ (List.mem_of_getElem? (l := wl_20) (i := 12) rfl)
theorem m_t667 : Cond.methodLink RX5 264 yJ6_bitCount_0f7a4 ∈ BIG := wc_20 _ (List.mem_of_getElem? (l := wl_20) (i := 13) rfl)
theorem m_t668 : Cond.methodLink RX5 269 yX4_setThere ∈ BIG := wc_20 _ (List.mem_of_getElem? (l := wl_20) (i := 14) rfl)
theorem m_t669 : Cond.methodLink RL 127 yX5_head ∈ BIG := wc_20 _ (List.mem_of_getElem? (l := wl_20) (i := 15) rfl)
theorem m_t670 : Cond.instanceMethod yX5_head ∈ BIG := wc_20 _ (List.mem_of_getElem? (l := wl_20) (i := 16) rfl)
theorem m_t671 : Cond.selects RX5 yX5_head yX5_head ∈ BIG := wc_20 _ (List.mem_of_getElem? (l := wl_20) (i := 17) rfl)
theorem m_t672 : Cond.code yX5_head cX5_head 6 (some .int) ∈ BIG := wc_20 _ (List.mem_of_getElem? (l := wl_20) (i := 18) rfl)
theorem m_t673 : Cond.methodLink RL 131 yX5_who ∈ BIG := wc_20 _ (List.mem_of_getElem? (l := wl_20) (i := 19) rfl)
theorem m_t674 : Cond.instanceMethod yX5_who ∈ BIG := wc_20 _ (List.mem_of_getElem? (l := wl_20) (i := 20) rfl)
theorem m_t675 : Cond.selects RX5 yX5_who yX5_who ∈ BIG := wc_20 _ (List.mem_of_getElem? (l := wl_20) (i := 21) rfl)
theorem m_t676 : Cond.code yX5_who cX5_who 3 (some .int) ∈ BIG := wc_20 _ (List.mem_of_getElem? (l := wl_20) (i := 22) rfl)
theorem m_t677 : Cond.methodLink RX5 272 yX0_bestWho ∈ BIG := wc_20 _ (List.mem_of_getElem? (l := wl_20) (i := 23) rfl)
theorem m_t678 : Cond.instanceMethod yX0_bestWho ∈ BIG := wc_20 _ (List.mem_of_getElem? (l := wl_20) (i := 24) rfl)
theorem wc_21 : ∀ w, w ∈ wl_21 → w ∈ BIG := big_w (X := ((((((wl_14 ++ wl_15) ++ wl_16) ++ wl_17) ++ wl_18) ++ wl_19) ++ wl_20)) (Y := wl_22 ++ ([])) (by rw [tb_3]; simp only [List.append_assoc]) in_tb3 (by decide +kernel)
theorem m_t679 : Cond.selects RX0 yX0_bestWho yX0_bestWho ∈ BIG := wc_21 _ (List.mem_of_getElem? (l := wl_21) (i := 0) rfl)
theorem m_t680 : Cond.code yX0_bestWho cX0_bestWho 7 (some .int) ∈ BIG := wc_21 _ (List.mem_of_getElem? (l := wl_21) (i := 1) rfl)
theorem m_t682 : Cond.methodLink RX0 56 yX4_readBy ∈ BIG := wc_21 _ (List.mem_of_getElem? (l := wl_21) (i := 2) rfl)
theorem m_t683 : Cond.methodLink RX0 60 yX0_sumOfRest ∈ BIG := wc_21 _ (List.mem_of_getElem? (l := wl_21) (i := 3) rfl)
theorem m_t684 : Cond.static yX0_sumOfRest ∈ BIG := wc_21 _ (List.mem_of_getElem? (l := wl_21) (i := 4) rfl)
theorem m_t685 : Cond.code yX0_sumOfRest cX0_sumOfRest 4 (some .int) ∈ BIG := wc_21 _ (List.mem_of_getElem? (l := wl_21) (i := 5) rfl)
theorem m_t686 : Cond.methodLink RX0 45 yX4_worthAmong ∈ BIG := wc_21 _ (List.mem_of_getElem? (l := wl_21) (i := 6) rfl)
theorem m_t687 : Cond.methodLink RL 135 yX5_order ∈ BIG := wc_21 _ (List.mem_of_getElem? (l := wl_21) (i := 7) rfl)
theorem m_t688 : Cond.instanceMethod yX5_order ∈ BIG := wc_21 _ (List.mem_of_getElem? (l := wl_21) (i := 8) rfl)
theorem m_t689 : Cond.selects RX5 yX5_order yX5_order ∈ BIG := wc_21 _ (List.mem_of_getElem? (l := wl_21) (i := 9) rfl)
theorem m_t690 : Cond.code yX5_order cX5_order 4 (some .int) ∈ BIG := wc_21 _ (List.mem_of_getElem? (l := wl_21) (i := 10) rfl)
theorem m_t691 : Cond.constantLong RX5 275 (-1) ∈ BIG := wc_21 _ (List.mem_of_getElem? (l := wl_21) (i := 11) rfl)
theorem m_t692 : Cond.methodLink RX5 277 yX0_worthByRising ∈ BIG := wc_21 _ (List.mem_of_getElem? (l := wl_21) (i := 12) rfl)
theorem m_t693 : Cond.instanceMethod yX0_worthByRising ∈ BIG := wc_21 _ (List.mem_of_getElem? (l := wl_21) (i := 13) rfl)
theorem m_t694 : Cond.selects RX0 yX0_worthByRising yX0_worthByRising ∈ BIG := wc_21 _ (List.mem_of_getElem? (l := wl_21) (i := 14) rfl)
theorem m_t695 : Cond.code yX0_worthByRising cX0_worthByRising 4 (some .int) ∈ BIG := wc_21 _ (List.mem_of_getElem? (l := wl_21) (i := 15) rfl)
theorem m_t696 : Cond.methodLink RX5 281 yX4_unreadAt ∈ BIG := wc_21 _ (List.mem_of_getElem? (l := wl_21) (i := 16) rfl)
theorem m_t697 : Cond.instanceMethod yX4_unreadAt ∈ BIG := wc_21 _ (List.mem_of_getElem? (l := wl_21) (i := 17) rfl)
theorem m_t698 : Cond.selects RX4 yX4_unreadAt yX4_unreadAt ∈ BIG := wc_21 _ (List.mem_of_getElem? (l := wl_21) (i := 18) rfl)
theorem m_t699 : Cond.code yX4_unreadAt cX4_unreadAt 4 (some .int) ∈ BIG := wc_21 _ (List.mem_of_getElem? (l := wl_21) (i := 19) rfl)
theorem m_t700 : Cond.methodLink RL 139 yX5_keeping ∈ BIG := wc_21 _ (List.mem_of_getElem? (l := wl_21) (i := 20) rfl)
theorem m_t701 : Cond.instanceMethod yX5_keeping ∈ BIG := wc_21 _ (List.mem_of_getElem? (l := wl_21) (i := 21) rfl)
theorem m_t702 : Cond.selects RX5 yX5_keeping yX5_keeping ∈ BIG := wc_21 _ (List.mem_of_getElem? (l := wl_21) (i := 22) rfl)
theorem m_t703 : Cond.code yX5_keeping cX5_keeping 4 (some .int) ∈ BIG := wc_21 _ (List.mem_of_getElem? (l := wl_21) (i := 23) rfl)
theorem m_t704 : Cond.constantLong RX5 284 2 ∈ BIG := wc_21 _ (List.mem_of_getElem? (l := wl_21) (i := 24) rfl)
theorem wc_22 : ∀ w, w ∈ wl_22 → w ∈ BIG := big_w (X := (((((((wl_14 ++ wl_15) ++ wl_16) ++ wl_17) ++ wl_18) ++ wl_19) ++ wl_20) ++ wl_21)) (Y := []) (by rw [tb_3]; simp only [List.append_assoc]) in_tb3 (by decide +kernel)
theorem m_t705 : Cond.constant RX5 286 1000000 ∈ BIG := wc_22 _ (List.mem_of_getElem? (l := wl_22) (i := 0) rfl)
theorem m_t706 : Cond.methodLink RX5 287 yX0_findKeeping ∈ BIG := wc_22 _ (List.mem_of_getElem? (l := wl_22) (i := 1) rfl)
theorem m_t707 : Cond.instanceMethod yX0_findKeeping ∈ BIG := wc_22 _ (List.mem_of_getElem? (l := wl_22) (i := 2) rfl)
theorem m_t708 : Cond.selects RX0 yX0_findKeeping yX0_findKeeping ∈ BIG := wc_22 _ (List.mem_of_getElem? (l := wl_22) (i := 3) rfl)
theorem m_t709 : Cond.code yX0_findKeeping cX0_findKeeping 6 (some .boolean) ∈ BIG := wc_22 _ (List.mem_of_getElem? (l := wl_22) (i := 4) rfl)
theorem m_t710 : Cond.methodLink RX0 67 yX0_bestWho ∈ BIG := wc_22 _ (List.mem_of_getElem? (l := wl_22) (i := 5) rfl)
theorem m_t711 : Cond.methodLink RL 143 yX5_left ∈ BIG := wc_22 _ (List.mem_of_getElem? (l := wl_22) (i := 6) rfl)
theorem m_t712 : Cond.instanceMethod yX5_left ∈ BIG := wc_22 _ (List.mem_of_getElem? (l := wl_22) (i := 7) rfl)
theorem m_t713 : Cond.selects RX5 yX5_left yX5_left ∈ BIG := wc_22 _ (List.mem_of_getElem? (l := wl_22) (i := 8) rfl)
theorem m_t714 : Cond.code yX5_left cX5_left 6 (some .int) ∈ BIG := wc_22 _ (List.mem_of_getElem? (l := wl_22) (i := 9) rfl)
theorem m_t715 : Cond.methodLink RX5 294 yX5_canBeTold ∈ BIG := wc_22 _ (List.mem_of_getElem? (l := wl_22) (i := 10) rfl)
theorem m_t716 : Cond.static yX5_canBeTold ∈ BIG := wc_22 _ (List.mem_of_getElem? (l := wl_22) (i := 11) rfl)
theorem m_t717 : Cond.code yX5_canBeTold cX5_canBeTold 2 (some .boolean) ∈ BIG := wc_22 _ (List.mem_of_getElem? (l := wl_22) (i := 12) rfl)
theorem m_t718 : Cond.methodLink RX5 297 yX4_afterTelling ∈ BIG := wc_22 _ (List.mem_of_getElem? (l := wl_22) (i := 13) rfl)
theorem m_t719 : Cond.methodLink RL 147 yX5_longest ∈ BIG := wc_22 _ (List.mem_of_getElem? (l := wl_22) (i := 14) rfl)
noncomputable def wl_23 : List Cond := [Cond.instanceMethod yX5_longest, Cond.selects RX5 yX5_longest yX5_longest, Cond.code yX5_longest cX5_longest 6 (some .int), Cond.methodLink RL 151 yX5_hangs, Cond.instanceMethod yX5_hangs, Cond.selects RX5 yX5_hangs yX5_hangs, Cond.code yX5_hangs cX5_hangs 6 (some .int), Cond.methodLink RX5 300 yX4_worthAmong, Cond.methodLink RL 155 yX5_lost, Cond.instanceMethod yX5_lost, Cond.selects RX5 yX5_lost yX5_lost, Cond.code yX5_lost cX5_lost 2 (some .int), Cond.methodLink RX5 303 yX4_booksKnown, Cond.instanceMethod yX4_booksKnown, Cond.selects RX4 yX4_booksKnown yX4_booksKnown, Cond.code yX4_booksKnown cX4_booksKnown 5 (some .int), Cond.methodLink RL 159 yX5_bear, Cond.instanceMethod yX5_bear, Cond.selects RX5 yX5_bear yX5_bear, Cond.code yX5_bear cX5_bear 7 (some .int), Cond.methodLink RL 163 yX5_youngest, Cond.instanceMethod yX5_youngest, Cond.selects RX5 yX5_youngest yX5_youngest, Cond.code yX5_youngest cX5_youngest 2 (some .int), Cond.methodLink RX5 306 yX4_youngestBut]
noncomputable def wl_24 : List Cond := [Cond.methodLink RL 167 yX5_teach, Cond.instanceMethod yX5_teach, Cond.selects RX5 yX5_teach yX5_teach, Cond.code yX5_teach cX5_teach 7 (some .int), Cond.methodLink RL 171 yX5_needs, Cond.instanceMethod yX5_needs, Cond.selects RX5 yX5_needs yX5_needs, Cond.code yX5_needs cX5_needs 3 (some .int), Cond.methodLink RX5 309 yX4_allThatNeed, Cond.instanceMethod yX4_allThatNeed, Cond.selects RX4 yX4_allThatNeed yX4_allThatNeed, Cond.code yX4_allThatNeed cX4_allThatNeed 4 (some .int), Cond.methodLink RX4 108 yX4_allNeededBy, Cond.instanceMethod yX4_allNeededBy, Cond.selects RX4 yX4_allNeededBy yX4_allNeededBy, Cond.code yX4_allNeededBy cX4_allNeededBy 4 (some .int), Cond.methodLink RX5 312 yX4_allNeededBy, Cond.methodLink RL 176 yX5_next, Cond.instanceMethod yX5_next, Cond.selects RX5 yX5_next yX5_next, Cond.code yX5_next cX5_next 5 (some .int), Cond.methodLink RX5 315 yX4_gainByReading, Cond.instanceMethod yX4_gainByReading, Cond.selects RX4 yX4_gainByReading yX4_gainByReading, Cond.code yX4_gainByReading cX4_gainByReading 3 (some .int)]
noncomputable def wl_25 : List Cond := [Cond.methodLink RX4 105 yX4_bestReader, Cond.methodLink RL 180 yX5_two, Cond.instanceMethod yX5_two, Cond.selects RX5 yX5_two yX5_two, Cond.code yX5_two cX5_two 3 (some .int), Cond.methodLink RL 184 yX5_gains, Cond.instanceMethod yX5_gains, Cond.selects RX5 yX5_gains yX5_gains, Cond.code yX5_gains cX5_gains 5 (some .int), Cond.methodLink RX5 318 yX0_sumOfRest, Cond.methodLink RL 188 yX5_judge, Cond.instanceMethod yX5_judge, Cond.selects RX5 yX5_judge yX5_judge, Cond.code yX5_judge cX5_judge 4 (some .int), Cond.methodLink RX5 321 yX5_toldFit, Cond.instanceMethod yX5_toldFit, Cond.code yX5_toldFit cX5_toldFit 4 (some .int), Cond.constantLong RX5 327 20, Cond.methodLink RX5 324 yX5_firstWrong, Cond.instanceMethod yX5_firstWrong, Cond.code yX5_firstWrong cX5_firstWrong 9 (some .int), Cond.constantLong RX5 367 799, Cond.methodLink RL 192 yX5_told, Cond.instanceMethod yX5_told, Cond.selects RX5 yX5_told yX5_told]
noncomputable def wl_26 : List Cond := [Cond.code yX5_told cX5_told 4 (some .int), Cond.methodLink RL 196 yX5_years, Cond.instanceMethod yX5_years, Cond.selects RX5 yX5_years yX5_years, Cond.code yX5_years cX5_years 6 (some .int), Cond.methodLink RX5 329 yX4_drawDeaths, Cond.instanceMethod yX4_drawDeaths, Cond.selects RX4 yX4_drawDeaths yX4_drawDeaths, Cond.code yX4_drawDeaths cX4_drawDeaths 2 none, Cond.methodLink RX4 120 yX4_drawBelow20, Cond.instanceMethod yX4_drawBelow20, Cond.code yX4_drawBelow20 cX4_drawBelow20 1 (some .int), Cond.constant RX4 123 1103515245, Cond.methodLink RX5 332 yX4_endYear, Cond.methodLink RL 200 yX5_ends, Cond.instanceMethod yX5_ends, Cond.selects RX5 yX5_ends yX5_ends, Cond.code yX5_ends cX5_ends 1 (some .int), Cond.methodLink RL 204 yX5_seed, Cond.instanceMethod yX5_seed, Cond.selects RX5 yX5_seed yX5_seed, Cond.code yX5_seed cX5_seed 3 (some .int), Cond.methodLink RL 208 yX5_image, Cond.instanceMethod yX5_image, Cond.selects RX5 yX5_image yX5_image]
noncomputable def wl_27 : List Cond := [Cond.code yX5_image cX5_image 1 (some .int), Cond.methodLink RL 212 yX5_back, Cond.instanceMethod yX5_back, Cond.selects RX5 yX5_back yX5_back, Cond.code yX5_back cX5_back 1 (some .int), Cond.methodLink RL 216 yX5_status, Cond.instanceMethod yX5_status, Cond.selects RX5 yX5_status yX5_status, Cond.code yX5_status cX5_status 2 (some .int), Cond.constantLong RX5 348 12, Cond.constantLong RX5 350 16, Cond.methodLink RX5 352 yX2_countHolding, Cond.instanceMethod yX2_countHolding, Cond.selects RX2 yX2_countHolding yX2_countHolding, Cond.code yX2_countHolding cX2_countHolding 3 (some .int), Cond.classLink RL 10 RX6, Cond.instantiable RX6 35, Cond.methodLink RL 12 yX6_init, Cond.instanceMethod yX6_init, Cond.code yX6_init cX6_init 1 none, Cond.methodLink RX6 1 objectInit, Cond.classLink RX6 19 "[[J", Cond.classLink RX6 40 "[[I", Cond.classLink RX6 8 RX6, Cond.fieldLink RX6 7 "EachBookOnceModel" "shelf" "[I"]
noncomputable def wl_28 : List Cond := [Cond.fieldLink RX6 13 "EachBookOnceModel" "rowSort" "[I", Cond.fieldLink RX6 16 "EachBookOnceModel" "rowSize" "[I", Cond.fieldLink RX6 21 "EachBookOnceModel" "rows" "[[J", Cond.fieldLink RX6 24 "EachBookOnceModel" "moved" "[J", Cond.fieldLink RX6 28 "EachBookOnceModel" "ruleKind" "[I", Cond.fieldLink RX6 31 "EachBookOnceModel" "ruleBy" "[I", Cond.fieldLink RX6 34 "EachBookOnceModel" "tape" "[I", Cond.fieldLink RX6 141 "EachBookOnceModel" "tapeSize" "I", Cond.fieldLink RX6 37 "EachBookOnceModel" "refused" "[I", Cond.fieldLink RX6 71 "EachBookOnceModel" "books" "I", Cond.fieldLink RX6 42 "EachBookOnceModel" "book" "[[I", Cond.fieldLink RX6 78 "EachBookOnceModel" "people" "I", Cond.fieldLink RX6 45 "EachBookOnceModel" "one" "[[I", Cond.fieldLink RX6 48 "EachBookOnceModel" "known" "[[I", Cond.fieldLink RX6 285 "EachBookOnceModel" "ended" "I", Cond.fieldLink RX6 355 "EachBookOnceModel" "taken" "I", Cond.fieldLink RX6 51 "EachBookOnceModel" "seed" "I", Cond.fieldLink RX6 362 "EachBookOnceModel" "kept" "LEachBookOnceModel;", Cond.fieldLink RX6 118 "EachBookOnceModel" "tried" "LEachBookOnceModel;", Cond.fieldLink RX6 144 "EachBookOnceModel" "at" "I", Cond.fieldLink RX6 154 "EachBookOnceModel" "token" "I", Cond.fieldLink RX6 147 "EachBookOnceModel" "from" "I", Cond.fieldLink RX6 150 "EachBookOnceModel" "figures" "J", Cond.fieldLink RX6 167 "EachBookOnceModel" "fault" "I", Cond.fieldLink RX6 55 "EachBookOnceModel" "three" "[I"]
noncomputable def wl_29 : List Cond := [Cond.fieldLink RX6 216 "EachBookOnceModel" "statements" "I", Cond.fieldLink RX6 292 "EachBookOnceModel" "lastValue" "I", Cond.fieldLink RX6 312 "EachBookOnceModel" "whoSum" "I", Cond.fieldLink RX6 320 "EachBookOnceModel" "later" "LEachBookOnceModel;", Cond.fieldLink RX6 58 "EachBookOnceModel" "unread" "[I", Cond.fieldLink RX6 61 "EachBookOnceModel" "tryRow" "[I", Cond.fieldLink RX6 64 "EachBookOnceModel" "bestRow" "[I", Cond.fieldLink RX6 67 "EachBookOnceModel" "steps" "[LEachBookOnceModel;", Cond.fieldLink RX6 323 "EachBookOnceModel" "orderMost" "I", Cond.methodLink RL 17 yX6_row, Cond.instanceMethod yX6_row, Cond.selects RX6 yX6_row yX6_row, Cond.code yX6_row cX6_row 5 (some .int)]
set_option maxRecDepth 100000 in
theorem tb_4 : selM ([true, true, true, true, true, true, true, true, true, true, true, true, true, true, true, true, true, true, true, true, true, true, true, true, true, true, true, true, true, true, true, true, true, true, true, true, true, true, true, true, true, true, true, true, true, true, true, true, true, true, true, true, true, true, true, true, true, true, true, true] ++ ([true, true, true, true, true, false, true, true, true, true, false, true, true, true, true, true, true, true, true, true, true, true, true, true, true, true, true, false, true, true, true, true, true, true, true, true, true, true, true, true, true, true, true, true, true, true, true, true, true, true, true, true, true, true, true, true, true, true, true, true] ++ ([true, true, true, true, true, false, true, false, true, false, true, true, true, true, true, true, true, true, true, true, true, true, true, true, true, true, true, true, true, true, true, true, true, true, true, true, true, true, true, true, true, true, true, true, true, false, false, false, false, false, false, false, false, false, false, false, false, false, false, false] ++ ([false, false, false, false, false, false, false, false, false, false, false, false, false, false, false, false, false, false, false, false, false, false, false, false, false, false, false, false, false, false, false, false, false, false, false, false, false, false, false, false, false, false, false, false, false, false, false, false, false, false, false, false, false, false, false, false, true, true, true, true])))) tables_1_4 = wl_23 ++ (wl_24 ++ (wl_25 ++ (wl_26 ++ (wl_27 ++ (wl_28 ++ (wl_29 ++ ([]))))))) := rfl
theorem wc_23 : ∀ w, w ∈ wl_23 → w ∈ BIG := big_w (X := []) (Y := wl_24 ++ (wl_25 ++ (wl_26 ++ (wl_27 ++ (wl_28 ++ (wl_29 ++ ([]))))))) (show _ = [] ++ _ from tb_4) in_tb4 (by decide +kernel)
theorem m_t720 : Cond.instanceMethod yX5_longest ∈ BIG := wc_23 _ (List.mem_of_getElem? (l := wl_23) (i := 0) rfl)
theorem m_t721 : Cond.selects RX5 yX5_longest yX5_longest ∈ BIG := wc_23 _ (List.mem_of_getElem? (l := wl_23) (i := 1) rfl)
theorem m_t722 : Cond.code yX5_longest cX5_longest 6 (some .int) ∈ BIG := wc_23 _ (List.mem_of_getElem? (l := wl_23) (i := 2) rfl)
theorem m_t723 : Cond.methodLink RL 151 yX5_hangs ∈ BIG := wc_23 _ (List.mem_of_getElem? (l := wl_23) (i := 3) rfl)
theorem m_t724 : Cond.instanceMethod yX5_hangs ∈ BIG := wc_23 _ (List.mem_of_getElem? (l := wl_23) (i := 4) rfl)
theorem m_t725 : Cond.selects RX5 yX5_hangs yX5_hangs ∈ BIG := wc_23 _ (List.mem_of_getElem? (l := wl_23) (i := 5) rfl)
theorem m_t726 : Cond.code yX5_hangs cX5_hangs 6 (some .int) ∈ BIG := wc_23 _ (List.mem_of_getElem? (l := wl_23) (i := 6) rfl)
theorem m_t727 : Cond.methodLink RX5 300 yX4_worthAmong ∈ BIG := wc_23 _ (List.mem_of_getElem? (l := wl_23) (i := 7) rfl)
theorem m_t728 : Cond.methodLink RL 155 yX5_lost ∈ BIG := wc_23 _ (List.mem_of_getElem? (l := wl_23) (i := 8) rfl)
theorem m_t729 : Cond.instanceMethod yX5_lost ∈ BIG := wc_23 _ (List.mem_of_getElem? (l := wl_23) (i := 9) rfl)
theorem m_t730 : Cond.selects RX5 yX5_lost yX5_lost ∈ BIG := wc_23 _ (List.mem_of_getElem? (l := wl_23) (i := 10) rfl)
theorem m_t731 : Cond.code yX5_lost cX5_lost 2 (some .int) ∈ BIG := wc_23 _ (List.mem_of_getElem? (l := wl_23) (i := 11) rfl)
theorem m_t732 : Cond.methodLink RX5 303 yX4_booksKnown ∈ BIG := wc_23 _ (List.mem_of_getElem? (l := wl_23) (i := 12) rfl)
theorem m_t733 : Cond.instanceMethod yX4_booksKnown ∈ BIG := wc_23 _ (List.mem_of_getElem? (l := wl_23) (i := 13) rfl)
theorem m_t734 : Cond.selects RX4 yX4_booksKnown yX4_booksKnown ∈ BIG := wc_23 _ (List.mem_of_getElem? (l := wl_23) (i := 14) rfl)
theorem m_t735 : Cond.code yX4_booksKnown cX4_booksKnown 5 (some .int) ∈ BIG := wc_23 _ (List.mem_of_getElem? (l := wl_23) (i := 15) rfl)
theorem m_t736 : Cond.methodLink RL 159 yX5_bear ∈ BIG := wc_23 _ (List.mem_of_getElem? (l := wl_23) (i := 16) rfl)
theorem m_t737 : Cond.instanceMethod yX5_bear ∈ BIG := wc_23 _ (List.mem_of_getElem? (l := wl_23) (i := 17) rfl)
theorem m_t738 : Cond.selects RX5 yX5_bear yX5_bear ∈ BIG := wc_23 _ (List.mem_of_getElem? (l := wl_23) (i := 18) rfl)
theorem m_t739 : Cond.code yX5_bear cX5_bear 7 (some .int) ∈ BIG := wc_23 _ (List.mem_of_getElem? (l := wl_23) (i := 19) rfl)
theorem m_t740 : Cond.methodLink RL 163 yX5_youngest ∈ BIG := wc_23 _ (List.mem_of_getElem? (l := wl_23) (i := 20) rfl)
theorem m_t741 : Cond.instanceMethod yX5_youngest ∈ BIG := wc_23 _ (List.mem_of_getElem? (l := wl_23) (i := 21) rfl)
theorem m_t742 : Cond.selects RX5 yX5_youngest yX5_youngest ∈ BIG := wc_23 _ (List.mem_of_getElem? (l := wl_23) (i := 22) rfl)
theorem m_t743 : Cond.code yX5_youngest cX5_youngest 2 (some .int) ∈ BIG := wc_23 _ (List.mem_of_getElem? (l := wl_23) (i := 23) rfl)
theorem m_t744 : Cond.methodLink RX5 306 yX4_youngestBut ∈ BIG := wc_23 _ (List.mem_of_getElem? (l := wl_23) (i := 24) rfl)
theorem wc_24 : ∀ w, w ∈ wl_24 → w ∈ BIG := big_w (X := wl_23) (Y := wl_25 ++ (wl_26 ++ (wl_27 ++ (wl_28 ++ (wl_29 ++ ([])))))) (by rw [tb_4]) in_tb4 (by decide +kernel)
theorem m_t745 : Cond.methodLink RL 167 yX5_teach ∈ BIG := wc_24 _ (List.mem_of_getElem? (l := wl_24) (i := 0) rfl)
theorem m_t746 : Cond.instanceMethod yX5_teach ∈ BIG := wc_24 _ (List.mem_of_getElem? (l := wl_24) (i := 1) rfl)
theorem m_t747 : Cond.selects RX5 yX5_teach yX5_teach ∈ BIG := wc_24 _ (List.mem_of_getElem? (l := wl_24) (i := 2) rfl)
theorem m_t748 : Cond.code yX5_teach cX5_teach 7 (some .int) ∈ BIG := wc_24 _ (List.mem_of_getElem? (l := wl_24) (i := 3) rfl)
theorem m_t749 : Cond.methodLink RL 171 yX5_needs ∈ BIG := wc_24 _ (List.mem_of_getElem? (l := wl_24) (i := 4) rfl)
theorem m_t750 : Cond.instanceMethod yX5_needs ∈ BIG := wc_24 _ (List.mem_of_getElem? (l := wl_24) (i := 5) rfl)
theorem m_t751 : Cond.selects RX5 yX5_needs yX5_needs ∈ BIG := wc_24 _ (List.mem_of_getElem? (l := wl_24) (i := 6) rfl)
theorem m_t752 : Cond.code yX5_needs cX5_needs 3 (some .int) ∈ BIG := wc_24 _ (List.mem_of_getElem? (l := wl_24) (i := 7) rfl)
theorem m_t753 : Cond.methodLink RX5 309 yX4_allThatNeed ∈ BIG := wc_24 _ (List.mem_of_getElem? (l := wl_24) (i := 8) rfl)
theorem m_t754 : Cond.instanceMethod yX4_allThatNeed ∈ BIG := wc_24 _ (List.mem_of_getElem? (l := wl_24) (i := 9) rfl)
theorem m_t755 : Cond.selects RX4 yX4_allThatNeed yX4_allThatNeed ∈ BIG := wc_24 _ (List.mem_of_getElem? (l := wl_24) (i := 10) rfl)
theorem m_t756 : Cond.code yX4_allThatNeed cX4_allThatNeed 4 (some .int) ∈ BIG := wc_24 _ (List.mem_of_getElem? (l := wl_24) (i := 11) rfl)
theorem m_t757 : Cond.methodLink RX4 108 yX4_allNeededBy ∈ BIG := wc_24 _ (List.mem_of_getElem? (l := wl_24) (i := 12) rfl)
theorem m_t758 : Cond.instanceMethod yX4_allNeededBy ∈ BIG := wc_24 _ (List.mem_of_getElem? (l := wl_24) (i := 13) rfl)
theorem m_t759 : Cond.selects RX4 yX4_allNeededBy yX4_allNeededBy ∈ BIG := wc_24 _ (List.mem_of_getElem? (l := wl_24) (i := 14) rfl)
theorem m_t760 : Cond.code yX4_allNeededBy cX4_allNeededBy 4 (some .int) ∈ BIG := wc_24 _ (List.mem_of_getElem? (l := wl_24) (i := 15) rfl)
theorem m_t761 : Cond.methodLink RX5 312 yX4_allNeededBy ∈ BIG := wc_24 _ (List.mem_of_getElem? (l := wl_24) (i := 16) rfl)
theorem m_t762 : Cond.methodLink RL 176 yX5_next ∈ BIG := wc_24 _ (List.mem_of_getElem? (l := wl_24) (i := 17) rfl)
theorem m_t763 : Cond.instanceMethod yX5_next ∈ BIG := wc_24 _ (List.mem_of_getElem? (l := wl_24) (i := 18) rfl)
theorem m_t764 : Cond.selects RX5 yX5_next yX5_next ∈ BIG := wc_24 _ (List.mem_of_getElem? (l := wl_24) (i := 19) rfl)
theorem m_t765 : Cond.code yX5_next cX5_next 5 (some .int) ∈ BIG := wc_24 _ (List.mem_of_getElem? (l := wl_24) (i := 20) rfl)
theorem m_t766 : Cond.methodLink RX5 315 yX4_gainByReading ∈ BIG := wc_24 _ (List.mem_of_getElem? (l := wl_24) (i := 21) rfl)
theorem m_t767 : Cond.instanceMethod yX4_gainByReading ∈ BIG := wc_24 _ (List.mem_of_getElem? (l := wl_24) (i := 22) rfl)
theorem m_t768 : Cond.selects RX4 yX4_gainByReading yX4_gainByReading ∈ BIG := wc_24 _ (List.mem_of_getElem? (l := wl_24) (i := 23) rfl)
theorem m_t769 : Cond.code yX4_gainByReading cX4_gainByReading 3 (some .int) ∈ BIG := wc_24 _ (List.mem_of_getElem? (l := wl_24) (i := 24) rfl)
theorem wc_25 : ∀ w, w ∈ wl_25 → w ∈ BIG := big_w (X := (wl_23 ++ wl_24)) (Y := wl_26 ++ (wl_27 ++ (wl_28 ++ (wl_29 ++ ([]))))) (by rw [tb_4]; simp only [List.append_assoc]) in_tb4 (by decide +kernel)
theorem m_t770 : Cond.methodLink RX4 105 yX4_bestReader ∈ BIG := wc_25 _ (List.mem_of_getElem? (l := wl_25) (i := 0) rfl)
theorem m_t771 : Cond.methodLink RL 180 yX5_two ∈ BIG := wc_25 _ (List.mem_of_getElem? (l := wl_25) (i := 1) rfl)
theorem m_t772 : Cond.instanceMethod yX5_two ∈ BIG := wc_25 _ (List.mem_of_getElem? (l := wl_25) (i := 2) rfl)
theorem m_t773 : Cond.selects RX5 yX5_two yX5_two ∈ BIG := wc_25 _ (List.mem_of_getElem? (l := wl_25) (i := 3) rfl)
theorem m_t774 : Cond.code yX5_two cX5_two 3 (some .int) ∈ BIG := wc_25 _ (List.mem_of_getElem? (l := wl_25) (i := 4) rfl)
theorem m_t775 : Cond.methodLink RL 184 yX5_gains ∈ BIG := wc_25 _ (List.mem_of_getElem? (l := wl_25) (i := 5) rfl)
theorem m_t776 : Cond.instanceMethod yX5_gains ∈ BIG := wc_25 _ (List.mem_of_getElem? (l := wl_25) (i := 6) rfl)
theorem m_t777 : Cond.selects RX5 yX5_gains yX5_gains ∈ BIG := wc_25 _ (List.mem_of_getElem? (l := wl_25) (i := 7) rfl)
theorem m_t778 : Cond.code yX5_gains cX5_gains 5 (some .int) ∈ BIG := wc_25 _ (List.mem_of_getElem? (l := wl_25) (i := 8) rfl)
theorem m_t779 : Cond.methodLink RX5 318 yX0_sumOfRest ∈ BIG := wc_25 _ (List.mem_of_getElem? (l := wl_25) (i := 9) rfl)
theorem m_t780 : Cond.methodLink RL 188 yX5_judge ∈ BIG := wc_25 _ (List.mem_of_getElem? (l := wl_25) (i := 10) rfl)
theorem m_t781 : Cond.instanceMethod yX5_judge ∈ BIG := wc_25 _ (List.mem_of_getElem? (l := wl_25) (i := 11) rfl)
theorem m_t782 : Cond.selects RX5 yX5_judge yX5_judge ∈ BIG := wc_25 _ (List.mem_of_getElem? (l := wl_25) (i := 12) rfl)
theorem m_t783 : Cond.code yX5_judge cX5_judge 4 (some .int) ∈ BIG := wc_25 _ (List.mem_of_getElem? (l := wl_25) (i := 13) rfl)
theorem m_t784 : Cond.methodLink RX5 321 yX5_toldFit ∈ BIG := wc_25 _ (List.mem_of_getElem? (l := wl_25) (i := 14) rfl)
theorem m_t786 : Cond.instanceMethod yX5_toldFit ∈ BIG := wc_25 _ (List.mem_of_getElem? (l := wl_25) (i := 15) rfl)
theorem m_t787 : Cond.code yX5_toldFit cX5_toldFit 4 (some .int) ∈ BIG := wc_25 _ (List.mem_of_getElem? (l := wl_25) (i := 16) rfl)
theorem m_t788 : Cond.constantLong RX5 327 20 ∈ BIG := wc_25 _ (List.mem_of_getElem? (l := wl_25) (i := 17) rfl)
theorem m_t789 : Cond.methodLink RX5 324 yX5_firstWrong ∈ BIG := wc_25 _ (List.mem_of_getElem? (l := wl_25) (i := 18) rfl)
theorem m_t791 : Cond.instanceMethod yX5_firstWrong ∈ BIG := wc_25 _ (List.mem_of_getElem? (l := wl_25) (i := 19) rfl)
theorem m_t792 : Cond.code yX5_firstWrong cX5_firstWrong 9 (some .int) ∈ BIG := wc_25 _ (List.mem_of_getElem? (l := wl_25) (i := 20) rfl)
theorem m_t793 : Cond.constantLong RX5 367 799 ∈ BIG := wc_25 _ (List.mem_of_getElem? (l := wl_25) (i := 21) rfl)
theorem m_t794 : Cond.methodLink RL 192 yX5_told ∈ BIG := wc_25 _ (List.mem_of_getElem? (l := wl_25) (i := 22) rfl)
theorem m_t795 : Cond.instanceMethod yX5_told ∈ BIG := wc_25 _ (List.mem_of_getElem? (l := wl_25) (i := 23) rfl)
theorem m_t796 : Cond.selects RX5 yX5_told yX5_told ∈ BIG := wc_25 _ (List.mem_of_getElem? (l := wl_25) (i := 24) rfl)
theorem wc_26 : ∀ w, w ∈ wl_26 → w ∈ BIG := big_w (X := ((wl_23 ++ wl_24) ++ wl_25)) (Y := wl_27 ++ (wl_28 ++ (wl_29 ++ ([])))) (by rw [tb_4]; simp only [List.append_assoc]) in_tb4 (by decide +kernel)
theorem m_t797 : Cond.code yX5_told cX5_told 4 (some .int) ∈ BIG := wc_26 _ (List.mem_of_getElem? (l := wl_26) (i := 0) rfl)
theorem m_t798 : Cond.methodLink RL 196 yX5_years ∈ BIG := wc_26 _ (List.mem_of_getElem? (l := wl_26) (i := 1) rfl)
theorem m_t799 : Cond.instanceMethod yX5_years ∈ BIG := wc_26 _ (List.mem_of_getElem? (l := wl_26) (i := 2) rfl)
theorem m_t800 : Cond.selects RX5 yX5_years yX5_years ∈ BIG := wc_26 _ (List.mem_of_getElem? (l := wl_26) (i := 3) rfl)
theorem m_t801 : Cond.code yX5_years cX5_years 6 (some .int) ∈ BIG := wc_26 _ (List.mem_of_getElem? (l := wl_26) (i := 4) rfl)
theorem m_t802 : Cond.methodLink RX5 329 yX4_drawDeaths ∈ BIG := wc_26 _ (List.mem_of_getElem? (l := wl_26) (i := 5) rfl)
theorem m_t803 : Cond.instanceMethod yX4_drawDeaths ∈ BIG := wc_26 _ (List.mem_of_getElem? (l := wl_26) (i := 6) rfl)
theorem m_t804 : Cond.selects RX4 yX4_drawDeaths yX4_drawDeaths ∈ BIG := wc_26 _ (List.mem_of_getElem? (l := wl_26) (i := 7) rfl)
theorem m_t805 : Cond.code yX4_drawDeaths cX4_drawDeaths 2 none ∈ BIG := wc_26 _ (List.mem_of_getElem? (l := wl_26) (i := 8) rfl)
theorem m_t806 : Cond.methodLink RX4 120 yX4_drawBelow20 ∈ BIG := wc_26 _ (List.mem_of_getElem? (l := wl_26) (i := 9) rfl)
theorem m_t808 : Cond.instanceMethod yX4_drawBelow20 ∈ BIG := wc_26 _ (List.mem_of_getElem? (l := wl_26) (i := 10) rfl)
theorem m_t809 : Cond.code yX4_drawBelow20 cX4_drawBelow20 1 (some .int) ∈ BIG := wc_26 _ (List.mem_of_getElem? (l := wl_26) (i := 11) rfl)
theorem m_t810 : Cond.constant RX4 123 1103515245 ∈ BIG := wc_26 _ (List.mem_of_getElem? (l := wl_26) (i := 12) rfl)
theorem m_t811 : Cond.methodLink RX5 332 yX4_endYear ∈ BIG := wc_26 _ (List.mem_of_getElem? (l := wl_26) (i := 13) rfl)
theorem m_t812 : Cond.methodLink RL 200 yX5_ends ∈ BIG := wc_26 _ (List.mem_of_getElem? (l := wl_26) (i := 14) rfl)
theorem m_t813 : Cond.instanceMethod yX5_ends ∈ BIG := wc_26 _ (List.mem_of_getElem? (l := wl_26) (i := 15) rfl)
theorem m_t814 : Cond.selects RX5 yX5_ends yX5_ends ∈ BIG := wc_26 _ (List.mem_of_getElem? (l := wl_26) (i := 16) rfl)
theorem m_t815 : Cond.code yX5_ends cX5_ends 1 (some .int) ∈ BIG := wc_26 _ (List.mem_of_getElem? (l := wl_26) (i := 17) rfl)
theorem m_t816 : Cond.methodLink RL 204 yX5_seed ∈ BIG := wc_26 _ (List.mem_of_getElem? (l := wl_26) (i := 18) rfl)
theorem m_t817 : Cond.instanceMethod yX5_seed ∈ BIG := wc_26 _ (List.mem_of_getElem? (l := wl_26) (i := 19) rfl)
theorem m_t818 : Cond.selects RX5 yX5_seed yX5_seed ∈ BIG := wc_26 _ (List.mem_of_getElem? (l := wl_26) (i := 20) rfl)
theorem m_t819 : Cond.code yX5_seed cX5_seed 3 (some .int) ∈ BIG := wc_26 _ (List.mem_of_getElem? (l := wl_26) (i := 21) rfl)
theorem m_t820 : Cond.methodLink RL 208 yX5_image ∈ BIG := wc_26 _ (List.mem_of_getElem? (l := wl_26) (i := 22) rfl)
theorem m_t821 : Cond.instanceMethod yX5_image ∈ BIG := wc_26 _ (List.mem_of_getElem? (l := wl_26) (i := 23) rfl)
theorem m_t822 : Cond.selects RX5 yX5_image yX5_image ∈ BIG := wc_26 _ (List.mem_of_getElem? (l := wl_26) (i := 24) rfl)
theorem wc_27 : ∀ w, w ∈ wl_27 → w ∈ BIG := big_w (X := (((wl_23 ++ wl_24) ++ wl_25) ++ wl_26)) (Y := wl_28 ++ (wl_29 ++ ([]))) (by rw [tb_4]; simp only [List.append_assoc]) in_tb4 (by decide +kernel)
theorem m_t823 : Cond.code yX5_image cX5_image 1 (some .int) ∈ BIG := wc_27 _ (List.mem_of_getElem? (l := wl_27) (i := 0) rfl)
theorem m_t824 : Cond.methodLink RL 212 yX5_back ∈ BIG := wc_27 _ (List.mem_of_getElem? (l := wl_27) (i := 1) rfl)
theorem m_t825 : Cond.instanceMethod yX5_back ∈ BIG := wc_27 _ (List.mem_of_getElem? (l := wl_27) (i := 2) rfl)
theorem m_t826 : Cond.selects RX5 yX5_back yX5_back ∈ BIG := wc_27 _ (List.mem_of_getElem? (l := wl_27) (i := 3) rfl)
theorem m_t827 : Cond.code yX5_back cX5_back 1 (some .int) ∈ BIG := wc_27 _ (List.mem_of_getElem? (l := wl_27) (i := 4) rfl)
theorem m_t828 : Cond.methodLink RL 216 yX5_status ∈ BIG := wc_27 _ (List.mem_of_getElem? (l := wl_27) (i := 5) rfl)
theorem m_t829 : Cond.instanceMethod yX5_status ∈ BIG := wc_27 _ (List.mem_of_getElem? (l := wl_27) (i := 6) rfl)
theorem m_t830 : Cond.selects RX5 yX5_status yX5_status ∈ BIG := wc_27 _ (List.mem_of_getElem? (l := wl_27) (i := 7) rfl)
theorem m_t831 : Cond.code yX5_status cX5_status 2 (some .int) ∈ BIG := wc_27 _ (List.mem_of_getElem? (l := wl_27) (i := 8) rfl)
theorem m_t832 : Cond.constantLong RX5 348 12 ∈ BIG := wc_27 _ (List.mem_of_getElem? (l := wl_27) (i := 9) rfl)
theorem m_t833 : Cond.constantLong RX5 350 16 ∈ BIG := wc_27 _ (List.mem_of_getElem? (l := wl_27) (i := 10) rfl)
theorem m_t834 : Cond.methodLink RX5 352 yX2_countHolding ∈ BIG := wc_27 _ (List.mem_of_getElem? (l := wl_27) (i := 11) rfl)
theorem m_t835 : Cond.instanceMethod yX2_countHolding ∈ BIG := wc_27 _ (List.mem_of_getElem? (l := wl_27) (i := 12) rfl)
theorem m_t836 : Cond.selects RX2 yX2_countHolding yX2_countHolding ∈ BIG := wc_27 _ (List.mem_of_getElem? (l := wl_27) (i := 13) rfl)
theorem m_t837 : Cond.code yX2_countHolding cX2_countHolding 3 (some .int) ∈ BIG := wc_27 _ (List.mem_of_getElem? (l := wl_27) (i := 14) rfl)
theorem m_t838 : Cond.classLink RL 10 RX6 ∈ BIG := wc_27 _ (List.mem_of_getElem? (l := wl_27) (i := 15) rfl)
theorem m_t839 : Cond.instantiable RX6 35 ∈ BIG := wc_27 _ (List.mem_of_getElem? (l := wl_27) (i := 16) rfl)
theorem m_t840 : Cond.methodLink RL 12 yX6_init ∈ BIG := wc_27 _ (List.mem_of_getElem? (l := wl_27) (i := 17) rfl)
theorem m_t841 : Cond.instanceMethod yX6_init ∈ BIG := wc_27 _ (List.mem_of_getElem? (l := wl_27) (i := 18) rfl)
theorem m_t842 : Cond.code yX6_init cX6_init 1 none ∈ BIG := wc_27 _ (List.mem_of_getElem? (l := wl_27) (i := 19) rfl)
theorem m_t843 : Cond.methodLink RX6 1 objectInit ∈ BIG := wc_27 _ (List.mem_of_getElem? (l := wl_27) (i := 20) rfl)
theorem m_t844 : Cond.classLink RX6 19 "[[J" ∈ BIG := wc_27 _ (List.mem_of_getElem? (l := wl_27) (i := 21) rfl)
theorem m_t846 : Cond.classLink RX6 40 "[[I" ∈ BIG := wc_27 _ (List.mem_of_getElem? (l := wl_27) (i := 22) rfl)
theorem m_t848 : Cond.classLink RX6 8 RX6 ∈ BIG := wc_27 _ (List.mem_of_getElem? (l := wl_27) (i := 23) rfl)
theorem m_t850 : Cond.fieldLink RX6 7 "EachBookOnceModel" "shelf" "[I" ∈ BIG := wc_27 _ (List.mem_of_getElem? (l := wl_27) (i := 24) rfl)
theorem wc_28 : ∀ w, w ∈ wl_28 → w ∈ BIG := big_w (X := ((((wl_23 ++ wl_24) ++ wl_25) ++ wl_26) ++ wl_27)) (Y := wl_29 ++ ([])) (by rw [tb_4]; simp only [List.append_assoc]) in_tb4 (by decide +kernel)
theorem m_t851 : Cond.fieldLink RX6 13 "EachBookOnceModel" "rowSort" "[I" ∈ BIG := wc_28 _ (List.mem_of_getElem? (l := wl_28) (i := 0) rfl)
theorem m_t852 : Cond.fieldLink RX6 16 "EachBookOnceModel" "rowSize" "[I" ∈ BIG := wc_28 _ (List.mem_of_getElem? (l := wl_28) (i := 1) rfl)
theorem m_t853 : Cond.fieldLink RX6 21 "EachBookOnceModel" "rows" "[[J" ∈ BIG := wc_28 _ (List.mem_of_getElem? (l := wl_28) (i := 2) rfl)
theorem m_t854 : Cond.fieldLink RX6 24 "EachBookOnceModel" "moved" "[J" ∈ BIG := wc_28 _ (List.mem_of_getElem? (l := wl_28) (i := 3) rfl)
theorem m_t855 : Cond.fieldLink RX6 28 "EachBookOnceModel" "ruleKind" "[I" ∈ BIG := wc_28 _ (List.mem_of_getElem? (l := wl_28) (i := 4) rfl)
theorem m_t856 : Cond.fieldLink RX6 31 "EachBookOnceModel" "ruleBy" "[I" ∈ BIG := wc_28 _ (List.mem_of_getElem? (l := wl_28) (i := 5) rfl)
theorem m_t857 : Cond.fieldLink RX6 34 "EachBookOnceModel" "tape" "[I" ∈ BIG := wc_28 _ (List.mem_of_getElem? (l := wl_28) (i := 6) rfl)
theorem m_t858 : Cond.fieldLink RX6 141 "EachBookOnceModel" "tapeSize" "I" ∈ BIG := wc_28 _ (List.mem_of_getElem? (l := wl_28) (i := 7) rfl)
theorem m_t859 : Cond.fieldLink RX6 37 "EachBookOnceModel" "refused" "[I" ∈ BIG := wc_28 _ (List.mem_of_getElem? (l := wl_28) (i := 8) rfl)
theorem m_t860 : Cond.fieldLink RX6 71 "EachBookOnceModel" "books" "I" ∈ BIG := wc_28 _ (List.mem_of_getElem? (l := wl_28) (i := 9) rfl)
theorem m_t861 : Cond.fieldLink RX6 42 "EachBookOnceModel" "book" "[[I" ∈ BIG := wc_28 _ (List.mem_of_getElem? (l := wl_28) (i := 10) rfl)
theorem m_t862 : Cond.fieldLink RX6 78 "EachBookOnceModel" "people" "I" ∈ BIG := wc_28 _ (List.mem_of_getElem? (l := wl_28) (i := 11) rfl)
theorem m_t863 : Cond.fieldLink RX6 45 "EachBookOnceModel" "one" "[[I" ∈ BIG := wc_28 _ (List.mem_of_getElem? (l := wl_28) (i := 12) rfl)
theorem m_t864 : Cond.fieldLink RX6 48 "EachBookOnceModel" "known" "[[I" ∈ BIG := wc_28 _ (List.mem_of_getElem? (l := wl_28) (i := 13) rfl)
theorem m_t865 : Cond.fieldLink RX6 285 "EachBookOnceModel" "ended" "I" ∈ BIG := wc_28 _ (List.mem_of_getElem? (l := wl_28) (i := 14) rfl)
theorem m_t866 : Cond.fieldLink RX6 355 "EachBookOnceModel" "taken" "I" ∈ BIG := wc_28 _ (List.mem_of_getElem? (l := wl_28) (i := 15) rfl)
theorem m_t867 : Cond.fieldLink RX6 51 "EachBookOnceModel" "seed" "I" ∈ BIG := wc_28 _ (List.mem_of_getElem? (l := wl_28) (i := 16) rfl)
theorem m_t868 : Cond.fieldLink RX6 362 "EachBookOnceModel" "kept" "LEachBookOnceModel;" ∈ BIG := wc_28 _ (List.mem_of_getElem? (l := wl_28) (i := 17) rfl)
theorem m_t869 : Cond.fieldLink RX6 118 "EachBookOnceModel" "tried" "LEachBookOnceModel;" ∈ BIG := wc_28 _ (List.mem_of_getElem? (l := wl_28) (i := 18) rfl)
theorem m_t870 : Cond.fieldLink RX6 144 "EachBookOnceModel" "at" "I" ∈ BIG := wc_28 _ (List.mem_of_getElem? (l := wl_28) (i := 19) rfl)
theorem m_t871 : Cond.fieldLink RX6 154 "EachBookOnceModel" "token" "I" ∈ BIG := wc_28 _ (List.mem_of_getElem? (l := wl_28) (i := 20) rfl)
theorem m_t872 : Cond.fieldLink RX6 147 "EachBookOnceModel" "from" "I" ∈ BIG := wc_28 _ (List.mem_of_getElem? (l := wl_28) (i := 21) rfl)
theorem m_t873 : Cond.fieldLink RX6 150 "EachBookOnceModel" "figures" "J" ∈ BIG := wc_28 _ (List.mem_of_getElem? (l := wl_28) (i := 22) rfl)
theorem m_t874 : Cond.fieldLink RX6 167 "EachBookOnceModel" "fault" "I" ∈ BIG := wc_28 _ (List.mem_of_getElem? (l := wl_28) (i := 23) rfl)
theorem m_t875 : Cond.fieldLink RX6 55 "EachBookOnceModel" "three" "[I" ∈ BIG := wc_28 _ (List.mem_of_getElem? (l := wl_28) (i := 24) rfl)
theorem wc_29 : ∀ w, w ∈ wl_29 → w ∈ BIG := big_w (X := (((((wl_23 ++ wl_24) ++ wl_25) ++ wl_26) ++ wl_27) ++ wl_28)) (Y := []) (by rw [tb_4]; simp only [List.append_assoc]) in_tb4 (by decide +kernel)
theorem m_t876 : Cond.fieldLink RX6 216 "EachBookOnceModel" "statements" "I" ∈ BIG := wc_29 _ (List.mem_of_getElem? (l := wl_29) (i := 0) rfl)
theorem m_t877 : Cond.fieldLink RX6 292 "EachBookOnceModel" "lastValue" "I" ∈ BIG := wc_29 _ (List.mem_of_getElem? (l := wl_29) (i := 1) rfl)
theorem m_t878 : Cond.fieldLink RX6 312 "EachBookOnceModel" "whoSum" "I" ∈ BIG := wc_29 _ (List.mem_of_getElem? (l := wl_29) (i := 2) rfl)
theorem m_t879 : Cond.fieldLink RX6 320 "EachBookOnceModel" "later" "LEachBookOnceModel;" ∈ BIG := wc_29 _ (List.mem_of_getElem? (l := wl_29) (i := 3) rfl)
theorem m_t880 : Cond.fieldLink RX6 58 "EachBookOnceModel" "unread" "[I" ∈ BIG := wc_29 _ (List.mem_of_getElem? (l := wl_29) (i := 4) rfl)
theorem m_t881 : Cond.fieldLink RX6 61 "EachBookOnceModel" "tryRow" "[I" ∈ BIG := wc_29 _ (List.mem_of_getElem? (l := wl_29) (i := 5) rfl)
theorem m_t882 : Cond.fieldLink RX6 64 "EachBookOnceModel" "bestRow" "[I" ∈ BIG := wc_29 _ (List.mem_of_getElem? (l := wl_29) (i := 6) rfl)
theorem m_t883 : Cond.fieldLink RX6 67 "EachBookOnceModel" "steps" "[LEachBookOnceModel;" ∈ BIG := wc_29 _ (List.mem_of_getElem? (l := wl_29) (i := 7) rfl)
theorem m_t884 : Cond.fieldLink RX6 323 "EachBookOnceModel" "orderMost" "I" ∈ BIG := wc_29 _ (List.mem_of_getElem? (l := wl_29) (i := 8) rfl)
theorem m_t956 : Cond.methodLink RL 17 yX6_row ∈ BIG := wc_29 _ (List.mem_of_getElem? (l := wl_29) (i := 9) rfl)
theorem m_t957 : Cond.instanceMethod yX6_row ∈ BIG := wc_29 _ (List.mem_of_getElem? (l := wl_29) (i := 10) rfl)
theorem m_t958 : Cond.selects RX6 yX6_row yX6_row ∈ BIG := wc_29 _ (List.mem_of_getElem? (l := wl_29) (i := 11) rfl)
theorem m_t959 : Cond.code yX6_row cX6_row 5 (some .int) ∈ BIG := wc_29 _ (List.mem_of_getElem? (l := wl_29) (i := 12) rfl)
noncomputable def wl_30 : List Cond := [Cond.constantLong RX6 85 7, Cond.methodLink RX6 74 yX6_in, Cond.static yX6_in, Cond.code yX6_in cX6_in 6 (some .boolean), Cond.constantLong RX6 87 4, Cond.constantLong RX6 89 40, Cond.methodLink RX6 91 yX6_refuse, Cond.instanceMethod yX6_refuse, Cond.code yX6_refuse cX6_refuse 2 (some .int), Cond.methodLink RL 24 yX6_set, Cond.instanceMethod yX6_set, Cond.selects RX6 yX6_set yX6_set, Cond.code yX6_set cX6_set 6 (some .int), Cond.methodLink RX6 95 yX6_noRow, Cond.instanceMethod yX6_noRow, Cond.code yX6_noRow cX6_noRow 2 (some .int), Cond.methodLink RX6 98 yX6_fit, Cond.static yX6_fit, Cond.code yX6_fit cX6_fit 3 (some .long), Cond.methodLink RL 29 yX6_copy, Cond.instanceMethod yX6_copy, Cond.selects RX6 yX6_copy yX6_copy, Cond.code yX6_copy cX6_copy 7 (some .int), Cond.methodLink RL 34 yX6_element, Cond.instanceMethod yX6_element]
noncomputable def wl_31 : List Cond := [Cond.selects RX6 yX6_element yX6_element, Cond.code yX6_element cX6_element 3 (some .long), Cond.methodLink RL 39 yX6_holds, Cond.instanceMethod yX6_holds, Cond.selects RX6 yX6_holds yX6_holds, Cond.code yX6_holds cX6_holds 2 (some .int), Cond.methodLink RL 43 yX6_rule, Cond.instanceMethod yX6_rule, Cond.selects RX6 yX6_rule yX6_rule, Cond.code yX6_rule cX6_rule 4 (some .int), Cond.constantLong RX6 102 6, Cond.constantLong RX6 104 99, Cond.methodLink RL 48 yX6_says, Cond.instanceMethod yX6_says, Cond.selects RX6 yX6_says yX6_says, Cond.code yX6_says cX6_says 4 (some .int), Cond.methodLink RX6 106 yX6_isUnder, Cond.static yX6_isUnder, Cond.code yX6_isUnder cX6_isUnder 2 (some .boolean), Cond.methodLink RX6 110 yX6_fresh, Cond.instanceMethod yX6_fresh, Cond.code yX6_fresh cX6_fresh 1 (some (.object "EachBookOnceModel")), Cond.methodLink RX6 291 yX6_init, Cond.methodLink RX6 225 yX6_takeFrom, Cond.instanceMethod yX6_takeFrom]
noncomputable def wl_32 : List Cond := [Cond.code yX6_takeFrom cX6_takeFrom 2 none, Cond.methodLink RX6 358 yX6_overAll, Cond.static yX6_overAll, Cond.code yX6_overAll cX6_overAll 4 none, Cond.methodLink RX6 114 yX6_does, Cond.instanceMethod yX6_does, Cond.code yX6_does cX6_does 3 (some .int), Cond.methodLink RX6 278 yX6_readMost, Cond.instanceMethod yX6_readMost, Cond.code yX6_readMost cX6_readMost 6 (some .int), Cond.methodLink RX6 275 yX6_thereMany, Cond.instanceMethod yX6_thereMany, Cond.code yX6_thereMany cX6_thereMany 3 (some .int), Cond.methodLink RX6 81 yX6_isThere, Cond.instanceMethod yX6_isThere, Cond.code yX6_isThere cX6_isThere 2 (some .boolean), Cond.methodLink RX6 248 yX6_isWhite, Cond.instanceMethod yX6_isWhite, Cond.code yX6_isWhite cX6_isWhite 2 (some .boolean), Cond.methodLink RX6 272 yX6_readerOf, Cond.instanceMethod yX6_readerOf, Cond.code yX6_readerOf cX6_readerOf 6 (some .int), Cond.methodLink RX6 254 yX6_wouldKnow, Cond.instanceMethod yX6_wouldKnow, Cond.code yX6_wouldKnow cX6_wouldKnow 4 (some .int)]
noncomputable def wl_33 : List Cond := [Cond.methodLink RX6 244 yX6_byGround, Cond.instanceMethod yX6_byGround, Cond.code yX6_byGround cX6_byGround 4 (some .int), Cond.methodLink RX6 241 yX6_groundOf, Cond.instanceMethod yX6_groundOf, Cond.code yX6_groundOf cX6_groundOf 6 (some .int), Cond.methodLink RX6 260 yX6_readsTo, Cond.instanceMethod yX6_readsTo, Cond.code yX6_readsTo cX6_readsTo 7 (some .int), Cond.methodLink RX6 257 yX6_reads, Cond.instanceMethod yX6_reads, Cond.code yX6_reads cX6_reads 3 none, Cond.methodLink RX6 282 yX6_chain, Cond.instanceMethod yX6_chain, Cond.code yX6_chain cX6_chain 4 none, Cond.methodLink RX6 269 yX6_youngestBut, Cond.instanceMethod yX6_youngestBut, Cond.code yX6_youngestBut cX6_youngestBut 4 (some .int), Cond.methodLink RX6 263 yX6_moreBy, Cond.instanceMethod yX6_moreBy, Cond.code yX6_moreBy cX6_moreBy 5 (some .int), Cond.methodLink RX6 122 yX6_valueNow, Cond.instanceMethod yX6_valueNow, Cond.code yX6_valueNow cX6_valueNow 1 (some .int), Cond.methodLink RX6 266 yX6_valueOf]
noncomputable def wl_34 : List Cond := [Cond.instanceMethod yX6_valueOf, Cond.code yX6_valueOf cX6_valueOf 4 (some .int), Cond.methodLink RX6 233 yX6_greatest, Cond.instanceMethod yX6_greatest, Cond.code yX6_greatest cX6_greatest 5 (some .int), Cond.methodLink RL 52 yX6_book, Cond.instanceMethod yX6_book, Cond.selects RX6 yX6_book yX6_book, Cond.code yX6_book cX6_book 3 (some .int), Cond.methodLink RX6 126 yX6_newBook, Cond.instanceMethod yX6_newBook, Cond.code yX6_newBook cX6_newBook 3 none, Cond.methodLink RL 57 yX6_one, Cond.instanceMethod yX6_one, Cond.selects RX6 yX6_one yX6_one, Cond.code yX6_one cX6_one 6 (some .int), Cond.methodLink RX6 137 yX6_add, Cond.instanceMethod yX6_add, Cond.code yX6_add cX6_add 9 (some .int), Cond.constantLong RX6 130 9, Cond.constantLong RX6 132 10, Cond.methodLink RX6 134 yX6_newOne, Cond.instanceMethod yX6_newOne, Cond.code yX6_newOne cX6_newOne 2 none, Cond.methodLink RL 61 yX6_ones]
noncomputable def wl_35 : List Cond := [Cond.instanceMethod yX6_ones, Cond.selects RX6 yX6_ones yX6_ones, Cond.code yX6_ones cX6_ones 6 (some .int), Cond.methodLink RL 65 yX6_feed, Cond.instanceMethod yX6_feed, Cond.selects RX6 yX6_feed yX6_feed, Cond.code yX6_feed cX6_feed 4 (some .int), Cond.methodLink RL 70 yX6_wipe, Cond.instanceMethod yX6_wipe, Cond.selects RX6 yX6_wipe yX6_wipe, Cond.code yX6_wipe cX6_wipe 2 (some .int), Cond.methodLink RL 74 yX6_town, Cond.instanceMethod yX6_town, Cond.selects RX6 yX6_town yX6_town, Cond.code yX6_town cX6_town 3 (some .int), Cond.methodLink RX6 222 yX6_readAll, Cond.instanceMethod yX6_readAll, Cond.code yX6_readAll cX6_readAll 1 (some .boolean), Cond.methodLink RX6 183 yX6_look, Cond.instanceMethod yX6_look, Cond.code yX6_look cX6_look 1 none, Cond.methodLink RX6 157 yX6_isLetter, Cond.static yX6_isLetter, Cond.code yX6_isLetter cX6_isLetter 1 (some .boolean), Cond.methodLink RX6 160 yX6_isDigit]
noncomputable def wl_36 : List Cond := [Cond.static yX6_isDigit, Cond.code yX6_isDigit cX6_isDigit 1 (some .boolean), Cond.constantLong RX6 163 48, Cond.constantLong RX6 165 100000, Cond.methodLink RX6 219 yX6_statement, Cond.instanceMethod yX6_statement, Cond.code yX6_statement cX6_statement 2 (some .boolean), Cond.methodLink RX6 186 yX6_isWord, Cond.instanceMethod yX6_isWord, Cond.code yX6_isWord cX6_isWord 3 (some .boolean), Cond.methodLink RX6 170 yJ0_length_8abf5, Cond.methodLink RX6 175 yJ0_charAt_5068e, Cond.methodLink RX6 194 yX6_tells, Cond.instanceMethod yX6_tells, Cond.code yX6_tells cX6_tells 6 (some .boolean), Cond.methodLink RX6 179 yX6_wrong, Cond.instanceMethod yX6_wrong, Cond.code yX6_wrong cX6_wrong 1 (some .boolean), Cond.methodLink RX6 190 yX6_number, Cond.instanceMethod yX6_number, Cond.code yX6_number cX6_number 5 (some .boolean), Cond.methodLink RX6 201 yX6_perhaps, Cond.instanceMethod yX6_perhaps, Cond.code yX6_perhaps cX6_perhaps 6 (some .boolean), Cond.methodLink RL 78 yX6_bookOf]
noncomputable def wl_37 : List Cond := [Cond.instanceMethod yX6_bookOf, Cond.selects RX6 yX6_bookOf yX6_bookOf, Cond.code yX6_bookOf cX6_bookOf 3 (some .int), Cond.methodLink RX6 229 yX6_isBook, Cond.instanceMethod yX6_isBook, Cond.code yX6_isBook cX6_isBook 3 (some .boolean), Cond.methodLink RL 82 yX6_oneOf, Cond.instanceMethod yX6_oneOf, Cond.selects RX6 yX6_oneOf yX6_oneOf, Cond.code yX6_oneOf cX6_oneOf 3 (some .int), Cond.methodLink RX6 236 yX6_isOne, Cond.instanceMethod yX6_isOne, Cond.code yX6_isOne cX6_isOne 3 (some .boolean), Cond.methodLink RL 86 yX6_known, Cond.instanceMethod yX6_known, Cond.selects RX6 yX6_known yX6_known, Cond.code yX6_known cX6_known 3 (some .int), Cond.methodLink RL 90 yX6_alter, Cond.instanceMethod yX6_alter, Cond.selects RX6 yX6_alter yX6_alter, Cond.code yX6_alter cX6_alter 5 (some .int), Cond.constantLong RX6 239 1000]
set_option maxRecDepth 100000 in
theorem tb_5 : selM ([true, true, true, true, true, true, true, false, true, true, true, true, true, true, true, false, true, true, true, true, true, true, true, true, true, true, true, true, true, true, true, true, true, true, true, true, true, true, true, true, true, true, true, true, true, true, true, false, true, true, true, true, false, true, true, true, true, true, true, false] ++ ([true, true, true, false, true, true, true, false, true, true, true, false, true, true, true, false, true, true, true, false, true, true, true, false, true, true, true, false, true, true, true, false, true, true, true, false, true, true, true, false, true, true, true, false, true, true, true, false, true, true, true, false, true, true, true, false, true, true, true, false] ++ ([true, true, true, false, true, true, true, true, true, true, true, false, true, true, true, true, true, true, true, false, true, true, true, true, true, false, true, true, true, true, true, true, true, true, true, true, true, true, true, true, true, true, true, true, true, false, true, true, true, false, true, true, true, true, true, true, true, true, true, true] ++ ([true, false, true, true, false, true, false, true, true, true, true, true, false, true, true, true, false, true, true, true, false, true, true, false, true, false, true, true, false, false, false, false, false, false, false, true, true, true, true, true, false, true, true, true, true, true, true, true, false, true, true, true, true, true, true, true, true, true, true, true])))) tables_1_5 = wl_30 ++ (wl_31 ++ (wl_32 ++ (wl_33 ++ (wl_34 ++ (wl_35 ++ (wl_36 ++ (wl_37 ++ ([])))))))) := rfl
theorem wc_30 : ∀ w, w ∈ wl_30 → w ∈ BIG := big_w (X := []) (Y := wl_31 ++ (wl_32 ++ (wl_33 ++ (wl_34 ++ (wl_35 ++ (wl_36 ++ (wl_37 ++ ([])))))))) (show _ = [] ++ _ from tb_5) in_tb5 (by decide +kernel)
theorem m_t960 : Cond.constantLong RX6 85 7 ∈ BIG := wc_30 _ (List.mem_of_getElem? (l := wl_30) (i := 0) rfl)
theorem m_t961 : Cond.methodLink RX6 74 yX6_in ∈ BIG := wc_30 _ (List.mem_of_getElem? (l := wl_30) (i := 1) rfl)
theorem m_t962 : Cond.static yX6_in ∈ BIG := wc_30 _ (List.mem_of_getElem? (l := wl_30) (i := 2) rfl)
theorem m_t963 : Cond.code yX6_in cX6_in 6 (some .boolean) ∈ BIG := wc_30 _ (List.mem_of_getElem? (l := wl_30) (i := 3) rfl)
theorem m_t964 : Cond.constantLong RX6 87 4 ∈ BIG := wc_30 _ (List.mem_of_getElem? (l := wl_30) (i := 4) rfl)
theorem m_t965 : Cond.constantLong RX6 89 40 ∈ BIG := wc_30 _ (List.mem_of_getElem? (l := wl_30) (i := 5) rfl)
theorem m_t966 : Cond.methodLink RX6 91 yX6_refuse ∈ BIG := wc_30 _ (List.mem_of_getElem? (l := wl_30) (i := 6) rfl)
theorem m_t968 : Cond.instanceMethod yX6_refuse ∈ BIG := wc_30 _ (List.mem_of_getElem? (l := wl_30) (i := 7) rfl)
theorem m_t969 : Cond.code yX6_refuse cX6_refuse 2 (some .int) ∈ BIG := wc_30 _ (List.mem_of_getElem? (l := wl_30) (i := 8) rfl)
theorem m_t970 : Cond.methodLink RL 24 yX6_set ∈ BIG := wc_30 _ (List.mem_of_getElem? (l := wl_30) (i := 9) rfl)
theorem m_t971 : Cond.instanceMethod yX6_set ∈ BIG := wc_30 _ (List.mem_of_getElem? (l := wl_30) (i := 10) rfl)
theorem m_t972 : Cond.selects RX6 yX6_set yX6_set ∈ BIG := wc_30 _ (List.mem_of_getElem? (l := wl_30) (i := 11) rfl)
theorem m_t973 : Cond.code yX6_set cX6_set 6 (some .int) ∈ BIG := wc_30 _ (List.mem_of_getElem? (l := wl_30) (i := 12) rfl)
theorem m_t974 : Cond.methodLink RX6 95 yX6_noRow ∈ BIG := wc_30 _ (List.mem_of_getElem? (l := wl_30) (i := 13) rfl)
theorem m_t976 : Cond.instanceMethod yX6_noRow ∈ BIG := wc_30 _ (List.mem_of_getElem? (l := wl_30) (i := 14) rfl)
theorem m_t977 : Cond.code yX6_noRow cX6_noRow 2 (some .int) ∈ BIG := wc_30 _ (List.mem_of_getElem? (l := wl_30) (i := 15) rfl)
theorem m_t978 : Cond.methodLink RX6 98 yX6_fit ∈ BIG := wc_30 _ (List.mem_of_getElem? (l := wl_30) (i := 16) rfl)
theorem m_t979 : Cond.static yX6_fit ∈ BIG := wc_30 _ (List.mem_of_getElem? (l := wl_30) (i := 17) rfl)
theorem m_t980 : Cond.code yX6_fit cX6_fit 3 (some .long) ∈ BIG := wc_30 _ (List.mem_of_getElem? (l := wl_30) (i := 18) rfl)
theorem m_t981 : Cond.methodLink RL 29 yX6_copy ∈ BIG := wc_30 _ (List.mem_of_getElem? (l := wl_30) (i := 19) rfl)
theorem m_t982 : Cond.instanceMethod yX6_copy ∈ BIG := wc_30 _ (List.mem_of_getElem? (l := wl_30) (i := 20) rfl)
theorem m_t983 : Cond.selects RX6 yX6_copy yX6_copy ∈ BIG := wc_30 _ (List.mem_of_getElem? (l := wl_30) (i := 21) rfl)
theorem m_t984 : Cond.code yX6_copy cX6_copy 7 (some .int) ∈ BIG := wc_30 _ (List.mem_of_getElem? (l := wl_30) (i := 22) rfl)
theorem m_t985 : Cond.methodLink RL 34 yX6_element ∈ BIG := wc_30 _ (List.mem_of_getElem? (l := wl_30) (i := 23) rfl)
theorem m_t986 : Cond.instanceMethod yX6_element ∈ BIG := wc_30 _ (List.mem_of_getElem? (l := wl_30) (i := 24) rfl)
theorem wc_31 : ∀ w, w ∈ wl_31 → w ∈ BIG := big_w (X := wl_30) (Y := wl_32 ++ (wl_33 ++ (wl_34 ++ (wl_35 ++ (wl_36 ++ (wl_37 ++ ([]))))))) (by rw [tb_5]) in_tb5 (by decide +kernel)
theorem m_t987 : Cond.selects RX6 yX6_element yX6_element ∈ BIG := wc_31 _ (List.mem_of_getElem? (l := wl_31) (i := 0) rfl)
theorem m_t988 : Cond.code yX6_element cX6_element 3 (some .long) ∈ BIG := wc_31 _ (List.mem_of_getElem? (l := wl_31) (i := 1) rfl)
theorem m_t989 : Cond.methodLink RL 39 yX6_holds ∈ BIG := wc_31 _ (List.mem_of_getElem? (l := wl_31) (i := 2) rfl)
theorem m_t990 : Cond.instanceMethod yX6_holds ∈ BIG := wc_31 _ (List.mem_of_getElem? (l := wl_31) (i := 3) rfl)
theorem m_t991 : Cond.selects RX6 yX6_holds yX6_holds ∈ BIG := wc_31 _ (List.mem_of_getElem? (l := wl_31) (i := 4) rfl)
theorem m_t992 : Cond.code yX6_holds cX6_holds 2 (some .int) ∈ BIG := wc_31 _ (List.mem_of_getElem? (l := wl_31) (i := 5) rfl)
theorem m_t993 : Cond.methodLink RL 43 yX6_rule ∈ BIG := wc_31 _ (List.mem_of_getElem? (l := wl_31) (i := 6) rfl)
theorem m_t994 : Cond.instanceMethod yX6_rule ∈ BIG := wc_31 _ (List.mem_of_getElem? (l := wl_31) (i := 7) rfl)
theorem m_t995 : Cond.selects RX6 yX6_rule yX6_rule ∈ BIG := wc_31 _ (List.mem_of_getElem? (l := wl_31) (i := 8) rfl)
theorem m_t996 : Cond.code yX6_rule cX6_rule 4 (some .int) ∈ BIG := wc_31 _ (List.mem_of_getElem? (l := wl_31) (i := 9) rfl)
theorem m_t997 : Cond.constantLong RX6 102 6 ∈ BIG := wc_31 _ (List.mem_of_getElem? (l := wl_31) (i := 10) rfl)
theorem m_t998 : Cond.constantLong RX6 104 99 ∈ BIG := wc_31 _ (List.mem_of_getElem? (l := wl_31) (i := 11) rfl)
theorem m_t999 : Cond.methodLink RL 48 yX6_says ∈ BIG := wc_31 _ (List.mem_of_getElem? (l := wl_31) (i := 12) rfl)
theorem m_t1000 : Cond.instanceMethod yX6_says ∈ BIG := wc_31 _ (List.mem_of_getElem? (l := wl_31) (i := 13) rfl)
theorem m_t1001 : Cond.selects RX6 yX6_says yX6_says ∈ BIG := wc_31 _ (List.mem_of_getElem? (l := wl_31) (i := 14) rfl)
theorem m_t1002 : Cond.code yX6_says cX6_says 4 (some .int) ∈ BIG := wc_31 _ (List.mem_of_getElem? (l := wl_31) (i := 15) rfl)
theorem m_t1003 : Cond.methodLink RX6 106 yX6_isUnder ∈ BIG := wc_31 _ (List.mem_of_getElem? (l := wl_31) (i := 16) rfl)
theorem m_t1004 : Cond.static yX6_isUnder ∈ BIG := wc_31 _ (List.mem_of_getElem? (l := wl_31) (i := 17) rfl)
theorem m_t1005 : Cond.code yX6_isUnder cX6_isUnder 2 (some .boolean) ∈ BIG := wc_31 _ (List.mem_of_getElem? (l := wl_31) (i := 18) rfl)
theorem m_t1006 : Cond.methodLink RX6 110 yX6_fresh ∈ BIG := wc_31 _ (List.mem_of_getElem? (l := wl_31) (i := 19) rfl)
theorem m_t1008 : Cond.instanceMethod yX6_fresh ∈ BIG := wc_31 _ (List.mem_of_getElem? (l := wl_31) (i := 20) rfl)
theorem m_t1009 : Cond.code yX6_fresh cX6_fresh 1 (some (.object "EachBookOnceModel")) ∈ BIG := wc_31 _ (List.mem_of_getElem? (l := wl_31) (i := 21) rfl)
theorem m_t1010 : Cond.methodLink RX6 291 yX6_init ∈ BIG := wc_31 _ (List.mem_of_getElem? (l := wl_31) (i := 22) rfl)
theorem m_t1011 : Cond.methodLink RX6 225 yX6_takeFrom ∈ BIG := wc_31 _ (List.mem_of_getElem? (l := wl_31) (i := 23) rfl)
theorem m_t1013 : Cond.instanceMethod yX6_takeFrom ∈ BIG := wc_31 _ (List.mem_of_getElem? (l := wl_31) (i := 24) rfl)
theorem wc_32 : ∀ w, w ∈ wl_32 → w ∈ BIG := big_w (X := (wl_30 ++ wl_31)) (Y := wl_33 ++ (wl_34 ++ (wl_35 ++ (wl_36 ++ (wl_37 ++ ([])))))) (by rw [tb_5]; simp only [List.append_assoc]) in_tb5 (by decide +kernel)
theorem m_t1014 : Cond.code yX6_takeFrom cX6_takeFrom 2 none ∈ BIG := wc_32 _ (List.mem_of_getElem? (l := wl_32) (i := 0) rfl)
theorem m_t1015 : Cond.methodLink RX6 358 yX6_overAll ∈ BIG := wc_32 _ (List.mem_of_getElem? (l := wl_32) (i := 1) rfl)
theorem m_t1016 : Cond.static yX6_overAll ∈ BIG := wc_32 _ (List.mem_of_getElem? (l := wl_32) (i := 2) rfl)
theorem m_t1017 : Cond.code yX6_overAll cX6_overAll 4 none ∈ BIG := wc_32 _ (List.mem_of_getElem? (l := wl_32) (i := 3) rfl)
theorem m_t1018 : Cond.methodLink RX6 114 yX6_does ∈ BIG := wc_32 _ (List.mem_of_getElem? (l := wl_32) (i := 4) rfl)
theorem m_t1020 : Cond.instanceMethod yX6_does ∈ BIG := wc_32 _ (List.mem_of_getElem? (l := wl_32) (i := 5) rfl)
theorem m_t1021 : Cond.code yX6_does cX6_does 3 (some .int) ∈ BIG := wc_32 _ (List.mem_of_getElem? (l := wl_32) (i := 6) rfl)
theorem m_t1022 : Cond.methodLink RX6 278 yX6_readMost ∈ BIG := wc_32 _ (List.mem_of_getElem? (l := wl_32) (i := 7) rfl)
theorem m_t1024 : Cond.instanceMethod yX6_readMost ∈ BIG := wc_32 _ (List.mem_of_getElem? (l := wl_32) (i := 8) rfl)
theorem m_t1025 : Cond.code yX6_readMost cX6_readMost 6 (some .int) ∈ BIG := wc_32 _ (List.mem_of_getElem? (l := wl_32) (i := 9) rfl)
theorem m_t1026 : Cond.methodLink RX6 275 yX6_thereMany ∈ BIG := wc_32 _ (List.mem_of_getElem? (l := wl_32) (i := 10) rfl)
theorem m_t1028 : Cond.instanceMethod yX6_thereMany ∈ BIG := wc_32 _ (List.mem_of_getElem? (l := wl_32) (i := 11) rfl)
theorem m_t1029 : Cond.code yX6_thereMany cX6_thereMany 3 (some .int) ∈ BIG := wc_32 _ (List.mem_of_getElem? (l := wl_32) (i := 12) rfl)
theorem m_t1030 : Cond.methodLink RX6 81 yX6_isThere ∈ BIG := wc_32 _ (List.mem_of_getElem? (l := wl_32) (i := 13) rfl)
theorem m_t1032 : Cond.instanceMethod yX6_isThere ∈ BIG := wc_32 _ (List.mem_of_getElem? (l := wl_32) (i := 14) rfl)
theorem m_t1033 : Cond.code yX6_isThere cX6_isThere 2 (some .boolean) ∈ BIG := wc_32 _ (List.mem_of_getElem? (l := wl_32) (i := 15) rfl)
theorem m_t1034 : Cond.methodLink RX6 248 yX6_isWhite ∈ BIG := wc_32 _ (List.mem_of_getElem? (l := wl_32) (i := 16) rfl)
theorem m_t1036 : Cond.instanceMethod yX6_isWhite ∈ BIG := wc_32 _ (List.mem_of_getElem? (l := wl_32) (i := 17) rfl)
theorem m_t1037 : Cond.code yX6_isWhite cX6_isWhite 2 (some .boolean) ∈ BIG := wc_32 _ (List.mem_of_getElem? (l := wl_32) (i := 18) rfl)
theorem m_t1038 : Cond.methodLink RX6 272 yX6_readerOf ∈ BIG := wc_32 _ (List.mem_of_getElem? (l := wl_32) (i := 19) rfl)
theorem m_t1040 : Cond.instanceMethod yX6_readerOf ∈ BIG := wc_32 _ (List.mem_of_getElem? (l := wl_32) (i := 20) rfl)
theorem m_t1041 : Cond.code yX6_readerOf cX6_readerOf 6 (some .int) ∈ BIG := wc_32 _ (List.mem_of_getElem? (l := wl_32) (i := 21) rfl)
theorem m_t1042 : Cond.methodLink RX6 254 yX6_wouldKnow ∈ BIG := wc_32 _ (List.mem_of_getElem? (l := wl_32) (i := 22) rfl)
theorem m_t1044 : Cond.instanceMethod yX6_wouldKnow ∈ BIG := wc_32 _ (List.mem_of_getElem? (l := wl_32) (i := 23) rfl)
theorem m_t1045 : Cond.code yX6_wouldKnow cX6_wouldKnow 4 (some .int) ∈ BIG := wc_32 _ (List.mem_of_getElem? (l := wl_32) (i := 24) rfl)
theorem wc_33 : ∀ w, w ∈ wl_33 → w ∈ BIG := big_w (X := ((wl_30 ++ wl_31) ++ wl_32)) (Y := wl_34 ++ (wl_35 ++ (wl_36 ++ (wl_37 ++ ([]))))) (by rw [tb_5]; simp only [List.append_assoc]) in_tb5 (by decide +kernel)
theorem m_t1046 : Cond.methodLink RX6 244 yX6_byGround ∈ BIG := wc_33 _ (List.mem_of_getElem? (l := wl_33) (i := 0) rfl)
theorem m_t1048 : Cond.instanceMethod yX6_byGround ∈ BIG := wc_33 _ (List.mem_of_getElem? (l := wl_33) (i := 1) rfl)
theorem m_t1049 : Cond.code yX6_byGround cX6_byGround 4 (some .int) ∈ BIG := wc_33 _ (List.mem_of_getElem? (l := wl_33) (i := 2) rfl)
theorem m_t1050 : Cond.methodLink RX6 241 yX6_groundOf ∈ BIG := wc_33 _ (List.mem_of_getElem? (l := wl_33) (i := 3) rfl)
theorem m_t1052 : Cond.instanceMethod yX6_groundOf ∈ BIG := wc_33 _ (List.mem_of_getElem? (l := wl_33) (i := 4) rfl)
theorem m_t1053 : Cond.code yX6_groundOf cX6_groundOf 6 (some .int) ∈ BIG := wc_33 _ (List.mem_of_getElem? (l := wl_33) (i := 5) rfl)
theorem m_t1054 : Cond.methodLink RX6 260 yX6_readsTo ∈ BIG := wc_33 _ (List.mem_of_getElem? (l := wl_33) (i := 6) rfl)
theorem m_t1056 : Cond.instanceMethod yX6_readsTo ∈ BIG := wc_33 _ (List.mem_of_getElem? (l := wl_33) (i := 7) rfl)
theorem m_t1057 : Cond.code yX6_readsTo cX6_readsTo 7 (some .int) ∈ BIG := wc_33 _ (List.mem_of_getElem? (l := wl_33) (i := 8) rfl)
theorem m_t1058 : Cond.methodLink RX6 257 yX6_reads ∈ BIG := wc_33 _ (List.mem_of_getElem? (l := wl_33) (i := 9) rfl)
theorem m_t1060 : Cond.instanceMethod yX6_reads ∈ BIG := wc_33 _ (List.mem_of_getElem? (l := wl_33) (i := 10) rfl)
theorem m_t1061 : Cond.code yX6_reads cX6_reads 3 none ∈ BIG := wc_33 _ (List.mem_of_getElem? (l := wl_33) (i := 11) rfl)
theorem m_t1062 : Cond.methodLink RX6 282 yX6_chain ∈ BIG := wc_33 _ (List.mem_of_getElem? (l := wl_33) (i := 12) rfl)
theorem m_t1064 : Cond.instanceMethod yX6_chain ∈ BIG := wc_33 _ (List.mem_of_getElem? (l := wl_33) (i := 13) rfl)
theorem m_t1065 : Cond.code yX6_chain cX6_chain 4 none ∈ BIG := wc_33 _ (List.mem_of_getElem? (l := wl_33) (i := 14) rfl)
theorem m_t1066 : Cond.methodLink RX6 269 yX6_youngestBut ∈ BIG := wc_33 _ (List.mem_of_getElem? (l := wl_33) (i := 15) rfl)
theorem m_t1068 : Cond.instanceMethod yX6_youngestBut ∈ BIG := wc_33 _ (List.mem_of_getElem? (l := wl_33) (i := 16) rfl)
theorem m_t1069 : Cond.code yX6_youngestBut cX6_youngestBut 4 (some .int) ∈ BIG := wc_33 _ (List.mem_of_getElem? (l := wl_33) (i := 17) rfl)
theorem m_t1070 : Cond.methodLink RX6 263 yX6_moreBy ∈ BIG := wc_33 _ (List.mem_of_getElem? (l := wl_33) (i := 18) rfl)
theorem m_t1072 : Cond.instanceMethod yX6_moreBy ∈ BIG := wc_33 _ (List.mem_of_getElem? (l := wl_33) (i := 19) rfl)
theorem m_t1073 : Cond.code yX6_moreBy cX6_moreBy 5 (some .int) ∈ BIG := wc_33 _ (List.mem_of_getElem? (l := wl_33) (i := 20) rfl)
theorem m_t1074 : Cond.methodLink RX6 122 yX6_valueNow ∈ BIG := wc_33 _ (List.mem_of_getElem? (l := wl_33) (i := 21) rfl)
theorem m_t1076 : Cond.instanceMethod yX6_valueNow ∈ BIG := wc_33 _ (List.mem_of_getElem? (l := wl_33) (i := 22) rfl)
theorem m_t1077 : Cond.code yX6_valueNow cX6_valueNow 1 (some .int) ∈ BIG := wc_33 _ (List.mem_of_getElem? (l := wl_33) (i := 23) rfl)
theorem m_t1078 : Cond.methodLink RX6 266 yX6_valueOf ∈ BIG := wc_33 _ (List.mem_of_getElem? (l := wl_33) (i := 24) rfl)
theorem wc_34 : ∀ w, w ∈ wl_34 → w ∈ BIG := big_w (X := (((wl_30 ++ wl_31) ++ wl_32) ++ wl_33)) (Y := wl_35 ++ (wl_36 ++ (wl_37 ++ ([])))) (by rw [tb_5]; simp only [List.append_assoc]) in_tb5 (by decide +kernel)
theorem m_t1080 : Cond.instanceMethod yX6_valueOf ∈ BIG := wc_34 _ (List.mem_of_getElem? (l := wl_34) (i := 0) rfl)
theorem m_t1081 : Cond.code yX6_valueOf cX6_valueOf 4 (some .int) ∈ BIG := wc_34 _ (List.mem_of_getElem? (l := wl_34) (i := 1) rfl)
theorem m_t1082 : Cond.methodLink RX6 233 yX6_greatest ∈ BIG := wc_34 _ (List.mem_of_getElem? (l := wl_34) (i := 2) rfl)
theorem m_t1084 : Cond.instanceMethod yX6_greatest ∈ BIG := wc_34 _ (List.mem_of_getElem? (l := wl_34) (i := 3) rfl)
theorem m_t1085 : Cond.code yX6_greatest cX6_greatest 5 (some .int) ∈ BIG := wc_34 _ (List.mem_of_getElem? (l := wl_34) (i := 4) rfl)
theorem m_t1086 : Cond.methodLink RL 52 yX6_book ∈ BIG := wc_34 _ (List.mem_of_getElem? (l := wl_34) (i := 5) rfl)
theorem m_t1087 : Cond.instanceMethod yX6_book ∈ BIG := wc_34 _ (List.mem_of_getElem? (l := wl_34) (i := 6) rfl)
theorem m_t1088 : Cond.selects RX6 yX6_book yX6_book ∈ BIG := wc_34 _ (List.mem_of_getElem? (l := wl_34) (i := 7) rfl)
theorem m_t1089 : Cond.code yX6_book cX6_book 3 (some .int) ∈ BIG := wc_34 _ (List.mem_of_getElem? (l := wl_34) (i := 8) rfl)
theorem m_t1090 : Cond.methodLink RX6 126 yX6_newBook ∈ BIG := wc_34 _ (List.mem_of_getElem? (l := wl_34) (i := 9) rfl)
theorem m_t1092 : Cond.instanceMethod yX6_newBook ∈ BIG := wc_34 _ (List.mem_of_getElem? (l := wl_34) (i := 10) rfl)
theorem m_t1093 : Cond.code yX6_newBook cX6_newBook 3 none ∈ BIG := wc_34 _ (List.mem_of_getElem? (l := wl_34) (i := 11) rfl)
theorem m_t1094 : Cond.methodLink RL 57 yX6_one ∈ BIG := wc_34 _ (List.mem_of_getElem? (l := wl_34) (i := 12) rfl)
theorem m_t1095 : Cond.instanceMethod yX6_one ∈ BIG := wc_34 _ (List.mem_of_getElem? (l := wl_34) (i := 13) rfl)
theorem m_t1096 : Cond.selects RX6 yX6_one yX6_one ∈ BIG := wc_34 _ (List.mem_of_getElem? (l := wl_34) (i := 14) rfl)
theorem m_t1097 : Cond.code yX6_one cX6_one 6 (some .int) ∈ BIG := wc_34 _ (List.mem_of_getElem? (l := wl_34) (i := 15) rfl)
theorem m_t1098 : Cond.methodLink RX6 137 yX6_add ∈ BIG := wc_34 _ (List.mem_of_getElem? (l := wl_34) (i := 16) rfl)
theorem m_t1100 : Cond.instanceMethod yX6_add ∈ BIG := wc_34 _ (List.mem_of_getElem? (l := wl_34) (i := 17) rfl)
theorem m_t1101 : Cond.code yX6_add cX6_add 9 (some .int) ∈ BIG := wc_34 _ (List.mem_of_getElem? (l := wl_34) (i := 18) rfl)
theorem m_t1102 : Cond.constantLong RX6 130 9 ∈ BIG := wc_34 _ (List.mem_of_getElem? (l := wl_34) (i := 19) rfl)
theorem m_t1103 : Cond.constantLong RX6 132 10 ∈ BIG := wc_34 _ (List.mem_of_getElem? (l := wl_34) (i := 20) rfl)
theorem m_t1104 : Cond.methodLink RX6 134 yX6_newOne ∈ BIG := wc_34 _ (List.mem_of_getElem? (l := wl_34) (i := 21) rfl)
theorem m_t1106 : Cond.instanceMethod yX6_newOne ∈ BIG := wc_34 _ (List.mem_of_getElem? (l := wl_34) (i := 22) rfl)
theorem m_t1107 : Cond.code yX6_newOne cX6_newOne 2 none ∈ BIG := wc_34 _ (List.mem_of_getElem? (l := wl_34) (i := 23) rfl)
theorem m_t1108 : Cond.methodLink RL 61 yX6_ones ∈ BIG := wc_34 _ (List.mem_of_getElem? (l := wl_34) (i := 24) rfl)
theorem wc_35 : ∀ w, w ∈ wl_35 → w ∈ BIG := big_w (X := ((((wl_30 ++ wl_31) ++ wl_32) ++ wl_33) ++ wl_34)) (Y := wl_36 ++ (wl_37 ++ ([]))) (by rw [tb_5]; simp only [List.append_assoc]) in_tb5 (by decide +kernel)
theorem m_t1109 : Cond.instanceMethod yX6_ones ∈ BIG := wc_35 _ (List.mem_of_getElem? (l := wl_35) (i := 0) rfl)
theorem m_t1110 : Cond.selects RX6 yX6_ones yX6_ones ∈ BIG := wc_35 _ (List.mem_of_getElem? (l := wl_35) (i := 1) rfl)
theorem m_t1111 : Cond.code yX6_ones cX6_ones 6 (some .int) ∈ BIG := wc_35 _ (List.mem_of_getElem? (l := wl_35) (i := 2) rfl)
theorem m_t1112 : Cond.methodLink RL 65 yX6_feed ∈ BIG := wc_35 _ (List.mem_of_getElem? (l := wl_35) (i := 3) rfl)
theorem m_t1113 : Cond.instanceMethod yX6_feed ∈ BIG := wc_35 _ (List.mem_of_getElem? (l := wl_35) (i := 4) rfl)
theorem m_t1114 : Cond.selects RX6 yX6_feed yX6_feed ∈ BIG := wc_35 _ (List.mem_of_getElem? (l := wl_35) (i := 5) rfl)
theorem m_t1115 : Cond.code yX6_feed cX6_feed 4 (some .int) ∈ BIG := wc_35 _ (List.mem_of_getElem? (l := wl_35) (i := 6) rfl)
theorem m_t1116 : Cond.methodLink RL 70 yX6_wipe ∈ BIG := wc_35 _ (List.mem_of_getElem? (l := wl_35) (i := 7) rfl)
theorem m_t1117 : Cond.instanceMethod yX6_wipe ∈ BIG := wc_35 _ (List.mem_of_getElem? (l := wl_35) (i := 8) rfl)
theorem m_t1118 : Cond.selects RX6 yX6_wipe yX6_wipe ∈ BIG := wc_35 _ (List.mem_of_getElem? (l := wl_35) (i := 9) rfl)
theorem m_t1119 : Cond.code yX6_wipe cX6_wipe 2 (some .int) ∈ BIG := wc_35 _ (List.mem_of_getElem? (l := wl_35) (i := 10) rfl)
theorem m_t1120 : Cond.methodLink RL 74 yX6_town ∈ BIG := wc_35 _ (List.mem_of_getElem? (l := wl_35) (i := 11) rfl)
theorem m_t1121 : Cond.instanceMethod yX6_town ∈ BIG := wc_35 _ (List.mem_of_getElem? (l := wl_35) (i := 12) rfl)
theorem m_t1122 : Cond.selects RX6 yX6_town yX6_town ∈ BIG := wc_35 _ (List.mem_of_getElem? (l := wl_35) (i := 13) rfl)
theorem m_t1123 : Cond.code yX6_town cX6_town 3 (some .int) ∈ BIG := wc_35 _ (List.mem_of_getElem? (l := wl_35) (i := 14) rfl)
theorem m_t1124 : Cond.methodLink RX6 222 yX6_readAll ∈ BIG := wc_35 _ (List.mem_of_getElem? (l := wl_35) (i := 15) rfl)
theorem m_t1126 : Cond.instanceMethod yX6_readAll ∈ BIG := wc_35 _ (List.mem_of_getElem? (l := wl_35) (i := 16) rfl)
theorem m_t1127 : Cond.code yX6_readAll cX6_readAll 1 (some .boolean) ∈ BIG := wc_35 _ (List.mem_of_getElem? (l := wl_35) (i := 17) rfl)
theorem m_t1128 : Cond.methodLink RX6 183 yX6_look ∈ BIG := wc_35 _ (List.mem_of_getElem? (l := wl_35) (i := 18) rfl)
theorem m_t1130 : Cond.instanceMethod yX6_look ∈ BIG := wc_35 _ (List.mem_of_getElem? (l := wl_35) (i := 19) rfl)
theorem m_t1131 : Cond.code yX6_look cX6_look 1 none ∈ BIG := wc_35 _ (List.mem_of_getElem? (l := wl_35) (i := 20) rfl)
theorem m_t1132 : Cond.methodLink RX6 157 yX6_isLetter ∈ BIG := wc_35 _ (List.mem_of_getElem? (l := wl_35) (i := 21) rfl)
theorem m_t1133 : Cond.static yX6_isLetter ∈ BIG := wc_35 _ (List.mem_of_getElem? (l := wl_35) (i := 22) rfl)
theorem m_t1134 : Cond.code yX6_isLetter cX6_isLetter 1 (some .boolean) ∈ BIG := wc_35 _ (List.mem_of_getElem? (l := wl_35) (i := 23) rfl)
theorem m_t1135 : Cond.methodLink RX6 160 yX6_isDigit ∈ BIG := wc_35 _ (List.mem_of_getElem? (l := wl_35) (i := 24) rfl)
theorem wc_36 : ∀ w, w ∈ wl_36 → w ∈ BIG := big_w (X := (((((wl_30 ++ wl_31) ++ wl_32) ++ wl_33) ++ wl_34) ++ wl_35)) (Y := wl_37 ++ ([])) (by rw [tb_5]; simp only [List.append_assoc]) in_tb5 (by decide +kernel)
theorem m_t1136 : Cond.static yX6_isDigit ∈ BIG := wc_36 _ (List.mem_of_getElem? (l := wl_36) (i := 0) rfl)
theorem m_t1137 : Cond.code yX6_isDigit cX6_isDigit 1 (some .boolean) ∈ BIG := wc_36 _ (List.mem_of_getElem? (l := wl_36) (i := 1) rfl)
theorem m_t1138 : Cond.constantLong RX6 163 48 ∈ BIG := wc_36 _ (List.mem_of_getElem? (l := wl_36) (i := 2) rfl)
theorem m_t1139 : Cond.constantLong RX6 165 100000 ∈ BIG := wc_36 _ (List.mem_of_getElem? (l := wl_36) (i := 3) rfl)
theorem m_t1140 : Cond.methodLink RX6 219 yX6_statement ∈ BIG := wc_36 _ (List.mem_of_getElem? (l := wl_36) (i := 4) rfl)
theorem m_t1142 : Cond.instanceMethod yX6_statement ∈ BIG := wc_36 _ (List.mem_of_getElem? (l := wl_36) (i := 5) rfl)
theorem m_t1143 : Cond.code yX6_statement cX6_statement 2 (some .boolean) ∈ BIG := wc_36 _ (List.mem_of_getElem? (l := wl_36) (i := 6) rfl)
theorem m_t1145 : Cond.methodLink RX6 186 yX6_isWord ∈ BIG := wc_36 _ (List.mem_of_getElem? (l := wl_36) (i := 7) rfl)
theorem m_t1147 : Cond.instanceMethod yX6_isWord ∈ BIG := wc_36 _ (List.mem_of_getElem? (l := wl_36) (i := 8) rfl)
theorem m_t1148 : Cond.code yX6_isWord cX6_isWord 3 (some .boolean) ∈ BIG := wc_36 _ (List.mem_of_getElem? (l := wl_36) (i := 9) rfl)
theorem m_t1149 : Cond.methodLink RX6 170 yJ0_length_8abf5 ∈ BIG := wc_36 _ (List.mem_of_getElem? (l := wl_36) (i := 10) rfl)
theorem m_t1150 : Cond.methodLink RX6 175 yJ0_charAt_5068e ∈ BIG := wc_36 _ (List.mem_of_getElem? (l := wl_36) (i := 11) rfl)
theorem m_t1151 : Cond.methodLink RX6 194 yX6_tells ∈ BIG := wc_36 _ (List.mem_of_getElem? (l := wl_36) (i := 12) rfl)
theorem m_t1153 : Cond.instanceMethod yX6_tells ∈ BIG := wc_36 _ (List.mem_of_getElem? (l := wl_36) (i := 13) rfl)
theorem m_t1154 : Cond.code yX6_tells cX6_tells 6 (some .boolean) ∈ BIG := wc_36 _ (List.mem_of_getElem? (l := wl_36) (i := 14) rfl)
theorem m_t1155 : Cond.methodLink RX6 179 yX6_wrong ∈ BIG := wc_36 _ (List.mem_of_getElem? (l := wl_36) (i := 15) rfl)
theorem m_t1157 : Cond.instanceMethod yX6_wrong ∈ BIG := wc_36 _ (List.mem_of_getElem? (l := wl_36) (i := 16) rfl)
theorem m_t1158 : Cond.code yX6_wrong cX6_wrong 1 (some .boolean) ∈ BIG := wc_36 _ (List.mem_of_getElem? (l := wl_36) (i := 17) rfl)
theorem m_t1159 : Cond.methodLink RX6 190 yX6_number ∈ BIG := wc_36 _ (List.mem_of_getElem? (l := wl_36) (i := 18) rfl)
theorem m_t1161 : Cond.instanceMethod yX6_number ∈ BIG := wc_36 _ (List.mem_of_getElem? (l := wl_36) (i := 19) rfl)
theorem m_t1162 : Cond.code yX6_number cX6_number 5 (some .boolean) ∈ BIG := wc_36 _ (List.mem_of_getElem? (l := wl_36) (i := 20) rfl)
theorem m_t1164 : Cond.methodLink RX6 201 yX6_perhaps ∈ BIG := wc_36 _ (List.mem_of_getElem? (l := wl_36) (i := 21) rfl)
theorem m_t1166 : Cond.instanceMethod yX6_perhaps ∈ BIG := wc_36 _ (List.mem_of_getElem? (l := wl_36) (i := 22) rfl)
theorem m_t1167 : Cond.code yX6_perhaps cX6_perhaps 6 (some .boolean) ∈ BIG := wc_36 _ (List.mem_of_getElem? (l := wl_36) (i := 23) rfl)
theorem m_t1175 : Cond.methodLink RL 78 yX6_bookOf ∈ BIG := wc_36 _ (List.mem_of_getElem? (l := wl_36) (i := 24) rfl)
theorem wc_37 : ∀ w, w ∈ wl_37 → w ∈ BIG := big_w (X := ((((((wl_30 ++ wl_31) ++ wl_32) ++ wl_33) ++ wl_34) ++ wl_35) ++ wl_36)) (Y := []) (by rw [tb_5]; simp only [List.append_assoc]) in_tb5 (by decide +kernel)
theorem m_t1176 : Cond.instanceMethod yX6_bookOf ∈ BIG := wc_37 _ (List.mem_of_getElem? (l := wl_37) (i := 0) rfl)
theorem m_t1177 : Cond.selects RX6 yX6_bookOf yX6_bookOf ∈ BIG := wc_37 _ (List.mem_of_getElem? (l := wl_37) (i := 1) rfl)
theorem m_t1178 : Cond.code yX6_bookOf cX6_bookOf 3 (some .int) ∈ BIG := wc_37 _ (List.mem_of_getElem? (l := wl_37) (i := 2) rfl)
theorem m_t1179 : Cond.methodLink RX6 229 yX6_isBook ∈ BIG := wc_37 _ (List.mem_of_getElem? (l := wl_37) (i := 3) rfl)
theorem m_t1181 : Cond.instanceMethod yX6_isBook ∈ BIG := wc_37 _ (List.mem_of_getElem? (l := wl_37) (i := 4) rfl)
theorem m_t1182 : Cond.code yX6_isBook cX6_isBook 3 (some .boolean) ∈ BIG := wc_37 _ (List.mem_of_getElem? (l := wl_37) (i := 5) rfl)
theorem m_t1183 : Cond.methodLink RL 82 yX6_oneOf ∈ BIG := wc_37 _ (List.mem_of_getElem? (l := wl_37) (i := 6) rfl)
theorem m_t1184 : Cond.instanceMethod yX6_oneOf ∈ BIG := wc_37 _ (List.mem_of_getElem? (l := wl_37) (i := 7) rfl)
theorem m_t1185 : Cond.selects RX6 yX6_oneOf yX6_oneOf ∈ BIG := wc_37 _ (List.mem_of_getElem? (l := wl_37) (i := 8) rfl)
theorem m_t1186 : Cond.code yX6_oneOf cX6_oneOf 3 (some .int) ∈ BIG := wc_37 _ (List.mem_of_getElem? (l := wl_37) (i := 9) rfl)
theorem m_t1187 : Cond.methodLink RX6 236 yX6_isOne ∈ BIG := wc_37 _ (List.mem_of_getElem? (l := wl_37) (i := 10) rfl)
theorem m_t1189 : Cond.instanceMethod yX6_isOne ∈ BIG := wc_37 _ (List.mem_of_getElem? (l := wl_37) (i := 11) rfl)
theorem m_t1190 : Cond.code yX6_isOne cX6_isOne 3 (some .boolean) ∈ BIG := wc_37 _ (List.mem_of_getElem? (l := wl_37) (i := 12) rfl)
theorem m_t1191 : Cond.methodLink RL 86 yX6_known ∈ BIG := wc_37 _ (List.mem_of_getElem? (l := wl_37) (i := 13) rfl)
theorem m_t1192 : Cond.instanceMethod yX6_known ∈ BIG := wc_37 _ (List.mem_of_getElem? (l := wl_37) (i := 14) rfl)
theorem m_t1193 : Cond.selects RX6 yX6_known yX6_known ∈ BIG := wc_37 _ (List.mem_of_getElem? (l := wl_37) (i := 15) rfl)
theorem m_t1194 : Cond.code yX6_known cX6_known 3 (some .int) ∈ BIG := wc_37 _ (List.mem_of_getElem? (l := wl_37) (i := 16) rfl)
theorem m_t1195 : Cond.methodLink RL 90 yX6_alter ∈ BIG := wc_37 _ (List.mem_of_getElem? (l := wl_37) (i := 17) rfl)
theorem m_t1196 : Cond.instanceMethod yX6_alter ∈ BIG := wc_37 _ (List.mem_of_getElem? (l := wl_37) (i := 18) rfl)
theorem m_t1197 : Cond.selects RX6 yX6_alter yX6_alter ∈ BIG := wc_37 _ (List.mem_of_getElem? (l := wl_37) (i := 19) rfl)
theorem m_t1198 : Cond.code yX6_alter cX6_alter 5 (some .int) ∈ BIG := wc_37 _ (List.mem_of_getElem? (l := wl_37) (i := 20) rfl)
theorem m_t1199 : Cond.constantLong RX6 239 1000 ∈ BIG := wc_37 _ (List.mem_of_getElem? (l := wl_37) (i := 21) rfl)
noncomputable def wl_38 : List Cond := [Cond.methodLink RL 175 yX6_needs, Cond.instanceMethod yX6_needs, Cond.selects RX6 yX6_needs yX6_needs, Cond.code yX6_needs cX6_needs 5 (some .int), Cond.methodLink RL 94 yX6_ground, Cond.instanceMethod yX6_ground, Cond.selects RX6 yX6_ground yX6_ground, Cond.code yX6_ground cX6_ground 3 (some .int), Cond.methodLink RL 98 yX6_would, Cond.instanceMethod yX6_would, Cond.selects RX6 yX6_would yX6_would, Cond.code yX6_would cX6_would 4 (some .int), Cond.methodLink RX6 251 yX6_noReading, Cond.instanceMethod yX6_noReading, Cond.code yX6_noReading cX6_noReading 3 (some .int), Cond.methodLink RL 102 yX6_read, Cond.instanceMethod yX6_read, Cond.selects RX6 yX6_read yX6_read, Cond.code yX6_read cX6_read 4 (some .int), Cond.methodLink RL 106 yX6_aloud, Cond.instanceMethod yX6_aloud, Cond.selects RX6 yX6_aloud yX6_aloud, Cond.code yX6_aloud cX6_aloud 5 (some .int), Cond.methodLink RL 110 yX6_tell, Cond.instanceMethod yX6_tell]
noncomputable def wl_39 : List Cond := [Cond.selects RX6 yX6_tell yX6_tell, Cond.code yX6_tell cX6_tell 5 (some .int), Cond.methodLink RL 170 yX6_teach, Cond.instanceMethod yX6_teach, Cond.selects RX6 yX6_teach yX6_teach, Cond.code yX6_teach cX6_teach 7 (some .int), Cond.methodLink RL 114 yX6_write, Cond.instanceMethod yX6_write, Cond.selects RX6 yX6_write yX6_write, Cond.code yX6_write cX6_write 3 (some .int), Cond.methodLink RL 118 yX6_value, Cond.instanceMethod yX6_value, Cond.selects RX6 yX6_value yX6_value, Cond.code yX6_value cX6_value 1 (some .int), Cond.methodLink RL 183 yX6_two, Cond.instanceMethod yX6_two, Cond.selects RX6 yX6_two yX6_two, Cond.code yX6_two cX6_two 3 (some .int), Cond.methodLink RL 166 yX6_youngest, Cond.instanceMethod yX6_youngest, Cond.selects RX6 yX6_youngest yX6_youngest, Cond.code yX6_youngest cX6_youngest 2 (some .int), Cond.methodLink RL 122 yX6_reader, Cond.instanceMethod yX6_reader, Cond.selects RX6 yX6_reader yX6_reader]
noncomputable def wl_40 : List Cond := [Cond.code yX6_reader cX6_reader 2 (some .int), Cond.methodLink RL 179 yX6_next, Cond.instanceMethod yX6_next, Cond.selects RX6 yX6_next yX6_next, Cond.code yX6_next cX6_next 6 (some .int), Cond.methodLink RL 203 yX6_ends, Cond.instanceMethod yX6_ends, Cond.selects RX6 yX6_ends yX6_ends, Cond.code yX6_ends cX6_ends 1 (some .int), Cond.methodLink RX6 288 yX6_end, Cond.instanceMethod yX6_end, Cond.code yX6_end cX6_end 5 (some .int), Cond.methodLink RL 126 yX6_run, Cond.instanceMethod yX6_run, Cond.selects RX6 yX6_run yX6_run, Cond.code yX6_run cX6_run 6 (some .int), Cond.constantLong RX6 298 60, Cond.constantLong RX6 300 3, Cond.methodLink RX6 302 yX6_noRule, Cond.instanceMethod yX6_noRule, Cond.code yX6_noRule cX6_noRule 2 (some .int), Cond.methodLink RX6 305 yX6_sumOf, Cond.instanceMethod yX6_sumOf, Cond.code yX6_sumOf cX6_sumOf 3 (some .int), Cond.methodLink RX6 295 yX6_goes]
noncomputable def wl_41 : List Cond := [Cond.instanceMethod yX6_goes, Cond.code yX6_goes cX6_goes 6 (some .int), Cond.methodLink RX6 308 yX6_whiteMany, Cond.instanceMethod yX6_whiteMany, Cond.code yX6_whiteMany cX6_whiteMany 3 (some .int), Cond.methodLink RL 187 yX6_gains, Cond.instanceMethod yX6_gains, Cond.selects RX6 yX6_gains yX6_gains, Cond.code yX6_gains cX6_gains 4 (some .int), Cond.constant RX6 311 1000000, Cond.methodLink RL 130 yX6_head, Cond.instanceMethod yX6_head, Cond.selects RX6 yX6_head yX6_head, Cond.code yX6_head cX6_head 6 (some .int), Cond.methodLink RL 134 yX6_who, Cond.instanceMethod yX6_who, Cond.selects RX6 yX6_who yX6_who, Cond.code yX6_who cX6_who 4 (some .int), Cond.methodLink RX6 315 yX6_findWho, Cond.instanceMethod yX6_findWho, Cond.code yX6_findWho cX6_findWho 6 (some .int), Cond.methodLink RL 142 yX6_keeping, Cond.instanceMethod yX6_keeping, Cond.selects RX6 yX6_keeping yX6_keeping, Cond.code yX6_keeping cX6_keeping 4 (some .int)]
noncomputable def wl_42 : List Cond := [Cond.constantLong RX6 318 2, Cond.methodLink RL 138 yX6_order, Cond.instanceMethod yX6_order, Cond.selects RX6 yX6_order yX6_order, Cond.code yX6_order cX6_order 5 (some .int), Cond.constantLong RX6 330 (-1), Cond.methodLink RX6 326 yX6_rowsFrom, Cond.instanceMethod yX6_rowsFrom, Cond.code yX6_rowsFrom cX6_rowsFrom 8 none, Cond.methodLink RL 146 yX6_left, Cond.instanceMethod yX6_left, Cond.selects RX6 yX6_left yX6_left, Cond.code yX6_left cX6_left 4 (some .int), Cond.methodLink RX6 332 yX6_leftOf, Cond.static yX6_leftOf, Cond.code yX6_leftOf cX6_leftOf 5 (some .int), Cond.methodLink RL 150 yX6_longest, Cond.instanceMethod yX6_longest, Cond.selects RX6 yX6_longest yX6_longest, Cond.code yX6_longest cX6_longest 5 (some .int), Cond.methodLink RL 154 yX6_hangs, Cond.instanceMethod yX6_hangs, Cond.selects RX6 yX6_hangs yX6_hangs, Cond.code yX6_hangs cX6_hangs 6 (some .int), Cond.methodLink RL 158 yX6_lost]
noncomputable def wl_43 : List Cond := [Cond.instanceMethod yX6_lost, Cond.selects RX6 yX6_lost yX6_lost, Cond.code yX6_lost cX6_lost 2 (some .int), Cond.methodLink RX6 335 yX6_lostBy, Cond.instanceMethod yX6_lostBy, Cond.code yX6_lostBy cX6_lostBy 5 (some .int), Cond.methodLink RL 162 yX6_bear, Cond.instanceMethod yX6_bear, Cond.selects RX6 yX6_bear yX6_bear, Cond.code yX6_bear cX6_bear 5 (some .int), Cond.methodLink RX6 338 yX6_bits, Cond.static yX6_bits, Cond.code yX6_bits cX6_bits 3 (some .int), Cond.methodLink RL 191 yX6_judge, Cond.instanceMethod yX6_judge, Cond.selects RX6 yX6_judge yX6_judge, Cond.code yX6_judge cX6_judge 4 (some .int), Cond.methodLink RX6 345 yX6_noTold, Cond.instanceMethod yX6_noTold, Cond.code yX6_noTold cX6_noTold 4 (some .int), Cond.constantLong RX6 341 20, Cond.methodLink RX6 348 yX6_wrongAt, Cond.instanceMethod yX6_wrongAt, Cond.code yX6_wrongAt cX6_wrongAt 9 (some .int), Cond.constantLong RX6 343 100]
noncomputable def wl_44 : List Cond := [Cond.methodLink RL 195 yX6_told, Cond.instanceMethod yX6_told, Cond.selects RX6 yX6_told yX6_told, Cond.code yX6_told cX6_told 4 (some .int), Cond.methodLink RL 199 yX6_years, Cond.instanceMethod yX6_years, Cond.selects RX6 yX6_years yX6_years, Cond.code yX6_years cX6_years 7 (some .int), Cond.methodLink RX6 352 yX6_draw, Cond.instanceMethod yX6_draw, Cond.code yX6_draw cX6_draw 2 (some .int), Cond.constant RX6 351 1103515245, Cond.methodLink RL 207 yX6_seed, Cond.instanceMethod yX6_seed, Cond.selects RX6 yX6_seed yX6_seed, Cond.code yX6_seed cX6_seed 3 (some .int), Cond.methodLink RL 211 yX6_image, Cond.instanceMethod yX6_image, Cond.selects RX6 yX6_image yX6_image, Cond.code yX6_image cX6_image 1 (some .int), Cond.methodLink RL 215 yX6_back, Cond.instanceMethod yX6_back, Cond.selects RX6 yX6_back yX6_back, Cond.code yX6_back cX6_back 1 (some .int), Cond.methodLink RL 219 yX6_status]
noncomputable def wl_45 : List Cond := [Cond.instanceMethod yX6_status, Cond.selects RX6 yX6_status yX6_status, Cond.code yX6_status cX6_status 4 (some .int), Cond.constantLong RX6 365 12, Cond.constantLong RX6 367 16, Cond.constantLong RL 18 4294967295, Cond.fieldLink RJ0 9 "java/lang/String" "value" "[B", Cond.fieldLink RJ0 15 "java/lang/String" "coder" "B"]
set_option maxRecDepth 100000 in
theorem tb_6 : selM ([true, true, true, true, true, true, true, true, true, true, true, true, true, false, true, true, true, true, true, true, true, true, true, true, true, true, true, true, true, true, true, true, true, true, true, true, true, true, true, true, true, true, true, true, true, true, true, true, true, true, true, true, true, true, true, true, true, true, true, true] ++ ([true, false, true, true, true, true, true, true, true, true, true, false, true, true, true, false, true, true, true, false, true, true, true, false, true, true, true, true, true, true, true, true, true, true, true, true, true, true, true, true, false, true, true, true, true, true, true, true, true, true, true, true, true, true, false, true, true, true, true, true] ++ ([true, true, true, true, true, true, true, true, true, true, true, true, true, true, true, true, true, false, true, true, true, true, true, true, true, true, true, true, true, true, true, true, false, true, true, true, true, false, true, true, true, true, true, true, true, true, true, true, true, true, false, true, true, true, true, true, true, true, true, true] ++ ([true, true, true, true, true, true, true, true, true, true, true, true, true, true, true])))) tables_1_6 = wl_38 ++ (wl_39 ++ (wl_40 ++ (wl_41 ++ (wl_42 ++ (wl_43 ++ (wl_44 ++ (wl_45 ++ ([])))))))) := rfl
theorem wc_38 : ∀ w, w ∈ wl_38 → w ∈ BIG := big_w (X := []) (Y := wl_39 ++ (wl_40 ++ (wl_41 ++ (wl_42 ++ (wl_43 ++ (wl_44 ++ (wl_45 ++ ([])))))))) (show _ = [] ++ _ from tb_6) in_tb6 (by decide +kernel)
theorem m_t1200 : Cond.methodLink RL 175 yX6_needs ∈ BIG := wc_38 _ (List.mem_of_getElem? (l := wl_38) (i := 0) rfl)
theorem m_t1201 : Cond.instanceMethod yX6_needs ∈ BIG := wc_38 _ (List.mem_of_getElem? (l := wl_38) (i := 1) rfl)
theorem m_t1202 : Cond.selects RX6 yX6_needs yX6_needs ∈ BIG := wc_38 _ (List.mem_of_getElem? (l := wl_38) (i := 2) rfl)
theorem m_t1203 : Cond.code yX6_needs cX6_needs 5 (some .int) ∈ BIG := wc_38 _ (List.mem_of_getElem? (l := wl_38) (i := 3) rfl)
theorem m_t1204 : Cond.methodLink RL 94 yX6_ground ∈ BIG := wc_38 _ (List.mem_of_getElem? (l := wl_38) (i := 4) rfl)
theorem m_t1205 : Cond.instanceMethod yX6_ground ∈ BIG := wc_38 _ (List.mem_of_getElem? (l := wl_38) (i := 5) rfl)
theorem m_t1206 : Cond.selects RX6 yX6_ground yX6_ground ∈ BIG := wc_38 _ (List.mem_of_getElem? (l := wl_38) (i := 6) rfl)
theorem m_t1207 : Cond.code yX6_ground cX6_ground 3 (some .int) ∈ BIG := wc_38 _ (List.mem_of_getElem? (l := wl_38) (i := 7) rfl)
theorem m_t1208 : Cond.methodLink RL 98 yX6_would ∈ BIG := wc_38 _ (List.mem_of_getElem? (l := wl_38) (i := 8) rfl)
theorem m_t1209 : Cond.instanceMethod yX6_would ∈ BIG := wc_38 _ (List.mem_of_getElem? (l := wl_38) (i := 9) rfl)
theorem m_t1210 : Cond.selects RX6 yX6_would yX6_would ∈ BIG := wc_38 _ (List.mem_of_getElem? (l := wl_38) (i := 10) rfl)
theorem m_t1211 : Cond.code yX6_would cX6_would 4 (some .int) ∈ BIG := wc_38 _ (List.mem_of_getElem? (l := wl_38) (i := 11) rfl)
theorem m_t1212 : Cond.methodLink RX6 251 yX6_noReading ∈ BIG := wc_38 _ (List.mem_of_getElem? (l := wl_38) (i := 12) rfl)
theorem m_t1214 : Cond.instanceMethod yX6_noReading ∈ BIG := wc_38 _ (List.mem_of_getElem? (l := wl_38) (i := 13) rfl)
theorem m_t1215 : Cond.code yX6_noReading cX6_noReading 3 (some .int) ∈ BIG := wc_38 _ (List.mem_of_getElem? (l := wl_38) (i := 14) rfl)
theorem m_t1216 : Cond.methodLink RL 102 yX6_read ∈ BIG := wc_38 _ (List.mem_of_getElem? (l := wl_38) (i := 15) rfl)
theorem m_t1217 : Cond.instanceMethod yX6_read ∈ BIG := wc_38 _ (List.mem_of_getElem? (l := wl_38) (i := 16) rfl)
theorem m_t1218 : Cond.selects RX6 yX6_read yX6_read ∈ BIG := wc_38 _ (List.mem_of_getElem? (l := wl_38) (i := 17) rfl)
theorem m_t1219 : Cond.code yX6_read cX6_read 4 (some .int) ∈ BIG := wc_38 _ (List.mem_of_getElem? (l := wl_38) (i := 18) rfl)
theorem m_t1220 : Cond.methodLink RL 106 yX6_aloud ∈ BIG := wc_38 _ (List.mem_of_getElem? (l := wl_38) (i := 19) rfl)
theorem m_t1221 : Cond.instanceMethod yX6_aloud ∈ BIG := wc_38 _ (List.mem_of_getElem? (l := wl_38) (i := 20) rfl)
theorem m_t1222 : Cond.selects RX6 yX6_aloud yX6_aloud ∈ BIG := wc_38 _ (List.mem_of_getElem? (l := wl_38) (i := 21) rfl)
theorem m_t1223 : Cond.code yX6_aloud cX6_aloud 5 (some .int) ∈ BIG := wc_38 _ (List.mem_of_getElem? (l := wl_38) (i := 22) rfl)
theorem m_t1224 : Cond.methodLink RL 110 yX6_tell ∈ BIG := wc_38 _ (List.mem_of_getElem? (l := wl_38) (i := 23) rfl)
theorem m_t1225 : Cond.instanceMethod yX6_tell ∈ BIG := wc_38 _ (List.mem_of_getElem? (l := wl_38) (i := 24) rfl)
theorem wc_39 : ∀ w, w ∈ wl_39 → w ∈ BIG := big_w (X := wl_38) (Y := wl_40 ++ (wl_41 ++ (wl_42 ++ (wl_43 ++ (wl_44 ++ (wl_45 ++ ([]))))))) (by rw [tb_6]) in_tb6 (by decide +kernel)
theorem m_t1226 : Cond.selects RX6 yX6_tell yX6_tell ∈ BIG := wc_39 _ (List.mem_of_getElem? (l := wl_39) (i := 0) rfl)
theorem m_t1227 : Cond.code yX6_tell cX6_tell 5 (some .int) ∈ BIG := wc_39 _ (List.mem_of_getElem? (l := wl_39) (i := 1) rfl)
theorem m_t1228 : Cond.methodLink RL 170 yX6_teach ∈ BIG := wc_39 _ (List.mem_of_getElem? (l := wl_39) (i := 2) rfl)
theorem m_t1229 : Cond.instanceMethod yX6_teach ∈ BIG := wc_39 _ (List.mem_of_getElem? (l := wl_39) (i := 3) rfl)
theorem m_t1230 : Cond.selects RX6 yX6_teach yX6_teach ∈ BIG := wc_39 _ (List.mem_of_getElem? (l := wl_39) (i := 4) rfl)
theorem m_t1231 : Cond.code yX6_teach cX6_teach 7 (some .int) ∈ BIG := wc_39 _ (List.mem_of_getElem? (l := wl_39) (i := 5) rfl)
theorem m_t1232 : Cond.methodLink RL 114 yX6_write ∈ BIG := wc_39 _ (List.mem_of_getElem? (l := wl_39) (i := 6) rfl)
theorem m_t1233 : Cond.instanceMethod yX6_write ∈ BIG := wc_39 _ (List.mem_of_getElem? (l := wl_39) (i := 7) rfl)
theorem m_t1234 : Cond.selects RX6 yX6_write yX6_write ∈ BIG := wc_39 _ (List.mem_of_getElem? (l := wl_39) (i := 8) rfl)
theorem m_t1235 : Cond.code yX6_write cX6_write 3 (some .int) ∈ BIG := wc_39 _ (List.mem_of_getElem? (l := wl_39) (i := 9) rfl)
theorem m_t1236 : Cond.methodLink RL 118 yX6_value ∈ BIG := wc_39 _ (List.mem_of_getElem? (l := wl_39) (i := 10) rfl)
theorem m_t1237 : Cond.instanceMethod yX6_value ∈ BIG := wc_39 _ (List.mem_of_getElem? (l := wl_39) (i := 11) rfl)
theorem m_t1238 : Cond.selects RX6 yX6_value yX6_value ∈ BIG := wc_39 _ (List.mem_of_getElem? (l := wl_39) (i := 12) rfl)
theorem m_t1239 : Cond.code yX6_value cX6_value 1 (some .int) ∈ BIG := wc_39 _ (List.mem_of_getElem? (l := wl_39) (i := 13) rfl)
theorem m_t1240 : Cond.methodLink RL 183 yX6_two ∈ BIG := wc_39 _ (List.mem_of_getElem? (l := wl_39) (i := 14) rfl)
theorem m_t1241 : Cond.instanceMethod yX6_two ∈ BIG := wc_39 _ (List.mem_of_getElem? (l := wl_39) (i := 15) rfl)
theorem m_t1242 : Cond.selects RX6 yX6_two yX6_two ∈ BIG := wc_39 _ (List.mem_of_getElem? (l := wl_39) (i := 16) rfl)
theorem m_t1243 : Cond.code yX6_two cX6_two 3 (some .int) ∈ BIG := wc_39 _ (List.mem_of_getElem? (l := wl_39) (i := 17) rfl)
theorem m_t1244 : Cond.methodLink RL 166 yX6_youngest ∈ BIG := wc_39 _ (List.mem_of_getElem? (l := wl_39) (i := 18) rfl)
theorem m_t1245 : Cond.instanceMethod yX6_youngest ∈ BIG := wc_39 _ (List.mem_of_getElem? (l := wl_39) (i := 19) rfl)
theorem m_t1246 : Cond.selects RX6 yX6_youngest yX6_youngest ∈ BIG := wc_39 _ (List.mem_of_getElem? (l := wl_39) (i := 20) rfl)
theorem m_t1247 : Cond.code yX6_youngest cX6_youngest 2 (some .int) ∈ BIG := wc_39 _ (List.mem_of_getElem? (l := wl_39) (i := 21) rfl)
theorem m_t1248 : Cond.methodLink RL 122 yX6_reader ∈ BIG := wc_39 _ (List.mem_of_getElem? (l := wl_39) (i := 22) rfl)
theorem m_t1249 : Cond.instanceMethod yX6_reader ∈ BIG := wc_39 _ (List.mem_of_getElem? (l := wl_39) (i := 23) rfl)
theorem m_t1250 : Cond.selects RX6 yX6_reader yX6_reader ∈ BIG := wc_39 _ (List.mem_of_getElem? (l := wl_39) (i := 24) rfl)
theorem wc_40 : ∀ w, w ∈ wl_40 → w ∈ BIG := big_w (X := (wl_38 ++ wl_39)) (Y := wl_41 ++ (wl_42 ++ (wl_43 ++ (wl_44 ++ (wl_45 ++ ([])))))) (by rw [tb_6]; simp only [List.append_assoc]) in_tb6 (by decide +kernel)
theorem m_t1251 : Cond.code yX6_reader cX6_reader 2 (some .int) ∈ BIG := wc_40 _ (List.mem_of_getElem? (l := wl_40) (i := 0) rfl)
theorem m_t1252 : Cond.methodLink RL 179 yX6_next ∈ BIG := wc_40 _ (List.mem_of_getElem? (l := wl_40) (i := 1) rfl)
theorem m_t1253 : Cond.instanceMethod yX6_next ∈ BIG := wc_40 _ (List.mem_of_getElem? (l := wl_40) (i := 2) rfl)
theorem m_t1254 : Cond.selects RX6 yX6_next yX6_next ∈ BIG := wc_40 _ (List.mem_of_getElem? (l := wl_40) (i := 3) rfl)
theorem m_t1255 : Cond.code yX6_next cX6_next 6 (some .int) ∈ BIG := wc_40 _ (List.mem_of_getElem? (l := wl_40) (i := 4) rfl)
theorem m_t1256 : Cond.methodLink RL 203 yX6_ends ∈ BIG := wc_40 _ (List.mem_of_getElem? (l := wl_40) (i := 5) rfl)
theorem m_t1257 : Cond.instanceMethod yX6_ends ∈ BIG := wc_40 _ (List.mem_of_getElem? (l := wl_40) (i := 6) rfl)
theorem m_t1258 : Cond.selects RX6 yX6_ends yX6_ends ∈ BIG := wc_40 _ (List.mem_of_getElem? (l := wl_40) (i := 7) rfl)
theorem m_t1259 : Cond.code yX6_ends cX6_ends 1 (some .int) ∈ BIG := wc_40 _ (List.mem_of_getElem? (l := wl_40) (i := 8) rfl)
theorem m_t1260 : Cond.methodLink RX6 288 yX6_end ∈ BIG := wc_40 _ (List.mem_of_getElem? (l := wl_40) (i := 9) rfl)
theorem m_t1262 : Cond.instanceMethod yX6_end ∈ BIG := wc_40 _ (List.mem_of_getElem? (l := wl_40) (i := 10) rfl)
theorem m_t1263 : Cond.code yX6_end cX6_end 5 (some .int) ∈ BIG := wc_40 _ (List.mem_of_getElem? (l := wl_40) (i := 11) rfl)
theorem m_t1264 : Cond.methodLink RL 126 yX6_run ∈ BIG := wc_40 _ (List.mem_of_getElem? (l := wl_40) (i := 12) rfl)
theorem m_t1265 : Cond.instanceMethod yX6_run ∈ BIG := wc_40 _ (List.mem_of_getElem? (l := wl_40) (i := 13) rfl)
theorem m_t1266 : Cond.selects RX6 yX6_run yX6_run ∈ BIG := wc_40 _ (List.mem_of_getElem? (l := wl_40) (i := 14) rfl)
theorem m_t1267 : Cond.code yX6_run cX6_run 6 (some .int) ∈ BIG := wc_40 _ (List.mem_of_getElem? (l := wl_40) (i := 15) rfl)
theorem m_t1268 : Cond.constantLong RX6 298 60 ∈ BIG := wc_40 _ (List.mem_of_getElem? (l := wl_40) (i := 16) rfl)
theorem m_t1269 : Cond.constantLong RX6 300 3 ∈ BIG := wc_40 _ (List.mem_of_getElem? (l := wl_40) (i := 17) rfl)
theorem m_t1270 : Cond.methodLink RX6 302 yX6_noRule ∈ BIG := wc_40 _ (List.mem_of_getElem? (l := wl_40) (i := 18) rfl)
theorem m_t1272 : Cond.instanceMethod yX6_noRule ∈ BIG := wc_40 _ (List.mem_of_getElem? (l := wl_40) (i := 19) rfl)
theorem m_t1273 : Cond.code yX6_noRule cX6_noRule 2 (some .int) ∈ BIG := wc_40 _ (List.mem_of_getElem? (l := wl_40) (i := 20) rfl)
theorem m_t1274 : Cond.methodLink RX6 305 yX6_sumOf ∈ BIG := wc_40 _ (List.mem_of_getElem? (l := wl_40) (i := 21) rfl)
theorem m_t1276 : Cond.instanceMethod yX6_sumOf ∈ BIG := wc_40 _ (List.mem_of_getElem? (l := wl_40) (i := 22) rfl)
theorem m_t1277 : Cond.code yX6_sumOf cX6_sumOf 3 (some .int) ∈ BIG := wc_40 _ (List.mem_of_getElem? (l := wl_40) (i := 23) rfl)
theorem m_t1278 : Cond.methodLink RX6 295 yX6_goes ∈ BIG := wc_40 _ (List.mem_of_getElem? (l := wl_40) (i := 24) rfl)
theorem wc_41 : ∀ w, w ∈ wl_41 → w ∈ BIG := big_w (X := ((wl_38 ++ wl_39) ++ wl_40)) (Y := wl_42 ++ (wl_43 ++ (wl_44 ++ (wl_45 ++ ([]))))) (by rw [tb_6]; simp only [List.append_assoc]) in_tb6 (by decide +kernel)
theorem m_t1280 : Cond.instanceMethod yX6_goes ∈ BIG := wc_41 _ (List.mem_of_getElem? (l := wl_41) (i := 0) rfl)
theorem m_t1281 : Cond.code yX6_goes cX6_goes 6 (some .int) ∈ BIG := wc_41 _ (List.mem_of_getElem? (l := wl_41) (i := 1) rfl)
theorem m_t1282 : Cond.methodLink RX6 308 yX6_whiteMany ∈ BIG := wc_41 _ (List.mem_of_getElem? (l := wl_41) (i := 2) rfl)
theorem m_t1284 : Cond.instanceMethod yX6_whiteMany ∈ BIG := wc_41 _ (List.mem_of_getElem? (l := wl_41) (i := 3) rfl)
theorem m_t1285 : Cond.code yX6_whiteMany cX6_whiteMany 3 (some .int) ∈ BIG := wc_41 _ (List.mem_of_getElem? (l := wl_41) (i := 4) rfl)
theorem m_t1286 : Cond.methodLink RL 187 yX6_gains ∈ BIG := wc_41 _ (List.mem_of_getElem? (l := wl_41) (i := 5) rfl)
theorem m_t1287 : Cond.instanceMethod yX6_gains ∈ BIG := wc_41 _ (List.mem_of_getElem? (l := wl_41) (i := 6) rfl)
theorem m_t1288 : Cond.selects RX6 yX6_gains yX6_gains ∈ BIG := wc_41 _ (List.mem_of_getElem? (l := wl_41) (i := 7) rfl)
theorem m_t1289 : Cond.code yX6_gains cX6_gains 4 (some .int) ∈ BIG := wc_41 _ (List.mem_of_getElem? (l := wl_41) (i := 8) rfl)
theorem m_t1290 : Cond.constant RX6 311 1000000 ∈ BIG := wc_41 _ (List.mem_of_getElem? (l := wl_41) (i := 9) rfl)
theorem m_t1291 : Cond.methodLink RL 130 yX6_head ∈ BIG := wc_41 _ (List.mem_of_getElem? (l := wl_41) (i := 10) rfl)
theorem m_t1292 : Cond.instanceMethod yX6_head ∈ BIG := wc_41 _ (List.mem_of_getElem? (l := wl_41) (i := 11) rfl)
theorem m_t1293 : Cond.selects RX6 yX6_head yX6_head ∈ BIG := wc_41 _ (List.mem_of_getElem? (l := wl_41) (i := 12) rfl)
theorem m_t1294 : Cond.code yX6_head cX6_head 6 (some .int) ∈ BIG := wc_41 _ (List.mem_of_getElem? (l := wl_41) (i := 13) rfl)
theorem m_t1295 : Cond.methodLink RL 134 yX6_who ∈ BIG := wc_41 _ (List.mem_of_getElem? (l := wl_41) (i := 14) rfl)
theorem m_t1296 : Cond.instanceMethod yX6_who ∈ BIG := wc_41 _ (List.mem_of_getElem? (l := wl_41) (i := 15) rfl)
theorem m_t1297 : Cond.selects RX6 yX6_who yX6_who ∈ BIG := wc_41 _ (List.mem_of_getElem? (l := wl_41) (i := 16) rfl)
theorem m_t1298 : Cond.code yX6_who cX6_who 4 (some .int) ∈ BIG := wc_41 _ (List.mem_of_getElem? (l := wl_41) (i := 17) rfl)
theorem m_t1299 : Cond.methodLink RX6 315 yX6_findWho ∈ BIG := wc_41 _ (List.mem_of_getElem? (l := wl_41) (i := 18) rfl)
theorem m_t1301 : Cond.instanceMethod yX6_findWho ∈ BIG := wc_41 _ (List.mem_of_getElem? (l := wl_41) (i := 19) rfl)
theorem m_t1302 : Cond.code yX6_findWho cX6_findWho 6 (some .int) ∈ BIG := wc_41 _ (List.mem_of_getElem? (l := wl_41) (i := 20) rfl)
theorem m_t1303 : Cond.methodLink RL 142 yX6_keeping ∈ BIG := wc_41 _ (List.mem_of_getElem? (l := wl_41) (i := 21) rfl)
theorem m_t1304 : Cond.instanceMethod yX6_keeping ∈ BIG := wc_41 _ (List.mem_of_getElem? (l := wl_41) (i := 22) rfl)
theorem m_t1305 : Cond.selects RX6 yX6_keeping yX6_keeping ∈ BIG := wc_41 _ (List.mem_of_getElem? (l := wl_41) (i := 23) rfl)
theorem m_t1306 : Cond.code yX6_keeping cX6_keeping 4 (some .int) ∈ BIG := wc_41 _ (List.mem_of_getElem? (l := wl_41) (i := 24) rfl)
theorem wc_42 : ∀ w, w ∈ wl_42 → w ∈ BIG := big_w (X := (((wl_38 ++ wl_39) ++ wl_40) ++ wl_41)) (Y := wl_43 ++ (wl_44 ++ (wl_45 ++ ([])))) (by rw [tb_6]; simp only [List.append_assoc]) in_tb6 (by decide +kernel)
theorem m_t1307 : Cond.constantLong RX6 318 2 ∈ BIG := wc_42 _ (List.mem_of_getElem? (l := wl_42) (i := 0) rfl)
theorem m_t1308 : Cond.methodLink RL 138 yX6_order ∈ BIG := wc_42 _ (List.mem_of_getElem? (l := wl_42) (i := 1) rfl)
theorem m_t1309 : Cond.instanceMethod yX6_order ∈ BIG := wc_42 _ (List.mem_of_getElem? (l := wl_42) (i := 2) rfl)
theorem m_t1310 : Cond.selects RX6 yX6_order yX6_order ∈ BIG := wc_42 _ (List.mem_of_getElem? (l := wl_42) (i := 3) rfl)
theorem m_t1311 : Cond.code yX6_order cX6_order 5 (some .int) ∈ BIG := wc_42 _ (List.mem_of_getElem? (l := wl_42) (i := 4) rfl)
theorem m_t1312 : Cond.constantLong RX6 330 (-1) ∈ BIG := wc_42 _ (List.mem_of_getElem? (l := wl_42) (i := 5) rfl)
theorem m_t1313 : Cond.methodLink RX6 326 yX6_rowsFrom ∈ BIG := wc_42 _ (List.mem_of_getElem? (l := wl_42) (i := 6) rfl)
theorem m_t1315 : Cond.instanceMethod yX6_rowsFrom ∈ BIG := wc_42 _ (List.mem_of_getElem? (l := wl_42) (i := 7) rfl)
theorem m_t1316 : Cond.code yX6_rowsFrom cX6_rowsFrom 8 none ∈ BIG := wc_42 _ (List.mem_of_getElem? (l := wl_42) (i := 8) rfl)
theorem m_t1317 : Cond.methodLink RL 146 yX6_left ∈ BIG := wc_42 _ (List.mem_of_getElem? (l := wl_42) (i := 9) rfl)
theorem m_t1318 : Cond.instanceMethod yX6_left ∈ BIG := wc_42 _ (List.mem_of_getElem? (l := wl_42) (i := 10) rfl)
theorem m_t1319 : Cond.selects RX6 yX6_left yX6_left ∈ BIG := wc_42 _ (List.mem_of_getElem? (l := wl_42) (i := 11) rfl)
theorem m_t1320 : Cond.code yX6_left cX6_left 4 (some .int) ∈ BIG := wc_42 _ (List.mem_of_getElem? (l := wl_42) (i := 12) rfl)
theorem m_t1321 : Cond.methodLink RX6 332 yX6_leftOf ∈ BIG := wc_42 _ (List.mem_of_getElem? (l := wl_42) (i := 13) rfl)
theorem m_t1322 : Cond.static yX6_leftOf ∈ BIG := wc_42 _ (List.mem_of_getElem? (l := wl_42) (i := 14) rfl)
theorem m_t1323 : Cond.code yX6_leftOf cX6_leftOf 5 (some .int) ∈ BIG := wc_42 _ (List.mem_of_getElem? (l := wl_42) (i := 15) rfl)
theorem m_t1324 : Cond.methodLink RL 150 yX6_longest ∈ BIG := wc_42 _ (List.mem_of_getElem? (l := wl_42) (i := 16) rfl)
theorem m_t1325 : Cond.instanceMethod yX6_longest ∈ BIG := wc_42 _ (List.mem_of_getElem? (l := wl_42) (i := 17) rfl)
theorem m_t1326 : Cond.selects RX6 yX6_longest yX6_longest ∈ BIG := wc_42 _ (List.mem_of_getElem? (l := wl_42) (i := 18) rfl)
theorem m_t1327 : Cond.code yX6_longest cX6_longest 5 (some .int) ∈ BIG := wc_42 _ (List.mem_of_getElem? (l := wl_42) (i := 19) rfl)
theorem m_t1328 : Cond.methodLink RL 154 yX6_hangs ∈ BIG := wc_42 _ (List.mem_of_getElem? (l := wl_42) (i := 20) rfl)
theorem m_t1329 : Cond.instanceMethod yX6_hangs ∈ BIG := wc_42 _ (List.mem_of_getElem? (l := wl_42) (i := 21) rfl)
theorem m_t1330 : Cond.selects RX6 yX6_hangs yX6_hangs ∈ BIG := wc_42 _ (List.mem_of_getElem? (l := wl_42) (i := 22) rfl)
theorem m_t1331 : Cond.code yX6_hangs cX6_hangs 6 (some .int) ∈ BIG := wc_42 _ (List.mem_of_getElem? (l := wl_42) (i := 23) rfl)
theorem m_t1332 : Cond.methodLink RL 158 yX6_lost ∈ BIG := wc_42 _ (List.mem_of_getElem? (l := wl_42) (i := 24) rfl)
theorem wc_43 : ∀ w, w ∈ wl_43 → w ∈ BIG := big_w (X := ((((wl_38 ++ wl_39) ++ wl_40) ++ wl_41) ++ wl_42)) (Y := wl_44 ++ (wl_45 ++ ([]))) (by rw [tb_6]; simp only [List.append_assoc]) in_tb6 (by decide +kernel)
theorem m_t1333 : Cond.instanceMethod yX6_lost ∈ BIG := wc_43 _ (List.mem_of_getElem? (l := wl_43) (i := 0) rfl)
theorem m_t1334 : Cond.selects RX6 yX6_lost yX6_lost ∈ BIG := wc_43 _ (List.mem_of_getElem? (l := wl_43) (i := 1) rfl)
theorem m_t1335 : Cond.code yX6_lost cX6_lost 2 (some .int) ∈ BIG := wc_43 _ (List.mem_of_getElem? (l := wl_43) (i := 2) rfl)
theorem m_t1336 : Cond.methodLink RX6 335 yX6_lostBy ∈ BIG := wc_43 _ (List.mem_of_getElem? (l := wl_43) (i := 3) rfl)
theorem m_t1338 : Cond.instanceMethod yX6_lostBy ∈ BIG := wc_43 _ (List.mem_of_getElem? (l := wl_43) (i := 4) rfl)
theorem m_t1339 : Cond.code yX6_lostBy cX6_lostBy 5 (some .int) ∈ BIG := wc_43 _ (List.mem_of_getElem? (l := wl_43) (i := 5) rfl)
theorem m_t1340 : Cond.methodLink RL 162 yX6_bear ∈ BIG := wc_43 _ (List.mem_of_getElem? (l := wl_43) (i := 6) rfl)
theorem m_t1341 : Cond.instanceMethod yX6_bear ∈ BIG := wc_43 _ (List.mem_of_getElem? (l := wl_43) (i := 7) rfl)
theorem m_t1342 : Cond.selects RX6 yX6_bear yX6_bear ∈ BIG := wc_43 _ (List.mem_of_getElem? (l := wl_43) (i := 8) rfl)
theorem m_t1343 : Cond.code yX6_bear cX6_bear 5 (some .int) ∈ BIG := wc_43 _ (List.mem_of_getElem? (l := wl_43) (i := 9) rfl)
theorem m_t1344 : Cond.methodLink RX6 338 yX6_bits ∈ BIG := wc_43 _ (List.mem_of_getElem? (l := wl_43) (i := 10) rfl)
theorem m_t1345 : Cond.static yX6_bits ∈ BIG := wc_43 _ (List.mem_of_getElem? (l := wl_43) (i := 11) rfl)
theorem m_t1346 : Cond.code yX6_bits cX6_bits 3 (some .int) ∈ BIG := wc_43 _ (List.mem_of_getElem? (l := wl_43) (i := 12) rfl)
theorem m_t1347 : Cond.methodLink RL 191 yX6_judge ∈ BIG := wc_43 _ (List.mem_of_getElem? (l := wl_43) (i := 13) rfl)
theorem m_t1348 : Cond.instanceMethod yX6_judge ∈ BIG := wc_43 _ (List.mem_of_getElem? (l := wl_43) (i := 14) rfl)
theorem m_t1349 : Cond.selects RX6 yX6_judge yX6_judge ∈ BIG := wc_43 _ (List.mem_of_getElem? (l := wl_43) (i := 15) rfl)
theorem m_t1350 : Cond.code yX6_judge cX6_judge 4 (some .int) ∈ BIG := wc_43 _ (List.mem_of_getElem? (l := wl_43) (i := 16) rfl)
theorem m_t1351 : Cond.methodLink RX6 345 yX6_noTold ∈ BIG := wc_43 _ (List.mem_of_getElem? (l := wl_43) (i := 17) rfl)
theorem m_t1353 : Cond.instanceMethod yX6_noTold ∈ BIG := wc_43 _ (List.mem_of_getElem? (l := wl_43) (i := 18) rfl)
theorem m_t1354 : Cond.code yX6_noTold cX6_noTold 4 (some .int) ∈ BIG := wc_43 _ (List.mem_of_getElem? (l := wl_43) (i := 19) rfl)
theorem m_t1355 : Cond.constantLong RX6 341 20 ∈ BIG := wc_43 _ (List.mem_of_getElem? (l := wl_43) (i := 20) rfl)
theorem m_t1356 : Cond.methodLink RX6 348 yX6_wrongAt ∈ BIG := wc_43 _ (List.mem_of_getElem? (l := wl_43) (i := 21) rfl)
theorem m_t1358 : Cond.instanceMethod yX6_wrongAt ∈ BIG := wc_43 _ (List.mem_of_getElem? (l := wl_43) (i := 22) rfl)
theorem m_t1359 : Cond.code yX6_wrongAt cX6_wrongAt 9 (some .int) ∈ BIG := wc_43 _ (List.mem_of_getElem? (l := wl_43) (i := 23) rfl)
theorem m_t1360 : Cond.constantLong RX6 343 100 ∈ BIG := wc_43 _ (List.mem_of_getElem? (l := wl_43) (i := 24) rfl)
theorem wc_44 : ∀ w, w ∈ wl_44 → w ∈ BIG := big_w (X := (((((wl_38 ++ wl_39) ++ wl_40) ++ wl_41) ++ wl_42) ++ wl_43)) (Y := wl_45 ++ ([])) (by rw [tb_6]; simp only [List.append_assoc]) in_tb6 (by decide +kernel)
theorem m_t1361 : Cond.methodLink RL 195 yX6_told ∈ BIG := wc_44 _ (List.mem_of_getElem? (l := wl_44) (i := 0) rfl)
theorem m_t1362 : Cond.instanceMethod yX6_told ∈ BIG := wc_44 _ (List.mem_of_getElem? (l := wl_44) (i := 1) rfl)
theorem m_t1363 : Cond.selects RX6 yX6_told yX6_told ∈ BIG := wc_44 _ (List.mem_of_getElem? (l := wl_44) (i := 2) rfl)
theorem m_t1364 : Cond.code yX6_told cX6_told 4 (some .int) ∈ BIG := wc_44 _ (List.mem_of_getElem? (l := wl_44) (i := 3) rfl)
theorem m_t1365 : Cond.methodLink RL 199 yX6_years ∈ BIG := wc_44 _ (List.mem_of_getElem? (l := wl_44) (i := 4) rfl)
theorem m_t1366 : Cond.instanceMethod yX6_years ∈ BIG := wc_44 _ (List.mem_of_getElem? (l := wl_44) (i := 5) rfl)
theorem m_t1367 : Cond.selects RX6 yX6_years yX6_years ∈ BIG := wc_44 _ (List.mem_of_getElem? (l := wl_44) (i := 6) rfl)
theorem m_t1368 : Cond.code yX6_years cX6_years 7 (some .int) ∈ BIG := wc_44 _ (List.mem_of_getElem? (l := wl_44) (i := 7) rfl)
theorem m_t1369 : Cond.methodLink RX6 352 yX6_draw ∈ BIG := wc_44 _ (List.mem_of_getElem? (l := wl_44) (i := 8) rfl)
theorem m_t1371 : Cond.instanceMethod yX6_draw ∈ BIG := wc_44 _ (List.mem_of_getElem? (l := wl_44) (i := 9) rfl)
theorem m_t1372 : Cond.code yX6_draw cX6_draw 2 (some .int) ∈ BIG := wc_44 _ (List.mem_of_getElem? (l := wl_44) (i := 10) rfl)
theorem m_t1373 : Cond.constant RX6 351 1103515245 ∈ BIG := wc_44 _ (List.mem_of_getElem? (l := wl_44) (i := 11) rfl)
theorem m_t1374 : Cond.methodLink RL 207 yX6_seed ∈ BIG := wc_44 _ (List.mem_of_getElem? (l := wl_44) (i := 12) rfl)
theorem m_t1375 : Cond.instanceMethod yX6_seed ∈ BIG := wc_44 _ (List.mem_of_getElem? (l := wl_44) (i := 13) rfl)
theorem m_t1376 : Cond.selects RX6 yX6_seed yX6_seed ∈ BIG := wc_44 _ (List.mem_of_getElem? (l := wl_44) (i := 14) rfl)
theorem m_t1377 : Cond.code yX6_seed cX6_seed 3 (some .int) ∈ BIG := wc_44 _ (List.mem_of_getElem? (l := wl_44) (i := 15) rfl)
theorem m_t1378 : Cond.methodLink RL 211 yX6_image ∈ BIG := wc_44 _ (List.mem_of_getElem? (l := wl_44) (i := 16) rfl)
theorem m_t1379 : Cond.instanceMethod yX6_image ∈ BIG := wc_44 _ (List.mem_of_getElem? (l := wl_44) (i := 17) rfl)
theorem m_t1380 : Cond.selects RX6 yX6_image yX6_image ∈ BIG := wc_44 _ (List.mem_of_getElem? (l := wl_44) (i := 18) rfl)
theorem m_t1381 : Cond.code yX6_image cX6_image 1 (some .int) ∈ BIG := wc_44 _ (List.mem_of_getElem? (l := wl_44) (i := 19) rfl)
theorem m_t1382 : Cond.methodLink RL 215 yX6_back ∈ BIG := wc_44 _ (List.mem_of_getElem? (l := wl_44) (i := 20) rfl)
theorem m_t1383 : Cond.instanceMethod yX6_back ∈ BIG := wc_44 _ (List.mem_of_getElem? (l := wl_44) (i := 21) rfl)
theorem m_t1384 : Cond.selects RX6 yX6_back yX6_back ∈ BIG := wc_44 _ (List.mem_of_getElem? (l := wl_44) (i := 22) rfl)
theorem m_t1385 : Cond.code yX6_back cX6_back 1 (some .int) ∈ BIG := wc_44 _ (List.mem_of_getElem? (l := wl_44) (i := 23) rfl)
theorem m_t1386 : Cond.methodLink RL 219 yX6_status ∈ BIG := wc_44 _ (List.mem_of_getElem? (l := wl_44) (i := 24) rfl)
theorem wc_45 : ∀ w, w ∈ wl_45 → w ∈ BIG := big_w (X := ((((((wl_38 ++ wl_39) ++ wl_40) ++ wl_41) ++ wl_42) ++ wl_43) ++ wl_44)) (Y := []) (by rw [tb_6]; simp only [List.append_assoc]) in_tb6 (by decide +kernel)
theorem m_t1387 : Cond.instanceMethod yX6_status ∈ BIG := wc_45 _ (List.mem_of_getElem? (l := wl_45) (i := 0) rfl)
theorem m_t1388 : Cond.selects RX6 yX6_status yX6_status ∈ BIG := wc_45 _ (List.mem_of_getElem? (l := wl_45) (i := 1) rfl)
theorem m_t1389 : Cond.code yX6_status cX6_status 4 (some .int) ∈ BIG := wc_45 _ (List.mem_of_getElem? (l := wl_45) (i := 2) rfl)
theorem m_t1390 : Cond.constantLong RX6 365 12 ∈ BIG := wc_45 _ (List.mem_of_getElem? (l := wl_45) (i := 3) rfl)
theorem m_t1391 : Cond.constantLong RX6 367 16 ∈ BIG := wc_45 _ (List.mem_of_getElem? (l := wl_45) (i := 4) rfl)
theorem m_t1392 : Cond.constantLong RL 18 4294967295 ∈ BIG := wc_45 _ (List.mem_of_getElem? (l := wl_45) (i := 5) rfl)
theorem m_t1393 : Cond.fieldLink RJ0 9 "java/lang/String" "value" "[B" ∈ BIG := wc_45 _ (List.mem_of_getElem? (l := wl_45) (i := 6) rfl)
theorem m_t1394 : Cond.fieldLink RJ0 15 "java/lang/String" "coder" "B" ∈ BIG := wc_45 _ (List.mem_of_getElem? (l := wl_45) (i := 7) rfl)
end
section
noncomputable def sl_all : List Cond := [Cond.selects RX5 yX5_refuse yX5_refuse, Cond.selects RX5 yX5_rowFit yX5_rowFit, Cond.selects RX5 yX5_copyFit yX5_copyFit, Cond.selects RX5 yX5_hasSpan yX5_hasSpan, Cond.selects RX5 yX5_ruleFit yX5_ruleFit, Cond.selects RX3 yX3_step yX3_step, Cond.selects RX3 yX3_sortAt yX3_sortAt, Cond.selects RX3 yX3_readStatement yX3_readStatement, Cond.selects RX3 yX3_isWord yX3_isWord, Cond.selects RX3 yX3_readBook yX3_readBook, Cond.selects RX3 yX3_fail yX3_fail, Cond.selects RX3 yX3_takeNumber yX3_takeNumber, Cond.selects RX3 yX3_numberThere yX3_numberThere, Cond.selects RX3 yX3_passes yX3_passes, Cond.selects RX3 yX3_readNeed yX3_readNeed, Cond.selects RX3 yX3_readOne yX3_readOne, Cond.selects RX3 yX3_readKnows yX3_readKnows, Cond.selects RX3 yX3_readWhite yX3_readWhite, Cond.selects RX5 yX5_isPair yX5_isPair, Cond.selects RX5 yX5_readFit yX5_readFit, Cond.selects RX4 yX4_forget yX4_forget, Cond.selects RX5 yX5_toldFit yX5_toldFit, Cond.selects RX5 yX5_firstWrong yX5_firstWrong, Cond.selects RX4 yX4_drawBelow20 yX4_drawBelow20, Cond.selects RX6 yX6_refuse yX6_refuse, Cond.selects RX6 yX6_noRow yX6_noRow, Cond.selects RX6 yX6_fresh yX6_fresh, Cond.selects RX6 yX6_takeFrom yX6_takeFrom, Cond.selects RX6 yX6_does yX6_does, Cond.selects RX6 yX6_readMost yX6_readMost, Cond.selects RX6 yX6_thereMany yX6_thereMany, Cond.selects RX6 yX6_isThere yX6_isThere, Cond.selects RX6 yX6_isWhite yX6_isWhite, Cond.selects RX6 yX6_readerOf yX6_readerOf, Cond.selects RX6 yX6_wouldKnow yX6_wouldKnow, Cond.selects RX6 yX6_byGround yX6_byGround, Cond.selects RX6 yX6_groundOf yX6_groundOf, Cond.selects RX6 yX6_readsTo yX6_readsTo, Cond.selects RX6 yX6_reads yX6_reads, Cond.selects RX6 yX6_chain yX6_chain] ++ [Cond.selects RX6 yX6_youngestBut yX6_youngestBut, Cond.selects RX6 yX6_moreBy yX6_moreBy, Cond.selects RX6 yX6_valueNow yX6_valueNow, Cond.selects RX6 yX6_valueOf yX6_valueOf, Cond.selects RX6 yX6_greatest yX6_greatest, Cond.selects RX6 yX6_newBook yX6_newBook, Cond.selects RX6 yX6_add yX6_add, Cond.selects RX6 yX6_newOne yX6_newOne, Cond.selects RX6 yX6_readAll yX6_readAll, Cond.selects RX6 yX6_look yX6_look, Cond.selects RX6 yX6_statement yX6_statement, Cond.selects RX6 yX6_isWord yX6_isWord, Cond.selects RX6 yX6_tells yX6_tells, Cond.selects RX6 yX6_wrong yX6_wrong, Cond.selects RX6 yX6_number yX6_number, Cond.selects RX6 yX6_perhaps yX6_perhaps, Cond.selects RX6 yX6_isBook yX6_isBook, Cond.selects RX6 yX6_isOne yX6_isOne, Cond.selects RX6 yX6_noReading yX6_noReading, Cond.selects RX6 yX6_end yX6_end, Cond.selects RX6 yX6_noRule yX6_noRule, Cond.selects RX6 yX6_sumOf yX6_sumOf, Cond.selects RX6 yX6_goes yX6_goes, Cond.selects RX6 yX6_whiteMany yX6_whiteMany, Cond.selects RX6 yX6_findWho yX6_findWho, Cond.selects RX6 yX6_rowsFrom yX6_rowsFrom, Cond.selects RX6 yX6_lostBy yX6_lostBy, Cond.selects RX6 yX6_noTold yX6_noTold, Cond.selects RX6 yX6_wrongAt yX6_wrongAt, Cond.selects RX6 yX6_draw yX6_draw]
set_option maxRecDepth 100000 in
theorem sl_eq : k2_sels lw_privs = sl_all := rfl
theorem sl_big : ∀ w, w ∈ sl_all → w ∈ BIG := fun w hw => big_of (List.mem_append_left _ (by rw [sl_eq]; exact hw)) (List.all_eq_true.mp (show sl_all.all goodWord = true by decide +kernel) w hw)
theorem m_s0 : Cond.selects RX5 yX5_refuse yX5_refuse ∈ BIG := sl_big _ (List.mem_of_getElem? (l := sl_all) (i := 0) rfl)
theorem m_s1 : Cond.selects RX5 yX5_rowFit yX5_rowFit ∈ BIG := sl_big _ (List.mem_of_getElem? (l := sl_all) (i := 1) rfl)
theorem m_s2 : Cond.selects RX5 yX5_copyFit yX5_copyFit ∈ BIG := sl_big _ (List.mem_of_getElem? (l := sl_all) (i := 2) rfl)
theorem m_s3 : Cond.selects RX5 yX5_hasSpan yX5_hasSpan ∈ BIG := sl_big _ (List.mem_of_getElem? (l := sl_all) (i := 3) rfl)
theorem m_s4 : Cond.selects RX5 yX5_ruleFit yX5_ruleFit ∈ BIG := sl_big _ (List.mem_of_getElem? (l := sl_all) (i := 4) rfl)
theorem m_s5 : Cond.selects RX3 yX3_step yX3_step ∈ BIG := sl_big _ (List.mem_of_getElem? (l := sl_all) (i := 5) rfl)
theorem m_s6 : Cond.selects RX3 yX3_sortAt yX3_sortAt ∈ BIG := sl_big _ (List.mem_of_getElem? (l := sl_all) (i := 6) rfl)
theorem m_s7 : Cond.selects RX3 yX3_readStatement yX3_readStatement ∈ BIG := sl_big _ (List.mem_of_getElem? (l := sl_all) (i := 7) rfl)
theorem m_s8 : Cond.selects RX3 yX3_isWord yX3_isWord ∈ BIG := sl_big _ (List.mem_of_getElem? (l := sl_all) (i := 8) rfl)
theorem m_s9 : Cond.selects RX3 yX3_readBook yX3_readBook ∈ BIG := sl_big _ (List.mem_of_getElem? (l := sl_all) (i := 9) rfl)
theorem m_s10 : Cond.selects RX3 yX3_fail yX3_fail ∈ BIG := sl_big _ (List.mem_of_getElem? (l := sl_all) (i := 10) rfl)
theorem m_s11 : Cond.selects RX3 yX3_takeNumber yX3_takeNumber ∈ BIG := sl_big _ (List.mem_of_getElem? (l := sl_all) (i := 11) rfl)
theorem m_s12 : Cond.selects RX3 yX3_numberThere yX3_numberThere ∈ BIG := sl_big _ (List.mem_of_getElem? (l := sl_all) (i := 12) rfl)
theorem m_s13 : Cond.selects RX3 yX3_passes yX3_passes ∈ BIG := sl_big _ (List.mem_of_getElem? (l := sl_all) (i := 13) rfl)
theorem m_s14 : Cond.selects RX3 yX3_readNeed yX3_readNeed ∈ BIG := sl_big _ (List.mem_of_getElem? (l := sl_all) (i := 14) rfl)
theorem m_s15 : Cond.selects RX3 yX3_readOne yX3_readOne ∈ BIG := sl_big _ (List.mem_of_getElem? (l := sl_all) (i := 15) rfl)
theorem m_s16 : Cond.selects RX3 yX3_readKnows yX3_readKnows ∈ BIG := sl_big _ (List.mem_of_getElem? (l := sl_all) (i := 16) rfl)
theorem m_s17 : Cond.selects RX3 yX3_readWhite yX3_readWhite ∈ BIG := sl_big _ (List.mem_of_getElem? (l := sl_all) (i := 17) rfl)
theorem m_s18 : Cond.selects RX5 yX5_isPair yX5_isPair ∈ BIG := sl_big _ (List.mem_of_getElem? (l := sl_all) (i := 18) rfl)
theorem m_s19 : Cond.selects RX5 yX5_readFit yX5_readFit ∈ BIG := sl_big _ (List.mem_of_getElem? (l := sl_all) (i := 19) rfl)
theorem m_s20 : Cond.selects RX4 yX4_forget yX4_forget ∈ BIG := sl_big _ (List.mem_of_getElem? (l := sl_all) (i := 20) rfl)
theorem m_s21 : Cond.selects RX5 yX5_toldFit yX5_toldFit ∈ BIG := sl_big _ (List.mem_of_getElem? (l := sl_all) (i := 21) rfl)
theorem m_s22 : Cond.selects RX5 yX5_firstWrong yX5_firstWrong ∈ BIG := sl_big _ (List.mem_of_getElem? (l := sl_all) (i := 22) rfl)
theorem m_s23 : Cond.selects RX4 yX4_drawBelow20 yX4_drawBelow20 ∈ BIG := sl_big _ (List.mem_of_getElem? (l := sl_all) (i := 23) rfl)
theorem m_s24 : Cond.selects RX6 yX6_refuse yX6_refuse ∈ BIG := sl_big _ (List.mem_of_getElem? (l := sl_all) (i := 24) rfl)
theorem m_s25 : Cond.selects RX6 yX6_noRow yX6_noRow ∈ BIG := sl_big _ (List.mem_of_getElem? (l := sl_all) (i := 25) rfl)
theorem m_s26 : Cond.selects RX6 yX6_fresh yX6_fresh ∈ BIG := sl_big _ (List.mem_of_getElem? (l := sl_all) (i := 26) rfl)
theorem m_s27 : Cond.selects RX6 yX6_takeFrom yX6_takeFrom ∈ BIG := sl_big _ (List.mem_of_getElem? (l := sl_all) (i := 27) rfl)
theorem m_s28 : Cond.selects RX6 yX6_does yX6_does ∈ BIG := sl_big _ (List.mem_of_getElem? (l := sl_all) (i := 28) rfl)
theorem m_s29 : Cond.selects RX6 yX6_readMost yX6_readMost ∈ BIG := sl_big _ (List.mem_of_getElem? (l := sl_all) (i := 29) rfl)
theorem m_s30 : Cond.selects RX6 yX6_thereMany yX6_thereMany ∈ BIG := sl_big _ (List.mem_of_getElem? (l := sl_all) (i := 30) rfl)
theorem m_s31 : Cond.selects RX6 yX6_isThere yX6_isThere ∈ BIG := sl_big _ (List.mem_of_getElem? (l := sl_all) (i := 31) rfl)
theorem m_s32 : Cond.selects RX6 yX6_isWhite yX6_isWhite ∈ BIG := sl_big _ (List.mem_of_getElem? (l := sl_all) (i := 32) rfl)
theorem m_s33 : Cond.selects RX6 yX6_readerOf yX6_readerOf ∈ BIG := sl_big _ (List.mem_of_getElem? (l := sl_all) (i := 33) rfl)
theorem m_s34 : Cond.selects RX6 yX6_wouldKnow yX6_wouldKnow ∈ BIG := sl_big _ (List.mem_of_getElem? (l := sl_all) (i := 34) rfl)
theorem m_s35 : Cond.selects RX6 yX6_byGround yX6_byGround ∈ BIG := sl_big _ (List.mem_of_getElem? (l := sl_all) (i := 35) rfl)
theorem m_s36 : Cond.selects RX6 yX6_groundOf yX6_groundOf ∈ BIG := sl_big _ (List.mem_of_getElem? (l := sl_all) (i := 36) rfl)
theorem m_s37 : Cond.selects RX6 yX6_readsTo yX6_readsTo ∈ BIG := sl_big _ (List.mem_of_getElem? (l := sl_all) (i := 37) rfl)
theorem m_s38 : Cond.selects RX6 yX6_reads yX6_reads ∈ BIG := sl_big _ (List.mem_of_getElem? (l := sl_all) (i := 38) rfl)
theorem m_s39 : Cond.selects RX6 yX6_chain yX6_chain ∈ BIG := sl_big _ (List.mem_of_getElem? (l := sl_all) (i := 39) rfl)
theorem m_s40 : Cond.selects RX6 yX6_youngestBut yX6_youngestBut ∈ BIG := sl_big _ (List.mem_of_getElem? (l := sl_all) (i := 40) rfl)
theorem m_s41 : Cond.selects RX6 yX6_moreBy yX6_moreBy ∈ BIG := sl_big _ (List.mem_of_getElem? (l := sl_all) (i := 41) rfl)
theorem m_s42 : Cond.selects RX6 yX6_valueNow yX6_valueNow ∈ BIG := sl_big _ (List.mem_of_getElem? (l := sl_all) (i := 42) rfl)
theorem m_s43 : Cond.selects RX6 yX6_valueOf yX6_valueOf ∈ BIG := sl_big _ (List.mem_of_getElem? (l := sl_all) (i := 43) rfl)
theorem m_s44 : Cond.selects RX6 yX6_greatest yX6_greatest ∈ BIG := sl_big _ (List.mem_of_getElem? (l := sl_all) (i := 44) rfl)
theorem m_s45 : Cond.selects RX6 yX6_newBook yX6_newBook ∈ BIG := sl_big _ (List.mem_of_getElem? (l := sl_all) (i := 45) rfl)
theorem m_s46 : Cond.selects RX6 yX6_add yX6_add ∈ BIG := sl_big _ (List.mem_of_getElem? (l := sl_all) (i := 46) rfl)
theorem m_s47 : Cond.selects RX6 yX6_newOne yX6_newOne ∈ BIG := sl_big _ (List.mem_of_getElem? (l := sl_all) (i := 47) rfl)
theorem m_s48 : Cond.selects RX6 yX6_readAll yX6_readAll ∈ BIG := sl_big _ (List.mem_of_getElem? (l := sl_all) (i := 48) rfl)
theorem m_s49 : Cond.selects RX6 yX6_look yX6_look ∈ BIG := sl_big _ (List.mem_of_getElem? (l := sl_all) (i := 49) rfl)
theorem m_s50 : Cond.selects RX6 yX6_statement yX6_statement ∈ BIG := sl_big _ (List.mem_of_getElem? (l := sl_all) (i := 50) rfl)
theorem m_s51 : Cond.selects RX6 yX6_isWord yX6_isWord ∈ BIG := sl_big _ (List.mem_of_getElem? (l := sl_all) (i := 51) rfl)
theorem m_s52 : Cond.selects RX6 yX6_tells yX6_tells ∈ BIG := sl_big _ (List.mem_of_getElem? (l := sl_all) (i := 52) rfl)
theorem m_s53 : Cond.selects RX6 yX6_wrong yX6_wrong ∈ BIG := sl_big _ (List.mem_of_getElem? (l := sl_all) (i := 53) rfl)
theorem m_s54 : Cond.selects RX6 yX6_number yX6_number ∈ BIG := sl_big _ (List.mem_of_getElem? (l := sl_all) (i := 54) rfl)
theorem m_s55 : Cond.selects RX6 yX6_perhaps yX6_perhaps ∈ BIG := sl_big _ (List.mem_of_getElem? (l := sl_all) (i := 55) rfl)
theorem m_s56 : Cond.selects RX6 yX6_isBook yX6_isBook ∈ BIG := sl_big _ (List.mem_of_getElem? (l := sl_all) (i := 56) rfl)
theorem m_s57 : Cond.selects RX6 yX6_isOne yX6_isOne ∈ BIG := sl_big _ (List.mem_of_getElem? (l := sl_all) (i := 57) rfl)
theorem m_s58 : Cond.selects RX6 yX6_noReading yX6_noReading ∈ BIG := sl_big _ (List.mem_of_getElem? (l := sl_all) (i := 58) rfl)
theorem m_s59 : Cond.selects RX6 yX6_end yX6_end ∈ BIG := sl_big _ (List.mem_of_getElem? (l := sl_all) (i := 59) rfl)
theorem m_s60 : Cond.selects RX6 yX6_noRule yX6_noRule ∈ BIG := sl_big _ (List.mem_of_getElem? (l := sl_all) (i := 60) rfl)
theorem m_s61 : Cond.selects RX6 yX6_sumOf yX6_sumOf ∈ BIG := sl_big _ (List.mem_of_getElem? (l := sl_all) (i := 61) rfl)
theorem m_s62 : Cond.selects RX6 yX6_goes yX6_goes ∈ BIG := sl_big _ (List.mem_of_getElem? (l := sl_all) (i := 62) rfl)
theorem m_s63 : Cond.selects RX6 yX6_whiteMany yX6_whiteMany ∈ BIG := sl_big _ (List.mem_of_getElem? (l := sl_all) (i := 63) rfl)
theorem m_s64 : Cond.selects RX6 yX6_findWho yX6_findWho ∈ BIG := sl_big _ (List.mem_of_getElem? (l := sl_all) (i := 64) rfl)
theorem m_s65 : Cond.selects RX6 yX6_rowsFrom yX6_rowsFrom ∈ BIG := sl_big _ (List.mem_of_getElem? (l := sl_all) (i := 65) rfl)
theorem m_s66 : Cond.selects RX6 yX6_lostBy yX6_lostBy ∈ BIG := sl_big _ (List.mem_of_getElem? (l := sl_all) (i := 66) rfl)
theorem m_s67 : Cond.selects RX6 yX6_noTold yX6_noTold ∈ BIG := sl_big _ (List.mem_of_getElem? (l := sl_all) (i := 67) rfl)
theorem m_s68 : Cond.selects RX6 yX6_wrongAt yX6_wrongAt ∈ BIG := sl_big _ (List.mem_of_getElem? (l := sl_all) (i := 68) rfl)
theorem m_s69 : Cond.selects RX6 yX6_draw yX6_draw ∈ BIG := sl_big _ (List.mem_of_getElem? (l := sl_all) (i := 69) rfl)
theorem b_nt {w : Cond} (h : w ∈ tables_1) (g : goodWord w = true) : w ∈ BIG := big_of (List.mem_append_right _ h) g
theorem u_all {C : String} {T : u_T} {N : Nat} (hk : ∀ k, k < N → u_lay C T k ∈ BIG) : ∀ w ∈ u_ws C T N, w ∈ BIG := fun w hw => by
  obtain ⟨k, h1, rfl⟩ := List.mem_map.mp hw
  exact hk k (List.mem_range.mp h1)
theorem iX_X0 : ∀ w ∈ u_ws RX0 TX0 4, w ∈ BIG := u_all fun k hk => by
  match k, hk with
  | 0, _ => exact b_nt n_t108 rfl
  | 1, _ => exact b_nt n_t110 rfl
  | 2, _ => exact b_nt n_t112 rfl
  | 3, _ => exact b_nt n_t114 rfl
  | k + 4, h => exact absurd h (by omega)
theorem iX_X2 : ∀ w ∈ u_ws RX2 TX2 4, w ∈ BIG := u_all fun k hk => by
  match k, hk with
  | 0, _ => exact b_nt n_t130 rfl
  | 1, _ => exact b_nt n_t132 rfl
  | 2, _ => exact b_nt n_t134 rfl
  | 3, _ => exact b_nt n_t136 rfl
  | k + 4, h => exact absurd h (by omega)
theorem iX_X3 : ∀ w ∈ u_ws RX3 TX3 7, w ∈ BIG := u_all fun k hk => by
  match k, hk with
  | 0, _ => exact b_nt n_t158 rfl
  | 1, _ => exact b_nt n_t160 rfl
  | 2, _ => exact b_nt n_t162 rfl
  | 3, _ => exact b_nt n_t164 rfl
  | 4, _ => exact b_nt n_t166 rfl
  | 5, _ => exact b_nt n_t168 rfl
  | 6, _ => exact b_nt n_t170 rfl
  | k + 7, h => exact absurd h (by omega)
theorem iX_X4 : ∀ w ∈ u_ws RX4 TX4 13, w ∈ BIG := u_all fun k hk => by
  match k, hk with
  | 0, _ => exact b_nt n_t65 rfl
  | 1, _ => exact b_nt n_t67 rfl
  | 2, _ => exact b_nt n_t69 rfl
  | 3, _ => exact b_nt n_t71 rfl
  | 4, _ => exact b_nt n_t73 rfl
  | 5, _ => exact b_nt n_t75 rfl
  | 6, _ => exact b_nt n_t77 rfl
  | 7, _ => exact b_nt n_t79 rfl
  | 8, _ => exact b_nt n_t81 rfl
  | 9, _ => exact b_nt n_t83 rfl
  | 10, _ => exact b_nt n_t85 rfl
  | 11, _ => exact b_nt n_t87 rfl
  | 12, _ => exact b_nt n_t89 rfl
  | k + 13, h => exact absurd h (by omega)
theorem iX_X5 : ∀ w ∈ u_ws RX5 TX5 9, w ∈ BIG := u_all fun k hk => by
  match k, hk with
  | 0, _ => exact b_nt n_t183 rfl
  | 1, _ => exact b_nt n_t185 rfl
  | 2, _ => exact b_nt n_t187 rfl
  | 3, _ => exact b_nt n_t189 rfl
  | 4, _ => exact b_nt n_t191 rfl
  | 5, _ => exact b_nt n_t193 rfl
  | 6, _ => exact b_nt n_t195 rfl
  | 7, _ => exact b_nt n_t197 rfl
  | 8, _ => exact b_nt n_t199 rfl
  | k + 9, h => exact absurd h (by omega)
theorem iX_X6 : ∀ w ∈ u_ws RX6 TX6 35, w ∈ BIG := u_all fun k hk => by
  match k, hk with
  | 0, _ => exact b_nt n_t885 rfl
  | 1, _ => exact b_nt n_t887 rfl
  | 2, _ => exact b_nt n_t889 rfl
  | 3, _ => exact b_nt n_t891 rfl
  | 4, _ => exact b_nt n_t893 rfl
  | 5, _ => exact b_nt n_t895 rfl
  | 6, _ => exact b_nt n_t897 rfl
  | 7, _ => exact b_nt n_t899 rfl
  | 8, _ => exact b_nt n_t901 rfl
  | 9, _ => exact b_nt n_t903 rfl
  | 10, _ => exact b_nt n_t905 rfl
  | 11, _ => exact b_nt n_t907 rfl
  | 12, _ => exact b_nt n_t909 rfl
  | 13, _ => exact b_nt n_t911 rfl
  | 14, _ => exact b_nt n_t913 rfl
  | 15, _ => exact b_nt n_t915 rfl
  | 16, _ => exact b_nt n_t917 rfl
  | 17, _ => exact b_nt n_t919 rfl
  | 18, _ => exact b_nt n_t921 rfl
  | 19, _ => exact b_nt n_t923 rfl
  | 20, _ => exact b_nt n_t925 rfl
  | 21, _ => exact b_nt n_t927 rfl
  | 22, _ => exact b_nt n_t929 rfl
  | 23, _ => exact b_nt n_t931 rfl
  | 24, _ => exact b_nt n_t933 rfl
  | 25, _ => exact b_nt n_t935 rfl
  | 26, _ => exact b_nt n_t937 rfl
  | 27, _ => exact b_nt n_t939 rfl
  | 28, _ => exact b_nt n_t941 rfl
  | 29, _ => exact b_nt n_t943 rfl
  | 30, _ => exact b_nt n_t945 rfl
  | 31, _ => exact b_nt n_t947 rfl
  | 32, _ => exact b_nt n_t949 rfl
  | 33, _ => exact b_nt n_t951 rfl
  | 34, _ => exact b_nt n_t953 rfl
  | k + 35, h => exact absurd h (by omega)
theorem m_nat : Cond.native arraycopyName ∈ BIG := b_nt n_t264 rfl
theorem df_X0 : ∀ j, j < 4 → defaultValue (tyX0 j) = vp_V [.null, .null, .int 0, .int 0] j := fun j hj => by
  match j, hj with
  | 0, _ => rfl
  | 1, _ => rfl
  | 2, _ => rfl
  | 3, _ => rfl
  | k + 4, h => exact absurd h (by omega)
theorem df_X2 : ∀ j, j < 4 → defaultValue (tyX2 j) = vp_V [.null, .null, .null, .null] j := fun j hj => by
  match j, hj with
  | 0, _ => rfl
  | 1, _ => rfl
  | 2, _ => rfl
  | 3, _ => rfl
  | k + 4, h => exact absurd h (by omega)
theorem df_X3 : ∀ j, j < 7 → defaultValue (tyX3 j) = vp_V [.null, .int 0, .int 0, .int 0, .int 0, .int 0, .null] j := fun j hj => by
  match j, hj with
  | 0, _ => rfl
  | 1, _ => rfl
  | 2, _ => rfl
  | 3, _ => rfl
  | 4, _ => rfl
  | 5, _ => rfl
  | 6, _ => rfl
  | k + 7, h => exact absurd h (by omega)
theorem df_X4 : ∀ j, j < 13 → defaultValue (tyX4 j) = vp_V [.int 0, .int 0, .int 0, .int 0, .int 0, .null, .null, .null, .null, .null, .null, .null, .null] j := fun j hj => by
  match j, hj with
  | 0, _ => rfl
  | 1, _ => rfl
  | 2, _ => rfl
  | 3, _ => rfl
  | 4, _ => rfl
  | 5, _ => rfl
  | 6, _ => rfl
  | 7, _ => rfl
  | 8, _ => rfl
  | 9, _ => rfl
  | 10, _ => rfl
  | 11, _ => rfl
  | 12, _ => rfl
  | k + 13, h => exact absurd h (by omega)
theorem df_X5 : ∀ j, j < 9 → defaultValue (tyX5 j) = vp_V [.null, .null, .null, .null, .null, .null, .int 0, .int 0, .int 0] j := fun j hj => by
  match j, hj with
  | 0, _ => rfl
  | 1, _ => rfl
  | 2, _ => rfl
  | 3, _ => rfl
  | 4, _ => rfl
  | 5, _ => rfl
  | 6, _ => rfl
  | 7, _ => rfl
  | 8, _ => rfl
  | k + 9, h => exact absurd h (by omega)
theorem df_X6 : ∀ j, j < 35 → defaultValue (tyX6 j) = vp_V [.null, .null, .null, .null, .null, .null, .null, .null, .int 0, .null, .int 0, .null, .int 0, .null, .null, .int 0, .int 0, .int 0, .null, .null, .int 0, .int 0, .int 0, .long 0, .int 0, .null, .int 0, .int 0, .int 0, .null, .null, .null, .null, .null, .int 0] j := fun j hj => by
  match j, hj with
  | 0, _ => rfl
  | 1, _ => rfl
  | 2, _ => rfl
  | 3, _ => rfl
  | 4, _ => rfl
  | 5, _ => rfl
  | 6, _ => rfl
  | 7, _ => rfl
  | 8, _ => rfl
  | 9, _ => rfl
  | 10, _ => rfl
  | 11, _ => rfl
  | 12, _ => rfl
  | 13, _ => rfl
  | 14, _ => rfl
  | 15, _ => rfl
  | 16, _ => rfl
  | 17, _ => rfl
  | 18, _ => rfl
  | 19, _ => rfl
  | 20, _ => rfl
  | 21, _ => rfl
  | 22, _ => rfl
  | 23, _ => rfl
  | 24, _ => rfl
  | 25, _ => rfl
  | 26, _ => rfl
  | 27, _ => rfl
  | 28, _ => rfl
  | 29, _ => rfl
  | 30, _ => rfl
  | 31, _ => rfl
  | 32, _ => rfl
  | 33, _ => rfl
  | 34, _ => rfl
  | k + 35, h => exact absurd h (by omega)
end
section
theorem n1_RJ0 : RJ0 ≠ "java/lang/invoke/MethodHandle" := by decide +kernel
theorem n2_RJ0 : RJ0 ≠ "java/lang/invoke/VarHandle" := by decide +kernel
theorem n1_RJ6 : RJ6 ≠ "java/lang/invoke/MethodHandle" := by decide +kernel
theorem n2_RJ6 : RJ6 ≠ "java/lang/invoke/VarHandle" := by decide +kernel
theorem n1_RJ9 : RJ9 ≠ "java/lang/invoke/MethodHandle" := by decide +kernel
theorem n2_RJ9 : RJ9 ≠ "java/lang/invoke/VarHandle" := by decide +kernel
theorem n1_RX0 : RX0 ≠ "java/lang/invoke/MethodHandle" := by decide +kernel
theorem n2_RX0 : RX0 ≠ "java/lang/invoke/VarHandle" := by decide +kernel
theorem n1_RX1 : RX1 ≠ "java/lang/invoke/MethodHandle" := by decide +kernel
theorem n2_RX1 : RX1 ≠ "java/lang/invoke/VarHandle" := by decide +kernel
theorem n1_RX2 : RX2 ≠ "java/lang/invoke/MethodHandle" := by decide +kernel
theorem n2_RX2 : RX2 ≠ "java/lang/invoke/VarHandle" := by decide +kernel
theorem n1_RX3 : RX3 ≠ "java/lang/invoke/MethodHandle" := by decide +kernel
theorem n2_RX3 : RX3 ≠ "java/lang/invoke/VarHandle" := by decide +kernel
theorem n1_RX4 : RX4 ≠ "java/lang/invoke/MethodHandle" := by decide +kernel
theorem n2_RX4 : RX4 ≠ "java/lang/invoke/VarHandle" := by decide +kernel
theorem n1_RX5 : RX5 ≠ "java/lang/invoke/MethodHandle" := by decide +kernel
theorem n2_RX5 : RX5 ≠ "java/lang/invoke/VarHandle" := by decide +kernel
theorem n1_RX6 : RX6 ≠ "java/lang/invoke/MethodHandle" := by decide +kernel
theorem n2_RX6 : RX6 ≠ "java/lang/invoke/VarHandle" := by decide +kernel
theorem ld_yJ0_charAt_5068e_1 : LkD yJ0_charAt_5068e 1 := ⟨n1_RJ0, n2_RJ0, by decide +kernel⟩
theorem ld_yJ0_length_8abf5_0 : LkD yJ0_length_8abf5 0 := ⟨n1_RJ0, n2_RJ0, by decide +kernel⟩
theorem ld_yJ6_bitCount_0f7a4_1 : LkD yJ6_bitCount_0f7a4 1 := ⟨n1_RJ6, n2_RJ6, by decide +kernel⟩
theorem ld_yJ9_max_7cf53_2 : LkD yJ9_max_7cf53 2 := ⟨n1_RJ9, n2_RJ9, by decide +kernel⟩
theorem ld_yX0_bestWho_3 : LkD yX0_bestWho 3 := ⟨n1_RX0, n2_RX0, by decide +kernel⟩
theorem ld_yX0_findKeeping_3 : LkD yX0_findKeeping 3 := ⟨n1_RX0, n2_RX0, by decide +kernel⟩
theorem ld_yX0_init_0 : LkD yX0_init 0 := ⟨n1_RX0, n2_RX0, by decide +kernel⟩
theorem ld_yX0_sumOfRest_2 : LkD yX0_sumOfRest 2 := ⟨n1_RX0, n2_RX0, by decide +kernel⟩
theorem ld_yX0_sumOfRun_4 : LkD yX0_sumOfRun 4 := ⟨n1_RX0, n2_RX0, by decide +kernel⟩
theorem ld_yX0_trialOf_1 : LkD yX0_trialOf 1 := ⟨n1_RX0, n2_RX0, by decide +kernel⟩
theorem ld_yX0_worthByRising_2 : LkD yX0_worthByRising 2 := ⟨n1_RX0, n2_RX0, by decide +kernel⟩
theorem ld_yX1_act_3 : LkD yX1_act 3 := ⟨n1_RX1, n2_RX1, by decide +kernel⟩
theorem ld_yX1_isUnder_2 : LkD yX1_isUnder 2 := ⟨n1_RX1, n2_RX1, by decide +kernel⟩
theorem ld_yX1_readDearest_3 : LkD yX1_readDearest 3 := ⟨n1_RX1, n2_RX1, by decide +kernel⟩
theorem ld_yX1_tellChain_1 : LkD yX1_tellChain 1 := ⟨n1_RX1, n2_RX1, by decide +kernel⟩
theorem ld_yX2_at_2 : LkD yX2_at 2 := ⟨n1_RX2, n2_RX2, by decide +kernel⟩
theorem ld_yX2_countHolding_0 : LkD yX2_countHolding 0 := ⟨n1_RX2, n2_RX2, by decide +kernel⟩
theorem ld_yX2_hasRow_1 : LkD yX2_hasRow 1 := ⟨n1_RX2, n2_RX2, by decide +kernel⟩
theorem ld_yX2_hasRule_1 : LkD yX2_hasRule 1 := ⟨n1_RX2, n2_RX2, by decide +kernel⟩
theorem ld_yX2_init_0 : LkD yX2_init 0 := ⟨n1_RX2, n2_RX2, by decide +kernel⟩
theorem ld_yX2_kindIn_1 : LkD yX2_kindIn 1 := ⟨n1_RX2, n2_RX2, by decide +kernel⟩
theorem ld_yX2_lowestBits_2 : LkD yX2_lowestBits 2 := ⟨n1_RX2, n2_RX2, by decide +kernel⟩
theorem ld_yX2_move_5 : LkD yX2_move 5 := ⟨n1_RX2, n2_RX2, by decide +kernel⟩
theorem ld_yX2_put_3 : LkD yX2_put 3 := ⟨n1_RX2, n2_RX2, by decide +kernel⟩
theorem ld_yX2_putRow_3 : LkD yX2_putRow 3 := ⟨n1_RX2, n2_RX2, by decide +kernel⟩
theorem ld_yX2_putRule_3 : LkD yX2_putRule 3 := ⟨n1_RX2, n2_RX2, by decide +kernel⟩
theorem ld_yX3_append_1 : LkD yX3_append 1 := ⟨n1_RX3, n2_RX3, by decide +kernel⟩
theorem ld_yX3_fail_0 : LkD yX3_fail 0 := ⟨n1_RX3, n2_RX3, by decide +kernel⟩
theorem ld_yX3_init_0 : LkD yX3_init 0 := ⟨n1_RX3, n2_RX3, by decide +kernel⟩
theorem ld_yX3_isWord_1 : LkD yX3_isWord 1 := ⟨n1_RX3, n2_RX3, by decide +kernel⟩
theorem ld_yX3_numberThere_0 : LkD yX3_numberThere 0 := ⟨n1_RX3, n2_RX3, by decide +kernel⟩
theorem ld_yX3_passes_1 : LkD yX3_passes 1 := ⟨n1_RX3, n2_RX3, by decide +kernel⟩
theorem ld_yX3_readBook_0 : LkD yX3_readBook 0 := ⟨n1_RX3, n2_RX3, by decide +kernel⟩
theorem ld_yX3_readFrom_1 : LkD yX3_readFrom 1 := ⟨n1_RX3, n2_RX3, by decide +kernel⟩
theorem ld_yX3_readKnows_0 : LkD yX3_readKnows 0 := ⟨n1_RX3, n2_RX3, by decide +kernel⟩
theorem ld_yX3_readNeed_0 : LkD yX3_readNeed 0 := ⟨n1_RX3, n2_RX3, by decide +kernel⟩
theorem ld_yX3_readOne_0 : LkD yX3_readOne 0 := ⟨n1_RX3, n2_RX3, by decide +kernel⟩
theorem ld_yX3_readStatement_0 : LkD yX3_readStatement 0 := ⟨n1_RX3, n2_RX3, by decide +kernel⟩
theorem ld_yX3_readWhite_0 : LkD yX3_readWhite 0 := ⟨n1_RX3, n2_RX3, by decide +kernel⟩
theorem ld_yX3_sortAt_1 : LkD yX3_sortAt 1 := ⟨n1_RX3, n2_RX3, by decide +kernel⟩
theorem ld_yX3_step_0 : LkD yX3_step 0 := ⟨n1_RX3, n2_RX3, by decide +kernel⟩
theorem ld_yX3_takeNumber_2 : LkD yX3_takeNumber 2 := ⟨n1_RX3, n2_RX3, by decide +kernel⟩
theorem ld_yX4_addBook_2 : LkD yX4_addBook 2 := ⟨n1_RX4, n2_RX4, by decide +kernel⟩
theorem ld_yX4_addOne_4 : LkD yX4_addOne 4 := ⟨n1_RX4, n2_RX4, by decide +kernel⟩
theorem ld_yX4_afterTelling_2 : LkD yX4_afterTelling 2 := ⟨n1_RX4, n2_RX4, by decide +kernel⟩
theorem ld_yX4_allNeededBy_1 : LkD yX4_allNeededBy 1 := ⟨n1_RX4, n2_RX4, by decide +kernel⟩
theorem ld_yX4_allThatNeed_1 : LkD yX4_allThatNeed 1 := ⟨n1_RX4, n2_RX4, by decide +kernel⟩
theorem ld_yX4_become_1 : LkD yX4_become 1 := ⟨n1_RX4, n2_RX4, by decide +kernel⟩
theorem ld_yX4_bestReader_1 : LkD yX4_bestReader 1 := ⟨n1_RX4, n2_RX4, by decide +kernel⟩
theorem ld_yX4_booksKnown_2 : LkD yX4_booksKnown 2 := ⟨n1_RX4, n2_RX4, by decide +kernel⟩
theorem ld_yX4_dearestUnread_0 : LkD yX4_dearestUnread 0 := ⟨n1_RX4, n2_RX4, by decide +kernel⟩
theorem ld_yX4_drawBelow20_0 : LkD yX4_drawBelow20 0 := ⟨n1_RX4, n2_RX4, by decide +kernel⟩
theorem ld_yX4_drawDeaths_0 : LkD yX4_drawDeaths 0 := ⟨n1_RX4, n2_RX4, by decide +kernel⟩
theorem ld_yX4_endYear_0 : LkD yX4_endYear 0 := ⟨n1_RX4, n2_RX4, by decide +kernel⟩
theorem ld_yX4_forget_1 : LkD yX4_forget 1 := ⟨n1_RX4, n2_RX4, by decide +kernel⟩
theorem ld_yX4_gainByReading_1 : LkD yX4_gainByReading 1 := ⟨n1_RX4, n2_RX4, by decide +kernel⟩
theorem ld_yX4_gainByTelling_3 : LkD yX4_gainByTelling 3 := ⟨n1_RX4, n2_RX4, by decide +kernel⟩
theorem ld_yX4_grasped_2 : LkD yX4_grasped 2 := ⟨n1_RX4, n2_RX4, by decide +kernel⟩
theorem ld_yX4_groundOf_2 : LkD yX4_groundOf 2 := ⟨n1_RX4, n2_RX4, by decide +kernel⟩
theorem ld_yX4_hearFrom_3 : LkD yX4_hearFrom 3 := ⟨n1_RX4, n2_RX4, by decide +kernel⟩
theorem ld_yX4_init_0 : LkD yX4_init 0 := ⟨n1_RX4, n2_RX4, by decide +kernel⟩
theorem ld_yX4_isBook_1 : LkD yX4_isBook 1 := ⟨n1_RX4, n2_RX4, by decide +kernel⟩
theorem ld_yX4_isOne_1 : LkD yX4_isOne 1 := ⟨n1_RX4, n2_RX4, by decide +kernel⟩
theorem ld_yX4_knows_2 : LkD yX4_knows 2 := ⟨n1_RX4, n2_RX4, by decide +kernel⟩
theorem ld_yX4_learn_3 : LkD yX4_learn 3 := ⟨n1_RX4, n2_RX4, by decide +kernel⟩
theorem ld_yX4_mostKnown_2 : LkD yX4_mostKnown 2 := ⟨n1_RX4, n2_RX4, by decide +kernel⟩
theorem ld_yX4_readBy_2 : LkD yX4_readBy 2 := ⟨n1_RX4, n2_RX4, by decide +kernel⟩
theorem ld_yX4_setThere_0 : LkD yX4_setThere 0 := ⟨n1_RX4, n2_RX4, by decide +kernel⟩
theorem ld_yX4_tellTo_3 : LkD yX4_tellTo 3 := ⟨n1_RX4, n2_RX4, by decide +kernel⟩
theorem ld_yX4_unreadAt_1 : LkD yX4_unreadAt 1 := ⟨n1_RX4, n2_RX4, by decide +kernel⟩
theorem ld_yX4_worthAmong_1 : LkD yX4_worthAmong 1 := ⟨n1_RX4, n2_RX4, by decide +kernel⟩
theorem ld_yX4_worthNow_0 : LkD yX4_worthNow 0 := ⟨n1_RX4, n2_RX4, by decide +kernel⟩
theorem ld_yX4_wouldKnow_2 : LkD yX4_wouldKnow 2 := ⟨n1_RX4, n2_RX4, by decide +kernel⟩
theorem ld_yX4_writeBy_2 : LkD yX4_writeBy 2 := ⟨n1_RX4, n2_RX4, by decide +kernel⟩
theorem ld_yX4_youngestBut_1 : LkD yX4_youngestBut 1 := ⟨n1_RX4, n2_RX4, by decide +kernel⟩
theorem ld_yX5_aloud_3 : LkD yX5_aloud 3 := ⟨n1_RX5, n2_RX5, by decide +kernel⟩
theorem ld_yX5_alter_3 : LkD yX5_alter 3 := ⟨n1_RX5, n2_RX5, by decide +kernel⟩
theorem ld_yX5_back_0 : LkD yX5_back 0 := ⟨n1_RX5, n2_RX5, by decide +kernel⟩
theorem ld_yX5_bear_1 : LkD yX5_bear 1 := ⟨n1_RX5, n2_RX5, by decide +kernel⟩
theorem ld_yX5_book_2 : LkD yX5_book 2 := ⟨n1_RX5, n2_RX5, by decide +kernel⟩
theorem ld_yX5_bookOf_2 : LkD yX5_bookOf 2 := ⟨n1_RX5, n2_RX5, by decide +kernel⟩
theorem ld_yX5_canBeOne_4 : LkD yX5_canBeOne 4 := ⟨n1_RX5, n2_RX5, by decide +kernel⟩
theorem ld_yX5_canBeTold_2 : LkD yX5_canBeTold 2 := ⟨n1_RX5, n2_RX5, by decide +kernel⟩
theorem ld_yX5_copy_5 : LkD yX5_copy 5 := ⟨n1_RX5, n2_RX5, by decide +kernel⟩
theorem ld_yX5_copyFit_2 : LkD yX5_copyFit 2 := ⟨n1_RX5, n2_RX5, by decide +kernel⟩
theorem ld_yX5_element_2 : LkD yX5_element 2 := ⟨n1_RX5, n2_RX5, by decide +kernel⟩
theorem ld_yX5_ends_0 : LkD yX5_ends 0 := ⟨n1_RX5, n2_RX5, by decide +kernel⟩
theorem ld_yX5_feed_2 : LkD yX5_feed 2 := ⟨n1_RX5, n2_RX5, by decide +kernel⟩
theorem ld_yX5_firstWrong_2 : LkD yX5_firstWrong 2 := ⟨n1_RX5, n2_RX5, by decide +kernel⟩
theorem ld_yX5_gains_2 : LkD yX5_gains 2 := ⟨n1_RX5, n2_RX5, by decide +kernel⟩
theorem ld_yX5_ground_2 : LkD yX5_ground 2 := ⟨n1_RX5, n2_RX5, by decide +kernel⟩
theorem ld_yX5_hangs_0 : LkD yX5_hangs 0 := ⟨n1_RX5, n2_RX5, by decide +kernel⟩
theorem ld_yX5_has_2 : LkD yX5_has 2 := ⟨n1_RX5, n2_RX5, by decide +kernel⟩
theorem ld_yX5_hasSpan_3 : LkD yX5_hasSpan 3 := ⟨n1_RX5, n2_RX5, by decide +kernel⟩
theorem ld_yX5_head_1 : LkD yX5_head 1 := ⟨n1_RX5, n2_RX5, by decide +kernel⟩
theorem ld_yX5_holds_1 : LkD yX5_holds 1 := ⟨n1_RX5, n2_RX5, by decide +kernel⟩
theorem ld_yX5_image_0 : LkD yX5_image 0 := ⟨n1_RX5, n2_RX5, by decide +kernel⟩
theorem ld_yX5_init_0 : LkD yX5_init 0 := ⟨n1_RX5, n2_RX5, by decide +kernel⟩
theorem ld_yX5_isPair_2 : LkD yX5_isPair 2 := ⟨n1_RX5, n2_RX5, by decide +kernel⟩
theorem ld_yX5_isSetOf_2 : LkD yX5_isSetOf 2 := ⟨n1_RX5, n2_RX5, by decide +kernel⟩
theorem ld_yX5_isShelf_1 : LkD yX5_isShelf 1 := ⟨n1_RX5, n2_RX5, by decide +kernel⟩
theorem ld_yX5_judge_2 : LkD yX5_judge 2 := ⟨n1_RX5, n2_RX5, by decide +kernel⟩
theorem ld_yX5_keeping_2 : LkD yX5_keeping 2 := ⟨n1_RX5, n2_RX5, by decide +kernel⟩
theorem ld_yX5_known_2 : LkD yX5_known 2 := ⟨n1_RX5, n2_RX5, by decide +kernel⟩
theorem ld_yX5_left_3 : LkD yX5_left 3 := ⟨n1_RX5, n2_RX5, by decide +kernel⟩
theorem ld_yX5_longest_3 : LkD yX5_longest 3 := ⟨n1_RX5, n2_RX5, by decide +kernel⟩
theorem ld_yX5_lost_1 : LkD yX5_lost 1 := ⟨n1_RX5, n2_RX5, by decide +kernel⟩
theorem ld_yX5_needs_2 : LkD yX5_needs 2 := ⟨n1_RX5, n2_RX5, by decide +kernel⟩
theorem ld_yX5_next_0 : LkD yX5_next 0 := ⟨n1_RX5, n2_RX5, by decide +kernel⟩
theorem ld_yX5_one_4 : LkD yX5_one 4 := ⟨n1_RX5, n2_RX5, by decide +kernel⟩
theorem ld_yX5_oneOf_2 : LkD yX5_oneOf 2 := ⟨n1_RX5, n2_RX5, by decide +kernel⟩
theorem ld_yX5_ones_2 : LkD yX5_ones 2 := ⟨n1_RX5, n2_RX5, by decide +kernel⟩
theorem ld_yX5_order_2 : LkD yX5_order 2 := ⟨n1_RX5, n2_RX5, by decide +kernel⟩
theorem ld_yX5_read_2 : LkD yX5_read 2 := ⟨n1_RX5, n2_RX5, by decide +kernel⟩
theorem ld_yX5_readFit_2 : LkD yX5_readFit 2 := ⟨n1_RX5, n2_RX5, by decide +kernel⟩
theorem ld_yX5_reader_1 : LkD yX5_reader 1 := ⟨n1_RX5, n2_RX5, by decide +kernel⟩
theorem ld_yX5_refuse_1 : LkD yX5_refuse 1 := ⟨n1_RX5, n2_RX5, by decide +kernel⟩
theorem ld_yX5_row_3 : LkD yX5_row 3 := ⟨n1_RX5, n2_RX5, by decide +kernel⟩
theorem ld_yX5_rowFit_1 : LkD yX5_rowFit 1 := ⟨n1_RX5, n2_RX5, by decide +kernel⟩
theorem ld_yX5_rule_3 : LkD yX5_rule 3 := ⟨n1_RX5, n2_RX5, by decide +kernel⟩
theorem ld_yX5_ruleFit_1 : LkD yX5_ruleFit 1 := ⟨n1_RX5, n2_RX5, by decide +kernel⟩
theorem ld_yX5_run_3 : LkD yX5_run 3 := ⟨n1_RX5, n2_RX5, by decide +kernel⟩
theorem ld_yX5_says_2 : LkD yX5_says 2 := ⟨n1_RX5, n2_RX5, by decide +kernel⟩
theorem ld_yX5_seed_1 : LkD yX5_seed 1 := ⟨n1_RX5, n2_RX5, by decide +kernel⟩
theorem ld_yX5_set_3 : LkD yX5_set 3 := ⟨n1_RX5, n2_RX5, by decide +kernel⟩
theorem ld_yX5_setOfAll_1 : LkD yX5_setOfAll 1 := ⟨n1_RX5, n2_RX5, by decide +kernel⟩
theorem ld_yX5_status_1 : LkD yX5_status 1 := ⟨n1_RX5, n2_RX5, by decide +kernel⟩
theorem ld_yX5_teach_2 : LkD yX5_teach 2 := ⟨n1_RX5, n2_RX5, by decide +kernel⟩
theorem ld_yX5_tell_3 : LkD yX5_tell 3 := ⟨n1_RX5, n2_RX5, by decide +kernel⟩
theorem ld_yX5_told_2 : LkD yX5_told 2 := ⟨n1_RX5, n2_RX5, by decide +kernel⟩
theorem ld_yX5_toldFit_2 : LkD yX5_toldFit 2 := ⟨n1_RX5, n2_RX5, by decide +kernel⟩
theorem ld_yX5_town_0 : LkD yX5_town 0 := ⟨n1_RX5, n2_RX5, by decide +kernel⟩
theorem ld_yX5_two_2 : LkD yX5_two 2 := ⟨n1_RX5, n2_RX5, by decide +kernel⟩
theorem ld_yX5_value_0 : LkD yX5_value 0 := ⟨n1_RX5, n2_RX5, by decide +kernel⟩
theorem ld_yX5_who_2 : LkD yX5_who 2 := ⟨n1_RX5, n2_RX5, by decide +kernel⟩
theorem ld_yX5_wipe_0 : LkD yX5_wipe 0 := ⟨n1_RX5, n2_RX5, by decide +kernel⟩
theorem ld_yX5_within_3 : LkD yX5_within 3 := ⟨n1_RX5, n2_RX5, by decide +kernel⟩
theorem ld_yX5_would_2 : LkD yX5_would 2 := ⟨n1_RX5, n2_RX5, by decide +kernel⟩
theorem ld_yX5_write_2 : LkD yX5_write 2 := ⟨n1_RX5, n2_RX5, by decide +kernel⟩
theorem ld_yX5_years_2 : LkD yX5_years 2 := ⟨n1_RX5, n2_RX5, by decide +kernel⟩
theorem ld_yX5_youngest_1 : LkD yX5_youngest 1 := ⟨n1_RX5, n2_RX5, by decide +kernel⟩
theorem ld_yX6_add_4 : LkD yX6_add 4 := ⟨n1_RX6, n2_RX6, by decide +kernel⟩
theorem ld_yX6_aloud_3 : LkD yX6_aloud 3 := ⟨n1_RX6, n2_RX6, by decide +kernel⟩
theorem ld_yX6_alter_3 : LkD yX6_alter 3 := ⟨n1_RX6, n2_RX6, by decide +kernel⟩
theorem ld_yX6_back_0 : LkD yX6_back 0 := ⟨n1_RX6, n2_RX6, by decide +kernel⟩
theorem ld_yX6_bear_1 : LkD yX6_bear 1 := ⟨n1_RX6, n2_RX6, by decide +kernel⟩
theorem ld_yX6_bits_1 : LkD yX6_bits 1 := ⟨n1_RX6, n2_RX6, by decide +kernel⟩
theorem ld_yX6_book_2 : LkD yX6_book 2 := ⟨n1_RX6, n2_RX6, by decide +kernel⟩
theorem ld_yX6_bookOf_2 : LkD yX6_bookOf 2 := ⟨n1_RX6, n2_RX6, by decide +kernel⟩
theorem ld_yX6_byGround_3 : LkD yX6_byGround 3 := ⟨n1_RX6, n2_RX6, by decide +kernel⟩
theorem ld_yX6_chain_0 : LkD yX6_chain 0 := ⟨n1_RX6, n2_RX6, by decide +kernel⟩
theorem ld_yX6_copy_5 : LkD yX6_copy 5 := ⟨n1_RX6, n2_RX6, by decide +kernel⟩
theorem ld_yX6_does_2 : LkD yX6_does 2 := ⟨n1_RX6, n2_RX6, by decide +kernel⟩
theorem ld_yX6_draw_1 : LkD yX6_draw 1 := ⟨n1_RX6, n2_RX6, by decide +kernel⟩
theorem ld_yX6_element_2 : LkD yX6_element 2 := ⟨n1_RX6, n2_RX6, by decide +kernel⟩
theorem ld_yX6_end_0 : LkD yX6_end 0 := ⟨n1_RX6, n2_RX6, by decide +kernel⟩
theorem ld_yX6_ends_0 : LkD yX6_ends 0 := ⟨n1_RX6, n2_RX6, by decide +kernel⟩
theorem ld_yX6_feed_2 : LkD yX6_feed 2 := ⟨n1_RX6, n2_RX6, by decide +kernel⟩
theorem ld_yX6_findWho_2 : LkD yX6_findWho 2 := ⟨n1_RX6, n2_RX6, by decide +kernel⟩
theorem ld_yX6_fit_2 : LkD yX6_fit 2 := ⟨n1_RX6, n2_RX6, by decide +kernel⟩
theorem ld_yX6_fresh_0 : LkD yX6_fresh 0 := ⟨n1_RX6, n2_RX6, by decide +kernel⟩
theorem ld_yX6_gains_2 : LkD yX6_gains 2 := ⟨n1_RX6, n2_RX6, by decide +kernel⟩
theorem ld_yX6_goes_3 : LkD yX6_goes 3 := ⟨n1_RX6, n2_RX6, by decide +kernel⟩
theorem ld_yX6_greatest_2 : LkD yX6_greatest 2 := ⟨n1_RX6, n2_RX6, by decide +kernel⟩
theorem ld_yX6_ground_2 : LkD yX6_ground 2 := ⟨n1_RX6, n2_RX6, by decide +kernel⟩
theorem ld_yX6_groundOf_2 : LkD yX6_groundOf 2 := ⟨n1_RX6, n2_RX6, by decide +kernel⟩
theorem ld_yX6_hangs_0 : LkD yX6_hangs 0 := ⟨n1_RX6, n2_RX6, by decide +kernel⟩
theorem ld_yX6_head_1 : LkD yX6_head 1 := ⟨n1_RX6, n2_RX6, by decide +kernel⟩
theorem ld_yX6_holds_1 : LkD yX6_holds 1 := ⟨n1_RX6, n2_RX6, by decide +kernel⟩
theorem ld_yX6_image_0 : LkD yX6_image 0 := ⟨n1_RX6, n2_RX6, by decide +kernel⟩
theorem ld_yX6_in_3 : LkD yX6_in 3 := ⟨n1_RX6, n2_RX6, by decide +kernel⟩
theorem ld_yX6_init_0 : LkD yX6_init 0 := ⟨n1_RX6, n2_RX6, by decide +kernel⟩
theorem ld_yX6_isBook_1 : LkD yX6_isBook 1 := ⟨n1_RX6, n2_RX6, by decide +kernel⟩
theorem ld_yX6_isDigit_1 : LkD yX6_isDigit 1 := ⟨n1_RX6, n2_RX6, by decide +kernel⟩
theorem ld_yX6_isLetter_1 : LkD yX6_isLetter 1 := ⟨n1_RX6, n2_RX6, by decide +kernel⟩
theorem ld_yX6_isOne_1 : LkD yX6_isOne 1 := ⟨n1_RX6, n2_RX6, by decide +kernel⟩
theorem ld_yX6_isThere_1 : LkD yX6_isThere 1 := ⟨n1_RX6, n2_RX6, by decide +kernel⟩
theorem ld_yX6_isUnder_2 : LkD yX6_isUnder 2 := ⟨n1_RX6, n2_RX6, by decide +kernel⟩
theorem ld_yX6_isWhite_1 : LkD yX6_isWhite 1 := ⟨n1_RX6, n2_RX6, by decide +kernel⟩
theorem ld_yX6_isWord_1 : LkD yX6_isWord 1 := ⟨n1_RX6, n2_RX6, by decide +kernel⟩
theorem ld_yX6_judge_2 : LkD yX6_judge 2 := ⟨n1_RX6, n2_RX6, by decide +kernel⟩
theorem ld_yX6_keeping_2 : LkD yX6_keeping 2 := ⟨n1_RX6, n2_RX6, by decide +kernel⟩
theorem ld_yX6_known_2 : LkD yX6_known 2 := ⟨n1_RX6, n2_RX6, by decide +kernel⟩
theorem ld_yX6_left_3 : LkD yX6_left 3 := ⟨n1_RX6, n2_RX6, by decide +kernel⟩
theorem ld_yX6_leftOf_3 : LkD yX6_leftOf 3 := ⟨n1_RX6, n2_RX6, by decide +kernel⟩
theorem ld_yX6_longest_3 : LkD yX6_longest 3 := ⟨n1_RX6, n2_RX6, by decide +kernel⟩
theorem ld_yX6_look_0 : LkD yX6_look 0 := ⟨n1_RX6, n2_RX6, by decide +kernel⟩
theorem ld_yX6_lost_1 : LkD yX6_lost 1 := ⟨n1_RX6, n2_RX6, by decide +kernel⟩
theorem ld_yX6_lostBy_2 : LkD yX6_lostBy 2 := ⟨n1_RX6, n2_RX6, by decide +kernel⟩
theorem ld_yX6_moreBy_3 : LkD yX6_moreBy 3 := ⟨n1_RX6, n2_RX6, by decide +kernel⟩
theorem ld_yX6_needs_2 : LkD yX6_needs 2 := ⟨n1_RX6, n2_RX6, by decide +kernel⟩
theorem ld_yX6_newBook_1 : LkD yX6_newBook 1 := ⟨n1_RX6, n2_RX6, by decide +kernel⟩
theorem ld_yX6_newOne_0 : LkD yX6_newOne 0 := ⟨n1_RX6, n2_RX6, by decide +kernel⟩
theorem ld_yX6_next_0 : LkD yX6_next 0 := ⟨n1_RX6, n2_RX6, by decide +kernel⟩
theorem ld_yX6_noReading_2 : LkD yX6_noReading 2 := ⟨n1_RX6, n2_RX6, by decide +kernel⟩
theorem ld_yX6_noRow_1 : LkD yX6_noRow 1 := ⟨n1_RX6, n2_RX6, by decide +kernel⟩
theorem ld_yX6_noRule_1 : LkD yX6_noRule 1 := ⟨n1_RX6, n2_RX6, by decide +kernel⟩
theorem ld_yX6_noTold_2 : LkD yX6_noTold 2 := ⟨n1_RX6, n2_RX6, by decide +kernel⟩
theorem ld_yX6_number_4 : LkD yX6_number 4 := ⟨n1_RX6, n2_RX6, by decide +kernel⟩
theorem ld_yX6_one_4 : LkD yX6_one 4 := ⟨n1_RX6, n2_RX6, by decide +kernel⟩
theorem ld_yX6_oneOf_2 : LkD yX6_oneOf 2 := ⟨n1_RX6, n2_RX6, by decide +kernel⟩
theorem ld_yX6_ones_2 : LkD yX6_ones 2 := ⟨n1_RX6, n2_RX6, by decide +kernel⟩
theorem ld_yX6_order_2 : LkD yX6_order 2 := ⟨n1_RX6, n2_RX6, by decide +kernel⟩
theorem ld_yX6_overAll_2 : LkD yX6_overAll 2 := ⟨n1_RX6, n2_RX6, by decide +kernel⟩
theorem ld_yX6_perhaps_5 : LkD yX6_perhaps 5 := ⟨n1_RX6, n2_RX6, by decide +kernel⟩
theorem ld_yX6_read_2 : LkD yX6_read 2 := ⟨n1_RX6, n2_RX6, by decide +kernel⟩
theorem ld_yX6_readAll_0 : LkD yX6_readAll 0 := ⟨n1_RX6, n2_RX6, by decide +kernel⟩
theorem ld_yX6_readMost_2 : LkD yX6_readMost 2 := ⟨n1_RX6, n2_RX6, by decide +kernel⟩
theorem ld_yX6_reader_1 : LkD yX6_reader 1 := ⟨n1_RX6, n2_RX6, by decide +kernel⟩
theorem ld_yX6_readerOf_1 : LkD yX6_readerOf 1 := ⟨n1_RX6, n2_RX6, by decide +kernel⟩
theorem ld_yX6_reads_2 : LkD yX6_reads 2 := ⟨n1_RX6, n2_RX6, by decide +kernel⟩
theorem ld_yX6_readsTo_3 : LkD yX6_readsTo 3 := ⟨n1_RX6, n2_RX6, by decide +kernel⟩
theorem ld_yX6_refuse_1 : LkD yX6_refuse 1 := ⟨n1_RX6, n2_RX6, by decide +kernel⟩
theorem ld_yX6_row_3 : LkD yX6_row 3 := ⟨n1_RX6, n2_RX6, by decide +kernel⟩
theorem ld_yX6_rowsFrom_5 : LkD yX6_rowsFrom 5 := ⟨n1_RX6, n2_RX6, by decide +kernel⟩
theorem ld_yX6_rule_3 : LkD yX6_rule 3 := ⟨n1_RX6, n2_RX6, by decide +kernel⟩
theorem ld_yX6_run_3 : LkD yX6_run 3 := ⟨n1_RX6, n2_RX6, by decide +kernel⟩
theorem ld_yX6_says_2 : LkD yX6_says 2 := ⟨n1_RX6, n2_RX6, by decide +kernel⟩
theorem ld_yX6_seed_1 : LkD yX6_seed 1 := ⟨n1_RX6, n2_RX6, by decide +kernel⟩
theorem ld_yX6_set_3 : LkD yX6_set 3 := ⟨n1_RX6, n2_RX6, by decide +kernel⟩
theorem ld_yX6_statement_0 : LkD yX6_statement 0 := ⟨n1_RX6, n2_RX6, by decide +kernel⟩
theorem ld_yX6_status_1 : LkD yX6_status 1 := ⟨n1_RX6, n2_RX6, by decide +kernel⟩
theorem ld_yX6_sumOf_2 : LkD yX6_sumOf 2 := ⟨n1_RX6, n2_RX6, by decide +kernel⟩
theorem ld_yX6_takeFrom_1 : LkD yX6_takeFrom 1 := ⟨n1_RX6, n2_RX6, by decide +kernel⟩
theorem ld_yX6_teach_2 : LkD yX6_teach 2 := ⟨n1_RX6, n2_RX6, by decide +kernel⟩
theorem ld_yX6_tell_3 : LkD yX6_tell 3 := ⟨n1_RX6, n2_RX6, by decide +kernel⟩
theorem ld_yX6_tells_5 : LkD yX6_tells 5 := ⟨n1_RX6, n2_RX6, by decide +kernel⟩
theorem ld_yX6_thereMany_0 : LkD yX6_thereMany 0 := ⟨n1_RX6, n2_RX6, by decide +kernel⟩
theorem ld_yX6_told_2 : LkD yX6_told 2 := ⟨n1_RX6, n2_RX6, by decide +kernel⟩
theorem ld_yX6_town_0 : LkD yX6_town 0 := ⟨n1_RX6, n2_RX6, by decide +kernel⟩
theorem ld_yX6_two_2 : LkD yX6_two 2 := ⟨n1_RX6, n2_RX6, by decide +kernel⟩
theorem ld_yX6_value_0 : LkD yX6_value 0 := ⟨n1_RX6, n2_RX6, by decide +kernel⟩
theorem ld_yX6_valueNow_0 : LkD yX6_valueNow 0 := ⟨n1_RX6, n2_RX6, by decide +kernel⟩
theorem ld_yX6_valueOf_1 : LkD yX6_valueOf 1 := ⟨n1_RX6, n2_RX6, by decide +kernel⟩
theorem ld_yX6_whiteMany_0 : LkD yX6_whiteMany 0 := ⟨n1_RX6, n2_RX6, by decide +kernel⟩
theorem ld_yX6_who_2 : LkD yX6_who 2 := ⟨n1_RX6, n2_RX6, by decide +kernel⟩
theorem ld_yX6_wipe_0 : LkD yX6_wipe 0 := ⟨n1_RX6, n2_RX6, by decide +kernel⟩
theorem ld_yX6_would_2 : LkD yX6_would 2 := ⟨n1_RX6, n2_RX6, by decide +kernel⟩
theorem ld_yX6_wouldKnow_2 : LkD yX6_wouldKnow 2 := ⟨n1_RX6, n2_RX6, by decide +kernel⟩
theorem ld_yX6_write_2 : LkD yX6_write 2 := ⟨n1_RX6, n2_RX6, by decide +kernel⟩
theorem ld_yX6_wrong_0 : LkD yX6_wrong 0 := ⟨n1_RX6, n2_RX6, by decide +kernel⟩
theorem ld_yX6_wrongAt_2 : LkD yX6_wrongAt 2 := ⟨n1_RX6, n2_RX6, by decide +kernel⟩
theorem ld_yX6_years_2 : LkD yX6_years 2 := ⟨n1_RX6, n2_RX6, by decide +kernel⟩
theorem ld_yX6_youngest_1 : LkD yX6_youngest 1 := ⟨n1_RX6, n2_RX6, by decide +kernel⟩
theorem ld_yX6_youngestBut_1 : LkD yX6_youngestBut 1 := ⟨n1_RX6, n2_RX6, by decide +kernel⟩
theorem L_X0_11 : LkIN RX0 11 yX4_init cX4_init 1 0 := ⟨List.mem_of_getElem? (l := nestM) (i := 2) rfl, m_t2, m_t27, ld_yX4_init_0, rfl, m_t26⟩
theorem L_X0_21 : LkV RX0 21 RX4 yX4_become cX4_become 2 none 1 := ⟨m_t306, m_t2, m_t309, ld_yX4_become_1, m_t307, m_t308⟩
theorem L_X0_25 : LkV RX0 25 RX4 yX4_setThere cX4_setThere 1 (some .int) 0 := ⟨m_t650, m_t2, m_t357, ld_yX4_setThere_0, m_t355, m_t356⟩
theorem L_X0_33 : LkS RX0 33 yX1_act cX1_act 3 (some .int) 3 := ⟨m_t651, m_t8, m_t313, ld_yX1_act_3, m_t312⟩
theorem L_X0_39 : LkV RX0 39 RX4 yX4_worthNow cX4_worthNow 1 (some .int) 0 := ⟨m_t652, m_t2, m_t388, ld_yX4_worthNow_0, m_t386, m_t387⟩
theorem L_X0_42 : LkV RX0 42 RX4 yX4_endYear cX4_endYear 3 (some .int) 0 := ⟨m_t653, m_t2, m_t656, ld_yX4_endYear_0, m_t654, m_t655⟩
theorem L_X0_45 : LkV RX0 45 RX4 yX4_worthAmong cX4_worthAmong 4 (some .int) 1 := ⟨m_t686, m_t2, m_t392, ld_yX4_worthAmong_1, m_t390, m_t391⟩
theorem L_X0_52 : LkSN RX0 52 yX5_has cX5_has 2 (some .boolean) 2 := ⟨List.mem_of_getElem? (l := nestM) (i := 8) rfl, m_t1, m_t323, ld_yX5_has_2, m_t322⟩
theorem L_X0_56 : LkV RX0 56 RX4 yX4_readBy cX4_readBy 3 none 2 := ⟨m_t682, m_t2, m_t349, ld_yX4_readBy_2, m_t347, m_t348⟩
theorem L_X0_60 : LkS RX0 60 yX0_sumOfRest cX0_sumOfRest 4 (some .int) 2 := ⟨m_t683, m_t3, m_t685, ld_yX0_sumOfRest_2, m_t684⟩
theorem L_X0_67 : LkV RX0 67 RX0 yX0_bestWho cX0_bestWho 7 (some .int) 3 := ⟨m_t710, m_t3, m_t680, ld_yX0_bestWho_3, m_t678, m_t679⟩
theorem L_X1_9 : LkS RX1 9 yX1_readDearest cX1_readDearest 7 (some .int) 3 := ⟨m_t314, m_t8, m_t316, ld_yX1_readDearest_3, m_t315⟩
theorem L_X1_15 : LkS RX1 15 yX1_tellChain cX1_tellChain 4 none 1 := ⟨m_t366, m_t8, m_t368, ld_yX1_tellChain_1, m_t367⟩
theorem L_X1_19 : LkV RX1 19 RX4 yX4_dearestUnread cX4_dearestUnread 3 (some .int) 0 := ⟨m_t317, m_t2, m_t320, ld_yX4_dearestUnread_0, m_t318, m_t319⟩
theorem L_X1_25 : LkV RX1 25 RX4 yX4_bestReader cX4_bestReader 6 (some .int) 1 := ⟨m_t324, m_t2, m_t327, ld_yX4_bestReader_1, m_t325, m_t326⟩
theorem L_X1_29 : LkV RX1 29 RX4 yX4_readBy cX4_readBy 3 none 2 := ⟨m_t346, m_t2, m_t349, ld_yX4_readBy_2, m_t347, m_t348⟩
theorem L_X1_33 : LkV RX1 33 RX4 yX4_setThere cX4_setThere 1 (some .int) 0 := ⟨m_t354, m_t2, m_t357, ld_yX4_setThere_0, m_t355, m_t356⟩
theorem L_X1_36 : LkV RX1 36 RX4 yX4_hearFrom cX4_hearFrom 9 (some .int) 3 := ⟨m_t361, m_t2, m_t364, ld_yX4_hearFrom_3, m_t362, m_t363⟩
theorem L_X1_47 : LkSN RX1 47 yX5_has cX5_has 2 (some .boolean) 2 := ⟨List.mem_of_getElem? (l := nestM) (i := 7) rfl, m_t1, m_t323, ld_yX5_has_2, m_t322⟩
theorem L_X1_51 : LkV RX1 51 RX4 yX4_youngestBut cX4_youngestBut 4 (some .int) 1 := ⟨m_t370, m_t2, m_t373, ld_yX4_youngestBut_1, m_t371, m_t372⟩
theorem L_X1_57 : LkV RX1 57 RX4 yX4_tellTo cX4_tellTo 4 none 3 := ⟨m_t374, m_t2, m_t377, ld_yX4_tellTo_3, m_t375, m_t376⟩
theorem L_X2_25 : LkS RX2 25 yX2_lowestBits cX2_lowestBits 3 (some .long) 2 := ⟨m_t243, m_t4, m_t245, ld_yX2_lowestBits_2, m_t244⟩
theorem L_X3_17 : LkIN RX3 17 yX4_init cX4_init 1 0 := ⟨List.mem_of_getElem? (l := nestM) (i := 4) rfl, m_t2, m_t27, ld_yX4_init_0, rfl, m_t26⟩
theorem L_X3_26 : LkV RX3 26 RX4 yX4_become cX4_become 2 none 1 := ⟨m_t446, m_t2, m_t309, ld_yX4_become_1, m_t307, m_t308⟩
theorem L_X3_36 : LkV RX3 36 RX3 yX3_step cX3_step 2 none 0 := ⟨m_t447, m_t5, m_t450, ld_yX3_step_0, m_t449, m_s5⟩
theorem L_X3_39 : LkV RX3 39 RX3 yX3_readStatement cX3_readStatement 1 none 0 := ⟨m_t455, m_t5, m_t458, ld_yX3_readStatement_0, m_t457, m_s7⟩
theorem L_X3_45 : LkV RX3 45 RX3 yX3_fail cX3_fail 1 none 0 := ⟨m_t516, m_t5, m_t519, ld_yX3_fail_0, m_t518, m_s10⟩
theorem L_X3_50 : LkV RX3 50 RX3 yX3_isWord cX3_isWord 3 (some .boolean) 1 := ⟨m_t460, m_t5, m_t463, ld_yX3_isWord_1, m_t462, m_s8⟩
theorem L_X3_54 : LkV RX3 54 RX3 yX3_readBook cX3_readBook 3 none 0 := ⟨m_t512, m_t5, m_t515, ld_yX3_readBook_0, m_t514, m_s9⟩
theorem L_X3_59 : LkV RX3 59 RX3 yX3_readNeed cX3_readNeed 3 none 0 := ⟨m_t535, m_t5, m_t538, ld_yX3_readNeed_0, m_t537, m_s14⟩
theorem L_X3_64 : LkV RX3 64 RX3 yX3_readOne cX3_readOne 5 none 0 := ⟨m_t540, m_t5, m_t543, ld_yX3_readOne_0, m_t542, m_s15⟩
theorem L_X3_69 : LkV RX3 69 RX3 yX3_readKnows cX3_readKnows 4 none 0 := ⟨m_t549, m_t5, m_t552, ld_yX3_readKnows_0, m_t551, m_s16⟩
theorem L_X3_74 : LkV RX3 74 RX3 yX3_readWhite cX3_readWhite 2 none 0 := ⟨m_t555, m_t5, m_t558, ld_yX3_readWhite_0, m_t557, m_s17⟩
theorem L_X3_80 : LkV RX3 80 RX3 yX3_takeNumber cX3_takeNumber 4 (some .int) 2 := ⟨m_t520, m_t5, m_t523, ld_yX3_takeNumber_2, m_t522, m_s11⟩
theorem L_X3_86 : LkV RX3 86 RX3 yX3_passes cX3_passes 2 (some .boolean) 1 := ⟨m_t529, m_t5, m_t532, ld_yX3_passes_1, m_t531, m_s13⟩
theorem L_X3_92 : LkV RX3 92 RX4 yX4_addBook cX4_addBook 4 (some .int) 2 := ⟨m_t533, m_t2, m_t408, ld_yX4_addBook_2, m_t406, m_t407⟩
theorem L_X3_107 : LkV RX3 107 RX4 yX4_addOne cX4_addOne 6 (some .int) 4 := ⟨m_t547, m_t2, m_t421, ld_yX4_addOne_4, m_t419, m_t420⟩
theorem L_X3_111 : LkV RX3 111 RX4 yX4_learn cX4_learn 4 none 3 := ⟨m_t553, m_t2, m_t353, ld_yX4_learn_3, m_t351, m_t352⟩
theorem L_X3_117 : LkV RX3 117 RX3 yX3_numberThere cX3_numberThere 3 (some .int) 0 := ⟨m_t524, m_t5, m_t527, ld_yX3_numberThere_0, m_t526, m_s12⟩
theorem L_X3_124 : LkV RX3 124 RJ0 yJ0_length_8abf5 cJ0_length_8abf5 1 (some .int) 0 := ⟨m_t464, m_t10, m_t467, ld_yJ0_length_8abf5_0, m_t465, m_t466⟩
theorem L_X3_129 : LkV RX3 129 RJ0 yJ0_charAt_5068e cJ0_charAt_5068e 2 (some .char) 1 := ⟨m_t474, m_t10, m_t477, ld_yJ0_charAt_5068e_1, m_t475, m_t476⟩
theorem L_X3_133 : LkV RX3 133 RX3 yX3_sortAt cX3_sortAt 3 (some .int) 1 := ⟨m_t451, m_t5, m_t454, ld_yX3_sortAt_1, m_t453, m_s6⟩
theorem L_X4_58 : LkSN RX4 58 yX5_setOfAll cX5_setOfAll 1 (some .int) 1 := ⟨List.mem_of_getElem? (l := nestM) (i := 6) rfl, m_t1, m_t360, ld_yX5_setOfAll_1, m_t359⟩
theorem L_X4_62 : LkSN RX4 62 yX5_has cX5_has 2 (some .boolean) 2 := ⟨List.mem_of_getElem? (l := nestM) (i := 5) rfl, m_t1, m_t323, ld_yX5_has_2, m_t322⟩
theorem L_X4_66 : LkV RX4 66 RX4 yX4_knows cX4_knows 3 (some .int) 2 := ⟨m_t339, m_t2, m_t342, ld_yX4_knows_2, m_t340, m_t341⟩
theorem L_X4_70 : LkS RX4 70 yJ9_max_7cf53 cJ9_max_7cf53 2 (some .int) 2 := ⟨m_t343, m_t9, m_t345, ld_yJ9_max_7cf53_2, m_t344⟩
theorem L_X4_75 : LkV RX4 75 RX4 yX4_mostKnown cX4_mostKnown 5 (some .int) 2 := ⟨m_t393, m_t2, m_t396, ld_yX4_mostKnown_2, m_t394, m_t395⟩
theorem L_X4_78 : LkV RX4 78 RX4 yX4_setThere cX4_setThere 1 (some .int) 0 := ⟨m_t365, m_t2, m_t357, ld_yX4_setThere_0, m_t355, m_t356⟩
theorem L_X4_82 : LkV RX4 82 RX4 yX4_worthAmong cX4_worthAmong 4 (some .int) 1 := ⟨m_t389, m_t2, m_t392, ld_yX4_worthAmong_1, m_t390, m_t391⟩
theorem L_X4_85 : LkV RX4 85 RX4 yX4_groundOf cX4_groundOf 5 (some .int) 2 := ⟨m_t332, m_t2, m_t335, ld_yX4_groundOf_2, m_t333, m_t334⟩
theorem L_X4_88 : LkS RX4 88 yX4_grasped cX4_grasped 2 (some .int) 2 := ⟨m_t336, m_t2, m_t338, ld_yX4_grasped_2, m_t337⟩
theorem L_X4_91 : LkV RX4 91 RX4 yX4_wouldKnow cX4_wouldKnow 4 (some .int) 2 := ⟨m_t328, m_t2, m_t331, ld_yX4_wouldKnow_2, m_t329, m_t330⟩
theorem L_X4_94 : LkV RX4 94 RX4 yX4_learn cX4_learn 4 none 3 := ⟨m_t350, m_t2, m_t353, ld_yX4_learn_3, m_t351, m_t352⟩
theorem L_X4_98 : LkS RX4 98 yX4_afterTelling cX4_afterTelling 2 (some .int) 2 := ⟨m_t382, m_t2, m_t384, ld_yX4_afterTelling_2, m_t383⟩
theorem L_X4_101 : LkV RX4 101 RX4 yX4_gainByTelling cX4_gainByTelling 4 (some .int) 3 := ⟨m_t378, m_t2, m_t381, ld_yX4_gainByTelling_3, m_t379, m_t380⟩
theorem L_X4_105 : LkV RX4 105 RX4 yX4_bestReader cX4_bestReader 6 (some .int) 1 := ⟨m_t770, m_t2, m_t327, ld_yX4_bestReader_1, m_t325, m_t326⟩
theorem L_X4_108 : LkV RX4 108 RX4 yX4_allNeededBy cX4_allNeededBy 4 (some .int) 1 := ⟨m_t757, m_t2, m_t760, ld_yX4_allNeededBy_1, m_t758, m_t759⟩
theorem L_X4_111 : LkV RX4 111 RX4 yX4_forget cX4_forget 4 none 1 := ⟨m_t657, m_t2, m_t660, ld_yX4_forget_1, m_t659, m_s20⟩
theorem L_X4_115 : LkS RX4 115 yJ6_bitCount_0f7a4 cJ6_bitCount_0f7a4 1 (some .int) 1 := ⟨m_t661, m_t14, m_t663, ld_yJ6_bitCount_0f7a4_1, m_t662⟩
theorem L_X4_120 : LkV RX4 120 RX4 yX4_drawBelow20 cX4_drawBelow20 1 (some .int) 0 := ⟨m_t806, m_t2, m_t809, ld_yX4_drawBelow20_0, m_t808, m_s23⟩
theorem L_X5_9 : LkIN RX5 9 yX4_init cX4_init 1 0 := ⟨List.mem_of_getElem? (l := nestM) (i := 0) rfl, m_t2, m_t27, ld_yX4_init_0, rfl, m_t26⟩
theorem L_X5_21 : LkIN RX5 21 yX0_init cX0_init 1 0 := ⟨List.mem_of_getElem? (l := nestM) (i := 1) rfl, m_t3, m_t97, ld_yX0_init_0, rfl, m_t96⟩
theorem L_X5_28 : LkI RX5 28 yX2_init cX2_init 2 0 := ⟨m_t119, m_t4, m_t121, ld_yX2_init_0, rfl, m_t120⟩
theorem L_X5_35 : LkIN RX5 35 yX3_init cX3_init 1 0 := ⟨List.mem_of_getElem? (l := nestM) (i := 3) rfl, m_t5, m_t144, ld_yX3_init_0, rfl, m_t143⟩
theorem L_X5_44 : LkS RX5 44 yX5_isShelf cX5_isShelf 1 (some .boolean) 1 := ⟨m_t206, m_t1, m_t208, ld_yX5_isShelf_1, m_t207⟩
theorem L_X5_50 : LkS RX5 50 yX5_within cX5_within 6 (some .boolean) 3 := ⟨m_t210, m_t1, m_t212, ld_yX5_within_3, m_t211⟩
theorem L_X5_56 : LkV RX5 56 RX5 yX5_refuse cX5_refuse 3 (some .int) 1 := ⟨m_t215, m_t1, m_t218, ld_yX5_refuse_1, m_t217, m_s0⟩
theorem L_X5_60 : LkV RX5 60 RX2 yX2_putRow cX2_putRow 5 none 3 := ⟨m_t219, m_t4, m_t222, ld_yX2_putRow_3, m_t220, m_t221⟩
theorem L_X5_64 : LkV RX5 64 RX5 yX5_rowFit cX5_rowFit 2 (some .int) 1 := ⟨m_t227, m_t1, m_t230, ld_yX5_rowFit_1, m_t229, m_s1⟩
theorem L_X5_70 : LkV RX5 70 RX2 yX2_put cX2_put 5 none 3 := ⟨m_t239, m_t4, m_t242, ld_yX2_put_3, m_t240, m_t241⟩
theorem L_X5_74 : LkV RX5 74 RX5 yX5_copyFit cX5_copyFit 3 (some .int) 2 := ⟨m_t250, m_t1, m_t253, ld_yX5_copyFit_2, m_t252, m_s2⟩
theorem L_X5_78 : LkV RX5 78 RX5 yX5_hasSpan cX5_hasSpan 4 (some .boolean) 3 := ⟨m_t254, m_t1, m_t257, ld_yX5_hasSpan_3, m_t256, m_s3⟩
theorem L_X5_82 : LkV RX5 82 RX2 yX2_move cX2_move 6 none 5 := ⟨m_t258, m_t4, m_t261, ld_yX2_move_5, m_t259, m_t260⟩
theorem L_X5_86 : LkV RX5 86 RX2 yX2_at cX2_at 3 (some .long) 2 := ⟨m_t269, m_t4, m_t272, ld_yX2_at_2, m_t270, m_t271⟩
theorem L_X5_97 : LkV RX5 97 RX2 yX2_putRule cX2_putRule 4 none 3 := ⟨m_t283, m_t4, m_t286, ld_yX2_putRule_3, m_t284, m_t285⟩
theorem L_X5_100 : LkV RX5 100 RX5 yX5_ruleFit cX5_ruleFit 2 (some .int) 1 := ⟨m_t291, m_t1, m_t294, ld_yX5_ruleFit_1, m_t293, m_s4⟩
theorem L_X5_103 : LkV RX5 103 RX2 yX2_kindIn cX2_kindIn 2 (some .int) 1 := ⟨m_t295, m_t4, m_t298, ld_yX2_kindIn_1, m_t296, m_t297⟩
theorem L_X5_106 : LkS RX5 106 yX1_isUnder cX1_isUnder 2 (some .boolean) 2 := ⟨m_t299, m_t8, m_t301, ld_yX1_isUnder_2, m_t300⟩
theorem L_X5_115 : LkV RX5 115 RX0 yX0_trialOf cX0_trialOf 2 (some (.object "EachBookOnce$Town")) 1 := ⟨m_t302, m_t3, m_t305, ld_yX0_trialOf_1, m_t303, m_t304⟩
theorem L_X5_119 : LkS RX5 119 yX1_act cX1_act 3 (some .int) 3 := ⟨m_t311, m_t8, m_t313, ld_yX1_act_3, m_t312⟩
theorem L_X5_123 : LkV RX5 123 RX4 yX4_worthNow cX4_worthNow 1 (some .int) 0 := ⟨m_t385, m_t2, m_t388, ld_yX4_worthNow_0, m_t386, m_t387⟩
theorem L_X5_131 : LkS RX5 131 yX5_isSetOf cX5_isSetOf 2 (some .boolean) 2 := ⟨m_t401, m_t1, m_t403, ld_yX5_isSetOf_2, m_t402⟩
theorem L_X5_134 : LkV RX5 134 RX4 yX4_addBook cX4_addBook 4 (some .int) 2 := ⟨m_t405, m_t2, m_t408, ld_yX4_addBook_2, m_t406, m_t407⟩
theorem L_X5_137 : LkS RX5 137 yX5_canBeOne cX5_canBeOne 8 (some .boolean) 4 := ⟨m_t413, m_t1, m_t415, ld_yX5_canBeOne_4, m_t414⟩
theorem L_X5_144 : LkV RX5 144 RX4 yX4_addOne cX4_addOne 6 (some .int) 4 := ⟨m_t418, m_t2, m_t421, ld_yX4_addOne_4, m_t419, m_t420⟩
theorem L_X5_150 : LkV RX5 150 RX3 yX3_append cX3_append 2 none 1 := ⟨m_t430, m_t5, m_t433, ld_yX3_append_1, m_t431, m_t432⟩
theorem L_X5_154 : LkV RX5 154 RX3 yX3_readFrom cX3_readFrom 3 (some .int) 1 := ⟨m_t442, m_t5, m_t445, ld_yX3_readFrom_1, m_t443, m_t444⟩
theorem L_X5_164 : LkV RX5 164 RX4 yX4_become cX4_become 2 none 1 := ⟨m_t559, m_t2, m_t309, ld_yX4_become_1, m_t307, m_t308⟩
theorem L_X5_168 : LkV RX5 168 RX4 yX4_isBook cX4_isBook 2 (some .boolean) 1 := ⟨m_t564, m_t2, m_t567, ld_yX4_isBook_1, m_t565, m_t566⟩
theorem L_X5_183 : LkS RX5 183 yX5_has cX5_has 2 (some .boolean) 2 := ⟨m_t568, m_t1, m_t323, ld_yX5_has_2, m_t322⟩
theorem L_X5_186 : LkS RX5 186 yX5_setOfAll cX5_setOfAll 1 (some .int) 1 := ⟨m_t404, m_t1, m_t360, ld_yX5_setOfAll_1, m_t359⟩
theorem L_X5_189 : LkV RX5 189 RX4 yX4_mostKnown cX4_mostKnown 5 (some .int) 2 := ⟨m_t569, m_t2, m_t396, ld_yX4_mostKnown_2, m_t394, m_t395⟩
theorem L_X5_192 : LkV RX5 192 RX4 yX4_isOne cX4_isOne 2 (some .boolean) 1 := ⟨m_t574, m_t2, m_t577, ld_yX4_isOne_1, m_t575, m_t576⟩
theorem L_X5_210 : LkV RX5 210 RX5 yX5_isPair cX5_isPair 3 (some .boolean) 2 := ⟨m_t582, m_t1, m_t585, ld_yX5_isPair_2, m_t584, m_s18⟩
theorem L_X5_213 : LkV RX5 213 RX4 yX4_knows cX4_knows 3 (some .int) 2 := ⟨m_t586, m_t2, m_t342, ld_yX4_knows_2, m_t340, m_t341⟩
theorem L_X5_218 : LkV RX5 218 RX4 yX4_learn cX4_learn 4 none 3 := ⟨m_t592, m_t2, m_t353, ld_yX4_learn_3, m_t351, m_t352⟩
theorem L_X5_221 : LkV RX5 221 RX4 yX4_groundOf cX4_groundOf 5 (some .int) 2 := ⟨m_t597, m_t2, m_t335, ld_yX4_groundOf_2, m_t333, m_t334⟩
theorem L_X5_224 : LkV RX5 224 RX5 yX5_readFit cX5_readFit 3 (some .int) 2 := ⟨m_t602, m_t1, m_t605, ld_yX5_readFit_2, m_t604, m_s19⟩
theorem L_X5_227 : LkV RX5 227 RX4 yX4_wouldKnow cX4_wouldKnow 4 (some .int) 2 := ⟨m_t606, m_t2, m_t331, ld_yX4_wouldKnow_2, m_t329, m_t330⟩
theorem L_X5_230 : LkV RX5 230 RX4 yX4_readBy cX4_readBy 3 none 2 := ⟨m_t611, m_t2, m_t349, ld_yX4_readBy_2, m_t347, m_t348⟩
theorem L_X5_234 : LkV RX5 234 RX4 yX4_hearFrom cX4_hearFrom 9 (some .int) 3 := ⟨m_t616, m_t2, m_t364, ld_yX4_hearFrom_3, m_t362, m_t363⟩
theorem L_X5_238 : LkV RX5 238 RX4 yX4_gainByTelling cX4_gainByTelling 4 (some .int) 3 := ⟨m_t621, m_t2, m_t381, ld_yX4_gainByTelling_3, m_t379, m_t380⟩
theorem L_X5_241 : LkV RX5 241 RX4 yX4_tellTo cX4_tellTo 4 none 3 := ⟨m_t622, m_t2, m_t377, ld_yX4_tellTo_3, m_t375, m_t376⟩
theorem L_X5_244 : LkV RX5 244 RX4 yX4_writeBy cX4_writeBy 3 (some .int) 2 := ⟨m_t627, m_t2, m_t630, ld_yX4_writeBy_2, m_t628, m_t629⟩
theorem L_X5_247 : LkV RX5 247 RX4 yX4_bestReader cX4_bestReader 6 (some .int) 1 := ⟨m_t639, m_t2, m_t327, ld_yX4_bestReader_1, m_t325, m_t326⟩
theorem L_X5_254 : LkV RX5 254 RX0 yX0_sumOfRun cX0_sumOfRun 7 (some .int) 4 := ⟨m_t646, m_t3, m_t649, ld_yX0_sumOfRun_4, m_t647, m_t648⟩
theorem L_X5_264 : LkS RX5 264 yJ6_bitCount_0f7a4 cJ6_bitCount_0f7a4 1 (some .int) 1 := ⟨m_t667, m_t14, m_t663, ld_yJ6_bitCount_0f7a4_1, m_t662⟩
theorem L_X5_269 : LkV RX5 269 RX4 yX4_setThere cX4_setThere 1 (some .int) 0 := ⟨m_t668, m_t2, m_t357, ld_yX4_setThere_0, m_t355, m_t356⟩
theorem L_X5_272 : LkV RX5 272 RX0 yX0_bestWho cX0_bestWho 7 (some .int) 3 := ⟨m_t677, m_t3, m_t680, ld_yX0_bestWho_3, m_t678, m_t679⟩
theorem L_X5_277 : LkV RX5 277 RX0 yX0_worthByRising cX0_worthByRising 4 (some .int) 2 := ⟨m_t692, m_t3, m_t695, ld_yX0_worthByRising_2, m_t693, m_t694⟩
theorem L_X5_281 : LkV RX5 281 RX4 yX4_unreadAt cX4_unreadAt 4 (some .int) 1 := ⟨m_t696, m_t2, m_t699, ld_yX4_unreadAt_1, m_t697, m_t698⟩
theorem L_X5_287 : LkV RX5 287 RX0 yX0_findKeeping cX0_findKeeping 6 (some .boolean) 3 := ⟨m_t706, m_t3, m_t709, ld_yX0_findKeeping_3, m_t707, m_t708⟩
theorem L_X5_294 : LkS RX5 294 yX5_canBeTold cX5_canBeTold 2 (some .boolean) 2 := ⟨m_t715, m_t1, m_t717, ld_yX5_canBeTold_2, m_t716⟩
theorem L_X5_297 : LkS RX5 297 yX4_afterTelling cX4_afterTelling 2 (some .int) 2 := ⟨m_t718, m_t2, m_t384, ld_yX4_afterTelling_2, m_t383⟩
theorem L_X5_300 : LkV RX5 300 RX4 yX4_worthAmong cX4_worthAmong 4 (some .int) 1 := ⟨m_t727, m_t2, m_t392, ld_yX4_worthAmong_1, m_t390, m_t391⟩
theorem L_X5_303 : LkV RX5 303 RX4 yX4_booksKnown cX4_booksKnown 5 (some .int) 2 := ⟨m_t732, m_t2, m_t735, ld_yX4_booksKnown_2, m_t733, m_t734⟩
theorem L_X5_306 : LkV RX5 306 RX4 yX4_youngestBut cX4_youngestBut 4 (some .int) 1 := ⟨m_t744, m_t2, m_t373, ld_yX4_youngestBut_1, m_t371, m_t372⟩
theorem L_X5_309 : LkV RX5 309 RX4 yX4_allThatNeed cX4_allThatNeed 4 (some .int) 1 := ⟨m_t753, m_t2, m_t756, ld_yX4_allThatNeed_1, m_t754, m_t755⟩
theorem L_X5_312 : LkV RX5 312 RX4 yX4_allNeededBy cX4_allNeededBy 4 (some .int) 1 := ⟨m_t761, m_t2, m_t760, ld_yX4_allNeededBy_1, m_t758, m_t759⟩
theorem L_X5_315 : LkV RX5 315 RX4 yX4_gainByReading cX4_gainByReading 3 (some .int) 1 := ⟨m_t766, m_t2, m_t769, ld_yX4_gainByReading_1, m_t767, m_t768⟩
theorem L_X5_318 : LkS RX5 318 yX0_sumOfRest cX0_sumOfRest 4 (some .int) 2 := ⟨m_t779, m_t3, m_t685, ld_yX0_sumOfRest_2, m_t684⟩
theorem L_X5_321 : LkV RX5 321 RX5 yX5_toldFit cX5_toldFit 4 (some .int) 2 := ⟨m_t784, m_t1, m_t787, ld_yX5_toldFit_2, m_t786, m_s21⟩
theorem L_X5_324 : LkV RX5 324 RX5 yX5_firstWrong cX5_firstWrong 9 (some .int) 2 := ⟨m_t789, m_t1, m_t792, ld_yX5_firstWrong_2, m_t791, m_s22⟩
theorem L_X5_329 : LkV RX5 329 RX4 yX4_drawDeaths cX4_drawDeaths 2 none 0 := ⟨m_t802, m_t2, m_t805, ld_yX4_drawDeaths_0, m_t803, m_t804⟩
theorem L_X5_332 : LkV RX5 332 RX4 yX4_endYear cX4_endYear 3 (some .int) 0 := ⟨m_t811, m_t2, m_t656, ld_yX4_endYear_0, m_t654, m_t655⟩
theorem L_X5_352 : LkV RX5 352 RX2 yX2_countHolding cX2_countHolding 3 (some .int) 0 := ⟨m_t834, m_t4, m_t837, ld_yX2_countHolding_0, m_t835, m_t836⟩
theorem L_X5_361 : LkV RX5 361 RX2 yX2_hasRule cX2_hasRule 2 (some .boolean) 1 := ⟨m_t231, m_t4, m_t234, ld_yX2_hasRule_1, m_t232, m_t233⟩
theorem L_X5_364 : LkV RX5 364 RX2 yX2_hasRow cX2_hasRow 2 (some .boolean) 1 := ⟨m_t235, m_t4, m_t238, ld_yX2_hasRow_1, m_t236, m_t237⟩
theorem L_X6_74 : LkS RX6 74 yX6_in cX6_in 6 (some .boolean) 3 := ⟨m_t961, m_t6, m_t963, ld_yX6_in_3, m_t962⟩
theorem L_X6_81 : LkV RX6 81 RX6 yX6_isThere cX6_isThere 2 (some .boolean) 1 := ⟨m_t1030, m_t6, m_t1033, ld_yX6_isThere_1, m_t1032, m_s31⟩
theorem L_X6_91 : LkV RX6 91 RX6 yX6_refuse cX6_refuse 2 (some .int) 1 := ⟨m_t966, m_t6, m_t969, ld_yX6_refuse_1, m_t968, m_s24⟩
theorem L_X6_95 : LkV RX6 95 RX6 yX6_noRow cX6_noRow 2 (some .int) 1 := ⟨m_t974, m_t6, m_t977, ld_yX6_noRow_1, m_t976, m_s25⟩
theorem L_X6_98 : LkS RX6 98 yX6_fit cX6_fit 3 (some .long) 2 := ⟨m_t978, m_t6, m_t980, ld_yX6_fit_2, m_t979⟩
theorem L_X6_106 : LkS RX6 106 yX6_isUnder cX6_isUnder 2 (some .boolean) 2 := ⟨m_t1003, m_t6, m_t1005, ld_yX6_isUnder_2, m_t1004⟩
theorem L_X6_110 : LkV RX6 110 RX6 yX6_fresh cX6_fresh 1 (some (.object "EachBookOnceModel")) 0 := ⟨m_t1006, m_t6, m_t1009, ld_yX6_fresh_0, m_t1008, m_s26⟩
theorem L_X6_114 : LkV RX6 114 RX6 yX6_does cX6_does 3 (some .int) 2 := ⟨m_t1018, m_t6, m_t1021, ld_yX6_does_2, m_t1020, m_s28⟩
theorem L_X6_122 : LkV RX6 122 RX6 yX6_valueNow cX6_valueNow 1 (some .int) 0 := ⟨m_t1074, m_t6, m_t1077, ld_yX6_valueNow_0, m_t1076, m_s42⟩
theorem L_X6_126 : LkV RX6 126 RX6 yX6_newBook cX6_newBook 3 none 1 := ⟨m_t1090, m_t6, m_t1093, ld_yX6_newBook_1, m_t1092, m_s45⟩
theorem L_X6_134 : LkV RX6 134 RX6 yX6_newOne cX6_newOne 2 none 0 := ⟨m_t1104, m_t6, m_t1107, ld_yX6_newOne_0, m_t1106, m_s47⟩
theorem L_X6_137 : LkV RX6 137 RX6 yX6_add cX6_add 9 (some .int) 4 := ⟨m_t1098, m_t6, m_t1101, ld_yX6_add_4, m_t1100, m_s46⟩
theorem L_X6_157 : LkS RX6 157 yX6_isLetter cX6_isLetter 1 (some .boolean) 1 := ⟨m_t1132, m_t6, m_t1134, ld_yX6_isLetter_1, m_t1133⟩
theorem L_X6_160 : LkS RX6 160 yX6_isDigit cX6_isDigit 1 (some .boolean) 1 := ⟨m_t1135, m_t6, m_t1137, ld_yX6_isDigit_1, m_t1136⟩
theorem L_X6_170 : LkV RX6 170 RJ0 yJ0_length_8abf5 cJ0_length_8abf5 1 (some .int) 0 := ⟨m_t1149, m_t10, m_t467, ld_yJ0_length_8abf5_0, m_t465, m_t466⟩
theorem L_X6_175 : LkV RX6 175 RJ0 yJ0_charAt_5068e cJ0_charAt_5068e 2 (some .char) 1 := ⟨m_t1150, m_t10, m_t477, ld_yJ0_charAt_5068e_1, m_t475, m_t476⟩
theorem L_X6_179 : LkV RX6 179 RX6 yX6_wrong cX6_wrong 1 (some .boolean) 0 := ⟨m_t1155, m_t6, m_t1158, ld_yX6_wrong_0, m_t1157, m_s53⟩
theorem L_X6_183 : LkV RX6 183 RX6 yX6_look cX6_look 1 none 0 := ⟨m_t1128, m_t6, m_t1131, ld_yX6_look_0, m_t1130, m_s49⟩
theorem L_X6_186 : LkV RX6 186 RX6 yX6_isWord cX6_isWord 3 (some .boolean) 1 := ⟨m_t1145, m_t6, m_t1148, ld_yX6_isWord_1, m_t1147, m_s51⟩
theorem L_X6_190 : LkV RX6 190 RX6 yX6_number cX6_number 5 (some .boolean) 4 := ⟨m_t1159, m_t6, m_t1162, ld_yX6_number_4, m_t1161, m_s54⟩
theorem L_X6_194 : LkV RX6 194 RX6 yX6_tells cX6_tells 6 (some .boolean) 5 := ⟨m_t1151, m_t6, m_t1154, ld_yX6_tells_5, m_t1153, m_s52⟩
theorem L_X6_201 : LkV RX6 201 RX6 yX6_perhaps cX6_perhaps 6 (some .boolean) 5 := ⟨m_t1164, m_t6, m_t1167, ld_yX6_perhaps_5, m_t1166, m_s55⟩
theorem L_X6_219 : LkV RX6 219 RX6 yX6_statement cX6_statement 2 (some .boolean) 0 := ⟨m_t1140, m_t6, m_t1143, ld_yX6_statement_0, m_t1142, m_s50⟩
theorem L_X6_222 : LkV RX6 222 RX6 yX6_readAll cX6_readAll 1 (some .boolean) 0 := ⟨m_t1124, m_t6, m_t1127, ld_yX6_readAll_0, m_t1126, m_s48⟩
theorem L_X6_225 : LkV RX6 225 RX6 yX6_takeFrom cX6_takeFrom 2 none 1 := ⟨m_t1011, m_t6, m_t1014, ld_yX6_takeFrom_1, m_t1013, m_s27⟩
theorem L_X6_229 : LkV RX6 229 RX6 yX6_isBook cX6_isBook 3 (some .boolean) 1 := ⟨m_t1179, m_t6, m_t1182, ld_yX6_isBook_1, m_t1181, m_s56⟩
theorem L_X6_233 : LkV RX6 233 RX6 yX6_greatest cX6_greatest 5 (some .int) 2 := ⟨m_t1082, m_t6, m_t1085, ld_yX6_greatest_2, m_t1084, m_s44⟩
theorem L_X6_236 : LkV RX6 236 RX6 yX6_isOne cX6_isOne 3 (some .boolean) 1 := ⟨m_t1187, m_t6, m_t1190, ld_yX6_isOne_1, m_t1189, m_s57⟩
theorem L_X6_241 : LkV RX6 241 RX6 yX6_groundOf cX6_groundOf 6 (some .int) 2 := ⟨m_t1050, m_t6, m_t1053, ld_yX6_groundOf_2, m_t1052, m_s36⟩
theorem L_X6_244 : LkV RX6 244 RX6 yX6_byGround cX6_byGround 4 (some .int) 3 := ⟨m_t1046, m_t6, m_t1049, ld_yX6_byGround_3, m_t1048, m_s35⟩
theorem L_X6_248 : LkV RX6 248 RX6 yX6_isWhite cX6_isWhite 2 (some .boolean) 1 := ⟨m_t1034, m_t6, m_t1037, ld_yX6_isWhite_1, m_t1036, m_s32⟩
theorem L_X6_251 : LkV RX6 251 RX6 yX6_noReading cX6_noReading 3 (some .int) 2 := ⟨m_t1212, m_t6, m_t1215, ld_yX6_noReading_2, m_t1214, m_s58⟩
theorem L_X6_254 : LkV RX6 254 RX6 yX6_wouldKnow cX6_wouldKnow 4 (some .int) 2 := ⟨m_t1042, m_t6, m_t1045, ld_yX6_wouldKnow_2, m_t1044, m_s34⟩
theorem L_X6_257 : LkV RX6 257 RX6 yX6_reads cX6_reads 3 none 2 := ⟨m_t1058, m_t6, m_t1061, ld_yX6_reads_2, m_t1060, m_s38⟩
theorem L_X6_260 : LkV RX6 260 RX6 yX6_readsTo cX6_readsTo 7 (some .int) 3 := ⟨m_t1054, m_t6, m_t1057, ld_yX6_readsTo_3, m_t1056, m_s37⟩
theorem L_X6_263 : LkV RX6 263 RX6 yX6_moreBy cX6_moreBy 5 (some .int) 3 := ⟨m_t1070, m_t6, m_t1073, ld_yX6_moreBy_3, m_t1072, m_s41⟩
theorem L_X6_266 : LkV RX6 266 RX6 yX6_valueOf cX6_valueOf 4 (some .int) 1 := ⟨m_t1078, m_t6, m_t1081, ld_yX6_valueOf_1, m_t1080, m_s43⟩
theorem L_X6_269 : LkV RX6 269 RX6 yX6_youngestBut cX6_youngestBut 4 (some .int) 1 := ⟨m_t1066, m_t6, m_t1069, ld_yX6_youngestBut_1, m_t1068, m_s40⟩
theorem L_X6_272 : LkV RX6 272 RX6 yX6_readerOf cX6_readerOf 6 (some .int) 1 := ⟨m_t1038, m_t6, m_t1041, ld_yX6_readerOf_1, m_t1040, m_s33⟩
theorem L_X6_275 : LkV RX6 275 RX6 yX6_thereMany cX6_thereMany 3 (some .int) 0 := ⟨m_t1026, m_t6, m_t1029, ld_yX6_thereMany_0, m_t1028, m_s30⟩
theorem L_X6_278 : LkV RX6 278 RX6 yX6_readMost cX6_readMost 6 (some .int) 2 := ⟨m_t1022, m_t6, m_t1025, ld_yX6_readMost_2, m_t1024, m_s29⟩
theorem L_X6_282 : LkV RX6 282 RX6 yX6_chain cX6_chain 4 none 0 := ⟨m_t1062, m_t6, m_t1065, ld_yX6_chain_0, m_t1064, m_s39⟩
theorem L_X6_288 : LkV RX6 288 RX6 yX6_end cX6_end 5 (some .int) 0 := ⟨m_t1260, m_t6, m_t1263, ld_yX6_end_0, m_t1262, m_s59⟩
theorem L_X6_291 : LkI RX6 291 yX6_init cX6_init 1 0 := ⟨m_t1010, m_t6, m_t842, ld_yX6_init_0, rfl, m_t841⟩
theorem L_X6_295 : LkV RX6 295 RX6 yX6_goes cX6_goes 6 (some .int) 3 := ⟨m_t1278, m_t6, m_t1281, ld_yX6_goes_3, m_t1280, m_s62⟩
theorem L_X6_302 : LkV RX6 302 RX6 yX6_noRule cX6_noRule 2 (some .int) 1 := ⟨m_t1270, m_t6, m_t1273, ld_yX6_noRule_1, m_t1272, m_s60⟩
theorem L_X6_305 : LkV RX6 305 RX6 yX6_sumOf cX6_sumOf 3 (some .int) 2 := ⟨m_t1274, m_t6, m_t1277, ld_yX6_sumOf_2, m_t1276, m_s61⟩
theorem L_X6_308 : LkV RX6 308 RX6 yX6_whiteMany cX6_whiteMany 3 (some .int) 0 := ⟨m_t1282, m_t6, m_t1285, ld_yX6_whiteMany_0, m_t1284, m_s63⟩
theorem L_X6_315 : LkV RX6 315 RX6 yX6_findWho cX6_findWho 6 (some .int) 2 := ⟨m_t1299, m_t6, m_t1302, ld_yX6_findWho_2, m_t1301, m_s64⟩
theorem L_X6_326 : LkV RX6 326 RX6 yX6_rowsFrom cX6_rowsFrom 8 none 5 := ⟨m_t1313, m_t6, m_t1316, ld_yX6_rowsFrom_5, m_t1315, m_s65⟩
theorem L_X6_332 : LkS RX6 332 yX6_leftOf cX6_leftOf 5 (some .int) 3 := ⟨m_t1321, m_t6, m_t1323, ld_yX6_leftOf_3, m_t1322⟩
theorem L_X6_335 : LkV RX6 335 RX6 yX6_lostBy cX6_lostBy 5 (some .int) 2 := ⟨m_t1336, m_t6, m_t1339, ld_yX6_lostBy_2, m_t1338, m_s66⟩
theorem L_X6_338 : LkS RX6 338 yX6_bits cX6_bits 3 (some .int) 1 := ⟨m_t1344, m_t6, m_t1346, ld_yX6_bits_1, m_t1345⟩
theorem L_X6_345 : LkV RX6 345 RX6 yX6_noTold cX6_noTold 4 (some .int) 2 := ⟨m_t1351, m_t6, m_t1354, ld_yX6_noTold_2, m_t1353, m_s67⟩
theorem L_X6_348 : LkV RX6 348 RX6 yX6_wrongAt cX6_wrongAt 9 (some .int) 2 := ⟨m_t1356, m_t6, m_t1359, ld_yX6_wrongAt_2, m_t1358, m_s68⟩
theorem L_X6_352 : LkV RX6 352 RX6 yX6_draw cX6_draw 2 (some .int) 1 := ⟨m_t1369, m_t6, m_t1372, ld_yX6_draw_1, m_t1371, m_s69⟩
theorem L_X6_358 : LkS RX6 358 yX6_overAll cX6_overAll 4 none 2 := ⟨m_t1015, m_t6, m_t1017, ld_yX6_overAll_2, m_t1016⟩
theorem L_L_9 : LkI RL 9 yX5_init cX5_init 1 0 := ⟨m_t17, m_t1, m_t19, ld_yX5_init_0, rfl, m_t18⟩
theorem L_L_12 : LkI RL 12 yX6_init cX6_init 1 0 := ⟨m_t840, m_t6, m_t842, ld_yX6_init_0, rfl, m_t841⟩
theorem L_L_13 : LkV RL 13 RX5 yX5_row cX5_row 4 (some .int) 3 := ⟨m_t202, m_t1, m_t205, ld_yX5_row_3, m_t203, m_t204⟩
theorem L_L_17 : LkV RL 17 RX6 yX6_row cX6_row 5 (some .int) 3 := ⟨m_t956, m_t6, m_t959, ld_yX6_row_3, m_t957, m_t958⟩
theorem L_L_20 : LkV RL 20 RX5 yX5_set cX5_set 6 (some .int) 3 := ⟨m_t223, m_t1, m_t226, ld_yX5_set_3, m_t224, m_t225⟩
theorem L_L_24 : LkV RL 24 RX6 yX6_set cX6_set 6 (some .int) 3 := ⟨m_t970, m_t6, m_t973, ld_yX6_set_3, m_t971, m_t972⟩
theorem L_L_25 : LkV RL 25 RX5 yX5_copy cX5_copy 7 (some .int) 5 := ⟨m_t246, m_t1, m_t249, ld_yX5_copy_5, m_t247, m_t248⟩
theorem L_L_29 : LkV RL 29 RX6 yX6_copy cX6_copy 7 (some .int) 5 := ⟨m_t981, m_t6, m_t984, ld_yX6_copy_5, m_t982, m_t983⟩
theorem L_L_30 : LkV RL 30 RX5 yX5_element cX5_element 3 (some .long) 2 := ⟨m_t265, m_t1, m_t268, ld_yX5_element_2, m_t266, m_t267⟩
theorem L_L_34 : LkV RL 34 RX6 yX6_element cX6_element 3 (some .long) 2 := ⟨m_t985, m_t6, m_t988, ld_yX6_element_2, m_t986, m_t987⟩
theorem L_L_35 : LkV RL 35 RX5 yX5_holds cX5_holds 2 (some .int) 1 := ⟨m_t273, m_t1, m_t276, ld_yX5_holds_1, m_t274, m_t275⟩
theorem L_L_39 : LkV RL 39 RX6 yX6_holds cX6_holds 2 (some .int) 1 := ⟨m_t989, m_t6, m_t992, ld_yX6_holds_1, m_t990, m_t991⟩
theorem L_L_40 : LkV RL 40 RX5 yX5_rule cX5_rule 4 (some .int) 3 := ⟨m_t277, m_t1, m_t280, ld_yX5_rule_3, m_t278, m_t279⟩
theorem L_L_43 : LkV RL 43 RX6 yX6_rule cX6_rule 4 (some .int) 3 := ⟨m_t993, m_t6, m_t996, ld_yX6_rule_3, m_t994, m_t995⟩
theorem L_L_44 : LkV RL 44 RX5 yX5_says cX5_says 6 (some .int) 2 := ⟨m_t287, m_t1, m_t290, ld_yX5_says_2, m_t288, m_t289⟩
theorem L_L_48 : LkV RL 48 RX6 yX6_says cX6_says 4 (some .int) 2 := ⟨m_t999, m_t6, m_t1002, ld_yX6_says_2, m_t1000, m_t1001⟩
theorem L_L_49 : LkV RL 49 RX5 yX5_book cX5_book 3 (some .int) 2 := ⟨m_t397, m_t1, m_t400, ld_yX5_book_2, m_t398, m_t399⟩
theorem L_L_52 : LkV RL 52 RX6 yX6_book cX6_book 3 (some .int) 2 := ⟨m_t1086, m_t6, m_t1089, ld_yX6_book_2, m_t1087, m_t1088⟩
theorem L_L_53 : LkV RL 53 RX5 yX5_one cX5_one 5 (some .int) 4 := ⟨m_t409, m_t1, m_t412, ld_yX5_one_4, m_t410, m_t411⟩
theorem L_L_57 : LkV RL 57 RX6 yX6_one cX6_one 6 (some .int) 4 := ⟨m_t1094, m_t6, m_t1097, ld_yX6_one_4, m_t1095, m_t1096⟩
theorem L_L_58 : LkV RL 58 RX5 yX5_ones cX5_ones 14 (some .int) 2 := ⟨m_t422, m_t1, m_t425, ld_yX5_ones_2, m_t423, m_t424⟩
theorem L_L_61 : LkV RL 61 RX6 yX6_ones cX6_ones 6 (some .int) 2 := ⟨m_t1108, m_t6, m_t1111, ld_yX6_ones_2, m_t1109, m_t1110⟩
theorem L_L_62 : LkV RL 62 RX5 yX5_feed cX5_feed 4 (some .int) 2 := ⟨m_t426, m_t1, m_t429, ld_yX5_feed_2, m_t427, m_t428⟩
theorem L_L_65 : LkV RL 65 RX6 yX6_feed cX6_feed 4 (some .int) 2 := ⟨m_t1112, m_t6, m_t1115, ld_yX6_feed_2, m_t1113, m_t1114⟩
theorem L_L_66 : LkV RL 66 RX5 yX5_wipe cX5_wipe 2 (some .int) 0 := ⟨m_t434, m_t1, m_t437, ld_yX5_wipe_0, m_t435, m_t436⟩
theorem L_L_70 : LkV RL 70 RX6 yX6_wipe cX6_wipe 2 (some .int) 0 := ⟨m_t1116, m_t6, m_t1119, ld_yX6_wipe_0, m_t1117, m_t1118⟩
theorem L_L_71 : LkV RL 71 RX5 yX5_town cX5_town 2 (some .int) 0 := ⟨m_t438, m_t1, m_t441, ld_yX5_town_0, m_t439, m_t440⟩
theorem L_L_74 : LkV RL 74 RX6 yX6_town cX6_town 3 (some .int) 0 := ⟨m_t1120, m_t6, m_t1123, ld_yX6_town_0, m_t1121, m_t1122⟩
theorem L_L_75 : LkV RL 75 RX5 yX5_bookOf cX5_bookOf 3 (some .int) 2 := ⟨m_t560, m_t1, m_t563, ld_yX5_bookOf_2, m_t561, m_t562⟩
theorem L_L_78 : LkV RL 78 RX6 yX6_bookOf cX6_bookOf 3 (some .int) 2 := ⟨m_t1175, m_t6, m_t1178, ld_yX6_bookOf_2, m_t1176, m_t1177⟩
theorem L_L_79 : LkV RL 79 RX5 yX5_oneOf cX5_oneOf 3 (some .int) 2 := ⟨m_t570, m_t1, m_t573, ld_yX5_oneOf_2, m_t571, m_t572⟩
theorem L_L_82 : LkV RL 82 RX6 yX6_oneOf cX6_oneOf 3 (some .int) 2 := ⟨m_t1183, m_t6, m_t1186, ld_yX6_oneOf_2, m_t1184, m_t1185⟩
theorem L_L_83 : LkV RL 83 RX5 yX5_known cX5_known 3 (some .int) 2 := ⟨m_t578, m_t1, m_t581, ld_yX5_known_2, m_t579, m_t580⟩
theorem L_L_86 : LkV RL 86 RX6 yX6_known cX6_known 3 (some .int) 2 := ⟨m_t1191, m_t6, m_t1194, ld_yX6_known_2, m_t1192, m_t1193⟩
theorem L_L_87 : LkV RL 87 RX5 yX5_alter cX5_alter 5 (some .int) 3 := ⟨m_t587, m_t1, m_t590, ld_yX5_alter_3, m_t588, m_t589⟩
theorem L_L_90 : LkV RL 90 RX6 yX6_alter cX6_alter 5 (some .int) 3 := ⟨m_t1195, m_t6, m_t1198, ld_yX6_alter_3, m_t1196, m_t1197⟩
theorem L_L_91 : LkV RL 91 RX5 yX5_ground cX5_ground 3 (some .int) 2 := ⟨m_t593, m_t1, m_t596, ld_yX5_ground_2, m_t594, m_t595⟩
theorem L_L_94 : LkV RL 94 RX6 yX6_ground cX6_ground 3 (some .int) 2 := ⟨m_t1204, m_t6, m_t1207, ld_yX6_ground_2, m_t1205, m_t1206⟩
theorem L_L_95 : LkV RL 95 RX5 yX5_would cX5_would 4 (some .int) 2 := ⟨m_t598, m_t1, m_t601, ld_yX5_would_2, m_t599, m_t600⟩
theorem L_L_98 : LkV RL 98 RX6 yX6_would cX6_would 4 (some .int) 2 := ⟨m_t1208, m_t6, m_t1211, ld_yX6_would_2, m_t1209, m_t1210⟩
theorem L_L_99 : LkV RL 99 RX5 yX5_read cX5_read 4 (some .int) 2 := ⟨m_t607, m_t1, m_t610, ld_yX5_read_2, m_t608, m_t609⟩
theorem L_L_102 : LkV RL 102 RX6 yX6_read cX6_read 4 (some .int) 2 := ⟨m_t1216, m_t6, m_t1219, ld_yX6_read_2, m_t1217, m_t1218⟩
theorem L_L_103 : LkV RL 103 RX5 yX5_aloud cX5_aloud 5 (some .int) 3 := ⟨m_t612, m_t1, m_t615, ld_yX5_aloud_3, m_t613, m_t614⟩
theorem L_L_106 : LkV RL 106 RX6 yX6_aloud cX6_aloud 5 (some .int) 3 := ⟨m_t1220, m_t6, m_t1223, ld_yX6_aloud_3, m_t1221, m_t1222⟩
theorem L_L_107 : LkV RL 107 RX5 yX5_tell cX5_tell 5 (some .int) 3 := ⟨m_t617, m_t1, m_t620, ld_yX5_tell_3, m_t618, m_t619⟩
theorem L_L_110 : LkV RL 110 RX6 yX6_tell cX6_tell 5 (some .int) 3 := ⟨m_t1224, m_t6, m_t1227, ld_yX6_tell_3, m_t1225, m_t1226⟩
theorem L_L_111 : LkV RL 111 RX5 yX5_write cX5_write 3 (some .int) 2 := ⟨m_t623, m_t1, m_t626, ld_yX5_write_2, m_t624, m_t625⟩
theorem L_L_114 : LkV RL 114 RX6 yX6_write cX6_write 3 (some .int) 2 := ⟨m_t1232, m_t6, m_t1235, ld_yX6_write_2, m_t1233, m_t1234⟩
theorem L_L_115 : LkV RL 115 RX5 yX5_value cX5_value 1 (some .int) 0 := ⟨m_t631, m_t1, m_t634, ld_yX5_value_0, m_t632, m_t633⟩
theorem L_L_118 : LkV RL 118 RX6 yX6_value cX6_value 1 (some .int) 0 := ⟨m_t1236, m_t6, m_t1239, ld_yX6_value_0, m_t1237, m_t1238⟩
theorem L_L_119 : LkV RL 119 RX5 yX5_reader cX5_reader 2 (some .int) 1 := ⟨m_t635, m_t1, m_t638, ld_yX5_reader_1, m_t636, m_t637⟩
theorem L_L_122 : LkV RL 122 RX6 yX6_reader cX6_reader 2 (some .int) 1 := ⟨m_t1248, m_t6, m_t1251, ld_yX6_reader_1, m_t1249, m_t1250⟩
theorem L_L_123 : LkV RL 123 RX5 yX5_run cX5_run 6 (some .int) 3 := ⟨m_t640, m_t1, m_t643, ld_yX5_run_3, m_t641, m_t642⟩
theorem L_L_126 : LkV RL 126 RX6 yX6_run cX6_run 6 (some .int) 3 := ⟨m_t1264, m_t6, m_t1267, ld_yX6_run_3, m_t1265, m_t1266⟩
theorem L_L_127 : LkV RL 127 RX5 yX5_head cX5_head 6 (some .int) 1 := ⟨m_t669, m_t1, m_t672, ld_yX5_head_1, m_t670, m_t671⟩
theorem L_L_130 : LkV RL 130 RX6 yX6_head cX6_head 6 (some .int) 1 := ⟨m_t1291, m_t6, m_t1294, ld_yX6_head_1, m_t1292, m_t1293⟩
theorem L_L_131 : LkV RL 131 RX5 yX5_who cX5_who 3 (some .int) 2 := ⟨m_t673, m_t1, m_t676, ld_yX5_who_2, m_t674, m_t675⟩
theorem L_L_134 : LkV RL 134 RX6 yX6_who cX6_who 4 (some .int) 2 := ⟨m_t1295, m_t6, m_t1298, ld_yX6_who_2, m_t1296, m_t1297⟩
theorem L_L_135 : LkV RL 135 RX5 yX5_order cX5_order 4 (some .int) 2 := ⟨m_t687, m_t1, m_t690, ld_yX5_order_2, m_t688, m_t689⟩
theorem L_L_138 : LkV RL 138 RX6 yX6_order cX6_order 5 (some .int) 2 := ⟨m_t1308, m_t6, m_t1311, ld_yX6_order_2, m_t1309, m_t1310⟩
theorem L_L_139 : LkV RL 139 RX5 yX5_keeping cX5_keeping 4 (some .int) 2 := ⟨m_t700, m_t1, m_t703, ld_yX5_keeping_2, m_t701, m_t702⟩
theorem L_L_142 : LkV RL 142 RX6 yX6_keeping cX6_keeping 4 (some .int) 2 := ⟨m_t1303, m_t6, m_t1306, ld_yX6_keeping_2, m_t1304, m_t1305⟩
theorem L_L_143 : LkV RL 143 RX5 yX5_left cX5_left 6 (some .int) 3 := ⟨m_t711, m_t1, m_t714, ld_yX5_left_3, m_t712, m_t713⟩
theorem L_L_146 : LkV RL 146 RX6 yX6_left cX6_left 4 (some .int) 3 := ⟨m_t1317, m_t6, m_t1320, ld_yX6_left_3, m_t1318, m_t1319⟩
theorem L_L_147 : LkV RL 147 RX5 yX5_longest cX5_longest 6 (some .int) 3 := ⟨m_t719, m_t1, m_t722, ld_yX5_longest_3, m_t720, m_t721⟩
theorem L_L_150 : LkV RL 150 RX6 yX6_longest cX6_longest 5 (some .int) 3 := ⟨m_t1324, m_t6, m_t1327, ld_yX6_longest_3, m_t1325, m_t1326⟩
theorem L_L_151 : LkV RL 151 RX5 yX5_hangs cX5_hangs 6 (some .int) 0 := ⟨m_t723, m_t1, m_t726, ld_yX5_hangs_0, m_t724, m_t725⟩
theorem L_L_154 : LkV RL 154 RX6 yX6_hangs cX6_hangs 6 (some .int) 0 := ⟨m_t1328, m_t6, m_t1331, ld_yX6_hangs_0, m_t1329, m_t1330⟩
theorem L_L_155 : LkV RL 155 RX5 yX5_lost cX5_lost 2 (some .int) 1 := ⟨m_t728, m_t1, m_t731, ld_yX5_lost_1, m_t729, m_t730⟩
theorem L_L_158 : LkV RL 158 RX6 yX6_lost cX6_lost 2 (some .int) 1 := ⟨m_t1332, m_t6, m_t1335, ld_yX6_lost_1, m_t1333, m_t1334⟩
theorem L_L_159 : LkV RL 159 RX5 yX5_bear cX5_bear 7 (some .int) 1 := ⟨m_t736, m_t1, m_t739, ld_yX5_bear_1, m_t737, m_t738⟩
theorem L_L_162 : LkV RL 162 RX6 yX6_bear cX6_bear 5 (some .int) 1 := ⟨m_t1340, m_t6, m_t1343, ld_yX6_bear_1, m_t1341, m_t1342⟩
theorem L_L_163 : LkV RL 163 RX5 yX5_youngest cX5_youngest 2 (some .int) 1 := ⟨m_t740, m_t1, m_t743, ld_yX5_youngest_1, m_t741, m_t742⟩
theorem L_L_166 : LkV RL 166 RX6 yX6_youngest cX6_youngest 2 (some .int) 1 := ⟨m_t1244, m_t6, m_t1247, ld_yX6_youngest_1, m_t1245, m_t1246⟩
theorem L_L_167 : LkV RL 167 RX5 yX5_teach cX5_teach 7 (some .int) 2 := ⟨m_t745, m_t1, m_t748, ld_yX5_teach_2, m_t746, m_t747⟩
theorem L_L_170 : LkV RL 170 RX6 yX6_teach cX6_teach 7 (some .int) 2 := ⟨m_t1228, m_t6, m_t1231, ld_yX6_teach_2, m_t1229, m_t1230⟩
theorem L_L_171 : LkV RL 171 RX5 yX5_needs cX5_needs 3 (some .int) 2 := ⟨m_t749, m_t1, m_t752, ld_yX5_needs_2, m_t750, m_t751⟩
theorem L_L_175 : LkV RL 175 RX6 yX6_needs cX6_needs 5 (some .int) 2 := ⟨m_t1200, m_t6, m_t1203, ld_yX6_needs_2, m_t1201, m_t1202⟩
theorem L_L_176 : LkV RL 176 RX5 yX5_next cX5_next 5 (some .int) 0 := ⟨m_t762, m_t1, m_t765, ld_yX5_next_0, m_t763, m_t764⟩
theorem L_L_179 : LkV RL 179 RX6 yX6_next cX6_next 6 (some .int) 0 := ⟨m_t1252, m_t6, m_t1255, ld_yX6_next_0, m_t1253, m_t1254⟩
theorem L_L_180 : LkV RL 180 RX5 yX5_two cX5_two 3 (some .int) 2 := ⟨m_t771, m_t1, m_t774, ld_yX5_two_2, m_t772, m_t773⟩
theorem L_L_183 : LkV RL 183 RX6 yX6_two cX6_two 3 (some .int) 2 := ⟨m_t1240, m_t6, m_t1243, ld_yX6_two_2, m_t1241, m_t1242⟩
theorem L_L_184 : LkV RL 184 RX5 yX5_gains cX5_gains 5 (some .int) 2 := ⟨m_t775, m_t1, m_t778, ld_yX5_gains_2, m_t776, m_t777⟩
theorem L_L_187 : LkV RL 187 RX6 yX6_gains cX6_gains 4 (some .int) 2 := ⟨m_t1286, m_t6, m_t1289, ld_yX6_gains_2, m_t1287, m_t1288⟩
theorem L_L_188 : LkV RL 188 RX5 yX5_judge cX5_judge 4 (some .int) 2 := ⟨m_t780, m_t1, m_t783, ld_yX5_judge_2, m_t781, m_t782⟩
theorem L_L_191 : LkV RL 191 RX6 yX6_judge cX6_judge 4 (some .int) 2 := ⟨m_t1347, m_t6, m_t1350, ld_yX6_judge_2, m_t1348, m_t1349⟩
theorem L_L_192 : LkV RL 192 RX5 yX5_told cX5_told 4 (some .int) 2 := ⟨m_t794, m_t1, m_t797, ld_yX5_told_2, m_t795, m_t796⟩
theorem L_L_195 : LkV RL 195 RX6 yX6_told cX6_told 4 (some .int) 2 := ⟨m_t1361, m_t6, m_t1364, ld_yX6_told_2, m_t1362, m_t1363⟩
theorem L_L_196 : LkV RL 196 RX5 yX5_years cX5_years 6 (some .int) 2 := ⟨m_t798, m_t1, m_t801, ld_yX5_years_2, m_t799, m_t800⟩
theorem L_L_199 : LkV RL 199 RX6 yX6_years cX6_years 7 (some .int) 2 := ⟨m_t1365, m_t6, m_t1368, ld_yX6_years_2, m_t1366, m_t1367⟩
theorem L_L_200 : LkV RL 200 RX5 yX5_ends cX5_ends 1 (some .int) 0 := ⟨m_t812, m_t1, m_t815, ld_yX5_ends_0, m_t813, m_t814⟩
theorem L_L_203 : LkV RL 203 RX6 yX6_ends cX6_ends 1 (some .int) 0 := ⟨m_t1256, m_t6, m_t1259, ld_yX6_ends_0, m_t1257, m_t1258⟩
theorem L_L_204 : LkV RL 204 RX5 yX5_seed cX5_seed 3 (some .int) 1 := ⟨m_t816, m_t1, m_t819, ld_yX5_seed_1, m_t817, m_t818⟩
theorem L_L_207 : LkV RL 207 RX6 yX6_seed cX6_seed 3 (some .int) 1 := ⟨m_t1374, m_t6, m_t1377, ld_yX6_seed_1, m_t1375, m_t1376⟩
theorem L_L_208 : LkV RL 208 RX5 yX5_image cX5_image 1 (some .int) 0 := ⟨m_t820, m_t1, m_t823, ld_yX5_image_0, m_t821, m_t822⟩
theorem L_L_211 : LkV RL 211 RX6 yX6_image cX6_image 1 (some .int) 0 := ⟨m_t1378, m_t6, m_t1381, ld_yX6_image_0, m_t1379, m_t1380⟩
theorem L_L_212 : LkV RL 212 RX5 yX5_back cX5_back 1 (some .int) 0 := ⟨m_t824, m_t1, m_t827, ld_yX5_back_0, m_t825, m_t826⟩
theorem L_L_215 : LkV RL 215 RX6 yX6_back cX6_back 1 (some .int) 0 := ⟨m_t1382, m_t6, m_t1385, ld_yX6_back_0, m_t1383, m_t1384⟩
theorem L_L_216 : LkV RL 216 RX5 yX5_status cX5_status 2 (some .int) 1 := ⟨m_t828, m_t1, m_t831, ld_yX5_status_1, m_t829, m_t830⟩
theorem L_L_219 : LkV RL 219 RX6 yX6_status cX6_status 4 (some .int) 1 := ⟨m_t1386, m_t6, m_t1389, ld_yX6_status_1, m_t1387, m_t1388⟩
end
section
/-! new int[8][k], new long[8][k] over the known classes -/
theorem rows8 (f : Nat → va_E) (r : Nat → Nat) (e : va_E) : va_pl ([] ++ (List.range 8).map r) (vr_up f ((List.range 8).map r) e) = [(r 0, e), (r 1, e), (r 2, e), (r 3, e), (r 4, e), (r 5, e), (r 6, e), (r 7, e)] := by
  show ([r 0, r 1, r 2, r 3, r 4, r 5, r 6, r 7]).map (fun a => (a, vr_up f [r 0, r 1, r 2, r 3, r 4, r 5, r 6, r 7] e a)) = _
  simp [vr_up]
section GRD
variable {p : Program} {l : Launch} {e : Env} {R : Room} {s : State} {m : MethodId} {args : Array Value} {below : List Frame} {meth : Method} {c : Code} {H : Heap} {locs : List Loc} {cells slots : Nat} {Q : State → Prop}
variable {cc : ByteArray} {pc index : Nat} {ls : Array Slot} {rest : List Value} {G : va_G} {cy : Nat → ClassId} {ws : va_W} {A : Nat → Prop} {H0 : Heap}
theorem newII (hexec : p.tables.exec = Jvm.exec) (hb : c.code = cc) (hts : ∀ w ∈ BIG, w.before args s = true) (hown : s.vm.findClass RX6 = some m.cls) (hcl : Cond.classLink RX6 index "[[I" ∈ BIG) (harr : Cond.arrayClass .int ∈ BIG) (hN : KN G cy s) (hP : va_P G CL ws H) (hD : va_D A ws) (hS : va_S A H0 H locs) (hA : ∀ q, H0.size ≤ q → A q) {n k : Int32} (K' : Nat) (hn : n = 8) (hk : ¬ k < 0) (hM : k.toNatClampNeg = K') (hb2 : K' * componentBytes .int ≤ 536870912) (hb3 : K' ≤ 536870912) (hcells : cells + (1 + 8) ≤ R.cells) (hslots : slots + (8 + 8 * K') ≤ R.slots) (hdg : decode cc pc = .ok (.multianewarray index 2, 4))
    (kk : ∀ (q : Nat) (r : Nat → Nat) (H1 : Heap), va_P G CL (ws ++ [(q, .inl (cy 3, 8, .inr (.inr (.inr (.inr (fun i => if i < 8 then some (r i) else none)))))), (r 0, .inl (cy 0, K', .inl (fun _ => 0))), (r 1, .inl (cy 0, K', .inl (fun _ => 0))), (r 2, .inl (cy 0, K', .inl (fun _ => 0))), (r 3, .inl (cy 0, K', .inl (fun _ => 0))), (r 4, .inl (cy 0, K', .inl (fun _ => 0))), (r 5, .inl (cy 0, K', .inl (fun _ => 0))), (r 6, .inl (cy 0, K', .inl (fun _ => 0))), (r 7, .inl (cy 0, K', .inl (fun _ => 0)))]) H1 → va_D A (ws ++ [(q, .inl (cy 3, 8, .inr (.inr (.inr (.inr (fun i => if i < 8 then some (r i) else none)))))), (r 0, .inl (cy 0, K', .inl (fun _ => 0))), (r 1, .inl (cy 0, K', .inl (fun _ => 0))), (r 2, .inl (cy 0, K', .inl (fun _ => 0))), (r 3, .inl (cy 0, K', .inl (fun _ => 0))), (r 4, .inl (cy 0, K', .inl (fun _ => 0))), (r 5, .inl (cy 0, K', .inl (fun _ => 0))), (r 6, .inl (cy 0, K', .inl (fun _ => 0))), (r 7, .inl (cy 0, K', .inl (fun _ => 0)))]) → va_S A H0 H1 locs →
      W p l e R s m args below meth c H1 locs (cells + 1 + 8) (slots + 8 + 8 * K') Q (F0 m (pc + 4) ls (.ref q :: rest))) : W p l e R s m args below meth c H locs cells slots Q (F0 m pc ls (.int k :: .int n :: rest)) := by
  subst hn
  have hcl2 : (Cond.classLink RX6 index ("[" ++ (FieldType.array .int).toString)).before args s = true := by
    rw [show ("[" ++ (FieldType.array .int).toString) = "[[I" by decide +kernel]
    exact hts _ hcl
  have hcy : s.vm.findClass (FieldType.array .int).toString = some (cy 0) := (hN.1.2 0 _ rfl).2
  refine va_mna (X := ws) (L := []) (f := fun _ => .inr (0, [])) (z := (K', .inl (fun _ => 0))) (N' := 8) (K' := K') hexec hb hown hcl2 hN.2.2.2.2.2.1 (hts _ harr) hcy hN.1 (by simpa [va_pl] using hP) (by simpa [va_pl] using hD) hS hA (by decide +kernel) hk (by decide +kernel) hM (by decide +kernel) hb2 hb3 rfl rfl hcells hslots (fun c0 => by show ({ cls := c0, slots := Array.replicate K' (.int 0), vm := .none } : Cell) = _; rw [arrV_new]; rfl) hdg (fun q r cA H1 hinj hni hK2 hP2 hD2 hS2 => ?_)
  have e0 := cyOne (t0 := 3) hN.1 rfl hK2
  subst e0
  rw [rows8, List.append_assoc] at hP2 hD2
  exact kk q r H1 hP2 hD2 hS2
theorem newJJ (hexec : p.tables.exec = Jvm.exec) (hb : c.code = cc) (hts : ∀ w ∈ BIG, w.before args s = true) (hown : s.vm.findClass RX6 = some m.cls) (hcl : Cond.classLink RX6 index "[[J" ∈ BIG) (harr : Cond.arrayClass .long ∈ BIG) (hN : KN G cy s) (hP : va_P G CL ws H) (hD : va_D A ws) (hS : va_S A H0 H locs) (hA : ∀ q, H0.size ≤ q → A q) {n k : Int32} (K' : Nat) (hn : n = 8) (hk : ¬ k < 0) (hM : k.toNatClampNeg = K') (hb2 : K' * componentBytes .long ≤ 536870912) (hb3 : K' ≤ 536870912) (hcells : cells + (1 + 8) ≤ R.cells) (hslots : slots + (8 + 8 * K') ≤ R.slots) (hdg : decode cc pc = .ok (.multianewarray index 2, 4))
    (kk : ∀ (q : Nat) (r : Nat → Nat) (H1 : Heap), va_P G CL (ws ++ [(q, .inl (cy 4, 8, .inr (.inr (.inr (.inr (fun i => if i < 8 then some (r i) else none)))))), (r 0, .inl (cy 1, K', .inr (.inl (fun _ => 0)))), (r 1, .inl (cy 1, K', .inr (.inl (fun _ => 0)))), (r 2, .inl (cy 1, K', .inr (.inl (fun _ => 0)))), (r 3, .inl (cy 1, K', .inr (.inl (fun _ => 0)))), (r 4, .inl (cy 1, K', .inr (.inl (fun _ => 0)))), (r 5, .inl (cy 1, K', .inr (.inl (fun _ => 0)))), (r 6, .inl (cy 1, K', .inr (.inl (fun _ => 0)))), (r 7, .inl (cy 1, K', .inr (.inl (fun _ => 0))))]) H1 → va_D A (ws ++ [(q, .inl (cy 4, 8, .inr (.inr (.inr (.inr (fun i => if i < 8 then some (r i) else none)))))), (r 0, .inl (cy 1, K', .inr (.inl (fun _ => 0)))), (r 1, .inl (cy 1, K', .inr (.inl (fun _ => 0)))), (r 2, .inl (cy 1, K', .inr (.inl (fun _ => 0)))), (r 3, .inl (cy 1, K', .inr (.inl (fun _ => 0)))), (r 4, .inl (cy 1, K', .inr (.inl (fun _ => 0)))), (r 5, .inl (cy 1, K', .inr (.inl (fun _ => 0)))), (r 6, .inl (cy 1, K', .inr (.inl (fun _ => 0)))), (r 7, .inl (cy 1, K', .inr (.inl (fun _ => 0))))]) → va_S A H0 H1 locs →
      W p l e R s m args below meth c H1 locs (cells + 1 + 8) (slots + 8 + 8 * K') Q (F0 m (pc + 4) ls (.ref q :: rest))) : W p l e R s m args below meth c H locs cells slots Q (F0 m pc ls (.int k :: .int n :: rest)) := by
  subst hn
  have hcl2 : (Cond.classLink RX6 index ("[" ++ (FieldType.array .long).toString)).before args s = true := by
    rw [show ("[" ++ (FieldType.array .long).toString) = "[[J" by decide +kernel]
    exact hts _ hcl
  have hcy : s.vm.findClass (FieldType.array .long).toString = some (cy 1) := (hN.1.2 1 _ rfl).2
  refine va_mna (X := ws) (L := []) (f := fun _ => .inr (0, [])) (z := (K', .inr (.inl (fun _ => 0)))) (N' := 8) (K' := K') hexec hb hown hcl2 hN.2.2.2.2.2.2 (hts _ harr) hcy hN.1 (by simpa [va_pl] using hP) (by simpa [va_pl] using hD) hS hA (by decide +kernel) hk (by decide +kernel) hM (by decide +kernel) hb2 hb3 rfl rfl hcells hslots (fun c0 => by show ({ cls := c0, slots := Array.replicate K' (.long 0), vm := .none } : Cell) = _; rw [arrV_new]; rfl) hdg (fun q r cA H1 hinj hni hK2 hP2 hD2 hS2 => ?_)
  have e0 := cyOne (t0 := 4) hN.1 rfl hK2
  subst e0
  rw [rows8, List.append_assoc] at hP2 hD2
  exact kk q r H1 hP2 hD2 hS2
end GRD
end
section
theorem m_t262 : Cond.methodLink RX2 29 arraycopyName ∈ BIG := big_t 262 (by decide +kernel) (by decide +kernel)
theorem m_t263 : Cond.static arraycopyName ∈ BIG := big_t 263 (by decide +kernel) (by decide +kernel)
theorem m_t310 : Cond.methodLink RX4 52 arraycopyName ∈ BIG := big_t 310 (by decide +kernel) (by decide +kernel)
end
section
noncomputable def inB (v a b : Int64) : Bool := decide (a ≤ v) && decide (v ≤ b)
/-- v lies from a to b -/
noncomputable abbrev Iv (v a b : Int64) : Prop := inB v a b = true
theorem Iv_iff {v a b : Int64} : Iv v a b ↔ a ≤ v ∧ v ≤ b := by
  unfold Iv inB
  rw [Bool.and_eq_true, decide_eq_true_eq, decide_eq_true_eq]
end
section
/-! cells by short names; one restatement for both facts; a call as one step -/
noncomputable abbrev zzI (cy : Nat → ClassId) (q n : Nat) (f : Nat → Int32) : Nat × va_E := (q, .inl (cy 0, n, .inl f))
noncomputable abbrev zzB (cy : Nat → ClassId) (q n : Nat) (f : Nat → Int32) : Nat × va_E := (q, .inl (cy 2, n, .inl f))
noncomputable abbrev zzJ (cy : Nat → ClassId) (q n : Nat) (f : Nat → Int64) : Nat × va_E := (q, .inl (cy 1, n, .inr (.inl f)))
noncomputable abbrev zzQ (cy : Nat → ClassId) (k q n : Nat) (f : Nat → Option Nat) : Nat × va_E := (q, .inl (cy k, n, .inr (.inr (.inr (.inr f)))))
noncomputable abbrev zzG (cy : Nat → ClassId) (k q : Nat) (r : Nat → Nat) : Nat × va_E := (q, .inl (cy k, 8, .inr (.inr (.inr (.inr (fun i => if i < 8 then some (r i) else none))))))
noncomputable abbrev zzO (q k : Nat) (fs : List Value) : Nat × va_E := (q, .inr (k, fs))
theorem pd_as {G : va_G} {H : Heap} {A : Nat → Prop} {ws : va_W} (ws' : va_W) (h : va_P G CL ws H) (d : va_D A ws) (e : ws = ws') : va_P G CL ws' H ∧ va_D A ws' := e ▸ ⟨h, d⟩
theorem al_P {G : va_G} {H : Heap} {a b c : va_W} (h : va_P G CL (a ++ (b ++ c)) H) : va_P G CL ((a ++ b) ++ c) H := (List.append_assoc a b c).symm ▸ h
theorem al_D {A : Nat → Prop} {a b c : va_W} (h : va_D A (a ++ (b ++ c))) : va_D A ((a ++ b) ++ c) := (List.append_assoc a b c).symm ▸ h
theorem ar_P {G : va_G} {H : Heap} {a b c : va_W} (h : va_P G CL ((a ++ b) ++ c) H) : va_P G CL (a ++ (b ++ c)) H := List.append_assoc a b c ▸ h
theorem ar_D {A : Nat → Prop} {a b c : va_W} (h : va_D A ((a ++ b) ++ c)) : va_D A (a ++ (b ++ c)) := List.append_assoc a b c ▸ h
theorem as1P {G : va_G} {H : Heap} {w k u q : va_W} (h : va_P G CL ((w ++ (k ++ u)) ++ q) H) : va_P G CL ((w ++ k) ++ (u ++ q)) H := by simpa only [List.append_assoc] using h
theorem as1D {A : Nat → Prop} {w k u q : va_W} (h : va_D A ((w ++ (k ++ u)) ++ q)) : va_D A ((w ++ k) ++ (u ++ q)) := by simpa only [List.append_assoc] using h
noncomputable def selW : List Bool → va_W → va_W
  | [], _ => []
  | true :: m, w => match w with
    | [] => []
    | c :: ws => c :: selW m ws
  | false :: m, w => match w with
    | [] => []
    | _ :: ws => selW m ws
noncomputable def trueIx : Nat → List Bool → List Nat
  | _, [] => []
  | k, true :: m => k :: trueIx (k + 1) m
  | k, false :: m => trueIx (k + 1) m
noncomputable def okC (isC : List Nat) (mk : List Bool) : Bool := va_nd isC && isC.all (fun i => !(mk.getD i false))
theorem tr_mem : ∀ (mk : List Bool) (k i : Nat), i ∈ trueIx k mk → k ≤ i ∧ mk.getD (i - k) false = true := by
  intro mk
  induction mk with
  | nil => intro k i h; cases h
  | cons x m ih =>
    intro k i h
    have step : ∀ j, j ∈ trueIx (k + 1) m → k ≤ j ∧ (x :: m).getD (j - k) false = true := fun j hj => by
      obtain ⟨h1, h2⟩ := ih (k + 1) j hj
      refine ⟨by omega, ?_⟩
      rw [show j - k = (j - (k + 1)) + 1 by omega]
      exact h2
    cases x with
    | true =>
      rcases List.mem_cons.mp h with rfl | h
      · exact ⟨Nat.le_refl _, by rw [Nat.sub_self]; rfl⟩
      · exact step i h
    | false => exact step i h
theorem okC_nd {isC : List Nat} {mk : List Bool} (h : okC isC mk = true) : va_nd isC = true := by
  unfold okC at h
  rw [Bool.and_eq_true] at h
  exact h.1
theorem okC_dis {isC : List Nat} {mk : List Bool} (h : okC isC mk = true) : ∀ i ∈ trueIx 0 mk, i ∉ isC := fun i hi hc => by
  unfold okC at h
  rw [Bool.and_eq_true, List.all_eq_true] at h
  have h1 := h.2 i hc
  have h2 := (tr_mem mk 0 i hi).2
  rw [Nat.sub_zero] at h2
  rw [h2] at h1
  cases h1
theorem sel_nd : ∀ (mk : List Bool) (k : Nat), va_nd (trueIx k mk) = true := by
  intro mk
  induction mk with
  | nil => intro k; rfl
  | cons x m ih =>
    intro k
    cases x with
    | true =>
      show (decide (k ∉ trueIx (k + 1) m) && va_nd (trueIx (k + 1) m)) = true
      rw [Bool.and_eq_true]
      exact ⟨decide_eq_true (fun h => by have := (tr_mem m (k + 1) k h).1; omega), ih (k + 1)⟩
    | false => exact ih (k + 1)
theorem sel_okk : ∀ (mk : List Bool) (ws full : va_W) (k : Nat), (∀ j : Nat, full[k + j]? = ws[j]?) → mk.length ≤ ws.length → (trueIx k mk).map (fun i => full[i]?) = (selW mk ws).map some := by
  intro mk
  induction mk with
  | nil => intro ws full k _ _; rfl
  | cons x m ih =>
    intro ws full k hf hm
    cases ws with
    | nil => exact absurd hm (by simp)
    | cons c ws =>
      have h1 := ih ws full (k + 1) (fun j => by rw [show k + 1 + j = k + (j + 1) by omega, hf (j + 1)]; rfl) (by simpa using hm)
      cases x with
      | true =>
        show full[k]? :: (trueIx (k + 1) m).map (fun i => full[i]?) = some c :: (selW m ws).map some
        rw [h1, ← Nat.add_zero k, hf 0]
        rfl
      | false => exact h1
theorem sel_ok {mk : List Bool} {ws : va_W} (hm : Nat.ble mk.length ws.length = true) : (trueIx 0 mk).map (fun i => ws[i]?) = (selW mk ws).map some := sel_okk mk ws ws 0 (fun j => by rw [Nat.zero_add]) (Nat.le_of_ble_eq_true hm)
theorem tx_lt {X w : va_W} {is : List Nat} (h : is.map (fun i => X[i]?) = w.map some) : ∀ i ∈ is, i < X.length := fun i hi => by
  have h1 : X[i]? ∈ is.map (fun i => X[i]?) := List.mem_map.mpr ⟨i, hi, rfl⟩
  rw [h] at h1
  obtain ⟨x, _, hx⟩ := List.mem_map.mp h1
  exact (List.getElem?_eq_some_iff.mp hx.symm).1
theorem tx_app {X w pl : va_W} {is : List Nat} (h : is.map (fun i => X[i]?) = w.map some) : is.map (fun i => (X ++ pl)[i]?) = w.map some := by
  rw [← h]
  apply List.map_congr_left
  intro i hi
  exact List.getElem?_append_left (tx_lt h i hi)
section SPEED1
variable {p : Program} {l : Launch} {e : Env} {R : Room} {s : State} {m : MethodId} {args : Array Value} {below : List Frame} {meth : Method} {c : Code} {H : Heap} {locs : List Loc} {cells slots : Nat} {Q : State → Prop}
variable {y : MethodName} {bytes cc : ByteArray} {maxL nL mc ms index d pc : Nat} {ret : Option FieldType} {own : String} {b : Addr} {As rest st0 : List Value} {ls : Array Slot} {G : va_G} {cy : Nat → ClassId}
variable {ws wc Xw cx pl p1 p2 : va_W} {A : Nat → Prop} {q : vw_C} {fs : List Value} {X : (Nat → Prop) → State → Heap → Prop}
theorem cVi {post : Int32 → va_W → Prop} (S : CallFix p m c cc nL s args BIG own) (hM : Met l y (.code y bytes maxL ret :: BIG) (Rm d mc ms) (Wr G cy wc H.size (.ref b :: As)) (Wi G post (va_A wc H.size)) mc ms (va_A wc H.size)) (L : LkV own index q.1 y bytes maxL ret As.length) (hN : KN G cy s) (hP : va_P G CL ws H) (hD : va_D A ws) (hS : va_S A s.heap H locs) (hA : ∀ q, s.heap.size ≤ q → A q) (isC : List Nat) (mk : List Bool) (hC : isC.map (fun i => ws[i]?) = wc.map some) (hk : okC isC mk = true) (hm : Nat.ble mk.length ws.length = true) (qr ci : Nat) (he : ws[qr]? = some (b, .inr (ci, fs))) (hc : CL[ci]? = some q) (hst : st0 = As.reverse ++ .ref b :: rest) (hR : d + 1 ≤ R.frames ∧ 8 + (maxL + 11) + 60 * d ≤ R.locals) (hsize : ls.size = nL) (hW : (rest.map fun v => v.category).sum ≤ 8) (hdg : decode cc pc = .ok (.invokevirtual index, 3)) (hf : cells + mc ≤ R.cells ∧ slots + ms ≤ R.slots)
    (kk : ∀ (r : Int32) (u : va_W) (H1 : Heap) (locs1 : List Loc), post r u → va_P G CL (selW mk ws ++ u) H1 → va_D A (selW mk ws ++ u) → va_S A s.heap H1 locs1 → W p l e R s m args below meth c H1 locs1 (cells + mc) (slots + ms) Q (F0 m (pc + 3) ls (.int r :: rest))) : W p l e R s m args below meth c H locs cells slots Q (F0 m pc ls st0) := kWi (rV S hM L (preWV hN hP hD isC hC (okC_nd hk) qr ci he hc) hst hR hsize hW hdg hf) hP hD hS hA isC (trueIx 0 mk) hC (sel_ok hm) (sel_nd mk 0) (okC_dis hk) kk
theorem cVv {post : va_W → Prop} (S : CallFix p m c cc nL s args BIG own) (hM : Met l y (.code y bytes maxL ret :: BIG) (Rm d mc ms) (Wr G cy wc H.size (.ref b :: As)) (Wv G post (va_A wc H.size)) mc ms (va_A wc H.size)) (L : LkV own index q.1 y bytes maxL ret As.length) (hN : KN G cy s) (hP : va_P G CL ws H) (hD : va_D A ws) (hS : va_S A s.heap H locs) (hA : ∀ q, s.heap.size ≤ q → A q) (isC : List Nat) (mk : List Bool) (hC : isC.map (fun i => ws[i]?) = wc.map some) (hk : okC isC mk = true) (hm : Nat.ble mk.length ws.length = true) (qr ci : Nat) (he : ws[qr]? = some (b, .inr (ci, fs))) (hc : CL[ci]? = some q) (hst : st0 = As.reverse ++ .ref b :: rest) (hR : d + 1 ≤ R.frames ∧ 8 + (maxL + 11) + 60 * d ≤ R.locals) (hsize : ls.size = nL) (hW : (rest.map fun v => v.category).sum ≤ 8) (hdg : decode cc pc = .ok (.invokevirtual index, 3)) (hf : cells + mc ≤ R.cells ∧ slots + ms ≤ R.slots)
    (kk : ∀ (u : va_W) (H1 : Heap) (locs1 : List Loc), post u → va_P G CL (selW mk ws ++ u) H1 → va_D A (selW mk ws ++ u) → va_S A s.heap H1 locs1 → W p l e R s m args below meth c H1 locs1 (cells + mc) (slots + ms) Q (F0 m (pc + 3) ls rest)) : W p l e R s m args below meth c H locs cells slots Q (F0 m pc ls st0) := kWv (rV S hM L (preWV hN hP hD isC hC (okC_nd hk) qr ci he hc) hst hR hsize hW hdg hf) hP hD hS hA isC (trueIx 0 mk) hC (sel_ok hm) (sel_nd mk 0) (okC_dis hk) kk
theorem cVq {post : Nat → va_W → Prop} (S : CallFix p m c cc nL s args BIG own) (hM : Met l y (.code y bytes maxL ret :: BIG) (Rm d mc ms) (Wr G cy wc H.size (.ref b :: As)) (Wq G post (va_A wc H.size)) mc ms (va_A wc H.size)) (L : LkV own index q.1 y bytes maxL ret As.length) (hN : KN G cy s) (hP : va_P G CL ws H) (hD : va_D A ws) (hS : va_S A s.heap H locs) (hA : ∀ q, s.heap.size ≤ q → A q) (isC : List Nat) (mk : List Bool) (hC : isC.map (fun i => ws[i]?) = wc.map some) (hk : okC isC mk = true) (hm : Nat.ble mk.length ws.length = true) (qr ci : Nat) (he : ws[qr]? = some (b, .inr (ci, fs))) (hc : CL[ci]? = some q) (hst : st0 = As.reverse ++ .ref b :: rest) (hR : d + 1 ≤ R.frames ∧ 8 + (maxL + 11) + 60 * d ≤ R.locals) (hsize : ls.size = nL) (hW : (rest.map fun v => v.category).sum ≤ 8) (hdg : decode cc pc = .ok (.invokevirtual index, 3)) (hf : cells + mc ≤ R.cells ∧ slots + ms ≤ R.slots)
    (kk : ∀ (r : Nat) (u : va_W) (H1 : Heap) (locs1 : List Loc), post r u → va_P G CL (selW mk ws ++ u) H1 → va_D A (selW mk ws ++ u) → va_S A s.heap H1 locs1 → W p l e R s m args below meth c H1 locs1 (cells + mc) (slots + ms) Q (F0 m (pc + 3) ls (.ref r :: rest))) : W p l e R s m args below meth c H locs cells slots Q (F0 m pc ls st0) := kWq (rV S hM L (preWV hN hP hD isC hC (okC_nd hk) qr ci he hc) hst hR hsize hW hdg hf) hP hD hS hA isC (trueIx 0 mk) hC (sel_ok hm) (sel_nd mk 0) (okC_dis hk) kk
theorem cSi {post : Int32 → va_W → Prop} (S : CallFix p m c cc nL s args BIG own) (hM : Met l y (.code y bytes maxL ret :: BIG) (Rm d mc ms) (Wr G cy wc H.size As) (Wi G post (va_A wc H.size)) mc ms (va_A wc H.size)) (L : LkS own index y bytes maxL ret As.length) (hN : KN G cy s) (hP : va_P G CL ws H) (hD : va_D A ws) (hS : va_S A s.heap H locs) (hA : ∀ q, s.heap.size ≤ q → A q) (isC : List Nat) (mk : List Bool) (hC : isC.map (fun i => ws[i]?) = wc.map some) (hk : okC isC mk = true) (hm : Nat.ble mk.length ws.length = true) (hst : st0 = As.reverse ++ rest) (hR : d + 1 ≤ R.frames ∧ 8 + (maxL + 11) + 60 * d ≤ R.locals) (hsize : ls.size = nL) (hW : (rest.map fun v => v.category).sum ≤ 8) (hdg : decode cc pc = .ok (.invokestatic index, 3)) (hf : cells + mc ≤ R.cells ∧ slots + ms ≤ R.slots)
    (kk : ∀ (r : Int32) (u : va_W) (H1 : Heap) (locs1 : List Loc), post r u → va_P G CL (selW mk ws ++ u) H1 → va_D A (selW mk ws ++ u) → va_S A s.heap H1 locs1 → W p l e R s m args below meth c H1 locs1 (cells + mc) (slots + ms) Q (F0 m (pc + 3) ls (.int r :: rest))) : W p l e R s m args below meth c H locs cells slots Q (F0 m pc ls st0) := kWi (rS S hM L (preWS hN hP hD isC hC (okC_nd hk)) hst hR hsize hW hdg hf) hP hD hS hA isC (trueIx 0 mk) hC (sel_ok hm) (sel_nd mk 0) (okC_dis hk) kk
theorem cSv {post : va_W → Prop} (S : CallFix p m c cc nL s args BIG own) (hM : Met l y (.code y bytes maxL ret :: BIG) (Rm d mc ms) (Wr G cy wc H.size As) (Wv G post (va_A wc H.size)) mc ms (va_A wc H.size)) (L : LkS own index y bytes maxL ret As.length) (hN : KN G cy s) (hP : va_P G CL ws H) (hD : va_D A ws) (hS : va_S A s.heap H locs) (hA : ∀ q, s.heap.size ≤ q → A q) (isC : List Nat) (mk : List Bool) (hC : isC.map (fun i => ws[i]?) = wc.map some) (hk : okC isC mk = true) (hm : Nat.ble mk.length ws.length = true) (hst : st0 = As.reverse ++ rest) (hR : d + 1 ≤ R.frames ∧ 8 + (maxL + 11) + 60 * d ≤ R.locals) (hsize : ls.size = nL) (hW : (rest.map fun v => v.category).sum ≤ 8) (hdg : decode cc pc = .ok (.invokestatic index, 3)) (hf : cells + mc ≤ R.cells ∧ slots + ms ≤ R.slots)
    (kk : ∀ (u : va_W) (H1 : Heap) (locs1 : List Loc), post u → va_P G CL (selW mk ws ++ u) H1 → va_D A (selW mk ws ++ u) → va_S A s.heap H1 locs1 → W p l e R s m args below meth c H1 locs1 (cells + mc) (slots + ms) Q (F0 m (pc + 3) ls rest)) : W p l e R s m args below meth c H locs cells slots Q (F0 m pc ls st0) := kWv (rS S hM L (preWS hN hP hD isC hC (okC_nd hk)) hst hR hsize hW hdg hf) hP hD hS hA isC (trueIx 0 mk) hC (sel_ok hm) (sel_nd mk 0) (okC_dis hk) kk
theorem cSq {post : Nat → va_W → Prop} (S : CallFix p m c cc nL s args BIG own) (hM : Met l y (.code y bytes maxL ret :: BIG) (Rm d mc ms) (Wr G cy wc H.size As) (Wq G post (va_A wc H.size)) mc ms (va_A wc H.size)) (L : LkS own index y bytes maxL ret As.length) (hN : KN G cy s) (hP : va_P G CL ws H) (hD : va_D A ws) (hS : va_S A s.heap H locs) (hA : ∀ q, s.heap.size ≤ q → A q) (isC : List Nat) (mk : List Bool) (hC : isC.map (fun i => ws[i]?) = wc.map some) (hk : okC isC mk = true) (hm : Nat.ble mk.length ws.length = true) (hst : st0 = As.reverse ++ rest) (hR : d + 1 ≤ R.frames ∧ 8 + (maxL + 11) + 60 * d ≤ R.locals) (hsize : ls.size = nL) (hW : (rest.map fun v => v.category).sum ≤ 8) (hdg : decode cc pc = .ok (.invokestatic index, 3)) (hf : cells + mc ≤ R.cells ∧ slots + ms ≤ R.slots)
    (kk : ∀ (r : Nat) (u : va_W) (H1 : Heap) (locs1 : List Loc), post r u → va_P G CL (selW mk ws ++ u) H1 → va_D A (selW mk ws ++ u) → va_S A s.heap H1 locs1 → W p l e R s m args below meth c H1 locs1 (cells + mc) (slots + ms) Q (F0 m (pc + 3) ls (.ref r :: rest))) : W p l e R s m args below meth c H locs cells slots Q (F0 m pc ls st0) := kWq (rS S hM L (preWS hN hP hD isC hC (okC_nd hk)) hst hR hsize hW hdg hf) hP hD hS hA isC (trueIx 0 mk) hC (sel_ok hm) (sel_nd mk 0) (okC_dis hk) kk
theorem cIv {post : va_W → Prop} (S : CallFix p m c cc nL s args BIG own) (hM : Met l y (.code y bytes maxL none :: BIG) (Rm d mc ms) (Wr G cy wc H.size (.ref b :: As)) (Wv G post (va_A wc H.size)) mc ms (va_A wc H.size)) (L : LkI own index y bytes maxL As.length) (hN : KN G cy s) (hP : va_P G CL ws H) (hD : va_D A ws) (hS : va_S A s.heap H locs) (hA : ∀ q, s.heap.size ≤ q → A q) (isC : List Nat) (mk : List Bool) (hC : isC.map (fun i => ws[i]?) = wc.map some) (hk : okC isC mk = true) (hm : Nat.ble mk.length ws.length = true) (hst : st0 = As.reverse ++ .ref b :: rest) (hR : d + 1 ≤ R.frames ∧ 8 + (maxL + 11) + 60 * d ≤ R.locals) (hsize : ls.size = nL) (hW : (rest.map fun v => v.category).sum ≤ 8) (hdg : decode cc pc = .ok (.invokespecial index, 3)) (hf : cells + mc ≤ R.cells ∧ slots + ms ≤ R.slots)
    (kk : ∀ (u : va_W) (H1 : Heap) (locs1 : List Loc), post u → va_P G CL (selW mk ws ++ u) H1 → va_D A (selW mk ws ++ u) → va_S A s.heap H1 locs1 → W p l e R s m args below meth c H1 locs1 (cells + mc) (slots + ms) Q (F0 m (pc + 3) ls rest)) : W p l e R s m args below meth c H locs cells slots Q (F0 m pc ls st0) := kWv (rI S hM L (preWS hN hP hD isC hC (okC_nd hk)) hst hR hsize hW hdg hf) hP hD hS hA isC (trueIx 0 mk) hC (sel_ok hm) (sel_nd mk 0) (okC_dis hk) kk
theorem cSNi {post : Int32 → va_W → Prop} (S : CallFix p m c cc nL s args BIG own) (hM : Met l y (.code y bytes maxL ret :: BIG) (Rm d mc ms) (Wr G cy wc H.size As) (Wi G post (va_A wc H.size)) mc ms (va_A wc H.size)) (L : LkSN own index y bytes maxL ret As.length) (hN : KN G cy s) (hP : va_P G CL ws H) (hD : va_D A ws) (hS : va_S A s.heap H locs) (hA : ∀ q, s.heap.size ≤ q → A q) (isC : List Nat) (mk : List Bool) (hC : isC.map (fun i => ws[i]?) = wc.map some) (hk : okC isC mk = true) (hm : Nat.ble mk.length ws.length = true) (hst : st0 = As.reverse ++ rest) (hR : d + 1 ≤ R.frames ∧ 8 + (maxL + 11) + 60 * d ≤ R.locals) (hsize : ls.size = nL) (hW : (rest.map fun v => v.category).sum ≤ 8) (hdg : decode cc pc = .ok (.invokestatic index, 3)) (hf : cells + mc ≤ R.cells ∧ slots + ms ≤ R.slots)
    (kk : ∀ (r : Int32) (u : va_W) (H1 : Heap) (locs1 : List Loc), post r u → va_P G CL (selW mk ws ++ u) H1 → va_D A (selW mk ws ++ u) → va_S A s.heap H1 locs1 → W p l e R s m args below meth c H1 locs1 (cells + mc) (slots + ms) Q (F0 m (pc + 3) ls (.int r :: rest))) : W p l e R s m args below meth c H locs cells slots Q (F0 m pc ls st0) := kWi (rSN S hN hM L (preWS hN hP hD isC hC (okC_nd hk)) hst hR hsize hW hdg hf) hP hD hS hA isC (trueIx 0 mk) hC (sel_ok hm) (sel_nd mk 0) (okC_dis hk) kk
theorem cSNv {post : va_W → Prop} (S : CallFix p m c cc nL s args BIG own) (hM : Met l y (.code y bytes maxL ret :: BIG) (Rm d mc ms) (Wr G cy wc H.size As) (Wv G post (va_A wc H.size)) mc ms (va_A wc H.size)) (L : LkSN own index y bytes maxL ret As.length) (hN : KN G cy s) (hP : va_P G CL ws H) (hD : va_D A ws) (hS : va_S A s.heap H locs) (hA : ∀ q, s.heap.size ≤ q → A q) (isC : List Nat) (mk : List Bool) (hC : isC.map (fun i => ws[i]?) = wc.map some) (hk : okC isC mk = true) (hm : Nat.ble mk.length ws.length = true) (hst : st0 = As.reverse ++ rest) (hR : d + 1 ≤ R.frames ∧ 8 + (maxL + 11) + 60 * d ≤ R.locals) (hsize : ls.size = nL) (hW : (rest.map fun v => v.category).sum ≤ 8) (hdg : decode cc pc = .ok (.invokestatic index, 3)) (hf : cells + mc ≤ R.cells ∧ slots + ms ≤ R.slots)
    (kk : ∀ (u : va_W) (H1 : Heap) (locs1 : List Loc), post u → va_P G CL (selW mk ws ++ u) H1 → va_D A (selW mk ws ++ u) → va_S A s.heap H1 locs1 → W p l e R s m args below meth c H1 locs1 (cells + mc) (slots + ms) Q (F0 m (pc + 3) ls rest)) : W p l e R s m args below meth c H locs cells slots Q (F0 m pc ls st0) := kWv (rSN S hN hM L (preWS hN hP hD isC hC (okC_nd hk)) hst hR hsize hW hdg hf) hP hD hS hA isC (trueIx 0 mk) hC (sel_ok hm) (sel_nd mk 0) (okC_dis hk) kk
theorem cSNq {post : Nat → va_W → Prop} (S : CallFix p m c cc nL s args BIG own) (hM : Met l y (.code y bytes maxL ret :: BIG) (Rm d mc ms) (Wr G cy wc H.size As) (Wq G post (va_A wc H.size)) mc ms (va_A wc H.size)) (L : LkSN own index y bytes maxL ret As.length) (hN : KN G cy s) (hP : va_P G CL ws H) (hD : va_D A ws) (hS : va_S A s.heap H locs) (hA : ∀ q, s.heap.size ≤ q → A q) (isC : List Nat) (mk : List Bool) (hC : isC.map (fun i => ws[i]?) = wc.map some) (hk : okC isC mk = true) (hm : Nat.ble mk.length ws.length = true) (hst : st0 = As.reverse ++ rest) (hR : d + 1 ≤ R.frames ∧ 8 + (maxL + 11) + 60 * d ≤ R.locals) (hsize : ls.size = nL) (hW : (rest.map fun v => v.category).sum ≤ 8) (hdg : decode cc pc = .ok (.invokestatic index, 3)) (hf : cells + mc ≤ R.cells ∧ slots + ms ≤ R.slots)
    (kk : ∀ (r : Nat) (u : va_W) (H1 : Heap) (locs1 : List Loc), post r u → va_P G CL (selW mk ws ++ u) H1 → va_D A (selW mk ws ++ u) → va_S A s.heap H1 locs1 → W p l e R s m args below meth c H1 locs1 (cells + mc) (slots + ms) Q (F0 m (pc + 3) ls (.ref r :: rest))) : W p l e R s m args below meth c H locs cells slots Q (F0 m pc ls st0) := kWq (rSN S hN hM L (preWS hN hP hD isC hC (okC_nd hk)) hst hR hsize hW hdg hf) hP hD hS hA isC (trueIx 0 mk) hC (sel_ok hm) (sel_nd mk 0) (okC_dis hk) kk
theorem cINv {post : va_W → Prop} (S : CallFix p m c cc nL s args BIG own) (hM : Met l y (.code y bytes maxL none :: BIG) (Rm d mc ms) (Wr G cy wc H.size (.ref b :: As)) (Wv G post (va_A wc H.size)) mc ms (va_A wc H.size)) (L : LkIN own index y bytes maxL As.length) (hN : KN G cy s) (hP : va_P G CL ws H) (hD : va_D A ws) (hS : va_S A s.heap H locs) (hA : ∀ q, s.heap.size ≤ q → A q) (isC : List Nat) (mk : List Bool) (hC : isC.map (fun i => ws[i]?) = wc.map some) (hk : okC isC mk = true) (hm : Nat.ble mk.length ws.length = true) (hst : st0 = As.reverse ++ .ref b :: rest) (hR : d + 1 ≤ R.frames ∧ 8 + (maxL + 11) + 60 * d ≤ R.locals) (hsize : ls.size = nL) (hW : (rest.map fun v => v.category).sum ≤ 8) (hdg : decode cc pc = .ok (.invokespecial index, 3)) (hf : cells + mc ≤ R.cells ∧ slots + ms ≤ R.slots)
    (kk : ∀ (u : va_W) (H1 : Heap) (locs1 : List Loc), post u → va_P G CL (selW mk ws ++ u) H1 → va_D A (selW mk ws ++ u) → va_S A s.heap H1 locs1 → W p l e R s m args below meth c H1 locs1 (cells + mc) (slots + ms) Q (F0 m (pc + 3) ls rest)) : W p l e R s m args below meth c H locs cells slots Q (F0 m pc ls st0) := kWv (rIN S hN hM L (preWS hN hP hD isC hC (okC_nd hk)) hst hR hsize hW hdg hf) hP hD hS hA isC (trueIx 0 mk) hC (sel_ok hm) (sel_nd mk 0) (okC_dis hk) kk
end SPEED1
end
section
/-! cells chosen by masks: a walk along the list, not a look-up for each place -/
theorem sel_eq {mk : List Bool} {ws wc : va_W} (h : selW mk ws = wc) (hm : Nat.ble mk.length ws.length = true) : (trueIx 0 mk).map (fun i => ws[i]?) = wc.map some := by
  rw [← h]
  exact sel_ok hm
theorem sel_fm {mk : List Bool} {ws wc : va_W} (h : selW mk ws = wc) (hm : Nat.ble mk.length ws.length = true) : (trueIx 0 mk).filterMap (fun i => ws[i]?) = wc := va_sub2 (sel_eq h hm)
noncomputable def trueIxs : List (List Bool) → List Nat
  | [] => []
  | m :: ms => trueIx 0 m ++ trueIxs ms
noncomputable def selWs : List (List Bool) → va_W → va_W
  | [], _ => []
  | m :: ms, w => selW m w ++ selWs ms w
noncomputable def lenOk : List (List Bool) → Nat → Bool
  | [], _ => true
  | m :: ms, n => Nat.ble m.length n && lenOk ms n
theorem sels_eq : ∀ {ms : List (List Bool)} {ws wc : va_W}, selWs ms ws = wc → lenOk ms ws.length = true → (trueIxs ms).map (fun i => ws[i]?) = wc.map some
  | [], ws, wc, h, _ => by rw [← h]; rfl
  | m :: ms, ws, wc, h, hl => by
    have h2 : (Nat.ble m.length ws.length && lenOk ms ws.length) = true := hl
    rw [Bool.and_eq_true] at h2
    rw [← h]
    show (trueIx 0 m ++ trueIxs ms).map (fun i => ws[i]?) = (selW m ws ++ selWs ms ws).map some
    rw [List.map_append, List.map_append, sel_ok h2.1, sels_eq rfl h2.2]
theorem sels_fm {ms : List (List Bool)} {ws wc : va_W} (h : selWs ms ws = wc) (hl : lenOk ms ws.length = true) : (trueIxs ms).filterMap (fun i => ws[i]?) = wc := va_sub2 (sels_eq h hl)
theorem pSb {G : va_G} {H : Heap} {ws u : va_W} (hP : va_P G CL ws H) (ms : List (List Bool)) (e : selWs ms ws = u) (hl : lenOk ms ws.length = true) : va_P G CL u H := hP.sub (trueIxs ms) (sels_fm e hl)
theorem dSb {A : Nat → Prop} {ws u : va_W} (hD : va_D A ws) (ms : List (List Bool)) (hn : va_nd (trueIxs ms) = true) (e : selWs ms ws = u) (hl : lenOk ms ws.length = true) : va_D A u := hD.sub (trueIxs ms) hn (sels_eq e hl)
theorem pPt {G : va_G} {H : Heap} {X cx pl : va_W} (hP : va_P G CL (X ++ pl) H) (ms : List (List Bool)) (e : selWs ms X = cx) (hl : lenOk ms X.length = true) : va_P G CL (cx ++ pl) H := hP.part (trueIxs ms) (sels_eq e hl)
theorem dPt {A : Nat → Prop} {X cx pl : va_W} (hD : va_D A (X ++ pl)) (ms : List (List Bool)) (hn : va_nd (trueIxs ms) = true) (e : selWs ms X = cx) (hl : lenOk ms X.length = true) : va_D A (cx ++ pl) := hD.part (trueIxs ms) hn (sels_eq e hl)
theorem pd_eq {G : va_G} {H : Heap} {A : Nat → Prop} {Z u v : va_W} (ws' : va_W) (h : va_P G CL (Z ++ u) H) (d : va_D A (Z ++ u)) (hu : u = v) (e : Z ++ v = ws') : va_P G CL ws' H ∧ va_D A ws' := by
  subst hu
  exact pd_as ws' h d e
theorem pd_eqQ {G : va_G} {H : Heap} {A : Nat → Prop} {Z u v pl : va_W} (ws' : va_W) (h : va_P G CL ((Z ++ u) ++ pl) H) (d : va_D A ((Z ++ u) ++ pl)) (hu : u = v) (e : (Z ++ v) ++ pl = ws') : va_P G CL ws' H ∧ va_D A ws' := by
  subst hu
  exact pd_as ws' h d e
section FASTE
variable {p : Program} {l : Launch} {e : Env} {R : Room} {s : State} {m : MethodId} {args : Array Value} {below : List Frame} {meth : Method} {c : Code} {H : Heap} {locs : List Loc} {cells slots : Nat}
variable {cc : ByteArray} {pc : Nat} {ls : Array Slot} {G : va_G} {A : Nat → Prop} {ws X pl : va_W}
theorem endWs {post : Int32 → va_W → Prop} {v : Int32} {ty : FieldType} (ms : List (List Bool)) (hexec : p.tables.exec = Jvm.exec) (hb : c.code = cc) (hr : meth.sig.returnType = some ty) (hlocks : meth.locks = false) (hn : narrow ty (.int v) = .int v) (hP : va_P G CL ws H) (hD : va_D A ws) (hl : lenOk ms ws.length = true) (hd : va_nd (trueIxs ms) = true) (hS : va_S A s.heap H locs) (hp : post v (selWs ms ws)) (hdg : decode cc pc = .ok (.ireturn, 1)) : W p l e R s m args below meth c H locs cells slots (MQ below (Wi G post A) args s cells slots A) (F0 m pc ls [.int v]) :=
  endW hexec hb hr hlocks hn (pSb hP ms rfl hl) (dSb hD ms hd rfl hl) hS hp hdg
theorem endWt {post : Int32 → va_W → Prop} {v : Int32} {ty : FieldType} (ms : List (List Bool)) (hexec : p.tables.exec = Jvm.exec) (hb : c.code = cc) (hr : meth.sig.returnType = some ty) (hlocks : meth.locks = false) (hn : narrow ty (.int v) = .int v) (hP : va_P G CL (X ++ pl) H) (hD : va_D A (X ++ pl)) (hl : lenOk ms X.length = true) (hd : va_nd (trueIxs ms) = true) (hS : va_S A s.heap H locs) (hp : post v (selWs ms X ++ pl)) (hdg : decode cc pc = .ok (.ireturn, 1)) : W p l e R s m args below meth c H locs cells slots (MQ below (Wi G post A) args s cells slots A) (F0 m pc ls [.int v]) :=
  endW hexec hb hr hlocks hn (pPt hP ms rfl hl) (dPt hD ms hd rfl hl) hS hp hdg
theorem endVs {post : va_W → Prop} (ms : List (List Bool)) (hexec : p.tables.exec = Jvm.exec) (hb : c.code = cc) (hr : meth.sig.returnType = none) (hlocks : meth.locks = false) (hP : va_P G CL ws H) (hD : va_D A ws) (hl : lenOk ms ws.length = true) (hd : va_nd (trueIxs ms) = true) (hS : va_S A s.heap H locs) (hp : post (selWs ms ws)) (hdg : decode cc pc = .ok (.return_, 1)) : W p l e R s m args below meth c H locs cells slots (MQ below (Wv G post A) args s cells slots A) (F0 m pc ls []) :=
  endV hexec hb hr hlocks (pSb hP ms rfl hl) (dSb hD ms hd rfl hl) hS hp hdg
theorem endVt {post : va_W → Prop} (ms : List (List Bool)) (hexec : p.tables.exec = Jvm.exec) (hb : c.code = cc) (hr : meth.sig.returnType = none) (hlocks : meth.locks = false) (hP : va_P G CL (X ++ pl) H) (hD : va_D A (X ++ pl)) (hl : lenOk ms X.length = true) (hd : va_nd (trueIxs ms) = true) (hS : va_S A s.heap H locs) (hp : post (selWs ms X ++ pl)) (hdg : decode cc pc = .ok (.return_, 1)) : W p l e R s m args below meth c H locs cells slots (MQ below (Wv G post A) args s cells slots A) (F0 m pc ls []) :=
  endV hexec hb hr hlocks (pPt hP ms rfl hl) (dPt hD ms hd rfl hl) hS hp hdg
end FASTE
end
section
theorem in_yes {v a b : Int64} (h1 : ¬ lg_cmp v a < 0) (h2 : ¬ 0 < lg_cmp v b) : Iv v a b := Iv_iff.mpr ⟨(lg_cmp_ge v a).mp (Int32.not_lt.mp h1), (lg_cmp_le v b).mp (Int32.not_lt.mp h2)⟩
theorem in_no1 {v a b : Int64} (h1 : lg_cmp v a < 0) : ¬ Iv v a b := fun h => absurd ((lg_cmp_ge v a).mpr (Iv_iff.mp h).1) (Int32.not_le.mpr h1)
theorem in_no2 {v a b : Int64} (h1 : 0 < lg_cmp v b) : ¬ Iv v a b := fun h => absurd ((lg_cmp_le v b).mpr (Iv_iff.mp h).2) (Int32.not_le.mpr h1)
theorem and_m1 (x : Int32) : x &&& (-1) = x := by
  apply Int32.toBitVec_inj.mp
  simp
theorem in_shelf {x : Int32} (h : Iv x.toInt64 0 7) : vp_in x 8 := by
  rw [vp_in_iff]
  obtain ⟨h1, h2⟩ := Iv_iff.mp h
  rw [Int64.le_iff_toInt_le, Int32.toInt_toInt64] at h1 h2
  exact ⟨h1, Int.lt_of_le_of_lt h2 (by decide +kernel)⟩
theorem lt_in {x : Int32} {n : Nat} (h : vp_in x n) : x.toNatClampNeg < n := Nat.not_le.mp fun q => h (Or.inr q)
theorem in_m1 {v : Int64} (h : Iv v 0 (-1)) : False := by
  obtain ⟨h1, h2⟩ := Iv_iff.mp h
  rw [Int64.le_iff_toInt_le] at h1 h2
  have h3 : (0 : Int64).toInt = 0 := by decide +kernel
  have h4 : (-1 : Int64).toInt = -1 := by decide +kernel
  omega
noncomputable def sp_row (iA iB iC : Int32) : Int32 := if Iv iA.toInt64 0 7 ∧ Iv iB.toInt64 0 4 ∧ Iv iC.toInt64 0 40 then 1 else -2
noncomputable def sp_shelf (iA : Int32) : Int32 := if Iv iA.toInt64 0 7 then -4 else -2
noncomputable def sp_copy (iA iB : Int32) : Int32 := if Iv iA.toInt64 0 7 ∧ Iv iB.toInt64 0 7 then -4 else -2
noncomputable def sp_rule (iA iB iC : Int32) : Int32 := if Iv iA.toInt64 0 7 ∧ Iv iB.toInt64 1 6 ∧ Iv iC.toInt64 0 99 then 1 else -2
noncomputable def sp_says (iA iB : Int32) : Int32 := if Iv iA.toInt64 0 7 ∧ Iv iB.toInt64 0 6 then -4 else -2
noncomputable def sp_book (iA iB : Int32) : Int32 := if Iv iA.toInt64 1 99 ∧ iB = 0 then 0 else -2
noncomputable def sp_one (iA iB iC iD : Int32) : Int32 := if Iv iA.toInt64 0 9 ∧ Iv iB.toInt64 0 10 ∧ Iv iC.toInt64 0 10 ∧ Iv iD.toInt64 0 10 then 0 else -2
noncomputable def sp_feed (iB : Int32) : Int32 := if Iv iB.toInt64 1 4 then iB else -2
noncomputable def sp_run (iA iB iC : Int32) : Int32 := if Iv iA.toInt64 0 7 ∧ Iv iB.toInt64 1 60 ∧ Iv iC.toInt64 0 3 then -4 else -2
noncomputable def sp_head (iA : Int32) : Int32 := if Iv iA.toInt64 1 60 then -5 else -2
noncomputable def sp_lost (iA : Int32) : Int32 := if Iv iA.toInt64 1 1000 then 0 else -2
noncomputable def sp_gains (iA iB : Int32) : Int32 := if Iv iA.toInt64 0 7 ∧ Iv iB.toInt64 1 60 then -1000004 else -1000002
noncomputable def sp_judge (iA iB : Int32) : Int32 := if Iv iA.toInt64 0 7 ∧ Iv iB.toInt64 0 20 then -4 else -2
noncomputable def sp_years (iA iB : Int32) : Int32 := if Iv iA.toInt64 0 7 ∧ Iv iB.toInt64 1 20 then -4 else -2
noncomputable def sp_status (iA : Int32) : Int32 := if iA = 7 then 1 else if Iv iA.toInt64 12 16 ∨ Iv iA.toInt64 0 8 then 0 else -1
theorem toI {x : Int32} {a b : Int64} {m n : Int} (h : Iv x.toInt64 a b) (ha : a.toInt = m) (hb : b.toInt = n) : m ≤ x.toInt ∧ x.toInt ≤ n := by
  obtain ⟨h1, h2⟩ := Iv_iff.mp h
  rw [Int64.le_iff_toInt_le, Int32.toInt_toInt64] at h1 h2
  exact ⟨ha ▸ h1, hb ▸ h2⟩
theorem ofI {x : Int32} {a b : Int64} {m n : Int} (ha : a.toInt = m) (hb : b.toInt = n) (h : m ≤ x.toInt ∧ x.toInt ≤ n) : Iv x.toInt64 a b := by
  refine Iv_iff.mpr ⟨?_, ?_⟩ <;> rw [Int64.le_iff_toInt_le, Int32.toInt_toInt64]
  · rw [ha]; exact h.1
  · rw [hb]; exact h.2
theorem eqI {x k : Int32} {n : Int} (hk : k.toInt = n) (h : x.toInt = n) : x = k := Int32.toInt_inj.mp (h.trans hk.symm)
theorem in14 {x : Int32} (h : Iv x.toInt64 1 4) : x = 1 ∨ x = 2 ∨ x = 3 ∨ x = 4 := by
  have h1 := toI h (m := 1) (n := 4) (by decide +kernel) (by decide +kernel)
  rcases (show x.toInt = 1 ∨ x.toInt = 2 ∨ x.toInt = 3 ∨ x.toInt = 4 by omega) with e | e | e | e
  · exact Or.inl (eqI (by decide +kernel) e)
  · exact Or.inr (Or.inl (eqI (by decide +kernel) e))
  · exact Or.inr (Or.inr (Or.inl (eqI (by decide +kernel) e)))
  · exact Or.inr (Or.inr (Or.inr (eqI (by decide +kernel) e)))
theorem sw_0_8 (x : Int32) : x = 0 ∨ x = 1 ∨ x = 2 ∨ x = 3 ∨ x = 4 ∨ x = 5 ∨ x = 6 ∨ x = 7 ∨ x = 8 ∨ (x.toInt < 0 ∨ 8 < x.toInt) := by
  rcases (show x.toInt = 0 ∨ x.toInt = 1 ∨ x.toInt = 2 ∨ x.toInt = 3 ∨ x.toInt = 4 ∨ x.toInt = 5 ∨ x.toInt = 6 ∨ x.toInt = 7 ∨ x.toInt = 8 ∨ (x.toInt < 0 ∨ 8 < x.toInt) by omega) with e | e | e | e | e | e | e | e | e | e
  · exact Or.inl (eqI (by decide +kernel) e)
  · exact Or.inr (Or.inl (eqI (by decide +kernel) e))
  · exact Or.inr (Or.inr (Or.inl (eqI (by decide +kernel) e)))
  · exact Or.inr (Or.inr (Or.inr (Or.inl (eqI (by decide +kernel) e))))
  · exact Or.inr (Or.inr (Or.inr (Or.inr (Or.inl (eqI (by decide +kernel) e)))))
  · exact Or.inr (Or.inr (Or.inr (Or.inr (Or.inr (Or.inl (eqI (by decide +kernel) e))))))
  · exact Or.inr (Or.inr (Or.inr (Or.inr (Or.inr (Or.inr (Or.inl (eqI (by decide +kernel) e)))))))
  · exact Or.inr (Or.inr (Or.inr (Or.inr (Or.inr (Or.inr (Or.inr (Or.inl (eqI (by decide +kernel) e))))))))
  · exact Or.inr (Or.inr (Or.inr (Or.inr (Or.inr (Or.inr (Or.inr (Or.inr (Or.inl (eqI (by decide +kernel) e)))))))))
  · exact Or.inr (Or.inr (Or.inr (Or.inr (Or.inr (Or.inr (Or.inr (Or.inr (Or.inr e))))))))
theorem sw_no7 {x : Int32} (h : x.toInt < 0 ∨ 8 < x.toInt) : ¬ x = 7 := fun e => by
  subst e
  exact absurd h (by decide +kernel)
theorem sw_noIn {x : Int32} (h : x.toInt < 0 ∨ 8 < x.toInt) : ¬ Iv x.toInt64 0 8 := fun e => by
  have := toI e (m := 0) (n := 8) (by decide +kernel) (by decide +kernel)
  omega
theorem st_in5 {x : Int32} (h : Iv x.toInt64 12 16) : vp_in (x - 12) 5 := by
  have h1 := toI h (m := 12) (n := 16) (by decide +kernel) (by decide +kernel)
  rcases (show x.toInt = 12 ∨ x.toInt = 13 ∨ x.toInt = 14 ∨ x.toInt = 15 ∨ x.toInt = 16 by omega) with e | e | e | e | e
  · rw [eqI (k := 12) (by decide +kernel) e]; exact in_c rfl
  · rw [eqI (k := 13) (by decide +kernel) e]; exact in_c rfl
  · rw [eqI (k := 14) (by decide +kernel) e]; exact in_c rfl
  · rw [eqI (k := 15) (by decide +kernel) e]; exact in_c rfl
  · rw [eqI (k := 16) (by decide +kernel) e]; exact in_c rfl
theorem st_in8 {x : Int32} (h : Iv x.toInt64 12 16) : vp_in (x - 10) 8 := by
  have h1 := toI h (m := 12) (n := 16) (by decide +kernel) (by decide +kernel)
  rcases (show x.toInt = 12 ∨ x.toInt = 13 ∨ x.toInt = 14 ∨ x.toInt = 15 ∨ x.toInt = 16 by omega) with e | e | e | e | e
  · rw [eqI (k := 12) (by decide +kernel) e]; exact in_c rfl
  · rw [eqI (k := 13) (by decide +kernel) e]; exact in_c rfl
  · rw [eqI (k := 14) (by decide +kernel) e]; exact in_c rfl
  · rw [eqI (k := 15) (by decide +kernel) e]; exact in_c rfl
  · rw [eqI (k := 16) (by decide +kernel) e]; exact in_c rfl
theorem st_no7 {x : Int32} (h : Iv x.toInt64 12 16) : ¬ x = 7 := fun e => by
  subst e
  have := toI h (m := 12) (n := 16) (by decide +kernel) (by decide +kernel)
  exact absurd this.1 (by decide +kernel)
theorem in00 {x : Int32} : Iv x.toInt64 0 0 ↔ x = 0 := by
  constructor
  · intro h
    have h1 := toI h (m := 0) (n := 0) (by decide +kernel) (by decide +kernel)
    exact eqI (n := 0) (by decide +kernel) (by omega)
  · rintro rfl
    decide
noncomputable def lft (t : Int32) : Nat → Int32 → Int32
  | 0, x => x
  | n + 1, x => lft t n x * t / 10
noncomputable def lgst (t v : Int32) : Nat → Int32 → Int32 → Int32
  | 0, c, _ => c
  | n + 1, c, r => if v ≤ r then lgst t v n (c + 1) (r * t / 10) else c
noncomputable def sp_left (iA iB iC : Int32) : Int32 := if Iv iA.toInt64 0 1000 ∧ Iv iB.toInt64 0 10 ∧ Iv iC.toInt64 0 99 then lft iB iC.toNatClampNeg iA else -2
noncomputable def sp_longest (iA iB iC : Int32) : Int32 := if Iv iA.toInt64 0 1000 ∧ Iv iB.toInt64 0 10 ∧ Iv iC.toInt64 1 1000 then lgst iB iC 100 (-1) iA else -2
theorem nI_of99 {x : Int32} (h : Iv x.toInt64 0 99) : ∃ k : Nat, k ≤ 99 ∧ x = nI k := by
  have h1 := toI h (m := 0) (n := 99) (by decide +kernel) (by decide +kernel)
  exact nI_of2 (M := 99) (n := 99) (by decide +kernel) (by rw [Int32.lt_iff_toInt_lt]; exact Int.not_lt.mpr h1.1) (by rw [Int32.le_iff_toInt_le]; exact h1.2)
theorem nI_of40 {x : Int32} (h : Iv x.toInt64 0 40) : ∃ k : Nat, k ≤ 40 ∧ x = nI k := by
  have h1 := toI h (m := 0) (n := 40) (by decide +kernel) (by decide +kernel)
  exact nI_of2 (M := 40) (n := 40) (by decide +kernel) (by rw [Int32.lt_iff_toInt_lt]; exact Int.not_lt.mpr h1.1) (by rw [Int32.le_iff_toInt_le]; exact h1.2)
theorem nI_of7 {x : Int32} (h : Iv x.toInt64 0 7) : ∃ k : Nat, k ≤ 7 ∧ x = nI k := by
  have h1 := toI h (m := 0) (n := 7) (by decide +kernel) (by decide +kernel)
  exact nI_of2 (M := 7) (n := 7) (by decide +kernel) (by rw [Int32.lt_iff_toInt_lt]; exact Int.not_lt.mpr h1.1) (by rw [Int32.le_iff_toInt_le]; exact h1.2)
theorem in07 {x : Int32} (h : Iv x.toInt64 0 7) : x = 0 ∨ x = 1 ∨ x = 2 ∨ x = 3 ∨ x = 4 ∨ x = 5 ∨ x = 6 ∨ x = 7 := by
  have h1 := toI h (m := 0) (n := 7) (by decide +kernel) (by decide +kernel)
  rcases sw_0_8 x with e | e | e | e | e | e | e | e | e | e
  · exact Or.inl e
  · exact Or.inr (Or.inl e)
  · exact Or.inr (Or.inr (Or.inl e))
  · exact Or.inr (Or.inr (Or.inr (Or.inl e)))
  · exact Or.inr (Or.inr (Or.inr (Or.inr (Or.inl e))))
  · exact Or.inr (Or.inr (Or.inr (Or.inr (Or.inr (Or.inl e)))))
  · exact Or.inr (Or.inr (Or.inr (Or.inr (Or.inr (Or.inr (Or.inl e))))))
  · exact Or.inr (Or.inr (Or.inr (Or.inr (Or.inr (Or.inr (Or.inr e))))))
  · subst e; exact absurd h1.2 (by decide +kernel)
  · omega
/-- a counter below its bound, at it -/
theorem lp_lt {x y : Int32} {j n : Nat} (hx : x = nI j) (hy : y = nI n) (hj : j < 2 ^ 31) (hn : n < 2 ^ 31) (c : ¬ y ≤ x) : j < n := by
  subst hx hy
  rcases Nat.lt_or_ge j n with q | q
  · exact q
  · exact absurd (nI_le q hj) c
theorem lp_ge {x y : Int32} {j n : Nat} (hx : x = nI j) (hy : y = nI n) (hj : j < 2 ^ 31) (hn : n < 2 ^ 31) (c : y ≤ x) : n ≤ j := by
  subst hx hy
  rcases Nat.lt_or_ge j n with q | q
  · exact absurd c (nI_ge q hn)
  · exact q
theorem in_nI {x : Int32} {j n : Nat} (hx : x = nI j) (h : j < n) (hn : n < 2 ^ 31) : vp_in x n := hx ▸ vp_in_nI h hn
theorem in_el {x y : Int32} {k j : Nat} (hk : k ≤ 7) (hx : x = nI j) (hj : j < 40) (hy : y = nI k) : vp_in (y * 40 + x) 320 := by
  subst hx hy
  rw [show (40 : Int32) = nI 40 from rfl, pk_mul, nI_add]
  exact vp_in_nI (by omega) (by omega)
theorem lg_stop0 {t v : Int32} {n : Nat} {c r : Int32} (h : r < v) : lgst t v n c r = c := by
  cases n with
  | zero => rfl
  | succ n => exact if_neg (Int32.not_le.mpr h)
theorem lg_go {t v : Int32} {n : Nat} {c r : Int32} (h : ¬ r < v) : lgst t v (n + 1) c r = lgst t v n (c + 1) (r * t / 10) := if_pos (Int32.not_lt.mp h)
theorem m1_nI (j : Nat) : nI j - 1 + 1 = nI (j + 1) - 1 := by
  rw [← nI_1]
  apply Int32.toBitVec_inj.mp
  simp
theorem m1_nI' (j : Nat) : nI j - 1 + 1 = nI j := by
  apply Int32.toBitVec_inj.mp
  simp
theorem m1_lt {x : Int32} {j : Nat} (hx : x = nI j - 1) (hj : j ≤ 100) (c : ¬ (99 : Int32) ≤ x) : j < 100 := by
  rcases Nat.lt_or_ge j 100 with q | q
  · exact q
  · exact absurd (by rw [hx, show j = 100 by omega]; decide) c
theorem m1_ge {x : Int32} {j : Nat} (hx : x = nI j - 1) (hj : j ≤ 100) (c : (99 : Int32) ≤ x) : j = 100 := by
  rcases Nat.lt_or_ge j 100 with q | q
  · exfalso
    rw [hx, Int32.le_iff_toInt_le] at c
    have e : (nI j - 1).toInt = (j : Int) - 1 := by
      rw [show (1 : Int32) = nI 1 from rfl, pk_sub_toInt (by omega) (by omega)]
      rfl
    rw [e, show (99 : Int32).toInt = 99 by decide +kernel] at c
    omega
  · omega
end
section
/-! ONE TOWN, for class and reference: books, people, the seed; who is white, gone; worth, needs, good; age, reads, keeps, tells; known of one and a book -/
noncomputable abbrev TA : Type := ((Nat × Nat) × (Int32 × (Nat → Bool) × (Nat → Bool))) × (((Nat → Int32) × (Nat → Int32) × (Nat → Int32)) × (((Nat → Int32) × (Nat → Int32)) × ((Nat → Int32) × (Nat → Int32)) × (Nat → Nat → Int32)))
noncomputable abbrev T_nb (t : TA) : Nat := t.1.1.1
noncomputable abbrev T_np (t : TA) : Nat := t.1.1.2
noncomputable abbrev T_sd (t : TA) : Int32 := t.1.2.1
noncomputable abbrev T_wh (t : TA) : Nat → Bool := t.1.2.2.1
noncomputable abbrev T_gn (t : TA) : Nat → Bool := t.1.2.2.2
noncomputable abbrev T_wo (t : TA) : Nat → Int32 := t.2.1.1
noncomputable abbrev T_ne (t : TA) : Nat → Int32 := t.2.1.2.1
noncomputable abbrev T_go (t : TA) : Nat → Int32 := t.2.1.2.2
noncomputable abbrev T_ag (t : TA) : Nat → Int32 := t.2.2.1.1
noncomputable abbrev T_re (t : TA) : Nat → Int32 := t.2.2.1.2
noncomputable abbrev T_me (t : TA) : Nat → Int32 := t.2.2.2.1.1
noncomputable abbrev T_te (t : TA) : Nat → Int32 := t.2.2.2.1.2
noncomputable abbrev T_kn (t : TA) : Nat → Nat → Int32 := t.2.2.2.2
noncomputable abbrev T_mk (nb np : Nat) (sd : Int32) (wh gn : Nat → Bool) (wo ne go ag re me te : Nat → Int32) (kn : Nat → Nat → Int32) : TA := (((nb, np), (sd, wh, gn)), ((wo, ne, go), ((ag, re), (me, te), kn)))
noncomputable abbrev T_setkn (t : TA) (x : Nat → Nat → Int32) : TA := T_mk (T_nb t) (T_np t) (T_sd t) (T_wh t) (T_gn t) (T_wo t) (T_ne t) (T_go t) (T_ag t) (T_re t) (T_me t) (T_te t) x
noncomputable abbrev T_setwh (t : TA) (x : Nat → Bool) : TA := T_mk (T_nb t) (T_np t) (T_sd t) x (T_gn t) (T_wo t) (T_ne t) (T_go t) (T_ag t) (T_re t) (T_me t) (T_te t) (T_kn t)
noncomputable abbrev T_setgn (t : TA) (x : Nat → Bool) : TA := T_mk (T_nb t) (T_np t) (T_sd t) (T_wh t) x (T_wo t) (T_ne t) (T_go t) (T_ag t) (T_re t) (T_me t) (T_te t) (T_kn t)
noncomputable abbrev T_setsd (t : TA) (x : Int32) : TA := T_mk (T_nb t) (T_np t) x (T_wh t) (T_gn t) (T_wo t) (T_ne t) (T_go t) (T_ag t) (T_re t) (T_me t) (T_te t) (T_kn t)
noncomputable abbrev T_setgo (t : TA) (x : Nat → Int32) : TA := T_mk (T_nb t) (T_np t) (T_sd t) (T_wh t) (T_gn t) (T_wo t) (T_ne t) x (T_ag t) (T_re t) (T_me t) (T_te t) (T_kn t)
noncomputable abbrev T_setag (t : TA) (x : Nat → Int32) : TA := T_mk (T_nb t) (T_np t) (T_sd t) (T_wh t) (T_gn t) (T_wo t) (T_ne t) (T_go t) x (T_re t) (T_me t) (T_te t) (T_kn t)
/-- places of a set -/
noncomputable def bitb (s : Int32) (n : Nat) : Bool := decide (¬ (s >>> (nI n &&& 31)) &&& 1 = 0)
noncomputable def wb8 (b0 b1 b2 b3 b4 b5 b6 b7 : Bool) : Int32 := nI ((if b0 then 1 else 0) + (if b1 then 2 else 0) + (if b2 then 4 else 0) + (if b3 then 8 else 0) + (if b4 then 16 else 0) + (if b5 then 32 else 0) + (if b6 then 64 else 0) + (if b7 then 128 else 0))
noncomputable def wb (f : Nat → Bool) : Int32 := wb8 (f 0) (f 1) (f 2) (f 3) (f 4) (f 5) (f 6) (f 7)
noncomputable def updB (f : Nat → Bool) (k : Nat) (v : Bool) : Nat → Bool := fun j => if j = k then v else f j
noncomputable def updM (K : Nat → Nat → Int32) (p b : Nat) (v : Int32) : Nat → Nat → Int32 := fun p' => if p' = p then upd (K p) b v else K p'
noncomputable def shF (K : Nat → Nat → Int32) : Nat → Int32 := fun i => K (i / 8) (i % 8)
noncomputable def mx (a b : Int32) : Int32 := if a < b then b else a
theorem bit8 : ∀ b0 b1 b2 b3 b4 b5 b6 b7 : Bool, (bitb (wb8 b0 b1 b2 b3 b4 b5 b6 b7) 0 = b0 ∧ bitb (wb8 b0 b1 b2 b3 b4 b5 b6 b7) 1 = b1 ∧ bitb (wb8 b0 b1 b2 b3 b4 b5 b6 b7) 2 = b2 ∧ bitb (wb8 b0 b1 b2 b3 b4 b5 b6 b7) 3 = b3) ∧ (bitb (wb8 b0 b1 b2 b3 b4 b5 b6 b7) 4 = b4 ∧ bitb (wb8 b0 b1 b2 b3 b4 b5 b6 b7) 5 = b5 ∧ bitb (wb8 b0 b1 b2 b3 b4 b5 b6 b7) 6 = b6 ∧ bitb (wb8 b0 b1 b2 b3 b4 b5 b6 b7) 7 = b7) := by decide +kernel
theorem bit_wb (f : Nat → Bool) {k : Nat} (h : k < 8) : bitb (wb f) k = f k := by
  have := bit8 (f 0) (f 1) (f 2) (f 3) (f 4) (f 5) (f 6) (f 7)
  match k, h with
  | 0, _ => exact this.1.1
  | 1, _ => exact this.1.2.1
  | 2, _ => exact this.1.2.2.1
  | 3, _ => exact this.1.2.2.2
  | 4, _ => exact this.2.1
  | 5, _ => exact this.2.2.1
  | 6, _ => exact this.2.2.2.1
  | 7, _ => exact this.2.2.2.2
  | k + 8, h => exact absurd h (by omega)
theorem on8 : ∀ b0 b1 b2 b3 b4 b5 b6 b7 : Bool, (wb8 b0 b1 b2 b3 b4 b5 b6 b7 ||| (1 <<< (nI 0 &&& 31)) = wb8 true b1 b2 b3 b4 b5 b6 b7 ∧ wb8 b0 b1 b2 b3 b4 b5 b6 b7 ||| (1 <<< (nI 1 &&& 31)) = wb8 b0 true b2 b3 b4 b5 b6 b7 ∧ wb8 b0 b1 b2 b3 b4 b5 b6 b7 ||| (1 <<< (nI 2 &&& 31)) = wb8 b0 b1 true b3 b4 b5 b6 b7 ∧ wb8 b0 b1 b2 b3 b4 b5 b6 b7 ||| (1 <<< (nI 3 &&& 31)) = wb8 b0 b1 b2 true b4 b5 b6 b7) ∧ (wb8 b0 b1 b2 b3 b4 b5 b6 b7 ||| (1 <<< (nI 4 &&& 31)) = wb8 b0 b1 b2 b3 true b5 b6 b7 ∧ wb8 b0 b1 b2 b3 b4 b5 b6 b7 ||| (1 <<< (nI 5 &&& 31)) = wb8 b0 b1 b2 b3 b4 true b6 b7 ∧ wb8 b0 b1 b2 b3 b4 b5 b6 b7 ||| (1 <<< (nI 6 &&& 31)) = wb8 b0 b1 b2 b3 b4 b5 true b7 ∧ wb8 b0 b1 b2 b3 b4 b5 b6 b7 ||| (1 <<< (nI 7 &&& 31)) = wb8 b0 b1 b2 b3 b4 b5 b6 true) := by decide +kernel
theorem wb_on (f : Nat → Bool) {k : Nat} (h : k < 8) : wb f ||| (1 <<< (nI k &&& 31)) = wb (updB f k true) := by
  have := on8 (f 0) (f 1) (f 2) (f 3) (f 4) (f 5) (f 6) (f 7)
  match k, h with
  | 0, _ => exact this.1.1
  | 1, _ => exact this.1.2.1
  | 2, _ => exact this.1.2.2.1
  | 3, _ => exact this.1.2.2.2
  | 4, _ => exact this.2.1
  | 5, _ => exact this.2.2.1
  | 6, _ => exact this.2.2.2.1
  | 7, _ => exact this.2.2.2.2
  | k + 8, h => exact absurd h (by omega)
theorem off8 : ∀ b0 b1 b2 b3 b4 b5 b6 b7 : Bool, (wb8 b0 b1 b2 b3 b4 b5 b6 b7 &&& ((1 <<< (nI 0 &&& 31)) ^^^ (-1)) = wb8 false b1 b2 b3 b4 b5 b6 b7 ∧ wb8 b0 b1 b2 b3 b4 b5 b6 b7 &&& ((1 <<< (nI 1 &&& 31)) ^^^ (-1)) = wb8 b0 false b2 b3 b4 b5 b6 b7 ∧ wb8 b0 b1 b2 b3 b4 b5 b6 b7 &&& ((1 <<< (nI 2 &&& 31)) ^^^ (-1)) = wb8 b0 b1 false b3 b4 b5 b6 b7 ∧ wb8 b0 b1 b2 b3 b4 b5 b6 b7 &&& ((1 <<< (nI 3 &&& 31)) ^^^ (-1)) = wb8 b0 b1 b2 false b4 b5 b6 b7) ∧ (wb8 b0 b1 b2 b3 b4 b5 b6 b7 &&& ((1 <<< (nI 4 &&& 31)) ^^^ (-1)) = wb8 b0 b1 b2 b3 false b5 b6 b7 ∧ wb8 b0 b1 b2 b3 b4 b5 b6 b7 &&& ((1 <<< (nI 5 &&& 31)) ^^^ (-1)) = wb8 b0 b1 b2 b3 b4 false b6 b7 ∧ wb8 b0 b1 b2 b3 b4 b5 b6 b7 &&& ((1 <<< (nI 6 &&& 31)) ^^^ (-1)) = wb8 b0 b1 b2 b3 b4 b5 false b7 ∧ wb8 b0 b1 b2 b3 b4 b5 b6 b7 &&& ((1 <<< (nI 7 &&& 31)) ^^^ (-1)) = wb8 b0 b1 b2 b3 b4 b5 b6 false) := by decide +kernel
theorem wb_off (f : Nat → Bool) {k : Nat} (h : k < 8) : wb f &&& ((1 <<< (nI k &&& 31)) ^^^ (-1)) = wb (updB f k false) := by
  have := off8 (f 0) (f 1) (f 2) (f 3) (f 4) (f 5) (f 6) (f 7)
  match k, h with
  | 0, _ => exact this.1.1
  | 1, _ => exact this.1.2.1
  | 2, _ => exact this.1.2.2.1
  | 3, _ => exact this.1.2.2.2
  | 4, _ => exact this.2.1
  | 5, _ => exact this.2.2.1
  | 6, _ => exact this.2.2.2.1
  | 7, _ => exact this.2.2.2.2
  | k + 8, h => exact absurd h (by omega)
theorem th8 : ∀ n, n < 9 → ∀ b0 b1 b2 b3 b4 b5 b6 b7 : Bool, ((1 <<< (nI n &&& 31)) - 1) &&& (wb8 b0 b1 b2 b3 b4 b5 b6 b7 ^^^ (-1)) = wb8 (decide (0 < n) && !b0) (decide (1 < n) && !b1) (decide (2 < n) && !b2) (decide (3 < n) && !b3) (decide (4 < n) && !b4) (decide (5 < n) && !b5) (decide (6 < n) && !b6) (decide (7 < n) && !b7) := by decide +kernel
theorem wb_there (g : Nat → Bool) {n : Nat} (h : n ≤ 8) : ((1 <<< (nI n &&& 31)) - 1) &&& (wb g ^^^ (-1)) = wb (fun p => decide (p < n) && !g p) := th8 n (by omega) (g 0) (g 1) (g 2) (g 3) (g 4) (g 5) (g 6) (g 7)
theorem shF_get (K : Nat → Nat → Int32) {p b : Nat} (hb : b < 8) : shF K (p * 8 + b) = K p b := by
  unfold shF
  rw [show (p * 8 + b) / 8 = p by omega, show (p * 8 + b) % 8 = b by omega]
theorem shF_put (K : Nat → Nat → Int32) {p b : Nat} (hb : b < 8) (v : Int32) : upd (shF K) (p * 8 + b) v = shF (updM K p b v) := by
  funext i
  unfold shF updM upd
  by_cases h : i = p * 8 + b
  · subst h
    rw [if_pos rfl, show (p * 8 + b) / 8 = p by omega, show (p * 8 + b) % 8 = b by omega, if_pos rfl]
    exact (if_pos rfl).symm
  · rw [if_neg h]
    by_cases h2 : i / 8 = p
    · rw [if_pos h2, if_neg (by omega)]
      show K (i / 8) (i % 8) = K p (i % 8)
      rw [h2]
    · rw [if_neg h2]
theorem ix8 {p b : Nat} (hp : p < 8) (hb : b < 8) : nI p * 8 + nI b = nI (p * 8 + b) := by
  rw [show (8 : Int32) = nI 8 from rfl, pk_mul, nI_add]
theorem in64 {p b : Nat} (hp : p < 8) (hb : b < 8) : vp_in (nI p * 8 + nI b) 64 := by
  rw [ix8 hp hb]
  exact vp_in_nI (by omega) (by omega)
theorem cl64 {p b : Nat} (hp : p < 8) (hb : b < 8) : (nI p * 8 + nI b).toNatClampNeg = p * 8 + b := by
  rw [ix8 hp hb]
  exact nI_clamp (by omega)
theorem cl8 {k : Nat} (h : k < 8) : (nI k).toNatClampNeg = k := nI_clamp (by omega)
theorem in8 {k : Nat} (h : k < 8) : vp_in (nI k) 8 := vp_in_nI h (by omega)
/-- what is known, would be known -/
noncomputable def gdF (need : Int32) (k : Nat → Int32) : Nat → Int32
  | 0 => 1000
  | n + 1 => if bitb need n = true ∧ k n < gdF need k n then k n else gdF need k n
noncomputable def zgd (t : TA) (p b : Nat) : Int32 := gdF (T_ne t b) (T_kn t p) b
noncomputable def zgr (o g : Int32) : Int32 := o * (g + 1000) / 2000
noncomputable def zwk (t : TA) (p b : Nat) : Int32 := mx (zgr (T_go t b * T_re t p / 10) (zgd t p b)) (T_kn t p b)
noncomputable def gA (pr : Nat → Bool) (k : Nat → Int32) : Nat → Int32
  | 0 => 0
  | n + 1 => if pr n = true then mx (gA pr k n) (k n) else gA pr k n
noncomputable def mkn (t : TA) (b : Nat) (s : Int32) : Int32 := gA (bitb s) (fun p => T_kn t p b) (T_np t)
noncomputable def wsum (f : Nat → Int32) : Nat → Int32
  | 0 => 0
  | n + 1 => wsum f n + f n
noncomputable def waF (t : TA) (s : Int32) : Int32 := wsum (fun b => T_wo t b * mkn t b s) (T_nb t)
noncomputable def zthere (t : TA) : Int32 := wb (fun p => decide (p < T_np t) && !T_gn t p)
noncomputable def zval (t : TA) : Int32 := waF t (zthere t)
noncomputable def orF (f : Nat → Bool) : Nat → Int32
  | 0 => 0
  | n + 1 => if f n = true then orF f n ||| (1 <<< (nI n &&& 31)) else orF f n
noncomputable def bkn (t : TA) (s v : Int32) : Int32 := orF (fun b => decide (v ≤ mkn t b s)) (T_nb t)
noncomputable def zgt (t : TA) (p o b : Nat) : Int32 := mx 0 (T_kn t p b * T_te t p / 10 - T_kn t o b)
noncomputable def rdT (t : TA) (p b : Nat) : TA := T_setwh (T_setkn t (updM (T_kn t) p b (zwk t p b))) (updB (T_wh t) b true)
end
section
/-! loops over books and people -/
noncomputable def brF (t : TA) (b : Nat) : Nat → Int32 × Int32
  | 0 => (-1, 0)
  | p + 1 => if T_gn t p = false ∧ ¬ zwk t p b = -1 ∧ ((brF t b p).1 = -1 ∨ (brF t b p).2 < zwk t p b ∨ (zwk t p b = (brF t b p).2 ∧ T_ag t p < T_ag t (brF t b p).1.toNatClampNeg)) then (nI p, zwk t p b) else brF t b p
noncomputable def zbr (t : TA) (b : Nat) : Int32 := (brF t b (T_np t)).1
theorem br_in (t : TA) (b : Nat) : ∀ n, (brF t b n).1 = -1 ∨ ∃ k, k < n ∧ (brF t b n).1 = nI k := by
  intro n
  induction n with
  | zero => exact Or.inl rfl
  | succ n ih =>
    unfold brF
    split
    · exact Or.inr ⟨n, by omega, rfl⟩
    · rcases ih with h | ⟨k, h1, h2⟩
      · exact Or.inl h
      · exact Or.inr ⟨k, by omega, h2⟩
noncomputable def duF (t : TA) : Nat → Int32
  | 0 => -1
  | b + 1 => if T_wh t b = false ∧ (duF t b = -1 ∨ T_wo t (duF t b).toNatClampNeg < T_wo t b) then nI b else duF t b
noncomputable def zdu (t : TA) : Int32 := duF t (T_nb t)
theorem du_in (t : TA) : ∀ n, duF t n = -1 ∨ ∃ k, k < n ∧ duF t n = nI k := by
  intro n
  induction n with
  | zero => exact Or.inl rfl
  | succ n ih =>
    unfold duF
    split
    · exact Or.inr ⟨n, by omega, rfl⟩
    · rcases ih with h | ⟨k, h1, h2⟩
      · exact Or.inl h
      · exact Or.inr ⟨k, by omega, h2⟩
noncomputable def ybF (t : TA) (o : Int32) : Nat → Int32
  | 0 => -1
  | p + 1 => if ¬ nI p = o ∧ T_gn t p = false ∧ (ybF t o p = -1 ∨ T_ag t p < T_ag t (ybF t o p).toNatClampNeg) then nI p else ybF t o p
noncomputable def zyb (t : TA) (o : Int32) : Int32 := ybF t o (T_np t)
theorem yb_in (t : TA) (o : Int32) : ∀ n, ybF t o n = -1 ∨ ∃ k, k < n ∧ ybF t o n = nI k := by
  intro n
  induction n with
  | zero => exact Or.inl rfl
  | succ n ih =>
    unfold ybF
    split
    · exact Or.inr ⟨n, by omega, rfl⟩
    · rcases ih with h | ⟨k, h1, h2⟩
      · exact Or.inl h
      · exact Or.inr ⟨k, by omega, h2⟩
noncomputable def uaG (t : TA) (pl : Int32) : Nat → Nat → Int32 → Int32
  | 0, _, _ => -1
  | n + 1, j, c => if T_wh t j = false then (if c = pl then nI j else uaG t pl n (j + 1) (c + 1)) else uaG t pl n (j + 1) c
noncomputable def zua (t : TA) (pl : Int32) : Int32 := uaG t pl (T_nb t) 0 0
noncomputable def anF (t : TA) : Nat → Int32 → Int32
  | 0, s => s
  | n + 1, s => anF t n (if bitb s n = true then s ||| T_ne t n else s)
noncomputable def zan (t : TA) (b : Nat) : Int32 := anF t b (T_ne t b)
noncomputable def atF (t : TA) (b : Nat) : Nat → Int32
  | 0 => 0
  | n + 1 => if b < n ∧ bitb (zan t n) b = true then atF t b n ||| (1 <<< (nI n &&& 31)) else atF t b n
noncomputable def zat (t : TA) (b : Nat) : Int32 := atF t b (T_nb t)
theorem at_0 (t : TA) (b : Nat) : ∀ n, n ≤ b + 1 → atF t b n = 0 := by
  intro n
  induction n with
  | zero => intro _; rfl
  | succ n ih =>
    intro h
    unfold atF
    rw [if_neg (fun q => absurd q.1 (by omega))]
    exact ih (by omega)
noncomputable def fgK (K : Nat → Nat → Int32) (p : Nat) (r : Int32) : Nat → Nat → Nat → Int32
  | 0 => K
  | b + 1 => updM (fgK K p r b) p b (fgK K p r b p b * r / 100)
noncomputable def fgT (t : TA) (p : Nat) : TA := T_setkn t (fgK (T_kn t) p (if T_gn t p = true then 0 else 90 + T_me t p) (T_nb t))
noncomputable def eyS (t : TA) (p : Nat) : TA := fgT (T_setgn (T_setag t (upd (T_ag t) p (T_ag t p + 1))) (if 9 < T_ag t p + 1 then updB (T_gn t) p true else T_gn t)) p
noncomputable def eyF (th : Int32) (t : TA) : Nat → TA
  | 0 => t
  | p + 1 => if bitb th p = true then eyS (eyF th t p) p else eyF th t p
noncomputable def zey (t : TA) : TA := eyF (zthere t) t (T_np t)
noncomputable def bcA (x : Int32) : Int32 := x - ((x.toUInt32 >>> (Int32.toUInt32 1 &&& Int32.toUInt32 31)).toInt32 &&& 1431655765)
noncomputable def bcB (x : Int32) : Int32 := (x &&& 858993459) + ((x.toUInt32 >>> (Int32.toUInt32 2 &&& Int32.toUInt32 31)).toInt32 &&& 858993459)
noncomputable def bcC (x : Int32) : Int32 := (x + (x.toUInt32 >>> (Int32.toUInt32 4 &&& Int32.toUInt32 31)).toInt32) &&& 252645135
noncomputable def bcD (x : Int32) : Int32 := x + (x.toUInt32 >>> (Int32.toUInt32 8 &&& Int32.toUInt32 31)).toInt32
noncomputable def bcE (x : Int32) : Int32 := (x + (x.toUInt32 >>> (Int32.toUInt32 16 &&& Int32.toUInt32 31)).toInt32) &&& 63
noncomputable def zbc (x : Int32) : Int32 := bcE (bcD (bcC (bcB (bcA x))))
/-- the seed's step, shut (so that nobody computes it) -/
theorem lt_ex : ∃ f : Int32 → Int32, ∀ s, s * 1103515245 + 12345 = f s := ⟨fun s => s * 1103515245 + 12345, fun _ => rfl⟩
noncomputable def ltS : Int32 → Int32 := Classical.choose lt_ex
theorem ltS_eq (s : Int32) : s * 1103515245 + 12345 = ltS s := Classical.choose_spec lt_ex s
theorem lr_ex : ∃ f : Int32 → Int32, ∀ s, ((ltS s).toUInt32 >>> (Int32.toUInt32 16 &&& Int32.toUInt32 31)).toInt32 = f s := ⟨fun s => ((ltS s).toUInt32 >>> (Int32.toUInt32 16 &&& Int32.toUInt32 31)).toInt32, fun _ => rfl⟩
noncomputable def ltD : Int32 → Int32 := Classical.choose lr_ex
theorem ltD_eq (s : Int32) : ((ltS s).toUInt32 >>> (Int32.toUInt32 16 &&& Int32.toUInt32 31)).toInt32 = ltD s := Classical.choose_spec lr_ex s
noncomputable def ltR (s : Int32) : Int32 := ltD s - ltD s / 20 * 20
theorem ltR_eq (s : Int32) : ltD s - ltD s / 20 * 20 = ltR s := rfl
noncomputable def ddF (t : TA) : Nat → TA
  | 0 => t
  | p + 1 => if T_gn (ddF t p) p = true then ddF t p else if ltR (T_sd (ddF t p)) < T_ag (ddF t p) p then T_setgn (T_setsd (ddF t p) (ltS (T_sd (ddF t p)))) (updB (T_gn (ddF t p)) p true) else T_setsd (ddF t p) (ltS (T_sd (ddF t p)))
noncomputable def zdd (t : TA) : TA := ddF t (T_np t)
/-- reading aloud: who hears -/
noncomputable def hfF (t : TA) (h ls : Int32) (b : Nat) : Nat → TA × Int32
  | 0 => (t, 0)
  | o + 1 => if bitb ls o = true ∧ T_kn (hfF t h ls b o).1 o b < zgr h (zgd (hfF t h ls b o).1 o b) then (T_setkn (hfF t h ls b o).1 (updM (T_kn (hfF t h ls b o).1) o b (zgr h (zgd (hfF t h ls b o).1 o b))), (hfF t h ls b o).2 + 1) else hfF t h ls b o
noncomputable def zhf (t : TA) (p b : Nat) (others : Int32) : TA × Int32 := hfF t (T_kn t p b / 2) ((others &&& zthere t) &&& ((1 <<< (nI p &&& 31)) ^^^ (-1))) b (T_np t)
theorem br_upd {t : TA} {b p : Nat} (h : T_gn t p = false ∧ ¬ zwk t p b = -1 ∧ ((brF t b p).1 = -1 ∨ (brF t b p).2 < zwk t p b ∨ (zwk t p b = (brF t b p).2 ∧ T_ag t p < T_ag t (brF t b p).1.toNatClampNeg))) : brF t b (p + 1) = (nI p, zwk t p b) := if_pos h
theorem br_skip {t : TA} {b p : Nat} (h : ¬ (T_gn t p = false ∧ ¬ zwk t p b = -1 ∧ ((brF t b p).1 = -1 ∨ (brF t b p).2 < zwk t p b ∨ (zwk t p b = (brF t b p).2 ∧ T_ag t p < T_ag t (brF t b p).1.toNatClampNeg)))) : brF t b (p + 1) = brF t b p := if_neg h
theorem du_upd {t : TA} {b : Nat} (h : T_wh t b = false ∧ (duF t b = -1 ∨ T_wo t (duF t b).toNatClampNeg < T_wo t b)) : duF t (b + 1) = nI b := if_pos h
theorem du_skip {t : TA} {b : Nat} (h : ¬ (T_wh t b = false ∧ (duF t b = -1 ∨ T_wo t (duF t b).toNatClampNeg < T_wo t b))) : duF t (b + 1) = duF t b := if_neg h
theorem yb_upd {t : TA} {o : Int32} {p : Nat} (h : ¬ nI p = o ∧ T_gn t p = false ∧ (ybF t o p = -1 ∨ T_ag t p < T_ag t (ybF t o p).toNatClampNeg)) : ybF t o (p + 1) = nI p := if_pos h
theorem yb_skip {t : TA} {o : Int32} {p : Nat} (h : ¬ (¬ nI p = o ∧ T_gn t p = false ∧ (ybF t o p = -1 ∨ T_ag t p < T_ag t (ybF t o p).toNatClampNeg))) : ybF t o (p + 1) = ybF t o p := if_neg h
noncomputable def zab (t : TA) (w n : Int32) : TA := T_mk (T_nb t + 1) (T_np t) (T_sd t) (T_wh t) (T_gn t) (upd (T_wo t) (T_nb t) w) (upd (T_ne t) (T_nb t) n) (upd (T_go t) (T_nb t) 1000) (T_ag t) (T_re t) (T_me t) (T_te t) (T_kn t)
noncomputable def zao (t : TA) (a r k e : Int32) : TA := T_mk (T_nb t) (T_np t + 1) (T_sd t) (T_wh t) (T_gn t) (T_wo t) (T_ne t) (T_go t) (upd (T_ag t) (T_np t) a) (upd (T_re t) (T_np t) r) (upd (T_me t) (T_np t) k) (upd (T_te t) (T_np t) e) (T_kn t)
theorem isx_yes {x : Int32} {n : Nat} (h1 : ¬ x < 0) (h2 : ¬ nI n ≤ x) (hn : n ≤ 8) : ∃ k : Nat, k < n ∧ x = nI k := by
  obtain ⟨k, hk, rfl⟩ := nI_of h1
  exact ⟨k, lp_lt rfl rfl hk (by omega) h2, rfl⟩
theorem isx_no1 {x : Int32} {n : Nat} (h1 : x < 0) (hn : n ≤ 8) : ¬ ∃ k : Nat, k < n ∧ x = nI k := fun ⟨k, hk, e⟩ => by
  subst e
  exact nI_pos (by omega) h1
theorem isx_no2 {x : Int32} {n : Nat} (h1 : nI n ≤ x) (hn : n ≤ 8) : ¬ ∃ k : Nat, k < n ∧ x = nI k := fun ⟨k, hk, e⟩ => by
  subst e
  exact nI_ge hk (by omega) h1
theorem ii_m1 (x : Int32) : x + Int32.ofInt (-1) = x - 1 := by
  rw [Int32.sub_eq_add_neg]
  rfl
theorem ua_hit {t : TA} {pl c : Int32} {n j : Nat} (h : T_wh t j = false) (e : c = pl) : uaG t pl (n + 1) j c = nI j := by
  unfold uaG
  rw [if_pos h, if_pos e]
theorem ua_pass {t : TA} {pl c : Int32} {n j : Nat} (h : T_wh t j = false) (e : ¬ c = pl) : uaG t pl (n + 1) j c = uaG t pl n (j + 1) (c + 1) := by
  rw [uaG, if_pos h, if_neg e]
theorem ua_white {t : TA} {pl c : Int32} {n j : Nat} (h : T_wh t j = true) : uaG t pl (n + 1) j c = uaG t pl n (j + 1) c := by
  rw [uaG, if_neg (by rw [h]; decide)]
theorem an_go {t : TA} {n : Nat} {s : Int32} (h : bitb s n = true) : anF t (n + 1) s = anF t n (s ||| T_ne t n) := by
  rw [anF, if_pos h]
theorem an_no {t : TA} {n : Nat} {s : Int32} (h : bitb s n = false) : anF t (n + 1) s = anF t n s := by
  rw [anF, if_neg (by rw [h]; decide)]
theorem m1_neg {j : Nat} (hj : j ≤ 8) (h : nI j - 1 < 0) : j = 0 := by
  rcases Nat.eq_zero_or_pos j with q | q
  · exact q
  · obtain ⟨m, rfl⟩ : ∃ m, j = m + 1 := ⟨j - 1, by omega⟩
    rw [nI_pred] at h
    exact absurd h (nI_pos (by omega))
theorem m1_pos {j : Nat} (h : ¬ nI j - 1 < 0) : ∃ m, j = m + 1 := by
  rcases Nat.eq_zero_or_pos j with q | q
  · subst q
    exact absurd (by decide +kernel) h
  · exact ⟨j - 1, by omega⟩
theorem at_go {t : TA} {b n : Nat} (hb : b < n) (h : bitb (zan t n) b = true) : atF t b (n + 1) = atF t b n ||| (1 <<< (nI n &&& 31)) := by
  rw [atF, if_pos ⟨hb, h⟩]
theorem at_no {t : TA} {b n : Nat} (h : bitb (zan t n) b = false) : atF t b (n + 1) = atF t b n := by
  rw [atF, if_neg (fun q => by rw [h] at q; exact absurd q.2 (by decide +kernel))]
theorem ey_on {th : Int32} {t : TA} {p : Nat} (h : bitb th p = true) : eyF th t (p + 1) = eyS (eyF th t p) p := if_pos h
theorem ey_no {th : Int32} {t : TA} {p : Nat} (h : bitb th p = false) : eyF th t (p + 1) = eyF th t p := if_neg (by rw [h]; decide)
noncomputable def zgb (t : TA) (b : Nat) : Int32 := if zbr t b = -1 then 0 else T_wo t b * (zwk t (zbr t b).toNatClampNeg b - mkn t b (zthere t))
theorem ey_nb (th : Int32) (t : TA) : ∀ n, T_nb (eyF th t n) = T_nb t ∧ T_np (eyF th t n) = T_np t := by
  intro n
  induction n with
  | zero => exact ⟨rfl, rfl⟩
  | succ n ih =>
    unfold eyF
    split
    · exact ih
    · exact ih
theorem dd_g {t : TA} {p : Nat} (h : T_gn (ddF t p) p = true) : ddF t (p + 1) = ddF t p := by
  rw [ddF, if_pos h]
theorem dd_die {t : TA} {p : Nat} (h : T_gn (ddF t p) p = false) (c : ltR (T_sd (ddF t p)) < T_ag (ddF t p) p) : ddF t (p + 1) = T_setgn (T_setsd (ddF t p) (ltS (T_sd (ddF t p)))) (updB (T_gn (ddF t p)) p true) := by
  rw [ddF, if_neg (by rw [h]; decide), if_pos c]
theorem dd_live {t : TA} {p : Nat} (h : T_gn (ddF t p) p = false) (c : ¬ ltR (T_sd (ddF t p)) < T_ag (ddF t p) p) : ddF t (p + 1) = T_setsd (ddF t p) (ltS (T_sd (ddF t p))) := by
  rw [ddF, if_neg (by rw [h]; decide), if_neg c]
theorem sd_nb (t : TA) (x : Int32) : T_nb (T_setsd t x) = T_nb t ∧ T_np (T_setsd t x) = T_np t := ⟨rfl, rfl⟩
theorem sg_nb (t : TA) (x : Int32) (g : Nat → Bool) : T_nb (T_setgn (T_setsd t x) g) = T_nb t ∧ T_np (T_setgn (T_setsd t x) g) = T_np t := ⟨rfl, rfl⟩
theorem dd_nb (t : TA) : ∀ n, T_nb (ddF t n) = T_nb t ∧ T_np (ddF t n) = T_np t := by
  intro n
  induction n with
  | zero => exact ⟨rfl, rfl⟩
  | succ n ih =>
    cases h : T_gn (ddF t n) n with
    | true => rw [dd_g h]; exact ih
    | false =>
      by_cases c : ltR (T_sd (ddF t n)) < T_ag (ddF t n) n
      · rw [dd_die h c]
        generalize ltS (T_sd (ddF t n)) = x
        exact ⟨(sg_nb _ _ _).1.trans ih.1, (sg_nb _ _ _).2.trans ih.2⟩
      · rw [dd_live h c]
        generalize ltS (T_sd (ddF t n)) = x
        exact ⟨(sd_nb _ _).1.trans ih.1, (sd_nb _ _).2.trans ih.2⟩
theorem hf_nb (t : TA) (h ls : Int32) (b : Nat) : ∀ n, T_nb (hfF t h ls b n).1 = T_nb t ∧ T_np (hfF t h ls b n).1 = T_np t := by
  intro n
  induction n with
  | zero => exact ⟨rfl, rfl⟩
  | succ n ih =>
    unfold hfF
    split
    · exact ih
    · exact ih
theorem hf_on {t : TA} {h ls : Int32} {b o : Nat} (c1 : bitb ls o = true) (c2 : T_kn (hfF t h ls b o).1 o b < zgr h (zgd (hfF t h ls b o).1 o b)) : hfF t h ls b (o + 1) = (T_setkn (hfF t h ls b o).1 (updM (T_kn (hfF t h ls b o).1) o b (zgr h (zgd (hfF t h ls b o).1 o b))), (hfF t h ls b o).2 + 1) := by
  rw [hfF, if_pos ⟨c1, c2⟩]
theorem hf_no1 {t : TA} {h ls : Int32} {b o : Nat} (c1 : bitb ls o = false) : hfF t h ls b (o + 1) = hfF t h ls b o := by
  rw [hfF, if_neg (fun q => by rw [c1] at q; exact absurd q.1 (by decide +kernel))]
theorem hf_no2 {t : TA} {h ls : Int32} {b o : Nat} (c2 : ¬ T_kn (hfF t h ls b o).1 o b < zgr h (zgd (hfF t h ls b o).1 o b)) : hfF t h ls b (o + 1) = hfF t h ls b o := by
  rw [hfF, if_neg (fun q => c2 q.2)]
/-- a row copied whole -/
theorem arr_same {cA : ClassId} {n : Nat} {f g : Nat → Int32} (h : ∀ i, i < n → f i = g i) : vp_cell cA (n, .inl f) = vp_cell cA (n, .inl g) := by
  show arrV cA n (fun j => .int (f j)) = arrV cA n (fun j => .int (g j))
  unfold arrV
  congr 1
  apply Array.ext
  · simp
  · intro i h1 h2
    simp at h1
    simp [h i h1]
section CPY
variable {p : Program} {l : Launch} {e : Env} {R : Room} {s : State} {m : MethodId} {args : Array Value} {below : List Frame} {meth : Method} {c : Code} {H : Heap} {locs : List Loc} {cells slots : Nat} {Q : State → Prop}
variable {cc : ByteArray} {pc index : Nat} {ls : Array Slot} {rest : List Value} {G : va_G} {cy : Nat → ClassId} {ws : va_W} {A : Nat → Prop} {H0 : Heap}
theorem cpAll (hexec : p.tables.exec = Jvm.exec) (hb : c.code = cc) (hml : c.maxLocals = ls.size) {own : String} (hown : s.vm.findClass own = some m.cls) (hlink : (Cond.methodLink own index arraycopyName).before args s = true) (hnat : (Cond.native arraycopyName).before args s = true) (hstat : (Cond.static arraycopyName).before args s = true) (hini : (Cond.initialized "java/lang/System").before args s = true)
    (hK : va_K G CL (tysA cy) s) (hP : va_P G CL ws H) (hD : va_D A ws) (hS : va_S A H0 H locs) (q0 q1 : Nat) {a0 a : Nat} (N : Nat) {f g : Nat → Int32} (ha0 : ws[q0]? = some (a0, .inl (cy 0, N, .inl f))) (ha1 : ws[q1]? = some (a, .inl (cy 0, N, .inl g)))
    {n : Int32} (h3 : ¬ n < 0) (hN : n.toNatClampNeg = N) (hframes : 1 ≤ R.frames) (hlocals : (rest.map fun v => v.category).sum + (nativeFrameWords "java/lang/System" "arraycopy" 5 + 11) ≤ R.locals) (hdg : decode cc pc = .ok (.invokestatic index, 3))
    (kk : ∀ (H1 : Heap) (locs1 : List Loc), va_P G CL (ws.set q1 (a, .inl (cy 0, N, .inl f))) H1 → va_D A (ws.set q1 (a, .inl (cy 0, N, .inl f))) → va_S A H0 H1 locs1 → W p l e R s m args below meth c H1 locs1 cells slots Q (F0 m (pc + 3) ls rest)) : W p l e R s m args below meth c H locs cells slots Q (F0 m pc ls (.int n :: .int 0 :: .ref a :: .int 0 :: .ref a0 :: rest)) := by
  refine va_copyi (ty := .int) (sp := 0) (dp := 0) hexec hb hml hown hlink hnat hstat hini hK hP hD hS q0 q1 0 0 ha0 ha1 rfl rfl rfl (by decide +kernel) (by decide +kernel) h3 (by rw [hN, show (0 : Int32).toNatClampNeg = 0 by decide +kernel]; omega) (by rw [hN, show (0 : Int32).toNatClampNeg = 0 by decide +kernel]; omega) (fun _ _ => rfl) hframes hlocals hdg (fun H1 locs1 hP1 hD1 hS1 => ?_)
  refine kk H1 locs1 (fun k q hq => ?_) ⟨fun i j x y hx hy hxy => ?_, fun k q hq => ?_⟩ hS1
  · by_cases hk : k = q1
    · subst hk
      have hl : k < ws.length := (List.getElem?_eq_some_iff.mp ha1).1
      rw [List.getElem?_set_self hl] at hq
      cases hq
      have h0 := hP1 k _ (List.getElem?_set_self hl)
      refine Eq.trans h0 (congrArg some (arr_same (fun i hi => ?_)))
      rw [hN, show (0 : Int32).toNatClampNeg = 0 by decide +kernel]
      rw [pk_cpy_in (Nat.zero_le _) (by omega)]
      simp
    · refine hP1 k q ?_
      rw [List.getElem?_set_ne (fun h => hk h.symm)] at hq ⊢
      exact hq
  · have key : ∀ (k : Nat) (z : Nat × va_E), (ws.set q1 (a, .inl (cy 0, N, .inl f)))[k]? = some z → ∃ z', ws[k]? = some z' ∧ z'.1 = z.1 := fun k z hz => by
      by_cases hk : k = q1
      · subst hk
        have hl : k < ws.length := (List.getElem?_eq_some_iff.mp ha1).1
        rw [List.getElem?_set_self hl] at hz
        cases hz
        exact ⟨_, ha1, rfl⟩
      · rw [List.getElem?_set_ne (fun h => hk h.symm)] at hz
        exact ⟨z, hz, rfl⟩
    obtain ⟨x', h1, h2⟩ := key i x hx
    obtain ⟨y', h3', h4⟩ := key j y hy
    exact hD.1 i j x' y' h1 h3' (by rw [h2, h4]; exact hxy)
  · by_cases hk : k = q1
    · subst hk
      have hl : k < ws.length := (List.getElem?_eq_some_iff.mp ha1).1
      rw [List.getElem?_set_self hl] at hq
      cases hq
      have h9 := hD.2 k (a, .inl (cy 0, N, .inl g)) ha1
      exact h9
    · rw [List.getElem?_set_ne (fun h => hk h.symm)] at hq
      exact hD.2 k q hq
end CPY
end
section
theorem m_max1 : Cond.methodLink RX4 70 Lib.Math.max.name ∈ BIG := big_t 343 (by decide +kernel) (by decide +kernel)
theorem m_max2 : Cond.static Lib.Math.max.name ∈ BIG := big_t 344 (by decide +kernel) (by decide +kernel)
theorem m_max3 : Cond.code Lib.Math.max.name Lib.Math.max.code 2 (some .int) ∈ BIG := big_t 345 (by decide +kernel) (by decide +kernel)
end
