noncomputable def KN (G : va_G) (cy : Nat → ClassId) (U : State) : Prop := va_K G CL (tysA cy) U ∧ (∀ q ∈ nestF, va_Nw (.fieldLinkNest q.1 q.2.1 q.2.2.1 q.2.2.2.1 q.2.2.2.2 AO0) U) ∧ (∀ q ∈ nestM, va_Nw (.methodLinkNest q.1 q.2.1 q.2.2 AO0) U) ∧ (∀ q ∈ strW, ∃ a : Nat, vk_R q.1 q.2.1 q.2.2 a U) ∧ va_AO RX6 U ∧ va_AOA .int U ∧ va_AOA .long U
theorem KN.warm {G : va_G} {cy : Nat → ClassId} {s U : State} (hW : s.WarmedH U.vm) (h : KN G cy s) : KN G cy U :=
  ⟨va_K.moved hW.alike h.1, fun q hq => va_Nw.warmF hW (h.2.1 q hq), fun q hq => va_Nw.warmM hW (h.2.2.1 q hq), fun q hq => (h.2.2.2.1 q hq).elim fun a ha => ⟨a, vk_R.warm hW ha⟩, va_AO.moved hW.alike h.2.2.2.2.1, va_AOA.moved hW.alike h.2.2.2.2.2.1, va_AOA.moved hW.alike h.2.2.2.2.2.2⟩
theorem KN.call {G : va_G} {cy : Nat → ClassId} {U : State} {g : JFrame} {mk : MethodId} {a : Array Value} (h : KN G cy U) : KN G cy (U.calling g mk a) :=
  ⟨va_K.moved (Vm.Alike.refl U.vm) h.1, fun q hq => va_Nw.same rfl rfl (h.2.1 q hq), fun q hq => va_Nw.same rfl rfl (h.2.2.1 q hq), fun q hq => (h.2.2.2.1 q hq).elim fun a ha => ⟨a, vk_R.same rfl ha⟩, va_AO.moved (Vm.Alike.refl U.vm) h.2.2.2.2.1, va_AOA.moved (Vm.Alike.refl U.vm) h.2.2.2.2.2.1, va_AOA.moved (Vm.Alike.refl U.vm) h.2.2.2.2.2.2⟩
/-- the starts: a method that only reads, a method that writes -/
noncomputable def Rd (G : va_G) (cy : Nat → ClassId) (ws : va_W) (av : List Value) : Array Value → State → Prop := va_Pc av (fun U => va_P G CL ws U.heap ∧ KN G cy U)
noncomputable def Wr (G : va_G) (cy : Nat → ClassId) (ws : va_W) (sz : Nat) (av : List Value) : Array Value → State → Prop := va_Pc av (fun U => U.heap.size = sz ∧ va_P G CL ws U.heap ∧ KN G cy U ∧ va_D (fun _ => True) ws)
theorem Rd.blind {G : va_G} {cy : Nat → ClassId} {ws : va_W} {av : List Value} : FrameBlind (Rd G cy ws av) := fun _ _ _ _ q => ⟨q.1, q.2.1, q.2.2.call⟩
theorem Wr.blind {G : va_G} {cy : Nat → ClassId} {ws : va_W} {sz : Nat} {av : List Value} : FrameBlind (Wr G cy ws sz av) := fun _ _ _ _ q => ⟨q.1, q.2.1, q.2.2.1, q.2.2.2.1.call, q.2.2.2.2⟩
noncomputable def Bw (G : va_G) (A : Nat → Prop) : va_W → State → Prop := fun u t => va_P G CL u t.heap ∧ va_D A u
noncomputable abbrev Rm (d mc ms : Nat) : Room := { frames := d, cells := mc, slots := ms, locals := 60 * d }
