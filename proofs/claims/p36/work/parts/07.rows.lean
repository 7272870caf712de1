/-! new int[8][k], new long[8][k] over the known classes -/
theorem rows8 (f : Nat → va_E) (r : Nat → Nat) (e : va_E) : va_pl ([] ++ (List.range 8).map r) (vr_up f ((List.range 8).map r) e) = [(r 0, e), (r 1, e), (r 2, e), (r 3, e), (r 4, e), (r 5, e), (r 6, e), (r 7, e)] := by
  show ([r 0, r 1, r 2, r 3, r 4, r 5, r 6, r 7]).map (fun a => (a, vr_up f [r 0, r 1, r 2, r 3, r 4, r 5, r 6, r 7] e a)) = _
  simp [vr_up]
section GRD
variable {p : Program} {l : Launch} {e : Env} {R : Room} {s : State} {m : MethodId} {args : Array Value} {below : List Frame} {meth : Method} {c : Code} {H : Heap} {locs : List Loc} {cells slots : Nat} {Q : State → Prop}
variable {cc : ByteArray} {pc index : Nat} {ls : Array Slot} {rest : List Value} {G : va_G} {cy : Nat → ClassId} {ws : va_W} {A : Nat → Prop} {H0 : Heap}
theorem newII (hexec : p.tables.exec = Jvm.exec) (hb : c.code = cc) (hts : ∀ w ∈ BIG, w.before args s = true) (hown : s.vm.findClass RX6 = some m.cls) (hcl : Cond.classLink RX6 index "[[I" ∈ BIG) (harr : Cond.arrayClass .int ∈ BIG) (hN : KN G cy s) (hP : va_P G CL ws H) (hD : va_D A ws) (hS : va_S A H0 H locs) (hA : ∀ q, H0.size ≤ q → A q) {n k : Int32} (K' : Nat) (hn : n = 8) (hk : ¬ k < 0) (hM : k.toNatClampNeg = K') (hb2 : K' * componentBytes .int ≤ 536870912) (hb3 : K' ≤ 536870912) (hcells : cells + (1 + 8) ≤ R.cells) (hslots : slots + (8 + 8 * K') ≤ R.slots) (hdg : decode cc pc = .ok (.multianewarray index 2, 4))
    (kk : ∀ (q : Nat) (r : Nat → Nat) (H1 : Heap), va_P G CL (ws ++ [(q, .inl (cy 3, 8, .inr (.inr (.inr (.inr (fun i => if i < 8 then some (r i) else none)))))), (r 0, .inl (cy 0, K', .inl (fun _ => 0))), (r 1, .inl (cy 0, K', .inl (fun _ => 0))), (r 2, .inl (cy 0, K', .inl (fun _ => 0))), (r 3, .inl (cy 0, K', .inl (fun _ => 0))), (r 4, .inl (cy 0, K', .inl (fun _ => 0))), (r 5, .inl (cy 0, K', .inl (fun _ => 0))), (r 6, .inl (cy 0, K', .inl (fun _ => 0))), (r 7, .inl (cy 0, K', .inl (fun _ => 0)))]) H1 → va_D A (ws ++ [(q, .inl (cy 3, 8, .inr (.inr (.inr (.inr (fun i => if i < 8 then some (r i) else none)))))), (r 0, .inl (cy 0, K', .inl (fun _ => 0))), (r 1, .inl (cy 0, K', .inl (fun _ => 0))), (r 2, .inl (cy 0, K', .inl (fun _ => 0))), (r 3, .inl (cy 0, K', .inl (fun _ => 0))), (r 4, .inl (cy 0, K', .inl (fun _ => 0))), (r 5, .inl (cy 0, K', .inl (fun _ => 0))), (r 6, .inl (cy 0, K', .inl (fun _ => 0))), (r 7, .inl (cy 0, K', .inl (fun _ => 0)))]) → va_S A H0 H1 locs →
      W p l e R s m args below meth c H1 locs (cells + 1 + 8) (slots + 8 + 8 * K') Q (F0 m (pc + 4) ls (.ref q :: rest))) : W p l e R s m args below meth c H locs cells slots Q (F0 m pc ls (.int k :: .int n :: rest)) := by
  subst hn
  have hcl2 : (Cond.classLink RX6 index ("[" ++ (FieldType.array .int).toString)).before args s = true := by
    rw [show ("[" ++ (FieldType.array .int).toString) = "[[I" by decide +kernel]
    exact hts _ hcl
  have hcy : s.vm.findClass (FieldType.array .int).toString = some (cy 0) := (hN.1.2 0 _ rfl).2
  refine va_mna (X := ws) (L := []) (f := fun _ => .inr (0, [])) (z := (K', .inl (fun _ => 0))) (N' := 8) (K' := K') hexec hb hown hcl2 hN.2.2.2.2.2.1 (hts _ harr) hcy hN.1 (by simpa [va_pl] using hP) (by simpa [va_pl] using hD) hS hA (by decide +kernel) hk (by decide +kernel) hM (by decide +kernel) hb2 hb3 rfl rfl hcells hslots (fun c0 => by show ({ cls := c0, slots := Array.replicate K' (.int 0), vm := .none } : Cell) = _; rw [arrV_new]; rfl) hdg (fun q r cA H1 hinj hni hK2 hP2 hD2 hS2 => ?_)
  have e0 := cyOne (t0 := 3) hN.1 rfl hK2
  subst e0
  rw [rows8, List.append_assoc] at hP2 hD2
  exact kk q r H1 hP2 hD2 hS2
theorem newJJ (hexec : p.tables.exec = Jvm.exec) (hb : c.code = cc) (hts : ∀ w ∈ BIG, w.before args s = true) (hown : s.vm.findClass RX6 = some m.cls) (hcl : Cond.classLink RX6 index "[[J" ∈ BIG) (harr : Cond.arrayClass .long ∈ BIG) (hN : KN G cy s) (hP : va_P G CL ws H) (hD : va_D A ws) (hS : va_S A H0 H locs) (hA : ∀ q, H0.size ≤ q → A q) {n k : Int32} (K' : Nat) (hn : n = 8) (hk : ¬ k < 0) (hM : k.toNatClampNeg = K') (hb2 : K' * componentBytes .long ≤ 536870912) (hb3 : K' ≤ 536870912) (hcells : cells + (1 + 8) ≤ R.cells) (hslots : slots + (8 + 8 * K') ≤ R.slots) (hdg : decode cc pc = .ok (.multianewarray index 2, 4))
    (kk : ∀ (q : Nat) (r : Nat → Nat) (H1 : Heap), va_P G CL (ws ++ [(q, .inl (cy 4, 8, .inr (.inr (.inr (.inr (fun i => if i < 8 then some (r i) else none)))))), (r 0, .inl (cy 1, K', .inr (.inl (fun _ => 0)))), (r 1, .inl (cy 1, K', .inr (.inl (fun _ => 0)))), (r 2, .inl (cy 1, K', .inr (.inl (fun _ => 0)))), (r 3, .inl (cy 1, K', .inr (.inl (fun _ => 0)))), (r 4, .inl (cy 1, K', .inr (.inl (fun _ => 0)))), (r 5, .inl (cy 1, K', .inr (.inl (fun _ => 0)))), (r 6, .inl (cy 1, K', .inr (.inl (fun _ => 0)))), (r 7, .inl (cy 1, K', .inr (.inl (fun _ => 0))))]) H1 → va_D A (ws ++ [(q, .inl (cy 4, 8, .inr (.inr (.inr (.inr (fun i => if i < 8 then some (r i) else none)))))), (r 0, .inl (cy 1, K', .inr (.inl (fun _ => 0)))), (r 1, .inl (cy 1, K', .inr (.inl (fun _ => 0)))), (r 2, .inl (cy 1, K', .inr (.inl (fun _ => 0)))), (r 3, .inl (cy 1, K', .inr (.inl (fun _ => 0)))), (r 4, .inl (cy 1, K', .inr (.inl (fun _ => 0)))), (r 5, .inl (cy 1, K', .inr (.inl (fun _ => 0)))), (r 6, .inl (cy 1, K', .inr (.inl (fun _ => 0)))), (r 7, .inl (cy 1, K', .inr (.inl (fun _ => 0))))]) → va_S A H0 H1 locs →
      W p l e R s m args below meth c H1 locs (cells + 1 + 8) (slots + 8 + 8 * K') Q (F0 m (pc + 4) ls (.ref q :: rest))) : W p l e R s m args below meth c H locs cells slots Q (F0 m pc ls (.int k :: .int n :: rest)) := by
  subst hn
  have hcl2 : (Cond.classLink RX6 index ("[" ++ (FieldType.array .long).toString)).before args s = true := by
    rw [show ("[" ++ (FieldType.array .long).toString) = "[[J" by decide +kernel]
    exact hts _ hcl
  have hcy : s.vm.findClass (FieldType.array .long).toString = some (cy 1) := (hN.1.2 1 _ rfl).2
  refine va_mna (X := ws) (L := []) (f := fun _ => .inr (0, [])) (z := (K', .inr (.inl (fun _ => 0)))) (N' := 8) (K' := K') hexec hb hown hcl2 hN.2.2.2.2.2.2 (hts _ harr) hcy hN.1 (by simpa [va_pl] using hP) (by simpa [va_pl] using hD) hS hA (by decide +kernel) hk (by decide +kernel) hM (by decide +kernel) hb2 hb3 rfl rfl hcells hslots (fun c0 => by show ({ cls := c0, slots := Array.replicate K' (.long 0), vm := .none } : Cell) = _; rw [arrV_new]; rfl) hdg (fun q r cA H1 hinj hni hK2 hP2 hD2 hS2 => ?_)
  have e0 := cyOne (t0 := 4) hN.1 rfl hK2
  subst e0
  rw [rows8, List.append_assoc] at hP2 hD2
  exact kk q r H1 hP2 hD2 hS2
end GRD
