section BC0
variable {p : Program} {l : Launch} {e : Env} {R : Room} {s : State} {m : MethodId} {args : Array Value} {below : List Frame} {meth : Method} {c : Code} {H : Heap} {locs : List Loc} {cells slots : Nat} {Q : State → Prop}
variable {y : MethodName} {bytes cc : ByteArray} {maxL nL mc ms index d pc : Nat} {ret : Option FieldType} {Pc : Array Value → State → Prop} {Qc : Array Value → State → Outcome → State → Prop} {free : Addr → Prop} {own C : String} {b : Addr} {As rest st0 : List Value} {ls : Array Slot} {G : va_G} {cy : Nat → ClassId}
theorem rV (S : CallFix p m c cc nL s args BIG own) (hM : Met l y (.code y bytes maxL ret :: BIG) (Rm d mc ms) Pc Qc mc ms free) (L : LkV own index C y bytes maxL ret As.length) (hp : PreV s H C b Pc As) (hst : st0 = As.reverse ++ .ref b :: rest)
    (hR : d + 1 ≤ R.frames ∧ 8 + (maxL + 11) + 60 * d ≤ R.locals) (hsize : ls.size = nL) (hW : (rest.map fun v => v.category).sum ≤ 8) (hdg : decode cc pc = .ok (.invokevirtual index, 3)) (hf : cells + mc ≤ R.cells ∧ slots + ms ≤ R.slots) :
    va_Run p l e R s m args below meth c H locs cells slots mc ms (F0 m pc ls st0) rest (Qc (Value.ref b :: As).toArray) free := by
  obtain ⟨k1, k2, k3, k4, k5, k6⟩ := L
  have hts := S.2.2.2.2
  exact va_runV S hM ⟨callB_of As.length hts (gB k3) rfl rfl rfl (hts _ k2) (hts _ k1) k4 hR, hts _ k5, hts _ k6⟩ hp rfl rfl hsize hst (lv_room hW) hdg hf
theorem rS (S : CallFix p m c cc nL s args BIG own) (hM : Met l y (.code y bytes maxL ret :: BIG) (Rm d mc ms) Pc Qc mc ms free) (L : LkS own index y bytes maxL ret As.length) (hp : PreS s H Pc As) (hst : st0 = As.reverse ++ rest)
    (hR : d + 1 ≤ R.frames ∧ 8 + (maxL + 11) + 60 * d ≤ R.locals) (hsize : ls.size = nL) (hW : (rest.map fun v => v.category).sum ≤ 8) (hdg : decode cc pc = .ok (.invokestatic index, 3)) (hf : cells + mc ≤ R.cells ∧ slots + ms ≤ R.slots) :
    va_Run p l e R s m args below meth c H locs cells slots mc ms (F0 m pc ls st0) rest (Qc As.toArray) free := by
  obtain ⟨k1, k2, k3, k4, k5⟩ := L
  have hts := S.2.2.2.2
  exact va_runS S hM ⟨callB_of As.length hts (gB k3) rfl rfl rfl (hts _ k2) (hts _ k1) k4 hR, hts _ k5⟩ hp rfl rfl hsize hst (lv_room hW) hdg hf
theorem rI (S : CallFix p m c cc nL s args BIG own) (hM : Met l y (.code y bytes maxL none :: BIG) (Rm d mc ms) Pc Qc mc ms free) (L : LkI own index y bytes maxL As.length) (hp : PreS s H Pc (.ref b :: As)) (hst : st0 = As.reverse ++ .ref b :: rest)
    (hR : d + 1 ≤ R.frames ∧ 8 + (maxL + 11) + 60 * d ≤ R.locals) (hsize : ls.size = nL) (hW : (rest.map fun v => v.category).sum ≤ 8) (hdg : decode cc pc = .ok (.invokespecial index, 3)) (hf : cells + mc ≤ R.cells ∧ slots + ms ≤ R.slots) :
    va_Run p l e R s m args below meth c H locs cells slots mc ms (F0 m pc ls st0) rest (Qc (Value.ref b :: As).toArray) free := by
  obtain ⟨k1, k2, k3, k4, k5, k6⟩ := L
  have hts := S.2.2.2.2
  exact va_runI S hM ⟨callB_of As.length hts (gB k3) rfl rfl rfl (hts _ k2) (hts _ k1) k4 hR, k5, hts _ k6⟩ hp rfl rfl hsize hst (lv_room hW) hdg hf
theorem rSN (S : CallFix p m c cc nL s args BIG own) (hN : KN G cy s) (hM : Met l y (.code y bytes maxL ret :: BIG) (Rm d mc ms) Pc Qc mc ms free) (L : LkSN own index y bytes maxL ret As.length) (hp : PreS s H Pc As) (hst : st0 = As.reverse ++ rest)
    (hR : d + 1 ≤ R.frames ∧ 8 + (maxL + 11) + 60 * d ≤ R.locals) (hsize : ls.size = nL) (hW : (rest.map fun v => v.category).sum ≤ 8) (hdg : decode cc pc = .ok (.invokestatic index, 3)) (hf : cells + mc ≤ R.cells ∧ slots + ms ≤ R.slots) :
    va_Run p l e R s m args below meth c H locs cells slots mc ms (F0 m pc ls st0) rest (Qc As.toArray) free := by
  obtain ⟨k1, k2, k3, k4, k5⟩ := L
  have hts := S.2.2.2.2
  exact va_runSN S hM ⟨va_cnB As.length hts (gB k3) rfl rfl rfl (hN.2.2.1 _ k1) (hts _ k2) k4 hR, hts _ k5, trivial⟩ hp rfl rfl hsize hst (lv_room hW) hdg hf
end BC0
