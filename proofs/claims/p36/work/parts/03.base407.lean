section BC28
variable {p : Program} {l : Launch} {e : Env} {R : Room} {s : State} {m : MethodId} {args : Array Value} {below : List Frame} {meth : Method} {c : Code} {H : Heap} {locs : List Loc} {cells slots : Nat} {Q : State → Prop}
variable {y : MethodName} {bytes cc : ByteArray} {maxL nL mc ms index d pc : Nat} {ret : Option FieldType} {Pc : Array Value → State → Prop} {Qc : Array Value → State → Outcome → State → Prop} {free : Addr → Prop} {own C : String} {b : Addr} {As rest st0 : List Value} {ls : Array Slot} {G : va_G} {cy : Nat → ClassId}
variable {a : Array Value}
variable {ws wc wr : va_W} {A : Nat → Prop} {H0 : Heap}
variable {tys : List (ClassId × FieldType)}
theorem endQ {post : Nat → va_W → Prop} {ra : Nat} {C : String} {u : va_W} (hexec : p.tables.exec = Jvm.exec) (hb : c.code = cc) (hr : meth.sig.returnType = some (.object C)) (hlocks : meth.locks = false) (hP : va_P G CL u H) (hD : va_D A u) (hS : va_S A s.heap H locs) (hp : post ra u) (hdg : decode cc pc = .ok (.areturn, 1)) : W p l e R s m args below meth c H locs cells slots (MQ below (Wq G post A) args s cells slots A) (F0 m pc ls [.ref ra]) :=
  W.aret hexec hb hr (Or.inl ⟨C, rfl⟩) (Or.inr ⟨ra, rfl⟩) (fun _ ht _ => ⟨⟨u, ra, rfl, trivial, ⟨by rw [ht]; exact hP, hD⟩, hp⟩, hS.F ht⟩) hS.2.2 hdg
end BC28
