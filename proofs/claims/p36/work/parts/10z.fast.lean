/-! cells chosen by masks: a walk along the list, not a look-up for each place -/
theorem sel_eq {mk : List Bool} {ws wc : va_W} (h : selW mk ws = wc) (hm : Nat.ble mk.length ws.length = true) : (trueIx 0 mk).map (fun i => ws[i]?) = wc.map some := by
  rw [← h]
  exact sel_ok hm
theorem sel_fm {mk : List Bool} {ws wc : va_W} (h : selW mk ws = wc) (hm : Nat.ble mk.length ws.length = true) : (trueIx 0 mk).filterMap (fun i => ws[i]?) = wc := va_sub2 (sel_eq h hm)
noncomputable def trueIxs : List (List Bool) → List Nat
  | [] => []
  | m :: ms => trueIx 0 m ++ trueIxs ms
noncomputable def selWs : List (List Bool) → va_W → va_W
  | [], _ => []
  | m :: ms, w => selW m w ++ selWs ms w
noncomputable def lenOk : List (List Bool) → Nat → Bool
  | [], _ => true
  | m :: ms, n => Nat.ble m.length n && lenOk ms n
theorem sels_eq : ∀ {ms : List (List Bool)} {ws wc : va_W}, selWs ms ws = wc → lenOk ms ws.length = true → (trueIxs ms).map (fun i => ws[i]?) = wc.map some
  | [], ws, wc, h, _ => by rw [← h]; rfl
  | m :: ms, ws, wc, h, hl => by
    have h2 : (Nat.ble m.length ws.length && lenOk ms ws.length) = true := hl
    rw [Bool.and_eq_true] at h2
    rw [← h]
    show (trueIx 0 m ++ trueIxs ms).map (fun i => ws[i]?) = (selW m ws ++ selWs ms ws).map some
    rw [List.map_append, List.map_append, sel_ok h2.1, sels_eq rfl h2.2]
theorem sels_fm {ms : List (List Bool)} {ws wc : va_W} (h : selWs ms ws = wc) (hl : lenOk ms ws.length = true) : (trueIxs ms).filterMap (fun i => ws[i]?) = wc := va_sub2 (sels_eq h hl)
theorem pSb {G : va_G} {H : Heap} {ws u : va_W} (hP : va_P G CL ws H) (ms : List (List Bool)) (e : selWs ms ws = u) (hl : lenOk ms ws.length = true) : va_P G CL u H := hP.sub (trueIxs ms) (sels_fm e hl)
theorem dSb {A : Nat → Prop} {ws u : va_W} (hD : va_D A ws) (ms : List (List Bool)) (hn : va_nd (trueIxs ms) = true) (e : selWs ms ws = u) (hl : lenOk ms ws.length = true) : va_D A u := hD.sub (trueIxs ms) hn (sels_eq e hl)
theorem pPt {G : va_G} {H : Heap} {X cx pl : va_W} (hP : va_P G CL (X ++ pl) H) (ms : List (List Bool)) (e : selWs ms X = cx) (hl : lenOk ms X.length = true) : va_P G CL (cx ++ pl) H := hP.part (trueIxs ms) (sels_eq e hl)
theorem dPt {A : Nat → Prop} {X cx pl : va_W} (hD : va_D A (X ++ pl)) (ms : List (List Bool)) (hn : va_nd (trueIxs ms) = true) (e : selWs ms X = cx) (hl : lenOk ms X.length = true) : va_D A (cx ++ pl) := hD.part (trueIxs ms) hn (sels_eq e hl)
theorem pd_eq {G : va_G} {H : Heap} {A : Nat → Prop} {Z u v : va_W} (ws' : va_W) (h : va_P G CL (Z ++ u) H) (d : va_D A (Z ++ u)) (hu : u = v) (e : Z ++ v = ws') : va_P G CL ws' H ∧ va_D A ws' := by
  subst hu
  exact pd_as ws' h d e
theorem pd_eqQ {G : va_G} {H : Heap} {A : Nat → Prop} {Z u v pl : va_W} (ws' : va_W) (h : va_P G CL ((Z ++ u) ++ pl) H) (d : va_D A ((Z ++ u) ++ pl)) (hu : u = v) (e : (Z ++ v) ++ pl = ws') : va_P G CL ws' H ∧ va_D A ws' := by
  subst hu
  exact pd_as ws' h d e
section FASTE
variable {p : Program} {l : Launch} {e : Env} {R : Room} {s : State} {m : MethodId} {args : Array Value} {below : List Frame} {meth : Method} {c : Code} {H : Heap} {locs : List Loc} {cells slots : Nat}
variable {cc : ByteArray} {pc : Nat} {ls : Array Slot} {G : va_G} {A : Nat → Prop} {ws X pl : va_W}
theorem endWs {post : Int32 → va_W → Prop} {v : Int32} {ty : FieldType} (ms : List (List Bool)) (hexec : p.tables.exec = Jvm.exec) (hb : c.code = cc) (hr : meth.sig.returnType = some ty) (hlocks : meth.locks = false) (hn : narrow ty (.int v) = .int v) (hP : va_P G CL ws H) (hD : va_D A ws) (hl : lenOk ms ws.length = true) (hd : va_nd (trueIxs ms) = true) (hS : va_S A s.heap H locs) (hp : post v (selWs ms ws)) (hdg : decode cc pc = .ok (.ireturn, 1)) : W p l e R s m args below meth c H locs cells slots (MQ below (Wi G post A) args s cells slots A) (F0 m pc ls [.int v]) :=
  endW hexec hb hr hlocks hn (pSb hP ms rfl hl) (dSb hD ms hd rfl hl) hS hp hdg
theorem endWt {post : Int32 → va_W → Prop} {v : Int32} {ty : FieldType} (ms : List (List Bool)) (hexec : p.tables.exec = Jvm.exec) (hb : c.code = cc) (hr : meth.sig.returnType = some ty) (hlocks : meth.locks = false) (hn : narrow ty (.int v) = .int v) (hP : va_P G CL (X ++ pl) H) (hD : va_D A (X ++ pl)) (hl : lenOk ms X.length = true) (hd : va_nd (trueIxs ms) = true) (hS : va_S A s.heap H locs) (hp : post v (selWs ms X ++ pl)) (hdg : decode cc pc = .ok (.ireturn, 1)) : W p l e R s m args below meth c H locs cells slots (MQ below (Wi G post A) args s cells slots A) (F0 m pc ls [.int v]) :=
  endW hexec hb hr hlocks hn (pPt hP ms rfl hl) (dPt hD ms hd rfl hl) hS hp hdg
theorem endVs {post : va_W → Prop} (ms : List (List Bool)) (hexec : p.tables.exec = Jvm.exec) (hb : c.code = cc) (hr : meth.sig.returnType = none) (hlocks : meth.locks = false) (hP : va_P G CL ws H) (hD : va_D A ws) (hl : lenOk ms ws.length = true) (hd : va_nd (trueIxs ms) = true) (hS : va_S A s.heap H locs) (hp : post (selWs ms ws)) (hdg : decode cc pc = .ok (.return_, 1)) : W p l e R s m args below meth c H locs cells slots (MQ below (Wv G post A) args s cells slots A) (F0 m pc ls []) :=
  endV hexec hb hr hlocks (pSb hP ms rfl hl) (dSb hD ms hd rfl hl) hS hp hdg
theorem endVt {post : va_W → Prop} (ms : List (List Bool)) (hexec : p.tables.exec = Jvm.exec) (hb : c.code = cc) (hr : meth.sig.returnType = none) (hlocks : meth.locks = false) (hP : va_P G CL (X ++ pl) H) (hD : va_D A (X ++ pl)) (hl : lenOk ms X.length = true) (hd : va_nd (trueIxs ms) = true) (hS : va_S A s.heap H locs) (hp : post (selWs ms X ++ pl)) (hdg : decode cc pc = .ok (.return_, 1)) : W p l e R s m args below meth c H locs cells slots (MQ below (Wv G post A) args s cells slots A) (F0 m pc ls []) :=
  endV hexec hb hr hlocks (pPt hP ms rfl hl) (dPt hD ms hd rfl hl) hS hp hdg
end FASTE
