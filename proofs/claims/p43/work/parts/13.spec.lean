/-! loops over books and people -/
def brF (t : TA) (b : Nat) : Nat → Int32 × Int32
  | 0 => (-1, 0)
  | p + 1 => if T_gn t p = false ∧ ¬ zwk t p b = -1 ∧ ((brF t b p).1 = -1 ∨ (brF t b p).2 < zwk t p b ∨ (zwk t p b = (brF t b p).2 ∧ T_ag t p < T_ag t (brF t b p).1.toNatClampNeg)) then (nI p, zwk t p b) else brF t b p
def zbr (t : TA) (b : Nat) : Int32 := (brF t b (T_np t)).1
theorem br_in (t : TA) (b : Nat) : ∀ n, (brF t b n).1 = -1 ∨ ∃ k, k < n ∧ (brF t b n).1 = nI k := by
  intro n
  induction n with
  | zero => exact Or.inl rfl
  | succ n ih =>
    unfold brF
    split
    · exact Or.inr ⟨n, by omega, rfl⟩
    · rcases ih with h | ⟨k, h1, h2⟩
      · exact Or.inl h
      · exact Or.inr ⟨k, by omega, h2⟩
def duF (t : TA) : Nat → Int32
  | 0 => -1
  | b + 1 => if T_wh t b = false ∧ (duF t b = -1 ∨ T_wo t (duF t b).toNatClampNeg < T_wo t b) then nI b else duF t b
def zdu (t : TA) : Int32 := duF t (T_nb t)
theorem du_in (t : TA) : ∀ n, duF t n = -1 ∨ ∃ k, k < n ∧ duF t n = nI k := by
  intro n
  induction n with
  | zero => exact Or.inl rfl
  | succ n ih =>
    unfold duF
    split
    · exact Or.inr ⟨n, by omega, rfl⟩
    · rcases ih with h | ⟨k, h1, h2⟩
      · exact Or.inl h
      · exact Or.inr ⟨k, by omega, h2⟩
def ybF (t : TA) (o : Int32) : Nat → Int32
  | 0 => -1
  | p + 1 => if ¬ nI p = o ∧ T_gn t p = false ∧ (ybF t o p = -1 ∨ T_ag t p < T_ag t (ybF t o p).toNatClampNeg) then nI p else ybF t o p
def zyb (t : TA) (o : Int32) : Int32 := ybF t o (T_np t)
theorem yb_in (t : TA) (o : Int32) : ∀ n, ybF t o n = -1 ∨ ∃ k, k < n ∧ ybF t o n = nI k := by
  intro n
  induction n with
  | zero => exact Or.inl rfl
  | succ n ih =>
    unfold ybF
    split
    · exact Or.inr ⟨n, by omega, rfl⟩
    · rcases ih with h | ⟨k, h1, h2⟩
      · exact Or.inl h
      · exact Or.inr ⟨k, by omega, h2⟩
def uaG (t : TA) (pl : Int32) : Nat → Nat → Int32 → Int32
  | 0, _, _ => -1
  | n + 1, j, c => if T_wh t j = false then (if c = pl then nI j else uaG t pl n (j + 1) (c + 1)) else uaG t pl n (j + 1) c
def zua (t : TA) (pl : Int32) : Int32 := uaG t pl (T_nb t) 0 0
def anF (t : TA) : Nat → Int32 → Int32
  | 0, s => s
  | n + 1, s => anF t n (if bitb s n = true then s ||| T_ne t n else s)
def zan (t : TA) (b : Nat) : Int32 := anF t b (T_ne t b)
def atF (t : TA) (b : Nat) : Nat → Int32
  | 0 => 0
  | n + 1 => if b < n ∧ bitb (zan t n) b = true then atF t b n ||| (1 <<< (nI n &&& 31)) else atF t b n
def zat (t : TA) (b : Nat) : Int32 := atF t b (T_nb t)
theorem at_0 (t : TA) (b : Nat) : ∀ n, n ≤ b + 1 → atF t b n = 0 := by
  intro n
  induction n with
  | zero => intro _; rfl
  | succ n ih =>
    intro h
    unfold atF
    rw [if_neg (fun q => absurd q.1 (by omega))]
    exact ih (by omega)
def fgK (K : Nat → Nat → Int32) (p : Nat) (r : Int32) : Nat → Nat → Nat → Int32
  | 0 => K
  | b + 1 => updM (fgK K p r b) p b (fgK K p r b p b * r / 100)
def fgT (t : TA) (p : Nat) : TA := T_setkn t (fgK (T_kn t) p (if T_gn t p = true then 0 else 90 + T_me t p) (T_nb t))
def eyS (t : TA) (p : Nat) : TA := fgT (T_setgn (T_setag t (upd (T_ag t) p (T_ag t p + 1))) (if 9 < T_ag t p + 1 then updB (T_gn t) p true else T_gn t)) p
def eyF (th : Int32) (t : TA) : Nat → TA
  | 0 => t
  | p + 1 => if bitb th p = true then eyS (eyF th t p) p else eyF th t p
def zey (t : TA) : TA := eyF (zthere t) t (T_np t)
def bcA (x : Int32) : Int32 := x - ((x.toUInt32 >>> (Int32.toUInt32 1 &&& Int32.toUInt32 31)).toInt32 &&& 1431655765)
def bcB (x : Int32) : Int32 := (x &&& 858993459) + ((x.toUInt32 >>> (Int32.toUInt32 2 &&& Int32.toUInt32 31)).toInt32 &&& 858993459)
def bcC (x : Int32) : Int32 := (x + (x.toUInt32 >>> (Int32.toUInt32 4 &&& Int32.toUInt32 31)).toInt32) &&& 252645135
def bcD (x : Int32) : Int32 := x + (x.toUInt32 >>> (Int32.toUInt32 8 &&& Int32.toUInt32 31)).toInt32
def bcE (x : Int32) : Int32 := (x + (x.toUInt32 >>> (Int32.toUInt32 16 &&& Int32.toUInt32 31)).toInt32) &&& 63
def zbc (x : Int32) : Int32 := bcE (bcD (bcC (bcB (bcA x))))
/-- the seed's step, shut (so that nobody computes it) -/
theorem lt_ex : ∃ f : Int32 → Int32, ∀ s, s * 1103515245 + 12345 = f s := ⟨fun s => s * 1103515245 + 12345, fun _ => rfl⟩
noncomputable def ltS : Int32 → Int32 := Classical.choose lt_ex
theorem ltS_eq (s : Int32) : s * 1103515245 + 12345 = ltS s := Classical.choose_spec lt_ex s
theorem lr_ex : ∃ f : Int32 → Int32, ∀ s, ((ltS s).toUInt32 >>> (Int32.toUInt32 16 &&& Int32.toUInt32 31)).toInt32 = f s := ⟨fun s => ((ltS s).toUInt32 >>> (Int32.toUInt32 16 &&& Int32.toUInt32 31)).toInt32, fun _ => rfl⟩
noncomputable def ltD : Int32 → Int32 := Classical.choose lr_ex
theorem ltD_eq (s : Int32) : ((ltS s).toUInt32 >>> (Int32.toUInt32 16 &&& Int32.toUInt32 31)).toInt32 = ltD s := Classical.choose_spec lr_ex s
noncomputable def ltR (s : Int32) : Int32 := ltD s - ltD s / 20 * 20
theorem ltR_eq (s : Int32) : ltD s - ltD s / 20 * 20 = ltR s := rfl
noncomputable def ddF (t : TA) : Nat → TA
  | 0 => t
  | p + 1 => if T_gn (ddF t p) p = true then ddF t p else if ltR (T_sd (ddF t p)) < T_ag (ddF t p) p then T_setgn (T_setsd (ddF t p) (ltS (T_sd (ddF t p)))) (updB (T_gn (ddF t p)) p true) else T_setsd (ddF t p) (ltS (T_sd (ddF t p)))
noncomputable def zdd (t : TA) : TA := ddF t (T_np t)
/-- reading aloud: who hears -/
def hfF (t : TA) (h ls : Int32) (b : Nat) : Nat → TA × Int32
  | 0 => (t, 0)
  | o + 1 => if bitb ls o = true ∧ T_kn (hfF t h ls b o).1 o b < zgr h (zgd (hfF t h ls b o).1 o b) then (T_setkn (hfF t h ls b o).1 (updM (T_kn (hfF t h ls b o).1) o b (zgr h (zgd (hfF t h ls b o).1 o b))), (hfF t h ls b o).2 + 1) else hfF t h ls b o
def zhf (t : TA) (p b : Nat) (others : Int32) : TA × Int32 := hfF t (T_kn t p b / 2) ((others &&& zthere t) &&& ((1 <<< (nI p &&& 31)) ^^^ (-1))) b (T_np t)
theorem br_upd {t : TA} {b p : Nat} (h : T_gn t p = false ∧ ¬ zwk t p b = -1 ∧ ((brF t b p).1 = -1 ∨ (brF t b p).2 < zwk t p b ∨ (zwk t p b = (brF t b p).2 ∧ T_ag t p < T_ag t (brF t b p).1.toNatClampNeg))) : brF t b (p + 1) = (nI p, zwk t p b) := if_pos h
theorem br_skip {t : TA} {b p : Nat} (h : ¬ (T_gn t p = false ∧ ¬ zwk t p b = -1 ∧ ((brF t b p).1 = -1 ∨ (brF t b p).2 < zwk t p b ∨ (zwk t p b = (brF t b p).2 ∧ T_ag t p < T_ag t (brF t b p).1.toNatClampNeg)))) : brF t b (p + 1) = brF t b p := if_neg h
theorem du_upd {t : TA} {b : Nat} (h : T_wh t b = false ∧ (duF t b = -1 ∨ T_wo t (duF t b).toNatClampNeg < T_wo t b)) : duF t (b + 1) = nI b := if_pos h
theorem du_skip {t : TA} {b : Nat} (h : ¬ (T_wh t b = false ∧ (duF t b = -1 ∨ T_wo t (duF t b).toNatClampNeg < T_wo t b))) : duF t (b + 1) = duF t b := if_neg h
theorem yb_upd {t : TA} {o : Int32} {p : Nat} (h : ¬ nI p = o ∧ T_gn t p = false ∧ (ybF t o p = -1 ∨ T_ag t p < T_ag t (ybF t o p).toNatClampNeg)) : ybF t o (p + 1) = nI p := if_pos h
theorem yb_skip {t : TA} {o : Int32} {p : Nat} (h : ¬ (¬ nI p = o ∧ T_gn t p = false ∧ (ybF t o p = -1 ∨ T_ag t p < T_ag t (ybF t o p).toNatClampNeg))) : ybF t o (p + 1) = ybF t o p := if_neg h
def zab (t : TA) (w n : Int32) : TA := T_mk (T_nb t + 1) (T_np t) (T_sd t) (T_wh t) (T_gn t) (upd (T_wo t) (T_nb t) w) (upd (T_ne t) (T_nb t) n) (upd (T_go t) (T_nb t) 1000) (T_ag t) (T_re t) (T_me t) (T_te t) (T_kn t)
def zao (t : TA) (a r k e : Int32) : TA := T_mk (T_nb t) (T_np t + 1) (T_sd t) (T_wh t) (T_gn t) (T_wo t) (T_ne t) (T_go t) (upd (T_ag t) (T_np t) a) (upd (T_re t) (T_np t) r) (upd (T_me t) (T_np t) k) (upd (T_te t) (T_np t) e) (T_kn t)
theorem isx_yes {x : Int32} {n : Nat} (h1 : ¬ x < 0) (h2 : ¬ nI n ≤ x) (hn : n ≤ 8) : ∃ k : Nat, k < n ∧ x = nI k := by
  obtain ⟨k, hk, rfl⟩ := nI_of h1
  exact ⟨k, lp_lt rfl rfl hk (by omega) h2, rfl⟩
theorem isx_no1 {x : Int32} {n : Nat} (h1 : x < 0) (hn : n ≤ 8) : ¬ ∃ k : Nat, k < n ∧ x = nI k := fun ⟨k, hk, e⟩ => by
  subst e
  exact nI_pos (by omega) h1
theorem isx_no2 {x : Int32} {n : Nat} (h1 : nI n ≤ x) (hn : n ≤ 8) : ¬ ∃ k : Nat, k < n ∧ x = nI k := fun ⟨k, hk, e⟩ => by
  subst e
  exact nI_ge hk (by omega) h1
theorem ii_m1 (x : Int32) : x + Int32.ofInt (-1) = x - 1 := by
  rw [Int32.sub_eq_add_neg]
  rfl
theorem ua_hit {t : TA} {pl c : Int32} {n j : Nat} (h : T_wh t j = false) (e : c = pl) : uaG t pl (n + 1) j c = nI j := by
  unfold uaG
  rw [if_pos h, if_pos e]
theorem ua_pass {t : TA} {pl c : Int32} {n j : Nat} (h : T_wh t j = false) (e : ¬ c = pl) : uaG t pl (n + 1) j c = uaG t pl n (j + 1) (c + 1) := by
  rw [uaG, if_pos h, if_neg e]
theorem ua_white {t : TA} {pl c : Int32} {n j : Nat} (h : T_wh t j = true) : uaG t pl (n + 1) j c = uaG t pl n (j + 1) c := by
  rw [uaG, if_neg (by rw [h]; decide)]
theorem an_go {t : TA} {n : Nat} {s : Int32} (h : bitb s n = true) : anF t (n + 1) s = anF t n (s ||| T_ne t n) := by
  rw [anF, if_pos h]
theorem an_no {t : TA} {n : Nat} {s : Int32} (h : bitb s n = false) : anF t (n + 1) s = anF t n s := by
  rw [anF, if_neg (by rw [h]; decide)]
theorem m1_neg {j : Nat} (hj : j ≤ 8) (h : nI j - 1 < 0) : j = 0 := by
  rcases Nat.eq_zero_or_pos j with q | q
  · exact q
  · obtain ⟨m, rfl⟩ : ∃ m, j = m + 1 := ⟨j - 1, by omega⟩
    rw [nI_pred] at h
    exact absurd h (nI_pos (by omega))
theorem m1_pos {j : Nat} (h : ¬ nI j - 1 < 0) : ∃ m, j = m + 1 := by
  rcases Nat.eq_zero_or_pos j with q | q
  · subst q
    exact absurd (by decide) h
  · exact ⟨j - 1, by omega⟩
theorem at_go {t : TA} {b n : Nat} (hb : b < n) (h : bitb (zan t n) b = true) : atF t b (n + 1) = atF t b n ||| (1 <<< (nI n &&& 31)) := by
  rw [atF, if_pos ⟨hb, h⟩]
theorem at_no {t : TA} {b n : Nat} (h : bitb (zan t n) b = false) : atF t b (n + 1) = atF t b n := by
  rw [atF, if_neg (fun q => by rw [h] at q; exact absurd q.2 (by decide))]
theorem ey_on {th : Int32} {t : TA} {p : Nat} (h : bitb th p = true) : eyF th t (p + 1) = eyS (eyF th t p) p := if_pos h
theorem ey_no {th : Int32} {t : TA} {p : Nat} (h : bitb th p = false) : eyF th t (p + 1) = eyF th t p := if_neg (by rw [h]; decide)
def zgb (t : TA) (b : Nat) : Int32 := if zbr t b = -1 then 0 else T_wo t b * (zwk t (zbr t b).toNatClampNeg b - mkn t b (zthere t))
theorem ey_nb (th : Int32) (t : TA) : ∀ n, T_nb (eyF th t n) = T_nb t ∧ T_np (eyF th t n) = T_np t := by
  intro n
  induction n with
  | zero => exact ⟨rfl, rfl⟩
  | succ n ih =>
    unfold eyF
    split
    · exact ih
    · exact ih
theorem dd_g {t : TA} {p : Nat} (h : T_gn (ddF t p) p = true) : ddF t (p + 1) = ddF t p := by
  rw [ddF, if_pos h]
theorem dd_die {t : TA} {p : Nat} (h : T_gn (ddF t p) p = false) (c : ltR (T_sd (ddF t p)) < T_ag (ddF t p) p) : ddF t (p + 1) = T_setgn (T_setsd (ddF t p) (ltS (T_sd (ddF t p)))) (updB (T_gn (ddF t p)) p true) := by
  rw [ddF, if_neg (by rw [h]; decide), if_pos c]
theorem dd_live {t : TA} {p : Nat} (h : T_gn (ddF t p) p = false) (c : ¬ ltR (T_sd (ddF t p)) < T_ag (ddF t p) p) : ddF t (p + 1) = T_setsd (ddF t p) (ltS (T_sd (ddF t p))) := by
  rw [ddF, if_neg (by rw [h]; decide), if_neg c]
theorem sd_nb (t : TA) (x : Int32) : T_nb (T_setsd t x) = T_nb t ∧ T_np (T_setsd t x) = T_np t := ⟨rfl, rfl⟩
theorem sg_nb (t : TA) (x : Int32) (g : Nat → Bool) : T_nb (T_setgn (T_setsd t x) g) = T_nb t ∧ T_np (T_setgn (T_setsd t x) g) = T_np t := ⟨rfl, rfl⟩
theorem dd_nb (t : TA) : ∀ n, T_nb (ddF t n) = T_nb t ∧ T_np (ddF t n) = T_np t := by
  intro n
  induction n with
  | zero => exact ⟨rfl, rfl⟩
  | succ n ih =>
    cases h : T_gn (ddF t n) n with
    | true => rw [dd_g h]; exact ih
    | false =>
      by_cases c : ltR (T_sd (ddF t n)) < T_ag (ddF t n) n
      · rw [dd_die h c]
        generalize ltS (T_sd (ddF t n)) = x
        exact ⟨(sg_nb _ _ _).1.trans ih.1, (sg_nb _ _ _).2.trans ih.2⟩
      · rw [dd_live h c]
        generalize ltS (T_sd (ddF t n)) = x
        exact ⟨(sd_nb _ _).1.trans ih.1, (sd_nb _ _).2.trans ih.2⟩
theorem hf_nb (t : TA) (h ls : Int32) (b : Nat) : ∀ n, T_nb (hfF t h ls b n).1 = T_nb t ∧ T_np (hfF t h ls b n).1 = T_np t := by
  intro n
  induction n with
  | zero => exact ⟨rfl, rfl⟩
  | succ n ih =>
    unfold hfF
    split
    · exact ih
    · exact ih
theorem hf_on {t : TA} {h ls : Int32} {b o : Nat} (c1 : bitb ls o = true) (c2 : T_kn (hfF t h ls b o).1 o b < zgr h (zgd (hfF t h ls b o).1 o b)) : hfF t h ls b (o + 1) = (T_setkn (hfF t h ls b o).1 (updM (T_kn (hfF t h ls b o).1) o b (zgr h (zgd (hfF t h ls b o).1 o b))), (hfF t h ls b o).2 + 1) := by
  rw [hfF, if_pos ⟨c1, c2⟩]
theorem hf_no1 {t : TA} {h ls : Int32} {b o : Nat} (c1 : bitb ls o = false) : hfF t h ls b (o + 1) = hfF t h ls b o := by
  rw [hfF, if_neg (fun q => by rw [c1] at q; exact absurd q.1 (by decide))]
theorem hf_no2 {t : TA} {h ls : Int32} {b o : Nat} (c2 : ¬ T_kn (hfF t h ls b o).1 o b < zgr h (zgd (hfF t h ls b o).1 o b)) : hfF t h ls b (o + 1) = hfF t h ls b o := by
  rw [hfF, if_neg (fun q => c2 q.2)]
/-- a row copied whole -/
theorem arr_same {cA : ClassId} {n : Nat} {f g : Nat → Int32} (h : ∀ i, i < n → f i = g i) : vp_cell cA (n, .inl f) = vp_cell cA (n, .inl g) := by
  show arrV cA n (fun j => .int (f j)) = arrV cA n (fun j => .int (g j))
  unfold arrV
  congr 1
  apply Array.ext
  · simp
  · intro i h1 h2
    simp at h1
    simp [h i h1]
section CPY
variable {p : Program} {l : Launch} {e : Env} {R : Room} {s : State} {m : MethodId} {args : Array Value} {below : List Frame} {meth : Method} {c : Code} {H : Heap} {locs : List Loc} {cells slots : Nat} {Q : State → Prop}
variable {cc : ByteArray} {pc index : Nat} {ls : Array Slot} {rest : List Value} {G : va_G} {cy : Nat → ClassId} {ws : va_W} {A : Nat → Prop} {H0 : Heap}
theorem cpAll (hexec : p.tables.exec = Jvm.exec) (hb : c.code = cc) (hml : c.maxLocals = ls.size) {own : String} (hown : s.vm.findClass own = some m.cls) (hlink : (Cond.methodLink own index arraycopyName).before args s = true) (hnat : (Cond.native arraycopyName).before args s = true) (hstat : (Cond.static arraycopyName).before args s = true) (hini : (Cond.initialized "java/lang/System").before args s = true)
    (hK : va_K G CL (tysA cy) s) (hP : va_P G CL ws H) (hD : va_D A ws) (hS : va_S A H0 H locs) (q0 q1 : Nat) {a0 a : Nat} (N : Nat) {f g : Nat → Int32} (ha0 : ws[q0]? = some (a0, .inl (cy 0, N, .inl f))) (ha1 : ws[q1]? = some (a, .inl (cy 0, N, .inl g)))
    {n : Int32} (h3 : ¬ n < 0) (hN : n.toNatClampNeg = N) (hframes : 1 ≤ R.frames) (hlocals : (rest.map fun v => v.category).sum + (nativeFrameWords "java/lang/System" "arraycopy" 5 + 11) ≤ R.locals) (hdg : decode cc pc = .ok (.invokestatic index, 3))
    (kk : ∀ (H1 : Heap) (locs1 : List Loc), va_P G CL (ws.set q1 (a, .inl (cy 0, N, .inl f))) H1 → va_D A (ws.set q1 (a, .inl (cy 0, N, .inl f))) → va_S A H0 H1 locs1 → W p l e R s m args below meth c H1 locs1 cells slots Q (F0 m (pc + 3) ls rest)) : W p l e R s m args below meth c H locs cells slots Q (F0 m pc ls (.int n :: .int 0 :: .ref a :: .int 0 :: .ref a0 :: rest)) := by
  refine va_copyi (ty := .int) (sp := 0) (dp := 0) hexec hb hml hown hlink hnat hstat hini hK hP hD hS q0 q1 0 0 ha0 ha1 rfl rfl rfl (by decide) (by decide) h3 (by rw [hN, show (0 : Int32).toNatClampNeg = 0 by decide]; omega) (by rw [hN, show (0 : Int32).toNatClampNeg = 0 by decide]; omega) (fun _ _ => rfl) hframes hlocals hdg (fun H1 locs1 hP1 hD1 hS1 => ?_)
  refine kk H1 locs1 (fun k q hq => ?_) ⟨fun i j x y hx hy hxy => ?_, fun k q hq => ?_⟩ hS1
  · by_cases hk : k = q1
    · subst hk
      have hl : k < ws.length := (List.getElem?_eq_some_iff.mp ha1).1
      rw [List.getElem?_set_self hl] at hq
      cases hq
      have h0 := hP1 k _ (List.getElem?_set_self hl)
      refine Eq.trans h0 (congrArg some (arr_same (fun i hi => ?_)))
      rw [hN, show (0 : Int32).toNatClampNeg = 0 by decide]
      rw [pk_cpy_in (Nat.zero_le _) (by omega)]
      simp
    · refine hP1 k q ?_
      rw [List.getElem?_set_ne (fun h => hk h.symm)] at hq ⊢
      exact hq
  · have key : ∀ (k : Nat) (z : Nat × va_E), (ws.set q1 (a, .inl (cy 0, N, .inl f)))[k]? = some z → ∃ z', ws[k]? = some z' ∧ z'.1 = z.1 := fun k z hz => by
      by_cases hk : k = q1
      · subst hk
        have hl : k < ws.length := (List.getElem?_eq_some_iff.mp ha1).1
        rw [List.getElem?_set_self hl] at hz
        cases hz
        exact ⟨_, ha1, rfl⟩
      · rw [List.getElem?_set_ne (fun h => hk h.symm)] at hz
        exact ⟨z, hz, rfl⟩
    obtain ⟨x', h1, h2⟩ := key i x hx
    obtain ⟨y', h3', h4⟩ := key j y hy
    exact hD.1 i j x' y' h1 h3' (by rw [h2, h4]; exact hxy)
  · by_cases hk : k = q1
    · subst hk
      have hl : k < ws.length := (List.getElem?_eq_some_iff.mp ha1).1
      rw [List.getElem?_set_self hl] at hq
      cases hq
      have h9 := hD.2 k (a, .inl (cy 0, N, .inl g)) ha1
      exact h9
    · rw [List.getElem?_set_ne (fun h => hk h.symm)] at hq
      exact hD.2 k q hq
end CPY
