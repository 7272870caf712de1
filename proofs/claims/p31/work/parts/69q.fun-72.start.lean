section
/-! what the questions answer, the same on both sides -/
/-! teach -/
section TCH
variable {t : TA} {k m j : Nat} {x y X : Int32}
end TCH
/-! hangs -/
section HG
variable {t : TA} {j : Nat} {x y X : Int32}
end HG
/-! lost -/
/-! nobody is there: nothing changes -/
theorem bitb0 (i : Nat) : bitb 0 i = false := by
  unfold bitb
  rw [Int32.zero_shiftRight, Int32.zero_and]
  rfl
theorem em_gn {t : TA} (h8 : T_np t ≤ 8) (h : zthere t = 0) {p : Nat} (hp : p < T_np t) : T_gn t p = true := by
  have q := bitb_th (t := t) (n := p) (by omega)
  rw [h, bitb0, decide_eq_true hp] at q
  cases e : T_gn t p with
  | true => rfl
  | false => rw [e] at q; cases q
theorem em_gA (k : Nat → Int32) : ∀ n, gA (bitb 0) k n = 0 := by
  intro n
  induction n with
  | zero => rfl
  | succ n ih =>
    show (if bitb 0 n = true then mx (gA (bitb 0) k n) (k n) else gA (bitb 0) k n) = 0
    rw [if_neg (by rw [bitb0]; decide), ih]
theorem em_ws {f : Nat → Int32} (h : ∀ b, f b = 0) : ∀ n, wsum f n = 0 := by
  intro n
  induction n with
  | zero => rfl
  | succ n ih =>
    show wsum f n + f n = 0
    rw [ih, h]; rfl
theorem em_val {t : TA} (h : zthere t = 0) : zval t = 0 := by
  unfold zval waF
  rw [h]
  exact em_ws (fun b => by show T_wo t b * mkn t b 0 = 0; rw [show mkn t b 0 = 0 from em_gA _ _, Int32.mul_zero]) _
theorem em_eyF (t : TA) : ∀ n, eyF 0 t n = t := by
  intro n
  induction n with
  | zero => rfl
  | succ n ih =>
    show (if bitb 0 n = true then eyS (eyF 0 t n) n else eyF 0 t n) = t
    rw [if_neg (by rw [bitb0]; decide), ih]
theorem em_ey {t : TA} (h : zthere t = 0) : zey t = t := by
  unfold zey
  rw [h]
  exact em_eyF t _
theorem em_brF {t : TA} {b : Nat} : ∀ n, (∀ p, p < n → T_gn t p = true) → brF t b n = (-1, 0) := by
  intro n
  induction n with
  | zero => intro _; rfl
  | succ n ih =>
    intro h
    rw [brF, if_neg (fun q => by rw [h n (by omega)] at q; exact absurd q.1 (by decide +kernel))]
    exact ih (fun p hp => h p (by omega))
theorem em_br {t : TA} {b : Nat} (h8 : T_np t ≤ 8) (h : zthere t = 0) : zbr t b = -1 := by
  unfold zbr
  rw [em_brF _ (fun p hp => em_gn h8 h hp)]
theorem em_rd {t : TA} {m l : Int32} (h8 : T_np t ≤ 8) (h : zthere t = 0) : zrd t m l = (t, 0) := by
  unfold zrd
  rw [rdG]
  split
  · rfl
  · split
    · rfl
    · rw [if_pos (em_br h8 h)]
theorem em_tc {t : TA} : ∀ n, (∀ p, p < n → T_gn t p = true) → tcF t n = t := by
  intro n
  induction n with
  | zero => intro _; rfl
  | succ n ih =>
    intro h
    show tcS (tcF t n) n = t
    rw [ih (fun p hp => h p (by omega)), tcS, if_pos (h n (by omega))]
theorem em_ch {t : TA} (h8 : T_np t ≤ 8) (h : zthere t = 0) : zch t = t := em_tc _ (fun p hp => em_gn h8 h hp)
theorem em_act {t : TA} {k a : Int32} (h8 : T_np t ≤ 8) (h : zthere t = 0) : (zact t k a).1 = t := by
  unfold zact
  rw [em_ch h8 h]
  split
  · rw [em_rd h8 h]
  · split
    · rw [em_rd h8 h]
    · split
      · rw [em_rd h8 h]
      · split
        · rfl
        · split
          · exact em_ch h8 h
          · split
            · rw [em_rd h8 h]
            · rfl
/-- years without a stop: the town, the last value, the sum -/
noncomputable def gG (k a : Int32) : Nat → TA → Int32 → Int32 → TA × Int32 × Int32
  | 0, t, l, s => (t, l, s)
  | n + 1, t, l, s => gG k a n (zey (zact t k a).1) (zval (zact t k a).1) (s + zval (zact t k a).1)
theorem gG_em {k a : Int32} {t : TA} {s : Int32} (h8 : T_np t ≤ 8) (h : zthere t = 0) : ∀ n, gG k a n t 0 s = (t, 0, s) := by
  intro n
  induction n with
  | zero => rfl
  | succ n ih =>
    rw [gG, em_act h8 h, em_ey h, em_val h, Int32.add_zero]
    exact ih
theorem act_m1 {t : TA} {a : Int32} : (zact t (-1) a).1 = t := rfl
theorem gG_so {a : Int32} : ∀ (n : Nat) (t : TA) (l s : Int32), T_np t ≤ 8 → (gG (-1) a n t l s).1 = (soG n t s).1 ∧ (gG (-1) a n t l s).2.2 = (soG n t s).2 := by
  intro n
  induction n with
  | zero => intro t l s _; exact ⟨rfl, rfl⟩
  | succ n ih =>
    intro t l s h8
    by_cases h : zthere t = 0
    · rw [so_0 h, gG, act_m1, em_ey h, em_val h, Int32.add_zero, gG_em h8 h n]
      exact ⟨rfl, rfl⟩
    · rw [so_go h, gG, act_m1]
      exact ih _ _ _ (by rw [(zey_nb _).2]; exact h8)
theorem gg_st {k a l s v : Int32} {n : Nat} {t t1 : TA} {R : TA × Int32 × Int32} (h : gG k a (n + 1) t l s = R) (ht : t1 = zey (zact t k a).1) (hv : v = zval (zact t k a).1) : gG k a n t1 v (s + v) = R := by
  subst ht
  subst hv
  exact h
/-! a rule on a shelf, and what is asked of it -/
section RN
variable {q a r0 r1 x y l w : Int32} {t tX tY : TA} {m : Nat}
end RN
/-! head: the best of the shelves -/
section HD
variable {g : Nat → Bool} {v : Nat → Int32} {j : Nat} {x y X : Int32}
end HD
/-! who: the first sum does not matter -/
theorem bw_s {t : TA} {b n : Nat} (s s' : Int32) : ∀ p, (bwF t b n s p).1 = (bwF t b n s' p).1 ∧ (¬ (bwF t b n s p).1 = -1 → (bwF t b n s p).2 = (bwF t b n s' p).2) := by
  intro p
  induction p with
  | zero => exact ⟨rfl, fun h => absurd rfl h⟩
  | succ p ih =>
    rw [bwF, bwF]
    by_cases c : bitb (zthere t) p = true
    · by_cases c1 : (bwF t b n s p).1 = -1
      · rw [if_pos ⟨c, Or.inl c1⟩, if_pos ⟨c, Or.inl (ih.1 ▸ c1)⟩]
        exact ⟨rfl, fun _ => rfl⟩
      · have e2 := ih.2 c1
        by_cases c2 : (bwF t b n s p).2 < (soG n (rdT t p b) 0).2
        · rw [if_pos ⟨c, Or.inr c2⟩, if_pos ⟨c, Or.inr (e2 ▸ c2)⟩]
          exact ⟨rfl, fun _ => rfl⟩
        · rw [if_neg (fun q => q.2.elim c1 c2), if_neg (fun q => q.2.elim (fun q => c1 (ih.1.trans q)) (fun q => c2 (by rw [e2]; exact q)))]
          exact ih
    · rw [if_neg (fun q => c q.1), if_neg (fun q => c q.1)]
      exact ih
section WH
variable {t : TA} {m n : Nat} {s : Int32}
end WH
section BW
variable {t : TA} {b n p : Nat} {x y r l i : Int32} {tX : TA}
theorem bw_th (h8 : T_np t ≤ 8) (hp : p < T_np t) (g : T_gn t p = false) : bitb (zthere t) p = true := by
  rw [bitb_th (by omega), decide_eq_true hp, g]; rfl
theorem bw_g (h8 : T_np t ≤ 8) (hp : p < T_np t) (hE : (x, y) = bwF t b n 0 p) (g : T_gn t p = true) : (x, y) = bwF t b n 0 (p + 1) := by
  rw [bwF, if_neg (fun q => by have q1 := q.1; rw [bitb_th (by omega), decide_eq_true hp, g] at q1; cases q1)]; exact hE
theorem bw_v (h8 : T_np t ≤ 8) (h : (tX, i, r) = gG (-1) 0 n (rdT t p b) l 0) : r = (soG n (rdT t p b) 0).2 := by
  rw [← (gG_so (a := 0) n (rdT t p b) l 0 (by rw [np_rd]; exact h8)).2, ← h]
theorem bw_y (h8 : T_np t ≤ 8) (hp : p < T_np t) (hE : (x, y) = bwF t b n 0 p) (g : T_gn t p = false) (hr : r = (soG n (rdT t p b) 0).2) (c : x = -1 ∨ y < r) : (nI p, r) = bwF t b n 0 (p + 1) := by
  subst hr
  rw [bwF, ← hE, if_pos ⟨bw_th h8 hp g, c⟩]
theorem bw_n (hE : (x, y) = bwF t b n 0 p) (hr : r = (soG n (rdT t p b) 0).2) (c1 : ¬ x = -1) (c2 : ¬ y < r) : (x, y) = bwF t b n 0 (p + 1) := by
  subst hr
  rw [bwF, ← hE, if_neg (fun q => q.2.elim c1 c2)]
end BW
/-! keeping -/
noncomputable def kpF (t : TA) (b n : Nat) : Int32 := if T_wh t b = true then -1000005 else if (zbw t b n 0).1 = -1 then -1000005 else if (zbw (soG 1 t 0).1 b (n - 1) 0).1 = -1 then -1000005 else (soG 1 t 0).2 + (zbw (soG 1 t 0).1 b (n - 1) 0).2 - (zbw t b n 0).2
theorem zbw_s {t : TA} {b n : Nat} (s s' : Int32) : (zbw t b n s).1 = (zbw t b n s').1 ∧ (¬ (zbw t b n s).1 = -1 → (zbw t b n s).2 = (zbw t b n s').2) := bw_s s s' _
section KP
variable {t tX : TA} {b n : Nat} {r r2 s s2 f y l z : Int32}
theorem kp_w (h : T_wh t b = true) : -1000005 = kpF t b n := (if_pos h).symm
theorem kp_nw (h : T_wh t b = false) : ¬ T_wh t b = true := fun q => by rw [h] at q; cases q
theorem kp_1 (hw : T_wh t b = false) (h : (r, s) = zbw t b n 0) (c : r = -1) : -1000005 = kpF t b n := by
  unfold kpF
  rw [if_neg (kp_nw hw), ← h, if_pos c]
theorem kp_g (h8 : T_np t ≤ 8) (hg : (tX, y, f) = gG (-1) 0 1 t l 0) : tX = (soG 1 t 0).1 ∧ f = (soG 1 t 0).2 := by
  have q := gG_so (a := 0) 1 t l 0 h8
  rw [← hg] at q
  exact q
theorem kp_2 (h8 : T_np t ≤ 8) (hw : T_wh t b = false) (h : (r, s) = zbw t b n 0) (c : ¬ r = -1) (hg : (tX, y, f) = gG (-1) 0 1 t l 0) (h2 : (r2, s2) = zbw tX b (n - 1) 0) (c2 : r2 = -1) : -1000005 = kpF t b n := by
  unfold kpF
  rw [if_neg (kp_nw hw), ← (kp_g h8 hg).1, ← h, if_neg c, ← h2, if_pos c2]
theorem kp_v (h8 : T_np t ≤ 8) (hw : T_wh t b = false) (h : (r, s) = zbw t b n 0) (c : ¬ r = -1) (hg : (tX, y, f) = gG (-1) 0 1 t l 0) (h2 : (r2, s2) = zbw tX b (n - 1) 0) (c2 : ¬ r2 = -1) : f + s2 - s = kpF t b n := by
  unfold kpF
  rw [if_neg (kp_nw hw), ← (kp_g h8 hg).1, ← (kp_g h8 hg).2, ← h, if_neg c, ← h2, if_neg c2]
theorem kf_0 (hw : T_wh t b = false) (c : (zfk t b n z).1 = 0) : -1000005 = kpF t b n := by
  unfold kpF
  rw [if_neg (kp_nw hw)]
  by_cases c1 : (zbw t b n 0).1 = -1
  · rw [if_pos c1]
  · rw [if_neg c1]
    by_cases c2 : (zbw (soG 1 t 0).1 b (n - 1) 0).1 = -1
    · rw [if_pos c2]
    · exfalso
      unfold zfk at c
      rw [if_neg (fun q => c1 ((zbw_s 0 z).1.trans q)), if_neg (fun q => c2 ((zbw_s 0 _).1.trans q))] at c
      exact absurd c (by show ¬ (1 : Int32) = 0; decide)
theorem kf_1 (hw : T_wh t b = false) (c : ¬ (zfk t b n z).1 = 0) : (zfk t b n z).2 = kpF t b n := by
  unfold kpF
  rw [if_neg (kp_nw hw)]
  by_cases c1 : (zbw t b n 0).1 = -1
  · exfalso
    apply c
    unfold zfk
    rw [if_pos ((zbw_s z 0).1.trans c1)]
  · rw [if_neg c1]
    by_cases c2 : (zbw (soG 1 t 0).1 b (n - 1) 0).1 = -1
    · exfalso
      apply c
      unfold zfk
      rw [if_neg (fun q => c1 ((zbw_s 0 z).1.trans q)), if_pos ((zbw_s _ 0).1.trans c2)]
    · rw [if_neg c2]
      unfold zfk
      rw [if_neg (fun q => c1 ((zbw_s 0 z).1.trans q)), if_neg (fun q => c2 ((zbw_s 0 _).1.trans q))]
      show (soG 1 t 0).2 + (zbw (soG 1 t 0).1 b (n - 1) (zbw t b n z).2).2 - (zbw t b n z).2 = _
      rw [← (zbw_s 0 z).2 c1, ← (zbw_s 0 (zbw t b n 0).2).2 c2]
end KP
noncomputable def PQk (t : TA) (a b r : Int32) : Prop := (r = -1000002 ∧ ¬ ((∃ k : Nat, k < T_nb t ∧ a = nI k) ∧ Iv b.toInt64 2 60)) ∨ ∃ k : Nat, k < T_nb t ∧ a = nI k ∧ Iv b.toInt64 2 60 ∧ r = kpF t k b.toNatClampNeg
theorem pqk_eq {t : TA} {a b r r' : Int32} (h8 : T_nb t ≤ 8) (h1 : PQk t a b r) (h2 : PQk t a b r') : r = r' := by
  rcases h1 with ⟨e1, c1⟩ | ⟨k, hk, ek, iv, e1⟩
  · rcases h2 with ⟨e2, c2⟩ | ⟨k, hk, ek, iv, e2⟩
    · exact e1.trans e2.symm
    · exact absurd ⟨⟨k, hk, ek⟩, iv⟩ c1
  · rcases h2 with ⟨e2, c2⟩ | ⟨k', hk', ek', iv', e2⟩
    · exact absurd ⟨⟨k, hk, ek⟩, iv⟩ c2
    · have q : k = k' := nI_inj (by omega) (by omega) (ek.symm.trans ek')
      subst q
      exact e1.trans e2.symm
set_option maxHeartbeats 4000000 in
set_option maxRecDepth 100000 in
theorem x_X6_goes (l : Launch) (G : va_G) (cy : Nat → ClassId) (sz : Nat) (qm : Nat) (v0 : Value) (v1 : Value) (v2 : Value) (v3 : Value) (v4 : Value) (v5 : Value) (v6 : Value) (v7 : Value) (v8 : Value) (v9 : Value) (tA : TA) (qmB : Nat) (qmO : Nat) (qmK : Nat) (iEn : Int32) (iTk : Int32) (v18 : Value) (v19 : Value) (v20 : Value) (v21 : Value) (v22 : Value) (v23 : Value) (v24 : Value) (v25 : Value) (v26 : Value) (iLv : Int32) (iWs : Int32) (v29 : Value) (v30 : Value) (v31 : Value) (v32 : Value) (v33 : Value) (v34 : Value) (rB : Nat → Nat) (rO : Nat → Nat) (rK : Nat → Nat) (iK : Int32) (kM : Nat) (kN : Nat)  (hB : T_nb tA ≤ 8) (hPp : T_np tA ≤ 8) (hWI : WI tA) (hM : kM ≤ 99) (hKn : iK = -1 ∨ Iv iK.toInt64 1 6) (hN60 : kN ≤ 60) : MW l yX6_goes cX6_goes 6 (some .int) 8 0 0 G cy [zzO qm 5 [v0, v1, v2, v3, v4, v5, v6, v7, v8, v9, .int (nI (T_nb tA)), .ref qmB, .int (nI (T_np tA)), .ref qmO, .ref qmK, .int iEn, .int iTk, .int (T_sd tA), v18, v19, v20, v21, v22, v23, v24, v25, v26, .int iLv, .int iWs, v29, v30, v31, v32, v33, v34], zzG cy 3 qmB rB, zzI cy (rB 0) 4 (bkR tA 0), zzI cy (rB 1) 4 (bkR tA 1), zzI cy (rB 2) 4 (bkR tA 2), zzI cy (rB 3) 4 (bkR tA 3), zzI cy (rB 4) 4 (bkR tA 4), zzI cy (rB 5) 4 (bkR tA 5), zzI cy (rB 6) 4 (bkR tA 6), zzI cy (rB 7) 4 (bkR tA 7), zzG cy 3 qmO rO, zzI cy (rO 0) 5 (onR tA 0), zzI cy (rO 1) 5 (onR tA 1), zzI cy (rO 2) 5 (onR tA 2), zzI cy (rO 3) 5 (onR tA 3), zzI cy (rO 4) 5 (onR tA 4), zzI cy (rO 5) 5 (onR tA 5), zzI cy (rO 6) 5 (onR tA 6), zzI cy (rO 7) 5 (onR tA 7), zzG cy 3 qmK rK, zzI cy (rK 0) 8 (T_kn tA 0), zzI cy (rK 1) 8 (T_kn tA 1), zzI cy (rK 2) 8 (T_kn tA 2), zzI cy (rK 3) 8 (T_kn tA 3), zzI cy (rK 4) 8 (T_kn tA 4), zzI cy (rK 5) 8 (T_kn tA 5), zzI cy (rK 6) 8 (T_kn tA 6), zzI cy (rK 7) 8 (T_kn tA 7)] sz [.ref qm, .int iK, .int (nI kM), .int (nI kN)] (Wi G (fun r u => ∃ (tX : TA) (iX : Int32) (iY : Int32), u = [zzO qm 5 [v0, v1, v2, v3, v4, v5, v6, v7, v8, v9, .int (nI (T_nb tX)), .ref qmB, .int (nI (T_np tX)), .ref qmO, .ref qmK, .int iX, .int iTk, .int (T_sd tX), v18, v19, v20, v21, v22, v23, v24, v25, v26, .int iY, .int iWs, v29, v30, v31, v32, v33, v34], zzG cy 3 qmB rB, zzI cy (rB 0) 4 (bkR tX 0), zzI cy (rB 1) 4 (bkR tX 1), zzI cy (rB 2) 4 (bkR tX 2), zzI cy (rB 3) 4 (bkR tX 3), zzI cy (rB 4) 4 (bkR tX 4), zzI cy (rB 5) 4 (bkR tX 5), zzI cy (rB 6) 4 (bkR tX 6), zzI cy (rB 7) 4 (bkR tX 7), zzG cy 3 qmO rO, zzI cy (rO 0) 5 (onR tX 0), zzI cy (rO 1) 5 (onR tX 1), zzI cy (rO 2) 5 (onR tX 2), zzI cy (rO 3) 5 (onR tX 3), zzI cy (rO 4) 5 (onR tX 4), zzI cy (rO 5) 5 (onR tX 5), zzI cy (rO 6) 5 (onR tX 6), zzI cy (rO 7) 5 (onR tX 7), zzG cy 3 qmK rK, zzI cy (rK 0) 8 (T_kn tX 0), zzI cy (rK 1) 8 (T_kn tX 1), zzI cy (rK 2) 8 (T_kn tX 2), zzI cy (rK 3) 8 (T_kn tX 3), zzI cy (rK 4) 8 (T_kn tX 4), zzI cy (rK 5) 8 (T_kn tX 5), zzI cy (rK 6) 8 (T_kn tX 6), zzI cy (rK 7) 8 (T_kn tX 7)] ∧ (TI tX ∧ T_nb tX = T_nb tA ∧ T_np tX = T_np tA) ∧ (WI tX ∧ (tX, iY, r) = gG iK (nI kM) kN tA iLv 0) ∧ (True))) := by
  refine enW RX6 (by decide +kernel) rfl (Nat.le_of_ble_eq_true rfl) (fun p e s m below meth c ls A hx hb hml hown hts hr hlocks hP hN hl hin hD hA hS => ?_)
  have hin : meth.name = _ := hin
  have hK := hN.1
  replace hl : lv_has ls 6 [(0, .ref qm), (1, .int iK), (2, .int (nI kM)), (3, .int (nI kN))] := hl
  refine lv_iconst (v := 0) hx hb dX6_goes_0 (by decide +kernel) ?_
  refine lv_istore (lv' := [(4, .int 0), (0, .ref qm), (1, .int iK), (2, .int (nI kM)), (3, .int (nI kN))]) hx hb dX6_goes_1 hl (by decide +kernel) rfl (fun ls => ?_)
  clear hl
  intro hl
  refine lv_iconst (v := 0) hx hb dX6_goes_3 (by decide +kernel) ?_
  refine lv_istore (lv' := [(5, .int 0), (4, .int 0), (0, .ref qm), (1, .int iK), (2, .int (nI kM)), (3, .int (nI kN))]) hx hb dX6_goes_4 hl (by decide +kernel) rfl (fun ls => ?_)
  clear hl
  intro hl
  have lp_1 : ∀ (n_2 : Nat) (j_4 : Nat) (tJ_5 : TA) (xS_6 : Int32) (xE_7 : Int32) (xL_8 : Int32), 60 - j_4 < n_2 → j_4 ≤ kN → TI tJ_5 ∧ T_nb tJ_5 = T_nb tA ∧ T_np tJ_5 = T_np tA → WI tJ_5 → gG iK (nI kM) (kN - j_4) tJ_5 xL_8 xS_6 = gG iK (nI kM) kN tA iLv 0 → ∀ (H : Heap) (locs : List Loc) (ls : Array Slot), va_P G CL [zzO qm 5 [v0, v1, v2, v3, v4, v5, v6, v7, v8, v9, .int (nI (T_nb tJ_5)), .ref qmB, .int (nI (T_np tJ_5)), .ref qmO, .ref qmK, .int xE_7, .int iTk, .int (T_sd tJ_5), v18, v19, v20, v21, v22, v23, v24, v25, v26, .int xL_8, .int iWs, v29, v30, v31, v32, v33, v34], zzG cy 3 qmB rB, zzI cy (rB 0) 4 (bkR tJ_5 0), zzI cy (rB 1) 4 (bkR tJ_5 1), zzI cy (rB 2) 4 (bkR tJ_5 2), zzI cy (rB 3) 4 (bkR tJ_5 3), zzI cy (rB 4) 4 (bkR tJ_5 4), zzI cy (rB 5) 4 (bkR tJ_5 5), zzI cy (rB 6) 4 (bkR tJ_5 6), zzI cy (rB 7) 4 (bkR tJ_5 7), zzG cy 3 qmO rO, zzI cy (rO 0) 5 (onR tJ_5 0), zzI cy (rO 1) 5 (onR tJ_5 1), zzI cy (rO 2) 5 (onR tJ_5 2), zzI cy (rO 3) 5 (onR tJ_5 3), zzI cy (rO 4) 5 (onR tJ_5 4), zzI cy (rO 5) 5 (onR tJ_5 5), zzI cy (rO 6) 5 (onR tJ_5 6), zzI cy (rO 7) 5 (onR tJ_5 7), zzG cy 3 qmK rK, zzI cy (rK 0) 8 (T_kn tJ_5 0), zzI cy (rK 1) 8 (T_kn tJ_5 1), zzI cy (rK 2) 8 (T_kn tJ_5 2), zzI cy (rK 3) 8 (T_kn tJ_5 3), zzI cy (rK 4) 8 (T_kn tJ_5 4), zzI cy (rK 5) 8 (T_kn tJ_5 5), zzI cy (rK 6) 8 (T_kn tJ_5 6), zzI cy (rK 7) 8 (T_kn tJ_5 7)] H → va_D A [zzO qm 5 [v0, v1, v2, v3, v4, v5, v6, v7, v8, v9, .int (nI (T_nb tJ_5)), .ref qmB, .int (nI (T_np tJ_5)), .ref qmO, .ref qmK, .int xE_7, .int iTk, .int (T_sd tJ_5), v18, v19, v20, v21, v22, v23, v24, v25, v26, .int xL_8, .int iWs, v29, v30, v31, v32, v33, v34], zzG cy 3 qmB rB, zzI cy (rB 0) 4 (bkR tJ_5 0), zzI cy (rB 1) 4 (bkR tJ_5 1), zzI cy (rB 2) 4 (bkR tJ_5 2), zzI cy (rB 3) 4 (bkR tJ_5 3), zzI cy (rB 4) 4 (bkR tJ_5 4), zzI cy (rB 5) 4 (bkR tJ_5 5), zzI cy (rB 6) 4 (bkR tJ_5 6), zzI cy (rB 7) 4 (bkR tJ_5 7), zzG cy 3 qmO rO, zzI cy (rO 0) 5 (onR tJ_5 0), zzI cy (rO 1) 5 (onR tJ_5 1), zzI cy (rO 2) 5 (onR tJ_5 2), zzI cy (rO 3) 5 (onR tJ_5 3), zzI cy (rO 4) 5 (onR tJ_5 4), zzI cy (rO 5) 5 (onR tJ_5 5), zzI cy (rO 6) 5 (onR tJ_5 6), zzI cy (rO 7) 5 (onR tJ_5 7), zzG cy 3 qmK rK, zzI cy (rK 0) 8 (T_kn tJ_5 0), zzI cy (rK 1) 8 (T_kn tJ_5 1), zzI cy (rK 2) 8 (T_kn tJ_5 2), zzI cy (rK 3) 8 (T_kn tJ_5 3), zzI cy (rK 4) 8 (T_kn tJ_5 4), zzI cy (rK 5) 8 (T_kn tJ_5 5), zzI cy (rK 6) 8 (T_kn tJ_5 6), zzI cy (rK 7) 8 (T_kn tJ_5 7)] → va_S A s.heap H locs → lv_has ls 6 [(5, .int (nI j_4)), (4, .int xS_6), (0, .ref qm), (1, .int iK), (2, .int (nI kM)), (3, .int (nI kN))] → W p l e (Rm 8 0 0) s m (List.toArray (α := Value) [.ref qm, .int iK, .int (nI kM), .int (nI kN)]) below meth c H locs 0 0 (MQ below ((Wi G (fun r u => ∃ (tX : TA) (iX : Int32) (iY : Int32), u = [zzO qm 5 [v0, v1, v2, v3, v4, v5, v6, v7, v8, v9, .int (nI (T_nb tX)), .ref qmB, .int (nI (T_np tX)), .ref qmO, .ref qmK, .int iX, .int iTk, .int (T_sd tX), v18, v19, v20, v21, v22, v23, v24, v25, v26, .int iY, .int iWs, v29, v30, v31, v32, v33, v34], zzG cy 3 qmB rB, zzI cy (rB 0) 4 (bkR tX 0), zzI cy (rB 1) 4 (bkR tX 1), zzI cy (rB 2) 4 (bkR tX 2), zzI cy (rB 3) 4 (bkR tX 3), zzI cy (rB 4) 4 (bkR tX 4), zzI cy (rB 5) 4 (bkR tX 5), zzI cy (rB 6) 4 (bkR tX 6), zzI cy (rB 7) 4 (bkR tX 7), zzG cy 3 qmO rO, zzI cy (rO 0) 5 (onR tX 0), zzI cy (rO 1) 5 (onR tX 1), zzI cy (rO 2) 5 (onR tX 2), zzI cy (rO 3) 5 (onR tX 3), zzI cy (rO 4) 5 (onR tX 4), zzI cy (rO 5) 5 (onR tX 5), zzI cy (rO 6) 5 (onR tX 6), zzI cy (rO 7) 5 (onR tX 7), zzG cy 3 qmK rK, zzI cy (rK 0) 8 (T_kn tX 0), zzI cy (rK 1) 8 (T_kn tX 1), zzI cy (rK 2) 8 (T_kn tX 2), zzI cy (rK 3) 8 (T_kn tX 3), zzI cy (rK 4) 8 (T_kn tX 4), zzI cy (rK 5) 8 (T_kn tX 5), zzI cy (rK 6) 8 (T_kn tX 6), zzI cy (rK 7) 8 (T_kn tX 7)] ∧ (TI tX ∧ T_nb tX = T_nb tA ∧ T_np tX = T_np tA) ∧ (WI tX ∧ (tX, iY, r) = gG iK (nI kM) kN tA iLv 0) ∧ (True))) A) (List.toArray (α := Value) [.ref qm, .int iK, .int (nI kM), .int (nI kN)]) s 0 0 A) (F0 m 6 ls []) := by
    intro n_2
    induction n_2 with
    | zero => intro j_4 tJ_5 xS_6 xE_7 xL_8 hm9; exact absurd hm9 (Nat.not_lt_zero _)
    | succ n_2 ih_3 =>
      intro j_4 tJ_5 xS_6 xE_7 xL_8 hm_13 hj_9 hT_10 hW_11 hG_12 H locs ls hP hD hS hl
      refine lv_iload hx hb dX6_goes_6 (lv_at hl 0 rfl) ?_
      refine lv_iload_n hx hb dX6_goes_8 rfl (lv_at hl 5 rfl) ?_
      refine lv_icmp_ge (tgt := 52) hx hb dX6_goes_9 (by decide +kernel) (fun c_14 => ?_) (fun c_14 => ?_)
      · have hlt_15 : j_4 = kN := Nat.le_antisymm (by omega) (lp_ge rfl rfl (by omega) (by omega) c_14)
        refine lv_iload hx hb dX6_goes_52 (lv_at hl 1 rfl) ?_
        exact endW (u := [zzO qm 5 [v0, v1, v2, v3, v4, v5, v6, v7, v8, v9, .int (nI (T_nb tJ_5)), .ref qmB, .int (nI (T_np tJ_5)), .ref qmO, .ref qmK, .int xE_7, .int iTk, .int (T_sd tJ_5), v18, v19, v20, v21, v22, v23, v24, v25, v26, .int xL_8, .int iWs, v29, v30, v31, v32, v33, v34], zzG cy 3 qmB rB, zzI cy (rB 0) 4 (bkR tJ_5 0), zzI cy (rB 1) 4 (bkR tJ_5 1), zzI cy (rB 2) 4 (bkR tJ_5 2), zzI cy (rB 3) 4 (bkR tJ_5 3), zzI cy (rB 4) 4 (bkR tJ_5 4), zzI cy (rB 5) 4 (bkR tJ_5 5), zzI cy (rB 6) 4 (bkR tJ_5 6), zzI cy (rB 7) 4 (bkR tJ_5 7), zzG cy 3 qmO rO, zzI cy (rO 0) 5 (onR tJ_5 0), zzI cy (rO 1) 5 (onR tJ_5 1), zzI cy (rO 2) 5 (onR tJ_5 2), zzI cy (rO 3) 5 (onR tJ_5 3), zzI cy (rO 4) 5 (onR tJ_5 4), zzI cy (rO 5) 5 (onR tJ_5 5), zzI cy (rO 6) 5 (onR tJ_5 6), zzI cy (rO 7) 5 (onR tJ_5 7), zzG cy 3 qmK rK, zzI cy (rK 0) 8 (T_kn tJ_5 0), zzI cy (rK 1) 8 (T_kn tJ_5 1), zzI cy (rK 2) 8 (T_kn tJ_5 2), zzI cy (rK 3) 8 (T_kn tJ_5 3), zzI cy (rK 4) 8 (T_kn tJ_5 4), zzI cy (rK 5) 8 (T_kn tJ_5 5), zzI cy (rK 6) 8 (T_kn tJ_5 6), zzI cy (rK 7) 8 (T_kn tJ_5 7)]) hx hb hr hlocks rfl (pSb hP [[true, true, true, true, true, true, true, true, true, true, true, true, true, true, true, true, true, true, true, true, true, true, true, true, true, true, true, true]] rfl rfl) (dSb hD [[true, true, true, true, true, true, true, true, true, true, true, true, true, true, true, true, true, true, true, true, true, true, true, true, true, true, true, true]] (by decide +kernel) rfl rfl) hS ⟨tJ_5, xE_7, xL_8, rfl, hT_10, ⟨hW_11, by have h9 := hG_12; rw [hlt_15, Nat.sub_self] at h9; exact h9⟩, trivial⟩ dX6_goes_54
      · have hlt_16 : j_4 < kN := lp_lt rfl rfl (by omega) (by omega) c_14
        obtain ⟨hlt_16i, hlt_16b, hlt_16p⟩ := id hT_10
        refine lv_iload_n hx hb dX6_goes_12 rfl (lv_at hl 3 rfl) ?_
        refine lv_iconst (v := (-1)) hx hb dX6_goes_13 (by decide +kernel) ?_
        refine lv_icmp_eq (tgt := 24) hx hb dX6_goes_14 (by decide +kernel) (fun c_17 => ?_) (fun c_17 => ?_)
        · refine lv_aload_n hx hb dX6_goes_24 rfl (lv_at hl 2 rfl) ?_
          refine lv_aload_n hx hb dX6_goes_25 rfl (lv_at hl 2 rfl) ?_
          refine kRi (rV (As := []) (rest := [.ref qm]) (b := qm) ⟨hx, hb, hml, hown, hts⟩ (c_X6_valueNow l G cy qm v0 v1 v2 v3 v4 v5 v6 v7 v8 v9 tJ_5 qmB qmO qmK xE_7 iTk v18 v19 v20 v21 v22 v23 v24 v25 v26 xL_8 iWs v29 v30 v31 v32 v33 v34 rB rO rK (by omega) (by omega)) L_X6_122 (preRV (q := (RX6, TX6, 35)) hN hP (trueIx 0 [true, true, true, true, true, true, true, true, true, true, true, true, true, true, true, true, true, true, true, true, true, true, true, true, true, true, true, true]) (sel_fm rfl rfl) 0 5 rfl rfl) rfl ⟨Nat.le_of_ble_eq_true rfl, Nat.le_of_ble_eq_true rfl⟩ hl.1 (Nat.le_of_ble_eq_true rfl) dX6_goes_26 ⟨Nat.le_of_ble_eq_true rfl, Nat.le_of_ble_eq_true rfl⟩) (fun r_18 h_19 => ?_)
          subst h_19
          refine va_put (D := G) (ci := 5) (v := .int (mvo tJ_5 ((1 <<< (nI (T_np tJ_5) &&& 31)) - 1))) (ty := .int) (C := RX6) (T := TX6) (N := 35) hx hb hts iX_X6 tyX6 tyX6_ok nmX6 hown hK hP hD hS 0 rfl rfl 27 (by decide +kernel) (hts _ m_t877) (fun _ h9 => h9) rfl (by decide +kernel) rfl rfl (Nat.le_of_ble_eq_true rfl) dX6_goes_29 (fun H locs => ?_)
          clear hP hD hS
          intro hP hD hS
          have hPD := pd_as [zzO qm 5 [v0, v1, v2, v3, v4, v5, v6, v7, v8, v9, .int (nI (T_nb tJ_5)), .ref qmB, .int (nI (T_np tJ_5)), .ref qmO, .ref qmK, .int xE_7, .int iTk, .int (T_sd tJ_5), v18, v19, v20, v21, v22, v23, v24, v25, v26, .int (mvo tJ_5 ((1 <<< (nI (T_np tJ_5) &&& 31)) - 1)), .int iWs, v29, v30, v31, v32, v33, v34], _, zzI cy (rB 0) 4 (bkR tJ_5 0), zzI cy (rB 1) 4 (bkR tJ_5 1), zzI cy (rB 2) 4 (bkR tJ_5 2), zzI cy (rB 3) 4 (bkR tJ_5 3), zzI cy (rB 4) 4 (bkR tJ_5 4), zzI cy (rB 5) 4 (bkR tJ_5 5), zzI cy (rB 6) 4 (bkR tJ_5 6), zzI cy (rB 7) 4 (bkR tJ_5 7), _, zzI cy (rO 0) 5 (onR tJ_5 0), zzI cy (rO 1) 5 (onR tJ_5 1), zzI cy (rO 2) 5 (onR tJ_5 2), zzI cy (rO 3) 5 (onR tJ_5 3), zzI cy (rO 4) 5 (onR tJ_5 4), zzI cy (rO 5) 5 (onR tJ_5 5), zzI cy (rO 6) 5 (onR tJ_5 6), zzI cy (rO 7) 5 (onR tJ_5 7), _, zzI cy (rK 0) 8 (T_kn tJ_5 0), zzI cy (rK 1) 8 (T_kn tJ_5 1), zzI cy (rK 2) 8 (T_kn tJ_5 2), zzI cy (rK 3) 8 (T_kn tJ_5 3), zzI cy (rK 4) 8 (T_kn tJ_5 4), zzI cy (rK 5) 8 (T_kn tJ_5 5), zzI cy (rK 6) 8 (T_kn tJ_5 6), zzI cy (rK 7) 8 (T_kn tJ_5 7)] hP hD rfl
          clear hP hD
          obtain ⟨hP, hD⟩ := hPD
          refine lv_iload hx hb dX6_goes_32 (lv_at hl 1 rfl) ?_
          refine lv_aload_n hx hb dX6_goes_34 rfl (lv_at hl 2 rfl) ?_
          refine va_get (D := G) (ci := 5) (v := .int (mvo tJ_5 ((1 <<< (nI (T_np tJ_5) &&& 31)) - 1))) (C := RX6) (T := TX6) (N := 35) hx hb hts iX_X6 hown hK hP 0 rfl rfl 27 (by decide +kernel) (hts _ m_t877) (fun _ h9 => h9) rfl dX6_goes_35 ?_
          refine lv_iadd hx hb dX6_goes_38 ?_
          refine lv_istore (lv' := [(4, .int (xS_6 + (mvo tJ_5 ((1 <<< (nI (T_np tJ_5) &&& 31)) - 1)))), (5, .int (nI j_4)), (0, .ref qm), (1, .int iK), (2, .int (nI kM)), (3, .int (nI kN))]) hx hb dX6_goes_39 hl (by decide +kernel) rfl (fun ls => ?_)
          clear hl
          intro hl
          refine lv_aload_n hx hb dX6_goes_41 rfl (lv_at hl 2 rfl) ?_
          refine cVi (As := []) (rest := []) (b := qm) (q := (RX6, TX6, 35)) ⟨hx, hb, hml, hown, hts⟩ (x_X6_end l G cy (H).size qm v0 v1 v2 v3 v4 v5 v6 v7 v8 v9 tJ_5 qmB qmO qmK xE_7 iTk v18 v19 v20 v21 v22 v23 v24 v25 v26 (mvo tJ_5 ((1 <<< (nI (T_np tJ_5) &&& 31)) - 1)) iWs v29 v30 v31 v32 v33 v34 rB rO rK (by omega) (by omega) hlt_16i hW_11.2.2) L_X6_288 hN hP hD hS hA (trueIx 0 [true, true, true, true, true, true, true, true, true, true, true, true, true, true, true, true, true, true, true, true, true, true, true, true, true, true, true, true]) [false, false, false, false, false, false, false, false, false, false, false, false, false, false, false, false, false, false, false, false, false, false, false, false, false, false, false, false] (sel_eq rfl rfl) (by decide +kernel) rfl 0 5 rfl rfl rfl ⟨Nat.le_of_ble_eq_true rfl, Nat.le_of_ble_eq_true rfl⟩ hl.1 (Nat.le_of_ble_eq_true rfl) dX6_goes_42 ⟨Nat.le_of_ble_eq_true rfl, Nat.le_of_ble_eq_true rfl⟩ (fun r_20 u_22 H locs h_21 => ?_)
          clear hP hD hS
          intro hP hD hS
          obtain ⟨tX_23, iX_24, rfl, h_25, h_26, h_21⟩ := h_21
          have hPD := pd_as [zzO qm 5 [v0, v1, v2, v3, v4, v5, v6, v7, v8, v9, .int (nI (T_nb tX_23)), .ref qmB, .int (nI (T_np tX_23)), .ref qmO, .ref qmK, .int iX_24, .int iTk, .int (T_sd tX_23), v18, v19, v20, v21, v22, v23, v24, v25, v26, .int (mvo tJ_5 ((1 <<< (nI (T_np tJ_5) &&& 31)) - 1)), .int iWs, v29, v30, v31, v32, v33, v34], _, zzI cy (rB 0) 4 (bkR tX_23 0), zzI cy (rB 1) 4 (bkR tX_23 1), zzI cy (rB 2) 4 (bkR tX_23 2), zzI cy (rB 3) 4 (bkR tX_23 3), zzI cy (rB 4) 4 (bkR tX_23 4), zzI cy (rB 5) 4 (bkR tX_23 5), zzI cy (rB 6) 4 (bkR tX_23 6), zzI cy (rB 7) 4 (bkR tX_23 7), _, zzI cy (rO 0) 5 (onR tX_23 0), zzI cy (rO 1) 5 (onR tX_23 1), zzI cy (rO 2) 5 (onR tX_23 2), zzI cy (rO 3) 5 (onR tX_23 3), zzI cy (rO 4) 5 (onR tX_23 4), zzI cy (rO 5) 5 (onR tX_23 5), zzI cy (rO 6) 5 (onR tX_23 6), zzI cy (rO 7) 5 (onR tX_23 7), _, zzI cy (rK 0) 8 (T_kn tX_23 0), zzI cy (rK 1) 8 (T_kn tX_23 1), zzI cy (rK 2) 8 (T_kn tX_23 2), zzI cy (rK 3) 8 (T_kn tX_23 3), zzI cy (rK 4) 8 (T_kn tX_23 4), zzI cy (rK 5) 8 (T_kn tX_23 5), zzI cy (rK 6) 8 (T_kn tX_23 6), zzI cy (rK 7) 8 (T_kn tX_23 7)] hP hD rfl
          clear hP hD
          obtain ⟨hP, hD⟩ := hPD
          refine lv_pop hx hb dX6_goes_45 rfl ?_
          refine lv_iinc (v := nI (j_4 + 1)) (lv' := [(5, .int (nI (j_4 + 1))), (4, .int (xS_6 + (mvo tJ_5 ((1 <<< (nI (T_np tJ_5) &&& 31)) - 1)))), (0, .ref qm), (1, .int iK), (2, .int (nI kM)), (3, .int (nI kN))]) hx hb dX6_goes_46 hl (k := 1) rfl (nI_1 _) (by decide +kernel) rfl (fun ls => ?_)
          clear hl
          intro hl
          refine lv_goto (tgt := 6) hx hb dX6_goes_49 (by decide +kernel) ?_
          exact ih_3 (j_4 + 1) tX_23 (xS_6 + (mvo tJ_5 ((1 <<< (nI (T_np tJ_5) &&& 31)) - 1))) iX_24 (mvo tJ_5 ((1 <<< (nI (T_np tJ_5) &&& 31)) - 1)) (by omega) (by omega) (⟨h_25.1, h_25.2.1.trans hT_10.2.1, h_25.2.2.trans hT_10.2.2⟩) (by rw [h_26]; exact WI_ey hW_11) (by have q9 := hG_12; rw [show kN - j_4 = kN - (j_4 + 1) + 1 by omega] at q9; exact gg_st q9 (by rw [h_26, c_17]; rfl) (by rw [mvo_all (by omega), c_17]; rfl)) _ _ _ hP hD hS (lv_sub hl [0, 1, 2, 3, 4, 5] rfl)
        · refine lv_aload_n hx hb dX6_goes_17 rfl (lv_at hl 2 rfl) ?_
          refine lv_iload_n hx hb dX6_goes_18 rfl (lv_at hl 3 rfl) ?_
          refine lv_iload_n hx hb dX6_goes_19 rfl (lv_at hl 4 rfl) ?_
          refine cVi (As := [.int iK, .int (nI kM)]) (rest := []) (b := qm) (q := (RX6, TX6, 35)) ⟨hx, hb, hml, hown, hts⟩ (x_X6_does l G cy (H).size qm v0 v1 v2 v3 v4 v5 v6 v7 v8 v9 tJ_5 qmB qmO qmK xE_7 iTk v18 v19 v20 v21 v22 v23 v24 v25 v26 xL_8 iWs v29 v30 v31 v32 v33 v34 rB rO rK iK kM (by omega) (by omega) hW_11 hM (hKn.resolve_left c_17)) L_X6_114 hN hP hD hS hA (trueIx 0 [true, true, true, true, true, true, true, true, true, true, true, true, true, true, true, true, true, true, true, true, true, true, true, true, true, true, true, true]) [false, false, false, false, false, false, false, false, false, false, false, false, false, false, false, false, false, false, false, false, false, false, false, false, false, false, false, false] (sel_eq rfl rfl) (by decide +kernel) rfl 0 5 rfl rfl rfl ⟨Nat.le_of_ble_eq_true rfl, Nat.le_of_ble_eq_true rfl⟩ hl.1 (Nat.le_of_ble_eq_true rfl) dX6_goes_20 ⟨Nat.le_of_ble_eq_true rfl, Nat.le_of_ble_eq_true rfl⟩ (fun r_27 u_29 H locs h_28 => ?_)
          clear hP hD hS
          intro hP hD hS
          obtain ⟨tX_30, rfl, h_31, h_32, h_28⟩ := h_28
          have hPD := pd_as [zzO qm 5 [v0, v1, v2, v3, v4, v5, v6, v7, v8, v9, .int (nI (T_nb tX_30)), .ref qmB, .int (nI (T_np tX_30)), .ref qmO, .ref qmK, .int xE_7, .int iTk, .int (T_sd tX_30), v18, v19, v20, v21, v22, v23, v24, v25, v26, .int xL_8, .int iWs, v29, v30, v31, v32, v33, v34], _, zzI cy (rB 0) 4 (bkR tX_30 0), zzI cy (rB 1) 4 (bkR tX_30 1), zzI cy (rB 2) 4 (bkR tX_30 2), zzI cy (rB 3) 4 (bkR tX_30 3), zzI cy (rB 4) 4 (bkR tX_30 4), zzI cy (rB 5) 4 (bkR tX_30 5), zzI cy (rB 6) 4 (bkR tX_30 6), zzI cy (rB 7) 4 (bkR tX_30 7), _, zzI cy (rO 0) 5 (onR tX_30 0), zzI cy (rO 1) 5 (onR tX_30 1), zzI cy (rO 2) 5 (onR tX_30 2), zzI cy (rO 3) 5 (onR tX_30 3), zzI cy (rO 4) 5 (onR tX_30 4), zzI cy (rO 5) 5 (onR tX_30 5), zzI cy (rO 6) 5 (onR tX_30 6), zzI cy (rO 7) 5 (onR tX_30 7), _, zzI cy (rK 0) 8 (T_kn tX_30 0), zzI cy (rK 1) 8 (T_kn tX_30 1), zzI cy (rK 2) 8 (T_kn tX_30 2), zzI cy (rK 3) 8 (T_kn tX_30 3), zzI cy (rK 4) 8 (T_kn tX_30 4), zzI cy (rK 5) 8 (T_kn tX_30 5), zzI cy (rK 6) 8 (T_kn tX_30 6), zzI cy (rK 7) 8 (T_kn tX_30 7)] hP hD rfl
          clear hP hD
          obtain ⟨hP, hD⟩ := hPD
          have hw_33 : WI tX_30 := by rw [h_32.1]; exact WI_act hW_11
          refine lv_pop hx hb dX6_goes_23 rfl ?_
          refine lv_aload_n hx hb dX6_goes_24 rfl (lv_at hl 2 rfl) ?_
          refine lv_aload_n hx hb dX6_goes_25 rfl (lv_at hl 2 rfl) ?_
          refine kRi (rV (As := []) (rest := [.ref qm]) (b := qm) ⟨hx, hb, hml, hown, hts⟩ (c_X6_valueNow l G cy qm v0 v1 v2 v3 v4 v5 v6 v7 v8 v9 tX_30 qmB qmO qmK xE_7 iTk v18 v19 v20 v21 v22 v23 v24 v25 v26 xL_8 iWs v29 v30 v31 v32 v33 v34 rB rO rK (by omega) (by omega)) L_X6_122 (preRV (q := (RX6, TX6, 35)) hN hP (trueIx 0 [true, true, true, true, true, true, true, true, true, true, true, true, true, true, true, true, true, true, true, true, true, true, true, true, true, true, true, true]) (sel_fm rfl rfl) 0 5 rfl rfl) rfl ⟨Nat.le_of_ble_eq_true rfl, Nat.le_of_ble_eq_true rfl⟩ hl.1 (Nat.le_of_ble_eq_true rfl) dX6_goes_26 ⟨Nat.le_of_ble_eq_true rfl, Nat.le_of_ble_eq_true rfl⟩) (fun r_34 h_35 => ?_)
          subst h_35
          refine va_put (D := G) (ci := 5) (v := .int (mvo tX_30 ((1 <<< (nI (T_np tX_30) &&& 31)) - 1))) (ty := .int) (C := RX6) (T := TX6) (N := 35) hx hb hts iX_X6 tyX6 tyX6_ok nmX6 hown hK hP hD hS 0 rfl rfl 27 (by decide +kernel) (hts _ m_t877) (fun _ h9 => h9) rfl (by decide +kernel) rfl rfl (Nat.le_of_ble_eq_true rfl) dX6_goes_29 (fun H locs => ?_)
          clear hP hD hS
          intro hP hD hS
          have hPD := pd_as [zzO qm 5 [v0, v1, v2, v3, v4, v5, v6, v7, v8, v9, .int (nI (T_nb tX_30)), .ref qmB, .int (nI (T_np tX_30)), .ref qmO, .ref qmK, .int xE_7, .int iTk, .int (T_sd tX_30), v18, v19, v20, v21, v22, v23, v24, v25, v26, .int (mvo tX_30 ((1 <<< (nI (T_np tX_30) &&& 31)) - 1)), .int iWs, v29, v30, v31, v32, v33, v34], _, _, _, _, _, _, _, _, _, _, _, _, _, _, _, _, _, _, _, _, _, _, _, _, _, _, _] hP hD rfl
          clear hP hD
          obtain ⟨hP, hD⟩ := hPD
          refine lv_iload hx hb dX6_goes_32 (lv_at hl 1 rfl) ?_
          refine lv_aload_n hx hb dX6_goes_34 rfl (lv_at hl 2 rfl) ?_
          refine va_get (D := G) (ci := 5) (v := .int (mvo tX_30 ((1 <<< (nI (T_np tX_30) &&& 31)) - 1))) (C := RX6) (T := TX6) (N := 35) hx hb hts iX_X6 hown hK hP 0 rfl rfl 27 (by decide +kernel) (hts _ m_t877) (fun _ h9 => h9) rfl dX6_goes_35 ?_
          refine lv_iadd hx hb dX6_goes_38 ?_
          refine lv_istore (lv' := [(4, .int (xS_6 + (mvo tX_30 ((1 <<< (nI (T_np tX_30) &&& 31)) - 1)))), (5, .int (nI j_4)), (0, .ref qm), (1, .int iK), (2, .int (nI kM)), (3, .int (nI kN))]) hx hb dX6_goes_39 hl (by decide +kernel) rfl (fun ls => ?_)
          clear hl
          intro hl
          refine lv_aload_n hx hb dX6_goes_41 rfl (lv_at hl 2 rfl) ?_
          refine cVi (As := []) (rest := []) (b := qm) (q := (RX6, TX6, 35)) ⟨hx, hb, hml, hown, hts⟩ (x_X6_end l G cy (H).size qm v0 v1 v2 v3 v4 v5 v6 v7 v8 v9 tX_30 qmB qmO qmK xE_7 iTk v18 v19 v20 v21 v22 v23 v24 v25 v26 (mvo tX_30 ((1 <<< (nI (T_np tX_30) &&& 31)) - 1)) iWs v29 v30 v31 v32 v33 v34 rB rO rK (by omega) (by omega) h_31.1 hw_33.2.2) L_X6_288 hN hP hD hS hA (trueIx 0 [true, true, true, true, true, true, true, true, true, true, true, true, true, true, true, true, true, true, true, true, true, true, true, true, true, true, true, true]) [false, false, false, false, false, false, false, false, false, false, false, false, false, false, false, false, false, false, false, false, false, false, false, false, false, false, false, false] (sel_eq rfl rfl) (by decide +kernel) rfl 0 5 rfl rfl rfl ⟨Nat.le_of_ble_eq_true rfl, Nat.le_of_ble_eq_true rfl⟩ hl.1 (Nat.le_of_ble_eq_true rfl) dX6_goes_42 ⟨Nat.le_of_ble_eq_true rfl, Nat.le_of_ble_eq_true rfl⟩ (fun r_36 u_38 H locs h_37 => ?_)
          clear hP hD hS
          intro hP hD hS
          obtain ⟨tX_39, iX_40, rfl, h_41, h_42, h_37⟩ := h_37
          have hPD := pd_as [zzO qm 5 [v0, v1, v2, v3, v4, v5, v6, v7, v8, v9, .int (nI (T_nb tX_39)), .ref qmB, .int (nI (T_np tX_39)), .ref qmO, .ref qmK, .int iX_40, .int iTk, .int (T_sd tX_39), v18, v19, v20, v21, v22, v23, v24, v25, v26, .int (mvo tX_30 ((1 <<< (nI (T_np tX_30) &&& 31)) - 1)), .int iWs, v29, v30, v31, v32, v33, v34], _, zzI cy (rB 0) 4 (bkR tX_39 0), zzI cy (rB 1) 4 (bkR tX_39 1), zzI cy (rB 2) 4 (bkR tX_39 2), zzI cy (rB 3) 4 (bkR tX_39 3), zzI cy (rB 4) 4 (bkR tX_39 4), zzI cy (rB 5) 4 (bkR tX_39 5), zzI cy (rB 6) 4 (bkR tX_39 6), zzI cy (rB 7) 4 (bkR tX_39 7), _, zzI cy (rO 0) 5 (onR tX_39 0), zzI cy (rO 1) 5 (onR tX_39 1), zzI cy (rO 2) 5 (onR tX_39 2), zzI cy (rO 3) 5 (onR tX_39 3), zzI cy (rO 4) 5 (onR tX_39 4), zzI cy (rO 5) 5 (onR tX_39 5), zzI cy (rO 6) 5 (onR tX_39 6), zzI cy (rO 7) 5 (onR tX_39 7), _, zzI cy (rK 0) 8 (T_kn tX_39 0), zzI cy (rK 1) 8 (T_kn tX_39 1), zzI cy (rK 2) 8 (T_kn tX_39 2), zzI cy (rK 3) 8 (T_kn tX_39 3), zzI cy (rK 4) 8 (T_kn tX_39 4), zzI cy (rK 5) 8 (T_kn tX_39 5), zzI cy (rK 6) 8 (T_kn tX_39 6), zzI cy (rK 7) 8 (T_kn tX_39 7)] hP hD rfl
          clear hP hD
          obtain ⟨hP, hD⟩ := hPD
          refine lv_pop hx hb dX6_goes_45 rfl ?_
          refine lv_iinc (v := nI (j_4 + 1)) (lv' := [(5, .int (nI (j_4 + 1))), (4, .int (xS_6 + (mvo tX_30 ((1 <<< (nI (T_np tX_30) &&& 31)) - 1)))), (0, .ref qm), (1, .int iK), (2, .int (nI kM)), (3, .int (nI kN))]) hx hb dX6_goes_46 hl (k := 1) rfl (nI_1 _) (by decide +kernel) rfl (fun ls => ?_)
          clear hl
          intro hl
          refine lv_goto (tgt := 6) hx hb dX6_goes_49 (by decide +kernel) ?_
          exact ih_3 (j_4 + 1) tX_39 (xS_6 + (mvo tX_30 ((1 <<< (nI (T_np tX_30) &&& 31)) - 1))) iX_40 (mvo tX_30 ((1 <<< (nI (T_np tX_30) &&& 31)) - 1)) (by omega) (by omega) (⟨h_41.1, h_41.2.1.trans (h_31.2.1.trans hT_10.2.1), h_41.2.2.trans (h_31.2.2.trans hT_10.2.2)⟩) (by rw [h_42]; exact WI_ey hw_33) (by have q9 := hG_12; rw [show kN - j_4 = kN - (j_4 + 1) + 1 by omega] at q9; exact gg_st q9 (by rw [h_42, h_32.1]) (by rw [mvo_all (by omega), h_32.1])) _ _ _ hP hD hS (lv_sub hl [0, 1, 2, 3, 4, 5] rfl)
  exact lp_1 ((60 - 0) + 1) 0 tA 0 iEn iLv (Nat.lt_succ_self _) (Nat.zero_le _) (⟨hWI.1, rfl, rfl⟩) hWI rfl _ _ ls hP hD hS (lv_sub hl [0, 1, 2, 3, 4, 5] rfl)
theorem x_X6_goes0 (l : Launch) (G : va_G) (cy : Nat → ClassId) (sz : Nat) (qm : Nat) (v0 : Value) (v1 : Value) (v2 : Value) (v3 : Value) (v4 : Value) (v5 : Value) (v6 : Value) (v7 : Value) (v8 : Value) (v9 : Value) (tA : TA) (qmB : Nat) (qmO : Nat) (qmK : Nat) (iEn : Int32) (iTk : Int32) (v18 : Value) (v19 : Value) (v20 : Value) (v21 : Value) (v22 : Value) (v23 : Value) (v24 : Value) (v25 : Value) (v26 : Value) (iLv : Int32) (iWs : Int32) (v29 : Value) (v30 : Value) (v31 : Value) (v32 : Value) (v33 : Value) (v34 : Value) (rB : Nat → Nat) (rO : Nat → Nat) (rK : Nat → Nat) (kN : Nat)  (hB : T_nb tA ≤ 8) (hPp : T_np tA ≤ 8) (hWI : WI tA) (hN60 : kN ≤ 60) : MW l yX6_goes cX6_goes 6 (some .int) 8 0 0 G cy [zzO qm 5 [v0, v1, v2, v3, v4, v5, v6, v7, v8, v9, .int (nI (T_nb tA)), .ref qmB, .int (nI (T_np tA)), .ref qmO, .ref qmK, .int iEn, .int iTk, .int (T_sd tA), v18, v19, v20, v21, v22, v23, v24, v25, v26, .int iLv, .int iWs, v29, v30, v31, v32, v33, v34], zzG cy 3 qmB rB, zzI cy (rB 0) 4 (bkR tA 0), zzI cy (rB 1) 4 (bkR tA 1), zzI cy (rB 2) 4 (bkR tA 2), zzI cy (rB 3) 4 (bkR tA 3), zzI cy (rB 4) 4 (bkR tA 4), zzI cy (rB 5) 4 (bkR tA 5), zzI cy (rB 6) 4 (bkR tA 6), zzI cy (rB 7) 4 (bkR tA 7), zzG cy 3 qmO rO, zzI cy (rO 0) 5 (onR tA 0), zzI cy (rO 1) 5 (onR tA 1), zzI cy (rO 2) 5 (onR tA 2), zzI cy (rO 3) 5 (onR tA 3), zzI cy (rO 4) 5 (onR tA 4), zzI cy (rO 5) 5 (onR tA 5), zzI cy (rO 6) 5 (onR tA 6), zzI cy (rO 7) 5 (onR tA 7), zzG cy 3 qmK rK, zzI cy (rK 0) 8 (T_kn tA 0), zzI cy (rK 1) 8 (T_kn tA 1), zzI cy (rK 2) 8 (T_kn tA 2), zzI cy (rK 3) 8 (T_kn tA 3), zzI cy (rK 4) 8 (T_kn tA 4), zzI cy (rK 5) 8 (T_kn tA 5), zzI cy (rK 6) 8 (T_kn tA 6), zzI cy (rK 7) 8 (T_kn tA 7)] sz [.ref qm, .int (-1), .int 0, .int (nI kN)] (Wi G (fun r u => ∃ (tX : TA) (iX : Int32) (iY : Int32), u = [zzO qm 5 [v0, v1, v2, v3, v4, v5, v6, v7, v8, v9, .int (nI (T_nb tX)), .ref qmB, .int (nI (T_np tX)), .ref qmO, .ref qmK, .int iX, .int iTk, .int (T_sd tX), v18, v19, v20, v21, v22, v23, v24, v25, v26, .int iY, .int iWs, v29, v30, v31, v32, v33, v34], zzG cy 3 qmB rB, zzI cy (rB 0) 4 (bkR tX 0), zzI cy (rB 1) 4 (bkR tX 1), zzI cy (rB 2) 4 (bkR tX 2), zzI cy (rB 3) 4 (bkR tX 3), zzI cy (rB 4) 4 (bkR tX 4), zzI cy (rB 5) 4 (bkR tX 5), zzI cy (rB 6) 4 (bkR tX 6), zzI cy (rB 7) 4 (bkR tX 7), zzG cy 3 qmO rO, zzI cy (rO 0) 5 (onR tX 0), zzI cy (rO 1) 5 (onR tX 1), zzI cy (rO 2) 5 (onR tX 2), zzI cy (rO 3) 5 (onR tX 3), zzI cy (rO 4) 5 (onR tX 4), zzI cy (rO 5) 5 (onR tX 5), zzI cy (rO 6) 5 (onR tX 6), zzI cy (rO 7) 5 (onR tX 7), zzG cy 3 qmK rK, zzI cy (rK 0) 8 (T_kn tX 0), zzI cy (rK 1) 8 (T_kn tX 1), zzI cy (rK 2) 8 (T_kn tX 2), zzI cy (rK 3) 8 (T_kn tX 3), zzI cy (rK 4) 8 (T_kn tX 4), zzI cy (rK 5) 8 (T_kn tX 5), zzI cy (rK 6) 8 (T_kn tX 6), zzI cy (rK 7) 8 (T_kn tX 7)] ∧ (TI tX ∧ T_nb tX = T_nb tA ∧ T_np tX = T_np tA) ∧ (WI tX ∧ (tX, iY, r) = gG (-1) 0 kN tA iLv 0) ∧ (True))) := x_X6_goes l G cy sz qm v0 v1 v2 v3 v4 v5 v6 v7 v8 v9 tA qmB qmO qmK iEn iTk v18 v19 v20 v21 v22 v23 v24 v25 v26 iLv iWs v29 v30 v31 v32 v33 v34 rB rO rK (-1) 0 kN hB hPp hWI (by omega) (Or.inl rfl) hN60
theorem x_X6_goes01 (l : Launch) (G : va_G) (cy : Nat → ClassId) (sz : Nat) (qm : Nat) (v0 : Value) (v1 : Value) (v2 : Value) (v3 : Value) (v4 : Value) (v5 : Value) (v6 : Value) (v7 : Value) (v8 : Value) (v9 : Value) (tA : TA) (qmB : Nat) (qmO : Nat) (qmK : Nat) (iEn : Int32) (iTk : Int32) (v18 : Value) (v19 : Value) (v20 : Value) (v21 : Value) (v22 : Value) (v23 : Value) (v24 : Value) (v25 : Value) (v26 : Value) (iLv : Int32) (iWs : Int32) (v29 : Value) (v30 : Value) (v31 : Value) (v32 : Value) (v33 : Value) (v34 : Value) (rB : Nat → Nat) (rO : Nat → Nat) (rK : Nat → Nat)  (hB : T_nb tA ≤ 8) (hPp : T_np tA ≤ 8) (hWI : WI tA) : MW l yX6_goes cX6_goes 6 (some .int) 8 0 0 G cy [zzO qm 5 [v0, v1, v2, v3, v4, v5, v6, v7, v8, v9, .int (nI (T_nb tA)), .ref qmB, .int (nI (T_np tA)), .ref qmO, .ref qmK, .int iEn, .int iTk, .int (T_sd tA), v18, v19, v20, v21, v22, v23, v24, v25, v26, .int iLv, .int iWs, v29, v30, v31, v32, v33, v34], zzG cy 3 qmB rB, zzI cy (rB 0) 4 (bkR tA 0), zzI cy (rB 1) 4 (bkR tA 1), zzI cy (rB 2) 4 (bkR tA 2), zzI cy (rB 3) 4 (bkR tA 3), zzI cy (rB 4) 4 (bkR tA 4), zzI cy (rB 5) 4 (bkR tA 5), zzI cy (rB 6) 4 (bkR tA 6), zzI cy (rB 7) 4 (bkR tA 7), zzG cy 3 qmO rO, zzI cy (rO 0) 5 (onR tA 0), zzI cy (rO 1) 5 (onR tA 1), zzI cy (rO 2) 5 (onR tA 2), zzI cy (rO 3) 5 (onR tA 3), zzI cy (rO 4) 5 (onR tA 4), zzI cy (rO 5) 5 (onR tA 5), zzI cy (rO 6) 5 (onR tA 6), zzI cy (rO 7) 5 (onR tA 7), zzG cy 3 qmK rK, zzI cy (rK 0) 8 (T_kn tA 0), zzI cy (rK 1) 8 (T_kn tA 1), zzI cy (rK 2) 8 (T_kn tA 2), zzI cy (rK 3) 8 (T_kn tA 3), zzI cy (rK 4) 8 (T_kn tA 4), zzI cy (rK 5) 8 (T_kn tA 5), zzI cy (rK 6) 8 (T_kn tA 6), zzI cy (rK 7) 8 (T_kn tA 7)] sz [.ref qm, .int (-1), .int 0, .int 1] (Wi G (fun r u => ∃ (tX : TA) (iX : Int32) (iY : Int32), u = [zzO qm 5 [v0, v1, v2, v3, v4, v5, v6, v7, v8, v9, .int (nI (T_nb tX)), .ref qmB, .int (nI (T_np tX)), .ref qmO, .ref qmK, .int iX, .int iTk, .int (T_sd tX), v18, v19, v20, v21, v22, v23, v24, v25, v26, .int iY, .int iWs, v29, v30, v31, v32, v33, v34], zzG cy 3 qmB rB, zzI cy (rB 0) 4 (bkR tX 0), zzI cy (rB 1) 4 (bkR tX 1), zzI cy (rB 2) 4 (bkR tX 2), zzI cy (rB 3) 4 (bkR tX 3), zzI cy (rB 4) 4 (bkR tX 4), zzI cy (rB 5) 4 (bkR tX 5), zzI cy (rB 6) 4 (bkR tX 6), zzI cy (rB 7) 4 (bkR tX 7), zzG cy 3 qmO rO, zzI cy (rO 0) 5 (onR tX 0), zzI cy (rO 1) 5 (onR tX 1), zzI cy (rO 2) 5 (onR tX 2), zzI cy (rO 3) 5 (onR tX 3), zzI cy (rO 4) 5 (onR tX 4), zzI cy (rO 5) 5 (onR tX 5), zzI cy (rO 6) 5 (onR tX 6), zzI cy (rO 7) 5 (onR tX 7), zzG cy 3 qmK rK, zzI cy (rK 0) 8 (T_kn tX 0), zzI cy (rK 1) 8 (T_kn tX 1), zzI cy (rK 2) 8 (T_kn tX 2), zzI cy (rK 3) 8 (T_kn tX 3), zzI cy (rK 4) 8 (T_kn tX 4), zzI cy (rK 5) 8 (T_kn tX 5), zzI cy (rK 6) 8 (T_kn tX 6), zzI cy (rK 7) 8 (T_kn tX 7)] ∧ (TI tX ∧ T_nb tX = T_nb tA ∧ T_np tX = T_np tA) ∧ (WI tX ∧ (tX, iY, r) = gG (-1) 0 1 tA iLv 0) ∧ (True))) := x_X6_goes l G cy sz qm v0 v1 v2 v3 v4 v5 v6 v7 v8 v9 tA qmB qmO qmK iEn iTk v18 v19 v20 v21 v22 v23 v24 v25 v26 iLv iWs v29 v30 v31 v32 v33 v34 rB rO rK (-1) 0 1 hB hPp hWI (by omega) (Or.inl rfl) (by omega)
set_option maxHeartbeats 4000000 in
set_option maxRecDepth 100000 in
theorem x_X6_findWho (l : Launch) (G : va_G) (cy : Nat → ClassId) (sz : Nat) (qm : Nat) (v0 : Value) (v1 : Value) (v2 : Value) (v3 : Value) (v4 : Value) (v5 : Value) (v6 : Value) (v7 : Value) (v8 : Value) (v9 : Value) (tA : TA) (qmB : Nat) (qmO : Nat) (qmK : Nat) (iEn : Int32) (iTk : Int32) (v18 : Value) (uU : UM) (v20 : Value) (v21 : Value) (v22 : Value) (v23 : Value) (v24 : Value) (v25 : Value) (v26 : Value) (iLv : Int32) (iWs : Int32) (v29 : Value) (v30 : Value) (v31 : Value) (v32 : Value) (v33 : Value) (v34 : Value) (rB : Nat → Nat) (rO : Nat → Nat) (rK : Nat → Nat) (kB : Nat) (kN : Nat)  (hJ : kB < 8) (hN60 : kN ≤ 60) (hB : T_nb tA ≤ 8) (hPp : T_np tA ≤ 8) (hWI : WI tA) (hBn : kB < T_nb tA) : MW l yX6_findWho cX6_findWho 6 (some .int) 10 50 888 G cy ([zzO qm 5 [v0, v1, v2, v3, v4, v5, v6, v7, v8, v9, .int (nI (T_nb tA)), .ref qmB, .int (nI (T_np tA)), .ref qmO, .ref qmK, .int iEn, .int iTk, .int (T_sd tA), v18, ov uU, v20, v21, v22, v23, v24, v25, v26, .int iLv, .int iWs, v29, v30, v31, v32, v33, v34], zzG cy 3 qmB rB, zzI cy (rB 0) 4 (bkR tA 0), zzI cy (rB 1) 4 (bkR tA 1), zzI cy (rB 2) 4 (bkR tA 2), zzI cy (rB 3) 4 (bkR tA 3), zzI cy (rB 4) 4 (bkR tA 4), zzI cy (rB 5) 4 (bkR tA 5), zzI cy (rB 6) 4 (bkR tA 6), zzI cy (rB 7) 4 (bkR tA 7), zzG cy 3 qmO rO, zzI cy (rO 0) 5 (onR tA 0), zzI cy (rO 1) 5 (onR tA 1), zzI cy (rO 2) 5 (onR tA 2), zzI cy (rO 3) 5 (onR tA 3), zzI cy (rO 4) 5 (onR tA 4), zzI cy (rO 5) 5 (onR tA 5), zzI cy (rO 6) 5 (onR tA 6), zzI cy (rO 7) 5 (onR tA 7), zzG cy 3 qmK rK, zzI cy (rK 0) 8 (T_kn tA 0), zzI cy (rK 1) 8 (T_kn tA 1), zzI cy (rK 2) 8 (T_kn tA 2), zzI cy (rK 3) 8 (T_kn tA 3), zzI cy (rK 4) 8 (T_kn tA 4), zzI cy (rK 5) 8 (T_kn tA 5), zzI cy (rK 6) 8 (T_kn tA 6), zzI cy (rK 7) 8 (T_kn tA 7)] ++ oM cy uU) sz [.ref qm, .int (nI kB), .int (nI kN)] (Wi G (fun r u => ∃ (uN : UM) (iNw : Int32), u = ([zzO qm 5 [v0, v1, v2, v3, v4, v5, v6, v7, v8, v9, .int (nI (T_nb tA)), .ref qmB, .int (nI (T_np tA)), .ref qmO, .ref qmK, .int iEn, .int iTk, .int (T_sd tA), v18, ov uN, v20, v21, v22, v23, v24, v25, v26, .int iLv, .int iNw, v29, v30, v31, v32, v33, v34], zzG cy 3 qmB rB, zzI cy (rB 0) 4 (bkR tA 0), zzI cy (rB 1) 4 (bkR tA 1), zzI cy (rB 2) 4 (bkR tA 2), zzI cy (rB 3) 4 (bkR tA 3), zzI cy (rB 4) 4 (bkR tA 4), zzI cy (rB 5) 4 (bkR tA 5), zzI cy (rB 6) 4 (bkR tA 6), zzI cy (rB 7) 4 (bkR tA 7), zzG cy 3 qmO rO, zzI cy (rO 0) 5 (onR tA 0), zzI cy (rO 1) 5 (onR tA 1), zzI cy (rO 2) 5 (onR tA 2), zzI cy (rO 3) 5 (onR tA 3), zzI cy (rO 4) 5 (onR tA 4), zzI cy (rO 5) 5 (onR tA 5), zzI cy (rO 6) 5 (onR tA 6), zzI cy (rO 7) 5 (onR tA 7), zzG cy 3 qmK rK, zzI cy (rK 0) 8 (T_kn tA 0), zzI cy (rK 1) 8 (T_kn tA 1), zzI cy (rK 2) 8 (T_kn tA 2), zzI cy (rK 3) 8 (T_kn tA 3), zzI cy (rK 4) 8 (T_kn tA 4), zzI cy (rK 5) 8 (T_kn tA 5), zzI cy (rK 6) 8 (T_kn tA 6), zzI cy (rK 7) 8 (T_kn tA 7)] ++ oM cy uN) ∧ ((r, iNw) = zbw tA kB kN 0) ∧ (True))) := by
  refine enW RX6 (by decide +kernel) rfl (Nat.le_of_ble_eq_true rfl) (fun p e s m below meth c ls A hx hb hml hown hts hr hlocks hP hN hl hin hD hA hS => ?_)
  have hin : meth.name = _ := hin
  have hK := hN.1
  replace hl : lv_has ls 6 [(0, .ref qm), (1, .int (nI kB)), (2, .int (nI kN))] := hl
  refine lv_iconst (v := (-1)) hx hb dX6_findWho_0 (by decide +kernel) ?_
  refine lv_istore_n (lv' := [(3, .int (-1)), (0, .ref qm), (1, .int (nI kB)), (2, .int (nI kN))]) hx hb dX6_findWho_1 rfl hl (by decide +kernel) rfl (fun ls => ?_)
  clear hl
  intro hl
  refine lv_aload_n hx hb dX6_findWho_2 rfl (lv_at hl 1 rfl) ?_
  refine lv_iconst (v := 0) hx hb dX6_findWho_3 (by decide +kernel) ?_
  refine va_put (D := G) (ci := 5) (v := .int 0) (ty := .int) (C := RX6) (T := TX6) (N := 35) hx hb hts iX_X6 tyX6 tyX6_ok nmX6 hown hK hP hD hS 0 rfl rfl 28 (by decide +kernel) (hts _ m_t878) (fun _ h9 => h9) rfl (by decide +kernel) rfl rfl (Nat.le_of_ble_eq_true rfl) dX6_findWho_4 (fun H locs => ?_)
  clear hP hD hS
  intro hP hD hS
  have hPD := pd_as (([zzO qm 5 [v0, v1, v2, v3, v4, v5, v6, v7, v8, v9, .int (nI (T_nb tA)), .ref qmB, .int (nI (T_np tA)), .ref qmO, .ref qmK, .int iEn, .int iTk, .int (T_sd tA), v18, ov uU, v20, v21, v22, v23, v24, v25, v26, .int iLv, .int 0, v29, v30, v31, v32, v33, v34], _, _, _, _, _, _, _, _, _, _, _, _, _, _, _, _, _, _, _, _, _, _, _, _, _, _, _] : va_W) ++ oM cy uU) hP hD rfl
  clear hP hD
  obtain ⟨hP, hD⟩ := hPD
  refine lv_iconst (v := 0) hx hb dX6_findWho_7 (by decide +kernel) ?_
  refine lv_istore (lv' := [(4, .int 0), (3, .int (-1)), (0, .ref qm), (1, .int (nI kB)), (2, .int (nI kN))]) hx hb dX6_findWho_8 hl (by decide +kernel) rfl (fun ls => ?_)
  clear hl
  intro hl
  have lp_1 : ∀ (n_2 : Nat) (j_4 : Nat) (x3_5 : Int32) (xW_6 : Int32) (uJ_7 : UM) (xc_8 : Nat) (yc_9 : Nat), 8 - j_4 < n_2 → j_4 ≤ T_np tA → (x3_5, xW_6) = bwF tA kB kN 0 j_4 → ((xc_8 = 0 ∧ yc_9 = 0) ∨ (xc_8 = 50 ∧ yc_9 = 888 ∧ isS uJ_7 = true)) → ∀ (H : Heap) (locs : List Loc) (ls : Array Slot), va_P G CL ([zzO qm 5 [v0, v1, v2, v3, v4, v5, v6, v7, v8, v9, .int (nI (T_nb tA)), .ref qmB, .int (nI (T_np tA)), .ref qmO, .ref qmK, .int iEn, .int iTk, .int (T_sd tA), v18, ov uJ_7, v20, v21, v22, v23, v24, v25, v26, .int iLv, .int xW_6, v29, v30, v31, v32, v33, v34], zzG cy 3 qmB rB, zzI cy (rB 0) 4 (bkR tA 0), zzI cy (rB 1) 4 (bkR tA 1), zzI cy (rB 2) 4 (bkR tA 2), zzI cy (rB 3) 4 (bkR tA 3), zzI cy (rB 4) 4 (bkR tA 4), zzI cy (rB 5) 4 (bkR tA 5), zzI cy (rB 6) 4 (bkR tA 6), zzI cy (rB 7) 4 (bkR tA 7), zzG cy 3 qmO rO, zzI cy (rO 0) 5 (onR tA 0), zzI cy (rO 1) 5 (onR tA 1), zzI cy (rO 2) 5 (onR tA 2), zzI cy (rO 3) 5 (onR tA 3), zzI cy (rO 4) 5 (onR tA 4), zzI cy (rO 5) 5 (onR tA 5), zzI cy (rO 6) 5 (onR tA 6), zzI cy (rO 7) 5 (onR tA 7), zzG cy 3 qmK rK, zzI cy (rK 0) 8 (T_kn tA 0), zzI cy (rK 1) 8 (T_kn tA 1), zzI cy (rK 2) 8 (T_kn tA 2), zzI cy (rK 3) 8 (T_kn tA 3), zzI cy (rK 4) 8 (T_kn tA 4), zzI cy (rK 5) 8 (T_kn tA 5), zzI cy (rK 6) 8 (T_kn tA 6), zzI cy (rK 7) 8 (T_kn tA 7)] ++ oM cy uJ_7) H → va_D A ([zzO qm 5 [v0, v1, v2, v3, v4, v5, v6, v7, v8, v9, .int (nI (T_nb tA)), .ref qmB, .int (nI (T_np tA)), .ref qmO, .ref qmK, .int iEn, .int iTk, .int (T_sd tA), v18, ov uJ_7, v20, v21, v22, v23, v24, v25, v26, .int iLv, .int xW_6, v29, v30, v31, v32, v33, v34], zzG cy 3 qmB rB, zzI cy (rB 0) 4 (bkR tA 0), zzI cy (rB 1) 4 (bkR tA 1), zzI cy (rB 2) 4 (bkR tA 2), zzI cy (rB 3) 4 (bkR tA 3), zzI cy (rB 4) 4 (bkR tA 4), zzI cy (rB 5) 4 (bkR tA 5), zzI cy (rB 6) 4 (bkR tA 6), zzI cy (rB 7) 4 (bkR tA 7), zzG cy 3 qmO rO, zzI cy (rO 0) 5 (onR tA 0), zzI cy (rO 1) 5 (onR tA 1), zzI cy (rO 2) 5 (onR tA 2), zzI cy (rO 3) 5 (onR tA 3), zzI cy (rO 4) 5 (onR tA 4), zzI cy (rO 5) 5 (onR tA 5), zzI cy (rO 6) 5 (onR tA 6), zzI cy (rO 7) 5 (onR tA 7), zzG cy 3 qmK rK, zzI cy (rK 0) 8 (T_kn tA 0), zzI cy (rK 1) 8 (T_kn tA 1), zzI cy (rK 2) 8 (T_kn tA 2), zzI cy (rK 3) 8 (T_kn tA 3), zzI cy (rK 4) 8 (T_kn tA 4), zzI cy (rK 5) 8 (T_kn tA 5), zzI cy (rK 6) 8 (T_kn tA 6), zzI cy (rK 7) 8 (T_kn tA 7)] ++ oM cy uJ_7) → va_S A s.heap H locs → lv_has ls 6 [(4, .int (nI j_4)), (3, .int x3_5), (0, .ref qm), (1, .int (nI kB)), (2, .int (nI kN))] → W p l e (Rm 10 50 888) s m (List.toArray (α := Value) [.ref qm, .int (nI kB), .int (nI kN)]) below meth c H locs xc_8 yc_9 (MQ below ((Wi G (fun r u => ∃ (uN : UM) (iNw : Int32), u = ([zzO qm 5 [v0, v1, v2, v3, v4, v5, v6, v7, v8, v9, .int (nI (T_nb tA)), .ref qmB, .int (nI (T_np tA)), .ref qmO, .ref qmK, .int iEn, .int iTk, .int (T_sd tA), v18, ov uN, v20, v21, v22, v23, v24, v25, v26, .int iLv, .int iNw, v29, v30, v31, v32, v33, v34], zzG cy 3 qmB rB, zzI cy (rB 0) 4 (bkR tA 0), zzI cy (rB 1) 4 (bkR tA 1), zzI cy (rB 2) 4 (bkR tA 2), zzI cy (rB 3) 4 (bkR tA 3), zzI cy (rB 4) 4 (bkR tA 4), zzI cy (rB 5) 4 (bkR tA 5), zzI cy (rB 6) 4 (bkR tA 6), zzI cy (rB 7) 4 (bkR tA 7), zzG cy 3 qmO rO, zzI cy (rO 0) 5 (onR tA 0), zzI cy (rO 1) 5 (onR tA 1), zzI cy (rO 2) 5 (onR tA 2), zzI cy (rO 3) 5 (onR tA 3), zzI cy (rO 4) 5 (onR tA 4), zzI cy (rO 5) 5 (onR tA 5), zzI cy (rO 6) 5 (onR tA 6), zzI cy (rO 7) 5 (onR tA 7), zzG cy 3 qmK rK, zzI cy (rK 0) 8 (T_kn tA 0), zzI cy (rK 1) 8 (T_kn tA 1), zzI cy (rK 2) 8 (T_kn tA 2), zzI cy (rK 3) 8 (T_kn tA 3), zzI cy (rK 4) 8 (T_kn tA 4), zzI cy (rK 5) 8 (T_kn tA 5), zzI cy (rK 6) 8 (T_kn tA 6), zzI cy (rK 7) 8 (T_kn tA 7)] ++ oM cy uN) ∧ ((r, iNw) = zbw tA kB kN 0) ∧ (True))) A) (List.toArray (α := Value) [.ref qm, .int (nI kB), .int (nI kN)]) s 50 888 A) (F0 m 10 ls []) := by
    intro n_2
    induction n_2 with
    | zero => intro j_4 x3_5 xW_6 uJ_7 xc_8 yc_9 hm9; exact absurd hm9 (Nat.not_lt_zero _)
    | succ n_2 ih_3 =>
      intro j_4 x3_5 xW_6 uJ_7 xc_8 yc_9 hm_13 hj_10 hE_11 hC_12 H locs ls hP hD hS hl
      refine lv_iload hx hb dX6_findWho_10 (lv_at hl 0 rfl) ?_
      refine lv_aload_n hx hb dX6_findWho_12 rfl (lv_at hl 2 rfl) ?_
      refine va_get (D := G) (ci := 5) (v := .int (nI (T_np tA))) (C := RX6) (T := TX6) (N := 35) hx hb hts iX_X6 hown hK hP 0 rfl rfl 12 (by decide +kernel) (hts _ m_t862) (fun _ h9 => h9) rfl dX6_findWho_13 ?_
      refine lv_icmp_ge (tgt := 79) hx hb dX6_findWho_16 (by decide +kernel) (fun c_14 => ?_) (fun c_14 => ?_)
      · have hlt_15 : j_4 = T_np tA := Nat.le_antisymm (by omega) (lp_ge rfl rfl (by omega) (by omega) c_14)
        refine lv_iload_n hx hb dX6_findWho_79 rfl (lv_at hl 1 rfl) ?_
        refine W.widen (k := 50) (n := 888) (by omega) (by omega) ?_
        exact endW (u := ([zzO qm 5 [v0, v1, v2, v3, v4, v5, v6, v7, v8, v9, .int (nI (T_nb tA)), .ref qmB, .int (nI (T_np tA)), .ref qmO, .ref qmK, .int iEn, .int iTk, .int (T_sd tA), v18, ov uJ_7, v20, v21, v22, v23, v24, v25, v26, .int iLv, .int xW_6, v29, v30, v31, v32, v33, v34], zzG cy 3 qmB rB, zzI cy (rB 0) 4 (bkR tA 0), zzI cy (rB 1) 4 (bkR tA 1), zzI cy (rB 2) 4 (bkR tA 2), zzI cy (rB 3) 4 (bkR tA 3), zzI cy (rB 4) 4 (bkR tA 4), zzI cy (rB 5) 4 (bkR tA 5), zzI cy (rB 6) 4 (bkR tA 6), zzI cy (rB 7) 4 (bkR tA 7), zzG cy 3 qmO rO, zzI cy (rO 0) 5 (onR tA 0), zzI cy (rO 1) 5 (onR tA 1), zzI cy (rO 2) 5 (onR tA 2), zzI cy (rO 3) 5 (onR tA 3), zzI cy (rO 4) 5 (onR tA 4), zzI cy (rO 5) 5 (onR tA 5), zzI cy (rO 6) 5 (onR tA 6), zzI cy (rO 7) 5 (onR tA 7), zzG cy 3 qmK rK, zzI cy (rK 0) 8 (T_kn tA 0), zzI cy (rK 1) 8 (T_kn tA 1), zzI cy (rK 2) 8 (T_kn tA 2), zzI cy (rK 3) 8 (T_kn tA 3), zzI cy (rK 4) 8 (T_kn tA 4), zzI cy (rK 5) 8 (T_kn tA 5), zzI cy (rK 6) 8 (T_kn tA 6), zzI cy (rK 7) 8 (T_kn tA 7)] ++ oM cy uJ_7)) hx hb hr hlocks rfl (pPt hP [[true, true, true, true, true, true, true, true, true, true, true, true, true, true, true, true, true, true, true, true, true, true, true, true, true, true, true, true]] rfl rfl) (dPt hD [[true, true, true, true, true, true, true, true, true, true, true, true, true, true, true, true, true, true, true, true, true, true, true, true, true, true, true, true]] (by decide +kernel) rfl rfl) hS ⟨(uJ_7), xW_6, rfl, (by have h9 := hE_11; rw [hlt_15] at h9; exact h9), trivial⟩ dX6_findWho_80
      · have hlt_16 : j_4 < T_np tA := lp_lt rfl rfl (by omega) (by omega) c_14
        refine lv_aload_n hx hb dX6_findWho_19 rfl (lv_at hl 2 rfl) ?_
        refine lv_iload hx hb dX6_findWho_20 (lv_at hl 0 rfl) ?_
        refine kRi (rV (As := [.int (nI j_4)]) (rest := []) (b := qm) ⟨hx, hb, hml, hown, hts⟩ (c_X6_isThere l G cy qm v0 v1 v2 v3 v4 v5 v6 v7 v8 v9 tA qmB qmO qmK iEn iTk v18 (ov uJ_7) v20 v21 v22 v23 v24 v25 v26 iLv xW_6 v29 v30 v31 v32 v33 v34 rO j_4 (by omega)) L_X6_81 (preRV (q := (RX6, TX6, 35)) hN hP (trueIx 0 [true, false, false, false, false, false, false, false, false, false, true, true, true, true, true, true, true, true, true]) (sel_fm rfl rfl) 0 5 rfl rfl) rfl ⟨Nat.le_of_ble_eq_true rfl, Nat.le_of_ble_eq_true rfl⟩ hl.1 (Nat.le_of_ble_eq_true rfl) dX6_findWho_22 ⟨by show xc_8 + 0 ≤ 50; omega, by show yc_9 + 0 ≤ 888; omega⟩) (fun r_17 h_18 => ?_)
        rcases h_18 with ⟨rfl, h_19⟩ | ⟨rfl, h_19⟩
        · refine lv_if_eq (tgt := 73) hx hb dX6_findWho_25 (by decide +kernel) (fun h9 => absurd h9 (by decide +kernel)) (fun _ => ?_)
          refine lv_aload_n hx hb dX6_findWho_28 rfl (lv_at hl 2 rfl) ?_
          rcases hC_12 with ⟨e_21, e_22⟩ | ⟨e_21, e_22, e_23⟩
          · subst e_21
            subst e_22
            refine cVqP (As := []) (rest := []) (b := qm) (q := (RX6, TX6, 35)) ⟨hx, hb, hml, hown, hts⟩ (c_X6_fresh l G cy (H).size qm v0 v1 v2 v3 v4 v5 v6 v7 v8 v9 tA qmB qmO qmK iEn iTk v18 uJ_7 v20 v21 v22 v23 v24 v25 v26 iLv xW_6 v29 v30 v31 v32 v33 v34 rB rO rK) L_X6_110 hN hP hD hS hA (trueIx 0 [true, true, true, true, true, true, true, true, true, true, true, true, true, true, true, true, true, true, true, true, true, true, true, true, true, true, true, true]) [false, false, false, false, false, false, false, false, false, false, false, false, false, false, false, false, false, false, false, false, false, false, false, false, false, false, false, false] (sel_eq rfl rfl) (by decide +kernel) rfl 0 5 rfl rfl rfl ⟨Nat.le_of_ble_eq_true rfl, Nat.le_of_ble_eq_true rfl⟩ hl.1 (Nat.le_of_ble_eq_true rfl) dX6_findWho_29 ⟨Nat.le_of_ble_eq_true rfl, Nat.le_of_ble_eq_true rfl⟩ (fun r_24 u_26 H locs h_25 => ?_)
            clear hP hD hS
            intro hP hD hS
            obtain ⟨qU_27, qUB_28, qUO_29, qUK_30, rUB_31, rUO_32, rUK_33, xU_34, iLvU_35, iWsU_36, rfl, h_25⟩ := h_25
            have hPD := pd_as [zzO qm 5 [v0, v1, v2, v3, v4, v5, v6, v7, v8, v9, .int (nI (T_nb tA)), .ref qmB, .int (nI (T_np tA)), .ref qmO, .ref qmK, .int iEn, .int iTk, .int (T_sd tA), v18, .ref qU_27, v20, v21, v22, v23, v24, v25, v26, .int iLv, .int xW_6, v29, v30, v31, v32, v33, v34], _, _, _, _, _, _, _, _, _, _, _, _, _, _, _, _, _, _, _, _, _, _, _, _, _, _, _, zzO qU_27 5 [xU_34 0, xU_34 1, xU_34 2, xU_34 3, xU_34 4, xU_34 5, xU_34 6, xU_34 7, xU_34 8, xU_34 9, .int (nI (T_nb tA)), .ref qUB_28, .int (nI (T_np tA)), .ref qUO_29, .ref qUK_30, .int iEn, .int iTk, .int (T_sd tA), xU_34 18, xU_34 19, xU_34 20, xU_34 21, xU_34 22, xU_34 23, xU_34 24, xU_34 25, xU_34 26, .int iLvU_35, .int iWsU_36, xU_34 29, xU_34 30, xU_34 31, xU_34 32, xU_34 33, xU_34 34], zzG cy 3 qUB_28 rUB_31, zzI cy (rUB_31 0) 4 (bkR tA 0), zzI cy (rUB_31 1) 4 (bkR tA 1), zzI cy (rUB_31 2) 4 (bkR tA 2), zzI cy (rUB_31 3) 4 (bkR tA 3), zzI cy (rUB_31 4) 4 (bkR tA 4), zzI cy (rUB_31 5) 4 (bkR tA 5), zzI cy (rUB_31 6) 4 (bkR tA 6), zzI cy (rUB_31 7) 4 (bkR tA 7), zzG cy 3 qUO_29 rUO_32, zzI cy (rUO_32 0) 5 (onR tA 0), zzI cy (rUO_32 1) 5 (onR tA 1), zzI cy (rUO_32 2) 5 (onR tA 2), zzI cy (rUO_32 3) 5 (onR tA 3), zzI cy (rUO_32 4) 5 (onR tA 4), zzI cy (rUO_32 5) 5 (onR tA 5), zzI cy (rUO_32 6) 5 (onR tA 6), zzI cy (rUO_32 7) 5 (onR tA 7), zzG cy 3 qUK_30 rUK_33, zzI cy (rUK_33 0) 8 (T_kn tA 0), zzI cy (rUK_33 1) 8 (T_kn tA 1), zzI cy (rUK_33 2) 8 (T_kn tA 2), zzI cy (rUK_33 3) 8 (T_kn tA 3), zzI cy (rUK_33 4) 8 (T_kn tA 4), zzI cy (rUK_33 5) 8 (T_kn tA 5), zzI cy (rUK_33 6) 8 (T_kn tA 6), zzI cy (rUK_33 7) 8 (T_kn tA 7)] hP hD rfl
            clear hP hD
            obtain ⟨hP, hD⟩ := hPD
            refine W.widen (k := 50) (n := 888) (Nat.le_of_ble_eq_true rfl) (Nat.le_of_ble_eq_true rfl) ?_
            subst h_25
            refine lv_iload hx hb dX6_findWho_32 (lv_at hl 0 rfl) ?_
            refine lv_iload_n hx hb dX6_findWho_34 rfl (lv_at hl 3 rfl) ?_
            refine cVv (As := [.int (nI j_4), .int (nI kB)]) (rest := []) (b := r_24) (q := (RX6, TX6, 35)) ⟨hx, hb, hml, hown, hts⟩ (c_X6_reads l G cy (H).size r_24 (xU_34 0) (xU_34 1) (xU_34 2) (xU_34 3) (xU_34 4) (xU_34 5) (xU_34 6) (xU_34 7) (xU_34 8) (xU_34 9) tA qUB_28 qUO_29 qUK_30 iEn iTk (xU_34 18) (xU_34 19) (xU_34 20) (xU_34 21) (xU_34 22) (xU_34 23) (xU_34 24) (xU_34 25) (xU_34 26) iLvU_35 iWsU_36 (xU_34 29) (xU_34 30) (xU_34 31) (xU_34 32) (xU_34 33) (xU_34 34) rUB_31 rUO_32 rUK_33 j_4 kB (by omega) hJ) L_X6_257 hN hP hD hS hA (trueIx 0 [false, false, false, false, false, false, false, false, false, false, false, false, false, false, false, false, false, false, false, false, false, false, false, false, false, false, false, false, true, true, true, true, true, true, true, true, true, true, true, true, true, true, true, true, true, true, true, true, true, true, true, true, true, true, true, true]) [true, true, true, true, true, true, true, true, true, true, true, true, true, true, true, true, true, true, true, true, true, true, true, true, true, true, true, true, false, false, false, false, false, false, false, false, false, false, false, false, false, false, false, false, false, false, false, false, false, false, false, false, false, false, false, false] (sel_eq rfl rfl) (by decide +kernel) rfl 28 5 rfl rfl rfl ⟨Nat.le_of_ble_eq_true rfl, Nat.le_of_ble_eq_true rfl⟩ hl.1 (Nat.le_of_ble_eq_true rfl) dX6_findWho_35 ⟨Nat.le_of_ble_eq_true rfl, Nat.le_of_ble_eq_true rfl⟩ (fun u_39 H locs h_38 => ?_)
            clear hP hD hS
            intro hP hD hS
            subst h_38
            have hPD := pd_as [zzO qm 5 [v0, v1, v2, v3, v4, v5, v6, v7, v8, v9, .int (nI (T_nb tA)), .ref qmB, .int (nI (T_np tA)), .ref qmO, .ref qmK, .int iEn, .int iTk, .int (T_sd tA), v18, .ref r_24, v20, v21, v22, v23, v24, v25, v26, .int iLv, .int xW_6, v29, v30, v31, v32, v33, v34], _, _, _, _, _, _, _, _, _, _, _, _, _, _, _, _, _, _, _, _, _, _, _, _, _, _, _, zzO r_24 5 [xU_34 0, xU_34 1, xU_34 2, xU_34 3, xU_34 4, xU_34 5, xU_34 6, xU_34 7, xU_34 8, xU_34 9, .int (nI (T_nb (rdT tA j_4 kB))), .ref qUB_28, .int (nI (T_np (rdT tA j_4 kB))), .ref qUO_29, .ref qUK_30, .int iEn, .int iTk, .int (T_sd (rdT tA j_4 kB)), xU_34 18, xU_34 19, xU_34 20, xU_34 21, xU_34 22, xU_34 23, xU_34 24, xU_34 25, xU_34 26, .int iLvU_35, .int iWsU_36, xU_34 29, xU_34 30, xU_34 31, xU_34 32, xU_34 33, xU_34 34], _, zzI cy (rUB_31 0) 4 (bkR (rdT tA j_4 kB) 0), zzI cy (rUB_31 1) 4 (bkR (rdT tA j_4 kB) 1), zzI cy (rUB_31 2) 4 (bkR (rdT tA j_4 kB) 2), zzI cy (rUB_31 3) 4 (bkR (rdT tA j_4 kB) 3), zzI cy (rUB_31 4) 4 (bkR (rdT tA j_4 kB) 4), zzI cy (rUB_31 5) 4 (bkR (rdT tA j_4 kB) 5), zzI cy (rUB_31 6) 4 (bkR (rdT tA j_4 kB) 6), zzI cy (rUB_31 7) 4 (bkR (rdT tA j_4 kB) 7), _, zzI cy (rUO_32 0) 5 (onR (rdT tA j_4 kB) 0), zzI cy (rUO_32 1) 5 (onR (rdT tA j_4 kB) 1), zzI cy (rUO_32 2) 5 (onR (rdT tA j_4 kB) 2), zzI cy (rUO_32 3) 5 (onR (rdT tA j_4 kB) 3), zzI cy (rUO_32 4) 5 (onR (rdT tA j_4 kB) 4), zzI cy (rUO_32 5) 5 (onR (rdT tA j_4 kB) 5), zzI cy (rUO_32 6) 5 (onR (rdT tA j_4 kB) 6), zzI cy (rUO_32 7) 5 (onR (rdT tA j_4 kB) 7), _, zzI cy (rUK_33 0) 8 (T_kn (rdT tA j_4 kB) 0), zzI cy (rUK_33 1) 8 (T_kn (rdT tA j_4 kB) 1), zzI cy (rUK_33 2) 8 (T_kn (rdT tA j_4 kB) 2), zzI cy (rUK_33 3) 8 (T_kn (rdT tA j_4 kB) 3), zzI cy (rUK_33 4) 8 (T_kn (rdT tA j_4 kB) 4), zzI cy (rUK_33 5) 8 (T_kn (rdT tA j_4 kB) 5), zzI cy (rUK_33 6) 8 (T_kn (rdT tA j_4 kB) 6), zzI cy (rUK_33 7) 8 (T_kn (rdT tA j_4 kB) 7)] hP hD rfl
            clear hP hD
            obtain ⟨hP, hD⟩ := hPD
            refine lv_aload_n hx hb dX6_findWho_38 rfl (lv_at hl 2 rfl) ?_
            refine va_get (D := G) (ci := 5) (v := .ref r_24) (C := RX6) (T := TX6) (N := 35) hx hb hts iX_X6 hown hK hP 0 rfl rfl 19 (by decide +kernel) (hts _ m_t869) (fun _ h9 => h9) rfl dX6_findWho_39 ?_
            refine lv_iconst (v := (-1)) hx hb dX6_findWho_42 (by decide +kernel) ?_
            refine lv_iconst (v := 0) hx hb dX6_findWho_43 (by decide +kernel) ?_
            refine lv_iload_n hx hb dX6_findWho_44 rfl (lv_at hl 4 rfl) ?_
            refine cVi (As := [.int (-1), .int 0, .int (nI kN)]) (rest := []) (b := r_24) (q := (RX6, TX6, 35)) ⟨hx, hb, hml, hown, hts⟩ (x_X6_goes0 l G cy (H).size r_24 (xU_34 0) (xU_34 1) (xU_34 2) (xU_34 3) (xU_34 4) (xU_34 5) (xU_34 6) (xU_34 7) (xU_34 8) (xU_34 9) (rdT tA j_4 kB) qUB_28 qUO_29 qUK_30 iEn iTk (xU_34 18) (xU_34 19) (xU_34 20) (xU_34 21) (xU_34 22) (xU_34 23) (xU_34 24) (xU_34 25) (xU_34 26) iLvU_35 iWsU_36 (xU_34 29) (xU_34 30) (xU_34 31) (xU_34 32) (xU_34 33) (xU_34 34) rUB_31 rUO_32 rUK_33 kN (by rw [nb_rd]; exact hB) (by rw [np_rd]; exact hPp) (WI_rd hWI (by omega) (by omega)) hN60) L_X6_295 hN hP hD hS hA (trueIx 0 [false, false, false, false, false, false, false, false, false, false, false, false, false, false, false, false, false, false, false, false, false, false, false, false, false, false, false, false, true, true, true, true, true, true, true, true, true, true, true, true, true, true, true, true, true, true, true, true, true, true, true, true, true, true, true, true]) [true, true, true, true, true, true, true, true, true, true, true, true, true, true, true, true, true, true, true, true, true, true, true, true, true, true, true, true, false, false, false, false, false, false, false, false, false, false, false, false, false, false, false, false, false, false, false, false, false, false, false, false, false, false, false, false] (sel_eq rfl rfl) (by decide +kernel) rfl 28 5 rfl rfl rfl ⟨Nat.le_of_ble_eq_true rfl, Nat.le_of_ble_eq_true rfl⟩ hl.1 (Nat.le_of_ble_eq_true rfl) dX6_findWho_45 ⟨Nat.le_of_ble_eq_true rfl, Nat.le_of_ble_eq_true rfl⟩ (fun r_40 u_42 H locs h_41 => ?_)
            clear hP hD hS
            intro hP hD hS
            obtain ⟨tX_43, iX_44, iY_45, rfl, h_46, h_47, h_41⟩ := h_41
            have hPD := pd_as [_, _, _, _, _, _, _, _, _, _, _, _, _, _, _, _, _, _, _, _, _, _, _, _, _, _, _, _, zzO r_24 5 [xU_34 0, xU_34 1, xU_34 2, xU_34 3, xU_34 4, xU_34 5, xU_34 6, xU_34 7, xU_34 8, xU_34 9, .int (nI (T_nb tX_43)), .ref qUB_28, .int (nI (T_np tX_43)), .ref qUO_29, .ref qUK_30, .int iX_44, .int iTk, .int (T_sd tX_43), xU_34 18, xU_34 19, xU_34 20, xU_34 21, xU_34 22, xU_34 23, xU_34 24, xU_34 25, xU_34 26, .int iY_45, .int iWsU_36, xU_34 29, xU_34 30, xU_34 31, xU_34 32, xU_34 33, xU_34 34], _, zzI cy (rUB_31 0) 4 (bkR tX_43 0), zzI cy (rUB_31 1) 4 (bkR tX_43 1), zzI cy (rUB_31 2) 4 (bkR tX_43 2), zzI cy (rUB_31 3) 4 (bkR tX_43 3), zzI cy (rUB_31 4) 4 (bkR tX_43 4), zzI cy (rUB_31 5) 4 (bkR tX_43 5), zzI cy (rUB_31 6) 4 (bkR tX_43 6), zzI cy (rUB_31 7) 4 (bkR tX_43 7), _, zzI cy (rUO_32 0) 5 (onR tX_43 0), zzI cy (rUO_32 1) 5 (onR tX_43 1), zzI cy (rUO_32 2) 5 (onR tX_43 2), zzI cy (rUO_32 3) 5 (onR tX_43 3), zzI cy (rUO_32 4) 5 (onR tX_43 4), zzI cy (rUO_32 5) 5 (onR tX_43 5), zzI cy (rUO_32 6) 5 (onR tX_43 6), zzI cy (rUO_32 7) 5 (onR tX_43 7), _, zzI cy (rUK_33 0) 8 (T_kn tX_43 0), zzI cy (rUK_33 1) 8 (T_kn tX_43 1), zzI cy (rUK_33 2) 8 (T_kn tX_43 2), zzI cy (rUK_33 3) 8 (T_kn tX_43 3), zzI cy (rUK_33 4) 8 (T_kn tX_43 4), zzI cy (rUK_33 5) 8 (T_kn tX_43 5), zzI cy (rUK_33 6) 8 (T_kn tX_43 6), zzI cy (rUK_33 7) 8 (T_kn tX_43 7)] hP hD rfl
            clear hP hD
            obtain ⟨hP, hD⟩ := hPD
            refine lv_istore (lv' := [(5, .int r_40), (4, .int (nI j_4)), (3, .int x3_5), (0, .ref qm), (1, .int (nI kB)), (2, .int (nI kN))]) hx hb dX6_findWho_48 hl (by decide +kernel) rfl (fun ls => ?_)
            clear hl
            intro hl
            refine lv_iload_n hx hb dX6_findWho_50 rfl (lv_at hl 2 rfl) ?_
            refine lv_iconst (v := (-1)) hx hb dX6_findWho_51 (by decide +kernel) ?_
            refine lv_icmp_eq (tgt := 64) hx hb dX6_findWho_52 (by decide +kernel) (fun c_48 => ?_) (fun c_48 => ?_)
            · refine lv_iload hx hb dX6_findWho_64 (lv_at hl 1 rfl) ?_
              refine lv_istore_n (lv' := [(3, .int (nI j_4)), (5, .int r_40), (4, .int (nI j_4)), (0, .ref qm), (1, .int (nI kB)), (2, .int (nI kN))]) hx hb dX6_findWho_66 rfl hl (by decide +kernel) rfl (fun ls => ?_)
              clear hl
              intro hl
              refine lv_aload_n hx hb dX6_findWho_67 rfl (lv_at hl 3 rfl) ?_
              refine lv_iload hx hb dX6_findWho_68 (lv_at hl 1 rfl) ?_
              refine va_put (D := G) (ci := 5) (v := .int r_40) (ty := .int) (C := RX6) (T := TX6) (N := 35) hx hb hts iX_X6 tyX6 tyX6_ok nmX6 hown hK hP hD hS 0 rfl rfl 28 (by decide +kernel) (hts _ m_t878) (fun _ h9 => h9) rfl (by decide +kernel) rfl rfl (Nat.le_of_ble_eq_true rfl) dX6_findWho_70 (fun H locs => ?_)
              clear hP hD hS
              intro hP hD hS
              have hPD := pd_as [zzO qm 5 [v0, v1, v2, v3, v4, v5, v6, v7, v8, v9, .int (nI (T_nb tA)), .ref qmB, .int (nI (T_np tA)), .ref qmO, .ref qmK, .int iEn, .int iTk, .int (T_sd tA), v18, .ref r_24, v20, v21, v22, v23, v24, v25, v26, .int iLv, .int r_40, v29, v30, v31, v32, v33, v34], _, _, _, _, _, _, _, _, _, _, _, _, _, _, _, _, _, _, _, _, _, _, _, _, _, _, _, _, _, _, _, _, _, _, _, _, _, _, _, _, _, _, _, _, _, _, _, _, _, _, _, _, _, _, _] hP hD rfl
              clear hP hD
              obtain ⟨hP, hD⟩ := hPD
              refine lv_iinc (v := nI (j_4 + 1)) (lv' := [(4, .int (nI (j_4 + 1))), (3, .int (nI j_4)), (5, .int r_40), (0, .ref qm), (1, .int (nI kB)), (2, .int (nI kN))]) hx hb dX6_findWho_73 hl (k := 2) rfl (nI_1 _) (by decide +kernel) rfl (fun ls => ?_)
              clear hl
              intro hl
              refine lv_goto (tgt := 10) hx hb dX6_findWho_76 (by decide +kernel) ?_
              exact ih_3 (j_4 + 1) (nI j_4) r_40 (some (r_24, qUB_28, qUO_29, qUK_30, rUB_31, rUO_32, rUK_33, tX_43, xU_34, iX_44, iTk, iY_45, iWsU_36)) 50 888 (by omega) (by omega) (bw_y hPp (by omega) hE_11 h_19 (bw_v hPp h_47.2) (Or.inl c_48)) (Or.inr ⟨rfl, rfl, rfl⟩) _ _ _ hP hD hS (lv_sub hl [0, 1, 3, 4, 5] rfl)
            · refine lv_iload hx hb dX6_findWho_55 (lv_at hl 0 rfl) ?_
              refine lv_aload_n hx hb dX6_findWho_57 rfl (lv_at hl 3 rfl) ?_
              refine va_get (D := G) (ci := 5) (v := .int xW_6) (C := RX6) (T := TX6) (N := 35) hx hb hts iX_X6 hown hK hP 0 rfl rfl 28 (by decide +kernel) (hts _ m_t878) (fun _ h9 => h9) rfl dX6_findWho_58 ?_
              refine lv_icmp_le (tgt := 73) hx hb dX6_findWho_61 (by decide +kernel) (fun c_49 => ?_) (fun c_49 => ?_)
              · refine lv_iinc (v := nI (j_4 + 1)) (lv' := [(4, .int (nI (j_4 + 1))), (5, .int r_40), (3, .int x3_5), (0, .ref qm), (1, .int (nI kB)), (2, .int (nI kN))]) hx hb dX6_findWho_73 hl (k := 1) rfl (nI_1 _) (by decide +kernel) rfl (fun ls => ?_)
                clear hl
                intro hl
                refine lv_goto (tgt := 10) hx hb dX6_findWho_76 (by decide +kernel) ?_
                exact ih_3 (j_4 + 1) x3_5 xW_6 (some (r_24, qUB_28, qUO_29, qUK_30, rUB_31, rUO_32, rUK_33, tX_43, xU_34, iX_44, iTk, iY_45, iWsU_36)) 50 888 (by omega) (by omega) (bw_n hE_11 (bw_v hPp h_47.2) c_48 (Int32.not_lt.mpr c_49)) (Or.inr ⟨rfl, rfl, rfl⟩) _ _ _ hP hD hS (lv_sub hl [0, 2, 3, 4, 5] rfl)
              · refine lv_iload hx hb dX6_findWho_64 (lv_at hl 1 rfl) ?_
                refine lv_istore_n (lv' := [(3, .int (nI j_4)), (5, .int r_40), (4, .int (nI j_4)), (0, .ref qm), (1, .int (nI kB)), (2, .int (nI kN))]) hx hb dX6_findWho_66 rfl hl (by decide +kernel) rfl (fun ls => ?_)
                clear hl
                intro hl
                refine lv_aload_n hx hb dX6_findWho_67 rfl (lv_at hl 3 rfl) ?_
                refine lv_iload hx hb dX6_findWho_68 (lv_at hl 1 rfl) ?_
                refine va_put (D := G) (ci := 5) (v := .int r_40) (ty := .int) (C := RX6) (T := TX6) (N := 35) hx hb hts iX_X6 tyX6 tyX6_ok nmX6 hown hK hP hD hS 0 rfl rfl 28 (by decide +kernel) (hts _ m_t878) (fun _ h9 => h9) rfl (by decide +kernel) rfl rfl (Nat.le_of_ble_eq_true rfl) dX6_findWho_70 (fun H locs => ?_)
                clear hP hD hS
                intro hP hD hS
                have hPD := pd_as [_, _, _, _, _, _, _, _, _, _, _, _, _, _, _, _, _, _, _, _, _, _, _, _, _, _, _, _, _, _, _, _, _, _, _, _, _, _, _, _, _, _, _, _, _, _, _, _, _, _, _, _, _, _, _, _] hP hD rfl
                clear hP hD
                obtain ⟨hP, hD⟩ := hPD
                refine lv_iinc (v := nI (j_4 + 1)) (lv' := [(4, .int (nI (j_4 + 1))), (3, .int (nI j_4)), (5, .int r_40), (0, .ref qm), (1, .int (nI kB)), (2, .int (nI kN))]) hx hb dX6_findWho_73 hl (k := 2) rfl (nI_1 _) (by decide +kernel) rfl (fun ls => ?_)
                clear hl
                intro hl
                refine lv_goto (tgt := 10) hx hb dX6_findWho_76 (by decide +kernel) ?_
                exact ih_3 (j_4 + 1) (nI j_4) r_40 (some (r_24, qUB_28, qUO_29, qUK_30, rUB_31, rUO_32, rUK_33, tX_43, xU_34, iX_44, iTk, iY_45, iWsU_36)) 50 888 (by omega) (by omega) (bw_y hPp (by omega) hE_11 h_19 (bw_v hPp h_47.2) (Or.inr (Int32.not_le.mp c_49))) (Or.inr ⟨rfl, rfl, rfl⟩) _ _ _ hP hD hS (lv_sub hl [0, 1, 3, 4, 5] rfl)
          · subst e_21
            subst e_22
            rcases uJ_7 with _ | ⟨qU_50, qUB_51, qUO_52, qUK_53, rUB_54, rUO_55, rUK_56, tU_57, xU_58, iEnU_59, iTkU_60, iLvU_61, iWsU_62⟩
            · have hPD := pd_as [zzO qm 5 [v0, v1, v2, v3, v4, v5, v6, v7, v8, v9, .int (nI (T_nb tA)), .ref qmB, .int (nI (T_np tA)), .ref qmO, .ref qmK, .int iEn, .int iTk, .int (T_sd tA), v18, .null, v20, v21, v22, v23, v24, v25, v26, .int iLv, .int xW_6, v29, v30, v31, v32, v33, v34], _, _, _, _, _, _, _, _, _, _, _, _, _, _, _, _, _, _, _, _, _, _, _, _, _, _, _] hP hD rfl
              clear hP hD
              obtain ⟨hP, hD⟩ := hPD
              exact absurd e_23 (by decide +kernel)
            · have hPD := pd_as [zzO qm 5 [v0, v1, v2, v3, v4, v5, v6, v7, v8, v9, .int (nI (T_nb tA)), .ref qmB, .int (nI (T_np tA)), .ref qmO, .ref qmK, .int iEn, .int iTk, .int (T_sd tA), v18, .ref qU_50, v20, v21, v22, v23, v24, v25, v26, .int iLv, .int xW_6, v29, v30, v31, v32, v33, v34], _, _, _, _, _, _, _, _, _, _, _, _, _, _, _, _, _, _, _, _, _, _, _, _, _, _, _, zzO qU_50 5 [xU_58 0, xU_58 1, xU_58 2, xU_58 3, xU_58 4, xU_58 5, xU_58 6, xU_58 7, xU_58 8, xU_58 9, .int (nI (T_nb tU_57)), .ref qUB_51, .int (nI (T_np tU_57)), .ref qUO_52, .ref qUK_53, .int iEnU_59, .int iTkU_60, .int (T_sd tU_57), xU_58 18, xU_58 19, xU_58 20, xU_58 21, xU_58 22, xU_58 23, xU_58 24, xU_58 25, xU_58 26, .int iLvU_61, .int iWsU_62, xU_58 29, xU_58 30, xU_58 31, xU_58 32, xU_58 33, xU_58 34], zzG cy 3 qUB_51 rUB_54, zzI cy (rUB_54 0) 4 (bkR tU_57 0), zzI cy (rUB_54 1) 4 (bkR tU_57 1), zzI cy (rUB_54 2) 4 (bkR tU_57 2), zzI cy (rUB_54 3) 4 (bkR tU_57 3), zzI cy (rUB_54 4) 4 (bkR tU_57 4), zzI cy (rUB_54 5) 4 (bkR tU_57 5), zzI cy (rUB_54 6) 4 (bkR tU_57 6), zzI cy (rUB_54 7) 4 (bkR tU_57 7), zzG cy 3 qUO_52 rUO_55, zzI cy (rUO_55 0) 5 (onR tU_57 0), zzI cy (rUO_55 1) 5 (onR tU_57 1), zzI cy (rUO_55 2) 5 (onR tU_57 2), zzI cy (rUO_55 3) 5 (onR tU_57 3), zzI cy (rUO_55 4) 5 (onR tU_57 4), zzI cy (rUO_55 5) 5 (onR tU_57 5), zzI cy (rUO_55 6) 5 (onR tU_57 6), zzI cy (rUO_55 7) 5 (onR tU_57 7), zzG cy 3 qUK_53 rUK_56, zzI cy (rUK_56 0) 8 (T_kn tU_57 0), zzI cy (rUK_56 1) 8 (T_kn tU_57 1), zzI cy (rUK_56 2) 8 (T_kn tU_57 2), zzI cy (rUK_56 3) 8 (T_kn tU_57 3), zzI cy (rUK_56 4) 8 (T_kn tU_57 4), zzI cy (rUK_56 5) 8 (T_kn tU_57 5), zzI cy (rUK_56 6) 8 (T_kn tU_57 6), zzI cy (rUK_56 7) 8 (T_kn tU_57 7)] hP hD rfl
              clear hP hD
              obtain ⟨hP, hD⟩ := hPD
              refine cVq (As := []) (rest := []) (b := qm) (q := (RX6, TX6, 35)) ⟨hx, hb, hml, hown, hts⟩ (c_X6_freshR l G cy (H).size qm v0 v1 v2 v3 v4 v5 v6 v7 v8 v9 tA qmB qmO qmK iEn iTk v18 qU_50 v20 v21 v22 v23 v24 v25 v26 iLv xW_6 v29 v30 v31 v32 v33 v34 rB rO rK (xU_58 0) (xU_58 1) (xU_58 2) (xU_58 3) (xU_58 4) (xU_58 5) (xU_58 6) (xU_58 7) (xU_58 8) (xU_58 9) tU_57 qUB_51 qUO_52 qUK_53 iEnU_59 iTkU_60 (xU_58 18) (xU_58 19) (xU_58 20) (xU_58 21) (xU_58 22) (xU_58 23) (xU_58 24) (xU_58 25) (xU_58 26) iLvU_61 iWsU_62 (xU_58 29) (xU_58 30) (xU_58 31) (xU_58 32) (xU_58 33) (xU_58 34) rUB_54 rUO_55 rUK_56) L_X6_110 hN hP hD hS hA (trueIx 0 [true, true, true, true, true, true, true, true, true, true, true, true, true, true, true, true, true, true, true, true, true, true, true, true, true, true, true, true, true, true, true, true, true, true, true, true, true, true, true, true, true, true, true, true, true, true, true, true, true, true, true, true, true, true, true, true]) [false, false, false, false, false, false, false, false, false, false, false, false, false, false, false, false, false, false, false, false, false, false, false, false, false, false, false, false, false, false, false, false, false, false, false, false, false, false, false, false, false, false, false, false, false, false, false, false, false, false, false, false, false, false, false, false] (sel_eq rfl rfl) (by decide +kernel) rfl 0 5 rfl rfl rfl ⟨Nat.le_of_ble_eq_true rfl, Nat.le_of_ble_eq_true rfl⟩ hl.1 (Nat.le_of_ble_eq_true rfl) dX6_findWho_29 ⟨Nat.le_of_ble_eq_true rfl, Nat.le_of_ble_eq_true rfl⟩ (fun r_63 u_65 H locs h_64 => ?_)
              clear hP hD hS
              intro hP hD hS
              obtain ⟨rfl, h_64⟩ := h_64
              have hPD := pd_as [_, _, _, _, _, _, _, _, _, _, _, _, _, _, _, _, _, _, _, _, _, _, _, _, _, _, _, _, zzO qU_50 5 [xU_58 0, xU_58 1, xU_58 2, xU_58 3, xU_58 4, xU_58 5, xU_58 6, xU_58 7, xU_58 8, xU_58 9, .int (nI (T_nb tA)), .ref qUB_51, .int (nI (T_np tA)), .ref qUO_52, .ref qUK_53, .int iEn, .int iTk, .int (T_sd tA), xU_58 18, xU_58 19, xU_58 20, xU_58 21, xU_58 22, xU_58 23, xU_58 24, xU_58 25, xU_58 26, .int iLvU_61, .int iWsU_62, xU_58 29, xU_58 30, xU_58 31, xU_58 32, xU_58 33, xU_58 34], _, zzI cy (rUB_54 0) 4 (bkR tA 0), zzI cy (rUB_54 1) 4 (bkR tA 1), zzI cy (rUB_54 2) 4 (bkR tA 2), zzI cy (rUB_54 3) 4 (bkR tA 3), zzI cy (rUB_54 4) 4 (bkR tA 4), zzI cy (rUB_54 5) 4 (bkR tA 5), zzI cy (rUB_54 6) 4 (bkR tA 6), zzI cy (rUB_54 7) 4 (bkR tA 7), _, zzI cy (rUO_55 0) 5 (onR tA 0), zzI cy (rUO_55 1) 5 (onR tA 1), zzI cy (rUO_55 2) 5 (onR tA 2), zzI cy (rUO_55 3) 5 (onR tA 3), zzI cy (rUO_55 4) 5 (onR tA 4), zzI cy (rUO_55 5) 5 (onR tA 5), zzI cy (rUO_55 6) 5 (onR tA 6), zzI cy (rUO_55 7) 5 (onR tA 7), _, zzI cy (rUK_56 0) 8 (T_kn tA 0), zzI cy (rUK_56 1) 8 (T_kn tA 1), zzI cy (rUK_56 2) 8 (T_kn tA 2), zzI cy (rUK_56 3) 8 (T_kn tA 3), zzI cy (rUK_56 4) 8 (T_kn tA 4), zzI cy (rUK_56 5) 8 (T_kn tA 5), zzI cy (rUK_56 6) 8 (T_kn tA 6), zzI cy (rUK_56 7) 8 (T_kn tA 7)] hP hD rfl
              clear hP hD
              obtain ⟨hP, hD⟩ := hPD
              have h_64 := h_64.symm
              subst h_64
              refine lv_iload hx hb dX6_findWho_32 (lv_at hl 0 rfl) ?_
              refine lv_iload_n hx hb dX6_findWho_34 rfl (lv_at hl 3 rfl) ?_
              refine cVv (As := [.int (nI j_4), .int (nI kB)]) (rest := []) (b := qU_50) (q := (RX6, TX6, 35)) ⟨hx, hb, hml, hown, hts⟩ (c_X6_reads l G cy (H).size qU_50 (xU_58 0) (xU_58 1) (xU_58 2) (xU_58 3) (xU_58 4) (xU_58 5) (xU_58 6) (xU_58 7) (xU_58 8) (xU_58 9) tA qUB_51 qUO_52 qUK_53 iEn iTk (xU_58 18) (xU_58 19) (xU_58 20) (xU_58 21) (xU_58 22) (xU_58 23) (xU_58 24) (xU_58 25) (xU_58 26) iLvU_61 iWsU_62 (xU_58 29) (xU_58 30) (xU_58 31) (xU_58 32) (xU_58 33) (xU_58 34) rUB_54 rUO_55 rUK_56 j_4 kB (by omega) hJ) L_X6_257 hN hP hD hS hA (trueIx 0 [false, false, false, false, false, false, false, false, false, false, false, false, false, false, false, false, false, false, false, false, false, false, false, false, false, false, false, false, true, true, true, true, true, true, true, true, true, true, true, true, true, true, true, true, true, true, true, true, true, true, true, true, true, true, true, true]) [true, true, true, true, true, true, true, true, true, true, true, true, true, true, true, true, true, true, true, true, true, true, true, true, true, true, true, true, false, false, false, false, false, false, false, false, false, false, false, false, false, false, false, false, false, false, false, false, false, false, false, false, false, false, false, false] (sel_eq rfl rfl) (by decide +kernel) rfl 28 5 rfl rfl rfl ⟨Nat.le_of_ble_eq_true rfl, Nat.le_of_ble_eq_true rfl⟩ hl.1 (Nat.le_of_ble_eq_true rfl) dX6_findWho_35 ⟨Nat.le_of_ble_eq_true rfl, Nat.le_of_ble_eq_true rfl⟩ (fun u_68 H locs h_67 => ?_)
              clear hP hD hS
              intro hP hD hS
              subst h_67
              have hPD := pd_as [_, _, _, _, _, _, _, _, _, _, _, _, _, _, _, _, _, _, _, _, _, _, _, _, _, _, _, _, zzO qU_50 5 [xU_58 0, xU_58 1, xU_58 2, xU_58 3, xU_58 4, xU_58 5, xU_58 6, xU_58 7, xU_58 8, xU_58 9, .int (nI (T_nb (rdT tA j_4 kB))), .ref qUB_51, .int (nI (T_np (rdT tA j_4 kB))), .ref qUO_52, .ref qUK_53, .int iEn, .int iTk, .int (T_sd (rdT tA j_4 kB)), xU_58 18, xU_58 19, xU_58 20, xU_58 21, xU_58 22, xU_58 23, xU_58 24, xU_58 25, xU_58 26, .int iLvU_61, .int iWsU_62, xU_58 29, xU_58 30, xU_58 31, xU_58 32, xU_58 33, xU_58 34], _, zzI cy (rUB_54 0) 4 (bkR (rdT tA j_4 kB) 0), zzI cy (rUB_54 1) 4 (bkR (rdT tA j_4 kB) 1), zzI cy (rUB_54 2) 4 (bkR (rdT tA j_4 kB) 2), zzI cy (rUB_54 3) 4 (bkR (rdT tA j_4 kB) 3), zzI cy (rUB_54 4) 4 (bkR (rdT tA j_4 kB) 4), zzI cy (rUB_54 5) 4 (bkR (rdT tA j_4 kB) 5), zzI cy (rUB_54 6) 4 (bkR (rdT tA j_4 kB) 6), zzI cy (rUB_54 7) 4 (bkR (rdT tA j_4 kB) 7), _, zzI cy (rUO_55 0) 5 (onR (rdT tA j_4 kB) 0), zzI cy (rUO_55 1) 5 (onR (rdT tA j_4 kB) 1), zzI cy (rUO_55 2) 5 (onR (rdT tA j_4 kB) 2), zzI cy (rUO_55 3) 5 (onR (rdT tA j_4 kB) 3), zzI cy (rUO_55 4) 5 (onR (rdT tA j_4 kB) 4), zzI cy (rUO_55 5) 5 (onR (rdT tA j_4 kB) 5), zzI cy (rUO_55 6) 5 (onR (rdT tA j_4 kB) 6), zzI cy (rUO_55 7) 5 (onR (rdT tA j_4 kB) 7), _, zzI cy (rUK_56 0) 8 (T_kn (rdT tA j_4 kB) 0), zzI cy (rUK_56 1) 8 (T_kn (rdT tA j_4 kB) 1), zzI cy (rUK_56 2) 8 (T_kn (rdT tA j_4 kB) 2), zzI cy (rUK_56 3) 8 (T_kn (rdT tA j_4 kB) 3), zzI cy (rUK_56 4) 8 (T_kn (rdT tA j_4 kB) 4), zzI cy (rUK_56 5) 8 (T_kn (rdT tA j_4 kB) 5), zzI cy (rUK_56 6) 8 (T_kn (rdT tA j_4 kB) 6), zzI cy (rUK_56 7) 8 (T_kn (rdT tA j_4 kB) 7)] hP hD rfl
              clear hP hD
              obtain ⟨hP, hD⟩ := hPD
              refine lv_aload_n hx hb dX6_findWho_38 rfl (lv_at hl 2 rfl) ?_
              refine va_get (D := G) (ci := 5) (v := .ref qU_50) (C := RX6) (T := TX6) (N := 35) hx hb hts iX_X6 hown hK hP 0 rfl rfl 19 (by decide +kernel) (hts _ m_t869) (fun _ h9 => h9) rfl dX6_findWho_39 ?_
              refine lv_iconst (v := (-1)) hx hb dX6_findWho_42 (by decide +kernel) ?_
              refine lv_iconst (v := 0) hx hb dX6_findWho_43 (by decide +kernel) ?_
              refine lv_iload_n hx hb dX6_findWho_44 rfl (lv_at hl 4 rfl) ?_
              refine cVi (As := [.int (-1), .int 0, .int (nI kN)]) (rest := []) (b := qU_50) (q := (RX6, TX6, 35)) ⟨hx, hb, hml, hown, hts⟩ (x_X6_goes0 l G cy (H).size qU_50 (xU_58 0) (xU_58 1) (xU_58 2) (xU_58 3) (xU_58 4) (xU_58 5) (xU_58 6) (xU_58 7) (xU_58 8) (xU_58 9) (rdT tA j_4 kB) qUB_51 qUO_52 qUK_53 iEn iTk (xU_58 18) (xU_58 19) (xU_58 20) (xU_58 21) (xU_58 22) (xU_58 23) (xU_58 24) (xU_58 25) (xU_58 26) iLvU_61 iWsU_62 (xU_58 29) (xU_58 30) (xU_58 31) (xU_58 32) (xU_58 33) (xU_58 34) rUB_54 rUO_55 rUK_56 kN (by rw [nb_rd]; exact hB) (by rw [np_rd]; exact hPp) (WI_rd hWI (by omega) (by omega)) hN60) L_X6_295 hN hP hD hS hA (trueIx 0 [false, false, false, false, false, false, false, false, false, false, false, false, false, false, false, false, false, false, false, false, false, false, false, false, false, false, false, false, true, true, true, true, true, true, true, true, true, true, true, true, true, true, true, true, true, true, true, true, true, true, true, true, true, true, true, true]) [true, true, true, true, true, true, true, true, true, true, true, true, true, true, true, true, true, true, true, true, true, true, true, true, true, true, true, true, false, false, false, false, false, false, false, false, false, false, false, false, false, false, false, false, false, false, false, false, false, false, false, false, false, false, false, false] (sel_eq rfl rfl) (by decide +kernel) rfl 28 5 rfl rfl rfl ⟨Nat.le_of_ble_eq_true rfl, Nat.le_of_ble_eq_true rfl⟩ hl.1 (Nat.le_of_ble_eq_true rfl) dX6_findWho_45 ⟨Nat.le_of_ble_eq_true rfl, Nat.le_of_ble_eq_true rfl⟩ (fun r_69 u_71 H locs h_70 => ?_)
              clear hP hD hS
              intro hP hD hS
              obtain ⟨tX_72, iX_73, iY_74, rfl, h_75, h_76, h_70⟩ := h_70
              have hPD := pd_as [_, _, _, _, _, _, _, _, _, _, _, _, _, _, _, _, _, _, _, _, _, _, _, _, _, _, _, _, zzO qU_50 5 [xU_58 0, xU_58 1, xU_58 2, xU_58 3, xU_58 4, xU_58 5, xU_58 6, xU_58 7, xU_58 8, xU_58 9, .int (nI (T_nb tX_72)), .ref qUB_51, .int (nI (T_np tX_72)), .ref qUO_52, .ref qUK_53, .int iX_73, .int iTk, .int (T_sd tX_72), xU_58 18, xU_58 19, xU_58 20, xU_58 21, xU_58 22, xU_58 23, xU_58 24, xU_58 25, xU_58 26, .int iY_74, .int iWsU_62, xU_58 29, xU_58 30, xU_58 31, xU_58 32, xU_58 33, xU_58 34], _, zzI cy (rUB_54 0) 4 (bkR tX_72 0), zzI cy (rUB_54 1) 4 (bkR tX_72 1), zzI cy (rUB_54 2) 4 (bkR tX_72 2), zzI cy (rUB_54 3) 4 (bkR tX_72 3), zzI cy (rUB_54 4) 4 (bkR tX_72 4), zzI cy (rUB_54 5) 4 (bkR tX_72 5), zzI cy (rUB_54 6) 4 (bkR tX_72 6), zzI cy (rUB_54 7) 4 (bkR tX_72 7), _, zzI cy (rUO_55 0) 5 (onR tX_72 0), zzI cy (rUO_55 1) 5 (onR tX_72 1), zzI cy (rUO_55 2) 5 (onR tX_72 2), zzI cy (rUO_55 3) 5 (onR tX_72 3), zzI cy (rUO_55 4) 5 (onR tX_72 4), zzI cy (rUO_55 5) 5 (onR tX_72 5), zzI cy (rUO_55 6) 5 (onR tX_72 6), zzI cy (rUO_55 7) 5 (onR tX_72 7), _, zzI cy (rUK_56 0) 8 (T_kn tX_72 0), zzI cy (rUK_56 1) 8 (T_kn tX_72 1), zzI cy (rUK_56 2) 8 (T_kn tX_72 2), zzI cy (rUK_56 3) 8 (T_kn tX_72 3), zzI cy (rUK_56 4) 8 (T_kn tX_72 4), zzI cy (rUK_56 5) 8 (T_kn tX_72 5), zzI cy (rUK_56 6) 8 (T_kn tX_72 6), zzI cy (rUK_56 7) 8 (T_kn tX_72 7)] hP hD rfl
              clear hP hD
              obtain ⟨hP, hD⟩ := hPD
              refine lv_istore (lv' := [(5, .int r_69), (4, .int (nI j_4)), (3, .int x3_5), (0, .ref qm), (1, .int (nI kB)), (2, .int (nI kN))]) hx hb dX6_findWho_48 hl (by decide +kernel) rfl (fun ls => ?_)
              clear hl
              intro hl
              refine lv_iload_n hx hb dX6_findWho_50 rfl (lv_at hl 2 rfl) ?_
              refine lv_iconst (v := (-1)) hx hb dX6_findWho_51 (by decide +kernel) ?_
              refine lv_icmp_eq (tgt := 64) hx hb dX6_findWho_52 (by decide +kernel) (fun c_77 => ?_) (fun c_77 => ?_)
              · refine lv_iload hx hb dX6_findWho_64 (lv_at hl 1 rfl) ?_
                refine lv_istore_n (lv' := [(3, .int (nI j_4)), (5, .int r_69), (4, .int (nI j_4)), (0, .ref qm), (1, .int (nI kB)), (2, .int (nI kN))]) hx hb dX6_findWho_66 rfl hl (by decide +kernel) rfl (fun ls => ?_)
                clear hl
                intro hl
                refine lv_aload_n hx hb dX6_findWho_67 rfl (lv_at hl 3 rfl) ?_
                refine lv_iload hx hb dX6_findWho_68 (lv_at hl 1 rfl) ?_
                refine va_put (D := G) (ci := 5) (v := .int r_69) (ty := .int) (C := RX6) (T := TX6) (N := 35) hx hb hts iX_X6 tyX6 tyX6_ok nmX6 hown hK hP hD hS 0 rfl rfl 28 (by decide +kernel) (hts _ m_t878) (fun _ h9 => h9) rfl (by decide +kernel) rfl rfl (Nat.le_of_ble_eq_true rfl) dX6_findWho_70 (fun H locs => ?_)
                clear hP hD hS
                intro hP hD hS
                have hPD := pd_as [zzO qm 5 [v0, v1, v2, v3, v4, v5, v6, v7, v8, v9, .int (nI (T_nb tA)), .ref qmB, .int (nI (T_np tA)), .ref qmO, .ref qmK, .int iEn, .int iTk, .int (T_sd tA), v18, .ref qU_50, v20, v21, v22, v23, v24, v25, v26, .int iLv, .int r_69, v29, v30, v31, v32, v33, v34], _, _, _, _, _, _, _, _, _, _, _, _, _, _, _, _, _, _, _, _, _, _, _, _, _, _, _, _, _, _, _, _, _, _, _, _, _, _, _, _, _, _, _, _, _, _, _, _, _, _, _, _, _, _, _] hP hD rfl
                clear hP hD
                obtain ⟨hP, hD⟩ := hPD
                refine lv_iinc (v := nI (j_4 + 1)) (lv' := [(4, .int (nI (j_4 + 1))), (3, .int (nI j_4)), (5, .int r_69), (0, .ref qm), (1, .int (nI kB)), (2, .int (nI kN))]) hx hb dX6_findWho_73 hl (k := 2) rfl (nI_1 _) (by decide +kernel) rfl (fun ls => ?_)
                clear hl
                intro hl
                refine lv_goto (tgt := 10) hx hb dX6_findWho_76 (by decide +kernel) ?_
                exact ih_3 (j_4 + 1) (nI j_4) r_69 (some (qU_50, qUB_51, qUO_52, qUK_53, rUB_54, rUO_55, rUK_56, tX_72, xU_58, iX_73, iTk, iY_74, iWsU_62)) 50 888 (by omega) (by omega) (bw_y hPp (by omega) hE_11 h_19 (bw_v hPp h_76.2) (Or.inl c_77)) (Or.inr ⟨rfl, rfl, rfl⟩) _ _ _ hP hD hS (lv_sub hl [0, 1, 3, 4, 5] rfl)
              · refine lv_iload hx hb dX6_findWho_55 (lv_at hl 0 rfl) ?_
                refine lv_aload_n hx hb dX6_findWho_57 rfl (lv_at hl 3 rfl) ?_
                refine va_get (D := G) (ci := 5) (v := .int xW_6) (C := RX6) (T := TX6) (N := 35) hx hb hts iX_X6 hown hK hP 0 rfl rfl 28 (by decide +kernel) (hts _ m_t878) (fun _ h9 => h9) rfl dX6_findWho_58 ?_
                refine lv_icmp_le (tgt := 73) hx hb dX6_findWho_61 (by decide +kernel) (fun c_78 => ?_) (fun c_78 => ?_)
                · refine lv_iinc (v := nI (j_4 + 1)) (lv' := [(4, .int (nI (j_4 + 1))), (5, .int r_69), (3, .int x3_5), (0, .ref qm), (1, .int (nI kB)), (2, .int (nI kN))]) hx hb dX6_findWho_73 hl (k := 1) rfl (nI_1 _) (by decide +kernel) rfl (fun ls => ?_)
                  clear hl
                  intro hl
                  refine lv_goto (tgt := 10) hx hb dX6_findWho_76 (by decide +kernel) ?_
                  exact ih_3 (j_4 + 1) x3_5 xW_6 (some (qU_50, qUB_51, qUO_52, qUK_53, rUB_54, rUO_55, rUK_56, tX_72, xU_58, iX_73, iTk, iY_74, iWsU_62)) 50 888 (by omega) (by omega) (bw_n hE_11 (bw_v hPp h_76.2) c_77 (Int32.not_lt.mpr c_78)) (Or.inr ⟨rfl, rfl, rfl⟩) _ _ _ hP hD hS (lv_sub hl [0, 2, 3, 4, 5] rfl)
                · refine lv_iload hx hb dX6_findWho_64 (lv_at hl 1 rfl) ?_
                  refine lv_istore_n (lv' := [(3, .int (nI j_4)), (5, .int r_69), (4, .int (nI j_4)), (0, .ref qm), (1, .int (nI kB)), (2, .int (nI kN))]) hx hb dX6_findWho_66 rfl hl (by decide +kernel) rfl (fun ls => ?_)
                  clear hl
                  intro hl
                  refine lv_aload_n hx hb dX6_findWho_67 rfl (lv_at hl 3 rfl) ?_
                  refine lv_iload hx hb dX6_findWho_68 (lv_at hl 1 rfl) ?_
                  refine va_put (D := G) (ci := 5) (v := .int r_69) (ty := .int) (C := RX6) (T := TX6) (N := 35) hx hb hts iX_X6 tyX6 tyX6_ok nmX6 hown hK hP hD hS 0 rfl rfl 28 (by decide +kernel) (hts _ m_t878) (fun _ h9 => h9) rfl (by decide +kernel) rfl rfl (Nat.le_of_ble_eq_true rfl) dX6_findWho_70 (fun H locs => ?_)
                  clear hP hD hS
                  intro hP hD hS
                  have hPD := pd_as [_, _, _, _, _, _, _, _, _, _, _, _, _, _, _, _, _, _, _, _, _, _, _, _, _, _, _, _, _, _, _, _, _, _, _, _, _, _, _, _, _, _, _, _, _, _, _, _, _, _, _, _, _, _, _, _] hP hD rfl
                  clear hP hD
                  obtain ⟨hP, hD⟩ := hPD
                  refine lv_iinc (v := nI (j_4 + 1)) (lv' := [(4, .int (nI (j_4 + 1))), (3, .int (nI j_4)), (5, .int r_69), (0, .ref qm), (1, .int (nI kB)), (2, .int (nI kN))]) hx hb dX6_findWho_73 hl (k := 2) rfl (nI_1 _) (by decide +kernel) rfl (fun ls => ?_)
                  clear hl
                  intro hl
                  refine lv_goto (tgt := 10) hx hb dX6_findWho_76 (by decide +kernel) ?_
                  exact ih_3 (j_4 + 1) (nI j_4) r_69 (some (qU_50, qUB_51, qUO_52, qUK_53, rUB_54, rUO_55, rUK_56, tX_72, xU_58, iX_73, iTk, iY_74, iWsU_62)) 50 888 (by omega) (by omega) (bw_y hPp (by omega) hE_11 h_19 (bw_v hPp h_76.2) (Or.inr (Int32.not_le.mp c_78))) (Or.inr ⟨rfl, rfl, rfl⟩) _ _ _ hP hD hS (lv_sub hl [0, 1, 3, 4, 5] rfl)
        · refine lv_if_eq (tgt := 73) hx hb dX6_findWho_25 (by decide +kernel) (fun _ => ?_) (fun h9 => absurd (by decide +kernel) h9)
          refine lv_iinc (v := nI (j_4 + 1)) (lv' := [(4, .int (nI (j_4 + 1))), (3, .int x3_5), (0, .ref qm), (1, .int (nI kB)), (2, .int (nI kN))]) hx hb dX6_findWho_73 hl (k := 0) rfl (nI_1 _) (by decide +kernel) rfl (fun ls => ?_)
          clear hl
          intro hl
          refine lv_goto (tgt := 10) hx hb dX6_findWho_76 (by decide +kernel) ?_
          exact ih_3 (j_4 + 1) x3_5 xW_6 uJ_7 xc_8 yc_9 (by omega) (by omega) (bw_g hPp (by omega) hE_11 h_19) hC_12 _ _ _ hP hD hS (lv_sub hl [0, 1, 2, 3, 4] rfl)
  exact lp_1 ((8 - 0) + 1) 0 (-1) 0 uU 0 0 (Nat.lt_succ_self _) (Nat.zero_le _) rfl (Or.inl ⟨rfl, rfl⟩) _ _ ls hP hD hS (lv_sub hl [0, 1, 2, 3, 4] rfl)
set_option maxHeartbeats 4000000 in
set_option maxRecDepth 100000 in
theorem x_X5_keeping (l : Launch) (G : va_G) (cy : Nat → ClassId) (sz : Nat) (qx : Nat) (qt : Nat) (qk : Nat) (qp : Nat) (qs : Nat) (qa : Nat) (qr : Nat) (iKp : Int32) (iYe : Int32) (iTv : Int32) (fR : Nat → Int32) (tA : TA) (qtw : Nat) (qtn : Nat) (qtg : Nat) (qta : Nat) (qtr : Nat) (qtm : Nat) (qtt : Nat) (qts : Nat) (qu : Nat) (qv : Nat) (iL : Int32) (iBs : Int32) (tU : TA) (quw : Nat) (qun : Nat) (qug : Nat) (qua : Nat) (qur : Nat) (qum : Nat) (qut : Nat) (qus : Nat) (tV : TA) (qvw : Nat) (qvn : Nat) (qvg : Nat) (qva : Nat) (qvr : Nat) (qvm : Nat) (qvt : Nat) (qvs : Nat) (iA : Int32) (iB : Int32)  (hB : T_nb tA ≤ 8) (hPp : T_np tA ≤ 8) : MW l yX5_keeping cX5_keeping 4 (some .int) 12 0 0 G cy [zzO qx 4 [.ref qt, .ref qk, .ref qp, .ref qs, .ref qa, .ref qr, .int iKp, .int iYe, .int iTv], zzI cy qr 5 fR, zzO qt 3 [.int (nI (T_nb tA)), .int (nI (T_np tA)), .int (wb (T_wh tA)), .int (wb (T_gn tA)), .int (T_sd tA), .ref qtw, .ref qtn, .ref qtg, .ref qta, .ref qtr, .ref qtm, .ref qtt, .ref qts], zzI cy qtw 8 (T_wo tA), zzI cy qtn 8 (T_ne tA), zzI cy qtg 8 (T_go tA), zzI cy qta 8 (T_ag tA), zzI cy qtr 8 (T_re tA), zzI cy qtm 8 (T_me tA), zzI cy qtt 8 (T_te tA), zzI cy qts 64 (shF (T_kn tA)), zzO qp 0 [.ref qu, .ref qv, .int iL, .int iBs], zzO qu 3 [.int (nI (T_nb tU)), .int (nI (T_np tU)), .int (wb (T_wh tU)), .int (wb (T_gn tU)), .int (T_sd tU), .ref quw, .ref qun, .ref qug, .ref qua, .ref qur, .ref qum, .ref qut, .ref qus], zzI cy quw 8 (T_wo tU), zzI cy qun 8 (T_ne tU), zzI cy qug 8 (T_go tU), zzI cy qua 8 (T_ag tU), zzI cy qur 8 (T_re tU), zzI cy qum 8 (T_me tU), zzI cy qut 8 (T_te tU), zzI cy qus 64 (shF (T_kn tU)), zzO qv 3 [.int (nI (T_nb tV)), .int (nI (T_np tV)), .int (wb (T_wh tV)), .int (wb (T_gn tV)), .int (T_sd tV), .ref qvw, .ref qvn, .ref qvg, .ref qva, .ref qvr, .ref qvm, .ref qvt, .ref qvs], zzI cy qvw 8 (T_wo tV), zzI cy qvn 8 (T_ne tV), zzI cy qvg 8 (T_go tV), zzI cy qva 8 (T_ag tV), zzI cy qvr 8 (T_re tV), zzI cy qvm 8 (T_me tV), zzI cy qvt 8 (T_te tV), zzI cy qvs 64 (shF (T_kn tV))] sz [.ref qx, .int iA, .int iB] (Wi G (fun r u => ∃ (fX : Nat → Int32) (iX : Int32) (iY : Int32) (tX : TA) (tY : TA), u = [zzO qx 4 [.ref qt, .ref qk, .ref qp, .ref qs, .ref qa, .ref qr, .int iKp, .int iYe, .int iTv], zzI cy qr 5 fX, zzO qt 3 [.int (nI (T_nb tA)), .int (nI (T_np tA)), .int (wb (T_wh tA)), .int (wb (T_gn tA)), .int (T_sd tA), .ref qtw, .ref qtn, .ref qtg, .ref qta, .ref qtr, .ref qtm, .ref qtt, .ref qts], zzI cy qtw 8 (T_wo tA), zzI cy qtn 8 (T_ne tA), zzI cy qtg 8 (T_go tA), zzI cy qta 8 (T_ag tA), zzI cy qtr 8 (T_re tA), zzI cy qtm 8 (T_me tA), zzI cy qtt 8 (T_te tA), zzI cy qts 64 (shF (T_kn tA)), zzO qp 0 [.ref qu, .ref qv, .int iX, .int iY], zzO qu 3 [.int (nI (T_nb tX)), .int (nI (T_np tX)), .int (wb (T_wh tX)), .int (wb (T_gn tX)), .int (T_sd tX), .ref quw, .ref qun, .ref qug, .ref qua, .ref qur, .ref qum, .ref qut, .ref qus], zzI cy quw 8 (T_wo tX), zzI cy qun 8 (T_ne tX), zzI cy qug 8 (T_go tX), zzI cy qua 8 (T_ag tX), zzI cy qur 8 (T_re tX), zzI cy qum 8 (T_me tX), zzI cy qut 8 (T_te tX), zzI cy qus 64 (shF (T_kn tX)), zzO qv 3 [.int (nI (T_nb tY)), .int (nI (T_np tY)), .int (wb (T_wh tY)), .int (wb (T_gn tY)), .int (T_sd tY), .ref qvw, .ref qvn, .ref qvg, .ref qva, .ref qvr, .ref qvm, .ref qvt, .ref qvs], zzI cy qvw 8 (T_wo tY), zzI cy qvn 8 (T_ne tY), zzI cy qvg 8 (T_go tY), zzI cy qva 8 (T_ag tY), zzI cy qvr 8 (T_re tY), zzI cy qvm 8 (T_me tY), zzI cy qvt 8 (T_te tY), zzI cy qvs 64 (shF (T_kn tY))] ∧ (PQk tA iA iB r) ∧ (True))) := by
  refine enW RX5 (by decide +kernel) rfl (Nat.le_of_ble_eq_true rfl) (fun p e s m below meth c ls A hx hb hml hown hts hr hlocks hP hN hl hin hD hA hS => ?_)
  have hin : meth.name = _ := hin
  have hK := hN.1
  replace hl : lv_has ls 4 [(0, .ref qx), (1, .int iA), (2, .int iB)] := hl
  refine lv_aload_n hx hb dX5_keeping_0 rfl (lv_at hl 0 rfl) ?_
  refine va_get (D := G) (ci := 4) (v := .ref qt) (C := RX5) (T := TX5) (N := 9) hx hb hts iX_X5 hown hK hP 0 rfl rfl 0 (by decide +kernel) (hts _ m_t174) (fun _ h9 => h9) rfl dX5_keeping_1 ?_
  refine lv_iload_n hx hb dX5_keeping_4 rfl (lv_at hl 1 rfl) ?_
  refine kRi (rV (As := [.int iA]) (rest := []) (b := qt) ⟨hx, hb, hml, hown, hts⟩ (c_X4_isBook l G cy qt tA qtw qtn qtg qta qtr qtm qtt qts iA hB) L_X5_168 (preRV (q := (RX4, TX4, 13)) hN hP [2] rfl 2 3 rfl rfl) rfl ⟨Nat.le_of_ble_eq_true rfl, Nat.le_of_ble_eq_true rfl⟩ hl.1 (Nat.le_of_ble_eq_true rfl) dX5_keeping_5 ⟨Nat.le_of_ble_eq_true rfl, Nat.le_of_ble_eq_true rfl⟩) (fun r_1 h_2 => ?_)
  rcases h_2 with ⟨rfl, h_3⟩ | ⟨rfl, h_3⟩
  · obtain ⟨k_4, hk_5, rfl⟩ := h_3
    refine lv_if_eq (tgt := 25) hx hb dX5_keeping_8 (by decide +kernel) (fun h9 => absurd h9 (by decide +kernel)) (fun _ => ?_)
    refine lv_iload_n hx hb dX5_keeping_11 rfl (lv_at hl 2 rfl) ?_
    refine lv_i2l (v := iB.toInt64) hx hb dX5_keeping_12 rfl ?_
    refine lv_ldc2 hx hb hown (hts _ m_t704) dX5_keeping_13 ?_
    refine lv_ldc2 hx hb hown (hts _ m_t644) dX5_keeping_16 ?_
    refine kRi (rS (As := [.long iB.toInt64, .long 2, .long 60]) (rest := []) ⟨hx, hb, hml, hown, hts⟩ (c_X5_within l G cy iB.toInt64 2 60) L_X5_50 (preRS hN hP [] rfl) rfl ⟨Nat.le_of_ble_eq_true rfl, Nat.le_of_ble_eq_true rfl⟩ hl.1 (Nat.le_of_ble_eq_true rfl) dX5_keeping_19 ⟨Nat.le_of_ble_eq_true rfl, Nat.le_of_ble_eq_true rfl⟩) (fun r_7 h_8 => ?_)
    rcases h_8 with ⟨rfl, h_9⟩ | ⟨rfl, h_9⟩
    · obtain ⟨k_10, hk_11, hk_12, rfl⟩ := iv_nI 2 60 (by decide +kernel) (by decide +kernel) h_9
      refine lv_if_ne (tgt := 36) hx hb dX5_keeping_22 (by decide +kernel) (fun _ => ?_) (fun h9 => absurd h9 (by decide +kernel))
      refine lv_aload_n hx hb dX5_keeping_36 rfl (lv_at hl 0 rfl) ?_
      refine va_get (D := G) (ci := 4) (v := .ref qt) (C := RX5) (T := TX5) (N := 9) hx hb hts iX_X5 hown hK hP 0 rfl rfl 0 (by decide +kernel) (hts _ m_t174) (fun _ h9 => h9) rfl dX5_keeping_37 ?_
      refine va_getN (D := G) (ci := 3) (v := .int (wb (T_wh tA))) (C := RX4) (T := TX4) (N := 13) hx hb hts iX_X4 hown hK hP 2 rfl rfl 2 (by decide +kernel) (va_Nw.use rfl (hN.2.1 (RX5, 180, "EachBookOnce$Town", "white", "I") (List.mem_of_getElem? (i := 10) rfl))) (fun _ h9 => h9) rfl dX5_keeping_40 ?_
      refine lv_iload_n hx hb dX5_keeping_43 rfl (lv_at hl 1 rfl) ?_
      refine kRi (rS (As := [.int (wb (T_wh tA)), .int (nI k_4)]) (rest := []) ⟨hx, hb, hml, hown, hts⟩ (c_X5_has l G cy (wb (T_wh tA)) k_4) L_X5_183 (preRS hN hP [] rfl) rfl ⟨Nat.le_of_ble_eq_true rfl, Nat.le_of_ble_eq_true rfl⟩ hl.1 (Nat.le_of_ble_eq_true rfl) dX5_keeping_44 ⟨Nat.le_of_ble_eq_true rfl, Nat.le_of_ble_eq_true rfl⟩) (fun r_14 h_15 => ?_)
      rcases h_15 with ⟨rfl, h_16⟩ | ⟨rfl, h_16⟩
      · rw [bit_wb _ (by omega)] at h_16
        refine lv_if_ne (tgt := 70) hx hb dX5_keeping_47 (by decide +kernel) (fun _ => ?_) (fun h9 => absurd h9 (by decide +kernel))
        refine lv_iconst (v := 0) hx hb dX5_keeping_70 (by decide +kernel) ?_
        refine lv_istore_n (lv' := [(3, .int 0), (0, .ref qx), (1, .int (nI k_4)), (2, .int (nI k_10))]) hx hb dX5_keeping_71 rfl hl (by decide +kernel) rfl (fun ls => ?_)
        clear hl
        intro hl
        refine lv_iload_n hx hb dX5_keeping_72 rfl (lv_at hl 0 rfl) ?_
        refine lv_if_eq (tgt := 86) hx hb dX5_keeping_73 (by decide +kernel) (fun _ => ?_) (fun h9 => absurd (by decide +kernel) h9)
        refine lv_aload_n hx hb dX5_keeping_86 rfl (lv_at hl 1 rfl) ?_
        refine lv_bipush (v := (-5)) hx hb dX5_keeping_87 (by decide +kernel) ?_
        refine cVi (As := [.int (-5)]) (rest := []) (b := qx) (q := (RX5, TX5, 9)) ⟨hx, hb, hml, hown, hts⟩ (c_X5_refuse5 l G cy (s.heap).size qx qt qk qp qs qa qr iKp iYe iTv fR) L_X5_56 hN hP hD hS hA [0, 1] [false, false, true, true, true, true, true, true, true, true, true, true, true, true, true, true, true, true, true, true, true, true, true, true, true, true, true, true, true, true] rfl (by decide +kernel) rfl 0 4 rfl rfl rfl ⟨Nat.le_of_ble_eq_true rfl, Nat.le_of_ble_eq_true rfl⟩ hl.1 (Nat.le_of_ble_eq_true rfl) dX5_keeping_89 ⟨Nat.le_of_ble_eq_true rfl, Nat.le_of_ble_eq_true rfl⟩ (fun r_19 u_21 H locs h_20 => ?_)
        clear hP hD hS
        intro hP hD hS
        obtain ⟨fX_22, rfl, h_20⟩ := h_20
        have hPD := pd_as [_, _, _, _, _, _, _, _, _, _, _, _, _, _, _, _, _, _, _, _, _, _, _, _, _, _, _, _, _, zzI cy qr 5 fX_22] hP hD rfl
        clear hP hD
        obtain ⟨hP, hD⟩ := hPD
        subst h_20
        refine lv_ldcw hx hb hown (hts _ m_t705) dX5_keeping_92 ?_
        refine lv_isub hx hb dX5_keeping_95 ?_
        refine lv_seti (v := (-1000005)) (by decide +kernel) ?_
        exact endW (u := [zzO qx 4 [.ref qt, .ref qk, .ref qp, .ref qs, .ref qa, .ref qr, .int iKp, .int iYe, .int iTv], zzI cy qr 5 fX_22, zzO qt 3 [.int (nI (T_nb tA)), .int (nI (T_np tA)), .int (wb (T_wh tA)), .int (wb (T_gn tA)), .int (T_sd tA), .ref qtw, .ref qtn, .ref qtg, .ref qta, .ref qtr, .ref qtm, .ref qtt, .ref qts], zzI cy qtw 8 (T_wo tA), zzI cy qtn 8 (T_ne tA), zzI cy qtg 8 (T_go tA), zzI cy qta 8 (T_ag tA), zzI cy qtr 8 (T_re tA), zzI cy qtm 8 (T_me tA), zzI cy qtt 8 (T_te tA), zzI cy qts 64 (shF (T_kn tA)), zzO qp 0 [.ref qu, .ref qv, .int iL, .int iBs], zzO qu 3 [.int (nI (T_nb tU)), .int (nI (T_np tU)), .int (wb (T_wh tU)), .int (wb (T_gn tU)), .int (T_sd tU), .ref quw, .ref qun, .ref qug, .ref qua, .ref qur, .ref qum, .ref qut, .ref qus], zzI cy quw 8 (T_wo tU), zzI cy qun 8 (T_ne tU), zzI cy qug 8 (T_go tU), zzI cy qua 8 (T_ag tU), zzI cy qur 8 (T_re tU), zzI cy qum 8 (T_me tU), zzI cy qut 8 (T_te tU), zzI cy qus 64 (shF (T_kn tU)), zzO qv 3 [.int (nI (T_nb tV)), .int (nI (T_np tV)), .int (wb (T_wh tV)), .int (wb (T_gn tV)), .int (T_sd tV), .ref qvw, .ref qvn, .ref qvg, .ref qva, .ref qvr, .ref qvm, .ref qvt, .ref qvs], zzI cy qvw 8 (T_wo tV), zzI cy qvn 8 (T_ne tV), zzI cy qvg 8 (T_go tV), zzI cy qva 8 (T_ag tV), zzI cy qvr 8 (T_re tV), zzI cy qvm 8 (T_me tV), zzI cy qvt 8 (T_te tV), zzI cy qvs 64 (shF (T_kn tV))]) hx hb hr hlocks rfl (pSb hP [[false, false, false, false, false, false, false, false, false, false, false, false, false, false, false, false, false, false, false, false, false, false, false, false, false, false, false, false, true, true], [true, true, true, true, true, true, true, true, true, true, true, true, true, true, true, true, true, true, true, true, true, true, true, true, true, true, true, true]] rfl rfl) (dSb hD [[false, false, false, false, false, false, false, false, false, false, false, false, false, false, false, false, false, false, false, false, false, false, false, false, false, false, false, false, true, true], [true, true, true, true, true, true, true, true, true, true, true, true, true, true, true, true, true, true, true, true, true, true, true, true, true, true, true, true]] (by decide +kernel) rfl rfl) hS ⟨fX_22, iL, iBs, tU, tV, rfl, Or.inr ⟨k_4, hk_5, rfl, h_9, by rw [nI_clamp (by omega)]; exact kp_w h_16⟩, trivial⟩ dX5_keeping_96
      · rw [bit_wb _ (by omega)] at h_16
        refine lv_if_ne (tgt := 70) hx hb dX5_keeping_47 (by decide +kernel) (fun h9 => absurd (by decide +kernel) h9) (fun _ => ?_)
        refine lv_aload_n hx hb dX5_keeping_50 rfl (lv_at hl 0 rfl) ?_
        refine va_get (D := G) (ci := 4) (v := .ref qp) (C := RX5) (T := TX5) (N := 9) hx hb hts iX_X5 hown hK hP 0 rfl rfl 2 (by decide +kernel) (hts _ m_t176) (fun _ h9 => h9) rfl dX5_keeping_51 ?_
        refine lv_aload_n hx hb dX5_keeping_54 rfl (lv_at hl 0 rfl) ?_
        refine va_get (D := G) (ci := 4) (v := .ref qt) (C := RX5) (T := TX5) (N := 9) hx hb hts iX_X5 hown hK hP 0 rfl rfl 0 (by decide +kernel) (hts _ m_t174) (fun _ h9 => h9) rfl dX5_keeping_55 ?_
        refine lv_iload_n hx hb dX5_keeping_58 rfl (lv_at hl 1 rfl) ?_
        refine lv_iload_n hx hb dX5_keeping_59 rfl (lv_at hl 2 rfl) ?_
        refine cVi (As := [.ref qt, .int (nI k_4), .int (nI k_10)]) (rest := []) (b := qp) (q := (RX0, TX0, 4)) ⟨hx, hb, hml, hown, hts⟩ (c_X0_findKeeping l G cy (s.heap).size qp qu qv iL iBs tU quw qun qug qua qur qum qut qus tV qvw qvn qvg qva qvr qvm qvt qvs qt tA qtw qtn qtg qta qtr qtm qtt qts k_4 k_10 hB hPp (by omega) (by omega) (by omega)) L_X5_287 hN hP hD hS hA (trueIxs [[false, false, false, false, false, false, false, false, false, false, false, true, true, true, true, true, true, true, true, true, true, true, true, true, true, true, true, true, true, true], [false, false, true, true, true, true, true, true, true, true, true]]) [true, true, false, false, false, false, false, false, false, false, false, false, false, false, false, false, false, false, false, false, false, false, false, false, false, false, false, false, false, false] (sels_eq rfl rfl) (by decide +kernel) rfl 11 0 rfl rfl rfl ⟨Nat.le_of_ble_eq_true rfl, Nat.le_of_ble_eq_true rfl⟩ hl.1 (Nat.le_of_ble_eq_true rfl) dX5_keeping_60 ⟨Nat.le_of_ble_eq_true rfl, Nat.le_of_ble_eq_true rfl⟩ (fun r_24 u_26 H locs h_25 => ?_)
        clear hP hD hS
        intro hP hD hS
        obtain ⟨tX_27, tY_28, rfl, h_25⟩ := h_25
        have hPD := pd_as [_, _, zzO qp 0 [.ref qu, .ref qv, .int iL, .int ((zfk tA k_4 k_10 iBs).2)], zzO qu 3 [.int (nI (T_nb tX_27)), .int (nI (T_np tX_27)), .int (wb (T_wh tX_27)), .int (wb (T_gn tX_27)), .int (T_sd tX_27), .ref quw, .ref qun, .ref qug, .ref qua, .ref qur, .ref qum, .ref qut, .ref qus], zzI cy quw 8 (T_wo tX_27), zzI cy qun 8 (T_ne tX_27), zzI cy qug 8 (T_go tX_27), zzI cy qua 8 (T_ag tX_27), zzI cy qur 8 (T_re tX_27), zzI cy qum 8 (T_me tX_27), zzI cy qut 8 (T_te tX_27), zzI cy qus 64 (shF (T_kn tX_27)), zzO qv 3 [.int (nI (T_nb tY_28)), .int (nI (T_np tY_28)), .int (wb (T_wh tY_28)), .int (wb (T_gn tY_28)), .int (T_sd tY_28), .ref qvw, .ref qvn, .ref qvg, .ref qva, .ref qvr, .ref qvm, .ref qvt, .ref qvs], zzI cy qvw 8 (T_wo tY_28), zzI cy qvn 8 (T_ne tY_28), zzI cy qvg 8 (T_go tY_28), zzI cy qva 8 (T_ag tY_28), zzI cy qvr 8 (T_re tY_28), zzI cy qvm 8 (T_me tY_28), zzI cy qvt 8 (T_te tY_28), zzI cy qvs 64 (shF (T_kn tY_28)), _, _, _, _, _, _, _, _, _] hP hD rfl
        clear hP hD
        obtain ⟨hP, hD⟩ := hPD
        subst h_25
        refine lv_if_eq (tgt := 70) hx hb dX5_keeping_63 (by decide +kernel) (fun c_29 => ?_) (fun c_29 => ?_)
        · refine lv_iconst (v := 0) hx hb dX5_keeping_70 (by decide +kernel) ?_
          refine lv_istore_n (lv' := [(3, .int 0), (0, .ref qx), (1, .int (nI k_4)), (2, .int (nI k_10))]) hx hb dX5_keeping_71 rfl hl (by decide +kernel) rfl (fun ls => ?_)
          clear hl
          intro hl
          refine lv_iload_n hx hb dX5_keeping_72 rfl (lv_at hl 0 rfl) ?_
          refine lv_if_eq (tgt := 86) hx hb dX5_keeping_73 (by decide +kernel) (fun _ => ?_) (fun h9 => absurd (by decide +kernel) h9)
          refine lv_aload_n hx hb dX5_keeping_86 rfl (lv_at hl 1 rfl) ?_
          refine lv_bipush (v := (-5)) hx hb dX5_keeping_87 (by decide +kernel) ?_
          refine cVi (As := [.int (-5)]) (rest := []) (b := qx) (q := (RX5, TX5, 9)) ⟨hx, hb, hml, hown, hts⟩ (c_X5_refuse5 l G cy (H).size qx qt qk qp qs qa qr iKp iYe iTv fR) L_X5_56 hN hP hD hS hA [0, 1] [false, false, true, true, true, true, true, true, true, true, true, true, true, true, true, true, true, true, true, true, true, true, true, true, true, true, true, true, true, true] rfl (by decide +kernel) rfl 0 4 rfl rfl rfl ⟨Nat.le_of_ble_eq_true rfl, Nat.le_of_ble_eq_true rfl⟩ hl.1 (Nat.le_of_ble_eq_true rfl) dX5_keeping_89 ⟨Nat.le_of_ble_eq_true rfl, Nat.le_of_ble_eq_true rfl⟩ (fun r_31 u_33 H locs h_32 => ?_)
          clear hP hD hS
          intro hP hD hS
          obtain ⟨fX_34, rfl, h_32⟩ := h_32
          have hPD := pd_as [_, _, _, _, _, _, _, _, _, _, _, _, _, _, _, _, _, _, _, _, _, _, _, _, _, _, _, _, _, zzI cy qr 5 fX_34] hP hD rfl
          clear hP hD
          obtain ⟨hP, hD⟩ := hPD
          subst h_32
          refine lv_ldcw hx hb hown (hts _ m_t705) dX5_keeping_92 ?_
          refine lv_isub hx hb dX5_keeping_95 ?_
          refine lv_seti (v := (-1000005)) (by decide +kernel) ?_
          exact endW (u := [zzO qx 4 [.ref qt, .ref qk, .ref qp, .ref qs, .ref qa, .ref qr, .int iKp, .int iYe, .int iTv], zzI cy qr 5 fX_34, zzO qt 3 [.int (nI (T_nb tA)), .int (nI (T_np tA)), .int (wb (T_wh tA)), .int (wb (T_gn tA)), .int (T_sd tA), .ref qtw, .ref qtn, .ref qtg, .ref qta, .ref qtr, .ref qtm, .ref qtt, .ref qts], zzI cy qtw 8 (T_wo tA), zzI cy qtn 8 (T_ne tA), zzI cy qtg 8 (T_go tA), zzI cy qta 8 (T_ag tA), zzI cy qtr 8 (T_re tA), zzI cy qtm 8 (T_me tA), zzI cy qtt 8 (T_te tA), zzI cy qts 64 (shF (T_kn tA)), zzO qp 0 [.ref qu, .ref qv, .int iL, .int ((zfk tA k_4 k_10 iBs).2)], zzO qu 3 [.int (nI (T_nb tX_27)), .int (nI (T_np tX_27)), .int (wb (T_wh tX_27)), .int (wb (T_gn tX_27)), .int (T_sd tX_27), .ref quw, .ref qun, .ref qug, .ref qua, .ref qur, .ref qum, .ref qut, .ref qus], zzI cy quw 8 (T_wo tX_27), zzI cy qun 8 (T_ne tX_27), zzI cy qug 8 (T_go tX_27), zzI cy qua 8 (T_ag tX_27), zzI cy qur 8 (T_re tX_27), zzI cy qum 8 (T_me tX_27), zzI cy qut 8 (T_te tX_27), zzI cy qus 64 (shF (T_kn tX_27)), zzO qv 3 [.int (nI (T_nb tY_28)), .int (nI (T_np tY_28)), .int (wb (T_wh tY_28)), .int (wb (T_gn tY_28)), .int (T_sd tY_28), .ref qvw, .ref qvn, .ref qvg, .ref qva, .ref qvr, .ref qvm, .ref qvt, .ref qvs], zzI cy qvw 8 (T_wo tY_28), zzI cy qvn 8 (T_ne tY_28), zzI cy qvg 8 (T_go tY_28), zzI cy qva 8 (T_ag tY_28), zzI cy qvr 8 (T_re tY_28), zzI cy qvm 8 (T_me tY_28), zzI cy qvt 8 (T_te tY_28), zzI cy qvs 64 (shF (T_kn tY_28))]) hx hb hr hlocks rfl (pSb hP [[false, false, false, false, false, false, false, false, false, false, false, false, false, false, false, false, false, false, false, false, false, false, false, false, false, false, false, false, true, true], [false, false, false, false, false, false, false, false, false, false, false, false, false, false, false, false, false, false, false, true, true, true, true, true, true, true, true, true], [true, true, true, true, true, true, true, true, true, true, true, true, true, true, true, true, true, true, true]] rfl rfl) (dSb hD [[false, false, false, false, false, false, false, false, false, false, false, false, false, false, false, false, false, false, false, false, false, false, false, false, false, false, false, false, true, true], [false, false, false, false, false, false, false, false, false, false, false, false, false, false, false, false, false, false, false, true, true, true, true, true, true, true, true, true], [true, true, true, true, true, true, true, true, true, true, true, true, true, true, true, true, true, true, true]] (by decide +kernel) rfl rfl) hS ⟨fX_34, iL, (zfk tA k_4 k_10 iBs).2, tX_27, tY_28, rfl, Or.inr ⟨k_4, hk_5, rfl, h_9, by rw [nI_clamp (by omega)]; exact kf_0 h_16 c_29⟩, trivial⟩ dX5_keeping_96
        · refine lv_iconst (v := 1) hx hb dX5_keeping_66 (by decide +kernel) ?_
          refine lv_goto (tgt := 71) hx hb dX5_keeping_67 (by decide +kernel) ?_
          refine lv_istore_n (lv' := [(3, .int 1), (0, .ref qx), (1, .int (nI k_4)), (2, .int (nI k_10))]) hx hb dX5_keeping_71 rfl hl (by decide +kernel) rfl (fun ls => ?_)
          clear hl
          intro hl
          refine lv_iload_n hx hb dX5_keeping_72 rfl (lv_at hl 0 rfl) ?_
          refine lv_if_eq (tgt := 86) hx hb dX5_keeping_73 (by decide +kernel) (fun h9 => absurd h9 (by decide +kernel)) (fun _ => ?_)
          refine lv_aload_n hx hb dX5_keeping_76 rfl (lv_at hl 1 rfl) ?_
          refine va_get (D := G) (ci := 4) (v := .ref qp) (C := RX5) (T := TX5) (N := 9) hx hb hts iX_X5 hown hK hP 0 rfl rfl 2 (by decide +kernel) (hts _ m_t176) (fun _ h9 => h9) rfl dX5_keeping_77 ?_
          refine va_getN (D := G) (ci := 0) (v := .int ((zfk tA k_4 k_10 iBs).2)) (C := RX0) (T := TX0) (N := 4) hx hb hts iX_X0 hown hK hP 2 rfl rfl 3 (by decide +kernel) (va_Nw.use rfl (hN.2.1 (RX5, 291, "EachBookOnce$Plans", "bestSum", "I") (List.mem_of_getElem? (i := 25) rfl))) (fun _ h9 => h9) rfl dX5_keeping_80 ?_
          refine lv_goto (tgt := 96) hx hb dX5_keeping_83 (by decide +kernel) ?_
          exact endW (u := [zzO qx 4 [.ref qt, .ref qk, .ref qp, .ref qs, .ref qa, .ref qr, .int iKp, .int iYe, .int iTv], zzI cy qr 5 fR, zzO qt 3 [.int (nI (T_nb tA)), .int (nI (T_np tA)), .int (wb (T_wh tA)), .int (wb (T_gn tA)), .int (T_sd tA), .ref qtw, .ref qtn, .ref qtg, .ref qta, .ref qtr, .ref qtm, .ref qtt, .ref qts], zzI cy qtw 8 (T_wo tA), zzI cy qtn 8 (T_ne tA), zzI cy qtg 8 (T_go tA), zzI cy qta 8 (T_ag tA), zzI cy qtr 8 (T_re tA), zzI cy qtm 8 (T_me tA), zzI cy qtt 8 (T_te tA), zzI cy qts 64 (shF (T_kn tA)), zzO qp 0 [.ref qu, .ref qv, .int iL, .int ((zfk tA k_4 k_10 iBs).2)], zzO qu 3 [.int (nI (T_nb tX_27)), .int (nI (T_np tX_27)), .int (wb (T_wh tX_27)), .int (wb (T_gn tX_27)), .int (T_sd tX_27), .ref quw, .ref qun, .ref qug, .ref qua, .ref qur, .ref qum, .ref qut, .ref qus], zzI cy quw 8 (T_wo tX_27), zzI cy qun 8 (T_ne tX_27), zzI cy qug 8 (T_go tX_27), zzI cy qua 8 (T_ag tX_27), zzI cy qur 8 (T_re tX_27), zzI cy qum 8 (T_me tX_27), zzI cy qut 8 (T_te tX_27), zzI cy qus 64 (shF (T_kn tX_27)), zzO qv 3 [.int (nI (T_nb tY_28)), .int (nI (T_np tY_28)), .int (wb (T_wh tY_28)), .int (wb (T_gn tY_28)), .int (T_sd tY_28), .ref qvw, .ref qvn, .ref qvg, .ref qva, .ref qvr, .ref qvm, .ref qvt, .ref qvs], zzI cy qvw 8 (T_wo tY_28), zzI cy qvn 8 (T_ne tY_28), zzI cy qvg 8 (T_go tY_28), zzI cy qva 8 (T_ag tY_28), zzI cy qvr 8 (T_re tY_28), zzI cy qvm 8 (T_me tY_28), zzI cy qvt 8 (T_te tY_28), zzI cy qvs 64 (shF (T_kn tY_28))]) hx hb hr hlocks rfl (pSb hP [[true, true, false, false, false, false, false, false, false, false, false, false, false, false, false, false, false, false, false, false, false, true, true, true, true, true, true, true, true, true], [false, false, true, true, true, true, true, true, true, true, true, true, true, true, true, true, true, true, true, true, true]] rfl rfl) (dSb hD [[true, true, false, false, false, false, false, false, false, false, false, false, false, false, false, false, false, false, false, false, false, true, true, true, true, true, true, true, true, true], [false, false, true, true, true, true, true, true, true, true, true, true, true, true, true, true, true, true, true, true, true]] (by decide +kernel) rfl rfl) hS ⟨fR, iL, (zfk tA k_4 k_10 iBs).2, tX_27, tY_28, rfl, Or.inr ⟨k_4, hk_5, rfl, h_9, by rw [nI_clamp (by omega)]; exact kf_1 h_16 c_29⟩, trivial⟩ dX5_keeping_96
    · refine lv_if_ne (tgt := 36) hx hb dX5_keeping_22 (by decide +kernel) (fun h9 => absurd (by decide +kernel) h9) (fun _ => ?_)
      refine lv_aload_n hx hb dX5_keeping_25 rfl (lv_at hl 0 rfl) ?_
      refine lv_bipush (v := (-2)) hx hb dX5_keeping_26 (by decide +kernel) ?_
      refine cVi (As := [.int (-2)]) (rest := []) (b := qx) (q := (RX5, TX5, 9)) ⟨hx, hb, hml, hown, hts⟩ (c_X5_refuse2 l G cy (s.heap).size qx qt qk qp qs qa qr iKp iYe iTv fR) L_X5_56 hN hP hD hS hA [0, 1] [false, false, true, true, true, true, true, true, true, true, true, true, true, true, true, true, true, true, true, true, true, true, true, true, true, true, true, true, true, true] rfl (by decide +kernel) rfl 0 4 rfl rfl rfl ⟨Nat.le_of_ble_eq_true rfl, Nat.le_of_ble_eq_true rfl⟩ hl.1 (Nat.le_of_ble_eq_true rfl) dX5_keeping_28 ⟨Nat.le_of_ble_eq_true rfl, Nat.le_of_ble_eq_true rfl⟩ (fun r_37 u_39 H locs h_38 => ?_)
      clear hP hD hS
      intro hP hD hS
      obtain ⟨fX_40, rfl, h_38⟩ := h_38
      have hPD := pd_as [_, _, _, _, _, _, _, _, _, _, _, _, _, _, _, _, _, _, _, _, _, _, _, _, _, _, _, _, _, zzI cy qr 5 fX_40] hP hD rfl
      clear hP hD
      obtain ⟨hP, hD⟩ := hPD
      subst h_38
      refine lv_ldcw hx hb hown (hts _ m_t705) dX5_keeping_31 ?_
      refine lv_isub hx hb dX5_keeping_34 ?_
      refine lv_seti (v := (-1000002)) (by decide +kernel) ?_
      exact endWs [[false, false, false, false, false, false, false, false, false, false, false, false, false, false, false, false, false, false, false, false, false, false, false, false, false, false, false, false, true, true], [true, true, true, true, true, true, true, true, true, true, true, true, true, true, true, true, true, true, true, true, true, true, true, true, true, true, true, true]] hx hb hr hlocks rfl hP hD rfl (by decide +kernel) hS ⟨fX_40, iL, iBs, tU, tV, rfl, Or.inl ⟨rfl, fun q => h_9 q.2⟩, trivial⟩ dX5_keeping_35
  · refine lv_if_eq (tgt := 25) hx hb dX5_keeping_8 (by decide +kernel) (fun _ => ?_) (fun h9 => absurd (by decide +kernel) h9)
    refine lv_aload_n hx hb dX5_keeping_25 rfl (lv_at hl 0 rfl) ?_
    refine lv_bipush (v := (-2)) hx hb dX5_keeping_26 (by decide +kernel) ?_
    refine cVi (As := [.int (-2)]) (rest := []) (b := qx) (q := (RX5, TX5, 9)) ⟨hx, hb, hml, hown, hts⟩ (c_X5_refuse2 l G cy (s.heap).size qx qt qk qp qs qa qr iKp iYe iTv fR) L_X5_56 hN hP hD hS hA [0, 1] [false, false, true, true, true, true, true, true, true, true, true, true, true, true, true, true, true, true, true, true, true, true, true, true, true, true, true, true, true, true] rfl (by decide +kernel) rfl 0 4 rfl rfl rfl ⟨Nat.le_of_ble_eq_true rfl, Nat.le_of_ble_eq_true rfl⟩ hl.1 (Nat.le_of_ble_eq_true rfl) dX5_keeping_28 ⟨Nat.le_of_ble_eq_true rfl, Nat.le_of_ble_eq_true rfl⟩ (fun r_42 u_44 H locs h_43 => ?_)
    clear hP hD hS
    intro hP hD hS
    obtain ⟨fX_45, rfl, h_43⟩ := h_43
    have hPD := pd_as [_, _, _, _, _, _, _, _, _, _, _, _, _, _, _, _, _, _, _, _, _, _, _, _, _, _, _, _, _, zzI cy qr 5 fX_45] hP hD rfl
    clear hP hD
    obtain ⟨hP, hD⟩ := hPD
    subst h_43
    refine lv_ldcw hx hb hown (hts _ m_t705) dX5_keeping_31 ?_
    refine lv_isub hx hb dX5_keeping_34 ?_
    refine lv_seti (v := (-1000002)) (by decide +kernel) ?_
    exact endWs [[false, false, false, false, false, false, false, false, false, false, false, false, false, false, false, false, false, false, false, false, false, false, false, false, false, false, false, false, true, true], [true, true, true, true, true, true, true, true, true, true, true, true, true, true, true, true, true, true, true, true, true, true, true, true, true, true, true, true]] hx hb hr hlocks rfl hP hD rfl (by decide +kernel) hS ⟨fX_45, iL, iBs, tU, tV, rfl, Or.inl ⟨rfl, fun q => h_3 q.1⟩, trivial⟩ dX5_keeping_35
set_option maxHeartbeats 4000000 in
set_option maxRecDepth 100000 in
theorem x_X6_keeping (l : Launch) (G : va_G) (cy : Nat → ClassId) (sz : Nat) (qm : Nat) (qmh : Nat) (qmo : Nat) (qmz : Nat) (qmR : Nat) (qmv : Nat) (qmk : Nat) (qma : Nat) (qmt : Nat) (kZ : Nat) (qmr : Nat) (tA : TA) (qmB : Nat) (qmO : Nat) (qmK : Nat) (iEn : Int32) (iTk : Int32) (uP : UM) (uU : UM) (kAt : Nat) (iTo : Int32) (iFr : Int32) (JFi : Int64) (iFa : Int32) (qm3 : Nat) (iSt : Int32) (iLv : Int32) (iWs : Int32) (wL : UL) (qmu : Nat) (qmy : Nat) (qmb : Nat) (qms : Nat) (iOm : Int32) (fMr : Nat → Int32) (rB : Nat → Nat) (rO : Nat → Nat) (rK : Nat → Nat) (iA : Int32) (iB : Int32)  (hB : T_nb tA ≤ 8) (hPp : T_np tA ≤ 8) (hTI : TI tA) (hWI : WI tA) : MW l yX6_keeping cX6_keeping 4 (some .int) 18 200 3552 G cy ([zzO qm 5 [.ref qmh, .ref qmo, .ref qmz, .ref qmR, .ref qmv, .ref qmk, .ref qma, .ref qmt, .int (nI kZ), .ref qmr, .int (nI (T_nb tA)), .ref qmB, .int (nI (T_np tA)), .ref qmO, .ref qmK, .int iEn, .int iTk, .int (T_sd tA), ov uP, ov uU, .int (nI kAt), .int iTo, .int iFr, .long JFi, .int iFa, .ref qm3, .int iSt, .int iLv, .int iWs, ovL wL, .ref qmu, .ref qmy, .ref qmb, .ref qms, .int iOm], zzI cy qmr 8 fMr, zzG cy 3 qmB rB, zzI cy (rB 0) 4 (bkR tA 0), zzI cy (rB 1) 4 (bkR tA 1), zzI cy (rB 2) 4 (bkR tA 2), zzI cy (rB 3) 4 (bkR tA 3), zzI cy (rB 4) 4 (bkR tA 4), zzI cy (rB 5) 4 (bkR tA 5), zzI cy (rB 6) 4 (bkR tA 6), zzI cy (rB 7) 4 (bkR tA 7), zzG cy 3 qmO rO, zzI cy (rO 0) 5 (onR tA 0), zzI cy (rO 1) 5 (onR tA 1), zzI cy (rO 2) 5 (onR tA 2), zzI cy (rO 3) 5 (onR tA 3), zzI cy (rO 4) 5 (onR tA 4), zzI cy (rO 5) 5 (onR tA 5), zzI cy (rO 6) 5 (onR tA 6), zzI cy (rO 7) 5 (onR tA 7), zzG cy 3 qmK rK, zzI cy (rK 0) 8 (T_kn tA 0), zzI cy (rK 1) 8 (T_kn tA 1), zzI cy (rK 2) 8 (T_kn tA 2), zzI cy (rK 3) 8 (T_kn tA 3), zzI cy (rK 4) 8 (T_kn tA 4), zzI cy (rK 5) 8 (T_kn tA 5), zzI cy (rK 6) 8 (T_kn tA 6), zzI cy (rK 7) 8 (T_kn tA 7)] ++ (oM cy uU ++ oL cy wL)) sz [.ref qm, .int iA, .int iB] (Wi G (fun r u => ∃ (uN : UM) (wN : UL) (iNw : Int32) (fNr : Nat → Int32), u = ([zzO qm 5 [.ref qmh, .ref qmo, .ref qmz, .ref qmR, .ref qmv, .ref qmk, .ref qma, .ref qmt, .int (nI kZ), .ref qmr, .int (nI (T_nb tA)), .ref qmB, .int (nI (T_np tA)), .ref qmO, .ref qmK, .int iEn, .int iTk, .int (T_sd tA), ov uP, ov uN, .int (nI kAt), .int iTo, .int iFr, .long JFi, .int iFa, .ref qm3, .int iSt, .int iLv, .int iNw, ovL wN, .ref qmu, .ref qmy, .ref qmb, .ref qms, .int iOm], zzI cy qmr 8 fNr, zzG cy 3 qmB rB, zzI cy (rB 0) 4 (bkR tA 0), zzI cy (rB 1) 4 (bkR tA 1), zzI cy (rB 2) 4 (bkR tA 2), zzI cy (rB 3) 4 (bkR tA 3), zzI cy (rB 4) 4 (bkR tA 4), zzI cy (rB 5) 4 (bkR tA 5), zzI cy (rB 6) 4 (bkR tA 6), zzI cy (rB 7) 4 (bkR tA 7), zzG cy 3 qmO rO, zzI cy (rO 0) 5 (onR tA 0), zzI cy (rO 1) 5 (onR tA 1), zzI cy (rO 2) 5 (onR tA 2), zzI cy (rO 3) 5 (onR tA 3), zzI cy (rO 4) 5 (onR tA 4), zzI cy (rO 5) 5 (onR tA 5), zzI cy (rO 6) 5 (onR tA 6), zzI cy (rO 7) 5 (onR tA 7), zzG cy 3 qmK rK, zzI cy (rK 0) 8 (T_kn tA 0), zzI cy (rK 1) 8 (T_kn tA 1), zzI cy (rK 2) 8 (T_kn tA 2), zzI cy (rK 3) 8 (T_kn tA 3), zzI cy (rK 4) 8 (T_kn tA 4), zzI cy (rK 5) 8 (T_kn tA 5), zzI cy (rK 6) 8 (T_kn tA 6), zzI cy (rK 7) 8 (T_kn tA 7)] ++ (oM cy uN ++ oL cy wN)) ∧ (PQk tA iA iB r) ∧ (True))) := by
  refine enW RX6 (by decide +kernel) rfl (Nat.le_of_ble_eq_true rfl) (fun p e s m below meth c ls A hx hb hml hown hts hr hlocks hP hN hl hin hD hA hS => ?_)
  have hin : meth.name = _ := hin
  have hK := hN.1
  replace hl : lv_has ls 4 [(0, .ref qm), (1, .int iA), (2, .int iB)] := hl
  refine lv_aload_n hx hb dX6_keeping_0 rfl (lv_at hl 0 rfl) ?_
  refine lv_iload_n hx hb dX6_keeping_1 rfl (lv_at hl 1 rfl) ?_
  refine lv_i2l (v := iA.toInt64) hx hb dX6_keeping_2 rfl ?_
  refine kRi (rV (As := [.long iA.toInt64]) (rest := []) (b := qm) ⟨hx, hb, hml, hown, hts⟩ (c_X6_isBook l G cy qm (.ref qmh) (.ref qmo) (.ref qmz) (.ref qmR) (.ref qmv) (.ref qmk) (.ref qma) (.ref qmt) (.int (nI kZ)) (.ref qmr) tA qmB qmO qmK iEn iTk (ov uP) (ov uU) (.int (nI kAt)) (.int iTo) (.int iFr) (.long JFi) (.int iFa) (.ref qm3) (.int iSt) iLv iWs (ovL wL) (.ref qmu) (.ref qmy) (.ref qmb) (.ref qms) (.int iOm) iA hB) L_X6_229 (preRV (q := (RX6, TX6, 35)) hN hP [0] rfl 0 5 rfl rfl) rfl ⟨Nat.le_of_ble_eq_true rfl, Nat.le_of_ble_eq_true rfl⟩ hl.1 (Nat.le_of_ble_eq_true rfl) dX6_keeping_3 ⟨Nat.le_of_ble_eq_true rfl, Nat.le_of_ble_eq_true rfl⟩) (fun r_1 h_2 => ?_)
  rcases h_2 with ⟨rfl, h_3⟩ | ⟨rfl, h_3⟩
  · obtain ⟨k_4, hk_5, rfl⟩ := h_3
    refine lv_if_eq (tgt := 23) hx hb dX6_keeping_6 (by decide +kernel) (fun h9 => absurd h9 (by decide +kernel)) (fun _ => ?_)
    refine lv_iload_n hx hb dX6_keeping_9 rfl (lv_at hl 2 rfl) ?_
    refine lv_i2l (v := iB.toInt64) hx hb dX6_keeping_10 rfl ?_
    refine lv_ldc2 hx hb hown (hts _ m_t1307) dX6_keeping_11 ?_
    refine lv_ldc2 hx hb hown (hts _ m_t1268) dX6_keeping_14 ?_
    refine kRi (rS (As := [.long iB.toInt64, .long 2, .long 60]) (rest := []) ⟨hx, hb, hml, hown, hts⟩ (c_X6_in l G cy iB.toInt64 2 60) L_X6_74 (preRS hN hP [] rfl) rfl ⟨Nat.le_of_ble_eq_true rfl, Nat.le_of_ble_eq_true rfl⟩ hl.1 (Nat.le_of_ble_eq_true rfl) dX6_keeping_17 ⟨Nat.le_of_ble_eq_true rfl, Nat.le_of_ble_eq_true rfl⟩) (fun r_7 h_8 => ?_)
    rcases h_8 with ⟨rfl, h_9⟩ | ⟨rfl, h_9⟩
    · obtain ⟨k_10, hk_11, hk_12, rfl⟩ := iv_nI 2 60 (by decide +kernel) (by decide +kernel) h_9
      refine lv_if_ne (tgt := 34) hx hb dX6_keeping_20 (by decide +kernel) (fun _ => ?_) (fun h9 => absurd h9 (by decide +kernel))
      refine lv_aload_n hx hb dX6_keeping_34 rfl (lv_at hl 0 rfl) ?_
      refine lv_iload_n hx hb dX6_keeping_35 rfl (lv_at hl 1 rfl) ?_
      refine kRi (rV (As := [.int (nI k_4)]) (rest := []) (b := qm) ⟨hx, hb, hml, hown, hts⟩ (c_X6_isWhite l G cy qm (.ref qmh) (.ref qmo) (.ref qmz) (.ref qmR) (.ref qmv) (.ref qmk) (.ref qma) (.ref qmt) (.int (nI kZ)) (.ref qmr) tA qmB qmO qmK iEn iTk (ov uP) (ov uU) (.int (nI kAt)) (.int iTo) (.int iFr) (.long JFi) (.int iFa) (.ref qm3) (.int iSt) iLv iWs (ovL wL) (.ref qmu) (.ref qmy) (.ref qmb) (.ref qms) (.int iOm) rB k_4 (by omega)) L_X6_248 (preRV (q := (RX6, TX6, 35)) hN hP (trueIx 0 [true, false, true, true, true, true, true, true, true, true, true]) (sel_fm rfl rfl) 0 5 rfl rfl) rfl ⟨Nat.le_of_ble_eq_true rfl, Nat.le_of_ble_eq_true rfl⟩ hl.1 (Nat.le_of_ble_eq_true rfl) dX6_keeping_36 ⟨Nat.le_of_ble_eq_true rfl, Nat.le_of_ble_eq_true rfl⟩) (fun r_14 h_15 => ?_)
      rcases h_15 with ⟨rfl, h_16⟩ | ⟨rfl, h_16⟩
      · refine lv_if_ne (tgt := 52) hx hb dX6_keeping_39 (by decide +kernel) (fun _ => ?_) (fun h9 => absurd h9 (by decide +kernel))
        refine lv_aload_n hx hb dX6_keeping_52 rfl (lv_at hl 0 rfl) ?_
        refine lv_bipush (v := (-5)) hx hb dX6_keeping_53 (by decide +kernel) ?_
        refine cViQ (As := [.int (-5)]) (rest := []) (b := qm) (q := (RX6, TX6, 35)) ⟨hx, hb, hml, hown, hts⟩ (c_X6_refuse5 l G cy (s.heap).size qm (.ref qmh) (.ref qmo) (.ref qmz) (.ref qmR) (.ref qmv) (.ref qmk) (.ref qma) (.ref qmt) (.int (nI kZ)) qmr tA qmB qmO qmK iEn iTk (ov uP) (ov uU) (.int (nI kAt)) (.int iTo) (.int iFr) (.long JFi) (.int iFa) (.ref qm3) (.int iSt) iLv iWs (ovL wL) (.ref qmu) (.ref qmy) (.ref qmb) (.ref qms) (.int iOm) fMr) L_X6_91 hN hP hD hS hA [0, 1] [false, false, true, true, true, true, true, true, true, true, true, true, true, true, true, true, true, true, true, true, true, true, true, true, true, true, true, true, true] rfl (by decide +kernel) rfl 0 5 rfl rfl rfl ⟨Nat.le_of_ble_eq_true rfl, Nat.le_of_ble_eq_true rfl⟩ hl.1 (Nat.le_of_ble_eq_true rfl) dX6_keeping_55 ⟨Nat.le_of_ble_eq_true rfl, Nat.le_of_ble_eq_true rfl⟩ (fun r_18 u_20 H locs h_19 => ?_)
        clear hP hD hS
        intro hP hD hS
        obtain ⟨fX_21, rfl, h_19⟩ := h_19
        have hPD := pd_as (([_, _, _, _, _, _, _, _, _, _, _, _, _, _, _, _, _, _, _, _, _, _, _, _, _, _, _, _, zzI cy qmr 8 fX_21] : va_W) ++ (oM cy uU ++ oL cy wL)) hP hD rfl
        clear hP hD
        obtain ⟨hP, hD⟩ := hPD
        subst h_19
        refine lv_ldcw hx hb hown (hts _ m_t1290) dX6_keeping_58 ?_
        refine lv_isub hx hb dX6_keeping_61 ?_
        refine lv_seti (v := (-1000005)) (by decide +kernel) ?_
        refine W.widen (k := 200) (n := 3552) (Nat.le_of_ble_eq_true rfl) (Nat.le_of_ble_eq_true rfl) ?_
        exact endW (u := ([zzO qm 5 [.ref qmh, .ref qmo, .ref qmz, .ref qmR, .ref qmv, .ref qmk, .ref qma, .ref qmt, .int (nI kZ), .ref qmr, .int (nI (T_nb tA)), .ref qmB, .int (nI (T_np tA)), .ref qmO, .ref qmK, .int iEn, .int iTk, .int (T_sd tA), ov uP, ov uU, .int (nI kAt), .int iTo, .int iFr, .long JFi, .int iFa, .ref qm3, .int iSt, .int iLv, .int iWs, ovL wL, .ref qmu, .ref qmy, .ref qmb, .ref qms, .int iOm], zzI cy qmr 8 fX_21, zzG cy 3 qmB rB, zzI cy (rB 0) 4 (bkR tA 0), zzI cy (rB 1) 4 (bkR tA 1), zzI cy (rB 2) 4 (bkR tA 2), zzI cy (rB 3) 4 (bkR tA 3), zzI cy (rB 4) 4 (bkR tA 4), zzI cy (rB 5) 4 (bkR tA 5), zzI cy (rB 6) 4 (bkR tA 6), zzI cy (rB 7) 4 (bkR tA 7), zzG cy 3 qmO rO, zzI cy (rO 0) 5 (onR tA 0), zzI cy (rO 1) 5 (onR tA 1), zzI cy (rO 2) 5 (onR tA 2), zzI cy (rO 3) 5 (onR tA 3), zzI cy (rO 4) 5 (onR tA 4), zzI cy (rO 5) 5 (onR tA 5), zzI cy (rO 6) 5 (onR tA 6), zzI cy (rO 7) 5 (onR tA 7), zzG cy 3 qmK rK, zzI cy (rK 0) 8 (T_kn tA 0), zzI cy (rK 1) 8 (T_kn tA 1), zzI cy (rK 2) 8 (T_kn tA 2), zzI cy (rK 3) 8 (T_kn tA 3), zzI cy (rK 4) 8 (T_kn tA 4), zzI cy (rK 5) 8 (T_kn tA 5), zzI cy (rK 6) 8 (T_kn tA 6), zzI cy (rK 7) 8 (T_kn tA 7)] ++ (oM cy uU ++ oL cy wL))) hx hb hr hlocks rfl (pPt hP [[false, false, false, false, false, false, false, false, false, false, false, false, false, false, false, false, false, false, false, false, false, false, false, false, false, false, false, true, true], [true, true, true, true, true, true, true, true, true, true, true, true, true, true, true, true, true, true, true, true, true, true, true, true, true, true, true]] rfl rfl) (dPt hD [[false, false, false, false, false, false, false, false, false, false, false, false, false, false, false, false, false, false, false, false, false, false, false, false, false, false, false, true, true], [true, true, true, true, true, true, true, true, true, true, true, true, true, true, true, true, true, true, true, true, true, true, true, true, true, true, true]] (by decide +kernel) rfl rfl) hS ⟨(uU), (wL), iWs, fX_21, rfl, Or.inr ⟨k_4, hk_5, rfl, h_9, by rw [nI_clamp (by omega)]; exact kp_w h_16⟩, trivial⟩ dX6_keeping_62
      · refine lv_if_ne (tgt := 52) hx hb dX6_keeping_39 (by decide +kernel) (fun h9 => absurd (by decide +kernel) h9) (fun _ => ?_)
        refine lv_aload_n hx hb dX6_keeping_42 rfl (lv_at hl 0 rfl) ?_
        refine lv_iload_n hx hb dX6_keeping_43 rfl (lv_at hl 1 rfl) ?_
        refine lv_iload_n hx hb dX6_keeping_44 rfl (lv_at hl 2 rfl) ?_
        replace hP := al_P hP
        replace hD := al_D hD
        refine cViPQ (As := [.int (nI k_4), .int (nI k_10)]) (rest := []) (b := qm) (q := (RX6, TX6, 35)) ⟨hx, hb, hml, hown, hts⟩ (x_X6_findWho l G cy (s.heap).size qm (.ref qmh) (.ref qmo) (.ref qmz) (.ref qmR) (.ref qmv) (.ref qmk) (.ref qma) (.ref qmt) (.int (nI kZ)) (.ref qmr) tA qmB qmO qmK iEn iTk (ov uP) uU (.int (nI kAt)) (.int iTo) (.int iFr) (.long JFi) (.int iFa) (.ref qm3) (.int iSt) iLv iWs (ovL wL) (.ref qmu) (.ref qmy) (.ref qmb) (.ref qms) (.int iOm) rB rO rK k_4 k_10 (by omega) (by omega) hB hPp hWI (by omega)) L_X6_315 hN hP hD hS hA (trueIx 0 [true, false, true, true, true, true, true, true, true, true, true, true, true, true, true, true, true, true, true, true, true, true, true, true, true, true, true, true, true]) [false, true, false, false, false, false, false, false, false, false, false, false, false, false, false, false, false, false, false, false, false, false, false, false, false, false, false, false, false] (sel_eq rfl rfl) (by decide +kernel) rfl 0 5 rfl rfl rfl ⟨Nat.le_of_ble_eq_true rfl, Nat.le_of_ble_eq_true rfl⟩ hl.1 (Nat.le_of_ble_eq_true rfl) dX6_keeping_45 ⟨Nat.le_of_ble_eq_true rfl, Nat.le_of_ble_eq_true rfl⟩ (fun r_23 u_25 H locs h_24 => ?_)
        clear hP hD hS
        intro hP hD hS
        obtain ⟨uN_26, iNw_27, rfl, h_28, h_24⟩ := h_24
        replace hP := as1P hP
        replace hD := as1D hD
        have hPD := pd_as (([_, zzO qm 5 [.ref qmh, .ref qmo, .ref qmz, .ref qmR, .ref qmv, .ref qmk, .ref qma, .ref qmt, .int (nI kZ), .ref qmr, .int (nI (T_nb tA)), .ref qmB, .int (nI (T_np tA)), .ref qmO, .ref qmK, .int iEn, .int iTk, .int (T_sd tA), ov uP, ov uN_26, .int (nI kAt), .int iTo, .int iFr, .long JFi, .int iFa, .ref qm3, .int iSt, .int iLv, .int iNw_27, ovL wL, .ref qmu, .ref qmy, .ref qmb, .ref qms, .int iOm], _, _, _, _, _, _, _, _, _, _, _, _, _, _, _, _, _, _, _, _, _, _, _, _, _, _, _] : va_W) ++ (oM cy uN_26 ++ oL cy wL)) hP hD rfl
        clear hP hD
        obtain ⟨hP, hD⟩ := hPD
        refine W.widen (k := 50) (n := 888) (Nat.le_of_ble_eq_true rfl) (Nat.le_of_ble_eq_true rfl) ?_
        refine lv_iconst (v := (-1)) hx hb dX6_keeping_48 (by decide +kernel) ?_
        refine lv_icmp_ne (tgt := 63) hx hb dX6_keeping_49 (by decide +kernel) (fun c_29 => ?_) (fun c_29 => ?_)
        · refine lv_aload_n hx hb dX6_keeping_63 rfl (lv_at hl 0 rfl) ?_
          refine va_get (D := G) (ci := 5) (v := ovL wL) (C := RX6) (T := TX6) (N := 35) hx hb hts iX_X6 hown hK hP 1 rfl rfl 29 (by decide +kernel) (hts _ m_t879) (fun _ h9 => h9) rfl dX6_keeping_64 ?_
          rcases ul_or wL with eL_44 | ⟨qL_30, qLB_31, qLO_32, qLK_33, rLB_34, rLO_35, rLK_36, tL_37, xL_38, iEnL_39, iTkL_40, iLvL_41, iWsL_42, uW_43, eL_44⟩
          · rw [eL_44] at hP hD
            replace hP := kl0P hP
            replace hD := kl0D hD
            have hPD := pd_as (([_, zzO qm 5 [.ref qmh, .ref qmo, .ref qmz, .ref qmR, .ref qmv, .ref qmk, .ref qma, .ref qmt, .int (nI kZ), .ref qmr, .int (nI (T_nb tA)), .ref qmB, .int (nI (T_np tA)), .ref qmO, .ref qmK, .int iEn, .int iTk, .int (T_sd tA), ov uP, ov uN_26, .int (nI kAt), .int iTo, .int iFr, .long JFi, .int iFa, .ref qm3, .int iSt, .int iLv, .int iNw_27, .null, .ref qmu, .ref qmy, .ref qmb, .ref qms, .int iOm], _, _, _, _, _, _, _, _, _, _, _, _, _, _, _, _, _, _, _, _, _, _, _, _, _, _, _] : va_W) ++ oM cy uN_26) hP hD rfl
            clear hP hD
            obtain ⟨hP, hD⟩ := hPD
            refine lv_setv (v := .null) (by rw [eL_44]; rfl) ?_
            refine lv_ifnonnullN hx hb dX6_keeping_67 ?_
            refine lv_aload_n hx hb dX6_keeping_70 rfl (lv_at hl 0 rfl) ?_
            refine va_new (ci := 5) (fs := [.null, .null, .null, .null, .null, .null, .null, .null, .int 0, .null, .int 0, .null, .int 0, .null, .null, .int 0, .int 0, .int 0, .null, .null, .int 0, .int 0, .int 0, .long 0, .int 0, .null, .int 0, .int 0, .int 0, .null, .null, .null, .null, .null, .int 0]) (C := RX6) (T := TX6) (N := 35) hx hb hts iX_X6 tyX6 tyX6_ok hown (hts _ m_t848) (hts _ m_t839) (hts _ m_t6) hK hP hD hS hA rfl df_X6 (Nat.le_of_ble_eq_true rfl) (Nat.le_of_ble_eq_true rfl) dX6_keeping_71 (fun q_45 H => ?_)
            clear hP hD hS
            intro hP hD hS
            replace hP := va_P.swap hP
            replace hD := va_D.swap hD
            have hPD := pd_as (([_, _, _, _, _, _, _, _, _, _, _, _, _, _, _, _, _, _, _, _, _, _, _, _, _, _, _, _, _, zzO q_45 5 [.null, .null, .null, .null, .null, .null, .null, .null, .int 0, .null, .int 0, .null, .int 0, .null, .null, .int 0, .int 0, .int 0, .null, .null, .int 0, .int 0, .int 0, .long 0, .int 0, .null, .int 0, .int 0, .int 0, .null, .null, .null, .null, .null, .int 0]] : va_W) ++ oM cy uN_26) hP hD rfl
            clear hP hD
            obtain ⟨hP, hD⟩ := hPD
            refine W.widen (k := 51) (n := 923) (Nat.le_of_ble_eq_true rfl) (Nat.le_of_ble_eq_true rfl) ?_
            refine lv_dup hx hb dX6_keeping_74 rfl ?_
            refine cIvQ (As := []) (rest := [.ref q_45, .ref qm]) (b := q_45) ⟨hx, hb, hml, hown, hts⟩ (c_X6_initL l G cy (H).size q_45) L_X6_291 hN hP hD hS hA [29] [true, true, true, true, true, true, true, true, true, true, true, true, true, true, true, true, true, true, true, true, true, true, true, true, true, true, true, true, true, false] rfl (by decide +kernel) rfl rfl ⟨Nat.le_of_ble_eq_true rfl, Nat.le_of_ble_eq_true rfl⟩ hl.1 (Nat.le_of_ble_eq_true rfl) dX6_keeping_75 ⟨Nat.le_of_ble_eq_true rfl, Nat.le_of_ble_eq_true rfl⟩ (fun u_48 H locs h_47 => ?_)
            clear hP hD hS
            intro hP hD hS
            obtain ⟨qmB_49, qmO_50, qmK_51, rB_52, rO_53, rK_54, xF_55, rfl⟩ := h_47
            have hPD := pd_as (([_, _, _, _, _, _, _, _, _, _, _, _, _, _, _, _, _, _, _, _, _, _, _, _, _, _, _, _, _, zzO q_45 5 [xF_55 0, xF_55 1, xF_55 2, xF_55 3, xF_55 4, xF_55 5, xF_55 6, xF_55 7, xF_55 8, xF_55 9, .int (nI (T_nb T0)), .ref qmB_49, .int (nI (T_np T0)), .ref qmO_50, .ref qmK_51, .int 0, .int 0, .int (T_sd T0), xF_55 18, .null, xF_55 20, xF_55 21, xF_55 22, xF_55 23, xF_55 24, xF_55 25, xF_55 26, .int 0, .int 0, xF_55 29, xF_55 30, xF_55 31, xF_55 32, xF_55 33, xF_55 34], zzG cy 3 qmB_49 rB_52, zzI cy (rB_52 0) 4 (bkR T0 0), zzI cy (rB_52 1) 4 (bkR T0 1), zzI cy (rB_52 2) 4 (bkR T0 2), zzI cy (rB_52 3) 4 (bkR T0 3), zzI cy (rB_52 4) 4 (bkR T0 4), zzI cy (rB_52 5) 4 (bkR T0 5), zzI cy (rB_52 6) 4 (bkR T0 6), zzI cy (rB_52 7) 4 (bkR T0 7), zzG cy 3 qmO_50 rO_53, zzI cy (rO_53 0) 5 (onR T0 0), zzI cy (rO_53 1) 5 (onR T0 1), zzI cy (rO_53 2) 5 (onR T0 2), zzI cy (rO_53 3) 5 (onR T0 3), zzI cy (rO_53 4) 5 (onR T0 4), zzI cy (rO_53 5) 5 (onR T0 5), zzI cy (rO_53 6) 5 (onR T0 6), zzI cy (rO_53 7) 5 (onR T0 7), zzG cy 3 qmK_51 rK_54, zzI cy (rK_54 0) 8 (T_kn T0 0), zzI cy (rK_54 1) 8 (T_kn T0 1), zzI cy (rK_54 2) 8 (T_kn T0 2), zzI cy (rK_54 3) 8 (T_kn T0 3), zzI cy (rK_54 4) 8 (T_kn T0 4), zzI cy (rK_54 5) 8 (T_kn T0 5), zzI cy (rK_54 6) 8 (T_kn T0 6), zzI cy (rK_54 7) 8 (T_kn T0 7)] : va_W) ++ oM cy uN_26) hP hD rfl
            clear hP hD
            obtain ⟨hP, hD⟩ := hPD
            refine W.widen (k := 100) (n := 1776) (Nat.le_of_ble_eq_true rfl) (Nat.le_of_ble_eq_true rfl) ?_
            refine va_put (D := G) (ci := 5) (v := .ref q_45) (ty := (.object "EachBookOnceModel")) (C := RX6) (T := TX6) (N := 35) hx hb hts iX_X6 tyX6 tyX6_ok nmX6 hown hK hP hD hS 1 rfl rfl 29 (by decide +kernel) (hts _ m_t879) (fun _ h9 => h9) rfl (by decide +kernel) rfl rfl (Nat.le_of_ble_eq_true rfl) dX6_keeping_78 (fun H locs => ?_)
            clear hP hD hS
            intro hP hD hS
            have hPD := pd_as (([_, zzO qm 5 [.ref qmh, .ref qmo, .ref qmz, .ref qmR, .ref qmv, .ref qmk, .ref qma, .ref qmt, .int (nI kZ), .ref qmr, .int (nI (T_nb tA)), .ref qmB, .int (nI (T_np tA)), .ref qmO, .ref qmK, .int iEn, .int iTk, .int (T_sd tA), ov uP, ov uN_26, .int (nI kAt), .int iTo, .int iFr, .long JFi, .int iFa, .ref qm3, .int iSt, .int iLv, .int iNw_27, .ref q_45, .ref qmu, .ref qmy, .ref qmb, .ref qms, .int iOm], _, _, _, _, _, _, _, _, _, _, _, _, _, _, _, _, _, _, _, _, _, _, _, _, _, _, _, _, _, _, _, _, _, _, _, _, _, _, _, _, _, _, _, _, _, _, _, _, _, _, _, _, _, _, _] : va_W) ++ oM cy uN_26) hP hD rfl
            clear hP hD
            obtain ⟨hP, hD⟩ := hPD
            refine lv_aload_n hx hb dX6_keeping_81 rfl (lv_at hl 0 rfl) ?_
            refine va_get (D := G) (ci := 5) (v := .ref q_45) (C := RX6) (T := TX6) (N := 35) hx hb hts iX_X6 hown hK hP 1 rfl rfl 29 (by decide +kernel) (hts _ m_t879) (fun _ h9 => h9) rfl dX6_keeping_82 ?_
            refine lv_aload_n hx hb dX6_keeping_85 rfl (lv_at hl 0 rfl) ?_
            refine cVvQ (As := [.ref qm]) (rest := []) (b := q_45) (q := (RX6, TX6, 35)) ⟨hx, hb, hml, hown, hts⟩ (c_X6_takeFrom l G cy (H).size q_45 (xF_55 0) (xF_55 1) (xF_55 2) (xF_55 3) (xF_55 4) (xF_55 5) (xF_55 6) (xF_55 7) (xF_55 8) (xF_55 9) T0 qmB_49 qmO_50 qmK_51 0 0 (xF_55 18) .null (xF_55 20) (xF_55 21) (xF_55 22) (xF_55 23) (xF_55 24) (xF_55 25) (xF_55 26) 0 0 (xF_55 29) (xF_55 30) (xF_55 31) (xF_55 32) (xF_55 33) (xF_55 34) rB_52 rO_53 rK_54 qm (.ref qmh) (.ref qmo) (.ref qmz) (.ref qmR) (.ref qmv) (.ref qmk) (.ref qma) (.ref qmt) (.int (nI kZ)) (.ref qmr) tA qmB qmO qmK iEn iTk (ov uP) (ov uN_26) (.int (nI kAt)) (.int iTo) (.int iFr) (.long JFi) (.int iFa) (.ref qm3) (.int iSt) iLv iNw_27 (.ref q_45) (.ref qmu) (.ref qmy) (.ref qmb) (.ref qms) (.int iOm) rB rO rK) L_X6_225 hN hP hD hS hA (trueIxs [[false, false, false, false, false, false, false, false, false, false, false, false, false, false, false, false, false, false, false, false, false, false, false, false, false, false, false, false, false, true, true, true, true, true, true, true, true, true, true, true, true, true, true, true, true, true, true, true, true, true, true, true, true, true, true, true, true], [false, true, true, true, true, true, true, true, true, true, true, true, true, true, true, true, true, true, true, true, true, true, true, true, true, true, true, true, true]]) [true, false, false, false, false, false, false, false, false, false, false, false, false, false, false, false, false, false, false, false, false, false, false, false, false, false, false, false, false, false, false, false, false, false, false, false, false, false, false, false, false, false, false, false, false, false, false, false, false, false, false, false, false, false, false, false, false] (sels_eq rfl rfl) (by decide +kernel) rfl 29 5 rfl rfl rfl ⟨Nat.le_of_ble_eq_true rfl, Nat.le_of_ble_eq_true rfl⟩ hl.1 (Nat.le_of_ble_eq_true rfl) dX6_keeping_86 ⟨Nat.le_of_ble_eq_true rfl, Nat.le_of_ble_eq_true rfl⟩ (fun u_58 H locs h_57 => ?_)
            clear hP hD hS
            intro hP hD hS
            subst h_57
            have hPD := pd_as (([_, zzO q_45 5 [xF_55 0, xF_55 1, xF_55 2, xF_55 3, xF_55 4, xF_55 5, xF_55 6, xF_55 7, xF_55 8, xF_55 9, .int (nI (T_nb tA)), .ref qmB_49, .int (nI (T_np tA)), .ref qmO_50, .ref qmK_51, .int iEn, .int iTk, .int (T_sd tA), xF_55 18, .null, xF_55 20, xF_55 21, xF_55 22, xF_55 23, xF_55 24, xF_55 25, xF_55 26, .int 0, .int 0, xF_55 29, xF_55 30, xF_55 31, xF_55 32, xF_55 33, xF_55 34], _, zzI cy (rB_52 0) 4 (bkR tA 0), zzI cy (rB_52 1) 4 (bkR tA 1), zzI cy (rB_52 2) 4 (bkR tA 2), zzI cy (rB_52 3) 4 (bkR tA 3), zzI cy (rB_52 4) 4 (bkR tA 4), zzI cy (rB_52 5) 4 (bkR tA 5), zzI cy (rB_52 6) 4 (bkR tA 6), zzI cy (rB_52 7) 4 (bkR tA 7), _, zzI cy (rO_53 0) 5 (onR tA 0), zzI cy (rO_53 1) 5 (onR tA 1), zzI cy (rO_53 2) 5 (onR tA 2), zzI cy (rO_53 3) 5 (onR tA 3), zzI cy (rO_53 4) 5 (onR tA 4), zzI cy (rO_53 5) 5 (onR tA 5), zzI cy (rO_53 6) 5 (onR tA 6), zzI cy (rO_53 7) 5 (onR tA 7), _, zzI cy (rK_54 0) 8 (T_kn tA 0), zzI cy (rK_54 1) 8 (T_kn tA 1), zzI cy (rK_54 2) 8 (T_kn tA 2), zzI cy (rK_54 3) 8 (T_kn tA 3), zzI cy (rK_54 4) 8 (T_kn tA 4), zzI cy (rK_54 5) 8 (T_kn tA 5), zzI cy (rK_54 6) 8 (T_kn tA 6), zzI cy (rK_54 7) 8 (T_kn tA 7), _, _, _, _, _, _, _, _, _, _, _, _, _, _, _, _, _, _, _, _, _, _, _, _, _, _, _, _] : va_W) ++ oM cy uN_26) hP hD rfl
            clear hP hD
            obtain ⟨hP, hD⟩ := hPD
            refine lv_aload_n hx hb dX6_keeping_89 rfl (lv_at hl 0 rfl) ?_
            refine va_get (D := G) (ci := 5) (v := .ref q_45) (C := RX6) (T := TX6) (N := 35) hx hb hts iX_X6 hown hK hP 29 rfl rfl 29 (by decide +kernel) (hts _ m_t879) (fun _ h9 => h9) rfl dX6_keeping_90 ?_
            refine lv_iconst (v := (-1)) hx hb dX6_keeping_93 (by decide +kernel) ?_
            refine lv_iconst (v := 0) hx hb dX6_keeping_94 (by decide +kernel) ?_
            refine lv_iconst (v := 1) hx hb dX6_keeping_95 (by decide +kernel) ?_
            refine cViQ (As := [.int (-1), .int 0, .int 1]) (rest := []) (b := q_45) (q := (RX6, TX6, 35)) ⟨hx, hb, hml, hown, hts⟩ (x_X6_goes01 l G cy (H).size q_45 (xF_55 0) (xF_55 1) (xF_55 2) (xF_55 3) (xF_55 4) (xF_55 5) (xF_55 6) (xF_55 7) (xF_55 8) (xF_55 9) tA qmB_49 qmO_50 qmK_51 iEn iTk (xF_55 18) .null (xF_55 20) (xF_55 21) (xF_55 22) (xF_55 23) (xF_55 24) (xF_55 25) (xF_55 26) 0 0 (xF_55 29) (xF_55 30) (xF_55 31) (xF_55 32) (xF_55 33) (xF_55 34) rB_52 rO_53 rK_54 hB hPp hWI) L_X6_295 hN hP hD hS hA (trueIx 0 [false, true, true, true, true, true, true, true, true, true, true, true, true, true, true, true, true, true, true, true, true, true, true, true, true, true, true, true, true]) [true, false, false, false, false, false, false, false, false, false, false, false, false, false, false, false, false, false, false, false, false, false, false, false, false, false, false, false, false, true, true, true, true, true, true, true, true, true, true, true, true, true, true, true, true, true, true, true, true, true, true, true, true, true, true, true, true] (sel_eq rfl rfl) (by decide +kernel) rfl 1 5 rfl rfl rfl ⟨Nat.le_of_ble_eq_true rfl, Nat.le_of_ble_eq_true rfl⟩ hl.1 (Nat.le_of_ble_eq_true rfl) dX6_keeping_96 ⟨Nat.le_of_ble_eq_true rfl, Nat.le_of_ble_eq_true rfl⟩ (fun r_59 u_61 H locs h_60 => ?_)
            clear hP hD hS
            intro hP hD hS
            obtain ⟨tX_62, iX_63, iY_64, rfl, h_65, h_66, h_60⟩ := h_60
            have hPD := pd_as (([_, _, _, _, _, _, _, _, _, _, _, _, _, _, _, _, _, _, _, _, _, _, _, _, _, _, _, _, _, zzO q_45 5 [xF_55 0, xF_55 1, xF_55 2, xF_55 3, xF_55 4, xF_55 5, xF_55 6, xF_55 7, xF_55 8, xF_55 9, .int (nI (T_nb tX_62)), .ref qmB_49, .int (nI (T_np tX_62)), .ref qmO_50, .ref qmK_51, .int iX_63, .int iTk, .int (T_sd tX_62), xF_55 18, .null, xF_55 20, xF_55 21, xF_55 22, xF_55 23, xF_55 24, xF_55 25, xF_55 26, .int iY_64, .int 0, xF_55 29, xF_55 30, xF_55 31, xF_55 32, xF_55 33, xF_55 34], _, zzI cy (rB_52 0) 4 (bkR tX_62 0), zzI cy (rB_52 1) 4 (bkR tX_62 1), zzI cy (rB_52 2) 4 (bkR tX_62 2), zzI cy (rB_52 3) 4 (bkR tX_62 3), zzI cy (rB_52 4) 4 (bkR tX_62 4), zzI cy (rB_52 5) 4 (bkR tX_62 5), zzI cy (rB_52 6) 4 (bkR tX_62 6), zzI cy (rB_52 7) 4 (bkR tX_62 7), _, zzI cy (rO_53 0) 5 (onR tX_62 0), zzI cy (rO_53 1) 5 (onR tX_62 1), zzI cy (rO_53 2) 5 (onR tX_62 2), zzI cy (rO_53 3) 5 (onR tX_62 3), zzI cy (rO_53 4) 5 (onR tX_62 4), zzI cy (rO_53 5) 5 (onR tX_62 5), zzI cy (rO_53 6) 5 (onR tX_62 6), zzI cy (rO_53 7) 5 (onR tX_62 7), _, zzI cy (rK_54 0) 8 (T_kn tX_62 0), zzI cy (rK_54 1) 8 (T_kn tX_62 1), zzI cy (rK_54 2) 8 (T_kn tX_62 2), zzI cy (rK_54 3) 8 (T_kn tX_62 3), zzI cy (rK_54 4) 8 (T_kn tX_62 4), zzI cy (rK_54 5) 8 (T_kn tX_62 5), zzI cy (rK_54 6) 8 (T_kn tX_62 6), zzI cy (rK_54 7) 8 (T_kn tX_62 7)] : va_W) ++ oM cy uN_26) hP hD rfl
            clear hP hD
            obtain ⟨hP, hD⟩ := hPD
            refine lv_istore_n (lv' := [(3, .int r_59), (0, .ref qm), (1, .int (nI k_4)), (2, .int (nI k_10))]) hx hb dX6_keeping_99 rfl hl (by decide +kernel) rfl (fun ls => ?_)
            clear hl
            intro hl
            refine lv_aload_n hx hb dX6_keeping_100 rfl (lv_at hl 1 rfl) ?_
            refine va_get (D := G) (ci := 5) (v := .ref q_45) (C := RX6) (T := TX6) (N := 35) hx hb hts iX_X6 hown hK hP 1 rfl rfl 29 (by decide +kernel) (hts _ m_t879) (fun _ h9 => h9) rfl dX6_keeping_101 ?_
            refine lv_iload_n hx hb dX6_keeping_104 rfl (lv_at hl 2 rfl) ?_
            refine lv_iload_n hx hb dX6_keeping_105 rfl (lv_at hl 3 rfl) ?_
            refine lv_iconst (v := 1) hx hb dX6_keeping_106 (by decide +kernel) ?_
            refine lv_isub hx hb dX6_keeping_107 ?_
            refine lv_seti (v := nI (k_10 - 1)) (nI_sub1 (by omega)) ?_
            refine cViQ (As := [.int (nI k_4), .int (nI (k_10 - 1))]) (rest := []) (b := q_45) (q := (RX6, TX6, 35)) ⟨hx, hb, hml, hown, hts⟩ (x_X6_findWho l G cy (H).size q_45 (xF_55 0) (xF_55 1) (xF_55 2) (xF_55 3) (xF_55 4) (xF_55 5) (xF_55 6) (xF_55 7) (xF_55 8) (xF_55 9) tX_62 qmB_49 qmO_50 qmK_51 iX_63 iTk (xF_55 18) none (xF_55 20) (xF_55 21) (xF_55 22) (xF_55 23) (xF_55 24) (xF_55 25) (xF_55 26) iY_64 0 (xF_55 29) (xF_55 30) (xF_55 31) (xF_55 32) (xF_55 33) (xF_55 34) rB_52 rO_53 rK_54 k_4 (k_10 - 1) (by omega) (by omega) (by have := h_65.2.1; omega) (by have := h_65.2.2; omega) h_66.1 (by have := h_65.2.1; omega)) L_X6_315 hN hP hD hS hA (trueIx 0 [false, false, false, false, false, false, false, false, false, false, false, false, false, false, false, false, false, false, false, false, false, false, false, false, false, false, false, false, false, true, true, true, true, true, true, true, true, true, true, true, true, true, true, true, true, true, true, true, true, true, true, true, true, true, true, true, true]) [true, true, true, true, true, true, true, true, true, true, true, true, true, true, true, true, true, true, true, true, true, true, true, true, true, true, true, true, true, false, false, false, false, false, false, false, false, false, false, false, false, false, false, false, false, false, false, false, false, false, false, false, false, false, false, false, false] (sel_eq rfl rfl) (by decide +kernel) rfl 29 5 rfl rfl rfl ⟨Nat.le_of_ble_eq_true rfl, Nat.le_of_ble_eq_true rfl⟩ hl.1 (Nat.le_of_ble_eq_true rfl) dX6_keeping_108 ⟨Nat.le_of_ble_eq_true rfl, Nat.le_of_ble_eq_true rfl⟩ (fun r_67 u_69 H locs h_68 => ?_)
            clear hP hD hS
            intro hP hD hS
            obtain ⟨uN_70, iNw_71, rfl, h_72, h_68⟩ := h_68
            replace hP := as1P hP
            replace hD := as1D hD
            have hPD := pd_as (([_, _, _, _, _, _, _, _, _, _, _, _, _, _, _, _, _, _, _, _, _, _, _, _, _, _, _, _, _, zzO q_45 5 [xF_55 0, xF_55 1, xF_55 2, xF_55 3, xF_55 4, xF_55 5, xF_55 6, xF_55 7, xF_55 8, xF_55 9, .int (nI (T_nb tX_62)), .ref qmB_49, .int (nI (T_np tX_62)), .ref qmO_50, .ref qmK_51, .int iX_63, .int iTk, .int (T_sd tX_62), xF_55 18, ov uN_70, xF_55 20, xF_55 21, xF_55 22, xF_55 23, xF_55 24, xF_55 25, xF_55 26, .int iY_64, .int iNw_71, xF_55 29, xF_55 30, xF_55 31, xF_55 32, xF_55 33, xF_55 34], _, _, _, _, _, _, _, _, _, _, _, _, _, _, _, _, _, _, _, _, _, _, _, _, _, _, _] : va_W) ++ (oM cy uN_70 ++ oM cy uN_26)) hP hD rfl
            clear hP hD
            obtain ⟨hP, hD⟩ := hPD
            refine W.widen (k := 150) (n := 2664) (Nat.le_of_ble_eq_true rfl) (Nat.le_of_ble_eq_true rfl) ?_
            refine lv_iconst (v := (-1)) hx hb dX6_keeping_111 (by decide +kernel) ?_
            refine lv_icmp_ne (tgt := 126) hx hb dX6_keeping_112 (by decide +kernel) (fun c_73 => ?_) (fun c_73 => ?_)
            · refine lv_iload_n hx hb dX6_keeping_126 rfl (lv_at hl 0 rfl) ?_
              refine lv_aload_n hx hb dX6_keeping_127 rfl (lv_at hl 1 rfl) ?_
              refine va_get (D := G) (ci := 5) (v := .ref q_45) (C := RX6) (T := TX6) (N := 35) hx hb hts iX_X6 hown hK hP 1 rfl rfl 29 (by decide +kernel) (hts _ m_t879) (fun _ h9 => h9) rfl dX6_keeping_128 ?_
              refine va_get (D := G) (ci := 5) (v := .int iNw_71) (C := RX6) (T := TX6) (N := 35) hx hb hts iX_X6 hown hK hP 29 rfl rfl 28 (by decide +kernel) (hts _ m_t878) (fun _ h9 => h9) rfl dX6_keeping_131 ?_
              refine lv_iadd hx hb dX6_keeping_134 ?_
              refine lv_aload_n hx hb dX6_keeping_135 rfl (lv_at hl 1 rfl) ?_
              refine va_get (D := G) (ci := 5) (v := .int iNw_27) (C := RX6) (T := TX6) (N := 35) hx hb hts iX_X6 hown hK hP 1 rfl rfl 28 (by decide +kernel) (hts _ m_t878) (fun _ h9 => h9) rfl dX6_keeping_136 ?_
              refine lv_isub hx hb dX6_keeping_139 ?_
              have hPD := pt_as [zzI cy qmr 8 fMr, zzO qm 5 [.ref qmh, .ref qmo, .ref qmz, .ref qmR, .ref qmv, .ref qmk, .ref qma, .ref qmt, .int (nI kZ), .ref qmr, .int (nI (T_nb tA)), .ref qmB, .int (nI (T_np tA)), .ref qmO, .ref qmK, .int iEn, .int iTk, .int (T_sd tA), ov uP, ov uN_26, .int (nI kAt), .int iTo, .int iFr, .long JFi, .int iFa, .ref qm3, .int iSt, .int iLv, .int iNw_27, .ref q_45, .ref qmu, .ref qmy, .ref qmb, .ref qms, .int iOm], zzG cy 3 qmB rB, zzI cy (rB 0) 4 (bkR tA 0), zzI cy (rB 1) 4 (bkR tA 1), zzI cy (rB 2) 4 (bkR tA 2), zzI cy (rB 3) 4 (bkR tA 3), zzI cy (rB 4) 4 (bkR tA 4), zzI cy (rB 5) 4 (bkR tA 5), zzI cy (rB 6) 4 (bkR tA 6), zzI cy (rB 7) 4 (bkR tA 7), zzG cy 3 qmO rO, zzI cy (rO 0) 5 (onR tA 0), zzI cy (rO 1) 5 (onR tA 1), zzI cy (rO 2) 5 (onR tA 2), zzI cy (rO 3) 5 (onR tA 3), zzI cy (rO 4) 5 (onR tA 4), zzI cy (rO 5) 5 (onR tA 5), zzI cy (rO 6) 5 (onR tA 6), zzI cy (rO 7) 5 (onR tA 7), zzG cy 3 qmK rK, zzI cy (rK 0) 8 (T_kn tA 0), zzI cy (rK 1) 8 (T_kn tA 1), zzI cy (rK 2) 8 (T_kn tA 2), zzI cy (rK 3) 8 (T_kn tA 3), zzI cy (rK 4) 8 (T_kn tA 4), zzI cy (rK 5) 8 (T_kn tA 5), zzI cy (rK 6) 8 (T_kn tA 6), zzI cy (rK 7) 8 (T_kn tA 7), zzO q_45 5 [xF_55 0, xF_55 1, xF_55 2, xF_55 3, xF_55 4, xF_55 5, xF_55 6, xF_55 7, xF_55 8, xF_55 9, .int (nI (T_nb tX_62)), .ref qmB_49, .int (nI (T_np tX_62)), .ref qmO_50, .ref qmK_51, .int iX_63, .int iTk, .int (T_sd tX_62), xF_55 18, ov uN_70, xF_55 20, xF_55 21, xF_55 22, xF_55 23, xF_55 24, xF_55 25, xF_55 26, .int iY_64, .int iNw_71, xF_55 29, xF_55 30, xF_55 31, xF_55 32, xF_55 33, xF_55 34], zzG cy 3 qmB_49 rB_52, zzI cy (rB_52 0) 4 (bkR tX_62 0), zzI cy (rB_52 1) 4 (bkR tX_62 1), zzI cy (rB_52 2) 4 (bkR tX_62 2), zzI cy (rB_52 3) 4 (bkR tX_62 3), zzI cy (rB_52 4) 4 (bkR tX_62 4), zzI cy (rB_52 5) 4 (bkR tX_62 5), zzI cy (rB_52 6) 4 (bkR tX_62 6), zzI cy (rB_52 7) 4 (bkR tX_62 7), zzG cy 3 qmO_50 rO_53, zzI cy (rO_53 0) 5 (onR tX_62 0), zzI cy (rO_53 1) 5 (onR tX_62 1), zzI cy (rO_53 2) 5 (onR tX_62 2), zzI cy (rO_53 3) 5 (onR tX_62 3), zzI cy (rO_53 4) 5 (onR tX_62 4), zzI cy (rO_53 5) 5 (onR tX_62 5), zzI cy (rO_53 6) 5 (onR tX_62 6), zzI cy (rO_53 7) 5 (onR tX_62 7), zzG cy 3 qmK_51 rK_54, zzI cy (rK_54 0) 8 (T_kn tX_62 0), zzI cy (rK_54 1) 8 (T_kn tX_62 1), zzI cy (rK_54 2) 8 (T_kn tX_62 2), zzI cy (rK_54 3) 8 (T_kn tX_62 3), zzI cy (rK_54 4) 8 (T_kn tX_62 4), zzI cy (rK_54 5) 8 (T_kn tX_62 5), zzI cy (rK_54 6) 8 (T_kn tX_62 6), zzI cy (rK_54 7) 8 (T_kn tX_62 7)] [0, 1, 2, 3, 4, 5, 6, 7, 8, 9, 10, 11, 12, 13, 14, 15, 16, 17, 18, 19, 20, 21, 22, 23, 24, 25, 26, 27, 28, 29, 30, 31, 32, 33, 34, 35, 36, 37, 38, 39, 40, 41, 42, 43, 44, 45, 46, 47, 48, 49, 50, 51, 52, 53, 54, 55, 56] hP hD (by decide +kernel) rfl
              clear hP hD
              obtain ⟨hP, hD⟩ := hPD
              have hPD := pd_as (([zzI cy qmr 8 fMr, zzO qm 5 [.ref qmh, .ref qmo, .ref qmz, .ref qmR, .ref qmv, .ref qmk, .ref qma, .ref qmt, .int (nI kZ), .ref qmr, .int (nI (T_nb tA)), .ref qmB, .int (nI (T_np tA)), .ref qmO, .ref qmK, .int iEn, .int iTk, .int (T_sd tA), ov uP, ov uN_26, .int (nI kAt), .int iTo, .int iFr, .long JFi, .int iFa, .ref qm3, .int iSt, .int iLv, .int iNw_27, .ref q_45, .ref qmu, .ref qmy, .ref qmb, .ref qms, .int iOm], zzG cy 3 qmB rB, zzI cy (rB 0) 4 (bkR tA 0), zzI cy (rB 1) 4 (bkR tA 1), zzI cy (rB 2) 4 (bkR tA 2), zzI cy (rB 3) 4 (bkR tA 3), zzI cy (rB 4) 4 (bkR tA 4), zzI cy (rB 5) 4 (bkR tA 5), zzI cy (rB 6) 4 (bkR tA 6), zzI cy (rB 7) 4 (bkR tA 7), zzG cy 3 qmO rO, zzI cy (rO 0) 5 (onR tA 0), zzI cy (rO 1) 5 (onR tA 1), zzI cy (rO 2) 5 (onR tA 2), zzI cy (rO 3) 5 (onR tA 3), zzI cy (rO 4) 5 (onR tA 4), zzI cy (rO 5) 5 (onR tA 5), zzI cy (rO 6) 5 (onR tA 6), zzI cy (rO 7) 5 (onR tA 7), zzG cy 3 qmK rK, zzI cy (rK 0) 8 (T_kn tA 0), zzI cy (rK 1) 8 (T_kn tA 1), zzI cy (rK 2) 8 (T_kn tA 2), zzI cy (rK 3) 8 (T_kn tA 3), zzI cy (rK 4) 8 (T_kn tA 4), zzI cy (rK 5) 8 (T_kn tA 5), zzI cy (rK 6) 8 (T_kn tA 6), zzI cy (rK 7) 8 (T_kn tA 7)] ++ mL cy q_45 qmB_49 qmO_50 qmK_51 rB_52 rO_53 rK_54 tX_62 xF_55 iX_63 iTk iY_64 iNw_71 uN_70) ++ (oM cy uN_70 ++ oM cy uN_26)) hP hD rfl
              clear hP hD
              obtain ⟨hP, hD⟩ := hPD
              replace hP := kl2P hP
              replace hD := kl2D hD
              refine W.widen (k := 200) (n := 3552) (Nat.le_of_ble_eq_true rfl) (Nat.le_of_ble_eq_true rfl) ?_
              exact endW (u := ([zzO qm 5 [.ref qmh, .ref qmo, .ref qmz, .ref qmR, .ref qmv, .ref qmk, .ref qma, .ref qmt, .int (nI kZ), .ref qmr, .int (nI (T_nb tA)), .ref qmB, .int (nI (T_np tA)), .ref qmO, .ref qmK, .int iEn, .int iTk, .int (T_sd tA), ov uP, ov uN_26, .int (nI kAt), .int iTo, .int iFr, .long JFi, .int iFa, .ref qm3, .int iSt, .int iLv, .int iNw_27, .ref q_45, .ref qmu, .ref qmy, .ref qmb, .ref qms, .int iOm], zzI cy qmr 8 fMr, zzG cy 3 qmB rB, zzI cy (rB 0) 4 (bkR tA 0), zzI cy (rB 1) 4 (bkR tA 1), zzI cy (rB 2) 4 (bkR tA 2), zzI cy (rB 3) 4 (bkR tA 3), zzI cy (rB 4) 4 (bkR tA 4), zzI cy (rB 5) 4 (bkR tA 5), zzI cy (rB 6) 4 (bkR tA 6), zzI cy (rB 7) 4 (bkR tA 7), zzG cy 3 qmO rO, zzI cy (rO 0) 5 (onR tA 0), zzI cy (rO 1) 5 (onR tA 1), zzI cy (rO 2) 5 (onR tA 2), zzI cy (rO 3) 5 (onR tA 3), zzI cy (rO 4) 5 (onR tA 4), zzI cy (rO 5) 5 (onR tA 5), zzI cy (rO 6) 5 (onR tA 6), zzI cy (rO 7) 5 (onR tA 7), zzG cy 3 qmK rK, zzI cy (rK 0) 8 (T_kn tA 0), zzI cy (rK 1) 8 (T_kn tA 1), zzI cy (rK 2) 8 (T_kn tA 2), zzI cy (rK 3) 8 (T_kn tA 3), zzI cy (rK 4) 8 (T_kn tA 4), zzI cy (rK 5) 8 (T_kn tA 5), zzI cy (rK 6) 8 (T_kn tA 6), zzI cy (rK 7) 8 (T_kn tA 7)] ++ (oM cy uN_26 ++ oL cy (some ((q_45, qmB_49, qmO_50, qmK_51, rB_52, rO_53, rK_54, tX_62, xF_55, iX_63, iTk, iY_64, iNw_71), uN_70))))) hx hb hr hlocks rfl (pPt hP [[false, true], [true, false, true, true, true, true, true, true, true, true, true, true, true, true, true, true, true, true, true, true, true, true, true, true, true, true, true, true, true]] rfl rfl) (dPt hD [[false, true], [true, false, true, true, true, true, true, true, true, true, true, true, true, true, true, true, true, true, true, true, true, true, true, true, true, true, true, true, true]] (by decide +kernel) rfl rfl) hS ⟨(uN_26), (some ((q_45, qmB_49, qmO_50, qmK_51, rB_52, rO_53, rK_54, tX_62, xF_55, iX_63, iTk, iY_64, iNw_71), uN_70)), iNw_27, fMr, rfl, Or.inr ⟨k_4, hk_5, rfl, h_9, by rw [nI_clamp (by omega)]; exact kp_v hPp h_16 h_28 c_29 h_66.2 h_72 c_73⟩, trivial⟩ dX6_keeping_140
            · refine lv_aload_n hx hb dX6_keeping_115 rfl (lv_at hl 1 rfl) ?_
              refine lv_bipush (v := (-5)) hx hb dX6_keeping_116 (by decide +kernel) ?_
              refine cViQ (As := [.int (-5)]) (rest := []) (b := qm) (q := (RX6, TX6, 35)) ⟨hx, hb, hml, hown, hts⟩ (c_X6_refuse5 l G cy (H).size qm (.ref qmh) (.ref qmo) (.ref qmz) (.ref qmR) (.ref qmv) (.ref qmk) (.ref qma) (.ref qmt) (.int (nI kZ)) qmr tA qmB qmO qmK iEn iTk (ov uP) (ov uN_26) (.int (nI kAt)) (.int iTo) (.int iFr) (.long JFi) (.int iFa) (.ref qm3) (.int iSt) iLv iNw_27 (.ref q_45) (.ref qmu) (.ref qmy) (.ref qmb) (.ref qms) (.int iOm) fMr) L_X6_91 hN hP hD hS hA [1, 0] [false, false, true, true, true, true, true, true, true, true, true, true, true, true, true, true, true, true, true, true, true, true, true, true, true, true, true, true, true, true, true, true, true, true, true, true, true, true, true, true, true, true, true, true, true, true, true, true, true, true, true, true, true, true, true, true, true] rfl (by decide +kernel) rfl 1 5 rfl rfl rfl ⟨Nat.le_of_ble_eq_true rfl, Nat.le_of_ble_eq_true rfl⟩ hl.1 (Nat.le_of_ble_eq_true rfl) dX6_keeping_118 ⟨Nat.le_of_ble_eq_true rfl, Nat.le_of_ble_eq_true rfl⟩ (fun r_74 u_76 H locs h_75 => ?_)
              clear hP hD hS
              intro hP hD hS
              obtain ⟨fX_77, rfl, h_75⟩ := h_75
              have hPD := pd_as (([_, _, _, _, _, _, _, _, _, _, _, _, _, _, _, _, _, _, _, _, _, _, _, _, _, _, _, _, _, _, _, _, _, _, _, _, _, _, _, _, _, _, _, _, _, _, _, _, _, _, _, _, _, _, _, _, zzI cy qmr 8 fX_77] : va_W) ++ (oM cy uN_70 ++ oM cy uN_26)) hP hD rfl
              clear hP hD
              obtain ⟨hP, hD⟩ := hPD
              subst h_75
              refine lv_ldcw hx hb hown (hts _ m_t1290) dX6_keeping_121 ?_
              refine lv_isub hx hb dX6_keeping_124 ?_
              refine lv_seti (v := (-1000005)) (by decide +kernel) ?_
              have hPD := pt_as [zzG cy 3 qmB rB, zzI cy (rB 0) 4 (bkR tA 0), zzI cy (rB 1) 4 (bkR tA 1), zzI cy (rB 2) 4 (bkR tA 2), zzI cy (rB 3) 4 (bkR tA 3), zzI cy (rB 4) 4 (bkR tA 4), zzI cy (rB 5) 4 (bkR tA 5), zzI cy (rB 6) 4 (bkR tA 6), zzI cy (rB 7) 4 (bkR tA 7), zzG cy 3 qmO rO, zzI cy (rO 0) 5 (onR tA 0), zzI cy (rO 1) 5 (onR tA 1), zzI cy (rO 2) 5 (onR tA 2), zzI cy (rO 3) 5 (onR tA 3), zzI cy (rO 4) 5 (onR tA 4), zzI cy (rO 5) 5 (onR tA 5), zzI cy (rO 6) 5 (onR tA 6), zzI cy (rO 7) 5 (onR tA 7), zzG cy 3 qmK rK, zzI cy (rK 0) 8 (T_kn tA 0), zzI cy (rK 1) 8 (T_kn tA 1), zzI cy (rK 2) 8 (T_kn tA 2), zzI cy (rK 3) 8 (T_kn tA 3), zzI cy (rK 4) 8 (T_kn tA 4), zzI cy (rK 5) 8 (T_kn tA 5), zzI cy (rK 6) 8 (T_kn tA 6), zzI cy (rK 7) 8 (T_kn tA 7), zzO qm 5 [.ref qmh, .ref qmo, .ref qmz, .ref qmR, .ref qmv, .ref qmk, .ref qma, .ref qmt, .int (nI kZ), .ref qmr, .int (nI (T_nb tA)), .ref qmB, .int (nI (T_np tA)), .ref qmO, .ref qmK, .int iEn, .int iTk, .int (T_sd tA), ov uP, ov uN_26, .int (nI kAt), .int iTo, .int iFr, .long JFi, .int iFa, .ref qm3, .int iSt, .int iLv, .int iNw_27, .ref q_45, .ref qmu, .ref qmy, .ref qmb, .ref qms, .int iOm], zzI cy qmr 8 fX_77, zzO q_45 5 [xF_55 0, xF_55 1, xF_55 2, xF_55 3, xF_55 4, xF_55 5, xF_55 6, xF_55 7, xF_55 8, xF_55 9, .int (nI (T_nb tX_62)), .ref qmB_49, .int (nI (T_np tX_62)), .ref qmO_50, .ref qmK_51, .int iX_63, .int iTk, .int (T_sd tX_62), xF_55 18, ov uN_70, xF_55 20, xF_55 21, xF_55 22, xF_55 23, xF_55 24, xF_55 25, xF_55 26, .int iY_64, .int iNw_71, xF_55 29, xF_55 30, xF_55 31, xF_55 32, xF_55 33, xF_55 34], zzG cy 3 qmB_49 rB_52, zzI cy (rB_52 0) 4 (bkR tX_62 0), zzI cy (rB_52 1) 4 (bkR tX_62 1), zzI cy (rB_52 2) 4 (bkR tX_62 2), zzI cy (rB_52 3) 4 (bkR tX_62 3), zzI cy (rB_52 4) 4 (bkR tX_62 4), zzI cy (rB_52 5) 4 (bkR tX_62 5), zzI cy (rB_52 6) 4 (bkR tX_62 6), zzI cy (rB_52 7) 4 (bkR tX_62 7), zzG cy 3 qmO_50 rO_53, zzI cy (rO_53 0) 5 (onR tX_62 0), zzI cy (rO_53 1) 5 (onR tX_62 1), zzI cy (rO_53 2) 5 (onR tX_62 2), zzI cy (rO_53 3) 5 (onR tX_62 3), zzI cy (rO_53 4) 5 (onR tX_62 4), zzI cy (rO_53 5) 5 (onR tX_62 5), zzI cy (rO_53 6) 5 (onR tX_62 6), zzI cy (rO_53 7) 5 (onR tX_62 7), zzG cy 3 qmK_51 rK_54, zzI cy (rK_54 0) 8 (T_kn tX_62 0), zzI cy (rK_54 1) 8 (T_kn tX_62 1), zzI cy (rK_54 2) 8 (T_kn tX_62 2), zzI cy (rK_54 3) 8 (T_kn tX_62 3), zzI cy (rK_54 4) 8 (T_kn tX_62 4), zzI cy (rK_54 5) 8 (T_kn tX_62 5), zzI cy (rK_54 6) 8 (T_kn tX_62 6), zzI cy (rK_54 7) 8 (T_kn tX_62 7)] [0, 1, 2, 3, 4, 5, 6, 7, 8, 9, 10, 11, 12, 13, 14, 15, 16, 17, 18, 19, 20, 21, 22, 23, 24, 25, 26, 55, 56, 27, 28, 29, 30, 31, 32, 33, 34, 35, 36, 37, 38, 39, 40, 41, 42, 43, 44, 45, 46, 47, 48, 49, 50, 51, 52, 53, 54] hP hD (by decide +kernel) rfl
              clear hP hD
              obtain ⟨hP, hD⟩ := hPD
              have hPD := pd_as (([zzG cy 3 qmB rB, zzI cy (rB 0) 4 (bkR tA 0), zzI cy (rB 1) 4 (bkR tA 1), zzI cy (rB 2) 4 (bkR tA 2), zzI cy (rB 3) 4 (bkR tA 3), zzI cy (rB 4) 4 (bkR tA 4), zzI cy (rB 5) 4 (bkR tA 5), zzI cy (rB 6) 4 (bkR tA 6), zzI cy (rB 7) 4 (bkR tA 7), zzG cy 3 qmO rO, zzI cy (rO 0) 5 (onR tA 0), zzI cy (rO 1) 5 (onR tA 1), zzI cy (rO 2) 5 (onR tA 2), zzI cy (rO 3) 5 (onR tA 3), zzI cy (rO 4) 5 (onR tA 4), zzI cy (rO 5) 5 (onR tA 5), zzI cy (rO 6) 5 (onR tA 6), zzI cy (rO 7) 5 (onR tA 7), zzG cy 3 qmK rK, zzI cy (rK 0) 8 (T_kn tA 0), zzI cy (rK 1) 8 (T_kn tA 1), zzI cy (rK 2) 8 (T_kn tA 2), zzI cy (rK 3) 8 (T_kn tA 3), zzI cy (rK 4) 8 (T_kn tA 4), zzI cy (rK 5) 8 (T_kn tA 5), zzI cy (rK 6) 8 (T_kn tA 6), zzI cy (rK 7) 8 (T_kn tA 7), zzO qm 5 [.ref qmh, .ref qmo, .ref qmz, .ref qmR, .ref qmv, .ref qmk, .ref qma, .ref qmt, .int (nI kZ), .ref qmr, .int (nI (T_nb tA)), .ref qmB, .int (nI (T_np tA)), .ref qmO, .ref qmK, .int iEn, .int iTk, .int (T_sd tA), ov uP, ov uN_26, .int (nI kAt), .int iTo, .int iFr, .long JFi, .int iFa, .ref qm3, .int iSt, .int iLv, .int iNw_27, .ref q_45, .ref qmu, .ref qmy, .ref qmb, .ref qms, .int iOm], zzI cy qmr 8 fX_77] ++ mL cy q_45 qmB_49 qmO_50 qmK_51 rB_52 rO_53 rK_54 tX_62 xF_55 iX_63 iTk iY_64 iNw_71 uN_70) ++ (oM cy uN_70 ++ oM cy uN_26)) hP hD rfl
              clear hP hD
              obtain ⟨hP, hD⟩ := hPD
              replace hP := kl2P hP
              replace hD := kl2D hD
              refine W.widen (k := 200) (n := 3552) (Nat.le_of_ble_eq_true rfl) (Nat.le_of_ble_eq_true rfl) ?_
              exact endW (u := ([zzO qm 5 [.ref qmh, .ref qmo, .ref qmz, .ref qmR, .ref qmv, .ref qmk, .ref qma, .ref qmt, .int (nI kZ), .ref qmr, .int (nI (T_nb tA)), .ref qmB, .int (nI (T_np tA)), .ref qmO, .ref qmK, .int iEn, .int iTk, .int (T_sd tA), ov uP, ov uN_26, .int (nI kAt), .int iTo, .int iFr, .long JFi, .int iFa, .ref qm3, .int iSt, .int iLv, .int iNw_27, .ref q_45, .ref qmu, .ref qmy, .ref qmb, .ref qms, .int iOm], zzI cy qmr 8 fX_77, zzG cy 3 qmB rB, zzI cy (rB 0) 4 (bkR tA 0), zzI cy (rB 1) 4 (bkR tA 1), zzI cy (rB 2) 4 (bkR tA 2), zzI cy (rB 3) 4 (bkR tA 3), zzI cy (rB 4) 4 (bkR tA 4), zzI cy (rB 5) 4 (bkR tA 5), zzI cy (rB 6) 4 (bkR tA 6), zzI cy (rB 7) 4 (bkR tA 7), zzG cy 3 qmO rO, zzI cy (rO 0) 5 (onR tA 0), zzI cy (rO 1) 5 (onR tA 1), zzI cy (rO 2) 5 (onR tA 2), zzI cy (rO 3) 5 (onR tA 3), zzI cy (rO 4) 5 (onR tA 4), zzI cy (rO 5) 5 (onR tA 5), zzI cy (rO 6) 5 (onR tA 6), zzI cy (rO 7) 5 (onR tA 7), zzG cy 3 qmK rK, zzI cy (rK 0) 8 (T_kn tA 0), zzI cy (rK 1) 8 (T_kn tA 1), zzI cy (rK 2) 8 (T_kn tA 2), zzI cy (rK 3) 8 (T_kn tA 3), zzI cy (rK 4) 8 (T_kn tA 4), zzI cy (rK 5) 8 (T_kn tA 5), zzI cy (rK 6) 8 (T_kn tA 6), zzI cy (rK 7) 8 (T_kn tA 7)] ++ (oM cy uN_26 ++ oL cy (some ((q_45, qmB_49, qmO_50, qmK_51, rB_52, rO_53, rK_54, tX_62, xF_55, iX_63, iTk, iY_64, iNw_71), uN_70))))) hx hb hr hlocks rfl (pPt hP [[false, false, false, false, false, false, false, false, false, false, false, false, false, false, false, false, false, false, false, false, false, false, false, false, false, false, false, true, true], [true, true, true, true, true, true, true, true, true, true, true, true, true, true, true, true, true, true, true, true, true, true, true, true, true, true, true]] rfl rfl) (dPt hD [[false, false, false, false, false, false, false, false, false, false, false, false, false, false, false, false, false, false, false, false, false, false, false, false, false, false, false, true, true], [true, true, true, true, true, true, true, true, true, true, true, true, true, true, true, true, true, true, true, true, true, true, true, true, true, true, true]] (by decide +kernel) rfl rfl) hS ⟨(uN_26), (some ((q_45, qmB_49, qmO_50, qmK_51, rB_52, rO_53, rK_54, tX_62, xF_55, iX_63, iTk, iY_64, iNw_71), uN_70)), iNw_27, fX_77, rfl, Or.inr ⟨k_4, hk_5, rfl, h_9, by rw [nI_clamp (by omega)]; exact kp_2 hPp h_16 h_28 c_29 h_66.2 h_72 c_73⟩, trivial⟩ dX6_keeping_125
          · rw [eL_44] at hP hD
            replace hP := kl1P hP
            replace hD := kl1D hD
            have hPD := pd_as (([_, zzO qm 5 [.ref qmh, .ref qmo, .ref qmz, .ref qmR, .ref qmv, .ref qmk, .ref qma, .ref qmt, .int (nI kZ), .ref qmr, .int (nI (T_nb tA)), .ref qmB, .int (nI (T_np tA)), .ref qmO, .ref qmK, .int iEn, .int iTk, .int (T_sd tA), ov uP, ov uN_26, .int (nI kAt), .int iTo, .int iFr, .long JFi, .int iFa, .ref qm3, .int iSt, .int iLv, .int iNw_27, .ref qL_30, .ref qmu, .ref qmy, .ref qmb, .ref qms, .int iOm], _, _, _, _, _, _, _, _, _, _, _, _, _, _, _, _, _, _, _, _, _, _, _, _, _, _, _, zzO qL_30 5 [xL_38 0, xL_38 1, xL_38 2, xL_38 3, xL_38 4, xL_38 5, xL_38 6, xL_38 7, xL_38 8, xL_38 9, .int (nI (T_nb tL_37)), .ref qLB_31, .int (nI (T_np tL_37)), .ref qLO_32, .ref qLK_33, .int iEnL_39, .int iTkL_40, .int (T_sd tL_37), xL_38 18, ov uW_43, xL_38 20, xL_38 21, xL_38 22, xL_38 23, xL_38 24, xL_38 25, xL_38 26, .int iLvL_41, .int iWsL_42, xL_38 29, xL_38 30, xL_38 31, xL_38 32, xL_38 33, xL_38 34], zzG cy 3 qLB_31 rLB_34, zzI cy (rLB_34 0) 4 (bkR tL_37 0), zzI cy (rLB_34 1) 4 (bkR tL_37 1), zzI cy (rLB_34 2) 4 (bkR tL_37 2), zzI cy (rLB_34 3) 4 (bkR tL_37 3), zzI cy (rLB_34 4) 4 (bkR tL_37 4), zzI cy (rLB_34 5) 4 (bkR tL_37 5), zzI cy (rLB_34 6) 4 (bkR tL_37 6), zzI cy (rLB_34 7) 4 (bkR tL_37 7), zzG cy 3 qLO_32 rLO_35, zzI cy (rLO_35 0) 5 (onR tL_37 0), zzI cy (rLO_35 1) 5 (onR tL_37 1), zzI cy (rLO_35 2) 5 (onR tL_37 2), zzI cy (rLO_35 3) 5 (onR tL_37 3), zzI cy (rLO_35 4) 5 (onR tL_37 4), zzI cy (rLO_35 5) 5 (onR tL_37 5), zzI cy (rLO_35 6) 5 (onR tL_37 6), zzI cy (rLO_35 7) 5 (onR tL_37 7), zzG cy 3 qLK_33 rLK_36, zzI cy (rLK_36 0) 8 (T_kn tL_37 0), zzI cy (rLK_36 1) 8 (T_kn tL_37 1), zzI cy (rLK_36 2) 8 (T_kn tL_37 2), zzI cy (rLK_36 3) 8 (T_kn tL_37 3), zzI cy (rLK_36 4) 8 (T_kn tL_37 4), zzI cy (rLK_36 5) 8 (T_kn tL_37 5), zzI cy (rLK_36 6) 8 (T_kn tL_37 6), zzI cy (rLK_36 7) 8 (T_kn tL_37 7)] : va_W) ++ (oM cy uW_43 ++ oM cy uN_26)) hP hD rfl
            clear hP hD
            obtain ⟨hP, hD⟩ := hPD
            refine lv_setv (v := .ref qL_30) (by rw [eL_44]; rfl) ?_
            refine lv_ifnonnull (tgt := 81) hx hb dX6_keeping_67 (by decide +kernel) ?_
            refine lv_aload_n hx hb dX6_keeping_81 rfl (lv_at hl 0 rfl) ?_
            refine va_get (D := G) (ci := 5) (v := .ref qL_30) (C := RX6) (T := TX6) (N := 35) hx hb hts iX_X6 hown hK hP 1 rfl rfl 29 (by decide +kernel) (hts _ m_t879) (fun _ h9 => h9) rfl dX6_keeping_82 ?_
            refine lv_aload_n hx hb dX6_keeping_85 rfl (lv_at hl 0 rfl) ?_
            refine cVvQ (As := [.ref qm]) (rest := []) (b := qL_30) (q := (RX6, TX6, 35)) ⟨hx, hb, hml, hown, hts⟩ (c_X6_takeFrom l G cy (H).size qL_30 (xL_38 0) (xL_38 1) (xL_38 2) (xL_38 3) (xL_38 4) (xL_38 5) (xL_38 6) (xL_38 7) (xL_38 8) (xL_38 9) tL_37 qLB_31 qLO_32 qLK_33 iEnL_39 iTkL_40 (xL_38 18) (ov uW_43) (xL_38 20) (xL_38 21) (xL_38 22) (xL_38 23) (xL_38 24) (xL_38 25) (xL_38 26) iLvL_41 iWsL_42 (xL_38 29) (xL_38 30) (xL_38 31) (xL_38 32) (xL_38 33) (xL_38 34) rLB_34 rLO_35 rLK_36 qm (.ref qmh) (.ref qmo) (.ref qmz) (.ref qmR) (.ref qmv) (.ref qmk) (.ref qma) (.ref qmt) (.int (nI kZ)) (.ref qmr) tA qmB qmO qmK iEn iTk (ov uP) (ov uN_26) (.int (nI kAt)) (.int iTo) (.int iFr) (.long JFi) (.int iFa) (.ref qm3) (.int iSt) iLv iNw_27 (.ref qL_30) (.ref qmu) (.ref qmy) (.ref qmb) (.ref qms) (.int iOm) rB rO rK) L_X6_225 hN hP hD hS hA (trueIxs [[false, false, false, false, false, false, false, false, false, false, false, false, false, false, false, false, false, false, false, false, false, false, false, false, false, false, false, false, false, true, true, true, true, true, true, true, true, true, true, true, true, true, true, true, true, true, true, true, true, true, true, true, true, true, true, true, true], [false, true, true, true, true, true, true, true, true, true, true, true, true, true, true, true, true, true, true, true, true, true, true, true, true, true, true, true, true]]) [true, false, false, false, false, false, false, false, false, false, false, false, false, false, false, false, false, false, false, false, false, false, false, false, false, false, false, false, false, false, false, false, false, false, false, false, false, false, false, false, false, false, false, false, false, false, false, false, false, false, false, false, false, false, false, false, false] (sels_eq rfl rfl) (by decide +kernel) rfl 29 5 rfl rfl rfl ⟨Nat.le_of_ble_eq_true rfl, Nat.le_of_ble_eq_true rfl⟩ hl.1 (Nat.le_of_ble_eq_true rfl) dX6_keeping_86 ⟨Nat.le_of_ble_eq_true rfl, Nat.le_of_ble_eq_true rfl⟩ (fun u_80 H locs h_79 => ?_)
            clear hP hD hS
            intro hP hD hS
            subst h_79
            have hPD := pd_as (([_, zzO qL_30 5 [xL_38 0, xL_38 1, xL_38 2, xL_38 3, xL_38 4, xL_38 5, xL_38 6, xL_38 7, xL_38 8, xL_38 9, .int (nI (T_nb tA)), .ref qLB_31, .int (nI (T_np tA)), .ref qLO_32, .ref qLK_33, .int iEn, .int iTk, .int (T_sd tA), xL_38 18, ov uW_43, xL_38 20, xL_38 21, xL_38 22, xL_38 23, xL_38 24, xL_38 25, xL_38 26, .int iLvL_41, .int iWsL_42, xL_38 29, xL_38 30, xL_38 31, xL_38 32, xL_38 33, xL_38 34], _, zzI cy (rLB_34 0) 4 (bkR tA 0), zzI cy (rLB_34 1) 4 (bkR tA 1), zzI cy (rLB_34 2) 4 (bkR tA 2), zzI cy (rLB_34 3) 4 (bkR tA 3), zzI cy (rLB_34 4) 4 (bkR tA 4), zzI cy (rLB_34 5) 4 (bkR tA 5), zzI cy (rLB_34 6) 4 (bkR tA 6), zzI cy (rLB_34 7) 4 (bkR tA 7), _, zzI cy (rLO_35 0) 5 (onR tA 0), zzI cy (rLO_35 1) 5 (onR tA 1), zzI cy (rLO_35 2) 5 (onR tA 2), zzI cy (rLO_35 3) 5 (onR tA 3), zzI cy (rLO_35 4) 5 (onR tA 4), zzI cy (rLO_35 5) 5 (onR tA 5), zzI cy (rLO_35 6) 5 (onR tA 6), zzI cy (rLO_35 7) 5 (onR tA 7), _, zzI cy (rLK_36 0) 8 (T_kn tA 0), zzI cy (rLK_36 1) 8 (T_kn tA 1), zzI cy (rLK_36 2) 8 (T_kn tA 2), zzI cy (rLK_36 3) 8 (T_kn tA 3), zzI cy (rLK_36 4) 8 (T_kn tA 4), zzI cy (rLK_36 5) 8 (T_kn tA 5), zzI cy (rLK_36 6) 8 (T_kn tA 6), zzI cy (rLK_36 7) 8 (T_kn tA 7), _, _, _, _, _, _, _, _, _, _, _, _, _, _, _, _, _, _, _, _, _, _, _, _, _, _, _, _] : va_W) ++ (oM cy uW_43 ++ oM cy uN_26)) hP hD rfl
            clear hP hD
            obtain ⟨hP, hD⟩ := hPD
            refine lv_aload_n hx hb dX6_keeping_89 rfl (lv_at hl 0 rfl) ?_
            refine va_get (D := G) (ci := 5) (v := .ref qL_30) (C := RX6) (T := TX6) (N := 35) hx hb hts iX_X6 hown hK hP 29 rfl rfl 29 (by decide +kernel) (hts _ m_t879) (fun _ h9 => h9) rfl dX6_keeping_90 ?_
            refine lv_iconst (v := (-1)) hx hb dX6_keeping_93 (by decide +kernel) ?_
            refine lv_iconst (v := 0) hx hb dX6_keeping_94 (by decide +kernel) ?_
            refine lv_iconst (v := 1) hx hb dX6_keeping_95 (by decide +kernel) ?_
            refine cViQ (As := [.int (-1), .int 0, .int 1]) (rest := []) (b := qL_30) (q := (RX6, TX6, 35)) ⟨hx, hb, hml, hown, hts⟩ (x_X6_goes01 l G cy (H).size qL_30 (xL_38 0) (xL_38 1) (xL_38 2) (xL_38 3) (xL_38 4) (xL_38 5) (xL_38 6) (xL_38 7) (xL_38 8) (xL_38 9) tA qLB_31 qLO_32 qLK_33 iEn iTk (xL_38 18) (ov uW_43) (xL_38 20) (xL_38 21) (xL_38 22) (xL_38 23) (xL_38 24) (xL_38 25) (xL_38 26) iLvL_41 iWsL_42 (xL_38 29) (xL_38 30) (xL_38 31) (xL_38 32) (xL_38 33) (xL_38 34) rLB_34 rLO_35 rLK_36 hB hPp hWI) L_X6_295 hN hP hD hS hA (trueIx 0 [false, true, true, true, true, true, true, true, true, true, true, true, true, true, true, true, true, true, true, true, true, true, true, true, true, true, true, true, true]) [true, false, false, false, false, false, false, false, false, false, false, false, false, false, false, false, false, false, false, false, false, false, false, false, false, false, false, false, false, true, true, true, true, true, true, true, true, true, true, true, true, true, true, true, true, true, true, true, true, true, true, true, true, true, true, true, true] (sel_eq rfl rfl) (by decide +kernel) rfl 1 5 rfl rfl rfl ⟨Nat.le_of_ble_eq_true rfl, Nat.le_of_ble_eq_true rfl⟩ hl.1 (Nat.le_of_ble_eq_true rfl) dX6_keeping_96 ⟨Nat.le_of_ble_eq_true rfl, Nat.le_of_ble_eq_true rfl⟩ (fun r_81 u_83 H locs h_82 => ?_)
            clear hP hD hS
            intro hP hD hS
            obtain ⟨tX_84, iX_85, iY_86, rfl, h_87, h_88, h_82⟩ := h_82
            have hPD := pd_as (([_, _, _, _, _, _, _, _, _, _, _, _, _, _, _, _, _, _, _, _, _, _, _, _, _, _, _, _, _, zzO qL_30 5 [xL_38 0, xL_38 1, xL_38 2, xL_38 3, xL_38 4, xL_38 5, xL_38 6, xL_38 7, xL_38 8, xL_38 9, .int (nI (T_nb tX_84)), .ref qLB_31, .int (nI (T_np tX_84)), .ref qLO_32, .ref qLK_33, .int iX_85, .int iTk, .int (T_sd tX_84), xL_38 18, ov uW_43, xL_38 20, xL_38 21, xL_38 22, xL_38 23, xL_38 24, xL_38 25, xL_38 26, .int iY_86, .int iWsL_42, xL_38 29, xL_38 30, xL_38 31, xL_38 32, xL_38 33, xL_38 34], _, zzI cy (rLB_34 0) 4 (bkR tX_84 0), zzI cy (rLB_34 1) 4 (bkR tX_84 1), zzI cy (rLB_34 2) 4 (bkR tX_84 2), zzI cy (rLB_34 3) 4 (bkR tX_84 3), zzI cy (rLB_34 4) 4 (bkR tX_84 4), zzI cy (rLB_34 5) 4 (bkR tX_84 5), zzI cy (rLB_34 6) 4 (bkR tX_84 6), zzI cy (rLB_34 7) 4 (bkR tX_84 7), _, zzI cy (rLO_35 0) 5 (onR tX_84 0), zzI cy (rLO_35 1) 5 (onR tX_84 1), zzI cy (rLO_35 2) 5 (onR tX_84 2), zzI cy (rLO_35 3) 5 (onR tX_84 3), zzI cy (rLO_35 4) 5 (onR tX_84 4), zzI cy (rLO_35 5) 5 (onR tX_84 5), zzI cy (rLO_35 6) 5 (onR tX_84 6), zzI cy (rLO_35 7) 5 (onR tX_84 7), _, zzI cy (rLK_36 0) 8 (T_kn tX_84 0), zzI cy (rLK_36 1) 8 (T_kn tX_84 1), zzI cy (rLK_36 2) 8 (T_kn tX_84 2), zzI cy (rLK_36 3) 8 (T_kn tX_84 3), zzI cy (rLK_36 4) 8 (T_kn tX_84 4), zzI cy (rLK_36 5) 8 (T_kn tX_84 5), zzI cy (rLK_36 6) 8 (T_kn tX_84 6), zzI cy (rLK_36 7) 8 (T_kn tX_84 7)] : va_W) ++ (oM cy uW_43 ++ oM cy uN_26)) hP hD rfl
            clear hP hD
            obtain ⟨hP, hD⟩ := hPD
            refine lv_istore_n (lv' := [(3, .int r_81), (0, .ref qm), (1, .int (nI k_4)), (2, .int (nI k_10))]) hx hb dX6_keeping_99 rfl hl (by decide +kernel) rfl (fun ls => ?_)
            clear hl
            intro hl
            refine lv_aload_n hx hb dX6_keeping_100 rfl (lv_at hl 1 rfl) ?_
            refine va_get (D := G) (ci := 5) (v := .ref qL_30) (C := RX6) (T := TX6) (N := 35) hx hb hts iX_X6 hown hK hP 1 rfl rfl 29 (by decide +kernel) (hts _ m_t879) (fun _ h9 => h9) rfl dX6_keeping_101 ?_
            refine lv_iload_n hx hb dX6_keeping_104 rfl (lv_at hl 2 rfl) ?_
            refine lv_iload_n hx hb dX6_keeping_105 rfl (lv_at hl 3 rfl) ?_
            refine lv_iconst (v := 1) hx hb dX6_keeping_106 (by decide +kernel) ?_
            refine lv_isub hx hb dX6_keeping_107 ?_
            refine lv_seti (v := nI (k_10 - 1)) (nI_sub1 (by omega)) ?_
            replace hP := al_P hP
            replace hD := al_D hD
            refine cViPQ (As := [.int (nI k_4), .int (nI (k_10 - 1))]) (rest := []) (b := qL_30) (q := (RX6, TX6, 35)) ⟨hx, hb, hml, hown, hts⟩ (x_X6_findWho l G cy (H).size qL_30 (xL_38 0) (xL_38 1) (xL_38 2) (xL_38 3) (xL_38 4) (xL_38 5) (xL_38 6) (xL_38 7) (xL_38 8) (xL_38 9) tX_84 qLB_31 qLO_32 qLK_33 iX_85 iTk (xL_38 18) uW_43 (xL_38 20) (xL_38 21) (xL_38 22) (xL_38 23) (xL_38 24) (xL_38 25) (xL_38 26) iY_86 iWsL_42 (xL_38 29) (xL_38 30) (xL_38 31) (xL_38 32) (xL_38 33) (xL_38 34) rLB_34 rLO_35 rLK_36 k_4 (k_10 - 1) (by omega) (by omega) (by have := h_87.2.1; omega) (by have := h_87.2.2; omega) h_88.1 (by have := h_87.2.1; omega)) L_X6_315 hN hP hD hS hA (trueIx 0 [false, false, false, false, false, false, false, false, false, false, false, false, false, false, false, false, false, false, false, false, false, false, false, false, false, false, false, false, false, true, true, true, true, true, true, true, true, true, true, true, true, true, true, true, true, true, true, true, true, true, true, true, true, true, true, true, true]) [true, true, true, true, true, true, true, true, true, true, true, true, true, true, true, true, true, true, true, true, true, true, true, true, true, true, true, true, true, false, false, false, false, false, false, false, false, false, false, false, false, false, false, false, false, false, false, false, false, false, false, false, false, false, false, false, false] (sel_eq rfl rfl) (by decide +kernel) rfl 29 5 rfl rfl rfl ⟨Nat.le_of_ble_eq_true rfl, Nat.le_of_ble_eq_true rfl⟩ hl.1 (Nat.le_of_ble_eq_true rfl) dX6_keeping_108 ⟨Nat.le_of_ble_eq_true rfl, Nat.le_of_ble_eq_true rfl⟩ (fun r_89 u_91 H locs h_90 => ?_)
            clear hP hD hS
            intro hP hD hS
            obtain ⟨uN_92, iNw_93, rfl, h_94, h_90⟩ := h_90
            replace hP := as1P hP
            replace hD := as1D hD
            have hPD := pd_as (([_, _, _, _, _, _, _, _, _, _, _, _, _, _, _, _, _, _, _, _, _, _, _, _, _, _, _, _, _, zzO qL_30 5 [xL_38 0, xL_38 1, xL_38 2, xL_38 3, xL_38 4, xL_38 5, xL_38 6, xL_38 7, xL_38 8, xL_38 9, .int (nI (T_nb tX_84)), .ref qLB_31, .int (nI (T_np tX_84)), .ref qLO_32, .ref qLK_33, .int iX_85, .int iTk, .int (T_sd tX_84), xL_38 18, ov uN_92, xL_38 20, xL_38 21, xL_38 22, xL_38 23, xL_38 24, xL_38 25, xL_38 26, .int iY_86, .int iNw_93, xL_38 29, xL_38 30, xL_38 31, xL_38 32, xL_38 33, xL_38 34], _, _, _, _, _, _, _, _, _, _, _, _, _, _, _, _, _, _, _, _, _, _, _, _, _, _, _] : va_W) ++ (oM cy uN_92 ++ oM cy uN_26)) hP hD rfl
            clear hP hD
            obtain ⟨hP, hD⟩ := hPD
            refine W.widen (k := 100) (n := 1776) (Nat.le_of_ble_eq_true rfl) (Nat.le_of_ble_eq_true rfl) ?_
            refine lv_iconst (v := (-1)) hx hb dX6_keeping_111 (by decide +kernel) ?_
            refine lv_icmp_ne (tgt := 126) hx hb dX6_keeping_112 (by decide +kernel) (fun c_95 => ?_) (fun c_95 => ?_)
            · refine lv_iload_n hx hb dX6_keeping_126 rfl (lv_at hl 0 rfl) ?_
              refine lv_aload_n hx hb dX6_keeping_127 rfl (lv_at hl 1 rfl) ?_
              refine va_get (D := G) (ci := 5) (v := .ref qL_30) (C := RX6) (T := TX6) (N := 35) hx hb hts iX_X6 hown hK hP 1 rfl rfl 29 (by decide +kernel) (hts _ m_t879) (fun _ h9 => h9) rfl dX6_keeping_128 ?_
              refine va_get (D := G) (ci := 5) (v := .int iNw_93) (C := RX6) (T := TX6) (N := 35) hx hb hts iX_X6 hown hK hP 29 rfl rfl 28 (by decide +kernel) (hts _ m_t878) (fun _ h9 => h9) rfl dX6_keeping_131 ?_
              refine lv_iadd hx hb dX6_keeping_134 ?_
              refine lv_aload_n hx hb dX6_keeping_135 rfl (lv_at hl 1 rfl) ?_
              refine va_get (D := G) (ci := 5) (v := .int iNw_27) (C := RX6) (T := TX6) (N := 35) hx hb hts iX_X6 hown hK hP 1 rfl rfl 28 (by decide +kernel) (hts _ m_t878) (fun _ h9 => h9) rfl dX6_keeping_136 ?_
              refine lv_isub hx hb dX6_keeping_139 ?_
              have hPD := pt_as [zzI cy qmr 8 fMr, zzO qm 5 [.ref qmh, .ref qmo, .ref qmz, .ref qmR, .ref qmv, .ref qmk, .ref qma, .ref qmt, .int (nI kZ), .ref qmr, .int (nI (T_nb tA)), .ref qmB, .int (nI (T_np tA)), .ref qmO, .ref qmK, .int iEn, .int iTk, .int (T_sd tA), ov uP, ov uN_26, .int (nI kAt), .int iTo, .int iFr, .long JFi, .int iFa, .ref qm3, .int iSt, .int iLv, .int iNw_27, .ref qL_30, .ref qmu, .ref qmy, .ref qmb, .ref qms, .int iOm], zzG cy 3 qmB rB, zzI cy (rB 0) 4 (bkR tA 0), zzI cy (rB 1) 4 (bkR tA 1), zzI cy (rB 2) 4 (bkR tA 2), zzI cy (rB 3) 4 (bkR tA 3), zzI cy (rB 4) 4 (bkR tA 4), zzI cy (rB 5) 4 (bkR tA 5), zzI cy (rB 6) 4 (bkR tA 6), zzI cy (rB 7) 4 (bkR tA 7), zzG cy 3 qmO rO, zzI cy (rO 0) 5 (onR tA 0), zzI cy (rO 1) 5 (onR tA 1), zzI cy (rO 2) 5 (onR tA 2), zzI cy (rO 3) 5 (onR tA 3), zzI cy (rO 4) 5 (onR tA 4), zzI cy (rO 5) 5 (onR tA 5), zzI cy (rO 6) 5 (onR tA 6), zzI cy (rO 7) 5 (onR tA 7), zzG cy 3 qmK rK, zzI cy (rK 0) 8 (T_kn tA 0), zzI cy (rK 1) 8 (T_kn tA 1), zzI cy (rK 2) 8 (T_kn tA 2), zzI cy (rK 3) 8 (T_kn tA 3), zzI cy (rK 4) 8 (T_kn tA 4), zzI cy (rK 5) 8 (T_kn tA 5), zzI cy (rK 6) 8 (T_kn tA 6), zzI cy (rK 7) 8 (T_kn tA 7), zzO qL_30 5 [xL_38 0, xL_38 1, xL_38 2, xL_38 3, xL_38 4, xL_38 5, xL_38 6, xL_38 7, xL_38 8, xL_38 9, .int (nI (T_nb tX_84)), .ref qLB_31, .int (nI (T_np tX_84)), .ref qLO_32, .ref qLK_33, .int iX_85, .int iTk, .int (T_sd tX_84), xL_38 18, ov uN_92, xL_38 20, xL_38 21, xL_38 22, xL_38 23, xL_38 24, xL_38 25, xL_38 26, .int iY_86, .int iNw_93, xL_38 29, xL_38 30, xL_38 31, xL_38 32, xL_38 33, xL_38 34], zzG cy 3 qLB_31 rLB_34, zzI cy (rLB_34 0) 4 (bkR tX_84 0), zzI cy (rLB_34 1) 4 (bkR tX_84 1), zzI cy (rLB_34 2) 4 (bkR tX_84 2), zzI cy (rLB_34 3) 4 (bkR tX_84 3), zzI cy (rLB_34 4) 4 (bkR tX_84 4), zzI cy (rLB_34 5) 4 (bkR tX_84 5), zzI cy (rLB_34 6) 4 (bkR tX_84 6), zzI cy (rLB_34 7) 4 (bkR tX_84 7), zzG cy 3 qLO_32 rLO_35, zzI cy (rLO_35 0) 5 (onR tX_84 0), zzI cy (rLO_35 1) 5 (onR tX_84 1), zzI cy (rLO_35 2) 5 (onR tX_84 2), zzI cy (rLO_35 3) 5 (onR tX_84 3), zzI cy (rLO_35 4) 5 (onR tX_84 4), zzI cy (rLO_35 5) 5 (onR tX_84 5), zzI cy (rLO_35 6) 5 (onR tX_84 6), zzI cy (rLO_35 7) 5 (onR tX_84 7), zzG cy 3 qLK_33 rLK_36, zzI cy (rLK_36 0) 8 (T_kn tX_84 0), zzI cy (rLK_36 1) 8 (T_kn tX_84 1), zzI cy (rLK_36 2) 8 (T_kn tX_84 2), zzI cy (rLK_36 3) 8 (T_kn tX_84 3), zzI cy (rLK_36 4) 8 (T_kn tX_84 4), zzI cy (rLK_36 5) 8 (T_kn tX_84 5), zzI cy (rLK_36 6) 8 (T_kn tX_84 6), zzI cy (rLK_36 7) 8 (T_kn tX_84 7)] [0, 1, 2, 3, 4, 5, 6, 7, 8, 9, 10, 11, 12, 13, 14, 15, 16, 17, 18, 19, 20, 21, 22, 23, 24, 25, 26, 27, 28, 29, 30, 31, 32, 33, 34, 35, 36, 37, 38, 39, 40, 41, 42, 43, 44, 45, 46, 47, 48, 49, 50, 51, 52, 53, 54, 55, 56] hP hD (by decide +kernel) rfl
              clear hP hD
              obtain ⟨hP, hD⟩ := hPD
              have hPD := pd_as (([zzI cy qmr 8 fMr, zzO qm 5 [.ref qmh, .ref qmo, .ref qmz, .ref qmR, .ref qmv, .ref qmk, .ref qma, .ref qmt, .int (nI kZ), .ref qmr, .int (nI (T_nb tA)), .ref qmB, .int (nI (T_np tA)), .ref qmO, .ref qmK, .int iEn, .int iTk, .int (T_sd tA), ov uP, ov uN_26, .int (nI kAt), .int iTo, .int iFr, .long JFi, .int iFa, .ref qm3, .int iSt, .int iLv, .int iNw_27, .ref qL_30, .ref qmu, .ref qmy, .ref qmb, .ref qms, .int iOm], zzG cy 3 qmB rB, zzI cy (rB 0) 4 (bkR tA 0), zzI cy (rB 1) 4 (bkR tA 1), zzI cy (rB 2) 4 (bkR tA 2), zzI cy (rB 3) 4 (bkR tA 3), zzI cy (rB 4) 4 (bkR tA 4), zzI cy (rB 5) 4 (bkR tA 5), zzI cy (rB 6) 4 (bkR tA 6), zzI cy (rB 7) 4 (bkR tA 7), zzG cy 3 qmO rO, zzI cy (rO 0) 5 (onR tA 0), zzI cy (rO 1) 5 (onR tA 1), zzI cy (rO 2) 5 (onR tA 2), zzI cy (rO 3) 5 (onR tA 3), zzI cy (rO 4) 5 (onR tA 4), zzI cy (rO 5) 5 (onR tA 5), zzI cy (rO 6) 5 (onR tA 6), zzI cy (rO 7) 5 (onR tA 7), zzG cy 3 qmK rK, zzI cy (rK 0) 8 (T_kn tA 0), zzI cy (rK 1) 8 (T_kn tA 1), zzI cy (rK 2) 8 (T_kn tA 2), zzI cy (rK 3) 8 (T_kn tA 3), zzI cy (rK 4) 8 (T_kn tA 4), zzI cy (rK 5) 8 (T_kn tA 5), zzI cy (rK 6) 8 (T_kn tA 6), zzI cy (rK 7) 8 (T_kn tA 7)] ++ mL cy qL_30 qLB_31 qLO_32 qLK_33 rLB_34 rLO_35 rLK_36 tX_84 xL_38 iX_85 iTk iY_86 iNw_93 uN_92) ++ (oM cy uN_92 ++ oM cy uN_26)) hP hD rfl
              clear hP hD
              obtain ⟨hP, hD⟩ := hPD
              replace hP := kl2P hP
              replace hD := kl2D hD
              refine W.widen (k := 200) (n := 3552) (Nat.le_of_ble_eq_true rfl) (Nat.le_of_ble_eq_true rfl) ?_
              exact endW (u := ([zzO qm 5 [.ref qmh, .ref qmo, .ref qmz, .ref qmR, .ref qmv, .ref qmk, .ref qma, .ref qmt, .int (nI kZ), .ref qmr, .int (nI (T_nb tA)), .ref qmB, .int (nI (T_np tA)), .ref qmO, .ref qmK, .int iEn, .int iTk, .int (T_sd tA), ov uP, ov uN_26, .int (nI kAt), .int iTo, .int iFr, .long JFi, .int iFa, .ref qm3, .int iSt, .int iLv, .int iNw_27, .ref qL_30, .ref qmu, .ref qmy, .ref qmb, .ref qms, .int iOm], zzI cy qmr 8 fMr, zzG cy 3 qmB rB, zzI cy (rB 0) 4 (bkR tA 0), zzI cy (rB 1) 4 (bkR tA 1), zzI cy (rB 2) 4 (bkR tA 2), zzI cy (rB 3) 4 (bkR tA 3), zzI cy (rB 4) 4 (bkR tA 4), zzI cy (rB 5) 4 (bkR tA 5), zzI cy (rB 6) 4 (bkR tA 6), zzI cy (rB 7) 4 (bkR tA 7), zzG cy 3 qmO rO, zzI cy (rO 0) 5 (onR tA 0), zzI cy (rO 1) 5 (onR tA 1), zzI cy (rO 2) 5 (onR tA 2), zzI cy (rO 3) 5 (onR tA 3), zzI cy (rO 4) 5 (onR tA 4), zzI cy (rO 5) 5 (onR tA 5), zzI cy (rO 6) 5 (onR tA 6), zzI cy (rO 7) 5 (onR tA 7), zzG cy 3 qmK rK, zzI cy (rK 0) 8 (T_kn tA 0), zzI cy (rK 1) 8 (T_kn tA 1), zzI cy (rK 2) 8 (T_kn tA 2), zzI cy (rK 3) 8 (T_kn tA 3), zzI cy (rK 4) 8 (T_kn tA 4), zzI cy (rK 5) 8 (T_kn tA 5), zzI cy (rK 6) 8 (T_kn tA 6), zzI cy (rK 7) 8 (T_kn tA 7)] ++ (oM cy uN_26 ++ oL cy (some ((qL_30, qLB_31, qLO_32, qLK_33, rLB_34, rLO_35, rLK_36, tX_84, xL_38, iX_85, iTk, iY_86, iNw_93), uN_92))))) hx hb hr hlocks rfl (pPt hP [[false, true], [true, false, true, true, true, true, true, true, true, true, true, true, true, true, true, true, true, true, true, true, true, true, true, true, true, true, true, true, true]] rfl rfl) (dPt hD [[false, true], [true, false, true, true, true, true, true, true, true, true, true, true, true, true, true, true, true, true, true, true, true, true, true, true, true, true, true, true, true]] (by decide +kernel) rfl rfl) hS ⟨(uN_26), (some ((qL_30, qLB_31, qLO_32, qLK_33, rLB_34, rLO_35, rLK_36, tX_84, xL_38, iX_85, iTk, iY_86, iNw_93), uN_92)), iNw_27, fMr, rfl, Or.inr ⟨k_4, hk_5, rfl, h_9, by rw [nI_clamp (by omega)]; exact kp_v hPp h_16 h_28 c_29 h_88.2 h_94 c_95⟩, trivial⟩ dX6_keeping_140
            · refine lv_aload_n hx hb dX6_keeping_115 rfl (lv_at hl 1 rfl) ?_
              refine lv_bipush (v := (-5)) hx hb dX6_keeping_116 (by decide +kernel) ?_
              refine cViQ (As := [.int (-5)]) (rest := []) (b := qm) (q := (RX6, TX6, 35)) ⟨hx, hb, hml, hown, hts⟩ (c_X6_refuse5 l G cy (H).size qm (.ref qmh) (.ref qmo) (.ref qmz) (.ref qmR) (.ref qmv) (.ref qmk) (.ref qma) (.ref qmt) (.int (nI kZ)) qmr tA qmB qmO qmK iEn iTk (ov uP) (ov uN_26) (.int (nI kAt)) (.int iTo) (.int iFr) (.long JFi) (.int iFa) (.ref qm3) (.int iSt) iLv iNw_27 (.ref qL_30) (.ref qmu) (.ref qmy) (.ref qmb) (.ref qms) (.int iOm) fMr) L_X6_91 hN hP hD hS hA [1, 0] [false, false, true, true, true, true, true, true, true, true, true, true, true, true, true, true, true, true, true, true, true, true, true, true, true, true, true, true, true, true, true, true, true, true, true, true, true, true, true, true, true, true, true, true, true, true, true, true, true, true, true, true, true, true, true, true, true] rfl (by decide +kernel) rfl 1 5 rfl rfl rfl ⟨Nat.le_of_ble_eq_true rfl, Nat.le_of_ble_eq_true rfl⟩ hl.1 (Nat.le_of_ble_eq_true rfl) dX6_keeping_118 ⟨Nat.le_of_ble_eq_true rfl, Nat.le_of_ble_eq_true rfl⟩ (fun r_96 u_98 H locs h_97 => ?_)
              clear hP hD hS
              intro hP hD hS
              obtain ⟨fX_99, rfl, h_97⟩ := h_97
              have hPD := pd_as (([_, _, _, _, _, _, _, _, _, _, _, _, _, _, _, _, _, _, _, _, _, _, _, _, _, _, _, _, _, _, _, _, _, _, _, _, _, _, _, _, _, _, _, _, _, _, _, _, _, _, _, _, _, _, _, _, zzI cy qmr 8 fX_99] : va_W) ++ (oM cy uN_92 ++ oM cy uN_26)) hP hD rfl
              clear hP hD
              obtain ⟨hP, hD⟩ := hPD
              subst h_97
              refine lv_ldcw hx hb hown (hts _ m_t1290) dX6_keeping_121 ?_
              refine lv_isub hx hb dX6_keeping_124 ?_
              refine lv_seti (v := (-1000005)) (by decide +kernel) ?_
              have hPD := pt_as [zzG cy 3 qmB rB, zzI cy (rB 0) 4 (bkR tA 0), zzI cy (rB 1) 4 (bkR tA 1), zzI cy (rB 2) 4 (bkR tA 2), zzI cy (rB 3) 4 (bkR tA 3), zzI cy (rB 4) 4 (bkR tA 4), zzI cy (rB 5) 4 (bkR tA 5), zzI cy (rB 6) 4 (bkR tA 6), zzI cy (rB 7) 4 (bkR tA 7), zzG cy 3 qmO rO, zzI cy (rO 0) 5 (onR tA 0), zzI cy (rO 1) 5 (onR tA 1), zzI cy (rO 2) 5 (onR tA 2), zzI cy (rO 3) 5 (onR tA 3), zzI cy (rO 4) 5 (onR tA 4), zzI cy (rO 5) 5 (onR tA 5), zzI cy (rO 6) 5 (onR tA 6), zzI cy (rO 7) 5 (onR tA 7), zzG cy 3 qmK rK, zzI cy (rK 0) 8 (T_kn tA 0), zzI cy (rK 1) 8 (T_kn tA 1), zzI cy (rK 2) 8 (T_kn tA 2), zzI cy (rK 3) 8 (T_kn tA 3), zzI cy (rK 4) 8 (T_kn tA 4), zzI cy (rK 5) 8 (T_kn tA 5), zzI cy (rK 6) 8 (T_kn tA 6), zzI cy (rK 7) 8 (T_kn tA 7), zzO qm 5 [.ref qmh, .ref qmo, .ref qmz, .ref qmR, .ref qmv, .ref qmk, .ref qma, .ref qmt, .int (nI kZ), .ref qmr, .int (nI (T_nb tA)), .ref qmB, .int (nI (T_np tA)), .ref qmO, .ref qmK, .int iEn, .int iTk, .int (T_sd tA), ov uP, ov uN_26, .int (nI kAt), .int iTo, .int iFr, .long JFi, .int iFa, .ref qm3, .int iSt, .int iLv, .int iNw_27, .ref qL_30, .ref qmu, .ref qmy, .ref qmb, .ref qms, .int iOm], zzI cy qmr 8 fX_99, zzO qL_30 5 [xL_38 0, xL_38 1, xL_38 2, xL_38 3, xL_38 4, xL_38 5, xL_38 6, xL_38 7, xL_38 8, xL_38 9, .int (nI (T_nb tX_84)), .ref qLB_31, .int (nI (T_np tX_84)), .ref qLO_32, .ref qLK_33, .int iX_85, .int iTk, .int (T_sd tX_84), xL_38 18, ov uN_92, xL_38 20, xL_38 21, xL_38 22, xL_38 23, xL_38 24, xL_38 25, xL_38 26, .int iY_86, .int iNw_93, xL_38 29, xL_38 30, xL_38 31, xL_38 32, xL_38 33, xL_38 34], zzG cy 3 qLB_31 rLB_34, zzI cy (rLB_34 0) 4 (bkR tX_84 0), zzI cy (rLB_34 1) 4 (bkR tX_84 1), zzI cy (rLB_34 2) 4 (bkR tX_84 2), zzI cy (rLB_34 3) 4 (bkR tX_84 3), zzI cy (rLB_34 4) 4 (bkR tX_84 4), zzI cy (rLB_34 5) 4 (bkR tX_84 5), zzI cy (rLB_34 6) 4 (bkR tX_84 6), zzI cy (rLB_34 7) 4 (bkR tX_84 7), zzG cy 3 qLO_32 rLO_35, zzI cy (rLO_35 0) 5 (onR tX_84 0), zzI cy (rLO_35 1) 5 (onR tX_84 1), zzI cy (rLO_35 2) 5 (onR tX_84 2), zzI cy (rLO_35 3) 5 (onR tX_84 3), zzI cy (rLO_35 4) 5 (onR tX_84 4), zzI cy (rLO_35 5) 5 (onR tX_84 5), zzI cy (rLO_35 6) 5 (onR tX_84 6), zzI cy (rLO_35 7) 5 (onR tX_84 7), zzG cy 3 qLK_33 rLK_36, zzI cy (rLK_36 0) 8 (T_kn tX_84 0), zzI cy (rLK_36 1) 8 (T_kn tX_84 1), zzI cy (rLK_36 2) 8 (T_kn tX_84 2), zzI cy (rLK_36 3) 8 (T_kn tX_84 3), zzI cy (rLK_36 4) 8 (T_kn tX_84 4), zzI cy (rLK_36 5) 8 (T_kn tX_84 5), zzI cy (rLK_36 6) 8 (T_kn tX_84 6), zzI cy (rLK_36 7) 8 (T_kn tX_84 7)] [0, 1, 2, 3, 4, 5, 6, 7, 8, 9, 10, 11, 12, 13, 14, 15, 16, 17, 18, 19, 20, 21, 22, 23, 24, 25, 26, 55, 56, 27, 28, 29, 30, 31, 32, 33, 34, 35, 36, 37, 38, 39, 40, 41, 42, 43, 44, 45, 46, 47, 48, 49, 50, 51, 52, 53, 54] hP hD (by decide +kernel) rfl
              clear hP hD
              obtain ⟨hP, hD⟩ := hPD
              have hPD := pd_as (([zzG cy 3 qmB rB, zzI cy (rB 0) 4 (bkR tA 0), zzI cy (rB 1) 4 (bkR tA 1), zzI cy (rB 2) 4 (bkR tA 2), zzI cy (rB 3) 4 (bkR tA 3), zzI cy (rB 4) 4 (bkR tA 4), zzI cy (rB 5) 4 (bkR tA 5), zzI cy (rB 6) 4 (bkR tA 6), zzI cy (rB 7) 4 (bkR tA 7), zzG cy 3 qmO rO, zzI cy (rO 0) 5 (onR tA 0), zzI cy (rO 1) 5 (onR tA 1), zzI cy (rO 2) 5 (onR tA 2), zzI cy (rO 3) 5 (onR tA 3), zzI cy (rO 4) 5 (onR tA 4), zzI cy (rO 5) 5 (onR tA 5), zzI cy (rO 6) 5 (onR tA 6), zzI cy (rO 7) 5 (onR tA 7), zzG cy 3 qmK rK, zzI cy (rK 0) 8 (T_kn tA 0), zzI cy (rK 1) 8 (T_kn tA 1), zzI cy (rK 2) 8 (T_kn tA 2), zzI cy (rK 3) 8 (T_kn tA 3), zzI cy (rK 4) 8 (T_kn tA 4), zzI cy (rK 5) 8 (T_kn tA 5), zzI cy (rK 6) 8 (T_kn tA 6), zzI cy (rK 7) 8 (T_kn tA 7), zzO qm 5 [.ref qmh, .ref qmo, .ref qmz, .ref qmR, .ref qmv, .ref qmk, .ref qma, .ref qmt, .int (nI kZ), .ref qmr, .int (nI (T_nb tA)), .ref qmB, .int (nI (T_np tA)), .ref qmO, .ref qmK, .int iEn, .int iTk, .int (T_sd tA), ov uP, ov uN_26, .int (nI kAt), .int iTo, .int iFr, .long JFi, .int iFa, .ref qm3, .int iSt, .int iLv, .int iNw_27, .ref qL_30, .ref qmu, .ref qmy, .ref qmb, .ref qms, .int iOm], zzI cy qmr 8 fX_99] ++ mL cy qL_30 qLB_31 qLO_32 qLK_33 rLB_34 rLO_35 rLK_36 tX_84 xL_38 iX_85 iTk iY_86 iNw_93 uN_92) ++ (oM cy uN_92 ++ oM cy uN_26)) hP hD rfl
              clear hP hD
              obtain ⟨hP, hD⟩ := hPD
              replace hP := kl2P hP
              replace hD := kl2D hD
              refine W.widen (k := 200) (n := 3552) (Nat.le_of_ble_eq_true rfl) (Nat.le_of_ble_eq_true rfl) ?_
              exact endW (u := ([zzO qm 5 [.ref qmh, .ref qmo, .ref qmz, .ref qmR, .ref qmv, .ref qmk, .ref qma, .ref qmt, .int (nI kZ), .ref qmr, .int (nI (T_nb tA)), .ref qmB, .int (nI (T_np tA)), .ref qmO, .ref qmK, .int iEn, .int iTk, .int (T_sd tA), ov uP, ov uN_26, .int (nI kAt), .int iTo, .int iFr, .long JFi, .int iFa, .ref qm3, .int iSt, .int iLv, .int iNw_27, .ref qL_30, .ref qmu, .ref qmy, .ref qmb, .ref qms, .int iOm], zzI cy qmr 8 fX_99, zzG cy 3 qmB rB, zzI cy (rB 0) 4 (bkR tA 0), zzI cy (rB 1) 4 (bkR tA 1), zzI cy (rB 2) 4 (bkR tA 2), zzI cy (rB 3) 4 (bkR tA 3), zzI cy (rB 4) 4 (bkR tA 4), zzI cy (rB 5) 4 (bkR tA 5), zzI cy (rB 6) 4 (bkR tA 6), zzI cy (rB 7) 4 (bkR tA 7), zzG cy 3 qmO rO, zzI cy (rO 0) 5 (onR tA 0), zzI cy (rO 1) 5 (onR tA 1), zzI cy (rO 2) 5 (onR tA 2), zzI cy (rO 3) 5 (onR tA 3), zzI cy (rO 4) 5 (onR tA 4), zzI cy (rO 5) 5 (onR tA 5), zzI cy (rO 6) 5 (onR tA 6), zzI cy (rO 7) 5 (onR tA 7), zzG cy 3 qmK rK, zzI cy (rK 0) 8 (T_kn tA 0), zzI cy (rK 1) 8 (T_kn tA 1), zzI cy (rK 2) 8 (T_kn tA 2), zzI cy (rK 3) 8 (T_kn tA 3), zzI cy (rK 4) 8 (T_kn tA 4), zzI cy (rK 5) 8 (T_kn tA 5), zzI cy (rK 6) 8 (T_kn tA 6), zzI cy (rK 7) 8 (T_kn tA 7)] ++ (oM cy uN_26 ++ oL cy (some ((qL_30, qLB_31, qLO_32, qLK_33, rLB_34, rLO_35, rLK_36, tX_84, xL_38, iX_85, iTk, iY_86, iNw_93), uN_92))))) hx hb hr hlocks rfl (pPt hP [[false, false, false, false, false, false, false, false, false, false, false, false, false, false, false, false, false, false, false, false, false, false, false, false, false, false, false, true, true], [true, true, true, true, true, true, true, true, true, true, true, true, true, true, true, true, true, true, true, true, true, true, true, true, true, true, true]] rfl rfl) (dPt hD [[false, false, false, false, false, false, false, false, false, false, false, false, false, false, false, false, false, false, false, false, false, false, false, false, false, false, false, true, true], [true, true, true, true, true, true, true, true, true, true, true, true, true, true, true, true, true, true, true, true, true, true, true, true, true, true, true]] (by decide +kernel) rfl rfl) hS ⟨(uN_26), (some ((qL_30, qLB_31, qLO_32, qLK_33, rLB_34, rLO_35, rLK_36, tX_84, xL_38, iX_85, iTk, iY_86, iNw_93), uN_92)), iNw_27, fX_99, rfl, Or.inr ⟨k_4, hk_5, rfl, h_9, by rw [nI_clamp (by omega)]; exact kp_2 hPp h_16 h_28 c_29 h_88.2 h_94 c_95⟩, trivial⟩ dX6_keeping_125
        · refine lv_aload_n hx hb dX6_keeping_52 rfl (lv_at hl 0 rfl) ?_
          refine lv_bipush (v := (-5)) hx hb dX6_keeping_53 (by decide +kernel) ?_
          refine cViQ (As := [.int (-5)]) (rest := []) (b := qm) (q := (RX6, TX6, 35)) ⟨hx, hb, hml, hown, hts⟩ (c_X6_refuse5 l G cy (H).size qm (.ref qmh) (.ref qmo) (.ref qmz) (.ref qmR) (.ref qmv) (.ref qmk) (.ref qma) (.ref qmt) (.int (nI kZ)) qmr tA qmB qmO qmK iEn iTk (ov uP) (ov uN_26) (.int (nI kAt)) (.int iTo) (.int iFr) (.long JFi) (.int iFa) (.ref qm3) (.int iSt) iLv iNw_27 (ovL wL) (.ref qmu) (.ref qmy) (.ref qmb) (.ref qms) (.int iOm) fMr) L_X6_91 hN hP hD hS hA [1, 0] [false, false, true, true, true, true, true, true, true, true, true, true, true, true, true, true, true, true, true, true, true, true, true, true, true, true, true, true, true] rfl (by decide +kernel) rfl 1 5 rfl rfl rfl ⟨Nat.le_of_ble_eq_true rfl, Nat.le_of_ble_eq_true rfl⟩ hl.1 (Nat.le_of_ble_eq_true rfl) dX6_keeping_55 ⟨Nat.le_of_ble_eq_true rfl, Nat.le_of_ble_eq_true rfl⟩ (fun r_100 u_102 H locs h_101 => ?_)
          clear hP hD hS
          intro hP hD hS
          obtain ⟨fX_103, rfl, h_101⟩ := h_101
          have hPD := pd_as (([_, _, _, _, _, _, _, _, _, _, _, _, _, _, _, _, _, _, _, _, _, _, _, _, _, _, _, _, zzI cy qmr 8 fX_103] : va_W) ++ (oM cy uN_26 ++ oL cy wL)) hP hD rfl
          clear hP hD
          obtain ⟨hP, hD⟩ := hPD
          subst h_101
          refine lv_ldcw hx hb hown (hts _ m_t1290) dX6_keeping_58 ?_
          refine lv_isub hx hb dX6_keeping_61 ?_
          refine lv_seti (v := (-1000005)) (by decide +kernel) ?_
          refine W.widen (k := 200) (n := 3552) (Nat.le_of_ble_eq_true rfl) (Nat.le_of_ble_eq_true rfl) ?_
          exact endW (u := ([zzO qm 5 [.ref qmh, .ref qmo, .ref qmz, .ref qmR, .ref qmv, .ref qmk, .ref qma, .ref qmt, .int (nI kZ), .ref qmr, .int (nI (T_nb tA)), .ref qmB, .int (nI (T_np tA)), .ref qmO, .ref qmK, .int iEn, .int iTk, .int (T_sd tA), ov uP, ov uN_26, .int (nI kAt), .int iTo, .int iFr, .long JFi, .int iFa, .ref qm3, .int iSt, .int iLv, .int iNw_27, ovL wL, .ref qmu, .ref qmy, .ref qmb, .ref qms, .int iOm], zzI cy qmr 8 fX_103, zzG cy 3 qmB rB, zzI cy (rB 0) 4 (bkR tA 0), zzI cy (rB 1) 4 (bkR tA 1), zzI cy (rB 2) 4 (bkR tA 2), zzI cy (rB 3) 4 (bkR tA 3), zzI cy (rB 4) 4 (bkR tA 4), zzI cy (rB 5) 4 (bkR tA 5), zzI cy (rB 6) 4 (bkR tA 6), zzI cy (rB 7) 4 (bkR tA 7), zzG cy 3 qmO rO, zzI cy (rO 0) 5 (onR tA 0), zzI cy (rO 1) 5 (onR tA 1), zzI cy (rO 2) 5 (onR tA 2), zzI cy (rO 3) 5 (onR tA 3), zzI cy (rO 4) 5 (onR tA 4), zzI cy (rO 5) 5 (onR tA 5), zzI cy (rO 6) 5 (onR tA 6), zzI cy (rO 7) 5 (onR tA 7), zzG cy 3 qmK rK, zzI cy (rK 0) 8 (T_kn tA 0), zzI cy (rK 1) 8 (T_kn tA 1), zzI cy (rK 2) 8 (T_kn tA 2), zzI cy (rK 3) 8 (T_kn tA 3), zzI cy (rK 4) 8 (T_kn tA 4), zzI cy (rK 5) 8 (T_kn tA 5), zzI cy (rK 6) 8 (T_kn tA 6), zzI cy (rK 7) 8 (T_kn tA 7)] ++ (oM cy uN_26 ++ oL cy wL))) hx hb hr hlocks rfl (pPt hP [[false, false, false, false, false, false, false, false, false, false, false, false, false, false, false, false, false, false, false, false, false, false, false, false, false, false, false, true, true], [true, true, true, true, true, true, true, true, true, true, true, true, true, true, true, true, true, true, true, true, true, true, true, true, true, true, true]] rfl rfl) (dPt hD [[false, false, false, false, false, false, false, false, false, false, false, false, false, false, false, false, false, false, false, false, false, false, false, false, false, false, false, true, true], [true, true, true, true, true, true, true, true, true, true, true, true, true, true, true, true, true, true, true, true, true, true, true, true, true, true, true]] (by decide +kernel) rfl rfl) hS ⟨(uN_26), (wL), iNw_27, fX_103, rfl, Or.inr ⟨k_4, hk_5, rfl, h_9, by rw [nI_clamp (by omega)]; exact kp_1 h_16 h_28 c_29⟩, trivial⟩ dX6_keeping_62
    · refine lv_if_ne (tgt := 34) hx hb dX6_keeping_20 (by decide +kernel) (fun h9 => absurd (by decide +kernel) h9) (fun _ => ?_)
      refine lv_aload_n hx hb dX6_keeping_23 rfl (lv_at hl 0 rfl) ?_
      refine lv_bipush (v := (-2)) hx hb dX6_keeping_24 (by decide +kernel) ?_
      refine cViQ (As := [.int (-2)]) (rest := []) (b := qm) (q := (RX6, TX6, 35)) ⟨hx, hb, hml, hown, hts⟩ (c_X6_refuse2 l G cy (s.heap).size qm (.ref qmh) (.ref qmo) (.ref qmz) (.ref qmR) (.ref qmv) (.ref qmk) (.ref qma) (.ref qmt) (.int (nI kZ)) qmr tA qmB qmO qmK iEn iTk (ov uP) (ov uU) (.int (nI kAt)) (.int iTo) (.int iFr) (.long JFi) (.int iFa) (.ref qm3) (.int iSt) iLv iWs (ovL wL) (.ref qmu) (.ref qmy) (.ref qmb) (.ref qms) (.int iOm) fMr) L_X6_91 hN hP hD hS hA [0, 1] [false, false, true, true, true, true, true, true, true, true, true, true, true, true, true, true, true, true, true, true, true, true, true, true, true, true, true, true, true] rfl (by decide +kernel) rfl 0 5 rfl rfl rfl ⟨Nat.le_of_ble_eq_true rfl, Nat.le_of_ble_eq_true rfl⟩ hl.1 (Nat.le_of_ble_eq_true rfl) dX6_keeping_26 ⟨Nat.le_of_ble_eq_true rfl, Nat.le_of_ble_eq_true rfl⟩ (fun r_105 u_107 H locs h_106 => ?_)
      clear hP hD hS
      intro hP hD hS
      obtain ⟨fX_108, rfl, h_106⟩ := h_106
      have hPD := pd_as (([_, _, _, _, _, _, _, _, _, _, _, _, _, _, _, _, _, _, _, _, _, _, _, _, _, _, _, _, zzI cy qmr 8 fX_108] : va_W) ++ (oM cy uU ++ oL cy wL)) hP hD rfl
      clear hP hD
      obtain ⟨hP, hD⟩ := hPD
      subst h_106
      refine lv_ldcw hx hb hown (hts _ m_t1290) dX6_keeping_29 ?_
      refine lv_isub hx hb dX6_keeping_32 ?_
      refine lv_seti (v := (-1000002)) (by decide +kernel) ?_
      refine W.widen (k := 200) (n := 3552) (Nat.le_of_ble_eq_true rfl) (Nat.le_of_ble_eq_true rfl) ?_
      exact endWt [[false, false, false, false, false, false, false, false, false, false, false, false, false, false, false, false, false, false, false, false, false, false, false, false, false, false, false, true, true], [true, true, true, true, true, true, true, true, true, true, true, true, true, true, true, true, true, true, true, true, true, true, true, true, true, true, true]] hx hb hr hlocks rfl hP hD rfl (by decide +kernel) hS ⟨(uU), (wL), iWs, fX_108, rfl, Or.inl ⟨rfl, fun q => h_9 q.2⟩, trivial⟩ dX6_keeping_33
  · refine lv_if_eq (tgt := 23) hx hb dX6_keeping_6 (by decide +kernel) (fun _ => ?_) (fun h9 => absurd (by decide +kernel) h9)
    refine lv_aload_n hx hb dX6_keeping_23 rfl (lv_at hl 0 rfl) ?_
    refine lv_bipush (v := (-2)) hx hb dX6_keeping_24 (by decide +kernel) ?_
    refine cViQ (As := [.int (-2)]) (rest := []) (b := qm) (q := (RX6, TX6, 35)) ⟨hx, hb, hml, hown, hts⟩ (c_X6_refuse2 l G cy (s.heap).size qm (.ref qmh) (.ref qmo) (.ref qmz) (.ref qmR) (.ref qmv) (.ref qmk) (.ref qma) (.ref qmt) (.int (nI kZ)) qmr tA qmB qmO qmK iEn iTk (ov uP) (ov uU) (.int (nI kAt)) (.int iTo) (.int iFr) (.long JFi) (.int iFa) (.ref qm3) (.int iSt) iLv iWs (ovL wL) (.ref qmu) (.ref qmy) (.ref qmb) (.ref qms) (.int iOm) fMr) L_X6_91 hN hP hD hS hA [0, 1] [false, false, true, true, true, true, true, true, true, true, true, true, true, true, true, true, true, true, true, true, true, true, true, true, true, true, true, true, true] rfl (by decide +kernel) rfl 0 5 rfl rfl rfl ⟨Nat.le_of_ble_eq_true rfl, Nat.le_of_ble_eq_true rfl⟩ hl.1 (Nat.le_of_ble_eq_true rfl) dX6_keeping_26 ⟨Nat.le_of_ble_eq_true rfl, Nat.le_of_ble_eq_true rfl⟩ (fun r_110 u_112 H locs h_111 => ?_)
    clear hP hD hS
    intro hP hD hS
    obtain ⟨fX_113, rfl, h_111⟩ := h_111
    have hPD := pd_as (([_, _, _, _, _, _, _, _, _, _, _, _, _, _, _, _, _, _, _, _, _, _, _, _, _, _, _, _, zzI cy qmr 8 fX_113] : va_W) ++ (oM cy uU ++ oL cy wL)) hP hD rfl
    clear hP hD
    obtain ⟨hP, hD⟩ := hPD
    subst h_111
    refine lv_ldcw hx hb hown (hts _ m_t1290) dX6_keeping_29 ?_
    refine lv_isub hx hb dX6_keeping_32 ?_
    refine lv_seti (v := (-1000002)) (by decide +kernel) ?_
    refine W.widen (k := 200) (n := 3552) (Nat.le_of_ble_eq_true rfl) (Nat.le_of_ble_eq_true rfl) ?_
    exact endWt [[false, false, false, false, false, false, false, false, false, false, false, false, false, false, false, false, false, false, false, false, false, false, false, false, false, false, false, true, true], [true, true, true, true, true, true, true, true, true, true, true, true, true, true, true, true, true, true, true, true, true, true, true, true, true, true, true]] hx hb hr hlocks rfl hP hD rfl (by decide +kernel) hS ⟨(uU), (wL), iWs, fX_113, rfl, Or.inl ⟨rfl, fun q => h_3 q.1⟩, trivial⟩ dX6_keeping_33
end
section
noncomputable def XW (cy : Nat → ClassId) (aX : Nat → Nat) (iKp : Int32) (iYe : Int32) (iTv : Int32) (fR : Nat → Int32) (tA : TA) (tB : TA) (iL : Int32) (iBs : Int32) (tU : TA) (tV : TA) (fH : Nat → Int32) (fS : Nat → Int32) (fA : Nat → Int32) (gE : Nat → Int64) (kZ : Nat) (iT1 : Int32) (iT2 : Int32) (iT3 : Int32) (iT4 : Int32) (fB : Nat → Int32) (tD : TA) : va_W := [zzO (aX 0) 4 [.ref (aX 2), .ref (aX 11), .ref (aX 20), .ref (aX 39), .ref (aX 44), .ref (aX 1), .int iKp, .int iYe, .int iTv], zzI cy (aX 1) 5 fR, zzO (aX 2) 3 [.int (nI (T_nb tA)), .int (nI (T_np tA)), .int (wb (T_wh tA)), .int (wb (T_gn tA)), .int (T_sd tA), .ref (aX 3), .ref (aX 4), .ref (aX 5), .ref (aX 6), .ref (aX 7), .ref (aX 8), .ref (aX 9), .ref (aX 10)], zzI cy (aX 3) 8 (T_wo tA), zzI cy (aX 4) 8 (T_ne tA), zzI cy (aX 5) 8 (T_go tA), zzI cy (aX 6) 8 (T_ag tA), zzI cy (aX 7) 8 (T_re tA), zzI cy (aX 8) 8 (T_me tA), zzI cy (aX 9) 8 (T_te tA), zzI cy (aX 10) 64 (shF (T_kn tA)), zzO (aX 11) 3 [.int (nI (T_nb tB)), .int (nI (T_np tB)), .int (wb (T_wh tB)), .int (wb (T_gn tB)), .int (T_sd tB), .ref (aX 12), .ref (aX 13), .ref (aX 14), .ref (aX 15), .ref (aX 16), .ref (aX 17), .ref (aX 18), .ref (aX 19)], zzI cy (aX 12) 8 (T_wo tB), zzI cy (aX 13) 8 (T_ne tB), zzI cy (aX 14) 8 (T_go tB), zzI cy (aX 15) 8 (T_ag tB), zzI cy (aX 16) 8 (T_re tB), zzI cy (aX 17) 8 (T_me tB), zzI cy (aX 18) 8 (T_te tB), zzI cy (aX 19) 64 (shF (T_kn tB)), zzO (aX 20) 0 [.ref (aX 21), .ref (aX 30), .int iL, .int iBs], zzO (aX 21) 3 [.int (nI (T_nb tU)), .int (nI (T_np tU)), .int (wb (T_wh tU)), .int (wb (T_gn tU)), .int (T_sd tU), .ref (aX 22), .ref (aX 23), .ref (aX 24), .ref (aX 25), .ref (aX 26), .ref (aX 27), .ref (aX 28), .ref (aX 29)], zzI cy (aX 22) 8 (T_wo tU), zzI cy (aX 23) 8 (T_ne tU), zzI cy (aX 24) 8 (T_go tU), zzI cy (aX 25) 8 (T_ag tU), zzI cy (aX 26) 8 (T_re tU), zzI cy (aX 27) 8 (T_me tU), zzI cy (aX 28) 8 (T_te tU), zzI cy (aX 29) 64 (shF (T_kn tU)), zzO (aX 30) 3 [.int (nI (T_nb tV)), .int (nI (T_np tV)), .int (wb (T_wh tV)), .int (wb (T_gn tV)), .int (T_sd tV), .ref (aX 31), .ref (aX 32), .ref (aX 33), .ref (aX 34), .ref (aX 35), .ref (aX 36), .ref (aX 37), .ref (aX 38)], zzI cy (aX 31) 8 (T_wo tV), zzI cy (aX 32) 8 (T_ne tV), zzI cy (aX 33) 8 (T_go tV), zzI cy (aX 34) 8 (T_ag tV), zzI cy (aX 35) 8 (T_re tV), zzI cy (aX 36) 8 (T_me tV), zzI cy (aX 37) 8 (T_te tV), zzI cy (aX 38) 64 (shF (T_kn tV)), zzO (aX 39) 1 [.ref (aX 40), .ref (aX 41), .ref (aX 42), .ref (aX 43)], zzI cy (aX 40) 8 fH, zzI cy (aX 41) 8 fS, zzI cy (aX 42) 8 fA, zzJ cy (aX 43) 320 gE, zzO (aX 44) 2 [.ref (aX 45), .int (nI kZ), .int iT1, .int iT2, .int iT3, .int iT4, .ref (aX 46)], zzB cy (aX 45) 250 fB, zzO (aX 46) 3 [.int (nI (T_nb tD)), .int (nI (T_np tD)), .int (wb (T_wh tD)), .int (wb (T_gn tD)), .int (T_sd tD), .ref (aX 47), .ref (aX 48), .ref (aX 49), .ref (aX 50), .ref (aX 51), .ref (aX 52), .ref (aX 53), .ref (aX 54)], zzI cy (aX 47) 8 (T_wo tD), zzI cy (aX 48) 8 (T_ne tD), zzI cy (aX 49) 8 (T_go tD), zzI cy (aX 50) 8 (T_ag tD), zzI cy (aX 51) 8 (T_re tD), zzI cy (aX 52) 8 (T_me tD), zzI cy (aX 53) 8 (T_te tD), zzI cy (aX 54) 64 (shF (T_kn tD))]
noncomputable def MK (cy : Nat → ClassId) (aM : Nat → Nat) (rR rB rO rK : Nat → Nat) (fMh : Nat → Int32) (fMo : Nat → Int32) (fMz : Nat → Int32) (gMv : Nat → Int64) (fMk : Nat → Int32) (fMa : Nat → Int32) (fMt : Nat → Int32) (kY : Nat) (fMr : Nat → Int32) (fM3 : Nat → Int32) (fMu : Nat → Int32) (fMy : Nat → Int32) (fMb : Nat → Int32) (eR : Nat → Nat → Int64) (tM : TA) (iEn : Int32) (iTk : Int32) (uP : UM) (uU : UM) (kAt : Nat) (iTo : Int32) (iFr : Int32) (JFi : Int64) (iFa : Int32) (iSt : Int32) (iLv : Int32) (iWs : Int32) (wL : UL) (uS0 : UM) (uS1 : UM) (uS2 : UM) (uS3 : UM) (uS4 : UM) (iOm : Int32) : va_W := [zzO (aM 0) 5 [.ref (aM 1), .ref (aM 2), .ref (aM 3), .ref (aM 14), .ref (aM 4), .ref (aM 5), .ref (aM 6), .ref (aM 7), .int (nI kY), .ref (aM 8), .int (nI (T_nb tM)), .ref (aM 15), .int (nI (T_np tM)), .ref (aM 16), .ref (aM 17), .int iEn, .int iTk, .int (T_sd tM), ov uP, ov uU, .int (nI kAt), .int iTo, .int iFr, .long JFi, .int iFa, .ref (aM 9), .int iSt, .int iLv, .int iWs, ovL wL, .ref (aM 10), .ref (aM 11), .ref (aM 12), .ref (aM 13), .int iOm], zzI cy (aM 1) 8 fMh, zzI cy (aM 2) 8 fMo, zzI cy (aM 3) 8 fMz, zzJ cy (aM 4) 40 gMv, zzI cy (aM 5) 8 fMk, zzI cy (aM 6) 8 fMa, zzI cy (aM 7) 250 fMt, zzI cy (aM 8) 8 fMr, zzI cy (aM 9) 3 fM3, zzI cy (aM 10) 8 fMu, zzI cy (aM 11) 5 fMy, zzI cy (aM 12) 5 fMb, zzQ cy 5 (aM 13) 6 (sF (refU uS0) (refU uS1) (refU uS2) (refU uS3) (refU uS4)), zzG cy 4 (aM 14) rR, zzJ cy (rR 0) 40 (eR 0), zzJ cy (rR 1) 40 (eR 1), zzJ cy (rR 2) 40 (eR 2), zzJ cy (rR 3) 40 (eR 3), zzJ cy (rR 4) 40 (eR 4), zzJ cy (rR 5) 40 (eR 5), zzJ cy (rR 6) 40 (eR 6), zzJ cy (rR 7) 40 (eR 7), zzG cy 3 (aM 15) rB, zzI cy (rB 0) 4 (bkR tM 0), zzI cy (rB 1) 4 (bkR tM 1), zzI cy (rB 2) 4 (bkR tM 2), zzI cy (rB 3) 4 (bkR tM 3), zzI cy (rB 4) 4 (bkR tM 4), zzI cy (rB 5) 4 (bkR tM 5), zzI cy (rB 6) 4 (bkR tM 6), zzI cy (rB 7) 4 (bkR tM 7), zzG cy 3 (aM 16) rO, zzI cy (rO 0) 5 (onR tM 0), zzI cy (rO 1) 5 (onR tM 1), zzI cy (rO 2) 5 (onR tM 2), zzI cy (rO 3) 5 (onR tM 3), zzI cy (rO 4) 5 (onR tM 4), zzI cy (rO 5) 5 (onR tM 5), zzI cy (rO 6) 5 (onR tM 6), zzI cy (rO 7) 5 (onR tM 7), zzG cy 3 (aM 17) rK, zzI cy (rK 0) 8 (T_kn tM 0), zzI cy (rK 1) 8 (T_kn tM 1), zzI cy (rK 2) 8 (T_kn tM 2), zzI cy (rK 3) 8 (T_kn tM 3), zzI cy (rK 4) 8 (T_kn tM 4), zzI cy (rK 5) 8 (T_kn tM 5), zzI cy (rK 6) 8 (T_kn tM 6), zzI cy (rK 7) 8 (T_kn tM 7)]
section PERM
variable {G : va_G} {H : Heap} {A : Nat → Prop} {a b c d k t x u l s p q w : va_W}
theorem rotP (h : va_P G CL (a ++ (b ++ (c ++ d))) H) : va_P G CL (a ++ (c ++ (b ++ d))) H := by
  have h1 : va_P G CL ((a ++ b) ++ (c ++ d)) H := by rw [List.append_assoc]; exact h
  have h2 := h1.swap
  have h3 : va_P G CL (((a ++ c) ++ d) ++ b) H := by rw [List.append_assoc a c d]; exact h2
  have h4 := h3.swap
  rw [List.append_assoc, List.append_assoc] at h4
  exact h4
theorem rotD (h : va_D A (a ++ (b ++ (c ++ d)))) : va_D A (a ++ (c ++ (b ++ d))) := by
  have h1 : va_D A ((a ++ b) ++ (c ++ d)) := by rw [List.append_assoc]; exact h
  have h2 := h1.swap
  have h3 : va_D A (((a ++ c) ++ d) ++ b) := by rw [List.append_assoc a c d]; exact h2
  have h4 := h3.swap
  rw [List.append_assoc, List.append_assoc] at h4
  exact h4
theorem toNP (h : va_P G CL (x ++ (k ++ t)) H) : va_P G CL (k ++ (t ++ x)) H := by
  have h0 := h
  have h1 : va_P G CL ([] ++ ((k ++ t) ++ (x ++ []))) H := rotP (a := []) (b := x) (c := (k ++ t)) (d := []) (by simpa only [List.append_assoc, List.nil_append, List.append_nil] using h0)
  simpa only [List.append_assoc, List.nil_append, List.append_nil] using h1
theorem toND (h : va_D A (x ++ (k ++ t))) : va_D A (k ++ (t ++ x)) := by
  have h0 := h
  have h1 : va_D A ([] ++ ((k ++ t) ++ (x ++ []))) := rotD (a := []) (b := x) (c := (k ++ t)) (d := []) (by simpa only [List.append_assoc, List.nil_append, List.append_nil] using h0)
  simpa only [List.append_assoc, List.nil_append, List.append_nil] using h1
theorem ofNP (h : va_P G CL (k ++ (t ++ x)) H) : va_P G CL (x ++ (k ++ t)) H := by
  have h0 := h
  have h1 : va_P G CL ([] ++ (x ++ ((k ++ t) ++ []))) H := rotP (a := []) (b := (k ++ t)) (c := x) (d := []) (by simpa only [List.append_assoc, List.nil_append, List.append_nil] using h0)
  simpa only [List.append_assoc, List.nil_append, List.append_nil] using h1
theorem ofND (h : va_D A (k ++ (t ++ x))) : va_D A (x ++ (k ++ t)) := by
  have h0 := h
  have h1 : va_D A ([] ++ (x ++ ((k ++ t) ++ []))) := rotD (a := []) (b := (k ++ t)) (c := x) (d := []) (by simpa only [List.append_assoc, List.nil_append, List.append_nil] using h0)
  simpa only [List.append_assoc, List.nil_append, List.append_nil] using h1
theorem toUP (h : va_P G CL (x ++ (k ++ (u ++ t))) H) : va_P G CL ((k ++ u) ++ (t ++ x)) H := by
  have h0 := h
  have h1 : va_P G CL ([] ++ ((k ++ (u ++ t)) ++ (x ++ []))) H := rotP (a := []) (b := x) (c := (k ++ (u ++ t))) (d := []) (by simpa only [List.append_assoc, List.nil_append, List.append_nil] using h0)
  simpa only [List.append_assoc, List.nil_append, List.append_nil] using h1
theorem toUD (h : va_D A (x ++ (k ++ (u ++ t)))) : va_D A ((k ++ u) ++ (t ++ x)) := by
  have h0 := h
  have h1 : va_D A ([] ++ ((k ++ (u ++ t)) ++ (x ++ []))) := rotD (a := []) (b := x) (c := (k ++ (u ++ t))) (d := []) (by simpa only [List.append_assoc, List.nil_append, List.append_nil] using h0)
  simpa only [List.append_assoc, List.nil_append, List.append_nil] using h1
theorem ofUP (h : va_P G CL (k ++ (u ++ (t ++ x))) H) : va_P G CL (x ++ (k ++ (u ++ t))) H := by
  have h0 := h
  have h1 : va_P G CL ([] ++ (x ++ ((k ++ (u ++ t)) ++ []))) H := rotP (a := []) (b := (k ++ (u ++ t))) (c := x) (d := []) (by simpa only [List.append_assoc, List.nil_append, List.append_nil] using h0)
  simpa only [List.append_assoc, List.nil_append, List.append_nil] using h1
theorem ofUD (h : va_D A (k ++ (u ++ (t ++ x)))) : va_D A (x ++ (k ++ (u ++ t))) := by
  have h0 := h
  have h1 : va_D A ([] ++ (x ++ ((k ++ (u ++ t)) ++ []))) := rotD (a := []) (b := (k ++ (u ++ t))) (c := x) (d := []) (by simpa only [List.append_assoc, List.nil_append, List.append_nil] using h0)
  simpa only [List.append_assoc, List.nil_append, List.append_nil] using h1
theorem toLP (h : va_P G CL (x ++ (k ++ (u ++ (l ++ t)))) H) : va_P G CL ((k ++ (u ++ l)) ++ (t ++ x)) H := by
  have h0 := h
  have h1 : va_P G CL ([] ++ ((k ++ (u ++ (l ++ t))) ++ (x ++ []))) H := rotP (a := []) (b := x) (c := (k ++ (u ++ (l ++ t)))) (d := []) (by simpa only [List.append_assoc, List.nil_append, List.append_nil] using h0)
  simpa only [List.append_assoc, List.nil_append, List.append_nil] using h1
theorem toLD (h : va_D A (x ++ (k ++ (u ++ (l ++ t))))) : va_D A ((k ++ (u ++ l)) ++ (t ++ x)) := by
  have h0 := h
  have h1 : va_D A ([] ++ ((k ++ (u ++ (l ++ t))) ++ (x ++ []))) := rotD (a := []) (b := x) (c := (k ++ (u ++ (l ++ t)))) (d := []) (by simpa only [List.append_assoc, List.nil_append, List.append_nil] using h0)
  simpa only [List.append_assoc, List.nil_append, List.append_nil] using h1
theorem ofLP (h : va_P G CL (k ++ ((u ++ l) ++ (t ++ x))) H) : va_P G CL (x ++ (k ++ (u ++ (l ++ t)))) H := by
  have h0 := h
  have h1 : va_P G CL ([] ++ (x ++ ((k ++ (u ++ (l ++ t))) ++ []))) H := rotP (a := []) (b := (k ++ (u ++ (l ++ t)))) (c := x) (d := []) (by simpa only [List.append_assoc, List.nil_append, List.append_nil] using h0)
  simpa only [List.append_assoc, List.nil_append, List.append_nil] using h1
theorem ofLD (h : va_D A (k ++ ((u ++ l) ++ (t ++ x)))) : va_D A (x ++ (k ++ (u ++ (l ++ t)))) := by
  have h0 := h
  have h1 : va_D A ([] ++ (x ++ ((k ++ (u ++ (l ++ t))) ++ []))) := rotD (a := []) (b := (k ++ (u ++ (l ++ t)))) (c := x) (d := []) (by simpa only [List.append_assoc, List.nil_append, List.append_nil] using h0)
  simpa only [List.append_assoc, List.nil_append, List.append_nil] using h1
theorem toPP (h : va_P G CL (x ++ (k ++ (u ++ (l ++ (p ++ s))))) H) : va_P G CL ((k ++ p) ++ (u ++ (l ++ (s ++ x)))) H := by
  have h0 := h
  have h1 : va_P G CL ([] ++ ((k ++ (u ++ (l ++ (p ++ s)))) ++ (x ++ []))) H := rotP (a := []) (b := x) (c := (k ++ (u ++ (l ++ (p ++ s))))) (d := []) (by simpa only [List.append_assoc, List.nil_append, List.append_nil] using h0)
  have h2 : va_P G CL (k ++ (p ++ ((u ++ l) ++ (s ++ x)))) H := rotP (a := k) (b := (u ++ l)) (c := p) (d := (s ++ x)) (by simpa only [List.append_assoc, List.nil_append, List.append_nil] using h1)
  simpa only [List.append_assoc, List.nil_append, List.append_nil] using h2
theorem toPD (h : va_D A (x ++ (k ++ (u ++ (l ++ (p ++ s)))))) : va_D A ((k ++ p) ++ (u ++ (l ++ (s ++ x)))) := by
  have h0 := h
  have h1 : va_D A ([] ++ ((k ++ (u ++ (l ++ (p ++ s)))) ++ (x ++ []))) := rotD (a := []) (b := x) (c := (k ++ (u ++ (l ++ (p ++ s))))) (d := []) (by simpa only [List.append_assoc, List.nil_append, List.append_nil] using h0)
  have h2 : va_D A (k ++ (p ++ ((u ++ l) ++ (s ++ x)))) := rotD (a := k) (b := (u ++ l)) (c := p) (d := (s ++ x)) (by simpa only [List.append_assoc, List.nil_append, List.append_nil] using h1)
  simpa only [List.append_assoc, List.nil_append, List.append_nil] using h2
theorem ofPP (h : va_P G CL (k ++ (p ++ (u ++ (l ++ (s ++ x))))) H) : va_P G CL (x ++ (k ++ (u ++ (l ++ (p ++ s))))) H := by
  have h0 := h
  have h1 : va_P G CL (k ++ ((u ++ l) ++ (p ++ (s ++ x)))) H := rotP (a := k) (b := p) (c := (u ++ l)) (d := (s ++ x)) (by simpa only [List.append_assoc, List.nil_append, List.append_nil] using h0)
  have h2 : va_P G CL ([] ++ (x ++ ((k ++ (u ++ (l ++ (p ++ s)))) ++ []))) H := rotP (a := []) (b := (k ++ (u ++ (l ++ (p ++ s))))) (c := x) (d := []) (by simpa only [List.append_assoc, List.nil_append, List.append_nil] using h1)
  simpa only [List.append_assoc, List.nil_append, List.append_nil] using h2
theorem ofPD (h : va_D A (k ++ (p ++ (u ++ (l ++ (s ++ x)))))) : va_D A (x ++ (k ++ (u ++ (l ++ (p ++ s))))) := by
  have h0 := h
  have h1 : va_D A (k ++ ((u ++ l) ++ (p ++ (s ++ x)))) := rotD (a := k) (b := p) (c := (u ++ l)) (d := (s ++ x)) (by simpa only [List.append_assoc, List.nil_append, List.append_nil] using h0)
  have h2 : va_D A ([] ++ (x ++ ((k ++ (u ++ (l ++ (p ++ s)))) ++ []))) := rotD (a := []) (b := (k ++ (u ++ (l ++ (p ++ s))))) (c := x) (d := []) (by simpa only [List.append_assoc, List.nil_append, List.append_nil] using h1)
  simpa only [List.append_assoc, List.nil_append, List.append_nil] using h2
theorem toSP (h : va_P G CL (x ++ (k ++ (u ++ (l ++ (p ++ s))))) H) : va_P G CL ((k ++ s) ++ (u ++ (l ++ (p ++ x)))) H := by
  have h0 := h
  have h1 : va_P G CL ([] ++ ((k ++ (u ++ (l ++ (p ++ s)))) ++ (x ++ []))) H := rotP (a := []) (b := x) (c := (k ++ (u ++ (l ++ (p ++ s))))) (d := []) (by simpa only [List.append_assoc, List.nil_append, List.append_nil] using h0)
  have h2 : va_P G CL (k ++ (s ++ ((u ++ (l ++ p)) ++ x))) H := rotP (a := k) (b := (u ++ (l ++ p))) (c := s) (d := x) (by simpa only [List.append_assoc, List.nil_append, List.append_nil] using h1)
  simpa only [List.append_assoc, List.nil_append, List.append_nil] using h2
theorem toSD (h : va_D A (x ++ (k ++ (u ++ (l ++ (p ++ s)))))) : va_D A ((k ++ s) ++ (u ++ (l ++ (p ++ x)))) := by
  have h0 := h
  have h1 : va_D A ([] ++ ((k ++ (u ++ (l ++ (p ++ s)))) ++ (x ++ []))) := rotD (a := []) (b := x) (c := (k ++ (u ++ (l ++ (p ++ s))))) (d := []) (by simpa only [List.append_assoc, List.nil_append, List.append_nil] using h0)
  have h2 : va_D A (k ++ (s ++ ((u ++ (l ++ p)) ++ x))) := rotD (a := k) (b := (u ++ (l ++ p))) (c := s) (d := x) (by simpa only [List.append_assoc, List.nil_append, List.append_nil] using h1)
  simpa only [List.append_assoc, List.nil_append, List.append_nil] using h2
theorem ofSP (h : va_P G CL (k ++ (s ++ (u ++ (l ++ (p ++ x))))) H) : va_P G CL (x ++ (k ++ (u ++ (l ++ (p ++ s))))) H := by
  have h0 := h
  have h1 : va_P G CL (k ++ ((u ++ (l ++ p)) ++ (s ++ x))) H := rotP (a := k) (b := s) (c := (u ++ (l ++ p))) (d := x) (by simpa only [List.append_assoc, List.nil_append, List.append_nil] using h0)
  have h2 : va_P G CL ([] ++ (x ++ ((k ++ (u ++ (l ++ (p ++ s)))) ++ []))) H := rotP (a := []) (b := (k ++ (u ++ (l ++ (p ++ s))))) (c := x) (d := []) (by simpa only [List.append_assoc, List.nil_append, List.append_nil] using h1)
  simpa only [List.append_assoc, List.nil_append, List.append_nil] using h2
theorem ofSD (h : va_D A (k ++ (s ++ (u ++ (l ++ (p ++ x)))))) : va_D A (x ++ (k ++ (u ++ (l ++ (p ++ s))))) := by
  have h0 := h
  have h1 : va_D A (k ++ ((u ++ (l ++ p)) ++ (s ++ x))) := rotD (a := k) (b := s) (c := (u ++ (l ++ p))) (d := x) (by simpa only [List.append_assoc, List.nil_append, List.append_nil] using h0)
  have h2 : va_D A ([] ++ (x ++ ((k ++ (u ++ (l ++ (p ++ s)))) ++ []))) := rotD (a := []) (b := (k ++ (u ++ (l ++ (p ++ s))))) (c := x) (d := []) (by simpa only [List.append_assoc, List.nil_append, List.append_nil] using h1)
  simpa only [List.append_assoc, List.nil_append, List.append_nil] using h2
end PERM
noncomputable def SX (tA tB tD : TA) (fS : Nat → Int32) (kZ : Nat) : Prop := (T_nb tA ≤ 8 ∧ T_np tA ≤ 8) ∧ (T_nb tB ≤ 8 ∧ T_np tB ≤ 8) ∧ T_nb tD ≤ 8 ∧ (∀ s, s < 8 → ∃ n : Nat, n ≤ 40 ∧ fS s = nI n) ∧ kZ ≤ 250
noncomputable def SM (tM : TA) (uP : UM) (fMz fMa : Nat → Int32) (kY : Nat) : Prop := TI tM ∧ (isS uP = true → TI (uT uP)) ∧ (∀ s, s < 8 → ∃ n : Nat, n ≤ 40 ∧ fMz s = nI n) ∧ (∀ s, s < 8 → ∃ n : Nat, n ≤ 99 ∧ fMa s = nI n) ∧ kY ≤ 250
/-! the towns are one town: what each call leaves of that -/
noncomputable def TWR (tA tB : TA) (fB : Nat → Int32) (kZ : Nat) (fMt : Nat → Int32) (kY : Nat) (tM : TA) (uP : UM) : Prop := tA = tM ∧ WI tM ∧ (isS uP = true → tB = uT uP ∧ WI (uT uP)) ∧ nbf fB kZ = nbf fMt kY
theorem k_eq {k k' n : Nat} {a : Int32} (hn : n ≤ 8) (hk : k < n) (hk' : k' < n) (e : a = nI k) (e' : a = nI k') : k' = k := nI_inj (by omega) (by omega) (e'.symm.trans e)
section TW
variable {tA tM t1 t2 : TA} {a b c d r r' : Int32}
theorem book_k (e : tA = tM) (h1 : PXbook tA a b r t1) (h2 : PXbook tM a b r' t2) : r = r' ∧ t1 = t2 := by
  subst e
  rcases h1 with ⟨e1, c1, f1⟩ | ⟨e1, c1, d1, g1, f1⟩ | ⟨e1, c1, d1, g1, f1⟩
  · rcases h2 with ⟨e2, c2, f2⟩ | ⟨e2, c2, d2, g2, f2⟩ | ⟨e2, c2, d2, g2, f2⟩
    · exact ⟨e1.trans e2.symm, f1.trans f2.symm⟩
    · exact absurd ⟨c2, d2⟩ c1
    · exact absurd ⟨c2, d2⟩ c1
  · rcases h2 with ⟨e2, c2, f2⟩ | ⟨e2, c2, d2, g2, f2⟩ | ⟨e2, c2, d2, g2, f2⟩
    · exact absurd ⟨c1, d1⟩ c2
    · exact ⟨e1.trans e2.symm, f1.trans f2.symm⟩
    · exact absurd g2 g1
  · rcases h2 with ⟨e2, c2, f2⟩ | ⟨e2, c2, d2, g2, f2⟩ | ⟨e2, c2, d2, g2, f2⟩
    · exact absurd ⟨c1, d1⟩ c2
    · exact absurd g1 g2
    · exact ⟨e1.trans e2.symm, f1.trans f2.symm⟩
theorem one_k (e : tA = tM) (h1 : PXone tA a b c d r t1) (h2 : PXone tM a b c d r' t2) : r = r' ∧ t1 = t2 := by
  subst e
  rcases h1 with ⟨e1, c1, f1⟩ | ⟨e1, c1, g1, f1⟩ | ⟨e1, c1, g1, f1⟩
  · rcases h2 with ⟨e2, c2, f2⟩ | ⟨e2, c2, g2, f2⟩ | ⟨e2, c2, g2, f2⟩
    · exact ⟨e1.trans e2.symm, f1.trans f2.symm⟩
    · exact absurd c2 c1
    · exact absurd c2 c1
  · rcases h2 with ⟨e2, c2, f2⟩ | ⟨e2, c2, g2, f2⟩ | ⟨e2, c2, g2, f2⟩
    · exact absurd c1 c2
    · exact ⟨e1.trans e2.symm, f1.trans f2.symm⟩
    · exact absurd g2 g1
  · rcases h2 with ⟨e2, c2, f2⟩ | ⟨e2, c2, g2, f2⟩ | ⟨e2, c2, g2, f2⟩
    · exact absurd c1 c2
    · exact absurd g1 g2
    · exact ⟨e1.trans e2.symm, f1.trans f2.symm⟩
theorem alter_k (e : tA = tM) (hn : T_nb tM ≤ 8 ∧ T_np tM ≤ 8) (h1 : PXalter tA a b c r t1) (h2 : PXalter tM a b c r' t2) : r = r' ∧ t1 = t2 := by
  subst e
  rcases h1 with ⟨e1, c1, f1⟩ | ⟨k, m, hk, hm, ek, em, iv, h1⟩
  · rcases h2 with ⟨e2, c2, f2⟩ | ⟨k, m, hk, hm, ek, em, iv, h2⟩
    · exact ⟨e1.trans e2.symm, f1.trans f2.symm⟩
    · exact absurd ⟨⟨⟨k, hk, ek⟩, ⟨m, hm, em⟩⟩, iv⟩ c1
  · rcases h2 with ⟨e2, c2, f2⟩ | ⟨k', m', hk', hm', ek', em', iv', h2⟩
    · exact absurd ⟨⟨⟨k, hk, ek⟩, ⟨m, hm, em⟩⟩, iv⟩ c2
    · have q1 := k_eq hn.2 hk hk' ek ek'
      have q2 := k_eq hn.1 hm hm' em em'
      subst q1
      subst q2
      rcases h1 with ⟨e1, g1, f1⟩ | ⟨e1, g1, f1⟩
      · rcases h2 with ⟨e2, g2, f2⟩ | ⟨e2, g2, f2⟩
        · exact ⟨e1.trans e2.symm, f1.trans f2.symm⟩
        · rw [g1] at g2; cases g2
      · rcases h2 with ⟨e2, g2, f2⟩ | ⟨e2, g2, f2⟩
        · rw [g1] at g2; cases g2
        · exact ⟨e1.trans e2.symm, f1.trans f2.symm⟩
theorem read_k (e : tA = tM) (hn : T_nb tM ≤ 8 ∧ T_np tM ≤ 8) (h1 : PXread tA a b r t1) (h2 : PXread tM a b r' t2) : r = r' ∧ t1 = t2 := by
  subst e
  rcases h1 with ⟨e1, c1, f1⟩ | ⟨k, m, hk, hm, ek, em, h1⟩
  · rcases h2 with ⟨e2, c2, f2⟩ | ⟨k, m, hk, hm, ek, em, h2⟩
    · exact ⟨e1.trans e2.symm, f1.trans f2.symm⟩
    · exact absurd ⟨⟨k, hk, ek⟩, ⟨m, hm, em⟩⟩ c1
  · rcases h2 with ⟨e2, c2, f2⟩ | ⟨k', m', hk', hm', ek', em', h2⟩
    · exact absurd ⟨⟨k, hk, ek⟩, ⟨m, hm, em⟩⟩ c2
    · have q1 := k_eq hn.2 hk hk' ek ek'
      have q2 := k_eq hn.1 hm hm' em em'
      subst q1
      subst q2
      rcases h1 with ⟨e1, g1, f1⟩ | ⟨e1, g1, p1, f1⟩
      · rcases h2 with ⟨e2, g2, f2⟩ | ⟨e2, g2, p2, f2⟩
        · exact ⟨e1.trans e2.symm, f1.trans f2.symm⟩
        · rw [g2, p2] at g1; exact absurd g1 (by decide +kernel)
      · rcases h2 with ⟨e2, g2, f2⟩ | ⟨e2, g2, p2, f2⟩
        · rw [g1, p1] at g2; exact absurd g2 (by decide +kernel)
        · exact ⟨e1.trans e2.symm, f1.trans f2.symm⟩
theorem aloud_k (e : tA = tM) (hn : T_nb tM ≤ 8 ∧ T_np tM ≤ 8) (h1 : PXaloud tA a b c r t1) (h2 : PXaloud tM a b c r' t2) : r = r' ∧ t1 = t2 := by
  subst e
  rcases h1 with ⟨e1, c1, f1⟩ | ⟨k, m, hk, hm, ek, em, iv, h1⟩
  · rcases h2 with ⟨e2, c2, f2⟩ | ⟨k, m, hk, hm, ek, em, iv, h2⟩
    · exact ⟨e1.trans e2.symm, f1.trans f2.symm⟩
    · exact absurd ⟨iv, ⟨⟨k, hk, ek⟩, ⟨m, hm, em⟩⟩⟩ c1
  · rcases h2 with ⟨e2, c2, f2⟩ | ⟨k', m', hk', hm', ek', em', iv', h2⟩
    · exact absurd ⟨iv, ⟨⟨k, hk, ek⟩, ⟨m, hm, em⟩⟩⟩ c2
    · have q1 := k_eq hn.2 hk hk' ek ek'
      have q2 := k_eq hn.1 hm hm' em em'
      subst q1
      subst q2
      rcases h1 with ⟨e1, g1, f1⟩ | ⟨e1, g1, p1, f1⟩
      · rcases h2 with ⟨e2, g2, f2⟩ | ⟨e2, g2, p2, f2⟩
        · exact ⟨e1.trans e2.symm, f1.trans f2.symm⟩
        · rw [g2, p2] at g1; exact absurd g1 (by decide +kernel)
      · rcases h2 with ⟨e2, g2, f2⟩ | ⟨e2, g2, p2, f2⟩
        · rw [g1, p1] at g2; exact absurd g2 (by decide +kernel)
        · exact ⟨e1.trans e2.symm, f1.trans f2.symm⟩
theorem tell_k (e : tA = tM) (hn : T_nb tM ≤ 8 ∧ T_np tM ≤ 8) (h1 : PXtell tA a b c r t1) (h2 : PXtell tM a b c r' t2) : r = r' ∧ t1 = t2 := by
  subst e
  rcases h1 with ⟨e1, c1, f1⟩ | ⟨k, j, m, hk, hj, hm, ek, ej, em, ne, h1⟩
  · rcases h2 with ⟨e2, c2, f2⟩ | ⟨k, j, m, hk, hj, hm, ek, ej, em, ne, h2⟩
    · exact ⟨e1.trans e2.symm, f1.trans f2.symm⟩
    · exact absurd ⟨⟨⟨k, hk, ek⟩, ⟨m, hm, em⟩⟩, ⟨j, hj, ej⟩, fun q => ne (nI_inj (by omega) (by omega) (ek.symm.trans (q.trans ej)))⟩ c1
  · rcases h2 with ⟨e2, c2, f2⟩ | ⟨k', j', m', hk', hj', hm', ek', ej', em', ne', h2⟩
    · exact absurd ⟨⟨⟨k, hk, ek⟩, ⟨m, hm, em⟩⟩, ⟨j, hj, ej⟩, fun q => ne (nI_inj (by omega) (by omega) (ek.symm.trans (q.trans ej)))⟩ c2
    · have q1 := k_eq hn.2 hk hk' ek ek'
      have q2 := k_eq hn.1 hm hm' em em'
      have q3 := k_eq hn.2 hj hj' ej ej'
      subst q1
      subst q2
      subst q3
      rcases h1 with ⟨e1, g1, f1⟩ | ⟨e1, g1, p1, f1⟩
      · rcases h2 with ⟨e2, g2, f2⟩ | ⟨e2, g2, p2, f2⟩
        · exact ⟨e1.trans e2.symm, f1.trans f2.symm⟩
        · rw [g2, p2] at g1; exact absurd g1 (by decide +kernel)
      · rcases h2 with ⟨e2, g2, f2⟩ | ⟨e2, g2, p2, f2⟩
        · rw [g1, p1] at g2; exact absurd g2 (by decide +kernel)
        · exact ⟨e1.trans e2.symm, f1.trans f2.symm⟩
theorem write_k (e : tA = tM) (hn : T_nb tM ≤ 8 ∧ T_np tM ≤ 8) (h1 : PXwrite tA a b r t1) (h2 : PXwrite tM a b r' t2) : r = r' ∧ t1 = t2 := by
  subst e
  rcases h1 with ⟨e1, c1, f1⟩ | ⟨k, m, hk, hm, ek, em, h1⟩
  · rcases h2 with ⟨e2, c2, f2⟩ | ⟨k, m, hk, hm, ek, em, h2⟩
    · exact ⟨e1.trans e2.symm, f1.trans f2.symm⟩
    · exact absurd ⟨⟨k, hk, ek⟩, ⟨m, hm, em⟩⟩ c1
  · rcases h2 with ⟨e2, c2, f2⟩ | ⟨k', m', hk', hm', ek', em', h2⟩
    · exact absurd ⟨⟨k, hk, ek⟩, ⟨m, hm, em⟩⟩ c2
    · have q1 := k_eq hn.2 hk hk' ek ek'
      have q2 := k_eq hn.1 hm hm' em em'
      subst q1
      subst q2
      rcases h1 with ⟨e1, g1, f1⟩ | ⟨e1, g1, p1, n1, f1⟩
      · rcases h2 with ⟨e2, g2, f2⟩ | ⟨e2, g2, p2, n2, f2⟩
        · exact ⟨e1.trans e2.symm, f1.trans f2.symm⟩
        · rw [g2, p2] at g1; rcases g1 with g | g | g
          · cases g
          · cases g
          · exact absurd g n2
      · rcases h2 with ⟨e2, g2, f2⟩ | ⟨e2, g2, p2, n2, f2⟩
        · rw [g1, p1] at g2; rcases g2 with g | g | g
          · cases g
          · cases g
          · exact absurd g n1
        · exact ⟨e1.trans e2.symm, f1.trans f2.symm⟩
theorem town_k {R : Nat ⊕ (TA × Nat)} (e : tA = tM) (h1 : PXtown R tA r t1) (h2 : PXtown R tM r' t2) : r = r' ∧ t1 = t2 := by
  subst e
  rcases h1 with ⟨x, e1, r1, f1⟩ | ⟨x, e1, r1⟩
  · rcases h2 with ⟨y, e2, r2, f2⟩ | ⟨y, e2, r2⟩
    · have q := Sum.inl.inj (e1.symm.trans e2)
      exact ⟨by rw [r1, r2, q], f1.trans f2.symm⟩
    · rw [e1] at e2; cases e2
  · rcases h2 with ⟨y, e2, r2, f2⟩ | ⟨y, e2, r2⟩
    · rw [e1] at e2; cases e2
    · have q := Prod.mk.inj (Sum.inr.inj (e1.symm.trans e2))
      exact ⟨by rw [r1, r2, q.2], q.1⟩
end TW
theorem nbf_0 {f g : Nat → Int32} : nbf f 0 = nbf g 0 := by
  funext i
  show (if i < 0 then nrm (f i) else 128) = if i < 0 then nrm (g i) else 128
  rw [if_neg (by omega), if_neg (by omega)]
noncomputable def SH1 (s : Nat) (fH fS fA : Nat → Int32) (gE : Nat → Int64) (fMh fMo fMz fMk fMa : Nat → Int32) (eR : Nat → Nat → Int64) : Prop := (fMh s = 0 ∧ fH s = -1) ∨ (fMh s = 1 ∧ fH s = fMo s ∧ Rw (fH s) ∧ fS s = fMz s ∧ ∀ n i : Nat, fS s = nI n → n ≤ 40 → i < n → gE (s * 40 + i) = eR s i) ∨ (fMh s = 2 ∧ fH s = 10 + fMk s ∧ Iv (fMk s).toInt64 1 6 ∧ fA s = fMa s)
noncomputable def SHR (fH fS fA : Nat → Int32) (gE : Nat → Int64) (fMh fMo fMz fMk fMa : Nat → Int32) (eR : Nat → Nat → Int64) : Prop := ∀ s, s < 8 → SH1 s fH fS fA gE fMh fMo fMz fMk fMa eR
noncomputable def LR (iKp : Int32) (tA tB : TA) (fH fS fA : Nat → Int32) (gE : Nat → Int64) (kZ : Nat) (fMh fMo fMz fMk fMa : Nat → Int32) (eR : Nat → Nat → Int64) (kY : Nat) (tM : TA) (uP : UM) (fB fMt : Nat → Int32) : Prop := (kZ = kY ∧ (iKp = 0 ↔ isS uP = false) ∧ SHR fH fS fA gE fMh fMo fMz fMk fMa eR) ∧ TWR tA tB fB kZ fMt kY tM uP
noncomputable def LINV (G : va_G) (cy : Nat → ClassId) (A : Nat → Prop) (H : Heap) (aX aM rR rB rO rK : Nat → Nat) : Prop := ∃ (iKp : Int32) (iYe : Int32) (iTv : Int32) (fR : Nat → Int32) (tA : TA) (tB : TA) (iL : Int32) (iBs : Int32) (tU : TA) (tV : TA) (fH : Nat → Int32) (fS : Nat → Int32) (fA : Nat → Int32) (gE : Nat → Int64) (kZ : Nat) (iT1 : Int32) (iT2 : Int32) (iT3 : Int32) (iT4 : Int32) (fB : Nat → Int32) (tD : TA) (fMh : Nat → Int32) (fMo : Nat → Int32) (fMz : Nat → Int32) (gMv : Nat → Int64) (fMk : Nat → Int32) (fMa : Nat → Int32) (fMt : Nat → Int32) (kY : Nat) (fMr : Nat → Int32) (fM3 : Nat → Int32) (fMu : Nat → Int32) (fMy : Nat → Int32) (fMb : Nat → Int32) (eR : Nat → Nat → Int64) (tM : TA) (iEn : Int32) (iTk : Int32) (uP : UM) (uU : UM) (kAt : Nat) (iTo : Int32) (iFr : Int32) (JFi : Int64) (iFa : Int32) (iSt : Int32) (iLv : Int32) (iWs : Int32) (wL : UL) (uS0 : UM) (uS1 : UM) (uS2 : UM) (uS3 : UM) (uS4 : UM) (iOm : Int32), va_P G CL ((XW cy aX iKp iYe iTv fR tA tB iL iBs tU tV fH fS fA gE kZ iT1 iT2 iT3 iT4 fB tD) ++ ((MK cy aM rR rB rO rK fMh fMo fMz gMv fMk fMa fMt kY fMr fM3 fMu fMy fMb eR tM iEn iTk uP uU kAt iTo iFr JFi iFa iSt iLv iWs wL uS0 uS1 uS2 uS3 uS4 iOm) ++ ((oM cy uU) ++ ((oL cy wL) ++ ((oM cy uP) ++ (oM cy uS0 ++ (oM cy uS1 ++ (oM cy uS2 ++ (oM cy uS3 ++ oM cy uS4))))))))) H ∧ va_D A ((XW cy aX iKp iYe iTv fR tA tB iL iBs tU tV fH fS fA gE kZ iT1 iT2 iT3 iT4 fB tD) ++ ((MK cy aM rR rB rO rK fMh fMo fMz gMv fMk fMa fMt kY fMr fM3 fMu fMy fMb eR tM iEn iTk uP uU kAt iTo iFr JFi iFa iSt iLv iWs wL uS0 uS1 uS2 uS3 uS4 iOm) ++ ((oM cy uU) ++ ((oL cy wL) ++ ((oM cy uP) ++ (oM cy uS0 ++ (oM cy uS1 ++ (oM cy uS2 ++ (oM cy uS3 ++ oM cy uS4))))))))) ∧ SX tA tB tD fS kZ ∧ SM tM uP fMz fMa kY ∧ LR iKp tA tB fH fS fA gE kZ fMh fMo fMz fMk fMa eR kY tM uP fB fMt
theorem linv_mk {G : va_G} {cy : Nat → ClassId} {A : Nat → Prop} {H : Heap} {aX aM rR rB rO rK : Nat → Nat} {iKp : Int32} {iYe : Int32} {iTv : Int32} {fR : Nat → Int32} {tA : TA} {tB : TA} {iL : Int32} {iBs : Int32} {tU : TA} {tV : TA} {fH : Nat → Int32} {fS : Nat → Int32} {fA : Nat → Int32} {gE : Nat → Int64} {kZ : Nat} {iT1 : Int32} {iT2 : Int32} {iT3 : Int32} {iT4 : Int32} {fB : Nat → Int32} {tD : TA} {fMh : Nat → Int32} {fMo : Nat → Int32} {fMz : Nat → Int32} {gMv : Nat → Int64} {fMk : Nat → Int32} {fMa : Nat → Int32} {fMt : Nat → Int32} {kY : Nat} {fMr : Nat → Int32} {fM3 : Nat → Int32} {fMu : Nat → Int32} {fMy : Nat → Int32} {fMb : Nat → Int32} {eR : Nat → Nat → Int64} {tM : TA} {iEn : Int32} {iTk : Int32} {uP : UM} {uU : UM} {kAt : Nat} {iTo : Int32} {iFr : Int32} {JFi : Int64} {iFa : Int32} {iSt : Int32} {iLv : Int32} {iWs : Int32} {wL : UL} {uS0 : UM} {uS1 : UM} {uS2 : UM} {uS3 : UM} {uS4 : UM} {iOm : Int32} (hP : va_P G CL ((XW cy aX iKp iYe iTv fR tA tB iL iBs tU tV fH fS fA gE kZ iT1 iT2 iT3 iT4 fB tD) ++ ((MK cy aM rR rB rO rK fMh fMo fMz gMv fMk fMa fMt kY fMr fM3 fMu fMy fMb eR tM iEn iTk uP uU kAt iTo iFr JFi iFa iSt iLv iWs wL uS0 uS1 uS2 uS3 uS4 iOm) ++ ((oM cy uU) ++ ((oL cy wL) ++ ((oM cy uP) ++ (oM cy uS0 ++ (oM cy uS1 ++ (oM cy uS2 ++ (oM cy uS3 ++ oM cy uS4))))))))) H) (hD : va_D A ((XW cy aX iKp iYe iTv fR tA tB iL iBs tU tV fH fS fA gE kZ iT1 iT2 iT3 iT4 fB tD) ++ ((MK cy aM rR rB rO rK fMh fMo fMz gMv fMk fMa fMt kY fMr fM3 fMu fMy fMb eR tM iEn iTk uP uU kAt iTo iFr JFi iFa iSt iLv iWs wL uS0 uS1 uS2 uS3 uS4 iOm) ++ ((oM cy uU) ++ ((oL cy wL) ++ ((oM cy uP) ++ (oM cy uS0 ++ (oM cy uS1 ++ (oM cy uS2 ++ (oM cy uS3 ++ oM cy uS4)))))))))) (hsX : SX tA tB tD fS kZ) (hsM : SM tM uP fMz fMa kY) (hLR : LR iKp tA tB fH fS fA gE kZ fMh fMo fMz fMk fMa eR kY tM uP fB fMt) : LINV G cy A H aX aM rR rB rO rK := ⟨iKp, iYe, iTv, fR, tA, tB, iL, iBs, tU, tV, fH, fS, fA, gE, kZ, iT1, iT2, iT3, iT4, fB, tD, fMh, fMo, fMz, gMv, fMk, fMa, fMt, kY, fMr, fM3, fMu, fMy, fMb, eR, tM, iEn, iTk, uP, uU, kAt, iTo, iFr, JFi, iFa, iSt, iLv, iWs, wL, uS0, uS1, uS2, uS3, uS4, iOm, hP, hD, hsX, hsM, hLR⟩
end
section
/-! what the calls keep: sizes in range -/
noncomputable abbrev NB8 (t : TA) : Prop := T_nb t ≤ 8 ∧ T_np t ≤ 8
theorem nb_book {t t' : TA} {a b r : Int32} (h : NB8 t) (q : PXbook t a b r t') : NB8 t' := by
  rcases q with ⟨-, -, rfl⟩ | ⟨-, -, -, -, rfl⟩ | ⟨-, -, -, h1, rfl⟩
  · exact h
  · exact h
  · exact ⟨h1, h.2⟩
theorem nb_one {t t' : TA} {a b c d r : Int32} (h : NB8 t) (q : PXone t a b c d r t') : NB8 t' := by
  rcases q with ⟨-, -, rfl⟩ | ⟨-, -, -, rfl⟩ | ⟨-, -, h1, rfl⟩
  · exact h
  · exact h
  · exact ⟨h.1, h1⟩
theorem nb_onG (e : Nat → Int64) : ∀ (n i : Nat) (t : TA) (c : Int32), NB8 t → NB8 (onG e n i t c).1 := by
  intro n
  induction n with
  | zero => intro i t c h; exact h
  | succ n ih =>
    intro i t c h
    by_cases h1 : T_np t < 8
    · by_cases h2 : Cbo (e i) (e (i + 1)) (e (i + 2)) (e (i + 3))
      · rw [on_go h1 h2]
        exact ih _ _ _ ⟨h.1, h1⟩
      · rw [on_2 h2]
        exact h
    · rw [on_1 h1]
      exact h
theorem nb_ones {f s : Nat → Int32} {e : Nat → Int64} {t t' : TA} {a n r : Int32} (h : NB8 t) (q : PXones f s e t a n r t') : NB8 t' := by
  rcases q with ⟨-, -, rfl⟩ | ⟨-, -, rfl⟩ | ⟨-, -, rfl⟩ | ⟨k, m, -, -, -, -, -, -, -, e1⟩
  · exact h
  · exact h
  · exact h
  · have := nb_onG (fun i => e (k * 40 + i)) m 0 t 0 h
    rw [← e1] at this
    exact this
theorem nb_alter {t t' : TA} {a b v r : Int32} (h : NB8 t) (q : PXalter t a b v r t') : NB8 t' := by
  rcases q with ⟨-, -, rfl⟩ | ⟨k, m, -, -, -, -, -, ⟨-, -, rfl⟩ | ⟨-, -, rfl⟩⟩ <;> exact h
theorem nb_read {t t' : TA} {a b r : Int32} (h : NB8 t) (q : PXread t a b r t') : NB8 t' := by
  rcases q with ⟨-, -, rfl⟩ | ⟨k, m, -, -, -, -, ⟨-, -, rfl⟩ | ⟨-, -, -, rfl⟩⟩
  · exact h
  · exact h
  · exact ⟨by rw [nb_rd]; exact h.1, by rw [np_rd]; exact h.2⟩
theorem nb_aloud {t t' : TA} {a b o r : Int32} (h : NB8 t) (q : PXaloud t a b o r t') : NB8 t' := by
  rcases q with ⟨-, -, rfl⟩ | ⟨k, m, -, -, -, -, -, ⟨-, -, rfl⟩ | ⟨-, -, -, rfl⟩⟩
  · exact h
  · exact h
  · exact ⟨by rw [nb_hf, nb_rd]; exact h.1, by rw [np_hf, np_rd]; exact h.2⟩
theorem nb_tell {t t' : TA} {a o b r : Int32} (h : NB8 t) (q : PXtell t a o b r t') : NB8 t' := by
  rcases q with ⟨-, -, rfl⟩ | ⟨k, j, m, -, -, -, -, -, -, -, ⟨-, -, rfl⟩ | ⟨-, -, -, rfl⟩⟩ <;> exact h
theorem nb_write {t t' : TA} {a b r : Int32} (h : NB8 t) (q : PXwrite t a b r t') : NB8 t' := by
  rcases q with ⟨-, -, rfl⟩ | ⟨k, m, -, -, -, -, ⟨-, -, rfl⟩ | ⟨-, -, -, -, rfl⟩⟩ <;> exact h
theorem nb_yrG (k a : Int32) : ∀ (n : Nat) (t : TA) (s : Int32), NB8 t → NB8 (yrG k a n t s).1 := by
  intro n
  induction n with
  | zero => intro t s h; exact h
  | succ n ih =>
    intro t s h
    refine ih _ _ ⟨?_, ?_⟩
    · rw [nb_ey, nb_dd, nb_za]; exact h.1
    · rw [np_ey, np_dd, np_za]; exact h.2
theorem nb_years {f am : Nat → Int32} {t t' : TA} {a n r : Int32} (h : NB8 t) (q : PXyears f am t a n r t') : NB8 t' := by
  rcases q with ⟨-, -, rfl⟩ | ⟨-, -, -, rfl⟩ | ⟨-, -, -, rfl⟩ | ⟨k, m, -, -, -, -, -, -, -, e1⟩
  · exact h
  · exact h
  · exact h
  · have := nb_yrG (f k - 10) (am k) m t 0 h
    rw [← e1] at this
    exact this
theorem nb_zey8 {t : TA} (h : NB8 t) : NB8 (zey t) := ⟨by rw [nb_ey]; exact h.1, by rw [np_ey]; exact h.2⟩
theorem sx_t {tA tB tD tN : TA} {fS : Nat → Int32} {kZ : Nat} (h : SX tA tB tD fS kZ) (q : NB8 tN) : SX tN tB tD fS kZ := ⟨q, h.2⟩
theorem sz_upd {f : Nat → Int32} {k n m : Nat} {v : Int32} (h : ∀ s, s < 8 → ∃ n : Nat, n ≤ m ∧ f s = nI n) (hn : n ≤ m) (hv : v = nI n) : ∀ s, s < 8 → ∃ n : Nat, n ≤ m ∧ upd f k v s = nI n := fun s hs => by
  show ∃ n : Nat, n ≤ m ∧ (if s = k then v else f s) = nI n
  by_cases e : s = k
  · rw [if_pos e]
    exact ⟨n, hn, hv⟩
  · rw [if_neg e]
    exact h s hs
theorem sx_row {tA tB tD : TA} {fH fS fY fZ : Nat → Int32} {gE gX : Nat → Int64} {kZ : Nat} {a b c r : Int32} (h : SX tA tB tD fS kZ) (q : PXrow fH fS gE a b c r fY fZ gX) : SX tA tB tD fZ kZ := by
  rcases q with ⟨-, -, -, rfl, -⟩ | ⟨-, k, n, -, h2, -, -, -, -, rfl, -⟩
  · exact h
  · exact ⟨h.1, h.2.1, h.2.2.1, sz_upd h.2.2.2.1 h2 rfl, h.2.2.2.2⟩
theorem fd_le {z z' : Nat} {n r : Int32} (h : z ≤ 250) (q : PXfeed z n r z') : z' ≤ 250 := by
  rcases q with ⟨-, -, rfl⟩ | ⟨k, -, -, -, ⟨-, -, rfl⟩ | ⟨-, h1, rfl⟩⟩
  · exact h
  · exact h
  · exact h1
theorem sx_z {tA tB tD : TA} {fS : Nat → Int32} {kZ kN : Nat} (h : SX tA tB tD fS kZ) (q : kN ≤ 250) : SX tA tB tD fS kN := ⟨h.1, h.2.1, h.2.2.1, h.2.2.2.1, q⟩
theorem sx_town {tA tB tD tN tO : TA} {fS : Nat → Int32} {kZ kN : Nat} (h : SX tA tB tD fS kZ) (q : T_nb tN ≤ 8 ∧ T_np tN ≤ 8 ∧ kN = 0 ∧ T_nb tO ≤ 8) : SX tN tB tO fS kN := ⟨⟨q.1, q.2.1⟩, h.2.1, q.2.2.2, h.2.2.2.1, by have := q.2.2.1; omega⟩
theorem sx_image {tA tB tD tN : TA} {fS : Nat → Int32} {kZ : Nat} (h : SX tA tB tD fS kZ) (q : tN = tA) : SX tA tN tD fS kZ := by
  subst q
  exact ⟨h.1, h.1, h.2.2⟩
theorem sx_back {tA tB tD tN : TA} {fS : Nat → Int32} {kZ : Nat} {i r : Int32} (h : SX tA tB tD fS kZ) (q : (i = 0 ∧ r = -5 ∧ tN = tA) ∨ (¬ i = 0 ∧ r = 1 ∧ tN = tB)) : SX tN tB tD fS kZ := by
  rcases q with ⟨-, -, rfl⟩ | ⟨-, -, rfl⟩
  · exact h
  · exact ⟨h.2.1, h.2⟩
theorem sm_row {tM : TA} {uP : UM} {h z a o h' o' z' : Nat → Int32} {e e' : Nat → Nat → Int64} {k : Nat} {x y c r : Int32} (q0 : SM tM uP z a k) (q : PMrow h o z e x y c r h' o' z' e') : SM tM uP z' a k := by
  rcases q with ⟨-, -, -, -, rfl, -⟩ | ⟨-, m, n, -, h2, -, -, -, -, -, rfl, -⟩
  · exact q0
  · exact ⟨q0.1, q0.2.1, sz_upd q0.2.2.1 h2 rfl, q0.2.2.2⟩
theorem sm_rule {tM : TA} {uP : UM} {h z a w h' w' a' : Nat → Int32} {k : Nat} {x y c r : Int32} (q0 : SM tM uP z a k) (q : PMrule h w a x y c r h' w' a') : SM tM uP z a' k := by
  rcases q with ⟨-, -, -, -, rfl⟩ | ⟨-, m, -, -, -, h5, -, -, rfl⟩
  · exact q0
  · obtain ⟨n, -, hn, rfl⟩ := iv_nI 0 99 (by decide +kernel) (by decide +kernel) h5
    exact ⟨q0.1, q0.2.1, q0.2.2.1, sz_upd q0.2.2.2.1 hn rfl, q0.2.2.2.2⟩
theorem sm_t {tM tN : TA} {uP : UM} {z a : Nat → Int32} {k : Nat} (q0 : SM tM uP z a k) (q : TI tN) : SM tN uP z a k := ⟨q, q0.2⟩
theorem sm_z {tM : TA} {uP : UM} {z a : Nat → Int32} {k n : Nat} (q0 : SM tM uP z a k) (q : n ≤ 250) : SM tM uP z a n := ⟨q0.1, q0.2.1, q0.2.2.1, q0.2.2.2.1, q⟩
theorem sm_town {tM tN : TA} {uP : UM} {z a : Nat → Int32} {k n : Nat} (q0 : SM tM uP z a k) (q : TI tN ∧ n = 0) : SM tN uP z a n := ⟨q.1, q0.2.1, q0.2.2.1, q0.2.2.2.1, by have := q.2; omega⟩
theorem sm_image {tM : TA} {uP uQ : UM} {z a : Nat → Int32} {k : Nat} {r : Int32} (q0 : SM tM uP z a k) (q : r = 1 ∧ isS uQ = true ∧ uT uQ = tM) : SM tM uQ z a k := ⟨q0.1, fun _ => by rw [q.2.2]; exact q0.1, q0.2.2⟩
theorem sm_back {tM tN : TA} {uP : UM} {z a : Nat → Int32} {k : Nat} {r : Int32} (q0 : SM tM uP z a k) (q : (isS uP = false ∧ r = -5 ∧ tN = tM) ∨ (isS uP = true ∧ r = 1 ∧ tN = uT uP)) : SM tN uP z a k := by
  rcases q with ⟨-, -, rfl⟩ | ⟨h1, -, rfl⟩
  · exact q0
  · exact ⟨q0.2.1 h1, q0.2⟩
theorem iv_n40 {n : Nat} (h : n ≤ 40) : Iv (nI n).toInt64 0 40 := ofI (m := 0) (n := 40) (by decide +kernel) (by decide +kernel) ⟨by rw [nI_toInt (by omega)]; omega, by rw [nI_toInt (by omega)]; omega⟩
theorem row_eq {h s h2 o z h' s' h2' o' z' : Nat → Int32} {e e' : Nat → Int64} {f f' : Nat → Nat → Int64} {a b c r r' : Int32} (q : PXrow h s e a b c r h' s' e') (q' : PMrow h2 o z f a b c r' h2' o' z' f') : r = r' := by
  rcases q with ⟨rfl, h1, -⟩ | ⟨rfl, k, n, h1, h2, rfl, rfl, h3, -⟩
  · rcases q' with ⟨rfl, -⟩ | ⟨-, k, n, g1, g2, rfl, rfl, g3, -⟩
    · rfl
    · exact absurd ⟨⟨k, g1, rfl⟩, g3, iv_n40 g2⟩ h1
  · rcases q' with ⟨-, g1, -⟩ | ⟨rfl, -⟩
    · exact absurd ⟨⟨k, h1, rfl⟩, h3, iv_n40 h2⟩ g1
    · rfl
/-! the shelves of both: what the calls on them answer and keep -/
theorem nI_eq8 {a b : Nat} (ha : a < 8) (hb : b < 8) (h : nI a = nI b) : a = b := nI_inj (by omega) (by omega) h
theorem rw_10 {x : Int32} (h : Rw x) : ¬ 10 ≤ x := fun q => h.2 (by
  rw [Int32.lt_iff_toInt_lt]
  rw [Int32.le_iff_toInt_le] at q
  have e1 : (10 : Int32).toInt = 10 := by decide +kernel
  have e2 : (4 : Int32).toInt = 4 := by decide +kernel
  omega)
theorem iv_16 {x : Int32} (h : Iv x.toInt64 1 6) : 10 ≤ 10 + x ∧ ¬ 10 + x = -1 := by
  rcases sw_1_6 x with rfl | rfl | rfl | rfl | rfl | rfl | h1
  · decide
  · decide
  · decide
  · decide
  · decide
  · decide
  · exfalso
    have := toI h (m := 1) (n := 6) (by decide +kernel) (by decide +kernel)
    omega
theorem iv_04 {x : Int32} (h : Iv x.toInt64 0 4) : Rw x := by
  have h1 := toI h (m := 0) (n := 4) (by decide +kernel) (by decide +kernel)
  have e2 : (4 : Int32).toInt = 4 := by decide +kernel
  have e0 : (0 : Int32).toInt = 0 := by decide +kernel
  exact ⟨fun q => by rw [Int32.lt_iff_toInt_lt] at q; omega, fun q => by rw [Int32.lt_iff_toInt_lt] at q; omega⟩
theorem sh_A {s : Nat} {fH fS fA : Nat → Int32} {gE : Nat → Int64} {fMh fMo fMz fMk fMa : Nat → Int32} {eR : Nat → Nat → Int64} (R : SH1 s fH fS fA gE fMh fMo fMz fMk fMa eR) : (10 ≤ fH s ↔ fMh s = 2) ∧ (Rw (fH s) ↔ fMh s = 1) ∧ (fH s = -1 ↔ fMh s = 0) ∧ (fMh s = 0 ∨ fMh s = 1 ∨ fMh s = 2) := by
  have n10 : ¬ (10 : Int32) ≤ -1 := by decide +kernel
  have nrw : ¬ Rw (-1) := fun q => q.1 (by decide +kernel)
  rcases R with ⟨h0, h1⟩ | ⟨h0, h1, h2, -⟩ | ⟨h0, h1, h2, -⟩
  · rw [h0, h1]
    exact ⟨⟨fun q => absurd q n10, fun q => absurd q (by decide +kernel)⟩, ⟨fun q => absurd q nrw, fun q => absurd q (by decide +kernel)⟩, ⟨fun _ => rfl, fun _ => rfl⟩, Or.inl rfl⟩
  · rw [h0]
    exact ⟨⟨fun q => absurd q (rw_10 h2), fun q => absurd q (by decide +kernel)⟩, ⟨fun _ => rfl, fun _ => h2⟩, ⟨fun q => by rw [q] at h2; exact absurd h2 nrw, fun q => absurd q (by decide +kernel)⟩, Or.inr (Or.inl rfl)⟩
  · rw [h0, h1]
    exact ⟨⟨fun _ => rfl, fun _ => (iv_16 h2).1⟩, ⟨fun q => absurd (iv_16 h2).1 (rw_10 q), fun q => absurd q (by decide +kernel)⟩, ⟨fun q => absurd q (iv_16 h2).2, fun q => absurd q (by decide +kernel)⟩, Or.inr (Or.inr rfl)⟩
theorem zr_hit (e : Nat → Int64) (k : Nat) : ∀ (n i : Nat), i < n → zrF e k n (k * 40 + i) = 0 := by
  intro n
  induction n with
  | zero => intro i h; exact absurd h (Nat.not_lt_zero _)
  | succ n ih =>
    intro i h
    show (if k * 40 + i = k * 40 + n then (0 : Int64) else zrF e k n (k * 40 + i)) = 0
    by_cases e1 : i = n
    · rw [if_pos (by omega)]
    · rw [if_neg (by omega)]
      exact ih i (by omega)
theorem zr_off (e : Nat → Int64) (k : Nat) : ∀ (n : Nat), n ≤ 40 → ∀ (s i : Nat), s ≠ k → i < 40 → zrF e k n (s * 40 + i) = e (s * 40 + i) := by
  intro n
  induction n with
  | zero => intro _ s i _ _; rfl
  | succ n ih =>
    intro hn s i hs hi
    show (if s * 40 + i = k * 40 + n then (0 : Int64) else zrF e k n (s * 40 + i)) = _
    rw [if_neg (by omega)]
    exact ih (by omega) s i hs hi
theorem zN_hit (e : Nat → Nat → Int64) (k : Nat) : ∀ (n i : Nat), i < n → zrN e k n k i = 0 := by
  intro n
  induction n with
  | zero => intro i h; exact absurd h (Nat.not_lt_zero _)
  | succ n ih =>
    intro i h
    show updN (zrN e k n) k n 0 k i = 0
    rw [un_u]
    show (if i = n then (0 : Int64) else zrN e k n k i) = 0
    by_cases e1 : i = n
    · rw [if_pos e1]
    · rw [if_neg e1]
      exact ih i (by omega)
theorem zN_off (e : Nat → Nat → Int64) (k : Nat) : ∀ (n s : Nat), s ≠ k → zrN e k n s = e s := by
  intro n
  induction n with
  | zero => intro s _; rfl
  | succ n ih =>
    intro s hs
    show updN (zrN e k n) k n 0 s = _
    rw [un_n hs]
    exact ih s hs
theorem up_s {f : Nat → Int32} {k : Nat} {v : Int32} : upd f k v k = v := if_pos rfl
theorem up_n {f : Nat → Int32} {k s : Nat} {v : Int32} (h : s ≠ k) : upd f k v s = f s := if_neg h
/-- an empty row, or a rule: at the shelf it is new, the others are as they were -/
theorem sh_off {s k : Nat} {fH fS fA : Nat → Int32} {gE gX : Nat → Int64} {fMh fMo fMz fMk fMa : Nat → Int32} {eR eN : Nat → Nat → Int64} {h1 h2 h3 m1 m2 m3 m4 m5 : Nat → Int32} (R : SH1 s fH fS fA gE fMh fMo fMz fMk fMa eR) (e1 : h1 s = fH s) (e2 : h2 s = fS s) (e3 : h3 s = fA s) (e4 : m1 s = fMh s) (e5 : m2 s = fMo s) (e6 : m3 s = fMz s) (e7 : m4 s = fMk s) (e8 : m5 s = fMa s) (e9 : ∀ i, i < 40 → gX (s * 40 + i) = gE (s * 40 + i)) (e10 : ∀ i, i < 40 → eN s i = eR s i) : SH1 s h1 h2 h3 gX m1 m2 m3 m4 m5 eN := by
  unfold SH1 at R ⊢
  rw [e1, e2, e3, e4, e5, e6, e7, e8]
  rcases R with h | ⟨a1, a2, a3, a4, a5⟩ | h
  · exact Or.inl h
  · refine Or.inr (Or.inl ⟨a1, a2, a3, a4, fun n i hn h40 hi => ?_⟩)
    rw [e9 i (by omega), e10 i (by omega)]
    exact a5 n i hn h40 hi
  · exact Or.inr (Or.inr h)
theorem row_k {fH fS fA fY fZ : Nat → Int32} {gE gX : Nat → Int64} {fMh fMo fMz fMk fMa fNh fNo fNz : Nat → Int32} {eR eN : Nat → Nat → Int64} {a b c r r' : Int32} (R : SHR fH fS fA gE fMh fMo fMz fMk fMa eR) (q : PXrow fH fS gE a b c r fY fZ gX) (q' : PMrow fMh fMo fMz eR a b c r' fNh fNo fNz eN) : SHR fY fZ fA gX fNh fNo fNz fMk fMa eN := by
  have e0 := row_eq q q'
  rcases q with ⟨rfl, -, rfl, rfl, rfl⟩ | ⟨rfl, k, n, h1, h2, rfl, rfl, h3, rfl, rfl, rfl⟩
  · rcases q' with ⟨-, -, rfl, rfl, rfl, rfl⟩ | ⟨rfl, -⟩
    · exact R
    · exact absurd e0 (by decide +kernel)
  · rcases q' with ⟨rfl, -⟩ | ⟨-, m, n', g1, g2, ea, en, -, rfl, rfl, rfl, rfl⟩
    · exact absurd e0 (by decide +kernel)
    · have := nI_eq8 h1 g1 ea
      subst this
      have := nI_inj (by omega) (by omega) en
      subst this
      intro s hs
      by_cases e : s = k
      · subst e
        refine Or.inr (Or.inl ⟨up_s, by rw [up_s, up_s], by rw [up_s]; exact iv_04 h3, by rw [up_s, up_s], fun n' i hn _ hi => ?_⟩)
        rw [up_s] at hn
        have := nI_inj (by omega) (by omega) hn
        subst this
        rw [zr_hit _ _ _ _ hi, zN_hit _ _ _ _ (by omega)]
      · exact sh_off (k := k) (R s hs) (up_n e) (up_n e) rfl (up_n e) (up_n e) (up_n e) rfl rfl (fun i hi => zr_off _ _ _ h2 _ _ e hi) (fun i _ => by rw [zN_off _ _ _ _ e])
theorem rule_k {fH fS fA fY fW : Nat → Int32} {gE : Nat → Int64} {fMh fMo fMz fMk fMa fNh fNk fNa : Nat → Int32} {eR : Nat → Nat → Int64} {a b c r r' : Int32} (R : SHR fH fS fA gE fMh fMo fMz fMk fMa eR) (q : PXrule fH fA a b c r fY fW) (q' : PMrule fMh fMk fMa a b c r' fNh fNk fNa) : r = r' ∧ SHR fY fS fW gE fNh fMo fMz fNk fNa eR := by
  rcases q with ⟨rfl, h0, rfl, rfl⟩ | ⟨rfl, k, h1, rfl, h2, h3, rfl, rfl⟩
  · rcases q' with ⟨rfl, -, rfl, rfl, rfl⟩ | ⟨-, k, h1, rfl, h2, h3, -⟩
    · exact ⟨rfl, R⟩
    · exact absurd ⟨⟨k, h1, rfl⟩, h2, h3⟩ h0
  · rcases q' with ⟨-, h0, -⟩ | ⟨rfl, m, g1, ea, -, -, rfl, rfl, rfl⟩
    · exact absurd ⟨⟨k, h1, rfl⟩, h2, h3⟩ h0
    · have := nI_eq8 h1 g1 ea
      subst this
      refine ⟨rfl, fun s hs => ?_⟩
      by_cases e : s = k
      · subst e
        exact Or.inr (Or.inr ⟨up_s, by rw [up_s, up_s], by rw [up_s]; exact h2, by rw [up_s, up_s]⟩)
      · exact sh_off (k := k) (R s hs) (up_n e) rfl (up_n e) (up_n e) rfl rfl (up_n e) (up_n e) (fun _ _ => rfl) (fun _ _ => rfl)
theorem lb_ft {x : Int32} (h : Rw x) (v : Int64) : zlb x v = zft x v := by
  rcases sw_0_4 x with rfl | rfl | rfl | rfl | rfl | h1
  · rfl
  · rfl
  · rfl
  · rfl
  · rfl
  · exfalso
    have e2 : (4 : Int32).toInt = 4 := by decide +kernel
    have e0 : (0 : Int32).toInt = 0 := by decide +kernel
    rcases h1 with h1 | h1
    · exact h.1 (by rw [Int32.lt_iff_toInt_lt]; omega)
    · exact h.2 (by rw [Int32.lt_iff_toInt_lt]; omega)
theorem set_k {fH fS fA : Nat → Int32} {gE gX : Nat → Int64} {fMh fMo fMz fMk fMa : Nat → Int32} {eR eN : Nat → Nat → Int64} {a b r r' : Int32} {v : Int64} (R : SHR fH fS fA gE fMh fMo fMz fMk fMa eR) (q : PXset fH fS gE a b v r gX) (q' : PMset fMh fMo fMz eR a b v r' eN) : r = r' ∧ SHR fH fS fA gX fMh fMo fMz fMk fMa eN := by
  by_cases hs : Sh a
  · obtain ⟨k, hk, rfl⟩ := hs
    obtain ⟨s1, s2, s3, s4⟩ := sh_A (R k hk)
    have hz : fMh k = 1 → fS k = fMz k := fun e => by
      rcases R k hk with ⟨h0, -⟩ | ⟨-, -, -, h1, -⟩ | ⟨h0, -⟩
      · rw [h0] at e; exact absurd e (by decide +kernel)
      · exact h1
      · rw [h0] at e; exact absurd e (by decide +kernel)
    rcases q with ⟨rfl, h0, rfl⟩ | ⟨rfl, ⟨m, hm, e, h0⟩, rfl⟩ | ⟨rfl, ⟨m, hm, e, h0, h1⟩, rfl⟩ | ⟨rfl, m, i, hm, e, h0, h1, hi, rfl, h2, rfl⟩
    · rcases h0 with h0 | ⟨m, hm, e, h0, h1, h2⟩
      · exact absurd ⟨k, hk, rfl⟩ h0
      · have := nI_eq8 hk hm e
        subst this
        have f1 := s2.mp h1
        rcases q' with ⟨rfl, -, rfl⟩ | ⟨rfl, ⟨m, hm, e, g0⟩, rfl⟩ | ⟨rfl, ⟨m, hm, e, g0, g1⟩, rfl⟩ | ⟨rfl, m, i, hm, e, g0, g1, hi, -, g2, -⟩
        · exact ⟨rfl, R⟩
        · have := nI_eq8 hk hm e
          subst this
          rw [f1] at g0; exact absurd g0 (by decide +kernel)
        · have := nI_eq8 hk hm e
          subst this
          rw [f1] at g1; exact absurd g1 (by decide +kernel)
        · have := nI_eq8 hk hm e
          subst this
          rw [← hz f1] at g2; exact absurd g2 h2
    · have := nI_eq8 hk hm e
      subst this
      have f1 := s1.mp h0
      rcases q' with ⟨rfl, g, rfl⟩ | ⟨rfl, -, rfl⟩ | ⟨rfl, ⟨m, hm, e, g0, g1⟩, rfl⟩ | ⟨rfl, m, i, hm, e, g0, g1, hi, -, g2, -⟩
      · rcases g with g | ⟨m, hm, e, g0, g1, g2⟩
        · exact absurd ⟨k, hk, rfl⟩ g
        · have := nI_eq8 hk hm e
          subst this
          exact absurd f1 g0
      · exact ⟨rfl, R⟩
      · have := nI_eq8 hk hm e
        subst this
        exact absurd f1 g0
      · have := nI_eq8 hk hm e
        subst this
        exact absurd f1 g0
    · have := nI_eq8 hk hm e
      subst this
      have f1 : fMh k = 0 := by
        rcases s4 with h | h | h
        · exact h
        · exact absurd (s2.mpr h) h1
        · exact absurd (s1.mpr h) h0
      rcases q' with ⟨rfl, g, rfl⟩ | ⟨rfl, ⟨m, hm, e, g0⟩, rfl⟩ | ⟨rfl, -, rfl⟩ | ⟨rfl, m, i, hm, e, g0, g1, hi, -, g2, -⟩
      · rcases g with g | ⟨m, hm, e, g0, g1, g2⟩
        · exact absurd ⟨k, hk, rfl⟩ g
        · have := nI_eq8 hk hm e
          subst this
          exact absurd f1 g1
      · have := nI_eq8 hk hm e
        subst this
        rw [f1] at g0; exact absurd g0 (by decide +kernel)
      · exact ⟨rfl, R⟩
      · have := nI_eq8 hk hm e
        subst this
        exact absurd f1 g1
    · have := nI_eq8 hk hm e
      subst this
      have f1 := s2.mp h1
      rcases q' with ⟨rfl, g, rfl⟩ | ⟨rfl, ⟨m, hm, e, g0⟩, rfl⟩ | ⟨rfl, ⟨m, hm, e, g0, g1⟩, rfl⟩ | ⟨rfl, m, j, hm, e, g0, g1, hj, ej, g2, rfl⟩
      · rcases g with g | ⟨m, hm, e, g0, g1, g2⟩
        · exact absurd ⟨k, hk, rfl⟩ g
        · have := nI_eq8 hk hm e
          subst this
          rw [← hz f1] at g2
          exact absurd h2 g2
      · have := nI_eq8 hk hm e
        subst this
        rw [f1] at g0; exact absurd g0 (by decide +kernel)
      · have := nI_eq8 hk hm e
        subst this
        rw [f1] at g1; exact absurd g1 (by decide +kernel)
      · have := nI_eq8 hk hm e
        subst this
        have := nI_inj (by omega) (by omega) ej
        subst this
        refine ⟨rfl, fun s hs => ?_⟩
        by_cases es : s = k
        · subst es
          rcases R s hs with ⟨x0, -⟩ | ⟨x1, x2, x3, x4, x5⟩ | ⟨x0, -⟩
          · rw [f1] at x0; exact absurd x0 (by decide +kernel)
          · refine Or.inr (Or.inl ⟨x1, x2, x3, x4, fun n y hn h40 hy => ?_⟩)
            rw [un_u]
            show (if s * 40 + y = s * 40 + i then zlb (fH s) v else gE (s * 40 + y)) = (if y = i then zft (fMo s) v else eR s y)
            by_cases ey : y = i
            · rw [if_pos (by omega), if_pos ey, ← x2]
              exact lb_ft x3 v
            · rw [if_neg (by omega), if_neg ey]
              exact x5 n y hn h40 hy
          · rw [f1] at x0; exact absurd x0 (by decide +kernel)
        · refine sh_off (k := k) (R s hs) rfl rfl rfl rfl rfl rfl rfl rfl (fun y hy => ?_) (fun y _ => by rw [un_n es])
          show (if s * 40 + y = k * 40 + i then zlb (fH k) v else gE (s * 40 + y)) = _
          rw [if_neg (by omega)]
  · rcases q with ⟨rfl, -, rfl⟩ | ⟨-, ⟨m, hm, e, -⟩, -⟩ | ⟨-, ⟨m, hm, e, -⟩, -⟩ | ⟨-, m, -, hm, e, -⟩
    · rcases q' with ⟨rfl, -, rfl⟩ | ⟨-, ⟨m, hm, e, -⟩, -⟩ | ⟨-, ⟨m, hm, e, -⟩, -⟩ | ⟨-, m, -, hm, e, -⟩
      · exact ⟨rfl, R⟩
      · exact absurd ⟨m, hm, e⟩ hs
      · exact absurd ⟨m, hm, e⟩ hs
      · exact absurd ⟨m, hm, e⟩ hs
    · exact absurd ⟨m, hm, e⟩ hs
    · exact absurd ⟨m, hm, e⟩ hs
    · exact absurd ⟨m, hm, e⟩ hs
theorem holds_eq {fH fS fA : Nat → Int32} {gE : Nat → Int64} {fMh fMo fMz fMk fMa : Nat → Int32} {eR : Nat → Nat → Int64} {a r r' : Int32} (R : SHR fH fS fA gE fMh fMo fMz fMk fMa eR) (q : PXholds fH a r) (q' : PMholds fMh fMo fMk a r') : r = r' := by
  rcases q with ⟨rfl, h0⟩ | ⟨k, hk, rfl, rfl⟩
  · rcases q' with ⟨rfl, -⟩ | ⟨m, hm, e, -⟩
    · rfl
    · exact absurd ⟨m, hm, e⟩ h0
  · rcases q' with ⟨-, h0⟩ | ⟨m, hm, e, h⟩
    · exact absurd ⟨k, hk, rfl⟩ h0
    · have := nI_eq8 hk hm e
      subst this
      rcases R k hk with ⟨x0, x1⟩ | ⟨x0, x1, -⟩ | ⟨x0, x1, -⟩ <;> rw [x0] at h <;> rcases h with ⟨y0, rfl⟩ | ⟨y0, rfl⟩ | ⟨y0, y1, rfl⟩
      · exact x1
      · exact absurd y0 (by decide +kernel)
      · exact absurd rfl y0
      · exact absurd y0 (by decide +kernel)
      · exact x1
      · exact absurd rfl y1
      · exact absurd y0 (by decide +kernel)
      · exact absurd y0 (by decide +kernel)
      · exact x1
theorem elem_eq {fH fS fA : Nat → Int32} {gE : Nat → Int64} {fMh fMo fMz fMk fMa : Nat → Int32} {eR : Nat → Nat → Int64} {a b : Int32} {r r' : Int64} (hSz : ∀ s, s < 8 → ∃ n : Nat, n ≤ 40 ∧ fS s = nI n) (R : SHR fH fS fA gE fMh fMo fMz fMk fMa eR) (q : PXelem fH fS gE a b r) (q' : PMelem fMh fMz eR a b r') : r = r' := by
  have key : ∀ k, k < 8 → (fMh k = 1 ↔ Rw (fH k)) ∧ (fMh k = 1 → fS k = fMz k) := fun k hk => by
    refine ⟨(sh_A (R k hk)).2.1.symm, fun e => ?_⟩
    rcases R k hk with ⟨h0, -⟩ | ⟨-, -, -, h1, -⟩ | ⟨h0, -⟩
    · rw [h0] at e; exact absurd e (by decide +kernel)
    · exact h1
    · rw [h0] at e; exact absurd e (by decide +kernel)
  rcases q with ⟨rfl, h0⟩ | ⟨k, i, hk, rfl, h0, h1, hi, rfl, h2, rfl⟩
  · rcases q' with ⟨rfl, -⟩ | ⟨k, i, hk, rfl, h1, hi, rfl, h2, rfl⟩
    · rfl
    · have f1 := (key k hk).1.mp h1
      exact absurd ⟨k, hk, rfl, rw_10 f1, f1, by rw [(key k hk).2 h1]; exact h2⟩ h0
  · have f1 := (key k hk).1.mpr h1
    rcases q' with ⟨rfl, h0⟩ | ⟨m, j, hm, e, h3, hj, ej, h4, rfl⟩
    · exact absurd ⟨k, hk, rfl, f1, by rw [← (key k hk).2 f1]; exact h2⟩ h0
    · have := nI_eq8 hk hm e
      subst this
      have := nI_inj (by omega) (by omega) ej
      subst this
      rcases R k hk with ⟨x0, -⟩ | ⟨x1, x2, x3, x4, x5⟩ | ⟨x0, -⟩
      · rw [f1] at x0; exact absurd x0 (by decide +kernel)
      · obtain ⟨n, hn, en⟩ := hSz k hk
        obtain ⟨i', hi', ei⟩ := sz_in en hn h2
        have := nI_inj (by omega) (by omega) ei
        subst this
        exact x5 n i en hn hi'
      · rw [f1] at x0; exact absurd x0 (by decide +kernel)
theorem feed_eq {z y z' w' : Nat} {n r r' : Int32} (hz : z = y) (q : PXfeed z n r z') (q' : PXfeed y n r' w') : r = r' ∧ z' = w' := by
  subst hz
  rcases q with ⟨rfl, h0, rfl⟩ | ⟨k, h1, h2, rfl, h3⟩
  · rcases q' with ⟨rfl, -, rfl⟩ | ⟨k, h1, h2, rfl, -⟩
    · exact ⟨rfl, rfl⟩
    · exact absurd (ofI (m := 1) (n := 4) (by decide +kernel) (by decide +kernel) ⟨by rw [nI_toInt (by omega)]; omega, by rw [nI_toInt (by omega)]; omega⟩) h0
  · rcases q' with ⟨rfl, h0, rfl⟩ | ⟨m, g1, g2, e, g3⟩
    · exact absurd (ofI (m := 1) (n := 4) (by decide +kernel) (by decide +kernel) ⟨by rw [nI_toInt (by omega)]; omega, by rw [nI_toInt (by omega)]; omega⟩) h0
    · have := nI_inj (by omega) (by omega) e
      subst this
      rcases h3 with ⟨rfl, a1, rfl⟩ | ⟨rfl, a1, rfl⟩ <;> rcases g3 with ⟨rfl, b1, rfl⟩ | ⟨rfl, b1, rfl⟩
      · exact ⟨rfl, rfl⟩
      · omega
      · omega
      · exact ⟨rfl, rfl⟩
theorem back_eq {iK r r' : Int32} {tA tB tN tM tN' : TA} {uP : UM} (h : iK = 0 ↔ isS uP = false) (q : (iK = 0 ∧ r = -5 ∧ tN = tA) ∨ (¬ iK = 0 ∧ r = 1 ∧ tN = tB)) (q' : (isS uP = false ∧ r' = -5 ∧ tN' = tM) ∨ (isS uP = true ∧ r' = 1 ∧ tN' = uT uP)) : r = r' := by
  rcases q with ⟨h1, rfl, -⟩ | ⟨h1, rfl, -⟩ <;> rcases q' with ⟨g1, rfl, -⟩ | ⟨g1, rfl, -⟩
  · rfl
  · rw [h.mp h1] at g1; cases g1
  · exact absurd (h.mpr g1) h1
  · rfl
theorem spn_to {i n m : Nat} (hm : m ≤ 40) (h : i + n ≤ m) : Spn (nI i) (nI n) (nI m) := by
  refine ⟨nI_pos (by omega), nI_pos (by omega), Int32.not_lt.mpr ((lg_cmp_le _ _).mpr ?_)⟩
  have e : (nI i).toInt64 + (nI n).toInt64 = (nI (i + n)).toInt64 := by
    apply Int64.toInt_inj.mp
    rw [Int64.toInt_add, Int32.toInt_toInt64, Int32.toInt_toInt64, Int32.toInt_toInt64, nI_toInt (by omega), nI_toInt (by omega), nI_toInt (by omega)]
    rw [Int.bmod_eq_of_le (by omega) (by omega)]
    omega
  rw [e, Int64.le_iff_toInt_le, Int32.toInt_toInt64, Int32.toInt_toInt64, nI_toInt (by omega), nI_toInt (by omega)]
  omega
theorem spm_iff {c d n : Int32} {a b : Nat} (ha : a ≤ 40) (hb : b ≤ 40) : SpM c d n (nI a) (nI b) ↔ (Spn c n (nI a) ∧ Spn d n (nI b)) := by
  constructor
  · rintro ⟨h1, h2, h3, h4, h5, h6, h7⟩
    obtain ⟨z, hz, rfl⟩ := nI_of h1
    obtain ⟨i, hi, rfl⟩ := nI_of h2
    obtain ⟨j, hj, rfl⟩ := nI_of h3
    rw [Int32.lt_iff_toInt_lt, nI_toInt (by omega), nI_toInt (by omega)] at h4 h5
    rw [Int32.lt_iff_toInt_lt, pk_sub_toInt (by omega) (by omega), nI_toInt (by omega)] at h6
    rw [Int32.le_iff_toInt_le, pk_sub_toInt (by omega) (by omega), nI_toInt (by omega)] at h7
    exact ⟨spn_to ha (by omega), spn_to hb (by omega)⟩
  · rintro ⟨h1, h2⟩
    obtain ⟨i, z, e1, rfl, rfl⟩ := spn_of rfl ha h1
    obtain ⟨j, w, e2, rfl, ew⟩ := spn_of rfl hb h2
    have := nI_inj (by omega) (by omega) ew
    subst this
    refine ⟨nI_pos (by omega), nI_pos (by omega), nI_pos (by omega), ?_, ?_, ?_, ?_⟩
    · rw [Int32.lt_iff_toInt_lt, nI_toInt (by omega), nI_toInt (by omega)]; omega
    · rw [Int32.lt_iff_toInt_lt, nI_toInt (by omega), nI_toInt (by omega)]; omega
    · rw [Int32.lt_iff_toInt_lt, pk_sub_toInt (by omega) (by omega), nI_toInt (by omega)]; omega
    · rw [Int32.le_iff_toInt_le, pk_sub_toInt (by omega) (by omega), nI_toInt (by omega)]; omega
theorem copy_k {fH fS fA : Nat → Int32} {gE gX : Nat → Int64} {fMh fMo fMz fMk fMa : Nat → Int32} {eR eN : Nat → Nat → Int64} {a b c d n r r' : Int32} (hSz : ∀ s, s < 8 → ∃ n : Nat, n ≤ 40 ∧ fS s = nI n) (R : SHR fH fS fA gE fMh fMo fMz fMk fMa eR) (q : PXcopy fH fS gE a b c d n r gX) (q' : PMcopy fMh fMo fMz eR a b c d n r' eN) : r = r' ∧ SHR fH fS fA gX fMh fMo fMz fMk fMa eN := by
  by_cases hs : ∃ k m : Nat, k < 8 ∧ m < 8 ∧ a = nI k ∧ b = nI m
  · obtain ⟨k, m, hk, hm, rfl, rfl⟩ := hs
    obtain ⟨s1, s2, s3, s4⟩ := sh_A (R k hk)
    obtain ⟨t1, t2, t3, t4⟩ := sh_A (R m hm)
    have row1 : ∀ s, s < 8 → fMh s = 1 → fH s = fMo s ∧ fS s = fMz s ∧ ∀ n i, fS s = nI n → n ≤ 40 → i < n → gE (s * 40 + i) = eR s i := fun s hs e => by
      rcases R s hs with ⟨h0, -⟩ | ⟨-, h1, -, h2, h3⟩ | ⟨h0, -⟩
      · rw [h0] at e; exact absurd e (by decide +kernel)
      · exact ⟨h1, h2, h3⟩
      · rw [h0] at e; exact absurd e (by decide +kernel)
    have un : ∀ {x y : Nat}, x < 8 → y < 8 → nI k = nI x → nI m = nI y → x = k ∧ y = m := fun hx hy e1 e2 => ⟨(nI_eq8 hk hx e1).symm, (nI_eq8 hm hy e2).symm⟩
    obtain ⟨zk, hzk, ezk⟩ := hSz k hk
    obtain ⟨zm, hzm, ezm⟩ := hSz m hm
    -- what the reference says, at these shelves
    have M : (r' = -2 ∧ fMh k = 1 ∧ fMh m = 1 ∧ fMo k = fMo m ∧ ¬ SpM c d n (fMz k) (fMz m) ∧ eN = eR) ∨ (r' = -3 ∧ (fMh k = 2 ∨ fMh m = 2 ∨ (fMh k = 1 ∧ fMh m = 1 ∧ ¬ fMo k = fMo m)) ∧ eN = eR) ∨ (r' = -4 ∧ ¬ fMh k = 2 ∧ ¬ fMh m = 2 ∧ (fMh k = 0 ∨ fMh m = 0) ∧ eN = eR) ∨ (r' = n ∧ fMh k = 1 ∧ fMh m = 1 ∧ fMo k = fMo m ∧ SpM c d n (fMz k) (fMz m) ∧ ∃ i j x : Nat, c = nI i ∧ d = nI j ∧ n = nI x ∧ i + x ≤ 40 ∧ j + x ≤ 40 ∧ ∀ s y, eN s y = if s = m ∧ j ≤ y ∧ y < j + x then eR k (i + (y - j)) else eR s y) := by
      have one : ∀ s, (fMh s = 0 ∨ fMh s = 1 ∨ fMh s = 2) → ¬ fMh s = 2 → ¬ fMh s = 0 → fMh s = 1 := fun s h g1 g2 => by
        rcases h with h | h | h
        · exact absurd h g2
        · exact h
        · exact absurd h g1
      rcases q' with ⟨e, g, e2⟩ | ⟨e, ⟨x, y, hx, hy, ex, ey, g⟩, e2⟩ | ⟨e, ⟨x, y, hx, hy, ex, ey, g⟩, e2⟩ | ⟨e, x, y, i, j, z, hx, hy, ex, ey, g1, g2, g3, g4, g5, g6, g7, g8, gb1, gb2, g9, g10⟩
      · rcases g with g | ⟨x, y, hx, hy, ex, ey, g1, g2, g3, g4, g5, g6⟩
        · exact absurd ⟨k, m, hk, hm, rfl, rfl⟩ g
        · obtain ⟨rfl, rfl⟩ := un hx hy ex ey
          have f1 := one _ s4 g1 g3
          have f2 := one _ t4 g2 g4
          exact Or.inl ⟨e, f1, f2, g5 f1 f2, g6, e2⟩
      · obtain ⟨rfl, rfl⟩ := un hx hy ex ey
        exact Or.inr (Or.inl ⟨e, g, e2⟩)
      · obtain ⟨rfl, rfl⟩ := un hx hy ex ey
        exact Or.inr (Or.inr (Or.inl ⟨e, g.1, g.2.1, g.2.2, e2⟩))
      · obtain ⟨rfl, rfl⟩ := un hx hy ex ey
        have f1 := one _ s4 g1 g3
        have f2 := one _ t4 g2 g4
        exact Or.inr (Or.inr (Or.inr ⟨e, f1, f2, g5 f1 f2, g9, i, j, z, g6, g7, g8, gb1, gb2, g10⟩))
    have X : (r = -2 ∧ fMh k = 1 ∧ fMh m = 1 ∧ fMo k = fMo m ∧ ¬ SpM c d n (fMz k) (fMz m) ∧ gX = gE) ∨ (r = -3 ∧ (fMh k = 2 ∨ fMh m = 2 ∨ (fMh k = 1 ∧ fMh m = 1 ∧ ¬ fMo k = fMo m)) ∧ gX = gE) ∨ (r = -4 ∧ ¬ fMh k = 2 ∧ ¬ fMh m = 2 ∧ (fMh k = 0 ∨ fMh m = 0) ∧ gX = gE) ∨ (r = n ∧ fMh k = 1 ∧ fMh m = 1 ∧ fMo k = fMo m ∧ SpM c d n (fMz k) (fMz m) ∧ ∃ i j x : Nat, c = nI i ∧ d = nI j ∧ n = nI x ∧ i + x ≤ 40 ∧ j + x ≤ 40 ∧ gX = va_cpy gE gE (k * 40 + i) (m * 40 + j) x) := by
      have zero : ∀ s, (fMh s = 0 ∨ fMh s = 1 ∨ fMh s = 2) → ¬ fMh s = 1 → ¬ fMh s = 2 → fMh s = 0 := fun s h g1 g2 => by
        rcases h with h | h | h
        · exact h
        · exact absurd h g1
        · exact absurd h g2
      have spe : fMh k = 1 → fMh m = 1 → (SpM c d n (fMz k) (fMz m) ↔ (Spn c n (fS k) ∧ Spn d n (fS m))) := fun f1 f2 => by
        rw [← (row1 k hk f1).2.1, ← (row1 m hm f2).2.1, ezk, ezm]
        exact spm_iff hzk hzm
      rcases q with ⟨e, g, e2⟩ | ⟨e, ⟨x, y, hx, hy, ex, ey, g⟩, e2⟩ | ⟨e, ⟨x, y, hx, hy, ex, ey, g⟩, e2⟩ | ⟨e, x, y, i, j, z, hx, hy, ex, ey, g1, g2, g3, g4, g5, g6, g7, g8, g9, g10, g11⟩
      · rcases g with g | ⟨x, y, hx, hy, ex, ey, g1, g2, g3, g4⟩
        · exact absurd ⟨k, m, hk, hm, rfl, rfl⟩ g
        · obtain ⟨rfl, rfl⟩ := un hx hy ex ey
          have f1 := s2.mp g1
          have f2 := t2.mp g2
          exact Or.inl ⟨e, f1, f2, by rw [← (row1 _ hk f1).1, ← (row1 _ hm f2).1]; exact g3, fun h => g4 ((spe f1 f2).mp h), e2⟩
      · obtain ⟨rfl, rfl⟩ := un hx hy ex ey
        refine Or.inr (Or.inl ⟨e, ?_, e2⟩)
        rcases g with g | g | ⟨g1, g2, g3⟩
        · exact Or.inl (s1.mp g)
        · exact Or.inr (Or.inl (t1.mp g))
        · have f1 := s2.mp g1
          have f2 := t2.mp g2
          exact Or.inr (Or.inr ⟨f1, f2, by rw [← (row1 _ hk f1).1, ← (row1 _ hm f2).1]; exact g3⟩)
      · obtain ⟨rfl, rfl⟩ := un hx hy ex ey
        have f1 : ¬ fMh x = 2 := fun h => g.1 (s1.mpr h)
        have f2 : ¬ fMh y = 2 := fun h => g.2.1 (t1.mpr h)
        refine Or.inr (Or.inr (Or.inl ⟨e, f1, f2, ?_, e2⟩))
        rcases g.2.2 with g3 | g3
        · exact Or.inl (zero _ s4 (fun h => g3 (s2.mpr h)) f1)
        · exact Or.inr (zero _ t4 (fun h => g3 (t2.mpr h)) f2)
      · obtain ⟨rfl, rfl⟩ := un hx hy ex ey
        have f1 := s2.mp g1
        have f2 := t2.mp g2
        exact Or.inr (Or.inr (Or.inr ⟨e, f1, f2, by rw [← (row1 _ hk f1).1, ← (row1 _ hm f2).1]; exact g3, (spe f1 f2).mpr ⟨g4, g5⟩, i, j, z, g6, g7, g8, g9, g10, g11⟩))
    rcases X with ⟨e, a1, a2, a3, a4, e2⟩ | ⟨e, a1, e2⟩ | ⟨e, a1, a2, a3, e2⟩ | ⟨e, a1, a2, a3, a4, i, j, x, ei, ej, ex, hi, hj, e2⟩ <;> rcases M with ⟨f, b1, b2, b3, b4, f2⟩ | ⟨f, b1, f2⟩ | ⟨f, b1, b2, b3, f2⟩ | ⟨f, b1, b2, b3, b4, i', j', x', fi, fj, fx, fb1, fb2, f2⟩
    · exact ⟨e.trans f.symm, by rw [e2, f2]; exact R⟩
    · exfalso
      rw [a1, a2] at b1
      rcases b1 with b1 | b1 | b1
      · exact absurd b1 (by decide +kernel)
      · exact absurd b1 (by decide +kernel)
      · exact b1.2.2 a3
    · exfalso
      rw [a1, a2] at b3
      rcases b3 with b3 | b3 <;> exact absurd b3 (by decide +kernel)
    · exact absurd b4 a4
    · exfalso
      rw [b1, b2] at a1
      rcases a1 with b | b | b
      · exact absurd b (by decide +kernel)
      · exact absurd b (by decide +kernel)
      · exact b.2.2 b3
    · exact ⟨e.trans f.symm, by rw [e2, f2]; exact R⟩
    · exfalso
      rcases a1 with b | b | b
      · exact b1 b
      · exact b2 b
      · rw [b.1, b.2.1] at b3
        rcases b3 with b3 | b3 <;> exact absurd b3 (by decide +kernel)
    · exfalso
      rw [b1, b2] at a1
      rcases a1 with b | b | b
      · exact absurd b (by decide +kernel)
      · exact absurd b (by decide +kernel)
      · exact b.2.2 b3
    · exfalso
      rw [b1, b2] at a3
      rcases a3 with b | b <;> exact absurd b (by decide +kernel)
    · exfalso
      rcases b1 with b | b | b
      · exact a1 b
      · exact a2 b
      · rw [b.1, b.2.1] at a3
        rcases a3 with b | b <;> exact absurd b (by decide +kernel)
    · exact ⟨e.trans f.symm, by rw [e2, f2]; exact R⟩
    · exfalso
      rw [b1, b2] at a3
      rcases a3 with b | b <;> exact absurd b (by decide +kernel)
    · exact absurd a4 b4
    · exfalso
      rw [a1, a2] at b1
      rcases b1 with b | b | b
      · exact absurd b (by decide +kernel)
      · exact absurd b (by decide +kernel)
      · exact b.2.2 a3
    · exfalso
      rw [a1, a2] at b3
      rcases b3 with b | b <;> exact absurd b (by decide +kernel)
    · refine ⟨e.trans f.symm, fun s hs => ?_⟩
      obtain ⟨sp1, sp2⟩ := (spm_iff hzk hzm).mp (by rw [← ezk, ← ezm, (row1 k hk a1).2.1, (row1 m hm a2).2.1]; exact a4)
      obtain ⟨u1, v1, w1, eu1, ev1⟩ := spn_of rfl hzk sp1
      obtain ⟨u2, v2, w2, eu2, ev2⟩ := spn_of rfl hzm sp2
      subst ei ej ex
      have q1 := nI_inj (by omega) (by omega) eu1
      have q2 := nI_inj (by omega) (by omega) ev1
      have q3 := nI_inj (by omega) (by omega) eu2
      have q4 := nI_inj (by omega) (by omega) ev2
      have q5 := nI_inj (by omega) (by omega) fi
      have q6 := nI_inj (by omega) (by omega) fj
      have q7 := nI_inj (by omega) (by omega) fx
      subst q1 q2 q3 q4 q5 q6 q7
      subst e2
      by_cases es : s = m
      · subst es
        rcases R s hs with ⟨x0, -⟩ | ⟨x1, x2, x3, x4, x5⟩ | ⟨x0, -⟩
        · rw [a2] at x0; exact absurd x0 (by decide +kernel)
        · refine Or.inr (Or.inl ⟨x1, x2, x3, x4, fun n' y hn' h40 hy => ?_⟩)
          have q8 : n' = zm := nI_inj (by omega) (by omega) (hn'.symm.trans ezm)
          subst q8
          rw [f2]
          show (if s * 40 + j ≤ s * 40 + y ∧ s * 40 + y < s * 40 + j + x then gE (k * 40 + i + (s * 40 + y - (s * 40 + j))) else gE (s * 40 + y)) = _
          by_cases c1 : j ≤ y ∧ y < j + x
          · rw [if_pos (by omega), if_pos ⟨rfl, c1⟩, show k * 40 + i + (s * 40 + y - (s * 40 + j)) = k * 40 + (i + (y - j)) by omega]
            exact (row1 k hk a1).2.2 zk (i + (y - j)) ezk hzk (by omega)
          · rw [if_neg (by omega), if_neg (fun q => c1 q.2)]
            exact x5 n' y hn' h40 hy
        · rw [a2] at x0; exact absurd x0 (by decide +kernel)
      · refine sh_off (k := k) (R s hs) rfl rfl rfl rfl rfl rfl rfl rfl (fun y hy => ?_) (fun y _ => ?_)
        · show (if m * 40 + j ≤ s * 40 + y ∧ s * 40 + y < m * 40 + j + x then gE (k * 40 + i + (s * 40 + y - (m * 40 + j))) else gE (s * 40 + y)) = _
          rw [if_neg (by omega)]
        · rw [f2, if_neg (fun q => es q.1)]
  · rcases q with ⟨rfl, -, rfl⟩ | ⟨-, ⟨x, y, hx, hy, ex, ey, -⟩, -⟩ | ⟨-, ⟨x, y, hx, hy, ex, ey, -⟩, -⟩ | ⟨-, x, y, i, j, z, hx, hy, ex, ey, -⟩
    · rcases q' with ⟨rfl, -, rfl⟩ | ⟨-, ⟨x, y, hx, hy, ex, ey, -⟩, -⟩ | ⟨-, ⟨x, y, hx, hy, ex, ey, -⟩, -⟩ | ⟨-, x, y, i, j, z, hx, hy, ex, ey, -⟩
      · exact ⟨rfl, R⟩
      · exact absurd ⟨x, y, hx, hy, ex, ey⟩ hs
      · exact absurd ⟨x, y, hx, hy, ex, ey⟩ hs
      · exact absurd ⟨x, y, hx, hy, ex, ey⟩ hs
    · exact absurd ⟨x, y, hx, hy, ex, ey⟩ hs
    · exact absurd ⟨x, y, hx, hy, ex, ey⟩ hs
    · exact absurd ⟨x, y, hx, hy, ex, ey⟩ hs
theorem lcmp_0 {x y : Int64} (h : x = y) : lg_cmp x y = 0 := by
  subst h
  have h1 := (lg_cmp_le x x).mpr (Int64.le_refl x)
  have h2 := (lg_cmp_ge x x).mpr (Int64.le_refl x)
  rw [Int32.le_iff_toInt_le] at h1 h2
  have e0 : (0 : Int32).toInt = 0 := by decide +kernel
  exact eqI (n := 0) (by decide +kernel) (by omega)
theorem exk {P : Nat → Prop} {k : Nat} (hk : k < 8) (h : ∃ k' : Nat, k' < 8 ∧ nI k = nI k' ∧ P k') : P k := by
  obtain ⟨k', h1, h2, h3⟩ := h
  rw [nI_eq8 hk h1 h2]
  exact h3
theorem rem4 : ∀ m, m < 11 → nI (4 * m) - nI (4 * m) / 4 * 4 = 0 := by decide +kernel
theorem iv0_of {x z : Int32} (h0 : ¬ x < 0) (h : x ≤ z) : Iv x.toInt64 0 z.toInt64 := by
  rw [Iv_iff, Int64.le_iff_toInt_le, Int64.le_iff_toInt_le, Int32.toInt_toInt64, Int32.toInt_toInt64]
  have h0 := Int32.not_lt.mp h0
  rw [Int32.le_iff_toInt_le] at h0 h
  exact ⟨h0, h⟩
theorem iv0_to {x z : Int32} (h : Iv x.toInt64 0 z.toInt64) : ¬ x < 0 ∧ x ≤ z := by
  obtain ⟨h1, h2⟩ := Iv_iff.mp h
  rw [Int64.le_iff_toInt_le, Int32.toInt_toInt64] at h1 h2
  rw [Int32.toInt_toInt64] at h2
  exact ⟨Int32.not_lt.mpr (Int32.le_iff_toInt_le.mpr h1), Int32.le_iff_toInt_le.mpr h2⟩
section SHK
variable {fH fS fA : Nat → Int32} {gE : Nat → Int64} {fMh fMo fMz fMk fMa : Nat → Int32} {eR : Nat → Nat → Int64}
theorem sh_0 {s : Nat} (R : SH1 s fH fS fA gE fMh fMo fMz fMk fMa eR) (h1 : ¬ fMh s = 1) (h2 : ¬ fMh s = 2) : fMh s = 0 := by
  rcases R with q | q | q
  · exact q.1
  · exact absurd q.1 h1
  · exact absurd q.1 h2
theorem sh_1 {s : Nat} (R : SH1 s fH fS fA gE fMh fMo fMz fMk fMa eR) (h : fMh s = 1) : fS s = fMz s ∧ ∀ n i : Nat, fS s = nI n → n ≤ 40 → i < n → gE (s * 40 + i) = eR s i := by
  rcases R with q | q | q
  · rw [q.1] at h; exact absurd h (by decide +kernel)
  · exact q.2.2.2
  · rw [q.1] at h; exact absurd h (by decide +kernel)
theorem sh_2 {s : Nat} (R : SH1 s fH fS fA gE fMh fMo fMz fMk fMa eR) (h : fMh s = 2) : fH s = 10 + fMk s ∧ Iv (fMk s).toInt64 1 6 ∧ fA s = fMa s := by
  rcases R with q | q | q
  · rw [q.1] at h; exact absurd h (by decide +kernel)
  · rw [q.1] at h; exact absurd h (by decide +kernel)
  · exact q.2
theorem sh_n {s : Nat} (R : SH1 s fH fS fA gE fMh fMo fMz fMk fMa eR) (h1 : ¬ fMh s = 1) (h0 : ¬ fMh s = 0) : fMh s = 2 := by
  rcases R with q | q | q
  · exact absurd q.1 h0
  · exact absurd q.1 h1
  · exact q.1
theorem shr_mk (R : SHR fH fS fA gE fMh fMo fMz fMk fMa eR) : ∀ s, s < 8 → ¬ fMh s = 1 → ¬ fMh s = 0 → Iv (fMk s).toInt64 1 6 := fun s hs h1 h0 => (sh_2 (R s hs) (sh_n (R s hs) h1 h0)).2.1
theorem ones_k {tA tM t1 t2 : TA} {a n r r' : Int32} (hSz : ∀ s, s < 8 → ∃ n : Nat, n ≤ 40 ∧ fS s = nI n) (R : SHR fH fS fA gE fMh fMo fMz fMk fMa eR) (e : tA = tM) (h1 : PXones fH fS gE tA a n r t1) (h2 : PMones fMh fMz eR tM a n r' t2) : r = r' ∧ t1 = t2 := by
  subst e
  by_cases hs : Sh a
  · obtain ⟨k, hk, rfl⟩ := hs
    have R1 := R k hk
    have s1 := (sh_A R1).1
    have s2 := (sh_A R1).2.1
    have A1 : ∀ {P : Prop}, fMh k = 1 → fMh k = 2 → P := fun h h' => absurd (h.symm.trans h') (by decide +kernel)
    have A2 : ∀ {P : Prop}, fMh k = 1 → fMh k = 0 → P := fun h h' => absurd (h.symm.trans h') (by decide +kernel)
    have A3 : ∀ {P : Prop}, fMh k = 2 → fMh k = 0 → P := fun h h' => absurd (h.symm.trans h') (by decide +kernel)
    rcases h1 with ⟨e1, c1, f1⟩ | ⟨e1, c1, f1⟩ | ⟨e1, c1, f1⟩ | ⟨k', m, hk', ek, n10, hr, en, hm, iv, eq1⟩
    · have c1 := exk (P := fun k => ¬ 10 ≤ fH k ∧ Rw (fH k) ∧ (¬ Iv n.toInt64 0 (fS k).toInt64 ∨ ¬ n - n / 4 * 4 = 0)) hk (c1.resolve_left (fun q => q ⟨k, hk, rfl⟩))
      have m1 := s2.mp c1.2.1
      rcases h2 with ⟨e2, c2, f2⟩ | ⟨e2, c2, f2⟩ | ⟨e2, c2, f2⟩ | ⟨k2, m2, hk2, ek2, p1, p2, en2, hm2, le2, eq2⟩
      · exact ⟨e1.trans e2.symm, f1.trans f2.symm⟩
      · exact A1 m1 (exk (P := fun k => fMh k = 2) hk c2)
      · exact A2 m1 (exk (P := fun k => ¬ fMh k = 2 ∧ fMh k = 0) hk c2).2
      · exfalso
        have q := nI_eq8 hk hk2 ek2
        subst q
        rcases c1.2.2 with q | q
        · exact q (by rw [(sh_1 R1 m1).1]; exact iv0_of (by rw [en2]; exact nI_pos (by omega)) le2)
        · exact q (by rw [en2]; exact rem4 m2 (by omega))
    · have m1 := s1.mp (exk (P := fun k => 10 ≤ fH k) hk c1)
      rcases h2 with ⟨e2, c2, f2⟩ | ⟨e2, c2, f2⟩ | ⟨e2, c2, f2⟩ | ⟨k2, m2, hk2, ek2, p1, p2, en2, hm2, le2, eq2⟩
      · have c2 := exk (P := fun k => ¬ fMh k = 2 ∧ ¬ fMh k = 0 ∧ (n < 0 ∨ ¬ n - n / 4 * 4 = 0 ∨ ¬ n ≤ fMz k)) hk (c2.resolve_left (fun q => q ⟨k, hk, rfl⟩))
        exact absurd m1 c2.1
      · exact ⟨e1.trans e2.symm, f1.trans f2.symm⟩
      · exact A3 m1 (exk (P := fun k => ¬ fMh k = 2 ∧ fMh k = 0) hk c2).2
      · have q := nI_eq8 hk hk2 ek2
        subst q
        exact absurd m1 p1
    · have c1 := exk (P := fun k => ¬ 10 ≤ fH k ∧ ¬ Rw (fH k)) hk c1
      have m1 := sh_0 R1 (fun q => c1.2 (s2.mpr q)) (fun q => c1.1 (s1.mpr q))
      rcases h2 with ⟨e2, c2, f2⟩ | ⟨e2, c2, f2⟩ | ⟨e2, c2, f2⟩ | ⟨k2, m2, hk2, ek2, p1, p2, en2, hm2, le2, eq2⟩
      · have c2 := exk (P := fun k => ¬ fMh k = 2 ∧ ¬ fMh k = 0 ∧ (n < 0 ∨ ¬ n - n / 4 * 4 = 0 ∨ ¬ n ≤ fMz k)) hk (c2.resolve_left (fun q => q ⟨k, hk, rfl⟩))
        exact absurd m1 c2.2.1
      · exact A3 (exk (P := fun k => fMh k = 2) hk c2) m1
      · exact ⟨e1.trans e2.symm, f1.trans f2.symm⟩
      · have q := nI_eq8 hk hk2 ek2
        subst q
        exact absurd m1 p2
    · have q := nI_eq8 hk hk' ek
      subst q
      have m1 := s2.mp hr
      obtain ⟨i1, i2⟩ := iv0_to iv
      rcases h2 with ⟨e2, c2, f2⟩ | ⟨e2, c2, f2⟩ | ⟨e2, c2, f2⟩ | ⟨k2, m2, hk2, ek2, p1, p2, en2, hm2, le2, eq2⟩
      · have c2 := exk (P := fun k => ¬ fMh k = 2 ∧ ¬ fMh k = 0 ∧ (n < 0 ∨ ¬ n - n / 4 * 4 = 0 ∨ ¬ n ≤ fMz k)) hk (c2.resolve_left (fun q => q ⟨k, hk, rfl⟩))
        exfalso
        rcases c2.2.2 with q | q | q
        · exact i1 q
        · exact q (by rw [en]; exact rem4 m (by omega))
        · exact q (by rw [← (sh_1 R1 m1).1]; exact i2)
      · exact A1 m1 (exk (P := fun k => fMh k = 2) hk c2)
      · exact A2 m1 (exk (P := fun k => ¬ fMh k = 2 ∧ fMh k = 0) hk c2).2
      · have q := nI_eq8 hk hk2 ek2
        subst q
        have q : 4 * m = 4 * m2 := nI_inj (by omega) (by omega) (en.symm.trans en2)
        have q : m = m2 := by omega
        subst q
        obtain ⟨z, hz, ez⟩ := hSz k hk
        have hzm : 4 * m ≤ z := by
          rw [en, ez, Int32.le_iff_toInt_le, nI_toInt (by omega), nI_toInt (by omega)] at i2
          omega
        have ec : onG (fun i => gE (k * 40 + i)) m 0 tA 0 = onG (eR k) m 0 tA 0 := on_cong m 0 tA 0 (fun j _ h2 => (sh_1 R1 m1).2 z j ez hz (by omega))
        have q := Prod.mk.inj (eq1.trans (ec.trans eq2.symm))
        exact ⟨q.2, q.1⟩
  · rcases h1 with ⟨e1, c1, f1⟩ | ⟨e1, ⟨k, h, ek, _⟩, f1⟩ | ⟨e1, ⟨k, h, ek, _⟩, f1⟩ | ⟨k, m, h, ek, _⟩
    · rcases h2 with ⟨e2, c2, f2⟩ | ⟨e2, ⟨k, h, ek, _⟩, f2⟩ | ⟨e2, ⟨k, h, ek, _⟩, f2⟩ | ⟨k, m, h, ek, _⟩
      · exact ⟨e1.trans e2.symm, f1.trans f2.symm⟩
      all_goals exact absurd ⟨k, h, ek⟩ hs
    all_goals exact absurd ⟨k, h, ek⟩ hs
theorem years_k {tA tM t1 t2 : TA} {a n r r' : Int32} (R : SHR fH fS fA gE fMh fMo fMz fMk fMa eR) (e : tA = tM) (h1 : PXyears fH fA tA a n r t1) (h2 : PMyears fMh fMk fMa tM a n r' t2) : r = r' ∧ t1 = t2 := by
  subst e
  by_cases hn : Iv n.toInt64 1 20
  · by_cases hs : Sh a
    · obtain ⟨k, hk, rfl⟩ := hs
      have R1 := R k hk
      have s1 := (sh_A R1).1
      have s2 := (sh_A R1).2.1
      have hsh : Sh (nI k) := ⟨k, hk, rfl⟩
      rcases h1 with ⟨e1, c1, f1⟩ | ⟨e1, _, c1, f1⟩ | ⟨e1, _, c1, f1⟩ | ⟨k', m, hk', ek, nr, h10, _, hm, en, eq1⟩
      · exact (c1.elim (fun q => absurd hn q) (fun q => absurd hsh q))
      · have m1 := s2.mp (exk (P := fun k => Rw (fH k)) hk c1)
        rcases h2 with ⟨e2, c2, f2⟩ | ⟨e2, _, c2, f2⟩ | ⟨e2, _, c2, f2⟩ | ⟨k2, m2, hk2, ek2, p1, p2, _, hm2, en2, eq2⟩
        · exact (c2.elim (fun q => absurd hsh q) (fun q => absurd hn q))
        · exact ⟨e1.trans e2.symm, f1.trans f2.symm⟩
        · exact absurd m1 (exk (P := fun k => ¬ fMh k = 1 ∧ fMh k = 0) hk c2).1
        · have q := nI_eq8 hk hk2 ek2
          subst q
          exact absurd m1 p1
      · have c1 := exk (P := fun k => ¬ Rw (fH k) ∧ ¬ 10 ≤ fH k) hk c1
        have m1 := sh_0 R1 (fun q => c1.1 (s2.mpr q)) (fun q => c1.2 (s1.mpr q))
        rcases h2 with ⟨e2, c2, f2⟩ | ⟨e2, _, c2, f2⟩ | ⟨e2, _, c2, f2⟩ | ⟨k2, m2, hk2, ek2, p1, p2, _, hm2, en2, eq2⟩
        · exact (c2.elim (fun q => absurd hsh q) (fun q => absurd hn q))
        · exact absurd (m1.symm.trans (exk (P := fun k => fMh k = 1) hk c2)) (by decide +kernel)
        · exact ⟨e1.trans e2.symm, f1.trans f2.symm⟩
        · have q := nI_eq8 hk hk2 ek2
          subst q
          exact absurd m1 p2
      · have q := nI_eq8 hk hk' ek
        subst q
        have m1 := s1.mp h10
        rcases h2 with ⟨e2, c2, f2⟩ | ⟨e2, _, c2, f2⟩ | ⟨e2, _, c2, f2⟩ | ⟨k2, m2, hk2, ek2, p1, p2, _, hm2, en2, eq2⟩
        · exact (c2.elim (fun q => absurd hsh q) (fun q => absurd hn q))
        · exact absurd (m1.symm.trans (exk (P := fun k => fMh k = 1) hk c2)) (by decide +kernel)
        · exact absurd (m1.symm.trans (exk (P := fun k => ¬ fMh k = 1 ∧ fMh k = 0) hk c2).2) (by decide +kernel)
        · have q := nI_eq8 hk hk2 ek2
          subst q
          have q : m = m2 := nI_inj (by omega) (by omega) (en.symm.trans en2)
          subst q
          obtain ⟨z1, _, z3⟩ := sh_2 R1 m1
          have ek : fH k - 10 = fMk k := by rw [z1, Int32.add_comm, Int32.add_sub_cancel]
          rw [ek, z3] at eq1
          have q := Prod.mk.inj (eq1.trans eq2.symm)
          exact ⟨q.2, q.1⟩
    · rcases h1 with ⟨e1, c1, f1⟩ | ⟨e1, _, ⟨k, h, ek, _⟩, f1⟩ | ⟨e1, _, ⟨k, h, ek, _⟩, f1⟩ | ⟨k, m, h, ek, _⟩
      · rcases h2 with ⟨e2, c2, f2⟩ | ⟨e2, _, ⟨k, h, ek, _⟩, f2⟩ | ⟨e2, _, ⟨k, h, ek, _⟩, f2⟩ | ⟨k, m, h, ek, _⟩
        · exact ⟨e1.trans e2.symm, f1.trans f2.symm⟩
        all_goals exact absurd ⟨k, h, ek⟩ hs
      all_goals exact absurd ⟨k, h, ek⟩ hs
  · have n20 : ∀ m : Nat, 1 ≤ m → m ≤ 20 → ¬ n = nI m := fun m h1 h2 q => hn (by
      rw [q]
      exact ofI (m := 1) (n := 20) (by decide +kernel) (by decide +kernel) ⟨by rw [nI_toInt (by omega)]; omega, by rw [nI_toInt (by omega)]; omega⟩)
    rcases h1 with ⟨e1, c1, f1⟩ | ⟨e1, q, _⟩ | ⟨e1, q, _⟩ | ⟨k, m, _, _, _, _, u1, u2, en, _⟩
    · rcases h2 with ⟨e2, c2, f2⟩ | ⟨e2, q, _⟩ | ⟨e2, q, _⟩ | ⟨k, m, _, _, _, _, u1, u2, en, _⟩
      · exact ⟨e1.trans e2.symm, f1.trans f2.symm⟩
      · exact absurd q hn
      · exact absurd q hn
      · exact absurd en (n20 m u1 u2)
    · exact absurd q hn
    · exact absurd q hn
    · exact absurd en (n20 m u1 u2)
end SHK
section TW2
variable {tA tB tM tN tN' : TA} {fB fMt fB' fM' : Nat → Int32} {kZ kY z1 y1 : Nat} {uP uQ : UM} {v n r r' iK : Int32}
theorem fd_rel2 (hz : kZ = kY) (hz1 : z1 = y1) (h1 : FD fB kZ v n z1 fB') (h2 : FD fMt kY v n y1 fM') (h : nbf fB kZ = nbf fMt kY) : nbf fB' z1 = nbf fM' y1 := by
  subst hz
  subst hz1
  exact fd_rel h1 h2 h
theorem town_k2 (hz : kZ = kY) (h : nbf fB kZ = nbf fMt kY) (e : tA = tM) (h1 : PXtown (pall (nbf fB kZ) kZ tA) tA r tN) (h2 : PXtown (pall (nbf fMt kY) kY tM) tM r' tN') : r = r' ∧ tN = tN' := by
  subst hz
  subst e
  rw [h] at h1
  exact town_k rfl h1 h2
theorem tw_town (hR : TWR tA tB fB kZ fMt kY tM uP) (e : tN = tN') (w : WI tN') (e1 : z1 = 0) (e2 : y1 = 0) : TWR tN tB fB z1 fMt y1 tN' uP := by
  subst e1
  subst e2
  exact ⟨e, w, hR.2.2.1, nbf_0⟩
theorem tw_wipe (hR : TWR tA tB fB kZ fMt kY tM uP) (e1 : z1 = 0) (e2 : y1 = 0) : TWR tA tB fB z1 fMt y1 tM uP := by
  subst e1
  subst e2
  exact ⟨hR.1, hR.2.1, hR.2.2.1, nbf_0⟩
theorem tw_image {tC : TA} (hR : TWR tA tB fB kZ fMt kY tM uP) (e1 : tC = tA) (e2 : uT uQ = tM) : TWR tA tC fB kZ fMt kY tM uQ :=
  ⟨hR.1, hR.2.1, fun _ => ⟨by rw [e1, e2]; exact hR.1, by rw [e2]; exact hR.2.1⟩, hR.2.2.2⟩
theorem tw_back (hR : TWR tA tB fB kZ fMt kY tM uP) (h : iK = 0 ↔ isS uP = false) (q : (iK = 0 ∧ r = -5 ∧ tN = tA) ∨ (¬ iK = 0 ∧ r = 1 ∧ tN = tB)) (q' : (isS uP = false ∧ r' = -5 ∧ tN' = tM) ∨ (isS uP = true ∧ r' = 1 ∧ tN' = uT uP)) : TWR tN tB fB kZ fMt kY tN' uP := by
  rcases q with ⟨c, -, e⟩ | ⟨c, -, e⟩
  · rcases q' with ⟨c', -, e'⟩ | ⟨c', -, e'⟩
    · rw [e, e']; exact hR
    · rw [h.mp c] at c'; cases c'
  · rcases q' with ⟨c', -, e'⟩ | ⟨c', -, e'⟩
    · exact absurd (h.mpr c') c
    · rw [e, e']; exact ⟨(hR.2.2.1 c').1, (hR.2.2.1 c').2, hR.2.2.1, hR.2.2.2⟩
theorem seed_k (e : tA = tM) (h1 : tN = T_setsd tA n ∧ r = T_sd tA) (h2 : tN' = T_setsd tM n ∧ r' = T_sd tM) : r = r' ∧ tN = tN' := by
  subst e
  exact ⟨h1.2.trans h2.2.symm, h1.1.trans h2.1.symm⟩
end TW2
theorem WI_0 : WI T0 := ⟨TI_0, ⟨fun _ _ _ _ _ => rfl, fun _ _ _ => rfl, fun _ _ _ => rfl⟩, fun p h _ => absurd h (Nat.not_lt_zero p)⟩
end
section
/-! THE CLAIM OUT OF ONE WALK OF THE LAW'S BODY. Your part is whole_start (and what it stands on); all else here is the same for every law, but numbers. -/
noncomputable def R_law : String := "EachBookOnceLaw"
noncomputable def lw_P (b : Addr) (xs : List Int32) (args : Array Value) (s : State) : Prop := args = #[.ref b] ∧ s.IntsAt b xs ∧ xs.length ≤ 384 ∧ (Jvm.Cond.and given_1 narrow_1).before args s = true
noncomputable def lw_Q (_ : Array Value) (s : State) (o : Outcome) (t : State) : Prop := o = .returned (some (.int 1)) ∧ Framed s o t [] 600000 7302250
noncomputable def lw_Z (below : List Frame) (a : Array Value) (s : State) : State → Prop := fun t => ∃ o, t.status = .running ∧ Ended t below o ∧ lw_Q a s o t
/-- the law's own end, with 1 on the stack, nothing written that was there before, its room as the claim has it -/
theorem lw_ret {p : Program} {l : Launch} {e : Env} {s : State} {m : MethodId} {below : List Frame} {meth : Method} {c : Code} {b : Nat} (hx : p.tables.exec = Jvm.exec) (hb : c.code = code) (hr : meth.sig.returnType = ret) (hlocks : meth.locks = false) {pc : Nat} {H : Heap} {ls : Array Slot} (hdg : decode code pc = .ok (.ireturn, 1)) : W p l e room_1 s m #[Value.ref b] below meth c H [] 600000 7302250 (lw_Z below #[Value.ref b] s) (F0 m pc ls [.int 1]) := by
  intro T hT X
  obtain ⟨fs, hret, hrun, hended, hW, hframe⟩ := X.leave (v := some (.int 1)) (hlocks := hlocks) (fun h => by rw [hr] at h; cases h)
  have hmeth' : T.vm.method? m = some meth := X.method'
  refine ⟨T.setFrames fs, ?_, .returned (some (.int 1)), hrun, hended, rfl, ⟨_, rfl⟩, hW, hframe⟩
  jvm_step X.here [X.here.top, hx, hb, hdg, hmeth', hr, ret, narrow_b1]
  (try refine ⟨rfl, ?_⟩); (try refine ⟨rfl, ?_⟩)
  first | (intro acts; rw [hret _ acts rfl rfl rfl]) | rw [hret _ _ rfl rfl rfl]
  exact Steps.refl _
/-- what holds at the law's entry: the machine, the code, the tables' words (any of lw_tbl by 'hts w (by decide +kernel)'), the script of L ints xs at the cell b, what the Statement gives of the start (any of its parts by flat_of_before) -/
noncomputable def lw_At (p : Program) (s : State) (m : MethodId) (meth : Method) (c : Code) (b L : Nat) (xs : Nat → Int32) : Prop :=
  p.tables.exec = Jvm.exec ∧ c.code = code ∧ meth.sig.returnType = ret ∧ c.maxLocals = 4 ∧ s.vm.findClass R_law = some m.cls ∧ (∀ w ∈ lw_tbl, w.before #[Value.ref b] s = true) ∧ va_X b L xs s s.heap ∧ b < s.heap.size ∧ meth.locks = false ∧ (Jvm.Cond.and given_1 narrow_1).before #[Value.ref b] s = true
theorem kn_nf {s : State} {b : Nat} (hts : ∀ w ∈ lw_tbl, w.before #[Value.ref b] s = true) : ∀ q ∈ nestF, va_Nw (.fieldLinkNest q.1 q.2.1 q.2.2.1 q.2.2.2.1 q.2.2.2.2 AO0) s := by
  unfold nestF
  exact List.forall_mem_cons.mpr ⟨va_Nw.of rfl (hts _ (List.mem_append_right _ n_t30)), List.forall_mem_cons.mpr ⟨va_Nw.of rfl (hts _ (List.mem_append_right _ n_t31)), List.forall_mem_cons.mpr ⟨va_Nw.of rfl (hts _ (List.mem_append_right _ n_t32)), List.forall_mem_cons.mpr ⟨va_Nw.of rfl (hts _ (List.mem_append_right _ n_t33)), List.forall_mem_cons.mpr ⟨va_Nw.of rfl (hts _ (List.mem_append_right _ n_t35)), List.forall_mem_cons.mpr ⟨va_Nw.of rfl (hts _ (List.mem_append_right _ n_t36)), List.forall_mem_cons.mpr ⟨va_Nw.of rfl (hts _ (List.mem_append_right _ n_t37)), List.forall_mem_cons.mpr ⟨va_Nw.of rfl (hts _ (List.mem_append_right _ n_t38)), List.forall_mem_cons.mpr ⟨va_Nw.of rfl (hts _ (List.mem_append_right _ n_t40)), List.forall_mem_cons.mpr ⟨va_Nw.of rfl (hts _ (List.mem_append_right _ n_t41)), List.forall_mem_cons.mpr ⟨va_Nw.of rfl (hts _ (List.mem_append_right _ n_t42)), List.forall_mem_cons.mpr ⟨va_Nw.of rfl (hts _ (List.mem_append_right _ n_t44)), List.forall_mem_cons.mpr ⟨va_Nw.of rfl (hts _ (List.mem_append_right _ n_t45)), List.forall_mem_cons.mpr ⟨va_Nw.of rfl (hts _ (List.mem_append_right _ n_t47)), List.forall_mem_cons.mpr ⟨va_Nw.of rfl (hts _ (List.mem_append_right _ n_t49)), List.forall_mem_cons.mpr ⟨va_Nw.of rfl (hts _ (List.mem_append_right _ n_t51)), List.forall_mem_cons.mpr ⟨va_Nw.of rfl (hts _ (List.mem_append_right _ n_t52)), List.forall_mem_cons.mpr ⟨va_Nw.of rfl (hts _ (List.mem_append_right _ n_t54)), List.forall_mem_cons.mpr ⟨va_Nw.of rfl (hts _ (List.mem_append_right _ n_t55)), List.forall_mem_cons.mpr ⟨va_Nw.of rfl (hts _ (List.mem_append_right _ n_t57)), List.forall_mem_cons.mpr ⟨va_Nw.of rfl (hts _ (List.mem_append_right _ n_t59)), List.forall_mem_cons.mpr ⟨va_Nw.of rfl (hts _ (List.mem_append_right _ n_t61)), List.forall_mem_cons.mpr ⟨va_Nw.of rfl (hts _ (List.mem_append_right _ n_t63)), List.forall_mem_cons.mpr ⟨va_Nw.of rfl (hts _ (List.mem_append_right _ n_t102)), List.forall_mem_cons.mpr ⟨va_Nw.of rfl (hts _ (List.mem_append_right _ n_t105)), List.forall_mem_cons.mpr ⟨va_Nw.of rfl (hts _ (List.mem_append_right _ n_t107)), List.forall_mem_cons.mpr ⟨va_Nw.of rfl (hts _ (List.mem_append_right _ n_t124)), List.forall_mem_cons.mpr ⟨va_Nw.of rfl (hts _ (List.mem_append_right _ n_t126)), List.forall_mem_cons.mpr ⟨va_Nw.of rfl (hts _ (List.mem_append_right _ n_t128)), List.forall_mem_cons.mpr ⟨va_Nw.of rfl (hts _ (List.mem_append_right _ n_t150)), List.forall_mem_cons.mpr ⟨va_Nw.of rfl (hts _ (List.mem_append_right _ n_t155)), List.forall_mem_cons.mpr ⟨va_Nw.of rfl (hts _ (List.mem_append_right _ n_t157)), fun _ h => absurd h List.not_mem_nil⟩⟩⟩⟩⟩⟩⟩⟩⟩⟩⟩⟩⟩⟩⟩⟩⟩⟩⟩⟩⟩⟩⟩⟩⟩⟩⟩⟩⟩⟩⟩⟩
theorem kn_nm {s : State} {b : Nat} (hts : ∀ w ∈ lw_tbl, w.before #[Value.ref b] s = true) : ∀ q ∈ nestM, va_Nw (.methodLinkNest q.1 q.2.1 q.2.2 AO0) s := by
  unfold nestM
  exact List.forall_mem_cons.mpr ⟨va_Nw.of rfl (hts _ (List.mem_append_right _ n_t25)), List.forall_mem_cons.mpr ⟨va_Nw.of rfl (hts _ (List.mem_append_right _ n_t95)), List.forall_mem_cons.mpr ⟨va_Nw.of rfl (hts _ (List.mem_append_right _ n_t100)), List.forall_mem_cons.mpr ⟨va_Nw.of rfl (hts _ (List.mem_append_right _ n_t142)), List.forall_mem_cons.mpr ⟨va_Nw.of rfl (hts _ (List.mem_append_right _ n_t147)), List.forall_mem_cons.mpr ⟨va_Nw.of rfl (hts _ (List.mem_append_right _ n_t321)), List.forall_mem_cons.mpr ⟨va_Nw.of rfl (hts _ (List.mem_append_right _ n_t358)), List.forall_mem_cons.mpr ⟨va_Nw.of rfl (hts _ (List.mem_append_right _ n_t369)), List.forall_mem_cons.mpr ⟨va_Nw.of rfl (hts _ (List.mem_append_right _ n_t681)), fun _ h => absurd h List.not_mem_nil⟩⟩⟩⟩⟩⟩⟩⟩⟩
theorem kn_one {s : State} {b k : Nat} {own tx : String} (h1 : (Cond.stringRef own k tx).before #[Value.ref b] s = true) (h2 : (Cond.exactly (Term.string own k) "java/lang/String").before #[Value.ref b] s = true) : ∃ a : Nat, vk_R own k tx a s := by
  obtain ⟨a, c, cA, kA, q1, -⟩ := Cond.exactly_spec (args := #[Value.ref b]) (first := s) (o := none) (s := s) (idx := []) (t := Term.string own k) (cls := "java/lang/String") h2
  exact ⟨a, vk_R.of h1 q1⟩
theorem kn_st {s : State} {b : Nat} (hts : ∀ w ∈ lw_tbl, w.before #[Value.ref b] s = true) (hgv : (Jvm.Cond.and given_1 narrow_1).before #[Value.ref b] s = true) : ∀ q ∈ strW, ∃ a : Nat, vk_R q.1 q.2.1 q.2.2 a s := by
  have hs := flat_of_before _ hgv
  unfold strW
  exact List.forall_mem_cons.mpr ⟨kn_one (hts _ (List.mem_append_right _ n_t459)) (cd_l (cd_r (cd_r (cd_r (cd_l (cd_l (cd_l (cd_l (cd_l (cd_r hgv)))))))))), List.forall_mem_cons.mpr ⟨kn_one (hts _ (List.mem_append_right _ n_t528)) (cd_r (cd_l (cd_r (cd_r (cd_l (cd_l (cd_l (cd_l (cd_r hgv))))))))), List.forall_mem_cons.mpr ⟨kn_one (hts _ (List.mem_append_right _ n_t534)) (cd_l (cd_l (cd_r (cd_l (cd_r (cd_l (cd_l (cd_l (cd_r hgv))))))))), List.forall_mem_cons.mpr ⟨kn_one (hts _ (List.mem_append_right _ n_t539)) (cd_l (cd_l (cd_r (cd_r (cd_r (cd_l (cd_l (cd_l (cd_r hgv))))))))), List.forall_mem_cons.mpr ⟨kn_one (hts _ (List.mem_append_right _ n_t544)) (cd_r (cd_l (cd_r (cd_l (cd_l (cd_r (cd_l (cd_l (cd_r hgv))))))))), List.forall_mem_cons.mpr ⟨kn_one (hts _ (List.mem_append_right _ n_t545)) (cd_r (cd_r (cd_r (cd_r (cd_r (cd_l (cd_r (cd_l (cd_l (cd_r hgv)))))))))), List.forall_mem_cons.mpr ⟨kn_one (hts _ (List.mem_append_right _ n_t546)) (cd_l (cd_r (cd_r (cd_l (cd_r (cd_r (cd_r (cd_l (cd_l (cd_r hgv)))))))))), List.forall_mem_cons.mpr ⟨kn_one (hts _ (List.mem_append_right _ n_t548)) (cd_r (cd_r (cd_r (cd_r (cd_l (cd_l (cd_l (cd_r (cd_l (cd_r hgv)))))))))), List.forall_mem_cons.mpr ⟨kn_one (hts _ (List.mem_append_right _ n_t554)) (cd_l (cd_l (cd_r (cd_l (cd_r (cd_l (cd_r (cd_l (cd_r hgv))))))))), List.forall_mem_cons.mpr ⟨kn_one (hts _ (List.mem_append_right _ n_t1144)) (cd_l (cd_r (cd_l (cd_l (cd_l (cd_r (cd_r (cd_l (cd_r hgv))))))))), List.forall_mem_cons.mpr ⟨kn_one (hts _ (List.mem_append_right _ n_t1163)) (cd_l (cd_l (cd_l (cd_l (cd_r (cd_r (cd_r (cd_l (cd_r hgv))))))))), List.forall_mem_cons.mpr ⟨kn_one (hts _ (List.mem_append_right _ n_t1168)) (cd_l (cd_r (cd_r (cd_r (cd_r (cd_r (cd_r (cd_r (cd_l (cd_r hgv)))))))))), List.forall_mem_cons.mpr ⟨kn_one (hts _ (List.mem_append_right _ n_t1169)) (cd_l (cd_r (cd_r (cd_r (cd_l (cd_l (cd_l (cd_r (cd_r hgv))))))))), List.forall_mem_cons.mpr ⟨kn_one (hts _ (List.mem_append_right _ n_t1170)) (cd_l (cd_r (cd_r (cd_r (cd_r (cd_r (cd_l (cd_l (cd_r (cd_r hgv)))))))))), List.forall_mem_cons.mpr ⟨kn_one (hts _ (List.mem_append_right _ n_t1171)) (cd_r (cd_l (cd_l (cd_l (cd_r (cd_r (cd_l (cd_r (cd_r hgv))))))))), List.forall_mem_cons.mpr ⟨kn_one (hts _ (List.mem_append_right _ n_t1172)) (cd_l (cd_l (cd_r (cd_l (cd_l (cd_l (cd_r (cd_r (cd_r hgv))))))))), List.forall_mem_cons.mpr ⟨kn_one (hts _ (List.mem_append_right _ n_t1173)) (cd_l (cd_r (cd_r (cd_r (cd_l (cd_r (cd_l (cd_r (cd_r (cd_r hgv)))))))))), List.forall_mem_cons.mpr ⟨kn_one (hts _ (List.mem_append_right _ n_t1174)) (cd_r (cd_r (cd_r (cd_l (cd_r (cd_l (cd_r (cd_r (cd_r (cd_r hgv)))))))))), fun _ h => absurd h List.not_mem_nil⟩⟩⟩⟩⟩⟩⟩⟩⟩⟩⟩⟩⟩⟩⟩⟩⟩⟩
theorem kn_big {s : State} {b : Nat} (hts : ∀ w ∈ lw_tbl, w.before #[Value.ref b] s = true) : ∀ w ∈ BIG, w.before #[Value.ref b] s = true := fun w h => hts w (List.mem_filter.mp h).1
theorem kn_arr {s : State} {cA : ClassId} {ty : FieldType} {k : Class} {comp : ClassId} (h1 : s.vm.classes[cA]? = some k) (h2 : k.kind = .array comp ty) : ArrOfT s cA ty := fun _ _ => ⟨(fun _ h => by cases h), k, h1, comp, h2⟩
theorem kn_start {s : State} {b : Nat} (hts : ∀ w ∈ lw_tbl, w.before #[Value.ref b] s = true) (hgv : (Jvm.Cond.and given_1 narrow_1).before #[Value.ref b] s = true) : ∃ (G : va_G) (cy : Nat → ClassId), KN G cy s := by
  have hB := kn_big hts
  obtain ⟨c0, i0, k0⟩ := u_known (C := RX0) (T := TX0) (N := 4) (n := 4) hB iX_X0 (hB _ m_t94)
  obtain ⟨c1, i1, k1⟩ := u_known (C := RX2) (T := TX2) (N := 4) (n := 4) hB iX_X2 (hB _ m_t118)
  obtain ⟨c2, i2, k2⟩ := u_known (C := RX3) (T := TX3) (N := 7) (n := 7) hB iX_X3 (hB _ m_t141)
  obtain ⟨c3, i3, k3⟩ := u_known (C := RX4) (T := TX4) (N := 13) (n := 13) hB iX_X4 (hB _ m_t24)
  obtain ⟨c4, i4, k4⟩ := u_known (C := RX5) (T := TX5) (N := 9) (n := 9) hB iX_X5 (hB _ m_t16)
  obtain ⟨c5, i5, k5⟩ := u_known (C := RX6) (T := TX6) (N := 35) (n := 35) hB iX_X6 (hB _ m_t839)
  obtain ⟨aI, aIk, aIc, aI1, aI2, aI3⟩ := Cond.arrayClass_spec (hB _ m_t92)
  obtain ⟨aJ, aJk, aJc, aJ1, aJ2, aJ3⟩ := Cond.arrayClass_spec (hB _ m_t139)
  obtain ⟨aB, aBk, aBc, aB1, aB2, aB3⟩ := Cond.arrayClass_spec (hB _ m_t173)
  have oP : (Cond.arrayOver (.array .int)).before #[Value.ref b] s = true := hts _ (List.mem_append_right _ n_t847)
  obtain ⟨gP, aP, aPk, gP1, gP2, gP3, gP4, gP5⟩ := Jvm.Stand.arrayOver_specB oP
  have oS : (Cond.arrayOver (.array .long)).before #[Value.ref b] s = true := hts _ (List.mem_append_right _ n_t845)
  obtain ⟨gS, aS, aSk, gS1, gS2, gS3, gS4, gS5⟩ := Jvm.Stand.arrayOver_specB oS
  have oM : (Cond.arrayOver (.object RX6)).before #[Value.ref b] s = true := hts _ (List.mem_append_right _ n_t849)
  obtain ⟨gM, aM, aMk, gM1, gM2, gM3, gM4, gM5⟩ := Cond.arrayOver_spec oM
  refine ⟨(fun k => match k with | 0 => c0 | 1 => c1 | 2 => c2 | 3 => c3 | 4 => c4 | _ => c5, fun k => match k with | 0 => i0 | 1 => i1 | 2 => i2 | 3 => i3 | 4 => i4 | _ => i5), (fun k => match k with | 0 => aI | 1 => aJ | 2 => aB | 3 => aP | 4 => aS | _ => aM), ⟨?_, ?_⟩, kn_nf hts, kn_nm hts, kn_st hts hgv, oM, oP, oS⟩
  · intro k q hq
    match k, hq with
    | 0, hq => cases hq; exact k0
    | 1, hq => cases hq; exact k1
    | 2, hq => cases hq; exact k2
    | 3, hq => cases hq; exact k3
    | 4, hq => cases hq; exact k4
    | 5, hq => cases hq; exact k5
    | k + 6, hq => simp [CL] at hq
  · intro k q hq
    match k, hq with
    | 0, hq => cases hq; exact ⟨kn_arr aI2 aI3, aI1⟩
    | 1, hq => cases hq; exact ⟨kn_arr aJ2 aJ3, aJ1⟩
    | 2, hq => cases hq; exact ⟨kn_arr aB2 aB3, aB1⟩
    | 3, hq => cases hq; exact ⟨kn_arr gP3 gP4, gP5⟩
    | 4, hq => cases hq; exact ⟨kn_arr gS3 gS4, gS5⟩
    | 5, hq => cases hq; exact ⟨kn_arr gM3 gM4, aMk, gM, gM3, gM4, gM1, gM5⟩
    | k + 6, hq => simp [tysA] at hq
theorem so_one {s : State} {b : Nat} {A : Nat → Prop} {own tx : String} {k : Nat} {lB : List Int32} (hlen : lB.length < 2 ^ 31) (hA : ∀ a : Nat, a < s.heap.size → ¬ A a) (hz1 : va_Z "java/lang/String" "COMPACT_STRINGS" "Z" (.int 1) A s s.heap) (hz2 : va_Zq "jdk/internal/util/Preconditions" "SIOOBE_FORMATTER" "Ljava/util/function/BiFunction;" A s s.heap)
    (h1 : (Cond.stringRef own k tx).before #[Value.ref b] s = true) (hex : (Cond.exactly (Term.string own k) "java/lang/String").before #[Value.ref b] s = true) (hco : (Cond.eq (.field (Term.string own k) "java/lang/String" "coder" "B") (.int 0)).before #[Value.ref b] s = true) (har : (Cond.arrayOf (.field (Term.string own k) "java/lang/String" "value" "[B") .byte).before #[Value.ref b] s = true)
    (hle : (Cond.eq (.length (.field (Term.string own k) "java/lang/String" "value" "[B")) (.int (Int32.ofNat lB.length))).before #[Value.ref b] s = true) (hel : ∀ j : Nat, j < lB.length → (Cond.eq (.elem (.field (Term.string own k) "java/lang/String" "value" "[B") (.int (Int32.ofNat j))) (.int (lB.getD j 0))).before #[Value.ref b] s = true) :
    ∃ a v : Nat, vk_R own k tx a s ∧ SF lB a v A s s.heap := by
  obtain ⟨a, c, cA, kA, q1, q2, q3, q4, q5, q6, -⟩ := Cond.exactly_spec (args := #[Value.ref b]) (first := s) (o := none) (s := s) (idx := []) (t := Term.string own k) (cls := "java/lang/String") hex
  obtain ⟨t, ht, hT⟩ := va_Tof (f := fun j => .int (lB.getD j 0)) (A := A) hlen har (va_eqt hle) (fun j hj => va_eqt (hel j hj)) hA
  exact ⟨a, t, vk_R.of h1 q1, ⟨cA, q3, q5, by rw [q6]; exact q2, hA a (Array.getElem?_eq_some_iff.mp q3).1⟩, vk_OFof q1 (va_eqt hco) hA, vk_OFof q1 ht hA, hT, hz1, hz2⟩
theorem so_start {s : State} {b : Nat} {A : Nat → Prop} (hts : ∀ w ∈ lw_tbl, w.before #[Value.ref b] s = true) (hgv : (Jvm.Cond.and given_1 narrow_1).before #[Value.ref b] s = true) (hA : ∀ a : Nat, a < s.heap.size → ¬ A a) : SO A s s.heap := by
  have hz1 : va_Z "java/lang/String" "COMPACT_STRINGS" "Z" (.int 1) A s s.heap := va_Zof (hts _ (List.mem_append_right _ n_t473)) (hts _ (List.mem_append_right _ n_t10)) (va_eqi (cd_l (cd_r (cd_l (cd_l (cd_l (cd_l (cd_l (cd_l (cd_r hgv)))))))))) hA
  have hz2 : va_Zq "jdk/internal/util/Preconditions" "SIOOBE_FORMATTER" "Ljava/util/function/BiFunction;" A s s.heap := va_Zqof (hts _ (List.mem_append_right _ n_t489)) (hts _ (List.mem_append_right _ n_t12)) (cd_r (cd_r (cd_l (cd_l (cd_l (cd_l (cd_l (cd_l (cd_r hgv))))))))) hA
  unfold SO strT
  exact List.forall_mem_cons.mpr ⟨so_one (by decide +kernel) hA hz1 hz2 (hts _ (List.mem_append_right _ n_t459)) (cd_l (cd_r (cd_r (cd_r (cd_l (cd_l (cd_l (cd_l (cd_l (cd_r hgv)))))))))) (cd_r (cd_r (cd_r (cd_r (cd_l (cd_l (cd_l (cd_l (cd_l (cd_r hgv)))))))))) (cd_l (cd_l (cd_l (cd_r (cd_l (cd_l (cd_l (cd_l (cd_r hgv))))))))) (cd_r (cd_l (cd_l (cd_r (cd_l (cd_l (cd_l (cd_l (cd_r hgv))))))))) (fun j hj => by match j, hj with | 0, _ => exact (cd_l (cd_r (cd_l (cd_r (cd_l (cd_l (cd_l (cd_l (cd_r hgv))))))))) | 1, _ => exact (cd_l (cd_r (cd_r (cd_l (cd_r (cd_l (cd_l (cd_l (cd_l (cd_r hgv)))))))))) | 2, _ => exact (cd_r (cd_r (cd_r (cd_l (cd_r (cd_l (cd_l (cd_l (cd_l (cd_r hgv)))))))))) | 3, _ => exact (cd_l (cd_l (cd_r (cd_r (cd_l (cd_l (cd_l (cd_l (cd_r hgv))))))))) | j + 4, hj => exact absurd hj (by simp)), List.forall_mem_cons.mpr ⟨so_one (by decide +kernel) hA hz1 hz2 (hts _ (List.mem_append_right _ n_t528)) (cd_r (cd_l (cd_r (cd_r (cd_l (cd_l (cd_l (cd_l (cd_r hgv))))))))) (cd_l (cd_r (cd_r (cd_r (cd_l (cd_l (cd_l (cd_l (cd_r hgv))))))))) (cd_l (cd_r (cd_r (cd_r (cd_r (cd_l (cd_l (cd_l (cd_l (cd_r hgv)))))))))) (cd_r (cd_r (cd_r (cd_r (cd_r (cd_l (cd_l (cd_l (cd_l (cd_r hgv)))))))))) (fun j hj => by match j, hj with | 0, _ => exact (cd_l (cd_l (cd_l (cd_l (cd_r (cd_l (cd_l (cd_l (cd_r hgv))))))))) | 1, _ => exact (cd_r (cd_l (cd_l (cd_l (cd_r (cd_l (cd_l (cd_l (cd_r hgv))))))))) | 2, _ => exact (cd_l (cd_r (cd_l (cd_l (cd_r (cd_l (cd_l (cd_l (cd_r hgv))))))))) | 3, _ => exact (cd_l (cd_r (cd_r (cd_l (cd_l (cd_r (cd_l (cd_l (cd_l (cd_r hgv)))))))))) | j + 4, hj => exact absurd hj (by simp)), List.forall_mem_cons.mpr ⟨so_one (by decide +kernel) hA hz1 hz2 (hts _ (List.mem_append_right _ n_t534)) (cd_l (cd_l (cd_r (cd_l (cd_r (cd_l (cd_l (cd_l (cd_r hgv))))))))) (cd_r (cd_l (cd_r (cd_l (cd_r (cd_l (cd_l (cd_l (cd_r hgv))))))))) (cd_l (cd_r (cd_r (cd_l (cd_r (cd_l (cd_l (cd_l (cd_r hgv))))))))) (cd_l (cd_r (cd_r (cd_r (cd_l (cd_r (cd_l (cd_l (cd_l (cd_r hgv)))))))))) (fun j hj => by match j, hj with | 0, _ => exact (cd_r (cd_r (cd_r (cd_r (cd_l (cd_r (cd_l (cd_l (cd_l (cd_r hgv)))))))))) | 1, _ => exact (cd_l (cd_l (cd_l (cd_r (cd_r (cd_l (cd_l (cd_l (cd_r hgv))))))))) | 2, _ => exact (cd_r (cd_l (cd_l (cd_r (cd_r (cd_l (cd_l (cd_l (cd_r hgv))))))))) | 3, _ => exact (cd_l (cd_r (cd_l (cd_r (cd_r (cd_l (cd_l (cd_l (cd_r hgv))))))))) | j + 4, hj => exact absurd hj (by simp)), List.forall_mem_cons.mpr ⟨so_one (by decide +kernel) hA hz1 hz2 (hts _ (List.mem_append_right _ n_t539)) (cd_l (cd_l (cd_r (cd_r (cd_r (cd_l (cd_l (cd_l (cd_r hgv))))))))) (cd_r (cd_l (cd_r (cd_r (cd_r (cd_l (cd_l (cd_l (cd_r hgv))))))))) (cd_l (cd_r (cd_r (cd_r (cd_r (cd_l (cd_l (cd_l (cd_r hgv))))))))) (cd_l (cd_r (cd_r (cd_r (cd_r (cd_r (cd_l (cd_l (cd_l (cd_r hgv)))))))))) (fun j hj => by match j, hj with | 0, _ => exact (cd_r (cd_r (cd_r (cd_r (cd_r (cd_r (cd_l (cd_l (cd_l (cd_r hgv)))))))))) | 1, _ => exact (cd_l (cd_l (cd_l (cd_l (cd_l (cd_r (cd_l (cd_l (cd_r hgv))))))))) | 2, _ => exact (cd_r (cd_l (cd_l (cd_l (cd_l (cd_r (cd_l (cd_l (cd_r hgv))))))))) | j + 3, hj => exact absurd hj (by simp)), List.forall_mem_cons.mpr ⟨so_one (by decide +kernel) hA hz1 hz2 (hts _ (List.mem_append_right _ n_t544)) (cd_r (cd_l (cd_r (cd_l (cd_l (cd_r (cd_l (cd_l (cd_r hgv))))))))) (cd_l (cd_r (cd_r (cd_l (cd_l (cd_r (cd_l (cd_l (cd_r hgv))))))))) (cd_l (cd_r (cd_r (cd_r (cd_l (cd_l (cd_r (cd_l (cd_l (cd_r hgv)))))))))) (cd_r (cd_r (cd_r (cd_r (cd_l (cd_l (cd_r (cd_l (cd_l (cd_r hgv)))))))))) (fun j hj => by match j, hj with | 0, _ => exact (cd_l (cd_l (cd_l (cd_r (cd_l (cd_r (cd_l (cd_l (cd_r hgv))))))))) | 1, _ => exact (cd_r (cd_l (cd_l (cd_r (cd_l (cd_r (cd_l (cd_l (cd_r hgv))))))))) | 2, _ => exact (cd_l (cd_r (cd_l (cd_r (cd_l (cd_r (cd_l (cd_l (cd_r hgv))))))))) | 3, _ => exact (cd_l (cd_r (cd_r (cd_l (cd_r (cd_l (cd_r (cd_l (cd_l (cd_r hgv)))))))))) | 4, _ => exact (cd_r (cd_r (cd_r (cd_l (cd_r (cd_l (cd_r (cd_l (cd_l (cd_r hgv)))))))))) | j + 5, hj => exact absurd hj (by simp)), List.forall_mem_cons.mpr ⟨so_one (by decide +kernel) hA hz1 hz2 (hts _ (List.mem_append_right _ n_t545)) (cd_r (cd_r (cd_r (cd_r (cd_r (cd_l (cd_r (cd_l (cd_l (cd_r hgv)))))))))) (cd_l (cd_l (cd_l (cd_l (cd_r (cd_r (cd_l (cd_l (cd_r hgv))))))))) (cd_r (cd_l (cd_l (cd_l (cd_r (cd_r (cd_l (cd_l (cd_r hgv))))))))) (cd_l (cd_r (cd_l (cd_l (cd_r (cd_r (cd_l (cd_l (cd_r hgv))))))))) (fun j hj => by match j, hj with | 0, _ => exact (cd_l (cd_r (cd_r (cd_l (cd_l (cd_r (cd_r (cd_l (cd_l (cd_r hgv)))))))))) | 1, _ => exact (cd_r (cd_r (cd_r (cd_l (cd_l (cd_r (cd_r (cd_l (cd_l (cd_r hgv)))))))))) | 2, _ => exact (cd_l (cd_l (cd_r (cd_l (cd_r (cd_r (cd_l (cd_l (cd_r hgv))))))))) | 3, _ => exact (cd_r (cd_l (cd_r (cd_l (cd_r (cd_r (cd_l (cd_l (cd_r hgv))))))))) | 4, _ => exact (cd_l (cd_r (cd_r (cd_l (cd_r (cd_r (cd_l (cd_l (cd_r hgv))))))))) | j + 5, hj => exact absurd hj (by simp)), List.forall_mem_cons.mpr ⟨so_one (by decide +kernel) hA hz1 hz2 (hts _ (List.mem_append_right _ n_t546)) (cd_l (cd_r (cd_r (cd_l (cd_r (cd_r (cd_r (cd_l (cd_l (cd_r hgv)))))))))) (cd_r (cd_r (cd_r (cd_l (cd_r (cd_r (cd_r (cd_l (cd_l (cd_r hgv)))))))))) (cd_l (cd_l (cd_r (cd_r (cd_r (cd_r (cd_l (cd_l (cd_r hgv))))))))) (cd_r (cd_l (cd_r (cd_r (cd_r (cd_r (cd_l (cd_l (cd_r hgv))))))))) (fun j hj => by match j, hj with | 0, _ => exact (cd_l (cd_r (cd_r (cd_r (cd_r (cd_r (cd_l (cd_l (cd_r hgv))))))))) | 1, _ => exact (cd_l (cd_r (cd_r (cd_r (cd_r (cd_r (cd_r (cd_l (cd_l (cd_r hgv)))))))))) | 2, _ => exact (cd_r (cd_r (cd_r (cd_r (cd_r (cd_r (cd_r (cd_l (cd_l (cd_r hgv)))))))))) | 3, _ => exact (cd_l (cd_l (cd_l (cd_l (cd_l (cd_l (cd_r (cd_l (cd_r hgv))))))))) | 4, _ => exact (cd_r (cd_l (cd_l (cd_l (cd_l (cd_l (cd_r (cd_l (cd_r hgv))))))))) | j + 5, hj => exact absurd hj (by simp)), List.forall_mem_cons.mpr ⟨so_one (by decide +kernel) hA hz1 hz2 (hts _ (List.mem_append_right _ n_t548)) (cd_r (cd_r (cd_r (cd_r (cd_l (cd_l (cd_l (cd_r (cd_l (cd_r hgv)))))))))) (cd_l (cd_l (cd_l (cd_r (cd_l (cd_l (cd_r (cd_l (cd_r hgv))))))))) (cd_r (cd_l (cd_l (cd_r (cd_l (cd_l (cd_r (cd_l (cd_r hgv))))))))) (cd_l (cd_r (cd_l (cd_r (cd_l (cd_l (cd_r (cd_l (cd_r hgv))))))))) (fun j hj => by match j, hj with | 0, _ => exact (cd_l (cd_r (cd_r (cd_l (cd_r (cd_l (cd_l (cd_r (cd_l (cd_r hgv)))))))))) | 1, _ => exact (cd_r (cd_r (cd_r (cd_l (cd_r (cd_l (cd_l (cd_r (cd_l (cd_r hgv)))))))))) | 2, _ => exact (cd_l (cd_l (cd_r (cd_r (cd_l (cd_l (cd_r (cd_l (cd_r hgv))))))))) | 3, _ => exact (cd_r (cd_l (cd_r (cd_r (cd_l (cd_l (cd_r (cd_l (cd_r hgv))))))))) | 4, _ => exact (cd_l (cd_r (cd_r (cd_r (cd_l (cd_l (cd_r (cd_l (cd_r hgv))))))))) | j + 5, hj => exact absurd hj (by simp)), List.forall_mem_cons.mpr ⟨so_one (by decide +kernel) hA hz1 hz2 (hts _ (List.mem_append_right _ n_t554)) (cd_l (cd_l (cd_r (cd_l (cd_r (cd_l (cd_r (cd_l (cd_r hgv))))))))) (cd_r (cd_l (cd_r (cd_l (cd_r (cd_l (cd_r (cd_l (cd_r hgv))))))))) (cd_l (cd_r (cd_r (cd_l (cd_r (cd_l (cd_r (cd_l (cd_r hgv))))))))) (cd_l (cd_r (cd_r (cd_r (cd_l (cd_r (cd_l (cd_r (cd_l (cd_r hgv)))))))))) (fun j hj => by match j, hj with | 0, _ => exact (cd_r (cd_r (cd_r (cd_r (cd_l (cd_r (cd_l (cd_r (cd_l (cd_r hgv)))))))))) | 1, _ => exact (cd_l (cd_l (cd_l (cd_r (cd_r (cd_l (cd_r (cd_l (cd_r hgv))))))))) | 2, _ => exact (cd_r (cd_l (cd_l (cd_r (cd_r (cd_l (cd_r (cd_l (cd_r hgv))))))))) | 3, _ => exact (cd_l (cd_r (cd_l (cd_r (cd_r (cd_l (cd_r (cd_l (cd_r hgv))))))))) | 4, _ => exact (cd_l (cd_r (cd_r (cd_l (cd_r (cd_r (cd_l (cd_r (cd_l (cd_r hgv)))))))))) | j + 5, hj => exact absurd hj (by simp)), List.forall_mem_cons.mpr ⟨so_one (by decide +kernel) hA hz1 hz2 (hts _ (List.mem_append_right _ n_t1144)) (cd_l (cd_r (cd_l (cd_l (cd_l (cd_r (cd_r (cd_l (cd_r hgv))))))))) (cd_r (cd_r (cd_l (cd_l (cd_l (cd_r (cd_r (cd_l (cd_r hgv))))))))) (cd_l (cd_l (cd_r (cd_l (cd_l (cd_r (cd_r (cd_l (cd_r hgv))))))))) (cd_r (cd_l (cd_r (cd_l (cd_l (cd_r (cd_r (cd_l (cd_r hgv))))))))) (fun j hj => by match j, hj with | 0, _ => exact (cd_l (cd_r (cd_r (cd_l (cd_l (cd_r (cd_r (cd_l (cd_r hgv))))))))) | 1, _ => exact (cd_l (cd_r (cd_r (cd_r (cd_l (cd_l (cd_r (cd_r (cd_l (cd_r hgv)))))))))) | 2, _ => exact (cd_r (cd_r (cd_r (cd_r (cd_l (cd_l (cd_r (cd_r (cd_l (cd_r hgv)))))))))) | 3, _ => exact (cd_l (cd_l (cd_l (cd_r (cd_l (cd_r (cd_r (cd_l (cd_r hgv))))))))) | j + 4, hj => exact absurd hj (by simp)), List.forall_mem_cons.mpr ⟨so_one (by decide +kernel) hA hz1 hz2 (hts _ (List.mem_append_right _ n_t1163)) (cd_l (cd_l (cd_l (cd_l (cd_r (cd_r (cd_r (cd_l (cd_r hgv))))))))) (cd_r (cd_l (cd_l (cd_l (cd_r (cd_r (cd_r (cd_l (cd_r hgv))))))))) (cd_l (cd_r (cd_l (cd_l (cd_r (cd_r (cd_r (cd_l (cd_r hgv))))))))) (cd_l (cd_r (cd_r (cd_l (cd_l (cd_r (cd_r (cd_r (cd_l (cd_r hgv)))))))))) (fun j hj => by match j, hj with | 0, _ => exact (cd_r (cd_r (cd_r (cd_l (cd_l (cd_r (cd_r (cd_r (cd_l (cd_r hgv)))))))))) | 1, _ => exact (cd_l (cd_l (cd_r (cd_l (cd_r (cd_r (cd_r (cd_l (cd_r hgv))))))))) | 2, _ => exact (cd_r (cd_l (cd_r (cd_l (cd_r (cd_r (cd_r (cd_l (cd_r hgv))))))))) | 3, _ => exact (cd_l (cd_r (cd_r (cd_l (cd_r (cd_r (cd_r (cd_l (cd_r hgv))))))))) | j + 4, hj => exact absurd hj (by simp)), List.forall_mem_cons.mpr ⟨so_one (by decide +kernel) hA hz1 hz2 (hts _ (List.mem_append_right _ n_t1168)) (cd_l (cd_r (cd_r (cd_r (cd_r (cd_r (cd_r (cd_r (cd_l (cd_r hgv)))))))))) (cd_r (cd_r (cd_r (cd_r (cd_r (cd_r (cd_r (cd_r (cd_l (cd_r hgv)))))))))) (cd_l (cd_l (cd_l (cd_l (cd_l (cd_l (cd_l (cd_r (cd_r hgv))))))))) (cd_r (cd_l (cd_l (cd_l (cd_l (cd_l (cd_l (cd_r (cd_r hgv))))))))) (fun j hj => by match j, hj with | 0, _ => exact (cd_l (cd_r (cd_l (cd_l (cd_l (cd_l (cd_l (cd_r (cd_r hgv))))))))) | 1, _ => exact (cd_r (cd_r (cd_l (cd_l (cd_l (cd_l (cd_l (cd_r (cd_r hgv))))))))) | 2, _ => exact (cd_l (cd_l (cd_r (cd_l (cd_l (cd_l (cd_l (cd_r (cd_r hgv))))))))) | j + 3, hj => exact absurd hj (by simp)), List.forall_mem_cons.mpr ⟨so_one (by decide +kernel) hA hz1 hz2 (hts _ (List.mem_append_right _ n_t1169)) (cd_l (cd_r (cd_r (cd_r (cd_l (cd_l (cd_l (cd_r (cd_r hgv))))))))) (cd_l (cd_r (cd_r (cd_r (cd_r (cd_l (cd_l (cd_l (cd_r (cd_r hgv)))))))))) (cd_r (cd_r (cd_r (cd_r (cd_r (cd_l (cd_l (cd_l (cd_r (cd_r hgv)))))))))) (cd_l (cd_l (cd_l (cd_l (cd_r (cd_l (cd_l (cd_r (cd_r hgv))))))))) (fun j hj => by match j, hj with | 0, _ => exact (cd_r (cd_l (cd_l (cd_l (cd_r (cd_l (cd_l (cd_r (cd_r hgv))))))))) | 1, _ => exact (cd_l (cd_r (cd_l (cd_l (cd_r (cd_l (cd_l (cd_r (cd_r hgv))))))))) | 2, _ => exact (cd_l (cd_r (cd_r (cd_l (cd_l (cd_r (cd_l (cd_l (cd_r (cd_r hgv)))))))))) | 3, _ => exact (cd_r (cd_r (cd_r (cd_l (cd_l (cd_r (cd_l (cd_l (cd_r (cd_r hgv)))))))))) | 4, _ => exact (cd_l (cd_l (cd_r (cd_l (cd_r (cd_l (cd_l (cd_r (cd_r hgv))))))))) | j + 5, hj => exact absurd hj (by simp)), List.forall_mem_cons.mpr ⟨so_one (by decide +kernel) hA hz1 hz2 (hts _ (List.mem_append_right _ n_t1170)) (cd_l (cd_r (cd_r (cd_r (cd_r (cd_r (cd_l (cd_l (cd_r (cd_r hgv)))))))))) (cd_r (cd_r (cd_r (cd_r (cd_r (cd_r (cd_l (cd_l (cd_r (cd_r hgv)))))))))) (cd_l (cd_l (cd_l (cd_l (cd_l (cd_r (cd_l (cd_r (cd_r hgv))))))))) (cd_r (cd_l (cd_l (cd_l (cd_l (cd_r (cd_l (cd_r (cd_r hgv))))))))) (fun j hj => by match j, hj with | 0, _ => exact (cd_l (cd_r (cd_l (cd_l (cd_l (cd_r (cd_l (cd_r (cd_r hgv))))))))) | 1, _ => exact (cd_r (cd_r (cd_l (cd_l (cd_l (cd_r (cd_l (cd_r (cd_r hgv))))))))) | 2, _ => exact (cd_l (cd_l (cd_r (cd_l (cd_l (cd_r (cd_l (cd_r (cd_r hgv))))))))) | 3, _ => exact (cd_r (cd_l (cd_r (cd_l (cd_l (cd_r (cd_l (cd_r (cd_r hgv))))))))) | 4, _ => exact (cd_l (cd_r (cd_r (cd_l (cd_l (cd_r (cd_l (cd_r (cd_r hgv))))))))) | j + 5, hj => exact absurd hj (by simp)), List.forall_mem_cons.mpr ⟨so_one (by decide +kernel) hA hz1 hz2 (hts _ (List.mem_append_right _ n_t1171)) (cd_r (cd_l (cd_l (cd_l (cd_r (cd_r (cd_l (cd_r (cd_r hgv))))))))) (cd_l (cd_r (cd_l (cd_l (cd_r (cd_r (cd_l (cd_r (cd_r hgv))))))))) (cd_l (cd_r (cd_r (cd_l (cd_l (cd_r (cd_r (cd_l (cd_r (cd_r hgv)))))))))) (cd_r (cd_r (cd_r (cd_l (cd_l (cd_r (cd_r (cd_l (cd_r (cd_r hgv)))))))))) (fun j hj => by match j, hj with | 0, _ => exact (cd_l (cd_l (cd_r (cd_l (cd_r (cd_r (cd_l (cd_r (cd_r hgv))))))))) | 1, _ => exact (cd_r (cd_l (cd_r (cd_l (cd_r (cd_r (cd_l (cd_r (cd_r hgv))))))))) | 2, _ => exact (cd_l (cd_r (cd_r (cd_l (cd_r (cd_r (cd_l (cd_r (cd_r hgv))))))))) | 3, _ => exact (cd_l (cd_r (cd_r (cd_r (cd_l (cd_r (cd_r (cd_l (cd_r (cd_r hgv)))))))))) | 4, _ => exact (cd_r (cd_r (cd_r (cd_r (cd_l (cd_r (cd_r (cd_l (cd_r (cd_r hgv)))))))))) | j + 5, hj => exact absurd hj (by simp)), List.forall_mem_cons.mpr ⟨so_one (by decide +kernel) hA hz1 hz2 (hts _ (List.mem_append_right _ n_t1172)) (cd_l (cd_l (cd_r (cd_l (cd_l (cd_l (cd_r (cd_r (cd_r hgv))))))))) (cd_r (cd_l (cd_r (cd_l (cd_l (cd_l (cd_r (cd_r (cd_r hgv))))))))) (cd_l (cd_r (cd_r (cd_l (cd_l (cd_l (cd_r (cd_r (cd_r hgv))))))))) (cd_l (cd_r (cd_r (cd_r (cd_l (cd_l (cd_l (cd_r (cd_r (cd_r hgv)))))))))) (fun j hj => by match j, hj with | 0, _ => exact (cd_r (cd_r (cd_r (cd_r (cd_l (cd_l (cd_l (cd_r (cd_r (cd_r hgv)))))))))) | 1, _ => exact (cd_l (cd_l (cd_l (cd_r (cd_l (cd_l (cd_r (cd_r (cd_r hgv))))))))) | 2, _ => exact (cd_r (cd_l (cd_l (cd_r (cd_l (cd_l (cd_r (cd_r (cd_r hgv))))))))) | 3, _ => exact (cd_l (cd_r (cd_l (cd_r (cd_l (cd_l (cd_r (cd_r (cd_r hgv))))))))) | j + 4, hj => exact absurd hj (by simp)), List.forall_mem_cons.mpr ⟨so_one (by decide +kernel) hA hz1 hz2 (hts _ (List.mem_append_right _ n_t1173)) (cd_l (cd_r (cd_r (cd_r (cd_l (cd_r (cd_l (cd_r (cd_r (cd_r hgv)))))))))) (cd_r (cd_r (cd_r (cd_r (cd_l (cd_r (cd_l (cd_r (cd_r (cd_r hgv)))))))))) (cd_l (cd_l (cd_l (cd_r (cd_r (cd_l (cd_r (cd_r (cd_r hgv))))))))) (cd_r (cd_l (cd_l (cd_r (cd_r (cd_l (cd_r (cd_r (cd_r hgv))))))))) (fun j hj => by match j, hj with | 0, _ => exact (cd_l (cd_r (cd_l (cd_r (cd_r (cd_l (cd_r (cd_r (cd_r hgv))))))))) | 1, _ => exact (cd_l (cd_r (cd_r (cd_l (cd_r (cd_r (cd_l (cd_r (cd_r (cd_r hgv)))))))))) | 2, _ => exact (cd_r (cd_r (cd_r (cd_l (cd_r (cd_r (cd_l (cd_r (cd_r (cd_r hgv)))))))))) | 3, _ => exact (cd_l (cd_l (cd_r (cd_r (cd_r (cd_l (cd_r (cd_r (cd_r hgv))))))))) | 4, _ => exact (cd_r (cd_l (cd_r (cd_r (cd_r (cd_l (cd_r (cd_r (cd_r hgv))))))))) | j + 5, hj => exact absurd hj (by simp)), List.forall_mem_cons.mpr ⟨so_one (by decide +kernel) hA hz1 hz2 (hts _ (List.mem_append_right _ n_t1174)) (cd_r (cd_r (cd_r (cd_l (cd_r (cd_l (cd_r (cd_r (cd_r (cd_r hgv)))))))))) (cd_l (cd_l (cd_r (cd_r (cd_l (cd_r (cd_r (cd_r (cd_r hgv))))))))) (cd_r (cd_l (cd_r (cd_r (cd_l (cd_r (cd_r (cd_r (cd_r hgv))))))))) (cd_l (cd_r (cd_r (cd_r (cd_l (cd_r (cd_r (cd_r (cd_r hgv))))))))) (fun j hj => by match j, hj with | 0, _ => exact (cd_l (cd_r (cd_r (cd_r (cd_r (cd_l (cd_r (cd_r (cd_r (cd_r hgv)))))))))) | 1, _ => exact (cd_r (cd_r (cd_r (cd_r (cd_r (cd_l (cd_r (cd_r (cd_r (cd_r hgv)))))))))) | 2, _ => exact (cd_l (cd_l (cd_l (cd_l (cd_r (cd_r (cd_r (cd_r (cd_r hgv))))))))) | 3, _ => exact (cd_r (cd_l (cd_l (cd_l (cd_r (cd_r (cd_r (cd_r (cd_r hgv))))))))) | 4, _ => exact (cd_l (cd_r (cd_l (cd_l (cd_r (cd_r (cd_r (cd_r (cd_r hgv))))))))) | j + 5, hj => exact absurd hj (by simp)), fun _ h => absurd h List.not_mem_nil⟩⟩⟩⟩⟩⟩⟩⟩⟩⟩⟩⟩⟩⟩⟩⟩⟩⟩
end
