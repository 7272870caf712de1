/-! what the questions answer, the same on both sides -/
/-! teach -/
section TCH
variable {t : TA} {k m j : Nat} {x y X : Int32}
end TCH
/-! hangs -/
section HG
variable {t : TA} {j : Nat} {x y X : Int32}
end HG
/-! lost -/
def u8 (a b c d e f g h : Bool) : Nat := a.toNat + 2 * b.toNat + 4 * c.toNat + 8 * d.toNat + 16 * e.toNat + 32 * f.toNat + 64 * g.toNat + 128 * h.toNat
theorem u8_b : ∀ a b c d e f g h : Bool, (u8 a b c d e f g h).testBit 0 = a ∧ (u8 a b c d e f g h).testBit 1 = b ∧ (u8 a b c d e f g h).testBit 2 = c ∧ (u8 a b c d e f g h).testBit 3 = d ∧ (u8 a b c d e f g h).testBit 4 = e ∧ (u8 a b c d e f g h).testBit 5 = f ∧ (u8 a b c d e f g h).testBit 6 = g ∧ (u8 a b c d e f g h).testBit 7 = h ∧ u8 a b c d e f g h < 256 := by decide +kernel
theorem ex_u (g : Nat → Bool) : ∃ u, u < 256 ∧ ∀ b, b < 8 → g b = u.testBit b := by
  obtain ⟨h0, h1, h2, h3, h4, h5, h6, h7, hl⟩ := u8_b (g 0) (g 1) (g 2) (g 3) (g 4) (g 5) (g 6) (g 7)
  refine ⟨_, hl, fun b hb => ?_⟩
  match b, hb with
  | 0, _ => exact h0.symm
  | 1, _ => exact h1.symm
  | 2, _ => exact h2.symm
  | 3, _ => exact h3.symm
  | 4, _ => exact h4.symm
  | 5, _ => exact h5.symm
  | 6, _ => exact h6.symm
  | 7, _ => exact h7.symm
  | b + 8, h => exact absurd h (by omega)
/-! nobody is there: nothing changes -/
/-! a rule on a shelf, and what is asked of it -/
theorem zbc_8 : ∀ a b c d e f g h : Bool, zbc (wb8 a b c d e f g h) = 0 + b01 a + b01 b + b01 c + b01 d + b01 e + b01 f + b01 g + b01 h := by decide +kernel
theorem zbc_wb (f : Nat → Bool) : zbc (wb f) = wsum (fun b => b01 (f b)) 8 := zbc_8 _ _ _ _ _ _ _ _
theorem ws_more {f : Nat → Int32} : ∀ d n, (∀ b, n ≤ b → b < n + d → f b = 0) → wsum f (n + d) = wsum f n := by
  intro d
  induction d with
  | zero => intro n _; rfl
  | succ d ih =>
    intro n h
    show wsum f (n + d) + f (n + d) = wsum f n
    rw [ih n (fun b h1 h2 => h b h1 (by omega)), h (n + d) (by omega) (by omega), Int32.add_zero]
section RN
variable {q a r0 r1 x y l w : Int32} {t tX tY : TA} {m : Nat}
end RN
/-! sets below 256 as numbers; ends: how many go -/
theorem nI_and (a b : Nat) : nI a &&& nI b = nI (a &&& b) := by
  apply Int32.toBitVec_inj.mp
  exact BitVec.ofNat_and.symm
theorem wb_u : ∀ u, u < 256 → wb (fun b => u.testBit b) = nI u := by decide +kernel
theorem wb_ex (f : Nat → Bool) : ∃ u, u < 256 ∧ (∀ b, b < 8 → f b = u.testBit b) ∧ wb f = nI u := by
  obtain ⟨u, hu, e⟩ := ex_u f
  refine ⟨u, hu, e, ?_⟩
  rw [← wb_u u hu]
  unfold wb
  rw [e 0 (by omega), e 1 (by omega), e 2 (by omega), e 3 (by omega), e 4 (by omega), e 5 (by omega), e 6 (by omega), e 7 (by omega)]
theorem wb_and (f g : Nat → Bool) : wb f &&& wb g = wb (fun b => f b && g b) := by
  obtain ⟨u, hu, e, E⟩ := wb_ex f
  obtain ⟨v, hv, e', E'⟩ := wb_ex g
  have hl : u &&& v < 256 := Nat.lt_of_le_of_lt Nat.and_le_left hu
  rw [E, E', nI_and, ← wb_u _ hl]
  unfold wb
  have q : ∀ b, b < 8 → (u &&& v).testBit b = (f b && g b) := fun b hb => by rw [Nat.testBit_and, e b hb, e' b hb]
  show wb8 ((u &&& v).testBit 0) ((u &&& v).testBit 1) ((u &&& v).testBit 2) ((u &&& v).testBit 3) ((u &&& v).testBit 4) ((u &&& v).testBit 5) ((u &&& v).testBit 6) ((u &&& v).testBit 7) = wb8 (f 0 && g 0) (f 1 && g 1) (f 2 && g 2) (f 3 && g 3) (f 4 && g 4) (f 5 && g 5) (f 6 && g 6) (f 7 && g 7)
  rw [q 0 (by omega), q 1 (by omega), q 2 (by omega), q 3 (by omega), q 4 (by omega), q 5 (by omega), q 6 (by omega), q 7 (by omega)]
def egB (t : TA) (p : Nat) : Bool := !T_gn t p && decide (T_ag t p + 1 = 10)
def enA (t : TA) : Int32 := wsum (fun p => b01 (egB t p)) (T_np t)
section EN
variable {tA tJ : TA} {j : Nat} {x : Int32}
theorem en_off (hE : tJ = eyF (zthere tA) tA j) (hg : T_gn tJ j = true) (hx : x = wsum (fun p => b01 (egB tA p)) j) : x = wsum (fun p => b01 (egB tA p)) (j + 1) := by
  subst hE
  rw [(ey_far _ _ j j (Nat.le_refl _)).1] at hg
  show x = wsum (fun p => b01 (egB tA p)) j + b01 (egB tA j)
  rw [← hx]
  unfold egB
  rw [hg]
  exact (Int32.add_zero x).symm
theorem en_die (hE : tJ = eyF (zthere tA) tA j) (hg : T_gn tJ j = false) (hc : T_ag tJ j + 1 = 10) (hx : x = wsum (fun p => b01 (egB tA p)) j) : x + 1 = wsum (fun p => b01 (egB tA p)) (j + 1) := by
  subst hE
  rw [(ey_far _ _ j j (Nat.le_refl _)).1] at hg
  rw [(ey_far _ _ j j (Nat.le_refl _)).2] at hc
  show x + 1 = wsum (fun p => b01 (egB tA p)) j + b01 (egB tA j)
  rw [← hx]
  unfold egB
  rw [hg, decide_eq_true hc]
  rfl
theorem en_live (hE : tJ = eyF (zthere tA) tA j) (hg : T_gn tJ j = false) (hc : ¬ T_ag tJ j + 1 = 10) (hx : x = wsum (fun p => b01 (egB tA p)) j) : x + 0 = wsum (fun p => b01 (egB tA p)) (j + 1) := by
  subst hE
  rw [(ey_far _ _ j j (Nat.le_refl _)).1] at hg
  rw [(ey_far _ _ j j (Nat.le_refl _)).2] at hc
  show x + 0 = wsum (fun p => b01 (egB tA p)) j + b01 (egB tA j)
  rw [← hx]
  unfold egB
  rw [hg, decide_eq_false hc]
  rfl
end EN
theorem ey_gn (th : Int32) (t : TA) : ∀ n p, p < n → T_gn (eyF th t n) p = (T_gn t p || (bitb th p && decide (9 < T_ag t p + 1))) := by
  intro n
  induction n with
  | zero => intro p h; omega
  | succ n ih =>
    intro p hp
    cases hb : bitb th n with
    | false =>
      rw [ey_no hb]
      by_cases e : p = n
      · subst e
        rw [(ey_far th t p p (Nat.le_refl _)).1, hb, Bool.false_and, Bool.or_false]
      · exact ih p (by omega)
    | true =>
      rw [ey_on hb]
      show (if 9 < T_ag (eyF th t n) n + 1 then updB (T_gn (eyF th t n)) n true else T_gn (eyF th t n)) p = _
      by_cases e : p = n
      · subst e
        rw [(ey_far th t p p (Nat.le_refl _)).2]
        by_cases c : 9 < T_ag t p + 1
        · rw [if_pos c, hb, decide_eq_true c, Bool.true_and, Bool.or_true]
          exact updB_s
        · rw [if_neg c, (ey_far th t p p (Nat.le_refl _)).1, decide_eq_false c, Bool.and_false, Bool.or_false]
      · have i := ih p (by omega)
        by_cases c : 9 < T_ag (eyF th t n) n + 1
        · rw [if_pos c]
          show (if p = n then true else T_gn (eyF th t n) p) = _
          rw [if_neg e]
          exact i
        · rw [if_neg c]
          exact i
theorem ag_10 {x : Int32} (h : R0 9 x) : (9 < x + 1) ↔ x + 1 = 10 := by
  obtain ⟨a, ha, rfl⟩ := h
  have : ∀ a, a < 10 → ((9 : Int32) < nI a + 1 ↔ nI a + 1 = 10) := by decide +kernel
  exact this a (by omega)
theorem en_x {t : TA} (h8 : T_np t ≤ 8) (hA : AI t) : zbc (zthere t &&& wb (T_gn (zey t))) = enA t := by
  unfold zthere
  rw [wb_and, zbc_wb, show (8 : Nat) = T_np t + (8 - T_np t) by omega, ws_more (8 - T_np t) (T_np t) (fun b h1 _ => by rw [decide_eq_false (show ¬ b < T_np t by omega)]; rfl)]
  refine ws_cong _ (fun p hp => congrArg b01 ?_)
  show (decide (p < T_np t) && !T_gn t p && T_gn (zey t) p) = (!T_gn t p && decide (T_ag t p + 1 = 10))
  have e : T_gn (zey t) p = (T_gn t p || (bitb (zthere t) p && decide (9 < T_ag t p + 1))) := ey_gn _ _ _ p hp
  rw [e, bitb_th (by omega), decide_eq_true hp]
  cases g : T_gn t p with
  | true => rfl
  | false =>
    have q := ag_10 (hA p hp g)
    show decide (9 < T_ag t p + 1) = decide (T_ag t p + 1 = 10)
    exact decide_eq_decide.mpr q
/-! says: what a rule says, taken for one of a kind -/
section SY
variable {q a b : Int32} {t : TA}
end SY
set_option maxHeartbeats 4000000 in
set_option maxRecDepth 100000 in
theorem x_X6_endn (l : Launch) (G : va_G) (cy : Nat → ClassId) (sz : Nat) (qm : Nat) (v0 : Value) (v1 : Value) (v2 : Value) (v3 : Value) (v4 : Value) (v5 : Value) (v6 : Value) (v7 : Value) (v8 : Value) (v9 : Value) (tA : TA) (qmB : Nat) (qmO : Nat) (qmK : Nat) (iEn : Int32) (iTk : Int32) (v18 : Value) (v19 : Value) (v20 : Value) (v21 : Value) (v22 : Value) (v23 : Value) (v24 : Value) (v25 : Value) (v26 : Value) (iLv : Int32) (iWs : Int32) (v29 : Value) (v30 : Value) (v31 : Value) (v32 : Value) (v33 : Value) (v34 : Value) (rB : Nat → Nat) (rO : Nat → Nat) (rK : Nat → Nat)  (hB : T_nb tA ≤ 8) (hPp : T_np tA ≤ 8) (hTI : TI tA) (hAG : AI tA) : MW l yX6_end cX6_end 5 (some .int) 2 0 0 G cy [zzO qm 5 [v0, v1, v2, v3, v4, v5, v6, v7, v8, v9, .int (nI (T_nb tA)), .ref qmB, .int (nI (T_np tA)), .ref qmO, .ref qmK, .int iEn, .int iTk, .int (T_sd tA), v18, v19, v20, v21, v22, v23, v24, v25, v26, .int iLv, .int iWs, v29, v30, v31, v32, v33, v34], zzG cy 3 qmB rB, zzI cy (rB 0) 4 (bkR tA 0), zzI cy (rB 1) 4 (bkR tA 1), zzI cy (rB 2) 4 (bkR tA 2), zzI cy (rB 3) 4 (bkR tA 3), zzI cy (rB 4) 4 (bkR tA 4), zzI cy (rB 5) 4 (bkR tA 5), zzI cy (rB 6) 4 (bkR tA 6), zzI cy (rB 7) 4 (bkR tA 7), zzG cy 3 qmO rO, zzI cy (rO 0) 5 (onR tA 0), zzI cy (rO 1) 5 (onR tA 1), zzI cy (rO 2) 5 (onR tA 2), zzI cy (rO 3) 5 (onR tA 3), zzI cy (rO 4) 5 (onR tA 4), zzI cy (rO 5) 5 (onR tA 5), zzI cy (rO 6) 5 (onR tA 6), zzI cy (rO 7) 5 (onR tA 7), zzG cy 3 qmK rK, zzI cy (rK 0) 8 (T_kn tA 0), zzI cy (rK 1) 8 (T_kn tA 1), zzI cy (rK 2) 8 (T_kn tA 2), zzI cy (rK 3) 8 (T_kn tA 3), zzI cy (rK 4) 8 (T_kn tA 4), zzI cy (rK 5) 8 (T_kn tA 5), zzI cy (rK 6) 8 (T_kn tA 6), zzI cy (rK 7) 8 (T_kn tA 7)] sz [.ref qm] (Wi G (fun r u => ∃ (tX : TA) (iX : Int32), u = [zzO qm 5 [v0, v1, v2, v3, v4, v5, v6, v7, v8, v9, .int (nI (T_nb tX)), .ref qmB, .int (nI (T_np tX)), .ref qmO, .ref qmK, .int iX, .int iTk, .int (T_sd tX), v18, v19, v20, v21, v22, v23, v24, v25, v26, .int iLv, .int iWs, v29, v30, v31, v32, v33, v34], zzG cy 3 qmB rB, zzI cy (rB 0) 4 (bkR tX 0), zzI cy (rB 1) 4 (bkR tX 1), zzI cy (rB 2) 4 (bkR tX 2), zzI cy (rB 3) 4 (bkR tX 3), zzI cy (rB 4) 4 (bkR tX 4), zzI cy (rB 5) 4 (bkR tX 5), zzI cy (rB 6) 4 (bkR tX 6), zzI cy (rB 7) 4 (bkR tX 7), zzG cy 3 qmO rO, zzI cy (rO 0) 5 (onR tX 0), zzI cy (rO 1) 5 (onR tX 1), zzI cy (rO 2) 5 (onR tX 2), zzI cy (rO 3) 5 (onR tX 3), zzI cy (rO 4) 5 (onR tX 4), zzI cy (rO 5) 5 (onR tX 5), zzI cy (rO 6) 5 (onR tX 6), zzI cy (rO 7) 5 (onR tX 7), zzG cy 3 qmK rK, zzI cy (rK 0) 8 (T_kn tX 0), zzI cy (rK 1) 8 (T_kn tX 1), zzI cy (rK 2) 8 (T_kn tX 2), zzI cy (rK 3) 8 (T_kn tX 3), zzI cy (rK 4) 8 (T_kn tX 4), zzI cy (rK 5) 8 (T_kn tX 5), zzI cy (rK 6) 8 (T_kn tX 6), zzI cy (rK 7) 8 (T_kn tX 7)] ∧ (TI tX ∧ T_nb tX = T_nb tA ∧ T_np tX = T_np tA) ∧ (tX = zey tA ∧ r = enA tA) ∧ (True))) := by
  refine enW RX6 (by decide) rfl (Nat.le_of_ble_eq_true rfl) (fun p e s m below meth c ls A hx hb hml hown hts hr hlocks hP hN hl hin hD hA hS => ?_)
  have hin : meth.name = _ := hin
  have hK := hN.1
  replace hl : lv_has ls 5 [(0, .ref qm)] := hl
  refine lv_iconst (v := 0) hx hb dX6_end_0 (by decide) ?_
  refine lv_istore_n (lv' := [(1, .int 0), (0, .ref qm)]) hx hb dX6_end_1 rfl hl (by decide) rfl (fun ls => ?_)
  clear hl
  intro hl
  refine lv_iconst (v := 0) hx hb dX6_end_2 (by decide) ?_
  refine lv_istore_n (lv' := [(2, .int 0), (1, .int 0), (0, .ref qm)]) hx hb dX6_end_3 rfl hl (by decide) rfl (fun ls => ?_)
  clear hl
  intro hl
  have lp_1 : ∀ (n_2 : Nat) (j_4 : Nat) (tJ_5 : TA) (xG_6 : Int32), 8 - j_4 < n_2 → j_4 ≤ T_np tA → TI tJ_5 ∧ T_nb tJ_5 = T_nb tA ∧ T_np tJ_5 = T_np tA → tJ_5 = eyF (zthere tA) tA j_4 → xG_6 = wsum (fun p => b01 (egB tA p)) j_4 → ∀ (H : Heap) (locs : List Loc) (ls : Array Slot), va_P G CL [zzO qm 5 [v0, v1, v2, v3, v4, v5, v6, v7, v8, v9, .int (nI (T_nb tJ_5)), .ref qmB, .int (nI (T_np tJ_5)), .ref qmO, .ref qmK, .int iEn, .int iTk, .int (T_sd tJ_5), v18, v19, v20, v21, v22, v23, v24, v25, v26, .int iLv, .int iWs, v29, v30, v31, v32, v33, v34], zzG cy 3 qmB rB, zzI cy (rB 0) 4 (bkR tJ_5 0), zzI cy (rB 1) 4 (bkR tJ_5 1), zzI cy (rB 2) 4 (bkR tJ_5 2), zzI cy (rB 3) 4 (bkR tJ_5 3), zzI cy (rB 4) 4 (bkR tJ_5 4), zzI cy (rB 5) 4 (bkR tJ_5 5), zzI cy (rB 6) 4 (bkR tJ_5 6), zzI cy (rB 7) 4 (bkR tJ_5 7), zzG cy 3 qmO rO, zzI cy (rO 0) 5 (onR tJ_5 0), zzI cy (rO 1) 5 (onR tJ_5 1), zzI cy (rO 2) 5 (onR tJ_5 2), zzI cy (rO 3) 5 (onR tJ_5 3), zzI cy (rO 4) 5 (onR tJ_5 4), zzI cy (rO 5) 5 (onR tJ_5 5), zzI cy (rO 6) 5 (onR tJ_5 6), zzI cy (rO 7) 5 (onR tJ_5 7), zzG cy 3 qmK rK, zzI cy (rK 0) 8 (T_kn tJ_5 0), zzI cy (rK 1) 8 (T_kn tJ_5 1), zzI cy (rK 2) 8 (T_kn tJ_5 2), zzI cy (rK 3) 8 (T_kn tJ_5 3), zzI cy (rK 4) 8 (T_kn tJ_5 4), zzI cy (rK 5) 8 (T_kn tJ_5 5), zzI cy (rK 6) 8 (T_kn tJ_5 6), zzI cy (rK 7) 8 (T_kn tJ_5 7)] H → va_D A [zzO qm 5 [v0, v1, v2, v3, v4, v5, v6, v7, v8, v9, .int (nI (T_nb tJ_5)), .ref qmB, .int (nI (T_np tJ_5)), .ref qmO, .ref qmK, .int iEn, .int iTk, .int (T_sd tJ_5), v18, v19, v20, v21, v22, v23, v24, v25, v26, .int iLv, .int iWs, v29, v30, v31, v32, v33, v34], zzG cy 3 qmB rB, zzI cy (rB 0) 4 (bkR tJ_5 0), zzI cy (rB 1) 4 (bkR tJ_5 1), zzI cy (rB 2) 4 (bkR tJ_5 2), zzI cy (rB 3) 4 (bkR tJ_5 3), zzI cy (rB 4) 4 (bkR tJ_5 4), zzI cy (rB 5) 4 (bkR tJ_5 5), zzI cy (rB 6) 4 (bkR tJ_5 6), zzI cy (rB 7) 4 (bkR tJ_5 7), zzG cy 3 qmO rO, zzI cy (rO 0) 5 (onR tJ_5 0), zzI cy (rO 1) 5 (onR tJ_5 1), zzI cy (rO 2) 5 (onR tJ_5 2), zzI cy (rO 3) 5 (onR tJ_5 3), zzI cy (rO 4) 5 (onR tJ_5 4), zzI cy (rO 5) 5 (onR tJ_5 5), zzI cy (rO 6) 5 (onR tJ_5 6), zzI cy (rO 7) 5 (onR tJ_5 7), zzG cy 3 qmK rK, zzI cy (rK 0) 8 (T_kn tJ_5 0), zzI cy (rK 1) 8 (T_kn tJ_5 1), zzI cy (rK 2) 8 (T_kn tJ_5 2), zzI cy (rK 3) 8 (T_kn tJ_5 3), zzI cy (rK 4) 8 (T_kn tJ_5 4), zzI cy (rK 5) 8 (T_kn tJ_5 5), zzI cy (rK 6) 8 (T_kn tJ_5 6), zzI cy (rK 7) 8 (T_kn tJ_5 7)] → va_S A s.heap H locs → lv_has ls 5 [(2, .int (nI j_4)), (1, .int xG_6), (0, .ref qm)] → W p l e (Rm 2 0 0) s m (List.toArray (α := Value) [.ref qm]) below meth c H locs 0 0 (MQ below ((Wi G (fun r u => ∃ (tX : TA) (iX : Int32), u = [zzO qm 5 [v0, v1, v2, v3, v4, v5, v6, v7, v8, v9, .int (nI (T_nb tX)), .ref qmB, .int (nI (T_np tX)), .ref qmO, .ref qmK, .int iX, .int iTk, .int (T_sd tX), v18, v19, v20, v21, v22, v23, v24, v25, v26, .int iLv, .int iWs, v29, v30, v31, v32, v33, v34], zzG cy 3 qmB rB, zzI cy (rB 0) 4 (bkR tX 0), zzI cy (rB 1) 4 (bkR tX 1), zzI cy (rB 2) 4 (bkR tX 2), zzI cy (rB 3) 4 (bkR tX 3), zzI cy (rB 4) 4 (bkR tX 4), zzI cy (rB 5) 4 (bkR tX 5), zzI cy (rB 6) 4 (bkR tX 6), zzI cy (rB 7) 4 (bkR tX 7), zzG cy 3 qmO rO, zzI cy (rO 0) 5 (onR tX 0), zzI cy (rO 1) 5 (onR tX 1), zzI cy (rO 2) 5 (onR tX 2), zzI cy (rO 3) 5 (onR tX 3), zzI cy (rO 4) 5 (onR tX 4), zzI cy (rO 5) 5 (onR tX 5), zzI cy (rO 6) 5 (onR tX 6), zzI cy (rO 7) 5 (onR tX 7), zzG cy 3 qmK rK, zzI cy (rK 0) 8 (T_kn tX 0), zzI cy (rK 1) 8 (T_kn tX 1), zzI cy (rK 2) 8 (T_kn tX 2), zzI cy (rK 3) 8 (T_kn tX 3), zzI cy (rK 4) 8 (T_kn tX 4), zzI cy (rK 5) 8 (T_kn tX 5), zzI cy (rK 6) 8 (T_kn tX 6), zzI cy (rK 7) 8 (T_kn tX 7)] ∧ (TI tX ∧ T_nb tX = T_nb tA ∧ T_np tX = T_np tA) ∧ (tX = zey tA ∧ r = enA tA) ∧ (True))) A) (List.toArray (α := Value) [.ref qm]) s 0 0 A) (F0 m 4 ls []) := by
    intro n_2
    induction n_2 with
    | zero => intro j_4 tJ_5 xG_6 hm9; exact absurd hm9 (Nat.not_lt_zero _)
    | succ n_2 ih_3 =>
      intro j_4 tJ_5 xG_6 hm_11 hj_7 hT_8 hE_9 hG_10 H locs ls hP hD hS hl
      refine lv_iload_n hx hb dX6_end_4 rfl (lv_at hl 0 rfl) ?_
      refine lv_aload_n hx hb dX6_end_5 rfl (lv_at hl 2 rfl) ?_
      refine va_get (D := G) (ci := 5) (v := .int (nI (T_np tJ_5))) (C := RX6) (T := TX6) (N := 35) hx hb hts iX_X6 hown hK hP 0 rfl rfl 12 (by decide) (hts _ m_t862) (fun _ h9 => h9) rfl dX6_end_6 ?_
      refine lv_icmp_ge (tgt := 145) hx hb dX6_end_9 (by decide) (fun c_12 => ?_) (fun c_12 => ?_)
      · have hlt_13e : T_np tJ_5 = T_np tA := hT_8.2.2
        have hlt_13 : j_4 = T_np tA := Nat.le_antisymm (by omega) (by rw [hlt_13e] at c_12; exact lp_ge rfl rfl (by omega) (by omega) c_12)
        obtain ⟨hlt_13i, hlt_13b, hlt_13p⟩ := id hT_8
        refine lv_aload_n hx hb dX6_end_145 rfl (lv_at hl 2 rfl) ?_
        refine lv_dup hx hb dX6_end_146 rfl ?_
        refine va_get (D := G) (ci := 5) (v := .int iEn) (C := RX6) (T := TX6) (N := 35) hx hb hts iX_X6 hown hK hP 0 rfl rfl 15 (by decide) (hts _ m_t865) (fun _ h9 => h9) rfl dX6_end_147 ?_
        refine lv_iconst (v := 1) hx hb dX6_end_150 (by decide) ?_
        refine lv_iadd hx hb dX6_end_151 ?_
        refine va_put (D := G) (ci := 5) (v := .int (iEn + 1)) (ty := .int) (C := RX6) (T := TX6) (N := 35) hx hb hts iX_X6 tyX6 tyX6_ok nmX6 hown hK hP hD hS 0 rfl rfl 15 (by decide) (hts _ m_t865) (fun _ h9 => h9) rfl (by decide +kernel) rfl rfl (Nat.le_of_ble_eq_true rfl) dX6_end_152 (fun H locs => ?_)
        clear hP hD hS
        intro hP hD hS
        have hPD := pd_as [zzO qm 5 [v0, v1, v2, v3, v4, v5, v6, v7, v8, v9, .int (nI (T_nb tJ_5)), .ref qmB, .int (nI (T_np tJ_5)), .ref qmO, .ref qmK, .int (iEn + 1), .int iTk, .int (T_sd tJ_5), v18, v19, v20, v21, v22, v23, v24, v25, v26, .int iLv, .int iWs, v29, v30, v31, v32, v33, v34], zzG cy 3 qmB rB, zzI cy (rB 0) 4 (bkR tJ_5 0), zzI cy (rB 1) 4 (bkR tJ_5 1), zzI cy (rB 2) 4 (bkR tJ_5 2), zzI cy (rB 3) 4 (bkR tJ_5 3), zzI cy (rB 4) 4 (bkR tJ_5 4), zzI cy (rB 5) 4 (bkR tJ_5 5), zzI cy (rB 6) 4 (bkR tJ_5 6), zzI cy (rB 7) 4 (bkR tJ_5 7), zzG cy 3 qmO rO, zzI cy (rO 0) 5 (onR tJ_5 0), zzI cy (rO 1) 5 (onR tJ_5 1), zzI cy (rO 2) 5 (onR tJ_5 2), zzI cy (rO 3) 5 (onR tJ_5 3), zzI cy (rO 4) 5 (onR tJ_5 4), zzI cy (rO 5) 5 (onR tJ_5 5), zzI cy (rO 6) 5 (onR tJ_5 6), zzI cy (rO 7) 5 (onR tJ_5 7), zzG cy 3 qmK rK, zzI cy (rK 0) 8 (T_kn tJ_5 0), zzI cy (rK 1) 8 (T_kn tJ_5 1), zzI cy (rK 2) 8 (T_kn tJ_5 2), zzI cy (rK 3) 8 (T_kn tJ_5 3), zzI cy (rK 4) 8 (T_kn tJ_5 4), zzI cy (rK 5) 8 (T_kn tJ_5 5), zzI cy (rK 6) 8 (T_kn tJ_5 6), zzI cy (rK 7) 8 (T_kn tJ_5 7)] hP hD rfl
        clear hP hD
        obtain ⟨hP, hD⟩ := hPD
        refine lv_iload_n hx hb dX6_end_155 rfl (lv_at hl 1 rfl) ?_
        exact endW (u := [zzO qm 5 [v0, v1, v2, v3, v4, v5, v6, v7, v8, v9, .int (nI (T_nb tJ_5)), .ref qmB, .int (nI (T_np tJ_5)), .ref qmO, .ref qmK, .int (iEn + 1), .int iTk, .int (T_sd tJ_5), v18, v19, v20, v21, v22, v23, v24, v25, v26, .int iLv, .int iWs, v29, v30, v31, v32, v33, v34], zzG cy 3 qmB rB, zzI cy (rB 0) 4 (bkR tJ_5 0), zzI cy (rB 1) 4 (bkR tJ_5 1), zzI cy (rB 2) 4 (bkR tJ_5 2), zzI cy (rB 3) 4 (bkR tJ_5 3), zzI cy (rB 4) 4 (bkR tJ_5 4), zzI cy (rB 5) 4 (bkR tJ_5 5), zzI cy (rB 6) 4 (bkR tJ_5 6), zzI cy (rB 7) 4 (bkR tJ_5 7), zzG cy 3 qmO rO, zzI cy (rO 0) 5 (onR tJ_5 0), zzI cy (rO 1) 5 (onR tJ_5 1), zzI cy (rO 2) 5 (onR tJ_5 2), zzI cy (rO 3) 5 (onR tJ_5 3), zzI cy (rO 4) 5 (onR tJ_5 4), zzI cy (rO 5) 5 (onR tJ_5 5), zzI cy (rO 6) 5 (onR tJ_5 6), zzI cy (rO 7) 5 (onR tJ_5 7), zzG cy 3 qmK rK, zzI cy (rK 0) 8 (T_kn tJ_5 0), zzI cy (rK 1) 8 (T_kn tJ_5 1), zzI cy (rK 2) 8 (T_kn tJ_5 2), zzI cy (rK 3) 8 (T_kn tJ_5 3), zzI cy (rK 4) 8 (T_kn tJ_5 4), zzI cy (rK 5) 8 (T_kn tJ_5 5), zzI cy (rK 6) 8 (T_kn tJ_5 6), zzI cy (rK 7) 8 (T_kn tJ_5 7)]) hx hb hr hlocks rfl (hP.sub [0, 1, 2, 3, 4, 5, 6, 7, 8, 9, 10, 11, 12, 13, 14, 15, 16, 17, 18, 19, 20, 21, 22, 23, 24, 25, 26, 27] rfl) (hD.sub [0, 1, 2, 3, 4, 5, 6, 7, 8, 9, 10, 11, 12, 13, 14, 15, 16, 17, 18, 19, 20, 21, 22, 23, 24, 25, 26, 27] (by decide +kernel) rfl) hS ⟨tJ_5, iEn + 1, rfl, hT_8, ⟨(by have h9 := hE_9; rw [hlt_13] at h9; exact h9), (by have h9 := hG_10; rw [hlt_13] at h9; exact h9)⟩, trivial⟩ dX6_end_156
      · have hlt_14e : T_np tJ_5 = T_np tA := hT_8.2.2
        have hlt_14 : j_4 < T_np tA := by rw [hlt_14e] at c_12; exact lp_lt rfl rfl (by omega) (by omega) c_12
        obtain ⟨hlt_14i, hlt_14b, hlt_14p⟩ := id hT_8
        refine lv_aload_n hx hb dX6_end_12 rfl (lv_at hl 2 rfl) ?_
        refine lv_iload_n hx hb dX6_end_13 rfl (lv_at hl 0 rfl) ?_
        refine kRi (rV (As := [.int (nI j_4)]) (rest := []) (b := qm) ⟨hx, hb, hml, hown, hts⟩ (c_X6_isThere l G cy qm v0 v1 v2 v3 v4 v5 v6 v7 v8 v9 tJ_5 qmB qmO qmK iEn iTk v18 v19 v20 v21 v22 v23 v24 v25 v26 iLv iWs v29 v30 v31 v32 v33 v34 rO j_4 (by omega)) L_X6_81 (preRV (q := (RX6, TX6, 35)) hN hP [0, 10, 11, 12, 13, 14, 15, 16, 17, 18] rfl 0 5 rfl rfl) rfl ⟨Nat.le_of_ble_eq_true rfl, Nat.le_of_ble_eq_true rfl⟩ hl.1 (Nat.le_of_ble_eq_true rfl) dX6_end_14 ⟨Nat.le_of_ble_eq_true rfl, Nat.le_of_ble_eq_true rfl⟩) (fun r_15 h_16 => ?_)
        rcases h_16 with ⟨rfl, h_17⟩ | ⟨rfl, h_17⟩
        · refine lv_if_eq (tgt := 139) hx hb dX6_end_17 (by decide) (fun h9 => absurd h9 (by decide)) (fun _ => ?_)
          refine lv_aload_n hx hb dX6_end_20 rfl (lv_at hl 2 rfl) ?_
          refine va_get (D := G) (ci := 5) (v := .ref qmO) (C := RX6) (T := TX6) (N := 35) hx hb hts iX_X6 hown hK hP 0 rfl rfl 13 (by decide) (hts _ m_t863) (fun _ h9 => h9) rfl dX6_end_21 ?_
          refine lv_iload_n hx hb dX6_end_24 rfl (lv_at hl 0 rfl) ?_
          refine va_alda hx hb hK hP 10 3 rfl rfl (in8 (by omega)) dX6_end_25 ?_
          refine lv_setv (v := .ref (rO j_4)) (g_ref (by omega)) ?_
          refine lv_iconst (v := 0) hx hb dX6_end_26 (by decide) ?_
          refine lv_dup2_11 hx hb dX6_end_27 rfl rfl ?_
          refine va_iald hx hb hK hP (11 + j_4) 0 (sg8 (n0 := 11) (f := (fun j => zzI cy (rO j) 5 (onR tJ_5 j))) rfl rfl rfl rfl rfl rfl rfl rfl j_4 (by omega)) rfl (in_c rfl) dX6_end_28 ?_
          refine lv_seti (v := T_ag tJ_5 j_4) (on_0 _ _) ?_
          refine lv_iconst (v := 1) hx hb dX6_end_29 (by decide) ?_
          refine lv_iadd hx hb dX6_end_30 ?_
          refine va_iast hx hb hK hP hD hS (11 + j_4) 0 ((sg8 (n0 := 11) (f := (fun j => zzI cy (rO j) 5 (onR tJ_5 j))) rfl rfl rfl rfl rfl rfl rfl rfl) j_4 (by omega)) rfl (in_c rfl) dX6_end_31 (fun H locs => ?_)
          clear hP hD hS
          intro hP hD hS
          have hPD := st8PD (ws' := [zzO qm 5 [v0, v1, v2, v3, v4, v5, v6, v7, v8, v9, .int (nI (T_nb (T_setag tJ_5 (upd (T_ag tJ_5) j_4 ((T_ag tJ_5 j_4) + 1))))), .ref qmB, .int (nI (T_np (T_setag tJ_5 (upd (T_ag tJ_5) j_4 ((T_ag tJ_5 j_4) + 1))))), .ref qmO, .ref qmK, .int iEn, .int iTk, .int (T_sd (T_setag tJ_5 (upd (T_ag tJ_5) j_4 ((T_ag tJ_5 j_4) + 1)))), v18, v19, v20, v21, v22, v23, v24, v25, v26, .int iLv, .int iWs, v29, v30, v31, v32, v33, v34], zzG cy 3 qmB rB, zzI cy (rB 0) 4 (bkR (T_setag tJ_5 (upd (T_ag tJ_5) j_4 ((T_ag tJ_5 j_4) + 1))) 0), zzI cy (rB 1) 4 (bkR (T_setag tJ_5 (upd (T_ag tJ_5) j_4 ((T_ag tJ_5 j_4) + 1))) 1), zzI cy (rB 2) 4 (bkR (T_setag tJ_5 (upd (T_ag tJ_5) j_4 ((T_ag tJ_5 j_4) + 1))) 2), zzI cy (rB 3) 4 (bkR (T_setag tJ_5 (upd (T_ag tJ_5) j_4 ((T_ag tJ_5 j_4) + 1))) 3), zzI cy (rB 4) 4 (bkR (T_setag tJ_5 (upd (T_ag tJ_5) j_4 ((T_ag tJ_5 j_4) + 1))) 4), zzI cy (rB 5) 4 (bkR (T_setag tJ_5 (upd (T_ag tJ_5) j_4 ((T_ag tJ_5 j_4) + 1))) 5), zzI cy (rB 6) 4 (bkR (T_setag tJ_5 (upd (T_ag tJ_5) j_4 ((T_ag tJ_5 j_4) + 1))) 6), zzI cy (rB 7) 4 (bkR (T_setag tJ_5 (upd (T_ag tJ_5) j_4 ((T_ag tJ_5 j_4) + 1))) 7), zzG cy 3 qmO rO, zzI cy (rO 0) 5 (onR (T_setag tJ_5 (upd (T_ag tJ_5) j_4 ((T_ag tJ_5 j_4) + 1))) 0), zzI cy (rO 1) 5 (onR (T_setag tJ_5 (upd (T_ag tJ_5) j_4 ((T_ag tJ_5 j_4) + 1))) 1), zzI cy (rO 2) 5 (onR (T_setag tJ_5 (upd (T_ag tJ_5) j_4 ((T_ag tJ_5 j_4) + 1))) 2), zzI cy (rO 3) 5 (onR (T_setag tJ_5 (upd (T_ag tJ_5) j_4 ((T_ag tJ_5 j_4) + 1))) 3), zzI cy (rO 4) 5 (onR (T_setag tJ_5 (upd (T_ag tJ_5) j_4 ((T_ag tJ_5 j_4) + 1))) 4), zzI cy (rO 5) 5 (onR (T_setag tJ_5 (upd (T_ag tJ_5) j_4 ((T_ag tJ_5 j_4) + 1))) 5), zzI cy (rO 6) 5 (onR (T_setag tJ_5 (upd (T_ag tJ_5) j_4 ((T_ag tJ_5 j_4) + 1))) 6), zzI cy (rO 7) 5 (onR (T_setag tJ_5 (upd (T_ag tJ_5) j_4 ((T_ag tJ_5 j_4) + 1))) 7), zzG cy 3 qmK rK, zzI cy (rK 0) 8 (T_kn (T_setag tJ_5 (upd (T_ag tJ_5) j_4 ((T_ag tJ_5 j_4) + 1))) 0), zzI cy (rK 1) 8 (T_kn (T_setag tJ_5 (upd (T_ag tJ_5) j_4 ((T_ag tJ_5 j_4) + 1))) 1), zzI cy (rK 2) 8 (T_kn (T_setag tJ_5 (upd (T_ag tJ_5) j_4 ((T_ag tJ_5 j_4) + 1))) 2), zzI cy (rK 3) 8 (T_kn (T_setag tJ_5 (upd (T_ag tJ_5) j_4 ((T_ag tJ_5 j_4) + 1))) 3), zzI cy (rK 4) 8 (T_kn (T_setag tJ_5 (upd (T_ag tJ_5) j_4 ((T_ag tJ_5 j_4) + 1))) 4), zzI cy (rK 5) 8 (T_kn (T_setag tJ_5 (upd (T_ag tJ_5) j_4 ((T_ag tJ_5 j_4) + 1))) 5), zzI cy (rK 6) 8 (T_kn (T_setag tJ_5 (upd (T_ag tJ_5) j_4 ((T_ag tJ_5 j_4) + 1))) 6), zzI cy (rK 7) 8 (T_kn (T_setag tJ_5 (upd (T_ag tJ_5) j_4 ((T_ag tJ_5 j_4) + 1))) 7)]) (k := j_4) (g1 := onR (T_setag tJ_5 (upd (T_ag tJ_5) j_4 ((T_ag tJ_5 j_4) + 1))) j_4) hP hD (sg8 (n0 := 11) (f := (fun j => zzI cy (rO j) 5 (onR tJ_5 j))) rfl rfl rfl rfl rfl rfl rfl rfl) (sg8 (n0 := 11) (f := (fun j => zzI cy (rO j) 5 (onR (T_setag tJ_5 (upd (T_ag tJ_5) j_4 ((T_ag tJ_5 j_4) + 1))) j))) rfl rfl rfl rfl rfl rfl rfl rfl) rfl rfl (by omega) rfl (fun i _ => (congrFun (on_u0 tJ_5 j_4 ((T_ag tJ_5 j_4) + 1)) i).symm) (fun j hj => congrArg (zzI cy (rO j) 5) (on_n0 tJ_5 j_4 ((T_ag tJ_5 j_4) + 1) hj))
          clear hP hD
          obtain ⟨hP, hD⟩ := hPD
          refine lv_aload_n hx hb dX6_end_32 rfl (lv_at hl 2 rfl) ?_
          refine va_get (D := G) (ci := 5) (v := .ref qmO) (C := RX6) (T := TX6) (N := 35) hx hb hts iX_X6 hown hK hP 0 rfl rfl 13 (by decide) (hts _ m_t863) (fun _ h9 => h9) rfl dX6_end_33 ?_
          refine lv_iload_n hx hb dX6_end_36 rfl (lv_at hl 0 rfl) ?_
          refine va_alda hx hb hK hP 10 3 rfl rfl (in8 (by omega)) dX6_end_37 ?_
          refine lv_setv (v := .ref (rO j_4)) (g_ref (by omega)) ?_
          refine lv_iconst (v := 0) hx hb dX6_end_38 (by decide) ?_
          refine va_iald hx hb hK hP (11 + j_4) 0 (sg8 (n0 := 11) (f := (fun j => zzI cy (rO j) 5 (onR (T_setag tJ_5 (upd (T_ag tJ_5) j_4 ((T_ag tJ_5 j_4) + 1))) j))) rfl rfl rfl rfl rfl rfl rfl rfl j_4 (by omega)) rfl (in_c rfl) dX6_end_39 ?_
          refine lv_seti (v := T_ag (T_setag tJ_5 (upd (T_ag tJ_5) j_4 ((T_ag tJ_5 j_4) + 1))) j_4) (on_0 _ _) ?_
          refine lv_bipush (v := 10) hx hb dX6_end_40 (by decide) ?_
          refine lv_icmp_ne (tgt := 49) hx hb dX6_end_42 (by decide) (fun c_19 => ?_) (fun c_19 => ?_)
          · refine lv_iconst (v := 0) hx hb dX6_end_49 (by decide) ?_
            refine lv_istore_n (lv' := [(3, .int 0), (2, .int (nI j_4)), (1, .int xG_6), (0, .ref qm)]) hx hb dX6_end_50 rfl hl (by decide) rfl (fun ls => ?_)
            clear hl
            intro hl
            refine lv_aload_n hx hb dX6_end_51 rfl (lv_at hl 3 rfl) ?_
            refine va_get (D := G) (ci := 5) (v := .ref qmO) (C := RX6) (T := TX6) (N := 35) hx hb hts iX_X6 hown hK hP 0 rfl rfl 13 (by decide) (hts _ m_t863) (fun _ h9 => h9) rfl dX6_end_52 ?_
            refine lv_iload_n hx hb dX6_end_55 rfl (lv_at hl 1 rfl) ?_
            refine va_alda hx hb hK hP 10 3 rfl rfl (in8 (by omega)) dX6_end_56 ?_
            refine lv_setv (v := .ref (rO j_4)) (g_ref (by omega)) ?_
            refine lv_iconst (v := 4) hx hb dX6_end_57 (by decide) ?_
            refine lv_iload_n hx hb dX6_end_58 rfl (lv_at hl 0 rfl) ?_
            refine lv_if_eq (tgt := 66) hx hb dX6_end_59 (by decide) (fun _ => ?_) (fun h9 => absurd (by decide) h9)
            refine lv_iconst (v := 0) hx hb dX6_end_66 (by decide) ?_
            refine va_iast hx hb hK hP hD hS (11 + j_4) 0 ((sg8 (n0 := 11) (f := (fun j => zzI cy (rO j) 5 (onR (T_setag tJ_5 (upd (T_ag tJ_5) j_4 ((T_ag tJ_5 j_4) + 1))) j))) rfl rfl rfl rfl rfl rfl rfl rfl) j_4 (by omega)) rfl (in_c rfl) dX6_end_67 (fun H locs => ?_)
            clear hP hD hS
            intro hP hD hS
            have hPD := st8PD (ws' := [zzO qm 5 [v0, v1, v2, v3, v4, v5, v6, v7, v8, v9, .int (nI (T_nb (T_setgn (T_setag tJ_5 (upd (T_ag tJ_5) j_4 ((T_ag tJ_5 j_4) + 1))) (updB (T_gn (T_setag tJ_5 (upd (T_ag tJ_5) j_4 ((T_ag tJ_5 j_4) + 1)))) j_4 false)))), .ref qmB, .int (nI (T_np (T_setgn (T_setag tJ_5 (upd (T_ag tJ_5) j_4 ((T_ag tJ_5 j_4) + 1))) (updB (T_gn (T_setag tJ_5 (upd (T_ag tJ_5) j_4 ((T_ag tJ_5 j_4) + 1)))) j_4 false)))), .ref qmO, .ref qmK, .int iEn, .int iTk, .int (T_sd (T_setgn (T_setag tJ_5 (upd (T_ag tJ_5) j_4 ((T_ag tJ_5 j_4) + 1))) (updB (T_gn (T_setag tJ_5 (upd (T_ag tJ_5) j_4 ((T_ag tJ_5 j_4) + 1)))) j_4 false))), v18, v19, v20, v21, v22, v23, v24, v25, v26, .int iLv, .int iWs, v29, v30, v31, v32, v33, v34], zzG cy 3 qmB rB, zzI cy (rB 0) 4 (bkR (T_setgn (T_setag tJ_5 (upd (T_ag tJ_5) j_4 ((T_ag tJ_5 j_4) + 1))) (updB (T_gn (T_setag tJ_5 (upd (T_ag tJ_5) j_4 ((T_ag tJ_5 j_4) + 1)))) j_4 false)) 0), zzI cy (rB 1) 4 (bkR (T_setgn (T_setag tJ_5 (upd (T_ag tJ_5) j_4 ((T_ag tJ_5 j_4) + 1))) (updB (T_gn (T_setag tJ_5 (upd (T_ag tJ_5) j_4 ((T_ag tJ_5 j_4) + 1)))) j_4 false)) 1), zzI cy (rB 2) 4 (bkR (T_setgn (T_setag tJ_5 (upd (T_ag tJ_5) j_4 ((T_ag tJ_5 j_4) + 1))) (updB (T_gn (T_setag tJ_5 (upd (T_ag tJ_5) j_4 ((T_ag tJ_5 j_4) + 1)))) j_4 false)) 2), zzI cy (rB 3) 4 (bkR (T_setgn (T_setag tJ_5 (upd (T_ag tJ_5) j_4 ((T_ag tJ_5 j_4) + 1))) (updB (T_gn (T_setag tJ_5 (upd (T_ag tJ_5) j_4 ((T_ag tJ_5 j_4) + 1)))) j_4 false)) 3), zzI cy (rB 4) 4 (bkR (T_setgn (T_setag tJ_5 (upd (T_ag tJ_5) j_4 ((T_ag tJ_5 j_4) + 1))) (updB (T_gn (T_setag tJ_5 (upd (T_ag tJ_5) j_4 ((T_ag tJ_5 j_4) + 1)))) j_4 false)) 4), zzI cy (rB 5) 4 (bkR (T_setgn (T_setag tJ_5 (upd (T_ag tJ_5) j_4 ((T_ag tJ_5 j_4) + 1))) (updB (T_gn (T_setag tJ_5 (upd (T_ag tJ_5) j_4 ((T_ag tJ_5 j_4) + 1)))) j_4 false)) 5), zzI cy (rB 6) 4 (bkR (T_setgn (T_setag tJ_5 (upd (T_ag tJ_5) j_4 ((T_ag tJ_5 j_4) + 1))) (updB (T_gn (T_setag tJ_5 (upd (T_ag tJ_5) j_4 ((T_ag tJ_5 j_4) + 1)))) j_4 false)) 6), zzI cy (rB 7) 4 (bkR (T_setgn (T_setag tJ_5 (upd (T_ag tJ_5) j_4 ((T_ag tJ_5 j_4) + 1))) (updB (T_gn (T_setag tJ_5 (upd (T_ag tJ_5) j_4 ((T_ag tJ_5 j_4) + 1)))) j_4 false)) 7), zzG cy 3 qmO rO, zzI cy (rO 0) 5 (onR (T_setgn (T_setag tJ_5 (upd (T_ag tJ_5) j_4 ((T_ag tJ_5 j_4) + 1))) (updB (T_gn (T_setag tJ_5 (upd (T_ag tJ_5) j_4 ((T_ag tJ_5 j_4) + 1)))) j_4 false)) 0), zzI cy (rO 1) 5 (onR (T_setgn (T_setag tJ_5 (upd (T_ag tJ_5) j_4 ((T_ag tJ_5 j_4) + 1))) (updB (T_gn (T_setag tJ_5 (upd (T_ag tJ_5) j_4 ((T_ag tJ_5 j_4) + 1)))) j_4 false)) 1), zzI cy (rO 2) 5 (onR (T_setgn (T_setag tJ_5 (upd (T_ag tJ_5) j_4 ((T_ag tJ_5 j_4) + 1))) (updB (T_gn (T_setag tJ_5 (upd (T_ag tJ_5) j_4 ((T_ag tJ_5 j_4) + 1)))) j_4 false)) 2), zzI cy (rO 3) 5 (onR (T_setgn (T_setag tJ_5 (upd (T_ag tJ_5) j_4 ((T_ag tJ_5 j_4) + 1))) (updB (T_gn (T_setag tJ_5 (upd (T_ag tJ_5) j_4 ((T_ag tJ_5 j_4) + 1)))) j_4 false)) 3), zzI cy (rO 4) 5 (onR (T_setgn (T_setag tJ_5 (upd (T_ag tJ_5) j_4 ((T_ag tJ_5 j_4) + 1))) (updB (T_gn (T_setag tJ_5 (upd (T_ag tJ_5) j_4 ((T_ag tJ_5 j_4) + 1)))) j_4 false)) 4), zzI cy (rO 5) 5 (onR (T_setgn (T_setag tJ_5 (upd (T_ag tJ_5) j_4 ((T_ag tJ_5 j_4) + 1))) (updB (T_gn (T_setag tJ_5 (upd (T_ag tJ_5) j_4 ((T_ag tJ_5 j_4) + 1)))) j_4 false)) 5), zzI cy (rO 6) 5 (onR (T_setgn (T_setag tJ_5 (upd (T_ag tJ_5) j_4 ((T_ag tJ_5 j_4) + 1))) (updB (T_gn (T_setag tJ_5 (upd (T_ag tJ_5) j_4 ((T_ag tJ_5 j_4) + 1)))) j_4 false)) 6), zzI cy (rO 7) 5 (onR (T_setgn (T_setag tJ_5 (upd (T_ag tJ_5) j_4 ((T_ag tJ_5 j_4) + 1))) (updB (T_gn (T_setag tJ_5 (upd (T_ag tJ_5) j_4 ((T_ag tJ_5 j_4) + 1)))) j_4 false)) 7), zzG cy 3 qmK rK, zzI cy (rK 0) 8 (T_kn (T_setgn (T_setag tJ_5 (upd (T_ag tJ_5) j_4 ((T_ag tJ_5 j_4) + 1))) (updB (T_gn (T_setag tJ_5 (upd (T_ag tJ_5) j_4 ((T_ag tJ_5 j_4) + 1)))) j_4 false)) 0), zzI cy (rK 1) 8 (T_kn (T_setgn (T_setag tJ_5 (upd (T_ag tJ_5) j_4 ((T_ag tJ_5 j_4) + 1))) (updB (T_gn (T_setag tJ_5 (upd (T_ag tJ_5) j_4 ((T_ag tJ_5 j_4) + 1)))) j_4 false)) 1), zzI cy (rK 2) 8 (T_kn (T_setgn (T_setag tJ_5 (upd (T_ag tJ_5) j_4 ((T_ag tJ_5 j_4) + 1))) (updB (T_gn (T_setag tJ_5 (upd (T_ag tJ_5) j_4 ((T_ag tJ_5 j_4) + 1)))) j_4 false)) 2), zzI cy (rK 3) 8 (T_kn (T_setgn (T_setag tJ_5 (upd (T_ag tJ_5) j_4 ((T_ag tJ_5 j_4) + 1))) (updB (T_gn (T_setag tJ_5 (upd (T_ag tJ_5) j_4 ((T_ag tJ_5 j_4) + 1)))) j_4 false)) 3), zzI cy (rK 4) 8 (T_kn (T_setgn (T_setag tJ_5 (upd (T_ag tJ_5) j_4 ((T_ag tJ_5 j_4) + 1))) (updB (T_gn (T_setag tJ_5 (upd (T_ag tJ_5) j_4 ((T_ag tJ_5 j_4) + 1)))) j_4 false)) 4), zzI cy (rK 5) 8 (T_kn (T_setgn (T_setag tJ_5 (upd (T_ag tJ_5) j_4 ((T_ag tJ_5 j_4) + 1))) (updB (T_gn (T_setag tJ_5 (upd (T_ag tJ_5) j_4 ((T_ag tJ_5 j_4) + 1)))) j_4 false)) 5), zzI cy (rK 6) 8 (T_kn (T_setgn (T_setag tJ_5 (upd (T_ag tJ_5) j_4 ((T_ag tJ_5 j_4) + 1))) (updB (T_gn (T_setag tJ_5 (upd (T_ag tJ_5) j_4 ((T_ag tJ_5 j_4) + 1)))) j_4 false)) 6), zzI cy (rK 7) 8 (T_kn (T_setgn (T_setag tJ_5 (upd (T_ag tJ_5) j_4 ((T_ag tJ_5 j_4) + 1))) (updB (T_gn (T_setag tJ_5 (upd (T_ag tJ_5) j_4 ((T_ag tJ_5 j_4) + 1)))) j_4 false)) 7)]) (k := j_4) (g1 := onR (T_setgn (T_setag tJ_5 (upd (T_ag tJ_5) j_4 ((T_ag tJ_5 j_4) + 1))) (updB (T_gn (T_setag tJ_5 (upd (T_ag tJ_5) j_4 ((T_ag tJ_5 j_4) + 1)))) j_4 false)) j_4) hP hD (sg8 (n0 := 11) (f := (fun j => zzI cy (rO j) 5 (onR (T_setag tJ_5 (upd (T_ag tJ_5) j_4 ((T_ag tJ_5 j_4) + 1))) j))) rfl rfl rfl rfl rfl rfl rfl rfl) (sg8 (n0 := 11) (f := (fun j => zzI cy (rO j) 5 (onR (T_setgn (T_setag tJ_5 (upd (T_ag tJ_5) j_4 ((T_ag tJ_5 j_4) + 1))) (updB (T_gn (T_setag tJ_5 (upd (T_ag tJ_5) j_4 ((T_ag tJ_5 j_4) + 1)))) j_4 false)) j))) rfl rfl rfl rfl rfl rfl rfl rfl) rfl rfl (by omega) rfl (on_w4 (T_setag tJ_5 (upd (T_ag tJ_5) j_4 ((T_ag tJ_5 j_4) + 1))) j_4 false) (fun j hj => congrArg (zzI cy (rO j) 5) (on_n4 (T_setag tJ_5 (upd (T_ag tJ_5) j_4 ((T_ag tJ_5 j_4) + 1))) j_4 false hj))
            clear hP hD
            obtain ⟨hP, hD⟩ := hPD
            refine lv_iload_n hx hb dX6_end_68 rfl (lv_at hl 2 rfl) ?_
            refine lv_iload_n hx hb dX6_end_69 rfl (lv_at hl 0 rfl) ?_
            refine lv_if_eq (tgt := 77) hx hb dX6_end_70 (by decide) (fun _ => ?_) (fun h9 => absurd (by decide) h9)
            refine lv_iconst (v := 0) hx hb dX6_end_77 (by decide) ?_
            refine lv_iadd hx hb dX6_end_78 ?_
            refine lv_istore_n (lv' := [(1, .int (xG_6 + 0)), (3, .int 0), (2, .int (nI j_4)), (0, .ref qm)]) hx hb dX6_end_79 rfl hl (by decide) rfl (fun ls => ?_)
            clear hl
            intro hl
            refine lv_iconst (v := 0) hx hb dX6_end_80 (by decide) ?_
            refine lv_istore (lv' := [(4, .int 0), (1, .int (xG_6 + 0)), (3, .int 0), (2, .int (nI j_4)), (0, .ref qm)]) hx hb dX6_end_81 hl (by decide) rfl (fun ls => ?_)
            clear hl
            intro hl
            have lp_22 : ∀ (n_23 : Nat) (m_25 : Nat) (tK_26 : TA), 8 - m_25 < n_23 → m_25 ≤ T_nb tA → TI tK_26 ∧ T_nb tK_26 = T_nb tA ∧ T_np tK_26 = T_np tA → tK_26 = T_setkn (T_setgn (T_setag tJ_5 (upd (T_ag tJ_5) j_4 ((T_ag tJ_5 j_4) + 1))) (updB (T_gn (T_setag tJ_5 (upd (T_ag tJ_5) j_4 ((T_ag tJ_5 j_4) + 1)))) j_4 false)) (fgK (T_kn tJ_5) j_4 (90 + T_me tJ_5 j_4) m_25) → ∀ (H : Heap) (locs : List Loc) (ls : Array Slot), va_P G CL [zzO qm 5 [v0, v1, v2, v3, v4, v5, v6, v7, v8, v9, .int (nI (T_nb tK_26)), .ref qmB, .int (nI (T_np tK_26)), .ref qmO, .ref qmK, .int iEn, .int iTk, .int (T_sd tK_26), v18, v19, v20, v21, v22, v23, v24, v25, v26, .int iLv, .int iWs, v29, v30, v31, v32, v33, v34], zzG cy 3 qmB rB, zzI cy (rB 0) 4 (bkR tK_26 0), zzI cy (rB 1) 4 (bkR tK_26 1), zzI cy (rB 2) 4 (bkR tK_26 2), zzI cy (rB 3) 4 (bkR tK_26 3), zzI cy (rB 4) 4 (bkR tK_26 4), zzI cy (rB 5) 4 (bkR tK_26 5), zzI cy (rB 6) 4 (bkR tK_26 6), zzI cy (rB 7) 4 (bkR tK_26 7), zzG cy 3 qmO rO, zzI cy (rO 0) 5 (onR tK_26 0), zzI cy (rO 1) 5 (onR tK_26 1), zzI cy (rO 2) 5 (onR tK_26 2), zzI cy (rO 3) 5 (onR tK_26 3), zzI cy (rO 4) 5 (onR tK_26 4), zzI cy (rO 5) 5 (onR tK_26 5), zzI cy (rO 6) 5 (onR tK_26 6), zzI cy (rO 7) 5 (onR tK_26 7), zzG cy 3 qmK rK, zzI cy (rK 0) 8 (T_kn tK_26 0), zzI cy (rK 1) 8 (T_kn tK_26 1), zzI cy (rK 2) 8 (T_kn tK_26 2), zzI cy (rK 3) 8 (T_kn tK_26 3), zzI cy (rK 4) 8 (T_kn tK_26 4), zzI cy (rK 5) 8 (T_kn tK_26 5), zzI cy (rK 6) 8 (T_kn tK_26 6), zzI cy (rK 7) 8 (T_kn tK_26 7)] H → va_D A [zzO qm 5 [v0, v1, v2, v3, v4, v5, v6, v7, v8, v9, .int (nI (T_nb tK_26)), .ref qmB, .int (nI (T_np tK_26)), .ref qmO, .ref qmK, .int iEn, .int iTk, .int (T_sd tK_26), v18, v19, v20, v21, v22, v23, v24, v25, v26, .int iLv, .int iWs, v29, v30, v31, v32, v33, v34], zzG cy 3 qmB rB, zzI cy (rB 0) 4 (bkR tK_26 0), zzI cy (rB 1) 4 (bkR tK_26 1), zzI cy (rB 2) 4 (bkR tK_26 2), zzI cy (rB 3) 4 (bkR tK_26 3), zzI cy (rB 4) 4 (bkR tK_26 4), zzI cy (rB 5) 4 (bkR tK_26 5), zzI cy (rB 6) 4 (bkR tK_26 6), zzI cy (rB 7) 4 (bkR tK_26 7), zzG cy 3 qmO rO, zzI cy (rO 0) 5 (onR tK_26 0), zzI cy (rO 1) 5 (onR tK_26 1), zzI cy (rO 2) 5 (onR tK_26 2), zzI cy (rO 3) 5 (onR tK_26 3), zzI cy (rO 4) 5 (onR tK_26 4), zzI cy (rO 5) 5 (onR tK_26 5), zzI cy (rO 6) 5 (onR tK_26 6), zzI cy (rO 7) 5 (onR tK_26 7), zzG cy 3 qmK rK, zzI cy (rK 0) 8 (T_kn tK_26 0), zzI cy (rK 1) 8 (T_kn tK_26 1), zzI cy (rK 2) 8 (T_kn tK_26 2), zzI cy (rK 3) 8 (T_kn tK_26 3), zzI cy (rK 4) 8 (T_kn tK_26 4), zzI cy (rK 5) 8 (T_kn tK_26 5), zzI cy (rK 6) 8 (T_kn tK_26 6), zzI cy (rK 7) 8 (T_kn tK_26 7)] → va_S A s.heap H locs → lv_has ls 5 [(4, .int (nI m_25)), (1, .int (xG_6 + 0)), (3, .int 0), (2, .int (nI j_4)), (0, .ref qm)] → W p l e (Rm 2 0 0) s m (List.toArray (α := Value) [.ref qm]) below meth c H locs 0 0 (MQ below ((Wi G (fun r u => ∃ (tX : TA) (iX : Int32), u = [zzO qm 5 [v0, v1, v2, v3, v4, v5, v6, v7, v8, v9, .int (nI (T_nb tX)), .ref qmB, .int (nI (T_np tX)), .ref qmO, .ref qmK, .int iX, .int iTk, .int (T_sd tX), v18, v19, v20, v21, v22, v23, v24, v25, v26, .int iLv, .int iWs, v29, v30, v31, v32, v33, v34], zzG cy 3 qmB rB, zzI cy (rB 0) 4 (bkR tX 0), zzI cy (rB 1) 4 (bkR tX 1), zzI cy (rB 2) 4 (bkR tX 2), zzI cy (rB 3) 4 (bkR tX 3), zzI cy (rB 4) 4 (bkR tX 4), zzI cy (rB 5) 4 (bkR tX 5), zzI cy (rB 6) 4 (bkR tX 6), zzI cy (rB 7) 4 (bkR tX 7), zzG cy 3 qmO rO, zzI cy (rO 0) 5 (onR tX 0), zzI cy (rO 1) 5 (onR tX 1), zzI cy (rO 2) 5 (onR tX 2), zzI cy (rO 3) 5 (onR tX 3), zzI cy (rO 4) 5 (onR tX 4), zzI cy (rO 5) 5 (onR tX 5), zzI cy (rO 6) 5 (onR tX 6), zzI cy (rO 7) 5 (onR tX 7), zzG cy 3 qmK rK, zzI cy (rK 0) 8 (T_kn tX 0), zzI cy (rK 1) 8 (T_kn tX 1), zzI cy (rK 2) 8 (T_kn tX 2), zzI cy (rK 3) 8 (T_kn tX 3), zzI cy (rK 4) 8 (T_kn tX 4), zzI cy (rK 5) 8 (T_kn tX 5), zzI cy (rK 6) 8 (T_kn tX 6), zzI cy (rK 7) 8 (T_kn tX 7)] ∧ (TI tX ∧ T_nb tX = T_nb tA ∧ T_np tX = T_np tA) ∧ (tX = zey tA ∧ r = enA tA) ∧ (True))) A) (List.toArray (α := Value) [.ref qm]) s 0 0 A) (F0 m 83 ls []) := by
              intro n_23
              induction n_23 with
              | zero => intro m_25 tK_26 hm9; exact absurd hm9 (Nat.not_lt_zero _)
              | succ n_23 ih_24 =>
                intro m_25 tK_26 hm_30 hm_30 hTK_28 hEK_29 H locs ls hP hD hS hl
                refine lv_iload hx hb dX6_end_83 (lv_at hl 0 rfl) ?_
                refine lv_aload_n hx hb dX6_end_85 rfl (lv_at hl 4 rfl) ?_
                refine va_get (D := G) (ci := 5) (v := .int (nI (T_nb tK_26))) (C := RX6) (T := TX6) (N := 35) hx hb hts iX_X6 hown hK hP 0 rfl rfl 10 (by decide) (hts _ m_t860) (fun _ h9 => h9) rfl dX6_end_86 ?_
                refine lv_icmp_ge (tgt := 139) hx hb dX6_end_89 (by decide) (fun c_31 => ?_) (fun c_31 => ?_)
                · have hlt_32e : T_nb tK_26 = T_nb tA := hTK_28.2.1
                  have hlt_32 : m_25 = T_nb tA := Nat.le_antisymm (by omega) (by rw [hlt_32e] at c_31; exact lp_ge rfl rfl (by omega) (by omega) c_31)
                  refine lv_iinc (v := nI (j_4 + 1)) (lv' := [(2, .int (nI (j_4 + 1))), (4, .int (nI m_25)), (1, .int (xG_6 + 0)), (3, .int 0), (0, .ref qm)]) hx hb dX6_end_139 hl (k := 3) rfl (nI_1 _) (by decide) rfl (fun ls => ?_)
                  clear hl
                  intro hl
                  refine lv_goto (tgt := 4) hx hb dX6_end_142 (by decide) ?_
                  exact ih_3 (j_4 + 1) tK_26 (xG_6 + 0) (by omega) (by omega) hTK_28 (ey_live hAG (by omega) (by omega) hE_9 h_17 (by have h9 := c_19; rw [ag_up] at h9; exact h9) (by rw [hEK_29, hlt_32, hT_8.2.1])) (en_live hE_9 h_17 (by have h9 := c_19; rw [ag_up] at h9; exact h9) hG_10) _ _ _ hP hD hS (lv_sub hl [0, 2, 4] rfl)
                · have hlt_33e : T_nb tK_26 = T_nb tA := hTK_28.2.1
                  have hlt_33 : m_25 < T_nb tA := by rw [hlt_33e] at c_31; exact lp_lt rfl rfl (by omega) (by omega) c_31
                  refine lv_aload_n hx hb dX6_end_92 rfl (lv_at hl 4 rfl) ?_
                  refine va_get (D := G) (ci := 5) (v := .ref qmK) (C := RX6) (T := TX6) (N := 35) hx hb hts iX_X6 hown hK hP 0 rfl rfl 14 (by decide) (hts _ m_t864) (fun _ h9 => h9) rfl dX6_end_93 ?_
                  refine lv_iload_n hx hb dX6_end_96 rfl (lv_at hl 3 rfl) ?_
                  refine va_alda hx hb hK hP 19 3 rfl rfl (in8 (by omega)) dX6_end_97 ?_
                  refine lv_setv (v := .ref (rK j_4)) (g_ref (by omega)) ?_
                  refine lv_iload hx hb dX6_end_98 (lv_at hl 0 rfl) ?_
                  refine lv_iload_n hx hb dX6_end_100 rfl (lv_at hl 2 rfl) ?_
                  refine lv_if_eq (tgt := 108) hx hb dX6_end_101 (by decide) (fun _ => ?_) (fun h9 => absurd (by decide) h9)
                  refine lv_aload_n hx hb dX6_end_108 rfl (lv_at hl 4 rfl) ?_
                  refine va_get (D := G) (ci := 5) (v := .ref qmK) (C := RX6) (T := TX6) (N := 35) hx hb hts iX_X6 hown hK hP 0 rfl rfl 14 (by decide) (hts _ m_t864) (fun _ h9 => h9) rfl dX6_end_109 ?_
                  refine lv_iload_n hx hb dX6_end_112 rfl (lv_at hl 3 rfl) ?_
                  refine va_alda hx hb hK hP 19 3 rfl rfl (in8 (by omega)) dX6_end_113 ?_
                  refine lv_setv (v := .ref (rK j_4)) (g_ref (by omega)) ?_
                  refine lv_iload hx hb dX6_end_114 (lv_at hl 0 rfl) ?_
                  refine va_iald hx hb hK hP (20 + j_4) 0 (sg8 (n0 := 20) (f := (fun j => zzI cy (rK j) 8 (T_kn tK_26 j))) rfl rfl rfl rfl rfl rfl rfl rfl j_4 (by omega)) rfl (vp_in_nI (by omega) (by omega)) dX6_end_116 ?_
                  refine lv_seti (v := T_kn tK_26 j_4 m_25) (congrArg (T_kn tK_26 j_4) (nI_clamp (by omega))) ?_
                  refine lv_bipush (v := 90) hx hb dX6_end_117 (by decide) ?_
                  refine lv_aload_n hx hb dX6_end_119 rfl (lv_at hl 4 rfl) ?_
                  refine va_get (D := G) (ci := 5) (v := .ref qmO) (C := RX6) (T := TX6) (N := 35) hx hb hts iX_X6 hown hK hP 0 rfl rfl 13 (by decide) (hts _ m_t863) (fun _ h9 => h9) rfl dX6_end_120 ?_
                  refine lv_iload_n hx hb dX6_end_123 rfl (lv_at hl 3 rfl) ?_
                  refine va_alda hx hb hK hP 10 3 rfl rfl (in8 (by omega)) dX6_end_124 ?_
                  refine lv_setv (v := .ref (rO j_4)) (g_ref (by omega)) ?_
                  refine lv_iconst (v := 2) hx hb dX6_end_125 (by decide) ?_
                  refine va_iald hx hb hK hP (11 + j_4) 0 (sg8 (n0 := 11) (f := (fun j => zzI cy (rO j) 5 (onR tK_26 j))) rfl rfl rfl rfl rfl rfl rfl rfl j_4 (by omega)) rfl (in_c rfl) dX6_end_126 ?_
                  refine lv_seti (v := T_me tK_26 j_4) (on_2' _ _) ?_
                  refine lv_iadd hx hb dX6_end_127 ?_
                  refine lv_imul hx hb dX6_end_128 ?_
                  refine lv_bipush (v := 100) hx hb dX6_end_129 (by decide) ?_
                  refine lv_idiv hx hb dX6_end_131 (by decide) ?_
                  refine va_iast hx hb hK hP hD hS (20 + j_4) 0 ((sg8 (n0 := 20) (f := (fun j => zzI cy (rK j) 8 (T_kn tK_26 j))) rfl rfl rfl rfl rfl rfl rfl rfl) j_4 (by omega)) rfl (vp_in_nI (by omega) (by omega)) dX6_end_132 (fun H locs => ?_)
                  clear hP hD hS
                  intro hP hD hS
                  rw [nI_clamp (n := m_25) (by omega)] at hP hD
                  have hPD := st8PD (ws' := [zzO qm 5 [v0, v1, v2, v3, v4, v5, v6, v7, v8, v9, .int (nI (T_nb (T_setkn tK_26 (updM (T_kn tK_26) j_4 m_25 (((T_kn tK_26 j_4 m_25) * (90 + (T_me tK_26 j_4))) / 100))))), .ref qmB, .int (nI (T_np (T_setkn tK_26 (updM (T_kn tK_26) j_4 m_25 (((T_kn tK_26 j_4 m_25) * (90 + (T_me tK_26 j_4))) / 100))))), .ref qmO, .ref qmK, .int iEn, .int iTk, .int (T_sd (T_setkn tK_26 (updM (T_kn tK_26) j_4 m_25 (((T_kn tK_26 j_4 m_25) * (90 + (T_me tK_26 j_4))) / 100)))), v18, v19, v20, v21, v22, v23, v24, v25, v26, .int iLv, .int iWs, v29, v30, v31, v32, v33, v34], zzG cy 3 qmB rB, zzI cy (rB 0) 4 (bkR (T_setkn tK_26 (updM (T_kn tK_26) j_4 m_25 (((T_kn tK_26 j_4 m_25) * (90 + (T_me tK_26 j_4))) / 100))) 0), zzI cy (rB 1) 4 (bkR (T_setkn tK_26 (updM (T_kn tK_26) j_4 m_25 (((T_kn tK_26 j_4 m_25) * (90 + (T_me tK_26 j_4))) / 100))) 1), zzI cy (rB 2) 4 (bkR (T_setkn tK_26 (updM (T_kn tK_26) j_4 m_25 (((T_kn tK_26 j_4 m_25) * (90 + (T_me tK_26 j_4))) / 100))) 2), zzI cy (rB 3) 4 (bkR (T_setkn tK_26 (updM (T_kn tK_26) j_4 m_25 (((T_kn tK_26 j_4 m_25) * (90 + (T_me tK_26 j_4))) / 100))) 3), zzI cy (rB 4) 4 (bkR (T_setkn tK_26 (updM (T_kn tK_26) j_4 m_25 (((T_kn tK_26 j_4 m_25) * (90 + (T_me tK_26 j_4))) / 100))) 4), zzI cy (rB 5) 4 (bkR (T_setkn tK_26 (updM (T_kn tK_26) j_4 m_25 (((T_kn tK_26 j_4 m_25) * (90 + (T_me tK_26 j_4))) / 100))) 5), zzI cy (rB 6) 4 (bkR (T_setkn tK_26 (updM (T_kn tK_26) j_4 m_25 (((T_kn tK_26 j_4 m_25) * (90 + (T_me tK_26 j_4))) / 100))) 6), zzI cy (rB 7) 4 (bkR (T_setkn tK_26 (updM (T_kn tK_26) j_4 m_25 (((T_kn tK_26 j_4 m_25) * (90 + (T_me tK_26 j_4))) / 100))) 7), zzG cy 3 qmO rO, zzI cy (rO 0) 5 (onR (T_setkn tK_26 (updM (T_kn tK_26) j_4 m_25 (((T_kn tK_26 j_4 m_25) * (90 + (T_me tK_26 j_4))) / 100))) 0), zzI cy (rO 1) 5 (onR (T_setkn tK_26 (updM (T_kn tK_26) j_4 m_25 (((T_kn tK_26 j_4 m_25) * (90 + (T_me tK_26 j_4))) / 100))) 1), zzI cy (rO 2) 5 (onR (T_setkn tK_26 (updM (T_kn tK_26) j_4 m_25 (((T_kn tK_26 j_4 m_25) * (90 + (T_me tK_26 j_4))) / 100))) 2), zzI cy (rO 3) 5 (onR (T_setkn tK_26 (updM (T_kn tK_26) j_4 m_25 (((T_kn tK_26 j_4 m_25) * (90 + (T_me tK_26 j_4))) / 100))) 3), zzI cy (rO 4) 5 (onR (T_setkn tK_26 (updM (T_kn tK_26) j_4 m_25 (((T_kn tK_26 j_4 m_25) * (90 + (T_me tK_26 j_4))) / 100))) 4), zzI cy (rO 5) 5 (onR (T_setkn tK_26 (updM (T_kn tK_26) j_4 m_25 (((T_kn tK_26 j_4 m_25) * (90 + (T_me tK_26 j_4))) / 100))) 5), zzI cy (rO 6) 5 (onR (T_setkn tK_26 (updM (T_kn tK_26) j_4 m_25 (((T_kn tK_26 j_4 m_25) * (90 + (T_me tK_26 j_4))) / 100))) 6), zzI cy (rO 7) 5 (onR (T_setkn tK_26 (updM (T_kn tK_26) j_4 m_25 (((T_kn tK_26 j_4 m_25) * (90 + (T_me tK_26 j_4))) / 100))) 7), zzG cy 3 qmK rK, zzI cy (rK 0) 8 (T_kn (T_setkn tK_26 (updM (T_kn tK_26) j_4 m_25 (((T_kn tK_26 j_4 m_25) * (90 + (T_me tK_26 j_4))) / 100))) 0), zzI cy (rK 1) 8 (T_kn (T_setkn tK_26 (updM (T_kn tK_26) j_4 m_25 (((T_kn tK_26 j_4 m_25) * (90 + (T_me tK_26 j_4))) / 100))) 1), zzI cy (rK 2) 8 (T_kn (T_setkn tK_26 (updM (T_kn tK_26) j_4 m_25 (((T_kn tK_26 j_4 m_25) * (90 + (T_me tK_26 j_4))) / 100))) 2), zzI cy (rK 3) 8 (T_kn (T_setkn tK_26 (updM (T_kn tK_26) j_4 m_25 (((T_kn tK_26 j_4 m_25) * (90 + (T_me tK_26 j_4))) / 100))) 3), zzI cy (rK 4) 8 (T_kn (T_setkn tK_26 (updM (T_kn tK_26) j_4 m_25 (((T_kn tK_26 j_4 m_25) * (90 + (T_me tK_26 j_4))) / 100))) 4), zzI cy (rK 5) 8 (T_kn (T_setkn tK_26 (updM (T_kn tK_26) j_4 m_25 (((T_kn tK_26 j_4 m_25) * (90 + (T_me tK_26 j_4))) / 100))) 5), zzI cy (rK 6) 8 (T_kn (T_setkn tK_26 (updM (T_kn tK_26) j_4 m_25 (((T_kn tK_26 j_4 m_25) * (90 + (T_me tK_26 j_4))) / 100))) 6), zzI cy (rK 7) 8 (T_kn (T_setkn tK_26 (updM (T_kn tK_26) j_4 m_25 (((T_kn tK_26 j_4 m_25) * (90 + (T_me tK_26 j_4))) / 100))) 7)]) (k := j_4) (g1 := T_kn (T_setkn tK_26 (updM (T_kn tK_26) j_4 m_25 (((T_kn tK_26 j_4 m_25) * (90 + (T_me tK_26 j_4))) / 100))) j_4) hP hD (sg8 (n0 := 20) (f := (fun j => zzI cy (rK j) 8 (T_kn tK_26 j))) rfl rfl rfl rfl rfl rfl rfl rfl) (sg8 (n0 := 20) (f := (fun j => zzI cy (rK j) 8 (T_kn (T_setkn tK_26 (updM (T_kn tK_26) j_4 m_25 (((T_kn tK_26 j_4 m_25) * (90 + (T_me tK_26 j_4))) / 100))) j))) rfl rfl rfl rfl rfl rfl rfl rfl) rfl rfl (by omega) rfl (fun i _ => (congrFun (kn_u tK_26 j_4 m_25 (((T_kn tK_26 j_4 m_25) * (90 + (T_me tK_26 j_4))) / 100)) i).symm) (fun j hj => congrArg (zzI cy (rK j) 8) (kn_n tK_26 j_4 m_25 (((T_kn tK_26 j_4 m_25) * (90 + (T_me tK_26 j_4))) / 100) hj))
                  clear hP hD
                  obtain ⟨hP, hD⟩ := hPD
                  refine lv_iinc (v := nI (m_25 + 1)) (lv' := [(4, .int (nI (m_25 + 1))), (1, .int (xG_6 + 0)), (3, .int 0), (2, .int (nI j_4)), (0, .ref qm)]) hx hb dX6_end_133 hl (k := 0) rfl (nI_1 _) (by decide) rfl (fun ls => ?_)
                  clear hl
                  intro hl
                  refine lv_goto (tgt := 83) hx hb dX6_end_136 (by decide) ?_
                  exact ih_24 (m_25 + 1) (T_setkn tK_26 (updM (T_kn tK_26) j_4 m_25 (((T_kn tK_26 j_4 m_25) * (90 + (T_me tK_26 j_4))) / 100))) (by omega) (by omega) (⟨TI_kn hTK_28.1 (r_fg (hTK_28.1.2.1 _ _) (hTK_28.1.2.2.2.2.1 _)), hTK_28.2⟩) (by rw [hEK_29]; rfl) _ _ _ hP hD hS (lv_sub hl [0, 1, 2, 3, 4] rfl)
            exact lp_22 ((8 - 0) + 1) 0 (T_setgn (T_setag tJ_5 (upd (T_ag tJ_5) j_4 ((T_ag tJ_5 j_4) + 1))) (updB (T_gn (T_setag tJ_5 (upd (T_ag tJ_5) j_4 ((T_ag tJ_5 j_4) + 1)))) j_4 false)) (Nat.lt_succ_self _) (Nat.zero_le _) (⟨hT_8.1, hT_8.2⟩) rfl _ _ ls hP hD hS (lv_sub hl [0, 1, 2, 3, 4] rfl)
          · refine lv_iconst (v := 1) hx hb dX6_end_45 (by decide) ?_
            refine lv_goto (tgt := 50) hx hb dX6_end_46 (by decide) ?_
            refine lv_istore_n (lv' := [(3, .int 1), (2, .int (nI j_4)), (1, .int xG_6), (0, .ref qm)]) hx hb dX6_end_50 rfl hl (by decide) rfl (fun ls => ?_)
            clear hl
            intro hl
            refine lv_aload_n hx hb dX6_end_51 rfl (lv_at hl 3 rfl) ?_
            refine va_get (D := G) (ci := 5) (v := .ref qmO) (C := RX6) (T := TX6) (N := 35) hx hb hts iX_X6 hown hK hP 0 rfl rfl 13 (by decide) (hts _ m_t863) (fun _ h9 => h9) rfl dX6_end_52 ?_
            refine lv_iload_n hx hb dX6_end_55 rfl (lv_at hl 1 rfl) ?_
            refine va_alda hx hb hK hP 10 3 rfl rfl (in8 (by omega)) dX6_end_56 ?_
            refine lv_setv (v := .ref (rO j_4)) (g_ref (by omega)) ?_
            refine lv_iconst (v := 4) hx hb dX6_end_57 (by decide) ?_
            refine lv_iload_n hx hb dX6_end_58 rfl (lv_at hl 0 rfl) ?_
            refine lv_if_eq (tgt := 66) hx hb dX6_end_59 (by decide) (fun h9 => absurd h9 (by decide)) (fun _ => ?_)
            refine lv_iconst (v := 1) hx hb dX6_end_62 (by decide) ?_
            refine lv_goto (tgt := 67) hx hb dX6_end_63 (by decide) ?_
            refine va_iast hx hb hK hP hD hS (11 + j_4) 0 ((sg8 (n0 := 11) (f := (fun j => zzI cy (rO j) 5 (onR (T_setag tJ_5 (upd (T_ag tJ_5) j_4 ((T_ag tJ_5 j_4) + 1))) j))) rfl rfl rfl rfl rfl rfl rfl rfl) j_4 (by omega)) rfl (in_c rfl) dX6_end_67 (fun H locs => ?_)
            clear hP hD hS
            intro hP hD hS
            have hPD := st8PD (ws' := [zzO qm 5 [v0, v1, v2, v3, v4, v5, v6, v7, v8, v9, .int (nI (T_nb (T_setgn (T_setag tJ_5 (upd (T_ag tJ_5) j_4 ((T_ag tJ_5 j_4) + 1))) (updB (T_gn (T_setag tJ_5 (upd (T_ag tJ_5) j_4 ((T_ag tJ_5 j_4) + 1)))) j_4 true)))), .ref qmB, .int (nI (T_np (T_setgn (T_setag tJ_5 (upd (T_ag tJ_5) j_4 ((T_ag tJ_5 j_4) + 1))) (updB (T_gn (T_setag tJ_5 (upd (T_ag tJ_5) j_4 ((T_ag tJ_5 j_4) + 1)))) j_4 true)))), .ref qmO, .ref qmK, .int iEn, .int iTk, .int (T_sd (T_setgn (T_setag tJ_5 (upd (T_ag tJ_5) j_4 ((T_ag tJ_5 j_4) + 1))) (updB (T_gn (T_setag tJ_5 (upd (T_ag tJ_5) j_4 ((T_ag tJ_5 j_4) + 1)))) j_4 true))), v18, v19, v20, v21, v22, v23, v24, v25, v26, .int iLv, .int iWs, v29, v30, v31, v32, v33, v34], zzG cy 3 qmB rB, zzI cy (rB 0) 4 (bkR (T_setgn (T_setag tJ_5 (upd (T_ag tJ_5) j_4 ((T_ag tJ_5 j_4) + 1))) (updB (T_gn (T_setag tJ_5 (upd (T_ag tJ_5) j_4 ((T_ag tJ_5 j_4) + 1)))) j_4 true)) 0), zzI cy (rB 1) 4 (bkR (T_setgn (T_setag tJ_5 (upd (T_ag tJ_5) j_4 ((T_ag tJ_5 j_4) + 1))) (updB (T_gn (T_setag tJ_5 (upd (T_ag tJ_5) j_4 ((T_ag tJ_5 j_4) + 1)))) j_4 true)) 1), zzI cy (rB 2) 4 (bkR (T_setgn (T_setag tJ_5 (upd (T_ag tJ_5) j_4 ((T_ag tJ_5 j_4) + 1))) (updB (T_gn (T_setag tJ_5 (upd (T_ag tJ_5) j_4 ((T_ag tJ_5 j_4) + 1)))) j_4 true)) 2), zzI cy (rB 3) 4 (bkR (T_setgn (T_setag tJ_5 (upd (T_ag tJ_5) j_4 ((T_ag tJ_5 j_4) + 1))) (updB (T_gn (T_setag tJ_5 (upd (T_ag tJ_5) j_4 ((T_ag tJ_5 j_4) + 1)))) j_4 true)) 3), zzI cy (rB 4) 4 (bkR (T_setgn (T_setag tJ_5 (upd (T_ag tJ_5) j_4 ((T_ag tJ_5 j_4) + 1))) (updB (T_gn (T_setag tJ_5 (upd (T_ag tJ_5) j_4 ((T_ag tJ_5 j_4) + 1)))) j_4 true)) 4), zzI cy (rB 5) 4 (bkR (T_setgn (T_setag tJ_5 (upd (T_ag tJ_5) j_4 ((T_ag tJ_5 j_4) + 1))) (updB (T_gn (T_setag tJ_5 (upd (T_ag tJ_5) j_4 ((T_ag tJ_5 j_4) + 1)))) j_4 true)) 5), zzI cy (rB 6) 4 (bkR (T_setgn (T_setag tJ_5 (upd (T_ag tJ_5) j_4 ((T_ag tJ_5 j_4) + 1))) (updB (T_gn (T_setag tJ_5 (upd (T_ag tJ_5) j_4 ((T_ag tJ_5 j_4) + 1)))) j_4 true)) 6), zzI cy (rB 7) 4 (bkR (T_setgn (T_setag tJ_5 (upd (T_ag tJ_5) j_4 ((T_ag tJ_5 j_4) + 1))) (updB (T_gn (T_setag tJ_5 (upd (T_ag tJ_5) j_4 ((T_ag tJ_5 j_4) + 1)))) j_4 true)) 7), zzG cy 3 qmO rO, zzI cy (rO 0) 5 (onR (T_setgn (T_setag tJ_5 (upd (T_ag tJ_5) j_4 ((T_ag tJ_5 j_4) + 1))) (updB (T_gn (T_setag tJ_5 (upd (T_ag tJ_5) j_4 ((T_ag tJ_5 j_4) + 1)))) j_4 true)) 0), zzI cy (rO 1) 5 (onR (T_setgn (T_setag tJ_5 (upd (T_ag tJ_5) j_4 ((T_ag tJ_5 j_4) + 1))) (updB (T_gn (T_setag tJ_5 (upd (T_ag tJ_5) j_4 ((T_ag tJ_5 j_4) + 1)))) j_4 true)) 1), zzI cy (rO 2) 5 (onR (T_setgn (T_setag tJ_5 (upd (T_ag tJ_5) j_4 ((T_ag tJ_5 j_4) + 1))) (updB (T_gn (T_setag tJ_5 (upd (T_ag tJ_5) j_4 ((T_ag tJ_5 j_4) + 1)))) j_4 true)) 2), zzI cy (rO 3) 5 (onR (T_setgn (T_setag tJ_5 (upd (T_ag tJ_5) j_4 ((T_ag tJ_5 j_4) + 1))) (updB (T_gn (T_setag tJ_5 (upd (T_ag tJ_5) j_4 ((T_ag tJ_5 j_4) + 1)))) j_4 true)) 3), zzI cy (rO 4) 5 (onR (T_setgn (T_setag tJ_5 (upd (T_ag tJ_5) j_4 ((T_ag tJ_5 j_4) + 1))) (updB (T_gn (T_setag tJ_5 (upd (T_ag tJ_5) j_4 ((T_ag tJ_5 j_4) + 1)))) j_4 true)) 4), zzI cy (rO 5) 5 (onR (T_setgn (T_setag tJ_5 (upd (T_ag tJ_5) j_4 ((T_ag tJ_5 j_4) + 1))) (updB (T_gn (T_setag tJ_5 (upd (T_ag tJ_5) j_4 ((T_ag tJ_5 j_4) + 1)))) j_4 true)) 5), zzI cy (rO 6) 5 (onR (T_setgn (T_setag tJ_5 (upd (T_ag tJ_5) j_4 ((T_ag tJ_5 j_4) + 1))) (updB (T_gn (T_setag tJ_5 (upd (T_ag tJ_5) j_4 ((T_ag tJ_5 j_4) + 1)))) j_4 true)) 6), zzI cy (rO 7) 5 (onR (T_setgn (T_setag tJ_5 (upd (T_ag tJ_5) j_4 ((T_ag tJ_5 j_4) + 1))) (updB (T_gn (T_setag tJ_5 (upd (T_ag tJ_5) j_4 ((T_ag tJ_5 j_4) + 1)))) j_4 true)) 7), zzG cy 3 qmK rK, zzI cy (rK 0) 8 (T_kn (T_setgn (T_setag tJ_5 (upd (T_ag tJ_5) j_4 ((T_ag tJ_5 j_4) + 1))) (updB (T_gn (T_setag tJ_5 (upd (T_ag tJ_5) j_4 ((T_ag tJ_5 j_4) + 1)))) j_4 true)) 0), zzI cy (rK 1) 8 (T_kn (T_setgn (T_setag tJ_5 (upd (T_ag tJ_5) j_4 ((T_ag tJ_5 j_4) + 1))) (updB (T_gn (T_setag tJ_5 (upd (T_ag tJ_5) j_4 ((T_ag tJ_5 j_4) + 1)))) j_4 true)) 1), zzI cy (rK 2) 8 (T_kn (T_setgn (T_setag tJ_5 (upd (T_ag tJ_5) j_4 ((T_ag tJ_5 j_4) + 1))) (updB (T_gn (T_setag tJ_5 (upd (T_ag tJ_5) j_4 ((T_ag tJ_5 j_4) + 1)))) j_4 true)) 2), zzI cy (rK 3) 8 (T_kn (T_setgn (T_setag tJ_5 (upd (T_ag tJ_5) j_4 ((T_ag tJ_5 j_4) + 1))) (updB (T_gn (T_setag tJ_5 (upd (T_ag tJ_5) j_4 ((T_ag tJ_5 j_4) + 1)))) j_4 true)) 3), zzI cy (rK 4) 8 (T_kn (T_setgn (T_setag tJ_5 (upd (T_ag tJ_5) j_4 ((T_ag tJ_5 j_4) + 1))) (updB (T_gn (T_setag tJ_5 (upd (T_ag tJ_5) j_4 ((T_ag tJ_5 j_4) + 1)))) j_4 true)) 4), zzI cy (rK 5) 8 (T_kn (T_setgn (T_setag tJ_5 (upd (T_ag tJ_5) j_4 ((T_ag tJ_5 j_4) + 1))) (updB (T_gn (T_setag tJ_5 (upd (T_ag tJ_5) j_4 ((T_ag tJ_5 j_4) + 1)))) j_4 true)) 5), zzI cy (rK 6) 8 (T_kn (T_setgn (T_setag tJ_5 (upd (T_ag tJ_5) j_4 ((T_ag tJ_5 j_4) + 1))) (updB (T_gn (T_setag tJ_5 (upd (T_ag tJ_5) j_4 ((T_ag tJ_5 j_4) + 1)))) j_4 true)) 6), zzI cy (rK 7) 8 (T_kn (T_setgn (T_setag tJ_5 (upd (T_ag tJ_5) j_4 ((T_ag tJ_5 j_4) + 1))) (updB (T_gn (T_setag tJ_5 (upd (T_ag tJ_5) j_4 ((T_ag tJ_5 j_4) + 1)))) j_4 true)) 7)]) (k := j_4) (g1 := onR (T_setgn (T_setag tJ_5 (upd (T_ag tJ_5) j_4 ((T_ag tJ_5 j_4) + 1))) (updB (T_gn (T_setag tJ_5 (upd (T_ag tJ_5) j_4 ((T_ag tJ_5 j_4) + 1)))) j_4 true)) j_4) hP hD (sg8 (n0 := 11) (f := (fun j => zzI cy (rO j) 5 (onR (T_setag tJ_5 (upd (T_ag tJ_5) j_4 ((T_ag tJ_5 j_4) + 1))) j))) rfl rfl rfl rfl rfl rfl rfl rfl) (sg8 (n0 := 11) (f := (fun j => zzI cy (rO j) 5 (onR (T_setgn (T_setag tJ_5 (upd (T_ag tJ_5) j_4 ((T_ag tJ_5 j_4) + 1))) (updB (T_gn (T_setag tJ_5 (upd (T_ag tJ_5) j_4 ((T_ag tJ_5 j_4) + 1)))) j_4 true)) j))) rfl rfl rfl rfl rfl rfl rfl rfl) rfl rfl (by omega) rfl (on_w4 (T_setag tJ_5 (upd (T_ag tJ_5) j_4 ((T_ag tJ_5 j_4) + 1))) j_4 true) (fun j hj => congrArg (zzI cy (rO j) 5) (on_n4 (T_setag tJ_5 (upd (T_ag tJ_5) j_4 ((T_ag tJ_5 j_4) + 1))) j_4 true hj))
            clear hP hD
            obtain ⟨hP, hD⟩ := hPD
            refine lv_iload_n hx hb dX6_end_68 rfl (lv_at hl 2 rfl) ?_
            refine lv_iload_n hx hb dX6_end_69 rfl (lv_at hl 0 rfl) ?_
            refine lv_if_eq (tgt := 77) hx hb dX6_end_70 (by decide) (fun h9 => absurd h9 (by decide)) (fun _ => ?_)
            refine lv_iconst (v := 1) hx hb dX6_end_73 (by decide) ?_
            refine lv_goto (tgt := 78) hx hb dX6_end_74 (by decide) ?_
            refine lv_iadd hx hb dX6_end_78 ?_
            refine lv_istore_n (lv' := [(1, .int (xG_6 + 1)), (3, .int 1), (2, .int (nI j_4)), (0, .ref qm)]) hx hb dX6_end_79 rfl hl (by decide) rfl (fun ls => ?_)
            clear hl
            intro hl
            refine lv_iconst (v := 0) hx hb dX6_end_80 (by decide) ?_
            refine lv_istore (lv' := [(4, .int 0), (1, .int (xG_6 + 1)), (3, .int 1), (2, .int (nI j_4)), (0, .ref qm)]) hx hb dX6_end_81 hl (by decide) rfl (fun ls => ?_)
            clear hl
            intro hl
            have lp_37 : ∀ (n_38 : Nat) (m_40 : Nat) (tK_41 : TA), 8 - m_40 < n_38 → m_40 ≤ T_nb tA → TI tK_41 ∧ T_nb tK_41 = T_nb tA ∧ T_np tK_41 = T_np tA → tK_41 = T_setkn (T_setgn (T_setag tJ_5 (upd (T_ag tJ_5) j_4 ((T_ag tJ_5 j_4) + 1))) (updB (T_gn (T_setag tJ_5 (upd (T_ag tJ_5) j_4 ((T_ag tJ_5 j_4) + 1)))) j_4 true)) (fgK (T_kn tJ_5) j_4 0 m_40) → ∀ (H : Heap) (locs : List Loc) (ls : Array Slot), va_P G CL [zzO qm 5 [v0, v1, v2, v3, v4, v5, v6, v7, v8, v9, .int (nI (T_nb tK_41)), .ref qmB, .int (nI (T_np tK_41)), .ref qmO, .ref qmK, .int iEn, .int iTk, .int (T_sd tK_41), v18, v19, v20, v21, v22, v23, v24, v25, v26, .int iLv, .int iWs, v29, v30, v31, v32, v33, v34], zzG cy 3 qmB rB, zzI cy (rB 0) 4 (bkR tK_41 0), zzI cy (rB 1) 4 (bkR tK_41 1), zzI cy (rB 2) 4 (bkR tK_41 2), zzI cy (rB 3) 4 (bkR tK_41 3), zzI cy (rB 4) 4 (bkR tK_41 4), zzI cy (rB 5) 4 (bkR tK_41 5), zzI cy (rB 6) 4 (bkR tK_41 6), zzI cy (rB 7) 4 (bkR tK_41 7), zzG cy 3 qmO rO, zzI cy (rO 0) 5 (onR tK_41 0), zzI cy (rO 1) 5 (onR tK_41 1), zzI cy (rO 2) 5 (onR tK_41 2), zzI cy (rO 3) 5 (onR tK_41 3), zzI cy (rO 4) 5 (onR tK_41 4), zzI cy (rO 5) 5 (onR tK_41 5), zzI cy (rO 6) 5 (onR tK_41 6), zzI cy (rO 7) 5 (onR tK_41 7), zzG cy 3 qmK rK, zzI cy (rK 0) 8 (T_kn tK_41 0), zzI cy (rK 1) 8 (T_kn tK_41 1), zzI cy (rK 2) 8 (T_kn tK_41 2), zzI cy (rK 3) 8 (T_kn tK_41 3), zzI cy (rK 4) 8 (T_kn tK_41 4), zzI cy (rK 5) 8 (T_kn tK_41 5), zzI cy (rK 6) 8 (T_kn tK_41 6), zzI cy (rK 7) 8 (T_kn tK_41 7)] H → va_D A [zzO qm 5 [v0, v1, v2, v3, v4, v5, v6, v7, v8, v9, .int (nI (T_nb tK_41)), .ref qmB, .int (nI (T_np tK_41)), .ref qmO, .ref qmK, .int iEn, .int iTk, .int (T_sd tK_41), v18, v19, v20, v21, v22, v23, v24, v25, v26, .int iLv, .int iWs, v29, v30, v31, v32, v33, v34], zzG cy 3 qmB rB, zzI cy (rB 0) 4 (bkR tK_41 0), zzI cy (rB 1) 4 (bkR tK_41 1), zzI cy (rB 2) 4 (bkR tK_41 2), zzI cy (rB 3) 4 (bkR tK_41 3), zzI cy (rB 4) 4 (bkR tK_41 4), zzI cy (rB 5) 4 (bkR tK_41 5), zzI cy (rB 6) 4 (bkR tK_41 6), zzI cy (rB 7) 4 (bkR tK_41 7), zzG cy 3 qmO rO, zzI cy (rO 0) 5 (onR tK_41 0), zzI cy (rO 1) 5 (onR tK_41 1), zzI cy (rO 2) 5 (onR tK_41 2), zzI cy (rO 3) 5 (onR tK_41 3), zzI cy (rO 4) 5 (onR tK_41 4), zzI cy (rO 5) 5 (onR tK_41 5), zzI cy (rO 6) 5 (onR tK_41 6), zzI cy (rO 7) 5 (onR tK_41 7), zzG cy 3 qmK rK, zzI cy (rK 0) 8 (T_kn tK_41 0), zzI cy (rK 1) 8 (T_kn tK_41 1), zzI cy (rK 2) 8 (T_kn tK_41 2), zzI cy (rK 3) 8 (T_kn tK_41 3), zzI cy (rK 4) 8 (T_kn tK_41 4), zzI cy (rK 5) 8 (T_kn tK_41 5), zzI cy (rK 6) 8 (T_kn tK_41 6), zzI cy (rK 7) 8 (T_kn tK_41 7)] → va_S A s.heap H locs → lv_has ls 5 [(4, .int (nI m_40)), (1, .int (xG_6 + 1)), (3, .int 1), (2, .int (nI j_4)), (0, .ref qm)] → W p l e (Rm 2 0 0) s m (List.toArray (α := Value) [.ref qm]) below meth c H locs 0 0 (MQ below ((Wi G (fun r u => ∃ (tX : TA) (iX : Int32), u = [zzO qm 5 [v0, v1, v2, v3, v4, v5, v6, v7, v8, v9, .int (nI (T_nb tX)), .ref qmB, .int (nI (T_np tX)), .ref qmO, .ref qmK, .int iX, .int iTk, .int (T_sd tX), v18, v19, v20, v21, v22, v23, v24, v25, v26, .int iLv, .int iWs, v29, v30, v31, v32, v33, v34], zzG cy 3 qmB rB, zzI cy (rB 0) 4 (bkR tX 0), zzI cy (rB 1) 4 (bkR tX 1), zzI cy (rB 2) 4 (bkR tX 2), zzI cy (rB 3) 4 (bkR tX 3), zzI cy (rB 4) 4 (bkR tX 4), zzI cy (rB 5) 4 (bkR tX 5), zzI cy (rB 6) 4 (bkR tX 6), zzI cy (rB 7) 4 (bkR tX 7), zzG cy 3 qmO rO, zzI cy (rO 0) 5 (onR tX 0), zzI cy (rO 1) 5 (onR tX 1), zzI cy (rO 2) 5 (onR tX 2), zzI cy (rO 3) 5 (onR tX 3), zzI cy (rO 4) 5 (onR tX 4), zzI cy (rO 5) 5 (onR tX 5), zzI cy (rO 6) 5 (onR tX 6), zzI cy (rO 7) 5 (onR tX 7), zzG cy 3 qmK rK, zzI cy (rK 0) 8 (T_kn tX 0), zzI cy (rK 1) 8 (T_kn tX 1), zzI cy (rK 2) 8 (T_kn tX 2), zzI cy (rK 3) 8 (T_kn tX 3), zzI cy (rK 4) 8 (T_kn tX 4), zzI cy (rK 5) 8 (T_kn tX 5), zzI cy (rK 6) 8 (T_kn tX 6), zzI cy (rK 7) 8 (T_kn tX 7)] ∧ (TI tX ∧ T_nb tX = T_nb tA ∧ T_np tX = T_np tA) ∧ (tX = zey tA ∧ r = enA tA) ∧ (True))) A) (List.toArray (α := Value) [.ref qm]) s 0 0 A) (F0 m 83 ls []) := by
              intro n_38
              induction n_38 with
              | zero => intro m_40 tK_41 hm9; exact absurd hm9 (Nat.not_lt_zero _)
              | succ n_38 ih_39 =>
                intro m_40 tK_41 hm_45 hm_45 hTK_43 hEK_44 H locs ls hP hD hS hl
                refine lv_iload hx hb dX6_end_83 (lv_at hl 0 rfl) ?_
                refine lv_aload_n hx hb dX6_end_85 rfl (lv_at hl 4 rfl) ?_
                refine va_get (D := G) (ci := 5) (v := .int (nI (T_nb tK_41))) (C := RX6) (T := TX6) (N := 35) hx hb hts iX_X6 hown hK hP 0 rfl rfl 10 (by decide) (hts _ m_t860) (fun _ h9 => h9) rfl dX6_end_86 ?_
                refine lv_icmp_ge (tgt := 139) hx hb dX6_end_89 (by decide) (fun c_46 => ?_) (fun c_46 => ?_)
                · have hlt_47e : T_nb tK_41 = T_nb tA := hTK_43.2.1
                  have hlt_47 : m_40 = T_nb tA := Nat.le_antisymm (by omega) (by rw [hlt_47e] at c_46; exact lp_ge rfl rfl (by omega) (by omega) c_46)
                  refine lv_iinc (v := nI (j_4 + 1)) (lv' := [(2, .int (nI (j_4 + 1))), (4, .int (nI m_40)), (1, .int (xG_6 + 1)), (3, .int 1), (0, .ref qm)]) hx hb dX6_end_139 hl (k := 3) rfl (nI_1 _) (by decide) rfl (fun ls => ?_)
                  clear hl
                  intro hl
                  refine lv_goto (tgt := 4) hx hb dX6_end_142 (by decide) ?_
                  exact ih_3 (j_4 + 1) tK_41 (xG_6 + 1) (by omega) (by omega) hTK_43 (ey_die hAG (by omega) (by omega) hE_9 h_17 (by have h9 := c_19; rw [ag_up] at h9; exact h9) (by rw [hEK_44, hlt_47, hT_8.2.1])) (en_die hE_9 h_17 (by have h9 := c_19; rw [ag_up] at h9; exact h9) hG_10) _ _ _ hP hD hS (lv_sub hl [0, 2, 4] rfl)
                · have hlt_48e : T_nb tK_41 = T_nb tA := hTK_43.2.1
                  have hlt_48 : m_40 < T_nb tA := by rw [hlt_48e] at c_46; exact lp_lt rfl rfl (by omega) (by omega) c_46
                  refine lv_aload_n hx hb dX6_end_92 rfl (lv_at hl 4 rfl) ?_
                  refine va_get (D := G) (ci := 5) (v := .ref qmK) (C := RX6) (T := TX6) (N := 35) hx hb hts iX_X6 hown hK hP 0 rfl rfl 14 (by decide) (hts _ m_t864) (fun _ h9 => h9) rfl dX6_end_93 ?_
                  refine lv_iload_n hx hb dX6_end_96 rfl (lv_at hl 3 rfl) ?_
                  refine va_alda hx hb hK hP 19 3 rfl rfl (in8 (by omega)) dX6_end_97 ?_
                  refine lv_setv (v := .ref (rK j_4)) (g_ref (by omega)) ?_
                  refine lv_iload hx hb dX6_end_98 (lv_at hl 0 rfl) ?_
                  refine lv_iload_n hx hb dX6_end_100 rfl (lv_at hl 2 rfl) ?_
                  refine lv_if_eq (tgt := 108) hx hb dX6_end_101 (by decide) (fun h9 => absurd h9 (by decide)) (fun _ => ?_)
                  refine lv_iconst (v := 0) hx hb dX6_end_104 (by decide) ?_
                  refine lv_goto (tgt := 132) hx hb dX6_end_105 (by decide) ?_
                  refine va_iast hx hb hK hP hD hS (20 + j_4) 0 ((sg8 (n0 := 20) (f := (fun j => zzI cy (rK j) 8 (T_kn tK_41 j))) rfl rfl rfl rfl rfl rfl rfl rfl) j_4 (by omega)) rfl (vp_in_nI (by omega) (by omega)) dX6_end_132 (fun H locs => ?_)
                  clear hP hD hS
                  intro hP hD hS
                  rw [nI_clamp (n := m_40) (by omega)] at hP hD
                  have hPD := st8PD (ws' := [zzO qm 5 [v0, v1, v2, v3, v4, v5, v6, v7, v8, v9, .int (nI (T_nb (T_setkn tK_41 (updM (T_kn tK_41) j_4 m_40 0)))), .ref qmB, .int (nI (T_np (T_setkn tK_41 (updM (T_kn tK_41) j_4 m_40 0)))), .ref qmO, .ref qmK, .int iEn, .int iTk, .int (T_sd (T_setkn tK_41 (updM (T_kn tK_41) j_4 m_40 0))), v18, v19, v20, v21, v22, v23, v24, v25, v26, .int iLv, .int iWs, v29, v30, v31, v32, v33, v34], zzG cy 3 qmB rB, zzI cy (rB 0) 4 (bkR (T_setkn tK_41 (updM (T_kn tK_41) j_4 m_40 0)) 0), zzI cy (rB 1) 4 (bkR (T_setkn tK_41 (updM (T_kn tK_41) j_4 m_40 0)) 1), zzI cy (rB 2) 4 (bkR (T_setkn tK_41 (updM (T_kn tK_41) j_4 m_40 0)) 2), zzI cy (rB 3) 4 (bkR (T_setkn tK_41 (updM (T_kn tK_41) j_4 m_40 0)) 3), zzI cy (rB 4) 4 (bkR (T_setkn tK_41 (updM (T_kn tK_41) j_4 m_40 0)) 4), zzI cy (rB 5) 4 (bkR (T_setkn tK_41 (updM (T_kn tK_41) j_4 m_40 0)) 5), zzI cy (rB 6) 4 (bkR (T_setkn tK_41 (updM (T_kn tK_41) j_4 m_40 0)) 6), zzI cy (rB 7) 4 (bkR (T_setkn tK_41 (updM (T_kn tK_41) j_4 m_40 0)) 7), zzG cy 3 qmO rO, zzI cy (rO 0) 5 (onR (T_setkn tK_41 (updM (T_kn tK_41) j_4 m_40 0)) 0), zzI cy (rO 1) 5 (onR (T_setkn tK_41 (updM (T_kn tK_41) j_4 m_40 0)) 1), zzI cy (rO 2) 5 (onR (T_setkn tK_41 (updM (T_kn tK_41) j_4 m_40 0)) 2), zzI cy (rO 3) 5 (onR (T_setkn tK_41 (updM (T_kn tK_41) j_4 m_40 0)) 3), zzI cy (rO 4) 5 (onR (T_setkn tK_41 (updM (T_kn tK_41) j_4 m_40 0)) 4), zzI cy (rO 5) 5 (onR (T_setkn tK_41 (updM (T_kn tK_41) j_4 m_40 0)) 5), zzI cy (rO 6) 5 (onR (T_setkn tK_41 (updM (T_kn tK_41) j_4 m_40 0)) 6), zzI cy (rO 7) 5 (onR (T_setkn tK_41 (updM (T_kn tK_41) j_4 m_40 0)) 7), zzG cy 3 qmK rK, zzI cy (rK 0) 8 (T_kn (T_setkn tK_41 (updM (T_kn tK_41) j_4 m_40 0)) 0), zzI cy (rK 1) 8 (T_kn (T_setkn tK_41 (updM (T_kn tK_41) j_4 m_40 0)) 1), zzI cy (rK 2) 8 (T_kn (T_setkn tK_41 (updM (T_kn tK_41) j_4 m_40 0)) 2), zzI cy (rK 3) 8 (T_kn (T_setkn tK_41 (updM (T_kn tK_41) j_4 m_40 0)) 3), zzI cy (rK 4) 8 (T_kn (T_setkn tK_41 (updM (T_kn tK_41) j_4 m_40 0)) 4), zzI cy (rK 5) 8 (T_kn (T_setkn tK_41 (updM (T_kn tK_41) j_4 m_40 0)) 5), zzI cy (rK 6) 8 (T_kn (T_setkn tK_41 (updM (T_kn tK_41) j_4 m_40 0)) 6), zzI cy (rK 7) 8 (T_kn (T_setkn tK_41 (updM (T_kn tK_41) j_4 m_40 0)) 7)]) (k := j_4) (g1 := T_kn (T_setkn tK_41 (updM (T_kn tK_41) j_4 m_40 0)) j_4) hP hD (sg8 (n0 := 20) (f := (fun j => zzI cy (rK j) 8 (T_kn tK_41 j))) rfl rfl rfl rfl rfl rfl rfl rfl) (sg8 (n0 := 20) (f := (fun j => zzI cy (rK j) 8 (T_kn (T_setkn tK_41 (updM (T_kn tK_41) j_4 m_40 0)) j))) rfl rfl rfl rfl rfl rfl rfl rfl) rfl rfl (by omega) rfl (fun i _ => (congrFun (kn_u tK_41 j_4 m_40 0) i).symm) (fun j hj => congrArg (zzI cy (rK j) 8) (kn_n tK_41 j_4 m_40 0 hj))
                  clear hP hD
                  obtain ⟨hP, hD⟩ := hPD
                  refine lv_iinc (v := nI (m_40 + 1)) (lv' := [(4, .int (nI (m_40 + 1))), (1, .int (xG_6 + 1)), (3, .int 1), (2, .int (nI j_4)), (0, .ref qm)]) hx hb dX6_end_133 hl (k := 0) rfl (nI_1 _) (by decide) rfl (fun ls => ?_)
                  clear hl
                  intro hl
                  refine lv_goto (tgt := 83) hx hb dX6_end_136 (by decide) ?_
                  exact ih_39 (m_40 + 1) (T_setkn tK_41 (updM (T_kn tK_41) j_4 m_40 0)) (by omega) (by omega) (⟨TI_kn hTK_43.1 (r_0 1000), hTK_43.2⟩) (by rw [hEK_44]; exact ey_i0 _ _ _ _) _ _ _ hP hD hS (lv_sub hl [0, 1, 2, 3, 4] rfl)
            exact lp_37 ((8 - 0) + 1) 0 (T_setgn (T_setag tJ_5 (upd (T_ag tJ_5) j_4 ((T_ag tJ_5 j_4) + 1))) (updB (T_gn (T_setag tJ_5 (upd (T_ag tJ_5) j_4 ((T_ag tJ_5 j_4) + 1)))) j_4 true)) (Nat.lt_succ_self _) (Nat.zero_le _) (⟨hT_8.1, hT_8.2⟩) rfl _ _ ls hP hD hS (lv_sub hl [0, 1, 2, 3, 4] rfl)
        · refine lv_if_eq (tgt := 139) hx hb dX6_end_17 (by decide) (fun _ => ?_) (fun h9 => absurd (by decide) h9)
          refine lv_iinc (v := nI (j_4 + 1)) (lv' := [(2, .int (nI (j_4 + 1))), (1, .int xG_6), (0, .ref qm)]) hx hb dX6_end_139 hl (k := 0) rfl (nI_1 _) (by decide) rfl (fun ls => ?_)
          clear hl
          intro hl
          refine lv_goto (tgt := 4) hx hb dX6_end_142 (by decide) ?_
          exact ih_3 (j_4 + 1) tJ_5 xG_6 (by omega) (by omega) hT_8 (ey_off (by omega) (by omega) hE_9 h_17) (en_off hE_9 h_17 hG_10) _ _ _ hP hD hS (lv_sub hl [0, 1, 2] rfl)
  exact lp_1 ((8 - 0) + 1) 0 tA 0 (Nat.lt_succ_self _) (Nat.zero_le _) (⟨hTI, rfl, rfl⟩) rfl rfl _ _ ls hP hD hS (lv_sub hl [0, 1, 2] rfl)
set_option maxHeartbeats 4000000 in
set_option maxRecDepth 100000 in
theorem x_X6_endsn (l : Launch) (G : va_G) (cy : Nat → ClassId) (sz : Nat) (qm : Nat) (qmh : Nat) (qmo : Nat) (qmz : Nat) (qmR : Nat) (qmv : Nat) (qmk : Nat) (qma : Nat) (qmt : Nat) (kZ : Nat) (qmr : Nat) (tA : TA) (qmB : Nat) (qmO : Nat) (qmK : Nat) (iEn : Int32) (iTk : Int32) (uP : UM) (uU : UM) (kAt : Nat) (iTo : Int32) (iFr : Int32) (JFi : Int64) (iFa : Int32) (qm3 : Nat) (iSt : Int32) (iLv : Int32) (iWs : Int32) (vLa : Value) (qmu : Nat) (qmy : Nat) (qmb : Nat) (qms : Nat) (iOm : Int32) (rB : Nat → Nat) (rO : Nat → Nat) (rK : Nat → Nat)  (hB : T_nb tA ≤ 8) (hPp : T_np tA ≤ 8) (hTI : TI tA) (hWI : WI tA) : MW l yX6_ends cX6_ends 1 (some .int) 16 0 0 G cy [zzO qm 5 [.ref qmh, .ref qmo, .ref qmz, .ref qmR, .ref qmv, .ref qmk, .ref qma, .ref qmt, .int (nI kZ), .ref qmr, .int (nI (T_nb tA)), .ref qmB, .int (nI (T_np tA)), .ref qmO, .ref qmK, .int iEn, .int iTk, .int (T_sd tA), ov uP, ov uU, .int (nI kAt), .int iTo, .int iFr, .long JFi, .int iFa, .ref qm3, .int iSt, .int iLv, .int iWs, vLa, .ref qmu, .ref qmy, .ref qmb, .ref qms, .int iOm], zzG cy 3 qmB rB, zzI cy (rB 0) 4 (bkR tA 0), zzI cy (rB 1) 4 (bkR tA 1), zzI cy (rB 2) 4 (bkR tA 2), zzI cy (rB 3) 4 (bkR tA 3), zzI cy (rB 4) 4 (bkR tA 4), zzI cy (rB 5) 4 (bkR tA 5), zzI cy (rB 6) 4 (bkR tA 6), zzI cy (rB 7) 4 (bkR tA 7), zzG cy 3 qmO rO, zzI cy (rO 0) 5 (onR tA 0), zzI cy (rO 1) 5 (onR tA 1), zzI cy (rO 2) 5 (onR tA 2), zzI cy (rO 3) 5 (onR tA 3), zzI cy (rO 4) 5 (onR tA 4), zzI cy (rO 5) 5 (onR tA 5), zzI cy (rO 6) 5 (onR tA 6), zzI cy (rO 7) 5 (onR tA 7), zzG cy 3 qmK rK, zzI cy (rK 0) 8 (T_kn tA 0), zzI cy (rK 1) 8 (T_kn tA 1), zzI cy (rK 2) 8 (T_kn tA 2), zzI cy (rK 3) 8 (T_kn tA 3), zzI cy (rK 4) 8 (T_kn tA 4), zzI cy (rK 5) 8 (T_kn tA 5), zzI cy (rK 6) 8 (T_kn tA 6), zzI cy (rK 7) 8 (T_kn tA 7)] sz [.ref qm] (Wi G (fun r u => ∃ (iNe : Int32) (tN : TA), u = [zzO qm 5 [.ref qmh, .ref qmo, .ref qmz, .ref qmR, .ref qmv, .ref qmk, .ref qma, .ref qmt, .int (nI kZ), .ref qmr, .int (nI (T_nb tN)), .ref qmB, .int (nI (T_np tN)), .ref qmO, .ref qmK, .int iNe, .int iTk, .int (T_sd tN), ov uP, ov uU, .int (nI kAt), .int iTo, .int iFr, .long JFi, .int iFa, .ref qm3, .int iSt, .int iLv, .int iWs, vLa, .ref qmu, .ref qmy, .ref qmb, .ref qms, .int iOm], zzG cy 3 qmB rB, zzI cy (rB 0) 4 (bkR tN 0), zzI cy (rB 1) 4 (bkR tN 1), zzI cy (rB 2) 4 (bkR tN 2), zzI cy (rB 3) 4 (bkR tN 3), zzI cy (rB 4) 4 (bkR tN 4), zzI cy (rB 5) 4 (bkR tN 5), zzI cy (rB 6) 4 (bkR tN 6), zzI cy (rB 7) 4 (bkR tN 7), zzG cy 3 qmO rO, zzI cy (rO 0) 5 (onR tN 0), zzI cy (rO 1) 5 (onR tN 1), zzI cy (rO 2) 5 (onR tN 2), zzI cy (rO 3) 5 (onR tN 3), zzI cy (rO 4) 5 (onR tN 4), zzI cy (rO 5) 5 (onR tN 5), zzI cy (rO 6) 5 (onR tN 6), zzI cy (rO 7) 5 (onR tN 7), zzG cy 3 qmK rK, zzI cy (rK 0) 8 (T_kn tN 0), zzI cy (rK 1) 8 (T_kn tN 1), zzI cy (rK 2) 8 (T_kn tN 2), zzI cy (rK 3) 8 (T_kn tN 3), zzI cy (rK 4) 8 (T_kn tN 4), zzI cy (rK 5) 8 (T_kn tN 5), zzI cy (rK 6) 8 (T_kn tN 6), zzI cy (rK 7) 8 (T_kn tN 7)] ∧ (WI tN ∧ tN = zey tA ∧ r = enA tA) ∧ (True))) := by
  refine enW RX6 (by decide) rfl (Nat.le_of_ble_eq_true rfl) (fun p e s m below meth c ls A hx hb hml hown hts hr hlocks hP hN hl hin hD hA hS => ?_)
  have hin : meth.name = _ := hin
  have hK := hN.1
  replace hl : lv_has ls 1 [(0, .ref qm)] := hl
  refine lv_aload_n hx hb dX6_ends_0 rfl (lv_at hl 0 rfl) ?_
  refine cVi (As := []) (rest := []) (b := qm) (q := (RX6, TX6, 35)) ⟨hx, hb, hml, hown, hts⟩ (x_X6_endn l G cy (s.heap).size qm (.ref qmh) (.ref qmo) (.ref qmz) (.ref qmR) (.ref qmv) (.ref qmk) (.ref qma) (.ref qmt) (.int (nI kZ)) (.ref qmr) tA qmB qmO qmK iEn iTk (ov uP) (ov uU) (.int (nI kAt)) (.int iTo) (.int iFr) (.long JFi) (.int iFa) (.ref qm3) (.int iSt) iLv iWs vLa (.ref qmu) (.ref qmy) (.ref qmb) (.ref qms) (.int iOm) rB rO rK hB hPp hTI hWI.2.2) L_X6_288 hN hP hD hS hA [0, 1, 2, 3, 4, 5, 6, 7, 8, 9, 10, 11, 12, 13, 14, 15, 16, 17, 18, 19, 20, 21, 22, 23, 24, 25, 26, 27] [false, false, false, false, false, false, false, false, false, false, false, false, false, false, false, false, false, false, false, false, false, false, false, false, false, false, false, false] rfl (by decide +kernel) rfl 0 5 rfl rfl rfl ⟨Nat.le_of_ble_eq_true rfl, Nat.le_of_ble_eq_true rfl⟩ hl.1 (Nat.le_of_ble_eq_true rfl) dX6_ends_1 ⟨Nat.le_of_ble_eq_true rfl, Nat.le_of_ble_eq_true rfl⟩ (fun r_1 u_3 H locs h_2 => ?_)
  clear hP hD hS
  intro hP hD hS
  obtain ⟨tX_4, iX_5, rfl, h_6, h_7, h_2⟩ := h_2
  have hPD := pd_as [zzO qm 5 [.ref qmh, .ref qmo, .ref qmz, .ref qmR, .ref qmv, .ref qmk, .ref qma, .ref qmt, .int (nI kZ), .ref qmr, .int (nI (T_nb tX_4)), .ref qmB, .int (nI (T_np tX_4)), .ref qmO, .ref qmK, .int iX_5, .int iTk, .int (T_sd tX_4), ov uP, ov uU, .int (nI kAt), .int iTo, .int iFr, .long JFi, .int iFa, .ref qm3, .int iSt, .int iLv, .int iWs, vLa, .ref qmu, .ref qmy, .ref qmb, .ref qms, .int iOm], zzG cy 3 qmB rB, zzI cy (rB 0) 4 (bkR tX_4 0), zzI cy (rB 1) 4 (bkR tX_4 1), zzI cy (rB 2) 4 (bkR tX_4 2), zzI cy (rB 3) 4 (bkR tX_4 3), zzI cy (rB 4) 4 (bkR tX_4 4), zzI cy (rB 5) 4 (bkR tX_4 5), zzI cy (rB 6) 4 (bkR tX_4 6), zzI cy (rB 7) 4 (bkR tX_4 7), zzG cy 3 qmO rO, zzI cy (rO 0) 5 (onR tX_4 0), zzI cy (rO 1) 5 (onR tX_4 1), zzI cy (rO 2) 5 (onR tX_4 2), zzI cy (rO 3) 5 (onR tX_4 3), zzI cy (rO 4) 5 (onR tX_4 4), zzI cy (rO 5) 5 (onR tX_4 5), zzI cy (rO 6) 5 (onR tX_4 6), zzI cy (rO 7) 5 (onR tX_4 7), zzG cy 3 qmK rK, zzI cy (rK 0) 8 (T_kn tX_4 0), zzI cy (rK 1) 8 (T_kn tX_4 1), zzI cy (rK 2) 8 (T_kn tX_4 2), zzI cy (rK 3) 8 (T_kn tX_4 3), zzI cy (rK 4) 8 (T_kn tX_4 4), zzI cy (rK 5) 8 (T_kn tX_4 5), zzI cy (rK 6) 8 (T_kn tX_4 6), zzI cy (rK 7) 8 (T_kn tX_4 7)] hP hD rfl
  clear hP hD
  obtain ⟨hP, hD⟩ := hPD
  exact endW (u := [zzO qm 5 [.ref qmh, .ref qmo, .ref qmz, .ref qmR, .ref qmv, .ref qmk, .ref qma, .ref qmt, .int (nI kZ), .ref qmr, .int (nI (T_nb tX_4)), .ref qmB, .int (nI (T_np tX_4)), .ref qmO, .ref qmK, .int iX_5, .int iTk, .int (T_sd tX_4), ov uP, ov uU, .int (nI kAt), .int iTo, .int iFr, .long JFi, .int iFa, .ref qm3, .int iSt, .int iLv, .int iWs, vLa, .ref qmu, .ref qmy, .ref qmb, .ref qms, .int iOm], zzG cy 3 qmB rB, zzI cy (rB 0) 4 (bkR tX_4 0), zzI cy (rB 1) 4 (bkR tX_4 1), zzI cy (rB 2) 4 (bkR tX_4 2), zzI cy (rB 3) 4 (bkR tX_4 3), zzI cy (rB 4) 4 (bkR tX_4 4), zzI cy (rB 5) 4 (bkR tX_4 5), zzI cy (rB 6) 4 (bkR tX_4 6), zzI cy (rB 7) 4 (bkR tX_4 7), zzG cy 3 qmO rO, zzI cy (rO 0) 5 (onR tX_4 0), zzI cy (rO 1) 5 (onR tX_4 1), zzI cy (rO 2) 5 (onR tX_4 2), zzI cy (rO 3) 5 (onR tX_4 3), zzI cy (rO 4) 5 (onR tX_4 4), zzI cy (rO 5) 5 (onR tX_4 5), zzI cy (rO 6) 5 (onR tX_4 6), zzI cy (rO 7) 5 (onR tX_4 7), zzG cy 3 qmK rK, zzI cy (rK 0) 8 (T_kn tX_4 0), zzI cy (rK 1) 8 (T_kn tX_4 1), zzI cy (rK 2) 8 (T_kn tX_4 2), zzI cy (rK 3) 8 (T_kn tX_4 3), zzI cy (rK 4) 8 (T_kn tX_4 4), zzI cy (rK 5) 8 (T_kn tX_4 5), zzI cy (rK 6) 8 (T_kn tX_4 6), zzI cy (rK 7) 8 (T_kn tX_4 7)]) hx hb hr hlocks rfl (hP.sub [0, 1, 2, 3, 4, 5, 6, 7, 8, 9, 10, 11, 12, 13, 14, 15, 16, 17, 18, 19, 20, 21, 22, 23, 24, 25, 26, 27] rfl) (hD.sub [0, 1, 2, 3, 4, 5, 6, 7, 8, 9, 10, 11, 12, 13, 14, 15, 16, 17, 18, 19, 20, 21, 22, 23, 24, 25, 26, 27] (by decide +kernel) rfl) hS ⟨iX_5, tX_4, rfl, ⟨by rw [h_7.1]; exact WI_ey hWI, h_7⟩, trivial⟩ dX6_ends_4
