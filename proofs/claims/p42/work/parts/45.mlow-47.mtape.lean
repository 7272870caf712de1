section
/-! newBook, newOne, add -/
noncomputable def nb0 (t : TA) (a : Int32) : TA := T_mk (T_nb t) (T_np t) (T_sd t) (updB (T_wh t) (T_nb t) false) (T_gn t) (upd (T_wo t) (T_nb t) a) (upd (T_ne t) (T_nb t) 0) (upd (T_go t) (T_nb t) 1000) (T_ag t) (T_re t) (T_me t) (T_te t) (T_kn t)
noncomputable def nbF (t : TA) : Nat → TA
  | 0 => t
  | j + 1 => T_setkn (nbF t j) (updM (T_kn (nbF t j)) j (T_nb (nbF t j)) 0)
theorem nbF_nb (t : TA) : ∀ j, T_nb (nbF t j) = T_nb t ∧ T_np (nbF t j) = T_np t := by
  intro j
  induction j with
  | zero => exact ⟨rfl, rfl⟩
  | succ j ih => exact ih
noncomputable def zNB (t : TA) (a : Int32) : TA := nbF (nb0 t a) 8
noncomputable def no0 (t : TA) : TA := T_mk (T_nb t) (T_np t) (T_sd t) (T_wh t) (updB (T_gn t) (T_np t) false) (T_wo t) (T_ne t) (T_go t) (T_ag t) (upd (T_re t) (T_np t) 5) (upd (T_me t) (T_np t) 5) (upd (T_te t) (T_np t) 5) (T_kn t)
noncomputable def noF (p : Nat) (t : TA) : Nat → TA
  | 0 => t
  | j + 1 => T_setkn (noF p t j) (updM (T_kn (noF p t j)) p j 0)
theorem noF_nb (p : Nat) (t : TA) : ∀ j, T_nb (noF p t j) = T_nb t ∧ T_np (noF p t j) = T_np t := by
  intro j
  induction j with
  | zero => exact ⟨rfl, rfl⟩
  | succ j ih => exact ih
noncomputable def zNO (t : TA) : TA := noF (T_np t) (no0 t) 8
theorem nb_NB (t : TA) (a : Int32) : T_nb (zNB t a) = T_nb t := (nbF_nb _ _).1
theorem np_NB (t : TA) (a : Int32) : T_np (zNB t a) = T_np t := (nbF_nb _ _).2
theorem nb_NO (t : TA) : T_nb (zNO t) = T_nb t := (noF_nb _ _ _).1
theorem np_NO (t : TA) : T_np (zNO t) = T_np t := (noF_nb _ _ _).2
theorem TI_mk {nb np : Nat} {sd : Int32} {wh gn : Nat → Bool} {wo ne go ag re me te : Nat → Int32} {kn : Nat → Nat → Int32} (h : nb ≤ 8 ∧ np ≤ 8) (h1 : ∀ p b, R0 1000 (kn p b)) (h2 : ∀ b, R0 1000 (go b)) (h3 : ∀ p, R0 10 (re p)) (h4 : ∀ p, R0 10 (me p)) (h5 : ∀ p, R0 10 (te p)) : TI (T_mk nb np sd wh gn wo ne go ag re me te kn) := ⟨h, h1, h2, h3, h4, h5⟩
noncomputable def zADD (t : TA) (a b c d : Int64) : TA := T_mk (T_nb (zNO t)) (T_np (zNO t) + 1) (T_sd (zNO t)) (T_wh (zNO t)) (T_gn (zNO t)) (T_wo (zNO t)) (T_ne (zNO t)) (T_go (zNO t)) (upd (T_ag (zNO t)) (T_np (zNO t)) a.toInt32) (upd (T_re (zNO t)) (T_np (zNO t)) b.toInt32) (upd (T_me (zNO t)) (T_np (zNO t)) c.toInt32) (upd (T_te (zNO t)) (T_np (zNO t)) d.toInt32) (T_kn (zNO t))
theorem r_iv64 {v : Int64} {b : Int64} (n : Nat) (hn : n < 2 ^ 31) (hb : b.toInt = n) (h : Iv v 0 b) : R0 n v.toInt32 := by
  obtain ⟨h1, h2⟩ := Iv_iff.mp h
  rw [Int64.le_iff_toInt_le] at h1 h2
  have e0 : (0 : Int64).toInt = 0 := by decide +kernel
  rw [e0] at h1
  rw [hb] at h2
  refine ⟨v.toInt.toNat, by omega, ?_⟩
  apply Int32.toInt_inj.mp
  rw [nI_toInt (by omega), Int64.toInt_toInt32, Int.bmod_def]
  omega
theorem nI_nn {k : Nat} (hk : k < 2 ^ 31) : ¬ nI k < 0 := nI_pos hk
theorem ne_of8 {n : Nat} (h : n ≤ 8) (c : ¬ nI n = 8) : n < 8 := by
  rcases Nat.lt_or_ge n 8 with q | q
  · exact q
  · exact absurd (by rw [show n = 8 by omega]; rfl) c
noncomputable def zft (sort : Int32) (v : Int64) : Int64 := if sort = 0 then v.toInt32.toInt8.toInt32.toInt64 else if sort = 1 then v.toInt32.toInt16.toInt32.toInt64 else if sort = 2 then v.toInt32.toInt64 else if sort = 3 then v else (if lg_cmp v 0 = 0 then 0 else 1)
theorem ft_d {x : Int32} (h : x.toInt < 0 ∨ 3 < x.toInt) (v : Int64) : zft x v = (if lg_cmp v 0 = 0 then 0 else 1) := by
  have n : ∀ c : Int32, 0 ≤ c.toInt → c.toInt ≤ 3 → ¬ x = c := fun c h1 h2 e => by subst e; omega
  exact (if_neg (n 0 (by decide +kernel) (by decide +kernel))).trans ((if_neg (n 1 (by decide +kernel) (by decide +kernel))).trans ((if_neg (n 2 (by decide +kernel) (by decide +kernel))).trans (if_neg (n 3 (by decide +kernel) (by decide +kernel)))))
theorem sw_0_3 (x : Int32) : x = 0 ∨ x = 1 ∨ x = 2 ∨ x = 3 ∨ (x.toInt < 0 ∨ 3 < x.toInt) := by
  rcases sw_0_4 x with e | e | e | e | e | e
  · exact Or.inl e
  · exact Or.inr (Or.inl e)
  · exact Or.inr (Or.inr (Or.inl e))
  · exact Or.inr (Or.inr (Or.inr (Or.inl e)))
  · exact Or.inr (Or.inr (Or.inr (Or.inr (by rw [e]; decide))))
  · exact Or.inr (Or.inr (Or.inr (Or.inr (by omega))))
set_option maxHeartbeats 4000000 in
set_option maxRecDepth 100000 in
theorem c_X6_newBook (l : Launch) (G : va_G) (cy : Nat → ClassId) (sz : Nat) (qm : Nat) (v0 : Value) (v1 : Value) (v2 : Value) (v3 : Value) (v4 : Value) (v5 : Value) (v6 : Value) (v7 : Value) (v8 : Value) (v9 : Value) (tA : TA) (qmB : Nat) (qmO : Nat) (qmK : Nat) (iEn : Int32) (iTk : Int32) (v18 : Value) (v19 : Value) (v20 : Value) (v21 : Value) (v22 : Value) (v23 : Value) (v24 : Value) (v25 : Value) (v26 : Value) (iLv : Int32) (iWs : Int32) (v29 : Value) (v30 : Value) (v31 : Value) (v32 : Value) (v33 : Value) (v34 : Value) (rB : Nat → Nat) (rO : Nat → Nat) (rK : Nat → Nat) (iA : Int32)  (hB : T_nb tA < 8) : MW l yX6_newBook cX6_newBook 3 none 1 0 0 G cy [zzO qm 5 (v0 :: v1 :: v2 :: v3 :: v4 :: v5 :: v6 :: v7 :: v8 :: v9 :: .int (nI (T_nb tA)) :: .ref qmB :: .int (nI (T_np tA)) :: .ref qmO :: .ref qmK :: .int iEn :: .int iTk :: .int (T_sd tA) :: v18 :: v19 :: v20 :: v21 :: v22 :: v23 :: v24 :: v25 :: v26 :: .int iLv :: .int iWs :: v29 :: v30 :: v31 :: v32 :: v33 :: v34 :: []), zzG cy 3 qmB rB, zzI cy (rB 0) 4 (bkR tA 0), zzI cy (rB 1) 4 (bkR tA 1), zzI cy (rB 2) 4 (bkR tA 2), zzI cy (rB 3) 4 (bkR tA 3), zzI cy (rB 4) 4 (bkR tA 4), zzI cy (rB 5) 4 (bkR tA 5), zzI cy (rB 6) 4 (bkR tA 6), zzI cy (rB 7) 4 (bkR tA 7), zzG cy 3 qmO rO, zzI cy (rO 0) 5 (onR tA 0), zzI cy (rO 1) 5 (onR tA 1), zzI cy (rO 2) 5 (onR tA 2), zzI cy (rO 3) 5 (onR tA 3), zzI cy (rO 4) 5 (onR tA 4), zzI cy (rO 5) 5 (onR tA 5), zzI cy (rO 6) 5 (onR tA 6), zzI cy (rO 7) 5 (onR tA 7), zzG cy 3 qmK rK, zzI cy (rK 0) 8 (T_kn tA 0), zzI cy (rK 1) 8 (T_kn tA 1), zzI cy (rK 2) 8 (T_kn tA 2), zzI cy (rK 3) 8 (T_kn tA 3), zzI cy (rK 4) 8 (T_kn tA 4), zzI cy (rK 5) 8 (T_kn tA 5), zzI cy (rK 6) 8 (T_kn tA 6), zzI cy (rK 7) 8 (T_kn tA 7)] sz [.ref qm, .int iA] (Wv G (fun u => u = [zzO qm 5 (v0 :: v1 :: v2 :: v3 :: v4 :: v5 :: v6 :: v7 :: v8 :: v9 :: .int (nI (T_nb (zNB tA iA))) :: .ref qmB :: .int (nI (T_np (zNB tA iA))) :: .ref qmO :: .ref qmK :: .int iEn :: .int iTk :: .int (T_sd (zNB tA iA)) :: v18 :: v19 :: v20 :: v21 :: v22 :: v23 :: v24 :: v25 :: v26 :: .int iLv :: .int iWs :: v29 :: v30 :: v31 :: v32 :: v33 :: v34 :: []), zzG cy 3 qmB rB, zzI cy (rB 0) 4 (bkR (zNB tA iA) 0), zzI cy (rB 1) 4 (bkR (zNB tA iA) 1), zzI cy (rB 2) 4 (bkR (zNB tA iA) 2), zzI cy (rB 3) 4 (bkR (zNB tA iA) 3), zzI cy (rB 4) 4 (bkR (zNB tA iA) 4), zzI cy (rB 5) 4 (bkR (zNB tA iA) 5), zzI cy (rB 6) 4 (bkR (zNB tA iA) 6), zzI cy (rB 7) 4 (bkR (zNB tA iA) 7), zzG cy 3 qmO rO, zzI cy (rO 0) 5 (onR (zNB tA iA) 0), zzI cy (rO 1) 5 (onR (zNB tA iA) 1), zzI cy (rO 2) 5 (onR (zNB tA iA) 2), zzI cy (rO 3) 5 (onR (zNB tA iA) 3), zzI cy (rO 4) 5 (onR (zNB tA iA) 4), zzI cy (rO 5) 5 (onR (zNB tA iA) 5), zzI cy (rO 6) 5 (onR (zNB tA iA) 6), zzI cy (rO 7) 5 (onR (zNB tA iA) 7), zzG cy 3 qmK rK, zzI cy (rK 0) 8 (T_kn (zNB tA iA) 0), zzI cy (rK 1) 8 (T_kn (zNB tA iA) 1), zzI cy (rK 2) 8 (T_kn (zNB tA iA) 2), zzI cy (rK 3) 8 (T_kn (zNB tA iA) 3), zzI cy (rK 4) 8 (T_kn (zNB tA iA) 4), zzI cy (rK 5) 8 (T_kn (zNB tA iA) 5), zzI cy (rK 6) 8 (T_kn (zNB tA iA) 6), zzI cy (rK 7) 8 (T_kn (zNB tA iA) 7)])) := by
  refine enW RX6 (by decide +kernel) rfl (Nat.le_of_ble_eq_true rfl) (fun p e s m below meth c ls A hx hb hml hown hts hr hlocks hP hN hl hin hD hA hS => ?_)
  have hin : meth.name = _ := hin
  have hK := hN.1
  replace hl : lv_has ls 3 [(0, .ref qm), (1, .int iA)] := hl
  refine lv_aload_n hx hb (g_42 bX6_newBook rfl) rfl (lv_at hl 0 rfl) ?_
  refine va_get (D := G) (ci := 5) (v := .ref qmB) (C := RX6) (T := TX6) (N := 35) hx hb hts iX_X6 hown hK hP 0 rfl rfl 11 (by decide +kernel) (hts _ m_t861) (fun _ h9 => h9) rfl (g_180 (v := 42) bX6_newBook rfl) ?_
  refine lv_aload_n hx hb (g_42 bX6_newBook rfl) rfl (lv_at hl 0 rfl) ?_
  refine va_get (D := G) (ci := 5) (v := .int (nI (T_nb tA))) (C := RX6) (T := TX6) (N := 35) hx hb hts iX_X6 hown hK hP 0 rfl rfl 10 (by decide +kernel) (hts _ m_t860) (fun _ h9 => h9) rfl (g_180 (v := 71) bX6_newBook rfl) ?_
  refine va_alda hx hb hK hP 1 3 rfl rfl (in8 (by omega)) (g_50 bX6_newBook rfl) ?_
  refine lv_setv (v := .ref (rB (T_nb tA))) (g_ref (by omega)) ?_
  refine lv_iconst (v := 0) hx hb (g_3 bX6_newBook rfl) (by decide +kernel) ?_
  refine lv_iload_n hx hb (g_27 bX6_newBook rfl) rfl (lv_at hl 1 rfl) ?_
  refine va_iast hx hb hK hP hD hS (2 + (T_nb tA)) 0 ((sg8 (n0 := 2) (f := (fun j => zzI cy (rB j) 4 (bkR tA j))) rfl rfl rfl rfl rfl rfl rfl rfl) (T_nb tA) (by omega)) rfl (in_c rfl) (g_79 bX6_newBook rfl) (fun H locs => ?_)
  clear hP hD hS
  intro hP hD hS
  have hPD := st8PD (ws' := [zzO qm 5 (v0 :: v1 :: v2 :: v3 :: v4 :: v5 :: v6 :: v7 :: v8 :: v9 :: .int (nI (T_nb tA)) :: .ref qmB :: .int (nI (T_np tA)) :: .ref qmO :: .ref qmK :: .int iEn :: .int iTk :: .int (T_sd tA) :: v18 :: v19 :: v20 :: v21 :: v22 :: v23 :: v24 :: v25 :: v26 :: .int iLv :: .int iWs :: v29 :: v30 :: v31 :: v32 :: v33 :: v34 :: []), zzG cy 3 qmB rB, zzI cy (rB 0) 4 (bkR (T_mk (T_nb tA) (T_np tA) (T_sd tA) (T_wh tA) (T_gn tA) (upd (T_wo tA) (T_nb tA) iA) (T_ne tA) (T_go tA) (T_ag tA) (T_re tA) (T_me tA) (T_te tA) (T_kn tA)) 0), zzI cy (rB 1) 4 (bkR (T_mk (T_nb tA) (T_np tA) (T_sd tA) (T_wh tA) (T_gn tA) (upd (T_wo tA) (T_nb tA) iA) (T_ne tA) (T_go tA) (T_ag tA) (T_re tA) (T_me tA) (T_te tA) (T_kn tA)) 1), zzI cy (rB 2) 4 (bkR (T_mk (T_nb tA) (T_np tA) (T_sd tA) (T_wh tA) (T_gn tA) (upd (T_wo tA) (T_nb tA) iA) (T_ne tA) (T_go tA) (T_ag tA) (T_re tA) (T_me tA) (T_te tA) (T_kn tA)) 2), zzI cy (rB 3) 4 (bkR (T_mk (T_nb tA) (T_np tA) (T_sd tA) (T_wh tA) (T_gn tA) (upd (T_wo tA) (T_nb tA) iA) (T_ne tA) (T_go tA) (T_ag tA) (T_re tA) (T_me tA) (T_te tA) (T_kn tA)) 3), zzI cy (rB 4) 4 (bkR (T_mk (T_nb tA) (T_np tA) (T_sd tA) (T_wh tA) (T_gn tA) (upd (T_wo tA) (T_nb tA) iA) (T_ne tA) (T_go tA) (T_ag tA) (T_re tA) (T_me tA) (T_te tA) (T_kn tA)) 4), zzI cy (rB 5) 4 (bkR (T_mk (T_nb tA) (T_np tA) (T_sd tA) (T_wh tA) (T_gn tA) (upd (T_wo tA) (T_nb tA) iA) (T_ne tA) (T_go tA) (T_ag tA) (T_re tA) (T_me tA) (T_te tA) (T_kn tA)) 5), zzI cy (rB 6) 4 (bkR (T_mk (T_nb tA) (T_np tA) (T_sd tA) (T_wh tA) (T_gn tA) (upd (T_wo tA) (T_nb tA) iA) (T_ne tA) (T_go tA) (T_ag tA) (T_re tA) (T_me tA) (T_te tA) (T_kn tA)) 6), zzI cy (rB 7) 4 (bkR (T_mk (T_nb tA) (T_np tA) (T_sd tA) (T_wh tA) (T_gn tA) (upd (T_wo tA) (T_nb tA) iA) (T_ne tA) (T_go tA) (T_ag tA) (T_re tA) (T_me tA) (T_te tA) (T_kn tA)) 7), zzG cy 3 qmO rO, zzI cy (rO 0) 5 (onR (T_mk (T_nb tA) (T_np tA) (T_sd tA) (T_wh tA) (T_gn tA) (upd (T_wo tA) (T_nb tA) iA) (T_ne tA) (T_go tA) (T_ag tA) (T_re tA) (T_me tA) (T_te tA) (T_kn tA)) 0), zzI cy (rO 1) 5 (onR (T_mk (T_nb tA) (T_np tA) (T_sd tA) (T_wh tA) (T_gn tA) (upd (T_wo tA) (T_nb tA) iA) (T_ne tA) (T_go tA) (T_ag tA) (T_re tA) (T_me tA) (T_te tA) (T_kn tA)) 1), zzI cy (rO 2) 5 (onR (T_mk (T_nb tA) (T_np tA) (T_sd tA) (T_wh tA) (T_gn tA) (upd (T_wo tA) (T_nb tA) iA) (T_ne tA) (T_go tA) (T_ag tA) (T_re tA) (T_me tA) (T_te tA) (T_kn tA)) 2), zzI cy (rO 3) 5 (onR (T_mk (T_nb tA) (T_np tA) (T_sd tA) (T_wh tA) (T_gn tA) (upd (T_wo tA) (T_nb tA) iA) (T_ne tA) (T_go tA) (T_ag tA) (T_re tA) (T_me tA) (T_te tA) (T_kn tA)) 3), zzI cy (rO 4) 5 (onR (T_mk (T_nb tA) (T_np tA) (T_sd tA) (T_wh tA) (T_gn tA) (upd (T_wo tA) (T_nb tA) iA) (T_ne tA) (T_go tA) (T_ag tA) (T_re tA) (T_me tA) (T_te tA) (T_kn tA)) 4), zzI cy (rO 5) 5 (onR (T_mk (T_nb tA) (T_np tA) (T_sd tA) (T_wh tA) (T_gn tA) (upd (T_wo tA) (T_nb tA) iA) (T_ne tA) (T_go tA) (T_ag tA) (T_re tA) (T_me tA) (T_te tA) (T_kn tA)) 5), zzI cy (rO 6) 5 (onR (T_mk (T_nb tA) (T_np tA) (T_sd tA) (T_wh tA) (T_gn tA) (upd (T_wo tA) (T_nb tA) iA) (T_ne tA) (T_go tA) (T_ag tA) (T_re tA) (T_me tA) (T_te tA) (T_kn tA)) 6), zzI cy (rO 7) 5 (onR (T_mk (T_nb tA) (T_np tA) (T_sd tA) (T_wh tA) (T_gn tA) (upd (T_wo tA) (T_nb tA) iA) (T_ne tA) (T_go tA) (T_ag tA) (T_re tA) (T_me tA) (T_te tA) (T_kn tA)) 7), zzG cy 3 qmK rK, zzI cy (rK 0) 8 (T_kn (T_mk (T_nb tA) (T_np tA) (T_sd tA) (T_wh tA) (T_gn tA) (upd (T_wo tA) (T_nb tA) iA) (T_ne tA) (T_go tA) (T_ag tA) (T_re tA) (T_me tA) (T_te tA) (T_kn tA)) 0), zzI cy (rK 1) 8 (T_kn (T_mk (T_nb tA) (T_np tA) (T_sd tA) (T_wh tA) (T_gn tA) (upd (T_wo tA) (T_nb tA) iA) (T_ne tA) (T_go tA) (T_ag tA) (T_re tA) (T_me tA) (T_te tA) (T_kn tA)) 1), zzI cy (rK 2) 8 (T_kn (T_mk (T_nb tA) (T_np tA) (T_sd tA) (T_wh tA) (T_gn tA) (upd (T_wo tA) (T_nb tA) iA) (T_ne tA) (T_go tA) (T_ag tA) (T_re tA) (T_me tA) (T_te tA) (T_kn tA)) 2), zzI cy (rK 3) 8 (T_kn (T_mk (T_nb tA) (T_np tA) (T_sd tA) (T_wh tA) (T_gn tA) (upd (T_wo tA) (T_nb tA) iA) (T_ne tA) (T_go tA) (T_ag tA) (T_re tA) (T_me tA) (T_te tA) (T_kn tA)) 3), zzI cy (rK 4) 8 (T_kn (T_mk (T_nb tA) (T_np tA) (T_sd tA) (T_wh tA) (T_gn tA) (upd (T_wo tA) (T_nb tA) iA) (T_ne tA) (T_go tA) (T_ag tA) (T_re tA) (T_me tA) (T_te tA) (T_kn tA)) 4), zzI cy (rK 5) 8 (T_kn (T_mk (T_nb tA) (T_np tA) (T_sd tA) (T_wh tA) (T_gn tA) (upd (T_wo tA) (T_nb tA) iA) (T_ne tA) (T_go tA) (T_ag tA) (T_re tA) (T_me tA) (T_te tA) (T_kn tA)) 5), zzI cy (rK 6) 8 (T_kn (T_mk (T_nb tA) (T_np tA) (T_sd tA) (T_wh tA) (T_gn tA) (upd (T_wo tA) (T_nb tA) iA) (T_ne tA) (T_go tA) (T_ag tA) (T_re tA) (T_me tA) (T_te tA) (T_kn tA)) 6), zzI cy (rK 7) 8 (T_kn (T_mk (T_nb tA) (T_np tA) (T_sd tA) (T_wh tA) (T_gn tA) (upd (T_wo tA) (T_nb tA) iA) (T_ne tA) (T_go tA) (T_ag tA) (T_re tA) (T_me tA) (T_te tA) (T_kn tA)) 7)]) (k := (T_nb tA)) (g1 := bkR (T_mk (T_nb tA) (T_np tA) (T_sd tA) (T_wh tA) (T_gn tA) (upd (T_wo tA) (T_nb tA) iA) (T_ne tA) (T_go tA) (T_ag tA) (T_re tA) (T_me tA) (T_te tA) (T_kn tA)) (T_nb tA)) hP hD (sg8 (n0 := 2) (f := (fun j => zzI cy (rB j) 4 (bkR tA j))) rfl rfl rfl rfl rfl rfl rfl rfl) (sg8 (n0 := 2) (f := (fun j => zzI cy (rB j) 4 (bkR (T_mk (T_nb tA) (T_np tA) (T_sd tA) (T_wh tA) (T_gn tA) (upd (T_wo tA) (T_nb tA) iA) (T_ne tA) (T_go tA) (T_ag tA) (T_re tA) (T_me tA) (T_te tA) (T_kn tA)) j))) rfl rfl rfl rfl rfl rfl rfl rfl) rfl rfl (by omega) rfl (fun i _ => (congrFun (bk_u0 tA (T_nb tA) iA) i).symm) (fun j hj => congrArg (zzI cy (rB j) 4) (bk_n0 tA (T_nb tA) iA hj))
  clear hP hD
  obtain ⟨hP, hD⟩ := hPD
  refine lv_aload_n hx hb (g_42 bX6_newBook rfl) rfl (lv_at hl 0 rfl) ?_
  refine va_get (D := G) (ci := 5) (v := .ref qmB) (C := RX6) (T := TX6) (N := 35) hx hb hts iX_X6 hown hK hP 0 rfl rfl 11 (by decide +kernel) (hts _ m_t861) (fun _ h9 => h9) rfl (g_180 (v := 42) bX6_newBook rfl) ?_
  refine lv_aload_n hx hb (g_42 bX6_newBook rfl) rfl (lv_at hl 0 rfl) ?_
  refine va_get (D := G) (ci := 5) (v := .int (nI (T_nb tA))) (C := RX6) (T := TX6) (N := 35) hx hb hts iX_X6 hown hK hP 0 rfl rfl 10 (by decide +kernel) (hts _ m_t860) (fun _ h9 => h9) rfl (g_180 (v := 71) bX6_newBook rfl) ?_
  refine va_alda hx hb hK hP 1 3 rfl rfl (in8 (by omega)) (g_50 bX6_newBook rfl) ?_
  refine lv_setv (v := .ref (rB (T_nb tA))) (g_ref (by omega)) ?_
  refine lv_iconst (v := 1) hx hb (g_4 bX6_newBook rfl) (by decide +kernel) ?_
  refine lv_iconst (v := 0) hx hb (g_3 bX6_newBook rfl) (by decide +kernel) ?_
  refine va_iast hx hb hK hP hD hS (2 + (T_nb tA)) 0 ((sg8 (n0 := 2) (f := (fun j => zzI cy (rB j) 4 (bkR (T_mk (T_nb tA) (T_np tA) (T_sd tA) (T_wh tA) (T_gn tA) (upd (T_wo tA) (T_nb tA) iA) (T_ne tA) (T_go tA) (T_ag tA) (T_re tA) (T_me tA) (T_te tA) (T_kn tA)) j))) rfl rfl rfl rfl rfl rfl rfl rfl) (T_nb tA) (by omega)) rfl (in_c rfl) (g_79 bX6_newBook rfl) (fun H locs => ?_)
  clear hP hD hS
  intro hP hD hS
  have hPD := st8PD (ws' := [zzO qm 5 (v0 :: v1 :: v2 :: v3 :: v4 :: v5 :: v6 :: v7 :: v8 :: v9 :: .int (nI (T_nb tA)) :: .ref qmB :: .int (nI (T_np tA)) :: .ref qmO :: .ref qmK :: .int iEn :: .int iTk :: .int (T_sd tA) :: v18 :: v19 :: v20 :: v21 :: v22 :: v23 :: v24 :: v25 :: v26 :: .int iLv :: .int iWs :: v29 :: v30 :: v31 :: v32 :: v33 :: v34 :: []), zzG cy 3 qmB rB, zzI cy (rB 0) 4 (bkR (T_mk (T_nb tA) (T_np tA) (T_sd tA) (T_wh tA) (T_gn tA) (upd (T_wo tA) (T_nb tA) iA) (upd (T_ne tA) (T_nb tA) 0) (T_go tA) (T_ag tA) (T_re tA) (T_me tA) (T_te tA) (T_kn tA)) 0), zzI cy (rB 1) 4 (bkR (T_mk (T_nb tA) (T_np tA) (T_sd tA) (T_wh tA) (T_gn tA) (upd (T_wo tA) (T_nb tA) iA) (upd (T_ne tA) (T_nb tA) 0) (T_go tA) (T_ag tA) (T_re tA) (T_me tA) (T_te tA) (T_kn tA)) 1), zzI cy (rB 2) 4 (bkR (T_mk (T_nb tA) (T_np tA) (T_sd tA) (T_wh tA) (T_gn tA) (upd (T_wo tA) (T_nb tA) iA) (upd (T_ne tA) (T_nb tA) 0) (T_go tA) (T_ag tA) (T_re tA) (T_me tA) (T_te tA) (T_kn tA)) 2), zzI cy (rB 3) 4 (bkR (T_mk (T_nb tA) (T_np tA) (T_sd tA) (T_wh tA) (T_gn tA) (upd (T_wo tA) (T_nb tA) iA) (upd (T_ne tA) (T_nb tA) 0) (T_go tA) (T_ag tA) (T_re tA) (T_me tA) (T_te tA) (T_kn tA)) 3), zzI cy (rB 4) 4 (bkR (T_mk (T_nb tA) (T_np tA) (T_sd tA) (T_wh tA) (T_gn tA) (upd (T_wo tA) (T_nb tA) iA) (upd (T_ne tA) (T_nb tA) 0) (T_go tA) (T_ag tA) (T_re tA) (T_me tA) (T_te tA) (T_kn tA)) 4), zzI cy (rB 5) 4 (bkR (T_mk (T_nb tA) (T_np tA) (T_sd tA) (T_wh tA) (T_gn tA) (upd (T_wo tA) (T_nb tA) iA) (upd (T_ne tA) (T_nb tA) 0) (T_go tA) (T_ag tA) (T_re tA) (T_me tA) (T_te tA) (T_kn tA)) 5), zzI cy (rB 6) 4 (bkR (T_mk (T_nb tA) (T_np tA) (T_sd tA) (T_wh tA) (T_gn tA) (upd (T_wo tA) (T_nb tA) iA) (upd (T_ne tA) (T_nb tA) 0) (T_go tA) (T_ag tA) (T_re tA) (T_me tA) (T_te tA) (T_kn tA)) 6), zzI cy (rB 7) 4 (bkR (T_mk (T_nb tA) (T_np tA) (T_sd tA) (T_wh tA) (T_gn tA) (upd (T_wo tA) (T_nb tA) iA) (upd (T_ne tA) (T_nb tA) 0) (T_go tA) (T_ag tA) (T_re tA) (T_me tA) (T_te tA) (T_kn tA)) 7), zzG cy 3 qmO rO, zzI cy (rO 0) 5 (onR (T_mk (T_nb tA) (T_np tA) (T_sd tA) (T_wh tA) (T_gn tA) (upd (T_wo tA) (T_nb tA) iA) (upd (T_ne tA) (T_nb tA) 0) (T_go tA) (T_ag tA) (T_re tA) (T_me tA) (T_te tA) (T_kn tA)) 0), zzI cy (rO 1) 5 (onR (T_mk (T_nb tA) (T_np tA) (T_sd tA) (T_wh tA) (T_gn tA) (upd (T_wo tA) (T_nb tA) iA) (upd (T_ne tA) (T_nb tA) 0) (T_go tA) (T_ag tA) (T_re tA) (T_me tA) (T_te tA) (T_kn tA)) 1), zzI cy (rO 2) 5 (onR (T_mk (T_nb tA) (T_np tA) (T_sd tA) (T_wh tA) (T_gn tA) (upd (T_wo tA) (T_nb tA) iA) (upd (T_ne tA) (T_nb tA) 0) (T_go tA) (T_ag tA) (T_re tA) (T_me tA) (T_te tA) (T_kn tA)) 2), zzI cy (rO 3) 5 (onR (T_mk (T_nb tA) (T_np tA) (T_sd tA) (T_wh tA) (T_gn tA) (upd (T_wo tA) (T_nb tA) iA) (upd (T_ne tA) (T_nb tA) 0) (T_go tA) (T_ag tA) (T_re tA) (T_me tA) (T_te tA) (T_kn tA)) 3), zzI cy (rO 4) 5 (onR (T_mk (T_nb tA) (T_np tA) (T_sd tA) (T_wh tA) (T_gn tA) (upd (T_wo tA) (T_nb tA) iA) (upd (T_ne tA) (T_nb tA) 0) (T_go tA) (T_ag tA) (T_re tA) (T_me tA) (T_te tA) (T_kn tA)) 4), zzI cy (rO 5) 5 (onR (T_mk (T_nb tA) (T_np tA) (T_sd tA) (T_wh tA) (T_gn tA) (upd (T_wo tA) (T_nb tA) iA) (upd (T_ne tA) (T_nb tA) 0) (T_go tA) (T_ag tA) (T_re tA) (T_me tA) (T_te tA) (T_kn tA)) 5), zzI cy (rO 6) 5 (onR (T_mk (T_nb tA) (T_np tA) (T_sd tA) (T_wh tA) (T_gn tA) (upd (T_wo tA) (T_nb tA) iA) (upd (T_ne tA) (T_nb tA) 0) (T_go tA) (T_ag tA) (T_re tA) (T_me tA) (T_te tA) (T_kn tA)) 6), zzI cy (rO 7) 5 (onR (T_mk (T_nb tA) (T_np tA) (T_sd tA) (T_wh tA) (T_gn tA) (upd (T_wo tA) (T_nb tA) iA) (upd (T_ne tA) (T_nb tA) 0) (T_go tA) (T_ag tA) (T_re tA) (T_me tA) (T_te tA) (T_kn tA)) 7), zzG cy 3 qmK rK, zzI cy (rK 0) 8 (T_kn (T_mk (T_nb tA) (T_np tA) (T_sd tA) (T_wh tA) (T_gn tA) (upd (T_wo tA) (T_nb tA) iA) (upd (T_ne tA) (T_nb tA) 0) (T_go tA) (T_ag tA) (T_re tA) (T_me tA) (T_te tA) (T_kn tA)) 0), zzI cy (rK 1) 8 (T_kn (T_mk (T_nb tA) (T_np tA) (T_sd tA) (T_wh tA) (T_gn tA) (upd (T_wo tA) (T_nb tA) iA) (upd (T_ne tA) (T_nb tA) 0) (T_go tA) (T_ag tA) (T_re tA) (T_me tA) (T_te tA) (T_kn tA)) 1), zzI cy (rK 2) 8 (T_kn (T_mk (T_nb tA) (T_np tA) (T_sd tA) (T_wh tA) (T_gn tA) (upd (T_wo tA) (T_nb tA) iA) (upd (T_ne tA) (T_nb tA) 0) (T_go tA) (T_ag tA) (T_re tA) (T_me tA) (T_te tA) (T_kn tA)) 2), zzI cy (rK 3) 8 (T_kn (T_mk (T_nb tA) (T_np tA) (T_sd tA) (T_wh tA) (T_gn tA) (upd (T_wo tA) (T_nb tA) iA) (upd (T_ne tA) (T_nb tA) 0) (T_go tA) (T_ag tA) (T_re tA) (T_me tA) (T_te tA) (T_kn tA)) 3), zzI cy (rK 4) 8 (T_kn (T_mk (T_nb tA) (T_np tA) (T_sd tA) (T_wh tA) (T_gn tA) (upd (T_wo tA) (T_nb tA) iA) (upd (T_ne tA) (T_nb tA) 0) (T_go tA) (T_ag tA) (T_re tA) (T_me tA) (T_te tA) (T_kn tA)) 4), zzI cy (rK 5) 8 (T_kn (T_mk (T_nb tA) (T_np tA) (T_sd tA) (T_wh tA) (T_gn tA) (upd (T_wo tA) (T_nb tA) iA) (upd (T_ne tA) (T_nb tA) 0) (T_go tA) (T_ag tA) (T_re tA) (T_me tA) (T_te tA) (T_kn tA)) 5), zzI cy (rK 6) 8 (T_kn (T_mk (T_nb tA) (T_np tA) (T_sd tA) (T_wh tA) (T_gn tA) (upd (T_wo tA) (T_nb tA) iA) (upd (T_ne tA) (T_nb tA) 0) (T_go tA) (T_ag tA) (T_re tA) (T_me tA) (T_te tA) (T_kn tA)) 6), zzI cy (rK 7) 8 (T_kn (T_mk (T_nb tA) (T_np tA) (T_sd tA) (T_wh tA) (T_gn tA) (upd (T_wo tA) (T_nb tA) iA) (upd (T_ne tA) (T_nb tA) 0) (T_go tA) (T_ag tA) (T_re tA) (T_me tA) (T_te tA) (T_kn tA)) 7)]) (k := (T_nb tA)) (g1 := bkR (T_mk (T_nb tA) (T_np tA) (T_sd tA) (T_wh tA) (T_gn tA) (upd (T_wo tA) (T_nb tA) iA) (upd (T_ne tA) (T_nb tA) 0) (T_go tA) (T_ag tA) (T_re tA) (T_me tA) (T_te tA) (T_kn tA)) (T_nb tA)) hP hD (sg8 (n0 := 2) (f := (fun j => zzI cy (rB j) 4 (bkR (T_mk (T_nb tA) (T_np tA) (T_sd tA) (T_wh tA) (T_gn tA) (upd (T_wo tA) (T_nb tA) iA) (T_ne tA) (T_go tA) (T_ag tA) (T_re tA) (T_me tA) (T_te tA) (T_kn tA)) j))) rfl rfl rfl rfl rfl rfl rfl rfl) (sg8 (n0 := 2) (f := (fun j => zzI cy (rB j) 4 (bkR (T_mk (T_nb tA) (T_np tA) (T_sd tA) (T_wh tA) (T_gn tA) (upd (T_wo tA) (T_nb tA) iA) (upd (T_ne tA) (T_nb tA) 0) (T_go tA) (T_ag tA) (T_re tA) (T_me tA) (T_te tA) (T_kn tA)) j))) rfl rfl rfl rfl rfl rfl rfl rfl) rfl rfl (by omega) rfl (fun i _ => (congrFun (bk_u1 (T_mk (T_nb tA) (T_np tA) (T_sd tA) (T_wh tA) (T_gn tA) (upd (T_wo tA) (T_nb tA) iA) (T_ne tA) (T_go tA) (T_ag tA) (T_re tA) (T_me tA) (T_te tA) (T_kn tA)) (T_nb tA) 0) i).symm) (fun j hj => congrArg (zzI cy (rB j) 4) (bk_n1 (T_mk (T_nb tA) (T_np tA) (T_sd tA) (T_wh tA) (T_gn tA) (upd (T_wo tA) (T_nb tA) iA) (T_ne tA) (T_go tA) (T_ag tA) (T_re tA) (T_me tA) (T_te tA) (T_kn tA)) (T_nb tA) 0 hj))
  clear hP hD
  obtain ⟨hP, hD⟩ := hPD
  refine lv_aload_n hx hb (g_42 bX6_newBook rfl) rfl (lv_at hl 0 rfl) ?_
  refine va_get (D := G) (ci := 5) (v := .ref qmB) (C := RX6) (T := TX6) (N := 35) hx hb hts iX_X6 hown hK hP 0 rfl rfl 11 (by decide +kernel) (hts _ m_t861) (fun _ h9 => h9) rfl (g_180 (v := 42) bX6_newBook rfl) ?_
  refine lv_aload_n hx hb (g_42 bX6_newBook rfl) rfl (lv_at hl 0 rfl) ?_
  refine va_get (D := G) (ci := 5) (v := .int (nI (T_nb tA))) (C := RX6) (T := TX6) (N := 35) hx hb hts iX_X6 hown hK hP 0 rfl rfl 10 (by decide +kernel) (hts _ m_t860) (fun _ h9 => h9) rfl (g_180 (v := 71) bX6_newBook rfl) ?_
  refine va_alda hx hb hK hP 1 3 rfl rfl (in8 (by omega)) (g_50 bX6_newBook rfl) ?_
  refine lv_setv (v := .ref (rB (T_nb tA))) (g_ref (by omega)) ?_
  refine lv_iconst (v := 2) hx hb (g_5 bX6_newBook rfl) (by decide +kernel) ?_
  refine lv_sipush (v := 1000) hx hb dX6_newBook_34 (by decide +kernel) ?_
  refine va_iast hx hb hK hP hD hS (2 + (T_nb tA)) 0 ((sg8 (n0 := 2) (f := (fun j => zzI cy (rB j) 4 (bkR (T_mk (T_nb tA) (T_np tA) (T_sd tA) (T_wh tA) (T_gn tA) (upd (T_wo tA) (T_nb tA) iA) (upd (T_ne tA) (T_nb tA) 0) (T_go tA) (T_ag tA) (T_re tA) (T_me tA) (T_te tA) (T_kn tA)) j))) rfl rfl rfl rfl rfl rfl rfl rfl) (T_nb tA) (by omega)) rfl (in_c rfl) (g_79 bX6_newBook rfl) (fun H locs => ?_)
  clear hP hD hS
  intro hP hD hS
  have hPD := st8PD (ws' := [zzO qm 5 (v0 :: v1 :: v2 :: v3 :: v4 :: v5 :: v6 :: v7 :: v8 :: v9 :: .int (nI (T_nb tA)) :: .ref qmB :: .int (nI (T_np tA)) :: .ref qmO :: .ref qmK :: .int iEn :: .int iTk :: .int (T_sd tA) :: v18 :: v19 :: v20 :: v21 :: v22 :: v23 :: v24 :: v25 :: v26 :: .int iLv :: .int iWs :: v29 :: v30 :: v31 :: v32 :: v33 :: v34 :: []), zzG cy 3 qmB rB, zzI cy (rB 0) 4 (bkR (T_mk (T_nb tA) (T_np tA) (T_sd tA) (T_wh tA) (T_gn tA) (upd (T_wo tA) (T_nb tA) iA) (upd (T_ne tA) (T_nb tA) 0) (upd (T_go tA) (T_nb tA) 1000) (T_ag tA) (T_re tA) (T_me tA) (T_te tA) (T_kn tA)) 0), zzI cy (rB 1) 4 (bkR (T_mk (T_nb tA) (T_np tA) (T_sd tA) (T_wh tA) (T_gn tA) (upd (T_wo tA) (T_nb tA) iA) (upd (T_ne tA) (T_nb tA) 0) (upd (T_go tA) (T_nb tA) 1000) (T_ag tA) (T_re tA) (T_me tA) (T_te tA) (T_kn tA)) 1), zzI cy (rB 2) 4 (bkR (T_mk (T_nb tA) (T_np tA) (T_sd tA) (T_wh tA) (T_gn tA) (upd (T_wo tA) (T_nb tA) iA) (upd (T_ne tA) (T_nb tA) 0) (upd (T_go tA) (T_nb tA) 1000) (T_ag tA) (T_re tA) (T_me tA) (T_te tA) (T_kn tA)) 2), zzI cy (rB 3) 4 (bkR (T_mk (T_nb tA) (T_np tA) (T_sd tA) (T_wh tA) (T_gn tA) (upd (T_wo tA) (T_nb tA) iA) (upd (T_ne tA) (T_nb tA) 0) (upd (T_go tA) (T_nb tA) 1000) (T_ag tA) (T_re tA) (T_me tA) (T_te tA) (T_kn tA)) 3), zzI cy (rB 4) 4 (bkR (T_mk (T_nb tA) (T_np tA) (T_sd tA) (T_wh tA) (T_gn tA) (upd (T_wo tA) (T_nb tA) iA) (upd (T_ne tA) (T_nb tA) 0) (upd (T_go tA) (T_nb tA) 1000) (T_ag tA) (T_re tA) (T_me tA) (T_te tA) (T_kn tA)) 4), zzI cy (rB 5) 4 (bkR (T_mk (T_nb tA) (T_np tA) (T_sd tA) (T_wh tA) (T_gn tA) (upd (T_wo tA) (T_nb tA) iA) (upd (T_ne tA) (T_nb tA) 0) (upd (T_go tA) (T_nb tA) 1000) (T_ag tA) (T_re tA) (T_me tA) (T_te tA) (T_kn tA)) 5), zzI cy (rB 6) 4 (bkR (T_mk (T_nb tA) (T_np tA) (T_sd tA) (T_wh tA) (T_gn tA) (upd (T_wo tA) (T_nb tA) iA) (upd (T_ne tA) (T_nb tA) 0) (upd (T_go tA) (T_nb tA) 1000) (T_ag tA) (T_re tA) (T_me tA) (T_te tA) (T_kn tA)) 6), zzI cy (rB 7) 4 (bkR (T_mk (T_nb tA) (T_np tA) (T_sd tA) (T_wh tA) (T_gn tA) (upd (T_wo tA) (T_nb tA) iA) (upd (T_ne tA) (T_nb tA) 0) (upd (T_go tA) (T_nb tA) 1000) (T_ag tA) (T_re tA) (T_me tA) (T_te tA) (T_kn tA)) 7), zzG cy 3 qmO rO, zzI cy (rO 0) 5 (onR (T_mk (T_nb tA) (T_np tA) (T_sd tA) (T_wh tA) (T_gn tA) (upd (T_wo tA) (T_nb tA) iA) (upd (T_ne tA) (T_nb tA) 0) (upd (T_go tA) (T_nb tA) 1000) (T_ag tA) (T_re tA) (T_me tA) (T_te tA) (T_kn tA)) 0), zzI cy (rO 1) 5 (onR (T_mk (T_nb tA) (T_np tA) (T_sd tA) (T_wh tA) (T_gn tA) (upd (T_wo tA) (T_nb tA) iA) (upd (T_ne tA) (T_nb tA) 0) (upd (T_go tA) (T_nb tA) 1000) (T_ag tA) (T_re tA) (T_me tA) (T_te tA) (T_kn tA)) 1), zzI cy (rO 2) 5 (onR (T_mk (T_nb tA) (T_np tA) (T_sd tA) (T_wh tA) (T_gn tA) (upd (T_wo tA) (T_nb tA) iA) (upd (T_ne tA) (T_nb tA) 0) (upd (T_go tA) (T_nb tA) 1000) (T_ag tA) (T_re tA) (T_me tA) (T_te tA) (T_kn tA)) 2), zzI cy (rO 3) 5 (onR (T_mk (T_nb tA) (T_np tA) (T_sd tA) (T_wh tA) (T_gn tA) (upd (T_wo tA) (T_nb tA) iA) (upd (T_ne tA) (T_nb tA) 0) (upd (T_go tA) (T_nb tA) 1000) (T_ag tA) (T_re tA) (T_me tA) (T_te tA) (T_kn tA)) 3), zzI cy (rO 4) 5 (onR (T_mk (T_nb tA) (T_np tA) (T_sd tA) (T_wh tA) (T_gn tA) (upd (T_wo tA) (T_nb tA) iA) (upd (T_ne tA) (T_nb tA) 0) (upd (T_go tA) (T_nb tA) 1000) (T_ag tA) (T_re tA) (T_me tA) (T_te tA) (T_kn tA)) 4), zzI cy (rO 5) 5 (onR (T_mk (T_nb tA) (T_np tA) (T_sd tA) (T_wh tA) (T_gn tA) (upd (T_wo tA) (T_nb tA) iA) (upd (T_ne tA) (T_nb tA) 0) (upd (T_go tA) (T_nb tA) 1000) (T_ag tA) (T_re tA) (T_me tA) (T_te tA) (T_kn tA)) 5), zzI cy (rO 6) 5 (onR (T_mk (T_nb tA) (T_np tA) (T_sd tA) (T_wh tA) (T_gn tA) (upd (T_wo tA) (T_nb tA) iA) (upd (T_ne tA) (T_nb tA) 0) (upd (T_go tA) (T_nb tA) 1000) (T_ag tA) (T_re tA) (T_me tA) (T_te tA) (T_kn tA)) 6), zzI cy (rO 7) 5 (onR (T_mk (T_nb tA) (T_np tA) (T_sd tA) (T_wh tA) (T_gn tA) (upd (T_wo tA) (T_nb tA) iA) (upd (T_ne tA) (T_nb tA) 0) (upd (T_go tA) (T_nb tA) 1000) (T_ag tA) (T_re tA) (T_me tA) (T_te tA) (T_kn tA)) 7), zzG cy 3 qmK rK, zzI cy (rK 0) 8 (T_kn (T_mk (T_nb tA) (T_np tA) (T_sd tA) (T_wh tA) (T_gn tA) (upd (T_wo tA) (T_nb tA) iA) (upd (T_ne tA) (T_nb tA) 0) (upd (T_go tA) (T_nb tA) 1000) (T_ag tA) (T_re tA) (T_me tA) (T_te tA) (T_kn tA)) 0), zzI cy (rK 1) 8 (T_kn (T_mk (T_nb tA) (T_np tA) (T_sd tA) (T_wh tA) (T_gn tA) (upd (T_wo tA) (T_nb tA) iA) (upd (T_ne tA) (T_nb tA) 0) (upd (T_go tA) (T_nb tA) 1000) (T_ag tA) (T_re tA) (T_me tA) (T_te tA) (T_kn tA)) 1), zzI cy (rK 2) 8 (T_kn (T_mk (T_nb tA) (T_np tA) (T_sd tA) (T_wh tA) (T_gn tA) (upd (T_wo tA) (T_nb tA) iA) (upd (T_ne tA) (T_nb tA) 0) (upd (T_go tA) (T_nb tA) 1000) (T_ag tA) (T_re tA) (T_me tA) (T_te tA) (T_kn tA)) 2), zzI cy (rK 3) 8 (T_kn (T_mk (T_nb tA) (T_np tA) (T_sd tA) (T_wh tA) (T_gn tA) (upd (T_wo tA) (T_nb tA) iA) (upd (T_ne tA) (T_nb tA) 0) (upd (T_go tA) (T_nb tA) 1000) (T_ag tA) (T_re tA) (T_me tA) (T_te tA) (T_kn tA)) 3), zzI cy (rK 4) 8 (T_kn (T_mk (T_nb tA) (T_np tA) (T_sd tA) (T_wh tA) (T_gn tA) (upd (T_wo tA) (T_nb tA) iA) (upd (T_ne tA) (T_nb tA) 0) (upd (T_go tA) (T_nb tA) 1000) (T_ag tA) (T_re tA) (T_me tA) (T_te tA) (T_kn tA)) 4), zzI cy (rK 5) 8 (T_kn (T_mk (T_nb tA) (T_np tA) (T_sd tA) (T_wh tA) (T_gn tA) (upd (T_wo tA) (T_nb tA) iA) (upd (T_ne tA) (T_nb tA) 0) (upd (T_go tA) (T_nb tA) 1000) (T_ag tA) (T_re tA) (T_me tA) (T_te tA) (T_kn tA)) 5), zzI cy (rK 6) 8 (T_kn (T_mk (T_nb tA) (T_np tA) (T_sd tA) (T_wh tA) (T_gn tA) (upd (T_wo tA) (T_nb tA) iA) (upd (T_ne tA) (T_nb tA) 0) (upd (T_go tA) (T_nb tA) 1000) (T_ag tA) (T_re tA) (T_me tA) (T_te tA) (T_kn tA)) 6), zzI cy (rK 7) 8 (T_kn (T_mk (T_nb tA) (T_np tA) (T_sd tA) (T_wh tA) (T_gn tA) (upd (T_wo tA) (T_nb tA) iA) (upd (T_ne tA) (T_nb tA) 0) (upd (T_go tA) (T_nb tA) 1000) (T_ag tA) (T_re tA) (T_me tA) (T_te tA) (T_kn tA)) 7)]) (k := (T_nb tA)) (g1 := bkR (T_mk (T_nb tA) (T_np tA) (T_sd tA) (T_wh tA) (T_gn tA) (upd (T_wo tA) (T_nb tA) iA) (upd (T_ne tA) (T_nb tA) 0) (upd (T_go tA) (T_nb tA) 1000) (T_ag tA) (T_re tA) (T_me tA) (T_te tA) (T_kn tA)) (T_nb tA)) hP hD (sg8 (n0 := 2) (f := (fun j => zzI cy (rB j) 4 (bkR (T_mk (T_nb tA) (T_np tA) (T_sd tA) (T_wh tA) (T_gn tA) (upd (T_wo tA) (T_nb tA) iA) (upd (T_ne tA) (T_nb tA) 0) (T_go tA) (T_ag tA) (T_re tA) (T_me tA) (T_te tA) (T_kn tA)) j))) rfl rfl rfl rfl rfl rfl rfl rfl) (sg8 (n0 := 2) (f := (fun j => zzI cy (rB j) 4 (bkR (T_mk (T_nb tA) (T_np tA) (T_sd tA) (T_wh tA) (T_gn tA) (upd (T_wo tA) (T_nb tA) iA) (upd (T_ne tA) (T_nb tA) 0) (upd (T_go tA) (T_nb tA) 1000) (T_ag tA) (T_re tA) (T_me tA) (T_te tA) (T_kn tA)) j))) rfl rfl rfl rfl rfl rfl rfl rfl) rfl rfl (by omega) rfl (fun i _ => (congrFun (bk_u2 (T_mk (T_nb tA) (T_np tA) (T_sd tA) (T_wh tA) (T_gn tA) (upd (T_wo tA) (T_nb tA) iA) (upd (T_ne tA) (T_nb tA) 0) (T_go tA) (T_ag tA) (T_re tA) (T_me tA) (T_te tA) (T_kn tA)) (T_nb tA) 1000) i).symm) (fun j hj => congrArg (zzI cy (rB j) 4) (bk_n2 (T_mk (T_nb tA) (T_np tA) (T_sd tA) (T_wh tA) (T_gn tA) (upd (T_wo tA) (T_nb tA) iA) (upd (T_ne tA) (T_nb tA) 0) (T_go tA) (T_ag tA) (T_re tA) (T_me tA) (T_te tA) (T_kn tA)) (T_nb tA) 1000 hj))
  clear hP hD
  obtain ⟨hP, hD⟩ := hPD
  refine lv_aload_n hx hb (g_42 bX6_newBook rfl) rfl (lv_at hl 0 rfl) ?_
  refine va_get (D := G) (ci := 5) (v := .ref qmB) (C := RX6) (T := TX6) (N := 35) hx hb hts iX_X6 hown hK hP 0 rfl rfl 11 (by decide +kernel) (hts _ m_t861) (fun _ h9 => h9) rfl (g_180 (v := 42) bX6_newBook rfl) ?_
  refine lv_aload_n hx hb (g_42 bX6_newBook rfl) rfl (lv_at hl 0 rfl) ?_
  refine va_get (D := G) (ci := 5) (v := .int (nI (T_nb tA))) (C := RX6) (T := TX6) (N := 35) hx hb hts iX_X6 hown hK hP 0 rfl rfl 10 (by decide +kernel) (hts _ m_t860) (fun _ h9 => h9) rfl (g_180 (v := 71) bX6_newBook rfl) ?_
  refine va_alda hx hb hK hP 1 3 rfl rfl (in8 (by omega)) (g_50 bX6_newBook rfl) ?_
  refine lv_setv (v := .ref (rB (T_nb tA))) (g_ref (by omega)) ?_
  refine lv_iconst (v := 3) hx hb (g_6 bX6_newBook rfl) (by decide +kernel) ?_
  refine lv_iconst (v := 0) hx hb (g_3 bX6_newBook rfl) (by decide +kernel) ?_
  refine va_iast hx hb hK hP hD hS (2 + (T_nb tA)) 0 ((sg8 (n0 := 2) (f := (fun j => zzI cy (rB j) 4 (bkR (T_mk (T_nb tA) (T_np tA) (T_sd tA) (T_wh tA) (T_gn tA) (upd (T_wo tA) (T_nb tA) iA) (upd (T_ne tA) (T_nb tA) 0) (upd (T_go tA) (T_nb tA) 1000) (T_ag tA) (T_re tA) (T_me tA) (T_te tA) (T_kn tA)) j))) rfl rfl rfl rfl rfl rfl rfl rfl) (T_nb tA) (by omega)) rfl (in_c rfl) (g_79 bX6_newBook rfl) (fun H locs => ?_)
  clear hP hD hS
  intro hP hD hS
  have hPD := st8PD (ws' := [zzO qm 5 (v0 :: v1 :: v2 :: v3 :: v4 :: v5 :: v6 :: v7 :: v8 :: v9 :: .int (nI (T_nb tA)) :: .ref qmB :: .int (nI (T_np tA)) :: .ref qmO :: .ref qmK :: .int iEn :: .int iTk :: .int (T_sd tA) :: v18 :: v19 :: v20 :: v21 :: v22 :: v23 :: v24 :: v25 :: v26 :: .int iLv :: .int iWs :: v29 :: v30 :: v31 :: v32 :: v33 :: v34 :: []), zzG cy 3 qmB rB, zzI cy (rB 0) 4 (bkR (T_mk (T_nb tA) (T_np tA) (T_sd tA) (updB (T_wh tA) (T_nb tA) false) (T_gn tA) (upd (T_wo tA) (T_nb tA) iA) (upd (T_ne tA) (T_nb tA) 0) (upd (T_go tA) (T_nb tA) 1000) (T_ag tA) (T_re tA) (T_me tA) (T_te tA) (T_kn tA)) 0), zzI cy (rB 1) 4 (bkR (T_mk (T_nb tA) (T_np tA) (T_sd tA) (updB (T_wh tA) (T_nb tA) false) (T_gn tA) (upd (T_wo tA) (T_nb tA) iA) (upd (T_ne tA) (T_nb tA) 0) (upd (T_go tA) (T_nb tA) 1000) (T_ag tA) (T_re tA) (T_me tA) (T_te tA) (T_kn tA)) 1), zzI cy (rB 2) 4 (bkR (T_mk (T_nb tA) (T_np tA) (T_sd tA) (updB (T_wh tA) (T_nb tA) false) (T_gn tA) (upd (T_wo tA) (T_nb tA) iA) (upd (T_ne tA) (T_nb tA) 0) (upd (T_go tA) (T_nb tA) 1000) (T_ag tA) (T_re tA) (T_me tA) (T_te tA) (T_kn tA)) 2), zzI cy (rB 3) 4 (bkR (T_mk (T_nb tA) (T_np tA) (T_sd tA) (updB (T_wh tA) (T_nb tA) false) (T_gn tA) (upd (T_wo tA) (T_nb tA) iA) (upd (T_ne tA) (T_nb tA) 0) (upd (T_go tA) (T_nb tA) 1000) (T_ag tA) (T_re tA) (T_me tA) (T_te tA) (T_kn tA)) 3), zzI cy (rB 4) 4 (bkR (T_mk (T_nb tA) (T_np tA) (T_sd tA) (updB (T_wh tA) (T_nb tA) false) (T_gn tA) (upd (T_wo tA) (T_nb tA) iA) (upd (T_ne tA) (T_nb tA) 0) (upd (T_go tA) (T_nb tA) 1000) (T_ag tA) (T_re tA) (T_me tA) (T_te tA) (T_kn tA)) 4), zzI cy (rB 5) 4 (bkR (T_mk (T_nb tA) (T_np tA) (T_sd tA) (updB (T_wh tA) (T_nb tA) false) (T_gn tA) (upd (T_wo tA) (T_nb tA) iA) (upd (T_ne tA) (T_nb tA) 0) (upd (T_go tA) (T_nb tA) 1000) (T_ag tA) (T_re tA) (T_me tA) (T_te tA) (T_kn tA)) 5), zzI cy (rB 6) 4 (bkR (T_mk (T_nb tA) (T_np tA) (T_sd tA) (updB (T_wh tA) (T_nb tA) false) (T_gn tA) (upd (T_wo tA) (T_nb tA) iA) (upd (T_ne tA) (T_nb tA) 0) (upd (T_go tA) (T_nb tA) 1000) (T_ag tA) (T_re tA) (T_me tA) (T_te tA) (T_kn tA)) 6), zzI cy (rB 7) 4 (bkR (T_mk (T_nb tA) (T_np tA) (T_sd tA) (updB (T_wh tA) (T_nb tA) false) (T_gn tA) (upd (T_wo tA) (T_nb tA) iA) (upd (T_ne tA) (T_nb tA) 0) (upd (T_go tA) (T_nb tA) 1000) (T_ag tA) (T_re tA) (T_me tA) (T_te tA) (T_kn tA)) 7), zzG cy 3 qmO rO, zzI cy (rO 0) 5 (onR (T_mk (T_nb tA) (T_np tA) (T_sd tA) (updB (T_wh tA) (T_nb tA) false) (T_gn tA) (upd (T_wo tA) (T_nb tA) iA) (upd (T_ne tA) (T_nb tA) 0) (upd (T_go tA) (T_nb tA) 1000) (T_ag tA) (T_re tA) (T_me tA) (T_te tA) (T_kn tA)) 0), zzI cy (rO 1) 5 (onR (T_mk (T_nb tA) (T_np tA) (T_sd tA) (updB (T_wh tA) (T_nb tA) false) (T_gn tA) (upd (T_wo tA) (T_nb tA) iA) (upd (T_ne tA) (T_nb tA) 0) (upd (T_go tA) (T_nb tA) 1000) (T_ag tA) (T_re tA) (T_me tA) (T_te tA) (T_kn tA)) 1), zzI cy (rO 2) 5 (onR (T_mk (T_nb tA) (T_np tA) (T_sd tA) (updB (T_wh tA) (T_nb tA) false) (T_gn tA) (upd (T_wo tA) (T_nb tA) iA) (upd (T_ne tA) (T_nb tA) 0) (upd (T_go tA) (T_nb tA) 1000) (T_ag tA) (T_re tA) (T_me tA) (T_te tA) (T_kn tA)) 2), zzI cy (rO 3) 5 (onR (T_mk (T_nb tA) (T_np tA) (T_sd tA) (updB (T_wh tA) (T_nb tA) false) (T_gn tA) (upd (T_wo tA) (T_nb tA) iA) (upd (T_ne tA) (T_nb tA) 0) (upd (T_go tA) (T_nb tA) 1000) (T_ag tA) (T_re tA) (T_me tA) (T_te tA) (T_kn tA)) 3), zzI cy (rO 4) 5 (onR (T_mk (T_nb tA) (T_np tA) (T_sd tA) (updB (T_wh tA) (T_nb tA) false) (T_gn tA) (upd (T_wo tA) (T_nb tA) iA) (upd (T_ne tA) (T_nb tA) 0) (upd (T_go tA) (T_nb tA) 1000) (T_ag tA) (T_re tA) (T_me tA) (T_te tA) (T_kn tA)) 4), zzI cy (rO 5) 5 (onR (T_mk (T_nb tA) (T_np tA) (T_sd tA) (updB (T_wh tA) (T_nb tA) false) (T_gn tA) (upd (T_wo tA) (T_nb tA) iA) (upd (T_ne tA) (T_nb tA) 0) (upd (T_go tA) (T_nb tA) 1000) (T_ag tA) (T_re tA) (T_me tA) (T_te tA) (T_kn tA)) 5), zzI cy (rO 6) 5 (onR (T_mk (T_nb tA) (T_np tA) (T_sd tA) (updB (T_wh tA) (T_nb tA) false) (T_gn tA) (upd (T_wo tA) (T_nb tA) iA) (upd (T_ne tA) (T_nb tA) 0) (upd (T_go tA) (T_nb tA) 1000) (T_ag tA) (T_re tA) (T_me tA) (T_te tA) (T_kn tA)) 6), zzI cy (rO 7) 5 (onR (T_mk (T_nb tA) (T_np tA) (T_sd tA) (updB (T_wh tA) (T_nb tA) false) (T_gn tA) (upd (T_wo tA) (T_nb tA) iA) (upd (T_ne tA) (T_nb tA) 0) (upd (T_go tA) (T_nb tA) 1000) (T_ag tA) (T_re tA) (T_me tA) (T_te tA) (T_kn tA)) 7), zzG cy 3 qmK rK, zzI cy (rK 0) 8 (T_kn (T_mk (T_nb tA) (T_np tA) (T_sd tA) (updB (T_wh tA) (T_nb tA) false) (T_gn tA) (upd (T_wo tA) (T_nb tA) iA) (upd (T_ne tA) (T_nb tA) 0) (upd (T_go tA) (T_nb tA) 1000) (T_ag tA) (T_re tA) (T_me tA) (T_te tA) (T_kn tA)) 0), zzI cy (rK 1) 8 (T_kn (T_mk (T_nb tA) (T_np tA) (T_sd tA) (updB (T_wh tA) (T_nb tA) false) (T_gn tA) (upd (T_wo tA) (T_nb tA) iA) (upd (T_ne tA) (T_nb tA) 0) (upd (T_go tA) (T_nb tA) 1000) (T_ag tA) (T_re tA) (T_me tA) (T_te tA) (T_kn tA)) 1), zzI cy (rK 2) 8 (T_kn (T_mk (T_nb tA) (T_np tA) (T_sd tA) (updB (T_wh tA) (T_nb tA) false) (T_gn tA) (upd (T_wo tA) (T_nb tA) iA) (upd (T_ne tA) (T_nb tA) 0) (upd (T_go tA) (T_nb tA) 1000) (T_ag tA) (T_re tA) (T_me tA) (T_te tA) (T_kn tA)) 2), zzI cy (rK 3) 8 (T_kn (T_mk (T_nb tA) (T_np tA) (T_sd tA) (updB (T_wh tA) (T_nb tA) false) (T_gn tA) (upd (T_wo tA) (T_nb tA) iA) (upd (T_ne tA) (T_nb tA) 0) (upd (T_go tA) (T_nb tA) 1000) (T_ag tA) (T_re tA) (T_me tA) (T_te tA) (T_kn tA)) 3), zzI cy (rK 4) 8 (T_kn (T_mk (T_nb tA) (T_np tA) (T_sd tA) (updB (T_wh tA) (T_nb tA) false) (T_gn tA) (upd (T_wo tA) (T_nb tA) iA) (upd (T_ne tA) (T_nb tA) 0) (upd (T_go tA) (T_nb tA) 1000) (T_ag tA) (T_re tA) (T_me tA) (T_te tA) (T_kn tA)) 4), zzI cy (rK 5) 8 (T_kn (T_mk (T_nb tA) (T_np tA) (T_sd tA) (updB (T_wh tA) (T_nb tA) false) (T_gn tA) (upd (T_wo tA) (T_nb tA) iA) (upd (T_ne tA) (T_nb tA) 0) (upd (T_go tA) (T_nb tA) 1000) (T_ag tA) (T_re tA) (T_me tA) (T_te tA) (T_kn tA)) 5), zzI cy (rK 6) 8 (T_kn (T_mk (T_nb tA) (T_np tA) (T_sd tA) (updB (T_wh tA) (T_nb tA) false) (T_gn tA) (upd (T_wo tA) (T_nb tA) iA) (upd (T_ne tA) (T_nb tA) 0) (upd (T_go tA) (T_nb tA) 1000) (T_ag tA) (T_re tA) (T_me tA) (T_te tA) (T_kn tA)) 6), zzI cy (rK 7) 8 (T_kn (T_mk (T_nb tA) (T_np tA) (T_sd tA) (updB (T_wh tA) (T_nb tA) false) (T_gn tA) (upd (T_wo tA) (T_nb tA) iA) (upd (T_ne tA) (T_nb tA) 0) (upd (T_go tA) (T_nb tA) 1000) (T_ag tA) (T_re tA) (T_me tA) (T_te tA) (T_kn tA)) 7)]) (k := (T_nb tA)) (g1 := bkR (T_mk (T_nb tA) (T_np tA) (T_sd tA) (updB (T_wh tA) (T_nb tA) false) (T_gn tA) (upd (T_wo tA) (T_nb tA) iA) (upd (T_ne tA) (T_nb tA) 0) (upd (T_go tA) (T_nb tA) 1000) (T_ag tA) (T_re tA) (T_me tA) (T_te tA) (T_kn tA)) (T_nb tA)) hP hD (sg8 (n0 := 2) (f := (fun j => zzI cy (rB j) 4 (bkR (T_mk (T_nb tA) (T_np tA) (T_sd tA) (T_wh tA) (T_gn tA) (upd (T_wo tA) (T_nb tA) iA) (upd (T_ne tA) (T_nb tA) 0) (upd (T_go tA) (T_nb tA) 1000) (T_ag tA) (T_re tA) (T_me tA) (T_te tA) (T_kn tA)) j))) rfl rfl rfl rfl rfl rfl rfl rfl) (sg8 (n0 := 2) (f := (fun j => zzI cy (rB j) 4 (bkR (T_mk (T_nb tA) (T_np tA) (T_sd tA) (updB (T_wh tA) (T_nb tA) false) (T_gn tA) (upd (T_wo tA) (T_nb tA) iA) (upd (T_ne tA) (T_nb tA) 0) (upd (T_go tA) (T_nb tA) 1000) (T_ag tA) (T_re tA) (T_me tA) (T_te tA) (T_kn tA)) j))) rfl rfl rfl rfl rfl rfl rfl rfl) rfl rfl (by omega) rfl (bk_w3 (T_mk (T_nb tA) (T_np tA) (T_sd tA) (T_wh tA) (T_gn tA) (upd (T_wo tA) (T_nb tA) iA) (upd (T_ne tA) (T_nb tA) 0) (upd (T_go tA) (T_nb tA) 1000) (T_ag tA) (T_re tA) (T_me tA) (T_te tA) (T_kn tA)) (T_nb tA) false) (fun j hj => congrArg (zzI cy (rB j) 4) (bk_n3 (T_mk (T_nb tA) (T_np tA) (T_sd tA) (T_wh tA) (T_gn tA) (upd (T_wo tA) (T_nb tA) iA) (upd (T_ne tA) (T_nb tA) 0) (upd (T_go tA) (T_nb tA) 1000) (T_ag tA) (T_re tA) (T_me tA) (T_te tA) (T_kn tA)) (T_nb tA) false hj))
  clear hP hD
  obtain ⟨hP, hD⟩ := hPD
  refine lv_iconst (v := 0) hx hb (g_3 bX6_newBook rfl) (by decide +kernel) ?_
  refine lv_istore_n (lv' := [(2, .int 0), (0, .ref qm), (1, .int iA)]) hx hb (g_61 bX6_newBook rfl) rfl hl (by decide +kernel) rfl (fun ls => ?_)
  clear hl
  intro hl
  have hPD := pd_as [zzO qm 5 (v0 :: v1 :: v2 :: v3 :: v4 :: v5 :: v6 :: v7 :: v8 :: v9 :: .int (nI (T_nb (nb0 tA iA))) :: .ref qmB :: .int (nI (T_np (nb0 tA iA))) :: .ref qmO :: .ref qmK :: .int iEn :: .int iTk :: .int (T_sd (nb0 tA iA)) :: v18 :: v19 :: v20 :: v21 :: v22 :: v23 :: v24 :: v25 :: v26 :: .int iLv :: .int iWs :: v29 :: v30 :: v31 :: v32 :: v33 :: v34 :: []), _, zzI cy (rB 0) 4 (bkR (nb0 tA iA) 0), zzI cy (rB 1) 4 (bkR (nb0 tA iA) 1), zzI cy (rB 2) 4 (bkR (nb0 tA iA) 2), zzI cy (rB 3) 4 (bkR (nb0 tA iA) 3), zzI cy (rB 4) 4 (bkR (nb0 tA iA) 4), zzI cy (rB 5) 4 (bkR (nb0 tA iA) 5), zzI cy (rB 6) 4 (bkR (nb0 tA iA) 6), zzI cy (rB 7) 4 (bkR (nb0 tA iA) 7), _, zzI cy (rO 0) 5 (onR (nb0 tA iA) 0), zzI cy (rO 1) 5 (onR (nb0 tA iA) 1), zzI cy (rO 2) 5 (onR (nb0 tA iA) 2), zzI cy (rO 3) 5 (onR (nb0 tA iA) 3), zzI cy (rO 4) 5 (onR (nb0 tA iA) 4), zzI cy (rO 5) 5 (onR (nb0 tA iA) 5), zzI cy (rO 6) 5 (onR (nb0 tA iA) 6), zzI cy (rO 7) 5 (onR (nb0 tA iA) 7), _, zzI cy (rK 0) 8 (T_kn (nb0 tA iA) 0), zzI cy (rK 1) 8 (T_kn (nb0 tA iA) 1), zzI cy (rK 2) 8 (T_kn (nb0 tA iA) 2), zzI cy (rK 3) 8 (T_kn (nb0 tA iA) 3), zzI cy (rK 4) 8 (T_kn (nb0 tA iA) 4), zzI cy (rK 5) 8 (T_kn (nb0 tA iA) 5), zzI cy (rK 6) 8 (T_kn (nb0 tA iA) 6), zzI cy (rK 7) 8 (T_kn (nb0 tA iA) 7)] hP hD rfl
  clear hP hD
  obtain ⟨hP, hD⟩ := hPD
  have lp_1 : ∀ (n_2 : Nat) (j_4 : Nat) (tJ_5 : TA), 8 - j_4 < n_2 → j_4 ≤ 8 → tJ_5 = nbF (nb0 tA iA) j_4 → ∀ (H : Heap) (locs : List Loc) (ls : Array Slot), va_P G CL [zzO qm 5 (v0 :: v1 :: v2 :: v3 :: v4 :: v5 :: v6 :: v7 :: v8 :: v9 :: .int (nI (T_nb tJ_5)) :: .ref qmB :: .int (nI (T_np tJ_5)) :: .ref qmO :: .ref qmK :: .int iEn :: .int iTk :: .int (T_sd tJ_5) :: v18 :: v19 :: v20 :: v21 :: v22 :: v23 :: v24 :: v25 :: v26 :: .int iLv :: .int iWs :: v29 :: v30 :: v31 :: v32 :: v33 :: v34 :: []), zzG cy 3 qmB rB, zzI cy (rB 0) 4 (bkR tJ_5 0), zzI cy (rB 1) 4 (bkR tJ_5 1), zzI cy (rB 2) 4 (bkR tJ_5 2), zzI cy (rB 3) 4 (bkR tJ_5 3), zzI cy (rB 4) 4 (bkR tJ_5 4), zzI cy (rB 5) 4 (bkR tJ_5 5), zzI cy (rB 6) 4 (bkR tJ_5 6), zzI cy (rB 7) 4 (bkR tJ_5 7), zzG cy 3 qmO rO, zzI cy (rO 0) 5 (onR tJ_5 0), zzI cy (rO 1) 5 (onR tJ_5 1), zzI cy (rO 2) 5 (onR tJ_5 2), zzI cy (rO 3) 5 (onR tJ_5 3), zzI cy (rO 4) 5 (onR tJ_5 4), zzI cy (rO 5) 5 (onR tJ_5 5), zzI cy (rO 6) 5 (onR tJ_5 6), zzI cy (rO 7) 5 (onR tJ_5 7), zzG cy 3 qmK rK, zzI cy (rK 0) 8 (T_kn tJ_5 0), zzI cy (rK 1) 8 (T_kn tJ_5 1), zzI cy (rK 2) 8 (T_kn tJ_5 2), zzI cy (rK 3) 8 (T_kn tJ_5 3), zzI cy (rK 4) 8 (T_kn tJ_5 4), zzI cy (rK 5) 8 (T_kn tJ_5 5), zzI cy (rK 6) 8 (T_kn tJ_5 6), zzI cy (rK 7) 8 (T_kn tJ_5 7)] H → va_D A [zzO qm 5 (v0 :: v1 :: v2 :: v3 :: v4 :: v5 :: v6 :: v7 :: v8 :: v9 :: .int (nI (T_nb tJ_5)) :: .ref qmB :: .int (nI (T_np tJ_5)) :: .ref qmO :: .ref qmK :: .int iEn :: .int iTk :: .int (T_sd tJ_5) :: v18 :: v19 :: v20 :: v21 :: v22 :: v23 :: v24 :: v25 :: v26 :: .int iLv :: .int iWs :: v29 :: v30 :: v31 :: v32 :: v33 :: v34 :: []), zzG cy 3 qmB rB, zzI cy (rB 0) 4 (bkR tJ_5 0), zzI cy (rB 1) 4 (bkR tJ_5 1), zzI cy (rB 2) 4 (bkR tJ_5 2), zzI cy (rB 3) 4 (bkR tJ_5 3), zzI cy (rB 4) 4 (bkR tJ_5 4), zzI cy (rB 5) 4 (bkR tJ_5 5), zzI cy (rB 6) 4 (bkR tJ_5 6), zzI cy (rB 7) 4 (bkR tJ_5 7), zzG cy 3 qmO rO, zzI cy (rO 0) 5 (onR tJ_5 0), zzI cy (rO 1) 5 (onR tJ_5 1), zzI cy (rO 2) 5 (onR tJ_5 2), zzI cy (rO 3) 5 (onR tJ_5 3), zzI cy (rO 4) 5 (onR tJ_5 4), zzI cy (rO 5) 5 (onR tJ_5 5), zzI cy (rO 6) 5 (onR tJ_5 6), zzI cy (rO 7) 5 (onR tJ_5 7), zzG cy 3 qmK rK, zzI cy (rK 0) 8 (T_kn tJ_5 0), zzI cy (rK 1) 8 (T_kn tJ_5 1), zzI cy (rK 2) 8 (T_kn tJ_5 2), zzI cy (rK 3) 8 (T_kn tJ_5 3), zzI cy (rK 4) 8 (T_kn tJ_5 4), zzI cy (rK 5) 8 (T_kn tJ_5 5), zzI cy (rK 6) 8 (T_kn tJ_5 6), zzI cy (rK 7) 8 (T_kn tJ_5 7)] → va_S A s.heap H locs → lv_has ls 3 [(2, .int (nI j_4)), (0, .ref qm), (1, .int iA)] → W p l e (Rm 1 0 0) s m (List.toArray (α := Value) [.ref qm, .int iA]) below meth c H locs 0 0 (MQ below ((Wv G (fun u => u = [zzO qm 5 (v0 :: v1 :: v2 :: v3 :: v4 :: v5 :: v6 :: v7 :: v8 :: v9 :: .int (nI (T_nb (zNB tA iA))) :: .ref qmB :: .int (nI (T_np (zNB tA iA))) :: .ref qmO :: .ref qmK :: .int iEn :: .int iTk :: .int (T_sd (zNB tA iA)) :: v18 :: v19 :: v20 :: v21 :: v22 :: v23 :: v24 :: v25 :: v26 :: .int iLv :: .int iWs :: v29 :: v30 :: v31 :: v32 :: v33 :: v34 :: []), zzG cy 3 qmB rB, zzI cy (rB 0) 4 (bkR (zNB tA iA) 0), zzI cy (rB 1) 4 (bkR (zNB tA iA) 1), zzI cy (rB 2) 4 (bkR (zNB tA iA) 2), zzI cy (rB 3) 4 (bkR (zNB tA iA) 3), zzI cy (rB 4) 4 (bkR (zNB tA iA) 4), zzI cy (rB 5) 4 (bkR (zNB tA iA) 5), zzI cy (rB 6) 4 (bkR (zNB tA iA) 6), zzI cy (rB 7) 4 (bkR (zNB tA iA) 7), zzG cy 3 qmO rO, zzI cy (rO 0) 5 (onR (zNB tA iA) 0), zzI cy (rO 1) 5 (onR (zNB tA iA) 1), zzI cy (rO 2) 5 (onR (zNB tA iA) 2), zzI cy (rO 3) 5 (onR (zNB tA iA) 3), zzI cy (rO 4) 5 (onR (zNB tA iA) 4), zzI cy (rO 5) 5 (onR (zNB tA iA) 5), zzI cy (rO 6) 5 (onR (zNB tA iA) 6), zzI cy (rO 7) 5 (onR (zNB tA iA) 7), zzG cy 3 qmK rK, zzI cy (rK 0) 8 (T_kn (zNB tA iA) 0), zzI cy (rK 1) 8 (T_kn (zNB tA iA) 1), zzI cy (rK 2) 8 (T_kn (zNB tA iA) 2), zzI cy (rK 3) 8 (T_kn (zNB tA iA) 3), zzI cy (rK 4) 8 (T_kn (zNB tA iA) 4), zzI cy (rK 5) 8 (T_kn (zNB tA iA) 5), zzI cy (rK 6) 8 (T_kn (zNB tA iA) 6), zzI cy (rK 7) 8 (T_kn (zNB tA iA) 7)])) A) (List.toArray (α := Value) [.ref qm, .int iA]) s 0 0 A) (F0 m 52 ls []) := by
    intro n_2
    induction n_2 with
    | zero => intro j_4 tJ_5 hm9; exact absurd hm9 (Nat.not_lt_zero _)
    | succ n_2 ih_3 =>
      intro j_4 tJ_5 hm_8 hj_6 htJ_7 H locs ls hP hD hS hl
      refine lv_iload_n hx hb (g_28 bX6_newBook rfl) rfl (lv_at hl 0 rfl) ?_
      refine lv_bipush (v := 8) hx hb dX6_newBook_53 (by decide +kernel) ?_
      refine lv_icmp_ge (tgt := 76) hx hb dX6_newBook_55 (by decide +kernel) (fun c_9 => ?_) (fun c_9 => ?_)
      · have hlt_10e : T_nb tJ_5 = T_nb tA := by rw [htJ_7]; exact (nbF_nb _ _).1
        have hlt_10 : j_4 = 8 := Nat.le_antisymm (by omega) (lp_ge rfl (rfl : (8 : Int32) = nI 8) (by omega) (by omega) c_9)
        have e9_11 : tJ_5 = zNB tA iA := by rw [htJ_7, hlt_10]; rfl
        subst e9_11
        exact endVs [[true, true, true, true, true, true, true, true, true, true, true, true, true, true, true, true, true, true, true, true, true, true, true, true, true, true, true, true]] hx hb hr hlocks hP hD rfl (by decide +kernel) hS rfl (g_177 bX6_newBook rfl)
      · have hlt_12e : T_nb tJ_5 = T_nb tA := by rw [htJ_7]; exact (nbF_nb _ _).1
        have hlt_12 : j_4 < 8 := lp_lt rfl (rfl : (8 : Int32) = nI 8) (by omega) (by omega) c_9
        refine lv_aload_n hx hb (g_42 bX6_newBook rfl) rfl (lv_at hl 1 rfl) ?_
        refine va_get (D := G) (ci := 5) (v := .ref qmK) (C := RX6) (T := TX6) (N := 35) hx hb hts iX_X6 hown hK hP 0 rfl rfl 14 (by decide +kernel) (hts _ m_t864) (fun _ h9 => h9) rfl (g_180 (v := 48) bX6_newBook rfl) ?_
        refine lv_iload_n hx hb (g_28 bX6_newBook rfl) rfl (lv_at hl 0 rfl) ?_
        refine va_alda hx hb hK hP 19 3 rfl rfl (in8 (by omega)) (g_50 bX6_newBook rfl) ?_
        refine lv_setv (v := .ref (rK j_4)) (g_ref (by omega)) ?_
        refine lv_aload_n hx hb (g_42 bX6_newBook rfl) rfl (lv_at hl 1 rfl) ?_
        refine va_get (D := G) (ci := 5) (v := .int (nI (T_nb tJ_5))) (C := RX6) (T := TX6) (N := 35) hx hb hts iX_X6 hown hK hP 0 rfl rfl 10 (by decide +kernel) (hts _ m_t860) (fun _ h9 => h9) rfl (g_180 (v := 71) bX6_newBook rfl) ?_
        refine lv_iconst (v := 0) hx hb (g_3 bX6_newBook rfl) (by decide +kernel) ?_
        refine va_iast hx hb hK hP hD hS (20 + j_4) 0 ((sg8 (n0 := 20) (f := (fun j => zzI cy (rK j) 8 (T_kn tJ_5 j))) rfl rfl rfl rfl rfl rfl rfl rfl) j_4 (by omega)) rfl (vp_in_nI (by omega) (by omega)) (g_79 bX6_newBook rfl) (fun H locs => ?_)
        clear hP hD hS
        intro hP hD hS
        rw [nI_clamp (n := (T_nb tJ_5)) (by omega)] at hP hD
        have hPD := st8PD (ws' := [zzO qm 5 (v0 :: v1 :: v2 :: v3 :: v4 :: v5 :: v6 :: v7 :: v8 :: v9 :: .int (nI (T_nb tJ_5)) :: .ref qmB :: .int (nI (T_np tJ_5)) :: .ref qmO :: .ref qmK :: .int iEn :: .int iTk :: .int (T_sd tJ_5) :: v18 :: v19 :: v20 :: v21 :: v22 :: v23 :: v24 :: v25 :: v26 :: .int iLv :: .int iWs :: v29 :: v30 :: v31 :: v32 :: v33 :: v34 :: []), zzG cy 3 qmB rB, zzI cy (rB 0) 4 (bkR (T_mk (T_nb tJ_5) (T_np tJ_5) (T_sd tJ_5) (T_wh tJ_5) (T_gn tJ_5) (T_wo tJ_5) (T_ne tJ_5) (T_go tJ_5) (T_ag tJ_5) (T_re tJ_5) (T_me tJ_5) (T_te tJ_5) (updM (T_kn tJ_5) j_4 (T_nb tJ_5) 0)) 0), zzI cy (rB 1) 4 (bkR (T_mk (T_nb tJ_5) (T_np tJ_5) (T_sd tJ_5) (T_wh tJ_5) (T_gn tJ_5) (T_wo tJ_5) (T_ne tJ_5) (T_go tJ_5) (T_ag tJ_5) (T_re tJ_5) (T_me tJ_5) (T_te tJ_5) (updM (T_kn tJ_5) j_4 (T_nb tJ_5) 0)) 1), zzI cy (rB 2) 4 (bkR (T_mk (T_nb tJ_5) (T_np tJ_5) (T_sd tJ_5) (T_wh tJ_5) (T_gn tJ_5) (T_wo tJ_5) (T_ne tJ_5) (T_go tJ_5) (T_ag tJ_5) (T_re tJ_5) (T_me tJ_5) (T_te tJ_5) (updM (T_kn tJ_5) j_4 (T_nb tJ_5) 0)) 2), zzI cy (rB 3) 4 (bkR (T_mk (T_nb tJ_5) (T_np tJ_5) (T_sd tJ_5) (T_wh tJ_5) (T_gn tJ_5) (T_wo tJ_5) (T_ne tJ_5) (T_go tJ_5) (T_ag tJ_5) (T_re tJ_5) (T_me tJ_5) (T_te tJ_5) (updM (T_kn tJ_5) j_4 (T_nb tJ_5) 0)) 3), zzI cy (rB 4) 4 (bkR (T_mk (T_nb tJ_5) (T_np tJ_5) (T_sd tJ_5) (T_wh tJ_5) (T_gn tJ_5) (T_wo tJ_5) (T_ne tJ_5) (T_go tJ_5) (T_ag tJ_5) (T_re tJ_5) (T_me tJ_5) (T_te tJ_5) (updM (T_kn tJ_5) j_4 (T_nb tJ_5) 0)) 4), zzI cy (rB 5) 4 (bkR (T_mk (T_nb tJ_5) (T_np tJ_5) (T_sd tJ_5) (T_wh tJ_5) (T_gn tJ_5) (T_wo tJ_5) (T_ne tJ_5) (T_go tJ_5) (T_ag tJ_5) (T_re tJ_5) (T_me tJ_5) (T_te tJ_5) (updM (T_kn tJ_5) j_4 (T_nb tJ_5) 0)) 5), zzI cy (rB 6) 4 (bkR (T_mk (T_nb tJ_5) (T_np tJ_5) (T_sd tJ_5) (T_wh tJ_5) (T_gn tJ_5) (T_wo tJ_5) (T_ne tJ_5) (T_go tJ_5) (T_ag tJ_5) (T_re tJ_5) (T_me tJ_5) (T_te tJ_5) (updM (T_kn tJ_5) j_4 (T_nb tJ_5) 0)) 6), zzI cy (rB 7) 4 (bkR (T_mk (T_nb tJ_5) (T_np tJ_5) (T_sd tJ_5) (T_wh tJ_5) (T_gn tJ_5) (T_wo tJ_5) (T_ne tJ_5) (T_go tJ_5) (T_ag tJ_5) (T_re tJ_5) (T_me tJ_5) (T_te tJ_5) (updM (T_kn tJ_5) j_4 (T_nb tJ_5) 0)) 7), zzG cy 3 qmO rO, zzI cy (rO 0) 5 (onR (T_mk (T_nb tJ_5) (T_np tJ_5) (T_sd tJ_5) (T_wh tJ_5) (T_gn tJ_5) (T_wo tJ_5) (T_ne tJ_5) (T_go tJ_5) (T_ag tJ_5) (T_re tJ_5) (T_me tJ_5) (T_te tJ_5) (updM (T_kn tJ_5) j_4 (T_nb tJ_5) 0)) 0), zzI cy (rO 1) 5 (onR (T_mk (T_nb tJ_5) (T_np tJ_5) (T_sd tJ_5) (T_wh tJ_5) (T_gn tJ_5) (T_wo tJ_5) (T_ne tJ_5) (T_go tJ_5) (T_ag tJ_5) (T_re tJ_5) (T_me tJ_5) (T_te tJ_5) (updM (T_kn tJ_5) j_4 (T_nb tJ_5) 0)) 1), zzI cy (rO 2) 5 (onR (T_mk (T_nb tJ_5) (T_np tJ_5) (T_sd tJ_5) (T_wh tJ_5) (T_gn tJ_5) (T_wo tJ_5) (T_ne tJ_5) (T_go tJ_5) (T_ag tJ_5) (T_re tJ_5) (T_me tJ_5) (T_te tJ_5) (updM (T_kn tJ_5) j_4 (T_nb tJ_5) 0)) 2), zzI cy (rO 3) 5 (onR (T_mk (T_nb tJ_5) (T_np tJ_5) (T_sd tJ_5) (T_wh tJ_5) (T_gn tJ_5) (T_wo tJ_5) (T_ne tJ_5) (T_go tJ_5) (T_ag tJ_5) (T_re tJ_5) (T_me tJ_5) (T_te tJ_5) (updM (T_kn tJ_5) j_4 (T_nb tJ_5) 0)) 3), zzI cy (rO 4) 5 (onR (T_mk (T_nb tJ_5) (T_np tJ_5) (T_sd tJ_5) (T_wh tJ_5) (T_gn tJ_5) (T_wo tJ_5) (T_ne tJ_5) (T_go tJ_5) (T_ag tJ_5) (T_re tJ_5) (T_me tJ_5) (T_te tJ_5) (updM (T_kn tJ_5) j_4 (T_nb tJ_5) 0)) 4), zzI cy (rO 5) 5 (onR (T_mk (T_nb tJ_5) (T_np tJ_5) (T_sd tJ_5) (T_wh tJ_5) (T_gn tJ_5) (T_wo tJ_5) (T_ne tJ_5) (T_go tJ_5) (T_ag tJ_5) (T_re tJ_5) (T_me tJ_5) (T_te tJ_5) (updM (T_kn tJ_5) j_4 (T_nb tJ_5) 0)) 5), zzI cy (rO 6) 5 (onR (T_mk (T_nb tJ_5) (T_np tJ_5) (T_sd tJ_5) (T_wh tJ_5) (T_gn tJ_5) (T_wo tJ_5) (T_ne tJ_5) (T_go tJ_5) (T_ag tJ_5) (T_re tJ_5) (T_me tJ_5) (T_te tJ_5) (updM (T_kn tJ_5) j_4 (T_nb tJ_5) 0)) 6), zzI cy (rO 7) 5 (onR (T_mk (T_nb tJ_5) (T_np tJ_5) (T_sd tJ_5) (T_wh tJ_5) (T_gn tJ_5) (T_wo tJ_5) (T_ne tJ_5) (T_go tJ_5) (T_ag tJ_5) (T_re tJ_5) (T_me tJ_5) (T_te tJ_5) (updM (T_kn tJ_5) j_4 (T_nb tJ_5) 0)) 7), zzG cy 3 qmK rK, zzI cy (rK 0) 8 (T_kn (T_mk (T_nb tJ_5) (T_np tJ_5) (T_sd tJ_5) (T_wh tJ_5) (T_gn tJ_5) (T_wo tJ_5) (T_ne tJ_5) (T_go tJ_5) (T_ag tJ_5) (T_re tJ_5) (T_me tJ_5) (T_te tJ_5) (updM (T_kn tJ_5) j_4 (T_nb tJ_5) 0)) 0), zzI cy (rK 1) 8 (T_kn (T_mk (T_nb tJ_5) (T_np tJ_5) (T_sd tJ_5) (T_wh tJ_5) (T_gn tJ_5) (T_wo tJ_5) (T_ne tJ_5) (T_go tJ_5) (T_ag tJ_5) (T_re tJ_5) (T_me tJ_5) (T_te tJ_5) (updM (T_kn tJ_5) j_4 (T_nb tJ_5) 0)) 1), zzI cy (rK 2) 8 (T_kn (T_mk (T_nb tJ_5) (T_np tJ_5) (T_sd tJ_5) (T_wh tJ_5) (T_gn tJ_5) (T_wo tJ_5) (T_ne tJ_5) (T_go tJ_5) (T_ag tJ_5) (T_re tJ_5) (T_me tJ_5) (T_te tJ_5) (updM (T_kn tJ_5) j_4 (T_nb tJ_5) 0)) 2), zzI cy (rK 3) 8 (T_kn (T_mk (T_nb tJ_5) (T_np tJ_5) (T_sd tJ_5) (T_wh tJ_5) (T_gn tJ_5) (T_wo tJ_5) (T_ne tJ_5) (T_go tJ_5) (T_ag tJ_5) (T_re tJ_5) (T_me tJ_5) (T_te tJ_5) (updM (T_kn tJ_5) j_4 (T_nb tJ_5) 0)) 3), zzI cy (rK 4) 8 (T_kn (T_mk (T_nb tJ_5) (T_np tJ_5) (T_sd tJ_5) (T_wh tJ_5) (T_gn tJ_5) (T_wo tJ_5) (T_ne tJ_5) (T_go tJ_5) (T_ag tJ_5) (T_re tJ_5) (T_me tJ_5) (T_te tJ_5) (updM (T_kn tJ_5) j_4 (T_nb tJ_5) 0)) 4), zzI cy (rK 5) 8 (T_kn (T_mk (T_nb tJ_5) (T_np tJ_5) (T_sd tJ_5) (T_wh tJ_5) (T_gn tJ_5) (T_wo tJ_5) (T_ne tJ_5) (T_go tJ_5) (T_ag tJ_5) (T_re tJ_5) (T_me tJ_5) (T_te tJ_5) (updM (T_kn tJ_5) j_4 (T_nb tJ_5) 0)) 5), zzI cy (rK 6) 8 (T_kn (T_mk (T_nb tJ_5) (T_np tJ_5) (T_sd tJ_5) (T_wh tJ_5) (T_gn tJ_5) (T_wo tJ_5) (T_ne tJ_5) (T_go tJ_5) (T_ag tJ_5) (T_re tJ_5) (T_me tJ_5) (T_te tJ_5) (updM (T_kn tJ_5) j_4 (T_nb tJ_5) 0)) 6), zzI cy (rK 7) 8 (T_kn (T_mk (T_nb tJ_5) (T_np tJ_5) (T_sd tJ_5) (T_wh tJ_5) (T_gn tJ_5) (T_wo tJ_5) (T_ne tJ_5) (T_go tJ_5) (T_ag tJ_5) (T_re tJ_5) (T_me tJ_5) (T_te tJ_5) (updM (T_kn tJ_5) j_4 (T_nb tJ_5) 0)) 7)]) (k := j_4) (g1 := T_kn (T_mk (T_nb tJ_5) (T_np tJ_5) (T_sd tJ_5) (T_wh tJ_5) (T_gn tJ_5) (T_wo tJ_5) (T_ne tJ_5) (T_go tJ_5) (T_ag tJ_5) (T_re tJ_5) (T_me tJ_5) (T_te tJ_5) (updM (T_kn tJ_5) j_4 (T_nb tJ_5) 0)) j_4) hP hD (sg8 (n0 := 20) (f := (fun j => zzI cy (rK j) 8 (T_kn tJ_5 j))) rfl rfl rfl rfl rfl rfl rfl rfl) (sg8 (n0 := 20) (f := (fun j => zzI cy (rK j) 8 (T_kn (T_mk (T_nb tJ_5) (T_np tJ_5) (T_sd tJ_5) (T_wh tJ_5) (T_gn tJ_5) (T_wo tJ_5) (T_ne tJ_5) (T_go tJ_5) (T_ag tJ_5) (T_re tJ_5) (T_me tJ_5) (T_te tJ_5) (updM (T_kn tJ_5) j_4 (T_nb tJ_5) 0)) j))) rfl rfl rfl rfl rfl rfl rfl rfl) rfl rfl (by omega) rfl (fun i _ => (congrFun (kn_u tJ_5 j_4 (T_nb tJ_5) 0) i).symm) (fun j hj => congrArg (zzI cy (rK j) 8) (kn_n tJ_5 j_4 (T_nb tJ_5) 0 hj))
        clear hP hD
        obtain ⟨hP, hD⟩ := hPD
        refine lv_iinc (v := nI (j_4 + 1)) (lv' := [(2, .int (nI (j_4 + 1))), (0, .ref qm), (1, .int iA)]) hx hb dX6_newBook_70 hl (k := 0) rfl (nI_1 _) (by decide +kernel) rfl (fun ls => ?_)
        clear hl
        intro hl
        refine lv_goto (tgt := 52) hx hb dX6_newBook_73 (by decide +kernel) ?_
        exact ih_3 (j_4 + 1) (T_mk (T_nb tJ_5) (T_np tJ_5) (T_sd tJ_5) (T_wh tJ_5) (T_gn tJ_5) (T_wo tJ_5) (T_ne tJ_5) (T_go tJ_5) (T_ag tJ_5) (T_re tJ_5) (T_me tJ_5) (T_te tJ_5) (updM (T_kn tJ_5) j_4 (T_nb tJ_5) 0)) (by omega) (by omega) (by rw [htJ_7]; rfl) _ _ _ hP hD hS (lv_sub hl [0, 1, 2] rfl)
  exact lp_1 ((8 - 0) + 1) 0 (nb0 tA iA) (Nat.lt_succ_self _) (Nat.zero_le _) rfl _ _ ls hP hD hS (lv_sub hl [0, 1, 2] rfl)
set_option maxHeartbeats 4000000 in
set_option maxRecDepth 100000 in
theorem c_X6_newOne (l : Launch) (G : va_G) (cy : Nat → ClassId) (sz : Nat) (qm : Nat) (v0 : Value) (v1 : Value) (v2 : Value) (v3 : Value) (v4 : Value) (v5 : Value) (v6 : Value) (v7 : Value) (v8 : Value) (v9 : Value) (tA : TA) (qmB : Nat) (qmO : Nat) (qmK : Nat) (iEn : Int32) (iTk : Int32) (v18 : Value) (v19 : Value) (v20 : Value) (v21 : Value) (v22 : Value) (v23 : Value) (v24 : Value) (v25 : Value) (v26 : Value) (iLv : Int32) (iWs : Int32) (v29 : Value) (v30 : Value) (v31 : Value) (v32 : Value) (v33 : Value) (v34 : Value) (rB : Nat → Nat) (rO : Nat → Nat) (rK : Nat → Nat)  (hPp : T_np tA < 8) : MW l yX6_newOne cX6_newOne 2 none 1 0 0 G cy [zzO qm 5 (v0 :: v1 :: v2 :: v3 :: v4 :: v5 :: v6 :: v7 :: v8 :: v9 :: .int (nI (T_nb tA)) :: .ref qmB :: .int (nI (T_np tA)) :: .ref qmO :: .ref qmK :: .int iEn :: .int iTk :: .int (T_sd tA) :: v18 :: v19 :: v20 :: v21 :: v22 :: v23 :: v24 :: v25 :: v26 :: .int iLv :: .int iWs :: v29 :: v30 :: v31 :: v32 :: v33 :: v34 :: []), zzG cy 3 qmB rB, zzI cy (rB 0) 4 (bkR tA 0), zzI cy (rB 1) 4 (bkR tA 1), zzI cy (rB 2) 4 (bkR tA 2), zzI cy (rB 3) 4 (bkR tA 3), zzI cy (rB 4) 4 (bkR tA 4), zzI cy (rB 5) 4 (bkR tA 5), zzI cy (rB 6) 4 (bkR tA 6), zzI cy (rB 7) 4 (bkR tA 7), zzG cy 3 qmO rO, zzI cy (rO 0) 5 (onR tA 0), zzI cy (rO 1) 5 (onR tA 1), zzI cy (rO 2) 5 (onR tA 2), zzI cy (rO 3) 5 (onR tA 3), zzI cy (rO 4) 5 (onR tA 4), zzI cy (rO 5) 5 (onR tA 5), zzI cy (rO 6) 5 (onR tA 6), zzI cy (rO 7) 5 (onR tA 7), zzG cy 3 qmK rK, zzI cy (rK 0) 8 (T_kn tA 0), zzI cy (rK 1) 8 (T_kn tA 1), zzI cy (rK 2) 8 (T_kn tA 2), zzI cy (rK 3) 8 (T_kn tA 3), zzI cy (rK 4) 8 (T_kn tA 4), zzI cy (rK 5) 8 (T_kn tA 5), zzI cy (rK 6) 8 (T_kn tA 6), zzI cy (rK 7) 8 (T_kn tA 7)] sz [.ref qm] (Wv G (fun u => u = [zzO qm 5 (v0 :: v1 :: v2 :: v3 :: v4 :: v5 :: v6 :: v7 :: v8 :: v9 :: .int (nI (T_nb (zNO tA))) :: .ref qmB :: .int (nI (T_np (zNO tA))) :: .ref qmO :: .ref qmK :: .int iEn :: .int iTk :: .int (T_sd (zNO tA)) :: v18 :: v19 :: v20 :: v21 :: v22 :: v23 :: v24 :: v25 :: v26 :: .int iLv :: .int iWs :: v29 :: v30 :: v31 :: v32 :: v33 :: v34 :: []), zzG cy 3 qmB rB, zzI cy (rB 0) 4 (bkR (zNO tA) 0), zzI cy (rB 1) 4 (bkR (zNO tA) 1), zzI cy (rB 2) 4 (bkR (zNO tA) 2), zzI cy (rB 3) 4 (bkR (zNO tA) 3), zzI cy (rB 4) 4 (bkR (zNO tA) 4), zzI cy (rB 5) 4 (bkR (zNO tA) 5), zzI cy (rB 6) 4 (bkR (zNO tA) 6), zzI cy (rB 7) 4 (bkR (zNO tA) 7), zzG cy 3 qmO rO, zzI cy (rO 0) 5 (onR (zNO tA) 0), zzI cy (rO 1) 5 (onR (zNO tA) 1), zzI cy (rO 2) 5 (onR (zNO tA) 2), zzI cy (rO 3) 5 (onR (zNO tA) 3), zzI cy (rO 4) 5 (onR (zNO tA) 4), zzI cy (rO 5) 5 (onR (zNO tA) 5), zzI cy (rO 6) 5 (onR (zNO tA) 6), zzI cy (rO 7) 5 (onR (zNO tA) 7), zzG cy 3 qmK rK, zzI cy (rK 0) 8 (T_kn (zNO tA) 0), zzI cy (rK 1) 8 (T_kn (zNO tA) 1), zzI cy (rK 2) 8 (T_kn (zNO tA) 2), zzI cy (rK 3) 8 (T_kn (zNO tA) 3), zzI cy (rK 4) 8 (T_kn (zNO tA) 4), zzI cy (rK 5) 8 (T_kn (zNO tA) 5), zzI cy (rK 6) 8 (T_kn (zNO tA) 6), zzI cy (rK 7) 8 (T_kn (zNO tA) 7)])) := by
  refine enW RX6 (by decide +kernel) rfl (Nat.le_of_ble_eq_true rfl) (fun p e s m below meth c ls A hx hb hml hown hts hr hlocks hP hN hl hin hD hA hS => ?_)
  have hin : meth.name = _ := hin
  have hK := hN.1
  replace hl : lv_has ls 2 [(0, .ref qm)] := hl
  refine lv_aload_n hx hb (g_42 bX6_newOne rfl) rfl (lv_at hl 0 rfl) ?_
  refine va_get (D := G) (ci := 5) (v := .ref qmO) (C := RX6) (T := TX6) (N := 35) hx hb hts iX_X6 hown hK hP 0 rfl rfl 13 (by decide +kernel) (hts _ m_t863) (fun _ h9 => h9) rfl (g_180 (v := 45) bX6_newOne rfl) ?_
  refine lv_aload_n hx hb (g_42 bX6_newOne rfl) rfl (lv_at hl 0 rfl) ?_
  refine va_get (D := G) (ci := 5) (v := .int (nI (T_np tA))) (C := RX6) (T := TX6) (N := 35) hx hb hts iX_X6 hown hK hP 0 rfl rfl 12 (by decide +kernel) (hts _ m_t862) (fun _ h9 => h9) rfl (g_180 (v := 78) bX6_newOne rfl) ?_
  refine va_alda hx hb hK hP 10 3 rfl rfl (in8 (by omega)) (g_50 bX6_newOne rfl) ?_
  refine lv_setv (v := .ref (rO (T_np tA))) (g_ref (by omega)) ?_
  refine lv_iconst (v := 1) hx hb (g_4 bX6_newOne rfl) (by decide +kernel) ?_
  refine lv_iconst (v := 5) hx hb (g_8 bX6_newOne rfl) (by decide +kernel) ?_
  refine va_iast hx hb hK hP hD hS (11 + (T_np tA)) 0 ((sg8 (n0 := 11) (f := (fun j => zzI cy (rO j) 5 (onR tA j))) rfl rfl rfl rfl rfl rfl rfl rfl) (T_np tA) (by omega)) rfl (in_c rfl) (g_79 bX6_newOne rfl) (fun H locs => ?_)
  clear hP hD hS
  intro hP hD hS
  have hPD := st8PD (ws' := [zzO qm 5 (v0 :: v1 :: v2 :: v3 :: v4 :: v5 :: v6 :: v7 :: v8 :: v9 :: .int (nI (T_nb (T_setre tA (upd (T_re tA) (T_np tA) 5)))) :: .ref qmB :: .int (nI (T_np (T_setre tA (upd (T_re tA) (T_np tA) 5)))) :: .ref qmO :: .ref qmK :: .int iEn :: .int iTk :: .int (T_sd (T_setre tA (upd (T_re tA) (T_np tA) 5))) :: v18 :: v19 :: v20 :: v21 :: v22 :: v23 :: v24 :: v25 :: v26 :: .int iLv :: .int iWs :: v29 :: v30 :: v31 :: v32 :: v33 :: v34 :: []), zzG cy 3 qmB rB, zzI cy (rB 0) 4 (bkR (T_setre tA (upd (T_re tA) (T_np tA) 5)) 0), zzI cy (rB 1) 4 (bkR (T_setre tA (upd (T_re tA) (T_np tA) 5)) 1), zzI cy (rB 2) 4 (bkR (T_setre tA (upd (T_re tA) (T_np tA) 5)) 2), zzI cy (rB 3) 4 (bkR (T_setre tA (upd (T_re tA) (T_np tA) 5)) 3), zzI cy (rB 4) 4 (bkR (T_setre tA (upd (T_re tA) (T_np tA) 5)) 4), zzI cy (rB 5) 4 (bkR (T_setre tA (upd (T_re tA) (T_np tA) 5)) 5), zzI cy (rB 6) 4 (bkR (T_setre tA (upd (T_re tA) (T_np tA) 5)) 6), zzI cy (rB 7) 4 (bkR (T_setre tA (upd (T_re tA) (T_np tA) 5)) 7), zzG cy 3 qmO rO, zzI cy (rO 0) 5 (onR (T_setre tA (upd (T_re tA) (T_np tA) 5)) 0), zzI cy (rO 1) 5 (onR (T_setre tA (upd (T_re tA) (T_np tA) 5)) 1), zzI cy (rO 2) 5 (onR (T_setre tA (upd (T_re tA) (T_np tA) 5)) 2), zzI cy (rO 3) 5 (onR (T_setre tA (upd (T_re tA) (T_np tA) 5)) 3), zzI cy (rO 4) 5 (onR (T_setre tA (upd (T_re tA) (T_np tA) 5)) 4), zzI cy (rO 5) 5 (onR (T_setre tA (upd (T_re tA) (T_np tA) 5)) 5), zzI cy (rO 6) 5 (onR (T_setre tA (upd (T_re tA) (T_np tA) 5)) 6), zzI cy (rO 7) 5 (onR (T_setre tA (upd (T_re tA) (T_np tA) 5)) 7), zzG cy 3 qmK rK, zzI cy (rK 0) 8 (T_kn (T_setre tA (upd (T_re tA) (T_np tA) 5)) 0), zzI cy (rK 1) 8 (T_kn (T_setre tA (upd (T_re tA) (T_np tA) 5)) 1), zzI cy (rK 2) 8 (T_kn (T_setre tA (upd (T_re tA) (T_np tA) 5)) 2), zzI cy (rK 3) 8 (T_kn (T_setre tA (upd (T_re tA) (T_np tA) 5)) 3), zzI cy (rK 4) 8 (T_kn (T_setre tA (upd (T_re tA) (T_np tA) 5)) 4), zzI cy (rK 5) 8 (T_kn (T_setre tA (upd (T_re tA) (T_np tA) 5)) 5), zzI cy (rK 6) 8 (T_kn (T_setre tA (upd (T_re tA) (T_np tA) 5)) 6), zzI cy (rK 7) 8 (T_kn (T_setre tA (upd (T_re tA) (T_np tA) 5)) 7)]) (k := (T_np tA)) (g1 := onR (T_setre tA (upd (T_re tA) (T_np tA) 5)) (T_np tA)) hP hD (sg8 (n0 := 11) (f := (fun j => zzI cy (rO j) 5 (onR tA j))) rfl rfl rfl rfl rfl rfl rfl rfl) (sg8 (n0 := 11) (f := (fun j => zzI cy (rO j) 5 (onR (T_setre tA (upd (T_re tA) (T_np tA) 5)) j))) rfl rfl rfl rfl rfl rfl rfl rfl) rfl rfl (by omega) rfl (fun i _ => (congrFun (on_u1 tA (T_np tA) 5) i).symm) (fun j hj => congrArg (zzI cy (rO j) 5) (on_n1 tA (T_np tA) 5 hj))
  clear hP hD
  obtain ⟨hP, hD⟩ := hPD
  generalize hq_2 : (T_setre tA (upd (T_re tA) (T_np tA) 5)) = t_1 at hP hD
  have hq_2b : T_nb t_1 = T_nb tA := by rw [← hq_2]
  have hq_2p : T_np t_1 = T_np tA := by rw [← hq_2]
  refine lv_aload_n hx hb (g_42 bX6_newOne rfl) rfl (lv_at hl 0 rfl) ?_
  refine va_get (D := G) (ci := 5) (v := .ref qmO) (C := RX6) (T := TX6) (N := 35) hx hb hts iX_X6 hown hK hP 0 rfl rfl 13 (by decide +kernel) (hts _ m_t863) (fun _ h9 => h9) rfl (g_180 (v := 45) bX6_newOne rfl) ?_
  refine lv_aload_n hx hb (g_42 bX6_newOne rfl) rfl (lv_at hl 0 rfl) ?_
  refine va_get (D := G) (ci := 5) (v := .int (nI (T_np t_1))) (C := RX6) (T := TX6) (N := 35) hx hb hts iX_X6 hown hK hP 0 rfl rfl 12 (by decide +kernel) (hts _ m_t862) (fun _ h9 => h9) rfl (g_180 (v := 78) bX6_newOne rfl) ?_
  refine va_alda hx hb hK hP 10 3 rfl rfl (in8 (by omega)) (g_50 bX6_newOne rfl) ?_
  refine lv_setv (v := .ref (rO (T_np t_1))) (g_ref (by omega)) ?_
  refine lv_iconst (v := 2) hx hb (g_5 bX6_newOne rfl) (by decide +kernel) ?_
  refine lv_iconst (v := 5) hx hb (g_8 bX6_newOne rfl) (by decide +kernel) ?_
  refine va_iast hx hb hK hP hD hS (11 + (T_np t_1)) 0 ((sg8 (n0 := 11) (f := (fun j => zzI cy (rO j) 5 (onR t_1 j))) rfl rfl rfl rfl rfl rfl rfl rfl) (T_np t_1) (by omega)) rfl (in_c rfl) (g_79 bX6_newOne rfl) (fun H locs => ?_)
  clear hP hD hS
  intro hP hD hS
  have hPD := st8PD (ws' := [zzO qm 5 (v0 :: v1 :: v2 :: v3 :: v4 :: v5 :: v6 :: v7 :: v8 :: v9 :: .int (nI (T_nb (T_setme t_1 (upd (T_me t_1) (T_np t_1) 5)))) :: .ref qmB :: .int (nI (T_np (T_setme t_1 (upd (T_me t_1) (T_np t_1) 5)))) :: .ref qmO :: .ref qmK :: .int iEn :: .int iTk :: .int (T_sd (T_setme t_1 (upd (T_me t_1) (T_np t_1) 5))) :: v18 :: v19 :: v20 :: v21 :: v22 :: v23 :: v24 :: v25 :: v26 :: .int iLv :: .int iWs :: v29 :: v30 :: v31 :: v32 :: v33 :: v34 :: []), zzG cy 3 qmB rB, zzI cy (rB 0) 4 (bkR (T_setme t_1 (upd (T_me t_1) (T_np t_1) 5)) 0), zzI cy (rB 1) 4 (bkR (T_setme t_1 (upd (T_me t_1) (T_np t_1) 5)) 1), zzI cy (rB 2) 4 (bkR (T_setme t_1 (upd (T_me t_1) (T_np t_1) 5)) 2), zzI cy (rB 3) 4 (bkR (T_setme t_1 (upd (T_me t_1) (T_np t_1) 5)) 3), zzI cy (rB 4) 4 (bkR (T_setme t_1 (upd (T_me t_1) (T_np t_1) 5)) 4), zzI cy (rB 5) 4 (bkR (T_setme t_1 (upd (T_me t_1) (T_np t_1) 5)) 5), zzI cy (rB 6) 4 (bkR (T_setme t_1 (upd (T_me t_1) (T_np t_1) 5)) 6), zzI cy (rB 7) 4 (bkR (T_setme t_1 (upd (T_me t_1) (T_np t_1) 5)) 7), zzG cy 3 qmO rO, zzI cy (rO 0) 5 (onR (T_setme t_1 (upd (T_me t_1) (T_np t_1) 5)) 0), zzI cy (rO 1) 5 (onR (T_setme t_1 (upd (T_me t_1) (T_np t_1) 5)) 1), zzI cy (rO 2) 5 (onR (T_setme t_1 (upd (T_me t_1) (T_np t_1) 5)) 2), zzI cy (rO 3) 5 (onR (T_setme t_1 (upd (T_me t_1) (T_np t_1) 5)) 3), zzI cy (rO 4) 5 (onR (T_setme t_1 (upd (T_me t_1) (T_np t_1) 5)) 4), zzI cy (rO 5) 5 (onR (T_setme t_1 (upd (T_me t_1) (T_np t_1) 5)) 5), zzI cy (rO 6) 5 (onR (T_setme t_1 (upd (T_me t_1) (T_np t_1) 5)) 6), zzI cy (rO 7) 5 (onR (T_setme t_1 (upd (T_me t_1) (T_np t_1) 5)) 7), zzG cy 3 qmK rK, zzI cy (rK 0) 8 (T_kn (T_setme t_1 (upd (T_me t_1) (T_np t_1) 5)) 0), zzI cy (rK 1) 8 (T_kn (T_setme t_1 (upd (T_me t_1) (T_np t_1) 5)) 1), zzI cy (rK 2) 8 (T_kn (T_setme t_1 (upd (T_me t_1) (T_np t_1) 5)) 2), zzI cy (rK 3) 8 (T_kn (T_setme t_1 (upd (T_me t_1) (T_np t_1) 5)) 3), zzI cy (rK 4) 8 (T_kn (T_setme t_1 (upd (T_me t_1) (T_np t_1) 5)) 4), zzI cy (rK 5) 8 (T_kn (T_setme t_1 (upd (T_me t_1) (T_np t_1) 5)) 5), zzI cy (rK 6) 8 (T_kn (T_setme t_1 (upd (T_me t_1) (T_np t_1) 5)) 6), zzI cy (rK 7) 8 (T_kn (T_setme t_1 (upd (T_me t_1) (T_np t_1) 5)) 7)]) (k := (T_np t_1)) (g1 := onR (T_setme t_1 (upd (T_me t_1) (T_np t_1) 5)) (T_np t_1)) hP hD (sg8 (n0 := 11) (f := (fun j => zzI cy (rO j) 5 (onR t_1 j))) rfl rfl rfl rfl rfl rfl rfl rfl) (sg8 (n0 := 11) (f := (fun j => zzI cy (rO j) 5 (onR (T_setme t_1 (upd (T_me t_1) (T_np t_1) 5)) j))) rfl rfl rfl rfl rfl rfl rfl rfl) rfl rfl (by omega) rfl (fun i _ => (congrFun (on_u2 t_1 (T_np t_1) 5) i).symm) (fun j hj => congrArg (zzI cy (rO j) 5) (on_n2 t_1 (T_np t_1) 5 hj))
  clear hP hD
  obtain ⟨hP, hD⟩ := hPD
  generalize hq_4 : (T_setme t_1 (upd (T_me t_1) (T_np t_1) 5)) = t_3 at hP hD
  have hq_4b : T_nb t_3 = T_nb t_1 := by rw [← hq_4]
  have hq_4p : T_np t_3 = T_np t_1 := by rw [← hq_4]
  refine lv_aload_n hx hb (g_42 bX6_newOne rfl) rfl (lv_at hl 0 rfl) ?_
  refine va_get (D := G) (ci := 5) (v := .ref qmO) (C := RX6) (T := TX6) (N := 35) hx hb hts iX_X6 hown hK hP 0 rfl rfl 13 (by decide +kernel) (hts _ m_t863) (fun _ h9 => h9) rfl (g_180 (v := 45) bX6_newOne rfl) ?_
  refine lv_aload_n hx hb (g_42 bX6_newOne rfl) rfl (lv_at hl 0 rfl) ?_
  refine va_get (D := G) (ci := 5) (v := .int (nI (T_np t_3))) (C := RX6) (T := TX6) (N := 35) hx hb hts iX_X6 hown hK hP 0 rfl rfl 12 (by decide +kernel) (hts _ m_t862) (fun _ h9 => h9) rfl (g_180 (v := 78) bX6_newOne rfl) ?_
  refine va_alda hx hb hK hP 10 3 rfl rfl (in8 (by omega)) (g_50 bX6_newOne rfl) ?_
  refine lv_setv (v := .ref (rO (T_np t_3))) (g_ref (by omega)) ?_
  refine lv_iconst (v := 3) hx hb (g_6 bX6_newOne rfl) (by decide +kernel) ?_
  refine lv_iconst (v := 5) hx hb (g_8 bX6_newOne rfl) (by decide +kernel) ?_
  refine va_iast hx hb hK hP hD hS (11 + (T_np t_3)) 0 ((sg8 (n0 := 11) (f := (fun j => zzI cy (rO j) 5 (onR t_3 j))) rfl rfl rfl rfl rfl rfl rfl rfl) (T_np t_3) (by omega)) rfl (in_c rfl) (g_79 bX6_newOne rfl) (fun H locs => ?_)
  clear hP hD hS
  intro hP hD hS
  have hPD := st8PD (ws' := [zzO qm 5 (v0 :: v1 :: v2 :: v3 :: v4 :: v5 :: v6 :: v7 :: v8 :: v9 :: .int (nI (T_nb (T_sette t_3 (upd (T_te t_3) (T_np t_3) 5)))) :: .ref qmB :: .int (nI (T_np (T_sette t_3 (upd (T_te t_3) (T_np t_3) 5)))) :: .ref qmO :: .ref qmK :: .int iEn :: .int iTk :: .int (T_sd (T_sette t_3 (upd (T_te t_3) (T_np t_3) 5))) :: v18 :: v19 :: v20 :: v21 :: v22 :: v23 :: v24 :: v25 :: v26 :: .int iLv :: .int iWs :: v29 :: v30 :: v31 :: v32 :: v33 :: v34 :: []), zzG cy 3 qmB rB, zzI cy (rB 0) 4 (bkR (T_sette t_3 (upd (T_te t_3) (T_np t_3) 5)) 0), zzI cy (rB 1) 4 (bkR (T_sette t_3 (upd (T_te t_3) (T_np t_3) 5)) 1), zzI cy (rB 2) 4 (bkR (T_sette t_3 (upd (T_te t_3) (T_np t_3) 5)) 2), zzI cy (rB 3) 4 (bkR (T_sette t_3 (upd (T_te t_3) (T_np t_3) 5)) 3), zzI cy (rB 4) 4 (bkR (T_sette t_3 (upd (T_te t_3) (T_np t_3) 5)) 4), zzI cy (rB 5) 4 (bkR (T_sette t_3 (upd (T_te t_3) (T_np t_3) 5)) 5), zzI cy (rB 6) 4 (bkR (T_sette t_3 (upd (T_te t_3) (T_np t_3) 5)) 6), zzI cy (rB 7) 4 (bkR (T_sette t_3 (upd (T_te t_3) (T_np t_3) 5)) 7), zzG cy 3 qmO rO, zzI cy (rO 0) 5 (onR (T_sette t_3 (upd (T_te t_3) (T_np t_3) 5)) 0), zzI cy (rO 1) 5 (onR (T_sette t_3 (upd (T_te t_3) (T_np t_3) 5)) 1), zzI cy (rO 2) 5 (onR (T_sette t_3 (upd (T_te t_3) (T_np t_3) 5)) 2), zzI cy (rO 3) 5 (onR (T_sette t_3 (upd (T_te t_3) (T_np t_3) 5)) 3), zzI cy (rO 4) 5 (onR (T_sette t_3 (upd (T_te t_3) (T_np t_3) 5)) 4), zzI cy (rO 5) 5 (onR (T_sette t_3 (upd (T_te t_3) (T_np t_3) 5)) 5), zzI cy (rO 6) 5 (onR (T_sette t_3 (upd (T_te t_3) (T_np t_3) 5)) 6), zzI cy (rO 7) 5 (onR (T_sette t_3 (upd (T_te t_3) (T_np t_3) 5)) 7), zzG cy 3 qmK rK, zzI cy (rK 0) 8 (T_kn (T_sette t_3 (upd (T_te t_3) (T_np t_3) 5)) 0), zzI cy (rK 1) 8 (T_kn (T_sette t_3 (upd (T_te t_3) (T_np t_3) 5)) 1), zzI cy (rK 2) 8 (T_kn (T_sette t_3 (upd (T_te t_3) (T_np t_3) 5)) 2), zzI cy (rK 3) 8 (T_kn (T_sette t_3 (upd (T_te t_3) (T_np t_3) 5)) 3), zzI cy (rK 4) 8 (T_kn (T_sette t_3 (upd (T_te t_3) (T_np t_3) 5)) 4), zzI cy (rK 5) 8 (T_kn (T_sette t_3 (upd (T_te t_3) (T_np t_3) 5)) 5), zzI cy (rK 6) 8 (T_kn (T_sette t_3 (upd (T_te t_3) (T_np t_3) 5)) 6), zzI cy (rK 7) 8 (T_kn (T_sette t_3 (upd (T_te t_3) (T_np t_3) 5)) 7)]) (k := (T_np t_3)) (g1 := onR (T_sette t_3 (upd (T_te t_3) (T_np t_3) 5)) (T_np t_3)) hP hD (sg8 (n0 := 11) (f := (fun j => zzI cy (rO j) 5 (onR t_3 j))) rfl rfl rfl rfl rfl rfl rfl rfl) (sg8 (n0 := 11) (f := (fun j => zzI cy (rO j) 5 (onR (T_sette t_3 (upd (T_te t_3) (T_np t_3) 5)) j))) rfl rfl rfl rfl rfl rfl rfl rfl) rfl rfl (by omega) rfl (fun i _ => (congrFun (on_u3 t_3 (T_np t_3) 5) i).symm) (fun j hj => congrArg (zzI cy (rO j) 5) (on_n3 t_3 (T_np t_3) 5 hj))
  clear hP hD
  obtain ⟨hP, hD⟩ := hPD
  generalize hq_6 : (T_sette t_3 (upd (T_te t_3) (T_np t_3) 5)) = t_5 at hP hD
  have hq_6b : T_nb t_5 = T_nb t_3 := by rw [← hq_6]
  have hq_6p : T_np t_5 = T_np t_3 := by rw [← hq_6]
  refine lv_aload_n hx hb (g_42 bX6_newOne rfl) rfl (lv_at hl 0 rfl) ?_
  refine va_get (D := G) (ci := 5) (v := .ref qmO) (C := RX6) (T := TX6) (N := 35) hx hb hts iX_X6 hown hK hP 0 rfl rfl 13 (by decide +kernel) (hts _ m_t863) (fun _ h9 => h9) rfl (g_180 (v := 45) bX6_newOne rfl) ?_
  refine lv_aload_n hx hb (g_42 bX6_newOne rfl) rfl (lv_at hl 0 rfl) ?_
  refine va_get (D := G) (ci := 5) (v := .int (nI (T_np t_5))) (C := RX6) (T := TX6) (N := 35) hx hb hts iX_X6 hown hK hP 0 rfl rfl 12 (by decide +kernel) (hts _ m_t862) (fun _ h9 => h9) rfl (g_180 (v := 78) bX6_newOne rfl) ?_
  refine va_alda hx hb hK hP 10 3 rfl rfl (in8 (by omega)) (g_50 bX6_newOne rfl) ?_
  refine lv_setv (v := .ref (rO (T_np t_5))) (g_ref (by omega)) ?_
  refine lv_iconst (v := 4) hx hb (g_7 bX6_newOne rfl) (by decide +kernel) ?_
  refine lv_iconst (v := 0) hx hb (g_3 bX6_newOne rfl) (by decide +kernel) ?_
  refine va_iast hx hb hK hP hD hS (11 + (T_np t_5)) 0 ((sg8 (n0 := 11) (f := (fun j => zzI cy (rO j) 5 (onR t_5 j))) rfl rfl rfl rfl rfl rfl rfl rfl) (T_np t_5) (by omega)) rfl (in_c rfl) (g_79 bX6_newOne rfl) (fun H locs => ?_)
  clear hP hD hS
  intro hP hD hS
  have hPD := st8PD (ws' := [zzO qm 5 (v0 :: v1 :: v2 :: v3 :: v4 :: v5 :: v6 :: v7 :: v8 :: v9 :: .int (nI (T_nb (T_setgn t_5 (updB (T_gn t_5) (T_np t_5) false)))) :: .ref qmB :: .int (nI (T_np (T_setgn t_5 (updB (T_gn t_5) (T_np t_5) false)))) :: .ref qmO :: .ref qmK :: .int iEn :: .int iTk :: .int (T_sd (T_setgn t_5 (updB (T_gn t_5) (T_np t_5) false))) :: v18 :: v19 :: v20 :: v21 :: v22 :: v23 :: v24 :: v25 :: v26 :: .int iLv :: .int iWs :: v29 :: v30 :: v31 :: v32 :: v33 :: v34 :: []), zzG cy 3 qmB rB, zzI cy (rB 0) 4 (bkR (T_setgn t_5 (updB (T_gn t_5) (T_np t_5) false)) 0), zzI cy (rB 1) 4 (bkR (T_setgn t_5 (updB (T_gn t_5) (T_np t_5) false)) 1), zzI cy (rB 2) 4 (bkR (T_setgn t_5 (updB (T_gn t_5) (T_np t_5) false)) 2), zzI cy (rB 3) 4 (bkR (T_setgn t_5 (updB (T_gn t_5) (T_np t_5) false)) 3), zzI cy (rB 4) 4 (bkR (T_setgn t_5 (updB (T_gn t_5) (T_np t_5) false)) 4), zzI cy (rB 5) 4 (bkR (T_setgn t_5 (updB (T_gn t_5) (T_np t_5) false)) 5), zzI cy (rB 6) 4 (bkR (T_setgn t_5 (updB (T_gn t_5) (T_np t_5) false)) 6), zzI cy (rB 7) 4 (bkR (T_setgn t_5 (updB (T_gn t_5) (T_np t_5) false)) 7), zzG cy 3 qmO rO, zzI cy (rO 0) 5 (onR (T_setgn t_5 (updB (T_gn t_5) (T_np t_5) false)) 0), zzI cy (rO 1) 5 (onR (T_setgn t_5 (updB (T_gn t_5) (T_np t_5) false)) 1), zzI cy (rO 2) 5 (onR (T_setgn t_5 (updB (T_gn t_5) (T_np t_5) false)) 2), zzI cy (rO 3) 5 (onR (T_setgn t_5 (updB (T_gn t_5) (T_np t_5) false)) 3), zzI cy (rO 4) 5 (onR (T_setgn t_5 (updB (T_gn t_5) (T_np t_5) false)) 4), zzI cy (rO 5) 5 (onR (T_setgn t_5 (updB (T_gn t_5) (T_np t_5) false)) 5), zzI cy (rO 6) 5 (onR (T_setgn t_5 (updB (T_gn t_5) (T_np t_5) false)) 6), zzI cy (rO 7) 5 (onR (T_setgn t_5 (updB (T_gn t_5) (T_np t_5) false)) 7), zzG cy 3 qmK rK, zzI cy (rK 0) 8 (T_kn (T_setgn t_5 (updB (T_gn t_5) (T_np t_5) false)) 0), zzI cy (rK 1) 8 (T_kn (T_setgn t_5 (updB (T_gn t_5) (T_np t_5) false)) 1), zzI cy (rK 2) 8 (T_kn (T_setgn t_5 (updB (T_gn t_5) (T_np t_5) false)) 2), zzI cy (rK 3) 8 (T_kn (T_setgn t_5 (updB (T_gn t_5) (T_np t_5) false)) 3), zzI cy (rK 4) 8 (T_kn (T_setgn t_5 (updB (T_gn t_5) (T_np t_5) false)) 4), zzI cy (rK 5) 8 (T_kn (T_setgn t_5 (updB (T_gn t_5) (T_np t_5) false)) 5), zzI cy (rK 6) 8 (T_kn (T_setgn t_5 (updB (T_gn t_5) (T_np t_5) false)) 6), zzI cy (rK 7) 8 (T_kn (T_setgn t_5 (updB (T_gn t_5) (T_np t_5) false)) 7)]) (k := (T_np t_5)) (g1 := onR (T_setgn t_5 (updB (T_gn t_5) (T_np t_5) false)) (T_np t_5)) hP hD (sg8 (n0 := 11) (f := (fun j => zzI cy (rO j) 5 (onR t_5 j))) rfl rfl rfl rfl rfl rfl rfl rfl) (sg8 (n0 := 11) (f := (fun j => zzI cy (rO j) 5 (onR (T_setgn t_5 (updB (T_gn t_5) (T_np t_5) false)) j))) rfl rfl rfl rfl rfl rfl rfl rfl) rfl rfl (by omega) rfl (on_w4 t_5 (T_np t_5) false) (fun j hj => congrArg (zzI cy (rO j) 5) (on_n4 t_5 (T_np t_5) false hj))
  clear hP hD
  obtain ⟨hP, hD⟩ := hPD
  generalize hq_8 : (T_setgn t_5 (updB (T_gn t_5) (T_np t_5) false)) = t_7 at hP hD
  have hq_8b : T_nb t_7 = T_nb t_5 := by rw [← hq_8]
  have hq_8p : T_np t_7 = T_np t_5 := by rw [← hq_8]
  refine lv_iconst (v := 0) hx hb (g_3 bX6_newOne rfl) (by decide +kernel) ?_
  refine lv_istore_n (lv' := [(1, .int 0), (0, .ref qm)]) hx hb (g_60 bX6_newOne rfl) rfl hl (by decide +kernel) rfl (fun ls => ?_)
  clear hl
  intro hl
  have e_9 : t_7 = (no0 tA) := by rw [← hq_8, ← hq_6, ← hq_4, ← hq_2]; rfl
  rw [e_9] at hP hD
  have lp_10 : ∀ (n_11 : Nat) (j_13 : Nat) (tJ_14 : TA), 8 - j_13 < n_11 → j_13 ≤ 8 → tJ_14 = noF (T_np tA) (no0 tA) j_13 → ∀ (H : Heap) (locs : List Loc) (ls : Array Slot), va_P G CL [zzO qm 5 (v0 :: v1 :: v2 :: v3 :: v4 :: v5 :: v6 :: v7 :: v8 :: v9 :: .int (nI (T_nb tJ_14)) :: .ref qmB :: .int (nI (T_np tJ_14)) :: .ref qmO :: .ref qmK :: .int iEn :: .int iTk :: .int (T_sd tJ_14) :: v18 :: v19 :: v20 :: v21 :: v22 :: v23 :: v24 :: v25 :: v26 :: .int iLv :: .int iWs :: v29 :: v30 :: v31 :: v32 :: v33 :: v34 :: []), zzG cy 3 qmB rB, zzI cy (rB 0) 4 (bkR tJ_14 0), zzI cy (rB 1) 4 (bkR tJ_14 1), zzI cy (rB 2) 4 (bkR tJ_14 2), zzI cy (rB 3) 4 (bkR tJ_14 3), zzI cy (rB 4) 4 (bkR tJ_14 4), zzI cy (rB 5) 4 (bkR tJ_14 5), zzI cy (rB 6) 4 (bkR tJ_14 6), zzI cy (rB 7) 4 (bkR tJ_14 7), zzG cy 3 qmO rO, zzI cy (rO 0) 5 (onR tJ_14 0), zzI cy (rO 1) 5 (onR tJ_14 1), zzI cy (rO 2) 5 (onR tJ_14 2), zzI cy (rO 3) 5 (onR tJ_14 3), zzI cy (rO 4) 5 (onR tJ_14 4), zzI cy (rO 5) 5 (onR tJ_14 5), zzI cy (rO 6) 5 (onR tJ_14 6), zzI cy (rO 7) 5 (onR tJ_14 7), zzG cy 3 qmK rK, zzI cy (rK 0) 8 (T_kn tJ_14 0), zzI cy (rK 1) 8 (T_kn tJ_14 1), zzI cy (rK 2) 8 (T_kn tJ_14 2), zzI cy (rK 3) 8 (T_kn tJ_14 3), zzI cy (rK 4) 8 (T_kn tJ_14 4), zzI cy (rK 5) 8 (T_kn tJ_14 5), zzI cy (rK 6) 8 (T_kn tJ_14 6), zzI cy (rK 7) 8 (T_kn tJ_14 7)] H → va_D A [zzO qm 5 (v0 :: v1 :: v2 :: v3 :: v4 :: v5 :: v6 :: v7 :: v8 :: v9 :: .int (nI (T_nb tJ_14)) :: .ref qmB :: .int (nI (T_np tJ_14)) :: .ref qmO :: .ref qmK :: .int iEn :: .int iTk :: .int (T_sd tJ_14) :: v18 :: v19 :: v20 :: v21 :: v22 :: v23 :: v24 :: v25 :: v26 :: .int iLv :: .int iWs :: v29 :: v30 :: v31 :: v32 :: v33 :: v34 :: []), zzG cy 3 qmB rB, zzI cy (rB 0) 4 (bkR tJ_14 0), zzI cy (rB 1) 4 (bkR tJ_14 1), zzI cy (rB 2) 4 (bkR tJ_14 2), zzI cy (rB 3) 4 (bkR tJ_14 3), zzI cy (rB 4) 4 (bkR tJ_14 4), zzI cy (rB 5) 4 (bkR tJ_14 5), zzI cy (rB 6) 4 (bkR tJ_14 6), zzI cy (rB 7) 4 (bkR tJ_14 7), zzG cy 3 qmO rO, zzI cy (rO 0) 5 (onR tJ_14 0), zzI cy (rO 1) 5 (onR tJ_14 1), zzI cy (rO 2) 5 (onR tJ_14 2), zzI cy (rO 3) 5 (onR tJ_14 3), zzI cy (rO 4) 5 (onR tJ_14 4), zzI cy (rO 5) 5 (onR tJ_14 5), zzI cy (rO 6) 5 (onR tJ_14 6), zzI cy (rO 7) 5 (onR tJ_14 7), zzG cy 3 qmK rK, zzI cy (rK 0) 8 (T_kn tJ_14 0), zzI cy (rK 1) 8 (T_kn tJ_14 1), zzI cy (rK 2) 8 (T_kn tJ_14 2), zzI cy (rK 3) 8 (T_kn tJ_14 3), zzI cy (rK 4) 8 (T_kn tJ_14 4), zzI cy (rK 5) 8 (T_kn tJ_14 5), zzI cy (rK 6) 8 (T_kn tJ_14 6), zzI cy (rK 7) 8 (T_kn tJ_14 7)] → va_S A s.heap H locs → lv_has ls 2 [(1, .int (nI j_13)), (0, .ref qm)] → W p l e (Rm 1 0 0) s m (List.toArray (α := Value) [.ref qm]) below meth c H locs 0 0 (MQ below ((Wv G (fun u => u = [zzO qm 5 (v0 :: v1 :: v2 :: v3 :: v4 :: v5 :: v6 :: v7 :: v8 :: v9 :: .int (nI (T_nb (zNO tA))) :: .ref qmB :: .int (nI (T_np (zNO tA))) :: .ref qmO :: .ref qmK :: .int iEn :: .int iTk :: .int (T_sd (zNO tA)) :: v18 :: v19 :: v20 :: v21 :: v22 :: v23 :: v24 :: v25 :: v26 :: .int iLv :: .int iWs :: v29 :: v30 :: v31 :: v32 :: v33 :: v34 :: []), zzG cy 3 qmB rB, zzI cy (rB 0) 4 (bkR (zNO tA) 0), zzI cy (rB 1) 4 (bkR (zNO tA) 1), zzI cy (rB 2) 4 (bkR (zNO tA) 2), zzI cy (rB 3) 4 (bkR (zNO tA) 3), zzI cy (rB 4) 4 (bkR (zNO tA) 4), zzI cy (rB 5) 4 (bkR (zNO tA) 5), zzI cy (rB 6) 4 (bkR (zNO tA) 6), zzI cy (rB 7) 4 (bkR (zNO tA) 7), zzG cy 3 qmO rO, zzI cy (rO 0) 5 (onR (zNO tA) 0), zzI cy (rO 1) 5 (onR (zNO tA) 1), zzI cy (rO 2) 5 (onR (zNO tA) 2), zzI cy (rO 3) 5 (onR (zNO tA) 3), zzI cy (rO 4) 5 (onR (zNO tA) 4), zzI cy (rO 5) 5 (onR (zNO tA) 5), zzI cy (rO 6) 5 (onR (zNO tA) 6), zzI cy (rO 7) 5 (onR (zNO tA) 7), zzG cy 3 qmK rK, zzI cy (rK 0) 8 (T_kn (zNO tA) 0), zzI cy (rK 1) 8 (T_kn (zNO tA) 1), zzI cy (rK 2) 8 (T_kn (zNO tA) 2), zzI cy (rK 3) 8 (T_kn (zNO tA) 3), zzI cy (rK 4) 8 (T_kn (zNO tA) 4), zzI cy (rK 5) 8 (T_kn (zNO tA) 5), zzI cy (rK 6) 8 (T_kn (zNO tA) 6), zzI cy (rK 7) 8 (T_kn (zNO tA) 7)])) A) (List.toArray (α := Value) [.ref qm]) s 0 0 A) (F0 m 50 ls []) := by
    intro n_11
    induction n_11 with
    | zero => intro j_13 tJ_14 hm9; exact absurd hm9 (Nat.not_lt_zero _)
    | succ n_11 ih_12 =>
      intro j_13 tJ_14 hm_17 hj_15 htJ_16 H locs ls hP hD hS hl
      refine lv_iload_n hx hb (g_27 bX6_newOne rfl) rfl (lv_at hl 0 rfl) ?_
      refine lv_bipush (v := 8) hx hb dX6_newOne_51 (by decide +kernel) ?_
      refine lv_icmp_ge (tgt := 74) hx hb dX6_newOne_53 (by decide +kernel) (fun c_18 => ?_) (fun c_18 => ?_)
      · have hlt_19e : T_np tJ_14 = T_np tA := by rw [htJ_16]; exact (noF_nb _ _ _).2
        have hlt_19 : j_13 = 8 := Nat.le_antisymm (by omega) (lp_ge rfl (rfl : (8 : Int32) = nI 8) (by omega) (by omega) c_18)
        have e9_20 : tJ_14 = zNO tA := by rw [htJ_16, hlt_19]; rfl
        subst e9_20
        exact endVs [[true, true, true, true, true, true, true, true, true, true, true, true, true, true, true, true, true, true, true, true, true, true, true, true, true, true, true, true]] hx hb hr hlocks hP hD rfl (by decide +kernel) hS rfl (g_177 bX6_newOne rfl)
      · have hlt_21e : T_np tJ_14 = T_np tA := by rw [htJ_16]; exact (noF_nb _ _ _).2
        have hlt_21 : j_13 < 8 := lp_lt rfl (rfl : (8 : Int32) = nI 8) (by omega) (by omega) c_18
        refine lv_aload_n hx hb (g_42 bX6_newOne rfl) rfl (lv_at hl 1 rfl) ?_
        refine va_get (D := G) (ci := 5) (v := .ref qmK) (C := RX6) (T := TX6) (N := 35) hx hb hts iX_X6 hown hK hP 0 rfl rfl 14 (by decide +kernel) (hts _ m_t864) (fun _ h9 => h9) rfl (g_180 (v := 48) bX6_newOne rfl) ?_
        refine lv_aload_n hx hb (g_42 bX6_newOne rfl) rfl (lv_at hl 1 rfl) ?_
        refine va_get (D := G) (ci := 5) (v := .int (nI (T_np tJ_14))) (C := RX6) (T := TX6) (N := 35) hx hb hts iX_X6 hown hK hP 0 rfl rfl 12 (by decide +kernel) (hts _ m_t862) (fun _ h9 => h9) rfl (g_180 (v := 78) bX6_newOne rfl) ?_
        refine lv_seti (v := nI (T_np tA)) (congrArg nI hlt_21e) ?_
        refine va_alda hx hb hK hP 19 3 rfl rfl (in8 (by omega)) (g_50 bX6_newOne rfl) ?_
        refine lv_setv (v := .ref (rK (T_np tA))) (g_ref (by omega)) ?_
        refine lv_iload_n hx hb (g_27 bX6_newOne rfl) rfl (lv_at hl 0 rfl) ?_
        refine lv_iconst (v := 0) hx hb (g_3 bX6_newOne rfl) (by decide +kernel) ?_
        refine va_iast hx hb hK hP hD hS (20 + (T_np tA)) 0 ((sg8 (n0 := 20) (f := (fun j => zzI cy (rK j) 8 (T_kn tJ_14 j))) rfl rfl rfl rfl rfl rfl rfl rfl) (T_np tA) (by omega)) rfl (vp_in_nI (by omega) (by omega)) (g_79 bX6_newOne rfl) (fun H locs => ?_)
        clear hP hD hS
        intro hP hD hS
        rw [nI_clamp (n := j_13) (by omega)] at hP hD
        have hPD := st8PD (ws' := [zzO qm 5 (v0 :: v1 :: v2 :: v3 :: v4 :: v5 :: v6 :: v7 :: v8 :: v9 :: .int (nI (T_nb (T_setkn tJ_14 (updM (T_kn tJ_14) (T_np tA) j_13 0)))) :: .ref qmB :: .int (nI (T_np (T_setkn tJ_14 (updM (T_kn tJ_14) (T_np tA) j_13 0)))) :: .ref qmO :: .ref qmK :: .int iEn :: .int iTk :: .int (T_sd (T_setkn tJ_14 (updM (T_kn tJ_14) (T_np tA) j_13 0))) :: v18 :: v19 :: v20 :: v21 :: v22 :: v23 :: v24 :: v25 :: v26 :: .int iLv :: .int iWs :: v29 :: v30 :: v31 :: v32 :: v33 :: v34 :: []), zzG cy 3 qmB rB, zzI cy (rB 0) 4 (bkR (T_setkn tJ_14 (updM (T_kn tJ_14) (T_np tA) j_13 0)) 0), zzI cy (rB 1) 4 (bkR (T_setkn tJ_14 (updM (T_kn tJ_14) (T_np tA) j_13 0)) 1), zzI cy (rB 2) 4 (bkR (T_setkn tJ_14 (updM (T_kn tJ_14) (T_np tA) j_13 0)) 2), zzI cy (rB 3) 4 (bkR (T_setkn tJ_14 (updM (T_kn tJ_14) (T_np tA) j_13 0)) 3), zzI cy (rB 4) 4 (bkR (T_setkn tJ_14 (updM (T_kn tJ_14) (T_np tA) j_13 0)) 4), zzI cy (rB 5) 4 (bkR (T_setkn tJ_14 (updM (T_kn tJ_14) (T_np tA) j_13 0)) 5), zzI cy (rB 6) 4 (bkR (T_setkn tJ_14 (updM (T_kn tJ_14) (T_np tA) j_13 0)) 6), zzI cy (rB 7) 4 (bkR (T_setkn tJ_14 (updM (T_kn tJ_14) (T_np tA) j_13 0)) 7), zzG cy 3 qmO rO, zzI cy (rO 0) 5 (onR (T_setkn tJ_14 (updM (T_kn tJ_14) (T_np tA) j_13 0)) 0), zzI cy (rO 1) 5 (onR (T_setkn tJ_14 (updM (T_kn tJ_14) (T_np tA) j_13 0)) 1), zzI cy (rO 2) 5 (onR (T_setkn tJ_14 (updM (T_kn tJ_14) (T_np tA) j_13 0)) 2), zzI cy (rO 3) 5 (onR (T_setkn tJ_14 (updM (T_kn tJ_14) (T_np tA) j_13 0)) 3), zzI cy (rO 4) 5 (onR (T_setkn tJ_14 (updM (T_kn tJ_14) (T_np tA) j_13 0)) 4), zzI cy (rO 5) 5 (onR (T_setkn tJ_14 (updM (T_kn tJ_14) (T_np tA) j_13 0)) 5), zzI cy (rO 6) 5 (onR (T_setkn tJ_14 (updM (T_kn tJ_14) (T_np tA) j_13 0)) 6), zzI cy (rO 7) 5 (onR (T_setkn tJ_14 (updM (T_kn tJ_14) (T_np tA) j_13 0)) 7), zzG cy 3 qmK rK, zzI cy (rK 0) 8 (T_kn (T_setkn tJ_14 (updM (T_kn tJ_14) (T_np tA) j_13 0)) 0), zzI cy (rK 1) 8 (T_kn (T_setkn tJ_14 (updM (T_kn tJ_14) (T_np tA) j_13 0)) 1), zzI cy (rK 2) 8 (T_kn (T_setkn tJ_14 (updM (T_kn tJ_14) (T_np tA) j_13 0)) 2), zzI cy (rK 3) 8 (T_kn (T_setkn tJ_14 (updM (T_kn tJ_14) (T_np tA) j_13 0)) 3), zzI cy (rK 4) 8 (T_kn (T_setkn tJ_14 (updM (T_kn tJ_14) (T_np tA) j_13 0)) 4), zzI cy (rK 5) 8 (T_kn (T_setkn tJ_14 (updM (T_kn tJ_14) (T_np tA) j_13 0)) 5), zzI cy (rK 6) 8 (T_kn (T_setkn tJ_14 (updM (T_kn tJ_14) (T_np tA) j_13 0)) 6), zzI cy (rK 7) 8 (T_kn (T_setkn tJ_14 (updM (T_kn tJ_14) (T_np tA) j_13 0)) 7)]) (k := (T_np tA)) (g1 := T_kn (T_setkn tJ_14 (updM (T_kn tJ_14) (T_np tA) j_13 0)) (T_np tA)) hP hD (sg8 (n0 := 20) (f := (fun j => zzI cy (rK j) 8 (T_kn tJ_14 j))) rfl rfl rfl rfl rfl rfl rfl rfl) (sg8 (n0 := 20) (f := (fun j => zzI cy (rK j) 8 (T_kn (T_setkn tJ_14 (updM (T_kn tJ_14) (T_np tA) j_13 0)) j))) rfl rfl rfl rfl rfl rfl rfl rfl) rfl rfl (by omega) rfl (fun i _ => (congrFun (kn_u tJ_14 (T_np tA) j_13 0) i).symm) (fun j hj => congrArg (zzI cy (rK j) 8) (kn_n tJ_14 (T_np tA) j_13 0 hj))
        clear hP hD
        obtain ⟨hP, hD⟩ := hPD
        refine lv_iinc (v := nI (j_13 + 1)) (lv' := [(1, .int (nI (j_13 + 1))), (0, .ref qm)]) hx hb dX6_newOne_68 hl (k := 0) rfl (nI_1 _) (by decide +kernel) rfl (fun ls => ?_)
        clear hl
        intro hl
        refine lv_goto (tgt := 50) hx hb dX6_newOne_71 (by decide +kernel) ?_
        exact ih_12 (j_13 + 1) (T_setkn tJ_14 (updM (T_kn tJ_14) (T_np tA) j_13 0)) (by omega) (by omega) (by rw [htJ_16]; rfl) _ _ _ hP hD hS (lv_sub hl [0, 1] rfl)
  exact lp_10 ((8 - 0) + 1) 0 (no0 tA) (Nat.lt_succ_self _) (Nat.zero_le _) rfl _ _ ls hP hD hS (lv_sub hl [0, 1] rfl)
set_option maxHeartbeats 4000000 in
set_option maxRecDepth 100000 in
theorem c_X6_fit (l : Launch) (G : va_G) (cy : Nat → ClassId) (iA : Int32) (J1 : Int64)   : MR l yX6_fit cX6_fit 3 (some .long) 1 G cy [] [.int iA, .long J1] (vp_Sl (fun r => (r = (zft iA J1)))) := by
  refine enR RX6 (by decide +kernel) rfl (Nat.le_of_ble_eq_true rfl) (fun p e s m below meth c ls hx hb hml hown hts hr hlocks hP hN hl => ?_)
  have hK := hN.1
  replace hl : lv_has ls 3 [(0, .int iA), (1, .long J1)] := hl
  refine lv_iload_n hx hb (g_26 bX6_fit rfl) rfl (lv_at hl 0 rfl) ?_
  rcases sw_0_3 iA with rfl | rfl | rfl | rfl | h_1
  · refine lv_tableIn (tgt := 32) (off := 31) hx hb dX6_fit_1 (by decide +kernel) (by decide +kernel) (by decide +kernel) (by decide +kernel) ?_
    refine lv_lload_n hx hb (g_31 bX6_fit rfl) rfl (lv_at hl 1 rfl) ?_
    refine lv_l2i (v := J1.toInt32) hx hb (g_136 bX6_fit rfl) rfl ?_
    refine lv_i2b (v := J1.toInt32.toInt8.toInt32) hx hb (g_145 bX6_fit rfl) rfl ?_
    refine lv_i2l (v := J1.toInt32.toInt8.toInt32.toInt64) hx hb (g_133 bX6_fit rfl) rfl ?_
    exact endRl hx hb hr hlocks (by rfl) (g_173 bX6_fit rfl)
  · refine lv_tableIn (tgt := 37) (off := 36) hx hb dX6_fit_1 (by decide +kernel) (by decide +kernel) (by decide +kernel) (by decide +kernel) ?_
    refine lv_lload_n hx hb (g_31 bX6_fit rfl) rfl (lv_at hl 1 rfl) ?_
    refine lv_l2i (v := J1.toInt32) hx hb (g_136 bX6_fit rfl) rfl ?_
    refine lv_i2s (v := J1.toInt32.toInt16.toInt32) hx hb (g_147 bX6_fit rfl) rfl ?_
    refine lv_i2l (v := J1.toInt32.toInt16.toInt32.toInt64) hx hb (g_133 bX6_fit rfl) rfl ?_
    exact endRl hx hb hr hlocks (by rfl) (g_173 bX6_fit rfl)
  · refine lv_tableIn (tgt := 42) (off := 41) hx hb dX6_fit_1 (by decide +kernel) (by decide +kernel) (by decide +kernel) (by decide +kernel) ?_
    refine lv_lload_n hx hb (g_31 bX6_fit rfl) rfl (lv_at hl 1 rfl) ?_
    refine lv_l2i (v := J1.toInt32) hx hb (g_136 bX6_fit rfl) rfl ?_
    refine lv_i2l (v := J1.toInt32.toInt64) hx hb (g_133 bX6_fit rfl) rfl ?_
    exact endRl hx hb hr hlocks (by rfl) (g_173 bX6_fit rfl)
  · refine lv_tableIn (tgt := 46) (off := 45) hx hb dX6_fit_1 (by decide +kernel) (by decide +kernel) (by decide +kernel) (by decide +kernel) ?_
    refine lv_lload_n hx hb (g_31 bX6_fit rfl) rfl (lv_at hl 1 rfl) ?_
    exact endRl hx hb hr hlocks (by rfl) (g_173 bX6_fit rfl)
  · refine lv_tableOut (tgt := 48) hx hb dX6_fit_1 h_1 (by decide +kernel) ?_
    refine lv_lload_n hx hb (g_31 bX6_fit rfl) rfl (lv_at hl 1 rfl) ?_
    refine lv_lconst (v := 0) hx hb (g_9 bX6_fit rfl) (by decide +kernel) ?_
    refine W.lcmp hx hb (g_148 bX6_fit rfl) ?_
    refine lv_if_eq (tgt := 58) hx hb dX6_fit_51 (by decide +kernel) (fun c_2 => ?_) (fun c_2 => ?_)
    · refine lv_lconst (v := 0) hx hb (g_9 bX6_fit rfl) (by decide +kernel) ?_
      exact endRl hx hb hr hlocks (by rw [ft_d h_1]; exact (if_pos c_2).symm) (g_173 bX6_fit rfl)
    · refine lv_lconst (v := 1) hx hb (g_10 bX6_fit rfl) (by decide +kernel) ?_
      refine lv_goto (tgt := 59) hx hb dX6_fit_55 (by decide +kernel) ?_
      exact endRl hx hb hr hlocks (by rw [ft_d h_1]; exact (if_neg c_2).symm) (g_173 bX6_fit rfl)
set_option maxHeartbeats 4000000 in
set_option maxRecDepth 100000 in
theorem c_X6_noRow (l : Launch) (G : va_G) (cy : Nat → ClassId) (sz : Nat) (qm : Nat) (qmh : Nat) (v1 : Value) (v2 : Value) (v3 : Value) (v4 : Value) (v5 : Value) (v6 : Value) (v7 : Value) (v8 : Value) (qmr : Nat) (tA : TA) (qmB : Nat) (qmO : Nat) (qmK : Nat) (iEn : Int32) (iTk : Int32) (v18 : Value) (v19 : Value) (v20 : Value) (v21 : Value) (v22 : Value) (v23 : Value) (v24 : Value) (v25 : Value) (v26 : Value) (iLv : Int32) (iWs : Int32) (v29 : Value) (v30 : Value) (v31 : Value) (v32 : Value) (v33 : Value) (v34 : Value) (fMh : Nat → Int32) (fMr : Nat → Int32) (iA : Int32)   : MW l yX6_noRow cX6_noRow 2 (some .int) 3 0 0 G cy [zzO qm 5 (.ref qmh :: v1 :: v2 :: v3 :: v4 :: v5 :: v6 :: v7 :: v8 :: .ref qmr :: .int (nI (T_nb tA)) :: .ref qmB :: .int (nI (T_np tA)) :: .ref qmO :: .ref qmK :: .int iEn :: .int iTk :: .int (T_sd tA) :: v18 :: v19 :: v20 :: v21 :: v22 :: v23 :: v24 :: v25 :: v26 :: .int iLv :: .int iWs :: v29 :: v30 :: v31 :: v32 :: v33 :: v34 :: []), zzI cy qmh 8 fMh, zzI cy qmr 8 fMr] sz [.ref qm, .int iA] (Wi G (fun r u => ∃ (fX : Nat → Int32), u = [zzO qm 5 (.ref qmh :: v1 :: v2 :: v3 :: v4 :: v5 :: v6 :: v7 :: v8 :: .ref qmr :: .int (nI (T_nb tA)) :: .ref qmB :: .int (nI (T_np tA)) :: .ref qmO :: .ref qmK :: .int iEn :: .int iTk :: .int (T_sd tA) :: v18 :: v19 :: v20 :: v21 :: v22 :: v23 :: v24 :: v25 :: v26 :: .int iLv :: .int iWs :: v29 :: v30 :: v31 :: v32 :: v33 :: v34 :: []), zzI cy qmh 8 fMh, zzI cy qmr 8 fX] ∧ ((r = (-2) ∧ ¬ ∃ k : Nat, k < 8 ∧ iA = nI k) ∨ (r = (-3) ∧ ∃ k : Nat, k < 8 ∧ iA = nI k ∧ fMh k = 2) ∨ (r = (-4) ∧ ∃ k : Nat, k < 8 ∧ iA = nI k ∧ ¬ fMh k = 2 ∧ fMh k = 0) ∨ (r = 0 ∧ ∃ k : Nat, k < 8 ∧ iA = nI k ∧ ¬ fMh k = 2 ∧ ¬ fMh k = 0)))) := by
  refine enW RX6 (by decide +kernel) rfl (Nat.le_of_ble_eq_true rfl) (fun p e s m below meth c ls A hx hb hml hown hts hr hlocks hP hN hl hin hD hA hS => ?_)
  have hin : meth.name = _ := hin
  have hK := hN.1
  replace hl : lv_has ls 2 [(0, .ref qm), (1, .int iA)] := hl
  refine lv_iload_n hx hb (g_27 bX6_noRow rfl) rfl (lv_at hl 1 rfl) ?_
  refine lv_i2l (v := iA.toInt64) hx hb (g_133 bX6_noRow rfl) rfl ?_
  refine lv_lconst (v := 0) hx hb (g_9 bX6_noRow rfl) (by decide +kernel) ?_
  refine lv_ldc2 hx hb hown (hts _ m_t960) (g_20 (v := 85) bX6_noRow rfl) ?_
  refine kRi (rS (As := [.long iA.toInt64, .long 0, .long 7]) (rest := []) ⟨hx, hb, hml, hown, hts⟩ (c_X6_in l G cy iA.toInt64 0 7) L_X6_74 (preRS hN hP [] rfl) rfl ⟨Nat.le_of_ble_eq_true rfl, Nat.le_of_ble_eq_true rfl⟩ hl.1 (Nat.le_of_ble_eq_true rfl) (g_184 (v := 74) bX6_noRow rfl) ⟨Nat.le_of_ble_eq_true rfl, Nat.le_of_ble_eq_true rfl⟩) (fun r_1 h_2 => ?_)
  rcases h_2 with ⟨rfl, h_3⟩ | ⟨rfl, h_3⟩
  · obtain ⟨k_4, hk_5, hk_6, rfl⟩ := iv_nI 0 7 (by decide +kernel) (by decide +kernel) h_3
    refine lv_if_ne (tgt := 19) hx hb dX6_noRow_9 (by decide +kernel) (fun _ => ?_) (fun h9 => absurd h9 (by decide +kernel))
    refine lv_aload_n hx hb (g_42 bX6_noRow rfl) rfl (lv_at hl 0 rfl) ?_
    refine va_get (D := G) (ci := 5) (v := .ref qmh) (C := RX6) (T := TX6) (N := 35) hx hb hts iX_X6 hown hK hP 0 rfl rfl 0 (by decide +kernel) (hts _ m_t850) (fun _ h9 => h9) rfl (g_180 (v := 7) bX6_noRow rfl) ?_
    refine lv_iload_n hx hb (g_27 bX6_noRow rfl) rfl (lv_at hl 1 rfl) ?_
    refine va_iald hx hb hK hP 1 0 rfl rfl (in_shelf h_3) (g_46 bX6_noRow rfl) ?_
    refine lv_seti (v := fMh k_4) (congrArg fMh (cl8 (by omega))) ?_
    refine lv_iconst (v := 2) hx hb (g_5 bX6_noRow rfl) (by decide +kernel) ?_
    refine lv_icmp_ne (tgt := 36) hx hb dX6_noRow_26 (by decide +kernel) (fun c_8 => ?_) (fun c_8 => ?_)
    · refine lv_aload_n hx hb (g_42 bX6_noRow rfl) rfl (lv_at hl 0 rfl) ?_
      refine va_get (D := G) (ci := 5) (v := .ref qmh) (C := RX6) (T := TX6) (N := 35) hx hb hts iX_X6 hown hK hP 0 rfl rfl 0 (by decide +kernel) (hts _ m_t850) (fun _ h9 => h9) rfl (g_180 (v := 7) bX6_noRow rfl) ?_
      refine lv_iload_n hx hb (g_27 bX6_noRow rfl) rfl (lv_at hl 1 rfl) ?_
      refine va_iald hx hb hK hP 1 0 rfl rfl (in_shelf h_3) (g_46 bX6_noRow rfl) ?_
      refine lv_seti (v := fMh k_4) (congrArg fMh (cl8 (by omega))) ?_
      refine lv_if_ne (tgt := 54) hx hb dX6_noRow_42 (by decide +kernel) (fun c_9 => ?_) (fun c_9 => ?_)
      · refine lv_iconst (v := 0) hx hb (g_3 bX6_noRow rfl) (by decide +kernel) ?_
        exact endWs [[true, true, true]] hx hb hr hlocks rfl hP hD rfl (by decide +kernel) hS ⟨fMr, rfl, (Or.inr (Or.inr (Or.inr (⟨rfl, ⟨k_4, by omega, rfl, c_8, c_9⟩⟩))))⟩ (g_172 bX6_noRow rfl)
      · refine lv_aload_n hx hb (g_42 bX6_noRow rfl) rfl (lv_at hl 0 rfl) ?_
        refine lv_bipush (v := (-4)) hx hb dX6_noRow_46 (by decide +kernel) ?_
        refine cVi (As := [.int (-4)]) (rest := []) (b := qm) (q := (RX6, TX6, 35)) ⟨hx, hb, hml, hown, hts⟩ (c_X6_refuse4 l G cy (s.heap).size qm (.ref qmh) v1 v2 v3 v4 v5 v6 v7 v8 qmr tA qmB qmO qmK iEn iTk v18 v19 v20 v21 v22 v23 v24 v25 v26 iLv iWs v29 v30 v31 v32 v33 v34 fMr) L_X6_91 hN hP hD hS hA [0, 2] [false, true, false] rfl (by decide +kernel) rfl 0 5 rfl rfl rfl ⟨Nat.le_of_ble_eq_true rfl, Nat.le_of_ble_eq_true rfl⟩ hl.1 (Nat.le_of_ble_eq_true rfl) (g_182 (v := 91) bX6_noRow rfl) ⟨Nat.le_of_ble_eq_true rfl, Nat.le_of_ble_eq_true rfl⟩ (fun r_10 u_12 H locs h_11 => ?_)
        clear hP hD hS
        intro hP hD hS
        obtain ⟨fX_13, hu9, h_11⟩ := h_11
        have hPD := pd_eq [_, _, zzI cy qmr 8 fX_13] hP hD hu9 rfl
        clear hP hD hu9
        obtain ⟨hP, hD⟩ := hPD
        subst h_11
        refine lv_goto (tgt := 55) hx hb dX6_noRow_51 (by decide +kernel) ?_
        exact endWs [[false, true], [true, false, true]] hx hb hr hlocks rfl hP hD rfl (by decide +kernel) hS ⟨fX_13, rfl, (Or.inr (Or.inr (Or.inl (⟨rfl, ⟨k_4, by omega, rfl, c_8, c_9⟩⟩))))⟩ (g_172 bX6_noRow rfl)
    · refine lv_aload_n hx hb (g_42 bX6_noRow rfl) rfl (lv_at hl 0 rfl) ?_
      refine lv_bipush (v := (-3)) hx hb dX6_noRow_30 (by decide +kernel) ?_
      refine cVi (As := [.int (-3)]) (rest := []) (b := qm) (q := (RX6, TX6, 35)) ⟨hx, hb, hml, hown, hts⟩ (c_X6_refuse3 l G cy (s.heap).size qm (.ref qmh) v1 v2 v3 v4 v5 v6 v7 v8 qmr tA qmB qmO qmK iEn iTk v18 v19 v20 v21 v22 v23 v24 v25 v26 iLv iWs v29 v30 v31 v32 v33 v34 fMr) L_X6_91 hN hP hD hS hA [0, 2] [false, true, false] rfl (by decide +kernel) rfl 0 5 rfl rfl rfl ⟨Nat.le_of_ble_eq_true rfl, Nat.le_of_ble_eq_true rfl⟩ hl.1 (Nat.le_of_ble_eq_true rfl) (g_182 (v := 91) bX6_noRow rfl) ⟨Nat.le_of_ble_eq_true rfl, Nat.le_of_ble_eq_true rfl⟩ (fun r_14 u_16 H locs h_15 => ?_)
      clear hP hD hS
      intro hP hD hS
      obtain ⟨fX_17, hu9, h_15⟩ := h_15
      have hPD := pd_eq [_, _, zzI cy qmr 8 fX_17] hP hD hu9 rfl
      clear hP hD hu9
      obtain ⟨hP, hD⟩ := hPD
      subst h_15
      exact endWs [[false, true], [true, false, true]] hx hb hr hlocks rfl hP hD rfl (by decide +kernel) hS ⟨fX_17, rfl, (Or.inr (Or.inl (⟨rfl, ⟨k_4, by omega, rfl, c_8⟩⟩)))⟩ (g_172 bX6_noRow rfl)
  · refine lv_if_ne (tgt := 19) hx hb dX6_noRow_9 (by decide +kernel) (fun h9 => absurd (by decide +kernel) h9) (fun _ => ?_)
    refine lv_aload_n hx hb (g_42 bX6_noRow rfl) rfl (lv_at hl 0 rfl) ?_
    refine lv_bipush (v := (-2)) hx hb dX6_noRow_13 (by decide +kernel) ?_
    refine cVi (As := [.int (-2)]) (rest := []) (b := qm) (q := (RX6, TX6, 35)) ⟨hx, hb, hml, hown, hts⟩ (c_X6_refuse2 l G cy (s.heap).size qm (.ref qmh) v1 v2 v3 v4 v5 v6 v7 v8 qmr tA qmB qmO qmK iEn iTk v18 v19 v20 v21 v22 v23 v24 v25 v26 iLv iWs v29 v30 v31 v32 v33 v34 fMr) L_X6_91 hN hP hD hS hA [0, 2] [false, true, false] rfl (by decide +kernel) rfl 0 5 rfl rfl rfl ⟨Nat.le_of_ble_eq_true rfl, Nat.le_of_ble_eq_true rfl⟩ hl.1 (Nat.le_of_ble_eq_true rfl) (g_182 (v := 91) bX6_noRow rfl) ⟨Nat.le_of_ble_eq_true rfl, Nat.le_of_ble_eq_true rfl⟩ (fun r_19 u_21 H locs h_20 => ?_)
    clear hP hD hS
    intro hP hD hS
    obtain ⟨fX_22, hu9, h_20⟩ := h_20
    have hPD := pd_eq [_, _, zzI cy qmr 8 fX_22] hP hD hu9 rfl
    clear hP hD hu9
    obtain ⟨hP, hD⟩ := hPD
    subst h_20
    exact endWs [[false, true], [true, false, true]] hx hb hr hlocks rfl hP hD rfl (by decide +kernel) hS ⟨fX_22, rfl, (Or.inl (⟨rfl, no_of7 h_3⟩))⟩ (g_172 bX6_noRow rfl)
set_option maxHeartbeats 4000000 in
set_option maxRecDepth 100000 in
theorem c_X6_noRule (l : Launch) (G : va_G) (cy : Nat → ClassId) (sz : Nat) (qm : Nat) (qmh : Nat) (v1 : Value) (v2 : Value) (v3 : Value) (v4 : Value) (v5 : Value) (v6 : Value) (v7 : Value) (v8 : Value) (qmr : Nat) (tA : TA) (qmB : Nat) (qmO : Nat) (qmK : Nat) (iEn : Int32) (iTk : Int32) (v18 : Value) (v19 : Value) (v20 : Value) (v21 : Value) (v22 : Value) (v23 : Value) (v24 : Value) (v25 : Value) (v26 : Value) (iLv : Int32) (iWs : Int32) (v29 : Value) (v30 : Value) (v31 : Value) (v32 : Value) (v33 : Value) (v34 : Value) (fMh : Nat → Int32) (fMr : Nat → Int32) (iA : Int32)   : MW l yX6_noRule cX6_noRule 2 (some .int) 3 0 0 G cy [zzO qm 5 (.ref qmh :: v1 :: v2 :: v3 :: v4 :: v5 :: v6 :: v7 :: v8 :: .ref qmr :: .int (nI (T_nb tA)) :: .ref qmB :: .int (nI (T_np tA)) :: .ref qmO :: .ref qmK :: .int iEn :: .int iTk :: .int (T_sd tA) :: v18 :: v19 :: v20 :: v21 :: v22 :: v23 :: v24 :: v25 :: v26 :: .int iLv :: .int iWs :: v29 :: v30 :: v31 :: v32 :: v33 :: v34 :: []), zzI cy qmh 8 fMh, zzI cy qmr 8 fMr] sz [.ref qm, .int iA] (Wi G (fun r u => ∃ (fX : Nat → Int32), u = [zzO qm 5 (.ref qmh :: v1 :: v2 :: v3 :: v4 :: v5 :: v6 :: v7 :: v8 :: .ref qmr :: .int (nI (T_nb tA)) :: .ref qmB :: .int (nI (T_np tA)) :: .ref qmO :: .ref qmK :: .int iEn :: .int iTk :: .int (T_sd tA) :: v18 :: v19 :: v20 :: v21 :: v22 :: v23 :: v24 :: v25 :: v26 :: .int iLv :: .int iWs :: v29 :: v30 :: v31 :: v32 :: v33 :: v34 :: []), zzI cy qmh 8 fMh, zzI cy qmr 8 fX] ∧ ((r = (-2) ∧ ¬ ∃ k : Nat, k < 8 ∧ iA = nI k) ∨ (r = (-3) ∧ ∃ k : Nat, k < 8 ∧ iA = nI k ∧ fMh k = 1) ∨ (r = (-4) ∧ ∃ k : Nat, k < 8 ∧ iA = nI k ∧ ¬ fMh k = 1 ∧ fMh k = 0) ∨ (r = 0 ∧ ∃ k : Nat, k < 8 ∧ iA = nI k ∧ ¬ fMh k = 1 ∧ ¬ fMh k = 0)))) := by
  refine enW RX6 (by decide +kernel) rfl (Nat.le_of_ble_eq_true rfl) (fun p e s m below meth c ls A hx hb hml hown hts hr hlocks hP hN hl hin hD hA hS => ?_)
  have hin : meth.name = _ := hin
  have hK := hN.1
  replace hl : lv_has ls 2 [(0, .ref qm), (1, .int iA)] := hl
  refine lv_iload_n hx hb (g_27 bX6_noRule rfl) rfl (lv_at hl 1 rfl) ?_
  refine lv_i2l (v := iA.toInt64) hx hb (g_133 bX6_noRule rfl) rfl ?_
  refine lv_lconst (v := 0) hx hb (g_9 bX6_noRule rfl) (by decide +kernel) ?_
  refine lv_ldc2 hx hb hown (hts _ m_t960) (g_20 (v := 85) bX6_noRule rfl) ?_
  refine kRi (rS (As := [.long iA.toInt64, .long 0, .long 7]) (rest := []) ⟨hx, hb, hml, hown, hts⟩ (c_X6_in l G cy iA.toInt64 0 7) L_X6_74 (preRS hN hP [] rfl) rfl ⟨Nat.le_of_ble_eq_true rfl, Nat.le_of_ble_eq_true rfl⟩ hl.1 (Nat.le_of_ble_eq_true rfl) (g_184 (v := 74) bX6_noRule rfl) ⟨Nat.le_of_ble_eq_true rfl, Nat.le_of_ble_eq_true rfl⟩) (fun r_1 h_2 => ?_)
  rcases h_2 with ⟨rfl, h_3⟩ | ⟨rfl, h_3⟩
  · obtain ⟨k_4, hk_5, hk_6, rfl⟩ := iv_nI 0 7 (by decide +kernel) (by decide +kernel) h_3
    refine lv_if_ne (tgt := 19) hx hb dX6_noRule_9 (by decide +kernel) (fun _ => ?_) (fun h9 => absurd h9 (by decide +kernel))
    refine lv_aload_n hx hb (g_42 bX6_noRule rfl) rfl (lv_at hl 0 rfl) ?_
    refine va_get (D := G) (ci := 5) (v := .ref qmh) (C := RX6) (T := TX6) (N := 35) hx hb hts iX_X6 hown hK hP 0 rfl rfl 0 (by decide +kernel) (hts _ m_t850) (fun _ h9 => h9) rfl (g_180 (v := 7) bX6_noRule rfl) ?_
    refine lv_iload_n hx hb (g_27 bX6_noRule rfl) rfl (lv_at hl 1 rfl) ?_
    refine va_iald hx hb hK hP 1 0 rfl rfl (in_shelf h_3) (g_46 bX6_noRule rfl) ?_
    refine lv_seti (v := fMh k_4) (congrArg fMh (cl8 (by omega))) ?_
    refine lv_iconst (v := 1) hx hb (g_4 bX6_noRule rfl) (by decide +kernel) ?_
    refine lv_icmp_ne (tgt := 36) hx hb dX6_noRule_26 (by decide +kernel) (fun c_8 => ?_) (fun c_8 => ?_)
    · refine lv_aload_n hx hb (g_42 bX6_noRule rfl) rfl (lv_at hl 0 rfl) ?_
      refine va_get (D := G) (ci := 5) (v := .ref qmh) (C := RX6) (T := TX6) (N := 35) hx hb hts iX_X6 hown hK hP 0 rfl rfl 0 (by decide +kernel) (hts _ m_t850) (fun _ h9 => h9) rfl (g_180 (v := 7) bX6_noRule rfl) ?_
      refine lv_iload_n hx hb (g_27 bX6_noRule rfl) rfl (lv_at hl 1 rfl) ?_
      refine va_iald hx hb hK hP 1 0 rfl rfl (in_shelf h_3) (g_46 bX6_noRule rfl) ?_
      refine lv_seti (v := fMh k_4) (congrArg fMh (cl8 (by omega))) ?_
      refine lv_if_ne (tgt := 54) hx hb dX6_noRule_42 (by decide +kernel) (fun c_9 => ?_) (fun c_9 => ?_)
      · refine lv_iconst (v := 0) hx hb (g_3 bX6_noRule rfl) (by decide +kernel) ?_
        exact endWs [[true, true, true]] hx hb hr hlocks rfl hP hD rfl (by decide +kernel) hS ⟨fMr, rfl, (Or.inr (Or.inr (Or.inr (⟨rfl, ⟨k_4, by omega, rfl, c_8, c_9⟩⟩))))⟩ (g_172 bX6_noRule rfl)
      · refine lv_aload_n hx hb (g_42 bX6_noRule rfl) rfl (lv_at hl 0 rfl) ?_
        refine lv_bipush (v := (-4)) hx hb dX6_noRule_46 (by decide +kernel) ?_
        refine cVi (As := [.int (-4)]) (rest := []) (b := qm) (q := (RX6, TX6, 35)) ⟨hx, hb, hml, hown, hts⟩ (c_X6_refuse4 l G cy (s.heap).size qm (.ref qmh) v1 v2 v3 v4 v5 v6 v7 v8 qmr tA qmB qmO qmK iEn iTk v18 v19 v20 v21 v22 v23 v24 v25 v26 iLv iWs v29 v30 v31 v32 v33 v34 fMr) L_X6_91 hN hP hD hS hA [0, 2] [false, true, false] rfl (by decide +kernel) rfl 0 5 rfl rfl rfl ⟨Nat.le_of_ble_eq_true rfl, Nat.le_of_ble_eq_true rfl⟩ hl.1 (Nat.le_of_ble_eq_true rfl) (g_182 (v := 91) bX6_noRule rfl) ⟨Nat.le_of_ble_eq_true rfl, Nat.le_of_ble_eq_true rfl⟩ (fun r_10 u_12 H locs h_11 => ?_)
        clear hP hD hS
        intro hP hD hS
        obtain ⟨fX_13, hu9, h_11⟩ := h_11
        have hPD := pd_eq [_, _, zzI cy qmr 8 fX_13] hP hD hu9 rfl
        clear hP hD hu9
        obtain ⟨hP, hD⟩ := hPD
        subst h_11
        refine lv_goto (tgt := 55) hx hb dX6_noRule_51 (by decide +kernel) ?_
        exact endWs [[false, true], [true, false, true]] hx hb hr hlocks rfl hP hD rfl (by decide +kernel) hS ⟨fX_13, rfl, (Or.inr (Or.inr (Or.inl (⟨rfl, ⟨k_4, by omega, rfl, c_8, c_9⟩⟩))))⟩ (g_172 bX6_noRule rfl)
    · refine lv_aload_n hx hb (g_42 bX6_noRule rfl) rfl (lv_at hl 0 rfl) ?_
      refine lv_bipush (v := (-3)) hx hb dX6_noRule_30 (by decide +kernel) ?_
      refine cVi (As := [.int (-3)]) (rest := []) (b := qm) (q := (RX6, TX6, 35)) ⟨hx, hb, hml, hown, hts⟩ (c_X6_refuse3 l G cy (s.heap).size qm (.ref qmh) v1 v2 v3 v4 v5 v6 v7 v8 qmr tA qmB qmO qmK iEn iTk v18 v19 v20 v21 v22 v23 v24 v25 v26 iLv iWs v29 v30 v31 v32 v33 v34 fMr) L_X6_91 hN hP hD hS hA [0, 2] [false, true, false] rfl (by decide +kernel) rfl 0 5 rfl rfl rfl ⟨Nat.le_of_ble_eq_true rfl, Nat.le_of_ble_eq_true rfl⟩ hl.1 (Nat.le_of_ble_eq_true rfl) (g_182 (v := 91) bX6_noRule rfl) ⟨Nat.le_of_ble_eq_true rfl, Nat.le_of_ble_eq_true rfl⟩ (fun r_14 u_16 H locs h_15 => ?_)
      clear hP hD hS
      intro hP hD hS
      obtain ⟨fX_17, hu9, h_15⟩ := h_15
      have hPD := pd_eq [_, _, zzI cy qmr 8 fX_17] hP hD hu9 rfl
      clear hP hD hu9
      obtain ⟨hP, hD⟩ := hPD
      subst h_15
      exact endWs [[false, true], [true, false, true]] hx hb hr hlocks rfl hP hD rfl (by decide +kernel) hS ⟨fX_17, rfl, (Or.inr (Or.inl (⟨rfl, ⟨k_4, by omega, rfl, c_8⟩⟩)))⟩ (g_172 bX6_noRule rfl)
  · refine lv_if_ne (tgt := 19) hx hb dX6_noRule_9 (by decide +kernel) (fun h9 => absurd (by decide +kernel) h9) (fun _ => ?_)
    refine lv_aload_n hx hb (g_42 bX6_noRule rfl) rfl (lv_at hl 0 rfl) ?_
    refine lv_bipush (v := (-2)) hx hb dX6_noRule_13 (by decide +kernel) ?_
    refine cVi (As := [.int (-2)]) (rest := []) (b := qm) (q := (RX6, TX6, 35)) ⟨hx, hb, hml, hown, hts⟩ (c_X6_refuse2 l G cy (s.heap).size qm (.ref qmh) v1 v2 v3 v4 v5 v6 v7 v8 qmr tA qmB qmO qmK iEn iTk v18 v19 v20 v21 v22 v23 v24 v25 v26 iLv iWs v29 v30 v31 v32 v33 v34 fMr) L_X6_91 hN hP hD hS hA [0, 2] [false, true, false] rfl (by decide +kernel) rfl 0 5 rfl rfl rfl ⟨Nat.le_of_ble_eq_true rfl, Nat.le_of_ble_eq_true rfl⟩ hl.1 (Nat.le_of_ble_eq_true rfl) (g_182 (v := 91) bX6_noRule rfl) ⟨Nat.le_of_ble_eq_true rfl, Nat.le_of_ble_eq_true rfl⟩ (fun r_19 u_21 H locs h_20 => ?_)
    clear hP hD hS
    intro hP hD hS
    obtain ⟨fX_22, hu9, h_20⟩ := h_20
    have hPD := pd_eq [_, _, zzI cy qmr 8 fX_22] hP hD hu9 rfl
    clear hP hD hu9
    obtain ⟨hP, hD⟩ := hPD
    subst h_20
    exact endWs [[false, true], [true, false, true]] hx hb hr hlocks rfl hP hD rfl (by decide +kernel) hS ⟨fX_22, rfl, (Or.inl (⟨rfl, no_of7 h_3⟩))⟩ (g_172 bX6_noRule rfl)
set_option maxHeartbeats 4000000 in
set_option maxRecDepth 100000 in
theorem c_X6_isUnder (l : Launch) (G : va_G) (cy : Nat → ClassId) (iK : Int32) (iA : Int32)   : MR l yX6_isUnder cX6_isUnder 2 (some .boolean) 1 G cy [] [.int iK, .int iA] (vp_Si (fun r => (r = 1) ∨ (r = 0))) := by
  refine enR RX6 (by decide +kernel) rfl (Nat.le_of_ble_eq_true rfl) (fun p e s m below meth c ls hx hb hml hown hts hr hlocks hP hN hl => ?_)
  have hK := hN.1
  replace hl : lv_has ls 2 [(0, .int iK), (1, .int iA)] := hl
  refine lv_iload_n hx hb (g_27 bX6_isUnder rfl) rfl (lv_at hl 1 rfl) ?_
  refine lv_if_eq (tgt := 29) hx hb dX6_isUnder_1 (by decide +kernel) (fun c_1 => ?_) (fun c_1 => ?_)
  · refine lv_iconst (v := 1) hx hb (g_4 bX6_isUnder rfl) (by decide +kernel) ?_
    refine lv_goto (tgt := 34) hx hb dX6_isUnder_30 (by decide +kernel) ?_
    exact endR hx hb hr hlocks rfl (Or.inl rfl) (g_172 bX6_isUnder rfl)
  · refine lv_iload_n hx hb (g_26 bX6_isUnder rfl) rfl (lv_at hl 0 rfl) ?_
    refine lv_iload_n hx hb (g_27 bX6_isUnder rfl) rfl (lv_at hl 1 rfl) ?_
    refine lv_icmp_eq (tgt := 29) hx hb dX6_isUnder_6 (by decide +kernel) (fun c_2 => ?_) (fun c_2 => ?_)
    · refine lv_iconst (v := 1) hx hb (g_4 bX6_isUnder rfl) (by decide +kernel) ?_
      refine lv_goto (tgt := 34) hx hb dX6_isUnder_30 (by decide +kernel) ?_
      exact endR hx hb hr hlocks rfl (Or.inl rfl) (g_172 bX6_isUnder rfl)
    · refine lv_iload_n hx hb (g_27 bX6_isUnder rfl) rfl (lv_at hl 1 rfl) ?_
      refine lv_iconst (v := 1) hx hb (g_4 bX6_isUnder rfl) (by decide +kernel) ?_
      refine lv_icmp_ne (tgt := 19) hx hb dX6_isUnder_11 (by decide +kernel) (fun c_3 => ?_) (fun c_3 => ?_)
      · refine lv_iload_n hx hb (g_27 bX6_isUnder rfl) rfl (lv_at hl 1 rfl) ?_
        refine lv_iconst (v := 4) hx hb (g_7 bX6_isUnder rfl) (by decide +kernel) ?_
        refine lv_icmp_ne (tgt := 33) hx hb dX6_isUnder_21 (by decide +kernel) (fun c_4 => ?_) (fun c_4 => ?_)
        · refine lv_iconst (v := 0) hx hb (g_3 bX6_isUnder rfl) (by decide +kernel) ?_
          exact endR hx hb hr hlocks rfl (Or.inr rfl) (g_172 bX6_isUnder rfl)
        · refine lv_iload_n hx hb (g_26 bX6_isUnder rfl) rfl (lv_at hl 0 rfl) ?_
          refine lv_iconst (v := 4) hx hb (g_7 bX6_isUnder rfl) (by decide +kernel) ?_
          refine lv_icmp_lt (tgt := 33) hx hb dX6_isUnder_26 (by decide +kernel) (fun c_5 => ?_) (fun c_5 => ?_)
          · refine lv_iconst (v := 0) hx hb (g_3 bX6_isUnder rfl) (by decide +kernel) ?_
            exact endR hx hb hr hlocks rfl (Or.inr rfl) (g_172 bX6_isUnder rfl)
          · refine lv_iconst (v := 1) hx hb (g_4 bX6_isUnder rfl) (by decide +kernel) ?_
            refine lv_goto (tgt := 34) hx hb dX6_isUnder_30 (by decide +kernel) ?_
            exact endR hx hb hr hlocks rfl (Or.inl rfl) (g_172 bX6_isUnder rfl)
      · refine lv_iload_n hx hb (g_26 bX6_isUnder rfl) rfl (lv_at hl 0 rfl) ?_
        refine lv_iconst (v := 3) hx hb (g_6 bX6_isUnder rfl) (by decide +kernel) ?_
        refine lv_icmp_le (tgt := 29) hx hb dX6_isUnder_16 (by decide +kernel) (fun c_6 => ?_) (fun c_6 => ?_)
        · refine lv_iconst (v := 1) hx hb (g_4 bX6_isUnder rfl) (by decide +kernel) ?_
          refine lv_goto (tgt := 34) hx hb dX6_isUnder_30 (by decide +kernel) ?_
          exact endR hx hb hr hlocks rfl (Or.inl rfl) (g_172 bX6_isUnder rfl)
        · refine lv_iload_n hx hb (g_27 bX6_isUnder rfl) rfl (lv_at hl 1 rfl) ?_
          refine lv_iconst (v := 4) hx hb (g_7 bX6_isUnder rfl) (by decide +kernel) ?_
          refine lv_icmp_ne (tgt := 33) hx hb dX6_isUnder_21 (by decide +kernel) (fun c_7 => ?_) (fun c_7 => ?_)
          · refine lv_iconst (v := 0) hx hb (g_3 bX6_isUnder rfl) (by decide +kernel) ?_
            exact endR hx hb hr hlocks rfl (Or.inr rfl) (g_172 bX6_isUnder rfl)
          · refine lv_iload_n hx hb (g_26 bX6_isUnder rfl) rfl (lv_at hl 0 rfl) ?_
            refine lv_iconst (v := 4) hx hb (g_7 bX6_isUnder rfl) (by decide +kernel) ?_
            refine lv_icmp_lt (tgt := 33) hx hb dX6_isUnder_26 (by decide +kernel) (fun c_8 => ?_) (fun c_8 => ?_)
            · refine lv_iconst (v := 0) hx hb (g_3 bX6_isUnder rfl) (by decide +kernel) ?_
              exact endR hx hb hr hlocks rfl (Or.inr rfl) (g_172 bX6_isUnder rfl)
            · refine lv_iconst (v := 1) hx hb (g_4 bX6_isUnder rfl) (by decide +kernel) ?_
              refine lv_goto (tgt := 34) hx hb dX6_isUnder_30 (by decide +kernel) ?_
              exact endR hx hb hr hlocks rfl (Or.inl rfl) (g_172 bX6_isUnder rfl)
set_option maxHeartbeats 4000000 in
set_option maxRecDepth 100000 in
theorem c_X6_noReading (l : Launch) (G : va_G) (cy : Nat → ClassId) (sz : Nat) (qm : Nat) (v0 : Value) (v1 : Value) (v2 : Value) (v3 : Value) (v4 : Value) (v5 : Value) (v6 : Value) (v7 : Value) (v8 : Value) (qmr : Nat) (tA : TA) (qmB : Nat) (qmO : Nat) (qmK : Nat) (iEn : Int32) (iTk : Int32) (v18 : Value) (v19 : Value) (v20 : Value) (v21 : Value) (v22 : Value) (v23 : Value) (v24 : Value) (v25 : Value) (v26 : Value) (iLv : Int32) (iWs : Int32) (v29 : Value) (v30 : Value) (v31 : Value) (v32 : Value) (v33 : Value) (v34 : Value) (rB : Nat → Nat) (rO : Nat → Nat) (fMr : Nat → Int32) (iA : Int32) (iB : Int32)  (hB : T_nb tA ≤ 8) (hPp : T_np tA ≤ 8) : MW l yX6_noReading cX6_noReading 3 (some .int) 3 0 0 G cy [zzO qm 5 (v0 :: v1 :: v2 :: v3 :: v4 :: v5 :: v6 :: v7 :: v8 :: .ref qmr :: .int (nI (T_nb tA)) :: .ref qmB :: .int (nI (T_np tA)) :: .ref qmO :: .ref qmK :: .int iEn :: .int iTk :: .int (T_sd tA) :: v18 :: v19 :: v20 :: v21 :: v22 :: v23 :: v24 :: v25 :: v26 :: .int iLv :: .int iWs :: v29 :: v30 :: v31 :: v32 :: v33 :: v34 :: []), zzG cy 3 qmB rB, zzI cy (rB 0) 4 (bkR tA 0), zzI cy (rB 1) 4 (bkR tA 1), zzI cy (rB 2) 4 (bkR tA 2), zzI cy (rB 3) 4 (bkR tA 3), zzI cy (rB 4) 4 (bkR tA 4), zzI cy (rB 5) 4 (bkR tA 5), zzI cy (rB 6) 4 (bkR tA 6), zzI cy (rB 7) 4 (bkR tA 7), zzG cy 3 qmO rO, zzI cy (rO 0) 5 (onR tA 0), zzI cy (rO 1) 5 (onR tA 1), zzI cy (rO 2) 5 (onR tA 2), zzI cy (rO 3) 5 (onR tA 3), zzI cy (rO 4) 5 (onR tA 4), zzI cy (rO 5) 5 (onR tA 5), zzI cy (rO 6) 5 (onR tA 6), zzI cy (rO 7) 5 (onR tA 7), zzI cy qmr 8 fMr] sz [.ref qm, .int iA, .int iB] (Wi G (fun r u => ∃ (fX : Nat → Int32), u = [zzO qm 5 (v0 :: v1 :: v2 :: v3 :: v4 :: v5 :: v6 :: v7 :: v8 :: .ref qmr :: .int (nI (T_nb tA)) :: .ref qmB :: .int (nI (T_np tA)) :: .ref qmO :: .ref qmK :: .int iEn :: .int iTk :: .int (T_sd tA) :: v18 :: v19 :: v20 :: v21 :: v22 :: v23 :: v24 :: v25 :: v26 :: .int iLv :: .int iWs :: v29 :: v30 :: v31 :: v32 :: v33 :: v34 :: []), zzG cy 3 qmB rB, zzI cy (rB 0) 4 (bkR tA 0), zzI cy (rB 1) 4 (bkR tA 1), zzI cy (rB 2) 4 (bkR tA 2), zzI cy (rB 3) 4 (bkR tA 3), zzI cy (rB 4) 4 (bkR tA 4), zzI cy (rB 5) 4 (bkR tA 5), zzI cy (rB 6) 4 (bkR tA 6), zzI cy (rB 7) 4 (bkR tA 7), zzG cy 3 qmO rO, zzI cy (rO 0) 5 (onR tA 0), zzI cy (rO 1) 5 (onR tA 1), zzI cy (rO 2) 5 (onR tA 2), zzI cy (rO 3) 5 (onR tA 3), zzI cy (rO 4) 5 (onR tA 4), zzI cy (rO 5) 5 (onR tA 5), zzI cy (rO 6) 5 (onR tA 6), zzI cy (rO 7) 5 (onR tA 7), zzI cy qmr 8 fX] ∧ ((r = (-2) ∧ ¬ ((∃ k : Nat, k < T_np tA ∧ iA = nI k) ∧ (∃ k : Nat, k < T_nb tA ∧ iB = nI k))) ∨ (r = (-5) ∧ ∃ k m : Nat, k < T_np tA ∧ m < T_nb tA ∧ iA = nI k ∧ iB = nI m ∧ (T_wh tA m = true ∨ T_gn tA k = true)) ∨ (r = 0 ∧ ∃ k m : Nat, k < T_np tA ∧ m < T_nb tA ∧ iA = nI k ∧ iB = nI m ∧ T_wh tA m = false ∧ T_gn tA k = false)))) := by
  refine enW RX6 (by decide +kernel) rfl (Nat.le_of_ble_eq_true rfl) (fun p e s m below meth c ls A hx hb hml hown hts hr hlocks hP hN hl hin hD hA hS => ?_)
  have hin : meth.name = _ := hin
  have hK := hN.1
  replace hl : lv_has ls 3 [(0, .ref qm), (1, .int iA), (2, .int iB)] := hl
  refine lv_aload_n hx hb (g_42 bX6_noReading rfl) rfl (lv_at hl 0 rfl) ?_
  refine lv_iload_n hx hb (g_27 bX6_noReading rfl) rfl (lv_at hl 1 rfl) ?_
  refine lv_i2l (v := iA.toInt64) hx hb (g_133 bX6_noReading rfl) rfl ?_
  refine kRi (rV (As := [.long iA.toInt64]) (rest := []) (b := qm) ⟨hx, hb, hml, hown, hts⟩ (c_X6_isOne l G cy qm v0 v1 v2 v3 v4 v5 v6 v7 v8 (.ref qmr) tA qmB qmO qmK iEn iTk v18 v19 v20 v21 v22 v23 v24 v25 v26 iLv iWs v29 v30 v31 v32 v33 v34 iA hPp) L_X6_236 (preRV (q := (RX6, TX6, 35)) hN hP [0] rfl 0 5 rfl rfl) rfl ⟨Nat.le_of_ble_eq_true rfl, Nat.le_of_ble_eq_true rfl⟩ hl.1 (Nat.le_of_ble_eq_true rfl) (g_182 (v := 236) bX6_noReading rfl) ⟨Nat.le_of_ble_eq_true rfl, Nat.le_of_ble_eq_true rfl⟩) (fun r_1 h_2 => ?_)
  rcases h_2 with ⟨rfl, h_3⟩ | ⟨rfl, h_3⟩
  · obtain ⟨k_4, hk_5, rfl⟩ := h_3
    refine lv_if_eq (tgt := 18) hx hb dX6_noReading_6 (by decide +kernel) (fun h9 => absurd h9 (by decide +kernel)) (fun _ => ?_)
    refine lv_aload_n hx hb (g_42 bX6_noReading rfl) rfl (lv_at hl 0 rfl) ?_
    refine lv_iload_n hx hb (g_28 bX6_noReading rfl) rfl (lv_at hl 2 rfl) ?_
    refine lv_i2l (v := iB.toInt64) hx hb (g_133 bX6_noReading rfl) rfl ?_
    refine kRi (rV (As := [.long iB.toInt64]) (rest := []) (b := qm) ⟨hx, hb, hml, hown, hts⟩ (c_X6_isBook l G cy qm v0 v1 v2 v3 v4 v5 v6 v7 v8 (.ref qmr) tA qmB qmO qmK iEn iTk v18 v19 v20 v21 v22 v23 v24 v25 v26 iLv iWs v29 v30 v31 v32 v33 v34 iB hB) L_X6_229 (preRV (q := (RX6, TX6, 35)) hN hP [0] rfl 0 5 rfl rfl) rfl ⟨Nat.le_of_ble_eq_true rfl, Nat.le_of_ble_eq_true rfl⟩ hl.1 (Nat.le_of_ble_eq_true rfl) (g_182 (v := 229) bX6_noReading rfl) ⟨Nat.le_of_ble_eq_true rfl, Nat.le_of_ble_eq_true rfl⟩) (fun r_7 h_8 => ?_)
    rcases h_8 with ⟨rfl, h_9⟩ | ⟨rfl, h_9⟩
    · obtain ⟨k_10, hk_11, rfl⟩ := h_9
      refine lv_if_ne (tgt := 25) hx hb dX6_noReading_15 (by decide +kernel) (fun _ => ?_) (fun h9 => absurd h9 (by decide +kernel))
      refine lv_aload_n hx hb (g_42 bX6_noReading rfl) rfl (lv_at hl 0 rfl) ?_
      refine lv_iload_n hx hb (g_28 bX6_noReading rfl) rfl (lv_at hl 2 rfl) ?_
      refine kRi (rV (As := [.int (nI k_10)]) (rest := []) (b := qm) ⟨hx, hb, hml, hown, hts⟩ (c_X6_isWhite l G cy qm v0 v1 v2 v3 v4 v5 v6 v7 v8 (.ref qmr) tA qmB qmO qmK iEn iTk v18 v19 v20 v21 v22 v23 v24 v25 v26 iLv iWs v29 v30 v31 v32 v33 v34 rB k_10 (by first | omega | (simp only [nb_sr, np_sr, nb_wr, np_wr, nb_rd, np_rd, nb_ch, np_ch, nb_zr, np_zr, nb_za, np_za, nb_ey, np_ey, nb_hf, np_hf, nb_dd, np_dd, nb_so, np_so, nb_skn, np_skn, nb_swh, np_swh, nb_sgn, np_sgn, nb_ssd, np_ssd, nb_sgo, np_sgo, nb_sag, np_sag]; omega))) L_X6_248 (preRV (q := (RX6, TX6, 35)) hN hP (trueIx 0 [true, true, true, true, true, true, true, true, true, true]) (sel_fm rfl rfl) 0 5 rfl rfl) rfl ⟨Nat.le_of_ble_eq_true rfl, Nat.le_of_ble_eq_true rfl⟩ hl.1 (Nat.le_of_ble_eq_true rfl) (g_182 (v := 248) bX6_noReading rfl) ⟨Nat.le_of_ble_eq_true rfl, Nat.le_of_ble_eq_true rfl⟩) (fun r_13 h_14 => ?_)
      rcases h_14 with ⟨rfl, h_15⟩ | ⟨rfl, h_15⟩
      · refine lv_if_ne (tgt := 41) hx hb dX6_noReading_30 (by decide +kernel) (fun _ => ?_) (fun h9 => absurd h9 (by decide +kernel))
        refine lv_aload_n hx hb (g_42 bX6_noReading rfl) rfl (lv_at hl 0 rfl) ?_
        refine lv_bipush (v := (-5)) hx hb dX6_noReading_42 (by decide +kernel) ?_
        refine cVi (As := [.int (-5)]) (rest := []) (b := qm) (q := (RX6, TX6, 35)) ⟨hx, hb, hml, hown, hts⟩ (c_X6_refuse5 l G cy (s.heap).size qm v0 v1 v2 v3 v4 v5 v6 v7 v8 qmr tA qmB qmO qmK iEn iTk v18 v19 v20 v21 v22 v23 v24 v25 v26 iLv iWs v29 v30 v31 v32 v33 v34 fMr) L_X6_91 hN hP hD hS hA [0, 19] [false, true, true, true, true, true, true, true, true, true, true, true, true, true, true, true, true, true, true, false] rfl (by decide +kernel) rfl 0 5 rfl rfl rfl ⟨Nat.le_of_ble_eq_true rfl, Nat.le_of_ble_eq_true rfl⟩ hl.1 (Nat.le_of_ble_eq_true rfl) (g_182 (v := 91) bX6_noReading rfl) ⟨Nat.le_of_ble_eq_true rfl, Nat.le_of_ble_eq_true rfl⟩ (fun r_17 u_19 H locs h_18 => ?_)
        clear hP hD hS
        intro hP hD hS
        obtain ⟨fX_20, hu9, h_18⟩ := h_18
        have hPD := pd_eq [_, _, _, _, _, _, _, _, _, _, _, _, _, _, _, _, _, _, _, zzI cy qmr 8 fX_20] hP hD hu9 rfl
        clear hP hD hu9
        obtain ⟨hP, hD⟩ := hPD
        subst h_18
        refine lv_goto (tgt := 51) hx hb dX6_noReading_47 (by decide +kernel) ?_
        exact endWs [[false, false, false, false, false, false, false, false, false, false, false, false, false, false, false, false, false, false, true], [true, true, true, true, true, true, true, true, true, true, true, true, true, true, true, true, true, true, false, true]] hx hb hr hlocks rfl hP hD rfl (by decide +kernel) hS ⟨fX_20, rfl, (Or.inr (Or.inl (⟨rfl, ⟨k_4, k_10, hk_5, hk_11, rfl, rfl, Or.inl h_15⟩⟩)))⟩ (g_172 bX6_noReading rfl)
      · refine lv_if_ne (tgt := 41) hx hb dX6_noReading_30 (by decide +kernel) (fun h9 => absurd (by decide +kernel) h9) (fun _ => ?_)
        refine lv_aload_n hx hb (g_42 bX6_noReading rfl) rfl (lv_at hl 0 rfl) ?_
        refine lv_iload_n hx hb (g_27 bX6_noReading rfl) rfl (lv_at hl 1 rfl) ?_
        refine kRi (rV (As := [.int (nI k_4)]) (rest := []) (b := qm) ⟨hx, hb, hml, hown, hts⟩ (c_X6_isThere l G cy qm v0 v1 v2 v3 v4 v5 v6 v7 v8 (.ref qmr) tA qmB qmO qmK iEn iTk v18 v19 v20 v21 v22 v23 v24 v25 v26 iLv iWs v29 v30 v31 v32 v33 v34 rO k_4 (by first | omega | (simp only [nb_sr, np_sr, nb_wr, np_wr, nb_rd, np_rd, nb_ch, np_ch, nb_zr, np_zr, nb_za, np_za, nb_ey, np_ey, nb_hf, np_hf, nb_dd, np_dd, nb_so, np_so, nb_skn, np_skn, nb_swh, np_swh, nb_sgn, np_sgn, nb_ssd, np_ssd, nb_sgo, np_sgo, nb_sag, np_sag]; omega))) L_X6_81 (preRV (q := (RX6, TX6, 35)) hN hP (trueIx 0 [true, false, false, false, false, false, false, false, false, false, true, true, true, true, true, true, true, true, true]) (sel_fm rfl rfl) 0 5 rfl rfl) rfl ⟨Nat.le_of_ble_eq_true rfl, Nat.le_of_ble_eq_true rfl⟩ hl.1 (Nat.le_of_ble_eq_true rfl) (g_182 (v := 81) bX6_noReading rfl) ⟨Nat.le_of_ble_eq_true rfl, Nat.le_of_ble_eq_true rfl⟩) (fun r_22 h_23 => ?_)
        rcases h_23 with ⟨rfl, h_24⟩ | ⟨rfl, h_24⟩
        · refine lv_if_ne (tgt := 50) hx hb dX6_noReading_38 (by decide +kernel) (fun _ => ?_) (fun h9 => absurd h9 (by decide +kernel))
          refine lv_iconst (v := 0) hx hb (g_3 bX6_noReading rfl) (by decide +kernel) ?_
          exact endWs [[true, true, true, true, true, true, true, true, true, true, true, true, true, true, true, true, true, true, true, true]] hx hb hr hlocks rfl hP hD rfl (by decide +kernel) hS ⟨fMr, rfl, (Or.inr (Or.inr (⟨rfl, ⟨k_4, k_10, hk_5, hk_11, rfl, rfl, h_15, h_24⟩⟩)))⟩ (g_172 bX6_noReading rfl)
        · refine lv_if_ne (tgt := 50) hx hb dX6_noReading_38 (by decide +kernel) (fun h9 => absurd (by decide +kernel) h9) (fun _ => ?_)
          refine lv_aload_n hx hb (g_42 bX6_noReading rfl) rfl (lv_at hl 0 rfl) ?_
          refine lv_bipush (v := (-5)) hx hb dX6_noReading_42 (by decide +kernel) ?_
          refine cVi (As := [.int (-5)]) (rest := []) (b := qm) (q := (RX6, TX6, 35)) ⟨hx, hb, hml, hown, hts⟩ (c_X6_refuse5 l G cy (s.heap).size qm v0 v1 v2 v3 v4 v5 v6 v7 v8 qmr tA qmB qmO qmK iEn iTk v18 v19 v20 v21 v22 v23 v24 v25 v26 iLv iWs v29 v30 v31 v32 v33 v34 fMr) L_X6_91 hN hP hD hS hA [0, 19] [false, true, true, true, true, true, true, true, true, true, true, true, true, true, true, true, true, true, true, false] rfl (by decide +kernel) rfl 0 5 rfl rfl rfl ⟨Nat.le_of_ble_eq_true rfl, Nat.le_of_ble_eq_true rfl⟩ hl.1 (Nat.le_of_ble_eq_true rfl) (g_182 (v := 91) bX6_noReading rfl) ⟨Nat.le_of_ble_eq_true rfl, Nat.le_of_ble_eq_true rfl⟩ (fun r_27 u_29 H locs h_28 => ?_)
          clear hP hD hS
          intro hP hD hS
          obtain ⟨fX_30, hu9, h_28⟩ := h_28
          have hPD := pd_eq [_, _, _, _, _, _, _, _, _, _, _, _, _, _, _, _, _, _, _, zzI cy qmr 8 fX_30] hP hD hu9 rfl
          clear hP hD hu9
          obtain ⟨hP, hD⟩ := hPD
          subst h_28
          refine lv_goto (tgt := 51) hx hb dX6_noReading_47 (by decide +kernel) ?_
          exact endWs [[false, false, false, false, false, false, false, false, false, false, false, false, false, false, false, false, false, false, true], [true, true, true, true, true, true, true, true, true, true, true, true, true, true, true, true, true, true, false, true]] hx hb hr hlocks rfl hP hD rfl (by decide +kernel) hS ⟨fX_30, rfl, (Or.inr (Or.inl (⟨rfl, ⟨k_4, k_10, hk_5, hk_11, rfl, rfl, Or.inr h_24⟩⟩)))⟩ (g_172 bX6_noReading rfl)
    · refine lv_if_ne (tgt := 25) hx hb dX6_noReading_15 (by decide +kernel) (fun h9 => absurd (by decide +kernel) h9) (fun _ => ?_)
      refine lv_aload_n hx hb (g_42 bX6_noReading rfl) rfl (lv_at hl 0 rfl) ?_
      refine lv_bipush (v := (-2)) hx hb dX6_noReading_19 (by decide +kernel) ?_
      refine cVi (As := [.int (-2)]) (rest := []) (b := qm) (q := (RX6, TX6, 35)) ⟨hx, hb, hml, hown, hts⟩ (c_X6_refuse2 l G cy (s.heap).size qm v0 v1 v2 v3 v4 v5 v6 v7 v8 qmr tA qmB qmO qmK iEn iTk v18 v19 v20 v21 v22 v23 v24 v25 v26 iLv iWs v29 v30 v31 v32 v33 v34 fMr) L_X6_91 hN hP hD hS hA [0, 19] [false, true, true, true, true, true, true, true, true, true, true, true, true, true, true, true, true, true, true, false] rfl (by decide +kernel) rfl 0 5 rfl rfl rfl ⟨Nat.le_of_ble_eq_true rfl, Nat.le_of_ble_eq_true rfl⟩ hl.1 (Nat.le_of_ble_eq_true rfl) (g_182 (v := 91) bX6_noReading rfl) ⟨Nat.le_of_ble_eq_true rfl, Nat.le_of_ble_eq_true rfl⟩ (fun r_32 u_34 H locs h_33 => ?_)
      clear hP hD hS
      intro hP hD hS
      obtain ⟨fX_35, hu9, h_33⟩ := h_33
      have hPD := pd_eq [_, _, _, _, _, _, _, _, _, _, _, _, _, _, _, _, _, _, _, zzI cy qmr 8 fX_35] hP hD hu9 rfl
      clear hP hD hu9
      obtain ⟨hP, hD⟩ := hPD
      subst h_33
      exact endWs [[false, false, false, false, false, false, false, false, false, false, false, false, false, false, false, false, false, false, true], [true, true, true, true, true, true, true, true, true, true, true, true, true, true, true, true, true, true, false, true]] hx hb hr hlocks rfl hP hD rfl (by decide +kernel) hS ⟨fX_35, rfl, (Or.inl (⟨rfl, (fun q => h_9 q.2)⟩))⟩ (g_172 bX6_noReading rfl)
  · refine lv_if_eq (tgt := 18) hx hb dX6_noReading_6 (by decide +kernel) (fun _ => ?_) (fun h9 => absurd (by decide +kernel) h9)
    refine lv_aload_n hx hb (g_42 bX6_noReading rfl) rfl (lv_at hl 0 rfl) ?_
    refine lv_bipush (v := (-2)) hx hb dX6_noReading_19 (by decide +kernel) ?_
    refine cVi (As := [.int (-2)]) (rest := []) (b := qm) (q := (RX6, TX6, 35)) ⟨hx, hb, hml, hown, hts⟩ (c_X6_refuse2 l G cy (s.heap).size qm v0 v1 v2 v3 v4 v5 v6 v7 v8 qmr tA qmB qmO qmK iEn iTk v18 v19 v20 v21 v22 v23 v24 v25 v26 iLv iWs v29 v30 v31 v32 v33 v34 fMr) L_X6_91 hN hP hD hS hA [0, 19] [false, true, true, true, true, true, true, true, true, true, true, true, true, true, true, true, true, true, true, false] rfl (by decide +kernel) rfl 0 5 rfl rfl rfl ⟨Nat.le_of_ble_eq_true rfl, Nat.le_of_ble_eq_true rfl⟩ hl.1 (Nat.le_of_ble_eq_true rfl) (g_182 (v := 91) bX6_noReading rfl) ⟨Nat.le_of_ble_eq_true rfl, Nat.le_of_ble_eq_true rfl⟩ (fun r_37 u_39 H locs h_38 => ?_)
    clear hP hD hS
    intro hP hD hS
    obtain ⟨fX_40, hu9, h_38⟩ := h_38
    have hPD := pd_eq [_, _, _, _, _, _, _, _, _, _, _, _, _, _, _, _, _, _, _, zzI cy qmr 8 fX_40] hP hD hu9 rfl
    clear hP hD hu9
    obtain ⟨hP, hD⟩ := hPD
    subst h_38
    exact endWs [[false, false, false, false, false, false, false, false, false, false, false, false, false, false, false, false, false, false, true], [true, true, true, true, true, true, true, true, true, true, true, true, true, true, true, true, true, true, false, true]] hx hb hr hlocks rfl hP hD rfl (by decide +kernel) hS ⟨fX_40, rfl, (Or.inl (⟨rfl, (fun q => h_3 q.1)⟩))⟩ (g_172 bX6_noReading rfl)
end
section
/-! the reference's lexer -/
noncomputable def zlt (x : Int32) : Bool := decide (97 ≤ x) && decide (x ≤ 122)
noncomputable def zdg (x : Int32) : Bool := decide (48 ≤ x) && decide (x ≤ 57)
noncomputable def skF (f : Nat → Int32) : Nat → Nat → Nat
  | 0, i => i
  | n + 1, i => if f i = 32 then skF f n (i + 1) else i
theorem sk_go {f : Nat → Int32} {n i : Nat} (h : f i = 32) : skF f (n + 1) i = skF f n (i + 1) := if_pos h
theorem sk_no {f : Nat → Int32} {n i : Nat} (h : ¬ f i = 32) : skF f (n + 1) i = i := if_neg h
noncomputable def wdF (pr : Int32 → Bool) (f : Nat → Int32) : Nat → Nat → Nat
  | 0, i => i
  | n + 1, i => if pr (f i) = true then wdF pr f n (i + 1) else i
theorem wd_go {pr : Int32 → Bool} {f : Nat → Int32} {n i : Nat} (h : pr (f i) = true) : wdF pr f (n + 1) i = wdF pr f n (i + 1) := if_pos h
theorem wd_no {pr : Int32 → Bool} {f : Nat → Int32} {n i : Nat} (h : pr (f i) = false) : wdF pr f (n + 1) i = i := if_neg (by rw [h]; decide)
noncomputable def dgF (f : Nat → Int32) (a : Nat) : Nat → Nat → Int64 → Nat × Int64
  | 0, i, v => (i, v)
  | n + 1, i, v => if zdg (f i) = true then dgF f a n (i + 1) (if i < a + 3 then v * 10 + (f i).toInt64 - 48 else 100000) else (i, v)
theorem dg_go {f : Nat → Int32} {a n i : Nat} {v : Int64} (h : zdg (f i) = true) (h2 : ¬ i < a + 3) : dgF f a (n + 1) i v = dgF f a n (i + 1) 100000 := by rw [dgF, if_pos h, if_neg h2]
theorem dg_lt {f : Nat → Int32} {a n i : Nat} {v : Int64} (h : zdg (f i) = true) (h2 : i < a + 3) : dgF f a (n + 1) i v = dgF f a n (i + 1) (v * 10 + (f i).toInt64 - 48) := by rw [dgF, if_pos h, if_pos h2]
theorem dg_no {f : Nat → Int32} {a n i : Nat} {v : Int64} (h : zdg (f i) = false) : dgF f a (n + 1) i v = (i, v) := by rw [dgF, if_neg (by rw [h]; decide)]
theorem dg_ge {i a : Nat} (hi : i < 2 ^ 30) (ha : a < 2 ^ 30) (c : 3 ≤ nI i - nI a) : ¬ i < a + 3 := by
  rw [Int32.le_iff_toInt_le, pk_sub_toInt hi ha] at c
  have e : (3 : Int32).toInt = 3 := by decide +kernel
  rw [e] at c
  omega
theorem dg_l3 {i a : Nat} (hi : i < 2 ^ 30) (ha : a < 2 ^ 30) (c : ¬ 3 ≤ nI i - nI a) : i < a + 3 := by
  rw [Int32.le_iff_toInt_le, pk_sub_toInt hi ha] at c
  have e : (3 : Int32).toInt = 3 := by decide +kernel
  rw [e] at c
  omega
noncomputable def lkF (f : Nat → Int32) (z a : Nat) : Nat × Int32 × Nat × Int64 := if skF f (z - a) a = z then (skF f (z - a) a, 0, skF f (z - a) a, 0) else if zlt (f (skF f (z - a) a)) = true then (skF f (z - a) a, 1, wdF zlt f (z - skF f (z - a) a) (skF f (z - a) a), 0) else if zdg (f (skF f (z - a) a)) = true then (skF f (z - a) a, 2, dgF f (skF f (z - a) a) (z - skF f (z - a) a) (skF f (z - a) a) 0) else (skF f (z - a) a, (if f (skF f (z - a) a) = 59 then 3 else 4), skF f (z - a) a + 1, 0)
theorem lk_w {f : Nat → Int32} {z a j : Nat} (hj : j = skF f (z - a) a) (hn : j < z) (h : zlt (f j) = true) : lkF f z a = (j, 1, wdF zlt f (z - j) j, 0) := by
  subst hj
  rw [lkF, if_neg (by omega), if_pos h]
theorem lk_d {f : Nat → Int32} {z a j : Nat} (hj : j = skF f (z - a) a) (hn : j < z) (h : zlt (f j) = false) (h2 : zdg (f j) = true) : lkF f z a = (j, 2, dgF f j (z - j) j 0) := by
  subst hj
  rw [lkF, if_neg (by omega), if_neg (by rw [h]; decide), if_pos h2]
theorem lk_3 {f : Nat → Int32} {z a j : Nat} (hj : j = skF f (z - a) a) (hn : j < z) (h : zlt (f j) = false) (h2 : zdg (f j) = false) (h3 : f j = 59) : lkF f z a = (j, 3, j + 1, 0) := by
  subst hj
  rw [lkF, if_neg (by omega), if_neg (by rw [h]; decide), if_neg (by rw [h2]; decide), if_pos h3]
theorem lk_4 {f : Nat → Int32} {z a j : Nat} (hj : j = skF f (z - a) a) (hn : j < z) (h : zlt (f j) = false) (h2 : zdg (f j) = false) (h3 : ¬ f j = 59) : lkF f z a = (j, 4, j + 1, 0) := by
  subst hj
  rw [lkF, if_neg (by omega), if_neg (by rw [h]; decide), if_neg (by rw [h2]; decide), if_neg h3]
theorem sk_le (f : Nat → Int32) : ∀ n i, i ≤ skF f n i ∧ skF f n i ≤ i + n := by
  intro n
  induction n with
  | zero => intro i; exact ⟨Nat.le_refl _, Nat.le_refl _⟩
  | succ n ih =>
    intro i
    unfold skF
    split
    · have := ih (i + 1); omega
    · omega
theorem wd_le (pr : Int32 → Bool) (f : Nat → Int32) : ∀ n i, i ≤ wdF pr f n i ∧ wdF pr f n i ≤ i + n := by
  intro n
  induction n with
  | zero => intro i; exact ⟨Nat.le_refl _, Nat.le_refl _⟩
  | succ n ih =>
    intro i
    unfold wdF
    split
    · have := ih (i + 1); omega
    · omega
theorem dg_le (f : Nat → Int32) (a : Nat) : ∀ n i v, i ≤ (dgF f a n i v).1 ∧ (dgF f a n i v).1 ≤ i + n := by
  intro n
  induction n with
  | zero => intro i v; exact ⟨Nat.le_refl _, Nat.le_refl _⟩
  | succ n ih =>
    intro i v
    unfold dgF
    split
    · have := ih (i + 1) (if i < a + 3 then v * 10 + (f i).toInt64 - 48 else 100000); omega
    · exact ⟨Nat.le_refl _, by show i ≤ _; omega⟩
/-- what a look leaves behind: places in order, and a step ahead unless it is at the end -/
theorem lk_ok (f : Nat → Int32) {z a : Nat} (h : a ≤ z) : a ≤ (lkF f z a).1 ∧ (lkF f z a).1 ≤ (lkF f z a).2.2.1 ∧ (lkF f z a).2.2.1 ≤ z ∧ ((lkF f z a).2.1 = 0 ∨ a < (lkF f z a).2.2.1) := by
  have h1 := sk_le f (z - a) a
  generalize hj : skF f (z - a) a = j at h1
  have hj' := hj.symm
  by_cases e : j = z
  · have : lkF f z a = (j, 0, j, 0) := by rw [lkF, hj, if_pos e]
    rw [this]
    exact ⟨h1.1, Nat.le_refl _, by show j ≤ z; omega, Or.inl rfl⟩
  · have hl : j < z := by omega
    cases hw : zlt (f j) with
    | true =>
      rw [lk_w hj' hl hw]
      obtain ⟨n, hn⟩ : ∃ n, z - j = n + 1 := ⟨z - j - 1, by omega⟩
      have h2 := wd_le zlt f n (j + 1)
      have h3 : wdF zlt f (z - j) j = wdF zlt f n (j + 1) := by rw [hn, wd_go hw]
      show a ≤ j ∧ j ≤ wdF zlt f (z - j) j ∧ wdF zlt f (z - j) j ≤ z ∧ (_ ∨ a < wdF zlt f (z - j) j)
      rw [h3]
      exact ⟨h1.1, by omega, by omega, Or.inr (by omega)⟩
    | false =>
      cases hd : zdg (f j) with
      | true =>
        rw [lk_d hj' hl hw hd]
        obtain ⟨n, hn⟩ : ∃ n, z - j = n + 1 := ⟨z - j - 1, by omega⟩
        have h2 := dg_le f j n (j + 1) (0 * 10 + (f j).toInt64 - 48)
        have h3 : dgF f j (z - j) j 0 = dgF f j n (j + 1) (0 * 10 + (f j).toInt64 - 48) := by rw [hn, dg_lt hd (by omega)]
        show a ≤ j ∧ j ≤ (dgF f j (z - j) j 0).1 ∧ (dgF f j (z - j) j 0).1 ≤ z ∧ (_ ∨ a < (dgF f j (z - j) j 0).1)
        rw [h3]
        exact ⟨h1.1, by omega, by omega, Or.inr (by omega)⟩
      | false =>
        by_cases h3 : f j = 59
        · rw [lk_3 hj' hl hw hd h3]
          exact ⟨h1.1, Nat.le_succ _, hl, Or.inr (by show a < j + 1; omega)⟩
        · rw [lk_4 hj' hl hw hd h3]
          exact ⟨h1.1, Nat.le_succ _, hl, Or.inr (by show a < j + 1; omega)⟩
noncomputable def weF (f : Nat → Int32) (a : Nat) (w : List Int32) : Nat → Nat → Bool
  | 0, _ => true
  | n + 1, i => if f (a + i) = w.getD i 0 then weF f a w n (i + 1) else false
theorem we_go {f : Nat → Int32} {a : Nat} {w : List Int32} {n i : Nat} (h : f (a + i) = w.getD i 0) : weF f a w (n + 1) i = weF f a w n (i + 1) := if_pos h
theorem we_no {f : Nat → Int32} {a : Nat} {w : List Int32} {n i : Nat} (h : ¬ f (a + i) = w.getD i 0) : weF f a w (n + 1) i = false := if_neg h
/-- the token from a to b is the word -/
noncomputable def isW (f : Nat → Int32) (a b : Nat) (tk : Int32) (w : List Int32) : Bool := decide (tk = 1) && (decide (b = a + w.length) && weF f a w w.length 0)
theorem isw_y {f : Nat → Int32} {a b : Nat} {tk : Int32} {w : List Int32} (h1 : tk = 1) (h2 : b = a + w.length) (h3 : weF f a w w.length 0 = true) : isW f a b tk w = true := by rw [isW, decide_eq_true h1, decide_eq_true h2, h3]; rfl
theorem isw_n1 {f : Nat → Int32} {a b : Nat} {tk : Int32} {w : List Int32} (h1 : ¬ tk = 1) : isW f a b tk w = false := by rw [isW, decide_eq_false h1]; rfl
theorem isw_n2 {f : Nat → Int32} {a b : Nat} {tk : Int32} {w : List Int32} (ha : a ≤ 250) (hb : b ≤ 250) (h2 : ¬ nI b - nI a = nI w.length) : isW f a b tk w = false := by
  rw [isW, decide_eq_false (p := b = a + w.length) (fun q => h2 (by rw [q, pk_sub (by omega)]; congr 1; omega)), Bool.false_and, Bool.and_false]
theorem isw_n3 {f : Nat → Int32} {a b : Nat} {tk : Int32} {w : List Int32} (h3 : weF f a w w.length 0 = false) : isW f a b tk w = false := by rw [isW, h3, Bool.and_false, Bool.and_false]
set_option maxHeartbeats 4000000 in
set_option maxRecDepth 100000 in
theorem c_X6_isLetter (l : Launch) (G : va_G) (cy : Nat → ClassId) (iA : Int32)   : MR l yX6_isLetter cX6_isLetter 1 (some .boolean) 1 G cy [] [.int iA] (vp_Si (fun r => (r = 1 ∧ zlt iA = true) ∨ (r = 0 ∧ zlt iA = false))) := by
  refine enR RX6 (by decide +kernel) rfl (Nat.le_of_ble_eq_true rfl) (fun p e s m below meth c ls hx hb hml hown hts hr hlocks hP hN hl => ?_)
  have hK := hN.1
  replace hl : lv_has ls 1 [(0, .int iA)] := hl
  refine lv_iload_n hx hb (g_26 bX6_isLetter rfl) rfl (lv_at hl 0 rfl) ?_
  refine lv_bipush (v := 97) hx hb dX6_isLetter_1 (by decide +kernel) ?_
  refine lv_icmp_lt (tgt := 16) hx hb dX6_isLetter_3 (by decide +kernel) (fun c_1 => ?_) (fun c_1 => ?_)
  · refine lv_iconst (v := 0) hx hb (g_3 bX6_isLetter rfl) (by decide +kernel) ?_
    exact endR hx hb hr hlocks rfl (Or.inr (⟨rfl, by show (decide _ && decide _) = false; rw [decide_eq_false (Int32.not_le.mpr c_1)]; rfl⟩)) (g_172 bX6_isLetter rfl)
  · refine lv_iload_n hx hb (g_26 bX6_isLetter rfl) rfl (lv_at hl 0 rfl) ?_
    refine lv_bipush (v := 122) hx hb dX6_isLetter_7 (by decide +kernel) ?_
    refine lv_icmp_gt (tgt := 16) hx hb dX6_isLetter_9 (by decide +kernel) (fun c_2 => ?_) (fun c_2 => ?_)
    · refine lv_iconst (v := 0) hx hb (g_3 bX6_isLetter rfl) (by decide +kernel) ?_
      exact endR hx hb hr hlocks rfl (Or.inr (⟨rfl, by show (decide _ && decide _) = false; rw [decide_eq_false (p := _ ≤ _) (Int32.not_le.mpr c_2), Bool.and_false]⟩)) (g_172 bX6_isLetter rfl)
    · refine lv_iconst (v := 1) hx hb (g_4 bX6_isLetter rfl) (by decide +kernel) ?_
      refine lv_goto (tgt := 17) hx hb dX6_isLetter_13 (by decide +kernel) ?_
      exact endR hx hb hr hlocks rfl (Or.inl (⟨rfl, by show (decide _ && decide _) = true; rw [decide_eq_true (Int32.not_lt.mp c_1), decide_eq_true (Int32.not_lt.mp c_2)]; rfl⟩)) (g_172 bX6_isLetter rfl)
set_option maxHeartbeats 4000000 in
set_option maxRecDepth 100000 in
theorem c_X6_isDigit (l : Launch) (G : va_G) (cy : Nat → ClassId) (iA : Int32)   : MR l yX6_isDigit cX6_isDigit 1 (some .boolean) 1 G cy [] [.int iA] (vp_Si (fun r => (r = 1 ∧ zdg iA = true) ∨ (r = 0 ∧ zdg iA = false))) := by
  refine enR RX6 (by decide +kernel) rfl (Nat.le_of_ble_eq_true rfl) (fun p e s m below meth c ls hx hb hml hown hts hr hlocks hP hN hl => ?_)
  have hK := hN.1
  replace hl : lv_has ls 1 [(0, .int iA)] := hl
  refine lv_iload_n hx hb (g_26 bX6_isDigit rfl) rfl (lv_at hl 0 rfl) ?_
  refine lv_bipush (v := 48) hx hb dX6_isDigit_1 (by decide +kernel) ?_
  refine lv_icmp_lt (tgt := 16) hx hb dX6_isDigit_3 (by decide +kernel) (fun c_1 => ?_) (fun c_1 => ?_)
  · refine lv_iconst (v := 0) hx hb (g_3 bX6_isDigit rfl) (by decide +kernel) ?_
    exact endR hx hb hr hlocks rfl (Or.inr (⟨rfl, by show (decide _ && decide _) = false; rw [decide_eq_false (Int32.not_le.mpr c_1)]; rfl⟩)) (g_172 bX6_isDigit rfl)
  · refine lv_iload_n hx hb (g_26 bX6_isDigit rfl) rfl (lv_at hl 0 rfl) ?_
    refine lv_bipush (v := 57) hx hb dX6_isDigit_7 (by decide +kernel) ?_
    refine lv_icmp_gt (tgt := 16) hx hb dX6_isDigit_9 (by decide +kernel) (fun c_2 => ?_) (fun c_2 => ?_)
    · refine lv_iconst (v := 0) hx hb (g_3 bX6_isDigit rfl) (by decide +kernel) ?_
      exact endR hx hb hr hlocks rfl (Or.inr (⟨rfl, by show (decide _ && decide _) = false; rw [decide_eq_false (p := _ ≤ _) (Int32.not_le.mpr c_2), Bool.and_false]⟩)) (g_172 bX6_isDigit rfl)
    · refine lv_iconst (v := 1) hx hb (g_4 bX6_isDigit rfl) (by decide +kernel) ?_
      refine lv_goto (tgt := 17) hx hb dX6_isDigit_13 (by decide +kernel) ?_
      exact endR hx hb hr hlocks rfl (Or.inl (⟨rfl, by show (decide _ && decide _) = true; rw [decide_eq_true (Int32.not_lt.mp c_1), decide_eq_true (Int32.not_lt.mp c_2)]; rfl⟩)) (g_172 bX6_isDigit rfl)
set_option maxHeartbeats 4000000 in
set_option maxRecDepth 100000 in
theorem c_X6_look (l : Launch) (G : va_G) (cy : Nat → ClassId) (sz : Nat) (qm : Nat) (v0 : Value) (v1 : Value) (v2 : Value) (v3 : Value) (v4 : Value) (v5 : Value) (v6 : Value) (qmt : Nat) (kZ : Nat) (v9 : Value) (tA : TA) (qmB : Nat) (qmO : Nat) (qmK : Nat) (iEn : Int32) (iTk : Int32) (v18 : Value) (v19 : Value) (kAt : Nat) (iTo : Int32) (iFr : Int32) (JFi : Int64) (iFa : Int32) (v25 : Value) (v26 : Value) (iLv : Int32) (iWs : Int32) (v29 : Value) (v30 : Value) (v31 : Value) (v32 : Value) (v33 : Value) (v34 : Value) (fMt : Nat → Int32)  (hZ : kZ ≤ 250) (hAt : kAt ≤ kZ) : MW l yX6_look cX6_look 1 none 2 0 0 G cy [zzO qm 5 (v0 :: v1 :: v2 :: v3 :: v4 :: v5 :: v6 :: .ref qmt :: .int (nI kZ) :: v9 :: .int (nI (T_nb tA)) :: .ref qmB :: .int (nI (T_np tA)) :: .ref qmO :: .ref qmK :: .int iEn :: .int iTk :: .int (T_sd tA) :: v18 :: v19 :: .int (nI kAt) :: .int iTo :: .int iFr :: .long JFi :: .int iFa :: v25 :: v26 :: .int iLv :: .int iWs :: v29 :: v30 :: v31 :: v32 :: v33 :: v34 :: []), zzI cy qmt 250 fMt] sz [.ref qm] (Wv G (fun u => u = [zzO qm 5 (v0 :: v1 :: v2 :: v3 :: v4 :: v5 :: v6 :: .ref qmt :: .int (nI kZ) :: v9 :: .int (nI (T_nb tA)) :: .ref qmB :: .int (nI (T_np tA)) :: .ref qmO :: .ref qmK :: .int iEn :: .int iTk :: .int (T_sd tA) :: v18 :: v19 :: .int (nI (lkF fMt kZ kAt).2.2.1) :: .int ((lkF fMt kZ kAt).2.1) :: .int (nI (lkF fMt kZ kAt).1) :: .long ((lkF fMt kZ kAt).2.2.2) :: .int iFa :: v25 :: v26 :: .int iLv :: .int iWs :: v29 :: v30 :: v31 :: v32 :: v33 :: v34 :: []), zzI cy qmt 250 fMt])) := by
  refine enW RX6 (by decide +kernel) rfl (Nat.le_of_ble_eq_true rfl) (fun p e s m below meth c ls A hx hb hml hown hts hr hlocks hP hN hl hin hD hA hS => ?_)
  have hin : meth.name = _ := hin
  have hK := hN.1
  replace hl : lv_has ls 1 [(0, .ref qm)] := hl
  have lp_1 : ∀ (n_2 : Nat) (j_4 : Nat), 250 - j_4 < n_2 → kAt ≤ j_4 ∧ j_4 ≤ kZ → skF fMt (kZ - j_4) j_4 = skF fMt (kZ - kAt) kAt → ∀ (H : Heap) (locs : List Loc) (ls : Array Slot), va_P G CL [zzO qm 5 (v0 :: v1 :: v2 :: v3 :: v4 :: v5 :: v6 :: .ref qmt :: .int (nI kZ) :: v9 :: .int (nI (T_nb tA)) :: .ref qmB :: .int (nI (T_np tA)) :: .ref qmO :: .ref qmK :: .int iEn :: .int iTk :: .int (T_sd tA) :: v18 :: v19 :: .int (nI j_4) :: .int iTo :: .int iFr :: .long JFi :: .int iFa :: v25 :: v26 :: .int iLv :: .int iWs :: v29 :: v30 :: v31 :: v32 :: v33 :: v34 :: []), zzI cy qmt 250 fMt] H → va_D A [zzO qm 5 (v0 :: v1 :: v2 :: v3 :: v4 :: v5 :: v6 :: .ref qmt :: .int (nI kZ) :: v9 :: .int (nI (T_nb tA)) :: .ref qmB :: .int (nI (T_np tA)) :: .ref qmO :: .ref qmK :: .int iEn :: .int iTk :: .int (T_sd tA) :: v18 :: v19 :: .int (nI j_4) :: .int iTo :: .int iFr :: .long JFi :: .int iFa :: v25 :: v26 :: .int iLv :: .int iWs :: v29 :: v30 :: v31 :: v32 :: v33 :: v34 :: []), zzI cy qmt 250 fMt] → va_S A s.heap H locs → lv_has ls 1 [(0, .ref qm)] → W p l e (Rm 2 0 0) s m (List.toArray (α := Value) [.ref qm]) below meth c H locs 0 0 (MQ below ((Wv G (fun u => u = [zzO qm 5 (v0 :: v1 :: v2 :: v3 :: v4 :: v5 :: v6 :: .ref qmt :: .int (nI kZ) :: v9 :: .int (nI (T_nb tA)) :: .ref qmB :: .int (nI (T_np tA)) :: .ref qmO :: .ref qmK :: .int iEn :: .int iTk :: .int (T_sd tA) :: v18 :: v19 :: .int (nI (lkF fMt kZ kAt).2.2.1) :: .int ((lkF fMt kZ kAt).2.1) :: .int (nI (lkF fMt kZ kAt).1) :: .long ((lkF fMt kZ kAt).2.2.2) :: .int iFa :: v25 :: v26 :: .int iLv :: .int iWs :: v29 :: v30 :: v31 :: v32 :: v33 :: v34 :: []), zzI cy qmt 250 fMt])) A) (List.toArray (α := Value) [.ref qm]) s 0 0 A) (F0 m 0 ls []) := by
    intro n_2
    induction n_2 with
    | zero => intro j_4 hm9; exact absurd hm9 (Nat.not_lt_zero _)
    | succ n_2 ih_3 =>
      intro j_4 hm_7 hj_5 hT_6 H locs ls hP hD hS hl
      refine lv_aload_n hx hb (g_42 bX6_look rfl) rfl (lv_at hl 0 rfl) ?_
      refine va_get (D := G) (ci := 5) (v := .int (nI j_4)) (C := RX6) (T := TX6) (N := 35) hx hb hts iX_X6 hown hK hP 0 rfl rfl 20 (by decide +kernel) (hts _ m_t870) (fun _ h9 => h9) rfl (g_180 (v := 144) bX6_look rfl) ?_
      refine lv_aload_n hx hb (g_42 bX6_look rfl) rfl (lv_at hl 0 rfl) ?_
      refine va_get (D := G) (ci := 5) (v := .int (nI kZ)) (C := RX6) (T := TX6) (N := 35) hx hb hts iX_X6 hown hK hP 0 rfl rfl 8 (by decide +kernel) (hts _ m_t858) (fun _ h9 => h9) rfl (g_180 (v := 141) bX6_look rfl) ?_
      refine lv_icmp_ge (tgt := 38) hx hb dX6_look_8 (by decide +kernel) (fun c_8 => ?_) (fun c_8 => ?_)
      · have hlt_9 : j_4 = kZ := Nat.le_antisymm (by omega) (lp_ge rfl rfl (by omega) (by omega) c_8)
        have hlt_9f : j_4 = skF fMt (kZ - kAt) kAt := by rw [← hT_6, hlt_9, Nat.sub_self]; rfl
        refine lv_aload_n hx hb (g_42 bX6_look rfl) rfl (lv_at hl 0 rfl) ?_
        refine lv_aload_n hx hb (g_42 bX6_look rfl) rfl (lv_at hl 0 rfl) ?_
        refine va_get (D := G) (ci := 5) (v := .int (nI j_4)) (C := RX6) (T := TX6) (N := 35) hx hb hts iX_X6 hown hK hP 0 rfl rfl 20 (by decide +kernel) (hts _ m_t870) (fun _ h9 => h9) rfl (g_180 (v := 144) bX6_look rfl) ?_
        refine va_put (D := G) (ci := 5) (v := .int (nI j_4)) (ty := .int) (C := RX6) (T := TX6) (N := 35) hx hb hts iX_X6 tyX6 tyX6_ok nmX6 hown hK hP hD hS 0 rfl rfl 22 (by decide +kernel) (hts _ m_t872) (fun _ h9 => h9) rfl (by decide +kernel) rfl rfl (Nat.le_of_ble_eq_true rfl) (g_181 (v := 147) bX6_look rfl) (fun H locs => ?_)
        clear hP hD hS
        intro hP hD hS
        have hPD := pd_as [zzO qm 5 (v0 :: v1 :: v2 :: v3 :: v4 :: v5 :: v6 :: .ref qmt :: .int (nI kZ) :: v9 :: .int (nI (T_nb tA)) :: .ref qmB :: .int (nI (T_np tA)) :: .ref qmO :: .ref qmK :: .int iEn :: .int iTk :: .int (T_sd tA) :: v18 :: v19 :: .int (nI j_4) :: .int iTo :: .int (nI j_4) :: .long JFi :: .int iFa :: v25 :: v26 :: .int iLv :: .int iWs :: v29 :: v30 :: v31 :: v32 :: v33 :: v34 :: []), _] hP hD rfl
        clear hP hD
        obtain ⟨hP, hD⟩ := hPD
        refine lv_aload_n hx hb (g_42 bX6_look rfl) rfl (lv_at hl 0 rfl) ?_
        refine lv_lconst (v := 0) hx hb (g_9 bX6_look rfl) (by decide +kernel) ?_
        refine va_put (D := G) (ci := 5) (v := .long 0) (ty := .long) (C := RX6) (T := TX6) (N := 35) hx hb hts iX_X6 tyX6 tyX6_ok nmX6 hown hK hP hD hS 0 rfl rfl 23 (by decide +kernel) (hts _ m_t873) (fun _ h9 => h9) rfl (by decide +kernel) rfl rfl (Nat.le_of_ble_eq_true rfl) (g_181 (v := 150) bX6_look rfl) (fun H locs => ?_)
        clear hP hD hS
        intro hP hD hS
        have hPD := pd_as [zzO qm 5 (v0 :: v1 :: v2 :: v3 :: v4 :: v5 :: v6 :: .ref qmt :: .int (nI kZ) :: v9 :: .int (nI (T_nb tA)) :: .ref qmB :: .int (nI (T_np tA)) :: .ref qmO :: .ref qmK :: .int iEn :: .int iTk :: .int (T_sd tA) :: v18 :: v19 :: .int (nI j_4) :: .int iTo :: .int (nI j_4) :: .long 0 :: .int iFa :: v25 :: v26 :: .int iLv :: .int iWs :: v29 :: v30 :: v31 :: v32 :: v33 :: v34 :: []), _] hP hD rfl
        clear hP hD
        obtain ⟨hP, hD⟩ := hPD
        refine lv_aload_n hx hb (g_42 bX6_look rfl) rfl (lv_at hl 0 rfl) ?_
        refine va_get (D := G) (ci := 5) (v := .int (nI j_4)) (C := RX6) (T := TX6) (N := 35) hx hb hts iX_X6 hown hK hP 0 rfl rfl 20 (by decide +kernel) (hts _ m_t870) (fun _ h9 => h9) rfl (g_180 (v := 144) bX6_look rfl) ?_
        refine lv_aload_n hx hb (g_42 bX6_look rfl) rfl (lv_at hl 0 rfl) ?_
        refine va_get (D := G) (ci := 5) (v := .int (nI kZ)) (C := RX6) (T := TX6) (N := 35) hx hb hts iX_X6 hown hK hP 0 rfl rfl 8 (by decide +kernel) (hts _ m_t858) (fun _ h9 => h9) rfl (g_180 (v := 141) bX6_look rfl) ?_
        refine lv_icmp_ne (tgt := 70) hx hb dX6_look_59 (by decide +kernel) (fun c_10 => ?_) (fun c_10 => ?_)
        · have hne_11 : j_4 < kZ := Nat.lt_of_le_of_ne (by omega) (fun q => c_10 (congrArg nI q))
          refine lv_aload_n hx hb (g_42 bX6_look rfl) rfl (lv_at hl 0 rfl) ?_
          refine va_get (D := G) (ci := 5) (v := .ref qmt) (C := RX6) (T := TX6) (N := 35) hx hb hts iX_X6 hown hK hP 0 rfl rfl 7 (by decide +kernel) (hts _ m_t857) (fun _ h9 => h9) rfl (g_180 (v := 34) bX6_look rfl) ?_
          refine lv_aload_n hx hb (g_42 bX6_look rfl) rfl (lv_at hl 0 rfl) ?_
          refine va_get (D := G) (ci := 5) (v := .int (nI j_4)) (C := RX6) (T := TX6) (N := 35) hx hb hts iX_X6 hown hK hP 0 rfl rfl 20 (by decide +kernel) (hts _ m_t870) (fun _ h9 => h9) rfl (g_180 (v := 144) bX6_look rfl) ?_
          refine va_iald hx hb hK hP 1 0 rfl rfl (vp_in_nI (by omega) (by omega)) (g_46 bX6_look rfl) ?_
          refine lv_seti (v := fMt j_4) (congrArg fMt (nI_clamp (by omega))) ?_
          refine kRi (rS (As := [.int (fMt j_4)]) (rest := []) ⟨hx, hb, hml, hown, hts⟩ (c_X6_isLetter l G cy (fMt j_4)) L_X6_157 (preRS hN hP [] rfl) rfl ⟨Nat.le_of_ble_eq_true rfl, Nat.le_of_ble_eq_true rfl⟩ hl.1 (Nat.le_of_ble_eq_true rfl) (g_184 (v := 157) bX6_look rfl) ⟨Nat.le_of_ble_eq_true rfl, Nat.le_of_ble_eq_true rfl⟩) (fun r_12 h_13 => ?_)
          rcases h_13 with ⟨rfl, h_14⟩ | ⟨rfl, h_14⟩
          · refine lv_if_eq (tgt := 129) hx hb dX6_look_82 (by decide +kernel) (fun h9 => absurd h9 (by decide +kernel)) (fun _ => ?_)
            refine lv_aload_n hx hb (g_42 bX6_look rfl) rfl (lv_at hl 0 rfl) ?_
            refine lv_iconst (v := 1) hx hb (g_4 bX6_look rfl) (by decide +kernel) ?_
            refine va_put (D := G) (ci := 5) (v := .int 1) (ty := .int) (C := RX6) (T := TX6) (N := 35) hx hb hts iX_X6 tyX6 tyX6_ok nmX6 hown hK hP hD hS 0 rfl rfl 21 (by decide +kernel) (hts _ m_t871) (fun _ h9 => h9) rfl (by decide +kernel) rfl rfl (Nat.le_of_ble_eq_true rfl) (g_181 (v := 154) bX6_look rfl) (fun H locs => ?_)
            clear hP hD hS
            intro hP hD hS
            have hPD := pd_as [zzO qm 5 (v0 :: v1 :: v2 :: v3 :: v4 :: v5 :: v6 :: .ref qmt :: .int (nI kZ) :: v9 :: .int (nI (T_nb tA)) :: .ref qmB :: .int (nI (T_np tA)) :: .ref qmO :: .ref qmK :: .int iEn :: .int iTk :: .int (T_sd tA) :: v18 :: v19 :: .int (nI j_4) :: .int 1 :: .int (nI j_4) :: .long 0 :: .int iFa :: v25 :: v26 :: .int iLv :: .int iWs :: v29 :: v30 :: v31 :: v32 :: v33 :: v34 :: []), _] hP hD rfl
            clear hP hD
            obtain ⟨hP, hD⟩ := hPD
            have lp_16 : ∀ (n_17 : Nat) (m_19 : Nat), 250 - m_19 < n_17 → j_4 ≤ m_19 ∧ m_19 ≤ kZ → wdF zlt fMt (kZ - m_19) m_19 = wdF zlt fMt (kZ - j_4) j_4 → ∀ (H : Heap) (locs : List Loc) (ls : Array Slot), va_P G CL [zzO qm 5 (v0 :: v1 :: v2 :: v3 :: v4 :: v5 :: v6 :: .ref qmt :: .int (nI kZ) :: v9 :: .int (nI (T_nb tA)) :: .ref qmB :: .int (nI (T_np tA)) :: .ref qmO :: .ref qmK :: .int iEn :: .int iTk :: .int (T_sd tA) :: v18 :: v19 :: .int (nI m_19) :: .int 1 :: .int (nI j_4) :: .long 0 :: .int iFa :: v25 :: v26 :: .int iLv :: .int iWs :: v29 :: v30 :: v31 :: v32 :: v33 :: v34 :: []), zzI cy qmt 250 fMt] H → va_D A [zzO qm 5 (v0 :: v1 :: v2 :: v3 :: v4 :: v5 :: v6 :: .ref qmt :: .int (nI kZ) :: v9 :: .int (nI (T_nb tA)) :: .ref qmB :: .int (nI (T_np tA)) :: .ref qmO :: .ref qmK :: .int iEn :: .int iTk :: .int (T_sd tA) :: v18 :: v19 :: .int (nI m_19) :: .int 1 :: .int (nI j_4) :: .long 0 :: .int iFa :: v25 :: v26 :: .int iLv :: .int iWs :: v29 :: v30 :: v31 :: v32 :: v33 :: v34 :: []), zzI cy qmt 250 fMt] → va_S A s.heap H locs → lv_has ls 1 [(0, .ref qm)] → W p l e (Rm 2 0 0) s m (List.toArray (α := Value) [.ref qm]) below meth c H locs 0 0 (MQ below ((Wv G (fun u => u = [zzO qm 5 (v0 :: v1 :: v2 :: v3 :: v4 :: v5 :: v6 :: .ref qmt :: .int (nI kZ) :: v9 :: .int (nI (T_nb tA)) :: .ref qmB :: .int (nI (T_np tA)) :: .ref qmO :: .ref qmK :: .int iEn :: .int iTk :: .int (T_sd tA) :: v18 :: v19 :: .int (nI (lkF fMt kZ kAt).2.2.1) :: .int ((lkF fMt kZ kAt).2.1) :: .int (nI (lkF fMt kZ kAt).1) :: .long ((lkF fMt kZ kAt).2.2.2) :: .int iFa :: v25 :: v26 :: .int iLv :: .int iWs :: v29 :: v30 :: v31 :: v32 :: v33 :: v34 :: []), zzI cy qmt 250 fMt])) A) (List.toArray (α := Value) [.ref qm]) s 0 0 A) (F0 m 90 ls []) := by
              intro n_17
              induction n_17 with
              | zero => intro m_19 hm9; exact absurd hm9 (Nat.not_lt_zero _)
              | succ n_17 ih_18 =>
                intro m_19 hm_22 hm_22 hU_21 H locs ls hP hD hS hl
                refine lv_aload_n hx hb (g_42 bX6_look rfl) rfl (lv_at hl 0 rfl) ?_
                refine va_get (D := G) (ci := 5) (v := .int (nI m_19)) (C := RX6) (T := TX6) (N := 35) hx hb hts iX_X6 hown hK hP 0 rfl rfl 20 (by decide +kernel) (hts _ m_t870) (fun _ h9 => h9) rfl (g_180 (v := 144) bX6_look rfl) ?_
                refine lv_aload_n hx hb (g_42 bX6_look rfl) rfl (lv_at hl 0 rfl) ?_
                refine va_get (D := G) (ci := 5) (v := .int (nI kZ)) (C := RX6) (T := TX6) (N := 35) hx hb hts iX_X6 hown hK hP 0 rfl rfl 8 (by decide +kernel) (hts _ m_t858) (fun _ h9 => h9) rfl (g_180 (v := 141) bX6_look rfl) ?_
                refine lv_icmp_ge (tgt := 267) hx hb dX6_look_98 (by decide +kernel) (fun c_23 => ?_) (fun c_23 => ?_)
                · have hlt_24 : m_19 = kZ := Nat.le_antisymm (by omega) (lp_ge rfl rfl (by omega) (by omega) c_23)
                  have hlt_24r : lkF fMt kZ kAt = (j_4, 1, m_19, 0) := by rw [lk_w hlt_9f hne_11 h_14, ← hU_21, show kZ - m_19 = 0 by omega]; rfl
                  exact endV (u := [zzO qm 5 (v0 :: v1 :: v2 :: v3 :: v4 :: v5 :: v6 :: .ref qmt :: .int (nI kZ) :: v9 :: .int (nI (T_nb tA)) :: .ref qmB :: .int (nI (T_np tA)) :: .ref qmO :: .ref qmK :: .int iEn :: .int iTk :: .int (T_sd tA) :: v18 :: v19 :: .int (nI m_19) :: .int 1 :: .int (nI j_4) :: .long 0 :: .int iFa :: v25 :: v26 :: .int iLv :: .int iWs :: v29 :: v30 :: v31 :: v32 :: v33 :: v34 :: []), zzI cy qmt 250 fMt]) hx hb hr hlocks (hP.sub [0, 1] rfl) (hD.sub [0, 1] (by decide +kernel) rfl) hS (by rw [hlt_24r]) (g_177 bX6_look rfl)
                · have hlt_25 : m_19 < kZ := lp_lt rfl rfl (by omega) (by omega) c_23
                  refine lv_aload_n hx hb (g_42 bX6_look rfl) rfl (lv_at hl 0 rfl) ?_
                  refine va_get (D := G) (ci := 5) (v := .ref qmt) (C := RX6) (T := TX6) (N := 35) hx hb hts iX_X6 hown hK hP 0 rfl rfl 7 (by decide +kernel) (hts _ m_t857) (fun _ h9 => h9) rfl (g_180 (v := 34) bX6_look rfl) ?_
                  refine lv_aload_n hx hb (g_42 bX6_look rfl) rfl (lv_at hl 0 rfl) ?_
                  refine va_get (D := G) (ci := 5) (v := .int (nI m_19)) (C := RX6) (T := TX6) (N := 35) hx hb hts iX_X6 hown hK hP 0 rfl rfl 20 (by decide +kernel) (hts _ m_t870) (fun _ h9 => h9) rfl (g_180 (v := 144) bX6_look rfl) ?_
                  refine va_iald hx hb hK hP 1 0 rfl rfl (vp_in_nI (by omega) (by omega)) (g_46 bX6_look rfl) ?_
                  refine lv_seti (v := fMt m_19) (congrArg fMt (nI_clamp (by omega))) ?_
                  refine kRi (rS (As := [.int (fMt m_19)]) (rest := []) ⟨hx, hb, hml, hown, hts⟩ (c_X6_isLetter l G cy (fMt m_19)) L_X6_157 (preRS hN hP [] rfl) rfl ⟨Nat.le_of_ble_eq_true rfl, Nat.le_of_ble_eq_true rfl⟩ hl.1 (Nat.le_of_ble_eq_true rfl) (g_184 (v := 157) bX6_look rfl) ⟨Nat.le_of_ble_eq_true rfl, Nat.le_of_ble_eq_true rfl⟩) (fun r_26 h_27 => ?_)
                  rcases h_27 with ⟨rfl, h_28⟩ | ⟨rfl, h_28⟩
                  · refine lv_if_eq (tgt := 267) hx hb dX6_look_113 (by decide +kernel) (fun h9 => absurd h9 (by decide +kernel)) (fun _ => ?_)
                    refine lv_aload_n hx hb (g_42 bX6_look rfl) rfl (lv_at hl 0 rfl) ?_
                    refine lv_dup hx hb (g_89 bX6_look rfl) rfl ?_
                    refine va_get (D := G) (ci := 5) (v := .int (nI m_19)) (C := RX6) (T := TX6) (N := 35) hx hb hts iX_X6 hown hK hP 0 rfl rfl 20 (by decide +kernel) (hts _ m_t870) (fun _ h9 => h9) rfl (g_180 (v := 144) bX6_look rfl) ?_
                    refine lv_iconst (v := 1) hx hb (g_4 bX6_look rfl) (by decide +kernel) ?_
                    refine lv_iadd hx hb (g_96 bX6_look rfl) ?_
                    refine lv_seti (v := nI (m_19 + 1)) (nI_1 _) ?_
                    refine va_put (D := G) (ci := 5) (v := .int (nI (m_19 + 1))) (ty := .int) (C := RX6) (T := TX6) (N := 35) hx hb hts iX_X6 tyX6 tyX6_ok nmX6 hown hK hP hD hS 0 rfl rfl 20 (by decide +kernel) (hts _ m_t870) (fun _ h9 => h9) rfl (by decide +kernel) rfl rfl (Nat.le_of_ble_eq_true rfl) (g_181 (v := 144) bX6_look rfl) (fun H locs => ?_)
                    clear hP hD hS
                    intro hP hD hS
                    have hPD := pd_as [zzO qm 5 (v0 :: v1 :: v2 :: v3 :: v4 :: v5 :: v6 :: .ref qmt :: .int (nI kZ) :: v9 :: .int (nI (T_nb tA)) :: .ref qmB :: .int (nI (T_np tA)) :: .ref qmO :: .ref qmK :: .int iEn :: .int iTk :: .int (T_sd tA) :: v18 :: v19 :: .int (nI (m_19 + 1)) :: .int 1 :: .int (nI j_4) :: .long 0 :: .int iFa :: v25 :: v26 :: .int iLv :: .int iWs :: v29 :: v30 :: v31 :: v32 :: v33 :: v34 :: []), _] hP hD rfl
                    clear hP hD
                    obtain ⟨hP, hD⟩ := hPD
                    refine lv_goto (tgt := 90) hx hb dX6_look_126 (by decide +kernel) ?_
                    exact ih_18 (m_19 + 1) (by omega) (⟨by omega, by omega⟩) (by rw [← hU_21, show kZ - m_19 = kZ - (m_19 + 1) + 1 by omega, wd_go h_28]) _ _ _ hP hD hS (lv_sub hl [0] rfl)
                  · refine lv_if_eq (tgt := 267) hx hb dX6_look_113 (by decide +kernel) (fun _ => ?_) (fun h9 => absurd (by decide +kernel) h9)
                    have hz_31r : lkF fMt kZ kAt = (j_4, 1, m_19, 0) := by rw [lk_w hlt_9f hne_11 h_14, ← hU_21, show kZ - m_19 = kZ - (m_19 + 1) + 1 by omega, wd_no h_28]
                    exact endV (u := [zzO qm 5 (v0 :: v1 :: v2 :: v3 :: v4 :: v5 :: v6 :: .ref qmt :: .int (nI kZ) :: v9 :: .int (nI (T_nb tA)) :: .ref qmB :: .int (nI (T_np tA)) :: .ref qmO :: .ref qmK :: .int iEn :: .int iTk :: .int (T_sd tA) :: v18 :: v19 :: .int (nI m_19) :: .int 1 :: .int (nI j_4) :: .long 0 :: .int iFa :: v25 :: v26 :: .int iLv :: .int iWs :: v29 :: v30 :: v31 :: v32 :: v33 :: v34 :: []), zzI cy qmt 250 fMt]) hx hb hr hlocks (hP.sub [0, 1] rfl) (hD.sub [0, 1] (by decide +kernel) rfl) hS (by rw [hz_31r]) (g_177 bX6_look rfl)
            exact lp_16 ((250 - j_4) + 1) j_4 (Nat.lt_succ_self _) (⟨Nat.le_refl _, by omega⟩) rfl _ _ ls hP hD hS (lv_sub hl [0] rfl)
          · refine lv_if_eq (tgt := 129) hx hb dX6_look_82 (by decide +kernel) (fun _ => ?_) (fun h9 => absurd (by decide +kernel) h9)
            refine lv_aload_n hx hb (g_42 bX6_look rfl) rfl (lv_at hl 0 rfl) ?_
            refine va_get (D := G) (ci := 5) (v := .ref qmt) (C := RX6) (T := TX6) (N := 35) hx hb hts iX_X6 hown hK hP 0 rfl rfl 7 (by decide +kernel) (hts _ m_t857) (fun _ h9 => h9) rfl (g_180 (v := 34) bX6_look rfl) ?_
            refine lv_aload_n hx hb (g_42 bX6_look rfl) rfl (lv_at hl 0 rfl) ?_
            refine va_get (D := G) (ci := 5) (v := .int (nI j_4)) (C := RX6) (T := TX6) (N := 35) hx hb hts iX_X6 hown hK hP 0 rfl rfl 20 (by decide +kernel) (hts _ m_t870) (fun _ h9 => h9) rfl (g_180 (v := 144) bX6_look rfl) ?_
            refine va_iald hx hb hK hP 1 0 rfl rfl (vp_in_nI (by omega) (by omega)) (g_46 bX6_look rfl) ?_
            refine lv_seti (v := fMt j_4) (congrArg fMt (nI_clamp (by omega))) ?_
            refine kRi (rS (As := [.int (fMt j_4)]) (rest := []) ⟨hx, hb, hml, hown, hts⟩ (c_X6_isDigit l G cy (fMt j_4)) L_X6_160 (preRS hN hP [] rfl) rfl ⟨Nat.le_of_ble_eq_true rfl, Nat.le_of_ble_eq_true rfl⟩ hl.1 (Nat.le_of_ble_eq_true rfl) (g_184 (v := 160) bX6_look rfl) ⟨Nat.le_of_ble_eq_true rfl, Nat.le_of_ble_eq_true rfl⟩) (fun r_33 h_34 => ?_)
            rcases h_34 with ⟨rfl, h_35⟩ | ⟨rfl, h_35⟩
            · refine lv_if_eq (tgt := 234) hx hb dX6_look_141 (by decide +kernel) (fun h9 => absurd h9 (by decide +kernel)) (fun _ => ?_)
              refine lv_aload_n hx hb (g_42 bX6_look rfl) rfl (lv_at hl 0 rfl) ?_
              refine lv_iconst (v := 2) hx hb (g_5 bX6_look rfl) (by decide +kernel) ?_
              refine va_put (D := G) (ci := 5) (v := .int 2) (ty := .int) (C := RX6) (T := TX6) (N := 35) hx hb hts iX_X6 tyX6 tyX6_ok nmX6 hown hK hP hD hS 0 rfl rfl 21 (by decide +kernel) (hts _ m_t871) (fun _ h9 => h9) rfl (by decide +kernel) rfl rfl (Nat.le_of_ble_eq_true rfl) (g_181 (v := 154) bX6_look rfl) (fun H locs => ?_)
              clear hP hD hS
              intro hP hD hS
              have hPD := pd_as [zzO qm 5 (v0 :: v1 :: v2 :: v3 :: v4 :: v5 :: v6 :: .ref qmt :: .int (nI kZ) :: v9 :: .int (nI (T_nb tA)) :: .ref qmB :: .int (nI (T_np tA)) :: .ref qmO :: .ref qmK :: .int iEn :: .int iTk :: .int (T_sd tA) :: v18 :: v19 :: .int (nI j_4) :: .int 2 :: .int (nI j_4) :: .long 0 :: .int iFa :: v25 :: v26 :: .int iLv :: .int iWs :: v29 :: v30 :: v31 :: v32 :: v33 :: v34 :: []), _] hP hD rfl
              clear hP hD
              obtain ⟨hP, hD⟩ := hPD
              have lp_37 : ∀ (n_38 : Nat) (m_40 : Nat) (xF_41 : Int64), 250 - m_40 < n_38 → j_4 ≤ m_40 ∧ m_40 ≤ kZ → dgF fMt j_4 (kZ - m_40) m_40 xF_41 = dgF fMt j_4 (kZ - j_4) j_4 0 → ∀ (H : Heap) (locs : List Loc) (ls : Array Slot), va_P G CL [zzO qm 5 (v0 :: v1 :: v2 :: v3 :: v4 :: v5 :: v6 :: .ref qmt :: .int (nI kZ) :: v9 :: .int (nI (T_nb tA)) :: .ref qmB :: .int (nI (T_np tA)) :: .ref qmO :: .ref qmK :: .int iEn :: .int iTk :: .int (T_sd tA) :: v18 :: v19 :: .int (nI m_40) :: .int 2 :: .int (nI j_4) :: .long xF_41 :: .int iFa :: v25 :: v26 :: .int iLv :: .int iWs :: v29 :: v30 :: v31 :: v32 :: v33 :: v34 :: []), zzI cy qmt 250 fMt] H → va_D A [zzO qm 5 (v0 :: v1 :: v2 :: v3 :: v4 :: v5 :: v6 :: .ref qmt :: .int (nI kZ) :: v9 :: .int (nI (T_nb tA)) :: .ref qmB :: .int (nI (T_np tA)) :: .ref qmO :: .ref qmK :: .int iEn :: .int iTk :: .int (T_sd tA) :: v18 :: v19 :: .int (nI m_40) :: .int 2 :: .int (nI j_4) :: .long xF_41 :: .int iFa :: v25 :: v26 :: .int iLv :: .int iWs :: v29 :: v30 :: v31 :: v32 :: v33 :: v34 :: []), zzI cy qmt 250 fMt] → va_S A s.heap H locs → lv_has ls 1 [(0, .ref qm)] → W p l e (Rm 2 0 0) s m (List.toArray (α := Value) [.ref qm]) below meth c H locs 0 0 (MQ below ((Wv G (fun u => u = [zzO qm 5 (v0 :: v1 :: v2 :: v3 :: v4 :: v5 :: v6 :: .ref qmt :: .int (nI kZ) :: v9 :: .int (nI (T_nb tA)) :: .ref qmB :: .int (nI (T_np tA)) :: .ref qmO :: .ref qmK :: .int iEn :: .int iTk :: .int (T_sd tA) :: v18 :: v19 :: .int (nI (lkF fMt kZ kAt).2.2.1) :: .int ((lkF fMt kZ kAt).2.1) :: .int (nI (lkF fMt kZ kAt).1) :: .long ((lkF fMt kZ kAt).2.2.2) :: .int iFa :: v25 :: v26 :: .int iLv :: .int iWs :: v29 :: v30 :: v31 :: v32 :: v33 :: v34 :: []), zzI cy qmt 250 fMt])) A) (List.toArray (α := Value) [.ref qm]) s 0 0 A) (F0 m 149 ls []) := by
                intro n_38
                induction n_38 with
                | zero => intro m_40 xF_41 hm9; exact absurd hm9 (Nat.not_lt_zero _)
                | succ n_38 ih_39 =>
                  intro m_40 xF_41 hm_44 hm_44 hU_43 H locs ls hP hD hS hl
                  refine lv_aload_n hx hb (g_42 bX6_look rfl) rfl (lv_at hl 0 rfl) ?_
                  refine va_get (D := G) (ci := 5) (v := .int (nI m_40)) (C := RX6) (T := TX6) (N := 35) hx hb hts iX_X6 hown hK hP 0 rfl rfl 20 (by decide +kernel) (hts _ m_t870) (fun _ h9 => h9) rfl (g_180 (v := 144) bX6_look rfl) ?_
                  refine lv_aload_n hx hb (g_42 bX6_look rfl) rfl (lv_at hl 0 rfl) ?_
                  refine va_get (D := G) (ci := 5) (v := .int (nI kZ)) (C := RX6) (T := TX6) (N := 35) hx hb hts iX_X6 hown hK hP 0 rfl rfl 8 (by decide +kernel) (hts _ m_t858) (fun _ h9 => h9) rfl (g_180 (v := 141) bX6_look rfl) ?_
                  refine lv_icmp_ge (tgt := 267) hx hb dX6_look_157 (by decide +kernel) (fun c_45 => ?_) (fun c_45 => ?_)
                  · have hlt_46 : m_40 = kZ := Nat.le_antisymm (by omega) (lp_ge rfl rfl (by omega) (by omega) c_45)
                    have hlt_46r : lkF fMt kZ kAt = (j_4, 2, m_40, xF_41) := by rw [lk_d hlt_9f hne_11 h_14 h_35, ← hU_43, show kZ - m_40 = 0 by omega]; rfl
                    exact endV (u := [zzO qm 5 (v0 :: v1 :: v2 :: v3 :: v4 :: v5 :: v6 :: .ref qmt :: .int (nI kZ) :: v9 :: .int (nI (T_nb tA)) :: .ref qmB :: .int (nI (T_np tA)) :: .ref qmO :: .ref qmK :: .int iEn :: .int iTk :: .int (T_sd tA) :: v18 :: v19 :: .int (nI m_40) :: .int 2 :: .int (nI j_4) :: .long xF_41 :: .int iFa :: v25 :: v26 :: .int iLv :: .int iWs :: v29 :: v30 :: v31 :: v32 :: v33 :: v34 :: []), zzI cy qmt 250 fMt]) hx hb hr hlocks (hP.sub [0, 1] rfl) (hD.sub [0, 1] (by decide +kernel) rfl) hS (by rw [hlt_46r]) (g_177 bX6_look rfl)
                  · have hlt_47 : m_40 < kZ := lp_lt rfl rfl (by omega) (by omega) c_45
                    refine lv_aload_n hx hb (g_42 bX6_look rfl) rfl (lv_at hl 0 rfl) ?_
                    refine va_get (D := G) (ci := 5) (v := .ref qmt) (C := RX6) (T := TX6) (N := 35) hx hb hts iX_X6 hown hK hP 0 rfl rfl 7 (by decide +kernel) (hts _ m_t857) (fun _ h9 => h9) rfl (g_180 (v := 34) bX6_look rfl) ?_
                    refine lv_aload_n hx hb (g_42 bX6_look rfl) rfl (lv_at hl 0 rfl) ?_
                    refine va_get (D := G) (ci := 5) (v := .int (nI m_40)) (C := RX6) (T := TX6) (N := 35) hx hb hts iX_X6 hown hK hP 0 rfl rfl 20 (by decide +kernel) (hts _ m_t870) (fun _ h9 => h9) rfl (g_180 (v := 144) bX6_look rfl) ?_
                    refine va_iald hx hb hK hP 1 0 rfl rfl (vp_in_nI (by omega) (by omega)) (g_46 bX6_look rfl) ?_
                    refine lv_seti (v := fMt m_40) (congrArg fMt (nI_clamp (by omega))) ?_
                    refine kRi (rS (As := [.int (fMt m_40)]) (rest := []) ⟨hx, hb, hml, hown, hts⟩ (c_X6_isDigit l G cy (fMt m_40)) L_X6_160 (preRS hN hP [] rfl) rfl ⟨Nat.le_of_ble_eq_true rfl, Nat.le_of_ble_eq_true rfl⟩ hl.1 (Nat.le_of_ble_eq_true rfl) (g_184 (v := 160) bX6_look rfl) ⟨Nat.le_of_ble_eq_true rfl, Nat.le_of_ble_eq_true rfl⟩) (fun r_48 h_49 => ?_)
                    rcases h_49 with ⟨rfl, h_50⟩ | ⟨rfl, h_50⟩
                    · refine lv_if_eq (tgt := 267) hx hb dX6_look_172 (by decide +kernel) (fun h9 => absurd h9 (by decide +kernel)) (fun _ => ?_)
                      refine lv_aload_n hx hb (g_42 bX6_look rfl) rfl (lv_at hl 0 rfl) ?_
                      refine lv_aload_n hx hb (g_42 bX6_look rfl) rfl (lv_at hl 0 rfl) ?_
                      refine va_get (D := G) (ci := 5) (v := .int (nI m_40)) (C := RX6) (T := TX6) (N := 35) hx hb hts iX_X6 hown hK hP 0 rfl rfl 20 (by decide +kernel) (hts _ m_t870) (fun _ h9 => h9) rfl (g_180 (v := 144) bX6_look rfl) ?_
                      refine lv_aload_n hx hb (g_42 bX6_look rfl) rfl (lv_at hl 0 rfl) ?_
                      refine va_get (D := G) (ci := 5) (v := .int (nI j_4)) (C := RX6) (T := TX6) (N := 35) hx hb hts iX_X6 hown hK hP 0 rfl rfl 22 (by decide +kernel) (hts _ m_t872) (fun _ h9 => h9) rfl (g_180 (v := 147) bX6_look rfl) ?_
                      refine lv_isub hx hb (g_100 bX6_look rfl) ?_
                      refine lv_iconst (v := 3) hx hb (g_6 bX6_look rfl) (by decide +kernel) ?_
                      refine lv_icmp_ge (tgt := 215) hx hb dX6_look_186 (by decide +kernel) (fun c_52 => ?_) (fun c_52 => ?_)
                      · refine lv_ldc2 hx hb hown (hts _ m_t1139) (g_20 (v := 165) bX6_look rfl) ?_
                        refine va_put (D := G) (ci := 5) (v := .long 100000) (ty := .long) (C := RX6) (T := TX6) (N := 35) hx hb hts iX_X6 tyX6 tyX6_ok nmX6 hown hK hP hD hS 0 rfl rfl 23 (by decide +kernel) (hts _ m_t873) (fun _ h9 => h9) rfl (by decide +kernel) rfl rfl (Nat.le_of_ble_eq_true rfl) (g_181 (v := 150) bX6_look rfl) (fun H locs => ?_)
                        clear hP hD hS
                        intro hP hD hS
                        have hPD := pd_as [zzO qm 5 (v0 :: v1 :: v2 :: v3 :: v4 :: v5 :: v6 :: .ref qmt :: .int (nI kZ) :: v9 :: .int (nI (T_nb tA)) :: .ref qmB :: .int (nI (T_np tA)) :: .ref qmO :: .ref qmK :: .int iEn :: .int iTk :: .int (T_sd tA) :: v18 :: v19 :: .int (nI m_40) :: .int 2 :: .int (nI j_4) :: .long 100000 :: .int iFa :: v25 :: v26 :: .int iLv :: .int iWs :: v29 :: v30 :: v31 :: v32 :: v33 :: v34 :: []), _] hP hD rfl
                        clear hP hD
                        obtain ⟨hP, hD⟩ := hPD
                        refine lv_aload_n hx hb (g_42 bX6_look rfl) rfl (lv_at hl 0 rfl) ?_
                        refine lv_dup hx hb (g_89 bX6_look rfl) rfl ?_
                        refine va_get (D := G) (ci := 5) (v := .int (nI m_40)) (C := RX6) (T := TX6) (N := 35) hx hb hts iX_X6 hown hK hP 0 rfl rfl 20 (by decide +kernel) (hts _ m_t870) (fun _ h9 => h9) rfl (g_180 (v := 144) bX6_look rfl) ?_
                        refine lv_iconst (v := 1) hx hb (g_4 bX6_look rfl) (by decide +kernel) ?_
                        refine lv_iadd hx hb (g_96 bX6_look rfl) ?_
                        refine lv_seti (v := nI (m_40 + 1)) (nI_1 _) ?_
                        refine va_put (D := G) (ci := 5) (v := .int (nI (m_40 + 1))) (ty := .int) (C := RX6) (T := TX6) (N := 35) hx hb hts iX_X6 tyX6 tyX6_ok nmX6 hown hK hP hD hS 0 rfl rfl 20 (by decide +kernel) (hts _ m_t870) (fun _ h9 => h9) rfl (by decide +kernel) rfl rfl (Nat.le_of_ble_eq_true rfl) (g_181 (v := 144) bX6_look rfl) (fun H locs => ?_)
                        clear hP hD hS
                        intro hP hD hS
                        have hPD := pd_as [zzO qm 5 (v0 :: v1 :: v2 :: v3 :: v4 :: v5 :: v6 :: .ref qmt :: .int (nI kZ) :: v9 :: .int (nI (T_nb tA)) :: .ref qmB :: .int (nI (T_np tA)) :: .ref qmO :: .ref qmK :: .int iEn :: .int iTk :: .int (T_sd tA) :: v18 :: v19 :: .int (nI (m_40 + 1)) :: .int 2 :: .int (nI j_4) :: .long 100000 :: .int iFa :: v25 :: v26 :: .int iLv :: .int iWs :: v29 :: v30 :: v31 :: v32 :: v33 :: v34 :: []), _] hP hD rfl
                        clear hP hD
                        obtain ⟨hP, hD⟩ := hPD
                        refine lv_goto (tgt := 149) hx hb dX6_look_231 (by decide +kernel) ?_
                        exact ih_39 (m_40 + 1) 100000 (by omega) (⟨by omega, by omega⟩) (by rw [← hU_43, show kZ - m_40 = kZ - (m_40 + 1) + 1 by omega, dg_go h_50 (dg_ge (by omega) (by omega) c_52)]) _ _ _ hP hD hS (lv_sub hl [0] rfl)
                      · refine lv_aload_n hx hb (g_42 bX6_look rfl) rfl (lv_at hl 0 rfl) ?_
                        refine va_get (D := G) (ci := 5) (v := .long xF_41) (C := RX6) (T := TX6) (N := 35) hx hb hts iX_X6 hown hK hP 0 rfl rfl 23 (by decide +kernel) (hts _ m_t873) (fun _ h9 => h9) rfl (g_180 (v := 150) bX6_look rfl) ?_
                        refine lv_ldc2 hx hb hown (hts _ m_t1103) (g_20 (v := 132) bX6_look rfl) ?_
                        refine lv_lmul hx hb (g_105 bX6_look rfl) ?_
                        refine lv_aload_n hx hb (g_42 bX6_look rfl) rfl (lv_at hl 0 rfl) ?_
                        refine va_get (D := G) (ci := 5) (v := .ref qmt) (C := RX6) (T := TX6) (N := 35) hx hb hts iX_X6 hown hK hP 0 rfl rfl 7 (by decide +kernel) (hts _ m_t857) (fun _ h9 => h9) rfl (g_180 (v := 34) bX6_look rfl) ?_
                        refine lv_aload_n hx hb (g_42 bX6_look rfl) rfl (lv_at hl 0 rfl) ?_
                        refine va_get (D := G) (ci := 5) (v := .int (nI m_40)) (C := RX6) (T := TX6) (N := 35) hx hb hts iX_X6 hown hK hP 0 rfl rfl 20 (by decide +kernel) (hts _ m_t870) (fun _ h9 => h9) rfl (g_180 (v := 144) bX6_look rfl) ?_
                        refine va_iald hx hb hK hP 1 0 rfl rfl (vp_in_nI (by omega) (by omega)) (g_46 bX6_look rfl) ?_
                        refine lv_seti (v := fMt m_40) (congrArg fMt (nI_clamp (by omega))) ?_
                        refine lv_i2l (v := (fMt m_40).toInt64) hx hb (g_133 bX6_look rfl) rfl ?_
                        refine lv_ladd hx hb (g_97 bX6_look rfl) ?_
                        refine lv_ldc2 hx hb hown (hts _ m_t1138) (g_20 (v := 163) bX6_look rfl) ?_
                        refine lv_lsub hx hb (g_101 bX6_look rfl) ?_
                        refine lv_goto (tgt := 218) hx hb dX6_look_212 (by decide +kernel) ?_
                        refine va_put (D := G) (ci := 5) (v := .long (((xF_41 * 10) + ((fMt m_40).toInt64)) - 48)) (ty := .long) (C := RX6) (T := TX6) (N := 35) hx hb hts iX_X6 tyX6 tyX6_ok nmX6 hown hK hP hD hS 0 rfl rfl 23 (by decide +kernel) (hts _ m_t873) (fun _ h9 => h9) rfl (by decide +kernel) rfl rfl (Nat.le_of_ble_eq_true rfl) (g_181 (v := 150) bX6_look rfl) (fun H locs => ?_)
                        clear hP hD hS
                        intro hP hD hS
                        have hPD := pd_as [zzO qm 5 (v0 :: v1 :: v2 :: v3 :: v4 :: v5 :: v6 :: .ref qmt :: .int (nI kZ) :: v9 :: .int (nI (T_nb tA)) :: .ref qmB :: .int (nI (T_np tA)) :: .ref qmO :: .ref qmK :: .int iEn :: .int iTk :: .int (T_sd tA) :: v18 :: v19 :: .int (nI m_40) :: .int 2 :: .int (nI j_4) :: .long (((xF_41 * 10) + ((fMt m_40).toInt64)) - 48) :: .int iFa :: v25 :: v26 :: .int iLv :: .int iWs :: v29 :: v30 :: v31 :: v32 :: v33 :: v34 :: []), _] hP hD rfl
                        clear hP hD
                        obtain ⟨hP, hD⟩ := hPD
                        refine lv_aload_n hx hb (g_42 bX6_look rfl) rfl (lv_at hl 0 rfl) ?_
                        refine lv_dup hx hb (g_89 bX6_look rfl) rfl ?_
                        refine va_get (D := G) (ci := 5) (v := .int (nI m_40)) (C := RX6) (T := TX6) (N := 35) hx hb hts iX_X6 hown hK hP 0 rfl rfl 20 (by decide +kernel) (hts _ m_t870) (fun _ h9 => h9) rfl (g_180 (v := 144) bX6_look rfl) ?_
                        refine lv_iconst (v := 1) hx hb (g_4 bX6_look rfl) (by decide +kernel) ?_
                        refine lv_iadd hx hb (g_96 bX6_look rfl) ?_
                        refine lv_seti (v := nI (m_40 + 1)) (nI_1 _) ?_
                        refine va_put (D := G) (ci := 5) (v := .int (nI (m_40 + 1))) (ty := .int) (C := RX6) (T := TX6) (N := 35) hx hb hts iX_X6 tyX6 tyX6_ok nmX6 hown hK hP hD hS 0 rfl rfl 20 (by decide +kernel) (hts _ m_t870) (fun _ h9 => h9) rfl (by decide +kernel) rfl rfl (Nat.le_of_ble_eq_true rfl) (g_181 (v := 144) bX6_look rfl) (fun H locs => ?_)
                        clear hP hD hS
                        intro hP hD hS
                        have hPD := pd_as [zzO qm 5 (v0 :: v1 :: v2 :: v3 :: v4 :: v5 :: v6 :: .ref qmt :: .int (nI kZ) :: v9 :: .int (nI (T_nb tA)) :: .ref qmB :: .int (nI (T_np tA)) :: .ref qmO :: .ref qmK :: .int iEn :: .int iTk :: .int (T_sd tA) :: v18 :: v19 :: .int (nI (m_40 + 1)) :: .int 2 :: .int (nI j_4) :: .long (((xF_41 * 10) + ((fMt m_40).toInt64)) - 48) :: .int iFa :: v25 :: v26 :: .int iLv :: .int iWs :: v29 :: v30 :: v31 :: v32 :: v33 :: v34 :: []), _] hP hD rfl
                        clear hP hD
                        obtain ⟨hP, hD⟩ := hPD
                        refine lv_goto (tgt := 149) hx hb dX6_look_231 (by decide +kernel) ?_
                        exact ih_39 (m_40 + 1) (((xF_41 * 10) + ((fMt m_40).toInt64)) - 48) (by omega) (⟨by omega, by omega⟩) (by rw [← hU_43, show kZ - m_40 = kZ - (m_40 + 1) + 1 by omega, dg_lt h_50 (dg_l3 (by omega) (by omega) c_52)]) _ _ _ hP hD hS (lv_sub hl [0] rfl)
                    · refine lv_if_eq (tgt := 267) hx hb dX6_look_172 (by decide +kernel) (fun _ => ?_) (fun h9 => absurd (by decide +kernel) h9)
                      have hz_54r : lkF fMt kZ kAt = (j_4, 2, m_40, xF_41) := by rw [lk_d hlt_9f hne_11 h_14 h_35, ← hU_43, show kZ - m_40 = kZ - (m_40 + 1) + 1 by omega, dg_no h_50]
                      exact endV (u := [zzO qm 5 (v0 :: v1 :: v2 :: v3 :: v4 :: v5 :: v6 :: .ref qmt :: .int (nI kZ) :: v9 :: .int (nI (T_nb tA)) :: .ref qmB :: .int (nI (T_np tA)) :: .ref qmO :: .ref qmK :: .int iEn :: .int iTk :: .int (T_sd tA) :: v18 :: v19 :: .int (nI m_40) :: .int 2 :: .int (nI j_4) :: .long xF_41 :: .int iFa :: v25 :: v26 :: .int iLv :: .int iWs :: v29 :: v30 :: v31 :: v32 :: v33 :: v34 :: []), zzI cy qmt 250 fMt]) hx hb hr hlocks (hP.sub [0, 1] rfl) (hD.sub [0, 1] (by decide +kernel) rfl) hS (by rw [hz_54r]) (g_177 bX6_look rfl)
              exact lp_37 ((250 - j_4) + 1) j_4 0 (Nat.lt_succ_self _) (⟨Nat.le_refl _, by omega⟩) rfl _ _ ls hP hD hS (lv_sub hl [0] rfl)
            · refine lv_if_eq (tgt := 234) hx hb dX6_look_141 (by decide +kernel) (fun _ => ?_) (fun h9 => absurd (by decide +kernel) h9)
              refine lv_aload_n hx hb (g_42 bX6_look rfl) rfl (lv_at hl 0 rfl) ?_
              refine lv_aload_n hx hb (g_42 bX6_look rfl) rfl (lv_at hl 0 rfl) ?_
              refine va_get (D := G) (ci := 5) (v := .ref qmt) (C := RX6) (T := TX6) (N := 35) hx hb hts iX_X6 hown hK hP 0 rfl rfl 7 (by decide +kernel) (hts _ m_t857) (fun _ h9 => h9) rfl (g_180 (v := 34) bX6_look rfl) ?_
              refine lv_aload_n hx hb (g_42 bX6_look rfl) rfl (lv_at hl 0 rfl) ?_
              refine va_get (D := G) (ci := 5) (v := .int (nI j_4)) (C := RX6) (T := TX6) (N := 35) hx hb hts iX_X6 hown hK hP 0 rfl rfl 20 (by decide +kernel) (hts _ m_t870) (fun _ h9 => h9) rfl (g_180 (v := 144) bX6_look rfl) ?_
              refine va_iald hx hb hK hP 1 0 rfl rfl (vp_in_nI (by omega) (by omega)) (g_46 bX6_look rfl) ?_
              refine lv_seti (v := fMt j_4) (congrArg fMt (nI_clamp (by omega))) ?_
              refine lv_bipush (v := 59) hx hb dX6_look_244 (by decide +kernel) ?_
              refine lv_icmp_ne (tgt := 253) hx hb dX6_look_246 (by decide +kernel) (fun c_56 => ?_) (fun c_56 => ?_)
              · refine lv_iconst (v := 4) hx hb (g_7 bX6_look rfl) (by decide +kernel) ?_
                refine va_put (D := G) (ci := 5) (v := .int 4) (ty := .int) (C := RX6) (T := TX6) (N := 35) hx hb hts iX_X6 tyX6 tyX6_ok nmX6 hown hK hP hD hS 0 rfl rfl 21 (by decide +kernel) (hts _ m_t871) (fun _ h9 => h9) rfl (by decide +kernel) rfl rfl (Nat.le_of_ble_eq_true rfl) (g_181 (v := 154) bX6_look rfl) (fun H locs => ?_)
                clear hP hD hS
                intro hP hD hS
                have hPD := pd_as [zzO qm 5 (v0 :: v1 :: v2 :: v3 :: v4 :: v5 :: v6 :: .ref qmt :: .int (nI kZ) :: v9 :: .int (nI (T_nb tA)) :: .ref qmB :: .int (nI (T_np tA)) :: .ref qmO :: .ref qmK :: .int iEn :: .int iTk :: .int (T_sd tA) :: v18 :: v19 :: .int (nI j_4) :: .int 4 :: .int (nI j_4) :: .long 0 :: .int iFa :: v25 :: v26 :: .int iLv :: .int iWs :: v29 :: v30 :: v31 :: v32 :: v33 :: v34 :: []), _] hP hD rfl
                clear hP hD
                obtain ⟨hP, hD⟩ := hPD
                refine lv_aload_n hx hb (g_42 bX6_look rfl) rfl (lv_at hl 0 rfl) ?_
                refine lv_dup hx hb (g_89 bX6_look rfl) rfl ?_
                refine va_get (D := G) (ci := 5) (v := .int (nI j_4)) (C := RX6) (T := TX6) (N := 35) hx hb hts iX_X6 hown hK hP 0 rfl rfl 20 (by decide +kernel) (hts _ m_t870) (fun _ h9 => h9) rfl (g_180 (v := 144) bX6_look rfl) ?_
                refine lv_iconst (v := 1) hx hb (g_4 bX6_look rfl) (by decide +kernel) ?_
                refine lv_iadd hx hb (g_96 bX6_look rfl) ?_
                refine lv_seti (v := nI (j_4 + 1)) (nI_1 _) ?_
                refine va_put (D := G) (ci := 5) (v := .int (nI (j_4 + 1))) (ty := .int) (C := RX6) (T := TX6) (N := 35) hx hb hts iX_X6 tyX6 tyX6_ok nmX6 hown hK hP hD hS 0 rfl rfl 20 (by decide +kernel) (hts _ m_t870) (fun _ h9 => h9) rfl (by decide +kernel) rfl rfl (Nat.le_of_ble_eq_true rfl) (g_181 (v := 144) bX6_look rfl) (fun H locs => ?_)
                clear hP hD hS
                intro hP hD hS
                have hPD := pd_as [zzO qm 5 (v0 :: v1 :: v2 :: v3 :: v4 :: v5 :: v6 :: .ref qmt :: .int (nI kZ) :: v9 :: .int (nI (T_nb tA)) :: .ref qmB :: .int (nI (T_np tA)) :: .ref qmO :: .ref qmK :: .int iEn :: .int iTk :: .int (T_sd tA) :: v18 :: v19 :: .int (nI (j_4 + 1)) :: .int 4 :: .int (nI j_4) :: .long 0 :: .int iFa :: v25 :: v26 :: .int iLv :: .int iWs :: v29 :: v30 :: v31 :: v32 :: v33 :: v34 :: []), _] hP hD rfl
                clear hP hD
                obtain ⟨hP, hD⟩ := hPD
                have hz_57r : lkF fMt kZ kAt = (j_4, 4, j_4 + 1, 0) := by rw [lk_4 hlt_9f hne_11 h_14 h_35 c_56]
                exact endV (u := [zzO qm 5 (v0 :: v1 :: v2 :: v3 :: v4 :: v5 :: v6 :: .ref qmt :: .int (nI kZ) :: v9 :: .int (nI (T_nb tA)) :: .ref qmB :: .int (nI (T_np tA)) :: .ref qmO :: .ref qmK :: .int iEn :: .int iTk :: .int (T_sd tA) :: v18 :: v19 :: .int (nI (j_4 + 1)) :: .int 4 :: .int (nI j_4) :: .long 0 :: .int iFa :: v25 :: v26 :: .int iLv :: .int iWs :: v29 :: v30 :: v31 :: v32 :: v33 :: v34 :: []), zzI cy qmt 250 fMt]) hx hb hr hlocks (hP.sub [0, 1] rfl) (hD.sub [0, 1] (by decide +kernel) rfl) hS (by rw [hz_57r]) (g_177 bX6_look rfl)
              · refine lv_iconst (v := 3) hx hb (g_6 bX6_look rfl) (by decide +kernel) ?_
                refine lv_goto (tgt := 254) hx hb dX6_look_250 (by decide +kernel) ?_
                refine va_put (D := G) (ci := 5) (v := .int 3) (ty := .int) (C := RX6) (T := TX6) (N := 35) hx hb hts iX_X6 tyX6 tyX6_ok nmX6 hown hK hP hD hS 0 rfl rfl 21 (by decide +kernel) (hts _ m_t871) (fun _ h9 => h9) rfl (by decide +kernel) rfl rfl (Nat.le_of_ble_eq_true rfl) (g_181 (v := 154) bX6_look rfl) (fun H locs => ?_)
                clear hP hD hS
                intro hP hD hS
                have hPD := pd_as [zzO qm 5 (v0 :: v1 :: v2 :: v3 :: v4 :: v5 :: v6 :: .ref qmt :: .int (nI kZ) :: v9 :: .int (nI (T_nb tA)) :: .ref qmB :: .int (nI (T_np tA)) :: .ref qmO :: .ref qmK :: .int iEn :: .int iTk :: .int (T_sd tA) :: v18 :: v19 :: .int (nI j_4) :: .int 3 :: .int (nI j_4) :: .long 0 :: .int iFa :: v25 :: v26 :: .int iLv :: .int iWs :: v29 :: v30 :: v31 :: v32 :: v33 :: v34 :: []), _] hP hD rfl
                clear hP hD
                obtain ⟨hP, hD⟩ := hPD
                refine lv_aload_n hx hb (g_42 bX6_look rfl) rfl (lv_at hl 0 rfl) ?_
                refine lv_dup hx hb (g_89 bX6_look rfl) rfl ?_
                refine va_get (D := G) (ci := 5) (v := .int (nI j_4)) (C := RX6) (T := TX6) (N := 35) hx hb hts iX_X6 hown hK hP 0 rfl rfl 20 (by decide +kernel) (hts _ m_t870) (fun _ h9 => h9) rfl (g_180 (v := 144) bX6_look rfl) ?_
                refine lv_iconst (v := 1) hx hb (g_4 bX6_look rfl) (by decide +kernel) ?_
                refine lv_iadd hx hb (g_96 bX6_look rfl) ?_
                refine lv_seti (v := nI (j_4 + 1)) (nI_1 _) ?_
                refine va_put (D := G) (ci := 5) (v := .int (nI (j_4 + 1))) (ty := .int) (C := RX6) (T := TX6) (N := 35) hx hb hts iX_X6 tyX6 tyX6_ok nmX6 hown hK hP hD hS 0 rfl rfl 20 (by decide +kernel) (hts _ m_t870) (fun _ h9 => h9) rfl (by decide +kernel) rfl rfl (Nat.le_of_ble_eq_true rfl) (g_181 (v := 144) bX6_look rfl) (fun H locs => ?_)
                clear hP hD hS
                intro hP hD hS
                have hPD := pd_as [zzO qm 5 (v0 :: v1 :: v2 :: v3 :: v4 :: v5 :: v6 :: .ref qmt :: .int (nI kZ) :: v9 :: .int (nI (T_nb tA)) :: .ref qmB :: .int (nI (T_np tA)) :: .ref qmO :: .ref qmK :: .int iEn :: .int iTk :: .int (T_sd tA) :: v18 :: v19 :: .int (nI (j_4 + 1)) :: .int 3 :: .int (nI j_4) :: .long 0 :: .int iFa :: v25 :: v26 :: .int iLv :: .int iWs :: v29 :: v30 :: v31 :: v32 :: v33 :: v34 :: []), _] hP hD rfl
                clear hP hD
                obtain ⟨hP, hD⟩ := hPD
                have hz_58r : lkF fMt kZ kAt = (j_4, 3, j_4 + 1, 0) := by rw [lk_3 hlt_9f hne_11 h_14 h_35 c_56]
                exact endV (u := [zzO qm 5 (v0 :: v1 :: v2 :: v3 :: v4 :: v5 :: v6 :: .ref qmt :: .int (nI kZ) :: v9 :: .int (nI (T_nb tA)) :: .ref qmB :: .int (nI (T_np tA)) :: .ref qmO :: .ref qmK :: .int iEn :: .int iTk :: .int (T_sd tA) :: v18 :: v19 :: .int (nI (j_4 + 1)) :: .int 3 :: .int (nI j_4) :: .long 0 :: .int iFa :: v25 :: v26 :: .int iLv :: .int iWs :: v29 :: v30 :: v31 :: v32 :: v33 :: v34 :: []), zzI cy qmt 250 fMt]) hx hb hr hlocks (hP.sub [0, 1] rfl) (hD.sub [0, 1] (by decide +kernel) rfl) hS (by rw [hz_58r]) (g_177 bX6_look rfl)
        · have hne_59 : j_4 = kZ := nI_inj (by omega) (by omega) c_10
          have hne_59r : lkF fMt kZ kAt = (j_4, 0, j_4, 0) := by rw [lkF, ← hlt_9f, if_pos hne_59]
          refine lv_aload_n hx hb (g_42 bX6_look rfl) rfl (lv_at hl 0 rfl) ?_
          refine lv_iconst (v := 0) hx hb (g_3 bX6_look rfl) (by decide +kernel) ?_
          refine va_put (D := G) (ci := 5) (v := .int 0) (ty := .int) (C := RX6) (T := TX6) (N := 35) hx hb hts iX_X6 tyX6 tyX6_ok nmX6 hown hK hP hD hS 0 rfl rfl 21 (by decide +kernel) (hts _ m_t871) (fun _ h9 => h9) rfl (by decide +kernel) rfl rfl (Nat.le_of_ble_eq_true rfl) (g_181 (v := 154) bX6_look rfl) (fun H locs => ?_)
          clear hP hD hS
          intro hP hD hS
          have hPD := pd_as [zzO qm 5 (v0 :: v1 :: v2 :: v3 :: v4 :: v5 :: v6 :: .ref qmt :: .int (nI kZ) :: v9 :: .int (nI (T_nb tA)) :: .ref qmB :: .int (nI (T_np tA)) :: .ref qmO :: .ref qmK :: .int iEn :: .int iTk :: .int (T_sd tA) :: v18 :: v19 :: .int (nI j_4) :: .int 0 :: .int (nI j_4) :: .long 0 :: .int iFa :: v25 :: v26 :: .int iLv :: .int iWs :: v29 :: v30 :: v31 :: v32 :: v33 :: v34 :: []), _] hP hD rfl
          clear hP hD
          obtain ⟨hP, hD⟩ := hPD
          refine lv_goto (tgt := 267) hx hb dX6_look_67 (by decide +kernel) ?_
          exact endV (u := [zzO qm 5 (v0 :: v1 :: v2 :: v3 :: v4 :: v5 :: v6 :: .ref qmt :: .int (nI kZ) :: v9 :: .int (nI (T_nb tA)) :: .ref qmB :: .int (nI (T_np tA)) :: .ref qmO :: .ref qmK :: .int iEn :: .int iTk :: .int (T_sd tA) :: v18 :: v19 :: .int (nI j_4) :: .int 0 :: .int (nI j_4) :: .long 0 :: .int iFa :: v25 :: v26 :: .int iLv :: .int iWs :: v29 :: v30 :: v31 :: v32 :: v33 :: v34 :: []), zzI cy qmt 250 fMt]) hx hb hr hlocks (hP.sub [0, 1] rfl) (hD.sub [0, 1] (by decide +kernel) rfl) hS (by rw [hne_59r]) (g_177 bX6_look rfl)
      · have hlt_60 : j_4 < kZ := lp_lt rfl rfl (by omega) (by omega) c_8
        refine lv_aload_n hx hb (g_42 bX6_look rfl) rfl (lv_at hl 0 rfl) ?_
        refine va_get (D := G) (ci := 5) (v := .ref qmt) (C := RX6) (T := TX6) (N := 35) hx hb hts iX_X6 hown hK hP 0 rfl rfl 7 (by decide +kernel) (hts _ m_t857) (fun _ h9 => h9) rfl (g_180 (v := 34) bX6_look rfl) ?_
        refine lv_aload_n hx hb (g_42 bX6_look rfl) rfl (lv_at hl 0 rfl) ?_
        refine va_get (D := G) (ci := 5) (v := .int (nI j_4)) (C := RX6) (T := TX6) (N := 35) hx hb hts iX_X6 hown hK hP 0 rfl rfl 20 (by decide +kernel) (hts _ m_t870) (fun _ h9 => h9) rfl (g_180 (v := 144) bX6_look rfl) ?_
        refine va_iald hx hb hK hP 1 0 rfl rfl (vp_in_nI (by omega) (by omega)) (g_46 bX6_look rfl) ?_
        refine lv_seti (v := fMt j_4) (congrArg fMt (nI_clamp (by omega))) ?_
        refine lv_bipush (v := 32) hx hb dX6_look_20 (by decide +kernel) ?_
        refine lv_icmp_ne (tgt := 38) hx hb dX6_look_22 (by decide +kernel) (fun c_61 => ?_) (fun c_61 => ?_)
        · have hlt_62f : j_4 = skF fMt (kZ - kAt) kAt := by rw [← hT_6, show kZ - j_4 = kZ - (j_4 + 1) + 1 by omega, sk_no c_61]
          refine lv_aload_n hx hb (g_42 bX6_look rfl) rfl (lv_at hl 0 rfl) ?_
          refine lv_aload_n hx hb (g_42 bX6_look rfl) rfl (lv_at hl 0 rfl) ?_
          refine va_get (D := G) (ci := 5) (v := .int (nI j_4)) (C := RX6) (T := TX6) (N := 35) hx hb hts iX_X6 hown hK hP 0 rfl rfl 20 (by decide +kernel) (hts _ m_t870) (fun _ h9 => h9) rfl (g_180 (v := 144) bX6_look rfl) ?_
          refine va_put (D := G) (ci := 5) (v := .int (nI j_4)) (ty := .int) (C := RX6) (T := TX6) (N := 35) hx hb hts iX_X6 tyX6 tyX6_ok nmX6 hown hK hP hD hS 0 rfl rfl 22 (by decide +kernel) (hts _ m_t872) (fun _ h9 => h9) rfl (by decide +kernel) rfl rfl (Nat.le_of_ble_eq_true rfl) (g_181 (v := 147) bX6_look rfl) (fun H locs => ?_)
          clear hP hD hS
          intro hP hD hS
          have hPD := pd_as [_, _] hP hD rfl
          clear hP hD
          obtain ⟨hP, hD⟩ := hPD
          refine lv_aload_n hx hb (g_42 bX6_look rfl) rfl (lv_at hl 0 rfl) ?_
          refine lv_lconst (v := 0) hx hb (g_9 bX6_look rfl) (by decide +kernel) ?_
          refine va_put (D := G) (ci := 5) (v := .long 0) (ty := .long) (C := RX6) (T := TX6) (N := 35) hx hb hts iX_X6 tyX6 tyX6_ok nmX6 hown hK hP hD hS 0 rfl rfl 23 (by decide +kernel) (hts _ m_t873) (fun _ h9 => h9) rfl (by decide +kernel) rfl rfl (Nat.le_of_ble_eq_true rfl) (g_181 (v := 150) bX6_look rfl) (fun H locs => ?_)
          clear hP hD hS
          intro hP hD hS
          have hPD := pd_as [_, _] hP hD rfl
          clear hP hD
          obtain ⟨hP, hD⟩ := hPD
          refine lv_aload_n hx hb (g_42 bX6_look rfl) rfl (lv_at hl 0 rfl) ?_
          refine va_get (D := G) (ci := 5) (v := .int (nI j_4)) (C := RX6) (T := TX6) (N := 35) hx hb hts iX_X6 hown hK hP 0 rfl rfl 20 (by decide +kernel) (hts _ m_t870) (fun _ h9 => h9) rfl (g_180 (v := 144) bX6_look rfl) ?_
          refine lv_aload_n hx hb (g_42 bX6_look rfl) rfl (lv_at hl 0 rfl) ?_
          refine va_get (D := G) (ci := 5) (v := .int (nI kZ)) (C := RX6) (T := TX6) (N := 35) hx hb hts iX_X6 hown hK hP 0 rfl rfl 8 (by decide +kernel) (hts _ m_t858) (fun _ h9 => h9) rfl (g_180 (v := 141) bX6_look rfl) ?_
          refine lv_icmp_ne (tgt := 70) hx hb dX6_look_59 (by decide +kernel) (fun c_63 => ?_) (fun c_63 => ?_)
          · have hne_64 : j_4 < kZ := Nat.lt_of_le_of_ne (by omega) (fun q => c_63 (congrArg nI q))
            refine lv_aload_n hx hb (g_42 bX6_look rfl) rfl (lv_at hl 0 rfl) ?_
            refine va_get (D := G) (ci := 5) (v := .ref qmt) (C := RX6) (T := TX6) (N := 35) hx hb hts iX_X6 hown hK hP 0 rfl rfl 7 (by decide +kernel) (hts _ m_t857) (fun _ h9 => h9) rfl (g_180 (v := 34) bX6_look rfl) ?_
            refine lv_aload_n hx hb (g_42 bX6_look rfl) rfl (lv_at hl 0 rfl) ?_
            refine va_get (D := G) (ci := 5) (v := .int (nI j_4)) (C := RX6) (T := TX6) (N := 35) hx hb hts iX_X6 hown hK hP 0 rfl rfl 20 (by decide +kernel) (hts _ m_t870) (fun _ h9 => h9) rfl (g_180 (v := 144) bX6_look rfl) ?_
            refine va_iald hx hb hK hP 1 0 rfl rfl (vp_in_nI (by omega) (by omega)) (g_46 bX6_look rfl) ?_
            refine lv_seti (v := fMt j_4) (congrArg fMt (nI_clamp (by omega))) ?_
            refine kRi (rS (As := [.int (fMt j_4)]) (rest := []) ⟨hx, hb, hml, hown, hts⟩ (c_X6_isLetter l G cy (fMt j_4)) L_X6_157 (preRS hN hP [] rfl) rfl ⟨Nat.le_of_ble_eq_true rfl, Nat.le_of_ble_eq_true rfl⟩ hl.1 (Nat.le_of_ble_eq_true rfl) (g_184 (v := 157) bX6_look rfl) ⟨Nat.le_of_ble_eq_true rfl, Nat.le_of_ble_eq_true rfl⟩) (fun r_65 h_66 => ?_)
            rcases h_66 with ⟨rfl, h_67⟩ | ⟨rfl, h_67⟩
            · refine lv_if_eq (tgt := 129) hx hb dX6_look_82 (by decide +kernel) (fun h9 => absurd h9 (by decide +kernel)) (fun _ => ?_)
              refine lv_aload_n hx hb (g_42 bX6_look rfl) rfl (lv_at hl 0 rfl) ?_
              refine lv_iconst (v := 1) hx hb (g_4 bX6_look rfl) (by decide +kernel) ?_
              refine va_put (D := G) (ci := 5) (v := .int 1) (ty := .int) (C := RX6) (T := TX6) (N := 35) hx hb hts iX_X6 tyX6 tyX6_ok nmX6 hown hK hP hD hS 0 rfl rfl 21 (by decide +kernel) (hts _ m_t871) (fun _ h9 => h9) rfl (by decide +kernel) rfl rfl (Nat.le_of_ble_eq_true rfl) (g_181 (v := 154) bX6_look rfl) (fun H locs => ?_)
              clear hP hD hS
              intro hP hD hS
              have hPD := pd_as [_, _] hP hD rfl
              clear hP hD
              obtain ⟨hP, hD⟩ := hPD
              have lp_69 : ∀ (n_70 : Nat) (m_72 : Nat), 250 - m_72 < n_70 → j_4 ≤ m_72 ∧ m_72 ≤ kZ → wdF zlt fMt (kZ - m_72) m_72 = wdF zlt fMt (kZ - j_4) j_4 → ∀ (H : Heap) (locs : List Loc) (ls : Array Slot), va_P G CL [zzO qm 5 (v0 :: v1 :: v2 :: v3 :: v4 :: v5 :: v6 :: .ref qmt :: .int (nI kZ) :: v9 :: .int (nI (T_nb tA)) :: .ref qmB :: .int (nI (T_np tA)) :: .ref qmO :: .ref qmK :: .int iEn :: .int iTk :: .int (T_sd tA) :: v18 :: v19 :: .int (nI m_72) :: .int 1 :: .int (nI j_4) :: .long 0 :: .int iFa :: v25 :: v26 :: .int iLv :: .int iWs :: v29 :: v30 :: v31 :: v32 :: v33 :: v34 :: []), zzI cy qmt 250 fMt] H → va_D A [zzO qm 5 (v0 :: v1 :: v2 :: v3 :: v4 :: v5 :: v6 :: .ref qmt :: .int (nI kZ) :: v9 :: .int (nI (T_nb tA)) :: .ref qmB :: .int (nI (T_np tA)) :: .ref qmO :: .ref qmK :: .int iEn :: .int iTk :: .int (T_sd tA) :: v18 :: v19 :: .int (nI m_72) :: .int 1 :: .int (nI j_4) :: .long 0 :: .int iFa :: v25 :: v26 :: .int iLv :: .int iWs :: v29 :: v30 :: v31 :: v32 :: v33 :: v34 :: []), zzI cy qmt 250 fMt] → va_S A s.heap H locs → lv_has ls 1 [(0, .ref qm)] → W p l e (Rm 2 0 0) s m (List.toArray (α := Value) [.ref qm]) below meth c H locs 0 0 (MQ below ((Wv G (fun u => u = [zzO qm 5 (v0 :: v1 :: v2 :: v3 :: v4 :: v5 :: v6 :: .ref qmt :: .int (nI kZ) :: v9 :: .int (nI (T_nb tA)) :: .ref qmB :: .int (nI (T_np tA)) :: .ref qmO :: .ref qmK :: .int iEn :: .int iTk :: .int (T_sd tA) :: v18 :: v19 :: .int (nI (lkF fMt kZ kAt).2.2.1) :: .int ((lkF fMt kZ kAt).2.1) :: .int (nI (lkF fMt kZ kAt).1) :: .long ((lkF fMt kZ kAt).2.2.2) :: .int iFa :: v25 :: v26 :: .int iLv :: .int iWs :: v29 :: v30 :: v31 :: v32 :: v33 :: v34 :: []), zzI cy qmt 250 fMt])) A) (List.toArray (α := Value) [.ref qm]) s 0 0 A) (F0 m 90 ls []) := by
                intro n_70
                induction n_70 with
                | zero => intro m_72 hm9; exact absurd hm9 (Nat.not_lt_zero _)
                | succ n_70 ih_71 =>
                  intro m_72 hm_75 hm_75 hU_74 H locs ls hP hD hS hl
                  refine lv_aload_n hx hb (g_42 bX6_look rfl) rfl (lv_at hl 0 rfl) ?_
                  refine va_get (D := G) (ci := 5) (v := .int (nI m_72)) (C := RX6) (T := TX6) (N := 35) hx hb hts iX_X6 hown hK hP 0 rfl rfl 20 (by decide +kernel) (hts _ m_t870) (fun _ h9 => h9) rfl (g_180 (v := 144) bX6_look rfl) ?_
                  refine lv_aload_n hx hb (g_42 bX6_look rfl) rfl (lv_at hl 0 rfl) ?_
                  refine va_get (D := G) (ci := 5) (v := .int (nI kZ)) (C := RX6) (T := TX6) (N := 35) hx hb hts iX_X6 hown hK hP 0 rfl rfl 8 (by decide +kernel) (hts _ m_t858) (fun _ h9 => h9) rfl (g_180 (v := 141) bX6_look rfl) ?_
                  refine lv_icmp_ge (tgt := 267) hx hb dX6_look_98 (by decide +kernel) (fun c_76 => ?_) (fun c_76 => ?_)
                  · have hlt_77 : m_72 = kZ := Nat.le_antisymm (by omega) (lp_ge rfl rfl (by omega) (by omega) c_76)
                    have hlt_77r : lkF fMt kZ kAt = (j_4, 1, m_72, 0) := by rw [lk_w hlt_62f hne_64 h_67, ← hU_74, show kZ - m_72 = 0 by omega]; rfl
                    exact endV (u := [zzO qm 5 (v0 :: v1 :: v2 :: v3 :: v4 :: v5 :: v6 :: .ref qmt :: .int (nI kZ) :: v9 :: .int (nI (T_nb tA)) :: .ref qmB :: .int (nI (T_np tA)) :: .ref qmO :: .ref qmK :: .int iEn :: .int iTk :: .int (T_sd tA) :: v18 :: v19 :: .int (nI m_72) :: .int 1 :: .int (nI j_4) :: .long 0 :: .int iFa :: v25 :: v26 :: .int iLv :: .int iWs :: v29 :: v30 :: v31 :: v32 :: v33 :: v34 :: []), zzI cy qmt 250 fMt]) hx hb hr hlocks (hP.sub [0, 1] rfl) (hD.sub [0, 1] (by decide +kernel) rfl) hS (by rw [hlt_77r]) (g_177 bX6_look rfl)
                  · have hlt_78 : m_72 < kZ := lp_lt rfl rfl (by omega) (by omega) c_76
                    refine lv_aload_n hx hb (g_42 bX6_look rfl) rfl (lv_at hl 0 rfl) ?_
                    refine va_get (D := G) (ci := 5) (v := .ref qmt) (C := RX6) (T := TX6) (N := 35) hx hb hts iX_X6 hown hK hP 0 rfl rfl 7 (by decide +kernel) (hts _ m_t857) (fun _ h9 => h9) rfl (g_180 (v := 34) bX6_look rfl) ?_
                    refine lv_aload_n hx hb (g_42 bX6_look rfl) rfl (lv_at hl 0 rfl) ?_
                    refine va_get (D := G) (ci := 5) (v := .int (nI m_72)) (C := RX6) (T := TX6) (N := 35) hx hb hts iX_X6 hown hK hP 0 rfl rfl 20 (by decide +kernel) (hts _ m_t870) (fun _ h9 => h9) rfl (g_180 (v := 144) bX6_look rfl) ?_
                    refine va_iald hx hb hK hP 1 0 rfl rfl (vp_in_nI (by omega) (by omega)) (g_46 bX6_look rfl) ?_
                    refine lv_seti (v := fMt m_72) (congrArg fMt (nI_clamp (by omega))) ?_
                    refine kRi (rS (As := [.int (fMt m_72)]) (rest := []) ⟨hx, hb, hml, hown, hts⟩ (c_X6_isLetter l G cy (fMt m_72)) L_X6_157 (preRS hN hP [] rfl) rfl ⟨Nat.le_of_ble_eq_true rfl, Nat.le_of_ble_eq_true rfl⟩ hl.1 (Nat.le_of_ble_eq_true rfl) (g_184 (v := 157) bX6_look rfl) ⟨Nat.le_of_ble_eq_true rfl, Nat.le_of_ble_eq_true rfl⟩) (fun r_79 h_80 => ?_)
                    rcases h_80 with ⟨rfl, h_81⟩ | ⟨rfl, h_81⟩
                    · refine lv_if_eq (tgt := 267) hx hb dX6_look_113 (by decide +kernel) (fun h9 => absurd h9 (by decide +kernel)) (fun _ => ?_)
                      refine lv_aload_n hx hb (g_42 bX6_look rfl) rfl (lv_at hl 0 rfl) ?_
                      refine lv_dup hx hb (g_89 bX6_look rfl) rfl ?_
                      refine va_get (D := G) (ci := 5) (v := .int (nI m_72)) (C := RX6) (T := TX6) (N := 35) hx hb hts iX_X6 hown hK hP 0 rfl rfl 20 (by decide +kernel) (hts _ m_t870) (fun _ h9 => h9) rfl (g_180 (v := 144) bX6_look rfl) ?_
                      refine lv_iconst (v := 1) hx hb (g_4 bX6_look rfl) (by decide +kernel) ?_
                      refine lv_iadd hx hb (g_96 bX6_look rfl) ?_
                      refine lv_seti (v := nI (m_72 + 1)) (nI_1 _) ?_
                      refine va_put (D := G) (ci := 5) (v := .int (nI (m_72 + 1))) (ty := .int) (C := RX6) (T := TX6) (N := 35) hx hb hts iX_X6 tyX6 tyX6_ok nmX6 hown hK hP hD hS 0 rfl rfl 20 (by decide +kernel) (hts _ m_t870) (fun _ h9 => h9) rfl (by decide +kernel) rfl rfl (Nat.le_of_ble_eq_true rfl) (g_181 (v := 144) bX6_look rfl) (fun H locs => ?_)
                      clear hP hD hS
                      intro hP hD hS
                      have hPD := pd_as [zzO qm 5 (v0 :: v1 :: v2 :: v3 :: v4 :: v5 :: v6 :: .ref qmt :: .int (nI kZ) :: v9 :: .int (nI (T_nb tA)) :: .ref qmB :: .int (nI (T_np tA)) :: .ref qmO :: .ref qmK :: .int iEn :: .int iTk :: .int (T_sd tA) :: v18 :: v19 :: .int (nI (m_72 + 1)) :: .int 1 :: .int (nI j_4) :: .long 0 :: .int iFa :: v25 :: v26 :: .int iLv :: .int iWs :: v29 :: v30 :: v31 :: v32 :: v33 :: v34 :: []), _] hP hD rfl
                      clear hP hD
                      obtain ⟨hP, hD⟩ := hPD
                      refine lv_goto (tgt := 90) hx hb dX6_look_126 (by decide +kernel) ?_
                      exact ih_71 (m_72 + 1) (by omega) (⟨by omega, by omega⟩) (by rw [← hU_74, show kZ - m_72 = kZ - (m_72 + 1) + 1 by omega, wd_go h_81]) _ _ _ hP hD hS (lv_sub hl [0] rfl)
                    · refine lv_if_eq (tgt := 267) hx hb dX6_look_113 (by decide +kernel) (fun _ => ?_) (fun h9 => absurd (by decide +kernel) h9)
                      have hz_84r : lkF fMt kZ kAt = (j_4, 1, m_72, 0) := by rw [lk_w hlt_62f hne_64 h_67, ← hU_74, show kZ - m_72 = kZ - (m_72 + 1) + 1 by omega, wd_no h_81]
                      exact endV (u := [zzO qm 5 (v0 :: v1 :: v2 :: v3 :: v4 :: v5 :: v6 :: .ref qmt :: .int (nI kZ) :: v9 :: .int (nI (T_nb tA)) :: .ref qmB :: .int (nI (T_np tA)) :: .ref qmO :: .ref qmK :: .int iEn :: .int iTk :: .int (T_sd tA) :: v18 :: v19 :: .int (nI m_72) :: .int 1 :: .int (nI j_4) :: .long 0 :: .int iFa :: v25 :: v26 :: .int iLv :: .int iWs :: v29 :: v30 :: v31 :: v32 :: v33 :: v34 :: []), zzI cy qmt 250 fMt]) hx hb hr hlocks (hP.sub [0, 1] rfl) (hD.sub [0, 1] (by decide +kernel) rfl) hS (by rw [hz_84r]) (g_177 bX6_look rfl)
              exact lp_69 ((250 - j_4) + 1) j_4 (Nat.lt_succ_self _) (⟨Nat.le_refl _, by omega⟩) rfl _ _ ls hP hD hS (lv_sub hl [0] rfl)
            · refine lv_if_eq (tgt := 129) hx hb dX6_look_82 (by decide +kernel) (fun _ => ?_) (fun h9 => absurd (by decide +kernel) h9)
              refine lv_aload_n hx hb (g_42 bX6_look rfl) rfl (lv_at hl 0 rfl) ?_
              refine va_get (D := G) (ci := 5) (v := .ref qmt) (C := RX6) (T := TX6) (N := 35) hx hb hts iX_X6 hown hK hP 0 rfl rfl 7 (by decide +kernel) (hts _ m_t857) (fun _ h9 => h9) rfl (g_180 (v := 34) bX6_look rfl) ?_
              refine lv_aload_n hx hb (g_42 bX6_look rfl) rfl (lv_at hl 0 rfl) ?_
              refine va_get (D := G) (ci := 5) (v := .int (nI j_4)) (C := RX6) (T := TX6) (N := 35) hx hb hts iX_X6 hown hK hP 0 rfl rfl 20 (by decide +kernel) (hts _ m_t870) (fun _ h9 => h9) rfl (g_180 (v := 144) bX6_look rfl) ?_
              refine va_iald hx hb hK hP 1 0 rfl rfl (vp_in_nI (by omega) (by omega)) (g_46 bX6_look rfl) ?_
              refine lv_seti (v := fMt j_4) (congrArg fMt (nI_clamp (by omega))) ?_
              refine kRi (rS (As := [.int (fMt j_4)]) (rest := []) ⟨hx, hb, hml, hown, hts⟩ (c_X6_isDigit l G cy (fMt j_4)) L_X6_160 (preRS hN hP [] rfl) rfl ⟨Nat.le_of_ble_eq_true rfl, Nat.le_of_ble_eq_true rfl⟩ hl.1 (Nat.le_of_ble_eq_true rfl) (g_184 (v := 160) bX6_look rfl) ⟨Nat.le_of_ble_eq_true rfl, Nat.le_of_ble_eq_true rfl⟩) (fun r_86 h_87 => ?_)
              rcases h_87 with ⟨rfl, h_88⟩ | ⟨rfl, h_88⟩
              · refine lv_if_eq (tgt := 234) hx hb dX6_look_141 (by decide +kernel) (fun h9 => absurd h9 (by decide +kernel)) (fun _ => ?_)
                refine lv_aload_n hx hb (g_42 bX6_look rfl) rfl (lv_at hl 0 rfl) ?_
                refine lv_iconst (v := 2) hx hb (g_5 bX6_look rfl) (by decide +kernel) ?_
                refine va_put (D := G) (ci := 5) (v := .int 2) (ty := .int) (C := RX6) (T := TX6) (N := 35) hx hb hts iX_X6 tyX6 tyX6_ok nmX6 hown hK hP hD hS 0 rfl rfl 21 (by decide +kernel) (hts _ m_t871) (fun _ h9 => h9) rfl (by decide +kernel) rfl rfl (Nat.le_of_ble_eq_true rfl) (g_181 (v := 154) bX6_look rfl) (fun H locs => ?_)
                clear hP hD hS
                intro hP hD hS
                have hPD := pd_as [_, _] hP hD rfl
                clear hP hD
                obtain ⟨hP, hD⟩ := hPD
                have lp_90 : ∀ (n_91 : Nat) (m_93 : Nat) (xF_94 : Int64), 250 - m_93 < n_91 → j_4 ≤ m_93 ∧ m_93 ≤ kZ → dgF fMt j_4 (kZ - m_93) m_93 xF_94 = dgF fMt j_4 (kZ - j_4) j_4 0 → ∀ (H : Heap) (locs : List Loc) (ls : Array Slot), va_P G CL [zzO qm 5 (v0 :: v1 :: v2 :: v3 :: v4 :: v5 :: v6 :: .ref qmt :: .int (nI kZ) :: v9 :: .int (nI (T_nb tA)) :: .ref qmB :: .int (nI (T_np tA)) :: .ref qmO :: .ref qmK :: .int iEn :: .int iTk :: .int (T_sd tA) :: v18 :: v19 :: .int (nI m_93) :: .int 2 :: .int (nI j_4) :: .long xF_94 :: .int iFa :: v25 :: v26 :: .int iLv :: .int iWs :: v29 :: v30 :: v31 :: v32 :: v33 :: v34 :: []), zzI cy qmt 250 fMt] H → va_D A [zzO qm 5 (v0 :: v1 :: v2 :: v3 :: v4 :: v5 :: v6 :: .ref qmt :: .int (nI kZ) :: v9 :: .int (nI (T_nb tA)) :: .ref qmB :: .int (nI (T_np tA)) :: .ref qmO :: .ref qmK :: .int iEn :: .int iTk :: .int (T_sd tA) :: v18 :: v19 :: .int (nI m_93) :: .int 2 :: .int (nI j_4) :: .long xF_94 :: .int iFa :: v25 :: v26 :: .int iLv :: .int iWs :: v29 :: v30 :: v31 :: v32 :: v33 :: v34 :: []), zzI cy qmt 250 fMt] → va_S A s.heap H locs → lv_has ls 1 [(0, .ref qm)] → W p l e (Rm 2 0 0) s m (List.toArray (α := Value) [.ref qm]) below meth c H locs 0 0 (MQ below ((Wv G (fun u => u = [zzO qm 5 (v0 :: v1 :: v2 :: v3 :: v4 :: v5 :: v6 :: .ref qmt :: .int (nI kZ) :: v9 :: .int (nI (T_nb tA)) :: .ref qmB :: .int (nI (T_np tA)) :: .ref qmO :: .ref qmK :: .int iEn :: .int iTk :: .int (T_sd tA) :: v18 :: v19 :: .int (nI (lkF fMt kZ kAt).2.2.1) :: .int ((lkF fMt kZ kAt).2.1) :: .int (nI (lkF fMt kZ kAt).1) :: .long ((lkF fMt kZ kAt).2.2.2) :: .int iFa :: v25 :: v26 :: .int iLv :: .int iWs :: v29 :: v30 :: v31 :: v32 :: v33 :: v34 :: []), zzI cy qmt 250 fMt])) A) (List.toArray (α := Value) [.ref qm]) s 0 0 A) (F0 m 149 ls []) := by
                  intro n_91
                  induction n_91 with
                  | zero => intro m_93 xF_94 hm9; exact absurd hm9 (Nat.not_lt_zero _)
                  | succ n_91 ih_92 =>
                    intro m_93 xF_94 hm_97 hm_97 hU_96 H locs ls hP hD hS hl
                    refine lv_aload_n hx hb (g_42 bX6_look rfl) rfl (lv_at hl 0 rfl) ?_
                    refine va_get (D := G) (ci := 5) (v := .int (nI m_93)) (C := RX6) (T := TX6) (N := 35) hx hb hts iX_X6 hown hK hP 0 rfl rfl 20 (by decide +kernel) (hts _ m_t870) (fun _ h9 => h9) rfl (g_180 (v := 144) bX6_look rfl) ?_
                    refine lv_aload_n hx hb (g_42 bX6_look rfl) rfl (lv_at hl 0 rfl) ?_
                    refine va_get (D := G) (ci := 5) (v := .int (nI kZ)) (C := RX6) (T := TX6) (N := 35) hx hb hts iX_X6 hown hK hP 0 rfl rfl 8 (by decide +kernel) (hts _ m_t858) (fun _ h9 => h9) rfl (g_180 (v := 141) bX6_look rfl) ?_
                    refine lv_icmp_ge (tgt := 267) hx hb dX6_look_157 (by decide +kernel) (fun c_98 => ?_) (fun c_98 => ?_)
                    · have hlt_99 : m_93 = kZ := Nat.le_antisymm (by omega) (lp_ge rfl rfl (by omega) (by omega) c_98)
                      have hlt_99r : lkF fMt kZ kAt = (j_4, 2, m_93, xF_94) := by rw [lk_d hlt_62f hne_64 h_67 h_88, ← hU_96, show kZ - m_93 = 0 by omega]; rfl
                      exact endV (u := [zzO qm 5 (v0 :: v1 :: v2 :: v3 :: v4 :: v5 :: v6 :: .ref qmt :: .int (nI kZ) :: v9 :: .int (nI (T_nb tA)) :: .ref qmB :: .int (nI (T_np tA)) :: .ref qmO :: .ref qmK :: .int iEn :: .int iTk :: .int (T_sd tA) :: v18 :: v19 :: .int (nI m_93) :: .int 2 :: .int (nI j_4) :: .long xF_94 :: .int iFa :: v25 :: v26 :: .int iLv :: .int iWs :: v29 :: v30 :: v31 :: v32 :: v33 :: v34 :: []), zzI cy qmt 250 fMt]) hx hb hr hlocks (hP.sub [0, 1] rfl) (hD.sub [0, 1] (by decide +kernel) rfl) hS (by rw [hlt_99r]) (g_177 bX6_look rfl)
                    · have hlt_100 : m_93 < kZ := lp_lt rfl rfl (by omega) (by omega) c_98
                      refine lv_aload_n hx hb (g_42 bX6_look rfl) rfl (lv_at hl 0 rfl) ?_
                      refine va_get (D := G) (ci := 5) (v := .ref qmt) (C := RX6) (T := TX6) (N := 35) hx hb hts iX_X6 hown hK hP 0 rfl rfl 7 (by decide +kernel) (hts _ m_t857) (fun _ h9 => h9) rfl (g_180 (v := 34) bX6_look rfl) ?_
                      refine lv_aload_n hx hb (g_42 bX6_look rfl) rfl (lv_at hl 0 rfl) ?_
                      refine va_get (D := G) (ci := 5) (v := .int (nI m_93)) (C := RX6) (T := TX6) (N := 35) hx hb hts iX_X6 hown hK hP 0 rfl rfl 20 (by decide +kernel) (hts _ m_t870) (fun _ h9 => h9) rfl (g_180 (v := 144) bX6_look rfl) ?_
                      refine va_iald hx hb hK hP 1 0 rfl rfl (vp_in_nI (by omega) (by omega)) (g_46 bX6_look rfl) ?_
                      refine lv_seti (v := fMt m_93) (congrArg fMt (nI_clamp (by omega))) ?_
                      refine kRi (rS (As := [.int (fMt m_93)]) (rest := []) ⟨hx, hb, hml, hown, hts⟩ (c_X6_isDigit l G cy (fMt m_93)) L_X6_160 (preRS hN hP [] rfl) rfl ⟨Nat.le_of_ble_eq_true rfl, Nat.le_of_ble_eq_true rfl⟩ hl.1 (Nat.le_of_ble_eq_true rfl) (g_184 (v := 160) bX6_look rfl) ⟨Nat.le_of_ble_eq_true rfl, Nat.le_of_ble_eq_true rfl⟩) (fun r_101 h_102 => ?_)
                      rcases h_102 with ⟨rfl, h_103⟩ | ⟨rfl, h_103⟩
                      · refine lv_if_eq (tgt := 267) hx hb dX6_look_172 (by decide +kernel) (fun h9 => absurd h9 (by decide +kernel)) (fun _ => ?_)
                        refine lv_aload_n hx hb (g_42 bX6_look rfl) rfl (lv_at hl 0 rfl) ?_
                        refine lv_aload_n hx hb (g_42 bX6_look rfl) rfl (lv_at hl 0 rfl) ?_
                        refine va_get (D := G) (ci := 5) (v := .int (nI m_93)) (C := RX6) (T := TX6) (N := 35) hx hb hts iX_X6 hown hK hP 0 rfl rfl 20 (by decide +kernel) (hts _ m_t870) (fun _ h9 => h9) rfl (g_180 (v := 144) bX6_look rfl) ?_
                        refine lv_aload_n hx hb (g_42 bX6_look rfl) rfl (lv_at hl 0 rfl) ?_
                        refine va_get (D := G) (ci := 5) (v := .int (nI j_4)) (C := RX6) (T := TX6) (N := 35) hx hb hts iX_X6 hown hK hP 0 rfl rfl 22 (by decide +kernel) (hts _ m_t872) (fun _ h9 => h9) rfl (g_180 (v := 147) bX6_look rfl) ?_
                        refine lv_isub hx hb (g_100 bX6_look rfl) ?_
                        refine lv_iconst (v := 3) hx hb (g_6 bX6_look rfl) (by decide +kernel) ?_
                        refine lv_icmp_ge (tgt := 215) hx hb dX6_look_186 (by decide +kernel) (fun c_105 => ?_) (fun c_105 => ?_)
                        · refine lv_ldc2 hx hb hown (hts _ m_t1139) (g_20 (v := 165) bX6_look rfl) ?_
                          refine va_put (D := G) (ci := 5) (v := .long 100000) (ty := .long) (C := RX6) (T := TX6) (N := 35) hx hb hts iX_X6 tyX6 tyX6_ok nmX6 hown hK hP hD hS 0 rfl rfl 23 (by decide +kernel) (hts _ m_t873) (fun _ h9 => h9) rfl (by decide +kernel) rfl rfl (Nat.le_of_ble_eq_true rfl) (g_181 (v := 150) bX6_look rfl) (fun H locs => ?_)
                          clear hP hD hS
                          intro hP hD hS
                          have hPD := pd_as [zzO qm 5 (v0 :: v1 :: v2 :: v3 :: v4 :: v5 :: v6 :: .ref qmt :: .int (nI kZ) :: v9 :: .int (nI (T_nb tA)) :: .ref qmB :: .int (nI (T_np tA)) :: .ref qmO :: .ref qmK :: .int iEn :: .int iTk :: .int (T_sd tA) :: v18 :: v19 :: .int (nI m_93) :: .int 2 :: .int (nI j_4) :: .long 100000 :: .int iFa :: v25 :: v26 :: .int iLv :: .int iWs :: v29 :: v30 :: v31 :: v32 :: v33 :: v34 :: []), _] hP hD rfl
                          clear hP hD
                          obtain ⟨hP, hD⟩ := hPD
                          refine lv_aload_n hx hb (g_42 bX6_look rfl) rfl (lv_at hl 0 rfl) ?_
                          refine lv_dup hx hb (g_89 bX6_look rfl) rfl ?_
                          refine va_get (D := G) (ci := 5) (v := .int (nI m_93)) (C := RX6) (T := TX6) (N := 35) hx hb hts iX_X6 hown hK hP 0 rfl rfl 20 (by decide +kernel) (hts _ m_t870) (fun _ h9 => h9) rfl (g_180 (v := 144) bX6_look rfl) ?_
                          refine lv_iconst (v := 1) hx hb (g_4 bX6_look rfl) (by decide +kernel) ?_
                          refine lv_iadd hx hb (g_96 bX6_look rfl) ?_
                          refine lv_seti (v := nI (m_93 + 1)) (nI_1 _) ?_
                          refine va_put (D := G) (ci := 5) (v := .int (nI (m_93 + 1))) (ty := .int) (C := RX6) (T := TX6) (N := 35) hx hb hts iX_X6 tyX6 tyX6_ok nmX6 hown hK hP hD hS 0 rfl rfl 20 (by decide +kernel) (hts _ m_t870) (fun _ h9 => h9) rfl (by decide +kernel) rfl rfl (Nat.le_of_ble_eq_true rfl) (g_181 (v := 144) bX6_look rfl) (fun H locs => ?_)
                          clear hP hD hS
                          intro hP hD hS
                          have hPD := pd_as [zzO qm 5 (v0 :: v1 :: v2 :: v3 :: v4 :: v5 :: v6 :: .ref qmt :: .int (nI kZ) :: v9 :: .int (nI (T_nb tA)) :: .ref qmB :: .int (nI (T_np tA)) :: .ref qmO :: .ref qmK :: .int iEn :: .int iTk :: .int (T_sd tA) :: v18 :: v19 :: .int (nI (m_93 + 1)) :: .int 2 :: .int (nI j_4) :: .long 100000 :: .int iFa :: v25 :: v26 :: .int iLv :: .int iWs :: v29 :: v30 :: v31 :: v32 :: v33 :: v34 :: []), _] hP hD rfl
                          clear hP hD
                          obtain ⟨hP, hD⟩ := hPD
                          refine lv_goto (tgt := 149) hx hb dX6_look_231 (by decide +kernel) ?_
                          exact ih_92 (m_93 + 1) 100000 (by omega) (⟨by omega, by omega⟩) (by rw [← hU_96, show kZ - m_93 = kZ - (m_93 + 1) + 1 by omega, dg_go h_103 (dg_ge (by omega) (by omega) c_105)]) _ _ _ hP hD hS (lv_sub hl [0] rfl)
                        · refine lv_aload_n hx hb (g_42 bX6_look rfl) rfl (lv_at hl 0 rfl) ?_
                          refine va_get (D := G) (ci := 5) (v := .long xF_94) (C := RX6) (T := TX6) (N := 35) hx hb hts iX_X6 hown hK hP 0 rfl rfl 23 (by decide +kernel) (hts _ m_t873) (fun _ h9 => h9) rfl (g_180 (v := 150) bX6_look rfl) ?_
                          refine lv_ldc2 hx hb hown (hts _ m_t1103) (g_20 (v := 132) bX6_look rfl) ?_
                          refine lv_lmul hx hb (g_105 bX6_look rfl) ?_
                          refine lv_aload_n hx hb (g_42 bX6_look rfl) rfl (lv_at hl 0 rfl) ?_
                          refine va_get (D := G) (ci := 5) (v := .ref qmt) (C := RX6) (T := TX6) (N := 35) hx hb hts iX_X6 hown hK hP 0 rfl rfl 7 (by decide +kernel) (hts _ m_t857) (fun _ h9 => h9) rfl (g_180 (v := 34) bX6_look rfl) ?_
                          refine lv_aload_n hx hb (g_42 bX6_look rfl) rfl (lv_at hl 0 rfl) ?_
                          refine va_get (D := G) (ci := 5) (v := .int (nI m_93)) (C := RX6) (T := TX6) (N := 35) hx hb hts iX_X6 hown hK hP 0 rfl rfl 20 (by decide +kernel) (hts _ m_t870) (fun _ h9 => h9) rfl (g_180 (v := 144) bX6_look rfl) ?_
                          refine va_iald hx hb hK hP 1 0 rfl rfl (vp_in_nI (by omega) (by omega)) (g_46 bX6_look rfl) ?_
                          refine lv_seti (v := fMt m_93) (congrArg fMt (nI_clamp (by omega))) ?_
                          refine lv_i2l (v := (fMt m_93).toInt64) hx hb (g_133 bX6_look rfl) rfl ?_
                          refine lv_ladd hx hb (g_97 bX6_look rfl) ?_
                          refine lv_ldc2 hx hb hown (hts _ m_t1138) (g_20 (v := 163) bX6_look rfl) ?_
                          refine lv_lsub hx hb (g_101 bX6_look rfl) ?_
                          refine lv_goto (tgt := 218) hx hb dX6_look_212 (by decide +kernel) ?_
                          refine va_put (D := G) (ci := 5) (v := .long (((xF_94 * 10) + ((fMt m_93).toInt64)) - 48)) (ty := .long) (C := RX6) (T := TX6) (N := 35) hx hb hts iX_X6 tyX6 tyX6_ok nmX6 hown hK hP hD hS 0 rfl rfl 23 (by decide +kernel) (hts _ m_t873) (fun _ h9 => h9) rfl (by decide +kernel) rfl rfl (Nat.le_of_ble_eq_true rfl) (g_181 (v := 150) bX6_look rfl) (fun H locs => ?_)
                          clear hP hD hS
                          intro hP hD hS
                          have hPD := pd_as [zzO qm 5 (v0 :: v1 :: v2 :: v3 :: v4 :: v5 :: v6 :: .ref qmt :: .int (nI kZ) :: v9 :: .int (nI (T_nb tA)) :: .ref qmB :: .int (nI (T_np tA)) :: .ref qmO :: .ref qmK :: .int iEn :: .int iTk :: .int (T_sd tA) :: v18 :: v19 :: .int (nI m_93) :: .int 2 :: .int (nI j_4) :: .long (((xF_94 * 10) + ((fMt m_93).toInt64)) - 48) :: .int iFa :: v25 :: v26 :: .int iLv :: .int iWs :: v29 :: v30 :: v31 :: v32 :: v33 :: v34 :: []), _] hP hD rfl
                          clear hP hD
                          obtain ⟨hP, hD⟩ := hPD
                          refine lv_aload_n hx hb (g_42 bX6_look rfl) rfl (lv_at hl 0 rfl) ?_
                          refine lv_dup hx hb (g_89 bX6_look rfl) rfl ?_
                          refine va_get (D := G) (ci := 5) (v := .int (nI m_93)) (C := RX6) (T := TX6) (N := 35) hx hb hts iX_X6 hown hK hP 0 rfl rfl 20 (by decide +kernel) (hts _ m_t870) (fun _ h9 => h9) rfl (g_180 (v := 144) bX6_look rfl) ?_
                          refine lv_iconst (v := 1) hx hb (g_4 bX6_look rfl) (by decide +kernel) ?_
                          refine lv_iadd hx hb (g_96 bX6_look rfl) ?_
                          refine lv_seti (v := nI (m_93 + 1)) (nI_1 _) ?_
                          refine va_put (D := G) (ci := 5) (v := .int (nI (m_93 + 1))) (ty := .int) (C := RX6) (T := TX6) (N := 35) hx hb hts iX_X6 tyX6 tyX6_ok nmX6 hown hK hP hD hS 0 rfl rfl 20 (by decide +kernel) (hts _ m_t870) (fun _ h9 => h9) rfl (by decide +kernel) rfl rfl (Nat.le_of_ble_eq_true rfl) (g_181 (v := 144) bX6_look rfl) (fun H locs => ?_)
                          clear hP hD hS
                          intro hP hD hS
                          have hPD := pd_as [zzO qm 5 (v0 :: v1 :: v2 :: v3 :: v4 :: v5 :: v6 :: .ref qmt :: .int (nI kZ) :: v9 :: .int (nI (T_nb tA)) :: .ref qmB :: .int (nI (T_np tA)) :: .ref qmO :: .ref qmK :: .int iEn :: .int iTk :: .int (T_sd tA) :: v18 :: v19 :: .int (nI (m_93 + 1)) :: .int 2 :: .int (nI j_4) :: .long (((xF_94 * 10) + ((fMt m_93).toInt64)) - 48) :: .int iFa :: v25 :: v26 :: .int iLv :: .int iWs :: v29 :: v30 :: v31 :: v32 :: v33 :: v34 :: []), _] hP hD rfl
                          clear hP hD
                          obtain ⟨hP, hD⟩ := hPD
                          refine lv_goto (tgt := 149) hx hb dX6_look_231 (by decide +kernel) ?_
                          exact ih_92 (m_93 + 1) (((xF_94 * 10) + ((fMt m_93).toInt64)) - 48) (by omega) (⟨by omega, by omega⟩) (by rw [← hU_96, show kZ - m_93 = kZ - (m_93 + 1) + 1 by omega, dg_lt h_103 (dg_l3 (by omega) (by omega) c_105)]) _ _ _ hP hD hS (lv_sub hl [0] rfl)
                      · refine lv_if_eq (tgt := 267) hx hb dX6_look_172 (by decide +kernel) (fun _ => ?_) (fun h9 => absurd (by decide +kernel) h9)
                        have hz_107r : lkF fMt kZ kAt = (j_4, 2, m_93, xF_94) := by rw [lk_d hlt_62f hne_64 h_67 h_88, ← hU_96, show kZ - m_93 = kZ - (m_93 + 1) + 1 by omega, dg_no h_103]
                        exact endV (u := [zzO qm 5 (v0 :: v1 :: v2 :: v3 :: v4 :: v5 :: v6 :: .ref qmt :: .int (nI kZ) :: v9 :: .int (nI (T_nb tA)) :: .ref qmB :: .int (nI (T_np tA)) :: .ref qmO :: .ref qmK :: .int iEn :: .int iTk :: .int (T_sd tA) :: v18 :: v19 :: .int (nI m_93) :: .int 2 :: .int (nI j_4) :: .long xF_94 :: .int iFa :: v25 :: v26 :: .int iLv :: .int iWs :: v29 :: v30 :: v31 :: v32 :: v33 :: v34 :: []), zzI cy qmt 250 fMt]) hx hb hr hlocks (hP.sub [0, 1] rfl) (hD.sub [0, 1] (by decide +kernel) rfl) hS (by rw [hz_107r]) (g_177 bX6_look rfl)
                exact lp_90 ((250 - j_4) + 1) j_4 0 (Nat.lt_succ_self _) (⟨Nat.le_refl _, by omega⟩) rfl _ _ ls hP hD hS (lv_sub hl [0] rfl)
              · refine lv_if_eq (tgt := 234) hx hb dX6_look_141 (by decide +kernel) (fun _ => ?_) (fun h9 => absurd (by decide +kernel) h9)
                refine lv_aload_n hx hb (g_42 bX6_look rfl) rfl (lv_at hl 0 rfl) ?_
                refine lv_aload_n hx hb (g_42 bX6_look rfl) rfl (lv_at hl 0 rfl) ?_
                refine va_get (D := G) (ci := 5) (v := .ref qmt) (C := RX6) (T := TX6) (N := 35) hx hb hts iX_X6 hown hK hP 0 rfl rfl 7 (by decide +kernel) (hts _ m_t857) (fun _ h9 => h9) rfl (g_180 (v := 34) bX6_look rfl) ?_
                refine lv_aload_n hx hb (g_42 bX6_look rfl) rfl (lv_at hl 0 rfl) ?_
                refine va_get (D := G) (ci := 5) (v := .int (nI j_4)) (C := RX6) (T := TX6) (N := 35) hx hb hts iX_X6 hown hK hP 0 rfl rfl 20 (by decide +kernel) (hts _ m_t870) (fun _ h9 => h9) rfl (g_180 (v := 144) bX6_look rfl) ?_
                refine va_iald hx hb hK hP 1 0 rfl rfl (vp_in_nI (by omega) (by omega)) (g_46 bX6_look rfl) ?_
                refine lv_seti (v := fMt j_4) (congrArg fMt (nI_clamp (by omega))) ?_
                refine lv_bipush (v := 59) hx hb dX6_look_244 (by decide +kernel) ?_
                refine lv_icmp_ne (tgt := 253) hx hb dX6_look_246 (by decide +kernel) (fun c_109 => ?_) (fun c_109 => ?_)
                · refine lv_iconst (v := 4) hx hb (g_7 bX6_look rfl) (by decide +kernel) ?_
                  refine va_put (D := G) (ci := 5) (v := .int 4) (ty := .int) (C := RX6) (T := TX6) (N := 35) hx hb hts iX_X6 tyX6 tyX6_ok nmX6 hown hK hP hD hS 0 rfl rfl 21 (by decide +kernel) (hts _ m_t871) (fun _ h9 => h9) rfl (by decide +kernel) rfl rfl (Nat.le_of_ble_eq_true rfl) (g_181 (v := 154) bX6_look rfl) (fun H locs => ?_)
                  clear hP hD hS
                  intro hP hD hS
                  have hPD := pd_as [_, _] hP hD rfl
                  clear hP hD
                  obtain ⟨hP, hD⟩ := hPD
                  refine lv_aload_n hx hb (g_42 bX6_look rfl) rfl (lv_at hl 0 rfl) ?_
                  refine lv_dup hx hb (g_89 bX6_look rfl) rfl ?_
                  refine va_get (D := G) (ci := 5) (v := .int (nI j_4)) (C := RX6) (T := TX6) (N := 35) hx hb hts iX_X6 hown hK hP 0 rfl rfl 20 (by decide +kernel) (hts _ m_t870) (fun _ h9 => h9) rfl (g_180 (v := 144) bX6_look rfl) ?_
                  refine lv_iconst (v := 1) hx hb (g_4 bX6_look rfl) (by decide +kernel) ?_
                  refine lv_iadd hx hb (g_96 bX6_look rfl) ?_
                  refine lv_seti (v := nI (j_4 + 1)) (nI_1 _) ?_
                  refine va_put (D := G) (ci := 5) (v := .int (nI (j_4 + 1))) (ty := .int) (C := RX6) (T := TX6) (N := 35) hx hb hts iX_X6 tyX6 tyX6_ok nmX6 hown hK hP hD hS 0 rfl rfl 20 (by decide +kernel) (hts _ m_t870) (fun _ h9 => h9) rfl (by decide +kernel) rfl rfl (Nat.le_of_ble_eq_true rfl) (g_181 (v := 144) bX6_look rfl) (fun H locs => ?_)
                  clear hP hD hS
                  intro hP hD hS
                  have hPD := pd_as [_, _] hP hD rfl
                  clear hP hD
                  obtain ⟨hP, hD⟩ := hPD
                  have hz_110r : lkF fMt kZ kAt = (j_4, 4, j_4 + 1, 0) := by rw [lk_4 hlt_62f hne_64 h_67 h_88 c_109]
                  exact endV (u := [zzO qm 5 (v0 :: v1 :: v2 :: v3 :: v4 :: v5 :: v6 :: .ref qmt :: .int (nI kZ) :: v9 :: .int (nI (T_nb tA)) :: .ref qmB :: .int (nI (T_np tA)) :: .ref qmO :: .ref qmK :: .int iEn :: .int iTk :: .int (T_sd tA) :: v18 :: v19 :: .int (nI (j_4 + 1)) :: .int 4 :: .int (nI j_4) :: .long 0 :: .int iFa :: v25 :: v26 :: .int iLv :: .int iWs :: v29 :: v30 :: v31 :: v32 :: v33 :: v34 :: []), zzI cy qmt 250 fMt]) hx hb hr hlocks (hP.sub [0, 1] rfl) (hD.sub [0, 1] (by decide +kernel) rfl) hS (by rw [hz_110r]) (g_177 bX6_look rfl)
                · refine lv_iconst (v := 3) hx hb (g_6 bX6_look rfl) (by decide +kernel) ?_
                  refine lv_goto (tgt := 254) hx hb dX6_look_250 (by decide +kernel) ?_
                  refine va_put (D := G) (ci := 5) (v := .int 3) (ty := .int) (C := RX6) (T := TX6) (N := 35) hx hb hts iX_X6 tyX6 tyX6_ok nmX6 hown hK hP hD hS 0 rfl rfl 21 (by decide +kernel) (hts _ m_t871) (fun _ h9 => h9) rfl (by decide +kernel) rfl rfl (Nat.le_of_ble_eq_true rfl) (g_181 (v := 154) bX6_look rfl) (fun H locs => ?_)
                  clear hP hD hS
                  intro hP hD hS
                  have hPD := pd_as [_, _] hP hD rfl
                  clear hP hD
                  obtain ⟨hP, hD⟩ := hPD
                  refine lv_aload_n hx hb (g_42 bX6_look rfl) rfl (lv_at hl 0 rfl) ?_
                  refine lv_dup hx hb (g_89 bX6_look rfl) rfl ?_
                  refine va_get (D := G) (ci := 5) (v := .int (nI j_4)) (C := RX6) (T := TX6) (N := 35) hx hb hts iX_X6 hown hK hP 0 rfl rfl 20 (by decide +kernel) (hts _ m_t870) (fun _ h9 => h9) rfl (g_180 (v := 144) bX6_look rfl) ?_
                  refine lv_iconst (v := 1) hx hb (g_4 bX6_look rfl) (by decide +kernel) ?_
                  refine lv_iadd hx hb (g_96 bX6_look rfl) ?_
                  refine lv_seti (v := nI (j_4 + 1)) (nI_1 _) ?_
                  refine va_put (D := G) (ci := 5) (v := .int (nI (j_4 + 1))) (ty := .int) (C := RX6) (T := TX6) (N := 35) hx hb hts iX_X6 tyX6 tyX6_ok nmX6 hown hK hP hD hS 0 rfl rfl 20 (by decide +kernel) (hts _ m_t870) (fun _ h9 => h9) rfl (by decide +kernel) rfl rfl (Nat.le_of_ble_eq_true rfl) (g_181 (v := 144) bX6_look rfl) (fun H locs => ?_)
                  clear hP hD hS
                  intro hP hD hS
                  have hPD := pd_as [_, _] hP hD rfl
                  clear hP hD
                  obtain ⟨hP, hD⟩ := hPD
                  have hz_111r : lkF fMt kZ kAt = (j_4, 3, j_4 + 1, 0) := by rw [lk_3 hlt_62f hne_64 h_67 h_88 c_109]
                  exact endV (u := [zzO qm 5 (v0 :: v1 :: v2 :: v3 :: v4 :: v5 :: v6 :: .ref qmt :: .int (nI kZ) :: v9 :: .int (nI (T_nb tA)) :: .ref qmB :: .int (nI (T_np tA)) :: .ref qmO :: .ref qmK :: .int iEn :: .int iTk :: .int (T_sd tA) :: v18 :: v19 :: .int (nI (j_4 + 1)) :: .int 3 :: .int (nI j_4) :: .long 0 :: .int iFa :: v25 :: v26 :: .int iLv :: .int iWs :: v29 :: v30 :: v31 :: v32 :: v33 :: v34 :: []), zzI cy qmt 250 fMt]) hx hb hr hlocks (hP.sub [0, 1] rfl) (hD.sub [0, 1] (by decide +kernel) rfl) hS (by rw [hz_111r]) (g_177 bX6_look rfl)
          · have hne_112 : j_4 = kZ := nI_inj (by omega) (by omega) c_63
            have hne_112r : lkF fMt kZ kAt = (j_4, 0, j_4, 0) := by rw [lkF, ← hlt_62f, if_pos hne_112]
            refine lv_aload_n hx hb (g_42 bX6_look rfl) rfl (lv_at hl 0 rfl) ?_
            refine lv_iconst (v := 0) hx hb (g_3 bX6_look rfl) (by decide +kernel) ?_
            refine va_put (D := G) (ci := 5) (v := .int 0) (ty := .int) (C := RX6) (T := TX6) (N := 35) hx hb hts iX_X6 tyX6 tyX6_ok nmX6 hown hK hP hD hS 0 rfl rfl 21 (by decide +kernel) (hts _ m_t871) (fun _ h9 => h9) rfl (by decide +kernel) rfl rfl (Nat.le_of_ble_eq_true rfl) (g_181 (v := 154) bX6_look rfl) (fun H locs => ?_)
            clear hP hD hS
            intro hP hD hS
            have hPD := pd_as [_, _] hP hD rfl
            clear hP hD
            obtain ⟨hP, hD⟩ := hPD
            refine lv_goto (tgt := 267) hx hb dX6_look_67 (by decide +kernel) ?_
            exact endV (u := [zzO qm 5 (v0 :: v1 :: v2 :: v3 :: v4 :: v5 :: v6 :: .ref qmt :: .int (nI kZ) :: v9 :: .int (nI (T_nb tA)) :: .ref qmB :: .int (nI (T_np tA)) :: .ref qmO :: .ref qmK :: .int iEn :: .int iTk :: .int (T_sd tA) :: v18 :: v19 :: .int (nI j_4) :: .int 0 :: .int (nI j_4) :: .long 0 :: .int iFa :: v25 :: v26 :: .int iLv :: .int iWs :: v29 :: v30 :: v31 :: v32 :: v33 :: v34 :: []), zzI cy qmt 250 fMt]) hx hb hr hlocks (hP.sub [0, 1] rfl) (hD.sub [0, 1] (by decide +kernel) rfl) hS (by rw [hne_112r]) (g_177 bX6_look rfl)
        · refine lv_aload_n hx hb (g_42 bX6_look rfl) rfl (lv_at hl 0 rfl) ?_
          refine lv_dup hx hb (g_89 bX6_look rfl) rfl ?_
          refine va_get (D := G) (ci := 5) (v := .int (nI j_4)) (C := RX6) (T := TX6) (N := 35) hx hb hts iX_X6 hown hK hP 0 rfl rfl 20 (by decide +kernel) (hts _ m_t870) (fun _ h9 => h9) rfl (g_180 (v := 144) bX6_look rfl) ?_
          refine lv_iconst (v := 1) hx hb (g_4 bX6_look rfl) (by decide +kernel) ?_
          refine lv_iadd hx hb (g_96 bX6_look rfl) ?_
          refine lv_seti (v := nI (j_4 + 1)) (nI_1 _) ?_
          refine va_put (D := G) (ci := 5) (v := .int (nI (j_4 + 1))) (ty := .int) (C := RX6) (T := TX6) (N := 35) hx hb hts iX_X6 tyX6 tyX6_ok nmX6 hown hK hP hD hS 0 rfl rfl 20 (by decide +kernel) (hts _ m_t870) (fun _ h9 => h9) rfl (by decide +kernel) rfl rfl (Nat.le_of_ble_eq_true rfl) (g_181 (v := 144) bX6_look rfl) (fun H locs => ?_)
          clear hP hD hS
          intro hP hD hS
          have hPD := pd_as [zzO qm 5 (v0 :: v1 :: v2 :: v3 :: v4 :: v5 :: v6 :: .ref qmt :: .int (nI kZ) :: v9 :: .int (nI (T_nb tA)) :: .ref qmB :: .int (nI (T_np tA)) :: .ref qmO :: .ref qmK :: .int iEn :: .int iTk :: .int (T_sd tA) :: v18 :: v19 :: .int (nI (j_4 + 1)) :: .int iTo :: .int iFr :: .long JFi :: .int iFa :: v25 :: v26 :: .int iLv :: .int iWs :: v29 :: v30 :: v31 :: v32 :: v33 :: v34 :: []), _] hP hD rfl
          clear hP hD
          obtain ⟨hP, hD⟩ := hPD
          refine lv_goto (tgt := 0) hx hb dX6_look_35 (by decide +kernel) ?_
          exact ih_3 (j_4 + 1) (by omega) (⟨by omega, by omega⟩) (by rw [← hT_6, show kZ - j_4 = kZ - (j_4 + 1) + 1 by omega, sk_go c_61]) _ _ _ hP hD hS (lv_sub hl [0] rfl)
  exact lp_1 ((250 - kAt) + 1) kAt (Nat.lt_succ_self _) (⟨Nat.le_refl _, hAt⟩) rfl _ _ ls hP hD hS (lv_sub hl [0] rfl)
set_option maxHeartbeats 4000000 in
set_option maxRecDepth 100000 in
theorem c_X6_wrong (l : Launch) (G : va_G) (cy : Nat → ClassId) (sz : Nat) (qm : Nat) (v0 : Value) (v1 : Value) (v2 : Value) (v3 : Value) (v4 : Value) (v5 : Value) (v6 : Value) (qmt : Nat) (kZ : Nat) (v9 : Value) (tA : TA) (qmB : Nat) (qmO : Nat) (qmK : Nat) (iEn : Int32) (iTk : Int32) (v18 : Value) (v19 : Value) (kAt : Nat) (iTo : Int32) (iFr : Int32) (JFi : Int64) (iFa : Int32) (v25 : Value) (v26 : Value) (iLv : Int32) (iWs : Int32) (v29 : Value) (v30 : Value) (v31 : Value) (v32 : Value) (v33 : Value) (v34 : Value)   : MW l yX6_wrong cX6_wrong 1 (some .boolean) 1 0 0 G cy [zzO qm 5 (v0 :: v1 :: v2 :: v3 :: v4 :: v5 :: v6 :: .ref qmt :: .int (nI kZ) :: v9 :: .int (nI (T_nb tA)) :: .ref qmB :: .int (nI (T_np tA)) :: .ref qmO :: .ref qmK :: .int iEn :: .int iTk :: .int (T_sd tA) :: v18 :: v19 :: .int (nI kAt) :: .int iTo :: .int iFr :: .long JFi :: .int iFa :: v25 :: v26 :: .int iLv :: .int iWs :: v29 :: v30 :: v31 :: v32 :: v33 :: v34 :: [])] sz [.ref qm] (Wi G (fun r u => u = [zzO qm 5 (v0 :: v1 :: v2 :: v3 :: v4 :: v5 :: v6 :: .ref qmt :: .int (nI kZ) :: v9 :: .int (nI (T_nb tA)) :: .ref qmB :: .int (nI (T_np tA)) :: .ref qmO :: .ref qmK :: .int iEn :: .int iTk :: .int (T_sd tA) :: v18 :: v19 :: .int (nI kAt) :: .int iTo :: .int iFr :: .long JFi :: .int iFr :: v25 :: v26 :: .int iLv :: .int iWs :: v29 :: v30 :: v31 :: v32 :: v33 :: v34 :: [])] ∧ ((r = 0)))) := by
  refine enW RX6 (by decide +kernel) rfl (Nat.le_of_ble_eq_true rfl) (fun p e s m below meth c ls A hx hb hml hown hts hr hlocks hP hN hl hin hD hA hS => ?_)
  have hin : meth.name = _ := hin
  have hK := hN.1
  replace hl : lv_has ls 1 [(0, .ref qm)] := hl
  refine lv_aload_n hx hb (g_42 bX6_wrong rfl) rfl (lv_at hl 0 rfl) ?_
  refine lv_aload_n hx hb (g_42 bX6_wrong rfl) rfl (lv_at hl 0 rfl) ?_
  refine va_get (D := G) (ci := 5) (v := .int iFr) (C := RX6) (T := TX6) (N := 35) hx hb hts iX_X6 hown hK hP 0 rfl rfl 22 (by decide +kernel) (hts _ m_t872) (fun _ h9 => h9) rfl (g_180 (v := 147) bX6_wrong rfl) ?_
  refine va_put (D := G) (ci := 5) (v := .int iFr) (ty := .int) (C := RX6) (T := TX6) (N := 35) hx hb hts iX_X6 tyX6 tyX6_ok nmX6 hown hK hP hD hS 0 rfl rfl 24 (by decide +kernel) (hts _ m_t874) (fun _ h9 => h9) rfl (by decide +kernel) rfl rfl (Nat.le_of_ble_eq_true rfl) (g_181 (v := 167) bX6_wrong rfl) (fun H locs => ?_)
  clear hP hD hS
  intro hP hD hS
  have hPD := pd_as [_] hP hD rfl
  clear hP hD
  obtain ⟨hP, hD⟩ := hPD
  refine lv_iconst (v := 0) hx hb (g_3 bX6_wrong rfl) (by decide +kernel) ?_
  exact endWs [[true]] hx hb hr hlocks rfl hP hD rfl (by decide +kernel) hS ⟨rfl, rfl⟩ (g_172 bX6_wrong rfl)
end
section
noncomputable def Iv3 (v a b : Int32) : Prop := Iv v.toInt64 a.toInt64 b.toInt64
theorem iv3_of {J : Int64} {a b : Int32} (h : Iv J a.toInt64 b.toInt64) : Iv3 J.toInt32 a b := by
  obtain ⟨h1, h2⟩ := Iv_iff.mp h
  have e : J.toInt32.toInt64 = J := by
    rw [Int64.le_iff_toInt_le, Int32.toInt_toInt64] at h1 h2
    apply Int64.toInt_inj.mp
    have k1 := a.le_toInt
    have k2 := b.toInt_lt
    rw [Int32.toInt_toInt64, Int64.toInt_toInt32, Int.bmod_def]
    omega
  unfold Iv3
  rw [e]
  exact h
theorem upd_self {f : Nat → Int32} {k : Nat} : upd f k (f k) = f := by
  funext j
  show (if j = k then f k else f j) = f j
  split
  · next e => rw [e]
  · rfl
theorem us_f {f : Nat → Int32} {k : Nat} : upd f k (f k) = f := upd_self
theorem us_wo {t : TA} {k : Nat} : T_setwo t (upd (T_wo t) k (T_wo t k)) = t := by rw [upd_self]
theorem us_go {t : TA} {k : Nat} : T_setgo t (upd (T_go t) k (T_go t k)) = t := by rw [upd_self]
theorem us_ag {t : TA} {k : Nat} : T_setag t (upd (T_ag t) k (T_ag t k)) = t := by rw [upd_self]
theorem us_re {t : TA} {k : Nat} : T_setre t (upd (T_re t) k (T_re t k)) = t := by rw [upd_self]
theorem us_me {t : TA} {k : Nat} : T_setme t (upd (T_me t) k (T_me t k)) = t := by rw [upd_self]
theorem us_te {t : TA} {k : Nat} : T_sette t (upd (T_te t) k (T_te t k)) = t := by rw [upd_self]
theorem iv3_in {v : Int32} {n : Nat} (hn : n ≤ 8) (h : Iv3 v 0 (nI n - 1)) : ∃ k : Nat, k < n ∧ v = nI k := sz_in rfl (by omega) h
theorem TI_ne {t : TA} (h : TI t) (x : Nat → Int32) : TI (T_setne t x) := h
end
