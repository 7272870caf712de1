section
theorem sz_no {x : Int32} {n : Nat} (hn : n ≤ 40) (h : ¬ Iv x.toInt64 0 (nI n - 1).toInt64) : ¬ ∃ k : Nat, k < n ∧ x = nI k := fun ⟨k, h1, h2⟩ => h (by
  subst h2
  have e : (nI n - 1).toInt = (n : Int) - 1 := by
    rw [show (1 : Int32) = nI 1 from rfl, pk_sub_toInt (by omega) (by omega)]
    rfl
  exact ofI (m := 0) (n := (n : Int) - 1) (by decide +kernel) (by rw [Int32.toInt_toInt64]; exact e) ⟨by rw [nI_toInt (by omega)]; omega, by rw [nI_toInt (by omega)]; omega⟩)
noncomputable def tmF (t : TA) : Nat → Nat
  | 0 => 0
  | p + 1 => tmF t p + (if T_gn t p = false then 1 else 0)
theorem tm_y {t : TA} {p : Nat} (h : T_gn t p = false) : tmF t (p + 1) = tmF t p + 1 := by rw [tmF, if_pos h]
theorem tm_n {t : TA} {p : Nat} (h : T_gn t p = true) : tmF t (p + 1) = tmF t p + 0 := by rw [tmF, if_neg (by rw [h]; decide)]
theorem bt_yes {s : Int32} {n : Nat} (h : ¬ (s >>> (nI n &&& 31)) &&& 1 = 0) : bitb s n = true := by unfold bitb; exact decide_eq_true h
theorem bt_no {s : Int32} {n : Nat} (h : (s >>> (nI n &&& 31)) &&& 1 = 0) : bitb s n = false := by unfold bitb; exact decide_eq_false (fun q => q h)
theorem ga_no {pr : Nat → Bool} {k : Nat → Int32} {n : Nat} (h : pr n = false) : gA pr k (n + 1) = gA pr k n := by rw [gA, if_neg (by rw [h]; decide)]
theorem ga_yy {pr : Nat → Bool} {k : Nat → Int32} {n : Nat} (h : pr n = true) (c : ¬ k n ≤ gA pr k n) : gA pr k (n + 1) = k n := by
  rw [gA, if_pos h]
  exact if_pos (Int32.not_le.mp c)
theorem ga_yn {pr : Nat → Bool} {k : Nat → Int32} {n : Nat} (h : pr n = true) (c : k n ≤ gA pr k n) : gA pr k (n + 1) = gA pr k n := by
  rw [gA, if_pos h]
  exact if_neg (Int32.not_lt.mpr c)
noncomputable def mgr (t : TA) (b : Nat) (s : Int32) : Int32 := gA (fun p => bitb s p && !T_gn t p) (fun p => T_kn t p b) (T_np t)
noncomputable def mvo (t : TA) (s : Int32) : Int32 := wsum (fun b => T_wo t b * mgr t b s) (T_nb t)
theorem br_snd {t : TA} {b : Nat} : ∀ {n k : Nat}, n ≤ 8 → (brF t b n).1 = nI k → k < 8 → (brF t b n).2 = zwk t k b := by
  intro n
  induction n with
  | zero => intro k _ h hk; exact absurd h.symm (nI_ne1 hk)
  | succ n ih =>
    intro k hn h hk
    by_cases c : (T_gn t n = false ∧ ¬ zwk t n b = -1 ∧ ((brF t b n).1 = -1 ∨ (brF t b n).2 < zwk t n b ∨ (zwk t n b = (brF t b n).2 ∧ T_ag t n < T_ag t (brF t b n).1.toNatClampNeg)))
    · rw [br_upd c] at h ⊢
      rw [nI_inj (by omega) (by omega) h]
    · rw [br_skip c] at h ⊢
      exact ih (by omega) h hk
set_option maxHeartbeats 4000000 in
set_option maxRecDepth 100000 in
theorem c_X6_in (l : Launch) (G : va_G) (cy : Nat → ClassId) (J1 : Int64) (J2 : Int64) (J3 : Int64)   : MR l yX6_in cX6_in 6 (some .boolean) 1 G cy [] [.long J1, .long J2, .long J3] (vp_Si (fun r => (r = 1 ∧ Iv J1 J2 J3) ∨ (r = 0 ∧ ¬ Iv J1 J2 J3))) := by
  refine enR RX6 (by decide +kernel) rfl (Nat.le_of_ble_eq_true rfl) (fun p e s m below meth c ls hx hb hml hown hts hr hlocks hP hN hl => ?_)
  have hK := hN.1
  replace hl : lv_has ls 6 [(0, .long J1), (2, .long J2), (4, .long J3)] := hl
  refine lv_lload_n hx hb (g_30 bX6_in rfl) rfl (lv_at hl 0 rfl) ?_
  refine lv_lload_n hx hb (g_32 bX6_in rfl) rfl (lv_at hl 1 rfl) ?_
  refine W.lcmp hx hb (g_148 bX6_in rfl) ?_
  refine lv_if_lt (tgt := 17) hx hb dX6_in_3 (by decide +kernel) (fun c_1 => ?_) (fun c_1 => ?_)
  · refine lv_iconst (v := 0) hx hb (g_3 bX6_in rfl) (by decide +kernel) ?_
    exact endR hx hb hr hlocks rfl (Or.inr (⟨rfl, in_no1 c_1⟩)) (g_172 bX6_in rfl)
  · refine lv_lload_n hx hb (g_30 bX6_in rfl) rfl (lv_at hl 0 rfl) ?_
    refine lv_lload hx hb (g_22 (v := 4) bX6_in rfl) (lv_at hl 2 rfl) ?_
    refine W.lcmp hx hb (g_148 bX6_in rfl) ?_
    refine lv_if_gt (tgt := 17) hx hb dX6_in_10 (by decide +kernel) (fun c_2 => ?_) (fun c_2 => ?_)
    · refine lv_iconst (v := 0) hx hb (g_3 bX6_in rfl) (by decide +kernel) ?_
      exact endR hx hb hr hlocks rfl (Or.inr (⟨rfl, in_no2 c_2⟩)) (g_172 bX6_in rfl)
    · refine lv_iconst (v := 1) hx hb (g_4 bX6_in rfl) (by decide +kernel) ?_
      refine lv_goto (tgt := 18) hx hb dX6_in_14 (by decide +kernel) ?_
      exact endR hx hb hr hlocks rfl (Or.inl (⟨rfl, in_yes c_1 c_2⟩)) (g_172 bX6_in rfl)
set_option maxHeartbeats 4000000 in
set_option maxRecDepth 100000 in
theorem c_X6_isBook (l : Launch) (G : va_G) (cy : Nat → ClassId) (qm : Nat) (v0 : Value) (v1 : Value) (v2 : Value) (v3 : Value) (v4 : Value) (v5 : Value) (v6 : Value) (v7 : Value) (v8 : Value) (v9 : Value) (tA : TA) (qmB : Nat) (qmO : Nat) (qmK : Nat) (iEn : Int32) (iTk : Int32) (v18 : Value) (v19 : Value) (v20 : Value) (v21 : Value) (v22 : Value) (v23 : Value) (v24 : Value) (v25 : Value) (v26 : Value) (iLv : Int32) (iWs : Int32) (v29 : Value) (v30 : Value) (v31 : Value) (v32 : Value) (v33 : Value) (v34 : Value) (iA : Int32)  (hB : T_nb tA ≤ 8) : MR l yX6_isBook cX6_isBook 3 (some .boolean) 2 G cy [zzO qm 5 (v0 :: v1 :: v2 :: v3 :: v4 :: v5 :: v6 :: v7 :: v8 :: v9 :: .int (nI (T_nb tA)) :: .ref qmB :: .int (nI (T_np tA)) :: .ref qmO :: .ref qmK :: .int iEn :: .int iTk :: .int (T_sd tA) :: v18 :: v19 :: v20 :: v21 :: v22 :: v23 :: v24 :: v25 :: v26 :: .int iLv :: .int iWs :: v29 :: v30 :: v31 :: v32 :: v33 :: v34 :: [])] [.ref qm, .long iA.toInt64] (vp_Si (fun r => (r = 1 ∧ ∃ k : Nat, k < T_nb tA ∧ iA = nI k) ∨ (r = 0 ∧ ¬ ∃ k : Nat, k < T_nb tA ∧ iA = nI k))) := by
  refine enR RX6 (by decide +kernel) rfl (Nat.le_of_ble_eq_true rfl) (fun p e s m below meth c ls hx hb hml hown hts hr hlocks hP hN hl => ?_)
  have hK := hN.1
  replace hl : lv_has ls 3 [(0, .ref qm), (1, .long iA.toInt64)] := hl
  refine lv_lload_n hx hb (g_31 bX6_isBook rfl) rfl (lv_at hl 1 rfl) ?_
  refine lv_lconst (v := 0) hx hb (g_9 bX6_isBook rfl) (by decide +kernel) ?_
  refine lv_aload_n hx hb (g_42 bX6_isBook rfl) rfl (lv_at hl 0 rfl) ?_
  refine va_get (D := G) (ci := 5) (v := .int (nI (T_nb tA))) (C := RX6) (T := TX6) (N := 35) hx hb hts iX_X6 hown hK hP 0 rfl rfl 10 (by decide +kernel) (hts _ m_t860) (fun _ h9 => h9) rfl (g_180 (v := 71) bX6_isBook rfl) ?_
  refine lv_iconst (v := 1) hx hb (g_4 bX6_isBook rfl) (by decide +kernel) ?_
  refine lv_isub hx hb (g_100 bX6_isBook rfl) ?_
  refine lv_i2l (v := ((nI (T_nb tA)) - 1).toInt64) hx hb (g_133 bX6_isBook rfl) rfl ?_
  refine kRi (rS (As := [.long iA.toInt64, .long 0, .long (((nI (T_nb tA)) - 1).toInt64)]) (rest := []) ⟨hx, hb, hml, hown, hts⟩ (c_X6_in l G cy iA.toInt64 0 (((nI (T_nb tA)) - 1).toInt64)) L_X6_74 (preRS hN hP [] rfl) rfl ⟨Nat.le_of_ble_eq_true rfl, Nat.le_of_ble_eq_true rfl⟩ hl.1 (Nat.le_of_ble_eq_true rfl) (g_184 (v := 74) bX6_isBook rfl) ⟨Nat.le_of_ble_eq_true rfl, Nat.le_of_ble_eq_true rfl⟩) (fun r_1 h_2 => ?_)
  rcases h_2 with ⟨rfl, h_3⟩ | ⟨rfl, h_3⟩
  · exact endR hx hb hr hlocks rfl (Or.inl (⟨rfl, sz_in rfl (by omega) h_3⟩)) (g_172 bX6_isBook rfl)
  · exact endR hx hb hr hlocks rfl (Or.inr (⟨rfl, sz_no (by omega) h_3⟩)) (g_172 bX6_isBook rfl)
set_option maxHeartbeats 4000000 in
set_option maxRecDepth 100000 in
theorem c_X6_isOne (l : Launch) (G : va_G) (cy : Nat → ClassId) (qm : Nat) (v0 : Value) (v1 : Value) (v2 : Value) (v3 : Value) (v4 : Value) (v5 : Value) (v6 : Value) (v7 : Value) (v8 : Value) (v9 : Value) (tA : TA) (qmB : Nat) (qmO : Nat) (qmK : Nat) (iEn : Int32) (iTk : Int32) (v18 : Value) (v19 : Value) (v20 : Value) (v21 : Value) (v22 : Value) (v23 : Value) (v24 : Value) (v25 : Value) (v26 : Value) (iLv : Int32) (iWs : Int32) (v29 : Value) (v30 : Value) (v31 : Value) (v32 : Value) (v33 : Value) (v34 : Value) (iA : Int32)  (hB : T_np tA ≤ 8) : MR l yX6_isOne cX6_isOne 3 (some .boolean) 2 G cy [zzO qm 5 (v0 :: v1 :: v2 :: v3 :: v4 :: v5 :: v6 :: v7 :: v8 :: v9 :: .int (nI (T_nb tA)) :: .ref qmB :: .int (nI (T_np tA)) :: .ref qmO :: .ref qmK :: .int iEn :: .int iTk :: .int (T_sd tA) :: v18 :: v19 :: v20 :: v21 :: v22 :: v23 :: v24 :: v25 :: v26 :: .int iLv :: .int iWs :: v29 :: v30 :: v31 :: v32 :: v33 :: v34 :: [])] [.ref qm, .long iA.toInt64] (vp_Si (fun r => (r = 1 ∧ ∃ k : Nat, k < T_np tA ∧ iA = nI k) ∨ (r = 0 ∧ ¬ ∃ k : Nat, k < T_np tA ∧ iA = nI k))) := by
  refine enR RX6 (by decide +kernel) rfl (Nat.le_of_ble_eq_true rfl) (fun p e s m below meth c ls hx hb hml hown hts hr hlocks hP hN hl => ?_)
  have hK := hN.1
  replace hl : lv_has ls 3 [(0, .ref qm), (1, .long iA.toInt64)] := hl
  refine lv_lload_n hx hb (g_31 bX6_isOne rfl) rfl (lv_at hl 1 rfl) ?_
  refine lv_lconst (v := 0) hx hb (g_9 bX6_isOne rfl) (by decide +kernel) ?_
  refine lv_aload_n hx hb (g_42 bX6_isOne rfl) rfl (lv_at hl 0 rfl) ?_
  refine va_get (D := G) (ci := 5) (v := .int (nI (T_np tA))) (C := RX6) (T := TX6) (N := 35) hx hb hts iX_X6 hown hK hP 0 rfl rfl 12 (by decide +kernel) (hts _ m_t862) (fun _ h9 => h9) rfl (g_180 (v := 78) bX6_isOne rfl) ?_
  refine lv_iconst (v := 1) hx hb (g_4 bX6_isOne rfl) (by decide +kernel) ?_
  refine lv_isub hx hb (g_100 bX6_isOne rfl) ?_
  refine lv_i2l (v := ((nI (T_np tA)) - 1).toInt64) hx hb (g_133 bX6_isOne rfl) rfl ?_
  refine kRi (rS (As := [.long iA.toInt64, .long 0, .long (((nI (T_np tA)) - 1).toInt64)]) (rest := []) ⟨hx, hb, hml, hown, hts⟩ (c_X6_in l G cy iA.toInt64 0 (((nI (T_np tA)) - 1).toInt64)) L_X6_74 (preRS hN hP [] rfl) rfl ⟨Nat.le_of_ble_eq_true rfl, Nat.le_of_ble_eq_true rfl⟩ hl.1 (Nat.le_of_ble_eq_true rfl) (g_184 (v := 74) bX6_isOne rfl) ⟨Nat.le_of_ble_eq_true rfl, Nat.le_of_ble_eq_true rfl⟩) (fun r_1 h_2 => ?_)
  rcases h_2 with ⟨rfl, h_3⟩ | ⟨rfl, h_3⟩
  · exact endR hx hb hr hlocks rfl (Or.inl (⟨rfl, sz_in rfl (by omega) h_3⟩)) (g_172 bX6_isOne rfl)
  · exact endR hx hb hr hlocks rfl (Or.inr (⟨rfl, sz_no (by omega) h_3⟩)) (g_172 bX6_isOne rfl)
set_option maxHeartbeats 4000000 in
set_option maxRecDepth 100000 in
theorem c_X6_isThere (l : Launch) (G : va_G) (cy : Nat → ClassId) (qm : Nat) (v0 : Value) (v1 : Value) (v2 : Value) (v3 : Value) (v4 : Value) (v5 : Value) (v6 : Value) (v7 : Value) (v8 : Value) (v9 : Value) (tA : TA) (qmB : Nat) (qmO : Nat) (qmK : Nat) (iEn : Int32) (iTk : Int32) (v18 : Value) (v19 : Value) (v20 : Value) (v21 : Value) (v22 : Value) (v23 : Value) (v24 : Value) (v25 : Value) (v26 : Value) (iLv : Int32) (iWs : Int32) (v29 : Value) (v30 : Value) (v31 : Value) (v32 : Value) (v33 : Value) (v34 : Value) (rO : Nat → Nat) (kI : Nat)  (hI : kI < 8) : MR l yX6_isThere cX6_isThere 2 (some .boolean) 1 G cy [zzO qm 5 (v0 :: v1 :: v2 :: v3 :: v4 :: v5 :: v6 :: v7 :: v8 :: v9 :: .int (nI (T_nb tA)) :: .ref qmB :: .int (nI (T_np tA)) :: .ref qmO :: .ref qmK :: .int iEn :: .int iTk :: .int (T_sd tA) :: v18 :: v19 :: v20 :: v21 :: v22 :: v23 :: v24 :: v25 :: v26 :: .int iLv :: .int iWs :: v29 :: v30 :: v31 :: v32 :: v33 :: v34 :: []), zzG cy 3 qmO rO, zzI cy (rO 0) 5 (onR tA 0), zzI cy (rO 1) 5 (onR tA 1), zzI cy (rO 2) 5 (onR tA 2), zzI cy (rO 3) 5 (onR tA 3), zzI cy (rO 4) 5 (onR tA 4), zzI cy (rO 5) 5 (onR tA 5), zzI cy (rO 6) 5 (onR tA 6), zzI cy (rO 7) 5 (onR tA 7)] [.ref qm, .int (nI kI)] (vp_Si (fun r => (r = 1 ∧ T_gn tA kI = false) ∨ (r = 0 ∧ T_gn tA kI = true))) := by
  refine enR RX6 (by decide +kernel) rfl (Nat.le_of_ble_eq_true rfl) (fun p e s m below meth c ls hx hb hml hown hts hr hlocks hP hN hl => ?_)
  have hK := hN.1
  replace hl : lv_has ls 2 [(0, .ref qm), (1, .int (nI kI))] := hl
  refine lv_aload_n hx hb (g_42 bX6_isThere rfl) rfl (lv_at hl 0 rfl) ?_
  refine va_get (D := G) (ci := 5) (v := .ref qmO) (C := RX6) (T := TX6) (N := 35) hx hb hts iX_X6 hown hK hP 0 rfl rfl 13 (by decide +kernel) (hts _ m_t863) (fun _ h9 => h9) rfl (g_180 (v := 45) bX6_isThere rfl) ?_
  refine lv_iload_n hx hb (g_27 bX6_isThere rfl) rfl (lv_at hl 1 rfl) ?_
  refine va_alda hx hb hK hP 1 3 rfl rfl (in8 (by omega)) (g_50 bX6_isThere rfl) ?_
  refine lv_setv (v := .ref (rO kI)) (g_ref (by omega)) ?_
  refine lv_iconst (v := 4) hx hb (g_7 bX6_isThere rfl) (by decide +kernel) ?_
  refine va_iald hx hb hK hP (2 + kI) 0 (sg8 (n0 := 2) (f := (fun j => zzI cy (rO j) 5 (onR tA j))) rfl rfl rfl rfl rfl rfl rfl rfl kI (by omega)) rfl (in_c rfl) (g_46 bX6_isThere rfl) ?_
  refine lv_seti (v := b01 (T_gn tA kI)) (on_4 _ _) ?_
  refine lv_if_ne (tgt := 15) hx hb dX6_isThere_8 (by decide +kernel) (fun c_1 => ?_) (fun c_1 => ?_)
  · refine lv_iconst (v := 0) hx hb (g_3 bX6_isThere rfl) (by decide +kernel) ?_
    exact endR hx hb hr hlocks rfl (Or.inr (⟨rfl, b01_n0 c_1⟩)) (g_172 bX6_isThere rfl)
  · refine lv_iconst (v := 1) hx hb (g_4 bX6_isThere rfl) (by decide +kernel) ?_
    refine lv_goto (tgt := 16) hx hb dX6_isThere_12 (by decide +kernel) ?_
    exact endR hx hb hr hlocks rfl (Or.inl (⟨rfl, b01_0 c_1⟩)) (g_172 bX6_isThere rfl)
set_option maxHeartbeats 4000000 in
set_option maxRecDepth 100000 in
theorem c_X6_isWhite (l : Launch) (G : va_G) (cy : Nat → ClassId) (qm : Nat) (v0 : Value) (v1 : Value) (v2 : Value) (v3 : Value) (v4 : Value) (v5 : Value) (v6 : Value) (v7 : Value) (v8 : Value) (v9 : Value) (tA : TA) (qmB : Nat) (qmO : Nat) (qmK : Nat) (iEn : Int32) (iTk : Int32) (v18 : Value) (v19 : Value) (v20 : Value) (v21 : Value) (v22 : Value) (v23 : Value) (v24 : Value) (v25 : Value) (v26 : Value) (iLv : Int32) (iWs : Int32) (v29 : Value) (v30 : Value) (v31 : Value) (v32 : Value) (v33 : Value) (v34 : Value) (rB : Nat → Nat) (kB : Nat)  (hJ : kB < 8) : MR l yX6_isWhite cX6_isWhite 2 (some .boolean) 1 G cy [zzO qm 5 (v0 :: v1 :: v2 :: v3 :: v4 :: v5 :: v6 :: v7 :: v8 :: v9 :: .int (nI (T_nb tA)) :: .ref qmB :: .int (nI (T_np tA)) :: .ref qmO :: .ref qmK :: .int iEn :: .int iTk :: .int (T_sd tA) :: v18 :: v19 :: v20 :: v21 :: v22 :: v23 :: v24 :: v25 :: v26 :: .int iLv :: .int iWs :: v29 :: v30 :: v31 :: v32 :: v33 :: v34 :: []), zzG cy 3 qmB rB, zzI cy (rB 0) 4 (bkR tA 0), zzI cy (rB 1) 4 (bkR tA 1), zzI cy (rB 2) 4 (bkR tA 2), zzI cy (rB 3) 4 (bkR tA 3), zzI cy (rB 4) 4 (bkR tA 4), zzI cy (rB 5) 4 (bkR tA 5), zzI cy (rB 6) 4 (bkR tA 6), zzI cy (rB 7) 4 (bkR tA 7)] [.ref qm, .int (nI kB)] (vp_Si (fun r => (r = 1 ∧ T_wh tA kB = true) ∨ (r = 0 ∧ T_wh tA kB = false))) := by
  refine enR RX6 (by decide +kernel) rfl (Nat.le_of_ble_eq_true rfl) (fun p e s m below meth c ls hx hb hml hown hts hr hlocks hP hN hl => ?_)
  have hK := hN.1
  replace hl : lv_has ls 2 [(0, .ref qm), (1, .int (nI kB))] := hl
  refine lv_aload_n hx hb (g_42 bX6_isWhite rfl) rfl (lv_at hl 0 rfl) ?_
  refine va_get (D := G) (ci := 5) (v := .ref qmB) (C := RX6) (T := TX6) (N := 35) hx hb hts iX_X6 hown hK hP 0 rfl rfl 11 (by decide +kernel) (hts _ m_t861) (fun _ h9 => h9) rfl (g_180 (v := 42) bX6_isWhite rfl) ?_
  refine lv_iload_n hx hb (g_27 bX6_isWhite rfl) rfl (lv_at hl 1 rfl) ?_
  refine va_alda hx hb hK hP 1 3 rfl rfl (in8 (by omega)) (g_50 bX6_isWhite rfl) ?_
  refine lv_setv (v := .ref (rB kB)) (g_ref (by omega)) ?_
  refine lv_iconst (v := 3) hx hb (g_6 bX6_isWhite rfl) (by decide +kernel) ?_
  refine va_iald hx hb hK hP (2 + kB) 0 (sg8 (n0 := 2) (f := (fun j => zzI cy (rB j) 4 (bkR tA j))) rfl rfl rfl rfl rfl rfl rfl rfl kB (by omega)) rfl (in_c rfl) (g_46 bX6_isWhite rfl) ?_
  refine lv_seti (v := b01 (T_wh tA kB)) (bk_3 _ _) ?_
  refine lv_iconst (v := 1) hx hb (g_4 bX6_isWhite rfl) (by decide +kernel) ?_
  refine lv_icmp_ne (tgt := 16) hx hb dX6_isWhite_9 (by decide +kernel) (fun c_1 => ?_) (fun c_1 => ?_)
  · refine lv_iconst (v := 0) hx hb (g_3 bX6_isWhite rfl) (by decide +kernel) ?_
    exact endR hx hb hr hlocks rfl (Or.inr (⟨rfl, b01_n1 c_1⟩)) (g_172 bX6_isWhite rfl)
  · refine lv_iconst (v := 1) hx hb (g_4 bX6_isWhite rfl) (by decide +kernel) ?_
    refine lv_goto (tgt := 17) hx hb dX6_isWhite_13 (by decide +kernel) ?_
    exact endR hx hb hr hlocks rfl (Or.inl (⟨rfl, b01_1 c_1⟩)) (g_172 bX6_isWhite rfl)
set_option maxHeartbeats 4000000 in
set_option maxRecDepth 100000 in
theorem c_X6_thereMany (l : Launch) (G : va_G) (cy : Nat → ClassId) (qm : Nat) (v0 : Value) (v1 : Value) (v2 : Value) (v3 : Value) (v4 : Value) (v5 : Value) (v6 : Value) (v7 : Value) (v8 : Value) (v9 : Value) (tA : TA) (qmB : Nat) (qmO : Nat) (qmK : Nat) (iEn : Int32) (iTk : Int32) (v18 : Value) (v19 : Value) (v20 : Value) (v21 : Value) (v22 : Value) (v23 : Value) (v24 : Value) (v25 : Value) (v26 : Value) (iLv : Int32) (iWs : Int32) (v29 : Value) (v30 : Value) (v31 : Value) (v32 : Value) (v33 : Value) (v34 : Value) (rO : Nat → Nat)  (hPp : T_np tA ≤ 8) : MR l yX6_thereMany cX6_thereMany 3 (some .int) 2 G cy [zzO qm 5 (v0 :: v1 :: v2 :: v3 :: v4 :: v5 :: v6 :: v7 :: v8 :: v9 :: .int (nI (T_nb tA)) :: .ref qmB :: .int (nI (T_np tA)) :: .ref qmO :: .ref qmK :: .int iEn :: .int iTk :: .int (T_sd tA) :: v18 :: v19 :: v20 :: v21 :: v22 :: v23 :: v24 :: v25 :: v26 :: .int iLv :: .int iWs :: v29 :: v30 :: v31 :: v32 :: v33 :: v34 :: []), zzG cy 3 qmO rO, zzI cy (rO 0) 5 (onR tA 0), zzI cy (rO 1) 5 (onR tA 1), zzI cy (rO 2) 5 (onR tA 2), zzI cy (rO 3) 5 (onR tA 3), zzI cy (rO 4) 5 (onR tA 4), zzI cy (rO 5) 5 (onR tA 5), zzI cy (rO 6) 5 (onR tA 6), zzI cy (rO 7) 5 (onR tA 7)] [.ref qm] (vp_Si (fun r => (r = (nI (tmF tA (T_np tA)))))) := by
  refine enR RX6 (by decide +kernel) rfl (Nat.le_of_ble_eq_true rfl) (fun p e s m below meth c ls hx hb hml hown hts hr hlocks hP hN hl => ?_)
  have hK := hN.1
  replace hl : lv_has ls 3 [(0, .ref qm)] := hl
  refine lv_iconst (v := 0) hx hb (g_3 bX6_thereMany rfl) (by decide +kernel) ?_
  refine lv_istore_n (lv' := [(1, .int 0), (0, .ref qm)]) hx hb (g_60 bX6_thereMany rfl) rfl hl (by decide +kernel) rfl (fun ls => ?_)
  clear hl
  intro hl
  refine lv_iconst (v := 0) hx hb (g_3 bX6_thereMany rfl) (by decide +kernel) ?_
  refine lv_istore_n (lv' := [(2, .int 0), (1, .int 0), (0, .ref qm)]) hx hb (g_61 bX6_thereMany rfl) rfl hl (by decide +kernel) rfl (fun ls => ?_)
  clear hl
  intro hl
  have lp_1 : ∀ (n_2 : Nat) (j_4 : Nat) (xC_5 : Int32), 8 - j_4 < n_2 → j_4 ≤ T_np tA → xC_5 = nI (tmF tA j_4) → ∀ (ls : Array Slot), lv_has ls 3 [(2, .int (nI j_4)), (1, .int xC_5), (0, .ref qm)] → W p l e (Rm 2 0 0) s m (List.toArray (α := Value) [.ref qm]) below meth c s.heap [] 0 0 (MQ below (vp_Si (fun r => (r = (nI (tmF tA (T_np tA)))))) (List.toArray (α := Value) [.ref qm]) s 0 0 (fun _ => False)) (F0 m 4 ls []) := by
    intro n_2
    induction n_2 with
    | zero => intro j_4 xC_5 hm9; exact absurd hm9 (Nat.not_lt_zero _)
    | succ n_2 ih_3 =>
      intro j_4 xC_5 hm_8 hj_6 hxC_7 ls hl
      refine lv_iload_n hx hb (g_28 bX6_thereMany rfl) rfl (lv_at hl 0 rfl) ?_
      refine lv_aload_n hx hb (g_42 bX6_thereMany rfl) rfl (lv_at hl 2 rfl) ?_
      refine va_get (D := G) (ci := 5) (v := .int (nI (T_np tA))) (C := RX6) (T := TX6) (N := 35) hx hb hts iX_X6 hown hK hP 0 rfl rfl 12 (by decide +kernel) (hts _ m_t862) (fun _ h9 => h9) rfl (g_180 (v := 78) bX6_thereMany rfl) ?_
      refine lv_icmp_ge (tgt := 34) hx hb dX6_thereMany_9 (by decide +kernel) (fun c_9 => ?_) (fun c_9 => ?_)
      · have hlt_10 : j_4 = T_np tA := Nat.le_antisymm (by omega) (lp_ge rfl rfl (by omega) (by omega) c_9)
        refine lv_iload_n hx hb (g_27 bX6_thereMany rfl) rfl (lv_at hl 1 rfl) ?_
        exact endR hx hb hr hlocks rfl (by rw [hxC_7, hlt_10]) (g_172 bX6_thereMany rfl)
      · have hlt_11 : j_4 < T_np tA := lp_lt rfl rfl (by omega) (by omega) c_9
        refine lv_iload_n hx hb (g_27 bX6_thereMany rfl) rfl (lv_at hl 1 rfl) ?_
        refine lv_aload_n hx hb (g_42 bX6_thereMany rfl) rfl (lv_at hl 2 rfl) ?_
        refine lv_iload_n hx hb (g_28 bX6_thereMany rfl) rfl (lv_at hl 0 rfl) ?_
        refine kRi (rV (As := [.int (nI j_4)]) (rest := [.int xC_5]) (b := qm) ⟨hx, hb, hml, hown, hts⟩ (c_X6_isThere l G cy qm v0 v1 v2 v3 v4 v5 v6 v7 v8 v9 tA qmB qmO qmK iEn iTk v18 v19 v20 v21 v22 v23 v24 v25 v26 iLv iWs v29 v30 v31 v32 v33 v34 rO j_4 (by first | omega | (simp only [nb_sr, np_sr, nb_wr, np_wr, nb_rd, np_rd, nb_ch, np_ch, nb_zr, np_zr, nb_za, np_za, nb_ey, np_ey, nb_hf, np_hf, nb_dd, np_dd, nb_so, np_so, nb_skn, np_skn, nb_swh, np_swh, nb_sgn, np_sgn, nb_ssd, np_ssd, nb_sgo, np_sgo, nb_sag, np_sag]; omega))) L_X6_81 (preRV (q := (RX6, TX6, 35)) hN hP (trueIx 0 [true, true, true, true, true, true, true, true, true, true]) (sel_fm rfl rfl) 0 5 rfl rfl) rfl ⟨Nat.le_of_ble_eq_true rfl, Nat.le_of_ble_eq_true rfl⟩ hl.1 (Nat.le_of_ble_eq_true rfl) (g_182 (v := 81) bX6_thereMany rfl) ⟨Nat.le_of_ble_eq_true rfl, Nat.le_of_ble_eq_true rfl⟩) (fun r_12 h_13 => ?_)
        rcases h_13 with ⟨rfl, h_14⟩ | ⟨rfl, h_14⟩
        · refine lv_if_eq (tgt := 25) hx hb dX6_thereMany_18 (by decide +kernel) (fun h9 => absurd h9 (by decide +kernel)) (fun _ => ?_)
          refine lv_iconst (v := 1) hx hb (g_4 bX6_thereMany rfl) (by decide +kernel) ?_
          refine lv_goto (tgt := 26) hx hb dX6_thereMany_22 (by decide +kernel) ?_
          refine lv_iadd hx hb (g_96 bX6_thereMany rfl) ?_
          refine lv_istore_n (lv' := [(1, .int (xC_5 + 1)), (2, .int (nI j_4)), (0, .ref qm)]) hx hb (g_60 bX6_thereMany rfl) rfl hl (by decide +kernel) rfl (fun ls => ?_)
          clear hl
          intro hl
          refine lv_iinc (v := nI (j_4 + 1)) (lv' := [(2, .int (nI (j_4 + 1))), (1, .int (xC_5 + 1)), (0, .ref qm)]) hx hb dX6_thereMany_28 hl (k := 1) rfl (nI_1 _) (by decide +kernel) rfl (fun ls => ?_)
          clear hl
          intro hl
          refine lv_goto (tgt := 4) hx hb dX6_thereMany_31 (by decide +kernel) ?_
          exact ih_3 (j_4 + 1) (xC_5 + 1) (by omega) (by omega) (by rw [hxC_7, tm_y h_14]; exact nI_add _ 1) _ (lv_sub hl [0, 1, 2] rfl)
        · refine lv_if_eq (tgt := 25) hx hb dX6_thereMany_18 (by decide +kernel) (fun _ => ?_) (fun h9 => absurd (by decide +kernel) h9)
          refine lv_iconst (v := 0) hx hb (g_3 bX6_thereMany rfl) (by decide +kernel) ?_
          refine lv_iadd hx hb (g_96 bX6_thereMany rfl) ?_
          refine lv_istore_n (lv' := [(1, .int (xC_5 + 0)), (2, .int (nI j_4)), (0, .ref qm)]) hx hb (g_60 bX6_thereMany rfl) rfl hl (by decide +kernel) rfl (fun ls => ?_)
          clear hl
          intro hl
          refine lv_iinc (v := nI (j_4 + 1)) (lv' := [(2, .int (nI (j_4 + 1))), (1, .int (xC_5 + 0)), (0, .ref qm)]) hx hb dX6_thereMany_28 hl (k := 1) rfl (nI_1 _) (by decide +kernel) rfl (fun ls => ?_)
          clear hl
          intro hl
          refine lv_goto (tgt := 4) hx hb dX6_thereMany_31 (by decide +kernel) ?_
          exact ih_3 (j_4 + 1) (xC_5 + 0) (by omega) (by omega) (by rw [hxC_7, tm_n h_14]; exact nI_add _ 0) _ (lv_sub hl [0, 1, 2] rfl)
  exact lp_1 ((8 - 0) + 1) 0 0 (Nat.lt_succ_self _) (Nat.zero_le _) rfl ls (lv_sub hl [0, 1, 2] rfl)
set_option maxHeartbeats 4000000 in
set_option maxRecDepth 100000 in
theorem c_X6_whiteMany (l : Launch) (G : va_G) (cy : Nat → ClassId) (qm : Nat) (v0 : Value) (v1 : Value) (v2 : Value) (v3 : Value) (v4 : Value) (v5 : Value) (v6 : Value) (v7 : Value) (v8 : Value) (v9 : Value) (tA : TA) (qmB : Nat) (qmO : Nat) (qmK : Nat) (iEn : Int32) (iTk : Int32) (v18 : Value) (v19 : Value) (v20 : Value) (v21 : Value) (v22 : Value) (v23 : Value) (v24 : Value) (v25 : Value) (v26 : Value) (iLv : Int32) (iWs : Int32) (v29 : Value) (v30 : Value) (v31 : Value) (v32 : Value) (v33 : Value) (v34 : Value) (rB : Nat → Nat)  (hB : T_nb tA ≤ 8) : MR l yX6_whiteMany cX6_whiteMany 3 (some .int) 1 G cy [zzO qm 5 (v0 :: v1 :: v2 :: v3 :: v4 :: v5 :: v6 :: v7 :: v8 :: v9 :: .int (nI (T_nb tA)) :: .ref qmB :: .int (nI (T_np tA)) :: .ref qmO :: .ref qmK :: .int iEn :: .int iTk :: .int (T_sd tA) :: v18 :: v19 :: v20 :: v21 :: v22 :: v23 :: v24 :: v25 :: v26 :: .int iLv :: .int iWs :: v29 :: v30 :: v31 :: v32 :: v33 :: v34 :: []), zzG cy 3 qmB rB, zzI cy (rB 0) 4 (bkR tA 0), zzI cy (rB 1) 4 (bkR tA 1), zzI cy (rB 2) 4 (bkR tA 2), zzI cy (rB 3) 4 (bkR tA 3), zzI cy (rB 4) 4 (bkR tA 4), zzI cy (rB 5) 4 (bkR tA 5), zzI cy (rB 6) 4 (bkR tA 6), zzI cy (rB 7) 4 (bkR tA 7)] [.ref qm] (vp_Si (fun r => (r = (wsum (fun b => b01 (T_wh tA b)) (T_nb tA))))) := by
  refine enR RX6 (by decide +kernel) rfl (Nat.le_of_ble_eq_true rfl) (fun p e s m below meth c ls hx hb hml hown hts hr hlocks hP hN hl => ?_)
  have hK := hN.1
  replace hl : lv_has ls 3 [(0, .ref qm)] := hl
  refine lv_iconst (v := 0) hx hb (g_3 bX6_whiteMany rfl) (by decide +kernel) ?_
  refine lv_istore_n (lv' := [(1, .int 0), (0, .ref qm)]) hx hb (g_60 bX6_whiteMany rfl) rfl hl (by decide +kernel) rfl (fun ls => ?_)
  clear hl
  intro hl
  refine lv_iconst (v := 0) hx hb (g_3 bX6_whiteMany rfl) (by decide +kernel) ?_
  refine lv_istore_n (lv' := [(2, .int 0), (1, .int 0), (0, .ref qm)]) hx hb (g_61 bX6_whiteMany rfl) rfl hl (by decide +kernel) rfl (fun ls => ?_)
  clear hl
  intro hl
  have lp_1 : ∀ (n_2 : Nat) (j_4 : Nat) (xC_5 : Int32), 8 - j_4 < n_2 → j_4 ≤ T_nb tA → xC_5 = wsum (fun b => b01 (T_wh tA b)) j_4 → ∀ (ls : Array Slot), lv_has ls 3 [(2, .int (nI j_4)), (1, .int xC_5), (0, .ref qm)] → W p l e (Rm 1 0 0) s m (List.toArray (α := Value) [.ref qm]) below meth c s.heap [] 0 0 (MQ below (vp_Si (fun r => (r = (wsum (fun b => b01 (T_wh tA b)) (T_nb tA))))) (List.toArray (α := Value) [.ref qm]) s 0 0 (fun _ => False)) (F0 m 4 ls []) := by
    intro n_2
    induction n_2 with
    | zero => intro j_4 xC_5 hm9; exact absurd hm9 (Nat.not_lt_zero _)
    | succ n_2 ih_3 =>
      intro j_4 xC_5 hm_8 hj_6 hxC_7 ls hl
      refine lv_iload_n hx hb (g_28 bX6_whiteMany rfl) rfl (lv_at hl 0 rfl) ?_
      refine lv_aload_n hx hb (g_42 bX6_whiteMany rfl) rfl (lv_at hl 2 rfl) ?_
      refine va_get (D := G) (ci := 5) (v := .int (nI (T_nb tA))) (C := RX6) (T := TX6) (N := 35) hx hb hts iX_X6 hown hK hP 0 rfl rfl 10 (by decide +kernel) (hts _ m_t860) (fun _ h9 => h9) rfl (g_180 (v := 71) bX6_whiteMany rfl) ?_
      refine lv_icmp_ge (tgt := 29) hx hb dX6_whiteMany_9 (by decide +kernel) (fun c_9 => ?_) (fun c_9 => ?_)
      · have hlt_10 : j_4 = T_nb tA := Nat.le_antisymm (by omega) (lp_ge rfl rfl (by omega) (by omega) c_9)
        refine lv_iload_n hx hb (g_27 bX6_whiteMany rfl) rfl (lv_at hl 1 rfl) ?_
        exact endR hx hb hr hlocks rfl (by rw [hxC_7, hlt_10]) (g_172 bX6_whiteMany rfl)
      · have hlt_11 : j_4 < T_nb tA := lp_lt rfl rfl (by omega) (by omega) c_9
        refine lv_iload_n hx hb (g_27 bX6_whiteMany rfl) rfl (lv_at hl 1 rfl) ?_
        refine lv_aload_n hx hb (g_42 bX6_whiteMany rfl) rfl (lv_at hl 2 rfl) ?_
        refine va_get (D := G) (ci := 5) (v := .ref qmB) (C := RX6) (T := TX6) (N := 35) hx hb hts iX_X6 hown hK hP 0 rfl rfl 11 (by decide +kernel) (hts _ m_t861) (fun _ h9 => h9) rfl (g_180 (v := 42) bX6_whiteMany rfl) ?_
        refine lv_iload_n hx hb (g_28 bX6_whiteMany rfl) rfl (lv_at hl 0 rfl) ?_
        refine va_alda hx hb hK hP 1 3 rfl rfl (in8 (by omega)) (g_50 bX6_whiteMany rfl) ?_
        refine lv_setv (v := .ref (rB j_4)) (g_ref (by omega)) ?_
        refine lv_iconst (v := 3) hx hb (g_6 bX6_whiteMany rfl) (by decide +kernel) ?_
        refine va_iald hx hb hK hP (2 + j_4) 0 (sg8 (n0 := 2) (f := (fun j => zzI cy (rB j) 4 (bkR tA j))) rfl rfl rfl rfl rfl rfl rfl rfl j_4 (by omega)) rfl (in_c rfl) (g_46 bX6_whiteMany rfl) ?_
        refine lv_seti (v := b01 (T_wh tA j_4)) (bk_3 _ _) ?_
        refine lv_iadd hx hb (g_96 bX6_whiteMany rfl) ?_
        refine lv_istore_n (lv' := [(1, .int (xC_5 + (b01 (T_wh tA j_4)))), (2, .int (nI j_4)), (0, .ref qm)]) hx hb (g_60 bX6_whiteMany rfl) rfl hl (by decide +kernel) rfl (fun ls => ?_)
        clear hl
        intro hl
        refine lv_iinc (v := nI (j_4 + 1)) (lv' := [(2, .int (nI (j_4 + 1))), (1, .int (xC_5 + (b01 (T_wh tA j_4)))), (0, .ref qm)]) hx hb dX6_whiteMany_23 hl (k := 1) rfl (nI_1 _) (by decide +kernel) rfl (fun ls => ?_)
        clear hl
        intro hl
        refine lv_goto (tgt := 4) hx hb dX6_whiteMany_26 (by decide +kernel) ?_
        exact ih_3 (j_4 + 1) (xC_5 + (b01 (T_wh tA j_4))) (by omega) (by omega) (by rw [hxC_7]; rfl) _ (lv_sub hl [0, 1, 2] rfl)
  exact lp_1 ((8 - 0) + 1) 0 0 (Nat.lt_succ_self _) (Nat.zero_le _) rfl ls (lv_sub hl [0, 1, 2] rfl)
set_option maxHeartbeats 4000000 in
set_option maxRecDepth 100000 in
theorem c_X6_bits (l : Launch) (G : va_G) (cy : Nat → ClassId) (iS : Int32)   : MR l yX6_bits cX6_bits 3 (some .int) 1 G cy [] [.int iS] (vp_Si (fun r => True)) := by
  refine enR RX6 (by decide +kernel) rfl (Nat.le_of_ble_eq_true rfl) (fun p e s m below meth c ls hx hb hml hown hts hr hlocks hP hN hl => ?_)
  have hK := hN.1
  replace hl : lv_has ls 3 [(0, .int iS)] := hl
  refine lv_iconst (v := 0) hx hb (g_3 bX6_bits rfl) (by decide +kernel) ?_
  refine lv_istore_n (lv' := [(1, .int 0), (0, .int iS)]) hx hb (g_60 bX6_bits rfl) rfl hl (by decide +kernel) rfl (fun ls => ?_)
  clear hl
  intro hl
  refine lv_iconst (v := 0) hx hb (g_3 bX6_bits rfl) (by decide +kernel) ?_
  refine lv_istore_n (lv' := [(2, .int 0), (1, .int 0), (0, .int iS)]) hx hb (g_61 bX6_bits rfl) rfl hl (by decide +kernel) rfl (fun ls => ?_)
  clear hl
  intro hl
  have lp_1 : ∀ (n_2 : Nat) (j_4 : Nat) (xC_5 : Int32), 8 - j_4 < n_2 → j_4 ≤ 8 → ∀ (ls : Array Slot), lv_has ls 3 [(2, .int (nI j_4)), (1, .int xC_5), (0, .int iS)] → W p l e (Rm 1 0 0) s m (List.toArray (α := Value) [.int iS]) below meth c s.heap [] 0 0 (MQ below (vp_Si (fun r => True)) (List.toArray (α := Value) [.int iS]) s 0 0 (fun _ => False)) (F0 m 4 ls []) := by
    intro n_2
    induction n_2 with
    | zero => intro j_4 xC_5 hm9; exact absurd hm9 (Nat.not_lt_zero _)
    | succ n_2 ih_3 =>
      intro j_4 xC_5 hm_7 hj_6 ls hl
      refine lv_iload_n hx hb (g_28 bX6_bits rfl) rfl (lv_at hl 0 rfl) ?_
      refine lv_bipush (v := 8) hx hb dX6_bits_5 (by decide +kernel) ?_
      refine lv_icmp_ge (tgt := 24) hx hb dX6_bits_7 (by decide +kernel) (fun c_8 => ?_) (fun c_8 => ?_)
      · have hlt_9 : j_4 = 8 := Nat.le_antisymm (by omega) (lp_ge rfl (rfl : (8 : Int32) = nI 8) (by omega) (by omega) c_8)
        refine lv_iload_n hx hb (g_27 bX6_bits rfl) rfl (lv_at hl 1 rfl) ?_
        exact endR hx hb hr hlocks rfl trivial (g_172 bX6_bits rfl)
      · have hlt_10 : j_4 < 8 := lp_lt rfl (rfl : (8 : Int32) = nI 8) (by omega) (by omega) c_8
        refine lv_iload_n hx hb (g_27 bX6_bits rfl) rfl (lv_at hl 1 rfl) ?_
        refine lv_iload_n hx hb (g_26 bX6_bits rfl) rfl (lv_at hl 2 rfl) ?_
        refine lv_iload_n hx hb (g_28 bX6_bits rfl) rfl (lv_at hl 0 rfl) ?_
        refine lv_ishr hx hb (g_122 bX6_bits rfl) ?_
        refine lv_iconst (v := 1) hx hb (g_4 bX6_bits rfl) (by decide +kernel) ?_
        refine lv_iand hx hb (g_126 bX6_bits rfl) ?_
        refine lv_iadd hx hb (g_96 bX6_bits rfl) ?_
        refine lv_istore_n (lv' := [(1, .int (xC_5 + ((iS >>> ((nI j_4) &&& 31)) &&& 1))), (2, .int (nI j_4)), (0, .int iS)]) hx hb (g_60 bX6_bits rfl) rfl hl (by decide +kernel) rfl (fun ls => ?_)
        clear hl
        intro hl
        refine lv_iinc (v := nI (j_4 + 1)) (lv' := [(2, .int (nI (j_4 + 1))), (1, .int (xC_5 + ((iS >>> ((nI j_4) &&& 31)) &&& 1))), (0, .int iS)]) hx hb dX6_bits_18 hl (k := 1) rfl (nI_1 _) (by decide +kernel) rfl (fun ls => ?_)
        clear hl
        intro hl
        refine lv_goto (tgt := 4) hx hb dX6_bits_21 (by decide +kernel) ?_
        exact ih_3 (j_4 + 1) (xC_5 + ((iS >>> ((nI j_4) &&& 31)) &&& 1)) (by omega) (by omega) _ (lv_sub hl [0, 1, 2] rfl)
  exact lp_1 ((8 - 0) + 1) 0 0 (Nat.lt_succ_self _) (Nat.zero_le _) ls (lv_sub hl [0, 1, 2] rfl)
set_option maxHeartbeats 4000000 in
set_option maxRecDepth 100000 in
theorem c_X6_refuse2 (l : Launch) (G : va_G) (cy : Nat → ClassId) (sz : Nat) (qm : Nat) (v0 : Value) (v1 : Value) (v2 : Value) (v3 : Value) (v4 : Value) (v5 : Value) (v6 : Value) (v7 : Value) (v8 : Value) (qmr : Nat) (tA : TA) (qmB : Nat) (qmO : Nat) (qmK : Nat) (iEn : Int32) (iTk : Int32) (v18 : Value) (v19 : Value) (v20 : Value) (v21 : Value) (v22 : Value) (v23 : Value) (v24 : Value) (v25 : Value) (v26 : Value) (iLv : Int32) (iWs : Int32) (v29 : Value) (v30 : Value) (v31 : Value) (v32 : Value) (v33 : Value) (v34 : Value) (fR : Nat → Int32)   : MW l yX6_refuse cX6_refuse 2 (some .int) 1 0 0 G cy [zzO qm 5 (v0 :: v1 :: v2 :: v3 :: v4 :: v5 :: v6 :: v7 :: v8 :: .ref qmr :: .int (nI (T_nb tA)) :: .ref qmB :: .int (nI (T_np tA)) :: .ref qmO :: .ref qmK :: .int iEn :: .int iTk :: .int (T_sd tA) :: v18 :: v19 :: v20 :: v21 :: v22 :: v23 :: v24 :: v25 :: v26 :: .int iLv :: .int iWs :: v29 :: v30 :: v31 :: v32 :: v33 :: v34 :: []), zzI cy qmr 8 fR] sz [.ref qm, .int (-2)] (Wi G (fun r u => ∃ (fX : Nat → Int32), u = [zzO qm 5 (v0 :: v1 :: v2 :: v3 :: v4 :: v5 :: v6 :: v7 :: v8 :: .ref qmr :: .int (nI (T_nb tA)) :: .ref qmB :: .int (nI (T_np tA)) :: .ref qmO :: .ref qmK :: .int iEn :: .int iTk :: .int (T_sd tA) :: v18 :: v19 :: v20 :: v21 :: v22 :: v23 :: v24 :: v25 :: v26 :: .int iLv :: .int iWs :: v29 :: v30 :: v31 :: v32 :: v33 :: v34 :: []), zzI cy qmr 8 fX] ∧ ((r = (-2))))) := by
  refine enW RX6 (by decide +kernel) rfl (Nat.le_of_ble_eq_true rfl) (fun p e s m below meth c ls A hx hb hml hown hts hr hlocks hP hN hl hin hD hA hS => ?_)
  have hin : meth.name = _ := hin
  have hK := hN.1
  replace hl : lv_has ls 2 [(0, .ref qm), (1, .int (-2))] := hl
  refine lv_aload_n hx hb (g_42 bX6_refuse rfl) rfl (lv_at hl 0 rfl) ?_
  refine va_get (D := G) (ci := 5) (v := .ref qmr) (C := RX6) (T := TX6) (N := 35) hx hb hts iX_X6 hown hK hP 0 rfl rfl 9 (by decide +kernel) (hts _ m_t859) (fun _ h9 => h9) rfl (g_180 (v := 37) bX6_refuse rfl) ?_
  refine lv_iload_n hx hb (g_27 bX6_refuse rfl) rfl (lv_at hl 1 rfl) ?_
  refine lv_ineg hx hb (g_116 bX6_refuse rfl) ?_
  refine lv_seti (v := 2) (by decide +kernel) ?_
  refine lv_dup2_11 hx hb (g_92 bX6_refuse rfl) rfl rfl ?_
  refine va_iald hx hb hK hP 1 0 rfl rfl (in_c rfl) (g_46 bX6_refuse rfl) ?_
  refine lv_seti (v := fR 2) (congrArg fR (by decide +kernel)) ?_
  refine lv_iconst (v := 1) hx hb (g_4 bX6_refuse rfl) (by decide +kernel) ?_
  refine lv_iadd hx hb (g_96 bX6_refuse rfl) ?_
  refine va_iast hx hb hK hP hD hS 1 0 rfl rfl (in_c rfl) (g_79 bX6_refuse rfl) (fun H locs => ?_)
  clear hP hD hS
  intro hP hD hS
  have hPD := pd_as [_, zzI cy qmr 8 (upd fR 2 ((fR 2) + 1))] hP hD rfl
  clear hP hD
  obtain ⟨hP, hD⟩ := hPD
  refine lv_iload_n hx hb (g_27 bX6_refuse rfl) rfl (lv_at hl 1 rfl) ?_
  exact endWs [[true, true]] hx hb hr hlocks rfl hP hD rfl (by decide +kernel) hS ⟨upd fR 2 ((fR 2) + 1), rfl, rfl⟩ (g_172 bX6_refuse rfl)
set_option maxHeartbeats 4000000 in
set_option maxRecDepth 100000 in
theorem c_X6_refuse3 (l : Launch) (G : va_G) (cy : Nat → ClassId) (sz : Nat) (qm : Nat) (v0 : Value) (v1 : Value) (v2 : Value) (v3 : Value) (v4 : Value) (v5 : Value) (v6 : Value) (v7 : Value) (v8 : Value) (qmr : Nat) (tA : TA) (qmB : Nat) (qmO : Nat) (qmK : Nat) (iEn : Int32) (iTk : Int32) (v18 : Value) (v19 : Value) (v20 : Value) (v21 : Value) (v22 : Value) (v23 : Value) (v24 : Value) (v25 : Value) (v26 : Value) (iLv : Int32) (iWs : Int32) (v29 : Value) (v30 : Value) (v31 : Value) (v32 : Value) (v33 : Value) (v34 : Value) (fR : Nat → Int32)   : MW l yX6_refuse cX6_refuse 2 (some .int) 1 0 0 G cy [zzO qm 5 (v0 :: v1 :: v2 :: v3 :: v4 :: v5 :: v6 :: v7 :: v8 :: .ref qmr :: .int (nI (T_nb tA)) :: .ref qmB :: .int (nI (T_np tA)) :: .ref qmO :: .ref qmK :: .int iEn :: .int iTk :: .int (T_sd tA) :: v18 :: v19 :: v20 :: v21 :: v22 :: v23 :: v24 :: v25 :: v26 :: .int iLv :: .int iWs :: v29 :: v30 :: v31 :: v32 :: v33 :: v34 :: []), zzI cy qmr 8 fR] sz [.ref qm, .int (-3)] (Wi G (fun r u => ∃ (fX : Nat → Int32), u = [zzO qm 5 (v0 :: v1 :: v2 :: v3 :: v4 :: v5 :: v6 :: v7 :: v8 :: .ref qmr :: .int (nI (T_nb tA)) :: .ref qmB :: .int (nI (T_np tA)) :: .ref qmO :: .ref qmK :: .int iEn :: .int iTk :: .int (T_sd tA) :: v18 :: v19 :: v20 :: v21 :: v22 :: v23 :: v24 :: v25 :: v26 :: .int iLv :: .int iWs :: v29 :: v30 :: v31 :: v32 :: v33 :: v34 :: []), zzI cy qmr 8 fX] ∧ ((r = (-3))))) := by
  refine enW RX6 (by decide +kernel) rfl (Nat.le_of_ble_eq_true rfl) (fun p e s m below meth c ls A hx hb hml hown hts hr hlocks hP hN hl hin hD hA hS => ?_)
  have hin : meth.name = _ := hin
  have hK := hN.1
  replace hl : lv_has ls 2 [(0, .ref qm), (1, .int (-3))] := hl
  refine lv_aload_n hx hb (g_42 bX6_refuse rfl) rfl (lv_at hl 0 rfl) ?_
  refine va_get (D := G) (ci := 5) (v := .ref qmr) (C := RX6) (T := TX6) (N := 35) hx hb hts iX_X6 hown hK hP 0 rfl rfl 9 (by decide +kernel) (hts _ m_t859) (fun _ h9 => h9) rfl (g_180 (v := 37) bX6_refuse rfl) ?_
  refine lv_iload_n hx hb (g_27 bX6_refuse rfl) rfl (lv_at hl 1 rfl) ?_
  refine lv_ineg hx hb (g_116 bX6_refuse rfl) ?_
  refine lv_seti (v := 3) (by decide +kernel) ?_
  refine lv_dup2_11 hx hb (g_92 bX6_refuse rfl) rfl rfl ?_
  refine va_iald hx hb hK hP 1 0 rfl rfl (in_c rfl) (g_46 bX6_refuse rfl) ?_
  refine lv_seti (v := fR 3) (congrArg fR (by decide +kernel)) ?_
  refine lv_iconst (v := 1) hx hb (g_4 bX6_refuse rfl) (by decide +kernel) ?_
  refine lv_iadd hx hb (g_96 bX6_refuse rfl) ?_
  refine va_iast hx hb hK hP hD hS 1 0 rfl rfl (in_c rfl) (g_79 bX6_refuse rfl) (fun H locs => ?_)
  clear hP hD hS
  intro hP hD hS
  have hPD := pd_as [_, zzI cy qmr 8 (upd fR 3 ((fR 3) + 1))] hP hD rfl
  clear hP hD
  obtain ⟨hP, hD⟩ := hPD
  refine lv_iload_n hx hb (g_27 bX6_refuse rfl) rfl (lv_at hl 1 rfl) ?_
  exact endWs [[true, true]] hx hb hr hlocks rfl hP hD rfl (by decide +kernel) hS ⟨upd fR 3 ((fR 3) + 1), rfl, rfl⟩ (g_172 bX6_refuse rfl)
set_option maxHeartbeats 4000000 in
set_option maxRecDepth 100000 in
theorem c_X6_refuse4 (l : Launch) (G : va_G) (cy : Nat → ClassId) (sz : Nat) (qm : Nat) (v0 : Value) (v1 : Value) (v2 : Value) (v3 : Value) (v4 : Value) (v5 : Value) (v6 : Value) (v7 : Value) (v8 : Value) (qmr : Nat) (tA : TA) (qmB : Nat) (qmO : Nat) (qmK : Nat) (iEn : Int32) (iTk : Int32) (v18 : Value) (v19 : Value) (v20 : Value) (v21 : Value) (v22 : Value) (v23 : Value) (v24 : Value) (v25 : Value) (v26 : Value) (iLv : Int32) (iWs : Int32) (v29 : Value) (v30 : Value) (v31 : Value) (v32 : Value) (v33 : Value) (v34 : Value) (fR : Nat → Int32)   : MW l yX6_refuse cX6_refuse 2 (some .int) 1 0 0 G cy [zzO qm 5 (v0 :: v1 :: v2 :: v3 :: v4 :: v5 :: v6 :: v7 :: v8 :: .ref qmr :: .int (nI (T_nb tA)) :: .ref qmB :: .int (nI (T_np tA)) :: .ref qmO :: .ref qmK :: .int iEn :: .int iTk :: .int (T_sd tA) :: v18 :: v19 :: v20 :: v21 :: v22 :: v23 :: v24 :: v25 :: v26 :: .int iLv :: .int iWs :: v29 :: v30 :: v31 :: v32 :: v33 :: v34 :: []), zzI cy qmr 8 fR] sz [.ref qm, .int (-4)] (Wi G (fun r u => ∃ (fX : Nat → Int32), u = [zzO qm 5 (v0 :: v1 :: v2 :: v3 :: v4 :: v5 :: v6 :: v7 :: v8 :: .ref qmr :: .int (nI (T_nb tA)) :: .ref qmB :: .int (nI (T_np tA)) :: .ref qmO :: .ref qmK :: .int iEn :: .int iTk :: .int (T_sd tA) :: v18 :: v19 :: v20 :: v21 :: v22 :: v23 :: v24 :: v25 :: v26 :: .int iLv :: .int iWs :: v29 :: v30 :: v31 :: v32 :: v33 :: v34 :: []), zzI cy qmr 8 fX] ∧ ((r = (-4))))) := by
  refine enW RX6 (by decide +kernel) rfl (Nat.le_of_ble_eq_true rfl) (fun p e s m below meth c ls A hx hb hml hown hts hr hlocks hP hN hl hin hD hA hS => ?_)
  have hin : meth.name = _ := hin
  have hK := hN.1
  replace hl : lv_has ls 2 [(0, .ref qm), (1, .int (-4))] := hl
  refine lv_aload_n hx hb (g_42 bX6_refuse rfl) rfl (lv_at hl 0 rfl) ?_
  refine va_get (D := G) (ci := 5) (v := .ref qmr) (C := RX6) (T := TX6) (N := 35) hx hb hts iX_X6 hown hK hP 0 rfl rfl 9 (by decide +kernel) (hts _ m_t859) (fun _ h9 => h9) rfl (g_180 (v := 37) bX6_refuse rfl) ?_
  refine lv_iload_n hx hb (g_27 bX6_refuse rfl) rfl (lv_at hl 1 rfl) ?_
  refine lv_ineg hx hb (g_116 bX6_refuse rfl) ?_
  refine lv_seti (v := 4) (by decide +kernel) ?_
  refine lv_dup2_11 hx hb (g_92 bX6_refuse rfl) rfl rfl ?_
  refine va_iald hx hb hK hP 1 0 rfl rfl (in_c rfl) (g_46 bX6_refuse rfl) ?_
  refine lv_seti (v := fR 4) (congrArg fR (by decide +kernel)) ?_
  refine lv_iconst (v := 1) hx hb (g_4 bX6_refuse rfl) (by decide +kernel) ?_
  refine lv_iadd hx hb (g_96 bX6_refuse rfl) ?_
  refine va_iast hx hb hK hP hD hS 1 0 rfl rfl (in_c rfl) (g_79 bX6_refuse rfl) (fun H locs => ?_)
  clear hP hD hS
  intro hP hD hS
  have hPD := pd_as [_, zzI cy qmr 8 (upd fR 4 ((fR 4) + 1))] hP hD rfl
  clear hP hD
  obtain ⟨hP, hD⟩ := hPD
  refine lv_iload_n hx hb (g_27 bX6_refuse rfl) rfl (lv_at hl 1 rfl) ?_
  exact endWs [[true, true]] hx hb hr hlocks rfl hP hD rfl (by decide +kernel) hS ⟨upd fR 4 ((fR 4) + 1), rfl, rfl⟩ (g_172 bX6_refuse rfl)
set_option maxHeartbeats 4000000 in
set_option maxRecDepth 100000 in
theorem c_X6_refuse5 (l : Launch) (G : va_G) (cy : Nat → ClassId) (sz : Nat) (qm : Nat) (v0 : Value) (v1 : Value) (v2 : Value) (v3 : Value) (v4 : Value) (v5 : Value) (v6 : Value) (v7 : Value) (v8 : Value) (qmr : Nat) (tA : TA) (qmB : Nat) (qmO : Nat) (qmK : Nat) (iEn : Int32) (iTk : Int32) (v18 : Value) (v19 : Value) (v20 : Value) (v21 : Value) (v22 : Value) (v23 : Value) (v24 : Value) (v25 : Value) (v26 : Value) (iLv : Int32) (iWs : Int32) (v29 : Value) (v30 : Value) (v31 : Value) (v32 : Value) (v33 : Value) (v34 : Value) (fR : Nat → Int32)   : MW l yX6_refuse cX6_refuse 2 (some .int) 1 0 0 G cy [zzO qm 5 (v0 :: v1 :: v2 :: v3 :: v4 :: v5 :: v6 :: v7 :: v8 :: .ref qmr :: .int (nI (T_nb tA)) :: .ref qmB :: .int (nI (T_np tA)) :: .ref qmO :: .ref qmK :: .int iEn :: .int iTk :: .int (T_sd tA) :: v18 :: v19 :: v20 :: v21 :: v22 :: v23 :: v24 :: v25 :: v26 :: .int iLv :: .int iWs :: v29 :: v30 :: v31 :: v32 :: v33 :: v34 :: []), zzI cy qmr 8 fR] sz [.ref qm, .int (-5)] (Wi G (fun r u => ∃ (fX : Nat → Int32), u = [zzO qm 5 (v0 :: v1 :: v2 :: v3 :: v4 :: v5 :: v6 :: v7 :: v8 :: .ref qmr :: .int (nI (T_nb tA)) :: .ref qmB :: .int (nI (T_np tA)) :: .ref qmO :: .ref qmK :: .int iEn :: .int iTk :: .int (T_sd tA) :: v18 :: v19 :: v20 :: v21 :: v22 :: v23 :: v24 :: v25 :: v26 :: .int iLv :: .int iWs :: v29 :: v30 :: v31 :: v32 :: v33 :: v34 :: []), zzI cy qmr 8 fX] ∧ ((r = (-5))))) := by
  refine enW RX6 (by decide +kernel) rfl (Nat.le_of_ble_eq_true rfl) (fun p e s m below meth c ls A hx hb hml hown hts hr hlocks hP hN hl hin hD hA hS => ?_)
  have hin : meth.name = _ := hin
  have hK := hN.1
  replace hl : lv_has ls 2 [(0, .ref qm), (1, .int (-5))] := hl
  refine lv_aload_n hx hb (g_42 bX6_refuse rfl) rfl (lv_at hl 0 rfl) ?_
  refine va_get (D := G) (ci := 5) (v := .ref qmr) (C := RX6) (T := TX6) (N := 35) hx hb hts iX_X6 hown hK hP 0 rfl rfl 9 (by decide +kernel) (hts _ m_t859) (fun _ h9 => h9) rfl (g_180 (v := 37) bX6_refuse rfl) ?_
  refine lv_iload_n hx hb (g_27 bX6_refuse rfl) rfl (lv_at hl 1 rfl) ?_
  refine lv_ineg hx hb (g_116 bX6_refuse rfl) ?_
  refine lv_seti (v := 5) (by decide +kernel) ?_
  refine lv_dup2_11 hx hb (g_92 bX6_refuse rfl) rfl rfl ?_
  refine va_iald hx hb hK hP 1 0 rfl rfl (in_c rfl) (g_46 bX6_refuse rfl) ?_
  refine lv_seti (v := fR 5) (congrArg fR (by decide +kernel)) ?_
  refine lv_iconst (v := 1) hx hb (g_4 bX6_refuse rfl) (by decide +kernel) ?_
  refine lv_iadd hx hb (g_96 bX6_refuse rfl) ?_
  refine va_iast hx hb hK hP hD hS 1 0 rfl rfl (in_c rfl) (g_79 bX6_refuse rfl) (fun H locs => ?_)
  clear hP hD hS
  intro hP hD hS
  have hPD := pd_as [_, zzI cy qmr 8 (upd fR 5 ((fR 5) + 1))] hP hD rfl
  clear hP hD
  obtain ⟨hP, hD⟩ := hPD
  refine lv_iload_n hx hb (g_27 bX6_refuse rfl) rfl (lv_at hl 1 rfl) ?_
  exact endWs [[true, true]] hx hb hr hlocks rfl hP hD rfl (by decide +kernel) hS ⟨upd fR 5 ((fR 5) + 1), rfl, rfl⟩ (g_172 bX6_refuse rfl)
set_option maxHeartbeats 4000000 in
set_option maxRecDepth 100000 in
theorem c_X6_refuse6 (l : Launch) (G : va_G) (cy : Nat → ClassId) (sz : Nat) (qm : Nat) (v0 : Value) (v1 : Value) (v2 : Value) (v3 : Value) (v4 : Value) (v5 : Value) (v6 : Value) (v7 : Value) (v8 : Value) (qmr : Nat) (tA : TA) (qmB : Nat) (qmO : Nat) (qmK : Nat) (iEn : Int32) (iTk : Int32) (v18 : Value) (v19 : Value) (v20 : Value) (v21 : Value) (v22 : Value) (v23 : Value) (v24 : Value) (v25 : Value) (v26 : Value) (iLv : Int32) (iWs : Int32) (v29 : Value) (v30 : Value) (v31 : Value) (v32 : Value) (v33 : Value) (v34 : Value) (fR : Nat → Int32)   : MW l yX6_refuse cX6_refuse 2 (some .int) 1 0 0 G cy [zzO qm 5 (v0 :: v1 :: v2 :: v3 :: v4 :: v5 :: v6 :: v7 :: v8 :: .ref qmr :: .int (nI (T_nb tA)) :: .ref qmB :: .int (nI (T_np tA)) :: .ref qmO :: .ref qmK :: .int iEn :: .int iTk :: .int (T_sd tA) :: v18 :: v19 :: v20 :: v21 :: v22 :: v23 :: v24 :: v25 :: v26 :: .int iLv :: .int iWs :: v29 :: v30 :: v31 :: v32 :: v33 :: v34 :: []), zzI cy qmr 8 fR] sz [.ref qm, .int (-6)] (Wi G (fun r u => ∃ (fX : Nat → Int32), u = [zzO qm 5 (v0 :: v1 :: v2 :: v3 :: v4 :: v5 :: v6 :: v7 :: v8 :: .ref qmr :: .int (nI (T_nb tA)) :: .ref qmB :: .int (nI (T_np tA)) :: .ref qmO :: .ref qmK :: .int iEn :: .int iTk :: .int (T_sd tA) :: v18 :: v19 :: v20 :: v21 :: v22 :: v23 :: v24 :: v25 :: v26 :: .int iLv :: .int iWs :: v29 :: v30 :: v31 :: v32 :: v33 :: v34 :: []), zzI cy qmr 8 fX] ∧ ((r = (-6))))) := by
  refine enW RX6 (by decide +kernel) rfl (Nat.le_of_ble_eq_true rfl) (fun p e s m below meth c ls A hx hb hml hown hts hr hlocks hP hN hl hin hD hA hS => ?_)
  have hin : meth.name = _ := hin
  have hK := hN.1
  replace hl : lv_has ls 2 [(0, .ref qm), (1, .int (-6))] := hl
  refine lv_aload_n hx hb (g_42 bX6_refuse rfl) rfl (lv_at hl 0 rfl) ?_
  refine va_get (D := G) (ci := 5) (v := .ref qmr) (C := RX6) (T := TX6) (N := 35) hx hb hts iX_X6 hown hK hP 0 rfl rfl 9 (by decide +kernel) (hts _ m_t859) (fun _ h9 => h9) rfl (g_180 (v := 37) bX6_refuse rfl) ?_
  refine lv_iload_n hx hb (g_27 bX6_refuse rfl) rfl (lv_at hl 1 rfl) ?_
  refine lv_ineg hx hb (g_116 bX6_refuse rfl) ?_
  refine lv_seti (v := 6) (by decide +kernel) ?_
  refine lv_dup2_11 hx hb (g_92 bX6_refuse rfl) rfl rfl ?_
  refine va_iald hx hb hK hP 1 0 rfl rfl (in_c rfl) (g_46 bX6_refuse rfl) ?_
  refine lv_seti (v := fR 6) (congrArg fR (by decide +kernel)) ?_
  refine lv_iconst (v := 1) hx hb (g_4 bX6_refuse rfl) (by decide +kernel) ?_
  refine lv_iadd hx hb (g_96 bX6_refuse rfl) ?_
  refine va_iast hx hb hK hP hD hS 1 0 rfl rfl (in_c rfl) (g_79 bX6_refuse rfl) (fun H locs => ?_)
  clear hP hD hS
  intro hP hD hS
  have hPD := pd_as [_, zzI cy qmr 8 (upd fR 6 ((fR 6) + 1))] hP hD rfl
  clear hP hD
  obtain ⟨hP, hD⟩ := hPD
  refine lv_iload_n hx hb (g_27 bX6_refuse rfl) rfl (lv_at hl 1 rfl) ?_
  exact endWs [[true, true]] hx hb hr hlocks rfl hP hD rfl (by decide +kernel) hS ⟨upd fR 6 ((fR 6) + 1), rfl, rfl⟩ (g_172 bX6_refuse rfl)
set_option maxHeartbeats 4000000 in
set_option maxRecDepth 100000 in
theorem c_X6_groundOf (l : Launch) (G : va_G) (cy : Nat → ClassId) (qm : Nat) (v0 : Value) (v1 : Value) (v2 : Value) (v3 : Value) (v4 : Value) (v5 : Value) (v6 : Value) (v7 : Value) (v8 : Value) (v9 : Value) (tA : TA) (qmB : Nat) (qmO : Nat) (qmK : Nat) (iEn : Int32) (iTk : Int32) (v18 : Value) (v19 : Value) (v20 : Value) (v21 : Value) (v22 : Value) (v23 : Value) (v24 : Value) (v25 : Value) (v26 : Value) (iLv : Int32) (iWs : Int32) (v29 : Value) (v30 : Value) (v31 : Value) (v32 : Value) (v33 : Value) (v34 : Value) (rB : Nat → Nat) (rK : Nat → Nat) (kI : Nat) (kB : Nat)  (hI : kI < 8) (hJ : kB < 8) : MR l yX6_groundOf cX6_groundOf 6 (some .int) 1 G cy [zzO qm 5 (v0 :: v1 :: v2 :: v3 :: v4 :: v5 :: v6 :: v7 :: v8 :: v9 :: .int (nI (T_nb tA)) :: .ref qmB :: .int (nI (T_np tA)) :: .ref qmO :: .ref qmK :: .int iEn :: .int iTk :: .int (T_sd tA) :: v18 :: v19 :: v20 :: v21 :: v22 :: v23 :: v24 :: v25 :: v26 :: .int iLv :: .int iWs :: v29 :: v30 :: v31 :: v32 :: v33 :: v34 :: []), zzG cy 3 qmB rB, zzI cy (rB 0) 4 (bkR tA 0), zzI cy (rB 1) 4 (bkR tA 1), zzI cy (rB 2) 4 (bkR tA 2), zzI cy (rB 3) 4 (bkR tA 3), zzI cy (rB 4) 4 (bkR tA 4), zzI cy (rB 5) 4 (bkR tA 5), zzI cy (rB 6) 4 (bkR tA 6), zzI cy (rB 7) 4 (bkR tA 7), zzG cy 3 qmK rK, zzI cy (rK 0) 8 (T_kn tA 0), zzI cy (rK 1) 8 (T_kn tA 1), zzI cy (rK 2) 8 (T_kn tA 2), zzI cy (rK 3) 8 (T_kn tA 3), zzI cy (rK 4) 8 (T_kn tA 4), zzI cy (rK 5) 8 (T_kn tA 5), zzI cy (rK 6) 8 (T_kn tA 6), zzI cy (rK 7) 8 (T_kn tA 7)] [.ref qm, .int (nI kI), .int (nI kB)] (vp_Si (fun r => (r = (zgd tA kI kB)))) := by
  refine enR RX6 (by decide +kernel) rfl (Nat.le_of_ble_eq_true rfl) (fun p e s m below meth c ls hx hb hml hown hts hr hlocks hP hN hl => ?_)
  have hK := hN.1
  replace hl : lv_has ls 6 [(0, .ref qm), (1, .int (nI kI)), (2, .int (nI kB))] := hl
  refine lv_sipush (v := 1000) hx hb dX6_groundOf_0 (by decide +kernel) ?_
  refine lv_istore_n (lv' := [(3, .int 1000), (0, .ref qm), (1, .int (nI kI)), (2, .int (nI kB))]) hx hb (g_62 bX6_groundOf rfl) rfl hl (by decide +kernel) rfl (fun ls => ?_)
  clear hl
  intro hl
  refine lv_iconst (v := 0) hx hb (g_3 bX6_groundOf rfl) (by decide +kernel) ?_
  refine lv_istore (lv' := [(4, .int 0), (3, .int 1000), (0, .ref qm), (1, .int (nI kI)), (2, .int (nI kB))]) hx hb (g_54 (v := 4) bX6_groundOf rfl) hl (by decide +kernel) rfl (fun ls => ?_)
  clear hl
  intro hl
  have lp_1 : ∀ (n_2 : Nat) (j_4 : Nat) (xM_5 : Int32), 8 - j_4 < n_2 → j_4 ≤ kB → xM_5 = gdF (T_ne tA kB) (T_kn tA kI) j_4 → ∀ (ls : Array Slot), lv_has ls 6 [(4, .int (nI j_4)), (3, .int xM_5), (0, .ref qm), (1, .int (nI kI)), (2, .int (nI kB))] → W p l e (Rm 1 0 0) s m (List.toArray (α := Value) [.ref qm, .int (nI kI), .int (nI kB)]) below meth c s.heap [] 0 0 (MQ below (vp_Si (fun r => (r = (zgd tA kI kB)))) (List.toArray (α := Value) [.ref qm, .int (nI kI), .int (nI kB)]) s 0 0 (fun _ => False)) (F0 m 7 ls []) := by
    intro n_2
    induction n_2 with
    | zero => intro j_4 xM_5 hm9; exact absurd hm9 (Nat.not_lt_zero _)
    | succ n_2 ih_3 =>
      intro j_4 xM_5 hm_8 hj_6 hxM_7 ls hl
      refine lv_iload hx hb (g_21 (v := 4) bX6_groundOf rfl) (lv_at hl 0 rfl) ?_
      refine lv_iload_n hx hb (g_28 bX6_groundOf rfl) rfl (lv_at hl 4 rfl) ?_
      refine lv_icmp_ge (tgt := 74) hx hb dX6_groundOf_10 (by decide +kernel) (fun c_9 => ?_) (fun c_9 => ?_)
      · have hlt_10 : j_4 = kB := Nat.le_antisymm (by omega) (lp_ge rfl rfl (by omega) (by omega) c_9)
        refine lv_iload_n hx hb (g_29 bX6_groundOf rfl) rfl (lv_at hl 1 rfl) ?_
        exact endR hx hb hr hlocks rfl (by rw [hxM_7, hlt_10]; rfl) (g_172 bX6_groundOf rfl)
      · have hlt_11 : j_4 < kB := lp_lt rfl rfl (by omega) (by omega) c_9
        refine lv_aload_n hx hb (g_42 bX6_groundOf rfl) rfl (lv_at hl 2 rfl) ?_
        refine va_get (D := G) (ci := 5) (v := .ref qmB) (C := RX6) (T := TX6) (N := 35) hx hb hts iX_X6 hown hK hP 0 rfl rfl 11 (by decide +kernel) (hts _ m_t861) (fun _ h9 => h9) rfl (g_180 (v := 42) bX6_groundOf rfl) ?_
        refine lv_iload_n hx hb (g_28 bX6_groundOf rfl) rfl (lv_at hl 4 rfl) ?_
        refine va_alda hx hb hK hP 1 3 rfl rfl (in8 (by omega)) (g_50 bX6_groundOf rfl) ?_
        refine lv_setv (v := .ref (rB kB)) (g_ref (by omega)) ?_
        refine lv_iconst (v := 1) hx hb (g_4 bX6_groundOf rfl) (by decide +kernel) ?_
        refine va_iald hx hb hK hP (2 + kB) 0 (sg8 (n0 := 2) (f := (fun j => zzI cy (rB j) 4 (bkR tA j))) rfl rfl rfl rfl rfl rfl rfl rfl kB (by omega)) rfl (in_c rfl) (g_46 bX6_groundOf rfl) ?_
        refine lv_seti (v := T_ne tA kB) (bk_1 _ _) ?_
        refine lv_iload hx hb (g_21 (v := 4) bX6_groundOf rfl) (lv_at hl 0 rfl) ?_
        refine lv_ishr hx hb (g_122 bX6_groundOf rfl) ?_
        refine lv_iconst (v := 1) hx hb (g_4 bX6_groundOf rfl) (by decide +kernel) ?_
        refine lv_iand hx hb (g_126 bX6_groundOf rfl) ?_
        refine lv_if_eq (tgt := 33) hx hb dX6_groundOf_26 (by decide +kernel) (fun c_12 => ?_) (fun c_12 => ?_)
        · refine lv_iconst (v := 0) hx hb (g_3 bX6_groundOf rfl) (by decide +kernel) ?_
          refine lv_istore (lv' := [(5, .int 0), (4, .int (nI j_4)), (3, .int xM_5), (0, .ref qm), (1, .int (nI kI)), (2, .int (nI kB))]) hx hb (g_54 (v := 5) bX6_groundOf rfl) hl (by decide +kernel) rfl (fun ls => ?_)
          clear hl
          intro hl
          refine lv_iload hx hb (g_21 (v := 5) bX6_groundOf rfl) (lv_at hl 0 rfl) ?_
          refine lv_if_eq (tgt := 66) hx hb dX6_groundOf_38 (by decide +kernel) (fun _ => ?_) (fun h9 => absurd (by decide +kernel) h9)
          refine lv_iload_n hx hb (g_29 bX6_groundOf rfl) rfl (lv_at hl 2 rfl) ?_
          refine lv_istore_n (lv' := [(3, .int xM_5), (5, .int 0), (4, .int (nI j_4)), (0, .ref qm), (1, .int (nI kI)), (2, .int (nI kB))]) hx hb (g_62 bX6_groundOf rfl) rfl hl (by decide +kernel) rfl (fun ls => ?_)
          clear hl
          intro hl
          refine lv_iinc (v := nI (j_4 + 1)) (lv' := [(4, .int (nI (j_4 + 1))), (3, .int xM_5), (5, .int 0), (0, .ref qm), (1, .int (nI kI)), (2, .int (nI kB))]) hx hb dX6_groundOf_68 hl (k := 2) rfl (nI_1 _) (by decide +kernel) rfl (fun ls => ?_)
          clear hl
          intro hl
          refine lv_goto (tgt := 7) hx hb dX6_groundOf_71 (by decide +kernel) ?_
          exact ih_3 (j_4 + 1) xM_5 (by omega) (by omega) (by rw [hxM_7]; exact (if_neg (fun q => absurd c_12 (by have := q.1; unfold bitb at this; exact of_decide_eq_true this))).symm) _ (lv_sub hl [0, 1, 3, 4, 5] rfl)
        · refine lv_iconst (v := 1) hx hb (g_4 bX6_groundOf rfl) (by decide +kernel) ?_
          refine lv_goto (tgt := 34) hx hb dX6_groundOf_30 (by decide +kernel) ?_
          refine lv_istore (lv' := [(5, .int 1), (4, .int (nI j_4)), (3, .int xM_5), (0, .ref qm), (1, .int (nI kI)), (2, .int (nI kB))]) hx hb (g_54 (v := 5) bX6_groundOf rfl) hl (by decide +kernel) rfl (fun ls => ?_)
          clear hl
          intro hl
          refine lv_iload hx hb (g_21 (v := 5) bX6_groundOf rfl) (lv_at hl 0 rfl) ?_
          refine lv_if_eq (tgt := 66) hx hb dX6_groundOf_38 (by decide +kernel) (fun h9 => absurd h9 (by decide +kernel)) (fun _ => ?_)
          refine lv_aload_n hx hb (g_42 bX6_groundOf rfl) rfl (lv_at hl 3 rfl) ?_
          refine va_get (D := G) (ci := 5) (v := .ref qmK) (C := RX6) (T := TX6) (N := 35) hx hb hts iX_X6 hown hK hP 0 rfl rfl 14 (by decide +kernel) (hts _ m_t864) (fun _ h9 => h9) rfl (g_180 (v := 48) bX6_groundOf rfl) ?_
          refine lv_iload_n hx hb (g_27 bX6_groundOf rfl) rfl (lv_at hl 4 rfl) ?_
          refine va_alda hx hb hK hP 10 3 rfl rfl (in8 (by omega)) (g_50 bX6_groundOf rfl) ?_
          refine lv_setv (v := .ref (rK kI)) (g_ref (by omega)) ?_
          refine lv_iload hx hb (g_21 (v := 4) bX6_groundOf rfl) (lv_at hl 1 rfl) ?_
          refine va_iald hx hb hK hP (11 + kI) 0 (sg8 (n0 := 11) (f := (fun j => zzI cy (rK j) 8 (T_kn tA j))) rfl rfl rfl rfl rfl rfl rfl rfl kI (by omega)) rfl (vp_in_nI (by omega) (by omega)) (g_46 bX6_groundOf rfl) ?_
          refine lv_seti (v := T_kn tA kI j_4) (congrArg (T_kn tA kI) (nI_clamp (by omega))) ?_
          refine lv_iload_n hx hb (g_29 bX6_groundOf rfl) rfl (lv_at hl 2 rfl) ?_
          refine lv_icmp_ge (tgt := 66) hx hb dX6_groundOf_51 (by decide +kernel) (fun c_15 => ?_) (fun c_15 => ?_)
          · refine lv_iload_n hx hb (g_29 bX6_groundOf rfl) rfl (lv_at hl 2 rfl) ?_
            refine lv_istore_n (lv' := [(3, .int xM_5), (5, .int 1), (4, .int (nI j_4)), (0, .ref qm), (1, .int (nI kI)), (2, .int (nI kB))]) hx hb (g_62 bX6_groundOf rfl) rfl hl (by decide +kernel) rfl (fun ls => ?_)
            clear hl
            intro hl
            refine lv_iinc (v := nI (j_4 + 1)) (lv' := [(4, .int (nI (j_4 + 1))), (3, .int xM_5), (5, .int 1), (0, .ref qm), (1, .int (nI kI)), (2, .int (nI kB))]) hx hb dX6_groundOf_68 hl (k := 2) rfl (nI_1 _) (by decide +kernel) rfl (fun ls => ?_)
            clear hl
            intro hl
            refine lv_goto (tgt := 7) hx hb dX6_groundOf_71 (by decide +kernel) ?_
            exact ih_3 (j_4 + 1) xM_5 (by omega) (by omega) (by rw [hxM_7] at c_15; rw [hxM_7]; exact (if_neg (fun q => Int32.not_lt.mpr c_15 q.2)).symm) _ (lv_sub hl [0, 1, 3, 4, 5] rfl)
          · refine lv_aload_n hx hb (g_42 bX6_groundOf rfl) rfl (lv_at hl 3 rfl) ?_
            refine va_get (D := G) (ci := 5) (v := .ref qmK) (C := RX6) (T := TX6) (N := 35) hx hb hts iX_X6 hown hK hP 0 rfl rfl 14 (by decide +kernel) (hts _ m_t864) (fun _ h9 => h9) rfl (g_180 (v := 48) bX6_groundOf rfl) ?_
            refine lv_iload_n hx hb (g_27 bX6_groundOf rfl) rfl (lv_at hl 4 rfl) ?_
            refine va_alda hx hb hK hP 10 3 rfl rfl (in8 (by omega)) (g_50 bX6_groundOf rfl) ?_
            refine lv_setv (v := .ref (rK kI)) (g_ref (by omega)) ?_
            refine lv_iload hx hb (g_21 (v := 4) bX6_groundOf rfl) (lv_at hl 1 rfl) ?_
            refine va_iald hx hb hK hP (11 + kI) 0 (sg8 (n0 := 11) (f := (fun j => zzI cy (rK j) 8 (T_kn tA j))) rfl rfl rfl rfl rfl rfl rfl rfl kI (by omega)) rfl (vp_in_nI (by omega) (by omega)) (g_46 bX6_groundOf rfl) ?_
            refine lv_seti (v := T_kn tA kI j_4) (congrArg (T_kn tA kI) (nI_clamp (by omega))) ?_
            refine lv_goto (tgt := 67) hx hb dX6_groundOf_63 (by decide +kernel) ?_
            refine lv_istore_n (lv' := [(3, .int (T_kn tA kI j_4)), (5, .int 1), (4, .int (nI j_4)), (0, .ref qm), (1, .int (nI kI)), (2, .int (nI kB))]) hx hb (g_62 bX6_groundOf rfl) rfl hl (by decide +kernel) rfl (fun ls => ?_)
            clear hl
            intro hl
            refine lv_iinc (v := nI (j_4 + 1)) (lv' := [(4, .int (nI (j_4 + 1))), (3, .int (T_kn tA kI j_4)), (5, .int 1), (0, .ref qm), (1, .int (nI kI)), (2, .int (nI kB))]) hx hb dX6_groundOf_68 hl (k := 2) rfl (nI_1 _) (by decide +kernel) rfl (fun ls => ?_)
            clear hl
            intro hl
            refine lv_goto (tgt := 7) hx hb dX6_groundOf_71 (by decide +kernel) ?_
            exact ih_3 (j_4 + 1) (T_kn tA kI j_4) (by omega) (by omega) (by rw [hxM_7] at c_15; exact (if_pos ⟨by unfold bitb; exact decide_eq_true c_12, Int32.not_le.mp c_15⟩).symm) _ (lv_sub hl [0, 1, 3, 4, 5] rfl)
  exact lp_1 ((8 - 0) + 1) 0 1000 (Nat.lt_succ_self _) (Nat.zero_le _) rfl ls (lv_sub hl [0, 1, 2, 3, 4] rfl)
set_option maxHeartbeats 4000000 in
set_option maxRecDepth 100000 in
theorem c_X6_byGround (l : Launch) (G : va_G) (cy : Nat → ClassId) (qm : Nat) (v0 : Value) (v1 : Value) (v2 : Value) (v3 : Value) (v4 : Value) (v5 : Value) (v6 : Value) (v7 : Value) (v8 : Value) (v9 : Value) (tA : TA) (qmB : Nat) (qmO : Nat) (qmK : Nat) (iEn : Int32) (iTk : Int32) (v18 : Value) (v19 : Value) (v20 : Value) (v21 : Value) (v22 : Value) (v23 : Value) (v24 : Value) (v25 : Value) (v26 : Value) (iLv : Int32) (iWs : Int32) (v29 : Value) (v30 : Value) (v31 : Value) (v32 : Value) (v33 : Value) (v34 : Value) (rB : Nat → Nat) (rK : Nat → Nat) (iV : Int32) (kI : Nat) (kB : Nat)  (hI : kI < 8) (hJ : kB < 8) : MR l yX6_byGround cX6_byGround 4 (some .int) 2 G cy [zzO qm 5 (v0 :: v1 :: v2 :: v3 :: v4 :: v5 :: v6 :: v7 :: v8 :: v9 :: .int (nI (T_nb tA)) :: .ref qmB :: .int (nI (T_np tA)) :: .ref qmO :: .ref qmK :: .int iEn :: .int iTk :: .int (T_sd tA) :: v18 :: v19 :: v20 :: v21 :: v22 :: v23 :: v24 :: v25 :: v26 :: .int iLv :: .int iWs :: v29 :: v30 :: v31 :: v32 :: v33 :: v34 :: []), zzG cy 3 qmB rB, zzI cy (rB 0) 4 (bkR tA 0), zzI cy (rB 1) 4 (bkR tA 1), zzI cy (rB 2) 4 (bkR tA 2), zzI cy (rB 3) 4 (bkR tA 3), zzI cy (rB 4) 4 (bkR tA 4), zzI cy (rB 5) 4 (bkR tA 5), zzI cy (rB 6) 4 (bkR tA 6), zzI cy (rB 7) 4 (bkR tA 7), zzG cy 3 qmK rK, zzI cy (rK 0) 8 (T_kn tA 0), zzI cy (rK 1) 8 (T_kn tA 1), zzI cy (rK 2) 8 (T_kn tA 2), zzI cy (rK 3) 8 (T_kn tA 3), zzI cy (rK 4) 8 (T_kn tA 4), zzI cy (rK 5) 8 (T_kn tA 5), zzI cy (rK 6) 8 (T_kn tA 6), zzI cy (rK 7) 8 (T_kn tA 7)] [.ref qm, .int iV, .int (nI kI), .int (nI kB)] (vp_Si (fun r => (r = (zgr iV (zgd tA kI kB))))) := by
  refine enR RX6 (by decide +kernel) rfl (Nat.le_of_ble_eq_true rfl) (fun p e s m below meth c ls hx hb hml hown hts hr hlocks hP hN hl => ?_)
  have hK := hN.1
  replace hl : lv_has ls 4 [(0, .ref qm), (1, .int iV), (2, .int (nI kI)), (3, .int (nI kB))] := hl
  refine lv_iload_n hx hb (g_27 bX6_byGround rfl) rfl (lv_at hl 1 rfl) ?_
  refine lv_aload_n hx hb (g_42 bX6_byGround rfl) rfl (lv_at hl 0 rfl) ?_
  refine lv_iload_n hx hb (g_28 bX6_byGround rfl) rfl (lv_at hl 2 rfl) ?_
  refine lv_iload_n hx hb (g_29 bX6_byGround rfl) rfl (lv_at hl 3 rfl) ?_
  refine kRi (rV (As := [.int (nI kI), .int (nI kB)]) (rest := [.int iV]) (b := qm) ⟨hx, hb, hml, hown, hts⟩ (c_X6_groundOf l G cy qm v0 v1 v2 v3 v4 v5 v6 v7 v8 v9 tA qmB qmO qmK iEn iTk v18 v19 v20 v21 v22 v23 v24 v25 v26 iLv iWs v29 v30 v31 v32 v33 v34 rB rK kI kB hI hJ) L_X6_241 (preRV (q := (RX6, TX6, 35)) hN hP (trueIx 0 [true, true, true, true, true, true, true, true, true, true, true, true, true, true, true, true, true, true, true]) (sel_fm rfl rfl) 0 5 rfl rfl) rfl ⟨Nat.le_of_ble_eq_true rfl, Nat.le_of_ble_eq_true rfl⟩ hl.1 (Nat.le_of_ble_eq_true rfl) (g_182 (v := 241) bX6_byGround rfl) ⟨Nat.le_of_ble_eq_true rfl, Nat.le_of_ble_eq_true rfl⟩) (fun r_1 h_2 => ?_)
  subst h_2
  refine lv_sipush (v := 1000) hx hb dX6_byGround_7 (by decide +kernel) ?_
  refine lv_iadd hx hb (g_96 bX6_byGround rfl) ?_
  refine lv_imul hx hb (g_104 bX6_byGround rfl) ?_
  refine lv_sipush (v := 2000) hx hb dX6_byGround_12 (by decide +kernel) ?_
  refine lv_idiv hx hb (g_108 bX6_byGround rfl) (by decide +kernel) ?_
  exact endR hx hb hr hlocks rfl (by rfl) (g_172 bX6_byGround rfl)
set_option maxHeartbeats 4000000 in
set_option maxRecDepth 100000 in
theorem c_X6_wouldKnow (l : Launch) (G : va_G) (cy : Nat → ClassId) (qm : Nat) (v0 : Value) (v1 : Value) (v2 : Value) (v3 : Value) (v4 : Value) (v5 : Value) (v6 : Value) (v7 : Value) (v8 : Value) (v9 : Value) (tA : TA) (qmB : Nat) (qmO : Nat) (qmK : Nat) (iEn : Int32) (iTk : Int32) (v18 : Value) (v19 : Value) (v20 : Value) (v21 : Value) (v22 : Value) (v23 : Value) (v24 : Value) (v25 : Value) (v26 : Value) (iLv : Int32) (iWs : Int32) (v29 : Value) (v30 : Value) (v31 : Value) (v32 : Value) (v33 : Value) (v34 : Value) (rB : Nat → Nat) (rO : Nat → Nat) (rK : Nat → Nat) (kI : Nat) (kB : Nat)  (hI : kI < 8) (hJ : kB < 8) : MR l yX6_wouldKnow cX6_wouldKnow 4 (some .int) 3 G cy [zzO qm 5 (v0 :: v1 :: v2 :: v3 :: v4 :: v5 :: v6 :: v7 :: v8 :: v9 :: .int (nI (T_nb tA)) :: .ref qmB :: .int (nI (T_np tA)) :: .ref qmO :: .ref qmK :: .int iEn :: .int iTk :: .int (T_sd tA) :: v18 :: v19 :: v20 :: v21 :: v22 :: v23 :: v24 :: v25 :: v26 :: .int iLv :: .int iWs :: v29 :: v30 :: v31 :: v32 :: v33 :: v34 :: []), zzG cy 3 qmB rB, zzI cy (rB 0) 4 (bkR tA 0), zzI cy (rB 1) 4 (bkR tA 1), zzI cy (rB 2) 4 (bkR tA 2), zzI cy (rB 3) 4 (bkR tA 3), zzI cy (rB 4) 4 (bkR tA 4), zzI cy (rB 5) 4 (bkR tA 5), zzI cy (rB 6) 4 (bkR tA 6), zzI cy (rB 7) 4 (bkR tA 7), zzG cy 3 qmO rO, zzI cy (rO 0) 5 (onR tA 0), zzI cy (rO 1) 5 (onR tA 1), zzI cy (rO 2) 5 (onR tA 2), zzI cy (rO 3) 5 (onR tA 3), zzI cy (rO 4) 5 (onR tA 4), zzI cy (rO 5) 5 (onR tA 5), zzI cy (rO 6) 5 (onR tA 6), zzI cy (rO 7) 5 (onR tA 7), zzG cy 3 qmK rK, zzI cy (rK 0) 8 (T_kn tA 0), zzI cy (rK 1) 8 (T_kn tA 1), zzI cy (rK 2) 8 (T_kn tA 2), zzI cy (rK 3) 8 (T_kn tA 3), zzI cy (rK 4) 8 (T_kn tA 4), zzI cy (rK 5) 8 (T_kn tA 5), zzI cy (rK 6) 8 (T_kn tA 6), zzI cy (rK 7) 8 (T_kn tA 7)] [.ref qm, .int (nI kI), .int (nI kB)] (vp_Si (fun r => (r = (zwk tA kI kB)))) := by
  refine enR RX6 (by decide +kernel) rfl (Nat.le_of_ble_eq_true rfl) (fun p e s m below meth c ls hx hb hml hown hts hr hlocks hP hN hl => ?_)
  have hK := hN.1
  replace hl : lv_has ls 4 [(0, .ref qm), (1, .int (nI kI)), (2, .int (nI kB))] := hl
  refine lv_aload_n hx hb (g_42 bX6_wouldKnow rfl) rfl (lv_at hl 0 rfl) ?_
  refine lv_aload_n hx hb (g_42 bX6_wouldKnow rfl) rfl (lv_at hl 0 rfl) ?_
  refine va_get (D := G) (ci := 5) (v := .ref qmB) (C := RX6) (T := TX6) (N := 35) hx hb hts iX_X6 hown hK hP 0 rfl rfl 11 (by decide +kernel) (hts _ m_t861) (fun _ h9 => h9) rfl (g_180 (v := 42) bX6_wouldKnow rfl) ?_
  refine lv_iload_n hx hb (g_28 bX6_wouldKnow rfl) rfl (lv_at hl 2 rfl) ?_
  refine va_alda hx hb hK hP 1 3 rfl rfl (in8 (by omega)) (g_50 bX6_wouldKnow rfl) ?_
  refine lv_setv (v := .ref (rB kB)) (g_ref (by omega)) ?_
  refine lv_iconst (v := 2) hx hb (g_5 bX6_wouldKnow rfl) (by decide +kernel) ?_
  refine va_iald hx hb hK hP (2 + kB) 0 (sg8 (n0 := 2) (f := (fun j => zzI cy (rB j) 4 (bkR tA j))) rfl rfl rfl rfl rfl rfl rfl rfl kB (by omega)) rfl (in_c rfl) (g_46 bX6_wouldKnow rfl) ?_
  refine lv_seti (v := T_go tA kB) (bk_2 _ _) ?_
  refine lv_aload_n hx hb (g_42 bX6_wouldKnow rfl) rfl (lv_at hl 0 rfl) ?_
  refine va_get (D := G) (ci := 5) (v := .ref qmO) (C := RX6) (T := TX6) (N := 35) hx hb hts iX_X6 hown hK hP 0 rfl rfl 13 (by decide +kernel) (hts _ m_t863) (fun _ h9 => h9) rfl (g_180 (v := 45) bX6_wouldKnow rfl) ?_
  refine lv_iload_n hx hb (g_27 bX6_wouldKnow rfl) rfl (lv_at hl 1 rfl) ?_
  refine va_alda hx hb hK hP 10 3 rfl rfl (in8 (by omega)) (g_50 bX6_wouldKnow rfl) ?_
  refine lv_setv (v := .ref (rO kI)) (g_ref (by omega)) ?_
  refine lv_iconst (v := 1) hx hb (g_4 bX6_wouldKnow rfl) (by decide +kernel) ?_
  refine va_iald hx hb hK hP (11 + kI) 0 (sg8 (n0 := 11) (f := (fun j => zzI cy (rO j) 5 (onR tA j))) rfl rfl rfl rfl rfl rfl rfl rfl kI (by omega)) rfl (in_c rfl) (g_46 bX6_wouldKnow rfl) ?_
  refine lv_seti (v := T_re tA kI) (on_1' _ _) ?_
  refine lv_imul hx hb (g_104 bX6_wouldKnow rfl) ?_
  refine lv_bipush (v := 10) hx hb dX6_wouldKnow_18 (by decide +kernel) ?_
  refine lv_idiv hx hb (g_108 bX6_wouldKnow rfl) (by decide +kernel) ?_
  refine lv_iload_n hx hb (g_27 bX6_wouldKnow rfl) rfl (lv_at hl 1 rfl) ?_
  refine lv_iload_n hx hb (g_28 bX6_wouldKnow rfl) rfl (lv_at hl 2 rfl) ?_
  refine kRi (rV (As := [.int (((T_go tA kB) * (T_re tA kI)) / 10), .int (nI kI), .int (nI kB)]) (rest := []) (b := qm) ⟨hx, hb, hml, hown, hts⟩ (c_X6_byGround l G cy qm v0 v1 v2 v3 v4 v5 v6 v7 v8 v9 tA qmB qmO qmK iEn iTk v18 v19 v20 v21 v22 v23 v24 v25 v26 iLv iWs v29 v30 v31 v32 v33 v34 rB rK (((T_go tA kB) * (T_re tA kI)) / 10) kI kB hI hJ) L_X6_244 (preRV (q := (RX6, TX6, 35)) hN hP (trueIx 0 [true, true, true, true, true, true, true, true, true, true, false, false, false, false, false, false, false, false, false, true, true, true, true, true, true, true, true, true]) (sel_fm rfl rfl) 0 5 rfl rfl) rfl ⟨Nat.le_of_ble_eq_true rfl, Nat.le_of_ble_eq_true rfl⟩ hl.1 (Nat.le_of_ble_eq_true rfl) (g_182 (v := 244) bX6_wouldKnow rfl) ⟨Nat.le_of_ble_eq_true rfl, Nat.le_of_ble_eq_true rfl⟩) (fun r_1 h_2 => ?_)
  subst h_2
  refine lv_istore_n (lv' := [(3, .int (zgr (((T_go tA kB) * (T_re tA kI)) / 10) (zgd tA kI kB))), (0, .ref qm), (1, .int (nI kI)), (2, .int (nI kB))]) hx hb (g_62 bX6_wouldKnow rfl) rfl hl (by decide +kernel) rfl (fun ls => ?_)
  clear hl
  intro hl
  refine lv_iload_n hx hb (g_29 bX6_wouldKnow rfl) rfl (lv_at hl 0 rfl) ?_
  refine lv_aload_n hx hb (g_42 bX6_wouldKnow rfl) rfl (lv_at hl 1 rfl) ?_
  refine va_get (D := G) (ci := 5) (v := .ref qmK) (C := RX6) (T := TX6) (N := 35) hx hb hts iX_X6 hown hK hP 0 rfl rfl 14 (by decide +kernel) (hts _ m_t864) (fun _ h9 => h9) rfl (g_180 (v := 48) bX6_wouldKnow rfl) ?_
  refine lv_iload_n hx hb (g_27 bX6_wouldKnow rfl) rfl (lv_at hl 2 rfl) ?_
  refine va_alda hx hb hK hP 19 3 rfl rfl (in8 (by omega)) (g_50 bX6_wouldKnow rfl) ?_
  refine lv_setv (v := .ref (rK kI)) (g_ref (by omega)) ?_
  refine lv_iload_n hx hb (g_28 bX6_wouldKnow rfl) rfl (lv_at hl 3 rfl) ?_
  refine va_iald hx hb hK hP (20 + kI) 0 (sg8 (n0 := 20) (f := (fun j => zzI cy (rK j) 8 (T_kn tA j))) rfl rfl rfl rfl rfl rfl rfl rfl kI (by omega)) rfl (vp_in_nI (by omega) (by omega)) (g_46 bX6_wouldKnow rfl) ?_
  refine lv_seti (v := T_kn tA kI kB) (congrArg (T_kn tA kI) (nI_clamp (by omega))) ?_
  refine lv_icmp_le (tgt := 43) hx hb dX6_wouldKnow_36 (by decide +kernel) (fun c_3 => ?_) (fun c_3 => ?_)
  · refine lv_aload_n hx hb (g_42 bX6_wouldKnow rfl) rfl (lv_at hl 1 rfl) ?_
    refine va_get (D := G) (ci := 5) (v := .ref qmK) (C := RX6) (T := TX6) (N := 35) hx hb hts iX_X6 hown hK hP 0 rfl rfl 14 (by decide +kernel) (hts _ m_t864) (fun _ h9 => h9) rfl (g_180 (v := 48) bX6_wouldKnow rfl) ?_
    refine lv_iload_n hx hb (g_27 bX6_wouldKnow rfl) rfl (lv_at hl 2 rfl) ?_
    refine va_alda hx hb hK hP 19 3 rfl rfl (in8 (by omega)) (g_50 bX6_wouldKnow rfl) ?_
    refine lv_setv (v := .ref (rK kI)) (g_ref (by omega)) ?_
    refine lv_iload_n hx hb (g_28 bX6_wouldKnow rfl) rfl (lv_at hl 3 rfl) ?_
    refine va_iald hx hb hK hP (20 + kI) 0 (sg8 (n0 := 20) (f := (fun j => zzI cy (rK j) 8 (T_kn tA j))) rfl rfl rfl rfl rfl rfl rfl rfl kI (by omega)) rfl (vp_in_nI (by omega) (by omega)) (g_46 bX6_wouldKnow rfl) ?_
    refine lv_seti (v := T_kn tA kI kB) (congrArg (T_kn tA kI) (nI_clamp (by omega))) ?_
    exact endR hx hb hr hlocks rfl (by unfold zwk; rw [mx_le c_3]) (g_172 bX6_wouldKnow rfl)
  · refine lv_iload_n hx hb (g_29 bX6_wouldKnow rfl) rfl (lv_at hl 0 rfl) ?_
    refine lv_goto (tgt := 51) hx hb dX6_wouldKnow_40 (by decide +kernel) ?_
    exact endR hx hb hr hlocks rfl (by unfold zwk; rw [mx_gt c_3]) (g_172 bX6_wouldKnow rfl)
set_option maxHeartbeats 4000000 in
set_option maxRecDepth 100000 in
theorem c_X6_reads (l : Launch) (G : va_G) (cy : Nat → ClassId) (sz : Nat) (qm : Nat) (v0 : Value) (v1 : Value) (v2 : Value) (v3 : Value) (v4 : Value) (v5 : Value) (v6 : Value) (v7 : Value) (v8 : Value) (v9 : Value) (tA : TA) (qmB : Nat) (qmO : Nat) (qmK : Nat) (iEn : Int32) (iTk : Int32) (v18 : Value) (v19 : Value) (v20 : Value) (v21 : Value) (v22 : Value) (v23 : Value) (v24 : Value) (v25 : Value) (v26 : Value) (iLv : Int32) (iWs : Int32) (v29 : Value) (v30 : Value) (v31 : Value) (v32 : Value) (v33 : Value) (v34 : Value) (rB : Nat → Nat) (rO : Nat → Nat) (rK : Nat → Nat) (kI : Nat) (kB : Nat)  (hI : kI < 8) (hJ : kB < 8) : MW l yX6_reads cX6_reads 3 none 4 0 0 G cy [zzO qm 5 (v0 :: v1 :: v2 :: v3 :: v4 :: v5 :: v6 :: v7 :: v8 :: v9 :: .int (nI (T_nb tA)) :: .ref qmB :: .int (nI (T_np tA)) :: .ref qmO :: .ref qmK :: .int iEn :: .int iTk :: .int (T_sd tA) :: v18 :: v19 :: v20 :: v21 :: v22 :: v23 :: v24 :: v25 :: v26 :: .int iLv :: .int iWs :: v29 :: v30 :: v31 :: v32 :: v33 :: v34 :: []), zzG cy 3 qmB rB, zzI cy (rB 0) 4 (bkR tA 0), zzI cy (rB 1) 4 (bkR tA 1), zzI cy (rB 2) 4 (bkR tA 2), zzI cy (rB 3) 4 (bkR tA 3), zzI cy (rB 4) 4 (bkR tA 4), zzI cy (rB 5) 4 (bkR tA 5), zzI cy (rB 6) 4 (bkR tA 6), zzI cy (rB 7) 4 (bkR tA 7), zzG cy 3 qmO rO, zzI cy (rO 0) 5 (onR tA 0), zzI cy (rO 1) 5 (onR tA 1), zzI cy (rO 2) 5 (onR tA 2), zzI cy (rO 3) 5 (onR tA 3), zzI cy (rO 4) 5 (onR tA 4), zzI cy (rO 5) 5 (onR tA 5), zzI cy (rO 6) 5 (onR tA 6), zzI cy (rO 7) 5 (onR tA 7), zzG cy 3 qmK rK, zzI cy (rK 0) 8 (T_kn tA 0), zzI cy (rK 1) 8 (T_kn tA 1), zzI cy (rK 2) 8 (T_kn tA 2), zzI cy (rK 3) 8 (T_kn tA 3), zzI cy (rK 4) 8 (T_kn tA 4), zzI cy (rK 5) 8 (T_kn tA 5), zzI cy (rK 6) 8 (T_kn tA 6), zzI cy (rK 7) 8 (T_kn tA 7)] sz [.ref qm, .int (nI kI), .int (nI kB)] (Wv G (fun u => u = [zzO qm 5 (v0 :: v1 :: v2 :: v3 :: v4 :: v5 :: v6 :: v7 :: v8 :: v9 :: .int (nI (T_nb (rdT tA kI kB))) :: .ref qmB :: .int (nI (T_np (rdT tA kI kB))) :: .ref qmO :: .ref qmK :: .int iEn :: .int iTk :: .int (T_sd (rdT tA kI kB)) :: v18 :: v19 :: v20 :: v21 :: v22 :: v23 :: v24 :: v25 :: v26 :: .int iLv :: .int iWs :: v29 :: v30 :: v31 :: v32 :: v33 :: v34 :: []), zzG cy 3 qmB rB, zzI cy (rB 0) 4 (bkR (rdT tA kI kB) 0), zzI cy (rB 1) 4 (bkR (rdT tA kI kB) 1), zzI cy (rB 2) 4 (bkR (rdT tA kI kB) 2), zzI cy (rB 3) 4 (bkR (rdT tA kI kB) 3), zzI cy (rB 4) 4 (bkR (rdT tA kI kB) 4), zzI cy (rB 5) 4 (bkR (rdT tA kI kB) 5), zzI cy (rB 6) 4 (bkR (rdT tA kI kB) 6), zzI cy (rB 7) 4 (bkR (rdT tA kI kB) 7), zzG cy 3 qmO rO, zzI cy (rO 0) 5 (onR (rdT tA kI kB) 0), zzI cy (rO 1) 5 (onR (rdT tA kI kB) 1), zzI cy (rO 2) 5 (onR (rdT tA kI kB) 2), zzI cy (rO 3) 5 (onR (rdT tA kI kB) 3), zzI cy (rO 4) 5 (onR (rdT tA kI kB) 4), zzI cy (rO 5) 5 (onR (rdT tA kI kB) 5), zzI cy (rO 6) 5 (onR (rdT tA kI kB) 6), zzI cy (rO 7) 5 (onR (rdT tA kI kB) 7), zzG cy 3 qmK rK, zzI cy (rK 0) 8 (T_kn (rdT tA kI kB) 0), zzI cy (rK 1) 8 (T_kn (rdT tA kI kB) 1), zzI cy (rK 2) 8 (T_kn (rdT tA kI kB) 2), zzI cy (rK 3) 8 (T_kn (rdT tA kI kB) 3), zzI cy (rK 4) 8 (T_kn (rdT tA kI kB) 4), zzI cy (rK 5) 8 (T_kn (rdT tA kI kB) 5), zzI cy (rK 6) 8 (T_kn (rdT tA kI kB) 6), zzI cy (rK 7) 8 (T_kn (rdT tA kI kB) 7)])) := by
  refine enW RX6 (by decide +kernel) rfl (Nat.le_of_ble_eq_true rfl) (fun p e s m below meth c ls A hx hb hml hown hts hr hlocks hP hN hl hin hD hA hS => ?_)
  have hin : meth.name = _ := hin
  have hK := hN.1
  replace hl : lv_has ls 3 [(0, .ref qm), (1, .int (nI kI)), (2, .int (nI kB))] := hl
  refine lv_aload_n hx hb (g_42 bX6_reads rfl) rfl (lv_at hl 0 rfl) ?_
  refine va_get (D := G) (ci := 5) (v := .ref qmK) (C := RX6) (T := TX6) (N := 35) hx hb hts iX_X6 hown hK hP 0 rfl rfl 14 (by decide +kernel) (hts _ m_t864) (fun _ h9 => h9) rfl (g_180 (v := 48) bX6_reads rfl) ?_
  refine lv_iload_n hx hb (g_27 bX6_reads rfl) rfl (lv_at hl 1 rfl) ?_
  refine va_alda hx hb hK hP 19 3 rfl rfl (in8 (by omega)) (g_50 bX6_reads rfl) ?_
  refine lv_setv (v := .ref (rK kI)) (g_ref (by omega)) ?_
  refine lv_iload_n hx hb (g_28 bX6_reads rfl) rfl (lv_at hl 2 rfl) ?_
  refine lv_aload_n hx hb (g_42 bX6_reads rfl) rfl (lv_at hl 0 rfl) ?_
  refine lv_iload_n hx hb (g_27 bX6_reads rfl) rfl (lv_at hl 1 rfl) ?_
  refine lv_iload_n hx hb (g_28 bX6_reads rfl) rfl (lv_at hl 2 rfl) ?_
  refine kRi (rV (As := [.int (nI kI), .int (nI kB)]) (rest := [.int (nI kB), .ref (rK kI)]) (b := qm) ⟨hx, hb, hml, hown, hts⟩ (c_X6_wouldKnow l G cy qm v0 v1 v2 v3 v4 v5 v6 v7 v8 v9 tA qmB qmO qmK iEn iTk v18 v19 v20 v21 v22 v23 v24 v25 v26 iLv iWs v29 v30 v31 v32 v33 v34 rB rO rK kI kB hI hJ) L_X6_254 (preRV (q := (RX6, TX6, 35)) hN hP (trueIx 0 [true, true, true, true, true, true, true, true, true, true, true, true, true, true, true, true, true, true, true, true, true, true, true, true, true, true, true, true]) (sel_fm rfl rfl) 0 5 rfl rfl) rfl ⟨Nat.le_of_ble_eq_true rfl, Nat.le_of_ble_eq_true rfl⟩ hl.1 (Nat.le_of_ble_eq_true rfl) (g_182 (v := 254) bX6_reads rfl) ⟨Nat.le_of_ble_eq_true rfl, Nat.le_of_ble_eq_true rfl⟩) (fun r_1 h_2 => ?_)
  subst h_2
  refine va_iast hx hb hK hP hD hS (20 + kI) 0 ((sg8 (n0 := 20) (f := (fun j => zzI cy (rK j) 8 (T_kn tA j))) rfl rfl rfl rfl rfl rfl rfl rfl) kI (by omega)) rfl (vp_in_nI (by omega) (by omega)) (g_79 bX6_reads rfl) (fun H locs => ?_)
  clear hP hD hS
  intro hP hD hS
  rw [nI_clamp (n := kB) (by omega)] at hP hD
  have hPD := st8PD (ws' := [zzO qm 5 (v0 :: v1 :: v2 :: v3 :: v4 :: v5 :: v6 :: v7 :: v8 :: v9 :: .int (nI (T_nb (T_setkn tA (updM (T_kn tA) kI kB (zwk tA kI kB))))) :: .ref qmB :: .int (nI (T_np (T_setkn tA (updM (T_kn tA) kI kB (zwk tA kI kB))))) :: .ref qmO :: .ref qmK :: .int iEn :: .int iTk :: .int (T_sd (T_setkn tA (updM (T_kn tA) kI kB (zwk tA kI kB)))) :: v18 :: v19 :: v20 :: v21 :: v22 :: v23 :: v24 :: v25 :: v26 :: .int iLv :: .int iWs :: v29 :: v30 :: v31 :: v32 :: v33 :: v34 :: []), zzG cy 3 qmB rB, zzI cy (rB 0) 4 (bkR (T_setkn tA (updM (T_kn tA) kI kB (zwk tA kI kB))) 0), zzI cy (rB 1) 4 (bkR (T_setkn tA (updM (T_kn tA) kI kB (zwk tA kI kB))) 1), zzI cy (rB 2) 4 (bkR (T_setkn tA (updM (T_kn tA) kI kB (zwk tA kI kB))) 2), zzI cy (rB 3) 4 (bkR (T_setkn tA (updM (T_kn tA) kI kB (zwk tA kI kB))) 3), zzI cy (rB 4) 4 (bkR (T_setkn tA (updM (T_kn tA) kI kB (zwk tA kI kB))) 4), zzI cy (rB 5) 4 (bkR (T_setkn tA (updM (T_kn tA) kI kB (zwk tA kI kB))) 5), zzI cy (rB 6) 4 (bkR (T_setkn tA (updM (T_kn tA) kI kB (zwk tA kI kB))) 6), zzI cy (rB 7) 4 (bkR (T_setkn tA (updM (T_kn tA) kI kB (zwk tA kI kB))) 7), zzG cy 3 qmO rO, zzI cy (rO 0) 5 (onR (T_setkn tA (updM (T_kn tA) kI kB (zwk tA kI kB))) 0), zzI cy (rO 1) 5 (onR (T_setkn tA (updM (T_kn tA) kI kB (zwk tA kI kB))) 1), zzI cy (rO 2) 5 (onR (T_setkn tA (updM (T_kn tA) kI kB (zwk tA kI kB))) 2), zzI cy (rO 3) 5 (onR (T_setkn tA (updM (T_kn tA) kI kB (zwk tA kI kB))) 3), zzI cy (rO 4) 5 (onR (T_setkn tA (updM (T_kn tA) kI kB (zwk tA kI kB))) 4), zzI cy (rO 5) 5 (onR (T_setkn tA (updM (T_kn tA) kI kB (zwk tA kI kB))) 5), zzI cy (rO 6) 5 (onR (T_setkn tA (updM (T_kn tA) kI kB (zwk tA kI kB))) 6), zzI cy (rO 7) 5 (onR (T_setkn tA (updM (T_kn tA) kI kB (zwk tA kI kB))) 7), zzG cy 3 qmK rK, zzI cy (rK 0) 8 (T_kn (T_setkn tA (updM (T_kn tA) kI kB (zwk tA kI kB))) 0), zzI cy (rK 1) 8 (T_kn (T_setkn tA (updM (T_kn tA) kI kB (zwk tA kI kB))) 1), zzI cy (rK 2) 8 (T_kn (T_setkn tA (updM (T_kn tA) kI kB (zwk tA kI kB))) 2), zzI cy (rK 3) 8 (T_kn (T_setkn tA (updM (T_kn tA) kI kB (zwk tA kI kB))) 3), zzI cy (rK 4) 8 (T_kn (T_setkn tA (updM (T_kn tA) kI kB (zwk tA kI kB))) 4), zzI cy (rK 5) 8 (T_kn (T_setkn tA (updM (T_kn tA) kI kB (zwk tA kI kB))) 5), zzI cy (rK 6) 8 (T_kn (T_setkn tA (updM (T_kn tA) kI kB (zwk tA kI kB))) 6), zzI cy (rK 7) 8 (T_kn (T_setkn tA (updM (T_kn tA) kI kB (zwk tA kI kB))) 7)]) (k := kI) (g1 := T_kn (T_setkn tA (updM (T_kn tA) kI kB (zwk tA kI kB))) kI) hP hD (sg8 (n0 := 20) (f := (fun j => zzI cy (rK j) 8 (T_kn tA j))) rfl rfl rfl rfl rfl rfl rfl rfl) (sg8 (n0 := 20) (f := (fun j => zzI cy (rK j) 8 (T_kn (T_setkn tA (updM (T_kn tA) kI kB (zwk tA kI kB))) j))) rfl rfl rfl rfl rfl rfl rfl rfl) rfl rfl (by omega) rfl (fun i _ => (congrFun (kn_u tA kI kB (zwk tA kI kB)) i).symm) (fun j hj => congrArg (zzI cy (rK j) 8) (kn_n tA kI kB (zwk tA kI kB) hj))
  clear hP hD
  obtain ⟨hP, hD⟩ := hPD
  refine lv_aload_n hx hb (g_42 bX6_reads rfl) rfl (lv_at hl 0 rfl) ?_
  refine va_get (D := G) (ci := 5) (v := .ref qmB) (C := RX6) (T := TX6) (N := 35) hx hb hts iX_X6 hown hK hP 0 rfl rfl 11 (by decide +kernel) (hts _ m_t861) (fun _ h9 => h9) rfl (g_180 (v := 42) bX6_reads rfl) ?_
  refine lv_iload_n hx hb (g_28 bX6_reads rfl) rfl (lv_at hl 2 rfl) ?_
  refine va_alda hx hb hK hP 1 3 rfl rfl (in8 (by omega)) (g_50 bX6_reads rfl) ?_
  refine lv_setv (v := .ref (rB kB)) (g_ref (by omega)) ?_
  refine lv_iconst (v := 3) hx hb (g_6 bX6_reads rfl) (by decide +kernel) ?_
  refine lv_iconst (v := 1) hx hb (g_4 bX6_reads rfl) (by decide +kernel) ?_
  refine va_iast hx hb hK hP hD hS (2 + kB) 0 ((sg8 (n0 := 2) (f := (fun j => zzI cy (rB j) 4 (bkR (T_setkn tA (updM (T_kn tA) kI kB (zwk tA kI kB))) j))) rfl rfl rfl rfl rfl rfl rfl rfl) kB (by omega)) rfl (in_c rfl) (g_79 bX6_reads rfl) (fun H locs => ?_)
  clear hP hD hS
  intro hP hD hS
  have hPD := st8PD (ws' := [zzO qm 5 (v0 :: v1 :: v2 :: v3 :: v4 :: v5 :: v6 :: v7 :: v8 :: v9 :: .int (nI (T_nb (T_setwh (T_setkn tA (updM (T_kn tA) kI kB (zwk tA kI kB))) (updB (T_wh (T_setkn tA (updM (T_kn tA) kI kB (zwk tA kI kB)))) kB true)))) :: .ref qmB :: .int (nI (T_np (T_setwh (T_setkn tA (updM (T_kn tA) kI kB (zwk tA kI kB))) (updB (T_wh (T_setkn tA (updM (T_kn tA) kI kB (zwk tA kI kB)))) kB true)))) :: .ref qmO :: .ref qmK :: .int iEn :: .int iTk :: .int (T_sd (T_setwh (T_setkn tA (updM (T_kn tA) kI kB (zwk tA kI kB))) (updB (T_wh (T_setkn tA (updM (T_kn tA) kI kB (zwk tA kI kB)))) kB true))) :: v18 :: v19 :: v20 :: v21 :: v22 :: v23 :: v24 :: v25 :: v26 :: .int iLv :: .int iWs :: v29 :: v30 :: v31 :: v32 :: v33 :: v34 :: []), zzG cy 3 qmB rB, zzI cy (rB 0) 4 (bkR (T_setwh (T_setkn tA (updM (T_kn tA) kI kB (zwk tA kI kB))) (updB (T_wh (T_setkn tA (updM (T_kn tA) kI kB (zwk tA kI kB)))) kB true)) 0), zzI cy (rB 1) 4 (bkR (T_setwh (T_setkn tA (updM (T_kn tA) kI kB (zwk tA kI kB))) (updB (T_wh (T_setkn tA (updM (T_kn tA) kI kB (zwk tA kI kB)))) kB true)) 1), zzI cy (rB 2) 4 (bkR (T_setwh (T_setkn tA (updM (T_kn tA) kI kB (zwk tA kI kB))) (updB (T_wh (T_setkn tA (updM (T_kn tA) kI kB (zwk tA kI kB)))) kB true)) 2), zzI cy (rB 3) 4 (bkR (T_setwh (T_setkn tA (updM (T_kn tA) kI kB (zwk tA kI kB))) (updB (T_wh (T_setkn tA (updM (T_kn tA) kI kB (zwk tA kI kB)))) kB true)) 3), zzI cy (rB 4) 4 (bkR (T_setwh (T_setkn tA (updM (T_kn tA) kI kB (zwk tA kI kB))) (updB (T_wh (T_setkn tA (updM (T_kn tA) kI kB (zwk tA kI kB)))) kB true)) 4), zzI cy (rB 5) 4 (bkR (T_setwh (T_setkn tA (updM (T_kn tA) kI kB (zwk tA kI kB))) (updB (T_wh (T_setkn tA (updM (T_kn tA) kI kB (zwk tA kI kB)))) kB true)) 5), zzI cy (rB 6) 4 (bkR (T_setwh (T_setkn tA (updM (T_kn tA) kI kB (zwk tA kI kB))) (updB (T_wh (T_setkn tA (updM (T_kn tA) kI kB (zwk tA kI kB)))) kB true)) 6), zzI cy (rB 7) 4 (bkR (T_setwh (T_setkn tA (updM (T_kn tA) kI kB (zwk tA kI kB))) (updB (T_wh (T_setkn tA (updM (T_kn tA) kI kB (zwk tA kI kB)))) kB true)) 7), zzG cy 3 qmO rO, zzI cy (rO 0) 5 (onR (T_setwh (T_setkn tA (updM (T_kn tA) kI kB (zwk tA kI kB))) (updB (T_wh (T_setkn tA (updM (T_kn tA) kI kB (zwk tA kI kB)))) kB true)) 0), zzI cy (rO 1) 5 (onR (T_setwh (T_setkn tA (updM (T_kn tA) kI kB (zwk tA kI kB))) (updB (T_wh (T_setkn tA (updM (T_kn tA) kI kB (zwk tA kI kB)))) kB true)) 1), zzI cy (rO 2) 5 (onR (T_setwh (T_setkn tA (updM (T_kn tA) kI kB (zwk tA kI kB))) (updB (T_wh (T_setkn tA (updM (T_kn tA) kI kB (zwk tA kI kB)))) kB true)) 2), zzI cy (rO 3) 5 (onR (T_setwh (T_setkn tA (updM (T_kn tA) kI kB (zwk tA kI kB))) (updB (T_wh (T_setkn tA (updM (T_kn tA) kI kB (zwk tA kI kB)))) kB true)) 3), zzI cy (rO 4) 5 (onR (T_setwh (T_setkn tA (updM (T_kn tA) kI kB (zwk tA kI kB))) (updB (T_wh (T_setkn tA (updM (T_kn tA) kI kB (zwk tA kI kB)))) kB true)) 4), zzI cy (rO 5) 5 (onR (T_setwh (T_setkn tA (updM (T_kn tA) kI kB (zwk tA kI kB))) (updB (T_wh (T_setkn tA (updM (T_kn tA) kI kB (zwk tA kI kB)))) kB true)) 5), zzI cy (rO 6) 5 (onR (T_setwh (T_setkn tA (updM (T_kn tA) kI kB (zwk tA kI kB))) (updB (T_wh (T_setkn tA (updM (T_kn tA) kI kB (zwk tA kI kB)))) kB true)) 6), zzI cy (rO 7) 5 (onR (T_setwh (T_setkn tA (updM (T_kn tA) kI kB (zwk tA kI kB))) (updB (T_wh (T_setkn tA (updM (T_kn tA) kI kB (zwk tA kI kB)))) kB true)) 7), zzG cy 3 qmK rK, zzI cy (rK 0) 8 (T_kn (T_setwh (T_setkn tA (updM (T_kn tA) kI kB (zwk tA kI kB))) (updB (T_wh (T_setkn tA (updM (T_kn tA) kI kB (zwk tA kI kB)))) kB true)) 0), zzI cy (rK 1) 8 (T_kn (T_setwh (T_setkn tA (updM (T_kn tA) kI kB (zwk tA kI kB))) (updB (T_wh (T_setkn tA (updM (T_kn tA) kI kB (zwk tA kI kB)))) kB true)) 1), zzI cy (rK 2) 8 (T_kn (T_setwh (T_setkn tA (updM (T_kn tA) kI kB (zwk tA kI kB))) (updB (T_wh (T_setkn tA (updM (T_kn tA) kI kB (zwk tA kI kB)))) kB true)) 2), zzI cy (rK 3) 8 (T_kn (T_setwh (T_setkn tA (updM (T_kn tA) kI kB (zwk tA kI kB))) (updB (T_wh (T_setkn tA (updM (T_kn tA) kI kB (zwk tA kI kB)))) kB true)) 3), zzI cy (rK 4) 8 (T_kn (T_setwh (T_setkn tA (updM (T_kn tA) kI kB (zwk tA kI kB))) (updB (T_wh (T_setkn tA (updM (T_kn tA) kI kB (zwk tA kI kB)))) kB true)) 4), zzI cy (rK 5) 8 (T_kn (T_setwh (T_setkn tA (updM (T_kn tA) kI kB (zwk tA kI kB))) (updB (T_wh (T_setkn tA (updM (T_kn tA) kI kB (zwk tA kI kB)))) kB true)) 5), zzI cy (rK 6) 8 (T_kn (T_setwh (T_setkn tA (updM (T_kn tA) kI kB (zwk tA kI kB))) (updB (T_wh (T_setkn tA (updM (T_kn tA) kI kB (zwk tA kI kB)))) kB true)) 6), zzI cy (rK 7) 8 (T_kn (T_setwh (T_setkn tA (updM (T_kn tA) kI kB (zwk tA kI kB))) (updB (T_wh (T_setkn tA (updM (T_kn tA) kI kB (zwk tA kI kB)))) kB true)) 7)]) (k := kB) (g1 := bkR (T_setwh (T_setkn tA (updM (T_kn tA) kI kB (zwk tA kI kB))) (updB (T_wh (T_setkn tA (updM (T_kn tA) kI kB (zwk tA kI kB)))) kB true)) kB) hP hD (sg8 (n0 := 2) (f := (fun j => zzI cy (rB j) 4 (bkR (T_setkn tA (updM (T_kn tA) kI kB (zwk tA kI kB))) j))) rfl rfl rfl rfl rfl rfl rfl rfl) (sg8 (n0 := 2) (f := (fun j => zzI cy (rB j) 4 (bkR (T_setwh (T_setkn tA (updM (T_kn tA) kI kB (zwk tA kI kB))) (updB (T_wh (T_setkn tA (updM (T_kn tA) kI kB (zwk tA kI kB)))) kB true)) j))) rfl rfl rfl rfl rfl rfl rfl rfl) rfl rfl (by omega) rfl (bk_w3 (T_setkn tA (updM (T_kn tA) kI kB (zwk tA kI kB))) kB true) (fun j hj => congrArg (zzI cy (rB j) 4) (bk_n3 (T_setkn tA (updM (T_kn tA) kI kB (zwk tA kI kB))) kB true hj))
  clear hP hD
  obtain ⟨hP, hD⟩ := hPD
  exact endVs [[true, true, true, true, true, true, true, true, true, true, true, true, true, true, true, true, true, true, true, true, true, true, true, true, true, true, true, true]] hx hb hr hlocks hP hD rfl (by decide +kernel) hS rfl (g_177 bX6_reads rfl)
set_option maxHeartbeats 4000000 in
set_option maxRecDepth 100000 in
theorem c_X6_moreBy (l : Launch) (G : va_G) (cy : Nat → ClassId) (qm : Nat) (v0 : Value) (v1 : Value) (v2 : Value) (v3 : Value) (v4 : Value) (v5 : Value) (v6 : Value) (v7 : Value) (v8 : Value) (v9 : Value) (tA : TA) (qmB : Nat) (qmO : Nat) (qmK : Nat) (iEn : Int32) (iTk : Int32) (v18 : Value) (v19 : Value) (v20 : Value) (v21 : Value) (v22 : Value) (v23 : Value) (v24 : Value) (v25 : Value) (v26 : Value) (iLv : Int32) (iWs : Int32) (v29 : Value) (v30 : Value) (v31 : Value) (v32 : Value) (v33 : Value) (v34 : Value) (rB : Nat → Nat) (rO : Nat → Nat) (rK : Nat → Nat) (kI : Nat) (kO : Nat) (kB : Nat)  (hI : kI < 8) (hO : kO < 8) (hJ : kB < 8) (hTI : TI tA) : MR l yX6_moreBy cX6_moreBy 5 (some .int) 1 G cy [zzO qm 5 (v0 :: v1 :: v2 :: v3 :: v4 :: v5 :: v6 :: v7 :: v8 :: v9 :: .int (nI (T_nb tA)) :: .ref qmB :: .int (nI (T_np tA)) :: .ref qmO :: .ref qmK :: .int iEn :: .int iTk :: .int (T_sd tA) :: v18 :: v19 :: v20 :: v21 :: v22 :: v23 :: v24 :: v25 :: v26 :: .int iLv :: .int iWs :: v29 :: v30 :: v31 :: v32 :: v33 :: v34 :: []), zzG cy 3 qmB rB, zzI cy (rB 0) 4 (bkR tA 0), zzI cy (rB 1) 4 (bkR tA 1), zzI cy (rB 2) 4 (bkR tA 2), zzI cy (rB 3) 4 (bkR tA 3), zzI cy (rB 4) 4 (bkR tA 4), zzI cy (rB 5) 4 (bkR tA 5), zzI cy (rB 6) 4 (bkR tA 6), zzI cy (rB 7) 4 (bkR tA 7), zzG cy 3 qmO rO, zzI cy (rO 0) 5 (onR tA 0), zzI cy (rO 1) 5 (onR tA 1), zzI cy (rO 2) 5 (onR tA 2), zzI cy (rO 3) 5 (onR tA 3), zzI cy (rO 4) 5 (onR tA 4), zzI cy (rO 5) 5 (onR tA 5), zzI cy (rO 6) 5 (onR tA 6), zzI cy (rO 7) 5 (onR tA 7), zzG cy 3 qmK rK, zzI cy (rK 0) 8 (T_kn tA 0), zzI cy (rK 1) 8 (T_kn tA 1), zzI cy (rK 2) 8 (T_kn tA 2), zzI cy (rK 3) 8 (T_kn tA 3), zzI cy (rK 4) 8 (T_kn tA 4), zzI cy (rK 5) 8 (T_kn tA 5), zzI cy (rK 6) 8 (T_kn tA 6), zzI cy (rK 7) 8 (T_kn tA 7)] [.ref qm, .int (nI kI), .int (nI kO), .int (nI kB)] (vp_Si (fun r => (r = (zgt tA kI kO kB)))) := by
  refine enR RX6 (by decide +kernel) rfl (Nat.le_of_ble_eq_true rfl) (fun p e s m below meth c ls hx hb hml hown hts hr hlocks hP hN hl => ?_)
  have hK := hN.1
  replace hl : lv_has ls 5 [(0, .ref qm), (1, .int (nI kI)), (2, .int (nI kO)), (3, .int (nI kB))] := hl
  refine lv_aload_n hx hb (g_42 bX6_moreBy rfl) rfl (lv_at hl 0 rfl) ?_
  refine va_get (D := G) (ci := 5) (v := .ref qmK) (C := RX6) (T := TX6) (N := 35) hx hb hts iX_X6 hown hK hP 0 rfl rfl 14 (by decide +kernel) (hts _ m_t864) (fun _ h9 => h9) rfl (g_180 (v := 48) bX6_moreBy rfl) ?_
  refine lv_iload_n hx hb (g_27 bX6_moreBy rfl) rfl (lv_at hl 1 rfl) ?_
  refine va_alda hx hb hK hP 19 3 rfl rfl (in8 (by omega)) (g_50 bX6_moreBy rfl) ?_
  refine lv_setv (v := .ref (rK kI)) (g_ref (by omega)) ?_
  refine lv_iload_n hx hb (g_29 bX6_moreBy rfl) rfl (lv_at hl 3 rfl) ?_
  refine va_iald hx hb hK hP (20 + kI) 0 (sg8 (n0 := 20) (f := (fun j => zzI cy (rK j) 8 (T_kn tA j))) rfl rfl rfl rfl rfl rfl rfl rfl kI (by omega)) rfl (vp_in_nI (by omega) (by omega)) (g_46 bX6_moreBy rfl) ?_
  refine lv_seti (v := T_kn tA kI kB) (congrArg (T_kn tA kI) (nI_clamp (by omega))) ?_
  refine lv_aload_n hx hb (g_42 bX6_moreBy rfl) rfl (lv_at hl 0 rfl) ?_
  refine va_get (D := G) (ci := 5) (v := .ref qmO) (C := RX6) (T := TX6) (N := 35) hx hb hts iX_X6 hown hK hP 0 rfl rfl 13 (by decide +kernel) (hts _ m_t863) (fun _ h9 => h9) rfl (g_180 (v := 45) bX6_moreBy rfl) ?_
  refine lv_iload_n hx hb (g_27 bX6_moreBy rfl) rfl (lv_at hl 1 rfl) ?_
  refine va_alda hx hb hK hP 10 3 rfl rfl (in8 (by omega)) (g_50 bX6_moreBy rfl) ?_
  refine lv_setv (v := .ref (rO kI)) (g_ref (by omega)) ?_
  refine lv_iconst (v := 3) hx hb (g_6 bX6_moreBy rfl) (by decide +kernel) ?_
  refine va_iald hx hb hK hP (11 + kI) 0 (sg8 (n0 := 11) (f := (fun j => zzI cy (rO j) 5 (onR tA j))) rfl rfl rfl rfl rfl rfl rfl rfl kI (by omega)) rfl (in_c rfl) (g_46 bX6_moreBy rfl) ?_
  refine lv_seti (v := T_te tA kI) (on_3 _ _) ?_
  refine lv_imul hx hb (g_104 bX6_moreBy rfl) ?_
  refine lv_bipush (v := 10) hx hb dX6_moreBy_17 (by decide +kernel) ?_
  refine lv_idiv hx hb (g_108 bX6_moreBy rfl) (by decide +kernel) ?_
  refine lv_istore (lv' := [(4, .int (((T_kn tA kI kB) * (T_te tA kI)) / 10)), (0, .ref qm), (1, .int (nI kI)), (2, .int (nI kO)), (3, .int (nI kB))]) hx hb (g_54 (v := 4) bX6_moreBy rfl) hl (by decide +kernel) rfl (fun ls => ?_)
  clear hl
  intro hl
  refine lv_iload hx hb (g_21 (v := 4) bX6_moreBy rfl) (lv_at hl 0 rfl) ?_
  refine lv_aload_n hx hb (g_42 bX6_moreBy rfl) rfl (lv_at hl 1 rfl) ?_
  refine va_get (D := G) (ci := 5) (v := .ref qmK) (C := RX6) (T := TX6) (N := 35) hx hb hts iX_X6 hown hK hP 0 rfl rfl 14 (by decide +kernel) (hts _ m_t864) (fun _ h9 => h9) rfl (g_180 (v := 48) bX6_moreBy rfl) ?_
  refine lv_iload_n hx hb (g_28 bX6_moreBy rfl) rfl (lv_at hl 3 rfl) ?_
  refine va_alda hx hb hK hP 19 3 rfl rfl (in8 (by omega)) (g_50 bX6_moreBy rfl) ?_
  refine lv_setv (v := .ref (rK kO)) (g_ref (by omega)) ?_
  refine lv_iload_n hx hb (g_29 bX6_moreBy rfl) rfl (lv_at hl 4 rfl) ?_
  refine va_iald hx hb hK hP (20 + kO) 0 (sg8 (n0 := 20) (f := (fun j => zzI cy (rK j) 8 (T_kn tA j))) rfl rfl rfl rfl rfl rfl rfl rfl kO (by omega)) rfl (vp_in_nI (by omega) (by omega)) (g_46 bX6_moreBy rfl) ?_
  refine lv_seti (v := T_kn tA kO kB) (congrArg (T_kn tA kO) (nI_clamp (by omega))) ?_
  refine lv_icmp_le (tgt := 49) hx hb dX6_moreBy_32 (by decide +kernel) (fun c_1 => ?_) (fun c_1 => ?_)
  · refine lv_iconst (v := 0) hx hb (g_3 bX6_moreBy rfl) (by decide +kernel) ?_
    exact endR hx hb hr hlocks rfl (by unfold zgt; rw [gt_no (r_te (hTI.2.1 _ _) (hTI.2.2.2.2.2 _)) (hTI.2.1 _ _) (Int32.not_lt.mpr c_1)]) (g_172 bX6_moreBy rfl)
  · refine lv_iload hx hb (g_21 (v := 4) bX6_moreBy rfl) (lv_at hl 0 rfl) ?_
    refine lv_aload_n hx hb (g_42 bX6_moreBy rfl) rfl (lv_at hl 1 rfl) ?_
    refine va_get (D := G) (ci := 5) (v := .ref qmK) (C := RX6) (T := TX6) (N := 35) hx hb hts iX_X6 hown hK hP 0 rfl rfl 14 (by decide +kernel) (hts _ m_t864) (fun _ h9 => h9) rfl (g_180 (v := 48) bX6_moreBy rfl) ?_
    refine lv_iload_n hx hb (g_28 bX6_moreBy rfl) rfl (lv_at hl 3 rfl) ?_
    refine va_alda hx hb hK hP 19 3 rfl rfl (in8 (by omega)) (g_50 bX6_moreBy rfl) ?_
    refine lv_setv (v := .ref (rK kO)) (g_ref (by omega)) ?_
    refine lv_iload_n hx hb (g_29 bX6_moreBy rfl) rfl (lv_at hl 4 rfl) ?_
    refine va_iald hx hb hK hP (20 + kO) 0 (sg8 (n0 := 20) (f := (fun j => zzI cy (rK j) 8 (T_kn tA j))) rfl rfl rfl rfl rfl rfl rfl rfl kO (by omega)) rfl (vp_in_nI (by omega) (by omega)) (g_46 bX6_moreBy rfl) ?_
    refine lv_seti (v := T_kn tA kO kB) (congrArg (T_kn tA kO) (nI_clamp (by omega))) ?_
    refine lv_isub hx hb (g_100 bX6_moreBy rfl) ?_
    refine lv_goto (tgt := 50) hx hb dX6_moreBy_46 (by decide +kernel) ?_
    exact endR hx hb hr hlocks rfl (by unfold zgt; rw [gt_up (r_te (hTI.2.1 _ _) (hTI.2.2.2.2.2 _)) (hTI.2.1 _ _) (Int32.not_le.mp c_1)]) (g_172 bX6_moreBy rfl)
set_option maxHeartbeats 4000000 in
set_option maxRecDepth 100000 in
theorem c_X6_greatest (l : Launch) (G : va_G) (cy : Nat → ClassId) (qm : Nat) (v0 : Value) (v1 : Value) (v2 : Value) (v3 : Value) (v4 : Value) (v5 : Value) (v6 : Value) (v7 : Value) (v8 : Value) (v9 : Value) (tA : TA) (qmB : Nat) (qmO : Nat) (qmK : Nat) (iEn : Int32) (iTk : Int32) (v18 : Value) (v19 : Value) (v20 : Value) (v21 : Value) (v22 : Value) (v23 : Value) (v24 : Value) (v25 : Value) (v26 : Value) (iLv : Int32) (iWs : Int32) (v29 : Value) (v30 : Value) (v31 : Value) (v32 : Value) (v33 : Value) (v34 : Value) (rO : Nat → Nat) (rK : Nat → Nat) (kB : Nat) (iS : Int32)  (hPp : T_np tA ≤ 8) (hJ : kB < 8) : MR l yX6_greatest cX6_greatest 5 (some .int) 2 G cy [zzO qm 5 (v0 :: v1 :: v2 :: v3 :: v4 :: v5 :: v6 :: v7 :: v8 :: v9 :: .int (nI (T_nb tA)) :: .ref qmB :: .int (nI (T_np tA)) :: .ref qmO :: .ref qmK :: .int iEn :: .int iTk :: .int (T_sd tA) :: v18 :: v19 :: v20 :: v21 :: v22 :: v23 :: v24 :: v25 :: v26 :: .int iLv :: .int iWs :: v29 :: v30 :: v31 :: v32 :: v33 :: v34 :: []), zzG cy 3 qmO rO, zzI cy (rO 0) 5 (onR tA 0), zzI cy (rO 1) 5 (onR tA 1), zzI cy (rO 2) 5 (onR tA 2), zzI cy (rO 3) 5 (onR tA 3), zzI cy (rO 4) 5 (onR tA 4), zzI cy (rO 5) 5 (onR tA 5), zzI cy (rO 6) 5 (onR tA 6), zzI cy (rO 7) 5 (onR tA 7), zzG cy 3 qmK rK, zzI cy (rK 0) 8 (T_kn tA 0), zzI cy (rK 1) 8 (T_kn tA 1), zzI cy (rK 2) 8 (T_kn tA 2), zzI cy (rK 3) 8 (T_kn tA 3), zzI cy (rK 4) 8 (T_kn tA 4), zzI cy (rK 5) 8 (T_kn tA 5), zzI cy (rK 6) 8 (T_kn tA 6), zzI cy (rK 7) 8 (T_kn tA 7)] [.ref qm, .int (nI kB), .int iS] (vp_Si (fun r => (r = (mgr tA kB iS)))) := by
  refine enR RX6 (by decide +kernel) rfl (Nat.le_of_ble_eq_true rfl) (fun p e s m below meth c ls hx hb hml hown hts hr hlocks hP hN hl => ?_)
  have hK := hN.1
  replace hl : lv_has ls 5 [(0, .ref qm), (1, .int (nI kB)), (2, .int iS)] := hl
  refine lv_iconst (v := 0) hx hb (g_3 bX6_greatest rfl) (by decide +kernel) ?_
  refine lv_istore_n (lv' := [(3, .int 0), (0, .ref qm), (1, .int (nI kB)), (2, .int iS)]) hx hb (g_62 bX6_greatest rfl) rfl hl (by decide +kernel) rfl (fun ls => ?_)
  clear hl
  intro hl
  refine lv_iconst (v := 0) hx hb (g_3 bX6_greatest rfl) (by decide +kernel) ?_
  refine lv_istore (lv' := [(4, .int 0), (3, .int 0), (0, .ref qm), (1, .int (nI kB)), (2, .int iS)]) hx hb (g_54 (v := 4) bX6_greatest rfl) hl (by decide +kernel) rfl (fun ls => ?_)
  clear hl
  intro hl
  have lp_1 : ∀ (n_2 : Nat) (j_4 : Nat) (xM_5 : Int32), 8 - j_4 < n_2 → j_4 ≤ T_np tA → xM_5 = gA (fun p => bitb iS p && !T_gn tA p) (fun p => T_kn tA p kB) j_4 → ∀ (ls : Array Slot), lv_has ls 5 [(4, .int (nI j_4)), (3, .int xM_5), (0, .ref qm), (1, .int (nI kB)), (2, .int iS)] → W p l e (Rm 2 0 0) s m (List.toArray (α := Value) [.ref qm, .int (nI kB), .int iS]) below meth c s.heap [] 0 0 (MQ below (vp_Si (fun r => (r = (mgr tA kB iS)))) (List.toArray (α := Value) [.ref qm, .int (nI kB), .int iS]) s 0 0 (fun _ => False)) (F0 m 5 ls []) := by
    intro n_2
    induction n_2 with
    | zero => intro j_4 xM_5 hm9; exact absurd hm9 (Nat.not_lt_zero _)
    | succ n_2 ih_3 =>
      intro j_4 xM_5 hm_8 hj_6 hxM_7 ls hl
      refine lv_iload hx hb (g_21 (v := 4) bX6_greatest rfl) (lv_at hl 0 rfl) ?_
      refine lv_aload_n hx hb (g_42 bX6_greatest rfl) rfl (lv_at hl 2 rfl) ?_
      refine va_get (D := G) (ci := 5) (v := .int (nI (T_np tA))) (C := RX6) (T := TX6) (N := 35) hx hb hts iX_X6 hown hK hP 0 rfl rfl 12 (by decide +kernel) (hts _ m_t862) (fun _ h9 => h9) rfl (g_180 (v := 78) bX6_greatest rfl) ?_
      refine lv_icmp_ge (tgt := 65) hx hb dX6_greatest_11 (by decide +kernel) (fun c_9 => ?_) (fun c_9 => ?_)
      · have hlt_10 : j_4 = T_np tA := Nat.le_antisymm (by omega) (lp_ge rfl rfl (by omega) (by omega) c_9)
        refine lv_iload_n hx hb (g_29 bX6_greatest rfl) rfl (lv_at hl 1 rfl) ?_
        exact endR hx hb hr hlocks rfl (by rw [hxM_7, hlt_10]; rfl) (g_172 bX6_greatest rfl)
      · have hlt_11 : j_4 < T_np tA := lp_lt rfl rfl (by omega) (by omega) c_9
        refine lv_iload_n hx hb (g_28 bX6_greatest rfl) rfl (lv_at hl 4 rfl) ?_
        refine lv_iload hx hb (g_21 (v := 4) bX6_greatest rfl) (lv_at hl 0 rfl) ?_
        refine lv_ishr hx hb (g_122 bX6_greatest rfl) ?_
        refine lv_iconst (v := 1) hx hb (g_4 bX6_greatest rfl) (by decide +kernel) ?_
        refine lv_iand hx hb (g_126 bX6_greatest rfl) ?_
        refine lv_if_eq (tgt := 57) hx hb dX6_greatest_20 (by decide +kernel) (fun c_12 => ?_) (fun c_12 => ?_)
        · refine lv_iload_n hx hb (g_29 bX6_greatest rfl) rfl (lv_at hl 1 rfl) ?_
          refine lv_istore_n (lv' := [(3, .int xM_5), (4, .int (nI j_4)), (0, .ref qm), (1, .int (nI kB)), (2, .int iS)]) hx hb (g_62 bX6_greatest rfl) rfl hl (by decide +kernel) rfl (fun ls => ?_)
          clear hl
          intro hl
          refine lv_iinc (v := nI (j_4 + 1)) (lv' := [(4, .int (nI (j_4 + 1))), (3, .int xM_5), (0, .ref qm), (1, .int (nI kB)), (2, .int iS)]) hx hb dX6_greatest_59 hl (k := 1) rfl (nI_1 _) (by decide +kernel) rfl (fun ls => ?_)
          clear hl
          intro hl
          refine lv_goto (tgt := 5) hx hb dX6_greatest_62 (by decide +kernel) ?_
          exact ih_3 (j_4 + 1) xM_5 (by omega) (by omega) (by rw [hxM_7]; exact (ga_no (by rw [bt_no c_12]; rfl)).symm) _ (lv_sub hl [0, 1, 2, 3, 4] rfl)
        · refine lv_aload_n hx hb (g_42 bX6_greatest rfl) rfl (lv_at hl 2 rfl) ?_
          refine lv_iload hx hb (g_21 (v := 4) bX6_greatest rfl) (lv_at hl 0 rfl) ?_
          refine kRi (rV (As := [.int (nI j_4)]) (rest := []) (b := qm) ⟨hx, hb, hml, hown, hts⟩ (c_X6_isThere l G cy qm v0 v1 v2 v3 v4 v5 v6 v7 v8 v9 tA qmB qmO qmK iEn iTk v18 v19 v20 v21 v22 v23 v24 v25 v26 iLv iWs v29 v30 v31 v32 v33 v34 rO j_4 (by first | omega | (simp only [nb_sr, np_sr, nb_wr, np_wr, nb_rd, np_rd, nb_ch, np_ch, nb_zr, np_zr, nb_za, np_za, nb_ey, np_ey, nb_hf, np_hf, nb_dd, np_dd, nb_so, np_so, nb_skn, np_skn, nb_swh, np_swh, nb_sgn, np_sgn, nb_ssd, np_ssd, nb_sgo, np_sgo, nb_sag, np_sag]; omega))) L_X6_81 (preRV (q := (RX6, TX6, 35)) hN hP (trueIx 0 [true, true, true, true, true, true, true, true, true, true]) (sel_fm rfl rfl) 0 5 rfl rfl) rfl ⟨Nat.le_of_ble_eq_true rfl, Nat.le_of_ble_eq_true rfl⟩ hl.1 (Nat.le_of_ble_eq_true rfl) (g_182 (v := 81) bX6_greatest rfl) ⟨Nat.le_of_ble_eq_true rfl, Nat.le_of_ble_eq_true rfl⟩) (fun r_13 h_14 => ?_)
          rcases h_14 with ⟨rfl, h_15⟩ | ⟨rfl, h_15⟩
          · refine lv_if_eq (tgt := 57) hx hb dX6_greatest_29 (by decide +kernel) (fun h9 => absurd h9 (by decide +kernel)) (fun _ => ?_)
            refine lv_aload_n hx hb (g_42 bX6_greatest rfl) rfl (lv_at hl 2 rfl) ?_
            refine va_get (D := G) (ci := 5) (v := .ref qmK) (C := RX6) (T := TX6) (N := 35) hx hb hts iX_X6 hown hK hP 0 rfl rfl 14 (by decide +kernel) (hts _ m_t864) (fun _ h9 => h9) rfl (g_180 (v := 48) bX6_greatest rfl) ?_
            refine lv_iload hx hb (g_21 (v := 4) bX6_greatest rfl) (lv_at hl 0 rfl) ?_
            refine va_alda hx hb hK hP 10 3 rfl rfl (in8 (by omega)) (g_50 bX6_greatest rfl) ?_
            refine lv_setv (v := .ref (rK j_4)) (g_ref (by omega)) ?_
            refine lv_iload_n hx hb (g_27 bX6_greatest rfl) rfl (lv_at hl 3 rfl) ?_
            refine va_iald hx hb hK hP (11 + j_4) 0 (sg8 (n0 := 11) (f := (fun j => zzI cy (rK j) 8 (T_kn tA j))) rfl rfl rfl rfl rfl rfl rfl rfl j_4 (by omega)) rfl (vp_in_nI (by omega) (by omega)) (g_46 bX6_greatest rfl) ?_
            refine lv_seti (v := T_kn tA j_4 kB) (congrArg (T_kn tA j_4) (nI_clamp (by omega))) ?_
            refine lv_iload_n hx hb (g_29 bX6_greatest rfl) rfl (lv_at hl 1 rfl) ?_
            refine lv_icmp_le (tgt := 57) hx hb dX6_greatest_42 (by decide +kernel) (fun c_17 => ?_) (fun c_17 => ?_)
            · refine lv_iload_n hx hb (g_29 bX6_greatest rfl) rfl (lv_at hl 1 rfl) ?_
              refine lv_istore_n (lv' := [(3, .int xM_5), (4, .int (nI j_4)), (0, .ref qm), (1, .int (nI kB)), (2, .int iS)]) hx hb (g_62 bX6_greatest rfl) rfl hl (by decide +kernel) rfl (fun ls => ?_)
              clear hl
              intro hl
              refine lv_iinc (v := nI (j_4 + 1)) (lv' := [(4, .int (nI (j_4 + 1))), (3, .int xM_5), (0, .ref qm), (1, .int (nI kB)), (2, .int iS)]) hx hb dX6_greatest_59 hl (k := 1) rfl (nI_1 _) (by decide +kernel) rfl (fun ls => ?_)
              clear hl
              intro hl
              refine lv_goto (tgt := 5) hx hb dX6_greatest_62 (by decide +kernel) ?_
              exact ih_3 (j_4 + 1) xM_5 (by omega) (by omega) (by rw [hxM_7] at c_17 ⊢; exact (ga_yn (by rw [bt_yes c_12, h_15]; rfl) c_17).symm) _ (lv_sub hl [0, 1, 2, 3, 4] rfl)
            · refine lv_aload_n hx hb (g_42 bX6_greatest rfl) rfl (lv_at hl 2 rfl) ?_
              refine va_get (D := G) (ci := 5) (v := .ref qmK) (C := RX6) (T := TX6) (N := 35) hx hb hts iX_X6 hown hK hP 0 rfl rfl 14 (by decide +kernel) (hts _ m_t864) (fun _ h9 => h9) rfl (g_180 (v := 48) bX6_greatest rfl) ?_
              refine lv_iload hx hb (g_21 (v := 4) bX6_greatest rfl) (lv_at hl 0 rfl) ?_
              refine va_alda hx hb hK hP 10 3 rfl rfl (in8 (by omega)) (g_50 bX6_greatest rfl) ?_
              refine lv_setv (v := .ref (rK j_4)) (g_ref (by omega)) ?_
              refine lv_iload_n hx hb (g_27 bX6_greatest rfl) rfl (lv_at hl 3 rfl) ?_
              refine va_iald hx hb hK hP (11 + j_4) 0 (sg8 (n0 := 11) (f := (fun j => zzI cy (rK j) 8 (T_kn tA j))) rfl rfl rfl rfl rfl rfl rfl rfl j_4 (by omega)) rfl (vp_in_nI (by omega) (by omega)) (g_46 bX6_greatest rfl) ?_
              refine lv_seti (v := T_kn tA j_4 kB) (congrArg (T_kn tA j_4) (nI_clamp (by omega))) ?_
              refine lv_goto (tgt := 58) hx hb dX6_greatest_54 (by decide +kernel) ?_
              refine lv_istore_n (lv' := [(3, .int (T_kn tA j_4 kB)), (4, .int (nI j_4)), (0, .ref qm), (1, .int (nI kB)), (2, .int iS)]) hx hb (g_62 bX6_greatest rfl) rfl hl (by decide +kernel) rfl (fun ls => ?_)
              clear hl
              intro hl
              refine lv_iinc (v := nI (j_4 + 1)) (lv' := [(4, .int (nI (j_4 + 1))), (3, .int (T_kn tA j_4 kB)), (0, .ref qm), (1, .int (nI kB)), (2, .int iS)]) hx hb dX6_greatest_59 hl (k := 1) rfl (nI_1 _) (by decide +kernel) rfl (fun ls => ?_)
              clear hl
              intro hl
              refine lv_goto (tgt := 5) hx hb dX6_greatest_62 (by decide +kernel) ?_
              exact ih_3 (j_4 + 1) (T_kn tA j_4 kB) (by omega) (by omega) (by rw [hxM_7] at c_17; exact (ga_yy (by rw [bt_yes c_12, h_15]; rfl) c_17).symm) _ (lv_sub hl [0, 1, 2, 3, 4] rfl)
          · refine lv_if_eq (tgt := 57) hx hb dX6_greatest_29 (by decide +kernel) (fun _ => ?_) (fun h9 => absurd (by decide +kernel) h9)
            refine lv_iload_n hx hb (g_29 bX6_greatest rfl) rfl (lv_at hl 1 rfl) ?_
            refine lv_istore_n (lv' := [(3, .int xM_5), (4, .int (nI j_4)), (0, .ref qm), (1, .int (nI kB)), (2, .int iS)]) hx hb (g_62 bX6_greatest rfl) rfl hl (by decide +kernel) rfl (fun ls => ?_)
            clear hl
            intro hl
            refine lv_iinc (v := nI (j_4 + 1)) (lv' := [(4, .int (nI (j_4 + 1))), (3, .int xM_5), (0, .ref qm), (1, .int (nI kB)), (2, .int iS)]) hx hb dX6_greatest_59 hl (k := 1) rfl (nI_1 _) (by decide +kernel) rfl (fun ls => ?_)
            clear hl
            intro hl
            refine lv_goto (tgt := 5) hx hb dX6_greatest_62 (by decide +kernel) ?_
            exact ih_3 (j_4 + 1) xM_5 (by omega) (by omega) (by rw [hxM_7]; exact (ga_no (by rw [h_15]; exact Bool.and_false _)).symm) _ (lv_sub hl [0, 1, 2, 3, 4] rfl)
  exact lp_1 ((8 - 0) + 1) 0 0 (Nat.lt_succ_self _) (Nat.zero_le _) rfl ls (lv_sub hl [0, 1, 2, 3, 4] rfl)
set_option maxHeartbeats 4000000 in
set_option maxRecDepth 100000 in
theorem c_X6_valueOf (l : Launch) (G : va_G) (cy : Nat → ClassId) (qm : Nat) (v0 : Value) (v1 : Value) (v2 : Value) (v3 : Value) (v4 : Value) (v5 : Value) (v6 : Value) (v7 : Value) (v8 : Value) (v9 : Value) (tA : TA) (qmB : Nat) (qmO : Nat) (qmK : Nat) (iEn : Int32) (iTk : Int32) (v18 : Value) (v19 : Value) (v20 : Value) (v21 : Value) (v22 : Value) (v23 : Value) (v24 : Value) (v25 : Value) (v26 : Value) (iLv : Int32) (iWs : Int32) (v29 : Value) (v30 : Value) (v31 : Value) (v32 : Value) (v33 : Value) (v34 : Value) (rB : Nat → Nat) (rO : Nat → Nat) (rK : Nat → Nat) (iS : Int32)  (hB : T_nb tA ≤ 8) (hPp : T_np tA ≤ 8) : MR l yX6_valueOf cX6_valueOf 4 (some .int) 3 G cy [zzO qm 5 (v0 :: v1 :: v2 :: v3 :: v4 :: v5 :: v6 :: v7 :: v8 :: v9 :: .int (nI (T_nb tA)) :: .ref qmB :: .int (nI (T_np tA)) :: .ref qmO :: .ref qmK :: .int iEn :: .int iTk :: .int (T_sd tA) :: v18 :: v19 :: v20 :: v21 :: v22 :: v23 :: v24 :: v25 :: v26 :: .int iLv :: .int iWs :: v29 :: v30 :: v31 :: v32 :: v33 :: v34 :: []), zzG cy 3 qmB rB, zzI cy (rB 0) 4 (bkR tA 0), zzI cy (rB 1) 4 (bkR tA 1), zzI cy (rB 2) 4 (bkR tA 2), zzI cy (rB 3) 4 (bkR tA 3), zzI cy (rB 4) 4 (bkR tA 4), zzI cy (rB 5) 4 (bkR tA 5), zzI cy (rB 6) 4 (bkR tA 6), zzI cy (rB 7) 4 (bkR tA 7), zzG cy 3 qmO rO, zzI cy (rO 0) 5 (onR tA 0), zzI cy (rO 1) 5 (onR tA 1), zzI cy (rO 2) 5 (onR tA 2), zzI cy (rO 3) 5 (onR tA 3), zzI cy (rO 4) 5 (onR tA 4), zzI cy (rO 5) 5 (onR tA 5), zzI cy (rO 6) 5 (onR tA 6), zzI cy (rO 7) 5 (onR tA 7), zzG cy 3 qmK rK, zzI cy (rK 0) 8 (T_kn tA 0), zzI cy (rK 1) 8 (T_kn tA 1), zzI cy (rK 2) 8 (T_kn tA 2), zzI cy (rK 3) 8 (T_kn tA 3), zzI cy (rK 4) 8 (T_kn tA 4), zzI cy (rK 5) 8 (T_kn tA 5), zzI cy (rK 6) 8 (T_kn tA 6), zzI cy (rK 7) 8 (T_kn tA 7)] [.ref qm, .int iS] (vp_Si (fun r => (r = (mvo tA iS)))) := by
  refine enR RX6 (by decide +kernel) rfl (Nat.le_of_ble_eq_true rfl) (fun p e s m below meth c ls hx hb hml hown hts hr hlocks hP hN hl => ?_)
  have hK := hN.1
  replace hl : lv_has ls 4 [(0, .ref qm), (1, .int iS)] := hl
  refine lv_iconst (v := 0) hx hb (g_3 bX6_valueOf rfl) (by decide +kernel) ?_
  refine lv_istore_n (lv' := [(2, .int 0), (0, .ref qm), (1, .int iS)]) hx hb (g_61 bX6_valueOf rfl) rfl hl (by decide +kernel) rfl (fun ls => ?_)
  clear hl
  intro hl
  refine lv_iconst (v := 0) hx hb (g_3 bX6_valueOf rfl) (by decide +kernel) ?_
  refine lv_istore_n (lv' := [(3, .int 0), (2, .int 0), (0, .ref qm), (1, .int iS)]) hx hb (g_62 bX6_valueOf rfl) rfl hl (by decide +kernel) rfl (fun ls => ?_)
  clear hl
  intro hl
  have lp_1 : ∀ (n_2 : Nat) (j_4 : Nat) (xM_5 : Int32), 8 - j_4 < n_2 → j_4 ≤ T_nb tA → xM_5 = wsum (fun b => T_wo tA b * mgr tA b iS) j_4 → ∀ (ls : Array Slot), lv_has ls 4 [(3, .int (nI j_4)), (2, .int xM_5), (0, .ref qm), (1, .int iS)] → W p l e (Rm 3 0 0) s m (List.toArray (α := Value) [.ref qm, .int iS]) below meth c s.heap [] 0 0 (MQ below (vp_Si (fun r => (r = (mvo tA iS)))) (List.toArray (α := Value) [.ref qm, .int iS]) s 0 0 (fun _ => False)) (F0 m 4 ls []) := by
    intro n_2
    induction n_2 with
    | zero => intro j_4 xM_5 hm9; exact absurd hm9 (Nat.not_lt_zero _)
    | succ n_2 ih_3 =>
      intro j_4 xM_5 hm_8 hj_6 hxM_7 ls hl
      refine lv_iload_n hx hb (g_29 bX6_valueOf rfl) rfl (lv_at hl 0 rfl) ?_
      refine lv_aload_n hx hb (g_42 bX6_valueOf rfl) rfl (lv_at hl 2 rfl) ?_
      refine va_get (D := G) (ci := 5) (v := .int (nI (T_nb tA))) (C := RX6) (T := TX6) (N := 35) hx hb hts iX_X6 hown hK hP 0 rfl rfl 10 (by decide +kernel) (hts _ m_t860) (fun _ h9 => h9) rfl (g_180 (v := 71) bX6_valueOf rfl) ?_
      refine lv_icmp_ge (tgt := 36) hx hb dX6_valueOf_9 (by decide +kernel) (fun c_9 => ?_) (fun c_9 => ?_)
      · have hlt_10 : j_4 = T_nb tA := Nat.le_antisymm (by omega) (lp_ge rfl rfl (by omega) (by omega) c_9)
        refine lv_iload_n hx hb (g_28 bX6_valueOf rfl) rfl (lv_at hl 1 rfl) ?_
        exact endR hx hb hr hlocks rfl (by rw [hxM_7, hlt_10]; rfl) (g_172 bX6_valueOf rfl)
      · have hlt_11 : j_4 < T_nb tA := lp_lt rfl rfl (by omega) (by omega) c_9
        refine lv_iload_n hx hb (g_28 bX6_valueOf rfl) rfl (lv_at hl 1 rfl) ?_
        refine lv_aload_n hx hb (g_42 bX6_valueOf rfl) rfl (lv_at hl 2 rfl) ?_
        refine va_get (D := G) (ci := 5) (v := .ref qmB) (C := RX6) (T := TX6) (N := 35) hx hb hts iX_X6 hown hK hP 0 rfl rfl 11 (by decide +kernel) (hts _ m_t861) (fun _ h9 => h9) rfl (g_180 (v := 42) bX6_valueOf rfl) ?_
        refine lv_iload_n hx hb (g_29 bX6_valueOf rfl) rfl (lv_at hl 0 rfl) ?_
        refine va_alda hx hb hK hP 1 3 rfl rfl (in8 (by omega)) (g_50 bX6_valueOf rfl) ?_
        refine lv_setv (v := .ref (rB j_4)) (g_ref (by omega)) ?_
        refine lv_iconst (v := 0) hx hb (g_3 bX6_valueOf rfl) (by decide +kernel) ?_
        refine va_iald hx hb hK hP (2 + j_4) 0 (sg8 (n0 := 2) (f := (fun j => zzI cy (rB j) 4 (bkR tA j))) rfl rfl rfl rfl rfl rfl rfl rfl j_4 (by omega)) rfl (in_c rfl) (g_46 bX6_valueOf rfl) ?_
        refine lv_seti (v := T_wo tA j_4) (bk_0 _ _) ?_
        refine lv_aload_n hx hb (g_42 bX6_valueOf rfl) rfl (lv_at hl 2 rfl) ?_
        refine lv_iload_n hx hb (g_29 bX6_valueOf rfl) rfl (lv_at hl 0 rfl) ?_
        refine lv_iload_n hx hb (g_27 bX6_valueOf rfl) rfl (lv_at hl 3 rfl) ?_
        refine kRi (rV (As := [.int (nI j_4), .int iS]) (rest := [.int (T_wo tA j_4), .int xM_5]) (b := qm) ⟨hx, hb, hml, hown, hts⟩ (c_X6_greatest l G cy qm v0 v1 v2 v3 v4 v5 v6 v7 v8 v9 tA qmB qmO qmK iEn iTk v18 v19 v20 v21 v22 v23 v24 v25 v26 iLv iWs v29 v30 v31 v32 v33 v34 rO rK j_4 iS hPp (by first | omega | (simp only [nb_sr, np_sr, nb_wr, np_wr, nb_rd, np_rd, nb_ch, np_ch, nb_zr, np_zr, nb_za, np_za, nb_ey, np_ey, nb_hf, np_hf, nb_dd, np_dd, nb_so, np_so, nb_skn, np_skn, nb_swh, np_swh, nb_sgn, np_sgn, nb_ssd, np_ssd, nb_sgo, np_sgo, nb_sag, np_sag]; omega))) L_X6_233 (preRV (q := (RX6, TX6, 35)) hN hP (trueIx 0 [true, false, false, false, false, false, false, false, false, false, true, true, true, true, true, true, true, true, true, true, true, true, true, true, true, true, true, true]) (sel_fm rfl rfl) 0 5 rfl rfl) rfl ⟨Nat.le_of_ble_eq_true rfl, Nat.le_of_ble_eq_true rfl⟩ hl.1 (Nat.le_of_ble_eq_true rfl) (g_182 (v := 233) bX6_valueOf rfl) ⟨Nat.le_of_ble_eq_true rfl, Nat.le_of_ble_eq_true rfl⟩) (fun r_12 h_13 => ?_)
        subst h_13
        refine lv_imul hx hb (g_104 bX6_valueOf rfl) ?_
        refine lv_iadd hx hb (g_96 bX6_valueOf rfl) ?_
        refine lv_istore_n (lv' := [(2, .int (xM_5 + ((T_wo tA j_4) * (mgr tA j_4 iS)))), (3, .int (nI j_4)), (0, .ref qm), (1, .int iS)]) hx hb (g_61 bX6_valueOf rfl) rfl hl (by decide +kernel) rfl (fun ls => ?_)
        clear hl
        intro hl
        refine lv_iinc (v := nI (j_4 + 1)) (lv' := [(3, .int (nI (j_4 + 1))), (2, .int (xM_5 + ((T_wo tA j_4) * (mgr tA j_4 iS)))), (0, .ref qm), (1, .int iS)]) hx hb dX6_valueOf_30 hl (k := 1) rfl (nI_1 _) (by decide +kernel) rfl (fun ls => ?_)
        clear hl
        intro hl
        refine lv_goto (tgt := 4) hx hb dX6_valueOf_33 (by decide +kernel) ?_
        exact ih_3 (j_4 + 1) (xM_5 + ((T_wo tA j_4) * (mgr tA j_4 iS))) (by omega) (by omega) (by rw [hxM_7]; rfl) _ (lv_sub hl [0, 1, 2, 3] rfl)
  exact lp_1 ((8 - 0) + 1) 0 0 (Nat.lt_succ_self _) (Nat.zero_le _) rfl ls (lv_sub hl [0, 1, 2, 3] rfl)
set_option maxHeartbeats 4000000 in
set_option maxRecDepth 100000 in
theorem c_X6_valueNow (l : Launch) (G : va_G) (cy : Nat → ClassId) (qm : Nat) (v0 : Value) (v1 : Value) (v2 : Value) (v3 : Value) (v4 : Value) (v5 : Value) (v6 : Value) (v7 : Value) (v8 : Value) (v9 : Value) (tA : TA) (qmB : Nat) (qmO : Nat) (qmK : Nat) (iEn : Int32) (iTk : Int32) (v18 : Value) (v19 : Value) (v20 : Value) (v21 : Value) (v22 : Value) (v23 : Value) (v24 : Value) (v25 : Value) (v26 : Value) (iLv : Int32) (iWs : Int32) (v29 : Value) (v30 : Value) (v31 : Value) (v32 : Value) (v33 : Value) (v34 : Value) (rB : Nat → Nat) (rO : Nat → Nat) (rK : Nat → Nat)  (hB : T_nb tA ≤ 8) (hPp : T_np tA ≤ 8) : MR l yX6_valueNow cX6_valueNow 1 (some .int) 4 G cy [zzO qm 5 (v0 :: v1 :: v2 :: v3 :: v4 :: v5 :: v6 :: v7 :: v8 :: v9 :: .int (nI (T_nb tA)) :: .ref qmB :: .int (nI (T_np tA)) :: .ref qmO :: .ref qmK :: .int iEn :: .int iTk :: .int (T_sd tA) :: v18 :: v19 :: v20 :: v21 :: v22 :: v23 :: v24 :: v25 :: v26 :: .int iLv :: .int iWs :: v29 :: v30 :: v31 :: v32 :: v33 :: v34 :: []), zzG cy 3 qmB rB, zzI cy (rB 0) 4 (bkR tA 0), zzI cy (rB 1) 4 (bkR tA 1), zzI cy (rB 2) 4 (bkR tA 2), zzI cy (rB 3) 4 (bkR tA 3), zzI cy (rB 4) 4 (bkR tA 4), zzI cy (rB 5) 4 (bkR tA 5), zzI cy (rB 6) 4 (bkR tA 6), zzI cy (rB 7) 4 (bkR tA 7), zzG cy 3 qmO rO, zzI cy (rO 0) 5 (onR tA 0), zzI cy (rO 1) 5 (onR tA 1), zzI cy (rO 2) 5 (onR tA 2), zzI cy (rO 3) 5 (onR tA 3), zzI cy (rO 4) 5 (onR tA 4), zzI cy (rO 5) 5 (onR tA 5), zzI cy (rO 6) 5 (onR tA 6), zzI cy (rO 7) 5 (onR tA 7), zzG cy 3 qmK rK, zzI cy (rK 0) 8 (T_kn tA 0), zzI cy (rK 1) 8 (T_kn tA 1), zzI cy (rK 2) 8 (T_kn tA 2), zzI cy (rK 3) 8 (T_kn tA 3), zzI cy (rK 4) 8 (T_kn tA 4), zzI cy (rK 5) 8 (T_kn tA 5), zzI cy (rK 6) 8 (T_kn tA 6), zzI cy (rK 7) 8 (T_kn tA 7)] [.ref qm] (vp_Si (fun r => (r = (mvo tA ((1 <<< (nI (T_np tA) &&& 31)) - 1))))) := by
  refine enR RX6 (by decide +kernel) rfl (Nat.le_of_ble_eq_true rfl) (fun p e s m below meth c ls hx hb hml hown hts hr hlocks hP hN hl => ?_)
  have hK := hN.1
  replace hl : lv_has ls 1 [(0, .ref qm)] := hl
  refine lv_aload_n hx hb (g_42 bX6_valueNow rfl) rfl (lv_at hl 0 rfl) ?_
  refine lv_iconst (v := 1) hx hb (g_4 bX6_valueNow rfl) (by decide +kernel) ?_
  refine lv_aload_n hx hb (g_42 bX6_valueNow rfl) rfl (lv_at hl 0 rfl) ?_
  refine va_get (D := G) (ci := 5) (v := .int (nI (T_np tA))) (C := RX6) (T := TX6) (N := 35) hx hb hts iX_X6 hown hK hP 0 rfl rfl 12 (by decide +kernel) (hts _ m_t862) (fun _ h9 => h9) rfl (g_180 (v := 78) bX6_valueNow rfl) ?_
  refine lv_ishl hx hb (g_120 bX6_valueNow rfl) ?_
  refine lv_iconst (v := 1) hx hb (g_4 bX6_valueNow rfl) (by decide +kernel) ?_
  refine lv_isub hx hb (g_100 bX6_valueNow rfl) ?_
  refine kRi (rV (As := [.int ((1 <<< ((nI (T_np tA)) &&& 31)) - 1)]) (rest := []) (b := qm) ⟨hx, hb, hml, hown, hts⟩ (c_X6_valueOf l G cy qm v0 v1 v2 v3 v4 v5 v6 v7 v8 v9 tA qmB qmO qmK iEn iTk v18 v19 v20 v21 v22 v23 v24 v25 v26 iLv iWs v29 v30 v31 v32 v33 v34 rB rO rK ((1 <<< ((nI (T_np tA)) &&& 31)) - 1) hB hPp) L_X6_266 (preRV (q := (RX6, TX6, 35)) hN hP (trueIx 0 [true, true, true, true, true, true, true, true, true, true, true, true, true, true, true, true, true, true, true, true, true, true, true, true, true, true, true, true]) (sel_fm rfl rfl) 0 5 rfl rfl) rfl ⟨Nat.le_of_ble_eq_true rfl, Nat.le_of_ble_eq_true rfl⟩ hl.1 (Nat.le_of_ble_eq_true rfl) (g_182 (v := 266) bX6_valueNow rfl) ⟨Nat.le_of_ble_eq_true rfl, Nat.le_of_ble_eq_true rfl⟩) (fun r_1 h_2 => ?_)
  subst h_2
  exact endR hx hb hr hlocks rfl (by rfl) (g_172 bX6_valueNow rfl)
set_option maxHeartbeats 4000000 in
set_option maxRecDepth 100000 in
theorem c_X6_youngestBut (l : Launch) (G : va_G) (cy : Nat → ClassId) (qm : Nat) (v0 : Value) (v1 : Value) (v2 : Value) (v3 : Value) (v4 : Value) (v5 : Value) (v6 : Value) (v7 : Value) (v8 : Value) (v9 : Value) (tA : TA) (qmB : Nat) (qmO : Nat) (qmK : Nat) (iEn : Int32) (iTk : Int32) (v18 : Value) (v19 : Value) (v20 : Value) (v21 : Value) (v22 : Value) (v23 : Value) (v24 : Value) (v25 : Value) (v26 : Value) (iLv : Int32) (iWs : Int32) (v29 : Value) (v30 : Value) (v31 : Value) (v32 : Value) (v33 : Value) (v34 : Value) (rO : Nat → Nat) (iO : Int32)  (hPp : T_np tA ≤ 8) : MR l yX6_youngestBut cX6_youngestBut 4 (some .int) 2 G cy [zzO qm 5 (v0 :: v1 :: v2 :: v3 :: v4 :: v5 :: v6 :: v7 :: v8 :: v9 :: .int (nI (T_nb tA)) :: .ref qmB :: .int (nI (T_np tA)) :: .ref qmO :: .ref qmK :: .int iEn :: .int iTk :: .int (T_sd tA) :: v18 :: v19 :: v20 :: v21 :: v22 :: v23 :: v24 :: v25 :: v26 :: .int iLv :: .int iWs :: v29 :: v30 :: v31 :: v32 :: v33 :: v34 :: []), zzG cy 3 qmO rO, zzI cy (rO 0) 5 (onR tA 0), zzI cy (rO 1) 5 (onR tA 1), zzI cy (rO 2) 5 (onR tA 2), zzI cy (rO 3) 5 (onR tA 3), zzI cy (rO 4) 5 (onR tA 4), zzI cy (rO 5) 5 (onR tA 5), zzI cy (rO 6) 5 (onR tA 6), zzI cy (rO 7) 5 (onR tA 7)] [.ref qm, .int iO] (vp_Si (fun r => (r = (zyb tA iO)))) := by
  refine enR RX6 (by decide +kernel) rfl (Nat.le_of_ble_eq_true rfl) (fun p e s m below meth c ls hx hb hml hown hts hr hlocks hP hN hl => ?_)
  have hK := hN.1
  replace hl : lv_has ls 4 [(0, .ref qm), (1, .int iO)] := hl
  refine lv_iconst (v := (-1)) hx hb (g_2 bX6_youngestBut rfl) (by decide +kernel) ?_
  refine lv_istore_n (lv' := [(2, .int (-1)), (0, .ref qm), (1, .int iO)]) hx hb (g_61 bX6_youngestBut rfl) rfl hl (by decide +kernel) rfl (fun ls => ?_)
  clear hl
  intro hl
  refine lv_iconst (v := 0) hx hb (g_3 bX6_youngestBut rfl) (by decide +kernel) ?_
  refine lv_istore_n (lv' := [(3, .int 0), (2, .int (-1)), (0, .ref qm), (1, .int iO)]) hx hb (g_62 bX6_youngestBut rfl) rfl hl (by decide +kernel) rfl (fun ls => ?_)
  clear hl
  intro hl
  have lp_1 : ∀ (n_2 : Nat) (j_4 : Nat) (xB_5 : Int32), 8 - j_4 < n_2 → j_4 ≤ T_np tA → xB_5 = ybF tA iO j_4 → ∀ (ls : Array Slot), lv_has ls 4 [(3, .int (nI j_4)), (2, .int xB_5), (0, .ref qm), (1, .int iO)] → W p l e (Rm 2 0 0) s m (List.toArray (α := Value) [.ref qm, .int iO]) below meth c s.heap [] 0 0 (MQ below (vp_Si (fun r => (r = (zyb tA iO)))) (List.toArray (α := Value) [.ref qm, .int iO]) s 0 0 (fun _ => False)) (F0 m 4 ls []) := by
    intro n_2
    induction n_2 with
    | zero => intro j_4 xB_5 hm9; exact absurd hm9 (Nat.not_lt_zero _)
    | succ n_2 ih_3 =>
      intro j_4 xB_5 hm_8 hj_6 hxB_7 ls hl
      refine lv_iload_n hx hb (g_29 bX6_youngestBut rfl) rfl (lv_at hl 0 rfl) ?_
      refine lv_aload_n hx hb (g_42 bX6_youngestBut rfl) rfl (lv_at hl 2 rfl) ?_
      refine va_get (D := G) (ci := 5) (v := .int (nI (T_np tA))) (C := RX6) (T := TX6) (N := 35) hx hb hts iX_X6 hown hK hP 0 rfl rfl 12 (by decide +kernel) (hts _ m_t862) (fun _ h9 => h9) rfl (g_180 (v := 78) bX6_youngestBut rfl) ?_
      refine lv_icmp_ge (tgt := 61) hx hb dX6_youngestBut_9 (by decide +kernel) (fun c_9 => ?_) (fun c_9 => ?_)
      · have hlt_10 : j_4 = T_np tA := Nat.le_antisymm (by omega) (lp_ge rfl rfl (by omega) (by omega) c_9)
        refine lv_iload_n hx hb (g_28 bX6_youngestBut rfl) rfl (lv_at hl 1 rfl) ?_
        exact endR hx hb hr hlocks rfl (by rw [hxB_7, hlt_10]; rfl) (g_172 bX6_youngestBut rfl)
      · have hlt_11 : j_4 < T_np tA := lp_lt rfl rfl (by omega) (by omega) c_9
        refine lv_iload_n hx hb (g_29 bX6_youngestBut rfl) rfl (lv_at hl 0 rfl) ?_
        refine lv_iload_n hx hb (g_27 bX6_youngestBut rfl) rfl (lv_at hl 3 rfl) ?_
        refine lv_icmp_eq (tgt := 53) hx hb dX6_youngestBut_14 (by decide +kernel) (fun c_12 => ?_) (fun c_12 => ?_)
        · refine lv_iload_n hx hb (g_28 bX6_youngestBut rfl) rfl (lv_at hl 1 rfl) ?_
          refine lv_istore_n (lv' := [(2, .int xB_5), (3, .int (nI j_4)), (0, .ref qm), (1, .int iO)]) hx hb (g_61 bX6_youngestBut rfl) rfl hl (by decide +kernel) rfl (fun ls => ?_)
          clear hl
          intro hl
          refine lv_iinc (v := nI (j_4 + 1)) (lv' := [(3, .int (nI (j_4 + 1))), (2, .int xB_5), (0, .ref qm), (1, .int iO)]) hx hb dX6_youngestBut_55 hl (k := 1) rfl (nI_1 _) (by decide +kernel) rfl (fun ls => ?_)
          clear hl
          intro hl
          refine lv_goto (tgt := 4) hx hb dX6_youngestBut_58 (by decide +kernel) ?_
          exact ih_3 (j_4 + 1) xB_5 (by omega) (by omega) (by rw [yb_skip (fun q => q.1 c_12)]; exact hxB_7) _ (lv_sub hl [0, 1, 2, 3] rfl)
        · refine lv_aload_n hx hb (g_42 bX6_youngestBut rfl) rfl (lv_at hl 2 rfl) ?_
          refine lv_iload_n hx hb (g_29 bX6_youngestBut rfl) rfl (lv_at hl 0 rfl) ?_
          refine kRi (rV (As := [.int (nI j_4)]) (rest := []) (b := qm) ⟨hx, hb, hml, hown, hts⟩ (c_X6_isThere l G cy qm v0 v1 v2 v3 v4 v5 v6 v7 v8 v9 tA qmB qmO qmK iEn iTk v18 v19 v20 v21 v22 v23 v24 v25 v26 iLv iWs v29 v30 v31 v32 v33 v34 rO j_4 (by first | omega | (simp only [nb_sr, np_sr, nb_wr, np_wr, nb_rd, np_rd, nb_ch, np_ch, nb_zr, np_zr, nb_za, np_za, nb_ey, np_ey, nb_hf, np_hf, nb_dd, np_dd, nb_so, np_so, nb_skn, np_skn, nb_swh, np_swh, nb_sgn, np_sgn, nb_ssd, np_ssd, nb_sgo, np_sgo, nb_sag, np_sag]; omega))) L_X6_81 (preRV (q := (RX6, TX6, 35)) hN hP (trueIx 0 [true, true, true, true, true, true, true, true, true, true]) (sel_fm rfl rfl) 0 5 rfl rfl) rfl ⟨Nat.le_of_ble_eq_true rfl, Nat.le_of_ble_eq_true rfl⟩ hl.1 (Nat.le_of_ble_eq_true rfl) (g_182 (v := 81) bX6_youngestBut rfl) ⟨Nat.le_of_ble_eq_true rfl, Nat.le_of_ble_eq_true rfl⟩) (fun r_13 h_14 => ?_)
          rcases h_14 with ⟨rfl, h_15⟩ | ⟨rfl, h_15⟩
          · refine lv_if_eq (tgt := 53) hx hb dX6_youngestBut_22 (by decide +kernel) (fun h9 => absurd h9 (by decide +kernel)) (fun _ => ?_)
            refine lv_iload_n hx hb (g_28 bX6_youngestBut rfl) rfl (lv_at hl 1 rfl) ?_
            refine lv_iconst (v := (-1)) hx hb (g_2 bX6_youngestBut rfl) (by decide +kernel) ?_
            refine lv_icmp_eq (tgt := 49) hx hb dX6_youngestBut_27 (by decide +kernel) (fun c_17 => ?_) (fun c_17 => ?_)
            · refine lv_iload_n hx hb (g_29 bX6_youngestBut rfl) rfl (lv_at hl 0 rfl) ?_
              refine lv_goto (tgt := 54) hx hb dX6_youngestBut_50 (by decide +kernel) ?_
              refine lv_istore_n (lv' := [(2, .int (nI j_4)), (3, .int (nI j_4)), (0, .ref qm), (1, .int iO)]) hx hb (g_61 bX6_youngestBut rfl) rfl hl (by decide +kernel) rfl (fun ls => ?_)
              clear hl
              intro hl
              refine lv_iinc (v := nI (j_4 + 1)) (lv' := [(3, .int (nI (j_4 + 1))), (2, .int (nI j_4)), (0, .ref qm), (1, .int iO)]) hx hb dX6_youngestBut_55 hl (k := 1) rfl (nI_1 _) (by decide +kernel) rfl (fun ls => ?_)
              clear hl
              intro hl
              refine lv_goto (tgt := 4) hx hb dX6_youngestBut_58 (by decide +kernel) ?_
              exact ih_3 (j_4 + 1) (nI j_4) (by omega) (by omega) (by rw [yb_upd ⟨c_12, h_15, Or.inl (hxB_7 ▸ c_17)⟩]) _ (lv_sub hl [0, 1, 2, 3] rfl)
            · obtain ⟨k_18, hk_19, ek_20⟩ : ∃ k : Nat, k < j_4 ∧ xB_5 = nI k := by
                rcases yb_in tA iO j_4 with q | ⟨k, h1, h2⟩
                · exact absurd (hxB_7.trans q) c_17
                · exact ⟨k, h1, hxB_7.trans h2⟩
              rw [ek_20] at hl
              refine lv_aload_n hx hb (g_42 bX6_youngestBut rfl) rfl (lv_at hl 2 rfl) ?_
              refine va_get (D := G) (ci := 5) (v := .ref qmO) (C := RX6) (T := TX6) (N := 35) hx hb hts iX_X6 hown hK hP 0 rfl rfl 13 (by decide +kernel) (hts _ m_t863) (fun _ h9 => h9) rfl (g_180 (v := 45) bX6_youngestBut rfl) ?_
              refine lv_iload_n hx hb (g_29 bX6_youngestBut rfl) rfl (lv_at hl 0 rfl) ?_
              refine va_alda hx hb hK hP 1 3 rfl rfl (in8 (by omega)) (g_50 bX6_youngestBut rfl) ?_
              refine lv_setv (v := .ref (rO j_4)) (g_ref (by omega)) ?_
              refine lv_iconst (v := 0) hx hb (g_3 bX6_youngestBut rfl) (by decide +kernel) ?_
              refine va_iald hx hb hK hP (2 + j_4) 0 (sg8 (n0 := 2) (f := (fun j => zzI cy (rO j) 5 (onR tA j))) rfl rfl rfl rfl rfl rfl rfl rfl j_4 (by omega)) rfl (in_c rfl) (g_46 bX6_youngestBut rfl) ?_
              refine lv_seti (v := T_ag tA j_4) (on_0 _ _) ?_
              refine lv_aload_n hx hb (g_42 bX6_youngestBut rfl) rfl (lv_at hl 2 rfl) ?_
              refine va_get (D := G) (ci := 5) (v := .ref qmO) (C := RX6) (T := TX6) (N := 35) hx hb hts iX_X6 hown hK hP 0 rfl rfl 13 (by decide +kernel) (hts _ m_t863) (fun _ h9 => h9) rfl (g_180 (v := 45) bX6_youngestBut rfl) ?_
              refine lv_iload_n hx hb (g_28 bX6_youngestBut rfl) rfl (lv_at hl 1 rfl) ?_
              refine va_alda hx hb hK hP 1 3 rfl rfl (in8 (by omega)) (g_50 bX6_youngestBut rfl) ?_
              refine lv_setv (v := .ref (rO k_18)) (g_ref (by omega)) ?_
              refine lv_iconst (v := 0) hx hb (g_3 bX6_youngestBut rfl) (by decide +kernel) ?_
              refine va_iald hx hb hK hP (2 + k_18) 0 (sg8 (n0 := 2) (f := (fun j => zzI cy (rO j) 5 (onR tA j))) rfl rfl rfl rfl rfl rfl rfl rfl k_18 (by omega)) rfl (in_c rfl) (g_46 bX6_youngestBut rfl) ?_
              refine lv_seti (v := T_ag tA k_18) (on_0 _ _) ?_
              refine lv_icmp_ge (tgt := 53) hx hb dX6_youngestBut_46 (by decide +kernel) (fun c_21 => ?_) (fun c_21 => ?_)
              · refine lv_iload_n hx hb (g_28 bX6_youngestBut rfl) rfl (lv_at hl 1 rfl) ?_
                refine lv_istore_n (lv' := [(2, .int (nI k_18)), (3, .int (nI j_4)), (0, .ref qm), (1, .int iO)]) hx hb (g_61 bX6_youngestBut rfl) rfl hl (by decide +kernel) rfl (fun ls => ?_)
                clear hl
                intro hl
                refine lv_iinc (v := nI (j_4 + 1)) (lv' := [(3, .int (nI (j_4 + 1))), (2, .int (nI k_18)), (0, .ref qm), (1, .int iO)]) hx hb dX6_youngestBut_55 hl (k := 1) rfl (nI_1 _) (by decide +kernel) rfl (fun ls => ?_)
                clear hl
                intro hl
                refine lv_goto (tgt := 4) hx hb dX6_youngestBut_58 (by decide +kernel) ?_
                exact ih_3 (j_4 + 1) (nI k_18) (by omega) (by omega) (by rw [yb_skip (fun q => q.2.2.elim (fun r => c_17 (hxB_7.trans r)) (fun r => by rw [← hxB_7, ek_20, nI_clamp (by omega)] at r; exact Int32.not_lt.mpr c_21 r))]; exact ek_20.symm.trans hxB_7) _ (lv_sub hl [0, 1, 2, 3] rfl)
              · refine lv_iload_n hx hb (g_29 bX6_youngestBut rfl) rfl (lv_at hl 0 rfl) ?_
                refine lv_goto (tgt := 54) hx hb dX6_youngestBut_50 (by decide +kernel) ?_
                refine lv_istore_n (lv' := [(2, .int (nI j_4)), (3, .int (nI j_4)), (0, .ref qm), (1, .int iO)]) hx hb (g_61 bX6_youngestBut rfl) rfl hl (by decide +kernel) rfl (fun ls => ?_)
                clear hl
                intro hl
                refine lv_iinc (v := nI (j_4 + 1)) (lv' := [(3, .int (nI (j_4 + 1))), (2, .int (nI j_4)), (0, .ref qm), (1, .int iO)]) hx hb dX6_youngestBut_55 hl (k := 1) rfl (nI_1 _) (by decide +kernel) rfl (fun ls => ?_)
                clear hl
                intro hl
                refine lv_goto (tgt := 4) hx hb dX6_youngestBut_58 (by decide +kernel) ?_
                exact ih_3 (j_4 + 1) (nI j_4) (by omega) (by omega) (by rw [yb_upd ⟨c_12, h_15, Or.inr (by rw [← hxB_7, ek_20, nI_clamp (by omega)]; exact Int32.not_le.mp c_21)⟩]) _ (lv_sub hl [0, 1, 2, 3] rfl)
          · refine lv_if_eq (tgt := 53) hx hb dX6_youngestBut_22 (by decide +kernel) (fun _ => ?_) (fun h9 => absurd (by decide +kernel) h9)
            refine lv_iload_n hx hb (g_28 bX6_youngestBut rfl) rfl (lv_at hl 1 rfl) ?_
            refine lv_istore_n (lv' := [(2, .int xB_5), (3, .int (nI j_4)), (0, .ref qm), (1, .int iO)]) hx hb (g_61 bX6_youngestBut rfl) rfl hl (by decide +kernel) rfl (fun ls => ?_)
            clear hl
            intro hl
            refine lv_iinc (v := nI (j_4 + 1)) (lv' := [(3, .int (nI (j_4 + 1))), (2, .int xB_5), (0, .ref qm), (1, .int iO)]) hx hb dX6_youngestBut_55 hl (k := 1) rfl (nI_1 _) (by decide +kernel) rfl (fun ls => ?_)
            clear hl
            intro hl
            refine lv_goto (tgt := 4) hx hb dX6_youngestBut_58 (by decide +kernel) ?_
            exact ih_3 (j_4 + 1) xB_5 (by omega) (by omega) (by rw [yb_skip (fun q => by rw [h_15] at q; exact absurd q.2.1 (by decide +kernel))]; exact hxB_7) _ (lv_sub hl [0, 1, 2, 3] rfl)
  exact lp_1 ((8 - 0) + 1) 0 (-1) (Nat.lt_succ_self _) (Nat.zero_le _) rfl ls (lv_sub hl [0, 1, 2, 3] rfl)
set_option maxHeartbeats 4000000 in
set_option maxRecDepth 100000 in
theorem c_X6_readerOf (l : Launch) (G : va_G) (cy : Nat → ClassId) (qm : Nat) (v0 : Value) (v1 : Value) (v2 : Value) (v3 : Value) (v4 : Value) (v5 : Value) (v6 : Value) (v7 : Value) (v8 : Value) (v9 : Value) (tA : TA) (qmB : Nat) (qmO : Nat) (qmK : Nat) (iEn : Int32) (iTk : Int32) (v18 : Value) (v19 : Value) (v20 : Value) (v21 : Value) (v22 : Value) (v23 : Value) (v24 : Value) (v25 : Value) (v26 : Value) (iLv : Int32) (iWs : Int32) (v29 : Value) (v30 : Value) (v31 : Value) (v32 : Value) (v33 : Value) (v34 : Value) (rB : Nat → Nat) (rO : Nat → Nat) (rK : Nat → Nat) (kB : Nat)  (hPp : T_np tA ≤ 8) (hJ : kB < 8) (hTI : TI tA) : MR l yX6_readerOf cX6_readerOf 6 (some .int) 4 G cy [zzO qm 5 (v0 :: v1 :: v2 :: v3 :: v4 :: v5 :: v6 :: v7 :: v8 :: v9 :: .int (nI (T_nb tA)) :: .ref qmB :: .int (nI (T_np tA)) :: .ref qmO :: .ref qmK :: .int iEn :: .int iTk :: .int (T_sd tA) :: v18 :: v19 :: v20 :: v21 :: v22 :: v23 :: v24 :: v25 :: v26 :: .int iLv :: .int iWs :: v29 :: v30 :: v31 :: v32 :: v33 :: v34 :: []), zzG cy 3 qmB rB, zzI cy (rB 0) 4 (bkR tA 0), zzI cy (rB 1) 4 (bkR tA 1), zzI cy (rB 2) 4 (bkR tA 2), zzI cy (rB 3) 4 (bkR tA 3), zzI cy (rB 4) 4 (bkR tA 4), zzI cy (rB 5) 4 (bkR tA 5), zzI cy (rB 6) 4 (bkR tA 6), zzI cy (rB 7) 4 (bkR tA 7), zzG cy 3 qmO rO, zzI cy (rO 0) 5 (onR tA 0), zzI cy (rO 1) 5 (onR tA 1), zzI cy (rO 2) 5 (onR tA 2), zzI cy (rO 3) 5 (onR tA 3), zzI cy (rO 4) 5 (onR tA 4), zzI cy (rO 5) 5 (onR tA 5), zzI cy (rO 6) 5 (onR tA 6), zzI cy (rO 7) 5 (onR tA 7), zzG cy 3 qmK rK, zzI cy (rK 0) 8 (T_kn tA 0), zzI cy (rK 1) 8 (T_kn tA 1), zzI cy (rK 2) 8 (T_kn tA 2), zzI cy (rK 3) 8 (T_kn tA 3), zzI cy (rK 4) 8 (T_kn tA 4), zzI cy (rK 5) 8 (T_kn tA 5), zzI cy (rK 6) 8 (T_kn tA 6), zzI cy (rK 7) 8 (T_kn tA 7)] [.ref qm, .int (nI kB)] (vp_Si (fun r => (r = (zbr tA kB)))) := by
  refine enR RX6 (by decide +kernel) rfl (Nat.le_of_ble_eq_true rfl) (fun p e s m below meth c ls hx hb hml hown hts hr hlocks hP hN hl => ?_)
  have hK := hN.1
  replace hl : lv_has ls 6 [(0, .ref qm), (1, .int (nI kB))] := hl
  refine lv_iconst (v := (-1)) hx hb (g_2 bX6_readerOf rfl) (by decide +kernel) ?_
  refine lv_istore_n (lv' := [(2, .int (-1)), (0, .ref qm), (1, .int (nI kB))]) hx hb (g_61 bX6_readerOf rfl) rfl hl (by decide +kernel) rfl (fun ls => ?_)
  clear hl
  intro hl
  refine lv_iconst (v := 0) hx hb (g_3 bX6_readerOf rfl) (by decide +kernel) ?_
  refine lv_istore_n (lv' := [(3, .int 0), (2, .int (-1)), (0, .ref qm), (1, .int (nI kB))]) hx hb (g_62 bX6_readerOf rfl) rfl hl (by decide +kernel) rfl (fun ls => ?_)
  clear hl
  intro hl
  have lp_1 : ∀ (n_2 : Nat) (j_4 : Nat) (xB_5 : Int32), 8 - j_4 < n_2 → j_4 ≤ T_np tA → xB_5 = (brF tA kB j_4).1 → ∀ (ls : Array Slot), lv_has ls 6 [(3, .int (nI j_4)), (2, .int xB_5), (0, .ref qm), (1, .int (nI kB))] → W p l e (Rm 4 0 0) s m (List.toArray (α := Value) [.ref qm, .int (nI kB)]) below meth c s.heap [] 0 0 (MQ below (vp_Si (fun r => (r = (zbr tA kB)))) (List.toArray (α := Value) [.ref qm, .int (nI kB)]) s 0 0 (fun _ => False)) (F0 m 4 ls []) := by
    intro n_2
    induction n_2 with
    | zero => intro j_4 xB_5 hm9; exact absurd hm9 (Nat.not_lt_zero _)
    | succ n_2 ih_3 =>
      intro j_4 xB_5 hm_8 hj_6 hxB_7 ls hl
      refine lv_iload_n hx hb (g_29 bX6_readerOf rfl) rfl (lv_at hl 0 rfl) ?_
      refine lv_aload_n hx hb (g_42 bX6_readerOf rfl) rfl (lv_at hl 2 rfl) ?_
      refine va_get (D := G) (ci := 5) (v := .int (nI (T_np tA))) (C := RX6) (T := TX6) (N := 35) hx hb hts iX_X6 hown hK hP 0 rfl rfl 12 (by decide +kernel) (hts _ m_t862) (fun _ h9 => h9) rfl (g_180 (v := 78) bX6_readerOf rfl) ?_
      refine lv_icmp_ge (tgt := 90) hx hb dX6_readerOf_9 (by decide +kernel) (fun c_9 => ?_) (fun c_9 => ?_)
      · have hlt_10 : j_4 = T_np tA := Nat.le_antisymm (by omega) (lp_ge rfl rfl (by omega) (by omega) c_9)
        refine lv_iload_n hx hb (g_28 bX6_readerOf rfl) rfl (lv_at hl 1 rfl) ?_
        exact endR hx hb hr hlocks rfl (by rw [hxB_7, hlt_10]; rfl) (g_172 bX6_readerOf rfl)
      · have hlt_11 : j_4 < T_np tA := lp_lt rfl rfl (by omega) (by omega) c_9
        refine lv_aload_n hx hb (g_42 bX6_readerOf rfl) rfl (lv_at hl 2 rfl) ?_
        refine lv_iload_n hx hb (g_29 bX6_readerOf rfl) rfl (lv_at hl 0 rfl) ?_
        refine kRi (rV (As := [.int (nI j_4)]) (rest := []) (b := qm) ⟨hx, hb, hml, hown, hts⟩ (c_X6_isThere l G cy qm v0 v1 v2 v3 v4 v5 v6 v7 v8 v9 tA qmB qmO qmK iEn iTk v18 v19 v20 v21 v22 v23 v24 v25 v26 iLv iWs v29 v30 v31 v32 v33 v34 rO j_4 (by first | omega | (simp only [nb_sr, np_sr, nb_wr, np_wr, nb_rd, np_rd, nb_ch, np_ch, nb_zr, np_zr, nb_za, np_za, nb_ey, np_ey, nb_hf, np_hf, nb_dd, np_dd, nb_so, np_so, nb_skn, np_skn, nb_swh, np_swh, nb_sgn, np_sgn, nb_ssd, np_ssd, nb_sgo, np_sgo, nb_sag, np_sag]; omega))) L_X6_81 (preRV (q := (RX6, TX6, 35)) hN hP (trueIx 0 [true, false, false, false, false, false, false, false, false, false, true, true, true, true, true, true, true, true, true]) (sel_fm rfl rfl) 0 5 rfl rfl) rfl ⟨Nat.le_of_ble_eq_true rfl, Nat.le_of_ble_eq_true rfl⟩ hl.1 (Nat.le_of_ble_eq_true rfl) (g_182 (v := 81) bX6_readerOf rfl) ⟨Nat.le_of_ble_eq_true rfl, Nat.le_of_ble_eq_true rfl⟩) (fun r_12 h_13 => ?_)
        rcases h_13 with ⟨rfl, h_14⟩ | ⟨rfl, h_14⟩
        · refine lv_if_eq (tgt := 84) hx hb dX6_readerOf_17 (by decide +kernel) (fun h9 => absurd h9 (by decide +kernel)) (fun _ => ?_)
          refine lv_aload_n hx hb (g_42 bX6_readerOf rfl) rfl (lv_at hl 2 rfl) ?_
          refine lv_iload_n hx hb (g_29 bX6_readerOf rfl) rfl (lv_at hl 0 rfl) ?_
          refine lv_iload_n hx hb (g_27 bX6_readerOf rfl) rfl (lv_at hl 3 rfl) ?_
          refine kRi (rV (As := [.int (nI j_4), .int (nI kB)]) (rest := []) (b := qm) ⟨hx, hb, hml, hown, hts⟩ (c_X6_wouldKnow l G cy qm v0 v1 v2 v3 v4 v5 v6 v7 v8 v9 tA qmB qmO qmK iEn iTk v18 v19 v20 v21 v22 v23 v24 v25 v26 iLv iWs v29 v30 v31 v32 v33 v34 rB rO rK j_4 kB (by first | omega | (simp only [nb_sr, np_sr, nb_wr, np_wr, nb_rd, np_rd, nb_ch, np_ch, nb_zr, np_zr, nb_za, np_za, nb_ey, np_ey, nb_hf, np_hf, nb_dd, np_dd, nb_so, np_so, nb_skn, np_skn, nb_swh, np_swh, nb_sgn, np_sgn, nb_ssd, np_ssd, nb_sgo, np_sgo, nb_sag, np_sag]; omega)) hJ) L_X6_254 (preRV (q := (RX6, TX6, 35)) hN hP (trueIx 0 [true, true, true, true, true, true, true, true, true, true, true, true, true, true, true, true, true, true, true, true, true, true, true, true, true, true, true, true]) (sel_fm rfl rfl) 0 5 rfl rfl) rfl ⟨Nat.le_of_ble_eq_true rfl, Nat.le_of_ble_eq_true rfl⟩ hl.1 (Nat.le_of_ble_eq_true rfl) (g_182 (v := 254) bX6_readerOf rfl) ⟨Nat.le_of_ble_eq_true rfl, Nat.le_of_ble_eq_true rfl⟩) (fun r_16 h_17 => ?_)
          subst h_17
          refine lv_istore (lv' := [(4, .int (zwk tA j_4 kB)), (3, .int (nI j_4)), (2, .int xB_5), (0, .ref qm), (1, .int (nI kB))]) hx hb (g_54 (v := 4) bX6_readerOf rfl) hl (by decide +kernel) rfl (fun ls => ?_)
          clear hl
          intro hl
          refine lv_iload_n hx hb (g_28 bX6_readerOf rfl) rfl (lv_at hl 2 rfl) ?_
          refine lv_iconst (v := (-1)) hx hb (g_2 bX6_readerOf rfl) (by decide +kernel) ?_
          refine lv_icmp_ne (tgt := 37) hx hb dX6_readerOf_30 (by decide +kernel) (fun c_18 => ?_) (fun c_18 => ?_)
          · obtain ⟨k_19, hk_20, ek_21⟩ : ∃ k : Nat, k < j_4 ∧ xB_5 = nI k := by
              rcases br_in tA kB j_4 with q | ⟨k, h1, h2⟩
              · exact absurd (hxB_7.trans q) c_18
              · exact ⟨k, h1, hxB_7.trans h2⟩
            rw [ek_21] at hl
            refine lv_aload_n hx hb (g_42 bX6_readerOf rfl) rfl (lv_at hl 3 rfl) ?_
            refine lv_iload_n hx hb (g_28 bX6_readerOf rfl) rfl (lv_at hl 2 rfl) ?_
            refine lv_iload_n hx hb (g_27 bX6_readerOf rfl) rfl (lv_at hl 4 rfl) ?_
            refine kRi (rV (As := [.int (nI k_19), .int (nI kB)]) (rest := []) (b := qm) ⟨hx, hb, hml, hown, hts⟩ (c_X6_wouldKnow l G cy qm v0 v1 v2 v3 v4 v5 v6 v7 v8 v9 tA qmB qmO qmK iEn iTk v18 v19 v20 v21 v22 v23 v24 v25 v26 iLv iWs v29 v30 v31 v32 v33 v34 rB rO rK k_19 kB (by first | omega | (simp only [nb_sr, np_sr, nb_wr, np_wr, nb_rd, np_rd, nb_ch, np_ch, nb_zr, np_zr, nb_za, np_za, nb_ey, np_ey, nb_hf, np_hf, nb_dd, np_dd, nb_so, np_so, nb_skn, np_skn, nb_swh, np_swh, nb_sgn, np_sgn, nb_ssd, np_ssd, nb_sgo, np_sgo, nb_sag, np_sag]; omega)) hJ) L_X6_254 (preRV (q := (RX6, TX6, 35)) hN hP (trueIx 0 [true, true, true, true, true, true, true, true, true, true, true, true, true, true, true, true, true, true, true, true, true, true, true, true, true, true, true, true]) (sel_fm rfl rfl) 0 5 rfl rfl) rfl ⟨Nat.le_of_ble_eq_true rfl, Nat.le_of_ble_eq_true rfl⟩ hl.1 (Nat.le_of_ble_eq_true rfl) (g_182 (v := 254) bX6_readerOf rfl) ⟨Nat.le_of_ble_eq_true rfl, Nat.le_of_ble_eq_true rfl⟩) (fun r_22 h_23 => ?_)
            subst h_23
            refine lv_istore (lv' := [(5, .int (zwk tA k_19 kB)), (4, .int (zwk tA j_4 kB)), (3, .int (nI j_4)), (2, .int (nI k_19)), (0, .ref qm), (1, .int (nI kB))]) hx hb (g_54 (v := 5) bX6_readerOf rfl) hl (by decide +kernel) rfl (fun ls => ?_)
            clear hl
            intro hl
            refine lv_iload hx hb (g_21 (v := 4) bX6_readerOf rfl) (lv_at hl 1 rfl) ?_
            refine lv_iload hx hb (g_21 (v := 5) bX6_readerOf rfl) (lv_at hl 0 rfl) ?_
            refine lv_icmp_gt (tgt := 78) hx hb dX6_readerOf_49 (by decide +kernel) (fun c_24 => ?_) (fun c_24 => ?_)
            · refine lv_iload_n hx hb (g_29 bX6_readerOf rfl) rfl (lv_at hl 2 rfl) ?_
              refine lv_goto (tgt := 83) hx hb dX6_readerOf_79 (by decide +kernel) ?_
              refine lv_istore_n (lv' := [(2, .int (nI j_4)), (5, .int (zwk tA k_19 kB)), (4, .int (zwk tA j_4 kB)), (3, .int (nI j_4)), (0, .ref qm), (1, .int (nI kB))]) hx hb (g_61 bX6_readerOf rfl) rfl hl (by decide +kernel) rfl (fun ls => ?_)
              clear hl
              intro hl
              refine lv_iinc (v := nI (j_4 + 1)) (lv' := [(3, .int (nI (j_4 + 1))), (2, .int (nI j_4)), (5, .int (zwk tA k_19 kB)), (4, .int (zwk tA j_4 kB)), (0, .ref qm), (1, .int (nI kB))]) hx hb dX6_readerOf_84 hl (k := 3) rfl (nI_1 _) (by decide +kernel) rfl (fun ls => ?_)
              clear hl
              intro hl
              refine lv_goto (tgt := 4) hx hb dX6_readerOf_87 (by decide +kernel) ?_
              exact ih_3 (j_4 + 1) (nI j_4) (by omega) (by omega) (by rw [br_upd ⟨h_14, (wk_m1 hTI _ _), Or.inr (Or.inl (by rw [(br_snd (by omega) (hxB_7.symm.trans ek_21) (by omega))]; exact c_24))⟩]) _ (lv_sub hl [0, 1, 4, 5] rfl)
            · refine lv_iload hx hb (g_21 (v := 4) bX6_readerOf rfl) (lv_at hl 1 rfl) ?_
              refine lv_iload hx hb (g_21 (v := 5) bX6_readerOf rfl) (lv_at hl 0 rfl) ?_
              refine lv_icmp_ne (tgt := 82) hx hb dX6_readerOf_56 (by decide +kernel) (fun c_25 => ?_) (fun c_25 => ?_)
              · refine lv_iload_n hx hb (g_28 bX6_readerOf rfl) rfl (lv_at hl 3 rfl) ?_
                refine lv_istore_n (lv' := [(2, .int (nI k_19)), (5, .int (zwk tA k_19 kB)), (4, .int (zwk tA j_4 kB)), (3, .int (nI j_4)), (0, .ref qm), (1, .int (nI kB))]) hx hb (g_61 bX6_readerOf rfl) rfl hl (by decide +kernel) rfl (fun ls => ?_)
                clear hl
                intro hl
                refine lv_iinc (v := nI (j_4 + 1)) (lv' := [(3, .int (nI (j_4 + 1))), (2, .int (nI k_19)), (5, .int (zwk tA k_19 kB)), (4, .int (zwk tA j_4 kB)), (0, .ref qm), (1, .int (nI kB))]) hx hb dX6_readerOf_84 hl (k := 3) rfl (nI_1 _) (by decide +kernel) rfl (fun ls => ?_)
                clear hl
                intro hl
                refine lv_goto (tgt := 4) hx hb dX6_readerOf_87 (by decide +kernel) ?_
                exact ih_3 (j_4 + 1) (nI k_19) (by omega) (by omega) (by rw [br_skip (fun q => q.2.2.elim (fun r => c_18 (hxB_7.trans r)) (fun r => r.elim (fun r => c_24 (by rw [(br_snd (by omega) (hxB_7.symm.trans ek_21) (by omega))] at r; exact r)) (fun r => c_25 (by rw [(br_snd (by omega) (hxB_7.symm.trans ek_21) (by omega))] at r; exact r.1))))]; exact ek_21.symm.trans hxB_7) _ (lv_sub hl [0, 1, 4, 5] rfl)
              · refine lv_aload_n hx hb (g_42 bX6_readerOf rfl) rfl (lv_at hl 4 rfl) ?_
                refine va_get (D := G) (ci := 5) (v := .ref qmO) (C := RX6) (T := TX6) (N := 35) hx hb hts iX_X6 hown hK hP 0 rfl rfl 13 (by decide +kernel) (hts _ m_t863) (fun _ h9 => h9) rfl (g_180 (v := 45) bX6_readerOf rfl) ?_
                refine lv_iload_n hx hb (g_29 bX6_readerOf rfl) rfl (lv_at hl 2 rfl) ?_
                refine va_alda hx hb hK hP 10 3 rfl rfl (in8 (by omega)) (g_50 bX6_readerOf rfl) ?_
                refine lv_setv (v := .ref (rO j_4)) (g_ref (by omega)) ?_
                refine lv_iconst (v := 0) hx hb (g_3 bX6_readerOf rfl) (by decide +kernel) ?_
                refine va_iald hx hb hK hP (11 + j_4) 0 (sg8 (n0 := 11) (f := (fun j => zzI cy (rO j) 5 (onR tA j))) rfl rfl rfl rfl rfl rfl rfl rfl j_4 (by omega)) rfl (in_c rfl) (g_46 bX6_readerOf rfl) ?_
                refine lv_seti (v := T_ag tA j_4) (on_0 _ _) ?_
                refine lv_aload_n hx hb (g_42 bX6_readerOf rfl) rfl (lv_at hl 4 rfl) ?_
                refine va_get (D := G) (ci := 5) (v := .ref qmO) (C := RX6) (T := TX6) (N := 35) hx hb hts iX_X6 hown hK hP 0 rfl rfl 13 (by decide +kernel) (hts _ m_t863) (fun _ h9 => h9) rfl (g_180 (v := 45) bX6_readerOf rfl) ?_
                refine lv_iload_n hx hb (g_28 bX6_readerOf rfl) rfl (lv_at hl 3 rfl) ?_
                refine va_alda hx hb hK hP 10 3 rfl rfl (in8 (by omega)) (g_50 bX6_readerOf rfl) ?_
                refine lv_setv (v := .ref (rO k_19)) (g_ref (by omega)) ?_
                refine lv_iconst (v := 0) hx hb (g_3 bX6_readerOf rfl) (by decide +kernel) ?_
                refine va_iald hx hb hK hP (11 + k_19) 0 (sg8 (n0 := 11) (f := (fun j => zzI cy (rO j) 5 (onR tA j))) rfl rfl rfl rfl rfl rfl rfl rfl k_19 (by omega)) rfl (in_c rfl) (g_46 bX6_readerOf rfl) ?_
                refine lv_seti (v := T_ag tA k_19) (on_0 _ _) ?_
                refine lv_icmp_ge (tgt := 82) hx hb dX6_readerOf_75 (by decide +kernel) (fun c_26 => ?_) (fun c_26 => ?_)
                · refine lv_iload_n hx hb (g_28 bX6_readerOf rfl) rfl (lv_at hl 3 rfl) ?_
                  refine lv_istore_n (lv' := [(2, .int (nI k_19)), (5, .int (zwk tA k_19 kB)), (4, .int (zwk tA j_4 kB)), (3, .int (nI j_4)), (0, .ref qm), (1, .int (nI kB))]) hx hb (g_61 bX6_readerOf rfl) rfl hl (by decide +kernel) rfl (fun ls => ?_)
                  clear hl
                  intro hl
                  refine lv_iinc (v := nI (j_4 + 1)) (lv' := [(3, .int (nI (j_4 + 1))), (2, .int (nI k_19)), (5, .int (zwk tA k_19 kB)), (4, .int (zwk tA j_4 kB)), (0, .ref qm), (1, .int (nI kB))]) hx hb dX6_readerOf_84 hl (k := 3) rfl (nI_1 _) (by decide +kernel) rfl (fun ls => ?_)
                  clear hl
                  intro hl
                  refine lv_goto (tgt := 4) hx hb dX6_readerOf_87 (by decide +kernel) ?_
                  exact ih_3 (j_4 + 1) (nI k_19) (by omega) (by omega) (by rw [br_skip (fun q => q.2.2.elim (fun r => c_18 (hxB_7.trans r)) (fun r => r.elim (fun r => c_24 (by rw [(br_snd (by omega) (hxB_7.symm.trans ek_21) (by omega))] at r; exact r)) (fun r => Int32.not_lt.mpr c_26 (by have z := r.2; rw [← hxB_7, ek_21, nI_clamp (by omega)] at z; exact z))))]; exact ek_21.symm.trans hxB_7) _ (lv_sub hl [0, 1, 4, 5] rfl)
                · refine lv_iload_n hx hb (g_29 bX6_readerOf rfl) rfl (lv_at hl 2 rfl) ?_
                  refine lv_goto (tgt := 83) hx hb dX6_readerOf_79 (by decide +kernel) ?_
                  refine lv_istore_n (lv' := [(2, .int (nI j_4)), (5, .int (zwk tA k_19 kB)), (4, .int (zwk tA j_4 kB)), (3, .int (nI j_4)), (0, .ref qm), (1, .int (nI kB))]) hx hb (g_61 bX6_readerOf rfl) rfl hl (by decide +kernel) rfl (fun ls => ?_)
                  clear hl
                  intro hl
                  refine lv_iinc (v := nI (j_4 + 1)) (lv' := [(3, .int (nI (j_4 + 1))), (2, .int (nI j_4)), (5, .int (zwk tA k_19 kB)), (4, .int (zwk tA j_4 kB)), (0, .ref qm), (1, .int (nI kB))]) hx hb dX6_readerOf_84 hl (k := 3) rfl (nI_1 _) (by decide +kernel) rfl (fun ls => ?_)
                  clear hl
                  intro hl
                  refine lv_goto (tgt := 4) hx hb dX6_readerOf_87 (by decide +kernel) ?_
                  exact ih_3 (j_4 + 1) (nI j_4) (by omega) (by omega) (by rw [br_upd ⟨h_14, (wk_m1 hTI _ _), Or.inr (Or.inr ⟨by rw [(br_snd (by omega) (hxB_7.symm.trans ek_21) (by omega))]; exact c_25, by rw [← hxB_7, ek_21, nI_clamp (by omega)]; exact Int32.not_le.mp c_26⟩)⟩]) _ (lv_sub hl [0, 1, 4, 5] rfl)
          · refine lv_iconst (v := (-1)) hx hb (g_2 bX6_readerOf rfl) (by decide +kernel) ?_
            refine lv_goto (tgt := 43) hx hb dX6_readerOf_34 (by decide +kernel) ?_
            refine lv_istore (lv' := [(5, .int (-1)), (4, .int (zwk tA j_4 kB)), (3, .int (nI j_4)), (2, .int xB_5), (0, .ref qm), (1, .int (nI kB))]) hx hb (g_54 (v := 5) bX6_readerOf rfl) hl (by decide +kernel) rfl (fun ls => ?_)
            clear hl
            intro hl
            refine lv_iload hx hb (g_21 (v := 4) bX6_readerOf rfl) (lv_at hl 1 rfl) ?_
            refine lv_iload hx hb (g_21 (v := 5) bX6_readerOf rfl) (lv_at hl 0 rfl) ?_
            refine lv_icmp_gt (tgt := 78) hx hb dX6_readerOf_49 (by decide +kernel) (fun c_27 => ?_) (fun c_27 => ?_)
            · refine lv_iload_n hx hb (g_29 bX6_readerOf rfl) rfl (lv_at hl 2 rfl) ?_
              refine lv_goto (tgt := 83) hx hb dX6_readerOf_79 (by decide +kernel) ?_
              refine lv_istore_n (lv' := [(2, .int (nI j_4)), (5, .int (-1)), (4, .int (zwk tA j_4 kB)), (3, .int (nI j_4)), (0, .ref qm), (1, .int (nI kB))]) hx hb (g_61 bX6_readerOf rfl) rfl hl (by decide +kernel) rfl (fun ls => ?_)
              clear hl
              intro hl
              refine lv_iinc (v := nI (j_4 + 1)) (lv' := [(3, .int (nI (j_4 + 1))), (2, .int (nI j_4)), (5, .int (-1)), (4, .int (zwk tA j_4 kB)), (0, .ref qm), (1, .int (nI kB))]) hx hb dX6_readerOf_84 hl (k := 3) rfl (nI_1 _) (by decide +kernel) rfl (fun ls => ?_)
              clear hl
              intro hl
              refine lv_goto (tgt := 4) hx hb dX6_readerOf_87 (by decide +kernel) ?_
              exact ih_3 (j_4 + 1) (nI j_4) (by omega) (by omega) (by rw [br_upd ⟨h_14, (wk_m1 hTI _ _), Or.inl (hxB_7 ▸ c_18)⟩]) _ (lv_sub hl [0, 1, 4, 5] rfl)
            · exact absurd (wk_gt hTI _ _) c_27
        · refine lv_if_eq (tgt := 84) hx hb dX6_readerOf_17 (by decide +kernel) (fun _ => ?_) (fun h9 => absurd (by decide +kernel) h9)
          refine lv_iinc (v := nI (j_4 + 1)) (lv' := [(3, .int (nI (j_4 + 1))), (2, .int xB_5), (0, .ref qm), (1, .int (nI kB))]) hx hb dX6_readerOf_84 hl (k := 0) rfl (nI_1 _) (by decide +kernel) rfl (fun ls => ?_)
          clear hl
          intro hl
          refine lv_goto (tgt := 4) hx hb dX6_readerOf_87 (by decide +kernel) ?_
          exact ih_3 (j_4 + 1) xB_5 (by omega) (by omega) (by rw [br_skip (fun q => by rw [h_14] at q; exact absurd q.1 (by decide +kernel))]; exact hxB_7) _ (lv_sub hl [0, 1, 2, 3] rfl)
  exact lp_1 ((8 - 0) + 1) 0 (-1) (Nat.lt_succ_self _) (Nat.zero_le _) rfl ls (lv_sub hl [0, 1, 2, 3] rfl)
end
section
theorem sw_1_5 (x : Int32) : x = 1 ∨ x = 2 ∨ x = 3 ∨ x = 4 ∨ x = 5 ∨ (x.toInt < 1 ∨ 5 < x.toInt) := by
  rcases sw_1_6 x with e | e | e | e | e | e | e
  · exact Or.inl e
  · exact Or.inr (Or.inl e)
  · exact Or.inr (Or.inr (Or.inl e))
  · exact Or.inr (Or.inr (Or.inr (Or.inl e)))
  · exact Or.inr (Or.inr (Or.inr (Or.inr (Or.inl e))))
  · exact Or.inr (Or.inr (Or.inr (Or.inr (Or.inr (Or.inr (by rw [e]; decide))))))
  · exact Or.inr (Or.inr (Or.inr (Or.inr (Or.inr (by omega)))))
theorem tm_ex {t : TA} : ∀ n, 0 < tmF t n → ∃ p, p < n ∧ T_gn t p = false := by
  intro n
  induction n with
  | zero => intro h; exact absurd h (Nat.lt_irrefl _)
  | succ n ih =>
    intro h
    cases g : T_gn t n with
    | false => exact ⟨n, by omega, g⟩
    | true =>
      rw [tm_n g] at h
      obtain ⟨p, h1, h2⟩ := ih (by omega)
      exact ⟨p, by omega, h2⟩
theorem tm_le (t : TA) : ∀ n, tmF t n ≤ n := by
  intro n
  induction n with
  | zero => exact Nat.le_refl _
  | succ n ih =>
    unfold tmF
    split <;> omega
theorem br_any {t : TA} {b : Nat} (hT : TI t) : ∀ n, n ≤ 8 → ∀ p, p < n → T_gn t p = false → ¬ (brF t b n).1 = -1 := by
  intro n
  induction n with
  | zero => intro _ p h; exact absurd h (Nat.not_lt_zero _)
  | succ n ih =>
    intro h8 p hp hg
    by_cases c : (T_gn t n = false ∧ ¬ zwk t n b = -1 ∧ ((brF t b n).1 = -1 ∨ (brF t b n).2 < zwk t n b ∨ (zwk t n b = (brF t b n).2 ∧ T_ag t n < T_ag t (brF t b n).1.toNatClampNeg)))
    · rw [br_upd c]
      exact nI_ne1 (by omega)
    · rw [br_skip c]
      by_cases e : p = n
      · subst e
        exact fun q => c ⟨hg, wk_m1 hT _ _, Or.inl q⟩
      · exact ih (by omega) p (by omega) hg
theorem br_some {t : TA} {b : Nat} (hT : TI t) (h : ¬ nI (tmF t (T_np t)) ≤ 0) : ∃ k : Nat, k < T_np t ∧ zbr t b = nI k := by
  have h8 := hT.1.2
  have hl := tm_le t (T_np t)
  have h0 : 0 < tmF t (T_np t) := by
    rcases Nat.eq_zero_or_pos (tmF t (T_np t)) with z | z
    · exact absurd (by rw [z]; decide) h
    · exact z
  obtain ⟨p, h1, h2⟩ := tm_ex _ h0
  exact (br_in t b (T_np t)).resolve_left (br_any hT _ h8 p h1 h2)
set_option maxHeartbeats 4000000 in
set_option maxRecDepth 100000 in
theorem c_X6_readsTo (l : Launch) (G : va_G) (cy : Nat → ClassId) (sz : Nat) (qm : Nat) (v0 : Value) (v1 : Value) (v2 : Value) (v3 : Value) (v4 : Value) (v5 : Value) (v6 : Value) (v7 : Value) (v8 : Value) (v9 : Value) (tA : TA) (qmB : Nat) (qmO : Nat) (qmK : Nat) (iEn : Int32) (iTk : Int32) (v18 : Value) (v19 : Value) (v20 : Value) (v21 : Value) (v22 : Value) (v23 : Value) (v24 : Value) (v25 : Value) (v26 : Value) (iLv : Int32) (iWs : Int32) (v29 : Value) (v30 : Value) (v31 : Value) (v32 : Value) (v33 : Value) (v34 : Value) (rB : Nat → Nat) (rO : Nat → Nat) (rK : Nat → Nat) (kI : Nat) (kB : Nat) (iS : Int32)  (hPp : T_np tA ≤ 8) (hI : kI < 8) (hJ : kB < 8) (hTI : TI tA) : MW l yX6_readsTo cX6_readsTo 7 (some .int) 5 0 0 G cy [zzO qm 5 (v0 :: v1 :: v2 :: v3 :: v4 :: v5 :: v6 :: v7 :: v8 :: v9 :: .int (nI (T_nb tA)) :: .ref qmB :: .int (nI (T_np tA)) :: .ref qmO :: .ref qmK :: .int iEn :: .int iTk :: .int (T_sd tA) :: v18 :: v19 :: v20 :: v21 :: v22 :: v23 :: v24 :: v25 :: v26 :: .int iLv :: .int iWs :: v29 :: v30 :: v31 :: v32 :: v33 :: v34 :: []), zzG cy 3 qmB rB, zzI cy (rB 0) 4 (bkR tA 0), zzI cy (rB 1) 4 (bkR tA 1), zzI cy (rB 2) 4 (bkR tA 2), zzI cy (rB 3) 4 (bkR tA 3), zzI cy (rB 4) 4 (bkR tA 4), zzI cy (rB 5) 4 (bkR tA 5), zzI cy (rB 6) 4 (bkR tA 6), zzI cy (rB 7) 4 (bkR tA 7), zzG cy 3 qmO rO, zzI cy (rO 0) 5 (onR tA 0), zzI cy (rO 1) 5 (onR tA 1), zzI cy (rO 2) 5 (onR tA 2), zzI cy (rO 3) 5 (onR tA 3), zzI cy (rO 4) 5 (onR tA 4), zzI cy (rO 5) 5 (onR tA 5), zzI cy (rO 6) 5 (onR tA 6), zzI cy (rO 7) 5 (onR tA 7), zzG cy 3 qmK rK, zzI cy (rK 0) 8 (T_kn tA 0), zzI cy (rK 1) 8 (T_kn tA 1), zzI cy (rK 2) 8 (T_kn tA 2), zzI cy (rK 3) 8 (T_kn tA 3), zzI cy (rK 4) 8 (T_kn tA 4), zzI cy (rK 5) 8 (T_kn tA 5), zzI cy (rK 6) 8 (T_kn tA 6), zzI cy (rK 7) 8 (T_kn tA 7)] sz [.ref qm, .int (nI kI), .int (nI kB), .int iS] (Wi G (fun r u => ∃ (tX : TA), u = [zzO qm 5 (v0 :: v1 :: v2 :: v3 :: v4 :: v5 :: v6 :: v7 :: v8 :: v9 :: .int (nI (T_nb tX)) :: .ref qmB :: .int (nI (T_np tX)) :: .ref qmO :: .ref qmK :: .int iEn :: .int iTk :: .int (T_sd tX) :: v18 :: v19 :: v20 :: v21 :: v22 :: v23 :: v24 :: v25 :: v26 :: .int iLv :: .int iWs :: v29 :: v30 :: v31 :: v32 :: v33 :: v34 :: []), zzG cy 3 qmB rB, zzI cy (rB 0) 4 (bkR tX 0), zzI cy (rB 1) 4 (bkR tX 1), zzI cy (rB 2) 4 (bkR tX 2), zzI cy (rB 3) 4 (bkR tX 3), zzI cy (rB 4) 4 (bkR tX 4), zzI cy (rB 5) 4 (bkR tX 5), zzI cy (rB 6) 4 (bkR tX 6), zzI cy (rB 7) 4 (bkR tX 7), zzG cy 3 qmO rO, zzI cy (rO 0) 5 (onR tX 0), zzI cy (rO 1) 5 (onR tX 1), zzI cy (rO 2) 5 (onR tX 2), zzI cy (rO 3) 5 (onR tX 3), zzI cy (rO 4) 5 (onR tX 4), zzI cy (rO 5) 5 (onR tX 5), zzI cy (rO 6) 5 (onR tX 6), zzI cy (rO 7) 5 (onR tX 7), zzG cy 3 qmK rK, zzI cy (rK 0) 8 (T_kn tX 0), zzI cy (rK 1) 8 (T_kn tX 1), zzI cy (rK 2) 8 (T_kn tX 2), zzI cy (rK 3) 8 (T_kn tX 3), zzI cy (rK 4) 8 (T_kn tX 4), zzI cy (rK 5) 8 (T_kn tX 5), zzI cy (rK 6) 8 (T_kn tX 6), zzI cy (rK 7) 8 (T_kn tX 7)] ∧ (TI tX ∧ T_nb tX = T_nb tA ∧ T_np tX = T_np tA) ∧ (True))) := by
  refine enW RX6 (by decide +kernel) rfl (Nat.le_of_ble_eq_true rfl) (fun p e s m below meth c ls A hx hb hml hown hts hr hlocks hP hN hl hin hD hA hS => ?_)
  have hin : meth.name = _ := hin
  have hK := hN.1
  replace hl : lv_has ls 7 [(0, .ref qm), (1, .int (nI kI)), (2, .int (nI kB)), (3, .int iS)] := hl
  refine lv_aload_n hx hb (g_42 bX6_readsTo rfl) rfl (lv_at hl 0 rfl) ?_
  refine lv_iload_n hx hb (g_27 bX6_readsTo rfl) rfl (lv_at hl 1 rfl) ?_
  refine lv_iload_n hx hb (g_28 bX6_readsTo rfl) rfl (lv_at hl 2 rfl) ?_
  refine cVv (As := [.int (nI kI), .int (nI kB)]) (rest := []) (b := qm) (q := (RX6, TX6, 35)) ⟨hx, hb, hml, hown, hts⟩ (c_X6_reads l G cy (s.heap).size qm v0 v1 v2 v3 v4 v5 v6 v7 v8 v9 tA qmB qmO qmK iEn iTk v18 v19 v20 v21 v22 v23 v24 v25 v26 iLv iWs v29 v30 v31 v32 v33 v34 rB rO rK kI kB hI hJ) L_X6_257 hN hP hD hS hA (trueIx 0 [true, true, true, true, true, true, true, true, true, true, true, true, true, true, true, true, true, true, true, true, true, true, true, true, true, true, true, true]) [false, false, false, false, false, false, false, false, false, false, false, false, false, false, false, false, false, false, false, false, false, false, false, false, false, false, false, false] (sel_eq rfl rfl) (by decide +kernel) rfl 0 5 rfl rfl rfl ⟨Nat.le_of_ble_eq_true rfl, Nat.le_of_ble_eq_true rfl⟩ hl.1 (Nat.le_of_ble_eq_true rfl) (g_182 (v := 257) bX6_readsTo rfl) ⟨Nat.le_of_ble_eq_true rfl, Nat.le_of_ble_eq_true rfl⟩ (fun u_3 H locs h_2 => ?_)
  clear hP hD hS
  intro hP hD hS
  have hPD := pd_eq [zzO qm 5 (v0 :: v1 :: v2 :: v3 :: v4 :: v5 :: v6 :: v7 :: v8 :: v9 :: .int (nI (T_nb (rdT tA kI kB))) :: .ref qmB :: .int (nI (T_np (rdT tA kI kB))) :: .ref qmO :: .ref qmK :: .int iEn :: .int iTk :: .int (T_sd (rdT tA kI kB)) :: v18 :: v19 :: v20 :: v21 :: v22 :: v23 :: v24 :: v25 :: v26 :: .int iLv :: .int iWs :: v29 :: v30 :: v31 :: v32 :: v33 :: v34 :: []), _, zzI cy (rB 0) 4 (bkR (rdT tA kI kB) 0), zzI cy (rB 1) 4 (bkR (rdT tA kI kB) 1), zzI cy (rB 2) 4 (bkR (rdT tA kI kB) 2), zzI cy (rB 3) 4 (bkR (rdT tA kI kB) 3), zzI cy (rB 4) 4 (bkR (rdT tA kI kB) 4), zzI cy (rB 5) 4 (bkR (rdT tA kI kB) 5), zzI cy (rB 6) 4 (bkR (rdT tA kI kB) 6), zzI cy (rB 7) 4 (bkR (rdT tA kI kB) 7), _, zzI cy (rO 0) 5 (onR (rdT tA kI kB) 0), zzI cy (rO 1) 5 (onR (rdT tA kI kB) 1), zzI cy (rO 2) 5 (onR (rdT tA kI kB) 2), zzI cy (rO 3) 5 (onR (rdT tA kI kB) 3), zzI cy (rO 4) 5 (onR (rdT tA kI kB) 4), zzI cy (rO 5) 5 (onR (rdT tA kI kB) 5), zzI cy (rO 6) 5 (onR (rdT tA kI kB) 6), zzI cy (rO 7) 5 (onR (rdT tA kI kB) 7), _, zzI cy (rK 0) 8 (T_kn (rdT tA kI kB) 0), zzI cy (rK 1) 8 (T_kn (rdT tA kI kB) 1), zzI cy (rK 2) 8 (T_kn (rdT tA kI kB) 2), zzI cy (rK 3) 8 (T_kn (rdT tA kI kB) 3), zzI cy (rK 4) 8 (T_kn (rdT tA kI kB) 4), zzI cy (rK 5) 8 (T_kn (rdT tA kI kB) 5), zzI cy (rK 6) 8 (T_kn (rdT tA kI kB) 6), zzI cy (rK 7) 8 (T_kn (rdT tA kI kB) 7)] hP hD h_2 rfl
  clear hP hD h_2
  obtain ⟨hP, hD⟩ := hPD
  refine lv_iconst (v := 0) hx hb (g_3 bX6_readsTo rfl) (by decide +kernel) ?_
  refine lv_istore (lv' := [(4, .int 0), (0, .ref qm), (1, .int (nI kI)), (2, .int (nI kB)), (3, .int iS)]) hx hb (g_54 (v := 4) bX6_readsTo rfl) hl (by decide +kernel) rfl (fun ls => ?_)
  clear hl
  intro hl
  refine lv_iconst (v := 0) hx hb (g_3 bX6_readsTo rfl) (by decide +kernel) ?_
  refine lv_istore (lv' := [(5, .int 0), (4, .int 0), (0, .ref qm), (1, .int (nI kI)), (2, .int (nI kB)), (3, .int iS)]) hx hb (g_54 (v := 5) bX6_readsTo rfl) hl (by decide +kernel) rfl (fun ls => ?_)
  clear hl
  intro hl
  have lp_4 : ∀ (n_5 : Nat) (j_7 : Nat) (tJ_8 : TA) (xC_9 : Int32), 8 - j_7 < n_5 → j_7 ≤ T_np tA → TI tJ_8 ∧ T_nb tJ_8 = T_nb tA ∧ T_np tJ_8 = T_np tA → ∀ (H : Heap) (locs : List Loc) (ls : Array Slot), va_P G CL [zzO qm 5 (v0 :: v1 :: v2 :: v3 :: v4 :: v5 :: v6 :: v7 :: v8 :: v9 :: .int (nI (T_nb tJ_8)) :: .ref qmB :: .int (nI (T_np tJ_8)) :: .ref qmO :: .ref qmK :: .int iEn :: .int iTk :: .int (T_sd tJ_8) :: v18 :: v19 :: v20 :: v21 :: v22 :: v23 :: v24 :: v25 :: v26 :: .int iLv :: .int iWs :: v29 :: v30 :: v31 :: v32 :: v33 :: v34 :: []), zzG cy 3 qmB rB, zzI cy (rB 0) 4 (bkR tJ_8 0), zzI cy (rB 1) 4 (bkR tJ_8 1), zzI cy (rB 2) 4 (bkR tJ_8 2), zzI cy (rB 3) 4 (bkR tJ_8 3), zzI cy (rB 4) 4 (bkR tJ_8 4), zzI cy (rB 5) 4 (bkR tJ_8 5), zzI cy (rB 6) 4 (bkR tJ_8 6), zzI cy (rB 7) 4 (bkR tJ_8 7), zzG cy 3 qmO rO, zzI cy (rO 0) 5 (onR tJ_8 0), zzI cy (rO 1) 5 (onR tJ_8 1), zzI cy (rO 2) 5 (onR tJ_8 2), zzI cy (rO 3) 5 (onR tJ_8 3), zzI cy (rO 4) 5 (onR tJ_8 4), zzI cy (rO 5) 5 (onR tJ_8 5), zzI cy (rO 6) 5 (onR tJ_8 6), zzI cy (rO 7) 5 (onR tJ_8 7), zzG cy 3 qmK rK, zzI cy (rK 0) 8 (T_kn tJ_8 0), zzI cy (rK 1) 8 (T_kn tJ_8 1), zzI cy (rK 2) 8 (T_kn tJ_8 2), zzI cy (rK 3) 8 (T_kn tJ_8 3), zzI cy (rK 4) 8 (T_kn tJ_8 4), zzI cy (rK 5) 8 (T_kn tJ_8 5), zzI cy (rK 6) 8 (T_kn tJ_8 6), zzI cy (rK 7) 8 (T_kn tJ_8 7)] H → va_D A [zzO qm 5 (v0 :: v1 :: v2 :: v3 :: v4 :: v5 :: v6 :: v7 :: v8 :: v9 :: .int (nI (T_nb tJ_8)) :: .ref qmB :: .int (nI (T_np tJ_8)) :: .ref qmO :: .ref qmK :: .int iEn :: .int iTk :: .int (T_sd tJ_8) :: v18 :: v19 :: v20 :: v21 :: v22 :: v23 :: v24 :: v25 :: v26 :: .int iLv :: .int iWs :: v29 :: v30 :: v31 :: v32 :: v33 :: v34 :: []), zzG cy 3 qmB rB, zzI cy (rB 0) 4 (bkR tJ_8 0), zzI cy (rB 1) 4 (bkR tJ_8 1), zzI cy (rB 2) 4 (bkR tJ_8 2), zzI cy (rB 3) 4 (bkR tJ_8 3), zzI cy (rB 4) 4 (bkR tJ_8 4), zzI cy (rB 5) 4 (bkR tJ_8 5), zzI cy (rB 6) 4 (bkR tJ_8 6), zzI cy (rB 7) 4 (bkR tJ_8 7), zzG cy 3 qmO rO, zzI cy (rO 0) 5 (onR tJ_8 0), zzI cy (rO 1) 5 (onR tJ_8 1), zzI cy (rO 2) 5 (onR tJ_8 2), zzI cy (rO 3) 5 (onR tJ_8 3), zzI cy (rO 4) 5 (onR tJ_8 4), zzI cy (rO 5) 5 (onR tJ_8 5), zzI cy (rO 6) 5 (onR tJ_8 6), zzI cy (rO 7) 5 (onR tJ_8 7), zzG cy 3 qmK rK, zzI cy (rK 0) 8 (T_kn tJ_8 0), zzI cy (rK 1) 8 (T_kn tJ_8 1), zzI cy (rK 2) 8 (T_kn tJ_8 2), zzI cy (rK 3) 8 (T_kn tJ_8 3), zzI cy (rK 4) 8 (T_kn tJ_8 4), zzI cy (rK 5) 8 (T_kn tJ_8 5), zzI cy (rK 6) 8 (T_kn tJ_8 6), zzI cy (rK 7) 8 (T_kn tJ_8 7)] → va_S A s.heap H locs → lv_has ls 7 [(5, .int (nI j_7)), (4, .int xC_9), (0, .ref qm), (1, .int (nI kI)), (2, .int (nI kB)), (3, .int iS)] → W p l e (Rm 5 0 0) s m (List.toArray (α := Value) [.ref qm, .int (nI kI), .int (nI kB), .int iS]) below meth c H locs 0 0 (MQ below ((Wi G (fun r u => ∃ (tX : TA), u = [zzO qm 5 (v0 :: v1 :: v2 :: v3 :: v4 :: v5 :: v6 :: v7 :: v8 :: v9 :: .int (nI (T_nb tX)) :: .ref qmB :: .int (nI (T_np tX)) :: .ref qmO :: .ref qmK :: .int iEn :: .int iTk :: .int (T_sd tX) :: v18 :: v19 :: v20 :: v21 :: v22 :: v23 :: v24 :: v25 :: v26 :: .int iLv :: .int iWs :: v29 :: v30 :: v31 :: v32 :: v33 :: v34 :: []), zzG cy 3 qmB rB, zzI cy (rB 0) 4 (bkR tX 0), zzI cy (rB 1) 4 (bkR tX 1), zzI cy (rB 2) 4 (bkR tX 2), zzI cy (rB 3) 4 (bkR tX 3), zzI cy (rB 4) 4 (bkR tX 4), zzI cy (rB 5) 4 (bkR tX 5), zzI cy (rB 6) 4 (bkR tX 6), zzI cy (rB 7) 4 (bkR tX 7), zzG cy 3 qmO rO, zzI cy (rO 0) 5 (onR tX 0), zzI cy (rO 1) 5 (onR tX 1), zzI cy (rO 2) 5 (onR tX 2), zzI cy (rO 3) 5 (onR tX 3), zzI cy (rO 4) 5 (onR tX 4), zzI cy (rO 5) 5 (onR tX 5), zzI cy (rO 6) 5 (onR tX 6), zzI cy (rO 7) 5 (onR tX 7), zzG cy 3 qmK rK, zzI cy (rK 0) 8 (T_kn tX 0), zzI cy (rK 1) 8 (T_kn tX 1), zzI cy (rK 2) 8 (T_kn tX 2), zzI cy (rK 3) 8 (T_kn tX 3), zzI cy (rK 4) 8 (T_kn tX 4), zzI cy (rK 5) 8 (T_kn tX 5), zzI cy (rK 6) 8 (T_kn tX 6), zzI cy (rK 7) 8 (T_kn tX 7)] ∧ (TI tX ∧ T_nb tX = T_nb tA ∧ T_np tX = T_np tA) ∧ (True))) A) (List.toArray (α := Value) [.ref qm, .int (nI kI), .int (nI kB), .int iS]) s 0 0 A) (F0 m 12 ls []) := by
    intro n_5
    induction n_5 with
    | zero => intro j_7 tJ_8 xC_9 hm9; exact absurd hm9 (Nat.not_lt_zero _)
    | succ n_5 ih_6 =>
      intro j_7 tJ_8 xC_9 hm_12 hj_10 hT_11 H locs ls hP hD hS hl
      refine lv_iload hx hb (g_21 (v := 5) bX6_readsTo rfl) (lv_at hl 0 rfl) ?_
      refine lv_aload_n hx hb (g_42 bX6_readsTo rfl) rfl (lv_at hl 2 rfl) ?_
      refine va_get (D := G) (ci := 5) (v := .int (nI (T_np tJ_8))) (C := RX6) (T := TX6) (N := 35) hx hb hts iX_X6 hown hK hP 0 rfl rfl 12 (by decide +kernel) (hts _ m_t862) (fun _ h9 => h9) rfl (g_180 (v := 78) bX6_readsTo rfl) ?_
      refine lv_icmp_ge (tgt := 131) hx hb dX6_readsTo_18 (by decide +kernel) (fun c_13 => ?_) (fun c_13 => ?_)
      · have hlt_14e : T_np tJ_8 = T_np tA := hT_11.2.2
        have hlt_14 : j_7 = T_np tA := Nat.le_antisymm (by omega) (by rw [hlt_14e] at c_13; exact lp_ge rfl rfl (by omega) (by omega) c_13)
        obtain ⟨hlt_14i, hlt_14b, hlt_14p⟩ := id hT_11
        refine lv_iload hx hb (g_21 (v := 4) bX6_readsTo rfl) (lv_at hl 1 rfl) ?_
        exact endWs [[true, true, true, true, true, true, true, true, true, true, true, true, true, true, true, true, true, true, true, true, true, true, true, true, true, true, true, true]] hx hb hr hlocks rfl hP hD rfl (by decide +kernel) hS ⟨tJ_8, rfl, hT_11, trivial⟩ (g_172 bX6_readsTo rfl)
      · have hlt_15e : T_np tJ_8 = T_np tA := hT_11.2.2
        have hlt_15 : j_7 < T_np tA := by rw [hlt_15e] at c_13; exact lp_lt rfl rfl (by omega) (by omega) c_13
        obtain ⟨hlt_15i, hlt_15b, hlt_15p⟩ := id hT_11
        refine lv_iload hx hb (g_21 (v := 5) bX6_readsTo rfl) (lv_at hl 0 rfl) ?_
        refine lv_iload_n hx hb (g_27 bX6_readsTo rfl) rfl (lv_at hl 3 rfl) ?_
        refine lv_icmp_eq (tgt := 125) hx hb dX6_readsTo_24 (by decide +kernel) (fun c_16 => ?_) (fun c_16 => ?_)
        · refine lv_iinc (v := nI (j_7 + 1)) (lv' := [(5, .int (nI (j_7 + 1))), (4, .int xC_9), (0, .ref qm), (1, .int (nI kI)), (2, .int (nI kB)), (3, .int iS)]) hx hb dX6_readsTo_125 hl (k := 0) rfl (nI_1 _) (by decide +kernel) rfl (fun ls => ?_)
          clear hl
          intro hl
          refine lv_goto (tgt := 12) hx hb dX6_readsTo_128 (by decide +kernel) ?_
          exact ih_6 (j_7 + 1) tJ_8 xC_9 (by omega) (by omega) hT_11 _ _ _ hP hD hS (lv_sub hl [0, 1, 2, 3, 4, 5] rfl)
        · refine lv_aload_n hx hb (g_42 bX6_readsTo rfl) rfl (lv_at hl 2 rfl) ?_
          refine lv_iload hx hb (g_21 (v := 5) bX6_readsTo rfl) (lv_at hl 0 rfl) ?_
          refine kRi (rV (As := [.int (nI j_7)]) (rest := []) (b := qm) ⟨hx, hb, hml, hown, hts⟩ (c_X6_isThere l G cy qm v0 v1 v2 v3 v4 v5 v6 v7 v8 v9 tJ_8 qmB qmO qmK iEn iTk v18 v19 v20 v21 v22 v23 v24 v25 v26 iLv iWs v29 v30 v31 v32 v33 v34 rO j_7 (by first | omega | (simp only [nb_sr, np_sr, nb_wr, np_wr, nb_rd, np_rd, nb_ch, np_ch, nb_zr, np_zr, nb_za, np_za, nb_ey, np_ey, nb_hf, np_hf, nb_dd, np_dd, nb_so, np_so, nb_skn, np_skn, nb_swh, np_swh, nb_sgn, np_sgn, nb_ssd, np_ssd, nb_sgo, np_sgo, nb_sag, np_sag]; omega))) L_X6_81 (preRV (q := (RX6, TX6, 35)) hN hP (trueIx 0 [true, false, false, false, false, false, false, false, false, false, true, true, true, true, true, true, true, true, true]) (sel_fm rfl rfl) 0 5 rfl rfl) rfl ⟨Nat.le_of_ble_eq_true rfl, Nat.le_of_ble_eq_true rfl⟩ hl.1 (Nat.le_of_ble_eq_true rfl) (g_182 (v := 81) bX6_readsTo rfl) ⟨Nat.le_of_ble_eq_true rfl, Nat.le_of_ble_eq_true rfl⟩) (fun r_17 h_18 => ?_)
          rcases h_18 with ⟨rfl, h_19⟩ | ⟨rfl, h_19⟩
          · refine lv_if_eq (tgt := 125) hx hb dX6_readsTo_33 (by decide +kernel) (fun h9 => absurd h9 (by decide +kernel)) (fun _ => ?_)
            refine lv_iload_n hx hb (g_29 bX6_readsTo rfl) rfl (lv_at hl 5 rfl) ?_
            refine lv_iload hx hb (g_21 (v := 5) bX6_readsTo rfl) (lv_at hl 0 rfl) ?_
            refine lv_ishr hx hb (g_122 bX6_readsTo rfl) ?_
            refine lv_iconst (v := 1) hx hb (g_4 bX6_readsTo rfl) (by decide +kernel) ?_
            refine lv_iand hx hb (g_126 bX6_readsTo rfl) ?_
            refine lv_if_eq (tgt := 125) hx hb dX6_readsTo_42 (by decide +kernel) (fun c_21 => ?_) (fun c_21 => ?_)
            · refine lv_iinc (v := nI (j_7 + 1)) (lv' := [(5, .int (nI (j_7 + 1))), (4, .int xC_9), (0, .ref qm), (1, .int (nI kI)), (2, .int (nI kB)), (3, .int iS)]) hx hb dX6_readsTo_125 hl (k := 0) rfl (nI_1 _) (by decide +kernel) rfl (fun ls => ?_)
              clear hl
              intro hl
              refine lv_goto (tgt := 12) hx hb dX6_readsTo_128 (by decide +kernel) ?_
              exact ih_6 (j_7 + 1) tJ_8 xC_9 (by omega) (by omega) hT_11 _ _ _ hP hD hS (lv_sub hl [0, 1, 2, 3, 4, 5] rfl)
            · refine lv_aload_n hx hb (g_42 bX6_readsTo rfl) rfl (lv_at hl 2 rfl) ?_
              refine lv_aload_n hx hb (g_42 bX6_readsTo rfl) rfl (lv_at hl 2 rfl) ?_
              refine va_get (D := G) (ci := 5) (v := .ref qmK) (C := RX6) (T := TX6) (N := 35) hx hb hts iX_X6 hown hK hP 0 rfl rfl 14 (by decide +kernel) (hts _ m_t864) (fun _ h9 => h9) rfl (g_180 (v := 48) bX6_readsTo rfl) ?_
              refine lv_iload_n hx hb (g_27 bX6_readsTo rfl) rfl (lv_at hl 3 rfl) ?_
              refine va_alda hx hb hK hP 19 3 rfl rfl (in8 (by omega)) (g_50 bX6_readsTo rfl) ?_
              refine lv_setv (v := .ref (rK kI)) (g_ref (by omega)) ?_
              refine lv_iload_n hx hb (g_28 bX6_readsTo rfl) rfl (lv_at hl 4 rfl) ?_
              refine va_iald hx hb hK hP (20 + kI) 0 (sg8 (n0 := 20) (f := (fun j => zzI cy (rK j) 8 (T_kn tJ_8 j))) rfl rfl rfl rfl rfl rfl rfl rfl kI (by omega)) rfl (vp_in_nI (by omega) (by omega)) (g_46 bX6_readsTo rfl) ?_
              refine lv_seti (v := T_kn tJ_8 kI kB) (congrArg (T_kn tJ_8 kI) (nI_clamp (by omega))) ?_
              refine lv_iconst (v := 2) hx hb (g_5 bX6_readsTo rfl) (by decide +kernel) ?_
              refine lv_idiv hx hb (g_108 bX6_readsTo rfl) (by decide +kernel) ?_
              refine lv_iload hx hb (g_21 (v := 5) bX6_readsTo rfl) (lv_at hl 0 rfl) ?_
              refine lv_iload_n hx hb (g_28 bX6_readsTo rfl) rfl (lv_at hl 4 rfl) ?_
              refine kRi (rV (As := [.int ((T_kn tJ_8 kI kB) / 2), .int (nI j_7), .int (nI kB)]) (rest := []) (b := qm) ⟨hx, hb, hml, hown, hts⟩ (c_X6_byGround l G cy qm v0 v1 v2 v3 v4 v5 v6 v7 v8 v9 tJ_8 qmB qmO qmK iEn iTk v18 v19 v20 v21 v22 v23 v24 v25 v26 iLv iWs v29 v30 v31 v32 v33 v34 rB rK ((T_kn tJ_8 kI kB) / 2) j_7 kB (by first | omega | (simp only [nb_sr, np_sr, nb_wr, np_wr, nb_rd, np_rd, nb_ch, np_ch, nb_zr, np_zr, nb_za, np_za, nb_ey, np_ey, nb_hf, np_hf, nb_dd, np_dd, nb_so, np_so, nb_skn, np_skn, nb_swh, np_swh, nb_sgn, np_sgn, nb_ssd, np_ssd, nb_sgo, np_sgo, nb_sag, np_sag]; omega)) hJ) L_X6_244 (preRV (q := (RX6, TX6, 35)) hN hP (trueIx 0 [true, true, true, true, true, true, true, true, true, true, false, false, false, false, false, false, false, false, false, true, true, true, true, true, true, true, true, true]) (sel_fm rfl rfl) 0 5 rfl rfl) rfl ⟨Nat.le_of_ble_eq_true rfl, Nat.le_of_ble_eq_true rfl⟩ hl.1 (Nat.le_of_ble_eq_true rfl) (g_182 (v := 244) bX6_readsTo rfl) ⟨Nat.le_of_ble_eq_true rfl, Nat.le_of_ble_eq_true rfl⟩) (fun r_22 h_23 => ?_)
              subst h_23
              refine lv_istore (lv' := [(6, .int (zgr ((T_kn tJ_8 kI kB) / 2) (zgd tJ_8 j_7 kB))), (5, .int (nI j_7)), (4, .int xC_9), (0, .ref qm), (1, .int (nI kI)), (2, .int (nI kB)), (3, .int iS)]) hx hb (g_54 (v := 6) bX6_readsTo rfl) hl (by decide +kernel) rfl (fun ls => ?_)
              clear hl
              intro hl
              refine lv_iload hx hb (g_21 (v := 4) bX6_readsTo rfl) (lv_at hl 2 rfl) ?_
              refine lv_iload hx hb (g_21 (v := 6) bX6_readsTo rfl) (lv_at hl 0 rfl) ?_
              refine lv_aload_n hx hb (g_42 bX6_readsTo rfl) rfl (lv_at hl 3 rfl) ?_
              refine va_get (D := G) (ci := 5) (v := .ref qmK) (C := RX6) (T := TX6) (N := 35) hx hb hts iX_X6 hown hK hP 0 rfl rfl 14 (by decide +kernel) (hts _ m_t864) (fun _ h9 => h9) rfl (g_180 (v := 48) bX6_readsTo rfl) ?_
              refine lv_iload hx hb (g_21 (v := 5) bX6_readsTo rfl) (lv_at hl 1 rfl) ?_
              refine va_alda hx hb hK hP 19 3 rfl rfl (in8 (by omega)) (g_50 bX6_readsTo rfl) ?_
              refine lv_setv (v := .ref (rK j_7)) (g_ref (by omega)) ?_
              refine lv_iload_n hx hb (g_28 bX6_readsTo rfl) rfl (lv_at hl 5 rfl) ?_
              refine va_iald hx hb hK hP (20 + j_7) 0 (sg8 (n0 := 20) (f := (fun j => zzI cy (rK j) 8 (T_kn tJ_8 j))) rfl rfl rfl rfl rfl rfl rfl rfl j_7 (by omega)) rfl (vp_in_nI (by omega) (by omega)) (g_46 bX6_readsTo rfl) ?_
              refine lv_seti (v := T_kn tJ_8 j_7 kB) (congrArg (T_kn tJ_8 j_7) (nI_clamp (by omega))) ?_
              refine lv_icmp_le (tgt := 84) hx hb dX6_readsTo_77 (by decide +kernel) (fun c_24 => ?_) (fun c_24 => ?_)
              · refine lv_iconst (v := 0) hx hb (g_3 bX6_readsTo rfl) (by decide +kernel) ?_
                refine lv_iadd hx hb (g_96 bX6_readsTo rfl) ?_
                refine lv_istore (lv' := [(4, .int (xC_9 + 0)), (6, .int (zgr ((T_kn tJ_8 kI kB) / 2) (zgd tJ_8 j_7 kB))), (5, .int (nI j_7)), (0, .ref qm), (1, .int (nI kI)), (2, .int (nI kB)), (3, .int iS)]) hx hb (g_54 (v := 4) bX6_readsTo rfl) hl (by decide +kernel) rfl (fun ls => ?_)
                clear hl
                intro hl
                refine lv_aload_n hx hb (g_42 bX6_readsTo rfl) rfl (lv_at hl 3 rfl) ?_
                refine va_get (D := G) (ci := 5) (v := .ref qmK) (C := RX6) (T := TX6) (N := 35) hx hb hts iX_X6 hown hK hP 0 rfl rfl 14 (by decide +kernel) (hts _ m_t864) (fun _ h9 => h9) rfl (g_180 (v := 48) bX6_readsTo rfl) ?_
                refine lv_iload hx hb (g_21 (v := 5) bX6_readsTo rfl) (lv_at hl 2 rfl) ?_
                refine va_alda hx hb hK hP 19 3 rfl rfl (in8 (by omega)) (g_50 bX6_readsTo rfl) ?_
                refine lv_setv (v := .ref (rK j_7)) (g_ref (by omega)) ?_
                refine lv_iload_n hx hb (g_28 bX6_readsTo rfl) rfl (lv_at hl 5 rfl) ?_
                refine lv_iload hx hb (g_21 (v := 6) bX6_readsTo rfl) (lv_at hl 1 rfl) ?_
                refine lv_aload_n hx hb (g_42 bX6_readsTo rfl) rfl (lv_at hl 3 rfl) ?_
                refine va_get (D := G) (ci := 5) (v := .ref qmK) (C := RX6) (T := TX6) (N := 35) hx hb hts iX_X6 hown hK hP 0 rfl rfl 14 (by decide +kernel) (hts _ m_t864) (fun _ h9 => h9) rfl (g_180 (v := 48) bX6_readsTo rfl) ?_
                refine lv_iload hx hb (g_21 (v := 5) bX6_readsTo rfl) (lv_at hl 2 rfl) ?_
                refine va_alda hx hb hK hP 19 3 rfl rfl (in8 (by omega)) (g_50 bX6_readsTo rfl) ?_
                refine lv_setv (v := .ref (rK j_7)) (g_ref (by omega)) ?_
                refine lv_iload_n hx hb (g_28 bX6_readsTo rfl) rfl (lv_at hl 5 rfl) ?_
                refine va_iald hx hb hK hP (20 + j_7) 0 (sg8 (n0 := 20) (f := (fun j => zzI cy (rK j) 8 (T_kn tJ_8 j))) rfl rfl rfl rfl rfl rfl rfl rfl j_7 (by omega)) rfl (vp_in_nI (by omega) (by omega)) (g_46 bX6_readsTo rfl) ?_
                refine lv_seti (v := T_kn tJ_8 j_7 kB) (congrArg (T_kn tJ_8 j_7) (nI_clamp (by omega))) ?_
                refine lv_icmp_le (tgt := 115) hx hb dX6_readsTo_107 (by decide +kernel) (fun c_25 => ?_) (fun c_25 => ?_)
                · refine lv_aload_n hx hb (g_42 bX6_readsTo rfl) rfl (lv_at hl 3 rfl) ?_
                  refine va_get (D := G) (ci := 5) (v := .ref qmK) (C := RX6) (T := TX6) (N := 35) hx hb hts iX_X6 hown hK hP 0 rfl rfl 14 (by decide +kernel) (hts _ m_t864) (fun _ h9 => h9) rfl (g_180 (v := 48) bX6_readsTo rfl) ?_
                  refine lv_iload hx hb (g_21 (v := 5) bX6_readsTo rfl) (lv_at hl 2 rfl) ?_
                  refine va_alda hx hb hK hP 19 3 rfl rfl (in8 (by omega)) (g_50 bX6_readsTo rfl) ?_
                  refine lv_setv (v := .ref (rK j_7)) (g_ref (by omega)) ?_
                  refine lv_iload_n hx hb (g_28 bX6_readsTo rfl) rfl (lv_at hl 5 rfl) ?_
                  refine va_iald hx hb hK hP (20 + j_7) 0 (sg8 (n0 := 20) (f := (fun j => zzI cy (rK j) 8 (T_kn tJ_8 j))) rfl rfl rfl rfl rfl rfl rfl rfl j_7 (by omega)) rfl (vp_in_nI (by omega) (by omega)) (g_46 bX6_readsTo rfl) ?_
                  refine lv_seti (v := T_kn tJ_8 j_7 kB) (congrArg (T_kn tJ_8 j_7) (nI_clamp (by omega))) ?_
                  refine va_iast hx hb hK hP hD hS (20 + j_7) 0 ((sg8 (n0 := 20) (f := (fun j => zzI cy (rK j) 8 (T_kn tJ_8 j))) rfl rfl rfl rfl rfl rfl rfl rfl) j_7 (by omega)) rfl (vp_in_nI (by omega) (by omega)) (g_79 bX6_readsTo rfl) (fun H locs => ?_)
                  clear hP hD hS
                  intro hP hD hS
                  rw [nI_clamp (n := kB) (by omega)] at hP hD
                  have hPD := st8PD (ws' := [zzO qm 5 (v0 :: v1 :: v2 :: v3 :: v4 :: v5 :: v6 :: v7 :: v8 :: v9 :: .int (nI (T_nb (T_setkn tJ_8 (updM (T_kn tJ_8) j_7 kB (T_kn tJ_8 j_7 kB))))) :: .ref qmB :: .int (nI (T_np (T_setkn tJ_8 (updM (T_kn tJ_8) j_7 kB (T_kn tJ_8 j_7 kB))))) :: .ref qmO :: .ref qmK :: .int iEn :: .int iTk :: .int (T_sd (T_setkn tJ_8 (updM (T_kn tJ_8) j_7 kB (T_kn tJ_8 j_7 kB)))) :: v18 :: v19 :: v20 :: v21 :: v22 :: v23 :: v24 :: v25 :: v26 :: .int iLv :: .int iWs :: v29 :: v30 :: v31 :: v32 :: v33 :: v34 :: []), zzG cy 3 qmB rB, zzI cy (rB 0) 4 (bkR (T_setkn tJ_8 (updM (T_kn tJ_8) j_7 kB (T_kn tJ_8 j_7 kB))) 0), zzI cy (rB 1) 4 (bkR (T_setkn tJ_8 (updM (T_kn tJ_8) j_7 kB (T_kn tJ_8 j_7 kB))) 1), zzI cy (rB 2) 4 (bkR (T_setkn tJ_8 (updM (T_kn tJ_8) j_7 kB (T_kn tJ_8 j_7 kB))) 2), zzI cy (rB 3) 4 (bkR (T_setkn tJ_8 (updM (T_kn tJ_8) j_7 kB (T_kn tJ_8 j_7 kB))) 3), zzI cy (rB 4) 4 (bkR (T_setkn tJ_8 (updM (T_kn tJ_8) j_7 kB (T_kn tJ_8 j_7 kB))) 4), zzI cy (rB 5) 4 (bkR (T_setkn tJ_8 (updM (T_kn tJ_8) j_7 kB (T_kn tJ_8 j_7 kB))) 5), zzI cy (rB 6) 4 (bkR (T_setkn tJ_8 (updM (T_kn tJ_8) j_7 kB (T_kn tJ_8 j_7 kB))) 6), zzI cy (rB 7) 4 (bkR (T_setkn tJ_8 (updM (T_kn tJ_8) j_7 kB (T_kn tJ_8 j_7 kB))) 7), zzG cy 3 qmO rO, zzI cy (rO 0) 5 (onR (T_setkn tJ_8 (updM (T_kn tJ_8) j_7 kB (T_kn tJ_8 j_7 kB))) 0), zzI cy (rO 1) 5 (onR (T_setkn tJ_8 (updM (T_kn tJ_8) j_7 kB (T_kn tJ_8 j_7 kB))) 1), zzI cy (rO 2) 5 (onR (T_setkn tJ_8 (updM (T_kn tJ_8) j_7 kB (T_kn tJ_8 j_7 kB))) 2), zzI cy (rO 3) 5 (onR (T_setkn tJ_8 (updM (T_kn tJ_8) j_7 kB (T_kn tJ_8 j_7 kB))) 3), zzI cy (rO 4) 5 (onR (T_setkn tJ_8 (updM (T_kn tJ_8) j_7 kB (T_kn tJ_8 j_7 kB))) 4), zzI cy (rO 5) 5 (onR (T_setkn tJ_8 (updM (T_kn tJ_8) j_7 kB (T_kn tJ_8 j_7 kB))) 5), zzI cy (rO 6) 5 (onR (T_setkn tJ_8 (updM (T_kn tJ_8) j_7 kB (T_kn tJ_8 j_7 kB))) 6), zzI cy (rO 7) 5 (onR (T_setkn tJ_8 (updM (T_kn tJ_8) j_7 kB (T_kn tJ_8 j_7 kB))) 7), zzG cy 3 qmK rK, zzI cy (rK 0) 8 (T_kn (T_setkn tJ_8 (updM (T_kn tJ_8) j_7 kB (T_kn tJ_8 j_7 kB))) 0), zzI cy (rK 1) 8 (T_kn (T_setkn tJ_8 (updM (T_kn tJ_8) j_7 kB (T_kn tJ_8 j_7 kB))) 1), zzI cy (rK 2) 8 (T_kn (T_setkn tJ_8 (updM (T_kn tJ_8) j_7 kB (T_kn tJ_8 j_7 kB))) 2), zzI cy (rK 3) 8 (T_kn (T_setkn tJ_8 (updM (T_kn tJ_8) j_7 kB (T_kn tJ_8 j_7 kB))) 3), zzI cy (rK 4) 8 (T_kn (T_setkn tJ_8 (updM (T_kn tJ_8) j_7 kB (T_kn tJ_8 j_7 kB))) 4), zzI cy (rK 5) 8 (T_kn (T_setkn tJ_8 (updM (T_kn tJ_8) j_7 kB (T_kn tJ_8 j_7 kB))) 5), zzI cy (rK 6) 8 (T_kn (T_setkn tJ_8 (updM (T_kn tJ_8) j_7 kB (T_kn tJ_8 j_7 kB))) 6), zzI cy (rK 7) 8 (T_kn (T_setkn tJ_8 (updM (T_kn tJ_8) j_7 kB (T_kn tJ_8 j_7 kB))) 7)]) (k := j_7) (g1 := T_kn (T_setkn tJ_8 (updM (T_kn tJ_8) j_7 kB (T_kn tJ_8 j_7 kB))) j_7) hP hD (sg8 (n0 := 20) (f := (fun j => zzI cy (rK j) 8 (T_kn tJ_8 j))) rfl rfl rfl rfl rfl rfl rfl rfl) (sg8 (n0 := 20) (f := (fun j => zzI cy (rK j) 8 (T_kn (T_setkn tJ_8 (updM (T_kn tJ_8) j_7 kB (T_kn tJ_8 j_7 kB))) j))) rfl rfl rfl rfl rfl rfl rfl rfl) rfl rfl (by omega) rfl (fun i _ => (congrFun (kn_u tJ_8 j_7 kB (T_kn tJ_8 j_7 kB)) i).symm) (fun j hj => congrArg (zzI cy (rK j) 8) (kn_n tJ_8 j_7 kB (T_kn tJ_8 j_7 kB) hj))
                  clear hP hD
                  obtain ⟨hP, hD⟩ := hPD
                  refine lv_iinc (v := nI (j_7 + 1)) (lv' := [(5, .int (nI (j_7 + 1))), (4, .int (xC_9 + 0)), (6, .int (zgr ((T_kn tJ_8 kI kB) / 2) (zgd tJ_8 j_7 kB))), (0, .ref qm), (1, .int (nI kI)), (2, .int (nI kB)), (3, .int iS)]) hx hb dX6_readsTo_125 hl (k := 2) rfl (nI_1 _) (by decide +kernel) rfl (fun ls => ?_)
                  clear hl
                  intro hl
                  refine lv_goto (tgt := 12) hx hb dX6_readsTo_128 (by decide +kernel) ?_
                  exact ih_6 (j_7 + 1) (T_setkn tJ_8 (updM (T_kn tJ_8) j_7 kB (T_kn tJ_8 j_7 kB))) (xC_9 + 0) (by omega) (by omega) (⟨TI_kn hT_11.1 (hT_11.1.2.1 _ _), hT_11.2⟩) _ _ _ hP hD hS (lv_sub hl [0, 1, 3, 4, 5, 6] rfl)
                · refine lv_iload hx hb (g_21 (v := 6) bX6_readsTo rfl) (lv_at hl 1 rfl) ?_
                  refine lv_goto (tgt := 124) hx hb dX6_readsTo_112 (by decide +kernel) ?_
                  refine va_iast hx hb hK hP hD hS (20 + j_7) 0 ((sg8 (n0 := 20) (f := (fun j => zzI cy (rK j) 8 (T_kn tJ_8 j))) rfl rfl rfl rfl rfl rfl rfl rfl) j_7 (by omega)) rfl (vp_in_nI (by omega) (by omega)) (g_79 bX6_readsTo rfl) (fun H locs => ?_)
                  clear hP hD hS
                  intro hP hD hS
                  rw [nI_clamp (n := kB) (by omega)] at hP hD
                  have hPD := st8PD (ws' := [zzO qm 5 (v0 :: v1 :: v2 :: v3 :: v4 :: v5 :: v6 :: v7 :: v8 :: v9 :: .int (nI (T_nb (T_setkn tJ_8 (updM (T_kn tJ_8) j_7 kB (zgr ((T_kn tJ_8 kI kB) / 2) (zgd tJ_8 j_7 kB)))))) :: .ref qmB :: .int (nI (T_np (T_setkn tJ_8 (updM (T_kn tJ_8) j_7 kB (zgr ((T_kn tJ_8 kI kB) / 2) (zgd tJ_8 j_7 kB)))))) :: .ref qmO :: .ref qmK :: .int iEn :: .int iTk :: .int (T_sd (T_setkn tJ_8 (updM (T_kn tJ_8) j_7 kB (zgr ((T_kn tJ_8 kI kB) / 2) (zgd tJ_8 j_7 kB))))) :: v18 :: v19 :: v20 :: v21 :: v22 :: v23 :: v24 :: v25 :: v26 :: .int iLv :: .int iWs :: v29 :: v30 :: v31 :: v32 :: v33 :: v34 :: []), zzG cy 3 qmB rB, zzI cy (rB 0) 4 (bkR (T_setkn tJ_8 (updM (T_kn tJ_8) j_7 kB (zgr ((T_kn tJ_8 kI kB) / 2) (zgd tJ_8 j_7 kB)))) 0), zzI cy (rB 1) 4 (bkR (T_setkn tJ_8 (updM (T_kn tJ_8) j_7 kB (zgr ((T_kn tJ_8 kI kB) / 2) (zgd tJ_8 j_7 kB)))) 1), zzI cy (rB 2) 4 (bkR (T_setkn tJ_8 (updM (T_kn tJ_8) j_7 kB (zgr ((T_kn tJ_8 kI kB) / 2) (zgd tJ_8 j_7 kB)))) 2), zzI cy (rB 3) 4 (bkR (T_setkn tJ_8 (updM (T_kn tJ_8) j_7 kB (zgr ((T_kn tJ_8 kI kB) / 2) (zgd tJ_8 j_7 kB)))) 3), zzI cy (rB 4) 4 (bkR (T_setkn tJ_8 (updM (T_kn tJ_8) j_7 kB (zgr ((T_kn tJ_8 kI kB) / 2) (zgd tJ_8 j_7 kB)))) 4), zzI cy (rB 5) 4 (bkR (T_setkn tJ_8 (updM (T_kn tJ_8) j_7 kB (zgr ((T_kn tJ_8 kI kB) / 2) (zgd tJ_8 j_7 kB)))) 5), zzI cy (rB 6) 4 (bkR (T_setkn tJ_8 (updM (T_kn tJ_8) j_7 kB (zgr ((T_kn tJ_8 kI kB) / 2) (zgd tJ_8 j_7 kB)))) 6), zzI cy (rB 7) 4 (bkR (T_setkn tJ_8 (updM (T_kn tJ_8) j_7 kB (zgr ((T_kn tJ_8 kI kB) / 2) (zgd tJ_8 j_7 kB)))) 7), zzG cy 3 qmO rO, zzI cy (rO 0) 5 (onR (T_setkn tJ_8 (updM (T_kn tJ_8) j_7 kB (zgr ((T_kn tJ_8 kI kB) / 2) (zgd tJ_8 j_7 kB)))) 0), zzI cy (rO 1) 5 (onR (T_setkn tJ_8 (updM (T_kn tJ_8) j_7 kB (zgr ((T_kn tJ_8 kI kB) / 2) (zgd tJ_8 j_7 kB)))) 1), zzI cy (rO 2) 5 (onR (T_setkn tJ_8 (updM (T_kn tJ_8) j_7 kB (zgr ((T_kn tJ_8 kI kB) / 2) (zgd tJ_8 j_7 kB)))) 2), zzI cy (rO 3) 5 (onR (T_setkn tJ_8 (updM (T_kn tJ_8) j_7 kB (zgr ((T_kn tJ_8 kI kB) / 2) (zgd tJ_8 j_7 kB)))) 3), zzI cy (rO 4) 5 (onR (T_setkn tJ_8 (updM (T_kn tJ_8) j_7 kB (zgr ((T_kn tJ_8 kI kB) / 2) (zgd tJ_8 j_7 kB)))) 4), zzI cy (rO 5) 5 (onR (T_setkn tJ_8 (updM (T_kn tJ_8) j_7 kB (zgr ((T_kn tJ_8 kI kB) / 2) (zgd tJ_8 j_7 kB)))) 5), zzI cy (rO 6) 5 (onR (T_setkn tJ_8 (updM (T_kn tJ_8) j_7 kB (zgr ((T_kn tJ_8 kI kB) / 2) (zgd tJ_8 j_7 kB)))) 6), zzI cy (rO 7) 5 (onR (T_setkn tJ_8 (updM (T_kn tJ_8) j_7 kB (zgr ((T_kn tJ_8 kI kB) / 2) (zgd tJ_8 j_7 kB)))) 7), zzG cy 3 qmK rK, zzI cy (rK 0) 8 (T_kn (T_setkn tJ_8 (updM (T_kn tJ_8) j_7 kB (zgr ((T_kn tJ_8 kI kB) / 2) (zgd tJ_8 j_7 kB)))) 0), zzI cy (rK 1) 8 (T_kn (T_setkn tJ_8 (updM (T_kn tJ_8) j_7 kB (zgr ((T_kn tJ_8 kI kB) / 2) (zgd tJ_8 j_7 kB)))) 1), zzI cy (rK 2) 8 (T_kn (T_setkn tJ_8 (updM (T_kn tJ_8) j_7 kB (zgr ((T_kn tJ_8 kI kB) / 2) (zgd tJ_8 j_7 kB)))) 2), zzI cy (rK 3) 8 (T_kn (T_setkn tJ_8 (updM (T_kn tJ_8) j_7 kB (zgr ((T_kn tJ_8 kI kB) / 2) (zgd tJ_8 j_7 kB)))) 3), zzI cy (rK 4) 8 (T_kn (T_setkn tJ_8 (updM (T_kn tJ_8) j_7 kB (zgr ((T_kn tJ_8 kI kB) / 2) (zgd tJ_8 j_7 kB)))) 4), zzI cy (rK 5) 8 (T_kn (T_setkn tJ_8 (updM (T_kn tJ_8) j_7 kB (zgr ((T_kn tJ_8 kI kB) / 2) (zgd tJ_8 j_7 kB)))) 5), zzI cy (rK 6) 8 (T_kn (T_setkn tJ_8 (updM (T_kn tJ_8) j_7 kB (zgr ((T_kn tJ_8 kI kB) / 2) (zgd tJ_8 j_7 kB)))) 6), zzI cy (rK 7) 8 (T_kn (T_setkn tJ_8 (updM (T_kn tJ_8) j_7 kB (zgr ((T_kn tJ_8 kI kB) / 2) (zgd tJ_8 j_7 kB)))) 7)]) (k := j_7) (g1 := T_kn (T_setkn tJ_8 (updM (T_kn tJ_8) j_7 kB (zgr ((T_kn tJ_8 kI kB) / 2) (zgd tJ_8 j_7 kB)))) j_7) hP hD (sg8 (n0 := 20) (f := (fun j => zzI cy (rK j) 8 (T_kn tJ_8 j))) rfl rfl rfl rfl rfl rfl rfl rfl) (sg8 (n0 := 20) (f := (fun j => zzI cy (rK j) 8 (T_kn (T_setkn tJ_8 (updM (T_kn tJ_8) j_7 kB (zgr ((T_kn tJ_8 kI kB) / 2) (zgd tJ_8 j_7 kB)))) j))) rfl rfl rfl rfl rfl rfl rfl rfl) rfl rfl (by omega) rfl (fun i _ => (congrFun (kn_u tJ_8 j_7 kB (zgr ((T_kn tJ_8 kI kB) / 2) (zgd tJ_8 j_7 kB))) i).symm) (fun j hj => congrArg (zzI cy (rK j) 8) (kn_n tJ_8 j_7 kB (zgr ((T_kn tJ_8 kI kB) / 2) (zgd tJ_8 j_7 kB)) hj))
                  clear hP hD
                  obtain ⟨hP, hD⟩ := hPD
                  refine lv_iinc (v := nI (j_7 + 1)) (lv' := [(5, .int (nI (j_7 + 1))), (4, .int (xC_9 + 0)), (6, .int (zgr ((T_kn tJ_8 kI kB) / 2) (zgd tJ_8 j_7 kB))), (0, .ref qm), (1, .int (nI kI)), (2, .int (nI kB)), (3, .int iS)]) hx hb dX6_readsTo_125 hl (k := 2) rfl (nI_1 _) (by decide +kernel) rfl (fun ls => ?_)
                  clear hl
                  intro hl
                  refine lv_goto (tgt := 12) hx hb dX6_readsTo_128 (by decide +kernel) ?_
                  exact ih_6 (j_7 + 1) (T_setkn tJ_8 (updM (T_kn tJ_8) j_7 kB (zgr ((T_kn tJ_8 kI kB) / 2) (zgd tJ_8 j_7 kB)))) (xC_9 + 0) (by omega) (by omega) (⟨TI_kn hT_11.1 (r_gr (r_half (hT_11.1.2.1 _ _)) (r_gd (hT_11.1.2.1 _) _)), hT_11.2⟩) _ _ _ hP hD hS (lv_sub hl [0, 1, 3, 4, 5, 6] rfl)
              · refine lv_iconst (v := 1) hx hb (g_4 bX6_readsTo rfl) (by decide +kernel) ?_
                refine lv_goto (tgt := 85) hx hb dX6_readsTo_81 (by decide +kernel) ?_
                refine lv_iadd hx hb (g_96 bX6_readsTo rfl) ?_
                refine lv_istore (lv' := [(4, .int (xC_9 + 1)), (6, .int (zgr ((T_kn tJ_8 kI kB) / 2) (zgd tJ_8 j_7 kB))), (5, .int (nI j_7)), (0, .ref qm), (1, .int (nI kI)), (2, .int (nI kB)), (3, .int iS)]) hx hb (g_54 (v := 4) bX6_readsTo rfl) hl (by decide +kernel) rfl (fun ls => ?_)
                clear hl
                intro hl
                refine lv_aload_n hx hb (g_42 bX6_readsTo rfl) rfl (lv_at hl 3 rfl) ?_
                refine va_get (D := G) (ci := 5) (v := .ref qmK) (C := RX6) (T := TX6) (N := 35) hx hb hts iX_X6 hown hK hP 0 rfl rfl 14 (by decide +kernel) (hts _ m_t864) (fun _ h9 => h9) rfl (g_180 (v := 48) bX6_readsTo rfl) ?_
                refine lv_iload hx hb (g_21 (v := 5) bX6_readsTo rfl) (lv_at hl 2 rfl) ?_
                refine va_alda hx hb hK hP 19 3 rfl rfl (in8 (by omega)) (g_50 bX6_readsTo rfl) ?_
                refine lv_setv (v := .ref (rK j_7)) (g_ref (by omega)) ?_
                refine lv_iload_n hx hb (g_28 bX6_readsTo rfl) rfl (lv_at hl 5 rfl) ?_
                refine lv_iload hx hb (g_21 (v := 6) bX6_readsTo rfl) (lv_at hl 1 rfl) ?_
                refine lv_aload_n hx hb (g_42 bX6_readsTo rfl) rfl (lv_at hl 3 rfl) ?_
                refine va_get (D := G) (ci := 5) (v := .ref qmK) (C := RX6) (T := TX6) (N := 35) hx hb hts iX_X6 hown hK hP 0 rfl rfl 14 (by decide +kernel) (hts _ m_t864) (fun _ h9 => h9) rfl (g_180 (v := 48) bX6_readsTo rfl) ?_
                refine lv_iload hx hb (g_21 (v := 5) bX6_readsTo rfl) (lv_at hl 2 rfl) ?_
                refine va_alda hx hb hK hP 19 3 rfl rfl (in8 (by omega)) (g_50 bX6_readsTo rfl) ?_
                refine lv_setv (v := .ref (rK j_7)) (g_ref (by omega)) ?_
                refine lv_iload_n hx hb (g_28 bX6_readsTo rfl) rfl (lv_at hl 5 rfl) ?_
                refine va_iald hx hb hK hP (20 + j_7) 0 (sg8 (n0 := 20) (f := (fun j => zzI cy (rK j) 8 (T_kn tJ_8 j))) rfl rfl rfl rfl rfl rfl rfl rfl j_7 (by omega)) rfl (vp_in_nI (by omega) (by omega)) (g_46 bX6_readsTo rfl) ?_
                refine lv_seti (v := T_kn tJ_8 j_7 kB) (congrArg (T_kn tJ_8 j_7) (nI_clamp (by omega))) ?_
                refine lv_icmp_le (tgt := 115) hx hb dX6_readsTo_107 (by decide +kernel) (fun c_26 => ?_) (fun c_26 => ?_)
                · refine lv_aload_n hx hb (g_42 bX6_readsTo rfl) rfl (lv_at hl 3 rfl) ?_
                  refine va_get (D := G) (ci := 5) (v := .ref qmK) (C := RX6) (T := TX6) (N := 35) hx hb hts iX_X6 hown hK hP 0 rfl rfl 14 (by decide +kernel) (hts _ m_t864) (fun _ h9 => h9) rfl (g_180 (v := 48) bX6_readsTo rfl) ?_
                  refine lv_iload hx hb (g_21 (v := 5) bX6_readsTo rfl) (lv_at hl 2 rfl) ?_
                  refine va_alda hx hb hK hP 19 3 rfl rfl (in8 (by omega)) (g_50 bX6_readsTo rfl) ?_
                  refine lv_setv (v := .ref (rK j_7)) (g_ref (by omega)) ?_
                  refine lv_iload_n hx hb (g_28 bX6_readsTo rfl) rfl (lv_at hl 5 rfl) ?_
                  refine va_iald hx hb hK hP (20 + j_7) 0 (sg8 (n0 := 20) (f := (fun j => zzI cy (rK j) 8 (T_kn tJ_8 j))) rfl rfl rfl rfl rfl rfl rfl rfl j_7 (by omega)) rfl (vp_in_nI (by omega) (by omega)) (g_46 bX6_readsTo rfl) ?_
                  refine lv_seti (v := T_kn tJ_8 j_7 kB) (congrArg (T_kn tJ_8 j_7) (nI_clamp (by omega))) ?_
                  refine va_iast hx hb hK hP hD hS (20 + j_7) 0 ((sg8 (n0 := 20) (f := (fun j => zzI cy (rK j) 8 (T_kn tJ_8 j))) rfl rfl rfl rfl rfl rfl rfl rfl) j_7 (by omega)) rfl (vp_in_nI (by omega) (by omega)) (g_79 bX6_readsTo rfl) (fun H locs => ?_)
                  clear hP hD hS
                  intro hP hD hS
                  rw [nI_clamp (n := kB) (by omega)] at hP hD
                  have hPD := st8PD (ws' := [zzO qm 5 (v0 :: v1 :: v2 :: v3 :: v4 :: v5 :: v6 :: v7 :: v8 :: v9 :: .int (nI (T_nb (T_setkn tJ_8 (updM (T_kn tJ_8) j_7 kB (T_kn tJ_8 j_7 kB))))) :: .ref qmB :: .int (nI (T_np (T_setkn tJ_8 (updM (T_kn tJ_8) j_7 kB (T_kn tJ_8 j_7 kB))))) :: .ref qmO :: .ref qmK :: .int iEn :: .int iTk :: .int (T_sd (T_setkn tJ_8 (updM (T_kn tJ_8) j_7 kB (T_kn tJ_8 j_7 kB)))) :: v18 :: v19 :: v20 :: v21 :: v22 :: v23 :: v24 :: v25 :: v26 :: .int iLv :: .int iWs :: v29 :: v30 :: v31 :: v32 :: v33 :: v34 :: []), zzG cy 3 qmB rB, zzI cy (rB 0) 4 (bkR (T_setkn tJ_8 (updM (T_kn tJ_8) j_7 kB (T_kn tJ_8 j_7 kB))) 0), zzI cy (rB 1) 4 (bkR (T_setkn tJ_8 (updM (T_kn tJ_8) j_7 kB (T_kn tJ_8 j_7 kB))) 1), zzI cy (rB 2) 4 (bkR (T_setkn tJ_8 (updM (T_kn tJ_8) j_7 kB (T_kn tJ_8 j_7 kB))) 2), zzI cy (rB 3) 4 (bkR (T_setkn tJ_8 (updM (T_kn tJ_8) j_7 kB (T_kn tJ_8 j_7 kB))) 3), zzI cy (rB 4) 4 (bkR (T_setkn tJ_8 (updM (T_kn tJ_8) j_7 kB (T_kn tJ_8 j_7 kB))) 4), zzI cy (rB 5) 4 (bkR (T_setkn tJ_8 (updM (T_kn tJ_8) j_7 kB (T_kn tJ_8 j_7 kB))) 5), zzI cy (rB 6) 4 (bkR (T_setkn tJ_8 (updM (T_kn tJ_8) j_7 kB (T_kn tJ_8 j_7 kB))) 6), zzI cy (rB 7) 4 (bkR (T_setkn tJ_8 (updM (T_kn tJ_8) j_7 kB (T_kn tJ_8 j_7 kB))) 7), zzG cy 3 qmO rO, zzI cy (rO 0) 5 (onR (T_setkn tJ_8 (updM (T_kn tJ_8) j_7 kB (T_kn tJ_8 j_7 kB))) 0), zzI cy (rO 1) 5 (onR (T_setkn tJ_8 (updM (T_kn tJ_8) j_7 kB (T_kn tJ_8 j_7 kB))) 1), zzI cy (rO 2) 5 (onR (T_setkn tJ_8 (updM (T_kn tJ_8) j_7 kB (T_kn tJ_8 j_7 kB))) 2), zzI cy (rO 3) 5 (onR (T_setkn tJ_8 (updM (T_kn tJ_8) j_7 kB (T_kn tJ_8 j_7 kB))) 3), zzI cy (rO 4) 5 (onR (T_setkn tJ_8 (updM (T_kn tJ_8) j_7 kB (T_kn tJ_8 j_7 kB))) 4), zzI cy (rO 5) 5 (onR (T_setkn tJ_8 (updM (T_kn tJ_8) j_7 kB (T_kn tJ_8 j_7 kB))) 5), zzI cy (rO 6) 5 (onR (T_setkn tJ_8 (updM (T_kn tJ_8) j_7 kB (T_kn tJ_8 j_7 kB))) 6), zzI cy (rO 7) 5 (onR (T_setkn tJ_8 (updM (T_kn tJ_8) j_7 kB (T_kn tJ_8 j_7 kB))) 7), zzG cy 3 qmK rK, zzI cy (rK 0) 8 (T_kn (T_setkn tJ_8 (updM (T_kn tJ_8) j_7 kB (T_kn tJ_8 j_7 kB))) 0), zzI cy (rK 1) 8 (T_kn (T_setkn tJ_8 (updM (T_kn tJ_8) j_7 kB (T_kn tJ_8 j_7 kB))) 1), zzI cy (rK 2) 8 (T_kn (T_setkn tJ_8 (updM (T_kn tJ_8) j_7 kB (T_kn tJ_8 j_7 kB))) 2), zzI cy (rK 3) 8 (T_kn (T_setkn tJ_8 (updM (T_kn tJ_8) j_7 kB (T_kn tJ_8 j_7 kB))) 3), zzI cy (rK 4) 8 (T_kn (T_setkn tJ_8 (updM (T_kn tJ_8) j_7 kB (T_kn tJ_8 j_7 kB))) 4), zzI cy (rK 5) 8 (T_kn (T_setkn tJ_8 (updM (T_kn tJ_8) j_7 kB (T_kn tJ_8 j_7 kB))) 5), zzI cy (rK 6) 8 (T_kn (T_setkn tJ_8 (updM (T_kn tJ_8) j_7 kB (T_kn tJ_8 j_7 kB))) 6), zzI cy (rK 7) 8 (T_kn (T_setkn tJ_8 (updM (T_kn tJ_8) j_7 kB (T_kn tJ_8 j_7 kB))) 7)]) (k := j_7) (g1 := T_kn (T_setkn tJ_8 (updM (T_kn tJ_8) j_7 kB (T_kn tJ_8 j_7 kB))) j_7) hP hD (sg8 (n0 := 20) (f := (fun j => zzI cy (rK j) 8 (T_kn tJ_8 j))) rfl rfl rfl rfl rfl rfl rfl rfl) (sg8 (n0 := 20) (f := (fun j => zzI cy (rK j) 8 (T_kn (T_setkn tJ_8 (updM (T_kn tJ_8) j_7 kB (T_kn tJ_8 j_7 kB))) j))) rfl rfl rfl rfl rfl rfl rfl rfl) rfl rfl (by omega) rfl (fun i _ => (congrFun (kn_u tJ_8 j_7 kB (T_kn tJ_8 j_7 kB)) i).symm) (fun j hj => congrArg (zzI cy (rK j) 8) (kn_n tJ_8 j_7 kB (T_kn tJ_8 j_7 kB) hj))
                  clear hP hD
                  obtain ⟨hP, hD⟩ := hPD
                  refine lv_iinc (v := nI (j_7 + 1)) (lv' := [(5, .int (nI (j_7 + 1))), (4, .int (xC_9 + 1)), (6, .int (zgr ((T_kn tJ_8 kI kB) / 2) (zgd tJ_8 j_7 kB))), (0, .ref qm), (1, .int (nI kI)), (2, .int (nI kB)), (3, .int iS)]) hx hb dX6_readsTo_125 hl (k := 2) rfl (nI_1 _) (by decide +kernel) rfl (fun ls => ?_)
                  clear hl
                  intro hl
                  refine lv_goto (tgt := 12) hx hb dX6_readsTo_128 (by decide +kernel) ?_
                  exact ih_6 (j_7 + 1) (T_setkn tJ_8 (updM (T_kn tJ_8) j_7 kB (T_kn tJ_8 j_7 kB))) (xC_9 + 1) (by omega) (by omega) (⟨TI_kn hT_11.1 (hT_11.1.2.1 _ _), hT_11.2⟩) _ _ _ hP hD hS (lv_sub hl [0, 1, 3, 4, 5, 6] rfl)
                · refine lv_iload hx hb (g_21 (v := 6) bX6_readsTo rfl) (lv_at hl 1 rfl) ?_
                  refine lv_goto (tgt := 124) hx hb dX6_readsTo_112 (by decide +kernel) ?_
                  refine va_iast hx hb hK hP hD hS (20 + j_7) 0 ((sg8 (n0 := 20) (f := (fun j => zzI cy (rK j) 8 (T_kn tJ_8 j))) rfl rfl rfl rfl rfl rfl rfl rfl) j_7 (by omega)) rfl (vp_in_nI (by omega) (by omega)) (g_79 bX6_readsTo rfl) (fun H locs => ?_)
                  clear hP hD hS
                  intro hP hD hS
                  rw [nI_clamp (n := kB) (by omega)] at hP hD
                  have hPD := st8PD (ws' := [zzO qm 5 (v0 :: v1 :: v2 :: v3 :: v4 :: v5 :: v6 :: v7 :: v8 :: v9 :: .int (nI (T_nb (T_setkn tJ_8 (updM (T_kn tJ_8) j_7 kB (zgr ((T_kn tJ_8 kI kB) / 2) (zgd tJ_8 j_7 kB)))))) :: .ref qmB :: .int (nI (T_np (T_setkn tJ_8 (updM (T_kn tJ_8) j_7 kB (zgr ((T_kn tJ_8 kI kB) / 2) (zgd tJ_8 j_7 kB)))))) :: .ref qmO :: .ref qmK :: .int iEn :: .int iTk :: .int (T_sd (T_setkn tJ_8 (updM (T_kn tJ_8) j_7 kB (zgr ((T_kn tJ_8 kI kB) / 2) (zgd tJ_8 j_7 kB))))) :: v18 :: v19 :: v20 :: v21 :: v22 :: v23 :: v24 :: v25 :: v26 :: .int iLv :: .int iWs :: v29 :: v30 :: v31 :: v32 :: v33 :: v34 :: []), zzG cy 3 qmB rB, zzI cy (rB 0) 4 (bkR (T_setkn tJ_8 (updM (T_kn tJ_8) j_7 kB (zgr ((T_kn tJ_8 kI kB) / 2) (zgd tJ_8 j_7 kB)))) 0), zzI cy (rB 1) 4 (bkR (T_setkn tJ_8 (updM (T_kn tJ_8) j_7 kB (zgr ((T_kn tJ_8 kI kB) / 2) (zgd tJ_8 j_7 kB)))) 1), zzI cy (rB 2) 4 (bkR (T_setkn tJ_8 (updM (T_kn tJ_8) j_7 kB (zgr ((T_kn tJ_8 kI kB) / 2) (zgd tJ_8 j_7 kB)))) 2), zzI cy (rB 3) 4 (bkR (T_setkn tJ_8 (updM (T_kn tJ_8) j_7 kB (zgr ((T_kn tJ_8 kI kB) / 2) (zgd tJ_8 j_7 kB)))) 3), zzI cy (rB 4) 4 (bkR (T_setkn tJ_8 (updM (T_kn tJ_8) j_7 kB (zgr ((T_kn tJ_8 kI kB) / 2) (zgd tJ_8 j_7 kB)))) 4), zzI cy (rB 5) 4 (bkR (T_setkn tJ_8 (updM (T_kn tJ_8) j_7 kB (zgr ((T_kn tJ_8 kI kB) / 2) (zgd tJ_8 j_7 kB)))) 5), zzI cy (rB 6) 4 (bkR (T_setkn tJ_8 (updM (T_kn tJ_8) j_7 kB (zgr ((T_kn tJ_8 kI kB) / 2) (zgd tJ_8 j_7 kB)))) 6), zzI cy (rB 7) 4 (bkR (T_setkn tJ_8 (updM (T_kn tJ_8) j_7 kB (zgr ((T_kn tJ_8 kI kB) / 2) (zgd tJ_8 j_7 kB)))) 7), zzG cy 3 qmO rO, zzI cy (rO 0) 5 (onR (T_setkn tJ_8 (updM (T_kn tJ_8) j_7 kB (zgr ((T_kn tJ_8 kI kB) / 2) (zgd tJ_8 j_7 kB)))) 0), zzI cy (rO 1) 5 (onR (T_setkn tJ_8 (updM (T_kn tJ_8) j_7 kB (zgr ((T_kn tJ_8 kI kB) / 2) (zgd tJ_8 j_7 kB)))) 1), zzI cy (rO 2) 5 (onR (T_setkn tJ_8 (updM (T_kn tJ_8) j_7 kB (zgr ((T_kn tJ_8 kI kB) / 2) (zgd tJ_8 j_7 kB)))) 2), zzI cy (rO 3) 5 (onR (T_setkn tJ_8 (updM (T_kn tJ_8) j_7 kB (zgr ((T_kn tJ_8 kI kB) / 2) (zgd tJ_8 j_7 kB)))) 3), zzI cy (rO 4) 5 (onR (T_setkn tJ_8 (updM (T_kn tJ_8) j_7 kB (zgr ((T_kn tJ_8 kI kB) / 2) (zgd tJ_8 j_7 kB)))) 4), zzI cy (rO 5) 5 (onR (T_setkn tJ_8 (updM (T_kn tJ_8) j_7 kB (zgr ((T_kn tJ_8 kI kB) / 2) (zgd tJ_8 j_7 kB)))) 5), zzI cy (rO 6) 5 (onR (T_setkn tJ_8 (updM (T_kn tJ_8) j_7 kB (zgr ((T_kn tJ_8 kI kB) / 2) (zgd tJ_8 j_7 kB)))) 6), zzI cy (rO 7) 5 (onR (T_setkn tJ_8 (updM (T_kn tJ_8) j_7 kB (zgr ((T_kn tJ_8 kI kB) / 2) (zgd tJ_8 j_7 kB)))) 7), zzG cy 3 qmK rK, zzI cy (rK 0) 8 (T_kn (T_setkn tJ_8 (updM (T_kn tJ_8) j_7 kB (zgr ((T_kn tJ_8 kI kB) / 2) (zgd tJ_8 j_7 kB)))) 0), zzI cy (rK 1) 8 (T_kn (T_setkn tJ_8 (updM (T_kn tJ_8) j_7 kB (zgr ((T_kn tJ_8 kI kB) / 2) (zgd tJ_8 j_7 kB)))) 1), zzI cy (rK 2) 8 (T_kn (T_setkn tJ_8 (updM (T_kn tJ_8) j_7 kB (zgr ((T_kn tJ_8 kI kB) / 2) (zgd tJ_8 j_7 kB)))) 2), zzI cy (rK 3) 8 (T_kn (T_setkn tJ_8 (updM (T_kn tJ_8) j_7 kB (zgr ((T_kn tJ_8 kI kB) / 2) (zgd tJ_8 j_7 kB)))) 3), zzI cy (rK 4) 8 (T_kn (T_setkn tJ_8 (updM (T_kn tJ_8) j_7 kB (zgr ((T_kn tJ_8 kI kB) / 2) (zgd tJ_8 j_7 kB)))) 4), zzI cy (rK 5) 8 (T_kn (T_setkn tJ_8 (updM (T_kn tJ_8) j_7 kB (zgr ((T_kn tJ_8 kI kB) / 2) (zgd tJ_8 j_7 kB)))) 5), zzI cy (rK 6) 8 (T_kn (T_setkn tJ_8 (updM (T_kn tJ_8) j_7 kB (zgr ((T_kn tJ_8 kI kB) / 2) (zgd tJ_8 j_7 kB)))) 6), zzI cy (rK 7) 8 (T_kn (T_setkn tJ_8 (updM (T_kn tJ_8) j_7 kB (zgr ((T_kn tJ_8 kI kB) / 2) (zgd tJ_8 j_7 kB)))) 7)]) (k := j_7) (g1 := T_kn (T_setkn tJ_8 (updM (T_kn tJ_8) j_7 kB (zgr ((T_kn tJ_8 kI kB) / 2) (zgd tJ_8 j_7 kB)))) j_7) hP hD (sg8 (n0 := 20) (f := (fun j => zzI cy (rK j) 8 (T_kn tJ_8 j))) rfl rfl rfl rfl rfl rfl rfl rfl) (sg8 (n0 := 20) (f := (fun j => zzI cy (rK j) 8 (T_kn (T_setkn tJ_8 (updM (T_kn tJ_8) j_7 kB (zgr ((T_kn tJ_8 kI kB) / 2) (zgd tJ_8 j_7 kB)))) j))) rfl rfl rfl rfl rfl rfl rfl rfl) rfl rfl (by omega) rfl (fun i _ => (congrFun (kn_u tJ_8 j_7 kB (zgr ((T_kn tJ_8 kI kB) / 2) (zgd tJ_8 j_7 kB))) i).symm) (fun j hj => congrArg (zzI cy (rK j) 8) (kn_n tJ_8 j_7 kB (zgr ((T_kn tJ_8 kI kB) / 2) (zgd tJ_8 j_7 kB)) hj))
                  clear hP hD
                  obtain ⟨hP, hD⟩ := hPD
                  refine lv_iinc (v := nI (j_7 + 1)) (lv' := [(5, .int (nI (j_7 + 1))), (4, .int (xC_9 + 1)), (6, .int (zgr ((T_kn tJ_8 kI kB) / 2) (zgd tJ_8 j_7 kB))), (0, .ref qm), (1, .int (nI kI)), (2, .int (nI kB)), (3, .int iS)]) hx hb dX6_readsTo_125 hl (k := 2) rfl (nI_1 _) (by decide +kernel) rfl (fun ls => ?_)
                  clear hl
                  intro hl
                  refine lv_goto (tgt := 12) hx hb dX6_readsTo_128 (by decide +kernel) ?_
                  exact ih_6 (j_7 + 1) (T_setkn tJ_8 (updM (T_kn tJ_8) j_7 kB (zgr ((T_kn tJ_8 kI kB) / 2) (zgd tJ_8 j_7 kB)))) (xC_9 + 1) (by omega) (by omega) (⟨TI_kn hT_11.1 (r_gr (r_half (hT_11.1.2.1 _ _)) (r_gd (hT_11.1.2.1 _) _)), hT_11.2⟩) _ _ _ hP hD hS (lv_sub hl [0, 1, 3, 4, 5, 6] rfl)
          · refine lv_if_eq (tgt := 125) hx hb dX6_readsTo_33 (by decide +kernel) (fun _ => ?_) (fun h9 => absurd (by decide +kernel) h9)
            refine lv_iinc (v := nI (j_7 + 1)) (lv' := [(5, .int (nI (j_7 + 1))), (4, .int xC_9), (0, .ref qm), (1, .int (nI kI)), (2, .int (nI kB)), (3, .int iS)]) hx hb dX6_readsTo_125 hl (k := 0) rfl (nI_1 _) (by decide +kernel) rfl (fun ls => ?_)
            clear hl
            intro hl
            refine lv_goto (tgt := 12) hx hb dX6_readsTo_128 (by decide +kernel) ?_
            exact ih_6 (j_7 + 1) tJ_8 xC_9 (by omega) (by omega) hT_11 _ _ _ hP hD hS (lv_sub hl [0, 1, 2, 3, 4, 5] rfl)
  exact lp_4 ((8 - 0) + 1) 0 (rdT tA kI kB) 0 (Nat.lt_succ_self _) (Nat.zero_le _) (⟨TI_rd hTI _ _, rfl, rfl⟩) _ _ ls hP hD hS (lv_sub hl [0, 1, 2, 3, 4, 5] rfl)
set_option maxHeartbeats 4000000 in
set_option maxRecDepth 100000 in
theorem c_X6_readMost (l : Launch) (G : va_G) (cy : Nat → ClassId) (sz : Nat) (qm : Nat) (v0 : Value) (v1 : Value) (v2 : Value) (v3 : Value) (v4 : Value) (v5 : Value) (v6 : Value) (v7 : Value) (v8 : Value) (v9 : Value) (tA : TA) (qmB : Nat) (qmO : Nat) (qmK : Nat) (iEn : Int32) (iTk : Int32) (v18 : Value) (v19 : Value) (v20 : Value) (v21 : Value) (v22 : Value) (v23 : Value) (v24 : Value) (v25 : Value) (v26 : Value) (iLv : Int32) (iWs : Int32) (v29 : Value) (v30 : Value) (v31 : Value) (v32 : Value) (v33 : Value) (v34 : Value) (rB : Nat → Nat) (rO : Nat → Nat) (rK : Nat → Nat) (kM : Nat) (iL : Int32)  (hB : T_nb tA ≤ 8) (hPp : T_np tA ≤ 8) (hTI : TI tA) (hM : kM ≤ 99) : MW l yX6_readMost cX6_readMost 6 (some .int) 6 0 0 G cy [zzO qm 5 (v0 :: v1 :: v2 :: v3 :: v4 :: v5 :: v6 :: v7 :: v8 :: v9 :: .int (nI (T_nb tA)) :: .ref qmB :: .int (nI (T_np tA)) :: .ref qmO :: .ref qmK :: .int iEn :: .int iTk :: .int (T_sd tA) :: v18 :: v19 :: v20 :: v21 :: v22 :: v23 :: v24 :: v25 :: v26 :: .int iLv :: .int iWs :: v29 :: v30 :: v31 :: v32 :: v33 :: v34 :: []), zzG cy 3 qmB rB, zzI cy (rB 0) 4 (bkR tA 0), zzI cy (rB 1) 4 (bkR tA 1), zzI cy (rB 2) 4 (bkR tA 2), zzI cy (rB 3) 4 (bkR tA 3), zzI cy (rB 4) 4 (bkR tA 4), zzI cy (rB 5) 4 (bkR tA 5), zzI cy (rB 6) 4 (bkR tA 6), zzI cy (rB 7) 4 (bkR tA 7), zzG cy 3 qmO rO, zzI cy (rO 0) 5 (onR tA 0), zzI cy (rO 1) 5 (onR tA 1), zzI cy (rO 2) 5 (onR tA 2), zzI cy (rO 3) 5 (onR tA 3), zzI cy (rO 4) 5 (onR tA 4), zzI cy (rO 5) 5 (onR tA 5), zzI cy (rO 6) 5 (onR tA 6), zzI cy (rO 7) 5 (onR tA 7), zzG cy 3 qmK rK, zzI cy (rK 0) 8 (T_kn tA 0), zzI cy (rK 1) 8 (T_kn tA 1), zzI cy (rK 2) 8 (T_kn tA 2), zzI cy (rK 3) 8 (T_kn tA 3), zzI cy (rK 4) 8 (T_kn tA 4), zzI cy (rK 5) 8 (T_kn tA 5), zzI cy (rK 6) 8 (T_kn tA 6), zzI cy (rK 7) 8 (T_kn tA 7)] sz [.ref qm, .int (nI kM), .int iL] (Wi G (fun r u => ∃ (tX : TA), u = [zzO qm 5 (v0 :: v1 :: v2 :: v3 :: v4 :: v5 :: v6 :: v7 :: v8 :: v9 :: .int (nI (T_nb tX)) :: .ref qmB :: .int (nI (T_np tX)) :: .ref qmO :: .ref qmK :: .int iEn :: .int iTk :: .int (T_sd tX) :: v18 :: v19 :: v20 :: v21 :: v22 :: v23 :: v24 :: v25 :: v26 :: .int iLv :: .int iWs :: v29 :: v30 :: v31 :: v32 :: v33 :: v34 :: []), zzG cy 3 qmB rB, zzI cy (rB 0) 4 (bkR tX 0), zzI cy (rB 1) 4 (bkR tX 1), zzI cy (rB 2) 4 (bkR tX 2), zzI cy (rB 3) 4 (bkR tX 3), zzI cy (rB 4) 4 (bkR tX 4), zzI cy (rB 5) 4 (bkR tX 5), zzI cy (rB 6) 4 (bkR tX 6), zzI cy (rB 7) 4 (bkR tX 7), zzG cy 3 qmO rO, zzI cy (rO 0) 5 (onR tX 0), zzI cy (rO 1) 5 (onR tX 1), zzI cy (rO 2) 5 (onR tX 2), zzI cy (rO 3) 5 (onR tX 3), zzI cy (rO 4) 5 (onR tX 4), zzI cy (rO 5) 5 (onR tX 5), zzI cy (rO 6) 5 (onR tX 6), zzI cy (rO 7) 5 (onR tX 7), zzG cy 3 qmK rK, zzI cy (rK 0) 8 (T_kn tX 0), zzI cy (rK 1) 8 (T_kn tX 1), zzI cy (rK 2) 8 (T_kn tX 2), zzI cy (rK 3) 8 (T_kn tX 3), zzI cy (rK 4) 8 (T_kn tX 4), zzI cy (rK 5) 8 (T_kn tX 5), zzI cy (rK 6) 8 (T_kn tX 6), zzI cy (rK 7) 8 (T_kn tX 7)] ∧ (TI tX ∧ T_nb tX = T_nb tA ∧ T_np tX = T_np tA) ∧ (True))) := by
  refine enW RX6 (by decide +kernel) rfl (Nat.le_of_ble_eq_true rfl) (fun p e s m below meth c ls A hx hb hml hown hts hr hlocks hP hN hl hin hD hA hS => ?_)
  have hin : meth.name = _ := hin
  have hK := hN.1
  replace hl : lv_has ls 6 [(0, .ref qm), (1, .int (nI kM)), (2, .int iL)] := hl
  refine lv_iconst (v := 0) hx hb (g_3 bX6_readMost rfl) (by decide +kernel) ?_
  refine lv_istore_n (lv' := [(3, .int 0), (0, .ref qm), (1, .int (nI kM)), (2, .int iL)]) hx hb (g_62 bX6_readMost rfl) rfl hl (by decide +kernel) rfl (fun ls => ?_)
  clear hl
  intro hl
  have lp_1 : ∀ (n_2 : Nat) (j_4 : Nat) (tJ_5 : TA), 99 - j_4 < n_2 → j_4 ≤ kM → TI tJ_5 ∧ T_nb tJ_5 = T_nb tA ∧ T_np tJ_5 = T_np tA → ∀ (H : Heap) (locs : List Loc) (ls : Array Slot), va_P G CL [zzO qm 5 (v0 :: v1 :: v2 :: v3 :: v4 :: v5 :: v6 :: v7 :: v8 :: v9 :: .int (nI (T_nb tJ_5)) :: .ref qmB :: .int (nI (T_np tJ_5)) :: .ref qmO :: .ref qmK :: .int iEn :: .int iTk :: .int (T_sd tJ_5) :: v18 :: v19 :: v20 :: v21 :: v22 :: v23 :: v24 :: v25 :: v26 :: .int iLv :: .int iWs :: v29 :: v30 :: v31 :: v32 :: v33 :: v34 :: []), zzG cy 3 qmB rB, zzI cy (rB 0) 4 (bkR tJ_5 0), zzI cy (rB 1) 4 (bkR tJ_5 1), zzI cy (rB 2) 4 (bkR tJ_5 2), zzI cy (rB 3) 4 (bkR tJ_5 3), zzI cy (rB 4) 4 (bkR tJ_5 4), zzI cy (rB 5) 4 (bkR tJ_5 5), zzI cy (rB 6) 4 (bkR tJ_5 6), zzI cy (rB 7) 4 (bkR tJ_5 7), zzG cy 3 qmO rO, zzI cy (rO 0) 5 (onR tJ_5 0), zzI cy (rO 1) 5 (onR tJ_5 1), zzI cy (rO 2) 5 (onR tJ_5 2), zzI cy (rO 3) 5 (onR tJ_5 3), zzI cy (rO 4) 5 (onR tJ_5 4), zzI cy (rO 5) 5 (onR tJ_5 5), zzI cy (rO 6) 5 (onR tJ_5 6), zzI cy (rO 7) 5 (onR tJ_5 7), zzG cy 3 qmK rK, zzI cy (rK 0) 8 (T_kn tJ_5 0), zzI cy (rK 1) 8 (T_kn tJ_5 1), zzI cy (rK 2) 8 (T_kn tJ_5 2), zzI cy (rK 3) 8 (T_kn tJ_5 3), zzI cy (rK 4) 8 (T_kn tJ_5 4), zzI cy (rK 5) 8 (T_kn tJ_5 5), zzI cy (rK 6) 8 (T_kn tJ_5 6), zzI cy (rK 7) 8 (T_kn tJ_5 7)] H → va_D A [zzO qm 5 (v0 :: v1 :: v2 :: v3 :: v4 :: v5 :: v6 :: v7 :: v8 :: v9 :: .int (nI (T_nb tJ_5)) :: .ref qmB :: .int (nI (T_np tJ_5)) :: .ref qmO :: .ref qmK :: .int iEn :: .int iTk :: .int (T_sd tJ_5) :: v18 :: v19 :: v20 :: v21 :: v22 :: v23 :: v24 :: v25 :: v26 :: .int iLv :: .int iWs :: v29 :: v30 :: v31 :: v32 :: v33 :: v34 :: []), zzG cy 3 qmB rB, zzI cy (rB 0) 4 (bkR tJ_5 0), zzI cy (rB 1) 4 (bkR tJ_5 1), zzI cy (rB 2) 4 (bkR tJ_5 2), zzI cy (rB 3) 4 (bkR tJ_5 3), zzI cy (rB 4) 4 (bkR tJ_5 4), zzI cy (rB 5) 4 (bkR tJ_5 5), zzI cy (rB 6) 4 (bkR tJ_5 6), zzI cy (rB 7) 4 (bkR tJ_5 7), zzG cy 3 qmO rO, zzI cy (rO 0) 5 (onR tJ_5 0), zzI cy (rO 1) 5 (onR tJ_5 1), zzI cy (rO 2) 5 (onR tJ_5 2), zzI cy (rO 3) 5 (onR tJ_5 3), zzI cy (rO 4) 5 (onR tJ_5 4), zzI cy (rO 5) 5 (onR tJ_5 5), zzI cy (rO 6) 5 (onR tJ_5 6), zzI cy (rO 7) 5 (onR tJ_5 7), zzG cy 3 qmK rK, zzI cy (rK 0) 8 (T_kn tJ_5 0), zzI cy (rK 1) 8 (T_kn tJ_5 1), zzI cy (rK 2) 8 (T_kn tJ_5 2), zzI cy (rK 3) 8 (T_kn tJ_5 3), zzI cy (rK 4) 8 (T_kn tJ_5 4), zzI cy (rK 5) 8 (T_kn tJ_5 5), zzI cy (rK 6) 8 (T_kn tJ_5 6), zzI cy (rK 7) 8 (T_kn tJ_5 7)] → va_S A s.heap H locs → lv_has ls 6 [(3, .int (nI j_4)), (0, .ref qm), (1, .int (nI kM)), (2, .int iL)] → W p l e (Rm 6 0 0) s m (List.toArray (α := Value) [.ref qm, .int (nI kM), .int iL]) below meth c H locs 0 0 (MQ below ((Wi G (fun r u => ∃ (tX : TA), u = [zzO qm 5 (v0 :: v1 :: v2 :: v3 :: v4 :: v5 :: v6 :: v7 :: v8 :: v9 :: .int (nI (T_nb tX)) :: .ref qmB :: .int (nI (T_np tX)) :: .ref qmO :: .ref qmK :: .int iEn :: .int iTk :: .int (T_sd tX) :: v18 :: v19 :: v20 :: v21 :: v22 :: v23 :: v24 :: v25 :: v26 :: .int iLv :: .int iWs :: v29 :: v30 :: v31 :: v32 :: v33 :: v34 :: []), zzG cy 3 qmB rB, zzI cy (rB 0) 4 (bkR tX 0), zzI cy (rB 1) 4 (bkR tX 1), zzI cy (rB 2) 4 (bkR tX 2), zzI cy (rB 3) 4 (bkR tX 3), zzI cy (rB 4) 4 (bkR tX 4), zzI cy (rB 5) 4 (bkR tX 5), zzI cy (rB 6) 4 (bkR tX 6), zzI cy (rB 7) 4 (bkR tX 7), zzG cy 3 qmO rO, zzI cy (rO 0) 5 (onR tX 0), zzI cy (rO 1) 5 (onR tX 1), zzI cy (rO 2) 5 (onR tX 2), zzI cy (rO 3) 5 (onR tX 3), zzI cy (rO 4) 5 (onR tX 4), zzI cy (rO 5) 5 (onR tX 5), zzI cy (rO 6) 5 (onR tX 6), zzI cy (rO 7) 5 (onR tX 7), zzG cy 3 qmK rK, zzI cy (rK 0) 8 (T_kn tX 0), zzI cy (rK 1) 8 (T_kn tX 1), zzI cy (rK 2) 8 (T_kn tX 2), zzI cy (rK 3) 8 (T_kn tX 3), zzI cy (rK 4) 8 (T_kn tX 4), zzI cy (rK 5) 8 (T_kn tX 5), zzI cy (rK 6) 8 (T_kn tX 6), zzI cy (rK 7) 8 (T_kn tX 7)] ∧ (TI tX ∧ T_nb tX = T_nb tA ∧ T_np tX = T_np tA) ∧ (True))) A) (List.toArray (α := Value) [.ref qm, .int (nI kM), .int iL]) s 0 0 A) (F0 m 2 ls []) := by
    intro n_2
    induction n_2 with
    | zero => intro j_4 tJ_5 hm9; exact absurd hm9 (Nat.not_lt_zero _)
    | succ n_2 ih_3 =>
      intro j_4 tJ_5 hm_8 hj_6 hT_7 H locs ls hP hD hS hl
      refine lv_iload_n hx hb (g_29 bX6_readMost rfl) rfl (lv_at hl 0 rfl) ?_
      refine lv_iload_n hx hb (g_27 bX6_readMost rfl) rfl (lv_at hl 2 rfl) ?_
      refine lv_icmp_ge (tgt := 123) hx hb dX6_readMost_4 (by decide +kernel) (fun c_9 => ?_) (fun c_9 => ?_)
      · refine lv_iload_n hx hb (g_29 bX6_readMost rfl) rfl (lv_at hl 0 rfl) ?_
        exact endWs [[true, true, true, true, true, true, true, true, true, true, true, true, true, true, true, true, true, true, true, true, true, true, true, true, true, true, true, true]] hx hb hr hlocks rfl hP hD rfl (by decide +kernel) hS ⟨tJ_5, rfl, hT_7, trivial⟩ (g_172 bX6_readMost rfl)
      · have hlt_11 : j_4 < kM := lp_lt rfl rfl (by omega) (by omega) c_9
        obtain ⟨hlt_11i, hlt_11b, hlt_11p⟩ := id hT_7
        refine lv_aload_n hx hb (g_42 bX6_readMost rfl) rfl (lv_at hl 1 rfl) ?_
        refine kRi (rV (As := []) (rest := []) (b := qm) ⟨hx, hb, hml, hown, hts⟩ (c_X6_thereMany l G cy qm v0 v1 v2 v3 v4 v5 v6 v7 v8 v9 tJ_5 qmB qmO qmK iEn iTk v18 v19 v20 v21 v22 v23 v24 v25 v26 iLv iWs v29 v30 v31 v32 v33 v34 rO (by first | omega | (simp only [nb_sr, np_sr, nb_wr, np_wr, nb_rd, np_rd, nb_ch, np_ch, nb_zr, np_zr, nb_za, np_za, nb_ey, np_ey, nb_hf, np_hf, nb_dd, np_dd, nb_so, np_so, nb_skn, np_skn, nb_swh, np_swh, nb_sgn, np_sgn, nb_ssd, np_ssd, nb_sgo, np_sgo, nb_sag, np_sag]; omega))) L_X6_275 (preRV (q := (RX6, TX6, 35)) hN hP (trueIx 0 [true, false, false, false, false, false, false, false, false, false, true, true, true, true, true, true, true, true, true]) (sel_fm rfl rfl) 0 5 rfl rfl) rfl ⟨Nat.le_of_ble_eq_true rfl, Nat.le_of_ble_eq_true rfl⟩ hl.1 (Nat.le_of_ble_eq_true rfl) (g_182 (v := 275) bX6_readMost rfl) ⟨Nat.le_of_ble_eq_true rfl, Nat.le_of_ble_eq_true rfl⟩) (fun r_12 h_13 => ?_)
        subst h_13
        refine lv_if_le (tgt := 123) hx hb dX6_readMost_11 (by decide +kernel) (fun c_14 => ?_) (fun c_14 => ?_)
        · refine lv_iload_n hx hb (g_29 bX6_readMost rfl) rfl (lv_at hl 0 rfl) ?_
          exact endWs [[true, true, true, true, true, true, true, true, true, true, true, true, true, true, true, true, true, true, true, true, true, true, true, true, true, true, true, true]] hx hb hr hlocks rfl hP hD rfl (by decide +kernel) hS ⟨tJ_5, rfl, hT_7, trivial⟩ (g_172 bX6_readMost rfl)
        · refine lv_iconst (v := (-1)) hx hb (g_2 bX6_readMost rfl) (by decide +kernel) ?_
          refine lv_istore (lv' := [(4, .int (-1)), (3, .int (nI j_4)), (0, .ref qm), (1, .int (nI kM)), (2, .int iL)]) hx hb (g_54 (v := 4) bX6_readMost rfl) hl (by decide +kernel) rfl (fun ls => ?_)
          clear hl
          intro hl
          refine lv_iconst (v := 0) hx hb (g_3 bX6_readMost rfl) (by decide +kernel) ?_
          refine lv_istore (lv' := [(5, .int 0), (4, .int (-1)), (3, .int (nI j_4)), (0, .ref qm), (1, .int (nI kM)), (2, .int iL)]) hx hb (g_54 (v := 5) bX6_readMost rfl) hl (by decide +kernel) rfl (fun ls => ?_)
          clear hl
          intro hl
          have lp_15 : ∀ (n_16 : Nat) (m_18 : Nat) (xB_19 : Int32), 8 - m_18 < n_16 → m_18 ≤ T_nb tA → xB_19 = duF tJ_5 m_18 → ∀ (H : Heap) (locs : List Loc) (ls : Array Slot), va_P G CL [zzO qm 5 (v0 :: v1 :: v2 :: v3 :: v4 :: v5 :: v6 :: v7 :: v8 :: v9 :: .int (nI (T_nb tJ_5)) :: .ref qmB :: .int (nI (T_np tJ_5)) :: .ref qmO :: .ref qmK :: .int iEn :: .int iTk :: .int (T_sd tJ_5) :: v18 :: v19 :: v20 :: v21 :: v22 :: v23 :: v24 :: v25 :: v26 :: .int iLv :: .int iWs :: v29 :: v30 :: v31 :: v32 :: v33 :: v34 :: []), zzG cy 3 qmB rB, zzI cy (rB 0) 4 (bkR tJ_5 0), zzI cy (rB 1) 4 (bkR tJ_5 1), zzI cy (rB 2) 4 (bkR tJ_5 2), zzI cy (rB 3) 4 (bkR tJ_5 3), zzI cy (rB 4) 4 (bkR tJ_5 4), zzI cy (rB 5) 4 (bkR tJ_5 5), zzI cy (rB 6) 4 (bkR tJ_5 6), zzI cy (rB 7) 4 (bkR tJ_5 7), zzG cy 3 qmO rO, zzI cy (rO 0) 5 (onR tJ_5 0), zzI cy (rO 1) 5 (onR tJ_5 1), zzI cy (rO 2) 5 (onR tJ_5 2), zzI cy (rO 3) 5 (onR tJ_5 3), zzI cy (rO 4) 5 (onR tJ_5 4), zzI cy (rO 5) 5 (onR tJ_5 5), zzI cy (rO 6) 5 (onR tJ_5 6), zzI cy (rO 7) 5 (onR tJ_5 7), zzG cy 3 qmK rK, zzI cy (rK 0) 8 (T_kn tJ_5 0), zzI cy (rK 1) 8 (T_kn tJ_5 1), zzI cy (rK 2) 8 (T_kn tJ_5 2), zzI cy (rK 3) 8 (T_kn tJ_5 3), zzI cy (rK 4) 8 (T_kn tJ_5 4), zzI cy (rK 5) 8 (T_kn tJ_5 5), zzI cy (rK 6) 8 (T_kn tJ_5 6), zzI cy (rK 7) 8 (T_kn tJ_5 7)] H → va_D A [zzO qm 5 (v0 :: v1 :: v2 :: v3 :: v4 :: v5 :: v6 :: v7 :: v8 :: v9 :: .int (nI (T_nb tJ_5)) :: .ref qmB :: .int (nI (T_np tJ_5)) :: .ref qmO :: .ref qmK :: .int iEn :: .int iTk :: .int (T_sd tJ_5) :: v18 :: v19 :: v20 :: v21 :: v22 :: v23 :: v24 :: v25 :: v26 :: .int iLv :: .int iWs :: v29 :: v30 :: v31 :: v32 :: v33 :: v34 :: []), zzG cy 3 qmB rB, zzI cy (rB 0) 4 (bkR tJ_5 0), zzI cy (rB 1) 4 (bkR tJ_5 1), zzI cy (rB 2) 4 (bkR tJ_5 2), zzI cy (rB 3) 4 (bkR tJ_5 3), zzI cy (rB 4) 4 (bkR tJ_5 4), zzI cy (rB 5) 4 (bkR tJ_5 5), zzI cy (rB 6) 4 (bkR tJ_5 6), zzI cy (rB 7) 4 (bkR tJ_5 7), zzG cy 3 qmO rO, zzI cy (rO 0) 5 (onR tJ_5 0), zzI cy (rO 1) 5 (onR tJ_5 1), zzI cy (rO 2) 5 (onR tJ_5 2), zzI cy (rO 3) 5 (onR tJ_5 3), zzI cy (rO 4) 5 (onR tJ_5 4), zzI cy (rO 5) 5 (onR tJ_5 5), zzI cy (rO 6) 5 (onR tJ_5 6), zzI cy (rO 7) 5 (onR tJ_5 7), zzG cy 3 qmK rK, zzI cy (rK 0) 8 (T_kn tJ_5 0), zzI cy (rK 1) 8 (T_kn tJ_5 1), zzI cy (rK 2) 8 (T_kn tJ_5 2), zzI cy (rK 3) 8 (T_kn tJ_5 3), zzI cy (rK 4) 8 (T_kn tJ_5 4), zzI cy (rK 5) 8 (T_kn tJ_5 5), zzI cy (rK 6) 8 (T_kn tJ_5 6), zzI cy (rK 7) 8 (T_kn tJ_5 7)] → va_S A s.heap H locs → lv_has ls 6 [(5, .int (nI m_18)), (4, .int xB_19), (3, .int (nI j_4)), (0, .ref qm), (1, .int (nI kM)), (2, .int iL)] → W p l e (Rm 6 0 0) s m (List.toArray (α := Value) [.ref qm, .int (nI kM), .int iL]) below meth c H locs 0 0 (MQ below ((Wi G (fun r u => ∃ (tX : TA), u = [zzO qm 5 (v0 :: v1 :: v2 :: v3 :: v4 :: v5 :: v6 :: v7 :: v8 :: v9 :: .int (nI (T_nb tX)) :: .ref qmB :: .int (nI (T_np tX)) :: .ref qmO :: .ref qmK :: .int iEn :: .int iTk :: .int (T_sd tX) :: v18 :: v19 :: v20 :: v21 :: v22 :: v23 :: v24 :: v25 :: v26 :: .int iLv :: .int iWs :: v29 :: v30 :: v31 :: v32 :: v33 :: v34 :: []), zzG cy 3 qmB rB, zzI cy (rB 0) 4 (bkR tX 0), zzI cy (rB 1) 4 (bkR tX 1), zzI cy (rB 2) 4 (bkR tX 2), zzI cy (rB 3) 4 (bkR tX 3), zzI cy (rB 4) 4 (bkR tX 4), zzI cy (rB 5) 4 (bkR tX 5), zzI cy (rB 6) 4 (bkR tX 6), zzI cy (rB 7) 4 (bkR tX 7), zzG cy 3 qmO rO, zzI cy (rO 0) 5 (onR tX 0), zzI cy (rO 1) 5 (onR tX 1), zzI cy (rO 2) 5 (onR tX 2), zzI cy (rO 3) 5 (onR tX 3), zzI cy (rO 4) 5 (onR tX 4), zzI cy (rO 5) 5 (onR tX 5), zzI cy (rO 6) 5 (onR tX 6), zzI cy (rO 7) 5 (onR tX 7), zzG cy 3 qmK rK, zzI cy (rK 0) 8 (T_kn tX 0), zzI cy (rK 1) 8 (T_kn tX 1), zzI cy (rK 2) 8 (T_kn tX 2), zzI cy (rK 3) 8 (T_kn tX 3), zzI cy (rK 4) 8 (T_kn tX 4), zzI cy (rK 5) 8 (T_kn tX 5), zzI cy (rK 6) 8 (T_kn tX 6), zzI cy (rK 7) 8 (T_kn tX 7)] ∧ (TI tX ∧ T_nb tX = T_nb tA ∧ T_np tX = T_np tA) ∧ (True))) A) (List.toArray (α := Value) [.ref qm, .int (nI kM), .int iL]) s 0 0 A) (F0 m 20 ls []) := by
            intro n_16
            induction n_16 with
            | zero => intro m_18 xB_19 hm9; exact absurd hm9 (Nat.not_lt_zero _)
            | succ n_16 ih_17 =>
              intro m_18 xB_19 hm_22 hm_22 hxB_21 H locs ls hP hD hS hl
              refine lv_iload hx hb (g_21 (v := 5) bX6_readMost rfl) (lv_at hl 0 rfl) ?_
              refine lv_aload_n hx hb (g_42 bX6_readMost rfl) rfl (lv_at hl 3 rfl) ?_
              refine va_get (D := G) (ci := 5) (v := .int (nI (T_nb tJ_5))) (C := RX6) (T := TX6) (N := 35) hx hb hts iX_X6 hown hK hP 0 rfl rfl 10 (by decide +kernel) (hts _ m_t860) (fun _ h9 => h9) rfl (g_180 (v := 71) bX6_readMost rfl) ?_
              refine lv_icmp_ge (tgt := 80) hx hb dX6_readMost_26 (by decide +kernel) (fun c_23 => ?_) (fun c_23 => ?_)
              · have hlt_24e : T_nb tJ_5 = T_nb tA := hT_7.2.1
                have hlt_24 : m_18 = T_nb tA := Nat.le_antisymm (by omega) (by rw [hlt_24e] at c_23; exact lp_ge rfl rfl (by omega) (by omega) c_23)
                refine lv_iload hx hb (g_21 (v := 4) bX6_readMost rfl) (lv_at hl 1 rfl) ?_
                refine lv_iconst (v := (-1)) hx hb (g_2 bX6_readMost rfl) (by decide +kernel) ?_
                refine lv_icmp_ne (tgt := 88) hx hb dX6_readMost_83 (by decide +kernel) (fun c_25 => ?_) (fun c_25 => ?_)
                · obtain ⟨k_26, hk_27, ek_28⟩ : ∃ k : Nat, k < m_18 ∧ xB_19 = nI k := by
                    rcases du_in tJ_5 m_18 with q | ⟨k, h1, h2⟩
                    · exact absurd (hxB_21.trans q) c_25
                    · exact ⟨k, h1, hxB_21.trans h2⟩
                  rw [ek_28] at hl
                  refine lv_aload_n hx hb (g_42 bX6_readMost rfl) rfl (lv_at hl 3 rfl) ?_
                  refine lv_aload_n hx hb (g_42 bX6_readMost rfl) rfl (lv_at hl 3 rfl) ?_
                  refine lv_iload hx hb (g_21 (v := 4) bX6_readMost rfl) (lv_at hl 1 rfl) ?_
                  refine kRi (rV (As := [.int (nI k_26)]) (rest := [.ref qm]) (b := qm) ⟨hx, hb, hml, hown, hts⟩ (c_X6_readerOf l G cy qm v0 v1 v2 v3 v4 v5 v6 v7 v8 v9 tJ_5 qmB qmO qmK iEn iTk v18 v19 v20 v21 v22 v23 v24 v25 v26 iLv iWs v29 v30 v31 v32 v33 v34 rB rO rK k_26 (by first | omega | (simp only [nb_sr, np_sr, nb_wr, np_wr, nb_rd, np_rd, nb_ch, np_ch, nb_zr, np_zr, nb_za, np_za, nb_ey, np_ey, nb_hf, np_hf, nb_dd, np_dd, nb_so, np_so, nb_skn, np_skn, nb_swh, np_swh, nb_sgn, np_sgn, nb_ssd, np_ssd, nb_sgo, np_sgo, nb_sag, np_sag]; omega)) (by first | omega | (simp only [nb_sr, np_sr, nb_wr, np_wr, nb_rd, np_rd, nb_ch, np_ch, nb_zr, np_zr, nb_za, np_za, nb_ey, np_ey, nb_hf, np_hf, nb_dd, np_dd, nb_so, np_so, nb_skn, np_skn, nb_swh, np_swh, nb_sgn, np_sgn, nb_ssd, np_ssd, nb_sgo, np_sgo, nb_sag, np_sag]; omega)) hlt_11i) L_X6_272 (preRV (q := (RX6, TX6, 35)) hN hP (trueIx 0 [true, true, true, true, true, true, true, true, true, true, true, true, true, true, true, true, true, true, true, true, true, true, true, true, true, true, true, true]) (sel_fm rfl rfl) 0 5 rfl rfl) rfl ⟨Nat.le_of_ble_eq_true rfl, Nat.le_of_ble_eq_true rfl⟩ hl.1 (Nat.le_of_ble_eq_true rfl) (g_182 (v := 272) bX6_readMost rfl) ⟨Nat.le_of_ble_eq_true rfl, Nat.le_of_ble_eq_true rfl⟩) (fun r_29 h_30 => ?_)
                  subst h_30
                  obtain ⟨k_31, hk_32, ek_33⟩ := br_some (b := k_26) hT_7.1 c_14
                  refine lv_seti (v := nI k_31) ek_33 ?_
                  refine lv_iload hx hb (g_21 (v := 4) bX6_readMost rfl) (lv_at hl 1 rfl) ?_
                  refine lv_iload_n hx hb (g_28 bX6_readMost rfl) rfl (lv_at hl 5 rfl) ?_
                  refine lv_if_eq (tgt := 112) hx hb dX6_readMost_98 (by decide +kernel) (fun c_34 => ?_) (fun c_34 => ?_)
                  · refine lv_iconst (v := 0) hx hb (g_3 bX6_readMost rfl) (by decide +kernel) ?_
                    refine cVi (As := [.int (nI k_31), .int (nI k_26), .int 0]) (rest := []) (b := qm) (q := (RX6, TX6, 35)) ⟨hx, hb, hml, hown, hts⟩ (c_X6_readsTo l G cy (H).size qm v0 v1 v2 v3 v4 v5 v6 v7 v8 v9 tJ_5 qmB qmO qmK iEn iTk v18 v19 v20 v21 v22 v23 v24 v25 v26 iLv iWs v29 v30 v31 v32 v33 v34 rB rO rK k_31 k_26 0 (by first | omega | (simp only [nb_sr, np_sr, nb_wr, np_wr, nb_rd, np_rd, nb_ch, np_ch, nb_zr, np_zr, nb_za, np_za, nb_ey, np_ey, nb_hf, np_hf, nb_dd, np_dd, nb_so, np_so, nb_skn, np_skn, nb_swh, np_swh, nb_sgn, np_sgn, nb_ssd, np_ssd, nb_sgo, np_sgo, nb_sag, np_sag]; omega)) (by first | omega | (simp only [nb_sr, np_sr, nb_wr, np_wr, nb_rd, np_rd, nb_ch, np_ch, nb_zr, np_zr, nb_za, np_za, nb_ey, np_ey, nb_hf, np_hf, nb_dd, np_dd, nb_so, np_so, nb_skn, np_skn, nb_swh, np_swh, nb_sgn, np_sgn, nb_ssd, np_ssd, nb_sgo, np_sgo, nb_sag, np_sag]; omega)) (by first | omega | (simp only [nb_sr, np_sr, nb_wr, np_wr, nb_rd, np_rd, nb_ch, np_ch, nb_zr, np_zr, nb_za, np_za, nb_ey, np_ey, nb_hf, np_hf, nb_dd, np_dd, nb_so, np_so, nb_skn, np_skn, nb_swh, np_swh, nb_sgn, np_sgn, nb_ssd, np_ssd, nb_sgo, np_sgo, nb_sag, np_sag]; omega)) hlt_11i) L_X6_260 hN hP hD hS hA (trueIx 0 [true, true, true, true, true, true, true, true, true, true, true, true, true, true, true, true, true, true, true, true, true, true, true, true, true, true, true, true]) [false, false, false, false, false, false, false, false, false, false, false, false, false, false, false, false, false, false, false, false, false, false, false, false, false, false, false, false] (sel_eq rfl rfl) (by decide +kernel) rfl 0 5 rfl rfl rfl ⟨Nat.le_of_ble_eq_true rfl, Nat.le_of_ble_eq_true rfl⟩ hl.1 (Nat.le_of_ble_eq_true rfl) (g_182 (v := 260) bX6_readMost rfl) ⟨Nat.le_of_ble_eq_true rfl, Nat.le_of_ble_eq_true rfl⟩ (fun r_35 u_37 H locs h_36 => ?_)
                    clear hP hD hS
                    intro hP hD hS
                    obtain ⟨tX_38, hu9, h_39, h_36⟩ := h_36
                    have hPD := pd_eq [zzO qm 5 (v0 :: v1 :: v2 :: v3 :: v4 :: v5 :: v6 :: v7 :: v8 :: v9 :: .int (nI (T_nb tX_38)) :: .ref qmB :: .int (nI (T_np tX_38)) :: .ref qmO :: .ref qmK :: .int iEn :: .int iTk :: .int (T_sd tX_38) :: v18 :: v19 :: v20 :: v21 :: v22 :: v23 :: v24 :: v25 :: v26 :: .int iLv :: .int iWs :: v29 :: v30 :: v31 :: v32 :: v33 :: v34 :: []), _, zzI cy (rB 0) 4 (bkR tX_38 0), zzI cy (rB 1) 4 (bkR tX_38 1), zzI cy (rB 2) 4 (bkR tX_38 2), zzI cy (rB 3) 4 (bkR tX_38 3), zzI cy (rB 4) 4 (bkR tX_38 4), zzI cy (rB 5) 4 (bkR tX_38 5), zzI cy (rB 6) 4 (bkR tX_38 6), zzI cy (rB 7) 4 (bkR tX_38 7), _, zzI cy (rO 0) 5 (onR tX_38 0), zzI cy (rO 1) 5 (onR tX_38 1), zzI cy (rO 2) 5 (onR tX_38 2), zzI cy (rO 3) 5 (onR tX_38 3), zzI cy (rO 4) 5 (onR tX_38 4), zzI cy (rO 5) 5 (onR tX_38 5), zzI cy (rO 6) 5 (onR tX_38 6), zzI cy (rO 7) 5 (onR tX_38 7), _, zzI cy (rK 0) 8 (T_kn tX_38 0), zzI cy (rK 1) 8 (T_kn tX_38 1), zzI cy (rK 2) 8 (T_kn tX_38 2), zzI cy (rK 3) 8 (T_kn tX_38 3), zzI cy (rK 4) 8 (T_kn tX_38 4), zzI cy (rK 5) 8 (T_kn tX_38 5), zzI cy (rK 6) 8 (T_kn tX_38 6), zzI cy (rK 7) 8 (T_kn tX_38 7)] hP hD hu9 rfl
                    clear hP hD hu9
                    obtain ⟨hP, hD⟩ := hPD
                    refine lv_pop hx hb (g_87 bX6_readMost rfl) rfl ?_
                    refine lv_iinc (v := nI (j_4 + 1)) (lv' := [(3, .int (nI (j_4 + 1))), (5, .int (nI m_18)), (4, .int (nI k_26)), (0, .ref qm), (1, .int (nI kM)), (2, .int iL)]) hx hb dX6_readMost_117 hl (k := 2) rfl (nI_1 _) (by decide +kernel) rfl (fun ls => ?_)
                    clear hl
                    intro hl
                    refine lv_goto (tgt := 2) hx hb dX6_readMost_120 (by decide +kernel) ?_
                    exact ih_3 (j_4 + 1) tX_38 (by omega) (by omega) (⟨h_39.1, h_39.2.1.trans hT_7.2.1, h_39.2.2.trans hT_7.2.2⟩) _ _ _ hP hD hS (lv_sub hl [0, 3, 4, 5] rfl)
                  · refine lv_iconst (v := 1) hx hb (g_4 bX6_readMost rfl) (by decide +kernel) ?_
                    refine lv_aload_n hx hb (g_42 bX6_readMost rfl) rfl (lv_at hl 3 rfl) ?_
                    refine va_get (D := G) (ci := 5) (v := .int (nI (T_np tJ_5))) (C := RX6) (T := TX6) (N := 35) hx hb hts iX_X6 hown hK hP 0 rfl rfl 12 (by decide +kernel) (hts _ m_t862) (fun _ h9 => h9) rfl (g_180 (v := 78) bX6_readMost rfl) ?_
                    refine lv_ishl hx hb (g_120 bX6_readMost rfl) ?_
                    refine lv_iconst (v := 1) hx hb (g_4 bX6_readMost rfl) (by decide +kernel) ?_
                    refine lv_isub hx hb (g_100 bX6_readMost rfl) ?_
                    refine lv_goto (tgt := 113) hx hb dX6_readMost_109 (by decide +kernel) ?_
                    refine cVi (As := [.int (nI k_31), .int (nI k_26), .int ((1 <<< ((nI (T_np tJ_5)) &&& 31)) - 1)]) (rest := []) (b := qm) (q := (RX6, TX6, 35)) ⟨hx, hb, hml, hown, hts⟩ (c_X6_readsTo l G cy (H).size qm v0 v1 v2 v3 v4 v5 v6 v7 v8 v9 tJ_5 qmB qmO qmK iEn iTk v18 v19 v20 v21 v22 v23 v24 v25 v26 iLv iWs v29 v30 v31 v32 v33 v34 rB rO rK k_31 k_26 ((1 <<< ((nI (T_np tJ_5)) &&& 31)) - 1) (by first | omega | (simp only [nb_sr, np_sr, nb_wr, np_wr, nb_rd, np_rd, nb_ch, np_ch, nb_zr, np_zr, nb_za, np_za, nb_ey, np_ey, nb_hf, np_hf, nb_dd, np_dd, nb_so, np_so, nb_skn, np_skn, nb_swh, np_swh, nb_sgn, np_sgn, nb_ssd, np_ssd, nb_sgo, np_sgo, nb_sag, np_sag]; omega)) (by first | omega | (simp only [nb_sr, np_sr, nb_wr, np_wr, nb_rd, np_rd, nb_ch, np_ch, nb_zr, np_zr, nb_za, np_za, nb_ey, np_ey, nb_hf, np_hf, nb_dd, np_dd, nb_so, np_so, nb_skn, np_skn, nb_swh, np_swh, nb_sgn, np_sgn, nb_ssd, np_ssd, nb_sgo, np_sgo, nb_sag, np_sag]; omega)) (by first | omega | (simp only [nb_sr, np_sr, nb_wr, np_wr, nb_rd, np_rd, nb_ch, np_ch, nb_zr, np_zr, nb_za, np_za, nb_ey, np_ey, nb_hf, np_hf, nb_dd, np_dd, nb_so, np_so, nb_skn, np_skn, nb_swh, np_swh, nb_sgn, np_sgn, nb_ssd, np_ssd, nb_sgo, np_sgo, nb_sag, np_sag]; omega)) hlt_11i) L_X6_260 hN hP hD hS hA (trueIx 0 [true, true, true, true, true, true, true, true, true, true, true, true, true, true, true, true, true, true, true, true, true, true, true, true, true, true, true, true]) [false, false, false, false, false, false, false, false, false, false, false, false, false, false, false, false, false, false, false, false, false, false, false, false, false, false, false, false] (sel_eq rfl rfl) (by decide +kernel) rfl 0 5 rfl rfl rfl ⟨Nat.le_of_ble_eq_true rfl, Nat.le_of_ble_eq_true rfl⟩ hl.1 (Nat.le_of_ble_eq_true rfl) (g_182 (v := 260) bX6_readMost rfl) ⟨Nat.le_of_ble_eq_true rfl, Nat.le_of_ble_eq_true rfl⟩ (fun r_40 u_42 H locs h_41 => ?_)
                    clear hP hD hS
                    intro hP hD hS
                    obtain ⟨tX_43, hu9, h_44, h_41⟩ := h_41
                    have hPD := pd_eq [zzO qm 5 (v0 :: v1 :: v2 :: v3 :: v4 :: v5 :: v6 :: v7 :: v8 :: v9 :: .int (nI (T_nb tX_43)) :: .ref qmB :: .int (nI (T_np tX_43)) :: .ref qmO :: .ref qmK :: .int iEn :: .int iTk :: .int (T_sd tX_43) :: v18 :: v19 :: v20 :: v21 :: v22 :: v23 :: v24 :: v25 :: v26 :: .int iLv :: .int iWs :: v29 :: v30 :: v31 :: v32 :: v33 :: v34 :: []), _, zzI cy (rB 0) 4 (bkR tX_43 0), zzI cy (rB 1) 4 (bkR tX_43 1), zzI cy (rB 2) 4 (bkR tX_43 2), zzI cy (rB 3) 4 (bkR tX_43 3), zzI cy (rB 4) 4 (bkR tX_43 4), zzI cy (rB 5) 4 (bkR tX_43 5), zzI cy (rB 6) 4 (bkR tX_43 6), zzI cy (rB 7) 4 (bkR tX_43 7), _, zzI cy (rO 0) 5 (onR tX_43 0), zzI cy (rO 1) 5 (onR tX_43 1), zzI cy (rO 2) 5 (onR tX_43 2), zzI cy (rO 3) 5 (onR tX_43 3), zzI cy (rO 4) 5 (onR tX_43 4), zzI cy (rO 5) 5 (onR tX_43 5), zzI cy (rO 6) 5 (onR tX_43 6), zzI cy (rO 7) 5 (onR tX_43 7), _, zzI cy (rK 0) 8 (T_kn tX_43 0), zzI cy (rK 1) 8 (T_kn tX_43 1), zzI cy (rK 2) 8 (T_kn tX_43 2), zzI cy (rK 3) 8 (T_kn tX_43 3), zzI cy (rK 4) 8 (T_kn tX_43 4), zzI cy (rK 5) 8 (T_kn tX_43 5), zzI cy (rK 6) 8 (T_kn tX_43 6), zzI cy (rK 7) 8 (T_kn tX_43 7)] hP hD hu9 rfl
                    clear hP hD hu9
                    obtain ⟨hP, hD⟩ := hPD
                    refine lv_pop hx hb (g_87 bX6_readMost rfl) rfl ?_
                    refine lv_iinc (v := nI (j_4 + 1)) (lv' := [(3, .int (nI (j_4 + 1))), (5, .int (nI m_18)), (4, .int (nI k_26)), (0, .ref qm), (1, .int (nI kM)), (2, .int iL)]) hx hb dX6_readMost_117 hl (k := 2) rfl (nI_1 _) (by decide +kernel) rfl (fun ls => ?_)
                    clear hl
                    intro hl
                    refine lv_goto (tgt := 2) hx hb dX6_readMost_120 (by decide +kernel) ?_
                    exact ih_3 (j_4 + 1) tX_43 (by omega) (by omega) (⟨h_44.1, h_44.2.1.trans hT_7.2.1, h_44.2.2.trans hT_7.2.2⟩) _ _ _ hP hD hS (lv_sub hl [0, 3, 4, 5] rfl)
                · refine lv_iload_n hx hb (g_29 bX6_readMost rfl) rfl (lv_at hl 2 rfl) ?_
                  exact endWs [[true, true, true, true, true, true, true, true, true, true, true, true, true, true, true, true, true, true, true, true, true, true, true, true, true, true, true, true]] hx hb hr hlocks rfl hP hD rfl (by decide +kernel) hS ⟨tJ_5, rfl, hT_7, trivial⟩ (g_172 bX6_readMost rfl)
              · have hlt_45e : T_nb tJ_5 = T_nb tA := hT_7.2.1
                have hlt_45 : m_18 < T_nb tA := by rw [hlt_45e] at c_23; exact lp_lt rfl rfl (by omega) (by omega) c_23
                refine lv_aload_n hx hb (g_42 bX6_readMost rfl) rfl (lv_at hl 3 rfl) ?_
                refine lv_iload hx hb (g_21 (v := 5) bX6_readMost rfl) (lv_at hl 0 rfl) ?_
                refine kRi (rV (As := [.int (nI m_18)]) (rest := []) (b := qm) ⟨hx, hb, hml, hown, hts⟩ (c_X6_isWhite l G cy qm v0 v1 v2 v3 v4 v5 v6 v7 v8 v9 tJ_5 qmB qmO qmK iEn iTk v18 v19 v20 v21 v22 v23 v24 v25 v26 iLv iWs v29 v30 v31 v32 v33 v34 rB m_18 (by first | omega | (simp only [nb_sr, np_sr, nb_wr, np_wr, nb_rd, np_rd, nb_ch, np_ch, nb_zr, np_zr, nb_za, np_za, nb_ey, np_ey, nb_hf, np_hf, nb_dd, np_dd, nb_so, np_so, nb_skn, np_skn, nb_swh, np_swh, nb_sgn, np_sgn, nb_ssd, np_ssd, nb_sgo, np_sgo, nb_sag, np_sag]; omega))) L_X6_248 (preRV (q := (RX6, TX6, 35)) hN hP (trueIx 0 [true, true, true, true, true, true, true, true, true, true]) (sel_fm rfl rfl) 0 5 rfl rfl) rfl ⟨Nat.le_of_ble_eq_true rfl, Nat.le_of_ble_eq_true rfl⟩ hl.1 (Nat.le_of_ble_eq_true rfl) (g_182 (v := 248) bX6_readMost rfl) ⟨Nat.le_of_ble_eq_true rfl, Nat.le_of_ble_eq_true rfl⟩) (fun r_46 h_47 => ?_)
                rcases h_47 with ⟨rfl, h_48⟩ | ⟨rfl, h_48⟩
                · refine lv_if_ne (tgt := 70) hx hb dX6_readMost_35 (by decide +kernel) (fun _ => ?_) (fun h9 => absurd h9 (by decide +kernel))
                  refine lv_iload hx hb (g_21 (v := 4) bX6_readMost rfl) (lv_at hl 1 rfl) ?_
                  refine lv_istore (lv' := [(4, .int xB_19), (5, .int (nI m_18)), (3, .int (nI j_4)), (0, .ref qm), (1, .int (nI kM)), (2, .int iL)]) hx hb (g_54 (v := 4) bX6_readMost rfl) hl (by decide +kernel) rfl (fun ls => ?_)
                  clear hl
                  intro hl
                  refine lv_iinc (v := nI (m_18 + 1)) (lv' := [(5, .int (nI (m_18 + 1))), (4, .int xB_19), (3, .int (nI j_4)), (0, .ref qm), (1, .int (nI kM)), (2, .int iL)]) hx hb dX6_readMost_74 hl (k := 1) rfl (nI_1 _) (by decide +kernel) rfl (fun ls => ?_)
                  clear hl
                  intro hl
                  refine lv_goto (tgt := 20) hx hb dX6_readMost_77 (by decide +kernel) ?_
                  exact ih_17 (m_18 + 1) xB_19 (by omega) (by omega) (by rw [du_skip (fun q => by rw [h_48] at q; exact absurd q.1 (by decide +kernel))]; exact hxB_21) _ _ _ hP hD hS (lv_sub hl [0, 1, 2, 3, 4, 5] rfl)
                · refine lv_if_ne (tgt := 70) hx hb dX6_readMost_35 (by decide +kernel) (fun h9 => absurd (by decide +kernel) h9) (fun _ => ?_)
                  refine lv_iload hx hb (g_21 (v := 4) bX6_readMost rfl) (lv_at hl 1 rfl) ?_
                  refine lv_iconst (v := (-1)) hx hb (g_2 bX6_readMost rfl) (by decide +kernel) ?_
                  refine lv_icmp_eq (tgt := 65) hx hb dX6_readMost_41 (by decide +kernel) (fun c_51 => ?_) (fun c_51 => ?_)
                  · refine lv_iload hx hb (g_21 (v := 5) bX6_readMost rfl) (lv_at hl 0 rfl) ?_
                    refine lv_goto (tgt := 72) hx hb dX6_readMost_67 (by decide +kernel) ?_
                    refine lv_istore (lv' := [(4, .int (nI m_18)), (5, .int (nI m_18)), (3, .int (nI j_4)), (0, .ref qm), (1, .int (nI kM)), (2, .int iL)]) hx hb (g_54 (v := 4) bX6_readMost rfl) hl (by decide +kernel) rfl (fun ls => ?_)
                    clear hl
                    intro hl
                    refine lv_iinc (v := nI (m_18 + 1)) (lv' := [(5, .int (nI (m_18 + 1))), (4, .int (nI m_18)), (3, .int (nI j_4)), (0, .ref qm), (1, .int (nI kM)), (2, .int iL)]) hx hb dX6_readMost_74 hl (k := 1) rfl (nI_1 _) (by decide +kernel) rfl (fun ls => ?_)
                    clear hl
                    intro hl
                    refine lv_goto (tgt := 20) hx hb dX6_readMost_77 (by decide +kernel) ?_
                    exact ih_17 (m_18 + 1) (nI m_18) (by omega) (by omega) (by rw [du_upd ⟨h_48, Or.inl (hxB_21 ▸ c_51)⟩]) _ _ _ hP hD hS (lv_sub hl [0, 1, 2, 3, 4, 5] rfl)
                  · obtain ⟨k_52, hk_53, ek_54⟩ : ∃ k : Nat, k < m_18 ∧ xB_19 = nI k := by
                      rcases du_in tJ_5 m_18 with q | ⟨k, h1, h2⟩
                      · exact absurd (hxB_21.trans q) c_51
                      · exact ⟨k, h1, hxB_21.trans h2⟩
                    rw [ek_54] at hl
                    refine lv_aload_n hx hb (g_42 bX6_readMost rfl) rfl (lv_at hl 3 rfl) ?_
                    refine va_get (D := G) (ci := 5) (v := .ref qmB) (C := RX6) (T := TX6) (N := 35) hx hb hts iX_X6 hown hK hP 0 rfl rfl 11 (by decide +kernel) (hts _ m_t861) (fun _ h9 => h9) rfl (g_180 (v := 42) bX6_readMost rfl) ?_
                    refine lv_iload hx hb (g_21 (v := 5) bX6_readMost rfl) (lv_at hl 0 rfl) ?_
                    refine va_alda hx hb hK hP 1 3 rfl rfl (in8 (by omega)) (g_50 bX6_readMost rfl) ?_
                    refine lv_setv (v := .ref (rB m_18)) (g_ref (by omega)) ?_
                    refine lv_iconst (v := 0) hx hb (g_3 bX6_readMost rfl) (by decide +kernel) ?_
                    refine va_iald hx hb hK hP (2 + m_18) 0 (sg8 (n0 := 2) (f := (fun j => zzI cy (rB j) 4 (bkR tJ_5 j))) rfl rfl rfl rfl rfl rfl rfl rfl m_18 (by omega)) rfl (in_c rfl) (g_46 bX6_readMost rfl) ?_
                    refine lv_seti (v := T_wo tJ_5 m_18) (bk_0 _ _) ?_
                    refine lv_aload_n hx hb (g_42 bX6_readMost rfl) rfl (lv_at hl 3 rfl) ?_
                    refine va_get (D := G) (ci := 5) (v := .ref qmB) (C := RX6) (T := TX6) (N := 35) hx hb hts iX_X6 hown hK hP 0 rfl rfl 11 (by decide +kernel) (hts _ m_t861) (fun _ h9 => h9) rfl (g_180 (v := 42) bX6_readMost rfl) ?_
                    refine lv_iload hx hb (g_21 (v := 4) bX6_readMost rfl) (lv_at hl 1 rfl) ?_
                    refine va_alda hx hb hK hP 1 3 rfl rfl (in8 (by omega)) (g_50 bX6_readMost rfl) ?_
                    refine lv_setv (v := .ref (rB k_52)) (g_ref (by omega)) ?_
                    refine lv_iconst (v := 0) hx hb (g_3 bX6_readMost rfl) (by decide +kernel) ?_
                    refine va_iald hx hb hK hP (2 + k_52) 0 (sg8 (n0 := 2) (f := (fun j => zzI cy (rB j) 4 (bkR tJ_5 j))) rfl rfl rfl rfl rfl rfl rfl rfl k_52 (by omega)) rfl (in_c rfl) (g_46 bX6_readMost rfl) ?_
                    refine lv_seti (v := T_wo tJ_5 k_52) (bk_0 _ _) ?_
                    refine lv_icmp_le (tgt := 70) hx hb dX6_readMost_62 (by decide +kernel) (fun c_55 => ?_) (fun c_55 => ?_)
                    · refine lv_iload hx hb (g_21 (v := 4) bX6_readMost rfl) (lv_at hl 1 rfl) ?_
                      refine lv_istore (lv' := [(4, .int (nI k_52)), (5, .int (nI m_18)), (3, .int (nI j_4)), (0, .ref qm), (1, .int (nI kM)), (2, .int iL)]) hx hb (g_54 (v := 4) bX6_readMost rfl) hl (by decide +kernel) rfl (fun ls => ?_)
                      clear hl
                      intro hl
                      refine lv_iinc (v := nI (m_18 + 1)) (lv' := [(5, .int (nI (m_18 + 1))), (4, .int (nI k_52)), (3, .int (nI j_4)), (0, .ref qm), (1, .int (nI kM)), (2, .int iL)]) hx hb dX6_readMost_74 hl (k := 1) rfl (nI_1 _) (by decide +kernel) rfl (fun ls => ?_)
                      clear hl
                      intro hl
                      refine lv_goto (tgt := 20) hx hb dX6_readMost_77 (by decide +kernel) ?_
                      exact ih_17 (m_18 + 1) (nI k_52) (by omega) (by omega) (by rw [du_skip (fun q => q.2.elim (fun r => c_51 (hxB_21.trans r)) (fun r => by rw [← hxB_21, ek_54, nI_clamp (by omega)] at r; exact Int32.not_lt.mpr c_55 r))]; exact ek_54.symm.trans hxB_21) _ _ _ hP hD hS (lv_sub hl [0, 1, 2, 3, 4, 5] rfl)
                    · refine lv_iload hx hb (g_21 (v := 5) bX6_readMost rfl) (lv_at hl 0 rfl) ?_
                      refine lv_goto (tgt := 72) hx hb dX6_readMost_67 (by decide +kernel) ?_
                      refine lv_istore (lv' := [(4, .int (nI m_18)), (5, .int (nI m_18)), (3, .int (nI j_4)), (0, .ref qm), (1, .int (nI kM)), (2, .int iL)]) hx hb (g_54 (v := 4) bX6_readMost rfl) hl (by decide +kernel) rfl (fun ls => ?_)
                      clear hl
                      intro hl
                      refine lv_iinc (v := nI (m_18 + 1)) (lv' := [(5, .int (nI (m_18 + 1))), (4, .int (nI m_18)), (3, .int (nI j_4)), (0, .ref qm), (1, .int (nI kM)), (2, .int iL)]) hx hb dX6_readMost_74 hl (k := 1) rfl (nI_1 _) (by decide +kernel) rfl (fun ls => ?_)
                      clear hl
                      intro hl
                      refine lv_goto (tgt := 20) hx hb dX6_readMost_77 (by decide +kernel) ?_
                      exact ih_17 (m_18 + 1) (nI m_18) (by omega) (by omega) (by rw [du_upd ⟨h_48, Or.inr (by rw [← hxB_21, ek_54, nI_clamp (by omega)]; exact Int32.not_le.mp c_55)⟩]) _ _ _ hP hD hS (lv_sub hl [0, 1, 2, 3, 4, 5] rfl)
          exact lp_15 ((8 - 0) + 1) 0 (-1) (Nat.lt_succ_self _) (Nat.zero_le _) rfl _ _ ls hP hD hS (lv_sub hl [0, 1, 2, 3, 4, 5] rfl)
  exact lp_1 ((99 - 0) + 1) 0 tA (Nat.lt_succ_self _) (Nat.zero_le _) (⟨hTI, rfl, rfl⟩) _ _ ls hP hD hS (lv_sub hl [0, 1, 2, 3] rfl)
theorem c_X6_readMost8 (l : Launch) (G : va_G) (cy : Nat → ClassId) (sz : Nat) (qm : Nat) (v0 : Value) (v1 : Value) (v2 : Value) (v3 : Value) (v4 : Value) (v5 : Value) (v6 : Value) (v7 : Value) (v8 : Value) (v9 : Value) (tA : TA) (qmB : Nat) (qmO : Nat) (qmK : Nat) (iEn : Int32) (iTk : Int32) (v18 : Value) (v19 : Value) (v20 : Value) (v21 : Value) (v22 : Value) (v23 : Value) (v24 : Value) (v25 : Value) (v26 : Value) (iLv : Int32) (iWs : Int32) (v29 : Value) (v30 : Value) (v31 : Value) (v32 : Value) (v33 : Value) (v34 : Value) (rB : Nat → Nat) (rO : Nat → Nat) (rK : Nat → Nat) (iL : Int32)  (hB : T_nb tA ≤ 8) (hPp : T_np tA ≤ 8) (hTI : TI tA) : MW l yX6_readMost cX6_readMost 6 (some .int) 6 0 0 G cy [zzO qm 5 (v0 :: v1 :: v2 :: v3 :: v4 :: v5 :: v6 :: v7 :: v8 :: v9 :: .int (nI (T_nb tA)) :: .ref qmB :: .int (nI (T_np tA)) :: .ref qmO :: .ref qmK :: .int iEn :: .int iTk :: .int (T_sd tA) :: v18 :: v19 :: v20 :: v21 :: v22 :: v23 :: v24 :: v25 :: v26 :: .int iLv :: .int iWs :: v29 :: v30 :: v31 :: v32 :: v33 :: v34 :: []), zzG cy 3 qmB rB, zzI cy (rB 0) 4 (bkR tA 0), zzI cy (rB 1) 4 (bkR tA 1), zzI cy (rB 2) 4 (bkR tA 2), zzI cy (rB 3) 4 (bkR tA 3), zzI cy (rB 4) 4 (bkR tA 4), zzI cy (rB 5) 4 (bkR tA 5), zzI cy (rB 6) 4 (bkR tA 6), zzI cy (rB 7) 4 (bkR tA 7), zzG cy 3 qmO rO, zzI cy (rO 0) 5 (onR tA 0), zzI cy (rO 1) 5 (onR tA 1), zzI cy (rO 2) 5 (onR tA 2), zzI cy (rO 3) 5 (onR tA 3), zzI cy (rO 4) 5 (onR tA 4), zzI cy (rO 5) 5 (onR tA 5), zzI cy (rO 6) 5 (onR tA 6), zzI cy (rO 7) 5 (onR tA 7), zzG cy 3 qmK rK, zzI cy (rK 0) 8 (T_kn tA 0), zzI cy (rK 1) 8 (T_kn tA 1), zzI cy (rK 2) 8 (T_kn tA 2), zzI cy (rK 3) 8 (T_kn tA 3), zzI cy (rK 4) 8 (T_kn tA 4), zzI cy (rK 5) 8 (T_kn tA 5), zzI cy (rK 6) 8 (T_kn tA 6), zzI cy (rK 7) 8 (T_kn tA 7)] sz [.ref qm, .int 8, .int iL] (Wi G (fun r u => ∃ (tX : TA), u = [zzO qm 5 (v0 :: v1 :: v2 :: v3 :: v4 :: v5 :: v6 :: v7 :: v8 :: v9 :: .int (nI (T_nb tX)) :: .ref qmB :: .int (nI (T_np tX)) :: .ref qmO :: .ref qmK :: .int iEn :: .int iTk :: .int (T_sd tX) :: v18 :: v19 :: v20 :: v21 :: v22 :: v23 :: v24 :: v25 :: v26 :: .int iLv :: .int iWs :: v29 :: v30 :: v31 :: v32 :: v33 :: v34 :: []), zzG cy 3 qmB rB, zzI cy (rB 0) 4 (bkR tX 0), zzI cy (rB 1) 4 (bkR tX 1), zzI cy (rB 2) 4 (bkR tX 2), zzI cy (rB 3) 4 (bkR tX 3), zzI cy (rB 4) 4 (bkR tX 4), zzI cy (rB 5) 4 (bkR tX 5), zzI cy (rB 6) 4 (bkR tX 6), zzI cy (rB 7) 4 (bkR tX 7), zzG cy 3 qmO rO, zzI cy (rO 0) 5 (onR tX 0), zzI cy (rO 1) 5 (onR tX 1), zzI cy (rO 2) 5 (onR tX 2), zzI cy (rO 3) 5 (onR tX 3), zzI cy (rO 4) 5 (onR tX 4), zzI cy (rO 5) 5 (onR tX 5), zzI cy (rO 6) 5 (onR tX 6), zzI cy (rO 7) 5 (onR tX 7), zzG cy 3 qmK rK, zzI cy (rK 0) 8 (T_kn tX 0), zzI cy (rK 1) 8 (T_kn tX 1), zzI cy (rK 2) 8 (T_kn tX 2), zzI cy (rK 3) 8 (T_kn tX 3), zzI cy (rK 4) 8 (T_kn tX 4), zzI cy (rK 5) 8 (T_kn tX 5), zzI cy (rK 6) 8 (T_kn tX 6), zzI cy (rK 7) 8 (T_kn tX 7)] ∧ (TI tX ∧ T_nb tX = T_nb tA ∧ T_np tX = T_np tA) ∧ (True))) := c_X6_readMost l G cy sz qm v0 v1 v2 v3 v4 v5 v6 v7 v8 v9 tA qmB qmO qmK iEn iTk v18 v19 v20 v21 v22 v23 v24 v25 v26 iLv iWs v29 v30 v31 v32 v33 v34 rB rO rK 8 iL hB hPp hTI (by omega)
theorem c_X6_readMost1 (l : Launch) (G : va_G) (cy : Nat → ClassId) (sz : Nat) (qm : Nat) (v0 : Value) (v1 : Value) (v2 : Value) (v3 : Value) (v4 : Value) (v5 : Value) (v6 : Value) (v7 : Value) (v8 : Value) (v9 : Value) (tA : TA) (qmB : Nat) (qmO : Nat) (qmK : Nat) (iEn : Int32) (iTk : Int32) (v18 : Value) (v19 : Value) (v20 : Value) (v21 : Value) (v22 : Value) (v23 : Value) (v24 : Value) (v25 : Value) (v26 : Value) (iLv : Int32) (iWs : Int32) (v29 : Value) (v30 : Value) (v31 : Value) (v32 : Value) (v33 : Value) (v34 : Value) (rB : Nat → Nat) (rO : Nat → Nat) (rK : Nat → Nat) (iL : Int32)  (hB : T_nb tA ≤ 8) (hPp : T_np tA ≤ 8) (hTI : TI tA) : MW l yX6_readMost cX6_readMost 6 (some .int) 6 0 0 G cy [zzO qm 5 (v0 :: v1 :: v2 :: v3 :: v4 :: v5 :: v6 :: v7 :: v8 :: v9 :: .int (nI (T_nb tA)) :: .ref qmB :: .int (nI (T_np tA)) :: .ref qmO :: .ref qmK :: .int iEn :: .int iTk :: .int (T_sd tA) :: v18 :: v19 :: v20 :: v21 :: v22 :: v23 :: v24 :: v25 :: v26 :: .int iLv :: .int iWs :: v29 :: v30 :: v31 :: v32 :: v33 :: v34 :: []), zzG cy 3 qmB rB, zzI cy (rB 0) 4 (bkR tA 0), zzI cy (rB 1) 4 (bkR tA 1), zzI cy (rB 2) 4 (bkR tA 2), zzI cy (rB 3) 4 (bkR tA 3), zzI cy (rB 4) 4 (bkR tA 4), zzI cy (rB 5) 4 (bkR tA 5), zzI cy (rB 6) 4 (bkR tA 6), zzI cy (rB 7) 4 (bkR tA 7), zzG cy 3 qmO rO, zzI cy (rO 0) 5 (onR tA 0), zzI cy (rO 1) 5 (onR tA 1), zzI cy (rO 2) 5 (onR tA 2), zzI cy (rO 3) 5 (onR tA 3), zzI cy (rO 4) 5 (onR tA 4), zzI cy (rO 5) 5 (onR tA 5), zzI cy (rO 6) 5 (onR tA 6), zzI cy (rO 7) 5 (onR tA 7), zzG cy 3 qmK rK, zzI cy (rK 0) 8 (T_kn tA 0), zzI cy (rK 1) 8 (T_kn tA 1), zzI cy (rK 2) 8 (T_kn tA 2), zzI cy (rK 3) 8 (T_kn tA 3), zzI cy (rK 4) 8 (T_kn tA 4), zzI cy (rK 5) 8 (T_kn tA 5), zzI cy (rK 6) 8 (T_kn tA 6), zzI cy (rK 7) 8 (T_kn tA 7)] sz [.ref qm, .int 1, .int iL] (Wi G (fun r u => ∃ (tX : TA), u = [zzO qm 5 (v0 :: v1 :: v2 :: v3 :: v4 :: v5 :: v6 :: v7 :: v8 :: v9 :: .int (nI (T_nb tX)) :: .ref qmB :: .int (nI (T_np tX)) :: .ref qmO :: .ref qmK :: .int iEn :: .int iTk :: .int (T_sd tX) :: v18 :: v19 :: v20 :: v21 :: v22 :: v23 :: v24 :: v25 :: v26 :: .int iLv :: .int iWs :: v29 :: v30 :: v31 :: v32 :: v33 :: v34 :: []), zzG cy 3 qmB rB, zzI cy (rB 0) 4 (bkR tX 0), zzI cy (rB 1) 4 (bkR tX 1), zzI cy (rB 2) 4 (bkR tX 2), zzI cy (rB 3) 4 (bkR tX 3), zzI cy (rB 4) 4 (bkR tX 4), zzI cy (rB 5) 4 (bkR tX 5), zzI cy (rB 6) 4 (bkR tX 6), zzI cy (rB 7) 4 (bkR tX 7), zzG cy 3 qmO rO, zzI cy (rO 0) 5 (onR tX 0), zzI cy (rO 1) 5 (onR tX 1), zzI cy (rO 2) 5 (onR tX 2), zzI cy (rO 3) 5 (onR tX 3), zzI cy (rO 4) 5 (onR tX 4), zzI cy (rO 5) 5 (onR tX 5), zzI cy (rO 6) 5 (onR tX 6), zzI cy (rO 7) 5 (onR tX 7), zzG cy 3 qmK rK, zzI cy (rK 0) 8 (T_kn tX 0), zzI cy (rK 1) 8 (T_kn tX 1), zzI cy (rK 2) 8 (T_kn tX 2), zzI cy (rK 3) 8 (T_kn tX 3), zzI cy (rK 4) 8 (T_kn tX 4), zzI cy (rK 5) 8 (T_kn tX 5), zzI cy (rK 6) 8 (T_kn tX 6), zzI cy (rK 7) 8 (T_kn tX 7)] ∧ (TI tX ∧ T_nb tX = T_nb tA ∧ T_np tX = T_np tA) ∧ (True))) := c_X6_readMost l G cy sz qm v0 v1 v2 v3 v4 v5 v6 v7 v8 v9 tA qmB qmO qmK iEn iTk v18 v19 v20 v21 v22 v23 v24 v25 v26 iLv iWs v29 v30 v31 v32 v33 v34 rB rO rK 1 iL hB hPp hTI (by omega)
set_option maxHeartbeats 4000000 in
set_option maxRecDepth 100000 in
theorem c_X6_chain (l : Launch) (G : va_G) (cy : Nat → ClassId) (sz : Nat) (qm : Nat) (v0 : Value) (v1 : Value) (v2 : Value) (v3 : Value) (v4 : Value) (v5 : Value) (v6 : Value) (v7 : Value) (v8 : Value) (v9 : Value) (tA : TA) (qmB : Nat) (qmO : Nat) (qmK : Nat) (iEn : Int32) (iTk : Int32) (v18 : Value) (v19 : Value) (v20 : Value) (v21 : Value) (v22 : Value) (v23 : Value) (v24 : Value) (v25 : Value) (v26 : Value) (iLv : Int32) (iWs : Int32) (v29 : Value) (v30 : Value) (v31 : Value) (v32 : Value) (v33 : Value) (v34 : Value) (rB : Nat → Nat) (rO : Nat → Nat) (rK : Nat → Nat)  (hB : T_nb tA ≤ 8) (hPp : T_np tA ≤ 8) (hTI : TI tA) : MW l yX6_chain cX6_chain 4 none 4 0 0 G cy [zzO qm 5 (v0 :: v1 :: v2 :: v3 :: v4 :: v5 :: v6 :: v7 :: v8 :: v9 :: .int (nI (T_nb tA)) :: .ref qmB :: .int (nI (T_np tA)) :: .ref qmO :: .ref qmK :: .int iEn :: .int iTk :: .int (T_sd tA) :: v18 :: v19 :: v20 :: v21 :: v22 :: v23 :: v24 :: v25 :: v26 :: .int iLv :: .int iWs :: v29 :: v30 :: v31 :: v32 :: v33 :: v34 :: []), zzG cy 3 qmB rB, zzI cy (rB 0) 4 (bkR tA 0), zzI cy (rB 1) 4 (bkR tA 1), zzI cy (rB 2) 4 (bkR tA 2), zzI cy (rB 3) 4 (bkR tA 3), zzI cy (rB 4) 4 (bkR tA 4), zzI cy (rB 5) 4 (bkR tA 5), zzI cy (rB 6) 4 (bkR tA 6), zzI cy (rB 7) 4 (bkR tA 7), zzG cy 3 qmO rO, zzI cy (rO 0) 5 (onR tA 0), zzI cy (rO 1) 5 (onR tA 1), zzI cy (rO 2) 5 (onR tA 2), zzI cy (rO 3) 5 (onR tA 3), zzI cy (rO 4) 5 (onR tA 4), zzI cy (rO 5) 5 (onR tA 5), zzI cy (rO 6) 5 (onR tA 6), zzI cy (rO 7) 5 (onR tA 7), zzG cy 3 qmK rK, zzI cy (rK 0) 8 (T_kn tA 0), zzI cy (rK 1) 8 (T_kn tA 1), zzI cy (rK 2) 8 (T_kn tA 2), zzI cy (rK 3) 8 (T_kn tA 3), zzI cy (rK 4) 8 (T_kn tA 4), zzI cy (rK 5) 8 (T_kn tA 5), zzI cy (rK 6) 8 (T_kn tA 6), zzI cy (rK 7) 8 (T_kn tA 7)] sz [.ref qm] (Wv G (fun u => ∃ (tX : TA), u = [zzO qm 5 (v0 :: v1 :: v2 :: v3 :: v4 :: v5 :: v6 :: v7 :: v8 :: v9 :: .int (nI (T_nb tX)) :: .ref qmB :: .int (nI (T_np tX)) :: .ref qmO :: .ref qmK :: .int iEn :: .int iTk :: .int (T_sd tX) :: v18 :: v19 :: v20 :: v21 :: v22 :: v23 :: v24 :: v25 :: v26 :: .int iLv :: .int iWs :: v29 :: v30 :: v31 :: v32 :: v33 :: v34 :: []), zzG cy 3 qmB rB, zzI cy (rB 0) 4 (bkR tX 0), zzI cy (rB 1) 4 (bkR tX 1), zzI cy (rB 2) 4 (bkR tX 2), zzI cy (rB 3) 4 (bkR tX 3), zzI cy (rB 4) 4 (bkR tX 4), zzI cy (rB 5) 4 (bkR tX 5), zzI cy (rB 6) 4 (bkR tX 6), zzI cy (rB 7) 4 (bkR tX 7), zzG cy 3 qmO rO, zzI cy (rO 0) 5 (onR tX 0), zzI cy (rO 1) 5 (onR tX 1), zzI cy (rO 2) 5 (onR tX 2), zzI cy (rO 3) 5 (onR tX 3), zzI cy (rO 4) 5 (onR tX 4), zzI cy (rO 5) 5 (onR tX 5), zzI cy (rO 6) 5 (onR tX 6), zzI cy (rO 7) 5 (onR tX 7), zzG cy 3 qmK rK, zzI cy (rK 0) 8 (T_kn tX 0), zzI cy (rK 1) 8 (T_kn tX 1), zzI cy (rK 2) 8 (T_kn tX 2), zzI cy (rK 3) 8 (T_kn tX 3), zzI cy (rK 4) 8 (T_kn tX 4), zzI cy (rK 5) 8 (T_kn tX 5), zzI cy (rK 6) 8 (T_kn tX 6), zzI cy (rK 7) 8 (T_kn tX 7)] ∧ (TI tX ∧ T_nb tX = T_nb tA ∧ T_np tX = T_np tA))) := by
  refine enW RX6 (by decide +kernel) rfl (Nat.le_of_ble_eq_true rfl) (fun p e s m below meth c ls A hx hb hml hown hts hr hlocks hP hN hl hin hD hA hS => ?_)
  have hin : meth.name = _ := hin
  have hK := hN.1
  replace hl : lv_has ls 4 [(0, .ref qm)] := hl
  refine lv_iconst (v := 0) hx hb (g_3 bX6_chain rfl) (by decide +kernel) ?_
  refine lv_istore_n (lv' := [(1, .int 0), (0, .ref qm)]) hx hb (g_60 bX6_chain rfl) rfl hl (by decide +kernel) rfl (fun ls => ?_)
  clear hl
  intro hl
  have lp_1 : ∀ (n_2 : Nat) (j_4 : Nat) (tJ_5 : TA), 8 - j_4 < n_2 → j_4 ≤ T_np tA → TI tJ_5 ∧ T_nb tJ_5 = T_nb tA ∧ T_np tJ_5 = T_np tA → ∀ (H : Heap) (locs : List Loc) (ls : Array Slot), va_P G CL [zzO qm 5 (v0 :: v1 :: v2 :: v3 :: v4 :: v5 :: v6 :: v7 :: v8 :: v9 :: .int (nI (T_nb tJ_5)) :: .ref qmB :: .int (nI (T_np tJ_5)) :: .ref qmO :: .ref qmK :: .int iEn :: .int iTk :: .int (T_sd tJ_5) :: v18 :: v19 :: v20 :: v21 :: v22 :: v23 :: v24 :: v25 :: v26 :: .int iLv :: .int iWs :: v29 :: v30 :: v31 :: v32 :: v33 :: v34 :: []), zzG cy 3 qmB rB, zzI cy (rB 0) 4 (bkR tJ_5 0), zzI cy (rB 1) 4 (bkR tJ_5 1), zzI cy (rB 2) 4 (bkR tJ_5 2), zzI cy (rB 3) 4 (bkR tJ_5 3), zzI cy (rB 4) 4 (bkR tJ_5 4), zzI cy (rB 5) 4 (bkR tJ_5 5), zzI cy (rB 6) 4 (bkR tJ_5 6), zzI cy (rB 7) 4 (bkR tJ_5 7), zzG cy 3 qmO rO, zzI cy (rO 0) 5 (onR tJ_5 0), zzI cy (rO 1) 5 (onR tJ_5 1), zzI cy (rO 2) 5 (onR tJ_5 2), zzI cy (rO 3) 5 (onR tJ_5 3), zzI cy (rO 4) 5 (onR tJ_5 4), zzI cy (rO 5) 5 (onR tJ_5 5), zzI cy (rO 6) 5 (onR tJ_5 6), zzI cy (rO 7) 5 (onR tJ_5 7), zzG cy 3 qmK rK, zzI cy (rK 0) 8 (T_kn tJ_5 0), zzI cy (rK 1) 8 (T_kn tJ_5 1), zzI cy (rK 2) 8 (T_kn tJ_5 2), zzI cy (rK 3) 8 (T_kn tJ_5 3), zzI cy (rK 4) 8 (T_kn tJ_5 4), zzI cy (rK 5) 8 (T_kn tJ_5 5), zzI cy (rK 6) 8 (T_kn tJ_5 6), zzI cy (rK 7) 8 (T_kn tJ_5 7)] H → va_D A [zzO qm 5 (v0 :: v1 :: v2 :: v3 :: v4 :: v5 :: v6 :: v7 :: v8 :: v9 :: .int (nI (T_nb tJ_5)) :: .ref qmB :: .int (nI (T_np tJ_5)) :: .ref qmO :: .ref qmK :: .int iEn :: .int iTk :: .int (T_sd tJ_5) :: v18 :: v19 :: v20 :: v21 :: v22 :: v23 :: v24 :: v25 :: v26 :: .int iLv :: .int iWs :: v29 :: v30 :: v31 :: v32 :: v33 :: v34 :: []), zzG cy 3 qmB rB, zzI cy (rB 0) 4 (bkR tJ_5 0), zzI cy (rB 1) 4 (bkR tJ_5 1), zzI cy (rB 2) 4 (bkR tJ_5 2), zzI cy (rB 3) 4 (bkR tJ_5 3), zzI cy (rB 4) 4 (bkR tJ_5 4), zzI cy (rB 5) 4 (bkR tJ_5 5), zzI cy (rB 6) 4 (bkR tJ_5 6), zzI cy (rB 7) 4 (bkR tJ_5 7), zzG cy 3 qmO rO, zzI cy (rO 0) 5 (onR tJ_5 0), zzI cy (rO 1) 5 (onR tJ_5 1), zzI cy (rO 2) 5 (onR tJ_5 2), zzI cy (rO 3) 5 (onR tJ_5 3), zzI cy (rO 4) 5 (onR tJ_5 4), zzI cy (rO 5) 5 (onR tJ_5 5), zzI cy (rO 6) 5 (onR tJ_5 6), zzI cy (rO 7) 5 (onR tJ_5 7), zzG cy 3 qmK rK, zzI cy (rK 0) 8 (T_kn tJ_5 0), zzI cy (rK 1) 8 (T_kn tJ_5 1), zzI cy (rK 2) 8 (T_kn tJ_5 2), zzI cy (rK 3) 8 (T_kn tJ_5 3), zzI cy (rK 4) 8 (T_kn tJ_5 4), zzI cy (rK 5) 8 (T_kn tJ_5 5), zzI cy (rK 6) 8 (T_kn tJ_5 6), zzI cy (rK 7) 8 (T_kn tJ_5 7)] → va_S A s.heap H locs → lv_has ls 4 [(1, .int (nI j_4)), (0, .ref qm)] → W p l e (Rm 4 0 0) s m (List.toArray (α := Value) [.ref qm]) below meth c H locs 0 0 (MQ below ((Wv G (fun u => ∃ (tX : TA), u = [zzO qm 5 (v0 :: v1 :: v2 :: v3 :: v4 :: v5 :: v6 :: v7 :: v8 :: v9 :: .int (nI (T_nb tX)) :: .ref qmB :: .int (nI (T_np tX)) :: .ref qmO :: .ref qmK :: .int iEn :: .int iTk :: .int (T_sd tX) :: v18 :: v19 :: v20 :: v21 :: v22 :: v23 :: v24 :: v25 :: v26 :: .int iLv :: .int iWs :: v29 :: v30 :: v31 :: v32 :: v33 :: v34 :: []), zzG cy 3 qmB rB, zzI cy (rB 0) 4 (bkR tX 0), zzI cy (rB 1) 4 (bkR tX 1), zzI cy (rB 2) 4 (bkR tX 2), zzI cy (rB 3) 4 (bkR tX 3), zzI cy (rB 4) 4 (bkR tX 4), zzI cy (rB 5) 4 (bkR tX 5), zzI cy (rB 6) 4 (bkR tX 6), zzI cy (rB 7) 4 (bkR tX 7), zzG cy 3 qmO rO, zzI cy (rO 0) 5 (onR tX 0), zzI cy (rO 1) 5 (onR tX 1), zzI cy (rO 2) 5 (onR tX 2), zzI cy (rO 3) 5 (onR tX 3), zzI cy (rO 4) 5 (onR tX 4), zzI cy (rO 5) 5 (onR tX 5), zzI cy (rO 6) 5 (onR tX 6), zzI cy (rO 7) 5 (onR tX 7), zzG cy 3 qmK rK, zzI cy (rK 0) 8 (T_kn tX 0), zzI cy (rK 1) 8 (T_kn tX 1), zzI cy (rK 2) 8 (T_kn tX 2), zzI cy (rK 3) 8 (T_kn tX 3), zzI cy (rK 4) 8 (T_kn tX 4), zzI cy (rK 5) 8 (T_kn tX 5), zzI cy (rK 6) 8 (T_kn tX 6), zzI cy (rK 7) 8 (T_kn tX 7)] ∧ (TI tX ∧ T_nb tX = T_nb tA ∧ T_np tX = T_np tA))) A) (List.toArray (α := Value) [.ref qm]) s 0 0 A) (F0 m 2 ls []) := by
    intro n_2
    induction n_2 with
    | zero => intro j_4 tJ_5 hm9; exact absurd hm9 (Nat.not_lt_zero _)
    | succ n_2 ih_3 =>
      intro j_4 tJ_5 hm_8 hj_6 hT_7 H locs ls hP hD hS hl
      refine lv_iload_n hx hb (g_27 bX6_chain rfl) rfl (lv_at hl 0 rfl) ?_
      refine lv_aload_n hx hb (g_42 bX6_chain rfl) rfl (lv_at hl 1 rfl) ?_
      refine va_get (D := G) (ci := 5) (v := .int (nI (T_np tJ_5))) (C := RX6) (T := TX6) (N := 35) hx hb hts iX_X6 hown hK hP 0 rfl rfl 12 (by decide +kernel) (hts _ m_t862) (fun _ h9 => h9) rfl (g_180 (v := 78) bX6_chain rfl) ?_
      refine lv_icmp_ge (tgt := 73) hx hb dX6_chain_7 (by decide +kernel) (fun c_9 => ?_) (fun c_9 => ?_)
      · have hlt_10e : T_np tJ_5 = T_np tA := hT_7.2.2
        have hlt_10 : j_4 = T_np tA := Nat.le_antisymm (by omega) (by rw [hlt_10e] at c_9; exact lp_ge rfl rfl (by omega) (by omega) c_9)
        obtain ⟨hlt_10i, hlt_10b, hlt_10p⟩ := id hT_7
        exact endVs [[true, true, true, true, true, true, true, true, true, true, true, true, true, true, true, true, true, true, true, true, true, true, true, true, true, true, true, true]] hx hb hr hlocks hP hD rfl (by decide +kernel) hS ⟨tJ_5, rfl, hT_7⟩ (g_177 bX6_chain rfl)
      · have hlt_11e : T_np tJ_5 = T_np tA := hT_7.2.2
        have hlt_11 : j_4 < T_np tA := by rw [hlt_11e] at c_9; exact lp_lt rfl rfl (by omega) (by omega) c_9
        obtain ⟨hlt_11i, hlt_11b, hlt_11p⟩ := id hT_7
        refine lv_aload_n hx hb (g_42 bX6_chain rfl) rfl (lv_at hl 1 rfl) ?_
        refine lv_iload_n hx hb (g_27 bX6_chain rfl) rfl (lv_at hl 0 rfl) ?_
        refine kRi (rV (As := [.int (nI j_4)]) (rest := []) (b := qm) ⟨hx, hb, hml, hown, hts⟩ (c_X6_isThere l G cy qm v0 v1 v2 v3 v4 v5 v6 v7 v8 v9 tJ_5 qmB qmO qmK iEn iTk v18 v19 v20 v21 v22 v23 v24 v25 v26 iLv iWs v29 v30 v31 v32 v33 v34 rO j_4 (by first | omega | (simp only [nb_sr, np_sr, nb_wr, np_wr, nb_rd, np_rd, nb_ch, np_ch, nb_zr, np_zr, nb_za, np_za, nb_ey, np_ey, nb_hf, np_hf, nb_dd, np_dd, nb_so, np_so, nb_skn, np_skn, nb_swh, np_swh, nb_sgn, np_sgn, nb_ssd, np_ssd, nb_sgo, np_sgo, nb_sag, np_sag]; omega))) L_X6_81 (preRV (q := (RX6, TX6, 35)) hN hP (trueIx 0 [true, false, false, false, false, false, false, false, false, false, true, true, true, true, true, true, true, true, true]) (sel_fm rfl rfl) 0 5 rfl rfl) rfl ⟨Nat.le_of_ble_eq_true rfl, Nat.le_of_ble_eq_true rfl⟩ hl.1 (Nat.le_of_ble_eq_true rfl) (g_182 (v := 81) bX6_chain rfl) ⟨Nat.le_of_ble_eq_true rfl, Nat.le_of_ble_eq_true rfl⟩) (fun r_12 h_13 => ?_)
        rcases h_13 with ⟨rfl, h_14⟩ | ⟨rfl, h_14⟩
        · refine lv_if_eq (tgt := 26) hx hb dX6_chain_15 (by decide +kernel) (fun h9 => absurd h9 (by decide +kernel)) (fun _ => ?_)
          refine lv_aload_n hx hb (g_42 bX6_chain rfl) rfl (lv_at hl 1 rfl) ?_
          refine lv_iload_n hx hb (g_27 bX6_chain rfl) rfl (lv_at hl 0 rfl) ?_
          refine kRi (rV (As := [.int (nI j_4)]) (rest := []) (b := qm) ⟨hx, hb, hml, hown, hts⟩ (c_X6_youngestBut l G cy qm v0 v1 v2 v3 v4 v5 v6 v7 v8 v9 tJ_5 qmB qmO qmK iEn iTk v18 v19 v20 v21 v22 v23 v24 v25 v26 iLv iWs v29 v30 v31 v32 v33 v34 rO (nI j_4) (by first | omega | (simp only [nb_sr, np_sr, nb_wr, np_wr, nb_rd, np_rd, nb_ch, np_ch, nb_zr, np_zr, nb_za, np_za, nb_ey, np_ey, nb_hf, np_hf, nb_dd, np_dd, nb_so, np_so, nb_skn, np_skn, nb_swh, np_swh, nb_sgn, np_sgn, nb_ssd, np_ssd, nb_sgo, np_sgo, nb_sag, np_sag]; omega))) L_X6_269 (preRV (q := (RX6, TX6, 35)) hN hP (trueIx 0 [true, false, false, false, false, false, false, false, false, false, true, true, true, true, true, true, true, true, true]) (sel_fm rfl rfl) 0 5 rfl rfl) rfl ⟨Nat.le_of_ble_eq_true rfl, Nat.le_of_ble_eq_true rfl⟩ hl.1 (Nat.le_of_ble_eq_true rfl) (g_182 (v := 269) bX6_chain rfl) ⟨Nat.le_of_ble_eq_true rfl, Nat.le_of_ble_eq_true rfl⟩) (fun r_16 h_17 => ?_)
          subst h_17
          refine lv_goto (tgt := 27) hx hb dX6_chain_23 (by decide +kernel) ?_
          refine lv_istore_n (lv' := [(2, .int (zyb tJ_5 (nI j_4))), (1, .int (nI j_4)), (0, .ref qm)]) hx hb (g_61 bX6_chain rfl) rfl hl (by decide +kernel) rfl (fun ls => ?_)
          clear hl
          intro hl
          refine lv_iconst (v := 0) hx hb (g_3 bX6_chain rfl) (by decide +kernel) ?_
          refine lv_istore_n (lv' := [(3, .int 0), (2, .int (zyb tJ_5 (nI j_4))), (1, .int (nI j_4)), (0, .ref qm)]) hx hb (g_62 bX6_chain rfl) rfl hl (by decide +kernel) rfl (fun ls => ?_)
          clear hl
          intro hl
          rcases yb_in tJ_5 (nI j_4) (T_np tJ_5) with ek_20 | ⟨k_18, hk_19, ek_20⟩
          · have ek_20 : zyb tJ_5 (nI j_4) = -1 := ek_20
            rw [ek_20] at hl
            refine lv_iload_n hx hb (g_29 bX6_chain rfl) rfl (lv_at hl 0 rfl) ?_
            refine lv_aload_n hx hb (g_42 bX6_chain rfl) rfl (lv_at hl 3 rfl) ?_
            refine va_get (D := G) (ci := 5) (v := .int (nI (T_nb tJ_5))) (C := RX6) (T := TX6) (N := 35) hx hb hts iX_X6 hown hK hP 0 rfl rfl 10 (by decide +kernel) (hts _ m_t860) (fun _ h9 => h9) rfl (g_180 (v := 71) bX6_chain rfl) ?_
            refine lv_icmp_ge (tgt := 67) hx hb dX6_chain_35 (by decide +kernel) (fun c_21 => ?_) (fun c_21 => ?_)
            · refine lv_iinc (v := nI (j_4 + 1)) (lv' := [(1, .int (nI (j_4 + 1))), (3, .int 0), (2, .int (-1)), (0, .ref qm)]) hx hb dX6_chain_67 hl (k := 2) rfl (nI_1 _) (by decide +kernel) rfl (fun ls => ?_)
              clear hl
              intro hl
              refine lv_goto (tgt := 2) hx hb dX6_chain_70 (by decide +kernel) ?_
              exact ih_3 (j_4 + 1) tJ_5 (by omega) (by omega) hT_7 _ _ _ hP hD hS (lv_sub hl [0, 3] rfl)
            · refine lv_iload_n hx hb (g_28 bX6_chain rfl) rfl (lv_at hl 1 rfl) ?_
              refine lv_iconst (v := (-1)) hx hb (g_2 bX6_chain rfl) (by decide +kernel) ?_
              refine lv_icmp_eq (tgt := 67) hx hb dX6_chain_40 (by decide +kernel) (fun _ => ?_) (fun h9 => absurd (by decide +kernel) h9)
              refine lv_iinc (v := nI (j_4 + 1)) (lv' := [(1, .int (nI (j_4 + 1))), (3, .int 0), (2, .int (-1)), (0, .ref qm)]) hx hb dX6_chain_67 hl (k := 2) rfl (nI_1 _) (by decide +kernel) rfl (fun ls => ?_)
              clear hl
              intro hl
              refine lv_goto (tgt := 2) hx hb dX6_chain_70 (by decide +kernel) ?_
              exact ih_3 (j_4 + 1) tJ_5 (by omega) (by omega) hT_7 _ _ _ hP hD hS (lv_sub hl [0, 3] rfl)
          · have ek_20 : zyb tJ_5 (nI j_4) = nI k_18 := ek_20
            rw [ek_20] at hl
            have lp_23 : ∀ (n_24 : Nat) (m_26 : Nat) (tK_27 : TA), 8 - m_26 < n_24 → m_26 ≤ T_nb tA → TI tK_27 ∧ T_nb tK_27 = T_nb tA ∧ T_np tK_27 = T_np tA → ∀ (H : Heap) (locs : List Loc) (ls : Array Slot), va_P G CL [zzO qm 5 (v0 :: v1 :: v2 :: v3 :: v4 :: v5 :: v6 :: v7 :: v8 :: v9 :: .int (nI (T_nb tK_27)) :: .ref qmB :: .int (nI (T_np tK_27)) :: .ref qmO :: .ref qmK :: .int iEn :: .int iTk :: .int (T_sd tK_27) :: v18 :: v19 :: v20 :: v21 :: v22 :: v23 :: v24 :: v25 :: v26 :: .int iLv :: .int iWs :: v29 :: v30 :: v31 :: v32 :: v33 :: v34 :: []), zzG cy 3 qmB rB, zzI cy (rB 0) 4 (bkR tK_27 0), zzI cy (rB 1) 4 (bkR tK_27 1), zzI cy (rB 2) 4 (bkR tK_27 2), zzI cy (rB 3) 4 (bkR tK_27 3), zzI cy (rB 4) 4 (bkR tK_27 4), zzI cy (rB 5) 4 (bkR tK_27 5), zzI cy (rB 6) 4 (bkR tK_27 6), zzI cy (rB 7) 4 (bkR tK_27 7), zzG cy 3 qmO rO, zzI cy (rO 0) 5 (onR tK_27 0), zzI cy (rO 1) 5 (onR tK_27 1), zzI cy (rO 2) 5 (onR tK_27 2), zzI cy (rO 3) 5 (onR tK_27 3), zzI cy (rO 4) 5 (onR tK_27 4), zzI cy (rO 5) 5 (onR tK_27 5), zzI cy (rO 6) 5 (onR tK_27 6), zzI cy (rO 7) 5 (onR tK_27 7), zzG cy 3 qmK rK, zzI cy (rK 0) 8 (T_kn tK_27 0), zzI cy (rK 1) 8 (T_kn tK_27 1), zzI cy (rK 2) 8 (T_kn tK_27 2), zzI cy (rK 3) 8 (T_kn tK_27 3), zzI cy (rK 4) 8 (T_kn tK_27 4), zzI cy (rK 5) 8 (T_kn tK_27 5), zzI cy (rK 6) 8 (T_kn tK_27 6), zzI cy (rK 7) 8 (T_kn tK_27 7)] H → va_D A [zzO qm 5 (v0 :: v1 :: v2 :: v3 :: v4 :: v5 :: v6 :: v7 :: v8 :: v9 :: .int (nI (T_nb tK_27)) :: .ref qmB :: .int (nI (T_np tK_27)) :: .ref qmO :: .ref qmK :: .int iEn :: .int iTk :: .int (T_sd tK_27) :: v18 :: v19 :: v20 :: v21 :: v22 :: v23 :: v24 :: v25 :: v26 :: .int iLv :: .int iWs :: v29 :: v30 :: v31 :: v32 :: v33 :: v34 :: []), zzG cy 3 qmB rB, zzI cy (rB 0) 4 (bkR tK_27 0), zzI cy (rB 1) 4 (bkR tK_27 1), zzI cy (rB 2) 4 (bkR tK_27 2), zzI cy (rB 3) 4 (bkR tK_27 3), zzI cy (rB 4) 4 (bkR tK_27 4), zzI cy (rB 5) 4 (bkR tK_27 5), zzI cy (rB 6) 4 (bkR tK_27 6), zzI cy (rB 7) 4 (bkR tK_27 7), zzG cy 3 qmO rO, zzI cy (rO 0) 5 (onR tK_27 0), zzI cy (rO 1) 5 (onR tK_27 1), zzI cy (rO 2) 5 (onR tK_27 2), zzI cy (rO 3) 5 (onR tK_27 3), zzI cy (rO 4) 5 (onR tK_27 4), zzI cy (rO 5) 5 (onR tK_27 5), zzI cy (rO 6) 5 (onR tK_27 6), zzI cy (rO 7) 5 (onR tK_27 7), zzG cy 3 qmK rK, zzI cy (rK 0) 8 (T_kn tK_27 0), zzI cy (rK 1) 8 (T_kn tK_27 1), zzI cy (rK 2) 8 (T_kn tK_27 2), zzI cy (rK 3) 8 (T_kn tK_27 3), zzI cy (rK 4) 8 (T_kn tK_27 4), zzI cy (rK 5) 8 (T_kn tK_27 5), zzI cy (rK 6) 8 (T_kn tK_27 6), zzI cy (rK 7) 8 (T_kn tK_27 7)] → va_S A s.heap H locs → lv_has ls 4 [(3, .int (nI m_26)), (2, .int (nI k_18)), (1, .int (nI j_4)), (0, .ref qm)] → W p l e (Rm 4 0 0) s m (List.toArray (α := Value) [.ref qm]) below meth c H locs 0 0 (MQ below ((Wv G (fun u => ∃ (tX : TA), u = [zzO qm 5 (v0 :: v1 :: v2 :: v3 :: v4 :: v5 :: v6 :: v7 :: v8 :: v9 :: .int (nI (T_nb tX)) :: .ref qmB :: .int (nI (T_np tX)) :: .ref qmO :: .ref qmK :: .int iEn :: .int iTk :: .int (T_sd tX) :: v18 :: v19 :: v20 :: v21 :: v22 :: v23 :: v24 :: v25 :: v26 :: .int iLv :: .int iWs :: v29 :: v30 :: v31 :: v32 :: v33 :: v34 :: []), zzG cy 3 qmB rB, zzI cy (rB 0) 4 (bkR tX 0), zzI cy (rB 1) 4 (bkR tX 1), zzI cy (rB 2) 4 (bkR tX 2), zzI cy (rB 3) 4 (bkR tX 3), zzI cy (rB 4) 4 (bkR tX 4), zzI cy (rB 5) 4 (bkR tX 5), zzI cy (rB 6) 4 (bkR tX 6), zzI cy (rB 7) 4 (bkR tX 7), zzG cy 3 qmO rO, zzI cy (rO 0) 5 (onR tX 0), zzI cy (rO 1) 5 (onR tX 1), zzI cy (rO 2) 5 (onR tX 2), zzI cy (rO 3) 5 (onR tX 3), zzI cy (rO 4) 5 (onR tX 4), zzI cy (rO 5) 5 (onR tX 5), zzI cy (rO 6) 5 (onR tX 6), zzI cy (rO 7) 5 (onR tX 7), zzG cy 3 qmK rK, zzI cy (rK 0) 8 (T_kn tX 0), zzI cy (rK 1) 8 (T_kn tX 1), zzI cy (rK 2) 8 (T_kn tX 2), zzI cy (rK 3) 8 (T_kn tX 3), zzI cy (rK 4) 8 (T_kn tX 4), zzI cy (rK 5) 8 (T_kn tX 5), zzI cy (rK 6) 8 (T_kn tX 6), zzI cy (rK 7) 8 (T_kn tX 7)] ∧ (TI tX ∧ T_nb tX = T_nb tA ∧ T_np tX = T_np tA))) A) (List.toArray (α := Value) [.ref qm]) s 0 0 A) (F0 m 30 ls []) := by
              intro n_24
              induction n_24 with
              | zero => intro m_26 tK_27 hm9; exact absurd hm9 (Nat.not_lt_zero _)
              | succ n_24 ih_25 =>
                intro m_26 tK_27 hm_30 hm_30 hTK_29 H locs ls hP hD hS hl
                refine lv_iload_n hx hb (g_29 bX6_chain rfl) rfl (lv_at hl 0 rfl) ?_
                refine lv_aload_n hx hb (g_42 bX6_chain rfl) rfl (lv_at hl 3 rfl) ?_
                refine va_get (D := G) (ci := 5) (v := .int (nI (T_nb tK_27))) (C := RX6) (T := TX6) (N := 35) hx hb hts iX_X6 hown hK hP 0 rfl rfl 10 (by decide +kernel) (hts _ m_t860) (fun _ h9 => h9) rfl (g_180 (v := 71) bX6_chain rfl) ?_
                refine lv_icmp_ge (tgt := 67) hx hb dX6_chain_35 (by decide +kernel) (fun c_31 => ?_) (fun c_31 => ?_)
                · have hlt_32e : T_nb tK_27 = T_nb tA := hTK_29.2.1
                  refine lv_iinc (v := nI (j_4 + 1)) (lv' := [(1, .int (nI (j_4 + 1))), (3, .int (nI m_26)), (2, .int (nI k_18)), (0, .ref qm)]) hx hb dX6_chain_67 hl (k := 2) rfl (nI_1 _) (by decide +kernel) rfl (fun ls => ?_)
                  clear hl
                  intro hl
                  refine lv_goto (tgt := 2) hx hb dX6_chain_70 (by decide +kernel) ?_
                  exact ih_3 (j_4 + 1) tK_27 (by omega) (by omega) hTK_29 _ _ _ hP hD hS (lv_sub hl [0, 3] rfl)
                · have hlt_33e : T_nb tK_27 = T_nb tA := hTK_29.2.1
                  have hlt_33 : m_26 < T_nb tA := by rw [hlt_33e] at c_31; exact lp_lt rfl rfl (by omega) (by omega) c_31
                  refine lv_iload_n hx hb (g_28 bX6_chain rfl) rfl (lv_at hl 1 rfl) ?_
                  refine lv_iconst (v := (-1)) hx hb (g_2 bX6_chain rfl) (by decide +kernel) ?_
                  refine lv_icmp_eq (tgt := 67) hx hb dX6_chain_40 (by decide +kernel) (fun c_34 => ?_) (fun c_34 => ?_)
                  · exact absurd c_34 (nI_ne1 (by omega))
                  · refine lv_aload_n hx hb (g_42 bX6_chain rfl) rfl (lv_at hl 3 rfl) ?_
                    refine va_get (D := G) (ci := 5) (v := .ref qmK) (C := RX6) (T := TX6) (N := 35) hx hb hts iX_X6 hown hK hP 0 rfl rfl 14 (by decide +kernel) (hts _ m_t864) (fun _ h9 => h9) rfl (g_180 (v := 48) bX6_chain rfl) ?_
                    refine lv_iload_n hx hb (g_28 bX6_chain rfl) rfl (lv_at hl 1 rfl) ?_
                    refine va_alda hx hb hK hP 19 3 rfl rfl (in8 (by omega)) (g_50 bX6_chain rfl) ?_
                    refine lv_setv (v := .ref (rK k_18)) (g_ref (by omega)) ?_
                    refine lv_iload_n hx hb (g_29 bX6_chain rfl) rfl (lv_at hl 0 rfl) ?_
                    refine lv_dup2_11 hx hb (g_92 bX6_chain rfl) rfl rfl ?_
                    refine va_iald hx hb hK hP (20 + k_18) 0 (sg8 (n0 := 20) (f := (fun j => zzI cy (rK j) 8 (T_kn tK_27 j))) rfl rfl rfl rfl rfl rfl rfl rfl k_18 (by omega)) rfl (vp_in_nI (by omega) (by omega)) (g_46 bX6_chain rfl) ?_
                    refine lv_seti (v := T_kn tK_27 k_18 m_26) (congrArg (T_kn tK_27 k_18) (nI_clamp (by omega))) ?_
                    refine lv_aload_n hx hb (g_42 bX6_chain rfl) rfl (lv_at hl 3 rfl) ?_
                    refine lv_iload_n hx hb (g_27 bX6_chain rfl) rfl (lv_at hl 2 rfl) ?_
                    refine lv_iload_n hx hb (g_28 bX6_chain rfl) rfl (lv_at hl 1 rfl) ?_
                    refine lv_iload_n hx hb (g_29 bX6_chain rfl) rfl (lv_at hl 0 rfl) ?_
                    refine kRi (rV (As := [.int (nI j_4), .int (nI k_18), .int (nI m_26)]) (rest := [.int (T_kn tK_27 k_18 m_26), .int (nI m_26), .ref (rK k_18)]) (b := qm) ⟨hx, hb, hml, hown, hts⟩ (c_X6_moreBy l G cy qm v0 v1 v2 v3 v4 v5 v6 v7 v8 v9 tK_27 qmB qmO qmK iEn iTk v18 v19 v20 v21 v22 v23 v24 v25 v26 iLv iWs v29 v30 v31 v32 v33 v34 rB rO rK j_4 k_18 m_26 (by first | omega | (simp only [nb_sr, np_sr, nb_wr, np_wr, nb_rd, np_rd, nb_ch, np_ch, nb_zr, np_zr, nb_za, np_za, nb_ey, np_ey, nb_hf, np_hf, nb_dd, np_dd, nb_so, np_so, nb_skn, np_skn, nb_swh, np_swh, nb_sgn, np_sgn, nb_ssd, np_ssd, nb_sgo, np_sgo, nb_sag, np_sag]; omega)) (by first | omega | (simp only [nb_sr, np_sr, nb_wr, np_wr, nb_rd, np_rd, nb_ch, np_ch, nb_zr, np_zr, nb_za, np_za, nb_ey, np_ey, nb_hf, np_hf, nb_dd, np_dd, nb_so, np_so, nb_skn, np_skn, nb_swh, np_swh, nb_sgn, np_sgn, nb_ssd, np_ssd, nb_sgo, np_sgo, nb_sag, np_sag]; omega)) (by first | omega | (simp only [nb_sr, np_sr, nb_wr, np_wr, nb_rd, np_rd, nb_ch, np_ch, nb_zr, np_zr, nb_za, np_za, nb_ey, np_ey, nb_hf, np_hf, nb_dd, np_dd, nb_so, np_so, nb_skn, np_skn, nb_swh, np_swh, nb_sgn, np_sgn, nb_ssd, np_ssd, nb_sgo, np_sgo, nb_sag, np_sag]; omega)) hTK_29.1) L_X6_263 (preRV (q := (RX6, TX6, 35)) hN hP (trueIx 0 [true, true, true, true, true, true, true, true, true, true, true, true, true, true, true, true, true, true, true, true, true, true, true, true, true, true, true, true]) (sel_fm rfl rfl) 0 5 rfl rfl) rfl ⟨Nat.le_of_ble_eq_true rfl, Nat.le_of_ble_eq_true rfl⟩ hl.1 (Nat.le_of_ble_eq_true rfl) (g_182 (v := 263) bX6_chain rfl) ⟨Nat.le_of_ble_eq_true rfl, Nat.le_of_ble_eq_true rfl⟩) (fun r_35 h_36 => ?_)
                    subst h_36
                    refine lv_iadd hx hb (g_96 bX6_chain rfl) ?_
                    refine va_iast hx hb hK hP hD hS (20 + k_18) 0 ((sg8 (n0 := 20) (f := (fun j => zzI cy (rK j) 8 (T_kn tK_27 j))) rfl rfl rfl rfl rfl rfl rfl rfl) k_18 (by omega)) rfl (vp_in_nI (by omega) (by omega)) (g_79 bX6_chain rfl) (fun H locs => ?_)
                    clear hP hD hS
                    intro hP hD hS
                    rw [nI_clamp (n := m_26) (by omega)] at hP hD
                    have hPD := st8PD (ws' := [zzO qm 5 (v0 :: v1 :: v2 :: v3 :: v4 :: v5 :: v6 :: v7 :: v8 :: v9 :: .int (nI (T_nb (T_setkn tK_27 (updM (T_kn tK_27) k_18 m_26 ((T_kn tK_27 k_18 m_26) + (zgt tK_27 j_4 k_18 m_26)))))) :: .ref qmB :: .int (nI (T_np (T_setkn tK_27 (updM (T_kn tK_27) k_18 m_26 ((T_kn tK_27 k_18 m_26) + (zgt tK_27 j_4 k_18 m_26)))))) :: .ref qmO :: .ref qmK :: .int iEn :: .int iTk :: .int (T_sd (T_setkn tK_27 (updM (T_kn tK_27) k_18 m_26 ((T_kn tK_27 k_18 m_26) + (zgt tK_27 j_4 k_18 m_26))))) :: v18 :: v19 :: v20 :: v21 :: v22 :: v23 :: v24 :: v25 :: v26 :: .int iLv :: .int iWs :: v29 :: v30 :: v31 :: v32 :: v33 :: v34 :: []), zzG cy 3 qmB rB, zzI cy (rB 0) 4 (bkR (T_setkn tK_27 (updM (T_kn tK_27) k_18 m_26 ((T_kn tK_27 k_18 m_26) + (zgt tK_27 j_4 k_18 m_26)))) 0), zzI cy (rB 1) 4 (bkR (T_setkn tK_27 (updM (T_kn tK_27) k_18 m_26 ((T_kn tK_27 k_18 m_26) + (zgt tK_27 j_4 k_18 m_26)))) 1), zzI cy (rB 2) 4 (bkR (T_setkn tK_27 (updM (T_kn tK_27) k_18 m_26 ((T_kn tK_27 k_18 m_26) + (zgt tK_27 j_4 k_18 m_26)))) 2), zzI cy (rB 3) 4 (bkR (T_setkn tK_27 (updM (T_kn tK_27) k_18 m_26 ((T_kn tK_27 k_18 m_26) + (zgt tK_27 j_4 k_18 m_26)))) 3), zzI cy (rB 4) 4 (bkR (T_setkn tK_27 (updM (T_kn tK_27) k_18 m_26 ((T_kn tK_27 k_18 m_26) + (zgt tK_27 j_4 k_18 m_26)))) 4), zzI cy (rB 5) 4 (bkR (T_setkn tK_27 (updM (T_kn tK_27) k_18 m_26 ((T_kn tK_27 k_18 m_26) + (zgt tK_27 j_4 k_18 m_26)))) 5), zzI cy (rB 6) 4 (bkR (T_setkn tK_27 (updM (T_kn tK_27) k_18 m_26 ((T_kn tK_27 k_18 m_26) + (zgt tK_27 j_4 k_18 m_26)))) 6), zzI cy (rB 7) 4 (bkR (T_setkn tK_27 (updM (T_kn tK_27) k_18 m_26 ((T_kn tK_27 k_18 m_26) + (zgt tK_27 j_4 k_18 m_26)))) 7), zzG cy 3 qmO rO, zzI cy (rO 0) 5 (onR (T_setkn tK_27 (updM (T_kn tK_27) k_18 m_26 ((T_kn tK_27 k_18 m_26) + (zgt tK_27 j_4 k_18 m_26)))) 0), zzI cy (rO 1) 5 (onR (T_setkn tK_27 (updM (T_kn tK_27) k_18 m_26 ((T_kn tK_27 k_18 m_26) + (zgt tK_27 j_4 k_18 m_26)))) 1), zzI cy (rO 2) 5 (onR (T_setkn tK_27 (updM (T_kn tK_27) k_18 m_26 ((T_kn tK_27 k_18 m_26) + (zgt tK_27 j_4 k_18 m_26)))) 2), zzI cy (rO 3) 5 (onR (T_setkn tK_27 (updM (T_kn tK_27) k_18 m_26 ((T_kn tK_27 k_18 m_26) + (zgt tK_27 j_4 k_18 m_26)))) 3), zzI cy (rO 4) 5 (onR (T_setkn tK_27 (updM (T_kn tK_27) k_18 m_26 ((T_kn tK_27 k_18 m_26) + (zgt tK_27 j_4 k_18 m_26)))) 4), zzI cy (rO 5) 5 (onR (T_setkn tK_27 (updM (T_kn tK_27) k_18 m_26 ((T_kn tK_27 k_18 m_26) + (zgt tK_27 j_4 k_18 m_26)))) 5), zzI cy (rO 6) 5 (onR (T_setkn tK_27 (updM (T_kn tK_27) k_18 m_26 ((T_kn tK_27 k_18 m_26) + (zgt tK_27 j_4 k_18 m_26)))) 6), zzI cy (rO 7) 5 (onR (T_setkn tK_27 (updM (T_kn tK_27) k_18 m_26 ((T_kn tK_27 k_18 m_26) + (zgt tK_27 j_4 k_18 m_26)))) 7), zzG cy 3 qmK rK, zzI cy (rK 0) 8 (T_kn (T_setkn tK_27 (updM (T_kn tK_27) k_18 m_26 ((T_kn tK_27 k_18 m_26) + (zgt tK_27 j_4 k_18 m_26)))) 0), zzI cy (rK 1) 8 (T_kn (T_setkn tK_27 (updM (T_kn tK_27) k_18 m_26 ((T_kn tK_27 k_18 m_26) + (zgt tK_27 j_4 k_18 m_26)))) 1), zzI cy (rK 2) 8 (T_kn (T_setkn tK_27 (updM (T_kn tK_27) k_18 m_26 ((T_kn tK_27 k_18 m_26) + (zgt tK_27 j_4 k_18 m_26)))) 2), zzI cy (rK 3) 8 (T_kn (T_setkn tK_27 (updM (T_kn tK_27) k_18 m_26 ((T_kn tK_27 k_18 m_26) + (zgt tK_27 j_4 k_18 m_26)))) 3), zzI cy (rK 4) 8 (T_kn (T_setkn tK_27 (updM (T_kn tK_27) k_18 m_26 ((T_kn tK_27 k_18 m_26) + (zgt tK_27 j_4 k_18 m_26)))) 4), zzI cy (rK 5) 8 (T_kn (T_setkn tK_27 (updM (T_kn tK_27) k_18 m_26 ((T_kn tK_27 k_18 m_26) + (zgt tK_27 j_4 k_18 m_26)))) 5), zzI cy (rK 6) 8 (T_kn (T_setkn tK_27 (updM (T_kn tK_27) k_18 m_26 ((T_kn tK_27 k_18 m_26) + (zgt tK_27 j_4 k_18 m_26)))) 6), zzI cy (rK 7) 8 (T_kn (T_setkn tK_27 (updM (T_kn tK_27) k_18 m_26 ((T_kn tK_27 k_18 m_26) + (zgt tK_27 j_4 k_18 m_26)))) 7)]) (k := k_18) (g1 := T_kn (T_setkn tK_27 (updM (T_kn tK_27) k_18 m_26 ((T_kn tK_27 k_18 m_26) + (zgt tK_27 j_4 k_18 m_26)))) k_18) hP hD (sg8 (n0 := 20) (f := (fun j => zzI cy (rK j) 8 (T_kn tK_27 j))) rfl rfl rfl rfl rfl rfl rfl rfl) (sg8 (n0 := 20) (f := (fun j => zzI cy (rK j) 8 (T_kn (T_setkn tK_27 (updM (T_kn tK_27) k_18 m_26 ((T_kn tK_27 k_18 m_26) + (zgt tK_27 j_4 k_18 m_26)))) j))) rfl rfl rfl rfl rfl rfl rfl rfl) rfl rfl (by omega) rfl (fun i _ => (congrFun (kn_u tK_27 k_18 m_26 ((T_kn tK_27 k_18 m_26) + (zgt tK_27 j_4 k_18 m_26))) i).symm) (fun j hj => congrArg (zzI cy (rK j) 8) (kn_n tK_27 k_18 m_26 ((T_kn tK_27 k_18 m_26) + (zgt tK_27 j_4 k_18 m_26)) hj))
                    clear hP hD
                    obtain ⟨hP, hD⟩ := hPD
                    refine lv_iinc (v := nI (m_26 + 1)) (lv' := [(3, .int (nI (m_26 + 1))), (2, .int (nI k_18)), (1, .int (nI j_4)), (0, .ref qm)]) hx hb dX6_chain_61 hl (k := 0) rfl (nI_1 _) (by decide +kernel) rfl (fun ls => ?_)
                    clear hl
                    intro hl
                    refine lv_goto (tgt := 30) hx hb dX6_chain_64 (by decide +kernel) ?_
                    exact ih_25 (m_26 + 1) (T_setkn tK_27 (updM (T_kn tK_27) k_18 m_26 ((T_kn tK_27 k_18 m_26) + (zgt tK_27 j_4 k_18 m_26)))) (by omega) (by omega) (⟨TI_tl hTK_29.1 _ _ _, hTK_29.2⟩) _ _ _ hP hD hS (lv_sub hl [0, 1, 2, 3] rfl)
            exact lp_23 ((8 - 0) + 1) 0 tJ_5 (Nat.lt_succ_self _) (Nat.zero_le _) hT_7 _ _ ls hP hD hS (lv_sub hl [0, 1, 2, 3] rfl)
        · refine lv_if_eq (tgt := 26) hx hb dX6_chain_15 (by decide +kernel) (fun _ => ?_) (fun h9 => absurd (by decide +kernel) h9)
          refine lv_iconst (v := (-1)) hx hb (g_2 bX6_chain rfl) (by decide +kernel) ?_
          refine lv_istore_n (lv' := [(2, .int (-1)), (1, .int (nI j_4)), (0, .ref qm)]) hx hb (g_61 bX6_chain rfl) rfl hl (by decide +kernel) rfl (fun ls => ?_)
          clear hl
          intro hl
          refine lv_iconst (v := 0) hx hb (g_3 bX6_chain rfl) (by decide +kernel) ?_
          refine lv_istore_n (lv' := [(3, .int 0), (2, .int (-1)), (1, .int (nI j_4)), (0, .ref qm)]) hx hb (g_62 bX6_chain rfl) rfl hl (by decide +kernel) rfl (fun ls => ?_)
          clear hl
          intro hl
          refine lv_iload_n hx hb (g_29 bX6_chain rfl) rfl (lv_at hl 0 rfl) ?_
          refine lv_aload_n hx hb (g_42 bX6_chain rfl) rfl (lv_at hl 3 rfl) ?_
          refine va_get (D := G) (ci := 5) (v := .int (nI (T_nb tJ_5))) (C := RX6) (T := TX6) (N := 35) hx hb hts iX_X6 hown hK hP 0 rfl rfl 10 (by decide +kernel) (hts _ m_t860) (fun _ h9 => h9) rfl (g_180 (v := 71) bX6_chain rfl) ?_
          refine lv_icmp_ge (tgt := 67) hx hb dX6_chain_35 (by decide +kernel) (fun c_38 => ?_) (fun c_38 => ?_)
          · refine lv_iinc (v := nI (j_4 + 1)) (lv' := [(1, .int (nI (j_4 + 1))), (3, .int 0), (2, .int (-1)), (0, .ref qm)]) hx hb dX6_chain_67 hl (k := 2) rfl (nI_1 _) (by decide +kernel) rfl (fun ls => ?_)
            clear hl
            intro hl
            refine lv_goto (tgt := 2) hx hb dX6_chain_70 (by decide +kernel) ?_
            exact ih_3 (j_4 + 1) tJ_5 (by omega) (by omega) hT_7 _ _ _ hP hD hS (lv_sub hl [0, 3] rfl)
          · refine lv_iload_n hx hb (g_28 bX6_chain rfl) rfl (lv_at hl 1 rfl) ?_
            refine lv_iconst (v := (-1)) hx hb (g_2 bX6_chain rfl) (by decide +kernel) ?_
            refine lv_icmp_eq (tgt := 67) hx hb dX6_chain_40 (by decide +kernel) (fun _ => ?_) (fun h9 => absurd (by decide +kernel) h9)
            refine lv_iinc (v := nI (j_4 + 1)) (lv' := [(1, .int (nI (j_4 + 1))), (3, .int 0), (2, .int (-1)), (0, .ref qm)]) hx hb dX6_chain_67 hl (k := 2) rfl (nI_1 _) (by decide +kernel) rfl (fun ls => ?_)
            clear hl
            intro hl
            refine lv_goto (tgt := 2) hx hb dX6_chain_70 (by decide +kernel) ?_
            exact ih_3 (j_4 + 1) tJ_5 (by omega) (by omega) hT_7 _ _ _ hP hD hS (lv_sub hl [0, 3] rfl)
  exact lp_1 ((8 - 0) + 1) 0 tA (Nat.lt_succ_self _) (Nat.zero_le _) (⟨hTI, rfl, rfl⟩) _ _ ls hP hD hS (lv_sub hl [0, 1] rfl)
set_option maxHeartbeats 4000000 in
set_option maxRecDepth 100000 in
theorem c_X6_does (l : Launch) (G : va_G) (cy : Nat → ClassId) (sz : Nat) (qm : Nat) (v0 : Value) (v1 : Value) (v2 : Value) (v3 : Value) (v4 : Value) (v5 : Value) (v6 : Value) (v7 : Value) (v8 : Value) (v9 : Value) (tA : TA) (qmB : Nat) (qmO : Nat) (qmK : Nat) (iEn : Int32) (iTk : Int32) (v18 : Value) (v19 : Value) (v20 : Value) (v21 : Value) (v22 : Value) (v23 : Value) (v24 : Value) (v25 : Value) (v26 : Value) (iLv : Int32) (iWs : Int32) (v29 : Value) (v30 : Value) (v31 : Value) (v32 : Value) (v33 : Value) (v34 : Value) (rB : Nat → Nat) (rO : Nat → Nat) (rK : Nat → Nat) (iK : Int32) (kM : Nat)  (hB : T_nb tA ≤ 8) (hPp : T_np tA ≤ 8) (hTI : TI tA) (hM : kM ≤ 99) : MW l yX6_does cX6_does 3 (some .int) 7 0 0 G cy [zzO qm 5 (v0 :: v1 :: v2 :: v3 :: v4 :: v5 :: v6 :: v7 :: v8 :: v9 :: .int (nI (T_nb tA)) :: .ref qmB :: .int (nI (T_np tA)) :: .ref qmO :: .ref qmK :: .int iEn :: .int iTk :: .int (T_sd tA) :: v18 :: v19 :: v20 :: v21 :: v22 :: v23 :: v24 :: v25 :: v26 :: .int iLv :: .int iWs :: v29 :: v30 :: v31 :: v32 :: v33 :: v34 :: []), zzG cy 3 qmB rB, zzI cy (rB 0) 4 (bkR tA 0), zzI cy (rB 1) 4 (bkR tA 1), zzI cy (rB 2) 4 (bkR tA 2), zzI cy (rB 3) 4 (bkR tA 3), zzI cy (rB 4) 4 (bkR tA 4), zzI cy (rB 5) 4 (bkR tA 5), zzI cy (rB 6) 4 (bkR tA 6), zzI cy (rB 7) 4 (bkR tA 7), zzG cy 3 qmO rO, zzI cy (rO 0) 5 (onR tA 0), zzI cy (rO 1) 5 (onR tA 1), zzI cy (rO 2) 5 (onR tA 2), zzI cy (rO 3) 5 (onR tA 3), zzI cy (rO 4) 5 (onR tA 4), zzI cy (rO 5) 5 (onR tA 5), zzI cy (rO 6) 5 (onR tA 6), zzI cy (rO 7) 5 (onR tA 7), zzG cy 3 qmK rK, zzI cy (rK 0) 8 (T_kn tA 0), zzI cy (rK 1) 8 (T_kn tA 1), zzI cy (rK 2) 8 (T_kn tA 2), zzI cy (rK 3) 8 (T_kn tA 3), zzI cy (rK 4) 8 (T_kn tA 4), zzI cy (rK 5) 8 (T_kn tA 5), zzI cy (rK 6) 8 (T_kn tA 6), zzI cy (rK 7) 8 (T_kn tA 7)] sz [.ref qm, .int iK, .int (nI kM)] (Wi G (fun r u => ∃ (tX : TA), u = [zzO qm 5 (v0 :: v1 :: v2 :: v3 :: v4 :: v5 :: v6 :: v7 :: v8 :: v9 :: .int (nI (T_nb tX)) :: .ref qmB :: .int (nI (T_np tX)) :: .ref qmO :: .ref qmK :: .int iEn :: .int iTk :: .int (T_sd tX) :: v18 :: v19 :: v20 :: v21 :: v22 :: v23 :: v24 :: v25 :: v26 :: .int iLv :: .int iWs :: v29 :: v30 :: v31 :: v32 :: v33 :: v34 :: []), zzG cy 3 qmB rB, zzI cy (rB 0) 4 (bkR tX 0), zzI cy (rB 1) 4 (bkR tX 1), zzI cy (rB 2) 4 (bkR tX 2), zzI cy (rB 3) 4 (bkR tX 3), zzI cy (rB 4) 4 (bkR tX 4), zzI cy (rB 5) 4 (bkR tX 5), zzI cy (rB 6) 4 (bkR tX 6), zzI cy (rB 7) 4 (bkR tX 7), zzG cy 3 qmO rO, zzI cy (rO 0) 5 (onR tX 0), zzI cy (rO 1) 5 (onR tX 1), zzI cy (rO 2) 5 (onR tX 2), zzI cy (rO 3) 5 (onR tX 3), zzI cy (rO 4) 5 (onR tX 4), zzI cy (rO 5) 5 (onR tX 5), zzI cy (rO 6) 5 (onR tX 6), zzI cy (rO 7) 5 (onR tX 7), zzG cy 3 qmK rK, zzI cy (rK 0) 8 (T_kn tX 0), zzI cy (rK 1) 8 (T_kn tX 1), zzI cy (rK 2) 8 (T_kn tX 2), zzI cy (rK 3) 8 (T_kn tX 3), zzI cy (rK 4) 8 (T_kn tX 4), zzI cy (rK 5) 8 (T_kn tX 5), zzI cy (rK 6) 8 (T_kn tX 6), zzI cy (rK 7) 8 (T_kn tX 7)] ∧ (TI tX ∧ T_nb tX = T_nb tA ∧ T_np tX = T_np tA) ∧ (True))) := by
  refine enW RX6 (by decide +kernel) rfl (Nat.le_of_ble_eq_true rfl) (fun p e s m below meth c ls A hx hb hml hown hts hr hlocks hP hN hl hin hD hA hS => ?_)
  have hin : meth.name = _ := hin
  have hK := hN.1
  replace hl : lv_has ls 3 [(0, .ref qm), (1, .int iK), (2, .int (nI kM))] := hl
  refine lv_iload_n hx hb (g_27 bX6_does rfl) rfl (lv_at hl 1 rfl) ?_
  rcases sw_1_5 iK with rfl | rfl | rfl | rfl | rfl | h_1
  · refine lv_tableIn (tgt := 36) (off := 35) hx hb dX6_does_1 (by decide +kernel) (by decide +kernel) (by decide +kernel) (by decide +kernel) ?_
    refine lv_aload_n hx hb (g_42 bX6_does rfl) rfl (lv_at hl 0 rfl) ?_
    refine lv_bipush (v := 8) hx hb dX6_does_37 (by decide +kernel) ?_
    refine lv_iconst (v := 0) hx hb (g_3 bX6_does rfl) (by decide +kernel) ?_
    refine cVi (As := [.int 8, .int 0]) (rest := []) (b := qm) (q := (RX6, TX6, 35)) ⟨hx, hb, hml, hown, hts⟩ (c_X6_readMost8 l G cy (s.heap).size qm v0 v1 v2 v3 v4 v5 v6 v7 v8 v9 tA qmB qmO qmK iEn iTk v18 v19 v20 v21 v22 v23 v24 v25 v26 iLv iWs v29 v30 v31 v32 v33 v34 rB rO rK 0 hB hPp hTI) L_X6_278 hN hP hD hS hA (trueIx 0 [true, true, true, true, true, true, true, true, true, true, true, true, true, true, true, true, true, true, true, true, true, true, true, true, true, true, true, true]) [false, false, false, false, false, false, false, false, false, false, false, false, false, false, false, false, false, false, false, false, false, false, false, false, false, false, false, false] (sel_eq rfl rfl) (by decide +kernel) rfl 0 5 rfl rfl rfl ⟨Nat.le_of_ble_eq_true rfl, Nat.le_of_ble_eq_true rfl⟩ hl.1 (Nat.le_of_ble_eq_true rfl) (g_182 (v := 278) bX6_does rfl) ⟨Nat.le_of_ble_eq_true rfl, Nat.le_of_ble_eq_true rfl⟩ (fun r_2 u_4 H locs h_3 => ?_)
    clear hP hD hS
    intro hP hD hS
    obtain ⟨tX_5, hu9, h_6, h_3⟩ := h_3
    have hPD := pd_eq [zzO qm 5 (v0 :: v1 :: v2 :: v3 :: v4 :: v5 :: v6 :: v7 :: v8 :: v9 :: .int (nI (T_nb tX_5)) :: .ref qmB :: .int (nI (T_np tX_5)) :: .ref qmO :: .ref qmK :: .int iEn :: .int iTk :: .int (T_sd tX_5) :: v18 :: v19 :: v20 :: v21 :: v22 :: v23 :: v24 :: v25 :: v26 :: .int iLv :: .int iWs :: v29 :: v30 :: v31 :: v32 :: v33 :: v34 :: []), _, zzI cy (rB 0) 4 (bkR tX_5 0), zzI cy (rB 1) 4 (bkR tX_5 1), zzI cy (rB 2) 4 (bkR tX_5 2), zzI cy (rB 3) 4 (bkR tX_5 3), zzI cy (rB 4) 4 (bkR tX_5 4), zzI cy (rB 5) 4 (bkR tX_5 5), zzI cy (rB 6) 4 (bkR tX_5 6), zzI cy (rB 7) 4 (bkR tX_5 7), _, zzI cy (rO 0) 5 (onR tX_5 0), zzI cy (rO 1) 5 (onR tX_5 1), zzI cy (rO 2) 5 (onR tX_5 2), zzI cy (rO 3) 5 (onR tX_5 3), zzI cy (rO 4) 5 (onR tX_5 4), zzI cy (rO 5) 5 (onR tX_5 5), zzI cy (rO 6) 5 (onR tX_5 6), zzI cy (rO 7) 5 (onR tX_5 7), _, zzI cy (rK 0) 8 (T_kn tX_5 0), zzI cy (rK 1) 8 (T_kn tX_5 1), zzI cy (rK 2) 8 (T_kn tX_5 2), zzI cy (rK 3) 8 (T_kn tX_5 3), zzI cy (rK 4) 8 (T_kn tX_5 4), zzI cy (rK 5) 8 (T_kn tX_5 5), zzI cy (rK 6) 8 (T_kn tX_5 6), zzI cy (rK 7) 8 (T_kn tX_5 7)] hP hD hu9 rfl
    clear hP hD hu9
    obtain ⟨hP, hD⟩ := hPD
    exact endWs [[true, true, true, true, true, true, true, true, true, true, true, true, true, true, true, true, true, true, true, true, true, true, true, true, true, true, true, true]] hx hb hr hlocks rfl hP hD rfl (by decide +kernel) hS ⟨tX_5, rfl, h_6, trivial⟩ (g_172 bX6_does rfl)
  · refine lv_tableIn (tgt := 44) (off := 43) hx hb dX6_does_1 (by decide +kernel) (by decide +kernel) (by decide +kernel) (by decide +kernel) ?_
    refine lv_aload_n hx hb (g_42 bX6_does rfl) rfl (lv_at hl 0 rfl) ?_
    refine lv_iload_n hx hb (g_28 bX6_does rfl) rfl (lv_at hl 2 rfl) ?_
    refine lv_iconst (v := 0) hx hb (g_3 bX6_does rfl) (by decide +kernel) ?_
    refine cVi (As := [.int (nI kM), .int 0]) (rest := []) (b := qm) (q := (RX6, TX6, 35)) ⟨hx, hb, hml, hown, hts⟩ (c_X6_readMost l G cy (s.heap).size qm v0 v1 v2 v3 v4 v5 v6 v7 v8 v9 tA qmB qmO qmK iEn iTk v18 v19 v20 v21 v22 v23 v24 v25 v26 iLv iWs v29 v30 v31 v32 v33 v34 rB rO rK kM 0 hB hPp hTI hM) L_X6_278 hN hP hD hS hA (trueIx 0 [true, true, true, true, true, true, true, true, true, true, true, true, true, true, true, true, true, true, true, true, true, true, true, true, true, true, true, true]) [false, false, false, false, false, false, false, false, false, false, false, false, false, false, false, false, false, false, false, false, false, false, false, false, false, false, false, false] (sel_eq rfl rfl) (by decide +kernel) rfl 0 5 rfl rfl rfl ⟨Nat.le_of_ble_eq_true rfl, Nat.le_of_ble_eq_true rfl⟩ hl.1 (Nat.le_of_ble_eq_true rfl) (g_182 (v := 278) bX6_does rfl) ⟨Nat.le_of_ble_eq_true rfl, Nat.le_of_ble_eq_true rfl⟩ (fun r_7 u_9 H locs h_8 => ?_)
    clear hP hD hS
    intro hP hD hS
    obtain ⟨tX_10, hu9, h_11, h_8⟩ := h_8
    have hPD := pd_eq [zzO qm 5 (v0 :: v1 :: v2 :: v3 :: v4 :: v5 :: v6 :: v7 :: v8 :: v9 :: .int (nI (T_nb tX_10)) :: .ref qmB :: .int (nI (T_np tX_10)) :: .ref qmO :: .ref qmK :: .int iEn :: .int iTk :: .int (T_sd tX_10) :: v18 :: v19 :: v20 :: v21 :: v22 :: v23 :: v24 :: v25 :: v26 :: .int iLv :: .int iWs :: v29 :: v30 :: v31 :: v32 :: v33 :: v34 :: []), _, zzI cy (rB 0) 4 (bkR tX_10 0), zzI cy (rB 1) 4 (bkR tX_10 1), zzI cy (rB 2) 4 (bkR tX_10 2), zzI cy (rB 3) 4 (bkR tX_10 3), zzI cy (rB 4) 4 (bkR tX_10 4), zzI cy (rB 5) 4 (bkR tX_10 5), zzI cy (rB 6) 4 (bkR tX_10 6), zzI cy (rB 7) 4 (bkR tX_10 7), _, zzI cy (rO 0) 5 (onR tX_10 0), zzI cy (rO 1) 5 (onR tX_10 1), zzI cy (rO 2) 5 (onR tX_10 2), zzI cy (rO 3) 5 (onR tX_10 3), zzI cy (rO 4) 5 (onR tX_10 4), zzI cy (rO 5) 5 (onR tX_10 5), zzI cy (rO 6) 5 (onR tX_10 6), zzI cy (rO 7) 5 (onR tX_10 7), _, zzI cy (rK 0) 8 (T_kn tX_10 0), zzI cy (rK 1) 8 (T_kn tX_10 1), zzI cy (rK 2) 8 (T_kn tX_10 2), zzI cy (rK 3) 8 (T_kn tX_10 3), zzI cy (rK 4) 8 (T_kn tX_10 4), zzI cy (rK 5) 8 (T_kn tX_10 5), zzI cy (rK 6) 8 (T_kn tX_10 6), zzI cy (rK 7) 8 (T_kn tX_10 7)] hP hD hu9 rfl
    clear hP hD hu9
    obtain ⟨hP, hD⟩ := hPD
    exact endWs [[true, true, true, true, true, true, true, true, true, true, true, true, true, true, true, true, true, true, true, true, true, true, true, true, true, true, true, true]] hx hb hr hlocks rfl hP hD rfl (by decide +kernel) hS ⟨tX_10, rfl, h_11, trivial⟩ (g_172 bX6_does rfl)
  · refine lv_tableIn (tgt := 51) (off := 50) hx hb dX6_does_1 (by decide +kernel) (by decide +kernel) (by decide +kernel) (by decide +kernel) ?_
    refine lv_aload_n hx hb (g_42 bX6_does rfl) rfl (lv_at hl 0 rfl) ?_
    refine lv_bipush (v := 8) hx hb dX6_does_52 (by decide +kernel) ?_
    refine lv_iconst (v := 1) hx hb (g_4 bX6_does rfl) (by decide +kernel) ?_
    refine cVi (As := [.int 8, .int 1]) (rest := []) (b := qm) (q := (RX6, TX6, 35)) ⟨hx, hb, hml, hown, hts⟩ (c_X6_readMost8 l G cy (s.heap).size qm v0 v1 v2 v3 v4 v5 v6 v7 v8 v9 tA qmB qmO qmK iEn iTk v18 v19 v20 v21 v22 v23 v24 v25 v26 iLv iWs v29 v30 v31 v32 v33 v34 rB rO rK 1 hB hPp hTI) L_X6_278 hN hP hD hS hA (trueIx 0 [true, true, true, true, true, true, true, true, true, true, true, true, true, true, true, true, true, true, true, true, true, true, true, true, true, true, true, true]) [false, false, false, false, false, false, false, false, false, false, false, false, false, false, false, false, false, false, false, false, false, false, false, false, false, false, false, false] (sel_eq rfl rfl) (by decide +kernel) rfl 0 5 rfl rfl rfl ⟨Nat.le_of_ble_eq_true rfl, Nat.le_of_ble_eq_true rfl⟩ hl.1 (Nat.le_of_ble_eq_true rfl) (g_182 (v := 278) bX6_does rfl) ⟨Nat.le_of_ble_eq_true rfl, Nat.le_of_ble_eq_true rfl⟩ (fun r_12 u_14 H locs h_13 => ?_)
    clear hP hD hS
    intro hP hD hS
    obtain ⟨tX_15, hu9, h_16, h_13⟩ := h_13
    have hPD := pd_eq [zzO qm 5 (v0 :: v1 :: v2 :: v3 :: v4 :: v5 :: v6 :: v7 :: v8 :: v9 :: .int (nI (T_nb tX_15)) :: .ref qmB :: .int (nI (T_np tX_15)) :: .ref qmO :: .ref qmK :: .int iEn :: .int iTk :: .int (T_sd tX_15) :: v18 :: v19 :: v20 :: v21 :: v22 :: v23 :: v24 :: v25 :: v26 :: .int iLv :: .int iWs :: v29 :: v30 :: v31 :: v32 :: v33 :: v34 :: []), _, zzI cy (rB 0) 4 (bkR tX_15 0), zzI cy (rB 1) 4 (bkR tX_15 1), zzI cy (rB 2) 4 (bkR tX_15 2), zzI cy (rB 3) 4 (bkR tX_15 3), zzI cy (rB 4) 4 (bkR tX_15 4), zzI cy (rB 5) 4 (bkR tX_15 5), zzI cy (rB 6) 4 (bkR tX_15 6), zzI cy (rB 7) 4 (bkR tX_15 7), _, zzI cy (rO 0) 5 (onR tX_15 0), zzI cy (rO 1) 5 (onR tX_15 1), zzI cy (rO 2) 5 (onR tX_15 2), zzI cy (rO 3) 5 (onR tX_15 3), zzI cy (rO 4) 5 (onR tX_15 4), zzI cy (rO 5) 5 (onR tX_15 5), zzI cy (rO 6) 5 (onR tX_15 6), zzI cy (rO 7) 5 (onR tX_15 7), _, zzI cy (rK 0) 8 (T_kn tX_15 0), zzI cy (rK 1) 8 (T_kn tX_15 1), zzI cy (rK 2) 8 (T_kn tX_15 2), zzI cy (rK 3) 8 (T_kn tX_15 3), zzI cy (rK 4) 8 (T_kn tX_15 4), zzI cy (rK 5) 8 (T_kn tX_15 5), zzI cy (rK 6) 8 (T_kn tX_15 6), zzI cy (rK 7) 8 (T_kn tX_15 7)] hP hD hu9 rfl
    clear hP hD hu9
    obtain ⟨hP, hD⟩ := hPD
    exact endWs [[true, true, true, true, true, true, true, true, true, true, true, true, true, true, true, true, true, true, true, true, true, true, true, true, true, true, true, true]] hx hb hr hlocks rfl hP hD rfl (by decide +kernel) hS ⟨tX_15, rfl, h_16, trivial⟩ (g_172 bX6_does rfl)
  · refine lv_tableIn (tgt := 59) (off := 58) hx hb dX6_does_1 (by decide +kernel) (by decide +kernel) (by decide +kernel) (by decide +kernel) ?_
    refine lv_aload_n hx hb (g_42 bX6_does rfl) rfl (lv_at hl 0 rfl) ?_
    refine cVv (As := []) (rest := []) (b := qm) (q := (RX6, TX6, 35)) ⟨hx, hb, hml, hown, hts⟩ (c_X6_chain l G cy (s.heap).size qm v0 v1 v2 v3 v4 v5 v6 v7 v8 v9 tA qmB qmO qmK iEn iTk v18 v19 v20 v21 v22 v23 v24 v25 v26 iLv iWs v29 v30 v31 v32 v33 v34 rB rO rK hB hPp hTI) L_X6_282 hN hP hD hS hA (trueIx 0 [true, true, true, true, true, true, true, true, true, true, true, true, true, true, true, true, true, true, true, true, true, true, true, true, true, true, true, true]) [false, false, false, false, false, false, false, false, false, false, false, false, false, false, false, false, false, false, false, false, false, false, false, false, false, false, false, false] (sel_eq rfl rfl) (by decide +kernel) rfl 0 5 rfl rfl rfl ⟨Nat.le_of_ble_eq_true rfl, Nat.le_of_ble_eq_true rfl⟩ hl.1 (Nat.le_of_ble_eq_true rfl) (g_182 (v := 282) bX6_does rfl) ⟨Nat.le_of_ble_eq_true rfl, Nat.le_of_ble_eq_true rfl⟩ (fun u_19 H locs h_18 => ?_)
    clear hP hD hS
    intro hP hD hS
    obtain ⟨tX_20, hu9, h_21⟩ := h_18
    have hPD := pd_eq [zzO qm 5 (v0 :: v1 :: v2 :: v3 :: v4 :: v5 :: v6 :: v7 :: v8 :: v9 :: .int (nI (T_nb tX_20)) :: .ref qmB :: .int (nI (T_np tX_20)) :: .ref qmO :: .ref qmK :: .int iEn :: .int iTk :: .int (T_sd tX_20) :: v18 :: v19 :: v20 :: v21 :: v22 :: v23 :: v24 :: v25 :: v26 :: .int iLv :: .int iWs :: v29 :: v30 :: v31 :: v32 :: v33 :: v34 :: []), _, zzI cy (rB 0) 4 (bkR tX_20 0), zzI cy (rB 1) 4 (bkR tX_20 1), zzI cy (rB 2) 4 (bkR tX_20 2), zzI cy (rB 3) 4 (bkR tX_20 3), zzI cy (rB 4) 4 (bkR tX_20 4), zzI cy (rB 5) 4 (bkR tX_20 5), zzI cy (rB 6) 4 (bkR tX_20 6), zzI cy (rB 7) 4 (bkR tX_20 7), _, zzI cy (rO 0) 5 (onR tX_20 0), zzI cy (rO 1) 5 (onR tX_20 1), zzI cy (rO 2) 5 (onR tX_20 2), zzI cy (rO 3) 5 (onR tX_20 3), zzI cy (rO 4) 5 (onR tX_20 4), zzI cy (rO 5) 5 (onR tX_20 5), zzI cy (rO 6) 5 (onR tX_20 6), zzI cy (rO 7) 5 (onR tX_20 7), _, zzI cy (rK 0) 8 (T_kn tX_20 0), zzI cy (rK 1) 8 (T_kn tX_20 1), zzI cy (rK 2) 8 (T_kn tX_20 2), zzI cy (rK 3) 8 (T_kn tX_20 3), zzI cy (rK 4) 8 (T_kn tX_20 4), zzI cy (rK 5) 8 (T_kn tX_20 5), zzI cy (rK 6) 8 (T_kn tX_20 6), zzI cy (rK 7) 8 (T_kn tX_20 7)] hP hD hu9 rfl
    clear hP hD hu9
    obtain ⟨hP, hD⟩ := hPD
    refine lv_iconst (v := 0) hx hb (g_3 bX6_does rfl) (by decide +kernel) ?_
    exact endWs [[true, true, true, true, true, true, true, true, true, true, true, true, true, true, true, true, true, true, true, true, true, true, true, true, true, true, true, true]] hx hb hr hlocks rfl hP hD rfl (by decide +kernel) hS ⟨tX_20, rfl, h_21, trivial⟩ (g_172 bX6_does rfl)
  · refine lv_tableIn (tgt := 65) (off := 64) hx hb dX6_does_1 (by decide +kernel) (by decide +kernel) (by decide +kernel) (by decide +kernel) ?_
    refine lv_aload_n hx hb (g_42 bX6_does rfl) rfl (lv_at hl 0 rfl) ?_
    refine cVv (As := []) (rest := []) (b := qm) (q := (RX6, TX6, 35)) ⟨hx, hb, hml, hown, hts⟩ (c_X6_chain l G cy (s.heap).size qm v0 v1 v2 v3 v4 v5 v6 v7 v8 v9 tA qmB qmO qmK iEn iTk v18 v19 v20 v21 v22 v23 v24 v25 v26 iLv iWs v29 v30 v31 v32 v33 v34 rB rO rK hB hPp hTI) L_X6_282 hN hP hD hS hA (trueIx 0 [true, true, true, true, true, true, true, true, true, true, true, true, true, true, true, true, true, true, true, true, true, true, true, true, true, true, true, true]) [false, false, false, false, false, false, false, false, false, false, false, false, false, false, false, false, false, false, false, false, false, false, false, false, false, false, false, false] (sel_eq rfl rfl) (by decide +kernel) rfl 0 5 rfl rfl rfl ⟨Nat.le_of_ble_eq_true rfl, Nat.le_of_ble_eq_true rfl⟩ hl.1 (Nat.le_of_ble_eq_true rfl) (g_182 (v := 282) bX6_does rfl) ⟨Nat.le_of_ble_eq_true rfl, Nat.le_of_ble_eq_true rfl⟩ (fun u_24 H locs h_23 => ?_)
    clear hP hD hS
    intro hP hD hS
    obtain ⟨tX_25, hu9, h_26⟩ := h_23
    have hPD := pd_eq [zzO qm 5 (v0 :: v1 :: v2 :: v3 :: v4 :: v5 :: v6 :: v7 :: v8 :: v9 :: .int (nI (T_nb tX_25)) :: .ref qmB :: .int (nI (T_np tX_25)) :: .ref qmO :: .ref qmK :: .int iEn :: .int iTk :: .int (T_sd tX_25) :: v18 :: v19 :: v20 :: v21 :: v22 :: v23 :: v24 :: v25 :: v26 :: .int iLv :: .int iWs :: v29 :: v30 :: v31 :: v32 :: v33 :: v34 :: []), _, zzI cy (rB 0) 4 (bkR tX_25 0), zzI cy (rB 1) 4 (bkR tX_25 1), zzI cy (rB 2) 4 (bkR tX_25 2), zzI cy (rB 3) 4 (bkR tX_25 3), zzI cy (rB 4) 4 (bkR tX_25 4), zzI cy (rB 5) 4 (bkR tX_25 5), zzI cy (rB 6) 4 (bkR tX_25 6), zzI cy (rB 7) 4 (bkR tX_25 7), _, zzI cy (rO 0) 5 (onR tX_25 0), zzI cy (rO 1) 5 (onR tX_25 1), zzI cy (rO 2) 5 (onR tX_25 2), zzI cy (rO 3) 5 (onR tX_25 3), zzI cy (rO 4) 5 (onR tX_25 4), zzI cy (rO 5) 5 (onR tX_25 5), zzI cy (rO 6) 5 (onR tX_25 6), zzI cy (rO 7) 5 (onR tX_25 7), _, zzI cy (rK 0) 8 (T_kn tX_25 0), zzI cy (rK 1) 8 (T_kn tX_25 1), zzI cy (rK 2) 8 (T_kn tX_25 2), zzI cy (rK 3) 8 (T_kn tX_25 3), zzI cy (rK 4) 8 (T_kn tX_25 4), zzI cy (rK 5) 8 (T_kn tX_25 5), zzI cy (rK 6) 8 (T_kn tX_25 6), zzI cy (rK 7) 8 (T_kn tX_25 7)] hP hD hu9 rfl
    clear hP hD hu9
    obtain ⟨hP, hD⟩ := hPD
    refine lv_aload_n hx hb (g_42 bX6_does rfl) rfl (lv_at hl 0 rfl) ?_
    refine cVv (As := []) (rest := []) (b := qm) (q := (RX6, TX6, 35)) ⟨hx, hb, hml, hown, hts⟩ (c_X6_chain l G cy (H).size qm v0 v1 v2 v3 v4 v5 v6 v7 v8 v9 tX_25 qmB qmO qmK iEn iTk v18 v19 v20 v21 v22 v23 v24 v25 v26 iLv iWs v29 v30 v31 v32 v33 v34 rB rO rK (by have := h_26; omega) (by have := h_26; omega) h_26.1) L_X6_282 hN hP hD hS hA (trueIx 0 [true, true, true, true, true, true, true, true, true, true, true, true, true, true, true, true, true, true, true, true, true, true, true, true, true, true, true, true]) [false, false, false, false, false, false, false, false, false, false, false, false, false, false, false, false, false, false, false, false, false, false, false, false, false, false, false, false] (sel_eq rfl rfl) (by decide +kernel) rfl 0 5 rfl rfl rfl ⟨Nat.le_of_ble_eq_true rfl, Nat.le_of_ble_eq_true rfl⟩ hl.1 (Nat.le_of_ble_eq_true rfl) (g_182 (v := 282) bX6_does rfl) ⟨Nat.le_of_ble_eq_true rfl, Nat.le_of_ble_eq_true rfl⟩ (fun u_29 H locs h_28 => ?_)
    clear hP hD hS
    intro hP hD hS
    obtain ⟨tX_30, hu9, h_31⟩ := h_28
    have hPD := pd_eq [zzO qm 5 (v0 :: v1 :: v2 :: v3 :: v4 :: v5 :: v6 :: v7 :: v8 :: v9 :: .int (nI (T_nb tX_30)) :: .ref qmB :: .int (nI (T_np tX_30)) :: .ref qmO :: .ref qmK :: .int iEn :: .int iTk :: .int (T_sd tX_30) :: v18 :: v19 :: v20 :: v21 :: v22 :: v23 :: v24 :: v25 :: v26 :: .int iLv :: .int iWs :: v29 :: v30 :: v31 :: v32 :: v33 :: v34 :: []), _, zzI cy (rB 0) 4 (bkR tX_30 0), zzI cy (rB 1) 4 (bkR tX_30 1), zzI cy (rB 2) 4 (bkR tX_30 2), zzI cy (rB 3) 4 (bkR tX_30 3), zzI cy (rB 4) 4 (bkR tX_30 4), zzI cy (rB 5) 4 (bkR tX_30 5), zzI cy (rB 6) 4 (bkR tX_30 6), zzI cy (rB 7) 4 (bkR tX_30 7), _, zzI cy (rO 0) 5 (onR tX_30 0), zzI cy (rO 1) 5 (onR tX_30 1), zzI cy (rO 2) 5 (onR tX_30 2), zzI cy (rO 3) 5 (onR tX_30 3), zzI cy (rO 4) 5 (onR tX_30 4), zzI cy (rO 5) 5 (onR tX_30 5), zzI cy (rO 6) 5 (onR tX_30 6), zzI cy (rO 7) 5 (onR tX_30 7), _, zzI cy (rK 0) 8 (T_kn tX_30 0), zzI cy (rK 1) 8 (T_kn tX_30 1), zzI cy (rK 2) 8 (T_kn tX_30 2), zzI cy (rK 3) 8 (T_kn tX_30 3), zzI cy (rK 4) 8 (T_kn tX_30 4), zzI cy (rK 5) 8 (T_kn tX_30 5), zzI cy (rK 6) 8 (T_kn tX_30 6), zzI cy (rK 7) 8 (T_kn tX_30 7)] hP hD hu9 rfl
    clear hP hD hu9
    obtain ⟨hP, hD⟩ := hPD
    refine lv_iconst (v := 0) hx hb (g_3 bX6_does rfl) (by decide +kernel) ?_
    exact endWs [[true, true, true, true, true, true, true, true, true, true, true, true, true, true, true, true, true, true, true, true, true, true, true, true, true, true, true, true]] hx hb hr hlocks rfl hP hD rfl (by decide +kernel) hS ⟨tX_30, rfl, ⟨h_31.1, h_31.2.1.trans h_26.2.1, h_31.2.2.trans h_26.2.2⟩, trivial⟩ (g_172 bX6_does rfl)
  · refine lv_tableOut (tgt := 75) hx hb dX6_does_1 h_1 (by decide +kernel) ?_
    refine lv_aload_n hx hb (g_42 bX6_does rfl) rfl (lv_at hl 0 rfl) ?_
    refine cVv (As := []) (rest := []) (b := qm) (q := (RX6, TX6, 35)) ⟨hx, hb, hml, hown, hts⟩ (c_X6_chain l G cy (s.heap).size qm v0 v1 v2 v3 v4 v5 v6 v7 v8 v9 tA qmB qmO qmK iEn iTk v18 v19 v20 v21 v22 v23 v24 v25 v26 iLv iWs v29 v30 v31 v32 v33 v34 rB rO rK hB hPp hTI) L_X6_282 hN hP hD hS hA (trueIx 0 [true, true, true, true, true, true, true, true, true, true, true, true, true, true, true, true, true, true, true, true, true, true, true, true, true, true, true, true]) [false, false, false, false, false, false, false, false, false, false, false, false, false, false, false, false, false, false, false, false, false, false, false, false, false, false, false, false] (sel_eq rfl rfl) (by decide +kernel) rfl 0 5 rfl rfl rfl ⟨Nat.le_of_ble_eq_true rfl, Nat.le_of_ble_eq_true rfl⟩ hl.1 (Nat.le_of_ble_eq_true rfl) (g_182 (v := 282) bX6_does rfl) ⟨Nat.le_of_ble_eq_true rfl, Nat.le_of_ble_eq_true rfl⟩ (fun u_34 H locs h_33 => ?_)
    clear hP hD hS
    intro hP hD hS
    obtain ⟨tX_35, hu9, h_36⟩ := h_33
    have hPD := pd_eq [zzO qm 5 (v0 :: v1 :: v2 :: v3 :: v4 :: v5 :: v6 :: v7 :: v8 :: v9 :: .int (nI (T_nb tX_35)) :: .ref qmB :: .int (nI (T_np tX_35)) :: .ref qmO :: .ref qmK :: .int iEn :: .int iTk :: .int (T_sd tX_35) :: v18 :: v19 :: v20 :: v21 :: v22 :: v23 :: v24 :: v25 :: v26 :: .int iLv :: .int iWs :: v29 :: v30 :: v31 :: v32 :: v33 :: v34 :: []), _, zzI cy (rB 0) 4 (bkR tX_35 0), zzI cy (rB 1) 4 (bkR tX_35 1), zzI cy (rB 2) 4 (bkR tX_35 2), zzI cy (rB 3) 4 (bkR tX_35 3), zzI cy (rB 4) 4 (bkR tX_35 4), zzI cy (rB 5) 4 (bkR tX_35 5), zzI cy (rB 6) 4 (bkR tX_35 6), zzI cy (rB 7) 4 (bkR tX_35 7), _, zzI cy (rO 0) 5 (onR tX_35 0), zzI cy (rO 1) 5 (onR tX_35 1), zzI cy (rO 2) 5 (onR tX_35 2), zzI cy (rO 3) 5 (onR tX_35 3), zzI cy (rO 4) 5 (onR tX_35 4), zzI cy (rO 5) 5 (onR tX_35 5), zzI cy (rO 6) 5 (onR tX_35 6), zzI cy (rO 7) 5 (onR tX_35 7), _, zzI cy (rK 0) 8 (T_kn tX_35 0), zzI cy (rK 1) 8 (T_kn tX_35 1), zzI cy (rK 2) 8 (T_kn tX_35 2), zzI cy (rK 3) 8 (T_kn tX_35 3), zzI cy (rK 4) 8 (T_kn tX_35 4), zzI cy (rK 5) 8 (T_kn tX_35 5), zzI cy (rK 6) 8 (T_kn tX_35 6), zzI cy (rK 7) 8 (T_kn tX_35 7)] hP hD hu9 rfl
    clear hP hD hu9
    obtain ⟨hP, hD⟩ := hPD
    refine lv_aload_n hx hb (g_42 bX6_does rfl) rfl (lv_at hl 0 rfl) ?_
    refine lv_iconst (v := 1) hx hb (g_4 bX6_does rfl) (by decide +kernel) ?_
    refine lv_iconst (v := 0) hx hb (g_3 bX6_does rfl) (by decide +kernel) ?_
    refine cVi (As := [.int 1, .int 0]) (rest := []) (b := qm) (q := (RX6, TX6, 35)) ⟨hx, hb, hml, hown, hts⟩ (c_X6_readMost1 l G cy (H).size qm v0 v1 v2 v3 v4 v5 v6 v7 v8 v9 tX_35 qmB qmO qmK iEn iTk v18 v19 v20 v21 v22 v23 v24 v25 v26 iLv iWs v29 v30 v31 v32 v33 v34 rB rO rK 0 (by have := h_36; omega) (by have := h_36; omega) h_36.1) L_X6_278 hN hP hD hS hA (trueIx 0 [true, true, true, true, true, true, true, true, true, true, true, true, true, true, true, true, true, true, true, true, true, true, true, true, true, true, true, true]) [false, false, false, false, false, false, false, false, false, false, false, false, false, false, false, false, false, false, false, false, false, false, false, false, false, false, false, false] (sel_eq rfl rfl) (by decide +kernel) rfl 0 5 rfl rfl rfl ⟨Nat.le_of_ble_eq_true rfl, Nat.le_of_ble_eq_true rfl⟩ hl.1 (Nat.le_of_ble_eq_true rfl) (g_182 (v := 278) bX6_does rfl) ⟨Nat.le_of_ble_eq_true rfl, Nat.le_of_ble_eq_true rfl⟩ (fun r_37 u_39 H locs h_38 => ?_)
    clear hP hD hS
    intro hP hD hS
    obtain ⟨tX_40, hu9, h_41, h_38⟩ := h_38
    have hPD := pd_eq [zzO qm 5 (v0 :: v1 :: v2 :: v3 :: v4 :: v5 :: v6 :: v7 :: v8 :: v9 :: .int (nI (T_nb tX_40)) :: .ref qmB :: .int (nI (T_np tX_40)) :: .ref qmO :: .ref qmK :: .int iEn :: .int iTk :: .int (T_sd tX_40) :: v18 :: v19 :: v20 :: v21 :: v22 :: v23 :: v24 :: v25 :: v26 :: .int iLv :: .int iWs :: v29 :: v30 :: v31 :: v32 :: v33 :: v34 :: []), _, zzI cy (rB 0) 4 (bkR tX_40 0), zzI cy (rB 1) 4 (bkR tX_40 1), zzI cy (rB 2) 4 (bkR tX_40 2), zzI cy (rB 3) 4 (bkR tX_40 3), zzI cy (rB 4) 4 (bkR tX_40 4), zzI cy (rB 5) 4 (bkR tX_40 5), zzI cy (rB 6) 4 (bkR tX_40 6), zzI cy (rB 7) 4 (bkR tX_40 7), _, zzI cy (rO 0) 5 (onR tX_40 0), zzI cy (rO 1) 5 (onR tX_40 1), zzI cy (rO 2) 5 (onR tX_40 2), zzI cy (rO 3) 5 (onR tX_40 3), zzI cy (rO 4) 5 (onR tX_40 4), zzI cy (rO 5) 5 (onR tX_40 5), zzI cy (rO 6) 5 (onR tX_40 6), zzI cy (rO 7) 5 (onR tX_40 7), _, zzI cy (rK 0) 8 (T_kn tX_40 0), zzI cy (rK 1) 8 (T_kn tX_40 1), zzI cy (rK 2) 8 (T_kn tX_40 2), zzI cy (rK 3) 8 (T_kn tX_40 3), zzI cy (rK 4) 8 (T_kn tX_40 4), zzI cy (rK 5) 8 (T_kn tX_40 5), zzI cy (rK 6) 8 (T_kn tX_40 6), zzI cy (rK 7) 8 (T_kn tX_40 7)] hP hD hu9 rfl
    clear hP hD hu9
    obtain ⟨hP, hD⟩ := hPD
    exact endWs [[true, true, true, true, true, true, true, true, true, true, true, true, true, true, true, true, true, true, true, true, true, true, true, true, true, true, true, true]] hx hb hr hlocks rfl hP hD rfl (by decide +kernel) hS ⟨tX_40, rfl, ⟨h_41.1, h_41.2.1.trans h_36.2.1, h_41.2.2.trans h_36.2.2⟩, trivial⟩ (g_172 bX6_does rfl)
set_option maxHeartbeats 4000000 in
set_option maxRecDepth 100000 in
theorem c_X6_end (l : Launch) (G : va_G) (cy : Nat → ClassId) (sz : Nat) (qm : Nat) (v0 : Value) (v1 : Value) (v2 : Value) (v3 : Value) (v4 : Value) (v5 : Value) (v6 : Value) (v7 : Value) (v8 : Value) (v9 : Value) (tA : TA) (qmB : Nat) (qmO : Nat) (qmK : Nat) (iEn : Int32) (iTk : Int32) (v18 : Value) (v19 : Value) (v20 : Value) (v21 : Value) (v22 : Value) (v23 : Value) (v24 : Value) (v25 : Value) (v26 : Value) (iLv : Int32) (iWs : Int32) (v29 : Value) (v30 : Value) (v31 : Value) (v32 : Value) (v33 : Value) (v34 : Value) (rB : Nat → Nat) (rO : Nat → Nat) (rK : Nat → Nat)  (hB : T_nb tA ≤ 8) (hPp : T_np tA ≤ 8) (hTI : TI tA) : MW l yX6_end cX6_end 5 (some .int) 2 0 0 G cy [zzO qm 5 (v0 :: v1 :: v2 :: v3 :: v4 :: v5 :: v6 :: v7 :: v8 :: v9 :: .int (nI (T_nb tA)) :: .ref qmB :: .int (nI (T_np tA)) :: .ref qmO :: .ref qmK :: .int iEn :: .int iTk :: .int (T_sd tA) :: v18 :: v19 :: v20 :: v21 :: v22 :: v23 :: v24 :: v25 :: v26 :: .int iLv :: .int iWs :: v29 :: v30 :: v31 :: v32 :: v33 :: v34 :: []), zzG cy 3 qmB rB, zzI cy (rB 0) 4 (bkR tA 0), zzI cy (rB 1) 4 (bkR tA 1), zzI cy (rB 2) 4 (bkR tA 2), zzI cy (rB 3) 4 (bkR tA 3), zzI cy (rB 4) 4 (bkR tA 4), zzI cy (rB 5) 4 (bkR tA 5), zzI cy (rB 6) 4 (bkR tA 6), zzI cy (rB 7) 4 (bkR tA 7), zzG cy 3 qmO rO, zzI cy (rO 0) 5 (onR tA 0), zzI cy (rO 1) 5 (onR tA 1), zzI cy (rO 2) 5 (onR tA 2), zzI cy (rO 3) 5 (onR tA 3), zzI cy (rO 4) 5 (onR tA 4), zzI cy (rO 5) 5 (onR tA 5), zzI cy (rO 6) 5 (onR tA 6), zzI cy (rO 7) 5 (onR tA 7), zzG cy 3 qmK rK, zzI cy (rK 0) 8 (T_kn tA 0), zzI cy (rK 1) 8 (T_kn tA 1), zzI cy (rK 2) 8 (T_kn tA 2), zzI cy (rK 3) 8 (T_kn tA 3), zzI cy (rK 4) 8 (T_kn tA 4), zzI cy (rK 5) 8 (T_kn tA 5), zzI cy (rK 6) 8 (T_kn tA 6), zzI cy (rK 7) 8 (T_kn tA 7)] sz [.ref qm] (Wi G (fun r u => ∃ (tX : TA) (iX : Int32), u = [zzO qm 5 (v0 :: v1 :: v2 :: v3 :: v4 :: v5 :: v6 :: v7 :: v8 :: v9 :: .int (nI (T_nb tX)) :: .ref qmB :: .int (nI (T_np tX)) :: .ref qmO :: .ref qmK :: .int iX :: .int iTk :: .int (T_sd tX) :: v18 :: v19 :: v20 :: v21 :: v22 :: v23 :: v24 :: v25 :: v26 :: .int iLv :: .int iWs :: v29 :: v30 :: v31 :: v32 :: v33 :: v34 :: []), zzG cy 3 qmB rB, zzI cy (rB 0) 4 (bkR tX 0), zzI cy (rB 1) 4 (bkR tX 1), zzI cy (rB 2) 4 (bkR tX 2), zzI cy (rB 3) 4 (bkR tX 3), zzI cy (rB 4) 4 (bkR tX 4), zzI cy (rB 5) 4 (bkR tX 5), zzI cy (rB 6) 4 (bkR tX 6), zzI cy (rB 7) 4 (bkR tX 7), zzG cy 3 qmO rO, zzI cy (rO 0) 5 (onR tX 0), zzI cy (rO 1) 5 (onR tX 1), zzI cy (rO 2) 5 (onR tX 2), zzI cy (rO 3) 5 (onR tX 3), zzI cy (rO 4) 5 (onR tX 4), zzI cy (rO 5) 5 (onR tX 5), zzI cy (rO 6) 5 (onR tX 6), zzI cy (rO 7) 5 (onR tX 7), zzG cy 3 qmK rK, zzI cy (rK 0) 8 (T_kn tX 0), zzI cy (rK 1) 8 (T_kn tX 1), zzI cy (rK 2) 8 (T_kn tX 2), zzI cy (rK 3) 8 (T_kn tX 3), zzI cy (rK 4) 8 (T_kn tX 4), zzI cy (rK 5) 8 (T_kn tX 5), zzI cy (rK 6) 8 (T_kn tX 6), zzI cy (rK 7) 8 (T_kn tX 7)] ∧ (TI tX ∧ T_nb tX = T_nb tA ∧ T_np tX = T_np tA) ∧ (True))) := by
  refine enW RX6 (by decide +kernel) rfl (Nat.le_of_ble_eq_true rfl) (fun p e s m below meth c ls A hx hb hml hown hts hr hlocks hP hN hl hin hD hA hS => ?_)
  have hin : meth.name = _ := hin
  have hK := hN.1
  replace hl : lv_has ls 5 [(0, .ref qm)] := hl
  refine lv_iconst (v := 0) hx hb (g_3 bX6_end rfl) (by decide +kernel) ?_
  refine lv_istore_n (lv' := [(1, .int 0), (0, .ref qm)]) hx hb (g_60 bX6_end rfl) rfl hl (by decide +kernel) rfl (fun ls => ?_)
  clear hl
  intro hl
  refine lv_iconst (v := 0) hx hb (g_3 bX6_end rfl) (by decide +kernel) ?_
  refine lv_istore_n (lv' := [(2, .int 0), (1, .int 0), (0, .ref qm)]) hx hb (g_61 bX6_end rfl) rfl hl (by decide +kernel) rfl (fun ls => ?_)
  clear hl
  intro hl
  have lp_1 : ∀ (n_2 : Nat) (j_4 : Nat) (tJ_5 : TA) (xG_6 : Int32), 8 - j_4 < n_2 → j_4 ≤ T_np tA → TI tJ_5 ∧ T_nb tJ_5 = T_nb tA ∧ T_np tJ_5 = T_np tA → ∀ (H : Heap) (locs : List Loc) (ls : Array Slot), va_P G CL [zzO qm 5 (v0 :: v1 :: v2 :: v3 :: v4 :: v5 :: v6 :: v7 :: v8 :: v9 :: .int (nI (T_nb tJ_5)) :: .ref qmB :: .int (nI (T_np tJ_5)) :: .ref qmO :: .ref qmK :: .int iEn :: .int iTk :: .int (T_sd tJ_5) :: v18 :: v19 :: v20 :: v21 :: v22 :: v23 :: v24 :: v25 :: v26 :: .int iLv :: .int iWs :: v29 :: v30 :: v31 :: v32 :: v33 :: v34 :: []), zzG cy 3 qmB rB, zzI cy (rB 0) 4 (bkR tJ_5 0), zzI cy (rB 1) 4 (bkR tJ_5 1), zzI cy (rB 2) 4 (bkR tJ_5 2), zzI cy (rB 3) 4 (bkR tJ_5 3), zzI cy (rB 4) 4 (bkR tJ_5 4), zzI cy (rB 5) 4 (bkR tJ_5 5), zzI cy (rB 6) 4 (bkR tJ_5 6), zzI cy (rB 7) 4 (bkR tJ_5 7), zzG cy 3 qmO rO, zzI cy (rO 0) 5 (onR tJ_5 0), zzI cy (rO 1) 5 (onR tJ_5 1), zzI cy (rO 2) 5 (onR tJ_5 2), zzI cy (rO 3) 5 (onR tJ_5 3), zzI cy (rO 4) 5 (onR tJ_5 4), zzI cy (rO 5) 5 (onR tJ_5 5), zzI cy (rO 6) 5 (onR tJ_5 6), zzI cy (rO 7) 5 (onR tJ_5 7), zzG cy 3 qmK rK, zzI cy (rK 0) 8 (T_kn tJ_5 0), zzI cy (rK 1) 8 (T_kn tJ_5 1), zzI cy (rK 2) 8 (T_kn tJ_5 2), zzI cy (rK 3) 8 (T_kn tJ_5 3), zzI cy (rK 4) 8 (T_kn tJ_5 4), zzI cy (rK 5) 8 (T_kn tJ_5 5), zzI cy (rK 6) 8 (T_kn tJ_5 6), zzI cy (rK 7) 8 (T_kn tJ_5 7)] H → va_D A [zzO qm 5 (v0 :: v1 :: v2 :: v3 :: v4 :: v5 :: v6 :: v7 :: v8 :: v9 :: .int (nI (T_nb tJ_5)) :: .ref qmB :: .int (nI (T_np tJ_5)) :: .ref qmO :: .ref qmK :: .int iEn :: .int iTk :: .int (T_sd tJ_5) :: v18 :: v19 :: v20 :: v21 :: v22 :: v23 :: v24 :: v25 :: v26 :: .int iLv :: .int iWs :: v29 :: v30 :: v31 :: v32 :: v33 :: v34 :: []), zzG cy 3 qmB rB, zzI cy (rB 0) 4 (bkR tJ_5 0), zzI cy (rB 1) 4 (bkR tJ_5 1), zzI cy (rB 2) 4 (bkR tJ_5 2), zzI cy (rB 3) 4 (bkR tJ_5 3), zzI cy (rB 4) 4 (bkR tJ_5 4), zzI cy (rB 5) 4 (bkR tJ_5 5), zzI cy (rB 6) 4 (bkR tJ_5 6), zzI cy (rB 7) 4 (bkR tJ_5 7), zzG cy 3 qmO rO, zzI cy (rO 0) 5 (onR tJ_5 0), zzI cy (rO 1) 5 (onR tJ_5 1), zzI cy (rO 2) 5 (onR tJ_5 2), zzI cy (rO 3) 5 (onR tJ_5 3), zzI cy (rO 4) 5 (onR tJ_5 4), zzI cy (rO 5) 5 (onR tJ_5 5), zzI cy (rO 6) 5 (onR tJ_5 6), zzI cy (rO 7) 5 (onR tJ_5 7), zzG cy 3 qmK rK, zzI cy (rK 0) 8 (T_kn tJ_5 0), zzI cy (rK 1) 8 (T_kn tJ_5 1), zzI cy (rK 2) 8 (T_kn tJ_5 2), zzI cy (rK 3) 8 (T_kn tJ_5 3), zzI cy (rK 4) 8 (T_kn tJ_5 4), zzI cy (rK 5) 8 (T_kn tJ_5 5), zzI cy (rK 6) 8 (T_kn tJ_5 6), zzI cy (rK 7) 8 (T_kn tJ_5 7)] → va_S A s.heap H locs → lv_has ls 5 [(2, .int (nI j_4)), (1, .int xG_6), (0, .ref qm)] → W p l e (Rm 2 0 0) s m (List.toArray (α := Value) [.ref qm]) below meth c H locs 0 0 (MQ below ((Wi G (fun r u => ∃ (tX : TA) (iX : Int32), u = [zzO qm 5 (v0 :: v1 :: v2 :: v3 :: v4 :: v5 :: v6 :: v7 :: v8 :: v9 :: .int (nI (T_nb tX)) :: .ref qmB :: .int (nI (T_np tX)) :: .ref qmO :: .ref qmK :: .int iX :: .int iTk :: .int (T_sd tX) :: v18 :: v19 :: v20 :: v21 :: v22 :: v23 :: v24 :: v25 :: v26 :: .int iLv :: .int iWs :: v29 :: v30 :: v31 :: v32 :: v33 :: v34 :: []), zzG cy 3 qmB rB, zzI cy (rB 0) 4 (bkR tX 0), zzI cy (rB 1) 4 (bkR tX 1), zzI cy (rB 2) 4 (bkR tX 2), zzI cy (rB 3) 4 (bkR tX 3), zzI cy (rB 4) 4 (bkR tX 4), zzI cy (rB 5) 4 (bkR tX 5), zzI cy (rB 6) 4 (bkR tX 6), zzI cy (rB 7) 4 (bkR tX 7), zzG cy 3 qmO rO, zzI cy (rO 0) 5 (onR tX 0), zzI cy (rO 1) 5 (onR tX 1), zzI cy (rO 2) 5 (onR tX 2), zzI cy (rO 3) 5 (onR tX 3), zzI cy (rO 4) 5 (onR tX 4), zzI cy (rO 5) 5 (onR tX 5), zzI cy (rO 6) 5 (onR tX 6), zzI cy (rO 7) 5 (onR tX 7), zzG cy 3 qmK rK, zzI cy (rK 0) 8 (T_kn tX 0), zzI cy (rK 1) 8 (T_kn tX 1), zzI cy (rK 2) 8 (T_kn tX 2), zzI cy (rK 3) 8 (T_kn tX 3), zzI cy (rK 4) 8 (T_kn tX 4), zzI cy (rK 5) 8 (T_kn tX 5), zzI cy (rK 6) 8 (T_kn tX 6), zzI cy (rK 7) 8 (T_kn tX 7)] ∧ (TI tX ∧ T_nb tX = T_nb tA ∧ T_np tX = T_np tA) ∧ (True))) A) (List.toArray (α := Value) [.ref qm]) s 0 0 A) (F0 m 4 ls []) := by
    intro n_2
    induction n_2 with
    | zero => intro j_4 tJ_5 xG_6 hm9; exact absurd hm9 (Nat.not_lt_zero _)
    | succ n_2 ih_3 =>
      intro j_4 tJ_5 xG_6 hm_9 hj_7 hT_8 H locs ls hP hD hS hl
      refine lv_iload_n hx hb (g_28 bX6_end rfl) rfl (lv_at hl 0 rfl) ?_
      refine lv_aload_n hx hb (g_42 bX6_end rfl) rfl (lv_at hl 2 rfl) ?_
      refine va_get (D := G) (ci := 5) (v := .int (nI (T_np tJ_5))) (C := RX6) (T := TX6) (N := 35) hx hb hts iX_X6 hown hK hP 0 rfl rfl 12 (by decide +kernel) (hts _ m_t862) (fun _ h9 => h9) rfl (g_180 (v := 78) bX6_end rfl) ?_
      refine lv_icmp_ge (tgt := 145) hx hb dX6_end_9 (by decide +kernel) (fun c_10 => ?_) (fun c_10 => ?_)
      · have hlt_11e : T_np tJ_5 = T_np tA := hT_8.2.2
        have hlt_11 : j_4 = T_np tA := Nat.le_antisymm (by omega) (by rw [hlt_11e] at c_10; exact lp_ge rfl rfl (by omega) (by omega) c_10)
        obtain ⟨hlt_11i, hlt_11b, hlt_11p⟩ := id hT_8
        refine lv_aload_n hx hb (g_42 bX6_end rfl) rfl (lv_at hl 2 rfl) ?_
        refine lv_dup hx hb (g_89 bX6_end rfl) rfl ?_
        refine va_get (D := G) (ci := 5) (v := .int iEn) (C := RX6) (T := TX6) (N := 35) hx hb hts iX_X6 hown hK hP 0 rfl rfl 15 (by decide +kernel) (hts _ m_t865) (fun _ h9 => h9) rfl (g_180 (v := 285) bX6_end rfl) ?_
        refine lv_iconst (v := 1) hx hb (g_4 bX6_end rfl) (by decide +kernel) ?_
        refine lv_iadd hx hb (g_96 bX6_end rfl) ?_
        refine va_put (D := G) (ci := 5) (v := .int (iEn + 1)) (ty := .int) (C := RX6) (T := TX6) (N := 35) hx hb hts iX_X6 tyX6 tyX6_ok nmX6 hown hK hP hD hS 0 rfl rfl 15 (by decide +kernel) (hts _ m_t865) (fun _ h9 => h9) rfl (by decide +kernel) rfl rfl (Nat.le_of_ble_eq_true rfl) (g_181 (v := 285) bX6_end rfl) (fun H locs => ?_)
        clear hP hD hS
        intro hP hD hS
        have hPD := pd_as [zzO qm 5 (v0 :: v1 :: v2 :: v3 :: v4 :: v5 :: v6 :: v7 :: v8 :: v9 :: .int (nI (T_nb tJ_5)) :: .ref qmB :: .int (nI (T_np tJ_5)) :: .ref qmO :: .ref qmK :: .int (iEn + 1) :: .int iTk :: .int (T_sd tJ_5) :: v18 :: v19 :: v20 :: v21 :: v22 :: v23 :: v24 :: v25 :: v26 :: .int iLv :: .int iWs :: v29 :: v30 :: v31 :: v32 :: v33 :: v34 :: []), _, zzI cy (rB 0) 4 (bkR tJ_5 0), zzI cy (rB 1) 4 (bkR tJ_5 1), zzI cy (rB 2) 4 (bkR tJ_5 2), zzI cy (rB 3) 4 (bkR tJ_5 3), zzI cy (rB 4) 4 (bkR tJ_5 4), zzI cy (rB 5) 4 (bkR tJ_5 5), zzI cy (rB 6) 4 (bkR tJ_5 6), zzI cy (rB 7) 4 (bkR tJ_5 7), _, zzI cy (rO 0) 5 (onR tJ_5 0), zzI cy (rO 1) 5 (onR tJ_5 1), zzI cy (rO 2) 5 (onR tJ_5 2), zzI cy (rO 3) 5 (onR tJ_5 3), zzI cy (rO 4) 5 (onR tJ_5 4), zzI cy (rO 5) 5 (onR tJ_5 5), zzI cy (rO 6) 5 (onR tJ_5 6), zzI cy (rO 7) 5 (onR tJ_5 7), _, zzI cy (rK 0) 8 (T_kn tJ_5 0), zzI cy (rK 1) 8 (T_kn tJ_5 1), zzI cy (rK 2) 8 (T_kn tJ_5 2), zzI cy (rK 3) 8 (T_kn tJ_5 3), zzI cy (rK 4) 8 (T_kn tJ_5 4), zzI cy (rK 5) 8 (T_kn tJ_5 5), zzI cy (rK 6) 8 (T_kn tJ_5 6), zzI cy (rK 7) 8 (T_kn tJ_5 7)] hP hD rfl
        clear hP hD
        obtain ⟨hP, hD⟩ := hPD
        refine lv_iload_n hx hb (g_27 bX6_end rfl) rfl (lv_at hl 1 rfl) ?_
        exact endWs [[true, true, true, true, true, true, true, true, true, true, true, true, true, true, true, true, true, true, true, true, true, true, true, true, true, true, true, true]] hx hb hr hlocks rfl hP hD rfl (by decide +kernel) hS ⟨tJ_5, iEn + 1, rfl, hT_8, trivial⟩ (g_172 bX6_end rfl)
      · have hlt_12e : T_np tJ_5 = T_np tA := hT_8.2.2
        have hlt_12 : j_4 < T_np tA := by rw [hlt_12e] at c_10; exact lp_lt rfl rfl (by omega) (by omega) c_10
        obtain ⟨hlt_12i, hlt_12b, hlt_12p⟩ := id hT_8
        refine lv_aload_n hx hb (g_42 bX6_end rfl) rfl (lv_at hl 2 rfl) ?_
        refine lv_iload_n hx hb (g_28 bX6_end rfl) rfl (lv_at hl 0 rfl) ?_
        refine kRi (rV (As := [.int (nI j_4)]) (rest := []) (b := qm) ⟨hx, hb, hml, hown, hts⟩ (c_X6_isThere l G cy qm v0 v1 v2 v3 v4 v5 v6 v7 v8 v9 tJ_5 qmB qmO qmK iEn iTk v18 v19 v20 v21 v22 v23 v24 v25 v26 iLv iWs v29 v30 v31 v32 v33 v34 rO j_4 (by first | omega | (simp only [nb_sr, np_sr, nb_wr, np_wr, nb_rd, np_rd, nb_ch, np_ch, nb_zr, np_zr, nb_za, np_za, nb_ey, np_ey, nb_hf, np_hf, nb_dd, np_dd, nb_so, np_so, nb_skn, np_skn, nb_swh, np_swh, nb_sgn, np_sgn, nb_ssd, np_ssd, nb_sgo, np_sgo, nb_sag, np_sag]; omega))) L_X6_81 (preRV (q := (RX6, TX6, 35)) hN hP (trueIx 0 [true, false, false, false, false, false, false, false, false, false, true, true, true, true, true, true, true, true, true]) (sel_fm rfl rfl) 0 5 rfl rfl) rfl ⟨Nat.le_of_ble_eq_true rfl, Nat.le_of_ble_eq_true rfl⟩ hl.1 (Nat.le_of_ble_eq_true rfl) (g_182 (v := 81) bX6_end rfl) ⟨Nat.le_of_ble_eq_true rfl, Nat.le_of_ble_eq_true rfl⟩) (fun r_13 h_14 => ?_)
        rcases h_14 with ⟨rfl, h_15⟩ | ⟨rfl, h_15⟩
        · refine lv_if_eq (tgt := 139) hx hb dX6_end_17 (by decide +kernel) (fun h9 => absurd h9 (by decide +kernel)) (fun _ => ?_)
          refine lv_aload_n hx hb (g_42 bX6_end rfl) rfl (lv_at hl 2 rfl) ?_
          refine va_get (D := G) (ci := 5) (v := .ref qmO) (C := RX6) (T := TX6) (N := 35) hx hb hts iX_X6 hown hK hP 0 rfl rfl 13 (by decide +kernel) (hts _ m_t863) (fun _ h9 => h9) rfl (g_180 (v := 45) bX6_end rfl) ?_
          refine lv_iload_n hx hb (g_28 bX6_end rfl) rfl (lv_at hl 0 rfl) ?_
          refine va_alda hx hb hK hP 10 3 rfl rfl (in8 (by omega)) (g_50 bX6_end rfl) ?_
          refine lv_setv (v := .ref (rO j_4)) (g_ref (by omega)) ?_
          refine lv_iconst (v := 0) hx hb (g_3 bX6_end rfl) (by decide +kernel) ?_
          refine lv_dup2_11 hx hb (g_92 bX6_end rfl) rfl rfl ?_
          refine va_iald hx hb hK hP (11 + j_4) 0 (sg8 (n0 := 11) (f := (fun j => zzI cy (rO j) 5 (onR tJ_5 j))) rfl rfl rfl rfl rfl rfl rfl rfl j_4 (by omega)) rfl (in_c rfl) (g_46 bX6_end rfl) ?_
          refine lv_seti (v := T_ag tJ_5 j_4) (on_0 _ _) ?_
          refine lv_iconst (v := 1) hx hb (g_4 bX6_end rfl) (by decide +kernel) ?_
          refine lv_iadd hx hb (g_96 bX6_end rfl) ?_
          refine va_iast hx hb hK hP hD hS (11 + j_4) 0 ((sg8 (n0 := 11) (f := (fun j => zzI cy (rO j) 5 (onR tJ_5 j))) rfl rfl rfl rfl rfl rfl rfl rfl) j_4 (by omega)) rfl (in_c rfl) (g_79 bX6_end rfl) (fun H locs => ?_)
          clear hP hD hS
          intro hP hD hS
          have hPD := st8PD (ws' := [zzO qm 5 (v0 :: v1 :: v2 :: v3 :: v4 :: v5 :: v6 :: v7 :: v8 :: v9 :: .int (nI (T_nb (T_setag tJ_5 (upd (T_ag tJ_5) j_4 ((T_ag tJ_5 j_4) + 1))))) :: .ref qmB :: .int (nI (T_np (T_setag tJ_5 (upd (T_ag tJ_5) j_4 ((T_ag tJ_5 j_4) + 1))))) :: .ref qmO :: .ref qmK :: .int iEn :: .int iTk :: .int (T_sd (T_setag tJ_5 (upd (T_ag tJ_5) j_4 ((T_ag tJ_5 j_4) + 1)))) :: v18 :: v19 :: v20 :: v21 :: v22 :: v23 :: v24 :: v25 :: v26 :: .int iLv :: .int iWs :: v29 :: v30 :: v31 :: v32 :: v33 :: v34 :: []), zzG cy 3 qmB rB, zzI cy (rB 0) 4 (bkR (T_setag tJ_5 (upd (T_ag tJ_5) j_4 ((T_ag tJ_5 j_4) + 1))) 0), zzI cy (rB 1) 4 (bkR (T_setag tJ_5 (upd (T_ag tJ_5) j_4 ((T_ag tJ_5 j_4) + 1))) 1), zzI cy (rB 2) 4 (bkR (T_setag tJ_5 (upd (T_ag tJ_5) j_4 ((T_ag tJ_5 j_4) + 1))) 2), zzI cy (rB 3) 4 (bkR (T_setag tJ_5 (upd (T_ag tJ_5) j_4 ((T_ag tJ_5 j_4) + 1))) 3), zzI cy (rB 4) 4 (bkR (T_setag tJ_5 (upd (T_ag tJ_5) j_4 ((T_ag tJ_5 j_4) + 1))) 4), zzI cy (rB 5) 4 (bkR (T_setag tJ_5 (upd (T_ag tJ_5) j_4 ((T_ag tJ_5 j_4) + 1))) 5), zzI cy (rB 6) 4 (bkR (T_setag tJ_5 (upd (T_ag tJ_5) j_4 ((T_ag tJ_5 j_4) + 1))) 6), zzI cy (rB 7) 4 (bkR (T_setag tJ_5 (upd (T_ag tJ_5) j_4 ((T_ag tJ_5 j_4) + 1))) 7), zzG cy 3 qmO rO, zzI cy (rO 0) 5 (onR (T_setag tJ_5 (upd (T_ag tJ_5) j_4 ((T_ag tJ_5 j_4) + 1))) 0), zzI cy (rO 1) 5 (onR (T_setag tJ_5 (upd (T_ag tJ_5) j_4 ((T_ag tJ_5 j_4) + 1))) 1), zzI cy (rO 2) 5 (onR (T_setag tJ_5 (upd (T_ag tJ_5) j_4 ((T_ag tJ_5 j_4) + 1))) 2), zzI cy (rO 3) 5 (onR (T_setag tJ_5 (upd (T_ag tJ_5) j_4 ((T_ag tJ_5 j_4) + 1))) 3), zzI cy (rO 4) 5 (onR (T_setag tJ_5 (upd (T_ag tJ_5) j_4 ((T_ag tJ_5 j_4) + 1))) 4), zzI cy (rO 5) 5 (onR (T_setag tJ_5 (upd (T_ag tJ_5) j_4 ((T_ag tJ_5 j_4) + 1))) 5), zzI cy (rO 6) 5 (onR (T_setag tJ_5 (upd (T_ag tJ_5) j_4 ((T_ag tJ_5 j_4) + 1))) 6), zzI cy (rO 7) 5 (onR (T_setag tJ_5 (upd (T_ag tJ_5) j_4 ((T_ag tJ_5 j_4) + 1))) 7), zzG cy 3 qmK rK, zzI cy (rK 0) 8 (T_kn (T_setag tJ_5 (upd (T_ag tJ_5) j_4 ((T_ag tJ_5 j_4) + 1))) 0), zzI cy (rK 1) 8 (T_kn (T_setag tJ_5 (upd (T_ag tJ_5) j_4 ((T_ag tJ_5 j_4) + 1))) 1), zzI cy (rK 2) 8 (T_kn (T_setag tJ_5 (upd (T_ag tJ_5) j_4 ((T_ag tJ_5 j_4) + 1))) 2), zzI cy (rK 3) 8 (T_kn (T_setag tJ_5 (upd (T_ag tJ_5) j_4 ((T_ag tJ_5 j_4) + 1))) 3), zzI cy (rK 4) 8 (T_kn (T_setag tJ_5 (upd (T_ag tJ_5) j_4 ((T_ag tJ_5 j_4) + 1))) 4), zzI cy (rK 5) 8 (T_kn (T_setag tJ_5 (upd (T_ag tJ_5) j_4 ((T_ag tJ_5 j_4) + 1))) 5), zzI cy (rK 6) 8 (T_kn (T_setag tJ_5 (upd (T_ag tJ_5) j_4 ((T_ag tJ_5 j_4) + 1))) 6), zzI cy (rK 7) 8 (T_kn (T_setag tJ_5 (upd (T_ag tJ_5) j_4 ((T_ag tJ_5 j_4) + 1))) 7)]) (k := j_4) (g1 := onR (T_setag tJ_5 (upd (T_ag tJ_5) j_4 ((T_ag tJ_5 j_4) + 1))) j_4) hP hD (sg8 (n0 := 11) (f := (fun j => zzI cy (rO j) 5 (onR tJ_5 j))) rfl rfl rfl rfl rfl rfl rfl rfl) (sg8 (n0 := 11) (f := (fun j => zzI cy (rO j) 5 (onR (T_setag tJ_5 (upd (T_ag tJ_5) j_4 ((T_ag tJ_5 j_4) + 1))) j))) rfl rfl rfl rfl rfl rfl rfl rfl) rfl rfl (by omega) rfl (fun i _ => (congrFun (on_u0 tJ_5 j_4 ((T_ag tJ_5 j_4) + 1)) i).symm) (fun j hj => congrArg (zzI cy (rO j) 5) (on_n0 tJ_5 j_4 ((T_ag tJ_5 j_4) + 1) hj))
          clear hP hD
          obtain ⟨hP, hD⟩ := hPD
          refine lv_aload_n hx hb (g_42 bX6_end rfl) rfl (lv_at hl 2 rfl) ?_
          refine va_get (D := G) (ci := 5) (v := .ref qmO) (C := RX6) (T := TX6) (N := 35) hx hb hts iX_X6 hown hK hP 0 rfl rfl 13 (by decide +kernel) (hts _ m_t863) (fun _ h9 => h9) rfl (g_180 (v := 45) bX6_end rfl) ?_
          refine lv_iload_n hx hb (g_28 bX6_end rfl) rfl (lv_at hl 0 rfl) ?_
          refine va_alda hx hb hK hP 10 3 rfl rfl (in8 (by omega)) (g_50 bX6_end rfl) ?_
          refine lv_setv (v := .ref (rO j_4)) (g_ref (by omega)) ?_
          refine lv_iconst (v := 0) hx hb (g_3 bX6_end rfl) (by decide +kernel) ?_
          refine va_iald hx hb hK hP (11 + j_4) 0 (sg8 (n0 := 11) (f := (fun j => zzI cy (rO j) 5 (onR (T_setag tJ_5 (upd (T_ag tJ_5) j_4 ((T_ag tJ_5 j_4) + 1))) j))) rfl rfl rfl rfl rfl rfl rfl rfl j_4 (by omega)) rfl (in_c rfl) (g_46 bX6_end rfl) ?_
          refine lv_seti (v := T_ag (T_setag tJ_5 (upd (T_ag tJ_5) j_4 ((T_ag tJ_5 j_4) + 1))) j_4) (on_0 _ _) ?_
          refine lv_bipush (v := 10) hx hb dX6_end_40 (by decide +kernel) ?_
          refine lv_icmp_ne (tgt := 49) hx hb dX6_end_42 (by decide +kernel) (fun c_17 => ?_) (fun c_17 => ?_)
          · refine lv_iconst (v := 0) hx hb (g_3 bX6_end rfl) (by decide +kernel) ?_
            refine lv_istore_n (lv' := [(3, .int 0), (2, .int (nI j_4)), (1, .int xG_6), (0, .ref qm)]) hx hb (g_62 bX6_end rfl) rfl hl (by decide +kernel) rfl (fun ls => ?_)
            clear hl
            intro hl
            refine lv_aload_n hx hb (g_42 bX6_end rfl) rfl (lv_at hl 3 rfl) ?_
            refine va_get (D := G) (ci := 5) (v := .ref qmO) (C := RX6) (T := TX6) (N := 35) hx hb hts iX_X6 hown hK hP 0 rfl rfl 13 (by decide +kernel) (hts _ m_t863) (fun _ h9 => h9) rfl (g_180 (v := 45) bX6_end rfl) ?_
            refine lv_iload_n hx hb (g_28 bX6_end rfl) rfl (lv_at hl 1 rfl) ?_
            refine va_alda hx hb hK hP 10 3 rfl rfl (in8 (by omega)) (g_50 bX6_end rfl) ?_
            refine lv_setv (v := .ref (rO j_4)) (g_ref (by omega)) ?_
            refine lv_iconst (v := 4) hx hb (g_7 bX6_end rfl) (by decide +kernel) ?_
            refine lv_iload_n hx hb (g_29 bX6_end rfl) rfl (lv_at hl 0 rfl) ?_
            refine lv_if_eq (tgt := 66) hx hb dX6_end_59 (by decide +kernel) (fun _ => ?_) (fun h9 => absurd (by decide +kernel) h9)
            refine lv_iconst (v := 0) hx hb (g_3 bX6_end rfl) (by decide +kernel) ?_
            refine va_iast hx hb hK hP hD hS (11 + j_4) 0 ((sg8 (n0 := 11) (f := (fun j => zzI cy (rO j) 5 (onR (T_setag tJ_5 (upd (T_ag tJ_5) j_4 ((T_ag tJ_5 j_4) + 1))) j))) rfl rfl rfl rfl rfl rfl rfl rfl) j_4 (by omega)) rfl (in_c rfl) (g_79 bX6_end rfl) (fun H locs => ?_)
            clear hP hD hS
            intro hP hD hS
            have hPD := st8PD (ws' := [zzO qm 5 (v0 :: v1 :: v2 :: v3 :: v4 :: v5 :: v6 :: v7 :: v8 :: v9 :: .int (nI (T_nb (T_setgn (T_setag tJ_5 (upd (T_ag tJ_5) j_4 ((T_ag tJ_5 j_4) + 1))) (updB (T_gn (T_setag tJ_5 (upd (T_ag tJ_5) j_4 ((T_ag tJ_5 j_4) + 1)))) j_4 false)))) :: .ref qmB :: .int (nI (T_np (T_setgn (T_setag tJ_5 (upd (T_ag tJ_5) j_4 ((T_ag tJ_5 j_4) + 1))) (updB (T_gn (T_setag tJ_5 (upd (T_ag tJ_5) j_4 ((T_ag tJ_5 j_4) + 1)))) j_4 false)))) :: .ref qmO :: .ref qmK :: .int iEn :: .int iTk :: .int (T_sd (T_setgn (T_setag tJ_5 (upd (T_ag tJ_5) j_4 ((T_ag tJ_5 j_4) + 1))) (updB (T_gn (T_setag tJ_5 (upd (T_ag tJ_5) j_4 ((T_ag tJ_5 j_4) + 1)))) j_4 false))) :: v18 :: v19 :: v20 :: v21 :: v22 :: v23 :: v24 :: v25 :: v26 :: .int iLv :: .int iWs :: v29 :: v30 :: v31 :: v32 :: v33 :: v34 :: []), zzG cy 3 qmB rB, zzI cy (rB 0) 4 (bkR (T_setgn (T_setag tJ_5 (upd (T_ag tJ_5) j_4 ((T_ag tJ_5 j_4) + 1))) (updB (T_gn (T_setag tJ_5 (upd (T_ag tJ_5) j_4 ((T_ag tJ_5 j_4) + 1)))) j_4 false)) 0), zzI cy (rB 1) 4 (bkR (T_setgn (T_setag tJ_5 (upd (T_ag tJ_5) j_4 ((T_ag tJ_5 j_4) + 1))) (updB (T_gn (T_setag tJ_5 (upd (T_ag tJ_5) j_4 ((T_ag tJ_5 j_4) + 1)))) j_4 false)) 1), zzI cy (rB 2) 4 (bkR (T_setgn (T_setag tJ_5 (upd (T_ag tJ_5) j_4 ((T_ag tJ_5 j_4) + 1))) (updB (T_gn (T_setag tJ_5 (upd (T_ag tJ_5) j_4 ((T_ag tJ_5 j_4) + 1)))) j_4 false)) 2), zzI cy (rB 3) 4 (bkR (T_setgn (T_setag tJ_5 (upd (T_ag tJ_5) j_4 ((T_ag tJ_5 j_4) + 1))) (updB (T_gn (T_setag tJ_5 (upd (T_ag tJ_5) j_4 ((T_ag tJ_5 j_4) + 1)))) j_4 false)) 3), zzI cy (rB 4) 4 (bkR (T_setgn (T_setag tJ_5 (upd (T_ag tJ_5) j_4 ((T_ag tJ_5 j_4) + 1))) (updB (T_gn (T_setag tJ_5 (upd (T_ag tJ_5) j_4 ((T_ag tJ_5 j_4) + 1)))) j_4 false)) 4), zzI cy (rB 5) 4 (bkR (T_setgn (T_setag tJ_5 (upd (T_ag tJ_5) j_4 ((T_ag tJ_5 j_4) + 1))) (updB (T_gn (T_setag tJ_5 (upd (T_ag tJ_5) j_4 ((T_ag tJ_5 j_4) + 1)))) j_4 false)) 5), zzI cy (rB 6) 4 (bkR (T_setgn (T_setag tJ_5 (upd (T_ag tJ_5) j_4 ((T_ag tJ_5 j_4) + 1))) (updB (T_gn (T_setag tJ_5 (upd (T_ag tJ_5) j_4 ((T_ag tJ_5 j_4) + 1)))) j_4 false)) 6), zzI cy (rB 7) 4 (bkR (T_setgn (T_setag tJ_5 (upd (T_ag tJ_5) j_4 ((T_ag tJ_5 j_4) + 1))) (updB (T_gn (T_setag tJ_5 (upd (T_ag tJ_5) j_4 ((T_ag tJ_5 j_4) + 1)))) j_4 false)) 7), zzG cy 3 qmO rO, zzI cy (rO 0) 5 (onR (T_setgn (T_setag tJ_5 (upd (T_ag tJ_5) j_4 ((T_ag tJ_5 j_4) + 1))) (updB (T_gn (T_setag tJ_5 (upd (T_ag tJ_5) j_4 ((T_ag tJ_5 j_4) + 1)))) j_4 false)) 0), zzI cy (rO 1) 5 (onR (T_setgn (T_setag tJ_5 (upd (T_ag tJ_5) j_4 ((T_ag tJ_5 j_4) + 1))) (updB (T_gn (T_setag tJ_5 (upd (T_ag tJ_5) j_4 ((T_ag tJ_5 j_4) + 1)))) j_4 false)) 1), zzI cy (rO 2) 5 (onR (T_setgn (T_setag tJ_5 (upd (T_ag tJ_5) j_4 ((T_ag tJ_5 j_4) + 1))) (updB (T_gn (T_setag tJ_5 (upd (T_ag tJ_5) j_4 ((T_ag tJ_5 j_4) + 1)))) j_4 false)) 2), zzI cy (rO 3) 5 (onR (T_setgn (T_setag tJ_5 (upd (T_ag tJ_5) j_4 ((T_ag tJ_5 j_4) + 1))) (updB (T_gn (T_setag tJ_5 (upd (T_ag tJ_5) j_4 ((T_ag tJ_5 j_4) + 1)))) j_4 false)) 3), zzI cy (rO 4) 5 (onR (T_setgn (T_setag tJ_5 (upd (T_ag tJ_5) j_4 ((T_ag tJ_5 j_4) + 1))) (updB (T_gn (T_setag tJ_5 (upd (T_ag tJ_5) j_4 ((T_ag tJ_5 j_4) + 1)))) j_4 false)) 4), zzI cy (rO 5) 5 (onR (T_setgn (T_setag tJ_5 (upd (T_ag tJ_5) j_4 ((T_ag tJ_5 j_4) + 1))) (updB (T_gn (T_setag tJ_5 (upd (T_ag tJ_5) j_4 ((T_ag tJ_5 j_4) + 1)))) j_4 false)) 5), zzI cy (rO 6) 5 (onR (T_setgn (T_setag tJ_5 (upd (T_ag tJ_5) j_4 ((T_ag tJ_5 j_4) + 1))) (updB (T_gn (T_setag tJ_5 (upd (T_ag tJ_5) j_4 ((T_ag tJ_5 j_4) + 1)))) j_4 false)) 6), zzI cy (rO 7) 5 (onR (T_setgn (T_setag tJ_5 (upd (T_ag tJ_5) j_4 ((T_ag tJ_5 j_4) + 1))) (updB (T_gn (T_setag tJ_5 (upd (T_ag tJ_5) j_4 ((T_ag tJ_5 j_4) + 1)))) j_4 false)) 7), zzG cy 3 qmK rK, zzI cy (rK 0) 8 (T_kn (T_setgn (T_setag tJ_5 (upd (T_ag tJ_5) j_4 ((T_ag tJ_5 j_4) + 1))) (updB (T_gn (T_setag tJ_5 (upd (T_ag tJ_5) j_4 ((T_ag tJ_5 j_4) + 1)))) j_4 false)) 0), zzI cy (rK 1) 8 (T_kn (T_setgn (T_setag tJ_5 (upd (T_ag tJ_5) j_4 ((T_ag tJ_5 j_4) + 1))) (updB (T_gn (T_setag tJ_5 (upd (T_ag tJ_5) j_4 ((T_ag tJ_5 j_4) + 1)))) j_4 false)) 1), zzI cy (rK 2) 8 (T_kn (T_setgn (T_setag tJ_5 (upd (T_ag tJ_5) j_4 ((T_ag tJ_5 j_4) + 1))) (updB (T_gn (T_setag tJ_5 (upd (T_ag tJ_5) j_4 ((T_ag tJ_5 j_4) + 1)))) j_4 false)) 2), zzI cy (rK 3) 8 (T_kn (T_setgn (T_setag tJ_5 (upd (T_ag tJ_5) j_4 ((T_ag tJ_5 j_4) + 1))) (updB (T_gn (T_setag tJ_5 (upd (T_ag tJ_5) j_4 ((T_ag tJ_5 j_4) + 1)))) j_4 false)) 3), zzI cy (rK 4) 8 (T_kn (T_setgn (T_setag tJ_5 (upd (T_ag tJ_5) j_4 ((T_ag tJ_5 j_4) + 1))) (updB (T_gn (T_setag tJ_5 (upd (T_ag tJ_5) j_4 ((T_ag tJ_5 j_4) + 1)))) j_4 false)) 4), zzI cy (rK 5) 8 (T_kn (T_setgn (T_setag tJ_5 (upd (T_ag tJ_5) j_4 ((T_ag tJ_5 j_4) + 1))) (updB (T_gn (T_setag tJ_5 (upd (T_ag tJ_5) j_4 ((T_ag tJ_5 j_4) + 1)))) j_4 false)) 5), zzI cy (rK 6) 8 (T_kn (T_setgn (T_setag tJ_5 (upd (T_ag tJ_5) j_4 ((T_ag tJ_5 j_4) + 1))) (updB (T_gn (T_setag tJ_5 (upd (T_ag tJ_5) j_4 ((T_ag tJ_5 j_4) + 1)))) j_4 false)) 6), zzI cy (rK 7) 8 (T_kn (T_setgn (T_setag tJ_5 (upd (T_ag tJ_5) j_4 ((T_ag tJ_5 j_4) + 1))) (updB (T_gn (T_setag tJ_5 (upd (T_ag tJ_5) j_4 ((T_ag tJ_5 j_4) + 1)))) j_4 false)) 7)]) (k := j_4) (g1 := onR (T_setgn (T_setag tJ_5 (upd (T_ag tJ_5) j_4 ((T_ag tJ_5 j_4) + 1))) (updB (T_gn (T_setag tJ_5 (upd (T_ag tJ_5) j_4 ((T_ag tJ_5 j_4) + 1)))) j_4 false)) j_4) hP hD (sg8 (n0 := 11) (f := (fun j => zzI cy (rO j) 5 (onR (T_setag tJ_5 (upd (T_ag tJ_5) j_4 ((T_ag tJ_5 j_4) + 1))) j))) rfl rfl rfl rfl rfl rfl rfl rfl) (sg8 (n0 := 11) (f := (fun j => zzI cy (rO j) 5 (onR (T_setgn (T_setag tJ_5 (upd (T_ag tJ_5) j_4 ((T_ag tJ_5 j_4) + 1))) (updB (T_gn (T_setag tJ_5 (upd (T_ag tJ_5) j_4 ((T_ag tJ_5 j_4) + 1)))) j_4 false)) j))) rfl rfl rfl rfl rfl rfl rfl rfl) rfl rfl (by omega) rfl (on_w4 (T_setag tJ_5 (upd (T_ag tJ_5) j_4 ((T_ag tJ_5 j_4) + 1))) j_4 false) (fun j hj => congrArg (zzI cy (rO j) 5) (on_n4 (T_setag tJ_5 (upd (T_ag tJ_5) j_4 ((T_ag tJ_5 j_4) + 1))) j_4 false hj))
            clear hP hD
            obtain ⟨hP, hD⟩ := hPD
            refine lv_iload_n hx hb (g_27 bX6_end rfl) rfl (lv_at hl 2 rfl) ?_
            refine lv_iload_n hx hb (g_29 bX6_end rfl) rfl (lv_at hl 0 rfl) ?_
            refine lv_if_eq (tgt := 77) hx hb dX6_end_70 (by decide +kernel) (fun _ => ?_) (fun h9 => absurd (by decide +kernel) h9)
            refine lv_iconst (v := 0) hx hb (g_3 bX6_end rfl) (by decide +kernel) ?_
            refine lv_iadd hx hb (g_96 bX6_end rfl) ?_
            refine lv_istore_n (lv' := [(1, .int (xG_6 + 0)), (3, .int 0), (2, .int (nI j_4)), (0, .ref qm)]) hx hb (g_60 bX6_end rfl) rfl hl (by decide +kernel) rfl (fun ls => ?_)
            clear hl
            intro hl
            refine lv_iconst (v := 0) hx hb (g_3 bX6_end rfl) (by decide +kernel) ?_
            refine lv_istore (lv' := [(4, .int 0), (1, .int (xG_6 + 0)), (3, .int 0), (2, .int (nI j_4)), (0, .ref qm)]) hx hb (g_54 (v := 4) bX6_end rfl) hl (by decide +kernel) rfl (fun ls => ?_)
            clear hl
            intro hl
            have lp_20 : ∀ (n_21 : Nat) (m_23 : Nat) (tK_24 : TA), 8 - m_23 < n_21 → m_23 ≤ T_nb tA → TI tK_24 ∧ T_nb tK_24 = T_nb tA ∧ T_np tK_24 = T_np tA → ∀ (H : Heap) (locs : List Loc) (ls : Array Slot), va_P G CL [zzO qm 5 (v0 :: v1 :: v2 :: v3 :: v4 :: v5 :: v6 :: v7 :: v8 :: v9 :: .int (nI (T_nb tK_24)) :: .ref qmB :: .int (nI (T_np tK_24)) :: .ref qmO :: .ref qmK :: .int iEn :: .int iTk :: .int (T_sd tK_24) :: v18 :: v19 :: v20 :: v21 :: v22 :: v23 :: v24 :: v25 :: v26 :: .int iLv :: .int iWs :: v29 :: v30 :: v31 :: v32 :: v33 :: v34 :: []), zzG cy 3 qmB rB, zzI cy (rB 0) 4 (bkR tK_24 0), zzI cy (rB 1) 4 (bkR tK_24 1), zzI cy (rB 2) 4 (bkR tK_24 2), zzI cy (rB 3) 4 (bkR tK_24 3), zzI cy (rB 4) 4 (bkR tK_24 4), zzI cy (rB 5) 4 (bkR tK_24 5), zzI cy (rB 6) 4 (bkR tK_24 6), zzI cy (rB 7) 4 (bkR tK_24 7), zzG cy 3 qmO rO, zzI cy (rO 0) 5 (onR tK_24 0), zzI cy (rO 1) 5 (onR tK_24 1), zzI cy (rO 2) 5 (onR tK_24 2), zzI cy (rO 3) 5 (onR tK_24 3), zzI cy (rO 4) 5 (onR tK_24 4), zzI cy (rO 5) 5 (onR tK_24 5), zzI cy (rO 6) 5 (onR tK_24 6), zzI cy (rO 7) 5 (onR tK_24 7), zzG cy 3 qmK rK, zzI cy (rK 0) 8 (T_kn tK_24 0), zzI cy (rK 1) 8 (T_kn tK_24 1), zzI cy (rK 2) 8 (T_kn tK_24 2), zzI cy (rK 3) 8 (T_kn tK_24 3), zzI cy (rK 4) 8 (T_kn tK_24 4), zzI cy (rK 5) 8 (T_kn tK_24 5), zzI cy (rK 6) 8 (T_kn tK_24 6), zzI cy (rK 7) 8 (T_kn tK_24 7)] H → va_D A [zzO qm 5 (v0 :: v1 :: v2 :: v3 :: v4 :: v5 :: v6 :: v7 :: v8 :: v9 :: .int (nI (T_nb tK_24)) :: .ref qmB :: .int (nI (T_np tK_24)) :: .ref qmO :: .ref qmK :: .int iEn :: .int iTk :: .int (T_sd tK_24) :: v18 :: v19 :: v20 :: v21 :: v22 :: v23 :: v24 :: v25 :: v26 :: .int iLv :: .int iWs :: v29 :: v30 :: v31 :: v32 :: v33 :: v34 :: []), zzG cy 3 qmB rB, zzI cy (rB 0) 4 (bkR tK_24 0), zzI cy (rB 1) 4 (bkR tK_24 1), zzI cy (rB 2) 4 (bkR tK_24 2), zzI cy (rB 3) 4 (bkR tK_24 3), zzI cy (rB 4) 4 (bkR tK_24 4), zzI cy (rB 5) 4 (bkR tK_24 5), zzI cy (rB 6) 4 (bkR tK_24 6), zzI cy (rB 7) 4 (bkR tK_24 7), zzG cy 3 qmO rO, zzI cy (rO 0) 5 (onR tK_24 0), zzI cy (rO 1) 5 (onR tK_24 1), zzI cy (rO 2) 5 (onR tK_24 2), zzI cy (rO 3) 5 (onR tK_24 3), zzI cy (rO 4) 5 (onR tK_24 4), zzI cy (rO 5) 5 (onR tK_24 5), zzI cy (rO 6) 5 (onR tK_24 6), zzI cy (rO 7) 5 (onR tK_24 7), zzG cy 3 qmK rK, zzI cy (rK 0) 8 (T_kn tK_24 0), zzI cy (rK 1) 8 (T_kn tK_24 1), zzI cy (rK 2) 8 (T_kn tK_24 2), zzI cy (rK 3) 8 (T_kn tK_24 3), zzI cy (rK 4) 8 (T_kn tK_24 4), zzI cy (rK 5) 8 (T_kn tK_24 5), zzI cy (rK 6) 8 (T_kn tK_24 6), zzI cy (rK 7) 8 (T_kn tK_24 7)] → va_S A s.heap H locs → lv_has ls 5 [(4, .int (nI m_23)), (1, .int (xG_6 + 0)), (3, .int 0), (2, .int (nI j_4)), (0, .ref qm)] → W p l e (Rm 2 0 0) s m (List.toArray (α := Value) [.ref qm]) below meth c H locs 0 0 (MQ below ((Wi G (fun r u => ∃ (tX : TA) (iX : Int32), u = [zzO qm 5 (v0 :: v1 :: v2 :: v3 :: v4 :: v5 :: v6 :: v7 :: v8 :: v9 :: .int (nI (T_nb tX)) :: .ref qmB :: .int (nI (T_np tX)) :: .ref qmO :: .ref qmK :: .int iX :: .int iTk :: .int (T_sd tX) :: v18 :: v19 :: v20 :: v21 :: v22 :: v23 :: v24 :: v25 :: v26 :: .int iLv :: .int iWs :: v29 :: v30 :: v31 :: v32 :: v33 :: v34 :: []), zzG cy 3 qmB rB, zzI cy (rB 0) 4 (bkR tX 0), zzI cy (rB 1) 4 (bkR tX 1), zzI cy (rB 2) 4 (bkR tX 2), zzI cy (rB 3) 4 (bkR tX 3), zzI cy (rB 4) 4 (bkR tX 4), zzI cy (rB 5) 4 (bkR tX 5), zzI cy (rB 6) 4 (bkR tX 6), zzI cy (rB 7) 4 (bkR tX 7), zzG cy 3 qmO rO, zzI cy (rO 0) 5 (onR tX 0), zzI cy (rO 1) 5 (onR tX 1), zzI cy (rO 2) 5 (onR tX 2), zzI cy (rO 3) 5 (onR tX 3), zzI cy (rO 4) 5 (onR tX 4), zzI cy (rO 5) 5 (onR tX 5), zzI cy (rO 6) 5 (onR tX 6), zzI cy (rO 7) 5 (onR tX 7), zzG cy 3 qmK rK, zzI cy (rK 0) 8 (T_kn tX 0), zzI cy (rK 1) 8 (T_kn tX 1), zzI cy (rK 2) 8 (T_kn tX 2), zzI cy (rK 3) 8 (T_kn tX 3), zzI cy (rK 4) 8 (T_kn tX 4), zzI cy (rK 5) 8 (T_kn tX 5), zzI cy (rK 6) 8 (T_kn tX 6), zzI cy (rK 7) 8 (T_kn tX 7)] ∧ (TI tX ∧ T_nb tX = T_nb tA ∧ T_np tX = T_np tA) ∧ (True))) A) (List.toArray (α := Value) [.ref qm]) s 0 0 A) (F0 m 83 ls []) := by
              intro n_21
              induction n_21 with
              | zero => intro m_23 tK_24 hm9; exact absurd hm9 (Nat.not_lt_zero _)
              | succ n_21 ih_22 =>
                intro m_23 tK_24 hm_27 hm_27 hTK_26 H locs ls hP hD hS hl
                refine lv_iload hx hb (g_21 (v := 4) bX6_end rfl) (lv_at hl 0 rfl) ?_
                refine lv_aload_n hx hb (g_42 bX6_end rfl) rfl (lv_at hl 4 rfl) ?_
                refine va_get (D := G) (ci := 5) (v := .int (nI (T_nb tK_24))) (C := RX6) (T := TX6) (N := 35) hx hb hts iX_X6 hown hK hP 0 rfl rfl 10 (by decide +kernel) (hts _ m_t860) (fun _ h9 => h9) rfl (g_180 (v := 71) bX6_end rfl) ?_
                refine lv_icmp_ge (tgt := 139) hx hb dX6_end_89 (by decide +kernel) (fun c_28 => ?_) (fun c_28 => ?_)
                · have hlt_29e : T_nb tK_24 = T_nb tA := hTK_26.2.1
                  refine lv_iinc (v := nI (j_4 + 1)) (lv' := [(2, .int (nI (j_4 + 1))), (4, .int (nI m_23)), (1, .int (xG_6 + 0)), (3, .int 0), (0, .ref qm)]) hx hb dX6_end_139 hl (k := 3) rfl (nI_1 _) (by decide +kernel) rfl (fun ls => ?_)
                  clear hl
                  intro hl
                  refine lv_goto (tgt := 4) hx hb dX6_end_142 (by decide +kernel) ?_
                  exact ih_3 (j_4 + 1) tK_24 (xG_6 + 0) (by omega) (by omega) hTK_26 _ _ _ hP hD hS (lv_sub hl [0, 2, 4] rfl)
                · have hlt_30e : T_nb tK_24 = T_nb tA := hTK_26.2.1
                  have hlt_30 : m_23 < T_nb tA := by rw [hlt_30e] at c_28; exact lp_lt rfl rfl (by omega) (by omega) c_28
                  refine lv_aload_n hx hb (g_42 bX6_end rfl) rfl (lv_at hl 4 rfl) ?_
                  refine va_get (D := G) (ci := 5) (v := .ref qmK) (C := RX6) (T := TX6) (N := 35) hx hb hts iX_X6 hown hK hP 0 rfl rfl 14 (by decide +kernel) (hts _ m_t864) (fun _ h9 => h9) rfl (g_180 (v := 48) bX6_end rfl) ?_
                  refine lv_iload_n hx hb (g_28 bX6_end rfl) rfl (lv_at hl 3 rfl) ?_
                  refine va_alda hx hb hK hP 19 3 rfl rfl (in8 (by omega)) (g_50 bX6_end rfl) ?_
                  refine lv_setv (v := .ref (rK j_4)) (g_ref (by omega)) ?_
                  refine lv_iload hx hb (g_21 (v := 4) bX6_end rfl) (lv_at hl 0 rfl) ?_
                  refine lv_iload_n hx hb (g_29 bX6_end rfl) rfl (lv_at hl 2 rfl) ?_
                  refine lv_if_eq (tgt := 108) hx hb dX6_end_101 (by decide +kernel) (fun _ => ?_) (fun h9 => absurd (by decide +kernel) h9)
                  refine lv_aload_n hx hb (g_42 bX6_end rfl) rfl (lv_at hl 4 rfl) ?_
                  refine va_get (D := G) (ci := 5) (v := .ref qmK) (C := RX6) (T := TX6) (N := 35) hx hb hts iX_X6 hown hK hP 0 rfl rfl 14 (by decide +kernel) (hts _ m_t864) (fun _ h9 => h9) rfl (g_180 (v := 48) bX6_end rfl) ?_
                  refine lv_iload_n hx hb (g_28 bX6_end rfl) rfl (lv_at hl 3 rfl) ?_
                  refine va_alda hx hb hK hP 19 3 rfl rfl (in8 (by omega)) (g_50 bX6_end rfl) ?_
                  refine lv_setv (v := .ref (rK j_4)) (g_ref (by omega)) ?_
                  refine lv_iload hx hb (g_21 (v := 4) bX6_end rfl) (lv_at hl 0 rfl) ?_
                  refine va_iald hx hb hK hP (20 + j_4) 0 (sg8 (n0 := 20) (f := (fun j => zzI cy (rK j) 8 (T_kn tK_24 j))) rfl rfl rfl rfl rfl rfl rfl rfl j_4 (by omega)) rfl (vp_in_nI (by omega) (by omega)) (g_46 bX6_end rfl) ?_
                  refine lv_seti (v := T_kn tK_24 j_4 m_23) (congrArg (T_kn tK_24 j_4) (nI_clamp (by omega))) ?_
                  refine lv_bipush (v := 90) hx hb dX6_end_117 (by decide +kernel) ?_
                  refine lv_aload_n hx hb (g_42 bX6_end rfl) rfl (lv_at hl 4 rfl) ?_
                  refine va_get (D := G) (ci := 5) (v := .ref qmO) (C := RX6) (T := TX6) (N := 35) hx hb hts iX_X6 hown hK hP 0 rfl rfl 13 (by decide +kernel) (hts _ m_t863) (fun _ h9 => h9) rfl (g_180 (v := 45) bX6_end rfl) ?_
                  refine lv_iload_n hx hb (g_28 bX6_end rfl) rfl (lv_at hl 3 rfl) ?_
                  refine va_alda hx hb hK hP 10 3 rfl rfl (in8 (by omega)) (g_50 bX6_end rfl) ?_
                  refine lv_setv (v := .ref (rO j_4)) (g_ref (by omega)) ?_
                  refine lv_iconst (v := 2) hx hb (g_5 bX6_end rfl) (by decide +kernel) ?_
                  refine va_iald hx hb hK hP (11 + j_4) 0 (sg8 (n0 := 11) (f := (fun j => zzI cy (rO j) 5 (onR tK_24 j))) rfl rfl rfl rfl rfl rfl rfl rfl j_4 (by omega)) rfl (in_c rfl) (g_46 bX6_end rfl) ?_
                  refine lv_seti (v := T_me tK_24 j_4) (on_2' _ _) ?_
                  refine lv_iadd hx hb (g_96 bX6_end rfl) ?_
                  refine lv_imul hx hb (g_104 bX6_end rfl) ?_
                  refine lv_bipush (v := 100) hx hb dX6_end_129 (by decide +kernel) ?_
                  refine lv_idiv hx hb (g_108 bX6_end rfl) (by decide +kernel) ?_
                  refine va_iast hx hb hK hP hD hS (20 + j_4) 0 ((sg8 (n0 := 20) (f := (fun j => zzI cy (rK j) 8 (T_kn tK_24 j))) rfl rfl rfl rfl rfl rfl rfl rfl) j_4 (by omega)) rfl (vp_in_nI (by omega) (by omega)) (g_79 bX6_end rfl) (fun H locs => ?_)
                  clear hP hD hS
                  intro hP hD hS
                  rw [nI_clamp (n := m_23) (by omega)] at hP hD
                  have hPD := st8PD (ws' := [zzO qm 5 (v0 :: v1 :: v2 :: v3 :: v4 :: v5 :: v6 :: v7 :: v8 :: v9 :: .int (nI (T_nb (T_setkn tK_24 (updM (T_kn tK_24) j_4 m_23 (((T_kn tK_24 j_4 m_23) * (90 + (T_me tK_24 j_4))) / 100))))) :: .ref qmB :: .int (nI (T_np (T_setkn tK_24 (updM (T_kn tK_24) j_4 m_23 (((T_kn tK_24 j_4 m_23) * (90 + (T_me tK_24 j_4))) / 100))))) :: .ref qmO :: .ref qmK :: .int iEn :: .int iTk :: .int (T_sd (T_setkn tK_24 (updM (T_kn tK_24) j_4 m_23 (((T_kn tK_24 j_4 m_23) * (90 + (T_me tK_24 j_4))) / 100)))) :: v18 :: v19 :: v20 :: v21 :: v22 :: v23 :: v24 :: v25 :: v26 :: .int iLv :: .int iWs :: v29 :: v30 :: v31 :: v32 :: v33 :: v34 :: []), zzG cy 3 qmB rB, zzI cy (rB 0) 4 (bkR (T_setkn tK_24 (updM (T_kn tK_24) j_4 m_23 (((T_kn tK_24 j_4 m_23) * (90 + (T_me tK_24 j_4))) / 100))) 0), zzI cy (rB 1) 4 (bkR (T_setkn tK_24 (updM (T_kn tK_24) j_4 m_23 (((T_kn tK_24 j_4 m_23) * (90 + (T_me tK_24 j_4))) / 100))) 1), zzI cy (rB 2) 4 (bkR (T_setkn tK_24 (updM (T_kn tK_24) j_4 m_23 (((T_kn tK_24 j_4 m_23) * (90 + (T_me tK_24 j_4))) / 100))) 2), zzI cy (rB 3) 4 (bkR (T_setkn tK_24 (updM (T_kn tK_24) j_4 m_23 (((T_kn tK_24 j_4 m_23) * (90 + (T_me tK_24 j_4))) / 100))) 3), zzI cy (rB 4) 4 (bkR (T_setkn tK_24 (updM (T_kn tK_24) j_4 m_23 (((T_kn tK_24 j_4 m_23) * (90 + (T_me tK_24 j_4))) / 100))) 4), zzI cy (rB 5) 4 (bkR (T_setkn tK_24 (updM (T_kn tK_24) j_4 m_23 (((T_kn tK_24 j_4 m_23) * (90 + (T_me tK_24 j_4))) / 100))) 5), zzI cy (rB 6) 4 (bkR (T_setkn tK_24 (updM (T_kn tK_24) j_4 m_23 (((T_kn tK_24 j_4 m_23) * (90 + (T_me tK_24 j_4))) / 100))) 6), zzI cy (rB 7) 4 (bkR (T_setkn tK_24 (updM (T_kn tK_24) j_4 m_23 (((T_kn tK_24 j_4 m_23) * (90 + (T_me tK_24 j_4))) / 100))) 7), zzG cy 3 qmO rO, zzI cy (rO 0) 5 (onR (T_setkn tK_24 (updM (T_kn tK_24) j_4 m_23 (((T_kn tK_24 j_4 m_23) * (90 + (T_me tK_24 j_4))) / 100))) 0), zzI cy (rO 1) 5 (onR (T_setkn tK_24 (updM (T_kn tK_24) j_4 m_23 (((T_kn tK_24 j_4 m_23) * (90 + (T_me tK_24 j_4))) / 100))) 1), zzI cy (rO 2) 5 (onR (T_setkn tK_24 (updM (T_kn tK_24) j_4 m_23 (((T_kn tK_24 j_4 m_23) * (90 + (T_me tK_24 j_4))) / 100))) 2), zzI cy (rO 3) 5 (onR (T_setkn tK_24 (updM (T_kn tK_24) j_4 m_23 (((T_kn tK_24 j_4 m_23) * (90 + (T_me tK_24 j_4))) / 100))) 3), zzI cy (rO 4) 5 (onR (T_setkn tK_24 (updM (T_kn tK_24) j_4 m_23 (((T_kn tK_24 j_4 m_23) * (90 + (T_me tK_24 j_4))) / 100))) 4), zzI cy (rO 5) 5 (onR (T_setkn tK_24 (updM (T_kn tK_24) j_4 m_23 (((T_kn tK_24 j_4 m_23) * (90 + (T_me tK_24 j_4))) / 100))) 5), zzI cy (rO 6) 5 (onR (T_setkn tK_24 (updM (T_kn tK_24) j_4 m_23 (((T_kn tK_24 j_4 m_23) * (90 + (T_me tK_24 j_4))) / 100))) 6), zzI cy (rO 7) 5 (onR (T_setkn tK_24 (updM (T_kn tK_24) j_4 m_23 (((T_kn tK_24 j_4 m_23) * (90 + (T_me tK_24 j_4))) / 100))) 7), zzG cy 3 qmK rK, zzI cy (rK 0) 8 (T_kn (T_setkn tK_24 (updM (T_kn tK_24) j_4 m_23 (((T_kn tK_24 j_4 m_23) * (90 + (T_me tK_24 j_4))) / 100))) 0), zzI cy (rK 1) 8 (T_kn (T_setkn tK_24 (updM (T_kn tK_24) j_4 m_23 (((T_kn tK_24 j_4 m_23) * (90 + (T_me tK_24 j_4))) / 100))) 1), zzI cy (rK 2) 8 (T_kn (T_setkn tK_24 (updM (T_kn tK_24) j_4 m_23 (((T_kn tK_24 j_4 m_23) * (90 + (T_me tK_24 j_4))) / 100))) 2), zzI cy (rK 3) 8 (T_kn (T_setkn tK_24 (updM (T_kn tK_24) j_4 m_23 (((T_kn tK_24 j_4 m_23) * (90 + (T_me tK_24 j_4))) / 100))) 3), zzI cy (rK 4) 8 (T_kn (T_setkn tK_24 (updM (T_kn tK_24) j_4 m_23 (((T_kn tK_24 j_4 m_23) * (90 + (T_me tK_24 j_4))) / 100))) 4), zzI cy (rK 5) 8 (T_kn (T_setkn tK_24 (updM (T_kn tK_24) j_4 m_23 (((T_kn tK_24 j_4 m_23) * (90 + (T_me tK_24 j_4))) / 100))) 5), zzI cy (rK 6) 8 (T_kn (T_setkn tK_24 (updM (T_kn tK_24) j_4 m_23 (((T_kn tK_24 j_4 m_23) * (90 + (T_me tK_24 j_4))) / 100))) 6), zzI cy (rK 7) 8 (T_kn (T_setkn tK_24 (updM (T_kn tK_24) j_4 m_23 (((T_kn tK_24 j_4 m_23) * (90 + (T_me tK_24 j_4))) / 100))) 7)]) (k := j_4) (g1 := T_kn (T_setkn tK_24 (updM (T_kn tK_24) j_4 m_23 (((T_kn tK_24 j_4 m_23) * (90 + (T_me tK_24 j_4))) / 100))) j_4) hP hD (sg8 (n0 := 20) (f := (fun j => zzI cy (rK j) 8 (T_kn tK_24 j))) rfl rfl rfl rfl rfl rfl rfl rfl) (sg8 (n0 := 20) (f := (fun j => zzI cy (rK j) 8 (T_kn (T_setkn tK_24 (updM (T_kn tK_24) j_4 m_23 (((T_kn tK_24 j_4 m_23) * (90 + (T_me tK_24 j_4))) / 100))) j))) rfl rfl rfl rfl rfl rfl rfl rfl) rfl rfl (by omega) rfl (fun i _ => (congrFun (kn_u tK_24 j_4 m_23 (((T_kn tK_24 j_4 m_23) * (90 + (T_me tK_24 j_4))) / 100)) i).symm) (fun j hj => congrArg (zzI cy (rK j) 8) (kn_n tK_24 j_4 m_23 (((T_kn tK_24 j_4 m_23) * (90 + (T_me tK_24 j_4))) / 100) hj))
                  clear hP hD
                  obtain ⟨hP, hD⟩ := hPD
                  refine lv_iinc (v := nI (m_23 + 1)) (lv' := [(4, .int (nI (m_23 + 1))), (1, .int (xG_6 + 0)), (3, .int 0), (2, .int (nI j_4)), (0, .ref qm)]) hx hb dX6_end_133 hl (k := 0) rfl (nI_1 _) (by decide +kernel) rfl (fun ls => ?_)
                  clear hl
                  intro hl
                  refine lv_goto (tgt := 83) hx hb dX6_end_136 (by decide +kernel) ?_
                  exact ih_22 (m_23 + 1) (T_setkn tK_24 (updM (T_kn tK_24) j_4 m_23 (((T_kn tK_24 j_4 m_23) * (90 + (T_me tK_24 j_4))) / 100))) (by omega) (by omega) (⟨TI_kn hTK_26.1 (r_fg (hTK_26.1.2.1 _ _) (hTK_26.1.2.2.2.2.1 _)), hTK_26.2⟩) _ _ _ hP hD hS (lv_sub hl [0, 1, 2, 3, 4] rfl)
            exact lp_20 ((8 - 0) + 1) 0 (T_setgn (T_setag tJ_5 (upd (T_ag tJ_5) j_4 ((T_ag tJ_5 j_4) + 1))) (updB (T_gn (T_setag tJ_5 (upd (T_ag tJ_5) j_4 ((T_ag tJ_5 j_4) + 1)))) j_4 false)) (Nat.lt_succ_self _) (Nat.zero_le _) (⟨hT_8.1, hT_8.2⟩) _ _ ls hP hD hS (lv_sub hl [0, 1, 2, 3, 4] rfl)
          · refine lv_iconst (v := 1) hx hb (g_4 bX6_end rfl) (by decide +kernel) ?_
            refine lv_goto (tgt := 50) hx hb dX6_end_46 (by decide +kernel) ?_
            refine lv_istore_n (lv' := [(3, .int 1), (2, .int (nI j_4)), (1, .int xG_6), (0, .ref qm)]) hx hb (g_62 bX6_end rfl) rfl hl (by decide +kernel) rfl (fun ls => ?_)
            clear hl
            intro hl
            refine lv_aload_n hx hb (g_42 bX6_end rfl) rfl (lv_at hl 3 rfl) ?_
            refine va_get (D := G) (ci := 5) (v := .ref qmO) (C := RX6) (T := TX6) (N := 35) hx hb hts iX_X6 hown hK hP 0 rfl rfl 13 (by decide +kernel) (hts _ m_t863) (fun _ h9 => h9) rfl (g_180 (v := 45) bX6_end rfl) ?_
            refine lv_iload_n hx hb (g_28 bX6_end rfl) rfl (lv_at hl 1 rfl) ?_
            refine va_alda hx hb hK hP 10 3 rfl rfl (in8 (by omega)) (g_50 bX6_end rfl) ?_
            refine lv_setv (v := .ref (rO j_4)) (g_ref (by omega)) ?_
            refine lv_iconst (v := 4) hx hb (g_7 bX6_end rfl) (by decide +kernel) ?_
            refine lv_iload_n hx hb (g_29 bX6_end rfl) rfl (lv_at hl 0 rfl) ?_
            refine lv_if_eq (tgt := 66) hx hb dX6_end_59 (by decide +kernel) (fun h9 => absurd h9 (by decide +kernel)) (fun _ => ?_)
            refine lv_iconst (v := 1) hx hb (g_4 bX6_end rfl) (by decide +kernel) ?_
            refine lv_goto (tgt := 67) hx hb dX6_end_63 (by decide +kernel) ?_
            refine va_iast hx hb hK hP hD hS (11 + j_4) 0 ((sg8 (n0 := 11) (f := (fun j => zzI cy (rO j) 5 (onR (T_setag tJ_5 (upd (T_ag tJ_5) j_4 ((T_ag tJ_5 j_4) + 1))) j))) rfl rfl rfl rfl rfl rfl rfl rfl) j_4 (by omega)) rfl (in_c rfl) (g_79 bX6_end rfl) (fun H locs => ?_)
            clear hP hD hS
            intro hP hD hS
            have hPD := st8PD (ws' := [zzO qm 5 (v0 :: v1 :: v2 :: v3 :: v4 :: v5 :: v6 :: v7 :: v8 :: v9 :: .int (nI (T_nb (T_setgn (T_setag tJ_5 (upd (T_ag tJ_5) j_4 ((T_ag tJ_5 j_4) + 1))) (updB (T_gn (T_setag tJ_5 (upd (T_ag tJ_5) j_4 ((T_ag tJ_5 j_4) + 1)))) j_4 true)))) :: .ref qmB :: .int (nI (T_np (T_setgn (T_setag tJ_5 (upd (T_ag tJ_5) j_4 ((T_ag tJ_5 j_4) + 1))) (updB (T_gn (T_setag tJ_5 (upd (T_ag tJ_5) j_4 ((T_ag tJ_5 j_4) + 1)))) j_4 true)))) :: .ref qmO :: .ref qmK :: .int iEn :: .int iTk :: .int (T_sd (T_setgn (T_setag tJ_5 (upd (T_ag tJ_5) j_4 ((T_ag tJ_5 j_4) + 1))) (updB (T_gn (T_setag tJ_5 (upd (T_ag tJ_5) j_4 ((T_ag tJ_5 j_4) + 1)))) j_4 true))) :: v18 :: v19 :: v20 :: v21 :: v22 :: v23 :: v24 :: v25 :: v26 :: .int iLv :: .int iWs :: v29 :: v30 :: v31 :: v32 :: v33 :: v34 :: []), zzG cy 3 qmB rB, zzI cy (rB 0) 4 (bkR (T_setgn (T_setag tJ_5 (upd (T_ag tJ_5) j_4 ((T_ag tJ_5 j_4) + 1))) (updB (T_gn (T_setag tJ_5 (upd (T_ag tJ_5) j_4 ((T_ag tJ_5 j_4) + 1)))) j_4 true)) 0), zzI cy (rB 1) 4 (bkR (T_setgn (T_setag tJ_5 (upd (T_ag tJ_5) j_4 ((T_ag tJ_5 j_4) + 1))) (updB (T_gn (T_setag tJ_5 (upd (T_ag tJ_5) j_4 ((T_ag tJ_5 j_4) + 1)))) j_4 true)) 1), zzI cy (rB 2) 4 (bkR (T_setgn (T_setag tJ_5 (upd (T_ag tJ_5) j_4 ((T_ag tJ_5 j_4) + 1))) (updB (T_gn (T_setag tJ_5 (upd (T_ag tJ_5) j_4 ((T_ag tJ_5 j_4) + 1)))) j_4 true)) 2), zzI cy (rB 3) 4 (bkR (T_setgn (T_setag tJ_5 (upd (T_ag tJ_5) j_4 ((T_ag tJ_5 j_4) + 1))) (updB (T_gn (T_setag tJ_5 (upd (T_ag tJ_5) j_4 ((T_ag tJ_5 j_4) + 1)))) j_4 true)) 3), zzI cy (rB 4) 4 (bkR (T_setgn (T_setag tJ_5 (upd (T_ag tJ_5) j_4 ((T_ag tJ_5 j_4) + 1))) (updB (T_gn (T_setag tJ_5 (upd (T_ag tJ_5) j_4 ((T_ag tJ_5 j_4) + 1)))) j_4 true)) 4), zzI cy (rB 5) 4 (bkR (T_setgn (T_setag tJ_5 (upd (T_ag tJ_5) j_4 ((T_ag tJ_5 j_4) + 1))) (updB (T_gn (T_setag tJ_5 (upd (T_ag tJ_5) j_4 ((T_ag tJ_5 j_4) + 1)))) j_4 true)) 5), zzI cy (rB 6) 4 (bkR (T_setgn (T_setag tJ_5 (upd (T_ag tJ_5) j_4 ((T_ag tJ_5 j_4) + 1))) (updB (T_gn (T_setag tJ_5 (upd (T_ag tJ_5) j_4 ((T_ag tJ_5 j_4) + 1)))) j_4 true)) 6), zzI cy (rB 7) 4 (bkR (T_setgn (T_setag tJ_5 (upd (T_ag tJ_5) j_4 ((T_ag tJ_5 j_4) + 1))) (updB (T_gn (T_setag tJ_5 (upd (T_ag tJ_5) j_4 ((T_ag tJ_5 j_4) + 1)))) j_4 true)) 7), zzG cy 3 qmO rO, zzI cy (rO 0) 5 (onR (T_setgn (T_setag tJ_5 (upd (T_ag tJ_5) j_4 ((T_ag tJ_5 j_4) + 1))) (updB (T_gn (T_setag tJ_5 (upd (T_ag tJ_5) j_4 ((T_ag tJ_5 j_4) + 1)))) j_4 true)) 0), zzI cy (rO 1) 5 (onR (T_setgn (T_setag tJ_5 (upd (T_ag tJ_5) j_4 ((T_ag tJ_5 j_4) + 1))) (updB (T_gn (T_setag tJ_5 (upd (T_ag tJ_5) j_4 ((T_ag tJ_5 j_4) + 1)))) j_4 true)) 1), zzI cy (rO 2) 5 (onR (T_setgn (T_setag tJ_5 (upd (T_ag tJ_5) j_4 ((T_ag tJ_5 j_4) + 1))) (updB (T_gn (T_setag tJ_5 (upd (T_ag tJ_5) j_4 ((T_ag tJ_5 j_4) + 1)))) j_4 true)) 2), zzI cy (rO 3) 5 (onR (T_setgn (T_setag tJ_5 (upd (T_ag tJ_5) j_4 ((T_ag tJ_5 j_4) + 1))) (updB (T_gn (T_setag tJ_5 (upd (T_ag tJ_5) j_4 ((T_ag tJ_5 j_4) + 1)))) j_4 true)) 3), zzI cy (rO 4) 5 (onR (T_setgn (T_setag tJ_5 (upd (T_ag tJ_5) j_4 ((T_ag tJ_5 j_4) + 1))) (updB (T_gn (T_setag tJ_5 (upd (T_ag tJ_5) j_4 ((T_ag tJ_5 j_4) + 1)))) j_4 true)) 4), zzI cy (rO 5) 5 (onR (T_setgn (T_setag tJ_5 (upd (T_ag tJ_5) j_4 ((T_ag tJ_5 j_4) + 1))) (updB (T_gn (T_setag tJ_5 (upd (T_ag tJ_5) j_4 ((T_ag tJ_5 j_4) + 1)))) j_4 true)) 5), zzI cy (rO 6) 5 (onR (T_setgn (T_setag tJ_5 (upd (T_ag tJ_5) j_4 ((T_ag tJ_5 j_4) + 1))) (updB (T_gn (T_setag tJ_5 (upd (T_ag tJ_5) j_4 ((T_ag tJ_5 j_4) + 1)))) j_4 true)) 6), zzI cy (rO 7) 5 (onR (T_setgn (T_setag tJ_5 (upd (T_ag tJ_5) j_4 ((T_ag tJ_5 j_4) + 1))) (updB (T_gn (T_setag tJ_5 (upd (T_ag tJ_5) j_4 ((T_ag tJ_5 j_4) + 1)))) j_4 true)) 7), zzG cy 3 qmK rK, zzI cy (rK 0) 8 (T_kn (T_setgn (T_setag tJ_5 (upd (T_ag tJ_5) j_4 ((T_ag tJ_5 j_4) + 1))) (updB (T_gn (T_setag tJ_5 (upd (T_ag tJ_5) j_4 ((T_ag tJ_5 j_4) + 1)))) j_4 true)) 0), zzI cy (rK 1) 8 (T_kn (T_setgn (T_setag tJ_5 (upd (T_ag tJ_5) j_4 ((T_ag tJ_5 j_4) + 1))) (updB (T_gn (T_setag tJ_5 (upd (T_ag tJ_5) j_4 ((T_ag tJ_5 j_4) + 1)))) j_4 true)) 1), zzI cy (rK 2) 8 (T_kn (T_setgn (T_setag tJ_5 (upd (T_ag tJ_5) j_4 ((T_ag tJ_5 j_4) + 1))) (updB (T_gn (T_setag tJ_5 (upd (T_ag tJ_5) j_4 ((T_ag tJ_5 j_4) + 1)))) j_4 true)) 2), zzI cy (rK 3) 8 (T_kn (T_setgn (T_setag tJ_5 (upd (T_ag tJ_5) j_4 ((T_ag tJ_5 j_4) + 1))) (updB (T_gn (T_setag tJ_5 (upd (T_ag tJ_5) j_4 ((T_ag tJ_5 j_4) + 1)))) j_4 true)) 3), zzI cy (rK 4) 8 (T_kn (T_setgn (T_setag tJ_5 (upd (T_ag tJ_5) j_4 ((T_ag tJ_5 j_4) + 1))) (updB (T_gn (T_setag tJ_5 (upd (T_ag tJ_5) j_4 ((T_ag tJ_5 j_4) + 1)))) j_4 true)) 4), zzI cy (rK 5) 8 (T_kn (T_setgn (T_setag tJ_5 (upd (T_ag tJ_5) j_4 ((T_ag tJ_5 j_4) + 1))) (updB (T_gn (T_setag tJ_5 (upd (T_ag tJ_5) j_4 ((T_ag tJ_5 j_4) + 1)))) j_4 true)) 5), zzI cy (rK 6) 8 (T_kn (T_setgn (T_setag tJ_5 (upd (T_ag tJ_5) j_4 ((T_ag tJ_5 j_4) + 1))) (updB (T_gn (T_setag tJ_5 (upd (T_ag tJ_5) j_4 ((T_ag tJ_5 j_4) + 1)))) j_4 true)) 6), zzI cy (rK 7) 8 (T_kn (T_setgn (T_setag tJ_5 (upd (T_ag tJ_5) j_4 ((T_ag tJ_5 j_4) + 1))) (updB (T_gn (T_setag tJ_5 (upd (T_ag tJ_5) j_4 ((T_ag tJ_5 j_4) + 1)))) j_4 true)) 7)]) (k := j_4) (g1 := onR (T_setgn (T_setag tJ_5 (upd (T_ag tJ_5) j_4 ((T_ag tJ_5 j_4) + 1))) (updB (T_gn (T_setag tJ_5 (upd (T_ag tJ_5) j_4 ((T_ag tJ_5 j_4) + 1)))) j_4 true)) j_4) hP hD (sg8 (n0 := 11) (f := (fun j => zzI cy (rO j) 5 (onR (T_setag tJ_5 (upd (T_ag tJ_5) j_4 ((T_ag tJ_5 j_4) + 1))) j))) rfl rfl rfl rfl rfl rfl rfl rfl) (sg8 (n0 := 11) (f := (fun j => zzI cy (rO j) 5 (onR (T_setgn (T_setag tJ_5 (upd (T_ag tJ_5) j_4 ((T_ag tJ_5 j_4) + 1))) (updB (T_gn (T_setag tJ_5 (upd (T_ag tJ_5) j_4 ((T_ag tJ_5 j_4) + 1)))) j_4 true)) j))) rfl rfl rfl rfl rfl rfl rfl rfl) rfl rfl (by omega) rfl (on_w4 (T_setag tJ_5 (upd (T_ag tJ_5) j_4 ((T_ag tJ_5 j_4) + 1))) j_4 true) (fun j hj => congrArg (zzI cy (rO j) 5) (on_n4 (T_setag tJ_5 (upd (T_ag tJ_5) j_4 ((T_ag tJ_5 j_4) + 1))) j_4 true hj))
            clear hP hD
            obtain ⟨hP, hD⟩ := hPD
            refine lv_iload_n hx hb (g_27 bX6_end rfl) rfl (lv_at hl 2 rfl) ?_
            refine lv_iload_n hx hb (g_29 bX6_end rfl) rfl (lv_at hl 0 rfl) ?_
            refine lv_if_eq (tgt := 77) hx hb dX6_end_70 (by decide +kernel) (fun h9 => absurd h9 (by decide +kernel)) (fun _ => ?_)
            refine lv_iconst (v := 1) hx hb (g_4 bX6_end rfl) (by decide +kernel) ?_
            refine lv_goto (tgt := 78) hx hb dX6_end_74 (by decide +kernel) ?_
            refine lv_iadd hx hb (g_96 bX6_end rfl) ?_
            refine lv_istore_n (lv' := [(1, .int (xG_6 + 1)), (3, .int 1), (2, .int (nI j_4)), (0, .ref qm)]) hx hb (g_60 bX6_end rfl) rfl hl (by decide +kernel) rfl (fun ls => ?_)
            clear hl
            intro hl
            refine lv_iconst (v := 0) hx hb (g_3 bX6_end rfl) (by decide +kernel) ?_
            refine lv_istore (lv' := [(4, .int 0), (1, .int (xG_6 + 1)), (3, .int 1), (2, .int (nI j_4)), (0, .ref qm)]) hx hb (g_54 (v := 4) bX6_end rfl) hl (by decide +kernel) rfl (fun ls => ?_)
            clear hl
            intro hl
            have lp_34 : ∀ (n_35 : Nat) (m_37 : Nat) (tK_38 : TA), 8 - m_37 < n_35 → m_37 ≤ T_nb tA → TI tK_38 ∧ T_nb tK_38 = T_nb tA ∧ T_np tK_38 = T_np tA → ∀ (H : Heap) (locs : List Loc) (ls : Array Slot), va_P G CL [zzO qm 5 (v0 :: v1 :: v2 :: v3 :: v4 :: v5 :: v6 :: v7 :: v8 :: v9 :: .int (nI (T_nb tK_38)) :: .ref qmB :: .int (nI (T_np tK_38)) :: .ref qmO :: .ref qmK :: .int iEn :: .int iTk :: .int (T_sd tK_38) :: v18 :: v19 :: v20 :: v21 :: v22 :: v23 :: v24 :: v25 :: v26 :: .int iLv :: .int iWs :: v29 :: v30 :: v31 :: v32 :: v33 :: v34 :: []), zzG cy 3 qmB rB, zzI cy (rB 0) 4 (bkR tK_38 0), zzI cy (rB 1) 4 (bkR tK_38 1), zzI cy (rB 2) 4 (bkR tK_38 2), zzI cy (rB 3) 4 (bkR tK_38 3), zzI cy (rB 4) 4 (bkR tK_38 4), zzI cy (rB 5) 4 (bkR tK_38 5), zzI cy (rB 6) 4 (bkR tK_38 6), zzI cy (rB 7) 4 (bkR tK_38 7), zzG cy 3 qmO rO, zzI cy (rO 0) 5 (onR tK_38 0), zzI cy (rO 1) 5 (onR tK_38 1), zzI cy (rO 2) 5 (onR tK_38 2), zzI cy (rO 3) 5 (onR tK_38 3), zzI cy (rO 4) 5 (onR tK_38 4), zzI cy (rO 5) 5 (onR tK_38 5), zzI cy (rO 6) 5 (onR tK_38 6), zzI cy (rO 7) 5 (onR tK_38 7), zzG cy 3 qmK rK, zzI cy (rK 0) 8 (T_kn tK_38 0), zzI cy (rK 1) 8 (T_kn tK_38 1), zzI cy (rK 2) 8 (T_kn tK_38 2), zzI cy (rK 3) 8 (T_kn tK_38 3), zzI cy (rK 4) 8 (T_kn tK_38 4), zzI cy (rK 5) 8 (T_kn tK_38 5), zzI cy (rK 6) 8 (T_kn tK_38 6), zzI cy (rK 7) 8 (T_kn tK_38 7)] H → va_D A [zzO qm 5 (v0 :: v1 :: v2 :: v3 :: v4 :: v5 :: v6 :: v7 :: v8 :: v9 :: .int (nI (T_nb tK_38)) :: .ref qmB :: .int (nI (T_np tK_38)) :: .ref qmO :: .ref qmK :: .int iEn :: .int iTk :: .int (T_sd tK_38) :: v18 :: v19 :: v20 :: v21 :: v22 :: v23 :: v24 :: v25 :: v26 :: .int iLv :: .int iWs :: v29 :: v30 :: v31 :: v32 :: v33 :: v34 :: []), zzG cy 3 qmB rB, zzI cy (rB 0) 4 (bkR tK_38 0), zzI cy (rB 1) 4 (bkR tK_38 1), zzI cy (rB 2) 4 (bkR tK_38 2), zzI cy (rB 3) 4 (bkR tK_38 3), zzI cy (rB 4) 4 (bkR tK_38 4), zzI cy (rB 5) 4 (bkR tK_38 5), zzI cy (rB 6) 4 (bkR tK_38 6), zzI cy (rB 7) 4 (bkR tK_38 7), zzG cy 3 qmO rO, zzI cy (rO 0) 5 (onR tK_38 0), zzI cy (rO 1) 5 (onR tK_38 1), zzI cy (rO 2) 5 (onR tK_38 2), zzI cy (rO 3) 5 (onR tK_38 3), zzI cy (rO 4) 5 (onR tK_38 4), zzI cy (rO 5) 5 (onR tK_38 5), zzI cy (rO 6) 5 (onR tK_38 6), zzI cy (rO 7) 5 (onR tK_38 7), zzG cy 3 qmK rK, zzI cy (rK 0) 8 (T_kn tK_38 0), zzI cy (rK 1) 8 (T_kn tK_38 1), zzI cy (rK 2) 8 (T_kn tK_38 2), zzI cy (rK 3) 8 (T_kn tK_38 3), zzI cy (rK 4) 8 (T_kn tK_38 4), zzI cy (rK 5) 8 (T_kn tK_38 5), zzI cy (rK 6) 8 (T_kn tK_38 6), zzI cy (rK 7) 8 (T_kn tK_38 7)] → va_S A s.heap H locs → lv_has ls 5 [(4, .int (nI m_37)), (1, .int (xG_6 + 1)), (3, .int 1), (2, .int (nI j_4)), (0, .ref qm)] → W p l e (Rm 2 0 0) s m (List.toArray (α := Value) [.ref qm]) below meth c H locs 0 0 (MQ below ((Wi G (fun r u => ∃ (tX : TA) (iX : Int32), u = [zzO qm 5 (v0 :: v1 :: v2 :: v3 :: v4 :: v5 :: v6 :: v7 :: v8 :: v9 :: .int (nI (T_nb tX)) :: .ref qmB :: .int (nI (T_np tX)) :: .ref qmO :: .ref qmK :: .int iX :: .int iTk :: .int (T_sd tX) :: v18 :: v19 :: v20 :: v21 :: v22 :: v23 :: v24 :: v25 :: v26 :: .int iLv :: .int iWs :: v29 :: v30 :: v31 :: v32 :: v33 :: v34 :: []), zzG cy 3 qmB rB, zzI cy (rB 0) 4 (bkR tX 0), zzI cy (rB 1) 4 (bkR tX 1), zzI cy (rB 2) 4 (bkR tX 2), zzI cy (rB 3) 4 (bkR tX 3), zzI cy (rB 4) 4 (bkR tX 4), zzI cy (rB 5) 4 (bkR tX 5), zzI cy (rB 6) 4 (bkR tX 6), zzI cy (rB 7) 4 (bkR tX 7), zzG cy 3 qmO rO, zzI cy (rO 0) 5 (onR tX 0), zzI cy (rO 1) 5 (onR tX 1), zzI cy (rO 2) 5 (onR tX 2), zzI cy (rO 3) 5 (onR tX 3), zzI cy (rO 4) 5 (onR tX 4), zzI cy (rO 5) 5 (onR tX 5), zzI cy (rO 6) 5 (onR tX 6), zzI cy (rO 7) 5 (onR tX 7), zzG cy 3 qmK rK, zzI cy (rK 0) 8 (T_kn tX 0), zzI cy (rK 1) 8 (T_kn tX 1), zzI cy (rK 2) 8 (T_kn tX 2), zzI cy (rK 3) 8 (T_kn tX 3), zzI cy (rK 4) 8 (T_kn tX 4), zzI cy (rK 5) 8 (T_kn tX 5), zzI cy (rK 6) 8 (T_kn tX 6), zzI cy (rK 7) 8 (T_kn tX 7)] ∧ (TI tX ∧ T_nb tX = T_nb tA ∧ T_np tX = T_np tA) ∧ (True))) A) (List.toArray (α := Value) [.ref qm]) s 0 0 A) (F0 m 83 ls []) := by
              intro n_35
              induction n_35 with
              | zero => intro m_37 tK_38 hm9; exact absurd hm9 (Nat.not_lt_zero _)
              | succ n_35 ih_36 =>
                intro m_37 tK_38 hm_41 hm_41 hTK_40 H locs ls hP hD hS hl
                refine lv_iload hx hb (g_21 (v := 4) bX6_end rfl) (lv_at hl 0 rfl) ?_
                refine lv_aload_n hx hb (g_42 bX6_end rfl) rfl (lv_at hl 4 rfl) ?_
                refine va_get (D := G) (ci := 5) (v := .int (nI (T_nb tK_38))) (C := RX6) (T := TX6) (N := 35) hx hb hts iX_X6 hown hK hP 0 rfl rfl 10 (by decide +kernel) (hts _ m_t860) (fun _ h9 => h9) rfl (g_180 (v := 71) bX6_end rfl) ?_
                refine lv_icmp_ge (tgt := 139) hx hb dX6_end_89 (by decide +kernel) (fun c_42 => ?_) (fun c_42 => ?_)
                · have hlt_43e : T_nb tK_38 = T_nb tA := hTK_40.2.1
                  refine lv_iinc (v := nI (j_4 + 1)) (lv' := [(2, .int (nI (j_4 + 1))), (4, .int (nI m_37)), (1, .int (xG_6 + 1)), (3, .int 1), (0, .ref qm)]) hx hb dX6_end_139 hl (k := 3) rfl (nI_1 _) (by decide +kernel) rfl (fun ls => ?_)
                  clear hl
                  intro hl
                  refine lv_goto (tgt := 4) hx hb dX6_end_142 (by decide +kernel) ?_
                  exact ih_3 (j_4 + 1) tK_38 (xG_6 + 1) (by omega) (by omega) hTK_40 _ _ _ hP hD hS (lv_sub hl [0, 2, 4] rfl)
                · have hlt_44e : T_nb tK_38 = T_nb tA := hTK_40.2.1
                  have hlt_44 : m_37 < T_nb tA := by rw [hlt_44e] at c_42; exact lp_lt rfl rfl (by omega) (by omega) c_42
                  refine lv_aload_n hx hb (g_42 bX6_end rfl) rfl (lv_at hl 4 rfl) ?_
                  refine va_get (D := G) (ci := 5) (v := .ref qmK) (C := RX6) (T := TX6) (N := 35) hx hb hts iX_X6 hown hK hP 0 rfl rfl 14 (by decide +kernel) (hts _ m_t864) (fun _ h9 => h9) rfl (g_180 (v := 48) bX6_end rfl) ?_
                  refine lv_iload_n hx hb (g_28 bX6_end rfl) rfl (lv_at hl 3 rfl) ?_
                  refine va_alda hx hb hK hP 19 3 rfl rfl (in8 (by omega)) (g_50 bX6_end rfl) ?_
                  refine lv_setv (v := .ref (rK j_4)) (g_ref (by omega)) ?_
                  refine lv_iload hx hb (g_21 (v := 4) bX6_end rfl) (lv_at hl 0 rfl) ?_
                  refine lv_iload_n hx hb (g_29 bX6_end rfl) rfl (lv_at hl 2 rfl) ?_
                  refine lv_if_eq (tgt := 108) hx hb dX6_end_101 (by decide +kernel) (fun h9 => absurd h9 (by decide +kernel)) (fun _ => ?_)
                  refine lv_iconst (v := 0) hx hb (g_3 bX6_end rfl) (by decide +kernel) ?_
                  refine lv_goto (tgt := 132) hx hb dX6_end_105 (by decide +kernel) ?_
                  refine va_iast hx hb hK hP hD hS (20 + j_4) 0 ((sg8 (n0 := 20) (f := (fun j => zzI cy (rK j) 8 (T_kn tK_38 j))) rfl rfl rfl rfl rfl rfl rfl rfl) j_4 (by omega)) rfl (vp_in_nI (by omega) (by omega)) (g_79 bX6_end rfl) (fun H locs => ?_)
                  clear hP hD hS
                  intro hP hD hS
                  rw [nI_clamp (n := m_37) (by omega)] at hP hD
                  have hPD := st8PD (ws' := [zzO qm 5 (v0 :: v1 :: v2 :: v3 :: v4 :: v5 :: v6 :: v7 :: v8 :: v9 :: .int (nI (T_nb (T_setkn tK_38 (updM (T_kn tK_38) j_4 m_37 0)))) :: .ref qmB :: .int (nI (T_np (T_setkn tK_38 (updM (T_kn tK_38) j_4 m_37 0)))) :: .ref qmO :: .ref qmK :: .int iEn :: .int iTk :: .int (T_sd (T_setkn tK_38 (updM (T_kn tK_38) j_4 m_37 0))) :: v18 :: v19 :: v20 :: v21 :: v22 :: v23 :: v24 :: v25 :: v26 :: .int iLv :: .int iWs :: v29 :: v30 :: v31 :: v32 :: v33 :: v34 :: []), zzG cy 3 qmB rB, zzI cy (rB 0) 4 (bkR (T_setkn tK_38 (updM (T_kn tK_38) j_4 m_37 0)) 0), zzI cy (rB 1) 4 (bkR (T_setkn tK_38 (updM (T_kn tK_38) j_4 m_37 0)) 1), zzI cy (rB 2) 4 (bkR (T_setkn tK_38 (updM (T_kn tK_38) j_4 m_37 0)) 2), zzI cy (rB 3) 4 (bkR (T_setkn tK_38 (updM (T_kn tK_38) j_4 m_37 0)) 3), zzI cy (rB 4) 4 (bkR (T_setkn tK_38 (updM (T_kn tK_38) j_4 m_37 0)) 4), zzI cy (rB 5) 4 (bkR (T_setkn tK_38 (updM (T_kn tK_38) j_4 m_37 0)) 5), zzI cy (rB 6) 4 (bkR (T_setkn tK_38 (updM (T_kn tK_38) j_4 m_37 0)) 6), zzI cy (rB 7) 4 (bkR (T_setkn tK_38 (updM (T_kn tK_38) j_4 m_37 0)) 7), zzG cy 3 qmO rO, zzI cy (rO 0) 5 (onR (T_setkn tK_38 (updM (T_kn tK_38) j_4 m_37 0)) 0), zzI cy (rO 1) 5 (onR (T_setkn tK_38 (updM (T_kn tK_38) j_4 m_37 0)) 1), zzI cy (rO 2) 5 (onR (T_setkn tK_38 (updM (T_kn tK_38) j_4 m_37 0)) 2), zzI cy (rO 3) 5 (onR (T_setkn tK_38 (updM (T_kn tK_38) j_4 m_37 0)) 3), zzI cy (rO 4) 5 (onR (T_setkn tK_38 (updM (T_kn tK_38) j_4 m_37 0)) 4), zzI cy (rO 5) 5 (onR (T_setkn tK_38 (updM (T_kn tK_38) j_4 m_37 0)) 5), zzI cy (rO 6) 5 (onR (T_setkn tK_38 (updM (T_kn tK_38) j_4 m_37 0)) 6), zzI cy (rO 7) 5 (onR (T_setkn tK_38 (updM (T_kn tK_38) j_4 m_37 0)) 7), zzG cy 3 qmK rK, zzI cy (rK 0) 8 (T_kn (T_setkn tK_38 (updM (T_kn tK_38) j_4 m_37 0)) 0), zzI cy (rK 1) 8 (T_kn (T_setkn tK_38 (updM (T_kn tK_38) j_4 m_37 0)) 1), zzI cy (rK 2) 8 (T_kn (T_setkn tK_38 (updM (T_kn tK_38) j_4 m_37 0)) 2), zzI cy (rK 3) 8 (T_kn (T_setkn tK_38 (updM (T_kn tK_38) j_4 m_37 0)) 3), zzI cy (rK 4) 8 (T_kn (T_setkn tK_38 (updM (T_kn tK_38) j_4 m_37 0)) 4), zzI cy (rK 5) 8 (T_kn (T_setkn tK_38 (updM (T_kn tK_38) j_4 m_37 0)) 5), zzI cy (rK 6) 8 (T_kn (T_setkn tK_38 (updM (T_kn tK_38) j_4 m_37 0)) 6), zzI cy (rK 7) 8 (T_kn (T_setkn tK_38 (updM (T_kn tK_38) j_4 m_37 0)) 7)]) (k := j_4) (g1 := T_kn (T_setkn tK_38 (updM (T_kn tK_38) j_4 m_37 0)) j_4) hP hD (sg8 (n0 := 20) (f := (fun j => zzI cy (rK j) 8 (T_kn tK_38 j))) rfl rfl rfl rfl rfl rfl rfl rfl) (sg8 (n0 := 20) (f := (fun j => zzI cy (rK j) 8 (T_kn (T_setkn tK_38 (updM (T_kn tK_38) j_4 m_37 0)) j))) rfl rfl rfl rfl rfl rfl rfl rfl) rfl rfl (by omega) rfl (fun i _ => (congrFun (kn_u tK_38 j_4 m_37 0) i).symm) (fun j hj => congrArg (zzI cy (rK j) 8) (kn_n tK_38 j_4 m_37 0 hj))
                  clear hP hD
                  obtain ⟨hP, hD⟩ := hPD
                  refine lv_iinc (v := nI (m_37 + 1)) (lv' := [(4, .int (nI (m_37 + 1))), (1, .int (xG_6 + 1)), (3, .int 1), (2, .int (nI j_4)), (0, .ref qm)]) hx hb dX6_end_133 hl (k := 0) rfl (nI_1 _) (by decide +kernel) rfl (fun ls => ?_)
                  clear hl
                  intro hl
                  refine lv_goto (tgt := 83) hx hb dX6_end_136 (by decide +kernel) ?_
                  exact ih_36 (m_37 + 1) (T_setkn tK_38 (updM (T_kn tK_38) j_4 m_37 0)) (by omega) (by omega) (⟨TI_kn hTK_40.1 (r_0 1000), hTK_40.2⟩) _ _ _ hP hD hS (lv_sub hl [0, 1, 2, 3, 4] rfl)
            exact lp_34 ((8 - 0) + 1) 0 (T_setgn (T_setag tJ_5 (upd (T_ag tJ_5) j_4 ((T_ag tJ_5 j_4) + 1))) (updB (T_gn (T_setag tJ_5 (upd (T_ag tJ_5) j_4 ((T_ag tJ_5 j_4) + 1)))) j_4 true)) (Nat.lt_succ_self _) (Nat.zero_le _) (⟨hT_8.1, hT_8.2⟩) _ _ ls hP hD hS (lv_sub hl [0, 1, 2, 3, 4] rfl)
        · refine lv_if_eq (tgt := 139) hx hb dX6_end_17 (by decide +kernel) (fun _ => ?_) (fun h9 => absurd (by decide +kernel) h9)
          refine lv_iinc (v := nI (j_4 + 1)) (lv' := [(2, .int (nI (j_4 + 1))), (1, .int xG_6), (0, .ref qm)]) hx hb dX6_end_139 hl (k := 0) rfl (nI_1 _) (by decide +kernel) rfl (fun ls => ?_)
          clear hl
          intro hl
          refine lv_goto (tgt := 4) hx hb dX6_end_142 (by decide +kernel) ?_
          exact ih_3 (j_4 + 1) tJ_5 xG_6 (by omega) (by omega) hT_8 _ _ _ hP hD hS (lv_sub hl [0, 1, 2] rfl)
  exact lp_1 ((8 - 0) + 1) 0 tA 0 (Nat.lt_succ_self _) (Nat.zero_le _) (⟨hTI, rfl, rfl⟩) _ _ ls hP hD hS (lv_sub hl [0, 1, 2] rfl)
set_option maxHeartbeats 4000000 in
set_option maxRecDepth 100000 in
theorem c_X6_goes (l : Launch) (G : va_G) (cy : Nat → ClassId) (sz : Nat) (qm : Nat) (v0 : Value) (v1 : Value) (v2 : Value) (v3 : Value) (v4 : Value) (v5 : Value) (v6 : Value) (v7 : Value) (v8 : Value) (v9 : Value) (tA : TA) (qmB : Nat) (qmO : Nat) (qmK : Nat) (iEn : Int32) (iTk : Int32) (v18 : Value) (v19 : Value) (v20 : Value) (v21 : Value) (v22 : Value) (v23 : Value) (v24 : Value) (v25 : Value) (v26 : Value) (iLv : Int32) (iWs : Int32) (v29 : Value) (v30 : Value) (v31 : Value) (v32 : Value) (v33 : Value) (v34 : Value) (rB : Nat → Nat) (rO : Nat → Nat) (rK : Nat → Nat) (iK : Int32) (kM : Nat) (kN : Nat)  (hB : T_nb tA ≤ 8) (hPp : T_np tA ≤ 8) (hTI : TI tA) (hM : kM ≤ 99) (hN60 : kN ≤ 60) : MW l yX6_goes cX6_goes 6 (some .int) 8 0 0 G cy [zzO qm 5 (v0 :: v1 :: v2 :: v3 :: v4 :: v5 :: v6 :: v7 :: v8 :: v9 :: .int (nI (T_nb tA)) :: .ref qmB :: .int (nI (T_np tA)) :: .ref qmO :: .ref qmK :: .int iEn :: .int iTk :: .int (T_sd tA) :: v18 :: v19 :: v20 :: v21 :: v22 :: v23 :: v24 :: v25 :: v26 :: .int iLv :: .int iWs :: v29 :: v30 :: v31 :: v32 :: v33 :: v34 :: []), zzG cy 3 qmB rB, zzI cy (rB 0) 4 (bkR tA 0), zzI cy (rB 1) 4 (bkR tA 1), zzI cy (rB 2) 4 (bkR tA 2), zzI cy (rB 3) 4 (bkR tA 3), zzI cy (rB 4) 4 (bkR tA 4), zzI cy (rB 5) 4 (bkR tA 5), zzI cy (rB 6) 4 (bkR tA 6), zzI cy (rB 7) 4 (bkR tA 7), zzG cy 3 qmO rO, zzI cy (rO 0) 5 (onR tA 0), zzI cy (rO 1) 5 (onR tA 1), zzI cy (rO 2) 5 (onR tA 2), zzI cy (rO 3) 5 (onR tA 3), zzI cy (rO 4) 5 (onR tA 4), zzI cy (rO 5) 5 (onR tA 5), zzI cy (rO 6) 5 (onR tA 6), zzI cy (rO 7) 5 (onR tA 7), zzG cy 3 qmK rK, zzI cy (rK 0) 8 (T_kn tA 0), zzI cy (rK 1) 8 (T_kn tA 1), zzI cy (rK 2) 8 (T_kn tA 2), zzI cy (rK 3) 8 (T_kn tA 3), zzI cy (rK 4) 8 (T_kn tA 4), zzI cy (rK 5) 8 (T_kn tA 5), zzI cy (rK 6) 8 (T_kn tA 6), zzI cy (rK 7) 8 (T_kn tA 7)] sz [.ref qm, .int iK, .int (nI kM), .int (nI kN)] (Wi G (fun r u => ∃ (tX : TA) (iX : Int32) (iY : Int32), u = [zzO qm 5 (v0 :: v1 :: v2 :: v3 :: v4 :: v5 :: v6 :: v7 :: v8 :: v9 :: .int (nI (T_nb tX)) :: .ref qmB :: .int (nI (T_np tX)) :: .ref qmO :: .ref qmK :: .int iX :: .int iTk :: .int (T_sd tX) :: v18 :: v19 :: v20 :: v21 :: v22 :: v23 :: v24 :: v25 :: v26 :: .int iY :: .int iWs :: v29 :: v30 :: v31 :: v32 :: v33 :: v34 :: []), zzG cy 3 qmB rB, zzI cy (rB 0) 4 (bkR tX 0), zzI cy (rB 1) 4 (bkR tX 1), zzI cy (rB 2) 4 (bkR tX 2), zzI cy (rB 3) 4 (bkR tX 3), zzI cy (rB 4) 4 (bkR tX 4), zzI cy (rB 5) 4 (bkR tX 5), zzI cy (rB 6) 4 (bkR tX 6), zzI cy (rB 7) 4 (bkR tX 7), zzG cy 3 qmO rO, zzI cy (rO 0) 5 (onR tX 0), zzI cy (rO 1) 5 (onR tX 1), zzI cy (rO 2) 5 (onR tX 2), zzI cy (rO 3) 5 (onR tX 3), zzI cy (rO 4) 5 (onR tX 4), zzI cy (rO 5) 5 (onR tX 5), zzI cy (rO 6) 5 (onR tX 6), zzI cy (rO 7) 5 (onR tX 7), zzG cy 3 qmK rK, zzI cy (rK 0) 8 (T_kn tX 0), zzI cy (rK 1) 8 (T_kn tX 1), zzI cy (rK 2) 8 (T_kn tX 2), zzI cy (rK 3) 8 (T_kn tX 3), zzI cy (rK 4) 8 (T_kn tX 4), zzI cy (rK 5) 8 (T_kn tX 5), zzI cy (rK 6) 8 (T_kn tX 6), zzI cy (rK 7) 8 (T_kn tX 7)] ∧ (TI tX ∧ T_nb tX = T_nb tA ∧ T_np tX = T_np tA) ∧ (True))) := by
  refine enW RX6 (by decide +kernel) rfl (Nat.le_of_ble_eq_true rfl) (fun p e s m below meth c ls A hx hb hml hown hts hr hlocks hP hN hl hin hD hA hS => ?_)
  have hin : meth.name = _ := hin
  have hK := hN.1
  replace hl : lv_has ls 6 [(0, .ref qm), (1, .int iK), (2, .int (nI kM)), (3, .int (nI kN))] := hl
  refine lv_iconst (v := 0) hx hb (g_3 bX6_goes rfl) (by decide +kernel) ?_
  refine lv_istore (lv' := [(4, .int 0), (0, .ref qm), (1, .int iK), (2, .int (nI kM)), (3, .int (nI kN))]) hx hb (g_54 (v := 4) bX6_goes rfl) hl (by decide +kernel) rfl (fun ls => ?_)
  clear hl
  intro hl
  refine lv_iconst (v := 0) hx hb (g_3 bX6_goes rfl) (by decide +kernel) ?_
  refine lv_istore (lv' := [(5, .int 0), (4, .int 0), (0, .ref qm), (1, .int iK), (2, .int (nI kM)), (3, .int (nI kN))]) hx hb (g_54 (v := 5) bX6_goes rfl) hl (by decide +kernel) rfl (fun ls => ?_)
  clear hl
  intro hl
  have lp_1 : ∀ (n_2 : Nat) (j_4 : Nat) (tJ_5 : TA) (xS_6 : Int32) (xE_7 : Int32) (xL_8 : Int32), 60 - j_4 < n_2 → j_4 ≤ kN → TI tJ_5 ∧ T_nb tJ_5 = T_nb tA ∧ T_np tJ_5 = T_np tA → ∀ (H : Heap) (locs : List Loc) (ls : Array Slot), va_P G CL [zzO qm 5 (v0 :: v1 :: v2 :: v3 :: v4 :: v5 :: v6 :: v7 :: v8 :: v9 :: .int (nI (T_nb tJ_5)) :: .ref qmB :: .int (nI (T_np tJ_5)) :: .ref qmO :: .ref qmK :: .int xE_7 :: .int iTk :: .int (T_sd tJ_5) :: v18 :: v19 :: v20 :: v21 :: v22 :: v23 :: v24 :: v25 :: v26 :: .int xL_8 :: .int iWs :: v29 :: v30 :: v31 :: v32 :: v33 :: v34 :: []), zzG cy 3 qmB rB, zzI cy (rB 0) 4 (bkR tJ_5 0), zzI cy (rB 1) 4 (bkR tJ_5 1), zzI cy (rB 2) 4 (bkR tJ_5 2), zzI cy (rB 3) 4 (bkR tJ_5 3), zzI cy (rB 4) 4 (bkR tJ_5 4), zzI cy (rB 5) 4 (bkR tJ_5 5), zzI cy (rB 6) 4 (bkR tJ_5 6), zzI cy (rB 7) 4 (bkR tJ_5 7), zzG cy 3 qmO rO, zzI cy (rO 0) 5 (onR tJ_5 0), zzI cy (rO 1) 5 (onR tJ_5 1), zzI cy (rO 2) 5 (onR tJ_5 2), zzI cy (rO 3) 5 (onR tJ_5 3), zzI cy (rO 4) 5 (onR tJ_5 4), zzI cy (rO 5) 5 (onR tJ_5 5), zzI cy (rO 6) 5 (onR tJ_5 6), zzI cy (rO 7) 5 (onR tJ_5 7), zzG cy 3 qmK rK, zzI cy (rK 0) 8 (T_kn tJ_5 0), zzI cy (rK 1) 8 (T_kn tJ_5 1), zzI cy (rK 2) 8 (T_kn tJ_5 2), zzI cy (rK 3) 8 (T_kn tJ_5 3), zzI cy (rK 4) 8 (T_kn tJ_5 4), zzI cy (rK 5) 8 (T_kn tJ_5 5), zzI cy (rK 6) 8 (T_kn tJ_5 6), zzI cy (rK 7) 8 (T_kn tJ_5 7)] H → va_D A [zzO qm 5 (v0 :: v1 :: v2 :: v3 :: v4 :: v5 :: v6 :: v7 :: v8 :: v9 :: .int (nI (T_nb tJ_5)) :: .ref qmB :: .int (nI (T_np tJ_5)) :: .ref qmO :: .ref qmK :: .int xE_7 :: .int iTk :: .int (T_sd tJ_5) :: v18 :: v19 :: v20 :: v21 :: v22 :: v23 :: v24 :: v25 :: v26 :: .int xL_8 :: .int iWs :: v29 :: v30 :: v31 :: v32 :: v33 :: v34 :: []), zzG cy 3 qmB rB, zzI cy (rB 0) 4 (bkR tJ_5 0), zzI cy (rB 1) 4 (bkR tJ_5 1), zzI cy (rB 2) 4 (bkR tJ_5 2), zzI cy (rB 3) 4 (bkR tJ_5 3), zzI cy (rB 4) 4 (bkR tJ_5 4), zzI cy (rB 5) 4 (bkR tJ_5 5), zzI cy (rB 6) 4 (bkR tJ_5 6), zzI cy (rB 7) 4 (bkR tJ_5 7), zzG cy 3 qmO rO, zzI cy (rO 0) 5 (onR tJ_5 0), zzI cy (rO 1) 5 (onR tJ_5 1), zzI cy (rO 2) 5 (onR tJ_5 2), zzI cy (rO 3) 5 (onR tJ_5 3), zzI cy (rO 4) 5 (onR tJ_5 4), zzI cy (rO 5) 5 (onR tJ_5 5), zzI cy (rO 6) 5 (onR tJ_5 6), zzI cy (rO 7) 5 (onR tJ_5 7), zzG cy 3 qmK rK, zzI cy (rK 0) 8 (T_kn tJ_5 0), zzI cy (rK 1) 8 (T_kn tJ_5 1), zzI cy (rK 2) 8 (T_kn tJ_5 2), zzI cy (rK 3) 8 (T_kn tJ_5 3), zzI cy (rK 4) 8 (T_kn tJ_5 4), zzI cy (rK 5) 8 (T_kn tJ_5 5), zzI cy (rK 6) 8 (T_kn tJ_5 6), zzI cy (rK 7) 8 (T_kn tJ_5 7)] → va_S A s.heap H locs → lv_has ls 6 [(5, .int (nI j_4)), (4, .int xS_6), (0, .ref qm), (1, .int iK), (2, .int (nI kM)), (3, .int (nI kN))] → W p l e (Rm 8 0 0) s m (List.toArray (α := Value) [.ref qm, .int iK, .int (nI kM), .int (nI kN)]) below meth c H locs 0 0 (MQ below ((Wi G (fun r u => ∃ (tX : TA) (iX : Int32) (iY : Int32), u = [zzO qm 5 (v0 :: v1 :: v2 :: v3 :: v4 :: v5 :: v6 :: v7 :: v8 :: v9 :: .int (nI (T_nb tX)) :: .ref qmB :: .int (nI (T_np tX)) :: .ref qmO :: .ref qmK :: .int iX :: .int iTk :: .int (T_sd tX) :: v18 :: v19 :: v20 :: v21 :: v22 :: v23 :: v24 :: v25 :: v26 :: .int iY :: .int iWs :: v29 :: v30 :: v31 :: v32 :: v33 :: v34 :: []), zzG cy 3 qmB rB, zzI cy (rB 0) 4 (bkR tX 0), zzI cy (rB 1) 4 (bkR tX 1), zzI cy (rB 2) 4 (bkR tX 2), zzI cy (rB 3) 4 (bkR tX 3), zzI cy (rB 4) 4 (bkR tX 4), zzI cy (rB 5) 4 (bkR tX 5), zzI cy (rB 6) 4 (bkR tX 6), zzI cy (rB 7) 4 (bkR tX 7), zzG cy 3 qmO rO, zzI cy (rO 0) 5 (onR tX 0), zzI cy (rO 1) 5 (onR tX 1), zzI cy (rO 2) 5 (onR tX 2), zzI cy (rO 3) 5 (onR tX 3), zzI cy (rO 4) 5 (onR tX 4), zzI cy (rO 5) 5 (onR tX 5), zzI cy (rO 6) 5 (onR tX 6), zzI cy (rO 7) 5 (onR tX 7), zzG cy 3 qmK rK, zzI cy (rK 0) 8 (T_kn tX 0), zzI cy (rK 1) 8 (T_kn tX 1), zzI cy (rK 2) 8 (T_kn tX 2), zzI cy (rK 3) 8 (T_kn tX 3), zzI cy (rK 4) 8 (T_kn tX 4), zzI cy (rK 5) 8 (T_kn tX 5), zzI cy (rK 6) 8 (T_kn tX 6), zzI cy (rK 7) 8 (T_kn tX 7)] ∧ (TI tX ∧ T_nb tX = T_nb tA ∧ T_np tX = T_np tA) ∧ (True))) A) (List.toArray (α := Value) [.ref qm, .int iK, .int (nI kM), .int (nI kN)]) s 0 0 A) (F0 m 6 ls []) := by
    intro n_2
    induction n_2 with
    | zero => intro j_4 tJ_5 xS_6 xE_7 xL_8 hm9; exact absurd hm9 (Nat.not_lt_zero _)
    | succ n_2 ih_3 =>
      intro j_4 tJ_5 xS_6 xE_7 xL_8 hm_11 hj_9 hT_10 H locs ls hP hD hS hl
      refine lv_iload hx hb (g_21 (v := 5) bX6_goes rfl) (lv_at hl 0 rfl) ?_
      refine lv_iload_n hx hb (g_29 bX6_goes rfl) rfl (lv_at hl 5 rfl) ?_
      refine lv_icmp_ge (tgt := 52) hx hb dX6_goes_9 (by decide +kernel) (fun c_12 => ?_) (fun c_12 => ?_)
      · refine lv_iload hx hb (g_21 (v := 4) bX6_goes rfl) (lv_at hl 1 rfl) ?_
        exact endWs [[true, true, true, true, true, true, true, true, true, true, true, true, true, true, true, true, true, true, true, true, true, true, true, true, true, true, true, true]] hx hb hr hlocks rfl hP hD rfl (by decide +kernel) hS ⟨tJ_5, xE_7, xL_8, rfl, hT_10, trivial⟩ (g_172 bX6_goes rfl)
      · have hlt_14 : j_4 < kN := lp_lt rfl rfl (by omega) (by omega) c_12
        obtain ⟨hlt_14i, hlt_14b, hlt_14p⟩ := id hT_10
        refine lv_iload_n hx hb (g_27 bX6_goes rfl) rfl (lv_at hl 3 rfl) ?_
        refine lv_iconst (v := (-1)) hx hb (g_2 bX6_goes rfl) (by decide +kernel) ?_
        refine lv_icmp_eq (tgt := 24) hx hb dX6_goes_14 (by decide +kernel) (fun c_15 => ?_) (fun c_15 => ?_)
        · refine lv_aload_n hx hb (g_42 bX6_goes rfl) rfl (lv_at hl 2 rfl) ?_
          refine lv_aload_n hx hb (g_42 bX6_goes rfl) rfl (lv_at hl 2 rfl) ?_
          refine kRi (rV (As := []) (rest := [.ref qm]) (b := qm) ⟨hx, hb, hml, hown, hts⟩ (c_X6_valueNow l G cy qm v0 v1 v2 v3 v4 v5 v6 v7 v8 v9 tJ_5 qmB qmO qmK xE_7 iTk v18 v19 v20 v21 v22 v23 v24 v25 v26 xL_8 iWs v29 v30 v31 v32 v33 v34 rB rO rK (by first | omega | (simp only [nb_sr, np_sr, nb_wr, np_wr, nb_rd, np_rd, nb_ch, np_ch, nb_zr, np_zr, nb_za, np_za, nb_ey, np_ey, nb_hf, np_hf, nb_dd, np_dd, nb_so, np_so, nb_skn, np_skn, nb_swh, np_swh, nb_sgn, np_sgn, nb_ssd, np_ssd, nb_sgo, np_sgo, nb_sag, np_sag]; omega)) (by first | omega | (simp only [nb_sr, np_sr, nb_wr, np_wr, nb_rd, np_rd, nb_ch, np_ch, nb_zr, np_zr, nb_za, np_za, nb_ey, np_ey, nb_hf, np_hf, nb_dd, np_dd, nb_so, np_so, nb_skn, np_skn, nb_swh, np_swh, nb_sgn, np_sgn, nb_ssd, np_ssd, nb_sgo, np_sgo, nb_sag, np_sag]; omega))) L_X6_122 (preRV (q := (RX6, TX6, 35)) hN hP (trueIx 0 [true, true, true, true, true, true, true, true, true, true, true, true, true, true, true, true, true, true, true, true, true, true, true, true, true, true, true, true]) (sel_fm rfl rfl) 0 5 rfl rfl) rfl ⟨Nat.le_of_ble_eq_true rfl, Nat.le_of_ble_eq_true rfl⟩ hl.1 (Nat.le_of_ble_eq_true rfl) (g_182 (v := 122) bX6_goes rfl) ⟨Nat.le_of_ble_eq_true rfl, Nat.le_of_ble_eq_true rfl⟩) (fun r_16 h_17 => ?_)
          subst h_17
          refine va_put (D := G) (ci := 5) (v := .int (mvo tJ_5 ((1 <<< (nI (T_np tJ_5) &&& 31)) - 1))) (ty := .int) (C := RX6) (T := TX6) (N := 35) hx hb hts iX_X6 tyX6 tyX6_ok nmX6 hown hK hP hD hS 0 rfl rfl 27 (by decide +kernel) (hts _ m_t877) (fun _ h9 => h9) rfl (by decide +kernel) rfl rfl (Nat.le_of_ble_eq_true rfl) (g_181 (v := 292) bX6_goes rfl) (fun H locs => ?_)
          clear hP hD hS
          intro hP hD hS
          have hPD := pd_as [zzO qm 5 (v0 :: v1 :: v2 :: v3 :: v4 :: v5 :: v6 :: v7 :: v8 :: v9 :: .int (nI (T_nb tJ_5)) :: .ref qmB :: .int (nI (T_np tJ_5)) :: .ref qmO :: .ref qmK :: .int xE_7 :: .int iTk :: .int (T_sd tJ_5) :: v18 :: v19 :: v20 :: v21 :: v22 :: v23 :: v24 :: v25 :: v26 :: .int (mvo tJ_5 ((1 <<< (nI (T_np tJ_5) &&& 31)) - 1)) :: .int iWs :: v29 :: v30 :: v31 :: v32 :: v33 :: v34 :: []), _, zzI cy (rB 0) 4 (bkR tJ_5 0), zzI cy (rB 1) 4 (bkR tJ_5 1), zzI cy (rB 2) 4 (bkR tJ_5 2), zzI cy (rB 3) 4 (bkR tJ_5 3), zzI cy (rB 4) 4 (bkR tJ_5 4), zzI cy (rB 5) 4 (bkR tJ_5 5), zzI cy (rB 6) 4 (bkR tJ_5 6), zzI cy (rB 7) 4 (bkR tJ_5 7), _, zzI cy (rO 0) 5 (onR tJ_5 0), zzI cy (rO 1) 5 (onR tJ_5 1), zzI cy (rO 2) 5 (onR tJ_5 2), zzI cy (rO 3) 5 (onR tJ_5 3), zzI cy (rO 4) 5 (onR tJ_5 4), zzI cy (rO 5) 5 (onR tJ_5 5), zzI cy (rO 6) 5 (onR tJ_5 6), zzI cy (rO 7) 5 (onR tJ_5 7), _, zzI cy (rK 0) 8 (T_kn tJ_5 0), zzI cy (rK 1) 8 (T_kn tJ_5 1), zzI cy (rK 2) 8 (T_kn tJ_5 2), zzI cy (rK 3) 8 (T_kn tJ_5 3), zzI cy (rK 4) 8 (T_kn tJ_5 4), zzI cy (rK 5) 8 (T_kn tJ_5 5), zzI cy (rK 6) 8 (T_kn tJ_5 6), zzI cy (rK 7) 8 (T_kn tJ_5 7)] hP hD rfl
          clear hP hD
          obtain ⟨hP, hD⟩ := hPD
          refine lv_iload hx hb (g_21 (v := 4) bX6_goes rfl) (lv_at hl 1 rfl) ?_
          refine lv_aload_n hx hb (g_42 bX6_goes rfl) rfl (lv_at hl 2 rfl) ?_
          refine va_get (D := G) (ci := 5) (v := .int (mvo tJ_5 ((1 <<< (nI (T_np tJ_5) &&& 31)) - 1))) (C := RX6) (T := TX6) (N := 35) hx hb hts iX_X6 hown hK hP 0 rfl rfl 27 (by decide +kernel) (hts _ m_t877) (fun _ h9 => h9) rfl (g_180 (v := 292) bX6_goes rfl) ?_
          refine lv_iadd hx hb (g_96 bX6_goes rfl) ?_
          refine lv_istore (lv' := [(4, .int (xS_6 + (mvo tJ_5 ((1 <<< (nI (T_np tJ_5) &&& 31)) - 1)))), (5, .int (nI j_4)), (0, .ref qm), (1, .int iK), (2, .int (nI kM)), (3, .int (nI kN))]) hx hb (g_54 (v := 4) bX6_goes rfl) hl (by decide +kernel) rfl (fun ls => ?_)
          clear hl
          intro hl
          refine lv_aload_n hx hb (g_42 bX6_goes rfl) rfl (lv_at hl 2 rfl) ?_
          refine cVi (As := []) (rest := []) (b := qm) (q := (RX6, TX6, 35)) ⟨hx, hb, hml, hown, hts⟩ (c_X6_end l G cy (H).size qm v0 v1 v2 v3 v4 v5 v6 v7 v8 v9 tJ_5 qmB qmO qmK xE_7 iTk v18 v19 v20 v21 v22 v23 v24 v25 v26 (mvo tJ_5 ((1 <<< (nI (T_np tJ_5) &&& 31)) - 1)) iWs v29 v30 v31 v32 v33 v34 rB rO rK (by first | omega | (simp only [nb_sr, np_sr, nb_wr, np_wr, nb_rd, np_rd, nb_ch, np_ch, nb_zr, np_zr, nb_za, np_za, nb_ey, np_ey, nb_hf, np_hf, nb_dd, np_dd, nb_so, np_so, nb_skn, np_skn, nb_swh, np_swh, nb_sgn, np_sgn, nb_ssd, np_ssd, nb_sgo, np_sgo, nb_sag, np_sag]; omega)) (by first | omega | (simp only [nb_sr, np_sr, nb_wr, np_wr, nb_rd, np_rd, nb_ch, np_ch, nb_zr, np_zr, nb_za, np_za, nb_ey, np_ey, nb_hf, np_hf, nb_dd, np_dd, nb_so, np_so, nb_skn, np_skn, nb_swh, np_swh, nb_sgn, np_sgn, nb_ssd, np_ssd, nb_sgo, np_sgo, nb_sag, np_sag]; omega)) hlt_14i) L_X6_288 hN hP hD hS hA (trueIx 0 [true, true, true, true, true, true, true, true, true, true, true, true, true, true, true, true, true, true, true, true, true, true, true, true, true, true, true, true]) [false, false, false, false, false, false, false, false, false, false, false, false, false, false, false, false, false, false, false, false, false, false, false, false, false, false, false, false] (sel_eq rfl rfl) (by decide +kernel) rfl 0 5 rfl rfl rfl ⟨Nat.le_of_ble_eq_true rfl, Nat.le_of_ble_eq_true rfl⟩ hl.1 (Nat.le_of_ble_eq_true rfl) (g_182 (v := 288) bX6_goes rfl) ⟨Nat.le_of_ble_eq_true rfl, Nat.le_of_ble_eq_true rfl⟩ (fun r_18 u_20 H locs h_19 => ?_)
          clear hP hD hS
          intro hP hD hS
          obtain ⟨tX_21, iX_22, hu9, h_23, h_19⟩ := h_19
          have hPD := pd_eq [zzO qm 5 (v0 :: v1 :: v2 :: v3 :: v4 :: v5 :: v6 :: v7 :: v8 :: v9 :: .int (nI (T_nb tX_21)) :: .ref qmB :: .int (nI (T_np tX_21)) :: .ref qmO :: .ref qmK :: .int iX_22 :: .int iTk :: .int (T_sd tX_21) :: v18 :: v19 :: v20 :: v21 :: v22 :: v23 :: v24 :: v25 :: v26 :: .int (mvo tJ_5 ((1 <<< (nI (T_np tJ_5) &&& 31)) - 1)) :: .int iWs :: v29 :: v30 :: v31 :: v32 :: v33 :: v34 :: []), _, zzI cy (rB 0) 4 (bkR tX_21 0), zzI cy (rB 1) 4 (bkR tX_21 1), zzI cy (rB 2) 4 (bkR tX_21 2), zzI cy (rB 3) 4 (bkR tX_21 3), zzI cy (rB 4) 4 (bkR tX_21 4), zzI cy (rB 5) 4 (bkR tX_21 5), zzI cy (rB 6) 4 (bkR tX_21 6), zzI cy (rB 7) 4 (bkR tX_21 7), _, zzI cy (rO 0) 5 (onR tX_21 0), zzI cy (rO 1) 5 (onR tX_21 1), zzI cy (rO 2) 5 (onR tX_21 2), zzI cy (rO 3) 5 (onR tX_21 3), zzI cy (rO 4) 5 (onR tX_21 4), zzI cy (rO 5) 5 (onR tX_21 5), zzI cy (rO 6) 5 (onR tX_21 6), zzI cy (rO 7) 5 (onR tX_21 7), _, zzI cy (rK 0) 8 (T_kn tX_21 0), zzI cy (rK 1) 8 (T_kn tX_21 1), zzI cy (rK 2) 8 (T_kn tX_21 2), zzI cy (rK 3) 8 (T_kn tX_21 3), zzI cy (rK 4) 8 (T_kn tX_21 4), zzI cy (rK 5) 8 (T_kn tX_21 5), zzI cy (rK 6) 8 (T_kn tX_21 6), zzI cy (rK 7) 8 (T_kn tX_21 7)] hP hD hu9 rfl
          clear hP hD hu9
          obtain ⟨hP, hD⟩ := hPD
          refine lv_pop hx hb (g_87 bX6_goes rfl) rfl ?_
          refine lv_iinc (v := nI (j_4 + 1)) (lv' := [(5, .int (nI (j_4 + 1))), (4, .int (xS_6 + (mvo tJ_5 ((1 <<< (nI (T_np tJ_5) &&& 31)) - 1)))), (0, .ref qm), (1, .int iK), (2, .int (nI kM)), (3, .int (nI kN))]) hx hb dX6_goes_46 hl (k := 1) rfl (nI_1 _) (by decide +kernel) rfl (fun ls => ?_)
          clear hl
          intro hl
          refine lv_goto (tgt := 6) hx hb dX6_goes_49 (by decide +kernel) ?_
          exact ih_3 (j_4 + 1) tX_21 (xS_6 + (mvo tJ_5 ((1 <<< (nI (T_np tJ_5) &&& 31)) - 1))) iX_22 (mvo tJ_5 ((1 <<< (nI (T_np tJ_5) &&& 31)) - 1)) (by omega) (by omega) (⟨h_23.1, h_23.2.1.trans hT_10.2.1, h_23.2.2.trans hT_10.2.2⟩) _ _ _ hP hD hS (lv_sub hl [0, 1, 2, 3, 4, 5] rfl)
        · refine lv_aload_n hx hb (g_42 bX6_goes rfl) rfl (lv_at hl 2 rfl) ?_
          refine lv_iload_n hx hb (g_27 bX6_goes rfl) rfl (lv_at hl 3 rfl) ?_
          refine lv_iload_n hx hb (g_28 bX6_goes rfl) rfl (lv_at hl 4 rfl) ?_
          refine cVi (As := [.int iK, .int (nI kM)]) (rest := []) (b := qm) (q := (RX6, TX6, 35)) ⟨hx, hb, hml, hown, hts⟩ (c_X6_does l G cy (H).size qm v0 v1 v2 v3 v4 v5 v6 v7 v8 v9 tJ_5 qmB qmO qmK xE_7 iTk v18 v19 v20 v21 v22 v23 v24 v25 v26 xL_8 iWs v29 v30 v31 v32 v33 v34 rB rO rK iK kM (by first | omega | (simp only [nb_sr, np_sr, nb_wr, np_wr, nb_rd, np_rd, nb_ch, np_ch, nb_zr, np_zr, nb_za, np_za, nb_ey, np_ey, nb_hf, np_hf, nb_dd, np_dd, nb_so, np_so, nb_skn, np_skn, nb_swh, np_swh, nb_sgn, np_sgn, nb_ssd, np_ssd, nb_sgo, np_sgo, nb_sag, np_sag]; omega)) (by first | omega | (simp only [nb_sr, np_sr, nb_wr, np_wr, nb_rd, np_rd, nb_ch, np_ch, nb_zr, np_zr, nb_za, np_za, nb_ey, np_ey, nb_hf, np_hf, nb_dd, np_dd, nb_so, np_so, nb_skn, np_skn, nb_swh, np_swh, nb_sgn, np_sgn, nb_ssd, np_ssd, nb_sgo, np_sgo, nb_sag, np_sag]; omega)) hlt_14i hM) L_X6_114 hN hP hD hS hA (trueIx 0 [true, true, true, true, true, true, true, true, true, true, true, true, true, true, true, true, true, true, true, true, true, true, true, true, true, true, true, true]) [false, false, false, false, false, false, false, false, false, false, false, false, false, false, false, false, false, false, false, false, false, false, false, false, false, false, false, false] (sel_eq rfl rfl) (by decide +kernel) rfl 0 5 rfl rfl rfl ⟨Nat.le_of_ble_eq_true rfl, Nat.le_of_ble_eq_true rfl⟩ hl.1 (Nat.le_of_ble_eq_true rfl) (g_182 (v := 114) bX6_goes rfl) ⟨Nat.le_of_ble_eq_true rfl, Nat.le_of_ble_eq_true rfl⟩ (fun r_24 u_26 H locs h_25 => ?_)
          clear hP hD hS
          intro hP hD hS
          obtain ⟨tX_27, hu9, h_28, h_25⟩ := h_25
          have hPD := pd_eq [zzO qm 5 (v0 :: v1 :: v2 :: v3 :: v4 :: v5 :: v6 :: v7 :: v8 :: v9 :: .int (nI (T_nb tX_27)) :: .ref qmB :: .int (nI (T_np tX_27)) :: .ref qmO :: .ref qmK :: .int xE_7 :: .int iTk :: .int (T_sd tX_27) :: v18 :: v19 :: v20 :: v21 :: v22 :: v23 :: v24 :: v25 :: v26 :: .int xL_8 :: .int iWs :: v29 :: v30 :: v31 :: v32 :: v33 :: v34 :: []), _, zzI cy (rB 0) 4 (bkR tX_27 0), zzI cy (rB 1) 4 (bkR tX_27 1), zzI cy (rB 2) 4 (bkR tX_27 2), zzI cy (rB 3) 4 (bkR tX_27 3), zzI cy (rB 4) 4 (bkR tX_27 4), zzI cy (rB 5) 4 (bkR tX_27 5), zzI cy (rB 6) 4 (bkR tX_27 6), zzI cy (rB 7) 4 (bkR tX_27 7), _, zzI cy (rO 0) 5 (onR tX_27 0), zzI cy (rO 1) 5 (onR tX_27 1), zzI cy (rO 2) 5 (onR tX_27 2), zzI cy (rO 3) 5 (onR tX_27 3), zzI cy (rO 4) 5 (onR tX_27 4), zzI cy (rO 5) 5 (onR tX_27 5), zzI cy (rO 6) 5 (onR tX_27 6), zzI cy (rO 7) 5 (onR tX_27 7), _, zzI cy (rK 0) 8 (T_kn tX_27 0), zzI cy (rK 1) 8 (T_kn tX_27 1), zzI cy (rK 2) 8 (T_kn tX_27 2), zzI cy (rK 3) 8 (T_kn tX_27 3), zzI cy (rK 4) 8 (T_kn tX_27 4), zzI cy (rK 5) 8 (T_kn tX_27 5), zzI cy (rK 6) 8 (T_kn tX_27 6), zzI cy (rK 7) 8 (T_kn tX_27 7)] hP hD hu9 rfl
          clear hP hD hu9
          obtain ⟨hP, hD⟩ := hPD
          refine lv_pop hx hb (g_87 bX6_goes rfl) rfl ?_
          refine lv_aload_n hx hb (g_42 bX6_goes rfl) rfl (lv_at hl 2 rfl) ?_
          refine lv_aload_n hx hb (g_42 bX6_goes rfl) rfl (lv_at hl 2 rfl) ?_
          refine kRi (rV (As := []) (rest := [.ref qm]) (b := qm) ⟨hx, hb, hml, hown, hts⟩ (c_X6_valueNow l G cy qm v0 v1 v2 v3 v4 v5 v6 v7 v8 v9 tX_27 qmB qmO qmK xE_7 iTk v18 v19 v20 v21 v22 v23 v24 v25 v26 xL_8 iWs v29 v30 v31 v32 v33 v34 rB rO rK (by first | omega | (simp only [nb_sr, np_sr, nb_wr, np_wr, nb_rd, np_rd, nb_ch, np_ch, nb_zr, np_zr, nb_za, np_za, nb_ey, np_ey, nb_hf, np_hf, nb_dd, np_dd, nb_so, np_so, nb_skn, np_skn, nb_swh, np_swh, nb_sgn, np_sgn, nb_ssd, np_ssd, nb_sgo, np_sgo, nb_sag, np_sag]; omega)) (by first | omega | (simp only [nb_sr, np_sr, nb_wr, np_wr, nb_rd, np_rd, nb_ch, np_ch, nb_zr, np_zr, nb_za, np_za, nb_ey, np_ey, nb_hf, np_hf, nb_dd, np_dd, nb_so, np_so, nb_skn, np_skn, nb_swh, np_swh, nb_sgn, np_sgn, nb_ssd, np_ssd, nb_sgo, np_sgo, nb_sag, np_sag]; omega))) L_X6_122 (preRV (q := (RX6, TX6, 35)) hN hP (trueIx 0 [true, true, true, true, true, true, true, true, true, true, true, true, true, true, true, true, true, true, true, true, true, true, true, true, true, true, true, true]) (sel_fm rfl rfl) 0 5 rfl rfl) rfl ⟨Nat.le_of_ble_eq_true rfl, Nat.le_of_ble_eq_true rfl⟩ hl.1 (Nat.le_of_ble_eq_true rfl) (g_182 (v := 122) bX6_goes rfl) ⟨Nat.le_of_ble_eq_true rfl, Nat.le_of_ble_eq_true rfl⟩) (fun r_29 h_30 => ?_)
          subst h_30
          refine va_put (D := G) (ci := 5) (v := .int (mvo tX_27 ((1 <<< (nI (T_np tX_27) &&& 31)) - 1))) (ty := .int) (C := RX6) (T := TX6) (N := 35) hx hb hts iX_X6 tyX6 tyX6_ok nmX6 hown hK hP hD hS 0 rfl rfl 27 (by decide +kernel) (hts _ m_t877) (fun _ h9 => h9) rfl (by decide +kernel) rfl rfl (Nat.le_of_ble_eq_true rfl) (g_181 (v := 292) bX6_goes rfl) (fun H locs => ?_)
          clear hP hD hS
          intro hP hD hS
          have hPD := pd_as [zzO qm 5 (v0 :: v1 :: v2 :: v3 :: v4 :: v5 :: v6 :: v7 :: v8 :: v9 :: .int (nI (T_nb tX_27)) :: .ref qmB :: .int (nI (T_np tX_27)) :: .ref qmO :: .ref qmK :: .int xE_7 :: .int iTk :: .int (T_sd tX_27) :: v18 :: v19 :: v20 :: v21 :: v22 :: v23 :: v24 :: v25 :: v26 :: .int (mvo tX_27 ((1 <<< (nI (T_np tX_27) &&& 31)) - 1)) :: .int iWs :: v29 :: v30 :: v31 :: v32 :: v33 :: v34 :: []), _, _, _, _, _, _, _, _, _, _, _, _, _, _, _, _, _, _, _, _, _, _, _, _, _, _, _] hP hD rfl
          clear hP hD
          obtain ⟨hP, hD⟩ := hPD
          refine lv_iload hx hb (g_21 (v := 4) bX6_goes rfl) (lv_at hl 1 rfl) ?_
          refine lv_aload_n hx hb (g_42 bX6_goes rfl) rfl (lv_at hl 2 rfl) ?_
          refine va_get (D := G) (ci := 5) (v := .int (mvo tX_27 ((1 <<< (nI (T_np tX_27) &&& 31)) - 1))) (C := RX6) (T := TX6) (N := 35) hx hb hts iX_X6 hown hK hP 0 rfl rfl 27 (by decide +kernel) (hts _ m_t877) (fun _ h9 => h9) rfl (g_180 (v := 292) bX6_goes rfl) ?_
          refine lv_iadd hx hb (g_96 bX6_goes rfl) ?_
          refine lv_istore (lv' := [(4, .int (xS_6 + (mvo tX_27 ((1 <<< (nI (T_np tX_27) &&& 31)) - 1)))), (5, .int (nI j_4)), (0, .ref qm), (1, .int iK), (2, .int (nI kM)), (3, .int (nI kN))]) hx hb (g_54 (v := 4) bX6_goes rfl) hl (by decide +kernel) rfl (fun ls => ?_)
          clear hl
          intro hl
          refine lv_aload_n hx hb (g_42 bX6_goes rfl) rfl (lv_at hl 2 rfl) ?_
          refine cVi (As := []) (rest := []) (b := qm) (q := (RX6, TX6, 35)) ⟨hx, hb, hml, hown, hts⟩ (c_X6_end l G cy (H).size qm v0 v1 v2 v3 v4 v5 v6 v7 v8 v9 tX_27 qmB qmO qmK xE_7 iTk v18 v19 v20 v21 v22 v23 v24 v25 v26 (mvo tX_27 ((1 <<< (nI (T_np tX_27) &&& 31)) - 1)) iWs v29 v30 v31 v32 v33 v34 rB rO rK (by first | omega | (simp only [nb_sr, np_sr, nb_wr, np_wr, nb_rd, np_rd, nb_ch, np_ch, nb_zr, np_zr, nb_za, np_za, nb_ey, np_ey, nb_hf, np_hf, nb_dd, np_dd, nb_so, np_so, nb_skn, np_skn, nb_swh, np_swh, nb_sgn, np_sgn, nb_ssd, np_ssd, nb_sgo, np_sgo, nb_sag, np_sag]; omega)) (by first | omega | (simp only [nb_sr, np_sr, nb_wr, np_wr, nb_rd, np_rd, nb_ch, np_ch, nb_zr, np_zr, nb_za, np_za, nb_ey, np_ey, nb_hf, np_hf, nb_dd, np_dd, nb_so, np_so, nb_skn, np_skn, nb_swh, np_swh, nb_sgn, np_sgn, nb_ssd, np_ssd, nb_sgo, np_sgo, nb_sag, np_sag]; omega)) h_28.1) L_X6_288 hN hP hD hS hA (trueIx 0 [true, true, true, true, true, true, true, true, true, true, true, true, true, true, true, true, true, true, true, true, true, true, true, true, true, true, true, true]) [false, false, false, false, false, false, false, false, false, false, false, false, false, false, false, false, false, false, false, false, false, false, false, false, false, false, false, false] (sel_eq rfl rfl) (by decide +kernel) rfl 0 5 rfl rfl rfl ⟨Nat.le_of_ble_eq_true rfl, Nat.le_of_ble_eq_true rfl⟩ hl.1 (Nat.le_of_ble_eq_true rfl) (g_182 (v := 288) bX6_goes rfl) ⟨Nat.le_of_ble_eq_true rfl, Nat.le_of_ble_eq_true rfl⟩ (fun r_31 u_33 H locs h_32 => ?_)
          clear hP hD hS
          intro hP hD hS
          obtain ⟨tX_34, iX_35, hu9, h_36, h_32⟩ := h_32
          have hPD := pd_eq [zzO qm 5 (v0 :: v1 :: v2 :: v3 :: v4 :: v5 :: v6 :: v7 :: v8 :: v9 :: .int (nI (T_nb tX_34)) :: .ref qmB :: .int (nI (T_np tX_34)) :: .ref qmO :: .ref qmK :: .int iX_35 :: .int iTk :: .int (T_sd tX_34) :: v18 :: v19 :: v20 :: v21 :: v22 :: v23 :: v24 :: v25 :: v26 :: .int (mvo tX_27 ((1 <<< (nI (T_np tX_27) &&& 31)) - 1)) :: .int iWs :: v29 :: v30 :: v31 :: v32 :: v33 :: v34 :: []), _, zzI cy (rB 0) 4 (bkR tX_34 0), zzI cy (rB 1) 4 (bkR tX_34 1), zzI cy (rB 2) 4 (bkR tX_34 2), zzI cy (rB 3) 4 (bkR tX_34 3), zzI cy (rB 4) 4 (bkR tX_34 4), zzI cy (rB 5) 4 (bkR tX_34 5), zzI cy (rB 6) 4 (bkR tX_34 6), zzI cy (rB 7) 4 (bkR tX_34 7), _, zzI cy (rO 0) 5 (onR tX_34 0), zzI cy (rO 1) 5 (onR tX_34 1), zzI cy (rO 2) 5 (onR tX_34 2), zzI cy (rO 3) 5 (onR tX_34 3), zzI cy (rO 4) 5 (onR tX_34 4), zzI cy (rO 5) 5 (onR tX_34 5), zzI cy (rO 6) 5 (onR tX_34 6), zzI cy (rO 7) 5 (onR tX_34 7), _, zzI cy (rK 0) 8 (T_kn tX_34 0), zzI cy (rK 1) 8 (T_kn tX_34 1), zzI cy (rK 2) 8 (T_kn tX_34 2), zzI cy (rK 3) 8 (T_kn tX_34 3), zzI cy (rK 4) 8 (T_kn tX_34 4), zzI cy (rK 5) 8 (T_kn tX_34 5), zzI cy (rK 6) 8 (T_kn tX_34 6), zzI cy (rK 7) 8 (T_kn tX_34 7)] hP hD hu9 rfl
          clear hP hD hu9
          obtain ⟨hP, hD⟩ := hPD
          refine lv_pop hx hb (g_87 bX6_goes rfl) rfl ?_
          refine lv_iinc (v := nI (j_4 + 1)) (lv' := [(5, .int (nI (j_4 + 1))), (4, .int (xS_6 + (mvo tX_27 ((1 <<< (nI (T_np tX_27) &&& 31)) - 1)))), (0, .ref qm), (1, .int iK), (2, .int (nI kM)), (3, .int (nI kN))]) hx hb dX6_goes_46 hl (k := 1) rfl (nI_1 _) (by decide +kernel) rfl (fun ls => ?_)
          clear hl
          intro hl
          refine lv_goto (tgt := 6) hx hb dX6_goes_49 (by decide +kernel) ?_
          exact ih_3 (j_4 + 1) tX_34 (xS_6 + (mvo tX_27 ((1 <<< (nI (T_np tX_27) &&& 31)) - 1))) iX_35 (mvo tX_27 ((1 <<< (nI (T_np tX_27) &&& 31)) - 1)) (by omega) (by omega) (⟨h_36.1, h_36.2.1.trans (h_28.2.1.trans hT_10.2.1), h_36.2.2.trans (h_28.2.2.trans hT_10.2.2)⟩) _ _ _ hP hD hS (lv_sub hl [0, 1, 2, 3, 4, 5] rfl)
  exact lp_1 ((60 - 0) + 1) 0 tA 0 iEn iLv (Nat.lt_succ_self _) (Nat.zero_le _) (⟨hTI, rfl, rfl⟩) _ _ ls hP hD hS (lv_sub hl [0, 1, 2, 3, 4, 5] rfl)
theorem c_X6_goes0 (l : Launch) (G : va_G) (cy : Nat → ClassId) (sz : Nat) (qm : Nat) (v0 : Value) (v1 : Value) (v2 : Value) (v3 : Value) (v4 : Value) (v5 : Value) (v6 : Value) (v7 : Value) (v8 : Value) (v9 : Value) (tA : TA) (qmB : Nat) (qmO : Nat) (qmK : Nat) (iEn : Int32) (iTk : Int32) (v18 : Value) (v19 : Value) (v20 : Value) (v21 : Value) (v22 : Value) (v23 : Value) (v24 : Value) (v25 : Value) (v26 : Value) (iLv : Int32) (iWs : Int32) (v29 : Value) (v30 : Value) (v31 : Value) (v32 : Value) (v33 : Value) (v34 : Value) (rB : Nat → Nat) (rO : Nat → Nat) (rK : Nat → Nat) (kN : Nat)  (hB : T_nb tA ≤ 8) (hPp : T_np tA ≤ 8) (hTI : TI tA) (hN60 : kN ≤ 60) : MW l yX6_goes cX6_goes 6 (some .int) 8 0 0 G cy [zzO qm 5 (v0 :: v1 :: v2 :: v3 :: v4 :: v5 :: v6 :: v7 :: v8 :: v9 :: .int (nI (T_nb tA)) :: .ref qmB :: .int (nI (T_np tA)) :: .ref qmO :: .ref qmK :: .int iEn :: .int iTk :: .int (T_sd tA) :: v18 :: v19 :: v20 :: v21 :: v22 :: v23 :: v24 :: v25 :: v26 :: .int iLv :: .int iWs :: v29 :: v30 :: v31 :: v32 :: v33 :: v34 :: []), zzG cy 3 qmB rB, zzI cy (rB 0) 4 (bkR tA 0), zzI cy (rB 1) 4 (bkR tA 1), zzI cy (rB 2) 4 (bkR tA 2), zzI cy (rB 3) 4 (bkR tA 3), zzI cy (rB 4) 4 (bkR tA 4), zzI cy (rB 5) 4 (bkR tA 5), zzI cy (rB 6) 4 (bkR tA 6), zzI cy (rB 7) 4 (bkR tA 7), zzG cy 3 qmO rO, zzI cy (rO 0) 5 (onR tA 0), zzI cy (rO 1) 5 (onR tA 1), zzI cy (rO 2) 5 (onR tA 2), zzI cy (rO 3) 5 (onR tA 3), zzI cy (rO 4) 5 (onR tA 4), zzI cy (rO 5) 5 (onR tA 5), zzI cy (rO 6) 5 (onR tA 6), zzI cy (rO 7) 5 (onR tA 7), zzG cy 3 qmK rK, zzI cy (rK 0) 8 (T_kn tA 0), zzI cy (rK 1) 8 (T_kn tA 1), zzI cy (rK 2) 8 (T_kn tA 2), zzI cy (rK 3) 8 (T_kn tA 3), zzI cy (rK 4) 8 (T_kn tA 4), zzI cy (rK 5) 8 (T_kn tA 5), zzI cy (rK 6) 8 (T_kn tA 6), zzI cy (rK 7) 8 (T_kn tA 7)] sz [.ref qm, .int (-1), .int 0, .int (nI kN)] (Wi G (fun r u => ∃ (tX : TA) (iX : Int32) (iY : Int32), u = [zzO qm 5 (v0 :: v1 :: v2 :: v3 :: v4 :: v5 :: v6 :: v7 :: v8 :: v9 :: .int (nI (T_nb tX)) :: .ref qmB :: .int (nI (T_np tX)) :: .ref qmO :: .ref qmK :: .int iX :: .int iTk :: .int (T_sd tX) :: v18 :: v19 :: v20 :: v21 :: v22 :: v23 :: v24 :: v25 :: v26 :: .int iY :: .int iWs :: v29 :: v30 :: v31 :: v32 :: v33 :: v34 :: []), zzG cy 3 qmB rB, zzI cy (rB 0) 4 (bkR tX 0), zzI cy (rB 1) 4 (bkR tX 1), zzI cy (rB 2) 4 (bkR tX 2), zzI cy (rB 3) 4 (bkR tX 3), zzI cy (rB 4) 4 (bkR tX 4), zzI cy (rB 5) 4 (bkR tX 5), zzI cy (rB 6) 4 (bkR tX 6), zzI cy (rB 7) 4 (bkR tX 7), zzG cy 3 qmO rO, zzI cy (rO 0) 5 (onR tX 0), zzI cy (rO 1) 5 (onR tX 1), zzI cy (rO 2) 5 (onR tX 2), zzI cy (rO 3) 5 (onR tX 3), zzI cy (rO 4) 5 (onR tX 4), zzI cy (rO 5) 5 (onR tX 5), zzI cy (rO 6) 5 (onR tX 6), zzI cy (rO 7) 5 (onR tX 7), zzG cy 3 qmK rK, zzI cy (rK 0) 8 (T_kn tX 0), zzI cy (rK 1) 8 (T_kn tX 1), zzI cy (rK 2) 8 (T_kn tX 2), zzI cy (rK 3) 8 (T_kn tX 3), zzI cy (rK 4) 8 (T_kn tX 4), zzI cy (rK 5) 8 (T_kn tX 5), zzI cy (rK 6) 8 (T_kn tX 6), zzI cy (rK 7) 8 (T_kn tX 7)] ∧ (TI tX ∧ T_nb tX = T_nb tA ∧ T_np tX = T_np tA) ∧ (True))) := c_X6_goes l G cy sz qm v0 v1 v2 v3 v4 v5 v6 v7 v8 v9 tA qmB qmO qmK iEn iTk v18 v19 v20 v21 v22 v23 v24 v25 v26 iLv iWs v29 v30 v31 v32 v33 v34 rB rO rK (-1) 0 kN hB hPp hTI (by omega) hN60
theorem c_X6_goes01 (l : Launch) (G : va_G) (cy : Nat → ClassId) (sz : Nat) (qm : Nat) (v0 : Value) (v1 : Value) (v2 : Value) (v3 : Value) (v4 : Value) (v5 : Value) (v6 : Value) (v7 : Value) (v8 : Value) (v9 : Value) (tA : TA) (qmB : Nat) (qmO : Nat) (qmK : Nat) (iEn : Int32) (iTk : Int32) (v18 : Value) (v19 : Value) (v20 : Value) (v21 : Value) (v22 : Value) (v23 : Value) (v24 : Value) (v25 : Value) (v26 : Value) (iLv : Int32) (iWs : Int32) (v29 : Value) (v30 : Value) (v31 : Value) (v32 : Value) (v33 : Value) (v34 : Value) (rB : Nat → Nat) (rO : Nat → Nat) (rK : Nat → Nat)  (hB : T_nb tA ≤ 8) (hPp : T_np tA ≤ 8) (hTI : TI tA) : MW l yX6_goes cX6_goes 6 (some .int) 8 0 0 G cy [zzO qm 5 (v0 :: v1 :: v2 :: v3 :: v4 :: v5 :: v6 :: v7 :: v8 :: v9 :: .int (nI (T_nb tA)) :: .ref qmB :: .int (nI (T_np tA)) :: .ref qmO :: .ref qmK :: .int iEn :: .int iTk :: .int (T_sd tA) :: v18 :: v19 :: v20 :: v21 :: v22 :: v23 :: v24 :: v25 :: v26 :: .int iLv :: .int iWs :: v29 :: v30 :: v31 :: v32 :: v33 :: v34 :: []), zzG cy 3 qmB rB, zzI cy (rB 0) 4 (bkR tA 0), zzI cy (rB 1) 4 (bkR tA 1), zzI cy (rB 2) 4 (bkR tA 2), zzI cy (rB 3) 4 (bkR tA 3), zzI cy (rB 4) 4 (bkR tA 4), zzI cy (rB 5) 4 (bkR tA 5), zzI cy (rB 6) 4 (bkR tA 6), zzI cy (rB 7) 4 (bkR tA 7), zzG cy 3 qmO rO, zzI cy (rO 0) 5 (onR tA 0), zzI cy (rO 1) 5 (onR tA 1), zzI cy (rO 2) 5 (onR tA 2), zzI cy (rO 3) 5 (onR tA 3), zzI cy (rO 4) 5 (onR tA 4), zzI cy (rO 5) 5 (onR tA 5), zzI cy (rO 6) 5 (onR tA 6), zzI cy (rO 7) 5 (onR tA 7), zzG cy 3 qmK rK, zzI cy (rK 0) 8 (T_kn tA 0), zzI cy (rK 1) 8 (T_kn tA 1), zzI cy (rK 2) 8 (T_kn tA 2), zzI cy (rK 3) 8 (T_kn tA 3), zzI cy (rK 4) 8 (T_kn tA 4), zzI cy (rK 5) 8 (T_kn tA 5), zzI cy (rK 6) 8 (T_kn tA 6), zzI cy (rK 7) 8 (T_kn tA 7)] sz [.ref qm, .int (-1), .int 0, .int 1] (Wi G (fun r u => ∃ (tX : TA) (iX : Int32) (iY : Int32), u = [zzO qm 5 (v0 :: v1 :: v2 :: v3 :: v4 :: v5 :: v6 :: v7 :: v8 :: v9 :: .int (nI (T_nb tX)) :: .ref qmB :: .int (nI (T_np tX)) :: .ref qmO :: .ref qmK :: .int iX :: .int iTk :: .int (T_sd tX) :: v18 :: v19 :: v20 :: v21 :: v22 :: v23 :: v24 :: v25 :: v26 :: .int iY :: .int iWs :: v29 :: v30 :: v31 :: v32 :: v33 :: v34 :: []), zzG cy 3 qmB rB, zzI cy (rB 0) 4 (bkR tX 0), zzI cy (rB 1) 4 (bkR tX 1), zzI cy (rB 2) 4 (bkR tX 2), zzI cy (rB 3) 4 (bkR tX 3), zzI cy (rB 4) 4 (bkR tX 4), zzI cy (rB 5) 4 (bkR tX 5), zzI cy (rB 6) 4 (bkR tX 6), zzI cy (rB 7) 4 (bkR tX 7), zzG cy 3 qmO rO, zzI cy (rO 0) 5 (onR tX 0), zzI cy (rO 1) 5 (onR tX 1), zzI cy (rO 2) 5 (onR tX 2), zzI cy (rO 3) 5 (onR tX 3), zzI cy (rO 4) 5 (onR tX 4), zzI cy (rO 5) 5 (onR tX 5), zzI cy (rO 6) 5 (onR tX 6), zzI cy (rO 7) 5 (onR tX 7), zzG cy 3 qmK rK, zzI cy (rK 0) 8 (T_kn tX 0), zzI cy (rK 1) 8 (T_kn tX 1), zzI cy (rK 2) 8 (T_kn tX 2), zzI cy (rK 3) 8 (T_kn tX 3), zzI cy (rK 4) 8 (T_kn tX 4), zzI cy (rK 5) 8 (T_kn tX 5), zzI cy (rK 6) 8 (T_kn tX 6), zzI cy (rK 7) 8 (T_kn tX 7)] ∧ (TI tX ∧ T_nb tX = T_nb tA ∧ T_np tX = T_np tA) ∧ (True))) := c_X6_goes l G cy sz qm v0 v1 v2 v3 v4 v5 v6 v7 v8 v9 tA qmB qmO qmK iEn iTk v18 v19 v20 v21 v22 v23 v24 v25 v26 iLv iWs v29 v30 v31 v32 v33 v34 rB rO rK (-1) 0 1 hB hPp hTI (by omega) (by omega)
end
