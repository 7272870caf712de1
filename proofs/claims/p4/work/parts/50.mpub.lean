theorem sz4m {x z : Int32} {n : Nat} (hz : z = nI n) (hn : n ≤ 40) (h0 : ¬ x < 0) (c : x - x / 4 * 4 = 0) (hl : x ≤ z) : ∃ k : Nat, 4 * k ≤ 40 ∧ x = nI (4 * k) := by
  subst hz
  obtain ⟨k, hk, rfl⟩ := nI_of h0
  rw [Int32.le_iff_toInt_le, nI_toInt hk, nI_toInt (by omega)] at hl
  rw [show (4 : Int32) = nI 4 from rfl, pk_rem hk (by omega) (by omega)] at c
  have e : k % 4 = 0 := nI_inj (a := k % 4) (b := 0) (by omega) (by omega) c
  exact ⟨k / 4, by omega, by congr 1; omega⟩
theorem fm_yes {z k : Nat} (hz : z ≤ 250) (hk : k ≤ 4) (c : nI k ≤ 250 - nI z) : z + k ≤ 250 := by
  rw [show (250 : Int32) = nI 250 from rfl, pk_sub (by omega), Int32.le_iff_toInt_le, nI_toInt (by omega), nI_toInt (by omega)] at c
  omega
theorem fm_no {z k : Nat} (hz : z ≤ 250) (hk : k ≤ 4) (c : ¬ nI k ≤ 250 - nI z) : 250 < z + k := by
  rw [show (250 : Int32) = nI 250 from rfl, pk_sub (by omega), Int32.le_iff_toInt_le, nI_toInt (by omega), nI_toInt (by omega)] at c
  omega
theorem in04 {x : Int32} (h : Iv x.toInt64 0 4) : x = 0 ∨ x = 1 ∨ x = 2 ∨ x = 3 ∨ x = 4 := by
  have h1 := toI h (m := 0) (n := 4) (by decide +kernel) (by decide +kernel)
  rcases (show x.toInt = 0 ∨ x.toInt = 1 ∨ x.toInt = 2 ∨ x.toInt = 3 ∨ x.toInt = 4 by omega) with e | e | e | e | e
  · exact Or.inl (eqI (by decide +kernel) e)
  · exact Or.inr (Or.inl (eqI (by decide +kernel) e))
  · exact Or.inr (Or.inr (Or.inl (eqI (by decide +kernel) e)))
  · exact Or.inr (Or.inr (Or.inr (Or.inl (eqI (by decide +kernel) e))))
  · exact Or.inr (Or.inr (Or.inr (Or.inr (eqI (by decide +kernel) e))))
set_option maxHeartbeats 4000000 in
set_option maxRecDepth 100000 in
theorem p_X6_book (l : Launch) (G : va_G) (cy : Nat → ClassId) (sz : Nat) (qm : Nat) (qmh : Nat) (qmo : Nat) (qmz : Nat) (qmR : Nat) (qmv : Nat) (qmk : Nat) (qma : Nat) (qmt : Nat) (kZ : Nat) (qmr : Nat) (tA : TA) (qmB : Nat) (qmO : Nat) (qmK : Nat) (iEn : Int32) (iTk : Int32) (uP : UM) (uU : UM) (kAt : Nat) (iTo : Int32) (iFr : Int32) (JFi : Int64) (iFa : Int32) (qm3 : Nat) (iSt : Int32) (iLv : Int32) (iWs : Int32) (vLa : Value) (qmu : Nat) (qmy : Nat) (qmb : Nat) (qms : Nat) (iOm : Int32) (rB : Nat → Nat) (rO : Nat → Nat) (rK : Nat → Nat) (fMr : Nat → Int32) (iA : Int32) (iB : Int32)  (hB : T_nb tA ≤ 8) (hPp : T_np tA ≤ 8) (hTI : TI tA) : MW l yX6_book cX6_book 3 (some .int) 16 0 0 G cy [zzO qm 5 (.ref qmh :: .ref qmo :: .ref qmz :: .ref qmR :: .ref qmv :: .ref qmk :: .ref qma :: .ref qmt :: .int (nI kZ) :: .ref qmr :: .int (nI (T_nb tA)) :: .ref qmB :: .int (nI (T_np tA)) :: .ref qmO :: .ref qmK :: .int iEn :: .int iTk :: .int (T_sd tA) :: ov uP :: ov uU :: .int (nI kAt) :: .int iTo :: .int iFr :: .long JFi :: .int iFa :: .ref qm3 :: .int iSt :: .int iLv :: .int iWs :: vLa :: .ref qmu :: .ref qmy :: .ref qmb :: .ref qms :: .int iOm :: []), zzG cy 3 qmB rB, zzI cy (rB 0) 4 (bkR tA 0), zzI cy (rB 1) 4 (bkR tA 1), zzI cy (rB 2) 4 (bkR tA 2), zzI cy (rB 3) 4 (bkR tA 3), zzI cy (rB 4) 4 (bkR tA 4), zzI cy (rB 5) 4 (bkR tA 5), zzI cy (rB 6) 4 (bkR tA 6), zzI cy (rB 7) 4 (bkR tA 7), zzG cy 3 qmO rO, zzI cy (rO 0) 5 (onR tA 0), zzI cy (rO 1) 5 (onR tA 1), zzI cy (rO 2) 5 (onR tA 2), zzI cy (rO 3) 5 (onR tA 3), zzI cy (rO 4) 5 (onR tA 4), zzI cy (rO 5) 5 (onR tA 5), zzI cy (rO 6) 5 (onR tA 6), zzI cy (rO 7) 5 (onR tA 7), zzG cy 3 qmK rK, zzI cy (rK 0) 8 (T_kn tA 0), zzI cy (rK 1) 8 (T_kn tA 1), zzI cy (rK 2) 8 (T_kn tA 2), zzI cy (rK 3) 8 (T_kn tA 3), zzI cy (rK 4) 8 (T_kn tA 4), zzI cy (rK 5) 8 (T_kn tA 5), zzI cy (rK 6) 8 (T_kn tA 6), zzI cy (rK 7) 8 (T_kn tA 7), zzI cy qmr 8 fMr] sz [.ref qm, .int iA, .int iB] (Wi G (fun r u => ∃ (tN : TA) (fNr : Nat → Int32), u = [zzO qm 5 (.ref qmh :: .ref qmo :: .ref qmz :: .ref qmR :: .ref qmv :: .ref qmk :: .ref qma :: .ref qmt :: .int (nI kZ) :: .ref qmr :: .int (nI (T_nb tN)) :: .ref qmB :: .int (nI (T_np tN)) :: .ref qmO :: .ref qmK :: .int iEn :: .int iTk :: .int (T_sd tN) :: ov uP :: ov uU :: .int (nI kAt) :: .int iTo :: .int iFr :: .long JFi :: .int iFa :: .ref qm3 :: .int iSt :: .int iLv :: .int iWs :: vLa :: .ref qmu :: .ref qmy :: .ref qmb :: .ref qms :: .int iOm :: []), zzG cy 3 qmB rB, zzI cy (rB 0) 4 (bkR tN 0), zzI cy (rB 1) 4 (bkR tN 1), zzI cy (rB 2) 4 (bkR tN 2), zzI cy (rB 3) 4 (bkR tN 3), zzI cy (rB 4) 4 (bkR tN 4), zzI cy (rB 5) 4 (bkR tN 5), zzI cy (rB 6) 4 (bkR tN 6), zzI cy (rB 7) 4 (bkR tN 7), zzG cy 3 qmO rO, zzI cy (rO 0) 5 (onR tN 0), zzI cy (rO 1) 5 (onR tN 1), zzI cy (rO 2) 5 (onR tN 2), zzI cy (rO 3) 5 (onR tN 3), zzI cy (rO 4) 5 (onR tN 4), zzI cy (rO 5) 5 (onR tN 5), zzI cy (rO 6) 5 (onR tN 6), zzI cy (rO 7) 5 (onR tN 7), zzG cy 3 qmK rK, zzI cy (rK 0) 8 (T_kn tN 0), zzI cy (rK 1) 8 (T_kn tN 1), zzI cy (rK 2) 8 (T_kn tN 2), zzI cy (rK 3) 8 (T_kn tN 3), zzI cy (rK 4) 8 (T_kn tN 4), zzI cy (rK 5) 8 (T_kn tN 5), zzI cy (rK 6) 8 (T_kn tN 6), zzI cy (rK 7) 8 (T_kn tN 7), zzI cy qmr 8 fNr] ∧ (TI tN) ∧ (True))) := by
  refine enW RX6 (by decide +kernel) rfl (Nat.le_of_ble_eq_true rfl) (fun p e s m below meth c ls A hx hb hml hown hts hr hlocks hP hN hl hin hD hA hS => ?_)
  have hin : meth.name = _ := hin
  have hK := hN.1
  replace hl : lv_has ls 3 [(0, .ref qm), (1, .int iA), (2, .int iB)] := hl
  refine lv_iload_n hx hb (g_27 bX6_book rfl) rfl (lv_at hl 1 rfl) ?_
  refine lv_i2l (v := iA.toInt64) hx hb (g_133 bX6_book rfl) rfl ?_
  refine lv_lconst (v := 1) hx hb (g_10 bX6_book rfl) (by decide +kernel) ?_
  refine lv_ldc2 hx hb hown (hts _ m_t998) (g_20 (v := 104) bX6_book rfl) ?_
  refine kRi (rS (As := [.long iA.toInt64, .long 1, .long 99]) (rest := []) ⟨hx, hb, hml, hown, hts⟩ (c_X6_in l G cy iA.toInt64 1 99) L_X6_74 (preRS hN hP [] rfl) rfl ⟨Nat.le_of_ble_eq_true rfl, Nat.le_of_ble_eq_true rfl⟩ hl.1 (Nat.le_of_ble_eq_true rfl) (g_184 (v := 74) bX6_book rfl) ⟨Nat.le_of_ble_eq_true rfl, Nat.le_of_ble_eq_true rfl⟩) (fun r_1 h_2 => ?_)
  rcases h_2 with ⟨rfl, h_3⟩ | ⟨rfl, h_3⟩
  · refine lv_if_eq (tgt := 30) hx hb dX6_book_9 (by decide +kernel) (fun h9 => absurd h9 (by decide +kernel)) (fun _ => ?_)
    refine lv_iload_n hx hb (g_28 bX6_book rfl) rfl (lv_at hl 2 rfl) ?_
    refine lv_i2l (v := iB.toInt64) hx hb (g_133 bX6_book rfl) rfl ?_
    refine lv_lconst (v := 0) hx hb (g_9 bX6_book rfl) (by decide +kernel) ?_
    refine lv_iconst (v := 1) hx hb (g_4 bX6_book rfl) (by decide +kernel) ?_
    refine lv_aload_n hx hb (g_42 bX6_book rfl) rfl (lv_at hl 0 rfl) ?_
    refine va_get (D := G) (ci := 5) (v := .int (nI (T_nb tA))) (C := RX6) (T := TX6) (N := 35) hx hb hts iX_X6 hown hK hP 0 rfl rfl 10 (by decide +kernel) (hts _ m_t860) (fun _ h9 => h9) rfl (g_180 (v := 71) bX6_book rfl) ?_
    refine lv_ishl hx hb (g_120 bX6_book rfl) ?_
    refine lv_iconst (v := 1) hx hb (g_4 bX6_book rfl) (by decide +kernel) ?_
    refine lv_isub hx hb (g_100 bX6_book rfl) ?_
    refine lv_i2l (v := ((1 <<< ((nI (T_nb tA)) &&& 31)) - 1).toInt64) hx hb (g_133 bX6_book rfl) rfl ?_
    refine kRi (rS (As := [.long iB.toInt64, .long 0, .long (((1 <<< ((nI (T_nb tA)) &&& 31)) - 1).toInt64)]) (rest := []) ⟨hx, hb, hml, hown, hts⟩ (c_X6_in l G cy iB.toInt64 0 (((1 <<< ((nI (T_nb tA)) &&& 31)) - 1).toInt64)) L_X6_74 (preRS hN hP [] rfl) rfl ⟨Nat.le_of_ble_eq_true rfl, Nat.le_of_ble_eq_true rfl⟩ hl.1 (Nat.le_of_ble_eq_true rfl) (g_184 (v := 74) bX6_book rfl) ⟨Nat.le_of_ble_eq_true rfl, Nat.le_of_ble_eq_true rfl⟩) (fun r_5 h_6 => ?_)
    rcases h_6 with ⟨rfl, h_7⟩ | ⟨rfl, h_7⟩
    · refine lv_if_ne (tgt := 37) hx hb dX6_book_27 (by decide +kernel) (fun _ => ?_) (fun h9 => absurd h9 (by decide +kernel))
      refine lv_aload_n hx hb (g_42 bX6_book rfl) rfl (lv_at hl 0 rfl) ?_
      refine va_get (D := G) (ci := 5) (v := .int (nI (T_nb tA))) (C := RX6) (T := TX6) (N := 35) hx hb hts iX_X6 hown hK hP 0 rfl rfl 10 (by decide +kernel) (hts _ m_t860) (fun _ h9 => h9) rfl (g_180 (v := 71) bX6_book rfl) ?_
      refine lv_bipush (v := 8) hx hb dX6_book_41 (by decide +kernel) ?_
      refine lv_icmp_ne (tgt := 53) hx hb dX6_book_43 (by decide +kernel) (fun c_9 => ?_) (fun c_9 => ?_)
      · have hfull : T_nb tA < 8 := ne_of8 (by omega) c_9
        refine lv_aload_n hx hb (g_42 bX6_book rfl) rfl (lv_at hl 0 rfl) ?_
        refine lv_iload_n hx hb (g_27 bX6_book rfl) rfl (lv_at hl 1 rfl) ?_
        refine cVv (As := [.int iA]) (rest := []) (b := qm) (q := (RX6, TX6, 35)) ⟨hx, hb, hml, hown, hts⟩ (c_X6_newBook l G cy (s.heap).size qm (.ref qmh) (.ref qmo) (.ref qmz) (.ref qmR) (.ref qmv) (.ref qmk) (.ref qma) (.ref qmt) (.int (nI kZ)) (.ref qmr) tA qmB qmO qmK iEn iTk (ov uP) (ov uU) (.int (nI kAt)) (.int iTo) (.int iFr) (.long JFi) (.int iFa) (.ref qm3) (.int iSt) iLv iWs vLa (.ref qmu) (.ref qmy) (.ref qmb) (.ref qms) (.int iOm) rB rO rK iA (by first | omega | (simp only [nb_sr, np_sr, nb_wr, np_wr, nb_rd, np_rd, nb_ch, np_ch, nb_zr, np_zr, nb_za, np_za, nb_ey, np_ey, nb_hf, np_hf, nb_dd, np_dd, nb_so, np_so, nb_skn, np_skn, nb_swh, np_swh, nb_sgn, np_sgn, nb_ssd, np_ssd, nb_sgo, np_sgo, nb_sag, np_sag]; omega))) L_X6_126 hN hP hD hS hA (trueIx 0 [true, true, true, true, true, true, true, true, true, true, true, true, true, true, true, true, true, true, true, true, true, true, true, true, true, true, true, true]) [false, false, false, false, false, false, false, false, false, false, false, false, false, false, false, false, false, false, false, false, false, false, false, false, false, false, false, false, true] (sel_eq rfl rfl) (by decide +kernel) rfl 0 5 rfl rfl rfl ⟨Nat.le_of_ble_eq_true rfl, Nat.le_of_ble_eq_true rfl⟩ hl.1 (Nat.le_of_ble_eq_true rfl) (g_182 (v := 126) bX6_book rfl) ⟨Nat.le_of_ble_eq_true rfl, Nat.le_of_ble_eq_true rfl⟩ (fun u_12 H locs h_11 => ?_)
        clear hP hD hS
        intro hP hD hS
        have hPD := pd_eq [_, zzO qm 5 (.ref qmh :: .ref qmo :: .ref qmz :: .ref qmR :: .ref qmv :: .ref qmk :: .ref qma :: .ref qmt :: .int (nI kZ) :: .ref qmr :: .int (nI (T_nb (zNB tA iA))) :: .ref qmB :: .int (nI (T_np (zNB tA iA))) :: .ref qmO :: .ref qmK :: .int iEn :: .int iTk :: .int (T_sd (zNB tA iA)) :: ov uP :: ov uU :: .int (nI kAt) :: .int iTo :: .int iFr :: .long JFi :: .int iFa :: .ref qm3 :: .int iSt :: .int iLv :: .int iWs :: vLa :: .ref qmu :: .ref qmy :: .ref qmb :: .ref qms :: .int iOm :: []), _, zzI cy (rB 0) 4 (bkR (zNB tA iA) 0), zzI cy (rB 1) 4 (bkR (zNB tA iA) 1), zzI cy (rB 2) 4 (bkR (zNB tA iA) 2), zzI cy (rB 3) 4 (bkR (zNB tA iA) 3), zzI cy (rB 4) 4 (bkR (zNB tA iA) 4), zzI cy (rB 5) 4 (bkR (zNB tA iA) 5), zzI cy (rB 6) 4 (bkR (zNB tA iA) 6), zzI cy (rB 7) 4 (bkR (zNB tA iA) 7), _, zzI cy (rO 0) 5 (onR (zNB tA iA) 0), zzI cy (rO 1) 5 (onR (zNB tA iA) 1), zzI cy (rO 2) 5 (onR (zNB tA iA) 2), zzI cy (rO 3) 5 (onR (zNB tA iA) 3), zzI cy (rO 4) 5 (onR (zNB tA iA) 4), zzI cy (rO 5) 5 (onR (zNB tA iA) 5), zzI cy (rO 6) 5 (onR (zNB tA iA) 6), zzI cy (rO 7) 5 (onR (zNB tA iA) 7), _, zzI cy (rK 0) 8 (T_kn (zNB tA iA) 0), zzI cy (rK 1) 8 (T_kn (zNB tA iA) 1), zzI cy (rK 2) 8 (T_kn (zNB tA iA) 2), zzI cy (rK 3) 8 (T_kn (zNB tA iA) 3), zzI cy (rK 4) 8 (T_kn (zNB tA iA) 4), zzI cy (rK 5) 8 (T_kn (zNB tA iA) 5), zzI cy (rK 6) 8 (T_kn (zNB tA iA) 6), zzI cy (rK 7) 8 (T_kn (zNB tA iA) 7)] hP hD h_11 rfl
        clear hP hD h_11
        obtain ⟨hP, hD⟩ := hPD
        have hNB := nb_NB tA iA
        refine lv_aload_n hx hb (g_42 bX6_book rfl) rfl (lv_at hl 0 rfl) ?_
        refine va_get (D := G) (ci := 5) (v := .ref qmB) (C := RX6) (T := TX6) (N := 35) hx hb hts iX_X6 hown hK hP 1 rfl rfl 11 (by decide +kernel) (hts _ m_t861) (fun _ h9 => h9) rfl (g_180 (v := 42) bX6_book rfl) ?_
        refine lv_aload_n hx hb (g_42 bX6_book rfl) rfl (lv_at hl 0 rfl) ?_
        refine va_get (D := G) (ci := 5) (v := .int (nI (T_nb (zNB tA iA)))) (C := RX6) (T := TX6) (N := 35) hx hb hts iX_X6 hown hK hP 1 rfl rfl 10 (by decide +kernel) (hts _ m_t860) (fun _ h9 => h9) rfl (g_180 (v := 71) bX6_book rfl) ?_
        refine va_alda hx hb hK hP 2 3 rfl rfl (in8 (by omega)) (g_50 bX6_book rfl) ?_
        refine lv_setv (v := .ref (rB (T_nb (zNB tA iA)))) (g_ref (by omega)) ?_
        refine lv_iconst (v := 1) hx hb (g_4 bX6_book rfl) (by decide +kernel) ?_
        refine lv_iload_n hx hb (g_28 bX6_book rfl) rfl (lv_at hl 2 rfl) ?_
        refine va_iast hx hb hK hP hD hS (3 + (T_nb (zNB tA iA))) 0 ((sg8 (n0 := 3) (f := (fun j => zzI cy (rB j) 4 (bkR (zNB tA iA) j))) rfl rfl rfl rfl rfl rfl rfl rfl) (T_nb (zNB tA iA)) (by omega)) rfl (in_c rfl) (g_79 bX6_book rfl) (fun H locs => ?_)
        clear hP hD hS
        intro hP hD hS
        have hPD := st8PD (ws' := [zzI cy qmr 8 fMr, zzO qm 5 (.ref qmh :: .ref qmo :: .ref qmz :: .ref qmR :: .ref qmv :: .ref qmk :: .ref qma :: .ref qmt :: .int (nI kZ) :: .ref qmr :: .int (nI (T_nb (T_setne (zNB tA iA) (upd (T_ne (zNB tA iA)) (T_nb (zNB tA iA)) iB)))) :: .ref qmB :: .int (nI (T_np (T_setne (zNB tA iA) (upd (T_ne (zNB tA iA)) (T_nb (zNB tA iA)) iB)))) :: .ref qmO :: .ref qmK :: .int iEn :: .int iTk :: .int (T_sd (T_setne (zNB tA iA) (upd (T_ne (zNB tA iA)) (T_nb (zNB tA iA)) iB))) :: ov uP :: ov uU :: .int (nI kAt) :: .int iTo :: .int iFr :: .long JFi :: .int iFa :: .ref qm3 :: .int iSt :: .int iLv :: .int iWs :: vLa :: .ref qmu :: .ref qmy :: .ref qmb :: .ref qms :: .int iOm :: []), zzG cy 3 qmB rB, zzI cy (rB 0) 4 (bkR (T_setne (zNB tA iA) (upd (T_ne (zNB tA iA)) (T_nb (zNB tA iA)) iB)) 0), zzI cy (rB 1) 4 (bkR (T_setne (zNB tA iA) (upd (T_ne (zNB tA iA)) (T_nb (zNB tA iA)) iB)) 1), zzI cy (rB 2) 4 (bkR (T_setne (zNB tA iA) (upd (T_ne (zNB tA iA)) (T_nb (zNB tA iA)) iB)) 2), zzI cy (rB 3) 4 (bkR (T_setne (zNB tA iA) (upd (T_ne (zNB tA iA)) (T_nb (zNB tA iA)) iB)) 3), zzI cy (rB 4) 4 (bkR (T_setne (zNB tA iA) (upd (T_ne (zNB tA iA)) (T_nb (zNB tA iA)) iB)) 4), zzI cy (rB 5) 4 (bkR (T_setne (zNB tA iA) (upd (T_ne (zNB tA iA)) (T_nb (zNB tA iA)) iB)) 5), zzI cy (rB 6) 4 (bkR (T_setne (zNB tA iA) (upd (T_ne (zNB tA iA)) (T_nb (zNB tA iA)) iB)) 6), zzI cy (rB 7) 4 (bkR (T_setne (zNB tA iA) (upd (T_ne (zNB tA iA)) (T_nb (zNB tA iA)) iB)) 7), zzG cy 3 qmO rO, zzI cy (rO 0) 5 (onR (T_setne (zNB tA iA) (upd (T_ne (zNB tA iA)) (T_nb (zNB tA iA)) iB)) 0), zzI cy (rO 1) 5 (onR (T_setne (zNB tA iA) (upd (T_ne (zNB tA iA)) (T_nb (zNB tA iA)) iB)) 1), zzI cy (rO 2) 5 (onR (T_setne (zNB tA iA) (upd (T_ne (zNB tA iA)) (T_nb (zNB tA iA)) iB)) 2), zzI cy (rO 3) 5 (onR (T_setne (zNB tA iA) (upd (T_ne (zNB tA iA)) (T_nb (zNB tA iA)) iB)) 3), zzI cy (rO 4) 5 (onR (T_setne (zNB tA iA) (upd (T_ne (zNB tA iA)) (T_nb (zNB tA iA)) iB)) 4), zzI cy (rO 5) 5 (onR (T_setne (zNB tA iA) (upd (T_ne (zNB tA iA)) (T_nb (zNB tA iA)) iB)) 5), zzI cy (rO 6) 5 (onR (T_setne (zNB tA iA) (upd (T_ne (zNB tA iA)) (T_nb (zNB tA iA)) iB)) 6), zzI cy (rO 7) 5 (onR (T_setne (zNB tA iA) (upd (T_ne (zNB tA iA)) (T_nb (zNB tA iA)) iB)) 7), zzG cy 3 qmK rK, zzI cy (rK 0) 8 (T_kn (T_setne (zNB tA iA) (upd (T_ne (zNB tA iA)) (T_nb (zNB tA iA)) iB)) 0), zzI cy (rK 1) 8 (T_kn (T_setne (zNB tA iA) (upd (T_ne (zNB tA iA)) (T_nb (zNB tA iA)) iB)) 1), zzI cy (rK 2) 8 (T_kn (T_setne (zNB tA iA) (upd (T_ne (zNB tA iA)) (T_nb (zNB tA iA)) iB)) 2), zzI cy (rK 3) 8 (T_kn (T_setne (zNB tA iA) (upd (T_ne (zNB tA iA)) (T_nb (zNB tA iA)) iB)) 3), zzI cy (rK 4) 8 (T_kn (T_setne (zNB tA iA) (upd (T_ne (zNB tA iA)) (T_nb (zNB tA iA)) iB)) 4), zzI cy (rK 5) 8 (T_kn (T_setne (zNB tA iA) (upd (T_ne (zNB tA iA)) (T_nb (zNB tA iA)) iB)) 5), zzI cy (rK 6) 8 (T_kn (T_setne (zNB tA iA) (upd (T_ne (zNB tA iA)) (T_nb (zNB tA iA)) iB)) 6), zzI cy (rK 7) 8 (T_kn (T_setne (zNB tA iA) (upd (T_ne (zNB tA iA)) (T_nb (zNB tA iA)) iB)) 7)]) (k := (T_nb (zNB tA iA))) (g1 := bkR (T_setne (zNB tA iA) (upd (T_ne (zNB tA iA)) (T_nb (zNB tA iA)) iB)) (T_nb (zNB tA iA))) hP hD (sg8 (n0 := 3) (f := (fun j => zzI cy (rB j) 4 (bkR (zNB tA iA) j))) rfl rfl rfl rfl rfl rfl rfl rfl) (sg8 (n0 := 3) (f := (fun j => zzI cy (rB j) 4 (bkR (T_setne (zNB tA iA) (upd (T_ne (zNB tA iA)) (T_nb (zNB tA iA)) iB)) j))) rfl rfl rfl rfl rfl rfl rfl rfl) rfl rfl (by omega) rfl (fun i _ => (congrFun (bk_u1 (zNB tA iA) (T_nb (zNB tA iA)) iB) i).symm) (fun j hj => congrArg (zzI cy (rB j) 4) (bk_n1 (zNB tA iA) (T_nb (zNB tA iA)) iB hj))
        clear hP hD
        obtain ⟨hP, hD⟩ := hPD
        refine lv_aload_n hx hb (g_42 bX6_book rfl) rfl (lv_at hl 0 rfl) ?_
        refine lv_dup hx hb (g_89 bX6_book rfl) rfl ?_
        refine va_get (D := G) (ci := 5) (v := .int (nI (T_nb (T_setne (zNB tA iA) (upd (T_ne (zNB tA iA)) (T_nb (zNB tA iA)) iB))))) (C := RX6) (T := TX6) (N := 35) hx hb hts iX_X6 hown hK hP 1 rfl rfl 10 (by decide +kernel) (hts _ m_t860) (fun _ h9 => h9) rfl (g_180 (v := 71) bX6_book rfl) ?_
        refine lv_dup_x1 hx hb (g_90 bX6_book rfl) rfl rfl ?_
        refine lv_iconst (v := 1) hx hb (g_4 bX6_book rfl) (by decide +kernel) ?_
        refine lv_iadd hx hb (g_96 bX6_book rfl) ?_
        refine lv_seti (v := nI ((T_nb (T_setne (zNB tA iA) (upd (T_ne (zNB tA iA)) (T_nb (zNB tA iA)) iB))) + 1)) (nI_1 _) ?_
        refine va_put (D := G) (ci := 5) (v := .int (nI ((T_nb (T_setne (zNB tA iA) (upd (T_ne (zNB tA iA)) (T_nb (zNB tA iA)) iB))) + 1))) (ty := .int) (C := RX6) (T := TX6) (N := 35) hx hb hts iX_X6 tyX6 tyX6_ok nmX6 hown hK hP hD hS 1 rfl rfl 10 (by decide +kernel) (hts _ m_t860) (fun _ h9 => h9) rfl (by decide +kernel) rfl rfl (Nat.le_of_ble_eq_true rfl) (g_181 (v := 71) bX6_book rfl) (fun H locs => ?_)
        clear hP hD hS
        intro hP hD hS
        have hPD := pd_as [_, zzO qm 5 (.ref qmh :: .ref qmo :: .ref qmz :: .ref qmR :: .ref qmv :: .ref qmk :: .ref qma :: .ref qmt :: .int (nI kZ) :: .ref qmr :: .int (nI ((T_nb (T_setne (zNB tA iA) (upd (T_ne (zNB tA iA)) (T_nb (zNB tA iA)) iB))) + 1)) :: .ref qmB :: .int (nI (T_np (T_setne (zNB tA iA) (upd (T_ne (zNB tA iA)) (T_nb (zNB tA iA)) iB)))) :: .ref qmO :: .ref qmK :: .int iEn :: .int iTk :: .int (T_sd (T_setne (zNB tA iA) (upd (T_ne (zNB tA iA)) (T_nb (zNB tA iA)) iB))) :: ov uP :: ov uU :: .int (nI kAt) :: .int iTo :: .int iFr :: .long JFi :: .int iFa :: .ref qm3 :: .int iSt :: .int iLv :: .int iWs :: vLa :: .ref qmu :: .ref qmy :: .ref qmb :: .ref qms :: .int iOm :: []), _, zzI cy (rB 0) 4 (bkR (T_setne (zNB tA iA) (upd (T_ne (zNB tA iA)) (T_nb (zNB tA iA)) iB)) 0), zzI cy (rB 1) 4 (bkR (T_setne (zNB tA iA) (upd (T_ne (zNB tA iA)) (T_nb (zNB tA iA)) iB)) 1), zzI cy (rB 2) 4 (bkR (T_setne (zNB tA iA) (upd (T_ne (zNB tA iA)) (T_nb (zNB tA iA)) iB)) 2), zzI cy (rB 3) 4 (bkR (T_setne (zNB tA iA) (upd (T_ne (zNB tA iA)) (T_nb (zNB tA iA)) iB)) 3), zzI cy (rB 4) 4 (bkR (T_setne (zNB tA iA) (upd (T_ne (zNB tA iA)) (T_nb (zNB tA iA)) iB)) 4), zzI cy (rB 5) 4 (bkR (T_setne (zNB tA iA) (upd (T_ne (zNB tA iA)) (T_nb (zNB tA iA)) iB)) 5), zzI cy (rB 6) 4 (bkR (T_setne (zNB tA iA) (upd (T_ne (zNB tA iA)) (T_nb (zNB tA iA)) iB)) 6), zzI cy (rB 7) 4 (bkR (T_setne (zNB tA iA) (upd (T_ne (zNB tA iA)) (T_nb (zNB tA iA)) iB)) 7), _, zzI cy (rO 0) 5 (onR (T_setne (zNB tA iA) (upd (T_ne (zNB tA iA)) (T_nb (zNB tA iA)) iB)) 0), zzI cy (rO 1) 5 (onR (T_setne (zNB tA iA) (upd (T_ne (zNB tA iA)) (T_nb (zNB tA iA)) iB)) 1), zzI cy (rO 2) 5 (onR (T_setne (zNB tA iA) (upd (T_ne (zNB tA iA)) (T_nb (zNB tA iA)) iB)) 2), zzI cy (rO 3) 5 (onR (T_setne (zNB tA iA) (upd (T_ne (zNB tA iA)) (T_nb (zNB tA iA)) iB)) 3), zzI cy (rO 4) 5 (onR (T_setne (zNB tA iA) (upd (T_ne (zNB tA iA)) (T_nb (zNB tA iA)) iB)) 4), zzI cy (rO 5) 5 (onR (T_setne (zNB tA iA) (upd (T_ne (zNB tA iA)) (T_nb (zNB tA iA)) iB)) 5), zzI cy (rO 6) 5 (onR (T_setne (zNB tA iA) (upd (T_ne (zNB tA iA)) (T_nb (zNB tA iA)) iB)) 6), zzI cy (rO 7) 5 (onR (T_setne (zNB tA iA) (upd (T_ne (zNB tA iA)) (T_nb (zNB tA iA)) iB)) 7), _, zzI cy (rK 0) 8 (T_kn (T_setne (zNB tA iA) (upd (T_ne (zNB tA iA)) (T_nb (zNB tA iA)) iB)) 0), zzI cy (rK 1) 8 (T_kn (T_setne (zNB tA iA) (upd (T_ne (zNB tA iA)) (T_nb (zNB tA iA)) iB)) 1), zzI cy (rK 2) 8 (T_kn (T_setne (zNB tA iA) (upd (T_ne (zNB tA iA)) (T_nb (zNB tA iA)) iB)) 2), zzI cy (rK 3) 8 (T_kn (T_setne (zNB tA iA) (upd (T_ne (zNB tA iA)) (T_nb (zNB tA iA)) iB)) 3), zzI cy (rK 4) 8 (T_kn (T_setne (zNB tA iA) (upd (T_ne (zNB tA iA)) (T_nb (zNB tA iA)) iB)) 4), zzI cy (rK 5) 8 (T_kn (T_setne (zNB tA iA) (upd (T_ne (zNB tA iA)) (T_nb (zNB tA iA)) iB)) 5), zzI cy (rK 6) 8 (T_kn (T_setne (zNB tA iA) (upd (T_ne (zNB tA iA)) (T_nb (zNB tA iA)) iB)) 6), zzI cy (rK 7) 8 (T_kn (T_setne (zNB tA iA) (upd (T_ne (zNB tA iA)) (T_nb (zNB tA iA)) iB)) 7)] hP hD rfl
        clear hP hD
        obtain ⟨hP, hD⟩ := hPD
        have hPD := pd_as [_, zzO qm 5 (.ref qmh :: .ref qmo :: .ref qmz :: .ref qmR :: .ref qmv :: .ref qmk :: .ref qma :: .ref qmt :: .int (nI kZ) :: .ref qmr :: .int (nI (T_nb (T_setnb (T_setne (zNB tA iA) (upd (T_ne (zNB tA iA)) (T_nb (zNB tA iA)) iB)) (T_nb (T_setne (zNB tA iA) (upd (T_ne (zNB tA iA)) (T_nb (zNB tA iA)) iB)) + 1)))) :: .ref qmB :: .int (nI (T_np (T_setnb (T_setne (zNB tA iA) (upd (T_ne (zNB tA iA)) (T_nb (zNB tA iA)) iB)) (T_nb (T_setne (zNB tA iA) (upd (T_ne (zNB tA iA)) (T_nb (zNB tA iA)) iB)) + 1)))) :: .ref qmO :: .ref qmK :: .int iEn :: .int iTk :: .int (T_sd (T_setnb (T_setne (zNB tA iA) (upd (T_ne (zNB tA iA)) (T_nb (zNB tA iA)) iB)) (T_nb (T_setne (zNB tA iA) (upd (T_ne (zNB tA iA)) (T_nb (zNB tA iA)) iB)) + 1))) :: ov uP :: ov uU :: .int (nI kAt) :: .int iTo :: .int iFr :: .long JFi :: .int iFa :: .ref qm3 :: .int iSt :: .int iLv :: .int iWs :: vLa :: .ref qmu :: .ref qmy :: .ref qmb :: .ref qms :: .int iOm :: []), _, zzI cy (rB 0) 4 (bkR (T_setnb (T_setne (zNB tA iA) (upd (T_ne (zNB tA iA)) (T_nb (zNB tA iA)) iB)) (T_nb (T_setne (zNB tA iA) (upd (T_ne (zNB tA iA)) (T_nb (zNB tA iA)) iB)) + 1)) 0), zzI cy (rB 1) 4 (bkR (T_setnb (T_setne (zNB tA iA) (upd (T_ne (zNB tA iA)) (T_nb (zNB tA iA)) iB)) (T_nb (T_setne (zNB tA iA) (upd (T_ne (zNB tA iA)) (T_nb (zNB tA iA)) iB)) + 1)) 1), zzI cy (rB 2) 4 (bkR (T_setnb (T_setne (zNB tA iA) (upd (T_ne (zNB tA iA)) (T_nb (zNB tA iA)) iB)) (T_nb (T_setne (zNB tA iA) (upd (T_ne (zNB tA iA)) (T_nb (zNB tA iA)) iB)) + 1)) 2), zzI cy (rB 3) 4 (bkR (T_setnb (T_setne (zNB tA iA) (upd (T_ne (zNB tA iA)) (T_nb (zNB tA iA)) iB)) (T_nb (T_setne (zNB tA iA) (upd (T_ne (zNB tA iA)) (T_nb (zNB tA iA)) iB)) + 1)) 3), zzI cy (rB 4) 4 (bkR (T_setnb (T_setne (zNB tA iA) (upd (T_ne (zNB tA iA)) (T_nb (zNB tA iA)) iB)) (T_nb (T_setne (zNB tA iA) (upd (T_ne (zNB tA iA)) (T_nb (zNB tA iA)) iB)) + 1)) 4), zzI cy (rB 5) 4 (bkR (T_setnb (T_setne (zNB tA iA) (upd (T_ne (zNB tA iA)) (T_nb (zNB tA iA)) iB)) (T_nb (T_setne (zNB tA iA) (upd (T_ne (zNB tA iA)) (T_nb (zNB tA iA)) iB)) + 1)) 5), zzI cy (rB 6) 4 (bkR (T_setnb (T_setne (zNB tA iA) (upd (T_ne (zNB tA iA)) (T_nb (zNB tA iA)) iB)) (T_nb (T_setne (zNB tA iA) (upd (T_ne (zNB tA iA)) (T_nb (zNB tA iA)) iB)) + 1)) 6), zzI cy (rB 7) 4 (bkR (T_setnb (T_setne (zNB tA iA) (upd (T_ne (zNB tA iA)) (T_nb (zNB tA iA)) iB)) (T_nb (T_setne (zNB tA iA) (upd (T_ne (zNB tA iA)) (T_nb (zNB tA iA)) iB)) + 1)) 7), _, zzI cy (rO 0) 5 (onR (T_setnb (T_setne (zNB tA iA) (upd (T_ne (zNB tA iA)) (T_nb (zNB tA iA)) iB)) (T_nb (T_setne (zNB tA iA) (upd (T_ne (zNB tA iA)) (T_nb (zNB tA iA)) iB)) + 1)) 0), zzI cy (rO 1) 5 (onR (T_setnb (T_setne (zNB tA iA) (upd (T_ne (zNB tA iA)) (T_nb (zNB tA iA)) iB)) (T_nb (T_setne (zNB tA iA) (upd (T_ne (zNB tA iA)) (T_nb (zNB tA iA)) iB)) + 1)) 1), zzI cy (rO 2) 5 (onR (T_setnb (T_setne (zNB tA iA) (upd (T_ne (zNB tA iA)) (T_nb (zNB tA iA)) iB)) (T_nb (T_setne (zNB tA iA) (upd (T_ne (zNB tA iA)) (T_nb (zNB tA iA)) iB)) + 1)) 2), zzI cy (rO 3) 5 (onR (T_setnb (T_setne (zNB tA iA) (upd (T_ne (zNB tA iA)) (T_nb (zNB tA iA)) iB)) (T_nb (T_setne (zNB tA iA) (upd (T_ne (zNB tA iA)) (T_nb (zNB tA iA)) iB)) + 1)) 3), zzI cy (rO 4) 5 (onR (T_setnb (T_setne (zNB tA iA) (upd (T_ne (zNB tA iA)) (T_nb (zNB tA iA)) iB)) (T_nb (T_setne (zNB tA iA) (upd (T_ne (zNB tA iA)) (T_nb (zNB tA iA)) iB)) + 1)) 4), zzI cy (rO 5) 5 (onR (T_setnb (T_setne (zNB tA iA) (upd (T_ne (zNB tA iA)) (T_nb (zNB tA iA)) iB)) (T_nb (T_setne (zNB tA iA) (upd (T_ne (zNB tA iA)) (T_nb (zNB tA iA)) iB)) + 1)) 5), zzI cy (rO 6) 5 (onR (T_setnb (T_setne (zNB tA iA) (upd (T_ne (zNB tA iA)) (T_nb (zNB tA iA)) iB)) (T_nb (T_setne (zNB tA iA) (upd (T_ne (zNB tA iA)) (T_nb (zNB tA iA)) iB)) + 1)) 6), zzI cy (rO 7) 5 (onR (T_setnb (T_setne (zNB tA iA) (upd (T_ne (zNB tA iA)) (T_nb (zNB tA iA)) iB)) (T_nb (T_setne (zNB tA iA) (upd (T_ne (zNB tA iA)) (T_nb (zNB tA iA)) iB)) + 1)) 7), _, zzI cy (rK 0) 8 (T_kn (T_setnb (T_setne (zNB tA iA) (upd (T_ne (zNB tA iA)) (T_nb (zNB tA iA)) iB)) (T_nb (T_setne (zNB tA iA) (upd (T_ne (zNB tA iA)) (T_nb (zNB tA iA)) iB)) + 1)) 0), zzI cy (rK 1) 8 (T_kn (T_setnb (T_setne (zNB tA iA) (upd (T_ne (zNB tA iA)) (T_nb (zNB tA iA)) iB)) (T_nb (T_setne (zNB tA iA) (upd (T_ne (zNB tA iA)) (T_nb (zNB tA iA)) iB)) + 1)) 1), zzI cy (rK 2) 8 (T_kn (T_setnb (T_setne (zNB tA iA) (upd (T_ne (zNB tA iA)) (T_nb (zNB tA iA)) iB)) (T_nb (T_setne (zNB tA iA) (upd (T_ne (zNB tA iA)) (T_nb (zNB tA iA)) iB)) + 1)) 2), zzI cy (rK 3) 8 (T_kn (T_setnb (T_setne (zNB tA iA) (upd (T_ne (zNB tA iA)) (T_nb (zNB tA iA)) iB)) (T_nb (T_setne (zNB tA iA) (upd (T_ne (zNB tA iA)) (T_nb (zNB tA iA)) iB)) + 1)) 3), zzI cy (rK 4) 8 (T_kn (T_setnb (T_setne (zNB tA iA) (upd (T_ne (zNB tA iA)) (T_nb (zNB tA iA)) iB)) (T_nb (T_setne (zNB tA iA) (upd (T_ne (zNB tA iA)) (T_nb (zNB tA iA)) iB)) + 1)) 4), zzI cy (rK 5) 8 (T_kn (T_setnb (T_setne (zNB tA iA) (upd (T_ne (zNB tA iA)) (T_nb (zNB tA iA)) iB)) (T_nb (T_setne (zNB tA iA) (upd (T_ne (zNB tA iA)) (T_nb (zNB tA iA)) iB)) + 1)) 5), zzI cy (rK 6) 8 (T_kn (T_setnb (T_setne (zNB tA iA) (upd (T_ne (zNB tA iA)) (T_nb (zNB tA iA)) iB)) (T_nb (T_setne (zNB tA iA) (upd (T_ne (zNB tA iA)) (T_nb (zNB tA iA)) iB)) + 1)) 6), zzI cy (rK 7) 8 (T_kn (T_setnb (T_setne (zNB tA iA) (upd (T_ne (zNB tA iA)) (T_nb (zNB tA iA)) iB)) (T_nb (T_setne (zNB tA iA) (upd (T_ne (zNB tA iA)) (T_nb (zNB tA iA)) iB)) + 1)) 7)] hP hD rfl
        clear hP hD
        obtain ⟨hP, hD⟩ := hPD
        exact endW (u := [zzO qm 5 (.ref qmh :: .ref qmo :: .ref qmz :: .ref qmR :: .ref qmv :: .ref qmk :: .ref qma :: .ref qmt :: .int (nI kZ) :: .ref qmr :: .int (nI (T_nb (T_setnb (T_setne (zNB tA iA) (upd (T_ne (zNB tA iA)) (T_nb (zNB tA iA)) iB)) (T_nb (T_setne (zNB tA iA) (upd (T_ne (zNB tA iA)) (T_nb (zNB tA iA)) iB)) + 1)))) :: .ref qmB :: .int (nI (T_np (T_setnb (T_setne (zNB tA iA) (upd (T_ne (zNB tA iA)) (T_nb (zNB tA iA)) iB)) (T_nb (T_setne (zNB tA iA) (upd (T_ne (zNB tA iA)) (T_nb (zNB tA iA)) iB)) + 1)))) :: .ref qmO :: .ref qmK :: .int iEn :: .int iTk :: .int (T_sd (T_setnb (T_setne (zNB tA iA) (upd (T_ne (zNB tA iA)) (T_nb (zNB tA iA)) iB)) (T_nb (T_setne (zNB tA iA) (upd (T_ne (zNB tA iA)) (T_nb (zNB tA iA)) iB)) + 1))) :: ov uP :: ov uU :: .int (nI kAt) :: .int iTo :: .int iFr :: .long JFi :: .int iFa :: .ref qm3 :: .int iSt :: .int iLv :: .int iWs :: vLa :: .ref qmu :: .ref qmy :: .ref qmb :: .ref qms :: .int iOm :: []), zzG cy 3 qmB rB, zzI cy (rB 0) 4 (bkR (T_setnb (T_setne (zNB tA iA) (upd (T_ne (zNB tA iA)) (T_nb (zNB tA iA)) iB)) (T_nb (T_setne (zNB tA iA) (upd (T_ne (zNB tA iA)) (T_nb (zNB tA iA)) iB)) + 1)) 0), zzI cy (rB 1) 4 (bkR (T_setnb (T_setne (zNB tA iA) (upd (T_ne (zNB tA iA)) (T_nb (zNB tA iA)) iB)) (T_nb (T_setne (zNB tA iA) (upd (T_ne (zNB tA iA)) (T_nb (zNB tA iA)) iB)) + 1)) 1), zzI cy (rB 2) 4 (bkR (T_setnb (T_setne (zNB tA iA) (upd (T_ne (zNB tA iA)) (T_nb (zNB tA iA)) iB)) (T_nb (T_setne (zNB tA iA) (upd (T_ne (zNB tA iA)) (T_nb (zNB tA iA)) iB)) + 1)) 2), zzI cy (rB 3) 4 (bkR (T_setnb (T_setne (zNB tA iA) (upd (T_ne (zNB tA iA)) (T_nb (zNB tA iA)) iB)) (T_nb (T_setne (zNB tA iA) (upd (T_ne (zNB tA iA)) (T_nb (zNB tA iA)) iB)) + 1)) 3), zzI cy (rB 4) 4 (bkR (T_setnb (T_setne (zNB tA iA) (upd (T_ne (zNB tA iA)) (T_nb (zNB tA iA)) iB)) (T_nb (T_setne (zNB tA iA) (upd (T_ne (zNB tA iA)) (T_nb (zNB tA iA)) iB)) + 1)) 4), zzI cy (rB 5) 4 (bkR (T_setnb (T_setne (zNB tA iA) (upd (T_ne (zNB tA iA)) (T_nb (zNB tA iA)) iB)) (T_nb (T_setne (zNB tA iA) (upd (T_ne (zNB tA iA)) (T_nb (zNB tA iA)) iB)) + 1)) 5), zzI cy (rB 6) 4 (bkR (T_setnb (T_setne (zNB tA iA) (upd (T_ne (zNB tA iA)) (T_nb (zNB tA iA)) iB)) (T_nb (T_setne (zNB tA iA) (upd (T_ne (zNB tA iA)) (T_nb (zNB tA iA)) iB)) + 1)) 6), zzI cy (rB 7) 4 (bkR (T_setnb (T_setne (zNB tA iA) (upd (T_ne (zNB tA iA)) (T_nb (zNB tA iA)) iB)) (T_nb (T_setne (zNB tA iA) (upd (T_ne (zNB tA iA)) (T_nb (zNB tA iA)) iB)) + 1)) 7), zzG cy 3 qmO rO, zzI cy (rO 0) 5 (onR (T_setnb (T_setne (zNB tA iA) (upd (T_ne (zNB tA iA)) (T_nb (zNB tA iA)) iB)) (T_nb (T_setne (zNB tA iA) (upd (T_ne (zNB tA iA)) (T_nb (zNB tA iA)) iB)) + 1)) 0), zzI cy (rO 1) 5 (onR (T_setnb (T_setne (zNB tA iA) (upd (T_ne (zNB tA iA)) (T_nb (zNB tA iA)) iB)) (T_nb (T_setne (zNB tA iA) (upd (T_ne (zNB tA iA)) (T_nb (zNB tA iA)) iB)) + 1)) 1), zzI cy (rO 2) 5 (onR (T_setnb (T_setne (zNB tA iA) (upd (T_ne (zNB tA iA)) (T_nb (zNB tA iA)) iB)) (T_nb (T_setne (zNB tA iA) (upd (T_ne (zNB tA iA)) (T_nb (zNB tA iA)) iB)) + 1)) 2), zzI cy (rO 3) 5 (onR (T_setnb (T_setne (zNB tA iA) (upd (T_ne (zNB tA iA)) (T_nb (zNB tA iA)) iB)) (T_nb (T_setne (zNB tA iA) (upd (T_ne (zNB tA iA)) (T_nb (zNB tA iA)) iB)) + 1)) 3), zzI cy (rO 4) 5 (onR (T_setnb (T_setne (zNB tA iA) (upd (T_ne (zNB tA iA)) (T_nb (zNB tA iA)) iB)) (T_nb (T_setne (zNB tA iA) (upd (T_ne (zNB tA iA)) (T_nb (zNB tA iA)) iB)) + 1)) 4), zzI cy (rO 5) 5 (onR (T_setnb (T_setne (zNB tA iA) (upd (T_ne (zNB tA iA)) (T_nb (zNB tA iA)) iB)) (T_nb (T_setne (zNB tA iA) (upd (T_ne (zNB tA iA)) (T_nb (zNB tA iA)) iB)) + 1)) 5), zzI cy (rO 6) 5 (onR (T_setnb (T_setne (zNB tA iA) (upd (T_ne (zNB tA iA)) (T_nb (zNB tA iA)) iB)) (T_nb (T_setne (zNB tA iA) (upd (T_ne (zNB tA iA)) (T_nb (zNB tA iA)) iB)) + 1)) 6), zzI cy (rO 7) 5 (onR (T_setnb (T_setne (zNB tA iA) (upd (T_ne (zNB tA iA)) (T_nb (zNB tA iA)) iB)) (T_nb (T_setne (zNB tA iA) (upd (T_ne (zNB tA iA)) (T_nb (zNB tA iA)) iB)) + 1)) 7), zzG cy 3 qmK rK, zzI cy (rK 0) 8 (T_kn (T_setnb (T_setne (zNB tA iA) (upd (T_ne (zNB tA iA)) (T_nb (zNB tA iA)) iB)) (T_nb (T_setne (zNB tA iA) (upd (T_ne (zNB tA iA)) (T_nb (zNB tA iA)) iB)) + 1)) 0), zzI cy (rK 1) 8 (T_kn (T_setnb (T_setne (zNB tA iA) (upd (T_ne (zNB tA iA)) (T_nb (zNB tA iA)) iB)) (T_nb (T_setne (zNB tA iA) (upd (T_ne (zNB tA iA)) (T_nb (zNB tA iA)) iB)) + 1)) 1), zzI cy (rK 2) 8 (T_kn (T_setnb (T_setne (zNB tA iA) (upd (T_ne (zNB tA iA)) (T_nb (zNB tA iA)) iB)) (T_nb (T_setne (zNB tA iA) (upd (T_ne (zNB tA iA)) (T_nb (zNB tA iA)) iB)) + 1)) 2), zzI cy (rK 3) 8 (T_kn (T_setnb (T_setne (zNB tA iA) (upd (T_ne (zNB tA iA)) (T_nb (zNB tA iA)) iB)) (T_nb (T_setne (zNB tA iA) (upd (T_ne (zNB tA iA)) (T_nb (zNB tA iA)) iB)) + 1)) 3), zzI cy (rK 4) 8 (T_kn (T_setnb (T_setne (zNB tA iA) (upd (T_ne (zNB tA iA)) (T_nb (zNB tA iA)) iB)) (T_nb (T_setne (zNB tA iA) (upd (T_ne (zNB tA iA)) (T_nb (zNB tA iA)) iB)) + 1)) 4), zzI cy (rK 5) 8 (T_kn (T_setnb (T_setne (zNB tA iA) (upd (T_ne (zNB tA iA)) (T_nb (zNB tA iA)) iB)) (T_nb (T_setne (zNB tA iA) (upd (T_ne (zNB tA iA)) (T_nb (zNB tA iA)) iB)) + 1)) 5), zzI cy (rK 6) 8 (T_kn (T_setnb (T_setne (zNB tA iA) (upd (T_ne (zNB tA iA)) (T_nb (zNB tA iA)) iB)) (T_nb (T_setne (zNB tA iA) (upd (T_ne (zNB tA iA)) (T_nb (zNB tA iA)) iB)) + 1)) 6), zzI cy (rK 7) 8 (T_kn (T_setnb (T_setne (zNB tA iA) (upd (T_ne (zNB tA iA)) (T_nb (zNB tA iA)) iB)) (T_nb (T_setne (zNB tA iA) (upd (T_ne (zNB tA iA)) (T_nb (zNB tA iA)) iB)) + 1)) 7), zzI cy qmr 8 fMr]) hx hb hr hlocks rfl (pSb hP [[false, true, true, true, true, true, true, true, true, true, true, true, true, true, true, true, true, true, true, true, true, true, true, true, true, true, true, true, true], [true]] rfl rfl) (dSb hD [[false, true, true, true, true, true, true, true, true, true, true, true, true, true, true, true, true, true, true, true, true, true, true, true, true, true, true, true, true], [true]] (by decide +kernel) rfl rfl) hS ⟨(T_setnb (T_setne (zNB tA iA) (upd (T_ne (zNB tA iA)) (T_nb (zNB tA iA)) iB)) (T_nb (T_setne (zNB tA iA) (upd (T_ne (zNB tA iA)) (T_nb (zNB tA iA)) iB)) + 1)), fMr, rfl, TI_nb (TI_ne (TI_NB hTI iA) _) (by show T_nb (zNB tA iA) + 1 ≤ 8; omega), trivial⟩ (g_172 bX6_book rfl)
      · refine lv_aload_n hx hb (g_42 bX6_book rfl) rfl (lv_at hl 0 rfl) ?_
        refine lv_bipush (v := (-6)) hx hb dX6_book_47 (by decide +kernel) ?_
        refine cVi (As := [.int (-6)]) (rest := []) (b := qm) (q := (RX6, TX6, 35)) ⟨hx, hb, hml, hown, hts⟩ (c_X6_refuse6 l G cy (s.heap).size qm (.ref qmh) (.ref qmo) (.ref qmz) (.ref qmR) (.ref qmv) (.ref qmk) (.ref qma) (.ref qmt) (.int (nI kZ)) qmr tA qmB qmO qmK iEn iTk (ov uP) (ov uU) (.int (nI kAt)) (.int iTo) (.int iFr) (.long JFi) (.int iFa) (.ref qm3) (.int iSt) iLv iWs vLa (.ref qmu) (.ref qmy) (.ref qmb) (.ref qms) (.int iOm) fMr) L_X6_91 hN hP hD hS hA [0, 28] [false, true, true, true, true, true, true, true, true, true, true, true, true, true, true, true, true, true, true, true, true, true, true, true, true, true, true, true, false] rfl (by decide +kernel) rfl 0 5 rfl rfl rfl ⟨Nat.le_of_ble_eq_true rfl, Nat.le_of_ble_eq_true rfl⟩ hl.1 (Nat.le_of_ble_eq_true rfl) (g_182 (v := 91) bX6_book rfl) ⟨Nat.le_of_ble_eq_true rfl, Nat.le_of_ble_eq_true rfl⟩ (fun r_13 u_15 H locs h_14 => ?_)
        clear hP hD hS
        intro hP hD hS
        obtain ⟨fX_16, hu9, h_14⟩ := h_14
        have hPD := pd_eq [_, _, _, _, _, _, _, _, _, _, _, _, _, _, _, _, _, _, _, _, _, _, _, _, _, _, _, _, zzI cy qmr 8 fX_16] hP hD hu9 rfl
        clear hP hD hu9
        obtain ⟨hP, hD⟩ := hPD
        subst h_14
        exact endWs [[false, false, false, false, false, false, false, false, false, false, false, false, false, false, false, false, false, false, false, false, false, false, false, false, false, false, false, true], [true, true, true, true, true, true, true, true, true, true, true, true, true, true, true, true, true, true, true, true, true, true, true, true, true, true, true, false, true]] hx hb hr hlocks rfl hP hD rfl (by decide +kernel) hS ⟨tA, fX_16, rfl, hTI, trivial⟩ (g_172 bX6_book rfl)
    · refine lv_if_ne (tgt := 37) hx hb dX6_book_27 (by decide +kernel) (fun h9 => absurd (by decide +kernel) h9) (fun _ => ?_)
      refine lv_aload_n hx hb (g_42 bX6_book rfl) rfl (lv_at hl 0 rfl) ?_
      refine lv_bipush (v := (-2)) hx hb dX6_book_31 (by decide +kernel) ?_
      refine cVi (As := [.int (-2)]) (rest := []) (b := qm) (q := (RX6, TX6, 35)) ⟨hx, hb, hml, hown, hts⟩ (c_X6_refuse2 l G cy (s.heap).size qm (.ref qmh) (.ref qmo) (.ref qmz) (.ref qmR) (.ref qmv) (.ref qmk) (.ref qma) (.ref qmt) (.int (nI kZ)) qmr tA qmB qmO qmK iEn iTk (ov uP) (ov uU) (.int (nI kAt)) (.int iTo) (.int iFr) (.long JFi) (.int iFa) (.ref qm3) (.int iSt) iLv iWs vLa (.ref qmu) (.ref qmy) (.ref qmb) (.ref qms) (.int iOm) fMr) L_X6_91 hN hP hD hS hA [0, 28] [false, true, true, true, true, true, true, true, true, true, true, true, true, true, true, true, true, true, true, true, true, true, true, true, true, true, true, true, false] rfl (by decide +kernel) rfl 0 5 rfl rfl rfl ⟨Nat.le_of_ble_eq_true rfl, Nat.le_of_ble_eq_true rfl⟩ hl.1 (Nat.le_of_ble_eq_true rfl) (g_182 (v := 91) bX6_book rfl) ⟨Nat.le_of_ble_eq_true rfl, Nat.le_of_ble_eq_true rfl⟩ (fun r_18 u_20 H locs h_19 => ?_)
      clear hP hD hS
      intro hP hD hS
      obtain ⟨fX_21, hu9, h_19⟩ := h_19
      have hPD := pd_eq [_, _, _, _, _, _, _, _, _, _, _, _, _, _, _, _, _, _, _, _, _, _, _, _, _, _, _, _, zzI cy qmr 8 fX_21] hP hD hu9 rfl
      clear hP hD hu9
      obtain ⟨hP, hD⟩ := hPD
      subst h_19
      exact endWs [[false, false, false, false, false, false, false, false, false, false, false, false, false, false, false, false, false, false, false, false, false, false, false, false, false, false, false, true], [true, true, true, true, true, true, true, true, true, true, true, true, true, true, true, true, true, true, true, true, true, true, true, true, true, true, true, false, true]] hx hb hr hlocks rfl hP hD rfl (by decide +kernel) hS ⟨tA, fX_21, rfl, hTI, trivial⟩ (g_172 bX6_book rfl)
  · refine lv_if_eq (tgt := 30) hx hb dX6_book_9 (by decide +kernel) (fun _ => ?_) (fun h9 => absurd (by decide +kernel) h9)
    refine lv_aload_n hx hb (g_42 bX6_book rfl) rfl (lv_at hl 0 rfl) ?_
    refine lv_bipush (v := (-2)) hx hb dX6_book_31 (by decide +kernel) ?_
    refine cVi (As := [.int (-2)]) (rest := []) (b := qm) (q := (RX6, TX6, 35)) ⟨hx, hb, hml, hown, hts⟩ (c_X6_refuse2 l G cy (s.heap).size qm (.ref qmh) (.ref qmo) (.ref qmz) (.ref qmR) (.ref qmv) (.ref qmk) (.ref qma) (.ref qmt) (.int (nI kZ)) qmr tA qmB qmO qmK iEn iTk (ov uP) (ov uU) (.int (nI kAt)) (.int iTo) (.int iFr) (.long JFi) (.int iFa) (.ref qm3) (.int iSt) iLv iWs vLa (.ref qmu) (.ref qmy) (.ref qmb) (.ref qms) (.int iOm) fMr) L_X6_91 hN hP hD hS hA [0, 28] [false, true, true, true, true, true, true, true, true, true, true, true, true, true, true, true, true, true, true, true, true, true, true, true, true, true, true, true, false] rfl (by decide +kernel) rfl 0 5 rfl rfl rfl ⟨Nat.le_of_ble_eq_true rfl, Nat.le_of_ble_eq_true rfl⟩ hl.1 (Nat.le_of_ble_eq_true rfl) (g_182 (v := 91) bX6_book rfl) ⟨Nat.le_of_ble_eq_true rfl, Nat.le_of_ble_eq_true rfl⟩ (fun r_23 u_25 H locs h_24 => ?_)
    clear hP hD hS
    intro hP hD hS
    obtain ⟨fX_26, hu9, h_24⟩ := h_24
    have hPD := pd_eq [_, _, _, _, _, _, _, _, _, _, _, _, _, _, _, _, _, _, _, _, _, _, _, _, _, _, _, _, zzI cy qmr 8 fX_26] hP hD hu9 rfl
    clear hP hD hu9
    obtain ⟨hP, hD⟩ := hPD
    subst h_24
    exact endWs [[false, false, false, false, false, false, false, false, false, false, false, false, false, false, false, false, false, false, false, false, false, false, false, false, false, false, false, true], [true, true, true, true, true, true, true, true, true, true, true, true, true, true, true, true, true, true, true, true, true, true, true, true, true, true, true, false, true]] hx hb hr hlocks rfl hP hD rfl (by decide +kernel) hS ⟨tA, fX_26, rfl, hTI, trivial⟩ (g_172 bX6_book rfl)
set_option maxHeartbeats 4000000 in
set_option maxRecDepth 100000 in
theorem p_X6_one (l : Launch) (G : va_G) (cy : Nat → ClassId) (sz : Nat) (qm : Nat) (qmh : Nat) (qmo : Nat) (qmz : Nat) (qmR : Nat) (qmv : Nat) (qmk : Nat) (qma : Nat) (qmt : Nat) (kZ : Nat) (qmr : Nat) (tA : TA) (qmB : Nat) (qmO : Nat) (qmK : Nat) (iEn : Int32) (iTk : Int32) (uP : UM) (uU : UM) (kAt : Nat) (iTo : Int32) (iFr : Int32) (JFi : Int64) (iFa : Int32) (qm3 : Nat) (iSt : Int32) (iLv : Int32) (iWs : Int32) (vLa : Value) (qmu : Nat) (qmy : Nat) (qmb : Nat) (qms : Nat) (iOm : Int32) (rB : Nat → Nat) (rO : Nat → Nat) (rK : Nat → Nat) (fMr : Nat → Int32) (iA : Int32) (iB : Int32) (iC : Int32) (iD : Int32)  (hB : T_nb tA ≤ 8) (hPp : T_np tA ≤ 8) (hTI : TI tA) : MW l yX6_one cX6_one 6 (some .int) 16 0 0 G cy [zzO qm 5 (.ref qmh :: .ref qmo :: .ref qmz :: .ref qmR :: .ref qmv :: .ref qmk :: .ref qma :: .ref qmt :: .int (nI kZ) :: .ref qmr :: .int (nI (T_nb tA)) :: .ref qmB :: .int (nI (T_np tA)) :: .ref qmO :: .ref qmK :: .int iEn :: .int iTk :: .int (T_sd tA) :: ov uP :: ov uU :: .int (nI kAt) :: .int iTo :: .int iFr :: .long JFi :: .int iFa :: .ref qm3 :: .int iSt :: .int iLv :: .int iWs :: vLa :: .ref qmu :: .ref qmy :: .ref qmb :: .ref qms :: .int iOm :: []), zzG cy 3 qmB rB, zzI cy (rB 0) 4 (bkR tA 0), zzI cy (rB 1) 4 (bkR tA 1), zzI cy (rB 2) 4 (bkR tA 2), zzI cy (rB 3) 4 (bkR tA 3), zzI cy (rB 4) 4 (bkR tA 4), zzI cy (rB 5) 4 (bkR tA 5), zzI cy (rB 6) 4 (bkR tA 6), zzI cy (rB 7) 4 (bkR tA 7), zzG cy 3 qmO rO, zzI cy (rO 0) 5 (onR tA 0), zzI cy (rO 1) 5 (onR tA 1), zzI cy (rO 2) 5 (onR tA 2), zzI cy (rO 3) 5 (onR tA 3), zzI cy (rO 4) 5 (onR tA 4), zzI cy (rO 5) 5 (onR tA 5), zzI cy (rO 6) 5 (onR tA 6), zzI cy (rO 7) 5 (onR tA 7), zzG cy 3 qmK rK, zzI cy (rK 0) 8 (T_kn tA 0), zzI cy (rK 1) 8 (T_kn tA 1), zzI cy (rK 2) 8 (T_kn tA 2), zzI cy (rK 3) 8 (T_kn tA 3), zzI cy (rK 4) 8 (T_kn tA 4), zzI cy (rK 5) 8 (T_kn tA 5), zzI cy (rK 6) 8 (T_kn tA 6), zzI cy (rK 7) 8 (T_kn tA 7), zzI cy qmr 8 fMr] sz [.ref qm, .int iA, .int iB, .int iC, .int iD] (Wi G (fun r u => ∃ (tN : TA) (fNr : Nat → Int32), u = [zzO qm 5 (.ref qmh :: .ref qmo :: .ref qmz :: .ref qmR :: .ref qmv :: .ref qmk :: .ref qma :: .ref qmt :: .int (nI kZ) :: .ref qmr :: .int (nI (T_nb tN)) :: .ref qmB :: .int (nI (T_np tN)) :: .ref qmO :: .ref qmK :: .int iEn :: .int iTk :: .int (T_sd tN) :: ov uP :: ov uU :: .int (nI kAt) :: .int iTo :: .int iFr :: .long JFi :: .int iFa :: .ref qm3 :: .int iSt :: .int iLv :: .int iWs :: vLa :: .ref qmu :: .ref qmy :: .ref qmb :: .ref qms :: .int iOm :: []), zzG cy 3 qmB rB, zzI cy (rB 0) 4 (bkR tN 0), zzI cy (rB 1) 4 (bkR tN 1), zzI cy (rB 2) 4 (bkR tN 2), zzI cy (rB 3) 4 (bkR tN 3), zzI cy (rB 4) 4 (bkR tN 4), zzI cy (rB 5) 4 (bkR tN 5), zzI cy (rB 6) 4 (bkR tN 6), zzI cy (rB 7) 4 (bkR tN 7), zzG cy 3 qmO rO, zzI cy (rO 0) 5 (onR tN 0), zzI cy (rO 1) 5 (onR tN 1), zzI cy (rO 2) 5 (onR tN 2), zzI cy (rO 3) 5 (onR tN 3), zzI cy (rO 4) 5 (onR tN 4), zzI cy (rO 5) 5 (onR tN 5), zzI cy (rO 6) 5 (onR tN 6), zzI cy (rO 7) 5 (onR tN 7), zzG cy 3 qmK rK, zzI cy (rK 0) 8 (T_kn tN 0), zzI cy (rK 1) 8 (T_kn tN 1), zzI cy (rK 2) 8 (T_kn tN 2), zzI cy (rK 3) 8 (T_kn tN 3), zzI cy (rK 4) 8 (T_kn tN 4), zzI cy (rK 5) 8 (T_kn tN 5), zzI cy (rK 6) 8 (T_kn tN 6), zzI cy (rK 7) 8 (T_kn tN 7), zzI cy qmr 8 fNr] ∧ (TI tN) ∧ (True))) := by
  refine enW RX6 (by decide +kernel) rfl (Nat.le_of_ble_eq_true rfl) (fun p e s m below meth c ls A hx hb hml hown hts hr hlocks hP hN hl hin hD hA hS => ?_)
  have hin : meth.name = _ := hin
  have hK := hN.1
  replace hl : lv_has ls 6 [(0, .ref qm), (1, .int iA), (2, .int iB), (3, .int iC), (4, .int iD)] := hl
  refine lv_aload_n hx hb (g_42 bX6_one rfl) rfl (lv_at hl 0 rfl) ?_
  refine lv_iload_n hx hb (g_27 bX6_one rfl) rfl (lv_at hl 1 rfl) ?_
  refine lv_i2l (v := iA.toInt64) hx hb (g_133 bX6_one rfl) rfl ?_
  refine lv_iload_n hx hb (g_28 bX6_one rfl) rfl (lv_at hl 2 rfl) ?_
  refine lv_i2l (v := iB.toInt64) hx hb (g_133 bX6_one rfl) rfl ?_
  refine lv_iload_n hx hb (g_29 bX6_one rfl) rfl (lv_at hl 3 rfl) ?_
  refine lv_i2l (v := iC.toInt64) hx hb (g_133 bX6_one rfl) rfl ?_
  refine lv_iload hx hb (g_21 (v := 4) bX6_one rfl) (lv_at hl 4 rfl) ?_
  refine lv_i2l (v := iD.toInt64) hx hb (g_133 bX6_one rfl) rfl ?_
  refine cVi (As := [.long iA.toInt64, .long iB.toInt64, .long iC.toInt64, .long iD.toInt64]) (rest := []) (b := qm) (q := (RX6, TX6, 35)) ⟨hx, hb, hml, hown, hts⟩ (c_X6_add l G cy (s.heap).size qm (.ref qmh) (.ref qmo) (.ref qmz) (.ref qmR) (.ref qmv) (.ref qmk) (.ref qma) (.ref qmt) (.int (nI kZ)) (.ref qmr) tA qmB qmO qmK iEn iTk (ov uP) (ov uU) (.int (nI kAt)) (.int iTo) (.int iFr) (.long JFi) (.int iFa) (.ref qm3) (.int iSt) iLv iWs vLa (.ref qmu) (.ref qmy) (.ref qmb) (.ref qms) (.int iOm) rB rO rK iA.toInt64 iB.toInt64 iC.toInt64 iD.toInt64 hPp hTI) L_X6_137 hN hP hD hS hA (trueIx 0 [true, true, true, true, true, true, true, true, true, true, true, true, true, true, true, true, true, true, true, true, true, true, true, true, true, true, true, true]) [false, false, false, false, false, false, false, false, false, false, false, false, false, false, false, false, false, false, false, false, false, false, false, false, false, false, false, false, true] (sel_eq rfl rfl) (by decide +kernel) rfl 0 5 rfl rfl rfl ⟨Nat.le_of_ble_eq_true rfl, Nat.le_of_ble_eq_true rfl⟩ hl.1 (Nat.le_of_ble_eq_true rfl) (g_182 (v := 137) bX6_one rfl) ⟨Nat.le_of_ble_eq_true rfl, Nat.le_of_ble_eq_true rfl⟩ (fun r_1 u_3 H locs h_2 => ?_)
  clear hP hD hS
  intro hP hD hS
  obtain ⟨tX_4, hu9, h_5, h_2⟩ := h_2
  have hPD := pd_eq [_, zzO qm 5 (.ref qmh :: .ref qmo :: .ref qmz :: .ref qmR :: .ref qmv :: .ref qmk :: .ref qma :: .ref qmt :: .int (nI kZ) :: .ref qmr :: .int (nI (T_nb tX_4)) :: .ref qmB :: .int (nI (T_np tX_4)) :: .ref qmO :: .ref qmK :: .int iEn :: .int iTk :: .int (T_sd tX_4) :: ov uP :: ov uU :: .int (nI kAt) :: .int iTo :: .int iFr :: .long JFi :: .int iFa :: .ref qm3 :: .int iSt :: .int iLv :: .int iWs :: vLa :: .ref qmu :: .ref qmy :: .ref qmb :: .ref qms :: .int iOm :: []), _, zzI cy (rB 0) 4 (bkR tX_4 0), zzI cy (rB 1) 4 (bkR tX_4 1), zzI cy (rB 2) 4 (bkR tX_4 2), zzI cy (rB 3) 4 (bkR tX_4 3), zzI cy (rB 4) 4 (bkR tX_4 4), zzI cy (rB 5) 4 (bkR tX_4 5), zzI cy (rB 6) 4 (bkR tX_4 6), zzI cy (rB 7) 4 (bkR tX_4 7), _, zzI cy (rO 0) 5 (onR tX_4 0), zzI cy (rO 1) 5 (onR tX_4 1), zzI cy (rO 2) 5 (onR tX_4 2), zzI cy (rO 3) 5 (onR tX_4 3), zzI cy (rO 4) 5 (onR tX_4 4), zzI cy (rO 5) 5 (onR tX_4 5), zzI cy (rO 6) 5 (onR tX_4 6), zzI cy (rO 7) 5 (onR tX_4 7), _, zzI cy (rK 0) 8 (T_kn tX_4 0), zzI cy (rK 1) 8 (T_kn tX_4 1), zzI cy (rK 2) 8 (T_kn tX_4 2), zzI cy (rK 3) 8 (T_kn tX_4 3), zzI cy (rK 4) 8 (T_kn tX_4 4), zzI cy (rK 5) 8 (T_kn tX_4 5), zzI cy (rK 6) 8 (T_kn tX_4 6), zzI cy (rK 7) 8 (T_kn tX_4 7)] hP hD hu9 rfl
  clear hP hD hu9
  obtain ⟨hP, hD⟩ := hPD
  rcases h_2 with ⟨rfl, h_6⟩ | ⟨rfl, h_6⟩ | ⟨rfl, h_6⟩
  · refine lv_istore (lv' := [(5, .int (-2)), (0, .ref qm), (1, .int iA), (2, .int iB), (3, .int iC), (4, .int iD)]) hx hb (g_54 (v := 5) bX6_one rfl) hl (by decide +kernel) rfl (fun ls => ?_)
    clear hl
    intro hl
    refine lv_iload hx hb (g_21 (v := 5) bX6_one rfl) (lv_at hl 0 rfl) ?_
    refine lv_if_ge (tgt := 29) hx hb dX6_one_17 (by decide +kernel) (fun h9 => absurd h9 (by decide +kernel)) (fun _ => ?_)
    refine lv_aload_n hx hb (g_42 bX6_one rfl) rfl (lv_at hl 1 rfl) ?_
    refine lv_iload hx hb (g_21 (v := 5) bX6_one rfl) (lv_at hl 0 rfl) ?_
    refine cVi (As := [.int (-2)]) (rest := []) (b := qm) (q := (RX6, TX6, 35)) ⟨hx, hb, hml, hown, hts⟩ (c_X6_refuse2 l G cy (H).size qm (.ref qmh) (.ref qmo) (.ref qmz) (.ref qmR) (.ref qmv) (.ref qmk) (.ref qma) (.ref qmt) (.int (nI kZ)) qmr tX_4 qmB qmO qmK iEn iTk (ov uP) (ov uU) (.int (nI kAt)) (.int iTo) (.int iFr) (.long JFi) (.int iFa) (.ref qm3) (.int iSt) iLv iWs vLa (.ref qmu) (.ref qmy) (.ref qmb) (.ref qms) (.int iOm) fMr) L_X6_91 hN hP hD hS hA [1, 0] [false, false, true, true, true, true, true, true, true, true, true, true, true, true, true, true, true, true, true, true, true, true, true, true, true, true, true, true, true] rfl (by decide +kernel) rfl 1 5 rfl rfl rfl ⟨Nat.le_of_ble_eq_true rfl, Nat.le_of_ble_eq_true rfl⟩ hl.1 (Nat.le_of_ble_eq_true rfl) (g_182 (v := 91) bX6_one rfl) ⟨Nat.le_of_ble_eq_true rfl, Nat.le_of_ble_eq_true rfl⟩ (fun r_8 u_10 H locs h_9 => ?_)
    clear hP hD hS
    intro hP hD hS
    obtain ⟨fX_11, hu9, h_9⟩ := h_9
    have hPD := pd_eq [_, _, _, _, _, _, _, _, _, _, _, _, _, _, _, _, _, _, _, _, _, _, _, _, _, _, _, _, zzI cy qmr 8 fX_11] hP hD hu9 rfl
    clear hP hD hu9
    obtain ⟨hP, hD⟩ := hPD
    subst h_9
    refine lv_goto (tgt := 31) hx hb dX6_one_26 (by decide +kernel) ?_
    exact endWs [[false, false, false, false, false, false, false, false, false, false, false, false, false, false, false, false, false, false, false, false, false, false, false, false, false, false, false, true], [true, true, true, true, true, true, true, true, true, true, true, true, true, true, true, true, true, true, true, true, true, true, true, true, true, true, true, false, true]] hx hb hr hlocks rfl hP hD rfl (by decide +kernel) hS ⟨tX_4, fX_11, rfl, h_5.1, trivial⟩ (g_172 bX6_one rfl)
  · refine lv_istore (lv' := [(5, .int (-6)), (0, .ref qm), (1, .int iA), (2, .int iB), (3, .int iC), (4, .int iD)]) hx hb (g_54 (v := 5) bX6_one rfl) hl (by decide +kernel) rfl (fun ls => ?_)
    clear hl
    intro hl
    refine lv_iload hx hb (g_21 (v := 5) bX6_one rfl) (lv_at hl 0 rfl) ?_
    refine lv_if_ge (tgt := 29) hx hb dX6_one_17 (by decide +kernel) (fun h9 => absurd h9 (by decide +kernel)) (fun _ => ?_)
    refine lv_aload_n hx hb (g_42 bX6_one rfl) rfl (lv_at hl 1 rfl) ?_
    refine lv_iload hx hb (g_21 (v := 5) bX6_one rfl) (lv_at hl 0 rfl) ?_
    refine cVi (As := [.int (-6)]) (rest := []) (b := qm) (q := (RX6, TX6, 35)) ⟨hx, hb, hml, hown, hts⟩ (c_X6_refuse6 l G cy (H).size qm (.ref qmh) (.ref qmo) (.ref qmz) (.ref qmR) (.ref qmv) (.ref qmk) (.ref qma) (.ref qmt) (.int (nI kZ)) qmr tX_4 qmB qmO qmK iEn iTk (ov uP) (ov uU) (.int (nI kAt)) (.int iTo) (.int iFr) (.long JFi) (.int iFa) (.ref qm3) (.int iSt) iLv iWs vLa (.ref qmu) (.ref qmy) (.ref qmb) (.ref qms) (.int iOm) fMr) L_X6_91 hN hP hD hS hA [1, 0] [false, false, true, true, true, true, true, true, true, true, true, true, true, true, true, true, true, true, true, true, true, true, true, true, true, true, true, true, true] rfl (by decide +kernel) rfl 1 5 rfl rfl rfl ⟨Nat.le_of_ble_eq_true rfl, Nat.le_of_ble_eq_true rfl⟩ hl.1 (Nat.le_of_ble_eq_true rfl) (g_182 (v := 91) bX6_one rfl) ⟨Nat.le_of_ble_eq_true rfl, Nat.le_of_ble_eq_true rfl⟩ (fun r_13 u_15 H locs h_14 => ?_)
    clear hP hD hS
    intro hP hD hS
    obtain ⟨fX_16, hu9, h_14⟩ := h_14
    have hPD := pd_eq [_, _, _, _, _, _, _, _, _, _, _, _, _, _, _, _, _, _, _, _, _, _, _, _, _, _, _, _, zzI cy qmr 8 fX_16] hP hD hu9 rfl
    clear hP hD hu9
    obtain ⟨hP, hD⟩ := hPD
    subst h_14
    refine lv_goto (tgt := 31) hx hb dX6_one_26 (by decide +kernel) ?_
    exact endWs [[false, false, false, false, false, false, false, false, false, false, false, false, false, false, false, false, false, false, false, false, false, false, false, false, false, false, false, true], [true, true, true, true, true, true, true, true, true, true, true, true, true, true, true, true, true, true, true, true, true, true, true, true, true, true, true, false, true]] hx hb hr hlocks rfl hP hD rfl (by decide +kernel) hS ⟨tX_4, fX_16, rfl, h_5.1, trivial⟩ (g_172 bX6_one rfl)
  · refine lv_istore (lv' := [(5, .int (nI (T_np tA))), (0, .ref qm), (1, .int iA), (2, .int iB), (3, .int iC), (4, .int iD)]) hx hb (g_54 (v := 5) bX6_one rfl) hl (by decide +kernel) rfl (fun ls => ?_)
    clear hl
    intro hl
    refine lv_iload hx hb (g_21 (v := 5) bX6_one rfl) (lv_at hl 0 rfl) ?_
    refine lv_if_ge (tgt := 29) hx hb dX6_one_17 (by decide +kernel) (fun c_17 => ?_) (fun c_17 => ?_)
    · refine lv_iload hx hb (g_21 (v := 5) bX6_one rfl) (lv_at hl 0 rfl) ?_
      exact endWs [[false, true, true, true, true, true, true, true, true, true, true, true, true, true, true, true, true, true, true, true, true, true, true, true, true, true, true, true, true], [true]] hx hb hr hlocks rfl hP hD rfl (by decide +kernel) hS ⟨tX_4, fMr, rfl, h_5.1, trivial⟩ (g_172 bX6_one rfl)
    · exact absurd (Int32.not_lt.mp (nI_nn (by omega))) c_17
set_option maxHeartbeats 4000000 in
set_option maxRecDepth 100000 in
theorem p_X6_ones (l : Launch) (G : va_G) (cy : Nat → ClassId) (sz : Nat) (qm : Nat) (qmh : Nat) (qmo : Nat) (qmz : Nat) (qmR : Nat) (qmv : Nat) (qmk : Nat) (qma : Nat) (qmt : Nat) (kZ : Nat) (qmr : Nat) (tA : TA) (qmB : Nat) (qmO : Nat) (qmK : Nat) (iEn : Int32) (iTk : Int32) (uP : UM) (uU : UM) (kAt : Nat) (iTo : Int32) (iFr : Int32) (JFi : Int64) (iFa : Int32) (qm3 : Nat) (iSt : Int32) (iLv : Int32) (iWs : Int32) (vLa : Value) (qmu : Nat) (qmy : Nat) (qmb : Nat) (qms : Nat) (iOm : Int32) (fMh : Nat → Int32) (fMz : Nat → Int32) (rR : Nat → Nat) (eR : Nat → Nat → Int64) (rB : Nat → Nat) (rO : Nat → Nat) (rK : Nat → Nat) (fMr : Nat → Int32) (iA : Int32) (iB : Int32)  (hB : T_nb tA ≤ 8) (hPp : T_np tA ≤ 8) (hTI : TI tA) (hSz : ∀ s, s < 8 → ∃ n : Nat, n ≤ 40 ∧ fMz s = nI n) : MW l yX6_ones cX6_ones 6 (some .int) 16 0 0 G cy (zzO qm 5 (.ref qmh :: .ref qmo :: .ref qmz :: .ref qmR :: .ref qmv :: .ref qmk :: .ref qma :: .ref qmt :: .int (nI kZ) :: .ref qmr :: .int (nI (T_nb tA)) :: .ref qmB :: .int (nI (T_np tA)) :: .ref qmO :: .ref qmK :: .int iEn :: .int iTk :: .int (T_sd tA) :: ov uP :: ov uU :: .int (nI kAt) :: .int iTo :: .int iFr :: .long JFi :: .int iFa :: .ref qm3 :: .int iSt :: .int iLv :: .int iWs :: vLa :: .ref qmu :: .ref qmy :: .ref qmb :: .ref qms :: .int iOm :: []) :: zzI cy qmh 8 fMh :: zzI cy qmz 8 fMz :: zzG cy 4 qmR rR :: zzJ cy (rR 0) 40 (eR 0) :: zzJ cy (rR 1) 40 (eR 1) :: zzJ cy (rR 2) 40 (eR 2) :: zzJ cy (rR 3) 40 (eR 3) :: zzJ cy (rR 4) 40 (eR 4) :: zzJ cy (rR 5) 40 (eR 5) :: zzJ cy (rR 6) 40 (eR 6) :: zzJ cy (rR 7) 40 (eR 7) :: zzG cy 3 qmB rB :: zzI cy (rB 0) 4 (bkR tA 0) :: zzI cy (rB 1) 4 (bkR tA 1) :: zzI cy (rB 2) 4 (bkR tA 2) :: zzI cy (rB 3) 4 (bkR tA 3) :: zzI cy (rB 4) 4 (bkR tA 4) :: zzI cy (rB 5) 4 (bkR tA 5) :: zzI cy (rB 6) 4 (bkR tA 6) :: zzI cy (rB 7) 4 (bkR tA 7) :: zzG cy 3 qmO rO :: zzI cy (rO 0) 5 (onR tA 0) :: zzI cy (rO 1) 5 (onR tA 1) :: zzI cy (rO 2) 5 (onR tA 2) :: zzI cy (rO 3) 5 (onR tA 3) :: zzI cy (rO 4) 5 (onR tA 4) :: zzI cy (rO 5) 5 (onR tA 5) :: zzI cy (rO 6) 5 (onR tA 6) :: zzI cy (rO 7) 5 (onR tA 7) :: zzG cy 3 qmK rK :: zzI cy (rK 0) 8 (T_kn tA 0) :: zzI cy (rK 1) 8 (T_kn tA 1) :: zzI cy (rK 2) 8 (T_kn tA 2) :: zzI cy (rK 3) 8 (T_kn tA 3) :: zzI cy (rK 4) 8 (T_kn tA 4) :: zzI cy (rK 5) 8 (T_kn tA 5) :: zzI cy (rK 6) 8 (T_kn tA 6) :: zzI cy (rK 7) 8 (T_kn tA 7) :: zzI cy qmr 8 fMr :: []) sz [.ref qm, .int iA, .int iB] (Wi G (fun r u => ∃ (tN : TA) (fNr : Nat → Int32), u = (zzO qm 5 (.ref qmh :: .ref qmo :: .ref qmz :: .ref qmR :: .ref qmv :: .ref qmk :: .ref qma :: .ref qmt :: .int (nI kZ) :: .ref qmr :: .int (nI (T_nb tN)) :: .ref qmB :: .int (nI (T_np tN)) :: .ref qmO :: .ref qmK :: .int iEn :: .int iTk :: .int (T_sd tN) :: ov uP :: ov uU :: .int (nI kAt) :: .int iTo :: .int iFr :: .long JFi :: .int iFa :: .ref qm3 :: .int iSt :: .int iLv :: .int iWs :: vLa :: .ref qmu :: .ref qmy :: .ref qmb :: .ref qms :: .int iOm :: []) :: zzI cy qmh 8 fMh :: zzI cy qmz 8 fMz :: zzG cy 4 qmR rR :: zzJ cy (rR 0) 40 (eR 0) :: zzJ cy (rR 1) 40 (eR 1) :: zzJ cy (rR 2) 40 (eR 2) :: zzJ cy (rR 3) 40 (eR 3) :: zzJ cy (rR 4) 40 (eR 4) :: zzJ cy (rR 5) 40 (eR 5) :: zzJ cy (rR 6) 40 (eR 6) :: zzJ cy (rR 7) 40 (eR 7) :: zzG cy 3 qmB rB :: zzI cy (rB 0) 4 (bkR tN 0) :: zzI cy (rB 1) 4 (bkR tN 1) :: zzI cy (rB 2) 4 (bkR tN 2) :: zzI cy (rB 3) 4 (bkR tN 3) :: zzI cy (rB 4) 4 (bkR tN 4) :: zzI cy (rB 5) 4 (bkR tN 5) :: zzI cy (rB 6) 4 (bkR tN 6) :: zzI cy (rB 7) 4 (bkR tN 7) :: zzG cy 3 qmO rO :: zzI cy (rO 0) 5 (onR tN 0) :: zzI cy (rO 1) 5 (onR tN 1) :: zzI cy (rO 2) 5 (onR tN 2) :: zzI cy (rO 3) 5 (onR tN 3) :: zzI cy (rO 4) 5 (onR tN 4) :: zzI cy (rO 5) 5 (onR tN 5) :: zzI cy (rO 6) 5 (onR tN 6) :: zzI cy (rO 7) 5 (onR tN 7) :: zzG cy 3 qmK rK :: zzI cy (rK 0) 8 (T_kn tN 0) :: zzI cy (rK 1) 8 (T_kn tN 1) :: zzI cy (rK 2) 8 (T_kn tN 2) :: zzI cy (rK 3) 8 (T_kn tN 3) :: zzI cy (rK 4) 8 (T_kn tN 4) :: zzI cy (rK 5) 8 (T_kn tN 5) :: zzI cy (rK 6) 8 (T_kn tN 6) :: zzI cy (rK 7) 8 (T_kn tN 7) :: zzI cy qmr 8 fNr :: []) ∧ (TI tN) ∧ (True))) := by
  refine enW RX6 (by decide +kernel) rfl (Nat.le_of_ble_eq_true rfl) (fun p e s m below meth c ls A hx hb hml hown hts hr hlocks hP hN hl hin hD hA hS => ?_)
  have hin : meth.name = _ := hin
  have hK := hN.1
  replace hl : lv_has ls 6 [(0, .ref qm), (1, .int iA), (2, .int iB)] := hl
  refine lv_aload_n hx hb (g_42 bX6_ones rfl) rfl (lv_at hl 0 rfl) ?_
  refine lv_iload_n hx hb (g_27 bX6_ones rfl) rfl (lv_at hl 1 rfl) ?_
  refine cVi (As := [.int iA]) (rest := []) (b := qm) (q := (RX6, TX6, 35)) ⟨hx, hb, hml, hown, hts⟩ (c_X6_noRow l G cy (s.heap).size qm qmh (.ref qmo) (.ref qmz) (.ref qmR) (.ref qmv) (.ref qmk) (.ref qma) (.ref qmt) (.int (nI kZ)) qmr tA qmB qmO qmK iEn iTk (ov uP) (ov uU) (.int (nI kAt)) (.int iTo) (.int iFr) (.long JFi) (.int iFa) (.ref qm3) (.int iSt) iLv iWs vLa (.ref qmu) (.ref qmy) (.ref qmb) (.ref qms) (.int iOm) fMh fMr iA) L_X6_95 hN hP hD hS hA (trueIx 0 (true :: true :: false :: false :: false :: false :: false :: false :: false :: false :: false :: false :: false :: false :: false :: false :: false :: false :: false :: false :: false :: false :: false :: false :: false :: false :: false :: false :: false :: false :: false :: false :: false :: false :: false :: false :: false :: false :: false :: true :: [])) (false :: false :: true :: true :: true :: true :: true :: true :: true :: true :: true :: true :: true :: true :: true :: true :: true :: true :: true :: true :: true :: true :: true :: true :: true :: true :: true :: true :: true :: true :: true :: true :: true :: true :: true :: true :: true :: true :: true :: false :: []) (sel_eq rfl rfl) (by decide +kernel) rfl 0 5 rfl rfl rfl ⟨Nat.le_of_ble_eq_true rfl, Nat.le_of_ble_eq_true rfl⟩ hl.1 (Nat.le_of_ble_eq_true rfl) (g_182 (v := 95) bX6_ones rfl) ⟨Nat.le_of_ble_eq_true rfl, Nat.le_of_ble_eq_true rfl⟩ (fun r_1 u_3 H locs h_2 => ?_)
  clear hP hD hS
  intro hP hD hS
  obtain ⟨fX_4, hu9, h_2⟩ := h_2
  have hPD := pd_eq (_ :: _ :: _ :: _ :: _ :: _ :: _ :: _ :: _ :: _ :: _ :: _ :: _ :: _ :: _ :: _ :: _ :: _ :: _ :: _ :: _ :: _ :: _ :: _ :: _ :: _ :: _ :: _ :: _ :: _ :: _ :: _ :: _ :: _ :: _ :: _ :: _ :: _ :: _ :: zzI cy qmr 8 fX_4 :: []) hP hD hu9 rfl
  clear hP hD hu9
  obtain ⟨hP, hD⟩ := hPD
  rcases h_2 with ⟨rfl, h_5⟩ | ⟨rfl, h_5⟩ | ⟨rfl, h_5⟩ | ⟨rfl, h_5⟩
  · refine lv_istore_n (lv' := [(3, .int (-2)), (0, .ref qm), (1, .int iA), (2, .int iB)]) hx hb (g_62 bX6_ones rfl) rfl hl (by decide +kernel) rfl (fun ls => ?_)
    clear hl
    intro hl
    refine lv_iload_n hx hb (g_29 bX6_ones rfl) rfl (lv_at hl 0 rfl) ?_
    refine lv_if_eq (tgt := 12) hx hb dX6_ones_7 (by decide +kernel) (fun h9 => absurd h9 (by decide +kernel)) (fun _ => ?_)
    refine lv_iload_n hx hb (g_29 bX6_ones rfl) rfl (lv_at hl 0 rfl) ?_
    exact endWs [(false :: false :: false :: false :: false :: false :: false :: false :: false :: false :: false :: false :: false :: false :: false :: false :: false :: false :: false :: false :: false :: false :: false :: false :: false :: false :: false :: false :: false :: false :: false :: false :: false :: false :: false :: false :: false :: true :: true :: []), (true :: true :: true :: true :: true :: true :: true :: true :: true :: true :: true :: true :: true :: true :: true :: true :: true :: true :: true :: true :: true :: true :: true :: true :: true :: true :: true :: true :: true :: true :: true :: true :: true :: true :: true :: true :: true :: false :: false :: true :: [])] hx hb hr hlocks rfl hP hD rfl (by decide +kernel) hS ⟨tA, fX_4, rfl, hTI, trivial⟩ (g_172 bX6_ones rfl)
  · obtain ⟨k_7, hk_8, rfl, h_9⟩ := h_5
    refine lv_istore_n (lv' := [(3, .int (-3)), (0, .ref qm), (1, .int (nI k_7)), (2, .int iB)]) hx hb (g_62 bX6_ones rfl) rfl hl (by decide +kernel) rfl (fun ls => ?_)
    clear hl
    intro hl
    refine lv_iload_n hx hb (g_29 bX6_ones rfl) rfl (lv_at hl 0 rfl) ?_
    refine lv_if_eq (tgt := 12) hx hb dX6_ones_7 (by decide +kernel) (fun h9 => absurd h9 (by decide +kernel)) (fun _ => ?_)
    refine lv_iload_n hx hb (g_29 bX6_ones rfl) rfl (lv_at hl 0 rfl) ?_
    exact endWs [(false :: false :: false :: false :: false :: false :: false :: false :: false :: false :: false :: false :: false :: false :: false :: false :: false :: false :: false :: false :: false :: false :: false :: false :: false :: false :: false :: false :: false :: false :: false :: false :: false :: false :: false :: false :: false :: true :: true :: []), (true :: true :: true :: true :: true :: true :: true :: true :: true :: true :: true :: true :: true :: true :: true :: true :: true :: true :: true :: true :: true :: true :: true :: true :: true :: true :: true :: true :: true :: true :: true :: true :: true :: true :: true :: true :: true :: false :: false :: true :: [])] hx hb hr hlocks rfl hP hD rfl (by decide +kernel) hS ⟨tA, fX_4, rfl, hTI, trivial⟩ (g_172 bX6_ones rfl)
  · obtain ⟨k_11, hk_12, rfl, h_13, h_14⟩ := h_5
    refine lv_istore_n (lv' := [(3, .int (-4)), (0, .ref qm), (1, .int (nI k_11)), (2, .int iB)]) hx hb (g_62 bX6_ones rfl) rfl hl (by decide +kernel) rfl (fun ls => ?_)
    clear hl
    intro hl
    refine lv_iload_n hx hb (g_29 bX6_ones rfl) rfl (lv_at hl 0 rfl) ?_
    refine lv_if_eq (tgt := 12) hx hb dX6_ones_7 (by decide +kernel) (fun h9 => absurd h9 (by decide +kernel)) (fun _ => ?_)
    refine lv_iload_n hx hb (g_29 bX6_ones rfl) rfl (lv_at hl 0 rfl) ?_
    exact endWs [(false :: false :: false :: false :: false :: false :: false :: false :: false :: false :: false :: false :: false :: false :: false :: false :: false :: false :: false :: false :: false :: false :: false :: false :: false :: false :: false :: false :: false :: false :: false :: false :: false :: false :: false :: false :: false :: true :: true :: []), (true :: true :: true :: true :: true :: true :: true :: true :: true :: true :: true :: true :: true :: true :: true :: true :: true :: true :: true :: true :: true :: true :: true :: true :: true :: true :: true :: true :: true :: true :: true :: true :: true :: true :: true :: true :: true :: false :: false :: true :: [])] hx hb hr hlocks rfl hP hD rfl (by decide +kernel) hS ⟨tA, fX_4, rfl, hTI, trivial⟩ (g_172 bX6_ones rfl)
  · obtain ⟨k_16, hk_17, rfl, h_18, h_19⟩ := h_5
    refine lv_istore_n (lv' := [(3, .int 0), (0, .ref qm), (1, .int (nI k_16)), (2, .int iB)]) hx hb (g_62 bX6_ones rfl) rfl hl (by decide +kernel) rfl (fun ls => ?_)
    clear hl
    intro hl
    refine lv_iload_n hx hb (g_29 bX6_ones rfl) rfl (lv_at hl 0 rfl) ?_
    refine lv_if_eq (tgt := 12) hx hb dX6_ones_7 (by decide +kernel) (fun _ => ?_) (fun h9 => absurd (by decide +kernel) h9)
    refine lv_iload_n hx hb (g_28 bX6_ones rfl) rfl (lv_at hl 3 rfl) ?_
    refine lv_if_lt (tgt := 32) hx hb dX6_ones_13 (by decide +kernel) (fun c_21 => ?_) (fun c_21 => ?_)
    · refine lv_aload_n hx hb (g_42 bX6_ones rfl) rfl (lv_at hl 1 rfl) ?_
      refine lv_bipush (v := (-2)) hx hb dX6_ones_33 (by decide +kernel) ?_
      refine cVi (As := [.int (-2)]) (rest := []) (b := qm) (q := (RX6, TX6, 35)) ⟨hx, hb, hml, hown, hts⟩ (c_X6_refuse2 l G cy (H).size qm (.ref qmh) (.ref qmo) (.ref qmz) (.ref qmR) (.ref qmv) (.ref qmk) (.ref qma) (.ref qmt) (.int (nI kZ)) qmr tA qmB qmO qmK iEn iTk (ov uP) (ov uU) (.int (nI kAt)) (.int iTo) (.int iFr) (.long JFi) (.int iFa) (.ref qm3) (.int iSt) iLv iWs vLa (.ref qmu) (.ref qmy) (.ref qmb) (.ref qms) (.int iOm) fX_4) L_X6_91 hN hP hD hS hA [37, 39] (true :: true :: true :: true :: true :: true :: true :: true :: true :: true :: true :: true :: true :: true :: true :: true :: true :: true :: true :: true :: true :: true :: true :: true :: true :: true :: true :: true :: true :: true :: true :: true :: true :: true :: true :: true :: true :: false :: true :: false :: []) rfl (by decide +kernel) rfl 37 5 rfl rfl rfl ⟨Nat.le_of_ble_eq_true rfl, Nat.le_of_ble_eq_true rfl⟩ hl.1 (Nat.le_of_ble_eq_true rfl) (g_182 (v := 91) bX6_ones rfl) ⟨Nat.le_of_ble_eq_true rfl, Nat.le_of_ble_eq_true rfl⟩ (fun r_22 u_24 H locs h_23 => ?_)
      clear hP hD hS
      intro hP hD hS
      obtain ⟨fX_25, hu9, h_23⟩ := h_23
      have hPD := pd_eq (_ :: _ :: _ :: _ :: _ :: _ :: _ :: _ :: _ :: _ :: _ :: _ :: _ :: _ :: _ :: _ :: _ :: _ :: _ :: _ :: _ :: _ :: _ :: _ :: _ :: _ :: _ :: _ :: _ :: _ :: _ :: _ :: _ :: _ :: _ :: _ :: _ :: _ :: _ :: zzI cy qmr 8 fX_25 :: []) hP hD hu9 rfl
      clear hP hD hu9
      obtain ⟨hP, hD⟩ := hPD
      subst h_23
      exact endWs [(false :: false :: false :: false :: false :: false :: false :: false :: false :: false :: false :: false :: false :: false :: false :: false :: false :: false :: false :: false :: false :: false :: false :: false :: false :: false :: false :: false :: false :: false :: false :: false :: false :: false :: false :: false :: false :: false :: true :: []), (false :: false :: false :: false :: false :: false :: false :: false :: false :: false :: false :: false :: false :: false :: false :: false :: false :: false :: false :: false :: false :: false :: false :: false :: false :: false :: false :: false :: false :: false :: false :: false :: false :: false :: false :: false :: false :: true :: []), (true :: true :: true :: true :: true :: true :: true :: true :: true :: true :: true :: true :: true :: true :: true :: true :: true :: true :: true :: true :: true :: true :: true :: true :: true :: true :: true :: true :: true :: true :: true :: true :: true :: true :: true :: true :: true :: false :: false :: true :: [])] hx hb hr hlocks rfl hP hD rfl (by decide +kernel) hS ⟨tA, fX_25, rfl, hTI, trivial⟩ (g_172 bX6_ones rfl)
    · refine lv_iload_n hx hb (g_28 bX6_ones rfl) rfl (lv_at hl 3 rfl) ?_
      refine lv_iconst (v := 4) hx hb (g_7 bX6_ones rfl) (by decide +kernel) ?_
      refine lv_irem hx hb (g_112 bX6_ones rfl) (by decide +kernel) ?_
      refine lv_if_ne (tgt := 32) hx hb dX6_ones_19 (by decide +kernel) (fun c_26 => ?_) (fun c_26 => ?_)
      · refine lv_aload_n hx hb (g_42 bX6_ones rfl) rfl (lv_at hl 1 rfl) ?_
        refine lv_bipush (v := (-2)) hx hb dX6_ones_33 (by decide +kernel) ?_
        refine cVi (As := [.int (-2)]) (rest := []) (b := qm) (q := (RX6, TX6, 35)) ⟨hx, hb, hml, hown, hts⟩ (c_X6_refuse2 l G cy (H).size qm (.ref qmh) (.ref qmo) (.ref qmz) (.ref qmR) (.ref qmv) (.ref qmk) (.ref qma) (.ref qmt) (.int (nI kZ)) qmr tA qmB qmO qmK iEn iTk (ov uP) (ov uU) (.int (nI kAt)) (.int iTo) (.int iFr) (.long JFi) (.int iFa) (.ref qm3) (.int iSt) iLv iWs vLa (.ref qmu) (.ref qmy) (.ref qmb) (.ref qms) (.int iOm) fX_4) L_X6_91 hN hP hD hS hA [37, 39] (true :: true :: true :: true :: true :: true :: true :: true :: true :: true :: true :: true :: true :: true :: true :: true :: true :: true :: true :: true :: true :: true :: true :: true :: true :: true :: true :: true :: true :: true :: true :: true :: true :: true :: true :: true :: true :: false :: true :: false :: []) rfl (by decide +kernel) rfl 37 5 rfl rfl rfl ⟨Nat.le_of_ble_eq_true rfl, Nat.le_of_ble_eq_true rfl⟩ hl.1 (Nat.le_of_ble_eq_true rfl) (g_182 (v := 91) bX6_ones rfl) ⟨Nat.le_of_ble_eq_true rfl, Nat.le_of_ble_eq_true rfl⟩ (fun r_27 u_29 H locs h_28 => ?_)
        clear hP hD hS
        intro hP hD hS
        obtain ⟨fX_30, hu9, h_28⟩ := h_28
        have hPD := pd_eq (_ :: _ :: _ :: _ :: _ :: _ :: _ :: _ :: _ :: _ :: _ :: _ :: _ :: _ :: _ :: _ :: _ :: _ :: _ :: _ :: _ :: _ :: _ :: _ :: _ :: _ :: _ :: _ :: _ :: _ :: _ :: _ :: _ :: _ :: _ :: _ :: _ :: _ :: _ :: zzI cy qmr 8 fX_30 :: []) hP hD hu9 rfl
        clear hP hD hu9
        obtain ⟨hP, hD⟩ := hPD
        subst h_28
        exact endWs [(false :: false :: false :: false :: false :: false :: false :: false :: false :: false :: false :: false :: false :: false :: false :: false :: false :: false :: false :: false :: false :: false :: false :: false :: false :: false :: false :: false :: false :: false :: false :: false :: false :: false :: false :: false :: false :: false :: true :: []), (false :: false :: false :: false :: false :: false :: false :: false :: false :: false :: false :: false :: false :: false :: false :: false :: false :: false :: false :: false :: false :: false :: false :: false :: false :: false :: false :: false :: false :: false :: false :: false :: false :: false :: false :: false :: false :: true :: []), (true :: true :: true :: true :: true :: true :: true :: true :: true :: true :: true :: true :: true :: true :: true :: true :: true :: true :: true :: true :: true :: true :: true :: true :: true :: true :: true :: true :: true :: true :: true :: true :: true :: true :: true :: true :: true :: false :: false :: true :: [])] hx hb hr hlocks rfl hP hD rfl (by decide +kernel) hS ⟨tA, fX_30, rfl, hTI, trivial⟩ (g_172 bX6_ones rfl)
      · refine lv_iload_n hx hb (g_28 bX6_ones rfl) rfl (lv_at hl 3 rfl) ?_
        refine lv_aload_n hx hb (g_42 bX6_ones rfl) rfl (lv_at hl 1 rfl) ?_
        refine va_get (D := G) (ci := 5) (v := .ref qmz) (C := RX6) (T := TX6) (N := 35) hx hb hts iX_X6 hown hK hP 37 rfl rfl 2 (by decide +kernel) (hts _ m_t852) (fun _ h9 => h9) rfl (g_180 (v := 16) bX6_ones rfl) ?_
        refine lv_iload_n hx hb (g_27 bX6_ones rfl) rfl (lv_at hl 2 rfl) ?_
        refine va_iald hx hb hK hP 0 0 rfl rfl (in8 (by omega)) (g_46 bX6_ones rfl) ?_
        refine lv_seti (v := fMz k_16) (congrArg fMz (cl8 (by omega))) ?_
        refine lv_icmp_le (tgt := 39) hx hb dX6_ones_29 (by decide +kernel) (fun c_31 => ?_) (fun c_31 => ?_)
        · obtain ⟨n_32, hn_33, en_34⟩ := hSz k_16 hk_17
          obtain ⟨k_35, hk_36, rfl⟩ := sz4m en_34 hn_33 c_21 c_26 c_31
          refine lv_iconst (v := 0) hx hb (g_3 bX6_ones rfl) (by decide +kernel) ?_
          refine lv_istore (lv' := [(4, .int 0), (3, .int 0), (0, .ref qm), (1, .int (nI k_16)), (2, .int (nI (4 * k_35)))]) hx hb (g_54 (v := 4) bX6_ones rfl) hl (by decide +kernel) rfl (fun ls => ?_)
          clear hl
          intro hl
          refine lv_iconst (v := 0) hx hb (g_3 bX6_ones rfl) (by decide +kernel) ?_
          refine lv_istore (lv' := [(5, .int 0), (4, .int 0), (3, .int 0), (0, .ref qm), (1, .int (nI k_16)), (2, .int (nI (4 * k_35)))]) hx hb (g_54 (v := 5) bX6_ones rfl) hl (by decide +kernel) rfl (fun ls => ?_)
          clear hl
          intro hl
          replace hl : lv_has ls 6 [(5, .int (nI (4 * 0))), (4, .int 0), (3, .int 0), (0, .ref qm), (1, .int (nI k_16)), (2, .int (nI (4 * k_35)))] := hl
          have lp_37 : ∀ (n_38 : Nat) (j_40 : Nat) (tJ_41 : TA) (xC_42 : Int32), 10 - j_40 < n_38 → j_40 ≤ k_35 → TI tJ_41 → ∀ (H : Heap) (locs : List Loc) (ls : Array Slot), va_P G CL (zzI cy qmz 8 fMz :: zzG cy 4 qmR rR :: zzJ cy (rR 0) 40 (eR 0) :: zzJ cy (rR 1) 40 (eR 1) :: zzJ cy (rR 2) 40 (eR 2) :: zzJ cy (rR 3) 40 (eR 3) :: zzJ cy (rR 4) 40 (eR 4) :: zzJ cy (rR 5) 40 (eR 5) :: zzJ cy (rR 6) 40 (eR 6) :: zzJ cy (rR 7) 40 (eR 7) :: zzG cy 3 qmB rB :: zzI cy (rB 0) 4 (bkR tJ_41 0) :: zzI cy (rB 1) 4 (bkR tJ_41 1) :: zzI cy (rB 2) 4 (bkR tJ_41 2) :: zzI cy (rB 3) 4 (bkR tJ_41 3) :: zzI cy (rB 4) 4 (bkR tJ_41 4) :: zzI cy (rB 5) 4 (bkR tJ_41 5) :: zzI cy (rB 6) 4 (bkR tJ_41 6) :: zzI cy (rB 7) 4 (bkR tJ_41 7) :: zzG cy 3 qmO rO :: zzI cy (rO 0) 5 (onR tJ_41 0) :: zzI cy (rO 1) 5 (onR tJ_41 1) :: zzI cy (rO 2) 5 (onR tJ_41 2) :: zzI cy (rO 3) 5 (onR tJ_41 3) :: zzI cy (rO 4) 5 (onR tJ_41 4) :: zzI cy (rO 5) 5 (onR tJ_41 5) :: zzI cy (rO 6) 5 (onR tJ_41 6) :: zzI cy (rO 7) 5 (onR tJ_41 7) :: zzG cy 3 qmK rK :: zzI cy (rK 0) 8 (T_kn tJ_41 0) :: zzI cy (rK 1) 8 (T_kn tJ_41 1) :: zzI cy (rK 2) 8 (T_kn tJ_41 2) :: zzI cy (rK 3) 8 (T_kn tJ_41 3) :: zzI cy (rK 4) 8 (T_kn tJ_41 4) :: zzI cy (rK 5) 8 (T_kn tJ_41 5) :: zzI cy (rK 6) 8 (T_kn tJ_41 6) :: zzI cy (rK 7) 8 (T_kn tJ_41 7) :: zzO qm 5 (.ref qmh :: .ref qmo :: .ref qmz :: .ref qmR :: .ref qmv :: .ref qmk :: .ref qma :: .ref qmt :: .int (nI kZ) :: .ref qmr :: .int (nI (T_nb tJ_41)) :: .ref qmB :: .int (nI (T_np tJ_41)) :: .ref qmO :: .ref qmK :: .int iEn :: .int iTk :: .int (T_sd tJ_41) :: ov uP :: ov uU :: .int (nI kAt) :: .int iTo :: .int iFr :: .long JFi :: .int iFa :: .ref qm3 :: .int iSt :: .int iLv :: .int iWs :: vLa :: .ref qmu :: .ref qmy :: .ref qmb :: .ref qms :: .int iOm :: []) :: zzI cy qmh 8 fMh :: zzI cy qmr 8 fX_4 :: []) H → va_D A (zzI cy qmz 8 fMz :: zzG cy 4 qmR rR :: zzJ cy (rR 0) 40 (eR 0) :: zzJ cy (rR 1) 40 (eR 1) :: zzJ cy (rR 2) 40 (eR 2) :: zzJ cy (rR 3) 40 (eR 3) :: zzJ cy (rR 4) 40 (eR 4) :: zzJ cy (rR 5) 40 (eR 5) :: zzJ cy (rR 6) 40 (eR 6) :: zzJ cy (rR 7) 40 (eR 7) :: zzG cy 3 qmB rB :: zzI cy (rB 0) 4 (bkR tJ_41 0) :: zzI cy (rB 1) 4 (bkR tJ_41 1) :: zzI cy (rB 2) 4 (bkR tJ_41 2) :: zzI cy (rB 3) 4 (bkR tJ_41 3) :: zzI cy (rB 4) 4 (bkR tJ_41 4) :: zzI cy (rB 5) 4 (bkR tJ_41 5) :: zzI cy (rB 6) 4 (bkR tJ_41 6) :: zzI cy (rB 7) 4 (bkR tJ_41 7) :: zzG cy 3 qmO rO :: zzI cy (rO 0) 5 (onR tJ_41 0) :: zzI cy (rO 1) 5 (onR tJ_41 1) :: zzI cy (rO 2) 5 (onR tJ_41 2) :: zzI cy (rO 3) 5 (onR tJ_41 3) :: zzI cy (rO 4) 5 (onR tJ_41 4) :: zzI cy (rO 5) 5 (onR tJ_41 5) :: zzI cy (rO 6) 5 (onR tJ_41 6) :: zzI cy (rO 7) 5 (onR tJ_41 7) :: zzG cy 3 qmK rK :: zzI cy (rK 0) 8 (T_kn tJ_41 0) :: zzI cy (rK 1) 8 (T_kn tJ_41 1) :: zzI cy (rK 2) 8 (T_kn tJ_41 2) :: zzI cy (rK 3) 8 (T_kn tJ_41 3) :: zzI cy (rK 4) 8 (T_kn tJ_41 4) :: zzI cy (rK 5) 8 (T_kn tJ_41 5) :: zzI cy (rK 6) 8 (T_kn tJ_41 6) :: zzI cy (rK 7) 8 (T_kn tJ_41 7) :: zzO qm 5 (.ref qmh :: .ref qmo :: .ref qmz :: .ref qmR :: .ref qmv :: .ref qmk :: .ref qma :: .ref qmt :: .int (nI kZ) :: .ref qmr :: .int (nI (T_nb tJ_41)) :: .ref qmB :: .int (nI (T_np tJ_41)) :: .ref qmO :: .ref qmK :: .int iEn :: .int iTk :: .int (T_sd tJ_41) :: ov uP :: ov uU :: .int (nI kAt) :: .int iTo :: .int iFr :: .long JFi :: .int iFa :: .ref qm3 :: .int iSt :: .int iLv :: .int iWs :: vLa :: .ref qmu :: .ref qmy :: .ref qmb :: .ref qms :: .int iOm :: []) :: zzI cy qmh 8 fMh :: zzI cy qmr 8 fX_4 :: []) → va_S A s.heap H locs → lv_has ls 6 [(5, .int (nI (4 * j_40))), (4, .int xC_42), (3, .int 0), (0, .ref qm), (1, .int (nI k_16)), (2, .int (nI (4 * k_35)))] → W p l e (Rm 16 0 0) s m (List.toArray (α := Value) [.ref qm, .int (nI k_16), .int (nI (4 * k_35))]) below meth c H locs 0 0 (MQ below ((Wi G (fun r u => ∃ (tN : TA) (fNr : Nat → Int32), u = (zzO qm 5 (.ref qmh :: .ref qmo :: .ref qmz :: .ref qmR :: .ref qmv :: .ref qmk :: .ref qma :: .ref qmt :: .int (nI kZ) :: .ref qmr :: .int (nI (T_nb tN)) :: .ref qmB :: .int (nI (T_np tN)) :: .ref qmO :: .ref qmK :: .int iEn :: .int iTk :: .int (T_sd tN) :: ov uP :: ov uU :: .int (nI kAt) :: .int iTo :: .int iFr :: .long JFi :: .int iFa :: .ref qm3 :: .int iSt :: .int iLv :: .int iWs :: vLa :: .ref qmu :: .ref qmy :: .ref qmb :: .ref qms :: .int iOm :: []) :: zzI cy qmh 8 fMh :: zzI cy qmz 8 fMz :: zzG cy 4 qmR rR :: zzJ cy (rR 0) 40 (eR 0) :: zzJ cy (rR 1) 40 (eR 1) :: zzJ cy (rR 2) 40 (eR 2) :: zzJ cy (rR 3) 40 (eR 3) :: zzJ cy (rR 4) 40 (eR 4) :: zzJ cy (rR 5) 40 (eR 5) :: zzJ cy (rR 6) 40 (eR 6) :: zzJ cy (rR 7) 40 (eR 7) :: zzG cy 3 qmB rB :: zzI cy (rB 0) 4 (bkR tN 0) :: zzI cy (rB 1) 4 (bkR tN 1) :: zzI cy (rB 2) 4 (bkR tN 2) :: zzI cy (rB 3) 4 (bkR tN 3) :: zzI cy (rB 4) 4 (bkR tN 4) :: zzI cy (rB 5) 4 (bkR tN 5) :: zzI cy (rB 6) 4 (bkR tN 6) :: zzI cy (rB 7) 4 (bkR tN 7) :: zzG cy 3 qmO rO :: zzI cy (rO 0) 5 (onR tN 0) :: zzI cy (rO 1) 5 (onR tN 1) :: zzI cy (rO 2) 5 (onR tN 2) :: zzI cy (rO 3) 5 (onR tN 3) :: zzI cy (rO 4) 5 (onR tN 4) :: zzI cy (rO 5) 5 (onR tN 5) :: zzI cy (rO 6) 5 (onR tN 6) :: zzI cy (rO 7) 5 (onR tN 7) :: zzG cy 3 qmK rK :: zzI cy (rK 0) 8 (T_kn tN 0) :: zzI cy (rK 1) 8 (T_kn tN 1) :: zzI cy (rK 2) 8 (T_kn tN 2) :: zzI cy (rK 3) 8 (T_kn tN 3) :: zzI cy (rK 4) 8 (T_kn tN 4) :: zzI cy (rK 5) 8 (T_kn tN 5) :: zzI cy (rK 6) 8 (T_kn tN 6) :: zzI cy (rK 7) 8 (T_kn tN 7) :: zzI cy qmr 8 fNr :: []) ∧ (TI tN) ∧ (True))) A) (List.toArray (α := Value) [.ref qm, .int (nI k_16), .int (nI (4 * k_35))]) s 0 0 A) (F0 m 45 ls []) := by
            intro n_38
            induction n_38 with
            | zero => intro j_40 tJ_41 xC_42 hm9; exact absurd hm9 (Nat.not_lt_zero _)
            | succ n_38 ih_39 =>
              intro j_40 tJ_41 xC_42 hm_45 hj_43 hTJ_44 H locs ls hP hD hS hl
              refine lv_iload hx hb (g_21 (v := 5) bX6_ones rfl) (lv_at hl 0 rfl) ?_
              refine lv_iload_n hx hb (g_28 bX6_ones rfl) rfl (lv_at hl 5 rfl) ?_
              refine lv_icmp_ge (tgt := 112) hx hb dX6_ones_48 (by decide +kernel) (fun c_46 => ?_) (fun c_46 => ?_)
              · refine lv_iload hx hb (g_21 (v := 4) bX6_ones rfl) (lv_at hl 1 rfl) ?_
                exact endWs [(false :: false :: false :: false :: false :: false :: false :: false :: false :: false :: false :: false :: false :: false :: false :: false :: false :: false :: false :: false :: false :: false :: false :: false :: false :: false :: false :: false :: false :: false :: false :: false :: false :: false :: false :: false :: false :: true :: true :: []), (true :: true :: true :: true :: true :: true :: true :: true :: true :: true :: true :: true :: true :: true :: true :: true :: true :: true :: true :: true :: true :: true :: true :: true :: true :: true :: true :: true :: true :: true :: true :: true :: true :: true :: true :: true :: true :: false :: false :: true :: [])] hx hb hr hlocks rfl hP hD rfl (by decide +kernel) hS ⟨tJ_41, fX_4, rfl, hTJ_44, trivial⟩ (g_172 bX6_ones rfl)
              · have hlt_48 : j_40 < k_35 := by have := lp_lt rfl rfl (by omega) (by omega) c_46; omega
                have hlt_48b := hTJ_44.1.1
                have hlt_48p := hTJ_44.1.2
                refine lv_aload_n hx hb (g_42 bX6_ones rfl) rfl (lv_at hl 3 rfl) ?_
                refine lv_aload_n hx hb (g_42 bX6_ones rfl) rfl (lv_at hl 3 rfl) ?_
                refine va_get (D := G) (ci := 5) (v := .ref qmR) (C := RX6) (T := TX6) (N := 35) hx hb hts iX_X6 hown hK hP 37 rfl rfl 3 (by decide +kernel) (hts _ m_t853) (fun _ h9 => h9) rfl (g_180 (v := 21) bX6_ones rfl) ?_
                refine lv_iload_n hx hb (g_27 bX6_ones rfl) rfl (lv_at hl 4 rfl) ?_
                refine va_alda hx hb hK hP 1 4 rfl rfl (in8 (by omega)) (g_50 bX6_ones rfl) ?_
                refine lv_setv (v := .ref (rR k_16)) (g_ref (by omega)) ?_
                refine lv_iload hx hb (g_21 (v := 5) bX6_ones rfl) (lv_at hl 0 rfl) ?_
                refine va_lald hx hb hK hP (2 + k_16) 1 (sg8 (n0 := 2) (f := (fun j => zzJ cy (rR j) 40 (eR j))) rfl rfl rfl rfl rfl rfl rfl rfl k_16 (by omega)) rfl (vp_in_nI (by omega) (by omega)) (g_47 bX6_ones rfl) ?_
                refine lv_setl (v := eR k_16 (4 * j_40)) (congrArg (eR k_16) (nI_clamp (by omega))) ?_
                refine lv_aload_n hx hb (g_42 bX6_ones rfl) rfl (lv_at hl 3 rfl) ?_
                refine va_get (D := G) (ci := 5) (v := .ref qmR) (C := RX6) (T := TX6) (N := 35) hx hb hts iX_X6 hown hK hP 37 rfl rfl 3 (by decide +kernel) (hts _ m_t853) (fun _ h9 => h9) rfl (g_180 (v := 21) bX6_ones rfl) ?_
                refine lv_iload_n hx hb (g_27 bX6_ones rfl) rfl (lv_at hl 4 rfl) ?_
                refine va_alda hx hb hK hP 1 4 rfl rfl (in8 (by omega)) (g_50 bX6_ones rfl) ?_
                refine lv_setv (v := .ref (rR k_16)) (g_ref (by omega)) ?_
                refine lv_iload hx hb (g_21 (v := 5) bX6_ones rfl) (lv_at hl 0 rfl) ?_
                refine lv_iconst (v := 1) hx hb (g_4 bX6_ones rfl) (by decide +kernel) ?_
                refine lv_iadd hx hb (g_96 bX6_ones rfl) ?_
                refine lv_seti (v := nI ((4 * j_40) + 1)) (nI_add _ _) ?_
                refine va_lald hx hb hK hP (2 + k_16) 1 (sg8 (n0 := 2) (f := (fun j => zzJ cy (rR j) 40 (eR j))) rfl rfl rfl rfl rfl rfl rfl rfl k_16 (by omega)) rfl (vp_in_nI (by omega) (by omega)) (g_47 bX6_ones rfl) ?_
                refine lv_setl (v := eR k_16 ((4 * j_40) + 1)) (congrArg (eR k_16) (nI_clamp (by omega))) ?_
                refine lv_aload_n hx hb (g_42 bX6_ones rfl) rfl (lv_at hl 3 rfl) ?_
                refine va_get (D := G) (ci := 5) (v := .ref qmR) (C := RX6) (T := TX6) (N := 35) hx hb hts iX_X6 hown hK hP 37 rfl rfl 3 (by decide +kernel) (hts _ m_t853) (fun _ h9 => h9) rfl (g_180 (v := 21) bX6_ones rfl) ?_
                refine lv_iload_n hx hb (g_27 bX6_ones rfl) rfl (lv_at hl 4 rfl) ?_
                refine va_alda hx hb hK hP 1 4 rfl rfl (in8 (by omega)) (g_50 bX6_ones rfl) ?_
                refine lv_setv (v := .ref (rR k_16)) (g_ref (by omega)) ?_
                refine lv_iload hx hb (g_21 (v := 5) bX6_ones rfl) (lv_at hl 0 rfl) ?_
                refine lv_iconst (v := 2) hx hb (g_5 bX6_ones rfl) (by decide +kernel) ?_
                refine lv_iadd hx hb (g_96 bX6_ones rfl) ?_
                refine lv_seti (v := nI ((4 * j_40) + 2)) (nI_add _ _) ?_
                refine va_lald hx hb hK hP (2 + k_16) 1 (sg8 (n0 := 2) (f := (fun j => zzJ cy (rR j) 40 (eR j))) rfl rfl rfl rfl rfl rfl rfl rfl k_16 (by omega)) rfl (vp_in_nI (by omega) (by omega)) (g_47 bX6_ones rfl) ?_
                refine lv_setl (v := eR k_16 ((4 * j_40) + 2)) (congrArg (eR k_16) (nI_clamp (by omega))) ?_
                refine lv_aload_n hx hb (g_42 bX6_ones rfl) rfl (lv_at hl 3 rfl) ?_
                refine va_get (D := G) (ci := 5) (v := .ref qmR) (C := RX6) (T := TX6) (N := 35) hx hb hts iX_X6 hown hK hP 37 rfl rfl 3 (by decide +kernel) (hts _ m_t853) (fun _ h9 => h9) rfl (g_180 (v := 21) bX6_ones rfl) ?_
                refine lv_iload_n hx hb (g_27 bX6_ones rfl) rfl (lv_at hl 4 rfl) ?_
                refine va_alda hx hb hK hP 1 4 rfl rfl (in8 (by omega)) (g_50 bX6_ones rfl) ?_
                refine lv_setv (v := .ref (rR k_16)) (g_ref (by omega)) ?_
                refine lv_iload hx hb (g_21 (v := 5) bX6_ones rfl) (lv_at hl 0 rfl) ?_
                refine lv_iconst (v := 3) hx hb (g_6 bX6_ones rfl) (by decide +kernel) ?_
                refine lv_iadd hx hb (g_96 bX6_ones rfl) ?_
                refine lv_seti (v := nI ((4 * j_40) + 3)) (nI_add _ _) ?_
                refine va_lald hx hb hK hP (2 + k_16) 1 (sg8 (n0 := 2) (f := (fun j => zzJ cy (rR j) 40 (eR j))) rfl rfl rfl rfl rfl rfl rfl rfl k_16 (by omega)) rfl (vp_in_nI (by omega) (by omega)) (g_47 bX6_ones rfl) ?_
                refine lv_setl (v := eR k_16 ((4 * j_40) + 3)) (congrArg (eR k_16) (nI_clamp (by omega))) ?_
                refine cVi (As := [.long (eR k_16 (4 * j_40)), .long (eR k_16 ((4 * j_40) + 1)), .long (eR k_16 ((4 * j_40) + 2)), .long (eR k_16 ((4 * j_40) + 3))]) (rest := []) (b := qm) (q := (RX6, TX6, 35)) ⟨hx, hb, hml, hown, hts⟩ (c_X6_add l G cy (H).size qm (.ref qmh) (.ref qmo) (.ref qmz) (.ref qmR) (.ref qmv) (.ref qmk) (.ref qma) (.ref qmt) (.int (nI kZ)) (.ref qmr) tJ_41 qmB qmO qmK iEn iTk (ov uP) (ov uU) (.int (nI kAt)) (.int iTo) (.int iFr) (.long JFi) (.int iFa) (.ref qm3) (.int iSt) iLv iWs vLa (.ref qmu) (.ref qmy) (.ref qmb) (.ref qms) (.int iOm) rB rO rK (eR k_16 (4 * j_40)) (eR k_16 ((4 * j_40) + 1)) (eR k_16 ((4 * j_40) + 2)) (eR k_16 ((4 * j_40) + 3)) (by first | omega | (simp only [nb_sr, np_sr, nb_wr, np_wr, nb_rd, np_rd, nb_ch, np_ch, nb_zr, np_zr, nb_za, np_za, nb_ey, np_ey, nb_hf, np_hf, nb_dd, np_dd, nb_so, np_so, nb_skn, np_skn, nb_swh, np_swh, nb_sgn, np_sgn, nb_ssd, np_ssd, nb_sgo, np_sgo, nb_sag, np_sag]; omega)) hTJ_44) L_X6_137 hN hP hD hS hA (trueIxs [(false :: false :: false :: false :: false :: false :: false :: false :: false :: false :: false :: false :: false :: false :: false :: false :: false :: false :: false :: false :: false :: false :: false :: false :: false :: false :: false :: false :: false :: false :: false :: false :: false :: false :: false :: false :: false :: true :: []), (false :: false :: false :: false :: false :: false :: false :: false :: false :: false :: true :: true :: true :: true :: true :: true :: true :: true :: true :: true :: true :: true :: true :: true :: true :: true :: true :: true :: true :: true :: true :: true :: true :: true :: true :: true :: true :: [])]) (true :: true :: true :: true :: true :: true :: true :: true :: true :: true :: false :: false :: false :: false :: false :: false :: false :: false :: false :: false :: false :: false :: false :: false :: false :: false :: false :: false :: false :: false :: false :: false :: false :: false :: false :: false :: false :: false :: true :: true :: []) (sels_eq rfl rfl) (by decide +kernel) rfl 37 5 rfl rfl rfl ⟨Nat.le_of_ble_eq_true rfl, Nat.le_of_ble_eq_true rfl⟩ hl.1 (Nat.le_of_ble_eq_true rfl) (g_182 (v := 137) bX6_ones rfl) ⟨Nat.le_of_ble_eq_true rfl, Nat.le_of_ble_eq_true rfl⟩ (fun r_49 u_51 H locs h_50 => ?_)
                clear hP hD hS
                intro hP hD hS
                obtain ⟨tX_52, hu9, h_53, h_50⟩ := h_50
                have hPD := pd_eq (_ :: _ :: _ :: _ :: _ :: _ :: _ :: _ :: _ :: _ :: _ :: _ :: zzO qm 5 (.ref qmh :: .ref qmo :: .ref qmz :: .ref qmR :: .ref qmv :: .ref qmk :: .ref qma :: .ref qmt :: .int (nI kZ) :: .ref qmr :: .int (nI (T_nb tX_52)) :: .ref qmB :: .int (nI (T_np tX_52)) :: .ref qmO :: .ref qmK :: .int iEn :: .int iTk :: .int (T_sd tX_52) :: ov uP :: ov uU :: .int (nI kAt) :: .int iTo :: .int iFr :: .long JFi :: .int iFa :: .ref qm3 :: .int iSt :: .int iLv :: .int iWs :: vLa :: .ref qmu :: .ref qmy :: .ref qmb :: .ref qms :: .int iOm :: []) :: _ :: zzI cy (rB 0) 4 (bkR tX_52 0) :: zzI cy (rB 1) 4 (bkR tX_52 1) :: zzI cy (rB 2) 4 (bkR tX_52 2) :: zzI cy (rB 3) 4 (bkR tX_52 3) :: zzI cy (rB 4) 4 (bkR tX_52 4) :: zzI cy (rB 5) 4 (bkR tX_52 5) :: zzI cy (rB 6) 4 (bkR tX_52 6) :: zzI cy (rB 7) 4 (bkR tX_52 7) :: _ :: zzI cy (rO 0) 5 (onR tX_52 0) :: zzI cy (rO 1) 5 (onR tX_52 1) :: zzI cy (rO 2) 5 (onR tX_52 2) :: zzI cy (rO 3) 5 (onR tX_52 3) :: zzI cy (rO 4) 5 (onR tX_52 4) :: zzI cy (rO 5) 5 (onR tX_52 5) :: zzI cy (rO 6) 5 (onR tX_52 6) :: zzI cy (rO 7) 5 (onR tX_52 7) :: _ :: zzI cy (rK 0) 8 (T_kn tX_52 0) :: zzI cy (rK 1) 8 (T_kn tX_52 1) :: zzI cy (rK 2) 8 (T_kn tX_52 2) :: zzI cy (rK 3) 8 (T_kn tX_52 3) :: zzI cy (rK 4) 8 (T_kn tX_52 4) :: zzI cy (rK 5) 8 (T_kn tX_52 5) :: zzI cy (rK 6) 8 (T_kn tX_52 6) :: zzI cy (rK 7) 8 (T_kn tX_52 7) :: []) hP hD hu9 rfl
                clear hP hD hu9
                obtain ⟨hP, hD⟩ := hPD
                rcases h_50 with ⟨rfl, h_54⟩ | ⟨rfl, h_54⟩ | ⟨rfl, h_54⟩
                · refine lv_if_ge (tgt := 103) hx hb dX6_ones_97 (by decide +kernel) (fun h9 => absurd h9 (by decide +kernel)) (fun _ => ?_)
                  refine lv_iload hx hb (g_21 (v := 4) bX6_ones rfl) (lv_at hl 1 rfl) ?_
                  exact endWs [[false, false, false, false, false, false, false, false, false, false, false, false, true], [false, false, false, false, false, false, false, false, false, false, true], (true :: true :: true :: true :: true :: true :: true :: true :: true :: true :: false :: false :: false :: true :: true :: true :: true :: true :: true :: true :: true :: true :: true :: true :: true :: true :: true :: true :: true :: true :: true :: true :: true :: true :: true :: true :: true :: true :: true :: true :: []), [false, false, false, false, false, false, false, false, false, false, false, true]] hx hb hr hlocks rfl hP hD rfl (by decide +kernel) hS ⟨tX_52, fX_4, rfl, h_53.1, trivial⟩ (g_172 bX6_ones rfl)
                · refine lv_if_ge (tgt := 103) hx hb dX6_ones_97 (by decide +kernel) (fun h9 => absurd h9 (by decide +kernel)) (fun _ => ?_)
                  refine lv_iload hx hb (g_21 (v := 4) bX6_ones rfl) (lv_at hl 1 rfl) ?_
                  exact endWs [[false, false, false, false, false, false, false, false, false, false, false, false, true], [false, false, false, false, false, false, false, false, false, false, true], (true :: true :: true :: true :: true :: true :: true :: true :: true :: true :: false :: false :: false :: true :: true :: true :: true :: true :: true :: true :: true :: true :: true :: true :: true :: true :: true :: true :: true :: true :: true :: true :: true :: true :: true :: true :: true :: true :: true :: true :: []), [false, false, false, false, false, false, false, false, false, false, false, true]] hx hb hr hlocks rfl hP hD rfl (by decide +kernel) hS ⟨tX_52, fX_4, rfl, h_53.1, trivial⟩ (g_172 bX6_ones rfl)
                · refine lv_if_ge (tgt := 103) hx hb dX6_ones_97 (by decide +kernel) (fun c_57 => ?_) (fun c_57 => ?_)
                  · refine lv_iinc (v := xC_42 + 1) (lv' := [(4, .int (xC_42 + 1)), (5, .int (nI (4 * j_40))), (3, .int 0), (0, .ref qm), (1, .int (nI k_16)), (2, .int (nI (4 * k_35)))]) hx hb dX6_ones_103 hl (k := 1) rfl (rfl) (by decide +kernel) rfl (fun ls => ?_)
                    clear hl
                    intro hl
                    refine lv_iinc (v := (nI (4 * j_40)) + 4) (lv' := [(5, .int ((nI (4 * j_40)) + 4)), (4, .int (xC_42 + 1)), (3, .int 0), (0, .ref qm), (1, .int (nI k_16)), (2, .int (nI (4 * k_35)))]) hx hb dX6_ones_106 hl (k := 1) rfl (rfl) (by decide +kernel) rfl (fun ls => ?_)
                    clear hl
                    intro hl
                    rw [show (nI (4 * j_40)) + 4 = nI (4 * (j_40 + 1)) from (nI_add (4 * j_40) 4).trans (congrArg nI (by omega))] at hl
                    refine lv_goto (tgt := 45) hx hb dX6_ones_109 (by decide +kernel) ?_
                    exact ih_39 (j_40 + 1) tX_52 (xC_42 + 1) (by omega) (by omega) h_53.1 _ _ _ (pSb hP [(true :: true :: true :: true :: true :: true :: true :: true :: true :: true :: false :: false :: false :: true :: true :: true :: true :: true :: true :: true :: true :: true :: true :: true :: true :: true :: true :: true :: true :: true :: true :: true :: true :: true :: true :: true :: true :: true :: true :: true :: []), [false, false, false, false, false, false, false, false, false, false, false, false, true], [false, false, false, false, false, false, false, false, false, false, true, true]] rfl rfl) (dSb hD [(true :: true :: true :: true :: true :: true :: true :: true :: true :: true :: false :: false :: false :: true :: true :: true :: true :: true :: true :: true :: true :: true :: true :: true :: true :: true :: true :: true :: true :: true :: true :: true :: true :: true :: true :: true :: true :: true :: true :: true :: []), [false, false, false, false, false, false, false, false, false, false, false, false, true], [false, false, false, false, false, false, false, false, false, false, true, true]] (by decide +kernel) rfl rfl) hS (lv_sub hl [0, 1, 2, 3, 4, 5] rfl)
                  · exact absurd (Int32.not_lt.mp (nI_nn (by omega))) c_57
          exact lp_37 ((10 - 0) + 1) 0 tA 0 (Nat.lt_succ_self _) (Nat.zero_le _) hTI _ _ ls hP hD hS (lv_sub hl [0, 1, 2, 3, 4, 5] rfl)
        · refine lv_aload_n hx hb (g_42 bX6_ones rfl) rfl (lv_at hl 1 rfl) ?_
          refine lv_bipush (v := (-2)) hx hb dX6_ones_33 (by decide +kernel) ?_
          refine cVi (As := [.int (-2)]) (rest := []) (b := qm) (q := (RX6, TX6, 35)) ⟨hx, hb, hml, hown, hts⟩ (c_X6_refuse2 l G cy (H).size qm (.ref qmh) (.ref qmo) (.ref qmz) (.ref qmR) (.ref qmv) (.ref qmk) (.ref qma) (.ref qmt) (.int (nI kZ)) qmr tA qmB qmO qmK iEn iTk (ov uP) (ov uU) (.int (nI kAt)) (.int iTo) (.int iFr) (.long JFi) (.int iFa) (.ref qm3) (.int iSt) iLv iWs vLa (.ref qmu) (.ref qmy) (.ref qmb) (.ref qms) (.int iOm) fX_4) L_X6_91 hN hP hD hS hA [37, 39] (true :: true :: true :: true :: true :: true :: true :: true :: true :: true :: true :: true :: true :: true :: true :: true :: true :: true :: true :: true :: true :: true :: true :: true :: true :: true :: true :: true :: true :: true :: true :: true :: true :: true :: true :: true :: true :: false :: true :: false :: []) rfl (by decide +kernel) rfl 37 5 rfl rfl rfl ⟨Nat.le_of_ble_eq_true rfl, Nat.le_of_ble_eq_true rfl⟩ hl.1 (Nat.le_of_ble_eq_true rfl) (g_182 (v := 91) bX6_ones rfl) ⟨Nat.le_of_ble_eq_true rfl, Nat.le_of_ble_eq_true rfl⟩ (fun r_58 u_60 H locs h_59 => ?_)
          clear hP hD hS
          intro hP hD hS
          obtain ⟨fX_61, hu9, h_59⟩ := h_59
          have hPD := pd_eq (_ :: _ :: _ :: _ :: _ :: _ :: _ :: _ :: _ :: _ :: _ :: _ :: _ :: _ :: _ :: _ :: _ :: _ :: _ :: _ :: _ :: _ :: _ :: _ :: _ :: _ :: _ :: _ :: _ :: _ :: _ :: _ :: _ :: _ :: _ :: _ :: _ :: _ :: _ :: zzI cy qmr 8 fX_61 :: []) hP hD hu9 rfl
          clear hP hD hu9
          obtain ⟨hP, hD⟩ := hPD
          subst h_59
          exact endWs [(false :: false :: false :: false :: false :: false :: false :: false :: false :: false :: false :: false :: false :: false :: false :: false :: false :: false :: false :: false :: false :: false :: false :: false :: false :: false :: false :: false :: false :: false :: false :: false :: false :: false :: false :: false :: false :: false :: true :: []), (false :: false :: false :: false :: false :: false :: false :: false :: false :: false :: false :: false :: false :: false :: false :: false :: false :: false :: false :: false :: false :: false :: false :: false :: false :: false :: false :: false :: false :: false :: false :: false :: false :: false :: false :: false :: false :: true :: []), (true :: true :: true :: true :: true :: true :: true :: true :: true :: true :: true :: true :: true :: true :: true :: true :: true :: true :: true :: true :: true :: true :: true :: true :: true :: true :: true :: true :: true :: true :: true :: true :: true :: true :: true :: true :: true :: false :: false :: true :: [])] hx hb hr hlocks rfl hP hD rfl (by decide +kernel) hS ⟨tA, fX_61, rfl, hTI, trivial⟩ (g_172 bX6_ones rfl)
set_option maxHeartbeats 4000000 in
set_option maxRecDepth 100000 in
theorem p_X6_feed (l : Launch) (G : va_G) (cy : Nat → ClassId) (sz : Nat) (qm : Nat) (qmh : Nat) (qmo : Nat) (qmz : Nat) (qmR : Nat) (qmv : Nat) (qmk : Nat) (qma : Nat) (qmt : Nat) (kZ : Nat) (qmr : Nat) (tA : TA) (qmB : Nat) (qmO : Nat) (qmK : Nat) (iEn : Int32) (iTk : Int32) (uP : UM) (uU : UM) (kAt : Nat) (iTo : Int32) (iFr : Int32) (JFi : Int64) (iFa : Int32) (qm3 : Nat) (iSt : Int32) (iLv : Int32) (iWs : Int32) (vLa : Value) (qmu : Nat) (qmy : Nat) (qmb : Nat) (qms : Nat) (iOm : Int32) (fMt : Nat → Int32) (fMr : Nat → Int32) (iA : Int32) (iB : Int32)  (hZ : kZ ≤ 250) : MW l yX6_feed cX6_feed 4 (some .int) 16 0 0 G cy [zzO qm 5 (.ref qmh :: .ref qmo :: .ref qmz :: .ref qmR :: .ref qmv :: .ref qmk :: .ref qma :: .ref qmt :: .int (nI kZ) :: .ref qmr :: .int (nI (T_nb tA)) :: .ref qmB :: .int (nI (T_np tA)) :: .ref qmO :: .ref qmK :: .int iEn :: .int iTk :: .int (T_sd tA) :: ov uP :: ov uU :: .int (nI kAt) :: .int iTo :: .int iFr :: .long JFi :: .int iFa :: .ref qm3 :: .int iSt :: .int iLv :: .int iWs :: vLa :: .ref qmu :: .ref qmy :: .ref qmb :: .ref qms :: .int iOm :: []), zzI cy qmt 250 fMt, zzI cy qmr 8 fMr] sz [.ref qm, .int iA, .int iB] (Wi G (fun r u => ∃ (kNz : Nat) (fNt : Nat → Int32) (fNr : Nat → Int32), u = [zzO qm 5 (.ref qmh :: .ref qmo :: .ref qmz :: .ref qmR :: .ref qmv :: .ref qmk :: .ref qma :: .ref qmt :: .int (nI kNz) :: .ref qmr :: .int (nI (T_nb tA)) :: .ref qmB :: .int (nI (T_np tA)) :: .ref qmO :: .ref qmK :: .int iEn :: .int iTk :: .int (T_sd tA) :: ov uP :: ov uU :: .int (nI kAt) :: .int iTo :: .int iFr :: .long JFi :: .int iFa :: .ref qm3 :: .int iSt :: .int iLv :: .int iWs :: vLa :: .ref qmu :: .ref qmy :: .ref qmb :: .ref qms :: .int iOm :: []), zzI cy qmt 250 fNt, zzI cy qmr 8 fNr] ∧ (PXfeed kZ iB r kNz) ∧ (True))) := by
  refine enW RX6 (by decide +kernel) rfl (Nat.le_of_ble_eq_true rfl) (fun p e s m below meth c ls A hx hb hml hown hts hr hlocks hP hN hl hin hD hA hS => ?_)
  have hin : meth.name = _ := hin
  have hK := hN.1
  replace hl : lv_has ls 4 [(0, .ref qm), (1, .int iA), (2, .int iB)] := hl
  refine lv_iload_n hx hb (g_28 bX6_feed rfl) rfl (lv_at hl 2 rfl) ?_
  refine lv_i2l (v := iB.toInt64) hx hb (g_133 bX6_feed rfl) rfl ?_
  refine lv_lconst (v := 1) hx hb (g_10 bX6_feed rfl) (by decide +kernel) ?_
  refine lv_ldc2 hx hb hown (hts _ m_t964) (g_20 (v := 87) bX6_feed rfl) ?_
  refine kRi (rS (As := [.long iB.toInt64, .long 1, .long 4]) (rest := []) ⟨hx, hb, hml, hown, hts⟩ (c_X6_in l G cy iB.toInt64 1 4) L_X6_74 (preRS hN hP [] rfl) rfl ⟨Nat.le_of_ble_eq_true rfl, Nat.le_of_ble_eq_true rfl⟩ hl.1 (Nat.le_of_ble_eq_true rfl) (g_184 (v := 74) bX6_feed rfl) ⟨Nat.le_of_ble_eq_true rfl, Nat.le_of_ble_eq_true rfl⟩) (fun r_1 h_2 => ?_)
  rcases h_2 with ⟨rfl, h_3⟩ | ⟨rfl, h_3⟩
  · refine lv_if_ne (tgt := 19) hx hb dX6_feed_9 (by decide +kernel) (fun _ => ?_) (fun h9 => absurd h9 (by decide +kernel))
    rcases in14 h_3 with rfl | rfl | rfl | rfl
    · refine lv_iload_n hx hb (g_28 bX6_feed rfl) rfl (lv_at hl 2 rfl) ?_
      refine lv_sipush (v := 250) hx hb dX6_feed_20 (by decide +kernel) ?_
      refine lv_aload_n hx hb (g_42 bX6_feed rfl) rfl (lv_at hl 0 rfl) ?_
      refine va_get (D := G) (ci := 5) (v := .int (nI kZ)) (C := RX6) (T := TX6) (N := 35) hx hb hts iX_X6 hown hK hP 0 rfl rfl 8 (by decide +kernel) (hts _ m_t858) (fun _ h9 => h9) rfl (g_180 (v := 141) bX6_feed rfl) ?_
      refine lv_isub hx hb (g_100 bX6_feed rfl) ?_
      refine lv_icmp_le (tgt := 38) hx hb dX6_feed_28 (by decide +kernel) (fun c_5 => ?_) (fun c_5 => ?_)
      · have hfd : kZ + 1 ≤ 250 := fm_yes (k := 1) (by omega) (by omega) c_5
        refine lv_iload_n hx hb (g_28 bX6_feed rfl) rfl (lv_at hl 2 rfl) ?_
        refine lv_iconst (v := 1) hx hb (g_4 bX6_feed rfl) (by decide +kernel) ?_
        refine lv_isub hx hb (g_100 bX6_feed rfl) ?_
        refine lv_seti (v := 0) (by decide +kernel) ?_
        refine lv_istore_n (lv' := [(3, .int 0), (0, .ref qm), (1, .int iA), (2, .int 1)]) hx hb (g_62 bX6_feed rfl) rfl hl (by decide +kernel) rfl (fun ls => ?_)
        clear hl
        intro hl
        refine lv_iload_n hx hb (g_29 bX6_feed rfl) rfl (lv_at hl 0 rfl) ?_
        refine lv_if_lt (tgt := 78) hx hb dX6_feed_43 (by decide +kernel) (fun h9 => absurd h9 (by decide +kernel)) (fun _ => ?_)
        refine lv_aload_n hx hb (g_42 bX6_feed rfl) rfl (lv_at hl 1 rfl) ?_
        refine va_get (D := G) (ci := 5) (v := .ref qmt) (C := RX6) (T := TX6) (N := 35) hx hb hts iX_X6 hown hK hP 0 rfl rfl 7 (by decide +kernel) (hts _ m_t857) (fun _ h9 => h9) rfl (g_180 (v := 34) bX6_feed rfl) ?_
        refine lv_aload_n hx hb (g_42 bX6_feed rfl) rfl (lv_at hl 1 rfl) ?_
        refine lv_dup hx hb (g_89 bX6_feed rfl) rfl ?_
        refine va_get (D := G) (ci := 5) (v := .int (nI kZ)) (C := RX6) (T := TX6) (N := 35) hx hb hts iX_X6 hown hK hP 0 rfl rfl 8 (by decide +kernel) (hts _ m_t858) (fun _ h9 => h9) rfl (g_180 (v := 141) bX6_feed rfl) ?_
        refine lv_dup_x1 hx hb (g_90 bX6_feed rfl) rfl rfl ?_
        refine lv_iconst (v := 1) hx hb (g_4 bX6_feed rfl) (by decide +kernel) ?_
        refine lv_iadd hx hb (g_96 bX6_feed rfl) ?_
        refine lv_seti (v := nI (kZ + 1)) (nI_1 _) ?_
        refine va_put (D := G) (ci := 5) (v := .int (nI (kZ + 1))) (ty := .int) (C := RX6) (T := TX6) (N := 35) hx hb hts iX_X6 tyX6 tyX6_ok nmX6 hown hK hP hD hS 0 rfl rfl 8 (by decide +kernel) (hts _ m_t858) (fun _ h9 => h9) rfl (by decide +kernel) rfl rfl (Nat.le_of_ble_eq_true rfl) (g_181 (v := 141) bX6_feed rfl) (fun H locs => ?_)
        clear hP hD hS
        intro hP hD hS
        have hPD := pd_as [zzO qm 5 (.ref qmh :: .ref qmo :: .ref qmz :: .ref qmR :: .ref qmv :: .ref qmk :: .ref qma :: .ref qmt :: .int (nI (kZ + 1)) :: .ref qmr :: .int (nI (T_nb tA)) :: .ref qmB :: .int (nI (T_np tA)) :: .ref qmO :: .ref qmK :: .int iEn :: .int iTk :: .int (T_sd tA) :: ov uP :: ov uU :: .int (nI kAt) :: .int iTo :: .int iFr :: .long JFi :: .int iFa :: .ref qm3 :: .int iSt :: .int iLv :: .int iWs :: vLa :: .ref qmu :: .ref qmy :: .ref qmb :: .ref qms :: .int iOm :: []), _, _] hP hD rfl
        clear hP hD
        obtain ⟨hP, hD⟩ := hPD
        refine lv_iload_n hx hb (g_27 bX6_feed rfl) rfl (lv_at hl 2 rfl) ?_
        refine lv_bipush (v := 8) hx hb dX6_feed_62 (by decide +kernel) ?_
        refine lv_iload_n hx hb (g_29 bX6_feed rfl) rfl (lv_at hl 0 rfl) ?_
        refine lv_imul hx hb (g_104 bX6_feed rfl) ?_
        refine lv_seti (v := 0) (by decide +kernel) ?_
        refine lv_ishr hx hb (g_122 bX6_feed rfl) ?_
        refine lv_sipush (v := 255) hx hb dX6_feed_67 (by decide +kernel) ?_
        refine lv_iand hx hb (g_126 bX6_feed rfl) ?_
        refine va_iast hx hb hK hP hD hS 1 0 rfl rfl (vp_in_nI (by omega) (by omega)) (g_79 bX6_feed rfl) (fun H locs => ?_)
        clear hP hD hS
        intro hP hD hS
        rw [nI_clamp (n := kZ) (by omega)] at hP hD
        have hPD := pd_as [_, zzI cy qmt 250 (upd fMt kZ ((iA >>> (0 &&& 31)) &&& 255)), _] hP hD rfl
        clear hP hD
        obtain ⟨hP, hD⟩ := hPD
        refine lv_iinc (v := (-1)) (lv' := [(3, .int (-1)), (0, .ref qm), (1, .int iA), (2, .int 1)]) hx hb dX6_feed_72 hl (k := 0) rfl (by decide +kernel) (by decide +kernel) rfl (fun ls => ?_)
        clear hl
        intro hl
        refine lv_goto (tgt := 42) hx hb dX6_feed_75 (by decide +kernel) ?_
        refine lv_iload_n hx hb (g_29 bX6_feed rfl) rfl (lv_at hl 0 rfl) ?_
        refine lv_if_lt (tgt := 78) hx hb dX6_feed_43 (by decide +kernel) (fun _ => ?_) (fun h9 => absurd (by decide +kernel) h9)
        refine lv_aload_n hx hb (g_42 bX6_feed rfl) rfl (lv_at hl 1 rfl) ?_
        refine va_get (D := G) (ci := 5) (v := .int (nI (kZ + 1))) (C := RX6) (T := TX6) (N := 35) hx hb hts iX_X6 hown hK hP 0 rfl rfl 8 (by decide +kernel) (hts _ m_t858) (fun _ h9 => h9) rfl (g_180 (v := 141) bX6_feed rfl) ?_
        exact endWs [[true, true, true]] hx hb hr hlocks rfl hP hD rfl (by decide +kernel) hS ⟨(kZ + 1), (upd fMt kZ ((iA >>> (0 &&& 31)) &&& 255)), fMr, rfl, Or.inr ⟨1, by omega, by omega, rfl, Or.inr ⟨rfl, fm_yes (k := 1) (by omega) (by omega) c_5, rfl⟩⟩, trivial⟩ (g_172 bX6_feed rfl)
      · refine lv_aload_n hx hb (g_42 bX6_feed rfl) rfl (lv_at hl 0 rfl) ?_
        refine lv_bipush (v := (-6)) hx hb dX6_feed_32 (by decide +kernel) ?_
        refine cVi (As := [.int (-6)]) (rest := []) (b := qm) (q := (RX6, TX6, 35)) ⟨hx, hb, hml, hown, hts⟩ (c_X6_refuse6 l G cy (s.heap).size qm (.ref qmh) (.ref qmo) (.ref qmz) (.ref qmR) (.ref qmv) (.ref qmk) (.ref qma) (.ref qmt) (.int (nI kZ)) qmr tA qmB qmO qmK iEn iTk (ov uP) (ov uU) (.int (nI kAt)) (.int iTo) (.int iFr) (.long JFi) (.int iFa) (.ref qm3) (.int iSt) iLv iWs vLa (.ref qmu) (.ref qmy) (.ref qmb) (.ref qms) (.int iOm) fMr) L_X6_91 hN hP hD hS hA [0, 2] [false, true, false] rfl (by decide +kernel) rfl 0 5 rfl rfl rfl ⟨Nat.le_of_ble_eq_true rfl, Nat.le_of_ble_eq_true rfl⟩ hl.1 (Nat.le_of_ble_eq_true rfl) (g_182 (v := 91) bX6_feed rfl) ⟨Nat.le_of_ble_eq_true rfl, Nat.le_of_ble_eq_true rfl⟩ (fun r_8 u_10 H locs h_9 => ?_)
        clear hP hD hS
        intro hP hD hS
        obtain ⟨fX_11, hu9, h_9⟩ := h_9
        have hPD := pd_eq [_, _, zzI cy qmr 8 fX_11] hP hD hu9 rfl
        clear hP hD hu9
        obtain ⟨hP, hD⟩ := hPD
        subst h_9
        exact endWs [[false, true], [true, false, true]] hx hb hr hlocks rfl hP hD rfl (by decide +kernel) hS ⟨kZ, fMt, fX_11, rfl, Or.inr ⟨1, by omega, by omega, rfl, Or.inl ⟨rfl, fm_no (k := 1) (by omega) (by omega) c_5, rfl⟩⟩, trivial⟩ (g_172 bX6_feed rfl)
    · refine lv_iload_n hx hb (g_28 bX6_feed rfl) rfl (lv_at hl 2 rfl) ?_
      refine lv_sipush (v := 250) hx hb dX6_feed_20 (by decide +kernel) ?_
      refine lv_aload_n hx hb (g_42 bX6_feed rfl) rfl (lv_at hl 0 rfl) ?_
      refine va_get (D := G) (ci := 5) (v := .int (nI kZ)) (C := RX6) (T := TX6) (N := 35) hx hb hts iX_X6 hown hK hP 0 rfl rfl 8 (by decide +kernel) (hts _ m_t858) (fun _ h9 => h9) rfl (g_180 (v := 141) bX6_feed rfl) ?_
      refine lv_isub hx hb (g_100 bX6_feed rfl) ?_
      refine lv_icmp_le (tgt := 38) hx hb dX6_feed_28 (by decide +kernel) (fun c_12 => ?_) (fun c_12 => ?_)
      · have hfd : kZ + 2 ≤ 250 := fm_yes (k := 2) (by omega) (by omega) c_12
        refine lv_iload_n hx hb (g_28 bX6_feed rfl) rfl (lv_at hl 2 rfl) ?_
        refine lv_iconst (v := 1) hx hb (g_4 bX6_feed rfl) (by decide +kernel) ?_
        refine lv_isub hx hb (g_100 bX6_feed rfl) ?_
        refine lv_seti (v := 1) (by decide +kernel) ?_
        refine lv_istore_n (lv' := [(3, .int 1), (0, .ref qm), (1, .int iA), (2, .int 2)]) hx hb (g_62 bX6_feed rfl) rfl hl (by decide +kernel) rfl (fun ls => ?_)
        clear hl
        intro hl
        refine lv_iload_n hx hb (g_29 bX6_feed rfl) rfl (lv_at hl 0 rfl) ?_
        refine lv_if_lt (tgt := 78) hx hb dX6_feed_43 (by decide +kernel) (fun h9 => absurd h9 (by decide +kernel)) (fun _ => ?_)
        refine lv_aload_n hx hb (g_42 bX6_feed rfl) rfl (lv_at hl 1 rfl) ?_
        refine va_get (D := G) (ci := 5) (v := .ref qmt) (C := RX6) (T := TX6) (N := 35) hx hb hts iX_X6 hown hK hP 0 rfl rfl 7 (by decide +kernel) (hts _ m_t857) (fun _ h9 => h9) rfl (g_180 (v := 34) bX6_feed rfl) ?_
        refine lv_aload_n hx hb (g_42 bX6_feed rfl) rfl (lv_at hl 1 rfl) ?_
        refine lv_dup hx hb (g_89 bX6_feed rfl) rfl ?_
        refine va_get (D := G) (ci := 5) (v := .int (nI kZ)) (C := RX6) (T := TX6) (N := 35) hx hb hts iX_X6 hown hK hP 0 rfl rfl 8 (by decide +kernel) (hts _ m_t858) (fun _ h9 => h9) rfl (g_180 (v := 141) bX6_feed rfl) ?_
        refine lv_dup_x1 hx hb (g_90 bX6_feed rfl) rfl rfl ?_
        refine lv_iconst (v := 1) hx hb (g_4 bX6_feed rfl) (by decide +kernel) ?_
        refine lv_iadd hx hb (g_96 bX6_feed rfl) ?_
        refine lv_seti (v := nI (kZ + 1)) (nI_1 _) ?_
        refine va_put (D := G) (ci := 5) (v := .int (nI (kZ + 1))) (ty := .int) (C := RX6) (T := TX6) (N := 35) hx hb hts iX_X6 tyX6 tyX6_ok nmX6 hown hK hP hD hS 0 rfl rfl 8 (by decide +kernel) (hts _ m_t858) (fun _ h9 => h9) rfl (by decide +kernel) rfl rfl (Nat.le_of_ble_eq_true rfl) (g_181 (v := 141) bX6_feed rfl) (fun H locs => ?_)
        clear hP hD hS
        intro hP hD hS
        have hPD := pd_as [_, _, _] hP hD rfl
        clear hP hD
        obtain ⟨hP, hD⟩ := hPD
        refine lv_iload_n hx hb (g_27 bX6_feed rfl) rfl (lv_at hl 2 rfl) ?_
        refine lv_bipush (v := 8) hx hb dX6_feed_62 (by decide +kernel) ?_
        refine lv_iload_n hx hb (g_29 bX6_feed rfl) rfl (lv_at hl 0 rfl) ?_
        refine lv_imul hx hb (g_104 bX6_feed rfl) ?_
        refine lv_seti (v := 8) (by decide +kernel) ?_
        refine lv_ishr hx hb (g_122 bX6_feed rfl) ?_
        refine lv_sipush (v := 255) hx hb dX6_feed_67 (by decide +kernel) ?_
        refine lv_iand hx hb (g_126 bX6_feed rfl) ?_
        refine va_iast hx hb hK hP hD hS 1 0 rfl rfl (vp_in_nI (by omega) (by omega)) (g_79 bX6_feed rfl) (fun H locs => ?_)
        clear hP hD hS
        intro hP hD hS
        rw [nI_clamp (n := kZ) (by omega)] at hP hD
        have hPD := pd_as [_, zzI cy qmt 250 (upd fMt kZ ((iA >>> (8 &&& 31)) &&& 255)), _] hP hD rfl
        clear hP hD
        obtain ⟨hP, hD⟩ := hPD
        refine lv_iinc (v := 0) (lv' := [(3, .int 0), (0, .ref qm), (1, .int iA), (2, .int 2)]) hx hb dX6_feed_72 hl (k := 0) rfl (by decide +kernel) (by decide +kernel) rfl (fun ls => ?_)
        clear hl
        intro hl
        refine lv_goto (tgt := 42) hx hb dX6_feed_75 (by decide +kernel) ?_
        refine lv_iload_n hx hb (g_29 bX6_feed rfl) rfl (lv_at hl 0 rfl) ?_
        refine lv_if_lt (tgt := 78) hx hb dX6_feed_43 (by decide +kernel) (fun h9 => absurd h9 (by decide +kernel)) (fun _ => ?_)
        refine lv_aload_n hx hb (g_42 bX6_feed rfl) rfl (lv_at hl 1 rfl) ?_
        refine va_get (D := G) (ci := 5) (v := .ref qmt) (C := RX6) (T := TX6) (N := 35) hx hb hts iX_X6 hown hK hP 0 rfl rfl 7 (by decide +kernel) (hts _ m_t857) (fun _ h9 => h9) rfl (g_180 (v := 34) bX6_feed rfl) ?_
        refine lv_aload_n hx hb (g_42 bX6_feed rfl) rfl (lv_at hl 1 rfl) ?_
        refine lv_dup hx hb (g_89 bX6_feed rfl) rfl ?_
        refine va_get (D := G) (ci := 5) (v := .int (nI (kZ + 1))) (C := RX6) (T := TX6) (N := 35) hx hb hts iX_X6 hown hK hP 0 rfl rfl 8 (by decide +kernel) (hts _ m_t858) (fun _ h9 => h9) rfl (g_180 (v := 141) bX6_feed rfl) ?_
        refine lv_dup_x1 hx hb (g_90 bX6_feed rfl) rfl rfl ?_
        refine lv_iconst (v := 1) hx hb (g_4 bX6_feed rfl) (by decide +kernel) ?_
        refine lv_iadd hx hb (g_96 bX6_feed rfl) ?_
        refine lv_seti (v := nI ((kZ + 1) + 1)) (nI_1 _) ?_
        refine va_put (D := G) (ci := 5) (v := .int (nI ((kZ + 1) + 1))) (ty := .int) (C := RX6) (T := TX6) (N := 35) hx hb hts iX_X6 tyX6 tyX6_ok nmX6 hown hK hP hD hS 0 rfl rfl 8 (by decide +kernel) (hts _ m_t858) (fun _ h9 => h9) rfl (by decide +kernel) rfl rfl (Nat.le_of_ble_eq_true rfl) (g_181 (v := 141) bX6_feed rfl) (fun H locs => ?_)
        clear hP hD hS
        intro hP hD hS
        have hPD := pd_as [zzO qm 5 (.ref qmh :: .ref qmo :: .ref qmz :: .ref qmR :: .ref qmv :: .ref qmk :: .ref qma :: .ref qmt :: .int (nI ((kZ + 1) + 1)) :: .ref qmr :: .int (nI (T_nb tA)) :: .ref qmB :: .int (nI (T_np tA)) :: .ref qmO :: .ref qmK :: .int iEn :: .int iTk :: .int (T_sd tA) :: ov uP :: ov uU :: .int (nI kAt) :: .int iTo :: .int iFr :: .long JFi :: .int iFa :: .ref qm3 :: .int iSt :: .int iLv :: .int iWs :: vLa :: .ref qmu :: .ref qmy :: .ref qmb :: .ref qms :: .int iOm :: []), _, _] hP hD rfl
        clear hP hD
        obtain ⟨hP, hD⟩ := hPD
        refine lv_iload_n hx hb (g_27 bX6_feed rfl) rfl (lv_at hl 2 rfl) ?_
        refine lv_bipush (v := 8) hx hb dX6_feed_62 (by decide +kernel) ?_
        refine lv_iload_n hx hb (g_29 bX6_feed rfl) rfl (lv_at hl 0 rfl) ?_
        refine lv_imul hx hb (g_104 bX6_feed rfl) ?_
        refine lv_seti (v := 0) (by decide +kernel) ?_
        refine lv_ishr hx hb (g_122 bX6_feed rfl) ?_
        refine lv_sipush (v := 255) hx hb dX6_feed_67 (by decide +kernel) ?_
        refine lv_iand hx hb (g_126 bX6_feed rfl) ?_
        refine va_iast hx hb hK hP hD hS 1 0 rfl rfl (vp_in_nI (by omega) (by omega)) (g_79 bX6_feed rfl) (fun H locs => ?_)
        clear hP hD hS
        intro hP hD hS
        rw [nI_clamp (n := (kZ + 1)) (by omega)] at hP hD
        have hPD := pd_as [_, zzI cy qmt 250 (upd (upd fMt kZ ((iA >>> (8 &&& 31)) &&& 255)) (kZ + 1) ((iA >>> (0 &&& 31)) &&& 255)), _] hP hD rfl
        clear hP hD
        obtain ⟨hP, hD⟩ := hPD
        refine lv_iinc (v := (-1)) (lv' := [(3, .int (-1)), (0, .ref qm), (1, .int iA), (2, .int 2)]) hx hb dX6_feed_72 hl (k := 0) rfl (by decide +kernel) (by decide +kernel) rfl (fun ls => ?_)
        clear hl
        intro hl
        refine lv_goto (tgt := 42) hx hb dX6_feed_75 (by decide +kernel) ?_
        refine lv_iload_n hx hb (g_29 bX6_feed rfl) rfl (lv_at hl 0 rfl) ?_
        refine lv_if_lt (tgt := 78) hx hb dX6_feed_43 (by decide +kernel) (fun _ => ?_) (fun h9 => absurd (by decide +kernel) h9)
        refine lv_aload_n hx hb (g_42 bX6_feed rfl) rfl (lv_at hl 1 rfl) ?_
        refine va_get (D := G) (ci := 5) (v := .int (nI ((kZ + 1) + 1))) (C := RX6) (T := TX6) (N := 35) hx hb hts iX_X6 hown hK hP 0 rfl rfl 8 (by decide +kernel) (hts _ m_t858) (fun _ h9 => h9) rfl (g_180 (v := 141) bX6_feed rfl) ?_
        exact endWs [[true, true, true]] hx hb hr hlocks rfl hP hD rfl (by decide +kernel) hS ⟨((kZ + 1) + 1), (upd (upd fMt kZ ((iA >>> (8 &&& 31)) &&& 255)) (kZ + 1) ((iA >>> (0 &&& 31)) &&& 255)), fMr, rfl, Or.inr ⟨2, by omega, by omega, rfl, Or.inr ⟨rfl, fm_yes (k := 2) (by omega) (by omega) c_12, rfl⟩⟩, trivial⟩ (g_172 bX6_feed rfl)
      · refine lv_aload_n hx hb (g_42 bX6_feed rfl) rfl (lv_at hl 0 rfl) ?_
        refine lv_bipush (v := (-6)) hx hb dX6_feed_32 (by decide +kernel) ?_
        refine cVi (As := [.int (-6)]) (rest := []) (b := qm) (q := (RX6, TX6, 35)) ⟨hx, hb, hml, hown, hts⟩ (c_X6_refuse6 l G cy (s.heap).size qm (.ref qmh) (.ref qmo) (.ref qmz) (.ref qmR) (.ref qmv) (.ref qmk) (.ref qma) (.ref qmt) (.int (nI kZ)) qmr tA qmB qmO qmK iEn iTk (ov uP) (ov uU) (.int (nI kAt)) (.int iTo) (.int iFr) (.long JFi) (.int iFa) (.ref qm3) (.int iSt) iLv iWs vLa (.ref qmu) (.ref qmy) (.ref qmb) (.ref qms) (.int iOm) fMr) L_X6_91 hN hP hD hS hA [0, 2] [false, true, false] rfl (by decide +kernel) rfl 0 5 rfl rfl rfl ⟨Nat.le_of_ble_eq_true rfl, Nat.le_of_ble_eq_true rfl⟩ hl.1 (Nat.le_of_ble_eq_true rfl) (g_182 (v := 91) bX6_feed rfl) ⟨Nat.le_of_ble_eq_true rfl, Nat.le_of_ble_eq_true rfl⟩ (fun r_16 u_18 H locs h_17 => ?_)
        clear hP hD hS
        intro hP hD hS
        obtain ⟨fX_19, hu9, h_17⟩ := h_17
        have hPD := pd_eq [_, _, zzI cy qmr 8 fX_19] hP hD hu9 rfl
        clear hP hD hu9
        obtain ⟨hP, hD⟩ := hPD
        subst h_17
        exact endWs [[false, true], [true, false, true]] hx hb hr hlocks rfl hP hD rfl (by decide +kernel) hS ⟨kZ, fMt, fX_19, rfl, Or.inr ⟨2, by omega, by omega, rfl, Or.inl ⟨rfl, fm_no (k := 2) (by omega) (by omega) c_12, rfl⟩⟩, trivial⟩ (g_172 bX6_feed rfl)
    · refine lv_iload_n hx hb (g_28 bX6_feed rfl) rfl (lv_at hl 2 rfl) ?_
      refine lv_sipush (v := 250) hx hb dX6_feed_20 (by decide +kernel) ?_
      refine lv_aload_n hx hb (g_42 bX6_feed rfl) rfl (lv_at hl 0 rfl) ?_
      refine va_get (D := G) (ci := 5) (v := .int (nI kZ)) (C := RX6) (T := TX6) (N := 35) hx hb hts iX_X6 hown hK hP 0 rfl rfl 8 (by decide +kernel) (hts _ m_t858) (fun _ h9 => h9) rfl (g_180 (v := 141) bX6_feed rfl) ?_
      refine lv_isub hx hb (g_100 bX6_feed rfl) ?_
      refine lv_icmp_le (tgt := 38) hx hb dX6_feed_28 (by decide +kernel) (fun c_20 => ?_) (fun c_20 => ?_)
      · have hfd : kZ + 3 ≤ 250 := fm_yes (k := 3) (by omega) (by omega) c_20
        refine lv_iload_n hx hb (g_28 bX6_feed rfl) rfl (lv_at hl 2 rfl) ?_
        refine lv_iconst (v := 1) hx hb (g_4 bX6_feed rfl) (by decide +kernel) ?_
        refine lv_isub hx hb (g_100 bX6_feed rfl) ?_
        refine lv_seti (v := 2) (by decide +kernel) ?_
        refine lv_istore_n (lv' := [(3, .int 2), (0, .ref qm), (1, .int iA), (2, .int 3)]) hx hb (g_62 bX6_feed rfl) rfl hl (by decide +kernel) rfl (fun ls => ?_)
        clear hl
        intro hl
        refine lv_iload_n hx hb (g_29 bX6_feed rfl) rfl (lv_at hl 0 rfl) ?_
        refine lv_if_lt (tgt := 78) hx hb dX6_feed_43 (by decide +kernel) (fun h9 => absurd h9 (by decide +kernel)) (fun _ => ?_)
        refine lv_aload_n hx hb (g_42 bX6_feed rfl) rfl (lv_at hl 1 rfl) ?_
        refine va_get (D := G) (ci := 5) (v := .ref qmt) (C := RX6) (T := TX6) (N := 35) hx hb hts iX_X6 hown hK hP 0 rfl rfl 7 (by decide +kernel) (hts _ m_t857) (fun _ h9 => h9) rfl (g_180 (v := 34) bX6_feed rfl) ?_
        refine lv_aload_n hx hb (g_42 bX6_feed rfl) rfl (lv_at hl 1 rfl) ?_
        refine lv_dup hx hb (g_89 bX6_feed rfl) rfl ?_
        refine va_get (D := G) (ci := 5) (v := .int (nI kZ)) (C := RX6) (T := TX6) (N := 35) hx hb hts iX_X6 hown hK hP 0 rfl rfl 8 (by decide +kernel) (hts _ m_t858) (fun _ h9 => h9) rfl (g_180 (v := 141) bX6_feed rfl) ?_
        refine lv_dup_x1 hx hb (g_90 bX6_feed rfl) rfl rfl ?_
        refine lv_iconst (v := 1) hx hb (g_4 bX6_feed rfl) (by decide +kernel) ?_
        refine lv_iadd hx hb (g_96 bX6_feed rfl) ?_
        refine lv_seti (v := nI (kZ + 1)) (nI_1 _) ?_
        refine va_put (D := G) (ci := 5) (v := .int (nI (kZ + 1))) (ty := .int) (C := RX6) (T := TX6) (N := 35) hx hb hts iX_X6 tyX6 tyX6_ok nmX6 hown hK hP hD hS 0 rfl rfl 8 (by decide +kernel) (hts _ m_t858) (fun _ h9 => h9) rfl (by decide +kernel) rfl rfl (Nat.le_of_ble_eq_true rfl) (g_181 (v := 141) bX6_feed rfl) (fun H locs => ?_)
        clear hP hD hS
        intro hP hD hS
        have hPD := pd_as [_, _, _] hP hD rfl
        clear hP hD
        obtain ⟨hP, hD⟩ := hPD
        refine lv_iload_n hx hb (g_27 bX6_feed rfl) rfl (lv_at hl 2 rfl) ?_
        refine lv_bipush (v := 8) hx hb dX6_feed_62 (by decide +kernel) ?_
        refine lv_iload_n hx hb (g_29 bX6_feed rfl) rfl (lv_at hl 0 rfl) ?_
        refine lv_imul hx hb (g_104 bX6_feed rfl) ?_
        refine lv_seti (v := 16) (by decide +kernel) ?_
        refine lv_ishr hx hb (g_122 bX6_feed rfl) ?_
        refine lv_sipush (v := 255) hx hb dX6_feed_67 (by decide +kernel) ?_
        refine lv_iand hx hb (g_126 bX6_feed rfl) ?_
        refine va_iast hx hb hK hP hD hS 1 0 rfl rfl (vp_in_nI (by omega) (by omega)) (g_79 bX6_feed rfl) (fun H locs => ?_)
        clear hP hD hS
        intro hP hD hS
        rw [nI_clamp (n := kZ) (by omega)] at hP hD
        have hPD := pd_as [_, zzI cy qmt 250 (upd fMt kZ ((iA >>> (16 &&& 31)) &&& 255)), _] hP hD rfl
        clear hP hD
        obtain ⟨hP, hD⟩ := hPD
        refine lv_iinc (v := 1) (lv' := [(3, .int 1), (0, .ref qm), (1, .int iA), (2, .int 3)]) hx hb dX6_feed_72 hl (k := 0) rfl (by decide +kernel) (by decide +kernel) rfl (fun ls => ?_)
        clear hl
        intro hl
        refine lv_goto (tgt := 42) hx hb dX6_feed_75 (by decide +kernel) ?_
        refine lv_iload_n hx hb (g_29 bX6_feed rfl) rfl (lv_at hl 0 rfl) ?_
        refine lv_if_lt (tgt := 78) hx hb dX6_feed_43 (by decide +kernel) (fun h9 => absurd h9 (by decide +kernel)) (fun _ => ?_)
        refine lv_aload_n hx hb (g_42 bX6_feed rfl) rfl (lv_at hl 1 rfl) ?_
        refine va_get (D := G) (ci := 5) (v := .ref qmt) (C := RX6) (T := TX6) (N := 35) hx hb hts iX_X6 hown hK hP 0 rfl rfl 7 (by decide +kernel) (hts _ m_t857) (fun _ h9 => h9) rfl (g_180 (v := 34) bX6_feed rfl) ?_
        refine lv_aload_n hx hb (g_42 bX6_feed rfl) rfl (lv_at hl 1 rfl) ?_
        refine lv_dup hx hb (g_89 bX6_feed rfl) rfl ?_
        refine va_get (D := G) (ci := 5) (v := .int (nI (kZ + 1))) (C := RX6) (T := TX6) (N := 35) hx hb hts iX_X6 hown hK hP 0 rfl rfl 8 (by decide +kernel) (hts _ m_t858) (fun _ h9 => h9) rfl (g_180 (v := 141) bX6_feed rfl) ?_
        refine lv_dup_x1 hx hb (g_90 bX6_feed rfl) rfl rfl ?_
        refine lv_iconst (v := 1) hx hb (g_4 bX6_feed rfl) (by decide +kernel) ?_
        refine lv_iadd hx hb (g_96 bX6_feed rfl) ?_
        refine lv_seti (v := nI ((kZ + 1) + 1)) (nI_1 _) ?_
        refine va_put (D := G) (ci := 5) (v := .int (nI ((kZ + 1) + 1))) (ty := .int) (C := RX6) (T := TX6) (N := 35) hx hb hts iX_X6 tyX6 tyX6_ok nmX6 hown hK hP hD hS 0 rfl rfl 8 (by decide +kernel) (hts _ m_t858) (fun _ h9 => h9) rfl (by decide +kernel) rfl rfl (Nat.le_of_ble_eq_true rfl) (g_181 (v := 141) bX6_feed rfl) (fun H locs => ?_)
        clear hP hD hS
        intro hP hD hS
        have hPD := pd_as [_, _, _] hP hD rfl
        clear hP hD
        obtain ⟨hP, hD⟩ := hPD
        refine lv_iload_n hx hb (g_27 bX6_feed rfl) rfl (lv_at hl 2 rfl) ?_
        refine lv_bipush (v := 8) hx hb dX6_feed_62 (by decide +kernel) ?_
        refine lv_iload_n hx hb (g_29 bX6_feed rfl) rfl (lv_at hl 0 rfl) ?_
        refine lv_imul hx hb (g_104 bX6_feed rfl) ?_
        refine lv_seti (v := 8) (by decide +kernel) ?_
        refine lv_ishr hx hb (g_122 bX6_feed rfl) ?_
        refine lv_sipush (v := 255) hx hb dX6_feed_67 (by decide +kernel) ?_
        refine lv_iand hx hb (g_126 bX6_feed rfl) ?_
        refine va_iast hx hb hK hP hD hS 1 0 rfl rfl (vp_in_nI (by omega) (by omega)) (g_79 bX6_feed rfl) (fun H locs => ?_)
        clear hP hD hS
        intro hP hD hS
        rw [nI_clamp (n := (kZ + 1)) (by omega)] at hP hD
        have hPD := pd_as [_, zzI cy qmt 250 (upd (upd fMt kZ ((iA >>> (16 &&& 31)) &&& 255)) (kZ + 1) ((iA >>> (8 &&& 31)) &&& 255)), _] hP hD rfl
        clear hP hD
        obtain ⟨hP, hD⟩ := hPD
        refine lv_iinc (v := 0) (lv' := [(3, .int 0), (0, .ref qm), (1, .int iA), (2, .int 3)]) hx hb dX6_feed_72 hl (k := 0) rfl (by decide +kernel) (by decide +kernel) rfl (fun ls => ?_)
        clear hl
        intro hl
        refine lv_goto (tgt := 42) hx hb dX6_feed_75 (by decide +kernel) ?_
        refine lv_iload_n hx hb (g_29 bX6_feed rfl) rfl (lv_at hl 0 rfl) ?_
        refine lv_if_lt (tgt := 78) hx hb dX6_feed_43 (by decide +kernel) (fun h9 => absurd h9 (by decide +kernel)) (fun _ => ?_)
        refine lv_aload_n hx hb (g_42 bX6_feed rfl) rfl (lv_at hl 1 rfl) ?_
        refine va_get (D := G) (ci := 5) (v := .ref qmt) (C := RX6) (T := TX6) (N := 35) hx hb hts iX_X6 hown hK hP 0 rfl rfl 7 (by decide +kernel) (hts _ m_t857) (fun _ h9 => h9) rfl (g_180 (v := 34) bX6_feed rfl) ?_
        refine lv_aload_n hx hb (g_42 bX6_feed rfl) rfl (lv_at hl 1 rfl) ?_
        refine lv_dup hx hb (g_89 bX6_feed rfl) rfl ?_
        refine va_get (D := G) (ci := 5) (v := .int (nI ((kZ + 1) + 1))) (C := RX6) (T := TX6) (N := 35) hx hb hts iX_X6 hown hK hP 0 rfl rfl 8 (by decide +kernel) (hts _ m_t858) (fun _ h9 => h9) rfl (g_180 (v := 141) bX6_feed rfl) ?_
        refine lv_dup_x1 hx hb (g_90 bX6_feed rfl) rfl rfl ?_
        refine lv_iconst (v := 1) hx hb (g_4 bX6_feed rfl) (by decide +kernel) ?_
        refine lv_iadd hx hb (g_96 bX6_feed rfl) ?_
        refine lv_seti (v := nI (((kZ + 1) + 1) + 1)) (nI_1 _) ?_
        refine va_put (D := G) (ci := 5) (v := .int (nI (((kZ + 1) + 1) + 1))) (ty := .int) (C := RX6) (T := TX6) (N := 35) hx hb hts iX_X6 tyX6 tyX6_ok nmX6 hown hK hP hD hS 0 rfl rfl 8 (by decide +kernel) (hts _ m_t858) (fun _ h9 => h9) rfl (by decide +kernel) rfl rfl (Nat.le_of_ble_eq_true rfl) (g_181 (v := 141) bX6_feed rfl) (fun H locs => ?_)
        clear hP hD hS
        intro hP hD hS
        have hPD := pd_as [zzO qm 5 (.ref qmh :: .ref qmo :: .ref qmz :: .ref qmR :: .ref qmv :: .ref qmk :: .ref qma :: .ref qmt :: .int (nI (((kZ + 1) + 1) + 1)) :: .ref qmr :: .int (nI (T_nb tA)) :: .ref qmB :: .int (nI (T_np tA)) :: .ref qmO :: .ref qmK :: .int iEn :: .int iTk :: .int (T_sd tA) :: ov uP :: ov uU :: .int (nI kAt) :: .int iTo :: .int iFr :: .long JFi :: .int iFa :: .ref qm3 :: .int iSt :: .int iLv :: .int iWs :: vLa :: .ref qmu :: .ref qmy :: .ref qmb :: .ref qms :: .int iOm :: []), _, _] hP hD rfl
        clear hP hD
        obtain ⟨hP, hD⟩ := hPD
        refine lv_iload_n hx hb (g_27 bX6_feed rfl) rfl (lv_at hl 2 rfl) ?_
        refine lv_bipush (v := 8) hx hb dX6_feed_62 (by decide +kernel) ?_
        refine lv_iload_n hx hb (g_29 bX6_feed rfl) rfl (lv_at hl 0 rfl) ?_
        refine lv_imul hx hb (g_104 bX6_feed rfl) ?_
        refine lv_seti (v := 0) (by decide +kernel) ?_
        refine lv_ishr hx hb (g_122 bX6_feed rfl) ?_
        refine lv_sipush (v := 255) hx hb dX6_feed_67 (by decide +kernel) ?_
        refine lv_iand hx hb (g_126 bX6_feed rfl) ?_
        refine va_iast hx hb hK hP hD hS 1 0 rfl rfl (vp_in_nI (by omega) (by omega)) (g_79 bX6_feed rfl) (fun H locs => ?_)
        clear hP hD hS
        intro hP hD hS
        rw [nI_clamp (n := ((kZ + 1) + 1)) (by omega)] at hP hD
        have hPD := pd_as [_, zzI cy qmt 250 (upd (upd (upd fMt kZ ((iA >>> (16 &&& 31)) &&& 255)) (kZ + 1) ((iA >>> (8 &&& 31)) &&& 255)) ((kZ + 1) + 1) ((iA >>> (0 &&& 31)) &&& 255)), _] hP hD rfl
        clear hP hD
        obtain ⟨hP, hD⟩ := hPD
        refine lv_iinc (v := (-1)) (lv' := [(3, .int (-1)), (0, .ref qm), (1, .int iA), (2, .int 3)]) hx hb dX6_feed_72 hl (k := 0) rfl (by decide +kernel) (by decide +kernel) rfl (fun ls => ?_)
        clear hl
        intro hl
        refine lv_goto (tgt := 42) hx hb dX6_feed_75 (by decide +kernel) ?_
        refine lv_iload_n hx hb (g_29 bX6_feed rfl) rfl (lv_at hl 0 rfl) ?_
        refine lv_if_lt (tgt := 78) hx hb dX6_feed_43 (by decide +kernel) (fun _ => ?_) (fun h9 => absurd (by decide +kernel) h9)
        refine lv_aload_n hx hb (g_42 bX6_feed rfl) rfl (lv_at hl 1 rfl) ?_
        refine va_get (D := G) (ci := 5) (v := .int (nI (((kZ + 1) + 1) + 1))) (C := RX6) (T := TX6) (N := 35) hx hb hts iX_X6 hown hK hP 0 rfl rfl 8 (by decide +kernel) (hts _ m_t858) (fun _ h9 => h9) rfl (g_180 (v := 141) bX6_feed rfl) ?_
        exact endWs [[true, true, true]] hx hb hr hlocks rfl hP hD rfl (by decide +kernel) hS ⟨(((kZ + 1) + 1) + 1), (upd (upd (upd fMt kZ ((iA >>> (16 &&& 31)) &&& 255)) (kZ + 1) ((iA >>> (8 &&& 31)) &&& 255)) ((kZ + 1) + 1) ((iA >>> (0 &&& 31)) &&& 255)), fMr, rfl, Or.inr ⟨3, by omega, by omega, rfl, Or.inr ⟨rfl, fm_yes (k := 3) (by omega) (by omega) c_20, rfl⟩⟩, trivial⟩ (g_172 bX6_feed rfl)
      · refine lv_aload_n hx hb (g_42 bX6_feed rfl) rfl (lv_at hl 0 rfl) ?_
        refine lv_bipush (v := (-6)) hx hb dX6_feed_32 (by decide +kernel) ?_
        refine cVi (As := [.int (-6)]) (rest := []) (b := qm) (q := (RX6, TX6, 35)) ⟨hx, hb, hml, hown, hts⟩ (c_X6_refuse6 l G cy (s.heap).size qm (.ref qmh) (.ref qmo) (.ref qmz) (.ref qmR) (.ref qmv) (.ref qmk) (.ref qma) (.ref qmt) (.int (nI kZ)) qmr tA qmB qmO qmK iEn iTk (ov uP) (ov uU) (.int (nI kAt)) (.int iTo) (.int iFr) (.long JFi) (.int iFa) (.ref qm3) (.int iSt) iLv iWs vLa (.ref qmu) (.ref qmy) (.ref qmb) (.ref qms) (.int iOm) fMr) L_X6_91 hN hP hD hS hA [0, 2] [false, true, false] rfl (by decide +kernel) rfl 0 5 rfl rfl rfl ⟨Nat.le_of_ble_eq_true rfl, Nat.le_of_ble_eq_true rfl⟩ hl.1 (Nat.le_of_ble_eq_true rfl) (g_182 (v := 91) bX6_feed rfl) ⟨Nat.le_of_ble_eq_true rfl, Nat.le_of_ble_eq_true rfl⟩ (fun r_25 u_27 H locs h_26 => ?_)
        clear hP hD hS
        intro hP hD hS
        obtain ⟨fX_28, hu9, h_26⟩ := h_26
        have hPD := pd_eq [_, _, zzI cy qmr 8 fX_28] hP hD hu9 rfl
        clear hP hD hu9
        obtain ⟨hP, hD⟩ := hPD
        subst h_26
        exact endWs [[false, true], [true, false, true]] hx hb hr hlocks rfl hP hD rfl (by decide +kernel) hS ⟨kZ, fMt, fX_28, rfl, Or.inr ⟨3, by omega, by omega, rfl, Or.inl ⟨rfl, fm_no (k := 3) (by omega) (by omega) c_20, rfl⟩⟩, trivial⟩ (g_172 bX6_feed rfl)
    · refine lv_iload_n hx hb (g_28 bX6_feed rfl) rfl (lv_at hl 2 rfl) ?_
      refine lv_sipush (v := 250) hx hb dX6_feed_20 (by decide +kernel) ?_
      refine lv_aload_n hx hb (g_42 bX6_feed rfl) rfl (lv_at hl 0 rfl) ?_
      refine va_get (D := G) (ci := 5) (v := .int (nI kZ)) (C := RX6) (T := TX6) (N := 35) hx hb hts iX_X6 hown hK hP 0 rfl rfl 8 (by decide +kernel) (hts _ m_t858) (fun _ h9 => h9) rfl (g_180 (v := 141) bX6_feed rfl) ?_
      refine lv_isub hx hb (g_100 bX6_feed rfl) ?_
      refine lv_icmp_le (tgt := 38) hx hb dX6_feed_28 (by decide +kernel) (fun c_29 => ?_) (fun c_29 => ?_)
      · have hfd : kZ + 4 ≤ 250 := fm_yes (k := 4) (by omega) (by omega) c_29
        refine lv_iload_n hx hb (g_28 bX6_feed rfl) rfl (lv_at hl 2 rfl) ?_
        refine lv_iconst (v := 1) hx hb (g_4 bX6_feed rfl) (by decide +kernel) ?_
        refine lv_isub hx hb (g_100 bX6_feed rfl) ?_
        refine lv_seti (v := 3) (by decide +kernel) ?_
        refine lv_istore_n (lv' := [(3, .int 3), (0, .ref qm), (1, .int iA), (2, .int 4)]) hx hb (g_62 bX6_feed rfl) rfl hl (by decide +kernel) rfl (fun ls => ?_)
        clear hl
        intro hl
        refine lv_iload_n hx hb (g_29 bX6_feed rfl) rfl (lv_at hl 0 rfl) ?_
        refine lv_if_lt (tgt := 78) hx hb dX6_feed_43 (by decide +kernel) (fun h9 => absurd h9 (by decide +kernel)) (fun _ => ?_)
        refine lv_aload_n hx hb (g_42 bX6_feed rfl) rfl (lv_at hl 1 rfl) ?_
        refine va_get (D := G) (ci := 5) (v := .ref qmt) (C := RX6) (T := TX6) (N := 35) hx hb hts iX_X6 hown hK hP 0 rfl rfl 7 (by decide +kernel) (hts _ m_t857) (fun _ h9 => h9) rfl (g_180 (v := 34) bX6_feed rfl) ?_
        refine lv_aload_n hx hb (g_42 bX6_feed rfl) rfl (lv_at hl 1 rfl) ?_
        refine lv_dup hx hb (g_89 bX6_feed rfl) rfl ?_
        refine va_get (D := G) (ci := 5) (v := .int (nI kZ)) (C := RX6) (T := TX6) (N := 35) hx hb hts iX_X6 hown hK hP 0 rfl rfl 8 (by decide +kernel) (hts _ m_t858) (fun _ h9 => h9) rfl (g_180 (v := 141) bX6_feed rfl) ?_
        refine lv_dup_x1 hx hb (g_90 bX6_feed rfl) rfl rfl ?_
        refine lv_iconst (v := 1) hx hb (g_4 bX6_feed rfl) (by decide +kernel) ?_
        refine lv_iadd hx hb (g_96 bX6_feed rfl) ?_
        refine lv_seti (v := nI (kZ + 1)) (nI_1 _) ?_
        refine va_put (D := G) (ci := 5) (v := .int (nI (kZ + 1))) (ty := .int) (C := RX6) (T := TX6) (N := 35) hx hb hts iX_X6 tyX6 tyX6_ok nmX6 hown hK hP hD hS 0 rfl rfl 8 (by decide +kernel) (hts _ m_t858) (fun _ h9 => h9) rfl (by decide +kernel) rfl rfl (Nat.le_of_ble_eq_true rfl) (g_181 (v := 141) bX6_feed rfl) (fun H locs => ?_)
        clear hP hD hS
        intro hP hD hS
        have hPD := pd_as [_, _, _] hP hD rfl
        clear hP hD
        obtain ⟨hP, hD⟩ := hPD
        refine lv_iload_n hx hb (g_27 bX6_feed rfl) rfl (lv_at hl 2 rfl) ?_
        refine lv_bipush (v := 8) hx hb dX6_feed_62 (by decide +kernel) ?_
        refine lv_iload_n hx hb (g_29 bX6_feed rfl) rfl (lv_at hl 0 rfl) ?_
        refine lv_imul hx hb (g_104 bX6_feed rfl) ?_
        refine lv_seti (v := 24) (by decide +kernel) ?_
        refine lv_ishr hx hb (g_122 bX6_feed rfl) ?_
        refine lv_sipush (v := 255) hx hb dX6_feed_67 (by decide +kernel) ?_
        refine lv_iand hx hb (g_126 bX6_feed rfl) ?_
        refine va_iast hx hb hK hP hD hS 1 0 rfl rfl (vp_in_nI (by omega) (by omega)) (g_79 bX6_feed rfl) (fun H locs => ?_)
        clear hP hD hS
        intro hP hD hS
        rw [nI_clamp (n := kZ) (by omega)] at hP hD
        have hPD := pd_as [_, zzI cy qmt 250 (upd fMt kZ ((iA >>> (24 &&& 31)) &&& 255)), _] hP hD rfl
        clear hP hD
        obtain ⟨hP, hD⟩ := hPD
        refine lv_iinc (v := 2) (lv' := [(3, .int 2), (0, .ref qm), (1, .int iA), (2, .int 4)]) hx hb dX6_feed_72 hl (k := 0) rfl (by decide +kernel) (by decide +kernel) rfl (fun ls => ?_)
        clear hl
        intro hl
        refine lv_goto (tgt := 42) hx hb dX6_feed_75 (by decide +kernel) ?_
        refine lv_iload_n hx hb (g_29 bX6_feed rfl) rfl (lv_at hl 0 rfl) ?_
        refine lv_if_lt (tgt := 78) hx hb dX6_feed_43 (by decide +kernel) (fun h9 => absurd h9 (by decide +kernel)) (fun _ => ?_)
        refine lv_aload_n hx hb (g_42 bX6_feed rfl) rfl (lv_at hl 1 rfl) ?_
        refine va_get (D := G) (ci := 5) (v := .ref qmt) (C := RX6) (T := TX6) (N := 35) hx hb hts iX_X6 hown hK hP 0 rfl rfl 7 (by decide +kernel) (hts _ m_t857) (fun _ h9 => h9) rfl (g_180 (v := 34) bX6_feed rfl) ?_
        refine lv_aload_n hx hb (g_42 bX6_feed rfl) rfl (lv_at hl 1 rfl) ?_
        refine lv_dup hx hb (g_89 bX6_feed rfl) rfl ?_
        refine va_get (D := G) (ci := 5) (v := .int (nI (kZ + 1))) (C := RX6) (T := TX6) (N := 35) hx hb hts iX_X6 hown hK hP 0 rfl rfl 8 (by decide +kernel) (hts _ m_t858) (fun _ h9 => h9) rfl (g_180 (v := 141) bX6_feed rfl) ?_
        refine lv_dup_x1 hx hb (g_90 bX6_feed rfl) rfl rfl ?_
        refine lv_iconst (v := 1) hx hb (g_4 bX6_feed rfl) (by decide +kernel) ?_
        refine lv_iadd hx hb (g_96 bX6_feed rfl) ?_
        refine lv_seti (v := nI ((kZ + 1) + 1)) (nI_1 _) ?_
        refine va_put (D := G) (ci := 5) (v := .int (nI ((kZ + 1) + 1))) (ty := .int) (C := RX6) (T := TX6) (N := 35) hx hb hts iX_X6 tyX6 tyX6_ok nmX6 hown hK hP hD hS 0 rfl rfl 8 (by decide +kernel) (hts _ m_t858) (fun _ h9 => h9) rfl (by decide +kernel) rfl rfl (Nat.le_of_ble_eq_true rfl) (g_181 (v := 141) bX6_feed rfl) (fun H locs => ?_)
        clear hP hD hS
        intro hP hD hS
        have hPD := pd_as [_, _, _] hP hD rfl
        clear hP hD
        obtain ⟨hP, hD⟩ := hPD
        refine lv_iload_n hx hb (g_27 bX6_feed rfl) rfl (lv_at hl 2 rfl) ?_
        refine lv_bipush (v := 8) hx hb dX6_feed_62 (by decide +kernel) ?_
        refine lv_iload_n hx hb (g_29 bX6_feed rfl) rfl (lv_at hl 0 rfl) ?_
        refine lv_imul hx hb (g_104 bX6_feed rfl) ?_
        refine lv_seti (v := 16) (by decide +kernel) ?_
        refine lv_ishr hx hb (g_122 bX6_feed rfl) ?_
        refine lv_sipush (v := 255) hx hb dX6_feed_67 (by decide +kernel) ?_
        refine lv_iand hx hb (g_126 bX6_feed rfl) ?_
        refine va_iast hx hb hK hP hD hS 1 0 rfl rfl (vp_in_nI (by omega) (by omega)) (g_79 bX6_feed rfl) (fun H locs => ?_)
        clear hP hD hS
        intro hP hD hS
        rw [nI_clamp (n := (kZ + 1)) (by omega)] at hP hD
        have hPD := pd_as [_, zzI cy qmt 250 (upd (upd fMt kZ ((iA >>> (24 &&& 31)) &&& 255)) (kZ + 1) ((iA >>> (16 &&& 31)) &&& 255)), _] hP hD rfl
        clear hP hD
        obtain ⟨hP, hD⟩ := hPD
        refine lv_iinc (v := 1) (lv' := [(3, .int 1), (0, .ref qm), (1, .int iA), (2, .int 4)]) hx hb dX6_feed_72 hl (k := 0) rfl (by decide +kernel) (by decide +kernel) rfl (fun ls => ?_)
        clear hl
        intro hl
        refine lv_goto (tgt := 42) hx hb dX6_feed_75 (by decide +kernel) ?_
        refine lv_iload_n hx hb (g_29 bX6_feed rfl) rfl (lv_at hl 0 rfl) ?_
        refine lv_if_lt (tgt := 78) hx hb dX6_feed_43 (by decide +kernel) (fun h9 => absurd h9 (by decide +kernel)) (fun _ => ?_)
        refine lv_aload_n hx hb (g_42 bX6_feed rfl) rfl (lv_at hl 1 rfl) ?_
        refine va_get (D := G) (ci := 5) (v := .ref qmt) (C := RX6) (T := TX6) (N := 35) hx hb hts iX_X6 hown hK hP 0 rfl rfl 7 (by decide +kernel) (hts _ m_t857) (fun _ h9 => h9) rfl (g_180 (v := 34) bX6_feed rfl) ?_
        refine lv_aload_n hx hb (g_42 bX6_feed rfl) rfl (lv_at hl 1 rfl) ?_
        refine lv_dup hx hb (g_89 bX6_feed rfl) rfl ?_
        refine va_get (D := G) (ci := 5) (v := .int (nI ((kZ + 1) + 1))) (C := RX6) (T := TX6) (N := 35) hx hb hts iX_X6 hown hK hP 0 rfl rfl 8 (by decide +kernel) (hts _ m_t858) (fun _ h9 => h9) rfl (g_180 (v := 141) bX6_feed rfl) ?_
        refine lv_dup_x1 hx hb (g_90 bX6_feed rfl) rfl rfl ?_
        refine lv_iconst (v := 1) hx hb (g_4 bX6_feed rfl) (by decide +kernel) ?_
        refine lv_iadd hx hb (g_96 bX6_feed rfl) ?_
        refine lv_seti (v := nI (((kZ + 1) + 1) + 1)) (nI_1 _) ?_
        refine va_put (D := G) (ci := 5) (v := .int (nI (((kZ + 1) + 1) + 1))) (ty := .int) (C := RX6) (T := TX6) (N := 35) hx hb hts iX_X6 tyX6 tyX6_ok nmX6 hown hK hP hD hS 0 rfl rfl 8 (by decide +kernel) (hts _ m_t858) (fun _ h9 => h9) rfl (by decide +kernel) rfl rfl (Nat.le_of_ble_eq_true rfl) (g_181 (v := 141) bX6_feed rfl) (fun H locs => ?_)
        clear hP hD hS
        intro hP hD hS
        have hPD := pd_as [_, _, _] hP hD rfl
        clear hP hD
        obtain ⟨hP, hD⟩ := hPD
        refine lv_iload_n hx hb (g_27 bX6_feed rfl) rfl (lv_at hl 2 rfl) ?_
        refine lv_bipush (v := 8) hx hb dX6_feed_62 (by decide +kernel) ?_
        refine lv_iload_n hx hb (g_29 bX6_feed rfl) rfl (lv_at hl 0 rfl) ?_
        refine lv_imul hx hb (g_104 bX6_feed rfl) ?_
        refine lv_seti (v := 8) (by decide +kernel) ?_
        refine lv_ishr hx hb (g_122 bX6_feed rfl) ?_
        refine lv_sipush (v := 255) hx hb dX6_feed_67 (by decide +kernel) ?_
        refine lv_iand hx hb (g_126 bX6_feed rfl) ?_
        refine va_iast hx hb hK hP hD hS 1 0 rfl rfl (vp_in_nI (by omega) (by omega)) (g_79 bX6_feed rfl) (fun H locs => ?_)
        clear hP hD hS
        intro hP hD hS
        rw [nI_clamp (n := ((kZ + 1) + 1)) (by omega)] at hP hD
        have hPD := pd_as [_, zzI cy qmt 250 (upd (upd (upd fMt kZ ((iA >>> (24 &&& 31)) &&& 255)) (kZ + 1) ((iA >>> (16 &&& 31)) &&& 255)) ((kZ + 1) + 1) ((iA >>> (8 &&& 31)) &&& 255)), _] hP hD rfl
        clear hP hD
        obtain ⟨hP, hD⟩ := hPD
        refine lv_iinc (v := 0) (lv' := [(3, .int 0), (0, .ref qm), (1, .int iA), (2, .int 4)]) hx hb dX6_feed_72 hl (k := 0) rfl (by decide +kernel) (by decide +kernel) rfl (fun ls => ?_)
        clear hl
        intro hl
        refine lv_goto (tgt := 42) hx hb dX6_feed_75 (by decide +kernel) ?_
        refine lv_iload_n hx hb (g_29 bX6_feed rfl) rfl (lv_at hl 0 rfl) ?_
        refine lv_if_lt (tgt := 78) hx hb dX6_feed_43 (by decide +kernel) (fun h9 => absurd h9 (by decide +kernel)) (fun _ => ?_)
        refine lv_aload_n hx hb (g_42 bX6_feed rfl) rfl (lv_at hl 1 rfl) ?_
        refine va_get (D := G) (ci := 5) (v := .ref qmt) (C := RX6) (T := TX6) (N := 35) hx hb hts iX_X6 hown hK hP 0 rfl rfl 7 (by decide +kernel) (hts _ m_t857) (fun _ h9 => h9) rfl (g_180 (v := 34) bX6_feed rfl) ?_
        refine lv_aload_n hx hb (g_42 bX6_feed rfl) rfl (lv_at hl 1 rfl) ?_
        refine lv_dup hx hb (g_89 bX6_feed rfl) rfl ?_
        refine va_get (D := G) (ci := 5) (v := .int (nI (((kZ + 1) + 1) + 1))) (C := RX6) (T := TX6) (N := 35) hx hb hts iX_X6 hown hK hP 0 rfl rfl 8 (by decide +kernel) (hts _ m_t858) (fun _ h9 => h9) rfl (g_180 (v := 141) bX6_feed rfl) ?_
        refine lv_dup_x1 hx hb (g_90 bX6_feed rfl) rfl rfl ?_
        refine lv_iconst (v := 1) hx hb (g_4 bX6_feed rfl) (by decide +kernel) ?_
        refine lv_iadd hx hb (g_96 bX6_feed rfl) ?_
        refine lv_seti (v := nI ((((kZ + 1) + 1) + 1) + 1)) (nI_1 _) ?_
        refine va_put (D := G) (ci := 5) (v := .int (nI ((((kZ + 1) + 1) + 1) + 1))) (ty := .int) (C := RX6) (T := TX6) (N := 35) hx hb hts iX_X6 tyX6 tyX6_ok nmX6 hown hK hP hD hS 0 rfl rfl 8 (by decide +kernel) (hts _ m_t858) (fun _ h9 => h9) rfl (by decide +kernel) rfl rfl (Nat.le_of_ble_eq_true rfl) (g_181 (v := 141) bX6_feed rfl) (fun H locs => ?_)
        clear hP hD hS
        intro hP hD hS
        have hPD := pd_as [zzO qm 5 (.ref qmh :: .ref qmo :: .ref qmz :: .ref qmR :: .ref qmv :: .ref qmk :: .ref qma :: .ref qmt :: .int (nI ((((kZ + 1) + 1) + 1) + 1)) :: .ref qmr :: .int (nI (T_nb tA)) :: .ref qmB :: .int (nI (T_np tA)) :: .ref qmO :: .ref qmK :: .int iEn :: .int iTk :: .int (T_sd tA) :: ov uP :: ov uU :: .int (nI kAt) :: .int iTo :: .int iFr :: .long JFi :: .int iFa :: .ref qm3 :: .int iSt :: .int iLv :: .int iWs :: vLa :: .ref qmu :: .ref qmy :: .ref qmb :: .ref qms :: .int iOm :: []), _, _] hP hD rfl
        clear hP hD
        obtain ⟨hP, hD⟩ := hPD
        refine lv_iload_n hx hb (g_27 bX6_feed rfl) rfl (lv_at hl 2 rfl) ?_
        refine lv_bipush (v := 8) hx hb dX6_feed_62 (by decide +kernel) ?_
        refine lv_iload_n hx hb (g_29 bX6_feed rfl) rfl (lv_at hl 0 rfl) ?_
        refine lv_imul hx hb (g_104 bX6_feed rfl) ?_
        refine lv_seti (v := 0) (by decide +kernel) ?_
        refine lv_ishr hx hb (g_122 bX6_feed rfl) ?_
        refine lv_sipush (v := 255) hx hb dX6_feed_67 (by decide +kernel) ?_
        refine lv_iand hx hb (g_126 bX6_feed rfl) ?_
        refine va_iast hx hb hK hP hD hS 1 0 rfl rfl (vp_in_nI (by omega) (by omega)) (g_79 bX6_feed rfl) (fun H locs => ?_)
        clear hP hD hS
        intro hP hD hS
        rw [nI_clamp (n := (((kZ + 1) + 1) + 1)) (by omega)] at hP hD
        have hPD := pd_as [_, zzI cy qmt 250 (upd (upd (upd (upd fMt kZ ((iA >>> (24 &&& 31)) &&& 255)) (kZ + 1) ((iA >>> (16 &&& 31)) &&& 255)) ((kZ + 1) + 1) ((iA >>> (8 &&& 31)) &&& 255)) (((kZ + 1) + 1) + 1) ((iA >>> (0 &&& 31)) &&& 255)), _] hP hD rfl
        clear hP hD
        obtain ⟨hP, hD⟩ := hPD
        refine lv_iinc (v := (-1)) (lv' := [(3, .int (-1)), (0, .ref qm), (1, .int iA), (2, .int 4)]) hx hb dX6_feed_72 hl (k := 0) rfl (by decide +kernel) (by decide +kernel) rfl (fun ls => ?_)
        clear hl
        intro hl
        refine lv_goto (tgt := 42) hx hb dX6_feed_75 (by decide +kernel) ?_
        refine lv_iload_n hx hb (g_29 bX6_feed rfl) rfl (lv_at hl 0 rfl) ?_
        refine lv_if_lt (tgt := 78) hx hb dX6_feed_43 (by decide +kernel) (fun _ => ?_) (fun h9 => absurd (by decide +kernel) h9)
        refine lv_aload_n hx hb (g_42 bX6_feed rfl) rfl (lv_at hl 1 rfl) ?_
        refine va_get (D := G) (ci := 5) (v := .int (nI ((((kZ + 1) + 1) + 1) + 1))) (C := RX6) (T := TX6) (N := 35) hx hb hts iX_X6 hown hK hP 0 rfl rfl 8 (by decide +kernel) (hts _ m_t858) (fun _ h9 => h9) rfl (g_180 (v := 141) bX6_feed rfl) ?_
        exact endWs [[true, true, true]] hx hb hr hlocks rfl hP hD rfl (by decide +kernel) hS ⟨((((kZ + 1) + 1) + 1) + 1), (upd (upd (upd (upd fMt kZ ((iA >>> (24 &&& 31)) &&& 255)) (kZ + 1) ((iA >>> (16 &&& 31)) &&& 255)) ((kZ + 1) + 1) ((iA >>> (8 &&& 31)) &&& 255)) (((kZ + 1) + 1) + 1) ((iA >>> (0 &&& 31)) &&& 255)), fMr, rfl, Or.inr ⟨4, by omega, by omega, rfl, Or.inr ⟨rfl, fm_yes (k := 4) (by omega) (by omega) c_29, rfl⟩⟩, trivial⟩ (g_172 bX6_feed rfl)
      · refine lv_aload_n hx hb (g_42 bX6_feed rfl) rfl (lv_at hl 0 rfl) ?_
        refine lv_bipush (v := (-6)) hx hb dX6_feed_32 (by decide +kernel) ?_
        refine cVi (As := [.int (-6)]) (rest := []) (b := qm) (q := (RX6, TX6, 35)) ⟨hx, hb, hml, hown, hts⟩ (c_X6_refuse6 l G cy (s.heap).size qm (.ref qmh) (.ref qmo) (.ref qmz) (.ref qmR) (.ref qmv) (.ref qmk) (.ref qma) (.ref qmt) (.int (nI kZ)) qmr tA qmB qmO qmK iEn iTk (ov uP) (ov uU) (.int (nI kAt)) (.int iTo) (.int iFr) (.long JFi) (.int iFa) (.ref qm3) (.int iSt) iLv iWs vLa (.ref qmu) (.ref qmy) (.ref qmb) (.ref qms) (.int iOm) fMr) L_X6_91 hN hP hD hS hA [0, 2] [false, true, false] rfl (by decide +kernel) rfl 0 5 rfl rfl rfl ⟨Nat.le_of_ble_eq_true rfl, Nat.le_of_ble_eq_true rfl⟩ hl.1 (Nat.le_of_ble_eq_true rfl) (g_182 (v := 91) bX6_feed rfl) ⟨Nat.le_of_ble_eq_true rfl, Nat.le_of_ble_eq_true rfl⟩ (fun r_35 u_37 H locs h_36 => ?_)
        clear hP hD hS
        intro hP hD hS
        obtain ⟨fX_38, hu9, h_36⟩ := h_36
        have hPD := pd_eq [_, _, zzI cy qmr 8 fX_38] hP hD hu9 rfl
        clear hP hD hu9
        obtain ⟨hP, hD⟩ := hPD
        subst h_36
        exact endWs [[false, true], [true, false, true]] hx hb hr hlocks rfl hP hD rfl (by decide +kernel) hS ⟨kZ, fMt, fX_38, rfl, Or.inr ⟨4, by omega, by omega, rfl, Or.inl ⟨rfl, fm_no (k := 4) (by omega) (by omega) c_29, rfl⟩⟩, trivial⟩ (g_172 bX6_feed rfl)
  · refine lv_if_ne (tgt := 19) hx hb dX6_feed_9 (by decide +kernel) (fun h9 => absurd (by decide +kernel) h9) (fun _ => ?_)
    refine lv_aload_n hx hb (g_42 bX6_feed rfl) rfl (lv_at hl 0 rfl) ?_
    refine lv_bipush (v := (-2)) hx hb dX6_feed_13 (by decide +kernel) ?_
    refine cVi (As := [.int (-2)]) (rest := []) (b := qm) (q := (RX6, TX6, 35)) ⟨hx, hb, hml, hown, hts⟩ (c_X6_refuse2 l G cy (s.heap).size qm (.ref qmh) (.ref qmo) (.ref qmz) (.ref qmR) (.ref qmv) (.ref qmk) (.ref qma) (.ref qmt) (.int (nI kZ)) qmr tA qmB qmO qmK iEn iTk (ov uP) (ov uU) (.int (nI kAt)) (.int iTo) (.int iFr) (.long JFi) (.int iFa) (.ref qm3) (.int iSt) iLv iWs vLa (.ref qmu) (.ref qmy) (.ref qmb) (.ref qms) (.int iOm) fMr) L_X6_91 hN hP hD hS hA [0, 2] [false, true, false] rfl (by decide +kernel) rfl 0 5 rfl rfl rfl ⟨Nat.le_of_ble_eq_true rfl, Nat.le_of_ble_eq_true rfl⟩ hl.1 (Nat.le_of_ble_eq_true rfl) (g_182 (v := 91) bX6_feed rfl) ⟨Nat.le_of_ble_eq_true rfl, Nat.le_of_ble_eq_true rfl⟩ (fun r_40 u_42 H locs h_41 => ?_)
    clear hP hD hS
    intro hP hD hS
    obtain ⟨fX_43, hu9, h_41⟩ := h_41
    have hPD := pd_eq [_, _, zzI cy qmr 8 fX_43] hP hD hu9 rfl
    clear hP hD hu9
    obtain ⟨hP, hD⟩ := hPD
    subst h_41
    exact endWs [[false, true], [true, false, true]] hx hb hr hlocks rfl hP hD rfl (by decide +kernel) hS ⟨kZ, fMt, fX_43, rfl, Or.inl ⟨rfl, h_3, rfl⟩, trivial⟩ (g_172 bX6_feed rfl)
set_option maxHeartbeats 4000000 in
set_option maxRecDepth 100000 in
theorem p_X6_wipe (l : Launch) (G : va_G) (cy : Nat → ClassId) (sz : Nat) (qm : Nat) (qmh : Nat) (qmo : Nat) (qmz : Nat) (qmR : Nat) (qmv : Nat) (qmk : Nat) (qma : Nat) (qmt : Nat) (kZ : Nat) (qmr : Nat) (tA : TA) (qmB : Nat) (qmO : Nat) (qmK : Nat) (iEn : Int32) (iTk : Int32) (uP : UM) (uU : UM) (kAt : Nat) (iTo : Int32) (iFr : Int32) (JFi : Int64) (iFa : Int32) (qm3 : Nat) (iSt : Int32) (iLv : Int32) (iWs : Int32) (vLa : Value) (qmu : Nat) (qmy : Nat) (qmb : Nat) (qms : Nat) (iOm : Int32)   : MW l yX6_wipe cX6_wipe 2 (some .int) 16 0 0 G cy [zzO qm 5 (.ref qmh :: .ref qmo :: .ref qmz :: .ref qmR :: .ref qmv :: .ref qmk :: .ref qma :: .ref qmt :: .int (nI kZ) :: .ref qmr :: .int (nI (T_nb tA)) :: .ref qmB :: .int (nI (T_np tA)) :: .ref qmO :: .ref qmK :: .int iEn :: .int iTk :: .int (T_sd tA) :: ov uP :: ov uU :: .int (nI kAt) :: .int iTo :: .int iFr :: .long JFi :: .int iFa :: .ref qm3 :: .int iSt :: .int iLv :: .int iWs :: vLa :: .ref qmu :: .ref qmy :: .ref qmb :: .ref qms :: .int iOm :: [])] sz [.ref qm] (Wi G (fun r u => ∃ (kNz : Nat), u = [zzO qm 5 (.ref qmh :: .ref qmo :: .ref qmz :: .ref qmR :: .ref qmv :: .ref qmk :: .ref qma :: .ref qmt :: .int (nI kNz) :: .ref qmr :: .int (nI (T_nb tA)) :: .ref qmB :: .int (nI (T_np tA)) :: .ref qmO :: .ref qmK :: .int iEn :: .int iTk :: .int (T_sd tA) :: ov uP :: ov uU :: .int (nI kAt) :: .int iTo :: .int iFr :: .long JFi :: .int iFa :: .ref qm3 :: .int iSt :: .int iLv :: .int iWs :: vLa :: .ref qmu :: .ref qmy :: .ref qmb :: .ref qms :: .int iOm :: [])] ∧ (r = nI kZ ∧ kNz = 0) ∧ (True))) := by
  refine enW RX6 (by decide +kernel) rfl (Nat.le_of_ble_eq_true rfl) (fun p e s m below meth c ls A hx hb hml hown hts hr hlocks hP hN hl hin hD hA hS => ?_)
  have hin : meth.name = _ := hin
  have hK := hN.1
  replace hl : lv_has ls 2 [(0, .ref qm)] := hl
  refine lv_aload_n hx hb (g_42 bX6_wipe rfl) rfl (lv_at hl 0 rfl) ?_
  refine va_get (D := G) (ci := 5) (v := .int (nI kZ)) (C := RX6) (T := TX6) (N := 35) hx hb hts iX_X6 hown hK hP 0 rfl rfl 8 (by decide +kernel) (hts _ m_t858) (fun _ h9 => h9) rfl (g_180 (v := 141) bX6_wipe rfl) ?_
  refine lv_istore_n (lv' := [(1, .int (nI kZ)), (0, .ref qm)]) hx hb (g_60 bX6_wipe rfl) rfl hl (by decide +kernel) rfl (fun ls => ?_)
  clear hl
  intro hl
  refine lv_aload_n hx hb (g_42 bX6_wipe rfl) rfl (lv_at hl 1 rfl) ?_
  refine lv_iconst (v := 0) hx hb (g_3 bX6_wipe rfl) (by decide +kernel) ?_
  refine va_put (D := G) (ci := 5) (v := .int 0) (ty := .int) (C := RX6) (T := TX6) (N := 35) hx hb hts iX_X6 tyX6 tyX6_ok nmX6 hown hK hP hD hS 0 rfl rfl 8 (by decide +kernel) (hts _ m_t858) (fun _ h9 => h9) rfl (by decide +kernel) rfl rfl (Nat.le_of_ble_eq_true rfl) (g_181 (v := 141) bX6_wipe rfl) (fun H locs => ?_)
  clear hP hD hS
  intro hP hD hS
  have hPD := pd_as [zzO qm 5 (.ref qmh :: .ref qmo :: .ref qmz :: .ref qmR :: .ref qmv :: .ref qmk :: .ref qma :: .ref qmt :: .int 0 :: .ref qmr :: .int (nI (T_nb tA)) :: .ref qmB :: .int (nI (T_np tA)) :: .ref qmO :: .ref qmK :: .int iEn :: .int iTk :: .int (T_sd tA) :: ov uP :: ov uU :: .int (nI kAt) :: .int iTo :: .int iFr :: .long JFi :: .int iFa :: .ref qm3 :: .int iSt :: .int iLv :: .int iWs :: vLa :: .ref qmu :: .ref qmy :: .ref qmb :: .ref qms :: .int iOm :: [])] hP hD rfl
  clear hP hD
  obtain ⟨hP, hD⟩ := hPD
  have hPD := pd_as [zzO qm 5 (.ref qmh :: .ref qmo :: .ref qmz :: .ref qmR :: .ref qmv :: .ref qmk :: .ref qma :: .ref qmt :: .int (nI 0) :: .ref qmr :: .int (nI (T_nb tA)) :: .ref qmB :: .int (nI (T_np tA)) :: .ref qmO :: .ref qmK :: .int iEn :: .int iTk :: .int (T_sd tA) :: ov uP :: ov uU :: .int (nI kAt) :: .int iTo :: .int iFr :: .long JFi :: .int iFa :: .ref qm3 :: .int iSt :: .int iLv :: .int iWs :: vLa :: .ref qmu :: .ref qmy :: .ref qmb :: .ref qms :: .int iOm :: [])] hP hD rfl
  clear hP hD
  obtain ⟨hP, hD⟩ := hPD
  refine lv_iload_n hx hb (g_27 bX6_wipe rfl) rfl (lv_at hl 0 rfl) ?_
  exact endWs [[true]] hx hb hr hlocks rfl hP hD rfl (by decide +kernel) hS ⟨0, rfl, ⟨rfl, rfl⟩, trivial⟩ (g_172 bX6_wipe rfl)
set_option maxHeartbeats 4000000 in
set_option maxRecDepth 100000 in
theorem p_X6_town (l : Launch) (G : va_G) (cy : Nat → ClassId) (sz : Nat) (qm : Nat) (qmh : Nat) (qmo : Nat) (qmz : Nat) (qmR : Nat) (qmv : Nat) (qmk : Nat) (qma : Nat) (qmt : Nat) (kZ : Nat) (qmr : Nat) (tA : TA) (qmB : Nat) (qmO : Nat) (qmK : Nat) (iEn : Int32) (iTk : Int32) (uP : UM) (uU : UM) (kAt : Nat) (iTo : Int32) (iFr : Int32) (JFi : Int64) (iFa : Int32) (qm3 : Nat) (iSt : Int32) (iLv : Int32) (iWs : Int32) (vLa : Value) (qmu : Nat) (qmy : Nat) (qmb : Nat) (qms : Nat) (iOm : Int32) (fMt : Nat → Int32) (fM3 : Nat → Int32) (fMr : Nat → Int32) (rB : Nat → Nat) (rO : Nat → Nat) (rK : Nat → Nat)  (hB : T_nb tA ≤ 8) (hPp : T_np tA ≤ 8) (hTI : TI tA) (hZ : kZ ≤ 250) : MWX l yX6_town cX6_town 3 (some .int) 16 50 888 G cy SO ([zzO qm 5 (.ref qmh :: .ref qmo :: .ref qmz :: .ref qmR :: .ref qmv :: .ref qmk :: .ref qma :: .ref qmt :: .int (nI kZ) :: .ref qmr :: .int (nI (T_nb tA)) :: .ref qmB :: .int (nI (T_np tA)) :: .ref qmO :: .ref qmK :: .int iEn :: .int iTk :: .int (T_sd tA) :: ov uP :: ov uU :: .int (nI kAt) :: .int iTo :: .int iFr :: .long JFi :: .int iFa :: .ref qm3 :: .int iSt :: .int iLv :: .int iWs :: vLa :: .ref qmu :: .ref qmy :: .ref qmb :: .ref qms :: .int iOm :: []), zzI cy qmt 250 fMt, zzI cy qm3 3 fM3, zzI cy qmr 8 fMr, zzG cy 3 qmB rB, zzI cy (rB 0) 4 (bkR tA 0), zzI cy (rB 1) 4 (bkR tA 1), zzI cy (rB 2) 4 (bkR tA 2), zzI cy (rB 3) 4 (bkR tA 3), zzI cy (rB 4) 4 (bkR tA 4), zzI cy (rB 5) 4 (bkR tA 5), zzI cy (rB 6) 4 (bkR tA 6), zzI cy (rB 7) 4 (bkR tA 7), zzG cy 3 qmO rO, zzI cy (rO 0) 5 (onR tA 0), zzI cy (rO 1) 5 (onR tA 1), zzI cy (rO 2) 5 (onR tA 2), zzI cy (rO 3) 5 (onR tA 3), zzI cy (rO 4) 5 (onR tA 4), zzI cy (rO 5) 5 (onR tA 5), zzI cy (rO 6) 5 (onR tA 6), zzI cy (rO 7) 5 (onR tA 7), zzG cy 3 qmK rK, zzI cy (rK 0) 8 (T_kn tA 0), zzI cy (rK 1) 8 (T_kn tA 1), zzI cy (rK 2) 8 (T_kn tA 2), zzI cy (rK 3) 8 (T_kn tA 3), zzI cy (rK 4) 8 (T_kn tA 4), zzI cy (rK 5) 8 (T_kn tA 5), zzI cy (rK 6) 8 (T_kn tA 6), zzI cy (rK 7) 8 (T_kn tA 7)] ++ oM cy uU) sz [.ref qm] (Wi G (fun r u => ∃ (kNz : Nat) (iNe : Int32) (iNt : Int32) (kNa : Nat) (iNo : Int32) (iNf : Int32) (JN : Int64) (iNq : Int32) (iNs : Int32) (fN3 : Nat → Int32) (fNr : Nat → Int32) (tN : TA) (uN : UM), u = ([zzO qm 5 (.ref qmh :: .ref qmo :: .ref qmz :: .ref qmR :: .ref qmv :: .ref qmk :: .ref qma :: .ref qmt :: .int (nI kNz) :: .ref qmr :: .int (nI (T_nb tN)) :: .ref qmB :: .int (nI (T_np tN)) :: .ref qmO :: .ref qmK :: .int iNe :: .int iNt :: .int (T_sd tN) :: ov uP :: ov uN :: .int (nI kNa) :: .int iNo :: .int iNf :: .long JN :: .int iNq :: .ref qm3 :: .int iNs :: .int iLv :: .int iWs :: vLa :: .ref qmu :: .ref qmy :: .ref qmb :: .ref qms :: .int iOm :: []), zzI cy qmt 250 fMt, zzI cy qm3 3 fN3, zzI cy qmr 8 fNr, zzG cy 3 qmB rB, zzI cy (rB 0) 4 (bkR tN 0), zzI cy (rB 1) 4 (bkR tN 1), zzI cy (rB 2) 4 (bkR tN 2), zzI cy (rB 3) 4 (bkR tN 3), zzI cy (rB 4) 4 (bkR tN 4), zzI cy (rB 5) 4 (bkR tN 5), zzI cy (rB 6) 4 (bkR tN 6), zzI cy (rB 7) 4 (bkR tN 7), zzG cy 3 qmO rO, zzI cy (rO 0) 5 (onR tN 0), zzI cy (rO 1) 5 (onR tN 1), zzI cy (rO 2) 5 (onR tN 2), zzI cy (rO 3) 5 (onR tN 3), zzI cy (rO 4) 5 (onR tN 4), zzI cy (rO 5) 5 (onR tN 5), zzI cy (rO 6) 5 (onR tN 6), zzI cy (rO 7) 5 (onR tN 7), zzG cy 3 qmK rK, zzI cy (rK 0) 8 (T_kn tN 0), zzI cy (rK 1) 8 (T_kn tN 1), zzI cy (rK 2) 8 (T_kn tN 2), zzI cy (rK 3) 8 (T_kn tN 3), zzI cy (rK 4) 8 (T_kn tN 4), zzI cy (rK 5) 8 (T_kn tN 5), zzI cy (rK 6) 8 (T_kn tN 6), zzI cy (rK 7) 8 (T_kn tN 7)] ++ oM cy uN) ∧ (TI tN ∧ kNz = 0) ∧ (True))) := by
  refine enWX RX6 (by decide +kernel) rfl (Nat.le_of_ble_eq_true rfl) (fun p e s m below meth c ls A hx hb hml hown hts hr hlocks hP hN hl hin hD hA hS hX => ?_)
  have hin : meth.name = _ := hin
  have hK := hN.1
  replace hl : lv_has ls 3 [(0, .ref qm)] := hl
  refine lv_aload_n hx hb (g_42 bX6_town rfl) rfl (lv_at hl 0 rfl) ?_
  refine cVqP (As := []) (rest := []) (b := qm) (q := (RX6, TX6, 35)) ⟨hx, hb, hml, hown, hts⟩ (c_X6_fresh l G cy (s.heap).size qm (.ref qmh) (.ref qmo) (.ref qmz) (.ref qmR) (.ref qmv) (.ref qmk) (.ref qma) (.ref qmt) (.int (nI kZ)) (.ref qmr) tA qmB qmO qmK iEn iTk (ov uP) uU (.int (nI kAt)) (.int iTo) (.int iFr) (.long JFi) (.int iFa) (.ref qm3) (.int iSt) iLv iWs vLa (.ref qmu) (.ref qmy) (.ref qmb) (.ref qms) (.int iOm) rB rO rK) L_X6_110 hN hP hD hS hA (trueIx 0 [true, false, false, false, true, true, true, true, true, true, true, true, true, true, true, true, true, true, true, true, true, true, true, true, true, true, true, true, true, true, true]) [false, true, true, true, false, false, false, false, false, false, false, false, false, false, false, false, false, false, false, false, false, false, false, false, false, false, false, false, false, false, false] (sel_eq rfl rfl) (by decide +kernel) rfl 0 5 rfl rfl rfl ⟨Nat.le_of_ble_eq_true rfl, Nat.le_of_ble_eq_true rfl⟩ hl.1 (Nat.le_of_ble_eq_true rfl) (g_182 (v := 110) bX6_town rfl) ⟨Nat.le_of_ble_eq_true rfl, Nat.le_of_ble_eq_true rfl⟩ (fun r_1 u_3 H locs h_2 => ?_)
  clear hP hD hS
  intro hP hD hS
  obtain ⟨qU_4, qUB_5, qUO_6, qUK_7, rUB_8, rUO_9, rUK_10, xU_11, iLvU_12, iWsU_13, rfl, h_2⟩ := h_2
  have hPD := pd_as (_ :: _ :: _ :: zzO qm 5 (.ref qmh :: .ref qmo :: .ref qmz :: .ref qmR :: .ref qmv :: .ref qmk :: .ref qma :: .ref qmt :: .int (nI kZ) :: .ref qmr :: .int (nI (T_nb tA)) :: .ref qmB :: .int (nI (T_np tA)) :: .ref qmO :: .ref qmK :: .int iEn :: .int iTk :: .int (T_sd tA) :: ov uP :: .ref qU_4 :: .int (nI kAt) :: .int iTo :: .int iFr :: .long JFi :: .int iFa :: .ref qm3 :: .int iSt :: .int iLv :: .int iWs :: vLa :: .ref qmu :: .ref qmy :: .ref qmb :: .ref qms :: .int iOm :: []) :: _ :: _ :: _ :: _ :: _ :: _ :: _ :: _ :: _ :: _ :: _ :: _ :: _ :: _ :: _ :: _ :: _ :: _ :: _ :: _ :: _ :: _ :: _ :: _ :: _ :: _ :: _ :: zzO qU_4 5 (xU_11 0 :: xU_11 1 :: xU_11 2 :: xU_11 3 :: xU_11 4 :: xU_11 5 :: xU_11 6 :: xU_11 7 :: xU_11 8 :: xU_11 9 :: .int (nI (T_nb tA)) :: .ref qUB_5 :: .int (nI (T_np tA)) :: .ref qUO_6 :: .ref qUK_7 :: .int iEn :: .int iTk :: .int (T_sd tA) :: xU_11 18 :: xU_11 19 :: xU_11 20 :: xU_11 21 :: xU_11 22 :: xU_11 23 :: xU_11 24 :: xU_11 25 :: xU_11 26 :: .int iLvU_12 :: .int iWsU_13 :: xU_11 29 :: xU_11 30 :: xU_11 31 :: xU_11 32 :: xU_11 33 :: xU_11 34 :: []) :: zzG cy 3 qUB_5 rUB_8 :: zzI cy (rUB_8 0) 4 (bkR tA 0) :: zzI cy (rUB_8 1) 4 (bkR tA 1) :: zzI cy (rUB_8 2) 4 (bkR tA 2) :: zzI cy (rUB_8 3) 4 (bkR tA 3) :: zzI cy (rUB_8 4) 4 (bkR tA 4) :: zzI cy (rUB_8 5) 4 (bkR tA 5) :: zzI cy (rUB_8 6) 4 (bkR tA 6) :: zzI cy (rUB_8 7) 4 (bkR tA 7) :: zzG cy 3 qUO_6 rUO_9 :: zzI cy (rUO_9 0) 5 (onR tA 0) :: zzI cy (rUO_9 1) 5 (onR tA 1) :: zzI cy (rUO_9 2) 5 (onR tA 2) :: zzI cy (rUO_9 3) 5 (onR tA 3) :: zzI cy (rUO_9 4) 5 (onR tA 4) :: zzI cy (rUO_9 5) 5 (onR tA 5) :: zzI cy (rUO_9 6) 5 (onR tA 6) :: zzI cy (rUO_9 7) 5 (onR tA 7) :: zzG cy 3 qUK_7 rUK_10 :: zzI cy (rUK_10 0) 8 (T_kn tA 0) :: zzI cy (rUK_10 1) 8 (T_kn tA 1) :: zzI cy (rUK_10 2) 8 (T_kn tA 2) :: zzI cy (rUK_10 3) 8 (T_kn tA 3) :: zzI cy (rUK_10 4) 8 (T_kn tA 4) :: zzI cy (rUK_10 5) 8 (T_kn tA 5) :: zzI cy (rUK_10 6) 8 (T_kn tA 6) :: zzI cy (rUK_10 7) 8 (T_kn tA 7) :: []) hP hD rfl
  clear hP hD
  obtain ⟨hP, hD⟩ := hPD
  refine W.widen (k := 50) (n := 888) (Nat.le_of_ble_eq_true rfl) (Nat.le_of_ble_eq_true rfl) ?_
  subst h_2
  refine lv_astore_n (lv' := [(1, .ref r_1), (0, .ref qm)]) hx hb (g_76 bX6_town rfl) rfl hl (by decide +kernel) rfl (fun ls => ?_)
  clear hl
  intro hl
  refine lv_aload_n hx hb (g_42 bX6_town rfl) rfl (lv_at hl 1 rfl) ?_
  refine cVXi (As := []) (rest := []) (b := qm) (q := (RX6, TX6, 35)) ⟨hx, hb, hml, hown, hts⟩ (c_X6_readAll l G cy (H).size qm (.ref qmh) (.ref qmo) (.ref qmz) (.ref qmR) (.ref qmv) (.ref qmk) (.ref qma) qmt kZ (.ref qmr) tA qmB qmO qmK iEn iTk (ov uP) (.ref r_1) kAt iTo iFr JFi iFa qm3 iSt iLv iWs vLa (.ref qmu) (.ref qmy) (.ref qmb) (.ref qms) (.int iOm) fMt fM3 rB rO rK hZ hB hPp hTI) L_X6_222 hN hP hD hS hA (trueIxs [[false, false, false, true], [true, true, false, false, true, true, true, true, true, true, true, true, true, true, true, true, true, true, true, true, true, true, true, true, true, true, true, true, true, true, true]]) (false :: false :: true :: false :: false :: false :: false :: false :: false :: false :: false :: false :: false :: false :: false :: false :: false :: false :: false :: false :: false :: false :: false :: false :: false :: false :: false :: false :: false :: false :: false :: true :: true :: true :: true :: true :: true :: true :: true :: true :: true :: true :: true :: true :: true :: true :: true :: true :: true :: true :: true :: true :: true :: true :: true :: true :: true :: true :: true :: []) (sels_eq rfl rfl) (by decide +kernel) rfl 3 5 rfl rfl SO_ok hX rfl ⟨Nat.le_of_ble_eq_true rfl, Nat.le_of_ble_eq_true rfl⟩ hl.1 (Nat.le_of_ble_eq_true rfl) (g_182 (v := 222) bX6_town rfl) ⟨Nat.le_of_ble_eq_true rfl, Nat.le_of_ble_eq_true rfl⟩ (fun r_14 u_16 H locs h_15 => ?_)
  clear hP hD hS
  intro hP hD hS
  obtain ⟨kX_17, kY_18, iX_19, JX_20, iY_21, iZ_22, tX_23, fX_24, hu9, h_25, h_15⟩ := h_15
  have hPD := pd_eq (_ :: zzO r_1 5 (xU_11 0 :: xU_11 1 :: xU_11 2 :: xU_11 3 :: xU_11 4 :: xU_11 5 :: xU_11 6 :: xU_11 7 :: xU_11 8 :: xU_11 9 :: .int (nI (T_nb tA)) :: .ref qUB_5 :: .int (nI (T_np tA)) :: .ref qUO_6 :: .ref qUK_7 :: .int iEn :: .int iTk :: .int (T_sd tA) :: xU_11 18 :: xU_11 19 :: xU_11 20 :: xU_11 21 :: xU_11 22 :: xU_11 23 :: xU_11 24 :: xU_11 25 :: xU_11 26 :: .int iLvU_12 :: .int iWsU_13 :: xU_11 29 :: xU_11 30 :: xU_11 31 :: xU_11 32 :: xU_11 33 :: xU_11 34 :: []) :: _ :: _ :: _ :: _ :: _ :: _ :: _ :: _ :: _ :: _ :: _ :: _ :: _ :: _ :: _ :: _ :: _ :: _ :: _ :: _ :: _ :: _ :: _ :: _ :: _ :: _ :: _ :: zzO qm 5 (.ref qmh :: .ref qmo :: .ref qmz :: .ref qmR :: .ref qmv :: .ref qmk :: .ref qma :: .ref qmt :: .int (nI kZ) :: .ref qmr :: .int (nI (T_nb tX_23)) :: .ref qmB :: .int (nI (T_np tX_23)) :: .ref qmO :: .ref qmK :: .int iEn :: .int iTk :: .int (T_sd tX_23) :: ov uP :: .ref r_1 :: .int (nI kY_18) :: .int iX_19 :: .int (nI kX_17) :: .long JX_20 :: .int iY_21 :: .ref qm3 :: .int iZ_22 :: .int iLv :: .int iWs :: vLa :: .ref qmu :: .ref qmy :: .ref qmb :: .ref qms :: .int iOm :: []) :: _ :: zzI cy qm3 3 fX_24 :: _ :: zzI cy (rB 0) 4 (bkR tX_23 0) :: zzI cy (rB 1) 4 (bkR tX_23 1) :: zzI cy (rB 2) 4 (bkR tX_23 2) :: zzI cy (rB 3) 4 (bkR tX_23 3) :: zzI cy (rB 4) 4 (bkR tX_23 4) :: zzI cy (rB 5) 4 (bkR tX_23 5) :: zzI cy (rB 6) 4 (bkR tX_23 6) :: zzI cy (rB 7) 4 (bkR tX_23 7) :: _ :: zzI cy (rO 0) 5 (onR tX_23 0) :: zzI cy (rO 1) 5 (onR tX_23 1) :: zzI cy (rO 2) 5 (onR tX_23 2) :: zzI cy (rO 3) 5 (onR tX_23 3) :: zzI cy (rO 4) 5 (onR tX_23 4) :: zzI cy (rO 5) 5 (onR tX_23 5) :: zzI cy (rO 6) 5 (onR tX_23 6) :: zzI cy (rO 7) 5 (onR tX_23 7) :: _ :: zzI cy (rK 0) 8 (T_kn tX_23 0) :: zzI cy (rK 1) 8 (T_kn tX_23 1) :: zzI cy (rK 2) 8 (T_kn tX_23 2) :: zzI cy (rK 3) 8 (T_kn tX_23 3) :: zzI cy (rK 4) 8 (T_kn tX_23 4) :: zzI cy (rK 5) 8 (T_kn tX_23 5) :: zzI cy (rK 6) 8 (T_kn tX_23 6) :: zzI cy (rK 7) 8 (T_kn tX_23 7) :: []) hP hD hu9 rfl
  clear hP hD hu9
  obtain ⟨hP, hD⟩ := hPD
  rcases h_15 with ⟨rfl, h_26⟩ | rfl
  · refine lv_istore_n (lv' := [(2, .int 1), (1, .ref r_1), (0, .ref qm)]) hx hb (g_61 bX6_town rfl) rfl hl (by decide +kernel) rfl (fun ls => ?_)
    clear hl
    intro hl
    refine lv_aload_n hx hb (g_42 bX6_town rfl) rfl (lv_at hl 2 rfl) ?_
    refine lv_iconst (v := 0) hx hb (g_3 bX6_town rfl) (by decide +kernel) ?_
    refine va_put (D := G) (ci := 5) (v := .int 0) (ty := .int) (C := RX6) (T := TX6) (N := 35) hx hb hts iX_X6 tyX6 tyX6_ok nmX6 hown hK hP hD hS 29 rfl rfl 8 (by decide +kernel) (hts _ m_t858) (fun _ h9 => h9) rfl (by decide +kernel) rfl rfl (Nat.le_of_ble_eq_true rfl) (g_181 (v := 141) bX6_town rfl) (fun H locs => ?_)
    clear hP hD hS
    intro hP hD hS
    have hPD := pd_as (_ :: _ :: _ :: _ :: _ :: _ :: _ :: _ :: _ :: _ :: _ :: _ :: _ :: _ :: _ :: _ :: _ :: _ :: _ :: _ :: _ :: _ :: _ :: _ :: _ :: _ :: _ :: _ :: _ :: zzO qm 5 (.ref qmh :: .ref qmo :: .ref qmz :: .ref qmR :: .ref qmv :: .ref qmk :: .ref qma :: .ref qmt :: .int 0 :: .ref qmr :: .int (nI (T_nb tX_23)) :: .ref qmB :: .int (nI (T_np tX_23)) :: .ref qmO :: .ref qmK :: .int iEn :: .int iTk :: .int (T_sd tX_23) :: ov uP :: .ref r_1 :: .int (nI kY_18) :: .int iX_19 :: .int (nI kX_17) :: .long JX_20 :: .int iY_21 :: .ref qm3 :: .int iZ_22 :: .int iLv :: .int iWs :: vLa :: .ref qmu :: .ref qmy :: .ref qmb :: .ref qms :: .int iOm :: []) :: _ :: _ :: _ :: _ :: _ :: _ :: _ :: _ :: _ :: _ :: _ :: _ :: _ :: _ :: _ :: _ :: _ :: _ :: _ :: _ :: _ :: _ :: _ :: _ :: _ :: _ :: _ :: _ :: _ :: []) hP hD rfl
    clear hP hD
    obtain ⟨hP, hD⟩ := hPD
    have hPD := pd_as (_ :: _ :: _ :: _ :: _ :: _ :: _ :: _ :: _ :: _ :: _ :: _ :: _ :: _ :: _ :: _ :: _ :: _ :: _ :: _ :: _ :: _ :: _ :: _ :: _ :: _ :: _ :: _ :: _ :: zzO qm 5 (.ref qmh :: .ref qmo :: .ref qmz :: .ref qmR :: .ref qmv :: .ref qmk :: .ref qma :: .ref qmt :: .int (nI 0) :: .ref qmr :: .int (nI (T_nb tX_23)) :: .ref qmB :: .int (nI (T_np tX_23)) :: .ref qmO :: .ref qmK :: .int iEn :: .int iTk :: .int (T_sd tX_23) :: ov uP :: .ref r_1 :: .int (nI kY_18) :: .int iX_19 :: .int (nI kX_17) :: .long JX_20 :: .int iY_21 :: .ref qm3 :: .int iZ_22 :: .int iLv :: .int iWs :: vLa :: .ref qmu :: .ref qmy :: .ref qmb :: .ref qms :: .int iOm :: []) :: _ :: _ :: _ :: _ :: _ :: _ :: _ :: _ :: _ :: _ :: _ :: _ :: _ :: _ :: _ :: _ :: _ :: _ :: _ :: _ :: _ :: _ :: _ :: _ :: _ :: _ :: _ :: _ :: _ :: []) hP hD rfl
    clear hP hD
    obtain ⟨hP, hD⟩ := hPD
    refine lv_iload_n hx hb (g_28 bX6_town rfl) rfl (lv_at hl 0 rfl) ?_
    refine lv_if_ne (tgt := 39) hx hb dX6_town_16 (by decide +kernel) (fun _ => ?_) (fun h9 => absurd h9 (by decide +kernel))
    refine lv_aload_n hx hb (g_42 bX6_town rfl) rfl (lv_at hl 2 rfl) ?_
    refine va_get (D := G) (ci := 5) (v := .int iZ_22) (C := RX6) (T := TX6) (N := 35) hx hb hts iX_X6 hown hK hP 29 rfl rfl 26 (by decide +kernel) (hts _ m_t876) (fun _ h9 => h9) rfl (g_180 (v := 216) bX6_town rfl) ?_
    exact endWs [[false, false, false, false, false, false, false, false, false, false, false, false, false, false, false, false, false, false, false, false, false, false, false, false, false, false, false, false, false, true, true, true], (true :: false :: false :: false :: false :: false :: false :: false :: false :: false :: false :: false :: false :: false :: false :: false :: false :: false :: false :: false :: false :: false :: false :: false :: false :: false :: false :: false :: false :: false :: false :: false :: true :: true :: true :: true :: true :: true :: true :: true :: true :: true :: true :: true :: true :: true :: true :: true :: true :: true :: true :: true :: true :: true :: true :: true :: true :: true :: true :: []), [false, true, true, true, true, true, true, true, true, true, true, true, true, true, true, true, true, true, true, true, true, true, true, true, true, true, true, true, true]] hx hb hr hlocks rfl hP hD rfl (by decide +kernel) hS ⟨0, iEn, iTk, kY_18, iX_19, (nI kX_17), JX_20, iY_21, iZ_22, fX_24, fMr, tX_23, (some (r_1, qUB_5, qUO_6, qUK_7, rUB_8, rUO_9, rUK_10, tA, xU_11, iEn, iTk, iLvU_12, iWsU_13)), rfl, ⟨h_26, rfl⟩, trivial⟩ (g_172 bX6_town rfl)
  · refine lv_istore_n (lv' := [(2, .int 0), (1, .ref r_1), (0, .ref qm)]) hx hb (g_61 bX6_town rfl) rfl hl (by decide +kernel) rfl (fun ls => ?_)
    clear hl
    intro hl
    refine lv_aload_n hx hb (g_42 bX6_town rfl) rfl (lv_at hl 2 rfl) ?_
    refine lv_iconst (v := 0) hx hb (g_3 bX6_town rfl) (by decide +kernel) ?_
    refine va_put (D := G) (ci := 5) (v := .int 0) (ty := .int) (C := RX6) (T := TX6) (N := 35) hx hb hts iX_X6 tyX6 tyX6_ok nmX6 hown hK hP hD hS 29 rfl rfl 8 (by decide +kernel) (hts _ m_t858) (fun _ h9 => h9) rfl (by decide +kernel) rfl rfl (Nat.le_of_ble_eq_true rfl) (g_181 (v := 141) bX6_town rfl) (fun H locs => ?_)
    clear hP hD hS
    intro hP hD hS
    have hPD := pd_as (_ :: _ :: _ :: _ :: _ :: _ :: _ :: _ :: _ :: _ :: _ :: _ :: _ :: _ :: _ :: _ :: _ :: _ :: _ :: _ :: _ :: _ :: _ :: _ :: _ :: _ :: _ :: _ :: _ :: _ :: _ :: _ :: _ :: _ :: _ :: _ :: _ :: _ :: _ :: _ :: _ :: _ :: _ :: _ :: _ :: _ :: _ :: _ :: _ :: _ :: _ :: _ :: _ :: _ :: _ :: _ :: _ :: _ :: _ :: []) hP hD rfl
    clear hP hD
    obtain ⟨hP, hD⟩ := hPD
    have hPD := pd_as (_ :: _ :: _ :: _ :: _ :: _ :: _ :: _ :: _ :: _ :: _ :: _ :: _ :: _ :: _ :: _ :: _ :: _ :: _ :: _ :: _ :: _ :: _ :: _ :: _ :: _ :: _ :: _ :: _ :: _ :: _ :: _ :: _ :: _ :: _ :: _ :: _ :: _ :: _ :: _ :: _ :: _ :: _ :: _ :: _ :: _ :: _ :: _ :: _ :: _ :: _ :: _ :: _ :: _ :: _ :: _ :: _ :: _ :: _ :: []) hP hD rfl
    clear hP hD
    obtain ⟨hP, hD⟩ := hPD
    refine lv_iload_n hx hb (g_28 bX6_town rfl) rfl (lv_at hl 0 rfl) ?_
    refine lv_if_ne (tgt := 39) hx hb dX6_town_16 (by decide +kernel) (fun h9 => absurd (by decide +kernel) h9) (fun _ => ?_)
    refine lv_aload_n hx hb (g_42 bX6_town rfl) rfl (lv_at hl 2 rfl) ?_
    refine lv_aload_n hx hb (g_43 bX6_town rfl) rfl (lv_at hl 1 rfl) ?_
    refine cVv (As := [.ref r_1]) (rest := []) (b := qm) (q := (RX6, TX6, 35)) ⟨hx, hb, hml, hown, hts⟩ (c_X6_takeFrom l G cy (H).size qm (.ref qmh) (.ref qmo) (.ref qmz) (.ref qmR) (.ref qmv) (.ref qmk) (.ref qma) (.ref qmt) (.int (nI 0)) (.ref qmr) tX_23 qmB qmO qmK iEn iTk (ov uP) (.ref r_1) (.int (nI kY_18)) (.int iX_19) (.int (nI kX_17)) (.long JX_20) (.int iY_21) (.ref qm3) (.int iZ_22) iLv iWs vLa (.ref qmu) (.ref qmy) (.ref qmb) (.ref qms) (.int iOm) rB rO rK r_1 (xU_11 0) (xU_11 1) (xU_11 2) (xU_11 3) (xU_11 4) (xU_11 5) (xU_11 6) (xU_11 7) (xU_11 8) (xU_11 9) tA qUB_5 qUO_6 qUK_7 iEn iTk (xU_11 18) (xU_11 19) (xU_11 20) (xU_11 21) (xU_11 22) (xU_11 23) (xU_11 24) (xU_11 25) (xU_11 26) iLvU_12 iWsU_13 (xU_11 29) (xU_11 30) (xU_11 31) (xU_11 32) (xU_11 33) (xU_11 34) rUB_8 rUO_9 rUK_10) L_X6_225 hN hP hD hS hA (trueIxs [(false :: false :: false :: false :: false :: false :: false :: false :: false :: false :: false :: false :: false :: false :: false :: false :: false :: false :: false :: false :: false :: false :: false :: false :: false :: false :: false :: false :: false :: true :: false :: false :: true :: true :: true :: true :: true :: true :: true :: true :: true :: true :: true :: true :: true :: true :: true :: true :: true :: true :: true :: true :: true :: true :: true :: true :: true :: true :: true :: []), [false, true, true, true, true, true, true, true, true, true, true, true, true, true, true, true, true, true, true, true, true, true, true, true, true, true, true, true, true]]) (true :: false :: false :: false :: false :: false :: false :: false :: false :: false :: false :: false :: false :: false :: false :: false :: false :: false :: false :: false :: false :: false :: false :: false :: false :: false :: false :: false :: false :: false :: true :: true :: false :: false :: false :: false :: false :: false :: false :: false :: false :: false :: false :: false :: false :: false :: false :: false :: false :: false :: false :: false :: false :: false :: false :: false :: false :: false :: false :: []) (sels_eq rfl rfl) (by decide +kernel) rfl 29 5 rfl rfl rfl ⟨Nat.le_of_ble_eq_true rfl, Nat.le_of_ble_eq_true rfl⟩ hl.1 (Nat.le_of_ble_eq_true rfl) (g_182 (v := 225) bX6_town rfl) ⟨Nat.le_of_ble_eq_true rfl, Nat.le_of_ble_eq_true rfl⟩ (fun u_31 H locs h_30 => ?_)
    clear hP hD hS
    intro hP hD hS
    have hPD := pd_eq (_ :: _ :: _ :: zzO qm 5 (.ref qmh :: .ref qmo :: .ref qmz :: .ref qmR :: .ref qmv :: .ref qmk :: .ref qma :: .ref qmt :: .int (nI 0) :: .ref qmr :: .int (nI (T_nb tA)) :: .ref qmB :: .int (nI (T_np tA)) :: .ref qmO :: .ref qmK :: .int iEn :: .int iTk :: .int (T_sd tA) :: ov uP :: .ref r_1 :: .int (nI kY_18) :: .int iX_19 :: .int (nI kX_17) :: .long JX_20 :: .int iY_21 :: .ref qm3 :: .int iZ_22 :: .int iLv :: .int iWs :: vLa :: .ref qmu :: .ref qmy :: .ref qmb :: .ref qms :: .int iOm :: []) :: _ :: _ :: _ :: _ :: _ :: _ :: _ :: _ :: _ :: _ :: _ :: _ :: _ :: _ :: _ :: _ :: _ :: _ :: _ :: _ :: _ :: _ :: _ :: _ :: _ :: _ :: _ :: _ :: _ :: _ :: _ :: _ :: _ :: _ :: _ :: _ :: _ :: _ :: _ :: _ :: _ :: _ :: _ :: _ :: _ :: _ :: _ :: _ :: _ :: _ :: _ :: _ :: _ :: _ :: _ :: []) hP hD h_30 rfl
    clear hP hD h_30
    obtain ⟨hP, hD⟩ := hPD
    refine lv_aload_n hx hb (g_42 bX6_town rfl) rfl (lv_at hl 2 rfl) ?_
    refine lv_bipush (v := (-2)) hx hb dX6_town_25 (by decide +kernel) ?_
    refine cVi (As := [.int (-2)]) (rest := []) (b := qm) (q := (RX6, TX6, 35)) ⟨hx, hb, hml, hown, hts⟩ (c_X6_refuse2 l G cy (H).size qm (.ref qmh) (.ref qmo) (.ref qmz) (.ref qmR) (.ref qmv) (.ref qmk) (.ref qma) (.ref qmt) (.int (nI 0)) qmr tA qmB qmO qmK iEn iTk (ov uP) (.ref r_1) (.int (nI kY_18)) (.int iX_19) (.int (nI kX_17)) (.long JX_20) (.int iY_21) (.ref qm3) (.int iZ_22) iLv iWs vLa (.ref qmu) (.ref qmy) (.ref qmb) (.ref qms) (.int iOm) fMr) L_X6_91 hN hP hD hS hA [3, 0] (false :: true :: true :: false :: true :: true :: true :: true :: true :: true :: true :: true :: true :: true :: true :: true :: true :: true :: true :: true :: true :: true :: true :: true :: true :: true :: true :: true :: true :: true :: true :: true :: true :: true :: true :: true :: true :: true :: true :: true :: true :: true :: true :: true :: true :: true :: true :: true :: true :: true :: true :: true :: true :: true :: true :: true :: true :: true :: true :: []) rfl (by decide +kernel) rfl 3 5 rfl rfl rfl ⟨Nat.le_of_ble_eq_true rfl, Nat.le_of_ble_eq_true rfl⟩ hl.1 (Nat.le_of_ble_eq_true rfl) (g_182 (v := 91) bX6_town rfl) ⟨Nat.le_of_ble_eq_true rfl, Nat.le_of_ble_eq_true rfl⟩ (fun r_32 u_34 H locs h_33 => ?_)
    clear hP hD hS
    intro hP hD hS
    obtain ⟨fX_35, hu9, h_33⟩ := h_33
    have hPD := pd_eq (_ :: _ :: _ :: _ :: _ :: _ :: _ :: _ :: _ :: _ :: _ :: _ :: _ :: _ :: _ :: _ :: _ :: _ :: _ :: _ :: _ :: _ :: _ :: _ :: _ :: _ :: _ :: _ :: _ :: _ :: _ :: _ :: _ :: _ :: _ :: _ :: _ :: _ :: _ :: _ :: _ :: _ :: _ :: _ :: _ :: _ :: _ :: _ :: _ :: _ :: _ :: _ :: _ :: _ :: _ :: _ :: _ :: _ :: zzI cy qmr 8 fX_35 :: []) hP hD hu9 rfl
    clear hP hD hu9
    obtain ⟨hP, hD⟩ := hPD
    subst h_33
    refine lv_pop hx hb (g_87 bX6_town rfl) rfl ?_
    refine lv_bipush (v := (-20)) hx hb dX6_town_31 (by decide +kernel) ?_
    refine lv_aload_n hx hb (g_42 bX6_town rfl) rfl (lv_at hl 2 rfl) ?_
    refine va_get (D := G) (ci := 5) (v := .int iY_21) (C := RX6) (T := TX6) (N := 35) hx hb hts iX_X6 hown hK hP 57 rfl rfl 24 (by decide +kernel) (hts _ m_t874) (fun _ h9 => h9) rfl (g_180 (v := 167) bX6_town rfl) ?_
    refine lv_isub hx hb (g_100 bX6_town rfl) ?_
    exact endWs [(false :: false :: false :: false :: false :: false :: false :: false :: false :: false :: false :: false :: false :: false :: false :: false :: false :: false :: false :: false :: false :: false :: false :: false :: false :: false :: false :: false :: false :: false :: false :: false :: false :: false :: false :: false :: false :: false :: false :: false :: false :: false :: false :: false :: false :: false :: false :: false :: false :: false :: false :: false :: false :: false :: false :: false :: false :: true :: []), (true :: true :: false :: false :: false :: false :: false :: false :: false :: false :: false :: false :: false :: false :: false :: false :: false :: false :: false :: false :: false :: false :: false :: false :: false :: false :: false :: false :: false :: false :: false :: false :: false :: false :: false :: false :: false :: false :: false :: false :: false :: false :: false :: false :: false :: false :: false :: false :: false :: false :: false :: false :: false :: false :: false :: false :: false :: false :: true :: []), (false :: false :: true :: true :: true :: true :: true :: true :: true :: true :: true :: true :: true :: true :: true :: true :: true :: true :: true :: true :: true :: true :: true :: true :: true :: true :: true :: true :: true :: true :: true :: true :: true :: true :: true :: true :: true :: true :: true :: true :: true :: true :: true :: true :: true :: true :: true :: true :: true :: true :: true :: true :: true :: true :: true :: true :: true :: [])] hx hb hr hlocks rfl hP hD rfl (by decide +kernel) hS ⟨0, iEn, iTk, kY_18, iX_19, (nI kX_17), JX_20, iY_21, iZ_22, fX_24, fX_35, tA, (some (r_1, qUB_5, qUO_6, qUK_7, rUB_8, rUO_9, rUK_10, tA, xU_11, iEn, iTk, iLvU_12, iWsU_13)), rfl, ⟨hTI, rfl⟩, trivial⟩ (g_172 bX6_town rfl)
set_option maxHeartbeats 4000000 in
set_option maxRecDepth 100000 in
theorem p_X6_bookOf (l : Launch) (G : va_G) (cy : Nat → ClassId) (sz : Nat) (qm : Nat) (qmh : Nat) (qmo : Nat) (qmz : Nat) (qmR : Nat) (qmv : Nat) (qmk : Nat) (qma : Nat) (qmt : Nat) (kZ : Nat) (qmr : Nat) (tA : TA) (qmB : Nat) (qmO : Nat) (qmK : Nat) (iEn : Int32) (iTk : Int32) (uP : UM) (uU : UM) (kAt : Nat) (iTo : Int32) (iFr : Int32) (JFi : Int64) (iFa : Int32) (qm3 : Nat) (iSt : Int32) (iLv : Int32) (iWs : Int32) (vLa : Value) (qmu : Nat) (qmy : Nat) (qmb : Nat) (qms : Nat) (iOm : Int32) (rB : Nat → Nat) (rO : Nat → Nat) (rK : Nat → Nat) (fMr : Nat → Int32) (iA : Int32) (iB : Int32)  (hB : T_nb tA ≤ 8) (hPp : T_np tA ≤ 8) (hTI : TI tA) : MW l yX6_bookOf cX6_bookOf 3 (some .int) 16 0 0 G cy [zzO qm 5 (.ref qmh :: .ref qmo :: .ref qmz :: .ref qmR :: .ref qmv :: .ref qmk :: .ref qma :: .ref qmt :: .int (nI kZ) :: .ref qmr :: .int (nI (T_nb tA)) :: .ref qmB :: .int (nI (T_np tA)) :: .ref qmO :: .ref qmK :: .int iEn :: .int iTk :: .int (T_sd tA) :: ov uP :: ov uU :: .int (nI kAt) :: .int iTo :: .int iFr :: .long JFi :: .int iFa :: .ref qm3 :: .int iSt :: .int iLv :: .int iWs :: vLa :: .ref qmu :: .ref qmy :: .ref qmb :: .ref qms :: .int iOm :: []), zzG cy 3 qmB rB, zzI cy (rB 0) 4 (bkR tA 0), zzI cy (rB 1) 4 (bkR tA 1), zzI cy (rB 2) 4 (bkR tA 2), zzI cy (rB 3) 4 (bkR tA 3), zzI cy (rB 4) 4 (bkR tA 4), zzI cy (rB 5) 4 (bkR tA 5), zzI cy (rB 6) 4 (bkR tA 6), zzI cy (rB 7) 4 (bkR tA 7), zzG cy 3 qmO rO, zzI cy (rO 0) 5 (onR tA 0), zzI cy (rO 1) 5 (onR tA 1), zzI cy (rO 2) 5 (onR tA 2), zzI cy (rO 3) 5 (onR tA 3), zzI cy (rO 4) 5 (onR tA 4), zzI cy (rO 5) 5 (onR tA 5), zzI cy (rO 6) 5 (onR tA 6), zzI cy (rO 7) 5 (onR tA 7), zzG cy 3 qmK rK, zzI cy (rK 0) 8 (T_kn tA 0), zzI cy (rK 1) 8 (T_kn tA 1), zzI cy (rK 2) 8 (T_kn tA 2), zzI cy (rK 3) 8 (T_kn tA 3), zzI cy (rK 4) 8 (T_kn tA 4), zzI cy (rK 5) 8 (T_kn tA 5), zzI cy (rK 6) 8 (T_kn tA 6), zzI cy (rK 7) 8 (T_kn tA 7), zzI cy qmr 8 fMr] sz [.ref qm, .int iA, .int iB] (Wi G (fun r u => ∃ (fNr : Nat → Int32), u = [zzO qm 5 (.ref qmh :: .ref qmo :: .ref qmz :: .ref qmR :: .ref qmv :: .ref qmk :: .ref qma :: .ref qmt :: .int (nI kZ) :: .ref qmr :: .int (nI (T_nb tA)) :: .ref qmB :: .int (nI (T_np tA)) :: .ref qmO :: .ref qmK :: .int iEn :: .int iTk :: .int (T_sd tA) :: ov uP :: ov uU :: .int (nI kAt) :: .int iTo :: .int iFr :: .long JFi :: .int iFa :: .ref qm3 :: .int iSt :: .int iLv :: .int iWs :: vLa :: .ref qmu :: .ref qmy :: .ref qmb :: .ref qms :: .int iOm :: []), zzG cy 3 qmB rB, zzI cy (rB 0) 4 (bkR tA 0), zzI cy (rB 1) 4 (bkR tA 1), zzI cy (rB 2) 4 (bkR tA 2), zzI cy (rB 3) 4 (bkR tA 3), zzI cy (rB 4) 4 (bkR tA 4), zzI cy (rB 5) 4 (bkR tA 5), zzI cy (rB 6) 4 (bkR tA 6), zzI cy (rB 7) 4 (bkR tA 7), zzG cy 3 qmO rO, zzI cy (rO 0) 5 (onR tA 0), zzI cy (rO 1) 5 (onR tA 1), zzI cy (rO 2) 5 (onR tA 2), zzI cy (rO 3) 5 (onR tA 3), zzI cy (rO 4) 5 (onR tA 4), zzI cy (rO 5) 5 (onR tA 5), zzI cy (rO 6) 5 (onR tA 6), zzI cy (rO 7) 5 (onR tA 7), zzG cy 3 qmK rK, zzI cy (rK 0) 8 (T_kn tA 0), zzI cy (rK 1) 8 (T_kn tA 1), zzI cy (rK 2) 8 (T_kn tA 2), zzI cy (rK 3) 8 (T_kn tA 3), zzI cy (rK 4) 8 (T_kn tA 4), zzI cy (rK 5) 8 (T_kn tA 5), zzI cy (rK 6) 8 (T_kn tA 6), zzI cy (rK 7) 8 (T_kn tA 7), zzI cy qmr 8 fNr] ∧ (True))) := by
  refine enW RX6 (by decide +kernel) rfl (Nat.le_of_ble_eq_true rfl) (fun p e s m below meth c ls A hx hb hml hown hts hr hlocks hP hN hl hin hD hA hS => ?_)
  have hin : meth.name = _ := hin
  have hK := hN.1
  replace hl : lv_has ls 3 [(0, .ref qm), (1, .int iA), (2, .int iB)] := hl
  refine lv_aload_n hx hb (g_42 bX6_bookOf rfl) rfl (lv_at hl 0 rfl) ?_
  refine lv_iload_n hx hb (g_27 bX6_bookOf rfl) rfl (lv_at hl 1 rfl) ?_
  refine lv_i2l (v := iA.toInt64) hx hb (g_133 bX6_bookOf rfl) rfl ?_
  refine kRi (rV (As := [.long iA.toInt64]) (rest := []) (b := qm) ⟨hx, hb, hml, hown, hts⟩ (c_X6_isBook l G cy qm (.ref qmh) (.ref qmo) (.ref qmz) (.ref qmR) (.ref qmv) (.ref qmk) (.ref qma) (.ref qmt) (.int (nI kZ)) (.ref qmr) tA qmB qmO qmK iEn iTk (ov uP) (ov uU) (.int (nI kAt)) (.int iTo) (.int iFr) (.long JFi) (.int iFa) (.ref qm3) (.int iSt) iLv iWs vLa (.ref qmu) (.ref qmy) (.ref qmb) (.ref qms) (.int iOm) iA hB) L_X6_229 (preRV (q := (RX6, TX6, 35)) hN hP [0] rfl 0 5 rfl rfl) rfl ⟨Nat.le_of_ble_eq_true rfl, Nat.le_of_ble_eq_true rfl⟩ hl.1 (Nat.le_of_ble_eq_true rfl) (g_182 (v := 229) bX6_bookOf rfl) ⟨Nat.le_of_ble_eq_true rfl, Nat.le_of_ble_eq_true rfl⟩) (fun r_1 h_2 => ?_)
  rcases h_2 with ⟨rfl, h_3⟩ | ⟨rfl, h_3⟩
  · obtain ⟨k_4, hk_5, rfl⟩ := h_3
    refine lv_if_eq (tgt := 21) hx hb dX6_bookOf_6 (by decide +kernel) (fun h9 => absurd h9 (by decide +kernel)) (fun _ => ?_)
    refine lv_iload_n hx hb (g_28 bX6_bookOf rfl) rfl (lv_at hl 2 rfl) ?_
    refine lv_i2l (v := iB.toInt64) hx hb (g_133 bX6_bookOf rfl) rfl ?_
    refine lv_lconst (v := 0) hx hb (g_9 bX6_bookOf rfl) (by decide +kernel) ?_
    refine lv_ldc2 hx hb hown (hts _ m_t964) (g_20 (v := 87) bX6_bookOf rfl) ?_
    refine kRi (rS (As := [.long iB.toInt64, .long 0, .long 4]) (rest := []) ⟨hx, hb, hml, hown, hts⟩ (c_X6_in l G cy iB.toInt64 0 4) L_X6_74 (preRS hN hP [] rfl) rfl ⟨Nat.le_of_ble_eq_true rfl, Nat.le_of_ble_eq_true rfl⟩ hl.1 (Nat.le_of_ble_eq_true rfl) (g_184 (v := 74) bX6_bookOf rfl) ⟨Nat.le_of_ble_eq_true rfl, Nat.le_of_ble_eq_true rfl⟩) (fun r_7 h_8 => ?_)
    rcases h_8 with ⟨rfl, h_9⟩ | ⟨rfl, h_9⟩
    · refine lv_if_ne (tgt := 28) hx hb dX6_bookOf_18 (by decide +kernel) (fun _ => ?_) (fun h9 => absurd h9 (by decide +kernel))
      rcases in04 h_9 with rfl | rfl | rfl | rfl | rfl
      · refine lv_iload_n hx hb (g_28 bX6_bookOf rfl) rfl (lv_at hl 2 rfl) ?_
        refine lv_iconst (v := 4) hx hb (g_7 bX6_bookOf rfl) (by decide +kernel) ?_
        refine lv_icmp_ne (tgt := 49) hx hb dX6_bookOf_30 (by decide +kernel) (fun _ => ?_) (fun h9 => absurd h9 (by decide +kernel))
        refine lv_aload_n hx hb (g_42 bX6_bookOf rfl) rfl (lv_at hl 0 rfl) ?_
        refine va_get (D := G) (ci := 5) (v := .ref qmB) (C := RX6) (T := TX6) (N := 35) hx hb hts iX_X6 hown hK hP 0 rfl rfl 11 (by decide +kernel) (hts _ m_t861) (fun _ h9 => h9) rfl (g_180 (v := 42) bX6_bookOf rfl) ?_
        refine lv_iload_n hx hb (g_27 bX6_bookOf rfl) rfl (lv_at hl 1 rfl) ?_
        refine va_alda hx hb hK hP 1 3 rfl rfl (in8 (by omega)) (g_50 bX6_bookOf rfl) ?_
        refine lv_setv (v := .ref (rB k_4)) (g_ref (by omega)) ?_
        refine lv_iload_n hx hb (g_28 bX6_bookOf rfl) rfl (lv_at hl 2 rfl) ?_
        refine va_iald hx hb hK hP (2 + k_4) 0 (sg8 (n0 := 2) (f := (fun j => zzI cy (rB j) 4 (bkR tA j))) rfl rfl rfl rfl rfl rfl rfl rfl k_4 (by omega)) rfl (in_c rfl) (g_46 bX6_bookOf rfl) ?_
        refine lv_seti (v := T_wo tA k_4) (bk_0 _ _) ?_
        exact endWs [[true, true, true, true, true, true, true, true, true, true, true, true, true, true, true, true, true, true, true, true, true, true, true, true, true, true, true, true, true]] hx hb hr hlocks rfl hP hD rfl (by decide +kernel) hS ⟨fMr, rfl, trivial⟩ (g_172 bX6_bookOf rfl)
      · refine lv_iload_n hx hb (g_28 bX6_bookOf rfl) rfl (lv_at hl 2 rfl) ?_
        refine lv_iconst (v := 4) hx hb (g_7 bX6_bookOf rfl) (by decide +kernel) ?_
        refine lv_icmp_ne (tgt := 49) hx hb dX6_bookOf_30 (by decide +kernel) (fun _ => ?_) (fun h9 => absurd h9 (by decide +kernel))
        refine lv_aload_n hx hb (g_42 bX6_bookOf rfl) rfl (lv_at hl 0 rfl) ?_
        refine va_get (D := G) (ci := 5) (v := .ref qmB) (C := RX6) (T := TX6) (N := 35) hx hb hts iX_X6 hown hK hP 0 rfl rfl 11 (by decide +kernel) (hts _ m_t861) (fun _ h9 => h9) rfl (g_180 (v := 42) bX6_bookOf rfl) ?_
        refine lv_iload_n hx hb (g_27 bX6_bookOf rfl) rfl (lv_at hl 1 rfl) ?_
        refine va_alda hx hb hK hP 1 3 rfl rfl (in8 (by omega)) (g_50 bX6_bookOf rfl) ?_
        refine lv_setv (v := .ref (rB k_4)) (g_ref (by omega)) ?_
        refine lv_iload_n hx hb (g_28 bX6_bookOf rfl) rfl (lv_at hl 2 rfl) ?_
        refine va_iald hx hb hK hP (2 + k_4) 0 (sg8 (n0 := 2) (f := (fun j => zzI cy (rB j) 4 (bkR tA j))) rfl rfl rfl rfl rfl rfl rfl rfl k_4 (by omega)) rfl (in_c rfl) (g_46 bX6_bookOf rfl) ?_
        refine lv_seti (v := T_ne tA k_4) (bk_1 _ _) ?_
        exact endWs [[true, true, true, true, true, true, true, true, true, true, true, true, true, true, true, true, true, true, true, true, true, true, true, true, true, true, true, true, true]] hx hb hr hlocks rfl hP hD rfl (by decide +kernel) hS ⟨fMr, rfl, trivial⟩ (g_172 bX6_bookOf rfl)
      · refine lv_iload_n hx hb (g_28 bX6_bookOf rfl) rfl (lv_at hl 2 rfl) ?_
        refine lv_iconst (v := 4) hx hb (g_7 bX6_bookOf rfl) (by decide +kernel) ?_
        refine lv_icmp_ne (tgt := 49) hx hb dX6_bookOf_30 (by decide +kernel) (fun _ => ?_) (fun h9 => absurd h9 (by decide +kernel))
        refine lv_aload_n hx hb (g_42 bX6_bookOf rfl) rfl (lv_at hl 0 rfl) ?_
        refine va_get (D := G) (ci := 5) (v := .ref qmB) (C := RX6) (T := TX6) (N := 35) hx hb hts iX_X6 hown hK hP 0 rfl rfl 11 (by decide +kernel) (hts _ m_t861) (fun _ h9 => h9) rfl (g_180 (v := 42) bX6_bookOf rfl) ?_
        refine lv_iload_n hx hb (g_27 bX6_bookOf rfl) rfl (lv_at hl 1 rfl) ?_
        refine va_alda hx hb hK hP 1 3 rfl rfl (in8 (by omega)) (g_50 bX6_bookOf rfl) ?_
        refine lv_setv (v := .ref (rB k_4)) (g_ref (by omega)) ?_
        refine lv_iload_n hx hb (g_28 bX6_bookOf rfl) rfl (lv_at hl 2 rfl) ?_
        refine va_iald hx hb hK hP (2 + k_4) 0 (sg8 (n0 := 2) (f := (fun j => zzI cy (rB j) 4 (bkR tA j))) rfl rfl rfl rfl rfl rfl rfl rfl k_4 (by omega)) rfl (in_c rfl) (g_46 bX6_bookOf rfl) ?_
        refine lv_seti (v := T_go tA k_4) (bk_2 _ _) ?_
        exact endWs [[true, true, true, true, true, true, true, true, true, true, true, true, true, true, true, true, true, true, true, true, true, true, true, true, true, true, true, true, true]] hx hb hr hlocks rfl hP hD rfl (by decide +kernel) hS ⟨fMr, rfl, trivial⟩ (g_172 bX6_bookOf rfl)
      · refine lv_iload_n hx hb (g_28 bX6_bookOf rfl) rfl (lv_at hl 2 rfl) ?_
        refine lv_iconst (v := 4) hx hb (g_7 bX6_bookOf rfl) (by decide +kernel) ?_
        refine lv_icmp_ne (tgt := 49) hx hb dX6_bookOf_30 (by decide +kernel) (fun _ => ?_) (fun h9 => absurd h9 (by decide +kernel))
        refine lv_aload_n hx hb (g_42 bX6_bookOf rfl) rfl (lv_at hl 0 rfl) ?_
        refine va_get (D := G) (ci := 5) (v := .ref qmB) (C := RX6) (T := TX6) (N := 35) hx hb hts iX_X6 hown hK hP 0 rfl rfl 11 (by decide +kernel) (hts _ m_t861) (fun _ h9 => h9) rfl (g_180 (v := 42) bX6_bookOf rfl) ?_
        refine lv_iload_n hx hb (g_27 bX6_bookOf rfl) rfl (lv_at hl 1 rfl) ?_
        refine va_alda hx hb hK hP 1 3 rfl rfl (in8 (by omega)) (g_50 bX6_bookOf rfl) ?_
        refine lv_setv (v := .ref (rB k_4)) (g_ref (by omega)) ?_
        refine lv_iload_n hx hb (g_28 bX6_bookOf rfl) rfl (lv_at hl 2 rfl) ?_
        refine va_iald hx hb hK hP (2 + k_4) 0 (sg8 (n0 := 2) (f := (fun j => zzI cy (rB j) 4 (bkR tA j))) rfl rfl rfl rfl rfl rfl rfl rfl k_4 (by omega)) rfl (in_c rfl) (g_46 bX6_bookOf rfl) ?_
        refine lv_seti (v := b01 (T_wh tA k_4)) (bk_3 _ _) ?_
        exact endWs [[true, true, true, true, true, true, true, true, true, true, true, true, true, true, true, true, true, true, true, true, true, true, true, true, true, true, true, true, true]] hx hb hr hlocks rfl hP hD rfl (by decide +kernel) hS ⟨fMr, rfl, trivial⟩ (g_172 bX6_bookOf rfl)
      · refine lv_iload_n hx hb (g_28 bX6_bookOf rfl) rfl (lv_at hl 2 rfl) ?_
        refine lv_iconst (v := 4) hx hb (g_7 bX6_bookOf rfl) (by decide +kernel) ?_
        refine lv_icmp_ne (tgt := 49) hx hb dX6_bookOf_30 (by decide +kernel) (fun h9 => absurd (by decide +kernel) h9) (fun _ => ?_)
        refine lv_aload_n hx hb (g_42 bX6_bookOf rfl) rfl (lv_at hl 0 rfl) ?_
        refine lv_iload_n hx hb (g_27 bX6_bookOf rfl) rfl (lv_at hl 1 rfl) ?_
        refine lv_iconst (v := 1) hx hb (g_4 bX6_bookOf rfl) (by decide +kernel) ?_
        refine lv_aload_n hx hb (g_42 bX6_bookOf rfl) rfl (lv_at hl 0 rfl) ?_
        refine va_get (D := G) (ci := 5) (v := .int (nI (T_np tA))) (C := RX6) (T := TX6) (N := 35) hx hb hts iX_X6 hown hK hP 0 rfl rfl 12 (by decide +kernel) (hts _ m_t862) (fun _ h9 => h9) rfl (g_180 (v := 78) bX6_bookOf rfl) ?_
        refine lv_ishl hx hb (g_120 bX6_bookOf rfl) ?_
        refine lv_iconst (v := 1) hx hb (g_4 bX6_bookOf rfl) (by decide +kernel) ?_
        refine lv_isub hx hb (g_100 bX6_bookOf rfl) ?_
        refine kRi (rV (As := [.int (nI k_4), .int ((1 <<< ((nI (T_np tA)) &&& 31)) - 1)]) (rest := []) (b := qm) ⟨hx, hb, hml, hown, hts⟩ (c_X6_greatest l G cy qm (.ref qmh) (.ref qmo) (.ref qmz) (.ref qmR) (.ref qmv) (.ref qmk) (.ref qma) (.ref qmt) (.int (nI kZ)) (.ref qmr) tA qmB qmO qmK iEn iTk (ov uP) (ov uU) (.int (nI kAt)) (.int iTo) (.int iFr) (.long JFi) (.int iFa) (.ref qm3) (.int iSt) iLv iWs vLa (.ref qmu) (.ref qmy) (.ref qmb) (.ref qms) (.int iOm) rO rK k_4 ((1 <<< ((nI (T_np tA)) &&& 31)) - 1) hPp (by first | omega | (simp only [nb_sr, np_sr, nb_wr, np_wr, nb_rd, np_rd, nb_ch, np_ch, nb_zr, np_zr, nb_za, np_za, nb_ey, np_ey, nb_hf, np_hf, nb_dd, np_dd, nb_so, np_so, nb_skn, np_skn, nb_swh, np_swh, nb_sgn, np_sgn, nb_ssd, np_ssd, nb_sgo, np_sgo, nb_sag, np_sag]; omega))) L_X6_233 (preRV (q := (RX6, TX6, 35)) hN hP (trueIx 0 [true, false, false, false, false, false, false, false, false, false, true, true, true, true, true, true, true, true, true, true, true, true, true, true, true, true, true, true]) (sel_fm rfl rfl) 0 5 rfl rfl) rfl ⟨Nat.le_of_ble_eq_true rfl, Nat.le_of_ble_eq_true rfl⟩ hl.1 (Nat.le_of_ble_eq_true rfl) (g_182 (v := 233) bX6_bookOf rfl) ⟨Nat.le_of_ble_eq_true rfl, Nat.le_of_ble_eq_true rfl⟩) (fun r_16 h_17 => ?_)
        subst h_17
        refine lv_goto (tgt := 57) hx hb dX6_bookOf_46 (by decide +kernel) ?_
        exact endWs [[true, true, true, true, true, true, true, true, true, true, true, true, true, true, true, true, true, true, true, true, true, true, true, true, true, true, true, true, true]] hx hb hr hlocks rfl hP hD rfl (by decide +kernel) hS ⟨fMr, rfl, trivial⟩ (g_172 bX6_bookOf rfl)
    · refine lv_if_ne (tgt := 28) hx hb dX6_bookOf_18 (by decide +kernel) (fun h9 => absurd (by decide +kernel) h9) (fun _ => ?_)
      refine lv_aload_n hx hb (g_42 bX6_bookOf rfl) rfl (lv_at hl 0 rfl) ?_
      refine lv_bipush (v := (-2)) hx hb dX6_bookOf_22 (by decide +kernel) ?_
      refine cVi (As := [.int (-2)]) (rest := []) (b := qm) (q := (RX6, TX6, 35)) ⟨hx, hb, hml, hown, hts⟩ (c_X6_refuse2 l G cy (s.heap).size qm (.ref qmh) (.ref qmo) (.ref qmz) (.ref qmR) (.ref qmv) (.ref qmk) (.ref qma) (.ref qmt) (.int (nI kZ)) qmr tA qmB qmO qmK iEn iTk (ov uP) (ov uU) (.int (nI kAt)) (.int iTo) (.int iFr) (.long JFi) (.int iFa) (.ref qm3) (.int iSt) iLv iWs vLa (.ref qmu) (.ref qmy) (.ref qmb) (.ref qms) (.int iOm) fMr) L_X6_91 hN hP hD hS hA [0, 28] [false, true, true, true, true, true, true, true, true, true, true, true, true, true, true, true, true, true, true, true, true, true, true, true, true, true, true, true, false] rfl (by decide +kernel) rfl 0 5 rfl rfl rfl ⟨Nat.le_of_ble_eq_true rfl, Nat.le_of_ble_eq_true rfl⟩ hl.1 (Nat.le_of_ble_eq_true rfl) (g_182 (v := 91) bX6_bookOf rfl) ⟨Nat.le_of_ble_eq_true rfl, Nat.le_of_ble_eq_true rfl⟩ (fun r_19 u_21 H locs h_20 => ?_)
      clear hP hD hS
      intro hP hD hS
      obtain ⟨fX_22, hu9, h_20⟩ := h_20
      have hPD := pd_eq [_, _, _, _, _, _, _, _, _, _, _, _, _, _, _, _, _, _, _, _, _, _, _, _, _, _, _, _, zzI cy qmr 8 fX_22] hP hD hu9 rfl
      clear hP hD hu9
      obtain ⟨hP, hD⟩ := hPD
      subst h_20
      exact endWs [[false, false, false, false, false, false, false, false, false, false, false, false, false, false, false, false, false, false, false, false, false, false, false, false, false, false, false, true], [true, true, true, true, true, true, true, true, true, true, true, true, true, true, true, true, true, true, true, true, true, true, true, true, true, true, true, false, true]] hx hb hr hlocks rfl hP hD rfl (by decide +kernel) hS ⟨fX_22, rfl, trivial⟩ (g_172 bX6_bookOf rfl)
  · refine lv_if_eq (tgt := 21) hx hb dX6_bookOf_6 (by decide +kernel) (fun _ => ?_) (fun h9 => absurd (by decide +kernel) h9)
    refine lv_aload_n hx hb (g_42 bX6_bookOf rfl) rfl (lv_at hl 0 rfl) ?_
    refine lv_bipush (v := (-2)) hx hb dX6_bookOf_22 (by decide +kernel) ?_
    refine cVi (As := [.int (-2)]) (rest := []) (b := qm) (q := (RX6, TX6, 35)) ⟨hx, hb, hml, hown, hts⟩ (c_X6_refuse2 l G cy (s.heap).size qm (.ref qmh) (.ref qmo) (.ref qmz) (.ref qmR) (.ref qmv) (.ref qmk) (.ref qma) (.ref qmt) (.int (nI kZ)) qmr tA qmB qmO qmK iEn iTk (ov uP) (ov uU) (.int (nI kAt)) (.int iTo) (.int iFr) (.long JFi) (.int iFa) (.ref qm3) (.int iSt) iLv iWs vLa (.ref qmu) (.ref qmy) (.ref qmb) (.ref qms) (.int iOm) fMr) L_X6_91 hN hP hD hS hA [0, 28] [false, true, true, true, true, true, true, true, true, true, true, true, true, true, true, true, true, true, true, true, true, true, true, true, true, true, true, true, false] rfl (by decide +kernel) rfl 0 5 rfl rfl rfl ⟨Nat.le_of_ble_eq_true rfl, Nat.le_of_ble_eq_true rfl⟩ hl.1 (Nat.le_of_ble_eq_true rfl) (g_182 (v := 91) bX6_bookOf rfl) ⟨Nat.le_of_ble_eq_true rfl, Nat.le_of_ble_eq_true rfl⟩ (fun r_24 u_26 H locs h_25 => ?_)
    clear hP hD hS
    intro hP hD hS
    obtain ⟨fX_27, hu9, h_25⟩ := h_25
    have hPD := pd_eq [_, _, _, _, _, _, _, _, _, _, _, _, _, _, _, _, _, _, _, _, _, _, _, _, _, _, _, _, zzI cy qmr 8 fX_27] hP hD hu9 rfl
    clear hP hD hu9
    obtain ⟨hP, hD⟩ := hPD
    subst h_25
    exact endWs [[false, false, false, false, false, false, false, false, false, false, false, false, false, false, false, false, false, false, false, false, false, false, false, false, false, false, false, true], [true, true, true, true, true, true, true, true, true, true, true, true, true, true, true, true, true, true, true, true, true, true, true, true, true, true, true, false, true]] hx hb hr hlocks rfl hP hD rfl (by decide +kernel) hS ⟨fX_27, rfl, trivial⟩ (g_172 bX6_bookOf rfl)
set_option maxHeartbeats 4000000 in
set_option maxRecDepth 100000 in
theorem p_X6_oneOf (l : Launch) (G : va_G) (cy : Nat → ClassId) (sz : Nat) (qm : Nat) (qmh : Nat) (qmo : Nat) (qmz : Nat) (qmR : Nat) (qmv : Nat) (qmk : Nat) (qma : Nat) (qmt : Nat) (kZ : Nat) (qmr : Nat) (tA : TA) (qmB : Nat) (qmO : Nat) (qmK : Nat) (iEn : Int32) (iTk : Int32) (uP : UM) (uU : UM) (kAt : Nat) (iTo : Int32) (iFr : Int32) (JFi : Int64) (iFa : Int32) (qm3 : Nat) (iSt : Int32) (iLv : Int32) (iWs : Int32) (vLa : Value) (qmu : Nat) (qmy : Nat) (qmb : Nat) (qms : Nat) (iOm : Int32) (rB : Nat → Nat) (rO : Nat → Nat) (rK : Nat → Nat) (fMr : Nat → Int32) (iA : Int32) (iB : Int32)  (hB : T_nb tA ≤ 8) (hPp : T_np tA ≤ 8) (hTI : TI tA) : MW l yX6_oneOf cX6_oneOf 3 (some .int) 16 0 0 G cy [zzO qm 5 (.ref qmh :: .ref qmo :: .ref qmz :: .ref qmR :: .ref qmv :: .ref qmk :: .ref qma :: .ref qmt :: .int (nI kZ) :: .ref qmr :: .int (nI (T_nb tA)) :: .ref qmB :: .int (nI (T_np tA)) :: .ref qmO :: .ref qmK :: .int iEn :: .int iTk :: .int (T_sd tA) :: ov uP :: ov uU :: .int (nI kAt) :: .int iTo :: .int iFr :: .long JFi :: .int iFa :: .ref qm3 :: .int iSt :: .int iLv :: .int iWs :: vLa :: .ref qmu :: .ref qmy :: .ref qmb :: .ref qms :: .int iOm :: []), zzG cy 3 qmB rB, zzI cy (rB 0) 4 (bkR tA 0), zzI cy (rB 1) 4 (bkR tA 1), zzI cy (rB 2) 4 (bkR tA 2), zzI cy (rB 3) 4 (bkR tA 3), zzI cy (rB 4) 4 (bkR tA 4), zzI cy (rB 5) 4 (bkR tA 5), zzI cy (rB 6) 4 (bkR tA 6), zzI cy (rB 7) 4 (bkR tA 7), zzG cy 3 qmO rO, zzI cy (rO 0) 5 (onR tA 0), zzI cy (rO 1) 5 (onR tA 1), zzI cy (rO 2) 5 (onR tA 2), zzI cy (rO 3) 5 (onR tA 3), zzI cy (rO 4) 5 (onR tA 4), zzI cy (rO 5) 5 (onR tA 5), zzI cy (rO 6) 5 (onR tA 6), zzI cy (rO 7) 5 (onR tA 7), zzG cy 3 qmK rK, zzI cy (rK 0) 8 (T_kn tA 0), zzI cy (rK 1) 8 (T_kn tA 1), zzI cy (rK 2) 8 (T_kn tA 2), zzI cy (rK 3) 8 (T_kn tA 3), zzI cy (rK 4) 8 (T_kn tA 4), zzI cy (rK 5) 8 (T_kn tA 5), zzI cy (rK 6) 8 (T_kn tA 6), zzI cy (rK 7) 8 (T_kn tA 7), zzI cy qmr 8 fMr] sz [.ref qm, .int iA, .int iB] (Wi G (fun r u => ∃ (fNr : Nat → Int32), u = [zzO qm 5 (.ref qmh :: .ref qmo :: .ref qmz :: .ref qmR :: .ref qmv :: .ref qmk :: .ref qma :: .ref qmt :: .int (nI kZ) :: .ref qmr :: .int (nI (T_nb tA)) :: .ref qmB :: .int (nI (T_np tA)) :: .ref qmO :: .ref qmK :: .int iEn :: .int iTk :: .int (T_sd tA) :: ov uP :: ov uU :: .int (nI kAt) :: .int iTo :: .int iFr :: .long JFi :: .int iFa :: .ref qm3 :: .int iSt :: .int iLv :: .int iWs :: vLa :: .ref qmu :: .ref qmy :: .ref qmb :: .ref qms :: .int iOm :: []), zzG cy 3 qmB rB, zzI cy (rB 0) 4 (bkR tA 0), zzI cy (rB 1) 4 (bkR tA 1), zzI cy (rB 2) 4 (bkR tA 2), zzI cy (rB 3) 4 (bkR tA 3), zzI cy (rB 4) 4 (bkR tA 4), zzI cy (rB 5) 4 (bkR tA 5), zzI cy (rB 6) 4 (bkR tA 6), zzI cy (rB 7) 4 (bkR tA 7), zzG cy 3 qmO rO, zzI cy (rO 0) 5 (onR tA 0), zzI cy (rO 1) 5 (onR tA 1), zzI cy (rO 2) 5 (onR tA 2), zzI cy (rO 3) 5 (onR tA 3), zzI cy (rO 4) 5 (onR tA 4), zzI cy (rO 5) 5 (onR tA 5), zzI cy (rO 6) 5 (onR tA 6), zzI cy (rO 7) 5 (onR tA 7), zzG cy 3 qmK rK, zzI cy (rK 0) 8 (T_kn tA 0), zzI cy (rK 1) 8 (T_kn tA 1), zzI cy (rK 2) 8 (T_kn tA 2), zzI cy (rK 3) 8 (T_kn tA 3), zzI cy (rK 4) 8 (T_kn tA 4), zzI cy (rK 5) 8 (T_kn tA 5), zzI cy (rK 6) 8 (T_kn tA 6), zzI cy (rK 7) 8 (T_kn tA 7), zzI cy qmr 8 fNr] ∧ (True))) := by
  refine enW RX6 (by decide +kernel) rfl (Nat.le_of_ble_eq_true rfl) (fun p e s m below meth c ls A hx hb hml hown hts hr hlocks hP hN hl hin hD hA hS => ?_)
  have hin : meth.name = _ := hin
  have hK := hN.1
  replace hl : lv_has ls 3 [(0, .ref qm), (1, .int iA), (2, .int iB)] := hl
  refine lv_aload_n hx hb (g_42 bX6_oneOf rfl) rfl (lv_at hl 0 rfl) ?_
  refine lv_iload_n hx hb (g_27 bX6_oneOf rfl) rfl (lv_at hl 1 rfl) ?_
  refine lv_i2l (v := iA.toInt64) hx hb (g_133 bX6_oneOf rfl) rfl ?_
  refine kRi (rV (As := [.long iA.toInt64]) (rest := []) (b := qm) ⟨hx, hb, hml, hown, hts⟩ (c_X6_isOne l G cy qm (.ref qmh) (.ref qmo) (.ref qmz) (.ref qmR) (.ref qmv) (.ref qmk) (.ref qma) (.ref qmt) (.int (nI kZ)) (.ref qmr) tA qmB qmO qmK iEn iTk (ov uP) (ov uU) (.int (nI kAt)) (.int iTo) (.int iFr) (.long JFi) (.int iFa) (.ref qm3) (.int iSt) iLv iWs vLa (.ref qmu) (.ref qmy) (.ref qmb) (.ref qms) (.int iOm) iA hPp) L_X6_236 (preRV (q := (RX6, TX6, 35)) hN hP [0] rfl 0 5 rfl rfl) rfl ⟨Nat.le_of_ble_eq_true rfl, Nat.le_of_ble_eq_true rfl⟩ hl.1 (Nat.le_of_ble_eq_true rfl) (g_182 (v := 236) bX6_oneOf rfl) ⟨Nat.le_of_ble_eq_true rfl, Nat.le_of_ble_eq_true rfl⟩) (fun r_1 h_2 => ?_)
  rcases h_2 with ⟨rfl, h_3⟩ | ⟨rfl, h_3⟩
  · obtain ⟨k_4, hk_5, rfl⟩ := h_3
    refine lv_if_eq (tgt := 32) hx hb dX6_oneOf_6 (by decide +kernel) (fun h9 => absurd h9 (by decide +kernel)) (fun _ => ?_)
    refine lv_iload_n hx hb (g_28 bX6_oneOf rfl) rfl (lv_at hl 2 rfl) ?_
    refine lv_i2l (v := iB.toInt64) hx hb (g_133 bX6_oneOf rfl) rfl ?_
    refine lv_lconst (v := 0) hx hb (g_9 bX6_oneOf rfl) (by decide +kernel) ?_
    refine lv_ldc2 hx hb hown (hts _ m_t964) (g_20 (v := 87) bX6_oneOf rfl) ?_
    refine kRi (rS (As := [.long iB.toInt64, .long 0, .long 4]) (rest := []) ⟨hx, hb, hml, hown, hts⟩ (c_X6_in l G cy iB.toInt64 0 4) L_X6_74 (preRS hN hP [] rfl) rfl ⟨Nat.le_of_ble_eq_true rfl, Nat.le_of_ble_eq_true rfl⟩ hl.1 (Nat.le_of_ble_eq_true rfl) (g_184 (v := 74) bX6_oneOf rfl) ⟨Nat.le_of_ble_eq_true rfl, Nat.le_of_ble_eq_true rfl⟩) (fun r_7 h_8 => ?_)
    rcases h_8 with ⟨rfl, h_9⟩ | ⟨rfl, h_9⟩
    · refine lv_if_eq (tgt := 32) hx hb dX6_oneOf_18 (by decide +kernel) (fun h9 => absurd h9 (by decide +kernel)) (fun _ => ?_)
      rcases in04 h_9 with rfl | rfl | rfl | rfl | rfl
      · refine lv_aload_n hx hb (g_42 bX6_oneOf rfl) rfl (lv_at hl 0 rfl) ?_
        refine va_get (D := G) (ci := 5) (v := .ref qmO) (C := RX6) (T := TX6) (N := 35) hx hb hts iX_X6 hown hK hP 0 rfl rfl 13 (by decide +kernel) (hts _ m_t863) (fun _ h9 => h9) rfl (g_180 (v := 45) bX6_oneOf rfl) ?_
        refine lv_iload_n hx hb (g_27 bX6_oneOf rfl) rfl (lv_at hl 1 rfl) ?_
        refine va_alda hx hb hK hP 10 3 rfl rfl (in8 (by omega)) (g_50 bX6_oneOf rfl) ?_
        refine lv_setv (v := .ref (rO k_4)) (g_ref (by omega)) ?_
        refine lv_iload_n hx hb (g_28 bX6_oneOf rfl) rfl (lv_at hl 2 rfl) ?_
        refine va_iald hx hb hK hP (11 + k_4) 0 (sg8 (n0 := 11) (f := (fun j => zzI cy (rO j) 5 (onR tA j))) rfl rfl rfl rfl rfl rfl rfl rfl k_4 (by omega)) rfl (in_c rfl) (g_46 bX6_oneOf rfl) ?_
        refine lv_seti (v := T_ag tA k_4) (on_0 _ _) ?_
        refine lv_goto (tgt := 38) hx hb dX6_oneOf_29 (by decide +kernel) ?_
        exact endWs [[true, true, true, true, true, true, true, true, true, true, true, true, true, true, true, true, true, true, true, true, true, true, true, true, true, true, true, true, true]] hx hb hr hlocks rfl hP hD rfl (by decide +kernel) hS ⟨fMr, rfl, trivial⟩ (g_172 bX6_oneOf rfl)
      · refine lv_aload_n hx hb (g_42 bX6_oneOf rfl) rfl (lv_at hl 0 rfl) ?_
        refine va_get (D := G) (ci := 5) (v := .ref qmO) (C := RX6) (T := TX6) (N := 35) hx hb hts iX_X6 hown hK hP 0 rfl rfl 13 (by decide +kernel) (hts _ m_t863) (fun _ h9 => h9) rfl (g_180 (v := 45) bX6_oneOf rfl) ?_
        refine lv_iload_n hx hb (g_27 bX6_oneOf rfl) rfl (lv_at hl 1 rfl) ?_
        refine va_alda hx hb hK hP 10 3 rfl rfl (in8 (by omega)) (g_50 bX6_oneOf rfl) ?_
        refine lv_setv (v := .ref (rO k_4)) (g_ref (by omega)) ?_
        refine lv_iload_n hx hb (g_28 bX6_oneOf rfl) rfl (lv_at hl 2 rfl) ?_
        refine va_iald hx hb hK hP (11 + k_4) 0 (sg8 (n0 := 11) (f := (fun j => zzI cy (rO j) 5 (onR tA j))) rfl rfl rfl rfl rfl rfl rfl rfl k_4 (by omega)) rfl (in_c rfl) (g_46 bX6_oneOf rfl) ?_
        refine lv_seti (v := T_re tA k_4) (on_1' _ _) ?_
        refine lv_goto (tgt := 38) hx hb dX6_oneOf_29 (by decide +kernel) ?_
        exact endWs [[true, true, true, true, true, true, true, true, true, true, true, true, true, true, true, true, true, true, true, true, true, true, true, true, true, true, true, true, true]] hx hb hr hlocks rfl hP hD rfl (by decide +kernel) hS ⟨fMr, rfl, trivial⟩ (g_172 bX6_oneOf rfl)
      · refine lv_aload_n hx hb (g_42 bX6_oneOf rfl) rfl (lv_at hl 0 rfl) ?_
        refine va_get (D := G) (ci := 5) (v := .ref qmO) (C := RX6) (T := TX6) (N := 35) hx hb hts iX_X6 hown hK hP 0 rfl rfl 13 (by decide +kernel) (hts _ m_t863) (fun _ h9 => h9) rfl (g_180 (v := 45) bX6_oneOf rfl) ?_
        refine lv_iload_n hx hb (g_27 bX6_oneOf rfl) rfl (lv_at hl 1 rfl) ?_
        refine va_alda hx hb hK hP 10 3 rfl rfl (in8 (by omega)) (g_50 bX6_oneOf rfl) ?_
        refine lv_setv (v := .ref (rO k_4)) (g_ref (by omega)) ?_
        refine lv_iload_n hx hb (g_28 bX6_oneOf rfl) rfl (lv_at hl 2 rfl) ?_
        refine va_iald hx hb hK hP (11 + k_4) 0 (sg8 (n0 := 11) (f := (fun j => zzI cy (rO j) 5 (onR tA j))) rfl rfl rfl rfl rfl rfl rfl rfl k_4 (by omega)) rfl (in_c rfl) (g_46 bX6_oneOf rfl) ?_
        refine lv_seti (v := T_me tA k_4) (on_2' _ _) ?_
        refine lv_goto (tgt := 38) hx hb dX6_oneOf_29 (by decide +kernel) ?_
        exact endWs [[true, true, true, true, true, true, true, true, true, true, true, true, true, true, true, true, true, true, true, true, true, true, true, true, true, true, true, true, true]] hx hb hr hlocks rfl hP hD rfl (by decide +kernel) hS ⟨fMr, rfl, trivial⟩ (g_172 bX6_oneOf rfl)
      · refine lv_aload_n hx hb (g_42 bX6_oneOf rfl) rfl (lv_at hl 0 rfl) ?_
        refine va_get (D := G) (ci := 5) (v := .ref qmO) (C := RX6) (T := TX6) (N := 35) hx hb hts iX_X6 hown hK hP 0 rfl rfl 13 (by decide +kernel) (hts _ m_t863) (fun _ h9 => h9) rfl (g_180 (v := 45) bX6_oneOf rfl) ?_
        refine lv_iload_n hx hb (g_27 bX6_oneOf rfl) rfl (lv_at hl 1 rfl) ?_
        refine va_alda hx hb hK hP 10 3 rfl rfl (in8 (by omega)) (g_50 bX6_oneOf rfl) ?_
        refine lv_setv (v := .ref (rO k_4)) (g_ref (by omega)) ?_
        refine lv_iload_n hx hb (g_28 bX6_oneOf rfl) rfl (lv_at hl 2 rfl) ?_
        refine va_iald hx hb hK hP (11 + k_4) 0 (sg8 (n0 := 11) (f := (fun j => zzI cy (rO j) 5 (onR tA j))) rfl rfl rfl rfl rfl rfl rfl rfl k_4 (by omega)) rfl (in_c rfl) (g_46 bX6_oneOf rfl) ?_
        refine lv_seti (v := T_te tA k_4) (on_3 _ _) ?_
        refine lv_goto (tgt := 38) hx hb dX6_oneOf_29 (by decide +kernel) ?_
        exact endWs [[true, true, true, true, true, true, true, true, true, true, true, true, true, true, true, true, true, true, true, true, true, true, true, true, true, true, true, true, true]] hx hb hr hlocks rfl hP hD rfl (by decide +kernel) hS ⟨fMr, rfl, trivial⟩ (g_172 bX6_oneOf rfl)
      · refine lv_aload_n hx hb (g_42 bX6_oneOf rfl) rfl (lv_at hl 0 rfl) ?_
        refine va_get (D := G) (ci := 5) (v := .ref qmO) (C := RX6) (T := TX6) (N := 35) hx hb hts iX_X6 hown hK hP 0 rfl rfl 13 (by decide +kernel) (hts _ m_t863) (fun _ h9 => h9) rfl (g_180 (v := 45) bX6_oneOf rfl) ?_
        refine lv_iload_n hx hb (g_27 bX6_oneOf rfl) rfl (lv_at hl 1 rfl) ?_
        refine va_alda hx hb hK hP 10 3 rfl rfl (in8 (by omega)) (g_50 bX6_oneOf rfl) ?_
        refine lv_setv (v := .ref (rO k_4)) (g_ref (by omega)) ?_
        refine lv_iload_n hx hb (g_28 bX6_oneOf rfl) rfl (lv_at hl 2 rfl) ?_
        refine va_iald hx hb hK hP (11 + k_4) 0 (sg8 (n0 := 11) (f := (fun j => zzI cy (rO j) 5 (onR tA j))) rfl rfl rfl rfl rfl rfl rfl rfl k_4 (by omega)) rfl (in_c rfl) (g_46 bX6_oneOf rfl) ?_
        refine lv_seti (v := b01 (T_gn tA k_4)) (on_4 _ _) ?_
        refine lv_goto (tgt := 38) hx hb dX6_oneOf_29 (by decide +kernel) ?_
        exact endWs [[true, true, true, true, true, true, true, true, true, true, true, true, true, true, true, true, true, true, true, true, true, true, true, true, true, true, true, true, true]] hx hb hr hlocks rfl hP hD rfl (by decide +kernel) hS ⟨fMr, rfl, trivial⟩ (g_172 bX6_oneOf rfl)
    · refine lv_if_eq (tgt := 32) hx hb dX6_oneOf_18 (by decide +kernel) (fun _ => ?_) (fun h9 => absurd (by decide +kernel) h9)
      refine lv_aload_n hx hb (g_42 bX6_oneOf rfl) rfl (lv_at hl 0 rfl) ?_
      refine lv_bipush (v := (-2)) hx hb dX6_oneOf_33 (by decide +kernel) ?_
      refine cVi (As := [.int (-2)]) (rest := []) (b := qm) (q := (RX6, TX6, 35)) ⟨hx, hb, hml, hown, hts⟩ (c_X6_refuse2 l G cy (s.heap).size qm (.ref qmh) (.ref qmo) (.ref qmz) (.ref qmR) (.ref qmv) (.ref qmk) (.ref qma) (.ref qmt) (.int (nI kZ)) qmr tA qmB qmO qmK iEn iTk (ov uP) (ov uU) (.int (nI kAt)) (.int iTo) (.int iFr) (.long JFi) (.int iFa) (.ref qm3) (.int iSt) iLv iWs vLa (.ref qmu) (.ref qmy) (.ref qmb) (.ref qms) (.int iOm) fMr) L_X6_91 hN hP hD hS hA [0, 28] [false, true, true, true, true, true, true, true, true, true, true, true, true, true, true, true, true, true, true, true, true, true, true, true, true, true, true, true, false] rfl (by decide +kernel) rfl 0 5 rfl rfl rfl ⟨Nat.le_of_ble_eq_true rfl, Nat.le_of_ble_eq_true rfl⟩ hl.1 (Nat.le_of_ble_eq_true rfl) (g_182 (v := 91) bX6_oneOf rfl) ⟨Nat.le_of_ble_eq_true rfl, Nat.le_of_ble_eq_true rfl⟩ (fun r_12 u_14 H locs h_13 => ?_)
      clear hP hD hS
      intro hP hD hS
      obtain ⟨fX_15, hu9, h_13⟩ := h_13
      have hPD := pd_eq [_, _, _, _, _, _, _, _, _, _, _, _, _, _, _, _, _, _, _, _, _, _, _, _, _, _, _, _, zzI cy qmr 8 fX_15] hP hD hu9 rfl
      clear hP hD hu9
      obtain ⟨hP, hD⟩ := hPD
      subst h_13
      exact endWs [[false, false, false, false, false, false, false, false, false, false, false, false, false, false, false, false, false, false, false, false, false, false, false, false, false, false, false, true], [true, true, true, true, true, true, true, true, true, true, true, true, true, true, true, true, true, true, true, true, true, true, true, true, true, true, true, false, true]] hx hb hr hlocks rfl hP hD rfl (by decide +kernel) hS ⟨fX_15, rfl, trivial⟩ (g_172 bX6_oneOf rfl)
  · refine lv_if_eq (tgt := 32) hx hb dX6_oneOf_6 (by decide +kernel) (fun _ => ?_) (fun h9 => absurd (by decide +kernel) h9)
    refine lv_aload_n hx hb (g_42 bX6_oneOf rfl) rfl (lv_at hl 0 rfl) ?_
    refine lv_bipush (v := (-2)) hx hb dX6_oneOf_33 (by decide +kernel) ?_
    refine cVi (As := [.int (-2)]) (rest := []) (b := qm) (q := (RX6, TX6, 35)) ⟨hx, hb, hml, hown, hts⟩ (c_X6_refuse2 l G cy (s.heap).size qm (.ref qmh) (.ref qmo) (.ref qmz) (.ref qmR) (.ref qmv) (.ref qmk) (.ref qma) (.ref qmt) (.int (nI kZ)) qmr tA qmB qmO qmK iEn iTk (ov uP) (ov uU) (.int (nI kAt)) (.int iTo) (.int iFr) (.long JFi) (.int iFa) (.ref qm3) (.int iSt) iLv iWs vLa (.ref qmu) (.ref qmy) (.ref qmb) (.ref qms) (.int iOm) fMr) L_X6_91 hN hP hD hS hA [0, 28] [false, true, true, true, true, true, true, true, true, true, true, true, true, true, true, true, true, true, true, true, true, true, true, true, true, true, true, true, false] rfl (by decide +kernel) rfl 0 5 rfl rfl rfl ⟨Nat.le_of_ble_eq_true rfl, Nat.le_of_ble_eq_true rfl⟩ hl.1 (Nat.le_of_ble_eq_true rfl) (g_182 (v := 91) bX6_oneOf rfl) ⟨Nat.le_of_ble_eq_true rfl, Nat.le_of_ble_eq_true rfl⟩ (fun r_17 u_19 H locs h_18 => ?_)
    clear hP hD hS
    intro hP hD hS
    obtain ⟨fX_20, hu9, h_18⟩ := h_18
    have hPD := pd_eq [_, _, _, _, _, _, _, _, _, _, _, _, _, _, _, _, _, _, _, _, _, _, _, _, _, _, _, _, zzI cy qmr 8 fX_20] hP hD hu9 rfl
    clear hP hD hu9
    obtain ⟨hP, hD⟩ := hPD
    subst h_18
    exact endWs [[false, false, false, false, false, false, false, false, false, false, false, false, false, false, false, false, false, false, false, false, false, false, false, false, false, false, false, true], [true, true, true, true, true, true, true, true, true, true, true, true, true, true, true, true, true, true, true, true, true, true, true, true, true, true, true, false, true]] hx hb hr hlocks rfl hP hD rfl (by decide +kernel) hS ⟨fX_20, rfl, trivial⟩ (g_172 bX6_oneOf rfl)
set_option maxHeartbeats 4000000 in
set_option maxRecDepth 100000 in
theorem p_X6_known (l : Launch) (G : va_G) (cy : Nat → ClassId) (sz : Nat) (qm : Nat) (qmh : Nat) (qmo : Nat) (qmz : Nat) (qmR : Nat) (qmv : Nat) (qmk : Nat) (qma : Nat) (qmt : Nat) (kZ : Nat) (qmr : Nat) (tA : TA) (qmB : Nat) (qmO : Nat) (qmK : Nat) (iEn : Int32) (iTk : Int32) (uP : UM) (uU : UM) (kAt : Nat) (iTo : Int32) (iFr : Int32) (JFi : Int64) (iFa : Int32) (qm3 : Nat) (iSt : Int32) (iLv : Int32) (iWs : Int32) (vLa : Value) (qmu : Nat) (qmy : Nat) (qmb : Nat) (qms : Nat) (iOm : Int32) (rB : Nat → Nat) (rO : Nat → Nat) (rK : Nat → Nat) (fMr : Nat → Int32) (iA : Int32) (iB : Int32)  (hB : T_nb tA ≤ 8) (hPp : T_np tA ≤ 8) (hTI : TI tA) : MW l yX6_known cX6_known 3 (some .int) 16 0 0 G cy [zzO qm 5 (.ref qmh :: .ref qmo :: .ref qmz :: .ref qmR :: .ref qmv :: .ref qmk :: .ref qma :: .ref qmt :: .int (nI kZ) :: .ref qmr :: .int (nI (T_nb tA)) :: .ref qmB :: .int (nI (T_np tA)) :: .ref qmO :: .ref qmK :: .int iEn :: .int iTk :: .int (T_sd tA) :: ov uP :: ov uU :: .int (nI kAt) :: .int iTo :: .int iFr :: .long JFi :: .int iFa :: .ref qm3 :: .int iSt :: .int iLv :: .int iWs :: vLa :: .ref qmu :: .ref qmy :: .ref qmb :: .ref qms :: .int iOm :: []), zzG cy 3 qmB rB, zzI cy (rB 0) 4 (bkR tA 0), zzI cy (rB 1) 4 (bkR tA 1), zzI cy (rB 2) 4 (bkR tA 2), zzI cy (rB 3) 4 (bkR tA 3), zzI cy (rB 4) 4 (bkR tA 4), zzI cy (rB 5) 4 (bkR tA 5), zzI cy (rB 6) 4 (bkR tA 6), zzI cy (rB 7) 4 (bkR tA 7), zzG cy 3 qmO rO, zzI cy (rO 0) 5 (onR tA 0), zzI cy (rO 1) 5 (onR tA 1), zzI cy (rO 2) 5 (onR tA 2), zzI cy (rO 3) 5 (onR tA 3), zzI cy (rO 4) 5 (onR tA 4), zzI cy (rO 5) 5 (onR tA 5), zzI cy (rO 6) 5 (onR tA 6), zzI cy (rO 7) 5 (onR tA 7), zzG cy 3 qmK rK, zzI cy (rK 0) 8 (T_kn tA 0), zzI cy (rK 1) 8 (T_kn tA 1), zzI cy (rK 2) 8 (T_kn tA 2), zzI cy (rK 3) 8 (T_kn tA 3), zzI cy (rK 4) 8 (T_kn tA 4), zzI cy (rK 5) 8 (T_kn tA 5), zzI cy (rK 6) 8 (T_kn tA 6), zzI cy (rK 7) 8 (T_kn tA 7), zzI cy qmr 8 fMr] sz [.ref qm, .int iA, .int iB] (Wi G (fun r u => ∃ (fNr : Nat → Int32), u = [zzO qm 5 (.ref qmh :: .ref qmo :: .ref qmz :: .ref qmR :: .ref qmv :: .ref qmk :: .ref qma :: .ref qmt :: .int (nI kZ) :: .ref qmr :: .int (nI (T_nb tA)) :: .ref qmB :: .int (nI (T_np tA)) :: .ref qmO :: .ref qmK :: .int iEn :: .int iTk :: .int (T_sd tA) :: ov uP :: ov uU :: .int (nI kAt) :: .int iTo :: .int iFr :: .long JFi :: .int iFa :: .ref qm3 :: .int iSt :: .int iLv :: .int iWs :: vLa :: .ref qmu :: .ref qmy :: .ref qmb :: .ref qms :: .int iOm :: []), zzG cy 3 qmB rB, zzI cy (rB 0) 4 (bkR tA 0), zzI cy (rB 1) 4 (bkR tA 1), zzI cy (rB 2) 4 (bkR tA 2), zzI cy (rB 3) 4 (bkR tA 3), zzI cy (rB 4) 4 (bkR tA 4), zzI cy (rB 5) 4 (bkR tA 5), zzI cy (rB 6) 4 (bkR tA 6), zzI cy (rB 7) 4 (bkR tA 7), zzG cy 3 qmO rO, zzI cy (rO 0) 5 (onR tA 0), zzI cy (rO 1) 5 (onR tA 1), zzI cy (rO 2) 5 (onR tA 2), zzI cy (rO 3) 5 (onR tA 3), zzI cy (rO 4) 5 (onR tA 4), zzI cy (rO 5) 5 (onR tA 5), zzI cy (rO 6) 5 (onR tA 6), zzI cy (rO 7) 5 (onR tA 7), zzG cy 3 qmK rK, zzI cy (rK 0) 8 (T_kn tA 0), zzI cy (rK 1) 8 (T_kn tA 1), zzI cy (rK 2) 8 (T_kn tA 2), zzI cy (rK 3) 8 (T_kn tA 3), zzI cy (rK 4) 8 (T_kn tA 4), zzI cy (rK 5) 8 (T_kn tA 5), zzI cy (rK 6) 8 (T_kn tA 6), zzI cy (rK 7) 8 (T_kn tA 7), zzI cy qmr 8 fNr] ∧ (True))) := by
  refine enW RX6 (by decide +kernel) rfl (Nat.le_of_ble_eq_true rfl) (fun p e s m below meth c ls A hx hb hml hown hts hr hlocks hP hN hl hin hD hA hS => ?_)
  have hin : meth.name = _ := hin
  have hK := hN.1
  replace hl : lv_has ls 3 [(0, .ref qm), (1, .int iA), (2, .int iB)] := hl
  refine lv_aload_n hx hb (g_42 bX6_known rfl) rfl (lv_at hl 0 rfl) ?_
  refine lv_iload_n hx hb (g_27 bX6_known rfl) rfl (lv_at hl 1 rfl) ?_
  refine lv_i2l (v := iA.toInt64) hx hb (g_133 bX6_known rfl) rfl ?_
  refine kRi (rV (As := [.long iA.toInt64]) (rest := []) (b := qm) ⟨hx, hb, hml, hown, hts⟩ (c_X6_isOne l G cy qm (.ref qmh) (.ref qmo) (.ref qmz) (.ref qmR) (.ref qmv) (.ref qmk) (.ref qma) (.ref qmt) (.int (nI kZ)) (.ref qmr) tA qmB qmO qmK iEn iTk (ov uP) (ov uU) (.int (nI kAt)) (.int iTo) (.int iFr) (.long JFi) (.int iFa) (.ref qm3) (.int iSt) iLv iWs vLa (.ref qmu) (.ref qmy) (.ref qmb) (.ref qms) (.int iOm) iA hPp) L_X6_236 (preRV (q := (RX6, TX6, 35)) hN hP [0] rfl 0 5 rfl rfl) rfl ⟨Nat.le_of_ble_eq_true rfl, Nat.le_of_ble_eq_true rfl⟩ hl.1 (Nat.le_of_ble_eq_true rfl) (g_182 (v := 236) bX6_known rfl) ⟨Nat.le_of_ble_eq_true rfl, Nat.le_of_ble_eq_true rfl⟩) (fun r_1 h_2 => ?_)
  rcases h_2 with ⟨rfl, h_3⟩ | ⟨rfl, h_3⟩
  · obtain ⟨k_4, hk_5, rfl⟩ := h_3
    refine lv_if_eq (tgt := 29) hx hb dX6_known_6 (by decide +kernel) (fun h9 => absurd h9 (by decide +kernel)) (fun _ => ?_)
    refine lv_aload_n hx hb (g_42 bX6_known rfl) rfl (lv_at hl 0 rfl) ?_
    refine lv_iload_n hx hb (g_28 bX6_known rfl) rfl (lv_at hl 2 rfl) ?_
    refine lv_i2l (v := iB.toInt64) hx hb (g_133 bX6_known rfl) rfl ?_
    refine kRi (rV (As := [.long iB.toInt64]) (rest := []) (b := qm) ⟨hx, hb, hml, hown, hts⟩ (c_X6_isBook l G cy qm (.ref qmh) (.ref qmo) (.ref qmz) (.ref qmR) (.ref qmv) (.ref qmk) (.ref qma) (.ref qmt) (.int (nI kZ)) (.ref qmr) tA qmB qmO qmK iEn iTk (ov uP) (ov uU) (.int (nI kAt)) (.int iTo) (.int iFr) (.long JFi) (.int iFa) (.ref qm3) (.int iSt) iLv iWs vLa (.ref qmu) (.ref qmy) (.ref qmb) (.ref qms) (.int iOm) iB hB) L_X6_229 (preRV (q := (RX6, TX6, 35)) hN hP [0] rfl 0 5 rfl rfl) rfl ⟨Nat.le_of_ble_eq_true rfl, Nat.le_of_ble_eq_true rfl⟩ hl.1 (Nat.le_of_ble_eq_true rfl) (g_182 (v := 229) bX6_known rfl) ⟨Nat.le_of_ble_eq_true rfl, Nat.le_of_ble_eq_true rfl⟩) (fun r_7 h_8 => ?_)
    rcases h_8 with ⟨rfl, h_9⟩ | ⟨rfl, h_9⟩
    · obtain ⟨k_10, hk_11, rfl⟩ := h_9
      refine lv_if_eq (tgt := 29) hx hb dX6_known_15 (by decide +kernel) (fun h9 => absurd h9 (by decide +kernel)) (fun _ => ?_)
      refine lv_aload_n hx hb (g_42 bX6_known rfl) rfl (lv_at hl 0 rfl) ?_
      refine va_get (D := G) (ci := 5) (v := .ref qmK) (C := RX6) (T := TX6) (N := 35) hx hb hts iX_X6 hown hK hP 0 rfl rfl 14 (by decide +kernel) (hts _ m_t864) (fun _ h9 => h9) rfl (g_180 (v := 48) bX6_known rfl) ?_
      refine lv_iload_n hx hb (g_27 bX6_known rfl) rfl (lv_at hl 1 rfl) ?_
      refine va_alda hx hb hK hP 19 3 rfl rfl (in8 (by omega)) (g_50 bX6_known rfl) ?_
      refine lv_setv (v := .ref (rK k_4)) (g_ref (by omega)) ?_
      refine lv_iload_n hx hb (g_28 bX6_known rfl) rfl (lv_at hl 2 rfl) ?_
      refine va_iald hx hb hK hP (20 + k_4) 0 (sg8 (n0 := 20) (f := (fun j => zzI cy (rK j) 8 (T_kn tA j))) rfl rfl rfl rfl rfl rfl rfl rfl k_4 (by omega)) rfl (vp_in_nI (by omega) (by omega)) (g_46 bX6_known rfl) ?_
      refine lv_seti (v := T_kn tA k_4 k_10) (congrArg (T_kn tA k_4) (nI_clamp (by omega))) ?_
      refine lv_goto (tgt := 35) hx hb dX6_known_26 (by decide +kernel) ?_
      exact endWs [[true, true, true, true, true, true, true, true, true, true, true, true, true, true, true, true, true, true, true, true, true, true, true, true, true, true, true, true, true]] hx hb hr hlocks rfl hP hD rfl (by decide +kernel) hS ⟨fMr, rfl, trivial⟩ (g_172 bX6_known rfl)
    · refine lv_if_eq (tgt := 29) hx hb dX6_known_15 (by decide +kernel) (fun _ => ?_) (fun h9 => absurd (by decide +kernel) h9)
      refine lv_aload_n hx hb (g_42 bX6_known rfl) rfl (lv_at hl 0 rfl) ?_
      refine lv_bipush (v := (-2)) hx hb dX6_known_30 (by decide +kernel) ?_
      refine cVi (As := [.int (-2)]) (rest := []) (b := qm) (q := (RX6, TX6, 35)) ⟨hx, hb, hml, hown, hts⟩ (c_X6_refuse2 l G cy (s.heap).size qm (.ref qmh) (.ref qmo) (.ref qmz) (.ref qmR) (.ref qmv) (.ref qmk) (.ref qma) (.ref qmt) (.int (nI kZ)) qmr tA qmB qmO qmK iEn iTk (ov uP) (ov uU) (.int (nI kAt)) (.int iTo) (.int iFr) (.long JFi) (.int iFa) (.ref qm3) (.int iSt) iLv iWs vLa (.ref qmu) (.ref qmy) (.ref qmb) (.ref qms) (.int iOm) fMr) L_X6_91 hN hP hD hS hA [0, 28] [false, true, true, true, true, true, true, true, true, true, true, true, true, true, true, true, true, true, true, true, true, true, true, true, true, true, true, true, false] rfl (by decide +kernel) rfl 0 5 rfl rfl rfl ⟨Nat.le_of_ble_eq_true rfl, Nat.le_of_ble_eq_true rfl⟩ hl.1 (Nat.le_of_ble_eq_true rfl) (g_182 (v := 91) bX6_known rfl) ⟨Nat.le_of_ble_eq_true rfl, Nat.le_of_ble_eq_true rfl⟩ (fun r_14 u_16 H locs h_15 => ?_)
      clear hP hD hS
      intro hP hD hS
      obtain ⟨fX_17, hu9, h_15⟩ := h_15
      have hPD := pd_eq [_, _, _, _, _, _, _, _, _, _, _, _, _, _, _, _, _, _, _, _, _, _, _, _, _, _, _, _, zzI cy qmr 8 fX_17] hP hD hu9 rfl
      clear hP hD hu9
      obtain ⟨hP, hD⟩ := hPD
      subst h_15
      exact endWs [[false, false, false, false, false, false, false, false, false, false, false, false, false, false, false, false, false, false, false, false, false, false, false, false, false, false, false, true], [true, true, true, true, true, true, true, true, true, true, true, true, true, true, true, true, true, true, true, true, true, true, true, true, true, true, true, false, true]] hx hb hr hlocks rfl hP hD rfl (by decide +kernel) hS ⟨fX_17, rfl, trivial⟩ (g_172 bX6_known rfl)
  · refine lv_if_eq (tgt := 29) hx hb dX6_known_6 (by decide +kernel) (fun _ => ?_) (fun h9 => absurd (by decide +kernel) h9)
    refine lv_aload_n hx hb (g_42 bX6_known rfl) rfl (lv_at hl 0 rfl) ?_
    refine lv_bipush (v := (-2)) hx hb dX6_known_30 (by decide +kernel) ?_
    refine cVi (As := [.int (-2)]) (rest := []) (b := qm) (q := (RX6, TX6, 35)) ⟨hx, hb, hml, hown, hts⟩ (c_X6_refuse2 l G cy (s.heap).size qm (.ref qmh) (.ref qmo) (.ref qmz) (.ref qmR) (.ref qmv) (.ref qmk) (.ref qma) (.ref qmt) (.int (nI kZ)) qmr tA qmB qmO qmK iEn iTk (ov uP) (ov uU) (.int (nI kAt)) (.int iTo) (.int iFr) (.long JFi) (.int iFa) (.ref qm3) (.int iSt) iLv iWs vLa (.ref qmu) (.ref qmy) (.ref qmb) (.ref qms) (.int iOm) fMr) L_X6_91 hN hP hD hS hA [0, 28] [false, true, true, true, true, true, true, true, true, true, true, true, true, true, true, true, true, true, true, true, true, true, true, true, true, true, true, true, false] rfl (by decide +kernel) rfl 0 5 rfl rfl rfl ⟨Nat.le_of_ble_eq_true rfl, Nat.le_of_ble_eq_true rfl⟩ hl.1 (Nat.le_of_ble_eq_true rfl) (g_182 (v := 91) bX6_known rfl) ⟨Nat.le_of_ble_eq_true rfl, Nat.le_of_ble_eq_true rfl⟩ (fun r_19 u_21 H locs h_20 => ?_)
    clear hP hD hS
    intro hP hD hS
    obtain ⟨fX_22, hu9, h_20⟩ := h_20
    have hPD := pd_eq [_, _, _, _, _, _, _, _, _, _, _, _, _, _, _, _, _, _, _, _, _, _, _, _, _, _, _, _, zzI cy qmr 8 fX_22] hP hD hu9 rfl
    clear hP hD hu9
    obtain ⟨hP, hD⟩ := hPD
    subst h_20
    exact endWs [[false, false, false, false, false, false, false, false, false, false, false, false, false, false, false, false, false, false, false, false, false, false, false, false, false, false, false, true], [true, true, true, true, true, true, true, true, true, true, true, true, true, true, true, true, true, true, true, true, true, true, true, true, true, true, true, false, true]] hx hb hr hlocks rfl hP hD rfl (by decide +kernel) hS ⟨fX_22, rfl, trivial⟩ (g_172 bX6_known rfl)
set_option maxHeartbeats 4000000 in
set_option maxRecDepth 100000 in
theorem p_X6_alter (l : Launch) (G : va_G) (cy : Nat → ClassId) (sz : Nat) (qm : Nat) (qmh : Nat) (qmo : Nat) (qmz : Nat) (qmR : Nat) (qmv : Nat) (qmk : Nat) (qma : Nat) (qmt : Nat) (kZ : Nat) (qmr : Nat) (tA : TA) (qmB : Nat) (qmO : Nat) (qmK : Nat) (iEn : Int32) (iTk : Int32) (uP : UM) (uU : UM) (kAt : Nat) (iTo : Int32) (iFr : Int32) (JFi : Int64) (iFa : Int32) (qm3 : Nat) (iSt : Int32) (iLv : Int32) (iWs : Int32) (vLa : Value) (qmu : Nat) (qmy : Nat) (qmb : Nat) (qms : Nat) (iOm : Int32) (rB : Nat → Nat) (rO : Nat → Nat) (rK : Nat → Nat) (fMr : Nat → Int32) (iA : Int32) (iB : Int32) (iC : Int32)  (hB : T_nb tA ≤ 8) (hPp : T_np tA ≤ 8) (hTI : TI tA) : MW l yX6_alter cX6_alter 5 (some .int) 16 0 0 G cy [zzO qm 5 (.ref qmh :: .ref qmo :: .ref qmz :: .ref qmR :: .ref qmv :: .ref qmk :: .ref qma :: .ref qmt :: .int (nI kZ) :: .ref qmr :: .int (nI (T_nb tA)) :: .ref qmB :: .int (nI (T_np tA)) :: .ref qmO :: .ref qmK :: .int iEn :: .int iTk :: .int (T_sd tA) :: ov uP :: ov uU :: .int (nI kAt) :: .int iTo :: .int iFr :: .long JFi :: .int iFa :: .ref qm3 :: .int iSt :: .int iLv :: .int iWs :: vLa :: .ref qmu :: .ref qmy :: .ref qmb :: .ref qms :: .int iOm :: []), zzG cy 3 qmB rB, zzI cy (rB 0) 4 (bkR tA 0), zzI cy (rB 1) 4 (bkR tA 1), zzI cy (rB 2) 4 (bkR tA 2), zzI cy (rB 3) 4 (bkR tA 3), zzI cy (rB 4) 4 (bkR tA 4), zzI cy (rB 5) 4 (bkR tA 5), zzI cy (rB 6) 4 (bkR tA 6), zzI cy (rB 7) 4 (bkR tA 7), zzG cy 3 qmO rO, zzI cy (rO 0) 5 (onR tA 0), zzI cy (rO 1) 5 (onR tA 1), zzI cy (rO 2) 5 (onR tA 2), zzI cy (rO 3) 5 (onR tA 3), zzI cy (rO 4) 5 (onR tA 4), zzI cy (rO 5) 5 (onR tA 5), zzI cy (rO 6) 5 (onR tA 6), zzI cy (rO 7) 5 (onR tA 7), zzG cy 3 qmK rK, zzI cy (rK 0) 8 (T_kn tA 0), zzI cy (rK 1) 8 (T_kn tA 1), zzI cy (rK 2) 8 (T_kn tA 2), zzI cy (rK 3) 8 (T_kn tA 3), zzI cy (rK 4) 8 (T_kn tA 4), zzI cy (rK 5) 8 (T_kn tA 5), zzI cy (rK 6) 8 (T_kn tA 6), zzI cy (rK 7) 8 (T_kn tA 7), zzI cy qmr 8 fMr] sz [.ref qm, .int iA, .int iB, .int iC] (Wi G (fun r u => ∃ (tN : TA) (fNr : Nat → Int32), u = [zzO qm 5 (.ref qmh :: .ref qmo :: .ref qmz :: .ref qmR :: .ref qmv :: .ref qmk :: .ref qma :: .ref qmt :: .int (nI kZ) :: .ref qmr :: .int (nI (T_nb tN)) :: .ref qmB :: .int (nI (T_np tN)) :: .ref qmO :: .ref qmK :: .int iEn :: .int iTk :: .int (T_sd tN) :: ov uP :: ov uU :: .int (nI kAt) :: .int iTo :: .int iFr :: .long JFi :: .int iFa :: .ref qm3 :: .int iSt :: .int iLv :: .int iWs :: vLa :: .ref qmu :: .ref qmy :: .ref qmb :: .ref qms :: .int iOm :: []), zzG cy 3 qmB rB, zzI cy (rB 0) 4 (bkR tN 0), zzI cy (rB 1) 4 (bkR tN 1), zzI cy (rB 2) 4 (bkR tN 2), zzI cy (rB 3) 4 (bkR tN 3), zzI cy (rB 4) 4 (bkR tN 4), zzI cy (rB 5) 4 (bkR tN 5), zzI cy (rB 6) 4 (bkR tN 6), zzI cy (rB 7) 4 (bkR tN 7), zzG cy 3 qmO rO, zzI cy (rO 0) 5 (onR tN 0), zzI cy (rO 1) 5 (onR tN 1), zzI cy (rO 2) 5 (onR tN 2), zzI cy (rO 3) 5 (onR tN 3), zzI cy (rO 4) 5 (onR tN 4), zzI cy (rO 5) 5 (onR tN 5), zzI cy (rO 6) 5 (onR tN 6), zzI cy (rO 7) 5 (onR tN 7), zzG cy 3 qmK rK, zzI cy (rK 0) 8 (T_kn tN 0), zzI cy (rK 1) 8 (T_kn tN 1), zzI cy (rK 2) 8 (T_kn tN 2), zzI cy (rK 3) 8 (T_kn tN 3), zzI cy (rK 4) 8 (T_kn tN 4), zzI cy (rK 5) 8 (T_kn tN 5), zzI cy (rK 6) 8 (T_kn tN 6), zzI cy (rK 7) 8 (T_kn tN 7), zzI cy qmr 8 fNr] ∧ (TI tN) ∧ (True))) := by
  refine enW RX6 (by decide +kernel) rfl (Nat.le_of_ble_eq_true rfl) (fun p e s m below meth c ls A hx hb hml hown hts hr hlocks hP hN hl hin hD hA hS => ?_)
  have hin : meth.name = _ := hin
  have hK := hN.1
  replace hl : lv_has ls 5 [(0, .ref qm), (1, .int iA), (2, .int iB), (3, .int iC)] := hl
  refine lv_aload_n hx hb (g_42 bX6_alter rfl) rfl (lv_at hl 0 rfl) ?_
  refine lv_iload_n hx hb (g_27 bX6_alter rfl) rfl (lv_at hl 1 rfl) ?_
  refine lv_i2l (v := iA.toInt64) hx hb (g_133 bX6_alter rfl) rfl ?_
  refine kRi (rV (As := [.long iA.toInt64]) (rest := []) (b := qm) ⟨hx, hb, hml, hown, hts⟩ (c_X6_isOne l G cy qm (.ref qmh) (.ref qmo) (.ref qmz) (.ref qmR) (.ref qmv) (.ref qmk) (.ref qma) (.ref qmt) (.int (nI kZ)) (.ref qmr) tA qmB qmO qmK iEn iTk (ov uP) (ov uU) (.int (nI kAt)) (.int iTo) (.int iFr) (.long JFi) (.int iFa) (.ref qm3) (.int iSt) iLv iWs vLa (.ref qmu) (.ref qmy) (.ref qmb) (.ref qms) (.int iOm) iA hPp) L_X6_236 (preRV (q := (RX6, TX6, 35)) hN hP [0] rfl 0 5 rfl rfl) rfl ⟨Nat.le_of_ble_eq_true rfl, Nat.le_of_ble_eq_true rfl⟩ hl.1 (Nat.le_of_ble_eq_true rfl) (g_182 (v := 236) bX6_alter rfl) ⟨Nat.le_of_ble_eq_true rfl, Nat.le_of_ble_eq_true rfl⟩) (fun r_1 h_2 => ?_)
  rcases h_2 with ⟨rfl, h_3⟩ | ⟨rfl, h_3⟩
  · obtain ⟨k_4, hk_5, rfl⟩ := h_3
    refine lv_if_eq (tgt := 30) hx hb dX6_alter_6 (by decide +kernel) (fun h9 => absurd h9 (by decide +kernel)) (fun _ => ?_)
    refine lv_aload_n hx hb (g_42 bX6_alter rfl) rfl (lv_at hl 0 rfl) ?_
    refine lv_iload_n hx hb (g_28 bX6_alter rfl) rfl (lv_at hl 2 rfl) ?_
    refine lv_i2l (v := iB.toInt64) hx hb (g_133 bX6_alter rfl) rfl ?_
    refine kRi (rV (As := [.long iB.toInt64]) (rest := []) (b := qm) ⟨hx, hb, hml, hown, hts⟩ (c_X6_isBook l G cy qm (.ref qmh) (.ref qmo) (.ref qmz) (.ref qmR) (.ref qmv) (.ref qmk) (.ref qma) (.ref qmt) (.int (nI kZ)) (.ref qmr) tA qmB qmO qmK iEn iTk (ov uP) (ov uU) (.int (nI kAt)) (.int iTo) (.int iFr) (.long JFi) (.int iFa) (.ref qm3) (.int iSt) iLv iWs vLa (.ref qmu) (.ref qmy) (.ref qmb) (.ref qms) (.int iOm) iB hB) L_X6_229 (preRV (q := (RX6, TX6, 35)) hN hP [0] rfl 0 5 rfl rfl) rfl ⟨Nat.le_of_ble_eq_true rfl, Nat.le_of_ble_eq_true rfl⟩ hl.1 (Nat.le_of_ble_eq_true rfl) (g_182 (v := 229) bX6_alter rfl) ⟨Nat.le_of_ble_eq_true rfl, Nat.le_of_ble_eq_true rfl⟩) (fun r_7 h_8 => ?_)
    rcases h_8 with ⟨rfl, h_9⟩ | ⟨rfl, h_9⟩
    · obtain ⟨k_10, hk_11, rfl⟩ := h_9
      refine lv_if_eq (tgt := 30) hx hb dX6_alter_15 (by decide +kernel) (fun h9 => absurd h9 (by decide +kernel)) (fun _ => ?_)
      refine lv_iload_n hx hb (g_29 bX6_alter rfl) rfl (lv_at hl 3 rfl) ?_
      refine lv_i2l (v := iC.toInt64) hx hb (g_133 bX6_alter rfl) rfl ?_
      refine lv_lconst (v := 0) hx hb (g_9 bX6_alter rfl) (by decide +kernel) ?_
      refine lv_ldc2 hx hb hown (hts _ m_t1199) (g_20 (v := 239) bX6_alter rfl) ?_
      refine kRi (rS (As := [.long iC.toInt64, .long 0, .long 1000]) (rest := []) ⟨hx, hb, hml, hown, hts⟩ (c_X6_in l G cy iC.toInt64 0 1000) L_X6_74 (preRS hN hP [] rfl) rfl ⟨Nat.le_of_ble_eq_true rfl, Nat.le_of_ble_eq_true rfl⟩ hl.1 (Nat.le_of_ble_eq_true rfl) (g_184 (v := 74) bX6_alter rfl) ⟨Nat.le_of_ble_eq_true rfl, Nat.le_of_ble_eq_true rfl⟩) (fun r_13 h_14 => ?_)
      rcases h_14 with ⟨rfl, h_15⟩ | ⟨rfl, h_15⟩
      · refine lv_if_ne (tgt := 37) hx hb dX6_alter_27 (by decide +kernel) (fun _ => ?_) (fun h9 => absurd h9 (by decide +kernel))
        refine lv_aload_n hx hb (g_42 bX6_alter rfl) rfl (lv_at hl 0 rfl) ?_
        refine lv_iload_n hx hb (g_27 bX6_alter rfl) rfl (lv_at hl 1 rfl) ?_
        refine kRi (rV (As := [.int (nI k_4)]) (rest := []) (b := qm) ⟨hx, hb, hml, hown, hts⟩ (c_X6_isThere l G cy qm (.ref qmh) (.ref qmo) (.ref qmz) (.ref qmR) (.ref qmv) (.ref qmk) (.ref qma) (.ref qmt) (.int (nI kZ)) (.ref qmr) tA qmB qmO qmK iEn iTk (ov uP) (ov uU) (.int (nI kAt)) (.int iTo) (.int iFr) (.long JFi) (.int iFa) (.ref qm3) (.int iSt) iLv iWs vLa (.ref qmu) (.ref qmy) (.ref qmb) (.ref qms) (.int iOm) rO k_4 (by first | omega | (simp only [nb_sr, np_sr, nb_wr, np_wr, nb_rd, np_rd, nb_ch, np_ch, nb_zr, np_zr, nb_za, np_za, nb_ey, np_ey, nb_hf, np_hf, nb_dd, np_dd, nb_so, np_so, nb_skn, np_skn, nb_swh, np_swh, nb_sgn, np_sgn, nb_ssd, np_ssd, nb_sgo, np_sgo, nb_sag, np_sag]; omega))) L_X6_81 (preRV (q := (RX6, TX6, 35)) hN hP (trueIx 0 [true, false, false, false, false, false, false, false, false, false, true, true, true, true, true, true, true, true, true]) (sel_fm rfl rfl) 0 5 rfl rfl) rfl ⟨Nat.le_of_ble_eq_true rfl, Nat.le_of_ble_eq_true rfl⟩ hl.1 (Nat.le_of_ble_eq_true rfl) (g_182 (v := 81) bX6_alter rfl) ⟨Nat.le_of_ble_eq_true rfl, Nat.le_of_ble_eq_true rfl⟩) (fun r_17 h_18 => ?_)
        rcases h_18 with ⟨rfl, h_19⟩ | ⟨rfl, h_19⟩
        · refine lv_if_ne (tgt := 52) hx hb dX6_alter_42 (by decide +kernel) (fun _ => ?_) (fun h9 => absurd h9 (by decide +kernel))
          refine lv_aload_n hx hb (g_42 bX6_alter rfl) rfl (lv_at hl 0 rfl) ?_
          refine va_get (D := G) (ci := 5) (v := .ref qmK) (C := RX6) (T := TX6) (N := 35) hx hb hts iX_X6 hown hK hP 0 rfl rfl 14 (by decide +kernel) (hts _ m_t864) (fun _ h9 => h9) rfl (g_180 (v := 48) bX6_alter rfl) ?_
          refine lv_iload_n hx hb (g_27 bX6_alter rfl) rfl (lv_at hl 1 rfl) ?_
          refine va_alda hx hb hK hP 19 3 rfl rfl (in8 (by omega)) (g_50 bX6_alter rfl) ?_
          refine lv_setv (v := .ref (rK k_4)) (g_ref (by omega)) ?_
          refine lv_iload_n hx hb (g_28 bX6_alter rfl) rfl (lv_at hl 2 rfl) ?_
          refine va_iald hx hb hK hP (20 + k_4) 0 (sg8 (n0 := 20) (f := (fun j => zzI cy (rK j) 8 (T_kn tA j))) rfl rfl rfl rfl rfl rfl rfl rfl k_4 (by omega)) rfl (vp_in_nI (by omega) (by omega)) (g_46 bX6_alter rfl) ?_
          refine lv_seti (v := T_kn tA k_4 k_10) (congrArg (T_kn tA k_4) (nI_clamp (by omega))) ?_
          refine lv_istore (lv' := [(4, .int (T_kn tA k_4 k_10)), (0, .ref qm), (1, .int (nI k_4)), (2, .int (nI k_10)), (3, .int iC)]) hx hb (g_54 (v := 4) bX6_alter rfl) hl (by decide +kernel) rfl (fun ls => ?_)
          clear hl
          intro hl
          refine lv_aload_n hx hb (g_42 bX6_alter rfl) rfl (lv_at hl 1 rfl) ?_
          refine va_get (D := G) (ci := 5) (v := .ref qmK) (C := RX6) (T := TX6) (N := 35) hx hb hts iX_X6 hown hK hP 0 rfl rfl 14 (by decide +kernel) (hts _ m_t864) (fun _ h9 => h9) rfl (g_180 (v := 48) bX6_alter rfl) ?_
          refine lv_iload_n hx hb (g_27 bX6_alter rfl) rfl (lv_at hl 2 rfl) ?_
          refine va_alda hx hb hK hP 19 3 rfl rfl (in8 (by omega)) (g_50 bX6_alter rfl) ?_
          refine lv_setv (v := .ref (rK k_4)) (g_ref (by omega)) ?_
          refine lv_iload_n hx hb (g_28 bX6_alter rfl) rfl (lv_at hl 3 rfl) ?_
          refine lv_iload_n hx hb (g_29 bX6_alter rfl) rfl (lv_at hl 4 rfl) ?_
          refine va_iast hx hb hK hP hD hS (20 + k_4) 0 ((sg8 (n0 := 20) (f := (fun j => zzI cy (rK j) 8 (T_kn tA j))) rfl rfl rfl rfl rfl rfl rfl rfl) k_4 (by omega)) rfl (vp_in_nI (by omega) (by omega)) (g_79 bX6_alter rfl) (fun H locs => ?_)
          clear hP hD hS
          intro hP hD hS
          rw [nI_clamp (n := k_10) (by omega)] at hP hD
          have hPD := st8PD (ws' := [zzO qm 5 (.ref qmh :: .ref qmo :: .ref qmz :: .ref qmR :: .ref qmv :: .ref qmk :: .ref qma :: .ref qmt :: .int (nI kZ) :: .ref qmr :: .int (nI (T_nb (T_setkn tA (updM (T_kn tA) k_4 k_10 iC)))) :: .ref qmB :: .int (nI (T_np (T_setkn tA (updM (T_kn tA) k_4 k_10 iC)))) :: .ref qmO :: .ref qmK :: .int iEn :: .int iTk :: .int (T_sd (T_setkn tA (updM (T_kn tA) k_4 k_10 iC))) :: ov uP :: ov uU :: .int (nI kAt) :: .int iTo :: .int iFr :: .long JFi :: .int iFa :: .ref qm3 :: .int iSt :: .int iLv :: .int iWs :: vLa :: .ref qmu :: .ref qmy :: .ref qmb :: .ref qms :: .int iOm :: []), zzG cy 3 qmB rB, zzI cy (rB 0) 4 (bkR (T_setkn tA (updM (T_kn tA) k_4 k_10 iC)) 0), zzI cy (rB 1) 4 (bkR (T_setkn tA (updM (T_kn tA) k_4 k_10 iC)) 1), zzI cy (rB 2) 4 (bkR (T_setkn tA (updM (T_kn tA) k_4 k_10 iC)) 2), zzI cy (rB 3) 4 (bkR (T_setkn tA (updM (T_kn tA) k_4 k_10 iC)) 3), zzI cy (rB 4) 4 (bkR (T_setkn tA (updM (T_kn tA) k_4 k_10 iC)) 4), zzI cy (rB 5) 4 (bkR (T_setkn tA (updM (T_kn tA) k_4 k_10 iC)) 5), zzI cy (rB 6) 4 (bkR (T_setkn tA (updM (T_kn tA) k_4 k_10 iC)) 6), zzI cy (rB 7) 4 (bkR (T_setkn tA (updM (T_kn tA) k_4 k_10 iC)) 7), zzG cy 3 qmO rO, zzI cy (rO 0) 5 (onR (T_setkn tA (updM (T_kn tA) k_4 k_10 iC)) 0), zzI cy (rO 1) 5 (onR (T_setkn tA (updM (T_kn tA) k_4 k_10 iC)) 1), zzI cy (rO 2) 5 (onR (T_setkn tA (updM (T_kn tA) k_4 k_10 iC)) 2), zzI cy (rO 3) 5 (onR (T_setkn tA (updM (T_kn tA) k_4 k_10 iC)) 3), zzI cy (rO 4) 5 (onR (T_setkn tA (updM (T_kn tA) k_4 k_10 iC)) 4), zzI cy (rO 5) 5 (onR (T_setkn tA (updM (T_kn tA) k_4 k_10 iC)) 5), zzI cy (rO 6) 5 (onR (T_setkn tA (updM (T_kn tA) k_4 k_10 iC)) 6), zzI cy (rO 7) 5 (onR (T_setkn tA (updM (T_kn tA) k_4 k_10 iC)) 7), zzG cy 3 qmK rK, zzI cy (rK 0) 8 (T_kn (T_setkn tA (updM (T_kn tA) k_4 k_10 iC)) 0), zzI cy (rK 1) 8 (T_kn (T_setkn tA (updM (T_kn tA) k_4 k_10 iC)) 1), zzI cy (rK 2) 8 (T_kn (T_setkn tA (updM (T_kn tA) k_4 k_10 iC)) 2), zzI cy (rK 3) 8 (T_kn (T_setkn tA (updM (T_kn tA) k_4 k_10 iC)) 3), zzI cy (rK 4) 8 (T_kn (T_setkn tA (updM (T_kn tA) k_4 k_10 iC)) 4), zzI cy (rK 5) 8 (T_kn (T_setkn tA (updM (T_kn tA) k_4 k_10 iC)) 5), zzI cy (rK 6) 8 (T_kn (T_setkn tA (updM (T_kn tA) k_4 k_10 iC)) 6), zzI cy (rK 7) 8 (T_kn (T_setkn tA (updM (T_kn tA) k_4 k_10 iC)) 7), zzI cy qmr 8 fMr]) (k := k_4) (g1 := T_kn (T_setkn tA (updM (T_kn tA) k_4 k_10 iC)) k_4) hP hD (sg8 (n0 := 20) (f := (fun j => zzI cy (rK j) 8 (T_kn tA j))) rfl rfl rfl rfl rfl rfl rfl rfl) (sg8 (n0 := 20) (f := (fun j => zzI cy (rK j) 8 (T_kn (T_setkn tA (updM (T_kn tA) k_4 k_10 iC)) j))) rfl rfl rfl rfl rfl rfl rfl rfl) rfl rfl (by omega) rfl (fun i _ => (congrFun (kn_u tA k_4 k_10 iC) i).symm) (fun j hj => congrArg (zzI cy (rK j) 8) (kn_n tA k_4 k_10 iC hj))
          clear hP hD
          obtain ⟨hP, hD⟩ := hPD
          refine lv_iload hx hb (g_21 (v := 4) bX6_alter rfl) (lv_at hl 0 rfl) ?_
          exact endWs [[true, true, true, true, true, true, true, true, true, true, true, true, true, true, true, true, true, true, true, true, true, true, true, true, true, true, true, true, true]] hx hb hr hlocks rfl hP hD rfl (by decide +kernel) hS ⟨(T_setkn tA (updM (T_kn tA) k_4 k_10 iC)), fMr, rfl, TI_kn hTI (r_iv 1000 (by decide +kernel) h_15), trivial⟩ (g_172 bX6_alter rfl)
        · refine lv_if_ne (tgt := 52) hx hb dX6_alter_42 (by decide +kernel) (fun h9 => absurd (by decide +kernel) h9) (fun _ => ?_)
          refine lv_aload_n hx hb (g_42 bX6_alter rfl) rfl (lv_at hl 0 rfl) ?_
          refine lv_bipush (v := (-5)) hx hb dX6_alter_46 (by decide +kernel) ?_
          refine cVi (As := [.int (-5)]) (rest := []) (b := qm) (q := (RX6, TX6, 35)) ⟨hx, hb, hml, hown, hts⟩ (c_X6_refuse5 l G cy (s.heap).size qm (.ref qmh) (.ref qmo) (.ref qmz) (.ref qmR) (.ref qmv) (.ref qmk) (.ref qma) (.ref qmt) (.int (nI kZ)) qmr tA qmB qmO qmK iEn iTk (ov uP) (ov uU) (.int (nI kAt)) (.int iTo) (.int iFr) (.long JFi) (.int iFa) (.ref qm3) (.int iSt) iLv iWs vLa (.ref qmu) (.ref qmy) (.ref qmb) (.ref qms) (.int iOm) fMr) L_X6_91 hN hP hD hS hA [0, 28] [false, true, true, true, true, true, true, true, true, true, true, true, true, true, true, true, true, true, true, true, true, true, true, true, true, true, true, true, false] rfl (by decide +kernel) rfl 0 5 rfl rfl rfl ⟨Nat.le_of_ble_eq_true rfl, Nat.le_of_ble_eq_true rfl⟩ hl.1 (Nat.le_of_ble_eq_true rfl) (g_182 (v := 91) bX6_alter rfl) ⟨Nat.le_of_ble_eq_true rfl, Nat.le_of_ble_eq_true rfl⟩ (fun r_22 u_24 H locs h_23 => ?_)
          clear hP hD hS
          intro hP hD hS
          obtain ⟨fX_25, hu9, h_23⟩ := h_23
          have hPD := pd_eq [_, _, _, _, _, _, _, _, _, _, _, _, _, _, _, _, _, _, _, _, _, _, _, _, _, _, _, _, zzI cy qmr 8 fX_25] hP hD hu9 rfl
          clear hP hD hu9
          obtain ⟨hP, hD⟩ := hPD
          subst h_23
          exact endWs [[false, false, false, false, false, false, false, false, false, false, false, false, false, false, false, false, false, false, false, false, false, false, false, false, false, false, false, true], [true, true, true, true, true, true, true, true, true, true, true, true, true, true, true, true, true, true, true, true, true, true, true, true, true, true, true, false, true]] hx hb hr hlocks rfl hP hD rfl (by decide +kernel) hS ⟨tA, fX_25, rfl, hTI, trivial⟩ (g_172 bX6_alter rfl)
      · refine lv_if_ne (tgt := 37) hx hb dX6_alter_27 (by decide +kernel) (fun h9 => absurd (by decide +kernel) h9) (fun _ => ?_)
        refine lv_aload_n hx hb (g_42 bX6_alter rfl) rfl (lv_at hl 0 rfl) ?_
        refine lv_bipush (v := (-2)) hx hb dX6_alter_31 (by decide +kernel) ?_
        refine cVi (As := [.int (-2)]) (rest := []) (b := qm) (q := (RX6, TX6, 35)) ⟨hx, hb, hml, hown, hts⟩ (c_X6_refuse2 l G cy (s.heap).size qm (.ref qmh) (.ref qmo) (.ref qmz) (.ref qmR) (.ref qmv) (.ref qmk) (.ref qma) (.ref qmt) (.int (nI kZ)) qmr tA qmB qmO qmK iEn iTk (ov uP) (ov uU) (.int (nI kAt)) (.int iTo) (.int iFr) (.long JFi) (.int iFa) (.ref qm3) (.int iSt) iLv iWs vLa (.ref qmu) (.ref qmy) (.ref qmb) (.ref qms) (.int iOm) fMr) L_X6_91 hN hP hD hS hA [0, 28] [false, true, true, true, true, true, true, true, true, true, true, true, true, true, true, true, true, true, true, true, true, true, true, true, true, true, true, true, false] rfl (by decide +kernel) rfl 0 5 rfl rfl rfl ⟨Nat.le_of_ble_eq_true rfl, Nat.le_of_ble_eq_true rfl⟩ hl.1 (Nat.le_of_ble_eq_true rfl) (g_182 (v := 91) bX6_alter rfl) ⟨Nat.le_of_ble_eq_true rfl, Nat.le_of_ble_eq_true rfl⟩ (fun r_27 u_29 H locs h_28 => ?_)
        clear hP hD hS
        intro hP hD hS
        obtain ⟨fX_30, hu9, h_28⟩ := h_28
        have hPD := pd_eq [_, _, _, _, _, _, _, _, _, _, _, _, _, _, _, _, _, _, _, _, _, _, _, _, _, _, _, _, zzI cy qmr 8 fX_30] hP hD hu9 rfl
        clear hP hD hu9
        obtain ⟨hP, hD⟩ := hPD
        subst h_28
        exact endWs [[false, false, false, false, false, false, false, false, false, false, false, false, false, false, false, false, false, false, false, false, false, false, false, false, false, false, false, true], [true, true, true, true, true, true, true, true, true, true, true, true, true, true, true, true, true, true, true, true, true, true, true, true, true, true, true, false, true]] hx hb hr hlocks rfl hP hD rfl (by decide +kernel) hS ⟨tA, fX_30, rfl, hTI, trivial⟩ (g_172 bX6_alter rfl)
    · refine lv_if_eq (tgt := 30) hx hb dX6_alter_15 (by decide +kernel) (fun _ => ?_) (fun h9 => absurd (by decide +kernel) h9)
      refine lv_aload_n hx hb (g_42 bX6_alter rfl) rfl (lv_at hl 0 rfl) ?_
      refine lv_bipush (v := (-2)) hx hb dX6_alter_31 (by decide +kernel) ?_
      refine cVi (As := [.int (-2)]) (rest := []) (b := qm) (q := (RX6, TX6, 35)) ⟨hx, hb, hml, hown, hts⟩ (c_X6_refuse2 l G cy (s.heap).size qm (.ref qmh) (.ref qmo) (.ref qmz) (.ref qmR) (.ref qmv) (.ref qmk) (.ref qma) (.ref qmt) (.int (nI kZ)) qmr tA qmB qmO qmK iEn iTk (ov uP) (ov uU) (.int (nI kAt)) (.int iTo) (.int iFr) (.long JFi) (.int iFa) (.ref qm3) (.int iSt) iLv iWs vLa (.ref qmu) (.ref qmy) (.ref qmb) (.ref qms) (.int iOm) fMr) L_X6_91 hN hP hD hS hA [0, 28] [false, true, true, true, true, true, true, true, true, true, true, true, true, true, true, true, true, true, true, true, true, true, true, true, true, true, true, true, false] rfl (by decide +kernel) rfl 0 5 rfl rfl rfl ⟨Nat.le_of_ble_eq_true rfl, Nat.le_of_ble_eq_true rfl⟩ hl.1 (Nat.le_of_ble_eq_true rfl) (g_182 (v := 91) bX6_alter rfl) ⟨Nat.le_of_ble_eq_true rfl, Nat.le_of_ble_eq_true rfl⟩ (fun r_32 u_34 H locs h_33 => ?_)
      clear hP hD hS
      intro hP hD hS
      obtain ⟨fX_35, hu9, h_33⟩ := h_33
      have hPD := pd_eq [_, _, _, _, _, _, _, _, _, _, _, _, _, _, _, _, _, _, _, _, _, _, _, _, _, _, _, _, zzI cy qmr 8 fX_35] hP hD hu9 rfl
      clear hP hD hu9
      obtain ⟨hP, hD⟩ := hPD
      subst h_33
      exact endWs [[false, false, false, false, false, false, false, false, false, false, false, false, false, false, false, false, false, false, false, false, false, false, false, false, false, false, false, true], [true, true, true, true, true, true, true, true, true, true, true, true, true, true, true, true, true, true, true, true, true, true, true, true, true, true, true, false, true]] hx hb hr hlocks rfl hP hD rfl (by decide +kernel) hS ⟨tA, fX_35, rfl, hTI, trivial⟩ (g_172 bX6_alter rfl)
  · refine lv_if_eq (tgt := 30) hx hb dX6_alter_6 (by decide +kernel) (fun _ => ?_) (fun h9 => absurd (by decide +kernel) h9)
    refine lv_aload_n hx hb (g_42 bX6_alter rfl) rfl (lv_at hl 0 rfl) ?_
    refine lv_bipush (v := (-2)) hx hb dX6_alter_31 (by decide +kernel) ?_
    refine cVi (As := [.int (-2)]) (rest := []) (b := qm) (q := (RX6, TX6, 35)) ⟨hx, hb, hml, hown, hts⟩ (c_X6_refuse2 l G cy (s.heap).size qm (.ref qmh) (.ref qmo) (.ref qmz) (.ref qmR) (.ref qmv) (.ref qmk) (.ref qma) (.ref qmt) (.int (nI kZ)) qmr tA qmB qmO qmK iEn iTk (ov uP) (ov uU) (.int (nI kAt)) (.int iTo) (.int iFr) (.long JFi) (.int iFa) (.ref qm3) (.int iSt) iLv iWs vLa (.ref qmu) (.ref qmy) (.ref qmb) (.ref qms) (.int iOm) fMr) L_X6_91 hN hP hD hS hA [0, 28] [false, true, true, true, true, true, true, true, true, true, true, true, true, true, true, true, true, true, true, true, true, true, true, true, true, true, true, true, false] rfl (by decide +kernel) rfl 0 5 rfl rfl rfl ⟨Nat.le_of_ble_eq_true rfl, Nat.le_of_ble_eq_true rfl⟩ hl.1 (Nat.le_of_ble_eq_true rfl) (g_182 (v := 91) bX6_alter rfl) ⟨Nat.le_of_ble_eq_true rfl, Nat.le_of_ble_eq_true rfl⟩ (fun r_37 u_39 H locs h_38 => ?_)
    clear hP hD hS
    intro hP hD hS
    obtain ⟨fX_40, hu9, h_38⟩ := h_38
    have hPD := pd_eq [_, _, _, _, _, _, _, _, _, _, _, _, _, _, _, _, _, _, _, _, _, _, _, _, _, _, _, _, zzI cy qmr 8 fX_40] hP hD hu9 rfl
    clear hP hD hu9
    obtain ⟨hP, hD⟩ := hPD
    subst h_38
    exact endWs [[false, false, false, false, false, false, false, false, false, false, false, false, false, false, false, false, false, false, false, false, false, false, false, false, false, false, false, true], [true, true, true, true, true, true, true, true, true, true, true, true, true, true, true, true, true, true, true, true, true, true, true, true, true, true, true, false, true]] hx hb hr hlocks rfl hP hD rfl (by decide +kernel) hS ⟨tA, fX_40, rfl, hTI, trivial⟩ (g_172 bX6_alter rfl)
set_option maxHeartbeats 4000000 in
set_option maxRecDepth 100000 in
theorem p_X6_needs (l : Launch) (G : va_G) (cy : Nat → ClassId) (sz : Nat) (qm : Nat) (qmh : Nat) (qmo : Nat) (qmz : Nat) (qmR : Nat) (qmv : Nat) (qmk : Nat) (qma : Nat) (qmt : Nat) (kZ : Nat) (qmr : Nat) (tA : TA) (qmB : Nat) (qmO : Nat) (qmK : Nat) (iEn : Int32) (iTk : Int32) (uP : UM) (uU : UM) (kAt : Nat) (iTo : Int32) (iFr : Int32) (JFi : Int64) (iFa : Int32) (qm3 : Nat) (iSt : Int32) (iLv : Int32) (iWs : Int32) (vLa : Value) (qmu : Nat) (qmy : Nat) (qmb : Nat) (qms : Nat) (iOm : Int32) (rB : Nat → Nat) (rO : Nat → Nat) (rK : Nat → Nat) (fMr : Nat → Int32) (iA : Int32) (iB : Int32)  (hB : T_nb tA ≤ 8) (hPp : T_np tA ≤ 8) (hTI : TI tA) : MW l yX6_needs cX6_needs 5 (some .int) 16 0 0 G cy [zzO qm 5 (.ref qmh :: .ref qmo :: .ref qmz :: .ref qmR :: .ref qmv :: .ref qmk :: .ref qma :: .ref qmt :: .int (nI kZ) :: .ref qmr :: .int (nI (T_nb tA)) :: .ref qmB :: .int (nI (T_np tA)) :: .ref qmO :: .ref qmK :: .int iEn :: .int iTk :: .int (T_sd tA) :: ov uP :: ov uU :: .int (nI kAt) :: .int iTo :: .int iFr :: .long JFi :: .int iFa :: .ref qm3 :: .int iSt :: .int iLv :: .int iWs :: vLa :: .ref qmu :: .ref qmy :: .ref qmb :: .ref qms :: .int iOm :: []), zzG cy 3 qmB rB, zzI cy (rB 0) 4 (bkR tA 0), zzI cy (rB 1) 4 (bkR tA 1), zzI cy (rB 2) 4 (bkR tA 2), zzI cy (rB 3) 4 (bkR tA 3), zzI cy (rB 4) 4 (bkR tA 4), zzI cy (rB 5) 4 (bkR tA 5), zzI cy (rB 6) 4 (bkR tA 6), zzI cy (rB 7) 4 (bkR tA 7), zzG cy 3 qmO rO, zzI cy (rO 0) 5 (onR tA 0), zzI cy (rO 1) 5 (onR tA 1), zzI cy (rO 2) 5 (onR tA 2), zzI cy (rO 3) 5 (onR tA 3), zzI cy (rO 4) 5 (onR tA 4), zzI cy (rO 5) 5 (onR tA 5), zzI cy (rO 6) 5 (onR tA 6), zzI cy (rO 7) 5 (onR tA 7), zzG cy 3 qmK rK, zzI cy (rK 0) 8 (T_kn tA 0), zzI cy (rK 1) 8 (T_kn tA 1), zzI cy (rK 2) 8 (T_kn tA 2), zzI cy (rK 3) 8 (T_kn tA 3), zzI cy (rK 4) 8 (T_kn tA 4), zzI cy (rK 5) 8 (T_kn tA 5), zzI cy (rK 6) 8 (T_kn tA 6), zzI cy (rK 7) 8 (T_kn tA 7), zzI cy qmr 8 fMr] sz [.ref qm, .int iA, .int iB] (Wi G (fun r u => ∃ (fNr : Nat → Int32), u = [zzO qm 5 (.ref qmh :: .ref qmo :: .ref qmz :: .ref qmR :: .ref qmv :: .ref qmk :: .ref qma :: .ref qmt :: .int (nI kZ) :: .ref qmr :: .int (nI (T_nb tA)) :: .ref qmB :: .int (nI (T_np tA)) :: .ref qmO :: .ref qmK :: .int iEn :: .int iTk :: .int (T_sd tA) :: ov uP :: ov uU :: .int (nI kAt) :: .int iTo :: .int iFr :: .long JFi :: .int iFa :: .ref qm3 :: .int iSt :: .int iLv :: .int iWs :: vLa :: .ref qmu :: .ref qmy :: .ref qmb :: .ref qms :: .int iOm :: []), zzG cy 3 qmB rB, zzI cy (rB 0) 4 (bkR tA 0), zzI cy (rB 1) 4 (bkR tA 1), zzI cy (rB 2) 4 (bkR tA 2), zzI cy (rB 3) 4 (bkR tA 3), zzI cy (rB 4) 4 (bkR tA 4), zzI cy (rB 5) 4 (bkR tA 5), zzI cy (rB 6) 4 (bkR tA 6), zzI cy (rB 7) 4 (bkR tA 7), zzG cy 3 qmO rO, zzI cy (rO 0) 5 (onR tA 0), zzI cy (rO 1) 5 (onR tA 1), zzI cy (rO 2) 5 (onR tA 2), zzI cy (rO 3) 5 (onR tA 3), zzI cy (rO 4) 5 (onR tA 4), zzI cy (rO 5) 5 (onR tA 5), zzI cy (rO 6) 5 (onR tA 6), zzI cy (rO 7) 5 (onR tA 7), zzG cy 3 qmK rK, zzI cy (rK 0) 8 (T_kn tA 0), zzI cy (rK 1) 8 (T_kn tA 1), zzI cy (rK 2) 8 (T_kn tA 2), zzI cy (rK 3) 8 (T_kn tA 3), zzI cy (rK 4) 8 (T_kn tA 4), zzI cy (rK 5) 8 (T_kn tA 5), zzI cy (rK 6) 8 (T_kn tA 6), zzI cy (rK 7) 8 (T_kn tA 7), zzI cy qmr 8 fNr] ∧ (True))) := by
  refine enW RX6 (by decide +kernel) rfl (Nat.le_of_ble_eq_true rfl) (fun p e s m below meth c ls A hx hb hml hown hts hr hlocks hP hN hl hin hD hA hS => ?_)
  have hin : meth.name = _ := hin
  have hK := hN.1
  replace hl : lv_has ls 5 [(0, .ref qm), (1, .int iA), (2, .int iB)] := hl
  refine lv_aload_n hx hb (g_42 bX6_needs rfl) rfl (lv_at hl 0 rfl) ?_
  refine lv_iload_n hx hb (g_27 bX6_needs rfl) rfl (lv_at hl 1 rfl) ?_
  refine lv_i2l (v := iA.toInt64) hx hb (g_133 bX6_needs rfl) rfl ?_
  refine kRi (rV (As := [.long iA.toInt64]) (rest := []) (b := qm) ⟨hx, hb, hml, hown, hts⟩ (c_X6_isBook l G cy qm (.ref qmh) (.ref qmo) (.ref qmz) (.ref qmR) (.ref qmv) (.ref qmk) (.ref qma) (.ref qmt) (.int (nI kZ)) (.ref qmr) tA qmB qmO qmK iEn iTk (ov uP) (ov uU) (.int (nI kAt)) (.int iTo) (.int iFr) (.long JFi) (.int iFa) (.ref qm3) (.int iSt) iLv iWs vLa (.ref qmu) (.ref qmy) (.ref qmb) (.ref qms) (.int iOm) iA hB) L_X6_229 (preRV (q := (RX6, TX6, 35)) hN hP [0] rfl 0 5 rfl rfl) rfl ⟨Nat.le_of_ble_eq_true rfl, Nat.le_of_ble_eq_true rfl⟩ hl.1 (Nat.le_of_ble_eq_true rfl) (g_182 (v := 229) bX6_needs rfl) ⟨Nat.le_of_ble_eq_true rfl, Nat.le_of_ble_eq_true rfl⟩) (fun r_1 h_2 => ?_)
  rcases h_2 with ⟨rfl, h_3⟩ | ⟨rfl, h_3⟩
  · obtain ⟨k_4, hk_5, rfl⟩ := h_3
    refine lv_if_ne (tgt := 16) hx hb dX6_needs_6 (by decide +kernel) (fun _ => ?_) (fun h9 => absurd h9 (by decide +kernel))
    refine lv_iconst (v := 0) hx hb (g_3 bX6_needs rfl) (by decide +kernel) ?_
    refine lv_istore_n (lv' := [(3, .int 0), (0, .ref qm), (1, .int (nI k_4)), (2, .int iB)]) hx hb (g_62 bX6_needs rfl) rfl hl (by decide +kernel) rfl (fun ls => ?_)
    clear hl
    intro hl
    refine lv_iload_n hx hb (g_28 bX6_needs rfl) rfl (lv_at hl 3 rfl) ?_
    refine lv_if_eq (tgt := 73) hx hb dX6_needs_19 (by decide +kernel) (fun c_7 => ?_) (fun c_7 => ?_)
    · refine lv_aload_n hx hb (g_42 bX6_needs rfl) rfl (lv_at hl 1 rfl) ?_
      refine va_get (D := G) (ci := 5) (v := .ref qmB) (C := RX6) (T := TX6) (N := 35) hx hb hts iX_X6 hown hK hP 0 rfl rfl 11 (by decide +kernel) (hts _ m_t861) (fun _ h9 => h9) rfl (g_180 (v := 42) bX6_needs rfl) ?_
      refine lv_iload_n hx hb (g_27 bX6_needs rfl) rfl (lv_at hl 2 rfl) ?_
      refine va_alda hx hb hK hP 1 3 rfl rfl (in8 (by omega)) (g_50 bX6_needs rfl) ?_
      refine lv_setv (v := .ref (rB k_4)) (g_ref (by omega)) ?_
      refine lv_iconst (v := 1) hx hb (g_4 bX6_needs rfl) (by decide +kernel) ?_
      refine va_iald hx hb hK hP (2 + k_4) 0 (sg8 (n0 := 2) (f := (fun j => zzI cy (rB j) 4 (bkR tA j))) rfl rfl rfl rfl rfl rfl rfl rfl k_4 (by omega)) rfl (in_c rfl) (g_46 bX6_needs rfl) ?_
      refine lv_seti (v := T_ne tA k_4) (bk_1 _ _) ?_
      refine lv_istore_n (lv' := [(3, .int (T_ne tA k_4)), (0, .ref qm), (1, .int (nI k_4)), (2, .int iB)]) hx hb (g_62 bX6_needs rfl) rfl hl (by decide +kernel) rfl (fun ls => ?_)
      clear hl
      intro hl
      refine lv_iload_n hx hb (g_27 bX6_needs rfl) rfl (lv_at hl 2 rfl) ?_
      refine lv_iconst (v := 1) hx hb (g_4 bX6_needs rfl) (by decide +kernel) ?_
      refine lv_isub hx hb (g_100 bX6_needs rfl) ?_
      refine lv_istore (lv' := [(4, .int ((nI k_4) - 1)), (3, .int (T_ne tA k_4)), (0, .ref qm), (1, .int (nI k_4)), (2, .int iB)]) hx hb (g_54 (v := 4) bX6_needs rfl) hl (by decide +kernel) rfl (fun ls => ?_)
      clear hl
      intro hl
      have lp_8 : ∀ (n_9 : Nat) (j_11 : Nat) (xS_12 : Int32), j_11 < n_9 → j_11 ≤ k_4 → ∀ (H : Heap) (locs : List Loc) (ls : Array Slot), va_P G CL [zzO qm 5 (.ref qmh :: .ref qmo :: .ref qmz :: .ref qmR :: .ref qmv :: .ref qmk :: .ref qma :: .ref qmt :: .int (nI kZ) :: .ref qmr :: .int (nI (T_nb tA)) :: .ref qmB :: .int (nI (T_np tA)) :: .ref qmO :: .ref qmK :: .int iEn :: .int iTk :: .int (T_sd tA) :: ov uP :: ov uU :: .int (nI kAt) :: .int iTo :: .int iFr :: .long JFi :: .int iFa :: .ref qm3 :: .int iSt :: .int iLv :: .int iWs :: vLa :: .ref qmu :: .ref qmy :: .ref qmb :: .ref qms :: .int iOm :: []), zzG cy 3 qmB rB, zzI cy (rB 0) 4 (bkR tA 0), zzI cy (rB 1) 4 (bkR tA 1), zzI cy (rB 2) 4 (bkR tA 2), zzI cy (rB 3) 4 (bkR tA 3), zzI cy (rB 4) 4 (bkR tA 4), zzI cy (rB 5) 4 (bkR tA 5), zzI cy (rB 6) 4 (bkR tA 6), zzI cy (rB 7) 4 (bkR tA 7), zzG cy 3 qmO rO, zzI cy (rO 0) 5 (onR tA 0), zzI cy (rO 1) 5 (onR tA 1), zzI cy (rO 2) 5 (onR tA 2), zzI cy (rO 3) 5 (onR tA 3), zzI cy (rO 4) 5 (onR tA 4), zzI cy (rO 5) 5 (onR tA 5), zzI cy (rO 6) 5 (onR tA 6), zzI cy (rO 7) 5 (onR tA 7), zzG cy 3 qmK rK, zzI cy (rK 0) 8 (T_kn tA 0), zzI cy (rK 1) 8 (T_kn tA 1), zzI cy (rK 2) 8 (T_kn tA 2), zzI cy (rK 3) 8 (T_kn tA 3), zzI cy (rK 4) 8 (T_kn tA 4), zzI cy (rK 5) 8 (T_kn tA 5), zzI cy (rK 6) 8 (T_kn tA 6), zzI cy (rK 7) 8 (T_kn tA 7), zzI cy qmr 8 fMr] H → va_D A [zzO qm 5 (.ref qmh :: .ref qmo :: .ref qmz :: .ref qmR :: .ref qmv :: .ref qmk :: .ref qma :: .ref qmt :: .int (nI kZ) :: .ref qmr :: .int (nI (T_nb tA)) :: .ref qmB :: .int (nI (T_np tA)) :: .ref qmO :: .ref qmK :: .int iEn :: .int iTk :: .int (T_sd tA) :: ov uP :: ov uU :: .int (nI kAt) :: .int iTo :: .int iFr :: .long JFi :: .int iFa :: .ref qm3 :: .int iSt :: .int iLv :: .int iWs :: vLa :: .ref qmu :: .ref qmy :: .ref qmb :: .ref qms :: .int iOm :: []), zzG cy 3 qmB rB, zzI cy (rB 0) 4 (bkR tA 0), zzI cy (rB 1) 4 (bkR tA 1), zzI cy (rB 2) 4 (bkR tA 2), zzI cy (rB 3) 4 (bkR tA 3), zzI cy (rB 4) 4 (bkR tA 4), zzI cy (rB 5) 4 (bkR tA 5), zzI cy (rB 6) 4 (bkR tA 6), zzI cy (rB 7) 4 (bkR tA 7), zzG cy 3 qmO rO, zzI cy (rO 0) 5 (onR tA 0), zzI cy (rO 1) 5 (onR tA 1), zzI cy (rO 2) 5 (onR tA 2), zzI cy (rO 3) 5 (onR tA 3), zzI cy (rO 4) 5 (onR tA 4), zzI cy (rO 5) 5 (onR tA 5), zzI cy (rO 6) 5 (onR tA 6), zzI cy (rO 7) 5 (onR tA 7), zzG cy 3 qmK rK, zzI cy (rK 0) 8 (T_kn tA 0), zzI cy (rK 1) 8 (T_kn tA 1), zzI cy (rK 2) 8 (T_kn tA 2), zzI cy (rK 3) 8 (T_kn tA 3), zzI cy (rK 4) 8 (T_kn tA 4), zzI cy (rK 5) 8 (T_kn tA 5), zzI cy (rK 6) 8 (T_kn tA 6), zzI cy (rK 7) 8 (T_kn tA 7), zzI cy qmr 8 fMr] → va_S A s.heap H locs → lv_has ls 5 [(4, .int (nI j_11 - 1)), (3, .int xS_12), (0, .ref qm), (1, .int (nI k_4)), (2, .int iB)] → W p l e (Rm 16 0 0) s m (List.toArray (α := Value) [.ref qm, .int (nI k_4), .int iB]) below meth c H locs 0 0 (MQ below ((Wi G (fun r u => ∃ (fNr : Nat → Int32), u = [zzO qm 5 (.ref qmh :: .ref qmo :: .ref qmz :: .ref qmR :: .ref qmv :: .ref qmk :: .ref qma :: .ref qmt :: .int (nI kZ) :: .ref qmr :: .int (nI (T_nb tA)) :: .ref qmB :: .int (nI (T_np tA)) :: .ref qmO :: .ref qmK :: .int iEn :: .int iTk :: .int (T_sd tA) :: ov uP :: ov uU :: .int (nI kAt) :: .int iTo :: .int iFr :: .long JFi :: .int iFa :: .ref qm3 :: .int iSt :: .int iLv :: .int iWs :: vLa :: .ref qmu :: .ref qmy :: .ref qmb :: .ref qms :: .int iOm :: []), zzG cy 3 qmB rB, zzI cy (rB 0) 4 (bkR tA 0), zzI cy (rB 1) 4 (bkR tA 1), zzI cy (rB 2) 4 (bkR tA 2), zzI cy (rB 3) 4 (bkR tA 3), zzI cy (rB 4) 4 (bkR tA 4), zzI cy (rB 5) 4 (bkR tA 5), zzI cy (rB 6) 4 (bkR tA 6), zzI cy (rB 7) 4 (bkR tA 7), zzG cy 3 qmO rO, zzI cy (rO 0) 5 (onR tA 0), zzI cy (rO 1) 5 (onR tA 1), zzI cy (rO 2) 5 (onR tA 2), zzI cy (rO 3) 5 (onR tA 3), zzI cy (rO 4) 5 (onR tA 4), zzI cy (rO 5) 5 (onR tA 5), zzI cy (rO 6) 5 (onR tA 6), zzI cy (rO 7) 5 (onR tA 7), zzG cy 3 qmK rK, zzI cy (rK 0) 8 (T_kn tA 0), zzI cy (rK 1) 8 (T_kn tA 1), zzI cy (rK 2) 8 (T_kn tA 2), zzI cy (rK 3) 8 (T_kn tA 3), zzI cy (rK 4) 8 (T_kn tA 4), zzI cy (rK 5) 8 (T_kn tA 5), zzI cy (rK 6) 8 (T_kn tA 6), zzI cy (rK 7) 8 (T_kn tA 7), zzI cy qmr 8 fNr] ∧ (True))) A) (List.toArray (α := Value) [.ref qm, .int (nI k_4), .int iB]) s 0 0 A) (F0 m 87 ls []) := by
        intro n_9
        induction n_9 with
        | zero => intro j_11 xS_12 hm9; exact absurd hm9 (Nat.not_lt_zero _)
        | succ n_9 ih_10 =>
          intro j_11 xS_12 hm_14 hj_13 H locs ls hP hD hS hl
          refine lv_iload hx hb (g_21 (v := 4) bX6_needs rfl) (lv_at hl 0 rfl) ?_
          refine lv_if_lt (tgt := 123) hx hb dX6_needs_89 (by decide +kernel) (fun c_15 => ?_) (fun c_15 => ?_)
          · refine lv_iload_n hx hb (g_29 bX6_needs rfl) rfl (lv_at hl 1 rfl) ?_
            exact endWs [[true, true, true, true, true, true, true, true, true, true, true, true, true, true, true, true, true, true, true, true, true, true, true, true, true, true, true, true, true]] hx hb hr hlocks rfl hP hD rfl (by decide +kernel) hS ⟨fMr, rfl, trivial⟩ (g_172 bX6_needs rfl)
          · obtain ⟨m_16, em_17⟩ := m1_pos c_15
            subst em_17
            rw [nI_pred] at hl
            refine lv_iload_n hx hb (g_29 bX6_needs rfl) rfl (lv_at hl 1 rfl) ?_
            refine lv_iload_n hx hb (g_29 bX6_needs rfl) rfl (lv_at hl 1 rfl) ?_
            refine lv_iload hx hb (g_21 (v := 4) bX6_needs rfl) (lv_at hl 0 rfl) ?_
            refine lv_ishr hx hb (g_122 bX6_needs rfl) ?_
            refine lv_iconst (v := 1) hx hb (g_4 bX6_needs rfl) (by decide +kernel) ?_
            refine lv_iand hx hb (g_126 bX6_needs rfl) ?_
            refine lv_if_eq (tgt := 114) hx hb dX6_needs_99 (by decide +kernel) (fun c_18 => ?_) (fun c_18 => ?_)
            · refine lv_iconst (v := 0) hx hb (g_3 bX6_needs rfl) (by decide +kernel) ?_
              refine lv_ior hx hb (g_128 bX6_needs rfl) ?_
              refine lv_istore_n (lv' := [(3, .int (xS_12 ||| 0)), (4, .int (nI m_16)), (0, .ref qm), (1, .int (nI k_4)), (2, .int iB)]) hx hb (g_62 bX6_needs rfl) rfl hl (by decide +kernel) rfl (fun ls => ?_)
              clear hl
              intro hl
              refine lv_iinc (v := nI m_16 - 1) (lv' := [(4, .int (nI m_16 - 1)), (3, .int (xS_12 ||| 0)), (0, .ref qm), (1, .int (nI k_4)), (2, .int iB)]) hx hb dX6_needs_117 hl (k := 1) rfl (ii_m1 _) (by decide +kernel) rfl (fun ls => ?_)
              clear hl
              intro hl
              refine lv_goto (tgt := 87) hx hb dX6_needs_120 (by decide +kernel) ?_
              exact ih_10 m_16 (xS_12 ||| 0) (by omega) (by omega) _ _ _ hP hD hS (lv_sub hl [0, 1, 2, 3, 4] rfl)
            · refine lv_aload_n hx hb (g_42 bX6_needs rfl) rfl (lv_at hl 2 rfl) ?_
              refine va_get (D := G) (ci := 5) (v := .ref qmB) (C := RX6) (T := TX6) (N := 35) hx hb hts iX_X6 hown hK hP 0 rfl rfl 11 (by decide +kernel) (hts _ m_t861) (fun _ h9 => h9) rfl (g_180 (v := 42) bX6_needs rfl) ?_
              refine lv_iload hx hb (g_21 (v := 4) bX6_needs rfl) (lv_at hl 0 rfl) ?_
              refine va_alda hx hb hK hP 1 3 rfl rfl (in8 (by omega)) (g_50 bX6_needs rfl) ?_
              refine lv_setv (v := .ref (rB m_16)) (g_ref (by omega)) ?_
              refine lv_iconst (v := 1) hx hb (g_4 bX6_needs rfl) (by decide +kernel) ?_
              refine va_iald hx hb hK hP (2 + m_16) 0 (sg8 (n0 := 2) (f := (fun j => zzI cy (rB j) 4 (bkR tA j))) rfl rfl rfl rfl rfl rfl rfl rfl m_16 (by omega)) rfl (in_c rfl) (g_46 bX6_needs rfl) ?_
              refine lv_seti (v := T_ne tA m_16) (bk_1 _ _) ?_
              refine lv_goto (tgt := 115) hx hb dX6_needs_111 (by decide +kernel) ?_
              refine lv_ior hx hb (g_128 bX6_needs rfl) ?_
              refine lv_istore_n (lv' := [(3, .int (xS_12 ||| (T_ne tA m_16))), (4, .int (nI m_16)), (0, .ref qm), (1, .int (nI k_4)), (2, .int iB)]) hx hb (g_62 bX6_needs rfl) rfl hl (by decide +kernel) rfl (fun ls => ?_)
              clear hl
              intro hl
              refine lv_iinc (v := nI m_16 - 1) (lv' := [(4, .int (nI m_16 - 1)), (3, .int (xS_12 ||| (T_ne tA m_16))), (0, .ref qm), (1, .int (nI k_4)), (2, .int iB)]) hx hb dX6_needs_117 hl (k := 1) rfl (ii_m1 _) (by decide +kernel) rfl (fun ls => ?_)
              clear hl
              intro hl
              refine lv_goto (tgt := 87) hx hb dX6_needs_120 (by decide +kernel) ?_
              exact ih_10 m_16 (xS_12 ||| (T_ne tA m_16)) (by omega) (by omega) _ _ _ hP hD hS (lv_sub hl [0, 1, 2, 3, 4] rfl)
      exact lp_8 (k_4 + 1) k_4 (T_ne tA k_4) (Nat.lt_succ_self _) (Nat.le_refl _) _ _ ls hP hD hS (lv_sub hl [0, 1, 2, 3, 4] rfl)
    · refine lv_iload_n hx hb (g_27 bX6_needs rfl) rfl (lv_at hl 2 rfl) ?_
      refine lv_iconst (v := 1) hx hb (g_4 bX6_needs rfl) (by decide +kernel) ?_
      refine lv_iadd hx hb (g_96 bX6_needs rfl) ?_
      refine lv_seti (v := nI (k_4 + 1)) (nI_1 _) ?_
      refine lv_istore (lv' := [(4, .int (nI (k_4 + 1))), (3, .int 0), (0, .ref qm), (1, .int (nI k_4)), (2, .int iB)]) hx hb (g_54 (v := 4) bX6_needs rfl) hl (by decide +kernel) rfl (fun ls => ?_)
      clear hl
      intro hl
      have lp_19 : ∀ (n_20 : Nat) (j_22 : Nat) (xS_23 : Int32), 8 - j_22 < n_20 → j_22 ≤ T_nb tA → ∀ (H : Heap) (locs : List Loc) (ls : Array Slot), va_P G CL [zzO qm 5 (.ref qmh :: .ref qmo :: .ref qmz :: .ref qmR :: .ref qmv :: .ref qmk :: .ref qma :: .ref qmt :: .int (nI kZ) :: .ref qmr :: .int (nI (T_nb tA)) :: .ref qmB :: .int (nI (T_np tA)) :: .ref qmO :: .ref qmK :: .int iEn :: .int iTk :: .int (T_sd tA) :: ov uP :: ov uU :: .int (nI kAt) :: .int iTo :: .int iFr :: .long JFi :: .int iFa :: .ref qm3 :: .int iSt :: .int iLv :: .int iWs :: vLa :: .ref qmu :: .ref qmy :: .ref qmb :: .ref qms :: .int iOm :: []), zzG cy 3 qmB rB, zzI cy (rB 0) 4 (bkR tA 0), zzI cy (rB 1) 4 (bkR tA 1), zzI cy (rB 2) 4 (bkR tA 2), zzI cy (rB 3) 4 (bkR tA 3), zzI cy (rB 4) 4 (bkR tA 4), zzI cy (rB 5) 4 (bkR tA 5), zzI cy (rB 6) 4 (bkR tA 6), zzI cy (rB 7) 4 (bkR tA 7), zzG cy 3 qmO rO, zzI cy (rO 0) 5 (onR tA 0), zzI cy (rO 1) 5 (onR tA 1), zzI cy (rO 2) 5 (onR tA 2), zzI cy (rO 3) 5 (onR tA 3), zzI cy (rO 4) 5 (onR tA 4), zzI cy (rO 5) 5 (onR tA 5), zzI cy (rO 6) 5 (onR tA 6), zzI cy (rO 7) 5 (onR tA 7), zzG cy 3 qmK rK, zzI cy (rK 0) 8 (T_kn tA 0), zzI cy (rK 1) 8 (T_kn tA 1), zzI cy (rK 2) 8 (T_kn tA 2), zzI cy (rK 3) 8 (T_kn tA 3), zzI cy (rK 4) 8 (T_kn tA 4), zzI cy (rK 5) 8 (T_kn tA 5), zzI cy (rK 6) 8 (T_kn tA 6), zzI cy (rK 7) 8 (T_kn tA 7), zzI cy qmr 8 fMr] H → va_D A [zzO qm 5 (.ref qmh :: .ref qmo :: .ref qmz :: .ref qmR :: .ref qmv :: .ref qmk :: .ref qma :: .ref qmt :: .int (nI kZ) :: .ref qmr :: .int (nI (T_nb tA)) :: .ref qmB :: .int (nI (T_np tA)) :: .ref qmO :: .ref qmK :: .int iEn :: .int iTk :: .int (T_sd tA) :: ov uP :: ov uU :: .int (nI kAt) :: .int iTo :: .int iFr :: .long JFi :: .int iFa :: .ref qm3 :: .int iSt :: .int iLv :: .int iWs :: vLa :: .ref qmu :: .ref qmy :: .ref qmb :: .ref qms :: .int iOm :: []), zzG cy 3 qmB rB, zzI cy (rB 0) 4 (bkR tA 0), zzI cy (rB 1) 4 (bkR tA 1), zzI cy (rB 2) 4 (bkR tA 2), zzI cy (rB 3) 4 (bkR tA 3), zzI cy (rB 4) 4 (bkR tA 4), zzI cy (rB 5) 4 (bkR tA 5), zzI cy (rB 6) 4 (bkR tA 6), zzI cy (rB 7) 4 (bkR tA 7), zzG cy 3 qmO rO, zzI cy (rO 0) 5 (onR tA 0), zzI cy (rO 1) 5 (onR tA 1), zzI cy (rO 2) 5 (onR tA 2), zzI cy (rO 3) 5 (onR tA 3), zzI cy (rO 4) 5 (onR tA 4), zzI cy (rO 5) 5 (onR tA 5), zzI cy (rO 6) 5 (onR tA 6), zzI cy (rO 7) 5 (onR tA 7), zzG cy 3 qmK rK, zzI cy (rK 0) 8 (T_kn tA 0), zzI cy (rK 1) 8 (T_kn tA 1), zzI cy (rK 2) 8 (T_kn tA 2), zzI cy (rK 3) 8 (T_kn tA 3), zzI cy (rK 4) 8 (T_kn tA 4), zzI cy (rK 5) 8 (T_kn tA 5), zzI cy (rK 6) 8 (T_kn tA 6), zzI cy (rK 7) 8 (T_kn tA 7), zzI cy qmr 8 fMr] → va_S A s.heap H locs → lv_has ls 5 [(4, .int (nI j_22)), (3, .int xS_23), (0, .ref qm), (1, .int (nI k_4)), (2, .int iB)] → W p l e (Rm 16 0 0) s m (List.toArray (α := Value) [.ref qm, .int (nI k_4), .int iB]) below meth c H locs 0 0 (MQ below ((Wi G (fun r u => ∃ (fNr : Nat → Int32), u = [zzO qm 5 (.ref qmh :: .ref qmo :: .ref qmz :: .ref qmR :: .ref qmv :: .ref qmk :: .ref qma :: .ref qmt :: .int (nI kZ) :: .ref qmr :: .int (nI (T_nb tA)) :: .ref qmB :: .int (nI (T_np tA)) :: .ref qmO :: .ref qmK :: .int iEn :: .int iTk :: .int (T_sd tA) :: ov uP :: ov uU :: .int (nI kAt) :: .int iTo :: .int iFr :: .long JFi :: .int iFa :: .ref qm3 :: .int iSt :: .int iLv :: .int iWs :: vLa :: .ref qmu :: .ref qmy :: .ref qmb :: .ref qms :: .int iOm :: []), zzG cy 3 qmB rB, zzI cy (rB 0) 4 (bkR tA 0), zzI cy (rB 1) 4 (bkR tA 1), zzI cy (rB 2) 4 (bkR tA 2), zzI cy (rB 3) 4 (bkR tA 3), zzI cy (rB 4) 4 (bkR tA 4), zzI cy (rB 5) 4 (bkR tA 5), zzI cy (rB 6) 4 (bkR tA 6), zzI cy (rB 7) 4 (bkR tA 7), zzG cy 3 qmO rO, zzI cy (rO 0) 5 (onR tA 0), zzI cy (rO 1) 5 (onR tA 1), zzI cy (rO 2) 5 (onR tA 2), zzI cy (rO 3) 5 (onR tA 3), zzI cy (rO 4) 5 (onR tA 4), zzI cy (rO 5) 5 (onR tA 5), zzI cy (rO 6) 5 (onR tA 6), zzI cy (rO 7) 5 (onR tA 7), zzG cy 3 qmK rK, zzI cy (rK 0) 8 (T_kn tA 0), zzI cy (rK 1) 8 (T_kn tA 1), zzI cy (rK 2) 8 (T_kn tA 2), zzI cy (rK 3) 8 (T_kn tA 3), zzI cy (rK 4) 8 (T_kn tA 4), zzI cy (rK 5) 8 (T_kn tA 5), zzI cy (rK 6) 8 (T_kn tA 6), zzI cy (rK 7) 8 (T_kn tA 7), zzI cy qmr 8 fNr] ∧ (True))) A) (List.toArray (α := Value) [.ref qm, .int (nI k_4), .int iB]) s 0 0 A) (F0 m 27 ls []) := by
        intro n_20
        induction n_20 with
        | zero => intro j_22 xS_23 hm9; exact absurd hm9 (Nat.not_lt_zero _)
        | succ n_20 ih_21 =>
          intro j_22 xS_23 hm_25 hj_24 H locs ls hP hD hS hl
          refine lv_iload hx hb (g_21 (v := 4) bX6_needs rfl) (lv_at hl 0 rfl) ?_
          refine lv_aload_n hx hb (g_42 bX6_needs rfl) rfl (lv_at hl 2 rfl) ?_
          refine va_get (D := G) (ci := 5) (v := .int (nI (T_nb tA))) (C := RX6) (T := TX6) (N := 35) hx hb hts iX_X6 hown hK hP 0 rfl rfl 10 (by decide +kernel) (hts _ m_t860) (fun _ h9 => h9) rfl (g_180 (v := 71) bX6_needs rfl) ?_
          refine lv_icmp_ge (tgt := 71) hx hb dX6_needs_33 (by decide +kernel) (fun c_26 => ?_) (fun c_26 => ?_)
          · have hlt_27 : j_22 = T_nb tA := Nat.le_antisymm (by omega) (lp_ge rfl rfl (by omega) (by omega) c_26)
            refine lv_iload_n hx hb (g_29 bX6_needs rfl) rfl (lv_at hl 1 rfl) ?_
            exact endWs [[true, true, true, true, true, true, true, true, true, true, true, true, true, true, true, true, true, true, true, true, true, true, true, true, true, true, true, true, true]] hx hb hr hlocks rfl hP hD rfl (by decide +kernel) hS ⟨fMr, rfl, trivial⟩ (g_172 bX6_needs rfl)
          · have hlt_28 : j_22 < T_nb tA := lp_lt rfl rfl (by omega) (by omega) c_26
            refine lv_iload_n hx hb (g_29 bX6_needs rfl) rfl (lv_at hl 1 rfl) ?_
            refine lv_aload_n hx hb (g_42 bX6_needs rfl) rfl (lv_at hl 2 rfl) ?_
            refine va_get (D := G) (ci := 5) (v := .ref qmB) (C := RX6) (T := TX6) (N := 35) hx hb hts iX_X6 hown hK hP 0 rfl rfl 11 (by decide +kernel) (hts _ m_t861) (fun _ h9 => h9) rfl (g_180 (v := 42) bX6_needs rfl) ?_
            refine lv_iload hx hb (g_21 (v := 4) bX6_needs rfl) (lv_at hl 0 rfl) ?_
            refine va_alda hx hb hK hP 1 3 rfl rfl (in8 (by omega)) (g_50 bX6_needs rfl) ?_
            refine lv_setv (v := .ref (rB j_22)) (g_ref (by omega)) ?_
            refine lv_iconst (v := 1) hx hb (g_4 bX6_needs rfl) (by decide +kernel) ?_
            refine va_iald hx hb hK hP (2 + j_22) 0 (sg8 (n0 := 2) (f := (fun j => zzI cy (rB j) 4 (bkR tA j))) rfl rfl rfl rfl rfl rfl rfl rfl j_22 (by omega)) rfl (in_c rfl) (g_46 bX6_needs rfl) ?_
            refine lv_seti (v := T_ne tA j_22) (bk_1 _ _) ?_
            refine lv_iload_n hx hb (g_29 bX6_needs rfl) rfl (lv_at hl 1 rfl) ?_
            refine lv_iconst (v := 1) hx hb (g_4 bX6_needs rfl) (by decide +kernel) ?_
            refine lv_iload_n hx hb (g_27 bX6_needs rfl) rfl (lv_at hl 3 rfl) ?_
            refine lv_ishl hx hb (g_120 bX6_needs rfl) ?_
            refine lv_ior hx hb (g_128 bX6_needs rfl) ?_
            refine lv_iand hx hb (g_126 bX6_needs rfl) ?_
            refine lv_if_eq (tgt := 62) hx hb dX6_needs_52 (by decide +kernel) (fun c_29 => ?_) (fun c_29 => ?_)
            · refine lv_iconst (v := 0) hx hb (g_3 bX6_needs rfl) (by decide +kernel) ?_
              refine lv_ior hx hb (g_128 bX6_needs rfl) ?_
              refine lv_istore_n (lv' := [(3, .int (xS_23 ||| 0)), (4, .int (nI j_22)), (0, .ref qm), (1, .int (nI k_4)), (2, .int iB)]) hx hb (g_62 bX6_needs rfl) rfl hl (by decide +kernel) rfl (fun ls => ?_)
              clear hl
              intro hl
              refine lv_iinc (v := nI (j_22 + 1)) (lv' := [(4, .int (nI (j_22 + 1))), (3, .int (xS_23 ||| 0)), (0, .ref qm), (1, .int (nI k_4)), (2, .int iB)]) hx hb dX6_needs_65 hl (k := 1) rfl (nI_1 _) (by decide +kernel) rfl (fun ls => ?_)
              clear hl
              intro hl
              refine lv_goto (tgt := 27) hx hb dX6_needs_68 (by decide +kernel) ?_
              exact ih_21 (j_22 + 1) (xS_23 ||| 0) (by omega) (by omega) _ _ _ hP hD hS (lv_sub hl [0, 1, 2, 3, 4] rfl)
            · refine lv_iconst (v := 1) hx hb (g_4 bX6_needs rfl) (by decide +kernel) ?_
              refine lv_iload hx hb (g_21 (v := 4) bX6_needs rfl) (lv_at hl 0 rfl) ?_
              refine lv_ishl hx hb (g_120 bX6_needs rfl) ?_
              refine lv_goto (tgt := 63) hx hb dX6_needs_59 (by decide +kernel) ?_
              refine lv_ior hx hb (g_128 bX6_needs rfl) ?_
              refine lv_istore_n (lv' := [(3, .int (xS_23 ||| (1 <<< ((nI j_22) &&& 31)))), (4, .int (nI j_22)), (0, .ref qm), (1, .int (nI k_4)), (2, .int iB)]) hx hb (g_62 bX6_needs rfl) rfl hl (by decide +kernel) rfl (fun ls => ?_)
              clear hl
              intro hl
              refine lv_iinc (v := nI (j_22 + 1)) (lv' := [(4, .int (nI (j_22 + 1))), (3, .int (xS_23 ||| (1 <<< ((nI j_22) &&& 31)))), (0, .ref qm), (1, .int (nI k_4)), (2, .int iB)]) hx hb dX6_needs_65 hl (k := 1) rfl (nI_1 _) (by decide +kernel) rfl (fun ls => ?_)
              clear hl
              intro hl
              refine lv_goto (tgt := 27) hx hb dX6_needs_68 (by decide +kernel) ?_
              exact ih_21 (j_22 + 1) (xS_23 ||| (1 <<< ((nI j_22) &&& 31))) (by omega) (by omega) _ _ _ hP hD hS (lv_sub hl [0, 1, 2, 3, 4] rfl)
      exact lp_19 ((8 - (k_4 + 1)) + 1) (k_4 + 1) 0 (Nat.lt_succ_self _) (by omega) _ _ ls hP hD hS (lv_sub hl [0, 1, 2, 3, 4] rfl)
  · refine lv_if_ne (tgt := 16) hx hb dX6_needs_6 (by decide +kernel) (fun h9 => absurd (by decide +kernel) h9) (fun _ => ?_)
    refine lv_aload_n hx hb (g_42 bX6_needs rfl) rfl (lv_at hl 0 rfl) ?_
    refine lv_bipush (v := (-2)) hx hb dX6_needs_10 (by decide +kernel) ?_
    refine cVi (As := [.int (-2)]) (rest := []) (b := qm) (q := (RX6, TX6, 35)) ⟨hx, hb, hml, hown, hts⟩ (c_X6_refuse2 l G cy (s.heap).size qm (.ref qmh) (.ref qmo) (.ref qmz) (.ref qmR) (.ref qmv) (.ref qmk) (.ref qma) (.ref qmt) (.int (nI kZ)) qmr tA qmB qmO qmK iEn iTk (ov uP) (ov uU) (.int (nI kAt)) (.int iTo) (.int iFr) (.long JFi) (.int iFa) (.ref qm3) (.int iSt) iLv iWs vLa (.ref qmu) (.ref qmy) (.ref qmb) (.ref qms) (.int iOm) fMr) L_X6_91 hN hP hD hS hA [0, 28] [false, true, true, true, true, true, true, true, true, true, true, true, true, true, true, true, true, true, true, true, true, true, true, true, true, true, true, true, false] rfl (by decide +kernel) rfl 0 5 rfl rfl rfl ⟨Nat.le_of_ble_eq_true rfl, Nat.le_of_ble_eq_true rfl⟩ hl.1 (Nat.le_of_ble_eq_true rfl) (g_182 (v := 91) bX6_needs rfl) ⟨Nat.le_of_ble_eq_true rfl, Nat.le_of_ble_eq_true rfl⟩ (fun r_31 u_33 H locs h_32 => ?_)
    clear hP hD hS
    intro hP hD hS
    obtain ⟨fX_34, hu9, h_32⟩ := h_32
    have hPD := pd_eq [_, _, _, _, _, _, _, _, _, _, _, _, _, _, _, _, _, _, _, _, _, _, _, _, _, _, _, _, zzI cy qmr 8 fX_34] hP hD hu9 rfl
    clear hP hD hu9
    obtain ⟨hP, hD⟩ := hPD
    subst h_32
    exact endWs [[false, false, false, false, false, false, false, false, false, false, false, false, false, false, false, false, false, false, false, false, false, false, false, false, false, false, false, true], [true, true, true, true, true, true, true, true, true, true, true, true, true, true, true, true, true, true, true, true, true, true, true, true, true, true, true, false, true]] hx hb hr hlocks rfl hP hD rfl (by decide +kernel) hS ⟨fX_34, rfl, trivial⟩ (g_172 bX6_needs rfl)
set_option maxHeartbeats 4000000 in
set_option maxRecDepth 100000 in
theorem p_X6_ground (l : Launch) (G : va_G) (cy : Nat → ClassId) (sz : Nat) (qm : Nat) (qmh : Nat) (qmo : Nat) (qmz : Nat) (qmR : Nat) (qmv : Nat) (qmk : Nat) (qma : Nat) (qmt : Nat) (kZ : Nat) (qmr : Nat) (tA : TA) (qmB : Nat) (qmO : Nat) (qmK : Nat) (iEn : Int32) (iTk : Int32) (uP : UM) (uU : UM) (kAt : Nat) (iTo : Int32) (iFr : Int32) (JFi : Int64) (iFa : Int32) (qm3 : Nat) (iSt : Int32) (iLv : Int32) (iWs : Int32) (vLa : Value) (qmu : Nat) (qmy : Nat) (qmb : Nat) (qms : Nat) (iOm : Int32) (rB : Nat → Nat) (rO : Nat → Nat) (rK : Nat → Nat) (fMr : Nat → Int32) (iA : Int32) (iB : Int32)  (hB : T_nb tA ≤ 8) (hPp : T_np tA ≤ 8) (hTI : TI tA) : MW l yX6_ground cX6_ground 3 (some .int) 16 0 0 G cy [zzO qm 5 (.ref qmh :: .ref qmo :: .ref qmz :: .ref qmR :: .ref qmv :: .ref qmk :: .ref qma :: .ref qmt :: .int (nI kZ) :: .ref qmr :: .int (nI (T_nb tA)) :: .ref qmB :: .int (nI (T_np tA)) :: .ref qmO :: .ref qmK :: .int iEn :: .int iTk :: .int (T_sd tA) :: ov uP :: ov uU :: .int (nI kAt) :: .int iTo :: .int iFr :: .long JFi :: .int iFa :: .ref qm3 :: .int iSt :: .int iLv :: .int iWs :: vLa :: .ref qmu :: .ref qmy :: .ref qmb :: .ref qms :: .int iOm :: []), zzG cy 3 qmB rB, zzI cy (rB 0) 4 (bkR tA 0), zzI cy (rB 1) 4 (bkR tA 1), zzI cy (rB 2) 4 (bkR tA 2), zzI cy (rB 3) 4 (bkR tA 3), zzI cy (rB 4) 4 (bkR tA 4), zzI cy (rB 5) 4 (bkR tA 5), zzI cy (rB 6) 4 (bkR tA 6), zzI cy (rB 7) 4 (bkR tA 7), zzG cy 3 qmO rO, zzI cy (rO 0) 5 (onR tA 0), zzI cy (rO 1) 5 (onR tA 1), zzI cy (rO 2) 5 (onR tA 2), zzI cy (rO 3) 5 (onR tA 3), zzI cy (rO 4) 5 (onR tA 4), zzI cy (rO 5) 5 (onR tA 5), zzI cy (rO 6) 5 (onR tA 6), zzI cy (rO 7) 5 (onR tA 7), zzG cy 3 qmK rK, zzI cy (rK 0) 8 (T_kn tA 0), zzI cy (rK 1) 8 (T_kn tA 1), zzI cy (rK 2) 8 (T_kn tA 2), zzI cy (rK 3) 8 (T_kn tA 3), zzI cy (rK 4) 8 (T_kn tA 4), zzI cy (rK 5) 8 (T_kn tA 5), zzI cy (rK 6) 8 (T_kn tA 6), zzI cy (rK 7) 8 (T_kn tA 7), zzI cy qmr 8 fMr] sz [.ref qm, .int iA, .int iB] (Wi G (fun r u => ∃ (fNr : Nat → Int32), u = [zzO qm 5 (.ref qmh :: .ref qmo :: .ref qmz :: .ref qmR :: .ref qmv :: .ref qmk :: .ref qma :: .ref qmt :: .int (nI kZ) :: .ref qmr :: .int (nI (T_nb tA)) :: .ref qmB :: .int (nI (T_np tA)) :: .ref qmO :: .ref qmK :: .int iEn :: .int iTk :: .int (T_sd tA) :: ov uP :: ov uU :: .int (nI kAt) :: .int iTo :: .int iFr :: .long JFi :: .int iFa :: .ref qm3 :: .int iSt :: .int iLv :: .int iWs :: vLa :: .ref qmu :: .ref qmy :: .ref qmb :: .ref qms :: .int iOm :: []), zzG cy 3 qmB rB, zzI cy (rB 0) 4 (bkR tA 0), zzI cy (rB 1) 4 (bkR tA 1), zzI cy (rB 2) 4 (bkR tA 2), zzI cy (rB 3) 4 (bkR tA 3), zzI cy (rB 4) 4 (bkR tA 4), zzI cy (rB 5) 4 (bkR tA 5), zzI cy (rB 6) 4 (bkR tA 6), zzI cy (rB 7) 4 (bkR tA 7), zzG cy 3 qmO rO, zzI cy (rO 0) 5 (onR tA 0), zzI cy (rO 1) 5 (onR tA 1), zzI cy (rO 2) 5 (onR tA 2), zzI cy (rO 3) 5 (onR tA 3), zzI cy (rO 4) 5 (onR tA 4), zzI cy (rO 5) 5 (onR tA 5), zzI cy (rO 6) 5 (onR tA 6), zzI cy (rO 7) 5 (onR tA 7), zzG cy 3 qmK rK, zzI cy (rK 0) 8 (T_kn tA 0), zzI cy (rK 1) 8 (T_kn tA 1), zzI cy (rK 2) 8 (T_kn tA 2), zzI cy (rK 3) 8 (T_kn tA 3), zzI cy (rK 4) 8 (T_kn tA 4), zzI cy (rK 5) 8 (T_kn tA 5), zzI cy (rK 6) 8 (T_kn tA 6), zzI cy (rK 7) 8 (T_kn tA 7), zzI cy qmr 8 fNr] ∧ (True))) := by
  refine enW RX6 (by decide +kernel) rfl (Nat.le_of_ble_eq_true rfl) (fun p e s m below meth c ls A hx hb hml hown hts hr hlocks hP hN hl hin hD hA hS => ?_)
  have hin : meth.name = _ := hin
  have hK := hN.1
  replace hl : lv_has ls 3 [(0, .ref qm), (1, .int iA), (2, .int iB)] := hl
  refine lv_aload_n hx hb (g_42 bX6_ground rfl) rfl (lv_at hl 0 rfl) ?_
  refine lv_iload_n hx hb (g_27 bX6_ground rfl) rfl (lv_at hl 1 rfl) ?_
  refine lv_i2l (v := iA.toInt64) hx hb (g_133 bX6_ground rfl) rfl ?_
  refine kRi (rV (As := [.long iA.toInt64]) (rest := []) (b := qm) ⟨hx, hb, hml, hown, hts⟩ (c_X6_isOne l G cy qm (.ref qmh) (.ref qmo) (.ref qmz) (.ref qmR) (.ref qmv) (.ref qmk) (.ref qma) (.ref qmt) (.int (nI kZ)) (.ref qmr) tA qmB qmO qmK iEn iTk (ov uP) (ov uU) (.int (nI kAt)) (.int iTo) (.int iFr) (.long JFi) (.int iFa) (.ref qm3) (.int iSt) iLv iWs vLa (.ref qmu) (.ref qmy) (.ref qmb) (.ref qms) (.int iOm) iA hPp) L_X6_236 (preRV (q := (RX6, TX6, 35)) hN hP [0] rfl 0 5 rfl rfl) rfl ⟨Nat.le_of_ble_eq_true rfl, Nat.le_of_ble_eq_true rfl⟩ hl.1 (Nat.le_of_ble_eq_true rfl) (g_182 (v := 236) bX6_ground rfl) ⟨Nat.le_of_ble_eq_true rfl, Nat.le_of_ble_eq_true rfl⟩) (fun r_1 h_2 => ?_)
  rcases h_2 with ⟨rfl, h_3⟩ | ⟨rfl, h_3⟩
  · obtain ⟨k_4, hk_5, rfl⟩ := h_3
    refine lv_if_eq (tgt := 27) hx hb dX6_ground_6 (by decide +kernel) (fun h9 => absurd h9 (by decide +kernel)) (fun _ => ?_)
    refine lv_aload_n hx hb (g_42 bX6_ground rfl) rfl (lv_at hl 0 rfl) ?_
    refine lv_iload_n hx hb (g_28 bX6_ground rfl) rfl (lv_at hl 2 rfl) ?_
    refine lv_i2l (v := iB.toInt64) hx hb (g_133 bX6_ground rfl) rfl ?_
    refine kRi (rV (As := [.long iB.toInt64]) (rest := []) (b := qm) ⟨hx, hb, hml, hown, hts⟩ (c_X6_isBook l G cy qm (.ref qmh) (.ref qmo) (.ref qmz) (.ref qmR) (.ref qmv) (.ref qmk) (.ref qma) (.ref qmt) (.int (nI kZ)) (.ref qmr) tA qmB qmO qmK iEn iTk (ov uP) (ov uU) (.int (nI kAt)) (.int iTo) (.int iFr) (.long JFi) (.int iFa) (.ref qm3) (.int iSt) iLv iWs vLa (.ref qmu) (.ref qmy) (.ref qmb) (.ref qms) (.int iOm) iB hB) L_X6_229 (preRV (q := (RX6, TX6, 35)) hN hP [0] rfl 0 5 rfl rfl) rfl ⟨Nat.le_of_ble_eq_true rfl, Nat.le_of_ble_eq_true rfl⟩ hl.1 (Nat.le_of_ble_eq_true rfl) (g_182 (v := 229) bX6_ground rfl) ⟨Nat.le_of_ble_eq_true rfl, Nat.le_of_ble_eq_true rfl⟩) (fun r_7 h_8 => ?_)
    rcases h_8 with ⟨rfl, h_9⟩ | ⟨rfl, h_9⟩
    · obtain ⟨k_10, hk_11, rfl⟩ := h_9
      refine lv_if_eq (tgt := 27) hx hb dX6_ground_15 (by decide +kernel) (fun h9 => absurd h9 (by decide +kernel)) (fun _ => ?_)
      refine lv_aload_n hx hb (g_42 bX6_ground rfl) rfl (lv_at hl 0 rfl) ?_
      refine lv_iload_n hx hb (g_27 bX6_ground rfl) rfl (lv_at hl 1 rfl) ?_
      refine lv_iload_n hx hb (g_28 bX6_ground rfl) rfl (lv_at hl 2 rfl) ?_
      refine kRi (rV (As := [.int (nI k_4), .int (nI k_10)]) (rest := []) (b := qm) ⟨hx, hb, hml, hown, hts⟩ (c_X6_groundOf l G cy qm (.ref qmh) (.ref qmo) (.ref qmz) (.ref qmR) (.ref qmv) (.ref qmk) (.ref qma) (.ref qmt) (.int (nI kZ)) (.ref qmr) tA qmB qmO qmK iEn iTk (ov uP) (ov uU) (.int (nI kAt)) (.int iTo) (.int iFr) (.long JFi) (.int iFa) (.ref qm3) (.int iSt) iLv iWs vLa (.ref qmu) (.ref qmy) (.ref qmb) (.ref qms) (.int iOm) rB rK k_4 k_10 (by first | omega | (simp only [nb_sr, np_sr, nb_wr, np_wr, nb_rd, np_rd, nb_ch, np_ch, nb_zr, np_zr, nb_za, np_za, nb_ey, np_ey, nb_hf, np_hf, nb_dd, np_dd, nb_so, np_so, nb_skn, np_skn, nb_swh, np_swh, nb_sgn, np_sgn, nb_ssd, np_ssd, nb_sgo, np_sgo, nb_sag, np_sag]; omega)) (by first | omega | (simp only [nb_sr, np_sr, nb_wr, np_wr, nb_rd, np_rd, nb_ch, np_ch, nb_zr, np_zr, nb_za, np_za, nb_ey, np_ey, nb_hf, np_hf, nb_dd, np_dd, nb_so, np_so, nb_skn, np_skn, nb_swh, np_swh, nb_sgn, np_sgn, nb_ssd, np_ssd, nb_sgo, np_sgo, nb_sag, np_sag]; omega))) L_X6_241 (preRV (q := (RX6, TX6, 35)) hN hP (trueIx 0 [true, true, true, true, true, true, true, true, true, true, false, false, false, false, false, false, false, false, false, true, true, true, true, true, true, true, true, true]) (sel_fm rfl rfl) 0 5 rfl rfl) rfl ⟨Nat.le_of_ble_eq_true rfl, Nat.le_of_ble_eq_true rfl⟩ hl.1 (Nat.le_of_ble_eq_true rfl) (g_182 (v := 241) bX6_ground rfl) ⟨Nat.le_of_ble_eq_true rfl, Nat.le_of_ble_eq_true rfl⟩) (fun r_13 h_14 => ?_)
      subst h_14
      refine lv_goto (tgt := 33) hx hb dX6_ground_24 (by decide +kernel) ?_
      exact endWs [[true, true, true, true, true, true, true, true, true, true, true, true, true, true, true, true, true, true, true, true, true, true, true, true, true, true, true, true, true]] hx hb hr hlocks rfl hP hD rfl (by decide +kernel) hS ⟨fMr, rfl, trivial⟩ (g_172 bX6_ground rfl)
    · refine lv_if_eq (tgt := 27) hx hb dX6_ground_15 (by decide +kernel) (fun _ => ?_) (fun h9 => absurd (by decide +kernel) h9)
      refine lv_aload_n hx hb (g_42 bX6_ground rfl) rfl (lv_at hl 0 rfl) ?_
      refine lv_bipush (v := (-2)) hx hb dX6_ground_28 (by decide +kernel) ?_
      refine cVi (As := [.int (-2)]) (rest := []) (b := qm) (q := (RX6, TX6, 35)) ⟨hx, hb, hml, hown, hts⟩ (c_X6_refuse2 l G cy (s.heap).size qm (.ref qmh) (.ref qmo) (.ref qmz) (.ref qmR) (.ref qmv) (.ref qmk) (.ref qma) (.ref qmt) (.int (nI kZ)) qmr tA qmB qmO qmK iEn iTk (ov uP) (ov uU) (.int (nI kAt)) (.int iTo) (.int iFr) (.long JFi) (.int iFa) (.ref qm3) (.int iSt) iLv iWs vLa (.ref qmu) (.ref qmy) (.ref qmb) (.ref qms) (.int iOm) fMr) L_X6_91 hN hP hD hS hA [0, 28] [false, true, true, true, true, true, true, true, true, true, true, true, true, true, true, true, true, true, true, true, true, true, true, true, true, true, true, true, false] rfl (by decide +kernel) rfl 0 5 rfl rfl rfl ⟨Nat.le_of_ble_eq_true rfl, Nat.le_of_ble_eq_true rfl⟩ hl.1 (Nat.le_of_ble_eq_true rfl) (g_182 (v := 91) bX6_ground rfl) ⟨Nat.le_of_ble_eq_true rfl, Nat.le_of_ble_eq_true rfl⟩ (fun r_16 u_18 H locs h_17 => ?_)
      clear hP hD hS
      intro hP hD hS
      obtain ⟨fX_19, hu9, h_17⟩ := h_17
      have hPD := pd_eq [_, _, _, _, _, _, _, _, _, _, _, _, _, _, _, _, _, _, _, _, _, _, _, _, _, _, _, _, zzI cy qmr 8 fX_19] hP hD hu9 rfl
      clear hP hD hu9
      obtain ⟨hP, hD⟩ := hPD
      subst h_17
      exact endWs [[false, false, false, false, false, false, false, false, false, false, false, false, false, false, false, false, false, false, false, false, false, false, false, false, false, false, false, true], [true, true, true, true, true, true, true, true, true, true, true, true, true, true, true, true, true, true, true, true, true, true, true, true, true, true, true, false, true]] hx hb hr hlocks rfl hP hD rfl (by decide +kernel) hS ⟨fX_19, rfl, trivial⟩ (g_172 bX6_ground rfl)
  · refine lv_if_eq (tgt := 27) hx hb dX6_ground_6 (by decide +kernel) (fun _ => ?_) (fun h9 => absurd (by decide +kernel) h9)
    refine lv_aload_n hx hb (g_42 bX6_ground rfl) rfl (lv_at hl 0 rfl) ?_
    refine lv_bipush (v := (-2)) hx hb dX6_ground_28 (by decide +kernel) ?_
    refine cVi (As := [.int (-2)]) (rest := []) (b := qm) (q := (RX6, TX6, 35)) ⟨hx, hb, hml, hown, hts⟩ (c_X6_refuse2 l G cy (s.heap).size qm (.ref qmh) (.ref qmo) (.ref qmz) (.ref qmR) (.ref qmv) (.ref qmk) (.ref qma) (.ref qmt) (.int (nI kZ)) qmr tA qmB qmO qmK iEn iTk (ov uP) (ov uU) (.int (nI kAt)) (.int iTo) (.int iFr) (.long JFi) (.int iFa) (.ref qm3) (.int iSt) iLv iWs vLa (.ref qmu) (.ref qmy) (.ref qmb) (.ref qms) (.int iOm) fMr) L_X6_91 hN hP hD hS hA [0, 28] [false, true, true, true, true, true, true, true, true, true, true, true, true, true, true, true, true, true, true, true, true, true, true, true, true, true, true, true, false] rfl (by decide +kernel) rfl 0 5 rfl rfl rfl ⟨Nat.le_of_ble_eq_true rfl, Nat.le_of_ble_eq_true rfl⟩ hl.1 (Nat.le_of_ble_eq_true rfl) (g_182 (v := 91) bX6_ground rfl) ⟨Nat.le_of_ble_eq_true rfl, Nat.le_of_ble_eq_true rfl⟩ (fun r_21 u_23 H locs h_22 => ?_)
    clear hP hD hS
    intro hP hD hS
    obtain ⟨fX_24, hu9, h_22⟩ := h_22
    have hPD := pd_eq [_, _, _, _, _, _, _, _, _, _, _, _, _, _, _, _, _, _, _, _, _, _, _, _, _, _, _, _, zzI cy qmr 8 fX_24] hP hD hu9 rfl
    clear hP hD hu9
    obtain ⟨hP, hD⟩ := hPD
    subst h_22
    exact endWs [[false, false, false, false, false, false, false, false, false, false, false, false, false, false, false, false, false, false, false, false, false, false, false, false, false, false, false, true], [true, true, true, true, true, true, true, true, true, true, true, true, true, true, true, true, true, true, true, true, true, true, true, true, true, true, true, false, true]] hx hb hr hlocks rfl hP hD rfl (by decide +kernel) hS ⟨fX_24, rfl, trivial⟩ (g_172 bX6_ground rfl)
set_option maxHeartbeats 4000000 in
set_option maxRecDepth 100000 in
theorem p_X6_would (l : Launch) (G : va_G) (cy : Nat → ClassId) (sz : Nat) (qm : Nat) (qmh : Nat) (qmo : Nat) (qmz : Nat) (qmR : Nat) (qmv : Nat) (qmk : Nat) (qma : Nat) (qmt : Nat) (kZ : Nat) (qmr : Nat) (tA : TA) (qmB : Nat) (qmO : Nat) (qmK : Nat) (iEn : Int32) (iTk : Int32) (uP : UM) (uU : UM) (kAt : Nat) (iTo : Int32) (iFr : Int32) (JFi : Int64) (iFa : Int32) (qm3 : Nat) (iSt : Int32) (iLv : Int32) (iWs : Int32) (vLa : Value) (qmu : Nat) (qmy : Nat) (qmb : Nat) (qms : Nat) (iOm : Int32) (rB : Nat → Nat) (rO : Nat → Nat) (rK : Nat → Nat) (fMr : Nat → Int32) (iA : Int32) (iB : Int32)  (hB : T_nb tA ≤ 8) (hPp : T_np tA ≤ 8) (hTI : TI tA) : MW l yX6_would cX6_would 4 (some .int) 16 0 0 G cy [zzO qm 5 (.ref qmh :: .ref qmo :: .ref qmz :: .ref qmR :: .ref qmv :: .ref qmk :: .ref qma :: .ref qmt :: .int (nI kZ) :: .ref qmr :: .int (nI (T_nb tA)) :: .ref qmB :: .int (nI (T_np tA)) :: .ref qmO :: .ref qmK :: .int iEn :: .int iTk :: .int (T_sd tA) :: ov uP :: ov uU :: .int (nI kAt) :: .int iTo :: .int iFr :: .long JFi :: .int iFa :: .ref qm3 :: .int iSt :: .int iLv :: .int iWs :: vLa :: .ref qmu :: .ref qmy :: .ref qmb :: .ref qms :: .int iOm :: []), zzG cy 3 qmB rB, zzI cy (rB 0) 4 (bkR tA 0), zzI cy (rB 1) 4 (bkR tA 1), zzI cy (rB 2) 4 (bkR tA 2), zzI cy (rB 3) 4 (bkR tA 3), zzI cy (rB 4) 4 (bkR tA 4), zzI cy (rB 5) 4 (bkR tA 5), zzI cy (rB 6) 4 (bkR tA 6), zzI cy (rB 7) 4 (bkR tA 7), zzG cy 3 qmO rO, zzI cy (rO 0) 5 (onR tA 0), zzI cy (rO 1) 5 (onR tA 1), zzI cy (rO 2) 5 (onR tA 2), zzI cy (rO 3) 5 (onR tA 3), zzI cy (rO 4) 5 (onR tA 4), zzI cy (rO 5) 5 (onR tA 5), zzI cy (rO 6) 5 (onR tA 6), zzI cy (rO 7) 5 (onR tA 7), zzG cy 3 qmK rK, zzI cy (rK 0) 8 (T_kn tA 0), zzI cy (rK 1) 8 (T_kn tA 1), zzI cy (rK 2) 8 (T_kn tA 2), zzI cy (rK 3) 8 (T_kn tA 3), zzI cy (rK 4) 8 (T_kn tA 4), zzI cy (rK 5) 8 (T_kn tA 5), zzI cy (rK 6) 8 (T_kn tA 6), zzI cy (rK 7) 8 (T_kn tA 7), zzI cy qmr 8 fMr] sz [.ref qm, .int iA, .int iB] (Wi G (fun r u => ∃ (fNr : Nat → Int32), u = [zzO qm 5 (.ref qmh :: .ref qmo :: .ref qmz :: .ref qmR :: .ref qmv :: .ref qmk :: .ref qma :: .ref qmt :: .int (nI kZ) :: .ref qmr :: .int (nI (T_nb tA)) :: .ref qmB :: .int (nI (T_np tA)) :: .ref qmO :: .ref qmK :: .int iEn :: .int iTk :: .int (T_sd tA) :: ov uP :: ov uU :: .int (nI kAt) :: .int iTo :: .int iFr :: .long JFi :: .int iFa :: .ref qm3 :: .int iSt :: .int iLv :: .int iWs :: vLa :: .ref qmu :: .ref qmy :: .ref qmb :: .ref qms :: .int iOm :: []), zzG cy 3 qmB rB, zzI cy (rB 0) 4 (bkR tA 0), zzI cy (rB 1) 4 (bkR tA 1), zzI cy (rB 2) 4 (bkR tA 2), zzI cy (rB 3) 4 (bkR tA 3), zzI cy (rB 4) 4 (bkR tA 4), zzI cy (rB 5) 4 (bkR tA 5), zzI cy (rB 6) 4 (bkR tA 6), zzI cy (rB 7) 4 (bkR tA 7), zzG cy 3 qmO rO, zzI cy (rO 0) 5 (onR tA 0), zzI cy (rO 1) 5 (onR tA 1), zzI cy (rO 2) 5 (onR tA 2), zzI cy (rO 3) 5 (onR tA 3), zzI cy (rO 4) 5 (onR tA 4), zzI cy (rO 5) 5 (onR tA 5), zzI cy (rO 6) 5 (onR tA 6), zzI cy (rO 7) 5 (onR tA 7), zzG cy 3 qmK rK, zzI cy (rK 0) 8 (T_kn tA 0), zzI cy (rK 1) 8 (T_kn tA 1), zzI cy (rK 2) 8 (T_kn tA 2), zzI cy (rK 3) 8 (T_kn tA 3), zzI cy (rK 4) 8 (T_kn tA 4), zzI cy (rK 5) 8 (T_kn tA 5), zzI cy (rK 6) 8 (T_kn tA 6), zzI cy (rK 7) 8 (T_kn tA 7), zzI cy qmr 8 fNr] ∧ (True))) := by
  refine enW RX6 (by decide +kernel) rfl (Nat.le_of_ble_eq_true rfl) (fun p e s m below meth c ls A hx hb hml hown hts hr hlocks hP hN hl hin hD hA hS => ?_)
  have hin : meth.name = _ := hin
  have hK := hN.1
  replace hl : lv_has ls 4 [(0, .ref qm), (1, .int iA), (2, .int iB)] := hl
  refine lv_aload_n hx hb (g_42 bX6_would rfl) rfl (lv_at hl 0 rfl) ?_
  refine lv_iload_n hx hb (g_27 bX6_would rfl) rfl (lv_at hl 1 rfl) ?_
  refine lv_iload_n hx hb (g_28 bX6_would rfl) rfl (lv_at hl 2 rfl) ?_
  refine cVi (As := [.int iA, .int iB]) (rest := []) (b := qm) (q := (RX6, TX6, 35)) ⟨hx, hb, hml, hown, hts⟩ (c_X6_noReading l G cy (s.heap).size qm (.ref qmh) (.ref qmo) (.ref qmz) (.ref qmR) (.ref qmv) (.ref qmk) (.ref qma) (.ref qmt) (.int (nI kZ)) qmr tA qmB qmO qmK iEn iTk (ov uP) (ov uU) (.int (nI kAt)) (.int iTo) (.int iFr) (.long JFi) (.int iFa) (.ref qm3) (.int iSt) iLv iWs vLa (.ref qmu) (.ref qmy) (.ref qmb) (.ref qms) (.int iOm) rB rO fMr iA iB hB hPp) L_X6_251 hN hP hD hS hA (trueIx 0 [true, true, true, true, true, true, true, true, true, true, true, true, true, true, true, true, true, true, true, false, false, false, false, false, false, false, false, false, true]) [false, false, false, false, false, false, false, false, false, false, false, false, false, false, false, false, false, false, false, true, true, true, true, true, true, true, true, true, false] (sel_eq rfl rfl) (by decide +kernel) rfl 0 5 rfl rfl rfl ⟨Nat.le_of_ble_eq_true rfl, Nat.le_of_ble_eq_true rfl⟩ hl.1 (Nat.le_of_ble_eq_true rfl) (g_182 (v := 251) bX6_would rfl) ⟨Nat.le_of_ble_eq_true rfl, Nat.le_of_ble_eq_true rfl⟩ (fun r_1 u_3 H locs h_2 => ?_)
  clear hP hD hS
  intro hP hD hS
  obtain ⟨fX_4, hu9, h_2⟩ := h_2
  have hPD := pd_eq [_, _, _, _, _, _, _, _, _, _, _, _, _, _, _, _, _, _, _, _, _, _, _, _, _, _, _, _, zzI cy qmr 8 fX_4] hP hD hu9 rfl
  clear hP hD hu9
  obtain ⟨hP, hD⟩ := hPD
  rcases h_2 with ⟨rfl, h_5⟩ | ⟨rfl, h_5⟩ | ⟨rfl, h_5⟩
  · refine lv_istore_n (lv' := [(3, .int (-2)), (0, .ref qm), (1, .int iA), (2, .int iB)]) hx hb (g_62 bX6_would rfl) rfl hl (by decide +kernel) rfl (fun ls => ?_)
    clear hl
    intro hl
    refine lv_iload_n hx hb (g_29 bX6_would rfl) rfl (lv_at hl 0 rfl) ?_
    refine lv_if_eq (tgt := 15) hx hb dX6_would_8 (by decide +kernel) (fun h9 => absurd h9 (by decide +kernel)) (fun _ => ?_)
    refine lv_iload_n hx hb (g_29 bX6_would rfl) rfl (lv_at hl 0 rfl) ?_
    refine lv_goto (tgt := 21) hx hb dX6_would_12 (by decide +kernel) ?_
    exact endWs [[false, false, false, false, false, false, false, false, false, true, true, true, true, true, true, true, true, true, true, true, true, true, true, true, true, true, true, true], [true, true, true, true, true, true, true, true, true, false, false, false, false, false, false, false, false, false, false, false, false, false, false, false, false, false, false, false, true]] hx hb hr hlocks rfl hP hD rfl (by decide +kernel) hS ⟨fX_4, rfl, trivial⟩ (g_172 bX6_would rfl)
  · refine lv_istore_n (lv' := [(3, .int (-5)), (0, .ref qm), (1, .int iA), (2, .int iB)]) hx hb (g_62 bX6_would rfl) rfl hl (by decide +kernel) rfl (fun ls => ?_)
    clear hl
    intro hl
    refine lv_iload_n hx hb (g_29 bX6_would rfl) rfl (lv_at hl 0 rfl) ?_
    refine lv_if_eq (tgt := 15) hx hb dX6_would_8 (by decide +kernel) (fun h9 => absurd h9 (by decide +kernel)) (fun _ => ?_)
    refine lv_iload_n hx hb (g_29 bX6_would rfl) rfl (lv_at hl 0 rfl) ?_
    refine lv_goto (tgt := 21) hx hb dX6_would_12 (by decide +kernel) ?_
    exact endWs [[false, false, false, false, false, false, false, false, false, true, true, true, true, true, true, true, true, true, true, true, true, true, true, true, true, true, true, true], [true, true, true, true, true, true, true, true, true, false, false, false, false, false, false, false, false, false, false, false, false, false, false, false, false, false, false, false, true]] hx hb hr hlocks rfl hP hD rfl (by decide +kernel) hS ⟨fX_4, rfl, trivial⟩ (g_172 bX6_would rfl)
  · refine lv_istore_n (lv' := [(3, .int 0), (0, .ref qm), (1, .int iA), (2, .int iB)]) hx hb (g_62 bX6_would rfl) rfl hl (by decide +kernel) rfl (fun ls => ?_)
    clear hl
    intro hl
    refine lv_iload_n hx hb (g_29 bX6_would rfl) rfl (lv_at hl 0 rfl) ?_
    refine lv_if_eq (tgt := 15) hx hb dX6_would_8 (by decide +kernel) (fun _ => ?_) (fun h9 => absurd (by decide +kernel) h9)
    refine lv_aload_n hx hb (g_42 bX6_would rfl) rfl (lv_at hl 1 rfl) ?_
    refine lv_iload_n hx hb (g_27 bX6_would rfl) rfl (lv_at hl 2 rfl) ?_
    refine lv_iload_n hx hb (g_28 bX6_would rfl) rfl (lv_at hl 3 rfl) ?_
    obtain ⟨k_9, k_10, hk_11, hk_12, rfl, rfl, h_13, h_14⟩ := h_5
    refine kRi (rV (As := [.int (nI k_9), .int (nI k_10)]) (rest := []) (b := qm) ⟨hx, hb, hml, hown, hts⟩ (c_X6_wouldKnow l G cy qm (.ref qmh) (.ref qmo) (.ref qmz) (.ref qmR) (.ref qmv) (.ref qmk) (.ref qma) (.ref qmt) (.int (nI kZ)) (.ref qmr) tA qmB qmO qmK iEn iTk (ov uP) (ov uU) (.int (nI kAt)) (.int iTo) (.int iFr) (.long JFi) (.int iFa) (.ref qm3) (.int iSt) iLv iWs vLa (.ref qmu) (.ref qmy) (.ref qmb) (.ref qms) (.int iOm) rB rO rK k_9 k_10 (by first | omega | (simp only [nb_sr, np_sr, nb_wr, np_wr, nb_rd, np_rd, nb_ch, np_ch, nb_zr, np_zr, nb_za, np_za, nb_ey, np_ey, nb_hf, np_hf, nb_dd, np_dd, nb_so, np_so, nb_skn, np_skn, nb_swh, np_swh, nb_sgn, np_sgn, nb_ssd, np_ssd, nb_sgo, np_sgo, nb_sag, np_sag]; omega)) (by first | omega | (simp only [nb_sr, np_sr, nb_wr, np_wr, nb_rd, np_rd, nb_ch, np_ch, nb_zr, np_zr, nb_za, np_za, nb_ey, np_ey, nb_hf, np_hf, nb_dd, np_dd, nb_so, np_so, nb_skn, np_skn, nb_swh, np_swh, nb_sgn, np_sgn, nb_ssd, np_ssd, nb_sgo, np_sgo, nb_sag, np_sag]; omega))) L_X6_254 (preRV (q := (RX6, TX6, 35)) hN hP (trueIxs [[false, false, false, false, false, false, false, false, false, true, true, true, true, true, true, true, true, true, true, true, true, true, true, true, true, true, true, true], [true, true, true, true, true, true, true, true, true]]) (sels_fm rfl rfl) 9 5 rfl rfl) rfl ⟨Nat.le_of_ble_eq_true rfl, Nat.le_of_ble_eq_true rfl⟩ hl.1 (Nat.le_of_ble_eq_true rfl) (g_182 (v := 254) bX6_would rfl) ⟨Nat.le_of_ble_eq_true rfl, Nat.le_of_ble_eq_true rfl⟩) (fun r_15 h_16 => ?_)
    subst h_16
    exact endWs [[false, false, false, false, false, false, false, false, false, true, true, true, true, true, true, true, true, true, true, true, true, true, true, true, true, true, true, true], [true, true, true, true, true, true, true, true, true, false, false, false, false, false, false, false, false, false, false, false, false, false, false, false, false, false, false, false, true]] hx hb hr hlocks rfl hP hD rfl (by decide +kernel) hS ⟨fX_4, rfl, trivial⟩ (g_172 bX6_would rfl)
set_option maxHeartbeats 4000000 in
set_option maxRecDepth 100000 in
theorem p_X6_read (l : Launch) (G : va_G) (cy : Nat → ClassId) (sz : Nat) (qm : Nat) (qmh : Nat) (qmo : Nat) (qmz : Nat) (qmR : Nat) (qmv : Nat) (qmk : Nat) (qma : Nat) (qmt : Nat) (kZ : Nat) (qmr : Nat) (tA : TA) (qmB : Nat) (qmO : Nat) (qmK : Nat) (iEn : Int32) (iTk : Int32) (uP : UM) (uU : UM) (kAt : Nat) (iTo : Int32) (iFr : Int32) (JFi : Int64) (iFa : Int32) (qm3 : Nat) (iSt : Int32) (iLv : Int32) (iWs : Int32) (vLa : Value) (qmu : Nat) (qmy : Nat) (qmb : Nat) (qms : Nat) (iOm : Int32) (rB : Nat → Nat) (rO : Nat → Nat) (rK : Nat → Nat) (fMr : Nat → Int32) (iA : Int32) (iB : Int32)  (hB : T_nb tA ≤ 8) (hPp : T_np tA ≤ 8) (hTI : TI tA) : MW l yX6_read cX6_read 4 (some .int) 16 0 0 G cy [zzO qm 5 (.ref qmh :: .ref qmo :: .ref qmz :: .ref qmR :: .ref qmv :: .ref qmk :: .ref qma :: .ref qmt :: .int (nI kZ) :: .ref qmr :: .int (nI (T_nb tA)) :: .ref qmB :: .int (nI (T_np tA)) :: .ref qmO :: .ref qmK :: .int iEn :: .int iTk :: .int (T_sd tA) :: ov uP :: ov uU :: .int (nI kAt) :: .int iTo :: .int iFr :: .long JFi :: .int iFa :: .ref qm3 :: .int iSt :: .int iLv :: .int iWs :: vLa :: .ref qmu :: .ref qmy :: .ref qmb :: .ref qms :: .int iOm :: []), zzG cy 3 qmB rB, zzI cy (rB 0) 4 (bkR tA 0), zzI cy (rB 1) 4 (bkR tA 1), zzI cy (rB 2) 4 (bkR tA 2), zzI cy (rB 3) 4 (bkR tA 3), zzI cy (rB 4) 4 (bkR tA 4), zzI cy (rB 5) 4 (bkR tA 5), zzI cy (rB 6) 4 (bkR tA 6), zzI cy (rB 7) 4 (bkR tA 7), zzG cy 3 qmO rO, zzI cy (rO 0) 5 (onR tA 0), zzI cy (rO 1) 5 (onR tA 1), zzI cy (rO 2) 5 (onR tA 2), zzI cy (rO 3) 5 (onR tA 3), zzI cy (rO 4) 5 (onR tA 4), zzI cy (rO 5) 5 (onR tA 5), zzI cy (rO 6) 5 (onR tA 6), zzI cy (rO 7) 5 (onR tA 7), zzG cy 3 qmK rK, zzI cy (rK 0) 8 (T_kn tA 0), zzI cy (rK 1) 8 (T_kn tA 1), zzI cy (rK 2) 8 (T_kn tA 2), zzI cy (rK 3) 8 (T_kn tA 3), zzI cy (rK 4) 8 (T_kn tA 4), zzI cy (rK 5) 8 (T_kn tA 5), zzI cy (rK 6) 8 (T_kn tA 6), zzI cy (rK 7) 8 (T_kn tA 7), zzI cy qmr 8 fMr] sz [.ref qm, .int iA, .int iB] (Wi G (fun r u => ∃ (tN : TA) (fNr : Nat → Int32), u = [zzO qm 5 (.ref qmh :: .ref qmo :: .ref qmz :: .ref qmR :: .ref qmv :: .ref qmk :: .ref qma :: .ref qmt :: .int (nI kZ) :: .ref qmr :: .int (nI (T_nb tN)) :: .ref qmB :: .int (nI (T_np tN)) :: .ref qmO :: .ref qmK :: .int iEn :: .int iTk :: .int (T_sd tN) :: ov uP :: ov uU :: .int (nI kAt) :: .int iTo :: .int iFr :: .long JFi :: .int iFa :: .ref qm3 :: .int iSt :: .int iLv :: .int iWs :: vLa :: .ref qmu :: .ref qmy :: .ref qmb :: .ref qms :: .int iOm :: []), zzG cy 3 qmB rB, zzI cy (rB 0) 4 (bkR tN 0), zzI cy (rB 1) 4 (bkR tN 1), zzI cy (rB 2) 4 (bkR tN 2), zzI cy (rB 3) 4 (bkR tN 3), zzI cy (rB 4) 4 (bkR tN 4), zzI cy (rB 5) 4 (bkR tN 5), zzI cy (rB 6) 4 (bkR tN 6), zzI cy (rB 7) 4 (bkR tN 7), zzG cy 3 qmO rO, zzI cy (rO 0) 5 (onR tN 0), zzI cy (rO 1) 5 (onR tN 1), zzI cy (rO 2) 5 (onR tN 2), zzI cy (rO 3) 5 (onR tN 3), zzI cy (rO 4) 5 (onR tN 4), zzI cy (rO 5) 5 (onR tN 5), zzI cy (rO 6) 5 (onR tN 6), zzI cy (rO 7) 5 (onR tN 7), zzG cy 3 qmK rK, zzI cy (rK 0) 8 (T_kn tN 0), zzI cy (rK 1) 8 (T_kn tN 1), zzI cy (rK 2) 8 (T_kn tN 2), zzI cy (rK 3) 8 (T_kn tN 3), zzI cy (rK 4) 8 (T_kn tN 4), zzI cy (rK 5) 8 (T_kn tN 5), zzI cy (rK 6) 8 (T_kn tN 6), zzI cy (rK 7) 8 (T_kn tN 7), zzI cy qmr 8 fNr] ∧ (TI tN) ∧ (True))) := by
  refine enW RX6 (by decide +kernel) rfl (Nat.le_of_ble_eq_true rfl) (fun p e s m below meth c ls A hx hb hml hown hts hr hlocks hP hN hl hin hD hA hS => ?_)
  have hin : meth.name = _ := hin
  have hK := hN.1
  replace hl : lv_has ls 4 [(0, .ref qm), (1, .int iA), (2, .int iB)] := hl
  refine lv_aload_n hx hb (g_42 bX6_read rfl) rfl (lv_at hl 0 rfl) ?_
  refine lv_iload_n hx hb (g_27 bX6_read rfl) rfl (lv_at hl 1 rfl) ?_
  refine lv_iload_n hx hb (g_28 bX6_read rfl) rfl (lv_at hl 2 rfl) ?_
  refine cVi (As := [.int iA, .int iB]) (rest := []) (b := qm) (q := (RX6, TX6, 35)) ⟨hx, hb, hml, hown, hts⟩ (c_X6_noReading l G cy (s.heap).size qm (.ref qmh) (.ref qmo) (.ref qmz) (.ref qmR) (.ref qmv) (.ref qmk) (.ref qma) (.ref qmt) (.int (nI kZ)) qmr tA qmB qmO qmK iEn iTk (ov uP) (ov uU) (.int (nI kAt)) (.int iTo) (.int iFr) (.long JFi) (.int iFa) (.ref qm3) (.int iSt) iLv iWs vLa (.ref qmu) (.ref qmy) (.ref qmb) (.ref qms) (.int iOm) rB rO fMr iA iB hB hPp) L_X6_251 hN hP hD hS hA (trueIx 0 [true, true, true, true, true, true, true, true, true, true, true, true, true, true, true, true, true, true, true, false, false, false, false, false, false, false, false, false, true]) [false, false, false, false, false, false, false, false, false, false, false, false, false, false, false, false, false, false, false, true, true, true, true, true, true, true, true, true, false] (sel_eq rfl rfl) (by decide +kernel) rfl 0 5 rfl rfl rfl ⟨Nat.le_of_ble_eq_true rfl, Nat.le_of_ble_eq_true rfl⟩ hl.1 (Nat.le_of_ble_eq_true rfl) (g_182 (v := 251) bX6_read rfl) ⟨Nat.le_of_ble_eq_true rfl, Nat.le_of_ble_eq_true rfl⟩ (fun r_1 u_3 H locs h_2 => ?_)
  clear hP hD hS
  intro hP hD hS
  obtain ⟨fX_4, hu9, h_2⟩ := h_2
  have hPD := pd_eq [_, _, _, _, _, _, _, _, _, _, _, _, _, _, _, _, _, _, _, _, _, _, _, _, _, _, _, _, zzI cy qmr 8 fX_4] hP hD hu9 rfl
  clear hP hD hu9
  obtain ⟨hP, hD⟩ := hPD
  rcases h_2 with ⟨rfl, h_5⟩ | ⟨rfl, h_5⟩ | ⟨rfl, h_5⟩
  · refine lv_istore_n (lv' := [(3, .int (-2)), (0, .ref qm), (1, .int iA), (2, .int iB)]) hx hb (g_62 bX6_read rfl) rfl hl (by decide +kernel) rfl (fun ls => ?_)
    clear hl
    intro hl
    refine lv_iload_n hx hb (g_29 bX6_read rfl) rfl (lv_at hl 0 rfl) ?_
    refine lv_if_eq (tgt := 13) hx hb dX6_read_8 (by decide +kernel) (fun h9 => absurd h9 (by decide +kernel)) (fun _ => ?_)
    refine lv_iload_n hx hb (g_29 bX6_read rfl) rfl (lv_at hl 0 rfl) ?_
    exact endWs [[false, false, false, false, false, false, false, false, false, true, true, true, true, true, true, true, true, true, true, true, true, true, true, true, true, true, true, true], [true, true, true, true, true, true, true, true, true, false, false, false, false, false, false, false, false, false, false, false, false, false, false, false, false, false, false, false, true]] hx hb hr hlocks rfl hP hD rfl (by decide +kernel) hS ⟨tA, fX_4, rfl, hTI, trivial⟩ (g_172 bX6_read rfl)
  · refine lv_istore_n (lv' := [(3, .int (-5)), (0, .ref qm), (1, .int iA), (2, .int iB)]) hx hb (g_62 bX6_read rfl) rfl hl (by decide +kernel) rfl (fun ls => ?_)
    clear hl
    intro hl
    refine lv_iload_n hx hb (g_29 bX6_read rfl) rfl (lv_at hl 0 rfl) ?_
    refine lv_if_eq (tgt := 13) hx hb dX6_read_8 (by decide +kernel) (fun h9 => absurd h9 (by decide +kernel)) (fun _ => ?_)
    refine lv_iload_n hx hb (g_29 bX6_read rfl) rfl (lv_at hl 0 rfl) ?_
    exact endWs [[false, false, false, false, false, false, false, false, false, true, true, true, true, true, true, true, true, true, true, true, true, true, true, true, true, true, true, true], [true, true, true, true, true, true, true, true, true, false, false, false, false, false, false, false, false, false, false, false, false, false, false, false, false, false, false, false, true]] hx hb hr hlocks rfl hP hD rfl (by decide +kernel) hS ⟨tA, fX_4, rfl, hTI, trivial⟩ (g_172 bX6_read rfl)
  · refine lv_istore_n (lv' := [(3, .int 0), (0, .ref qm), (1, .int iA), (2, .int iB)]) hx hb (g_62 bX6_read rfl) rfl hl (by decide +kernel) rfl (fun ls => ?_)
    clear hl
    intro hl
    refine lv_iload_n hx hb (g_29 bX6_read rfl) rfl (lv_at hl 0 rfl) ?_
    refine lv_if_eq (tgt := 13) hx hb dX6_read_8 (by decide +kernel) (fun _ => ?_) (fun h9 => absurd (by decide +kernel) h9)
    refine lv_aload_n hx hb (g_42 bX6_read rfl) rfl (lv_at hl 1 rfl) ?_
    refine lv_iload_n hx hb (g_27 bX6_read rfl) rfl (lv_at hl 2 rfl) ?_
    refine lv_iload_n hx hb (g_28 bX6_read rfl) rfl (lv_at hl 3 rfl) ?_
    obtain ⟨k_9, k_10, hk_11, hk_12, rfl, rfl, h_13, h_14⟩ := h_5
    refine cVv (As := [.int (nI k_9), .int (nI k_10)]) (rest := []) (b := qm) (q := (RX6, TX6, 35)) ⟨hx, hb, hml, hown, hts⟩ (c_X6_reads l G cy (H).size qm (.ref qmh) (.ref qmo) (.ref qmz) (.ref qmR) (.ref qmv) (.ref qmk) (.ref qma) (.ref qmt) (.int (nI kZ)) (.ref qmr) tA qmB qmO qmK iEn iTk (ov uP) (ov uU) (.int (nI kAt)) (.int iTo) (.int iFr) (.long JFi) (.int iFa) (.ref qm3) (.int iSt) iLv iWs vLa (.ref qmu) (.ref qmy) (.ref qmb) (.ref qms) (.int iOm) rB rO rK k_9 k_10 (by first | omega | (simp only [nb_sr, np_sr, nb_wr, np_wr, nb_rd, np_rd, nb_ch, np_ch, nb_zr, np_zr, nb_za, np_za, nb_ey, np_ey, nb_hf, np_hf, nb_dd, np_dd, nb_so, np_so, nb_skn, np_skn, nb_swh, np_swh, nb_sgn, np_sgn, nb_ssd, np_ssd, nb_sgo, np_sgo, nb_sag, np_sag]; omega)) (by first | omega | (simp only [nb_sr, np_sr, nb_wr, np_wr, nb_rd, np_rd, nb_ch, np_ch, nb_zr, np_zr, nb_za, np_za, nb_ey, np_ey, nb_hf, np_hf, nb_dd, np_dd, nb_so, np_so, nb_skn, np_skn, nb_swh, np_swh, nb_sgn, np_sgn, nb_ssd, np_ssd, nb_sgo, np_sgo, nb_sag, np_sag]; omega))) L_X6_257 hN hP hD hS hA (trueIxs [[false, false, false, false, false, false, false, false, false, true, true, true, true, true, true, true, true, true, true, true, true, true, true, true, true, true, true, true], [true, true, true, true, true, true, true, true, true]]) [false, false, false, false, false, false, false, false, false, false, false, false, false, false, false, false, false, false, false, false, false, false, false, false, false, false, false, false, true] (sels_eq rfl rfl) (by decide +kernel) rfl 9 5 rfl rfl rfl ⟨Nat.le_of_ble_eq_true rfl, Nat.le_of_ble_eq_true rfl⟩ hl.1 (Nat.le_of_ble_eq_true rfl) (g_182 (v := 257) bX6_read rfl) ⟨Nat.le_of_ble_eq_true rfl, Nat.le_of_ble_eq_true rfl⟩ (fun u_17 H locs h_16 => ?_)
    clear hP hD hS
    intro hP hD hS
    have hPD := pd_eq [_, zzO qm 5 (.ref qmh :: .ref qmo :: .ref qmz :: .ref qmR :: .ref qmv :: .ref qmk :: .ref qma :: .ref qmt :: .int (nI kZ) :: .ref qmr :: .int (nI (T_nb (rdT tA k_9 k_10))) :: .ref qmB :: .int (nI (T_np (rdT tA k_9 k_10))) :: .ref qmO :: .ref qmK :: .int iEn :: .int iTk :: .int (T_sd (rdT tA k_9 k_10)) :: ov uP :: ov uU :: .int (nI kAt) :: .int iTo :: .int iFr :: .long JFi :: .int iFa :: .ref qm3 :: .int iSt :: .int iLv :: .int iWs :: vLa :: .ref qmu :: .ref qmy :: .ref qmb :: .ref qms :: .int iOm :: []), _, zzI cy (rB 0) 4 (bkR (rdT tA k_9 k_10) 0), zzI cy (rB 1) 4 (bkR (rdT tA k_9 k_10) 1), zzI cy (rB 2) 4 (bkR (rdT tA k_9 k_10) 2), zzI cy (rB 3) 4 (bkR (rdT tA k_9 k_10) 3), zzI cy (rB 4) 4 (bkR (rdT tA k_9 k_10) 4), zzI cy (rB 5) 4 (bkR (rdT tA k_9 k_10) 5), zzI cy (rB 6) 4 (bkR (rdT tA k_9 k_10) 6), zzI cy (rB 7) 4 (bkR (rdT tA k_9 k_10) 7), _, zzI cy (rO 0) 5 (onR (rdT tA k_9 k_10) 0), zzI cy (rO 1) 5 (onR (rdT tA k_9 k_10) 1), zzI cy (rO 2) 5 (onR (rdT tA k_9 k_10) 2), zzI cy (rO 3) 5 (onR (rdT tA k_9 k_10) 3), zzI cy (rO 4) 5 (onR (rdT tA k_9 k_10) 4), zzI cy (rO 5) 5 (onR (rdT tA k_9 k_10) 5), zzI cy (rO 6) 5 (onR (rdT tA k_9 k_10) 6), zzI cy (rO 7) 5 (onR (rdT tA k_9 k_10) 7), _, zzI cy (rK 0) 8 (T_kn (rdT tA k_9 k_10) 0), zzI cy (rK 1) 8 (T_kn (rdT tA k_9 k_10) 1), zzI cy (rK 2) 8 (T_kn (rdT tA k_9 k_10) 2), zzI cy (rK 3) 8 (T_kn (rdT tA k_9 k_10) 3), zzI cy (rK 4) 8 (T_kn (rdT tA k_9 k_10) 4), zzI cy (rK 5) 8 (T_kn (rdT tA k_9 k_10) 5), zzI cy (rK 6) 8 (T_kn (rdT tA k_9 k_10) 6), zzI cy (rK 7) 8 (T_kn (rdT tA k_9 k_10) 7)] hP hD h_16 rfl
    clear hP hD h_16
    obtain ⟨hP, hD⟩ := hPD
    refine lv_aload_n hx hb (g_42 bX6_read rfl) rfl (lv_at hl 1 rfl) ?_
    refine va_get (D := G) (ci := 5) (v := .ref qmK) (C := RX6) (T := TX6) (N := 35) hx hb hts iX_X6 hown hK hP 1 rfl rfl 14 (by decide +kernel) (hts _ m_t864) (fun _ h9 => h9) rfl (g_180 (v := 48) bX6_read rfl) ?_
    refine lv_iload_n hx hb (g_27 bX6_read rfl) rfl (lv_at hl 2 rfl) ?_
    refine va_alda hx hb hK hP 20 3 rfl rfl (in8 (by omega)) (g_50 bX6_read rfl) ?_
    refine lv_setv (v := .ref (rK k_9)) (g_ref (by omega)) ?_
    refine lv_iload_n hx hb (g_28 bX6_read rfl) rfl (lv_at hl 3 rfl) ?_
    refine va_iald hx hb hK hP (21 + k_9) 0 (sg8 (n0 := 21) (f := (fun j => zzI cy (rK j) 8 (T_kn (rdT tA k_9 k_10) j))) rfl rfl rfl rfl rfl rfl rfl rfl k_9 (by omega)) rfl (vp_in_nI (by omega) (by omega)) (g_46 bX6_read rfl) ?_
    refine lv_seti (v := T_kn (rdT tA k_9 k_10) k_9 k_10) (congrArg (T_kn (rdT tA k_9 k_10) k_9) (nI_clamp (by omega))) ?_
    exact endWs [[false, true, true, true, true, true, true, true, true, true, true, true, true, true, true, true, true, true, true, true, true, true, true, true, true, true, true, true, true], [true]] hx hb hr hlocks rfl hP hD rfl (by decide +kernel) hS ⟨(rdT tA k_9 k_10), fX_4, rfl, (TI_rd hTI _ _), trivial⟩ (g_172 bX6_read rfl)
set_option maxHeartbeats 4000000 in
set_option maxRecDepth 100000 in
theorem p_X6_aloud (l : Launch) (G : va_G) (cy : Nat → ClassId) (sz : Nat) (qm : Nat) (qmh : Nat) (qmo : Nat) (qmz : Nat) (qmR : Nat) (qmv : Nat) (qmk : Nat) (qma : Nat) (qmt : Nat) (kZ : Nat) (qmr : Nat) (tA : TA) (qmB : Nat) (qmO : Nat) (qmK : Nat) (iEn : Int32) (iTk : Int32) (uP : UM) (uU : UM) (kAt : Nat) (iTo : Int32) (iFr : Int32) (JFi : Int64) (iFa : Int32) (qm3 : Nat) (iSt : Int32) (iLv : Int32) (iWs : Int32) (vLa : Value) (qmu : Nat) (qmy : Nat) (qmb : Nat) (qms : Nat) (iOm : Int32) (rB : Nat → Nat) (rO : Nat → Nat) (rK : Nat → Nat) (fMr : Nat → Int32) (iA : Int32) (iB : Int32) (iC : Int32)  (hB : T_nb tA ≤ 8) (hPp : T_np tA ≤ 8) (hTI : TI tA) : MW l yX6_aloud cX6_aloud 5 (some .int) 16 0 0 G cy [zzO qm 5 (.ref qmh :: .ref qmo :: .ref qmz :: .ref qmR :: .ref qmv :: .ref qmk :: .ref qma :: .ref qmt :: .int (nI kZ) :: .ref qmr :: .int (nI (T_nb tA)) :: .ref qmB :: .int (nI (T_np tA)) :: .ref qmO :: .ref qmK :: .int iEn :: .int iTk :: .int (T_sd tA) :: ov uP :: ov uU :: .int (nI kAt) :: .int iTo :: .int iFr :: .long JFi :: .int iFa :: .ref qm3 :: .int iSt :: .int iLv :: .int iWs :: vLa :: .ref qmu :: .ref qmy :: .ref qmb :: .ref qms :: .int iOm :: []), zzG cy 3 qmB rB, zzI cy (rB 0) 4 (bkR tA 0), zzI cy (rB 1) 4 (bkR tA 1), zzI cy (rB 2) 4 (bkR tA 2), zzI cy (rB 3) 4 (bkR tA 3), zzI cy (rB 4) 4 (bkR tA 4), zzI cy (rB 5) 4 (bkR tA 5), zzI cy (rB 6) 4 (bkR tA 6), zzI cy (rB 7) 4 (bkR tA 7), zzG cy 3 qmO rO, zzI cy (rO 0) 5 (onR tA 0), zzI cy (rO 1) 5 (onR tA 1), zzI cy (rO 2) 5 (onR tA 2), zzI cy (rO 3) 5 (onR tA 3), zzI cy (rO 4) 5 (onR tA 4), zzI cy (rO 5) 5 (onR tA 5), zzI cy (rO 6) 5 (onR tA 6), zzI cy (rO 7) 5 (onR tA 7), zzG cy 3 qmK rK, zzI cy (rK 0) 8 (T_kn tA 0), zzI cy (rK 1) 8 (T_kn tA 1), zzI cy (rK 2) 8 (T_kn tA 2), zzI cy (rK 3) 8 (T_kn tA 3), zzI cy (rK 4) 8 (T_kn tA 4), zzI cy (rK 5) 8 (T_kn tA 5), zzI cy (rK 6) 8 (T_kn tA 6), zzI cy (rK 7) 8 (T_kn tA 7), zzI cy qmr 8 fMr] sz [.ref qm, .int iA, .int iB, .int iC] (Wi G (fun r u => ∃ (tN : TA) (fNr : Nat → Int32), u = [zzO qm 5 (.ref qmh :: .ref qmo :: .ref qmz :: .ref qmR :: .ref qmv :: .ref qmk :: .ref qma :: .ref qmt :: .int (nI kZ) :: .ref qmr :: .int (nI (T_nb tN)) :: .ref qmB :: .int (nI (T_np tN)) :: .ref qmO :: .ref qmK :: .int iEn :: .int iTk :: .int (T_sd tN) :: ov uP :: ov uU :: .int (nI kAt) :: .int iTo :: .int iFr :: .long JFi :: .int iFa :: .ref qm3 :: .int iSt :: .int iLv :: .int iWs :: vLa :: .ref qmu :: .ref qmy :: .ref qmb :: .ref qms :: .int iOm :: []), zzG cy 3 qmB rB, zzI cy (rB 0) 4 (bkR tN 0), zzI cy (rB 1) 4 (bkR tN 1), zzI cy (rB 2) 4 (bkR tN 2), zzI cy (rB 3) 4 (bkR tN 3), zzI cy (rB 4) 4 (bkR tN 4), zzI cy (rB 5) 4 (bkR tN 5), zzI cy (rB 6) 4 (bkR tN 6), zzI cy (rB 7) 4 (bkR tN 7), zzG cy 3 qmO rO, zzI cy (rO 0) 5 (onR tN 0), zzI cy (rO 1) 5 (onR tN 1), zzI cy (rO 2) 5 (onR tN 2), zzI cy (rO 3) 5 (onR tN 3), zzI cy (rO 4) 5 (onR tN 4), zzI cy (rO 5) 5 (onR tN 5), zzI cy (rO 6) 5 (onR tN 6), zzI cy (rO 7) 5 (onR tN 7), zzG cy 3 qmK rK, zzI cy (rK 0) 8 (T_kn tN 0), zzI cy (rK 1) 8 (T_kn tN 1), zzI cy (rK 2) 8 (T_kn tN 2), zzI cy (rK 3) 8 (T_kn tN 3), zzI cy (rK 4) 8 (T_kn tN 4), zzI cy (rK 5) 8 (T_kn tN 5), zzI cy (rK 6) 8 (T_kn tN 6), zzI cy (rK 7) 8 (T_kn tN 7), zzI cy qmr 8 fNr] ∧ (TI tN) ∧ (True))) := by
  refine enW RX6 (by decide +kernel) rfl (Nat.le_of_ble_eq_true rfl) (fun p e s m below meth c ls A hx hb hml hown hts hr hlocks hP hN hl hin hD hA hS => ?_)
  have hin : meth.name = _ := hin
  have hK := hN.1
  replace hl : lv_has ls 5 [(0, .ref qm), (1, .int iA), (2, .int iB), (3, .int iC)] := hl
  refine lv_aload_n hx hb (g_42 bX6_aloud rfl) rfl (lv_at hl 0 rfl) ?_
  refine lv_iload_n hx hb (g_27 bX6_aloud rfl) rfl (lv_at hl 1 rfl) ?_
  refine lv_i2l (v := iA.toInt64) hx hb (g_133 bX6_aloud rfl) rfl ?_
  refine kRi (rV (As := [.long iA.toInt64]) (rest := []) (b := qm) ⟨hx, hb, hml, hown, hts⟩ (c_X6_isOne l G cy qm (.ref qmh) (.ref qmo) (.ref qmz) (.ref qmR) (.ref qmv) (.ref qmk) (.ref qma) (.ref qmt) (.int (nI kZ)) (.ref qmr) tA qmB qmO qmK iEn iTk (ov uP) (ov uU) (.int (nI kAt)) (.int iTo) (.int iFr) (.long JFi) (.int iFa) (.ref qm3) (.int iSt) iLv iWs vLa (.ref qmu) (.ref qmy) (.ref qmb) (.ref qms) (.int iOm) iA hPp) L_X6_236 (preRV (q := (RX6, TX6, 35)) hN hP [0] rfl 0 5 rfl rfl) rfl ⟨Nat.le_of_ble_eq_true rfl, Nat.le_of_ble_eq_true rfl⟩ hl.1 (Nat.le_of_ble_eq_true rfl) (g_182 (v := 236) bX6_aloud rfl) ⟨Nat.le_of_ble_eq_true rfl, Nat.le_of_ble_eq_true rfl⟩) (fun r_1 h_2 => ?_)
  rcases h_2 with ⟨rfl, h_3⟩ | ⟨rfl, h_3⟩
  · obtain ⟨k_4, hk_5, rfl⟩ := h_3
    refine lv_if_eq (tgt := 36) hx hb dX6_aloud_6 (by decide +kernel) (fun h9 => absurd h9 (by decide +kernel)) (fun _ => ?_)
    refine lv_aload_n hx hb (g_42 bX6_aloud rfl) rfl (lv_at hl 0 rfl) ?_
    refine lv_iload_n hx hb (g_28 bX6_aloud rfl) rfl (lv_at hl 2 rfl) ?_
    refine lv_i2l (v := iB.toInt64) hx hb (g_133 bX6_aloud rfl) rfl ?_
    refine kRi (rV (As := [.long iB.toInt64]) (rest := []) (b := qm) ⟨hx, hb, hml, hown, hts⟩ (c_X6_isBook l G cy qm (.ref qmh) (.ref qmo) (.ref qmz) (.ref qmR) (.ref qmv) (.ref qmk) (.ref qma) (.ref qmt) (.int (nI kZ)) (.ref qmr) tA qmB qmO qmK iEn iTk (ov uP) (ov uU) (.int (nI kAt)) (.int iTo) (.int iFr) (.long JFi) (.int iFa) (.ref qm3) (.int iSt) iLv iWs vLa (.ref qmu) (.ref qmy) (.ref qmb) (.ref qms) (.int iOm) iB hB) L_X6_229 (preRV (q := (RX6, TX6, 35)) hN hP [0] rfl 0 5 rfl rfl) rfl ⟨Nat.le_of_ble_eq_true rfl, Nat.le_of_ble_eq_true rfl⟩ hl.1 (Nat.le_of_ble_eq_true rfl) (g_182 (v := 229) bX6_aloud rfl) ⟨Nat.le_of_ble_eq_true rfl, Nat.le_of_ble_eq_true rfl⟩) (fun r_7 h_8 => ?_)
    rcases h_8 with ⟨rfl, h_9⟩ | ⟨rfl, h_9⟩
    · obtain ⟨k_10, hk_11, rfl⟩ := h_9
      refine lv_if_eq (tgt := 36) hx hb dX6_aloud_15 (by decide +kernel) (fun h9 => absurd h9 (by decide +kernel)) (fun _ => ?_)
      refine lv_iload_n hx hb (g_29 bX6_aloud rfl) rfl (lv_at hl 3 rfl) ?_
      refine lv_i2l (v := iC.toInt64) hx hb (g_133 bX6_aloud rfl) rfl ?_
      refine lv_lconst (v := 0) hx hb (g_9 bX6_aloud rfl) (by decide +kernel) ?_
      refine lv_iconst (v := 1) hx hb (g_4 bX6_aloud rfl) (by decide +kernel) ?_
      refine lv_aload_n hx hb (g_42 bX6_aloud rfl) rfl (lv_at hl 0 rfl) ?_
      refine va_get (D := G) (ci := 5) (v := .int (nI (T_np tA))) (C := RX6) (T := TX6) (N := 35) hx hb hts iX_X6 hown hK hP 0 rfl rfl 12 (by decide +kernel) (hts _ m_t862) (fun _ h9 => h9) rfl (g_180 (v := 78) bX6_aloud rfl) ?_
      refine lv_ishl hx hb (g_120 bX6_aloud rfl) ?_
      refine lv_iconst (v := 1) hx hb (g_4 bX6_aloud rfl) (by decide +kernel) ?_
      refine lv_isub hx hb (g_100 bX6_aloud rfl) ?_
      refine lv_i2l (v := ((1 <<< ((nI (T_np tA)) &&& 31)) - 1).toInt64) hx hb (g_133 bX6_aloud rfl) rfl ?_
      refine kRi (rS (As := [.long iC.toInt64, .long 0, .long (((1 <<< ((nI (T_np tA)) &&& 31)) - 1).toInt64)]) (rest := []) ⟨hx, hb, hml, hown, hts⟩ (c_X6_in l G cy iC.toInt64 0 (((1 <<< ((nI (T_np tA)) &&& 31)) - 1).toInt64)) L_X6_74 (preRS hN hP [] rfl) rfl ⟨Nat.le_of_ble_eq_true rfl, Nat.le_of_ble_eq_true rfl⟩ hl.1 (Nat.le_of_ble_eq_true rfl) (g_184 (v := 74) bX6_aloud rfl) ⟨Nat.le_of_ble_eq_true rfl, Nat.le_of_ble_eq_true rfl⟩) (fun r_13 h_14 => ?_)
      rcases h_14 with ⟨rfl, h_15⟩ | ⟨rfl, h_15⟩
      · refine lv_if_ne (tgt := 43) hx hb dX6_aloud_33 (by decide +kernel) (fun _ => ?_) (fun h9 => absurd h9 (by decide +kernel))
        refine lv_aload_n hx hb (g_42 bX6_aloud rfl) rfl (lv_at hl 0 rfl) ?_
        refine lv_iload_n hx hb (g_27 bX6_aloud rfl) rfl (lv_at hl 1 rfl) ?_
        refine lv_iload_n hx hb (g_28 bX6_aloud rfl) rfl (lv_at hl 2 rfl) ?_
        refine cVi (As := [.int (nI k_4), .int (nI k_10)]) (rest := []) (b := qm) (q := (RX6, TX6, 35)) ⟨hx, hb, hml, hown, hts⟩ (c_X6_noReading l G cy (s.heap).size qm (.ref qmh) (.ref qmo) (.ref qmz) (.ref qmR) (.ref qmv) (.ref qmk) (.ref qma) (.ref qmt) (.int (nI kZ)) qmr tA qmB qmO qmK iEn iTk (ov uP) (ov uU) (.int (nI kAt)) (.int iTo) (.int iFr) (.long JFi) (.int iFa) (.ref qm3) (.int iSt) iLv iWs vLa (.ref qmu) (.ref qmy) (.ref qmb) (.ref qms) (.int iOm) rB rO fMr (nI k_4) (nI k_10) hB hPp) L_X6_251 hN hP hD hS hA (trueIx 0 [true, true, true, true, true, true, true, true, true, true, true, true, true, true, true, true, true, true, true, false, false, false, false, false, false, false, false, false, true]) [false, false, false, false, false, false, false, false, false, false, false, false, false, false, false, false, false, false, false, true, true, true, true, true, true, true, true, true, false] (sel_eq rfl rfl) (by decide +kernel) rfl 0 5 rfl rfl rfl ⟨Nat.le_of_ble_eq_true rfl, Nat.le_of_ble_eq_true rfl⟩ hl.1 (Nat.le_of_ble_eq_true rfl) (g_182 (v := 251) bX6_aloud rfl) ⟨Nat.le_of_ble_eq_true rfl, Nat.le_of_ble_eq_true rfl⟩ (fun r_17 u_19 H locs h_18 => ?_)
        clear hP hD hS
        intro hP hD hS
        obtain ⟨fX_20, hu9, h_18⟩ := h_18
        have hPD := pd_eq [_, _, _, _, _, _, _, _, _, _, _, _, _, _, _, _, _, _, _, _, _, _, _, _, _, _, _, _, zzI cy qmr 8 fX_20] hP hD hu9 rfl
        clear hP hD hu9
        obtain ⟨hP, hD⟩ := hPD
        rcases h_18 with ⟨rfl, h_21⟩ | ⟨rfl, h_21⟩ | ⟨rfl, h_21⟩
        · refine lv_istore (lv' := [(4, .int (-2)), (0, .ref qm), (1, .int (nI k_4)), (2, .int (nI k_10)), (3, .int iC)]) hx hb (g_54 (v := 4) bX6_aloud rfl) hl (by decide +kernel) rfl (fun ls => ?_)
          clear hl
          intro hl
          refine lv_iload hx hb (g_21 (v := 4) bX6_aloud rfl) (lv_at hl 0 rfl) ?_
          refine lv_if_eq (tgt := 61) hx hb dX6_aloud_53 (by decide +kernel) (fun h9 => absurd h9 (by decide +kernel)) (fun _ => ?_)
          refine lv_iload hx hb (g_21 (v := 4) bX6_aloud rfl) (lv_at hl 0 rfl) ?_
          refine lv_goto (tgt := 68) hx hb dX6_aloud_58 (by decide +kernel) ?_
          exact endWs [[false, false, false, false, false, false, false, false, false, true, true, true, true, true, true, true, true, true, true, true, true, true, true, true, true, true, true, true], [true, true, true, true, true, true, true, true, true, false, false, false, false, false, false, false, false, false, false, false, false, false, false, false, false, false, false, false, true]] hx hb hr hlocks rfl hP hD rfl (by decide +kernel) hS ⟨tA, fX_20, rfl, hTI, trivial⟩ (g_172 bX6_aloud rfl)
        · refine lv_istore (lv' := [(4, .int (-5)), (0, .ref qm), (1, .int (nI k_4)), (2, .int (nI k_10)), (3, .int iC)]) hx hb (g_54 (v := 4) bX6_aloud rfl) hl (by decide +kernel) rfl (fun ls => ?_)
          clear hl
          intro hl
          refine lv_iload hx hb (g_21 (v := 4) bX6_aloud rfl) (lv_at hl 0 rfl) ?_
          refine lv_if_eq (tgt := 61) hx hb dX6_aloud_53 (by decide +kernel) (fun h9 => absurd h9 (by decide +kernel)) (fun _ => ?_)
          refine lv_iload hx hb (g_21 (v := 4) bX6_aloud rfl) (lv_at hl 0 rfl) ?_
          refine lv_goto (tgt := 68) hx hb dX6_aloud_58 (by decide +kernel) ?_
          exact endWs [[false, false, false, false, false, false, false, false, false, true, true, true, true, true, true, true, true, true, true, true, true, true, true, true, true, true, true, true], [true, true, true, true, true, true, true, true, true, false, false, false, false, false, false, false, false, false, false, false, false, false, false, false, false, false, false, false, true]] hx hb hr hlocks rfl hP hD rfl (by decide +kernel) hS ⟨tA, fX_20, rfl, hTI, trivial⟩ (g_172 bX6_aloud rfl)
        · refine lv_istore (lv' := [(4, .int 0), (0, .ref qm), (1, .int (nI k_4)), (2, .int (nI k_10)), (3, .int iC)]) hx hb (g_54 (v := 4) bX6_aloud rfl) hl (by decide +kernel) rfl (fun ls => ?_)
          clear hl
          intro hl
          refine lv_iload hx hb (g_21 (v := 4) bX6_aloud rfl) (lv_at hl 0 rfl) ?_
          refine lv_if_eq (tgt := 61) hx hb dX6_aloud_53 (by decide +kernel) (fun _ => ?_) (fun h9 => absurd (by decide +kernel) h9)
          refine lv_aload_n hx hb (g_42 bX6_aloud rfl) rfl (lv_at hl 1 rfl) ?_
          refine lv_iload_n hx hb (g_27 bX6_aloud rfl) rfl (lv_at hl 2 rfl) ?_
          refine lv_iload_n hx hb (g_28 bX6_aloud rfl) rfl (lv_at hl 3 rfl) ?_
          refine lv_iload_n hx hb (g_29 bX6_aloud rfl) rfl (lv_at hl 4 rfl) ?_
          refine cVi (As := [.int (nI k_4), .int (nI k_10), .int iC]) (rest := []) (b := qm) (q := (RX6, TX6, 35)) ⟨hx, hb, hml, hown, hts⟩ (c_X6_readsTo l G cy (H).size qm (.ref qmh) (.ref qmo) (.ref qmz) (.ref qmR) (.ref qmv) (.ref qmk) (.ref qma) (.ref qmt) (.int (nI kZ)) (.ref qmr) tA qmB qmO qmK iEn iTk (ov uP) (ov uU) (.int (nI kAt)) (.int iTo) (.int iFr) (.long JFi) (.int iFa) (.ref qm3) (.int iSt) iLv iWs vLa (.ref qmu) (.ref qmy) (.ref qmb) (.ref qms) (.int iOm) rB rO rK k_4 k_10 iC hPp (by first | omega | (simp only [nb_sr, np_sr, nb_wr, np_wr, nb_rd, np_rd, nb_ch, np_ch, nb_zr, np_zr, nb_za, np_za, nb_ey, np_ey, nb_hf, np_hf, nb_dd, np_dd, nb_so, np_so, nb_skn, np_skn, nb_swh, np_swh, nb_sgn, np_sgn, nb_ssd, np_ssd, nb_sgo, np_sgo, nb_sag, np_sag]; omega)) (by first | omega | (simp only [nb_sr, np_sr, nb_wr, np_wr, nb_rd, np_rd, nb_ch, np_ch, nb_zr, np_zr, nb_za, np_za, nb_ey, np_ey, nb_hf, np_hf, nb_dd, np_dd, nb_so, np_so, nb_skn, np_skn, nb_swh, np_swh, nb_sgn, np_sgn, nb_ssd, np_ssd, nb_sgo, np_sgo, nb_sag, np_sag]; omega)) hTI) L_X6_260 hN hP hD hS hA (trueIxs [[false, false, false, false, false, false, false, false, false, true, true, true, true, true, true, true, true, true, true, true, true, true, true, true, true, true, true, true], [true, true, true, true, true, true, true, true, true]]) [false, false, false, false, false, false, false, false, false, false, false, false, false, false, false, false, false, false, false, false, false, false, false, false, false, false, false, false, true] (sels_eq rfl rfl) (by decide +kernel) rfl 9 5 rfl rfl rfl ⟨Nat.le_of_ble_eq_true rfl, Nat.le_of_ble_eq_true rfl⟩ hl.1 (Nat.le_of_ble_eq_true rfl) (g_182 (v := 260) bX6_aloud rfl) ⟨Nat.le_of_ble_eq_true rfl, Nat.le_of_ble_eq_true rfl⟩ (fun r_25 u_27 H locs h_26 => ?_)
          clear hP hD hS
          intro hP hD hS
          obtain ⟨tX_28, hu9, h_29, h_26⟩ := h_26
          have hPD := pd_eq [_, zzO qm 5 (.ref qmh :: .ref qmo :: .ref qmz :: .ref qmR :: .ref qmv :: .ref qmk :: .ref qma :: .ref qmt :: .int (nI kZ) :: .ref qmr :: .int (nI (T_nb tX_28)) :: .ref qmB :: .int (nI (T_np tX_28)) :: .ref qmO :: .ref qmK :: .int iEn :: .int iTk :: .int (T_sd tX_28) :: ov uP :: ov uU :: .int (nI kAt) :: .int iTo :: .int iFr :: .long JFi :: .int iFa :: .ref qm3 :: .int iSt :: .int iLv :: .int iWs :: vLa :: .ref qmu :: .ref qmy :: .ref qmb :: .ref qms :: .int iOm :: []), _, zzI cy (rB 0) 4 (bkR tX_28 0), zzI cy (rB 1) 4 (bkR tX_28 1), zzI cy (rB 2) 4 (bkR tX_28 2), zzI cy (rB 3) 4 (bkR tX_28 3), zzI cy (rB 4) 4 (bkR tX_28 4), zzI cy (rB 5) 4 (bkR tX_28 5), zzI cy (rB 6) 4 (bkR tX_28 6), zzI cy (rB 7) 4 (bkR tX_28 7), _, zzI cy (rO 0) 5 (onR tX_28 0), zzI cy (rO 1) 5 (onR tX_28 1), zzI cy (rO 2) 5 (onR tX_28 2), zzI cy (rO 3) 5 (onR tX_28 3), zzI cy (rO 4) 5 (onR tX_28 4), zzI cy (rO 5) 5 (onR tX_28 5), zzI cy (rO 6) 5 (onR tX_28 6), zzI cy (rO 7) 5 (onR tX_28 7), _, zzI cy (rK 0) 8 (T_kn tX_28 0), zzI cy (rK 1) 8 (T_kn tX_28 1), zzI cy (rK 2) 8 (T_kn tX_28 2), zzI cy (rK 3) 8 (T_kn tX_28 3), zzI cy (rK 4) 8 (T_kn tX_28 4), zzI cy (rK 5) 8 (T_kn tX_28 5), zzI cy (rK 6) 8 (T_kn tX_28 6), zzI cy (rK 7) 8 (T_kn tX_28 7)] hP hD hu9 rfl
          clear hP hD hu9
          obtain ⟨hP, hD⟩ := hPD
          exact endWs [[false, true, true, true, true, true, true, true, true, true, true, true, true, true, true, true, true, true, true, true, true, true, true, true, true, true, true, true, true], [true]] hx hb hr hlocks rfl hP hD rfl (by decide +kernel) hS ⟨tX_28, fX_20, rfl, h_29.1, trivial⟩ (g_172 bX6_aloud rfl)
      · refine lv_if_ne (tgt := 43) hx hb dX6_aloud_33 (by decide +kernel) (fun h9 => absurd (by decide +kernel) h9) (fun _ => ?_)
        refine lv_aload_n hx hb (g_42 bX6_aloud rfl) rfl (lv_at hl 0 rfl) ?_
        refine lv_bipush (v := (-2)) hx hb dX6_aloud_37 (by decide +kernel) ?_
        refine cVi (As := [.int (-2)]) (rest := []) (b := qm) (q := (RX6, TX6, 35)) ⟨hx, hb, hml, hown, hts⟩ (c_X6_refuse2 l G cy (s.heap).size qm (.ref qmh) (.ref qmo) (.ref qmz) (.ref qmR) (.ref qmv) (.ref qmk) (.ref qma) (.ref qmt) (.int (nI kZ)) qmr tA qmB qmO qmK iEn iTk (ov uP) (ov uU) (.int (nI kAt)) (.int iTo) (.int iFr) (.long JFi) (.int iFa) (.ref qm3) (.int iSt) iLv iWs vLa (.ref qmu) (.ref qmy) (.ref qmb) (.ref qms) (.int iOm) fMr) L_X6_91 hN hP hD hS hA [0, 28] [false, true, true, true, true, true, true, true, true, true, true, true, true, true, true, true, true, true, true, true, true, true, true, true, true, true, true, true, false] rfl (by decide +kernel) rfl 0 5 rfl rfl rfl ⟨Nat.le_of_ble_eq_true rfl, Nat.le_of_ble_eq_true rfl⟩ hl.1 (Nat.le_of_ble_eq_true rfl) (g_182 (v := 91) bX6_aloud rfl) ⟨Nat.le_of_ble_eq_true rfl, Nat.le_of_ble_eq_true rfl⟩ (fun r_31 u_33 H locs h_32 => ?_)
        clear hP hD hS
        intro hP hD hS
        obtain ⟨fX_34, hu9, h_32⟩ := h_32
        have hPD := pd_eq [_, _, _, _, _, _, _, _, _, _, _, _, _, _, _, _, _, _, _, _, _, _, _, _, _, _, _, _, zzI cy qmr 8 fX_34] hP hD hu9 rfl
        clear hP hD hu9
        obtain ⟨hP, hD⟩ := hPD
        subst h_32
        exact endWs [[false, false, false, false, false, false, false, false, false, false, false, false, false, false, false, false, false, false, false, false, false, false, false, false, false, false, false, true], [true, true, true, true, true, true, true, true, true, true, true, true, true, true, true, true, true, true, true, true, true, true, true, true, true, true, true, false, true]] hx hb hr hlocks rfl hP hD rfl (by decide +kernel) hS ⟨tA, fX_34, rfl, hTI, trivial⟩ (g_172 bX6_aloud rfl)
    · refine lv_if_eq (tgt := 36) hx hb dX6_aloud_15 (by decide +kernel) (fun _ => ?_) (fun h9 => absurd (by decide +kernel) h9)
      refine lv_aload_n hx hb (g_42 bX6_aloud rfl) rfl (lv_at hl 0 rfl) ?_
      refine lv_bipush (v := (-2)) hx hb dX6_aloud_37 (by decide +kernel) ?_
      refine cVi (As := [.int (-2)]) (rest := []) (b := qm) (q := (RX6, TX6, 35)) ⟨hx, hb, hml, hown, hts⟩ (c_X6_refuse2 l G cy (s.heap).size qm (.ref qmh) (.ref qmo) (.ref qmz) (.ref qmR) (.ref qmv) (.ref qmk) (.ref qma) (.ref qmt) (.int (nI kZ)) qmr tA qmB qmO qmK iEn iTk (ov uP) (ov uU) (.int (nI kAt)) (.int iTo) (.int iFr) (.long JFi) (.int iFa) (.ref qm3) (.int iSt) iLv iWs vLa (.ref qmu) (.ref qmy) (.ref qmb) (.ref qms) (.int iOm) fMr) L_X6_91 hN hP hD hS hA [0, 28] [false, true, true, true, true, true, true, true, true, true, true, true, true, true, true, true, true, true, true, true, true, true, true, true, true, true, true, true, false] rfl (by decide +kernel) rfl 0 5 rfl rfl rfl ⟨Nat.le_of_ble_eq_true rfl, Nat.le_of_ble_eq_true rfl⟩ hl.1 (Nat.le_of_ble_eq_true rfl) (g_182 (v := 91) bX6_aloud rfl) ⟨Nat.le_of_ble_eq_true rfl, Nat.le_of_ble_eq_true rfl⟩ (fun r_36 u_38 H locs h_37 => ?_)
      clear hP hD hS
      intro hP hD hS
      obtain ⟨fX_39, hu9, h_37⟩ := h_37
      have hPD := pd_eq [_, _, _, _, _, _, _, _, _, _, _, _, _, _, _, _, _, _, _, _, _, _, _, _, _, _, _, _, zzI cy qmr 8 fX_39] hP hD hu9 rfl
      clear hP hD hu9
      obtain ⟨hP, hD⟩ := hPD
      subst h_37
      exact endWs [[false, false, false, false, false, false, false, false, false, false, false, false, false, false, false, false, false, false, false, false, false, false, false, false, false, false, false, true], [true, true, true, true, true, true, true, true, true, true, true, true, true, true, true, true, true, true, true, true, true, true, true, true, true, true, true, false, true]] hx hb hr hlocks rfl hP hD rfl (by decide +kernel) hS ⟨tA, fX_39, rfl, hTI, trivial⟩ (g_172 bX6_aloud rfl)
  · refine lv_if_eq (tgt := 36) hx hb dX6_aloud_6 (by decide +kernel) (fun _ => ?_) (fun h9 => absurd (by decide +kernel) h9)
    refine lv_aload_n hx hb (g_42 bX6_aloud rfl) rfl (lv_at hl 0 rfl) ?_
    refine lv_bipush (v := (-2)) hx hb dX6_aloud_37 (by decide +kernel) ?_
    refine cVi (As := [.int (-2)]) (rest := []) (b := qm) (q := (RX6, TX6, 35)) ⟨hx, hb, hml, hown, hts⟩ (c_X6_refuse2 l G cy (s.heap).size qm (.ref qmh) (.ref qmo) (.ref qmz) (.ref qmR) (.ref qmv) (.ref qmk) (.ref qma) (.ref qmt) (.int (nI kZ)) qmr tA qmB qmO qmK iEn iTk (ov uP) (ov uU) (.int (nI kAt)) (.int iTo) (.int iFr) (.long JFi) (.int iFa) (.ref qm3) (.int iSt) iLv iWs vLa (.ref qmu) (.ref qmy) (.ref qmb) (.ref qms) (.int iOm) fMr) L_X6_91 hN hP hD hS hA [0, 28] [false, true, true, true, true, true, true, true, true, true, true, true, true, true, true, true, true, true, true, true, true, true, true, true, true, true, true, true, false] rfl (by decide +kernel) rfl 0 5 rfl rfl rfl ⟨Nat.le_of_ble_eq_true rfl, Nat.le_of_ble_eq_true rfl⟩ hl.1 (Nat.le_of_ble_eq_true rfl) (g_182 (v := 91) bX6_aloud rfl) ⟨Nat.le_of_ble_eq_true rfl, Nat.le_of_ble_eq_true rfl⟩ (fun r_41 u_43 H locs h_42 => ?_)
    clear hP hD hS
    intro hP hD hS
    obtain ⟨fX_44, hu9, h_42⟩ := h_42
    have hPD := pd_eq [_, _, _, _, _, _, _, _, _, _, _, _, _, _, _, _, _, _, _, _, _, _, _, _, _, _, _, _, zzI cy qmr 8 fX_44] hP hD hu9 rfl
    clear hP hD hu9
    obtain ⟨hP, hD⟩ := hPD
    subst h_42
    exact endWs [[false, false, false, false, false, false, false, false, false, false, false, false, false, false, false, false, false, false, false, false, false, false, false, false, false, false, false, true], [true, true, true, true, true, true, true, true, true, true, true, true, true, true, true, true, true, true, true, true, true, true, true, true, true, true, true, false, true]] hx hb hr hlocks rfl hP hD rfl (by decide +kernel) hS ⟨tA, fX_44, rfl, hTI, trivial⟩ (g_172 bX6_aloud rfl)
set_option maxHeartbeats 4000000 in
set_option maxRecDepth 100000 in
theorem p_X6_tell (l : Launch) (G : va_G) (cy : Nat → ClassId) (sz : Nat) (qm : Nat) (qmh : Nat) (qmo : Nat) (qmz : Nat) (qmR : Nat) (qmv : Nat) (qmk : Nat) (qma : Nat) (qmt : Nat) (kZ : Nat) (qmr : Nat) (tA : TA) (qmB : Nat) (qmO : Nat) (qmK : Nat) (iEn : Int32) (iTk : Int32) (uP : UM) (uU : UM) (kAt : Nat) (iTo : Int32) (iFr : Int32) (JFi : Int64) (iFa : Int32) (qm3 : Nat) (iSt : Int32) (iLv : Int32) (iWs : Int32) (vLa : Value) (qmu : Nat) (qmy : Nat) (qmb : Nat) (qms : Nat) (iOm : Int32) (rB : Nat → Nat) (rO : Nat → Nat) (rK : Nat → Nat) (fMr : Nat → Int32) (iA : Int32) (iB : Int32) (iC : Int32)  (hB : T_nb tA ≤ 8) (hPp : T_np tA ≤ 8) (hTI : TI tA) : MW l yX6_tell cX6_tell 5 (some .int) 16 0 0 G cy [zzO qm 5 (.ref qmh :: .ref qmo :: .ref qmz :: .ref qmR :: .ref qmv :: .ref qmk :: .ref qma :: .ref qmt :: .int (nI kZ) :: .ref qmr :: .int (nI (T_nb tA)) :: .ref qmB :: .int (nI (T_np tA)) :: .ref qmO :: .ref qmK :: .int iEn :: .int iTk :: .int (T_sd tA) :: ov uP :: ov uU :: .int (nI kAt) :: .int iTo :: .int iFr :: .long JFi :: .int iFa :: .ref qm3 :: .int iSt :: .int iLv :: .int iWs :: vLa :: .ref qmu :: .ref qmy :: .ref qmb :: .ref qms :: .int iOm :: []), zzG cy 3 qmB rB, zzI cy (rB 0) 4 (bkR tA 0), zzI cy (rB 1) 4 (bkR tA 1), zzI cy (rB 2) 4 (bkR tA 2), zzI cy (rB 3) 4 (bkR tA 3), zzI cy (rB 4) 4 (bkR tA 4), zzI cy (rB 5) 4 (bkR tA 5), zzI cy (rB 6) 4 (bkR tA 6), zzI cy (rB 7) 4 (bkR tA 7), zzG cy 3 qmO rO, zzI cy (rO 0) 5 (onR tA 0), zzI cy (rO 1) 5 (onR tA 1), zzI cy (rO 2) 5 (onR tA 2), zzI cy (rO 3) 5 (onR tA 3), zzI cy (rO 4) 5 (onR tA 4), zzI cy (rO 5) 5 (onR tA 5), zzI cy (rO 6) 5 (onR tA 6), zzI cy (rO 7) 5 (onR tA 7), zzG cy 3 qmK rK, zzI cy (rK 0) 8 (T_kn tA 0), zzI cy (rK 1) 8 (T_kn tA 1), zzI cy (rK 2) 8 (T_kn tA 2), zzI cy (rK 3) 8 (T_kn tA 3), zzI cy (rK 4) 8 (T_kn tA 4), zzI cy (rK 5) 8 (T_kn tA 5), zzI cy (rK 6) 8 (T_kn tA 6), zzI cy (rK 7) 8 (T_kn tA 7), zzI cy qmr 8 fMr] sz [.ref qm, .int iA, .int iB, .int iC] (Wi G (fun r u => ∃ (tN : TA) (fNr : Nat → Int32), u = [zzO qm 5 (.ref qmh :: .ref qmo :: .ref qmz :: .ref qmR :: .ref qmv :: .ref qmk :: .ref qma :: .ref qmt :: .int (nI kZ) :: .ref qmr :: .int (nI (T_nb tN)) :: .ref qmB :: .int (nI (T_np tN)) :: .ref qmO :: .ref qmK :: .int iEn :: .int iTk :: .int (T_sd tN) :: ov uP :: ov uU :: .int (nI kAt) :: .int iTo :: .int iFr :: .long JFi :: .int iFa :: .ref qm3 :: .int iSt :: .int iLv :: .int iWs :: vLa :: .ref qmu :: .ref qmy :: .ref qmb :: .ref qms :: .int iOm :: []), zzG cy 3 qmB rB, zzI cy (rB 0) 4 (bkR tN 0), zzI cy (rB 1) 4 (bkR tN 1), zzI cy (rB 2) 4 (bkR tN 2), zzI cy (rB 3) 4 (bkR tN 3), zzI cy (rB 4) 4 (bkR tN 4), zzI cy (rB 5) 4 (bkR tN 5), zzI cy (rB 6) 4 (bkR tN 6), zzI cy (rB 7) 4 (bkR tN 7), zzG cy 3 qmO rO, zzI cy (rO 0) 5 (onR tN 0), zzI cy (rO 1) 5 (onR tN 1), zzI cy (rO 2) 5 (onR tN 2), zzI cy (rO 3) 5 (onR tN 3), zzI cy (rO 4) 5 (onR tN 4), zzI cy (rO 5) 5 (onR tN 5), zzI cy (rO 6) 5 (onR tN 6), zzI cy (rO 7) 5 (onR tN 7), zzG cy 3 qmK rK, zzI cy (rK 0) 8 (T_kn tN 0), zzI cy (rK 1) 8 (T_kn tN 1), zzI cy (rK 2) 8 (T_kn tN 2), zzI cy (rK 3) 8 (T_kn tN 3), zzI cy (rK 4) 8 (T_kn tN 4), zzI cy (rK 5) 8 (T_kn tN 5), zzI cy (rK 6) 8 (T_kn tN 6), zzI cy (rK 7) 8 (T_kn tN 7), zzI cy qmr 8 fNr] ∧ (TI tN) ∧ (True))) := by
  refine enW RX6 (by decide +kernel) rfl (Nat.le_of_ble_eq_true rfl) (fun p e s m below meth c ls A hx hb hml hown hts hr hlocks hP hN hl hin hD hA hS => ?_)
  have hin : meth.name = _ := hin
  have hK := hN.1
  replace hl : lv_has ls 5 [(0, .ref qm), (1, .int iA), (2, .int iB), (3, .int iC)] := hl
  refine lv_aload_n hx hb (g_42 bX6_tell rfl) rfl (lv_at hl 0 rfl) ?_
  refine lv_iload_n hx hb (g_27 bX6_tell rfl) rfl (lv_at hl 1 rfl) ?_
  refine lv_i2l (v := iA.toInt64) hx hb (g_133 bX6_tell rfl) rfl ?_
  refine kRi (rV (As := [.long iA.toInt64]) (rest := []) (b := qm) ⟨hx, hb, hml, hown, hts⟩ (c_X6_isOne l G cy qm (.ref qmh) (.ref qmo) (.ref qmz) (.ref qmR) (.ref qmv) (.ref qmk) (.ref qma) (.ref qmt) (.int (nI kZ)) (.ref qmr) tA qmB qmO qmK iEn iTk (ov uP) (ov uU) (.int (nI kAt)) (.int iTo) (.int iFr) (.long JFi) (.int iFa) (.ref qm3) (.int iSt) iLv iWs vLa (.ref qmu) (.ref qmy) (.ref qmb) (.ref qms) (.int iOm) iA hPp) L_X6_236 (preRV (q := (RX6, TX6, 35)) hN hP [0] rfl 0 5 rfl rfl) rfl ⟨Nat.le_of_ble_eq_true rfl, Nat.le_of_ble_eq_true rfl⟩ hl.1 (Nat.le_of_ble_eq_true rfl) (g_182 (v := 236) bX6_tell rfl) ⟨Nat.le_of_ble_eq_true rfl, Nat.le_of_ble_eq_true rfl⟩) (fun r_1 h_2 => ?_)
  rcases h_2 with ⟨rfl, h_3⟩ | ⟨rfl, h_3⟩
  · obtain ⟨k_4, hk_5, rfl⟩ := h_3
    refine lv_if_eq (tgt := 32) hx hb dX6_tell_6 (by decide +kernel) (fun h9 => absurd h9 (by decide +kernel)) (fun _ => ?_)
    refine lv_aload_n hx hb (g_42 bX6_tell rfl) rfl (lv_at hl 0 rfl) ?_
    refine lv_iload_n hx hb (g_28 bX6_tell rfl) rfl (lv_at hl 2 rfl) ?_
    refine lv_i2l (v := iB.toInt64) hx hb (g_133 bX6_tell rfl) rfl ?_
    refine kRi (rV (As := [.long iB.toInt64]) (rest := []) (b := qm) ⟨hx, hb, hml, hown, hts⟩ (c_X6_isOne l G cy qm (.ref qmh) (.ref qmo) (.ref qmz) (.ref qmR) (.ref qmv) (.ref qmk) (.ref qma) (.ref qmt) (.int (nI kZ)) (.ref qmr) tA qmB qmO qmK iEn iTk (ov uP) (ov uU) (.int (nI kAt)) (.int iTo) (.int iFr) (.long JFi) (.int iFa) (.ref qm3) (.int iSt) iLv iWs vLa (.ref qmu) (.ref qmy) (.ref qmb) (.ref qms) (.int iOm) iB hPp) L_X6_236 (preRV (q := (RX6, TX6, 35)) hN hP [0] rfl 0 5 rfl rfl) rfl ⟨Nat.le_of_ble_eq_true rfl, Nat.le_of_ble_eq_true rfl⟩ hl.1 (Nat.le_of_ble_eq_true rfl) (g_182 (v := 236) bX6_tell rfl) ⟨Nat.le_of_ble_eq_true rfl, Nat.le_of_ble_eq_true rfl⟩) (fun r_7 h_8 => ?_)
    rcases h_8 with ⟨rfl, h_9⟩ | ⟨rfl, h_9⟩
    · obtain ⟨k_10, hk_11, rfl⟩ := h_9
      refine lv_if_eq (tgt := 32) hx hb dX6_tell_15 (by decide +kernel) (fun h9 => absurd h9 (by decide +kernel)) (fun _ => ?_)
      refine lv_iload_n hx hb (g_27 bX6_tell rfl) rfl (lv_at hl 1 rfl) ?_
      refine lv_iload_n hx hb (g_28 bX6_tell rfl) rfl (lv_at hl 2 rfl) ?_
      refine lv_icmp_eq (tgt := 32) hx hb dX6_tell_20 (by decide +kernel) (fun c_13 => ?_) (fun c_13 => ?_)
      · refine lv_aload_n hx hb (g_42 bX6_tell rfl) rfl (lv_at hl 0 rfl) ?_
        refine lv_bipush (v := (-2)) hx hb dX6_tell_33 (by decide +kernel) ?_
        refine cVi (As := [.int (-2)]) (rest := []) (b := qm) (q := (RX6, TX6, 35)) ⟨hx, hb, hml, hown, hts⟩ (c_X6_refuse2 l G cy (s.heap).size qm (.ref qmh) (.ref qmo) (.ref qmz) (.ref qmR) (.ref qmv) (.ref qmk) (.ref qma) (.ref qmt) (.int (nI kZ)) qmr tA qmB qmO qmK iEn iTk (ov uP) (ov uU) (.int (nI kAt)) (.int iTo) (.int iFr) (.long JFi) (.int iFa) (.ref qm3) (.int iSt) iLv iWs vLa (.ref qmu) (.ref qmy) (.ref qmb) (.ref qms) (.int iOm) fMr) L_X6_91 hN hP hD hS hA [0, 28] [false, true, true, true, true, true, true, true, true, true, true, true, true, true, true, true, true, true, true, true, true, true, true, true, true, true, true, true, false] rfl (by decide +kernel) rfl 0 5 rfl rfl rfl ⟨Nat.le_of_ble_eq_true rfl, Nat.le_of_ble_eq_true rfl⟩ hl.1 (Nat.le_of_ble_eq_true rfl) (g_182 (v := 91) bX6_tell rfl) ⟨Nat.le_of_ble_eq_true rfl, Nat.le_of_ble_eq_true rfl⟩ (fun r_14 u_16 H locs h_15 => ?_)
        clear hP hD hS
        intro hP hD hS
        obtain ⟨fX_17, hu9, h_15⟩ := h_15
        have hPD := pd_eq [_, _, _, _, _, _, _, _, _, _, _, _, _, _, _, _, _, _, _, _, _, _, _, _, _, _, _, _, zzI cy qmr 8 fX_17] hP hD hu9 rfl
        clear hP hD hu9
        obtain ⟨hP, hD⟩ := hPD
        subst h_15
        exact endWs [[false, false, false, false, false, false, false, false, false, false, false, false, false, false, false, false, false, false, false, false, false, false, false, false, false, false, false, true], [true, true, true, true, true, true, true, true, true, true, true, true, true, true, true, true, true, true, true, true, true, true, true, true, true, true, true, false, true]] hx hb hr hlocks rfl hP hD rfl (by decide +kernel) hS ⟨tA, fX_17, rfl, hTI, trivial⟩ (g_172 bX6_tell rfl)
      · refine lv_aload_n hx hb (g_42 bX6_tell rfl) rfl (lv_at hl 0 rfl) ?_
        refine lv_iload_n hx hb (g_29 bX6_tell rfl) rfl (lv_at hl 3 rfl) ?_
        refine lv_i2l (v := iC.toInt64) hx hb (g_133 bX6_tell rfl) rfl ?_
        refine kRi (rV (As := [.long iC.toInt64]) (rest := []) (b := qm) ⟨hx, hb, hml, hown, hts⟩ (c_X6_isBook l G cy qm (.ref qmh) (.ref qmo) (.ref qmz) (.ref qmR) (.ref qmv) (.ref qmk) (.ref qma) (.ref qmt) (.int (nI kZ)) (.ref qmr) tA qmB qmO qmK iEn iTk (ov uP) (ov uU) (.int (nI kAt)) (.int iTo) (.int iFr) (.long JFi) (.int iFa) (.ref qm3) (.int iSt) iLv iWs vLa (.ref qmu) (.ref qmy) (.ref qmb) (.ref qms) (.int iOm) iC hB) L_X6_229 (preRV (q := (RX6, TX6, 35)) hN hP [0] rfl 0 5 rfl rfl) rfl ⟨Nat.le_of_ble_eq_true rfl, Nat.le_of_ble_eq_true rfl⟩ hl.1 (Nat.le_of_ble_eq_true rfl) (g_182 (v := 229) bX6_tell rfl) ⟨Nat.le_of_ble_eq_true rfl, Nat.le_of_ble_eq_true rfl⟩) (fun r_18 h_19 => ?_)
        rcases h_19 with ⟨rfl, h_20⟩ | ⟨rfl, h_20⟩
        · obtain ⟨k_21, hk_22, rfl⟩ := h_20
          refine lv_if_ne (tgt := 39) hx hb dX6_tell_29 (by decide +kernel) (fun _ => ?_) (fun h9 => absurd h9 (by decide +kernel))
          refine lv_aload_n hx hb (g_42 bX6_tell rfl) rfl (lv_at hl 0 rfl) ?_
          refine lv_iload_n hx hb (g_27 bX6_tell rfl) rfl (lv_at hl 1 rfl) ?_
          refine kRi (rV (As := [.int (nI k_4)]) (rest := []) (b := qm) ⟨hx, hb, hml, hown, hts⟩ (c_X6_isThere l G cy qm (.ref qmh) (.ref qmo) (.ref qmz) (.ref qmR) (.ref qmv) (.ref qmk) (.ref qma) (.ref qmt) (.int (nI kZ)) (.ref qmr) tA qmB qmO qmK iEn iTk (ov uP) (ov uU) (.int (nI kAt)) (.int iTo) (.int iFr) (.long JFi) (.int iFa) (.ref qm3) (.int iSt) iLv iWs vLa (.ref qmu) (.ref qmy) (.ref qmb) (.ref qms) (.int iOm) rO k_4 (by first | omega | (simp only [nb_sr, np_sr, nb_wr, np_wr, nb_rd, np_rd, nb_ch, np_ch, nb_zr, np_zr, nb_za, np_za, nb_ey, np_ey, nb_hf, np_hf, nb_dd, np_dd, nb_so, np_so, nb_skn, np_skn, nb_swh, np_swh, nb_sgn, np_sgn, nb_ssd, np_ssd, nb_sgo, np_sgo, nb_sag, np_sag]; omega))) L_X6_81 (preRV (q := (RX6, TX6, 35)) hN hP (trueIx 0 [true, false, false, false, false, false, false, false, false, false, true, true, true, true, true, true, true, true, true]) (sel_fm rfl rfl) 0 5 rfl rfl) rfl ⟨Nat.le_of_ble_eq_true rfl, Nat.le_of_ble_eq_true rfl⟩ hl.1 (Nat.le_of_ble_eq_true rfl) (g_182 (v := 81) bX6_tell rfl) ⟨Nat.le_of_ble_eq_true rfl, Nat.le_of_ble_eq_true rfl⟩) (fun r_24 h_25 => ?_)
          rcases h_25 with ⟨rfl, h_26⟩ | ⟨rfl, h_26⟩
          · refine lv_if_eq (tgt := 55) hx hb dX6_tell_44 (by decide +kernel) (fun h9 => absurd h9 (by decide +kernel)) (fun _ => ?_)
            refine lv_aload_n hx hb (g_42 bX6_tell rfl) rfl (lv_at hl 0 rfl) ?_
            refine lv_iload_n hx hb (g_28 bX6_tell rfl) rfl (lv_at hl 2 rfl) ?_
            refine kRi (rV (As := [.int (nI k_10)]) (rest := []) (b := qm) ⟨hx, hb, hml, hown, hts⟩ (c_X6_isThere l G cy qm (.ref qmh) (.ref qmo) (.ref qmz) (.ref qmR) (.ref qmv) (.ref qmk) (.ref qma) (.ref qmt) (.int (nI kZ)) (.ref qmr) tA qmB qmO qmK iEn iTk (ov uP) (ov uU) (.int (nI kAt)) (.int iTo) (.int iFr) (.long JFi) (.int iFa) (.ref qm3) (.int iSt) iLv iWs vLa (.ref qmu) (.ref qmy) (.ref qmb) (.ref qms) (.int iOm) rO k_10 (by first | omega | (simp only [nb_sr, np_sr, nb_wr, np_wr, nb_rd, np_rd, nb_ch, np_ch, nb_zr, np_zr, nb_za, np_za, nb_ey, np_ey, nb_hf, np_hf, nb_dd, np_dd, nb_so, np_so, nb_skn, np_skn, nb_swh, np_swh, nb_sgn, np_sgn, nb_ssd, np_ssd, nb_sgo, np_sgo, nb_sag, np_sag]; omega))) L_X6_81 (preRV (q := (RX6, TX6, 35)) hN hP (trueIx 0 [true, false, false, false, false, false, false, false, false, false, true, true, true, true, true, true, true, true, true]) (sel_fm rfl rfl) 0 5 rfl rfl) rfl ⟨Nat.le_of_ble_eq_true rfl, Nat.le_of_ble_eq_true rfl⟩ hl.1 (Nat.le_of_ble_eq_true rfl) (g_182 (v := 81) bX6_tell rfl) ⟨Nat.le_of_ble_eq_true rfl, Nat.le_of_ble_eq_true rfl⟩) (fun r_28 h_29 => ?_)
            rcases h_29 with ⟨rfl, h_30⟩ | ⟨rfl, h_30⟩
            · refine lv_if_ne (tgt := 62) hx hb dX6_tell_52 (by decide +kernel) (fun _ => ?_) (fun h9 => absurd h9 (by decide +kernel))
              refine lv_aload_n hx hb (g_42 bX6_tell rfl) rfl (lv_at hl 0 rfl) ?_
              refine lv_iload_n hx hb (g_27 bX6_tell rfl) rfl (lv_at hl 1 rfl) ?_
              refine lv_iload_n hx hb (g_28 bX6_tell rfl) rfl (lv_at hl 2 rfl) ?_
              refine lv_iload_n hx hb (g_29 bX6_tell rfl) rfl (lv_at hl 3 rfl) ?_
              refine kRi (rV (As := [.int (nI k_4), .int (nI k_10), .int (nI k_21)]) (rest := []) (b := qm) ⟨hx, hb, hml, hown, hts⟩ (c_X6_moreBy l G cy qm (.ref qmh) (.ref qmo) (.ref qmz) (.ref qmR) (.ref qmv) (.ref qmk) (.ref qma) (.ref qmt) (.int (nI kZ)) (.ref qmr) tA qmB qmO qmK iEn iTk (ov uP) (ov uU) (.int (nI kAt)) (.int iTo) (.int iFr) (.long JFi) (.int iFa) (.ref qm3) (.int iSt) iLv iWs vLa (.ref qmu) (.ref qmy) (.ref qmb) (.ref qms) (.int iOm) rB rO rK k_4 k_10 k_21 (by first | omega | (simp only [nb_sr, np_sr, nb_wr, np_wr, nb_rd, np_rd, nb_ch, np_ch, nb_zr, np_zr, nb_za, np_za, nb_ey, np_ey, nb_hf, np_hf, nb_dd, np_dd, nb_so, np_so, nb_skn, np_skn, nb_swh, np_swh, nb_sgn, np_sgn, nb_ssd, np_ssd, nb_sgo, np_sgo, nb_sag, np_sag]; omega)) (by first | omega | (simp only [nb_sr, np_sr, nb_wr, np_wr, nb_rd, np_rd, nb_ch, np_ch, nb_zr, np_zr, nb_za, np_za, nb_ey, np_ey, nb_hf, np_hf, nb_dd, np_dd, nb_so, np_so, nb_skn, np_skn, nb_swh, np_swh, nb_sgn, np_sgn, nb_ssd, np_ssd, nb_sgo, np_sgo, nb_sag, np_sag]; omega)) (by first | omega | (simp only [nb_sr, np_sr, nb_wr, np_wr, nb_rd, np_rd, nb_ch, np_ch, nb_zr, np_zr, nb_za, np_za, nb_ey, np_ey, nb_hf, np_hf, nb_dd, np_dd, nb_so, np_so, nb_skn, np_skn, nb_swh, np_swh, nb_sgn, np_sgn, nb_ssd, np_ssd, nb_sgo, np_sgo, nb_sag, np_sag]; omega)) hTI) L_X6_263 (preRV (q := (RX6, TX6, 35)) hN hP (trueIx 0 [true, true, true, true, true, true, true, true, true, true, true, true, true, true, true, true, true, true, true, true, true, true, true, true, true, true, true, true]) (sel_fm rfl rfl) 0 5 rfl rfl) rfl ⟨Nat.le_of_ble_eq_true rfl, Nat.le_of_ble_eq_true rfl⟩ hl.1 (Nat.le_of_ble_eq_true rfl) (g_182 (v := 263) bX6_tell rfl) ⟨Nat.le_of_ble_eq_true rfl, Nat.le_of_ble_eq_true rfl⟩) (fun r_32 h_33 => ?_)
              subst h_33
              refine lv_istore (lv' := [(4, .int (zgt tA k_4 k_10 k_21)), (0, .ref qm), (1, .int (nI k_4)), (2, .int (nI k_10)), (3, .int (nI k_21))]) hx hb (g_54 (v := 4) bX6_tell rfl) hl (by decide +kernel) rfl (fun ls => ?_)
              clear hl
              intro hl
              refine lv_aload_n hx hb (g_42 bX6_tell rfl) rfl (lv_at hl 1 rfl) ?_
              refine va_get (D := G) (ci := 5) (v := .ref qmK) (C := RX6) (T := TX6) (N := 35) hx hb hts iX_X6 hown hK hP 0 rfl rfl 14 (by decide +kernel) (hts _ m_t864) (fun _ h9 => h9) rfl (g_180 (v := 48) bX6_tell rfl) ?_
              refine lv_iload_n hx hb (g_28 bX6_tell rfl) rfl (lv_at hl 3 rfl) ?_
              refine va_alda hx hb hK hP 19 3 rfl rfl (in8 (by omega)) (g_50 bX6_tell rfl) ?_
              refine lv_setv (v := .ref (rK k_10)) (g_ref (by omega)) ?_
              refine lv_iload_n hx hb (g_29 bX6_tell rfl) rfl (lv_at hl 4 rfl) ?_
              refine lv_dup2_11 hx hb (g_92 bX6_tell rfl) rfl rfl ?_
              refine va_iald hx hb hK hP (20 + k_10) 0 (sg8 (n0 := 20) (f := (fun j => zzI cy (rK j) 8 (T_kn tA j))) rfl rfl rfl rfl rfl rfl rfl rfl k_10 (by omega)) rfl (vp_in_nI (by omega) (by omega)) (g_46 bX6_tell rfl) ?_
              refine lv_seti (v := T_kn tA k_10 k_21) (congrArg (T_kn tA k_10) (nI_clamp (by omega))) ?_
              refine lv_iload hx hb (g_21 (v := 4) bX6_tell rfl) (lv_at hl 0 rfl) ?_
              refine lv_iadd hx hb (g_96 bX6_tell rfl) ?_
              refine va_iast hx hb hK hP hD hS (20 + k_10) 0 ((sg8 (n0 := 20) (f := (fun j => zzI cy (rK j) 8 (T_kn tA j))) rfl rfl rfl rfl rfl rfl rfl rfl) k_10 (by omega)) rfl (vp_in_nI (by omega) (by omega)) (g_79 bX6_tell rfl) (fun H locs => ?_)
              clear hP hD hS
              intro hP hD hS
              rw [nI_clamp (n := k_21) (by omega)] at hP hD
              have hPD := st8PD (ws' := [zzO qm 5 (.ref qmh :: .ref qmo :: .ref qmz :: .ref qmR :: .ref qmv :: .ref qmk :: .ref qma :: .ref qmt :: .int (nI kZ) :: .ref qmr :: .int (nI (T_nb (T_setkn tA (updM (T_kn tA) k_10 k_21 ((T_kn tA k_10 k_21) + (zgt tA k_4 k_10 k_21)))))) :: .ref qmB :: .int (nI (T_np (T_setkn tA (updM (T_kn tA) k_10 k_21 ((T_kn tA k_10 k_21) + (zgt tA k_4 k_10 k_21)))))) :: .ref qmO :: .ref qmK :: .int iEn :: .int iTk :: .int (T_sd (T_setkn tA (updM (T_kn tA) k_10 k_21 ((T_kn tA k_10 k_21) + (zgt tA k_4 k_10 k_21))))) :: ov uP :: ov uU :: .int (nI kAt) :: .int iTo :: .int iFr :: .long JFi :: .int iFa :: .ref qm3 :: .int iSt :: .int iLv :: .int iWs :: vLa :: .ref qmu :: .ref qmy :: .ref qmb :: .ref qms :: .int iOm :: []), zzG cy 3 qmB rB, zzI cy (rB 0) 4 (bkR (T_setkn tA (updM (T_kn tA) k_10 k_21 ((T_kn tA k_10 k_21) + (zgt tA k_4 k_10 k_21)))) 0), zzI cy (rB 1) 4 (bkR (T_setkn tA (updM (T_kn tA) k_10 k_21 ((T_kn tA k_10 k_21) + (zgt tA k_4 k_10 k_21)))) 1), zzI cy (rB 2) 4 (bkR (T_setkn tA (updM (T_kn tA) k_10 k_21 ((T_kn tA k_10 k_21) + (zgt tA k_4 k_10 k_21)))) 2), zzI cy (rB 3) 4 (bkR (T_setkn tA (updM (T_kn tA) k_10 k_21 ((T_kn tA k_10 k_21) + (zgt tA k_4 k_10 k_21)))) 3), zzI cy (rB 4) 4 (bkR (T_setkn tA (updM (T_kn tA) k_10 k_21 ((T_kn tA k_10 k_21) + (zgt tA k_4 k_10 k_21)))) 4), zzI cy (rB 5) 4 (bkR (T_setkn tA (updM (T_kn tA) k_10 k_21 ((T_kn tA k_10 k_21) + (zgt tA k_4 k_10 k_21)))) 5), zzI cy (rB 6) 4 (bkR (T_setkn tA (updM (T_kn tA) k_10 k_21 ((T_kn tA k_10 k_21) + (zgt tA k_4 k_10 k_21)))) 6), zzI cy (rB 7) 4 (bkR (T_setkn tA (updM (T_kn tA) k_10 k_21 ((T_kn tA k_10 k_21) + (zgt tA k_4 k_10 k_21)))) 7), zzG cy 3 qmO rO, zzI cy (rO 0) 5 (onR (T_setkn tA (updM (T_kn tA) k_10 k_21 ((T_kn tA k_10 k_21) + (zgt tA k_4 k_10 k_21)))) 0), zzI cy (rO 1) 5 (onR (T_setkn tA (updM (T_kn tA) k_10 k_21 ((T_kn tA k_10 k_21) + (zgt tA k_4 k_10 k_21)))) 1), zzI cy (rO 2) 5 (onR (T_setkn tA (updM (T_kn tA) k_10 k_21 ((T_kn tA k_10 k_21) + (zgt tA k_4 k_10 k_21)))) 2), zzI cy (rO 3) 5 (onR (T_setkn tA (updM (T_kn tA) k_10 k_21 ((T_kn tA k_10 k_21) + (zgt tA k_4 k_10 k_21)))) 3), zzI cy (rO 4) 5 (onR (T_setkn tA (updM (T_kn tA) k_10 k_21 ((T_kn tA k_10 k_21) + (zgt tA k_4 k_10 k_21)))) 4), zzI cy (rO 5) 5 (onR (T_setkn tA (updM (T_kn tA) k_10 k_21 ((T_kn tA k_10 k_21) + (zgt tA k_4 k_10 k_21)))) 5), zzI cy (rO 6) 5 (onR (T_setkn tA (updM (T_kn tA) k_10 k_21 ((T_kn tA k_10 k_21) + (zgt tA k_4 k_10 k_21)))) 6), zzI cy (rO 7) 5 (onR (T_setkn tA (updM (T_kn tA) k_10 k_21 ((T_kn tA k_10 k_21) + (zgt tA k_4 k_10 k_21)))) 7), zzG cy 3 qmK rK, zzI cy (rK 0) 8 (T_kn (T_setkn tA (updM (T_kn tA) k_10 k_21 ((T_kn tA k_10 k_21) + (zgt tA k_4 k_10 k_21)))) 0), zzI cy (rK 1) 8 (T_kn (T_setkn tA (updM (T_kn tA) k_10 k_21 ((T_kn tA k_10 k_21) + (zgt tA k_4 k_10 k_21)))) 1), zzI cy (rK 2) 8 (T_kn (T_setkn tA (updM (T_kn tA) k_10 k_21 ((T_kn tA k_10 k_21) + (zgt tA k_4 k_10 k_21)))) 2), zzI cy (rK 3) 8 (T_kn (T_setkn tA (updM (T_kn tA) k_10 k_21 ((T_kn tA k_10 k_21) + (zgt tA k_4 k_10 k_21)))) 3), zzI cy (rK 4) 8 (T_kn (T_setkn tA (updM (T_kn tA) k_10 k_21 ((T_kn tA k_10 k_21) + (zgt tA k_4 k_10 k_21)))) 4), zzI cy (rK 5) 8 (T_kn (T_setkn tA (updM (T_kn tA) k_10 k_21 ((T_kn tA k_10 k_21) + (zgt tA k_4 k_10 k_21)))) 5), zzI cy (rK 6) 8 (T_kn (T_setkn tA (updM (T_kn tA) k_10 k_21 ((T_kn tA k_10 k_21) + (zgt tA k_4 k_10 k_21)))) 6), zzI cy (rK 7) 8 (T_kn (T_setkn tA (updM (T_kn tA) k_10 k_21 ((T_kn tA k_10 k_21) + (zgt tA k_4 k_10 k_21)))) 7), zzI cy qmr 8 fMr]) (k := k_10) (g1 := T_kn (T_setkn tA (updM (T_kn tA) k_10 k_21 ((T_kn tA k_10 k_21) + (zgt tA k_4 k_10 k_21)))) k_10) hP hD (sg8 (n0 := 20) (f := (fun j => zzI cy (rK j) 8 (T_kn tA j))) rfl rfl rfl rfl rfl rfl rfl rfl) (sg8 (n0 := 20) (f := (fun j => zzI cy (rK j) 8 (T_kn (T_setkn tA (updM (T_kn tA) k_10 k_21 ((T_kn tA k_10 k_21) + (zgt tA k_4 k_10 k_21)))) j))) rfl rfl rfl rfl rfl rfl rfl rfl) rfl rfl (by omega) rfl (fun i _ => (congrFun (kn_u tA k_10 k_21 ((T_kn tA k_10 k_21) + (zgt tA k_4 k_10 k_21))) i).symm) (fun j hj => congrArg (zzI cy (rK j) 8) (kn_n tA k_10 k_21 ((T_kn tA k_10 k_21) + (zgt tA k_4 k_10 k_21)) hj))
              clear hP hD
              obtain ⟨hP, hD⟩ := hPD
              refine lv_iload hx hb (g_21 (v := 4) bX6_tell rfl) (lv_at hl 0 rfl) ?_
              exact endWs [[true, true, true, true, true, true, true, true, true, true, true, true, true, true, true, true, true, true, true, true, true, true, true, true, true, true, true, true, true]] hx hb hr hlocks rfl hP hD rfl (by decide +kernel) hS ⟨(T_setkn tA (updM (T_kn tA) k_10 k_21 ((T_kn tA k_10 k_21) + (zgt tA k_4 k_10 k_21)))), fMr, rfl, TI_tl hTI _ _ _, trivial⟩ (g_172 bX6_tell rfl)
            · refine lv_if_ne (tgt := 62) hx hb dX6_tell_52 (by decide +kernel) (fun h9 => absurd (by decide +kernel) h9) (fun _ => ?_)
              refine lv_aload_n hx hb (g_42 bX6_tell rfl) rfl (lv_at hl 0 rfl) ?_
              refine lv_bipush (v := (-5)) hx hb dX6_tell_56 (by decide +kernel) ?_
              refine cVi (As := [.int (-5)]) (rest := []) (b := qm) (q := (RX6, TX6, 35)) ⟨hx, hb, hml, hown, hts⟩ (c_X6_refuse5 l G cy (s.heap).size qm (.ref qmh) (.ref qmo) (.ref qmz) (.ref qmR) (.ref qmv) (.ref qmk) (.ref qma) (.ref qmt) (.int (nI kZ)) qmr tA qmB qmO qmK iEn iTk (ov uP) (ov uU) (.int (nI kAt)) (.int iTo) (.int iFr) (.long JFi) (.int iFa) (.ref qm3) (.int iSt) iLv iWs vLa (.ref qmu) (.ref qmy) (.ref qmb) (.ref qms) (.int iOm) fMr) L_X6_91 hN hP hD hS hA [0, 28] [false, true, true, true, true, true, true, true, true, true, true, true, true, true, true, true, true, true, true, true, true, true, true, true, true, true, true, true, false] rfl (by decide +kernel) rfl 0 5 rfl rfl rfl ⟨Nat.le_of_ble_eq_true rfl, Nat.le_of_ble_eq_true rfl⟩ hl.1 (Nat.le_of_ble_eq_true rfl) (g_182 (v := 91) bX6_tell rfl) ⟨Nat.le_of_ble_eq_true rfl, Nat.le_of_ble_eq_true rfl⟩ (fun r_35 u_37 H locs h_36 => ?_)
              clear hP hD hS
              intro hP hD hS
              obtain ⟨fX_38, hu9, h_36⟩ := h_36
              have hPD := pd_eq [_, _, _, _, _, _, _, _, _, _, _, _, _, _, _, _, _, _, _, _, _, _, _, _, _, _, _, _, zzI cy qmr 8 fX_38] hP hD hu9 rfl
              clear hP hD hu9
              obtain ⟨hP, hD⟩ := hPD
              subst h_36
              exact endWs [[false, false, false, false, false, false, false, false, false, false, false, false, false, false, false, false, false, false, false, false, false, false, false, false, false, false, false, true], [true, true, true, true, true, true, true, true, true, true, true, true, true, true, true, true, true, true, true, true, true, true, true, true, true, true, true, false, true]] hx hb hr hlocks rfl hP hD rfl (by decide +kernel) hS ⟨tA, fX_38, rfl, hTI, trivial⟩ (g_172 bX6_tell rfl)
          · refine lv_if_eq (tgt := 55) hx hb dX6_tell_44 (by decide +kernel) (fun _ => ?_) (fun h9 => absurd (by decide +kernel) h9)
            refine lv_aload_n hx hb (g_42 bX6_tell rfl) rfl (lv_at hl 0 rfl) ?_
            refine lv_bipush (v := (-5)) hx hb dX6_tell_56 (by decide +kernel) ?_
            refine cVi (As := [.int (-5)]) (rest := []) (b := qm) (q := (RX6, TX6, 35)) ⟨hx, hb, hml, hown, hts⟩ (c_X6_refuse5 l G cy (s.heap).size qm (.ref qmh) (.ref qmo) (.ref qmz) (.ref qmR) (.ref qmv) (.ref qmk) (.ref qma) (.ref qmt) (.int (nI kZ)) qmr tA qmB qmO qmK iEn iTk (ov uP) (ov uU) (.int (nI kAt)) (.int iTo) (.int iFr) (.long JFi) (.int iFa) (.ref qm3) (.int iSt) iLv iWs vLa (.ref qmu) (.ref qmy) (.ref qmb) (.ref qms) (.int iOm) fMr) L_X6_91 hN hP hD hS hA [0, 28] [false, true, true, true, true, true, true, true, true, true, true, true, true, true, true, true, true, true, true, true, true, true, true, true, true, true, true, true, false] rfl (by decide +kernel) rfl 0 5 rfl rfl rfl ⟨Nat.le_of_ble_eq_true rfl, Nat.le_of_ble_eq_true rfl⟩ hl.1 (Nat.le_of_ble_eq_true rfl) (g_182 (v := 91) bX6_tell rfl) ⟨Nat.le_of_ble_eq_true rfl, Nat.le_of_ble_eq_true rfl⟩ (fun r_40 u_42 H locs h_41 => ?_)
            clear hP hD hS
            intro hP hD hS
            obtain ⟨fX_43, hu9, h_41⟩ := h_41
            have hPD := pd_eq [_, _, _, _, _, _, _, _, _, _, _, _, _, _, _, _, _, _, _, _, _, _, _, _, _, _, _, _, zzI cy qmr 8 fX_43] hP hD hu9 rfl
            clear hP hD hu9
            obtain ⟨hP, hD⟩ := hPD
            subst h_41
            exact endWs [[false, false, false, false, false, false, false, false, false, false, false, false, false, false, false, false, false, false, false, false, false, false, false, false, false, false, false, true], [true, true, true, true, true, true, true, true, true, true, true, true, true, true, true, true, true, true, true, true, true, true, true, true, true, true, true, false, true]] hx hb hr hlocks rfl hP hD rfl (by decide +kernel) hS ⟨tA, fX_43, rfl, hTI, trivial⟩ (g_172 bX6_tell rfl)
        · refine lv_if_ne (tgt := 39) hx hb dX6_tell_29 (by decide +kernel) (fun h9 => absurd (by decide +kernel) h9) (fun _ => ?_)
          refine lv_aload_n hx hb (g_42 bX6_tell rfl) rfl (lv_at hl 0 rfl) ?_
          refine lv_bipush (v := (-2)) hx hb dX6_tell_33 (by decide +kernel) ?_
          refine cVi (As := [.int (-2)]) (rest := []) (b := qm) (q := (RX6, TX6, 35)) ⟨hx, hb, hml, hown, hts⟩ (c_X6_refuse2 l G cy (s.heap).size qm (.ref qmh) (.ref qmo) (.ref qmz) (.ref qmR) (.ref qmv) (.ref qmk) (.ref qma) (.ref qmt) (.int (nI kZ)) qmr tA qmB qmO qmK iEn iTk (ov uP) (ov uU) (.int (nI kAt)) (.int iTo) (.int iFr) (.long JFi) (.int iFa) (.ref qm3) (.int iSt) iLv iWs vLa (.ref qmu) (.ref qmy) (.ref qmb) (.ref qms) (.int iOm) fMr) L_X6_91 hN hP hD hS hA [0, 28] [false, true, true, true, true, true, true, true, true, true, true, true, true, true, true, true, true, true, true, true, true, true, true, true, true, true, true, true, false] rfl (by decide +kernel) rfl 0 5 rfl rfl rfl ⟨Nat.le_of_ble_eq_true rfl, Nat.le_of_ble_eq_true rfl⟩ hl.1 (Nat.le_of_ble_eq_true rfl) (g_182 (v := 91) bX6_tell rfl) ⟨Nat.le_of_ble_eq_true rfl, Nat.le_of_ble_eq_true rfl⟩ (fun r_45 u_47 H locs h_46 => ?_)
          clear hP hD hS
          intro hP hD hS
          obtain ⟨fX_48, hu9, h_46⟩ := h_46
          have hPD := pd_eq [_, _, _, _, _, _, _, _, _, _, _, _, _, _, _, _, _, _, _, _, _, _, _, _, _, _, _, _, zzI cy qmr 8 fX_48] hP hD hu9 rfl
          clear hP hD hu9
          obtain ⟨hP, hD⟩ := hPD
          subst h_46
          exact endWs [[false, false, false, false, false, false, false, false, false, false, false, false, false, false, false, false, false, false, false, false, false, false, false, false, false, false, false, true], [true, true, true, true, true, true, true, true, true, true, true, true, true, true, true, true, true, true, true, true, true, true, true, true, true, true, true, false, true]] hx hb hr hlocks rfl hP hD rfl (by decide +kernel) hS ⟨tA, fX_48, rfl, hTI, trivial⟩ (g_172 bX6_tell rfl)
    · refine lv_if_eq (tgt := 32) hx hb dX6_tell_15 (by decide +kernel) (fun _ => ?_) (fun h9 => absurd (by decide +kernel) h9)
      refine lv_aload_n hx hb (g_42 bX6_tell rfl) rfl (lv_at hl 0 rfl) ?_
      refine lv_bipush (v := (-2)) hx hb dX6_tell_33 (by decide +kernel) ?_
      refine cVi (As := [.int (-2)]) (rest := []) (b := qm) (q := (RX6, TX6, 35)) ⟨hx, hb, hml, hown, hts⟩ (c_X6_refuse2 l G cy (s.heap).size qm (.ref qmh) (.ref qmo) (.ref qmz) (.ref qmR) (.ref qmv) (.ref qmk) (.ref qma) (.ref qmt) (.int (nI kZ)) qmr tA qmB qmO qmK iEn iTk (ov uP) (ov uU) (.int (nI kAt)) (.int iTo) (.int iFr) (.long JFi) (.int iFa) (.ref qm3) (.int iSt) iLv iWs vLa (.ref qmu) (.ref qmy) (.ref qmb) (.ref qms) (.int iOm) fMr) L_X6_91 hN hP hD hS hA [0, 28] [false, true, true, true, true, true, true, true, true, true, true, true, true, true, true, true, true, true, true, true, true, true, true, true, true, true, true, true, false] rfl (by decide +kernel) rfl 0 5 rfl rfl rfl ⟨Nat.le_of_ble_eq_true rfl, Nat.le_of_ble_eq_true rfl⟩ hl.1 (Nat.le_of_ble_eq_true rfl) (g_182 (v := 91) bX6_tell rfl) ⟨Nat.le_of_ble_eq_true rfl, Nat.le_of_ble_eq_true rfl⟩ (fun r_50 u_52 H locs h_51 => ?_)
      clear hP hD hS
      intro hP hD hS
      obtain ⟨fX_53, hu9, h_51⟩ := h_51
      have hPD := pd_eq [_, _, _, _, _, _, _, _, _, _, _, _, _, _, _, _, _, _, _, _, _, _, _, _, _, _, _, _, zzI cy qmr 8 fX_53] hP hD hu9 rfl
      clear hP hD hu9
      obtain ⟨hP, hD⟩ := hPD
      subst h_51
      exact endWs [[false, false, false, false, false, false, false, false, false, false, false, false, false, false, false, false, false, false, false, false, false, false, false, false, false, false, false, true], [true, true, true, true, true, true, true, true, true, true, true, true, true, true, true, true, true, true, true, true, true, true, true, true, true, true, true, false, true]] hx hb hr hlocks rfl hP hD rfl (by decide +kernel) hS ⟨tA, fX_53, rfl, hTI, trivial⟩ (g_172 bX6_tell rfl)
  · refine lv_if_eq (tgt := 32) hx hb dX6_tell_6 (by decide +kernel) (fun _ => ?_) (fun h9 => absurd (by decide +kernel) h9)
    refine lv_aload_n hx hb (g_42 bX6_tell rfl) rfl (lv_at hl 0 rfl) ?_
    refine lv_bipush (v := (-2)) hx hb dX6_tell_33 (by decide +kernel) ?_
    refine cVi (As := [.int (-2)]) (rest := []) (b := qm) (q := (RX6, TX6, 35)) ⟨hx, hb, hml, hown, hts⟩ (c_X6_refuse2 l G cy (s.heap).size qm (.ref qmh) (.ref qmo) (.ref qmz) (.ref qmR) (.ref qmv) (.ref qmk) (.ref qma) (.ref qmt) (.int (nI kZ)) qmr tA qmB qmO qmK iEn iTk (ov uP) (ov uU) (.int (nI kAt)) (.int iTo) (.int iFr) (.long JFi) (.int iFa) (.ref qm3) (.int iSt) iLv iWs vLa (.ref qmu) (.ref qmy) (.ref qmb) (.ref qms) (.int iOm) fMr) L_X6_91 hN hP hD hS hA [0, 28] [false, true, true, true, true, true, true, true, true, true, true, true, true, true, true, true, true, true, true, true, true, true, true, true, true, true, true, true, false] rfl (by decide +kernel) rfl 0 5 rfl rfl rfl ⟨Nat.le_of_ble_eq_true rfl, Nat.le_of_ble_eq_true rfl⟩ hl.1 (Nat.le_of_ble_eq_true rfl) (g_182 (v := 91) bX6_tell rfl) ⟨Nat.le_of_ble_eq_true rfl, Nat.le_of_ble_eq_true rfl⟩ (fun r_55 u_57 H locs h_56 => ?_)
    clear hP hD hS
    intro hP hD hS
    obtain ⟨fX_58, hu9, h_56⟩ := h_56
    have hPD := pd_eq [_, _, _, _, _, _, _, _, _, _, _, _, _, _, _, _, _, _, _, _, _, _, _, _, _, _, _, _, zzI cy qmr 8 fX_58] hP hD hu9 rfl
    clear hP hD hu9
    obtain ⟨hP, hD⟩ := hPD
    subst h_56
    exact endWs [[false, false, false, false, false, false, false, false, false, false, false, false, false, false, false, false, false, false, false, false, false, false, false, false, false, false, false, true], [true, true, true, true, true, true, true, true, true, true, true, true, true, true, true, true, true, true, true, true, true, true, true, true, true, true, true, false, true]] hx hb hr hlocks rfl hP hD rfl (by decide +kernel) hS ⟨tA, fX_58, rfl, hTI, trivial⟩ (g_172 bX6_tell rfl)
set_option maxHeartbeats 4000000 in
set_option maxRecDepth 100000 in
theorem p_X6_teach (l : Launch) (G : va_G) (cy : Nat → ClassId) (sz : Nat) (qm : Nat) (qmh : Nat) (qmo : Nat) (qmz : Nat) (qmR : Nat) (qmv : Nat) (qmk : Nat) (qma : Nat) (qmt : Nat) (kZ : Nat) (qmr : Nat) (tA : TA) (qmB : Nat) (qmO : Nat) (qmK : Nat) (iEn : Int32) (iTk : Int32) (uP : UM) (uU : UM) (kAt : Nat) (iTo : Int32) (iFr : Int32) (JFi : Int64) (iFa : Int32) (qm3 : Nat) (iSt : Int32) (iLv : Int32) (iWs : Int32) (vLa : Value) (qmu : Nat) (qmy : Nat) (qmb : Nat) (qms : Nat) (iOm : Int32) (rB : Nat → Nat) (rO : Nat → Nat) (rK : Nat → Nat) (fMr : Nat → Int32) (iA : Int32) (iB : Int32)  (hB : T_nb tA ≤ 8) (hPp : T_np tA ≤ 8) (hTI : TI tA) : MW l yX6_teach cX6_teach 7 (some .int) 16 0 0 G cy [zzO qm 5 (.ref qmh :: .ref qmo :: .ref qmz :: .ref qmR :: .ref qmv :: .ref qmk :: .ref qma :: .ref qmt :: .int (nI kZ) :: .ref qmr :: .int (nI (T_nb tA)) :: .ref qmB :: .int (nI (T_np tA)) :: .ref qmO :: .ref qmK :: .int iEn :: .int iTk :: .int (T_sd tA) :: ov uP :: ov uU :: .int (nI kAt) :: .int iTo :: .int iFr :: .long JFi :: .int iFa :: .ref qm3 :: .int iSt :: .int iLv :: .int iWs :: vLa :: .ref qmu :: .ref qmy :: .ref qmb :: .ref qms :: .int iOm :: []), zzG cy 3 qmB rB, zzI cy (rB 0) 4 (bkR tA 0), zzI cy (rB 1) 4 (bkR tA 1), zzI cy (rB 2) 4 (bkR tA 2), zzI cy (rB 3) 4 (bkR tA 3), zzI cy (rB 4) 4 (bkR tA 4), zzI cy (rB 5) 4 (bkR tA 5), zzI cy (rB 6) 4 (bkR tA 6), zzI cy (rB 7) 4 (bkR tA 7), zzG cy 3 qmO rO, zzI cy (rO 0) 5 (onR tA 0), zzI cy (rO 1) 5 (onR tA 1), zzI cy (rO 2) 5 (onR tA 2), zzI cy (rO 3) 5 (onR tA 3), zzI cy (rO 4) 5 (onR tA 4), zzI cy (rO 5) 5 (onR tA 5), zzI cy (rO 6) 5 (onR tA 6), zzI cy (rO 7) 5 (onR tA 7), zzG cy 3 qmK rK, zzI cy (rK 0) 8 (T_kn tA 0), zzI cy (rK 1) 8 (T_kn tA 1), zzI cy (rK 2) 8 (T_kn tA 2), zzI cy (rK 3) 8 (T_kn tA 3), zzI cy (rK 4) 8 (T_kn tA 4), zzI cy (rK 5) 8 (T_kn tA 5), zzI cy (rK 6) 8 (T_kn tA 6), zzI cy (rK 7) 8 (T_kn tA 7), zzI cy qmr 8 fMr] sz [.ref qm, .int iA, .int iB] (Wi G (fun r u => ∃ (fNr : Nat → Int32), u = [zzO qm 5 (.ref qmh :: .ref qmo :: .ref qmz :: .ref qmR :: .ref qmv :: .ref qmk :: .ref qma :: .ref qmt :: .int (nI kZ) :: .ref qmr :: .int (nI (T_nb tA)) :: .ref qmB :: .int (nI (T_np tA)) :: .ref qmO :: .ref qmK :: .int iEn :: .int iTk :: .int (T_sd tA) :: ov uP :: ov uU :: .int (nI kAt) :: .int iTo :: .int iFr :: .long JFi :: .int iFa :: .ref qm3 :: .int iSt :: .int iLv :: .int iWs :: vLa :: .ref qmu :: .ref qmy :: .ref qmb :: .ref qms :: .int iOm :: []), zzG cy 3 qmB rB, zzI cy (rB 0) 4 (bkR tA 0), zzI cy (rB 1) 4 (bkR tA 1), zzI cy (rB 2) 4 (bkR tA 2), zzI cy (rB 3) 4 (bkR tA 3), zzI cy (rB 4) 4 (bkR tA 4), zzI cy (rB 5) 4 (bkR tA 5), zzI cy (rB 6) 4 (bkR tA 6), zzI cy (rB 7) 4 (bkR tA 7), zzG cy 3 qmO rO, zzI cy (rO 0) 5 (onR tA 0), zzI cy (rO 1) 5 (onR tA 1), zzI cy (rO 2) 5 (onR tA 2), zzI cy (rO 3) 5 (onR tA 3), zzI cy (rO 4) 5 (onR tA 4), zzI cy (rO 5) 5 (onR tA 5), zzI cy (rO 6) 5 (onR tA 6), zzI cy (rO 7) 5 (onR tA 7), zzG cy 3 qmK rK, zzI cy (rK 0) 8 (T_kn tA 0), zzI cy (rK 1) 8 (T_kn tA 1), zzI cy (rK 2) 8 (T_kn tA 2), zzI cy (rK 3) 8 (T_kn tA 3), zzI cy (rK 4) 8 (T_kn tA 4), zzI cy (rK 5) 8 (T_kn tA 5), zzI cy (rK 6) 8 (T_kn tA 6), zzI cy (rK 7) 8 (T_kn tA 7), zzI cy qmr 8 fNr] ∧ (True))) := by
  refine enW RX6 (by decide +kernel) rfl (Nat.le_of_ble_eq_true rfl) (fun p e s m below meth c ls A hx hb hml hown hts hr hlocks hP hN hl hin hD hA hS => ?_)
  have hin : meth.name = _ := hin
  have hK := hN.1
  replace hl : lv_has ls 7 [(0, .ref qm), (1, .int iA), (2, .int iB)] := hl
  refine lv_aload_n hx hb (g_42 bX6_teach rfl) rfl (lv_at hl 0 rfl) ?_
  refine lv_iload_n hx hb (g_27 bX6_teach rfl) rfl (lv_at hl 1 rfl) ?_
  refine lv_i2l (v := iA.toInt64) hx hb (g_133 bX6_teach rfl) rfl ?_
  refine kRi (rV (As := [.long iA.toInt64]) (rest := []) (b := qm) ⟨hx, hb, hml, hown, hts⟩ (c_X6_isOne l G cy qm (.ref qmh) (.ref qmo) (.ref qmz) (.ref qmR) (.ref qmv) (.ref qmk) (.ref qma) (.ref qmt) (.int (nI kZ)) (.ref qmr) tA qmB qmO qmK iEn iTk (ov uP) (ov uU) (.int (nI kAt)) (.int iTo) (.int iFr) (.long JFi) (.int iFa) (.ref qm3) (.int iSt) iLv iWs vLa (.ref qmu) (.ref qmy) (.ref qmb) (.ref qms) (.int iOm) iA hPp) L_X6_236 (preRV (q := (RX6, TX6, 35)) hN hP [0] rfl 0 5 rfl rfl) rfl ⟨Nat.le_of_ble_eq_true rfl, Nat.le_of_ble_eq_true rfl⟩ hl.1 (Nat.le_of_ble_eq_true rfl) (g_182 (v := 236) bX6_teach rfl) ⟨Nat.le_of_ble_eq_true rfl, Nat.le_of_ble_eq_true rfl⟩) (fun r_1 h_2 => ?_)
  rcases h_2 with ⟨rfl, h_3⟩ | ⟨rfl, h_3⟩
  · obtain ⟨k_4, hk_5, rfl⟩ := h_3
    refine lv_if_eq (tgt := 18) hx hb dX6_teach_6 (by decide +kernel) (fun h9 => absurd h9 (by decide +kernel)) (fun _ => ?_)
    refine lv_aload_n hx hb (g_42 bX6_teach rfl) rfl (lv_at hl 0 rfl) ?_
    refine lv_iload_n hx hb (g_28 bX6_teach rfl) rfl (lv_at hl 2 rfl) ?_
    refine lv_i2l (v := iB.toInt64) hx hb (g_133 bX6_teach rfl) rfl ?_
    refine kRi (rV (As := [.long iB.toInt64]) (rest := []) (b := qm) ⟨hx, hb, hml, hown, hts⟩ (c_X6_isBook l G cy qm (.ref qmh) (.ref qmo) (.ref qmz) (.ref qmR) (.ref qmv) (.ref qmk) (.ref qma) (.ref qmt) (.int (nI kZ)) (.ref qmr) tA qmB qmO qmK iEn iTk (ov uP) (ov uU) (.int (nI kAt)) (.int iTo) (.int iFr) (.long JFi) (.int iFa) (.ref qm3) (.int iSt) iLv iWs vLa (.ref qmu) (.ref qmy) (.ref qmb) (.ref qms) (.int iOm) iB hB) L_X6_229 (preRV (q := (RX6, TX6, 35)) hN hP [0] rfl 0 5 rfl rfl) rfl ⟨Nat.le_of_ble_eq_true rfl, Nat.le_of_ble_eq_true rfl⟩ hl.1 (Nat.le_of_ble_eq_true rfl) (g_182 (v := 229) bX6_teach rfl) ⟨Nat.le_of_ble_eq_true rfl, Nat.le_of_ble_eq_true rfl⟩) (fun r_7 h_8 => ?_)
    rcases h_8 with ⟨rfl, h_9⟩ | ⟨rfl, h_9⟩
    · obtain ⟨k_10, hk_11, rfl⟩ := h_9
      refine lv_if_ne (tgt := 25) hx hb dX6_teach_15 (by decide +kernel) (fun _ => ?_) (fun h9 => absurd h9 (by decide +kernel))
      refine lv_aload_n hx hb (g_42 bX6_teach rfl) rfl (lv_at hl 0 rfl) ?_
      refine lv_iload_n hx hb (g_27 bX6_teach rfl) rfl (lv_at hl 1 rfl) ?_
      refine kRi (rV (As := [.int (nI k_4)]) (rest := []) (b := qm) ⟨hx, hb, hml, hown, hts⟩ (c_X6_isThere l G cy qm (.ref qmh) (.ref qmo) (.ref qmz) (.ref qmR) (.ref qmv) (.ref qmk) (.ref qma) (.ref qmt) (.int (nI kZ)) (.ref qmr) tA qmB qmO qmK iEn iTk (ov uP) (ov uU) (.int (nI kAt)) (.int iTo) (.int iFr) (.long JFi) (.int iFa) (.ref qm3) (.int iSt) iLv iWs vLa (.ref qmu) (.ref qmy) (.ref qmb) (.ref qms) (.int iOm) rO k_4 (by first | omega | (simp only [nb_sr, np_sr, nb_wr, np_wr, nb_rd, np_rd, nb_ch, np_ch, nb_zr, np_zr, nb_za, np_za, nb_ey, np_ey, nb_hf, np_hf, nb_dd, np_dd, nb_so, np_so, nb_skn, np_skn, nb_swh, np_swh, nb_sgn, np_sgn, nb_ssd, np_ssd, nb_sgo, np_sgo, nb_sag, np_sag]; omega))) L_X6_81 (preRV (q := (RX6, TX6, 35)) hN hP (trueIx 0 [true, false, false, false, false, false, false, false, false, false, true, true, true, true, true, true, true, true, true]) (sel_fm rfl rfl) 0 5 rfl rfl) rfl ⟨Nat.le_of_ble_eq_true rfl, Nat.le_of_ble_eq_true rfl⟩ hl.1 (Nat.le_of_ble_eq_true rfl) (g_182 (v := 81) bX6_teach rfl) ⟨Nat.le_of_ble_eq_true rfl, Nat.le_of_ble_eq_true rfl⟩) (fun r_13 h_14 => ?_)
      rcases h_14 with ⟨rfl, h_15⟩ | ⟨rfl, h_15⟩
      · refine lv_if_ne (tgt := 40) hx hb dX6_teach_30 (by decide +kernel) (fun _ => ?_) (fun h9 => absurd h9 (by decide +kernel))
        refine lv_iconst (v := (-1)) hx hb (g_2 bX6_teach rfl) (by decide +kernel) ?_
        refine lv_istore_n (lv' := [(3, .int (-1)), (0, .ref qm), (1, .int (nI k_4)), (2, .int (nI k_10))]) hx hb (g_62 bX6_teach rfl) rfl hl (by decide +kernel) rfl (fun ls => ?_)
        clear hl
        intro hl
        refine lv_iconst (v := 0) hx hb (g_3 bX6_teach rfl) (by decide +kernel) ?_
        refine lv_istore (lv' := [(4, .int 0), (3, .int (-1)), (0, .ref qm), (1, .int (nI k_4)), (2, .int (nI k_10))]) hx hb (g_54 (v := 4) bX6_teach rfl) hl (by decide +kernel) rfl (fun ls => ?_)
        clear hl
        intro hl
        refine lv_iconst (v := 0) hx hb (g_3 bX6_teach rfl) (by decide +kernel) ?_
        refine lv_istore (lv' := [(5, .int 0), (4, .int 0), (3, .int (-1)), (0, .ref qm), (1, .int (nI k_4)), (2, .int (nI k_10))]) hx hb (g_54 (v := 5) bX6_teach rfl) hl (by decide +kernel) rfl (fun ls => ?_)
        clear hl
        intro hl
        have lp_17 : ∀ (n_18 : Nat) (j_20 : Nat) (x3_21 : Int32) (x4_22 : Int32), 8 - j_20 < n_18 → j_20 ≤ T_np tA → ∀ (H : Heap) (locs : List Loc) (ls : Array Slot), va_P G CL [zzO qm 5 (.ref qmh :: .ref qmo :: .ref qmz :: .ref qmR :: .ref qmv :: .ref qmk :: .ref qma :: .ref qmt :: .int (nI kZ) :: .ref qmr :: .int (nI (T_nb tA)) :: .ref qmB :: .int (nI (T_np tA)) :: .ref qmO :: .ref qmK :: .int iEn :: .int iTk :: .int (T_sd tA) :: ov uP :: ov uU :: .int (nI kAt) :: .int iTo :: .int iFr :: .long JFi :: .int iFa :: .ref qm3 :: .int iSt :: .int iLv :: .int iWs :: vLa :: .ref qmu :: .ref qmy :: .ref qmb :: .ref qms :: .int iOm :: []), zzG cy 3 qmB rB, zzI cy (rB 0) 4 (bkR tA 0), zzI cy (rB 1) 4 (bkR tA 1), zzI cy (rB 2) 4 (bkR tA 2), zzI cy (rB 3) 4 (bkR tA 3), zzI cy (rB 4) 4 (bkR tA 4), zzI cy (rB 5) 4 (bkR tA 5), zzI cy (rB 6) 4 (bkR tA 6), zzI cy (rB 7) 4 (bkR tA 7), zzG cy 3 qmO rO, zzI cy (rO 0) 5 (onR tA 0), zzI cy (rO 1) 5 (onR tA 1), zzI cy (rO 2) 5 (onR tA 2), zzI cy (rO 3) 5 (onR tA 3), zzI cy (rO 4) 5 (onR tA 4), zzI cy (rO 5) 5 (onR tA 5), zzI cy (rO 6) 5 (onR tA 6), zzI cy (rO 7) 5 (onR tA 7), zzG cy 3 qmK rK, zzI cy (rK 0) 8 (T_kn tA 0), zzI cy (rK 1) 8 (T_kn tA 1), zzI cy (rK 2) 8 (T_kn tA 2), zzI cy (rK 3) 8 (T_kn tA 3), zzI cy (rK 4) 8 (T_kn tA 4), zzI cy (rK 5) 8 (T_kn tA 5), zzI cy (rK 6) 8 (T_kn tA 6), zzI cy (rK 7) 8 (T_kn tA 7), zzI cy qmr 8 fMr] H → va_D A [zzO qm 5 (.ref qmh :: .ref qmo :: .ref qmz :: .ref qmR :: .ref qmv :: .ref qmk :: .ref qma :: .ref qmt :: .int (nI kZ) :: .ref qmr :: .int (nI (T_nb tA)) :: .ref qmB :: .int (nI (T_np tA)) :: .ref qmO :: .ref qmK :: .int iEn :: .int iTk :: .int (T_sd tA) :: ov uP :: ov uU :: .int (nI kAt) :: .int iTo :: .int iFr :: .long JFi :: .int iFa :: .ref qm3 :: .int iSt :: .int iLv :: .int iWs :: vLa :: .ref qmu :: .ref qmy :: .ref qmb :: .ref qms :: .int iOm :: []), zzG cy 3 qmB rB, zzI cy (rB 0) 4 (bkR tA 0), zzI cy (rB 1) 4 (bkR tA 1), zzI cy (rB 2) 4 (bkR tA 2), zzI cy (rB 3) 4 (bkR tA 3), zzI cy (rB 4) 4 (bkR tA 4), zzI cy (rB 5) 4 (bkR tA 5), zzI cy (rB 6) 4 (bkR tA 6), zzI cy (rB 7) 4 (bkR tA 7), zzG cy 3 qmO rO, zzI cy (rO 0) 5 (onR tA 0), zzI cy (rO 1) 5 (onR tA 1), zzI cy (rO 2) 5 (onR tA 2), zzI cy (rO 3) 5 (onR tA 3), zzI cy (rO 4) 5 (onR tA 4), zzI cy (rO 5) 5 (onR tA 5), zzI cy (rO 6) 5 (onR tA 6), zzI cy (rO 7) 5 (onR tA 7), zzG cy 3 qmK rK, zzI cy (rK 0) 8 (T_kn tA 0), zzI cy (rK 1) 8 (T_kn tA 1), zzI cy (rK 2) 8 (T_kn tA 2), zzI cy (rK 3) 8 (T_kn tA 3), zzI cy (rK 4) 8 (T_kn tA 4), zzI cy (rK 5) 8 (T_kn tA 5), zzI cy (rK 6) 8 (T_kn tA 6), zzI cy (rK 7) 8 (T_kn tA 7), zzI cy qmr 8 fMr] → va_S A s.heap H locs → lv_has ls 7 [(5, .int (nI j_20)), (4, .int x4_22), (3, .int x3_21), (0, .ref qm), (1, .int (nI k_4)), (2, .int (nI k_10))] → W p l e (Rm 16 0 0) s m (List.toArray (α := Value) [.ref qm, .int (nI k_4), .int (nI k_10)]) below meth c H locs 0 0 (MQ below ((Wi G (fun r u => ∃ (fNr : Nat → Int32), u = [zzO qm 5 (.ref qmh :: .ref qmo :: .ref qmz :: .ref qmR :: .ref qmv :: .ref qmk :: .ref qma :: .ref qmt :: .int (nI kZ) :: .ref qmr :: .int (nI (T_nb tA)) :: .ref qmB :: .int (nI (T_np tA)) :: .ref qmO :: .ref qmK :: .int iEn :: .int iTk :: .int (T_sd tA) :: ov uP :: ov uU :: .int (nI kAt) :: .int iTo :: .int iFr :: .long JFi :: .int iFa :: .ref qm3 :: .int iSt :: .int iLv :: .int iWs :: vLa :: .ref qmu :: .ref qmy :: .ref qmb :: .ref qms :: .int iOm :: []), zzG cy 3 qmB rB, zzI cy (rB 0) 4 (bkR tA 0), zzI cy (rB 1) 4 (bkR tA 1), zzI cy (rB 2) 4 (bkR tA 2), zzI cy (rB 3) 4 (bkR tA 3), zzI cy (rB 4) 4 (bkR tA 4), zzI cy (rB 5) 4 (bkR tA 5), zzI cy (rB 6) 4 (bkR tA 6), zzI cy (rB 7) 4 (bkR tA 7), zzG cy 3 qmO rO, zzI cy (rO 0) 5 (onR tA 0), zzI cy (rO 1) 5 (onR tA 1), zzI cy (rO 2) 5 (onR tA 2), zzI cy (rO 3) 5 (onR tA 3), zzI cy (rO 4) 5 (onR tA 4), zzI cy (rO 5) 5 (onR tA 5), zzI cy (rO 6) 5 (onR tA 6), zzI cy (rO 7) 5 (onR tA 7), zzG cy 3 qmK rK, zzI cy (rK 0) 8 (T_kn tA 0), zzI cy (rK 1) 8 (T_kn tA 1), zzI cy (rK 2) 8 (T_kn tA 2), zzI cy (rK 3) 8 (T_kn tA 3), zzI cy (rK 4) 8 (T_kn tA 4), zzI cy (rK 5) 8 (T_kn tA 5), zzI cy (rK 6) 8 (T_kn tA 6), zzI cy (rK 7) 8 (T_kn tA 7), zzI cy qmr 8 fNr] ∧ (True))) A) (List.toArray (α := Value) [.ref qm, .int (nI k_4), .int (nI k_10)]) s 0 0 A) (F0 m 48 ls []) := by
          intro n_18
          induction n_18 with
          | zero => intro j_20 x3_21 x4_22 hm9; exact absurd hm9 (Nat.not_lt_zero _)
          | succ n_18 ih_19 =>
            intro j_20 x3_21 x4_22 hm_24 hj_23 H locs ls hP hD hS hl
            refine lv_iload hx hb (g_21 (v := 5) bX6_teach rfl) (lv_at hl 0 rfl) ?_
            refine lv_aload_n hx hb (g_42 bX6_teach rfl) rfl (lv_at hl 3 rfl) ?_
            refine va_get (D := G) (ci := 5) (v := .int (nI (T_np tA))) (C := RX6) (T := TX6) (N := 35) hx hb hts iX_X6 hown hK hP 0 rfl rfl 12 (by decide +kernel) (hts _ m_t862) (fun _ h9 => h9) rfl (g_180 (v := 78) bX6_teach rfl) ?_
            refine lv_icmp_ge (tgt := 106) hx hb dX6_teach_54 (by decide +kernel) (fun c_25 => ?_) (fun c_25 => ?_)
            · have hlt_26 : j_20 = T_np tA := Nat.le_antisymm (by omega) (lp_ge rfl rfl (by omega) (by omega) c_25)
              refine lv_iload_n hx hb (g_29 bX6_teach rfl) rfl (lv_at hl 2 rfl) ?_
              exact endWs [[true, true, true, true, true, true, true, true, true, true, true, true, true, true, true, true, true, true, true, true, true, true, true, true, true, true, true, true, true]] hx hb hr hlocks rfl hP hD rfl (by decide +kernel) hS ⟨fMr, rfl, trivial⟩ (g_172 bX6_teach rfl)
            · have hlt_27 : j_20 < T_np tA := lp_lt rfl rfl (by omega) (by omega) c_25
              refine lv_iload hx hb (g_21 (v := 5) bX6_teach rfl) (lv_at hl 0 rfl) ?_
              refine lv_iload_n hx hb (g_27 bX6_teach rfl) rfl (lv_at hl 4 rfl) ?_
              refine lv_icmp_eq (tgt := 83) hx hb dX6_teach_60 (by decide +kernel) (fun c_28 => ?_) (fun c_28 => ?_)
              · refine lv_iconst (v := 0) hx hb (g_3 bX6_teach rfl) (by decide +kernel) ?_
                refine lv_istore (lv' := [(6, .int 0), (5, .int (nI j_20)), (4, .int x4_22), (3, .int x3_21), (0, .ref qm), (1, .int (nI k_4)), (2, .int (nI k_10))]) hx hb (g_54 (v := 6) bX6_teach rfl) hl (by decide +kernel) rfl (fun ls => ?_)
                clear hl
                intro hl
                refine lv_iload hx hb (g_21 (v := 6) bX6_teach rfl) (lv_at hl 0 rfl) ?_
                refine lv_iload hx hb (g_21 (v := 4) bX6_teach rfl) (lv_at hl 2 rfl) ?_
                refine lv_icmp_le (tgt := 100) hx hb dX6_teach_90 (by decide +kernel) (fun c_29 => ?_) (fun c_29 => ?_)
                · refine lv_iinc (v := nI (j_20 + 1)) (lv' := [(5, .int (nI (j_20 + 1))), (6, .int 0), (4, .int x4_22), (3, .int x3_21), (0, .ref qm), (1, .int (nI k_4)), (2, .int (nI k_10))]) hx hb dX6_teach_100 hl (k := 1) rfl (nI_1 _) (by decide +kernel) rfl (fun ls => ?_)
                  clear hl
                  intro hl
                  refine lv_goto (tgt := 48) hx hb dX6_teach_103 (by decide +kernel) ?_
                  exact ih_19 (j_20 + 1) x3_21 x4_22 (by omega) (by omega) _ _ _ hP hD hS (lv_sub hl [0, 2, 3, 4, 5, 6] rfl)
                · refine lv_iload hx hb (g_21 (v := 5) bX6_teach rfl) (lv_at hl 1 rfl) ?_
                  refine lv_istore_n (lv' := [(3, .int (nI j_20)), (6, .int 0), (5, .int (nI j_20)), (4, .int x4_22), (0, .ref qm), (1, .int (nI k_4)), (2, .int (nI k_10))]) hx hb (g_62 bX6_teach rfl) rfl hl (by decide +kernel) rfl (fun ls => ?_)
                  clear hl
                  intro hl
                  refine lv_iload hx hb (g_21 (v := 6) bX6_teach rfl) (lv_at hl 1 rfl) ?_
                  refine lv_istore (lv' := [(4, .int 0), (3, .int (nI j_20)), (6, .int 0), (5, .int (nI j_20)), (0, .ref qm), (1, .int (nI k_4)), (2, .int (nI k_10))]) hx hb (g_54 (v := 4) bX6_teach rfl) hl (by decide +kernel) rfl (fun ls => ?_)
                  clear hl
                  intro hl
                  refine lv_iinc (v := nI (j_20 + 1)) (lv' := [(5, .int (nI (j_20 + 1))), (4, .int 0), (3, .int (nI j_20)), (6, .int 0), (0, .ref qm), (1, .int (nI k_4)), (2, .int (nI k_10))]) hx hb dX6_teach_100 hl (k := 3) rfl (nI_1 _) (by decide +kernel) rfl (fun ls => ?_)
                  clear hl
                  intro hl
                  refine lv_goto (tgt := 48) hx hb dX6_teach_103 (by decide +kernel) ?_
                  exact ih_19 (j_20 + 1) (nI j_20) 0 (by omega) (by omega) _ _ _ hP hD hS (lv_sub hl [0, 1, 2, 4, 5, 6] rfl)
              · refine lv_aload_n hx hb (g_42 bX6_teach rfl) rfl (lv_at hl 3 rfl) ?_
                refine lv_iload hx hb (g_21 (v := 5) bX6_teach rfl) (lv_at hl 0 rfl) ?_
                refine kRi (rV (As := [.int (nI j_20)]) (rest := []) (b := qm) ⟨hx, hb, hml, hown, hts⟩ (c_X6_isThere l G cy qm (.ref qmh) (.ref qmo) (.ref qmz) (.ref qmR) (.ref qmv) (.ref qmk) (.ref qma) (.ref qmt) (.int (nI kZ)) (.ref qmr) tA qmB qmO qmK iEn iTk (ov uP) (ov uU) (.int (nI kAt)) (.int iTo) (.int iFr) (.long JFi) (.int iFa) (.ref qm3) (.int iSt) iLv iWs vLa (.ref qmu) (.ref qmy) (.ref qmb) (.ref qms) (.int iOm) rO j_20 (by first | omega | (simp only [nb_sr, np_sr, nb_wr, np_wr, nb_rd, np_rd, nb_ch, np_ch, nb_zr, np_zr, nb_za, np_za, nb_ey, np_ey, nb_hf, np_hf, nb_dd, np_dd, nb_so, np_so, nb_skn, np_skn, nb_swh, np_swh, nb_sgn, np_sgn, nb_ssd, np_ssd, nb_sgo, np_sgo, nb_sag, np_sag]; omega))) L_X6_81 (preRV (q := (RX6, TX6, 35)) hN hP (trueIx 0 [true, false, false, false, false, false, false, false, false, false, true, true, true, true, true, true, true, true, true]) (sel_fm rfl rfl) 0 5 rfl rfl) rfl ⟨Nat.le_of_ble_eq_true rfl, Nat.le_of_ble_eq_true rfl⟩ hl.1 (Nat.le_of_ble_eq_true rfl) (g_182 (v := 81) bX6_teach rfl) ⟨Nat.le_of_ble_eq_true rfl, Nat.le_of_ble_eq_true rfl⟩) (fun r_30 h_31 => ?_)
                rcases h_31 with ⟨rfl, h_32⟩ | ⟨rfl, h_32⟩
                · refine lv_if_eq (tgt := 83) hx hb dX6_teach_69 (by decide +kernel) (fun h9 => absurd h9 (by decide +kernel)) (fun _ => ?_)
                  refine lv_aload_n hx hb (g_42 bX6_teach rfl) rfl (lv_at hl 3 rfl) ?_
                  refine lv_iload_n hx hb (g_27 bX6_teach rfl) rfl (lv_at hl 4 rfl) ?_
                  refine lv_iload hx hb (g_21 (v := 5) bX6_teach rfl) (lv_at hl 0 rfl) ?_
                  refine lv_iload_n hx hb (g_28 bX6_teach rfl) rfl (lv_at hl 5 rfl) ?_
                  refine kRi (rV (As := [.int (nI k_4), .int (nI j_20), .int (nI k_10)]) (rest := []) (b := qm) ⟨hx, hb, hml, hown, hts⟩ (c_X6_moreBy l G cy qm (.ref qmh) (.ref qmo) (.ref qmz) (.ref qmR) (.ref qmv) (.ref qmk) (.ref qma) (.ref qmt) (.int (nI kZ)) (.ref qmr) tA qmB qmO qmK iEn iTk (ov uP) (ov uU) (.int (nI kAt)) (.int iTo) (.int iFr) (.long JFi) (.int iFa) (.ref qm3) (.int iSt) iLv iWs vLa (.ref qmu) (.ref qmy) (.ref qmb) (.ref qms) (.int iOm) rB rO rK k_4 j_20 k_10 (by first | omega | (simp only [nb_sr, np_sr, nb_wr, np_wr, nb_rd, np_rd, nb_ch, np_ch, nb_zr, np_zr, nb_za, np_za, nb_ey, np_ey, nb_hf, np_hf, nb_dd, np_dd, nb_so, np_so, nb_skn, np_skn, nb_swh, np_swh, nb_sgn, np_sgn, nb_ssd, np_ssd, nb_sgo, np_sgo, nb_sag, np_sag]; omega)) (by first | omega | (simp only [nb_sr, np_sr, nb_wr, np_wr, nb_rd, np_rd, nb_ch, np_ch, nb_zr, np_zr, nb_za, np_za, nb_ey, np_ey, nb_hf, np_hf, nb_dd, np_dd, nb_so, np_so, nb_skn, np_skn, nb_swh, np_swh, nb_sgn, np_sgn, nb_ssd, np_ssd, nb_sgo, np_sgo, nb_sag, np_sag]; omega)) (by first | omega | (simp only [nb_sr, np_sr, nb_wr, np_wr, nb_rd, np_rd, nb_ch, np_ch, nb_zr, np_zr, nb_za, np_za, nb_ey, np_ey, nb_hf, np_hf, nb_dd, np_dd, nb_so, np_so, nb_skn, np_skn, nb_swh, np_swh, nb_sgn, np_sgn, nb_ssd, np_ssd, nb_sgo, np_sgo, nb_sag, np_sag]; omega)) hTI) L_X6_263 (preRV (q := (RX6, TX6, 35)) hN hP (trueIx 0 [true, true, true, true, true, true, true, true, true, true, true, true, true, true, true, true, true, true, true, true, true, true, true, true, true, true, true, true]) (sel_fm rfl rfl) 0 5 rfl rfl) rfl ⟨Nat.le_of_ble_eq_true rfl, Nat.le_of_ble_eq_true rfl⟩ hl.1 (Nat.le_of_ble_eq_true rfl) (g_182 (v := 263) bX6_teach rfl) ⟨Nat.le_of_ble_eq_true rfl, Nat.le_of_ble_eq_true rfl⟩) (fun r_34 h_35 => ?_)
                  subst h_35
                  refine lv_goto (tgt := 84) hx hb dX6_teach_80 (by decide +kernel) ?_
                  refine lv_istore (lv' := [(6, .int (zgt tA k_4 j_20 k_10)), (5, .int (nI j_20)), (4, .int x4_22), (3, .int x3_21), (0, .ref qm), (1, .int (nI k_4)), (2, .int (nI k_10))]) hx hb (g_54 (v := 6) bX6_teach rfl) hl (by decide +kernel) rfl (fun ls => ?_)
                  clear hl
                  intro hl
                  refine lv_iload hx hb (g_21 (v := 6) bX6_teach rfl) (lv_at hl 0 rfl) ?_
                  refine lv_iload hx hb (g_21 (v := 4) bX6_teach rfl) (lv_at hl 2 rfl) ?_
                  refine lv_icmp_le (tgt := 100) hx hb dX6_teach_90 (by decide +kernel) (fun c_36 => ?_) (fun c_36 => ?_)
                  · refine lv_iinc (v := nI (j_20 + 1)) (lv' := [(5, .int (nI (j_20 + 1))), (6, .int (zgt tA k_4 j_20 k_10)), (4, .int x4_22), (3, .int x3_21), (0, .ref qm), (1, .int (nI k_4)), (2, .int (nI k_10))]) hx hb dX6_teach_100 hl (k := 1) rfl (nI_1 _) (by decide +kernel) rfl (fun ls => ?_)
                    clear hl
                    intro hl
                    refine lv_goto (tgt := 48) hx hb dX6_teach_103 (by decide +kernel) ?_
                    exact ih_19 (j_20 + 1) x3_21 x4_22 (by omega) (by omega) _ _ _ hP hD hS (lv_sub hl [0, 2, 3, 4, 5, 6] rfl)
                  · refine lv_iload hx hb (g_21 (v := 5) bX6_teach rfl) (lv_at hl 1 rfl) ?_
                    refine lv_istore_n (lv' := [(3, .int (nI j_20)), (6, .int (zgt tA k_4 j_20 k_10)), (5, .int (nI j_20)), (4, .int x4_22), (0, .ref qm), (1, .int (nI k_4)), (2, .int (nI k_10))]) hx hb (g_62 bX6_teach rfl) rfl hl (by decide +kernel) rfl (fun ls => ?_)
                    clear hl
                    intro hl
                    refine lv_iload hx hb (g_21 (v := 6) bX6_teach rfl) (lv_at hl 1 rfl) ?_
                    refine lv_istore (lv' := [(4, .int (zgt tA k_4 j_20 k_10)), (3, .int (nI j_20)), (6, .int (zgt tA k_4 j_20 k_10)), (5, .int (nI j_20)), (0, .ref qm), (1, .int (nI k_4)), (2, .int (nI k_10))]) hx hb (g_54 (v := 4) bX6_teach rfl) hl (by decide +kernel) rfl (fun ls => ?_)
                    clear hl
                    intro hl
                    refine lv_iinc (v := nI (j_20 + 1)) (lv' := [(5, .int (nI (j_20 + 1))), (4, .int (zgt tA k_4 j_20 k_10)), (3, .int (nI j_20)), (6, .int (zgt tA k_4 j_20 k_10)), (0, .ref qm), (1, .int (nI k_4)), (2, .int (nI k_10))]) hx hb dX6_teach_100 hl (k := 3) rfl (nI_1 _) (by decide +kernel) rfl (fun ls => ?_)
                    clear hl
                    intro hl
                    refine lv_goto (tgt := 48) hx hb dX6_teach_103 (by decide +kernel) ?_
                    exact ih_19 (j_20 + 1) (nI j_20) (zgt tA k_4 j_20 k_10) (by omega) (by omega) _ _ _ hP hD hS (lv_sub hl [0, 1, 2, 4, 5, 6] rfl)
                · refine lv_if_eq (tgt := 83) hx hb dX6_teach_69 (by decide +kernel) (fun _ => ?_) (fun h9 => absurd (by decide +kernel) h9)
                  refine lv_iconst (v := 0) hx hb (g_3 bX6_teach rfl) (by decide +kernel) ?_
                  refine lv_istore (lv' := [(6, .int 0), (5, .int (nI j_20)), (4, .int x4_22), (3, .int x3_21), (0, .ref qm), (1, .int (nI k_4)), (2, .int (nI k_10))]) hx hb (g_54 (v := 6) bX6_teach rfl) hl (by decide +kernel) rfl (fun ls => ?_)
                  clear hl
                  intro hl
                  refine lv_iload hx hb (g_21 (v := 6) bX6_teach rfl) (lv_at hl 0 rfl) ?_
                  refine lv_iload hx hb (g_21 (v := 4) bX6_teach rfl) (lv_at hl 2 rfl) ?_
                  refine lv_icmp_le (tgt := 100) hx hb dX6_teach_90 (by decide +kernel) (fun c_38 => ?_) (fun c_38 => ?_)
                  · refine lv_iinc (v := nI (j_20 + 1)) (lv' := [(5, .int (nI (j_20 + 1))), (6, .int 0), (4, .int x4_22), (3, .int x3_21), (0, .ref qm), (1, .int (nI k_4)), (2, .int (nI k_10))]) hx hb dX6_teach_100 hl (k := 1) rfl (nI_1 _) (by decide +kernel) rfl (fun ls => ?_)
                    clear hl
                    intro hl
                    refine lv_goto (tgt := 48) hx hb dX6_teach_103 (by decide +kernel) ?_
                    exact ih_19 (j_20 + 1) x3_21 x4_22 (by omega) (by omega) _ _ _ hP hD hS (lv_sub hl [0, 2, 3, 4, 5, 6] rfl)
                  · refine lv_iload hx hb (g_21 (v := 5) bX6_teach rfl) (lv_at hl 1 rfl) ?_
                    refine lv_istore_n (lv' := [(3, .int (nI j_20)), (6, .int 0), (5, .int (nI j_20)), (4, .int x4_22), (0, .ref qm), (1, .int (nI k_4)), (2, .int (nI k_10))]) hx hb (g_62 bX6_teach rfl) rfl hl (by decide +kernel) rfl (fun ls => ?_)
                    clear hl
                    intro hl
                    refine lv_iload hx hb (g_21 (v := 6) bX6_teach rfl) (lv_at hl 1 rfl) ?_
                    refine lv_istore (lv' := [(4, .int 0), (3, .int (nI j_20)), (6, .int 0), (5, .int (nI j_20)), (0, .ref qm), (1, .int (nI k_4)), (2, .int (nI k_10))]) hx hb (g_54 (v := 4) bX6_teach rfl) hl (by decide +kernel) rfl (fun ls => ?_)
                    clear hl
                    intro hl
                    refine lv_iinc (v := nI (j_20 + 1)) (lv' := [(5, .int (nI (j_20 + 1))), (4, .int 0), (3, .int (nI j_20)), (6, .int 0), (0, .ref qm), (1, .int (nI k_4)), (2, .int (nI k_10))]) hx hb dX6_teach_100 hl (k := 3) rfl (nI_1 _) (by decide +kernel) rfl (fun ls => ?_)
                    clear hl
                    intro hl
                    refine lv_goto (tgt := 48) hx hb dX6_teach_103 (by decide +kernel) ?_
                    exact ih_19 (j_20 + 1) (nI j_20) 0 (by omega) (by omega) _ _ _ hP hD hS (lv_sub hl [0, 1, 2, 4, 5, 6] rfl)
        exact lp_17 ((8 - 0) + 1) 0 (-1) 0 (Nat.lt_succ_self _) (Nat.zero_le _) _ _ ls hP hD hS (lv_sub hl [0, 1, 2, 3, 4, 5] rfl)
      · refine lv_if_ne (tgt := 40) hx hb dX6_teach_30 (by decide +kernel) (fun h9 => absurd (by decide +kernel) h9) (fun _ => ?_)
        refine lv_aload_n hx hb (g_42 bX6_teach rfl) rfl (lv_at hl 0 rfl) ?_
        refine lv_bipush (v := (-5)) hx hb dX6_teach_34 (by decide +kernel) ?_
        refine cVi (As := [.int (-5)]) (rest := []) (b := qm) (q := (RX6, TX6, 35)) ⟨hx, hb, hml, hown, hts⟩ (c_X6_refuse5 l G cy (s.heap).size qm (.ref qmh) (.ref qmo) (.ref qmz) (.ref qmR) (.ref qmv) (.ref qmk) (.ref qma) (.ref qmt) (.int (nI kZ)) qmr tA qmB qmO qmK iEn iTk (ov uP) (ov uU) (.int (nI kAt)) (.int iTo) (.int iFr) (.long JFi) (.int iFa) (.ref qm3) (.int iSt) iLv iWs vLa (.ref qmu) (.ref qmy) (.ref qmb) (.ref qms) (.int iOm) fMr) L_X6_91 hN hP hD hS hA [0, 28] [false, true, true, true, true, true, true, true, true, true, true, true, true, true, true, true, true, true, true, true, true, true, true, true, true, true, true, true, false] rfl (by decide +kernel) rfl 0 5 rfl rfl rfl ⟨Nat.le_of_ble_eq_true rfl, Nat.le_of_ble_eq_true rfl⟩ hl.1 (Nat.le_of_ble_eq_true rfl) (g_182 (v := 91) bX6_teach rfl) ⟨Nat.le_of_ble_eq_true rfl, Nat.le_of_ble_eq_true rfl⟩ (fun r_40 u_42 H locs h_41 => ?_)
        clear hP hD hS
        intro hP hD hS
        obtain ⟨fX_43, hu9, h_41⟩ := h_41
        have hPD := pd_eq [_, _, _, _, _, _, _, _, _, _, _, _, _, _, _, _, _, _, _, _, _, _, _, _, _, _, _, _, zzI cy qmr 8 fX_43] hP hD hu9 rfl
        clear hP hD hu9
        obtain ⟨hP, hD⟩ := hPD
        subst h_41
        exact endWs [[false, false, false, false, false, false, false, false, false, false, false, false, false, false, false, false, false, false, false, false, false, false, false, false, false, false, false, true], [true, true, true, true, true, true, true, true, true, true, true, true, true, true, true, true, true, true, true, true, true, true, true, true, true, true, true, false, true]] hx hb hr hlocks rfl hP hD rfl (by decide +kernel) hS ⟨fX_43, rfl, trivial⟩ (g_172 bX6_teach rfl)
    · refine lv_if_ne (tgt := 25) hx hb dX6_teach_15 (by decide +kernel) (fun h9 => absurd (by decide +kernel) h9) (fun _ => ?_)
      refine lv_aload_n hx hb (g_42 bX6_teach rfl) rfl (lv_at hl 0 rfl) ?_
      refine lv_bipush (v := (-2)) hx hb dX6_teach_19 (by decide +kernel) ?_
      refine cVi (As := [.int (-2)]) (rest := []) (b := qm) (q := (RX6, TX6, 35)) ⟨hx, hb, hml, hown, hts⟩ (c_X6_refuse2 l G cy (s.heap).size qm (.ref qmh) (.ref qmo) (.ref qmz) (.ref qmR) (.ref qmv) (.ref qmk) (.ref qma) (.ref qmt) (.int (nI kZ)) qmr tA qmB qmO qmK iEn iTk (ov uP) (ov uU) (.int (nI kAt)) (.int iTo) (.int iFr) (.long JFi) (.int iFa) (.ref qm3) (.int iSt) iLv iWs vLa (.ref qmu) (.ref qmy) (.ref qmb) (.ref qms) (.int iOm) fMr) L_X6_91 hN hP hD hS hA [0, 28] [false, true, true, true, true, true, true, true, true, true, true, true, true, true, true, true, true, true, true, true, true, true, true, true, true, true, true, true, false] rfl (by decide +kernel) rfl 0 5 rfl rfl rfl ⟨Nat.le_of_ble_eq_true rfl, Nat.le_of_ble_eq_true rfl⟩ hl.1 (Nat.le_of_ble_eq_true rfl) (g_182 (v := 91) bX6_teach rfl) ⟨Nat.le_of_ble_eq_true rfl, Nat.le_of_ble_eq_true rfl⟩ (fun r_45 u_47 H locs h_46 => ?_)
      clear hP hD hS
      intro hP hD hS
      obtain ⟨fX_48, hu9, h_46⟩ := h_46
      have hPD := pd_eq [_, _, _, _, _, _, _, _, _, _, _, _, _, _, _, _, _, _, _, _, _, _, _, _, _, _, _, _, zzI cy qmr 8 fX_48] hP hD hu9 rfl
      clear hP hD hu9
      obtain ⟨hP, hD⟩ := hPD
      subst h_46
      exact endWs [[false, false, false, false, false, false, false, false, false, false, false, false, false, false, false, false, false, false, false, false, false, false, false, false, false, false, false, true], [true, true, true, true, true, true, true, true, true, true, true, true, true, true, true, true, true, true, true, true, true, true, true, true, true, true, true, false, true]] hx hb hr hlocks rfl hP hD rfl (by decide +kernel) hS ⟨fX_48, rfl, trivial⟩ (g_172 bX6_teach rfl)
  · refine lv_if_eq (tgt := 18) hx hb dX6_teach_6 (by decide +kernel) (fun _ => ?_) (fun h9 => absurd (by decide +kernel) h9)
    refine lv_aload_n hx hb (g_42 bX6_teach rfl) rfl (lv_at hl 0 rfl) ?_
    refine lv_bipush (v := (-2)) hx hb dX6_teach_19 (by decide +kernel) ?_
    refine cVi (As := [.int (-2)]) (rest := []) (b := qm) (q := (RX6, TX6, 35)) ⟨hx, hb, hml, hown, hts⟩ (c_X6_refuse2 l G cy (s.heap).size qm (.ref qmh) (.ref qmo) (.ref qmz) (.ref qmR) (.ref qmv) (.ref qmk) (.ref qma) (.ref qmt) (.int (nI kZ)) qmr tA qmB qmO qmK iEn iTk (ov uP) (ov uU) (.int (nI kAt)) (.int iTo) (.int iFr) (.long JFi) (.int iFa) (.ref qm3) (.int iSt) iLv iWs vLa (.ref qmu) (.ref qmy) (.ref qmb) (.ref qms) (.int iOm) fMr) L_X6_91 hN hP hD hS hA [0, 28] [false, true, true, true, true, true, true, true, true, true, true, true, true, true, true, true, true, true, true, true, true, true, true, true, true, true, true, true, false] rfl (by decide +kernel) rfl 0 5 rfl rfl rfl ⟨Nat.le_of_ble_eq_true rfl, Nat.le_of_ble_eq_true rfl⟩ hl.1 (Nat.le_of_ble_eq_true rfl) (g_182 (v := 91) bX6_teach rfl) ⟨Nat.le_of_ble_eq_true rfl, Nat.le_of_ble_eq_true rfl⟩ (fun r_50 u_52 H locs h_51 => ?_)
    clear hP hD hS
    intro hP hD hS
    obtain ⟨fX_53, hu9, h_51⟩ := h_51
    have hPD := pd_eq [_, _, _, _, _, _, _, _, _, _, _, _, _, _, _, _, _, _, _, _, _, _, _, _, _, _, _, _, zzI cy qmr 8 fX_53] hP hD hu9 rfl
    clear hP hD hu9
    obtain ⟨hP, hD⟩ := hPD
    subst h_51
    exact endWs [[false, false, false, false, false, false, false, false, false, false, false, false, false, false, false, false, false, false, false, false, false, false, false, false, false, false, false, true], [true, true, true, true, true, true, true, true, true, true, true, true, true, true, true, true, true, true, true, true, true, true, true, true, true, true, true, false, true]] hx hb hr hlocks rfl hP hD rfl (by decide +kernel) hS ⟨fX_53, rfl, trivial⟩ (g_172 bX6_teach rfl)
set_option maxHeartbeats 4000000 in
set_option maxRecDepth 100000 in
theorem p_X6_write (l : Launch) (G : va_G) (cy : Nat → ClassId) (sz : Nat) (qm : Nat) (qmh : Nat) (qmo : Nat) (qmz : Nat) (qmR : Nat) (qmv : Nat) (qmk : Nat) (qma : Nat) (qmt : Nat) (kZ : Nat) (qmr : Nat) (tA : TA) (qmB : Nat) (qmO : Nat) (qmK : Nat) (iEn : Int32) (iTk : Int32) (uP : UM) (uU : UM) (kAt : Nat) (iTo : Int32) (iFr : Int32) (JFi : Int64) (iFa : Int32) (qm3 : Nat) (iSt : Int32) (iLv : Int32) (iWs : Int32) (vLa : Value) (qmu : Nat) (qmy : Nat) (qmb : Nat) (qms : Nat) (iOm : Int32) (rB : Nat → Nat) (rO : Nat → Nat) (rK : Nat → Nat) (fMr : Nat → Int32) (iA : Int32) (iB : Int32)  (hB : T_nb tA ≤ 8) (hPp : T_np tA ≤ 8) (hTI : TI tA) : MW l yX6_write cX6_write 3 (some .int) 16 0 0 G cy [zzO qm 5 (.ref qmh :: .ref qmo :: .ref qmz :: .ref qmR :: .ref qmv :: .ref qmk :: .ref qma :: .ref qmt :: .int (nI kZ) :: .ref qmr :: .int (nI (T_nb tA)) :: .ref qmB :: .int (nI (T_np tA)) :: .ref qmO :: .ref qmK :: .int iEn :: .int iTk :: .int (T_sd tA) :: ov uP :: ov uU :: .int (nI kAt) :: .int iTo :: .int iFr :: .long JFi :: .int iFa :: .ref qm3 :: .int iSt :: .int iLv :: .int iWs :: vLa :: .ref qmu :: .ref qmy :: .ref qmb :: .ref qms :: .int iOm :: []), zzG cy 3 qmB rB, zzI cy (rB 0) 4 (bkR tA 0), zzI cy (rB 1) 4 (bkR tA 1), zzI cy (rB 2) 4 (bkR tA 2), zzI cy (rB 3) 4 (bkR tA 3), zzI cy (rB 4) 4 (bkR tA 4), zzI cy (rB 5) 4 (bkR tA 5), zzI cy (rB 6) 4 (bkR tA 6), zzI cy (rB 7) 4 (bkR tA 7), zzG cy 3 qmO rO, zzI cy (rO 0) 5 (onR tA 0), zzI cy (rO 1) 5 (onR tA 1), zzI cy (rO 2) 5 (onR tA 2), zzI cy (rO 3) 5 (onR tA 3), zzI cy (rO 4) 5 (onR tA 4), zzI cy (rO 5) 5 (onR tA 5), zzI cy (rO 6) 5 (onR tA 6), zzI cy (rO 7) 5 (onR tA 7), zzG cy 3 qmK rK, zzI cy (rK 0) 8 (T_kn tA 0), zzI cy (rK 1) 8 (T_kn tA 1), zzI cy (rK 2) 8 (T_kn tA 2), zzI cy (rK 3) 8 (T_kn tA 3), zzI cy (rK 4) 8 (T_kn tA 4), zzI cy (rK 5) 8 (T_kn tA 5), zzI cy (rK 6) 8 (T_kn tA 6), zzI cy (rK 7) 8 (T_kn tA 7), zzI cy qmr 8 fMr] sz [.ref qm, .int iA, .int iB] (Wi G (fun r u => ∃ (tN : TA) (fNr : Nat → Int32), u = [zzO qm 5 (.ref qmh :: .ref qmo :: .ref qmz :: .ref qmR :: .ref qmv :: .ref qmk :: .ref qma :: .ref qmt :: .int (nI kZ) :: .ref qmr :: .int (nI (T_nb tN)) :: .ref qmB :: .int (nI (T_np tN)) :: .ref qmO :: .ref qmK :: .int iEn :: .int iTk :: .int (T_sd tN) :: ov uP :: ov uU :: .int (nI kAt) :: .int iTo :: .int iFr :: .long JFi :: .int iFa :: .ref qm3 :: .int iSt :: .int iLv :: .int iWs :: vLa :: .ref qmu :: .ref qmy :: .ref qmb :: .ref qms :: .int iOm :: []), zzG cy 3 qmB rB, zzI cy (rB 0) 4 (bkR tN 0), zzI cy (rB 1) 4 (bkR tN 1), zzI cy (rB 2) 4 (bkR tN 2), zzI cy (rB 3) 4 (bkR tN 3), zzI cy (rB 4) 4 (bkR tN 4), zzI cy (rB 5) 4 (bkR tN 5), zzI cy (rB 6) 4 (bkR tN 6), zzI cy (rB 7) 4 (bkR tN 7), zzG cy 3 qmO rO, zzI cy (rO 0) 5 (onR tN 0), zzI cy (rO 1) 5 (onR tN 1), zzI cy (rO 2) 5 (onR tN 2), zzI cy (rO 3) 5 (onR tN 3), zzI cy (rO 4) 5 (onR tN 4), zzI cy (rO 5) 5 (onR tN 5), zzI cy (rO 6) 5 (onR tN 6), zzI cy (rO 7) 5 (onR tN 7), zzG cy 3 qmK rK, zzI cy (rK 0) 8 (T_kn tN 0), zzI cy (rK 1) 8 (T_kn tN 1), zzI cy (rK 2) 8 (T_kn tN 2), zzI cy (rK 3) 8 (T_kn tN 3), zzI cy (rK 4) 8 (T_kn tN 4), zzI cy (rK 5) 8 (T_kn tN 5), zzI cy (rK 6) 8 (T_kn tN 6), zzI cy (rK 7) 8 (T_kn tN 7), zzI cy qmr 8 fNr] ∧ (TI tN) ∧ (True))) := by
  refine enW RX6 (by decide +kernel) rfl (Nat.le_of_ble_eq_true rfl) (fun p e s m below meth c ls A hx hb hml hown hts hr hlocks hP hN hl hin hD hA hS => ?_)
  have hin : meth.name = _ := hin
  have hK := hN.1
  replace hl : lv_has ls 3 [(0, .ref qm), (1, .int iA), (2, .int iB)] := hl
  refine lv_aload_n hx hb (g_42 bX6_write rfl) rfl (lv_at hl 0 rfl) ?_
  refine lv_iload_n hx hb (g_27 bX6_write rfl) rfl (lv_at hl 1 rfl) ?_
  refine lv_i2l (v := iA.toInt64) hx hb (g_133 bX6_write rfl) rfl ?_
  refine kRi (rV (As := [.long iA.toInt64]) (rest := []) (b := qm) ⟨hx, hb, hml, hown, hts⟩ (c_X6_isOne l G cy qm (.ref qmh) (.ref qmo) (.ref qmz) (.ref qmR) (.ref qmv) (.ref qmk) (.ref qma) (.ref qmt) (.int (nI kZ)) (.ref qmr) tA qmB qmO qmK iEn iTk (ov uP) (ov uU) (.int (nI kAt)) (.int iTo) (.int iFr) (.long JFi) (.int iFa) (.ref qm3) (.int iSt) iLv iWs vLa (.ref qmu) (.ref qmy) (.ref qmb) (.ref qms) (.int iOm) iA hPp) L_X6_236 (preRV (q := (RX6, TX6, 35)) hN hP [0] rfl 0 5 rfl rfl) rfl ⟨Nat.le_of_ble_eq_true rfl, Nat.le_of_ble_eq_true rfl⟩ hl.1 (Nat.le_of_ble_eq_true rfl) (g_182 (v := 236) bX6_write rfl) ⟨Nat.le_of_ble_eq_true rfl, Nat.le_of_ble_eq_true rfl⟩) (fun r_1 h_2 => ?_)
  rcases h_2 with ⟨rfl, h_3⟩ | ⟨rfl, h_3⟩
  · obtain ⟨k_4, hk_5, rfl⟩ := h_3
    refine lv_if_eq (tgt := 18) hx hb dX6_write_6 (by decide +kernel) (fun h9 => absurd h9 (by decide +kernel)) (fun _ => ?_)
    refine lv_aload_n hx hb (g_42 bX6_write rfl) rfl (lv_at hl 0 rfl) ?_
    refine lv_iload_n hx hb (g_28 bX6_write rfl) rfl (lv_at hl 2 rfl) ?_
    refine lv_i2l (v := iB.toInt64) hx hb (g_133 bX6_write rfl) rfl ?_
    refine kRi (rV (As := [.long iB.toInt64]) (rest := []) (b := qm) ⟨hx, hb, hml, hown, hts⟩ (c_X6_isBook l G cy qm (.ref qmh) (.ref qmo) (.ref qmz) (.ref qmR) (.ref qmv) (.ref qmk) (.ref qma) (.ref qmt) (.int (nI kZ)) (.ref qmr) tA qmB qmO qmK iEn iTk (ov uP) (ov uU) (.int (nI kAt)) (.int iTo) (.int iFr) (.long JFi) (.int iFa) (.ref qm3) (.int iSt) iLv iWs vLa (.ref qmu) (.ref qmy) (.ref qmb) (.ref qms) (.int iOm) iB hB) L_X6_229 (preRV (q := (RX6, TX6, 35)) hN hP [0] rfl 0 5 rfl rfl) rfl ⟨Nat.le_of_ble_eq_true rfl, Nat.le_of_ble_eq_true rfl⟩ hl.1 (Nat.le_of_ble_eq_true rfl) (g_182 (v := 229) bX6_write rfl) ⟨Nat.le_of_ble_eq_true rfl, Nat.le_of_ble_eq_true rfl⟩) (fun r_7 h_8 => ?_)
    rcases h_8 with ⟨rfl, h_9⟩ | ⟨rfl, h_9⟩
    · obtain ⟨k_10, hk_11, rfl⟩ := h_9
      refine lv_if_ne (tgt := 25) hx hb dX6_write_15 (by decide +kernel) (fun _ => ?_) (fun h9 => absurd h9 (by decide +kernel))
      refine lv_aload_n hx hb (g_42 bX6_write rfl) rfl (lv_at hl 0 rfl) ?_
      refine lv_iload_n hx hb (g_28 bX6_write rfl) rfl (lv_at hl 2 rfl) ?_
      refine kRi (rV (As := [.int (nI k_10)]) (rest := []) (b := qm) ⟨hx, hb, hml, hown, hts⟩ (c_X6_isWhite l G cy qm (.ref qmh) (.ref qmo) (.ref qmz) (.ref qmR) (.ref qmv) (.ref qmk) (.ref qma) (.ref qmt) (.int (nI kZ)) (.ref qmr) tA qmB qmO qmK iEn iTk (ov uP) (ov uU) (.int (nI kAt)) (.int iTo) (.int iFr) (.long JFi) (.int iFa) (.ref qm3) (.int iSt) iLv iWs vLa (.ref qmu) (.ref qmy) (.ref qmb) (.ref qms) (.int iOm) rB k_10 (by first | omega | (simp only [nb_sr, np_sr, nb_wr, np_wr, nb_rd, np_rd, nb_ch, np_ch, nb_zr, np_zr, nb_za, np_za, nb_ey, np_ey, nb_hf, np_hf, nb_dd, np_dd, nb_so, np_so, nb_skn, np_skn, nb_swh, np_swh, nb_sgn, np_sgn, nb_ssd, np_ssd, nb_sgo, np_sgo, nb_sag, np_sag]; omega))) L_X6_248 (preRV (q := (RX6, TX6, 35)) hN hP (trueIx 0 [true, true, true, true, true, true, true, true, true, true]) (sel_fm rfl rfl) 0 5 rfl rfl) rfl ⟨Nat.le_of_ble_eq_true rfl, Nat.le_of_ble_eq_true rfl⟩ hl.1 (Nat.le_of_ble_eq_true rfl) (g_182 (v := 248) bX6_write rfl) ⟨Nat.le_of_ble_eq_true rfl, Nat.le_of_ble_eq_true rfl⟩) (fun r_13 h_14 => ?_)
      rcases h_14 with ⟨rfl, h_15⟩ | ⟨rfl, h_15⟩
      · refine lv_if_eq (tgt := 52) hx hb dX6_write_30 (by decide +kernel) (fun h9 => absurd h9 (by decide +kernel)) (fun _ => ?_)
        refine lv_aload_n hx hb (g_42 bX6_write rfl) rfl (lv_at hl 0 rfl) ?_
        refine lv_iload_n hx hb (g_27 bX6_write rfl) rfl (lv_at hl 1 rfl) ?_
        refine kRi (rV (As := [.int (nI k_4)]) (rest := []) (b := qm) ⟨hx, hb, hml, hown, hts⟩ (c_X6_isThere l G cy qm (.ref qmh) (.ref qmo) (.ref qmz) (.ref qmR) (.ref qmv) (.ref qmk) (.ref qma) (.ref qmt) (.int (nI kZ)) (.ref qmr) tA qmB qmO qmK iEn iTk (ov uP) (ov uU) (.int (nI kAt)) (.int iTo) (.int iFr) (.long JFi) (.int iFa) (.ref qm3) (.int iSt) iLv iWs vLa (.ref qmu) (.ref qmy) (.ref qmb) (.ref qms) (.int iOm) rO k_4 (by first | omega | (simp only [nb_sr, np_sr, nb_wr, np_wr, nb_rd, np_rd, nb_ch, np_ch, nb_zr, np_zr, nb_za, np_za, nb_ey, np_ey, nb_hf, np_hf, nb_dd, np_dd, nb_so, np_so, nb_skn, np_skn, nb_swh, np_swh, nb_sgn, np_sgn, nb_ssd, np_ssd, nb_sgo, np_sgo, nb_sag, np_sag]; omega))) L_X6_81 (preRV (q := (RX6, TX6, 35)) hN hP (trueIx 0 [true, false, false, false, false, false, false, false, false, false, true, true, true, true, true, true, true, true, true]) (sel_fm rfl rfl) 0 5 rfl rfl) rfl ⟨Nat.le_of_ble_eq_true rfl, Nat.le_of_ble_eq_true rfl⟩ hl.1 (Nat.le_of_ble_eq_true rfl) (g_182 (v := 81) bX6_write rfl) ⟨Nat.le_of_ble_eq_true rfl, Nat.le_of_ble_eq_true rfl⟩) (fun r_17 h_18 => ?_)
        rcases h_18 with ⟨rfl, h_19⟩ | ⟨rfl, h_19⟩
        · refine lv_if_eq (tgt := 52) hx hb dX6_write_38 (by decide +kernel) (fun h9 => absurd h9 (by decide +kernel)) (fun _ => ?_)
          refine lv_aload_n hx hb (g_42 bX6_write rfl) rfl (lv_at hl 0 rfl) ?_
          refine va_get (D := G) (ci := 5) (v := .ref qmK) (C := RX6) (T := TX6) (N := 35) hx hb hts iX_X6 hown hK hP 0 rfl rfl 14 (by decide +kernel) (hts _ m_t864) (fun _ h9 => h9) rfl (g_180 (v := 48) bX6_write rfl) ?_
          refine lv_iload_n hx hb (g_27 bX6_write rfl) rfl (lv_at hl 1 rfl) ?_
          refine va_alda hx hb hK hP 19 3 rfl rfl (in8 (by omega)) (g_50 bX6_write rfl) ?_
          refine lv_setv (v := .ref (rK k_4)) (g_ref (by omega)) ?_
          refine lv_iload_n hx hb (g_28 bX6_write rfl) rfl (lv_at hl 2 rfl) ?_
          refine va_iald hx hb hK hP (20 + k_4) 0 (sg8 (n0 := 20) (f := (fun j => zzI cy (rK j) 8 (T_kn tA j))) rfl rfl rfl rfl rfl rfl rfl rfl k_4 (by omega)) rfl (vp_in_nI (by omega) (by omega)) (g_46 bX6_write rfl) ?_
          refine lv_seti (v := T_kn tA k_4 k_10) (congrArg (T_kn tA k_4) (nI_clamp (by omega))) ?_
          refine lv_if_ne (tgt := 59) hx hb dX6_write_49 (by decide +kernel) (fun c_21 => ?_) (fun c_21 => ?_)
          · refine lv_aload_n hx hb (g_42 bX6_write rfl) rfl (lv_at hl 0 rfl) ?_
            refine va_get (D := G) (ci := 5) (v := .ref qmB) (C := RX6) (T := TX6) (N := 35) hx hb hts iX_X6 hown hK hP 0 rfl rfl 11 (by decide +kernel) (hts _ m_t861) (fun _ h9 => h9) rfl (g_180 (v := 42) bX6_write rfl) ?_
            refine lv_iload_n hx hb (g_28 bX6_write rfl) rfl (lv_at hl 2 rfl) ?_
            refine va_alda hx hb hK hP 1 3 rfl rfl (in8 (by omega)) (g_50 bX6_write rfl) ?_
            refine lv_setv (v := .ref (rB k_10)) (g_ref (by omega)) ?_
            refine lv_iconst (v := 2) hx hb (g_5 bX6_write rfl) (by decide +kernel) ?_
            refine lv_aload_n hx hb (g_42 bX6_write rfl) rfl (lv_at hl 0 rfl) ?_
            refine va_get (D := G) (ci := 5) (v := .ref qmK) (C := RX6) (T := TX6) (N := 35) hx hb hts iX_X6 hown hK hP 0 rfl rfl 14 (by decide +kernel) (hts _ m_t864) (fun _ h9 => h9) rfl (g_180 (v := 48) bX6_write rfl) ?_
            refine lv_iload_n hx hb (g_27 bX6_write rfl) rfl (lv_at hl 1 rfl) ?_
            refine va_alda hx hb hK hP 19 3 rfl rfl (in8 (by omega)) (g_50 bX6_write rfl) ?_
            refine lv_setv (v := .ref (rK k_4)) (g_ref (by omega)) ?_
            refine lv_iload_n hx hb (g_28 bX6_write rfl) rfl (lv_at hl 2 rfl) ?_
            refine va_iald hx hb hK hP (20 + k_4) 0 (sg8 (n0 := 20) (f := (fun j => zzI cy (rK j) 8 (T_kn tA j))) rfl rfl rfl rfl rfl rfl rfl rfl k_4 (by omega)) rfl (vp_in_nI (by omega) (by omega)) (g_46 bX6_write rfl) ?_
            refine lv_seti (v := T_kn tA k_4 k_10) (congrArg (T_kn tA k_4) (nI_clamp (by omega))) ?_
            refine va_iast hx hb hK hP hD hS (2 + k_10) 0 ((sg8 (n0 := 2) (f := (fun j => zzI cy (rB j) 4 (bkR tA j))) rfl rfl rfl rfl rfl rfl rfl rfl) k_10 (by omega)) rfl (in_c rfl) (g_79 bX6_write rfl) (fun H locs => ?_)
            clear hP hD hS
            intro hP hD hS
            have hPD := st8PD (ws' := [zzO qm 5 (.ref qmh :: .ref qmo :: .ref qmz :: .ref qmR :: .ref qmv :: .ref qmk :: .ref qma :: .ref qmt :: .int (nI kZ) :: .ref qmr :: .int (nI (T_nb (T_setgo tA (upd (T_go tA) k_10 (T_kn tA k_4 k_10))))) :: .ref qmB :: .int (nI (T_np (T_setgo tA (upd (T_go tA) k_10 (T_kn tA k_4 k_10))))) :: .ref qmO :: .ref qmK :: .int iEn :: .int iTk :: .int (T_sd (T_setgo tA (upd (T_go tA) k_10 (T_kn tA k_4 k_10)))) :: ov uP :: ov uU :: .int (nI kAt) :: .int iTo :: .int iFr :: .long JFi :: .int iFa :: .ref qm3 :: .int iSt :: .int iLv :: .int iWs :: vLa :: .ref qmu :: .ref qmy :: .ref qmb :: .ref qms :: .int iOm :: []), zzG cy 3 qmB rB, zzI cy (rB 0) 4 (bkR (T_setgo tA (upd (T_go tA) k_10 (T_kn tA k_4 k_10))) 0), zzI cy (rB 1) 4 (bkR (T_setgo tA (upd (T_go tA) k_10 (T_kn tA k_4 k_10))) 1), zzI cy (rB 2) 4 (bkR (T_setgo tA (upd (T_go tA) k_10 (T_kn tA k_4 k_10))) 2), zzI cy (rB 3) 4 (bkR (T_setgo tA (upd (T_go tA) k_10 (T_kn tA k_4 k_10))) 3), zzI cy (rB 4) 4 (bkR (T_setgo tA (upd (T_go tA) k_10 (T_kn tA k_4 k_10))) 4), zzI cy (rB 5) 4 (bkR (T_setgo tA (upd (T_go tA) k_10 (T_kn tA k_4 k_10))) 5), zzI cy (rB 6) 4 (bkR (T_setgo tA (upd (T_go tA) k_10 (T_kn tA k_4 k_10))) 6), zzI cy (rB 7) 4 (bkR (T_setgo tA (upd (T_go tA) k_10 (T_kn tA k_4 k_10))) 7), zzG cy 3 qmO rO, zzI cy (rO 0) 5 (onR (T_setgo tA (upd (T_go tA) k_10 (T_kn tA k_4 k_10))) 0), zzI cy (rO 1) 5 (onR (T_setgo tA (upd (T_go tA) k_10 (T_kn tA k_4 k_10))) 1), zzI cy (rO 2) 5 (onR (T_setgo tA (upd (T_go tA) k_10 (T_kn tA k_4 k_10))) 2), zzI cy (rO 3) 5 (onR (T_setgo tA (upd (T_go tA) k_10 (T_kn tA k_4 k_10))) 3), zzI cy (rO 4) 5 (onR (T_setgo tA (upd (T_go tA) k_10 (T_kn tA k_4 k_10))) 4), zzI cy (rO 5) 5 (onR (T_setgo tA (upd (T_go tA) k_10 (T_kn tA k_4 k_10))) 5), zzI cy (rO 6) 5 (onR (T_setgo tA (upd (T_go tA) k_10 (T_kn tA k_4 k_10))) 6), zzI cy (rO 7) 5 (onR (T_setgo tA (upd (T_go tA) k_10 (T_kn tA k_4 k_10))) 7), zzG cy 3 qmK rK, zzI cy (rK 0) 8 (T_kn (T_setgo tA (upd (T_go tA) k_10 (T_kn tA k_4 k_10))) 0), zzI cy (rK 1) 8 (T_kn (T_setgo tA (upd (T_go tA) k_10 (T_kn tA k_4 k_10))) 1), zzI cy (rK 2) 8 (T_kn (T_setgo tA (upd (T_go tA) k_10 (T_kn tA k_4 k_10))) 2), zzI cy (rK 3) 8 (T_kn (T_setgo tA (upd (T_go tA) k_10 (T_kn tA k_4 k_10))) 3), zzI cy (rK 4) 8 (T_kn (T_setgo tA (upd (T_go tA) k_10 (T_kn tA k_4 k_10))) 4), zzI cy (rK 5) 8 (T_kn (T_setgo tA (upd (T_go tA) k_10 (T_kn tA k_4 k_10))) 5), zzI cy (rK 6) 8 (T_kn (T_setgo tA (upd (T_go tA) k_10 (T_kn tA k_4 k_10))) 6), zzI cy (rK 7) 8 (T_kn (T_setgo tA (upd (T_go tA) k_10 (T_kn tA k_4 k_10))) 7), zzI cy qmr 8 fMr]) (k := k_10) (g1 := bkR (T_setgo tA (upd (T_go tA) k_10 (T_kn tA k_4 k_10))) k_10) hP hD (sg8 (n0 := 2) (f := (fun j => zzI cy (rB j) 4 (bkR tA j))) rfl rfl rfl rfl rfl rfl rfl rfl) (sg8 (n0 := 2) (f := (fun j => zzI cy (rB j) 4 (bkR (T_setgo tA (upd (T_go tA) k_10 (T_kn tA k_4 k_10))) j))) rfl rfl rfl rfl rfl rfl rfl rfl) rfl rfl (by omega) rfl (fun i _ => (congrFun (bk_u2 tA k_10 (T_kn tA k_4 k_10)) i).symm) (fun j hj => congrArg (zzI cy (rB j) 4) (bk_n2 tA k_10 (T_kn tA k_4 k_10) hj))
            clear hP hD
            obtain ⟨hP, hD⟩ := hPD
            refine lv_aload_n hx hb (g_42 bX6_write rfl) rfl (lv_at hl 0 rfl) ?_
            refine va_get (D := G) (ci := 5) (v := .ref qmB) (C := RX6) (T := TX6) (N := 35) hx hb hts iX_X6 hown hK hP 0 rfl rfl 11 (by decide +kernel) (hts _ m_t861) (fun _ h9 => h9) rfl (g_180 (v := 42) bX6_write rfl) ?_
            refine lv_iload_n hx hb (g_28 bX6_write rfl) rfl (lv_at hl 2 rfl) ?_
            refine va_alda hx hb hK hP 1 3 rfl rfl (in8 (by omega)) (g_50 bX6_write rfl) ?_
            refine lv_setv (v := .ref (rB k_10)) (g_ref (by omega)) ?_
            refine lv_iconst (v := 3) hx hb (g_6 bX6_write rfl) (by decide +kernel) ?_
            refine lv_iconst (v := 0) hx hb (g_3 bX6_write rfl) (by decide +kernel) ?_
            refine va_iast hx hb hK hP hD hS (2 + k_10) 0 ((sg8 (n0 := 2) (f := (fun j => zzI cy (rB j) 4 (bkR (T_setgo tA (upd (T_go tA) k_10 (T_kn tA k_4 k_10))) j))) rfl rfl rfl rfl rfl rfl rfl rfl) k_10 (by omega)) rfl (in_c rfl) (g_79 bX6_write rfl) (fun H locs => ?_)
            clear hP hD hS
            intro hP hD hS
            have hPD := st8PD (ws' := [zzO qm 5 (.ref qmh :: .ref qmo :: .ref qmz :: .ref qmR :: .ref qmv :: .ref qmk :: .ref qma :: .ref qmt :: .int (nI kZ) :: .ref qmr :: .int (nI (T_nb (T_setwh (T_setgo tA (upd (T_go tA) k_10 (T_kn tA k_4 k_10))) (updB (T_wh (T_setgo tA (upd (T_go tA) k_10 (T_kn tA k_4 k_10)))) k_10 false)))) :: .ref qmB :: .int (nI (T_np (T_setwh (T_setgo tA (upd (T_go tA) k_10 (T_kn tA k_4 k_10))) (updB (T_wh (T_setgo tA (upd (T_go tA) k_10 (T_kn tA k_4 k_10)))) k_10 false)))) :: .ref qmO :: .ref qmK :: .int iEn :: .int iTk :: .int (T_sd (T_setwh (T_setgo tA (upd (T_go tA) k_10 (T_kn tA k_4 k_10))) (updB (T_wh (T_setgo tA (upd (T_go tA) k_10 (T_kn tA k_4 k_10)))) k_10 false))) :: ov uP :: ov uU :: .int (nI kAt) :: .int iTo :: .int iFr :: .long JFi :: .int iFa :: .ref qm3 :: .int iSt :: .int iLv :: .int iWs :: vLa :: .ref qmu :: .ref qmy :: .ref qmb :: .ref qms :: .int iOm :: []), zzG cy 3 qmB rB, zzI cy (rB 0) 4 (bkR (T_setwh (T_setgo tA (upd (T_go tA) k_10 (T_kn tA k_4 k_10))) (updB (T_wh (T_setgo tA (upd (T_go tA) k_10 (T_kn tA k_4 k_10)))) k_10 false)) 0), zzI cy (rB 1) 4 (bkR (T_setwh (T_setgo tA (upd (T_go tA) k_10 (T_kn tA k_4 k_10))) (updB (T_wh (T_setgo tA (upd (T_go tA) k_10 (T_kn tA k_4 k_10)))) k_10 false)) 1), zzI cy (rB 2) 4 (bkR (T_setwh (T_setgo tA (upd (T_go tA) k_10 (T_kn tA k_4 k_10))) (updB (T_wh (T_setgo tA (upd (T_go tA) k_10 (T_kn tA k_4 k_10)))) k_10 false)) 2), zzI cy (rB 3) 4 (bkR (T_setwh (T_setgo tA (upd (T_go tA) k_10 (T_kn tA k_4 k_10))) (updB (T_wh (T_setgo tA (upd (T_go tA) k_10 (T_kn tA k_4 k_10)))) k_10 false)) 3), zzI cy (rB 4) 4 (bkR (T_setwh (T_setgo tA (upd (T_go tA) k_10 (T_kn tA k_4 k_10))) (updB (T_wh (T_setgo tA (upd (T_go tA) k_10 (T_kn tA k_4 k_10)))) k_10 false)) 4), zzI cy (rB 5) 4 (bkR (T_setwh (T_setgo tA (upd (T_go tA) k_10 (T_kn tA k_4 k_10))) (updB (T_wh (T_setgo tA (upd (T_go tA) k_10 (T_kn tA k_4 k_10)))) k_10 false)) 5), zzI cy (rB 6) 4 (bkR (T_setwh (T_setgo tA (upd (T_go tA) k_10 (T_kn tA k_4 k_10))) (updB (T_wh (T_setgo tA (upd (T_go tA) k_10 (T_kn tA k_4 k_10)))) k_10 false)) 6), zzI cy (rB 7) 4 (bkR (T_setwh (T_setgo tA (upd (T_go tA) k_10 (T_kn tA k_4 k_10))) (updB (T_wh (T_setgo tA (upd (T_go tA) k_10 (T_kn tA k_4 k_10)))) k_10 false)) 7), zzG cy 3 qmO rO, zzI cy (rO 0) 5 (onR (T_setwh (T_setgo tA (upd (T_go tA) k_10 (T_kn tA k_4 k_10))) (updB (T_wh (T_setgo tA (upd (T_go tA) k_10 (T_kn tA k_4 k_10)))) k_10 false)) 0), zzI cy (rO 1) 5 (onR (T_setwh (T_setgo tA (upd (T_go tA) k_10 (T_kn tA k_4 k_10))) (updB (T_wh (T_setgo tA (upd (T_go tA) k_10 (T_kn tA k_4 k_10)))) k_10 false)) 1), zzI cy (rO 2) 5 (onR (T_setwh (T_setgo tA (upd (T_go tA) k_10 (T_kn tA k_4 k_10))) (updB (T_wh (T_setgo tA (upd (T_go tA) k_10 (T_kn tA k_4 k_10)))) k_10 false)) 2), zzI cy (rO 3) 5 (onR (T_setwh (T_setgo tA (upd (T_go tA) k_10 (T_kn tA k_4 k_10))) (updB (T_wh (T_setgo tA (upd (T_go tA) k_10 (T_kn tA k_4 k_10)))) k_10 false)) 3), zzI cy (rO 4) 5 (onR (T_setwh (T_setgo tA (upd (T_go tA) k_10 (T_kn tA k_4 k_10))) (updB (T_wh (T_setgo tA (upd (T_go tA) k_10 (T_kn tA k_4 k_10)))) k_10 false)) 4), zzI cy (rO 5) 5 (onR (T_setwh (T_setgo tA (upd (T_go tA) k_10 (T_kn tA k_4 k_10))) (updB (T_wh (T_setgo tA (upd (T_go tA) k_10 (T_kn tA k_4 k_10)))) k_10 false)) 5), zzI cy (rO 6) 5 (onR (T_setwh (T_setgo tA (upd (T_go tA) k_10 (T_kn tA k_4 k_10))) (updB (T_wh (T_setgo tA (upd (T_go tA) k_10 (T_kn tA k_4 k_10)))) k_10 false)) 6), zzI cy (rO 7) 5 (onR (T_setwh (T_setgo tA (upd (T_go tA) k_10 (T_kn tA k_4 k_10))) (updB (T_wh (T_setgo tA (upd (T_go tA) k_10 (T_kn tA k_4 k_10)))) k_10 false)) 7), zzG cy 3 qmK rK, zzI cy (rK 0) 8 (T_kn (T_setwh (T_setgo tA (upd (T_go tA) k_10 (T_kn tA k_4 k_10))) (updB (T_wh (T_setgo tA (upd (T_go tA) k_10 (T_kn tA k_4 k_10)))) k_10 false)) 0), zzI cy (rK 1) 8 (T_kn (T_setwh (T_setgo tA (upd (T_go tA) k_10 (T_kn tA k_4 k_10))) (updB (T_wh (T_setgo tA (upd (T_go tA) k_10 (T_kn tA k_4 k_10)))) k_10 false)) 1), zzI cy (rK 2) 8 (T_kn (T_setwh (T_setgo tA (upd (T_go tA) k_10 (T_kn tA k_4 k_10))) (updB (T_wh (T_setgo tA (upd (T_go tA) k_10 (T_kn tA k_4 k_10)))) k_10 false)) 2), zzI cy (rK 3) 8 (T_kn (T_setwh (T_setgo tA (upd (T_go tA) k_10 (T_kn tA k_4 k_10))) (updB (T_wh (T_setgo tA (upd (T_go tA) k_10 (T_kn tA k_4 k_10)))) k_10 false)) 3), zzI cy (rK 4) 8 (T_kn (T_setwh (T_setgo tA (upd (T_go tA) k_10 (T_kn tA k_4 k_10))) (updB (T_wh (T_setgo tA (upd (T_go tA) k_10 (T_kn tA k_4 k_10)))) k_10 false)) 4), zzI cy (rK 5) 8 (T_kn (T_setwh (T_setgo tA (upd (T_go tA) k_10 (T_kn tA k_4 k_10))) (updB (T_wh (T_setgo tA (upd (T_go tA) k_10 (T_kn tA k_4 k_10)))) k_10 false)) 5), zzI cy (rK 6) 8 (T_kn (T_setwh (T_setgo tA (upd (T_go tA) k_10 (T_kn tA k_4 k_10))) (updB (T_wh (T_setgo tA (upd (T_go tA) k_10 (T_kn tA k_4 k_10)))) k_10 false)) 6), zzI cy (rK 7) 8 (T_kn (T_setwh (T_setgo tA (upd (T_go tA) k_10 (T_kn tA k_4 k_10))) (updB (T_wh (T_setgo tA (upd (T_go tA) k_10 (T_kn tA k_4 k_10)))) k_10 false)) 7), zzI cy qmr 8 fMr]) (k := k_10) (g1 := bkR (T_setwh (T_setgo tA (upd (T_go tA) k_10 (T_kn tA k_4 k_10))) (updB (T_wh (T_setgo tA (upd (T_go tA) k_10 (T_kn tA k_4 k_10)))) k_10 false)) k_10) hP hD (sg8 (n0 := 2) (f := (fun j => zzI cy (rB j) 4 (bkR (T_setgo tA (upd (T_go tA) k_10 (T_kn tA k_4 k_10))) j))) rfl rfl rfl rfl rfl rfl rfl rfl) (sg8 (n0 := 2) (f := (fun j => zzI cy (rB j) 4 (bkR (T_setwh (T_setgo tA (upd (T_go tA) k_10 (T_kn tA k_4 k_10))) (updB (T_wh (T_setgo tA (upd (T_go tA) k_10 (T_kn tA k_4 k_10)))) k_10 false)) j))) rfl rfl rfl rfl rfl rfl rfl rfl) rfl rfl (by omega) rfl (bk_w3 (T_setgo tA (upd (T_go tA) k_10 (T_kn tA k_4 k_10))) k_10 false) (fun j hj => congrArg (zzI cy (rB j) 4) (bk_n3 (T_setgo tA (upd (T_go tA) k_10 (T_kn tA k_4 k_10))) k_10 false hj))
            clear hP hD
            obtain ⟨hP, hD⟩ := hPD
            refine lv_aload_n hx hb (g_42 bX6_write rfl) rfl (lv_at hl 0 rfl) ?_
            refine va_get (D := G) (ci := 5) (v := .ref qmB) (C := RX6) (T := TX6) (N := 35) hx hb hts iX_X6 hown hK hP 0 rfl rfl 11 (by decide +kernel) (hts _ m_t861) (fun _ h9 => h9) rfl (g_180 (v := 42) bX6_write rfl) ?_
            refine lv_iload_n hx hb (g_28 bX6_write rfl) rfl (lv_at hl 2 rfl) ?_
            refine va_alda hx hb hK hP 1 3 rfl rfl (in8 (by omega)) (g_50 bX6_write rfl) ?_
            refine lv_setv (v := .ref (rB k_10)) (g_ref (by omega)) ?_
            refine lv_iconst (v := 2) hx hb (g_5 bX6_write rfl) (by decide +kernel) ?_
            refine va_iald hx hb hK hP (2 + k_10) 0 (sg8 (n0 := 2) (f := (fun j => zzI cy (rB j) 4 (bkR (T_setwh (T_setgo tA (upd (T_go tA) k_10 (T_kn tA k_4 k_10))) (updB (T_wh (T_setgo tA (upd (T_go tA) k_10 (T_kn tA k_4 k_10)))) k_10 false)) j))) rfl rfl rfl rfl rfl rfl rfl rfl k_10 (by omega)) rfl (in_c rfl) (g_46 bX6_write rfl) ?_
            refine lv_seti (v := T_go (T_setwh (T_setgo tA (upd (T_go tA) k_10 (T_kn tA k_4 k_10))) (updB (T_wh (T_setgo tA (upd (T_go tA) k_10 (T_kn tA k_4 k_10)))) k_10 false)) k_10) (bk_2 _ _) ?_
            exact endWs [[true, true, true, true, true, true, true, true, true, true, true, true, true, true, true, true, true, true, true, true, true, true, true, true, true, true, true, true, true]] hx hb hr hlocks rfl hP hD rfl (by decide +kernel) hS ⟨(T_setwh (T_setgo tA (upd (T_go tA) k_10 (T_kn tA k_4 k_10))) (updB (T_wh (T_setgo tA (upd (T_go tA) k_10 (T_kn tA k_4 k_10)))) k_10 false)), fMr, rfl, TI_go hTI (hTI.2.1 _ _), trivial⟩ (g_172 bX6_write rfl)
          · refine lv_aload_n hx hb (g_42 bX6_write rfl) rfl (lv_at hl 0 rfl) ?_
            refine lv_bipush (v := (-5)) hx hb dX6_write_53 (by decide +kernel) ?_
            refine cVi (As := [.int (-5)]) (rest := []) (b := qm) (q := (RX6, TX6, 35)) ⟨hx, hb, hml, hown, hts⟩ (c_X6_refuse5 l G cy (s.heap).size qm (.ref qmh) (.ref qmo) (.ref qmz) (.ref qmR) (.ref qmv) (.ref qmk) (.ref qma) (.ref qmt) (.int (nI kZ)) qmr tA qmB qmO qmK iEn iTk (ov uP) (ov uU) (.int (nI kAt)) (.int iTo) (.int iFr) (.long JFi) (.int iFa) (.ref qm3) (.int iSt) iLv iWs vLa (.ref qmu) (.ref qmy) (.ref qmb) (.ref qms) (.int iOm) fMr) L_X6_91 hN hP hD hS hA [0, 28] [false, true, true, true, true, true, true, true, true, true, true, true, true, true, true, true, true, true, true, true, true, true, true, true, true, true, true, true, false] rfl (by decide +kernel) rfl 0 5 rfl rfl rfl ⟨Nat.le_of_ble_eq_true rfl, Nat.le_of_ble_eq_true rfl⟩ hl.1 (Nat.le_of_ble_eq_true rfl) (g_182 (v := 91) bX6_write rfl) ⟨Nat.le_of_ble_eq_true rfl, Nat.le_of_ble_eq_true rfl⟩ (fun r_22 u_24 H locs h_23 => ?_)
            clear hP hD hS
            intro hP hD hS
            obtain ⟨fX_25, hu9, h_23⟩ := h_23
            have hPD := pd_eq [_, _, _, _, _, _, _, _, _, _, _, _, _, _, _, _, _, _, _, _, _, _, _, _, _, _, _, _, zzI cy qmr 8 fX_25] hP hD hu9 rfl
            clear hP hD hu9
            obtain ⟨hP, hD⟩ := hPD
            subst h_23
            exact endWs [[false, false, false, false, false, false, false, false, false, false, false, false, false, false, false, false, false, false, false, false, false, false, false, false, false, false, false, true], [true, true, true, true, true, true, true, true, true, true, true, true, true, true, true, true, true, true, true, true, true, true, true, true, true, true, true, false, true]] hx hb hr hlocks rfl hP hD rfl (by decide +kernel) hS ⟨tA, fX_25, rfl, hTI, trivial⟩ (g_172 bX6_write rfl)
        · refine lv_if_eq (tgt := 52) hx hb dX6_write_38 (by decide +kernel) (fun _ => ?_) (fun h9 => absurd (by decide +kernel) h9)
          refine lv_aload_n hx hb (g_42 bX6_write rfl) rfl (lv_at hl 0 rfl) ?_
          refine lv_bipush (v := (-5)) hx hb dX6_write_53 (by decide +kernel) ?_
          refine cVi (As := [.int (-5)]) (rest := []) (b := qm) (q := (RX6, TX6, 35)) ⟨hx, hb, hml, hown, hts⟩ (c_X6_refuse5 l G cy (s.heap).size qm (.ref qmh) (.ref qmo) (.ref qmz) (.ref qmR) (.ref qmv) (.ref qmk) (.ref qma) (.ref qmt) (.int (nI kZ)) qmr tA qmB qmO qmK iEn iTk (ov uP) (ov uU) (.int (nI kAt)) (.int iTo) (.int iFr) (.long JFi) (.int iFa) (.ref qm3) (.int iSt) iLv iWs vLa (.ref qmu) (.ref qmy) (.ref qmb) (.ref qms) (.int iOm) fMr) L_X6_91 hN hP hD hS hA [0, 28] [false, true, true, true, true, true, true, true, true, true, true, true, true, true, true, true, true, true, true, true, true, true, true, true, true, true, true, true, false] rfl (by decide +kernel) rfl 0 5 rfl rfl rfl ⟨Nat.le_of_ble_eq_true rfl, Nat.le_of_ble_eq_true rfl⟩ hl.1 (Nat.le_of_ble_eq_true rfl) (g_182 (v := 91) bX6_write rfl) ⟨Nat.le_of_ble_eq_true rfl, Nat.le_of_ble_eq_true rfl⟩ (fun r_27 u_29 H locs h_28 => ?_)
          clear hP hD hS
          intro hP hD hS
          obtain ⟨fX_30, hu9, h_28⟩ := h_28
          have hPD := pd_eq [_, _, _, _, _, _, _, _, _, _, _, _, _, _, _, _, _, _, _, _, _, _, _, _, _, _, _, _, zzI cy qmr 8 fX_30] hP hD hu9 rfl
          clear hP hD hu9
          obtain ⟨hP, hD⟩ := hPD
          subst h_28
          exact endWs [[false, false, false, false, false, false, false, false, false, false, false, false, false, false, false, false, false, false, false, false, false, false, false, false, false, false, false, true], [true, true, true, true, true, true, true, true, true, true, true, true, true, true, true, true, true, true, true, true, true, true, true, true, true, true, true, false, true]] hx hb hr hlocks rfl hP hD rfl (by decide +kernel) hS ⟨tA, fX_30, rfl, hTI, trivial⟩ (g_172 bX6_write rfl)
      · refine lv_if_eq (tgt := 52) hx hb dX6_write_30 (by decide +kernel) (fun _ => ?_) (fun h9 => absurd (by decide +kernel) h9)
        refine lv_aload_n hx hb (g_42 bX6_write rfl) rfl (lv_at hl 0 rfl) ?_
        refine lv_bipush (v := (-5)) hx hb dX6_write_53 (by decide +kernel) ?_
        refine cVi (As := [.int (-5)]) (rest := []) (b := qm) (q := (RX6, TX6, 35)) ⟨hx, hb, hml, hown, hts⟩ (c_X6_refuse5 l G cy (s.heap).size qm (.ref qmh) (.ref qmo) (.ref qmz) (.ref qmR) (.ref qmv) (.ref qmk) (.ref qma) (.ref qmt) (.int (nI kZ)) qmr tA qmB qmO qmK iEn iTk (ov uP) (ov uU) (.int (nI kAt)) (.int iTo) (.int iFr) (.long JFi) (.int iFa) (.ref qm3) (.int iSt) iLv iWs vLa (.ref qmu) (.ref qmy) (.ref qmb) (.ref qms) (.int iOm) fMr) L_X6_91 hN hP hD hS hA [0, 28] [false, true, true, true, true, true, true, true, true, true, true, true, true, true, true, true, true, true, true, true, true, true, true, true, true, true, true, true, false] rfl (by decide +kernel) rfl 0 5 rfl rfl rfl ⟨Nat.le_of_ble_eq_true rfl, Nat.le_of_ble_eq_true rfl⟩ hl.1 (Nat.le_of_ble_eq_true rfl) (g_182 (v := 91) bX6_write rfl) ⟨Nat.le_of_ble_eq_true rfl, Nat.le_of_ble_eq_true rfl⟩ (fun r_32 u_34 H locs h_33 => ?_)
        clear hP hD hS
        intro hP hD hS
        obtain ⟨fX_35, hu9, h_33⟩ := h_33
        have hPD := pd_eq [_, _, _, _, _, _, _, _, _, _, _, _, _, _, _, _, _, _, _, _, _, _, _, _, _, _, _, _, zzI cy qmr 8 fX_35] hP hD hu9 rfl
        clear hP hD hu9
        obtain ⟨hP, hD⟩ := hPD
        subst h_33
        exact endWs [[false, false, false, false, false, false, false, false, false, false, false, false, false, false, false, false, false, false, false, false, false, false, false, false, false, false, false, true], [true, true, true, true, true, true, true, true, true, true, true, true, true, true, true, true, true, true, true, true, true, true, true, true, true, true, true, false, true]] hx hb hr hlocks rfl hP hD rfl (by decide +kernel) hS ⟨tA, fX_35, rfl, hTI, trivial⟩ (g_172 bX6_write rfl)
    · refine lv_if_ne (tgt := 25) hx hb dX6_write_15 (by decide +kernel) (fun h9 => absurd (by decide +kernel) h9) (fun _ => ?_)
      refine lv_aload_n hx hb (g_42 bX6_write rfl) rfl (lv_at hl 0 rfl) ?_
      refine lv_bipush (v := (-2)) hx hb dX6_write_19 (by decide +kernel) ?_
      refine cVi (As := [.int (-2)]) (rest := []) (b := qm) (q := (RX6, TX6, 35)) ⟨hx, hb, hml, hown, hts⟩ (c_X6_refuse2 l G cy (s.heap).size qm (.ref qmh) (.ref qmo) (.ref qmz) (.ref qmR) (.ref qmv) (.ref qmk) (.ref qma) (.ref qmt) (.int (nI kZ)) qmr tA qmB qmO qmK iEn iTk (ov uP) (ov uU) (.int (nI kAt)) (.int iTo) (.int iFr) (.long JFi) (.int iFa) (.ref qm3) (.int iSt) iLv iWs vLa (.ref qmu) (.ref qmy) (.ref qmb) (.ref qms) (.int iOm) fMr) L_X6_91 hN hP hD hS hA [0, 28] [false, true, true, true, true, true, true, true, true, true, true, true, true, true, true, true, true, true, true, true, true, true, true, true, true, true, true, true, false] rfl (by decide +kernel) rfl 0 5 rfl rfl rfl ⟨Nat.le_of_ble_eq_true rfl, Nat.le_of_ble_eq_true rfl⟩ hl.1 (Nat.le_of_ble_eq_true rfl) (g_182 (v := 91) bX6_write rfl) ⟨Nat.le_of_ble_eq_true rfl, Nat.le_of_ble_eq_true rfl⟩ (fun r_37 u_39 H locs h_38 => ?_)
      clear hP hD hS
      intro hP hD hS
      obtain ⟨fX_40, hu9, h_38⟩ := h_38
      have hPD := pd_eq [_, _, _, _, _, _, _, _, _, _, _, _, _, _, _, _, _, _, _, _, _, _, _, _, _, _, _, _, zzI cy qmr 8 fX_40] hP hD hu9 rfl
      clear hP hD hu9
      obtain ⟨hP, hD⟩ := hPD
      subst h_38
      exact endWs [[false, false, false, false, false, false, false, false, false, false, false, false, false, false, false, false, false, false, false, false, false, false, false, false, false, false, false, true], [true, true, true, true, true, true, true, true, true, true, true, true, true, true, true, true, true, true, true, true, true, true, true, true, true, true, true, false, true]] hx hb hr hlocks rfl hP hD rfl (by decide +kernel) hS ⟨tA, fX_40, rfl, hTI, trivial⟩ (g_172 bX6_write rfl)
  · refine lv_if_eq (tgt := 18) hx hb dX6_write_6 (by decide +kernel) (fun _ => ?_) (fun h9 => absurd (by decide +kernel) h9)
    refine lv_aload_n hx hb (g_42 bX6_write rfl) rfl (lv_at hl 0 rfl) ?_
    refine lv_bipush (v := (-2)) hx hb dX6_write_19 (by decide +kernel) ?_
    refine cVi (As := [.int (-2)]) (rest := []) (b := qm) (q := (RX6, TX6, 35)) ⟨hx, hb, hml, hown, hts⟩ (c_X6_refuse2 l G cy (s.heap).size qm (.ref qmh) (.ref qmo) (.ref qmz) (.ref qmR) (.ref qmv) (.ref qmk) (.ref qma) (.ref qmt) (.int (nI kZ)) qmr tA qmB qmO qmK iEn iTk (ov uP) (ov uU) (.int (nI kAt)) (.int iTo) (.int iFr) (.long JFi) (.int iFa) (.ref qm3) (.int iSt) iLv iWs vLa (.ref qmu) (.ref qmy) (.ref qmb) (.ref qms) (.int iOm) fMr) L_X6_91 hN hP hD hS hA [0, 28] [false, true, true, true, true, true, true, true, true, true, true, true, true, true, true, true, true, true, true, true, true, true, true, true, true, true, true, true, false] rfl (by decide +kernel) rfl 0 5 rfl rfl rfl ⟨Nat.le_of_ble_eq_true rfl, Nat.le_of_ble_eq_true rfl⟩ hl.1 (Nat.le_of_ble_eq_true rfl) (g_182 (v := 91) bX6_write rfl) ⟨Nat.le_of_ble_eq_true rfl, Nat.le_of_ble_eq_true rfl⟩ (fun r_42 u_44 H locs h_43 => ?_)
    clear hP hD hS
    intro hP hD hS
    obtain ⟨fX_45, hu9, h_43⟩ := h_43
    have hPD := pd_eq [_, _, _, _, _, _, _, _, _, _, _, _, _, _, _, _, _, _, _, _, _, _, _, _, _, _, _, _, zzI cy qmr 8 fX_45] hP hD hu9 rfl
    clear hP hD hu9
    obtain ⟨hP, hD⟩ := hPD
    subst h_43
    exact endWs [[false, false, false, false, false, false, false, false, false, false, false, false, false, false, false, false, false, false, false, false, false, false, false, false, false, false, false, true], [true, true, true, true, true, true, true, true, true, true, true, true, true, true, true, true, true, true, true, true, true, true, true, true, true, true, true, false, true]] hx hb hr hlocks rfl hP hD rfl (by decide +kernel) hS ⟨tA, fX_45, rfl, hTI, trivial⟩ (g_172 bX6_write rfl)
set_option maxHeartbeats 4000000 in
set_option maxRecDepth 100000 in
theorem p_X6_value (l : Launch) (G : va_G) (cy : Nat → ClassId) (qm : Nat) (qmh : Nat) (qmo : Nat) (qmz : Nat) (qmR : Nat) (qmv : Nat) (qmk : Nat) (qma : Nat) (qmt : Nat) (kZ : Nat) (qmr : Nat) (tA : TA) (qmB : Nat) (qmO : Nat) (qmK : Nat) (iEn : Int32) (iTk : Int32) (uP : UM) (uU : UM) (kAt : Nat) (iTo : Int32) (iFr : Int32) (JFi : Int64) (iFa : Int32) (qm3 : Nat) (iSt : Int32) (iLv : Int32) (iWs : Int32) (vLa : Value) (qmu : Nat) (qmy : Nat) (qmb : Nat) (qms : Nat) (iOm : Int32) (rB : Nat → Nat) (rO : Nat → Nat) (rK : Nat → Nat)  (hB : T_nb tA ≤ 8) (hPp : T_np tA ≤ 8) (hTI : TI tA) : MR l yX6_value cX6_value 1 (some .int) 16 G cy [zzO qm 5 (.ref qmh :: .ref qmo :: .ref qmz :: .ref qmR :: .ref qmv :: .ref qmk :: .ref qma :: .ref qmt :: .int (nI kZ) :: .ref qmr :: .int (nI (T_nb tA)) :: .ref qmB :: .int (nI (T_np tA)) :: .ref qmO :: .ref qmK :: .int iEn :: .int iTk :: .int (T_sd tA) :: ov uP :: ov uU :: .int (nI kAt) :: .int iTo :: .int iFr :: .long JFi :: .int iFa :: .ref qm3 :: .int iSt :: .int iLv :: .int iWs :: vLa :: .ref qmu :: .ref qmy :: .ref qmb :: .ref qms :: .int iOm :: []), zzG cy 3 qmB rB, zzI cy (rB 0) 4 (bkR tA 0), zzI cy (rB 1) 4 (bkR tA 1), zzI cy (rB 2) 4 (bkR tA 2), zzI cy (rB 3) 4 (bkR tA 3), zzI cy (rB 4) 4 (bkR tA 4), zzI cy (rB 5) 4 (bkR tA 5), zzI cy (rB 6) 4 (bkR tA 6), zzI cy (rB 7) 4 (bkR tA 7), zzG cy 3 qmO rO, zzI cy (rO 0) 5 (onR tA 0), zzI cy (rO 1) 5 (onR tA 1), zzI cy (rO 2) 5 (onR tA 2), zzI cy (rO 3) 5 (onR tA 3), zzI cy (rO 4) 5 (onR tA 4), zzI cy (rO 5) 5 (onR tA 5), zzI cy (rO 6) 5 (onR tA 6), zzI cy (rO 7) 5 (onR tA 7), zzG cy 3 qmK rK, zzI cy (rK 0) 8 (T_kn tA 0), zzI cy (rK 1) 8 (T_kn tA 1), zzI cy (rK 2) 8 (T_kn tA 2), zzI cy (rK 3) 8 (T_kn tA 3), zzI cy (rK 4) 8 (T_kn tA 4), zzI cy (rK 5) 8 (T_kn tA 5), zzI cy (rK 6) 8 (T_kn tA 6), zzI cy (rK 7) 8 (T_kn tA 7)] [.ref qm] (vp_Si (fun r => True)) := by
  refine enR RX6 (by decide +kernel) rfl (Nat.le_of_ble_eq_true rfl) (fun p e s m below meth c ls hx hb hml hown hts hr hlocks hP hN hl => ?_)
  have hK := hN.1
  replace hl : lv_has ls 1 [(0, .ref qm)] := hl
  refine lv_aload_n hx hb (g_42 bX6_value rfl) rfl (lv_at hl 0 rfl) ?_
  refine kRi (rV (As := []) (rest := []) (b := qm) ⟨hx, hb, hml, hown, hts⟩ (c_X6_valueNow l G cy qm (.ref qmh) (.ref qmo) (.ref qmz) (.ref qmR) (.ref qmv) (.ref qmk) (.ref qma) (.ref qmt) (.int (nI kZ)) (.ref qmr) tA qmB qmO qmK iEn iTk (ov uP) (ov uU) (.int (nI kAt)) (.int iTo) (.int iFr) (.long JFi) (.int iFa) (.ref qm3) (.int iSt) iLv iWs vLa (.ref qmu) (.ref qmy) (.ref qmb) (.ref qms) (.int iOm) rB rO rK hB hPp) L_X6_122 (preRV (q := (RX6, TX6, 35)) hN hP (trueIx 0 [true, true, true, true, true, true, true, true, true, true, true, true, true, true, true, true, true, true, true, true, true, true, true, true, true, true, true, true]) (sel_fm rfl rfl) 0 5 rfl rfl) rfl ⟨Nat.le_of_ble_eq_true rfl, Nat.le_of_ble_eq_true rfl⟩ hl.1 (Nat.le_of_ble_eq_true rfl) (g_182 (v := 122) bX6_value rfl) ⟨Nat.le_of_ble_eq_true rfl, Nat.le_of_ble_eq_true rfl⟩) (fun r_1 h_2 => ?_)
  subst h_2
  exact endR hx hb hr hlocks rfl trivial (g_172 bX6_value rfl)
set_option maxHeartbeats 4000000 in
set_option maxRecDepth 100000 in
theorem p_X6_two (l : Launch) (G : va_G) (cy : Nat → ClassId) (sz : Nat) (qm : Nat) (qmh : Nat) (qmo : Nat) (qmz : Nat) (qmR : Nat) (qmv : Nat) (qmk : Nat) (qma : Nat) (qmt : Nat) (kZ : Nat) (qmr : Nat) (tA : TA) (qmB : Nat) (qmO : Nat) (qmK : Nat) (iEn : Int32) (iTk : Int32) (uP : UM) (uU : UM) (kAt : Nat) (iTo : Int32) (iFr : Int32) (JFi : Int64) (iFa : Int32) (qm3 : Nat) (iSt : Int32) (iLv : Int32) (iWs : Int32) (vLa : Value) (qmu : Nat) (qmy : Nat) (qmb : Nat) (qms : Nat) (iOm : Int32) (rB : Nat → Nat) (rO : Nat → Nat) (rK : Nat → Nat) (fMr : Nat → Int32) (iA : Int32) (iB : Int32)  (hB : T_nb tA ≤ 8) (hPp : T_np tA ≤ 8) (hTI : TI tA) : MW l yX6_two cX6_two 3 (some .int) 16 0 0 G cy [zzO qm 5 (.ref qmh :: .ref qmo :: .ref qmz :: .ref qmR :: .ref qmv :: .ref qmk :: .ref qma :: .ref qmt :: .int (nI kZ) :: .ref qmr :: .int (nI (T_nb tA)) :: .ref qmB :: .int (nI (T_np tA)) :: .ref qmO :: .ref qmK :: .int iEn :: .int iTk :: .int (T_sd tA) :: ov uP :: ov uU :: .int (nI kAt) :: .int iTo :: .int iFr :: .long JFi :: .int iFa :: .ref qm3 :: .int iSt :: .int iLv :: .int iWs :: vLa :: .ref qmu :: .ref qmy :: .ref qmb :: .ref qms :: .int iOm :: []), zzG cy 3 qmB rB, zzI cy (rB 0) 4 (bkR tA 0), zzI cy (rB 1) 4 (bkR tA 1), zzI cy (rB 2) 4 (bkR tA 2), zzI cy (rB 3) 4 (bkR tA 3), zzI cy (rB 4) 4 (bkR tA 4), zzI cy (rB 5) 4 (bkR tA 5), zzI cy (rB 6) 4 (bkR tA 6), zzI cy (rB 7) 4 (bkR tA 7), zzG cy 3 qmO rO, zzI cy (rO 0) 5 (onR tA 0), zzI cy (rO 1) 5 (onR tA 1), zzI cy (rO 2) 5 (onR tA 2), zzI cy (rO 3) 5 (onR tA 3), zzI cy (rO 4) 5 (onR tA 4), zzI cy (rO 5) 5 (onR tA 5), zzI cy (rO 6) 5 (onR tA 6), zzI cy (rO 7) 5 (onR tA 7), zzG cy 3 qmK rK, zzI cy (rK 0) 8 (T_kn tA 0), zzI cy (rK 1) 8 (T_kn tA 1), zzI cy (rK 2) 8 (T_kn tA 2), zzI cy (rK 3) 8 (T_kn tA 3), zzI cy (rK 4) 8 (T_kn tA 4), zzI cy (rK 5) 8 (T_kn tA 5), zzI cy (rK 6) 8 (T_kn tA 6), zzI cy (rK 7) 8 (T_kn tA 7), zzI cy qmr 8 fMr] sz [.ref qm, .int iA, .int iB] (Wi G (fun r u => ∃ (fNr : Nat → Int32), u = [zzO qm 5 (.ref qmh :: .ref qmo :: .ref qmz :: .ref qmR :: .ref qmv :: .ref qmk :: .ref qma :: .ref qmt :: .int (nI kZ) :: .ref qmr :: .int (nI (T_nb tA)) :: .ref qmB :: .int (nI (T_np tA)) :: .ref qmO :: .ref qmK :: .int iEn :: .int iTk :: .int (T_sd tA) :: ov uP :: ov uU :: .int (nI kAt) :: .int iTo :: .int iFr :: .long JFi :: .int iFa :: .ref qm3 :: .int iSt :: .int iLv :: .int iWs :: vLa :: .ref qmu :: .ref qmy :: .ref qmb :: .ref qms :: .int iOm :: []), zzG cy 3 qmB rB, zzI cy (rB 0) 4 (bkR tA 0), zzI cy (rB 1) 4 (bkR tA 1), zzI cy (rB 2) 4 (bkR tA 2), zzI cy (rB 3) 4 (bkR tA 3), zzI cy (rB 4) 4 (bkR tA 4), zzI cy (rB 5) 4 (bkR tA 5), zzI cy (rB 6) 4 (bkR tA 6), zzI cy (rB 7) 4 (bkR tA 7), zzG cy 3 qmO rO, zzI cy (rO 0) 5 (onR tA 0), zzI cy (rO 1) 5 (onR tA 1), zzI cy (rO 2) 5 (onR tA 2), zzI cy (rO 3) 5 (onR tA 3), zzI cy (rO 4) 5 (onR tA 4), zzI cy (rO 5) 5 (onR tA 5), zzI cy (rO 6) 5 (onR tA 6), zzI cy (rO 7) 5 (onR tA 7), zzG cy 3 qmK rK, zzI cy (rK 0) 8 (T_kn tA 0), zzI cy (rK 1) 8 (T_kn tA 1), zzI cy (rK 2) 8 (T_kn tA 2), zzI cy (rK 3) 8 (T_kn tA 3), zzI cy (rK 4) 8 (T_kn tA 4), zzI cy (rK 5) 8 (T_kn tA 5), zzI cy (rK 6) 8 (T_kn tA 6), zzI cy (rK 7) 8 (T_kn tA 7), zzI cy qmr 8 fNr] ∧ (True))) := by
  refine enW RX6 (by decide +kernel) rfl (Nat.le_of_ble_eq_true rfl) (fun p e s m below meth c ls A hx hb hml hown hts hr hlocks hP hN hl hin hD hA hS => ?_)
  have hin : meth.name = _ := hin
  have hK := hN.1
  replace hl : lv_has ls 3 [(0, .ref qm), (1, .int iA), (2, .int iB)] := hl
  refine lv_aload_n hx hb (g_42 bX6_two rfl) rfl (lv_at hl 0 rfl) ?_
  refine lv_iload_n hx hb (g_27 bX6_two rfl) rfl (lv_at hl 1 rfl) ?_
  refine lv_i2l (v := iA.toInt64) hx hb (g_133 bX6_two rfl) rfl ?_
  refine kRi (rV (As := [.long iA.toInt64]) (rest := []) (b := qm) ⟨hx, hb, hml, hown, hts⟩ (c_X6_isOne l G cy qm (.ref qmh) (.ref qmo) (.ref qmz) (.ref qmR) (.ref qmv) (.ref qmk) (.ref qma) (.ref qmt) (.int (nI kZ)) (.ref qmr) tA qmB qmO qmK iEn iTk (ov uP) (ov uU) (.int (nI kAt)) (.int iTo) (.int iFr) (.long JFi) (.int iFa) (.ref qm3) (.int iSt) iLv iWs vLa (.ref qmu) (.ref qmy) (.ref qmb) (.ref qms) (.int iOm) iA hPp) L_X6_236 (preRV (q := (RX6, TX6, 35)) hN hP [0] rfl 0 5 rfl rfl) rfl ⟨Nat.le_of_ble_eq_true rfl, Nat.le_of_ble_eq_true rfl⟩ hl.1 (Nat.le_of_ble_eq_true rfl) (g_182 (v := 236) bX6_two rfl) ⟨Nat.le_of_ble_eq_true rfl, Nat.le_of_ble_eq_true rfl⟩) (fun r_1 h_2 => ?_)
  rcases h_2 with ⟨rfl, h_3⟩ | ⟨rfl, h_3⟩
  · obtain ⟨k_4, hk_5, rfl⟩ := h_3
    refine lv_if_eq (tgt := 32) hx hb dX6_two_6 (by decide +kernel) (fun h9 => absurd h9 (by decide +kernel)) (fun _ => ?_)
    refine lv_aload_n hx hb (g_42 bX6_two rfl) rfl (lv_at hl 0 rfl) ?_
    refine lv_iload_n hx hb (g_28 bX6_two rfl) rfl (lv_at hl 2 rfl) ?_
    refine lv_i2l (v := iB.toInt64) hx hb (g_133 bX6_two rfl) rfl ?_
    refine kRi (rV (As := [.long iB.toInt64]) (rest := []) (b := qm) ⟨hx, hb, hml, hown, hts⟩ (c_X6_isOne l G cy qm (.ref qmh) (.ref qmo) (.ref qmz) (.ref qmR) (.ref qmv) (.ref qmk) (.ref qma) (.ref qmt) (.int (nI kZ)) (.ref qmr) tA qmB qmO qmK iEn iTk (ov uP) (ov uU) (.int (nI kAt)) (.int iTo) (.int iFr) (.long JFi) (.int iFa) (.ref qm3) (.int iSt) iLv iWs vLa (.ref qmu) (.ref qmy) (.ref qmb) (.ref qms) (.int iOm) iB hPp) L_X6_236 (preRV (q := (RX6, TX6, 35)) hN hP [0] rfl 0 5 rfl rfl) rfl ⟨Nat.le_of_ble_eq_true rfl, Nat.le_of_ble_eq_true rfl⟩ hl.1 (Nat.le_of_ble_eq_true rfl) (g_182 (v := 236) bX6_two rfl) ⟨Nat.le_of_ble_eq_true rfl, Nat.le_of_ble_eq_true rfl⟩) (fun r_7 h_8 => ?_)
    rcases h_8 with ⟨rfl, h_9⟩ | ⟨rfl, h_9⟩
    · obtain ⟨k_10, hk_11, rfl⟩ := h_9
      refine lv_if_eq (tgt := 32) hx hb dX6_two_15 (by decide +kernel) (fun h9 => absurd h9 (by decide +kernel)) (fun _ => ?_)
      refine lv_aload_n hx hb (g_42 bX6_two rfl) rfl (lv_at hl 0 rfl) ?_
      refine lv_iconst (v := 1) hx hb (g_4 bX6_two rfl) (by decide +kernel) ?_
      refine lv_iload_n hx hb (g_27 bX6_two rfl) rfl (lv_at hl 1 rfl) ?_
      refine lv_ishl hx hb (g_120 bX6_two rfl) ?_
      refine lv_iconst (v := 1) hx hb (g_4 bX6_two rfl) (by decide +kernel) ?_
      refine lv_iload_n hx hb (g_28 bX6_two rfl) rfl (lv_at hl 2 rfl) ?_
      refine lv_ishl hx hb (g_120 bX6_two rfl) ?_
      refine lv_ior hx hb (g_128 bX6_two rfl) ?_
      refine kRi (rV (As := [.int ((1 <<< ((nI k_4) &&& 31)) ||| (1 <<< ((nI k_10) &&& 31)))]) (rest := []) (b := qm) ⟨hx, hb, hml, hown, hts⟩ (c_X6_valueOf l G cy qm (.ref qmh) (.ref qmo) (.ref qmz) (.ref qmR) (.ref qmv) (.ref qmk) (.ref qma) (.ref qmt) (.int (nI kZ)) (.ref qmr) tA qmB qmO qmK iEn iTk (ov uP) (ov uU) (.int (nI kAt)) (.int iTo) (.int iFr) (.long JFi) (.int iFa) (.ref qm3) (.int iSt) iLv iWs vLa (.ref qmu) (.ref qmy) (.ref qmb) (.ref qms) (.int iOm) rB rO rK ((1 <<< ((nI k_4) &&& 31)) ||| (1 <<< ((nI k_10) &&& 31))) hB hPp) L_X6_266 (preRV (q := (RX6, TX6, 35)) hN hP (trueIx 0 [true, true, true, true, true, true, true, true, true, true, true, true, true, true, true, true, true, true, true, true, true, true, true, true, true, true, true, true]) (sel_fm rfl rfl) 0 5 rfl rfl) rfl ⟨Nat.le_of_ble_eq_true rfl, Nat.le_of_ble_eq_true rfl⟩ hl.1 (Nat.le_of_ble_eq_true rfl) (g_182 (v := 266) bX6_two rfl) ⟨Nat.le_of_ble_eq_true rfl, Nat.le_of_ble_eq_true rfl⟩) (fun r_13 h_14 => ?_)
      subst h_14
      refine lv_goto (tgt := 38) hx hb dX6_two_29 (by decide +kernel) ?_
      exact endWs [[true, true, true, true, true, true, true, true, true, true, true, true, true, true, true, true, true, true, true, true, true, true, true, true, true, true, true, true, true]] hx hb hr hlocks rfl hP hD rfl (by decide +kernel) hS ⟨fMr, rfl, trivial⟩ (g_172 bX6_two rfl)
    · refine lv_if_eq (tgt := 32) hx hb dX6_two_15 (by decide +kernel) (fun _ => ?_) (fun h9 => absurd (by decide +kernel) h9)
      refine lv_aload_n hx hb (g_42 bX6_two rfl) rfl (lv_at hl 0 rfl) ?_
      refine lv_bipush (v := (-2)) hx hb dX6_two_33 (by decide +kernel) ?_
      refine cVi (As := [.int (-2)]) (rest := []) (b := qm) (q := (RX6, TX6, 35)) ⟨hx, hb, hml, hown, hts⟩ (c_X6_refuse2 l G cy (s.heap).size qm (.ref qmh) (.ref qmo) (.ref qmz) (.ref qmR) (.ref qmv) (.ref qmk) (.ref qma) (.ref qmt) (.int (nI kZ)) qmr tA qmB qmO qmK iEn iTk (ov uP) (ov uU) (.int (nI kAt)) (.int iTo) (.int iFr) (.long JFi) (.int iFa) (.ref qm3) (.int iSt) iLv iWs vLa (.ref qmu) (.ref qmy) (.ref qmb) (.ref qms) (.int iOm) fMr) L_X6_91 hN hP hD hS hA [0, 28] [false, true, true, true, true, true, true, true, true, true, true, true, true, true, true, true, true, true, true, true, true, true, true, true, true, true, true, true, false] rfl (by decide +kernel) rfl 0 5 rfl rfl rfl ⟨Nat.le_of_ble_eq_true rfl, Nat.le_of_ble_eq_true rfl⟩ hl.1 (Nat.le_of_ble_eq_true rfl) (g_182 (v := 91) bX6_two rfl) ⟨Nat.le_of_ble_eq_true rfl, Nat.le_of_ble_eq_true rfl⟩ (fun r_16 u_18 H locs h_17 => ?_)
      clear hP hD hS
      intro hP hD hS
      obtain ⟨fX_19, hu9, h_17⟩ := h_17
      have hPD := pd_eq [_, _, _, _, _, _, _, _, _, _, _, _, _, _, _, _, _, _, _, _, _, _, _, _, _, _, _, _, zzI cy qmr 8 fX_19] hP hD hu9 rfl
      clear hP hD hu9
      obtain ⟨hP, hD⟩ := hPD
      subst h_17
      exact endWs [[false, false, false, false, false, false, false, false, false, false, false, false, false, false, false, false, false, false, false, false, false, false, false, false, false, false, false, true], [true, true, true, true, true, true, true, true, true, true, true, true, true, true, true, true, true, true, true, true, true, true, true, true, true, true, true, false, true]] hx hb hr hlocks rfl hP hD rfl (by decide +kernel) hS ⟨fX_19, rfl, trivial⟩ (g_172 bX6_two rfl)
  · refine lv_if_eq (tgt := 32) hx hb dX6_two_6 (by decide +kernel) (fun _ => ?_) (fun h9 => absurd (by decide +kernel) h9)
    refine lv_aload_n hx hb (g_42 bX6_two rfl) rfl (lv_at hl 0 rfl) ?_
    refine lv_bipush (v := (-2)) hx hb dX6_two_33 (by decide +kernel) ?_
    refine cVi (As := [.int (-2)]) (rest := []) (b := qm) (q := (RX6, TX6, 35)) ⟨hx, hb, hml, hown, hts⟩ (c_X6_refuse2 l G cy (s.heap).size qm (.ref qmh) (.ref qmo) (.ref qmz) (.ref qmR) (.ref qmv) (.ref qmk) (.ref qma) (.ref qmt) (.int (nI kZ)) qmr tA qmB qmO qmK iEn iTk (ov uP) (ov uU) (.int (nI kAt)) (.int iTo) (.int iFr) (.long JFi) (.int iFa) (.ref qm3) (.int iSt) iLv iWs vLa (.ref qmu) (.ref qmy) (.ref qmb) (.ref qms) (.int iOm) fMr) L_X6_91 hN hP hD hS hA [0, 28] [false, true, true, true, true, true, true, true, true, true, true, true, true, true, true, true, true, true, true, true, true, true, true, true, true, true, true, true, false] rfl (by decide +kernel) rfl 0 5 rfl rfl rfl ⟨Nat.le_of_ble_eq_true rfl, Nat.le_of_ble_eq_true rfl⟩ hl.1 (Nat.le_of_ble_eq_true rfl) (g_182 (v := 91) bX6_two rfl) ⟨Nat.le_of_ble_eq_true rfl, Nat.le_of_ble_eq_true rfl⟩ (fun r_21 u_23 H locs h_22 => ?_)
    clear hP hD hS
    intro hP hD hS
    obtain ⟨fX_24, hu9, h_22⟩ := h_22
    have hPD := pd_eq [_, _, _, _, _, _, _, _, _, _, _, _, _, _, _, _, _, _, _, _, _, _, _, _, _, _, _, _, zzI cy qmr 8 fX_24] hP hD hu9 rfl
    clear hP hD hu9
    obtain ⟨hP, hD⟩ := hPD
    subst h_22
    exact endWs [[false, false, false, false, false, false, false, false, false, false, false, false, false, false, false, false, false, false, false, false, false, false, false, false, false, false, false, true], [true, true, true, true, true, true, true, true, true, true, true, true, true, true, true, true, true, true, true, true, true, true, true, true, true, true, true, false, true]] hx hb hr hlocks rfl hP hD rfl (by decide +kernel) hS ⟨fX_24, rfl, trivial⟩ (g_172 bX6_two rfl)
set_option maxHeartbeats 4000000 in
set_option maxRecDepth 100000 in
theorem p_X6_youngest (l : Launch) (G : va_G) (cy : Nat → ClassId) (sz : Nat) (qm : Nat) (qmh : Nat) (qmo : Nat) (qmz : Nat) (qmR : Nat) (qmv : Nat) (qmk : Nat) (qma : Nat) (qmt : Nat) (kZ : Nat) (qmr : Nat) (tA : TA) (qmB : Nat) (qmO : Nat) (qmK : Nat) (iEn : Int32) (iTk : Int32) (uP : UM) (uU : UM) (kAt : Nat) (iTo : Int32) (iFr : Int32) (JFi : Int64) (iFa : Int32) (qm3 : Nat) (iSt : Int32) (iLv : Int32) (iWs : Int32) (vLa : Value) (qmu : Nat) (qmy : Nat) (qmb : Nat) (qms : Nat) (iOm : Int32) (rB : Nat → Nat) (rO : Nat → Nat) (rK : Nat → Nat) (fMr : Nat → Int32) (iA : Int32)  (hB : T_nb tA ≤ 8) (hPp : T_np tA ≤ 8) (hTI : TI tA) : MW l yX6_youngest cX6_youngest 2 (some .int) 16 0 0 G cy [zzO qm 5 (.ref qmh :: .ref qmo :: .ref qmz :: .ref qmR :: .ref qmv :: .ref qmk :: .ref qma :: .ref qmt :: .int (nI kZ) :: .ref qmr :: .int (nI (T_nb tA)) :: .ref qmB :: .int (nI (T_np tA)) :: .ref qmO :: .ref qmK :: .int iEn :: .int iTk :: .int (T_sd tA) :: ov uP :: ov uU :: .int (nI kAt) :: .int iTo :: .int iFr :: .long JFi :: .int iFa :: .ref qm3 :: .int iSt :: .int iLv :: .int iWs :: vLa :: .ref qmu :: .ref qmy :: .ref qmb :: .ref qms :: .int iOm :: []), zzG cy 3 qmB rB, zzI cy (rB 0) 4 (bkR tA 0), zzI cy (rB 1) 4 (bkR tA 1), zzI cy (rB 2) 4 (bkR tA 2), zzI cy (rB 3) 4 (bkR tA 3), zzI cy (rB 4) 4 (bkR tA 4), zzI cy (rB 5) 4 (bkR tA 5), zzI cy (rB 6) 4 (bkR tA 6), zzI cy (rB 7) 4 (bkR tA 7), zzG cy 3 qmO rO, zzI cy (rO 0) 5 (onR tA 0), zzI cy (rO 1) 5 (onR tA 1), zzI cy (rO 2) 5 (onR tA 2), zzI cy (rO 3) 5 (onR tA 3), zzI cy (rO 4) 5 (onR tA 4), zzI cy (rO 5) 5 (onR tA 5), zzI cy (rO 6) 5 (onR tA 6), zzI cy (rO 7) 5 (onR tA 7), zzG cy 3 qmK rK, zzI cy (rK 0) 8 (T_kn tA 0), zzI cy (rK 1) 8 (T_kn tA 1), zzI cy (rK 2) 8 (T_kn tA 2), zzI cy (rK 3) 8 (T_kn tA 3), zzI cy (rK 4) 8 (T_kn tA 4), zzI cy (rK 5) 8 (T_kn tA 5), zzI cy (rK 6) 8 (T_kn tA 6), zzI cy (rK 7) 8 (T_kn tA 7), zzI cy qmr 8 fMr] sz [.ref qm, .int iA] (Wi G (fun r u => ∃ (fNr : Nat → Int32), u = [zzO qm 5 (.ref qmh :: .ref qmo :: .ref qmz :: .ref qmR :: .ref qmv :: .ref qmk :: .ref qma :: .ref qmt :: .int (nI kZ) :: .ref qmr :: .int (nI (T_nb tA)) :: .ref qmB :: .int (nI (T_np tA)) :: .ref qmO :: .ref qmK :: .int iEn :: .int iTk :: .int (T_sd tA) :: ov uP :: ov uU :: .int (nI kAt) :: .int iTo :: .int iFr :: .long JFi :: .int iFa :: .ref qm3 :: .int iSt :: .int iLv :: .int iWs :: vLa :: .ref qmu :: .ref qmy :: .ref qmb :: .ref qms :: .int iOm :: []), zzG cy 3 qmB rB, zzI cy (rB 0) 4 (bkR tA 0), zzI cy (rB 1) 4 (bkR tA 1), zzI cy (rB 2) 4 (bkR tA 2), zzI cy (rB 3) 4 (bkR tA 3), zzI cy (rB 4) 4 (bkR tA 4), zzI cy (rB 5) 4 (bkR tA 5), zzI cy (rB 6) 4 (bkR tA 6), zzI cy (rB 7) 4 (bkR tA 7), zzG cy 3 qmO rO, zzI cy (rO 0) 5 (onR tA 0), zzI cy (rO 1) 5 (onR tA 1), zzI cy (rO 2) 5 (onR tA 2), zzI cy (rO 3) 5 (onR tA 3), zzI cy (rO 4) 5 (onR tA 4), zzI cy (rO 5) 5 (onR tA 5), zzI cy (rO 6) 5 (onR tA 6), zzI cy (rO 7) 5 (onR tA 7), zzG cy 3 qmK rK, zzI cy (rK 0) 8 (T_kn tA 0), zzI cy (rK 1) 8 (T_kn tA 1), zzI cy (rK 2) 8 (T_kn tA 2), zzI cy (rK 3) 8 (T_kn tA 3), zzI cy (rK 4) 8 (T_kn tA 4), zzI cy (rK 5) 8 (T_kn tA 5), zzI cy (rK 6) 8 (T_kn tA 6), zzI cy (rK 7) 8 (T_kn tA 7), zzI cy qmr 8 fNr] ∧ (True))) := by
  refine enW RX6 (by decide +kernel) rfl (Nat.le_of_ble_eq_true rfl) (fun p e s m below meth c ls A hx hb hml hown hts hr hlocks hP hN hl hin hD hA hS => ?_)
  have hin : meth.name = _ := hin
  have hK := hN.1
  replace hl : lv_has ls 2 [(0, .ref qm), (1, .int iA)] := hl
  refine lv_aload_n hx hb (g_42 bX6_youngest rfl) rfl (lv_at hl 0 rfl) ?_
  refine lv_iload_n hx hb (g_27 bX6_youngest rfl) rfl (lv_at hl 1 rfl) ?_
  refine lv_i2l (v := iA.toInt64) hx hb (g_133 bX6_youngest rfl) rfl ?_
  refine kRi (rV (As := [.long iA.toInt64]) (rest := []) (b := qm) ⟨hx, hb, hml, hown, hts⟩ (c_X6_isOne l G cy qm (.ref qmh) (.ref qmo) (.ref qmz) (.ref qmR) (.ref qmv) (.ref qmk) (.ref qma) (.ref qmt) (.int (nI kZ)) (.ref qmr) tA qmB qmO qmK iEn iTk (ov uP) (ov uU) (.int (nI kAt)) (.int iTo) (.int iFr) (.long JFi) (.int iFa) (.ref qm3) (.int iSt) iLv iWs vLa (.ref qmu) (.ref qmy) (.ref qmb) (.ref qms) (.int iOm) iA hPp) L_X6_236 (preRV (q := (RX6, TX6, 35)) hN hP [0] rfl 0 5 rfl rfl) rfl ⟨Nat.le_of_ble_eq_true rfl, Nat.le_of_ble_eq_true rfl⟩ hl.1 (Nat.le_of_ble_eq_true rfl) (g_182 (v := 236) bX6_youngest rfl) ⟨Nat.le_of_ble_eq_true rfl, Nat.le_of_ble_eq_true rfl⟩) (fun r_1 h_2 => ?_)
  rcases h_2 with ⟨rfl, h_3⟩ | ⟨rfl, h_3⟩
  · obtain ⟨k_4, hk_5, rfl⟩ := h_3
    refine lv_if_eq (tgt := 17) hx hb dX6_youngest_6 (by decide +kernel) (fun h9 => absurd h9 (by decide +kernel)) (fun _ => ?_)
    refine lv_aload_n hx hb (g_42 bX6_youngest rfl) rfl (lv_at hl 0 rfl) ?_
    refine lv_iload_n hx hb (g_27 bX6_youngest rfl) rfl (lv_at hl 1 rfl) ?_
    refine kRi (rV (As := [.int (nI k_4)]) (rest := []) (b := qm) ⟨hx, hb, hml, hown, hts⟩ (c_X6_youngestBut l G cy qm (.ref qmh) (.ref qmo) (.ref qmz) (.ref qmR) (.ref qmv) (.ref qmk) (.ref qma) (.ref qmt) (.int (nI kZ)) (.ref qmr) tA qmB qmO qmK iEn iTk (ov uP) (ov uU) (.int (nI kAt)) (.int iTo) (.int iFr) (.long JFi) (.int iFa) (.ref qm3) (.int iSt) iLv iWs vLa (.ref qmu) (.ref qmy) (.ref qmb) (.ref qms) (.int iOm) rO (nI k_4) hPp) L_X6_269 (preRV (q := (RX6, TX6, 35)) hN hP (trueIx 0 [true, false, false, false, false, false, false, false, false, false, true, true, true, true, true, true, true, true, true]) (sel_fm rfl rfl) 0 5 rfl rfl) rfl ⟨Nat.le_of_ble_eq_true rfl, Nat.le_of_ble_eq_true rfl⟩ hl.1 (Nat.le_of_ble_eq_true rfl) (g_182 (v := 269) bX6_youngest rfl) ⟨Nat.le_of_ble_eq_true rfl, Nat.le_of_ble_eq_true rfl⟩) (fun r_7 h_8 => ?_)
    subst h_8
    refine lv_goto (tgt := 23) hx hb dX6_youngest_14 (by decide +kernel) ?_
    exact endWs [[true, true, true, true, true, true, true, true, true, true, true, true, true, true, true, true, true, true, true, true, true, true, true, true, true, true, true, true, true]] hx hb hr hlocks rfl hP hD rfl (by decide +kernel) hS ⟨fMr, rfl, trivial⟩ (g_172 bX6_youngest rfl)
  · refine lv_if_eq (tgt := 17) hx hb dX6_youngest_6 (by decide +kernel) (fun _ => ?_) (fun h9 => absurd (by decide +kernel) h9)
    refine lv_aload_n hx hb (g_42 bX6_youngest rfl) rfl (lv_at hl 0 rfl) ?_
    refine lv_bipush (v := (-2)) hx hb dX6_youngest_18 (by decide +kernel) ?_
    refine cVi (As := [.int (-2)]) (rest := []) (b := qm) (q := (RX6, TX6, 35)) ⟨hx, hb, hml, hown, hts⟩ (c_X6_refuse2 l G cy (s.heap).size qm (.ref qmh) (.ref qmo) (.ref qmz) (.ref qmR) (.ref qmv) (.ref qmk) (.ref qma) (.ref qmt) (.int (nI kZ)) qmr tA qmB qmO qmK iEn iTk (ov uP) (ov uU) (.int (nI kAt)) (.int iTo) (.int iFr) (.long JFi) (.int iFa) (.ref qm3) (.int iSt) iLv iWs vLa (.ref qmu) (.ref qmy) (.ref qmb) (.ref qms) (.int iOm) fMr) L_X6_91 hN hP hD hS hA [0, 28] [false, true, true, true, true, true, true, true, true, true, true, true, true, true, true, true, true, true, true, true, true, true, true, true, true, true, true, true, false] rfl (by decide +kernel) rfl 0 5 rfl rfl rfl ⟨Nat.le_of_ble_eq_true rfl, Nat.le_of_ble_eq_true rfl⟩ hl.1 (Nat.le_of_ble_eq_true rfl) (g_182 (v := 91) bX6_youngest rfl) ⟨Nat.le_of_ble_eq_true rfl, Nat.le_of_ble_eq_true rfl⟩ (fun r_10 u_12 H locs h_11 => ?_)
    clear hP hD hS
    intro hP hD hS
    obtain ⟨fX_13, hu9, h_11⟩ := h_11
    have hPD := pd_eq [_, _, _, _, _, _, _, _, _, _, _, _, _, _, _, _, _, _, _, _, _, _, _, _, _, _, _, _, zzI cy qmr 8 fX_13] hP hD hu9 rfl
    clear hP hD hu9
    obtain ⟨hP, hD⟩ := hPD
    subst h_11
    exact endWs [[false, false, false, false, false, false, false, false, false, false, false, false, false, false, false, false, false, false, false, false, false, false, false, false, false, false, false, true], [true, true, true, true, true, true, true, true, true, true, true, true, true, true, true, true, true, true, true, true, true, true, true, true, true, true, true, false, true]] hx hb hr hlocks rfl hP hD rfl (by decide +kernel) hS ⟨fX_13, rfl, trivial⟩ (g_172 bX6_youngest rfl)
set_option maxHeartbeats 4000000 in
set_option maxRecDepth 100000 in
theorem p_X6_reader (l : Launch) (G : va_G) (cy : Nat → ClassId) (sz : Nat) (qm : Nat) (qmh : Nat) (qmo : Nat) (qmz : Nat) (qmR : Nat) (qmv : Nat) (qmk : Nat) (qma : Nat) (qmt : Nat) (kZ : Nat) (qmr : Nat) (tA : TA) (qmB : Nat) (qmO : Nat) (qmK : Nat) (iEn : Int32) (iTk : Int32) (uP : UM) (uU : UM) (kAt : Nat) (iTo : Int32) (iFr : Int32) (JFi : Int64) (iFa : Int32) (qm3 : Nat) (iSt : Int32) (iLv : Int32) (iWs : Int32) (vLa : Value) (qmu : Nat) (qmy : Nat) (qmb : Nat) (qms : Nat) (iOm : Int32) (rB : Nat → Nat) (rO : Nat → Nat) (rK : Nat → Nat) (fMr : Nat → Int32) (iA : Int32)  (hB : T_nb tA ≤ 8) (hPp : T_np tA ≤ 8) (hTI : TI tA) : MW l yX6_reader cX6_reader 2 (some .int) 16 0 0 G cy [zzO qm 5 (.ref qmh :: .ref qmo :: .ref qmz :: .ref qmR :: .ref qmv :: .ref qmk :: .ref qma :: .ref qmt :: .int (nI kZ) :: .ref qmr :: .int (nI (T_nb tA)) :: .ref qmB :: .int (nI (T_np tA)) :: .ref qmO :: .ref qmK :: .int iEn :: .int iTk :: .int (T_sd tA) :: ov uP :: ov uU :: .int (nI kAt) :: .int iTo :: .int iFr :: .long JFi :: .int iFa :: .ref qm3 :: .int iSt :: .int iLv :: .int iWs :: vLa :: .ref qmu :: .ref qmy :: .ref qmb :: .ref qms :: .int iOm :: []), zzG cy 3 qmB rB, zzI cy (rB 0) 4 (bkR tA 0), zzI cy (rB 1) 4 (bkR tA 1), zzI cy (rB 2) 4 (bkR tA 2), zzI cy (rB 3) 4 (bkR tA 3), zzI cy (rB 4) 4 (bkR tA 4), zzI cy (rB 5) 4 (bkR tA 5), zzI cy (rB 6) 4 (bkR tA 6), zzI cy (rB 7) 4 (bkR tA 7), zzG cy 3 qmO rO, zzI cy (rO 0) 5 (onR tA 0), zzI cy (rO 1) 5 (onR tA 1), zzI cy (rO 2) 5 (onR tA 2), zzI cy (rO 3) 5 (onR tA 3), zzI cy (rO 4) 5 (onR tA 4), zzI cy (rO 5) 5 (onR tA 5), zzI cy (rO 6) 5 (onR tA 6), zzI cy (rO 7) 5 (onR tA 7), zzG cy 3 qmK rK, zzI cy (rK 0) 8 (T_kn tA 0), zzI cy (rK 1) 8 (T_kn tA 1), zzI cy (rK 2) 8 (T_kn tA 2), zzI cy (rK 3) 8 (T_kn tA 3), zzI cy (rK 4) 8 (T_kn tA 4), zzI cy (rK 5) 8 (T_kn tA 5), zzI cy (rK 6) 8 (T_kn tA 6), zzI cy (rK 7) 8 (T_kn tA 7), zzI cy qmr 8 fMr] sz [.ref qm, .int iA] (Wi G (fun r u => ∃ (fNr : Nat → Int32), u = [zzO qm 5 (.ref qmh :: .ref qmo :: .ref qmz :: .ref qmR :: .ref qmv :: .ref qmk :: .ref qma :: .ref qmt :: .int (nI kZ) :: .ref qmr :: .int (nI (T_nb tA)) :: .ref qmB :: .int (nI (T_np tA)) :: .ref qmO :: .ref qmK :: .int iEn :: .int iTk :: .int (T_sd tA) :: ov uP :: ov uU :: .int (nI kAt) :: .int iTo :: .int iFr :: .long JFi :: .int iFa :: .ref qm3 :: .int iSt :: .int iLv :: .int iWs :: vLa :: .ref qmu :: .ref qmy :: .ref qmb :: .ref qms :: .int iOm :: []), zzG cy 3 qmB rB, zzI cy (rB 0) 4 (bkR tA 0), zzI cy (rB 1) 4 (bkR tA 1), zzI cy (rB 2) 4 (bkR tA 2), zzI cy (rB 3) 4 (bkR tA 3), zzI cy (rB 4) 4 (bkR tA 4), zzI cy (rB 5) 4 (bkR tA 5), zzI cy (rB 6) 4 (bkR tA 6), zzI cy (rB 7) 4 (bkR tA 7), zzG cy 3 qmO rO, zzI cy (rO 0) 5 (onR tA 0), zzI cy (rO 1) 5 (onR tA 1), zzI cy (rO 2) 5 (onR tA 2), zzI cy (rO 3) 5 (onR tA 3), zzI cy (rO 4) 5 (onR tA 4), zzI cy (rO 5) 5 (onR tA 5), zzI cy (rO 6) 5 (onR tA 6), zzI cy (rO 7) 5 (onR tA 7), zzG cy 3 qmK rK, zzI cy (rK 0) 8 (T_kn tA 0), zzI cy (rK 1) 8 (T_kn tA 1), zzI cy (rK 2) 8 (T_kn tA 2), zzI cy (rK 3) 8 (T_kn tA 3), zzI cy (rK 4) 8 (T_kn tA 4), zzI cy (rK 5) 8 (T_kn tA 5), zzI cy (rK 6) 8 (T_kn tA 6), zzI cy (rK 7) 8 (T_kn tA 7), zzI cy qmr 8 fNr] ∧ (True))) := by
  refine enW RX6 (by decide +kernel) rfl (Nat.le_of_ble_eq_true rfl) (fun p e s m below meth c ls A hx hb hml hown hts hr hlocks hP hN hl hin hD hA hS => ?_)
  have hin : meth.name = _ := hin
  have hK := hN.1
  replace hl : lv_has ls 2 [(0, .ref qm), (1, .int iA)] := hl
  refine lv_aload_n hx hb (g_42 bX6_reader rfl) rfl (lv_at hl 0 rfl) ?_
  refine lv_iload_n hx hb (g_27 bX6_reader rfl) rfl (lv_at hl 1 rfl) ?_
  refine lv_i2l (v := iA.toInt64) hx hb (g_133 bX6_reader rfl) rfl ?_
  refine kRi (rV (As := [.long iA.toInt64]) (rest := []) (b := qm) ⟨hx, hb, hml, hown, hts⟩ (c_X6_isBook l G cy qm (.ref qmh) (.ref qmo) (.ref qmz) (.ref qmR) (.ref qmv) (.ref qmk) (.ref qma) (.ref qmt) (.int (nI kZ)) (.ref qmr) tA qmB qmO qmK iEn iTk (ov uP) (ov uU) (.int (nI kAt)) (.int iTo) (.int iFr) (.long JFi) (.int iFa) (.ref qm3) (.int iSt) iLv iWs vLa (.ref qmu) (.ref qmy) (.ref qmb) (.ref qms) (.int iOm) iA hB) L_X6_229 (preRV (q := (RX6, TX6, 35)) hN hP [0] rfl 0 5 rfl rfl) rfl ⟨Nat.le_of_ble_eq_true rfl, Nat.le_of_ble_eq_true rfl⟩ hl.1 (Nat.le_of_ble_eq_true rfl) (g_182 (v := 229) bX6_reader rfl) ⟨Nat.le_of_ble_eq_true rfl, Nat.le_of_ble_eq_true rfl⟩) (fun r_1 h_2 => ?_)
  rcases h_2 with ⟨rfl, h_3⟩ | ⟨rfl, h_3⟩
  · obtain ⟨k_4, hk_5, rfl⟩ := h_3
    refine lv_if_ne (tgt := 16) hx hb dX6_reader_6 (by decide +kernel) (fun _ => ?_) (fun h9 => absurd h9 (by decide +kernel))
    refine lv_aload_n hx hb (g_42 bX6_reader rfl) rfl (lv_at hl 0 rfl) ?_
    refine lv_iload_n hx hb (g_27 bX6_reader rfl) rfl (lv_at hl 1 rfl) ?_
    refine kRi (rV (As := [.int (nI k_4)]) (rest := []) (b := qm) ⟨hx, hb, hml, hown, hts⟩ (c_X6_isWhite l G cy qm (.ref qmh) (.ref qmo) (.ref qmz) (.ref qmR) (.ref qmv) (.ref qmk) (.ref qma) (.ref qmt) (.int (nI kZ)) (.ref qmr) tA qmB qmO qmK iEn iTk (ov uP) (ov uU) (.int (nI kAt)) (.int iTo) (.int iFr) (.long JFi) (.int iFa) (.ref qm3) (.int iSt) iLv iWs vLa (.ref qmu) (.ref qmy) (.ref qmb) (.ref qms) (.int iOm) rB k_4 (by first | omega | (simp only [nb_sr, np_sr, nb_wr, np_wr, nb_rd, np_rd, nb_ch, np_ch, nb_zr, np_zr, nb_za, np_za, nb_ey, np_ey, nb_hf, np_hf, nb_dd, np_dd, nb_so, np_so, nb_skn, np_skn, nb_swh, np_swh, nb_sgn, np_sgn, nb_ssd, np_ssd, nb_sgo, np_sgo, nb_sag, np_sag]; omega))) L_X6_248 (preRV (q := (RX6, TX6, 35)) hN hP (trueIx 0 [true, true, true, true, true, true, true, true, true, true]) (sel_fm rfl rfl) 0 5 rfl rfl) rfl ⟨Nat.le_of_ble_eq_true rfl, Nat.le_of_ble_eq_true rfl⟩ hl.1 (Nat.le_of_ble_eq_true rfl) (g_182 (v := 248) bX6_reader rfl) ⟨Nat.le_of_ble_eq_true rfl, Nat.le_of_ble_eq_true rfl⟩) (fun r_7 h_8 => ?_)
    rcases h_8 with ⟨rfl, h_9⟩ | ⟨rfl, h_9⟩
    · refine lv_if_eq (tgt := 33) hx hb dX6_reader_21 (by decide +kernel) (fun h9 => absurd h9 (by decide +kernel)) (fun _ => ?_)
      refine lv_aload_n hx hb (g_42 bX6_reader rfl) rfl (lv_at hl 0 rfl) ?_
      refine lv_bipush (v := (-5)) hx hb dX6_reader_25 (by decide +kernel) ?_
      refine cVi (As := [.int (-5)]) (rest := []) (b := qm) (q := (RX6, TX6, 35)) ⟨hx, hb, hml, hown, hts⟩ (c_X6_refuse5 l G cy (s.heap).size qm (.ref qmh) (.ref qmo) (.ref qmz) (.ref qmR) (.ref qmv) (.ref qmk) (.ref qma) (.ref qmt) (.int (nI kZ)) qmr tA qmB qmO qmK iEn iTk (ov uP) (ov uU) (.int (nI kAt)) (.int iTo) (.int iFr) (.long JFi) (.int iFa) (.ref qm3) (.int iSt) iLv iWs vLa (.ref qmu) (.ref qmy) (.ref qmb) (.ref qms) (.int iOm) fMr) L_X6_91 hN hP hD hS hA [0, 28] [false, true, true, true, true, true, true, true, true, true, true, true, true, true, true, true, true, true, true, true, true, true, true, true, true, true, true, true, false] rfl (by decide +kernel) rfl 0 5 rfl rfl rfl ⟨Nat.le_of_ble_eq_true rfl, Nat.le_of_ble_eq_true rfl⟩ hl.1 (Nat.le_of_ble_eq_true rfl) (g_182 (v := 91) bX6_reader rfl) ⟨Nat.le_of_ble_eq_true rfl, Nat.le_of_ble_eq_true rfl⟩ (fun r_11 u_13 H locs h_12 => ?_)
      clear hP hD hS
      intro hP hD hS
      obtain ⟨fX_14, hu9, h_12⟩ := h_12
      have hPD := pd_eq [_, _, _, _, _, _, _, _, _, _, _, _, _, _, _, _, _, _, _, _, _, _, _, _, _, _, _, _, zzI cy qmr 8 fX_14] hP hD hu9 rfl
      clear hP hD hu9
      obtain ⟨hP, hD⟩ := hPD
      subst h_12
      refine lv_goto (tgt := 38) hx hb dX6_reader_30 (by decide +kernel) ?_
      exact endWs [[false, false, false, false, false, false, false, false, false, false, false, false, false, false, false, false, false, false, false, false, false, false, false, false, false, false, false, true], [true, true, true, true, true, true, true, true, true, true, true, true, true, true, true, true, true, true, true, true, true, true, true, true, true, true, true, false, true]] hx hb hr hlocks rfl hP hD rfl (by decide +kernel) hS ⟨fX_14, rfl, trivial⟩ (g_172 bX6_reader rfl)
    · refine lv_if_eq (tgt := 33) hx hb dX6_reader_21 (by decide +kernel) (fun _ => ?_) (fun h9 => absurd (by decide +kernel) h9)
      refine lv_aload_n hx hb (g_42 bX6_reader rfl) rfl (lv_at hl 0 rfl) ?_
      refine lv_iload_n hx hb (g_27 bX6_reader rfl) rfl (lv_at hl 1 rfl) ?_
      refine kRi (rV (As := [.int (nI k_4)]) (rest := []) (b := qm) ⟨hx, hb, hml, hown, hts⟩ (c_X6_readerOf l G cy qm (.ref qmh) (.ref qmo) (.ref qmz) (.ref qmR) (.ref qmv) (.ref qmk) (.ref qma) (.ref qmt) (.int (nI kZ)) (.ref qmr) tA qmB qmO qmK iEn iTk (ov uP) (ov uU) (.int (nI kAt)) (.int iTo) (.int iFr) (.long JFi) (.int iFa) (.ref qm3) (.int iSt) iLv iWs vLa (.ref qmu) (.ref qmy) (.ref qmb) (.ref qms) (.int iOm) rB rO rK k_4 hPp (by first | omega | (simp only [nb_sr, np_sr, nb_wr, np_wr, nb_rd, np_rd, nb_ch, np_ch, nb_zr, np_zr, nb_za, np_za, nb_ey, np_ey, nb_hf, np_hf, nb_dd, np_dd, nb_so, np_so, nb_skn, np_skn, nb_swh, np_swh, nb_sgn, np_sgn, nb_ssd, np_ssd, nb_sgo, np_sgo, nb_sag, np_sag]; omega)) hTI) L_X6_272 (preRV (q := (RX6, TX6, 35)) hN hP (trueIx 0 [true, true, true, true, true, true, true, true, true, true, true, true, true, true, true, true, true, true, true, true, true, true, true, true, true, true, true, true]) (sel_fm rfl rfl) 0 5 rfl rfl) rfl ⟨Nat.le_of_ble_eq_true rfl, Nat.le_of_ble_eq_true rfl⟩ hl.1 (Nat.le_of_ble_eq_true rfl) (g_182 (v := 272) bX6_reader rfl) ⟨Nat.le_of_ble_eq_true rfl, Nat.le_of_ble_eq_true rfl⟩) (fun r_16 h_17 => ?_)
      subst h_17
      exact endWs [[true, true, true, true, true, true, true, true, true, true, true, true, true, true, true, true, true, true, true, true, true, true, true, true, true, true, true, true, true]] hx hb hr hlocks rfl hP hD rfl (by decide +kernel) hS ⟨fMr, rfl, trivial⟩ (g_172 bX6_reader rfl)
  · refine lv_if_ne (tgt := 16) hx hb dX6_reader_6 (by decide +kernel) (fun h9 => absurd (by decide +kernel) h9) (fun _ => ?_)
    refine lv_aload_n hx hb (g_42 bX6_reader rfl) rfl (lv_at hl 0 rfl) ?_
    refine lv_bipush (v := (-2)) hx hb dX6_reader_10 (by decide +kernel) ?_
    refine cVi (As := [.int (-2)]) (rest := []) (b := qm) (q := (RX6, TX6, 35)) ⟨hx, hb, hml, hown, hts⟩ (c_X6_refuse2 l G cy (s.heap).size qm (.ref qmh) (.ref qmo) (.ref qmz) (.ref qmR) (.ref qmv) (.ref qmk) (.ref qma) (.ref qmt) (.int (nI kZ)) qmr tA qmB qmO qmK iEn iTk (ov uP) (ov uU) (.int (nI kAt)) (.int iTo) (.int iFr) (.long JFi) (.int iFa) (.ref qm3) (.int iSt) iLv iWs vLa (.ref qmu) (.ref qmy) (.ref qmb) (.ref qms) (.int iOm) fMr) L_X6_91 hN hP hD hS hA [0, 28] [false, true, true, true, true, true, true, true, true, true, true, true, true, true, true, true, true, true, true, true, true, true, true, true, true, true, true, true, false] rfl (by decide +kernel) rfl 0 5 rfl rfl rfl ⟨Nat.le_of_ble_eq_true rfl, Nat.le_of_ble_eq_true rfl⟩ hl.1 (Nat.le_of_ble_eq_true rfl) (g_182 (v := 91) bX6_reader rfl) ⟨Nat.le_of_ble_eq_true rfl, Nat.le_of_ble_eq_true rfl⟩ (fun r_19 u_21 H locs h_20 => ?_)
    clear hP hD hS
    intro hP hD hS
    obtain ⟨fX_22, hu9, h_20⟩ := h_20
    have hPD := pd_eq [_, _, _, _, _, _, _, _, _, _, _, _, _, _, _, _, _, _, _, _, _, _, _, _, _, _, _, _, zzI cy qmr 8 fX_22] hP hD hu9 rfl
    clear hP hD hu9
    obtain ⟨hP, hD⟩ := hPD
    subst h_20
    exact endWs [[false, false, false, false, false, false, false, false, false, false, false, false, false, false, false, false, false, false, false, false, false, false, false, false, false, false, false, true], [true, true, true, true, true, true, true, true, true, true, true, true, true, true, true, true, true, true, true, true, true, true, true, true, true, true, true, false, true]] hx hb hr hlocks rfl hP hD rfl (by decide +kernel) hS ⟨fX_22, rfl, trivial⟩ (g_172 bX6_reader rfl)
