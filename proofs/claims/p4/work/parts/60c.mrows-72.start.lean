section
set_option maxHeartbeats 4000000 in
set_option maxRecDepth 100000 in
theorem c_X6_rows0 (l : Launch) (G : va_G) (cy : Nat → ClassId) (sz : Nat) (qm : Nat) (qmh : Nat) (qmo : Nat) (qmz : Nat) (qmR : Nat) (qmv : Nat) (qmk : Nat) (qma : Nat) (qmt : Nat) (kZ : Nat) (qmr : Nat) (tA : TA) (qmB : Nat) (qmO : Nat) (qmK : Nat) (iEn : Int32) (iTk : Int32) (uP : UM) (uU : UM) (kAt : Nat) (iTo : Int32) (iFr : Int32) (JFi : Int64) (iFa : Int32) (qm3 : Nat) (iSt : Int32) (iLv : Int32) (iWs : Int32) (vLa : Value) (qmu : Nat) (qmy : Nat) (qmb : Nat) (qms : Nat) (iOm : Int32) (rB : Nat → Nat) (rO : Nat → Nat) (rK : Nat → Nat) (fMu : Nat → Int32) (fMy : Nat → Int32) (fMb : Nat → Int32) (uS0 : UM) (uS1 : UM) (uS2 : UM) (uS3 : UM) (uS4 : UM) (kI : Nat) (kM : Nat) (kU : Nat)  (hI : kI < 8) (hM5 : kM ≤ 5) (hiM : 0 ≤ kM) (hU32 : kU < 32) (hcu : kM ≤ 0 + cu kM kU) (hB : T_nb tA ≤ 8) (hUn : ∀ k, k < kM → ∃ b : Nat, b < 8 ∧ fMu k = nI b) : MW l yX6_rowsFrom cX6_rowsFrom 8 none 11 250 4440 G cy ([zzO qm 5 (.ref qmh :: .ref qmo :: .ref qmz :: .ref qmR :: .ref qmv :: .ref qmk :: .ref qma :: .ref qmt :: .int (nI kZ) :: .ref qmr :: .int (nI (T_nb tA)) :: .ref qmB :: .int (nI (T_np tA)) :: .ref qmO :: .ref qmK :: .int iEn :: .int iTk :: .int (T_sd tA) :: ov uP :: ov uU :: .int (nI kAt) :: .int iTo :: .int iFr :: .long JFi :: .int iFa :: .ref qm3 :: .int iSt :: .int iLv :: .int iWs :: vLa :: .ref qmu :: .ref qmy :: .ref qmb :: .ref qms :: .int iOm :: []), zzG cy 3 qmB rB, zzI cy (rB 0) 4 (bkR tA 0), zzI cy (rB 1) 4 (bkR tA 1), zzI cy (rB 2) 4 (bkR tA 2), zzI cy (rB 3) 4 (bkR tA 3), zzI cy (rB 4) 4 (bkR tA 4), zzI cy (rB 5) 4 (bkR tA 5), zzI cy (rB 6) 4 (bkR tA 6), zzI cy (rB 7) 4 (bkR tA 7), zzG cy 3 qmO rO, zzI cy (rO 0) 5 (onR tA 0), zzI cy (rO 1) 5 (onR tA 1), zzI cy (rO 2) 5 (onR tA 2), zzI cy (rO 3) 5 (onR tA 3), zzI cy (rO 4) 5 (onR tA 4), zzI cy (rO 5) 5 (onR tA 5), zzI cy (rO 6) 5 (onR tA 6), zzI cy (rO 7) 5 (onR tA 7), zzG cy 3 qmK rK, zzI cy (rK 0) 8 (T_kn tA 0), zzI cy (rK 1) 8 (T_kn tA 1), zzI cy (rK 2) 8 (T_kn tA 2), zzI cy (rK 3) 8 (T_kn tA 3), zzI cy (rK 4) 8 (T_kn tA 4), zzI cy (rK 5) 8 (T_kn tA 5), zzI cy (rK 6) 8 (T_kn tA 6), zzI cy (rK 7) 8 (T_kn tA 7), zzI cy qmu 8 fMu, zzI cy qmy 5 fMy, zzI cy qmb 5 fMb, zzQ cy 5 qms 6 (sF (refU uS0) (refU uS1) (refU uS2) (refU uS3) (refU uS4))] ++ (oM cy uS0 ++ (oM cy uS1 ++ (oM cy uS2 ++ (oM cy uS3 ++ oM cy uS4))))) sz [.ref qm, .ref qm, .int (nI kI), .int 0, .int (nI kM), .int (nI kU)] (Wv G (fun u => ∃ (iNm : Int32) (fNy : Nat → Int32) (fNb : Nat → Int32) (uN0 : UM) (uN1 : UM) (uN2 : UM) (uN3 : UM) (uN4 : UM), u = ([zzO qm 5 (.ref qmh :: .ref qmo :: .ref qmz :: .ref qmR :: .ref qmv :: .ref qmk :: .ref qma :: .ref qmt :: .int (nI kZ) :: .ref qmr :: .int (nI (T_nb tA)) :: .ref qmB :: .int (nI (T_np tA)) :: .ref qmO :: .ref qmK :: .int iEn :: .int iTk :: .int (T_sd tA) :: ov uP :: ov uU :: .int (nI kAt) :: .int iTo :: .int iFr :: .long JFi :: .int iFa :: .ref qm3 :: .int iSt :: .int iLv :: .int iWs :: vLa :: .ref qmu :: .ref qmy :: .ref qmb :: .ref qms :: .int iNm :: []), zzG cy 3 qmB rB, zzI cy (rB 0) 4 (bkR tA 0), zzI cy (rB 1) 4 (bkR tA 1), zzI cy (rB 2) 4 (bkR tA 2), zzI cy (rB 3) 4 (bkR tA 3), zzI cy (rB 4) 4 (bkR tA 4), zzI cy (rB 5) 4 (bkR tA 5), zzI cy (rB 6) 4 (bkR tA 6), zzI cy (rB 7) 4 (bkR tA 7), zzG cy 3 qmO rO, zzI cy (rO 0) 5 (onR tA 0), zzI cy (rO 1) 5 (onR tA 1), zzI cy (rO 2) 5 (onR tA 2), zzI cy (rO 3) 5 (onR tA 3), zzI cy (rO 4) 5 (onR tA 4), zzI cy (rO 5) 5 (onR tA 5), zzI cy (rO 6) 5 (onR tA 6), zzI cy (rO 7) 5 (onR tA 7), zzG cy 3 qmK rK, zzI cy (rK 0) 8 (T_kn tA 0), zzI cy (rK 1) 8 (T_kn tA 1), zzI cy (rK 2) 8 (T_kn tA 2), zzI cy (rK 3) 8 (T_kn tA 3), zzI cy (rK 4) 8 (T_kn tA 4), zzI cy (rK 5) 8 (T_kn tA 5), zzI cy (rK 6) 8 (T_kn tA 6), zzI cy (rK 7) 8 (T_kn tA 7), zzI cy qmu 8 fMu, zzI cy qmy 5 fNy, zzI cy qmb 5 fNb, zzQ cy 5 qms 6 (sF (refU uN0) (refU uN1) (refU uN2) (refU uN3) (refU uN4))] ++ (oM cy uN0 ++ (oM cy uN1 ++ (oM cy uN2 ++ (oM cy uN3 ++ oM cy uN4))))) ∧ ((0 < kM → isS uN0 = true) ∧ (1 < kM → isS uN1 = true) ∧ (2 < kM → isS uN2 = true) ∧ (3 < kM → isS uN3 = true) ∧ (4 < kM → isS uN4 = true)))) := by
  refine enW RX6 (by decide +kernel) rfl (Nat.le_of_ble_eq_true rfl) (fun p e s m below meth c ls A hx hb hml hown hts hr hlocks hP hN hl hin hD hA hS => ?_)
  have hin : meth.name = _ := hin
  have hK := hN.1
  replace hl : lv_has ls 8 [(0, .ref qm), (1, .ref qm), (2, .int (nI kI)), (3, .int 0), (4, .int (nI kM)), (5, .int (nI kU))] := hl
  refine lv_iload_n hx hb (g_29 bX6_rowsFrom rfl) rfl (lv_at hl 3 rfl) ?_
  refine lv_iload hx hb (g_21 (v := 4) bX6_rowsFrom rfl) (lv_at hl 4 rfl) ?_
  refine lv_icmp_ne (tgt := 97) hx hb dX6_rowsFrom_3 (by decide +kernel) (fun c_1 => ?_) (fun c_1 => ?_)
  · have hlM : 0 < kM := Nat.lt_of_le_of_ne hiM (fun q => c_1 (by rw [← q]; rfl))
    refine lv_aload_n hx hb (g_42 bX6_rowsFrom rfl) rfl (lv_at hl 0 rfl) ?_
    refine va_get (D := G) (ci := 5) (v := .ref qms) (C := RX6) (T := TX6) (N := 35) hx hb hts iX_X6 hown hK hP 0 rfl rfl 33 (by decide +kernel) (hts _ m_t883) (fun _ h9 => h9) rfl (g_180 (v := 67) bX6_rowsFrom rfl) ?_
    refine lv_iload_n hx hb (g_29 bX6_rowsFrom rfl) rfl (lv_at hl 3 rfl) ?_
    refine va_aldq hx hb hK hP 31 5 rfl rfl (in_c rfl) (g_50 bX6_rowsFrom rfl) ?_
    refine lv_setv (v := ov uS0) ((congrArg (fun z => va_rf (sF (refU uS0) (refU uS1) (refU uS2) (refU uS3) (refU uS4) z)) (show Int32.toNatClampNeg 0 = 0 by decide +kernel)).trans (rf_ov uS0)) ?_
    rcases um_or uS0 with eS_15 | ⟨qS_2, qSB_3, qSO_4, qSK_5, rSB_6, rSO_7, rSK_8, tS_9, xS_10, iEnS_11, iTkS_12, iLvS_13, iWsS_14, eS_15⟩
    · rw [eS_15] at hP hD
      have hPD := pd_as (([_, _, _, _, _, _, _, _, _, _, _, _, _, _, _, _, _, _, _, _, _, _, _, _, _, _, _, _, _, _, _, zzQ cy 5 qms 6 (sF none (refU uS1) (refU uS2) (refU uS3) (refU uS4))] : va_W) ++ (oM cy uS1 ++ (oM cy uS2 ++ (oM cy uS3 ++ oM cy uS4)))) hP hD rfl
      clear hP hD
      obtain ⟨hP, hD⟩ := hPD
      refine lv_setv (v := .null) (by rw [eS_15]; rfl) ?_
      refine lv_ifnonnullN hx hb dX6_rowsFrom_103 ?_
      refine lv_aload_n hx hb (g_42 bX6_rowsFrom rfl) rfl (lv_at hl 0 rfl) ?_
      refine va_get (D := G) (ci := 5) (v := .ref qms) (C := RX6) (T := TX6) (N := 35) hx hb hts iX_X6 hown hK hP 0 rfl rfl 33 (by decide +kernel) (hts _ m_t883) (fun _ h9 => h9) rfl (g_180 (v := 67) bX6_rowsFrom rfl) ?_
      refine lv_iload_n hx hb (g_29 bX6_rowsFrom rfl) rfl (lv_at hl 3 rfl) ?_
      refine va_new (ci := 5) (fs := (.null :: .null :: .null :: .null :: .null :: .null :: .null :: .null :: .int 0 :: .null :: .int 0 :: .null :: .int 0 :: .null :: .null :: .int 0 :: .int 0 :: .int 0 :: .null :: .null :: .int 0 :: .int 0 :: .int 0 :: .long 0 :: .int 0 :: .null :: .int 0 :: .int 0 :: .int 0 :: .null :: .null :: .null :: .null :: .null :: .int 0 :: [])) (C := RX6) (T := TX6) (N := 35) hx hb hts iX_X6 tyX6 tyX6_ok hown (hts _ m_t848) (hts _ m_t839) (hts _ m_t6) hK hP hD hS hA rfl df_X6 (Nat.le_of_ble_eq_true rfl) (Nat.le_of_ble_eq_true rfl) (g_187 (v := 8) bX6_rowsFrom rfl) (fun q_16 H => ?_)
      clear hP hD hS
      intro hP hD hS
      replace hP := va_P.swap hP
      replace hD := va_D.swap hD
      have hPD := pd_as (((_ :: _ :: _ :: _ :: _ :: _ :: _ :: _ :: _ :: _ :: _ :: _ :: _ :: _ :: _ :: _ :: _ :: _ :: _ :: _ :: _ :: _ :: _ :: _ :: _ :: _ :: _ :: _ :: _ :: _ :: _ :: _ :: zzO q_16 5 (.null :: .null :: .null :: .null :: .null :: .null :: .null :: .null :: .int 0 :: .null :: .int 0 :: .null :: .int 0 :: .null :: .null :: .int 0 :: .int 0 :: .int 0 :: .null :: .null :: .int 0 :: .int 0 :: .int 0 :: .long 0 :: .int 0 :: .null :: .int 0 :: .int 0 :: .int 0 :: .null :: .null :: .null :: .null :: .null :: .int 0 :: []) :: []) : va_W) ++ (oM cy uS1 ++ (oM cy uS2 ++ (oM cy uS3 ++ oM cy uS4)))) hP hD rfl
      clear hP hD
      obtain ⟨hP, hD⟩ := hPD
      refine W.widen (k := 1) (n := 35) (Nat.le_of_ble_eq_true rfl) (Nat.le_of_ble_eq_true rfl) ?_
      refine lv_dup hx hb (g_89 bX6_rowsFrom rfl) rfl ?_
      refine cIvQ (As := []) (rest := [.ref q_16, .int 0, .ref qms]) (b := q_16) ⟨hx, hb, hml, hown, hts⟩ (c_X6_initS l G cy (H).size q_16) L_X6_291 hN hP hD hS hA [32] (true :: true :: true :: true :: true :: true :: true :: true :: true :: true :: true :: true :: true :: true :: true :: true :: true :: true :: true :: true :: true :: true :: true :: true :: true :: true :: true :: true :: true :: true :: true :: true :: false :: []) rfl (by decide +kernel) rfl rfl ⟨Nat.le_of_ble_eq_true rfl, Nat.le_of_ble_eq_true rfl⟩ hl.1 (Nat.le_of_ble_eq_true rfl) (g_183 (v := 291) bX6_rowsFrom rfl) ⟨Nat.le_of_ble_eq_true rfl, Nat.le_of_ble_eq_true rfl⟩ (fun u_19 H locs h_18 => ?_)
      clear hP hD hS
      intro hP hD hS
      obtain ⟨qmB_20, qmO_21, qmK_22, rB_23, rO_24, rK_25, xF_26, hu9⟩ := h_18
      have hPD := pd_eqQ (((_ :: _ :: _ :: _ :: _ :: _ :: _ :: _ :: _ :: _ :: _ :: _ :: _ :: _ :: _ :: _ :: _ :: _ :: _ :: _ :: _ :: _ :: _ :: _ :: _ :: _ :: _ :: _ :: _ :: _ :: _ :: _ :: zzO q_16 5 (xF_26 0 :: xF_26 1 :: xF_26 2 :: xF_26 3 :: xF_26 4 :: xF_26 5 :: xF_26 6 :: xF_26 7 :: xF_26 8 :: xF_26 9 :: .int (nI (T_nb T0)) :: .ref qmB_20 :: .int (nI (T_np T0)) :: .ref qmO_21 :: .ref qmK_22 :: .int 0 :: .int 0 :: .int (T_sd T0) :: xF_26 18 :: xF_26 19 :: xF_26 20 :: xF_26 21 :: xF_26 22 :: xF_26 23 :: xF_26 24 :: xF_26 25 :: xF_26 26 :: .int 0 :: .int 0 :: xF_26 29 :: xF_26 30 :: xF_26 31 :: xF_26 32 :: xF_26 33 :: xF_26 34 :: []) :: zzG cy 3 qmB_20 rB_23 :: zzI cy (rB_23 0) 4 (bkR T0 0) :: zzI cy (rB_23 1) 4 (bkR T0 1) :: zzI cy (rB_23 2) 4 (bkR T0 2) :: zzI cy (rB_23 3) 4 (bkR T0 3) :: zzI cy (rB_23 4) 4 (bkR T0 4) :: zzI cy (rB_23 5) 4 (bkR T0 5) :: zzI cy (rB_23 6) 4 (bkR T0 6) :: zzI cy (rB_23 7) 4 (bkR T0 7) :: zzG cy 3 qmO_21 rO_24 :: zzI cy (rO_24 0) 5 (onR T0 0) :: zzI cy (rO_24 1) 5 (onR T0 1) :: zzI cy (rO_24 2) 5 (onR T0 2) :: zzI cy (rO_24 3) 5 (onR T0 3) :: zzI cy (rO_24 4) 5 (onR T0 4) :: zzI cy (rO_24 5) 5 (onR T0 5) :: zzI cy (rO_24 6) 5 (onR T0 6) :: zzI cy (rO_24 7) 5 (onR T0 7) :: zzG cy 3 qmK_22 rK_25 :: zzI cy (rK_25 0) 8 (T_kn T0 0) :: zzI cy (rK_25 1) 8 (T_kn T0 1) :: zzI cy (rK_25 2) 8 (T_kn T0 2) :: zzI cy (rK_25 3) 8 (T_kn T0 3) :: zzI cy (rK_25 4) 8 (T_kn T0 4) :: zzI cy (rK_25 5) 8 (T_kn T0 5) :: zzI cy (rK_25 6) 8 (T_kn T0 6) :: zzI cy (rK_25 7) 8 (T_kn T0 7) :: []) : va_W) ++ (oM cy uS1 ++ (oM cy uS2 ++ (oM cy uS3 ++ oM cy uS4)))) hP hD hu9 rfl
      clear hP hD hu9
      obtain ⟨hP, hD⟩ := hPD
      refine W.widen (k := 50) (n := 888) (Nat.le_of_ble_eq_true rfl) (Nat.le_of_ble_eq_true rfl) ?_
      refine va_astq hx hb hK hP hD hS 31 5 32 5 rfl rfl rfl rfl (in_c rfl) (g_83 bX6_rowsFrom rfl) (fun H locs => ?_)
      clear hP hD hS
      intro hP hD hS
      rw [show Int32.toNatClampNeg 0 = 0 by decide +kernel] at hP hD
      rw [su_0] at hP hD
      have hPD := pd_as (((_ :: _ :: _ :: _ :: _ :: _ :: _ :: _ :: _ :: _ :: _ :: _ :: _ :: _ :: _ :: _ :: _ :: _ :: _ :: _ :: _ :: _ :: _ :: _ :: _ :: _ :: _ :: _ :: _ :: _ :: _ :: zzQ cy 5 qms 6 (sF (some q_16) (refU uS1) (refU uS2) (refU uS3) (refU uS4)) :: _ :: _ :: _ :: _ :: _ :: _ :: _ :: _ :: _ :: _ :: _ :: _ :: _ :: _ :: _ :: _ :: _ :: _ :: _ :: _ :: _ :: _ :: _ :: _ :: _ :: _ :: _ :: _ :: []) : va_W) ++ (oM cy uS1 ++ (oM cy uS2 ++ (oM cy uS3 ++ oM cy uS4)))) hP hD rfl
      clear hP hD
      obtain ⟨hP, hD⟩ := hPD
      refine lv_iconst (v := 0) hx hb (g_3 bX6_rowsFrom rfl) (by decide +kernel) ?_
      refine lv_istore (lv' := [(6, .int 0), (0, .ref qm), (1, .ref qm), (2, .int (nI kI)), (3, .int 0), (4, .int (nI kM)), (5, .int (nI kU))]) hx hb (g_54 (v := 6) bX6_rowsFrom rfl) hl (by decide +kernel) rfl (fun ls => ?_)
      clear hl
      intro hl
      have lp_27 : ∀ (n_28 : Nat) (kk_30 : Nat) (tJ_31 : TA) (fY_32 : Nat → Int32) (fB_33 : Nat → Int32) (xM_34 : Int32) (iE1_35 : Int32) (iE2_36 : Int32) (uJ1_37 : UM) (uJ2_38 : UM) (uJ3_39 : UM) (uJ4_40 : UM) (xc_41 : Nat) (yc_42 : Nat), 5 - kk_30 < n_28 → kk_30 ≤ kM → ((xc_41 = 50 ∧ yc_42 = 888 ∧ cu kk_30 kU = 0) ∨ (xc_41 = 250 ∧ yc_42 = 4440 ∧ (1 < kM → isS uJ1_37 = true) ∧ (2 < kM → isS uJ2_38 = true) ∧ (3 < kM → isS uJ3_39 = true) ∧ (4 < kM → isS uJ4_40 = true))) → ∀ (H : Heap) (locs : List Loc) (ls : Array Slot), va_P G CL ((zzO qm 5 (.ref qmh :: .ref qmo :: .ref qmz :: .ref qmR :: .ref qmv :: .ref qmk :: .ref qma :: .ref qmt :: .int (nI kZ) :: .ref qmr :: .int (nI (T_nb tA)) :: .ref qmB :: .int (nI (T_np tA)) :: .ref qmO :: .ref qmK :: .int iEn :: .int iTk :: .int (T_sd tA) :: ov uP :: ov uU :: .int (nI kAt) :: .int iTo :: .int iFr :: .long JFi :: .int iFa :: .ref qm3 :: .int iSt :: .int iLv :: .int iWs :: vLa :: .ref qmu :: .ref qmy :: .ref qmb :: .ref qms :: .int xM_34 :: []) :: zzG cy 3 qmB rB :: zzI cy (rB 0) 4 (bkR tA 0) :: zzI cy (rB 1) 4 (bkR tA 1) :: zzI cy (rB 2) 4 (bkR tA 2) :: zzI cy (rB 3) 4 (bkR tA 3) :: zzI cy (rB 4) 4 (bkR tA 4) :: zzI cy (rB 5) 4 (bkR tA 5) :: zzI cy (rB 6) 4 (bkR tA 6) :: zzI cy (rB 7) 4 (bkR tA 7) :: zzG cy 3 qmO rO :: zzI cy (rO 0) 5 (onR tA 0) :: zzI cy (rO 1) 5 (onR tA 1) :: zzI cy (rO 2) 5 (onR tA 2) :: zzI cy (rO 3) 5 (onR tA 3) :: zzI cy (rO 4) 5 (onR tA 4) :: zzI cy (rO 5) 5 (onR tA 5) :: zzI cy (rO 6) 5 (onR tA 6) :: zzI cy (rO 7) 5 (onR tA 7) :: zzG cy 3 qmK rK :: zzI cy (rK 0) 8 (T_kn tA 0) :: zzI cy (rK 1) 8 (T_kn tA 1) :: zzI cy (rK 2) 8 (T_kn tA 2) :: zzI cy (rK 3) 8 (T_kn tA 3) :: zzI cy (rK 4) 8 (T_kn tA 4) :: zzI cy (rK 5) 8 (T_kn tA 5) :: zzI cy (rK 6) 8 (T_kn tA 6) :: zzI cy (rK 7) 8 (T_kn tA 7) :: zzI cy qmu 8 fMu :: zzI cy qmy 5 fY_32 :: zzI cy qmb 5 fB_33 :: zzQ cy 5 qms 6 (sF (some q_16) (refU uJ1_37) (refU uJ2_38) (refU uJ3_39) (refU uJ4_40)) :: zzO q_16 5 (xF_26 0 :: xF_26 1 :: xF_26 2 :: xF_26 3 :: xF_26 4 :: xF_26 5 :: xF_26 6 :: xF_26 7 :: xF_26 8 :: xF_26 9 :: .int (nI (T_nb tJ_31)) :: .ref qmB_20 :: .int (nI (T_np tJ_31)) :: .ref qmO_21 :: .ref qmK_22 :: .int iE1_35 :: .int iE2_36 :: .int (T_sd tJ_31) :: xF_26 18 :: xF_26 19 :: xF_26 20 :: xF_26 21 :: xF_26 22 :: xF_26 23 :: xF_26 24 :: xF_26 25 :: xF_26 26 :: .int 0 :: .int 0 :: xF_26 29 :: xF_26 30 :: xF_26 31 :: xF_26 32 :: xF_26 33 :: xF_26 34 :: []) :: zzG cy 3 qmB_20 rB_23 :: zzI cy (rB_23 0) 4 (bkR tJ_31 0) :: zzI cy (rB_23 1) 4 (bkR tJ_31 1) :: zzI cy (rB_23 2) 4 (bkR tJ_31 2) :: zzI cy (rB_23 3) 4 (bkR tJ_31 3) :: zzI cy (rB_23 4) 4 (bkR tJ_31 4) :: zzI cy (rB_23 5) 4 (bkR tJ_31 5) :: zzI cy (rB_23 6) 4 (bkR tJ_31 6) :: zzI cy (rB_23 7) 4 (bkR tJ_31 7) :: zzG cy 3 qmO_21 rO_24 :: zzI cy (rO_24 0) 5 (onR tJ_31 0) :: zzI cy (rO_24 1) 5 (onR tJ_31 1) :: zzI cy (rO_24 2) 5 (onR tJ_31 2) :: zzI cy (rO_24 3) 5 (onR tJ_31 3) :: zzI cy (rO_24 4) 5 (onR tJ_31 4) :: zzI cy (rO_24 5) 5 (onR tJ_31 5) :: zzI cy (rO_24 6) 5 (onR tJ_31 6) :: zzI cy (rO_24 7) 5 (onR tJ_31 7) :: zzG cy 3 qmK_22 rK_25 :: zzI cy (rK_25 0) 8 (T_kn tJ_31 0) :: zzI cy (rK_25 1) 8 (T_kn tJ_31 1) :: zzI cy (rK_25 2) 8 (T_kn tJ_31 2) :: zzI cy (rK_25 3) 8 (T_kn tJ_31 3) :: zzI cy (rK_25 4) 8 (T_kn tJ_31 4) :: zzI cy (rK_25 5) 8 (T_kn tJ_31 5) :: zzI cy (rK_25 6) 8 (T_kn tJ_31 6) :: zzI cy (rK_25 7) 8 (T_kn tJ_31 7) :: []) ++ (oM cy uJ1_37 ++ (oM cy uJ2_38 ++ (oM cy uJ3_39 ++ oM cy uJ4_40)))) H → va_D A ((zzO qm 5 (.ref qmh :: .ref qmo :: .ref qmz :: .ref qmR :: .ref qmv :: .ref qmk :: .ref qma :: .ref qmt :: .int (nI kZ) :: .ref qmr :: .int (nI (T_nb tA)) :: .ref qmB :: .int (nI (T_np tA)) :: .ref qmO :: .ref qmK :: .int iEn :: .int iTk :: .int (T_sd tA) :: ov uP :: ov uU :: .int (nI kAt) :: .int iTo :: .int iFr :: .long JFi :: .int iFa :: .ref qm3 :: .int iSt :: .int iLv :: .int iWs :: vLa :: .ref qmu :: .ref qmy :: .ref qmb :: .ref qms :: .int xM_34 :: []) :: zzG cy 3 qmB rB :: zzI cy (rB 0) 4 (bkR tA 0) :: zzI cy (rB 1) 4 (bkR tA 1) :: zzI cy (rB 2) 4 (bkR tA 2) :: zzI cy (rB 3) 4 (bkR tA 3) :: zzI cy (rB 4) 4 (bkR tA 4) :: zzI cy (rB 5) 4 (bkR tA 5) :: zzI cy (rB 6) 4 (bkR tA 6) :: zzI cy (rB 7) 4 (bkR tA 7) :: zzG cy 3 qmO rO :: zzI cy (rO 0) 5 (onR tA 0) :: zzI cy (rO 1) 5 (onR tA 1) :: zzI cy (rO 2) 5 (onR tA 2) :: zzI cy (rO 3) 5 (onR tA 3) :: zzI cy (rO 4) 5 (onR tA 4) :: zzI cy (rO 5) 5 (onR tA 5) :: zzI cy (rO 6) 5 (onR tA 6) :: zzI cy (rO 7) 5 (onR tA 7) :: zzG cy 3 qmK rK :: zzI cy (rK 0) 8 (T_kn tA 0) :: zzI cy (rK 1) 8 (T_kn tA 1) :: zzI cy (rK 2) 8 (T_kn tA 2) :: zzI cy (rK 3) 8 (T_kn tA 3) :: zzI cy (rK 4) 8 (T_kn tA 4) :: zzI cy (rK 5) 8 (T_kn tA 5) :: zzI cy (rK 6) 8 (T_kn tA 6) :: zzI cy (rK 7) 8 (T_kn tA 7) :: zzI cy qmu 8 fMu :: zzI cy qmy 5 fY_32 :: zzI cy qmb 5 fB_33 :: zzQ cy 5 qms 6 (sF (some q_16) (refU uJ1_37) (refU uJ2_38) (refU uJ3_39) (refU uJ4_40)) :: zzO q_16 5 (xF_26 0 :: xF_26 1 :: xF_26 2 :: xF_26 3 :: xF_26 4 :: xF_26 5 :: xF_26 6 :: xF_26 7 :: xF_26 8 :: xF_26 9 :: .int (nI (T_nb tJ_31)) :: .ref qmB_20 :: .int (nI (T_np tJ_31)) :: .ref qmO_21 :: .ref qmK_22 :: .int iE1_35 :: .int iE2_36 :: .int (T_sd tJ_31) :: xF_26 18 :: xF_26 19 :: xF_26 20 :: xF_26 21 :: xF_26 22 :: xF_26 23 :: xF_26 24 :: xF_26 25 :: xF_26 26 :: .int 0 :: .int 0 :: xF_26 29 :: xF_26 30 :: xF_26 31 :: xF_26 32 :: xF_26 33 :: xF_26 34 :: []) :: zzG cy 3 qmB_20 rB_23 :: zzI cy (rB_23 0) 4 (bkR tJ_31 0) :: zzI cy (rB_23 1) 4 (bkR tJ_31 1) :: zzI cy (rB_23 2) 4 (bkR tJ_31 2) :: zzI cy (rB_23 3) 4 (bkR tJ_31 3) :: zzI cy (rB_23 4) 4 (bkR tJ_31 4) :: zzI cy (rB_23 5) 4 (bkR tJ_31 5) :: zzI cy (rB_23 6) 4 (bkR tJ_31 6) :: zzI cy (rB_23 7) 4 (bkR tJ_31 7) :: zzG cy 3 qmO_21 rO_24 :: zzI cy (rO_24 0) 5 (onR tJ_31 0) :: zzI cy (rO_24 1) 5 (onR tJ_31 1) :: zzI cy (rO_24 2) 5 (onR tJ_31 2) :: zzI cy (rO_24 3) 5 (onR tJ_31 3) :: zzI cy (rO_24 4) 5 (onR tJ_31 4) :: zzI cy (rO_24 5) 5 (onR tJ_31 5) :: zzI cy (rO_24 6) 5 (onR tJ_31 6) :: zzI cy (rO_24 7) 5 (onR tJ_31 7) :: zzG cy 3 qmK_22 rK_25 :: zzI cy (rK_25 0) 8 (T_kn tJ_31 0) :: zzI cy (rK_25 1) 8 (T_kn tJ_31 1) :: zzI cy (rK_25 2) 8 (T_kn tJ_31 2) :: zzI cy (rK_25 3) 8 (T_kn tJ_31 3) :: zzI cy (rK_25 4) 8 (T_kn tJ_31 4) :: zzI cy (rK_25 5) 8 (T_kn tJ_31 5) :: zzI cy (rK_25 6) 8 (T_kn tJ_31 6) :: zzI cy (rK_25 7) 8 (T_kn tJ_31 7) :: []) ++ (oM cy uJ1_37 ++ (oM cy uJ2_38 ++ (oM cy uJ3_39 ++ oM cy uJ4_40)))) → va_S A s.heap H locs → lv_has ls 8 [(6, .int (nI kk_30)), (0, .ref qm), (1, .ref qm), (2, .int (nI kI)), (3, .int 0), (4, .int (nI kM)), (5, .int (nI kU))] → W p l e (Rm 11 250 4440) s m (List.toArray (α := Value) [.ref qm, .ref qm, .int (nI kI), .int 0, .int (nI kM), .int (nI kU)]) below meth c H locs xc_41 yc_42 (MQ below ((Wv G (fun u => ∃ (iNm : Int32) (fNy : Nat → Int32) (fNb : Nat → Int32) (uN0 : UM) (uN1 : UM) (uN2 : UM) (uN3 : UM) (uN4 : UM), u = ([zzO qm 5 (.ref qmh :: .ref qmo :: .ref qmz :: .ref qmR :: .ref qmv :: .ref qmk :: .ref qma :: .ref qmt :: .int (nI kZ) :: .ref qmr :: .int (nI (T_nb tA)) :: .ref qmB :: .int (nI (T_np tA)) :: .ref qmO :: .ref qmK :: .int iEn :: .int iTk :: .int (T_sd tA) :: ov uP :: ov uU :: .int (nI kAt) :: .int iTo :: .int iFr :: .long JFi :: .int iFa :: .ref qm3 :: .int iSt :: .int iLv :: .int iWs :: vLa :: .ref qmu :: .ref qmy :: .ref qmb :: .ref qms :: .int iNm :: []), zzG cy 3 qmB rB, zzI cy (rB 0) 4 (bkR tA 0), zzI cy (rB 1) 4 (bkR tA 1), zzI cy (rB 2) 4 (bkR tA 2), zzI cy (rB 3) 4 (bkR tA 3), zzI cy (rB 4) 4 (bkR tA 4), zzI cy (rB 5) 4 (bkR tA 5), zzI cy (rB 6) 4 (bkR tA 6), zzI cy (rB 7) 4 (bkR tA 7), zzG cy 3 qmO rO, zzI cy (rO 0) 5 (onR tA 0), zzI cy (rO 1) 5 (onR tA 1), zzI cy (rO 2) 5 (onR tA 2), zzI cy (rO 3) 5 (onR tA 3), zzI cy (rO 4) 5 (onR tA 4), zzI cy (rO 5) 5 (onR tA 5), zzI cy (rO 6) 5 (onR tA 6), zzI cy (rO 7) 5 (onR tA 7), zzG cy 3 qmK rK, zzI cy (rK 0) 8 (T_kn tA 0), zzI cy (rK 1) 8 (T_kn tA 1), zzI cy (rK 2) 8 (T_kn tA 2), zzI cy (rK 3) 8 (T_kn tA 3), zzI cy (rK 4) 8 (T_kn tA 4), zzI cy (rK 5) 8 (T_kn tA 5), zzI cy (rK 6) 8 (T_kn tA 6), zzI cy (rK 7) 8 (T_kn tA 7), zzI cy qmu 8 fMu, zzI cy qmy 5 fNy, zzI cy qmb 5 fNb, zzQ cy 5 qms 6 (sF (refU uN0) (refU uN1) (refU uN2) (refU uN3) (refU uN4))] ++ (oM cy uN0 ++ (oM cy uN1 ++ (oM cy uN2 ++ (oM cy uN3 ++ oM cy uN4))))) ∧ ((0 < kM → isS uN0 = true) ∧ (1 < kM → isS uN1 = true) ∧ (2 < kM → isS uN2 = true) ∧ (3 < kM → isS uN3 = true) ∧ (4 < kM → isS uN4 = true)))) A) (List.toArray (α := Value) [.ref qm, .ref qm, .int (nI kI), .int 0, .int (nI kM), .int (nI kU)]) s 250 4440 A) (F0 m 122 ls []) := by
        intro n_28
        induction n_28 with
        | zero => intro kk_30 tJ_31 fY_32 fB_33 xM_34 iE1_35 iE2_36 uJ1_37 uJ2_38 uJ3_39 uJ4_40 xc_41 yc_42 hm9; exact absurd hm9 (Nat.not_lt_zero _)
        | succ n_28 ih_29 =>
          intro kk_30 tJ_31 fY_32 fB_33 xM_34 iE1_35 iE2_36 uJ1_37 uJ2_38 uJ3_39 uJ4_40 xc_41 yc_42 hm_45 hj_43 hC_44 H locs ls hP hD hS hl
          refine lv_iload hx hb (g_21 (v := 6) bX6_rowsFrom rfl) (lv_at hl 0 rfl) ?_
          refine lv_iload hx hb (g_21 (v := 4) bX6_rowsFrom rfl) (lv_at hl 5 rfl) ?_
          refine lv_icmp_ge (tgt := 208) hx hb dX6_rowsFrom_126 (by decide +kernel) (fun c_46 => ?_) (fun c_46 => ?_)
          · have hlt_47 : kk_30 = kM := Nat.le_antisymm (by omega) (lp_ge rfl rfl (by omega) (by omega) c_46)
            rcases hC_44 with ⟨e_48, e_49, e_50⟩ | ⟨e_48, e_49, e_50⟩
            · rw [hlt_47] at e_50
              omega
            · subst e_48
              subst e_49
              exact endVt [(true :: true :: true :: true :: true :: true :: true :: true :: true :: true :: true :: true :: true :: true :: true :: true :: true :: true :: true :: true :: true :: true :: true :: true :: true :: true :: true :: true :: true :: true :: true :: true :: true :: true :: true :: true :: true :: true :: true :: true :: true :: true :: true :: true :: true :: true :: true :: true :: true :: true :: true :: true :: true :: true :: true :: true :: true :: true :: true :: true :: [])] hx hb hr hlocks hP hD rfl (by decide +kernel) hS ⟨xM_34, fY_32, fB_33, (some (q_16, qmB_20, qmO_21, qmK_22, rB_23, rO_24, rK_25, tJ_31, xF_26, iE1_35, iE2_36, 0, 0)), uJ1_37, uJ2_38, uJ3_39, uJ4_40, rfl, ⟨fun _ => rfl, e_50⟩⟩ (g_177 bX6_rowsFrom rfl)
          · have hlt_51 : kk_30 < kM := lp_lt rfl rfl (by omega) (by omega) c_46
            refine lv_iload hx hb (g_21 (v := 5) bX6_rowsFrom rfl) (lv_at hl 6 rfl) ?_
            refine lv_iload hx hb (g_21 (v := 6) bX6_rowsFrom rfl) (lv_at hl 0 rfl) ?_
            refine lv_ishr hx hb (g_122 bX6_rowsFrom rfl) ?_
            refine lv_iconst (v := 1) hx hb (g_4 bX6_rowsFrom rfl) (by decide +kernel) ?_
            refine lv_iand hx hb (g_126 bX6_rowsFrom rfl) ?_
            refine lv_if_ne (tgt := 202) hx hb dX6_rowsFrom_136 (by decide +kernel) (fun c_52 => ?_) (fun c_52 => ?_)
            · refine lv_iinc (v := nI (kk_30 + 1)) (lv' := [(6, .int (nI (kk_30 + 1))), (0, .ref qm), (1, .ref qm), (2, .int (nI kI)), (3, .int 0), (4, .int (nI kM)), (5, .int (nI kU))]) hx hb dX6_rowsFrom_202 hl (k := 0) rfl (nI_1 _) (by decide +kernel) rfl (fun ls => ?_)
              clear hl
              intro hl
              refine lv_goto (tgt := 122) hx hb dX6_rowsFrom_205 (by decide +kernel) ?_
              exact ih_29 (kk_30 + 1) tJ_31 fY_32 fB_33 xM_34 iE1_35 iE2_36 uJ1_37 uJ2_38 uJ3_39 uJ4_40 xc_41 yc_42 (by omega) (by omega) (hC_44.elim (fun q => Or.inl ⟨q.1, q.2.1, cu_set (by omega) (by omega) q.2.2 c_52⟩) Or.inr) _ _ _ hP hD hS (lv_sub hl [0, 1, 2, 3, 4, 5, 6] rfl)
            · refine lv_aload_n hx hb (g_42 bX6_rowsFrom rfl) rfl (lv_at hl 1 rfl) ?_
              refine va_get (D := G) (ci := 5) (v := .ref qms) (C := RX6) (T := TX6) (N := 35) hx hb hts iX_X6 hown hK hP 0 rfl rfl 33 (by decide +kernel) (hts _ m_t883) (fun _ h9 => h9) rfl (g_180 (v := 67) bX6_rowsFrom rfl) ?_
              refine lv_iload_n hx hb (g_29 bX6_rowsFrom rfl) rfl (lv_at hl 4 rfl) ?_
              refine va_aldq hx hb hK hP 31 5 rfl rfl (in_c rfl) (g_50 bX6_rowsFrom rfl) ?_
              refine lv_setv (v := .ref q_16) ((congrArg (fun z => va_rf (sF (some q_16) (refU uJ1_37) (refU uJ2_38) (refU uJ3_39) (refU uJ4_40) z)) (show Int32.toNatClampNeg 0 = 0 by decide +kernel)).trans rfl) ?_
              refine lv_aload_n hx hb (g_43 bX6_rowsFrom rfl) rfl (lv_at hl 2 rfl) ?_
              refine cVvQ (As := [.ref qm]) (rest := []) (b := q_16) (q := (RX6, TX6, 35)) ⟨hx, hb, hml, hown, hts⟩ (c_X6_takeFrom l G cy (H).size q_16 (xF_26 0) (xF_26 1) (xF_26 2) (xF_26 3) (xF_26 4) (xF_26 5) (xF_26 6) (xF_26 7) (xF_26 8) (xF_26 9) tJ_31 qmB_20 qmO_21 qmK_22 iE1_35 iE2_36 (xF_26 18) (xF_26 19) (xF_26 20) (xF_26 21) (xF_26 22) (xF_26 23) (xF_26 24) (xF_26 25) (xF_26 26) 0 0 (xF_26 29) (xF_26 30) (xF_26 31) (xF_26 32) (xF_26 33) (xF_26 34) rB_23 rO_24 rK_25 qm (.ref qmh) (.ref qmo) (.ref qmz) (.ref qmR) (.ref qmv) (.ref qmk) (.ref qma) (.ref qmt) (.int (nI kZ)) (.ref qmr) tA qmB qmO qmK iEn iTk (ov uP) (ov uU) (.int (nI kAt)) (.int iTo) (.int iFr) (.long JFi) (.int iFa) (.ref qm3) (.int iSt) iLv iWs vLa (.ref qmu) (.ref qmy) (.ref qmb) (.ref qms) (.int xM_34) rB rO rK) L_X6_225 hN hP hD hS hA (trueIxs [(false :: false :: false :: false :: false :: false :: false :: false :: false :: false :: false :: false :: false :: false :: false :: false :: false :: false :: false :: false :: false :: false :: false :: false :: false :: false :: false :: false :: false :: false :: false :: false :: true :: true :: true :: true :: true :: true :: true :: true :: true :: true :: true :: true :: true :: true :: true :: true :: true :: true :: true :: true :: true :: true :: true :: true :: true :: true :: true :: true :: []), [true, true, true, true, true, true, true, true, true, true, true, true, true, true, true, true, true, true, true, true, true, true, true, true, true, true, true, true]]) (false :: false :: false :: false :: false :: false :: false :: false :: false :: false :: false :: false :: false :: false :: false :: false :: false :: false :: false :: false :: false :: false :: false :: false :: false :: false :: false :: false :: true :: true :: true :: true :: false :: false :: false :: false :: false :: false :: false :: false :: false :: false :: false :: false :: false :: false :: false :: false :: false :: false :: false :: false :: false :: false :: false :: false :: false :: false :: false :: false :: []) (sels_eq rfl rfl) (by decide +kernel) rfl 32 5 rfl rfl rfl ⟨Nat.le_of_ble_eq_true rfl, Nat.le_of_ble_eq_true rfl⟩ hl.1 (Nat.le_of_ble_eq_true rfl) (g_182 (v := 225) bX6_rowsFrom rfl) ⟨by show xc_41 + 0 ≤ 250; omega, by show yc_42 + 0 ≤ 4440; omega⟩ (fun u_55 H locs h_54 => ?_)
              clear hP hD hS
              intro hP hD hS
              have hPD := pd_eqQ (((_ :: zzI cy qmy 5 fY_32 :: zzI cy qmb 5 fB_33 :: zzQ cy 5 qms 6 (sF (some q_16) (refU uJ1_37) (refU uJ2_38) (refU uJ3_39) (refU uJ4_40)) :: zzO q_16 5 (xF_26 0 :: xF_26 1 :: xF_26 2 :: xF_26 3 :: xF_26 4 :: xF_26 5 :: xF_26 6 :: xF_26 7 :: xF_26 8 :: xF_26 9 :: .int (nI (T_nb tA)) :: .ref qmB_20 :: .int (nI (T_np tA)) :: .ref qmO_21 :: .ref qmK_22 :: .int iEn :: .int iTk :: .int (T_sd tA) :: xF_26 18 :: xF_26 19 :: xF_26 20 :: xF_26 21 :: xF_26 22 :: xF_26 23 :: xF_26 24 :: xF_26 25 :: xF_26 26 :: .int 0 :: .int 0 :: xF_26 29 :: xF_26 30 :: xF_26 31 :: xF_26 32 :: xF_26 33 :: xF_26 34 :: []) :: _ :: zzI cy (rB_23 0) 4 (bkR tA 0) :: zzI cy (rB_23 1) 4 (bkR tA 1) :: zzI cy (rB_23 2) 4 (bkR tA 2) :: zzI cy (rB_23 3) 4 (bkR tA 3) :: zzI cy (rB_23 4) 4 (bkR tA 4) :: zzI cy (rB_23 5) 4 (bkR tA 5) :: zzI cy (rB_23 6) 4 (bkR tA 6) :: zzI cy (rB_23 7) 4 (bkR tA 7) :: _ :: zzI cy (rO_24 0) 5 (onR tA 0) :: zzI cy (rO_24 1) 5 (onR tA 1) :: zzI cy (rO_24 2) 5 (onR tA 2) :: zzI cy (rO_24 3) 5 (onR tA 3) :: zzI cy (rO_24 4) 5 (onR tA 4) :: zzI cy (rO_24 5) 5 (onR tA 5) :: zzI cy (rO_24 6) 5 (onR tA 6) :: zzI cy (rO_24 7) 5 (onR tA 7) :: _ :: zzI cy (rK_25 0) 8 (T_kn tA 0) :: zzI cy (rK_25 1) 8 (T_kn tA 1) :: zzI cy (rK_25 2) 8 (T_kn tA 2) :: zzI cy (rK_25 3) 8 (T_kn tA 3) :: zzI cy (rK_25 4) 8 (T_kn tA 4) :: zzI cy (rK_25 5) 8 (T_kn tA 5) :: zzI cy (rK_25 6) 8 (T_kn tA 6) :: zzI cy (rK_25 7) 8 (T_kn tA 7) :: zzO qm 5 (.ref qmh :: .ref qmo :: .ref qmz :: .ref qmR :: .ref qmv :: .ref qmk :: .ref qma :: .ref qmt :: .int (nI kZ) :: .ref qmr :: .int (nI (T_nb tA)) :: .ref qmB :: .int (nI (T_np tA)) :: .ref qmO :: .ref qmK :: .int iEn :: .int iTk :: .int (T_sd tA) :: ov uP :: ov uU :: .int (nI kAt) :: .int iTo :: .int iFr :: .long JFi :: .int iFa :: .ref qm3 :: .int iSt :: .int iLv :: .int iWs :: vLa :: .ref qmu :: .ref qmy :: .ref qmb :: .ref qms :: .int xM_34 :: []) :: _ :: _ :: _ :: _ :: _ :: _ :: _ :: _ :: _ :: _ :: _ :: _ :: _ :: _ :: _ :: _ :: _ :: _ :: _ :: _ :: _ :: _ :: _ :: _ :: _ :: _ :: _ :: []) : va_W) ++ (oM cy uJ1_37 ++ (oM cy uJ2_38 ++ (oM cy uJ3_39 ++ oM cy uJ4_40)))) hP hD h_54 rfl
              clear hP hD h_54
              obtain ⟨hP, hD⟩ := hPD
              refine lv_aload_n hx hb (g_42 bX6_rowsFrom rfl) rfl (lv_at hl 1 rfl) ?_
              refine va_get (D := G) (ci := 5) (v := .ref qms) (C := RX6) (T := TX6) (N := 35) hx hb hts iX_X6 hown hK hP 32 rfl rfl 33 (by decide +kernel) (hts _ m_t883) (fun _ h9 => h9) rfl (g_180 (v := 67) bX6_rowsFrom rfl) ?_
              refine lv_iload_n hx hb (g_29 bX6_rowsFrom rfl) rfl (lv_at hl 4 rfl) ?_
              refine va_aldq hx hb hK hP 3 5 rfl rfl (in_c rfl) (g_50 bX6_rowsFrom rfl) ?_
              refine lv_setv (v := .ref q_16) ((congrArg (fun z => va_rf (sF (some q_16) (refU uJ1_37) (refU uJ2_38) (refU uJ3_39) (refU uJ4_40) z)) (show Int32.toNatClampNeg 0 = 0 by decide +kernel)).trans rfl) ?_
              refine lv_iload_n hx hb (g_28 bX6_rowsFrom rfl) rfl (lv_at hl 3 rfl) ?_
              refine lv_aload_n hx hb (g_42 bX6_rowsFrom rfl) rfl (lv_at hl 1 rfl) ?_
              refine va_get (D := G) (ci := 5) (v := .ref qmu) (C := RX6) (T := TX6) (N := 35) hx hb hts iX_X6 hown hK hP 32 rfl rfl 30 (by decide +kernel) (hts _ m_t880) (fun _ h9 => h9) rfl (g_180 (v := 58) bX6_rowsFrom rfl) ?_
              refine lv_iload hx hb (g_21 (v := 6) bX6_rowsFrom rfl) (lv_at hl 0 rfl) ?_
              refine va_iald hx hb hK hP 0 0 rfl rfl (in8 (by omega)) (g_46 bX6_rowsFrom rfl) ?_
              refine lv_seti (v := fMu kk_30) (congrArg fMu (cl8 (by omega))) ?_
              obtain ⟨k_56, hk_57, ek_58⟩ := hUn kk_30 (by omega)
              refine lv_seti (v := nI k_56) ek_58 ?_
              refine cVvQ (As := [.int (nI kI), .int (nI k_56)]) (rest := []) (b := q_16) (q := (RX6, TX6, 35)) ⟨hx, hb, hml, hown, hts⟩ (c_X6_reads l G cy (H).size q_16 (xF_26 0) (xF_26 1) (xF_26 2) (xF_26 3) (xF_26 4) (xF_26 5) (xF_26 6) (xF_26 7) (xF_26 8) (xF_26 9) tA qmB_20 qmO_21 qmK_22 iEn iTk (xF_26 18) (xF_26 19) (xF_26 20) (xF_26 21) (xF_26 22) (xF_26 23) (xF_26 24) (xF_26 25) (xF_26 26) 0 0 (xF_26 29) (xF_26 30) (xF_26 31) (xF_26 32) (xF_26 33) (xF_26 34) rB_23 rO_24 rK_25 kI k_56 hI (by first | omega | (simp only [nb_sr, np_sr, nb_wr, np_wr, nb_rd, np_rd, nb_ch, np_ch, nb_zr, np_zr, nb_za, np_za, nb_ey, np_ey, nb_hf, np_hf, nb_dd, np_dd, nb_so, np_so, nb_skn, np_skn, nb_swh, np_swh, nb_sgn, np_sgn, nb_ssd, np_ssd, nb_sgo, np_sgo, nb_sag, np_sag]; omega))) L_X6_257 hN hP hD hS hA (trueIx 0 [false, false, false, false, true, true, true, true, true, true, true, true, true, true, true, true, true, true, true, true, true, true, true, true, true, true, true, true, true, true, true, true]) (true :: true :: true :: true :: false :: false :: false :: false :: false :: false :: false :: false :: false :: false :: false :: false :: false :: false :: false :: false :: false :: false :: false :: false :: false :: false :: false :: false :: false :: false :: false :: false :: true :: true :: true :: true :: true :: true :: true :: true :: true :: true :: true :: true :: true :: true :: true :: true :: true :: true :: true :: true :: true :: true :: true :: true :: true :: true :: true :: true :: []) (sel_eq rfl rfl) (by decide +kernel) rfl 4 5 rfl rfl rfl ⟨Nat.le_of_ble_eq_true rfl, Nat.le_of_ble_eq_true rfl⟩ hl.1 (Nat.le_of_ble_eq_true rfl) (g_182 (v := 257) bX6_rowsFrom rfl) ⟨by show xc_41 + 0 ≤ 250; omega, by show yc_42 + 0 ≤ 4440; omega⟩ (fun u_61 H locs h_60 => ?_)
              clear hP hD hS
              intro hP hD hS
              have hPD := pd_eqQ (((_ :: _ :: _ :: _ :: _ :: _ :: _ :: _ :: _ :: _ :: _ :: _ :: _ :: _ :: _ :: _ :: _ :: _ :: _ :: _ :: _ :: _ :: _ :: _ :: _ :: _ :: _ :: _ :: _ :: _ :: _ :: _ :: zzO q_16 5 (xF_26 0 :: xF_26 1 :: xF_26 2 :: xF_26 3 :: xF_26 4 :: xF_26 5 :: xF_26 6 :: xF_26 7 :: xF_26 8 :: xF_26 9 :: .int (nI (T_nb (rdT tA kI k_56))) :: .ref qmB_20 :: .int (nI (T_np (rdT tA kI k_56))) :: .ref qmO_21 :: .ref qmK_22 :: .int iEn :: .int iTk :: .int (T_sd (rdT tA kI k_56)) :: xF_26 18 :: xF_26 19 :: xF_26 20 :: xF_26 21 :: xF_26 22 :: xF_26 23 :: xF_26 24 :: xF_26 25 :: xF_26 26 :: .int 0 :: .int 0 :: xF_26 29 :: xF_26 30 :: xF_26 31 :: xF_26 32 :: xF_26 33 :: xF_26 34 :: []) :: _ :: zzI cy (rB_23 0) 4 (bkR (rdT tA kI k_56) 0) :: zzI cy (rB_23 1) 4 (bkR (rdT tA kI k_56) 1) :: zzI cy (rB_23 2) 4 (bkR (rdT tA kI k_56) 2) :: zzI cy (rB_23 3) 4 (bkR (rdT tA kI k_56) 3) :: zzI cy (rB_23 4) 4 (bkR (rdT tA kI k_56) 4) :: zzI cy (rB_23 5) 4 (bkR (rdT tA kI k_56) 5) :: zzI cy (rB_23 6) 4 (bkR (rdT tA kI k_56) 6) :: zzI cy (rB_23 7) 4 (bkR (rdT tA kI k_56) 7) :: _ :: zzI cy (rO_24 0) 5 (onR (rdT tA kI k_56) 0) :: zzI cy (rO_24 1) 5 (onR (rdT tA kI k_56) 1) :: zzI cy (rO_24 2) 5 (onR (rdT tA kI k_56) 2) :: zzI cy (rO_24 3) 5 (onR (rdT tA kI k_56) 3) :: zzI cy (rO_24 4) 5 (onR (rdT tA kI k_56) 4) :: zzI cy (rO_24 5) 5 (onR (rdT tA kI k_56) 5) :: zzI cy (rO_24 6) 5 (onR (rdT tA kI k_56) 6) :: zzI cy (rO_24 7) 5 (onR (rdT tA kI k_56) 7) :: _ :: zzI cy (rK_25 0) 8 (T_kn (rdT tA kI k_56) 0) :: zzI cy (rK_25 1) 8 (T_kn (rdT tA kI k_56) 1) :: zzI cy (rK_25 2) 8 (T_kn (rdT tA kI k_56) 2) :: zzI cy (rK_25 3) 8 (T_kn (rdT tA kI k_56) 3) :: zzI cy (rK_25 4) 8 (T_kn (rdT tA kI k_56) 4) :: zzI cy (rK_25 5) 8 (T_kn (rdT tA kI k_56) 5) :: zzI cy (rK_25 6) 8 (T_kn (rdT tA kI k_56) 6) :: zzI cy (rK_25 7) 8 (T_kn (rdT tA kI k_56) 7) :: []) : va_W) ++ (oM cy uJ1_37 ++ (oM cy uJ2_38 ++ (oM cy uJ3_39 ++ oM cy uJ4_40)))) hP hD h_60 rfl
              clear hP hD h_60
              obtain ⟨hP, hD⟩ := hPD
              refine lv_aload_n hx hb (g_42 bX6_rowsFrom rfl) rfl (lv_at hl 1 rfl) ?_
              refine va_get (D := G) (ci := 5) (v := .ref qmy) (C := RX6) (T := TX6) (N := 35) hx hb hts iX_X6 hown hK hP 4 rfl rfl 31 (by decide +kernel) (hts _ m_t881) (fun _ h9 => h9) rfl (g_180 (v := 61) bX6_rowsFrom rfl) ?_
              refine lv_iload_n hx hb (g_29 bX6_rowsFrom rfl) rfl (lv_at hl 4 rfl) ?_
              refine lv_aload_n hx hb (g_42 bX6_rowsFrom rfl) rfl (lv_at hl 1 rfl) ?_
              refine va_get (D := G) (ci := 5) (v := .ref qmu) (C := RX6) (T := TX6) (N := 35) hx hb hts iX_X6 hown hK hP 4 rfl rfl 30 (by decide +kernel) (hts _ m_t880) (fun _ h9 => h9) rfl (g_180 (v := 58) bX6_rowsFrom rfl) ?_
              refine lv_iload hx hb (g_21 (v := 6) bX6_rowsFrom rfl) (lv_at hl 0 rfl) ?_
              refine va_iald hx hb hK hP 0 0 rfl rfl (in8 (by omega)) (g_46 bX6_rowsFrom rfl) ?_
              refine lv_seti (v := fMu kk_30) (congrArg fMu (cl8 (by omega))) ?_
              refine va_iast hx hb hK hP hD hS 1 0 rfl rfl (in_c rfl) (g_79 bX6_rowsFrom rfl) (fun H locs => ?_)
              clear hP hD hS
              intro hP hD hS
              have hPD := pd_as (((_ :: zzI cy qmy 5 (upd fY_32 0 (fMu kk_30)) :: _ :: _ :: _ :: _ :: _ :: _ :: _ :: _ :: _ :: _ :: _ :: _ :: _ :: _ :: _ :: _ :: _ :: _ :: _ :: _ :: _ :: _ :: _ :: _ :: _ :: _ :: _ :: _ :: _ :: _ :: _ :: _ :: _ :: _ :: _ :: _ :: _ :: _ :: _ :: _ :: _ :: _ :: _ :: _ :: _ :: _ :: _ :: _ :: _ :: _ :: _ :: _ :: _ :: _ :: _ :: _ :: _ :: _ :: []) : va_W) ++ (oM cy uJ1_37 ++ (oM cy uJ2_38 ++ (oM cy uJ3_39 ++ oM cy uJ4_40)))) hP hD rfl
              clear hP hD
              obtain ⟨hP, hD⟩ := hPD
              refine lv_aload_n hx hb (g_42 bX6_rowsFrom rfl) rfl (lv_at hl 1 rfl) ?_
              refine lv_aload_n hx hb (g_42 bX6_rowsFrom rfl) rfl (lv_at hl 1 rfl) ?_
              refine va_get (D := G) (ci := 5) (v := .ref qms) (C := RX6) (T := TX6) (N := 35) hx hb hts iX_X6 hown hK hP 4 rfl rfl 33 (by decide +kernel) (hts _ m_t883) (fun _ h9 => h9) rfl (g_180 (v := 67) bX6_rowsFrom rfl) ?_
              refine lv_iload_n hx hb (g_29 bX6_rowsFrom rfl) rfl (lv_at hl 4 rfl) ?_
              refine va_aldq hx hb hK hP 3 5 rfl rfl (in_c rfl) (g_50 bX6_rowsFrom rfl) ?_
              refine lv_setv (v := .ref q_16) ((congrArg (fun z => va_rf (sF (some q_16) (refU uJ1_37) (refU uJ2_38) (refU uJ3_39) (refU uJ4_40) z)) (show Int32.toNatClampNeg 0 = 0 by decide +kernel)).trans rfl) ?_
              refine lv_iload_n hx hb (g_28 bX6_rowsFrom rfl) rfl (lv_at hl 3 rfl) ?_
              refine lv_iload_n hx hb (g_29 bX6_rowsFrom rfl) rfl (lv_at hl 4 rfl) ?_
              refine lv_iconst (v := 1) hx hb (g_4 bX6_rowsFrom rfl) (by decide +kernel) ?_
              refine lv_iadd hx hb (g_96 bX6_rowsFrom rfl) ?_
              refine lv_seti (v := 1) (by decide +kernel) ?_
              refine lv_iload hx hb (g_21 (v := 4) bX6_rowsFrom rfl) (lv_at hl 5 rfl) ?_
              refine lv_iload hx hb (g_21 (v := 5) bX6_rowsFrom rfl) (lv_at hl 6 rfl) ?_
              refine lv_iconst (v := 1) hx hb (g_4 bX6_rowsFrom rfl) (by decide +kernel) ?_
              refine lv_iload hx hb (g_21 (v := 6) bX6_rowsFrom rfl) (lv_at hl 0 rfl) ?_
              refine lv_ishl hx hb (g_120 bX6_rowsFrom rfl) ?_
              refine lv_ior hx hb (g_128 bX6_rowsFrom rfl) ?_
              have hu_62 := us_or hU32 (show kk_30 < 5 by omega) c_52
              refine lv_seti (v := nI (kU ||| 2 ^ kk_30)) hu_62.1 ?_
              have hu_62c := hu_62.2.2 kM hM5 (by omega)
              rcases hC_44 with ⟨e_63, e_64, e_65⟩ | ⟨e_63, e_64, e_65⟩
              · subst e_63
                subst e_64
                refine cVvP (As := [.ref q_16, .int (nI kI), .int 1, .int (nI kM), .int (nI (kU ||| 2 ^ kk_30))]) (rest := []) (b := qm) (q := (RX6, TX6, 35)) ⟨hx, hb, hml, hown, hts⟩ (c_X6_rows1 l G cy (H).size qm qmh qmo qmz qmR qmv qmk qma qmt kZ qmr tA qmB qmO qmK iEn iTk uP uU kAt iTo iFr JFi iFa qm3 iSt iLv iWs vLa qmu qmy qmb qms xM_34 rB fMu (upd fY_32 0 (fMu kk_30)) fB_33 (some q_16) uJ1_37 uJ2_38 uJ3_39 uJ4_40 q_16 (xF_26 0) (xF_26 1) (xF_26 2) (xF_26 3) (xF_26 4) (xF_26 5) (xF_26 6) (xF_26 7) (xF_26 8) (xF_26 9) (rdT tA kI k_56) qmB_20 qmO_21 qmK_22 iEn iTk (xF_26 18) (xF_26 19) (xF_26 20) (xF_26 21) (xF_26 22) (xF_26 23) (xF_26 24) (xF_26 25) (xF_26 26) 0 0 (xF_26 29) (xF_26 30) (xF_26 31) (xF_26 32) (xF_26 33) (xF_26 34) rB_23 rO_24 rK_25 kI kM (kU ||| 2 ^ kk_30) hI hM5 (by first | omega | (simp only [nb_sr, np_sr, nb_wr, np_wr, nb_rd, np_rd, nb_ch, np_ch, nb_zr, np_zr, nb_za, np_za, nb_ey, np_ey, nb_hf, np_hf, nb_dd, np_dd, nb_so, np_so, nb_skn, np_skn, nb_swh, np_swh, nb_sgn, np_sgn, nb_ssd, np_ssd, nb_sgo, np_sgo, nb_sag, np_sag]; omega)) (by first | omega | (simp only [nb_sr, np_sr, nb_wr, np_wr, nb_rd, np_rd, nb_ch, np_ch, nb_zr, np_zr, nb_za, np_za, nb_ey, np_ey, nb_hf, np_hf, nb_dd, np_dd, nb_so, np_so, nb_skn, np_skn, nb_swh, np_swh, nb_sgn, np_sgn, nb_ssd, np_ssd, nb_sgo, np_sgo, nb_sag, np_sag]; omega)) (by first | omega | (simp only [nb_sr, np_sr, nb_wr, np_wr, nb_rd, np_rd, nb_ch, np_ch, nb_zr, np_zr, nb_za, np_za, nb_ey, np_ey, nb_hf, np_hf, nb_dd, np_dd, nb_so, np_so, nb_skn, np_skn, nb_swh, np_swh, nb_sgn, np_sgn, nb_ssd, np_ssd, nb_sgo, np_sgo, nb_sag, np_sag]; omega)) hB hUn) L_X6_326 hN hP hD hS hA (trueIxs [[false, false, false, false, true, true, true, true, true, true, true, true, true, true], (true :: true :: true :: true :: false :: false :: false :: false :: false :: false :: false :: false :: false :: false :: false :: false :: false :: false :: false :: false :: false :: false :: false :: false :: false :: false :: false :: false :: false :: false :: false :: false :: true :: true :: true :: true :: true :: true :: true :: true :: true :: true :: true :: true :: true :: true :: true :: true :: true :: true :: true :: true :: true :: true :: true :: true :: true :: true :: true :: true :: [])]) (false :: false :: false :: false :: false :: false :: false :: false :: false :: false :: false :: false :: false :: false :: true :: true :: true :: true :: true :: true :: true :: true :: true :: true :: true :: true :: true :: true :: true :: true :: true :: true :: false :: false :: false :: false :: false :: false :: false :: false :: false :: false :: false :: false :: false :: false :: false :: false :: false :: false :: false :: false :: false :: false :: false :: false :: false :: false :: false :: false :: []) (sels_eq rfl rfl) (by decide +kernel) rfl 4 5 rfl rfl rfl ⟨Nat.le_of_ble_eq_true rfl, Nat.le_of_ble_eq_true rfl⟩ hl.1 (Nat.le_of_ble_eq_true rfl) (g_182 (v := 326) bX6_rowsFrom rfl) ⟨Nat.le_of_ble_eq_true rfl, Nat.le_of_ble_eq_true rfl⟩ (fun u_68 H locs h_67 => ?_)
                clear hP hD hS
                intro hP hD hS
                obtain ⟨iNm_69, fNy_70, fNb_71, uN_72, uN_73, uN_74, uN_75, rfl, h_76⟩ := h_67
                replace hP := al_P hP
                replace hD := al_D hD
                have hPD := pd_as (((_ :: _ :: _ :: _ :: _ :: _ :: _ :: _ :: _ :: _ :: _ :: _ :: _ :: _ :: _ :: _ :: _ :: _ :: zzO qm 5 (.ref qmh :: .ref qmo :: .ref qmz :: .ref qmR :: .ref qmv :: .ref qmk :: .ref qma :: .ref qmt :: .int (nI kZ) :: .ref qmr :: .int (nI (T_nb tA)) :: .ref qmB :: .int (nI (T_np tA)) :: .ref qmO :: .ref qmK :: .int iEn :: .int iTk :: .int (T_sd tA) :: ov uP :: ov uU :: .int (nI kAt) :: .int iTo :: .int iFr :: .long JFi :: .int iFa :: .ref qm3 :: .int iSt :: .int iLv :: .int iWs :: vLa :: .ref qmu :: .ref qmy :: .ref qmb :: .ref qms :: .int iNm_69 :: []) :: _ :: _ :: _ :: _ :: _ :: _ :: _ :: _ :: _ :: _ :: zzI cy qmy 5 fNy_70 :: zzI cy qmb 5 fNb_71 :: zzQ cy 5 qms 6 (sF (some q_16) (refU uN_72) (refU uN_73) (refU uN_74) (refU uN_75)) :: _ :: _ :: _ :: _ :: _ :: _ :: _ :: _ :: _ :: _ :: _ :: _ :: _ :: _ :: _ :: _ :: _ :: _ :: _ :: _ :: _ :: _ :: _ :: _ :: _ :: _ :: _ :: _ :: []) : va_W) ++ (oM cy uN_72 ++ (oM cy uN_73 ++ (oM cy uN_74 ++ oM cy uN_75)))) hP hD rfl
                clear hP hD
                obtain ⟨hP, hD⟩ := hPD
                refine W.widen (k := 250) (n := 4440) (Nat.le_of_ble_eq_true rfl) (Nat.le_of_ble_eq_true rfl) ?_
                refine lv_iinc (v := nI (kk_30 + 1)) (lv' := [(6, .int (nI (kk_30 + 1))), (0, .ref qm), (1, .ref qm), (2, .int (nI kI)), (3, .int 0), (4, .int (nI kM)), (5, .int (nI kU))]) hx hb dX6_rowsFrom_202 hl (k := 0) rfl (nI_1 _) (by decide +kernel) rfl (fun ls => ?_)
                clear hl
                intro hl
                refine lv_goto (tgt := 122) hx hb dX6_rowsFrom_205 (by decide +kernel) ?_
                exact ih_29 (kk_30 + 1) (rdT tA kI k_56) fNy_70 fNb_71 iNm_69 iEn iTk uN_72 uN_73 uN_74 uN_75 250 4440 (by omega) (by omega) (Or.inr ⟨rfl, rfl, h_76⟩) _ _ _ (pPt hP [[false, false, false, false, false, false, false, false, false, false, false, false, false, false, false, false, false, false, true, true, true, true, true, true, true, true, true, true], (true :: true :: true :: true :: true :: true :: true :: true :: true :: true :: true :: true :: true :: true :: true :: true :: true :: true :: false :: false :: false :: false :: false :: false :: false :: false :: false :: false :: true :: true :: true :: true :: true :: true :: true :: true :: true :: true :: true :: true :: true :: true :: true :: true :: true :: true :: true :: true :: true :: true :: true :: true :: true :: true :: true :: true :: true :: true :: true :: true :: [])] rfl rfl) (dPt hD [[false, false, false, false, false, false, false, false, false, false, false, false, false, false, false, false, false, false, true, true, true, true, true, true, true, true, true, true], (true :: true :: true :: true :: true :: true :: true :: true :: true :: true :: true :: true :: true :: true :: true :: true :: true :: true :: false :: false :: false :: false :: false :: false :: false :: false :: false :: false :: true :: true :: true :: true :: true :: true :: true :: true :: true :: true :: true :: true :: true :: true :: true :: true :: true :: true :: true :: true :: true :: true :: true :: true :: true :: true :: true :: true :: true :: true :: true :: true :: [])] (by decide +kernel) rfl rfl) hS (lv_sub hl [0, 1, 2, 3, 4, 5, 6] rfl)
              · subst e_63
                subst e_64
                refine cVvP (As := [.ref q_16, .int (nI kI), .int 1, .int (nI kM), .int (nI (kU ||| 2 ^ kk_30))]) (rest := []) (b := qm) (q := (RX6, TX6, 35)) ⟨hx, hb, hml, hown, hts⟩ (c_X6_rows1r l G cy (H).size qm qmh qmo qmz qmR qmv qmk qma qmt kZ qmr tA qmB qmO qmK iEn iTk uP uU kAt iTo iFr JFi iFa qm3 iSt iLv iWs vLa qmu qmy qmb qms xM_34 rB fMu (upd fY_32 0 (fMu kk_30)) fB_33 (some q_16) uJ1_37 uJ2_38 uJ3_39 uJ4_40 q_16 (xF_26 0) (xF_26 1) (xF_26 2) (xF_26 3) (xF_26 4) (xF_26 5) (xF_26 6) (xF_26 7) (xF_26 8) (xF_26 9) (rdT tA kI k_56) qmB_20 qmO_21 qmK_22 iEn iTk (xF_26 18) (xF_26 19) (xF_26 20) (xF_26 21) (xF_26 22) (xF_26 23) (xF_26 24) (xF_26 25) (xF_26 26) 0 0 (xF_26 29) (xF_26 30) (xF_26 31) (xF_26 32) (xF_26 33) (xF_26 34) rB_23 rO_24 rK_25 kI kM (kU ||| 2 ^ kk_30) hI hM5 (by first | omega | (simp only [nb_sr, np_sr, nb_wr, np_wr, nb_rd, np_rd, nb_ch, np_ch, nb_zr, np_zr, nb_za, np_za, nb_ey, np_ey, nb_hf, np_hf, nb_dd, np_dd, nb_so, np_so, nb_skn, np_skn, nb_swh, np_swh, nb_sgn, np_sgn, nb_ssd, np_ssd, nb_sgo, np_sgo, nb_sag, np_sag]; omega)) (by first | omega | (simp only [nb_sr, np_sr, nb_wr, np_wr, nb_rd, np_rd, nb_ch, np_ch, nb_zr, np_zr, nb_za, np_za, nb_ey, np_ey, nb_hf, np_hf, nb_dd, np_dd, nb_so, np_so, nb_skn, np_skn, nb_swh, np_swh, nb_sgn, np_sgn, nb_ssd, np_ssd, nb_sgo, np_sgo, nb_sag, np_sag]; omega)) (by first | omega | (simp only [nb_sr, np_sr, nb_wr, np_wr, nb_rd, np_rd, nb_ch, np_ch, nb_zr, np_zr, nb_za, np_za, nb_ey, np_ey, nb_hf, np_hf, nb_dd, np_dd, nb_so, np_so, nb_skn, np_skn, nb_swh, np_swh, nb_sgn, np_sgn, nb_ssd, np_ssd, nb_sgo, np_sgo, nb_sag, np_sag]; omega)) hB hUn e_65) L_X6_326 hN hP hD hS hA (trueIxs [[false, false, false, false, true, true, true, true, true, true, true, true, true, true], (true :: true :: true :: true :: false :: false :: false :: false :: false :: false :: false :: false :: false :: false :: false :: false :: false :: false :: false :: false :: false :: false :: false :: false :: false :: false :: false :: false :: false :: false :: false :: false :: true :: true :: true :: true :: true :: true :: true :: true :: true :: true :: true :: true :: true :: true :: true :: true :: true :: true :: true :: true :: true :: true :: true :: true :: true :: true :: true :: true :: [])]) (false :: false :: false :: false :: false :: false :: false :: false :: false :: false :: false :: false :: false :: false :: true :: true :: true :: true :: true :: true :: true :: true :: true :: true :: true :: true :: true :: true :: true :: true :: true :: true :: false :: false :: false :: false :: false :: false :: false :: false :: false :: false :: false :: false :: false :: false :: false :: false :: false :: false :: false :: false :: false :: false :: false :: false :: false :: false :: false :: false :: []) (sels_eq rfl rfl) (by decide +kernel) rfl 4 5 rfl rfl rfl ⟨Nat.le_of_ble_eq_true rfl, Nat.le_of_ble_eq_true rfl⟩ hl.1 (Nat.le_of_ble_eq_true rfl) (g_182 (v := 326) bX6_rowsFrom rfl) ⟨Nat.le_of_ble_eq_true rfl, Nat.le_of_ble_eq_true rfl⟩ (fun u_79 H locs h_78 => ?_)
                clear hP hD hS
                intro hP hD hS
                obtain ⟨iNm_80, fNy_81, fNb_82, uN_83, uN_84, uN_85, uN_86, rfl, h_87⟩ := h_78
                replace hP := al_P hP
                replace hD := al_D hD
                have hPD := pd_as (((_ :: _ :: _ :: _ :: _ :: _ :: _ :: _ :: _ :: _ :: _ :: _ :: _ :: _ :: _ :: _ :: _ :: _ :: zzO qm 5 (.ref qmh :: .ref qmo :: .ref qmz :: .ref qmR :: .ref qmv :: .ref qmk :: .ref qma :: .ref qmt :: .int (nI kZ) :: .ref qmr :: .int (nI (T_nb tA)) :: .ref qmB :: .int (nI (T_np tA)) :: .ref qmO :: .ref qmK :: .int iEn :: .int iTk :: .int (T_sd tA) :: ov uP :: ov uU :: .int (nI kAt) :: .int iTo :: .int iFr :: .long JFi :: .int iFa :: .ref qm3 :: .int iSt :: .int iLv :: .int iWs :: vLa :: .ref qmu :: .ref qmy :: .ref qmb :: .ref qms :: .int iNm_80 :: []) :: _ :: _ :: _ :: _ :: _ :: _ :: _ :: _ :: _ :: _ :: zzI cy qmy 5 fNy_81 :: zzI cy qmb 5 fNb_82 :: zzQ cy 5 qms 6 (sF (some q_16) (refU uN_83) (refU uN_84) (refU uN_85) (refU uN_86)) :: _ :: _ :: _ :: _ :: _ :: _ :: _ :: _ :: _ :: _ :: _ :: _ :: _ :: _ :: _ :: _ :: _ :: _ :: _ :: _ :: _ :: _ :: _ :: _ :: _ :: _ :: _ :: _ :: []) : va_W) ++ (oM cy uN_83 ++ (oM cy uN_84 ++ (oM cy uN_85 ++ oM cy uN_86)))) hP hD rfl
                clear hP hD
                obtain ⟨hP, hD⟩ := hPD
                refine lv_iinc (v := nI (kk_30 + 1)) (lv' := [(6, .int (nI (kk_30 + 1))), (0, .ref qm), (1, .ref qm), (2, .int (nI kI)), (3, .int 0), (4, .int (nI kM)), (5, .int (nI kU))]) hx hb dX6_rowsFrom_202 hl (k := 0) rfl (nI_1 _) (by decide +kernel) rfl (fun ls => ?_)
                clear hl
                intro hl
                refine lv_goto (tgt := 122) hx hb dX6_rowsFrom_205 (by decide +kernel) ?_
                exact ih_29 (kk_30 + 1) (rdT tA kI k_56) fNy_81 fNb_82 iNm_80 iEn iTk uN_83 uN_84 uN_85 uN_86 250 4440 (by omega) (by omega) (Or.inr ⟨rfl, rfl, h_87⟩) _ _ _ (pPt hP [[false, false, false, false, false, false, false, false, false, false, false, false, false, false, false, false, false, false, true, true, true, true, true, true, true, true, true, true], (true :: true :: true :: true :: true :: true :: true :: true :: true :: true :: true :: true :: true :: true :: true :: true :: true :: true :: false :: false :: false :: false :: false :: false :: false :: false :: false :: false :: true :: true :: true :: true :: true :: true :: true :: true :: true :: true :: true :: true :: true :: true :: true :: true :: true :: true :: true :: true :: true :: true :: true :: true :: true :: true :: true :: true :: true :: true :: true :: true :: [])] rfl rfl) (dPt hD [[false, false, false, false, false, false, false, false, false, false, false, false, false, false, false, false, false, false, true, true, true, true, true, true, true, true, true, true], (true :: true :: true :: true :: true :: true :: true :: true :: true :: true :: true :: true :: true :: true :: true :: true :: true :: true :: false :: false :: false :: false :: false :: false :: false :: false :: false :: false :: true :: true :: true :: true :: true :: true :: true :: true :: true :: true :: true :: true :: true :: true :: true :: true :: true :: true :: true :: true :: true :: true :: true :: true :: true :: true :: true :: true :: true :: true :: true :: true :: [])] (by decide +kernel) rfl rfl) hS (lv_sub hl [0, 1, 2, 3, 4, 5, 6] rfl)
      exact lp_27 ((5 - 0) + 1) 0 T0 fMy fMb iOm 0 0 uS1 uS2 uS3 uS4 50 888 (Nat.lt_succ_self _) (Nat.zero_le _) (Or.inl ⟨rfl, rfl, rfl⟩) _ _ ls hP hD hS (lv_sub hl [0, 1, 2, 3, 4, 5, 6] rfl)
    · rw [eS_15] at hP hD
      replace hP := al_P hP
      replace hD := al_D hD
      have hPD := pd_as (((_ :: _ :: _ :: _ :: _ :: _ :: _ :: _ :: _ :: _ :: _ :: _ :: _ :: _ :: _ :: _ :: _ :: _ :: _ :: _ :: _ :: _ :: _ :: _ :: _ :: _ :: _ :: _ :: _ :: _ :: _ :: zzQ cy 5 qms 6 (sF (some qS_2) (refU uS1) (refU uS2) (refU uS3) (refU uS4)) :: zzO qS_2 5 (xS_10 0 :: xS_10 1 :: xS_10 2 :: xS_10 3 :: xS_10 4 :: xS_10 5 :: xS_10 6 :: xS_10 7 :: xS_10 8 :: xS_10 9 :: .int (nI (T_nb tS_9)) :: .ref qSB_3 :: .int (nI (T_np tS_9)) :: .ref qSO_4 :: .ref qSK_5 :: .int iEnS_11 :: .int iTkS_12 :: .int (T_sd tS_9) :: xS_10 18 :: xS_10 19 :: xS_10 20 :: xS_10 21 :: xS_10 22 :: xS_10 23 :: xS_10 24 :: xS_10 25 :: xS_10 26 :: .int iLvS_13 :: .int iWsS_14 :: xS_10 29 :: xS_10 30 :: xS_10 31 :: xS_10 32 :: xS_10 33 :: xS_10 34 :: []) :: zzG cy 3 qSB_3 rSB_6 :: zzI cy (rSB_6 0) 4 (bkR tS_9 0) :: zzI cy (rSB_6 1) 4 (bkR tS_9 1) :: zzI cy (rSB_6 2) 4 (bkR tS_9 2) :: zzI cy (rSB_6 3) 4 (bkR tS_9 3) :: zzI cy (rSB_6 4) 4 (bkR tS_9 4) :: zzI cy (rSB_6 5) 4 (bkR tS_9 5) :: zzI cy (rSB_6 6) 4 (bkR tS_9 6) :: zzI cy (rSB_6 7) 4 (bkR tS_9 7) :: zzG cy 3 qSO_4 rSO_7 :: zzI cy (rSO_7 0) 5 (onR tS_9 0) :: zzI cy (rSO_7 1) 5 (onR tS_9 1) :: zzI cy (rSO_7 2) 5 (onR tS_9 2) :: zzI cy (rSO_7 3) 5 (onR tS_9 3) :: zzI cy (rSO_7 4) 5 (onR tS_9 4) :: zzI cy (rSO_7 5) 5 (onR tS_9 5) :: zzI cy (rSO_7 6) 5 (onR tS_9 6) :: zzI cy (rSO_7 7) 5 (onR tS_9 7) :: zzG cy 3 qSK_5 rSK_8 :: zzI cy (rSK_8 0) 8 (T_kn tS_9 0) :: zzI cy (rSK_8 1) 8 (T_kn tS_9 1) :: zzI cy (rSK_8 2) 8 (T_kn tS_9 2) :: zzI cy (rSK_8 3) 8 (T_kn tS_9 3) :: zzI cy (rSK_8 4) 8 (T_kn tS_9 4) :: zzI cy (rSK_8 5) 8 (T_kn tS_9 5) :: zzI cy (rSK_8 6) 8 (T_kn tS_9 6) :: zzI cy (rSK_8 7) 8 (T_kn tS_9 7) :: []) : va_W) ++ (oM cy uS1 ++ (oM cy uS2 ++ (oM cy uS3 ++ oM cy uS4)))) hP hD rfl
      clear hP hD
      obtain ⟨hP, hD⟩ := hPD
      refine lv_setv (v := .ref qS_2) (by rw [eS_15]; rfl) ?_
      refine lv_ifnonnull (tgt := 119) hx hb dX6_rowsFrom_103 (by decide +kernel) ?_
      refine lv_iconst (v := 0) hx hb (g_3 bX6_rowsFrom rfl) (by decide +kernel) ?_
      refine lv_istore (lv' := [(6, .int 0), (0, .ref qm), (1, .ref qm), (2, .int (nI kI)), (3, .int 0), (4, .int (nI kM)), (5, .int (nI kU))]) hx hb (g_54 (v := 6) bX6_rowsFrom rfl) hl (by decide +kernel) rfl (fun ls => ?_)
      clear hl
      intro hl
      have lp_88 : ∀ (n_89 : Nat) (kk_91 : Nat) (tJ_92 : TA) (fY_93 : Nat → Int32) (fB_94 : Nat → Int32) (xM_95 : Int32) (iE1_96 : Int32) (iE2_97 : Int32) (uJ1_98 : UM) (uJ2_99 : UM) (uJ3_100 : UM) (uJ4_101 : UM) (xc_102 : Nat) (yc_103 : Nat), 5 - kk_91 < n_89 → kk_91 ≤ kM → ((xc_102 = 0 ∧ yc_103 = 0 ∧ cu kk_91 kU = 0) ∨ (xc_102 = 200 ∧ yc_103 = 3552 ∧ (1 < kM → isS uJ1_98 = true) ∧ (2 < kM → isS uJ2_99 = true) ∧ (3 < kM → isS uJ3_100 = true) ∧ (4 < kM → isS uJ4_101 = true))) → ∀ (H : Heap) (locs : List Loc) (ls : Array Slot), va_P G CL ((zzO qm 5 (.ref qmh :: .ref qmo :: .ref qmz :: .ref qmR :: .ref qmv :: .ref qmk :: .ref qma :: .ref qmt :: .int (nI kZ) :: .ref qmr :: .int (nI (T_nb tA)) :: .ref qmB :: .int (nI (T_np tA)) :: .ref qmO :: .ref qmK :: .int iEn :: .int iTk :: .int (T_sd tA) :: ov uP :: ov uU :: .int (nI kAt) :: .int iTo :: .int iFr :: .long JFi :: .int iFa :: .ref qm3 :: .int iSt :: .int iLv :: .int iWs :: vLa :: .ref qmu :: .ref qmy :: .ref qmb :: .ref qms :: .int xM_95 :: []) :: zzG cy 3 qmB rB :: zzI cy (rB 0) 4 (bkR tA 0) :: zzI cy (rB 1) 4 (bkR tA 1) :: zzI cy (rB 2) 4 (bkR tA 2) :: zzI cy (rB 3) 4 (bkR tA 3) :: zzI cy (rB 4) 4 (bkR tA 4) :: zzI cy (rB 5) 4 (bkR tA 5) :: zzI cy (rB 6) 4 (bkR tA 6) :: zzI cy (rB 7) 4 (bkR tA 7) :: zzG cy 3 qmO rO :: zzI cy (rO 0) 5 (onR tA 0) :: zzI cy (rO 1) 5 (onR tA 1) :: zzI cy (rO 2) 5 (onR tA 2) :: zzI cy (rO 3) 5 (onR tA 3) :: zzI cy (rO 4) 5 (onR tA 4) :: zzI cy (rO 5) 5 (onR tA 5) :: zzI cy (rO 6) 5 (onR tA 6) :: zzI cy (rO 7) 5 (onR tA 7) :: zzG cy 3 qmK rK :: zzI cy (rK 0) 8 (T_kn tA 0) :: zzI cy (rK 1) 8 (T_kn tA 1) :: zzI cy (rK 2) 8 (T_kn tA 2) :: zzI cy (rK 3) 8 (T_kn tA 3) :: zzI cy (rK 4) 8 (T_kn tA 4) :: zzI cy (rK 5) 8 (T_kn tA 5) :: zzI cy (rK 6) 8 (T_kn tA 6) :: zzI cy (rK 7) 8 (T_kn tA 7) :: zzI cy qmu 8 fMu :: zzI cy qmy 5 fY_93 :: zzI cy qmb 5 fB_94 :: zzQ cy 5 qms 6 (sF (some qS_2) (refU uJ1_98) (refU uJ2_99) (refU uJ3_100) (refU uJ4_101)) :: zzO qS_2 5 (xS_10 0 :: xS_10 1 :: xS_10 2 :: xS_10 3 :: xS_10 4 :: xS_10 5 :: xS_10 6 :: xS_10 7 :: xS_10 8 :: xS_10 9 :: .int (nI (T_nb tJ_92)) :: .ref qSB_3 :: .int (nI (T_np tJ_92)) :: .ref qSO_4 :: .ref qSK_5 :: .int iE1_96 :: .int iE2_97 :: .int (T_sd tJ_92) :: xS_10 18 :: xS_10 19 :: xS_10 20 :: xS_10 21 :: xS_10 22 :: xS_10 23 :: xS_10 24 :: xS_10 25 :: xS_10 26 :: .int iLvS_13 :: .int iWsS_14 :: xS_10 29 :: xS_10 30 :: xS_10 31 :: xS_10 32 :: xS_10 33 :: xS_10 34 :: []) :: zzG cy 3 qSB_3 rSB_6 :: zzI cy (rSB_6 0) 4 (bkR tJ_92 0) :: zzI cy (rSB_6 1) 4 (bkR tJ_92 1) :: zzI cy (rSB_6 2) 4 (bkR tJ_92 2) :: zzI cy (rSB_6 3) 4 (bkR tJ_92 3) :: zzI cy (rSB_6 4) 4 (bkR tJ_92 4) :: zzI cy (rSB_6 5) 4 (bkR tJ_92 5) :: zzI cy (rSB_6 6) 4 (bkR tJ_92 6) :: zzI cy (rSB_6 7) 4 (bkR tJ_92 7) :: zzG cy 3 qSO_4 rSO_7 :: zzI cy (rSO_7 0) 5 (onR tJ_92 0) :: zzI cy (rSO_7 1) 5 (onR tJ_92 1) :: zzI cy (rSO_7 2) 5 (onR tJ_92 2) :: zzI cy (rSO_7 3) 5 (onR tJ_92 3) :: zzI cy (rSO_7 4) 5 (onR tJ_92 4) :: zzI cy (rSO_7 5) 5 (onR tJ_92 5) :: zzI cy (rSO_7 6) 5 (onR tJ_92 6) :: zzI cy (rSO_7 7) 5 (onR tJ_92 7) :: zzG cy 3 qSK_5 rSK_8 :: zzI cy (rSK_8 0) 8 (T_kn tJ_92 0) :: zzI cy (rSK_8 1) 8 (T_kn tJ_92 1) :: zzI cy (rSK_8 2) 8 (T_kn tJ_92 2) :: zzI cy (rSK_8 3) 8 (T_kn tJ_92 3) :: zzI cy (rSK_8 4) 8 (T_kn tJ_92 4) :: zzI cy (rSK_8 5) 8 (T_kn tJ_92 5) :: zzI cy (rSK_8 6) 8 (T_kn tJ_92 6) :: zzI cy (rSK_8 7) 8 (T_kn tJ_92 7) :: []) ++ (oM cy uJ1_98 ++ (oM cy uJ2_99 ++ (oM cy uJ3_100 ++ oM cy uJ4_101)))) H → va_D A ((zzO qm 5 (.ref qmh :: .ref qmo :: .ref qmz :: .ref qmR :: .ref qmv :: .ref qmk :: .ref qma :: .ref qmt :: .int (nI kZ) :: .ref qmr :: .int (nI (T_nb tA)) :: .ref qmB :: .int (nI (T_np tA)) :: .ref qmO :: .ref qmK :: .int iEn :: .int iTk :: .int (T_sd tA) :: ov uP :: ov uU :: .int (nI kAt) :: .int iTo :: .int iFr :: .long JFi :: .int iFa :: .ref qm3 :: .int iSt :: .int iLv :: .int iWs :: vLa :: .ref qmu :: .ref qmy :: .ref qmb :: .ref qms :: .int xM_95 :: []) :: zzG cy 3 qmB rB :: zzI cy (rB 0) 4 (bkR tA 0) :: zzI cy (rB 1) 4 (bkR tA 1) :: zzI cy (rB 2) 4 (bkR tA 2) :: zzI cy (rB 3) 4 (bkR tA 3) :: zzI cy (rB 4) 4 (bkR tA 4) :: zzI cy (rB 5) 4 (bkR tA 5) :: zzI cy (rB 6) 4 (bkR tA 6) :: zzI cy (rB 7) 4 (bkR tA 7) :: zzG cy 3 qmO rO :: zzI cy (rO 0) 5 (onR tA 0) :: zzI cy (rO 1) 5 (onR tA 1) :: zzI cy (rO 2) 5 (onR tA 2) :: zzI cy (rO 3) 5 (onR tA 3) :: zzI cy (rO 4) 5 (onR tA 4) :: zzI cy (rO 5) 5 (onR tA 5) :: zzI cy (rO 6) 5 (onR tA 6) :: zzI cy (rO 7) 5 (onR tA 7) :: zzG cy 3 qmK rK :: zzI cy (rK 0) 8 (T_kn tA 0) :: zzI cy (rK 1) 8 (T_kn tA 1) :: zzI cy (rK 2) 8 (T_kn tA 2) :: zzI cy (rK 3) 8 (T_kn tA 3) :: zzI cy (rK 4) 8 (T_kn tA 4) :: zzI cy (rK 5) 8 (T_kn tA 5) :: zzI cy (rK 6) 8 (T_kn tA 6) :: zzI cy (rK 7) 8 (T_kn tA 7) :: zzI cy qmu 8 fMu :: zzI cy qmy 5 fY_93 :: zzI cy qmb 5 fB_94 :: zzQ cy 5 qms 6 (sF (some qS_2) (refU uJ1_98) (refU uJ2_99) (refU uJ3_100) (refU uJ4_101)) :: zzO qS_2 5 (xS_10 0 :: xS_10 1 :: xS_10 2 :: xS_10 3 :: xS_10 4 :: xS_10 5 :: xS_10 6 :: xS_10 7 :: xS_10 8 :: xS_10 9 :: .int (nI (T_nb tJ_92)) :: .ref qSB_3 :: .int (nI (T_np tJ_92)) :: .ref qSO_4 :: .ref qSK_5 :: .int iE1_96 :: .int iE2_97 :: .int (T_sd tJ_92) :: xS_10 18 :: xS_10 19 :: xS_10 20 :: xS_10 21 :: xS_10 22 :: xS_10 23 :: xS_10 24 :: xS_10 25 :: xS_10 26 :: .int iLvS_13 :: .int iWsS_14 :: xS_10 29 :: xS_10 30 :: xS_10 31 :: xS_10 32 :: xS_10 33 :: xS_10 34 :: []) :: zzG cy 3 qSB_3 rSB_6 :: zzI cy (rSB_6 0) 4 (bkR tJ_92 0) :: zzI cy (rSB_6 1) 4 (bkR tJ_92 1) :: zzI cy (rSB_6 2) 4 (bkR tJ_92 2) :: zzI cy (rSB_6 3) 4 (bkR tJ_92 3) :: zzI cy (rSB_6 4) 4 (bkR tJ_92 4) :: zzI cy (rSB_6 5) 4 (bkR tJ_92 5) :: zzI cy (rSB_6 6) 4 (bkR tJ_92 6) :: zzI cy (rSB_6 7) 4 (bkR tJ_92 7) :: zzG cy 3 qSO_4 rSO_7 :: zzI cy (rSO_7 0) 5 (onR tJ_92 0) :: zzI cy (rSO_7 1) 5 (onR tJ_92 1) :: zzI cy (rSO_7 2) 5 (onR tJ_92 2) :: zzI cy (rSO_7 3) 5 (onR tJ_92 3) :: zzI cy (rSO_7 4) 5 (onR tJ_92 4) :: zzI cy (rSO_7 5) 5 (onR tJ_92 5) :: zzI cy (rSO_7 6) 5 (onR tJ_92 6) :: zzI cy (rSO_7 7) 5 (onR tJ_92 7) :: zzG cy 3 qSK_5 rSK_8 :: zzI cy (rSK_8 0) 8 (T_kn tJ_92 0) :: zzI cy (rSK_8 1) 8 (T_kn tJ_92 1) :: zzI cy (rSK_8 2) 8 (T_kn tJ_92 2) :: zzI cy (rSK_8 3) 8 (T_kn tJ_92 3) :: zzI cy (rSK_8 4) 8 (T_kn tJ_92 4) :: zzI cy (rSK_8 5) 8 (T_kn tJ_92 5) :: zzI cy (rSK_8 6) 8 (T_kn tJ_92 6) :: zzI cy (rSK_8 7) 8 (T_kn tJ_92 7) :: []) ++ (oM cy uJ1_98 ++ (oM cy uJ2_99 ++ (oM cy uJ3_100 ++ oM cy uJ4_101)))) → va_S A s.heap H locs → lv_has ls 8 [(6, .int (nI kk_91)), (0, .ref qm), (1, .ref qm), (2, .int (nI kI)), (3, .int 0), (4, .int (nI kM)), (5, .int (nI kU))] → W p l e (Rm 11 250 4440) s m (List.toArray (α := Value) [.ref qm, .ref qm, .int (nI kI), .int 0, .int (nI kM), .int (nI kU)]) below meth c H locs xc_102 yc_103 (MQ below ((Wv G (fun u => ∃ (iNm : Int32) (fNy : Nat → Int32) (fNb : Nat → Int32) (uN0 : UM) (uN1 : UM) (uN2 : UM) (uN3 : UM) (uN4 : UM), u = ([zzO qm 5 (.ref qmh :: .ref qmo :: .ref qmz :: .ref qmR :: .ref qmv :: .ref qmk :: .ref qma :: .ref qmt :: .int (nI kZ) :: .ref qmr :: .int (nI (T_nb tA)) :: .ref qmB :: .int (nI (T_np tA)) :: .ref qmO :: .ref qmK :: .int iEn :: .int iTk :: .int (T_sd tA) :: ov uP :: ov uU :: .int (nI kAt) :: .int iTo :: .int iFr :: .long JFi :: .int iFa :: .ref qm3 :: .int iSt :: .int iLv :: .int iWs :: vLa :: .ref qmu :: .ref qmy :: .ref qmb :: .ref qms :: .int iNm :: []), zzG cy 3 qmB rB, zzI cy (rB 0) 4 (bkR tA 0), zzI cy (rB 1) 4 (bkR tA 1), zzI cy (rB 2) 4 (bkR tA 2), zzI cy (rB 3) 4 (bkR tA 3), zzI cy (rB 4) 4 (bkR tA 4), zzI cy (rB 5) 4 (bkR tA 5), zzI cy (rB 6) 4 (bkR tA 6), zzI cy (rB 7) 4 (bkR tA 7), zzG cy 3 qmO rO, zzI cy (rO 0) 5 (onR tA 0), zzI cy (rO 1) 5 (onR tA 1), zzI cy (rO 2) 5 (onR tA 2), zzI cy (rO 3) 5 (onR tA 3), zzI cy (rO 4) 5 (onR tA 4), zzI cy (rO 5) 5 (onR tA 5), zzI cy (rO 6) 5 (onR tA 6), zzI cy (rO 7) 5 (onR tA 7), zzG cy 3 qmK rK, zzI cy (rK 0) 8 (T_kn tA 0), zzI cy (rK 1) 8 (T_kn tA 1), zzI cy (rK 2) 8 (T_kn tA 2), zzI cy (rK 3) 8 (T_kn tA 3), zzI cy (rK 4) 8 (T_kn tA 4), zzI cy (rK 5) 8 (T_kn tA 5), zzI cy (rK 6) 8 (T_kn tA 6), zzI cy (rK 7) 8 (T_kn tA 7), zzI cy qmu 8 fMu, zzI cy qmy 5 fNy, zzI cy qmb 5 fNb, zzQ cy 5 qms 6 (sF (refU uN0) (refU uN1) (refU uN2) (refU uN3) (refU uN4))] ++ (oM cy uN0 ++ (oM cy uN1 ++ (oM cy uN2 ++ (oM cy uN3 ++ oM cy uN4))))) ∧ ((0 < kM → isS uN0 = true) ∧ (1 < kM → isS uN1 = true) ∧ (2 < kM → isS uN2 = true) ∧ (3 < kM → isS uN3 = true) ∧ (4 < kM → isS uN4 = true)))) A) (List.toArray (α := Value) [.ref qm, .ref qm, .int (nI kI), .int 0, .int (nI kM), .int (nI kU)]) s 250 4440 A) (F0 m 122 ls []) := by
        intro n_89
        induction n_89 with
        | zero => intro kk_91 tJ_92 fY_93 fB_94 xM_95 iE1_96 iE2_97 uJ1_98 uJ2_99 uJ3_100 uJ4_101 xc_102 yc_103 hm9; exact absurd hm9 (Nat.not_lt_zero _)
        | succ n_89 ih_90 =>
          intro kk_91 tJ_92 fY_93 fB_94 xM_95 iE1_96 iE2_97 uJ1_98 uJ2_99 uJ3_100 uJ4_101 xc_102 yc_103 hm_106 hj_104 hC_105 H locs ls hP hD hS hl
          refine lv_iload hx hb (g_21 (v := 6) bX6_rowsFrom rfl) (lv_at hl 0 rfl) ?_
          refine lv_iload hx hb (g_21 (v := 4) bX6_rowsFrom rfl) (lv_at hl 5 rfl) ?_
          refine lv_icmp_ge (tgt := 208) hx hb dX6_rowsFrom_126 (by decide +kernel) (fun c_107 => ?_) (fun c_107 => ?_)
          · have hlt_108 : kk_91 = kM := Nat.le_antisymm (by omega) (lp_ge rfl rfl (by omega) (by omega) c_107)
            rcases hC_105 with ⟨e_109, e_110, e_111⟩ | ⟨e_109, e_110, e_111⟩
            · rw [hlt_108] at e_111
              omega
            · subst e_109
              subst e_110
              refine W.widen (k := 250) (n := 4440) (Nat.le_of_ble_eq_true rfl) (Nat.le_of_ble_eq_true rfl) ?_
              exact endVt [(true :: true :: true :: true :: true :: true :: true :: true :: true :: true :: true :: true :: true :: true :: true :: true :: true :: true :: true :: true :: true :: true :: true :: true :: true :: true :: true :: true :: true :: true :: true :: true :: true :: true :: true :: true :: true :: true :: true :: true :: true :: true :: true :: true :: true :: true :: true :: true :: true :: true :: true :: true :: true :: true :: true :: true :: true :: true :: true :: true :: [])] hx hb hr hlocks hP hD rfl (by decide +kernel) hS ⟨xM_95, fY_93, fB_94, (some (qS_2, qSB_3, qSO_4, qSK_5, rSB_6, rSO_7, rSK_8, tJ_92, xS_10, iE1_96, iE2_97, iLvS_13, iWsS_14)), uJ1_98, uJ2_99, uJ3_100, uJ4_101, rfl, ⟨fun _ => rfl, e_111⟩⟩ (g_177 bX6_rowsFrom rfl)
          · have hlt_112 : kk_91 < kM := lp_lt rfl rfl (by omega) (by omega) c_107
            refine lv_iload hx hb (g_21 (v := 5) bX6_rowsFrom rfl) (lv_at hl 6 rfl) ?_
            refine lv_iload hx hb (g_21 (v := 6) bX6_rowsFrom rfl) (lv_at hl 0 rfl) ?_
            refine lv_ishr hx hb (g_122 bX6_rowsFrom rfl) ?_
            refine lv_iconst (v := 1) hx hb (g_4 bX6_rowsFrom rfl) (by decide +kernel) ?_
            refine lv_iand hx hb (g_126 bX6_rowsFrom rfl) ?_
            refine lv_if_ne (tgt := 202) hx hb dX6_rowsFrom_136 (by decide +kernel) (fun c_113 => ?_) (fun c_113 => ?_)
            · refine lv_iinc (v := nI (kk_91 + 1)) (lv' := [(6, .int (nI (kk_91 + 1))), (0, .ref qm), (1, .ref qm), (2, .int (nI kI)), (3, .int 0), (4, .int (nI kM)), (5, .int (nI kU))]) hx hb dX6_rowsFrom_202 hl (k := 0) rfl (nI_1 _) (by decide +kernel) rfl (fun ls => ?_)
              clear hl
              intro hl
              refine lv_goto (tgt := 122) hx hb dX6_rowsFrom_205 (by decide +kernel) ?_
              exact ih_90 (kk_91 + 1) tJ_92 fY_93 fB_94 xM_95 iE1_96 iE2_97 uJ1_98 uJ2_99 uJ3_100 uJ4_101 xc_102 yc_103 (by omega) (by omega) (hC_105.elim (fun q => Or.inl ⟨q.1, q.2.1, cu_set (by omega) (by omega) q.2.2 c_113⟩) Or.inr) _ _ _ hP hD hS (lv_sub hl [0, 1, 2, 3, 4, 5, 6] rfl)
            · refine lv_aload_n hx hb (g_42 bX6_rowsFrom rfl) rfl (lv_at hl 1 rfl) ?_
              refine va_get (D := G) (ci := 5) (v := .ref qms) (C := RX6) (T := TX6) (N := 35) hx hb hts iX_X6 hown hK hP 0 rfl rfl 33 (by decide +kernel) (hts _ m_t883) (fun _ h9 => h9) rfl (g_180 (v := 67) bX6_rowsFrom rfl) ?_
              refine lv_iload_n hx hb (g_29 bX6_rowsFrom rfl) rfl (lv_at hl 4 rfl) ?_
              refine va_aldq hx hb hK hP 31 5 rfl rfl (in_c rfl) (g_50 bX6_rowsFrom rfl) ?_
              refine lv_setv (v := .ref qS_2) ((congrArg (fun z => va_rf (sF (some qS_2) (refU uJ1_98) (refU uJ2_99) (refU uJ3_100) (refU uJ4_101) z)) (show Int32.toNatClampNeg 0 = 0 by decide +kernel)).trans rfl) ?_
              refine lv_aload_n hx hb (g_43 bX6_rowsFrom rfl) rfl (lv_at hl 2 rfl) ?_
              refine cVvQ (As := [.ref qm]) (rest := []) (b := qS_2) (q := (RX6, TX6, 35)) ⟨hx, hb, hml, hown, hts⟩ (c_X6_takeFrom l G cy (H).size qS_2 (xS_10 0) (xS_10 1) (xS_10 2) (xS_10 3) (xS_10 4) (xS_10 5) (xS_10 6) (xS_10 7) (xS_10 8) (xS_10 9) tJ_92 qSB_3 qSO_4 qSK_5 iE1_96 iE2_97 (xS_10 18) (xS_10 19) (xS_10 20) (xS_10 21) (xS_10 22) (xS_10 23) (xS_10 24) (xS_10 25) (xS_10 26) iLvS_13 iWsS_14 (xS_10 29) (xS_10 30) (xS_10 31) (xS_10 32) (xS_10 33) (xS_10 34) rSB_6 rSO_7 rSK_8 qm (.ref qmh) (.ref qmo) (.ref qmz) (.ref qmR) (.ref qmv) (.ref qmk) (.ref qma) (.ref qmt) (.int (nI kZ)) (.ref qmr) tA qmB qmO qmK iEn iTk (ov uP) (ov uU) (.int (nI kAt)) (.int iTo) (.int iFr) (.long JFi) (.int iFa) (.ref qm3) (.int iSt) iLv iWs vLa (.ref qmu) (.ref qmy) (.ref qmb) (.ref qms) (.int xM_95) rB rO rK) L_X6_225 hN hP hD hS hA (trueIxs [(false :: false :: false :: false :: false :: false :: false :: false :: false :: false :: false :: false :: false :: false :: false :: false :: false :: false :: false :: false :: false :: false :: false :: false :: false :: false :: false :: false :: false :: false :: false :: false :: true :: true :: true :: true :: true :: true :: true :: true :: true :: true :: true :: true :: true :: true :: true :: true :: true :: true :: true :: true :: true :: true :: true :: true :: true :: true :: true :: true :: []), [true, true, true, true, true, true, true, true, true, true, true, true, true, true, true, true, true, true, true, true, true, true, true, true, true, true, true, true]]) (false :: false :: false :: false :: false :: false :: false :: false :: false :: false :: false :: false :: false :: false :: false :: false :: false :: false :: false :: false :: false :: false :: false :: false :: false :: false :: false :: false :: true :: true :: true :: true :: false :: false :: false :: false :: false :: false :: false :: false :: false :: false :: false :: false :: false :: false :: false :: false :: false :: false :: false :: false :: false :: false :: false :: false :: false :: false :: false :: false :: []) (sels_eq rfl rfl) (by decide +kernel) rfl 32 5 rfl rfl rfl ⟨Nat.le_of_ble_eq_true rfl, Nat.le_of_ble_eq_true rfl⟩ hl.1 (Nat.le_of_ble_eq_true rfl) (g_182 (v := 225) bX6_rowsFrom rfl) ⟨by show xc_102 + 0 ≤ 250; omega, by show yc_103 + 0 ≤ 4440; omega⟩ (fun u_116 H locs h_115 => ?_)
              clear hP hD hS
              intro hP hD hS
              have hPD := pd_eqQ (((_ :: zzI cy qmy 5 fY_93 :: zzI cy qmb 5 fB_94 :: zzQ cy 5 qms 6 (sF (some qS_2) (refU uJ1_98) (refU uJ2_99) (refU uJ3_100) (refU uJ4_101)) :: zzO qS_2 5 (xS_10 0 :: xS_10 1 :: xS_10 2 :: xS_10 3 :: xS_10 4 :: xS_10 5 :: xS_10 6 :: xS_10 7 :: xS_10 8 :: xS_10 9 :: .int (nI (T_nb tA)) :: .ref qSB_3 :: .int (nI (T_np tA)) :: .ref qSO_4 :: .ref qSK_5 :: .int iEn :: .int iTk :: .int (T_sd tA) :: xS_10 18 :: xS_10 19 :: xS_10 20 :: xS_10 21 :: xS_10 22 :: xS_10 23 :: xS_10 24 :: xS_10 25 :: xS_10 26 :: .int iLvS_13 :: .int iWsS_14 :: xS_10 29 :: xS_10 30 :: xS_10 31 :: xS_10 32 :: xS_10 33 :: xS_10 34 :: []) :: _ :: zzI cy (rSB_6 0) 4 (bkR tA 0) :: zzI cy (rSB_6 1) 4 (bkR tA 1) :: zzI cy (rSB_6 2) 4 (bkR tA 2) :: zzI cy (rSB_6 3) 4 (bkR tA 3) :: zzI cy (rSB_6 4) 4 (bkR tA 4) :: zzI cy (rSB_6 5) 4 (bkR tA 5) :: zzI cy (rSB_6 6) 4 (bkR tA 6) :: zzI cy (rSB_6 7) 4 (bkR tA 7) :: _ :: zzI cy (rSO_7 0) 5 (onR tA 0) :: zzI cy (rSO_7 1) 5 (onR tA 1) :: zzI cy (rSO_7 2) 5 (onR tA 2) :: zzI cy (rSO_7 3) 5 (onR tA 3) :: zzI cy (rSO_7 4) 5 (onR tA 4) :: zzI cy (rSO_7 5) 5 (onR tA 5) :: zzI cy (rSO_7 6) 5 (onR tA 6) :: zzI cy (rSO_7 7) 5 (onR tA 7) :: _ :: zzI cy (rSK_8 0) 8 (T_kn tA 0) :: zzI cy (rSK_8 1) 8 (T_kn tA 1) :: zzI cy (rSK_8 2) 8 (T_kn tA 2) :: zzI cy (rSK_8 3) 8 (T_kn tA 3) :: zzI cy (rSK_8 4) 8 (T_kn tA 4) :: zzI cy (rSK_8 5) 8 (T_kn tA 5) :: zzI cy (rSK_8 6) 8 (T_kn tA 6) :: zzI cy (rSK_8 7) 8 (T_kn tA 7) :: zzO qm 5 (.ref qmh :: .ref qmo :: .ref qmz :: .ref qmR :: .ref qmv :: .ref qmk :: .ref qma :: .ref qmt :: .int (nI kZ) :: .ref qmr :: .int (nI (T_nb tA)) :: .ref qmB :: .int (nI (T_np tA)) :: .ref qmO :: .ref qmK :: .int iEn :: .int iTk :: .int (T_sd tA) :: ov uP :: ov uU :: .int (nI kAt) :: .int iTo :: .int iFr :: .long JFi :: .int iFa :: .ref qm3 :: .int iSt :: .int iLv :: .int iWs :: vLa :: .ref qmu :: .ref qmy :: .ref qmb :: .ref qms :: .int xM_95 :: []) :: _ :: _ :: _ :: _ :: _ :: _ :: _ :: _ :: _ :: _ :: _ :: _ :: _ :: _ :: _ :: _ :: _ :: _ :: _ :: _ :: _ :: _ :: _ :: _ :: _ :: _ :: _ :: []) : va_W) ++ (oM cy uJ1_98 ++ (oM cy uJ2_99 ++ (oM cy uJ3_100 ++ oM cy uJ4_101)))) hP hD h_115 rfl
              clear hP hD h_115
              obtain ⟨hP, hD⟩ := hPD
              refine lv_aload_n hx hb (g_42 bX6_rowsFrom rfl) rfl (lv_at hl 1 rfl) ?_
              refine va_get (D := G) (ci := 5) (v := .ref qms) (C := RX6) (T := TX6) (N := 35) hx hb hts iX_X6 hown hK hP 32 rfl rfl 33 (by decide +kernel) (hts _ m_t883) (fun _ h9 => h9) rfl (g_180 (v := 67) bX6_rowsFrom rfl) ?_
              refine lv_iload_n hx hb (g_29 bX6_rowsFrom rfl) rfl (lv_at hl 4 rfl) ?_
              refine va_aldq hx hb hK hP 3 5 rfl rfl (in_c rfl) (g_50 bX6_rowsFrom rfl) ?_
              refine lv_setv (v := .ref qS_2) ((congrArg (fun z => va_rf (sF (some qS_2) (refU uJ1_98) (refU uJ2_99) (refU uJ3_100) (refU uJ4_101) z)) (show Int32.toNatClampNeg 0 = 0 by decide +kernel)).trans rfl) ?_
              refine lv_iload_n hx hb (g_28 bX6_rowsFrom rfl) rfl (lv_at hl 3 rfl) ?_
              refine lv_aload_n hx hb (g_42 bX6_rowsFrom rfl) rfl (lv_at hl 1 rfl) ?_
              refine va_get (D := G) (ci := 5) (v := .ref qmu) (C := RX6) (T := TX6) (N := 35) hx hb hts iX_X6 hown hK hP 32 rfl rfl 30 (by decide +kernel) (hts _ m_t880) (fun _ h9 => h9) rfl (g_180 (v := 58) bX6_rowsFrom rfl) ?_
              refine lv_iload hx hb (g_21 (v := 6) bX6_rowsFrom rfl) (lv_at hl 0 rfl) ?_
              refine va_iald hx hb hK hP 0 0 rfl rfl (in8 (by omega)) (g_46 bX6_rowsFrom rfl) ?_
              refine lv_seti (v := fMu kk_91) (congrArg fMu (cl8 (by omega))) ?_
              obtain ⟨k_117, hk_118, ek_119⟩ := hUn kk_91 (by omega)
              refine lv_seti (v := nI k_117) ek_119 ?_
              refine cVvQ (As := [.int (nI kI), .int (nI k_117)]) (rest := []) (b := qS_2) (q := (RX6, TX6, 35)) ⟨hx, hb, hml, hown, hts⟩ (c_X6_reads l G cy (H).size qS_2 (xS_10 0) (xS_10 1) (xS_10 2) (xS_10 3) (xS_10 4) (xS_10 5) (xS_10 6) (xS_10 7) (xS_10 8) (xS_10 9) tA qSB_3 qSO_4 qSK_5 iEn iTk (xS_10 18) (xS_10 19) (xS_10 20) (xS_10 21) (xS_10 22) (xS_10 23) (xS_10 24) (xS_10 25) (xS_10 26) iLvS_13 iWsS_14 (xS_10 29) (xS_10 30) (xS_10 31) (xS_10 32) (xS_10 33) (xS_10 34) rSB_6 rSO_7 rSK_8 kI k_117 hI (by first | omega | (simp only [nb_sr, np_sr, nb_wr, np_wr, nb_rd, np_rd, nb_ch, np_ch, nb_zr, np_zr, nb_za, np_za, nb_ey, np_ey, nb_hf, np_hf, nb_dd, np_dd, nb_so, np_so, nb_skn, np_skn, nb_swh, np_swh, nb_sgn, np_sgn, nb_ssd, np_ssd, nb_sgo, np_sgo, nb_sag, np_sag]; omega))) L_X6_257 hN hP hD hS hA (trueIx 0 [false, false, false, false, true, true, true, true, true, true, true, true, true, true, true, true, true, true, true, true, true, true, true, true, true, true, true, true, true, true, true, true]) (true :: true :: true :: true :: false :: false :: false :: false :: false :: false :: false :: false :: false :: false :: false :: false :: false :: false :: false :: false :: false :: false :: false :: false :: false :: false :: false :: false :: false :: false :: false :: false :: true :: true :: true :: true :: true :: true :: true :: true :: true :: true :: true :: true :: true :: true :: true :: true :: true :: true :: true :: true :: true :: true :: true :: true :: true :: true :: true :: true :: []) (sel_eq rfl rfl) (by decide +kernel) rfl 4 5 rfl rfl rfl ⟨Nat.le_of_ble_eq_true rfl, Nat.le_of_ble_eq_true rfl⟩ hl.1 (Nat.le_of_ble_eq_true rfl) (g_182 (v := 257) bX6_rowsFrom rfl) ⟨by show xc_102 + 0 ≤ 250; omega, by show yc_103 + 0 ≤ 4440; omega⟩ (fun u_122 H locs h_121 => ?_)
              clear hP hD hS
              intro hP hD hS
              have hPD := pd_eqQ (((_ :: _ :: _ :: _ :: _ :: _ :: _ :: _ :: _ :: _ :: _ :: _ :: _ :: _ :: _ :: _ :: _ :: _ :: _ :: _ :: _ :: _ :: _ :: _ :: _ :: _ :: _ :: _ :: _ :: _ :: _ :: _ :: zzO qS_2 5 (xS_10 0 :: xS_10 1 :: xS_10 2 :: xS_10 3 :: xS_10 4 :: xS_10 5 :: xS_10 6 :: xS_10 7 :: xS_10 8 :: xS_10 9 :: .int (nI (T_nb (rdT tA kI k_117))) :: .ref qSB_3 :: .int (nI (T_np (rdT tA kI k_117))) :: .ref qSO_4 :: .ref qSK_5 :: .int iEn :: .int iTk :: .int (T_sd (rdT tA kI k_117)) :: xS_10 18 :: xS_10 19 :: xS_10 20 :: xS_10 21 :: xS_10 22 :: xS_10 23 :: xS_10 24 :: xS_10 25 :: xS_10 26 :: .int iLvS_13 :: .int iWsS_14 :: xS_10 29 :: xS_10 30 :: xS_10 31 :: xS_10 32 :: xS_10 33 :: xS_10 34 :: []) :: _ :: zzI cy (rSB_6 0) 4 (bkR (rdT tA kI k_117) 0) :: zzI cy (rSB_6 1) 4 (bkR (rdT tA kI k_117) 1) :: zzI cy (rSB_6 2) 4 (bkR (rdT tA kI k_117) 2) :: zzI cy (rSB_6 3) 4 (bkR (rdT tA kI k_117) 3) :: zzI cy (rSB_6 4) 4 (bkR (rdT tA kI k_117) 4) :: zzI cy (rSB_6 5) 4 (bkR (rdT tA kI k_117) 5) :: zzI cy (rSB_6 6) 4 (bkR (rdT tA kI k_117) 6) :: zzI cy (rSB_6 7) 4 (bkR (rdT tA kI k_117) 7) :: _ :: zzI cy (rSO_7 0) 5 (onR (rdT tA kI k_117) 0) :: zzI cy (rSO_7 1) 5 (onR (rdT tA kI k_117) 1) :: zzI cy (rSO_7 2) 5 (onR (rdT tA kI k_117) 2) :: zzI cy (rSO_7 3) 5 (onR (rdT tA kI k_117) 3) :: zzI cy (rSO_7 4) 5 (onR (rdT tA kI k_117) 4) :: zzI cy (rSO_7 5) 5 (onR (rdT tA kI k_117) 5) :: zzI cy (rSO_7 6) 5 (onR (rdT tA kI k_117) 6) :: zzI cy (rSO_7 7) 5 (onR (rdT tA kI k_117) 7) :: _ :: zzI cy (rSK_8 0) 8 (T_kn (rdT tA kI k_117) 0) :: zzI cy (rSK_8 1) 8 (T_kn (rdT tA kI k_117) 1) :: zzI cy (rSK_8 2) 8 (T_kn (rdT tA kI k_117) 2) :: zzI cy (rSK_8 3) 8 (T_kn (rdT tA kI k_117) 3) :: zzI cy (rSK_8 4) 8 (T_kn (rdT tA kI k_117) 4) :: zzI cy (rSK_8 5) 8 (T_kn (rdT tA kI k_117) 5) :: zzI cy (rSK_8 6) 8 (T_kn (rdT tA kI k_117) 6) :: zzI cy (rSK_8 7) 8 (T_kn (rdT tA kI k_117) 7) :: []) : va_W) ++ (oM cy uJ1_98 ++ (oM cy uJ2_99 ++ (oM cy uJ3_100 ++ oM cy uJ4_101)))) hP hD h_121 rfl
              clear hP hD h_121
              obtain ⟨hP, hD⟩ := hPD
              refine lv_aload_n hx hb (g_42 bX6_rowsFrom rfl) rfl (lv_at hl 1 rfl) ?_
              refine va_get (D := G) (ci := 5) (v := .ref qmy) (C := RX6) (T := TX6) (N := 35) hx hb hts iX_X6 hown hK hP 4 rfl rfl 31 (by decide +kernel) (hts _ m_t881) (fun _ h9 => h9) rfl (g_180 (v := 61) bX6_rowsFrom rfl) ?_
              refine lv_iload_n hx hb (g_29 bX6_rowsFrom rfl) rfl (lv_at hl 4 rfl) ?_
              refine lv_aload_n hx hb (g_42 bX6_rowsFrom rfl) rfl (lv_at hl 1 rfl) ?_
              refine va_get (D := G) (ci := 5) (v := .ref qmu) (C := RX6) (T := TX6) (N := 35) hx hb hts iX_X6 hown hK hP 4 rfl rfl 30 (by decide +kernel) (hts _ m_t880) (fun _ h9 => h9) rfl (g_180 (v := 58) bX6_rowsFrom rfl) ?_
              refine lv_iload hx hb (g_21 (v := 6) bX6_rowsFrom rfl) (lv_at hl 0 rfl) ?_
              refine va_iald hx hb hK hP 0 0 rfl rfl (in8 (by omega)) (g_46 bX6_rowsFrom rfl) ?_
              refine lv_seti (v := fMu kk_91) (congrArg fMu (cl8 (by omega))) ?_
              refine va_iast hx hb hK hP hD hS 1 0 rfl rfl (in_c rfl) (g_79 bX6_rowsFrom rfl) (fun H locs => ?_)
              clear hP hD hS
              intro hP hD hS
              have hPD := pd_as (((_ :: zzI cy qmy 5 (upd fY_93 0 (fMu kk_91)) :: _ :: _ :: _ :: _ :: _ :: _ :: _ :: _ :: _ :: _ :: _ :: _ :: _ :: _ :: _ :: _ :: _ :: _ :: _ :: _ :: _ :: _ :: _ :: _ :: _ :: _ :: _ :: _ :: _ :: _ :: _ :: _ :: _ :: _ :: _ :: _ :: _ :: _ :: _ :: _ :: _ :: _ :: _ :: _ :: _ :: _ :: _ :: _ :: _ :: _ :: _ :: _ :: _ :: _ :: _ :: _ :: _ :: _ :: []) : va_W) ++ (oM cy uJ1_98 ++ (oM cy uJ2_99 ++ (oM cy uJ3_100 ++ oM cy uJ4_101)))) hP hD rfl
              clear hP hD
              obtain ⟨hP, hD⟩ := hPD
              refine lv_aload_n hx hb (g_42 bX6_rowsFrom rfl) rfl (lv_at hl 1 rfl) ?_
              refine lv_aload_n hx hb (g_42 bX6_rowsFrom rfl) rfl (lv_at hl 1 rfl) ?_
              refine va_get (D := G) (ci := 5) (v := .ref qms) (C := RX6) (T := TX6) (N := 35) hx hb hts iX_X6 hown hK hP 4 rfl rfl 33 (by decide +kernel) (hts _ m_t883) (fun _ h9 => h9) rfl (g_180 (v := 67) bX6_rowsFrom rfl) ?_
              refine lv_iload_n hx hb (g_29 bX6_rowsFrom rfl) rfl (lv_at hl 4 rfl) ?_
              refine va_aldq hx hb hK hP 3 5 rfl rfl (in_c rfl) (g_50 bX6_rowsFrom rfl) ?_
              refine lv_setv (v := .ref qS_2) ((congrArg (fun z => va_rf (sF (some qS_2) (refU uJ1_98) (refU uJ2_99) (refU uJ3_100) (refU uJ4_101) z)) (show Int32.toNatClampNeg 0 = 0 by decide +kernel)).trans rfl) ?_
              refine lv_iload_n hx hb (g_28 bX6_rowsFrom rfl) rfl (lv_at hl 3 rfl) ?_
              refine lv_iload_n hx hb (g_29 bX6_rowsFrom rfl) rfl (lv_at hl 4 rfl) ?_
              refine lv_iconst (v := 1) hx hb (g_4 bX6_rowsFrom rfl) (by decide +kernel) ?_
              refine lv_iadd hx hb (g_96 bX6_rowsFrom rfl) ?_
              refine lv_seti (v := 1) (by decide +kernel) ?_
              refine lv_iload hx hb (g_21 (v := 4) bX6_rowsFrom rfl) (lv_at hl 5 rfl) ?_
              refine lv_iload hx hb (g_21 (v := 5) bX6_rowsFrom rfl) (lv_at hl 6 rfl) ?_
              refine lv_iconst (v := 1) hx hb (g_4 bX6_rowsFrom rfl) (by decide +kernel) ?_
              refine lv_iload hx hb (g_21 (v := 6) bX6_rowsFrom rfl) (lv_at hl 0 rfl) ?_
              refine lv_ishl hx hb (g_120 bX6_rowsFrom rfl) ?_
              refine lv_ior hx hb (g_128 bX6_rowsFrom rfl) ?_
              have hu_123 := us_or hU32 (show kk_91 < 5 by omega) c_113
              refine lv_seti (v := nI (kU ||| 2 ^ kk_91)) hu_123.1 ?_
              have hu_123c := hu_123.2.2 kM hM5 (by omega)
              rcases hC_105 with ⟨e_124, e_125, e_126⟩ | ⟨e_124, e_125, e_126⟩
              · subst e_124
                subst e_125
                refine cVvP (As := [.ref qS_2, .int (nI kI), .int 1, .int (nI kM), .int (nI (kU ||| 2 ^ kk_91))]) (rest := []) (b := qm) (q := (RX6, TX6, 35)) ⟨hx, hb, hml, hown, hts⟩ (c_X6_rows1 l G cy (H).size qm qmh qmo qmz qmR qmv qmk qma qmt kZ qmr tA qmB qmO qmK iEn iTk uP uU kAt iTo iFr JFi iFa qm3 iSt iLv iWs vLa qmu qmy qmb qms xM_95 rB fMu (upd fY_93 0 (fMu kk_91)) fB_94 (some qS_2) uJ1_98 uJ2_99 uJ3_100 uJ4_101 qS_2 (xS_10 0) (xS_10 1) (xS_10 2) (xS_10 3) (xS_10 4) (xS_10 5) (xS_10 6) (xS_10 7) (xS_10 8) (xS_10 9) (rdT tA kI k_117) qSB_3 qSO_4 qSK_5 iEn iTk (xS_10 18) (xS_10 19) (xS_10 20) (xS_10 21) (xS_10 22) (xS_10 23) (xS_10 24) (xS_10 25) (xS_10 26) iLvS_13 iWsS_14 (xS_10 29) (xS_10 30) (xS_10 31) (xS_10 32) (xS_10 33) (xS_10 34) rSB_6 rSO_7 rSK_8 kI kM (kU ||| 2 ^ kk_91) hI hM5 (by first | omega | (simp only [nb_sr, np_sr, nb_wr, np_wr, nb_rd, np_rd, nb_ch, np_ch, nb_zr, np_zr, nb_za, np_za, nb_ey, np_ey, nb_hf, np_hf, nb_dd, np_dd, nb_so, np_so, nb_skn, np_skn, nb_swh, np_swh, nb_sgn, np_sgn, nb_ssd, np_ssd, nb_sgo, np_sgo, nb_sag, np_sag]; omega)) (by first | omega | (simp only [nb_sr, np_sr, nb_wr, np_wr, nb_rd, np_rd, nb_ch, np_ch, nb_zr, np_zr, nb_za, np_za, nb_ey, np_ey, nb_hf, np_hf, nb_dd, np_dd, nb_so, np_so, nb_skn, np_skn, nb_swh, np_swh, nb_sgn, np_sgn, nb_ssd, np_ssd, nb_sgo, np_sgo, nb_sag, np_sag]; omega)) (by first | omega | (simp only [nb_sr, np_sr, nb_wr, np_wr, nb_rd, np_rd, nb_ch, np_ch, nb_zr, np_zr, nb_za, np_za, nb_ey, np_ey, nb_hf, np_hf, nb_dd, np_dd, nb_so, np_so, nb_skn, np_skn, nb_swh, np_swh, nb_sgn, np_sgn, nb_ssd, np_ssd, nb_sgo, np_sgo, nb_sag, np_sag]; omega)) hB hUn) L_X6_326 hN hP hD hS hA (trueIxs [[false, false, false, false, true, true, true, true, true, true, true, true, true, true], (true :: true :: true :: true :: false :: false :: false :: false :: false :: false :: false :: false :: false :: false :: false :: false :: false :: false :: false :: false :: false :: false :: false :: false :: false :: false :: false :: false :: false :: false :: false :: false :: true :: true :: true :: true :: true :: true :: true :: true :: true :: true :: true :: true :: true :: true :: true :: true :: true :: true :: true :: true :: true :: true :: true :: true :: true :: true :: true :: true :: [])]) (false :: false :: false :: false :: false :: false :: false :: false :: false :: false :: false :: false :: false :: false :: true :: true :: true :: true :: true :: true :: true :: true :: true :: true :: true :: true :: true :: true :: true :: true :: true :: true :: false :: false :: false :: false :: false :: false :: false :: false :: false :: false :: false :: false :: false :: false :: false :: false :: false :: false :: false :: false :: false :: false :: false :: false :: false :: false :: false :: false :: []) (sels_eq rfl rfl) (by decide +kernel) rfl 4 5 rfl rfl rfl ⟨Nat.le_of_ble_eq_true rfl, Nat.le_of_ble_eq_true rfl⟩ hl.1 (Nat.le_of_ble_eq_true rfl) (g_182 (v := 326) bX6_rowsFrom rfl) ⟨Nat.le_of_ble_eq_true rfl, Nat.le_of_ble_eq_true rfl⟩ (fun u_129 H locs h_128 => ?_)
                clear hP hD hS
                intro hP hD hS
                obtain ⟨iNm_130, fNy_131, fNb_132, uN_133, uN_134, uN_135, uN_136, rfl, h_137⟩ := h_128
                replace hP := al_P hP
                replace hD := al_D hD
                have hPD := pd_as (((_ :: _ :: _ :: _ :: _ :: _ :: _ :: _ :: _ :: _ :: _ :: _ :: _ :: _ :: _ :: _ :: _ :: _ :: zzO qm 5 (.ref qmh :: .ref qmo :: .ref qmz :: .ref qmR :: .ref qmv :: .ref qmk :: .ref qma :: .ref qmt :: .int (nI kZ) :: .ref qmr :: .int (nI (T_nb tA)) :: .ref qmB :: .int (nI (T_np tA)) :: .ref qmO :: .ref qmK :: .int iEn :: .int iTk :: .int (T_sd tA) :: ov uP :: ov uU :: .int (nI kAt) :: .int iTo :: .int iFr :: .long JFi :: .int iFa :: .ref qm3 :: .int iSt :: .int iLv :: .int iWs :: vLa :: .ref qmu :: .ref qmy :: .ref qmb :: .ref qms :: .int iNm_130 :: []) :: _ :: _ :: _ :: _ :: _ :: _ :: _ :: _ :: _ :: _ :: zzI cy qmy 5 fNy_131 :: zzI cy qmb 5 fNb_132 :: zzQ cy 5 qms 6 (sF (some qS_2) (refU uN_133) (refU uN_134) (refU uN_135) (refU uN_136)) :: _ :: _ :: _ :: _ :: _ :: _ :: _ :: _ :: _ :: _ :: _ :: _ :: _ :: _ :: _ :: _ :: _ :: _ :: _ :: _ :: _ :: _ :: _ :: _ :: _ :: _ :: _ :: _ :: []) : va_W) ++ (oM cy uN_133 ++ (oM cy uN_134 ++ (oM cy uN_135 ++ oM cy uN_136)))) hP hD rfl
                clear hP hD
                obtain ⟨hP, hD⟩ := hPD
                refine W.widen (k := 200) (n := 3552) (Nat.le_of_ble_eq_true rfl) (Nat.le_of_ble_eq_true rfl) ?_
                refine lv_iinc (v := nI (kk_91 + 1)) (lv' := [(6, .int (nI (kk_91 + 1))), (0, .ref qm), (1, .ref qm), (2, .int (nI kI)), (3, .int 0), (4, .int (nI kM)), (5, .int (nI kU))]) hx hb dX6_rowsFrom_202 hl (k := 0) rfl (nI_1 _) (by decide +kernel) rfl (fun ls => ?_)
                clear hl
                intro hl
                refine lv_goto (tgt := 122) hx hb dX6_rowsFrom_205 (by decide +kernel) ?_
                exact ih_90 (kk_91 + 1) (rdT tA kI k_117) fNy_131 fNb_132 iNm_130 iEn iTk uN_133 uN_134 uN_135 uN_136 200 3552 (by omega) (by omega) (Or.inr ⟨rfl, rfl, h_137⟩) _ _ _ (pPt hP [[false, false, false, false, false, false, false, false, false, false, false, false, false, false, false, false, false, false, true, true, true, true, true, true, true, true, true, true], (true :: true :: true :: true :: true :: true :: true :: true :: true :: true :: true :: true :: true :: true :: true :: true :: true :: true :: false :: false :: false :: false :: false :: false :: false :: false :: false :: false :: true :: true :: true :: true :: true :: true :: true :: true :: true :: true :: true :: true :: true :: true :: true :: true :: true :: true :: true :: true :: true :: true :: true :: true :: true :: true :: true :: true :: true :: true :: true :: true :: [])] rfl rfl) (dPt hD [[false, false, false, false, false, false, false, false, false, false, false, false, false, false, false, false, false, false, true, true, true, true, true, true, true, true, true, true], (true :: true :: true :: true :: true :: true :: true :: true :: true :: true :: true :: true :: true :: true :: true :: true :: true :: true :: false :: false :: false :: false :: false :: false :: false :: false :: false :: false :: true :: true :: true :: true :: true :: true :: true :: true :: true :: true :: true :: true :: true :: true :: true :: true :: true :: true :: true :: true :: true :: true :: true :: true :: true :: true :: true :: true :: true :: true :: true :: true :: [])] (by decide +kernel) rfl rfl) hS (lv_sub hl [0, 1, 2, 3, 4, 5, 6] rfl)
              · subst e_124
                subst e_125
                refine cVvP (As := [.ref qS_2, .int (nI kI), .int 1, .int (nI kM), .int (nI (kU ||| 2 ^ kk_91))]) (rest := []) (b := qm) (q := (RX6, TX6, 35)) ⟨hx, hb, hml, hown, hts⟩ (c_X6_rows1r l G cy (H).size qm qmh qmo qmz qmR qmv qmk qma qmt kZ qmr tA qmB qmO qmK iEn iTk uP uU kAt iTo iFr JFi iFa qm3 iSt iLv iWs vLa qmu qmy qmb qms xM_95 rB fMu (upd fY_93 0 (fMu kk_91)) fB_94 (some qS_2) uJ1_98 uJ2_99 uJ3_100 uJ4_101 qS_2 (xS_10 0) (xS_10 1) (xS_10 2) (xS_10 3) (xS_10 4) (xS_10 5) (xS_10 6) (xS_10 7) (xS_10 8) (xS_10 9) (rdT tA kI k_117) qSB_3 qSO_4 qSK_5 iEn iTk (xS_10 18) (xS_10 19) (xS_10 20) (xS_10 21) (xS_10 22) (xS_10 23) (xS_10 24) (xS_10 25) (xS_10 26) iLvS_13 iWsS_14 (xS_10 29) (xS_10 30) (xS_10 31) (xS_10 32) (xS_10 33) (xS_10 34) rSB_6 rSO_7 rSK_8 kI kM (kU ||| 2 ^ kk_91) hI hM5 (by first | omega | (simp only [nb_sr, np_sr, nb_wr, np_wr, nb_rd, np_rd, nb_ch, np_ch, nb_zr, np_zr, nb_za, np_za, nb_ey, np_ey, nb_hf, np_hf, nb_dd, np_dd, nb_so, np_so, nb_skn, np_skn, nb_swh, np_swh, nb_sgn, np_sgn, nb_ssd, np_ssd, nb_sgo, np_sgo, nb_sag, np_sag]; omega)) (by first | omega | (simp only [nb_sr, np_sr, nb_wr, np_wr, nb_rd, np_rd, nb_ch, np_ch, nb_zr, np_zr, nb_za, np_za, nb_ey, np_ey, nb_hf, np_hf, nb_dd, np_dd, nb_so, np_so, nb_skn, np_skn, nb_swh, np_swh, nb_sgn, np_sgn, nb_ssd, np_ssd, nb_sgo, np_sgo, nb_sag, np_sag]; omega)) (by first | omega | (simp only [nb_sr, np_sr, nb_wr, np_wr, nb_rd, np_rd, nb_ch, np_ch, nb_zr, np_zr, nb_za, np_za, nb_ey, np_ey, nb_hf, np_hf, nb_dd, np_dd, nb_so, np_so, nb_skn, np_skn, nb_swh, np_swh, nb_sgn, np_sgn, nb_ssd, np_ssd, nb_sgo, np_sgo, nb_sag, np_sag]; omega)) hB hUn e_126) L_X6_326 hN hP hD hS hA (trueIxs [[false, false, false, false, true, true, true, true, true, true, true, true, true, true], (true :: true :: true :: true :: false :: false :: false :: false :: false :: false :: false :: false :: false :: false :: false :: false :: false :: false :: false :: false :: false :: false :: false :: false :: false :: false :: false :: false :: false :: false :: false :: false :: true :: true :: true :: true :: true :: true :: true :: true :: true :: true :: true :: true :: true :: true :: true :: true :: true :: true :: true :: true :: true :: true :: true :: true :: true :: true :: true :: true :: [])]) (false :: false :: false :: false :: false :: false :: false :: false :: false :: false :: false :: false :: false :: false :: true :: true :: true :: true :: true :: true :: true :: true :: true :: true :: true :: true :: true :: true :: true :: true :: true :: true :: false :: false :: false :: false :: false :: false :: false :: false :: false :: false :: false :: false :: false :: false :: false :: false :: false :: false :: false :: false :: false :: false :: false :: false :: false :: false :: false :: false :: []) (sels_eq rfl rfl) (by decide +kernel) rfl 4 5 rfl rfl rfl ⟨Nat.le_of_ble_eq_true rfl, Nat.le_of_ble_eq_true rfl⟩ hl.1 (Nat.le_of_ble_eq_true rfl) (g_182 (v := 326) bX6_rowsFrom rfl) ⟨Nat.le_of_ble_eq_true rfl, Nat.le_of_ble_eq_true rfl⟩ (fun u_140 H locs h_139 => ?_)
                clear hP hD hS
                intro hP hD hS
                obtain ⟨iNm_141, fNy_142, fNb_143, uN_144, uN_145, uN_146, uN_147, rfl, h_148⟩ := h_139
                replace hP := al_P hP
                replace hD := al_D hD
                have hPD := pd_as (((_ :: _ :: _ :: _ :: _ :: _ :: _ :: _ :: _ :: _ :: _ :: _ :: _ :: _ :: _ :: _ :: _ :: _ :: zzO qm 5 (.ref qmh :: .ref qmo :: .ref qmz :: .ref qmR :: .ref qmv :: .ref qmk :: .ref qma :: .ref qmt :: .int (nI kZ) :: .ref qmr :: .int (nI (T_nb tA)) :: .ref qmB :: .int (nI (T_np tA)) :: .ref qmO :: .ref qmK :: .int iEn :: .int iTk :: .int (T_sd tA) :: ov uP :: ov uU :: .int (nI kAt) :: .int iTo :: .int iFr :: .long JFi :: .int iFa :: .ref qm3 :: .int iSt :: .int iLv :: .int iWs :: vLa :: .ref qmu :: .ref qmy :: .ref qmb :: .ref qms :: .int iNm_141 :: []) :: _ :: _ :: _ :: _ :: _ :: _ :: _ :: _ :: _ :: _ :: zzI cy qmy 5 fNy_142 :: zzI cy qmb 5 fNb_143 :: zzQ cy 5 qms 6 (sF (some qS_2) (refU uN_144) (refU uN_145) (refU uN_146) (refU uN_147)) :: _ :: _ :: _ :: _ :: _ :: _ :: _ :: _ :: _ :: _ :: _ :: _ :: _ :: _ :: _ :: _ :: _ :: _ :: _ :: _ :: _ :: _ :: _ :: _ :: _ :: _ :: _ :: _ :: []) : va_W) ++ (oM cy uN_144 ++ (oM cy uN_145 ++ (oM cy uN_146 ++ oM cy uN_147)))) hP hD rfl
                clear hP hD
                obtain ⟨hP, hD⟩ := hPD
                refine lv_iinc (v := nI (kk_91 + 1)) (lv' := [(6, .int (nI (kk_91 + 1))), (0, .ref qm), (1, .ref qm), (2, .int (nI kI)), (3, .int 0), (4, .int (nI kM)), (5, .int (nI kU))]) hx hb dX6_rowsFrom_202 hl (k := 0) rfl (nI_1 _) (by decide +kernel) rfl (fun ls => ?_)
                clear hl
                intro hl
                refine lv_goto (tgt := 122) hx hb dX6_rowsFrom_205 (by decide +kernel) ?_
                exact ih_90 (kk_91 + 1) (rdT tA kI k_117) fNy_142 fNb_143 iNm_141 iEn iTk uN_144 uN_145 uN_146 uN_147 200 3552 (by omega) (by omega) (Or.inr ⟨rfl, rfl, h_148⟩) _ _ _ (pPt hP [[false, false, false, false, false, false, false, false, false, false, false, false, false, false, false, false, false, false, true, true, true, true, true, true, true, true, true, true], (true :: true :: true :: true :: true :: true :: true :: true :: true :: true :: true :: true :: true :: true :: true :: true :: true :: true :: false :: false :: false :: false :: false :: false :: false :: false :: false :: false :: true :: true :: true :: true :: true :: true :: true :: true :: true :: true :: true :: true :: true :: true :: true :: true :: true :: true :: true :: true :: true :: true :: true :: true :: true :: true :: true :: true :: true :: true :: true :: true :: [])] rfl rfl) (dPt hD [[false, false, false, false, false, false, false, false, false, false, false, false, false, false, false, false, false, false, true, true, true, true, true, true, true, true, true, true], (true :: true :: true :: true :: true :: true :: true :: true :: true :: true :: true :: true :: true :: true :: true :: true :: true :: true :: false :: false :: false :: false :: false :: false :: false :: false :: false :: false :: true :: true :: true :: true :: true :: true :: true :: true :: true :: true :: true :: true :: true :: true :: true :: true :: true :: true :: true :: true :: true :: true :: true :: true :: true :: true :: true :: true :: true :: true :: true :: true :: [])] (by decide +kernel) rfl rfl) hS (lv_sub hl [0, 1, 2, 3, 4, 5, 6] rfl)
      exact lp_88 ((5 - 0) + 1) 0 tS_9 fMy fMb iOm iEnS_11 iTkS_12 uS1 uS2 uS3 uS4 0 0 (Nat.lt_succ_self _) (Nat.zero_le _) (Or.inl ⟨rfl, rfl, rfl⟩) _ _ ls hP hD hS (lv_sub hl [0, 1, 2, 3, 4, 5, 6] rfl)
  · have heM : kM = 0 := (nI_inj (a := 0) (by omega) (by omega) c_1).symm
    refine lv_iconst (v := 0) hx hb (g_3 bX6_rowsFrom rfl) (by decide +kernel) ?_
    refine lv_istore (lv' := [(6, .int 0), (0, .ref qm), (1, .ref qm), (2, .int (nI kI)), (3, .int 0), (4, .int (nI kM)), (5, .int (nI kU))]) hx hb (g_54 (v := 6) bX6_rowsFrom rfl) hl (by decide +kernel) rfl (fun ls => ?_)
    clear hl
    intro hl
    refine lv_iconst (v := 0) hx hb (g_3 bX6_rowsFrom rfl) (by decide +kernel) ?_
    refine lv_istore (lv' := [(7, .int 0), (6, .int 0), (0, .ref qm), (1, .ref qm), (2, .int (nI kI)), (3, .int 0), (4, .int (nI kM)), (5, .int (nI kU))]) hx hb (g_54 (v := 7) bX6_rowsFrom rfl) hl (by decide +kernel) rfl (fun ls => ?_)
    clear hl
    intro hl
    have lp_149 : ∀ (n_150 : Nat) (j_152 : Nat) (x6_153 : Int32), 8 - j_152 < n_150 → j_152 ≤ T_nb tA → ∀ (H : Heap) (locs : List Loc) (ls : Array Slot), va_P G CL ([zzO qm 5 (.ref qmh :: .ref qmo :: .ref qmz :: .ref qmR :: .ref qmv :: .ref qmk :: .ref qma :: .ref qmt :: .int (nI kZ) :: .ref qmr :: .int (nI (T_nb tA)) :: .ref qmB :: .int (nI (T_np tA)) :: .ref qmO :: .ref qmK :: .int iEn :: .int iTk :: .int (T_sd tA) :: ov uP :: ov uU :: .int (nI kAt) :: .int iTo :: .int iFr :: .long JFi :: .int iFa :: .ref qm3 :: .int iSt :: .int iLv :: .int iWs :: vLa :: .ref qmu :: .ref qmy :: .ref qmb :: .ref qms :: .int iOm :: []), zzG cy 3 qmB rB, zzI cy (rB 0) 4 (bkR tA 0), zzI cy (rB 1) 4 (bkR tA 1), zzI cy (rB 2) 4 (bkR tA 2), zzI cy (rB 3) 4 (bkR tA 3), zzI cy (rB 4) 4 (bkR tA 4), zzI cy (rB 5) 4 (bkR tA 5), zzI cy (rB 6) 4 (bkR tA 6), zzI cy (rB 7) 4 (bkR tA 7), zzG cy 3 qmO rO, zzI cy (rO 0) 5 (onR tA 0), zzI cy (rO 1) 5 (onR tA 1), zzI cy (rO 2) 5 (onR tA 2), zzI cy (rO 3) 5 (onR tA 3), zzI cy (rO 4) 5 (onR tA 4), zzI cy (rO 5) 5 (onR tA 5), zzI cy (rO 6) 5 (onR tA 6), zzI cy (rO 7) 5 (onR tA 7), zzG cy 3 qmK rK, zzI cy (rK 0) 8 (T_kn tA 0), zzI cy (rK 1) 8 (T_kn tA 1), zzI cy (rK 2) 8 (T_kn tA 2), zzI cy (rK 3) 8 (T_kn tA 3), zzI cy (rK 4) 8 (T_kn tA 4), zzI cy (rK 5) 8 (T_kn tA 5), zzI cy (rK 6) 8 (T_kn tA 6), zzI cy (rK 7) 8 (T_kn tA 7), zzI cy qmu 8 fMu, zzI cy qmy 5 fMy, zzI cy qmb 5 fMb, zzQ cy 5 qms 6 (sF (refU uS0) (refU uS1) (refU uS2) (refU uS3) (refU uS4))] ++ (oM cy uS0 ++ (oM cy uS1 ++ (oM cy uS2 ++ (oM cy uS3 ++ oM cy uS4))))) H → va_D A ([zzO qm 5 (.ref qmh :: .ref qmo :: .ref qmz :: .ref qmR :: .ref qmv :: .ref qmk :: .ref qma :: .ref qmt :: .int (nI kZ) :: .ref qmr :: .int (nI (T_nb tA)) :: .ref qmB :: .int (nI (T_np tA)) :: .ref qmO :: .ref qmK :: .int iEn :: .int iTk :: .int (T_sd tA) :: ov uP :: ov uU :: .int (nI kAt) :: .int iTo :: .int iFr :: .long JFi :: .int iFa :: .ref qm3 :: .int iSt :: .int iLv :: .int iWs :: vLa :: .ref qmu :: .ref qmy :: .ref qmb :: .ref qms :: .int iOm :: []), zzG cy 3 qmB rB, zzI cy (rB 0) 4 (bkR tA 0), zzI cy (rB 1) 4 (bkR tA 1), zzI cy (rB 2) 4 (bkR tA 2), zzI cy (rB 3) 4 (bkR tA 3), zzI cy (rB 4) 4 (bkR tA 4), zzI cy (rB 5) 4 (bkR tA 5), zzI cy (rB 6) 4 (bkR tA 6), zzI cy (rB 7) 4 (bkR tA 7), zzG cy 3 qmO rO, zzI cy (rO 0) 5 (onR tA 0), zzI cy (rO 1) 5 (onR tA 1), zzI cy (rO 2) 5 (onR tA 2), zzI cy (rO 3) 5 (onR tA 3), zzI cy (rO 4) 5 (onR tA 4), zzI cy (rO 5) 5 (onR tA 5), zzI cy (rO 6) 5 (onR tA 6), zzI cy (rO 7) 5 (onR tA 7), zzG cy 3 qmK rK, zzI cy (rK 0) 8 (T_kn tA 0), zzI cy (rK 1) 8 (T_kn tA 1), zzI cy (rK 2) 8 (T_kn tA 2), zzI cy (rK 3) 8 (T_kn tA 3), zzI cy (rK 4) 8 (T_kn tA 4), zzI cy (rK 5) 8 (T_kn tA 5), zzI cy (rK 6) 8 (T_kn tA 6), zzI cy (rK 7) 8 (T_kn tA 7), zzI cy qmu 8 fMu, zzI cy qmy 5 fMy, zzI cy qmb 5 fMb, zzQ cy 5 qms 6 (sF (refU uS0) (refU uS1) (refU uS2) (refU uS3) (refU uS4))] ++ (oM cy uS0 ++ (oM cy uS1 ++ (oM cy uS2 ++ (oM cy uS3 ++ oM cy uS4))))) → va_S A s.heap H locs → lv_has ls 8 [(7, .int (nI j_152)), (6, .int x6_153), (0, .ref qm), (1, .ref qm), (2, .int (nI kI)), (3, .int 0), (4, .int (nI kM)), (5, .int (nI kU))] → W p l e (Rm 11 250 4440) s m (List.toArray (α := Value) [.ref qm, .ref qm, .int (nI kI), .int 0, .int (nI kM), .int (nI kU)]) below meth c H locs 0 0 (MQ below ((Wv G (fun u => ∃ (iNm : Int32) (fNy : Nat → Int32) (fNb : Nat → Int32) (uN0 : UM) (uN1 : UM) (uN2 : UM) (uN3 : UM) (uN4 : UM), u = ([zzO qm 5 (.ref qmh :: .ref qmo :: .ref qmz :: .ref qmR :: .ref qmv :: .ref qmk :: .ref qma :: .ref qmt :: .int (nI kZ) :: .ref qmr :: .int (nI (T_nb tA)) :: .ref qmB :: .int (nI (T_np tA)) :: .ref qmO :: .ref qmK :: .int iEn :: .int iTk :: .int (T_sd tA) :: ov uP :: ov uU :: .int (nI kAt) :: .int iTo :: .int iFr :: .long JFi :: .int iFa :: .ref qm3 :: .int iSt :: .int iLv :: .int iWs :: vLa :: .ref qmu :: .ref qmy :: .ref qmb :: .ref qms :: .int iNm :: []), zzG cy 3 qmB rB, zzI cy (rB 0) 4 (bkR tA 0), zzI cy (rB 1) 4 (bkR tA 1), zzI cy (rB 2) 4 (bkR tA 2), zzI cy (rB 3) 4 (bkR tA 3), zzI cy (rB 4) 4 (bkR tA 4), zzI cy (rB 5) 4 (bkR tA 5), zzI cy (rB 6) 4 (bkR tA 6), zzI cy (rB 7) 4 (bkR tA 7), zzG cy 3 qmO rO, zzI cy (rO 0) 5 (onR tA 0), zzI cy (rO 1) 5 (onR tA 1), zzI cy (rO 2) 5 (onR tA 2), zzI cy (rO 3) 5 (onR tA 3), zzI cy (rO 4) 5 (onR tA 4), zzI cy (rO 5) 5 (onR tA 5), zzI cy (rO 6) 5 (onR tA 6), zzI cy (rO 7) 5 (onR tA 7), zzG cy 3 qmK rK, zzI cy (rK 0) 8 (T_kn tA 0), zzI cy (rK 1) 8 (T_kn tA 1), zzI cy (rK 2) 8 (T_kn tA 2), zzI cy (rK 3) 8 (T_kn tA 3), zzI cy (rK 4) 8 (T_kn tA 4), zzI cy (rK 5) 8 (T_kn tA 5), zzI cy (rK 6) 8 (T_kn tA 6), zzI cy (rK 7) 8 (T_kn tA 7), zzI cy qmu 8 fMu, zzI cy qmy 5 fNy, zzI cy qmb 5 fNb, zzQ cy 5 qms 6 (sF (refU uN0) (refU uN1) (refU uN2) (refU uN3) (refU uN4))] ++ (oM cy uN0 ++ (oM cy uN1 ++ (oM cy uN2 ++ (oM cy uN3 ++ oM cy uN4))))) ∧ ((0 < kM → isS uN0 = true) ∧ (1 < kM → isS uN1 = true) ∧ (2 < kM → isS uN2 = true) ∧ (3 < kM → isS uN3 = true) ∧ (4 < kM → isS uN4 = true)))) A) (List.toArray (α := Value) [.ref qm, .ref qm, .int (nI kI), .int 0, .int (nI kM), .int (nI kU)]) s 250 4440 A) (F0 m 12 ls []) := by
      intro n_150
      induction n_150 with
      | zero => intro j_152 x6_153 hm9; exact absurd hm9 (Nat.not_lt_zero _)
      | succ n_150 ih_151 =>
        intro j_152 x6_153 hm_155 hj_154 H locs ls hP hD hS hl
        refine lv_iload hx hb (g_21 (v := 7) bX6_rowsFrom rfl) (lv_at hl 0 rfl) ?_
        refine lv_aload_n hx hb (g_42 bX6_rowsFrom rfl) rfl (lv_at hl 2 rfl) ?_
        refine va_get (D := G) (ci := 5) (v := .int (nI (T_nb tA))) (C := RX6) (T := TX6) (N := 35) hx hb hts iX_X6 hown hK hP 0 rfl rfl 10 (by decide +kernel) (hts _ m_t860) (fun _ h9 => h9) rfl (g_180 (v := 71) bX6_rowsFrom rfl) ?_
        refine lv_icmp_ge (tgt := 51) hx hb dX6_rowsFrom_18 (by decide +kernel) (fun c_156 => ?_) (fun c_156 => ?_)
        · have hlt_157 : j_152 = T_nb tA := Nat.le_antisymm (by omega) (lp_ge rfl rfl (by omega) (by omega) c_156)
          refine lv_iload hx hb (g_21 (v := 6) bX6_rowsFrom rfl) (lv_at hl 1 rfl) ?_
          refine lv_aload_n hx hb (g_42 bX6_rowsFrom rfl) rfl (lv_at hl 2 rfl) ?_
          refine va_get (D := G) (ci := 5) (v := .int iOm) (C := RX6) (T := TX6) (N := 35) hx hb hts iX_X6 hown hK hP 0 rfl rfl 34 (by decide +kernel) (hts _ m_t884) (fun _ h9 => h9) rfl (g_180 (v := 323) bX6_rowsFrom rfl) ?_
          refine lv_icmp_le (tgt := 96) hx hb dX6_rowsFrom_57 (by decide +kernel) (fun c_158 => ?_) (fun c_158 => ?_)
          · refine W.widen (k := 250) (n := 4440) (Nat.le_of_ble_eq_true rfl) (Nat.le_of_ble_eq_true rfl) ?_
            exact endVt [[true, true, true, true, true, true, true, true, true, true, true, true, true, true, true, true, true, true, true, true, true, true, true, true, true, true, true, true, true, true, true, true]] hx hb hr hlocks hP hD rfl (by decide +kernel) hS ⟨iOm, fMy, fMb, uS0, uS1, uS2, uS3, uS4, rfl, ⟨(fun q => by omega), (fun q => by omega), (fun q => by omega), (fun q => by omega), (fun q => by omega)⟩⟩ (g_177 bX6_rowsFrom rfl)
          · refine lv_aload_n hx hb (g_42 bX6_rowsFrom rfl) rfl (lv_at hl 2 rfl) ?_
            refine lv_iload hx hb (g_21 (v := 6) bX6_rowsFrom rfl) (lv_at hl 1 rfl) ?_
            refine va_put (D := G) (ci := 5) (v := .int x6_153) (ty := .int) (C := RX6) (T := TX6) (N := 35) hx hb hts iX_X6 tyX6 tyX6_ok nmX6 hown hK hP hD hS 0 rfl rfl 34 (by decide +kernel) (hts _ m_t884) (fun _ h9 => h9) rfl (by decide +kernel) rfl rfl (Nat.le_of_ble_eq_true rfl) (g_181 (v := 323) bX6_rowsFrom rfl) (fun H locs => ?_)
            clear hP hD hS
            intro hP hD hS
            have hPD := pd_as (([zzO qm 5 (.ref qmh :: .ref qmo :: .ref qmz :: .ref qmR :: .ref qmv :: .ref qmk :: .ref qma :: .ref qmt :: .int (nI kZ) :: .ref qmr :: .int (nI (T_nb tA)) :: .ref qmB :: .int (nI (T_np tA)) :: .ref qmO :: .ref qmK :: .int iEn :: .int iTk :: .int (T_sd tA) :: ov uP :: ov uU :: .int (nI kAt) :: .int iTo :: .int iFr :: .long JFi :: .int iFa :: .ref qm3 :: .int iSt :: .int iLv :: .int iWs :: vLa :: .ref qmu :: .ref qmy :: .ref qmb :: .ref qms :: .int x6_153 :: []), _, _, _, _, _, _, _, _, _, _, _, _, _, _, _, _, _, _, _, _, _, _, _, _, _, _, _, _, _, _, _] : va_W) ++ (oM cy uS0 ++ (oM cy uS1 ++ (oM cy uS2 ++ (oM cy uS3 ++ oM cy uS4))))) hP hD rfl
            clear hP hD
            obtain ⟨hP, hD⟩ := hPD
            refine lv_iconst (v := 0) hx hb (g_3 bX6_rowsFrom rfl) (by decide +kernel) ?_
            refine lv_istore (lv' := [(7, .int 0), (6, .int x6_153), (0, .ref qm), (1, .ref qm), (2, .int (nI kI)), (3, .int 0), (4, .int (nI kM)), (5, .int (nI kU))]) hx hb (g_54 (v := 7) bX6_rowsFrom rfl) hl (by decide +kernel) rfl (fun ls => ?_)
            clear hl
            intro hl
            have lp_159 : ∀ (n_160 : Nat) (j_162 : Nat) (fJ_163 : Nat → Int32), 5 - j_162 < n_160 → j_162 ≤ kM → ∀ (H : Heap) (locs : List Loc) (ls : Array Slot), va_P G CL ([zzO qm 5 (.ref qmh :: .ref qmo :: .ref qmz :: .ref qmR :: .ref qmv :: .ref qmk :: .ref qma :: .ref qmt :: .int (nI kZ) :: .ref qmr :: .int (nI (T_nb tA)) :: .ref qmB :: .int (nI (T_np tA)) :: .ref qmO :: .ref qmK :: .int iEn :: .int iTk :: .int (T_sd tA) :: ov uP :: ov uU :: .int (nI kAt) :: .int iTo :: .int iFr :: .long JFi :: .int iFa :: .ref qm3 :: .int iSt :: .int iLv :: .int iWs :: vLa :: .ref qmu :: .ref qmy :: .ref qmb :: .ref qms :: .int x6_153 :: []), zzG cy 3 qmB rB, zzI cy (rB 0) 4 (bkR tA 0), zzI cy (rB 1) 4 (bkR tA 1), zzI cy (rB 2) 4 (bkR tA 2), zzI cy (rB 3) 4 (bkR tA 3), zzI cy (rB 4) 4 (bkR tA 4), zzI cy (rB 5) 4 (bkR tA 5), zzI cy (rB 6) 4 (bkR tA 6), zzI cy (rB 7) 4 (bkR tA 7), zzG cy 3 qmO rO, zzI cy (rO 0) 5 (onR tA 0), zzI cy (rO 1) 5 (onR tA 1), zzI cy (rO 2) 5 (onR tA 2), zzI cy (rO 3) 5 (onR tA 3), zzI cy (rO 4) 5 (onR tA 4), zzI cy (rO 5) 5 (onR tA 5), zzI cy (rO 6) 5 (onR tA 6), zzI cy (rO 7) 5 (onR tA 7), zzG cy 3 qmK rK, zzI cy (rK 0) 8 (T_kn tA 0), zzI cy (rK 1) 8 (T_kn tA 1), zzI cy (rK 2) 8 (T_kn tA 2), zzI cy (rK 3) 8 (T_kn tA 3), zzI cy (rK 4) 8 (T_kn tA 4), zzI cy (rK 5) 8 (T_kn tA 5), zzI cy (rK 6) 8 (T_kn tA 6), zzI cy (rK 7) 8 (T_kn tA 7), zzI cy qmu 8 fMu, zzI cy qmy 5 fMy, zzI cy qmb 5 fJ_163, zzQ cy 5 qms 6 (sF (refU uS0) (refU uS1) (refU uS2) (refU uS3) (refU uS4))] ++ (oM cy uS0 ++ (oM cy uS1 ++ (oM cy uS2 ++ (oM cy uS3 ++ oM cy uS4))))) H → va_D A ([zzO qm 5 (.ref qmh :: .ref qmo :: .ref qmz :: .ref qmR :: .ref qmv :: .ref qmk :: .ref qma :: .ref qmt :: .int (nI kZ) :: .ref qmr :: .int (nI (T_nb tA)) :: .ref qmB :: .int (nI (T_np tA)) :: .ref qmO :: .ref qmK :: .int iEn :: .int iTk :: .int (T_sd tA) :: ov uP :: ov uU :: .int (nI kAt) :: .int iTo :: .int iFr :: .long JFi :: .int iFa :: .ref qm3 :: .int iSt :: .int iLv :: .int iWs :: vLa :: .ref qmu :: .ref qmy :: .ref qmb :: .ref qms :: .int x6_153 :: []), zzG cy 3 qmB rB, zzI cy (rB 0) 4 (bkR tA 0), zzI cy (rB 1) 4 (bkR tA 1), zzI cy (rB 2) 4 (bkR tA 2), zzI cy (rB 3) 4 (bkR tA 3), zzI cy (rB 4) 4 (bkR tA 4), zzI cy (rB 5) 4 (bkR tA 5), zzI cy (rB 6) 4 (bkR tA 6), zzI cy (rB 7) 4 (bkR tA 7), zzG cy 3 qmO rO, zzI cy (rO 0) 5 (onR tA 0), zzI cy (rO 1) 5 (onR tA 1), zzI cy (rO 2) 5 (onR tA 2), zzI cy (rO 3) 5 (onR tA 3), zzI cy (rO 4) 5 (onR tA 4), zzI cy (rO 5) 5 (onR tA 5), zzI cy (rO 6) 5 (onR tA 6), zzI cy (rO 7) 5 (onR tA 7), zzG cy 3 qmK rK, zzI cy (rK 0) 8 (T_kn tA 0), zzI cy (rK 1) 8 (T_kn tA 1), zzI cy (rK 2) 8 (T_kn tA 2), zzI cy (rK 3) 8 (T_kn tA 3), zzI cy (rK 4) 8 (T_kn tA 4), zzI cy (rK 5) 8 (T_kn tA 5), zzI cy (rK 6) 8 (T_kn tA 6), zzI cy (rK 7) 8 (T_kn tA 7), zzI cy qmu 8 fMu, zzI cy qmy 5 fMy, zzI cy qmb 5 fJ_163, zzQ cy 5 qms 6 (sF (refU uS0) (refU uS1) (refU uS2) (refU uS3) (refU uS4))] ++ (oM cy uS0 ++ (oM cy uS1 ++ (oM cy uS2 ++ (oM cy uS3 ++ oM cy uS4))))) → va_S A s.heap H locs → lv_has ls 8 [(7, .int (nI j_162)), (6, .int x6_153), (0, .ref qm), (1, .ref qm), (2, .int (nI kI)), (3, .int 0), (4, .int (nI kM)), (5, .int (nI kU))] → W p l e (Rm 11 250 4440) s m (List.toArray (α := Value) [.ref qm, .ref qm, .int (nI kI), .int 0, .int (nI kM), .int (nI kU)]) below meth c H locs 0 0 (MQ below ((Wv G (fun u => ∃ (iNm : Int32) (fNy : Nat → Int32) (fNb : Nat → Int32) (uN0 : UM) (uN1 : UM) (uN2 : UM) (uN3 : UM) (uN4 : UM), u = ([zzO qm 5 (.ref qmh :: .ref qmo :: .ref qmz :: .ref qmR :: .ref qmv :: .ref qmk :: .ref qma :: .ref qmt :: .int (nI kZ) :: .ref qmr :: .int (nI (T_nb tA)) :: .ref qmB :: .int (nI (T_np tA)) :: .ref qmO :: .ref qmK :: .int iEn :: .int iTk :: .int (T_sd tA) :: ov uP :: ov uU :: .int (nI kAt) :: .int iTo :: .int iFr :: .long JFi :: .int iFa :: .ref qm3 :: .int iSt :: .int iLv :: .int iWs :: vLa :: .ref qmu :: .ref qmy :: .ref qmb :: .ref qms :: .int iNm :: []), zzG cy 3 qmB rB, zzI cy (rB 0) 4 (bkR tA 0), zzI cy (rB 1) 4 (bkR tA 1), zzI cy (rB 2) 4 (bkR tA 2), zzI cy (rB 3) 4 (bkR tA 3), zzI cy (rB 4) 4 (bkR tA 4), zzI cy (rB 5) 4 (bkR tA 5), zzI cy (rB 6) 4 (bkR tA 6), zzI cy (rB 7) 4 (bkR tA 7), zzG cy 3 qmO rO, zzI cy (rO 0) 5 (onR tA 0), zzI cy (rO 1) 5 (onR tA 1), zzI cy (rO 2) 5 (onR tA 2), zzI cy (rO 3) 5 (onR tA 3), zzI cy (rO 4) 5 (onR tA 4), zzI cy (rO 5) 5 (onR tA 5), zzI cy (rO 6) 5 (onR tA 6), zzI cy (rO 7) 5 (onR tA 7), zzG cy 3 qmK rK, zzI cy (rK 0) 8 (T_kn tA 0), zzI cy (rK 1) 8 (T_kn tA 1), zzI cy (rK 2) 8 (T_kn tA 2), zzI cy (rK 3) 8 (T_kn tA 3), zzI cy (rK 4) 8 (T_kn tA 4), zzI cy (rK 5) 8 (T_kn tA 5), zzI cy (rK 6) 8 (T_kn tA 6), zzI cy (rK 7) 8 (T_kn tA 7), zzI cy qmu 8 fMu, zzI cy qmy 5 fNy, zzI cy qmb 5 fNb, zzQ cy 5 qms 6 (sF (refU uN0) (refU uN1) (refU uN2) (refU uN3) (refU uN4))] ++ (oM cy uN0 ++ (oM cy uN1 ++ (oM cy uN2 ++ (oM cy uN3 ++ oM cy uN4))))) ∧ ((0 < kM → isS uN0 = true) ∧ (1 < kM → isS uN1 = true) ∧ (2 < kM → isS uN2 = true) ∧ (3 < kM → isS uN3 = true) ∧ (4 < kM → isS uN4 = true)))) A) (List.toArray (α := Value) [.ref qm, .ref qm, .int (nI kI), .int 0, .int (nI kM), .int (nI kU)]) s 250 4440 A) (F0 m 69 ls []) := by
              intro n_160
              induction n_160 with
              | zero => intro j_162 fJ_163 hm9; exact absurd hm9 (Nat.not_lt_zero _)
              | succ n_160 ih_161 =>
                intro j_162 fJ_163 hm_165 hj_164 H locs ls hP hD hS hl
                refine lv_iload hx hb (g_21 (v := 7) bX6_rowsFrom rfl) (lv_at hl 0 rfl) ?_
                refine lv_iload hx hb (g_21 (v := 4) bX6_rowsFrom rfl) (lv_at hl 6 rfl) ?_
                refine lv_icmp_ge (tgt := 96) hx hb dX6_rowsFrom_73 (by decide +kernel) (fun c_166 => ?_) (fun c_166 => ?_)
                · refine W.widen (k := 250) (n := 4440) (Nat.le_of_ble_eq_true rfl) (Nat.le_of_ble_eq_true rfl) ?_
                  exact endVt [[true, true, true, true, true, true, true, true, true, true, true, true, true, true, true, true, true, true, true, true, true, true, true, true, true, true, true, true, true, true, true, true]] hx hb hr hlocks hP hD rfl (by decide +kernel) hS ⟨x6_153, fMy, fJ_163, uS0, uS1, uS2, uS3, uS4, rfl, ⟨(fun q => by omega), (fun q => by omega), (fun q => by omega), (fun q => by omega), (fun q => by omega)⟩⟩ (g_177 bX6_rowsFrom rfl)
                · have hlt_167 : j_162 < kM := lp_lt rfl rfl (by omega) (by omega) c_166
                  refine lv_aload_n hx hb (g_42 bX6_rowsFrom rfl) rfl (lv_at hl 2 rfl) ?_
                  refine va_get (D := G) (ci := 5) (v := .ref qmb) (C := RX6) (T := TX6) (N := 35) hx hb hts iX_X6 hown hK hP 0 rfl rfl 32 (by decide +kernel) (hts _ m_t882) (fun _ h9 => h9) rfl (g_180 (v := 64) bX6_rowsFrom rfl) ?_
                  refine lv_iload hx hb (g_21 (v := 7) bX6_rowsFrom rfl) (lv_at hl 0 rfl) ?_
                  refine lv_aload_n hx hb (g_42 bX6_rowsFrom rfl) rfl (lv_at hl 2 rfl) ?_
                  refine va_get (D := G) (ci := 5) (v := .ref qmy) (C := RX6) (T := TX6) (N := 35) hx hb hts iX_X6 hown hK hP 0 rfl rfl 31 (by decide +kernel) (hts _ m_t881) (fun _ h9 => h9) rfl (g_180 (v := 61) bX6_rowsFrom rfl) ?_
                  refine lv_iload hx hb (g_21 (v := 7) bX6_rowsFrom rfl) (lv_at hl 0 rfl) ?_
                  refine va_iald hx hb hK hP 29 0 rfl rfl (vp_in_nI (by omega) (by omega)) (g_46 bX6_rowsFrom rfl) ?_
                  refine lv_seti (v := fMy j_162) (congrArg fMy (nI_clamp (by omega))) ?_
                  refine va_iast hx hb hK hP hD hS 30 0 rfl rfl (vp_in_nI (by omega) (by omega)) (g_79 bX6_rowsFrom rfl) (fun H locs => ?_)
                  clear hP hD hS
                  intro hP hD hS
                  rw [nI_clamp (n := j_162) (by omega)] at hP hD
                  have hPD := pd_as (([_, _, _, _, _, _, _, _, _, _, _, _, _, _, _, _, _, _, _, _, _, _, _, _, _, _, _, _, _, _, zzI cy qmb 5 (upd fJ_163 j_162 (fMy j_162)), _] : va_W) ++ (oM cy uS0 ++ (oM cy uS1 ++ (oM cy uS2 ++ (oM cy uS3 ++ oM cy uS4))))) hP hD rfl
                  clear hP hD
                  obtain ⟨hP, hD⟩ := hPD
                  refine lv_iinc (v := nI (j_162 + 1)) (lv' := [(7, .int (nI (j_162 + 1))), (6, .int x6_153), (0, .ref qm), (1, .ref qm), (2, .int (nI kI)), (3, .int 0), (4, .int (nI kM)), (5, .int (nI kU))]) hx hb dX6_rowsFrom_90 hl (k := 0) rfl (nI_1 _) (by decide +kernel) rfl (fun ls => ?_)
                  clear hl
                  intro hl
                  refine lv_goto (tgt := 69) hx hb dX6_rowsFrom_93 (by decide +kernel) ?_
                  exact ih_161 (j_162 + 1) (upd fJ_163 j_162 (fMy j_162)) (by omega) (by omega) _ _ _ hP hD hS (lv_sub hl [0, 1, 2, 3, 4, 5, 6, 7] rfl)
            exact lp_159 ((5 - 0) + 1) 0 fMb (Nat.lt_succ_self _) (Nat.zero_le _) _ _ ls hP hD hS (lv_sub hl [0, 1, 2, 3, 4, 5, 6, 7] rfl)
        · have hlt_168 : j_152 < T_nb tA := lp_lt rfl rfl (by omega) (by omega) c_156
          refine lv_iload hx hb (g_21 (v := 6) bX6_rowsFrom rfl) (lv_at hl 1 rfl) ?_
          refine lv_aload_n hx hb (g_42 bX6_rowsFrom rfl) rfl (lv_at hl 2 rfl) ?_
          refine va_get (D := G) (ci := 5) (v := .ref qmB) (C := RX6) (T := TX6) (N := 35) hx hb hts iX_X6 hown hK hP 0 rfl rfl 11 (by decide +kernel) (hts _ m_t861) (fun _ h9 => h9) rfl (g_180 (v := 42) bX6_rowsFrom rfl) ?_
          refine lv_iload hx hb (g_21 (v := 7) bX6_rowsFrom rfl) (lv_at hl 0 rfl) ?_
          refine va_alda hx hb hK hP 1 3 rfl rfl (in8 (by omega)) (g_50 bX6_rowsFrom rfl) ?_
          refine lv_setv (v := .ref (rB j_152)) (g_ref (by omega)) ?_
          refine lv_iconst (v := 0) hx hb (g_3 bX6_rowsFrom rfl) (by decide +kernel) ?_
          refine va_iald hx hb hK hP (2 + j_152) 0 (sg8 (n0 := 2) (f := (fun j => zzI cy (rB j) 4 (bkR tA j))) rfl rfl rfl rfl rfl rfl rfl rfl j_152 (by omega)) rfl (in_c rfl) (g_46 bX6_rowsFrom rfl) ?_
          refine lv_seti (v := T_wo tA j_152) (bk_0 _ _) ?_
          refine lv_aload_n hx hb (g_43 bX6_rowsFrom rfl) rfl (lv_at hl 3 rfl) ?_
          refine va_get (D := G) (ci := 5) (v := .ref qmK) (C := RX6) (T := TX6) (N := 35) hx hb hts iX_X6 hown hK hP 0 rfl rfl 14 (by decide +kernel) (hts _ m_t864) (fun _ h9 => h9) rfl (g_180 (v := 48) bX6_rowsFrom rfl) ?_
          refine lv_iload_n hx hb (g_28 bX6_rowsFrom rfl) rfl (lv_at hl 4 rfl) ?_
          refine va_alda hx hb hK hP 19 3 rfl rfl (in8 (by omega)) (g_50 bX6_rowsFrom rfl) ?_
          refine lv_setv (v := .ref (rK kI)) (g_ref (by omega)) ?_
          refine lv_iload hx hb (g_21 (v := 7) bX6_rowsFrom rfl) (lv_at hl 0 rfl) ?_
          refine va_iald hx hb hK hP (20 + kI) 0 (sg8 (n0 := 20) (f := (fun j => zzI cy (rK j) 8 (T_kn tA j))) rfl rfl rfl rfl rfl rfl rfl rfl kI (by omega)) rfl (vp_in_nI (by omega) (by omega)) (g_46 bX6_rowsFrom rfl) ?_
          refine lv_seti (v := T_kn tA kI j_152) (congrArg (T_kn tA kI) (nI_clamp (by omega))) ?_
          refine lv_imul hx hb (g_104 bX6_rowsFrom rfl) ?_
          refine lv_iadd hx hb (g_96 bX6_rowsFrom rfl) ?_
          refine lv_istore (lv' := [(6, .int (x6_153 + ((T_wo tA j_152) * (T_kn tA kI j_152)))), (7, .int (nI j_152)), (0, .ref qm), (1, .ref qm), (2, .int (nI kI)), (3, .int 0), (4, .int (nI kM)), (5, .int (nI kU))]) hx hb (g_54 (v := 6) bX6_rowsFrom rfl) hl (by decide +kernel) rfl (fun ls => ?_)
          clear hl
          intro hl
          refine lv_iinc (v := nI (j_152 + 1)) (lv' := [(7, .int (nI (j_152 + 1))), (6, .int (x6_153 + ((T_wo tA j_152) * (T_kn tA kI j_152)))), (0, .ref qm), (1, .ref qm), (2, .int (nI kI)), (3, .int 0), (4, .int (nI kM)), (5, .int (nI kU))]) hx hb dX6_rowsFrom_45 hl (k := 1) rfl (nI_1 _) (by decide +kernel) rfl (fun ls => ?_)
          clear hl
          intro hl
          refine lv_goto (tgt := 12) hx hb dX6_rowsFrom_48 (by decide +kernel) ?_
          exact ih_151 (j_152 + 1) (x6_153 + ((T_wo tA j_152) * (T_kn tA kI j_152))) (by omega) (by omega) _ _ _ hP hD hS (lv_sub hl [0, 1, 2, 3, 4, 5, 6, 7] rfl)
    exact lp_149 ((8 - 0) + 1) 0 0 (Nat.lt_succ_self _) (Nat.zero_le _) _ _ ls hP hD hS (lv_sub hl [0, 1, 2, 3, 4, 5, 6, 7] rfl)
end
section
theorem un_step {f : Nat → Int32} {m j : Nat} (hj : j < 8) (h : ∀ k, k < m → ∃ b : Nat, b < 8 ∧ f k = nI b) : ∀ k, k < m + 1 → ∃ b : Nat, b < 8 ∧ upd f m (nI j) k = nI b := fun k hk => by
  show ∃ b : Nat, b < 8 ∧ (if k = m then nI j else f k) = nI b
  by_cases e : k = m
  · rw [if_pos e]
    exact ⟨j, hj, rfl⟩
  · rw [if_neg e]
    exact h k (by omega)
theorem le5 {m : Nat} (hm : m ≤ 8) (c : nI m ≤ 5) : m ≤ 5 := by
  rw [Int32.le_iff_toInt_le, nI_toInt (by omega)] at c
  have e : (5 : Int32).toInt = 5 := by decide +kernel
  rw [e] at c
  omega
theorem bst_in {x : Int32} {m : Nat} (hm : m ≤ 5) (h : Iv x.toInt64 (-1) (nI m - 1).toInt64) (h2 : ¬ x = -1) : vp_in x 5 := by
  have e : (nI m - 1).toInt = (m : Int) - 1 := by
    rw [show (1 : Int32) = nI 1 from rfl, pk_sub_toInt (by omega) (by omega)]
    rfl
  have h1 := toI h (m := -1) (n := (m : Int) - 1) (by decide +kernel) (by rw [Int32.toInt_toInt64]; exact e)
  have h3 : x.toInt ≠ -1 := fun q => h2 (eqI (by decide +kernel) q)
  obtain ⟨k, hk, rfl⟩ := nI_of (x := x) (by rw [Int32.lt_iff_toInt_lt]; show ¬ x.toInt < 0; omega)
  rw [nI_toInt hk] at h1
  exact vp_in_nI (by omega) (by omega)
set_option maxHeartbeats 4000000 in
set_option maxRecDepth 100000 in
theorem p_X6_order (l : Launch) (G : va_G) (cy : Nat → ClassId) (sz : Nat) (qm : Nat) (qmh : Nat) (qmo : Nat) (qmz : Nat) (qmR : Nat) (qmv : Nat) (qmk : Nat) (qma : Nat) (qmt : Nat) (kZ : Nat) (qmr : Nat) (tA : TA) (qmB : Nat) (qmO : Nat) (qmK : Nat) (iEn : Int32) (iTk : Int32) (uP : UM) (uU : UM) (kAt : Nat) (iTo : Int32) (iFr : Int32) (JFi : Int64) (iFa : Int32) (qm3 : Nat) (iSt : Int32) (iLv : Int32) (iWs : Int32) (vLa : Value) (qmu : Nat) (qmy : Nat) (qmb : Nat) (qms : Nat) (iOm : Int32) (fMr : Nat → Int32) (rB : Nat → Nat) (rO : Nat → Nat) (rK : Nat → Nat) (fMu : Nat → Int32) (fMy : Nat → Int32) (fMb : Nat → Int32) (uS0 : UM) (uS1 : UM) (uS2 : UM) (uS3 : UM) (uS4 : UM) (iA : Int32) (iB : Int32)  (hB : T_nb tA ≤ 8) (hPp : T_np tA ≤ 8) : MW l yX6_order cX6_order 5 (some .int) 16 250 4440 G cy ((zzO qm 5 (.ref qmh :: .ref qmo :: .ref qmz :: .ref qmR :: .ref qmv :: .ref qmk :: .ref qma :: .ref qmt :: .int (nI kZ) :: .ref qmr :: .int (nI (T_nb tA)) :: .ref qmB :: .int (nI (T_np tA)) :: .ref qmO :: .ref qmK :: .int iEn :: .int iTk :: .int (T_sd tA) :: ov uP :: ov uU :: .int (nI kAt) :: .int iTo :: .int iFr :: .long JFi :: .int iFa :: .ref qm3 :: .int iSt :: .int iLv :: .int iWs :: vLa :: .ref qmu :: .ref qmy :: .ref qmb :: .ref qms :: .int iOm :: []) :: zzI cy qmr 8 fMr :: zzG cy 3 qmB rB :: zzI cy (rB 0) 4 (bkR tA 0) :: zzI cy (rB 1) 4 (bkR tA 1) :: zzI cy (rB 2) 4 (bkR tA 2) :: zzI cy (rB 3) 4 (bkR tA 3) :: zzI cy (rB 4) 4 (bkR tA 4) :: zzI cy (rB 5) 4 (bkR tA 5) :: zzI cy (rB 6) 4 (bkR tA 6) :: zzI cy (rB 7) 4 (bkR tA 7) :: zzG cy 3 qmO rO :: zzI cy (rO 0) 5 (onR tA 0) :: zzI cy (rO 1) 5 (onR tA 1) :: zzI cy (rO 2) 5 (onR tA 2) :: zzI cy (rO 3) 5 (onR tA 3) :: zzI cy (rO 4) 5 (onR tA 4) :: zzI cy (rO 5) 5 (onR tA 5) :: zzI cy (rO 6) 5 (onR tA 6) :: zzI cy (rO 7) 5 (onR tA 7) :: zzG cy 3 qmK rK :: zzI cy (rK 0) 8 (T_kn tA 0) :: zzI cy (rK 1) 8 (T_kn tA 1) :: zzI cy (rK 2) 8 (T_kn tA 2) :: zzI cy (rK 3) 8 (T_kn tA 3) :: zzI cy (rK 4) 8 (T_kn tA 4) :: zzI cy (rK 5) 8 (T_kn tA 5) :: zzI cy (rK 6) 8 (T_kn tA 6) :: zzI cy (rK 7) 8 (T_kn tA 7) :: zzI cy qmu 8 fMu :: zzI cy qmy 5 fMy :: zzI cy qmb 5 fMb :: zzQ cy 5 qms 6 (sF (refU uS0) (refU uS1) (refU uS2) (refU uS3) (refU uS4)) :: []) ++ (oM cy uS0 ++ (oM cy uS1 ++ (oM cy uS2 ++ (oM cy uS3 ++ oM cy uS4))))) sz [.ref qm, .int iA, .int iB] (Wi G (fun r u => ∃ (iNm : Int32) (fNr : Nat → Int32) (fNu : Nat → Int32) (fNy : Nat → Int32) (fNb : Nat → Int32) (uN0 : UM) (uN1 : UM) (uN2 : UM) (uN3 : UM) (uN4 : UM), u = ((zzO qm 5 (.ref qmh :: .ref qmo :: .ref qmz :: .ref qmR :: .ref qmv :: .ref qmk :: .ref qma :: .ref qmt :: .int (nI kZ) :: .ref qmr :: .int (nI (T_nb tA)) :: .ref qmB :: .int (nI (T_np tA)) :: .ref qmO :: .ref qmK :: .int iEn :: .int iTk :: .int (T_sd tA) :: ov uP :: ov uU :: .int (nI kAt) :: .int iTo :: .int iFr :: .long JFi :: .int iFa :: .ref qm3 :: .int iSt :: .int iLv :: .int iWs :: vLa :: .ref qmu :: .ref qmy :: .ref qmb :: .ref qms :: .int iNm :: []) :: zzI cy qmr 8 fNr :: zzG cy 3 qmB rB :: zzI cy (rB 0) 4 (bkR tA 0) :: zzI cy (rB 1) 4 (bkR tA 1) :: zzI cy (rB 2) 4 (bkR tA 2) :: zzI cy (rB 3) 4 (bkR tA 3) :: zzI cy (rB 4) 4 (bkR tA 4) :: zzI cy (rB 5) 4 (bkR tA 5) :: zzI cy (rB 6) 4 (bkR tA 6) :: zzI cy (rB 7) 4 (bkR tA 7) :: zzG cy 3 qmO rO :: zzI cy (rO 0) 5 (onR tA 0) :: zzI cy (rO 1) 5 (onR tA 1) :: zzI cy (rO 2) 5 (onR tA 2) :: zzI cy (rO 3) 5 (onR tA 3) :: zzI cy (rO 4) 5 (onR tA 4) :: zzI cy (rO 5) 5 (onR tA 5) :: zzI cy (rO 6) 5 (onR tA 6) :: zzI cy (rO 7) 5 (onR tA 7) :: zzG cy 3 qmK rK :: zzI cy (rK 0) 8 (T_kn tA 0) :: zzI cy (rK 1) 8 (T_kn tA 1) :: zzI cy (rK 2) 8 (T_kn tA 2) :: zzI cy (rK 3) 8 (T_kn tA 3) :: zzI cy (rK 4) 8 (T_kn tA 4) :: zzI cy (rK 5) 8 (T_kn tA 5) :: zzI cy (rK 6) 8 (T_kn tA 6) :: zzI cy (rK 7) 8 (T_kn tA 7) :: zzI cy qmu 8 fNu :: zzI cy qmy 5 fNy :: zzI cy qmb 5 fNb :: zzQ cy 5 qms 6 (sF (refU uN0) (refU uN1) (refU uN2) (refU uN3) (refU uN4)) :: []) ++ (oM cy uN0 ++ (oM cy uN1 ++ (oM cy uN2 ++ (oM cy uN3 ++ oM cy uN4))))) ∧ (True))) := by
  refine enW RX6 (by decide +kernel) rfl (Nat.le_of_ble_eq_true rfl) (fun p e s m below meth c ls A hx hb hml hown hts hr hlocks hP hN hl hin hD hA hS => ?_)
  have hin : meth.name = _ := hin
  have hK := hN.1
  replace hl : lv_has ls 5 [(0, .ref qm), (1, .int iA), (2, .int iB)] := hl
  refine lv_iconst (v := 0) hx hb (g_3 bX6_order rfl) (by decide +kernel) ?_
  refine lv_istore_n (lv' := [(3, .int 0), (0, .ref qm), (1, .int iA), (2, .int iB)]) hx hb (g_62 bX6_order rfl) rfl hl (by decide +kernel) rfl (fun ls => ?_)
  clear hl
  intro hl
  refine lv_iconst (v := 0) hx hb (g_3 bX6_order rfl) (by decide +kernel) ?_
  refine lv_istore (lv' := [(4, .int 0), (3, .int 0), (0, .ref qm), (1, .int iA), (2, .int iB)]) hx hb (g_54 (v := 4) bX6_order rfl) hl (by decide +kernel) rfl (fun ls => ?_)
  clear hl
  intro hl
  replace hl : lv_has ls 5 [(4, .int (nI 0)), (3, .int (nI 0)), (0, .ref qm), (1, .int iA), (2, .int iB)] := hl
  have lp_1 : ∀ (n_2 : Nat) (j_4 : Nat) (m_5 : Nat) (fJ_6 : Nat → Int32), 8 - j_4 < n_2 → j_4 ≤ T_nb tA ∧ m_5 ≤ j_4 → (∀ k, k < m_5 → ∃ b : Nat, b < 8 ∧ fJ_6 k = nI b) → ∀ (H : Heap) (locs : List Loc) (ls : Array Slot), va_P G CL ((zzO qm 5 (.ref qmh :: .ref qmo :: .ref qmz :: .ref qmR :: .ref qmv :: .ref qmk :: .ref qma :: .ref qmt :: .int (nI kZ) :: .ref qmr :: .int (nI (T_nb tA)) :: .ref qmB :: .int (nI (T_np tA)) :: .ref qmO :: .ref qmK :: .int iEn :: .int iTk :: .int (T_sd tA) :: ov uP :: ov uU :: .int (nI kAt) :: .int iTo :: .int iFr :: .long JFi :: .int iFa :: .ref qm3 :: .int iSt :: .int iLv :: .int iWs :: vLa :: .ref qmu :: .ref qmy :: .ref qmb :: .ref qms :: .int iOm :: []) :: zzI cy qmr 8 fMr :: zzG cy 3 qmB rB :: zzI cy (rB 0) 4 (bkR tA 0) :: zzI cy (rB 1) 4 (bkR tA 1) :: zzI cy (rB 2) 4 (bkR tA 2) :: zzI cy (rB 3) 4 (bkR tA 3) :: zzI cy (rB 4) 4 (bkR tA 4) :: zzI cy (rB 5) 4 (bkR tA 5) :: zzI cy (rB 6) 4 (bkR tA 6) :: zzI cy (rB 7) 4 (bkR tA 7) :: zzG cy 3 qmO rO :: zzI cy (rO 0) 5 (onR tA 0) :: zzI cy (rO 1) 5 (onR tA 1) :: zzI cy (rO 2) 5 (onR tA 2) :: zzI cy (rO 3) 5 (onR tA 3) :: zzI cy (rO 4) 5 (onR tA 4) :: zzI cy (rO 5) 5 (onR tA 5) :: zzI cy (rO 6) 5 (onR tA 6) :: zzI cy (rO 7) 5 (onR tA 7) :: zzG cy 3 qmK rK :: zzI cy (rK 0) 8 (T_kn tA 0) :: zzI cy (rK 1) 8 (T_kn tA 1) :: zzI cy (rK 2) 8 (T_kn tA 2) :: zzI cy (rK 3) 8 (T_kn tA 3) :: zzI cy (rK 4) 8 (T_kn tA 4) :: zzI cy (rK 5) 8 (T_kn tA 5) :: zzI cy (rK 6) 8 (T_kn tA 6) :: zzI cy (rK 7) 8 (T_kn tA 7) :: zzI cy qmu 8 fJ_6 :: zzI cy qmy 5 fMy :: zzI cy qmb 5 fMb :: zzQ cy 5 qms 6 (sF (refU uS0) (refU uS1) (refU uS2) (refU uS3) (refU uS4)) :: []) ++ (oM cy uS0 ++ (oM cy uS1 ++ (oM cy uS2 ++ (oM cy uS3 ++ oM cy uS4))))) H → va_D A ((zzO qm 5 (.ref qmh :: .ref qmo :: .ref qmz :: .ref qmR :: .ref qmv :: .ref qmk :: .ref qma :: .ref qmt :: .int (nI kZ) :: .ref qmr :: .int (nI (T_nb tA)) :: .ref qmB :: .int (nI (T_np tA)) :: .ref qmO :: .ref qmK :: .int iEn :: .int iTk :: .int (T_sd tA) :: ov uP :: ov uU :: .int (nI kAt) :: .int iTo :: .int iFr :: .long JFi :: .int iFa :: .ref qm3 :: .int iSt :: .int iLv :: .int iWs :: vLa :: .ref qmu :: .ref qmy :: .ref qmb :: .ref qms :: .int iOm :: []) :: zzI cy qmr 8 fMr :: zzG cy 3 qmB rB :: zzI cy (rB 0) 4 (bkR tA 0) :: zzI cy (rB 1) 4 (bkR tA 1) :: zzI cy (rB 2) 4 (bkR tA 2) :: zzI cy (rB 3) 4 (bkR tA 3) :: zzI cy (rB 4) 4 (bkR tA 4) :: zzI cy (rB 5) 4 (bkR tA 5) :: zzI cy (rB 6) 4 (bkR tA 6) :: zzI cy (rB 7) 4 (bkR tA 7) :: zzG cy 3 qmO rO :: zzI cy (rO 0) 5 (onR tA 0) :: zzI cy (rO 1) 5 (onR tA 1) :: zzI cy (rO 2) 5 (onR tA 2) :: zzI cy (rO 3) 5 (onR tA 3) :: zzI cy (rO 4) 5 (onR tA 4) :: zzI cy (rO 5) 5 (onR tA 5) :: zzI cy (rO 6) 5 (onR tA 6) :: zzI cy (rO 7) 5 (onR tA 7) :: zzG cy 3 qmK rK :: zzI cy (rK 0) 8 (T_kn tA 0) :: zzI cy (rK 1) 8 (T_kn tA 1) :: zzI cy (rK 2) 8 (T_kn tA 2) :: zzI cy (rK 3) 8 (T_kn tA 3) :: zzI cy (rK 4) 8 (T_kn tA 4) :: zzI cy (rK 5) 8 (T_kn tA 5) :: zzI cy (rK 6) 8 (T_kn tA 6) :: zzI cy (rK 7) 8 (T_kn tA 7) :: zzI cy qmu 8 fJ_6 :: zzI cy qmy 5 fMy :: zzI cy qmb 5 fMb :: zzQ cy 5 qms 6 (sF (refU uS0) (refU uS1) (refU uS2) (refU uS3) (refU uS4)) :: []) ++ (oM cy uS0 ++ (oM cy uS1 ++ (oM cy uS2 ++ (oM cy uS3 ++ oM cy uS4))))) → va_S A s.heap H locs → lv_has ls 5 [(4, .int (nI j_4)), (3, .int (nI m_5)), (0, .ref qm), (1, .int iA), (2, .int iB)] → W p l e (Rm 16 250 4440) s m (List.toArray (α := Value) [.ref qm, .int iA, .int iB]) below meth c H locs 0 0 (MQ below ((Wi G (fun r u => ∃ (iNm : Int32) (fNr : Nat → Int32) (fNu : Nat → Int32) (fNy : Nat → Int32) (fNb : Nat → Int32) (uN0 : UM) (uN1 : UM) (uN2 : UM) (uN3 : UM) (uN4 : UM), u = ((zzO qm 5 (.ref qmh :: .ref qmo :: .ref qmz :: .ref qmR :: .ref qmv :: .ref qmk :: .ref qma :: .ref qmt :: .int (nI kZ) :: .ref qmr :: .int (nI (T_nb tA)) :: .ref qmB :: .int (nI (T_np tA)) :: .ref qmO :: .ref qmK :: .int iEn :: .int iTk :: .int (T_sd tA) :: ov uP :: ov uU :: .int (nI kAt) :: .int iTo :: .int iFr :: .long JFi :: .int iFa :: .ref qm3 :: .int iSt :: .int iLv :: .int iWs :: vLa :: .ref qmu :: .ref qmy :: .ref qmb :: .ref qms :: .int iNm :: []) :: zzI cy qmr 8 fNr :: zzG cy 3 qmB rB :: zzI cy (rB 0) 4 (bkR tA 0) :: zzI cy (rB 1) 4 (bkR tA 1) :: zzI cy (rB 2) 4 (bkR tA 2) :: zzI cy (rB 3) 4 (bkR tA 3) :: zzI cy (rB 4) 4 (bkR tA 4) :: zzI cy (rB 5) 4 (bkR tA 5) :: zzI cy (rB 6) 4 (bkR tA 6) :: zzI cy (rB 7) 4 (bkR tA 7) :: zzG cy 3 qmO rO :: zzI cy (rO 0) 5 (onR tA 0) :: zzI cy (rO 1) 5 (onR tA 1) :: zzI cy (rO 2) 5 (onR tA 2) :: zzI cy (rO 3) 5 (onR tA 3) :: zzI cy (rO 4) 5 (onR tA 4) :: zzI cy (rO 5) 5 (onR tA 5) :: zzI cy (rO 6) 5 (onR tA 6) :: zzI cy (rO 7) 5 (onR tA 7) :: zzG cy 3 qmK rK :: zzI cy (rK 0) 8 (T_kn tA 0) :: zzI cy (rK 1) 8 (T_kn tA 1) :: zzI cy (rK 2) 8 (T_kn tA 2) :: zzI cy (rK 3) 8 (T_kn tA 3) :: zzI cy (rK 4) 8 (T_kn tA 4) :: zzI cy (rK 5) 8 (T_kn tA 5) :: zzI cy (rK 6) 8 (T_kn tA 6) :: zzI cy (rK 7) 8 (T_kn tA 7) :: zzI cy qmu 8 fNu :: zzI cy qmy 5 fNy :: zzI cy qmb 5 fNb :: zzQ cy 5 qms 6 (sF (refU uN0) (refU uN1) (refU uN2) (refU uN3) (refU uN4)) :: []) ++ (oM cy uN0 ++ (oM cy uN1 ++ (oM cy uN2 ++ (oM cy uN3 ++ oM cy uN4))))) ∧ (True))) A) (List.toArray (α := Value) [.ref qm, .int iA, .int iB]) s 250 4440 A) (F0 m 5 ls []) := by
    intro n_2
    induction n_2 with
    | zero => intro j_4 m_5 fJ_6 hm9; exact absurd hm9 (Nat.not_lt_zero _)
    | succ n_2 ih_3 =>
      intro j_4 m_5 fJ_6 hm_9 hj_7 hUn_8 H locs ls hP hD hS hl
      refine lv_iload hx hb (g_21 (v := 4) bX6_order rfl) (lv_at hl 0 rfl) ?_
      refine lv_aload_n hx hb (g_42 bX6_order rfl) rfl (lv_at hl 2 rfl) ?_
      refine va_get (D := G) (ci := 5) (v := .int (nI (T_nb tA))) (C := RX6) (T := TX6) (N := 35) hx hb hts iX_X6 hown hK hP 0 rfl rfl 10 (by decide +kernel) (hts _ m_t860) (fun _ h9 => h9) rfl (g_180 (v := 71) bX6_order rfl) ?_
      refine lv_icmp_ge (tgt := 40) hx hb dX6_order_11 (by decide +kernel) (fun c_10 => ?_) (fun c_10 => ?_)
      · refine lv_aload_n hx hb (g_42 bX6_order rfl) rfl (lv_at hl 2 rfl) ?_
        refine lv_iload_n hx hb (g_27 bX6_order rfl) rfl (lv_at hl 3 rfl) ?_
        refine lv_i2l (v := iA.toInt64) hx hb (g_133 bX6_order rfl) rfl ?_
        refine kRi (rV (As := [.long iA.toInt64]) (rest := []) (b := qm) ⟨hx, hb, hml, hown, hts⟩ (c_X6_isOne l G cy qm (.ref qmh) (.ref qmo) (.ref qmz) (.ref qmR) (.ref qmv) (.ref qmk) (.ref qma) (.ref qmt) (.int (nI kZ)) (.ref qmr) tA qmB qmO qmK iEn iTk (ov uP) (ov uU) (.int (nI kAt)) (.int iTo) (.int iFr) (.long JFi) (.int iFa) (.ref qm3) (.int iSt) iLv iWs vLa (.ref qmu) (.ref qmy) (.ref qmb) (.ref qms) (.int iOm) iA hPp) L_X6_236 (preRV (q := (RX6, TX6, 35)) hN hP [0] rfl 0 5 rfl rfl) rfl ⟨Nat.le_of_ble_eq_true rfl, Nat.le_of_ble_eq_true rfl⟩ hl.1 (Nat.le_of_ble_eq_true rfl) (g_182 (v := 236) bX6_order rfl) ⟨Nat.le_of_ble_eq_true rfl, Nat.le_of_ble_eq_true rfl⟩) (fun r_11 h_12 => ?_)
        rcases h_12 with ⟨rfl, h_13⟩ | ⟨rfl, h_13⟩
        · obtain ⟨k_14, hk_15, rfl⟩ := h_13
          refine lv_if_eq (tgt := 64) hx hb dX6_order_46 (by decide +kernel) (fun h9 => absurd h9 (by decide +kernel)) (fun _ => ?_)
          refine lv_iload_n hx hb (g_28 bX6_order rfl) rfl (lv_at hl 4 rfl) ?_
          refine lv_i2l (v := iB.toInt64) hx hb (g_133 bX6_order rfl) rfl ?_
          refine lv_ldc2 hx hb hown (hts _ m_t1312) (g_20 (v := 330) bX6_order rfl) ?_
          refine lv_iload_n hx hb (g_29 bX6_order rfl) rfl (lv_at hl 1 rfl) ?_
          refine lv_iconst (v := 1) hx hb (g_4 bX6_order rfl) (by decide +kernel) ?_
          refine lv_isub hx hb (g_100 bX6_order rfl) ?_
          refine lv_i2l (v := ((nI m_5) - 1).toInt64) hx hb (g_133 bX6_order rfl) rfl ?_
          refine kRi (rS (As := [.long iB.toInt64, .long (-1), .long (((nI m_5) - 1).toInt64)]) (rest := []) ⟨hx, hb, hml, hown, hts⟩ (c_X6_in l G cy iB.toInt64 (-1) (((nI m_5) - 1).toInt64)) L_X6_74 (preRS hN hP [] rfl) rfl ⟨Nat.le_of_ble_eq_true rfl, Nat.le_of_ble_eq_true rfl⟩ hl.1 (Nat.le_of_ble_eq_true rfl) (g_184 (v := 74) bX6_order rfl) ⟨Nat.le_of_ble_eq_true rfl, Nat.le_of_ble_eq_true rfl⟩) (fun r_17 h_18 => ?_)
          rcases h_18 with ⟨rfl, h_19⟩ | ⟨rfl, h_19⟩
          · refine lv_if_ne (tgt := 71) hx hb dX6_order_61 (by decide +kernel) (fun _ => ?_) (fun h9 => absurd h9 (by decide +kernel))
            refine lv_aload_n hx hb (g_42 bX6_order rfl) rfl (lv_at hl 2 rfl) ?_
            refine lv_iload_n hx hb (g_27 bX6_order rfl) rfl (lv_at hl 3 rfl) ?_
            refine kRi (rV (As := [.int (nI k_14)]) (rest := []) (b := qm) ⟨hx, hb, hml, hown, hts⟩ (c_X6_isThere l G cy qm (.ref qmh) (.ref qmo) (.ref qmz) (.ref qmR) (.ref qmv) (.ref qmk) (.ref qma) (.ref qmt) (.int (nI kZ)) (.ref qmr) tA qmB qmO qmK iEn iTk (ov uP) (ov uU) (.int (nI kAt)) (.int iTo) (.int iFr) (.long JFi) (.int iFa) (.ref qm3) (.int iSt) iLv iWs vLa (.ref qmu) (.ref qmy) (.ref qmb) (.ref qms) (.int iOm) rO k_14 (by first | omega | (simp only [nb_sr, np_sr, nb_wr, np_wr, nb_rd, np_rd, nb_ch, np_ch, nb_zr, np_zr, nb_za, np_za, nb_ey, np_ey, nb_hf, np_hf, nb_dd, np_dd, nb_so, np_so, nb_skn, np_skn, nb_swh, np_swh, nb_sgn, np_sgn, nb_ssd, np_ssd, nb_sgo, np_sgo, nb_sag, np_sag]; omega))) L_X6_81 (preRV (q := (RX6, TX6, 35)) hN hP (trueIx 0 [true, false, false, false, false, false, false, false, false, false, false, true, true, true, true, true, true, true, true, true]) (sel_fm rfl rfl) 0 5 rfl rfl) rfl ⟨Nat.le_of_ble_eq_true rfl, Nat.le_of_ble_eq_true rfl⟩ hl.1 (Nat.le_of_ble_eq_true rfl) (g_182 (v := 81) bX6_order rfl) ⟨Nat.le_of_ble_eq_true rfl, Nat.le_of_ble_eq_true rfl⟩) (fun r_21 h_22 => ?_)
            rcases h_22 with ⟨rfl, h_23⟩ | ⟨rfl, h_23⟩
            · refine lv_if_eq (tgt := 84) hx hb dX6_order_76 (by decide +kernel) (fun h9 => absurd h9 (by decide +kernel)) (fun _ => ?_)
              refine lv_iload_n hx hb (g_29 bX6_order rfl) rfl (lv_at hl 1 rfl) ?_
              refine lv_iconst (v := 5) hx hb (g_8 bX6_order rfl) (by decide +kernel) ?_
              refine lv_icmp_le (tgt := 91) hx hb dX6_order_81 (by decide +kernel) (fun c_25 => ?_) (fun c_25 => ?_)
              · have hm5 : m_5 ≤ 5 := le5 (by omega) c_25
                refine lv_aload_n hx hb (g_42 bX6_order rfl) rfl (lv_at hl 2 rfl) ?_
                refine lv_iconst (v := (-1)) hx hb (g_2 bX6_order rfl) (by decide +kernel) ?_
                refine va_put (D := G) (ci := 5) (v := .int (-1)) (ty := .int) (C := RX6) (T := TX6) (N := 35) hx hb hts iX_X6 tyX6 tyX6_ok nmX6 hown hK hP hD hS 0 rfl rfl 34 (by decide +kernel) (hts _ m_t884) (fun _ h9 => h9) rfl (by decide +kernel) rfl rfl (Nat.le_of_ble_eq_true rfl) (g_181 (v := 323) bX6_order rfl) (fun H locs => ?_)
                clear hP hD hS
                intro hP hD hS
                have hPD := pd_as (((zzO qm 5 (.ref qmh :: .ref qmo :: .ref qmz :: .ref qmR :: .ref qmv :: .ref qmk :: .ref qma :: .ref qmt :: .int (nI kZ) :: .ref qmr :: .int (nI (T_nb tA)) :: .ref qmB :: .int (nI (T_np tA)) :: .ref qmO :: .ref qmK :: .int iEn :: .int iTk :: .int (T_sd tA) :: ov uP :: ov uU :: .int (nI kAt) :: .int iTo :: .int iFr :: .long JFi :: .int iFa :: .ref qm3 :: .int iSt :: .int iLv :: .int iWs :: vLa :: .ref qmu :: .ref qmy :: .ref qmb :: .ref qms :: .int (-1) :: []) :: _ :: _ :: _ :: _ :: _ :: _ :: _ :: _ :: _ :: _ :: _ :: _ :: _ :: _ :: _ :: _ :: _ :: _ :: _ :: _ :: _ :: _ :: _ :: _ :: _ :: _ :: _ :: _ :: zzI cy qmu 8 fJ_6 :: _ :: _ :: _ :: []) : va_W) ++ (oM cy uS0 ++ (oM cy uS1 ++ (oM cy uS2 ++ (oM cy uS3 ++ oM cy uS4))))) hP hD rfl
                clear hP hD
                obtain ⟨hP, hD⟩ := hPD
                refine lv_aload_n hx hb (g_42 bX6_order rfl) rfl (lv_at hl 2 rfl) ?_
                refine lv_aload_n hx hb (g_42 bX6_order rfl) rfl (lv_at hl 2 rfl) ?_
                refine lv_iload_n hx hb (g_27 bX6_order rfl) rfl (lv_at hl 3 rfl) ?_
                refine lv_iconst (v := 0) hx hb (g_3 bX6_order rfl) (by decide +kernel) ?_
                refine lv_iload_n hx hb (g_29 bX6_order rfl) rfl (lv_at hl 1 rfl) ?_
                refine lv_iconst (v := 0) hx hb (g_3 bX6_order rfl) (by decide +kernel) ?_
                refine lv_seti (v := nI 0) rfl ?_
                have hcu := cu_0 m_5 (by omega)
                refine cVvP (As := [.ref qm, .int (nI k_14), .int 0, .int (nI m_5), .int (nI 0)]) (rest := []) (b := qm) (q := (RX6, TX6, 35)) ⟨hx, hb, hml, hown, hts⟩ (c_X6_rows0 l G cy (H).size qm qmh qmo qmz qmR qmv qmk qma qmt kZ qmr tA qmB qmO qmK iEn iTk uP uU kAt iTo iFr JFi iFa qm3 iSt iLv iWs vLa qmu qmy qmb qms (-1) rB rO rK fJ_6 fMy fMb uS0 uS1 uS2 uS3 uS4 k_14 m_5 0 (by first | omega | (simp only [nb_sr, np_sr, nb_wr, np_wr, nb_rd, np_rd, nb_ch, np_ch, nb_zr, np_zr, nb_za, np_za, nb_ey, np_ey, nb_hf, np_hf, nb_dd, np_dd, nb_so, np_so, nb_skn, np_skn, nb_swh, np_swh, nb_sgn, np_sgn, nb_ssd, np_ssd, nb_sgo, np_sgo, nb_sag, np_sag]; omega)) (by first | omega | (simp only [nb_sr, np_sr, nb_wr, np_wr, nb_rd, np_rd, nb_ch, np_ch, nb_zr, np_zr, nb_za, np_za, nb_ey, np_ey, nb_hf, np_hf, nb_dd, np_dd, nb_so, np_so, nb_skn, np_skn, nb_swh, np_swh, nb_sgn, np_sgn, nb_ssd, np_ssd, nb_sgo, np_sgo, nb_sag, np_sag]; omega)) (by first | omega | (simp only [nb_sr, np_sr, nb_wr, np_wr, nb_rd, np_rd, nb_ch, np_ch, nb_zr, np_zr, nb_za, np_za, nb_ey, np_ey, nb_hf, np_hf, nb_dd, np_dd, nb_so, np_so, nb_skn, np_skn, nb_swh, np_swh, nb_sgn, np_sgn, nb_ssd, np_ssd, nb_sgo, np_sgo, nb_sag, np_sag]; omega)) (by first | omega | (simp only [nb_sr, np_sr, nb_wr, np_wr, nb_rd, np_rd, nb_ch, np_ch, nb_zr, np_zr, nb_za, np_za, nb_ey, np_ey, nb_hf, np_hf, nb_dd, np_dd, nb_so, np_so, nb_skn, np_skn, nb_swh, np_swh, nb_sgn, np_sgn, nb_ssd, np_ssd, nb_sgo, np_sgo, nb_sag, np_sag]; omega)) (by first | omega | (simp only [nb_sr, np_sr, nb_wr, np_wr, nb_rd, np_rd, nb_ch, np_ch, nb_zr, np_zr, nb_za, np_za, nb_ey, np_ey, nb_hf, np_hf, nb_dd, np_dd, nb_so, np_so, nb_skn, np_skn, nb_swh, np_swh, nb_sgn, np_sgn, nb_ssd, np_ssd, nb_sgo, np_sgo, nb_sag, np_sag]; omega)) hB (by first | omega | (simp only [nb_sr, np_sr, nb_wr, np_wr, nb_rd, np_rd, nb_ch, np_ch, nb_zr, np_zr, nb_za, np_za, nb_ey, np_ey, nb_hf, np_hf, nb_dd, np_dd, nb_so, np_so, nb_skn, np_skn, nb_swh, np_swh, nb_sgn, np_sgn, nb_ssd, np_ssd, nb_sgo, np_sgo, nb_sag, np_sag]; omega))) L_X6_326 hN hP hD hS hA (trueIx 0 (true :: false :: true :: true :: true :: true :: true :: true :: true :: true :: true :: true :: true :: true :: true :: true :: true :: true :: true :: true :: true :: true :: true :: true :: true :: true :: true :: true :: true :: true :: true :: true :: true :: [])) (false :: true :: false :: false :: false :: false :: false :: false :: false :: false :: false :: false :: false :: false :: false :: false :: false :: false :: false :: false :: false :: false :: false :: false :: false :: false :: false :: false :: false :: false :: false :: false :: false :: []) (sel_eq rfl rfl) (by decide +kernel) rfl 0 5 rfl rfl rfl ⟨Nat.le_of_ble_eq_true rfl, Nat.le_of_ble_eq_true rfl⟩ hl.1 (Nat.le_of_ble_eq_true rfl) (g_182 (v := 326) bX6_order rfl) ⟨Nat.le_of_ble_eq_true rfl, Nat.le_of_ble_eq_true rfl⟩ (fun u_28 H locs h_27 => ?_)
                clear hP hD hS
                intro hP hD hS
                obtain ⟨iNm_29, fNy_30, fNb_31, uN_32, uN_33, uN_34, uN_35, uN_36, rfl, h_37⟩ := h_27
                replace hP := al_P hP
                replace hD := al_D hD
                have hPD := pd_as (((_ :: zzO qm 5 (.ref qmh :: .ref qmo :: .ref qmz :: .ref qmR :: .ref qmv :: .ref qmk :: .ref qma :: .ref qmt :: .int (nI kZ) :: .ref qmr :: .int (nI (T_nb tA)) :: .ref qmB :: .int (nI (T_np tA)) :: .ref qmO :: .ref qmK :: .int iEn :: .int iTk :: .int (T_sd tA) :: ov uP :: ov uU :: .int (nI kAt) :: .int iTo :: .int iFr :: .long JFi :: .int iFa :: .ref qm3 :: .int iSt :: .int iLv :: .int iWs :: vLa :: .ref qmu :: .ref qmy :: .ref qmb :: .ref qms :: .int iNm_29 :: []) :: _ :: _ :: _ :: _ :: _ :: _ :: _ :: _ :: _ :: _ :: _ :: _ :: _ :: _ :: _ :: _ :: _ :: _ :: _ :: _ :: _ :: _ :: _ :: _ :: _ :: _ :: _ :: _ :: zzI cy qmy 5 fNy_30 :: zzI cy qmb 5 fNb_31 :: zzQ cy 5 qms 6 (sF (refU uN_32) (refU uN_33) (refU uN_34) (refU uN_35) (refU uN_36)) :: []) : va_W) ++ (oM cy uN_32 ++ (oM cy uN_33 ++ (oM cy uN_34 ++ (oM cy uN_35 ++ oM cy uN_36))))) hP hD rfl
                clear hP hD
                obtain ⟨hP, hD⟩ := hPD
                refine W.widen (k := 250) (n := 4440) (Nat.le_of_ble_eq_true rfl) (Nat.le_of_ble_eq_true rfl) ?_
                refine lv_iload_n hx hb (g_28 bX6_order rfl) rfl (lv_at hl 4 rfl) ?_
                refine lv_iconst (v := (-1)) hx hb (g_2 bX6_order rfl) (by decide +kernel) ?_
                refine lv_icmp_ne (tgt := 117) hx hb dX6_order_107 (by decide +kernel) (fun c_38 => ?_) (fun c_38 => ?_)
                · refine lv_aload_n hx hb (g_42 bX6_order rfl) rfl (lv_at hl 2 rfl) ?_
                  refine va_get (D := G) (ci := 5) (v := .ref qmb) (C := RX6) (T := TX6) (N := 35) hx hb hts iX_X6 hown hK hP 1 rfl rfl 32 (by decide +kernel) (hts _ m_t882) (fun _ h9 => h9) rfl (g_180 (v := 64) bX6_order rfl) ?_
                  refine lv_iload_n hx hb (g_28 bX6_order rfl) rfl (lv_at hl 4 rfl) ?_
                  refine va_iald hx hb hK hP 31 0 rfl rfl (bst_in (m := m_5) (by omega) h_19 c_38) (g_46 bX6_order rfl) ?_
                  exact endWt [[false, true], (true :: false :: true :: true :: true :: true :: true :: true :: true :: true :: true :: true :: true :: true :: true :: true :: true :: true :: true :: true :: true :: true :: true :: true :: true :: true :: true :: true :: true :: true :: true :: true :: true :: [])] hx hb hr hlocks rfl hP hD rfl (by decide +kernel) hS ⟨iNm_29, fMr, fJ_6, fNy_30, fNb_31, uN_32, uN_33, uN_34, uN_35, uN_36, rfl, trivial⟩ (g_172 bX6_order rfl)
                · refine lv_aload_n hx hb (g_42 bX6_order rfl) rfl (lv_at hl 2 rfl) ?_
                  refine va_get (D := G) (ci := 5) (v := .int iNm_29) (C := RX6) (T := TX6) (N := 35) hx hb hts iX_X6 hown hK hP 1 rfl rfl 34 (by decide +kernel) (hts _ m_t884) (fun _ h9 => h9) rfl (g_180 (v := 323) bX6_order rfl) ?_
                  refine lv_goto (tgt := 123) hx hb dX6_order_114 (by decide +kernel) ?_
                  exact endWt [[false, true], (true :: false :: true :: true :: true :: true :: true :: true :: true :: true :: true :: true :: true :: true :: true :: true :: true :: true :: true :: true :: true :: true :: true :: true :: true :: true :: true :: true :: true :: true :: true :: true :: true :: [])] hx hb hr hlocks rfl hP hD rfl (by decide +kernel) hS ⟨iNm_29, fMr, fJ_6, fNy_30, fNb_31, uN_32, uN_33, uN_34, uN_35, uN_36, rfl, trivial⟩ (g_172 bX6_order rfl)
              · refine lv_aload_n hx hb (g_42 bX6_order rfl) rfl (lv_at hl 2 rfl) ?_
                refine lv_bipush (v := (-5)) hx hb dX6_order_85 (by decide +kernel) ?_
                refine cViQ (As := [.int (-5)]) (rest := []) (b := qm) (q := (RX6, TX6, 35)) ⟨hx, hb, hml, hown, hts⟩ (c_X6_refuse5 l G cy (H).size qm (.ref qmh) (.ref qmo) (.ref qmz) (.ref qmR) (.ref qmv) (.ref qmk) (.ref qma) (.ref qmt) (.int (nI kZ)) qmr tA qmB qmO qmK iEn iTk (ov uP) (ov uU) (.int (nI kAt)) (.int iTo) (.int iFr) (.long JFi) (.int iFa) (.ref qm3) (.int iSt) iLv iWs vLa (.ref qmu) (.ref qmy) (.ref qmb) (.ref qms) (.int iOm) fMr) L_X6_91 hN hP hD hS hA [0, 1] (false :: false :: true :: true :: true :: true :: true :: true :: true :: true :: true :: true :: true :: true :: true :: true :: true :: true :: true :: true :: true :: true :: true :: true :: true :: true :: true :: true :: true :: true :: true :: true :: true :: []) rfl (by decide +kernel) rfl 0 5 rfl rfl rfl ⟨Nat.le_of_ble_eq_true rfl, Nat.le_of_ble_eq_true rfl⟩ hl.1 (Nat.le_of_ble_eq_true rfl) (g_182 (v := 91) bX6_order rfl) ⟨Nat.le_of_ble_eq_true rfl, Nat.le_of_ble_eq_true rfl⟩ (fun r_39 u_41 H locs h_40 => ?_)
                clear hP hD hS
                intro hP hD hS
                obtain ⟨fX_42, hu9, h_40⟩ := h_40
                have hPD := pd_eqQ (((_ :: _ :: _ :: _ :: _ :: _ :: _ :: _ :: _ :: _ :: _ :: _ :: _ :: _ :: _ :: _ :: _ :: _ :: _ :: _ :: _ :: _ :: _ :: _ :: _ :: _ :: _ :: _ :: _ :: _ :: _ :: _ :: zzI cy qmr 8 fX_42 :: []) : va_W) ++ (oM cy uS0 ++ (oM cy uS1 ++ (oM cy uS2 ++ (oM cy uS3 ++ oM cy uS4))))) hP hD hu9 rfl
                clear hP hD hu9
                obtain ⟨hP, hD⟩ := hPD
                subst h_40
                refine W.widen (k := 250) (n := 4440) (Nat.le_of_ble_eq_true rfl) (Nat.le_of_ble_eq_true rfl) ?_
                exact endWt [(false :: false :: false :: false :: false :: false :: false :: false :: false :: false :: false :: false :: false :: false :: false :: false :: false :: false :: false :: false :: false :: false :: false :: false :: false :: false :: false :: false :: false :: false :: false :: true :: true :: []), [true, true, true, true, true, true, true, true, true, true, true, true, true, true, true, true, true, true, true, true, true, true, true, true, true, true, true, true, true, true, true]] hx hb hr hlocks rfl hP hD rfl (by decide +kernel) hS ⟨iOm, fX_42, fJ_6, fMy, fMb, uS0, uS1, uS2, uS3, uS4, rfl, trivial⟩ (g_172 bX6_order rfl)
            · refine lv_if_eq (tgt := 84) hx hb dX6_order_76 (by decide +kernel) (fun _ => ?_) (fun h9 => absurd (by decide +kernel) h9)
              refine lv_aload_n hx hb (g_42 bX6_order rfl) rfl (lv_at hl 2 rfl) ?_
              refine lv_bipush (v := (-5)) hx hb dX6_order_85 (by decide +kernel) ?_
              refine cViQ (As := [.int (-5)]) (rest := []) (b := qm) (q := (RX6, TX6, 35)) ⟨hx, hb, hml, hown, hts⟩ (c_X6_refuse5 l G cy (H).size qm (.ref qmh) (.ref qmo) (.ref qmz) (.ref qmR) (.ref qmv) (.ref qmk) (.ref qma) (.ref qmt) (.int (nI kZ)) qmr tA qmB qmO qmK iEn iTk (ov uP) (ov uU) (.int (nI kAt)) (.int iTo) (.int iFr) (.long JFi) (.int iFa) (.ref qm3) (.int iSt) iLv iWs vLa (.ref qmu) (.ref qmy) (.ref qmb) (.ref qms) (.int iOm) fMr) L_X6_91 hN hP hD hS hA [0, 1] (false :: false :: true :: true :: true :: true :: true :: true :: true :: true :: true :: true :: true :: true :: true :: true :: true :: true :: true :: true :: true :: true :: true :: true :: true :: true :: true :: true :: true :: true :: true :: true :: true :: []) rfl (by decide +kernel) rfl 0 5 rfl rfl rfl ⟨Nat.le_of_ble_eq_true rfl, Nat.le_of_ble_eq_true rfl⟩ hl.1 (Nat.le_of_ble_eq_true rfl) (g_182 (v := 91) bX6_order rfl) ⟨Nat.le_of_ble_eq_true rfl, Nat.le_of_ble_eq_true rfl⟩ (fun r_44 u_46 H locs h_45 => ?_)
              clear hP hD hS
              intro hP hD hS
              obtain ⟨fX_47, hu9, h_45⟩ := h_45
              have hPD := pd_eqQ (((_ :: _ :: _ :: _ :: _ :: _ :: _ :: _ :: _ :: _ :: _ :: _ :: _ :: _ :: _ :: _ :: _ :: _ :: _ :: _ :: _ :: _ :: _ :: _ :: _ :: _ :: _ :: _ :: _ :: _ :: _ :: _ :: zzI cy qmr 8 fX_47 :: []) : va_W) ++ (oM cy uS0 ++ (oM cy uS1 ++ (oM cy uS2 ++ (oM cy uS3 ++ oM cy uS4))))) hP hD hu9 rfl
              clear hP hD hu9
              obtain ⟨hP, hD⟩ := hPD
              subst h_45
              refine W.widen (k := 250) (n := 4440) (Nat.le_of_ble_eq_true rfl) (Nat.le_of_ble_eq_true rfl) ?_
              exact endWt [(false :: false :: false :: false :: false :: false :: false :: false :: false :: false :: false :: false :: false :: false :: false :: false :: false :: false :: false :: false :: false :: false :: false :: false :: false :: false :: false :: false :: false :: false :: false :: true :: true :: []), [true, true, true, true, true, true, true, true, true, true, true, true, true, true, true, true, true, true, true, true, true, true, true, true, true, true, true, true, true, true, true]] hx hb hr hlocks rfl hP hD rfl (by decide +kernel) hS ⟨iOm, fX_47, fJ_6, fMy, fMb, uS0, uS1, uS2, uS3, uS4, rfl, trivial⟩ (g_172 bX6_order rfl)
          · refine lv_if_ne (tgt := 71) hx hb dX6_order_61 (by decide +kernel) (fun h9 => absurd (by decide +kernel) h9) (fun _ => ?_)
            refine lv_aload_n hx hb (g_42 bX6_order rfl) rfl (lv_at hl 2 rfl) ?_
            refine lv_bipush (v := (-2)) hx hb dX6_order_65 (by decide +kernel) ?_
            refine cViQ (As := [.int (-2)]) (rest := []) (b := qm) (q := (RX6, TX6, 35)) ⟨hx, hb, hml, hown, hts⟩ (c_X6_refuse2 l G cy (H).size qm (.ref qmh) (.ref qmo) (.ref qmz) (.ref qmR) (.ref qmv) (.ref qmk) (.ref qma) (.ref qmt) (.int (nI kZ)) qmr tA qmB qmO qmK iEn iTk (ov uP) (ov uU) (.int (nI kAt)) (.int iTo) (.int iFr) (.long JFi) (.int iFa) (.ref qm3) (.int iSt) iLv iWs vLa (.ref qmu) (.ref qmy) (.ref qmb) (.ref qms) (.int iOm) fMr) L_X6_91 hN hP hD hS hA [0, 1] (false :: false :: true :: true :: true :: true :: true :: true :: true :: true :: true :: true :: true :: true :: true :: true :: true :: true :: true :: true :: true :: true :: true :: true :: true :: true :: true :: true :: true :: true :: true :: true :: true :: []) rfl (by decide +kernel) rfl 0 5 rfl rfl rfl ⟨Nat.le_of_ble_eq_true rfl, Nat.le_of_ble_eq_true rfl⟩ hl.1 (Nat.le_of_ble_eq_true rfl) (g_182 (v := 91) bX6_order rfl) ⟨Nat.le_of_ble_eq_true rfl, Nat.le_of_ble_eq_true rfl⟩ (fun r_49 u_51 H locs h_50 => ?_)
            clear hP hD hS
            intro hP hD hS
            obtain ⟨fX_52, hu9, h_50⟩ := h_50
            have hPD := pd_eqQ (((_ :: _ :: _ :: _ :: _ :: _ :: _ :: _ :: _ :: _ :: _ :: _ :: _ :: _ :: _ :: _ :: _ :: _ :: _ :: _ :: _ :: _ :: _ :: _ :: _ :: _ :: _ :: _ :: _ :: _ :: _ :: _ :: zzI cy qmr 8 fX_52 :: []) : va_W) ++ (oM cy uS0 ++ (oM cy uS1 ++ (oM cy uS2 ++ (oM cy uS3 ++ oM cy uS4))))) hP hD hu9 rfl
            clear hP hD hu9
            obtain ⟨hP, hD⟩ := hPD
            subst h_50
            refine W.widen (k := 250) (n := 4440) (Nat.le_of_ble_eq_true rfl) (Nat.le_of_ble_eq_true rfl) ?_
            exact endWt [(false :: false :: false :: false :: false :: false :: false :: false :: false :: false :: false :: false :: false :: false :: false :: false :: false :: false :: false :: false :: false :: false :: false :: false :: false :: false :: false :: false :: false :: false :: false :: true :: true :: []), [true, true, true, true, true, true, true, true, true, true, true, true, true, true, true, true, true, true, true, true, true, true, true, true, true, true, true, true, true, true, true]] hx hb hr hlocks rfl hP hD rfl (by decide +kernel) hS ⟨iOm, fX_52, fJ_6, fMy, fMb, uS0, uS1, uS2, uS3, uS4, rfl, trivial⟩ (g_172 bX6_order rfl)
        · refine lv_if_eq (tgt := 64) hx hb dX6_order_46 (by decide +kernel) (fun _ => ?_) (fun h9 => absurd (by decide +kernel) h9)
          refine lv_aload_n hx hb (g_42 bX6_order rfl) rfl (lv_at hl 2 rfl) ?_
          refine lv_bipush (v := (-2)) hx hb dX6_order_65 (by decide +kernel) ?_
          refine cViQ (As := [.int (-2)]) (rest := []) (b := qm) (q := (RX6, TX6, 35)) ⟨hx, hb, hml, hown, hts⟩ (c_X6_refuse2 l G cy (H).size qm (.ref qmh) (.ref qmo) (.ref qmz) (.ref qmR) (.ref qmv) (.ref qmk) (.ref qma) (.ref qmt) (.int (nI kZ)) qmr tA qmB qmO qmK iEn iTk (ov uP) (ov uU) (.int (nI kAt)) (.int iTo) (.int iFr) (.long JFi) (.int iFa) (.ref qm3) (.int iSt) iLv iWs vLa (.ref qmu) (.ref qmy) (.ref qmb) (.ref qms) (.int iOm) fMr) L_X6_91 hN hP hD hS hA [0, 1] (false :: false :: true :: true :: true :: true :: true :: true :: true :: true :: true :: true :: true :: true :: true :: true :: true :: true :: true :: true :: true :: true :: true :: true :: true :: true :: true :: true :: true :: true :: true :: true :: true :: []) rfl (by decide +kernel) rfl 0 5 rfl rfl rfl ⟨Nat.le_of_ble_eq_true rfl, Nat.le_of_ble_eq_true rfl⟩ hl.1 (Nat.le_of_ble_eq_true rfl) (g_182 (v := 91) bX6_order rfl) ⟨Nat.le_of_ble_eq_true rfl, Nat.le_of_ble_eq_true rfl⟩ (fun r_54 u_56 H locs h_55 => ?_)
          clear hP hD hS
          intro hP hD hS
          obtain ⟨fX_57, hu9, h_55⟩ := h_55
          have hPD := pd_eqQ (((_ :: _ :: _ :: _ :: _ :: _ :: _ :: _ :: _ :: _ :: _ :: _ :: _ :: _ :: _ :: _ :: _ :: _ :: _ :: _ :: _ :: _ :: _ :: _ :: _ :: _ :: _ :: _ :: _ :: _ :: _ :: _ :: zzI cy qmr 8 fX_57 :: []) : va_W) ++ (oM cy uS0 ++ (oM cy uS1 ++ (oM cy uS2 ++ (oM cy uS3 ++ oM cy uS4))))) hP hD hu9 rfl
          clear hP hD hu9
          obtain ⟨hP, hD⟩ := hPD
          subst h_55
          refine W.widen (k := 250) (n := 4440) (Nat.le_of_ble_eq_true rfl) (Nat.le_of_ble_eq_true rfl) ?_
          exact endWt [(false :: false :: false :: false :: false :: false :: false :: false :: false :: false :: false :: false :: false :: false :: false :: false :: false :: false :: false :: false :: false :: false :: false :: false :: false :: false :: false :: false :: false :: false :: false :: true :: true :: []), [true, true, true, true, true, true, true, true, true, true, true, true, true, true, true, true, true, true, true, true, true, true, true, true, true, true, true, true, true, true, true]] hx hb hr hlocks rfl hP hD rfl (by decide +kernel) hS ⟨iOm, fX_57, fJ_6, fMy, fMb, uS0, uS1, uS2, uS3, uS4, rfl, trivial⟩ (g_172 bX6_order rfl)
      · have hlt_58 : j_4 < T_nb tA := lp_lt rfl rfl (by omega) (by omega) c_10
        refine lv_aload_n hx hb (g_42 bX6_order rfl) rfl (lv_at hl 2 rfl) ?_
        refine lv_iload hx hb (g_21 (v := 4) bX6_order rfl) (lv_at hl 0 rfl) ?_
        refine kRi (rV (As := [.int (nI j_4)]) (rest := []) (b := qm) ⟨hx, hb, hml, hown, hts⟩ (c_X6_isWhite l G cy qm (.ref qmh) (.ref qmo) (.ref qmz) (.ref qmR) (.ref qmv) (.ref qmk) (.ref qma) (.ref qmt) (.int (nI kZ)) (.ref qmr) tA qmB qmO qmK iEn iTk (ov uP) (ov uU) (.int (nI kAt)) (.int iTo) (.int iFr) (.long JFi) (.int iFa) (.ref qm3) (.int iSt) iLv iWs vLa (.ref qmu) (.ref qmy) (.ref qmb) (.ref qms) (.int iOm) rB j_4 (by first | omega | (simp only [nb_sr, np_sr, nb_wr, np_wr, nb_rd, np_rd, nb_ch, np_ch, nb_zr, np_zr, nb_za, np_za, nb_ey, np_ey, nb_hf, np_hf, nb_dd, np_dd, nb_so, np_so, nb_skn, np_skn, nb_swh, np_swh, nb_sgn, np_sgn, nb_ssd, np_ssd, nb_sgo, np_sgo, nb_sag, np_sag]; omega))) L_X6_248 (preRV (q := (RX6, TX6, 35)) hN hP (trueIx 0 [true, false, true, true, true, true, true, true, true, true, true]) (sel_fm rfl rfl) 0 5 rfl rfl) rfl ⟨Nat.le_of_ble_eq_true rfl, Nat.le_of_ble_eq_true rfl⟩ hl.1 (Nat.le_of_ble_eq_true rfl) (g_182 (v := 248) bX6_order rfl) ⟨Nat.le_of_ble_eq_true rfl, Nat.le_of_ble_eq_true rfl⟩) (fun r_59 h_60 => ?_)
        rcases h_60 with ⟨rfl, h_61⟩ | ⟨rfl, h_61⟩
        · refine lv_if_ne (tgt := 34) hx hb dX6_order_20 (by decide +kernel) (fun _ => ?_) (fun h9 => absurd h9 (by decide +kernel))
          refine lv_iinc (v := nI (j_4 + 1)) (lv' := [(4, .int (nI (j_4 + 1))), (3, .int (nI m_5)), (0, .ref qm), (1, .int iA), (2, .int iB)]) hx hb dX6_order_34 hl (k := 0) rfl (nI_1 _) (by decide +kernel) rfl (fun ls => ?_)
          clear hl
          intro hl
          refine lv_goto (tgt := 5) hx hb dX6_order_37 (by decide +kernel) ?_
          exact ih_3 (j_4 + 1) m_5 fJ_6 (by omega) (⟨by omega, by omega⟩) hUn_8 _ _ _ hP hD hS (lv_sub hl [0, 1, 2, 3, 4] rfl)
        · refine lv_if_ne (tgt := 34) hx hb dX6_order_20 (by decide +kernel) (fun h9 => absurd (by decide +kernel) h9) (fun _ => ?_)
          refine lv_aload_n hx hb (g_42 bX6_order rfl) rfl (lv_at hl 2 rfl) ?_
          refine va_get (D := G) (ci := 5) (v := .ref qmu) (C := RX6) (T := TX6) (N := 35) hx hb hts iX_X6 hown hK hP 0 rfl rfl 30 (by decide +kernel) (hts _ m_t880) (fun _ h9 => h9) rfl (g_180 (v := 58) bX6_order rfl) ?_
          refine lv_iload_n hx hb (g_29 bX6_order rfl) rfl (lv_at hl 1 rfl) ?_
          refine lv_iinc (v := nI (m_5 + 1)) (lv' := [(3, .int (nI (m_5 + 1))), (4, .int (nI j_4)), (0, .ref qm), (1, .int iA), (2, .int iB)]) hx hb dX6_order_28 hl (k := 1) rfl (nI_1 _) (by decide +kernel) rfl (fun ls => ?_)
          clear hl
          intro hl
          refine lv_iload hx hb (g_21 (v := 4) bX6_order rfl) (lv_at hl 1 rfl) ?_
          refine va_iast hx hb hK hP hD hS 29 0 rfl rfl (in8 (by omega)) (g_79 bX6_order rfl) (fun H locs => ?_)
          clear hP hD hS
          intro hP hD hS
          rw [cl8 (k := m_5) (by omega)] at hP hD
          have hPD := pd_as (((_ :: _ :: _ :: _ :: _ :: _ :: _ :: _ :: _ :: _ :: _ :: _ :: _ :: _ :: _ :: _ :: _ :: _ :: _ :: _ :: _ :: _ :: _ :: _ :: _ :: _ :: _ :: _ :: _ :: zzI cy qmu 8 (upd fJ_6 m_5 (nI j_4)) :: _ :: _ :: _ :: []) : va_W) ++ (oM cy uS0 ++ (oM cy uS1 ++ (oM cy uS2 ++ (oM cy uS3 ++ oM cy uS4))))) hP hD rfl
          clear hP hD
          obtain ⟨hP, hD⟩ := hPD
          refine lv_iinc (v := nI (j_4 + 1)) (lv' := [(4, .int (nI (j_4 + 1))), (3, .int (nI (m_5 + 1))), (0, .ref qm), (1, .int iA), (2, .int iB)]) hx hb dX6_order_34 hl (k := 1) rfl (nI_1 _) (by decide +kernel) rfl (fun ls => ?_)
          clear hl
          intro hl
          refine lv_goto (tgt := 5) hx hb dX6_order_37 (by decide +kernel) ?_
          exact ih_3 (j_4 + 1) (m_5 + 1) (upd fJ_6 m_5 (nI j_4)) (by omega) (⟨by omega, by omega⟩) (un_step (by omega) hUn_8) _ _ _ hP hD hS (lv_sub hl [0, 1, 2, 3, 4] rfl)
  exact lp_1 ((8 - 0) + 1) 0 0 fMu (Nat.lt_succ_self _) (⟨Nat.zero_le _, Nat.le_refl _⟩) (fun k h => absurd h (Nat.not_lt_zero _)) _ _ ls hP hD hS (lv_sub hl [0, 1, 2, 3, 4] rfl)
end
section
set_option maxHeartbeats 4000000 in
set_option maxRecDepth 100000 in
theorem k_X4_init (l : Launch) (G : va_G) (cy : Nat → ClassId) (sz : Nat) (qt : Nat)   : MW l yX4_init cX4_init 1 none 1 8 120 G cy [zzO qt 3 [.int 0, .int 0, .int 0, .int 0, .int 0, .null, .null, .null, .null, .null, .null, .null, .null]] sz [.ref qt] (Wv G (fun u => ∃ (qtw : Nat) (qtn : Nat) (qtg : Nat) (qta : Nat) (qtr : Nat) (qtm : Nat) (qtt : Nat) (qts : Nat), u = [zzO qt 3 [.int 0, .int 0, .int 0, .int 0, .int 1, .ref qtw, .ref qtn, .ref qtg, .ref qta, .ref qtr, .ref qtm, .ref qtt, .ref qts], zzI cy qtw 8 (fun _ => 0), zzI cy qtn 8 (fun _ => 0), zzI cy qtg 8 (fun _ => 0), zzI cy qta 8 (fun _ => 0), zzI cy qtr 8 (fun _ => 0), zzI cy qtm 8 (fun _ => 0), zzI cy qtt 8 (fun _ => 0), zzI cy qts 64 (fun _ => 0)])) := by
  refine enW RX4 (by decide +kernel) rfl (Nat.le_of_ble_eq_true rfl) (fun p e s m below meth c ls A hx hb hml hown hts hr hlocks hP hN hl hin hD hA hS => ?_)
  have hin : meth.name = _ := hin
  have hK := hN.1
  replace hl : lv_has ls 1 [(0, .ref qt)] := hl
  refine lv_aload_n hx hb (g_42 bX4_init rfl) rfl (lv_at hl 0 rfl) ?_
  refine W.objInit hx hb hown (hts _ m_t28) (hts _ m_t21) (hts _ m_t22) rfl (by rw [hml]; exact hl.1) rfl dX4_init_1 (Nat.le_of_ble_eq_true rfl) (Nat.le_of_ble_eq_true rfl) ?_
  refine W.eq (g2 := F0 m 4 ls []) rfl ?_
  refine lv_aload_n hx hb (g_42 bX4_init rfl) rfl (lv_at hl 0 rfl) ?_
  refine lv_iconst (v := 1) hx hb (g_4 bX4_init rfl) (by decide +kernel) ?_
  refine va_put (D := G) (ci := 3) (v := .int 1) (ty := .int) (C := RX4) (T := TX4) (N := 13) hx hb hts iX_X4 tyX4 tyX4_ok nmX4 hown hK hP hD hS 0 rfl rfl 4 (by decide +kernel) (hts _ m_t46) (fun _ h9 => h9) rfl (by decide +kernel) rfl rfl (Nat.le_of_ble_eq_true rfl) (g_181 (v := 9) bX4_init rfl) (fun H locs => ?_)
  clear hP hD hS
  intro hP hD hS
  have hPD := pd_as [zzO qt 3 [.int 0, .int 0, .int 0, .int 0, .int 1, .null, .null, .null, .null, .null, .null, .null, .null]] hP hD rfl
  clear hP hD
  obtain ⟨hP, hD⟩ := hPD
  refine lv_aload_n hx hb (g_42 bX4_init rfl) rfl (lv_at hl 0 rfl) ?_
  refine lv_bipush (v := 8) hx hb dX4_init_10 (by decide +kernel) ?_
  refine newI hx hb hts m_t92 hN hP hD hS hA 8 (by decide +kernel) (by decide +kernel) (Nat.le_of_ble_eq_true rfl) (Nat.le_of_ble_eq_true rfl) (Nat.le_of_ble_eq_true rfl) (g_na10 bX4_init rfl) (fun q_1 H => ?_)
  clear hP hD hS
  intro hP hD hS
  have hPD := pd_as [_, zzI cy q_1 8 (fun _ => 0)] hP hD rfl
  clear hP hD
  obtain ⟨hP, hD⟩ := hPD
  refine W.widen (k := 1) (n := 8) (Nat.le_of_ble_eq_true rfl) (Nat.le_of_ble_eq_true rfl) ?_
  refine va_putF (D := G) (ci := 3) (v := .ref q_1) (ty := (.array .int)) (C := RX4) (T := TX4) (N := 13) hx hb hts iX_X4 tyX4 tyX4_ok nmX4 hown hK hP hD hS 0 rfl rfl 5 (by decide +kernel) (hts _ m_t48) (fun _ h9 => h9) rfl hin rfl (by decide +kernel) rfl rfl (Nat.le_of_ble_eq_true rfl) (g_181 (v := 15) bX4_init rfl) (fun H locs => ?_)
  clear hP hD hS
  intro hP hD hS
  have hPD := pd_as [zzO qt 3 [.int 0, .int 0, .int 0, .int 0, .int 1, .ref q_1, .null, .null, .null, .null, .null, .null, .null], _] hP hD rfl
  clear hP hD
  obtain ⟨hP, hD⟩ := hPD
  refine lv_aload_n hx hb (g_42 bX4_init rfl) rfl (lv_at hl 0 rfl) ?_
  refine lv_bipush (v := 8) hx hb dX4_init_18 (by decide +kernel) ?_
  refine newI hx hb hts m_t92 hN hP hD hS hA 8 (by decide +kernel) (by decide +kernel) (Nat.le_of_ble_eq_true rfl) (Nat.le_of_ble_eq_true rfl) (Nat.le_of_ble_eq_true rfl) (g_na10 bX4_init rfl) (fun q_2 H => ?_)
  clear hP hD hS
  intro hP hD hS
  have hPD := pd_as [_, _, zzI cy q_2 8 (fun _ => 0)] hP hD rfl
  clear hP hD
  obtain ⟨hP, hD⟩ := hPD
  refine W.widen (k := 2) (n := 16) (Nat.le_of_ble_eq_true rfl) (Nat.le_of_ble_eq_true rfl) ?_
  refine va_putF (D := G) (ci := 3) (v := .ref q_2) (ty := (.array .int)) (C := RX4) (T := TX4) (N := 13) hx hb hts iX_X4 tyX4 tyX4_ok nmX4 hown hK hP hD hS 0 rfl rfl 6 (by decide +kernel) (hts _ m_t50) (fun _ h9 => h9) rfl hin rfl (by decide +kernel) rfl rfl (Nat.le_of_ble_eq_true rfl) (g_181 (v := 19) bX4_init rfl) (fun H locs => ?_)
  clear hP hD hS
  intro hP hD hS
  have hPD := pd_as [zzO qt 3 [.int 0, .int 0, .int 0, .int 0, .int 1, .ref q_1, .ref q_2, .null, .null, .null, .null, .null, .null], _, _] hP hD rfl
  clear hP hD
  obtain ⟨hP, hD⟩ := hPD
  refine lv_aload_n hx hb (g_42 bX4_init rfl) rfl (lv_at hl 0 rfl) ?_
  refine lv_bipush (v := 8) hx hb dX4_init_26 (by decide +kernel) ?_
  refine newI hx hb hts m_t92 hN hP hD hS hA 8 (by decide +kernel) (by decide +kernel) (Nat.le_of_ble_eq_true rfl) (Nat.le_of_ble_eq_true rfl) (Nat.le_of_ble_eq_true rfl) (g_na10 bX4_init rfl) (fun q_3 H => ?_)
  clear hP hD hS
  intro hP hD hS
  have hPD := pd_as [_, _, _, zzI cy q_3 8 (fun _ => 0)] hP hD rfl
  clear hP hD
  obtain ⟨hP, hD⟩ := hPD
  refine W.widen (k := 3) (n := 24) (Nat.le_of_ble_eq_true rfl) (Nat.le_of_ble_eq_true rfl) ?_
  refine va_putF (D := G) (ci := 3) (v := .ref q_3) (ty := (.array .int)) (C := RX4) (T := TX4) (N := 13) hx hb hts iX_X4 tyX4 tyX4_ok nmX4 hown hK hP hD hS 0 rfl rfl 7 (by decide +kernel) (hts _ m_t53) (fun _ h9 => h9) rfl hin rfl (by decide +kernel) rfl rfl (Nat.le_of_ble_eq_true rfl) (g_181 (v := 22) bX4_init rfl) (fun H locs => ?_)
  clear hP hD hS
  intro hP hD hS
  have hPD := pd_as [zzO qt 3 [.int 0, .int 0, .int 0, .int 0, .int 1, .ref q_1, .ref q_2, .ref q_3, .null, .null, .null, .null, .null], _, _, _] hP hD rfl
  clear hP hD
  obtain ⟨hP, hD⟩ := hPD
  refine lv_aload_n hx hb (g_42 bX4_init rfl) rfl (lv_at hl 0 rfl) ?_
  refine lv_bipush (v := 8) hx hb dX4_init_34 (by decide +kernel) ?_
  refine newI hx hb hts m_t92 hN hP hD hS hA 8 (by decide +kernel) (by decide +kernel) (Nat.le_of_ble_eq_true rfl) (Nat.le_of_ble_eq_true rfl) (Nat.le_of_ble_eq_true rfl) (g_na10 bX4_init rfl) (fun q_4 H => ?_)
  clear hP hD hS
  intro hP hD hS
  have hPD := pd_as [_, _, _, _, zzI cy q_4 8 (fun _ => 0)] hP hD rfl
  clear hP hD
  obtain ⟨hP, hD⟩ := hPD
  refine W.widen (k := 4) (n := 32) (Nat.le_of_ble_eq_true rfl) (Nat.le_of_ble_eq_true rfl) ?_
  refine va_putF (D := G) (ci := 3) (v := .ref q_4) (ty := (.array .int)) (C := RX4) (T := TX4) (N := 13) hx hb hts iX_X4 tyX4 tyX4_ok nmX4 hown hK hP hD hS 0 rfl rfl 8 (by decide +kernel) (hts _ m_t56) (fun _ h9 => h9) rfl hin rfl (by decide +kernel) rfl rfl (Nat.le_of_ble_eq_true rfl) (g_181 (v := 25) bX4_init rfl) (fun H locs => ?_)
  clear hP hD hS
  intro hP hD hS
  have hPD := pd_as [zzO qt 3 [.int 0, .int 0, .int 0, .int 0, .int 1, .ref q_1, .ref q_2, .ref q_3, .ref q_4, .null, .null, .null, .null], _, _, _, _] hP hD rfl
  clear hP hD
  obtain ⟨hP, hD⟩ := hPD
  refine lv_aload_n hx hb (g_42 bX4_init rfl) rfl (lv_at hl 0 rfl) ?_
  refine lv_bipush (v := 8) hx hb dX4_init_42 (by decide +kernel) ?_
  refine newI hx hb hts m_t92 hN hP hD hS hA 8 (by decide +kernel) (by decide +kernel) (Nat.le_of_ble_eq_true rfl) (Nat.le_of_ble_eq_true rfl) (Nat.le_of_ble_eq_true rfl) (g_na10 bX4_init rfl) (fun q_5 H => ?_)
  clear hP hD hS
  intro hP hD hS
  have hPD := pd_as [_, _, _, _, _, zzI cy q_5 8 (fun _ => 0)] hP hD rfl
  clear hP hD
  obtain ⟨hP, hD⟩ := hPD
  refine W.widen (k := 5) (n := 40) (Nat.le_of_ble_eq_true rfl) (Nat.le_of_ble_eq_true rfl) ?_
  refine va_putF (D := G) (ci := 3) (v := .ref q_5) (ty := (.array .int)) (C := RX4) (T := TX4) (N := 13) hx hb hts iX_X4 tyX4 tyX4_ok nmX4 hown hK hP hD hS 0 rfl rfl 9 (by decide +kernel) (hts _ m_t58) (fun _ h9 => h9) rfl hin rfl (by decide +kernel) rfl rfl (Nat.le_of_ble_eq_true rfl) (g_181 (v := 28) bX4_init rfl) (fun H locs => ?_)
  clear hP hD hS
  intro hP hD hS
  have hPD := pd_as [zzO qt 3 [.int 0, .int 0, .int 0, .int 0, .int 1, .ref q_1, .ref q_2, .ref q_3, .ref q_4, .ref q_5, .null, .null, .null], _, _, _, _, _] hP hD rfl
  clear hP hD
  obtain ⟨hP, hD⟩ := hPD
  refine lv_aload_n hx hb (g_42 bX4_init rfl) rfl (lv_at hl 0 rfl) ?_
  refine lv_bipush (v := 8) hx hb dX4_init_50 (by decide +kernel) ?_
  refine newI hx hb hts m_t92 hN hP hD hS hA 8 (by decide +kernel) (by decide +kernel) (Nat.le_of_ble_eq_true rfl) (Nat.le_of_ble_eq_true rfl) (Nat.le_of_ble_eq_true rfl) (g_na10 bX4_init rfl) (fun q_6 H => ?_)
  clear hP hD hS
  intro hP hD hS
  have hPD := pd_as [_, _, _, _, _, _, zzI cy q_6 8 (fun _ => 0)] hP hD rfl
  clear hP hD
  obtain ⟨hP, hD⟩ := hPD
  refine W.widen (k := 6) (n := 48) (Nat.le_of_ble_eq_true rfl) (Nat.le_of_ble_eq_true rfl) ?_
  refine va_putF (D := G) (ci := 3) (v := .ref q_6) (ty := (.array .int)) (C := RX4) (T := TX4) (N := 13) hx hb hts iX_X4 tyX4 tyX4_ok nmX4 hown hK hP hD hS 0 rfl rfl 10 (by decide +kernel) (hts _ m_t60) (fun _ h9 => h9) rfl hin rfl (by decide +kernel) rfl rfl (Nat.le_of_ble_eq_true rfl) (g_181 (v := 31) bX4_init rfl) (fun H locs => ?_)
  clear hP hD hS
  intro hP hD hS
  have hPD := pd_as [zzO qt 3 [.int 0, .int 0, .int 0, .int 0, .int 1, .ref q_1, .ref q_2, .ref q_3, .ref q_4, .ref q_5, .ref q_6, .null, .null], _, _, _, _, _, _] hP hD rfl
  clear hP hD
  obtain ⟨hP, hD⟩ := hPD
  refine lv_aload_n hx hb (g_42 bX4_init rfl) rfl (lv_at hl 0 rfl) ?_
  refine lv_bipush (v := 8) hx hb dX4_init_58 (by decide +kernel) ?_
  refine newI hx hb hts m_t92 hN hP hD hS hA 8 (by decide +kernel) (by decide +kernel) (Nat.le_of_ble_eq_true rfl) (Nat.le_of_ble_eq_true rfl) (Nat.le_of_ble_eq_true rfl) (g_na10 bX4_init rfl) (fun q_7 H => ?_)
  clear hP hD hS
  intro hP hD hS
  have hPD := pd_as [_, _, _, _, _, _, _, zzI cy q_7 8 (fun _ => 0)] hP hD rfl
  clear hP hD
  obtain ⟨hP, hD⟩ := hPD
  refine W.widen (k := 7) (n := 56) (Nat.le_of_ble_eq_true rfl) (Nat.le_of_ble_eq_true rfl) ?_
  refine va_putF (D := G) (ci := 3) (v := .ref q_7) (ty := (.array .int)) (C := RX4) (T := TX4) (N := 13) hx hb hts iX_X4 tyX4 tyX4_ok nmX4 hown hK hP hD hS 0 rfl rfl 11 (by decide +kernel) (hts _ m_t62) (fun _ h9 => h9) rfl hin rfl (by decide +kernel) rfl rfl (Nat.le_of_ble_eq_true rfl) (g_181 (v := 34) bX4_init rfl) (fun H locs => ?_)
  clear hP hD hS
  intro hP hD hS
  have hPD := pd_as [zzO qt 3 [.int 0, .int 0, .int 0, .int 0, .int 1, .ref q_1, .ref q_2, .ref q_3, .ref q_4, .ref q_5, .ref q_6, .ref q_7, .null], _, _, _, _, _, _, _] hP hD rfl
  clear hP hD
  obtain ⟨hP, hD⟩ := hPD
  refine lv_aload_n hx hb (g_42 bX4_init rfl) rfl (lv_at hl 0 rfl) ?_
  refine lv_bipush (v := 64) hx hb dX4_init_66 (by decide +kernel) ?_
  refine newI hx hb hts m_t92 hN hP hD hS hA 64 (by decide +kernel) (by decide +kernel) (Nat.le_of_ble_eq_true rfl) (Nat.le_of_ble_eq_true rfl) (Nat.le_of_ble_eq_true rfl) (g_na10 bX4_init rfl) (fun q_8 H => ?_)
  clear hP hD hS
  intro hP hD hS
  have hPD := pd_as [_, _, _, _, _, _, _, _, zzI cy q_8 64 (fun _ => 0)] hP hD rfl
  clear hP hD
  obtain ⟨hP, hD⟩ := hPD
  refine W.widen (k := 8) (n := 120) (Nat.le_of_ble_eq_true rfl) (Nat.le_of_ble_eq_true rfl) ?_
  refine va_putF (D := G) (ci := 3) (v := .ref q_8) (ty := (.array .int)) (C := RX4) (T := TX4) (N := 13) hx hb hts iX_X4 tyX4 tyX4_ok nmX4 hown hK hP hD hS 0 rfl rfl 12 (by decide +kernel) (hts _ m_t64) (fun _ h9 => h9) rfl hin rfl (by decide +kernel) rfl rfl (Nat.le_of_ble_eq_true rfl) (g_181 (v := 37) bX4_init rfl) (fun H locs => ?_)
  clear hP hD hS
  intro hP hD hS
  have hPD := pd_as [zzO qt 3 [.int 0, .int 0, .int 0, .int 0, .int 1, .ref q_1, .ref q_2, .ref q_3, .ref q_4, .ref q_5, .ref q_6, .ref q_7, .ref q_8], _, _, _, _, _, _, _, _] hP hD rfl
  clear hP hD
  obtain ⟨hP, hD⟩ := hPD
  exact endVs [[true, true, true, true, true, true, true, true, true]] hx hb hr hlocks hP hD rfl (by decide +kernel) hS ⟨q_1, q_2, q_3, q_4, q_5, q_6, q_7, q_8, rfl⟩ (g_177 bX4_init rfl)
set_option maxHeartbeats 4000000 in
set_option maxRecDepth 100000 in
theorem k_X0_init (l : Launch) (G : va_G) (cy : Nat → ClassId) (sz : Nat) (qp : Nat)   : MW l yX0_init cX0_init 1 none 2 18 266 G cy [zzO qp 0 [.null, .null, .int 0, .int 0]] sz [.ref qp] (Wv G (fun u => ∃ (qu : Nat) (quw : Nat) (qun : Nat) (qug : Nat) (qua : Nat) (qur : Nat) (qum : Nat) (qut : Nat) (qus : Nat) (qv : Nat) (qvw : Nat) (qvn : Nat) (qvg : Nat) (qva : Nat) (qvr : Nat) (qvm : Nat) (qvt : Nat) (qvs : Nat), u = [zzO qp 0 [.ref qu, .ref qv, .int 0, .int 0], zzO qu 3 [.int 0, .int 0, .int 0, .int 0, .int 1, .ref quw, .ref qun, .ref qug, .ref qua, .ref qur, .ref qum, .ref qut, .ref qus], zzI cy quw 8 (fun _ => 0), zzI cy qun 8 (fun _ => 0), zzI cy qug 8 (fun _ => 0), zzI cy qua 8 (fun _ => 0), zzI cy qur 8 (fun _ => 0), zzI cy qum 8 (fun _ => 0), zzI cy qut 8 (fun _ => 0), zzI cy qus 64 (fun _ => 0), zzO qv 3 [.int 0, .int 0, .int 0, .int 0, .int 1, .ref qvw, .ref qvn, .ref qvg, .ref qva, .ref qvr, .ref qvm, .ref qvt, .ref qvs], zzI cy qvw 8 (fun _ => 0), zzI cy qvn 8 (fun _ => 0), zzI cy qvg 8 (fun _ => 0), zzI cy qva 8 (fun _ => 0), zzI cy qvr 8 (fun _ => 0), zzI cy qvm 8 (fun _ => 0), zzI cy qvt 8 (fun _ => 0), zzI cy qvs 64 (fun _ => 0)])) := by
  refine enW RX0 (by decide +kernel) rfl (Nat.le_of_ble_eq_true rfl) (fun p e s m below meth c ls A hx hb hml hown hts hr hlocks hP hN hl hin hD hA hS => ?_)
  have hin : meth.name = _ := hin
  have hK := hN.1
  replace hl : lv_has ls 1 [(0, .ref qp)] := hl
  refine lv_aload_n hx hb (g_42 bX0_init rfl) rfl (lv_at hl 0 rfl) ?_
  refine W.objInit hx hb hown (hts _ m_t98) (hts _ m_t21) (hts _ m_t22) rfl (by rw [hml]; exact hl.1) rfl dX0_init_1 (Nat.le_of_ble_eq_true rfl) (Nat.le_of_ble_eq_true rfl) ?_
  refine W.eq (g2 := F0 m 4 ls []) rfl ?_
  refine lv_aload_n hx hb (g_42 bX0_init rfl) rfl (lv_at hl 0 rfl) ?_
  refine va_new (ci := 3) (fs := [.int 0, .int 0, .int 0, .int 0, .int 0, .null, .null, .null, .null, .null, .null, .null, .null]) (C := RX4) (T := TX4) (N := 13) hx hb hts iX_X4 tyX4 tyX4_ok hown (hts _ m_t99) (hts _ m_t24) (hts _ m_t2) hK hP hD hS hA rfl df_X4 (Nat.le_of_ble_eq_true rfl) (Nat.le_of_ble_eq_true rfl) (g_187 (v := 9) bX0_init rfl) (fun q_1 H => ?_)
  clear hP hD hS
  intro hP hD hS
  have hPD := pd_as [_, zzO q_1 3 [.int 0, .int 0, .int 0, .int 0, .int 0, .null, .null, .null, .null, .null, .null, .null, .null]] hP hD rfl
  clear hP hD
  obtain ⟨hP, hD⟩ := hPD
  refine W.widen (k := 1) (n := 13) (Nat.le_of_ble_eq_true rfl) (Nat.le_of_ble_eq_true rfl) ?_
  refine lv_dup hx hb (g_89 bX0_init rfl) rfl ?_
  refine cINv (As := []) (rest := [.ref q_1, .ref qp]) (b := q_1) ⟨hx, hb, hml, hown, hts⟩ (k_X4_init l G cy (H).size q_1) L_X0_11 hN hP hD hS hA [1] [true, false] rfl (by decide +kernel) rfl rfl ⟨Nat.le_of_ble_eq_true rfl, Nat.le_of_ble_eq_true rfl⟩ hl.1 (Nat.le_of_ble_eq_true rfl) (g_183 (v := 11) bX0_init rfl) ⟨Nat.le_of_ble_eq_true rfl, Nat.le_of_ble_eq_true rfl⟩ (fun u_4 H locs h_3 => ?_)
  clear hP hD hS
  intro hP hD hS
  obtain ⟨qtw_5, qtn_6, qtg_7, qta_8, qtr_9, qtm_10, qtt_11, qts_12, hu9⟩ := h_3
  have hPD := pd_eq [_, zzO q_1 3 [.int 0, .int 0, .int 0, .int 0, .int 1, .ref qtw_5, .ref qtn_6, .ref qtg_7, .ref qta_8, .ref qtr_9, .ref qtm_10, .ref qtt_11, .ref qts_12], zzI cy qtw_5 8 (fun _ => 0), zzI cy qtn_6 8 (fun _ => 0), zzI cy qtg_7 8 (fun _ => 0), zzI cy qta_8 8 (fun _ => 0), zzI cy qtr_9 8 (fun _ => 0), zzI cy qtm_10 8 (fun _ => 0), zzI cy qtt_11 8 (fun _ => 0), zzI cy qts_12 64 (fun _ => 0)] hP hD hu9 rfl
  clear hP hD hu9
  obtain ⟨hP, hD⟩ := hPD
  refine W.widen (k := 9) (n := 133) (Nat.le_of_ble_eq_true rfl) (Nat.le_of_ble_eq_true rfl) ?_
  refine va_putF (D := G) (ci := 0) (v := .ref q_1) (ty := (.object "EachBookOnce$Town")) (C := RX0) (T := TX0) (N := 4) hx hb hts iX_X0 tyX0 tyX0_ok nmX0 hown hK hP hD hS 0 rfl rfl 0 (by decide +kernel) (hts _ m_t101) (fun _ h9 => h9) rfl hin rfl (by decide +kernel) rfl rfl (Nat.le_of_ble_eq_true rfl) (g_181 (v := 12) bX0_init rfl) (fun H locs => ?_)
  clear hP hD hS
  intro hP hD hS
  have hPD := pd_as [zzO qp 0 [.ref q_1, .null, .int 0, .int 0], _, _, _, _, _, _, _, _, _] hP hD rfl
  clear hP hD
  obtain ⟨hP, hD⟩ := hPD
  refine lv_aload_n hx hb (g_42 bX0_init rfl) rfl (lv_at hl 0 rfl) ?_
  refine va_new (ci := 3) (fs := [.int 0, .int 0, .int 0, .int 0, .int 0, .null, .null, .null, .null, .null, .null, .null, .null]) (C := RX4) (T := TX4) (N := 13) hx hb hts iX_X4 tyX4 tyX4_ok hown (hts _ m_t99) (hts _ m_t24) (hts _ m_t2) hK hP hD hS hA rfl df_X4 (Nat.le_of_ble_eq_true rfl) (Nat.le_of_ble_eq_true rfl) (g_187 (v := 9) bX0_init rfl) (fun q_13 H => ?_)
  clear hP hD hS
  intro hP hD hS
  have hPD := pd_as [_, _, _, _, _, _, _, _, _, _, zzO q_13 3 [.int 0, .int 0, .int 0, .int 0, .int 0, .null, .null, .null, .null, .null, .null, .null, .null]] hP hD rfl
  clear hP hD
  obtain ⟨hP, hD⟩ := hPD
  refine W.widen (k := 10) (n := 146) (Nat.le_of_ble_eq_true rfl) (Nat.le_of_ble_eq_true rfl) ?_
  refine lv_dup hx hb (g_89 bX0_init rfl) rfl ?_
  refine cINv (As := []) (rest := [.ref q_13, .ref qp]) (b := q_13) ⟨hx, hb, hml, hown, hts⟩ (k_X4_init l G cy (H).size q_13) L_X0_11 hN hP hD hS hA [10] [true, true, true, true, true, true, true, true, true, true, false] rfl (by decide +kernel) rfl rfl ⟨Nat.le_of_ble_eq_true rfl, Nat.le_of_ble_eq_true rfl⟩ hl.1 (Nat.le_of_ble_eq_true rfl) (g_183 (v := 11) bX0_init rfl) ⟨Nat.le_of_ble_eq_true rfl, Nat.le_of_ble_eq_true rfl⟩ (fun u_16 H locs h_15 => ?_)
  clear hP hD hS
  intro hP hD hS
  obtain ⟨qtw_17, qtn_18, qtg_19, qta_20, qtr_21, qtm_22, qtt_23, qts_24, hu9⟩ := h_15
  have hPD := pd_eq [_, _, _, _, _, _, _, _, _, _, zzO q_13 3 [.int 0, .int 0, .int 0, .int 0, .int 1, .ref qtw_17, .ref qtn_18, .ref qtg_19, .ref qta_20, .ref qtr_21, .ref qtm_22, .ref qtt_23, .ref qts_24], zzI cy qtw_17 8 (fun _ => 0), zzI cy qtn_18 8 (fun _ => 0), zzI cy qtg_19 8 (fun _ => 0), zzI cy qta_20 8 (fun _ => 0), zzI cy qtr_21 8 (fun _ => 0), zzI cy qtm_22 8 (fun _ => 0), zzI cy qtt_23 8 (fun _ => 0), zzI cy qts_24 64 (fun _ => 0)] hP hD hu9 rfl
  clear hP hD hu9
  obtain ⟨hP, hD⟩ := hPD
  refine W.widen (k := 18) (n := 266) (Nat.le_of_ble_eq_true rfl) (Nat.le_of_ble_eq_true rfl) ?_
  refine va_putF (D := G) (ci := 0) (v := .ref q_13) (ty := (.object "EachBookOnce$Town")) (C := RX0) (T := TX0) (N := 4) hx hb hts iX_X0 tyX0 tyX0_ok nmX0 hown hK hP hD hS 0 rfl rfl 1 (by decide +kernel) (hts _ m_t103) (fun _ h9 => h9) rfl hin rfl (by decide +kernel) rfl rfl (Nat.le_of_ble_eq_true rfl) (g_181 (v := 18) bX0_init rfl) (fun H locs => ?_)
  clear hP hD hS
  intro hP hD hS
  have hPD := pd_as [zzO qp 0 [.ref q_1, .ref q_13, .int 0, .int 0], _, _, _, _, _, _, _, _, _, _, _, _, _, _, _, _, _, _] hP hD rfl
  clear hP hD
  obtain ⟨hP, hD⟩ := hPD
  exact endVs [[true, true, true, true, true, true, true, true, true, true, true, true, true, true, true, true, true, true, true]] hx hb hr hlocks hP hD rfl (by decide +kernel) hS ⟨q_1, qtw_5, qtn_6, qtg_7, qta_8, qtr_9, qtm_10, qtt_11, qts_12, q_13, qtw_17, qtn_18, qtg_19, qta_20, qtr_21, qtm_22, qtt_23, qts_24, rfl⟩ (g_177 bX0_init rfl)
set_option maxHeartbeats 4000000 in
set_option maxRecDepth 100000 in
theorem k_X2_init (l : Launch) (G : va_G) (cy : Nat → ClassId) (sz : Nat) (qs : Nat)   : MW l yX2_init cX2_init 2 none 1 4 344 G cy [zzO qs 1 [.null, .null, .null, .null]] sz [.ref qs] (Wv G (fun u => ∃ (qsh : Nat) (qss : Nat) (qsa : Nat) (qse : Nat) (fH : Nat → Int32), u = [zzO qs 1 [.ref qsh, .ref qss, .ref qsa, .ref qse], zzI cy qsh 8 fH, zzI cy qss 8 (fun _ => 0), zzI cy qsa 8 (fun _ => 0), zzJ cy qse 320 (fun _ => 0)] ∧ (∀ i, i < 8 → fH i = -1))) := by
  refine enW RX2 (by decide +kernel) rfl (Nat.le_of_ble_eq_true rfl) (fun p e s m below meth c ls A hx hb hml hown hts hr hlocks hP hN hl hin hD hA hS => ?_)
  have hin : meth.name = _ := hin
  have hK := hN.1
  replace hl : lv_has ls 2 [(0, .ref qs)] := hl
  refine lv_aload_n hx hb (g_42 bX2_init rfl) rfl (lv_at hl 0 rfl) ?_
  refine W.objInit hx hb hown (hts _ m_t122) (hts _ m_t21) (hts _ m_t22) rfl (by rw [hml]; exact hl.1) rfl dX2_init_1 (Nat.le_of_ble_eq_true rfl) (Nat.le_of_ble_eq_true rfl) ?_
  refine W.eq (g2 := F0 m 4 ls []) rfl ?_
  refine lv_aload_n hx hb (g_42 bX2_init rfl) rfl (lv_at hl 0 rfl) ?_
  refine lv_bipush (v := 8) hx hb dX2_init_5 (by decide +kernel) ?_
  refine newI hx hb hts m_t92 hN hP hD hS hA 8 (by decide +kernel) (by decide +kernel) (Nat.le_of_ble_eq_true rfl) (Nat.le_of_ble_eq_true rfl) (Nat.le_of_ble_eq_true rfl) (g_na10 bX2_init rfl) (fun q_1 H => ?_)
  clear hP hD hS
  intro hP hD hS
  have hPD := pd_as [_, zzI cy q_1 8 (fun _ => 0)] hP hD rfl
  clear hP hD
  obtain ⟨hP, hD⟩ := hPD
  refine W.widen (k := 1) (n := 8) (Nat.le_of_ble_eq_true rfl) (Nat.le_of_ble_eq_true rfl) ?_
  refine va_putF (D := G) (ci := 1) (v := .ref q_1) (ty := (.array .int)) (C := RX2) (T := TX2) (N := 4) hx hb hts iX_X2 tyX2 tyX2_ok nmX2 hown hK hP hD hS 0 rfl rfl 0 (by decide +kernel) (hts _ m_t123) (fun _ h9 => h9) rfl hin rfl (by decide +kernel) rfl rfl (Nat.le_of_ble_eq_true rfl) (g_181 (v := 9) bX2_init rfl) (fun H locs => ?_)
  clear hP hD hS
  intro hP hD hS
  have hPD := pd_as [zzO qs 1 [.ref q_1, .null, .null, .null], _] hP hD rfl
  clear hP hD
  obtain ⟨hP, hD⟩ := hPD
  refine lv_aload_n hx hb (g_42 bX2_init rfl) rfl (lv_at hl 0 rfl) ?_
  refine lv_bipush (v := 8) hx hb dX2_init_13 (by decide +kernel) ?_
  refine newI hx hb hts m_t92 hN hP hD hS hA 8 (by decide +kernel) (by decide +kernel) (Nat.le_of_ble_eq_true rfl) (Nat.le_of_ble_eq_true rfl) (Nat.le_of_ble_eq_true rfl) (g_na10 bX2_init rfl) (fun q_2 H => ?_)
  clear hP hD hS
  intro hP hD hS
  have hPD := pd_as [_, _, zzI cy q_2 8 (fun _ => 0)] hP hD rfl
  clear hP hD
  obtain ⟨hP, hD⟩ := hPD
  refine W.widen (k := 2) (n := 16) (Nat.le_of_ble_eq_true rfl) (Nat.le_of_ble_eq_true rfl) ?_
  refine va_putF (D := G) (ci := 1) (v := .ref q_2) (ty := (.array .int)) (C := RX2) (T := TX2) (N := 4) hx hb hts iX_X2 tyX2 tyX2_ok nmX2 hown hK hP hD hS 0 rfl rfl 1 (by decide +kernel) (hts _ m_t125) (fun _ h9 => h9) rfl hin rfl (by decide +kernel) rfl rfl (Nat.le_of_ble_eq_true rfl) (g_181 (v := 15) bX2_init rfl) (fun H locs => ?_)
  clear hP hD hS
  intro hP hD hS
  have hPD := pd_as [zzO qs 1 [.ref q_1, .ref q_2, .null, .null], _, _] hP hD rfl
  clear hP hD
  obtain ⟨hP, hD⟩ := hPD
  refine lv_aload_n hx hb (g_42 bX2_init rfl) rfl (lv_at hl 0 rfl) ?_
  refine lv_bipush (v := 8) hx hb dX2_init_21 (by decide +kernel) ?_
  refine newI hx hb hts m_t92 hN hP hD hS hA 8 (by decide +kernel) (by decide +kernel) (Nat.le_of_ble_eq_true rfl) (Nat.le_of_ble_eq_true rfl) (Nat.le_of_ble_eq_true rfl) (g_na10 bX2_init rfl) (fun q_3 H => ?_)
  clear hP hD hS
  intro hP hD hS
  have hPD := pd_as [_, _, _, zzI cy q_3 8 (fun _ => 0)] hP hD rfl
  clear hP hD
  obtain ⟨hP, hD⟩ := hPD
  refine W.widen (k := 3) (n := 24) (Nat.le_of_ble_eq_true rfl) (Nat.le_of_ble_eq_true rfl) ?_
  refine va_putF (D := G) (ci := 1) (v := .ref q_3) (ty := (.array .int)) (C := RX2) (T := TX2) (N := 4) hx hb hts iX_X2 tyX2 tyX2_ok nmX2 hown hK hP hD hS 0 rfl rfl 2 (by decide +kernel) (hts _ m_t127) (fun _ h9 => h9) rfl hin rfl (by decide +kernel) rfl rfl (Nat.le_of_ble_eq_true rfl) (g_181 (v := 18) bX2_init rfl) (fun H locs => ?_)
  clear hP hD hS
  intro hP hD hS
  have hPD := pd_as [zzO qs 1 [.ref q_1, .ref q_2, .ref q_3, .null], _, _, _] hP hD rfl
  clear hP hD
  obtain ⟨hP, hD⟩ := hPD
  refine lv_aload_n hx hb (g_42 bX2_init rfl) rfl (lv_at hl 0 rfl) ?_
  refine lv_sipush (v := 320) hx hb dX2_init_29 (by decide +kernel) ?_
  refine newJ hx hb hts m_t139 hN hP hD hS hA 320 (by decide +kernel) (by decide +kernel) (Nat.le_of_ble_eq_true rfl) (Nat.le_of_ble_eq_true rfl) (Nat.le_of_ble_eq_true rfl) (g_na11 bX2_init rfl) (fun q_4 H => ?_)
  clear hP hD hS
  intro hP hD hS
  have hPD := pd_as [_, _, _, _, zzJ cy q_4 320 (fun _ => 0)] hP hD rfl
  clear hP hD
  obtain ⟨hP, hD⟩ := hPD
  refine W.widen (k := 4) (n := 344) (Nat.le_of_ble_eq_true rfl) (Nat.le_of_ble_eq_true rfl) ?_
  refine va_putF (D := G) (ci := 1) (v := .ref q_4) (ty := (.array .long)) (C := RX2) (T := TX2) (N := 4) hx hb hts iX_X2 tyX2 tyX2_ok nmX2 hown hK hP hD hS 0 rfl rfl 3 (by decide +kernel) (hts _ m_t129) (fun _ h9 => h9) rfl hin rfl (by decide +kernel) rfl rfl (Nat.le_of_ble_eq_true rfl) (g_181 (v := 21) bX2_init rfl) (fun H locs => ?_)
  clear hP hD hS
  intro hP hD hS
  have hPD := pd_as [zzO qs 1 [.ref q_1, .ref q_2, .ref q_3, .ref q_4], _, _, _, _] hP hD rfl
  clear hP hD
  obtain ⟨hP, hD⟩ := hPD
  refine lv_iconst (v := 0) hx hb (g_3 bX2_init rfl) (by decide +kernel) ?_
  refine lv_istore_n (lv' := [(1, .int 0), (0, .ref qs)]) hx hb (g_60 bX2_init rfl) rfl hl (by decide +kernel) rfl (fun ls => ?_)
  clear hl
  intro hl
  refine lv_iload_n hx hb (g_27 bX2_init rfl) rfl (lv_at hl 0 rfl) ?_
  refine lv_bipush (v := 8) hx hb dX2_init_40 (by decide +kernel) ?_
  refine lv_icmp_ge (tgt := 58) hx hb dX2_init_42 (by decide +kernel) (fun h9 => absurd h9 (by decide +kernel)) (fun _ => ?_)
  refine lv_aload_n hx hb (g_42 bX2_init rfl) rfl (lv_at hl 1 rfl) ?_
  refine va_get (D := G) (ci := 1) (v := .ref q_1) (C := RX2) (T := TX2) (N := 4) hx hb hts iX_X2 hown hK hP 0 rfl rfl 0 (by decide +kernel) (hts _ m_t123) (fun _ h9 => h9) rfl (g_180 (v := 9) bX2_init rfl) ?_
  refine lv_iload_n hx hb (g_27 bX2_init rfl) rfl (lv_at hl 0 rfl) ?_
  refine lv_iconst (v := (-1)) hx hb (g_2 bX2_init rfl) (by decide +kernel) ?_
  refine va_iast hx hb hK hP hD hS 1 0 rfl rfl (in_c rfl) (g_79 bX2_init rfl) (fun H locs => ?_)
  clear hP hD hS
  intro hP hD hS
  have hPD := pd_as [_, zzI cy q_1 8 (upd (fun _ => 0) 0 (-1)), _, _, _] hP hD rfl
  clear hP hD
  obtain ⟨hP, hD⟩ := hPD
  refine lv_iinc (v := 1) (lv' := [(1, .int 1), (0, .ref qs)]) hx hb dX2_init_52 hl (k := 0) rfl (by decide +kernel) (by decide +kernel) rfl (fun ls => ?_)
  clear hl
  intro hl
  refine lv_goto (tgt := 39) hx hb dX2_init_55 (by decide +kernel) ?_
  refine lv_iload_n hx hb (g_27 bX2_init rfl) rfl (lv_at hl 0 rfl) ?_
  refine lv_bipush (v := 8) hx hb dX2_init_40 (by decide +kernel) ?_
  refine lv_icmp_ge (tgt := 58) hx hb dX2_init_42 (by decide +kernel) (fun h9 => absurd h9 (by decide +kernel)) (fun _ => ?_)
  refine lv_aload_n hx hb (g_42 bX2_init rfl) rfl (lv_at hl 1 rfl) ?_
  refine va_get (D := G) (ci := 1) (v := .ref q_1) (C := RX2) (T := TX2) (N := 4) hx hb hts iX_X2 hown hK hP 0 rfl rfl 0 (by decide +kernel) (hts _ m_t123) (fun _ h9 => h9) rfl (g_180 (v := 9) bX2_init rfl) ?_
  refine lv_iload_n hx hb (g_27 bX2_init rfl) rfl (lv_at hl 0 rfl) ?_
  refine lv_iconst (v := (-1)) hx hb (g_2 bX2_init rfl) (by decide +kernel) ?_
  refine va_iast hx hb hK hP hD hS 1 0 rfl rfl (in_c rfl) (g_79 bX2_init rfl) (fun H locs => ?_)
  clear hP hD hS
  intro hP hD hS
  have hPD := pd_as [_, zzI cy q_1 8 (upd (upd (fun _ => 0) 0 (-1)) 1 (-1)), _, _, _] hP hD rfl
  clear hP hD
  obtain ⟨hP, hD⟩ := hPD
  refine lv_iinc (v := 2) (lv' := [(1, .int 2), (0, .ref qs)]) hx hb dX2_init_52 hl (k := 0) rfl (by decide +kernel) (by decide +kernel) rfl (fun ls => ?_)
  clear hl
  intro hl
  refine lv_goto (tgt := 39) hx hb dX2_init_55 (by decide +kernel) ?_
  refine lv_iload_n hx hb (g_27 bX2_init rfl) rfl (lv_at hl 0 rfl) ?_
  refine lv_bipush (v := 8) hx hb dX2_init_40 (by decide +kernel) ?_
  refine lv_icmp_ge (tgt := 58) hx hb dX2_init_42 (by decide +kernel) (fun h9 => absurd h9 (by decide +kernel)) (fun _ => ?_)
  refine lv_aload_n hx hb (g_42 bX2_init rfl) rfl (lv_at hl 1 rfl) ?_
  refine va_get (D := G) (ci := 1) (v := .ref q_1) (C := RX2) (T := TX2) (N := 4) hx hb hts iX_X2 hown hK hP 0 rfl rfl 0 (by decide +kernel) (hts _ m_t123) (fun _ h9 => h9) rfl (g_180 (v := 9) bX2_init rfl) ?_
  refine lv_iload_n hx hb (g_27 bX2_init rfl) rfl (lv_at hl 0 rfl) ?_
  refine lv_iconst (v := (-1)) hx hb (g_2 bX2_init rfl) (by decide +kernel) ?_
  refine va_iast hx hb hK hP hD hS 1 0 rfl rfl (in_c rfl) (g_79 bX2_init rfl) (fun H locs => ?_)
  clear hP hD hS
  intro hP hD hS
  have hPD := pd_as [_, zzI cy q_1 8 (upd (upd (upd (fun _ => 0) 0 (-1)) 1 (-1)) 2 (-1)), _, _, _] hP hD rfl
  clear hP hD
  obtain ⟨hP, hD⟩ := hPD
  refine lv_iinc (v := 3) (lv' := [(1, .int 3), (0, .ref qs)]) hx hb dX2_init_52 hl (k := 0) rfl (by decide +kernel) (by decide +kernel) rfl (fun ls => ?_)
  clear hl
  intro hl
  refine lv_goto (tgt := 39) hx hb dX2_init_55 (by decide +kernel) ?_
  refine lv_iload_n hx hb (g_27 bX2_init rfl) rfl (lv_at hl 0 rfl) ?_
  refine lv_bipush (v := 8) hx hb dX2_init_40 (by decide +kernel) ?_
  refine lv_icmp_ge (tgt := 58) hx hb dX2_init_42 (by decide +kernel) (fun h9 => absurd h9 (by decide +kernel)) (fun _ => ?_)
  refine lv_aload_n hx hb (g_42 bX2_init rfl) rfl (lv_at hl 1 rfl) ?_
  refine va_get (D := G) (ci := 1) (v := .ref q_1) (C := RX2) (T := TX2) (N := 4) hx hb hts iX_X2 hown hK hP 0 rfl rfl 0 (by decide +kernel) (hts _ m_t123) (fun _ h9 => h9) rfl (g_180 (v := 9) bX2_init rfl) ?_
  refine lv_iload_n hx hb (g_27 bX2_init rfl) rfl (lv_at hl 0 rfl) ?_
  refine lv_iconst (v := (-1)) hx hb (g_2 bX2_init rfl) (by decide +kernel) ?_
  refine va_iast hx hb hK hP hD hS 1 0 rfl rfl (in_c rfl) (g_79 bX2_init rfl) (fun H locs => ?_)
  clear hP hD hS
  intro hP hD hS
  have hPD := pd_as [_, zzI cy q_1 8 (upd (upd (upd (upd (fun _ => 0) 0 (-1)) 1 (-1)) 2 (-1)) 3 (-1)), _, _, _] hP hD rfl
  clear hP hD
  obtain ⟨hP, hD⟩ := hPD
  refine lv_iinc (v := 4) (lv' := [(1, .int 4), (0, .ref qs)]) hx hb dX2_init_52 hl (k := 0) rfl (by decide +kernel) (by decide +kernel) rfl (fun ls => ?_)
  clear hl
  intro hl
  refine lv_goto (tgt := 39) hx hb dX2_init_55 (by decide +kernel) ?_
  refine lv_iload_n hx hb (g_27 bX2_init rfl) rfl (lv_at hl 0 rfl) ?_
  refine lv_bipush (v := 8) hx hb dX2_init_40 (by decide +kernel) ?_
  refine lv_icmp_ge (tgt := 58) hx hb dX2_init_42 (by decide +kernel) (fun h9 => absurd h9 (by decide +kernel)) (fun _ => ?_)
  refine lv_aload_n hx hb (g_42 bX2_init rfl) rfl (lv_at hl 1 rfl) ?_
  refine va_get (D := G) (ci := 1) (v := .ref q_1) (C := RX2) (T := TX2) (N := 4) hx hb hts iX_X2 hown hK hP 0 rfl rfl 0 (by decide +kernel) (hts _ m_t123) (fun _ h9 => h9) rfl (g_180 (v := 9) bX2_init rfl) ?_
  refine lv_iload_n hx hb (g_27 bX2_init rfl) rfl (lv_at hl 0 rfl) ?_
  refine lv_iconst (v := (-1)) hx hb (g_2 bX2_init rfl) (by decide +kernel) ?_
  refine va_iast hx hb hK hP hD hS 1 0 rfl rfl (in_c rfl) (g_79 bX2_init rfl) (fun H locs => ?_)
  clear hP hD hS
  intro hP hD hS
  have hPD := pd_as [_, zzI cy q_1 8 (upd (upd (upd (upd (upd (fun _ => 0) 0 (-1)) 1 (-1)) 2 (-1)) 3 (-1)) 4 (-1)), _, _, _] hP hD rfl
  clear hP hD
  obtain ⟨hP, hD⟩ := hPD
  refine lv_iinc (v := 5) (lv' := [(1, .int 5), (0, .ref qs)]) hx hb dX2_init_52 hl (k := 0) rfl (by decide +kernel) (by decide +kernel) rfl (fun ls => ?_)
  clear hl
  intro hl
  refine lv_goto (tgt := 39) hx hb dX2_init_55 (by decide +kernel) ?_
  refine lv_iload_n hx hb (g_27 bX2_init rfl) rfl (lv_at hl 0 rfl) ?_
  refine lv_bipush (v := 8) hx hb dX2_init_40 (by decide +kernel) ?_
  refine lv_icmp_ge (tgt := 58) hx hb dX2_init_42 (by decide +kernel) (fun h9 => absurd h9 (by decide +kernel)) (fun _ => ?_)
  refine lv_aload_n hx hb (g_42 bX2_init rfl) rfl (lv_at hl 1 rfl) ?_
  refine va_get (D := G) (ci := 1) (v := .ref q_1) (C := RX2) (T := TX2) (N := 4) hx hb hts iX_X2 hown hK hP 0 rfl rfl 0 (by decide +kernel) (hts _ m_t123) (fun _ h9 => h9) rfl (g_180 (v := 9) bX2_init rfl) ?_
  refine lv_iload_n hx hb (g_27 bX2_init rfl) rfl (lv_at hl 0 rfl) ?_
  refine lv_iconst (v := (-1)) hx hb (g_2 bX2_init rfl) (by decide +kernel) ?_
  refine va_iast hx hb hK hP hD hS 1 0 rfl rfl (in_c rfl) (g_79 bX2_init rfl) (fun H locs => ?_)
  clear hP hD hS
  intro hP hD hS
  have hPD := pd_as [_, zzI cy q_1 8 (upd (upd (upd (upd (upd (upd (fun _ => 0) 0 (-1)) 1 (-1)) 2 (-1)) 3 (-1)) 4 (-1)) 5 (-1)), _, _, _] hP hD rfl
  clear hP hD
  obtain ⟨hP, hD⟩ := hPD
  refine lv_iinc (v := 6) (lv' := [(1, .int 6), (0, .ref qs)]) hx hb dX2_init_52 hl (k := 0) rfl (by decide +kernel) (by decide +kernel) rfl (fun ls => ?_)
  clear hl
  intro hl
  refine lv_goto (tgt := 39) hx hb dX2_init_55 (by decide +kernel) ?_
  refine lv_iload_n hx hb (g_27 bX2_init rfl) rfl (lv_at hl 0 rfl) ?_
  refine lv_bipush (v := 8) hx hb dX2_init_40 (by decide +kernel) ?_
  refine lv_icmp_ge (tgt := 58) hx hb dX2_init_42 (by decide +kernel) (fun h9 => absurd h9 (by decide +kernel)) (fun _ => ?_)
  refine lv_aload_n hx hb (g_42 bX2_init rfl) rfl (lv_at hl 1 rfl) ?_
  refine va_get (D := G) (ci := 1) (v := .ref q_1) (C := RX2) (T := TX2) (N := 4) hx hb hts iX_X2 hown hK hP 0 rfl rfl 0 (by decide +kernel) (hts _ m_t123) (fun _ h9 => h9) rfl (g_180 (v := 9) bX2_init rfl) ?_
  refine lv_iload_n hx hb (g_27 bX2_init rfl) rfl (lv_at hl 0 rfl) ?_
  refine lv_iconst (v := (-1)) hx hb (g_2 bX2_init rfl) (by decide +kernel) ?_
  refine va_iast hx hb hK hP hD hS 1 0 rfl rfl (in_c rfl) (g_79 bX2_init rfl) (fun H locs => ?_)
  clear hP hD hS
  intro hP hD hS
  have hPD := pd_as [_, zzI cy q_1 8 (upd (upd (upd (upd (upd (upd (upd (fun _ => 0) 0 (-1)) 1 (-1)) 2 (-1)) 3 (-1)) 4 (-1)) 5 (-1)) 6 (-1)), _, _, _] hP hD rfl
  clear hP hD
  obtain ⟨hP, hD⟩ := hPD
  refine lv_iinc (v := 7) (lv' := [(1, .int 7), (0, .ref qs)]) hx hb dX2_init_52 hl (k := 0) rfl (by decide +kernel) (by decide +kernel) rfl (fun ls => ?_)
  clear hl
  intro hl
  refine lv_goto (tgt := 39) hx hb dX2_init_55 (by decide +kernel) ?_
  refine lv_iload_n hx hb (g_27 bX2_init rfl) rfl (lv_at hl 0 rfl) ?_
  refine lv_bipush (v := 8) hx hb dX2_init_40 (by decide +kernel) ?_
  refine lv_icmp_ge (tgt := 58) hx hb dX2_init_42 (by decide +kernel) (fun h9 => absurd h9 (by decide +kernel)) (fun _ => ?_)
  refine lv_aload_n hx hb (g_42 bX2_init rfl) rfl (lv_at hl 1 rfl) ?_
  refine va_get (D := G) (ci := 1) (v := .ref q_1) (C := RX2) (T := TX2) (N := 4) hx hb hts iX_X2 hown hK hP 0 rfl rfl 0 (by decide +kernel) (hts _ m_t123) (fun _ h9 => h9) rfl (g_180 (v := 9) bX2_init rfl) ?_
  refine lv_iload_n hx hb (g_27 bX2_init rfl) rfl (lv_at hl 0 rfl) ?_
  refine lv_iconst (v := (-1)) hx hb (g_2 bX2_init rfl) (by decide +kernel) ?_
  refine va_iast hx hb hK hP hD hS 1 0 rfl rfl (in_c rfl) (g_79 bX2_init rfl) (fun H locs => ?_)
  clear hP hD hS
  intro hP hD hS
  have hPD := pd_as [_, zzI cy q_1 8 (upd (upd (upd (upd (upd (upd (upd (upd (fun _ => 0) 0 (-1)) 1 (-1)) 2 (-1)) 3 (-1)) 4 (-1)) 5 (-1)) 6 (-1)) 7 (-1)), _, _, _] hP hD rfl
  clear hP hD
  obtain ⟨hP, hD⟩ := hPD
  refine lv_iinc (v := 8) (lv' := [(1, .int 8), (0, .ref qs)]) hx hb dX2_init_52 hl (k := 0) rfl (by decide +kernel) (by decide +kernel) rfl (fun ls => ?_)
  clear hl
  intro hl
  refine lv_goto (tgt := 39) hx hb dX2_init_55 (by decide +kernel) ?_
  refine lv_iload_n hx hb (g_27 bX2_init rfl) rfl (lv_at hl 0 rfl) ?_
  refine lv_bipush (v := 8) hx hb dX2_init_40 (by decide +kernel) ?_
  refine lv_icmp_ge (tgt := 58) hx hb dX2_init_42 (by decide +kernel) (fun _ => ?_) (fun h9 => absurd (by decide +kernel) h9)
  exact endV (u := [zzO qs 1 [.ref q_1, .ref q_2, .ref q_3, .ref q_4], zzI cy q_1 8 (upd (upd (upd (upd (upd (upd (upd (upd (fun _ => 0) 0 (-1)) 1 (-1)) 2 (-1)) 3 (-1)) 4 (-1)) 5 (-1)) 6 (-1)) 7 (-1)), zzI cy q_2 8 (fun _ => 0), zzI cy q_3 8 (fun _ => 0), zzJ cy q_4 320 (fun _ => 0)]) hx hb hr hlocks (pSb hP [[true, true, true, true, true]] rfl rfl) (dSb hD [[true, true, true, true, true]] (by decide +kernel) rfl rfl) hS ⟨q_1, q_2, q_3, q_4, upd (upd (upd (upd (upd (upd (upd (upd (fun _ => 0) 0 (-1)) 1 (-1)) 2 (-1)) 3 (-1)) 4 (-1)) 5 (-1)) 6 (-1)) 7 (-1), rfl, fun i hi => by match i, hi with | 0, _ => rfl | 1, _ => rfl | 2, _ => rfl | 3, _ => rfl | 4, _ => rfl | 5, _ => rfl | 6, _ => rfl | 7, _ => rfl | k + 8, h => exact absurd h (by omega)⟩ (g_177 bX2_init rfl)
set_option maxHeartbeats 4000000 in
set_option maxRecDepth 100000 in
theorem k_X3_init (l : Launch) (G : va_G) (cy : Nat → ClassId) (sz : Nat) (qa : Nat)   : MW l yX3_init cX3_init 1 none 2 10 383 G cy [zzO qa 2 [.null, .int 0, .int 0, .int 0, .int 0, .int 0, .null]] sz [.ref qa] (Wv G (fun u => ∃ (qab : Nat) (qd : Nat) (qdw : Nat) (qdn : Nat) (qdg : Nat) (qda : Nat) (qdr : Nat) (qdm : Nat) (qdt : Nat) (qds : Nat), u = [zzO qa 2 [.ref qab, .int 0, .int 0, .int 0, .int 0, .int 0, .ref qd], zzB cy qab 250 (fun _ => 0), zzO qd 3 [.int 0, .int 0, .int 0, .int 0, .int 1, .ref qdw, .ref qdn, .ref qdg, .ref qda, .ref qdr, .ref qdm, .ref qdt, .ref qds], zzI cy qdw 8 (fun _ => 0), zzI cy qdn 8 (fun _ => 0), zzI cy qdg 8 (fun _ => 0), zzI cy qda 8 (fun _ => 0), zzI cy qdr 8 (fun _ => 0), zzI cy qdm 8 (fun _ => 0), zzI cy qdt 8 (fun _ => 0), zzI cy qds 64 (fun _ => 0)])) := by
  refine enW RX3 (by decide +kernel) rfl (Nat.le_of_ble_eq_true rfl) (fun p e s m below meth c ls A hx hb hml hown hts hr hlocks hP hN hl hin hD hA hS => ?_)
  have hin : meth.name = _ := hin
  have hK := hN.1
  replace hl : lv_has ls 1 [(0, .ref qa)] := hl
  refine lv_aload_n hx hb (g_42 bX3_init rfl) rfl (lv_at hl 0 rfl) ?_
  refine W.objInit hx hb hown (hts _ m_t145) (hts _ m_t21) (hts _ m_t22) rfl (by rw [hml]; exact hl.1) rfl dX3_init_1 (Nat.le_of_ble_eq_true rfl) (Nat.le_of_ble_eq_true rfl) ?_
  refine W.eq (g2 := F0 m 4 ls []) rfl ?_
  refine lv_aload_n hx hb (g_42 bX3_init rfl) rfl (lv_at hl 0 rfl) ?_
  refine lv_sipush (v := 250) hx hb dX3_init_5 (by decide +kernel) ?_
  refine newB hx hb hts m_t173 hN hP hD hS hA 250 (by decide +kernel) (by decide +kernel) (Nat.le_of_ble_eq_true rfl) (Nat.le_of_ble_eq_true rfl) (Nat.le_of_ble_eq_true rfl) (g_na8 bX3_init rfl) (fun q_1 H => ?_)
  clear hP hD hS
  intro hP hD hS
  have hPD := pd_as [_, zzB cy q_1 250 (fun _ => 0)] hP hD rfl
  clear hP hD
  obtain ⟨hP, hD⟩ := hPD
  refine W.widen (k := 1) (n := 250) (Nat.le_of_ble_eq_true rfl) (Nat.le_of_ble_eq_true rfl) ?_
  refine va_putF (D := G) (ci := 2) (v := .ref q_1) (ty := (.array .byte)) (C := RX3) (T := TX3) (N := 7) hx hb hts iX_X3 tyX3 tyX3_ok nmX3 hown hK hP hD hS 0 rfl rfl 0 (by decide +kernel) (hts _ m_t148) (fun _ h9 => h9) rfl hin rfl (by decide +kernel) rfl rfl (Nat.le_of_ble_eq_true rfl) (g_181 (v := 11) bX3_init rfl) (fun H locs => ?_)
  clear hP hD hS
  intro hP hD hS
  have hPD := pd_as [zzO qa 2 [.ref q_1, .int 0, .int 0, .int 0, .int 0, .int 0, .null], _] hP hD rfl
  clear hP hD
  obtain ⟨hP, hD⟩ := hPD
  refine lv_aload_n hx hb (g_42 bX3_init rfl) rfl (lv_at hl 0 rfl) ?_
  refine va_new (ci := 3) (fs := [.int 0, .int 0, .int 0, .int 0, .int 0, .null, .null, .null, .null, .null, .null, .null, .null]) (C := RX4) (T := TX4) (N := 13) hx hb hts iX_X4 tyX4 tyX4_ok hown (hts _ m_t146) (hts _ m_t24) (hts _ m_t2) hK hP hD hS hA rfl df_X4 (Nat.le_of_ble_eq_true rfl) (Nat.le_of_ble_eq_true rfl) (g_187 (v := 15) bX3_init rfl) (fun q_2 H => ?_)
  clear hP hD hS
  intro hP hD hS
  have hPD := pd_as [_, _, zzO q_2 3 [.int 0, .int 0, .int 0, .int 0, .int 0, .null, .null, .null, .null, .null, .null, .null, .null]] hP hD rfl
  clear hP hD
  obtain ⟨hP, hD⟩ := hPD
  refine W.widen (k := 2) (n := 263) (Nat.le_of_ble_eq_true rfl) (Nat.le_of_ble_eq_true rfl) ?_
  refine lv_dup hx hb (g_89 bX3_init rfl) rfl ?_
  refine cINv (As := []) (rest := [.ref q_2, .ref qa]) (b := q_2) ⟨hx, hb, hml, hown, hts⟩ (k_X4_init l G cy (H).size q_2) L_X3_17 hN hP hD hS hA [2] [true, true, false] rfl (by decide +kernel) rfl rfl ⟨Nat.le_of_ble_eq_true rfl, Nat.le_of_ble_eq_true rfl⟩ hl.1 (Nat.le_of_ble_eq_true rfl) (g_183 (v := 17) bX3_init rfl) ⟨Nat.le_of_ble_eq_true rfl, Nat.le_of_ble_eq_true rfl⟩ (fun u_5 H locs h_4 => ?_)
  clear hP hD hS
  intro hP hD hS
  obtain ⟨qtw_6, qtn_7, qtg_8, qta_9, qtr_10, qtm_11, qtt_12, qts_13, hu9⟩ := h_4
  have hPD := pd_eq [_, _, zzO q_2 3 [.int 0, .int 0, .int 0, .int 0, .int 1, .ref qtw_6, .ref qtn_7, .ref qtg_8, .ref qta_9, .ref qtr_10, .ref qtm_11, .ref qtt_12, .ref qts_13], zzI cy qtw_6 8 (fun _ => 0), zzI cy qtn_7 8 (fun _ => 0), zzI cy qtg_8 8 (fun _ => 0), zzI cy qta_9 8 (fun _ => 0), zzI cy qtr_10 8 (fun _ => 0), zzI cy qtm_11 8 (fun _ => 0), zzI cy qtt_12 8 (fun _ => 0), zzI cy qts_13 64 (fun _ => 0)] hP hD hu9 rfl
  clear hP hD hu9
  obtain ⟨hP, hD⟩ := hPD
  refine W.widen (k := 10) (n := 383) (Nat.le_of_ble_eq_true rfl) (Nat.le_of_ble_eq_true rfl) ?_
  refine va_putF (D := G) (ci := 2) (v := .ref q_2) (ty := (.object "EachBookOnce$Town")) (C := RX3) (T := TX3) (N := 7) hx hb hts iX_X3 tyX3 tyX3_ok nmX3 hown hK hP hD hS 0 rfl rfl 6 (by decide +kernel) (hts _ m_t156) (fun _ h9 => h9) rfl hin rfl (by decide +kernel) rfl rfl (Nat.le_of_ble_eq_true rfl) (g_181 (v := 18) bX3_init rfl) (fun H locs => ?_)
  clear hP hD hS
  intro hP hD hS
  have hPD := pd_as [zzO qa 2 [.ref q_1, .int 0, .int 0, .int 0, .int 0, .int 0, .ref q_2], _, _, _, _, _, _, _, _, _, _] hP hD rfl
  clear hP hD
  obtain ⟨hP, hD⟩ := hPD
  exact endVs [[true, true, true, true, true, true, true, true, true, true, true]] hx hb hr hlocks hP hD rfl (by decide +kernel) hS ⟨q_1, q_2, qtw_6, qtn_7, qtg_8, qta_9, qtr_10, qtm_11, qtt_12, qts_13, rfl⟩ (g_177 bX3_init rfl)
set_option maxHeartbeats 4000000 in
set_option maxRecDepth 100000 in
theorem k_X5_init (l : Launch) (G : va_G) (cy : Nat → ClassId) (sz : Nat) (qx : Nat)   : MW l yX5_init cX5_init 1 none 3 54 1279 G cy [zzO qx 4 [.null, .null, .null, .null, .null, .null, .int 0, .int 0, .int 0]] sz [.ref qx] (Wv G (fun u => ∃ (qr : Nat) (qt : Nat) (qtw : Nat) (qtn : Nat) (qtg : Nat) (qta : Nat) (qtr : Nat) (qtm : Nat) (qtt : Nat) (qts : Nat) (qk : Nat) (qkw : Nat) (qkn : Nat) (qkg : Nat) (qka : Nat) (qkr : Nat) (qkm : Nat) (qkt : Nat) (qks : Nat) (qp : Nat) (qu : Nat) (quw : Nat) (qun : Nat) (qug : Nat) (qua : Nat) (qur : Nat) (qum : Nat) (qut : Nat) (qus : Nat) (qv : Nat) (qvw : Nat) (qvn : Nat) (qvg : Nat) (qva : Nat) (qvr : Nat) (qvm : Nat) (qvt : Nat) (qvs : Nat) (qs : Nat) (qsh : Nat) (qss : Nat) (qsa : Nat) (qse : Nat) (fH : Nat → Int32) (qa : Nat) (qab : Nat) (qd : Nat) (qdw : Nat) (qdn : Nat) (qdg : Nat) (qda : Nat) (qdr : Nat) (qdm : Nat) (qdt : Nat) (qds : Nat), u = (zzO qx 4 [.ref qt, .ref qk, .ref qp, .ref qs, .ref qa, .ref qr, .int 0, .int 0, .int 0] :: zzI cy qr 5 (fun _ => 0) :: zzO qt 3 [.int 0, .int 0, .int 0, .int 0, .int 1, .ref qtw, .ref qtn, .ref qtg, .ref qta, .ref qtr, .ref qtm, .ref qtt, .ref qts] :: zzI cy qtw 8 (fun _ => 0) :: zzI cy qtn 8 (fun _ => 0) :: zzI cy qtg 8 (fun _ => 0) :: zzI cy qta 8 (fun _ => 0) :: zzI cy qtr 8 (fun _ => 0) :: zzI cy qtm 8 (fun _ => 0) :: zzI cy qtt 8 (fun _ => 0) :: zzI cy qts 64 (fun _ => 0) :: zzO qk 3 [.int 0, .int 0, .int 0, .int 0, .int 1, .ref qkw, .ref qkn, .ref qkg, .ref qka, .ref qkr, .ref qkm, .ref qkt, .ref qks] :: zzI cy qkw 8 (fun _ => 0) :: zzI cy qkn 8 (fun _ => 0) :: zzI cy qkg 8 (fun _ => 0) :: zzI cy qka 8 (fun _ => 0) :: zzI cy qkr 8 (fun _ => 0) :: zzI cy qkm 8 (fun _ => 0) :: zzI cy qkt 8 (fun _ => 0) :: zzI cy qks 64 (fun _ => 0) :: zzO qp 0 [.ref qu, .ref qv, .int 0, .int 0] :: zzO qu 3 [.int 0, .int 0, .int 0, .int 0, .int 1, .ref quw, .ref qun, .ref qug, .ref qua, .ref qur, .ref qum, .ref qut, .ref qus] :: zzI cy quw 8 (fun _ => 0) :: zzI cy qun 8 (fun _ => 0) :: zzI cy qug 8 (fun _ => 0) :: zzI cy qua 8 (fun _ => 0) :: zzI cy qur 8 (fun _ => 0) :: zzI cy qum 8 (fun _ => 0) :: zzI cy qut 8 (fun _ => 0) :: zzI cy qus 64 (fun _ => 0) :: zzO qv 3 [.int 0, .int 0, .int 0, .int 0, .int 1, .ref qvw, .ref qvn, .ref qvg, .ref qva, .ref qvr, .ref qvm, .ref qvt, .ref qvs] :: zzI cy qvw 8 (fun _ => 0) :: zzI cy qvn 8 (fun _ => 0) :: zzI cy qvg 8 (fun _ => 0) :: zzI cy qva 8 (fun _ => 0) :: zzI cy qvr 8 (fun _ => 0) :: zzI cy qvm 8 (fun _ => 0) :: zzI cy qvt 8 (fun _ => 0) :: zzI cy qvs 64 (fun _ => 0) :: zzO qs 1 [.ref qsh, .ref qss, .ref qsa, .ref qse] :: zzI cy qsh 8 fH :: zzI cy qss 8 (fun _ => 0) :: zzI cy qsa 8 (fun _ => 0) :: zzJ cy qse 320 (fun _ => 0) :: zzO qa 2 [.ref qab, .int 0, .int 0, .int 0, .int 0, .int 0, .ref qd] :: zzB cy qab 250 (fun _ => 0) :: zzO qd 3 [.int 0, .int 0, .int 0, .int 0, .int 1, .ref qdw, .ref qdn, .ref qdg, .ref qda, .ref qdr, .ref qdm, .ref qdt, .ref qds] :: zzI cy qdw 8 (fun _ => 0) :: zzI cy qdn 8 (fun _ => 0) :: zzI cy qdg 8 (fun _ => 0) :: zzI cy qda 8 (fun _ => 0) :: zzI cy qdr 8 (fun _ => 0) :: zzI cy qdm 8 (fun _ => 0) :: zzI cy qdt 8 (fun _ => 0) :: zzI cy qds 64 (fun _ => 0) :: []) ∧ (∀ i, i < 8 → fH i = -1))) := by
  refine enW RX5 (by decide +kernel) rfl (Nat.le_of_ble_eq_true rfl) (fun p e s m below meth c ls A hx hb hml hown hts hr hlocks hP hN hl hin hD hA hS => ?_)
  have hin : meth.name = _ := hin
  have hK := hN.1
  replace hl : lv_has ls 1 [(0, .ref qx)] := hl
  refine lv_aload_n hx hb (g_42 bX5_init rfl) rfl (lv_at hl 0 rfl) ?_
  refine W.objInit hx hb hown (hts _ m_t20) (hts _ m_t21) (hts _ m_t22) rfl (by rw [hml]; exact hl.1) rfl dX5_init_1 (Nat.le_of_ble_eq_true rfl) (Nat.le_of_ble_eq_true rfl) ?_
  refine W.eq (g2 := F0 m 4 ls []) rfl ?_
  refine lv_aload_n hx hb (g_42 bX5_init rfl) rfl (lv_at hl 0 rfl) ?_
  refine va_new (ci := 3) (fs := [.int 0, .int 0, .int 0, .int 0, .int 0, .null, .null, .null, .null, .null, .null, .null, .null]) (C := RX4) (T := TX4) (N := 13) hx hb hts iX_X4 tyX4 tyX4_ok hown (hts _ m_t23) (hts _ m_t24) (hts _ m_t2) hK hP hD hS hA rfl df_X4 (Nat.le_of_ble_eq_true rfl) (Nat.le_of_ble_eq_true rfl) (g_187 (v := 7) bX5_init rfl) (fun q_1 H => ?_)
  clear hP hD hS
  intro hP hD hS
  have hPD := pd_as [_, zzO q_1 3 [.int 0, .int 0, .int 0, .int 0, .int 0, .null, .null, .null, .null, .null, .null, .null, .null]] hP hD rfl
  clear hP hD
  obtain ⟨hP, hD⟩ := hPD
  refine W.widen (k := 1) (n := 13) (Nat.le_of_ble_eq_true rfl) (Nat.le_of_ble_eq_true rfl) ?_
  refine lv_dup hx hb (g_89 bX5_init rfl) rfl ?_
  refine cINv (As := []) (rest := [.ref q_1, .ref qx]) (b := q_1) ⟨hx, hb, hml, hown, hts⟩ (k_X4_init l G cy (H).size q_1) L_X5_9 hN hP hD hS hA [1] [true, false] rfl (by decide +kernel) rfl rfl ⟨Nat.le_of_ble_eq_true rfl, Nat.le_of_ble_eq_true rfl⟩ hl.1 (Nat.le_of_ble_eq_true rfl) (g_183 (v := 9) bX5_init rfl) ⟨Nat.le_of_ble_eq_true rfl, Nat.le_of_ble_eq_true rfl⟩ (fun u_4 H locs h_3 => ?_)
  clear hP hD hS
  intro hP hD hS
  obtain ⟨qtw_5, qtn_6, qtg_7, qta_8, qtr_9, qtm_10, qtt_11, qts_12, hu9⟩ := h_3
  have hPD := pd_eq [_, zzO q_1 3 [.int 0, .int 0, .int 0, .int 0, .int 1, .ref qtw_5, .ref qtn_6, .ref qtg_7, .ref qta_8, .ref qtr_9, .ref qtm_10, .ref qtt_11, .ref qts_12], zzI cy qtw_5 8 (fun _ => 0), zzI cy qtn_6 8 (fun _ => 0), zzI cy qtg_7 8 (fun _ => 0), zzI cy qta_8 8 (fun _ => 0), zzI cy qtr_9 8 (fun _ => 0), zzI cy qtm_10 8 (fun _ => 0), zzI cy qtt_11 8 (fun _ => 0), zzI cy qts_12 64 (fun _ => 0)] hP hD hu9 rfl
  clear hP hD hu9
  obtain ⟨hP, hD⟩ := hPD
  refine W.widen (k := 9) (n := 133) (Nat.le_of_ble_eq_true rfl) (Nat.le_of_ble_eq_true rfl) ?_
  refine va_putF (D := G) (ci := 4) (v := .ref q_1) (ty := (.object "EachBookOnce$Town")) (C := RX5) (T := TX5) (N := 9) hx hb hts iX_X5 tyX5 tyX5_ok nmX5 hown hK hP hD hS 0 rfl rfl 0 (by decide +kernel) (hts _ m_t174) (fun _ h9 => h9) rfl hin rfl (by decide +kernel) rfl rfl (Nat.le_of_ble_eq_true rfl) (g_181 (v := 10) bX5_init rfl) (fun H locs => ?_)
  clear hP hD hS
  intro hP hD hS
  have hPD := pd_as [zzO qx 4 [.ref q_1, .null, .null, .null, .null, .null, .int 0, .int 0, .int 0], _, _, _, _, _, _, _, _, _] hP hD rfl
  clear hP hD
  obtain ⟨hP, hD⟩ := hPD
  refine lv_aload_n hx hb (g_42 bX5_init rfl) rfl (lv_at hl 0 rfl) ?_
  refine va_new (ci := 3) (fs := [.int 0, .int 0, .int 0, .int 0, .int 0, .null, .null, .null, .null, .null, .null, .null, .null]) (C := RX4) (T := TX4) (N := 13) hx hb hts iX_X4 tyX4 tyX4_ok hown (hts _ m_t23) (hts _ m_t24) (hts _ m_t2) hK hP hD hS hA rfl df_X4 (Nat.le_of_ble_eq_true rfl) (Nat.le_of_ble_eq_true rfl) (g_187 (v := 7) bX5_init rfl) (fun q_13 H => ?_)
  clear hP hD hS
  intro hP hD hS
  have hPD := pd_as [_, _, _, _, _, _, _, _, _, _, zzO q_13 3 [.int 0, .int 0, .int 0, .int 0, .int 0, .null, .null, .null, .null, .null, .null, .null, .null]] hP hD rfl
  clear hP hD
  obtain ⟨hP, hD⟩ := hPD
  refine W.widen (k := 10) (n := 146) (Nat.le_of_ble_eq_true rfl) (Nat.le_of_ble_eq_true rfl) ?_
  refine lv_dup hx hb (g_89 bX5_init rfl) rfl ?_
  refine cINv (As := []) (rest := [.ref q_13, .ref qx]) (b := q_13) ⟨hx, hb, hml, hown, hts⟩ (k_X4_init l G cy (H).size q_13) L_X5_9 hN hP hD hS hA [10] [true, true, true, true, true, true, true, true, true, true, false] rfl (by decide +kernel) rfl rfl ⟨Nat.le_of_ble_eq_true rfl, Nat.le_of_ble_eq_true rfl⟩ hl.1 (Nat.le_of_ble_eq_true rfl) (g_183 (v := 9) bX5_init rfl) ⟨Nat.le_of_ble_eq_true rfl, Nat.le_of_ble_eq_true rfl⟩ (fun u_16 H locs h_15 => ?_)
  clear hP hD hS
  intro hP hD hS
  obtain ⟨qtw_17, qtn_18, qtg_19, qta_20, qtr_21, qtm_22, qtt_23, qts_24, hu9⟩ := h_15
  have hPD := pd_eq [_, _, _, _, _, _, _, _, _, _, zzO q_13 3 [.int 0, .int 0, .int 0, .int 0, .int 1, .ref qtw_17, .ref qtn_18, .ref qtg_19, .ref qta_20, .ref qtr_21, .ref qtm_22, .ref qtt_23, .ref qts_24], zzI cy qtw_17 8 (fun _ => 0), zzI cy qtn_18 8 (fun _ => 0), zzI cy qtg_19 8 (fun _ => 0), zzI cy qta_20 8 (fun _ => 0), zzI cy qtr_21 8 (fun _ => 0), zzI cy qtm_22 8 (fun _ => 0), zzI cy qtt_23 8 (fun _ => 0), zzI cy qts_24 64 (fun _ => 0)] hP hD hu9 rfl
  clear hP hD hu9
  obtain ⟨hP, hD⟩ := hPD
  refine W.widen (k := 18) (n := 266) (Nat.le_of_ble_eq_true rfl) (Nat.le_of_ble_eq_true rfl) ?_
  refine va_putF (D := G) (ci := 4) (v := .ref q_13) (ty := (.object "EachBookOnce$Town")) (C := RX5) (T := TX5) (N := 9) hx hb hts iX_X5 tyX5 tyX5_ok nmX5 hown hK hP hD hS 0 rfl rfl 1 (by decide +kernel) (hts _ m_t175) (fun _ h9 => h9) rfl hin rfl (by decide +kernel) rfl rfl (Nat.le_of_ble_eq_true rfl) (g_181 (v := 16) bX5_init rfl) (fun H locs => ?_)
  clear hP hD hS
  intro hP hD hS
  have hPD := pd_as [zzO qx 4 [.ref q_1, .ref q_13, .null, .null, .null, .null, .int 0, .int 0, .int 0], _, _, _, _, _, _, _, _, _, _, _, _, _, _, _, _, _, _] hP hD rfl
  clear hP hD
  obtain ⟨hP, hD⟩ := hPD
  refine lv_aload_n hx hb (g_42 bX5_init rfl) rfl (lv_at hl 0 rfl) ?_
  refine va_new (ci := 0) (fs := [.null, .null, .int 0, .int 0]) (C := RX0) (T := TX0) (N := 4) hx hb hts iX_X0 tyX0 tyX0_ok hown (hts _ m_t93) (hts _ m_t94) (hts _ m_t3) hK hP hD hS hA rfl df_X0 (Nat.le_of_ble_eq_true rfl) (Nat.le_of_ble_eq_true rfl) (g_187 (v := 19) bX5_init rfl) (fun q_25 H => ?_)
  clear hP hD hS
  intro hP hD hS
  have hPD := pd_as [_, _, _, _, _, _, _, _, _, _, _, _, _, _, _, _, _, _, _, zzO q_25 0 [.null, .null, .int 0, .int 0]] hP hD rfl
  clear hP hD
  obtain ⟨hP, hD⟩ := hPD
  refine W.widen (k := 19) (n := 270) (Nat.le_of_ble_eq_true rfl) (Nat.le_of_ble_eq_true rfl) ?_
  refine lv_dup hx hb (g_89 bX5_init rfl) rfl ?_
  refine cINv (As := []) (rest := [.ref q_25, .ref qx]) (b := q_25) ⟨hx, hb, hml, hown, hts⟩ (k_X0_init l G cy (H).size q_25) L_X5_21 hN hP hD hS hA [19] [true, true, true, true, true, true, true, true, true, true, true, true, true, true, true, true, true, true, true, false] rfl (by decide +kernel) rfl rfl ⟨Nat.le_of_ble_eq_true rfl, Nat.le_of_ble_eq_true rfl⟩ hl.1 (Nat.le_of_ble_eq_true rfl) (g_183 (v := 21) bX5_init rfl) ⟨Nat.le_of_ble_eq_true rfl, Nat.le_of_ble_eq_true rfl⟩ (fun u_28 H locs h_27 => ?_)
  clear hP hD hS
  intro hP hD hS
  obtain ⟨qu_29, quw_30, qun_31, qug_32, qua_33, qur_34, qum_35, qut_36, qus_37, qv_38, qvw_39, qvn_40, qvg_41, qva_42, qvr_43, qvm_44, qvt_45, qvs_46, hu9⟩ := h_27
  have hPD := pd_eq (_ :: _ :: _ :: _ :: _ :: _ :: _ :: _ :: _ :: _ :: _ :: _ :: _ :: _ :: _ :: _ :: _ :: _ :: _ :: zzO q_25 0 [.ref qu_29, .ref qv_38, .int 0, .int 0] :: zzO qu_29 3 [.int 0, .int 0, .int 0, .int 0, .int 1, .ref quw_30, .ref qun_31, .ref qug_32, .ref qua_33, .ref qur_34, .ref qum_35, .ref qut_36, .ref qus_37] :: zzI cy quw_30 8 (fun _ => 0) :: zzI cy qun_31 8 (fun _ => 0) :: zzI cy qug_32 8 (fun _ => 0) :: zzI cy qua_33 8 (fun _ => 0) :: zzI cy qur_34 8 (fun _ => 0) :: zzI cy qum_35 8 (fun _ => 0) :: zzI cy qut_36 8 (fun _ => 0) :: zzI cy qus_37 64 (fun _ => 0) :: zzO qv_38 3 [.int 0, .int 0, .int 0, .int 0, .int 1, .ref qvw_39, .ref qvn_40, .ref qvg_41, .ref qva_42, .ref qvr_43, .ref qvm_44, .ref qvt_45, .ref qvs_46] :: zzI cy qvw_39 8 (fun _ => 0) :: zzI cy qvn_40 8 (fun _ => 0) :: zzI cy qvg_41 8 (fun _ => 0) :: zzI cy qva_42 8 (fun _ => 0) :: zzI cy qvr_43 8 (fun _ => 0) :: zzI cy qvm_44 8 (fun _ => 0) :: zzI cy qvt_45 8 (fun _ => 0) :: zzI cy qvs_46 64 (fun _ => 0) :: []) hP hD hu9 rfl
  clear hP hD hu9
  obtain ⟨hP, hD⟩ := hPD
  refine W.widen (k := 37) (n := 536) (Nat.le_of_ble_eq_true rfl) (Nat.le_of_ble_eq_true rfl) ?_
  refine va_putF (D := G) (ci := 4) (v := .ref q_25) (ty := (.object "EachBookOnce$Plans")) (C := RX5) (T := TX5) (N := 9) hx hb hts iX_X5 tyX5 tyX5_ok nmX5 hown hK hP hD hS 0 rfl rfl 2 (by decide +kernel) (hts _ m_t176) (fun _ h9 => h9) rfl hin rfl (by decide +kernel) rfl rfl (Nat.le_of_ble_eq_true rfl) (g_181 (v := 22) bX5_init rfl) (fun H locs => ?_)
  clear hP hD hS
  intro hP hD hS
  have hPD := pd_as (zzO qx 4 [.ref q_1, .ref q_13, .ref q_25, .null, .null, .null, .int 0, .int 0, .int 0] :: _ :: _ :: _ :: _ :: _ :: _ :: _ :: _ :: _ :: _ :: _ :: _ :: _ :: _ :: _ :: _ :: _ :: _ :: _ :: _ :: _ :: _ :: _ :: _ :: _ :: _ :: _ :: _ :: _ :: _ :: _ :: _ :: _ :: _ :: _ :: _ :: _ :: []) hP hD rfl
  clear hP hD
  obtain ⟨hP, hD⟩ := hPD
  refine lv_aload_n hx hb (g_42 bX5_init rfl) rfl (lv_at hl 0 rfl) ?_
  refine va_new (ci := 1) (fs := [.null, .null, .null, .null]) (C := RX2) (T := TX2) (N := 4) hx hb hts iX_X2 tyX2 tyX2_ok hown (hts _ m_t117) (hts _ m_t118) (hts _ m_t4) hK hP hD hS hA rfl df_X2 (Nat.le_of_ble_eq_true rfl) (Nat.le_of_ble_eq_true rfl) (g_187 (v := 26) bX5_init rfl) (fun q_47 H => ?_)
  clear hP hD hS
  intro hP hD hS
  have hPD := pd_as (_ :: _ :: _ :: _ :: _ :: _ :: _ :: _ :: _ :: _ :: _ :: _ :: _ :: _ :: _ :: _ :: _ :: _ :: _ :: _ :: _ :: _ :: _ :: _ :: _ :: _ :: _ :: _ :: _ :: _ :: _ :: _ :: _ :: _ :: _ :: _ :: _ :: _ :: zzO q_47 1 [.null, .null, .null, .null] :: []) hP hD rfl
  clear hP hD
  obtain ⟨hP, hD⟩ := hPD
  refine W.widen (k := 38) (n := 540) (Nat.le_of_ble_eq_true rfl) (Nat.le_of_ble_eq_true rfl) ?_
  refine lv_dup hx hb (g_89 bX5_init rfl) rfl ?_
  refine cIv (As := []) (rest := [.ref q_47, .ref qx]) (b := q_47) ⟨hx, hb, hml, hown, hts⟩ (k_X2_init l G cy (H).size q_47) L_X5_28 hN hP hD hS hA [38] (true :: true :: true :: true :: true :: true :: true :: true :: true :: true :: true :: true :: true :: true :: true :: true :: true :: true :: true :: true :: true :: true :: true :: true :: true :: true :: true :: true :: true :: true :: true :: true :: true :: true :: true :: true :: true :: true :: false :: []) rfl (by decide +kernel) rfl rfl ⟨Nat.le_of_ble_eq_true rfl, Nat.le_of_ble_eq_true rfl⟩ hl.1 (Nat.le_of_ble_eq_true rfl) (g_183 (v := 28) bX5_init rfl) ⟨Nat.le_of_ble_eq_true rfl, Nat.le_of_ble_eq_true rfl⟩ (fun u_50 H locs h_49 => ?_)
  clear hP hD hS
  intro hP hD hS
  obtain ⟨qsh_51, qss_52, qsa_53, qse_54, fH_55, hu9, h_56⟩ := h_49
  have hPD := pd_eq (_ :: _ :: _ :: _ :: _ :: _ :: _ :: _ :: _ :: _ :: _ :: _ :: _ :: _ :: _ :: _ :: _ :: _ :: _ :: _ :: _ :: _ :: _ :: _ :: _ :: _ :: _ :: _ :: _ :: _ :: _ :: _ :: _ :: _ :: _ :: _ :: _ :: _ :: zzO q_47 1 [.ref qsh_51, .ref qss_52, .ref qsa_53, .ref qse_54] :: zzI cy qsh_51 8 fH_55 :: zzI cy qss_52 8 (fun _ => 0) :: zzI cy qsa_53 8 (fun _ => 0) :: zzJ cy qse_54 320 (fun _ => 0) :: []) hP hD hu9 rfl
  clear hP hD hu9
  obtain ⟨hP, hD⟩ := hPD
  refine W.widen (k := 42) (n := 884) (Nat.le_of_ble_eq_true rfl) (Nat.le_of_ble_eq_true rfl) ?_
  refine va_putF (D := G) (ci := 4) (v := .ref q_47) (ty := (.object "EachBookOnce$Shelves")) (C := RX5) (T := TX5) (N := 9) hx hb hts iX_X5 tyX5 tyX5_ok nmX5 hown hK hP hD hS 0 rfl rfl 3 (by decide +kernel) (hts _ m_t177) (fun _ h9 => h9) rfl hin rfl (by decide +kernel) rfl rfl (Nat.le_of_ble_eq_true rfl) (g_181 (v := 29) bX5_init rfl) (fun H locs => ?_)
  clear hP hD hS
  intro hP hD hS
  have hPD := pd_as (zzO qx 4 [.ref q_1, .ref q_13, .ref q_25, .ref q_47, .null, .null, .int 0, .int 0, .int 0] :: _ :: _ :: _ :: _ :: _ :: _ :: _ :: _ :: _ :: _ :: _ :: _ :: _ :: _ :: _ :: _ :: _ :: _ :: _ :: _ :: _ :: _ :: _ :: _ :: _ :: _ :: _ :: _ :: _ :: _ :: _ :: _ :: _ :: _ :: _ :: _ :: _ :: _ :: _ :: _ :: _ :: _ :: []) hP hD rfl
  clear hP hD
  obtain ⟨hP, hD⟩ := hPD
  refine lv_aload_n hx hb (g_42 bX5_init rfl) rfl (lv_at hl 0 rfl) ?_
  refine va_new (ci := 2) (fs := [.null, .int 0, .int 0, .int 0, .int 0, .int 0, .null]) (C := RX3) (T := TX3) (N := 7) hx hb hts iX_X3 tyX3 tyX3_ok hown (hts _ m_t140) (hts _ m_t141) (hts _ m_t5) hK hP hD hS hA rfl df_X3 (Nat.le_of_ble_eq_true rfl) (Nat.le_of_ble_eq_true rfl) (g_187 (v := 33) bX5_init rfl) (fun q_57 H => ?_)
  clear hP hD hS
  intro hP hD hS
  have hPD := pd_as (_ :: _ :: _ :: _ :: _ :: _ :: _ :: _ :: _ :: _ :: _ :: _ :: _ :: _ :: _ :: _ :: _ :: _ :: _ :: _ :: _ :: _ :: _ :: _ :: _ :: _ :: _ :: _ :: _ :: _ :: _ :: _ :: _ :: _ :: _ :: _ :: _ :: _ :: _ :: _ :: _ :: _ :: _ :: zzO q_57 2 [.null, .int 0, .int 0, .int 0, .int 0, .int 0, .null] :: []) hP hD rfl
  clear hP hD
  obtain ⟨hP, hD⟩ := hPD
  refine W.widen (k := 43) (n := 891) (Nat.le_of_ble_eq_true rfl) (Nat.le_of_ble_eq_true rfl) ?_
  refine lv_dup hx hb (g_89 bX5_init rfl) rfl ?_
  refine cINv (As := []) (rest := [.ref q_57, .ref qx]) (b := q_57) ⟨hx, hb, hml, hown, hts⟩ (k_X3_init l G cy (H).size q_57) L_X5_35 hN hP hD hS hA [43] (true :: true :: true :: true :: true :: true :: true :: true :: true :: true :: true :: true :: true :: true :: true :: true :: true :: true :: true :: true :: true :: true :: true :: true :: true :: true :: true :: true :: true :: true :: true :: true :: true :: true :: true :: true :: true :: true :: true :: true :: true :: true :: true :: false :: []) rfl (by decide +kernel) rfl rfl ⟨Nat.le_of_ble_eq_true rfl, Nat.le_of_ble_eq_true rfl⟩ hl.1 (Nat.le_of_ble_eq_true rfl) (g_183 (v := 35) bX5_init rfl) ⟨Nat.le_of_ble_eq_true rfl, Nat.le_of_ble_eq_true rfl⟩ (fun u_60 H locs h_59 => ?_)
  clear hP hD hS
  intro hP hD hS
  obtain ⟨qab_61, qd_62, qdw_63, qdn_64, qdg_65, qda_66, qdr_67, qdm_68, qdt_69, qds_70, hu9⟩ := h_59
  have hPD := pd_eq (_ :: _ :: _ :: _ :: _ :: _ :: _ :: _ :: _ :: _ :: _ :: _ :: _ :: _ :: _ :: _ :: _ :: _ :: _ :: _ :: _ :: _ :: _ :: _ :: _ :: _ :: _ :: _ :: _ :: _ :: _ :: _ :: _ :: _ :: _ :: _ :: _ :: _ :: _ :: _ :: _ :: _ :: _ :: zzO q_57 2 [.ref qab_61, .int 0, .int 0, .int 0, .int 0, .int 0, .ref qd_62] :: zzB cy qab_61 250 (fun _ => 0) :: zzO qd_62 3 [.int 0, .int 0, .int 0, .int 0, .int 1, .ref qdw_63, .ref qdn_64, .ref qdg_65, .ref qda_66, .ref qdr_67, .ref qdm_68, .ref qdt_69, .ref qds_70] :: zzI cy qdw_63 8 (fun _ => 0) :: zzI cy qdn_64 8 (fun _ => 0) :: zzI cy qdg_65 8 (fun _ => 0) :: zzI cy qda_66 8 (fun _ => 0) :: zzI cy qdr_67 8 (fun _ => 0) :: zzI cy qdm_68 8 (fun _ => 0) :: zzI cy qdt_69 8 (fun _ => 0) :: zzI cy qds_70 64 (fun _ => 0) :: []) hP hD hu9 rfl
  clear hP hD hu9
  obtain ⟨hP, hD⟩ := hPD
  refine W.widen (k := 53) (n := 1274) (Nat.le_of_ble_eq_true rfl) (Nat.le_of_ble_eq_true rfl) ?_
  refine va_putF (D := G) (ci := 4) (v := .ref q_57) (ty := (.object "EachBookOnce$Tape")) (C := RX5) (T := TX5) (N := 9) hx hb hts iX_X5 tyX5 tyX5_ok nmX5 hown hK hP hD hS 0 rfl rfl 4 (by decide +kernel) (hts _ m_t178) (fun _ h9 => h9) rfl hin rfl (by decide +kernel) rfl rfl (Nat.le_of_ble_eq_true rfl) (g_181 (v := 36) bX5_init rfl) (fun H locs => ?_)
  clear hP hD hS
  intro hP hD hS
  have hPD := pd_as (zzO qx 4 [.ref q_1, .ref q_13, .ref q_25, .ref q_47, .ref q_57, .null, .int 0, .int 0, .int 0] :: _ :: _ :: _ :: _ :: _ :: _ :: _ :: _ :: _ :: _ :: _ :: _ :: _ :: _ :: _ :: _ :: _ :: _ :: _ :: _ :: _ :: _ :: _ :: _ :: _ :: _ :: _ :: _ :: _ :: _ :: _ :: _ :: _ :: _ :: _ :: _ :: _ :: _ :: _ :: _ :: _ :: _ :: _ :: _ :: _ :: _ :: _ :: _ :: _ :: _ :: _ :: _ :: _ :: []) hP hD rfl
  clear hP hD
  obtain ⟨hP, hD⟩ := hPD
  refine lv_aload_n hx hb (g_42 bX5_init rfl) rfl (lv_at hl 0 rfl) ?_
  refine lv_iconst (v := 5) hx hb (g_8 bX5_init rfl) (by decide +kernel) ?_
  refine newI hx hb hts m_t92 hN hP hD hS hA 5 (by decide +kernel) (by decide +kernel) (Nat.le_of_ble_eq_true rfl) (Nat.le_of_ble_eq_true rfl) (Nat.le_of_ble_eq_true rfl) (g_na10 bX5_init rfl) (fun q_71 H => ?_)
  clear hP hD hS
  intro hP hD hS
  have hPD := pd_as (_ :: _ :: _ :: _ :: _ :: _ :: _ :: _ :: _ :: _ :: _ :: _ :: _ :: _ :: _ :: _ :: _ :: _ :: _ :: _ :: _ :: _ :: _ :: _ :: _ :: _ :: _ :: _ :: _ :: _ :: _ :: _ :: _ :: _ :: _ :: _ :: _ :: _ :: _ :: _ :: _ :: _ :: _ :: _ :: _ :: _ :: _ :: _ :: _ :: _ :: _ :: _ :: _ :: _ :: zzI cy q_71 5 (fun _ => 0) :: []) hP hD rfl
  clear hP hD
  obtain ⟨hP, hD⟩ := hPD
  refine W.widen (k := 54) (n := 1279) (Nat.le_of_ble_eq_true rfl) (Nat.le_of_ble_eq_true rfl) ?_
  refine va_putF (D := G) (ci := 4) (v := .ref q_71) (ty := (.array .int)) (C := RX5) (T := TX5) (N := 9) hx hb hts iX_X5 tyX5 tyX5_ok nmX5 hown hK hP hD hS 0 rfl rfl 5 (by decide +kernel) (hts _ m_t179) (fun _ h9 => h9) rfl hin rfl (by decide +kernel) rfl rfl (Nat.le_of_ble_eq_true rfl) (g_181 (v := 40) bX5_init rfl) (fun H locs => ?_)
  clear hP hD hS
  intro hP hD hS
  have hPD := pd_as (zzO qx 4 [.ref q_1, .ref q_13, .ref q_25, .ref q_47, .ref q_57, .ref q_71, .int 0, .int 0, .int 0] :: _ :: _ :: _ :: _ :: _ :: _ :: _ :: _ :: _ :: _ :: _ :: _ :: _ :: _ :: _ :: _ :: _ :: _ :: _ :: _ :: _ :: _ :: _ :: _ :: _ :: _ :: _ :: _ :: _ :: _ :: _ :: _ :: _ :: _ :: _ :: _ :: _ :: _ :: _ :: _ :: _ :: _ :: _ :: _ :: _ :: _ :: _ :: _ :: _ :: _ :: _ :: _ :: _ :: _ :: []) hP hD rfl
  clear hP hD
  obtain ⟨hP, hD⟩ := hPD
  exact endVs [(true :: false :: false :: false :: false :: false :: false :: false :: false :: false :: false :: false :: false :: false :: false :: false :: false :: false :: false :: false :: false :: false :: false :: false :: false :: false :: false :: false :: false :: false :: false :: false :: false :: false :: false :: false :: false :: false :: false :: false :: false :: false :: false :: false :: false :: false :: false :: false :: false :: false :: false :: false :: false :: false :: true :: []), (false :: true :: true :: true :: true :: true :: true :: true :: true :: true :: true :: true :: true :: true :: true :: true :: true :: true :: true :: true :: true :: true :: true :: true :: true :: true :: true :: true :: true :: true :: true :: true :: true :: true :: true :: true :: true :: true :: true :: true :: true :: true :: true :: true :: true :: true :: true :: true :: true :: true :: true :: true :: true :: true :: [])] hx hb hr hlocks hP hD rfl (by decide +kernel) hS ⟨q_71, q_1, qtw_5, qtn_6, qtg_7, qta_8, qtr_9, qtm_10, qtt_11, qts_12, q_13, qtw_17, qtn_18, qtg_19, qta_20, qtr_21, qtm_22, qtt_23, qts_24, q_25, qu_29, quw_30, qun_31, qug_32, qua_33, qur_34, qum_35, qut_36, qus_37, qv_38, qvw_39, qvn_40, qvg_41, qva_42, qvr_43, qvm_44, qvt_45, qvs_46, q_47, qsh_51, qss_52, qsa_53, qse_54, fH_55, q_57, qab_61, qd_62, qdw_63, qdn_64, qdg_65, qda_66, qdr_67, qdm_68, qdt_69, qds_70, rfl, h_56⟩ (g_177 bX5_init rfl)
set_option maxHeartbeats 4000000 in
set_option maxRecDepth 100000 in
theorem k_X6_init (l : Launch) (G : va_G) (cy : Nat → ClassId) (sz : Nat) (qm : Nat)   : MW l yX6_init cX6_init 1 none 1 49 853 G cy [zzO qm 5 (.null :: .null :: .null :: .null :: .null :: .null :: .null :: .null :: .int 0 :: .null :: .int 0 :: .null :: .int 0 :: .null :: .null :: .int 0 :: .int 0 :: .int 0 :: .null :: .null :: .int 0 :: .int 0 :: .int 0 :: .long 0 :: .int 0 :: .null :: .int 0 :: .int 0 :: .int 0 :: .null :: .null :: .null :: .null :: .null :: .int 0 :: [])] sz [.ref qm] (Wv G (fun u => ∃ (qmh : Nat) (qmo : Nat) (qmz : Nat) (qmv : Nat) (qmk : Nat) (qma : Nat) (qmt : Nat) (qmr : Nat) (qm3 : Nat) (qmu : Nat) (qmy : Nat) (qmb : Nat) (qmR : Nat) (qmB : Nat) (qmO : Nat) (qmK : Nat) (rR : Nat → Nat) (rB : Nat → Nat) (rO : Nat → Nat) (rK : Nat → Nat) (qms : Nat), u = (zzO qm 5 (.ref qmh :: .ref qmo :: .ref qmz :: .ref qmR :: .ref qmv :: .ref qmk :: .ref qma :: .ref qmt :: .int 0 :: .ref qmr :: .int 0 :: .ref qmB :: .int 0 :: .ref qmO :: .ref qmK :: .int 0 :: .int 0 :: .int 1 :: .null :: .null :: .int 0 :: .int 0 :: .int 0 :: .long 0 :: .int 0 :: .ref qm3 :: .int 0 :: .int 0 :: .int 0 :: .null :: .ref qmu :: .ref qmy :: .ref qmb :: .ref qms :: .int 0 :: []) :: zzI cy qmh 8 (fun _ => 0) :: zzI cy qmo 8 (fun _ => 0) :: zzI cy qmz 8 (fun _ => 0) :: zzJ cy qmv 40 (fun _ => 0) :: zzI cy qmk 8 (fun _ => 0) :: zzI cy qma 8 (fun _ => 0) :: zzI cy qmt 250 (fun _ => 0) :: zzI cy qmr 8 (fun _ => 0) :: zzI cy qm3 3 (fun _ => 0) :: zzI cy qmu 8 (fun _ => 0) :: zzI cy qmy 5 (fun _ => 0) :: zzI cy qmb 5 (fun _ => 0) :: zzG cy 4 qmR rR :: zzJ cy (rR 0) 40 (fun _ => 0) :: zzJ cy (rR 1) 40 (fun _ => 0) :: zzJ cy (rR 2) 40 (fun _ => 0) :: zzJ cy (rR 3) 40 (fun _ => 0) :: zzJ cy (rR 4) 40 (fun _ => 0) :: zzJ cy (rR 5) 40 (fun _ => 0) :: zzJ cy (rR 6) 40 (fun _ => 0) :: zzJ cy (rR 7) 40 (fun _ => 0) :: zzG cy 3 qmB rB :: zzI cy (rB 0) 4 (fun _ => 0) :: zzI cy (rB 1) 4 (fun _ => 0) :: zzI cy (rB 2) 4 (fun _ => 0) :: zzI cy (rB 3) 4 (fun _ => 0) :: zzI cy (rB 4) 4 (fun _ => 0) :: zzI cy (rB 5) 4 (fun _ => 0) :: zzI cy (rB 6) 4 (fun _ => 0) :: zzI cy (rB 7) 4 (fun _ => 0) :: zzG cy 3 qmO rO :: zzI cy (rO 0) 5 (fun _ => 0) :: zzI cy (rO 1) 5 (fun _ => 0) :: zzI cy (rO 2) 5 (fun _ => 0) :: zzI cy (rO 3) 5 (fun _ => 0) :: zzI cy (rO 4) 5 (fun _ => 0) :: zzI cy (rO 5) 5 (fun _ => 0) :: zzI cy (rO 6) 5 (fun _ => 0) :: zzI cy (rO 7) 5 (fun _ => 0) :: zzG cy 3 qmK rK :: zzI cy (rK 0) 8 (fun _ => 0) :: zzI cy (rK 1) 8 (fun _ => 0) :: zzI cy (rK 2) 8 (fun _ => 0) :: zzI cy (rK 3) 8 (fun _ => 0) :: zzI cy (rK 4) 8 (fun _ => 0) :: zzI cy (rK 5) 8 (fun _ => 0) :: zzI cy (rK 6) 8 (fun _ => 0) :: zzI cy (rK 7) 8 (fun _ => 0) :: zzQ cy 5 qms 6 (fun _ => none) :: []))) := by
  refine enW RX6 (by decide +kernel) rfl (Nat.le_of_ble_eq_true rfl) (fun p e s m below meth c ls A hx hb hml hown hts hr hlocks hP hN hl hin hD hA hS => ?_)
  have hin : meth.name = _ := hin
  have hK := hN.1
  replace hl : lv_has ls 1 [(0, .ref qm)] := hl
  refine lv_aload_n hx hb (g_42 bX6_init rfl) rfl (lv_at hl 0 rfl) ?_
  refine W.objInit hx hb hown (hts _ m_t843) (hts _ m_t21) (hts _ m_t22) rfl (by rw [hml]; exact hl.1) rfl dX6_init_1 (Nat.le_of_ble_eq_true rfl) (Nat.le_of_ble_eq_true rfl) ?_
  refine W.eq (g2 := F0 m 4 ls []) rfl ?_
  refine lv_aload_n hx hb (g_42 bX6_init rfl) rfl (lv_at hl 0 rfl) ?_
  refine lv_bipush (v := 8) hx hb dX6_init_5 (by decide +kernel) ?_
  refine newI hx hb hts m_t92 hN hP hD hS hA 8 (by decide +kernel) (by decide +kernel) (Nat.le_of_ble_eq_true rfl) (Nat.le_of_ble_eq_true rfl) (Nat.le_of_ble_eq_true rfl) (g_na10 bX6_init rfl) (fun q_1 H => ?_)
  clear hP hD hS
  intro hP hD hS
  have hPD := pd_as [_, zzI cy q_1 8 (fun _ => 0)] hP hD rfl
  clear hP hD
  obtain ⟨hP, hD⟩ := hPD
  refine W.widen (k := 1) (n := 8) (Nat.le_of_ble_eq_true rfl) (Nat.le_of_ble_eq_true rfl) ?_
  refine va_putF (D := G) (ci := 5) (v := .ref q_1) (ty := (.array .int)) (C := RX6) (T := TX6) (N := 35) hx hb hts iX_X6 tyX6 tyX6_ok nmX6 hown hK hP hD hS 0 rfl rfl 0 (by decide +kernel) (hts _ m_t850) (fun _ h9 => h9) rfl hin rfl (by decide +kernel) rfl rfl (Nat.le_of_ble_eq_true rfl) (g_181 (v := 7) bX6_init rfl) (fun H locs => ?_)
  clear hP hD hS
  intro hP hD hS
  have hPD := pd_as [zzO qm 5 (.ref q_1 :: .null :: .null :: .null :: .null :: .null :: .null :: .null :: .int 0 :: .null :: .int 0 :: .null :: .int 0 :: .null :: .null :: .int 0 :: .int 0 :: .int 0 :: .null :: .null :: .int 0 :: .int 0 :: .int 0 :: .long 0 :: .int 0 :: .null :: .int 0 :: .int 0 :: .int 0 :: .null :: .null :: .null :: .null :: .null :: .int 0 :: []), _] hP hD rfl
  clear hP hD
  obtain ⟨hP, hD⟩ := hPD
  refine lv_aload_n hx hb (g_42 bX6_init rfl) rfl (lv_at hl 0 rfl) ?_
  refine lv_bipush (v := 8) hx hb dX6_init_13 (by decide +kernel) ?_
  refine newI hx hb hts m_t92 hN hP hD hS hA 8 (by decide +kernel) (by decide +kernel) (Nat.le_of_ble_eq_true rfl) (Nat.le_of_ble_eq_true rfl) (Nat.le_of_ble_eq_true rfl) (g_na10 bX6_init rfl) (fun q_2 H => ?_)
  clear hP hD hS
  intro hP hD hS
  have hPD := pd_as [_, _, zzI cy q_2 8 (fun _ => 0)] hP hD rfl
  clear hP hD
  obtain ⟨hP, hD⟩ := hPD
  refine W.widen (k := 2) (n := 16) (Nat.le_of_ble_eq_true rfl) (Nat.le_of_ble_eq_true rfl) ?_
  refine va_putF (D := G) (ci := 5) (v := .ref q_2) (ty := (.array .int)) (C := RX6) (T := TX6) (N := 35) hx hb hts iX_X6 tyX6 tyX6_ok nmX6 hown hK hP hD hS 0 rfl rfl 1 (by decide +kernel) (hts _ m_t851) (fun _ h9 => h9) rfl hin rfl (by decide +kernel) rfl rfl (Nat.le_of_ble_eq_true rfl) (g_181 (v := 13) bX6_init rfl) (fun H locs => ?_)
  clear hP hD hS
  intro hP hD hS
  have hPD := pd_as [zzO qm 5 (.ref q_1 :: .ref q_2 :: .null :: .null :: .null :: .null :: .null :: .null :: .int 0 :: .null :: .int 0 :: .null :: .int 0 :: .null :: .null :: .int 0 :: .int 0 :: .int 0 :: .null :: .null :: .int 0 :: .int 0 :: .int 0 :: .long 0 :: .int 0 :: .null :: .int 0 :: .int 0 :: .int 0 :: .null :: .null :: .null :: .null :: .null :: .int 0 :: []), _, _] hP hD rfl
  clear hP hD
  obtain ⟨hP, hD⟩ := hPD
  refine lv_aload_n hx hb (g_42 bX6_init rfl) rfl (lv_at hl 0 rfl) ?_
  refine lv_bipush (v := 8) hx hb dX6_init_21 (by decide +kernel) ?_
  refine newI hx hb hts m_t92 hN hP hD hS hA 8 (by decide +kernel) (by decide +kernel) (Nat.le_of_ble_eq_true rfl) (Nat.le_of_ble_eq_true rfl) (Nat.le_of_ble_eq_true rfl) (g_na10 bX6_init rfl) (fun q_3 H => ?_)
  clear hP hD hS
  intro hP hD hS
  have hPD := pd_as [_, _, _, zzI cy q_3 8 (fun _ => 0)] hP hD rfl
  clear hP hD
  obtain ⟨hP, hD⟩ := hPD
  refine W.widen (k := 3) (n := 24) (Nat.le_of_ble_eq_true rfl) (Nat.le_of_ble_eq_true rfl) ?_
  refine va_putF (D := G) (ci := 5) (v := .ref q_3) (ty := (.array .int)) (C := RX6) (T := TX6) (N := 35) hx hb hts iX_X6 tyX6 tyX6_ok nmX6 hown hK hP hD hS 0 rfl rfl 2 (by decide +kernel) (hts _ m_t852) (fun _ h9 => h9) rfl hin rfl (by decide +kernel) rfl rfl (Nat.le_of_ble_eq_true rfl) (g_181 (v := 16) bX6_init rfl) (fun H locs => ?_)
  clear hP hD hS
  intro hP hD hS
  have hPD := pd_as [zzO qm 5 (.ref q_1 :: .ref q_2 :: .ref q_3 :: .null :: .null :: .null :: .null :: .null :: .int 0 :: .null :: .int 0 :: .null :: .int 0 :: .null :: .null :: .int 0 :: .int 0 :: .int 0 :: .null :: .null :: .int 0 :: .int 0 :: .int 0 :: .long 0 :: .int 0 :: .null :: .int 0 :: .int 0 :: .int 0 :: .null :: .null :: .null :: .null :: .null :: .int 0 :: []), _, _, _] hP hD rfl
  clear hP hD
  obtain ⟨hP, hD⟩ := hPD
  refine lv_aload_n hx hb (g_42 bX6_init rfl) rfl (lv_at hl 0 rfl) ?_
  refine lv_bipush (v := 8) hx hb dX6_init_29 (by decide +kernel) ?_
  refine lv_bipush (v := 40) hx hb dX6_init_31 (by decide +kernel) ?_
  refine newJJ hx hb hts hown m_t844 m_t139 hN hP hD hS hA 40 (by decide +kernel) (by decide +kernel) (by decide +kernel) (Nat.le_of_ble_eq_true rfl) (Nat.le_of_ble_eq_true rfl) (Nat.le_of_ble_eq_true rfl) (Nat.le_of_ble_eq_true rfl) dX6_init_33 (fun q_4 r_5 H => ?_)
  clear hP hD hS
  intro hP hD hS
  have hPD := pd_as [_, _, _, _, zzG cy 4 q_4 r_5, zzJ cy (r_5 0) 40 (fun _ => 0), zzJ cy (r_5 1) 40 (fun _ => 0), zzJ cy (r_5 2) 40 (fun _ => 0), zzJ cy (r_5 3) 40 (fun _ => 0), zzJ cy (r_5 4) 40 (fun _ => 0), zzJ cy (r_5 5) 40 (fun _ => 0), zzJ cy (r_5 6) 40 (fun _ => 0), zzJ cy (r_5 7) 40 (fun _ => 0)] hP hD rfl
  clear hP hD
  obtain ⟨hP, hD⟩ := hPD
  refine W.widen (k := 12) (n := 352) (Nat.le_of_ble_eq_true rfl) (Nat.le_of_ble_eq_true rfl) ?_
  refine va_putF (D := G) (ci := 5) (v := .ref q_4) (ty := (.array (.array .long))) (C := RX6) (T := TX6) (N := 35) hx hb hts iX_X6 tyX6 tyX6_ok nmX6 hown hK hP hD hS 0 rfl rfl 3 (by decide +kernel) (hts _ m_t853) (fun _ h9 => h9) rfl hin rfl (by decide +kernel) rfl rfl (Nat.le_of_ble_eq_true rfl) (g_181 (v := 21) bX6_init rfl) (fun H locs => ?_)
  clear hP hD hS
  intro hP hD hS
  have hPD := pd_as [zzO qm 5 (.ref q_1 :: .ref q_2 :: .ref q_3 :: .ref q_4 :: .null :: .null :: .null :: .null :: .int 0 :: .null :: .int 0 :: .null :: .int 0 :: .null :: .null :: .int 0 :: .int 0 :: .int 0 :: .null :: .null :: .int 0 :: .int 0 :: .int 0 :: .long 0 :: .int 0 :: .null :: .int 0 :: .int 0 :: .int 0 :: .null :: .null :: .null :: .null :: .null :: .int 0 :: []), _, _, _, _, _, _, _, _, _, _, _, _] hP hD rfl
  clear hP hD
  obtain ⟨hP, hD⟩ := hPD
  refine lv_aload_n hx hb (g_42 bX6_init rfl) rfl (lv_at hl 0 rfl) ?_
  refine lv_bipush (v := 40) hx hb dX6_init_41 (by decide +kernel) ?_
  refine newJ hx hb hts m_t139 hN hP hD hS hA 40 (by decide +kernel) (by decide +kernel) (Nat.le_of_ble_eq_true rfl) (Nat.le_of_ble_eq_true rfl) (Nat.le_of_ble_eq_true rfl) (g_na11 bX6_init rfl) (fun q_6 H => ?_)
  clear hP hD hS
  intro hP hD hS
  have hPD := pd_as [_, _, _, _, _, _, _, _, _, _, _, _, _, zzJ cy q_6 40 (fun _ => 0)] hP hD rfl
  clear hP hD
  obtain ⟨hP, hD⟩ := hPD
  refine W.widen (k := 13) (n := 392) (Nat.le_of_ble_eq_true rfl) (Nat.le_of_ble_eq_true rfl) ?_
  refine va_putF (D := G) (ci := 5) (v := .ref q_6) (ty := (.array .long)) (C := RX6) (T := TX6) (N := 35) hx hb hts iX_X6 tyX6 tyX6_ok nmX6 hown hK hP hD hS 0 rfl rfl 4 (by decide +kernel) (hts _ m_t854) (fun _ h9 => h9) rfl hin rfl (by decide +kernel) rfl rfl (Nat.le_of_ble_eq_true rfl) (g_181 (v := 24) bX6_init rfl) (fun H locs => ?_)
  clear hP hD hS
  intro hP hD hS
  have hPD := pd_as [zzO qm 5 (.ref q_1 :: .ref q_2 :: .ref q_3 :: .ref q_4 :: .ref q_6 :: .null :: .null :: .null :: .int 0 :: .null :: .int 0 :: .null :: .int 0 :: .null :: .null :: .int 0 :: .int 0 :: .int 0 :: .null :: .null :: .int 0 :: .int 0 :: .int 0 :: .long 0 :: .int 0 :: .null :: .int 0 :: .int 0 :: .int 0 :: .null :: .null :: .null :: .null :: .null :: .int 0 :: []), _, _, _, _, _, _, _, _, _, _, _, _, _] hP hD rfl
  clear hP hD
  obtain ⟨hP, hD⟩ := hPD
  refine lv_aload_n hx hb (g_42 bX6_init rfl) rfl (lv_at hl 0 rfl) ?_
  refine lv_bipush (v := 8) hx hb dX6_init_49 (by decide +kernel) ?_
  refine newI hx hb hts m_t92 hN hP hD hS hA 8 (by decide +kernel) (by decide +kernel) (Nat.le_of_ble_eq_true rfl) (Nat.le_of_ble_eq_true rfl) (Nat.le_of_ble_eq_true rfl) (g_na10 bX6_init rfl) (fun q_7 H => ?_)
  clear hP hD hS
  intro hP hD hS
  have hPD := pd_as [_, _, _, _, _, _, _, _, _, _, _, _, _, _, zzI cy q_7 8 (fun _ => 0)] hP hD rfl
  clear hP hD
  obtain ⟨hP, hD⟩ := hPD
  refine W.widen (k := 14) (n := 400) (Nat.le_of_ble_eq_true rfl) (Nat.le_of_ble_eq_true rfl) ?_
  refine va_putF (D := G) (ci := 5) (v := .ref q_7) (ty := (.array .int)) (C := RX6) (T := TX6) (N := 35) hx hb hts iX_X6 tyX6 tyX6_ok nmX6 hown hK hP hD hS 0 rfl rfl 5 (by decide +kernel) (hts _ m_t855) (fun _ h9 => h9) rfl hin rfl (by decide +kernel) rfl rfl (Nat.le_of_ble_eq_true rfl) (g_181 (v := 28) bX6_init rfl) (fun H locs => ?_)
  clear hP hD hS
  intro hP hD hS
  have hPD := pd_as [zzO qm 5 (.ref q_1 :: .ref q_2 :: .ref q_3 :: .ref q_4 :: .ref q_6 :: .ref q_7 :: .null :: .null :: .int 0 :: .null :: .int 0 :: .null :: .int 0 :: .null :: .null :: .int 0 :: .int 0 :: .int 0 :: .null :: .null :: .int 0 :: .int 0 :: .int 0 :: .long 0 :: .int 0 :: .null :: .int 0 :: .int 0 :: .int 0 :: .null :: .null :: .null :: .null :: .null :: .int 0 :: []), _, _, _, _, _, _, _, _, _, _, _, _, _, _] hP hD rfl
  clear hP hD
  obtain ⟨hP, hD⟩ := hPD
  refine lv_aload_n hx hb (g_42 bX6_init rfl) rfl (lv_at hl 0 rfl) ?_
  refine lv_bipush (v := 8) hx hb dX6_init_57 (by decide +kernel) ?_
  refine newI hx hb hts m_t92 hN hP hD hS hA 8 (by decide +kernel) (by decide +kernel) (Nat.le_of_ble_eq_true rfl) (Nat.le_of_ble_eq_true rfl) (Nat.le_of_ble_eq_true rfl) (g_na10 bX6_init rfl) (fun q_8 H => ?_)
  clear hP hD hS
  intro hP hD hS
  have hPD := pd_as [_, _, _, _, _, _, _, _, _, _, _, _, _, _, _, zzI cy q_8 8 (fun _ => 0)] hP hD rfl
  clear hP hD
  obtain ⟨hP, hD⟩ := hPD
  refine W.widen (k := 15) (n := 408) (Nat.le_of_ble_eq_true rfl) (Nat.le_of_ble_eq_true rfl) ?_
  refine va_putF (D := G) (ci := 5) (v := .ref q_8) (ty := (.array .int)) (C := RX6) (T := TX6) (N := 35) hx hb hts iX_X6 tyX6 tyX6_ok nmX6 hown hK hP hD hS 0 rfl rfl 6 (by decide +kernel) (hts _ m_t856) (fun _ h9 => h9) rfl hin rfl (by decide +kernel) rfl rfl (Nat.le_of_ble_eq_true rfl) (g_181 (v := 31) bX6_init rfl) (fun H locs => ?_)
  clear hP hD hS
  intro hP hD hS
  have hPD := pd_as [zzO qm 5 (.ref q_1 :: .ref q_2 :: .ref q_3 :: .ref q_4 :: .ref q_6 :: .ref q_7 :: .ref q_8 :: .null :: .int 0 :: .null :: .int 0 :: .null :: .int 0 :: .null :: .null :: .int 0 :: .int 0 :: .int 0 :: .null :: .null :: .int 0 :: .int 0 :: .int 0 :: .long 0 :: .int 0 :: .null :: .int 0 :: .int 0 :: .int 0 :: .null :: .null :: .null :: .null :: .null :: .int 0 :: []), _, _, _, _, _, _, _, _, _, _, _, _, _, _, _] hP hD rfl
  clear hP hD
  obtain ⟨hP, hD⟩ := hPD
  refine lv_aload_n hx hb (g_42 bX6_init rfl) rfl (lv_at hl 0 rfl) ?_
  refine lv_sipush (v := 250) hx hb dX6_init_65 (by decide +kernel) ?_
  refine newI hx hb hts m_t92 hN hP hD hS hA 250 (by decide +kernel) (by decide +kernel) (Nat.le_of_ble_eq_true rfl) (Nat.le_of_ble_eq_true rfl) (Nat.le_of_ble_eq_true rfl) (g_na10 bX6_init rfl) (fun q_9 H => ?_)
  clear hP hD hS
  intro hP hD hS
  have hPD := pd_as [_, _, _, _, _, _, _, _, _, _, _, _, _, _, _, _, zzI cy q_9 250 (fun _ => 0)] hP hD rfl
  clear hP hD
  obtain ⟨hP, hD⟩ := hPD
  refine W.widen (k := 16) (n := 658) (Nat.le_of_ble_eq_true rfl) (Nat.le_of_ble_eq_true rfl) ?_
  refine va_putF (D := G) (ci := 5) (v := .ref q_9) (ty := (.array .int)) (C := RX6) (T := TX6) (N := 35) hx hb hts iX_X6 tyX6 tyX6_ok nmX6 hown hK hP hD hS 0 rfl rfl 7 (by decide +kernel) (hts _ m_t857) (fun _ h9 => h9) rfl hin rfl (by decide +kernel) rfl rfl (Nat.le_of_ble_eq_true rfl) (g_181 (v := 34) bX6_init rfl) (fun H locs => ?_)
  clear hP hD hS
  intro hP hD hS
  have hPD := pd_as [zzO qm 5 (.ref q_1 :: .ref q_2 :: .ref q_3 :: .ref q_4 :: .ref q_6 :: .ref q_7 :: .ref q_8 :: .ref q_9 :: .int 0 :: .null :: .int 0 :: .null :: .int 0 :: .null :: .null :: .int 0 :: .int 0 :: .int 0 :: .null :: .null :: .int 0 :: .int 0 :: .int 0 :: .long 0 :: .int 0 :: .null :: .int 0 :: .int 0 :: .int 0 :: .null :: .null :: .null :: .null :: .null :: .int 0 :: []), _, _, _, _, _, _, _, _, _, _, _, _, _, _, _, _] hP hD rfl
  clear hP hD
  obtain ⟨hP, hD⟩ := hPD
  refine lv_aload_n hx hb (g_42 bX6_init rfl) rfl (lv_at hl 0 rfl) ?_
  refine lv_bipush (v := 8) hx hb dX6_init_74 (by decide +kernel) ?_
  refine newI hx hb hts m_t92 hN hP hD hS hA 8 (by decide +kernel) (by decide +kernel) (Nat.le_of_ble_eq_true rfl) (Nat.le_of_ble_eq_true rfl) (Nat.le_of_ble_eq_true rfl) (g_na10 bX6_init rfl) (fun q_10 H => ?_)
  clear hP hD hS
  intro hP hD hS
  have hPD := pd_as [_, _, _, _, _, _, _, _, _, _, _, _, _, _, _, _, _, zzI cy q_10 8 (fun _ => 0)] hP hD rfl
  clear hP hD
  obtain ⟨hP, hD⟩ := hPD
  refine W.widen (k := 17) (n := 666) (Nat.le_of_ble_eq_true rfl) (Nat.le_of_ble_eq_true rfl) ?_
  refine va_putF (D := G) (ci := 5) (v := .ref q_10) (ty := (.array .int)) (C := RX6) (T := TX6) (N := 35) hx hb hts iX_X6 tyX6 tyX6_ok nmX6 hown hK hP hD hS 0 rfl rfl 9 (by decide +kernel) (hts _ m_t859) (fun _ h9 => h9) rfl hin rfl (by decide +kernel) rfl rfl (Nat.le_of_ble_eq_true rfl) (g_181 (v := 37) bX6_init rfl) (fun H locs => ?_)
  clear hP hD hS
  intro hP hD hS
  have hPD := pd_as [zzO qm 5 (.ref q_1 :: .ref q_2 :: .ref q_3 :: .ref q_4 :: .ref q_6 :: .ref q_7 :: .ref q_8 :: .ref q_9 :: .int 0 :: .ref q_10 :: .int 0 :: .null :: .int 0 :: .null :: .null :: .int 0 :: .int 0 :: .int 0 :: .null :: .null :: .int 0 :: .int 0 :: .int 0 :: .long 0 :: .int 0 :: .null :: .int 0 :: .int 0 :: .int 0 :: .null :: .null :: .null :: .null :: .null :: .int 0 :: []), _, _, _, _, _, _, _, _, _, _, _, _, _, _, _, _, _] hP hD rfl
  clear hP hD
  obtain ⟨hP, hD⟩ := hPD
  refine lv_aload_n hx hb (g_42 bX6_init rfl) rfl (lv_at hl 0 rfl) ?_
  refine lv_bipush (v := 8) hx hb dX6_init_82 (by decide +kernel) ?_
  refine lv_iconst (v := 4) hx hb (g_7 bX6_init rfl) (by decide +kernel) ?_
  refine newII hx hb hts hown m_t846 m_t92 hN hP hD hS hA 4 (by decide +kernel) (by decide +kernel) (by decide +kernel) (Nat.le_of_ble_eq_true rfl) (Nat.le_of_ble_eq_true rfl) (Nat.le_of_ble_eq_true rfl) (Nat.le_of_ble_eq_true rfl) dX6_init_85 (fun q_11 r_12 H => ?_)
  clear hP hD hS
  intro hP hD hS
  have hPD := pd_as [_, _, _, _, _, _, _, _, _, _, _, _, _, _, _, _, _, _, zzG cy 3 q_11 r_12, zzI cy (r_12 0) 4 (fun _ => 0), zzI cy (r_12 1) 4 (fun _ => 0), zzI cy (r_12 2) 4 (fun _ => 0), zzI cy (r_12 3) 4 (fun _ => 0), zzI cy (r_12 4) 4 (fun _ => 0), zzI cy (r_12 5) 4 (fun _ => 0), zzI cy (r_12 6) 4 (fun _ => 0), zzI cy (r_12 7) 4 (fun _ => 0)] hP hD rfl
  clear hP hD
  obtain ⟨hP, hD⟩ := hPD
  refine W.widen (k := 26) (n := 706) (Nat.le_of_ble_eq_true rfl) (Nat.le_of_ble_eq_true rfl) ?_
  refine va_putF (D := G) (ci := 5) (v := .ref q_11) (ty := (.array (.array .int))) (C := RX6) (T := TX6) (N := 35) hx hb hts iX_X6 tyX6 tyX6_ok nmX6 hown hK hP hD hS 0 rfl rfl 11 (by decide +kernel) (hts _ m_t861) (fun _ h9 => h9) rfl hin rfl (by decide +kernel) rfl rfl (Nat.le_of_ble_eq_true rfl) (g_181 (v := 42) bX6_init rfl) (fun H locs => ?_)
  clear hP hD hS
  intro hP hD hS
  have hPD := pd_as [zzO qm 5 (.ref q_1 :: .ref q_2 :: .ref q_3 :: .ref q_4 :: .ref q_6 :: .ref q_7 :: .ref q_8 :: .ref q_9 :: .int 0 :: .ref q_10 :: .int 0 :: .ref q_11 :: .int 0 :: .null :: .null :: .int 0 :: .int 0 :: .int 0 :: .null :: .null :: .int 0 :: .int 0 :: .int 0 :: .long 0 :: .int 0 :: .null :: .int 0 :: .int 0 :: .int 0 :: .null :: .null :: .null :: .null :: .null :: .int 0 :: []), _, _, _, _, _, _, _, _, _, _, _, _, _, _, _, _, _, _, _, _, _, _, _, _, _, _] hP hD rfl
  clear hP hD
  obtain ⟨hP, hD⟩ := hPD
  refine lv_aload_n hx hb (g_42 bX6_init rfl) rfl (lv_at hl 0 rfl) ?_
  refine lv_bipush (v := 8) hx hb dX6_init_93 (by decide +kernel) ?_
  refine lv_iconst (v := 5) hx hb (g_8 bX6_init rfl) (by decide +kernel) ?_
  refine newII hx hb hts hown m_t846 m_t92 hN hP hD hS hA 5 (by decide +kernel) (by decide +kernel) (by decide +kernel) (Nat.le_of_ble_eq_true rfl) (Nat.le_of_ble_eq_true rfl) (Nat.le_of_ble_eq_true rfl) (Nat.le_of_ble_eq_true rfl) dX6_init_96 (fun q_13 r_14 H => ?_)
  clear hP hD hS
  intro hP hD hS
  have hPD := pd_as (_ :: _ :: _ :: _ :: _ :: _ :: _ :: _ :: _ :: _ :: _ :: _ :: _ :: _ :: _ :: _ :: _ :: _ :: _ :: _ :: _ :: _ :: _ :: _ :: _ :: _ :: _ :: zzG cy 3 q_13 r_14 :: zzI cy (r_14 0) 5 (fun _ => 0) :: zzI cy (r_14 1) 5 (fun _ => 0) :: zzI cy (r_14 2) 5 (fun _ => 0) :: zzI cy (r_14 3) 5 (fun _ => 0) :: zzI cy (r_14 4) 5 (fun _ => 0) :: zzI cy (r_14 5) 5 (fun _ => 0) :: zzI cy (r_14 6) 5 (fun _ => 0) :: zzI cy (r_14 7) 5 (fun _ => 0) :: []) hP hD rfl
  clear hP hD
  obtain ⟨hP, hD⟩ := hPD
  refine W.widen (k := 35) (n := 754) (Nat.le_of_ble_eq_true rfl) (Nat.le_of_ble_eq_true rfl) ?_
  refine va_putF (D := G) (ci := 5) (v := .ref q_13) (ty := (.array (.array .int))) (C := RX6) (T := TX6) (N := 35) hx hb hts iX_X6 tyX6 tyX6_ok nmX6 hown hK hP hD hS 0 rfl rfl 13 (by decide +kernel) (hts _ m_t863) (fun _ h9 => h9) rfl hin rfl (by decide +kernel) rfl rfl (Nat.le_of_ble_eq_true rfl) (g_181 (v := 45) bX6_init rfl) (fun H locs => ?_)
  clear hP hD hS
  intro hP hD hS
  have hPD := pd_as (zzO qm 5 (.ref q_1 :: .ref q_2 :: .ref q_3 :: .ref q_4 :: .ref q_6 :: .ref q_7 :: .ref q_8 :: .ref q_9 :: .int 0 :: .ref q_10 :: .int 0 :: .ref q_11 :: .int 0 :: .ref q_13 :: .null :: .int 0 :: .int 0 :: .int 0 :: .null :: .null :: .int 0 :: .int 0 :: .int 0 :: .long 0 :: .int 0 :: .null :: .int 0 :: .int 0 :: .int 0 :: .null :: .null :: .null :: .null :: .null :: .int 0 :: []) :: _ :: _ :: _ :: _ :: _ :: _ :: _ :: _ :: _ :: _ :: _ :: _ :: _ :: _ :: _ :: _ :: _ :: _ :: _ :: _ :: _ :: _ :: _ :: _ :: _ :: _ :: _ :: _ :: _ :: _ :: _ :: _ :: _ :: _ :: _ :: []) hP hD rfl
  clear hP hD
  obtain ⟨hP, hD⟩ := hPD
  refine lv_aload_n hx hb (g_42 bX6_init rfl) rfl (lv_at hl 0 rfl) ?_
  refine lv_bipush (v := 8) hx hb dX6_init_104 (by decide +kernel) ?_
  refine lv_bipush (v := 8) hx hb dX6_init_106 (by decide +kernel) ?_
  refine newII hx hb hts hown m_t846 m_t92 hN hP hD hS hA 8 (by decide +kernel) (by decide +kernel) (by decide +kernel) (Nat.le_of_ble_eq_true rfl) (Nat.le_of_ble_eq_true rfl) (Nat.le_of_ble_eq_true rfl) (Nat.le_of_ble_eq_true rfl) dX6_init_108 (fun q_15 r_16 H => ?_)
  clear hP hD hS
  intro hP hD hS
  have hPD := pd_as (_ :: _ :: _ :: _ :: _ :: _ :: _ :: _ :: _ :: _ :: _ :: _ :: _ :: _ :: _ :: _ :: _ :: _ :: _ :: _ :: _ :: _ :: _ :: _ :: _ :: _ :: _ :: _ :: _ :: _ :: _ :: _ :: _ :: _ :: _ :: _ :: zzG cy 3 q_15 r_16 :: zzI cy (r_16 0) 8 (fun _ => 0) :: zzI cy (r_16 1) 8 (fun _ => 0) :: zzI cy (r_16 2) 8 (fun _ => 0) :: zzI cy (r_16 3) 8 (fun _ => 0) :: zzI cy (r_16 4) 8 (fun _ => 0) :: zzI cy (r_16 5) 8 (fun _ => 0) :: zzI cy (r_16 6) 8 (fun _ => 0) :: zzI cy (r_16 7) 8 (fun _ => 0) :: []) hP hD rfl
  clear hP hD
  obtain ⟨hP, hD⟩ := hPD
  refine W.widen (k := 44) (n := 826) (Nat.le_of_ble_eq_true rfl) (Nat.le_of_ble_eq_true rfl) ?_
  refine va_putF (D := G) (ci := 5) (v := .ref q_15) (ty := (.array (.array .int))) (C := RX6) (T := TX6) (N := 35) hx hb hts iX_X6 tyX6 tyX6_ok nmX6 hown hK hP hD hS 0 rfl rfl 14 (by decide +kernel) (hts _ m_t864) (fun _ h9 => h9) rfl hin rfl (by decide +kernel) rfl rfl (Nat.le_of_ble_eq_true rfl) (g_181 (v := 48) bX6_init rfl) (fun H locs => ?_)
  clear hP hD hS
  intro hP hD hS
  have hPD := pd_as (zzO qm 5 (.ref q_1 :: .ref q_2 :: .ref q_3 :: .ref q_4 :: .ref q_6 :: .ref q_7 :: .ref q_8 :: .ref q_9 :: .int 0 :: .ref q_10 :: .int 0 :: .ref q_11 :: .int 0 :: .ref q_13 :: .ref q_15 :: .int 0 :: .int 0 :: .int 0 :: .null :: .null :: .int 0 :: .int 0 :: .int 0 :: .long 0 :: .int 0 :: .null :: .int 0 :: .int 0 :: .int 0 :: .null :: .null :: .null :: .null :: .null :: .int 0 :: []) :: _ :: _ :: _ :: _ :: _ :: _ :: _ :: _ :: _ :: _ :: _ :: _ :: _ :: _ :: _ :: _ :: _ :: _ :: _ :: _ :: _ :: _ :: _ :: _ :: _ :: _ :: _ :: _ :: _ :: _ :: _ :: _ :: _ :: _ :: _ :: _ :: _ :: _ :: _ :: _ :: _ :: _ :: _ :: _ :: []) hP hD rfl
  clear hP hD
  obtain ⟨hP, hD⟩ := hPD
  refine lv_aload_n hx hb (g_42 bX6_init rfl) rfl (lv_at hl 0 rfl) ?_
  refine lv_iconst (v := 1) hx hb (g_4 bX6_init rfl) (by decide +kernel) ?_
  refine va_put (D := G) (ci := 5) (v := .int 1) (ty := .int) (C := RX6) (T := TX6) (N := 35) hx hb hts iX_X6 tyX6 tyX6_ok nmX6 hown hK hP hD hS 0 rfl rfl 17 (by decide +kernel) (hts _ m_t867) (fun _ h9 => h9) rfl (by decide +kernel) rfl rfl (Nat.le_of_ble_eq_true rfl) (g_181 (v := 51) bX6_init rfl) (fun H locs => ?_)
  clear hP hD hS
  intro hP hD hS
  have hPD := pd_as (zzO qm 5 (.ref q_1 :: .ref q_2 :: .ref q_3 :: .ref q_4 :: .ref q_6 :: .ref q_7 :: .ref q_8 :: .ref q_9 :: .int 0 :: .ref q_10 :: .int 0 :: .ref q_11 :: .int 0 :: .ref q_13 :: .ref q_15 :: .int 0 :: .int 0 :: .int 1 :: .null :: .null :: .int 0 :: .int 0 :: .int 0 :: .long 0 :: .int 0 :: .null :: .int 0 :: .int 0 :: .int 0 :: .null :: .null :: .null :: .null :: .null :: .int 0 :: []) :: _ :: _ :: _ :: _ :: _ :: _ :: _ :: _ :: _ :: _ :: _ :: _ :: _ :: _ :: _ :: _ :: _ :: _ :: _ :: _ :: _ :: _ :: _ :: _ :: _ :: _ :: _ :: _ :: _ :: _ :: _ :: _ :: _ :: _ :: _ :: _ :: _ :: _ :: _ :: _ :: _ :: _ :: _ :: _ :: []) hP hD rfl
  clear hP hD
  obtain ⟨hP, hD⟩ := hPD
  refine lv_aload_n hx hb (g_42 bX6_init rfl) rfl (lv_at hl 0 rfl) ?_
  refine lv_iconst (v := 3) hx hb (g_6 bX6_init rfl) (by decide +kernel) ?_
  refine newI hx hb hts m_t92 hN hP hD hS hA 3 (by decide +kernel) (by decide +kernel) (Nat.le_of_ble_eq_true rfl) (Nat.le_of_ble_eq_true rfl) (Nat.le_of_ble_eq_true rfl) (g_na10 bX6_init rfl) (fun q_17 H => ?_)
  clear hP hD hS
  intro hP hD hS
  have hPD := pd_as (_ :: _ :: _ :: _ :: _ :: _ :: _ :: _ :: _ :: _ :: _ :: _ :: _ :: _ :: _ :: _ :: _ :: _ :: _ :: _ :: _ :: _ :: _ :: _ :: _ :: _ :: _ :: _ :: _ :: _ :: _ :: _ :: _ :: _ :: _ :: _ :: _ :: _ :: _ :: _ :: _ :: _ :: _ :: _ :: _ :: zzI cy q_17 3 (fun _ => 0) :: []) hP hD rfl
  clear hP hD
  obtain ⟨hP, hD⟩ := hPD
  refine W.widen (k := 45) (n := 829) (Nat.le_of_ble_eq_true rfl) (Nat.le_of_ble_eq_true rfl) ?_
  refine va_putF (D := G) (ci := 5) (v := .ref q_17) (ty := (.array .int)) (C := RX6) (T := TX6) (N := 35) hx hb hts iX_X6 tyX6 tyX6_ok nmX6 hown hK hP hD hS 0 rfl rfl 25 (by decide +kernel) (hts _ m_t875) (fun _ h9 => h9) rfl hin rfl (by decide +kernel) rfl rfl (Nat.le_of_ble_eq_true rfl) (g_181 (v := 55) bX6_init rfl) (fun H locs => ?_)
  clear hP hD hS
  intro hP hD hS
  have hPD := pd_as (zzO qm 5 (.ref q_1 :: .ref q_2 :: .ref q_3 :: .ref q_4 :: .ref q_6 :: .ref q_7 :: .ref q_8 :: .ref q_9 :: .int 0 :: .ref q_10 :: .int 0 :: .ref q_11 :: .int 0 :: .ref q_13 :: .ref q_15 :: .int 0 :: .int 0 :: .int 1 :: .null :: .null :: .int 0 :: .int 0 :: .int 0 :: .long 0 :: .int 0 :: .ref q_17 :: .int 0 :: .int 0 :: .int 0 :: .null :: .null :: .null :: .null :: .null :: .int 0 :: []) :: _ :: _ :: _ :: _ :: _ :: _ :: _ :: _ :: _ :: _ :: _ :: _ :: _ :: _ :: _ :: _ :: _ :: _ :: _ :: _ :: _ :: _ :: _ :: _ :: _ :: _ :: _ :: _ :: _ :: _ :: _ :: _ :: _ :: _ :: _ :: _ :: _ :: _ :: _ :: _ :: _ :: _ :: _ :: _ :: _ :: []) hP hD rfl
  clear hP hD
  obtain ⟨hP, hD⟩ := hPD
  refine lv_aload_n hx hb (g_42 bX6_init rfl) rfl (lv_at hl 0 rfl) ?_
  refine lv_bipush (v := 8) hx hb dX6_init_128 (by decide +kernel) ?_
  refine newI hx hb hts m_t92 hN hP hD hS hA 8 (by decide +kernel) (by decide +kernel) (Nat.le_of_ble_eq_true rfl) (Nat.le_of_ble_eq_true rfl) (Nat.le_of_ble_eq_true rfl) (g_na10 bX6_init rfl) (fun q_18 H => ?_)
  clear hP hD hS
  intro hP hD hS
  have hPD := pd_as (_ :: _ :: _ :: _ :: _ :: _ :: _ :: _ :: _ :: _ :: _ :: _ :: _ :: _ :: _ :: _ :: _ :: _ :: _ :: _ :: _ :: _ :: _ :: _ :: _ :: _ :: _ :: _ :: _ :: _ :: _ :: _ :: _ :: _ :: _ :: _ :: _ :: _ :: _ :: _ :: _ :: _ :: _ :: _ :: _ :: _ :: zzI cy q_18 8 (fun _ => 0) :: []) hP hD rfl
  clear hP hD
  obtain ⟨hP, hD⟩ := hPD
  refine W.widen (k := 46) (n := 837) (Nat.le_of_ble_eq_true rfl) (Nat.le_of_ble_eq_true rfl) ?_
  refine va_putF (D := G) (ci := 5) (v := .ref q_18) (ty := (.array .int)) (C := RX6) (T := TX6) (N := 35) hx hb hts iX_X6 tyX6 tyX6_ok nmX6 hown hK hP hD hS 0 rfl rfl 30 (by decide +kernel) (hts _ m_t880) (fun _ h9 => h9) rfl hin rfl (by decide +kernel) rfl rfl (Nat.le_of_ble_eq_true rfl) (g_181 (v := 58) bX6_init rfl) (fun H locs => ?_)
  clear hP hD hS
  intro hP hD hS
  have hPD := pd_as (zzO qm 5 (.ref q_1 :: .ref q_2 :: .ref q_3 :: .ref q_4 :: .ref q_6 :: .ref q_7 :: .ref q_8 :: .ref q_9 :: .int 0 :: .ref q_10 :: .int 0 :: .ref q_11 :: .int 0 :: .ref q_13 :: .ref q_15 :: .int 0 :: .int 0 :: .int 1 :: .null :: .null :: .int 0 :: .int 0 :: .int 0 :: .long 0 :: .int 0 :: .ref q_17 :: .int 0 :: .int 0 :: .int 0 :: .null :: .ref q_18 :: .null :: .null :: .null :: .int 0 :: []) :: _ :: _ :: _ :: _ :: _ :: _ :: _ :: _ :: _ :: _ :: _ :: _ :: _ :: _ :: _ :: _ :: _ :: _ :: _ :: _ :: _ :: _ :: _ :: _ :: _ :: _ :: _ :: _ :: _ :: _ :: _ :: _ :: _ :: _ :: _ :: _ :: _ :: _ :: _ :: _ :: _ :: _ :: _ :: _ :: _ :: _ :: []) hP hD rfl
  clear hP hD
  obtain ⟨hP, hD⟩ := hPD
  refine lv_aload_n hx hb (g_42 bX6_init rfl) rfl (lv_at hl 0 rfl) ?_
  refine lv_iconst (v := 5) hx hb (g_8 bX6_init rfl) (by decide +kernel) ?_
  refine newI hx hb hts m_t92 hN hP hD hS hA 5 (by decide +kernel) (by decide +kernel) (Nat.le_of_ble_eq_true rfl) (Nat.le_of_ble_eq_true rfl) (Nat.le_of_ble_eq_true rfl) (g_na10 bX6_init rfl) (fun q_19 H => ?_)
  clear hP hD hS
  intro hP hD hS
  have hPD := pd_as (_ :: _ :: _ :: _ :: _ :: _ :: _ :: _ :: _ :: _ :: _ :: _ :: _ :: _ :: _ :: _ :: _ :: _ :: _ :: _ :: _ :: _ :: _ :: _ :: _ :: _ :: _ :: _ :: _ :: _ :: _ :: _ :: _ :: _ :: _ :: _ :: _ :: _ :: _ :: _ :: _ :: _ :: _ :: _ :: _ :: _ :: _ :: zzI cy q_19 5 (fun _ => 0) :: []) hP hD rfl
  clear hP hD
  obtain ⟨hP, hD⟩ := hPD
  refine W.widen (k := 47) (n := 842) (Nat.le_of_ble_eq_true rfl) (Nat.le_of_ble_eq_true rfl) ?_
  refine va_putF (D := G) (ci := 5) (v := .ref q_19) (ty := (.array .int)) (C := RX6) (T := TX6) (N := 35) hx hb hts iX_X6 tyX6 tyX6_ok nmX6 hown hK hP hD hS 0 rfl rfl 31 (by decide +kernel) (hts _ m_t881) (fun _ h9 => h9) rfl hin rfl (by decide +kernel) rfl rfl (Nat.le_of_ble_eq_true rfl) (g_181 (v := 61) bX6_init rfl) (fun H locs => ?_)
  clear hP hD hS
  intro hP hD hS
  have hPD := pd_as (zzO qm 5 (.ref q_1 :: .ref q_2 :: .ref q_3 :: .ref q_4 :: .ref q_6 :: .ref q_7 :: .ref q_8 :: .ref q_9 :: .int 0 :: .ref q_10 :: .int 0 :: .ref q_11 :: .int 0 :: .ref q_13 :: .ref q_15 :: .int 0 :: .int 0 :: .int 1 :: .null :: .null :: .int 0 :: .int 0 :: .int 0 :: .long 0 :: .int 0 :: .ref q_17 :: .int 0 :: .int 0 :: .int 0 :: .null :: .ref q_18 :: .ref q_19 :: .null :: .null :: .int 0 :: []) :: _ :: _ :: _ :: _ :: _ :: _ :: _ :: _ :: _ :: _ :: _ :: _ :: _ :: _ :: _ :: _ :: _ :: _ :: _ :: _ :: _ :: _ :: _ :: _ :: _ :: _ :: _ :: _ :: _ :: _ :: _ :: _ :: _ :: _ :: _ :: _ :: _ :: _ :: _ :: _ :: _ :: _ :: _ :: _ :: _ :: _ :: _ :: []) hP hD rfl
  clear hP hD
  obtain ⟨hP, hD⟩ := hPD
  refine lv_aload_n hx hb (g_42 bX6_init rfl) rfl (lv_at hl 0 rfl) ?_
  refine lv_iconst (v := 5) hx hb (g_8 bX6_init rfl) (by decide +kernel) ?_
  refine newI hx hb hts m_t92 hN hP hD hS hA 5 (by decide +kernel) (by decide +kernel) (Nat.le_of_ble_eq_true rfl) (Nat.le_of_ble_eq_true rfl) (Nat.le_of_ble_eq_true rfl) (g_na10 bX6_init rfl) (fun q_20 H => ?_)
  clear hP hD hS
  intro hP hD hS
  have hPD := pd_as (_ :: _ :: _ :: _ :: _ :: _ :: _ :: _ :: _ :: _ :: _ :: _ :: _ :: _ :: _ :: _ :: _ :: _ :: _ :: _ :: _ :: _ :: _ :: _ :: _ :: _ :: _ :: _ :: _ :: _ :: _ :: _ :: _ :: _ :: _ :: _ :: _ :: _ :: _ :: _ :: _ :: _ :: _ :: _ :: _ :: _ :: _ :: _ :: zzI cy q_20 5 (fun _ => 0) :: []) hP hD rfl
  clear hP hD
  obtain ⟨hP, hD⟩ := hPD
  refine W.widen (k := 48) (n := 847) (Nat.le_of_ble_eq_true rfl) (Nat.le_of_ble_eq_true rfl) ?_
  refine va_putF (D := G) (ci := 5) (v := .ref q_20) (ty := (.array .int)) (C := RX6) (T := TX6) (N := 35) hx hb hts iX_X6 tyX6 tyX6_ok nmX6 hown hK hP hD hS 0 rfl rfl 32 (by decide +kernel) (hts _ m_t882) (fun _ h9 => h9) rfl hin rfl (by decide +kernel) rfl rfl (Nat.le_of_ble_eq_true rfl) (g_181 (v := 64) bX6_init rfl) (fun H locs => ?_)
  clear hP hD hS
  intro hP hD hS
  have hPD := pd_as (zzO qm 5 (.ref q_1 :: .ref q_2 :: .ref q_3 :: .ref q_4 :: .ref q_6 :: .ref q_7 :: .ref q_8 :: .ref q_9 :: .int 0 :: .ref q_10 :: .int 0 :: .ref q_11 :: .int 0 :: .ref q_13 :: .ref q_15 :: .int 0 :: .int 0 :: .int 1 :: .null :: .null :: .int 0 :: .int 0 :: .int 0 :: .long 0 :: .int 0 :: .ref q_17 :: .int 0 :: .int 0 :: .int 0 :: .null :: .ref q_18 :: .ref q_19 :: .ref q_20 :: .null :: .int 0 :: []) :: _ :: _ :: _ :: _ :: _ :: _ :: _ :: _ :: _ :: _ :: _ :: _ :: _ :: _ :: _ :: _ :: _ :: _ :: _ :: _ :: _ :: _ :: _ :: _ :: _ :: _ :: _ :: _ :: _ :: _ :: _ :: _ :: _ :: _ :: _ :: _ :: _ :: _ :: _ :: _ :: _ :: _ :: _ :: _ :: _ :: _ :: _ :: _ :: []) hP hD rfl
  clear hP hD
  obtain ⟨hP, hD⟩ := hPD
  refine lv_aload_n hx hb (g_42 bX6_init rfl) rfl (lv_at hl 0 rfl) ?_
  refine lv_bipush (v := 6) hx hb dX6_init_150 (by decide +kernel) ?_
  refine newM hx hb hts hown m_t848 hN hP hD hS hA 6 (by decide +kernel) (by decide +kernel) (Nat.le_of_ble_eq_true rfl) (Nat.le_of_ble_eq_true rfl) (Nat.le_of_ble_eq_true rfl) (g_189 (v := 8) bX6_init rfl) (fun q_21 H => ?_)
  clear hP hD hS
  intro hP hD hS
  have hPD := pd_as (_ :: _ :: _ :: _ :: _ :: _ :: _ :: _ :: _ :: _ :: _ :: _ :: _ :: _ :: _ :: _ :: _ :: _ :: _ :: _ :: _ :: _ :: _ :: _ :: _ :: _ :: _ :: _ :: _ :: _ :: _ :: _ :: _ :: _ :: _ :: _ :: _ :: _ :: _ :: _ :: _ :: _ :: _ :: _ :: _ :: _ :: _ :: _ :: _ :: zzQ cy 5 q_21 6 (fun _ => none) :: []) hP hD rfl
  clear hP hD
  obtain ⟨hP, hD⟩ := hPD
  refine W.widen (k := 49) (n := 853) (Nat.le_of_ble_eq_true rfl) (Nat.le_of_ble_eq_true rfl) ?_
  refine va_putF (D := G) (ci := 5) (v := .ref q_21) (ty := (.array (.object "EachBookOnceModel"))) (C := RX6) (T := TX6) (N := 35) hx hb hts iX_X6 tyX6 tyX6_ok nmX6 hown hK hP hD hS 0 rfl rfl 33 (by decide +kernel) (hts _ m_t883) (fun _ h9 => h9) rfl hin rfl (by decide +kernel) rfl rfl (Nat.le_of_ble_eq_true rfl) (g_181 (v := 67) bX6_init rfl) (fun H locs => ?_)
  clear hP hD hS
  intro hP hD hS
  have hPD := pd_as (zzO qm 5 (.ref q_1 :: .ref q_2 :: .ref q_3 :: .ref q_4 :: .ref q_6 :: .ref q_7 :: .ref q_8 :: .ref q_9 :: .int 0 :: .ref q_10 :: .int 0 :: .ref q_11 :: .int 0 :: .ref q_13 :: .ref q_15 :: .int 0 :: .int 0 :: .int 1 :: .null :: .null :: .int 0 :: .int 0 :: .int 0 :: .long 0 :: .int 0 :: .ref q_17 :: .int 0 :: .int 0 :: .int 0 :: .null :: .ref q_18 :: .ref q_19 :: .ref q_20 :: .ref q_21 :: .int 0 :: []) :: _ :: _ :: _ :: _ :: _ :: _ :: _ :: _ :: _ :: _ :: _ :: _ :: _ :: _ :: _ :: _ :: _ :: _ :: _ :: _ :: _ :: _ :: _ :: _ :: _ :: _ :: _ :: _ :: _ :: _ :: _ :: _ :: _ :: _ :: _ :: _ :: _ :: _ :: _ :: _ :: _ :: _ :: _ :: _ :: _ :: _ :: _ :: _ :: _ :: []) hP hD rfl
  clear hP hD
  obtain ⟨hP, hD⟩ := hPD
  exact endVs [(true :: true :: true :: true :: false :: false :: false :: false :: false :: false :: false :: false :: false :: true :: true :: true :: true :: true :: false :: false :: false :: false :: false :: false :: false :: false :: false :: false :: false :: false :: false :: false :: false :: false :: false :: false :: false :: false :: false :: false :: false :: false :: false :: false :: false :: true :: true :: true :: true :: []), (false :: false :: false :: false :: true :: true :: true :: true :: true :: true :: true :: true :: true :: false :: false :: false :: false :: false :: true :: true :: true :: true :: true :: true :: true :: true :: true :: true :: true :: true :: true :: true :: true :: true :: true :: true :: true :: true :: true :: true :: true :: true :: true :: true :: true :: false :: false :: false :: false :: true :: [])] hx hb hr hlocks hP hD rfl (by decide +kernel) hS ⟨q_1, q_2, q_3, q_6, q_7, q_8, q_9, q_10, q_17, q_18, q_19, q_20, q_4, q_11, q_13, q_15, r_5, r_12, r_14, r_16, q_21, rfl⟩ (g_177 bX6_init rfl)
end
section
noncomputable def XW (cy : Nat → ClassId) (aX : Nat → Nat) (iKp : Int32) (iYe : Int32) (iTv : Int32) (fR : Nat → Int32) (tA : TA) (tB : TA) (iL : Int32) (iBs : Int32) (tU : TA) (tV : TA) (fH : Nat → Int32) (fS : Nat → Int32) (fA : Nat → Int32) (gE : Nat → Int64) (kZ : Nat) (iT1 : Int32) (iT2 : Int32) (iT3 : Int32) (iT4 : Int32) (fB : Nat → Int32) (tD : TA) : va_W := (zzO (aX 0) 4 [.ref (aX 2), .ref (aX 11), .ref (aX 20), .ref (aX 39), .ref (aX 44), .ref (aX 1), .int iKp, .int iYe, .int iTv] :: zzI cy (aX 1) 5 fR :: zzO (aX 2) 3 [.int (nI (T_nb tA)), .int (nI (T_np tA)), .int (wb (T_wh tA)), .int (wb (T_gn tA)), .int (T_sd tA), .ref (aX 3), .ref (aX 4), .ref (aX 5), .ref (aX 6), .ref (aX 7), .ref (aX 8), .ref (aX 9), .ref (aX 10)] :: zzI cy (aX 3) 8 (T_wo tA) :: zzI cy (aX 4) 8 (T_ne tA) :: zzI cy (aX 5) 8 (T_go tA) :: zzI cy (aX 6) 8 (T_ag tA) :: zzI cy (aX 7) 8 (T_re tA) :: zzI cy (aX 8) 8 (T_me tA) :: zzI cy (aX 9) 8 (T_te tA) :: zzI cy (aX 10) 64 (shF (T_kn tA)) :: zzO (aX 11) 3 [.int (nI (T_nb tB)), .int (nI (T_np tB)), .int (wb (T_wh tB)), .int (wb (T_gn tB)), .int (T_sd tB), .ref (aX 12), .ref (aX 13), .ref (aX 14), .ref (aX 15), .ref (aX 16), .ref (aX 17), .ref (aX 18), .ref (aX 19)] :: zzI cy (aX 12) 8 (T_wo tB) :: zzI cy (aX 13) 8 (T_ne tB) :: zzI cy (aX 14) 8 (T_go tB) :: zzI cy (aX 15) 8 (T_ag tB) :: zzI cy (aX 16) 8 (T_re tB) :: zzI cy (aX 17) 8 (T_me tB) :: zzI cy (aX 18) 8 (T_te tB) :: zzI cy (aX 19) 64 (shF (T_kn tB)) :: zzO (aX 20) 0 [.ref (aX 21), .ref (aX 30), .int iL, .int iBs] :: zzO (aX 21) 3 [.int (nI (T_nb tU)), .int (nI (T_np tU)), .int (wb (T_wh tU)), .int (wb (T_gn tU)), .int (T_sd tU), .ref (aX 22), .ref (aX 23), .ref (aX 24), .ref (aX 25), .ref (aX 26), .ref (aX 27), .ref (aX 28), .ref (aX 29)] :: zzI cy (aX 22) 8 (T_wo tU) :: zzI cy (aX 23) 8 (T_ne tU) :: zzI cy (aX 24) 8 (T_go tU) :: zzI cy (aX 25) 8 (T_ag tU) :: zzI cy (aX 26) 8 (T_re tU) :: zzI cy (aX 27) 8 (T_me tU) :: zzI cy (aX 28) 8 (T_te tU) :: zzI cy (aX 29) 64 (shF (T_kn tU)) :: zzO (aX 30) 3 [.int (nI (T_nb tV)), .int (nI (T_np tV)), .int (wb (T_wh tV)), .int (wb (T_gn tV)), .int (T_sd tV), .ref (aX 31), .ref (aX 32), .ref (aX 33), .ref (aX 34), .ref (aX 35), .ref (aX 36), .ref (aX 37), .ref (aX 38)] :: zzI cy (aX 31) 8 (T_wo tV) :: zzI cy (aX 32) 8 (T_ne tV) :: zzI cy (aX 33) 8 (T_go tV) :: zzI cy (aX 34) 8 (T_ag tV) :: zzI cy (aX 35) 8 (T_re tV) :: zzI cy (aX 36) 8 (T_me tV) :: zzI cy (aX 37) 8 (T_te tV) :: zzI cy (aX 38) 64 (shF (T_kn tV)) :: zzO (aX 39) 1 [.ref (aX 40), .ref (aX 41), .ref (aX 42), .ref (aX 43)] :: zzI cy (aX 40) 8 fH :: zzI cy (aX 41) 8 fS :: zzI cy (aX 42) 8 fA :: zzJ cy (aX 43) 320 gE :: zzO (aX 44) 2 [.ref (aX 45), .int (nI kZ), .int iT1, .int iT2, .int iT3, .int iT4, .ref (aX 46)] :: zzB cy (aX 45) 250 fB :: zzO (aX 46) 3 [.int (nI (T_nb tD)), .int (nI (T_np tD)), .int (wb (T_wh tD)), .int (wb (T_gn tD)), .int (T_sd tD), .ref (aX 47), .ref (aX 48), .ref (aX 49), .ref (aX 50), .ref (aX 51), .ref (aX 52), .ref (aX 53), .ref (aX 54)] :: zzI cy (aX 47) 8 (T_wo tD) :: zzI cy (aX 48) 8 (T_ne tD) :: zzI cy (aX 49) 8 (T_go tD) :: zzI cy (aX 50) 8 (T_ag tD) :: zzI cy (aX 51) 8 (T_re tD) :: zzI cy (aX 52) 8 (T_me tD) :: zzI cy (aX 53) 8 (T_te tD) :: zzI cy (aX 54) 64 (shF (T_kn tD)) :: [])
noncomputable def MK (cy : Nat → ClassId) (aM : Nat → Nat) (rR rB rO rK : Nat → Nat) (fMh : Nat → Int32) (fMo : Nat → Int32) (fMz : Nat → Int32) (gMv : Nat → Int64) (fMk : Nat → Int32) (fMa : Nat → Int32) (fMt : Nat → Int32) (kY : Nat) (fMr : Nat → Int32) (fM3 : Nat → Int32) (fMu : Nat → Int32) (fMy : Nat → Int32) (fMb : Nat → Int32) (eR : Nat → Nat → Int64) (tM : TA) (iEn : Int32) (iTk : Int32) (uP : UM) (uU : UM) (kAt : Nat) (iTo : Int32) (iFr : Int32) (JFi : Int64) (iFa : Int32) (iSt : Int32) (iLv : Int32) (iWs : Int32) (wL : UL) (uS0 : UM) (uS1 : UM) (uS2 : UM) (uS3 : UM) (uS4 : UM) (iOm : Int32) : va_W := (zzO (aM 0) 5 (.ref (aM 1) :: .ref (aM 2) :: .ref (aM 3) :: .ref (aM 14) :: .ref (aM 4) :: .ref (aM 5) :: .ref (aM 6) :: .ref (aM 7) :: .int (nI kY) :: .ref (aM 8) :: .int (nI (T_nb tM)) :: .ref (aM 15) :: .int (nI (T_np tM)) :: .ref (aM 16) :: .ref (aM 17) :: .int iEn :: .int iTk :: .int (T_sd tM) :: ov uP :: ov uU :: .int (nI kAt) :: .int iTo :: .int iFr :: .long JFi :: .int iFa :: .ref (aM 9) :: .int iSt :: .int iLv :: .int iWs :: ovL wL :: .ref (aM 10) :: .ref (aM 11) :: .ref (aM 12) :: .ref (aM 13) :: .int iOm :: []) :: zzI cy (aM 1) 8 fMh :: zzI cy (aM 2) 8 fMo :: zzI cy (aM 3) 8 fMz :: zzJ cy (aM 4) 40 gMv :: zzI cy (aM 5) 8 fMk :: zzI cy (aM 6) 8 fMa :: zzI cy (aM 7) 250 fMt :: zzI cy (aM 8) 8 fMr :: zzI cy (aM 9) 3 fM3 :: zzI cy (aM 10) 8 fMu :: zzI cy (aM 11) 5 fMy :: zzI cy (aM 12) 5 fMb :: zzQ cy 5 (aM 13) 6 (sF (refU uS0) (refU uS1) (refU uS2) (refU uS3) (refU uS4)) :: zzG cy 4 (aM 14) rR :: zzJ cy (rR 0) 40 (eR 0) :: zzJ cy (rR 1) 40 (eR 1) :: zzJ cy (rR 2) 40 (eR 2) :: zzJ cy (rR 3) 40 (eR 3) :: zzJ cy (rR 4) 40 (eR 4) :: zzJ cy (rR 5) 40 (eR 5) :: zzJ cy (rR 6) 40 (eR 6) :: zzJ cy (rR 7) 40 (eR 7) :: zzG cy 3 (aM 15) rB :: zzI cy (rB 0) 4 (bkR tM 0) :: zzI cy (rB 1) 4 (bkR tM 1) :: zzI cy (rB 2) 4 (bkR tM 2) :: zzI cy (rB 3) 4 (bkR tM 3) :: zzI cy (rB 4) 4 (bkR tM 4) :: zzI cy (rB 5) 4 (bkR tM 5) :: zzI cy (rB 6) 4 (bkR tM 6) :: zzI cy (rB 7) 4 (bkR tM 7) :: zzG cy 3 (aM 16) rO :: zzI cy (rO 0) 5 (onR tM 0) :: zzI cy (rO 1) 5 (onR tM 1) :: zzI cy (rO 2) 5 (onR tM 2) :: zzI cy (rO 3) 5 (onR tM 3) :: zzI cy (rO 4) 5 (onR tM 4) :: zzI cy (rO 5) 5 (onR tM 5) :: zzI cy (rO 6) 5 (onR tM 6) :: zzI cy (rO 7) 5 (onR tM 7) :: zzG cy 3 (aM 17) rK :: zzI cy (rK 0) 8 (T_kn tM 0) :: zzI cy (rK 1) 8 (T_kn tM 1) :: zzI cy (rK 2) 8 (T_kn tM 2) :: zzI cy (rK 3) 8 (T_kn tM 3) :: zzI cy (rK 4) 8 (T_kn tM 4) :: zzI cy (rK 5) 8 (T_kn tM 5) :: zzI cy (rK 6) 8 (T_kn tM 6) :: zzI cy (rK 7) 8 (T_kn tM 7) :: [])
section PERM
variable {G : va_G} {H : Heap} {A : Nat → Prop} {a b c d k t x u l s p q w : va_W}
theorem rotP (h : va_P G CL (a ++ (b ++ (c ++ d))) H) : va_P G CL (a ++ (c ++ (b ++ d))) H := by
  have h1 : va_P G CL ((a ++ b) ++ (c ++ d)) H := by rw [List.append_assoc]; exact h
  have h2 := h1.swap
  have h3 : va_P G CL (((a ++ c) ++ d) ++ b) H := by rw [List.append_assoc a c d]; exact h2
  have h4 := h3.swap
  rw [List.append_assoc, List.append_assoc] at h4
  exact h4
theorem rotD (h : va_D A (a ++ (b ++ (c ++ d)))) : va_D A (a ++ (c ++ (b ++ d))) := by
  have h1 : va_D A ((a ++ b) ++ (c ++ d)) := by rw [List.append_assoc]; exact h
  have h2 := h1.swap
  have h3 : va_D A (((a ++ c) ++ d) ++ b) := by rw [List.append_assoc a c d]; exact h2
  have h4 := h3.swap
  rw [List.append_assoc, List.append_assoc] at h4
  exact h4
theorem toNP (h : va_P G CL (x ++ (k ++ t)) H) : va_P G CL (k ++ (t ++ x)) H := by
  have h0 := h
  have h1 : va_P G CL ([] ++ ((k ++ t) ++ (x ++ []))) H := rotP (a := []) (b := x) (c := (k ++ t)) (d := []) (by simpa only [List.append_assoc, List.nil_append, List.append_nil] using h0)
  simpa only [List.append_assoc, List.nil_append, List.append_nil] using h1
theorem toND (h : va_D A (x ++ (k ++ t))) : va_D A (k ++ (t ++ x)) := by
  have h0 := h
  have h1 : va_D A ([] ++ ((k ++ t) ++ (x ++ []))) := rotD (a := []) (b := x) (c := (k ++ t)) (d := []) (by simpa only [List.append_assoc, List.nil_append, List.append_nil] using h0)
  simpa only [List.append_assoc, List.nil_append, List.append_nil] using h1
theorem ofNP (h : va_P G CL (k ++ (t ++ x)) H) : va_P G CL (x ++ (k ++ t)) H := by
  have h0 := h
  have h1 : va_P G CL ([] ++ (x ++ ((k ++ t) ++ []))) H := rotP (a := []) (b := (k ++ t)) (c := x) (d := []) (by simpa only [List.append_assoc, List.nil_append, List.append_nil] using h0)
  simpa only [List.append_assoc, List.nil_append, List.append_nil] using h1
theorem ofND (h : va_D A (k ++ (t ++ x))) : va_D A (x ++ (k ++ t)) := by
  have h0 := h
  have h1 : va_D A ([] ++ (x ++ ((k ++ t) ++ []))) := rotD (a := []) (b := (k ++ t)) (c := x) (d := []) (by simpa only [List.append_assoc, List.nil_append, List.append_nil] using h0)
  simpa only [List.append_assoc, List.nil_append, List.append_nil] using h1
theorem toUP (h : va_P G CL (x ++ (k ++ (u ++ t))) H) : va_P G CL ((k ++ u) ++ (t ++ x)) H := by
  have h0 := h
  have h1 : va_P G CL ([] ++ ((k ++ (u ++ t)) ++ (x ++ []))) H := rotP (a := []) (b := x) (c := (k ++ (u ++ t))) (d := []) (by simpa only [List.append_assoc, List.nil_append, List.append_nil] using h0)
  simpa only [List.append_assoc, List.nil_append, List.append_nil] using h1
theorem toUD (h : va_D A (x ++ (k ++ (u ++ t)))) : va_D A ((k ++ u) ++ (t ++ x)) := by
  have h0 := h
  have h1 : va_D A ([] ++ ((k ++ (u ++ t)) ++ (x ++ []))) := rotD (a := []) (b := x) (c := (k ++ (u ++ t))) (d := []) (by simpa only [List.append_assoc, List.nil_append, List.append_nil] using h0)
  simpa only [List.append_assoc, List.nil_append, List.append_nil] using h1
theorem ofUP (h : va_P G CL (k ++ (u ++ (t ++ x))) H) : va_P G CL (x ++ (k ++ (u ++ t))) H := by
  have h0 := h
  have h1 : va_P G CL ([] ++ (x ++ ((k ++ (u ++ t)) ++ []))) H := rotP (a := []) (b := (k ++ (u ++ t))) (c := x) (d := []) (by simpa only [List.append_assoc, List.nil_append, List.append_nil] using h0)
  simpa only [List.append_assoc, List.nil_append, List.append_nil] using h1
theorem ofUD (h : va_D A (k ++ (u ++ (t ++ x)))) : va_D A (x ++ (k ++ (u ++ t))) := by
  have h0 := h
  have h1 : va_D A ([] ++ (x ++ ((k ++ (u ++ t)) ++ []))) := rotD (a := []) (b := (k ++ (u ++ t))) (c := x) (d := []) (by simpa only [List.append_assoc, List.nil_append, List.append_nil] using h0)
  simpa only [List.append_assoc, List.nil_append, List.append_nil] using h1
theorem toLP (h : va_P G CL (x ++ (k ++ (u ++ (l ++ t)))) H) : va_P G CL ((k ++ (u ++ l)) ++ (t ++ x)) H := by
  have h0 := h
  have h1 : va_P G CL ([] ++ ((k ++ (u ++ (l ++ t))) ++ (x ++ []))) H := rotP (a := []) (b := x) (c := (k ++ (u ++ (l ++ t)))) (d := []) (by simpa only [List.append_assoc, List.nil_append, List.append_nil] using h0)
  simpa only [List.append_assoc, List.nil_append, List.append_nil] using h1
theorem toLD (h : va_D A (x ++ (k ++ (u ++ (l ++ t))))) : va_D A ((k ++ (u ++ l)) ++ (t ++ x)) := by
  have h0 := h
  have h1 : va_D A ([] ++ ((k ++ (u ++ (l ++ t))) ++ (x ++ []))) := rotD (a := []) (b := x) (c := (k ++ (u ++ (l ++ t)))) (d := []) (by simpa only [List.append_assoc, List.nil_append, List.append_nil] using h0)
  simpa only [List.append_assoc, List.nil_append, List.append_nil] using h1
theorem ofLP (h : va_P G CL (k ++ ((u ++ l) ++ (t ++ x))) H) : va_P G CL (x ++ (k ++ (u ++ (l ++ t)))) H := by
  have h0 := h
  have h1 : va_P G CL ([] ++ (x ++ ((k ++ (u ++ (l ++ t))) ++ []))) H := rotP (a := []) (b := (k ++ (u ++ (l ++ t)))) (c := x) (d := []) (by simpa only [List.append_assoc, List.nil_append, List.append_nil] using h0)
  simpa only [List.append_assoc, List.nil_append, List.append_nil] using h1
theorem ofLD (h : va_D A (k ++ ((u ++ l) ++ (t ++ x)))) : va_D A (x ++ (k ++ (u ++ (l ++ t)))) := by
  have h0 := h
  have h1 : va_D A ([] ++ (x ++ ((k ++ (u ++ (l ++ t))) ++ []))) := rotD (a := []) (b := (k ++ (u ++ (l ++ t)))) (c := x) (d := []) (by simpa only [List.append_assoc, List.nil_append, List.append_nil] using h0)
  simpa only [List.append_assoc, List.nil_append, List.append_nil] using h1
theorem toPP (h : va_P G CL (x ++ (k ++ (u ++ (l ++ (p ++ s))))) H) : va_P G CL ((k ++ p) ++ (u ++ (l ++ (s ++ x)))) H := by
  have h0 := h
  have h1 : va_P G CL ([] ++ ((k ++ (u ++ (l ++ (p ++ s)))) ++ (x ++ []))) H := rotP (a := []) (b := x) (c := (k ++ (u ++ (l ++ (p ++ s))))) (d := []) (by simpa only [List.append_assoc, List.nil_append, List.append_nil] using h0)
  have h2 : va_P G CL (k ++ (p ++ ((u ++ l) ++ (s ++ x)))) H := rotP (a := k) (b := (u ++ l)) (c := p) (d := (s ++ x)) (by simpa only [List.append_assoc, List.nil_append, List.append_nil] using h1)
  simpa only [List.append_assoc, List.nil_append, List.append_nil] using h2
theorem toPD (h : va_D A (x ++ (k ++ (u ++ (l ++ (p ++ s)))))) : va_D A ((k ++ p) ++ (u ++ (l ++ (s ++ x)))) := by
  have h0 := h
  have h1 : va_D A ([] ++ ((k ++ (u ++ (l ++ (p ++ s)))) ++ (x ++ []))) := rotD (a := []) (b := x) (c := (k ++ (u ++ (l ++ (p ++ s))))) (d := []) (by simpa only [List.append_assoc, List.nil_append, List.append_nil] using h0)
  have h2 : va_D A (k ++ (p ++ ((u ++ l) ++ (s ++ x)))) := rotD (a := k) (b := (u ++ l)) (c := p) (d := (s ++ x)) (by simpa only [List.append_assoc, List.nil_append, List.append_nil] using h1)
  simpa only [List.append_assoc, List.nil_append, List.append_nil] using h2
theorem ofPP (h : va_P G CL (k ++ (p ++ (u ++ (l ++ (s ++ x))))) H) : va_P G CL (x ++ (k ++ (u ++ (l ++ (p ++ s))))) H := by
  have h0 := h
  have h1 : va_P G CL (k ++ ((u ++ l) ++ (p ++ (s ++ x)))) H := rotP (a := k) (b := p) (c := (u ++ l)) (d := (s ++ x)) (by simpa only [List.append_assoc, List.nil_append, List.append_nil] using h0)
  have h2 : va_P G CL ([] ++ (x ++ ((k ++ (u ++ (l ++ (p ++ s)))) ++ []))) H := rotP (a := []) (b := (k ++ (u ++ (l ++ (p ++ s))))) (c := x) (d := []) (by simpa only [List.append_assoc, List.nil_append, List.append_nil] using h1)
  simpa only [List.append_assoc, List.nil_append, List.append_nil] using h2
theorem ofPD (h : va_D A (k ++ (p ++ (u ++ (l ++ (s ++ x)))))) : va_D A (x ++ (k ++ (u ++ (l ++ (p ++ s))))) := by
  have h0 := h
  have h1 : va_D A (k ++ ((u ++ l) ++ (p ++ (s ++ x)))) := rotD (a := k) (b := p) (c := (u ++ l)) (d := (s ++ x)) (by simpa only [List.append_assoc, List.nil_append, List.append_nil] using h0)
  have h2 : va_D A ([] ++ (x ++ ((k ++ (u ++ (l ++ (p ++ s)))) ++ []))) := rotD (a := []) (b := (k ++ (u ++ (l ++ (p ++ s))))) (c := x) (d := []) (by simpa only [List.append_assoc, List.nil_append, List.append_nil] using h1)
  simpa only [List.append_assoc, List.nil_append, List.append_nil] using h2
theorem toSP (h : va_P G CL (x ++ (k ++ (u ++ (l ++ (p ++ s))))) H) : va_P G CL ((k ++ s) ++ (u ++ (l ++ (p ++ x)))) H := by
  have h0 := h
  have h1 : va_P G CL ([] ++ ((k ++ (u ++ (l ++ (p ++ s)))) ++ (x ++ []))) H := rotP (a := []) (b := x) (c := (k ++ (u ++ (l ++ (p ++ s))))) (d := []) (by simpa only [List.append_assoc, List.nil_append, List.append_nil] using h0)
  have h2 : va_P G CL (k ++ (s ++ ((u ++ (l ++ p)) ++ x))) H := rotP (a := k) (b := (u ++ (l ++ p))) (c := s) (d := x) (by simpa only [List.append_assoc, List.nil_append, List.append_nil] using h1)
  simpa only [List.append_assoc, List.nil_append, List.append_nil] using h2
theorem toSD (h : va_D A (x ++ (k ++ (u ++ (l ++ (p ++ s)))))) : va_D A ((k ++ s) ++ (u ++ (l ++ (p ++ x)))) := by
  have h0 := h
  have h1 : va_D A ([] ++ ((k ++ (u ++ (l ++ (p ++ s)))) ++ (x ++ []))) := rotD (a := []) (b := x) (c := (k ++ (u ++ (l ++ (p ++ s))))) (d := []) (by simpa only [List.append_assoc, List.nil_append, List.append_nil] using h0)
  have h2 : va_D A (k ++ (s ++ ((u ++ (l ++ p)) ++ x))) := rotD (a := k) (b := (u ++ (l ++ p))) (c := s) (d := x) (by simpa only [List.append_assoc, List.nil_append, List.append_nil] using h1)
  simpa only [List.append_assoc, List.nil_append, List.append_nil] using h2
theorem ofSP (h : va_P G CL (k ++ (s ++ (u ++ (l ++ (p ++ x))))) H) : va_P G CL (x ++ (k ++ (u ++ (l ++ (p ++ s))))) H := by
  have h0 := h
  have h1 : va_P G CL (k ++ ((u ++ (l ++ p)) ++ (s ++ x))) H := rotP (a := k) (b := s) (c := (u ++ (l ++ p))) (d := x) (by simpa only [List.append_assoc, List.nil_append, List.append_nil] using h0)
  have h2 : va_P G CL ([] ++ (x ++ ((k ++ (u ++ (l ++ (p ++ s)))) ++ []))) H := rotP (a := []) (b := (k ++ (u ++ (l ++ (p ++ s))))) (c := x) (d := []) (by simpa only [List.append_assoc, List.nil_append, List.append_nil] using h1)
  simpa only [List.append_assoc, List.nil_append, List.append_nil] using h2
theorem ofSD (h : va_D A (k ++ (s ++ (u ++ (l ++ (p ++ x)))))) : va_D A (x ++ (k ++ (u ++ (l ++ (p ++ s))))) := by
  have h0 := h
  have h1 : va_D A (k ++ ((u ++ (l ++ p)) ++ (s ++ x))) := rotD (a := k) (b := s) (c := (u ++ (l ++ p))) (d := x) (by simpa only [List.append_assoc, List.nil_append, List.append_nil] using h0)
  have h2 : va_D A ([] ++ (x ++ ((k ++ (u ++ (l ++ (p ++ s)))) ++ []))) := rotD (a := []) (b := (k ++ (u ++ (l ++ (p ++ s))))) (c := x) (d := []) (by simpa only [List.append_assoc, List.nil_append, List.append_nil] using h1)
  simpa only [List.append_assoc, List.nil_append, List.append_nil] using h2
end PERM
noncomputable def SX (tA tB tD : TA) (fS : Nat → Int32) (kZ : Nat) : Prop := (T_nb tA ≤ 8 ∧ T_np tA ≤ 8) ∧ (T_nb tB ≤ 8 ∧ T_np tB ≤ 8) ∧ T_nb tD ≤ 8 ∧ (∀ s, s < 8 → ∃ n : Nat, n ≤ 40 ∧ fS s = nI n) ∧ kZ ≤ 250
noncomputable def SM (tM : TA) (uP : UM) (fMz fMa : Nat → Int32) (kY : Nat) : Prop := TI tM ∧ (isS uP = true → TI (uT uP)) ∧ (∀ s, s < 8 → ∃ n : Nat, n ≤ 40 ∧ fMz s = nI n) ∧ (∀ s, s < 8 → ∃ n : Nat, n ≤ 99 ∧ fMa s = nI n) ∧ kY ≤ 250
noncomputable def SH1 (s : Nat) (fH fS fA : Nat → Int32) (gE : Nat → Int64) (fMh fMo fMz fMk fMa : Nat → Int32) (eR : Nat → Nat → Int64) : Prop := (fMh s = 0 ∧ fH s = -1) ∨ (fMh s = 1 ∧ fH s = fMo s ∧ Rw (fH s) ∧ fS s = fMz s ∧ ∀ n i : Nat, fS s = nI n → n ≤ 40 → i < n → gE (s * 40 + i) = eR s i) ∨ (fMh s = 2 ∧ fH s = 10 + fMk s ∧ Iv (fMk s).toInt64 1 6 ∧ fA s = fMa s)
noncomputable def SHR (fH fS fA : Nat → Int32) (gE : Nat → Int64) (fMh fMo fMz fMk fMa : Nat → Int32) (eR : Nat → Nat → Int64) : Prop := ∀ s, s < 8 → SH1 s fH fS fA gE fMh fMo fMz fMk fMa eR
noncomputable def LR (iKp : Int32) (_tA _tB : TA) (fH fS fA : Nat → Int32) (gE : Nat → Int64) (kZ : Nat) (fMh fMo fMz fMk fMa : Nat → Int32) (eR : Nat → Nat → Int64) (kY : Nat) (_tM : TA) (uP : UM) : Prop := kZ = kY ∧ (iKp = 0 ↔ isS uP = false) ∧ SHR fH fS fA gE fMh fMo fMz fMk fMa eR
noncomputable def LINV (G : va_G) (cy : Nat → ClassId) (A : Nat → Prop) (H : Heap) (aX aM rR rB rO rK : Nat → Nat) : Prop := ∃ (iKp : Int32) (iYe : Int32) (iTv : Int32) (fR : Nat → Int32) (tA : TA) (tB : TA) (iL : Int32) (iBs : Int32) (tU : TA) (tV : TA) (fH : Nat → Int32) (fS : Nat → Int32) (fA : Nat → Int32) (gE : Nat → Int64) (kZ : Nat) (iT1 : Int32) (iT2 : Int32) (iT3 : Int32) (iT4 : Int32) (fB : Nat → Int32) (tD : TA) (fMh : Nat → Int32) (fMo : Nat → Int32) (fMz : Nat → Int32) (gMv : Nat → Int64) (fMk : Nat → Int32) (fMa : Nat → Int32) (fMt : Nat → Int32) (kY : Nat) (fMr : Nat → Int32) (fM3 : Nat → Int32) (fMu : Nat → Int32) (fMy : Nat → Int32) (fMb : Nat → Int32) (eR : Nat → Nat → Int64) (tM : TA) (iEn : Int32) (iTk : Int32) (uP : UM) (uU : UM) (kAt : Nat) (iTo : Int32) (iFr : Int32) (JFi : Int64) (iFa : Int32) (iSt : Int32) (iLv : Int32) (iWs : Int32) (wL : UL) (uS0 : UM) (uS1 : UM) (uS2 : UM) (uS3 : UM) (uS4 : UM) (iOm : Int32), va_P G CL ((XW cy aX iKp iYe iTv fR tA tB iL iBs tU tV fH fS fA gE kZ iT1 iT2 iT3 iT4 fB tD) ++ ((MK cy aM rR rB rO rK fMh fMo fMz gMv fMk fMa fMt kY fMr fM3 fMu fMy fMb eR tM iEn iTk uP uU kAt iTo iFr JFi iFa iSt iLv iWs wL uS0 uS1 uS2 uS3 uS4 iOm) ++ ((oM cy uU) ++ ((oL cy wL) ++ ((oM cy uP) ++ (oM cy uS0 ++ (oM cy uS1 ++ (oM cy uS2 ++ (oM cy uS3 ++ oM cy uS4))))))))) H ∧ va_D A ((XW cy aX iKp iYe iTv fR tA tB iL iBs tU tV fH fS fA gE kZ iT1 iT2 iT3 iT4 fB tD) ++ ((MK cy aM rR rB rO rK fMh fMo fMz gMv fMk fMa fMt kY fMr fM3 fMu fMy fMb eR tM iEn iTk uP uU kAt iTo iFr JFi iFa iSt iLv iWs wL uS0 uS1 uS2 uS3 uS4 iOm) ++ ((oM cy uU) ++ ((oL cy wL) ++ ((oM cy uP) ++ (oM cy uS0 ++ (oM cy uS1 ++ (oM cy uS2 ++ (oM cy uS3 ++ oM cy uS4))))))))) ∧ SX tA tB tD fS kZ ∧ SM tM uP fMz fMa kY ∧ LR iKp tA tB fH fS fA gE kZ fMh fMo fMz fMk fMa eR kY tM uP
theorem linv_mk {G : va_G} {cy : Nat → ClassId} {A : Nat → Prop} {H : Heap} {aX aM rR rB rO rK : Nat → Nat} {iKp : Int32} {iYe : Int32} {iTv : Int32} {fR : Nat → Int32} {tA : TA} {tB : TA} {iL : Int32} {iBs : Int32} {tU : TA} {tV : TA} {fH : Nat → Int32} {fS : Nat → Int32} {fA : Nat → Int32} {gE : Nat → Int64} {kZ : Nat} {iT1 : Int32} {iT2 : Int32} {iT3 : Int32} {iT4 : Int32} {fB : Nat → Int32} {tD : TA} {fMh : Nat → Int32} {fMo : Nat → Int32} {fMz : Nat → Int32} {gMv : Nat → Int64} {fMk : Nat → Int32} {fMa : Nat → Int32} {fMt : Nat → Int32} {kY : Nat} {fMr : Nat → Int32} {fM3 : Nat → Int32} {fMu : Nat → Int32} {fMy : Nat → Int32} {fMb : Nat → Int32} {eR : Nat → Nat → Int64} {tM : TA} {iEn : Int32} {iTk : Int32} {uP : UM} {uU : UM} {kAt : Nat} {iTo : Int32} {iFr : Int32} {JFi : Int64} {iFa : Int32} {iSt : Int32} {iLv : Int32} {iWs : Int32} {wL : UL} {uS0 : UM} {uS1 : UM} {uS2 : UM} {uS3 : UM} {uS4 : UM} {iOm : Int32} (hP : va_P G CL ((XW cy aX iKp iYe iTv fR tA tB iL iBs tU tV fH fS fA gE kZ iT1 iT2 iT3 iT4 fB tD) ++ ((MK cy aM rR rB rO rK fMh fMo fMz gMv fMk fMa fMt kY fMr fM3 fMu fMy fMb eR tM iEn iTk uP uU kAt iTo iFr JFi iFa iSt iLv iWs wL uS0 uS1 uS2 uS3 uS4 iOm) ++ ((oM cy uU) ++ ((oL cy wL) ++ ((oM cy uP) ++ (oM cy uS0 ++ (oM cy uS1 ++ (oM cy uS2 ++ (oM cy uS3 ++ oM cy uS4))))))))) H) (hD : va_D A ((XW cy aX iKp iYe iTv fR tA tB iL iBs tU tV fH fS fA gE kZ iT1 iT2 iT3 iT4 fB tD) ++ ((MK cy aM rR rB rO rK fMh fMo fMz gMv fMk fMa fMt kY fMr fM3 fMu fMy fMb eR tM iEn iTk uP uU kAt iTo iFr JFi iFa iSt iLv iWs wL uS0 uS1 uS2 uS3 uS4 iOm) ++ ((oM cy uU) ++ ((oL cy wL) ++ ((oM cy uP) ++ (oM cy uS0 ++ (oM cy uS1 ++ (oM cy uS2 ++ (oM cy uS3 ++ oM cy uS4)))))))))) (hsX : SX tA tB tD fS kZ) (hsM : SM tM uP fMz fMa kY) (hLR : LR iKp tA tB fH fS fA gE kZ fMh fMo fMz fMk fMa eR kY tM uP) : LINV G cy A H aX aM rR rB rO rK := ⟨iKp, iYe, iTv, fR, tA, tB, iL, iBs, tU, tV, fH, fS, fA, gE, kZ, iT1, iT2, iT3, iT4, fB, tD, fMh, fMo, fMz, gMv, fMk, fMa, fMt, kY, fMr, fM3, fMu, fMy, fMb, eR, tM, iEn, iTk, uP, uU, kAt, iTo, iFr, JFi, iFa, iSt, iLv, iWs, wL, uS0, uS1, uS2, uS3, uS4, iOm, hP, hD, hsX, hsM, hLR⟩
end
section
/-! what the calls keep: sizes in range -/
noncomputable abbrev NB8 (t : TA) : Prop := T_nb t ≤ 8 ∧ T_np t ≤ 8
theorem nb_book {t t' : TA} {a b r : Int32} (h : NB8 t) (q : PXbook t a b r t') : NB8 t' := by
  rcases q with ⟨-, -, rfl⟩ | ⟨-, -, -, -, rfl⟩ | ⟨-, -, -, h1, rfl⟩
  · exact h
  · exact h
  · exact ⟨h1, h.2⟩
theorem nb_one {t t' : TA} {a b c d r : Int32} (h : NB8 t) (q : PXone t a b c d r t') : NB8 t' := by
  rcases q with ⟨-, -, rfl⟩ | ⟨-, -, -, rfl⟩ | ⟨-, -, h1, rfl⟩
  · exact h
  · exact h
  · exact ⟨h.1, h1⟩
theorem nb_onG (e : Nat → Int64) : ∀ (n i : Nat) (t : TA) (c : Int32), NB8 t → NB8 (onG e n i t c).1 := by
  intro n
  induction n with
  | zero => intro i t c h; exact h
  | succ n ih =>
    intro i t c h
    by_cases h1 : T_np t < 8
    · by_cases h2 : Cbo (e i) (e (i + 1)) (e (i + 2)) (e (i + 3))
      · rw [on_go h1 h2]
        exact ih _ _ _ ⟨h.1, h1⟩
      · rw [on_2 h2]
        exact h
    · rw [on_1 h1]
      exact h
theorem nb_ones {f s : Nat → Int32} {e : Nat → Int64} {t t' : TA} {a n r : Int32} (h : NB8 t) (q : PXones f s e t a n r t') : NB8 t' := by
  rcases q with ⟨-, -, rfl⟩ | ⟨-, -, rfl⟩ | ⟨-, -, rfl⟩ | ⟨k, m, -, -, -, -, -, -, -, e1⟩
  · exact h
  · exact h
  · exact h
  · have := nb_onG (fun i => e (k * 40 + i)) m 0 t 0 h
    rw [← e1] at this
    exact this
theorem nb_alter {t t' : TA} {a b v r : Int32} (h : NB8 t) (q : PXalter t a b v r t') : NB8 t' := by
  rcases q with ⟨-, -, rfl⟩ | ⟨k, m, -, -, -, -, -, ⟨-, -, rfl⟩ | ⟨-, -, rfl⟩⟩ <;> exact h
theorem nb_read {t t' : TA} {a b r : Int32} (h : NB8 t) (q : PXread t a b r t') : NB8 t' := by
  rcases q with ⟨-, -, rfl⟩ | ⟨k, m, -, -, -, -, ⟨-, -, rfl⟩ | ⟨-, -, -, rfl⟩⟩
  · exact h
  · exact h
  · exact ⟨by rw [nb_rd]; exact h.1, by rw [np_rd]; exact h.2⟩
theorem nb_aloud {t t' : TA} {a b o r : Int32} (h : NB8 t) (q : PXaloud t a b o r t') : NB8 t' := by
  rcases q with ⟨-, -, rfl⟩ | ⟨k, m, -, -, -, -, -, ⟨-, -, rfl⟩ | ⟨-, -, -, rfl⟩⟩
  · exact h
  · exact h
  · exact ⟨by rw [nb_hf, nb_rd]; exact h.1, by rw [np_hf, np_rd]; exact h.2⟩
theorem nb_tell {t t' : TA} {a o b r : Int32} (h : NB8 t) (q : PXtell t a o b r t') : NB8 t' := by
  rcases q with ⟨-, -, rfl⟩ | ⟨k, j, m, -, -, -, -, -, -, -, ⟨-, -, rfl⟩ | ⟨-, -, -, rfl⟩⟩ <;> exact h
theorem nb_write {t t' : TA} {a b r : Int32} (h : NB8 t) (q : PXwrite t a b r t') : NB8 t' := by
  rcases q with ⟨-, -, rfl⟩ | ⟨k, m, -, -, -, -, ⟨-, -, rfl⟩ | ⟨-, -, -, -, rfl⟩⟩ <;> exact h
theorem nb_yrG (k a : Int32) : ∀ (n : Nat) (t : TA) (s : Int32), NB8 t → NB8 (yrG k a n t s).1 := by
  intro n
  induction n with
  | zero => intro t s h; exact h
  | succ n ih =>
    intro t s h
    refine ih _ _ ⟨?_, ?_⟩
    · rw [nb_ey, nb_dd, nb_za]; exact h.1
    · rw [np_ey, np_dd, np_za]; exact h.2
theorem nb_years {f am : Nat → Int32} {t t' : TA} {a n r : Int32} (h : NB8 t) (q : PXyears f am t a n r t') : NB8 t' := by
  rcases q with ⟨-, -, rfl⟩ | ⟨-, -, -, rfl⟩ | ⟨-, -, -, rfl⟩ | ⟨k, m, -, -, -, -, -, -, -, e1⟩
  · exact h
  · exact h
  · exact h
  · have := nb_yrG (f k - 10) (am k) m t 0 h
    rw [← e1] at this
    exact this
theorem nb_zey8 {t : TA} (h : NB8 t) : NB8 (zey t) := ⟨by rw [nb_ey]; exact h.1, by rw [np_ey]; exact h.2⟩
theorem sx_t {tA tB tD tN : TA} {fS : Nat → Int32} {kZ : Nat} (h : SX tA tB tD fS kZ) (q : NB8 tN) : SX tN tB tD fS kZ := ⟨q, h.2⟩
theorem sz_upd {f : Nat → Int32} {k n m : Nat} {v : Int32} (h : ∀ s, s < 8 → ∃ n : Nat, n ≤ m ∧ f s = nI n) (hn : n ≤ m) (hv : v = nI n) : ∀ s, s < 8 → ∃ n : Nat, n ≤ m ∧ upd f k v s = nI n := fun s hs => by
  show ∃ n : Nat, n ≤ m ∧ (if s = k then v else f s) = nI n
  by_cases e : s = k
  · rw [if_pos e]
    exact ⟨n, hn, hv⟩
  · rw [if_neg e]
    exact h s hs
theorem sx_row {tA tB tD : TA} {fH fS fY fZ : Nat → Int32} {gE gX : Nat → Int64} {kZ : Nat} {a b c r : Int32} (h : SX tA tB tD fS kZ) (q : PXrow fH fS gE a b c r fY fZ gX) : SX tA tB tD fZ kZ := by
  rcases q with ⟨-, -, -, rfl, -⟩ | ⟨-, k, n, -, h2, -, -, -, -, rfl, -⟩
  · exact h
  · exact ⟨h.1, h.2.1, h.2.2.1, sz_upd h.2.2.2.1 h2 rfl, h.2.2.2.2⟩
theorem fd_le {z z' : Nat} {n r : Int32} (h : z ≤ 250) (q : PXfeed z n r z') : z' ≤ 250 := by
  rcases q with ⟨-, -, rfl⟩ | ⟨k, -, -, -, ⟨-, -, rfl⟩ | ⟨-, h1, rfl⟩⟩
  · exact h
  · exact h
  · exact h1
theorem sx_z {tA tB tD : TA} {fS : Nat → Int32} {kZ kN : Nat} (h : SX tA tB tD fS kZ) (q : kN ≤ 250) : SX tA tB tD fS kN := ⟨h.1, h.2.1, h.2.2.1, h.2.2.2.1, q⟩
theorem sx_town {tA tB tD tN tO : TA} {fS : Nat → Int32} {kZ kN : Nat} (h : SX tA tB tD fS kZ) (q : T_nb tN ≤ 8 ∧ T_np tN ≤ 8 ∧ kN = 0 ∧ T_nb tO ≤ 8) : SX tN tB tO fS kN := ⟨⟨q.1, q.2.1⟩, h.2.1, q.2.2.2, h.2.2.2.1, by have := q.2.2.1; omega⟩
theorem sx_image {tA tB tD tN : TA} {fS : Nat → Int32} {kZ : Nat} (h : SX tA tB tD fS kZ) (q : tN = tA) : SX tA tN tD fS kZ := by
  subst q
  exact ⟨h.1, h.1, h.2.2⟩
theorem sx_back {tA tB tD tN : TA} {fS : Nat → Int32} {kZ : Nat} {i r : Int32} (h : SX tA tB tD fS kZ) (q : (i = 0 ∧ r = -5 ∧ tN = tA) ∨ (¬ i = 0 ∧ r = 1 ∧ tN = tB)) : SX tN tB tD fS kZ := by
  rcases q with ⟨-, -, rfl⟩ | ⟨-, -, rfl⟩
  · exact h
  · exact ⟨h.2.1, h.2⟩
theorem sm_row {tM : TA} {uP : UM} {h z a o h' o' z' : Nat → Int32} {e e' : Nat → Nat → Int64} {k : Nat} {x y c r : Int32} (q0 : SM tM uP z a k) (q : PMrow h o z e x y c r h' o' z' e') : SM tM uP z' a k := by
  rcases q with ⟨-, -, -, -, rfl, -⟩ | ⟨-, m, n, -, h2, -, -, -, -, -, rfl, -⟩
  · exact q0
  · exact ⟨q0.1, q0.2.1, sz_upd q0.2.2.1 h2 rfl, q0.2.2.2⟩
theorem sm_rule {tM : TA} {uP : UM} {h z a w h' w' a' : Nat → Int32} {k : Nat} {x y c r : Int32} (q0 : SM tM uP z a k) (q : PMrule h w a x y c r h' w' a') : SM tM uP z a' k := by
  rcases q with ⟨-, -, -, -, rfl⟩ | ⟨-, m, -, -, -, h5, -, -, rfl⟩
  · exact q0
  · obtain ⟨n, -, hn, rfl⟩ := iv_nI 0 99 (by decide +kernel) (by decide +kernel) h5
    exact ⟨q0.1, q0.2.1, q0.2.2.1, sz_upd q0.2.2.2.1 hn rfl, q0.2.2.2.2⟩
theorem sm_t {tM tN : TA} {uP : UM} {z a : Nat → Int32} {k : Nat} (q0 : SM tM uP z a k) (q : TI tN) : SM tN uP z a k := ⟨q, q0.2⟩
theorem sm_z {tM : TA} {uP : UM} {z a : Nat → Int32} {k n : Nat} (q0 : SM tM uP z a k) (q : n ≤ 250) : SM tM uP z a n := ⟨q0.1, q0.2.1, q0.2.2.1, q0.2.2.2.1, q⟩
theorem sm_town {tM tN : TA} {uP : UM} {z a : Nat → Int32} {k n : Nat} (q0 : SM tM uP z a k) (q : TI tN ∧ n = 0) : SM tN uP z a n := ⟨q.1, q0.2.1, q0.2.2.1, q0.2.2.2.1, by have := q.2; omega⟩
theorem sm_image {tM : TA} {uP uQ : UM} {z a : Nat → Int32} {k : Nat} {r : Int32} (q0 : SM tM uP z a k) (q : r = 1 ∧ isS uQ = true ∧ uT uQ = tM) : SM tM uQ z a k := ⟨q0.1, fun _ => by rw [q.2.2]; exact q0.1, q0.2.2⟩
theorem sm_back {tM tN : TA} {uP : UM} {z a : Nat → Int32} {k : Nat} {r : Int32} (q0 : SM tM uP z a k) (q : (isS uP = false ∧ r = -5 ∧ tN = tM) ∨ (isS uP = true ∧ r = 1 ∧ tN = uT uP)) : SM tN uP z a k := by
  rcases q with ⟨-, -, rfl⟩ | ⟨h1, -, rfl⟩
  · exact q0
  · exact ⟨q0.2.1 h1, q0.2⟩
theorem iv_n40 {n : Nat} (h : n ≤ 40) : Iv (nI n).toInt64 0 40 := ofI (m := 0) (n := 40) (by decide +kernel) (by decide +kernel) ⟨by rw [nI_toInt (by omega)]; omega, by rw [nI_toInt (by omega)]; omega⟩
theorem row_eq {h s h2 o z h' s' h2' o' z' : Nat → Int32} {e e' : Nat → Int64} {f f' : Nat → Nat → Int64} {a b c r r' : Int32} (q : PXrow h s e a b c r h' s' e') (q' : PMrow h2 o z f a b c r' h2' o' z' f') : r = r' := by
  rcases q with ⟨rfl, h1, -⟩ | ⟨rfl, k, n, h1, h2, rfl, rfl, h3, -⟩
  · rcases q' with ⟨rfl, -⟩ | ⟨-, k, n, g1, g2, rfl, rfl, g3, -⟩
    · rfl
    · exact absurd ⟨⟨k, g1, rfl⟩, g3, iv_n40 g2⟩ h1
  · rcases q' with ⟨-, g1, -⟩ | ⟨rfl, -⟩
    · exact absurd ⟨⟨k, h1, rfl⟩, h3, iv_n40 h2⟩ g1
    · rfl
/-! the shelves of both: what the calls on them answer and keep -/
theorem nI_eq8 {a b : Nat} (ha : a < 8) (hb : b < 8) (h : nI a = nI b) : a = b := nI_inj (by omega) (by omega) h
theorem rw_10 {x : Int32} (h : Rw x) : ¬ 10 ≤ x := fun q => h.2 (by
  rw [Int32.lt_iff_toInt_lt]
  rw [Int32.le_iff_toInt_le] at q
  have e1 : (10 : Int32).toInt = 10 := by decide +kernel
  have e2 : (4 : Int32).toInt = 4 := by decide +kernel
  omega)
theorem iv_16 {x : Int32} (h : Iv x.toInt64 1 6) : 10 ≤ 10 + x ∧ ¬ 10 + x = -1 := by
  rcases sw_1_6 x with rfl | rfl | rfl | rfl | rfl | rfl | h1
  · decide
  · decide
  · decide
  · decide
  · decide
  · decide
  · exfalso
    have := toI h (m := 1) (n := 6) (by decide +kernel) (by decide +kernel)
    omega
theorem iv_04 {x : Int32} (h : Iv x.toInt64 0 4) : Rw x := by
  have h1 := toI h (m := 0) (n := 4) (by decide +kernel) (by decide +kernel)
  have e2 : (4 : Int32).toInt = 4 := by decide +kernel
  have e0 : (0 : Int32).toInt = 0 := by decide +kernel
  exact ⟨fun q => by rw [Int32.lt_iff_toInt_lt] at q; omega, fun q => by rw [Int32.lt_iff_toInt_lt] at q; omega⟩
theorem sh_A {s : Nat} {fH fS fA : Nat → Int32} {gE : Nat → Int64} {fMh fMo fMz fMk fMa : Nat → Int32} {eR : Nat → Nat → Int64} (R : SH1 s fH fS fA gE fMh fMo fMz fMk fMa eR) : (10 ≤ fH s ↔ fMh s = 2) ∧ (Rw (fH s) ↔ fMh s = 1) ∧ (fH s = -1 ↔ fMh s = 0) ∧ (fMh s = 0 ∨ fMh s = 1 ∨ fMh s = 2) := by
  have n10 : ¬ (10 : Int32) ≤ -1 := by decide +kernel
  have nrw : ¬ Rw (-1) := fun q => q.1 (by decide +kernel)
  rcases R with ⟨h0, h1⟩ | ⟨h0, h1, h2, -⟩ | ⟨h0, h1, h2, -⟩
  · rw [h0, h1]
    exact ⟨⟨fun q => absurd q n10, fun q => absurd q (by decide +kernel)⟩, ⟨fun q => absurd q nrw, fun q => absurd q (by decide +kernel)⟩, ⟨fun _ => rfl, fun _ => rfl⟩, Or.inl rfl⟩
  · rw [h0]
    exact ⟨⟨fun q => absurd q (rw_10 h2), fun q => absurd q (by decide +kernel)⟩, ⟨fun _ => rfl, fun _ => h2⟩, ⟨fun q => by rw [q] at h2; exact absurd h2 nrw, fun q => absurd q (by decide +kernel)⟩, Or.inr (Or.inl rfl)⟩
  · rw [h0, h1]
    exact ⟨⟨fun _ => rfl, fun _ => (iv_16 h2).1⟩, ⟨fun q => absurd (iv_16 h2).1 (rw_10 q), fun q => absurd q (by decide +kernel)⟩, ⟨fun q => absurd q (iv_16 h2).2, fun q => absurd q (by decide +kernel)⟩, Or.inr (Or.inr rfl)⟩
theorem zr_hit (e : Nat → Int64) (k : Nat) : ∀ (n i : Nat), i < n → zrF e k n (k * 40 + i) = 0 := by
  intro n
  induction n with
  | zero => intro i h; exact absurd h (Nat.not_lt_zero _)
  | succ n ih =>
    intro i h
    show (if k * 40 + i = k * 40 + n then (0 : Int64) else zrF e k n (k * 40 + i)) = 0
    by_cases e1 : i = n
    · rw [if_pos (by omega)]
    · rw [if_neg (by omega)]
      exact ih i (by omega)
theorem zr_off (e : Nat → Int64) (k : Nat) : ∀ (n : Nat), n ≤ 40 → ∀ (s i : Nat), s ≠ k → i < 40 → zrF e k n (s * 40 + i) = e (s * 40 + i) := by
  intro n
  induction n with
  | zero => intro _ s i _ _; rfl
  | succ n ih =>
    intro hn s i hs hi
    show (if s * 40 + i = k * 40 + n then (0 : Int64) else zrF e k n (s * 40 + i)) = _
    rw [if_neg (by omega)]
    exact ih (by omega) s i hs hi
theorem zN_hit (e : Nat → Nat → Int64) (k : Nat) : ∀ (n i : Nat), i < n → zrN e k n k i = 0 := by
  intro n
  induction n with
  | zero => intro i h; exact absurd h (Nat.not_lt_zero _)
  | succ n ih =>
    intro i h
    show updN (zrN e k n) k n 0 k i = 0
    rw [un_u]
    show (if i = n then (0 : Int64) else zrN e k n k i) = 0
    by_cases e1 : i = n
    · rw [if_pos e1]
    · rw [if_neg e1]
      exact ih i (by omega)
theorem zN_off (e : Nat → Nat → Int64) (k : Nat) : ∀ (n s : Nat), s ≠ k → zrN e k n s = e s := by
  intro n
  induction n with
  | zero => intro s _; rfl
  | succ n ih =>
    intro s hs
    show updN (zrN e k n) k n 0 s = _
    rw [un_n hs]
    exact ih s hs
theorem up_s {f : Nat → Int32} {k : Nat} {v : Int32} : upd f k v k = v := if_pos rfl
theorem up_n {f : Nat → Int32} {k s : Nat} {v : Int32} (h : s ≠ k) : upd f k v s = f s := if_neg h
/-- an empty row, or a rule: at the shelf it is new, the others are as they were -/
theorem sh_off {s k : Nat} {fH fS fA : Nat → Int32} {gE gX : Nat → Int64} {fMh fMo fMz fMk fMa : Nat → Int32} {eR eN : Nat → Nat → Int64} {h1 h2 h3 m1 m2 m3 m4 m5 : Nat → Int32} (R : SH1 s fH fS fA gE fMh fMo fMz fMk fMa eR) (e1 : h1 s = fH s) (e2 : h2 s = fS s) (e3 : h3 s = fA s) (e4 : m1 s = fMh s) (e5 : m2 s = fMo s) (e6 : m3 s = fMz s) (e7 : m4 s = fMk s) (e8 : m5 s = fMa s) (e9 : ∀ i, i < 40 → gX (s * 40 + i) = gE (s * 40 + i)) (e10 : ∀ i, i < 40 → eN s i = eR s i) : SH1 s h1 h2 h3 gX m1 m2 m3 m4 m5 eN := by
  unfold SH1 at R ⊢
  rw [e1, e2, e3, e4, e5, e6, e7, e8]
  rcases R with h | ⟨a1, a2, a3, a4, a5⟩ | h
  · exact Or.inl h
  · refine Or.inr (Or.inl ⟨a1, a2, a3, a4, fun n i hn h40 hi => ?_⟩)
    rw [e9 i (by omega), e10 i (by omega)]
    exact a5 n i hn h40 hi
  · exact Or.inr (Or.inr h)
theorem row_k {fH fS fA fY fZ : Nat → Int32} {gE gX : Nat → Int64} {fMh fMo fMz fMk fMa fNh fNo fNz : Nat → Int32} {eR eN : Nat → Nat → Int64} {a b c r r' : Int32} (R : SHR fH fS fA gE fMh fMo fMz fMk fMa eR) (q : PXrow fH fS gE a b c r fY fZ gX) (q' : PMrow fMh fMo fMz eR a b c r' fNh fNo fNz eN) : SHR fY fZ fA gX fNh fNo fNz fMk fMa eN := by
  have e0 := row_eq q q'
  rcases q with ⟨rfl, -, rfl, rfl, rfl⟩ | ⟨rfl, k, n, h1, h2, rfl, rfl, h3, rfl, rfl, rfl⟩
  · rcases q' with ⟨-, -, rfl, rfl, rfl, rfl⟩ | ⟨rfl, -⟩
    · exact R
    · exact absurd e0 (by decide +kernel)
  · rcases q' with ⟨rfl, -⟩ | ⟨-, m, n', g1, g2, ea, en, -, rfl, rfl, rfl, rfl⟩
    · exact absurd e0 (by decide +kernel)
    · have := nI_eq8 h1 g1 ea
      subst this
      have := nI_inj (by omega) (by omega) en
      subst this
      intro s hs
      by_cases e : s = k
      · subst e
        refine Or.inr (Or.inl ⟨up_s, by rw [up_s, up_s], by rw [up_s]; exact iv_04 h3, by rw [up_s, up_s], fun n' i hn _ hi => ?_⟩)
        rw [up_s] at hn
        have := nI_inj (by omega) (by omega) hn
        subst this
        rw [zr_hit _ _ _ _ hi, zN_hit _ _ _ _ (by omega)]
      · exact sh_off (k := k) (R s hs) (up_n e) (up_n e) rfl (up_n e) (up_n e) (up_n e) rfl rfl (fun i hi => zr_off _ _ _ h2 _ _ e hi) (fun i _ => by rw [zN_off _ _ _ _ e])
theorem rule_k {fH fS fA fY fW : Nat → Int32} {gE : Nat → Int64} {fMh fMo fMz fMk fMa fNh fNk fNa : Nat → Int32} {eR : Nat → Nat → Int64} {a b c r r' : Int32} (R : SHR fH fS fA gE fMh fMo fMz fMk fMa eR) (q : PXrule fH fA a b c r fY fW) (q' : PMrule fMh fMk fMa a b c r' fNh fNk fNa) : r = r' ∧ SHR fY fS fW gE fNh fMo fMz fNk fNa eR := by
  rcases q with ⟨rfl, h0, rfl, rfl⟩ | ⟨rfl, k, h1, rfl, h2, h3, rfl, rfl⟩
  · rcases q' with ⟨rfl, -, rfl, rfl, rfl⟩ | ⟨-, k, h1, rfl, h2, h3, -⟩
    · exact ⟨rfl, R⟩
    · exact absurd ⟨⟨k, h1, rfl⟩, h2, h3⟩ h0
  · rcases q' with ⟨-, h0, -⟩ | ⟨rfl, m, g1, ea, -, -, rfl, rfl, rfl⟩
    · exact absurd ⟨⟨k, h1, rfl⟩, h2, h3⟩ h0
    · have := nI_eq8 h1 g1 ea
      subst this
      refine ⟨rfl, fun s hs => ?_⟩
      by_cases e : s = k
      · subst e
        exact Or.inr (Or.inr ⟨up_s, by rw [up_s, up_s], by rw [up_s]; exact h2, by rw [up_s, up_s]⟩)
      · exact sh_off (k := k) (R s hs) (up_n e) rfl (up_n e) (up_n e) rfl rfl (up_n e) (up_n e) (fun _ _ => rfl) (fun _ _ => rfl)
theorem lb_ft {x : Int32} (h : Rw x) (v : Int64) : zlb x v = zft x v := by
  rcases sw_0_4 x with rfl | rfl | rfl | rfl | rfl | h1
  · rfl
  · rfl
  · rfl
  · rfl
  · rfl
  · exfalso
    have e2 : (4 : Int32).toInt = 4 := by decide +kernel
    have e0 : (0 : Int32).toInt = 0 := by decide +kernel
    rcases h1 with h1 | h1
    · exact h.1 (by rw [Int32.lt_iff_toInt_lt]; omega)
    · exact h.2 (by rw [Int32.lt_iff_toInt_lt]; omega)
theorem set_k {fH fS fA : Nat → Int32} {gE gX : Nat → Int64} {fMh fMo fMz fMk fMa : Nat → Int32} {eR eN : Nat → Nat → Int64} {a b r r' : Int32} {v : Int64} (R : SHR fH fS fA gE fMh fMo fMz fMk fMa eR) (q : PXset fH fS gE a b v r gX) (q' : PMset fMh fMo fMz eR a b v r' eN) : r = r' ∧ SHR fH fS fA gX fMh fMo fMz fMk fMa eN := by
  by_cases hs : Sh a
  · obtain ⟨k, hk, rfl⟩ := hs
    obtain ⟨s1, s2, s3, s4⟩ := sh_A (R k hk)
    have hz : fMh k = 1 → fS k = fMz k := fun e => by
      rcases R k hk with ⟨h0, -⟩ | ⟨-, -, -, h1, -⟩ | ⟨h0, -⟩
      · rw [h0] at e; exact absurd e (by decide +kernel)
      · exact h1
      · rw [h0] at e; exact absurd e (by decide +kernel)
    rcases q with ⟨rfl, h0, rfl⟩ | ⟨rfl, ⟨m, hm, e, h0⟩, rfl⟩ | ⟨rfl, ⟨m, hm, e, h0, h1⟩, rfl⟩ | ⟨rfl, m, i, hm, e, h0, h1, hi, rfl, h2, rfl⟩
    · rcases h0 with h0 | ⟨m, hm, e, h0, h1, h2⟩
      · exact absurd ⟨k, hk, rfl⟩ h0
      · have := nI_eq8 hk hm e
        subst this
        have f1 := s2.mp h1
        rcases q' with ⟨rfl, -, rfl⟩ | ⟨rfl, ⟨m, hm, e, g0⟩, rfl⟩ | ⟨rfl, ⟨m, hm, e, g0, g1⟩, rfl⟩ | ⟨rfl, m, i, hm, e, g0, g1, hi, -, g2, -⟩
        · exact ⟨rfl, R⟩
        · have := nI_eq8 hk hm e
          subst this
          rw [f1] at g0; exact absurd g0 (by decide +kernel)
        · have := nI_eq8 hk hm e
          subst this
          rw [f1] at g1; exact absurd g1 (by decide +kernel)
        · have := nI_eq8 hk hm e
          subst this
          rw [← hz f1] at g2; exact absurd g2 h2
    · have := nI_eq8 hk hm e
      subst this
      have f1 := s1.mp h0
      rcases q' with ⟨rfl, g, rfl⟩ | ⟨rfl, -, rfl⟩ | ⟨rfl, ⟨m, hm, e, g0, g1⟩, rfl⟩ | ⟨rfl, m, i, hm, e, g0, g1, hi, -, g2, -⟩
      · rcases g with g | ⟨m, hm, e, g0, g1, g2⟩
        · exact absurd ⟨k, hk, rfl⟩ g
        · have := nI_eq8 hk hm e
          subst this
          exact absurd f1 g0
      · exact ⟨rfl, R⟩
      · have := nI_eq8 hk hm e
        subst this
        exact absurd f1 g0
      · have := nI_eq8 hk hm e
        subst this
        exact absurd f1 g0
    · have := nI_eq8 hk hm e
      subst this
      have f1 : fMh k = 0 := by
        rcases s4 with h | h | h
        · exact h
        · exact absurd (s2.mpr h) h1
        · exact absurd (s1.mpr h) h0
      rcases q' with ⟨rfl, g, rfl⟩ | ⟨rfl, ⟨m, hm, e, g0⟩, rfl⟩ | ⟨rfl, -, rfl⟩ | ⟨rfl, m, i, hm, e, g0, g1, hi, -, g2, -⟩
      · rcases g with g | ⟨m, hm, e, g0, g1, g2⟩
        · exact absurd ⟨k, hk, rfl⟩ g
        · have := nI_eq8 hk hm e
          subst this
          exact absurd f1 g1
      · have := nI_eq8 hk hm e
        subst this
        rw [f1] at g0; exact absurd g0 (by decide +kernel)
      · exact ⟨rfl, R⟩
      · have := nI_eq8 hk hm e
        subst this
        exact absurd f1 g1
    · have := nI_eq8 hk hm e
      subst this
      have f1 := s2.mp h1
      rcases q' with ⟨rfl, g, rfl⟩ | ⟨rfl, ⟨m, hm, e, g0⟩, rfl⟩ | ⟨rfl, ⟨m, hm, e, g0, g1⟩, rfl⟩ | ⟨rfl, m, j, hm, e, g0, g1, hj, ej, g2, rfl⟩
      · rcases g with g | ⟨m, hm, e, g0, g1, g2⟩
        · exact absurd ⟨k, hk, rfl⟩ g
        · have := nI_eq8 hk hm e
          subst this
          rw [← hz f1] at g2
          exact absurd h2 g2
      · have := nI_eq8 hk hm e
        subst this
        rw [f1] at g0; exact absurd g0 (by decide +kernel)
      · have := nI_eq8 hk hm e
        subst this
        rw [f1] at g1; exact absurd g1 (by decide +kernel)
      · have := nI_eq8 hk hm e
        subst this
        have := nI_inj (by omega) (by omega) ej
        subst this
        refine ⟨rfl, fun s hs => ?_⟩
        by_cases es : s = k
        · subst es
          rcases R s hs with ⟨x0, -⟩ | ⟨x1, x2, x3, x4, x5⟩ | ⟨x0, -⟩
          · rw [f1] at x0; exact absurd x0 (by decide +kernel)
          · refine Or.inr (Or.inl ⟨x1, x2, x3, x4, fun n y hn h40 hy => ?_⟩)
            rw [un_u]
            show (if s * 40 + y = s * 40 + i then zlb (fH s) v else gE (s * 40 + y)) = (if y = i then zft (fMo s) v else eR s y)
            by_cases ey : y = i
            · rw [if_pos (by omega), if_pos ey, ← x2]
              exact lb_ft x3 v
            · rw [if_neg (by omega), if_neg ey]
              exact x5 n y hn h40 hy
          · rw [f1] at x0; exact absurd x0 (by decide +kernel)
        · refine sh_off (k := k) (R s hs) rfl rfl rfl rfl rfl rfl rfl rfl (fun y hy => ?_) (fun y _ => by rw [un_n es])
          show (if s * 40 + y = k * 40 + i then zlb (fH k) v else gE (s * 40 + y)) = _
          rw [if_neg (by omega)]
  · rcases q with ⟨rfl, -, rfl⟩ | ⟨-, ⟨m, hm, e, -⟩, -⟩ | ⟨-, ⟨m, hm, e, -⟩, -⟩ | ⟨-, m, -, hm, e, -⟩
    · rcases q' with ⟨rfl, -, rfl⟩ | ⟨-, ⟨m, hm, e, -⟩, -⟩ | ⟨-, ⟨m, hm, e, -⟩, -⟩ | ⟨-, m, -, hm, e, -⟩
      · exact ⟨rfl, R⟩
      · exact absurd ⟨m, hm, e⟩ hs
      · exact absurd ⟨m, hm, e⟩ hs
      · exact absurd ⟨m, hm, e⟩ hs
    · exact absurd ⟨m, hm, e⟩ hs
    · exact absurd ⟨m, hm, e⟩ hs
    · exact absurd ⟨m, hm, e⟩ hs
theorem holds_eq {fH fS fA : Nat → Int32} {gE : Nat → Int64} {fMh fMo fMz fMk fMa : Nat → Int32} {eR : Nat → Nat → Int64} {a r r' : Int32} (R : SHR fH fS fA gE fMh fMo fMz fMk fMa eR) (q : PXholds fH a r) (q' : PMholds fMh fMo fMk a r') : r = r' := by
  rcases q with ⟨rfl, h0⟩ | ⟨k, hk, rfl, rfl⟩
  · rcases q' with ⟨rfl, -⟩ | ⟨m, hm, e, -⟩
    · rfl
    · exact absurd ⟨m, hm, e⟩ h0
  · rcases q' with ⟨-, h0⟩ | ⟨m, hm, e, h⟩
    · exact absurd ⟨k, hk, rfl⟩ h0
    · have := nI_eq8 hk hm e
      subst this
      rcases R k hk with ⟨x0, x1⟩ | ⟨x0, x1, -⟩ | ⟨x0, x1, -⟩ <;> rw [x0] at h <;> rcases h with ⟨y0, rfl⟩ | ⟨y0, rfl⟩ | ⟨y0, y1, rfl⟩
      · exact x1
      · exact absurd y0 (by decide +kernel)
      · exact absurd rfl y0
      · exact absurd y0 (by decide +kernel)
      · exact x1
      · exact absurd rfl y1
      · exact absurd y0 (by decide +kernel)
      · exact absurd y0 (by decide +kernel)
      · exact x1
theorem elem_eq {fH fS fA : Nat → Int32} {gE : Nat → Int64} {fMh fMo fMz fMk fMa : Nat → Int32} {eR : Nat → Nat → Int64} {a b : Int32} {r r' : Int64} (hSz : ∀ s, s < 8 → ∃ n : Nat, n ≤ 40 ∧ fS s = nI n) (R : SHR fH fS fA gE fMh fMo fMz fMk fMa eR) (q : PXelem fH fS gE a b r) (q' : PMelem fMh fMz eR a b r') : r = r' := by
  have key : ∀ k, k < 8 → (fMh k = 1 ↔ Rw (fH k)) ∧ (fMh k = 1 → fS k = fMz k) := fun k hk => by
    refine ⟨(sh_A (R k hk)).2.1.symm, fun e => ?_⟩
    rcases R k hk with ⟨h0, -⟩ | ⟨-, -, -, h1, -⟩ | ⟨h0, -⟩
    · rw [h0] at e; exact absurd e (by decide +kernel)
    · exact h1
    · rw [h0] at e; exact absurd e (by decide +kernel)
  rcases q with ⟨rfl, h0⟩ | ⟨k, i, hk, rfl, h0, h1, hi, rfl, h2, rfl⟩
  · rcases q' with ⟨rfl, -⟩ | ⟨k, i, hk, rfl, h1, hi, rfl, h2, rfl⟩
    · rfl
    · have f1 := (key k hk).1.mp h1
      exact absurd ⟨k, hk, rfl, rw_10 f1, f1, by rw [(key k hk).2 h1]; exact h2⟩ h0
  · have f1 := (key k hk).1.mpr h1
    rcases q' with ⟨rfl, h0⟩ | ⟨m, j, hm, e, h3, hj, ej, h4, rfl⟩
    · exact absurd ⟨k, hk, rfl, f1, by rw [← (key k hk).2 f1]; exact h2⟩ h0
    · have := nI_eq8 hk hm e
      subst this
      have := nI_inj (by omega) (by omega) ej
      subst this
      rcases R k hk with ⟨x0, -⟩ | ⟨x1, x2, x3, x4, x5⟩ | ⟨x0, -⟩
      · rw [f1] at x0; exact absurd x0 (by decide +kernel)
      · obtain ⟨n, hn, en⟩ := hSz k hk
        obtain ⟨i', hi', ei⟩ := sz_in en hn h2
        have := nI_inj (by omega) (by omega) ei
        subst this
        exact x5 n i en hn hi'
      · rw [f1] at x0; exact absurd x0 (by decide +kernel)
theorem feed_eq {z y z' w' : Nat} {n r r' : Int32} (hz : z = y) (q : PXfeed z n r z') (q' : PXfeed y n r' w') : r = r' ∧ z' = w' := by
  subst hz
  rcases q with ⟨rfl, h0, rfl⟩ | ⟨k, h1, h2, rfl, h3⟩
  · rcases q' with ⟨rfl, -, rfl⟩ | ⟨k, h1, h2, rfl, -⟩
    · exact ⟨rfl, rfl⟩
    · exact absurd (ofI (m := 1) (n := 4) (by decide +kernel) (by decide +kernel) ⟨by rw [nI_toInt (by omega)]; omega, by rw [nI_toInt (by omega)]; omega⟩) h0
  · rcases q' with ⟨rfl, h0, rfl⟩ | ⟨m, g1, g2, e, g3⟩
    · exact absurd (ofI (m := 1) (n := 4) (by decide +kernel) (by decide +kernel) ⟨by rw [nI_toInt (by omega)]; omega, by rw [nI_toInt (by omega)]; omega⟩) h0
    · have := nI_inj (by omega) (by omega) e
      subst this
      rcases h3 with ⟨rfl, a1, rfl⟩ | ⟨rfl, a1, rfl⟩ <;> rcases g3 with ⟨rfl, b1, rfl⟩ | ⟨rfl, b1, rfl⟩
      · exact ⟨rfl, rfl⟩
      · omega
      · omega
      · exact ⟨rfl, rfl⟩
theorem back_eq {iK r r' : Int32} {tA tB tN tM tN' : TA} {uP : UM} (h : iK = 0 ↔ isS uP = false) (q : (iK = 0 ∧ r = -5 ∧ tN = tA) ∨ (¬ iK = 0 ∧ r = 1 ∧ tN = tB)) (q' : (isS uP = false ∧ r' = -5 ∧ tN' = tM) ∨ (isS uP = true ∧ r' = 1 ∧ tN' = uT uP)) : r = r' := by
  rcases q with ⟨h1, rfl, -⟩ | ⟨h1, rfl, -⟩ <;> rcases q' with ⟨g1, rfl, -⟩ | ⟨g1, rfl, -⟩
  · rfl
  · rw [h.mp h1] at g1; cases g1
  · exact absurd (h.mpr g1) h1
  · rfl
theorem spn_to {i n m : Nat} (hm : m ≤ 40) (h : i + n ≤ m) : Spn (nI i) (nI n) (nI m) := by
  refine ⟨nI_pos (by omega), nI_pos (by omega), Int32.not_lt.mpr ((lg_cmp_le _ _).mpr ?_)⟩
  have e : (nI i).toInt64 + (nI n).toInt64 = (nI (i + n)).toInt64 := by
    apply Int64.toInt_inj.mp
    rw [Int64.toInt_add, Int32.toInt_toInt64, Int32.toInt_toInt64, Int32.toInt_toInt64, nI_toInt (by omega), nI_toInt (by omega), nI_toInt (by omega)]
    rw [Int.bmod_eq_of_le (by omega) (by omega)]
    omega
  rw [e, Int64.le_iff_toInt_le, Int32.toInt_toInt64, Int32.toInt_toInt64, nI_toInt (by omega), nI_toInt (by omega)]
  omega
theorem spm_iff {c d n : Int32} {a b : Nat} (ha : a ≤ 40) (hb : b ≤ 40) : SpM c d n (nI a) (nI b) ↔ (Spn c n (nI a) ∧ Spn d n (nI b)) := by
  constructor
  · rintro ⟨h1, h2, h3, h4, h5, h6, h7⟩
    obtain ⟨z, hz, rfl⟩ := nI_of h1
    obtain ⟨i, hi, rfl⟩ := nI_of h2
    obtain ⟨j, hj, rfl⟩ := nI_of h3
    rw [Int32.lt_iff_toInt_lt, nI_toInt (by omega), nI_toInt (by omega)] at h4 h5
    rw [Int32.lt_iff_toInt_lt, pk_sub_toInt (by omega) (by omega), nI_toInt (by omega)] at h6
    rw [Int32.le_iff_toInt_le, pk_sub_toInt (by omega) (by omega), nI_toInt (by omega)] at h7
    exact ⟨spn_to ha (by omega), spn_to hb (by omega)⟩
  · rintro ⟨h1, h2⟩
    obtain ⟨i, z, e1, rfl, rfl⟩ := spn_of rfl ha h1
    obtain ⟨j, w, e2, rfl, ew⟩ := spn_of rfl hb h2
    have := nI_inj (by omega) (by omega) ew
    subst this
    refine ⟨nI_pos (by omega), nI_pos (by omega), nI_pos (by omega), ?_, ?_, ?_, ?_⟩
    · rw [Int32.lt_iff_toInt_lt, nI_toInt (by omega), nI_toInt (by omega)]; omega
    · rw [Int32.lt_iff_toInt_lt, nI_toInt (by omega), nI_toInt (by omega)]; omega
    · rw [Int32.lt_iff_toInt_lt, pk_sub_toInt (by omega) (by omega), nI_toInt (by omega)]; omega
    · rw [Int32.le_iff_toInt_le, pk_sub_toInt (by omega) (by omega), nI_toInt (by omega)]; omega
theorem copy_k {fH fS fA : Nat → Int32} {gE gX : Nat → Int64} {fMh fMo fMz fMk fMa : Nat → Int32} {eR eN : Nat → Nat → Int64} {a b c d n r r' : Int32} (hSz : ∀ s, s < 8 → ∃ n : Nat, n ≤ 40 ∧ fS s = nI n) (R : SHR fH fS fA gE fMh fMo fMz fMk fMa eR) (q : PXcopy fH fS gE a b c d n r gX) (q' : PMcopy fMh fMo fMz eR a b c d n r' eN) : r = r' ∧ SHR fH fS fA gX fMh fMo fMz fMk fMa eN := by
  by_cases hs : ∃ k m : Nat, k < 8 ∧ m < 8 ∧ a = nI k ∧ b = nI m
  · obtain ⟨k, m, hk, hm, rfl, rfl⟩ := hs
    obtain ⟨s1, s2, s3, s4⟩ := sh_A (R k hk)
    obtain ⟨t1, t2, t3, t4⟩ := sh_A (R m hm)
    have row1 : ∀ s, s < 8 → fMh s = 1 → fH s = fMo s ∧ fS s = fMz s ∧ ∀ n i, fS s = nI n → n ≤ 40 → i < n → gE (s * 40 + i) = eR s i := fun s hs e => by
      rcases R s hs with ⟨h0, -⟩ | ⟨-, h1, -, h2, h3⟩ | ⟨h0, -⟩
      · rw [h0] at e; exact absurd e (by decide +kernel)
      · exact ⟨h1, h2, h3⟩
      · rw [h0] at e; exact absurd e (by decide +kernel)
    have un : ∀ {x y : Nat}, x < 8 → y < 8 → nI k = nI x → nI m = nI y → x = k ∧ y = m := fun hx hy e1 e2 => ⟨(nI_eq8 hk hx e1).symm, (nI_eq8 hm hy e2).symm⟩
    obtain ⟨zk, hzk, ezk⟩ := hSz k hk
    obtain ⟨zm, hzm, ezm⟩ := hSz m hm
    -- what the reference says, at these shelves
    have M : (r' = -2 ∧ fMh k = 1 ∧ fMh m = 1 ∧ fMo k = fMo m ∧ ¬ SpM c d n (fMz k) (fMz m) ∧ eN = eR) ∨ (r' = -3 ∧ (fMh k = 2 ∨ fMh m = 2 ∨ (fMh k = 1 ∧ fMh m = 1 ∧ ¬ fMo k = fMo m)) ∧ eN = eR) ∨ (r' = -4 ∧ ¬ fMh k = 2 ∧ ¬ fMh m = 2 ∧ (fMh k = 0 ∨ fMh m = 0) ∧ eN = eR) ∨ (r' = n ∧ fMh k = 1 ∧ fMh m = 1 ∧ fMo k = fMo m ∧ SpM c d n (fMz k) (fMz m) ∧ ∃ i j x : Nat, c = nI i ∧ d = nI j ∧ n = nI x ∧ i + x ≤ 40 ∧ j + x ≤ 40 ∧ ∀ s y, eN s y = if s = m ∧ j ≤ y ∧ y < j + x then eR k (i + (y - j)) else eR s y) := by
      have one : ∀ s, (fMh s = 0 ∨ fMh s = 1 ∨ fMh s = 2) → ¬ fMh s = 2 → ¬ fMh s = 0 → fMh s = 1 := fun s h g1 g2 => by
        rcases h with h | h | h
        · exact absurd h g2
        · exact h
        · exact absurd h g1
      rcases q' with ⟨e, g, e2⟩ | ⟨e, ⟨x, y, hx, hy, ex, ey, g⟩, e2⟩ | ⟨e, ⟨x, y, hx, hy, ex, ey, g⟩, e2⟩ | ⟨e, x, y, i, j, z, hx, hy, ex, ey, g1, g2, g3, g4, g5, g6, g7, g8, gb1, gb2, g9, g10⟩
      · rcases g with g | ⟨x, y, hx, hy, ex, ey, g1, g2, g3, g4, g5, g6⟩
        · exact absurd ⟨k, m, hk, hm, rfl, rfl⟩ g
        · obtain ⟨rfl, rfl⟩ := un hx hy ex ey
          have f1 := one _ s4 g1 g3
          have f2 := one _ t4 g2 g4
          exact Or.inl ⟨e, f1, f2, g5 f1 f2, g6, e2⟩
      · obtain ⟨rfl, rfl⟩ := un hx hy ex ey
        exact Or.inr (Or.inl ⟨e, g, e2⟩)
      · obtain ⟨rfl, rfl⟩ := un hx hy ex ey
        exact Or.inr (Or.inr (Or.inl ⟨e, g.1, g.2.1, g.2.2, e2⟩))
      · obtain ⟨rfl, rfl⟩ := un hx hy ex ey
        have f1 := one _ s4 g1 g3
        have f2 := one _ t4 g2 g4
        exact Or.inr (Or.inr (Or.inr ⟨e, f1, f2, g5 f1 f2, g9, i, j, z, g6, g7, g8, gb1, gb2, g10⟩))
    have X : (r = -2 ∧ fMh k = 1 ∧ fMh m = 1 ∧ fMo k = fMo m ∧ ¬ SpM c d n (fMz k) (fMz m) ∧ gX = gE) ∨ (r = -3 ∧ (fMh k = 2 ∨ fMh m = 2 ∨ (fMh k = 1 ∧ fMh m = 1 ∧ ¬ fMo k = fMo m)) ∧ gX = gE) ∨ (r = -4 ∧ ¬ fMh k = 2 ∧ ¬ fMh m = 2 ∧ (fMh k = 0 ∨ fMh m = 0) ∧ gX = gE) ∨ (r = n ∧ fMh k = 1 ∧ fMh m = 1 ∧ fMo k = fMo m ∧ SpM c d n (fMz k) (fMz m) ∧ ∃ i j x : Nat, c = nI i ∧ d = nI j ∧ n = nI x ∧ i + x ≤ 40 ∧ j + x ≤ 40 ∧ gX = va_cpy gE gE (k * 40 + i) (m * 40 + j) x) := by
      have zero : ∀ s, (fMh s = 0 ∨ fMh s = 1 ∨ fMh s = 2) → ¬ fMh s = 1 → ¬ fMh s = 2 → fMh s = 0 := fun s h g1 g2 => by
        rcases h with h | h | h
        · exact h
        · exact absurd h g1
        · exact absurd h g2
      have spe : fMh k = 1 → fMh m = 1 → (SpM c d n (fMz k) (fMz m) ↔ (Spn c n (fS k) ∧ Spn d n (fS m))) := fun f1 f2 => by
        rw [← (row1 k hk f1).2.1, ← (row1 m hm f2).2.1, ezk, ezm]
        exact spm_iff hzk hzm
      rcases q with ⟨e, g, e2⟩ | ⟨e, ⟨x, y, hx, hy, ex, ey, g⟩, e2⟩ | ⟨e, ⟨x, y, hx, hy, ex, ey, g⟩, e2⟩ | ⟨e, x, y, i, j, z, hx, hy, ex, ey, g1, g2, g3, g4, g5, g6, g7, g8, g9, g10, g11⟩
      · rcases g with g | ⟨x, y, hx, hy, ex, ey, g1, g2, g3, g4⟩
        · exact absurd ⟨k, m, hk, hm, rfl, rfl⟩ g
        · obtain ⟨rfl, rfl⟩ := un hx hy ex ey
          have f1 := s2.mp g1
          have f2 := t2.mp g2
          exact Or.inl ⟨e, f1, f2, by rw [← (row1 _ hk f1).1, ← (row1 _ hm f2).1]; exact g3, fun h => g4 ((spe f1 f2).mp h), e2⟩
      · obtain ⟨rfl, rfl⟩ := un hx hy ex ey
        refine Or.inr (Or.inl ⟨e, ?_, e2⟩)
        rcases g with g | g | ⟨g1, g2, g3⟩
        · exact Or.inl (s1.mp g)
        · exact Or.inr (Or.inl (t1.mp g))
        · have f1 := s2.mp g1
          have f2 := t2.mp g2
          exact Or.inr (Or.inr ⟨f1, f2, by rw [← (row1 _ hk f1).1, ← (row1 _ hm f2).1]; exact g3⟩)
      · obtain ⟨rfl, rfl⟩ := un hx hy ex ey
        have f1 : ¬ fMh x = 2 := fun h => g.1 (s1.mpr h)
        have f2 : ¬ fMh y = 2 := fun h => g.2.1 (t1.mpr h)
        refine Or.inr (Or.inr (Or.inl ⟨e, f1, f2, ?_, e2⟩))
        rcases g.2.2 with g3 | g3
        · exact Or.inl (zero _ s4 (fun h => g3 (s2.mpr h)) f1)
        · exact Or.inr (zero _ t4 (fun h => g3 (t2.mpr h)) f2)
      · obtain ⟨rfl, rfl⟩ := un hx hy ex ey
        have f1 := s2.mp g1
        have f2 := t2.mp g2
        exact Or.inr (Or.inr (Or.inr ⟨e, f1, f2, by rw [← (row1 _ hk f1).1, ← (row1 _ hm f2).1]; exact g3, (spe f1 f2).mpr ⟨g4, g5⟩, i, j, z, g6, g7, g8, g9, g10, g11⟩))
    rcases X with ⟨e, a1, a2, a3, a4, e2⟩ | ⟨e, a1, e2⟩ | ⟨e, a1, a2, a3, e2⟩ | ⟨e, a1, a2, a3, a4, i, j, x, ei, ej, ex, hi, hj, e2⟩ <;> rcases M with ⟨f, b1, b2, b3, b4, f2⟩ | ⟨f, b1, f2⟩ | ⟨f, b1, b2, b3, f2⟩ | ⟨f, b1, b2, b3, b4, i', j', x', fi, fj, fx, fb1, fb2, f2⟩
    · exact ⟨e.trans f.symm, by rw [e2, f2]; exact R⟩
    · exfalso
      rw [a1, a2] at b1
      rcases b1 with b1 | b1 | b1
      · exact absurd b1 (by decide +kernel)
      · exact absurd b1 (by decide +kernel)
      · exact b1.2.2 a3
    · exfalso
      rw [a1, a2] at b3
      rcases b3 with b3 | b3 <;> exact absurd b3 (by decide +kernel)
    · exact absurd b4 a4
    · exfalso
      rw [b1, b2] at a1
      rcases a1 with b | b | b
      · exact absurd b (by decide +kernel)
      · exact absurd b (by decide +kernel)
      · exact b.2.2 b3
    · exact ⟨e.trans f.symm, by rw [e2, f2]; exact R⟩
    · exfalso
      rcases a1 with b | b | b
      · exact b1 b
      · exact b2 b
      · rw [b.1, b.2.1] at b3
        rcases b3 with b3 | b3 <;> exact absurd b3 (by decide +kernel)
    · exfalso
      rw [b1, b2] at a1
      rcases a1 with b | b | b
      · exact absurd b (by decide +kernel)
      · exact absurd b (by decide +kernel)
      · exact b.2.2 b3
    · exfalso
      rw [b1, b2] at a3
      rcases a3 with b | b <;> exact absurd b (by decide +kernel)
    · exfalso
      rcases b1 with b | b | b
      · exact a1 b
      · exact a2 b
      · rw [b.1, b.2.1] at a3
        rcases a3 with b | b <;> exact absurd b (by decide +kernel)
    · exact ⟨e.trans f.symm, by rw [e2, f2]; exact R⟩
    · exfalso
      rw [b1, b2] at a3
      rcases a3 with b | b <;> exact absurd b (by decide +kernel)
    · exact absurd a4 b4
    · exfalso
      rw [a1, a2] at b1
      rcases b1 with b | b | b
      · exact absurd b (by decide +kernel)
      · exact absurd b (by decide +kernel)
      · exact b.2.2 a3
    · exfalso
      rw [a1, a2] at b3
      rcases b3 with b | b <;> exact absurd b (by decide +kernel)
    · refine ⟨e.trans f.symm, fun s hs => ?_⟩
      obtain ⟨sp1, sp2⟩ := (spm_iff hzk hzm).mp (by rw [← ezk, ← ezm, (row1 k hk a1).2.1, (row1 m hm a2).2.1]; exact a4)
      obtain ⟨u1, v1, w1, eu1, ev1⟩ := spn_of rfl hzk sp1
      obtain ⟨u2, v2, w2, eu2, ev2⟩ := spn_of rfl hzm sp2
      subst ei ej ex
      have q1 := nI_inj (by omega) (by omega) eu1
      have q2 := nI_inj (by omega) (by omega) ev1
      have q3 := nI_inj (by omega) (by omega) eu2
      have q4 := nI_inj (by omega) (by omega) ev2
      have q5 := nI_inj (by omega) (by omega) fi
      have q6 := nI_inj (by omega) (by omega) fj
      have q7 := nI_inj (by omega) (by omega) fx
      subst q1 q2 q3 q4 q5 q6 q7
      subst e2
      by_cases es : s = m
      · subst es
        rcases R s hs with ⟨x0, -⟩ | ⟨x1, x2, x3, x4, x5⟩ | ⟨x0, -⟩
        · rw [a2] at x0; exact absurd x0 (by decide +kernel)
        · refine Or.inr (Or.inl ⟨x1, x2, x3, x4, fun n' y hn' h40 hy => ?_⟩)
          have q8 : n' = zm := nI_inj (by omega) (by omega) (hn'.symm.trans ezm)
          subst q8
          rw [f2]
          show (if s * 40 + j ≤ s * 40 + y ∧ s * 40 + y < s * 40 + j + x then gE (k * 40 + i + (s * 40 + y - (s * 40 + j))) else gE (s * 40 + y)) = _
          by_cases c1 : j ≤ y ∧ y < j + x
          · rw [if_pos (by omega), if_pos ⟨rfl, c1⟩, show k * 40 + i + (s * 40 + y - (s * 40 + j)) = k * 40 + (i + (y - j)) by omega]
            exact (row1 k hk a1).2.2 zk (i + (y - j)) ezk hzk (by omega)
          · rw [if_neg (by omega), if_neg (fun q => c1 q.2)]
            exact x5 n' y hn' h40 hy
        · rw [a2] at x0; exact absurd x0 (by decide +kernel)
      · refine sh_off (k := k) (R s hs) rfl rfl rfl rfl rfl rfl rfl rfl (fun y hy => ?_) (fun y _ => ?_)
        · show (if m * 40 + j ≤ s * 40 + y ∧ s * 40 + y < m * 40 + j + x then gE (k * 40 + i + (s * 40 + y - (m * 40 + j))) else gE (s * 40 + y)) = _
          rw [if_neg (by omega)]
        · rw [f2, if_neg (fun q => es q.1)]
  · rcases q with ⟨rfl, -, rfl⟩ | ⟨-, ⟨x, y, hx, hy, ex, ey, -⟩, -⟩ | ⟨-, ⟨x, y, hx, hy, ex, ey, -⟩, -⟩ | ⟨-, x, y, i, j, z, hx, hy, ex, ey, -⟩
    · rcases q' with ⟨rfl, -, rfl⟩ | ⟨-, ⟨x, y, hx, hy, ex, ey, -⟩, -⟩ | ⟨-, ⟨x, y, hx, hy, ex, ey, -⟩, -⟩ | ⟨-, x, y, i, j, z, hx, hy, ex, ey, -⟩
      · exact ⟨rfl, R⟩
      · exact absurd ⟨x, y, hx, hy, ex, ey⟩ hs
      · exact absurd ⟨x, y, hx, hy, ex, ey⟩ hs
      · exact absurd ⟨x, y, hx, hy, ex, ey⟩ hs
    · exact absurd ⟨x, y, hx, hy, ex, ey⟩ hs
    · exact absurd ⟨x, y, hx, hy, ex, ey⟩ hs
    · exact absurd ⟨x, y, hx, hy, ex, ey⟩ hs
theorem lcmp_0 {x y : Int64} (h : x = y) : lg_cmp x y = 0 := by
  subst h
  have h1 := (lg_cmp_le x x).mpr (Int64.le_refl x)
  have h2 := (lg_cmp_ge x x).mpr (Int64.le_refl x)
  rw [Int32.le_iff_toInt_le] at h1 h2
  have e0 : (0 : Int32).toInt = 0 := by decide +kernel
  exact eqI (n := 0) (by decide +kernel) (by omega)
end
section
/-! THE CLAIM OUT OF ONE WALK OF THE LAW'S BODY. Your part is whole_start (and what it stands on); all else here is the same for every law, but numbers. -/
noncomputable def R_law : String := "EachBookOnceLaw"
noncomputable def lw_P (b : Addr) (xs : List Int32) (args : Array Value) (s : State) : Prop := args = #[.ref b] ∧ s.IntsAt b xs ∧ xs.length ≤ 384 ∧ (Jvm.Cond.and given_1 narrow_1).before args s = true
noncomputable def lw_Q (_ : Array Value) (s : State) (o : Outcome) (t : State) : Prop := o = .returned (some (.int 1)) ∧ Framed s o t [] 600000 7302250
noncomputable def lw_Z (below : List Frame) (a : Array Value) (s : State) : State → Prop := fun t => ∃ o, t.status = .running ∧ Ended t below o ∧ lw_Q a s o t
/-- the law's own end, with 1 on the stack, nothing written that was there before, its room as the claim has it -/
theorem lw_ret {p : Program} {l : Launch} {e : Env} {s : State} {m : MethodId} {below : List Frame} {meth : Method} {c : Code} {b : Nat} (hx : p.tables.exec = Jvm.exec) (hb : c.code = code) (hr : meth.sig.returnType = ret) (hlocks : meth.locks = false) {pc : Nat} {H : Heap} {ls : Array Slot} (hdg : decode code pc = .ok (.ireturn, 1)) : W p l e room_1 s m #[Value.ref b] below meth c H [] 600000 7302250 (lw_Z below #[Value.ref b] s) (F0 m pc ls [.int 1]) := by
  intro T hT X
  obtain ⟨fs, hret, hrun, hended, hW, hframe⟩ := X.leave (v := some (.int 1)) (hlocks := hlocks) (fun h => by rw [hr] at h; cases h)
  have hmeth' : T.vm.method? m = some meth := X.method'
  refine ⟨T.setFrames fs, ?_, .returned (some (.int 1)), hrun, hended, rfl, ⟨_, rfl⟩, hW, hframe⟩
  jvm_step X.here [X.here.top, hx, hb, hdg, hmeth', hr, ret, narrow_b1]
  (try refine ⟨rfl, ?_⟩); (try refine ⟨rfl, ?_⟩)
  first | (intro acts; rw [hret _ acts rfl rfl rfl]) | rw [hret _ _ rfl rfl rfl]
  exact Steps.refl _
/-- what holds at the law's entry: the machine, the code, the tables' words (any of lw_tbl by 'hts w (by decide +kernel)'), the script of L ints xs at the cell b, what the Statement gives of the start (any of its parts by flat_of_before) -/
noncomputable def lw_At (p : Program) (s : State) (m : MethodId) (meth : Method) (c : Code) (b L : Nat) (xs : Nat → Int32) : Prop :=
  p.tables.exec = Jvm.exec ∧ c.code = code ∧ meth.sig.returnType = ret ∧ c.maxLocals = 4 ∧ s.vm.findClass R_law = some m.cls ∧ (∀ w ∈ lw_tbl, w.before #[Value.ref b] s = true) ∧ va_X b L xs s s.heap ∧ b < s.heap.size ∧ meth.locks = false ∧ (Jvm.Cond.and given_1 narrow_1).before #[Value.ref b] s = true
theorem kn_nf {s : State} {b : Nat} (hts : ∀ w ∈ lw_tbl, w.before #[Value.ref b] s = true) : ∀ q ∈ nestF, va_Nw (.fieldLinkNest q.1 q.2.1 q.2.2.1 q.2.2.2.1 q.2.2.2.2 AO0) s := by
  unfold nestF
  exact List.forall_mem_cons.mpr ⟨va_Nw.of rfl (hts _ (List.mem_append_right _ n_t30)), List.forall_mem_cons.mpr ⟨va_Nw.of rfl (hts _ (List.mem_append_right _ n_t31)), List.forall_mem_cons.mpr ⟨va_Nw.of rfl (hts _ (List.mem_append_right _ n_t32)), List.forall_mem_cons.mpr ⟨va_Nw.of rfl (hts _ (List.mem_append_right _ n_t33)), List.forall_mem_cons.mpr ⟨va_Nw.of rfl (hts _ (List.mem_append_right _ n_t35)), List.forall_mem_cons.mpr ⟨va_Nw.of rfl (hts _ (List.mem_append_right _ n_t36)), List.forall_mem_cons.mpr ⟨va_Nw.of rfl (hts _ (List.mem_append_right _ n_t37)), List.forall_mem_cons.mpr ⟨va_Nw.of rfl (hts _ (List.mem_append_right _ n_t38)), List.forall_mem_cons.mpr ⟨va_Nw.of rfl (hts _ (List.mem_append_right _ n_t40)), List.forall_mem_cons.mpr ⟨va_Nw.of rfl (hts _ (List.mem_append_right _ n_t41)), List.forall_mem_cons.mpr ⟨va_Nw.of rfl (hts _ (List.mem_append_right _ n_t42)), List.forall_mem_cons.mpr ⟨va_Nw.of rfl (hts _ (List.mem_append_right _ n_t44)), List.forall_mem_cons.mpr ⟨va_Nw.of rfl (hts _ (List.mem_append_right _ n_t45)), List.forall_mem_cons.mpr ⟨va_Nw.of rfl (hts _ (List.mem_append_right _ n_t47)), List.forall_mem_cons.mpr ⟨va_Nw.of rfl (hts _ (List.mem_append_right _ n_t49)), List.forall_mem_cons.mpr ⟨va_Nw.of rfl (hts _ (List.mem_append_right _ n_t51)), List.forall_mem_cons.mpr ⟨va_Nw.of rfl (hts _ (List.mem_append_right _ n_t52)), List.forall_mem_cons.mpr ⟨va_Nw.of rfl (hts _ (List.mem_append_right _ n_t54)), List.forall_mem_cons.mpr ⟨va_Nw.of rfl (hts _ (List.mem_append_right _ n_t55)), List.forall_mem_cons.mpr ⟨va_Nw.of rfl (hts _ (List.mem_append_right _ n_t57)), List.forall_mem_cons.mpr ⟨va_Nw.of rfl (hts _ (List.mem_append_right _ n_t59)), List.forall_mem_cons.mpr ⟨va_Nw.of rfl (hts _ (List.mem_append_right _ n_t61)), List.forall_mem_cons.mpr ⟨va_Nw.of rfl (hts _ (List.mem_append_right _ n_t63)), List.forall_mem_cons.mpr ⟨va_Nw.of rfl (hts _ (List.mem_append_right _ n_t102)), List.forall_mem_cons.mpr ⟨va_Nw.of rfl (hts _ (List.mem_append_right _ n_t105)), List.forall_mem_cons.mpr ⟨va_Nw.of rfl (hts _ (List.mem_append_right _ n_t107)), List.forall_mem_cons.mpr ⟨va_Nw.of rfl (hts _ (List.mem_append_right _ n_t124)), List.forall_mem_cons.mpr ⟨va_Nw.of rfl (hts _ (List.mem_append_right _ n_t126)), List.forall_mem_cons.mpr ⟨va_Nw.of rfl (hts _ (List.mem_append_right _ n_t128)), List.forall_mem_cons.mpr ⟨va_Nw.of rfl (hts _ (List.mem_append_right _ n_t150)), List.forall_mem_cons.mpr ⟨va_Nw.of rfl (hts _ (List.mem_append_right _ n_t155)), List.forall_mem_cons.mpr ⟨va_Nw.of rfl (hts _ (List.mem_append_right _ n_t157)), fun _ h => absurd h List.not_mem_nil⟩⟩⟩⟩⟩⟩⟩⟩⟩⟩⟩⟩⟩⟩⟩⟩⟩⟩⟩⟩⟩⟩⟩⟩⟩⟩⟩⟩⟩⟩⟩⟩
theorem kn_nm {s : State} {b : Nat} (hts : ∀ w ∈ lw_tbl, w.before #[Value.ref b] s = true) : ∀ q ∈ nestM, va_Nw (.methodLinkNest q.1 q.2.1 q.2.2 AO0) s := by
  unfold nestM
  exact List.forall_mem_cons.mpr ⟨va_Nw.of rfl (hts _ (List.mem_append_right _ n_t25)), List.forall_mem_cons.mpr ⟨va_Nw.of rfl (hts _ (List.mem_append_right _ n_t95)), List.forall_mem_cons.mpr ⟨va_Nw.of rfl (hts _ (List.mem_append_right _ n_t100)), List.forall_mem_cons.mpr ⟨va_Nw.of rfl (hts _ (List.mem_append_right _ n_t142)), List.forall_mem_cons.mpr ⟨va_Nw.of rfl (hts _ (List.mem_append_right _ n_t147)), List.forall_mem_cons.mpr ⟨va_Nw.of rfl (hts _ (List.mem_append_right _ n_t321)), List.forall_mem_cons.mpr ⟨va_Nw.of rfl (hts _ (List.mem_append_right _ n_t358)), List.forall_mem_cons.mpr ⟨va_Nw.of rfl (hts _ (List.mem_append_right _ n_t369)), List.forall_mem_cons.mpr ⟨va_Nw.of rfl (hts _ (List.mem_append_right _ n_t681)), fun _ h => absurd h List.not_mem_nil⟩⟩⟩⟩⟩⟩⟩⟩⟩
theorem kn_one {s : State} {b k : Nat} {own tx : String} (h1 : (Cond.stringRef own k tx).before #[Value.ref b] s = true) (h2 : (Cond.exactly (Term.string own k) "java/lang/String").before #[Value.ref b] s = true) : ∃ a : Nat, vk_R own k tx a s := by
  obtain ⟨a, c, cA, kA, q1, -⟩ := Cond.exactly_spec (args := #[Value.ref b]) (first := s) (o := none) (s := s) (idx := []) (t := Term.string own k) (cls := "java/lang/String") h2
  exact ⟨a, vk_R.of h1 q1⟩
theorem kn_st {s : State} {b : Nat} (hts : ∀ w ∈ lw_tbl, w.before #[Value.ref b] s = true) (hgv : (Jvm.Cond.and given_1 narrow_1).before #[Value.ref b] s = true) : ∀ q ∈ strW, ∃ a : Nat, vk_R q.1 q.2.1 q.2.2 a s := by
  have hs := flat_of_before _ hgv
  unfold strW
  exact List.forall_mem_cons.mpr ⟨kn_one (hts _ (List.mem_append_right _ n_t459)) (cd_l (cd_r (cd_r (cd_r (cd_l (cd_l (cd_l (cd_l (cd_l (cd_r hgv)))))))))), List.forall_mem_cons.mpr ⟨kn_one (hts _ (List.mem_append_right _ n_t528)) (cd_r (cd_l (cd_r (cd_r (cd_l (cd_l (cd_l (cd_l (cd_r hgv))))))))), List.forall_mem_cons.mpr ⟨kn_one (hts _ (List.mem_append_right _ n_t534)) (cd_l (cd_l (cd_r (cd_l (cd_r (cd_l (cd_l (cd_l (cd_r hgv))))))))), List.forall_mem_cons.mpr ⟨kn_one (hts _ (List.mem_append_right _ n_t539)) (cd_l (cd_l (cd_r (cd_r (cd_r (cd_l (cd_l (cd_l (cd_r hgv))))))))), List.forall_mem_cons.mpr ⟨kn_one (hts _ (List.mem_append_right _ n_t544)) (cd_r (cd_l (cd_r (cd_l (cd_l (cd_r (cd_l (cd_l (cd_r hgv))))))))), List.forall_mem_cons.mpr ⟨kn_one (hts _ (List.mem_append_right _ n_t545)) (cd_r (cd_r (cd_r (cd_r (cd_r (cd_l (cd_r (cd_l (cd_l (cd_r hgv)))))))))), List.forall_mem_cons.mpr ⟨kn_one (hts _ (List.mem_append_right _ n_t546)) (cd_l (cd_r (cd_r (cd_l (cd_r (cd_r (cd_r (cd_l (cd_l (cd_r hgv)))))))))), List.forall_mem_cons.mpr ⟨kn_one (hts _ (List.mem_append_right _ n_t548)) (cd_r (cd_r (cd_r (cd_r (cd_l (cd_l (cd_l (cd_r (cd_l (cd_r hgv)))))))))), List.forall_mem_cons.mpr ⟨kn_one (hts _ (List.mem_append_right _ n_t554)) (cd_l (cd_l (cd_r (cd_l (cd_r (cd_l (cd_r (cd_l (cd_r hgv))))))))), List.forall_mem_cons.mpr ⟨kn_one (hts _ (List.mem_append_right _ n_t1144)) (cd_l (cd_r (cd_l (cd_l (cd_l (cd_r (cd_r (cd_l (cd_r hgv))))))))), List.forall_mem_cons.mpr ⟨kn_one (hts _ (List.mem_append_right _ n_t1163)) (cd_l (cd_l (cd_l (cd_l (cd_r (cd_r (cd_r (cd_l (cd_r hgv))))))))), List.forall_mem_cons.mpr ⟨kn_one (hts _ (List.mem_append_right _ n_t1168)) (cd_l (cd_r (cd_r (cd_r (cd_r (cd_r (cd_r (cd_r (cd_l (cd_r hgv)))))))))), List.forall_mem_cons.mpr ⟨kn_one (hts _ (List.mem_append_right _ n_t1169)) (cd_l (cd_r (cd_r (cd_r (cd_l (cd_l (cd_l (cd_r (cd_r hgv))))))))), List.forall_mem_cons.mpr ⟨kn_one (hts _ (List.mem_append_right _ n_t1170)) (cd_l (cd_r (cd_r (cd_r (cd_r (cd_r (cd_l (cd_l (cd_r (cd_r hgv)))))))))), List.forall_mem_cons.mpr ⟨kn_one (hts _ (List.mem_append_right _ n_t1171)) (cd_r (cd_l (cd_l (cd_l (cd_r (cd_r (cd_l (cd_r (cd_r hgv))))))))), List.forall_mem_cons.mpr ⟨kn_one (hts _ (List.mem_append_right _ n_t1172)) (cd_l (cd_l (cd_r (cd_l (cd_l (cd_l (cd_r (cd_r (cd_r hgv))))))))), List.forall_mem_cons.mpr ⟨kn_one (hts _ (List.mem_append_right _ n_t1173)) (cd_l (cd_r (cd_r (cd_r (cd_l (cd_r (cd_l (cd_r (cd_r (cd_r hgv)))))))))), List.forall_mem_cons.mpr ⟨kn_one (hts _ (List.mem_append_right _ n_t1174)) (cd_r (cd_r (cd_r (cd_l (cd_r (cd_l (cd_r (cd_r (cd_r (cd_r hgv)))))))))), fun _ h => absurd h List.not_mem_nil⟩⟩⟩⟩⟩⟩⟩⟩⟩⟩⟩⟩⟩⟩⟩⟩⟩⟩
theorem kn_big {s : State} {b : Nat} (hts : ∀ w ∈ lw_tbl, w.before #[Value.ref b] s = true) : ∀ w ∈ BIG, w.before #[Value.ref b] s = true := fun w h => hts w (List.mem_filter.mp h).1
theorem kn_arr {s : State} {cA : ClassId} {ty : FieldType} {k : Class} {comp : ClassId} (h1 : s.vm.classes[cA]? = some k) (h2 : k.kind = .array comp ty) : ArrOfT s cA ty := fun _ _ => ⟨(fun _ h => by cases h), k, h1, comp, h2⟩
theorem kn_start {s : State} {b : Nat} (hts : ∀ w ∈ lw_tbl, w.before #[Value.ref b] s = true) (hgv : (Jvm.Cond.and given_1 narrow_1).before #[Value.ref b] s = true) : ∃ (G : va_G) (cy : Nat → ClassId), KN G cy s := by
  have hB := kn_big hts
  obtain ⟨c0, i0, k0⟩ := u_known (C := RX0) (T := TX0) (N := 4) (n := 4) hB iX_X0 (hB _ m_t94)
  obtain ⟨c1, i1, k1⟩ := u_known (C := RX2) (T := TX2) (N := 4) (n := 4) hB iX_X2 (hB _ m_t118)
  obtain ⟨c2, i2, k2⟩ := u_known (C := RX3) (T := TX3) (N := 7) (n := 7) hB iX_X3 (hB _ m_t141)
  obtain ⟨c3, i3, k3⟩ := u_known (C := RX4) (T := TX4) (N := 13) (n := 13) hB iX_X4 (hB _ m_t24)
  obtain ⟨c4, i4, k4⟩ := u_known (C := RX5) (T := TX5) (N := 9) (n := 9) hB iX_X5 (hB _ m_t16)
  obtain ⟨c5, i5, k5⟩ := u_known (C := RX6) (T := TX6) (N := 35) (n := 35) hB iX_X6 (hB _ m_t839)
  obtain ⟨aI, aIk, aIc, aI1, aI2, aI3⟩ := Cond.arrayClass_spec (hB _ m_t92)
  obtain ⟨aJ, aJk, aJc, aJ1, aJ2, aJ3⟩ := Cond.arrayClass_spec (hB _ m_t139)
  obtain ⟨aB, aBk, aBc, aB1, aB2, aB3⟩ := Cond.arrayClass_spec (hB _ m_t173)
  have oP : (Cond.arrayOver (.array .int)).before #[Value.ref b] s = true := hts _ (List.mem_append_right _ n_t847)
  obtain ⟨gP, aP, aPk, gP1, gP2, gP3, gP4, gP5⟩ := Jvm.Stand.arrayOver_specB oP
  have oS : (Cond.arrayOver (.array .long)).before #[Value.ref b] s = true := hts _ (List.mem_append_right _ n_t845)
  obtain ⟨gS, aS, aSk, gS1, gS2, gS3, gS4, gS5⟩ := Jvm.Stand.arrayOver_specB oS
  have oM : (Cond.arrayOver (.object RX6)).before #[Value.ref b] s = true := hts _ (List.mem_append_right _ n_t849)
  obtain ⟨gM, aM, aMk, gM1, gM2, gM3, gM4, gM5⟩ := Cond.arrayOver_spec oM
  refine ⟨(fun k => match k with | 0 => c0 | 1 => c1 | 2 => c2 | 3 => c3 | 4 => c4 | _ => c5, fun k => match k with | 0 => i0 | 1 => i1 | 2 => i2 | 3 => i3 | 4 => i4 | _ => i5), (fun k => match k with | 0 => aI | 1 => aJ | 2 => aB | 3 => aP | 4 => aS | _ => aM), ⟨?_, ?_⟩, kn_nf hts, kn_nm hts, kn_st hts hgv, oM, oP, oS⟩
  · intro k q hq
    match k, hq with
    | 0, hq => cases hq; exact k0
    | 1, hq => cases hq; exact k1
    | 2, hq => cases hq; exact k2
    | 3, hq => cases hq; exact k3
    | 4, hq => cases hq; exact k4
    | 5, hq => cases hq; exact k5
    | k + 6, hq => simp [CL] at hq
  · intro k q hq
    match k, hq with
    | 0, hq => cases hq; exact ⟨kn_arr aI2 aI3, aI1⟩
    | 1, hq => cases hq; exact ⟨kn_arr aJ2 aJ3, aJ1⟩
    | 2, hq => cases hq; exact ⟨kn_arr aB2 aB3, aB1⟩
    | 3, hq => cases hq; exact ⟨kn_arr gP3 gP4, gP5⟩
    | 4, hq => cases hq; exact ⟨kn_arr gS3 gS4, gS5⟩
    | 5, hq => cases hq; exact ⟨kn_arr gM3 gM4, aMk, gM, gM3, gM4, gM1, gM5⟩
    | k + 6, hq => simp [tysA] at hq
theorem so_one {s : State} {b : Nat} {A : Nat → Prop} {own tx : String} {k : Nat} {lB : List Int32} (hlen : lB.length < 2 ^ 31) (hA : ∀ a : Nat, a < s.heap.size → ¬ A a) (hz1 : va_Z "java/lang/String" "COMPACT_STRINGS" "Z" (.int 1) A s s.heap) (hz2 : va_Zq "jdk/internal/util/Preconditions" "SIOOBE_FORMATTER" "Ljava/util/function/BiFunction;" A s s.heap)
    (h1 : (Cond.stringRef own k tx).before #[Value.ref b] s = true) (hex : (Cond.exactly (Term.string own k) "java/lang/String").before #[Value.ref b] s = true) (hco : (Cond.eq (.field (Term.string own k) "java/lang/String" "coder" "B") (.int 0)).before #[Value.ref b] s = true) (har : (Cond.arrayOf (.field (Term.string own k) "java/lang/String" "value" "[B") .byte).before #[Value.ref b] s = true)
    (hle : (Cond.eq (.length (.field (Term.string own k) "java/lang/String" "value" "[B")) (.int (Int32.ofNat lB.length))).before #[Value.ref b] s = true) (hel : ∀ j : Nat, j < lB.length → (Cond.eq (.elem (.field (Term.string own k) "java/lang/String" "value" "[B") (.int (Int32.ofNat j))) (.int (lB.getD j 0))).before #[Value.ref b] s = true) :
    ∃ a v : Nat, vk_R own k tx a s ∧ SF lB a v A s s.heap := by
  obtain ⟨a, c, cA, kA, q1, q2, q3, q4, q5, q6, -⟩ := Cond.exactly_spec (args := #[Value.ref b]) (first := s) (o := none) (s := s) (idx := []) (t := Term.string own k) (cls := "java/lang/String") hex
  obtain ⟨t, ht, hT⟩ := va_Tof (f := fun j => .int (lB.getD j 0)) (A := A) hlen har (va_eqt hle) (fun j hj => va_eqt (hel j hj)) hA
  exact ⟨a, t, vk_R.of h1 q1, ⟨cA, q3, q5, by rw [q6]; exact q2, hA a (Array.getElem?_eq_some_iff.mp q3).1⟩, vk_OFof q1 (va_eqt hco) hA, vk_OFof q1 ht hA, hT, hz1, hz2⟩
theorem so_start {s : State} {b : Nat} {A : Nat → Prop} (hts : ∀ w ∈ lw_tbl, w.before #[Value.ref b] s = true) (hgv : (Jvm.Cond.and given_1 narrow_1).before #[Value.ref b] s = true) (hA : ∀ a : Nat, a < s.heap.size → ¬ A a) : SO A s s.heap := by
  have hz1 : va_Z "java/lang/String" "COMPACT_STRINGS" "Z" (.int 1) A s s.heap := va_Zof (hts _ (List.mem_append_right _ n_t473)) (hts _ (List.mem_append_right _ n_t10)) (va_eqi (cd_l (cd_r (cd_l (cd_l (cd_l (cd_l (cd_l (cd_l (cd_r hgv)))))))))) hA
  have hz2 : va_Zq "jdk/internal/util/Preconditions" "SIOOBE_FORMATTER" "Ljava/util/function/BiFunction;" A s s.heap := va_Zqof (hts _ (List.mem_append_right _ n_t489)) (hts _ (List.mem_append_right _ n_t12)) (cd_r (cd_r (cd_l (cd_l (cd_l (cd_l (cd_l (cd_l (cd_r hgv))))))))) hA
  unfold SO strT
  exact List.forall_mem_cons.mpr ⟨so_one (by decide +kernel) hA hz1 hz2 (hts _ (List.mem_append_right _ n_t459)) (cd_l (cd_r (cd_r (cd_r (cd_l (cd_l (cd_l (cd_l (cd_l (cd_r hgv)))))))))) (cd_r (cd_r (cd_r (cd_r (cd_l (cd_l (cd_l (cd_l (cd_l (cd_r hgv)))))))))) (cd_l (cd_l (cd_l (cd_r (cd_l (cd_l (cd_l (cd_l (cd_r hgv))))))))) (cd_r (cd_l (cd_l (cd_r (cd_l (cd_l (cd_l (cd_l (cd_r hgv))))))))) (fun j hj => by match j, hj with | 0, _ => exact (cd_l (cd_r (cd_l (cd_r (cd_l (cd_l (cd_l (cd_l (cd_r hgv))))))))) | 1, _ => exact (cd_l (cd_r (cd_r (cd_l (cd_r (cd_l (cd_l (cd_l (cd_l (cd_r hgv)))))))))) | 2, _ => exact (cd_r (cd_r (cd_r (cd_l (cd_r (cd_l (cd_l (cd_l (cd_l (cd_r hgv)))))))))) | 3, _ => exact (cd_l (cd_l (cd_r (cd_r (cd_l (cd_l (cd_l (cd_l (cd_r hgv))))))))) | j + 4, hj => exact absurd hj (by simp)), List.forall_mem_cons.mpr ⟨so_one (by decide +kernel) hA hz1 hz2 (hts _ (List.mem_append_right _ n_t528)) (cd_r (cd_l (cd_r (cd_r (cd_l (cd_l (cd_l (cd_l (cd_r hgv))))))))) (cd_l (cd_r (cd_r (cd_r (cd_l (cd_l (cd_l (cd_l (cd_r hgv))))))))) (cd_l (cd_r (cd_r (cd_r (cd_r (cd_l (cd_l (cd_l (cd_l (cd_r hgv)))))))))) (cd_r (cd_r (cd_r (cd_r (cd_r (cd_l (cd_l (cd_l (cd_l (cd_r hgv)))))))))) (fun j hj => by match j, hj with | 0, _ => exact (cd_l (cd_l (cd_l (cd_l (cd_r (cd_l (cd_l (cd_l (cd_r hgv))))))))) | 1, _ => exact (cd_r (cd_l (cd_l (cd_l (cd_r (cd_l (cd_l (cd_l (cd_r hgv))))))))) | 2, _ => exact (cd_l (cd_r (cd_l (cd_l (cd_r (cd_l (cd_l (cd_l (cd_r hgv))))))))) | 3, _ => exact (cd_l (cd_r (cd_r (cd_l (cd_l (cd_r (cd_l (cd_l (cd_l (cd_r hgv)))))))))) | j + 4, hj => exact absurd hj (by simp)), List.forall_mem_cons.mpr ⟨so_one (by decide +kernel) hA hz1 hz2 (hts _ (List.mem_append_right _ n_t534)) (cd_l (cd_l (cd_r (cd_l (cd_r (cd_l (cd_l (cd_l (cd_r hgv))))))))) (cd_r (cd_l (cd_r (cd_l (cd_r (cd_l (cd_l (cd_l (cd_r hgv))))))))) (cd_l (cd_r (cd_r (cd_l (cd_r (cd_l (cd_l (cd_l (cd_r hgv))))))))) (cd_l (cd_r (cd_r (cd_r (cd_l (cd_r (cd_l (cd_l (cd_l (cd_r hgv)))))))))) (fun j hj => by match j, hj with | 0, _ => exact (cd_r (cd_r (cd_r (cd_r (cd_l (cd_r (cd_l (cd_l (cd_l (cd_r hgv)))))))))) | 1, _ => exact (cd_l (cd_l (cd_l (cd_r (cd_r (cd_l (cd_l (cd_l (cd_r hgv))))))))) | 2, _ => exact (cd_r (cd_l (cd_l (cd_r (cd_r (cd_l (cd_l (cd_l (cd_r hgv))))))))) | 3, _ => exact (cd_l (cd_r (cd_l (cd_r (cd_r (cd_l (cd_l (cd_l (cd_r hgv))))))))) | j + 4, hj => exact absurd hj (by simp)), List.forall_mem_cons.mpr ⟨so_one (by decide +kernel) hA hz1 hz2 (hts _ (List.mem_append_right _ n_t539)) (cd_l (cd_l (cd_r (cd_r (cd_r (cd_l (cd_l (cd_l (cd_r hgv))))))))) (cd_r (cd_l (cd_r (cd_r (cd_r (cd_l (cd_l (cd_l (cd_r hgv))))))))) (cd_l (cd_r (cd_r (cd_r (cd_r (cd_l (cd_l (cd_l (cd_r hgv))))))))) (cd_l (cd_r (cd_r (cd_r (cd_r (cd_r (cd_l (cd_l (cd_l (cd_r hgv)))))))))) (fun j hj => by match j, hj with | 0, _ => exact (cd_r (cd_r (cd_r (cd_r (cd_r (cd_r (cd_l (cd_l (cd_l (cd_r hgv)))))))))) | 1, _ => exact (cd_l (cd_l (cd_l (cd_l (cd_l (cd_r (cd_l (cd_l (cd_r hgv))))))))) | 2, _ => exact (cd_r (cd_l (cd_l (cd_l (cd_l (cd_r (cd_l (cd_l (cd_r hgv))))))))) | j + 3, hj => exact absurd hj (by simp)), List.forall_mem_cons.mpr ⟨so_one (by decide +kernel) hA hz1 hz2 (hts _ (List.mem_append_right _ n_t544)) (cd_r (cd_l (cd_r (cd_l (cd_l (cd_r (cd_l (cd_l (cd_r hgv))))))))) (cd_l (cd_r (cd_r (cd_l (cd_l (cd_r (cd_l (cd_l (cd_r hgv))))))))) (cd_l (cd_r (cd_r (cd_r (cd_l (cd_l (cd_r (cd_l (cd_l (cd_r hgv)))))))))) (cd_r (cd_r (cd_r (cd_r (cd_l (cd_l (cd_r (cd_l (cd_l (cd_r hgv)))))))))) (fun j hj => by match j, hj with | 0, _ => exact (cd_l (cd_l (cd_l (cd_r (cd_l (cd_r (cd_l (cd_l (cd_r hgv))))))))) | 1, _ => exact (cd_r (cd_l (cd_l (cd_r (cd_l (cd_r (cd_l (cd_l (cd_r hgv))))))))) | 2, _ => exact (cd_l (cd_r (cd_l (cd_r (cd_l (cd_r (cd_l (cd_l (cd_r hgv))))))))) | 3, _ => exact (cd_l (cd_r (cd_r (cd_l (cd_r (cd_l (cd_r (cd_l (cd_l (cd_r hgv)))))))))) | 4, _ => exact (cd_r (cd_r (cd_r (cd_l (cd_r (cd_l (cd_r (cd_l (cd_l (cd_r hgv)))))))))) | j + 5, hj => exact absurd hj (by simp)), List.forall_mem_cons.mpr ⟨so_one (by decide +kernel) hA hz1 hz2 (hts _ (List.mem_append_right _ n_t545)) (cd_r (cd_r (cd_r (cd_r (cd_r (cd_l (cd_r (cd_l (cd_l (cd_r hgv)))))))))) (cd_l (cd_l (cd_l (cd_l (cd_r (cd_r (cd_l (cd_l (cd_r hgv))))))))) (cd_r (cd_l (cd_l (cd_l (cd_r (cd_r (cd_l (cd_l (cd_r hgv))))))))) (cd_l (cd_r (cd_l (cd_l (cd_r (cd_r (cd_l (cd_l (cd_r hgv))))))))) (fun j hj => by match j, hj with | 0, _ => exact (cd_l (cd_r (cd_r (cd_l (cd_l (cd_r (cd_r (cd_l (cd_l (cd_r hgv)))))))))) | 1, _ => exact (cd_r (cd_r (cd_r (cd_l (cd_l (cd_r (cd_r (cd_l (cd_l (cd_r hgv)))))))))) | 2, _ => exact (cd_l (cd_l (cd_r (cd_l (cd_r (cd_r (cd_l (cd_l (cd_r hgv))))))))) | 3, _ => exact (cd_r (cd_l (cd_r (cd_l (cd_r (cd_r (cd_l (cd_l (cd_r hgv))))))))) | 4, _ => exact (cd_l (cd_r (cd_r (cd_l (cd_r (cd_r (cd_l (cd_l (cd_r hgv))))))))) | j + 5, hj => exact absurd hj (by simp)), List.forall_mem_cons.mpr ⟨so_one (by decide +kernel) hA hz1 hz2 (hts _ (List.mem_append_right _ n_t546)) (cd_l (cd_r (cd_r (cd_l (cd_r (cd_r (cd_r (cd_l (cd_l (cd_r hgv)))))))))) (cd_r (cd_r (cd_r (cd_l (cd_r (cd_r (cd_r (cd_l (cd_l (cd_r hgv)))))))))) (cd_l (cd_l (cd_r (cd_r (cd_r (cd_r (cd_l (cd_l (cd_r hgv))))))))) (cd_r (cd_l (cd_r (cd_r (cd_r (cd_r (cd_l (cd_l (cd_r hgv))))))))) (fun j hj => by match j, hj with | 0, _ => exact (cd_l (cd_r (cd_r (cd_r (cd_r (cd_r (cd_l (cd_l (cd_r hgv))))))))) | 1, _ => exact (cd_l (cd_r (cd_r (cd_r (cd_r (cd_r (cd_r (cd_l (cd_l (cd_r hgv)))))))))) | 2, _ => exact (cd_r (cd_r (cd_r (cd_r (cd_r (cd_r (cd_r (cd_l (cd_l (cd_r hgv)))))))))) | 3, _ => exact (cd_l (cd_l (cd_l (cd_l (cd_l (cd_l (cd_r (cd_l (cd_r hgv))))))))) | 4, _ => exact (cd_r (cd_l (cd_l (cd_l (cd_l (cd_l (cd_r (cd_l (cd_r hgv))))))))) | j + 5, hj => exact absurd hj (by simp)), List.forall_mem_cons.mpr ⟨so_one (by decide +kernel) hA hz1 hz2 (hts _ (List.mem_append_right _ n_t548)) (cd_r (cd_r (cd_r (cd_r (cd_l (cd_l (cd_l (cd_r (cd_l (cd_r hgv)))))))))) (cd_l (cd_l (cd_l (cd_r (cd_l (cd_l (cd_r (cd_l (cd_r hgv))))))))) (cd_r (cd_l (cd_l (cd_r (cd_l (cd_l (cd_r (cd_l (cd_r hgv))))))))) (cd_l (cd_r (cd_l (cd_r (cd_l (cd_l (cd_r (cd_l (cd_r hgv))))))))) (fun j hj => by match j, hj with | 0, _ => exact (cd_l (cd_r (cd_r (cd_l (cd_r (cd_l (cd_l (cd_r (cd_l (cd_r hgv)))))))))) | 1, _ => exact (cd_r (cd_r (cd_r (cd_l (cd_r (cd_l (cd_l (cd_r (cd_l (cd_r hgv)))))))))) | 2, _ => exact (cd_l (cd_l (cd_r (cd_r (cd_l (cd_l (cd_r (cd_l (cd_r hgv))))))))) | 3, _ => exact (cd_r (cd_l (cd_r (cd_r (cd_l (cd_l (cd_r (cd_l (cd_r hgv))))))))) | 4, _ => exact (cd_l (cd_r (cd_r (cd_r (cd_l (cd_l (cd_r (cd_l (cd_r hgv))))))))) | j + 5, hj => exact absurd hj (by simp)), List.forall_mem_cons.mpr ⟨so_one (by decide +kernel) hA hz1 hz2 (hts _ (List.mem_append_right _ n_t554)) (cd_l (cd_l (cd_r (cd_l (cd_r (cd_l (cd_r (cd_l (cd_r hgv))))))))) (cd_r (cd_l (cd_r (cd_l (cd_r (cd_l (cd_r (cd_l (cd_r hgv))))))))) (cd_l (cd_r (cd_r (cd_l (cd_r (cd_l (cd_r (cd_l (cd_r hgv))))))))) (cd_l (cd_r (cd_r (cd_r (cd_l (cd_r (cd_l (cd_r (cd_l (cd_r hgv)))))))))) (fun j hj => by match j, hj with | 0, _ => exact (cd_r (cd_r (cd_r (cd_r (cd_l (cd_r (cd_l (cd_r (cd_l (cd_r hgv)))))))))) | 1, _ => exact (cd_l (cd_l (cd_l (cd_r (cd_r (cd_l (cd_r (cd_l (cd_r hgv))))))))) | 2, _ => exact (cd_r (cd_l (cd_l (cd_r (cd_r (cd_l (cd_r (cd_l (cd_r hgv))))))))) | 3, _ => exact (cd_l (cd_r (cd_l (cd_r (cd_r (cd_l (cd_r (cd_l (cd_r hgv))))))))) | 4, _ => exact (cd_l (cd_r (cd_r (cd_l (cd_r (cd_r (cd_l (cd_r (cd_l (cd_r hgv)))))))))) | j + 5, hj => exact absurd hj (by simp)), List.forall_mem_cons.mpr ⟨so_one (by decide +kernel) hA hz1 hz2 (hts _ (List.mem_append_right _ n_t1144)) (cd_l (cd_r (cd_l (cd_l (cd_l (cd_r (cd_r (cd_l (cd_r hgv))))))))) (cd_r (cd_r (cd_l (cd_l (cd_l (cd_r (cd_r (cd_l (cd_r hgv))))))))) (cd_l (cd_l (cd_r (cd_l (cd_l (cd_r (cd_r (cd_l (cd_r hgv))))))))) (cd_r (cd_l (cd_r (cd_l (cd_l (cd_r (cd_r (cd_l (cd_r hgv))))))))) (fun j hj => by match j, hj with | 0, _ => exact (cd_l (cd_r (cd_r (cd_l (cd_l (cd_r (cd_r (cd_l (cd_r hgv))))))))) | 1, _ => exact (cd_l (cd_r (cd_r (cd_r (cd_l (cd_l (cd_r (cd_r (cd_l (cd_r hgv)))))))))) | 2, _ => exact (cd_r (cd_r (cd_r (cd_r (cd_l (cd_l (cd_r (cd_r (cd_l (cd_r hgv)))))))))) | 3, _ => exact (cd_l (cd_l (cd_l (cd_r (cd_l (cd_r (cd_r (cd_l (cd_r hgv))))))))) | j + 4, hj => exact absurd hj (by simp)), List.forall_mem_cons.mpr ⟨so_one (by decide +kernel) hA hz1 hz2 (hts _ (List.mem_append_right _ n_t1163)) (cd_l (cd_l (cd_l (cd_l (cd_r (cd_r (cd_r (cd_l (cd_r hgv))))))))) (cd_r (cd_l (cd_l (cd_l (cd_r (cd_r (cd_r (cd_l (cd_r hgv))))))))) (cd_l (cd_r (cd_l (cd_l (cd_r (cd_r (cd_r (cd_l (cd_r hgv))))))))) (cd_l (cd_r (cd_r (cd_l (cd_l (cd_r (cd_r (cd_r (cd_l (cd_r hgv)))))))))) (fun j hj => by match j, hj with | 0, _ => exact (cd_r (cd_r (cd_r (cd_l (cd_l (cd_r (cd_r (cd_r (cd_l (cd_r hgv)))))))))) | 1, _ => exact (cd_l (cd_l (cd_r (cd_l (cd_r (cd_r (cd_r (cd_l (cd_r hgv))))))))) | 2, _ => exact (cd_r (cd_l (cd_r (cd_l (cd_r (cd_r (cd_r (cd_l (cd_r hgv))))))))) | 3, _ => exact (cd_l (cd_r (cd_r (cd_l (cd_r (cd_r (cd_r (cd_l (cd_r hgv))))))))) | j + 4, hj => exact absurd hj (by simp)), List.forall_mem_cons.mpr ⟨so_one (by decide +kernel) hA hz1 hz2 (hts _ (List.mem_append_right _ n_t1168)) (cd_l (cd_r (cd_r (cd_r (cd_r (cd_r (cd_r (cd_r (cd_l (cd_r hgv)))))))))) (cd_r (cd_r (cd_r (cd_r (cd_r (cd_r (cd_r (cd_r (cd_l (cd_r hgv)))))))))) (cd_l (cd_l (cd_l (cd_l (cd_l (cd_l (cd_l (cd_r (cd_r hgv))))))))) (cd_r (cd_l (cd_l (cd_l (cd_l (cd_l (cd_l (cd_r (cd_r hgv))))))))) (fun j hj => by match j, hj with | 0, _ => exact (cd_l (cd_r (cd_l (cd_l (cd_l (cd_l (cd_l (cd_r (cd_r hgv))))))))) | 1, _ => exact (cd_r (cd_r (cd_l (cd_l (cd_l (cd_l (cd_l (cd_r (cd_r hgv))))))))) | 2, _ => exact (cd_l (cd_l (cd_r (cd_l (cd_l (cd_l (cd_l (cd_r (cd_r hgv))))))))) | j + 3, hj => exact absurd hj (by simp)), List.forall_mem_cons.mpr ⟨so_one (by decide +kernel) hA hz1 hz2 (hts _ (List.mem_append_right _ n_t1169)) (cd_l (cd_r (cd_r (cd_r (cd_l (cd_l (cd_l (cd_r (cd_r hgv))))))))) (cd_l (cd_r (cd_r (cd_r (cd_r (cd_l (cd_l (cd_l (cd_r (cd_r hgv)))))))))) (cd_r (cd_r (cd_r (cd_r (cd_r (cd_l (cd_l (cd_l (cd_r (cd_r hgv)))))))))) (cd_l (cd_l (cd_l (cd_l (cd_r (cd_l (cd_l (cd_r (cd_r hgv))))))))) (fun j hj => by match j, hj with | 0, _ => exact (cd_r (cd_l (cd_l (cd_l (cd_r (cd_l (cd_l (cd_r (cd_r hgv))))))))) | 1, _ => exact (cd_l (cd_r (cd_l (cd_l (cd_r (cd_l (cd_l (cd_r (cd_r hgv))))))))) | 2, _ => exact (cd_l (cd_r (cd_r (cd_l (cd_l (cd_r (cd_l (cd_l (cd_r (cd_r hgv)))))))))) | 3, _ => exact (cd_r (cd_r (cd_r (cd_l (cd_l (cd_r (cd_l (cd_l (cd_r (cd_r hgv)))))))))) | 4, _ => exact (cd_l (cd_l (cd_r (cd_l (cd_r (cd_l (cd_l (cd_r (cd_r hgv))))))))) | j + 5, hj => exact absurd hj (by simp)), List.forall_mem_cons.mpr ⟨so_one (by decide +kernel) hA hz1 hz2 (hts _ (List.mem_append_right _ n_t1170)) (cd_l (cd_r (cd_r (cd_r (cd_r (cd_r (cd_l (cd_l (cd_r (cd_r hgv)))))))))) (cd_r (cd_r (cd_r (cd_r (cd_r (cd_r (cd_l (cd_l (cd_r (cd_r hgv)))))))))) (cd_l (cd_l (cd_l (cd_l (cd_l (cd_r (cd_l (cd_r (cd_r hgv))))))))) (cd_r (cd_l (cd_l (cd_l (cd_l (cd_r (cd_l (cd_r (cd_r hgv))))))))) (fun j hj => by match j, hj with | 0, _ => exact (cd_l (cd_r (cd_l (cd_l (cd_l (cd_r (cd_l (cd_r (cd_r hgv))))))))) | 1, _ => exact (cd_r (cd_r (cd_l (cd_l (cd_l (cd_r (cd_l (cd_r (cd_r hgv))))))))) | 2, _ => exact (cd_l (cd_l (cd_r (cd_l (cd_l (cd_r (cd_l (cd_r (cd_r hgv))))))))) | 3, _ => exact (cd_r (cd_l (cd_r (cd_l (cd_l (cd_r (cd_l (cd_r (cd_r hgv))))))))) | 4, _ => exact (cd_l (cd_r (cd_r (cd_l (cd_l (cd_r (cd_l (cd_r (cd_r hgv))))))))) | j + 5, hj => exact absurd hj (by simp)), List.forall_mem_cons.mpr ⟨so_one (by decide +kernel) hA hz1 hz2 (hts _ (List.mem_append_right _ n_t1171)) (cd_r (cd_l (cd_l (cd_l (cd_r (cd_r (cd_l (cd_r (cd_r hgv))))))))) (cd_l (cd_r (cd_l (cd_l (cd_r (cd_r (cd_l (cd_r (cd_r hgv))))))))) (cd_l (cd_r (cd_r (cd_l (cd_l (cd_r (cd_r (cd_l (cd_r (cd_r hgv)))))))))) (cd_r (cd_r (cd_r (cd_l (cd_l (cd_r (cd_r (cd_l (cd_r (cd_r hgv)))))))))) (fun j hj => by match j, hj with | 0, _ => exact (cd_l (cd_l (cd_r (cd_l (cd_r (cd_r (cd_l (cd_r (cd_r hgv))))))))) | 1, _ => exact (cd_r (cd_l (cd_r (cd_l (cd_r (cd_r (cd_l (cd_r (cd_r hgv))))))))) | 2, _ => exact (cd_l (cd_r (cd_r (cd_l (cd_r (cd_r (cd_l (cd_r (cd_r hgv))))))))) | 3, _ => exact (cd_l (cd_r (cd_r (cd_r (cd_l (cd_r (cd_r (cd_l (cd_r (cd_r hgv)))))))))) | 4, _ => exact (cd_r (cd_r (cd_r (cd_r (cd_l (cd_r (cd_r (cd_l (cd_r (cd_r hgv)))))))))) | j + 5, hj => exact absurd hj (by simp)), List.forall_mem_cons.mpr ⟨so_one (by decide +kernel) hA hz1 hz2 (hts _ (List.mem_append_right _ n_t1172)) (cd_l (cd_l (cd_r (cd_l (cd_l (cd_l (cd_r (cd_r (cd_r hgv))))))))) (cd_r (cd_l (cd_r (cd_l (cd_l (cd_l (cd_r (cd_r (cd_r hgv))))))))) (cd_l (cd_r (cd_r (cd_l (cd_l (cd_l (cd_r (cd_r (cd_r hgv))))))))) (cd_l (cd_r (cd_r (cd_r (cd_l (cd_l (cd_l (cd_r (cd_r (cd_r hgv)))))))))) (fun j hj => by match j, hj with | 0, _ => exact (cd_r (cd_r (cd_r (cd_r (cd_l (cd_l (cd_l (cd_r (cd_r (cd_r hgv)))))))))) | 1, _ => exact (cd_l (cd_l (cd_l (cd_r (cd_l (cd_l (cd_r (cd_r (cd_r hgv))))))))) | 2, _ => exact (cd_r (cd_l (cd_l (cd_r (cd_l (cd_l (cd_r (cd_r (cd_r hgv))))))))) | 3, _ => exact (cd_l (cd_r (cd_l (cd_r (cd_l (cd_l (cd_r (cd_r (cd_r hgv))))))))) | j + 4, hj => exact absurd hj (by simp)), List.forall_mem_cons.mpr ⟨so_one (by decide +kernel) hA hz1 hz2 (hts _ (List.mem_append_right _ n_t1173)) (cd_l (cd_r (cd_r (cd_r (cd_l (cd_r (cd_l (cd_r (cd_r (cd_r hgv)))))))))) (cd_r (cd_r (cd_r (cd_r (cd_l (cd_r (cd_l (cd_r (cd_r (cd_r hgv)))))))))) (cd_l (cd_l (cd_l (cd_r (cd_r (cd_l (cd_r (cd_r (cd_r hgv))))))))) (cd_r (cd_l (cd_l (cd_r (cd_r (cd_l (cd_r (cd_r (cd_r hgv))))))))) (fun j hj => by match j, hj with | 0, _ => exact (cd_l (cd_r (cd_l (cd_r (cd_r (cd_l (cd_r (cd_r (cd_r hgv))))))))) | 1, _ => exact (cd_l (cd_r (cd_r (cd_l (cd_r (cd_r (cd_l (cd_r (cd_r (cd_r hgv)))))))))) | 2, _ => exact (cd_r (cd_r (cd_r (cd_l (cd_r (cd_r (cd_l (cd_r (cd_r (cd_r hgv)))))))))) | 3, _ => exact (cd_l (cd_l (cd_r (cd_r (cd_r (cd_l (cd_r (cd_r (cd_r hgv))))))))) | 4, _ => exact (cd_r (cd_l (cd_r (cd_r (cd_r (cd_l (cd_r (cd_r (cd_r hgv))))))))) | j + 5, hj => exact absurd hj (by simp)), List.forall_mem_cons.mpr ⟨so_one (by decide +kernel) hA hz1 hz2 (hts _ (List.mem_append_right _ n_t1174)) (cd_r (cd_r (cd_r (cd_l (cd_r (cd_l (cd_r (cd_r (cd_r (cd_r hgv)))))))))) (cd_l (cd_l (cd_r (cd_r (cd_l (cd_r (cd_r (cd_r (cd_r hgv))))))))) (cd_r (cd_l (cd_r (cd_r (cd_l (cd_r (cd_r (cd_r (cd_r hgv))))))))) (cd_l (cd_r (cd_r (cd_r (cd_l (cd_r (cd_r (cd_r (cd_r hgv))))))))) (fun j hj => by match j, hj with | 0, _ => exact (cd_l (cd_r (cd_r (cd_r (cd_r (cd_l (cd_r (cd_r (cd_r (cd_r hgv)))))))))) | 1, _ => exact (cd_r (cd_r (cd_r (cd_r (cd_r (cd_l (cd_r (cd_r (cd_r (cd_r hgv)))))))))) | 2, _ => exact (cd_l (cd_l (cd_l (cd_l (cd_r (cd_r (cd_r (cd_r (cd_r hgv))))))))) | 3, _ => exact (cd_r (cd_l (cd_l (cd_l (cd_r (cd_r (cd_r (cd_r (cd_r hgv))))))))) | 4, _ => exact (cd_l (cd_r (cd_l (cd_l (cd_r (cd_r (cd_r (cd_r (cd_r hgv))))))))) | j + 5, hj => exact absurd hj (by simp)), fun _ h => absurd h List.not_mem_nil⟩⟩⟩⟩⟩⟩⟩⟩⟩⟩⟩⟩⟩⟩⟩⟩⟩⟩
end
