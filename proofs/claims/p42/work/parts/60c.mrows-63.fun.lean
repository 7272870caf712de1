section
set_option maxHeartbeats 4000000 in
set_option maxRecDepth 100000 in
theorem c_X6_rows0 (l : Launch) (G : va_G) (cy : Nat → ClassId) (sz : Nat) (qm : Nat) (qmh : Nat) (qmo : Nat) (qmz : Nat) (qmR : Nat) (qmv : Nat) (qmk : Nat) (qma : Nat) (qmt : Nat) (kZ : Nat) (qmr : Nat) (tA : TA) (qmB : Nat) (qmO : Nat) (qmK : Nat) (iEn : Int32) (iTk : Int32) (uP : UM) (uU : UM) (kAt : Nat) (iTo : Int32) (iFr : Int32) (JFi : Int64) (iFa : Int32) (qm3 : Nat) (iSt : Int32) (iLv : Int32) (iWs : Int32) (vLa : Value) (qmu : Nat) (qmy : Nat) (qmb : Nat) (qms : Nat) (iOm : Int32) (rB : Nat → Nat) (rO : Nat → Nat) (rK : Nat → Nat) (fMu : Nat → Int32) (fMy : Nat → Int32) (fMb : Nat → Int32) (uS0 : UM) (uS1 : UM) (uS2 : UM) (uS3 : UM) (uS4 : UM) (kI : Nat) (kM : Nat) (kU : Nat)  (hI : kI < 8) (hM5 : kM ≤ 5) (hiM : 0 ≤ kM) (hU32 : kU < 32) (hcu : kM ≤ 0 + cu kM kU) (hB : T_nb tA ≤ 8) (hUn : ∀ k, k < kM → ∃ b : Nat, b < 8 ∧ fMu k = nI b) : MW l yX6_rowsFrom cX6_rowsFrom 8 none 11 250 4440 G cy ([zzO qm 5 (.ref qmh :: .ref qmo :: .ref qmz :: .ref qmR :: .ref qmv :: .ref qmk :: .ref qma :: .ref qmt :: .int (nI kZ) :: .ref qmr :: .int (nI (T_nb tA)) :: .ref qmB :: .int (nI (T_np tA)) :: .ref qmO :: .ref qmK :: .int iEn :: .int iTk :: .int (T_sd tA) :: ov uP :: ov uU :: .int (nI kAt) :: .int iTo :: .int iFr :: .long JFi :: .int iFa :: .ref qm3 :: .int iSt :: .int iLv :: .int iWs :: vLa :: .ref qmu :: .ref qmy :: .ref qmb :: .ref qms :: .int iOm :: []), zzG cy 3 qmB rB, zzI cy (rB 0) 4 (bkR tA 0), zzI cy (rB 1) 4 (bkR tA 1), zzI cy (rB 2) 4 (bkR tA 2), zzI cy (rB 3) 4 (bkR tA 3), zzI cy (rB 4) 4 (bkR tA 4), zzI cy (rB 5) 4 (bkR tA 5), zzI cy (rB 6) 4 (bkR tA 6), zzI cy (rB 7) 4 (bkR tA 7), zzG cy 3 qmO rO, zzI cy (rO 0) 5 (onR tA 0), zzI cy (rO 1) 5 (onR tA 1), zzI cy (rO 2) 5 (onR tA 2), zzI cy (rO 3) 5 (onR tA 3), zzI cy (rO 4) 5 (onR tA 4), zzI cy (rO 5) 5 (onR tA 5), zzI cy (rO 6) 5 (onR tA 6), zzI cy (rO 7) 5 (onR tA 7), zzG cy 3 qmK rK, zzI cy (rK 0) 8 (T_kn tA 0), zzI cy (rK 1) 8 (T_kn tA 1), zzI cy (rK 2) 8 (T_kn tA 2), zzI cy (rK 3) 8 (T_kn tA 3), zzI cy (rK 4) 8 (T_kn tA 4), zzI cy (rK 5) 8 (T_kn tA 5), zzI cy (rK 6) 8 (T_kn tA 6), zzI cy (rK 7) 8 (T_kn tA 7), zzI cy qmu 8 fMu, zzI cy qmy 5 fMy, zzI cy qmb 5 fMb, zzQ cy 5 qms 6 (sF (refU uS0) (refU uS1) (refU uS2) (refU uS3) (refU uS4))] ++ (oM cy uS0 ++ (oM cy uS1 ++ (oM cy uS2 ++ (oM cy uS3 ++ oM cy uS4))))) sz [.ref qm, .ref qm, .int (nI kI), .int 0, .int (nI kM), .int (nI kU)] (Wv G (fun u => ∃ (iNm : Int32) (fNy : Nat → Int32) (fNb : Nat → Int32) (uN0 : UM) (uN1 : UM) (uN2 : UM) (uN3 : UM) (uN4 : UM), u = ([zzO qm 5 (.ref qmh :: .ref qmo :: .ref qmz :: .ref qmR :: .ref qmv :: .ref qmk :: .ref qma :: .ref qmt :: .int (nI kZ) :: .ref qmr :: .int (nI (T_nb tA)) :: .ref qmB :: .int (nI (T_np tA)) :: .ref qmO :: .ref qmK :: .int iEn :: .int iTk :: .int (T_sd tA) :: ov uP :: ov uU :: .int (nI kAt) :: .int iTo :: .int iFr :: .long JFi :: .int iFa :: .ref qm3 :: .int iSt :: .int iLv :: .int iWs :: vLa :: .ref qmu :: .ref qmy :: .ref qmb :: .ref qms :: .int iNm :: []), zzG cy 3 qmB rB, zzI cy (rB 0) 4 (bkR tA 0), zzI cy (rB 1) 4 (bkR tA 1), zzI cy (rB 2) 4 (bkR tA 2), zzI cy (rB 3) 4 (bkR tA 3), zzI cy (rB 4) 4 (bkR tA 4), zzI cy (rB 5) 4 (bkR tA 5), zzI cy (rB 6) 4 (bkR tA 6), zzI cy (rB 7) 4 (bkR tA 7), zzG cy 3 qmO rO, zzI cy (rO 0) 5 (onR tA 0), zzI cy (rO 1) 5 (onR tA 1), zzI cy (rO 2) 5 (onR tA 2), zzI cy (rO 3) 5 (onR tA 3), zzI cy (rO 4) 5 (onR tA 4), zzI cy (rO 5) 5 (onR tA 5), zzI cy (rO 6) 5 (onR tA 6), zzI cy (rO 7) 5 (onR tA 7), zzG cy 3 qmK rK, zzI cy (rK 0) 8 (T_kn tA 0), zzI cy (rK 1) 8 (T_kn tA 1), zzI cy (rK 2) 8 (T_kn tA 2), zzI cy (rK 3) 8 (T_kn tA 3), zzI cy (rK 4) 8 (T_kn tA 4), zzI cy (rK 5) 8 (T_kn tA 5), zzI cy (rK 6) 8 (T_kn tA 6), zzI cy (rK 7) 8 (T_kn tA 7), zzI cy qmu 8 fMu, zzI cy qmy 5 fNy, zzI cy qmb 5 fNb, zzQ cy 5 qms 6 (sF (refU uN0) (refU uN1) (refU uN2) (refU uN3) (refU uN4))] ++ (oM cy uN0 ++ (oM cy uN1 ++ (oM cy uN2 ++ (oM cy uN3 ++ oM cy uN4))))) ∧ ((0 < kM → isS uN0 = true) ∧ (1 < kM → isS uN1 = true) ∧ (2 < kM → isS uN2 = true) ∧ (3 < kM → isS uN3 = true) ∧ (4 < kM → isS uN4 = true)))) := by
  refine enW RX6 (by decide +kernel) rfl (Nat.le_of_ble_eq_true rfl) (fun p e s m below meth c ls A hx hb hml hown hts hr hlocks hP hN hl hin hD hA hS => ?_)
  have hin : meth.name = _ := hin
  have hK := hN.1
  replace hl : lv_has ls 8 [(0, .ref qm), (1, .ref qm), (2, .int (nI kI)), (3, .int 0), (4, .int (nI kM)), (5, .int (nI kU))] := hl
  refine lv_iload_n hx hb (g_29 bX6_rowsFrom rfl) rfl (lv_at hl 3 rfl) ?_
  refine lv_iload hx hb (g_21 (v := 4) bX6_rowsFrom rfl) (lv_at hl 4 rfl) ?_
  refine lv_icmp_ne (tgt := 97) hx hb dX6_rowsFrom_3 (by decide +kernel) (fun c_1 => ?_) (fun c_1 => ?_)
  · have hlM : 0 < kM := Nat.lt_of_le_of_ne hiM (fun q => c_1 (by rw [← q]; rfl))
    refine lv_aload_n hx hb (g_42 bX6_rowsFrom rfl) rfl (lv_at hl 0 rfl) ?_
    refine va_get (D := G) (ci := 5) (v := .ref qms) (C := RX6) (T := TX6) (N := 35) hx hb hts iX_X6 hown hK hP 0 rfl rfl 33 (by decide +kernel) (hts _ m_t883) (fun _ h9 => h9) rfl (g_180 (v := 67) bX6_rowsFrom rfl) ?_
    refine lv_iload_n hx hb (g_29 bX6_rowsFrom rfl) rfl (lv_at hl 3 rfl) ?_
    refine va_aldq hx hb hK hP 31 5 rfl rfl (in_c rfl) (g_50 bX6_rowsFrom rfl) ?_
    refine lv_setv (v := ov uS0) ((congrArg (fun z => va_rf (sF (refU uS0) (refU uS1) (refU uS2) (refU uS3) (refU uS4) z)) (show Int32.toNatClampNeg 0 = 0 by decide +kernel)).trans (rf_ov uS0)) ?_
    rcases um_or uS0 with eS_15 | ⟨qS_2, qSB_3, qSO_4, qSK_5, rSB_6, rSO_7, rSK_8, tS_9, xS_10, iEnS_11, iTkS_12, iLvS_13, iWsS_14, eS_15⟩
    · rw [eS_15] at hP hD
      have hPD := pd_as (([_, _, _, _, _, _, _, _, _, _, _, _, _, _, _, _, _, _, _, _, _, _, _, _, _, _, _, _, _, _, _, zzQ cy 5 qms 6 (sF none (refU uS1) (refU uS2) (refU uS3) (refU uS4))] : va_W) ++ (oM cy uS1 ++ (oM cy uS2 ++ (oM cy uS3 ++ oM cy uS4)))) hP hD rfl
      clear hP hD
      obtain ⟨hP, hD⟩ := hPD
      refine lv_setv (v := .null) (by rw [eS_15]; rfl) ?_
      refine lv_ifnonnullN hx hb dX6_rowsFrom_103 ?_
      refine lv_aload_n hx hb (g_42 bX6_rowsFrom rfl) rfl (lv_at hl 0 rfl) ?_
      refine va_get (D := G) (ci := 5) (v := .ref qms) (C := RX6) (T := TX6) (N := 35) hx hb hts iX_X6 hown hK hP 0 rfl rfl 33 (by decide +kernel) (hts _ m_t883) (fun _ h9 => h9) rfl (g_180 (v := 67) bX6_rowsFrom rfl) ?_
      refine lv_iload_n hx hb (g_29 bX6_rowsFrom rfl) rfl (lv_at hl 3 rfl) ?_
      refine va_new (ci := 5) (fs := (.null :: .null :: .null :: .null :: .null :: .null :: .null :: .null :: .int 0 :: .null :: .int 0 :: .null :: .int 0 :: .null :: .null :: .int 0 :: .int 0 :: .int 0 :: .null :: .null :: .int 0 :: .int 0 :: .int 0 :: .long 0 :: .int 0 :: .null :: .int 0 :: .int 0 :: .int 0 :: .null :: .null :: .null :: .null :: .null :: .int 0 :: [])) (C := RX6) (T := TX6) (N := 35) hx hb hts iX_X6 tyX6 tyX6_ok hown (hts _ m_t848) (hts _ m_t839) (hts _ m_t6) hK hP hD hS hA rfl df_X6 (Nat.le_of_ble_eq_true rfl) (Nat.le_of_ble_eq_true rfl) (g_187 (v := 8) bX6_rowsFrom rfl) (fun q_16 H => ?_)
      clear hP hD hS
      intro hP hD hS
      replace hP := va_P.swap hP
      replace hD := va_D.swap hD
      have hPD := pd_as (((_ :: _ :: _ :: _ :: _ :: _ :: _ :: _ :: _ :: _ :: _ :: _ :: _ :: _ :: _ :: _ :: _ :: _ :: _ :: _ :: _ :: _ :: _ :: _ :: _ :: _ :: _ :: _ :: _ :: _ :: _ :: _ :: zzO q_16 5 (.null :: .null :: .null :: .null :: .null :: .null :: .null :: .null :: .int 0 :: .null :: .int 0 :: .null :: .int 0 :: .null :: .null :: .int 0 :: .int 0 :: .int 0 :: .null :: .null :: .int 0 :: .int 0 :: .int 0 :: .long 0 :: .int 0 :: .null :: .int 0 :: .int 0 :: .int 0 :: .null :: .null :: .null :: .null :: .null :: .int 0 :: []) :: []) : va_W) ++ (oM cy uS1 ++ (oM cy uS2 ++ (oM cy uS3 ++ oM cy uS4)))) hP hD rfl
      clear hP hD
      obtain ⟨hP, hD⟩ := hPD
      refine W.widen (k := 1) (n := 35) (Nat.le_of_ble_eq_true rfl) (Nat.le_of_ble_eq_true rfl) ?_
      refine lv_dup hx hb (g_89 bX6_rowsFrom rfl) rfl ?_
      refine cIvQ (As := []) (rest := [.ref q_16, .int 0, .ref qms]) (b := q_16) ⟨hx, hb, hml, hown, hts⟩ (c_X6_initS l G cy (H).size q_16) L_X6_291 hN hP hD hS hA [32] (true :: true :: true :: true :: true :: true :: true :: true :: true :: true :: true :: true :: true :: true :: true :: true :: true :: true :: true :: true :: true :: true :: true :: true :: true :: true :: true :: true :: true :: true :: true :: true :: false :: []) rfl (by decide +kernel) rfl rfl ⟨Nat.le_of_ble_eq_true rfl, Nat.le_of_ble_eq_true rfl⟩ hl.1 (Nat.le_of_ble_eq_true rfl) (g_183 (v := 291) bX6_rowsFrom rfl) ⟨Nat.le_of_ble_eq_true rfl, Nat.le_of_ble_eq_true rfl⟩ (fun u_19 H locs h_18 => ?_)
      clear hP hD hS
      intro hP hD hS
      obtain ⟨qmB_20, qmO_21, qmK_22, rB_23, rO_24, rK_25, xF_26, hu9⟩ := h_18
      have hPD := pd_eqQ (((_ :: _ :: _ :: _ :: _ :: _ :: _ :: _ :: _ :: _ :: _ :: _ :: _ :: _ :: _ :: _ :: _ :: _ :: _ :: _ :: _ :: _ :: _ :: _ :: _ :: _ :: _ :: _ :: _ :: _ :: _ :: _ :: zzO q_16 5 (xF_26 0 :: xF_26 1 :: xF_26 2 :: xF_26 3 :: xF_26 4 :: xF_26 5 :: xF_26 6 :: xF_26 7 :: xF_26 8 :: xF_26 9 :: .int (nI (T_nb T0)) :: .ref qmB_20 :: .int (nI (T_np T0)) :: .ref qmO_21 :: .ref qmK_22 :: .int 0 :: .int 0 :: .int (T_sd T0) :: xF_26 18 :: xF_26 19 :: xF_26 20 :: xF_26 21 :: xF_26 22 :: xF_26 23 :: xF_26 24 :: xF_26 25 :: xF_26 26 :: .int 0 :: .int 0 :: xF_26 29 :: xF_26 30 :: xF_26 31 :: xF_26 32 :: xF_26 33 :: xF_26 34 :: []) :: zzG cy 3 qmB_20 rB_23 :: zzI cy (rB_23 0) 4 (bkR T0 0) :: zzI cy (rB_23 1) 4 (bkR T0 1) :: zzI cy (rB_23 2) 4 (bkR T0 2) :: zzI cy (rB_23 3) 4 (bkR T0 3) :: zzI cy (rB_23 4) 4 (bkR T0 4) :: zzI cy (rB_23 5) 4 (bkR T0 5) :: zzI cy (rB_23 6) 4 (bkR T0 6) :: zzI cy (rB_23 7) 4 (bkR T0 7) :: zzG cy 3 qmO_21 rO_24 :: zzI cy (rO_24 0) 5 (onR T0 0) :: zzI cy (rO_24 1) 5 (onR T0 1) :: zzI cy (rO_24 2) 5 (onR T0 2) :: zzI cy (rO_24 3) 5 (onR T0 3) :: zzI cy (rO_24 4) 5 (onR T0 4) :: zzI cy (rO_24 5) 5 (onR T0 5) :: zzI cy (rO_24 6) 5 (onR T0 6) :: zzI cy (rO_24 7) 5 (onR T0 7) :: zzG cy 3 qmK_22 rK_25 :: zzI cy (rK_25 0) 8 (T_kn T0 0) :: zzI cy (rK_25 1) 8 (T_kn T0 1) :: zzI cy (rK_25 2) 8 (T_kn T0 2) :: zzI cy (rK_25 3) 8 (T_kn T0 3) :: zzI cy (rK_25 4) 8 (T_kn T0 4) :: zzI cy (rK_25 5) 8 (T_kn T0 5) :: zzI cy (rK_25 6) 8 (T_kn T0 6) :: zzI cy (rK_25 7) 8 (T_kn T0 7) :: []) : va_W) ++ (oM cy uS1 ++ (oM cy uS2 ++ (oM cy uS3 ++ oM cy uS4)))) hP hD hu9 rfl
      clear hP hD hu9
      obtain ⟨hP, hD⟩ := hPD
      refine W.widen (k := 50) (n := 888) (Nat.le_of_ble_eq_true rfl) (Nat.le_of_ble_eq_true rfl) ?_
      refine va_astq hx hb hK hP hD hS 31 5 32 5 rfl rfl rfl rfl (in_c rfl) (g_83 bX6_rowsFrom rfl) (fun H locs => ?_)
      clear hP hD hS
      intro hP hD hS
      rw [show Int32.toNatClampNeg 0 = 0 by decide +kernel] at hP hD
      rw [su_0] at hP hD
      have hPD := pd_as (((_ :: _ :: _ :: _ :: _ :: _ :: _ :: _ :: _ :: _ :: _ :: _ :: _ :: _ :: _ :: _ :: _ :: _ :: _ :: _ :: _ :: _ :: _ :: _ :: _ :: _ :: _ :: _ :: _ :: _ :: _ :: zzQ cy 5 qms 6 (sF (some q_16) (refU uS1) (refU uS2) (refU uS3) (refU uS4)) :: _ :: _ :: _ :: _ :: _ :: _ :: _ :: _ :: _ :: _ :: _ :: _ :: _ :: _ :: _ :: _ :: _ :: _ :: _ :: _ :: _ :: _ :: _ :: _ :: _ :: _ :: _ :: _ :: []) : va_W) ++ (oM cy uS1 ++ (oM cy uS2 ++ (oM cy uS3 ++ oM cy uS4)))) hP hD rfl
      clear hP hD
      obtain ⟨hP, hD⟩ := hPD
      refine lv_iconst (v := 0) hx hb (g_3 bX6_rowsFrom rfl) (by decide +kernel) ?_
      refine lv_istore (lv' := [(6, .int 0), (0, .ref qm), (1, .ref qm), (2, .int (nI kI)), (3, .int 0), (4, .int (nI kM)), (5, .int (nI kU))]) hx hb (g_54 (v := 6) bX6_rowsFrom rfl) hl (by decide +kernel) rfl (fun ls => ?_)
      clear hl
      intro hl
      have lp_27 : ∀ (n_28 : Nat) (kk_30 : Nat) (tJ_31 : TA) (fY_32 : Nat → Int32) (fB_33 : Nat → Int32) (xM_34 : Int32) (iE1_35 : Int32) (iE2_36 : Int32) (uJ1_37 : UM) (uJ2_38 : UM) (uJ3_39 : UM) (uJ4_40 : UM) (xc_41 : Nat) (yc_42 : Nat), 5 - kk_30 < n_28 → kk_30 ≤ kM → ((xc_41 = 50 ∧ yc_42 = 888 ∧ cu kk_30 kU = 0) ∨ (xc_41 = 250 ∧ yc_42 = 4440 ∧ (1 < kM → isS uJ1_37 = true) ∧ (2 < kM → isS uJ2_38 = true) ∧ (3 < kM → isS uJ3_39 = true) ∧ (4 < kM → isS uJ4_40 = true))) → ∀ (H : Heap) (locs : List Loc) (ls : Array Slot), va_P G CL ((zzO qm 5 (.ref qmh :: .ref qmo :: .ref qmz :: .ref qmR :: .ref qmv :: .ref qmk :: .ref qma :: .ref qmt :: .int (nI kZ) :: .ref qmr :: .int (nI (T_nb tA)) :: .ref qmB :: .int (nI (T_np tA)) :: .ref qmO :: .ref qmK :: .int iEn :: .int iTk :: .int (T_sd tA) :: ov uP :: ov uU :: .int (nI kAt) :: .int iTo :: .int iFr :: .long JFi :: .int iFa :: .ref qm3 :: .int iSt :: .int iLv :: .int iWs :: vLa :: .ref qmu :: .ref qmy :: .ref qmb :: .ref qms :: .int xM_34 :: []) :: zzG cy 3 qmB rB :: zzI cy (rB 0) 4 (bkR tA 0) :: zzI cy (rB 1) 4 (bkR tA 1) :: zzI cy (rB 2) 4 (bkR tA 2) :: zzI cy (rB 3) 4 (bkR tA 3) :: zzI cy (rB 4) 4 (bkR tA 4) :: zzI cy (rB 5) 4 (bkR tA 5) :: zzI cy (rB 6) 4 (bkR tA 6) :: zzI cy (rB 7) 4 (bkR tA 7) :: zzG cy 3 qmO rO :: zzI cy (rO 0) 5 (onR tA 0) :: zzI cy (rO 1) 5 (onR tA 1) :: zzI cy (rO 2) 5 (onR tA 2) :: zzI cy (rO 3) 5 (onR tA 3) :: zzI cy (rO 4) 5 (onR tA 4) :: zzI cy (rO 5) 5 (onR tA 5) :: zzI cy (rO 6) 5 (onR tA 6) :: zzI cy (rO 7) 5 (onR tA 7) :: zzG cy 3 qmK rK :: zzI cy (rK 0) 8 (T_kn tA 0) :: zzI cy (rK 1) 8 (T_kn tA 1) :: zzI cy (rK 2) 8 (T_kn tA 2) :: zzI cy (rK 3) 8 (T_kn tA 3) :: zzI cy (rK 4) 8 (T_kn tA 4) :: zzI cy (rK 5) 8 (T_kn tA 5) :: zzI cy (rK 6) 8 (T_kn tA 6) :: zzI cy (rK 7) 8 (T_kn tA 7) :: zzI cy qmu 8 fMu :: zzI cy qmy 5 fY_32 :: zzI cy qmb 5 fB_33 :: zzQ cy 5 qms 6 (sF (some q_16) (refU uJ1_37) (refU uJ2_38) (refU uJ3_39) (refU uJ4_40)) :: zzO q_16 5 (xF_26 0 :: xF_26 1 :: xF_26 2 :: xF_26 3 :: xF_26 4 :: xF_26 5 :: xF_26 6 :: xF_26 7 :: xF_26 8 :: xF_26 9 :: .int (nI (T_nb tJ_31)) :: .ref qmB_20 :: .int (nI (T_np tJ_31)) :: .ref qmO_21 :: .ref qmK_22 :: .int iE1_35 :: .int iE2_36 :: .int (T_sd tJ_31) :: xF_26 18 :: xF_26 19 :: xF_26 20 :: xF_26 21 :: xF_26 22 :: xF_26 23 :: xF_26 24 :: xF_26 25 :: xF_26 26 :: .int 0 :: .int 0 :: xF_26 29 :: xF_26 30 :: xF_26 31 :: xF_26 32 :: xF_26 33 :: xF_26 34 :: []) :: zzG cy 3 qmB_20 rB_23 :: zzI cy (rB_23 0) 4 (bkR tJ_31 0) :: zzI cy (rB_23 1) 4 (bkR tJ_31 1) :: zzI cy (rB_23 2) 4 (bkR tJ_31 2) :: zzI cy (rB_23 3) 4 (bkR tJ_31 3) :: zzI cy (rB_23 4) 4 (bkR tJ_31 4) :: zzI cy (rB_23 5) 4 (bkR tJ_31 5) :: zzI cy (rB_23 6) 4 (bkR tJ_31 6) :: zzI cy (rB_23 7) 4 (bkR tJ_31 7) :: zzG cy 3 qmO_21 rO_24 :: zzI cy (rO_24 0) 5 (onR tJ_31 0) :: zzI cy (rO_24 1) 5 (onR tJ_31 1) :: zzI cy (rO_24 2) 5 (onR tJ_31 2) :: zzI cy (rO_24 3) 5 (onR tJ_31 3) :: zzI cy (rO_24 4) 5 (onR tJ_31 4) :: zzI cy (rO_24 5) 5 (onR tJ_31 5) :: zzI cy (rO_24 6) 5 (onR tJ_31 6) :: zzI cy (rO_24 7) 5 (onR tJ_31 7) :: zzG cy 3 qmK_22 rK_25 :: zzI cy (rK_25 0) 8 (T_kn tJ_31 0) :: zzI cy (rK_25 1) 8 (T_kn tJ_31 1) :: zzI cy (rK_25 2) 8 (T_kn tJ_31 2) :: zzI cy (rK_25 3) 8 (T_kn tJ_31 3) :: zzI cy (rK_25 4) 8 (T_kn tJ_31 4) :: zzI cy (rK_25 5) 8 (T_kn tJ_31 5) :: zzI cy (rK_25 6) 8 (T_kn tJ_31 6) :: zzI cy (rK_25 7) 8 (T_kn tJ_31 7) :: []) ++ (oM cy uJ1_37 ++ (oM cy uJ2_38 ++ (oM cy uJ3_39 ++ oM cy uJ4_40)))) H → va_D A ((zzO qm 5 (.ref qmh :: .ref qmo :: .ref qmz :: .ref qmR :: .ref qmv :: .ref qmk :: .ref qma :: .ref qmt :: .int (nI kZ) :: .ref qmr :: .int (nI (T_nb tA)) :: .ref qmB :: .int (nI (T_np tA)) :: .ref qmO :: .ref qmK :: .int iEn :: .int iTk :: .int (T_sd tA) :: ov uP :: ov uU :: .int (nI kAt) :: .int iTo :: .int iFr :: .long JFi :: .int iFa :: .ref qm3 :: .int iSt :: .int iLv :: .int iWs :: vLa :: .ref qmu :: .ref qmy :: .ref qmb :: .ref qms :: .int xM_34 :: []) :: zzG cy 3 qmB rB :: zzI cy (rB 0) 4 (bkR tA 0) :: zzI cy (rB 1) 4 (bkR tA 1) :: zzI cy (rB 2) 4 (bkR tA 2) :: zzI cy (rB 3) 4 (bkR tA 3) :: zzI cy (rB 4) 4 (bkR tA 4) :: zzI cy (rB 5) 4 (bkR tA 5) :: zzI cy (rB 6) 4 (bkR tA 6) :: zzI cy (rB 7) 4 (bkR tA 7) :: zzG cy 3 qmO rO :: zzI cy (rO 0) 5 (onR tA 0) :: zzI cy (rO 1) 5 (onR tA 1) :: zzI cy (rO 2) 5 (onR tA 2) :: zzI cy (rO 3) 5 (onR tA 3) :: zzI cy (rO 4) 5 (onR tA 4) :: zzI cy (rO 5) 5 (onR tA 5) :: zzI cy (rO 6) 5 (onR tA 6) :: zzI cy (rO 7) 5 (onR tA 7) :: zzG cy 3 qmK rK :: zzI cy (rK 0) 8 (T_kn tA 0) :: zzI cy (rK 1) 8 (T_kn tA 1) :: zzI cy (rK 2) 8 (T_kn tA 2) :: zzI cy (rK 3) 8 (T_kn tA 3) :: zzI cy (rK 4) 8 (T_kn tA 4) :: zzI cy (rK 5) 8 (T_kn tA 5) :: zzI cy (rK 6) 8 (T_kn tA 6) :: zzI cy (rK 7) 8 (T_kn tA 7) :: zzI cy qmu 8 fMu :: zzI cy qmy 5 fY_32 :: zzI cy qmb 5 fB_33 :: zzQ cy 5 qms 6 (sF (some q_16) (refU uJ1_37) (refU uJ2_38) (refU uJ3_39) (refU uJ4_40)) :: zzO q_16 5 (xF_26 0 :: xF_26 1 :: xF_26 2 :: xF_26 3 :: xF_26 4 :: xF_26 5 :: xF_26 6 :: xF_26 7 :: xF_26 8 :: xF_26 9 :: .int (nI (T_nb tJ_31)) :: .ref qmB_20 :: .int (nI (T_np tJ_31)) :: .ref qmO_21 :: .ref qmK_22 :: .int iE1_35 :: .int iE2_36 :: .int (T_sd tJ_31) :: xF_26 18 :: xF_26 19 :: xF_26 20 :: xF_26 21 :: xF_26 22 :: xF_26 23 :: xF_26 24 :: xF_26 25 :: xF_26 26 :: .int 0 :: .int 0 :: xF_26 29 :: xF_26 30 :: xF_26 31 :: xF_26 32 :: xF_26 33 :: xF_26 34 :: []) :: zzG cy 3 qmB_20 rB_23 :: zzI cy (rB_23 0) 4 (bkR tJ_31 0) :: zzI cy (rB_23 1) 4 (bkR tJ_31 1) :: zzI cy (rB_23 2) 4 (bkR tJ_31 2) :: zzI cy (rB_23 3) 4 (bkR tJ_31 3) :: zzI cy (rB_23 4) 4 (bkR tJ_31 4) :: zzI cy (rB_23 5) 4 (bkR tJ_31 5) :: zzI cy (rB_23 6) 4 (bkR tJ_31 6) :: zzI cy (rB_23 7) 4 (bkR tJ_31 7) :: zzG cy 3 qmO_21 rO_24 :: zzI cy (rO_24 0) 5 (onR tJ_31 0) :: zzI cy (rO_24 1) 5 (onR tJ_31 1) :: zzI cy (rO_24 2) 5 (onR tJ_31 2) :: zzI cy (rO_24 3) 5 (onR tJ_31 3) :: zzI cy (rO_24 4) 5 (onR tJ_31 4) :: zzI cy (rO_24 5) 5 (onR tJ_31 5) :: zzI cy (rO_24 6) 5 (onR tJ_31 6) :: zzI cy (rO_24 7) 5 (onR tJ_31 7) :: zzG cy 3 qmK_22 rK_25 :: zzI cy (rK_25 0) 8 (T_kn tJ_31 0) :: zzI cy (rK_25 1) 8 (T_kn tJ_31 1) :: zzI cy (rK_25 2) 8 (T_kn tJ_31 2) :: zzI cy (rK_25 3) 8 (T_kn tJ_31 3) :: zzI cy (rK_25 4) 8 (T_kn tJ_31 4) :: zzI cy (rK_25 5) 8 (T_kn tJ_31 5) :: zzI cy (rK_25 6) 8 (T_kn tJ_31 6) :: zzI cy (rK_25 7) 8 (T_kn tJ_31 7) :: []) ++ (oM cy uJ1_37 ++ (oM cy uJ2_38 ++ (oM cy uJ3_39 ++ oM cy uJ4_40)))) → va_S A s.heap H locs → lv_has ls 8 [(6, .int (nI kk_30)), (0, .ref qm), (1, .ref qm), (2, .int (nI kI)), (3, .int 0), (4, .int (nI kM)), (5, .int (nI kU))] → W p l e (Rm 11 250 4440) s m (List.toArray (α := Value) [.ref qm, .ref qm, .int (nI kI), .int 0, .int (nI kM), .int (nI kU)]) below meth c H locs xc_41 yc_42 (MQ below ((Wv G (fun u => ∃ (iNm : Int32) (fNy : Nat → Int32) (fNb : Nat → Int32) (uN0 : UM) (uN1 : UM) (uN2 : UM) (uN3 : UM) (uN4 : UM), u = ([zzO qm 5 (.ref qmh :: .ref qmo :: .ref qmz :: .ref qmR :: .ref qmv :: .ref qmk :: .ref qma :: .ref qmt :: .int (nI kZ) :: .ref qmr :: .int (nI (T_nb tA)) :: .ref qmB :: .int (nI (T_np tA)) :: .ref qmO :: .ref qmK :: .int iEn :: .int iTk :: .int (T_sd tA) :: ov uP :: ov uU :: .int (nI kAt) :: .int iTo :: .int iFr :: .long JFi :: .int iFa :: .ref qm3 :: .int iSt :: .int iLv :: .int iWs :: vLa :: .ref qmu :: .ref qmy :: .ref qmb :: .ref qms :: .int iNm :: []), zzG cy 3 qmB rB, zzI cy (rB 0) 4 (bkR tA 0), zzI cy (rB 1) 4 (bkR tA 1), zzI cy (rB 2) 4 (bkR tA 2), zzI cy (rB 3) 4 (bkR tA 3), zzI cy (rB 4) 4 (bkR tA 4), zzI cy (rB 5) 4 (bkR tA 5), zzI cy (rB 6) 4 (bkR tA 6), zzI cy (rB 7) 4 (bkR tA 7), zzG cy 3 qmO rO, zzI cy (rO 0) 5 (onR tA 0), zzI cy (rO 1) 5 (onR tA 1), zzI cy (rO 2) 5 (onR tA 2), zzI cy (rO 3) 5 (onR tA 3), zzI cy (rO 4) 5 (onR tA 4), zzI cy (rO 5) 5 (onR tA 5), zzI cy (rO 6) 5 (onR tA 6), zzI cy (rO 7) 5 (onR tA 7), zzG cy 3 qmK rK, zzI cy (rK 0) 8 (T_kn tA 0), zzI cy (rK 1) 8 (T_kn tA 1), zzI cy (rK 2) 8 (T_kn tA 2), zzI cy (rK 3) 8 (T_kn tA 3), zzI cy (rK 4) 8 (T_kn tA 4), zzI cy (rK 5) 8 (T_kn tA 5), zzI cy (rK 6) 8 (T_kn tA 6), zzI cy (rK 7) 8 (T_kn tA 7), zzI cy qmu 8 fMu, zzI cy qmy 5 fNy, zzI cy qmb 5 fNb, zzQ cy 5 qms 6 (sF (refU uN0) (refU uN1) (refU uN2) (refU uN3) (refU uN4))] ++ (oM cy uN0 ++ (oM cy uN1 ++ (oM cy uN2 ++ (oM cy uN3 ++ oM cy uN4))))) ∧ ((0 < kM → isS uN0 = true) ∧ (1 < kM → isS uN1 = true) ∧ (2 < kM → isS uN2 = true) ∧ (3 < kM → isS uN3 = true) ∧ (4 < kM → isS uN4 = true)))) A) (List.toArray (α := Value) [.ref qm, .ref qm, .int (nI kI), .int 0, .int (nI kM), .int (nI kU)]) s 250 4440 A) (F0 m 122 ls []) := by
        intro n_28
        induction n_28 with
        | zero => intro kk_30 tJ_31 fY_32 fB_33 xM_34 iE1_35 iE2_36 uJ1_37 uJ2_38 uJ3_39 uJ4_40 xc_41 yc_42 hm9; exact absurd hm9 (Nat.not_lt_zero _)
        | succ n_28 ih_29 =>
          intro kk_30 tJ_31 fY_32 fB_33 xM_34 iE1_35 iE2_36 uJ1_37 uJ2_38 uJ3_39 uJ4_40 xc_41 yc_42 hm_45 hj_43 hC_44 H locs ls hP hD hS hl
          refine lv_iload hx hb (g_21 (v := 6) bX6_rowsFrom rfl) (lv_at hl 0 rfl) ?_
          refine lv_iload hx hb (g_21 (v := 4) bX6_rowsFrom rfl) (lv_at hl 5 rfl) ?_
          refine lv_icmp_ge (tgt := 208) hx hb dX6_rowsFrom_126 (by decide +kernel) (fun c_46 => ?_) (fun c_46 => ?_)
          · have hlt_47 : kk_30 = kM := Nat.le_antisymm (by omega) (lp_ge rfl rfl (by omega) (by omega) c_46)
            rcases hC_44 with ⟨e_48, e_49, e_50⟩ | ⟨e_48, e_49, e_50⟩
            · rw [hlt_47] at e_50
              omega
            · subst e_48
              subst e_49
              exact endVt [(true :: true :: true :: true :: true :: true :: true :: true :: true :: true :: true :: true :: true :: true :: true :: true :: true :: true :: true :: true :: true :: true :: true :: true :: true :: true :: true :: true :: true :: true :: true :: true :: true :: true :: true :: true :: true :: true :: true :: true :: true :: true :: true :: true :: true :: true :: true :: true :: true :: true :: true :: true :: true :: true :: true :: true :: true :: true :: true :: true :: [])] hx hb hr hlocks hP hD rfl (by decide +kernel) hS ⟨xM_34, fY_32, fB_33, (some (q_16, qmB_20, qmO_21, qmK_22, rB_23, rO_24, rK_25, tJ_31, xF_26, iE1_35, iE2_36, 0, 0)), uJ1_37, uJ2_38, uJ3_39, uJ4_40, rfl, ⟨fun _ => rfl, e_50⟩⟩ (g_177 bX6_rowsFrom rfl)
          · have hlt_51 : kk_30 < kM := lp_lt rfl rfl (by omega) (by omega) c_46
            refine lv_iload hx hb (g_21 (v := 5) bX6_rowsFrom rfl) (lv_at hl 6 rfl) ?_
            refine lv_iload hx hb (g_21 (v := 6) bX6_rowsFrom rfl) (lv_at hl 0 rfl) ?_
            refine lv_ishr hx hb (g_122 bX6_rowsFrom rfl) ?_
            refine lv_iconst (v := 1) hx hb (g_4 bX6_rowsFrom rfl) (by decide +kernel) ?_
            refine lv_iand hx hb (g_126 bX6_rowsFrom rfl) ?_
            refine lv_if_ne (tgt := 202) hx hb dX6_rowsFrom_136 (by decide +kernel) (fun c_52 => ?_) (fun c_52 => ?_)
            · refine lv_iinc (v := nI (kk_30 + 1)) (lv' := [(6, .int (nI (kk_30 + 1))), (0, .ref qm), (1, .ref qm), (2, .int (nI kI)), (3, .int 0), (4, .int (nI kM)), (5, .int (nI kU))]) hx hb dX6_rowsFrom_202 hl (k := 0) rfl (nI_1 _) (by decide +kernel) rfl (fun ls => ?_)
              clear hl
              intro hl
              refine lv_goto (tgt := 122) hx hb dX6_rowsFrom_205 (by decide +kernel) ?_
              exact ih_29 (kk_30 + 1) tJ_31 fY_32 fB_33 xM_34 iE1_35 iE2_36 uJ1_37 uJ2_38 uJ3_39 uJ4_40 xc_41 yc_42 (by omega) (by omega) (hC_44.elim (fun q => Or.inl ⟨q.1, q.2.1, cu_set (by omega) (by omega) q.2.2 c_52⟩) Or.inr) _ _ _ hP hD hS (lv_sub hl [0, 1, 2, 3, 4, 5, 6] rfl)
            · refine lv_aload_n hx hb (g_42 bX6_rowsFrom rfl) rfl (lv_at hl 1 rfl) ?_
              refine va_get (D := G) (ci := 5) (v := .ref qms) (C := RX6) (T := TX6) (N := 35) hx hb hts iX_X6 hown hK hP 0 rfl rfl 33 (by decide +kernel) (hts _ m_t883) (fun _ h9 => h9) rfl (g_180 (v := 67) bX6_rowsFrom rfl) ?_
              refine lv_iload_n hx hb (g_29 bX6_rowsFrom rfl) rfl (lv_at hl 4 rfl) ?_
              refine va_aldq hx hb hK hP 31 5 rfl rfl (in_c rfl) (g_50 bX6_rowsFrom rfl) ?_
              refine lv_setv (v := .ref q_16) ((congrArg (fun z => va_rf (sF (some q_16) (refU uJ1_37) (refU uJ2_38) (refU uJ3_39) (refU uJ4_40) z)) (show Int32.toNatClampNeg 0 = 0 by decide +kernel)).trans rfl) ?_
              refine lv_aload_n hx hb (g_43 bX6_rowsFrom rfl) rfl (lv_at hl 2 rfl) ?_
              refine cVvQ (As := [.ref qm]) (rest := []) (b := q_16) (q := (RX6, TX6, 35)) ⟨hx, hb, hml, hown, hts⟩ (c_X6_takeFrom l G cy (H).size q_16 (xF_26 0) (xF_26 1) (xF_26 2) (xF_26 3) (xF_26 4) (xF_26 5) (xF_26 6) (xF_26 7) (xF_26 8) (xF_26 9) tJ_31 qmB_20 qmO_21 qmK_22 iE1_35 iE2_36 (xF_26 18) (xF_26 19) (xF_26 20) (xF_26 21) (xF_26 22) (xF_26 23) (xF_26 24) (xF_26 25) (xF_26 26) 0 0 (xF_26 29) (xF_26 30) (xF_26 31) (xF_26 32) (xF_26 33) (xF_26 34) rB_23 rO_24 rK_25 qm (.ref qmh) (.ref qmo) (.ref qmz) (.ref qmR) (.ref qmv) (.ref qmk) (.ref qma) (.ref qmt) (.int (nI kZ)) (.ref qmr) tA qmB qmO qmK iEn iTk (ov uP) (ov uU) (.int (nI kAt)) (.int iTo) (.int iFr) (.long JFi) (.int iFa) (.ref qm3) (.int iSt) iLv iWs vLa (.ref qmu) (.ref qmy) (.ref qmb) (.ref qms) (.int xM_34) rB rO rK) L_X6_225 hN hP hD hS hA (trueIxs [(false :: false :: false :: false :: false :: false :: false :: false :: false :: false :: false :: false :: false :: false :: false :: false :: false :: false :: false :: false :: false :: false :: false :: false :: false :: false :: false :: false :: false :: false :: false :: false :: true :: true :: true :: true :: true :: true :: true :: true :: true :: true :: true :: true :: true :: true :: true :: true :: true :: true :: true :: true :: true :: true :: true :: true :: true :: true :: true :: true :: []), [true, true, true, true, true, true, true, true, true, true, true, true, true, true, true, true, true, true, true, true, true, true, true, true, true, true, true, true]]) (false :: false :: false :: false :: false :: false :: false :: false :: false :: false :: false :: false :: false :: false :: false :: false :: false :: false :: false :: false :: false :: false :: false :: false :: false :: false :: false :: false :: true :: true :: true :: true :: false :: false :: false :: false :: false :: false :: false :: false :: false :: false :: false :: false :: false :: false :: false :: false :: false :: false :: false :: false :: false :: false :: false :: false :: false :: false :: false :: false :: []) (sels_eq rfl rfl) (by decide +kernel) rfl 32 5 rfl rfl rfl ⟨Nat.le_of_ble_eq_true rfl, Nat.le_of_ble_eq_true rfl⟩ hl.1 (Nat.le_of_ble_eq_true rfl) (g_182 (v := 225) bX6_rowsFrom rfl) ⟨by show xc_41 + 0 ≤ 250; omega, by show yc_42 + 0 ≤ 4440; omega⟩ (fun u_55 H locs h_54 => ?_)
              clear hP hD hS
              intro hP hD hS
              have hPD := pd_eqQ (((_ :: zzI cy qmy 5 fY_32 :: zzI cy qmb 5 fB_33 :: zzQ cy 5 qms 6 (sF (some q_16) (refU uJ1_37) (refU uJ2_38) (refU uJ3_39) (refU uJ4_40)) :: zzO q_16 5 (xF_26 0 :: xF_26 1 :: xF_26 2 :: xF_26 3 :: xF_26 4 :: xF_26 5 :: xF_26 6 :: xF_26 7 :: xF_26 8 :: xF_26 9 :: .int (nI (T_nb tA)) :: .ref qmB_20 :: .int (nI (T_np tA)) :: .ref qmO_21 :: .ref qmK_22 :: .int iEn :: .int iTk :: .int (T_sd tA) :: xF_26 18 :: xF_26 19 :: xF_26 20 :: xF_26 21 :: xF_26 22 :: xF_26 23 :: xF_26 24 :: xF_26 25 :: xF_26 26 :: .int 0 :: .int 0 :: xF_26 29 :: xF_26 30 :: xF_26 31 :: xF_26 32 :: xF_26 33 :: xF_26 34 :: []) :: _ :: zzI cy (rB_23 0) 4 (bkR tA 0) :: zzI cy (rB_23 1) 4 (bkR tA 1) :: zzI cy (rB_23 2) 4 (bkR tA 2) :: zzI cy (rB_23 3) 4 (bkR tA 3) :: zzI cy (rB_23 4) 4 (bkR tA 4) :: zzI cy (rB_23 5) 4 (bkR tA 5) :: zzI cy (rB_23 6) 4 (bkR tA 6) :: zzI cy (rB_23 7) 4 (bkR tA 7) :: _ :: zzI cy (rO_24 0) 5 (onR tA 0) :: zzI cy (rO_24 1) 5 (onR tA 1) :: zzI cy (rO_24 2) 5 (onR tA 2) :: zzI cy (rO_24 3) 5 (onR tA 3) :: zzI cy (rO_24 4) 5 (onR tA 4) :: zzI cy (rO_24 5) 5 (onR tA 5) :: zzI cy (rO_24 6) 5 (onR tA 6) :: zzI cy (rO_24 7) 5 (onR tA 7) :: _ :: zzI cy (rK_25 0) 8 (T_kn tA 0) :: zzI cy (rK_25 1) 8 (T_kn tA 1) :: zzI cy (rK_25 2) 8 (T_kn tA 2) :: zzI cy (rK_25 3) 8 (T_kn tA 3) :: zzI cy (rK_25 4) 8 (T_kn tA 4) :: zzI cy (rK_25 5) 8 (T_kn tA 5) :: zzI cy (rK_25 6) 8 (T_kn tA 6) :: zzI cy (rK_25 7) 8 (T_kn tA 7) :: zzO qm 5 (.ref qmh :: .ref qmo :: .ref qmz :: .ref qmR :: .ref qmv :: .ref qmk :: .ref qma :: .ref qmt :: .int (nI kZ) :: .ref qmr :: .int (nI (T_nb tA)) :: .ref qmB :: .int (nI (T_np tA)) :: .ref qmO :: .ref qmK :: .int iEn :: .int iTk :: .int (T_sd tA) :: ov uP :: ov uU :: .int (nI kAt) :: .int iTo :: .int iFr :: .long JFi :: .int iFa :: .ref qm3 :: .int iSt :: .int iLv :: .int iWs :: vLa :: .ref qmu :: .ref qmy :: .ref qmb :: .ref qms :: .int xM_34 :: []) :: _ :: _ :: _ :: _ :: _ :: _ :: _ :: _ :: _ :: _ :: _ :: _ :: _ :: _ :: _ :: _ :: _ :: _ :: _ :: _ :: _ :: _ :: _ :: _ :: _ :: _ :: _ :: []) : va_W) ++ (oM cy uJ1_37 ++ (oM cy uJ2_38 ++ (oM cy uJ3_39 ++ oM cy uJ4_40)))) hP hD h_54 rfl
              clear hP hD h_54
              obtain ⟨hP, hD⟩ := hPD
              refine lv_aload_n hx hb (g_42 bX6_rowsFrom rfl) rfl (lv_at hl 1 rfl) ?_
              refine va_get (D := G) (ci := 5) (v := .ref qms) (C := RX6) (T := TX6) (N := 35) hx hb hts iX_X6 hown hK hP 32 rfl rfl 33 (by decide +kernel) (hts _ m_t883) (fun _ h9 => h9) rfl (g_180 (v := 67) bX6_rowsFrom rfl) ?_
              refine lv_iload_n hx hb (g_29 bX6_rowsFrom rfl) rfl (lv_at hl 4 rfl) ?_
              refine va_aldq hx hb hK hP 3 5 rfl rfl (in_c rfl) (g_50 bX6_rowsFrom rfl) ?_
              refine lv_setv (v := .ref q_16) ((congrArg (fun z => va_rf (sF (some q_16) (refU uJ1_37) (refU uJ2_38) (refU uJ3_39) (refU uJ4_40) z)) (show Int32.toNatClampNeg 0 = 0 by decide +kernel)).trans rfl) ?_
              refine lv_iload_n hx hb (g_28 bX6_rowsFrom rfl) rfl (lv_at hl 3 rfl) ?_
              refine lv_aload_n hx hb (g_42 bX6_rowsFrom rfl) rfl (lv_at hl 1 rfl) ?_
              refine va_get (D := G) (ci := 5) (v := .ref qmu) (C := RX6) (T := TX6) (N := 35) hx hb hts iX_X6 hown hK hP 32 rfl rfl 30 (by decide +kernel) (hts _ m_t880) (fun _ h9 => h9) rfl (g_180 (v := 58) bX6_rowsFrom rfl) ?_
              refine lv_iload hx hb (g_21 (v := 6) bX6_rowsFrom rfl) (lv_at hl 0 rfl) ?_
              refine va_iald hx hb hK hP 0 0 rfl rfl (in8 (by omega)) (g_46 bX6_rowsFrom rfl) ?_
              refine lv_seti (v := fMu kk_30) (congrArg fMu (cl8 (by omega))) ?_
              obtain ⟨k_56, hk_57, ek_58⟩ := hUn kk_30 (by omega)
              refine lv_seti (v := nI k_56) ek_58 ?_
              refine cVvQ (As := [.int (nI kI), .int (nI k_56)]) (rest := []) (b := q_16) (q := (RX6, TX6, 35)) ⟨hx, hb, hml, hown, hts⟩ (c_X6_reads l G cy (H).size q_16 (xF_26 0) (xF_26 1) (xF_26 2) (xF_26 3) (xF_26 4) (xF_26 5) (xF_26 6) (xF_26 7) (xF_26 8) (xF_26 9) tA qmB_20 qmO_21 qmK_22 iEn iTk (xF_26 18) (xF_26 19) (xF_26 20) (xF_26 21) (xF_26 22) (xF_26 23) (xF_26 24) (xF_26 25) (xF_26 26) 0 0 (xF_26 29) (xF_26 30) (xF_26 31) (xF_26 32) (xF_26 33) (xF_26 34) rB_23 rO_24 rK_25 kI k_56 hI (by first | omega | (simp only [nb_sr, np_sr, nb_wr, np_wr, nb_rd, np_rd, nb_ch, np_ch, nb_zr, np_zr, nb_za, np_za, nb_ey, np_ey, nb_hf, np_hf, nb_dd, np_dd, nb_so, np_so, nb_skn, np_skn, nb_swh, np_swh, nb_sgn, np_sgn, nb_ssd, np_ssd, nb_sgo, np_sgo, nb_sag, np_sag]; omega))) L_X6_257 hN hP hD hS hA (trueIx 0 [false, false, false, false, true, true, true, true, true, true, true, true, true, true, true, true, true, true, true, true, true, true, true, true, true, true, true, true, true, true, true, true]) (true :: true :: true :: true :: false :: false :: false :: false :: false :: false :: false :: false :: false :: false :: false :: false :: false :: false :: false :: false :: false :: false :: false :: false :: false :: false :: false :: false :: false :: false :: false :: false :: true :: true :: true :: true :: true :: true :: true :: true :: true :: true :: true :: true :: true :: true :: true :: true :: true :: true :: true :: true :: true :: true :: true :: true :: true :: true :: true :: true :: []) (sel_eq rfl rfl) (by decide +kernel) rfl 4 5 rfl rfl rfl ⟨Nat.le_of_ble_eq_true rfl, Nat.le_of_ble_eq_true rfl⟩ hl.1 (Nat.le_of_ble_eq_true rfl) (g_182 (v := 257) bX6_rowsFrom rfl) ⟨by show xc_41 + 0 ≤ 250; omega, by show yc_42 + 0 ≤ 4440; omega⟩ (fun u_61 H locs h_60 => ?_)
              clear hP hD hS
              intro hP hD hS
              have hPD := pd_eqQ (((_ :: _ :: _ :: _ :: _ :: _ :: _ :: _ :: _ :: _ :: _ :: _ :: _ :: _ :: _ :: _ :: _ :: _ :: _ :: _ :: _ :: _ :: _ :: _ :: _ :: _ :: _ :: _ :: _ :: _ :: _ :: _ :: zzO q_16 5 (xF_26 0 :: xF_26 1 :: xF_26 2 :: xF_26 3 :: xF_26 4 :: xF_26 5 :: xF_26 6 :: xF_26 7 :: xF_26 8 :: xF_26 9 :: .int (nI (T_nb (rdT tA kI k_56))) :: .ref qmB_20 :: .int (nI (T_np (rdT tA kI k_56))) :: .ref qmO_21 :: .ref qmK_22 :: .int iEn :: .int iTk :: .int (T_sd (rdT tA kI k_56)) :: xF_26 18 :: xF_26 19 :: xF_26 20 :: xF_26 21 :: xF_26 22 :: xF_26 23 :: xF_26 24 :: xF_26 25 :: xF_26 26 :: .int 0 :: .int 0 :: xF_26 29 :: xF_26 30 :: xF_26 31 :: xF_26 32 :: xF_26 33 :: xF_26 34 :: []) :: _ :: zzI cy (rB_23 0) 4 (bkR (rdT tA kI k_56) 0) :: zzI cy (rB_23 1) 4 (bkR (rdT tA kI k_56) 1) :: zzI cy (rB_23 2) 4 (bkR (rdT tA kI k_56) 2) :: zzI cy (rB_23 3) 4 (bkR (rdT tA kI k_56) 3) :: zzI cy (rB_23 4) 4 (bkR (rdT tA kI k_56) 4) :: zzI cy (rB_23 5) 4 (bkR (rdT tA kI k_56) 5) :: zzI cy (rB_23 6) 4 (bkR (rdT tA kI k_56) 6) :: zzI cy (rB_23 7) 4 (bkR (rdT tA kI k_56) 7) :: _ :: zzI cy (rO_24 0) 5 (onR (rdT tA kI k_56) 0) :: zzI cy (rO_24 1) 5 (onR (rdT tA kI k_56) 1) :: zzI cy (rO_24 2) 5 (onR (rdT tA kI k_56) 2) :: zzI cy (rO_24 3) 5 (onR (rdT tA kI k_56) 3) :: zzI cy (rO_24 4) 5 (onR (rdT tA kI k_56) 4) :: zzI cy (rO_24 5) 5 (onR (rdT tA kI k_56) 5) :: zzI cy (rO_24 6) 5 (onR (rdT tA kI k_56) 6) :: zzI cy (rO_24 7) 5 (onR (rdT tA kI k_56) 7) :: _ :: zzI cy (rK_25 0) 8 (T_kn (rdT tA kI k_56) 0) :: zzI cy (rK_25 1) 8 (T_kn (rdT tA kI k_56) 1) :: zzI cy (rK_25 2) 8 (T_kn (rdT tA kI k_56) 2) :: zzI cy (rK_25 3) 8 (T_kn (rdT tA kI k_56) 3) :: zzI cy (rK_25 4) 8 (T_kn (rdT tA kI k_56) 4) :: zzI cy (rK_25 5) 8 (T_kn (rdT tA kI k_56) 5) :: zzI cy (rK_25 6) 8 (T_kn (rdT tA kI k_56) 6) :: zzI cy (rK_25 7) 8 (T_kn (rdT tA kI k_56) 7) :: []) : va_W) ++ (oM cy uJ1_37 ++ (oM cy uJ2_38 ++ (oM cy uJ3_39 ++ oM cy uJ4_40)))) hP hD h_60 rfl
              clear hP hD h_60
              obtain ⟨hP, hD⟩ := hPD
              refine lv_aload_n hx hb (g_42 bX6_rowsFrom rfl) rfl (lv_at hl 1 rfl) ?_
              refine va_get (D := G) (ci := 5) (v := .ref qmy) (C := RX6) (T := TX6) (N := 35) hx hb hts iX_X6 hown hK hP 4 rfl rfl 31 (by decide +kernel) (hts _ m_t881) (fun _ h9 => h9) rfl (g_180 (v := 61) bX6_rowsFrom rfl) ?_
              refine lv_iload_n hx hb (g_29 bX6_rowsFrom rfl) rfl (lv_at hl 4 rfl) ?_
              refine lv_aload_n hx hb (g_42 bX6_rowsFrom rfl) rfl (lv_at hl 1 rfl) ?_
              refine va_get (D := G) (ci := 5) (v := .ref qmu) (C := RX6) (T := TX6) (N := 35) hx hb hts iX_X6 hown hK hP 4 rfl rfl 30 (by decide +kernel) (hts _ m_t880) (fun _ h9 => h9) rfl (g_180 (v := 58) bX6_rowsFrom rfl) ?_
              refine lv_iload hx hb (g_21 (v := 6) bX6_rowsFrom rfl) (lv_at hl 0 rfl) ?_
              refine va_iald hx hb hK hP 0 0 rfl rfl (in8 (by omega)) (g_46 bX6_rowsFrom rfl) ?_
              refine lv_seti (v := fMu kk_30) (congrArg fMu (cl8 (by omega))) ?_
              refine va_iast hx hb hK hP hD hS 1 0 rfl rfl (in_c rfl) (g_79 bX6_rowsFrom rfl) (fun H locs => ?_)
              clear hP hD hS
              intro hP hD hS
              have hPD := pd_as (((_ :: zzI cy qmy 5 (upd fY_32 0 (fMu kk_30)) :: _ :: _ :: _ :: _ :: _ :: _ :: _ :: _ :: _ :: _ :: _ :: _ :: _ :: _ :: _ :: _ :: _ :: _ :: _ :: _ :: _ :: _ :: _ :: _ :: _ :: _ :: _ :: _ :: _ :: _ :: _ :: _ :: _ :: _ :: _ :: _ :: _ :: _ :: _ :: _ :: _ :: _ :: _ :: _ :: _ :: _ :: _ :: _ :: _ :: _ :: _ :: _ :: _ :: _ :: _ :: _ :: _ :: _ :: []) : va_W) ++ (oM cy uJ1_37 ++ (oM cy uJ2_38 ++ (oM cy uJ3_39 ++ oM cy uJ4_40)))) hP hD rfl
              clear hP hD
              obtain ⟨hP, hD⟩ := hPD
              refine lv_aload_n hx hb (g_42 bX6_rowsFrom rfl) rfl (lv_at hl 1 rfl) ?_
              refine lv_aload_n hx hb (g_42 bX6_rowsFrom rfl) rfl (lv_at hl 1 rfl) ?_
              refine va_get (D := G) (ci := 5) (v := .ref qms) (C := RX6) (T := TX6) (N := 35) hx hb hts iX_X6 hown hK hP 4 rfl rfl 33 (by decide +kernel) (hts _ m_t883) (fun _ h9 => h9) rfl (g_180 (v := 67) bX6_rowsFrom rfl) ?_
              refine lv_iload_n hx hb (g_29 bX6_rowsFrom rfl) rfl (lv_at hl 4 rfl) ?_
              refine va_aldq hx hb hK hP 3 5 rfl rfl (in_c rfl) (g_50 bX6_rowsFrom rfl) ?_
              refine lv_setv (v := .ref q_16) ((congrArg (fun z => va_rf (sF (some q_16) (refU uJ1_37) (refU uJ2_38) (refU uJ3_39) (refU uJ4_40) z)) (show Int32.toNatClampNeg 0 = 0 by decide +kernel)).trans rfl) ?_
              refine lv_iload_n hx hb (g_28 bX6_rowsFrom rfl) rfl (lv_at hl 3 rfl) ?_
              refine lv_iload_n hx hb (g_29 bX6_rowsFrom rfl) rfl (lv_at hl 4 rfl) ?_
              refine lv_iconst (v := 1) hx hb (g_4 bX6_rowsFrom rfl) (by decide +kernel) ?_
              refine lv_iadd hx hb (g_96 bX6_rowsFrom rfl) ?_
              refine lv_seti (v := 1) (by decide +kernel) ?_
              refine lv_iload hx hb (g_21 (v := 4) bX6_rowsFrom rfl) (lv_at hl 5 rfl) ?_
              refine lv_iload hx hb (g_21 (v := 5) bX6_rowsFrom rfl) (lv_at hl 6 rfl) ?_
              refine lv_iconst (v := 1) hx hb (g_4 bX6_rowsFrom rfl) (by decide +kernel) ?_
              refine lv_iload hx hb (g_21 (v := 6) bX6_rowsFrom rfl) (lv_at hl 0 rfl) ?_
              refine lv_ishl hx hb (g_120 bX6_rowsFrom rfl) ?_
              refine lv_ior hx hb (g_128 bX6_rowsFrom rfl) ?_
              have hu_62 := us_or hU32 (show kk_30 < 5 by omega) c_52
              refine lv_seti (v := nI (kU ||| 2 ^ kk_30)) hu_62.1 ?_
              have hu_62c := hu_62.2.2 kM hM5 (by omega)
              rcases hC_44 with ⟨e_63, e_64, e_65⟩ | ⟨e_63, e_64, e_65⟩
              · subst e_63
                subst e_64
                refine cVvP (As := [.ref q_16, .int (nI kI), .int 1, .int (nI kM), .int (nI (kU ||| 2 ^ kk_30))]) (rest := []) (b := qm) (q := (RX6, TX6, 35)) ⟨hx, hb, hml, hown, hts⟩ (c_X6_rows1 l G cy (H).size qm qmh qmo qmz qmR qmv qmk qma qmt kZ qmr tA qmB qmO qmK iEn iTk uP uU kAt iTo iFr JFi iFa qm3 iSt iLv iWs vLa qmu qmy qmb qms xM_34 rB fMu (upd fY_32 0 (fMu kk_30)) fB_33 (some q_16) uJ1_37 uJ2_38 uJ3_39 uJ4_40 q_16 (xF_26 0) (xF_26 1) (xF_26 2) (xF_26 3) (xF_26 4) (xF_26 5) (xF_26 6) (xF_26 7) (xF_26 8) (xF_26 9) (rdT tA kI k_56) qmB_20 qmO_21 qmK_22 iEn iTk (xF_26 18) (xF_26 19) (xF_26 20) (xF_26 21) (xF_26 22) (xF_26 23) (xF_26 24) (xF_26 25) (xF_26 26) 0 0 (xF_26 29) (xF_26 30) (xF_26 31) (xF_26 32) (xF_26 33) (xF_26 34) rB_23 rO_24 rK_25 kI kM (kU ||| 2 ^ kk_30) hI hM5 (by first | omega | (simp only [nb_sr, np_sr, nb_wr, np_wr, nb_rd, np_rd, nb_ch, np_ch, nb_zr, np_zr, nb_za, np_za, nb_ey, np_ey, nb_hf, np_hf, nb_dd, np_dd, nb_so, np_so, nb_skn, np_skn, nb_swh, np_swh, nb_sgn, np_sgn, nb_ssd, np_ssd, nb_sgo, np_sgo, nb_sag, np_sag]; omega)) (by first | omega | (simp only [nb_sr, np_sr, nb_wr, np_wr, nb_rd, np_rd, nb_ch, np_ch, nb_zr, np_zr, nb_za, np_za, nb_ey, np_ey, nb_hf, np_hf, nb_dd, np_dd, nb_so, np_so, nb_skn, np_skn, nb_swh, np_swh, nb_sgn, np_sgn, nb_ssd, np_ssd, nb_sgo, np_sgo, nb_sag, np_sag]; omega)) (by first | omega | (simp only [nb_sr, np_sr, nb_wr, np_wr, nb_rd, np_rd, nb_ch, np_ch, nb_zr, np_zr, nb_za, np_za, nb_ey, np_ey, nb_hf, np_hf, nb_dd, np_dd, nb_so, np_so, nb_skn, np_skn, nb_swh, np_swh, nb_sgn, np_sgn, nb_ssd, np_ssd, nb_sgo, np_sgo, nb_sag, np_sag]; omega)) hB hUn) L_X6_326 hN hP hD hS hA (trueIxs [[false, false, false, false, true, true, true, true, true, true, true, true, true, true], (true :: true :: true :: true :: false :: false :: false :: false :: false :: false :: false :: false :: false :: false :: false :: false :: false :: false :: false :: false :: false :: false :: false :: false :: false :: false :: false :: false :: false :: false :: false :: false :: true :: true :: true :: true :: true :: true :: true :: true :: true :: true :: true :: true :: true :: true :: true :: true :: true :: true :: true :: true :: true :: true :: true :: true :: true :: true :: true :: true :: [])]) (false :: false :: false :: false :: false :: false :: false :: false :: false :: false :: false :: false :: false :: false :: true :: true :: true :: true :: true :: true :: true :: true :: true :: true :: true :: true :: true :: true :: true :: true :: true :: true :: false :: false :: false :: false :: false :: false :: false :: false :: false :: false :: false :: false :: false :: false :: false :: false :: false :: false :: false :: false :: false :: false :: false :: false :: false :: false :: false :: false :: []) (sels_eq rfl rfl) (by decide +kernel) rfl 4 5 rfl rfl rfl ⟨Nat.le_of_ble_eq_true rfl, Nat.le_of_ble_eq_true rfl⟩ hl.1 (Nat.le_of_ble_eq_true rfl) (g_182 (v := 326) bX6_rowsFrom rfl) ⟨Nat.le_of_ble_eq_true rfl, Nat.le_of_ble_eq_true rfl⟩ (fun u_68 H locs h_67 => ?_)
                clear hP hD hS
                intro hP hD hS
                obtain ⟨iNm_69, fNy_70, fNb_71, uN_72, uN_73, uN_74, uN_75, rfl, h_76⟩ := h_67
                replace hP := al_P hP
                replace hD := al_D hD
                have hPD := pd_as (((_ :: _ :: _ :: _ :: _ :: _ :: _ :: _ :: _ :: _ :: _ :: _ :: _ :: _ :: _ :: _ :: _ :: _ :: zzO qm 5 (.ref qmh :: .ref qmo :: .ref qmz :: .ref qmR :: .ref qmv :: .ref qmk :: .ref qma :: .ref qmt :: .int (nI kZ) :: .ref qmr :: .int (nI (T_nb tA)) :: .ref qmB :: .int (nI (T_np tA)) :: .ref qmO :: .ref qmK :: .int iEn :: .int iTk :: .int (T_sd tA) :: ov uP :: ov uU :: .int (nI kAt) :: .int iTo :: .int iFr :: .long JFi :: .int iFa :: .ref qm3 :: .int iSt :: .int iLv :: .int iWs :: vLa :: .ref qmu :: .ref qmy :: .ref qmb :: .ref qms :: .int iNm_69 :: []) :: _ :: _ :: _ :: _ :: _ :: _ :: _ :: _ :: _ :: _ :: zzI cy qmy 5 fNy_70 :: zzI cy qmb 5 fNb_71 :: zzQ cy 5 qms 6 (sF (some q_16) (refU uN_72) (refU uN_73) (refU uN_74) (refU uN_75)) :: _ :: _ :: _ :: _ :: _ :: _ :: _ :: _ :: _ :: _ :: _ :: _ :: _ :: _ :: _ :: _ :: _ :: _ :: _ :: _ :: _ :: _ :: _ :: _ :: _ :: _ :: _ :: _ :: []) : va_W) ++ (oM cy uN_72 ++ (oM cy uN_73 ++ (oM cy uN_74 ++ oM cy uN_75)))) hP hD rfl
                clear hP hD
                obtain ⟨hP, hD⟩ := hPD
                refine W.widen (k := 250) (n := 4440) (Nat.le_of_ble_eq_true rfl) (Nat.le_of_ble_eq_true rfl) ?_
                refine lv_iinc (v := nI (kk_30 + 1)) (lv' := [(6, .int (nI (kk_30 + 1))), (0, .ref qm), (1, .ref qm), (2, .int (nI kI)), (3, .int 0), (4, .int (nI kM)), (5, .int (nI kU))]) hx hb dX6_rowsFrom_202 hl (k := 0) rfl (nI_1 _) (by decide +kernel) rfl (fun ls => ?_)
                clear hl
                intro hl
                refine lv_goto (tgt := 122) hx hb dX6_rowsFrom_205 (by decide +kernel) ?_
                exact ih_29 (kk_30 + 1) (rdT tA kI k_56) fNy_70 fNb_71 iNm_69 iEn iTk uN_72 uN_73 uN_74 uN_75 250 4440 (by omega) (by omega) (Or.inr ⟨rfl, rfl, h_76⟩) _ _ _ (pPt hP [[false, false, false, false, false, false, false, false, false, false, false, false, false, false, false, false, false, false, true, true, true, true, true, true, true, true, true, true], (true :: true :: true :: true :: true :: true :: true :: true :: true :: true :: true :: true :: true :: true :: true :: true :: true :: true :: false :: false :: false :: false :: false :: false :: false :: false :: false :: false :: true :: true :: true :: true :: true :: true :: true :: true :: true :: true :: true :: true :: true :: true :: true :: true :: true :: true :: true :: true :: true :: true :: true :: true :: true :: true :: true :: true :: true :: true :: true :: true :: [])] rfl rfl) (dPt hD [[false, false, false, false, false, false, false, false, false, false, false, false, false, false, false, false, false, false, true, true, true, true, true, true, true, true, true, true], (true :: true :: true :: true :: true :: true :: true :: true :: true :: true :: true :: true :: true :: true :: true :: true :: true :: true :: false :: false :: false :: false :: false :: false :: false :: false :: false :: false :: true :: true :: true :: true :: true :: true :: true :: true :: true :: true :: true :: true :: true :: true :: true :: true :: true :: true :: true :: true :: true :: true :: true :: true :: true :: true :: true :: true :: true :: true :: true :: true :: [])] (by decide +kernel) rfl rfl) hS (lv_sub hl [0, 1, 2, 3, 4, 5, 6] rfl)
              · subst e_63
                subst e_64
                refine cVvP (As := [.ref q_16, .int (nI kI), .int 1, .int (nI kM), .int (nI (kU ||| 2 ^ kk_30))]) (rest := []) (b := qm) (q := (RX6, TX6, 35)) ⟨hx, hb, hml, hown, hts⟩ (c_X6_rows1r l G cy (H).size qm qmh qmo qmz qmR qmv qmk qma qmt kZ qmr tA qmB qmO qmK iEn iTk uP uU kAt iTo iFr JFi iFa qm3 iSt iLv iWs vLa qmu qmy qmb qms xM_34 rB fMu (upd fY_32 0 (fMu kk_30)) fB_33 (some q_16) uJ1_37 uJ2_38 uJ3_39 uJ4_40 q_16 (xF_26 0) (xF_26 1) (xF_26 2) (xF_26 3) (xF_26 4) (xF_26 5) (xF_26 6) (xF_26 7) (xF_26 8) (xF_26 9) (rdT tA kI k_56) qmB_20 qmO_21 qmK_22 iEn iTk (xF_26 18) (xF_26 19) (xF_26 20) (xF_26 21) (xF_26 22) (xF_26 23) (xF_26 24) (xF_26 25) (xF_26 26) 0 0 (xF_26 29) (xF_26 30) (xF_26 31) (xF_26 32) (xF_26 33) (xF_26 34) rB_23 rO_24 rK_25 kI kM (kU ||| 2 ^ kk_30) hI hM5 (by first | omega | (simp only [nb_sr, np_sr, nb_wr, np_wr, nb_rd, np_rd, nb_ch, np_ch, nb_zr, np_zr, nb_za, np_za, nb_ey, np_ey, nb_hf, np_hf, nb_dd, np_dd, nb_so, np_so, nb_skn, np_skn, nb_swh, np_swh, nb_sgn, np_sgn, nb_ssd, np_ssd, nb_sgo, np_sgo, nb_sag, np_sag]; omega)) (by first | omega | (simp only [nb_sr, np_sr, nb_wr, np_wr, nb_rd, np_rd, nb_ch, np_ch, nb_zr, np_zr, nb_za, np_za, nb_ey, np_ey, nb_hf, np_hf, nb_dd, np_dd, nb_so, np_so, nb_skn, np_skn, nb_swh, np_swh, nb_sgn, np_sgn, nb_ssd, np_ssd, nb_sgo, np_sgo, nb_sag, np_sag]; omega)) (by first | omega | (simp only [nb_sr, np_sr, nb_wr, np_wr, nb_rd, np_rd, nb_ch, np_ch, nb_zr, np_zr, nb_za, np_za, nb_ey, np_ey, nb_hf, np_hf, nb_dd, np_dd, nb_so, np_so, nb_skn, np_skn, nb_swh, np_swh, nb_sgn, np_sgn, nb_ssd, np_ssd, nb_sgo, np_sgo, nb_sag, np_sag]; omega)) hB hUn e_65) L_X6_326 hN hP hD hS hA (trueIxs [[false, false, false, false, true, true, true, true, true, true, true, true, true, true], (true :: true :: true :: true :: false :: false :: false :: false :: false :: false :: false :: false :: false :: false :: false :: false :: false :: false :: false :: false :: false :: false :: false :: false :: false :: false :: false :: false :: false :: false :: false :: false :: true :: true :: true :: true :: true :: true :: true :: true :: true :: true :: true :: true :: true :: true :: true :: true :: true :: true :: true :: true :: true :: true :: true :: true :: true :: true :: true :: true :: [])]) (false :: false :: false :: false :: false :: false :: false :: false :: false :: false :: false :: false :: false :: false :: true :: true :: true :: true :: true :: true :: true :: true :: true :: true :: true :: true :: true :: true :: true :: true :: true :: true :: false :: false :: false :: false :: false :: false :: false :: false :: false :: false :: false :: false :: false :: false :: false :: false :: false :: false :: false :: false :: false :: false :: false :: false :: false :: false :: false :: false :: []) (sels_eq rfl rfl) (by decide +kernel) rfl 4 5 rfl rfl rfl ⟨Nat.le_of_ble_eq_true rfl, Nat.le_of_ble_eq_true rfl⟩ hl.1 (Nat.le_of_ble_eq_true rfl) (g_182 (v := 326) bX6_rowsFrom rfl) ⟨Nat.le_of_ble_eq_true rfl, Nat.le_of_ble_eq_true rfl⟩ (fun u_79 H locs h_78 => ?_)
                clear hP hD hS
                intro hP hD hS
                obtain ⟨iNm_80, fNy_81, fNb_82, uN_83, uN_84, uN_85, uN_86, rfl, h_87⟩ := h_78
                replace hP := al_P hP
                replace hD := al_D hD
                have hPD := pd_as (((_ :: _ :: _ :: _ :: _ :: _ :: _ :: _ :: _ :: _ :: _ :: _ :: _ :: _ :: _ :: _ :: _ :: _ :: zzO qm 5 (.ref qmh :: .ref qmo :: .ref qmz :: .ref qmR :: .ref qmv :: .ref qmk :: .ref qma :: .ref qmt :: .int (nI kZ) :: .ref qmr :: .int (nI (T_nb tA)) :: .ref qmB :: .int (nI (T_np tA)) :: .ref qmO :: .ref qmK :: .int iEn :: .int iTk :: .int (T_sd tA) :: ov uP :: ov uU :: .int (nI kAt) :: .int iTo :: .int iFr :: .long JFi :: .int iFa :: .ref qm3 :: .int iSt :: .int iLv :: .int iWs :: vLa :: .ref qmu :: .ref qmy :: .ref qmb :: .ref qms :: .int iNm_80 :: []) :: _ :: _ :: _ :: _ :: _ :: _ :: _ :: _ :: _ :: _ :: zzI cy qmy 5 fNy_81 :: zzI cy qmb 5 fNb_82 :: zzQ cy 5 qms 6 (sF (some q_16) (refU uN_83) (refU uN_84) (refU uN_85) (refU uN_86)) :: _ :: _ :: _ :: _ :: _ :: _ :: _ :: _ :: _ :: _ :: _ :: _ :: _ :: _ :: _ :: _ :: _ :: _ :: _ :: _ :: _ :: _ :: _ :: _ :: _ :: _ :: _ :: _ :: []) : va_W) ++ (oM cy uN_83 ++ (oM cy uN_84 ++ (oM cy uN_85 ++ oM cy uN_86)))) hP hD rfl
                clear hP hD
                obtain ⟨hP, hD⟩ := hPD
                refine lv_iinc (v := nI (kk_30 + 1)) (lv' := [(6, .int (nI (kk_30 + 1))), (0, .ref qm), (1, .ref qm), (2, .int (nI kI)), (3, .int 0), (4, .int (nI kM)), (5, .int (nI kU))]) hx hb dX6_rowsFrom_202 hl (k := 0) rfl (nI_1 _) (by decide +kernel) rfl (fun ls => ?_)
                clear hl
                intro hl
                refine lv_goto (tgt := 122) hx hb dX6_rowsFrom_205 (by decide +kernel) ?_
                exact ih_29 (kk_30 + 1) (rdT tA kI k_56) fNy_81 fNb_82 iNm_80 iEn iTk uN_83 uN_84 uN_85 uN_86 250 4440 (by omega) (by omega) (Or.inr ⟨rfl, rfl, h_87⟩) _ _ _ (pPt hP [[false, false, false, false, false, false, false, false, false, false, false, false, false, false, false, false, false, false, true, true, true, true, true, true, true, true, true, true], (true :: true :: true :: true :: true :: true :: true :: true :: true :: true :: true :: true :: true :: true :: true :: true :: true :: true :: false :: false :: false :: false :: false :: false :: false :: false :: false :: false :: true :: true :: true :: true :: true :: true :: true :: true :: true :: true :: true :: true :: true :: true :: true :: true :: true :: true :: true :: true :: true :: true :: true :: true :: true :: true :: true :: true :: true :: true :: true :: true :: [])] rfl rfl) (dPt hD [[false, false, false, false, false, false, false, false, false, false, false, false, false, false, false, false, false, false, true, true, true, true, true, true, true, true, true, true], (true :: true :: true :: true :: true :: true :: true :: true :: true :: true :: true :: true :: true :: true :: true :: true :: true :: true :: false :: false :: false :: false :: false :: false :: false :: false :: false :: false :: true :: true :: true :: true :: true :: true :: true :: true :: true :: true :: true :: true :: true :: true :: true :: true :: true :: true :: true :: true :: true :: true :: true :: true :: true :: true :: true :: true :: true :: true :: true :: true :: [])] (by decide +kernel) rfl rfl) hS (lv_sub hl [0, 1, 2, 3, 4, 5, 6] rfl)
      exact lp_27 ((5 - 0) + 1) 0 T0 fMy fMb iOm 0 0 uS1 uS2 uS3 uS4 50 888 (Nat.lt_succ_self _) (Nat.zero_le _) (Or.inl ⟨rfl, rfl, rfl⟩) _ _ ls hP hD hS (lv_sub hl [0, 1, 2, 3, 4, 5, 6] rfl)
    · rw [eS_15] at hP hD
      replace hP := al_P hP
      replace hD := al_D hD
      have hPD := pd_as (((_ :: _ :: _ :: _ :: _ :: _ :: _ :: _ :: _ :: _ :: _ :: _ :: _ :: _ :: _ :: _ :: _ :: _ :: _ :: _ :: _ :: _ :: _ :: _ :: _ :: _ :: _ :: _ :: _ :: _ :: _ :: zzQ cy 5 qms 6 (sF (some qS_2) (refU uS1) (refU uS2) (refU uS3) (refU uS4)) :: zzO qS_2 5 (xS_10 0 :: xS_10 1 :: xS_10 2 :: xS_10 3 :: xS_10 4 :: xS_10 5 :: xS_10 6 :: xS_10 7 :: xS_10 8 :: xS_10 9 :: .int (nI (T_nb tS_9)) :: .ref qSB_3 :: .int (nI (T_np tS_9)) :: .ref qSO_4 :: .ref qSK_5 :: .int iEnS_11 :: .int iTkS_12 :: .int (T_sd tS_9) :: xS_10 18 :: xS_10 19 :: xS_10 20 :: xS_10 21 :: xS_10 22 :: xS_10 23 :: xS_10 24 :: xS_10 25 :: xS_10 26 :: .int iLvS_13 :: .int iWsS_14 :: xS_10 29 :: xS_10 30 :: xS_10 31 :: xS_10 32 :: xS_10 33 :: xS_10 34 :: []) :: zzG cy 3 qSB_3 rSB_6 :: zzI cy (rSB_6 0) 4 (bkR tS_9 0) :: zzI cy (rSB_6 1) 4 (bkR tS_9 1) :: zzI cy (rSB_6 2) 4 (bkR tS_9 2) :: zzI cy (rSB_6 3) 4 (bkR tS_9 3) :: zzI cy (rSB_6 4) 4 (bkR tS_9 4) :: zzI cy (rSB_6 5) 4 (bkR tS_9 5) :: zzI cy (rSB_6 6) 4 (bkR tS_9 6) :: zzI cy (rSB_6 7) 4 (bkR tS_9 7) :: zzG cy 3 qSO_4 rSO_7 :: zzI cy (rSO_7 0) 5 (onR tS_9 0) :: zzI cy (rSO_7 1) 5 (onR tS_9 1) :: zzI cy (rSO_7 2) 5 (onR tS_9 2) :: zzI cy (rSO_7 3) 5 (onR tS_9 3) :: zzI cy (rSO_7 4) 5 (onR tS_9 4) :: zzI cy (rSO_7 5) 5 (onR tS_9 5) :: zzI cy (rSO_7 6) 5 (onR tS_9 6) :: zzI cy (rSO_7 7) 5 (onR tS_9 7) :: zzG cy 3 qSK_5 rSK_8 :: zzI cy (rSK_8 0) 8 (T_kn tS_9 0) :: zzI cy (rSK_8 1) 8 (T_kn tS_9 1) :: zzI cy (rSK_8 2) 8 (T_kn tS_9 2) :: zzI cy (rSK_8 3) 8 (T_kn tS_9 3) :: zzI cy (rSK_8 4) 8 (T_kn tS_9 4) :: zzI cy (rSK_8 5) 8 (T_kn tS_9 5) :: zzI cy (rSK_8 6) 8 (T_kn tS_9 6) :: zzI cy (rSK_8 7) 8 (T_kn tS_9 7) :: []) : va_W) ++ (oM cy uS1 ++ (oM cy uS2 ++ (oM cy uS3 ++ oM cy uS4)))) hP hD rfl
      clear hP hD
      obtain ⟨hP, hD⟩ := hPD
      refine lv_setv (v := .ref qS_2) (by rw [eS_15]; rfl) ?_
      refine lv_ifnonnull (tgt := 119) hx hb dX6_rowsFrom_103 (by decide +kernel) ?_
      refine lv_iconst (v := 0) hx hb (g_3 bX6_rowsFrom rfl) (by decide +kernel) ?_
      refine lv_istore (lv' := [(6, .int 0), (0, .ref qm), (1, .ref qm), (2, .int (nI kI)), (3, .int 0), (4, .int (nI kM)), (5, .int (nI kU))]) hx hb (g_54 (v := 6) bX6_rowsFrom rfl) hl (by decide +kernel) rfl (fun ls => ?_)
      clear hl
      intro hl
      have lp_88 : ∀ (n_89 : Nat) (kk_91 : Nat) (tJ_92 : TA) (fY_93 : Nat → Int32) (fB_94 : Nat → Int32) (xM_95 : Int32) (iE1_96 : Int32) (iE2_97 : Int32) (uJ1_98 : UM) (uJ2_99 : UM) (uJ3_100 : UM) (uJ4_101 : UM) (xc_102 : Nat) (yc_103 : Nat), 5 - kk_91 < n_89 → kk_91 ≤ kM → ((xc_102 = 0 ∧ yc_103 = 0 ∧ cu kk_91 kU = 0) ∨ (xc_102 = 200 ∧ yc_103 = 3552 ∧ (1 < kM → isS uJ1_98 = true) ∧ (2 < kM → isS uJ2_99 = true) ∧ (3 < kM → isS uJ3_100 = true) ∧ (4 < kM → isS uJ4_101 = true))) → ∀ (H : Heap) (locs : List Loc) (ls : Array Slot), va_P G CL ((zzO qm 5 (.ref qmh :: .ref qmo :: .ref qmz :: .ref qmR :: .ref qmv :: .ref qmk :: .ref qma :: .ref qmt :: .int (nI kZ) :: .ref qmr :: .int (nI (T_nb tA)) :: .ref qmB :: .int (nI (T_np tA)) :: .ref qmO :: .ref qmK :: .int iEn :: .int iTk :: .int (T_sd tA) :: ov uP :: ov uU :: .int (nI kAt) :: .int iTo :: .int iFr :: .long JFi :: .int iFa :: .ref qm3 :: .int iSt :: .int iLv :: .int iWs :: vLa :: .ref qmu :: .ref qmy :: .ref qmb :: .ref qms :: .int xM_95 :: []) :: zzG cy 3 qmB rB :: zzI cy (rB 0) 4 (bkR tA 0) :: zzI cy (rB 1) 4 (bkR tA 1) :: zzI cy (rB 2) 4 (bkR tA 2) :: zzI cy (rB 3) 4 (bkR tA 3) :: zzI cy (rB 4) 4 (bkR tA 4) :: zzI cy (rB 5) 4 (bkR tA 5) :: zzI cy (rB 6) 4 (bkR tA 6) :: zzI cy (rB 7) 4 (bkR tA 7) :: zzG cy 3 qmO rO :: zzI cy (rO 0) 5 (onR tA 0) :: zzI cy (rO 1) 5 (onR tA 1) :: zzI cy (rO 2) 5 (onR tA 2) :: zzI cy (rO 3) 5 (onR tA 3) :: zzI cy (rO 4) 5 (onR tA 4) :: zzI cy (rO 5) 5 (onR tA 5) :: zzI cy (rO 6) 5 (onR tA 6) :: zzI cy (rO 7) 5 (onR tA 7) :: zzG cy 3 qmK rK :: zzI cy (rK 0) 8 (T_kn tA 0) :: zzI cy (rK 1) 8 (T_kn tA 1) :: zzI cy (rK 2) 8 (T_kn tA 2) :: zzI cy (rK 3) 8 (T_kn tA 3) :: zzI cy (rK 4) 8 (T_kn tA 4) :: zzI cy (rK 5) 8 (T_kn tA 5) :: zzI cy (rK 6) 8 (T_kn tA 6) :: zzI cy (rK 7) 8 (T_kn tA 7) :: zzI cy qmu 8 fMu :: zzI cy qmy 5 fY_93 :: zzI cy qmb 5 fB_94 :: zzQ cy 5 qms 6 (sF (some qS_2) (refU uJ1_98) (refU uJ2_99) (refU uJ3_100) (refU uJ4_101)) :: zzO qS_2 5 (xS_10 0 :: xS_10 1 :: xS_10 2 :: xS_10 3 :: xS_10 4 :: xS_10 5 :: xS_10 6 :: xS_10 7 :: xS_10 8 :: xS_10 9 :: .int (nI (T_nb tJ_92)) :: .ref qSB_3 :: .int (nI (T_np tJ_92)) :: .ref qSO_4 :: .ref qSK_5 :: .int iE1_96 :: .int iE2_97 :: .int (T_sd tJ_92) :: xS_10 18 :: xS_10 19 :: xS_10 20 :: xS_10 21 :: xS_10 22 :: xS_10 23 :: xS_10 24 :: xS_10 25 :: xS_10 26 :: .int iLvS_13 :: .int iWsS_14 :: xS_10 29 :: xS_10 30 :: xS_10 31 :: xS_10 32 :: xS_10 33 :: xS_10 34 :: []) :: zzG cy 3 qSB_3 rSB_6 :: zzI cy (rSB_6 0) 4 (bkR tJ_92 0) :: zzI cy (rSB_6 1) 4 (bkR tJ_92 1) :: zzI cy (rSB_6 2) 4 (bkR tJ_92 2) :: zzI cy (rSB_6 3) 4 (bkR tJ_92 3) :: zzI cy (rSB_6 4) 4 (bkR tJ_92 4) :: zzI cy (rSB_6 5) 4 (bkR tJ_92 5) :: zzI cy (rSB_6 6) 4 (bkR tJ_92 6) :: zzI cy (rSB_6 7) 4 (bkR tJ_92 7) :: zzG cy 3 qSO_4 rSO_7 :: zzI cy (rSO_7 0) 5 (onR tJ_92 0) :: zzI cy (rSO_7 1) 5 (onR tJ_92 1) :: zzI cy (rSO_7 2) 5 (onR tJ_92 2) :: zzI cy (rSO_7 3) 5 (onR tJ_92 3) :: zzI cy (rSO_7 4) 5 (onR tJ_92 4) :: zzI cy (rSO_7 5) 5 (onR tJ_92 5) :: zzI cy (rSO_7 6) 5 (onR tJ_92 6) :: zzI cy (rSO_7 7) 5 (onR tJ_92 7) :: zzG cy 3 qSK_5 rSK_8 :: zzI cy (rSK_8 0) 8 (T_kn tJ_92 0) :: zzI cy (rSK_8 1) 8 (T_kn tJ_92 1) :: zzI cy (rSK_8 2) 8 (T_kn tJ_92 2) :: zzI cy (rSK_8 3) 8 (T_kn tJ_92 3) :: zzI cy (rSK_8 4) 8 (T_kn tJ_92 4) :: zzI cy (rSK_8 5) 8 (T_kn tJ_92 5) :: zzI cy (rSK_8 6) 8 (T_kn tJ_92 6) :: zzI cy (rSK_8 7) 8 (T_kn tJ_92 7) :: []) ++ (oM cy uJ1_98 ++ (oM cy uJ2_99 ++ (oM cy uJ3_100 ++ oM cy uJ4_101)))) H → va_D A ((zzO qm 5 (.ref qmh :: .ref qmo :: .ref qmz :: .ref qmR :: .ref qmv :: .ref qmk :: .ref qma :: .ref qmt :: .int (nI kZ) :: .ref qmr :: .int (nI (T_nb tA)) :: .ref qmB :: .int (nI (T_np tA)) :: .ref qmO :: .ref qmK :: .int iEn :: .int iTk :: .int (T_sd tA) :: ov uP :: ov uU :: .int (nI kAt) :: .int iTo :: .int iFr :: .long JFi :: .int iFa :: .ref qm3 :: .int iSt :: .int iLv :: .int iWs :: vLa :: .ref qmu :: .ref qmy :: .ref qmb :: .ref qms :: .int xM_95 :: []) :: zzG cy 3 qmB rB :: zzI cy (rB 0) 4 (bkR tA 0) :: zzI cy (rB 1) 4 (bkR tA 1) :: zzI cy (rB 2) 4 (bkR tA 2) :: zzI cy (rB 3) 4 (bkR tA 3) :: zzI cy (rB 4) 4 (bkR tA 4) :: zzI cy (rB 5) 4 (bkR tA 5) :: zzI cy (rB 6) 4 (bkR tA 6) :: zzI cy (rB 7) 4 (bkR tA 7) :: zzG cy 3 qmO rO :: zzI cy (rO 0) 5 (onR tA 0) :: zzI cy (rO 1) 5 (onR tA 1) :: zzI cy (rO 2) 5 (onR tA 2) :: zzI cy (rO 3) 5 (onR tA 3) :: zzI cy (rO 4) 5 (onR tA 4) :: zzI cy (rO 5) 5 (onR tA 5) :: zzI cy (rO 6) 5 (onR tA 6) :: zzI cy (rO 7) 5 (onR tA 7) :: zzG cy 3 qmK rK :: zzI cy (rK 0) 8 (T_kn tA 0) :: zzI cy (rK 1) 8 (T_kn tA 1) :: zzI cy (rK 2) 8 (T_kn tA 2) :: zzI cy (rK 3) 8 (T_kn tA 3) :: zzI cy (rK 4) 8 (T_kn tA 4) :: zzI cy (rK 5) 8 (T_kn tA 5) :: zzI cy (rK 6) 8 (T_kn tA 6) :: zzI cy (rK 7) 8 (T_kn tA 7) :: zzI cy qmu 8 fMu :: zzI cy qmy 5 fY_93 :: zzI cy qmb 5 fB_94 :: zzQ cy 5 qms 6 (sF (some qS_2) (refU uJ1_98) (refU uJ2_99) (refU uJ3_100) (refU uJ4_101)) :: zzO qS_2 5 (xS_10 0 :: xS_10 1 :: xS_10 2 :: xS_10 3 :: xS_10 4 :: xS_10 5 :: xS_10 6 :: xS_10 7 :: xS_10 8 :: xS_10 9 :: .int (nI (T_nb tJ_92)) :: .ref qSB_3 :: .int (nI (T_np tJ_92)) :: .ref qSO_4 :: .ref qSK_5 :: .int iE1_96 :: .int iE2_97 :: .int (T_sd tJ_92) :: xS_10 18 :: xS_10 19 :: xS_10 20 :: xS_10 21 :: xS_10 22 :: xS_10 23 :: xS_10 24 :: xS_10 25 :: xS_10 26 :: .int iLvS_13 :: .int iWsS_14 :: xS_10 29 :: xS_10 30 :: xS_10 31 :: xS_10 32 :: xS_10 33 :: xS_10 34 :: []) :: zzG cy 3 qSB_3 rSB_6 :: zzI cy (rSB_6 0) 4 (bkR tJ_92 0) :: zzI cy (rSB_6 1) 4 (bkR tJ_92 1) :: zzI cy (rSB_6 2) 4 (bkR tJ_92 2) :: zzI cy (rSB_6 3) 4 (bkR tJ_92 3) :: zzI cy (rSB_6 4) 4 (bkR tJ_92 4) :: zzI cy (rSB_6 5) 4 (bkR tJ_92 5) :: zzI cy (rSB_6 6) 4 (bkR tJ_92 6) :: zzI cy (rSB_6 7) 4 (bkR tJ_92 7) :: zzG cy 3 qSO_4 rSO_7 :: zzI cy (rSO_7 0) 5 (onR tJ_92 0) :: zzI cy (rSO_7 1) 5 (onR tJ_92 1) :: zzI cy (rSO_7 2) 5 (onR tJ_92 2) :: zzI cy (rSO_7 3) 5 (onR tJ_92 3) :: zzI cy (rSO_7 4) 5 (onR tJ_92 4) :: zzI cy (rSO_7 5) 5 (onR tJ_92 5) :: zzI cy (rSO_7 6) 5 (onR tJ_92 6) :: zzI cy (rSO_7 7) 5 (onR tJ_92 7) :: zzG cy 3 qSK_5 rSK_8 :: zzI cy (rSK_8 0) 8 (T_kn tJ_92 0) :: zzI cy (rSK_8 1) 8 (T_kn tJ_92 1) :: zzI cy (rSK_8 2) 8 (T_kn tJ_92 2) :: zzI cy (rSK_8 3) 8 (T_kn tJ_92 3) :: zzI cy (rSK_8 4) 8 (T_kn tJ_92 4) :: zzI cy (rSK_8 5) 8 (T_kn tJ_92 5) :: zzI cy (rSK_8 6) 8 (T_kn tJ_92 6) :: zzI cy (rSK_8 7) 8 (T_kn tJ_92 7) :: []) ++ (oM cy uJ1_98 ++ (oM cy uJ2_99 ++ (oM cy uJ3_100 ++ oM cy uJ4_101)))) → va_S A s.heap H locs → lv_has ls 8 [(6, .int (nI kk_91)), (0, .ref qm), (1, .ref qm), (2, .int (nI kI)), (3, .int 0), (4, .int (nI kM)), (5, .int (nI kU))] → W p l e (Rm 11 250 4440) s m (List.toArray (α := Value) [.ref qm, .ref qm, .int (nI kI), .int 0, .int (nI kM), .int (nI kU)]) below meth c H locs xc_102 yc_103 (MQ below ((Wv G (fun u => ∃ (iNm : Int32) (fNy : Nat → Int32) (fNb : Nat → Int32) (uN0 : UM) (uN1 : UM) (uN2 : UM) (uN3 : UM) (uN4 : UM), u = ([zzO qm 5 (.ref qmh :: .ref qmo :: .ref qmz :: .ref qmR :: .ref qmv :: .ref qmk :: .ref qma :: .ref qmt :: .int (nI kZ) :: .ref qmr :: .int (nI (T_nb tA)) :: .ref qmB :: .int (nI (T_np tA)) :: .ref qmO :: .ref qmK :: .int iEn :: .int iTk :: .int (T_sd tA) :: ov uP :: ov uU :: .int (nI kAt) :: .int iTo :: .int iFr :: .long JFi :: .int iFa :: .ref qm3 :: .int iSt :: .int iLv :: .int iWs :: vLa :: .ref qmu :: .ref qmy :: .ref qmb :: .ref qms :: .int iNm :: []), zzG cy 3 qmB rB, zzI cy (rB 0) 4 (bkR tA 0), zzI cy (rB 1) 4 (bkR tA 1), zzI cy (rB 2) 4 (bkR tA 2), zzI cy (rB 3) 4 (bkR tA 3), zzI cy (rB 4) 4 (bkR tA 4), zzI cy (rB 5) 4 (bkR tA 5), zzI cy (rB 6) 4 (bkR tA 6), zzI cy (rB 7) 4 (bkR tA 7), zzG cy 3 qmO rO, zzI cy (rO 0) 5 (onR tA 0), zzI cy (rO 1) 5 (onR tA 1), zzI cy (rO 2) 5 (onR tA 2), zzI cy (rO 3) 5 (onR tA 3), zzI cy (rO 4) 5 (onR tA 4), zzI cy (rO 5) 5 (onR tA 5), zzI cy (rO 6) 5 (onR tA 6), zzI cy (rO 7) 5 (onR tA 7), zzG cy 3 qmK rK, zzI cy (rK 0) 8 (T_kn tA 0), zzI cy (rK 1) 8 (T_kn tA 1), zzI cy (rK 2) 8 (T_kn tA 2), zzI cy (rK 3) 8 (T_kn tA 3), zzI cy (rK 4) 8 (T_kn tA 4), zzI cy (rK 5) 8 (T_kn tA 5), zzI cy (rK 6) 8 (T_kn tA 6), zzI cy (rK 7) 8 (T_kn tA 7), zzI cy qmu 8 fMu, zzI cy qmy 5 fNy, zzI cy qmb 5 fNb, zzQ cy 5 qms 6 (sF (refU uN0) (refU uN1) (refU uN2) (refU uN3) (refU uN4))] ++ (oM cy uN0 ++ (oM cy uN1 ++ (oM cy uN2 ++ (oM cy uN3 ++ oM cy uN4))))) ∧ ((0 < kM → isS uN0 = true) ∧ (1 < kM → isS uN1 = true) ∧ (2 < kM → isS uN2 = true) ∧ (3 < kM → isS uN3 = true) ∧ (4 < kM → isS uN4 = true)))) A) (List.toArray (α := Value) [.ref qm, .ref qm, .int (nI kI), .int 0, .int (nI kM), .int (nI kU)]) s 250 4440 A) (F0 m 122 ls []) := by
        intro n_89
        induction n_89 with
        | zero => intro kk_91 tJ_92 fY_93 fB_94 xM_95 iE1_96 iE2_97 uJ1_98 uJ2_99 uJ3_100 uJ4_101 xc_102 yc_103 hm9; exact absurd hm9 (Nat.not_lt_zero _)
        | succ n_89 ih_90 =>
          intro kk_91 tJ_92 fY_93 fB_94 xM_95 iE1_96 iE2_97 uJ1_98 uJ2_99 uJ3_100 uJ4_101 xc_102 yc_103 hm_106 hj_104 hC_105 H locs ls hP hD hS hl
          refine lv_iload hx hb (g_21 (v := 6) bX6_rowsFrom rfl) (lv_at hl 0 rfl) ?_
          refine lv_iload hx hb (g_21 (v := 4) bX6_rowsFrom rfl) (lv_at hl 5 rfl) ?_
          refine lv_icmp_ge (tgt := 208) hx hb dX6_rowsFrom_126 (by decide +kernel) (fun c_107 => ?_) (fun c_107 => ?_)
          · have hlt_108 : kk_91 = kM := Nat.le_antisymm (by omega) (lp_ge rfl rfl (by omega) (by omega) c_107)
            rcases hC_105 with ⟨e_109, e_110, e_111⟩ | ⟨e_109, e_110, e_111⟩
            · rw [hlt_108] at e_111
              omega
            · subst e_109
              subst e_110
              refine W.widen (k := 250) (n := 4440) (Nat.le_of_ble_eq_true rfl) (Nat.le_of_ble_eq_true rfl) ?_
              exact endVt [(true :: true :: true :: true :: true :: true :: true :: true :: true :: true :: true :: true :: true :: true :: true :: true :: true :: true :: true :: true :: true :: true :: true :: true :: true :: true :: true :: true :: true :: true :: true :: true :: true :: true :: true :: true :: true :: true :: true :: true :: true :: true :: true :: true :: true :: true :: true :: true :: true :: true :: true :: true :: true :: true :: true :: true :: true :: true :: true :: true :: [])] hx hb hr hlocks hP hD rfl (by decide +kernel) hS ⟨xM_95, fY_93, fB_94, (some (qS_2, qSB_3, qSO_4, qSK_5, rSB_6, rSO_7, rSK_8, tJ_92, xS_10, iE1_96, iE2_97, iLvS_13, iWsS_14)), uJ1_98, uJ2_99, uJ3_100, uJ4_101, rfl, ⟨fun _ => rfl, e_111⟩⟩ (g_177 bX6_rowsFrom rfl)
          · have hlt_112 : kk_91 < kM := lp_lt rfl rfl (by omega) (by omega) c_107
            refine lv_iload hx hb (g_21 (v := 5) bX6_rowsFrom rfl) (lv_at hl 6 rfl) ?_
            refine lv_iload hx hb (g_21 (v := 6) bX6_rowsFrom rfl) (lv_at hl 0 rfl) ?_
            refine lv_ishr hx hb (g_122 bX6_rowsFrom rfl) ?_
            refine lv_iconst (v := 1) hx hb (g_4 bX6_rowsFrom rfl) (by decide +kernel) ?_
            refine lv_iand hx hb (g_126 bX6_rowsFrom rfl) ?_
            refine lv_if_ne (tgt := 202) hx hb dX6_rowsFrom_136 (by decide +kernel) (fun c_113 => ?_) (fun c_113 => ?_)
            · refine lv_iinc (v := nI (kk_91 + 1)) (lv' := [(6, .int (nI (kk_91 + 1))), (0, .ref qm), (1, .ref qm), (2, .int (nI kI)), (3, .int 0), (4, .int (nI kM)), (5, .int (nI kU))]) hx hb dX6_rowsFrom_202 hl (k := 0) rfl (nI_1 _) (by decide +kernel) rfl (fun ls => ?_)
              clear hl
              intro hl
              refine lv_goto (tgt := 122) hx hb dX6_rowsFrom_205 (by decide +kernel) ?_
              exact ih_90 (kk_91 + 1) tJ_92 fY_93 fB_94 xM_95 iE1_96 iE2_97 uJ1_98 uJ2_99 uJ3_100 uJ4_101 xc_102 yc_103 (by omega) (by omega) (hC_105.elim (fun q => Or.inl ⟨q.1, q.2.1, cu_set (by omega) (by omega) q.2.2 c_113⟩) Or.inr) _ _ _ hP hD hS (lv_sub hl [0, 1, 2, 3, 4, 5, 6] rfl)
            · refine lv_aload_n hx hb (g_42 bX6_rowsFrom rfl) rfl (lv_at hl 1 rfl) ?_
              refine va_get (D := G) (ci := 5) (v := .ref qms) (C := RX6) (T := TX6) (N := 35) hx hb hts iX_X6 hown hK hP 0 rfl rfl 33 (by decide +kernel) (hts _ m_t883) (fun _ h9 => h9) rfl (g_180 (v := 67) bX6_rowsFrom rfl) ?_
              refine lv_iload_n hx hb (g_29 bX6_rowsFrom rfl) rfl (lv_at hl 4 rfl) ?_
              refine va_aldq hx hb hK hP 31 5 rfl rfl (in_c rfl) (g_50 bX6_rowsFrom rfl) ?_
              refine lv_setv (v := .ref qS_2) ((congrArg (fun z => va_rf (sF (some qS_2) (refU uJ1_98) (refU uJ2_99) (refU uJ3_100) (refU uJ4_101) z)) (show Int32.toNatClampNeg 0 = 0 by decide +kernel)).trans rfl) ?_
              refine lv_aload_n hx hb (g_43 bX6_rowsFrom rfl) rfl (lv_at hl 2 rfl) ?_
              refine cVvQ (As := [.ref qm]) (rest := []) (b := qS_2) (q := (RX6, TX6, 35)) ⟨hx, hb, hml, hown, hts⟩ (c_X6_takeFrom l G cy (H).size qS_2 (xS_10 0) (xS_10 1) (xS_10 2) (xS_10 3) (xS_10 4) (xS_10 5) (xS_10 6) (xS_10 7) (xS_10 8) (xS_10 9) tJ_92 qSB_3 qSO_4 qSK_5 iE1_96 iE2_97 (xS_10 18) (xS_10 19) (xS_10 20) (xS_10 21) (xS_10 22) (xS_10 23) (xS_10 24) (xS_10 25) (xS_10 26) iLvS_13 iWsS_14 (xS_10 29) (xS_10 30) (xS_10 31) (xS_10 32) (xS_10 33) (xS_10 34) rSB_6 rSO_7 rSK_8 qm (.ref qmh) (.ref qmo) (.ref qmz) (.ref qmR) (.ref qmv) (.ref qmk) (.ref qma) (.ref qmt) (.int (nI kZ)) (.ref qmr) tA qmB qmO qmK iEn iTk (ov uP) (ov uU) (.int (nI kAt)) (.int iTo) (.int iFr) (.long JFi) (.int iFa) (.ref qm3) (.int iSt) iLv iWs vLa (.ref qmu) (.ref qmy) (.ref qmb) (.ref qms) (.int xM_95) rB rO rK) L_X6_225 hN hP hD hS hA (trueIxs [(false :: false :: false :: false :: false :: false :: false :: false :: false :: false :: false :: false :: false :: false :: false :: false :: false :: false :: false :: false :: false :: false :: false :: false :: false :: false :: false :: false :: false :: false :: false :: false :: true :: true :: true :: true :: true :: true :: true :: true :: true :: true :: true :: true :: true :: true :: true :: true :: true :: true :: true :: true :: true :: true :: true :: true :: true :: true :: true :: true :: []), [true, true, true, true, true, true, true, true, true, true, true, true, true, true, true, true, true, true, true, true, true, true, true, true, true, true, true, true]]) (false :: false :: false :: false :: false :: false :: false :: false :: false :: false :: false :: false :: false :: false :: false :: false :: false :: false :: false :: false :: false :: false :: false :: false :: false :: false :: false :: false :: true :: true :: true :: true :: false :: false :: false :: false :: false :: false :: false :: false :: false :: false :: false :: false :: false :: false :: false :: false :: false :: false :: false :: false :: false :: false :: false :: false :: false :: false :: false :: false :: []) (sels_eq rfl rfl) (by decide +kernel) rfl 32 5 rfl rfl rfl ⟨Nat.le_of_ble_eq_true rfl, Nat.le_of_ble_eq_true rfl⟩ hl.1 (Nat.le_of_ble_eq_true rfl) (g_182 (v := 225) bX6_rowsFrom rfl) ⟨by show xc_102 + 0 ≤ 250; omega, by show yc_103 + 0 ≤ 4440; omega⟩ (fun u_116 H locs h_115 => ?_)
              clear hP hD hS
              intro hP hD hS
              have hPD := pd_eqQ (((_ :: zzI cy qmy 5 fY_93 :: zzI cy qmb 5 fB_94 :: zzQ cy 5 qms 6 (sF (some qS_2) (refU uJ1_98) (refU uJ2_99) (refU uJ3_100) (refU uJ4_101)) :: zzO qS_2 5 (xS_10 0 :: xS_10 1 :: xS_10 2 :: xS_10 3 :: xS_10 4 :: xS_10 5 :: xS_10 6 :: xS_10 7 :: xS_10 8 :: xS_10 9 :: .int (nI (T_nb tA)) :: .ref qSB_3 :: .int (nI (T_np tA)) :: .ref qSO_4 :: .ref qSK_5 :: .int iEn :: .int iTk :: .int (T_sd tA) :: xS_10 18 :: xS_10 19 :: xS_10 20 :: xS_10 21 :: xS_10 22 :: xS_10 23 :: xS_10 24 :: xS_10 25 :: xS_10 26 :: .int iLvS_13 :: .int iWsS_14 :: xS_10 29 :: xS_10 30 :: xS_10 31 :: xS_10 32 :: xS_10 33 :: xS_10 34 :: []) :: _ :: zzI cy (rSB_6 0) 4 (bkR tA 0) :: zzI cy (rSB_6 1) 4 (bkR tA 1) :: zzI cy (rSB_6 2) 4 (bkR tA 2) :: zzI cy (rSB_6 3) 4 (bkR tA 3) :: zzI cy (rSB_6 4) 4 (bkR tA 4) :: zzI cy (rSB_6 5) 4 (bkR tA 5) :: zzI cy (rSB_6 6) 4 (bkR tA 6) :: zzI cy (rSB_6 7) 4 (bkR tA 7) :: _ :: zzI cy (rSO_7 0) 5 (onR tA 0) :: zzI cy (rSO_7 1) 5 (onR tA 1) :: zzI cy (rSO_7 2) 5 (onR tA 2) :: zzI cy (rSO_7 3) 5 (onR tA 3) :: zzI cy (rSO_7 4) 5 (onR tA 4) :: zzI cy (rSO_7 5) 5 (onR tA 5) :: zzI cy (rSO_7 6) 5 (onR tA 6) :: zzI cy (rSO_7 7) 5 (onR tA 7) :: _ :: zzI cy (rSK_8 0) 8 (T_kn tA 0) :: zzI cy (rSK_8 1) 8 (T_kn tA 1) :: zzI cy (rSK_8 2) 8 (T_kn tA 2) :: zzI cy (rSK_8 3) 8 (T_kn tA 3) :: zzI cy (rSK_8 4) 8 (T_kn tA 4) :: zzI cy (rSK_8 5) 8 (T_kn tA 5) :: zzI cy (rSK_8 6) 8 (T_kn tA 6) :: zzI cy (rSK_8 7) 8 (T_kn tA 7) :: zzO qm 5 (.ref qmh :: .ref qmo :: .ref qmz :: .ref qmR :: .ref qmv :: .ref qmk :: .ref qma :: .ref qmt :: .int (nI kZ) :: .ref qmr :: .int (nI (T_nb tA)) :: .ref qmB :: .int (nI (T_np tA)) :: .ref qmO :: .ref qmK :: .int iEn :: .int iTk :: .int (T_sd tA) :: ov uP :: ov uU :: .int (nI kAt) :: .int iTo :: .int iFr :: .long JFi :: .int iFa :: .ref qm3 :: .int iSt :: .int iLv :: .int iWs :: vLa :: .ref qmu :: .ref qmy :: .ref qmb :: .ref qms :: .int xM_95 :: []) :: _ :: _ :: _ :: _ :: _ :: _ :: _ :: _ :: _ :: _ :: _ :: _ :: _ :: _ :: _ :: _ :: _ :: _ :: _ :: _ :: _ :: _ :: _ :: _ :: _ :: _ :: _ :: []) : va_W) ++ (oM cy uJ1_98 ++ (oM cy uJ2_99 ++ (oM cy uJ3_100 ++ oM cy uJ4_101)))) hP hD h_115 rfl
              clear hP hD h_115
              obtain ⟨hP, hD⟩ := hPD
              refine lv_aload_n hx hb (g_42 bX6_rowsFrom rfl) rfl (lv_at hl 1 rfl) ?_
              refine va_get (D := G) (ci := 5) (v := .ref qms) (C := RX6) (T := TX6) (N := 35) hx hb hts iX_X6 hown hK hP 32 rfl rfl 33 (by decide +kernel) (hts _ m_t883) (fun _ h9 => h9) rfl (g_180 (v := 67) bX6_rowsFrom rfl) ?_
              refine lv_iload_n hx hb (g_29 bX6_rowsFrom rfl) rfl (lv_at hl 4 rfl) ?_
              refine va_aldq hx hb hK hP 3 5 rfl rfl (in_c rfl) (g_50 bX6_rowsFrom rfl) ?_
              refine lv_setv (v := .ref qS_2) ((congrArg (fun z => va_rf (sF (some qS_2) (refU uJ1_98) (refU uJ2_99) (refU uJ3_100) (refU uJ4_101) z)) (show Int32.toNatClampNeg 0 = 0 by decide +kernel)).trans rfl) ?_
              refine lv_iload_n hx hb (g_28 bX6_rowsFrom rfl) rfl (lv_at hl 3 rfl) ?_
              refine lv_aload_n hx hb (g_42 bX6_rowsFrom rfl) rfl (lv_at hl 1 rfl) ?_
              refine va_get (D := G) (ci := 5) (v := .ref qmu) (C := RX6) (T := TX6) (N := 35) hx hb hts iX_X6 hown hK hP 32 rfl rfl 30 (by decide +kernel) (hts _ m_t880) (fun _ h9 => h9) rfl (g_180 (v := 58) bX6_rowsFrom rfl) ?_
              refine lv_iload hx hb (g_21 (v := 6) bX6_rowsFrom rfl) (lv_at hl 0 rfl) ?_
              refine va_iald hx hb hK hP 0 0 rfl rfl (in8 (by omega)) (g_46 bX6_rowsFrom rfl) ?_
              refine lv_seti (v := fMu kk_91) (congrArg fMu (cl8 (by omega))) ?_
              obtain ⟨k_117, hk_118, ek_119⟩ := hUn kk_91 (by omega)
              refine lv_seti (v := nI k_117) ek_119 ?_
              refine cVvQ (As := [.int (nI kI), .int (nI k_117)]) (rest := []) (b := qS_2) (q := (RX6, TX6, 35)) ⟨hx, hb, hml, hown, hts⟩ (c_X6_reads l G cy (H).size qS_2 (xS_10 0) (xS_10 1) (xS_10 2) (xS_10 3) (xS_10 4) (xS_10 5) (xS_10 6) (xS_10 7) (xS_10 8) (xS_10 9) tA qSB_3 qSO_4 qSK_5 iEn iTk (xS_10 18) (xS_10 19) (xS_10 20) (xS_10 21) (xS_10 22) (xS_10 23) (xS_10 24) (xS_10 25) (xS_10 26) iLvS_13 iWsS_14 (xS_10 29) (xS_10 30) (xS_10 31) (xS_10 32) (xS_10 33) (xS_10 34) rSB_6 rSO_7 rSK_8 kI k_117 hI (by first | omega | (simp only [nb_sr, np_sr, nb_wr, np_wr, nb_rd, np_rd, nb_ch, np_ch, nb_zr, np_zr, nb_za, np_za, nb_ey, np_ey, nb_hf, np_hf, nb_dd, np_dd, nb_so, np_so, nb_skn, np_skn, nb_swh, np_swh, nb_sgn, np_sgn, nb_ssd, np_ssd, nb_sgo, np_sgo, nb_sag, np_sag]; omega))) L_X6_257 hN hP hD hS hA (trueIx 0 [false, false, false, false, true, true, true, true, true, true, true, true, true, true, true, true, true, true, true, true, true, true, true, true, true, true, true, true, true, true, true, true]) (true :: true :: true :: true :: false :: false :: false :: false :: false :: false :: false :: false :: false :: false :: false :: false :: false :: false :: false :: false :: false :: false :: false :: false :: false :: false :: false :: false :: false :: false :: false :: false :: true :: true :: true :: true :: true :: true :: true :: true :: true :: true :: true :: true :: true :: true :: true :: true :: true :: true :: true :: true :: true :: true :: true :: true :: true :: true :: true :: true :: []) (sel_eq rfl rfl) (by decide +kernel) rfl 4 5 rfl rfl rfl ⟨Nat.le_of_ble_eq_true rfl, Nat.le_of_ble_eq_true rfl⟩ hl.1 (Nat.le_of_ble_eq_true rfl) (g_182 (v := 257) bX6_rowsFrom rfl) ⟨by show xc_102 + 0 ≤ 250; omega, by show yc_103 + 0 ≤ 4440; omega⟩ (fun u_122 H locs h_121 => ?_)
              clear hP hD hS
              intro hP hD hS
              have hPD := pd_eqQ (((_ :: _ :: _ :: _ :: _ :: _ :: _ :: _ :: _ :: _ :: _ :: _ :: _ :: _ :: _ :: _ :: _ :: _ :: _ :: _ :: _ :: _ :: _ :: _ :: _ :: _ :: _ :: _ :: _ :: _ :: _ :: _ :: zzO qS_2 5 (xS_10 0 :: xS_10 1 :: xS_10 2 :: xS_10 3 :: xS_10 4 :: xS_10 5 :: xS_10 6 :: xS_10 7 :: xS_10 8 :: xS_10 9 :: .int (nI (T_nb (rdT tA kI k_117))) :: .ref qSB_3 :: .int (nI (T_np (rdT tA kI k_117))) :: .ref qSO_4 :: .ref qSK_5 :: .int iEn :: .int iTk :: .int (T_sd (rdT tA kI k_117)) :: xS_10 18 :: xS_10 19 :: xS_10 20 :: xS_10 21 :: xS_10 22 :: xS_10 23 :: xS_10 24 :: xS_10 25 :: xS_10 26 :: .int iLvS_13 :: .int iWsS_14 :: xS_10 29 :: xS_10 30 :: xS_10 31 :: xS_10 32 :: xS_10 33 :: xS_10 34 :: []) :: _ :: zzI cy (rSB_6 0) 4 (bkR (rdT tA kI k_117) 0) :: zzI cy (rSB_6 1) 4 (bkR (rdT tA kI k_117) 1) :: zzI cy (rSB_6 2) 4 (bkR (rdT tA kI k_117) 2) :: zzI cy (rSB_6 3) 4 (bkR (rdT tA kI k_117) 3) :: zzI cy (rSB_6 4) 4 (bkR (rdT tA kI k_117) 4) :: zzI cy (rSB_6 5) 4 (bkR (rdT tA kI k_117) 5) :: zzI cy (rSB_6 6) 4 (bkR (rdT tA kI k_117) 6) :: zzI cy (rSB_6 7) 4 (bkR (rdT tA kI k_117) 7) :: _ :: zzI cy (rSO_7 0) 5 (onR (rdT tA kI k_117) 0) :: zzI cy (rSO_7 1) 5 (onR (rdT tA kI k_117) 1) :: zzI cy (rSO_7 2) 5 (onR (rdT tA kI k_117) 2) :: zzI cy (rSO_7 3) 5 (onR (rdT tA kI k_117) 3) :: zzI cy (rSO_7 4) 5 (onR (rdT tA kI k_117) 4) :: zzI cy (rSO_7 5) 5 (onR (rdT tA kI k_117) 5) :: zzI cy (rSO_7 6) 5 (onR (rdT tA kI k_117) 6) :: zzI cy (rSO_7 7) 5 (onR (rdT tA kI k_117) 7) :: _ :: zzI cy (rSK_8 0) 8 (T_kn (rdT tA kI k_117) 0) :: zzI cy (rSK_8 1) 8 (T_kn (rdT tA kI k_117) 1) :: zzI cy (rSK_8 2) 8 (T_kn (rdT tA kI k_117) 2) :: zzI cy (rSK_8 3) 8 (T_kn (rdT tA kI k_117) 3) :: zzI cy (rSK_8 4) 8 (T_kn (rdT tA kI k_117) 4) :: zzI cy (rSK_8 5) 8 (T_kn (rdT tA kI k_117) 5) :: zzI cy (rSK_8 6) 8 (T_kn (rdT tA kI k_117) 6) :: zzI cy (rSK_8 7) 8 (T_kn (rdT tA kI k_117) 7) :: []) : va_W) ++ (oM cy uJ1_98 ++ (oM cy uJ2_99 ++ (oM cy uJ3_100 ++ oM cy uJ4_101)))) hP hD h_121 rfl
              clear hP hD h_121
              obtain ⟨hP, hD⟩ := hPD
              refine lv_aload_n hx hb (g_42 bX6_rowsFrom rfl) rfl (lv_at hl 1 rfl) ?_
              refine va_get (D := G) (ci := 5) (v := .ref qmy) (C := RX6) (T := TX6) (N := 35) hx hb hts iX_X6 hown hK hP 4 rfl rfl 31 (by decide +kernel) (hts _ m_t881) (fun _ h9 => h9) rfl (g_180 (v := 61) bX6_rowsFrom rfl) ?_
              refine lv_iload_n hx hb (g_29 bX6_rowsFrom rfl) rfl (lv_at hl 4 rfl) ?_
              refine lv_aload_n hx hb (g_42 bX6_rowsFrom rfl) rfl (lv_at hl 1 rfl) ?_
              refine va_get (D := G) (ci := 5) (v := .ref qmu) (C := RX6) (T := TX6) (N := 35) hx hb hts iX_X6 hown hK hP 4 rfl rfl 30 (by decide +kernel) (hts _ m_t880) (fun _ h9 => h9) rfl (g_180 (v := 58) bX6_rowsFrom rfl) ?_
              refine lv_iload hx hb (g_21 (v := 6) bX6_rowsFrom rfl) (lv_at hl 0 rfl) ?_
              refine va_iald hx hb hK hP 0 0 rfl rfl (in8 (by omega)) (g_46 bX6_rowsFrom rfl) ?_
              refine lv_seti (v := fMu kk_91) (congrArg fMu (cl8 (by omega))) ?_
              refine va_iast hx hb hK hP hD hS 1 0 rfl rfl (in_c rfl) (g_79 bX6_rowsFrom rfl) (fun H locs => ?_)
              clear hP hD hS
              intro hP hD hS
              have hPD := pd_as (((_ :: zzI cy qmy 5 (upd fY_93 0 (fMu kk_91)) :: _ :: _ :: _ :: _ :: _ :: _ :: _ :: _ :: _ :: _ :: _ :: _ :: _ :: _ :: _ :: _ :: _ :: _ :: _ :: _ :: _ :: _ :: _ :: _ :: _ :: _ :: _ :: _ :: _ :: _ :: _ :: _ :: _ :: _ :: _ :: _ :: _ :: _ :: _ :: _ :: _ :: _ :: _ :: _ :: _ :: _ :: _ :: _ :: _ :: _ :: _ :: _ :: _ :: _ :: _ :: _ :: _ :: _ :: []) : va_W) ++ (oM cy uJ1_98 ++ (oM cy uJ2_99 ++ (oM cy uJ3_100 ++ oM cy uJ4_101)))) hP hD rfl
              clear hP hD
              obtain ⟨hP, hD⟩ := hPD
              refine lv_aload_n hx hb (g_42 bX6_rowsFrom rfl) rfl (lv_at hl 1 rfl) ?_
              refine lv_aload_n hx hb (g_42 bX6_rowsFrom rfl) rfl (lv_at hl 1 rfl) ?_
              refine va_get (D := G) (ci := 5) (v := .ref qms) (C := RX6) (T := TX6) (N := 35) hx hb hts iX_X6 hown hK hP 4 rfl rfl 33 (by decide +kernel) (hts _ m_t883) (fun _ h9 => h9) rfl (g_180 (v := 67) bX6_rowsFrom rfl) ?_
              refine lv_iload_n hx hb (g_29 bX6_rowsFrom rfl) rfl (lv_at hl 4 rfl) ?_
              refine va_aldq hx hb hK hP 3 5 rfl rfl (in_c rfl) (g_50 bX6_rowsFrom rfl) ?_
              refine lv_setv (v := .ref qS_2) ((congrArg (fun z => va_rf (sF (some qS_2) (refU uJ1_98) (refU uJ2_99) (refU uJ3_100) (refU uJ4_101) z)) (show Int32.toNatClampNeg 0 = 0 by decide +kernel)).trans rfl) ?_
              refine lv_iload_n hx hb (g_28 bX6_rowsFrom rfl) rfl (lv_at hl 3 rfl) ?_
              refine lv_iload_n hx hb (g_29 bX6_rowsFrom rfl) rfl (lv_at hl 4 rfl) ?_
              refine lv_iconst (v := 1) hx hb (g_4 bX6_rowsFrom rfl) (by decide +kernel) ?_
              refine lv_iadd hx hb (g_96 bX6_rowsFrom rfl) ?_
              refine lv_seti (v := 1) (by decide +kernel) ?_
              refine lv_iload hx hb (g_21 (v := 4) bX6_rowsFrom rfl) (lv_at hl 5 rfl) ?_
              refine lv_iload hx hb (g_21 (v := 5) bX6_rowsFrom rfl) (lv_at hl 6 rfl) ?_
              refine lv_iconst (v := 1) hx hb (g_4 bX6_rowsFrom rfl) (by decide +kernel) ?_
              refine lv_iload hx hb (g_21 (v := 6) bX6_rowsFrom rfl) (lv_at hl 0 rfl) ?_
              refine lv_ishl hx hb (g_120 bX6_rowsFrom rfl) ?_
              refine lv_ior hx hb (g_128 bX6_rowsFrom rfl) ?_
              have hu_123 := us_or hU32 (show kk_91 < 5 by omega) c_113
              refine lv_seti (v := nI (kU ||| 2 ^ kk_91)) hu_123.1 ?_
              have hu_123c := hu_123.2.2 kM hM5 (by omega)
              rcases hC_105 with ⟨e_124, e_125, e_126⟩ | ⟨e_124, e_125, e_126⟩
              · subst e_124
                subst e_125
                refine cVvP (As := [.ref qS_2, .int (nI kI), .int 1, .int (nI kM), .int (nI (kU ||| 2 ^ kk_91))]) (rest := []) (b := qm) (q := (RX6, TX6, 35)) ⟨hx, hb, hml, hown, hts⟩ (c_X6_rows1 l G cy (H).size qm qmh qmo qmz qmR qmv qmk qma qmt kZ qmr tA qmB qmO qmK iEn iTk uP uU kAt iTo iFr JFi iFa qm3 iSt iLv iWs vLa qmu qmy qmb qms xM_95 rB fMu (upd fY_93 0 (fMu kk_91)) fB_94 (some qS_2) uJ1_98 uJ2_99 uJ3_100 uJ4_101 qS_2 (xS_10 0) (xS_10 1) (xS_10 2) (xS_10 3) (xS_10 4) (xS_10 5) (xS_10 6) (xS_10 7) (xS_10 8) (xS_10 9) (rdT tA kI k_117) qSB_3 qSO_4 qSK_5 iEn iTk (xS_10 18) (xS_10 19) (xS_10 20) (xS_10 21) (xS_10 22) (xS_10 23) (xS_10 24) (xS_10 25) (xS_10 26) iLvS_13 iWsS_14 (xS_10 29) (xS_10 30) (xS_10 31) (xS_10 32) (xS_10 33) (xS_10 34) rSB_6 rSO_7 rSK_8 kI kM (kU ||| 2 ^ kk_91) hI hM5 (by first | omega | (simp only [nb_sr, np_sr, nb_wr, np_wr, nb_rd, np_rd, nb_ch, np_ch, nb_zr, np_zr, nb_za, np_za, nb_ey, np_ey, nb_hf, np_hf, nb_dd, np_dd, nb_so, np_so, nb_skn, np_skn, nb_swh, np_swh, nb_sgn, np_sgn, nb_ssd, np_ssd, nb_sgo, np_sgo, nb_sag, np_sag]; omega)) (by first | omega | (simp only [nb_sr, np_sr, nb_wr, np_wr, nb_rd, np_rd, nb_ch, np_ch, nb_zr, np_zr, nb_za, np_za, nb_ey, np_ey, nb_hf, np_hf, nb_dd, np_dd, nb_so, np_so, nb_skn, np_skn, nb_swh, np_swh, nb_sgn, np_sgn, nb_ssd, np_ssd, nb_sgo, np_sgo, nb_sag, np_sag]; omega)) (by first | omega | (simp only [nb_sr, np_sr, nb_wr, np_wr, nb_rd, np_rd, nb_ch, np_ch, nb_zr, np_zr, nb_za, np_za, nb_ey, np_ey, nb_hf, np_hf, nb_dd, np_dd, nb_so, np_so, nb_skn, np_skn, nb_swh, np_swh, nb_sgn, np_sgn, nb_ssd, np_ssd, nb_sgo, np_sgo, nb_sag, np_sag]; omega)) hB hUn) L_X6_326 hN hP hD hS hA (trueIxs [[false, false, false, false, true, true, true, true, true, true, true, true, true, true], (true :: true :: true :: true :: false :: false :: false :: false :: false :: false :: false :: false :: false :: false :: false :: false :: false :: false :: false :: false :: false :: false :: false :: false :: false :: false :: false :: false :: false :: false :: false :: false :: true :: true :: true :: true :: true :: true :: true :: true :: true :: true :: true :: true :: true :: true :: true :: true :: true :: true :: true :: true :: true :: true :: true :: true :: true :: true :: true :: true :: [])]) (false :: false :: false :: false :: false :: false :: false :: false :: false :: false :: false :: false :: false :: false :: true :: true :: true :: true :: true :: true :: true :: true :: true :: true :: true :: true :: true :: true :: true :: true :: true :: true :: false :: false :: false :: false :: false :: false :: false :: false :: false :: false :: false :: false :: false :: false :: false :: false :: false :: false :: false :: false :: false :: false :: false :: false :: false :: false :: false :: false :: []) (sels_eq rfl rfl) (by decide +kernel) rfl 4 5 rfl rfl rfl ⟨Nat.le_of_ble_eq_true rfl, Nat.le_of_ble_eq_true rfl⟩ hl.1 (Nat.le_of_ble_eq_true rfl) (g_182 (v := 326) bX6_rowsFrom rfl) ⟨Nat.le_of_ble_eq_true rfl, Nat.le_of_ble_eq_true rfl⟩ (fun u_129 H locs h_128 => ?_)
                clear hP hD hS
                intro hP hD hS
                obtain ⟨iNm_130, fNy_131, fNb_132, uN_133, uN_134, uN_135, uN_136, rfl, h_137⟩ := h_128
                replace hP := al_P hP
                replace hD := al_D hD
                have hPD := pd_as (((_ :: _ :: _ :: _ :: _ :: _ :: _ :: _ :: _ :: _ :: _ :: _ :: _ :: _ :: _ :: _ :: _ :: _ :: zzO qm 5 (.ref qmh :: .ref qmo :: .ref qmz :: .ref qmR :: .ref qmv :: .ref qmk :: .ref qma :: .ref qmt :: .int (nI kZ) :: .ref qmr :: .int (nI (T_nb tA)) :: .ref qmB :: .int (nI (T_np tA)) :: .ref qmO :: .ref qmK :: .int iEn :: .int iTk :: .int (T_sd tA) :: ov uP :: ov uU :: .int (nI kAt) :: .int iTo :: .int iFr :: .long JFi :: .int iFa :: .ref qm3 :: .int iSt :: .int iLv :: .int iWs :: vLa :: .ref qmu :: .ref qmy :: .ref qmb :: .ref qms :: .int iNm_130 :: []) :: _ :: _ :: _ :: _ :: _ :: _ :: _ :: _ :: _ :: _ :: zzI cy qmy 5 fNy_131 :: zzI cy qmb 5 fNb_132 :: zzQ cy 5 qms 6 (sF (some qS_2) (refU uN_133) (refU uN_134) (refU uN_135) (refU uN_136)) :: _ :: _ :: _ :: _ :: _ :: _ :: _ :: _ :: _ :: _ :: _ :: _ :: _ :: _ :: _ :: _ :: _ :: _ :: _ :: _ :: _ :: _ :: _ :: _ :: _ :: _ :: _ :: _ :: []) : va_W) ++ (oM cy uN_133 ++ (oM cy uN_134 ++ (oM cy uN_135 ++ oM cy uN_136)))) hP hD rfl
                clear hP hD
                obtain ⟨hP, hD⟩ := hPD
                refine W.widen (k := 200) (n := 3552) (Nat.le_of_ble_eq_true rfl) (Nat.le_of_ble_eq_true rfl) ?_
                refine lv_iinc (v := nI (kk_91 + 1)) (lv' := [(6, .int (nI (kk_91 + 1))), (0, .ref qm), (1, .ref qm), (2, .int (nI kI)), (3, .int 0), (4, .int (nI kM)), (5, .int (nI kU))]) hx hb dX6_rowsFrom_202 hl (k := 0) rfl (nI_1 _) (by decide +kernel) rfl (fun ls => ?_)
                clear hl
                intro hl
                refine lv_goto (tgt := 122) hx hb dX6_rowsFrom_205 (by decide +kernel) ?_
                exact ih_90 (kk_91 + 1) (rdT tA kI k_117) fNy_131 fNb_132 iNm_130 iEn iTk uN_133 uN_134 uN_135 uN_136 200 3552 (by omega) (by omega) (Or.inr ⟨rfl, rfl, h_137⟩) _ _ _ (pPt hP [[false, false, false, false, false, false, false, false, false, false, false, false, false, false, false, false, false, false, true, true, true, true, true, true, true, true, true, true], (true :: true :: true :: true :: true :: true :: true :: true :: true :: true :: true :: true :: true :: true :: true :: true :: true :: true :: false :: false :: false :: false :: false :: false :: false :: false :: false :: false :: true :: true :: true :: true :: true :: true :: true :: true :: true :: true :: true :: true :: true :: true :: true :: true :: true :: true :: true :: true :: true :: true :: true :: true :: true :: true :: true :: true :: true :: true :: true :: true :: [])] rfl rfl) (dPt hD [[false, false, false, false, false, false, false, false, false, false, false, false, false, false, false, false, false, false, true, true, true, true, true, true, true, true, true, true], (true :: true :: true :: true :: true :: true :: true :: true :: true :: true :: true :: true :: true :: true :: true :: true :: true :: true :: false :: false :: false :: false :: false :: false :: false :: false :: false :: false :: true :: true :: true :: true :: true :: true :: true :: true :: true :: true :: true :: true :: true :: true :: true :: true :: true :: true :: true :: true :: true :: true :: true :: true :: true :: true :: true :: true :: true :: true :: true :: true :: [])] (by decide +kernel) rfl rfl) hS (lv_sub hl [0, 1, 2, 3, 4, 5, 6] rfl)
              · subst e_124
                subst e_125
                refine cVvP (As := [.ref qS_2, .int (nI kI), .int 1, .int (nI kM), .int (nI (kU ||| 2 ^ kk_91))]) (rest := []) (b := qm) (q := (RX6, TX6, 35)) ⟨hx, hb, hml, hown, hts⟩ (c_X6_rows1r l G cy (H).size qm qmh qmo qmz qmR qmv qmk qma qmt kZ qmr tA qmB qmO qmK iEn iTk uP uU kAt iTo iFr JFi iFa qm3 iSt iLv iWs vLa qmu qmy qmb qms xM_95 rB fMu (upd fY_93 0 (fMu kk_91)) fB_94 (some qS_2) uJ1_98 uJ2_99 uJ3_100 uJ4_101 qS_2 (xS_10 0) (xS_10 1) (xS_10 2) (xS_10 3) (xS_10 4) (xS_10 5) (xS_10 6) (xS_10 7) (xS_10 8) (xS_10 9) (rdT tA kI k_117) qSB_3 qSO_4 qSK_5 iEn iTk (xS_10 18) (xS_10 19) (xS_10 20) (xS_10 21) (xS_10 22) (xS_10 23) (xS_10 24) (xS_10 25) (xS_10 26) iLvS_13 iWsS_14 (xS_10 29) (xS_10 30) (xS_10 31) (xS_10 32) (xS_10 33) (xS_10 34) rSB_6 rSO_7 rSK_8 kI kM (kU ||| 2 ^ kk_91) hI hM5 (by first | omega | (simp only [nb_sr, np_sr, nb_wr, np_wr, nb_rd, np_rd, nb_ch, np_ch, nb_zr, np_zr, nb_za, np_za, nb_ey, np_ey, nb_hf, np_hf, nb_dd, np_dd, nb_so, np_so, nb_skn, np_skn, nb_swh, np_swh, nb_sgn, np_sgn, nb_ssd, np_ssd, nb_sgo, np_sgo, nb_sag, np_sag]; omega)) (by first | omega | (simp only [nb_sr, np_sr, nb_wr, np_wr, nb_rd, np_rd, nb_ch, np_ch, nb_zr, np_zr, nb_za, np_za, nb_ey, np_ey, nb_hf, np_hf, nb_dd, np_dd, nb_so, np_so, nb_skn, np_skn, nb_swh, np_swh, nb_sgn, np_sgn, nb_ssd, np_ssd, nb_sgo, np_sgo, nb_sag, np_sag]; omega)) (by first | omega | (simp only [nb_sr, np_sr, nb_wr, np_wr, nb_rd, np_rd, nb_ch, np_ch, nb_zr, np_zr, nb_za, np_za, nb_ey, np_ey, nb_hf, np_hf, nb_dd, np_dd, nb_so, np_so, nb_skn, np_skn, nb_swh, np_swh, nb_sgn, np_sgn, nb_ssd, np_ssd, nb_sgo, np_sgo, nb_sag, np_sag]; omega)) hB hUn e_126) L_X6_326 hN hP hD hS hA (trueIxs [[false, false, false, false, true, true, true, true, true, true, true, true, true, true], (true :: true :: true :: true :: false :: false :: false :: false :: false :: false :: false :: false :: false :: false :: false :: false :: false :: false :: false :: false :: false :: false :: false :: false :: false :: false :: false :: false :: false :: false :: false :: false :: true :: true :: true :: true :: true :: true :: true :: true :: true :: true :: true :: true :: true :: true :: true :: true :: true :: true :: true :: true :: true :: true :: true :: true :: true :: true :: true :: true :: [])]) (false :: false :: false :: false :: false :: false :: false :: false :: false :: false :: false :: false :: false :: false :: true :: true :: true :: true :: true :: true :: true :: true :: true :: true :: true :: true :: true :: true :: true :: true :: true :: true :: false :: false :: false :: false :: false :: false :: false :: false :: false :: false :: false :: false :: false :: false :: false :: false :: false :: false :: false :: false :: false :: false :: false :: false :: false :: false :: false :: false :: []) (sels_eq rfl rfl) (by decide +kernel) rfl 4 5 rfl rfl rfl ⟨Nat.le_of_ble_eq_true rfl, Nat.le_of_ble_eq_true rfl⟩ hl.1 (Nat.le_of_ble_eq_true rfl) (g_182 (v := 326) bX6_rowsFrom rfl) ⟨Nat.le_of_ble_eq_true rfl, Nat.le_of_ble_eq_true rfl⟩ (fun u_140 H locs h_139 => ?_)
                clear hP hD hS
                intro hP hD hS
                obtain ⟨iNm_141, fNy_142, fNb_143, uN_144, uN_145, uN_146, uN_147, rfl, h_148⟩ := h_139
                replace hP := al_P hP
                replace hD := al_D hD
                have hPD := pd_as (((_ :: _ :: _ :: _ :: _ :: _ :: _ :: _ :: _ :: _ :: _ :: _ :: _ :: _ :: _ :: _ :: _ :: _ :: zzO qm 5 (.ref qmh :: .ref qmo :: .ref qmz :: .ref qmR :: .ref qmv :: .ref qmk :: .ref qma :: .ref qmt :: .int (nI kZ) :: .ref qmr :: .int (nI (T_nb tA)) :: .ref qmB :: .int (nI (T_np tA)) :: .ref qmO :: .ref qmK :: .int iEn :: .int iTk :: .int (T_sd tA) :: ov uP :: ov uU :: .int (nI kAt) :: .int iTo :: .int iFr :: .long JFi :: .int iFa :: .ref qm3 :: .int iSt :: .int iLv :: .int iWs :: vLa :: .ref qmu :: .ref qmy :: .ref qmb :: .ref qms :: .int iNm_141 :: []) :: _ :: _ :: _ :: _ :: _ :: _ :: _ :: _ :: _ :: _ :: zzI cy qmy 5 fNy_142 :: zzI cy qmb 5 fNb_143 :: zzQ cy 5 qms 6 (sF (some qS_2) (refU uN_144) (refU uN_145) (refU uN_146) (refU uN_147)) :: _ :: _ :: _ :: _ :: _ :: _ :: _ :: _ :: _ :: _ :: _ :: _ :: _ :: _ :: _ :: _ :: _ :: _ :: _ :: _ :: _ :: _ :: _ :: _ :: _ :: _ :: _ :: _ :: []) : va_W) ++ (oM cy uN_144 ++ (oM cy uN_145 ++ (oM cy uN_146 ++ oM cy uN_147)))) hP hD rfl
                clear hP hD
                obtain ⟨hP, hD⟩ := hPD
                refine lv_iinc (v := nI (kk_91 + 1)) (lv' := [(6, .int (nI (kk_91 + 1))), (0, .ref qm), (1, .ref qm), (2, .int (nI kI)), (3, .int 0), (4, .int (nI kM)), (5, .int (nI kU))]) hx hb dX6_rowsFrom_202 hl (k := 0) rfl (nI_1 _) (by decide +kernel) rfl (fun ls => ?_)
                clear hl
                intro hl
                refine lv_goto (tgt := 122) hx hb dX6_rowsFrom_205 (by decide +kernel) ?_
                exact ih_90 (kk_91 + 1) (rdT tA kI k_117) fNy_142 fNb_143 iNm_141 iEn iTk uN_144 uN_145 uN_146 uN_147 200 3552 (by omega) (by omega) (Or.inr ⟨rfl, rfl, h_148⟩) _ _ _ (pPt hP [[false, false, false, false, false, false, false, false, false, false, false, false, false, false, false, false, false, false, true, true, true, true, true, true, true, true, true, true], (true :: true :: true :: true :: true :: true :: true :: true :: true :: true :: true :: true :: true :: true :: true :: true :: true :: true :: false :: false :: false :: false :: false :: false :: false :: false :: false :: false :: true :: true :: true :: true :: true :: true :: true :: true :: true :: true :: true :: true :: true :: true :: true :: true :: true :: true :: true :: true :: true :: true :: true :: true :: true :: true :: true :: true :: true :: true :: true :: true :: [])] rfl rfl) (dPt hD [[false, false, false, false, false, false, false, false, false, false, false, false, false, false, false, false, false, false, true, true, true, true, true, true, true, true, true, true], (true :: true :: true :: true :: true :: true :: true :: true :: true :: true :: true :: true :: true :: true :: true :: true :: true :: true :: false :: false :: false :: false :: false :: false :: false :: false :: false :: false :: true :: true :: true :: true :: true :: true :: true :: true :: true :: true :: true :: true :: true :: true :: true :: true :: true :: true :: true :: true :: true :: true :: true :: true :: true :: true :: true :: true :: true :: true :: true :: true :: [])] (by decide +kernel) rfl rfl) hS (lv_sub hl [0, 1, 2, 3, 4, 5, 6] rfl)
      exact lp_88 ((5 - 0) + 1) 0 tS_9 fMy fMb iOm iEnS_11 iTkS_12 uS1 uS2 uS3 uS4 0 0 (Nat.lt_succ_self _) (Nat.zero_le _) (Or.inl ⟨rfl, rfl, rfl⟩) _ _ ls hP hD hS (lv_sub hl [0, 1, 2, 3, 4, 5, 6] rfl)
  · have heM : kM = 0 := (nI_inj (a := 0) (by omega) (by omega) c_1).symm
    refine lv_iconst (v := 0) hx hb (g_3 bX6_rowsFrom rfl) (by decide +kernel) ?_
    refine lv_istore (lv' := [(6, .int 0), (0, .ref qm), (1, .ref qm), (2, .int (nI kI)), (3, .int 0), (4, .int (nI kM)), (5, .int (nI kU))]) hx hb (g_54 (v := 6) bX6_rowsFrom rfl) hl (by decide +kernel) rfl (fun ls => ?_)
    clear hl
    intro hl
    refine lv_iconst (v := 0) hx hb (g_3 bX6_rowsFrom rfl) (by decide +kernel) ?_
    refine lv_istore (lv' := [(7, .int 0), (6, .int 0), (0, .ref qm), (1, .ref qm), (2, .int (nI kI)), (3, .int 0), (4, .int (nI kM)), (5, .int (nI kU))]) hx hb (g_54 (v := 7) bX6_rowsFrom rfl) hl (by decide +kernel) rfl (fun ls => ?_)
    clear hl
    intro hl
    have lp_149 : ∀ (n_150 : Nat) (j_152 : Nat) (x6_153 : Int32), 8 - j_152 < n_150 → j_152 ≤ T_nb tA → ∀ (H : Heap) (locs : List Loc) (ls : Array Slot), va_P G CL ([zzO qm 5 (.ref qmh :: .ref qmo :: .ref qmz :: .ref qmR :: .ref qmv :: .ref qmk :: .ref qma :: .ref qmt :: .int (nI kZ) :: .ref qmr :: .int (nI (T_nb tA)) :: .ref qmB :: .int (nI (T_np tA)) :: .ref qmO :: .ref qmK :: .int iEn :: .int iTk :: .int (T_sd tA) :: ov uP :: ov uU :: .int (nI kAt) :: .int iTo :: .int iFr :: .long JFi :: .int iFa :: .ref qm3 :: .int iSt :: .int iLv :: .int iWs :: vLa :: .ref qmu :: .ref qmy :: .ref qmb :: .ref qms :: .int iOm :: []), zzG cy 3 qmB rB, zzI cy (rB 0) 4 (bkR tA 0), zzI cy (rB 1) 4 (bkR tA 1), zzI cy (rB 2) 4 (bkR tA 2), zzI cy (rB 3) 4 (bkR tA 3), zzI cy (rB 4) 4 (bkR tA 4), zzI cy (rB 5) 4 (bkR tA 5), zzI cy (rB 6) 4 (bkR tA 6), zzI cy (rB 7) 4 (bkR tA 7), zzG cy 3 qmO rO, zzI cy (rO 0) 5 (onR tA 0), zzI cy (rO 1) 5 (onR tA 1), zzI cy (rO 2) 5 (onR tA 2), zzI cy (rO 3) 5 (onR tA 3), zzI cy (rO 4) 5 (onR tA 4), zzI cy (rO 5) 5 (onR tA 5), zzI cy (rO 6) 5 (onR tA 6), zzI cy (rO 7) 5 (onR tA 7), zzG cy 3 qmK rK, zzI cy (rK 0) 8 (T_kn tA 0), zzI cy (rK 1) 8 (T_kn tA 1), zzI cy (rK 2) 8 (T_kn tA 2), zzI cy (rK 3) 8 (T_kn tA 3), zzI cy (rK 4) 8 (T_kn tA 4), zzI cy (rK 5) 8 (T_kn tA 5), zzI cy (rK 6) 8 (T_kn tA 6), zzI cy (rK 7) 8 (T_kn tA 7), zzI cy qmu 8 fMu, zzI cy qmy 5 fMy, zzI cy qmb 5 fMb, zzQ cy 5 qms 6 (sF (refU uS0) (refU uS1) (refU uS2) (refU uS3) (refU uS4))] ++ (oM cy uS0 ++ (oM cy uS1 ++ (oM cy uS2 ++ (oM cy uS3 ++ oM cy uS4))))) H → va_D A ([zzO qm 5 (.ref qmh :: .ref qmo :: .ref qmz :: .ref qmR :: .ref qmv :: .ref qmk :: .ref qma :: .ref qmt :: .int (nI kZ) :: .ref qmr :: .int (nI (T_nb tA)) :: .ref qmB :: .int (nI (T_np tA)) :: .ref qmO :: .ref qmK :: .int iEn :: .int iTk :: .int (T_sd tA) :: ov uP :: ov uU :: .int (nI kAt) :: .int iTo :: .int iFr :: .long JFi :: .int iFa :: .ref qm3 :: .int iSt :: .int iLv :: .int iWs :: vLa :: .ref qmu :: .ref qmy :: .ref qmb :: .ref qms :: .int iOm :: []), zzG cy 3 qmB rB, zzI cy (rB 0) 4 (bkR tA 0), zzI cy (rB 1) 4 (bkR tA 1), zzI cy (rB 2) 4 (bkR tA 2), zzI cy (rB 3) 4 (bkR tA 3), zzI cy (rB 4) 4 (bkR tA 4), zzI cy (rB 5) 4 (bkR tA 5), zzI cy (rB 6) 4 (bkR tA 6), zzI cy (rB 7) 4 (bkR tA 7), zzG cy 3 qmO rO, zzI cy (rO 0) 5 (onR tA 0), zzI cy (rO 1) 5 (onR tA 1), zzI cy (rO 2) 5 (onR tA 2), zzI cy (rO 3) 5 (onR tA 3), zzI cy (rO 4) 5 (onR tA 4), zzI cy (rO 5) 5 (onR tA 5), zzI cy (rO 6) 5 (onR tA 6), zzI cy (rO 7) 5 (onR tA 7), zzG cy 3 qmK rK, zzI cy (rK 0) 8 (T_kn tA 0), zzI cy (rK 1) 8 (T_kn tA 1), zzI cy (rK 2) 8 (T_kn tA 2), zzI cy (rK 3) 8 (T_kn tA 3), zzI cy (rK 4) 8 (T_kn tA 4), zzI cy (rK 5) 8 (T_kn tA 5), zzI cy (rK 6) 8 (T_kn tA 6), zzI cy (rK 7) 8 (T_kn tA 7), zzI cy qmu 8 fMu, zzI cy qmy 5 fMy, zzI cy qmb 5 fMb, zzQ cy 5 qms 6 (sF (refU uS0) (refU uS1) (refU uS2) (refU uS3) (refU uS4))] ++ (oM cy uS0 ++ (oM cy uS1 ++ (oM cy uS2 ++ (oM cy uS3 ++ oM cy uS4))))) → va_S A s.heap H locs → lv_has ls 8 [(7, .int (nI j_152)), (6, .int x6_153), (0, .ref qm), (1, .ref qm), (2, .int (nI kI)), (3, .int 0), (4, .int (nI kM)), (5, .int (nI kU))] → W p l e (Rm 11 250 4440) s m (List.toArray (α := Value) [.ref qm, .ref qm, .int (nI kI), .int 0, .int (nI kM), .int (nI kU)]) below meth c H locs 0 0 (MQ below ((Wv G (fun u => ∃ (iNm : Int32) (fNy : Nat → Int32) (fNb : Nat → Int32) (uN0 : UM) (uN1 : UM) (uN2 : UM) (uN3 : UM) (uN4 : UM), u = ([zzO qm 5 (.ref qmh :: .ref qmo :: .ref qmz :: .ref qmR :: .ref qmv :: .ref qmk :: .ref qma :: .ref qmt :: .int (nI kZ) :: .ref qmr :: .int (nI (T_nb tA)) :: .ref qmB :: .int (nI (T_np tA)) :: .ref qmO :: .ref qmK :: .int iEn :: .int iTk :: .int (T_sd tA) :: ov uP :: ov uU :: .int (nI kAt) :: .int iTo :: .int iFr :: .long JFi :: .int iFa :: .ref qm3 :: .int iSt :: .int iLv :: .int iWs :: vLa :: .ref qmu :: .ref qmy :: .ref qmb :: .ref qms :: .int iNm :: []), zzG cy 3 qmB rB, zzI cy (rB 0) 4 (bkR tA 0), zzI cy (rB 1) 4 (bkR tA 1), zzI cy (rB 2) 4 (bkR tA 2), zzI cy (rB 3) 4 (bkR tA 3), zzI cy (rB 4) 4 (bkR tA 4), zzI cy (rB 5) 4 (bkR tA 5), zzI cy (rB 6) 4 (bkR tA 6), zzI cy (rB 7) 4 (bkR tA 7), zzG cy 3 qmO rO, zzI cy (rO 0) 5 (onR tA 0), zzI cy (rO 1) 5 (onR tA 1), zzI cy (rO 2) 5 (onR tA 2), zzI cy (rO 3) 5 (onR tA 3), zzI cy (rO 4) 5 (onR tA 4), zzI cy (rO 5) 5 (onR tA 5), zzI cy (rO 6) 5 (onR tA 6), zzI cy (rO 7) 5 (onR tA 7), zzG cy 3 qmK rK, zzI cy (rK 0) 8 (T_kn tA 0), zzI cy (rK 1) 8 (T_kn tA 1), zzI cy (rK 2) 8 (T_kn tA 2), zzI cy (rK 3) 8 (T_kn tA 3), zzI cy (rK 4) 8 (T_kn tA 4), zzI cy (rK 5) 8 (T_kn tA 5), zzI cy (rK 6) 8 (T_kn tA 6), zzI cy (rK 7) 8 (T_kn tA 7), zzI cy qmu 8 fMu, zzI cy qmy 5 fNy, zzI cy qmb 5 fNb, zzQ cy 5 qms 6 (sF (refU uN0) (refU uN1) (refU uN2) (refU uN3) (refU uN4))] ++ (oM cy uN0 ++ (oM cy uN1 ++ (oM cy uN2 ++ (oM cy uN3 ++ oM cy uN4))))) ∧ ((0 < kM → isS uN0 = true) ∧ (1 < kM → isS uN1 = true) ∧ (2 < kM → isS uN2 = true) ∧ (3 < kM → isS uN3 = true) ∧ (4 < kM → isS uN4 = true)))) A) (List.toArray (α := Value) [.ref qm, .ref qm, .int (nI kI), .int 0, .int (nI kM), .int (nI kU)]) s 250 4440 A) (F0 m 12 ls []) := by
      intro n_150
      induction n_150 with
      | zero => intro j_152 x6_153 hm9; exact absurd hm9 (Nat.not_lt_zero _)
      | succ n_150 ih_151 =>
        intro j_152 x6_153 hm_155 hj_154 H locs ls hP hD hS hl
        refine lv_iload hx hb (g_21 (v := 7) bX6_rowsFrom rfl) (lv_at hl 0 rfl) ?_
        refine lv_aload_n hx hb (g_42 bX6_rowsFrom rfl) rfl (lv_at hl 2 rfl) ?_
        refine va_get (D := G) (ci := 5) (v := .int (nI (T_nb tA))) (C := RX6) (T := TX6) (N := 35) hx hb hts iX_X6 hown hK hP 0 rfl rfl 10 (by decide +kernel) (hts _ m_t860) (fun _ h9 => h9) rfl (g_180 (v := 71) bX6_rowsFrom rfl) ?_
        refine lv_icmp_ge (tgt := 51) hx hb dX6_rowsFrom_18 (by decide +kernel) (fun c_156 => ?_) (fun c_156 => ?_)
        · have hlt_157 : j_152 = T_nb tA := Nat.le_antisymm (by omega) (lp_ge rfl rfl (by omega) (by omega) c_156)
          refine lv_iload hx hb (g_21 (v := 6) bX6_rowsFrom rfl) (lv_at hl 1 rfl) ?_
          refine lv_aload_n hx hb (g_42 bX6_rowsFrom rfl) rfl (lv_at hl 2 rfl) ?_
          refine va_get (D := G) (ci := 5) (v := .int iOm) (C := RX6) (T := TX6) (N := 35) hx hb hts iX_X6 hown hK hP 0 rfl rfl 34 (by decide +kernel) (hts _ m_t884) (fun _ h9 => h9) rfl (g_180 (v := 323) bX6_rowsFrom rfl) ?_
          refine lv_icmp_le (tgt := 96) hx hb dX6_rowsFrom_57 (by decide +kernel) (fun c_158 => ?_) (fun c_158 => ?_)
          · refine W.widen (k := 250) (n := 4440) (Nat.le_of_ble_eq_true rfl) (Nat.le_of_ble_eq_true rfl) ?_
            exact endVt [[true, true, true, true, true, true, true, true, true, true, true, true, true, true, true, true, true, true, true, true, true, true, true, true, true, true, true, true, true, true, true, true]] hx hb hr hlocks hP hD rfl (by decide +kernel) hS ⟨iOm, fMy, fMb, uS0, uS1, uS2, uS3, uS4, rfl, ⟨(fun q => by omega), (fun q => by omega), (fun q => by omega), (fun q => by omega), (fun q => by omega)⟩⟩ (g_177 bX6_rowsFrom rfl)
          · refine lv_aload_n hx hb (g_42 bX6_rowsFrom rfl) rfl (lv_at hl 2 rfl) ?_
            refine lv_iload hx hb (g_21 (v := 6) bX6_rowsFrom rfl) (lv_at hl 1 rfl) ?_
            refine va_put (D := G) (ci := 5) (v := .int x6_153) (ty := .int) (C := RX6) (T := TX6) (N := 35) hx hb hts iX_X6 tyX6 tyX6_ok nmX6 hown hK hP hD hS 0 rfl rfl 34 (by decide +kernel) (hts _ m_t884) (fun _ h9 => h9) rfl (by decide +kernel) rfl rfl (Nat.le_of_ble_eq_true rfl) (g_181 (v := 323) bX6_rowsFrom rfl) (fun H locs => ?_)
            clear hP hD hS
            intro hP hD hS
            have hPD := pd_as (([zzO qm 5 (.ref qmh :: .ref qmo :: .ref qmz :: .ref qmR :: .ref qmv :: .ref qmk :: .ref qma :: .ref qmt :: .int (nI kZ) :: .ref qmr :: .int (nI (T_nb tA)) :: .ref qmB :: .int (nI (T_np tA)) :: .ref qmO :: .ref qmK :: .int iEn :: .int iTk :: .int (T_sd tA) :: ov uP :: ov uU :: .int (nI kAt) :: .int iTo :: .int iFr :: .long JFi :: .int iFa :: .ref qm3 :: .int iSt :: .int iLv :: .int iWs :: vLa :: .ref qmu :: .ref qmy :: .ref qmb :: .ref qms :: .int x6_153 :: []), _, _, _, _, _, _, _, _, _, _, _, _, _, _, _, _, _, _, _, _, _, _, _, _, _, _, _, _, _, _, _] : va_W) ++ (oM cy uS0 ++ (oM cy uS1 ++ (oM cy uS2 ++ (oM cy uS3 ++ oM cy uS4))))) hP hD rfl
            clear hP hD
            obtain ⟨hP, hD⟩ := hPD
            refine lv_iconst (v := 0) hx hb (g_3 bX6_rowsFrom rfl) (by decide +kernel) ?_
            refine lv_istore (lv' := [(7, .int 0), (6, .int x6_153), (0, .ref qm), (1, .ref qm), (2, .int (nI kI)), (3, .int 0), (4, .int (nI kM)), (5, .int (nI kU))]) hx hb (g_54 (v := 7) bX6_rowsFrom rfl) hl (by decide +kernel) rfl (fun ls => ?_)
            clear hl
            intro hl
            have lp_159 : ∀ (n_160 : Nat) (j_162 : Nat) (fJ_163 : Nat → Int32), 5 - j_162 < n_160 → j_162 ≤ kM → ∀ (H : Heap) (locs : List Loc) (ls : Array Slot), va_P G CL ([zzO qm 5 (.ref qmh :: .ref qmo :: .ref qmz :: .ref qmR :: .ref qmv :: .ref qmk :: .ref qma :: .ref qmt :: .int (nI kZ) :: .ref qmr :: .int (nI (T_nb tA)) :: .ref qmB :: .int (nI (T_np tA)) :: .ref qmO :: .ref qmK :: .int iEn :: .int iTk :: .int (T_sd tA) :: ov uP :: ov uU :: .int (nI kAt) :: .int iTo :: .int iFr :: .long JFi :: .int iFa :: .ref qm3 :: .int iSt :: .int iLv :: .int iWs :: vLa :: .ref qmu :: .ref qmy :: .ref qmb :: .ref qms :: .int x6_153 :: []), zzG cy 3 qmB rB, zzI cy (rB 0) 4 (bkR tA 0), zzI cy (rB 1) 4 (bkR tA 1), zzI cy (rB 2) 4 (bkR tA 2), zzI cy (rB 3) 4 (bkR tA 3), zzI cy (rB 4) 4 (bkR tA 4), zzI cy (rB 5) 4 (bkR tA 5), zzI cy (rB 6) 4 (bkR tA 6), zzI cy (rB 7) 4 (bkR tA 7), zzG cy 3 qmO rO, zzI cy (rO 0) 5 (onR tA 0), zzI cy (rO 1) 5 (onR tA 1), zzI cy (rO 2) 5 (onR tA 2), zzI cy (rO 3) 5 (onR tA 3), zzI cy (rO 4) 5 (onR tA 4), zzI cy (rO 5) 5 (onR tA 5), zzI cy (rO 6) 5 (onR tA 6), zzI cy (rO 7) 5 (onR tA 7), zzG cy 3 qmK rK, zzI cy (rK 0) 8 (T_kn tA 0), zzI cy (rK 1) 8 (T_kn tA 1), zzI cy (rK 2) 8 (T_kn tA 2), zzI cy (rK 3) 8 (T_kn tA 3), zzI cy (rK 4) 8 (T_kn tA 4), zzI cy (rK 5) 8 (T_kn tA 5), zzI cy (rK 6) 8 (T_kn tA 6), zzI cy (rK 7) 8 (T_kn tA 7), zzI cy qmu 8 fMu, zzI cy qmy 5 fMy, zzI cy qmb 5 fJ_163, zzQ cy 5 qms 6 (sF (refU uS0) (refU uS1) (refU uS2) (refU uS3) (refU uS4))] ++ (oM cy uS0 ++ (oM cy uS1 ++ (oM cy uS2 ++ (oM cy uS3 ++ oM cy uS4))))) H → va_D A ([zzO qm 5 (.ref qmh :: .ref qmo :: .ref qmz :: .ref qmR :: .ref qmv :: .ref qmk :: .ref qma :: .ref qmt :: .int (nI kZ) :: .ref qmr :: .int (nI (T_nb tA)) :: .ref qmB :: .int (nI (T_np tA)) :: .ref qmO :: .ref qmK :: .int iEn :: .int iTk :: .int (T_sd tA) :: ov uP :: ov uU :: .int (nI kAt) :: .int iTo :: .int iFr :: .long JFi :: .int iFa :: .ref qm3 :: .int iSt :: .int iLv :: .int iWs :: vLa :: .ref qmu :: .ref qmy :: .ref qmb :: .ref qms :: .int x6_153 :: []), zzG cy 3 qmB rB, zzI cy (rB 0) 4 (bkR tA 0), zzI cy (rB 1) 4 (bkR tA 1), zzI cy (rB 2) 4 (bkR tA 2), zzI cy (rB 3) 4 (bkR tA 3), zzI cy (rB 4) 4 (bkR tA 4), zzI cy (rB 5) 4 (bkR tA 5), zzI cy (rB 6) 4 (bkR tA 6), zzI cy (rB 7) 4 (bkR tA 7), zzG cy 3 qmO rO, zzI cy (rO 0) 5 (onR tA 0), zzI cy (rO 1) 5 (onR tA 1), zzI cy (rO 2) 5 (onR tA 2), zzI cy (rO 3) 5 (onR tA 3), zzI cy (rO 4) 5 (onR tA 4), zzI cy (rO 5) 5 (onR tA 5), zzI cy (rO 6) 5 (onR tA 6), zzI cy (rO 7) 5 (onR tA 7), zzG cy 3 qmK rK, zzI cy (rK 0) 8 (T_kn tA 0), zzI cy (rK 1) 8 (T_kn tA 1), zzI cy (rK 2) 8 (T_kn tA 2), zzI cy (rK 3) 8 (T_kn tA 3), zzI cy (rK 4) 8 (T_kn tA 4), zzI cy (rK 5) 8 (T_kn tA 5), zzI cy (rK 6) 8 (T_kn tA 6), zzI cy (rK 7) 8 (T_kn tA 7), zzI cy qmu 8 fMu, zzI cy qmy 5 fMy, zzI cy qmb 5 fJ_163, zzQ cy 5 qms 6 (sF (refU uS0) (refU uS1) (refU uS2) (refU uS3) (refU uS4))] ++ (oM cy uS0 ++ (oM cy uS1 ++ (oM cy uS2 ++ (oM cy uS3 ++ oM cy uS4))))) → va_S A s.heap H locs → lv_has ls 8 [(7, .int (nI j_162)), (6, .int x6_153), (0, .ref qm), (1, .ref qm), (2, .int (nI kI)), (3, .int 0), (4, .int (nI kM)), (5, .int (nI kU))] → W p l e (Rm 11 250 4440) s m (List.toArray (α := Value) [.ref qm, .ref qm, .int (nI kI), .int 0, .int (nI kM), .int (nI kU)]) below meth c H locs 0 0 (MQ below ((Wv G (fun u => ∃ (iNm : Int32) (fNy : Nat → Int32) (fNb : Nat → Int32) (uN0 : UM) (uN1 : UM) (uN2 : UM) (uN3 : UM) (uN4 : UM), u = ([zzO qm 5 (.ref qmh :: .ref qmo :: .ref qmz :: .ref qmR :: .ref qmv :: .ref qmk :: .ref qma :: .ref qmt :: .int (nI kZ) :: .ref qmr :: .int (nI (T_nb tA)) :: .ref qmB :: .int (nI (T_np tA)) :: .ref qmO :: .ref qmK :: .int iEn :: .int iTk :: .int (T_sd tA) :: ov uP :: ov uU :: .int (nI kAt) :: .int iTo :: .int iFr :: .long JFi :: .int iFa :: .ref qm3 :: .int iSt :: .int iLv :: .int iWs :: vLa :: .ref qmu :: .ref qmy :: .ref qmb :: .ref qms :: .int iNm :: []), zzG cy 3 qmB rB, zzI cy (rB 0) 4 (bkR tA 0), zzI cy (rB 1) 4 (bkR tA 1), zzI cy (rB 2) 4 (bkR tA 2), zzI cy (rB 3) 4 (bkR tA 3), zzI cy (rB 4) 4 (bkR tA 4), zzI cy (rB 5) 4 (bkR tA 5), zzI cy (rB 6) 4 (bkR tA 6), zzI cy (rB 7) 4 (bkR tA 7), zzG cy 3 qmO rO, zzI cy (rO 0) 5 (onR tA 0), zzI cy (rO 1) 5 (onR tA 1), zzI cy (rO 2) 5 (onR tA 2), zzI cy (rO 3) 5 (onR tA 3), zzI cy (rO 4) 5 (onR tA 4), zzI cy (rO 5) 5 (onR tA 5), zzI cy (rO 6) 5 (onR tA 6), zzI cy (rO 7) 5 (onR tA 7), zzG cy 3 qmK rK, zzI cy (rK 0) 8 (T_kn tA 0), zzI cy (rK 1) 8 (T_kn tA 1), zzI cy (rK 2) 8 (T_kn tA 2), zzI cy (rK 3) 8 (T_kn tA 3), zzI cy (rK 4) 8 (T_kn tA 4), zzI cy (rK 5) 8 (T_kn tA 5), zzI cy (rK 6) 8 (T_kn tA 6), zzI cy (rK 7) 8 (T_kn tA 7), zzI cy qmu 8 fMu, zzI cy qmy 5 fNy, zzI cy qmb 5 fNb, zzQ cy 5 qms 6 (sF (refU uN0) (refU uN1) (refU uN2) (refU uN3) (refU uN4))] ++ (oM cy uN0 ++ (oM cy uN1 ++ (oM cy uN2 ++ (oM cy uN3 ++ oM cy uN4))))) ∧ ((0 < kM → isS uN0 = true) ∧ (1 < kM → isS uN1 = true) ∧ (2 < kM → isS uN2 = true) ∧ (3 < kM → isS uN3 = true) ∧ (4 < kM → isS uN4 = true)))) A) (List.toArray (α := Value) [.ref qm, .ref qm, .int (nI kI), .int 0, .int (nI kM), .int (nI kU)]) s 250 4440 A) (F0 m 69 ls []) := by
              intro n_160
              induction n_160 with
              | zero => intro j_162 fJ_163 hm9; exact absurd hm9 (Nat.not_lt_zero _)
              | succ n_160 ih_161 =>
                intro j_162 fJ_163 hm_165 hj_164 H locs ls hP hD hS hl
                refine lv_iload hx hb (g_21 (v := 7) bX6_rowsFrom rfl) (lv_at hl 0 rfl) ?_
                refine lv_iload hx hb (g_21 (v := 4) bX6_rowsFrom rfl) (lv_at hl 6 rfl) ?_
                refine lv_icmp_ge (tgt := 96) hx hb dX6_rowsFrom_73 (by decide +kernel) (fun c_166 => ?_) (fun c_166 => ?_)
                · refine W.widen (k := 250) (n := 4440) (Nat.le_of_ble_eq_true rfl) (Nat.le_of_ble_eq_true rfl) ?_
                  exact endVt [[true, true, true, true, true, true, true, true, true, true, true, true, true, true, true, true, true, true, true, true, true, true, true, true, true, true, true, true, true, true, true, true]] hx hb hr hlocks hP hD rfl (by decide +kernel) hS ⟨x6_153, fMy, fJ_163, uS0, uS1, uS2, uS3, uS4, rfl, ⟨(fun q => by omega), (fun q => by omega), (fun q => by omega), (fun q => by omega), (fun q => by omega)⟩⟩ (g_177 bX6_rowsFrom rfl)
                · have hlt_167 : j_162 < kM := lp_lt rfl rfl (by omega) (by omega) c_166
                  refine lv_aload_n hx hb (g_42 bX6_rowsFrom rfl) rfl (lv_at hl 2 rfl) ?_
                  refine va_get (D := G) (ci := 5) (v := .ref qmb) (C := RX6) (T := TX6) (N := 35) hx hb hts iX_X6 hown hK hP 0 rfl rfl 32 (by decide +kernel) (hts _ m_t882) (fun _ h9 => h9) rfl (g_180 (v := 64) bX6_rowsFrom rfl) ?_
                  refine lv_iload hx hb (g_21 (v := 7) bX6_rowsFrom rfl) (lv_at hl 0 rfl) ?_
                  refine lv_aload_n hx hb (g_42 bX6_rowsFrom rfl) rfl (lv_at hl 2 rfl) ?_
                  refine va_get (D := G) (ci := 5) (v := .ref qmy) (C := RX6) (T := TX6) (N := 35) hx hb hts iX_X6 hown hK hP 0 rfl rfl 31 (by decide +kernel) (hts _ m_t881) (fun _ h9 => h9) rfl (g_180 (v := 61) bX6_rowsFrom rfl) ?_
                  refine lv_iload hx hb (g_21 (v := 7) bX6_rowsFrom rfl) (lv_at hl 0 rfl) ?_
                  refine va_iald hx hb hK hP 29 0 rfl rfl (vp_in_nI (by omega) (by omega)) (g_46 bX6_rowsFrom rfl) ?_
                  refine lv_seti (v := fMy j_162) (congrArg fMy (nI_clamp (by omega))) ?_
                  refine va_iast hx hb hK hP hD hS 30 0 rfl rfl (vp_in_nI (by omega) (by omega)) (g_79 bX6_rowsFrom rfl) (fun H locs => ?_)
                  clear hP hD hS
                  intro hP hD hS
                  rw [nI_clamp (n := j_162) (by omega)] at hP hD
                  have hPD := pd_as (([_, _, _, _, _, _, _, _, _, _, _, _, _, _, _, _, _, _, _, _, _, _, _, _, _, _, _, _, _, _, zzI cy qmb 5 (upd fJ_163 j_162 (fMy j_162)), _] : va_W) ++ (oM cy uS0 ++ (oM cy uS1 ++ (oM cy uS2 ++ (oM cy uS3 ++ oM cy uS4))))) hP hD rfl
                  clear hP hD
                  obtain ⟨hP, hD⟩ := hPD
                  refine lv_iinc (v := nI (j_162 + 1)) (lv' := [(7, .int (nI (j_162 + 1))), (6, .int x6_153), (0, .ref qm), (1, .ref qm), (2, .int (nI kI)), (3, .int 0), (4, .int (nI kM)), (5, .int (nI kU))]) hx hb dX6_rowsFrom_90 hl (k := 0) rfl (nI_1 _) (by decide +kernel) rfl (fun ls => ?_)
                  clear hl
                  intro hl
                  refine lv_goto (tgt := 69) hx hb dX6_rowsFrom_93 (by decide +kernel) ?_
                  exact ih_161 (j_162 + 1) (upd fJ_163 j_162 (fMy j_162)) (by omega) (by omega) _ _ _ hP hD hS (lv_sub hl [0, 1, 2, 3, 4, 5, 6, 7] rfl)
            exact lp_159 ((5 - 0) + 1) 0 fMb (Nat.lt_succ_self _) (Nat.zero_le _) _ _ ls hP hD hS (lv_sub hl [0, 1, 2, 3, 4, 5, 6, 7] rfl)
        · have hlt_168 : j_152 < T_nb tA := lp_lt rfl rfl (by omega) (by omega) c_156
          refine lv_iload hx hb (g_21 (v := 6) bX6_rowsFrom rfl) (lv_at hl 1 rfl) ?_
          refine lv_aload_n hx hb (g_42 bX6_rowsFrom rfl) rfl (lv_at hl 2 rfl) ?_
          refine va_get (D := G) (ci := 5) (v := .ref qmB) (C := RX6) (T := TX6) (N := 35) hx hb hts iX_X6 hown hK hP 0 rfl rfl 11 (by decide +kernel) (hts _ m_t861) (fun _ h9 => h9) rfl (g_180 (v := 42) bX6_rowsFrom rfl) ?_
          refine lv_iload hx hb (g_21 (v := 7) bX6_rowsFrom rfl) (lv_at hl 0 rfl) ?_
          refine va_alda hx hb hK hP 1 3 rfl rfl (in8 (by omega)) (g_50 bX6_rowsFrom rfl) ?_
          refine lv_setv (v := .ref (rB j_152)) (g_ref (by omega)) ?_
          refine lv_iconst (v := 0) hx hb (g_3 bX6_rowsFrom rfl) (by decide +kernel) ?_
          refine va_iald hx hb hK hP (2 + j_152) 0 (sg8 (n0 := 2) (f := (fun j => zzI cy (rB j) 4 (bkR tA j))) rfl rfl rfl rfl rfl rfl rfl rfl j_152 (by omega)) rfl (in_c rfl) (g_46 bX6_rowsFrom rfl) ?_
          refine lv_seti (v := T_wo tA j_152) (bk_0 _ _) ?_
          refine lv_aload_n hx hb (g_43 bX6_rowsFrom rfl) rfl (lv_at hl 3 rfl) ?_
          refine va_get (D := G) (ci := 5) (v := .ref qmK) (C := RX6) (T := TX6) (N := 35) hx hb hts iX_X6 hown hK hP 0 rfl rfl 14 (by decide +kernel) (hts _ m_t864) (fun _ h9 => h9) rfl (g_180 (v := 48) bX6_rowsFrom rfl) ?_
          refine lv_iload_n hx hb (g_28 bX6_rowsFrom rfl) rfl (lv_at hl 4 rfl) ?_
          refine va_alda hx hb hK hP 19 3 rfl rfl (in8 (by omega)) (g_50 bX6_rowsFrom rfl) ?_
          refine lv_setv (v := .ref (rK kI)) (g_ref (by omega)) ?_
          refine lv_iload hx hb (g_21 (v := 7) bX6_rowsFrom rfl) (lv_at hl 0 rfl) ?_
          refine va_iald hx hb hK hP (20 + kI) 0 (sg8 (n0 := 20) (f := (fun j => zzI cy (rK j) 8 (T_kn tA j))) rfl rfl rfl rfl rfl rfl rfl rfl kI (by omega)) rfl (vp_in_nI (by omega) (by omega)) (g_46 bX6_rowsFrom rfl) ?_
          refine lv_seti (v := T_kn tA kI j_152) (congrArg (T_kn tA kI) (nI_clamp (by omega))) ?_
          refine lv_imul hx hb (g_104 bX6_rowsFrom rfl) ?_
          refine lv_iadd hx hb (g_96 bX6_rowsFrom rfl) ?_
          refine lv_istore (lv' := [(6, .int (x6_153 + ((T_wo tA j_152) * (T_kn tA kI j_152)))), (7, .int (nI j_152)), (0, .ref qm), (1, .ref qm), (2, .int (nI kI)), (3, .int 0), (4, .int (nI kM)), (5, .int (nI kU))]) hx hb (g_54 (v := 6) bX6_rowsFrom rfl) hl (by decide +kernel) rfl (fun ls => ?_)
          clear hl
          intro hl
          refine lv_iinc (v := nI (j_152 + 1)) (lv' := [(7, .int (nI (j_152 + 1))), (6, .int (x6_153 + ((T_wo tA j_152) * (T_kn tA kI j_152)))), (0, .ref qm), (1, .ref qm), (2, .int (nI kI)), (3, .int 0), (4, .int (nI kM)), (5, .int (nI kU))]) hx hb dX6_rowsFrom_45 hl (k := 1) rfl (nI_1 _) (by decide +kernel) rfl (fun ls => ?_)
          clear hl
          intro hl
          refine lv_goto (tgt := 12) hx hb dX6_rowsFrom_48 (by decide +kernel) ?_
          exact ih_151 (j_152 + 1) (x6_153 + ((T_wo tA j_152) * (T_kn tA kI j_152))) (by omega) (by omega) _ _ _ hP hD hS (lv_sub hl [0, 1, 2, 3, 4, 5, 6, 7] rfl)
    exact lp_149 ((8 - 0) + 1) 0 0 (Nat.lt_succ_self _) (Nat.zero_le _) _ _ ls hP hD hS (lv_sub hl [0, 1, 2, 3, 4, 5, 6, 7] rfl)
end
section
theorem un_step {f : Nat → Int32} {m j : Nat} (hj : j < 8) (h : ∀ k, k < m → ∃ b : Nat, b < 8 ∧ f k = nI b) : ∀ k, k < m + 1 → ∃ b : Nat, b < 8 ∧ upd f m (nI j) k = nI b := fun k hk => by
  show ∃ b : Nat, b < 8 ∧ (if k = m then nI j else f k) = nI b
  by_cases e : k = m
  · rw [if_pos e]
    exact ⟨j, hj, rfl⟩
  · rw [if_neg e]
    exact h k (by omega)
theorem le5 {m : Nat} (hm : m ≤ 8) (c : nI m ≤ 5) : m ≤ 5 := by
  rw [Int32.le_iff_toInt_le, nI_toInt (by omega)] at c
  have e : (5 : Int32).toInt = 5 := by decide +kernel
  rw [e] at c
  omega
theorem bst_in {x : Int32} {m : Nat} (hm : m ≤ 5) (h : Iv x.toInt64 (-1) (nI m - 1).toInt64) (h2 : ¬ x = -1) : vp_in x 5 := by
  have e : (nI m - 1).toInt = (m : Int) - 1 := by
    rw [show (1 : Int32) = nI 1 from rfl, pk_sub_toInt (by omega) (by omega)]
    rfl
  have h1 := toI h (m := -1) (n := (m : Int) - 1) (by decide +kernel) (by rw [Int32.toInt_toInt64]; exact e)
  have h3 : x.toInt ≠ -1 := fun q => h2 (eqI (by decide +kernel) q)
  obtain ⟨k, hk, rfl⟩ := nI_of (x := x) (by rw [Int32.lt_iff_toInt_lt]; show ¬ x.toInt < 0; omega)
  rw [nI_toInt hk] at h1
  exact vp_in_nI (by omega) (by omega)
set_option maxHeartbeats 4000000 in
set_option maxRecDepth 100000 in
theorem p_X6_order (l : Launch) (G : va_G) (cy : Nat → ClassId) (sz : Nat) (qm : Nat) (qmh : Nat) (qmo : Nat) (qmz : Nat) (qmR : Nat) (qmv : Nat) (qmk : Nat) (qma : Nat) (qmt : Nat) (kZ : Nat) (qmr : Nat) (tA : TA) (qmB : Nat) (qmO : Nat) (qmK : Nat) (iEn : Int32) (iTk : Int32) (uP : UM) (uU : UM) (kAt : Nat) (iTo : Int32) (iFr : Int32) (JFi : Int64) (iFa : Int32) (qm3 : Nat) (iSt : Int32) (iLv : Int32) (iWs : Int32) (vLa : Value) (qmu : Nat) (qmy : Nat) (qmb : Nat) (qms : Nat) (iOm : Int32) (fMr : Nat → Int32) (rB : Nat → Nat) (rO : Nat → Nat) (rK : Nat → Nat) (fMu : Nat → Int32) (fMy : Nat → Int32) (fMb : Nat → Int32) (uS0 : UM) (uS1 : UM) (uS2 : UM) (uS3 : UM) (uS4 : UM) (iA : Int32) (iB : Int32)  (hB : T_nb tA ≤ 8) (hPp : T_np tA ≤ 8) : MW l yX6_order cX6_order 5 (some .int) 16 250 4440 G cy ((zzO qm 5 (.ref qmh :: .ref qmo :: .ref qmz :: .ref qmR :: .ref qmv :: .ref qmk :: .ref qma :: .ref qmt :: .int (nI kZ) :: .ref qmr :: .int (nI (T_nb tA)) :: .ref qmB :: .int (nI (T_np tA)) :: .ref qmO :: .ref qmK :: .int iEn :: .int iTk :: .int (T_sd tA) :: ov uP :: ov uU :: .int (nI kAt) :: .int iTo :: .int iFr :: .long JFi :: .int iFa :: .ref qm3 :: .int iSt :: .int iLv :: .int iWs :: vLa :: .ref qmu :: .ref qmy :: .ref qmb :: .ref qms :: .int iOm :: []) :: zzI cy qmr 8 fMr :: zzG cy 3 qmB rB :: zzI cy (rB 0) 4 (bkR tA 0) :: zzI cy (rB 1) 4 (bkR tA 1) :: zzI cy (rB 2) 4 (bkR tA 2) :: zzI cy (rB 3) 4 (bkR tA 3) :: zzI cy (rB 4) 4 (bkR tA 4) :: zzI cy (rB 5) 4 (bkR tA 5) :: zzI cy (rB 6) 4 (bkR tA 6) :: zzI cy (rB 7) 4 (bkR tA 7) :: zzG cy 3 qmO rO :: zzI cy (rO 0) 5 (onR tA 0) :: zzI cy (rO 1) 5 (onR tA 1) :: zzI cy (rO 2) 5 (onR tA 2) :: zzI cy (rO 3) 5 (onR tA 3) :: zzI cy (rO 4) 5 (onR tA 4) :: zzI cy (rO 5) 5 (onR tA 5) :: zzI cy (rO 6) 5 (onR tA 6) :: zzI cy (rO 7) 5 (onR tA 7) :: zzG cy 3 qmK rK :: zzI cy (rK 0) 8 (T_kn tA 0) :: zzI cy (rK 1) 8 (T_kn tA 1) :: zzI cy (rK 2) 8 (T_kn tA 2) :: zzI cy (rK 3) 8 (T_kn tA 3) :: zzI cy (rK 4) 8 (T_kn tA 4) :: zzI cy (rK 5) 8 (T_kn tA 5) :: zzI cy (rK 6) 8 (T_kn tA 6) :: zzI cy (rK 7) 8 (T_kn tA 7) :: zzI cy qmu 8 fMu :: zzI cy qmy 5 fMy :: zzI cy qmb 5 fMb :: zzQ cy 5 qms 6 (sF (refU uS0) (refU uS1) (refU uS2) (refU uS3) (refU uS4)) :: []) ++ (oM cy uS0 ++ (oM cy uS1 ++ (oM cy uS2 ++ (oM cy uS3 ++ oM cy uS4))))) sz [.ref qm, .int iA, .int iB] (Wi G (fun r u => ∃ (iNm : Int32) (fNr : Nat → Int32) (fNu : Nat → Int32) (fNy : Nat → Int32) (fNb : Nat → Int32) (uN0 : UM) (uN1 : UM) (uN2 : UM) (uN3 : UM) (uN4 : UM), u = ((zzO qm 5 (.ref qmh :: .ref qmo :: .ref qmz :: .ref qmR :: .ref qmv :: .ref qmk :: .ref qma :: .ref qmt :: .int (nI kZ) :: .ref qmr :: .int (nI (T_nb tA)) :: .ref qmB :: .int (nI (T_np tA)) :: .ref qmO :: .ref qmK :: .int iEn :: .int iTk :: .int (T_sd tA) :: ov uP :: ov uU :: .int (nI kAt) :: .int iTo :: .int iFr :: .long JFi :: .int iFa :: .ref qm3 :: .int iSt :: .int iLv :: .int iWs :: vLa :: .ref qmu :: .ref qmy :: .ref qmb :: .ref qms :: .int iNm :: []) :: zzI cy qmr 8 fNr :: zzG cy 3 qmB rB :: zzI cy (rB 0) 4 (bkR tA 0) :: zzI cy (rB 1) 4 (bkR tA 1) :: zzI cy (rB 2) 4 (bkR tA 2) :: zzI cy (rB 3) 4 (bkR tA 3) :: zzI cy (rB 4) 4 (bkR tA 4) :: zzI cy (rB 5) 4 (bkR tA 5) :: zzI cy (rB 6) 4 (bkR tA 6) :: zzI cy (rB 7) 4 (bkR tA 7) :: zzG cy 3 qmO rO :: zzI cy (rO 0) 5 (onR tA 0) :: zzI cy (rO 1) 5 (onR tA 1) :: zzI cy (rO 2) 5 (onR tA 2) :: zzI cy (rO 3) 5 (onR tA 3) :: zzI cy (rO 4) 5 (onR tA 4) :: zzI cy (rO 5) 5 (onR tA 5) :: zzI cy (rO 6) 5 (onR tA 6) :: zzI cy (rO 7) 5 (onR tA 7) :: zzG cy 3 qmK rK :: zzI cy (rK 0) 8 (T_kn tA 0) :: zzI cy (rK 1) 8 (T_kn tA 1) :: zzI cy (rK 2) 8 (T_kn tA 2) :: zzI cy (rK 3) 8 (T_kn tA 3) :: zzI cy (rK 4) 8 (T_kn tA 4) :: zzI cy (rK 5) 8 (T_kn tA 5) :: zzI cy (rK 6) 8 (T_kn tA 6) :: zzI cy (rK 7) 8 (T_kn tA 7) :: zzI cy qmu 8 fNu :: zzI cy qmy 5 fNy :: zzI cy qmb 5 fNb :: zzQ cy 5 qms 6 (sF (refU uN0) (refU uN1) (refU uN2) (refU uN3) (refU uN4)) :: []) ++ (oM cy uN0 ++ (oM cy uN1 ++ (oM cy uN2 ++ (oM cy uN3 ++ oM cy uN4))))) ∧ (True))) := by
  refine enW RX6 (by decide +kernel) rfl (Nat.le_of_ble_eq_true rfl) (fun p e s m below meth c ls A hx hb hml hown hts hr hlocks hP hN hl hin hD hA hS => ?_)
  have hin : meth.name = _ := hin
  have hK := hN.1
  replace hl : lv_has ls 5 [(0, .ref qm), (1, .int iA), (2, .int iB)] := hl
  refine lv_iconst (v := 0) hx hb (g_3 bX6_order rfl) (by decide +kernel) ?_
  refine lv_istore_n (lv' := [(3, .int 0), (0, .ref qm), (1, .int iA), (2, .int iB)]) hx hb (g_62 bX6_order rfl) rfl hl (by decide +kernel) rfl (fun ls => ?_)
  clear hl
  intro hl
  refine lv_iconst (v := 0) hx hb (g_3 bX6_order rfl) (by decide +kernel) ?_
  refine lv_istore (lv' := [(4, .int 0), (3, .int 0), (0, .ref qm), (1, .int iA), (2, .int iB)]) hx hb (g_54 (v := 4) bX6_order rfl) hl (by decide +kernel) rfl (fun ls => ?_)
  clear hl
  intro hl
  replace hl : lv_has ls 5 [(4, .int (nI 0)), (3, .int (nI 0)), (0, .ref qm), (1, .int iA), (2, .int iB)] := hl
  have lp_1 : ∀ (n_2 : Nat) (j_4 : Nat) (m_5 : Nat) (fJ_6 : Nat → Int32), 8 - j_4 < n_2 → j_4 ≤ T_nb tA ∧ m_5 ≤ j_4 → (∀ k, k < m_5 → ∃ b : Nat, b < 8 ∧ fJ_6 k = nI b) → ∀ (H : Heap) (locs : List Loc) (ls : Array Slot), va_P G CL ((zzO qm 5 (.ref qmh :: .ref qmo :: .ref qmz :: .ref qmR :: .ref qmv :: .ref qmk :: .ref qma :: .ref qmt :: .int (nI kZ) :: .ref qmr :: .int (nI (T_nb tA)) :: .ref qmB :: .int (nI (T_np tA)) :: .ref qmO :: .ref qmK :: .int iEn :: .int iTk :: .int (T_sd tA) :: ov uP :: ov uU :: .int (nI kAt) :: .int iTo :: .int iFr :: .long JFi :: .int iFa :: .ref qm3 :: .int iSt :: .int iLv :: .int iWs :: vLa :: .ref qmu :: .ref qmy :: .ref qmb :: .ref qms :: .int iOm :: []) :: zzI cy qmr 8 fMr :: zzG cy 3 qmB rB :: zzI cy (rB 0) 4 (bkR tA 0) :: zzI cy (rB 1) 4 (bkR tA 1) :: zzI cy (rB 2) 4 (bkR tA 2) :: zzI cy (rB 3) 4 (bkR tA 3) :: zzI cy (rB 4) 4 (bkR tA 4) :: zzI cy (rB 5) 4 (bkR tA 5) :: zzI cy (rB 6) 4 (bkR tA 6) :: zzI cy (rB 7) 4 (bkR tA 7) :: zzG cy 3 qmO rO :: zzI cy (rO 0) 5 (onR tA 0) :: zzI cy (rO 1) 5 (onR tA 1) :: zzI cy (rO 2) 5 (onR tA 2) :: zzI cy (rO 3) 5 (onR tA 3) :: zzI cy (rO 4) 5 (onR tA 4) :: zzI cy (rO 5) 5 (onR tA 5) :: zzI cy (rO 6) 5 (onR tA 6) :: zzI cy (rO 7) 5 (onR tA 7) :: zzG cy 3 qmK rK :: zzI cy (rK 0) 8 (T_kn tA 0) :: zzI cy (rK 1) 8 (T_kn tA 1) :: zzI cy (rK 2) 8 (T_kn tA 2) :: zzI cy (rK 3) 8 (T_kn tA 3) :: zzI cy (rK 4) 8 (T_kn tA 4) :: zzI cy (rK 5) 8 (T_kn tA 5) :: zzI cy (rK 6) 8 (T_kn tA 6) :: zzI cy (rK 7) 8 (T_kn tA 7) :: zzI cy qmu 8 fJ_6 :: zzI cy qmy 5 fMy :: zzI cy qmb 5 fMb :: zzQ cy 5 qms 6 (sF (refU uS0) (refU uS1) (refU uS2) (refU uS3) (refU uS4)) :: []) ++ (oM cy uS0 ++ (oM cy uS1 ++ (oM cy uS2 ++ (oM cy uS3 ++ oM cy uS4))))) H → va_D A ((zzO qm 5 (.ref qmh :: .ref qmo :: .ref qmz :: .ref qmR :: .ref qmv :: .ref qmk :: .ref qma :: .ref qmt :: .int (nI kZ) :: .ref qmr :: .int (nI (T_nb tA)) :: .ref qmB :: .int (nI (T_np tA)) :: .ref qmO :: .ref qmK :: .int iEn :: .int iTk :: .int (T_sd tA) :: ov uP :: ov uU :: .int (nI kAt) :: .int iTo :: .int iFr :: .long JFi :: .int iFa :: .ref qm3 :: .int iSt :: .int iLv :: .int iWs :: vLa :: .ref qmu :: .ref qmy :: .ref qmb :: .ref qms :: .int iOm :: []) :: zzI cy qmr 8 fMr :: zzG cy 3 qmB rB :: zzI cy (rB 0) 4 (bkR tA 0) :: zzI cy (rB 1) 4 (bkR tA 1) :: zzI cy (rB 2) 4 (bkR tA 2) :: zzI cy (rB 3) 4 (bkR tA 3) :: zzI cy (rB 4) 4 (bkR tA 4) :: zzI cy (rB 5) 4 (bkR tA 5) :: zzI cy (rB 6) 4 (bkR tA 6) :: zzI cy (rB 7) 4 (bkR tA 7) :: zzG cy 3 qmO rO :: zzI cy (rO 0) 5 (onR tA 0) :: zzI cy (rO 1) 5 (onR tA 1) :: zzI cy (rO 2) 5 (onR tA 2) :: zzI cy (rO 3) 5 (onR tA 3) :: zzI cy (rO 4) 5 (onR tA 4) :: zzI cy (rO 5) 5 (onR tA 5) :: zzI cy (rO 6) 5 (onR tA 6) :: zzI cy (rO 7) 5 (onR tA 7) :: zzG cy 3 qmK rK :: zzI cy (rK 0) 8 (T_kn tA 0) :: zzI cy (rK 1) 8 (T_kn tA 1) :: zzI cy (rK 2) 8 (T_kn tA 2) :: zzI cy (rK 3) 8 (T_kn tA 3) :: zzI cy (rK 4) 8 (T_kn tA 4) :: zzI cy (rK 5) 8 (T_kn tA 5) :: zzI cy (rK 6) 8 (T_kn tA 6) :: zzI cy (rK 7) 8 (T_kn tA 7) :: zzI cy qmu 8 fJ_6 :: zzI cy qmy 5 fMy :: zzI cy qmb 5 fMb :: zzQ cy 5 qms 6 (sF (refU uS0) (refU uS1) (refU uS2) (refU uS3) (refU uS4)) :: []) ++ (oM cy uS0 ++ (oM cy uS1 ++ (oM cy uS2 ++ (oM cy uS3 ++ oM cy uS4))))) → va_S A s.heap H locs → lv_has ls 5 [(4, .int (nI j_4)), (3, .int (nI m_5)), (0, .ref qm), (1, .int iA), (2, .int iB)] → W p l e (Rm 16 250 4440) s m (List.toArray (α := Value) [.ref qm, .int iA, .int iB]) below meth c H locs 0 0 (MQ below ((Wi G (fun r u => ∃ (iNm : Int32) (fNr : Nat → Int32) (fNu : Nat → Int32) (fNy : Nat → Int32) (fNb : Nat → Int32) (uN0 : UM) (uN1 : UM) (uN2 : UM) (uN3 : UM) (uN4 : UM), u = ((zzO qm 5 (.ref qmh :: .ref qmo :: .ref qmz :: .ref qmR :: .ref qmv :: .ref qmk :: .ref qma :: .ref qmt :: .int (nI kZ) :: .ref qmr :: .int (nI (T_nb tA)) :: .ref qmB :: .int (nI (T_np tA)) :: .ref qmO :: .ref qmK :: .int iEn :: .int iTk :: .int (T_sd tA) :: ov uP :: ov uU :: .int (nI kAt) :: .int iTo :: .int iFr :: .long JFi :: .int iFa :: .ref qm3 :: .int iSt :: .int iLv :: .int iWs :: vLa :: .ref qmu :: .ref qmy :: .ref qmb :: .ref qms :: .int iNm :: []) :: zzI cy qmr 8 fNr :: zzG cy 3 qmB rB :: zzI cy (rB 0) 4 (bkR tA 0) :: zzI cy (rB 1) 4 (bkR tA 1) :: zzI cy (rB 2) 4 (bkR tA 2) :: zzI cy (rB 3) 4 (bkR tA 3) :: zzI cy (rB 4) 4 (bkR tA 4) :: zzI cy (rB 5) 4 (bkR tA 5) :: zzI cy (rB 6) 4 (bkR tA 6) :: zzI cy (rB 7) 4 (bkR tA 7) :: zzG cy 3 qmO rO :: zzI cy (rO 0) 5 (onR tA 0) :: zzI cy (rO 1) 5 (onR tA 1) :: zzI cy (rO 2) 5 (onR tA 2) :: zzI cy (rO 3) 5 (onR tA 3) :: zzI cy (rO 4) 5 (onR tA 4) :: zzI cy (rO 5) 5 (onR tA 5) :: zzI cy (rO 6) 5 (onR tA 6) :: zzI cy (rO 7) 5 (onR tA 7) :: zzG cy 3 qmK rK :: zzI cy (rK 0) 8 (T_kn tA 0) :: zzI cy (rK 1) 8 (T_kn tA 1) :: zzI cy (rK 2) 8 (T_kn tA 2) :: zzI cy (rK 3) 8 (T_kn tA 3) :: zzI cy (rK 4) 8 (T_kn tA 4) :: zzI cy (rK 5) 8 (T_kn tA 5) :: zzI cy (rK 6) 8 (T_kn tA 6) :: zzI cy (rK 7) 8 (T_kn tA 7) :: zzI cy qmu 8 fNu :: zzI cy qmy 5 fNy :: zzI cy qmb 5 fNb :: zzQ cy 5 qms 6 (sF (refU uN0) (refU uN1) (refU uN2) (refU uN3) (refU uN4)) :: []) ++ (oM cy uN0 ++ (oM cy uN1 ++ (oM cy uN2 ++ (oM cy uN3 ++ oM cy uN4))))) ∧ (True))) A) (List.toArray (α := Value) [.ref qm, .int iA, .int iB]) s 250 4440 A) (F0 m 5 ls []) := by
    intro n_2
    induction n_2 with
    | zero => intro j_4 m_5 fJ_6 hm9; exact absurd hm9 (Nat.not_lt_zero _)
    | succ n_2 ih_3 =>
      intro j_4 m_5 fJ_6 hm_9 hj_7 hUn_8 H locs ls hP hD hS hl
      refine lv_iload hx hb (g_21 (v := 4) bX6_order rfl) (lv_at hl 0 rfl) ?_
      refine lv_aload_n hx hb (g_42 bX6_order rfl) rfl (lv_at hl 2 rfl) ?_
      refine va_get (D := G) (ci := 5) (v := .int (nI (T_nb tA))) (C := RX6) (T := TX6) (N := 35) hx hb hts iX_X6 hown hK hP 0 rfl rfl 10 (by decide +kernel) (hts _ m_t860) (fun _ h9 => h9) rfl (g_180 (v := 71) bX6_order rfl) ?_
      refine lv_icmp_ge (tgt := 40) hx hb dX6_order_11 (by decide +kernel) (fun c_10 => ?_) (fun c_10 => ?_)
      · refine lv_aload_n hx hb (g_42 bX6_order rfl) rfl (lv_at hl 2 rfl) ?_
        refine lv_iload_n hx hb (g_27 bX6_order rfl) rfl (lv_at hl 3 rfl) ?_
        refine lv_i2l (v := iA.toInt64) hx hb (g_133 bX6_order rfl) rfl ?_
        refine kRi (rV (As := [.long iA.toInt64]) (rest := []) (b := qm) ⟨hx, hb, hml, hown, hts⟩ (c_X6_isOne l G cy qm (.ref qmh) (.ref qmo) (.ref qmz) (.ref qmR) (.ref qmv) (.ref qmk) (.ref qma) (.ref qmt) (.int (nI kZ)) (.ref qmr) tA qmB qmO qmK iEn iTk (ov uP) (ov uU) (.int (nI kAt)) (.int iTo) (.int iFr) (.long JFi) (.int iFa) (.ref qm3) (.int iSt) iLv iWs vLa (.ref qmu) (.ref qmy) (.ref qmb) (.ref qms) (.int iOm) iA hPp) L_X6_236 (preRV (q := (RX6, TX6, 35)) hN hP [0] rfl 0 5 rfl rfl) rfl ⟨Nat.le_of_ble_eq_true rfl, Nat.le_of_ble_eq_true rfl⟩ hl.1 (Nat.le_of_ble_eq_true rfl) (g_182 (v := 236) bX6_order rfl) ⟨Nat.le_of_ble_eq_true rfl, Nat.le_of_ble_eq_true rfl⟩) (fun r_11 h_12 => ?_)
        rcases h_12 with ⟨rfl, h_13⟩ | ⟨rfl, h_13⟩
        · obtain ⟨k_14, hk_15, rfl⟩ := h_13
          refine lv_if_eq (tgt := 64) hx hb dX6_order_46 (by decide +kernel) (fun h9 => absurd h9 (by decide +kernel)) (fun _ => ?_)
          refine lv_iload_n hx hb (g_28 bX6_order rfl) rfl (lv_at hl 4 rfl) ?_
          refine lv_i2l (v := iB.toInt64) hx hb (g_133 bX6_order rfl) rfl ?_
          refine lv_ldc2 hx hb hown (hts _ m_t1312) (g_20 (v := 330) bX6_order rfl) ?_
          refine lv_iload_n hx hb (g_29 bX6_order rfl) rfl (lv_at hl 1 rfl) ?_
          refine lv_iconst (v := 1) hx hb (g_4 bX6_order rfl) (by decide +kernel) ?_
          refine lv_isub hx hb (g_100 bX6_order rfl) ?_
          refine lv_i2l (v := ((nI m_5) - 1).toInt64) hx hb (g_133 bX6_order rfl) rfl ?_
          refine kRi (rS (As := [.long iB.toInt64, .long (-1), .long (((nI m_5) - 1).toInt64)]) (rest := []) ⟨hx, hb, hml, hown, hts⟩ (c_X6_in l G cy iB.toInt64 (-1) (((nI m_5) - 1).toInt64)) L_X6_74 (preRS hN hP [] rfl) rfl ⟨Nat.le_of_ble_eq_true rfl, Nat.le_of_ble_eq_true rfl⟩ hl.1 (Nat.le_of_ble_eq_true rfl) (g_184 (v := 74) bX6_order rfl) ⟨Nat.le_of_ble_eq_true rfl, Nat.le_of_ble_eq_true rfl⟩) (fun r_17 h_18 => ?_)
          rcases h_18 with ⟨rfl, h_19⟩ | ⟨rfl, h_19⟩
          · refine lv_if_ne (tgt := 71) hx hb dX6_order_61 (by decide +kernel) (fun _ => ?_) (fun h9 => absurd h9 (by decide +kernel))
            refine lv_aload_n hx hb (g_42 bX6_order rfl) rfl (lv_at hl 2 rfl) ?_
            refine lv_iload_n hx hb (g_27 bX6_order rfl) rfl (lv_at hl 3 rfl) ?_
            refine kRi (rV (As := [.int (nI k_14)]) (rest := []) (b := qm) ⟨hx, hb, hml, hown, hts⟩ (c_X6_isThere l G cy qm (.ref qmh) (.ref qmo) (.ref qmz) (.ref qmR) (.ref qmv) (.ref qmk) (.ref qma) (.ref qmt) (.int (nI kZ)) (.ref qmr) tA qmB qmO qmK iEn iTk (ov uP) (ov uU) (.int (nI kAt)) (.int iTo) (.int iFr) (.long JFi) (.int iFa) (.ref qm3) (.int iSt) iLv iWs vLa (.ref qmu) (.ref qmy) (.ref qmb) (.ref qms) (.int iOm) rO k_14 (by first | omega | (simp only [nb_sr, np_sr, nb_wr, np_wr, nb_rd, np_rd, nb_ch, np_ch, nb_zr, np_zr, nb_za, np_za, nb_ey, np_ey, nb_hf, np_hf, nb_dd, np_dd, nb_so, np_so, nb_skn, np_skn, nb_swh, np_swh, nb_sgn, np_sgn, nb_ssd, np_ssd, nb_sgo, np_sgo, nb_sag, np_sag]; omega))) L_X6_81 (preRV (q := (RX6, TX6, 35)) hN hP (trueIx 0 [true, false, false, false, false, false, false, false, false, false, false, true, true, true, true, true, true, true, true, true]) (sel_fm rfl rfl) 0 5 rfl rfl) rfl ⟨Nat.le_of_ble_eq_true rfl, Nat.le_of_ble_eq_true rfl⟩ hl.1 (Nat.le_of_ble_eq_true rfl) (g_182 (v := 81) bX6_order rfl) ⟨Nat.le_of_ble_eq_true rfl, Nat.le_of_ble_eq_true rfl⟩) (fun r_21 h_22 => ?_)
            rcases h_22 with ⟨rfl, h_23⟩ | ⟨rfl, h_23⟩
            · refine lv_if_eq (tgt := 84) hx hb dX6_order_76 (by decide +kernel) (fun h9 => absurd h9 (by decide +kernel)) (fun _ => ?_)
              refine lv_iload_n hx hb (g_29 bX6_order rfl) rfl (lv_at hl 1 rfl) ?_
              refine lv_iconst (v := 5) hx hb (g_8 bX6_order rfl) (by decide +kernel) ?_
              refine lv_icmp_le (tgt := 91) hx hb dX6_order_81 (by decide +kernel) (fun c_25 => ?_) (fun c_25 => ?_)
              · have hm5 : m_5 ≤ 5 := le5 (by omega) c_25
                refine lv_aload_n hx hb (g_42 bX6_order rfl) rfl (lv_at hl 2 rfl) ?_
                refine lv_iconst (v := (-1)) hx hb (g_2 bX6_order rfl) (by decide +kernel) ?_
                refine va_put (D := G) (ci := 5) (v := .int (-1)) (ty := .int) (C := RX6) (T := TX6) (N := 35) hx hb hts iX_X6 tyX6 tyX6_ok nmX6 hown hK hP hD hS 0 rfl rfl 34 (by decide +kernel) (hts _ m_t884) (fun _ h9 => h9) rfl (by decide +kernel) rfl rfl (Nat.le_of_ble_eq_true rfl) (g_181 (v := 323) bX6_order rfl) (fun H locs => ?_)
                clear hP hD hS
                intro hP hD hS
                have hPD := pd_as (((zzO qm 5 (.ref qmh :: .ref qmo :: .ref qmz :: .ref qmR :: .ref qmv :: .ref qmk :: .ref qma :: .ref qmt :: .int (nI kZ) :: .ref qmr :: .int (nI (T_nb tA)) :: .ref qmB :: .int (nI (T_np tA)) :: .ref qmO :: .ref qmK :: .int iEn :: .int iTk :: .int (T_sd tA) :: ov uP :: ov uU :: .int (nI kAt) :: .int iTo :: .int iFr :: .long JFi :: .int iFa :: .ref qm3 :: .int iSt :: .int iLv :: .int iWs :: vLa :: .ref qmu :: .ref qmy :: .ref qmb :: .ref qms :: .int (-1) :: []) :: _ :: _ :: _ :: _ :: _ :: _ :: _ :: _ :: _ :: _ :: _ :: _ :: _ :: _ :: _ :: _ :: _ :: _ :: _ :: _ :: _ :: _ :: _ :: _ :: _ :: _ :: _ :: _ :: zzI cy qmu 8 fJ_6 :: _ :: _ :: _ :: []) : va_W) ++ (oM cy uS0 ++ (oM cy uS1 ++ (oM cy uS2 ++ (oM cy uS3 ++ oM cy uS4))))) hP hD rfl
                clear hP hD
                obtain ⟨hP, hD⟩ := hPD
                refine lv_aload_n hx hb (g_42 bX6_order rfl) rfl (lv_at hl 2 rfl) ?_
                refine lv_aload_n hx hb (g_42 bX6_order rfl) rfl (lv_at hl 2 rfl) ?_
                refine lv_iload_n hx hb (g_27 bX6_order rfl) rfl (lv_at hl 3 rfl) ?_
                refine lv_iconst (v := 0) hx hb (g_3 bX6_order rfl) (by decide +kernel) ?_
                refine lv_iload_n hx hb (g_29 bX6_order rfl) rfl (lv_at hl 1 rfl) ?_
                refine lv_iconst (v := 0) hx hb (g_3 bX6_order rfl) (by decide +kernel) ?_
                refine lv_seti (v := nI 0) rfl ?_
                have hcu := cu_0 m_5 (by omega)
                refine cVvP (As := [.ref qm, .int (nI k_14), .int 0, .int (nI m_5), .int (nI 0)]) (rest := []) (b := qm) (q := (RX6, TX6, 35)) ⟨hx, hb, hml, hown, hts⟩ (c_X6_rows0 l G cy (H).size qm qmh qmo qmz qmR qmv qmk qma qmt kZ qmr tA qmB qmO qmK iEn iTk uP uU kAt iTo iFr JFi iFa qm3 iSt iLv iWs vLa qmu qmy qmb qms (-1) rB rO rK fJ_6 fMy fMb uS0 uS1 uS2 uS3 uS4 k_14 m_5 0 (by first | omega | (simp only [nb_sr, np_sr, nb_wr, np_wr, nb_rd, np_rd, nb_ch, np_ch, nb_zr, np_zr, nb_za, np_za, nb_ey, np_ey, nb_hf, np_hf, nb_dd, np_dd, nb_so, np_so, nb_skn, np_skn, nb_swh, np_swh, nb_sgn, np_sgn, nb_ssd, np_ssd, nb_sgo, np_sgo, nb_sag, np_sag]; omega)) (by first | omega | (simp only [nb_sr, np_sr, nb_wr, np_wr, nb_rd, np_rd, nb_ch, np_ch, nb_zr, np_zr, nb_za, np_za, nb_ey, np_ey, nb_hf, np_hf, nb_dd, np_dd, nb_so, np_so, nb_skn, np_skn, nb_swh, np_swh, nb_sgn, np_sgn, nb_ssd, np_ssd, nb_sgo, np_sgo, nb_sag, np_sag]; omega)) (by first | omega | (simp only [nb_sr, np_sr, nb_wr, np_wr, nb_rd, np_rd, nb_ch, np_ch, nb_zr, np_zr, nb_za, np_za, nb_ey, np_ey, nb_hf, np_hf, nb_dd, np_dd, nb_so, np_so, nb_skn, np_skn, nb_swh, np_swh, nb_sgn, np_sgn, nb_ssd, np_ssd, nb_sgo, np_sgo, nb_sag, np_sag]; omega)) (by first | omega | (simp only [nb_sr, np_sr, nb_wr, np_wr, nb_rd, np_rd, nb_ch, np_ch, nb_zr, np_zr, nb_za, np_za, nb_ey, np_ey, nb_hf, np_hf, nb_dd, np_dd, nb_so, np_so, nb_skn, np_skn, nb_swh, np_swh, nb_sgn, np_sgn, nb_ssd, np_ssd, nb_sgo, np_sgo, nb_sag, np_sag]; omega)) (by first | omega | (simp only [nb_sr, np_sr, nb_wr, np_wr, nb_rd, np_rd, nb_ch, np_ch, nb_zr, np_zr, nb_za, np_za, nb_ey, np_ey, nb_hf, np_hf, nb_dd, np_dd, nb_so, np_so, nb_skn, np_skn, nb_swh, np_swh, nb_sgn, np_sgn, nb_ssd, np_ssd, nb_sgo, np_sgo, nb_sag, np_sag]; omega)) hB (by first | omega | (simp only [nb_sr, np_sr, nb_wr, np_wr, nb_rd, np_rd, nb_ch, np_ch, nb_zr, np_zr, nb_za, np_za, nb_ey, np_ey, nb_hf, np_hf, nb_dd, np_dd, nb_so, np_so, nb_skn, np_skn, nb_swh, np_swh, nb_sgn, np_sgn, nb_ssd, np_ssd, nb_sgo, np_sgo, nb_sag, np_sag]; omega))) L_X6_326 hN hP hD hS hA (trueIx 0 (true :: false :: true :: true :: true :: true :: true :: true :: true :: true :: true :: true :: true :: true :: true :: true :: true :: true :: true :: true :: true :: true :: true :: true :: true :: true :: true :: true :: true :: true :: true :: true :: true :: [])) (false :: true :: false :: false :: false :: false :: false :: false :: false :: false :: false :: false :: false :: false :: false :: false :: false :: false :: false :: false :: false :: false :: false :: false :: false :: false :: false :: false :: false :: false :: false :: false :: false :: []) (sel_eq rfl rfl) (by decide +kernel) rfl 0 5 rfl rfl rfl ⟨Nat.le_of_ble_eq_true rfl, Nat.le_of_ble_eq_true rfl⟩ hl.1 (Nat.le_of_ble_eq_true rfl) (g_182 (v := 326) bX6_order rfl) ⟨Nat.le_of_ble_eq_true rfl, Nat.le_of_ble_eq_true rfl⟩ (fun u_28 H locs h_27 => ?_)
                clear hP hD hS
                intro hP hD hS
                obtain ⟨iNm_29, fNy_30, fNb_31, uN_32, uN_33, uN_34, uN_35, uN_36, rfl, h_37⟩ := h_27
                replace hP := al_P hP
                replace hD := al_D hD
                have hPD := pd_as (((_ :: zzO qm 5 (.ref qmh :: .ref qmo :: .ref qmz :: .ref qmR :: .ref qmv :: .ref qmk :: .ref qma :: .ref qmt :: .int (nI kZ) :: .ref qmr :: .int (nI (T_nb tA)) :: .ref qmB :: .int (nI (T_np tA)) :: .ref qmO :: .ref qmK :: .int iEn :: .int iTk :: .int (T_sd tA) :: ov uP :: ov uU :: .int (nI kAt) :: .int iTo :: .int iFr :: .long JFi :: .int iFa :: .ref qm3 :: .int iSt :: .int iLv :: .int iWs :: vLa :: .ref qmu :: .ref qmy :: .ref qmb :: .ref qms :: .int iNm_29 :: []) :: _ :: _ :: _ :: _ :: _ :: _ :: _ :: _ :: _ :: _ :: _ :: _ :: _ :: _ :: _ :: _ :: _ :: _ :: _ :: _ :: _ :: _ :: _ :: _ :: _ :: _ :: _ :: _ :: zzI cy qmy 5 fNy_30 :: zzI cy qmb 5 fNb_31 :: zzQ cy 5 qms 6 (sF (refU uN_32) (refU uN_33) (refU uN_34) (refU uN_35) (refU uN_36)) :: []) : va_W) ++ (oM cy uN_32 ++ (oM cy uN_33 ++ (oM cy uN_34 ++ (oM cy uN_35 ++ oM cy uN_36))))) hP hD rfl
                clear hP hD
                obtain ⟨hP, hD⟩ := hPD
                refine W.widen (k := 250) (n := 4440) (Nat.le_of_ble_eq_true rfl) (Nat.le_of_ble_eq_true rfl) ?_
                refine lv_iload_n hx hb (g_28 bX6_order rfl) rfl (lv_at hl 4 rfl) ?_
                refine lv_iconst (v := (-1)) hx hb (g_2 bX6_order rfl) (by decide +kernel) ?_
                refine lv_icmp_ne (tgt := 117) hx hb dX6_order_107 (by decide +kernel) (fun c_38 => ?_) (fun c_38 => ?_)
                · refine lv_aload_n hx hb (g_42 bX6_order rfl) rfl (lv_at hl 2 rfl) ?_
                  refine va_get (D := G) (ci := 5) (v := .ref qmb) (C := RX6) (T := TX6) (N := 35) hx hb hts iX_X6 hown hK hP 1 rfl rfl 32 (by decide +kernel) (hts _ m_t882) (fun _ h9 => h9) rfl (g_180 (v := 64) bX6_order rfl) ?_
                  refine lv_iload_n hx hb (g_28 bX6_order rfl) rfl (lv_at hl 4 rfl) ?_
                  refine va_iald hx hb hK hP 31 0 rfl rfl (bst_in (m := m_5) (by omega) h_19 c_38) (g_46 bX6_order rfl) ?_
                  exact endWt [[false, true], (true :: false :: true :: true :: true :: true :: true :: true :: true :: true :: true :: true :: true :: true :: true :: true :: true :: true :: true :: true :: true :: true :: true :: true :: true :: true :: true :: true :: true :: true :: true :: true :: true :: [])] hx hb hr hlocks rfl hP hD rfl (by decide +kernel) hS ⟨iNm_29, fMr, fJ_6, fNy_30, fNb_31, uN_32, uN_33, uN_34, uN_35, uN_36, rfl, trivial⟩ (g_172 bX6_order rfl)
                · refine lv_aload_n hx hb (g_42 bX6_order rfl) rfl (lv_at hl 2 rfl) ?_
                  refine va_get (D := G) (ci := 5) (v := .int iNm_29) (C := RX6) (T := TX6) (N := 35) hx hb hts iX_X6 hown hK hP 1 rfl rfl 34 (by decide +kernel) (hts _ m_t884) (fun _ h9 => h9) rfl (g_180 (v := 323) bX6_order rfl) ?_
                  refine lv_goto (tgt := 123) hx hb dX6_order_114 (by decide +kernel) ?_
                  exact endWt [[false, true], (true :: false :: true :: true :: true :: true :: true :: true :: true :: true :: true :: true :: true :: true :: true :: true :: true :: true :: true :: true :: true :: true :: true :: true :: true :: true :: true :: true :: true :: true :: true :: true :: true :: [])] hx hb hr hlocks rfl hP hD rfl (by decide +kernel) hS ⟨iNm_29, fMr, fJ_6, fNy_30, fNb_31, uN_32, uN_33, uN_34, uN_35, uN_36, rfl, trivial⟩ (g_172 bX6_order rfl)
              · refine lv_aload_n hx hb (g_42 bX6_order rfl) rfl (lv_at hl 2 rfl) ?_
                refine lv_bipush (v := (-5)) hx hb dX6_order_85 (by decide +kernel) ?_
                refine cViQ (As := [.int (-5)]) (rest := []) (b := qm) (q := (RX6, TX6, 35)) ⟨hx, hb, hml, hown, hts⟩ (c_X6_refuse5 l G cy (H).size qm (.ref qmh) (.ref qmo) (.ref qmz) (.ref qmR) (.ref qmv) (.ref qmk) (.ref qma) (.ref qmt) (.int (nI kZ)) qmr tA qmB qmO qmK iEn iTk (ov uP) (ov uU) (.int (nI kAt)) (.int iTo) (.int iFr) (.long JFi) (.int iFa) (.ref qm3) (.int iSt) iLv iWs vLa (.ref qmu) (.ref qmy) (.ref qmb) (.ref qms) (.int iOm) fMr) L_X6_91 hN hP hD hS hA [0, 1] (false :: false :: true :: true :: true :: true :: true :: true :: true :: true :: true :: true :: true :: true :: true :: true :: true :: true :: true :: true :: true :: true :: true :: true :: true :: true :: true :: true :: true :: true :: true :: true :: true :: []) rfl (by decide +kernel) rfl 0 5 rfl rfl rfl ⟨Nat.le_of_ble_eq_true rfl, Nat.le_of_ble_eq_true rfl⟩ hl.1 (Nat.le_of_ble_eq_true rfl) (g_182 (v := 91) bX6_order rfl) ⟨Nat.le_of_ble_eq_true rfl, Nat.le_of_ble_eq_true rfl⟩ (fun r_39 u_41 H locs h_40 => ?_)
                clear hP hD hS
                intro hP hD hS
                obtain ⟨fX_42, hu9, h_40⟩ := h_40
                have hPD := pd_eqQ (((_ :: _ :: _ :: _ :: _ :: _ :: _ :: _ :: _ :: _ :: _ :: _ :: _ :: _ :: _ :: _ :: _ :: _ :: _ :: _ :: _ :: _ :: _ :: _ :: _ :: _ :: _ :: _ :: _ :: _ :: _ :: _ :: zzI cy qmr 8 fX_42 :: []) : va_W) ++ (oM cy uS0 ++ (oM cy uS1 ++ (oM cy uS2 ++ (oM cy uS3 ++ oM cy uS4))))) hP hD hu9 rfl
                clear hP hD hu9
                obtain ⟨hP, hD⟩ := hPD
                subst h_40
                refine W.widen (k := 250) (n := 4440) (Nat.le_of_ble_eq_true rfl) (Nat.le_of_ble_eq_true rfl) ?_
                exact endWt [(false :: false :: false :: false :: false :: false :: false :: false :: false :: false :: false :: false :: false :: false :: false :: false :: false :: false :: false :: false :: false :: false :: false :: false :: false :: false :: false :: false :: false :: false :: false :: true :: true :: []), [true, true, true, true, true, true, true, true, true, true, true, true, true, true, true, true, true, true, true, true, true, true, true, true, true, true, true, true, true, true, true]] hx hb hr hlocks rfl hP hD rfl (by decide +kernel) hS ⟨iOm, fX_42, fJ_6, fMy, fMb, uS0, uS1, uS2, uS3, uS4, rfl, trivial⟩ (g_172 bX6_order rfl)
            · refine lv_if_eq (tgt := 84) hx hb dX6_order_76 (by decide +kernel) (fun _ => ?_) (fun h9 => absurd (by decide +kernel) h9)
              refine lv_aload_n hx hb (g_42 bX6_order rfl) rfl (lv_at hl 2 rfl) ?_
              refine lv_bipush (v := (-5)) hx hb dX6_order_85 (by decide +kernel) ?_
              refine cViQ (As := [.int (-5)]) (rest := []) (b := qm) (q := (RX6, TX6, 35)) ⟨hx, hb, hml, hown, hts⟩ (c_X6_refuse5 l G cy (H).size qm (.ref qmh) (.ref qmo) (.ref qmz) (.ref qmR) (.ref qmv) (.ref qmk) (.ref qma) (.ref qmt) (.int (nI kZ)) qmr tA qmB qmO qmK iEn iTk (ov uP) (ov uU) (.int (nI kAt)) (.int iTo) (.int iFr) (.long JFi) (.int iFa) (.ref qm3) (.int iSt) iLv iWs vLa (.ref qmu) (.ref qmy) (.ref qmb) (.ref qms) (.int iOm) fMr) L_X6_91 hN hP hD hS hA [0, 1] (false :: false :: true :: true :: true :: true :: true :: true :: true :: true :: true :: true :: true :: true :: true :: true :: true :: true :: true :: true :: true :: true :: true :: true :: true :: true :: true :: true :: true :: true :: true :: true :: true :: []) rfl (by decide +kernel) rfl 0 5 rfl rfl rfl ⟨Nat.le_of_ble_eq_true rfl, Nat.le_of_ble_eq_true rfl⟩ hl.1 (Nat.le_of_ble_eq_true rfl) (g_182 (v := 91) bX6_order rfl) ⟨Nat.le_of_ble_eq_true rfl, Nat.le_of_ble_eq_true rfl⟩ (fun r_44 u_46 H locs h_45 => ?_)
              clear hP hD hS
              intro hP hD hS
              obtain ⟨fX_47, hu9, h_45⟩ := h_45
              have hPD := pd_eqQ (((_ :: _ :: _ :: _ :: _ :: _ :: _ :: _ :: _ :: _ :: _ :: _ :: _ :: _ :: _ :: _ :: _ :: _ :: _ :: _ :: _ :: _ :: _ :: _ :: _ :: _ :: _ :: _ :: _ :: _ :: _ :: _ :: zzI cy qmr 8 fX_47 :: []) : va_W) ++ (oM cy uS0 ++ (oM cy uS1 ++ (oM cy uS2 ++ (oM cy uS3 ++ oM cy uS4))))) hP hD hu9 rfl
              clear hP hD hu9
              obtain ⟨hP, hD⟩ := hPD
              subst h_45
              refine W.widen (k := 250) (n := 4440) (Nat.le_of_ble_eq_true rfl) (Nat.le_of_ble_eq_true rfl) ?_
              exact endWt [(false :: false :: false :: false :: false :: false :: false :: false :: false :: false :: false :: false :: false :: false :: false :: false :: false :: false :: false :: false :: false :: false :: false :: false :: false :: false :: false :: false :: false :: false :: false :: true :: true :: []), [true, true, true, true, true, true, true, true, true, true, true, true, true, true, true, true, true, true, true, true, true, true, true, true, true, true, true, true, true, true, true]] hx hb hr hlocks rfl hP hD rfl (by decide +kernel) hS ⟨iOm, fX_47, fJ_6, fMy, fMb, uS0, uS1, uS2, uS3, uS4, rfl, trivial⟩ (g_172 bX6_order rfl)
          · refine lv_if_ne (tgt := 71) hx hb dX6_order_61 (by decide +kernel) (fun h9 => absurd (by decide +kernel) h9) (fun _ => ?_)
            refine lv_aload_n hx hb (g_42 bX6_order rfl) rfl (lv_at hl 2 rfl) ?_
            refine lv_bipush (v := (-2)) hx hb dX6_order_65 (by decide +kernel) ?_
            refine cViQ (As := [.int (-2)]) (rest := []) (b := qm) (q := (RX6, TX6, 35)) ⟨hx, hb, hml, hown, hts⟩ (c_X6_refuse2 l G cy (H).size qm (.ref qmh) (.ref qmo) (.ref qmz) (.ref qmR) (.ref qmv) (.ref qmk) (.ref qma) (.ref qmt) (.int (nI kZ)) qmr tA qmB qmO qmK iEn iTk (ov uP) (ov uU) (.int (nI kAt)) (.int iTo) (.int iFr) (.long JFi) (.int iFa) (.ref qm3) (.int iSt) iLv iWs vLa (.ref qmu) (.ref qmy) (.ref qmb) (.ref qms) (.int iOm) fMr) L_X6_91 hN hP hD hS hA [0, 1] (false :: false :: true :: true :: true :: true :: true :: true :: true :: true :: true :: true :: true :: true :: true :: true :: true :: true :: true :: true :: true :: true :: true :: true :: true :: true :: true :: true :: true :: true :: true :: true :: true :: []) rfl (by decide +kernel) rfl 0 5 rfl rfl rfl ⟨Nat.le_of_ble_eq_true rfl, Nat.le_of_ble_eq_true rfl⟩ hl.1 (Nat.le_of_ble_eq_true rfl) (g_182 (v := 91) bX6_order rfl) ⟨Nat.le_of_ble_eq_true rfl, Nat.le_of_ble_eq_true rfl⟩ (fun r_49 u_51 H locs h_50 => ?_)
            clear hP hD hS
            intro hP hD hS
            obtain ⟨fX_52, hu9, h_50⟩ := h_50
            have hPD := pd_eqQ (((_ :: _ :: _ :: _ :: _ :: _ :: _ :: _ :: _ :: _ :: _ :: _ :: _ :: _ :: _ :: _ :: _ :: _ :: _ :: _ :: _ :: _ :: _ :: _ :: _ :: _ :: _ :: _ :: _ :: _ :: _ :: _ :: zzI cy qmr 8 fX_52 :: []) : va_W) ++ (oM cy uS0 ++ (oM cy uS1 ++ (oM cy uS2 ++ (oM cy uS3 ++ oM cy uS4))))) hP hD hu9 rfl
            clear hP hD hu9
            obtain ⟨hP, hD⟩ := hPD
            subst h_50
            refine W.widen (k := 250) (n := 4440) (Nat.le_of_ble_eq_true rfl) (Nat.le_of_ble_eq_true rfl) ?_
            exact endWt [(false :: false :: false :: false :: false :: false :: false :: false :: false :: false :: false :: false :: false :: false :: false :: false :: false :: false :: false :: false :: false :: false :: false :: false :: false :: false :: false :: false :: false :: false :: false :: true :: true :: []), [true, true, true, true, true, true, true, true, true, true, true, true, true, true, true, true, true, true, true, true, true, true, true, true, true, true, true, true, true, true, true]] hx hb hr hlocks rfl hP hD rfl (by decide +kernel) hS ⟨iOm, fX_52, fJ_6, fMy, fMb, uS0, uS1, uS2, uS3, uS4, rfl, trivial⟩ (g_172 bX6_order rfl)
        · refine lv_if_eq (tgt := 64) hx hb dX6_order_46 (by decide +kernel) (fun _ => ?_) (fun h9 => absurd (by decide +kernel) h9)
          refine lv_aload_n hx hb (g_42 bX6_order rfl) rfl (lv_at hl 2 rfl) ?_
          refine lv_bipush (v := (-2)) hx hb dX6_order_65 (by decide +kernel) ?_
          refine cViQ (As := [.int (-2)]) (rest := []) (b := qm) (q := (RX6, TX6, 35)) ⟨hx, hb, hml, hown, hts⟩ (c_X6_refuse2 l G cy (H).size qm (.ref qmh) (.ref qmo) (.ref qmz) (.ref qmR) (.ref qmv) (.ref qmk) (.ref qma) (.ref qmt) (.int (nI kZ)) qmr tA qmB qmO qmK iEn iTk (ov uP) (ov uU) (.int (nI kAt)) (.int iTo) (.int iFr) (.long JFi) (.int iFa) (.ref qm3) (.int iSt) iLv iWs vLa (.ref qmu) (.ref qmy) (.ref qmb) (.ref qms) (.int iOm) fMr) L_X6_91 hN hP hD hS hA [0, 1] (false :: false :: true :: true :: true :: true :: true :: true :: true :: true :: true :: true :: true :: true :: true :: true :: true :: true :: true :: true :: true :: true :: true :: true :: true :: true :: true :: true :: true :: true :: true :: true :: true :: []) rfl (by decide +kernel) rfl 0 5 rfl rfl rfl ⟨Nat.le_of_ble_eq_true rfl, Nat.le_of_ble_eq_true rfl⟩ hl.1 (Nat.le_of_ble_eq_true rfl) (g_182 (v := 91) bX6_order rfl) ⟨Nat.le_of_ble_eq_true rfl, Nat.le_of_ble_eq_true rfl⟩ (fun r_54 u_56 H locs h_55 => ?_)
          clear hP hD hS
          intro hP hD hS
          obtain ⟨fX_57, hu9, h_55⟩ := h_55
          have hPD := pd_eqQ (((_ :: _ :: _ :: _ :: _ :: _ :: _ :: _ :: _ :: _ :: _ :: _ :: _ :: _ :: _ :: _ :: _ :: _ :: _ :: _ :: _ :: _ :: _ :: _ :: _ :: _ :: _ :: _ :: _ :: _ :: _ :: _ :: zzI cy qmr 8 fX_57 :: []) : va_W) ++ (oM cy uS0 ++ (oM cy uS1 ++ (oM cy uS2 ++ (oM cy uS3 ++ oM cy uS4))))) hP hD hu9 rfl
          clear hP hD hu9
          obtain ⟨hP, hD⟩ := hPD
          subst h_55
          refine W.widen (k := 250) (n := 4440) (Nat.le_of_ble_eq_true rfl) (Nat.le_of_ble_eq_true rfl) ?_
          exact endWt [(false :: false :: false :: false :: false :: false :: false :: false :: false :: false :: false :: false :: false :: false :: false :: false :: false :: false :: false :: false :: false :: false :: false :: false :: false :: false :: false :: false :: false :: false :: false :: true :: true :: []), [true, true, true, true, true, true, true, true, true, true, true, true, true, true, true, true, true, true, true, true, true, true, true, true, true, true, true, true, true, true, true]] hx hb hr hlocks rfl hP hD rfl (by decide +kernel) hS ⟨iOm, fX_57, fJ_6, fMy, fMb, uS0, uS1, uS2, uS3, uS4, rfl, trivial⟩ (g_172 bX6_order rfl)
      · have hlt_58 : j_4 < T_nb tA := lp_lt rfl rfl (by omega) (by omega) c_10
        refine lv_aload_n hx hb (g_42 bX6_order rfl) rfl (lv_at hl 2 rfl) ?_
        refine lv_iload hx hb (g_21 (v := 4) bX6_order rfl) (lv_at hl 0 rfl) ?_
        refine kRi (rV (As := [.int (nI j_4)]) (rest := []) (b := qm) ⟨hx, hb, hml, hown, hts⟩ (c_X6_isWhite l G cy qm (.ref qmh) (.ref qmo) (.ref qmz) (.ref qmR) (.ref qmv) (.ref qmk) (.ref qma) (.ref qmt) (.int (nI kZ)) (.ref qmr) tA qmB qmO qmK iEn iTk (ov uP) (ov uU) (.int (nI kAt)) (.int iTo) (.int iFr) (.long JFi) (.int iFa) (.ref qm3) (.int iSt) iLv iWs vLa (.ref qmu) (.ref qmy) (.ref qmb) (.ref qms) (.int iOm) rB j_4 (by first | omega | (simp only [nb_sr, np_sr, nb_wr, np_wr, nb_rd, np_rd, nb_ch, np_ch, nb_zr, np_zr, nb_za, np_za, nb_ey, np_ey, nb_hf, np_hf, nb_dd, np_dd, nb_so, np_so, nb_skn, np_skn, nb_swh, np_swh, nb_sgn, np_sgn, nb_ssd, np_ssd, nb_sgo, np_sgo, nb_sag, np_sag]; omega))) L_X6_248 (preRV (q := (RX6, TX6, 35)) hN hP (trueIx 0 [true, false, true, true, true, true, true, true, true, true, true]) (sel_fm rfl rfl) 0 5 rfl rfl) rfl ⟨Nat.le_of_ble_eq_true rfl, Nat.le_of_ble_eq_true rfl⟩ hl.1 (Nat.le_of_ble_eq_true rfl) (g_182 (v := 248) bX6_order rfl) ⟨Nat.le_of_ble_eq_true rfl, Nat.le_of_ble_eq_true rfl⟩) (fun r_59 h_60 => ?_)
        rcases h_60 with ⟨rfl, h_61⟩ | ⟨rfl, h_61⟩
        · refine lv_if_ne (tgt := 34) hx hb dX6_order_20 (by decide +kernel) (fun _ => ?_) (fun h9 => absurd h9 (by decide +kernel))
          refine lv_iinc (v := nI (j_4 + 1)) (lv' := [(4, .int (nI (j_4 + 1))), (3, .int (nI m_5)), (0, .ref qm), (1, .int iA), (2, .int iB)]) hx hb dX6_order_34 hl (k := 0) rfl (nI_1 _) (by decide +kernel) rfl (fun ls => ?_)
          clear hl
          intro hl
          refine lv_goto (tgt := 5) hx hb dX6_order_37 (by decide +kernel) ?_
          exact ih_3 (j_4 + 1) m_5 fJ_6 (by omega) (⟨by omega, by omega⟩) hUn_8 _ _ _ hP hD hS (lv_sub hl [0, 1, 2, 3, 4] rfl)
        · refine lv_if_ne (tgt := 34) hx hb dX6_order_20 (by decide +kernel) (fun h9 => absurd (by decide +kernel) h9) (fun _ => ?_)
          refine lv_aload_n hx hb (g_42 bX6_order rfl) rfl (lv_at hl 2 rfl) ?_
          refine va_get (D := G) (ci := 5) (v := .ref qmu) (C := RX6) (T := TX6) (N := 35) hx hb hts iX_X6 hown hK hP 0 rfl rfl 30 (by decide +kernel) (hts _ m_t880) (fun _ h9 => h9) rfl (g_180 (v := 58) bX6_order rfl) ?_
          refine lv_iload_n hx hb (g_29 bX6_order rfl) rfl (lv_at hl 1 rfl) ?_
          refine lv_iinc (v := nI (m_5 + 1)) (lv' := [(3, .int (nI (m_5 + 1))), (4, .int (nI j_4)), (0, .ref qm), (1, .int iA), (2, .int iB)]) hx hb dX6_order_28 hl (k := 1) rfl (nI_1 _) (by decide +kernel) rfl (fun ls => ?_)
          clear hl
          intro hl
          refine lv_iload hx hb (g_21 (v := 4) bX6_order rfl) (lv_at hl 1 rfl) ?_
          refine va_iast hx hb hK hP hD hS 29 0 rfl rfl (in8 (by omega)) (g_79 bX6_order rfl) (fun H locs => ?_)
          clear hP hD hS
          intro hP hD hS
          rw [cl8 (k := m_5) (by omega)] at hP hD
          have hPD := pd_as (((_ :: _ :: _ :: _ :: _ :: _ :: _ :: _ :: _ :: _ :: _ :: _ :: _ :: _ :: _ :: _ :: _ :: _ :: _ :: _ :: _ :: _ :: _ :: _ :: _ :: _ :: _ :: _ :: _ :: zzI cy qmu 8 (upd fJ_6 m_5 (nI j_4)) :: _ :: _ :: _ :: []) : va_W) ++ (oM cy uS0 ++ (oM cy uS1 ++ (oM cy uS2 ++ (oM cy uS3 ++ oM cy uS4))))) hP hD rfl
          clear hP hD
          obtain ⟨hP, hD⟩ := hPD
          refine lv_iinc (v := nI (j_4 + 1)) (lv' := [(4, .int (nI (j_4 + 1))), (3, .int (nI (m_5 + 1))), (0, .ref qm), (1, .int iA), (2, .int iB)]) hx hb dX6_order_34 hl (k := 1) rfl (nI_1 _) (by decide +kernel) rfl (fun ls => ?_)
          clear hl
          intro hl
          refine lv_goto (tgt := 5) hx hb dX6_order_37 (by decide +kernel) ?_
          exact ih_3 (j_4 + 1) (m_5 + 1) (upd fJ_6 m_5 (nI j_4)) (by omega) (⟨by omega, by omega⟩) (un_step (by omega) hUn_8) _ _ _ hP hD hS (lv_sub hl [0, 1, 2, 3, 4] rfl)
  exact lp_1 ((8 - 0) + 1) 0 0 fMu (Nat.lt_succ_self _) (⟨Nat.zero_le _, Nat.le_refl _⟩) (fun k h => absurd h (Nat.not_lt_zero _)) _ _ ls hP hD hS (lv_sub hl [0, 1, 2, 3, 4] rfl)
end
section
set_option maxHeartbeats 4000000 in
set_option maxRecDepth 100000 in
theorem k_X4_init (l : Launch) (G : va_G) (cy : Nat → ClassId) (sz : Nat) (qt : Nat)   : MW l yX4_init cX4_init 1 none 1 8 120 G cy [zzO qt 3 [.int 0, .int 0, .int 0, .int 0, .int 0, .null, .null, .null, .null, .null, .null, .null, .null]] sz [.ref qt] (Wv G (fun u => ∃ (qtw : Nat) (qtn : Nat) (qtg : Nat) (qta : Nat) (qtr : Nat) (qtm : Nat) (qtt : Nat) (qts : Nat), u = [zzO qt 3 [.int 0, .int 0, .int 0, .int 0, .int 1, .ref qtw, .ref qtn, .ref qtg, .ref qta, .ref qtr, .ref qtm, .ref qtt, .ref qts], zzI cy qtw 8 (fun _ => 0), zzI cy qtn 8 (fun _ => 0), zzI cy qtg 8 (fun _ => 0), zzI cy qta 8 (fun _ => 0), zzI cy qtr 8 (fun _ => 0), zzI cy qtm 8 (fun _ => 0), zzI cy qtt 8 (fun _ => 0), zzI cy qts 64 (fun _ => 0)])) := by
  refine enW RX4 (by decide +kernel) rfl (Nat.le_of_ble_eq_true rfl) (fun p e s m below meth c ls A hx hb hml hown hts hr hlocks hP hN hl hin hD hA hS => ?_)
  have hin : meth.name = _ := hin
  have hK := hN.1
  replace hl : lv_has ls 1 [(0, .ref qt)] := hl
  refine lv_aload_n hx hb (g_42 bX4_init rfl) rfl (lv_at hl 0 rfl) ?_
  refine W.objInit hx hb hown (hts _ m_t28) (hts _ m_t21) (hts _ m_t22) rfl (by rw [hml]; exact hl.1) rfl dX4_init_1 (Nat.le_of_ble_eq_true rfl) (Nat.le_of_ble_eq_true rfl) ?_
  refine W.eq (g2 := F0 m 4 ls []) rfl ?_
  refine lv_aload_n hx hb (g_42 bX4_init rfl) rfl (lv_at hl 0 rfl) ?_
  refine lv_iconst (v := 1) hx hb (g_4 bX4_init rfl) (by decide +kernel) ?_
  refine va_put (D := G) (ci := 3) (v := .int 1) (ty := .int) (C := RX4) (T := TX4) (N := 13) hx hb hts iX_X4 tyX4 tyX4_ok nmX4 hown hK hP hD hS 0 rfl rfl 4 (by decide +kernel) (hts _ m_t46) (fun _ h9 => h9) rfl (by decide +kernel) rfl rfl (Nat.le_of_ble_eq_true rfl) (g_181 (v := 9) bX4_init rfl) (fun H locs => ?_)
  clear hP hD hS
  intro hP hD hS
  have hPD := pd_as [zzO qt 3 [.int 0, .int 0, .int 0, .int 0, .int 1, .null, .null, .null, .null, .null, .null, .null, .null]] hP hD rfl
  clear hP hD
  obtain ⟨hP, hD⟩ := hPD
  refine lv_aload_n hx hb (g_42 bX4_init rfl) rfl (lv_at hl 0 rfl) ?_
  refine lv_bipush (v := 8) hx hb dX4_init_10 (by decide +kernel) ?_
  refine newI hx hb hts m_t92 hN hP hD hS hA 8 (by decide +kernel) (by decide +kernel) (Nat.le_of_ble_eq_true rfl) (Nat.le_of_ble_eq_true rfl) (Nat.le_of_ble_eq_true rfl) (g_na10 bX4_init rfl) (fun q_1 H => ?_)
  clear hP hD hS
  intro hP hD hS
  have hPD := pd_as [_, zzI cy q_1 8 (fun _ => 0)] hP hD rfl
  clear hP hD
  obtain ⟨hP, hD⟩ := hPD
  refine W.widen (k := 1) (n := 8) (Nat.le_of_ble_eq_true rfl) (Nat.le_of_ble_eq_true rfl) ?_
  refine va_putF (D := G) (ci := 3) (v := .ref q_1) (ty := (.array .int)) (C := RX4) (T := TX4) (N := 13) hx hb hts iX_X4 tyX4 tyX4_ok nmX4 hown hK hP hD hS 0 rfl rfl 5 (by decide +kernel) (hts _ m_t48) (fun _ h9 => h9) rfl hin rfl (by decide +kernel) rfl rfl (Nat.le_of_ble_eq_true rfl) (g_181 (v := 15) bX4_init rfl) (fun H locs => ?_)
  clear hP hD hS
  intro hP hD hS
  have hPD := pd_as [zzO qt 3 [.int 0, .int 0, .int 0, .int 0, .int 1, .ref q_1, .null, .null, .null, .null, .null, .null, .null], _] hP hD rfl
  clear hP hD
  obtain ⟨hP, hD⟩ := hPD
  refine lv_aload_n hx hb (g_42 bX4_init rfl) rfl (lv_at hl 0 rfl) ?_
  refine lv_bipush (v := 8) hx hb dX4_init_18 (by decide +kernel) ?_
  refine newI hx hb hts m_t92 hN hP hD hS hA 8 (by decide +kernel) (by decide +kernel) (Nat.le_of_ble_eq_true rfl) (Nat.le_of_ble_eq_true rfl) (Nat.le_of_ble_eq_true rfl) (g_na10 bX4_init rfl) (fun q_2 H => ?_)
  clear hP hD hS
  intro hP hD hS
  have hPD := pd_as [_, _, zzI cy q_2 8 (fun _ => 0)] hP hD rfl
  clear hP hD
  obtain ⟨hP, hD⟩ := hPD
  refine W.widen (k := 2) (n := 16) (Nat.le_of_ble_eq_true rfl) (Nat.le_of_ble_eq_true rfl) ?_
  refine va_putF (D := G) (ci := 3) (v := .ref q_2) (ty := (.array .int)) (C := RX4) (T := TX4) (N := 13) hx hb hts iX_X4 tyX4 tyX4_ok nmX4 hown hK hP hD hS 0 rfl rfl 6 (by decide +kernel) (hts _ m_t50) (fun _ h9 => h9) rfl hin rfl (by decide +kernel) rfl rfl (Nat.le_of_ble_eq_true rfl) (g_181 (v := 19) bX4_init rfl) (fun H locs => ?_)
  clear hP hD hS
  intro hP hD hS
  have hPD := pd_as [zzO qt 3 [.int 0, .int 0, .int 0, .int 0, .int 1, .ref q_1, .ref q_2, .null, .null, .null, .null, .null, .null], _, _] hP hD rfl
  clear hP hD
  obtain ⟨hP, hD⟩ := hPD
  refine lv_aload_n hx hb (g_42 bX4_init rfl) rfl (lv_at hl 0 rfl) ?_
  refine lv_bipush (v := 8) hx hb dX4_init_26 (by decide +kernel) ?_
  refine newI hx hb hts m_t92 hN hP hD hS hA 8 (by decide +kernel) (by decide +kernel) (Nat.le_of_ble_eq_true rfl) (Nat.le_of_ble_eq_true rfl) (Nat.le_of_ble_eq_true rfl) (g_na10 bX4_init rfl) (fun q_3 H => ?_)
  clear hP hD hS
  intro hP hD hS
  have hPD := pd_as [_, _, _, zzI cy q_3 8 (fun _ => 0)] hP hD rfl
  clear hP hD
  obtain ⟨hP, hD⟩ := hPD
  refine W.widen (k := 3) (n := 24) (Nat.le_of_ble_eq_true rfl) (Nat.le_of_ble_eq_true rfl) ?_
  refine va_putF (D := G) (ci := 3) (v := .ref q_3) (ty := (.array .int)) (C := RX4) (T := TX4) (N := 13) hx hb hts iX_X4 tyX4 tyX4_ok nmX4 hown hK hP hD hS 0 rfl rfl 7 (by decide +kernel) (hts _ m_t53) (fun _ h9 => h9) rfl hin rfl (by decide +kernel) rfl rfl (Nat.le_of_ble_eq_true rfl) (g_181 (v := 22) bX4_init rfl) (fun H locs => ?_)
  clear hP hD hS
  intro hP hD hS
  have hPD := pd_as [zzO qt 3 [.int 0, .int 0, .int 0, .int 0, .int 1, .ref q_1, .ref q_2, .ref q_3, .null, .null, .null, .null, .null], _, _, _] hP hD rfl
  clear hP hD
  obtain ⟨hP, hD⟩ := hPD
  refine lv_aload_n hx hb (g_42 bX4_init rfl) rfl (lv_at hl 0 rfl) ?_
  refine lv_bipush (v := 8) hx hb dX4_init_34 (by decide +kernel) ?_
  refine newI hx hb hts m_t92 hN hP hD hS hA 8 (by decide +kernel) (by decide +kernel) (Nat.le_of_ble_eq_true rfl) (Nat.le_of_ble_eq_true rfl) (Nat.le_of_ble_eq_true rfl) (g_na10 bX4_init rfl) (fun q_4 H => ?_)
  clear hP hD hS
  intro hP hD hS
  have hPD := pd_as [_, _, _, _, zzI cy q_4 8 (fun _ => 0)] hP hD rfl
  clear hP hD
  obtain ⟨hP, hD⟩ := hPD
  refine W.widen (k := 4) (n := 32) (Nat.le_of_ble_eq_true rfl) (Nat.le_of_ble_eq_true rfl) ?_
  refine va_putF (D := G) (ci := 3) (v := .ref q_4) (ty := (.array .int)) (C := RX4) (T := TX4) (N := 13) hx hb hts iX_X4 tyX4 tyX4_ok nmX4 hown hK hP hD hS 0 rfl rfl 8 (by decide +kernel) (hts _ m_t56) (fun _ h9 => h9) rfl hin rfl (by decide +kernel) rfl rfl (Nat.le_of_ble_eq_true rfl) (g_181 (v := 25) bX4_init rfl) (fun H locs => ?_)
  clear hP hD hS
  intro hP hD hS
  have hPD := pd_as [zzO qt 3 [.int 0, .int 0, .int 0, .int 0, .int 1, .ref q_1, .ref q_2, .ref q_3, .ref q_4, .null, .null, .null, .null], _, _, _, _] hP hD rfl
  clear hP hD
  obtain ⟨hP, hD⟩ := hPD
  refine lv_aload_n hx hb (g_42 bX4_init rfl) rfl (lv_at hl 0 rfl) ?_
  refine lv_bipush (v := 8) hx hb dX4_init_42 (by decide +kernel) ?_
  refine newI hx hb hts m_t92 hN hP hD hS hA 8 (by decide +kernel) (by decide +kernel) (Nat.le_of_ble_eq_true rfl) (Nat.le_of_ble_eq_true rfl) (Nat.le_of_ble_eq_true rfl) (g_na10 bX4_init rfl) (fun q_5 H => ?_)
  clear hP hD hS
  intro hP hD hS
  have hPD := pd_as [_, _, _, _, _, zzI cy q_5 8 (fun _ => 0)] hP hD rfl
  clear hP hD
  obtain ⟨hP, hD⟩ := hPD
  refine W.widen (k := 5) (n := 40) (Nat.le_of_ble_eq_true rfl) (Nat.le_of_ble_eq_true rfl) ?_
  refine va_putF (D := G) (ci := 3) (v := .ref q_5) (ty := (.array .int)) (C := RX4) (T := TX4) (N := 13) hx hb hts iX_X4 tyX4 tyX4_ok nmX4 hown hK hP hD hS 0 rfl rfl 9 (by decide +kernel) (hts _ m_t58) (fun _ h9 => h9) rfl hin rfl (by decide +kernel) rfl rfl (Nat.le_of_ble_eq_true rfl) (g_181 (v := 28) bX4_init rfl) (fun H locs => ?_)
  clear hP hD hS
  intro hP hD hS
  have hPD := pd_as [zzO qt 3 [.int 0, .int 0, .int 0, .int 0, .int 1, .ref q_1, .ref q_2, .ref q_3, .ref q_4, .ref q_5, .null, .null, .null], _, _, _, _, _] hP hD rfl
  clear hP hD
  obtain ⟨hP, hD⟩ := hPD
  refine lv_aload_n hx hb (g_42 bX4_init rfl) rfl (lv_at hl 0 rfl) ?_
  refine lv_bipush (v := 8) hx hb dX4_init_50 (by decide +kernel) ?_
  refine newI hx hb hts m_t92 hN hP hD hS hA 8 (by decide +kernel) (by decide +kernel) (Nat.le_of_ble_eq_true rfl) (Nat.le_of_ble_eq_true rfl) (Nat.le_of_ble_eq_true rfl) (g_na10 bX4_init rfl) (fun q_6 H => ?_)
  clear hP hD hS
  intro hP hD hS
  have hPD := pd_as [_, _, _, _, _, _, zzI cy q_6 8 (fun _ => 0)] hP hD rfl
  clear hP hD
  obtain ⟨hP, hD⟩ := hPD
  refine W.widen (k := 6) (n := 48) (Nat.le_of_ble_eq_true rfl) (Nat.le_of_ble_eq_true rfl) ?_
  refine va_putF (D := G) (ci := 3) (v := .ref q_6) (ty := (.array .int)) (C := RX4) (T := TX4) (N := 13) hx hb hts iX_X4 tyX4 tyX4_ok nmX4 hown hK hP hD hS 0 rfl rfl 10 (by decide +kernel) (hts _ m_t60) (fun _ h9 => h9) rfl hin rfl (by decide +kernel) rfl rfl (Nat.le_of_ble_eq_true rfl) (g_181 (v := 31) bX4_init rfl) (fun H locs => ?_)
  clear hP hD hS
  intro hP hD hS
  have hPD := pd_as [zzO qt 3 [.int 0, .int 0, .int 0, .int 0, .int 1, .ref q_1, .ref q_2, .ref q_3, .ref q_4, .ref q_5, .ref q_6, .null, .null], _, _, _, _, _, _] hP hD rfl
  clear hP hD
  obtain ⟨hP, hD⟩ := hPD
  refine lv_aload_n hx hb (g_42 bX4_init rfl) rfl (lv_at hl 0 rfl) ?_
  refine lv_bipush (v := 8) hx hb dX4_init_58 (by decide +kernel) ?_
  refine newI hx hb hts m_t92 hN hP hD hS hA 8 (by decide +kernel) (by decide +kernel) (Nat.le_of_ble_eq_true rfl) (Nat.le_of_ble_eq_true rfl) (Nat.le_of_ble_eq_true rfl) (g_na10 bX4_init rfl) (fun q_7 H => ?_)
  clear hP hD hS
  intro hP hD hS
  have hPD := pd_as [_, _, _, _, _, _, _, zzI cy q_7 8 (fun _ => 0)] hP hD rfl
  clear hP hD
  obtain ⟨hP, hD⟩ := hPD
  refine W.widen (k := 7) (n := 56) (Nat.le_of_ble_eq_true rfl) (Nat.le_of_ble_eq_true rfl) ?_
  refine va_putF (D := G) (ci := 3) (v := .ref q_7) (ty := (.array .int)) (C := RX4) (T := TX4) (N := 13) hx hb hts iX_X4 tyX4 tyX4_ok nmX4 hown hK hP hD hS 0 rfl rfl 11 (by decide +kernel) (hts _ m_t62) (fun _ h9 => h9) rfl hin rfl (by decide +kernel) rfl rfl (Nat.le_of_ble_eq_true rfl) (g_181 (v := 34) bX4_init rfl) (fun H locs => ?_)
  clear hP hD hS
  intro hP hD hS
  have hPD := pd_as [zzO qt 3 [.int 0, .int 0, .int 0, .int 0, .int 1, .ref q_1, .ref q_2, .ref q_3, .ref q_4, .ref q_5, .ref q_6, .ref q_7, .null], _, _, _, _, _, _, _] hP hD rfl
  clear hP hD
  obtain ⟨hP, hD⟩ := hPD
  refine lv_aload_n hx hb (g_42 bX4_init rfl) rfl (lv_at hl 0 rfl) ?_
  refine lv_bipush (v := 64) hx hb dX4_init_66 (by decide +kernel) ?_
  refine newI hx hb hts m_t92 hN hP hD hS hA 64 (by decide +kernel) (by decide +kernel) (Nat.le_of_ble_eq_true rfl) (Nat.le_of_ble_eq_true rfl) (Nat.le_of_ble_eq_true rfl) (g_na10 bX4_init rfl) (fun q_8 H => ?_)
  clear hP hD hS
  intro hP hD hS
  have hPD := pd_as [_, _, _, _, _, _, _, _, zzI cy q_8 64 (fun _ => 0)] hP hD rfl
  clear hP hD
  obtain ⟨hP, hD⟩ := hPD
  refine W.widen (k := 8) (n := 120) (Nat.le_of_ble_eq_true rfl) (Nat.le_of_ble_eq_true rfl) ?_
  refine va_putF (D := G) (ci := 3) (v := .ref q_8) (ty := (.array .int)) (C := RX4) (T := TX4) (N := 13) hx hb hts iX_X4 tyX4 tyX4_ok nmX4 hown hK hP hD hS 0 rfl rfl 12 (by decide +kernel) (hts _ m_t64) (fun _ h9 => h9) rfl hin rfl (by decide +kernel) rfl rfl (Nat.le_of_ble_eq_true rfl) (g_181 (v := 37) bX4_init rfl) (fun H locs => ?_)
  clear hP hD hS
  intro hP hD hS
  have hPD := pd_as [zzO qt 3 [.int 0, .int 0, .int 0, .int 0, .int 1, .ref q_1, .ref q_2, .ref q_3, .ref q_4, .ref q_5, .ref q_6, .ref q_7, .ref q_8], _, _, _, _, _, _, _, _] hP hD rfl
  clear hP hD
  obtain ⟨hP, hD⟩ := hPD
  exact endVs [[true, true, true, true, true, true, true, true, true]] hx hb hr hlocks hP hD rfl (by decide +kernel) hS ⟨q_1, q_2, q_3, q_4, q_5, q_6, q_7, q_8, rfl⟩ (g_177 bX4_init rfl)
set_option maxHeartbeats 4000000 in
set_option maxRecDepth 100000 in
theorem k_X0_init (l : Launch) (G : va_G) (cy : Nat → ClassId) (sz : Nat) (qp : Nat)   : MW l yX0_init cX0_init 1 none 2 18 266 G cy [zzO qp 0 [.null, .null, .int 0, .int 0]] sz [.ref qp] (Wv G (fun u => ∃ (qu : Nat) (quw : Nat) (qun : Nat) (qug : Nat) (qua : Nat) (qur : Nat) (qum : Nat) (qut : Nat) (qus : Nat) (qv : Nat) (qvw : Nat) (qvn : Nat) (qvg : Nat) (qva : Nat) (qvr : Nat) (qvm : Nat) (qvt : Nat) (qvs : Nat), u = [zzO qp 0 [.ref qu, .ref qv, .int 0, .int 0], zzO qu 3 [.int 0, .int 0, .int 0, .int 0, .int 1, .ref quw, .ref qun, .ref qug, .ref qua, .ref qur, .ref qum, .ref qut, .ref qus], zzI cy quw 8 (fun _ => 0), zzI cy qun 8 (fun _ => 0), zzI cy qug 8 (fun _ => 0), zzI cy qua 8 (fun _ => 0), zzI cy qur 8 (fun _ => 0), zzI cy qum 8 (fun _ => 0), zzI cy qut 8 (fun _ => 0), zzI cy qus 64 (fun _ => 0), zzO qv 3 [.int 0, .int 0, .int 0, .int 0, .int 1, .ref qvw, .ref qvn, .ref qvg, .ref qva, .ref qvr, .ref qvm, .ref qvt, .ref qvs], zzI cy qvw 8 (fun _ => 0), zzI cy qvn 8 (fun _ => 0), zzI cy qvg 8 (fun _ => 0), zzI cy qva 8 (fun _ => 0), zzI cy qvr 8 (fun _ => 0), zzI cy qvm 8 (fun _ => 0), zzI cy qvt 8 (fun _ => 0), zzI cy qvs 64 (fun _ => 0)])) := by
  refine enW RX0 (by decide +kernel) rfl (Nat.le_of_ble_eq_true rfl) (fun p e s m below meth c ls A hx hb hml hown hts hr hlocks hP hN hl hin hD hA hS => ?_)
  have hin : meth.name = _ := hin
  have hK := hN.1
  replace hl : lv_has ls 1 [(0, .ref qp)] := hl
  refine lv_aload_n hx hb (g_42 bX0_init rfl) rfl (lv_at hl 0 rfl) ?_
  refine W.objInit hx hb hown (hts _ m_t98) (hts _ m_t21) (hts _ m_t22) rfl (by rw [hml]; exact hl.1) rfl dX0_init_1 (Nat.le_of_ble_eq_true rfl) (Nat.le_of_ble_eq_true rfl) ?_
  refine W.eq (g2 := F0 m 4 ls []) rfl ?_
  refine lv_aload_n hx hb (g_42 bX0_init rfl) rfl (lv_at hl 0 rfl) ?_
  refine va_new (ci := 3) (fs := [.int 0, .int 0, .int 0, .int 0, .int 0, .null, .null, .null, .null, .null, .null, .null, .null]) (C := RX4) (T := TX4) (N := 13) hx hb hts iX_X4 tyX4 tyX4_ok hown (hts _ m_t99) (hts _ m_t24) (hts _ m_t2) hK hP hD hS hA rfl df_X4 (Nat.le_of_ble_eq_true rfl) (Nat.le_of_ble_eq_true rfl) (g_187 (v := 9) bX0_init rfl) (fun q_1 H => ?_)
  clear hP hD hS
  intro hP hD hS
  have hPD := pd_as [_, zzO q_1 3 [.int 0, .int 0, .int 0, .int 0, .int 0, .null, .null, .null, .null, .null, .null, .null, .null]] hP hD rfl
  clear hP hD
  obtain ⟨hP, hD⟩ := hPD
  refine W.widen (k := 1) (n := 13) (Nat.le_of_ble_eq_true rfl) (Nat.le_of_ble_eq_true rfl) ?_
  refine lv_dup hx hb (g_89 bX0_init rfl) rfl ?_
  refine cINv (As := []) (rest := [.ref q_1, .ref qp]) (b := q_1) ⟨hx, hb, hml, hown, hts⟩ (k_X4_init l G cy (H).size q_1) L_X0_11 hN hP hD hS hA [1] [true, false] rfl (by decide +kernel) rfl rfl ⟨Nat.le_of_ble_eq_true rfl, Nat.le_of_ble_eq_true rfl⟩ hl.1 (Nat.le_of_ble_eq_true rfl) (g_183 (v := 11) bX0_init rfl) ⟨Nat.le_of_ble_eq_true rfl, Nat.le_of_ble_eq_true rfl⟩ (fun u_4 H locs h_3 => ?_)
  clear hP hD hS
  intro hP hD hS
  obtain ⟨qtw_5, qtn_6, qtg_7, qta_8, qtr_9, qtm_10, qtt_11, qts_12, hu9⟩ := h_3
  have hPD := pd_eq [_, zzO q_1 3 [.int 0, .int 0, .int 0, .int 0, .int 1, .ref qtw_5, .ref qtn_6, .ref qtg_7, .ref qta_8, .ref qtr_9, .ref qtm_10, .ref qtt_11, .ref qts_12], zzI cy qtw_5 8 (fun _ => 0), zzI cy qtn_6 8 (fun _ => 0), zzI cy qtg_7 8 (fun _ => 0), zzI cy qta_8 8 (fun _ => 0), zzI cy qtr_9 8 (fun _ => 0), zzI cy qtm_10 8 (fun _ => 0), zzI cy qtt_11 8 (fun _ => 0), zzI cy qts_12 64 (fun _ => 0)] hP hD hu9 rfl
  clear hP hD hu9
  obtain ⟨hP, hD⟩ := hPD
  refine W.widen (k := 9) (n := 133) (Nat.le_of_ble_eq_true rfl) (Nat.le_of_ble_eq_true rfl) ?_
  refine va_putF (D := G) (ci := 0) (v := .ref q_1) (ty := (.object "EachBookOnce$Town")) (C := RX0) (T := TX0) (N := 4) hx hb hts iX_X0 tyX0 tyX0_ok nmX0 hown hK hP hD hS 0 rfl rfl 0 (by decide +kernel) (hts _ m_t101) (fun _ h9 => h9) rfl hin rfl (by decide +kernel) rfl rfl (Nat.le_of_ble_eq_true rfl) (g_181 (v := 12) bX0_init rfl) (fun H locs => ?_)
  clear hP hD hS
  intro hP hD hS
  have hPD := pd_as [zzO qp 0 [.ref q_1, .null, .int 0, .int 0], _, _, _, _, _, _, _, _, _] hP hD rfl
  clear hP hD
  obtain ⟨hP, hD⟩ := hPD
  refine lv_aload_n hx hb (g_42 bX0_init rfl) rfl (lv_at hl 0 rfl) ?_
  refine va_new (ci := 3) (fs := [.int 0, .int 0, .int 0, .int 0, .int 0, .null, .null, .null, .null, .null, .null, .null, .null]) (C := RX4) (T := TX4) (N := 13) hx hb hts iX_X4 tyX4 tyX4_ok hown (hts _ m_t99) (hts _ m_t24) (hts _ m_t2) hK hP hD hS hA rfl df_X4 (Nat.le_of_ble_eq_true rfl) (Nat.le_of_ble_eq_true rfl) (g_187 (v := 9) bX0_init rfl) (fun q_13 H => ?_)
  clear hP hD hS
  intro hP hD hS
  have hPD := pd_as [_, _, _, _, _, _, _, _, _, _, zzO q_13 3 [.int 0, .int 0, .int 0, .int 0, .int 0, .null, .null, .null, .null, .null, .null, .null, .null]] hP hD rfl
  clear hP hD
  obtain ⟨hP, hD⟩ := hPD
  refine W.widen (k := 10) (n := 146) (Nat.le_of_ble_eq_true rfl) (Nat.le_of_ble_eq_true rfl) ?_
  refine lv_dup hx hb (g_89 bX0_init rfl) rfl ?_
  refine cINv (As := []) (rest := [.ref q_13, .ref qp]) (b := q_13) ⟨hx, hb, hml, hown, hts⟩ (k_X4_init l G cy (H).size q_13) L_X0_11 hN hP hD hS hA [10] [true, true, true, true, true, true, true, true, true, true, false] rfl (by decide +kernel) rfl rfl ⟨Nat.le_of_ble_eq_true rfl, Nat.le_of_ble_eq_true rfl⟩ hl.1 (Nat.le_of_ble_eq_true rfl) (g_183 (v := 11) bX0_init rfl) ⟨Nat.le_of_ble_eq_true rfl, Nat.le_of_ble_eq_true rfl⟩ (fun u_16 H locs h_15 => ?_)
  clear hP hD hS
  intro hP hD hS
  obtain ⟨qtw_17, qtn_18, qtg_19, qta_20, qtr_21, qtm_22, qtt_23, qts_24, hu9⟩ := h_15
  have hPD := pd_eq [_, _, _, _, _, _, _, _, _, _, zzO q_13 3 [.int 0, .int 0, .int 0, .int 0, .int 1, .ref qtw_17, .ref qtn_18, .ref qtg_19, .ref qta_20, .ref qtr_21, .ref qtm_22, .ref qtt_23, .ref qts_24], zzI cy qtw_17 8 (fun _ => 0), zzI cy qtn_18 8 (fun _ => 0), zzI cy qtg_19 8 (fun _ => 0), zzI cy qta_20 8 (fun _ => 0), zzI cy qtr_21 8 (fun _ => 0), zzI cy qtm_22 8 (fun _ => 0), zzI cy qtt_23 8 (fun _ => 0), zzI cy qts_24 64 (fun _ => 0)] hP hD hu9 rfl
  clear hP hD hu9
  obtain ⟨hP, hD⟩ := hPD
  refine W.widen (k := 18) (n := 266) (Nat.le_of_ble_eq_true rfl) (Nat.le_of_ble_eq_true rfl) ?_
  refine va_putF (D := G) (ci := 0) (v := .ref q_13) (ty := (.object "EachBookOnce$Town")) (C := RX0) (T := TX0) (N := 4) hx hb hts iX_X0 tyX0 tyX0_ok nmX0 hown hK hP hD hS 0 rfl rfl 1 (by decide +kernel) (hts _ m_t103) (fun _ h9 => h9) rfl hin rfl (by decide +kernel) rfl rfl (Nat.le_of_ble_eq_true rfl) (g_181 (v := 18) bX0_init rfl) (fun H locs => ?_)
  clear hP hD hS
  intro hP hD hS
  have hPD := pd_as [zzO qp 0 [.ref q_1, .ref q_13, .int 0, .int 0], _, _, _, _, _, _, _, _, _, _, _, _, _, _, _, _, _, _] hP hD rfl
  clear hP hD
  obtain ⟨hP, hD⟩ := hPD
  exact endVs [[true, true, true, true, true, true, true, true, true, true, true, true, true, true, true, true, true, true, true]] hx hb hr hlocks hP hD rfl (by decide +kernel) hS ⟨q_1, qtw_5, qtn_6, qtg_7, qta_8, qtr_9, qtm_10, qtt_11, qts_12, q_13, qtw_17, qtn_18, qtg_19, qta_20, qtr_21, qtm_22, qtt_23, qts_24, rfl⟩ (g_177 bX0_init rfl)
set_option maxHeartbeats 4000000 in
set_option maxRecDepth 100000 in
theorem k_X2_init (l : Launch) (G : va_G) (cy : Nat → ClassId) (sz : Nat) (qs : Nat)   : MW l yX2_init cX2_init 2 none 1 4 344 G cy [zzO qs 1 [.null, .null, .null, .null]] sz [.ref qs] (Wv G (fun u => ∃ (qsh : Nat) (qss : Nat) (qsa : Nat) (qse : Nat) (fH : Nat → Int32), u = [zzO qs 1 [.ref qsh, .ref qss, .ref qsa, .ref qse], zzI cy qsh 8 fH, zzI cy qss 8 (fun _ => 0), zzI cy qsa 8 (fun _ => 0), zzJ cy qse 320 (fun _ => 0)] ∧ (∀ i, i < 8 → fH i = -1))) := by
  refine enW RX2 (by decide +kernel) rfl (Nat.le_of_ble_eq_true rfl) (fun p e s m below meth c ls A hx hb hml hown hts hr hlocks hP hN hl hin hD hA hS => ?_)
  have hin : meth.name = _ := hin
  have hK := hN.1
  replace hl : lv_has ls 2 [(0, .ref qs)] := hl
  refine lv_aload_n hx hb (g_42 bX2_init rfl) rfl (lv_at hl 0 rfl) ?_
  refine W.objInit hx hb hown (hts _ m_t122) (hts _ m_t21) (hts _ m_t22) rfl (by rw [hml]; exact hl.1) rfl dX2_init_1 (Nat.le_of_ble_eq_true rfl) (Nat.le_of_ble_eq_true rfl) ?_
  refine W.eq (g2 := F0 m 4 ls []) rfl ?_
  refine lv_aload_n hx hb (g_42 bX2_init rfl) rfl (lv_at hl 0 rfl) ?_
  refine lv_bipush (v := 8) hx hb dX2_init_5 (by decide +kernel) ?_
  refine newI hx hb hts m_t92 hN hP hD hS hA 8 (by decide +kernel) (by decide +kernel) (Nat.le_of_ble_eq_true rfl) (Nat.le_of_ble_eq_true rfl) (Nat.le_of_ble_eq_true rfl) (g_na10 bX2_init rfl) (fun q_1 H => ?_)
  clear hP hD hS
  intro hP hD hS
  have hPD := pd_as [_, zzI cy q_1 8 (fun _ => 0)] hP hD rfl
  clear hP hD
  obtain ⟨hP, hD⟩ := hPD
  refine W.widen (k := 1) (n := 8) (Nat.le_of_ble_eq_true rfl) (Nat.le_of_ble_eq_true rfl) ?_
  refine va_putF (D := G) (ci := 1) (v := .ref q_1) (ty := (.array .int)) (C := RX2) (T := TX2) (N := 4) hx hb hts iX_X2 tyX2 tyX2_ok nmX2 hown hK hP hD hS 0 rfl rfl 0 (by decide +kernel) (hts _ m_t123) (fun _ h9 => h9) rfl hin rfl (by decide +kernel) rfl rfl (Nat.le_of_ble_eq_true rfl) (g_181 (v := 9) bX2_init rfl) (fun H locs => ?_)
  clear hP hD hS
  intro hP hD hS
  have hPD := pd_as [zzO qs 1 [.ref q_1, .null, .null, .null], _] hP hD rfl
  clear hP hD
  obtain ⟨hP, hD⟩ := hPD
  refine lv_aload_n hx hb (g_42 bX2_init rfl) rfl (lv_at hl 0 rfl) ?_
  refine lv_bipush (v := 8) hx hb dX2_init_13 (by decide +kernel) ?_
  refine newI hx hb hts m_t92 hN hP hD hS hA 8 (by decide +kernel) (by decide +kernel) (Nat.le_of_ble_eq_true rfl) (Nat.le_of_ble_eq_true rfl) (Nat.le_of_ble_eq_true rfl) (g_na10 bX2_init rfl) (fun q_2 H => ?_)
  clear hP hD hS
  intro hP hD hS
  have hPD := pd_as [_, _, zzI cy q_2 8 (fun _ => 0)] hP hD rfl
  clear hP hD
  obtain ⟨hP, hD⟩ := hPD
  refine W.widen (k := 2) (n := 16) (Nat.le_of_ble_eq_true rfl) (Nat.le_of_ble_eq_true rfl) ?_
  refine va_putF (D := G) (ci := 1) (v := .ref q_2) (ty := (.array .int)) (C := RX2) (T := TX2) (N := 4) hx hb hts iX_X2 tyX2 tyX2_ok nmX2 hown hK hP hD hS 0 rfl rfl 1 (by decide +kernel) (hts _ m_t125) (fun _ h9 => h9) rfl hin rfl (by decide +kernel) rfl rfl (Nat.le_of_ble_eq_true rfl) (g_181 (v := 15) bX2_init rfl) (fun H locs => ?_)
  clear hP hD hS
  intro hP hD hS
  have hPD := pd_as [zzO qs 1 [.ref q_1, .ref q_2, .null, .null], _, _] hP hD rfl
  clear hP hD
  obtain ⟨hP, hD⟩ := hPD
  refine lv_aload_n hx hb (g_42 bX2_init rfl) rfl (lv_at hl 0 rfl) ?_
  refine lv_bipush (v := 8) hx hb dX2_init_21 (by decide +kernel) ?_
  refine newI hx hb hts m_t92 hN hP hD hS hA 8 (by decide +kernel) (by decide +kernel) (Nat.le_of_ble_eq_true rfl) (Nat.le_of_ble_eq_true rfl) (Nat.le_of_ble_eq_true rfl) (g_na10 bX2_init rfl) (fun q_3 H => ?_)
  clear hP hD hS
  intro hP hD hS
  have hPD := pd_as [_, _, _, zzI cy q_3 8 (fun _ => 0)] hP hD rfl
  clear hP hD
  obtain ⟨hP, hD⟩ := hPD
  refine W.widen (k := 3) (n := 24) (Nat.le_of_ble_eq_true rfl) (Nat.le_of_ble_eq_true rfl) ?_
  refine va_putF (D := G) (ci := 1) (v := .ref q_3) (ty := (.array .int)) (C := RX2) (T := TX2) (N := 4) hx hb hts iX_X2 tyX2 tyX2_ok nmX2 hown hK hP hD hS 0 rfl rfl 2 (by decide +kernel) (hts _ m_t127) (fun _ h9 => h9) rfl hin rfl (by decide +kernel) rfl rfl (Nat.le_of_ble_eq_true rfl) (g_181 (v := 18) bX2_init rfl) (fun H locs => ?_)
  clear hP hD hS
  intro hP hD hS
  have hPD := pd_as [zzO qs 1 [.ref q_1, .ref q_2, .ref q_3, .null], _, _, _] hP hD rfl
  clear hP hD
  obtain ⟨hP, hD⟩ := hPD
  refine lv_aload_n hx hb (g_42 bX2_init rfl) rfl (lv_at hl 0 rfl) ?_
  refine lv_sipush (v := 320) hx hb dX2_init_29 (by decide +kernel) ?_
  refine newJ hx hb hts m_t139 hN hP hD hS hA 320 (by decide +kernel) (by decide +kernel) (Nat.le_of_ble_eq_true rfl) (Nat.le_of_ble_eq_true rfl) (Nat.le_of_ble_eq_true rfl) (g_na11 bX2_init rfl) (fun q_4 H => ?_)
  clear hP hD hS
  intro hP hD hS
  have hPD := pd_as [_, _, _, _, zzJ cy q_4 320 (fun _ => 0)] hP hD rfl
  clear hP hD
  obtain ⟨hP, hD⟩ := hPD
  refine W.widen (k := 4) (n := 344) (Nat.le_of_ble_eq_true rfl) (Nat.le_of_ble_eq_true rfl) ?_
  refine va_putF (D := G) (ci := 1) (v := .ref q_4) (ty := (.array .long)) (C := RX2) (T := TX2) (N := 4) hx hb hts iX_X2 tyX2 tyX2_ok nmX2 hown hK hP hD hS 0 rfl rfl 3 (by decide +kernel) (hts _ m_t129) (fun _ h9 => h9) rfl hin rfl (by decide +kernel) rfl rfl (Nat.le_of_ble_eq_true rfl) (g_181 (v := 21) bX2_init rfl) (fun H locs => ?_)
  clear hP hD hS
  intro hP hD hS
  have hPD := pd_as [zzO qs 1 [.ref q_1, .ref q_2, .ref q_3, .ref q_4], _, _, _, _] hP hD rfl
  clear hP hD
  obtain ⟨hP, hD⟩ := hPD
  refine lv_iconst (v := 0) hx hb (g_3 bX2_init rfl) (by decide +kernel) ?_
  refine lv_istore_n (lv' := [(1, .int 0), (0, .ref qs)]) hx hb (g_60 bX2_init rfl) rfl hl (by decide +kernel) rfl (fun ls => ?_)
  clear hl
  intro hl
  refine lv_iload_n hx hb (g_27 bX2_init rfl) rfl (lv_at hl 0 rfl) ?_
  refine lv_bipush (v := 8) hx hb dX2_init_40 (by decide +kernel) ?_
  refine lv_icmp_ge (tgt := 58) hx hb dX2_init_42 (by decide +kernel) (fun h9 => absurd h9 (by decide +kernel)) (fun _ => ?_)
  refine lv_aload_n hx hb (g_42 bX2_init rfl) rfl (lv_at hl 1 rfl) ?_
  refine va_get (D := G) (ci := 1) (v := .ref q_1) (C := RX2) (T := TX2) (N := 4) hx hb hts iX_X2 hown hK hP 0 rfl rfl 0 (by decide +kernel) (hts _ m_t123) (fun _ h9 => h9) rfl (g_180 (v := 9) bX2_init rfl) ?_
  refine lv_iload_n hx hb (g_27 bX2_init rfl) rfl (lv_at hl 0 rfl) ?_
  refine lv_iconst (v := (-1)) hx hb (g_2 bX2_init rfl) (by decide +kernel) ?_
  refine va_iast hx hb hK hP hD hS 1 0 rfl rfl (in_c rfl) (g_79 bX2_init rfl) (fun H locs => ?_)
  clear hP hD hS
  intro hP hD hS
  have hPD := pd_as [_, zzI cy q_1 8 (upd (fun _ => 0) 0 (-1)), _, _, _] hP hD rfl
  clear hP hD
  obtain ⟨hP, hD⟩ := hPD
  refine lv_iinc (v := 1) (lv' := [(1, .int 1), (0, .ref qs)]) hx hb dX2_init_52 hl (k := 0) rfl (by decide +kernel) (by decide +kernel) rfl (fun ls => ?_)
  clear hl
  intro hl
  refine lv_goto (tgt := 39) hx hb dX2_init_55 (by decide +kernel) ?_
  refine lv_iload_n hx hb (g_27 bX2_init rfl) rfl (lv_at hl 0 rfl) ?_
  refine lv_bipush (v := 8) hx hb dX2_init_40 (by decide +kernel) ?_
  refine lv_icmp_ge (tgt := 58) hx hb dX2_init_42 (by decide +kernel) (fun h9 => absurd h9 (by decide +kernel)) (fun _ => ?_)
  refine lv_aload_n hx hb (g_42 bX2_init rfl) rfl (lv_at hl 1 rfl) ?_
  refine va_get (D := G) (ci := 1) (v := .ref q_1) (C := RX2) (T := TX2) (N := 4) hx hb hts iX_X2 hown hK hP 0 rfl rfl 0 (by decide +kernel) (hts _ m_t123) (fun _ h9 => h9) rfl (g_180 (v := 9) bX2_init rfl) ?_
  refine lv_iload_n hx hb (g_27 bX2_init rfl) rfl (lv_at hl 0 rfl) ?_
  refine lv_iconst (v := (-1)) hx hb (g_2 bX2_init rfl) (by decide +kernel) ?_
  refine va_iast hx hb hK hP hD hS 1 0 rfl rfl (in_c rfl) (g_79 bX2_init rfl) (fun H locs => ?_)
  clear hP hD hS
  intro hP hD hS
  have hPD := pd_as [_, zzI cy q_1 8 (upd (upd (fun _ => 0) 0 (-1)) 1 (-1)), _, _, _] hP hD rfl
  clear hP hD
  obtain ⟨hP, hD⟩ := hPD
  refine lv_iinc (v := 2) (lv' := [(1, .int 2), (0, .ref qs)]) hx hb dX2_init_52 hl (k := 0) rfl (by decide +kernel) (by decide +kernel) rfl (fun ls => ?_)
  clear hl
  intro hl
  refine lv_goto (tgt := 39) hx hb dX2_init_55 (by decide +kernel) ?_
  refine lv_iload_n hx hb (g_27 bX2_init rfl) rfl (lv_at hl 0 rfl) ?_
  refine lv_bipush (v := 8) hx hb dX2_init_40 (by decide +kernel) ?_
  refine lv_icmp_ge (tgt := 58) hx hb dX2_init_42 (by decide +kernel) (fun h9 => absurd h9 (by decide +kernel)) (fun _ => ?_)
  refine lv_aload_n hx hb (g_42 bX2_init rfl) rfl (lv_at hl 1 rfl) ?_
  refine va_get (D := G) (ci := 1) (v := .ref q_1) (C := RX2) (T := TX2) (N := 4) hx hb hts iX_X2 hown hK hP 0 rfl rfl 0 (by decide +kernel) (hts _ m_t123) (fun _ h9 => h9) rfl (g_180 (v := 9) bX2_init rfl) ?_
  refine lv_iload_n hx hb (g_27 bX2_init rfl) rfl (lv_at hl 0 rfl) ?_
  refine lv_iconst (v := (-1)) hx hb (g_2 bX2_init rfl) (by decide +kernel) ?_
  refine va_iast hx hb hK hP hD hS 1 0 rfl rfl (in_c rfl) (g_79 bX2_init rfl) (fun H locs => ?_)
  clear hP hD hS
  intro hP hD hS
  have hPD := pd_as [_, zzI cy q_1 8 (upd (upd (upd (fun _ => 0) 0 (-1)) 1 (-1)) 2 (-1)), _, _, _] hP hD rfl
  clear hP hD
  obtain ⟨hP, hD⟩ := hPD
  refine lv_iinc (v := 3) (lv' := [(1, .int 3), (0, .ref qs)]) hx hb dX2_init_52 hl (k := 0) rfl (by decide +kernel) (by decide +kernel) rfl (fun ls => ?_)
  clear hl
  intro hl
  refine lv_goto (tgt := 39) hx hb dX2_init_55 (by decide +kernel) ?_
  refine lv_iload_n hx hb (g_27 bX2_init rfl) rfl (lv_at hl 0 rfl) ?_
  refine lv_bipush (v := 8) hx hb dX2_init_40 (by decide +kernel) ?_
  refine lv_icmp_ge (tgt := 58) hx hb dX2_init_42 (by decide +kernel) (fun h9 => absurd h9 (by decide +kernel)) (fun _ => ?_)
  refine lv_aload_n hx hb (g_42 bX2_init rfl) rfl (lv_at hl 1 rfl) ?_
  refine va_get (D := G) (ci := 1) (v := .ref q_1) (C := RX2) (T := TX2) (N := 4) hx hb hts iX_X2 hown hK hP 0 rfl rfl 0 (by decide +kernel) (hts _ m_t123) (fun _ h9 => h9) rfl (g_180 (v := 9) bX2_init rfl) ?_
  refine lv_iload_n hx hb (g_27 bX2_init rfl) rfl (lv_at hl 0 rfl) ?_
  refine lv_iconst (v := (-1)) hx hb (g_2 bX2_init rfl) (by decide +kernel) ?_
  refine va_iast hx hb hK hP hD hS 1 0 rfl rfl (in_c rfl) (g_79 bX2_init rfl) (fun H locs => ?_)
  clear hP hD hS
  intro hP hD hS
  have hPD := pd_as [_, zzI cy q_1 8 (upd (upd (upd (upd (fun _ => 0) 0 (-1)) 1 (-1)) 2 (-1)) 3 (-1)), _, _, _] hP hD rfl
  clear hP hD
  obtain ⟨hP, hD⟩ := hPD
  refine lv_iinc (v := 4) (lv' := [(1, .int 4), (0, .ref qs)]) hx hb dX2_init_52 hl (k := 0) rfl (by decide +kernel) (by decide +kernel) rfl (fun ls => ?_)
  clear hl
  intro hl
  refine lv_goto (tgt := 39) hx hb dX2_init_55 (by decide +kernel) ?_
  refine lv_iload_n hx hb (g_27 bX2_init rfl) rfl (lv_at hl 0 rfl) ?_
  refine lv_bipush (v := 8) hx hb dX2_init_40 (by decide +kernel) ?_
  refine lv_icmp_ge (tgt := 58) hx hb dX2_init_42 (by decide +kernel) (fun h9 => absurd h9 (by decide +kernel)) (fun _ => ?_)
  refine lv_aload_n hx hb (g_42 bX2_init rfl) rfl (lv_at hl 1 rfl) ?_
  refine va_get (D := G) (ci := 1) (v := .ref q_1) (C := RX2) (T := TX2) (N := 4) hx hb hts iX_X2 hown hK hP 0 rfl rfl 0 (by decide +kernel) (hts _ m_t123) (fun _ h9 => h9) rfl (g_180 (v := 9) bX2_init rfl) ?_
  refine lv_iload_n hx hb (g_27 bX2_init rfl) rfl (lv_at hl 0 rfl) ?_
  refine lv_iconst (v := (-1)) hx hb (g_2 bX2_init rfl) (by decide +kernel) ?_
  refine va_iast hx hb hK hP hD hS 1 0 rfl rfl (in_c rfl) (g_79 bX2_init rfl) (fun H locs => ?_)
  clear hP hD hS
  intro hP hD hS
  have hPD := pd_as [_, zzI cy q_1 8 (upd (upd (upd (upd (upd (fun _ => 0) 0 (-1)) 1 (-1)) 2 (-1)) 3 (-1)) 4 (-1)), _, _, _] hP hD rfl
  clear hP hD
  obtain ⟨hP, hD⟩ := hPD
  refine lv_iinc (v := 5) (lv' := [(1, .int 5), (0, .ref qs)]) hx hb dX2_init_52 hl (k := 0) rfl (by decide +kernel) (by decide +kernel) rfl (fun ls => ?_)
  clear hl
  intro hl
  refine lv_goto (tgt := 39) hx hb dX2_init_55 (by decide +kernel) ?_
  refine lv_iload_n hx hb (g_27 bX2_init rfl) rfl (lv_at hl 0 rfl) ?_
  refine lv_bipush (v := 8) hx hb dX2_init_40 (by decide +kernel) ?_
  refine lv_icmp_ge (tgt := 58) hx hb dX2_init_42 (by decide +kernel) (fun h9 => absurd h9 (by decide +kernel)) (fun _ => ?_)
  refine lv_aload_n hx hb (g_42 bX2_init rfl) rfl (lv_at hl 1 rfl) ?_
  refine va_get (D := G) (ci := 1) (v := .ref q_1) (C := RX2) (T := TX2) (N := 4) hx hb hts iX_X2 hown hK hP 0 rfl rfl 0 (by decide +kernel) (hts _ m_t123) (fun _ h9 => h9) rfl (g_180 (v := 9) bX2_init rfl) ?_
  refine lv_iload_n hx hb (g_27 bX2_init rfl) rfl (lv_at hl 0 rfl) ?_
  refine lv_iconst (v := (-1)) hx hb (g_2 bX2_init rfl) (by decide +kernel) ?_
  refine va_iast hx hb hK hP hD hS 1 0 rfl rfl (in_c rfl) (g_79 bX2_init rfl) (fun H locs => ?_)
  clear hP hD hS
  intro hP hD hS
  have hPD := pd_as [_, zzI cy q_1 8 (upd (upd (upd (upd (upd (upd (fun _ => 0) 0 (-1)) 1 (-1)) 2 (-1)) 3 (-1)) 4 (-1)) 5 (-1)), _, _, _] hP hD rfl
  clear hP hD
  obtain ⟨hP, hD⟩ := hPD
  refine lv_iinc (v := 6) (lv' := [(1, .int 6), (0, .ref qs)]) hx hb dX2_init_52 hl (k := 0) rfl (by decide +kernel) (by decide +kernel) rfl (fun ls => ?_)
  clear hl
  intro hl
  refine lv_goto (tgt := 39) hx hb dX2_init_55 (by decide +kernel) ?_
  refine lv_iload_n hx hb (g_27 bX2_init rfl) rfl (lv_at hl 0 rfl) ?_
  refine lv_bipush (v := 8) hx hb dX2_init_40 (by decide +kernel) ?_
  refine lv_icmp_ge (tgt := 58) hx hb dX2_init_42 (by decide +kernel) (fun h9 => absurd h9 (by decide +kernel)) (fun _ => ?_)
  refine lv_aload_n hx hb (g_42 bX2_init rfl) rfl (lv_at hl 1 rfl) ?_
  refine va_get (D := G) (ci := 1) (v := .ref q_1) (C := RX2) (T := TX2) (N := 4) hx hb hts iX_X2 hown hK hP 0 rfl rfl 0 (by decide +kernel) (hts _ m_t123) (fun _ h9 => h9) rfl (g_180 (v := 9) bX2_init rfl) ?_
  refine lv_iload_n hx hb (g_27 bX2_init rfl) rfl (lv_at hl 0 rfl) ?_
  refine lv_iconst (v := (-1)) hx hb (g_2 bX2_init rfl) (by decide +kernel) ?_
  refine va_iast hx hb hK hP hD hS 1 0 rfl rfl (in_c rfl) (g_79 bX2_init rfl) (fun H locs => ?_)
  clear hP hD hS
  intro hP hD hS
  have hPD := pd_as [_, zzI cy q_1 8 (upd (upd (upd (upd (upd (upd (upd (fun _ => 0) 0 (-1)) 1 (-1)) 2 (-1)) 3 (-1)) 4 (-1)) 5 (-1)) 6 (-1)), _, _, _] hP hD rfl
  clear hP hD
  obtain ⟨hP, hD⟩ := hPD
  refine lv_iinc (v := 7) (lv' := [(1, .int 7), (0, .ref qs)]) hx hb dX2_init_52 hl (k := 0) rfl (by decide +kernel) (by decide +kernel) rfl (fun ls => ?_)
  clear hl
  intro hl
  refine lv_goto (tgt := 39) hx hb dX2_init_55 (by decide +kernel) ?_
  refine lv_iload_n hx hb (g_27 bX2_init rfl) rfl (lv_at hl 0 rfl) ?_
  refine lv_bipush (v := 8) hx hb dX2_init_40 (by decide +kernel) ?_
  refine lv_icmp_ge (tgt := 58) hx hb dX2_init_42 (by decide +kernel) (fun h9 => absurd h9 (by decide +kernel)) (fun _ => ?_)
  refine lv_aload_n hx hb (g_42 bX2_init rfl) rfl (lv_at hl 1 rfl) ?_
  refine va_get (D := G) (ci := 1) (v := .ref q_1) (C := RX2) (T := TX2) (N := 4) hx hb hts iX_X2 hown hK hP 0 rfl rfl 0 (by decide +kernel) (hts _ m_t123) (fun _ h9 => h9) rfl (g_180 (v := 9) bX2_init rfl) ?_
  refine lv_iload_n hx hb (g_27 bX2_init rfl) rfl (lv_at hl 0 rfl) ?_
  refine lv_iconst (v := (-1)) hx hb (g_2 bX2_init rfl) (by decide +kernel) ?_
  refine va_iast hx hb hK hP hD hS 1 0 rfl rfl (in_c rfl) (g_79 bX2_init rfl) (fun H locs => ?_)
  clear hP hD hS
  intro hP hD hS
  have hPD := pd_as [_, zzI cy q_1 8 (upd (upd (upd (upd (upd (upd (upd (upd (fun _ => 0) 0 (-1)) 1 (-1)) 2 (-1)) 3 (-1)) 4 (-1)) 5 (-1)) 6 (-1)) 7 (-1)), _, _, _] hP hD rfl
  clear hP hD
  obtain ⟨hP, hD⟩ := hPD
  refine lv_iinc (v := 8) (lv' := [(1, .int 8), (0, .ref qs)]) hx hb dX2_init_52 hl (k := 0) rfl (by decide +kernel) (by decide +kernel) rfl (fun ls => ?_)
  clear hl
  intro hl
  refine lv_goto (tgt := 39) hx hb dX2_init_55 (by decide +kernel) ?_
  refine lv_iload_n hx hb (g_27 bX2_init rfl) rfl (lv_at hl 0 rfl) ?_
  refine lv_bipush (v := 8) hx hb dX2_init_40 (by decide +kernel) ?_
  refine lv_icmp_ge (tgt := 58) hx hb dX2_init_42 (by decide +kernel) (fun _ => ?_) (fun h9 => absurd (by decide +kernel) h9)
  exact endV (u := [zzO qs 1 [.ref q_1, .ref q_2, .ref q_3, .ref q_4], zzI cy q_1 8 (upd (upd (upd (upd (upd (upd (upd (upd (fun _ => 0) 0 (-1)) 1 (-1)) 2 (-1)) 3 (-1)) 4 (-1)) 5 (-1)) 6 (-1)) 7 (-1)), zzI cy q_2 8 (fun _ => 0), zzI cy q_3 8 (fun _ => 0), zzJ cy q_4 320 (fun _ => 0)]) hx hb hr hlocks (pSb hP [[true, true, true, true, true]] rfl rfl) (dSb hD [[true, true, true, true, true]] (by decide +kernel) rfl rfl) hS ⟨q_1, q_2, q_3, q_4, upd (upd (upd (upd (upd (upd (upd (upd (fun _ => 0) 0 (-1)) 1 (-1)) 2 (-1)) 3 (-1)) 4 (-1)) 5 (-1)) 6 (-1)) 7 (-1), rfl, fun i hi => by match i, hi with | 0, _ => rfl | 1, _ => rfl | 2, _ => rfl | 3, _ => rfl | 4, _ => rfl | 5, _ => rfl | 6, _ => rfl | 7, _ => rfl | k + 8, h => exact absurd h (by omega)⟩ (g_177 bX2_init rfl)
set_option maxHeartbeats 4000000 in
set_option maxRecDepth 100000 in
theorem k_X3_init (l : Launch) (G : va_G) (cy : Nat → ClassId) (sz : Nat) (qa : Nat)   : MW l yX3_init cX3_init 1 none 2 10 383 G cy [zzO qa 2 [.null, .int 0, .int 0, .int 0, .int 0, .int 0, .null]] sz [.ref qa] (Wv G (fun u => ∃ (qab : Nat) (qd : Nat) (qdw : Nat) (qdn : Nat) (qdg : Nat) (qda : Nat) (qdr : Nat) (qdm : Nat) (qdt : Nat) (qds : Nat), u = [zzO qa 2 [.ref qab, .int 0, .int 0, .int 0, .int 0, .int 0, .ref qd], zzB cy qab 250 (fun _ => 0), zzO qd 3 [.int 0, .int 0, .int 0, .int 0, .int 1, .ref qdw, .ref qdn, .ref qdg, .ref qda, .ref qdr, .ref qdm, .ref qdt, .ref qds], zzI cy qdw 8 (fun _ => 0), zzI cy qdn 8 (fun _ => 0), zzI cy qdg 8 (fun _ => 0), zzI cy qda 8 (fun _ => 0), zzI cy qdr 8 (fun _ => 0), zzI cy qdm 8 (fun _ => 0), zzI cy qdt 8 (fun _ => 0), zzI cy qds 64 (fun _ => 0)])) := by
  refine enW RX3 (by decide +kernel) rfl (Nat.le_of_ble_eq_true rfl) (fun p e s m below meth c ls A hx hb hml hown hts hr hlocks hP hN hl hin hD hA hS => ?_)
  have hin : meth.name = _ := hin
  have hK := hN.1
  replace hl : lv_has ls 1 [(0, .ref qa)] := hl
  refine lv_aload_n hx hb (g_42 bX3_init rfl) rfl (lv_at hl 0 rfl) ?_
  refine W.objInit hx hb hown (hts _ m_t145) (hts _ m_t21) (hts _ m_t22) rfl (by rw [hml]; exact hl.1) rfl dX3_init_1 (Nat.le_of_ble_eq_true rfl) (Nat.le_of_ble_eq_true rfl) ?_
  refine W.eq (g2 := F0 m 4 ls []) rfl ?_
  refine lv_aload_n hx hb (g_42 bX3_init rfl) rfl (lv_at hl 0 rfl) ?_
  refine lv_sipush (v := 250) hx hb dX3_init_5 (by decide +kernel) ?_
  refine newB hx hb hts m_t173 hN hP hD hS hA 250 (by decide +kernel) (by decide +kernel) (Nat.le_of_ble_eq_true rfl) (Nat.le_of_ble_eq_true rfl) (Nat.le_of_ble_eq_true rfl) (g_na8 bX3_init rfl) (fun q_1 H => ?_)
  clear hP hD hS
  intro hP hD hS
  have hPD := pd_as [_, zzB cy q_1 250 (fun _ => 0)] hP hD rfl
  clear hP hD
  obtain ⟨hP, hD⟩ := hPD
  refine W.widen (k := 1) (n := 250) (Nat.le_of_ble_eq_true rfl) (Nat.le_of_ble_eq_true rfl) ?_
  refine va_putF (D := G) (ci := 2) (v := .ref q_1) (ty := (.array .byte)) (C := RX3) (T := TX3) (N := 7) hx hb hts iX_X3 tyX3 tyX3_ok nmX3 hown hK hP hD hS 0 rfl rfl 0 (by decide +kernel) (hts _ m_t148) (fun _ h9 => h9) rfl hin rfl (by decide +kernel) rfl rfl (Nat.le_of_ble_eq_true rfl) (g_181 (v := 11) bX3_init rfl) (fun H locs => ?_)
  clear hP hD hS
  intro hP hD hS
  have hPD := pd_as [zzO qa 2 [.ref q_1, .int 0, .int 0, .int 0, .int 0, .int 0, .null], _] hP hD rfl
  clear hP hD
  obtain ⟨hP, hD⟩ := hPD
  refine lv_aload_n hx hb (g_42 bX3_init rfl) rfl (lv_at hl 0 rfl) ?_
  refine va_new (ci := 3) (fs := [.int 0, .int 0, .int 0, .int 0, .int 0, .null, .null, .null, .null, .null, .null, .null, .null]) (C := RX4) (T := TX4) (N := 13) hx hb hts iX_X4 tyX4 tyX4_ok hown (hts _ m_t146) (hts _ m_t24) (hts _ m_t2) hK hP hD hS hA rfl df_X4 (Nat.le_of_ble_eq_true rfl) (Nat.le_of_ble_eq_true rfl) (g_187 (v := 15) bX3_init rfl) (fun q_2 H => ?_)
  clear hP hD hS
  intro hP hD hS
  have hPD := pd_as [_, _, zzO q_2 3 [.int 0, .int 0, .int 0, .int 0, .int 0, .null, .null, .null, .null, .null, .null, .null, .null]] hP hD rfl
  clear hP hD
  obtain ⟨hP, hD⟩ := hPD
  refine W.widen (k := 2) (n := 263) (Nat.le_of_ble_eq_true rfl) (Nat.le_of_ble_eq_true rfl) ?_
  refine lv_dup hx hb (g_89 bX3_init rfl) rfl ?_
  refine cINv (As := []) (rest := [.ref q_2, .ref qa]) (b := q_2) ⟨hx, hb, hml, hown, hts⟩ (k_X4_init l G cy (H).size q_2) L_X3_17 hN hP hD hS hA [2] [true, true, false] rfl (by decide +kernel) rfl rfl ⟨Nat.le_of_ble_eq_true rfl, Nat.le_of_ble_eq_true rfl⟩ hl.1 (Nat.le_of_ble_eq_true rfl) (g_183 (v := 17) bX3_init rfl) ⟨Nat.le_of_ble_eq_true rfl, Nat.le_of_ble_eq_true rfl⟩ (fun u_5 H locs h_4 => ?_)
  clear hP hD hS
  intro hP hD hS
  obtain ⟨qtw_6, qtn_7, qtg_8, qta_9, qtr_10, qtm_11, qtt_12, qts_13, hu9⟩ := h_4
  have hPD := pd_eq [_, _, zzO q_2 3 [.int 0, .int 0, .int 0, .int 0, .int 1, .ref qtw_6, .ref qtn_7, .ref qtg_8, .ref qta_9, .ref qtr_10, .ref qtm_11, .ref qtt_12, .ref qts_13], zzI cy qtw_6 8 (fun _ => 0), zzI cy qtn_7 8 (fun _ => 0), zzI cy qtg_8 8 (fun _ => 0), zzI cy qta_9 8 (fun _ => 0), zzI cy qtr_10 8 (fun _ => 0), zzI cy qtm_11 8 (fun _ => 0), zzI cy qtt_12 8 (fun _ => 0), zzI cy qts_13 64 (fun _ => 0)] hP hD hu9 rfl
  clear hP hD hu9
  obtain ⟨hP, hD⟩ := hPD
  refine W.widen (k := 10) (n := 383) (Nat.le_of_ble_eq_true rfl) (Nat.le_of_ble_eq_true rfl) ?_
  refine va_putF (D := G) (ci := 2) (v := .ref q_2) (ty := (.object "EachBookOnce$Town")) (C := RX3) (T := TX3) (N := 7) hx hb hts iX_X3 tyX3 tyX3_ok nmX3 hown hK hP hD hS 0 rfl rfl 6 (by decide +kernel) (hts _ m_t156) (fun _ h9 => h9) rfl hin rfl (by decide +kernel) rfl rfl (Nat.le_of_ble_eq_true rfl) (g_181 (v := 18) bX3_init rfl) (fun H locs => ?_)
  clear hP hD hS
  intro hP hD hS
  have hPD := pd_as [zzO qa 2 [.ref q_1, .int 0, .int 0, .int 0, .int 0, .int 0, .ref q_2], _, _, _, _, _, _, _, _, _, _] hP hD rfl
  clear hP hD
  obtain ⟨hP, hD⟩ := hPD
  exact endVs [[true, true, true, true, true, true, true, true, true, true, true]] hx hb hr hlocks hP hD rfl (by decide +kernel) hS ⟨q_1, q_2, qtw_6, qtn_7, qtg_8, qta_9, qtr_10, qtm_11, qtt_12, qts_13, rfl⟩ (g_177 bX3_init rfl)
set_option maxHeartbeats 4000000 in
set_option maxRecDepth 100000 in
theorem k_X5_init (l : Launch) (G : va_G) (cy : Nat → ClassId) (sz : Nat) (qx : Nat)   : MW l yX5_init cX5_init 1 none 3 54 1279 G cy [zzO qx 4 [.null, .null, .null, .null, .null, .null, .int 0, .int 0, .int 0]] sz [.ref qx] (Wv G (fun u => ∃ (qr : Nat) (qt : Nat) (qtw : Nat) (qtn : Nat) (qtg : Nat) (qta : Nat) (qtr : Nat) (qtm : Nat) (qtt : Nat) (qts : Nat) (qk : Nat) (qkw : Nat) (qkn : Nat) (qkg : Nat) (qka : Nat) (qkr : Nat) (qkm : Nat) (qkt : Nat) (qks : Nat) (qp : Nat) (qu : Nat) (quw : Nat) (qun : Nat) (qug : Nat) (qua : Nat) (qur : Nat) (qum : Nat) (qut : Nat) (qus : Nat) (qv : Nat) (qvw : Nat) (qvn : Nat) (qvg : Nat) (qva : Nat) (qvr : Nat) (qvm : Nat) (qvt : Nat) (qvs : Nat) (qs : Nat) (qsh : Nat) (qss : Nat) (qsa : Nat) (qse : Nat) (fH : Nat → Int32) (qa : Nat) (qab : Nat) (qd : Nat) (qdw : Nat) (qdn : Nat) (qdg : Nat) (qda : Nat) (qdr : Nat) (qdm : Nat) (qdt : Nat) (qds : Nat), u = (zzO qx 4 [.ref qt, .ref qk, .ref qp, .ref qs, .ref qa, .ref qr, .int 0, .int 0, .int 0] :: zzI cy qr 5 (fun _ => 0) :: zzO qt 3 [.int 0, .int 0, .int 0, .int 0, .int 1, .ref qtw, .ref qtn, .ref qtg, .ref qta, .ref qtr, .ref qtm, .ref qtt, .ref qts] :: zzI cy qtw 8 (fun _ => 0) :: zzI cy qtn 8 (fun _ => 0) :: zzI cy qtg 8 (fun _ => 0) :: zzI cy qta 8 (fun _ => 0) :: zzI cy qtr 8 (fun _ => 0) :: zzI cy qtm 8 (fun _ => 0) :: zzI cy qtt 8 (fun _ => 0) :: zzI cy qts 64 (fun _ => 0) :: zzO qk 3 [.int 0, .int 0, .int 0, .int 0, .int 1, .ref qkw, .ref qkn, .ref qkg, .ref qka, .ref qkr, .ref qkm, .ref qkt, .ref qks] :: zzI cy qkw 8 (fun _ => 0) :: zzI cy qkn 8 (fun _ => 0) :: zzI cy qkg 8 (fun _ => 0) :: zzI cy qka 8 (fun _ => 0) :: zzI cy qkr 8 (fun _ => 0) :: zzI cy qkm 8 (fun _ => 0) :: zzI cy qkt 8 (fun _ => 0) :: zzI cy qks 64 (fun _ => 0) :: zzO qp 0 [.ref qu, .ref qv, .int 0, .int 0] :: zzO qu 3 [.int 0, .int 0, .int 0, .int 0, .int 1, .ref quw, .ref qun, .ref qug, .ref qua, .ref qur, .ref qum, .ref qut, .ref qus] :: zzI cy quw 8 (fun _ => 0) :: zzI cy qun 8 (fun _ => 0) :: zzI cy qug 8 (fun _ => 0) :: zzI cy qua 8 (fun _ => 0) :: zzI cy qur 8 (fun _ => 0) :: zzI cy qum 8 (fun _ => 0) :: zzI cy qut 8 (fun _ => 0) :: zzI cy qus 64 (fun _ => 0) :: zzO qv 3 [.int 0, .int 0, .int 0, .int 0, .int 1, .ref qvw, .ref qvn, .ref qvg, .ref qva, .ref qvr, .ref qvm, .ref qvt, .ref qvs] :: zzI cy qvw 8 (fun _ => 0) :: zzI cy qvn 8 (fun _ => 0) :: zzI cy qvg 8 (fun _ => 0) :: zzI cy qva 8 (fun _ => 0) :: zzI cy qvr 8 (fun _ => 0) :: zzI cy qvm 8 (fun _ => 0) :: zzI cy qvt 8 (fun _ => 0) :: zzI cy qvs 64 (fun _ => 0) :: zzO qs 1 [.ref qsh, .ref qss, .ref qsa, .ref qse] :: zzI cy qsh 8 fH :: zzI cy qss 8 (fun _ => 0) :: zzI cy qsa 8 (fun _ => 0) :: zzJ cy qse 320 (fun _ => 0) :: zzO qa 2 [.ref qab, .int 0, .int 0, .int 0, .int 0, .int 0, .ref qd] :: zzB cy qab 250 (fun _ => 0) :: zzO qd 3 [.int 0, .int 0, .int 0, .int 0, .int 1, .ref qdw, .ref qdn, .ref qdg, .ref qda, .ref qdr, .ref qdm, .ref qdt, .ref qds] :: zzI cy qdw 8 (fun _ => 0) :: zzI cy qdn 8 (fun _ => 0) :: zzI cy qdg 8 (fun _ => 0) :: zzI cy qda 8 (fun _ => 0) :: zzI cy qdr 8 (fun _ => 0) :: zzI cy qdm 8 (fun _ => 0) :: zzI cy qdt 8 (fun _ => 0) :: zzI cy qds 64 (fun _ => 0) :: []) ∧ (∀ i, i < 8 → fH i = -1))) := by
  refine enW RX5 (by decide +kernel) rfl (Nat.le_of_ble_eq_true rfl) (fun p e s m below meth c ls A hx hb hml hown hts hr hlocks hP hN hl hin hD hA hS => ?_)
  have hin : meth.name = _ := hin
  have hK := hN.1
  replace hl : lv_has ls 1 [(0, .ref qx)] := hl
  refine lv_aload_n hx hb (g_42 bX5_init rfl) rfl (lv_at hl 0 rfl) ?_
  refine W.objInit hx hb hown (hts _ m_t20) (hts _ m_t21) (hts _ m_t22) rfl (by rw [hml]; exact hl.1) rfl dX5_init_1 (Nat.le_of_ble_eq_true rfl) (Nat.le_of_ble_eq_true rfl) ?_
  refine W.eq (g2 := F0 m 4 ls []) rfl ?_
  refine lv_aload_n hx hb (g_42 bX5_init rfl) rfl (lv_at hl 0 rfl) ?_
  refine va_new (ci := 3) (fs := [.int 0, .int 0, .int 0, .int 0, .int 0, .null, .null, .null, .null, .null, .null, .null, .null]) (C := RX4) (T := TX4) (N := 13) hx hb hts iX_X4 tyX4 tyX4_ok hown (hts _ m_t23) (hts _ m_t24) (hts _ m_t2) hK hP hD hS hA rfl df_X4 (Nat.le_of_ble_eq_true rfl) (Nat.le_of_ble_eq_true rfl) (g_187 (v := 7) bX5_init rfl) (fun q_1 H => ?_)
  clear hP hD hS
  intro hP hD hS
  have hPD := pd_as [_, zzO q_1 3 [.int 0, .int 0, .int 0, .int 0, .int 0, .null, .null, .null, .null, .null, .null, .null, .null]] hP hD rfl
  clear hP hD
  obtain ⟨hP, hD⟩ := hPD
  refine W.widen (k := 1) (n := 13) (Nat.le_of_ble_eq_true rfl) (Nat.le_of_ble_eq_true rfl) ?_
  refine lv_dup hx hb (g_89 bX5_init rfl) rfl ?_
  refine cINv (As := []) (rest := [.ref q_1, .ref qx]) (b := q_1) ⟨hx, hb, hml, hown, hts⟩ (k_X4_init l G cy (H).size q_1) L_X5_9 hN hP hD hS hA [1] [true, false] rfl (by decide +kernel) rfl rfl ⟨Nat.le_of_ble_eq_true rfl, Nat.le_of_ble_eq_true rfl⟩ hl.1 (Nat.le_of_ble_eq_true rfl) (g_183 (v := 9) bX5_init rfl) ⟨Nat.le_of_ble_eq_true rfl, Nat.le_of_ble_eq_true rfl⟩ (fun u_4 H locs h_3 => ?_)
  clear hP hD hS
  intro hP hD hS
  obtain ⟨qtw_5, qtn_6, qtg_7, qta_8, qtr_9, qtm_10, qtt_11, qts_12, hu9⟩ := h_3
  have hPD := pd_eq [_, zzO q_1 3 [.int 0, .int 0, .int 0, .int 0, .int 1, .ref qtw_5, .ref qtn_6, .ref qtg_7, .ref qta_8, .ref qtr_9, .ref qtm_10, .ref qtt_11, .ref qts_12], zzI cy qtw_5 8 (fun _ => 0), zzI cy qtn_6 8 (fun _ => 0), zzI cy qtg_7 8 (fun _ => 0), zzI cy qta_8 8 (fun _ => 0), zzI cy qtr_9 8 (fun _ => 0), zzI cy qtm_10 8 (fun _ => 0), zzI cy qtt_11 8 (fun _ => 0), zzI cy qts_12 64 (fun _ => 0)] hP hD hu9 rfl
  clear hP hD hu9
  obtain ⟨hP, hD⟩ := hPD
  refine W.widen (k := 9) (n := 133) (Nat.le_of_ble_eq_true rfl) (Nat.le_of_ble_eq_true rfl) ?_
  refine va_putF (D := G) (ci := 4) (v := .ref q_1) (ty := (.object "EachBookOnce$Town")) (C := RX5) (T := TX5) (N := 9) hx hb hts iX_X5 tyX5 tyX5_ok nmX5 hown hK hP hD hS 0 rfl rfl 0 (by decide +kernel) (hts _ m_t174) (fun _ h9 => h9) rfl hin rfl (by decide +kernel) rfl rfl (Nat.le_of_ble_eq_true rfl) (g_181 (v := 10) bX5_init rfl) (fun H locs => ?_)
  clear hP hD hS
  intro hP hD hS
  have hPD := pd_as [zzO qx 4 [.ref q_1, .null, .null, .null, .null, .null, .int 0, .int 0, .int 0], _, _, _, _, _, _, _, _, _] hP hD rfl
  clear hP hD
  obtain ⟨hP, hD⟩ := hPD
  refine lv_aload_n hx hb (g_42 bX5_init rfl) rfl (lv_at hl 0 rfl) ?_
  refine va_new (ci := 3) (fs := [.int 0, .int 0, .int 0, .int 0, .int 0, .null, .null, .null, .null, .null, .null, .null, .null]) (C := RX4) (T := TX4) (N := 13) hx hb hts iX_X4 tyX4 tyX4_ok hown (hts _ m_t23) (hts _ m_t24) (hts _ m_t2) hK hP hD hS hA rfl df_X4 (Nat.le_of_ble_eq_true rfl) (Nat.le_of_ble_eq_true rfl) (g_187 (v := 7) bX5_init rfl) (fun q_13 H => ?_)
  clear hP hD hS
  intro hP hD hS
  have hPD := pd_as [_, _, _, _, _, _, _, _, _, _, zzO q_13 3 [.int 0, .int 0, .int 0, .int 0, .int 0, .null, .null, .null, .null, .null, .null, .null, .null]] hP hD rfl
  clear hP hD
  obtain ⟨hP, hD⟩ := hPD
  refine W.widen (k := 10) (n := 146) (Nat.le_of_ble_eq_true rfl) (Nat.le_of_ble_eq_true rfl) ?_
  refine lv_dup hx hb (g_89 bX5_init rfl) rfl ?_
  refine cINv (As := []) (rest := [.ref q_13, .ref qx]) (b := q_13) ⟨hx, hb, hml, hown, hts⟩ (k_X4_init l G cy (H).size q_13) L_X5_9 hN hP hD hS hA [10] [true, true, true, true, true, true, true, true, true, true, false] rfl (by decide +kernel) rfl rfl ⟨Nat.le_of_ble_eq_true rfl, Nat.le_of_ble_eq_true rfl⟩ hl.1 (Nat.le_of_ble_eq_true rfl) (g_183 (v := 9) bX5_init rfl) ⟨Nat.le_of_ble_eq_true rfl, Nat.le_of_ble_eq_true rfl⟩ (fun u_16 H locs h_15 => ?_)
  clear hP hD hS
  intro hP hD hS
  obtain ⟨qtw_17, qtn_18, qtg_19, qta_20, qtr_21, qtm_22, qtt_23, qts_24, hu9⟩ := h_15
  have hPD := pd_eq [_, _, _, _, _, _, _, _, _, _, zzO q_13 3 [.int 0, .int 0, .int 0, .int 0, .int 1, .ref qtw_17, .ref qtn_18, .ref qtg_19, .ref qta_20, .ref qtr_21, .ref qtm_22, .ref qtt_23, .ref qts_24], zzI cy qtw_17 8 (fun _ => 0), zzI cy qtn_18 8 (fun _ => 0), zzI cy qtg_19 8 (fun _ => 0), zzI cy qta_20 8 (fun _ => 0), zzI cy qtr_21 8 (fun _ => 0), zzI cy qtm_22 8 (fun _ => 0), zzI cy qtt_23 8 (fun _ => 0), zzI cy qts_24 64 (fun _ => 0)] hP hD hu9 rfl
  clear hP hD hu9
  obtain ⟨hP, hD⟩ := hPD
  refine W.widen (k := 18) (n := 266) (Nat.le_of_ble_eq_true rfl) (Nat.le_of_ble_eq_true rfl) ?_
  refine va_putF (D := G) (ci := 4) (v := .ref q_13) (ty := (.object "EachBookOnce$Town")) (C := RX5) (T := TX5) (N := 9) hx hb hts iX_X5 tyX5 tyX5_ok nmX5 hown hK hP hD hS 0 rfl rfl 1 (by decide +kernel) (hts _ m_t175) (fun _ h9 => h9) rfl hin rfl (by decide +kernel) rfl rfl (Nat.le_of_ble_eq_true rfl) (g_181 (v := 16) bX5_init rfl) (fun H locs => ?_)
  clear hP hD hS
  intro hP hD hS
  have hPD := pd_as [zzO qx 4 [.ref q_1, .ref q_13, .null, .null, .null, .null, .int 0, .int 0, .int 0], _, _, _, _, _, _, _, _, _, _, _, _, _, _, _, _, _, _] hP hD rfl
  clear hP hD
  obtain ⟨hP, hD⟩ := hPD
  refine lv_aload_n hx hb (g_42 bX5_init rfl) rfl (lv_at hl 0 rfl) ?_
  refine va_new (ci := 0) (fs := [.null, .null, .int 0, .int 0]) (C := RX0) (T := TX0) (N := 4) hx hb hts iX_X0 tyX0 tyX0_ok hown (hts _ m_t93) (hts _ m_t94) (hts _ m_t3) hK hP hD hS hA rfl df_X0 (Nat.le_of_ble_eq_true rfl) (Nat.le_of_ble_eq_true rfl) (g_187 (v := 19) bX5_init rfl) (fun q_25 H => ?_)
  clear hP hD hS
  intro hP hD hS
  have hPD := pd_as [_, _, _, _, _, _, _, _, _, _, _, _, _, _, _, _, _, _, _, zzO q_25 0 [.null, .null, .int 0, .int 0]] hP hD rfl
  clear hP hD
  obtain ⟨hP, hD⟩ := hPD
  refine W.widen (k := 19) (n := 270) (Nat.le_of_ble_eq_true rfl) (Nat.le_of_ble_eq_true rfl) ?_
  refine lv_dup hx hb (g_89 bX5_init rfl) rfl ?_
  refine cINv (As := []) (rest := [.ref q_25, .ref qx]) (b := q_25) ⟨hx, hb, hml, hown, hts⟩ (k_X0_init l G cy (H).size q_25) L_X5_21 hN hP hD hS hA [19] [true, true, true, true, true, true, true, true, true, true, true, true, true, true, true, true, true, true, true, false] rfl (by decide +kernel) rfl rfl ⟨Nat.le_of_ble_eq_true rfl, Nat.le_of_ble_eq_true rfl⟩ hl.1 (Nat.le_of_ble_eq_true rfl) (g_183 (v := 21) bX5_init rfl) ⟨Nat.le_of_ble_eq_true rfl, Nat.le_of_ble_eq_true rfl⟩ (fun u_28 H locs h_27 => ?_)
  clear hP hD hS
  intro hP hD hS
  obtain ⟨qu_29, quw_30, qun_31, qug_32, qua_33, qur_34, qum_35, qut_36, qus_37, qv_38, qvw_39, qvn_40, qvg_41, qva_42, qvr_43, qvm_44, qvt_45, qvs_46, hu9⟩ := h_27
  have hPD := pd_eq (_ :: _ :: _ :: _ :: _ :: _ :: _ :: _ :: _ :: _ :: _ :: _ :: _ :: _ :: _ :: _ :: _ :: _ :: _ :: zzO q_25 0 [.ref qu_29, .ref qv_38, .int 0, .int 0] :: zzO qu_29 3 [.int 0, .int 0, .int 0, .int 0, .int 1, .ref quw_30, .ref qun_31, .ref qug_32, .ref qua_33, .ref qur_34, .ref qum_35, .ref qut_36, .ref qus_37] :: zzI cy quw_30 8 (fun _ => 0) :: zzI cy qun_31 8 (fun _ => 0) :: zzI cy qug_32 8 (fun _ => 0) :: zzI cy qua_33 8 (fun _ => 0) :: zzI cy qur_34 8 (fun _ => 0) :: zzI cy qum_35 8 (fun _ => 0) :: zzI cy qut_36 8 (fun _ => 0) :: zzI cy qus_37 64 (fun _ => 0) :: zzO qv_38 3 [.int 0, .int 0, .int 0, .int 0, .int 1, .ref qvw_39, .ref qvn_40, .ref qvg_41, .ref qva_42, .ref qvr_43, .ref qvm_44, .ref qvt_45, .ref qvs_46] :: zzI cy qvw_39 8 (fun _ => 0) :: zzI cy qvn_40 8 (fun _ => 0) :: zzI cy qvg_41 8 (fun _ => 0) :: zzI cy qva_42 8 (fun _ => 0) :: zzI cy qvr_43 8 (fun _ => 0) :: zzI cy qvm_44 8 (fun _ => 0) :: zzI cy qvt_45 8 (fun _ => 0) :: zzI cy qvs_46 64 (fun _ => 0) :: []) hP hD hu9 rfl
  clear hP hD hu9
  obtain ⟨hP, hD⟩ := hPD
  refine W.widen (k := 37) (n := 536) (Nat.le_of_ble_eq_true rfl) (Nat.le_of_ble_eq_true rfl) ?_
  refine va_putF (D := G) (ci := 4) (v := .ref q_25) (ty := (.object "EachBookOnce$Plans")) (C := RX5) (T := TX5) (N := 9) hx hb hts iX_X5 tyX5 tyX5_ok nmX5 hown hK hP hD hS 0 rfl rfl 2 (by decide +kernel) (hts _ m_t176) (fun _ h9 => h9) rfl hin rfl (by decide +kernel) rfl rfl (Nat.le_of_ble_eq_true rfl) (g_181 (v := 22) bX5_init rfl) (fun H locs => ?_)
  clear hP hD hS
  intro hP hD hS
  have hPD := pd_as (zzO qx 4 [.ref q_1, .ref q_13, .ref q_25, .null, .null, .null, .int 0, .int 0, .int 0] :: _ :: _ :: _ :: _ :: _ :: _ :: _ :: _ :: _ :: _ :: _ :: _ :: _ :: _ :: _ :: _ :: _ :: _ :: _ :: _ :: _ :: _ :: _ :: _ :: _ :: _ :: _ :: _ :: _ :: _ :: _ :: _ :: _ :: _ :: _ :: _ :: _ :: []) hP hD rfl
  clear hP hD
  obtain ⟨hP, hD⟩ := hPD
  refine lv_aload_n hx hb (g_42 bX5_init rfl) rfl (lv_at hl 0 rfl) ?_
  refine va_new (ci := 1) (fs := [.null, .null, .null, .null]) (C := RX2) (T := TX2) (N := 4) hx hb hts iX_X2 tyX2 tyX2_ok hown (hts _ m_t117) (hts _ m_t118) (hts _ m_t4) hK hP hD hS hA rfl df_X2 (Nat.le_of_ble_eq_true rfl) (Nat.le_of_ble_eq_true rfl) (g_187 (v := 26) bX5_init rfl) (fun q_47 H => ?_)
  clear hP hD hS
  intro hP hD hS
  have hPD := pd_as (_ :: _ :: _ :: _ :: _ :: _ :: _ :: _ :: _ :: _ :: _ :: _ :: _ :: _ :: _ :: _ :: _ :: _ :: _ :: _ :: _ :: _ :: _ :: _ :: _ :: _ :: _ :: _ :: _ :: _ :: _ :: _ :: _ :: _ :: _ :: _ :: _ :: _ :: zzO q_47 1 [.null, .null, .null, .null] :: []) hP hD rfl
  clear hP hD
  obtain ⟨hP, hD⟩ := hPD
  refine W.widen (k := 38) (n := 540) (Nat.le_of_ble_eq_true rfl) (Nat.le_of_ble_eq_true rfl) ?_
  refine lv_dup hx hb (g_89 bX5_init rfl) rfl ?_
  refine cIv (As := []) (rest := [.ref q_47, .ref qx]) (b := q_47) ⟨hx, hb, hml, hown, hts⟩ (k_X2_init l G cy (H).size q_47) L_X5_28 hN hP hD hS hA [38] (true :: true :: true :: true :: true :: true :: true :: true :: true :: true :: true :: true :: true :: true :: true :: true :: true :: true :: true :: true :: true :: true :: true :: true :: true :: true :: true :: true :: true :: true :: true :: true :: true :: true :: true :: true :: true :: true :: false :: []) rfl (by decide +kernel) rfl rfl ⟨Nat.le_of_ble_eq_true rfl, Nat.le_of_ble_eq_true rfl⟩ hl.1 (Nat.le_of_ble_eq_true rfl) (g_183 (v := 28) bX5_init rfl) ⟨Nat.le_of_ble_eq_true rfl, Nat.le_of_ble_eq_true rfl⟩ (fun u_50 H locs h_49 => ?_)
  clear hP hD hS
  intro hP hD hS
  obtain ⟨qsh_51, qss_52, qsa_53, qse_54, fH_55, hu9, h_56⟩ := h_49
  have hPD := pd_eq (_ :: _ :: _ :: _ :: _ :: _ :: _ :: _ :: _ :: _ :: _ :: _ :: _ :: _ :: _ :: _ :: _ :: _ :: _ :: _ :: _ :: _ :: _ :: _ :: _ :: _ :: _ :: _ :: _ :: _ :: _ :: _ :: _ :: _ :: _ :: _ :: _ :: _ :: zzO q_47 1 [.ref qsh_51, .ref qss_52, .ref qsa_53, .ref qse_54] :: zzI cy qsh_51 8 fH_55 :: zzI cy qss_52 8 (fun _ => 0) :: zzI cy qsa_53 8 (fun _ => 0) :: zzJ cy qse_54 320 (fun _ => 0) :: []) hP hD hu9 rfl
  clear hP hD hu9
  obtain ⟨hP, hD⟩ := hPD
  refine W.widen (k := 42) (n := 884) (Nat.le_of_ble_eq_true rfl) (Nat.le_of_ble_eq_true rfl) ?_
  refine va_putF (D := G) (ci := 4) (v := .ref q_47) (ty := (.object "EachBookOnce$Shelves")) (C := RX5) (T := TX5) (N := 9) hx hb hts iX_X5 tyX5 tyX5_ok nmX5 hown hK hP hD hS 0 rfl rfl 3 (by decide +kernel) (hts _ m_t177) (fun _ h9 => h9) rfl hin rfl (by decide +kernel) rfl rfl (Nat.le_of_ble_eq_true rfl) (g_181 (v := 29) bX5_init rfl) (fun H locs => ?_)
  clear hP hD hS
  intro hP hD hS
  have hPD := pd_as (zzO qx 4 [.ref q_1, .ref q_13, .ref q_25, .ref q_47, .null, .null, .int 0, .int 0, .int 0] :: _ :: _ :: _ :: _ :: _ :: _ :: _ :: _ :: _ :: _ :: _ :: _ :: _ :: _ :: _ :: _ :: _ :: _ :: _ :: _ :: _ :: _ :: _ :: _ :: _ :: _ :: _ :: _ :: _ :: _ :: _ :: _ :: _ :: _ :: _ :: _ :: _ :: _ :: _ :: _ :: _ :: _ :: []) hP hD rfl
  clear hP hD
  obtain ⟨hP, hD⟩ := hPD
  refine lv_aload_n hx hb (g_42 bX5_init rfl) rfl (lv_at hl 0 rfl) ?_
  refine va_new (ci := 2) (fs := [.null, .int 0, .int 0, .int 0, .int 0, .int 0, .null]) (C := RX3) (T := TX3) (N := 7) hx hb hts iX_X3 tyX3 tyX3_ok hown (hts _ m_t140) (hts _ m_t141) (hts _ m_t5) hK hP hD hS hA rfl df_X3 (Nat.le_of_ble_eq_true rfl) (Nat.le_of_ble_eq_true rfl) (g_187 (v := 33) bX5_init rfl) (fun q_57 H => ?_)
  clear hP hD hS
  intro hP hD hS
  have hPD := pd_as (_ :: _ :: _ :: _ :: _ :: _ :: _ :: _ :: _ :: _ :: _ :: _ :: _ :: _ :: _ :: _ :: _ :: _ :: _ :: _ :: _ :: _ :: _ :: _ :: _ :: _ :: _ :: _ :: _ :: _ :: _ :: _ :: _ :: _ :: _ :: _ :: _ :: _ :: _ :: _ :: _ :: _ :: _ :: zzO q_57 2 [.null, .int 0, .int 0, .int 0, .int 0, .int 0, .null] :: []) hP hD rfl
  clear hP hD
  obtain ⟨hP, hD⟩ := hPD
  refine W.widen (k := 43) (n := 891) (Nat.le_of_ble_eq_true rfl) (Nat.le_of_ble_eq_true rfl) ?_
  refine lv_dup hx hb (g_89 bX5_init rfl) rfl ?_
  refine cINv (As := []) (rest := [.ref q_57, .ref qx]) (b := q_57) ⟨hx, hb, hml, hown, hts⟩ (k_X3_init l G cy (H).size q_57) L_X5_35 hN hP hD hS hA [43] (true :: true :: true :: true :: true :: true :: true :: true :: true :: true :: true :: true :: true :: true :: true :: true :: true :: true :: true :: true :: true :: true :: true :: true :: true :: true :: true :: true :: true :: true :: true :: true :: true :: true :: true :: true :: true :: true :: true :: true :: true :: true :: true :: false :: []) rfl (by decide +kernel) rfl rfl ⟨Nat.le_of_ble_eq_true rfl, Nat.le_of_ble_eq_true rfl⟩ hl.1 (Nat.le_of_ble_eq_true rfl) (g_183 (v := 35) bX5_init rfl) ⟨Nat.le_of_ble_eq_true rfl, Nat.le_of_ble_eq_true rfl⟩ (fun u_60 H locs h_59 => ?_)
  clear hP hD hS
  intro hP hD hS
  obtain ⟨qab_61, qd_62, qdw_63, qdn_64, qdg_65, qda_66, qdr_67, qdm_68, qdt_69, qds_70, hu9⟩ := h_59
  have hPD := pd_eq (_ :: _ :: _ :: _ :: _ :: _ :: _ :: _ :: _ :: _ :: _ :: _ :: _ :: _ :: _ :: _ :: _ :: _ :: _ :: _ :: _ :: _ :: _ :: _ :: _ :: _ :: _ :: _ :: _ :: _ :: _ :: _ :: _ :: _ :: _ :: _ :: _ :: _ :: _ :: _ :: _ :: _ :: _ :: zzO q_57 2 [.ref qab_61, .int 0, .int 0, .int 0, .int 0, .int 0, .ref qd_62] :: zzB cy qab_61 250 (fun _ => 0) :: zzO qd_62 3 [.int 0, .int 0, .int 0, .int 0, .int 1, .ref qdw_63, .ref qdn_64, .ref qdg_65, .ref qda_66, .ref qdr_67, .ref qdm_68, .ref qdt_69, .ref qds_70] :: zzI cy qdw_63 8 (fun _ => 0) :: zzI cy qdn_64 8 (fun _ => 0) :: zzI cy qdg_65 8 (fun _ => 0) :: zzI cy qda_66 8 (fun _ => 0) :: zzI cy qdr_67 8 (fun _ => 0) :: zzI cy qdm_68 8 (fun _ => 0) :: zzI cy qdt_69 8 (fun _ => 0) :: zzI cy qds_70 64 (fun _ => 0) :: []) hP hD hu9 rfl
  clear hP hD hu9
  obtain ⟨hP, hD⟩ := hPD
  refine W.widen (k := 53) (n := 1274) (Nat.le_of_ble_eq_true rfl) (Nat.le_of_ble_eq_true rfl) ?_
  refine va_putF (D := G) (ci := 4) (v := .ref q_57) (ty := (.object "EachBookOnce$Tape")) (C := RX5) (T := TX5) (N := 9) hx hb hts iX_X5 tyX5 tyX5_ok nmX5 hown hK hP hD hS 0 rfl rfl 4 (by decide +kernel) (hts _ m_t178) (fun _ h9 => h9) rfl hin rfl (by decide +kernel) rfl rfl (Nat.le_of_ble_eq_true rfl) (g_181 (v := 36) bX5_init rfl) (fun H locs => ?_)
  clear hP hD hS
  intro hP hD hS
  have hPD := pd_as (zzO qx 4 [.ref q_1, .ref q_13, .ref q_25, .ref q_47, .ref q_57, .null, .int 0, .int 0, .int 0] :: _ :: _ :: _ :: _ :: _ :: _ :: _ :: _ :: _ :: _ :: _ :: _ :: _ :: _ :: _ :: _ :: _ :: _ :: _ :: _ :: _ :: _ :: _ :: _ :: _ :: _ :: _ :: _ :: _ :: _ :: _ :: _ :: _ :: _ :: _ :: _ :: _ :: _ :: _ :: _ :: _ :: _ :: _ :: _ :: _ :: _ :: _ :: _ :: _ :: _ :: _ :: _ :: _ :: []) hP hD rfl
  clear hP hD
  obtain ⟨hP, hD⟩ := hPD
  refine lv_aload_n hx hb (g_42 bX5_init rfl) rfl (lv_at hl 0 rfl) ?_
  refine lv_iconst (v := 5) hx hb (g_8 bX5_init rfl) (by decide +kernel) ?_
  refine newI hx hb hts m_t92 hN hP hD hS hA 5 (by decide +kernel) (by decide +kernel) (Nat.le_of_ble_eq_true rfl) (Nat.le_of_ble_eq_true rfl) (Nat.le_of_ble_eq_true rfl) (g_na10 bX5_init rfl) (fun q_71 H => ?_)
  clear hP hD hS
  intro hP hD hS
  have hPD := pd_as (_ :: _ :: _ :: _ :: _ :: _ :: _ :: _ :: _ :: _ :: _ :: _ :: _ :: _ :: _ :: _ :: _ :: _ :: _ :: _ :: _ :: _ :: _ :: _ :: _ :: _ :: _ :: _ :: _ :: _ :: _ :: _ :: _ :: _ :: _ :: _ :: _ :: _ :: _ :: _ :: _ :: _ :: _ :: _ :: _ :: _ :: _ :: _ :: _ :: _ :: _ :: _ :: _ :: _ :: zzI cy q_71 5 (fun _ => 0) :: []) hP hD rfl
  clear hP hD
  obtain ⟨hP, hD⟩ := hPD
  refine W.widen (k := 54) (n := 1279) (Nat.le_of_ble_eq_true rfl) (Nat.le_of_ble_eq_true rfl) ?_
  refine va_putF (D := G) (ci := 4) (v := .ref q_71) (ty := (.array .int)) (C := RX5) (T := TX5) (N := 9) hx hb hts iX_X5 tyX5 tyX5_ok nmX5 hown hK hP hD hS 0 rfl rfl 5 (by decide +kernel) (hts _ m_t179) (fun _ h9 => h9) rfl hin rfl (by decide +kernel) rfl rfl (Nat.le_of_ble_eq_true rfl) (g_181 (v := 40) bX5_init rfl) (fun H locs => ?_)
  clear hP hD hS
  intro hP hD hS
  have hPD := pd_as (zzO qx 4 [.ref q_1, .ref q_13, .ref q_25, .ref q_47, .ref q_57, .ref q_71, .int 0, .int 0, .int 0] :: _ :: _ :: _ :: _ :: _ :: _ :: _ :: _ :: _ :: _ :: _ :: _ :: _ :: _ :: _ :: _ :: _ :: _ :: _ :: _ :: _ :: _ :: _ :: _ :: _ :: _ :: _ :: _ :: _ :: _ :: _ :: _ :: _ :: _ :: _ :: _ :: _ :: _ :: _ :: _ :: _ :: _ :: _ :: _ :: _ :: _ :: _ :: _ :: _ :: _ :: _ :: _ :: _ :: _ :: []) hP hD rfl
  clear hP hD
  obtain ⟨hP, hD⟩ := hPD
  exact endVs [(true :: false :: false :: false :: false :: false :: false :: false :: false :: false :: false :: false :: false :: false :: false :: false :: false :: false :: false :: false :: false :: false :: false :: false :: false :: false :: false :: false :: false :: false :: false :: false :: false :: false :: false :: false :: false :: false :: false :: false :: false :: false :: false :: false :: false :: false :: false :: false :: false :: false :: false :: false :: false :: false :: true :: []), (false :: true :: true :: true :: true :: true :: true :: true :: true :: true :: true :: true :: true :: true :: true :: true :: true :: true :: true :: true :: true :: true :: true :: true :: true :: true :: true :: true :: true :: true :: true :: true :: true :: true :: true :: true :: true :: true :: true :: true :: true :: true :: true :: true :: true :: true :: true :: true :: true :: true :: true :: true :: true :: true :: [])] hx hb hr hlocks hP hD rfl (by decide +kernel) hS ⟨q_71, q_1, qtw_5, qtn_6, qtg_7, qta_8, qtr_9, qtm_10, qtt_11, qts_12, q_13, qtw_17, qtn_18, qtg_19, qta_20, qtr_21, qtm_22, qtt_23, qts_24, q_25, qu_29, quw_30, qun_31, qug_32, qua_33, qur_34, qum_35, qut_36, qus_37, qv_38, qvw_39, qvn_40, qvg_41, qva_42, qvr_43, qvm_44, qvt_45, qvs_46, q_47, qsh_51, qss_52, qsa_53, qse_54, fH_55, q_57, qab_61, qd_62, qdw_63, qdn_64, qdg_65, qda_66, qdr_67, qdm_68, qdt_69, qds_70, rfl, h_56⟩ (g_177 bX5_init rfl)
set_option maxHeartbeats 4000000 in
set_option maxRecDepth 100000 in
theorem k_X6_init (l : Launch) (G : va_G) (cy : Nat → ClassId) (sz : Nat) (qm : Nat)   : MW l yX6_init cX6_init 1 none 1 49 853 G cy [zzO qm 5 (.null :: .null :: .null :: .null :: .null :: .null :: .null :: .null :: .int 0 :: .null :: .int 0 :: .null :: .int 0 :: .null :: .null :: .int 0 :: .int 0 :: .int 0 :: .null :: .null :: .int 0 :: .int 0 :: .int 0 :: .long 0 :: .int 0 :: .null :: .int 0 :: .int 0 :: .int 0 :: .null :: .null :: .null :: .null :: .null :: .int 0 :: [])] sz [.ref qm] (Wv G (fun u => ∃ (qmh : Nat) (qmo : Nat) (qmz : Nat) (qmv : Nat) (qmk : Nat) (qma : Nat) (qmt : Nat) (qmr : Nat) (qm3 : Nat) (qmu : Nat) (qmy : Nat) (qmb : Nat) (qmR : Nat) (qmB : Nat) (qmO : Nat) (qmK : Nat) (rR : Nat → Nat) (rB : Nat → Nat) (rO : Nat → Nat) (rK : Nat → Nat) (qms : Nat), u = (zzO qm 5 (.ref qmh :: .ref qmo :: .ref qmz :: .ref qmR :: .ref qmv :: .ref qmk :: .ref qma :: .ref qmt :: .int 0 :: .ref qmr :: .int 0 :: .ref qmB :: .int 0 :: .ref qmO :: .ref qmK :: .int 0 :: .int 0 :: .int 1 :: .null :: .null :: .int 0 :: .int 0 :: .int 0 :: .long 0 :: .int 0 :: .ref qm3 :: .int 0 :: .int 0 :: .int 0 :: .null :: .ref qmu :: .ref qmy :: .ref qmb :: .ref qms :: .int 0 :: []) :: zzI cy qmh 8 (fun _ => 0) :: zzI cy qmo 8 (fun _ => 0) :: zzI cy qmz 8 (fun _ => 0) :: zzJ cy qmv 40 (fun _ => 0) :: zzI cy qmk 8 (fun _ => 0) :: zzI cy qma 8 (fun _ => 0) :: zzI cy qmt 250 (fun _ => 0) :: zzI cy qmr 8 (fun _ => 0) :: zzI cy qm3 3 (fun _ => 0) :: zzI cy qmu 8 (fun _ => 0) :: zzI cy qmy 5 (fun _ => 0) :: zzI cy qmb 5 (fun _ => 0) :: zzG cy 4 qmR rR :: zzJ cy (rR 0) 40 (fun _ => 0) :: zzJ cy (rR 1) 40 (fun _ => 0) :: zzJ cy (rR 2) 40 (fun _ => 0) :: zzJ cy (rR 3) 40 (fun _ => 0) :: zzJ cy (rR 4) 40 (fun _ => 0) :: zzJ cy (rR 5) 40 (fun _ => 0) :: zzJ cy (rR 6) 40 (fun _ => 0) :: zzJ cy (rR 7) 40 (fun _ => 0) :: zzG cy 3 qmB rB :: zzI cy (rB 0) 4 (fun _ => 0) :: zzI cy (rB 1) 4 (fun _ => 0) :: zzI cy (rB 2) 4 (fun _ => 0) :: zzI cy (rB 3) 4 (fun _ => 0) :: zzI cy (rB 4) 4 (fun _ => 0) :: zzI cy (rB 5) 4 (fun _ => 0) :: zzI cy (rB 6) 4 (fun _ => 0) :: zzI cy (rB 7) 4 (fun _ => 0) :: zzG cy 3 qmO rO :: zzI cy (rO 0) 5 (fun _ => 0) :: zzI cy (rO 1) 5 (fun _ => 0) :: zzI cy (rO 2) 5 (fun _ => 0) :: zzI cy (rO 3) 5 (fun _ => 0) :: zzI cy (rO 4) 5 (fun _ => 0) :: zzI cy (rO 5) 5 (fun _ => 0) :: zzI cy (rO 6) 5 (fun _ => 0) :: zzI cy (rO 7) 5 (fun _ => 0) :: zzG cy 3 qmK rK :: zzI cy (rK 0) 8 (fun _ => 0) :: zzI cy (rK 1) 8 (fun _ => 0) :: zzI cy (rK 2) 8 (fun _ => 0) :: zzI cy (rK 3) 8 (fun _ => 0) :: zzI cy (rK 4) 8 (fun _ => 0) :: zzI cy (rK 5) 8 (fun _ => 0) :: zzI cy (rK 6) 8 (fun _ => 0) :: zzI cy (rK 7) 8 (fun _ => 0) :: zzQ cy 5 qms 6 (fun _ => none) :: []))) := by
  refine enW RX6 (by decide +kernel) rfl (Nat.le_of_ble_eq_true rfl) (fun p e s m below meth c ls A hx hb hml hown hts hr hlocks hP hN hl hin hD hA hS => ?_)
  have hin : meth.name = _ := hin
  have hK := hN.1
  replace hl : lv_has ls 1 [(0, .ref qm)] := hl
  refine lv_aload_n hx hb (g_42 bX6_init rfl) rfl (lv_at hl 0 rfl) ?_
  refine W.objInit hx hb hown (hts _ m_t843) (hts _ m_t21) (hts _ m_t22) rfl (by rw [hml]; exact hl.1) rfl dX6_init_1 (Nat.le_of_ble_eq_true rfl) (Nat.le_of_ble_eq_true rfl) ?_
  refine W.eq (g2 := F0 m 4 ls []) rfl ?_
  refine lv_aload_n hx hb (g_42 bX6_init rfl) rfl (lv_at hl 0 rfl) ?_
  refine lv_bipush (v := 8) hx hb dX6_init_5 (by decide +kernel) ?_
  refine newI hx hb hts m_t92 hN hP hD hS hA 8 (by decide +kernel) (by decide +kernel) (Nat.le_of_ble_eq_true rfl) (Nat.le_of_ble_eq_true rfl) (Nat.le_of_ble_eq_true rfl) (g_na10 bX6_init rfl) (fun q_1 H => ?_)
  clear hP hD hS
  intro hP hD hS
  have hPD := pd_as [_, zzI cy q_1 8 (fun _ => 0)] hP hD rfl
  clear hP hD
  obtain ⟨hP, hD⟩ := hPD
  refine W.widen (k := 1) (n := 8) (Nat.le_of_ble_eq_true rfl) (Nat.le_of_ble_eq_true rfl) ?_
  refine va_putF (D := G) (ci := 5) (v := .ref q_1) (ty := (.array .int)) (C := RX6) (T := TX6) (N := 35) hx hb hts iX_X6 tyX6 tyX6_ok nmX6 hown hK hP hD hS 0 rfl rfl 0 (by decide +kernel) (hts _ m_t850) (fun _ h9 => h9) rfl hin rfl (by decide +kernel) rfl rfl (Nat.le_of_ble_eq_true rfl) (g_181 (v := 7) bX6_init rfl) (fun H locs => ?_)
  clear hP hD hS
  intro hP hD hS
  have hPD := pd_as [zzO qm 5 (.ref q_1 :: .null :: .null :: .null :: .null :: .null :: .null :: .null :: .int 0 :: .null :: .int 0 :: .null :: .int 0 :: .null :: .null :: .int 0 :: .int 0 :: .int 0 :: .null :: .null :: .int 0 :: .int 0 :: .int 0 :: .long 0 :: .int 0 :: .null :: .int 0 :: .int 0 :: .int 0 :: .null :: .null :: .null :: .null :: .null :: .int 0 :: []), _] hP hD rfl
  clear hP hD
  obtain ⟨hP, hD⟩ := hPD
  refine lv_aload_n hx hb (g_42 bX6_init rfl) rfl (lv_at hl 0 rfl) ?_
  refine lv_bipush (v := 8) hx hb dX6_init_13 (by decide +kernel) ?_
  refine newI hx hb hts m_t92 hN hP hD hS hA 8 (by decide +kernel) (by decide +kernel) (Nat.le_of_ble_eq_true rfl) (Nat.le_of_ble_eq_true rfl) (Nat.le_of_ble_eq_true rfl) (g_na10 bX6_init rfl) (fun q_2 H => ?_)
  clear hP hD hS
  intro hP hD hS
  have hPD := pd_as [_, _, zzI cy q_2 8 (fun _ => 0)] hP hD rfl
  clear hP hD
  obtain ⟨hP, hD⟩ := hPD
  refine W.widen (k := 2) (n := 16) (Nat.le_of_ble_eq_true rfl) (Nat.le_of_ble_eq_true rfl) ?_
  refine va_putF (D := G) (ci := 5) (v := .ref q_2) (ty := (.array .int)) (C := RX6) (T := TX6) (N := 35) hx hb hts iX_X6 tyX6 tyX6_ok nmX6 hown hK hP hD hS 0 rfl rfl 1 (by decide +kernel) (hts _ m_t851) (fun _ h9 => h9) rfl hin rfl (by decide +kernel) rfl rfl (Nat.le_of_ble_eq_true rfl) (g_181 (v := 13) bX6_init rfl) (fun H locs => ?_)
  clear hP hD hS
  intro hP hD hS
  have hPD := pd_as [zzO qm 5 (.ref q_1 :: .ref q_2 :: .null :: .null :: .null :: .null :: .null :: .null :: .int 0 :: .null :: .int 0 :: .null :: .int 0 :: .null :: .null :: .int 0 :: .int 0 :: .int 0 :: .null :: .null :: .int 0 :: .int 0 :: .int 0 :: .long 0 :: .int 0 :: .null :: .int 0 :: .int 0 :: .int 0 :: .null :: .null :: .null :: .null :: .null :: .int 0 :: []), _, _] hP hD rfl
  clear hP hD
  obtain ⟨hP, hD⟩ := hPD
  refine lv_aload_n hx hb (g_42 bX6_init rfl) rfl (lv_at hl 0 rfl) ?_
  refine lv_bipush (v := 8) hx hb dX6_init_21 (by decide +kernel) ?_
  refine newI hx hb hts m_t92 hN hP hD hS hA 8 (by decide +kernel) (by decide +kernel) (Nat.le_of_ble_eq_true rfl) (Nat.le_of_ble_eq_true rfl) (Nat.le_of_ble_eq_true rfl) (g_na10 bX6_init rfl) (fun q_3 H => ?_)
  clear hP hD hS
  intro hP hD hS
  have hPD := pd_as [_, _, _, zzI cy q_3 8 (fun _ => 0)] hP hD rfl
  clear hP hD
  obtain ⟨hP, hD⟩ := hPD
  refine W.widen (k := 3) (n := 24) (Nat.le_of_ble_eq_true rfl) (Nat.le_of_ble_eq_true rfl) ?_
  refine va_putF (D := G) (ci := 5) (v := .ref q_3) (ty := (.array .int)) (C := RX6) (T := TX6) (N := 35) hx hb hts iX_X6 tyX6 tyX6_ok nmX6 hown hK hP hD hS 0 rfl rfl 2 (by decide +kernel) (hts _ m_t852) (fun _ h9 => h9) rfl hin rfl (by decide +kernel) rfl rfl (Nat.le_of_ble_eq_true rfl) (g_181 (v := 16) bX6_init rfl) (fun H locs => ?_)
  clear hP hD hS
  intro hP hD hS
  have hPD := pd_as [zzO qm 5 (.ref q_1 :: .ref q_2 :: .ref q_3 :: .null :: .null :: .null :: .null :: .null :: .int 0 :: .null :: .int 0 :: .null :: .int 0 :: .null :: .null :: .int 0 :: .int 0 :: .int 0 :: .null :: .null :: .int 0 :: .int 0 :: .int 0 :: .long 0 :: .int 0 :: .null :: .int 0 :: .int 0 :: .int 0 :: .null :: .null :: .null :: .null :: .null :: .int 0 :: []), _, _, _] hP hD rfl
  clear hP hD
  obtain ⟨hP, hD⟩ := hPD
  refine lv_aload_n hx hb (g_42 bX6_init rfl) rfl (lv_at hl 0 rfl) ?_
  refine lv_bipush (v := 8) hx hb dX6_init_29 (by decide +kernel) ?_
  refine lv_bipush (v := 40) hx hb dX6_init_31 (by decide +kernel) ?_
  refine newJJ hx hb hts hown m_t844 m_t139 hN hP hD hS hA 40 (by decide +kernel) (by decide +kernel) (by decide +kernel) (Nat.le_of_ble_eq_true rfl) (Nat.le_of_ble_eq_true rfl) (Nat.le_of_ble_eq_true rfl) (Nat.le_of_ble_eq_true rfl) dX6_init_33 (fun q_4 r_5 H => ?_)
  clear hP hD hS
  intro hP hD hS
  have hPD := pd_as [_, _, _, _, zzG cy 4 q_4 r_5, zzJ cy (r_5 0) 40 (fun _ => 0), zzJ cy (r_5 1) 40 (fun _ => 0), zzJ cy (r_5 2) 40 (fun _ => 0), zzJ cy (r_5 3) 40 (fun _ => 0), zzJ cy (r_5 4) 40 (fun _ => 0), zzJ cy (r_5 5) 40 (fun _ => 0), zzJ cy (r_5 6) 40 (fun _ => 0), zzJ cy (r_5 7) 40 (fun _ => 0)] hP hD rfl
  clear hP hD
  obtain ⟨hP, hD⟩ := hPD
  refine W.widen (k := 12) (n := 352) (Nat.le_of_ble_eq_true rfl) (Nat.le_of_ble_eq_true rfl) ?_
  refine va_putF (D := G) (ci := 5) (v := .ref q_4) (ty := (.array (.array .long))) (C := RX6) (T := TX6) (N := 35) hx hb hts iX_X6 tyX6 tyX6_ok nmX6 hown hK hP hD hS 0 rfl rfl 3 (by decide +kernel) (hts _ m_t853) (fun _ h9 => h9) rfl hin rfl (by decide +kernel) rfl rfl (Nat.le_of_ble_eq_true rfl) (g_181 (v := 21) bX6_init rfl) (fun H locs => ?_)
  clear hP hD hS
  intro hP hD hS
  have hPD := pd_as [zzO qm 5 (.ref q_1 :: .ref q_2 :: .ref q_3 :: .ref q_4 :: .null :: .null :: .null :: .null :: .int 0 :: .null :: .int 0 :: .null :: .int 0 :: .null :: .null :: .int 0 :: .int 0 :: .int 0 :: .null :: .null :: .int 0 :: .int 0 :: .int 0 :: .long 0 :: .int 0 :: .null :: .int 0 :: .int 0 :: .int 0 :: .null :: .null :: .null :: .null :: .null :: .int 0 :: []), _, _, _, _, _, _, _, _, _, _, _, _] hP hD rfl
  clear hP hD
  obtain ⟨hP, hD⟩ := hPD
  refine lv_aload_n hx hb (g_42 bX6_init rfl) rfl (lv_at hl 0 rfl) ?_
  refine lv_bipush (v := 40) hx hb dX6_init_41 (by decide +kernel) ?_
  refine newJ hx hb hts m_t139 hN hP hD hS hA 40 (by decide +kernel) (by decide +kernel) (Nat.le_of_ble_eq_true rfl) (Nat.le_of_ble_eq_true rfl) (Nat.le_of_ble_eq_true rfl) (g_na11 bX6_init rfl) (fun q_6 H => ?_)
  clear hP hD hS
  intro hP hD hS
  have hPD := pd_as [_, _, _, _, _, _, _, _, _, _, _, _, _, zzJ cy q_6 40 (fun _ => 0)] hP hD rfl
  clear hP hD
  obtain ⟨hP, hD⟩ := hPD
  refine W.widen (k := 13) (n := 392) (Nat.le_of_ble_eq_true rfl) (Nat.le_of_ble_eq_true rfl) ?_
  refine va_putF (D := G) (ci := 5) (v := .ref q_6) (ty := (.array .long)) (C := RX6) (T := TX6) (N := 35) hx hb hts iX_X6 tyX6 tyX6_ok nmX6 hown hK hP hD hS 0 rfl rfl 4 (by decide +kernel) (hts _ m_t854) (fun _ h9 => h9) rfl hin rfl (by decide +kernel) rfl rfl (Nat.le_of_ble_eq_true rfl) (g_181 (v := 24) bX6_init rfl) (fun H locs => ?_)
  clear hP hD hS
  intro hP hD hS
  have hPD := pd_as [zzO qm 5 (.ref q_1 :: .ref q_2 :: .ref q_3 :: .ref q_4 :: .ref q_6 :: .null :: .null :: .null :: .int 0 :: .null :: .int 0 :: .null :: .int 0 :: .null :: .null :: .int 0 :: .int 0 :: .int 0 :: .null :: .null :: .int 0 :: .int 0 :: .int 0 :: .long 0 :: .int 0 :: .null :: .int 0 :: .int 0 :: .int 0 :: .null :: .null :: .null :: .null :: .null :: .int 0 :: []), _, _, _, _, _, _, _, _, _, _, _, _, _] hP hD rfl
  clear hP hD
  obtain ⟨hP, hD⟩ := hPD
  refine lv_aload_n hx hb (g_42 bX6_init rfl) rfl (lv_at hl 0 rfl) ?_
  refine lv_bipush (v := 8) hx hb dX6_init_49 (by decide +kernel) ?_
  refine newI hx hb hts m_t92 hN hP hD hS hA 8 (by decide +kernel) (by decide +kernel) (Nat.le_of_ble_eq_true rfl) (Nat.le_of_ble_eq_true rfl) (Nat.le_of_ble_eq_true rfl) (g_na10 bX6_init rfl) (fun q_7 H => ?_)
  clear hP hD hS
  intro hP hD hS
  have hPD := pd_as [_, _, _, _, _, _, _, _, _, _, _, _, _, _, zzI cy q_7 8 (fun _ => 0)] hP hD rfl
  clear hP hD
  obtain ⟨hP, hD⟩ := hPD
  refine W.widen (k := 14) (n := 400) (Nat.le_of_ble_eq_true rfl) (Nat.le_of_ble_eq_true rfl) ?_
  refine va_putF (D := G) (ci := 5) (v := .ref q_7) (ty := (.array .int)) (C := RX6) (T := TX6) (N := 35) hx hb hts iX_X6 tyX6 tyX6_ok nmX6 hown hK hP hD hS 0 rfl rfl 5 (by decide +kernel) (hts _ m_t855) (fun _ h9 => h9) rfl hin rfl (by decide +kernel) rfl rfl (Nat.le_of_ble_eq_true rfl) (g_181 (v := 28) bX6_init rfl) (fun H locs => ?_)
  clear hP hD hS
  intro hP hD hS
  have hPD := pd_as [zzO qm 5 (.ref q_1 :: .ref q_2 :: .ref q_3 :: .ref q_4 :: .ref q_6 :: .ref q_7 :: .null :: .null :: .int 0 :: .null :: .int 0 :: .null :: .int 0 :: .null :: .null :: .int 0 :: .int 0 :: .int 0 :: .null :: .null :: .int 0 :: .int 0 :: .int 0 :: .long 0 :: .int 0 :: .null :: .int 0 :: .int 0 :: .int 0 :: .null :: .null :: .null :: .null :: .null :: .int 0 :: []), _, _, _, _, _, _, _, _, _, _, _, _, _, _] hP hD rfl
  clear hP hD
  obtain ⟨hP, hD⟩ := hPD
  refine lv_aload_n hx hb (g_42 bX6_init rfl) rfl (lv_at hl 0 rfl) ?_
  refine lv_bipush (v := 8) hx hb dX6_init_57 (by decide +kernel) ?_
  refine newI hx hb hts m_t92 hN hP hD hS hA 8 (by decide +kernel) (by decide +kernel) (Nat.le_of_ble_eq_true rfl) (Nat.le_of_ble_eq_true rfl) (Nat.le_of_ble_eq_true rfl) (g_na10 bX6_init rfl) (fun q_8 H => ?_)
  clear hP hD hS
  intro hP hD hS
  have hPD := pd_as [_, _, _, _, _, _, _, _, _, _, _, _, _, _, _, zzI cy q_8 8 (fun _ => 0)] hP hD rfl
  clear hP hD
  obtain ⟨hP, hD⟩ := hPD
  refine W.widen (k := 15) (n := 408) (Nat.le_of_ble_eq_true rfl) (Nat.le_of_ble_eq_true rfl) ?_
  refine va_putF (D := G) (ci := 5) (v := .ref q_8) (ty := (.array .int)) (C := RX6) (T := TX6) (N := 35) hx hb hts iX_X6 tyX6 tyX6_ok nmX6 hown hK hP hD hS 0 rfl rfl 6 (by decide +kernel) (hts _ m_t856) (fun _ h9 => h9) rfl hin rfl (by decide +kernel) rfl rfl (Nat.le_of_ble_eq_true rfl) (g_181 (v := 31) bX6_init rfl) (fun H locs => ?_)
  clear hP hD hS
  intro hP hD hS
  have hPD := pd_as [zzO qm 5 (.ref q_1 :: .ref q_2 :: .ref q_3 :: .ref q_4 :: .ref q_6 :: .ref q_7 :: .ref q_8 :: .null :: .int 0 :: .null :: .int 0 :: .null :: .int 0 :: .null :: .null :: .int 0 :: .int 0 :: .int 0 :: .null :: .null :: .int 0 :: .int 0 :: .int 0 :: .long 0 :: .int 0 :: .null :: .int 0 :: .int 0 :: .int 0 :: .null :: .null :: .null :: .null :: .null :: .int 0 :: []), _, _, _, _, _, _, _, _, _, _, _, _, _, _, _] hP hD rfl
  clear hP hD
  obtain ⟨hP, hD⟩ := hPD
  refine lv_aload_n hx hb (g_42 bX6_init rfl) rfl (lv_at hl 0 rfl) ?_
  refine lv_sipush (v := 250) hx hb dX6_init_65 (by decide +kernel) ?_
  refine newI hx hb hts m_t92 hN hP hD hS hA 250 (by decide +kernel) (by decide +kernel) (Nat.le_of_ble_eq_true rfl) (Nat.le_of_ble_eq_true rfl) (Nat.le_of_ble_eq_true rfl) (g_na10 bX6_init rfl) (fun q_9 H => ?_)
  clear hP hD hS
  intro hP hD hS
  have hPD := pd_as [_, _, _, _, _, _, _, _, _, _, _, _, _, _, _, _, zzI cy q_9 250 (fun _ => 0)] hP hD rfl
  clear hP hD
  obtain ⟨hP, hD⟩ := hPD
  refine W.widen (k := 16) (n := 658) (Nat.le_of_ble_eq_true rfl) (Nat.le_of_ble_eq_true rfl) ?_
  refine va_putF (D := G) (ci := 5) (v := .ref q_9) (ty := (.array .int)) (C := RX6) (T := TX6) (N := 35) hx hb hts iX_X6 tyX6 tyX6_ok nmX6 hown hK hP hD hS 0 rfl rfl 7 (by decide +kernel) (hts _ m_t857) (fun _ h9 => h9) rfl hin rfl (by decide +kernel) rfl rfl (Nat.le_of_ble_eq_true rfl) (g_181 (v := 34) bX6_init rfl) (fun H locs => ?_)
  clear hP hD hS
  intro hP hD hS
  have hPD := pd_as [zzO qm 5 (.ref q_1 :: .ref q_2 :: .ref q_3 :: .ref q_4 :: .ref q_6 :: .ref q_7 :: .ref q_8 :: .ref q_9 :: .int 0 :: .null :: .int 0 :: .null :: .int 0 :: .null :: .null :: .int 0 :: .int 0 :: .int 0 :: .null :: .null :: .int 0 :: .int 0 :: .int 0 :: .long 0 :: .int 0 :: .null :: .int 0 :: .int 0 :: .int 0 :: .null :: .null :: .null :: .null :: .null :: .int 0 :: []), _, _, _, _, _, _, _, _, _, _, _, _, _, _, _, _] hP hD rfl
  clear hP hD
  obtain ⟨hP, hD⟩ := hPD
  refine lv_aload_n hx hb (g_42 bX6_init rfl) rfl (lv_at hl 0 rfl) ?_
  refine lv_bipush (v := 8) hx hb dX6_init_74 (by decide +kernel) ?_
  refine newI hx hb hts m_t92 hN hP hD hS hA 8 (by decide +kernel) (by decide +kernel) (Nat.le_of_ble_eq_true rfl) (Nat.le_of_ble_eq_true rfl) (Nat.le_of_ble_eq_true rfl) (g_na10 bX6_init rfl) (fun q_10 H => ?_)
  clear hP hD hS
  intro hP hD hS
  have hPD := pd_as [_, _, _, _, _, _, _, _, _, _, _, _, _, _, _, _, _, zzI cy q_10 8 (fun _ => 0)] hP hD rfl
  clear hP hD
  obtain ⟨hP, hD⟩ := hPD
  refine W.widen (k := 17) (n := 666) (Nat.le_of_ble_eq_true rfl) (Nat.le_of_ble_eq_true rfl) ?_
  refine va_putF (D := G) (ci := 5) (v := .ref q_10) (ty := (.array .int)) (C := RX6) (T := TX6) (N := 35) hx hb hts iX_X6 tyX6 tyX6_ok nmX6 hown hK hP hD hS 0 rfl rfl 9 (by decide +kernel) (hts _ m_t859) (fun _ h9 => h9) rfl hin rfl (by decide +kernel) rfl rfl (Nat.le_of_ble_eq_true rfl) (g_181 (v := 37) bX6_init rfl) (fun H locs => ?_)
  clear hP hD hS
  intro hP hD hS
  have hPD := pd_as [zzO qm 5 (.ref q_1 :: .ref q_2 :: .ref q_3 :: .ref q_4 :: .ref q_6 :: .ref q_7 :: .ref q_8 :: .ref q_9 :: .int 0 :: .ref q_10 :: .int 0 :: .null :: .int 0 :: .null :: .null :: .int 0 :: .int 0 :: .int 0 :: .null :: .null :: .int 0 :: .int 0 :: .int 0 :: .long 0 :: .int 0 :: .null :: .int 0 :: .int 0 :: .int 0 :: .null :: .null :: .null :: .null :: .null :: .int 0 :: []), _, _, _, _, _, _, _, _, _, _, _, _, _, _, _, _, _] hP hD rfl
  clear hP hD
  obtain ⟨hP, hD⟩ := hPD
  refine lv_aload_n hx hb (g_42 bX6_init rfl) rfl (lv_at hl 0 rfl) ?_
  refine lv_bipush (v := 8) hx hb dX6_init_82 (by decide +kernel) ?_
  refine lv_iconst (v := 4) hx hb (g_7 bX6_init rfl) (by decide +kernel) ?_
  refine newII hx hb hts hown m_t846 m_t92 hN hP hD hS hA 4 (by decide +kernel) (by decide +kernel) (by decide +kernel) (Nat.le_of_ble_eq_true rfl) (Nat.le_of_ble_eq_true rfl) (Nat.le_of_ble_eq_true rfl) (Nat.le_of_ble_eq_true rfl) dX6_init_85 (fun q_11 r_12 H => ?_)
  clear hP hD hS
  intro hP hD hS
  have hPD := pd_as [_, _, _, _, _, _, _, _, _, _, _, _, _, _, _, _, _, _, zzG cy 3 q_11 r_12, zzI cy (r_12 0) 4 (fun _ => 0), zzI cy (r_12 1) 4 (fun _ => 0), zzI cy (r_12 2) 4 (fun _ => 0), zzI cy (r_12 3) 4 (fun _ => 0), zzI cy (r_12 4) 4 (fun _ => 0), zzI cy (r_12 5) 4 (fun _ => 0), zzI cy (r_12 6) 4 (fun _ => 0), zzI cy (r_12 7) 4 (fun _ => 0)] hP hD rfl
  clear hP hD
  obtain ⟨hP, hD⟩ := hPD
  refine W.widen (k := 26) (n := 706) (Nat.le_of_ble_eq_true rfl) (Nat.le_of_ble_eq_true rfl) ?_
  refine va_putF (D := G) (ci := 5) (v := .ref q_11) (ty := (.array (.array .int))) (C := RX6) (T := TX6) (N := 35) hx hb hts iX_X6 tyX6 tyX6_ok nmX6 hown hK hP hD hS 0 rfl rfl 11 (by decide +kernel) (hts _ m_t861) (fun _ h9 => h9) rfl hin rfl (by decide +kernel) rfl rfl (Nat.le_of_ble_eq_true rfl) (g_181 (v := 42) bX6_init rfl) (fun H locs => ?_)
  clear hP hD hS
  intro hP hD hS
  have hPD := pd_as [zzO qm 5 (.ref q_1 :: .ref q_2 :: .ref q_3 :: .ref q_4 :: .ref q_6 :: .ref q_7 :: .ref q_8 :: .ref q_9 :: .int 0 :: .ref q_10 :: .int 0 :: .ref q_11 :: .int 0 :: .null :: .null :: .int 0 :: .int 0 :: .int 0 :: .null :: .null :: .int 0 :: .int 0 :: .int 0 :: .long 0 :: .int 0 :: .null :: .int 0 :: .int 0 :: .int 0 :: .null :: .null :: .null :: .null :: .null :: .int 0 :: []), _, _, _, _, _, _, _, _, _, _, _, _, _, _, _, _, _, _, _, _, _, _, _, _, _, _] hP hD rfl
  clear hP hD
  obtain ⟨hP, hD⟩ := hPD
  refine lv_aload_n hx hb (g_42 bX6_init rfl) rfl (lv_at hl 0 rfl) ?_
  refine lv_bipush (v := 8) hx hb dX6_init_93 (by decide +kernel) ?_
  refine lv_iconst (v := 5) hx hb (g_8 bX6_init rfl) (by decide +kernel) ?_
  refine newII hx hb hts hown m_t846 m_t92 hN hP hD hS hA 5 (by decide +kernel) (by decide +kernel) (by decide +kernel) (Nat.le_of_ble_eq_true rfl) (Nat.le_of_ble_eq_true rfl) (Nat.le_of_ble_eq_true rfl) (Nat.le_of_ble_eq_true rfl) dX6_init_96 (fun q_13 r_14 H => ?_)
  clear hP hD hS
  intro hP hD hS
  have hPD := pd_as (_ :: _ :: _ :: _ :: _ :: _ :: _ :: _ :: _ :: _ :: _ :: _ :: _ :: _ :: _ :: _ :: _ :: _ :: _ :: _ :: _ :: _ :: _ :: _ :: _ :: _ :: _ :: zzG cy 3 q_13 r_14 :: zzI cy (r_14 0) 5 (fun _ => 0) :: zzI cy (r_14 1) 5 (fun _ => 0) :: zzI cy (r_14 2) 5 (fun _ => 0) :: zzI cy (r_14 3) 5 (fun _ => 0) :: zzI cy (r_14 4) 5 (fun _ => 0) :: zzI cy (r_14 5) 5 (fun _ => 0) :: zzI cy (r_14 6) 5 (fun _ => 0) :: zzI cy (r_14 7) 5 (fun _ => 0) :: []) hP hD rfl
  clear hP hD
  obtain ⟨hP, hD⟩ := hPD
  refine W.widen (k := 35) (n := 754) (Nat.le_of_ble_eq_true rfl) (Nat.le_of_ble_eq_true rfl) ?_
  refine va_putF (D := G) (ci := 5) (v := .ref q_13) (ty := (.array (.array .int))) (C := RX6) (T := TX6) (N := 35) hx hb hts iX_X6 tyX6 tyX6_ok nmX6 hown hK hP hD hS 0 rfl rfl 13 (by decide +kernel) (hts _ m_t863) (fun _ h9 => h9) rfl hin rfl (by decide +kernel) rfl rfl (Nat.le_of_ble_eq_true rfl) (g_181 (v := 45) bX6_init rfl) (fun H locs => ?_)
  clear hP hD hS
  intro hP hD hS
  have hPD := pd_as (zzO qm 5 (.ref q_1 :: .ref q_2 :: .ref q_3 :: .ref q_4 :: .ref q_6 :: .ref q_7 :: .ref q_8 :: .ref q_9 :: .int 0 :: .ref q_10 :: .int 0 :: .ref q_11 :: .int 0 :: .ref q_13 :: .null :: .int 0 :: .int 0 :: .int 0 :: .null :: .null :: .int 0 :: .int 0 :: .int 0 :: .long 0 :: .int 0 :: .null :: .int 0 :: .int 0 :: .int 0 :: .null :: .null :: .null :: .null :: .null :: .int 0 :: []) :: _ :: _ :: _ :: _ :: _ :: _ :: _ :: _ :: _ :: _ :: _ :: _ :: _ :: _ :: _ :: _ :: _ :: _ :: _ :: _ :: _ :: _ :: _ :: _ :: _ :: _ :: _ :: _ :: _ :: _ :: _ :: _ :: _ :: _ :: _ :: []) hP hD rfl
  clear hP hD
  obtain ⟨hP, hD⟩ := hPD
  refine lv_aload_n hx hb (g_42 bX6_init rfl) rfl (lv_at hl 0 rfl) ?_
  refine lv_bipush (v := 8) hx hb dX6_init_104 (by decide +kernel) ?_
  refine lv_bipush (v := 8) hx hb dX6_init_106 (by decide +kernel) ?_
  refine newII hx hb hts hown m_t846 m_t92 hN hP hD hS hA 8 (by decide +kernel) (by decide +kernel) (by decide +kernel) (Nat.le_of_ble_eq_true rfl) (Nat.le_of_ble_eq_true rfl) (Nat.le_of_ble_eq_true rfl) (Nat.le_of_ble_eq_true rfl) dX6_init_108 (fun q_15 r_16 H => ?_)
  clear hP hD hS
  intro hP hD hS
  have hPD := pd_as (_ :: _ :: _ :: _ :: _ :: _ :: _ :: _ :: _ :: _ :: _ :: _ :: _ :: _ :: _ :: _ :: _ :: _ :: _ :: _ :: _ :: _ :: _ :: _ :: _ :: _ :: _ :: _ :: _ :: _ :: _ :: _ :: _ :: _ :: _ :: _ :: zzG cy 3 q_15 r_16 :: zzI cy (r_16 0) 8 (fun _ => 0) :: zzI cy (r_16 1) 8 (fun _ => 0) :: zzI cy (r_16 2) 8 (fun _ => 0) :: zzI cy (r_16 3) 8 (fun _ => 0) :: zzI cy (r_16 4) 8 (fun _ => 0) :: zzI cy (r_16 5) 8 (fun _ => 0) :: zzI cy (r_16 6) 8 (fun _ => 0) :: zzI cy (r_16 7) 8 (fun _ => 0) :: []) hP hD rfl
  clear hP hD
  obtain ⟨hP, hD⟩ := hPD
  refine W.widen (k := 44) (n := 826) (Nat.le_of_ble_eq_true rfl) (Nat.le_of_ble_eq_true rfl) ?_
  refine va_putF (D := G) (ci := 5) (v := .ref q_15) (ty := (.array (.array .int))) (C := RX6) (T := TX6) (N := 35) hx hb hts iX_X6 tyX6 tyX6_ok nmX6 hown hK hP hD hS 0 rfl rfl 14 (by decide +kernel) (hts _ m_t864) (fun _ h9 => h9) rfl hin rfl (by decide +kernel) rfl rfl (Nat.le_of_ble_eq_true rfl) (g_181 (v := 48) bX6_init rfl) (fun H locs => ?_)
  clear hP hD hS
  intro hP hD hS
  have hPD := pd_as (zzO qm 5 (.ref q_1 :: .ref q_2 :: .ref q_3 :: .ref q_4 :: .ref q_6 :: .ref q_7 :: .ref q_8 :: .ref q_9 :: .int 0 :: .ref q_10 :: .int 0 :: .ref q_11 :: .int 0 :: .ref q_13 :: .ref q_15 :: .int 0 :: .int 0 :: .int 0 :: .null :: .null :: .int 0 :: .int 0 :: .int 0 :: .long 0 :: .int 0 :: .null :: .int 0 :: .int 0 :: .int 0 :: .null :: .null :: .null :: .null :: .null :: .int 0 :: []) :: _ :: _ :: _ :: _ :: _ :: _ :: _ :: _ :: _ :: _ :: _ :: _ :: _ :: _ :: _ :: _ :: _ :: _ :: _ :: _ :: _ :: _ :: _ :: _ :: _ :: _ :: _ :: _ :: _ :: _ :: _ :: _ :: _ :: _ :: _ :: _ :: _ :: _ :: _ :: _ :: _ :: _ :: _ :: _ :: []) hP hD rfl
  clear hP hD
  obtain ⟨hP, hD⟩ := hPD
  refine lv_aload_n hx hb (g_42 bX6_init rfl) rfl (lv_at hl 0 rfl) ?_
  refine lv_iconst (v := 1) hx hb (g_4 bX6_init rfl) (by decide +kernel) ?_
  refine va_put (D := G) (ci := 5) (v := .int 1) (ty := .int) (C := RX6) (T := TX6) (N := 35) hx hb hts iX_X6 tyX6 tyX6_ok nmX6 hown hK hP hD hS 0 rfl rfl 17 (by decide +kernel) (hts _ m_t867) (fun _ h9 => h9) rfl (by decide +kernel) rfl rfl (Nat.le_of_ble_eq_true rfl) (g_181 (v := 51) bX6_init rfl) (fun H locs => ?_)
  clear hP hD hS
  intro hP hD hS
  have hPD := pd_as (zzO qm 5 (.ref q_1 :: .ref q_2 :: .ref q_3 :: .ref q_4 :: .ref q_6 :: .ref q_7 :: .ref q_8 :: .ref q_9 :: .int 0 :: .ref q_10 :: .int 0 :: .ref q_11 :: .int 0 :: .ref q_13 :: .ref q_15 :: .int 0 :: .int 0 :: .int 1 :: .null :: .null :: .int 0 :: .int 0 :: .int 0 :: .long 0 :: .int 0 :: .null :: .int 0 :: .int 0 :: .int 0 :: .null :: .null :: .null :: .null :: .null :: .int 0 :: []) :: _ :: _ :: _ :: _ :: _ :: _ :: _ :: _ :: _ :: _ :: _ :: _ :: _ :: _ :: _ :: _ :: _ :: _ :: _ :: _ :: _ :: _ :: _ :: _ :: _ :: _ :: _ :: _ :: _ :: _ :: _ :: _ :: _ :: _ :: _ :: _ :: _ :: _ :: _ :: _ :: _ :: _ :: _ :: _ :: []) hP hD rfl
  clear hP hD
  obtain ⟨hP, hD⟩ := hPD
  refine lv_aload_n hx hb (g_42 bX6_init rfl) rfl (lv_at hl 0 rfl) ?_
  refine lv_iconst (v := 3) hx hb (g_6 bX6_init rfl) (by decide +kernel) ?_
  refine newI hx hb hts m_t92 hN hP hD hS hA 3 (by decide +kernel) (by decide +kernel) (Nat.le_of_ble_eq_true rfl) (Nat.le_of_ble_eq_true rfl) (Nat.le_of_ble_eq_true rfl) (g_na10 bX6_init rfl) (fun q_17 H => ?_)
  clear hP hD hS
  intro hP hD hS
  have hPD := pd_as (_ :: _ :: _ :: _ :: _ :: _ :: _ :: _ :: _ :: _ :: _ :: _ :: _ :: _ :: _ :: _ :: _ :: _ :: _ :: _ :: _ :: _ :: _ :: _ :: _ :: _ :: _ :: _ :: _ :: _ :: _ :: _ :: _ :: _ :: _ :: _ :: _ :: _ :: _ :: _ :: _ :: _ :: _ :: _ :: _ :: zzI cy q_17 3 (fun _ => 0) :: []) hP hD rfl
  clear hP hD
  obtain ⟨hP, hD⟩ := hPD
  refine W.widen (k := 45) (n := 829) (Nat.le_of_ble_eq_true rfl) (Nat.le_of_ble_eq_true rfl) ?_
  refine va_putF (D := G) (ci := 5) (v := .ref q_17) (ty := (.array .int)) (C := RX6) (T := TX6) (N := 35) hx hb hts iX_X6 tyX6 tyX6_ok nmX6 hown hK hP hD hS 0 rfl rfl 25 (by decide +kernel) (hts _ m_t875) (fun _ h9 => h9) rfl hin rfl (by decide +kernel) rfl rfl (Nat.le_of_ble_eq_true rfl) (g_181 (v := 55) bX6_init rfl) (fun H locs => ?_)
  clear hP hD hS
  intro hP hD hS
  have hPD := pd_as (zzO qm 5 (.ref q_1 :: .ref q_2 :: .ref q_3 :: .ref q_4 :: .ref q_6 :: .ref q_7 :: .ref q_8 :: .ref q_9 :: .int 0 :: .ref q_10 :: .int 0 :: .ref q_11 :: .int 0 :: .ref q_13 :: .ref q_15 :: .int 0 :: .int 0 :: .int 1 :: .null :: .null :: .int 0 :: .int 0 :: .int 0 :: .long 0 :: .int 0 :: .ref q_17 :: .int 0 :: .int 0 :: .int 0 :: .null :: .null :: .null :: .null :: .null :: .int 0 :: []) :: _ :: _ :: _ :: _ :: _ :: _ :: _ :: _ :: _ :: _ :: _ :: _ :: _ :: _ :: _ :: _ :: _ :: _ :: _ :: _ :: _ :: _ :: _ :: _ :: _ :: _ :: _ :: _ :: _ :: _ :: _ :: _ :: _ :: _ :: _ :: _ :: _ :: _ :: _ :: _ :: _ :: _ :: _ :: _ :: _ :: []) hP hD rfl
  clear hP hD
  obtain ⟨hP, hD⟩ := hPD
  refine lv_aload_n hx hb (g_42 bX6_init rfl) rfl (lv_at hl 0 rfl) ?_
  refine lv_bipush (v := 8) hx hb dX6_init_128 (by decide +kernel) ?_
  refine newI hx hb hts m_t92 hN hP hD hS hA 8 (by decide +kernel) (by decide +kernel) (Nat.le_of_ble_eq_true rfl) (Nat.le_of_ble_eq_true rfl) (Nat.le_of_ble_eq_true rfl) (g_na10 bX6_init rfl) (fun q_18 H => ?_)
  clear hP hD hS
  intro hP hD hS
  have hPD := pd_as (_ :: _ :: _ :: _ :: _ :: _ :: _ :: _ :: _ :: _ :: _ :: _ :: _ :: _ :: _ :: _ :: _ :: _ :: _ :: _ :: _ :: _ :: _ :: _ :: _ :: _ :: _ :: _ :: _ :: _ :: _ :: _ :: _ :: _ :: _ :: _ :: _ :: _ :: _ :: _ :: _ :: _ :: _ :: _ :: _ :: _ :: zzI cy q_18 8 (fun _ => 0) :: []) hP hD rfl
  clear hP hD
  obtain ⟨hP, hD⟩ := hPD
  refine W.widen (k := 46) (n := 837) (Nat.le_of_ble_eq_true rfl) (Nat.le_of_ble_eq_true rfl) ?_
  refine va_putF (D := G) (ci := 5) (v := .ref q_18) (ty := (.array .int)) (C := RX6) (T := TX6) (N := 35) hx hb hts iX_X6 tyX6 tyX6_ok nmX6 hown hK hP hD hS 0 rfl rfl 30 (by decide +kernel) (hts _ m_t880) (fun _ h9 => h9) rfl hin rfl (by decide +kernel) rfl rfl (Nat.le_of_ble_eq_true rfl) (g_181 (v := 58) bX6_init rfl) (fun H locs => ?_)
  clear hP hD hS
  intro hP hD hS
  have hPD := pd_as (zzO qm 5 (.ref q_1 :: .ref q_2 :: .ref q_3 :: .ref q_4 :: .ref q_6 :: .ref q_7 :: .ref q_8 :: .ref q_9 :: .int 0 :: .ref q_10 :: .int 0 :: .ref q_11 :: .int 0 :: .ref q_13 :: .ref q_15 :: .int 0 :: .int 0 :: .int 1 :: .null :: .null :: .int 0 :: .int 0 :: .int 0 :: .long 0 :: .int 0 :: .ref q_17 :: .int 0 :: .int 0 :: .int 0 :: .null :: .ref q_18 :: .null :: .null :: .null :: .int 0 :: []) :: _ :: _ :: _ :: _ :: _ :: _ :: _ :: _ :: _ :: _ :: _ :: _ :: _ :: _ :: _ :: _ :: _ :: _ :: _ :: _ :: _ :: _ :: _ :: _ :: _ :: _ :: _ :: _ :: _ :: _ :: _ :: _ :: _ :: _ :: _ :: _ :: _ :: _ :: _ :: _ :: _ :: _ :: _ :: _ :: _ :: _ :: []) hP hD rfl
  clear hP hD
  obtain ⟨hP, hD⟩ := hPD
  refine lv_aload_n hx hb (g_42 bX6_init rfl) rfl (lv_at hl 0 rfl) ?_
  refine lv_iconst (v := 5) hx hb (g_8 bX6_init rfl) (by decide +kernel) ?_
  refine newI hx hb hts m_t92 hN hP hD hS hA 5 (by decide +kernel) (by decide +kernel) (Nat.le_of_ble_eq_true rfl) (Nat.le_of_ble_eq_true rfl) (Nat.le_of_ble_eq_true rfl) (g_na10 bX6_init rfl) (fun q_19 H => ?_)
  clear hP hD hS
  intro hP hD hS
  have hPD := pd_as (_ :: _ :: _ :: _ :: _ :: _ :: _ :: _ :: _ :: _ :: _ :: _ :: _ :: _ :: _ :: _ :: _ :: _ :: _ :: _ :: _ :: _ :: _ :: _ :: _ :: _ :: _ :: _ :: _ :: _ :: _ :: _ :: _ :: _ :: _ :: _ :: _ :: _ :: _ :: _ :: _ :: _ :: _ :: _ :: _ :: _ :: _ :: zzI cy q_19 5 (fun _ => 0) :: []) hP hD rfl
  clear hP hD
  obtain ⟨hP, hD⟩ := hPD
  refine W.widen (k := 47) (n := 842) (Nat.le_of_ble_eq_true rfl) (Nat.le_of_ble_eq_true rfl) ?_
  refine va_putF (D := G) (ci := 5) (v := .ref q_19) (ty := (.array .int)) (C := RX6) (T := TX6) (N := 35) hx hb hts iX_X6 tyX6 tyX6_ok nmX6 hown hK hP hD hS 0 rfl rfl 31 (by decide +kernel) (hts _ m_t881) (fun _ h9 => h9) rfl hin rfl (by decide +kernel) rfl rfl (Nat.le_of_ble_eq_true rfl) (g_181 (v := 61) bX6_init rfl) (fun H locs => ?_)
  clear hP hD hS
  intro hP hD hS
  have hPD := pd_as (zzO qm 5 (.ref q_1 :: .ref q_2 :: .ref q_3 :: .ref q_4 :: .ref q_6 :: .ref q_7 :: .ref q_8 :: .ref q_9 :: .int 0 :: .ref q_10 :: .int 0 :: .ref q_11 :: .int 0 :: .ref q_13 :: .ref q_15 :: .int 0 :: .int 0 :: .int 1 :: .null :: .null :: .int 0 :: .int 0 :: .int 0 :: .long 0 :: .int 0 :: .ref q_17 :: .int 0 :: .int 0 :: .int 0 :: .null :: .ref q_18 :: .ref q_19 :: .null :: .null :: .int 0 :: []) :: _ :: _ :: _ :: _ :: _ :: _ :: _ :: _ :: _ :: _ :: _ :: _ :: _ :: _ :: _ :: _ :: _ :: _ :: _ :: _ :: _ :: _ :: _ :: _ :: _ :: _ :: _ :: _ :: _ :: _ :: _ :: _ :: _ :: _ :: _ :: _ :: _ :: _ :: _ :: _ :: _ :: _ :: _ :: _ :: _ :: _ :: _ :: []) hP hD rfl
  clear hP hD
  obtain ⟨hP, hD⟩ := hPD
  refine lv_aload_n hx hb (g_42 bX6_init rfl) rfl (lv_at hl 0 rfl) ?_
  refine lv_iconst (v := 5) hx hb (g_8 bX6_init rfl) (by decide +kernel) ?_
  refine newI hx hb hts m_t92 hN hP hD hS hA 5 (by decide +kernel) (by decide +kernel) (Nat.le_of_ble_eq_true rfl) (Nat.le_of_ble_eq_true rfl) (Nat.le_of_ble_eq_true rfl) (g_na10 bX6_init rfl) (fun q_20 H => ?_)
  clear hP hD hS
  intro hP hD hS
  have hPD := pd_as (_ :: _ :: _ :: _ :: _ :: _ :: _ :: _ :: _ :: _ :: _ :: _ :: _ :: _ :: _ :: _ :: _ :: _ :: _ :: _ :: _ :: _ :: _ :: _ :: _ :: _ :: _ :: _ :: _ :: _ :: _ :: _ :: _ :: _ :: _ :: _ :: _ :: _ :: _ :: _ :: _ :: _ :: _ :: _ :: _ :: _ :: _ :: _ :: zzI cy q_20 5 (fun _ => 0) :: []) hP hD rfl
  clear hP hD
  obtain ⟨hP, hD⟩ := hPD
  refine W.widen (k := 48) (n := 847) (Nat.le_of_ble_eq_true rfl) (Nat.le_of_ble_eq_true rfl) ?_
  refine va_putF (D := G) (ci := 5) (v := .ref q_20) (ty := (.array .int)) (C := RX6) (T := TX6) (N := 35) hx hb hts iX_X6 tyX6 tyX6_ok nmX6 hown hK hP hD hS 0 rfl rfl 32 (by decide +kernel) (hts _ m_t882) (fun _ h9 => h9) rfl hin rfl (by decide +kernel) rfl rfl (Nat.le_of_ble_eq_true rfl) (g_181 (v := 64) bX6_init rfl) (fun H locs => ?_)
  clear hP hD hS
  intro hP hD hS
  have hPD := pd_as (zzO qm 5 (.ref q_1 :: .ref q_2 :: .ref q_3 :: .ref q_4 :: .ref q_6 :: .ref q_7 :: .ref q_8 :: .ref q_9 :: .int 0 :: .ref q_10 :: .int 0 :: .ref q_11 :: .int 0 :: .ref q_13 :: .ref q_15 :: .int 0 :: .int 0 :: .int 1 :: .null :: .null :: .int 0 :: .int 0 :: .int 0 :: .long 0 :: .int 0 :: .ref q_17 :: .int 0 :: .int 0 :: .int 0 :: .null :: .ref q_18 :: .ref q_19 :: .ref q_20 :: .null :: .int 0 :: []) :: _ :: _ :: _ :: _ :: _ :: _ :: _ :: _ :: _ :: _ :: _ :: _ :: _ :: _ :: _ :: _ :: _ :: _ :: _ :: _ :: _ :: _ :: _ :: _ :: _ :: _ :: _ :: _ :: _ :: _ :: _ :: _ :: _ :: _ :: _ :: _ :: _ :: _ :: _ :: _ :: _ :: _ :: _ :: _ :: _ :: _ :: _ :: _ :: []) hP hD rfl
  clear hP hD
  obtain ⟨hP, hD⟩ := hPD
  refine lv_aload_n hx hb (g_42 bX6_init rfl) rfl (lv_at hl 0 rfl) ?_
  refine lv_bipush (v := 6) hx hb dX6_init_150 (by decide +kernel) ?_
  refine newM hx hb hts hown m_t848 hN hP hD hS hA 6 (by decide +kernel) (by decide +kernel) (Nat.le_of_ble_eq_true rfl) (Nat.le_of_ble_eq_true rfl) (Nat.le_of_ble_eq_true rfl) (g_189 (v := 8) bX6_init rfl) (fun q_21 H => ?_)
  clear hP hD hS
  intro hP hD hS
  have hPD := pd_as (_ :: _ :: _ :: _ :: _ :: _ :: _ :: _ :: _ :: _ :: _ :: _ :: _ :: _ :: _ :: _ :: _ :: _ :: _ :: _ :: _ :: _ :: _ :: _ :: _ :: _ :: _ :: _ :: _ :: _ :: _ :: _ :: _ :: _ :: _ :: _ :: _ :: _ :: _ :: _ :: _ :: _ :: _ :: _ :: _ :: _ :: _ :: _ :: _ :: zzQ cy 5 q_21 6 (fun _ => none) :: []) hP hD rfl
  clear hP hD
  obtain ⟨hP, hD⟩ := hPD
  refine W.widen (k := 49) (n := 853) (Nat.le_of_ble_eq_true rfl) (Nat.le_of_ble_eq_true rfl) ?_
  refine va_putF (D := G) (ci := 5) (v := .ref q_21) (ty := (.array (.object "EachBookOnceModel"))) (C := RX6) (T := TX6) (N := 35) hx hb hts iX_X6 tyX6 tyX6_ok nmX6 hown hK hP hD hS 0 rfl rfl 33 (by decide +kernel) (hts _ m_t883) (fun _ h9 => h9) rfl hin rfl (by decide +kernel) rfl rfl (Nat.le_of_ble_eq_true rfl) (g_181 (v := 67) bX6_init rfl) (fun H locs => ?_)
  clear hP hD hS
  intro hP hD hS
  have hPD := pd_as (zzO qm 5 (.ref q_1 :: .ref q_2 :: .ref q_3 :: .ref q_4 :: .ref q_6 :: .ref q_7 :: .ref q_8 :: .ref q_9 :: .int 0 :: .ref q_10 :: .int 0 :: .ref q_11 :: .int 0 :: .ref q_13 :: .ref q_15 :: .int 0 :: .int 0 :: .int 1 :: .null :: .null :: .int 0 :: .int 0 :: .int 0 :: .long 0 :: .int 0 :: .ref q_17 :: .int 0 :: .int 0 :: .int 0 :: .null :: .ref q_18 :: .ref q_19 :: .ref q_20 :: .ref q_21 :: .int 0 :: []) :: _ :: _ :: _ :: _ :: _ :: _ :: _ :: _ :: _ :: _ :: _ :: _ :: _ :: _ :: _ :: _ :: _ :: _ :: _ :: _ :: _ :: _ :: _ :: _ :: _ :: _ :: _ :: _ :: _ :: _ :: _ :: _ :: _ :: _ :: _ :: _ :: _ :: _ :: _ :: _ :: _ :: _ :: _ :: _ :: _ :: _ :: _ :: _ :: _ :: []) hP hD rfl
  clear hP hD
  obtain ⟨hP, hD⟩ := hPD
  exact endVs [(true :: true :: true :: true :: false :: false :: false :: false :: false :: false :: false :: false :: false :: true :: true :: true :: true :: true :: false :: false :: false :: false :: false :: false :: false :: false :: false :: false :: false :: false :: false :: false :: false :: false :: false :: false :: false :: false :: false :: false :: false :: false :: false :: false :: false :: true :: true :: true :: true :: []), (false :: false :: false :: false :: true :: true :: true :: true :: true :: true :: true :: true :: true :: false :: false :: false :: false :: false :: true :: true :: true :: true :: true :: true :: true :: true :: true :: true :: true :: true :: true :: true :: true :: true :: true :: true :: true :: true :: true :: true :: true :: true :: true :: true :: true :: false :: false :: false :: false :: true :: [])] hx hb hr hlocks hP hD rfl (by decide +kernel) hS ⟨q_1, q_2, q_3, q_6, q_7, q_8, q_9, q_10, q_17, q_18, q_19, q_20, q_4, q_11, q_13, q_15, r_5, r_12, r_14, r_16, q_21, rfl⟩ (g_177 bX6_init rfl)
end
section
/-! THE TOWN EXACTLY: bits, and what of a town a step leaves alone -/
noncomputable def bt (x : Int32) (i : Nat) : Bool := x.toBitVec.getLsbD i
theorem b_ext {x y : Int32} (h : ∀ i, i < 32 → bt x i = bt y i) : x = y := Int32.toBitVec_inj.mp (BitVec.eq_of_getLsbD_eq (fun i hi => h i hi))
theorem b_and (x y : Int32) (i : Nat) : bt (x &&& y) i = (bt x i && bt y i) := by unfold bt; rw [Int32.toBitVec_and, BitVec.getLsbD_and]
theorem b_0 (i : Nat) : bt 0 i = false := BitVec.getLsbD_zero
theorem b_1 : ∀ i, i < 32 → bt 1 i = decide (i = 0) := by decide +kernel
theorem s_l : ∀ n, n < 32 → ((nI n &&& 31).toBitVec.smod 32).toNat = n := by decide +kernel
theorem b_sshr (n : Nat) (hn : n < 32) (x : Int32) {i : Nat} (hi : i < 32) : bt (x >>> (nI n &&& 31)) i = if n + i < 32 then bt x (n + i) else bt x 31 := by
  unfold bt
  rw [Int32.toBitVec_shiftRight]
  show (x.toBitVec.sshiftRight ((nI n &&& 31).toBitVec.smod 32).toNat).getLsbD i = _
  rw [s_l n hn, BitVec.getLsbD_sshiftRight, BitVec.msb_eq_getLsbD_last]
  simp [hi]
theorem and1_0 (x : Int32) : x &&& 1 = 0 ↔ bt x 0 = false := by
  constructor
  · intro h
    have := congrArg (fun z => bt z 0) h
    simp only [b_and, b_0, b_1 0 (by omega)] at this
    simpa using this
  · intro h
    apply b_ext
    intro i hi
    rw [b_and, b_0, b_1 i hi]
    by_cases e : i = 0
    · subst e
      rw [h]
      rfl
    · rw [decide_eq_false e, Bool.and_false]
theorem bitb_bt {s : Int32} {n : Nat} (hn : n < 32) : bitb s n = bt s n := by
  have e : bt (s >>> (nI n &&& 31)) 0 = bt s n := by rw [b_sshr n hn s (by omega), if_pos (by omega), Nat.add_zero]
  unfold bitb
  cases h : bt s n with
  | true => exact decide_eq_true (fun q => by rw [and1_0, e, h] at q; cases q)
  | false => exact decide_eq_false (fun q => q ((and1_0 _).mpr (by rw [e, h])))
theorem bitb_and {a b : Int32} {n : Nat} (hn : n < 32) : bitb (a &&& b) n = (bitb a n && bitb b n) := by rw [bitb_bt hn, bitb_bt hn, bitb_bt hn, b_and]
theorem bitb_not1 : ∀ p, p < 8 → ∀ n, n < 8 → bitb ((1 <<< (nI p &&& 31)) ^^^ (-1)) n = decide (n ≠ p) := by decide +kernel
theorem bitb_all : ∀ k, k < 9 → ∀ n, n < 8 → bitb ((1 <<< (nI k &&& 31)) - 1) n = decide (n < k) := by decide +kernel
theorem bitb_z (n : Nat) (hn : n < 32) : bitb 0 n = false := by rw [bitb_bt hn, b_0]
theorem bitb_th {t : TA} {n : Nat} (hn : n < 8) : bitb (zthere t) n = (decide (n < T_np t) && !T_gn t n) := bit_wb _ hn
/-- whom a reading aloud reaches -/
noncomputable def lsT (t : TA) (p : Nat) (s : Int32) : Int32 := (s &&& zthere t) &&& ((1 <<< (nI p &&& 31)) ^^^ (-1))
theorem ls_bit {t : TA} {p o : Nat} {s : Int32} (hp : p < 8) (ho : o < 8) (hn : o < T_np t) : bitb (lsT t p s) o = (bitb s o && !T_gn t o && decide (o ≠ p)) := by
  unfold lsT
  rw [bitb_and (by omega), bitb_and (by omega), bitb_th ho, bitb_not1 p hp o ho, decide_eq_true hn, Bool.true_and]
theorem ls_p {t : TA} {p : Nat} {s : Int32} (hp : p < 8) : bitb (lsT t p s) p = false := by
  unfold lsT
  rw [bitb_and (by omega), bitb_not1 p hp p hp, decide_eq_false (fun q => q rfl), Bool.and_false]
theorem hf_gn (t : TA) (h ls : Int32) (b : Nat) : ∀ n, T_gn (hfF t h ls b n).1 = T_gn t ∧ T_ne (hfF t h ls b n).1 = T_ne t ∧ T_wh (hfF t h ls b n).1 = T_wh t := by
  intro n
  induction n with
  | zero => exact ⟨rfl, rfl, rfl⟩
  | succ n ih =>
    unfold hfF
    split
    · exact ih
    · exact ih
theorem hf_keep (t : TA) (h ls : Int32) (b p : Nat) (hp : bitb ls p = false) : ∀ n, T_kn (hfF t h ls b n).1 p = T_kn t p := by
  intro n
  induction n with
  | zero => rfl
  | succ n ih =>
    by_cases c1 : bitb ls n = true
    · by_cases c2 : T_kn (hfF t h ls b n).1 n b < zgr h (zgd (hfF t h ls b n).1 n b)
      · rw [hf_on c1 c2]
        show updM (T_kn (hfF t h ls b n).1) n b _ p = _
        have e : p ≠ n := fun e => by rw [e, c1] at hp; cases hp
        show (if p = n then _ else T_kn (hfF t h ls b n).1 p) = _
        rw [if_neg e]
        exact ih
      · rw [hf_no2 c2]
        exact ih
    · rw [hf_no1 (by cases h9 : bitb ls n <;> first | rfl | exact absurd h9 c1)]
      exact ih
/-- nobody listens: nothing is told -/
theorem hf_none (t : TA) (h : Int32) (b : Nat) {ls : Int32} {m : Nat} (hz : ∀ n, n < m → bitb ls n = false) : ∀ n, n ≤ m → hfF t h ls b n = (t, 0) := by
  intro n
  induction n with
  | zero => intro _; rfl
  | succ n ih =>
    intro hn
    rw [hf_no1 (hz n (by omega))]
    exact ih (by omega)
theorem updM_self (K : Nat → Nat → Int32) (p b : Nat) : updM K p b (K p b) = K := by
  funext q
  show (if q = p then upd (K p) b (K p b) else K q) = K q
  by_cases e : q = p
  · rw [if_pos e, e]
    funext i
    show (if i = b then K p b else K p i) = K p i
    by_cases e2 : i = b
    · rw [if_pos e2, e2]
    · rw [if_neg e2]
  · rw [if_neg e]
theorem rt_no {t tJ : TA} {xC h ls : Int32} {b j : Nat} (hE : tJ = (hfF t h ls b j).1 ∧ xC = (hfF t h ls b j).2) (c : bitb ls j = false) : tJ = (hfF t h ls b (j + 1)).1 ∧ xC = (hfF t h ls b (j + 1)).2 := by rw [hf_no1 c]; exact hE
theorem rt_lt {t tJ : TA} {xC h hv ls : Int32} {b j : Nat} (hE : tJ = (hfF t h ls b j).1 ∧ xC = (hfF t h ls b j).2) (e : hv = h) (c1 : bitb ls j = true) (c2 : T_kn tJ j b < zgr hv (zgd tJ j b)) : T_setkn tJ (updM (T_kn tJ) j b (zgr hv (zgd tJ j b))) = (hfF t h ls b (j + 1)).1 ∧ xC + 1 = (hfF t h ls b (j + 1)).2 := by
  obtain ⟨rfl, rfl⟩ := hE
  subst e
  rw [hf_on c1 c2]
  exact ⟨rfl, rfl⟩
theorem rt_ge {t tJ : TA} {xC h hv ls : Int32} {b j : Nat} (hE : tJ = (hfF t h ls b j).1 ∧ xC = (hfF t h ls b j).2) (e : hv = h) (c2 : ¬ T_kn tJ j b < zgr hv (zgd tJ j b)) : T_setkn tJ (updM (T_kn tJ) j b (T_kn tJ j b)) = (hfF t h ls b (j + 1)).1 ∧ xC + 0 = (hfF t h ls b (j + 1)).2 := by
  obtain ⟨rfl, rfl⟩ := hE
  subst e
  rw [hf_no2 c2, updM_self]
  exact ⟨rfl, Int32.add_zero _⟩
theorem rt_gn {t tJ : TA} {xC h ls : Int32} {b j : Nat} (hE : tJ = (hfF t h ls b j).1 ∧ xC = (hfF t h ls b j).2) : T_gn tJ = T_gn t := by rw [hE.1]; exact (hf_gn _ _ _ _ _).1
theorem rt_h {t tJ : TA} {xC h s : Int32} {b p j : Nat} (hp : p < 8) (hE : tJ = (hfF t h (lsT t p s) b j).1 ∧ xC = (hfF t h (lsT t p s) b j).2) : T_kn tJ p b = T_kn t p b := by rw [hE.1, hf_keep _ _ _ _ _ (ls_p hp)]
theorem tc_go {tA tJ tK : TA} {j k : Nat} (hE : tJ = tcF tA j) (hg : T_gn tJ j = false) (hy : zyb tJ (nI j) = nI k) (hK : tK = tcI tJ j k (T_nb tJ)) (hk : k < 8 := by omega) : tK = tcF tA (j + 1) := by
  subst hE
  show tK = tcS (tcF tA j) j
  unfold tcS
  rw [if_neg (by rw [hg]; decide), if_neg (by rw [hy]; exact nI_ne1 hk), hy, nI_clamp (by omega)]
  exact hK
theorem tc_gone {tA tJ : TA} {j : Nat} (hE : tJ = tcF tA j) (hg : T_gn tJ j = true) : tJ = tcF tA (j + 1) := by
  subst hE
  show _ = tcS (tcF tA j) j
  unfold tcS
  rw [if_pos hg]
theorem tc_none {tA tJ : TA} {j : Nat} (hE : tJ = tcF tA j) (hg : T_gn tJ j = false) (hy : zyb tJ (nI j) = -1) : tJ = tcF tA (j + 1) := by
  subst hE
  show _ = tcS (tcF tA j) j
  unfold tcS
  rw [if_neg (by rw [hg]; decide), if_pos hy]
/-- who is there is of an age below ten -/
noncomputable def AI (t : TA) : Prop := ∀ p, p < T_np t → T_gn t p = false → R0 9 (T_ag t p)
theorem upd_sJ {f : Nat → Int32} {k : Nat} {v : Int32} : upd f k v k = v := if_pos rfl
theorem ag_up {t : TA} {j : Nat} {v : Int32} : T_ag (T_setag t (upd (T_ag t) j v)) j = v := if_pos rfl
theorem updB_s {f : Nat → Bool} {k : Nat} {v : Bool} : updB f k v k = v := if_pos rfl
theorem updB_self {f : Nat → Bool} {k : Nat} {v : Bool} (h : f k = v) : updB f k v = f := by
  funext i
  show (if i = k then v else f i) = f i
  by_cases e : i = k
  · rw [if_pos e, e, h]
  · rw [if_neg e]
theorem ey_i0 (T : TA) (K : Nat → Nat → Int32) (j m : Nat) : T_setkn (T_setkn T (fgK K j 0 m)) (updM (T_kn (T_setkn T (fgK K j 0 m))) j m 0) = T_setkn T (fgK K j 0 (m + 1)) := by
  have e : fgK K j 0 (m + 1) = updM (fgK K j 0 m) j m 0 := by
    show updM (fgK K j 0 m) j m (fgK K j 0 m j m * 0 / 100) = _
    rw [Int32.mul_zero]
    rfl
  rw [e]
theorem ey_far (th : Int32) (t : TA) : ∀ n p, n ≤ p → T_gn (eyF th t n) p = T_gn t p ∧ T_ag (eyF th t n) p = T_ag t p := by
  intro n
  induction n with
  | zero => intro p _; exact ⟨rfl, rfl⟩
  | succ n ih =>
    intro p hp
    obtain ⟨h1, h2⟩ := ih p (by omega)
    cases hb : bitb th n with
    | false => rw [ey_no hb]; exact ⟨h1, h2⟩
    | true =>
      rw [ey_on hb]
      refine ⟨?_, ?_⟩
      · show (if 9 < T_ag (eyF th t n) n + 1 then updB (T_gn (eyF th t n)) n true else T_gn (eyF th t n)) p = _
        split
        · show (if p = n then true else T_gn (eyF th t n) p) = _
          rw [if_neg (by omega)]
          exact h1
        · exact h1
      · show (if p = n then T_ag (eyF th t n) n + 1 else T_ag (eyF th t n) p) = _
        rw [if_neg (by omega)]
        exact h2
theorem ey_off {tA tJ : TA} {j : Nat} (hj : j < T_np tA) (h8 : j < 8) (hE : tJ = eyF (zthere tA) tA j) (hg : T_gn tJ j = true) : tJ = eyF (zthere tA) tA (j + 1) := by
  subst hE
  rw [(ey_far _ _ j j (Nat.le_refl _)).1] at hg
  rw [ey_no (by rw [bitb_th h8, hg, Bool.not_true, Bool.and_false])]
theorem ey_bit {tA : TA} {j : Nat} (hj : j < T_np tA) (h8 : j < 8) (hg : T_gn (eyF (zthere tA) tA j) j = false) : bitb (zthere tA) j = true := by
  rw [(ey_far _ _ j j (Nat.le_refl _)).1] at hg
  rw [bitb_th h8, hg, decide_eq_true hj]
  rfl
theorem ey_die {tA tJ tK : TA} {j : Nat} (_hA : AI tA) (hj : j < T_np tA) (h8 : j < 8) (hE : tJ = eyF (zthere tA) tA j) (hg : T_gn tJ j = false) (hc : T_ag tJ j + 1 = 10) (hK : tK = T_setkn (T_setgn (T_setag tJ (upd (T_ag tJ) j (T_ag tJ j + 1))) (updB (T_gn tJ) j true)) (fgK (T_kn tJ) j 0 (T_nb tJ))) : tK = eyF (zthere tA) tA (j + 1) := by
  subst hE
  rw [ey_on (ey_bit hj h8 hg), hK]
  unfold eyS
  rw [if_pos (by rw [hc]; decide)]
  unfold fgT
  rw [if_pos (show updB (T_gn (eyF (zthere tA) tA j)) j true j = true from updB_s)]
theorem ey_live {tA tJ tK : TA} {j : Nat} (hA : AI tA) (hj : j < T_np tA) (h8 : j < 8) (hE : tJ = eyF (zthere tA) tA j) (hg : T_gn tJ j = false) (hc : ¬ T_ag tJ j + 1 = 10) (hK : tK = T_setkn (T_setgn (T_setag tJ (upd (T_ag tJ) j (T_ag tJ j + 1))) (updB (T_gn tJ) j false)) (fgK (T_kn tJ) j (90 + T_me tJ j) (T_nb tJ))) : tK = eyF (zthere tA) tA (j + 1) := by
  subst hE
  have hb := ey_bit hj h8 hg
  have hg2 := hg
  rw [(ey_far _ _ j j (Nat.le_refl _)).1] at hg2
  obtain ⟨a, ha, ea⟩ := hA j hj hg2
  have e1 := (ey_far (zthere tA) tA j j (Nat.le_refl _)).2
  rw [ey_on hb, hK, updB_self hg]
  unfold eyS
  rw [if_neg (by
    rw [e1, ea] at hc ⊢
    rw [nI_1, Int32.lt_iff_toInt_lt, nI_toInt (by omega)]
    have e9 : (9 : Int32).toInt = 9 := by decide +kernel
    intro q
    apply hc
    rw [nI_1, show a + 1 = 10 by omega]
    rfl)]
  unfold fgT
  rw [if_neg (show ¬ T_gn (eyF (zthere tA) tA j) j = true by rw [hg]; decide)]
/-! THE TAPE EXACTLY: bytes as class and reference both see them; tokens; numbers; statements -/
noncomputable def nrm (x : Int32) : Int32 := if 0 ≤ x ∧ x ≤ 127 then x else 128
noncomputable def nbf (f : Nat → Int32) (z : Nat) : Nat → Int32 := fun i => if i < z then nrm (f i) else 128
theorem nbf_in {f : Nat → Int32} {z i : Nat} (h : i < z) : nbf f z i = nrm (f i) := if_pos h
theorem nrm_c {x c : Int32} (h0 : 0 ≤ c) (h1 : c ≤ 127) : nrm x = c ↔ x = c := by
  unfold nrm
  constructor
  · intro h
    split at h
    · exact h
    · exact absurd h (fun q => by rw [← q] at h1; exact absurd h1 (by decide +kernel))
  · intro h
    rw [h, if_pos ⟨h0, h1⟩]
theorem nrm_zlt (x : Int32) : zlt (nrm x) = zlt x := by
  unfold nrm
  split
  · rfl
  · next h =>
    cases e : zlt x with
    | false => decide
    | true =>
      exfalso
      apply h
      obtain ⟨h1, h2⟩ := Bool.and_eq_true_iff.mp e
      have h1 := of_decide_eq_true h1
      have h2 := of_decide_eq_true h2
      exact ⟨Int32.le_trans (by decide +kernel) h1, Int32.le_trans h2 (by decide +kernel)⟩
theorem nrm_zdg (x : Int32) : zdg (nrm x) = zdg x := by
  unfold nrm
  split
  · rfl
  · next h =>
    cases e : zdg x with
    | false => decide
    | true =>
      exfalso
      apply h
      obtain ⟨h1, h2⟩ := Bool.and_eq_true_iff.mp e
      have h1 := of_decide_eq_true h1
      have h2 := of_decide_eq_true h2
      exact ⟨Int32.le_trans (by decide +kernel) h1, Int32.le_trans h2 (by decide +kernel)⟩
theorem nrm_dg {x : Int32} (h : zdg x = true) : nrm x = x := by
  obtain ⟨h1, h2⟩ := Bool.and_eq_true_iff.mp h
  have h1 := of_decide_eq_true h1
  have h2 := of_decide_eq_true h2
  exact if_pos ⟨Int32.le_trans (by decide +kernel) h1, Int32.le_trans h2 (by decide +kernel)⟩
theorem sk_nb (f : Nat → Int32) (z : Nat) : ∀ n i, i + n ≤ z → skF (nbf f z) n i = skF f n i := by
  intro n
  induction n with
  | zero => intro i _; rfl
  | succ n ih =>
    intro i hi
    have e : nbf f z i = nrm (f i) := nbf_in (by omega)
    by_cases h : f i = 32
    · rw [sk_go h, sk_go (by rw [e, nrm_c (by decide +kernel) (by decide +kernel)]; exact h)]
      exact ih (i + 1) (by omega)
    · rw [sk_no h, sk_no (by rw [e, nrm_c (by decide +kernel) (by decide +kernel)]; exact h)]
theorem wd_nb (pr : Int32 → Bool) (hp : ∀ x, pr (nrm x) = pr x) (f : Nat → Int32) (z : Nat) : ∀ n i, i + n ≤ z → wdF pr (nbf f z) n i = wdF pr f n i := by
  intro n
  induction n with
  | zero => intro i _; rfl
  | succ n ih =>
    intro i hi
    have e : nbf f z i = nrm (f i) := nbf_in (by omega)
    cases h : pr (f i) with
    | true =>
      rw [wd_go h, wd_go (by rw [e, hp]; exact h)]
      exact ih (i + 1) (by omega)
    | false => rw [wd_no h, wd_no (by rw [e, hp]; exact h)]
theorem wd_all (pr : Int32 → Bool) (f : Nat → Int32) : ∀ n i k, i ≤ k → k < wdF pr f n i → pr (f k) = true := by
  intro n
  induction n with
  | zero => intro i k h1 h2; exact absurd h2 (by show ¬ k < i; omega)
  | succ n ih =>
    intro i k h1 h2
    cases h : pr (f i) with
    | true =>
      rw [wd_go h] at h2
      by_cases e : k = i
      · rw [e]; exact h
      · exact ih (i + 1) k (by omega) h2
    | false =>
      rw [wd_no h] at h2
      omega
theorem dg_1 (f : Nat → Int32) (a : Nat) : ∀ n i v, (dgF f a n i v).1 = wdF zdg f n i := by
  intro n
  induction n with
  | zero => intro i v; rfl
  | succ n ih =>
    intro i v
    cases h : zdg (f i) with
    | true =>
      rw [wd_go h, dgF, if_pos h]
      exact ih _ _
    | false => rw [wd_no h, dg_no h]
/-- the figures of so many digits -/
noncomputable def fgF (f : Nat → Int32) (a : Nat) : Nat → Nat → Int64 → Int64
  | 0, _, v => v
  | n + 1, i, v => fgF f a n (i + 1) (if i < a + 3 then v * 10 + (f i).toInt64 - 48 else 100000)
theorem dg_2 (f : Nat → Int32) (a : Nat) : ∀ n i v, (dgF f a n i v).2 = fgF f a (wdF zdg f n i - i) i v := by
  intro n
  induction n with
  | zero =>
    intro i v
    show v = fgF f a (i - i) i v
    rw [Nat.sub_self]
    rfl
  | succ n ih =>
    intro i v
    cases h : zdg (f i) with
    | true =>
      rw [wd_go h, dgF, if_pos h, ih]
      have hl := (wd_le zdg f n (i + 1)).1
      rw [show wdF zdg f n (i + 1) - i = (wdF zdg f n (i + 1) - (i + 1)) + 1 by omega]
      rfl
    | false =>
      rw [wd_no h, dg_no h, Nat.sub_self]
      rfl
theorem fg_far (f : Nat → Int32) (a : Nat) : ∀ n i v, a + 3 ≤ i + n → fgF f a (n + 1) i v = 100000 := by
  intro n
  induction n with
  | zero =>
    intro i v h
    show (if i < a + 3 then v * 10 + (f i).toInt64 - 48 else 100000) = 100000
    rw [if_neg (by omega)]
  | succ n ih =>
    intro i v h
    exact ih (i + 1) _ (by omega)
noncomputable def dv (F : Nat → Int32) : Nat → Nat → Nat → Nat
  | 0, _, v => v
  | n + 1, i, v => dv F n (i + 1) (v * 10 + ((F i).toInt.toNat - 48))
theorem zdg_n {x : Int32} (h : zdg x = true) : ∃ d : Nat, d ≤ 9 ∧ x = nI (48 + d) ∧ x.toInt.toNat - 48 = d := by
  obtain ⟨h1, h2⟩ := Bool.and_eq_true_iff.mp h
  have h1 := of_decide_eq_true h1
  have h2 := of_decide_eq_true h2
  rw [Int32.le_iff_toInt_le] at h1 h2
  have e1 : (48 : Int32).toInt = 48 := by decide +kernel
  have e2 : (57 : Int32).toInt = 57 := by decide +kernel
  rw [e1] at h1
  rw [e2] at h2
  refine ⟨x.toInt.toNat - 48, by omega, ?_, rfl⟩
  apply Int32.toInt_inj.mp
  rw [nI_toInt (by omega)]
  omega
theorem i64_nI {k : Nat} (hk : k < 2 ^ 31) : (nI k).toInt64 = Int64.ofNat k := by
  apply Int64.toInt_inj.mp
  rw [Int32.toInt_toInt64, nI_toInt hk, Int64.toInt_ofNat_of_lt (by omega)]
theorem fg_dv (F : Nat → Int32) (a : Nat) : ∀ n i v, (∀ k, i ≤ k → k < i + n → zdg (F k) = true) → i + n ≤ a + 3 → (v + 1) * 10 ^ n ≤ 1000 → fgF F a n i (Int64.ofNat v) = Int64.ofNat (dv F n i v) ∧ dv F n i v < 1000 := by
  intro n
  induction n with
  | zero =>
    intro i v _ _ h
    refine ⟨rfl, ?_⟩
    show v < 1000
    omega
  | succ n ih =>
    intro i v hd hi hv
    obtain ⟨d, h1, h2, h3⟩ := zdg_n (hd i (Nat.le_refl _) (by omega))
    have hp : 0 < 10 ^ n := Nat.pow_pos (by omega)
    have hb : (v + 1) * 10 ≤ 1000 := by
      rw [Nat.pow_succ, Nat.mul_comm (10 ^ n) 10, ← Nat.mul_assoc] at hv
      exact Nat.le_trans (Nat.le_mul_of_pos_right _ hp) hv
    have e : Int64.ofNat v * 10 + (F i).toInt64 - 48 = Int64.ofNat (v * 10 + d) := by
      rw [h2, i64_nI (by omega), show (10 : Int64) = Int64.ofNat 10 from rfl, show (48 : Int64) = Int64.ofNat 48 from rfl, ← Int64.ofNat_mul, ← Int64.ofNat_add, ← Int64.ofNat_sub _ _ (by omega)]
      congr 1
      omega
    show fgF F a n (i + 1) (if i < a + 3 then Int64.ofNat v * 10 + (F i).toInt64 - 48 else 100000) = Int64.ofNat (dv F n (i + 1) (v * 10 + ((F i).toInt.toNat - 48))) ∧ dv F n (i + 1) (v * 10 + ((F i).toInt.toNat - 48)) < 1000
    rw [if_pos (by omega), e, h3]
    refine ih (i + 1) (v * 10 + d) (fun k k1 k2 => hd k (by omega) (by omega)) (by omega) ?_
    refine Nat.le_trans ?_ hv
    rw [Nat.pow_succ, Nat.mul_comm (10 ^ n) 10, ← Nat.mul_assoc]
    exact Nat.mul_le_mul_right _ (by omega)
/-- the class's figures -/
noncomputable def nvF (f : Nat → Int32) : Nat → Nat → Int32 → Int32
  | 0, _, v => v
  | n + 1, i, v => nvF f n (i + 1) (10 * v + f i - 48)
theorem nv_dv (F : Nat → Int32) : ∀ n i v, (∀ k, i ≤ k → k < i + n → zdg (F k) = true) → (v + 1) * 10 ^ n ≤ 1000 → nvF F n i (nI v) = nI (dv F n i v) := by
  intro n
  induction n with
  | zero => intro i v _ _; rfl
  | succ n ih =>
    intro i v hd hv
    obtain ⟨d, h1, h2, h3⟩ := zdg_n (hd i (Nat.le_refl _) (by omega))
    have hp : 0 < 10 ^ n := Nat.pow_pos (by omega)
    have hb : (v + 1) * 10 ≤ 1000 := by
      rw [Nat.pow_succ, Nat.mul_comm (10 ^ n) 10, ← Nat.mul_assoc] at hv
      exact Nat.le_trans (Nat.le_mul_of_pos_right _ hp) hv
    have e : 10 * nI v + F i - 48 = nI (v * 10 + d) := by
      rw [h2, show (10 : Int32) = nI 10 from rfl, show (48 : Int32) = nI 48 from rfl]
      unfold nI
      rw [← Int32.ofNat_mul, ← Int32.ofNat_add, ← Int32.ofNat_sub _ _ (by omega)]
      congr 1
      omega
    show nvF F n (i + 1) (10 * nI v + F i - 48) = nI (dv F n (i + 1) (v * 10 + ((F i).toInt.toNat - 48)))
    rw [e, h3]
    refine ih (i + 1) (v * 10 + d) (fun k k1 k2 => hd k (by omega) (by omega)) ?_
    refine Nat.le_trans ?_ hv
    rw [Nat.pow_succ, Nat.mul_comm (10 ^ n) 10, ← Nat.mul_assoc]
    exact Nat.mul_le_mul_right _ (by omega)
theorem nv_nb (f : Nat → Int32) (z : Nat) : ∀ n i v, (∀ k, i ≤ k → k < i + n → zdg (nbf f z k) = true) → i + n ≤ z → nvF f n i v = nvF (nbf f z) n i v := by
  intro n
  induction n with
  | zero => intro i v _ _; rfl
  | succ n ih =>
    intro i v hd hi
    have e : nbf f z i = f i := by
      have q := hd i (Nat.le_refl _) (by omega)
      rw [nbf_in (by omega), nrm_zdg] at q
      rw [nbf_in (by omega), nrm_dg q]
    show nvF f n (i + 1) (10 * v + f i - 48) = nvF (nbf f z) n (i + 1) (10 * v + nbf f z i - 48)
    rw [e]
    exact ih (i + 1) _ (fun k k1 k2 => hd k (by omega) (by omega)) (by omega)
theorem fg_nb (f : Nat → Int32) (z a : Nat) : ∀ n i v, (∀ k, i ≤ k → k < i + n → zdg (nbf f z k) = true) → i + n ≤ z → fgF f a n i v = fgF (nbf f z) a n i v := by
  intro n
  induction n with
  | zero => intro i v _ _; rfl
  | succ n ih =>
    intro i v hd hi
    have e : nbf f z i = f i := by
      have q := hd i (Nat.le_refl _) (by omega)
      rw [nbf_in (by omega), nrm_zdg] at q
      rw [nbf_in (by omega), nrm_dg q]
    show fgF f a n (i + 1) (if i < a + 3 then v * 10 + (f i).toInt64 - 48 else 100000) = fgF (nbf f z) a n (i + 1) (if i < a + 3 then v * 10 + (nbf f z i).toInt64 - 48 else 100000)
    rw [e]
    exact ih (i + 1) _ (fun k k1 k2 => hd k (by omega) (by omega)) (by omega)
/-- a token: from, sort, to -/
noncomputable def lx (F : Nat → Int32) (z a : Nat) : Nat × Int32 × Nat := if skF F (z - a) a = z then (skF F (z - a) a, 0, skF F (z - a) a) else if zlt (F (skF F (z - a) a)) = true then (skF F (z - a) a, 1, wdF zlt F (z - skF F (z - a) a) (skF F (z - a) a)) else if zdg (F (skF F (z - a) a)) = true then (skF F (z - a) a, 2, wdF zdg F (z - skF F (z - a) a) (skF F (z - a) a)) else (skF F (z - a) a, (if F (skF F (z - a) a) = 59 then 3 else 4), skF F (z - a) a + 1)
theorem lx_0 {f : Nat → Int32} {z a j : Nat} (ha : a ≤ z) (hj : j = skF f (z - a) a) (hn : j = z) : lx (nbf f z) z a = (j, 0, j) := by
  rw [← sk_nb f z (z - a) a (by omega)] at hj
  rw [lx, ← hj, if_pos hn]
theorem lx_w {f : Nat → Int32} {z a j : Nat} (ha : a ≤ z) (hj : j = skF f (z - a) a) (hn : j < z) (h : zlt (f j) = true) : lx (nbf f z) z a = (j, 1, wdF zlt f (z - j) j) := by
  rw [← sk_nb f z (z - a) a (by omega)] at hj
  rw [lx, ← hj, if_neg (by omega), nbf_in hn, nrm_zlt, if_pos h, wd_nb zlt nrm_zlt f z _ _ (by omega)]
theorem lx_d {f : Nat → Int32} {z a j : Nat} (ha : a ≤ z) (hj : j = skF f (z - a) a) (hn : j < z) (h : zlt (f j) = false) (h2 : zdg (f j) = true) : lx (nbf f z) z a = (j, 2, wdF zdg f (z - j) j) := by
  rw [← sk_nb f z (z - a) a (by omega)] at hj
  rw [lx, ← hj, if_neg (by omega), nbf_in hn, nrm_zlt, nrm_zdg, if_neg (by rw [h]; decide), if_pos h2, wd_nb zdg nrm_zdg f z _ _ (by omega)]
theorem lx_3 {f : Nat → Int32} {z a j : Nat} (ha : a ≤ z) (hj : j = skF f (z - a) a) (hn : j < z) (h : zlt (f j) = false) (h2 : zdg (f j) = false) (h3 : f j = 59) : lx (nbf f z) z a = (j, 3, j + 1) := by
  rw [← sk_nb f z (z - a) a (by omega)] at hj
  rw [lx, ← hj, if_neg (by omega), nbf_in hn, nrm_zlt, nrm_zdg, if_neg (by rw [h]; decide), if_neg (by rw [h2]; decide), if_pos ((nrm_c (by decide +kernel) (by decide +kernel)).mpr h3)]
theorem lx_4 {f : Nat → Int32} {z a j : Nat} (ha : a ≤ z) (hj : j = skF f (z - a) a) (hn : j < z) (h : zlt (f j) = false) (h2 : zdg (f j) = false) (h3 : ¬ f j = 59) : lx (nbf f z) z a = (j, 4, j + 1) := by
  rw [← sk_nb f z (z - a) a (by omega)] at hj
  rw [lx, ← hj, if_neg (by omega), nbf_in hn, nrm_zlt, nrm_zdg, if_neg (by rw [h]; decide), if_neg (by rw [h2]; decide), if_neg (fun q => h3 ((nrm_c (by decide +kernel) (by decide +kernel)).mp q))]
/-- the reference's look, and the token -/
theorem lk_lx (f : Nat → Int32) {z a : Nat} (ha : a ≤ z) : lx (nbf f z) z a = ((lkF f z a).1, (lkF f z a).2.1, (lkF f z a).2.2.1) ∧ ((lkF f z a).2.1 = 2 → (lkF f z a).2.2.2 = fgF f (lkF f z a).1 ((lkF f z a).2.2.1 - (lkF f z a).1) (lkF f z a).1 0) := by
  have h1 := sk_le f (z - a) a
  generalize hj : skF f (z - a) a = j at h1
  have hj' := hj.symm
  by_cases e : j = z
  · have : lkF f z a = (j, 0, j, 0) := by rw [lkF, hj, if_pos e]
    rw [this, lx_0 ha hj' e]
    exact ⟨rfl, fun q => absurd (show (0 : Int32) = 2 from q) (by decide +kernel)⟩
  · have hl : j < z := by omega
    cases hw : zlt (f j) with
    | true =>
      rw [lk_w hj' hl hw, lx_w ha hj' hl hw]
      exact ⟨rfl, fun q => absurd (show (1 : Int32) = 2 from q) (by decide +kernel)⟩
    | false =>
      cases hd : zdg (f j) with
      | true =>
        rw [lk_d hj' hl hw hd, lx_d ha hj' hl hw hd]
        refine ⟨?_, fun _ => ?_⟩
        · show _ = (j, (2 : Int32), (dgF f j (z - j) j 0).1)
          rw [dg_1]
        · show (dgF f j (z - j) j 0).2 = fgF f j ((dgF f j (z - j) j 0).1 - j) j 0
          rw [dg_2, dg_1]
      | false =>
        by_cases h3 : f j = 59
        · rw [lk_3 hj' hl hw hd h3, lx_3 ha hj' hl hw hd h3]
          exact ⟨rfl, fun q => absurd (show (3 : Int32) = 2 from q) (by decide +kernel)⟩
        · rw [lk_4 hj' hl hw hd h3, lx_4 ha hj' hl hw hd h3]
          exact ⟨rfl, fun q => absurd (show (4 : Int32) = 2 from q) (by decide +kernel)⟩
theorem we_nb {f : Nat → Int32} {z a : Nat} {w : List Int32} (hw : ∀ k, k < w.length → ∃ n : Nat, n < 128 ∧ w.getD k 0 = nI n) (ha : a + w.length ≤ z) : ∀ n i, i + n = w.length → weF (nbf f z) a w n i = weF f a w n i := by
  intro n
  induction n with
  | zero => intro i _; rfl
  | succ n ih =>
    intro i hi
    have e : nbf f z (a + i) = nrm (f (a + i)) := nbf_in (by omega)
    obtain ⟨c, hc, ec⟩ := hw i (by omega)
    have q : nrm (f (a + i)) = w.getD i 0 ↔ f (a + i) = w.getD i 0 := by
      rw [ec]
      refine nrm_c ?_ ?_
      · rw [Int32.le_iff_toInt_le, nI_toInt (by omega)]
        have e0 : (0 : Int32).toInt = 0 := by decide +kernel
        omega
      · rw [Int32.le_iff_toInt_le, nI_toInt (by omega)]
        have e0 : (127 : Int32).toInt = 127 := by decide +kernel
        omega
    by_cases h : f (a + i) = w.getD i 0
    · rw [we_go h, we_go (by rw [e]; exact q.mpr h)]
      exact ih (i + 1) (by omega)
    · rw [we_no h, we_no (by rw [e]; exact fun x => h (q.mp x))]
theorem isW_nb {f : Nat → Int32} {z a b : Nat} {tk : Int32} {w : List Int32} (hw : ∀ k, k < w.length → ∃ n : Nat, n < 128 ∧ w.getD k 0 = nI n) (hb : b ≤ z) : isW (nbf f z) a b tk w = isW f a b tk w := by
  unfold isW
  by_cases e : b = a + w.length
  · rw [we_nb hw (by omega) w.length 0 (by omega)]
  · rw [decide_eq_false e, Bool.false_and, Bool.false_and]
/-- a token that was read -/
noncomputable def Lx (f : Nat → Int32) (z a : Nat) (t : Int32) (b : Nat) : Prop := ∃ c, c ≤ z ∧ lx (nbf f z) z c = (a, t, b)
theorem lx_le (f : Nat → Int32) {z c : Nat} (h : c ≤ z) : c ≤ (lx (nbf f z) z c).1 ∧ (lx (nbf f z) z c).1 ≤ (lx (nbf f z) z c).2.2 ∧ (lx (nbf f z) z c).2.2 ≤ z := by
  have h1 := lk_ok f h
  rw [(lk_lx f h).1]
  exact ⟨h1.1, h1.2.1, h1.2.2.1⟩
theorem Lx_le {f : Nat → Int32} {z a b : Nat} {t : Int32} (h : Lx f z a t b) : a ≤ b ∧ b ≤ z := by
  obtain ⟨c, hc, e⟩ := h
  have h1 := lx_le f hc
  rw [e] at h1
  exact h1.2
theorem Lx_of {f : Nat → Int32} {z c a b : Nat} {t : Int32} (hc : c ≤ z) (e : lx (nbf f z) z c = (a, t, b)) : Lx f z a t b := ⟨c, hc, e⟩
theorem Lx_dg {f : Nat → Int32} {z a b : Nat} (h : Lx f z a 2 b) : ∀ k, a ≤ k → k < b → zdg (nbf f z k) = true := by
  obtain ⟨c, hc, e⟩ := h
  rw [lx] at e
  split at e
  · exact absurd (show (0 : Int32) = 2 from congrArg (fun x => x.2.1) e) (by decide +kernel)
  · split at e
    · exact absurd (show (1 : Int32) = 2 from congrArg (fun x => x.2.1) e) (by decide +kernel)
    · split at e
      · have e1 := congrArg (fun x => x.1) e
        have e2 := congrArg (fun x => x.2.2) e
        dsimp only at e1 e2
        intro k k1 k2
        rw [← e2, e1] at k2
        exact wd_all zdg (nbf f z) _ a k k1 k2
      · have e1 := congrArg (fun x => x.2.1) e
        dsimp only at e1
        split at e1
        · exact absurd e1 (by decide +kernel)
        · exact absurd e1 (by decide +kernel)
noncomputable abbrev TK : Type := Nat × Int32 × Nat
noncomputable def pnum (F : Nat → Int32) (z : Nat) (l : TK) (lo hi : Int32) : Nat ⊕ (Int32 × TK) := if l.2.1 = 2 ∧ l.2.2 ≤ l.1 + 3 ∧ lo ≤ nI (dv F (l.2.2 - l.1) l.1 0) ∧ nI (dv F (l.2.2 - l.1) l.1 0) ≤ hi then .inr (nI (dv F (l.2.2 - l.1) l.1 0), lx F z l.2.2) else .inl l.1
theorem pn_in {F : Nat → Int32} {z : Nat} {l : TK} {lo hi v : Int32} {s : TK} (h : pnum F z l lo hi = .inr (v, s)) : lo ≤ v ∧ v ≤ hi ∧ s = lx F z l.2.2 := by
  unfold pnum at h
  split at h
  · next q =>
    cases h
    exact ⟨q.2.2.1, q.2.2.2, rfl⟩
  · cases h
/-- the class's number -/
noncomputable def zNT (f : Nat → Int32) (a b : Nat) (t : Int32) : Int32 := if t = 2 ∧ b ≤ a + 3 then nvF f (b - a) a 0 else -1
theorem nt_no1 {f : Nat → Int32} {a b : Nat} {t : Int32} (h : ¬ t = 2) : zNT f a b t = -1 := if_neg (fun q => h q.1)
theorem nt_no2 {f : Nat → Int32} {a b : Nat} {t : Int32} (h : ¬ b ≤ a + 3) : zNT f a b t = -1 := if_neg (fun q => h q.2)
theorem nt_y {f : Nat → Int32} {a b : Nat} {t : Int32} (h1 : t = 2) (h2 : b ≤ a + 3) : zNT f a b t = nvF f (b - a) a 0 := if_pos ⟨h1, h2⟩
theorem nt_dv {f : Nat → Int32} {z a b : Nat} (hL : Lx f z a 2 b) (h : b ≤ a + 3) : zNT f a b 2 = nI (dv (nbf f z) (b - a) a 0) := by
  obtain ⟨hab, hbz⟩ := Lx_le hL
  have hd := Lx_dg hL
  rw [nt_y rfl h, nv_nb f z (b - a) a 0 (fun k k1 k2 => hd k k1 (by omega)) (by omega)]
  refine nv_dv (nbf f z) (b - a) a 0 (fun k k1 k2 => hd k k1 (by omega)) ?_
  have h3 : b - a ≤ 3 := by omega
  generalize b - a = n at h3
  match n, h3 with
  | 0, _ => decide
  | 1, _ => decide
  | 2, _ => decide
  | 3, _ => decide
  | n + 4, h => omega
theorem tn_ok {f : Nat → Int32} {z a b : Nat} {t lo hi : Int32} (hL : Lx f z a t b) (hlo : 0 ≤ lo) (h1 : ¬ zNT f a b t < lo) (h2 : zNT f a b t ≤ hi) : pnum (nbf f z) z (a, t, b) lo hi = .inr (zNT f a b t, lx (nbf f z) z b) := by
  by_cases c : t = 2 ∧ b ≤ a + 3
  · obtain ⟨rfl, c2⟩ := c
    rw [nt_dv hL c2] at h1 h2 ⊢
    exact if_pos ⟨rfl, c2, Int32.not_lt.mp h1, h2⟩
  · exfalso
    have e : zNT f a b t = -1 := if_neg c
    rw [e] at h1
    exact h1 (Int32.lt_of_lt_of_le (by decide +kernel) hlo)
theorem tn_no {f : Nat → Int32} {z a b : Nat} {t lo hi : Int32} (hL : Lx f z a t b) (h : zNT f a b t < lo ∨ ¬ zNT f a b t ≤ hi) : pnum (nbf f z) z (a, t, b) lo hi = .inl a := by
  unfold pnum
  refine if_neg (fun q => ?_)
  obtain ⟨q1, q2, q3, q4⟩ := q
  have q1 : t = 2 := q1
  subst q1
  have e := nt_dv hL q2
  have q3 : lo ≤ nI (dv (nbf f z) (b - a) a 0) := q3
  have q4 : nI (dv (nbf f z) (b - a) a 0) ≤ hi := q4
  rw [← e] at q3 q4
  rcases h with h | h
  · exact absurd q3 (Int32.not_le.mpr h)
  · exact h q4
/-- the reference's number -/
theorem rn_ok {f : Nat → Int32} {z a b : Nat} {J : Int64} {t lo hi : Int32} (hL : Lx f z a t b) (hJ : t = 2 → J = fgF f a (b - a) a 0) (hhi : hi ≤ 1000) (ht : t = 2) (h : Iv J lo.toInt64 hi.toInt64) : pnum (nbf f z) z (a, t, b) lo hi = .inr (J.toInt32, lx (nbf f z) z b) := by
  subst ht
  have hJ := hJ rfl
  obtain ⟨hab, hbz⟩ := Lx_le hL
  have hd := Lx_dg hL
  obtain ⟨h1, h2⟩ := Iv_iff.mp h
  by_cases c : b ≤ a + 3
  · have e0 := fg_nb f z a (b - a) a 0 (fun k k1 k2 => hd k k1 (by omega)) (by omega)
    have hp : (0 + 1) * 10 ^ (b - a) ≤ 1000 := by
      have h3 : b - a ≤ 3 := by omega
      generalize b - a = n at h3
      match n, h3 with
      | 0, _ => decide
      | 1, _ => decide
      | 2, _ => decide
      | 3, _ => decide
      | n + 4, h => omega
    obtain ⟨e1, e2⟩ := fg_dv (nbf f z) a (b - a) a 0 (fun k k1 k2 => hd k k1 (by omega)) (by omega) hp
    rw [hJ, e0, show (0 : Int64) = Int64.ofNat 0 from rfl, e1] at h1 h2
    rw [hJ, e0, show (0 : Int64) = Int64.ofNat 0 from rfl, e1]
    generalize hv : dv (nbf f z) (b - a) a 0 = v at h1 h2 e2
    have e3 : (Int64.ofNat v).toInt32 = nI v := by
      rw [← i64_nI (by omega)]
      exact Int32.toInt32_toInt64 _
    rw [← i64_nI (by omega), Int64.le_iff_toInt_le, Int32.toInt_toInt64, Int32.toInt_toInt64] at h1 h2
    rw [e3]
    unfold pnum
    rw [if_pos ⟨rfl, c, by show lo ≤ nI (dv (nbf f z) (b - a) a 0); rw [hv]; exact Int32.le_iff_toInt_le.mpr h1, by show nI (dv (nbf f z) (b - a) a 0) ≤ hi; rw [hv]; exact Int32.le_iff_toInt_le.mpr h2⟩]
    show Sum.inr (nI (dv (nbf f z) (b - a) a 0), lx (nbf f z) z b) = _
    rw [hv]
  · exfalso
    have e : fgF f a (b - a) a 0 = 100000 := by
      rw [show b - a = (b - a - 1) + 1 by omega]
      exact fg_far f a _ a 0 (by omega)
    rw [hJ, e, Int64.le_iff_toInt_le, Int32.toInt_toInt64] at h2
    rw [Int32.le_iff_toInt_le] at hhi
    have k1 : (100000 : Int64).toInt = 100000 := by decide +kernel
    have k2 : (1000 : Int32).toInt = 1000 := by decide +kernel
    omega
theorem rn_no {f : Nat → Int32} {z a b : Nat} {J : Int64} {t lo hi : Int32} (hL : Lx f z a t b) (hJ : t = 2 → J = fgF f a (b - a) a 0) (h : ¬ t = 2 ∨ ¬ Iv J lo.toInt64 hi.toInt64) : pnum (nbf f z) z (a, t, b) lo hi = .inl a := by
  unfold pnum
  refine if_neg (fun q => ?_)
  obtain ⟨q1, c, q3, q4⟩ := q
  have q1 : t = 2 := q1
  subst q1
  have c : b ≤ a + 3 := c
  have q3 : lo ≤ nI (dv (nbf f z) (b - a) a 0) := q3
  have q4 : nI (dv (nbf f z) (b - a) a 0) ≤ hi := q4
  have hJ := hJ rfl
  obtain ⟨hab, hbz⟩ := Lx_le hL
  have hd := Lx_dg hL
  have e0 := fg_nb f z a (b - a) a 0 (fun k k1 k2 => hd k k1 (by omega)) (by omega)
  have hp : (0 + 1) * 10 ^ (b - a) ≤ 1000 := by
    have h3 : b - a ≤ 3 := by omega
    generalize b - a = n at h3
    match n, h3 with
    | 0, _ => decide
    | 1, _ => decide
    | 2, _ => decide
    | 3, _ => decide
    | n + 4, h => omega
  obtain ⟨e1, e2⟩ := fg_dv (nbf f z) a (b - a) a 0 (fun k k1 k2 => hd k k1 (by omega)) (by omega) hp
  generalize hv : dv (nbf f z) (b - a) a 0 = v at q3 q4 e2 e1
  rcases h with h | h
  · exact h rfl
  · apply h
    rw [hJ, e0, show (0 : Int64) = Int64.ofNat 0 from rfl, e1, ← i64_nI (by omega)]
    rw [Iv_iff, Int64.le_iff_toInt_le, Int64.le_iff_toInt_le, Int32.toInt_toInt64, Int32.toInt_toInt64, Int32.toInt_toInt64]
    exact ⟨Int32.le_iff_toInt_le.mp q3, Int32.le_iff_toInt_le.mp q4⟩
/-! how a fault goes on, and how steps are joined -/
noncomputable def pbd {α β : Type} (x : Nat ⊕ α) (k : α → Nat ⊕ β) : Nat ⊕ β := match x with | .inl e => .inl e | .inr a => k a
noncomputable def CH {α : Type} (iY : Int32) (R : Nat ⊕ α) (a : α) : Prop := (∃ e, R = .inl e ∧ iY = nI e ∧ e ≤ 250) ∨ (iY = -1 ∧ R = .inr a)
noncomputable def SR {α : Type} (iF iY : Int32) (R : Nat ⊕ α) (a : α) : Prop := (¬ iF = -1 ∧ iY = iF) ∨ (iF = -1 ∧ CH iY R a)
theorem sr_bind {α β : Type} {iF iY iZ : Int32} {R : Nat ⊕ α} {a : α} {K : α → Nat ⊕ β} {b : β} (h : SR iF iY R a) (h2 : SR iY iZ (K a) b) : SR iF iZ (pbd R K) b := by
  rcases h with ⟨h1, rfl⟩ | ⟨h1, h3⟩
  · rcases h2 with ⟨_, h5⟩ | ⟨h4, _⟩
    · exact Or.inl ⟨h1, h5⟩
    · exact absurd h4 h1
  · refine Or.inr ⟨h1, ?_⟩
    rcases h3 with ⟨e, rfl, rfl, he⟩ | ⟨rfl, rfl⟩
    · rcases h2 with ⟨_, h5⟩ | ⟨h4, _⟩
      · exact Or.inl ⟨e, rfl, h5, he⟩
      · exact absurd h4 (nI_ne1' (by omega))
    · rcases h2 with ⟨h4, _⟩ | ⟨_, h5⟩
      · exact absurd rfl h4
      · exact h5
theorem sr_map {α β : Type} {iF iY : Int32} {R : Nat ⊕ α} {a : α} (g : α → β) (h : SR iF iY R a) : SR iF iY (pbd R (fun x => .inr (g x))) (g a) := by
  rcases h with h | ⟨h1, h3⟩
  · exact Or.inl h
  · refine Or.inr ⟨h1, ?_⟩
    rcases h3 with ⟨e, rfl, rfl, he⟩ | ⟨rfl, rfl⟩
    · exact Or.inl ⟨e, rfl, rfl, he⟩
    · exact Or.inr ⟨rfl, rfl⟩
theorem sr_ch {α : Type} {iF iY : Int32} {R : Nat ⊕ α} {a : α} (h : SR iF iY R a) (e : iF = -1) : CH iY R a := by
  rcases h with ⟨h1, _⟩ | ⟨_, h2⟩
  · exact absurd e h1
  · exact h2
theorem ch_swap {α : Type} {iY : Int32} {R : Nat ⊕ α} {a : α} (b : α) (h : CH iY R a) (e : ¬ iY = -1) : CH iY R b := by
  rcases h with h | ⟨h1, _⟩
  · exact Or.inl h
  · exact absurd h1 e
noncomputable def TKN (f : Nat → Int32) (z kS : Nat) (iT : Int32) (kE : Nat) (iF lo hi r : Int32) (kX : Nat) (iX : Int32) (kY : Nat) (iY : Int32) : Prop := SR iF iY (pnum (nbf f z) z (kS, iT, kE) lo hi) (r, (kX, iX, kY))
/-- a word and its number that may be left out -/
noncomputable def pop (F : Nat → Int32) (z : Nat) (l : TK) (w : List Int32) (lo hi d : Int32) : Nat ⊕ (Int32 × TK) := if isW F l.1 l.2.2 l.2.1 w = true then pnum F z (lx F z l.2.2) lo hi else .inr (d, l)
noncomputable def OPT (f : Nat → Int32) (z kS : Nat) (iT : Int32) (kE : Nat) (iF : Int32) (w : List Int32) (lo hi d r : Int32) (kX : Nat) (iX : Int32) (kY : Nat) (iY : Int32) : Prop := SR iF iY (pop (nbf f z) z (kS, iT, kE) w lo hi d) (r, (kX, iX, kY))
theorem opt_y {f : Nat → Int32} {z kS k1 k2 kE kX kY : Nat} {iT i1 iF lo hi d r iX iY : Int32} {w : List Int32} (hp : iF = -1 ∧ isW (nbf f z) kS kE iT w = true ∧ lx (nbf f z) z kE = (k1, i1, k2)) (h : TKN f z k1 i1 k2 iF lo hi r kX iX kY iY) : OPT f z kS iT kE iF w lo hi d r kX iX kY iY := by
  unfold OPT pop
  rw [if_pos hp.2.1]
  show SR iF iY (pnum (nbf f z) z (lx (nbf f z) z kE) lo hi) _
  rw [hp.2.2]
  exact h
theorem opt_n {f : Nat → Int32} {z kS kE kX kY : Nat} {iT iF lo hi d iX : Int32} {w : List Int32} (hp : (¬ iF = -1 ∨ isW (nbf f z) kS kE iT w = false) ∧ kX = kS ∧ iX = iT ∧ kY = kE) : OPT f z kS iT kE iF w lo hi d d kX iX kY iF := by
  obtain ⟨h, rfl, rfl, rfl⟩ := hp
  unfold OPT pop
  by_cases e : iF = -1
  · rcases h with h | h
    · exact absurd e h
    · rw [if_neg (by show ¬ isW (nbf f z) kX kY iX w = true; rw [h]; decide)]
      exact Or.inr ⟨e, Or.inr ⟨e, rfl⟩⟩
  · exact Or.inl ⟨e, rfl⟩
/-! statements -/
noncomputable def bkT (t : TA) (w g : Int32) : TA := T_setgo (zab t w 0) (upd (T_go (zab t w 0)) (T_nb t) g)
noncomputable def neT (t : TA) (b n : Int32) : TA := T_setne t (upd (T_ne t) b.toNatClampNeg (T_ne t b.toNatClampNeg ||| (1 <<< (n &&& 31))))
noncomputable def knT (t : TA) (p b v : Int32) : TA := T_setkn t (updM (T_kn t) p.toNatClampNeg b.toNatClampNeg v)
noncomputable def whT (t : TA) (b : Int32) : TA := T_setwh t (updB (T_wh t) b.toNatClampNeg true)
noncomputable def pBook (F : Nat → Int32) (z : Nat) (l : TK) (t : TA) : Nat ⊕ (TK × TA) := if T_nb t < 8 then pbd (pnum F z (lx F z l.2.2) 1 99) (fun a => pbd (pop F z a.2 [103, 111, 111, 100] 0 1000 1000) (fun b => .inr (b.2, bkT t a.1 b.1))) else .inl l.1
noncomputable def pNeed (F : Nat → Int32) (z : Nat) (l : TK) (t : TA) : Nat ⊕ (TK × TA) := pbd (pnum F z (lx F z l.2.2) 0 (nI (T_nb t) - 1)) (fun a => pbd (pnum F z a.2 0 (a.1 - 1)) (fun b => .inr (b.2, neT t a.1 b.1)))
noncomputable def pOne (F : Nat → Int32) (z : Nat) (l : TK) (t : TA) : Nat ⊕ (TK × TA) := if T_np t < 8 then pbd (pnum F z (lx F z l.2.2) 0 9) (fun a => pbd (pop F z a.2 [114, 101, 97, 100, 115] 0 10 5) (fun b => pbd (pop F z b.2 [107, 101, 101, 112, 115] 0 10 5) (fun c => pbd (pop F z c.2 [116, 101, 108, 108, 115] 0 10 5) (fun d => .inr (d.2, zao t a.1 b.1 c.1 d.1))))) else .inl l.1
noncomputable def pKnow (F : Nat → Int32) (z : Nat) (l : TK) (t : TA) : Nat ⊕ (TK × TA) := pbd (pnum F z (lx F z l.2.2) 0 (nI (T_np t) - 1)) (fun a => pbd (pnum F z a.2 0 (nI (T_nb t) - 1)) (fun b => pbd (pnum F z b.2 0 1000) (fun c => .inr (c.2, knT t a.1 b.1 c.1))))
noncomputable def pWhite (F : Nat → Int32) (z : Nat) (l : TK) (t : TA) : Nat ⊕ (TK × TA) := pbd (pnum F z (lx F z l.2.2) 0 (nI (T_nb t) - 1)) (fun a => .inr (a.2, whT t a.1))
noncomputable def pstm (F : Nat → Int32) (z : Nat) (l : TK) (t : TA) : Nat ⊕ (TK × TA) := if isW F l.1 l.2.2 l.2.1 [98, 111, 111, 107] = true then pBook F z l t else if isW F l.1 l.2.2 l.2.1 [110, 101, 101, 100] = true then pNeed F z l t else if isW F l.1 l.2.2 l.2.1 [111, 110, 101] = true then pOne F z l t else if isW F l.1 l.2.2 l.2.1 [107, 110, 111, 119, 115] = true then pKnow F z l t else if isW F l.1 l.2.2 l.2.1 [119, 104, 105, 116, 101] = true then pWhite F z l t else .inl l.1
theorem bf {b : Bool} (h : b = false) : ¬ b = true := by rw [h]; decide
theorem ps_1 {F : Nat → Int32} {z : Nat} {a b : Nat} {k : Int32} {t : TA} (h1 : isW F a b k [98, 111, 111, 107] = true) : pstm F z (a, k, b) t = pBook F z (a, k, b) t := if_pos h1
theorem ps_2 {F : Nat → Int32} {z : Nat} {a b : Nat} {k : Int32} {t : TA} (h1 : isW F a b k [98, 111, 111, 107] = false) (h2 : isW F a b k [110, 101, 101, 100] = true) : pstm F z (a, k, b) t = pNeed F z (a, k, b) t := (if_neg (bf h1)).trans (if_pos h2)
theorem ps_3 {F : Nat → Int32} {z : Nat} {a b : Nat} {k : Int32} {t : TA} (h1 : isW F a b k [98, 111, 111, 107] = false) (h2 : isW F a b k [110, 101, 101, 100] = false) (h3 : isW F a b k [111, 110, 101] = true) : pstm F z (a, k, b) t = pOne F z (a, k, b) t := (if_neg (bf h1)).trans ((if_neg (bf h2)).trans (if_pos h3))
theorem ps_4 {F : Nat → Int32} {z : Nat} {a b : Nat} {k : Int32} {t : TA} (h1 : isW F a b k [98, 111, 111, 107] = false) (h2 : isW F a b k [110, 101, 101, 100] = false) (h3 : isW F a b k [111, 110, 101] = false) (h4 : isW F a b k [107, 110, 111, 119, 115] = true) : pstm F z (a, k, b) t = pKnow F z (a, k, b) t := (if_neg (bf h1)).trans ((if_neg (bf h2)).trans ((if_neg (bf h3)).trans (if_pos h4)))
theorem ps_5 {F : Nat → Int32} {z : Nat} {a b : Nat} {k : Int32} {t : TA} (h1 : isW F a b k [98, 111, 111, 107] = false) (h2 : isW F a b k [110, 101, 101, 100] = false) (h3 : isW F a b k [111, 110, 101] = false) (h4 : isW F a b k [107, 110, 111, 119, 115] = false) (h5 : isW F a b k [119, 104, 105, 116, 101] = true) : pstm F z (a, k, b) t = pWhite F z (a, k, b) t := (if_neg (bf h1)).trans ((if_neg (bf h2)).trans ((if_neg (bf h3)).trans ((if_neg (bf h4)).trans (if_pos h5))))
theorem ps_6 {F : Nat → Int32} {z : Nat} {a b : Nat} {k : Int32} {t : TA} (h1 : isW F a b k [98, 111, 111, 107] = false) (h2 : isW F a b k [110, 101, 101, 100] = false) (h3 : isW F a b k [111, 110, 101] = false) (h4 : isW F a b k [107, 110, 111, 119, 115] = false) (h5 : isW F a b k [119, 104, 105, 116, 101] = false) : pstm F z (a, k, b) t = .inl a := (if_neg (bf h1)).trans ((if_neg (bf h2)).trans ((if_neg (bf h3)).trans ((if_neg (bf h4)).trans (if_neg (bf h5)))))
/-- a word's first letter and length -/
theorem isW_l {f : Nat → Int32} {a b : Nat} {tk : Int32} {w : List Int32} (h : isW f a b tk w = true) : b = a + w.length := of_decide_eq_true (Bool.and_eq_true_iff.mp (Bool.and_eq_true_iff.mp h).2).1
theorem isW_h {f : Nat → Int32} {a b : Nat} {tk c : Int32} {w : List Int32} (h : isW f a b tk (c :: w) = true) : f a = c := by
  have h3 := (Bool.and_eq_true_iff.mp (Bool.and_eq_true_iff.mp h).2).2
  by_cases e : f a = c
  · exact e
  · exfalso
    have h4 : weF f a (c :: w) (w.length + 1) 0 = true := h3
    rw [we_no (i := 0) (by exact e)] at h4
    cases h4
theorem isW_ne {f : Nat → Int32} {a b : Nat} {tk c d : Int32} {w v : List Int32} (h : isW f a b tk (c :: w) = true) (hn : ¬ c = d ∨ ¬ (c :: w).length = (d :: v).length) : isW f a b tk (d :: v) = false := by
  cases q : isW f a b tk (d :: v) with
  | false => rfl
  | true =>
    exfalso
    rcases hn with hn | hn
    · exact hn ((isW_h h).symm.trans (isW_h q))
    · have := isW_l h
      have := isW_l q
      omega
/-! the statements of the class: what the steps give -/
theorem st_book {f : Nat → Int32} {z a b k1 k2 k3 k4 k5 k6 : Nat} {t i1 i2 i3 v g f1 f2 iF : Int32} {tD : TA} (h8 : T_nb tD < 8) (hs : lx (nbf f z) z b = (k1, i1, k2)) (hF : iF = -1) (h1 : TKN f z k1 i1 k2 iF 1 99 v k3 i2 k4 f1) (h2 : OPT f z k3 i2 k4 f1 [103, 111, 111, 100] 0 1000 1000 g k5 i3 k6 f2) : CH f2 (pBook (nbf f z) z (a, t, b) tD) ((k5, i3, k6), bkT tD v g) := by
  unfold pBook
  rw [if_pos h8]
  show CH f2 (pbd (pnum (nbf f z) z (lx (nbf f z) z b) 1 99) _) _
  rw [hs]
  exact sr_ch (sr_bind h1 (sr_map (fun x : Int32 × TK => (x.2, bkT tD v x.1)) h2)) hF
theorem st_one {f : Nat → Int32} {z a b k1 k2 k3 k4 k5 k6 k7 k8 k9 k10 : Nat} {t i1 i2 i3 i4 i5 v1 v2 v3 v4 f1 f2 f3 f4 iF : Int32} {tD : TA} (h8 : T_np tD < 8) (hs : lx (nbf f z) z b = (k1, i1, k2)) (hF : iF = -1) (h1 : TKN f z k1 i1 k2 iF 0 9 v1 k3 i2 k4 f1) (h2 : OPT f z k3 i2 k4 f1 [114, 101, 97, 100, 115] 0 10 5 v2 k5 i3 k6 f2) (h3 : OPT f z k5 i3 k6 f2 [107, 101, 101, 112, 115] 0 10 5 v3 k7 i4 k8 f3) (h4 : OPT f z k7 i4 k8 f3 [116, 101, 108, 108, 115] 0 10 5 v4 k9 i5 k10 f4) : CH f4 (pOne (nbf f z) z (a, t, b) tD) ((k9, i5, k10), zao tD v1 v2 v3 v4) := by
  unfold pOne
  rw [if_pos h8]
  show CH f4 (pbd (pnum (nbf f z) z (lx (nbf f z) z b) 0 9) _) _
  rw [hs]
  exact sr_ch (sr_bind h1 (sr_bind h2 (sr_bind h3 (sr_map (fun x : Int32 × TK => (x.2, zao tD v1 v2 v3 x.1)) h4)))) hF
theorem st_need {f : Nat → Int32} {z a b k1 k2 k3 k4 k5 k6 : Nat} {t i1 i2 i3 v g f1 f2 iF : Int32} {tD : TA} (hs : lx (nbf f z) z b = (k1, i1, k2)) (hF : iF = -1) (h1 : TKN f z k1 i1 k2 iF 0 (nI (T_nb tD) - 1) v k3 i2 k4 f1) (h2 : TKN f z k3 i2 k4 f1 0 (v - 1) g k5 i3 k6 f2) : CH f2 (pNeed (nbf f z) z (a, t, b) tD) ((k5, i3, k6), neT tD v g) := by
  unfold pNeed
  show CH f2 (pbd (pnum (nbf f z) z (lx (nbf f z) z b) 0 _) _) _
  rw [hs]
  exact sr_ch (sr_bind h1 (sr_map (fun x : Int32 × TK => (x.2, neT tD v x.1)) h2)) hF
theorem st_know {f : Nat → Int32} {z a b k1 k2 k3 k4 k5 k6 k7 k8 : Nat} {t i1 i2 i3 i4 v1 v2 v3 f1 f2 f3 iF : Int32} {tD : TA} (hs : lx (nbf f z) z b = (k1, i1, k2)) (hF : iF = -1) (h1 : TKN f z k1 i1 k2 iF 0 (nI (T_np tD) - 1) v1 k3 i2 k4 f1) (h2 : TKN f z k3 i2 k4 f1 0 (nI (T_nb tD) - 1) v2 k5 i3 k6 f2) (h3 : TKN f z k5 i3 k6 f2 0 1000 v3 k7 i4 k8 f3) : CH f3 (pKnow (nbf f z) z (a, t, b) tD) ((k7, i4, k8), knT tD v1 v2 v3) := by
  unfold pKnow
  show CH f3 (pbd (pnum (nbf f z) z (lx (nbf f z) z b) 0 _) _) _
  rw [hs]
  exact sr_ch (sr_bind h1 (sr_bind h2 (sr_map (fun x : Int32 × TK => (x.2, knT tD v1 v2 x.1)) h3))) hF
theorem st_white {f : Nat → Int32} {z a b k1 k2 k3 k4 : Nat} {t i1 i2 v f1 iF : Int32} {tD : TA} (hs : lx (nbf f z) z b = (k1, i1, k2)) (hF : iF = -1) (h1 : TKN f z k1 i1 k2 iF 0 (nI (T_nb tD) - 1) v k3 i2 k4 f1) : CH f1 (pWhite (nbf f z) z (a, t, b) tD) ((k3, i2, k4), whT tD v) := by
  unfold pWhite
  show CH f1 (pbd (pnum (nbf f z) z (lx (nbf f z) z b) 0 _) _) _
  rw [hs]
  exact sr_ch (sr_map (fun x : Int32 × TK => (x.2, whT tD x.1)) h1) hF
theorem st_full1 {F : Nat → Int32} {z a b : Nat} {t f1 : Int32} {tD : TA} {q : TK × TA} (h8 : ¬ T_nb tD < 8) (ha : a ≤ 250) (hf : f1 = nI a) : CH f1 (pBook F z (a, t, b) tD) q := Or.inl ⟨a, if_neg h8, hf, ha⟩
theorem st_full2 {F : Nat → Int32} {z a b : Nat} {t f1 : Int32} {tD : TA} {q : TK × TA} (h8 : ¬ T_np tD < 8) (ha : a ≤ 250) (hf : f1 = nI a) : CH f1 (pOne F z (a, t, b) tD) q := Or.inl ⟨a, if_neg h8, hf, ha⟩
/-! how far a statement goes -/
theorem pn_adv {f : Nat → Int32} {z : Nat} {l : TK} {lo hi v : Int32} {s : TK} (hl : l.2.2 ≤ z) (h : pnum (nbf f z) z l lo hi = .inr (v, s)) : l.2.2 ≤ s.1 ∧ s.1 ≤ s.2.2 ∧ s.2.2 ≤ z ∧ Lx f z s.1 s.2.1 s.2.2 := by
  obtain ⟨_, _, rfl⟩ := pn_in h
  have := lx_le f hl
  exact ⟨this.1, this.2.1, this.2.2, l.2.2, hl, rfl⟩
theorem pop_adv {f : Nat → Int32} {z : Nat} {l : TK} {w : List Int32} {lo hi d v : Int32} {s : TK} (hL : Lx f z l.1 l.2.1 l.2.2) (h : pop (nbf f z) z l w lo hi d = .inr (v, s)) : l.1 ≤ s.1 ∧ s.1 ≤ s.2.2 ∧ s.2.2 ≤ z ∧ Lx f z s.1 s.2.1 s.2.2 := by
  obtain ⟨h1, h2⟩ := Lx_le hL
  unfold pop at h
  split at h
  · have q := lx_le f h2
    have := pn_adv q.2.2 h
    exact ⟨by omega, this.2⟩
  · cases h
    exact ⟨Nat.le_refl _, h1, h2, hL⟩
theorem pbd_in {α β : Type} {x : Nat ⊕ α} {k : α → Nat ⊕ β} {b : β} (h : pbd x k = .inr b) : ∃ a, x = .inr a ∧ k a = .inr b := by
  cases x with
  | inl e => cases h
  | inr a => exact ⟨a, rfl, h⟩
theorem pop_in {F : Nat → Int32} {z : Nat} {l : TK} {w : List Int32} {lo hi d v : Int32} {s : TK} (hd : lo ≤ d ∧ d ≤ hi) (h : pop F z l w lo hi d = .inr (v, s)) : lo ≤ v ∧ v ≤ hi := by
  unfold pop at h
  split at h
  · exact ⟨(pn_in h).1, (pn_in h).2.1⟩
  · cases h
    exact hd
/-- what a statement that is right does to the town, and how far it goes -/
noncomputable def PSO (t t' : TA) : Prop := (∃ w g, T_nb t < 8 ∧ (0 ≤ g ∧ g ≤ 1000) ∧ t' = bkT t w g) ∨ (∃ b n, (0 ≤ b ∧ b ≤ nI (T_nb t) - 1) ∧ (0 ≤ n ∧ n ≤ b - 1) ∧ t' = neT t b n) ∨ (∃ a r k e, T_np t < 8 ∧ (0 ≤ a ∧ a ≤ 9) ∧ (0 ≤ r ∧ r ≤ 10) ∧ (0 ≤ k ∧ k ≤ 10) ∧ (0 ≤ e ∧ e ≤ 10) ∧ t' = zao t a r k e) ∨ (∃ p b v, (0 ≤ p ∧ p ≤ nI (T_np t) - 1) ∧ (0 ≤ b ∧ b ≤ nI (T_nb t) - 1) ∧ (0 ≤ v ∧ v ≤ 1000) ∧ t' = knT t p b v) ∨ (∃ b, (0 ≤ b ∧ b ≤ nI (T_nb t) - 1) ∧ t' = whT t b)
theorem ps_out {f : Nat → Int32} {z : Nat} {l s : TK} {t t' : TA} (hL : Lx f z l.1 l.2.1 l.2.2) (h : pstm (nbf f z) z l t = .inr (s, t')) : l.1 + 3 ≤ s.1 ∧ Lx f z s.1 s.2.1 s.2.2 ∧ PSO t t' := by
  obtain ⟨h1, h2⟩ := Lx_le hL
  have q := lx_le f h2
  unfold pstm at h
  split at h
  · next hw =>
    have hl : l.2.2 = l.1 + 4 := isW_l hw
    unfold pBook at h
    split at h
    · next h8 =>
      obtain ⟨⟨v, s1⟩, e1, h⟩ := pbd_in h
      obtain ⟨⟨g, s2⟩, e2, h⟩ := pbd_in h
      cases h
      have a1 := pn_adv q.2.2 e1
      have a2 := pop_adv a1.2.2.2 e2
      refine ⟨by show l.1 + 3 ≤ s2.1; omega, a2.2.2.2, Or.inl ⟨v, g, h8, pop_in (by decide +kernel) e2, rfl⟩⟩
    · cases h
  · split at h
    · next hw =>
      have hl : l.2.2 = l.1 + 4 := isW_l hw
      unfold pNeed at h
      obtain ⟨⟨v, s1⟩, e1, h⟩ := pbd_in h
      obtain ⟨⟨g, s2⟩, e2, h⟩ := pbd_in h
      cases h
      have a1 := pn_adv q.2.2 e1
      have a2 := pn_adv a1.2.2.1 e2
      refine ⟨by show l.1 + 3 ≤ s2.1; omega, a2.2.2.2, Or.inr (Or.inl ⟨v, g, ⟨(pn_in e1).1, (pn_in e1).2.1⟩, ⟨(pn_in e2).1, (pn_in e2).2.1⟩, rfl⟩)⟩
    · split at h
      · next hw =>
        have hl : l.2.2 = l.1 + 3 := isW_l hw
        unfold pOne at h
        split at h
        · next h8 =>
          obtain ⟨⟨v, s1⟩, e1, h⟩ := pbd_in h
          obtain ⟨⟨v2, s2⟩, e2, h⟩ := pbd_in h
          obtain ⟨⟨v3, s3⟩, e3, h⟩ := pbd_in h
          obtain ⟨⟨v4, s4⟩, e4, h⟩ := pbd_in h
          cases h
          have a1 := pn_adv q.2.2 e1
          have a2 := pop_adv a1.2.2.2 e2
          have a3 := pop_adv a2.2.2.2 e3
          have a4 := pop_adv a3.2.2.2 e4
          refine ⟨by show l.1 + 3 ≤ s4.1; omega, a4.2.2.2, Or.inr (Or.inr (Or.inl ⟨v, v2, v3, v4, h8, ⟨(pn_in e1).1, (pn_in e1).2.1⟩, pop_in (by decide +kernel) e2, pop_in (by decide +kernel) e3, pop_in (by decide +kernel) e4, rfl⟩))⟩
        · cases h
      · split at h
        · next hw =>
          have hl : l.2.2 = l.1 + 5 := isW_l hw
          unfold pKnow at h
          obtain ⟨⟨v, s1⟩, e1, h⟩ := pbd_in h
          obtain ⟨⟨v2, s2⟩, e2, h⟩ := pbd_in h
          obtain ⟨⟨v3, s3⟩, e3, h⟩ := pbd_in h
          cases h
          have a1 := pn_adv q.2.2 e1
          have a2 := pn_adv a1.2.2.1 e2
          have a3 := pn_adv a2.2.2.1 e3
          refine ⟨by show l.1 + 3 ≤ s3.1; omega, a3.2.2.2, Or.inr (Or.inr (Or.inr (Or.inl ⟨v, v2, v3, ⟨(pn_in e1).1, (pn_in e1).2.1⟩, ⟨(pn_in e2).1, (pn_in e2).2.1⟩, ⟨(pn_in e3).1, (pn_in e3).2.1⟩, rfl⟩)))⟩
        · split at h
          · next hw =>
            have hl : l.2.2 = l.1 + 5 := isW_l hw
            unfold pWhite at h
            obtain ⟨⟨v, s1⟩, e1, h⟩ := pbd_in h
            cases h
            have a1 := pn_adv q.2.2 e1
            refine ⟨by show l.1 + 3 ≤ s1.1; omega, a1.2.2.2, Or.inr (Or.inr (Or.inr (Or.inr ⟨v, ⟨(pn_in e1).1, (pn_in e1).2.1⟩, rfl⟩)))⟩
          · cases h
/-! the whole text -/
noncomputable def plp (F : Nat → Int32) (z : Nat) : Nat → TK → TA → Nat → Nat ⊕ (TA × Nat)
  | 0, _, t, c => .inr (t, c)
  | n + 1, l, t, c => pbd (pstm F z l t) (fun a => if a.1.2.1 = 0 then .inr (a.2, c) else if a.1.2.1 = 3 then plp F z n (lx F z a.1.2.2) a.2 (c + 1) else .inl a.1.1)
noncomputable def pall (F : Nat → Int32) (z : Nat) (t : TA) : Nat ⊕ (TA × Nat) := plp F z 250 (lx F z 0) t 1
theorem plp_e {F : Nat → Int32} {z n c e : Nat} {l : TK} {t : TA} (h : pstm F z l t = .inl e) : plp F z (n + 1) l t c = .inl e := by
  rw [plp, h]
  rfl
theorem plp_i {F : Nat → Int32} {z n c : Nat} {l s : TK} {t t' : TA} (h : pstm F z l t = .inr (s, t')) : plp F z (n + 1) l t c = if s.2.1 = 0 then .inr (t', c) else if s.2.1 = 3 then plp F z n (lx F z s.2.2) t' (c + 1) else .inl s.1 := by
  rw [plp, h]
  rfl
/-! the class's tape -/
theorem nI_lt' {j n : Nat} (hn : n < 2 ^ 31) (h : j < n) : nI j < nI n := by
  rw [Int32.lt_iff_toInt_lt, nI_toInt (by omega), nI_toInt hn]
  omega
theorem zlt_y {x : Int32} (h1 : ¬ x < 97) (h2 : ¬ 122 < x) : zlt x = true := by show (decide _ && decide _) = true; rw [decide_eq_true (Int32.not_lt.mp h1), decide_eq_true (Int32.not_lt.mp h2)]; rfl
theorem zlt_n1 {x : Int32} (h : x < 97) : zlt x = false := by show (decide _ && decide _) = false; rw [decide_eq_false (Int32.not_le.mpr h)]; rfl
theorem zlt_n2 {x : Int32} (h : 122 < x) : zlt x = false := by show (decide _ && decide _) = false; rw [decide_eq_false (p := _ ≤ _) (Int32.not_le.mpr h), Bool.and_false]
theorem zdg_y {x : Int32} (h1 : ¬ x < 48) (h2 : ¬ 57 < x) : zdg x = true := by show (decide _ && decide _) = true; rw [decide_eq_true (Int32.not_lt.mp h1), decide_eq_true (Int32.not_lt.mp h2)]; rfl
theorem zdg_n1 {x : Int32} (h : x < 48) : zdg x = false := by show (decide _ && decide _) = false; rw [decide_eq_false (Int32.not_le.mpr h)]; rfl
theorem zdg_n2 {x : Int32} (h : 57 < x) : zdg x = false := by show (decide _ && decide _) = false; rw [decide_eq_false (p := _ ≤ _) (Int32.not_le.mpr h), Bool.and_false]
noncomputable def srt (f : Nat → Int32) (z i : Nat) : Int32 := if i < z then (if zlt (f i) = true then 1 else if zdg (f i) = true then 2 else if f i = 59 then 3 else 4) else 0
theorem srt0 {f : Nat → Int32} {z i : Nat} (h : ¬ i < z) : srt f z i = 0 := if_neg h
theorem srt1 {f : Nat → Int32} {z i : Nat} (h : i < z) (h1 : zlt (f i) = true) : srt f z i = 1 := (if_pos h).trans (if_pos h1)
theorem srt2 {f : Nat → Int32} {z i : Nat} (h : i < z) (h1 : zlt (f i) = false) (h2 : zdg (f i) = true) : srt f z i = 2 := (if_pos h).trans ((if_neg (bf h1)).trans (if_pos h2))
theorem srt3 {f : Nat → Int32} {z i : Nat} (h : i < z) (h1 : zlt (f i) = false) (h2 : zdg (f i) = false) (h3 : f i = 59) : srt f z i = 3 := (if_pos h).trans ((if_neg (bf h1)).trans ((if_neg (bf h2)).trans (if_pos h3)))
theorem srt4 {f : Nat → Int32} {z i : Nat} (h : i < z) (h1 : zlt (f i) = false) (h2 : zdg (f i) = false) (h3 : ¬ f i = 59) : srt f z i = 4 := (if_pos h).trans ((if_neg (bf h1)).trans ((if_neg (bf h2)).trans (if_neg h3)))
theorem srt_cs (f : Nat → Int32) (z i : Nat) : (srt f z i = 0 ∧ ¬ i < z) ∨ (srt f z i = 1 ∧ i < z ∧ zlt (f i) = true) ∨ (srt f z i = 2 ∧ i < z ∧ zlt (f i) = false ∧ zdg (f i) = true) ∨ (srt f z i = 3 ∧ i < z ∧ zlt (f i) = false ∧ zdg (f i) = false ∧ f i = 59) ∨ (srt f z i = 4 ∧ i < z ∧ zlt (f i) = false ∧ zdg (f i) = false ∧ ¬ f i = 59) := by
  by_cases h : i < z
  · cases h1 : zlt (f i) with
    | true => exact Or.inr (Or.inl ⟨srt1 h h1, h, rfl⟩)
    | false =>
      cases h2 : zdg (f i) with
      | true => exact Or.inr (Or.inr (Or.inl ⟨srt2 h h1 h2, h, rfl, rfl⟩))
      | false =>
        by_cases h3 : f i = 59
        · exact Or.inr (Or.inr (Or.inr (Or.inl ⟨srt3 h h1 h2 h3, h, rfl, rfl, h3⟩)))
        · exact Or.inr (Or.inr (Or.inr (Or.inr ⟨srt4 h h1 h2 h3, h, rfl, rfl, h3⟩)))
  · exact Or.inl ⟨srt0 h, h⟩
theorem srt_0 {f : Nat → Int32} {z i : Nat} {r : Int32} (h : r = srt f z i) (e : r = 0) : ¬ i < z := by
  rcases srt_cs f z i with q | q | q | q | q
  · exact q.2
  all_goals exact absurd ((q.1.symm.trans h.symm).trans e) (by decide +kernel)
theorem srt_1 {f : Nat → Int32} {z i : Nat} {r : Int32} (h : r = srt f z i) (e : r = 1) : i < z ∧ zlt (f i) = true := by
  rcases srt_cs f z i with q | q | q | q | q
  · exact absurd ((q.1.symm.trans h.symm).trans e) (by decide +kernel)
  · exact q.2
  all_goals exact absurd ((q.1.symm.trans h.symm).trans e) (by decide +kernel)
theorem srt_2 {f : Nat → Int32} {z i : Nat} {r : Int32} (h : r = srt f z i) (e : r = 2) : i < z ∧ zlt (f i) = false ∧ zdg (f i) = true := by
  rcases srt_cs f z i with q | q | q | q | q
  · exact absurd ((q.1.symm.trans h.symm).trans e) (by decide +kernel)
  · exact absurd ((q.1.symm.trans h.symm).trans e) (by decide +kernel)
  · exact q.2
  all_goals exact absurd ((q.1.symm.trans h.symm).trans e) (by decide +kernel)
theorem srt_n1 {f : Nat → Int32} {z i : Nat} {r : Int32} (h : r = srt f z i) (hi : i < z) (e : ¬ r = 1) : zlt (f i) = false := by
  rcases srt_cs f z i with q | q | q | q | q
  · exact absurd hi q.2
  · exact absurd (h.trans q.1) e
  · exact q.2.2.1
  · exact q.2.2.1
  · exact q.2.2.1
/-- a digit is no letter -/
theorem dg_lt0 {x : Int32} (h : zdg x = true) : zlt x = false := by
  obtain ⟨d, hd, e, _⟩ := zdg_n h
  refine zlt_n1 ?_
  rw [e, Int32.lt_iff_toInt_lt, nI_toInt (by omega)]
  have : (97 : Int32).toInt = 97 := by decide +kernel
  omega
theorem srt_n2 {f : Nat → Int32} {z i : Nat} {r : Int32} (h : r = srt f z i) (hi : i < z) (e : ¬ r = 2) : zdg (f i) = false := by
  cases q : zdg (f i) with
  | false => rfl
  | true => exact absurd (h.trans (srt2 hi (dg_lt0 q) q)) e
/-- the class's step -/
theorem sp_0 {f : Nat → Int32} {z a j : Nat} {r : Int32} (ha : a ≤ z) (hj : j = skF f (z - a) a) (hjz : j ≤ z) (h : r = srt f z j) (e : r = 0) : lx (nbf f z) z a = (j, r, j) := by
  rw [lx_0 ha hj (by have := srt_0 h e; omega), e]
theorem sp_1 {f : Nat → Int32} {z a j m : Nat} {r : Int32} (ha : a ≤ z) (hj : j = skF f (z - a) a) (h : r = srt f z j) (e : r = 1) (hm : wdF zlt f (z - (j + 1)) (j + 1) = m) : lx (nbf f z) z a = (j, r, m) := by
  obtain ⟨h1, h2⟩ := srt_1 h e
  rw [lx_w ha hj h1 h2, show z - j = z - (j + 1) + 1 by omega, wd_go h2, hm, e]
theorem sp_2 {f : Nat → Int32} {z a j m : Nat} {r : Int32} (ha : a ≤ z) (hj : j = skF f (z - a) a) (h : r = srt f z j) (e : r = 2) (hm : wdF zdg f (z - (j + 1)) (j + 1) = m) : lx (nbf f z) z a = (j, r, m) := by
  obtain ⟨h1, h2, h3⟩ := srt_2 h e
  rw [lx_d ha hj h1 h2 h3, show z - j = z - (j + 1) + 1 by omega, wd_go h3, hm, e]
theorem sp_3 {f : Nat → Int32} {z a j : Nat} {r : Int32} (ha : a ≤ z) (hj : j = skF f (z - a) a) (h : r = srt f z j) (e0 : ¬ r = 0) (e1 : ¬ r = 1) (e2 : ¬ r = 2) : lx (nbf f z) z a = (j, r, j + 1) := by
  rcases srt_cs f z j with q | q | q | q | q
  · exact absurd (h.trans q.1) e0
  · exact absurd (h.trans q.1) e1
  · exact absurd (h.trans q.1) e2
  · rw [lx_3 ha hj q.2.1 q.2.2.1 q.2.2.2.1 q.2.2.2.2, h, q.1]
  · rw [lx_4 ha hj q.2.1 q.2.2.1 q.2.2.2.1 q.2.2.2.2, h, q.1]
noncomputable def fal (iF : Int32) (k : Nat) : Int32 := if iF = -1 then nI k else iF
theorem fal_1 {iF : Int32} {k : Nat} (h : iF = -1) : fal iF k = nI k := if_pos h
theorem fal_0 {iF : Int32} {k : Nat} (h : ¬ iF = -1) : fal iF k = iF := if_neg h
noncomputable abbrev Ge0 (x : Int32) : Prop := 0 ≤ x
theorem tk_no {f : Nat → Int32} {z kS kE kX kY : Nat} {iT iF lo hi iX iY r : Int32} (hL : Lx f z kS iT kE) (hz : z ≤ 250) (h : ¬ iF = -1 ∨ zNT f kS kE iT < lo ∨ ¬ zNT f kS kE iT ≤ hi) (hY : iY = fal iF kS) : TKN f z kS iT kE iF lo hi r kX iX kY iY := by
  unfold TKN
  by_cases e : iF = -1
  · refine Or.inr ⟨e, Or.inl ⟨kS, tn_no hL (h.resolve_left (fun q => q e)), by rw [hY, fal_1 e], ?_⟩⟩
    have := Lx_le hL
    omega
  · exact Or.inl ⟨e, by rw [hY, fal_0 e]⟩
theorem tk_ok {f : Nat → Int32} {z kS kE kX kY : Nat} {iT iF lo hi iX r : Int32} (hL : Lx f z kS iT kE) (h0 : Ge0 lo) (e : iF = -1) (hr : r = zNT f kS kE iT) (h1 : ¬ r < lo) (h2 : r ≤ hi) (hs : lx (nbf f z) z kE = (kX, iX, kY)) : TKN f z kS iT kE iF lo hi r kX iX kY iF := by
  subst hr
  refine Or.inr ⟨e, Or.inr ⟨e, ?_⟩⟩
  rw [tn_ok hL h0 h1 h2, hs]
theorem neT_nI {t : TA} {k m : Nat} (hk : k < 8) : neT t (nI k) (nI m) = T_setne t (upd (T_ne t) k (T_ne t k ||| (1 <<< (nI m &&& 31)))) := by unfold neT; rw [nI_clamp (by omega)]
theorem knT_nI {t : TA} {k m : Nat} {v : Int32} (hk : k < 8) (hm : m < 8) : knT t (nI k) (nI m) v = T_setkn t (updM (T_kn t) k m v) := by unfold knT; rw [nI_clamp (by omega), nI_clamp (by omega)]
theorem whT_nI {t : TA} {k : Nat} (hk : k < 8) : whT t (nI k) = T_setwh t (updB (T_wh t) k true) := by unfold whT; rw [nI_clamp (by omega)]
/-- the whole text: the class's answer -/
noncomputable def RFP (R : Nat ⊕ (TA × Nat)) (r iY : Int32) (tX : TA) : Prop := (∃ e, R = .inl e ∧ iY = nI e ∧ e ≤ 250) ∨ (iY = -1 ∧ ∃ c, R = .inr (tX, c) ∧ r = nI c)
noncomputable def PXtown (R : Nat ⊕ (TA × Nat)) (tA : TA) (r : Int32) (tN : TA) : Prop := (∃ e, R = .inl e ∧ r = -20 - nI e ∧ tN = tA) ∨ (∃ c, R = .inr (tN, c) ∧ r = nI c)
theorem rf_e {F : Nat → Int32} {z n j : Nat} {l : TK} {tJ tX tY : TA} {R : Nat ⊕ (TA × Nat)} {r iY : Int32} {s : TK} (hR : plp F z (n + 1) l tJ j = R) (h : CH iY (pstm F z l tJ) (s, tY)) (hn : ¬ iY = -1) : RFP R r iY tX := by
  rcases h with ⟨e, h1, h2, h3⟩ | ⟨h1, _⟩
  · exact Or.inl ⟨e, by rw [← hR, plp_e h1], h2, h3⟩
  · exact absurd h1 hn
theorem rf_in {F : Nat → Int32} {z : Nat} {l s : TK} {tJ tY : TA} {iY : Int32} (h : CH iY (pstm F z l tJ) (s, tY)) (e : iY = -1) : pstm F z l tJ = .inr (s, tY) := by
  rcases h with ⟨a, h1, h2, h3⟩ | ⟨_, h2⟩
  · exact absurd (h2.symm.trans e) (nI_ne1' (by omega))
  · exact h2
theorem rf_0 {F : Nat → Int32} {z n j a b : Nat} {l : TK} {tJ tY : TA} {R : Nat ⊕ (TA × Nat)} {iY k : Int32} (hR : plp F z (n + 1) l tJ j = R) (h : CH iY (pstm F z l tJ) ((a, k, b), tY)) (e : iY = -1) (h0 : k = 0) : RFP R (nI j) iY tY := Or.inr ⟨e, j, by rw [← hR, plp_i (rf_in h e), if_pos h0], rfl⟩
theorem rf_w {F : Nat → Int32} {z n j a b : Nat} {l : TK} {tJ tY tX : TA} {R : Nat ⊕ (TA × Nat)} {iY k r iZ : Int32} (hR : plp F z (n + 1) l tJ j = R) (h : CH iY (pstm F z l tJ) ((a, k, b), tY)) (e : iY = -1) (h0 : ¬ k = 0) (h3 : ¬ k = 3) (ha : a ≤ 250) (hZ : iZ = fal iY a) : RFP R r iZ tX := Or.inl ⟨a, by rw [← hR, plp_i (rf_in h e), if_neg h0, if_neg h3], by rw [hZ, fal_1 e], ha⟩
theorem rf_go {F : Nat → Int32} {z n j a b k1 k2 : Nat} {l : TK} {tJ tY : TA} {R : Nat ⊕ (TA × Nat)} {iY k i1 : Int32} (hR : plp F z (n + 1) l tJ j = R) (h : CH iY (pstm F z l tJ) ((a, k, b), tY)) (e : iY = -1) (h3 : k = 3) (hs : lx F z b = (k1, i1, k2)) : plp F z n (k1, i1, k2) tY (j + 1) = R := by
  rw [← hR, plp_i (rf_in h e), if_neg (by show ¬ k = 0; rw [h3]; decide), if_pos h3]
  show _ = plp F z n (lx F z b) tY (j + 1)
  rw [hs]
theorem rf_adv {f : Nat → Int32} {z kS kE a b k1 k2 : Nat} {tJ tY : TA} {iT iY k i1 : Int32} (hL : Lx f z kS iT kE) (h : CH iY (pstm (nbf f z) z (kS, iT, kE) tJ) ((a, k, b), tY)) (e : iY = -1) (hs : lx (nbf f z) z b = (k1, i1, k2)) : kS + 3 ≤ k1 := by
  have q := ps_out (l := (kS, iT, kE)) hL (rf_in h e)
  obtain ⟨h1, h2⟩ := Lx_le q.2.1
  have h3 := lx_le f h2
  have h4 : (lx (nbf f z) z b).1 = k1 := by rw [hs]
  have q1 : kS + 3 ≤ a := q.1
  have h1 : a ≤ b := h1
  have h3 : b ≤ (lx (nbf f z) z b).1 := h3.1
  omega
theorem twn_e {R : Nat ⊕ (TA × Nat)} {r iY : Int32} {tX tA : TA} (h : RFP R r iY tX) (hn : ¬ iY = -1) : PXtown R tA (-20 - iY) tA := by
  rcases h with ⟨e, h1, h2, _⟩ | ⟨h1, _⟩
  · exact Or.inl ⟨e, h1, by rw [h2], rfl⟩
  · exact absurd h1 hn
theorem twn_i {R : Nat ⊕ (TA × Nat)} {r iY : Int32} {tX tA : TA} (h : RFP R r iY tX) (e : iY = -1) : PXtown R tA r tX := by
  rcases h with ⟨a, _, h2, h3⟩ | ⟨_, c, h1, h2⟩
  · exact absurd (h2.symm.trans e) (nI_ne1' (by omega))
  · exact Or.inr ⟨c, h1, h2⟩
theorem n3_le {a b : Nat} (hb : b < 2 ^ 30) (ha : a < 2 ^ 30) (c : nI b - nI a ≤ 3) : b ≤ a + 3 := by
  rw [Int32.le_iff_toInt_le, pk_sub_toInt hb ha] at c
  have e : (3 : Int32).toInt = 3 := by decide +kernel
  rw [e] at c
  omega
theorem n3_gt {a b : Nat} (hb : b < 2 ^ 30) (ha : a < 2 ^ 30) (c : ¬ nI b - nI a ≤ 3) : ¬ b ≤ a + 3 := by
  rw [Int32.le_iff_toInt_le, pk_sub_toInt hb ha] at c
  have e : (3 : Int32).toInt = 3 := by decide +kernel
  rw [e] at c
  omega
/-! the reference's tape -/
noncomputable def LJ (f : Nat → Int32) (z a : Nat) (t : Int32) (b : Nat) (J : Int64) : Prop := Lx f z a t b ∧ (t = 2 → J = fgF f a (b - a) a 0)
theorem lj_lk {f : Nat → Int32} {z a : Nat} (ha : a ≤ z) : LJ f z (lkF f z a).1 (lkF f z a).2.1 (lkF f z a).2.2.1 (lkF f z a).2.2.2 := ⟨⟨a, ha, (lk_lx f ha).1⟩, (lk_lx f ha).2⟩
noncomputable abbrev Le1 (x : Int32) : Prop := x ≤ 1000
theorem le1_n {n : Nat} (h : n ≤ 8) : Le1 (nI n - 1) := by
  show nI n - 1 ≤ 1000
  rw [Int32.le_iff_toInt_le, show (1 : Int32) = nI 1 from rfl, pk_sub_toInt (by omega) (by omega)]
  have e : (1000 : Int32).toInt = 1000 := by decide +kernel
  rw [e]
  omega
theorem rn_1 {f : Nat → Int32} {z a b : Nat} {J : Int64} {t lo hi : Int32} (hL : LJ f z a t b J) (hhi : Le1 hi) (ht : t = 2) (h : Iv J lo.toInt64 hi.toInt64) : pnum (nbf f z) z (a, t, b) lo hi = .inr (J.toInt32, ((lkF f z b).1, (lkF f z b).2.1, (lkF f z b).2.2.1)) := by
  rw [rn_ok hL.1 hL.2 hhi ht h, (lk_lx f (Lx_le hL.1).2).1]
theorem rn_0 {f : Nat → Int32} {z a b : Nat} {J : Int64} {t lo hi : Int32} (hL : LJ f z a t b J) (h : ¬ t = 2 ∨ ¬ Iv J lo.toInt64 hi.toInt64) : ∃ e, pnum (nbf f z) z (a, t, b) lo hi = .inl e ∧ nI a = nI e ∧ e ≤ z := ⟨a, rn_no hL.1 hL.2 h, rfl, by have := Lx_le hL.1; omega⟩
/-- a word that must be there, and its number -/
noncomputable def ptl (F : Nat → Int32) (z : Nat) (l : TK) (w : List Int32) (lo hi : Int32) : Nat ⊕ (Int32 × TK) := if isW F l.1 l.2.2 l.2.1 w = true then pnum F z (lx F z l.2.2) lo hi else .inl l.1
theorem ptl_y {F : Nat → Int32} {z a b : Nat} {t lo hi : Int32} {w : List Int32} (h : isW F a b t w = true) : ptl F z (a, t, b) w lo hi = pnum F z (lx F z b) lo hi := if_pos h
theorem ptl_n {F : Nat → Int32} {z a b : Nat} {t lo hi : Int32} {w : List Int32} (h : isW F a b t w = false) : ptl F z (a, t, b) w lo hi = .inl a := if_neg (bf h)
theorem pop_y {F : Nat → Int32} {z a b : Nat} {t lo hi d : Int32} {w : List Int32} (h : isW F a b t w = true) : pop F z (a, t, b) w lo hi d = ptl F z (a, t, b) w lo hi := (if_pos h).trans (ptl_y h).symm
theorem pop_n {F : Nat → Int32} {z a b : Nat} {t lo hi d : Int32} {w : List Int32} (h : isW F a b t w = false) : pop F z (a, t, b) w lo hi d = .inr (d, (a, t, b)) := if_neg (bf h)
theorem lxk {f : Nat → Int32} {z a : Nat} (ha : a ≤ z) : lx (nbf f z) z a = ((lkF f z a).1, (lkF f z a).2.1, (lkF f z a).2.2.1) := (lk_lx f ha).1
/-- nothing stands behind the counts -/
noncomputable def ZI (t : TA) : Prop := (∀ p b, p < 8 → b < 8 → (T_np t ≤ p ∨ T_nb t ≤ b) → T_kn t p b = 0) ∧ (∀ b, b < 8 → T_nb t ≤ b → T_wh t b = false) ∧ (∀ p, p < 8 → T_np t ≤ p → T_gn t p = false)
theorem nbF_id {t : TA} (h : ∀ j, j < 8 → T_kn t j (T_nb t) = 0) : ∀ n, n ≤ 8 → nbF t n = t := by
  intro n
  induction n with
  | zero => intro _; rfl
  | succ n ih =>
    intro hn
    show T_setkn (nbF t n) (updM (T_kn (nbF t n)) n (T_nb (nbF t n)) 0) = t
    rw [ih (by omega), ← h n (by omega), updM_self]
theorem noF_id {t : TA} {p : Nat} (h : ∀ j, j < 8 → T_kn t p j = 0) : ∀ n, n ≤ 8 → noF p t n = t := by
  intro n
  induction n with
  | zero => intro _; rfl
  | succ n ih =>
    intro hn
    show T_setkn (noF p t n) (updM (T_kn (noF p t n)) p n 0) = t
    rw [ih (by omega), ← h n (by omega), updM_self]
theorem upd_upd {f : Nat → Int32} {k : Nat} {a b : Int32} : upd (upd f k a) k b = upd f k b := by
  funext i
  show (if i = k then b else if i = k then a else f i) = if i = k then b else f i
  by_cases e : i = k
  · rw [if_pos e, if_pos e]
  · rw [if_neg e, if_neg e, if_neg e]
theorem NB_id {t : TA} (hz : ZI t) (h8 : T_nb t < 8) (a : Int32) : zNB t a = T_mk (T_nb t) (T_np t) (T_sd t) (T_wh t) (T_gn t) (upd (T_wo t) (T_nb t) a) (upd (T_ne t) (T_nb t) 0) (upd (T_go t) (T_nb t) 1000) (T_ag t) (T_re t) (T_me t) (T_te t) (T_kn t) := by
  have e : nb0 t a = T_mk (T_nb t) (T_np t) (T_sd t) (T_wh t) (T_gn t) (upd (T_wo t) (T_nb t) a) (upd (T_ne t) (T_nb t) 0) (upd (T_go t) (T_nb t) 1000) (T_ag t) (T_re t) (T_me t) (T_te t) (T_kn t) := by
    unfold nb0
    rw [updB_self (hz.2.1 (T_nb t) h8 (Nat.le_refl _))]
  unfold zNB
  rw [e]
  exact nbF_id (t := T_mk (T_nb t) (T_np t) (T_sd t) (T_wh t) (T_gn t) (upd (T_wo t) (T_nb t) a) (upd (T_ne t) (T_nb t) 0) (upd (T_go t) (T_nb t) 1000) (T_ag t) (T_re t) (T_me t) (T_te t) (T_kn t)) (fun j hj => hz.1 j (T_nb t) hj h8 (Or.inr (Nat.le_refl _))) 8 (Nat.le_refl _)
theorem NO_id {t : TA} (hz : ZI t) (h8 : T_np t < 8) : zNO t = T_mk (T_nb t) (T_np t) (T_sd t) (T_wh t) (T_gn t) (T_wo t) (T_ne t) (T_go t) (T_ag t) (upd (T_re t) (T_np t) 5) (upd (T_me t) (T_np t) 5) (upd (T_te t) (T_np t) 5) (T_kn t) := by
  have e : no0 t = T_mk (T_nb t) (T_np t) (T_sd t) (T_wh t) (T_gn t) (T_wo t) (T_ne t) (T_go t) (T_ag t) (upd (T_re t) (T_np t) 5) (upd (T_me t) (T_np t) 5) (upd (T_te t) (T_np t) 5) (T_kn t) := by
    unfold no0
    rw [updB_self (hz.2.2 (T_np t) h8 (Nat.le_refl _))]
  unfold zNO
  rw [e]
  exact noF_id (t := T_mk (T_nb t) (T_np t) (T_sd t) (T_wh t) (T_gn t) (T_wo t) (T_ne t) (T_go t) (T_ag t) (upd (T_re t) (T_np t) 5) (upd (T_me t) (T_np t) 5) (upd (T_te t) (T_np t) 5) (T_kn t)) (fun j hj => hz.1 (T_np t) j h8 hj (Or.inl (Nat.le_refl _))) 8 (Nat.le_refl _)
theorem bk_ref {t t1 t2 : TA} {v g : Int32} (hz : ZI t) (h8 : T_nb t < 8) (e1 : t1 = T_setwo (zNB t 0) (upd (T_wo (zNB t 0)) (T_nb (zNB t 0)) v)) (e2 : t2 = T_setgo t1 (upd (T_go t1) (T_nb t1) g)) : T_setnb t2 (T_nb t2 + 1) = bkT t v g := by
  rw [NB_id hz h8] at e1
  subst e2
  subst e1
  show T_mk (T_nb t + 1) (T_np t) (T_sd t) (T_wh t) (T_gn t) (upd (upd (T_wo t) (T_nb t) 0) (T_nb t) v) (upd (T_ne t) (T_nb t) 0) (upd (upd (T_go t) (T_nb t) 1000) (T_nb t) g) (T_ag t) (T_re t) (T_me t) (T_te t) (T_kn t) = bkT t v g
  rw [upd_upd (f := T_wo t)]
  rfl
theorem bk_dg {t t1 : TA} {v : Int32} (hz : ZI t) (h8 : T_nb t < 8) (e1 : t1 = T_setwo (zNB t 0) (upd (T_wo (zNB t 0)) (T_nb (zNB t 0)) v)) : T_go t1 (T_nb t1) = 1000 := by
  rw [NB_id hz h8] at e1
  subst e1
  exact upd_sJ
theorem on_ref {t t1 t2 t3 t4 : TA} {v1 v2 v3 v4 : Int32} (hz : ZI t) (h8 : T_np t < 8) (e1 : t1 = T_setag (zNO t) (upd (T_ag (zNO t)) (T_np (zNO t)) v1)) (e2 : t2 = T_setre t1 (upd (T_re t1) (T_np (zNO t)) v2)) (e3 : t3 = T_setme t2 (upd (T_me t2) (T_np (zNO t)) v3)) (e4 : t4 = T_sette t3 (upd (T_te t3) (T_np (zNO t)) v4)) : T_setnp t4 (T_np t4 + 1) = zao t v1 v2 v3 v4 := by
  rw [NO_id hz h8] at e1 e2 e3 e4
  subst e4
  subst e3
  subst e2
  subst e1
  show T_mk (T_nb t) (T_np t + 1) (T_sd t) (T_wh t) (T_gn t) (T_wo t) (T_ne t) (T_go t) (upd (T_ag t) (T_np t) v1) (upd (upd (T_re t) (T_np t) 5) (T_np t) v2) (upd (upd (T_me t) (T_np t) 5) (T_np t) v3) (upd (upd (T_te t) (T_np t) 5) (T_np t) v4) (T_kn t) = zao t v1 v2 v3 v4
  rw [upd_upd, upd_upd, upd_upd]
  rfl
theorem on_d1 {t t1 : TA} {v1 : Int32} (hz : ZI t) (h8 : T_np t < 8) (e1 : t1 = T_setag (zNO t) (upd (T_ag (zNO t)) (T_np (zNO t)) v1)) : T_re t1 (T_np (zNO t)) = 5 := by
  rw [NO_id hz h8] at e1 ⊢
  subst e1
  exact upd_sJ
theorem on_d2 {t t1 t2 : TA} {v1 v2 : Int32} (hz : ZI t) (h8 : T_np t < 8) (e1 : t1 = T_setag (zNO t) (upd (T_ag (zNO t)) (T_np (zNO t)) v1)) (e2 : t2 = T_setre t1 (upd (T_re t1) (T_np (zNO t)) v2)) : T_me t2 (T_np (zNO t)) = 5 := by
  rw [NO_id hz h8] at e1 e2 ⊢
  subst e2
  subst e1
  exact upd_sJ
theorem on_d3 {t t1 t2 t3 : TA} {v1 v2 v3 : Int32} (hz : ZI t) (h8 : T_np t < 8) (e1 : t1 = T_setag (zNO t) (upd (T_ag (zNO t)) (T_np (zNO t)) v1)) (e2 : t2 = T_setre t1 (upd (T_re t1) (T_np (zNO t)) v2)) (e3 : t3 = T_setme t2 (upd (T_me t2) (T_np (zNO t)) v3)) : T_te t3 (T_np (zNO t)) = 5 := by
  rw [NO_id hz h8] at e1 e2 e3 ⊢
  subst e3
  subst e2
  subst e1
  exact upd_sJ
theorem rb_1 {v b : Int32} (n : Nat) (hn : n < 2 ^ 31) (hb : b = nI n) (h1 : 0 ≤ v) (h2 : v ≤ b) : R0 n v := by
  obtain ⟨k, hk, rfl⟩ := nI_of (Int32.not_lt.mpr h1)
  refine ⟨k, ?_, rfl⟩
  rw [hb, Int32.le_iff_toInt_le, nI_toInt hk, nI_toInt hn] at h2
  omega
noncomputable def WI (t : TA) : Prop := TI t ∧ ZI t ∧ AI t
theorem kn_ne {K : Nat → Nat → Int32} {p b p' b' : Nat} {v : Int32} (h : p' = p → b' = b → v = K p' b') : updM K p b v p' b' = K p' b' := by
  show (if p' = p then upd (K p) b v else K p') b' = _
  by_cases e : p' = p
  · rw [if_pos e]
    subst e
    show (if b' = b then v else K p' b') = _
    by_cases e2 : b' = b
    · rw [if_pos e2]
      exact h rfl e2
    · rw [if_neg e2]
  · rw [if_neg e]
theorem pso_WI {t t' : TA} (h : PSO t t') (hw : WI t) : WI t' := by
  obtain ⟨hT, hz, hA⟩ := hw
  rcases h with ⟨w, g, h1, hg, rfl⟩ | ⟨b, n, _, _, rfl⟩ | ⟨a, r, k, e, h1, ha, hr, hk, he, rfl⟩ | ⟨p, b, v, hp, hb, hv, rfl⟩ | ⟨b, hb, rfl⟩
  · refine ⟨TI_mk ⟨h1, hT.1.2⟩ hT.2.1 (r_upd (r_upd hT.2.2.1 ⟨1000, by omega, rfl⟩) (rb_1 1000 (by decide +kernel) rfl hg.1 hg.2)) hT.2.2.2.1 hT.2.2.2.2.1 hT.2.2.2.2.2, ⟨fun p b hp hb q => hz.1 p b hp hb (q.imp id (fun q => Nat.le_of_succ_le q)), fun b hb q => hz.2.1 b hb (Nat.le_of_succ_le q), hz.2.2⟩, hA⟩
  · exact ⟨TI_ne hT _, hz, hA⟩
  · refine ⟨TI_mk ⟨hT.1.1, h1⟩ hT.2.1 hT.2.2.1 (r_upd hT.2.2.2.1 (rb_1 10 (by decide +kernel) rfl hr.1 hr.2)) (r_upd hT.2.2.2.2.1 (rb_1 10 (by decide +kernel) rfl hk.1 hk.2)) (r_upd hT.2.2.2.2.2 (rb_1 10 (by decide +kernel) rfl he.1 he.2)), ⟨fun p b hp hb q => hz.1 p b hp hb (q.imp (fun q => Nat.le_of_succ_le q) id), hz.2.1, fun p hp q => hz.2.2 p hp (Nat.le_of_succ_le q)⟩, fun p hp hg => ?_⟩
    show R0 9 (if p = T_np t then a else T_ag t p)
    by_cases e9 : p = T_np t
    · rw [if_pos e9]
      exact rb_1 9 (by decide +kernel) rfl ha.1 ha.2
    · rw [if_neg e9]
      have hp : p < T_np t + 1 := hp
      exact hA p (by omega) hg
  · obtain ⟨k, hk, rfl⟩ := tk_in hT.1.2 hp.1 hp.2
    obtain ⟨m, hm, rfl⟩ := tk_in hT.1.1 hb.1 hb.2
    have n1 := hT.1.1
    have n2 := hT.1.2
    rw [knT_nI (by omega) (by omega)]
    refine ⟨TI_kn hT (rb_1 1000 (by decide +kernel) rfl hv.1 hv.2), ⟨fun p b hp hb q => ?_, hz.2⟩, hA⟩
    have q : T_np t ≤ p ∨ T_nb t ≤ b := q
    show updM (T_kn t) k m v p b = 0
    rw [kn_ne (fun e1 e2 => by omega)]
    exact hz.1 p b hp hb q
  · obtain ⟨m, hm, rfl⟩ := tk_in hT.1.1 hb.1 hb.2
    have n1 := hT.1.1
    rw [whT_nI (by omega)]
    refine ⟨TI_wh hT _, ⟨hz.1, fun b hb q => ?_, hz.2.2⟩, hA⟩
    have q : T_nb t ≤ b := q
    show updB (T_wh t) m true b = false
    rw [ub_n (by omega)]
    exact hz.2.1 b hb q
theorem ex_imp {α β : Type} {X : Nat ⊕ α} {Y : Nat ⊕ β} {iY : Int32} {z : Nat} (h : ∃ e, X = .inl e ∧ iY = nI e ∧ e ≤ z) (k : ∀ e, X = .inl e → Y = .inl e) : ∃ e, Y = .inl e ∧ iY = nI e ∧ e ≤ z := by
  obtain ⟨e, h1, h2, h3⟩ := h
  exact ⟨e, k e h1, h2, h3⟩
section PS
variable {F : Nat → Int32} {z a b : Nat} {k : Int32} {t : TA}
theorem pb_i {α β : Type} {x : Nat ⊕ α} {K : α → Nat ⊕ β} {v : α} (h : x = .inr v) : pbd x K = K v := by rw [h]; rfl
theorem pb_e {α β : Type} {x : Nat ⊕ α} {K : α → Nat ⊕ β} {e : Nat} (h : x = .inl e) : pbd x K = .inl e := by rw [h]; rfl
theorem pw_e {lo hi : Int32} {w : List Int32} {e : Nat} (h1 : isW F a b k w = true) (hp : ptl F z (a, k, b) w lo hi = .inl e) : pnum F z (lx F z b) lo hi = .inl e := (ptl_y h1).symm.trans hp
theorem pk_1 {v g : Int32} {s1 s2 : TK} (h1 : isW F a b k [98, 111, 111, 107] = true) (h8 : T_nb t < 8) (hp : pnum F z (lx F z b) 1 99 = .inr (v, s1)) {d : Int32} (hd : d = 1000) (hq : pop F z s1 [103, 111, 111, 100] 0 1000 d = .inr (g, s2)) : pstm F z (a, k, b) t = .inr (s2, bkT t v g) := by
  subst hd
  rw [ps_1 h1]
  exact (if_pos h8).trans ((pb_i hp).trans (pb_i hq))
theorem pk_2 {e : Nat} (h1 : isW F a b k [98, 111, 111, 107] = true) (h8 : T_nb t < 8) (hp : pnum F z (lx F z b) 1 99 = .inl e) : pstm F z (a, k, b) t = .inl e := by
  rw [ps_1 h1]
  exact (if_pos h8).trans (pb_e hp)
theorem pk_3 {v : Int32} {s1 : TK} {e : Nat} (h1 : isW F a b k [98, 111, 111, 107] = true) (h8 : T_nb t < 8) (hp : pnum F z (lx F z b) 1 99 = .inr (v, s1)) {d : Int32} (hd : d = 1000) (hq : pop F z s1 [103, 111, 111, 100] 0 1000 d = .inl e) : pstm F z (a, k, b) t = .inl e := by
  subst hd
  rw [ps_1 h1]
  exact (if_pos h8).trans ((pb_i hp).trans (pb_e hq))
theorem pn_1 {v g : Int32} {s1 s2 : TK} (h1 : isW F a b k [98, 111, 111, 107] = false) (h2 : isW F a b k [110, 101, 101, 100] = true) (hp : pnum F z (lx F z b) 0 (nI (T_nb t) - 1) = .inr (v, s1)) (hq : pnum F z s1 0 (v - 1) = .inr (g, s2)) : pstm F z (a, k, b) t = .inr (s2, neT t v g) := by
  rw [ps_2 h1 h2]
  exact (pb_i hp).trans (pb_i hq)
theorem pn_2 {e : Nat} (h1 : isW F a b k [98, 111, 111, 107] = false) (h2 : isW F a b k [110, 101, 101, 100] = true) (hp : pnum F z (lx F z b) 0 (nI (T_nb t) - 1) = .inl e) : pstm F z (a, k, b) t = .inl e := by
  rw [ps_2 h1 h2]
  exact pb_e hp
theorem pn_3 {v : Int32} {s1 : TK} {e : Nat} (h1 : isW F a b k [98, 111, 111, 107] = false) (h2 : isW F a b k [110, 101, 101, 100] = true) (hp : pnum F z (lx F z b) 0 (nI (T_nb t) - 1) = .inr (v, s1)) (hq : pnum F z s1 0 (v - 1) = .inl e) : pstm F z (a, k, b) t = .inl e := by
  rw [ps_2 h1 h2]
  exact (pb_i hp).trans (pb_e hq)
theorem po_0 (h3 : isW F a b k [111, 110, 101] = true) : pstm F z (a, k, b) t = pOne F z (a, k, b) t := ps_3 (isW_ne h3 (by decide +kernel)) (isW_ne h3 (by decide +kernel)) h3
theorem po_1 {v1 v2 v3 v4 : Int32} {s1 s2 s3 s4 : TK} (h3 : isW F a b k [111, 110, 101] = true) (h8 : T_np t < 8) (hp : pnum F z (lx F z b) 0 9 = .inr (v1, s1)) {d2 d3 d4 : Int32} (e2 : d2 = 5) (q2 : pop F z s1 [114, 101, 97, 100, 115] 0 10 d2 = .inr (v2, s2)) (e3 : d3 = 5) (q3 : pop F z s2 [107, 101, 101, 112, 115] 0 10 d3 = .inr (v3, s3)) (e4 : d4 = 5) (q4 : pop F z s3 [116, 101, 108, 108, 115] 0 10 d4 = .inr (v4, s4)) : pstm F z (a, k, b) t = .inr (s4, zao t v1 v2 v3 v4) := by
  subst e2
  subst e3
  subst e4
  rw [po_0 h3]
  exact (if_pos h8).trans ((pb_i hp).trans ((pb_i q2).trans ((pb_i q3).trans (pb_i q4))))
theorem po_2 {e : Nat} (h3 : isW F a b k [111, 110, 101] = true) (h8 : T_np t < 8) (hp : pnum F z (lx F z b) 0 9 = .inl e) : pstm F z (a, k, b) t = .inl e := by
  rw [po_0 h3]
  exact (if_pos h8).trans (pb_e hp)
theorem po_3 {v1 : Int32} {s1 : TK} {e : Nat} (h3 : isW F a b k [111, 110, 101] = true) (h8 : T_np t < 8) (hp : pnum F z (lx F z b) 0 9 = .inr (v1, s1)) {d2 : Int32} (e2 : d2 = 5) (q2 : pop F z s1 [114, 101, 97, 100, 115] 0 10 d2 = .inl e) : pstm F z (a, k, b) t = .inl e := by
  subst e2
  rw [po_0 h3]
  exact (if_pos h8).trans ((pb_i hp).trans (pb_e q2))
theorem po_4 {v1 v2 : Int32} {s1 s2 : TK} {e : Nat} (h3 : isW F a b k [111, 110, 101] = true) (h8 : T_np t < 8) (hp : pnum F z (lx F z b) 0 9 = .inr (v1, s1)) {d2 d3 : Int32} (e2 : d2 = 5) (q2 : pop F z s1 [114, 101, 97, 100, 115] 0 10 d2 = .inr (v2, s2)) (e3 : d3 = 5) (q3 : pop F z s2 [107, 101, 101, 112, 115] 0 10 d3 = .inl e) : pstm F z (a, k, b) t = .inl e := by
  subst e2
  subst e3
  rw [po_0 h3]
  exact (if_pos h8).trans ((pb_i hp).trans ((pb_i q2).trans (pb_e q3)))
theorem po_5 {v1 v2 v3 : Int32} {s1 s2 s3 : TK} {e : Nat} (h3 : isW F a b k [111, 110, 101] = true) (h8 : T_np t < 8) (hp : pnum F z (lx F z b) 0 9 = .inr (v1, s1)) {d2 d3 d4 : Int32} (e2 : d2 = 5) (q2 : pop F z s1 [114, 101, 97, 100, 115] 0 10 d2 = .inr (v2, s2)) (e3 : d3 = 5) (q3 : pop F z s2 [107, 101, 101, 112, 115] 0 10 d3 = .inr (v3, s3)) (e4 : d4 = 5) (q4 : pop F z s3 [116, 101, 108, 108, 115] 0 10 d4 = .inl e) : pstm F z (a, k, b) t = .inl e := by
  subst e2
  subst e3
  subst e4
  rw [po_0 h3]
  exact (if_pos h8).trans ((pb_i hp).trans ((pb_i q2).trans ((pb_i q3).trans (pb_e q4))))
theorem pw_1 {v1 v2 v3 : Int32} {s1 s2 s3 : TK} (h1 : isW F a b k [98, 111, 111, 107] = false) (h2 : isW F a b k [110, 101, 101, 100] = false) (h3 : isW F a b k [111, 110, 101] = false) (h4 : isW F a b k [107, 110, 111, 119, 115] = true) (hp : pnum F z (lx F z b) 0 (nI (T_np t) - 1) = .inr (v1, s1)) (hq : pnum F z s1 0 (nI (T_nb t) - 1) = .inr (v2, s2)) (hr : pnum F z s2 0 1000 = .inr (v3, s3)) : pstm F z (a, k, b) t = .inr (s3, knT t v1 v2 v3) := by
  rw [ps_4 h1 h2 h3 h4]
  exact (pb_i hp).trans ((pb_i hq).trans (pb_i hr))
theorem pw_2 {e : Nat} (h1 : isW F a b k [98, 111, 111, 107] = false) (h2 : isW F a b k [110, 101, 101, 100] = false) (h3 : isW F a b k [111, 110, 101] = false) (h4 : isW F a b k [107, 110, 111, 119, 115] = true) (hp : pnum F z (lx F z b) 0 (nI (T_np t) - 1) = .inl e) : pstm F z (a, k, b) t = .inl e := by
  rw [ps_4 h1 h2 h3 h4]
  exact pb_e hp
theorem pw_3 {v1 : Int32} {s1 : TK} {e : Nat} (h1 : isW F a b k [98, 111, 111, 107] = false) (h2 : isW F a b k [110, 101, 101, 100] = false) (h3 : isW F a b k [111, 110, 101] = false) (h4 : isW F a b k [107, 110, 111, 119, 115] = true) (hp : pnum F z (lx F z b) 0 (nI (T_np t) - 1) = .inr (v1, s1)) (hq : pnum F z s1 0 (nI (T_nb t) - 1) = .inl e) : pstm F z (a, k, b) t = .inl e := by
  rw [ps_4 h1 h2 h3 h4]
  exact (pb_i hp).trans (pb_e hq)
theorem pw_4 {v1 v2 : Int32} {s1 s2 : TK} {e : Nat} (h1 : isW F a b k [98, 111, 111, 107] = false) (h2 : isW F a b k [110, 101, 101, 100] = false) (h3 : isW F a b k [111, 110, 101] = false) (h4 : isW F a b k [107, 110, 111, 119, 115] = true) (hp : pnum F z (lx F z b) 0 (nI (T_np t) - 1) = .inr (v1, s1)) (hq : pnum F z s1 0 (nI (T_nb t) - 1) = .inr (v2, s2)) (hr : pnum F z s2 0 1000 = .inl e) : pstm F z (a, k, b) t = .inl e := by
  rw [ps_4 h1 h2 h3 h4]
  exact (pb_i hp).trans ((pb_i hq).trans (pb_e hr))
theorem ph_1 {v : Int32} {s1 : TK} (h1 : isW F a b k [98, 111, 111, 107] = false) (h2 : isW F a b k [110, 101, 101, 100] = false) (h3 : isW F a b k [111, 110, 101] = false) (h4 : isW F a b k [107, 110, 111, 119, 115] = false) (h5 : isW F a b k [119, 104, 105, 116, 101] = true) (hp : pnum F z (lx F z b) 0 (nI (T_nb t) - 1) = .inr (v, s1)) : pstm F z (a, k, b) t = .inr (s1, whT t v) := by
  rw [ps_5 h1 h2 h3 h4 h5]
  exact pb_i hp
theorem ph_2 {e : Nat} (h1 : isW F a b k [98, 111, 111, 107] = false) (h2 : isW F a b k [110, 101, 101, 100] = false) (h3 : isW F a b k [111, 110, 101] = false) (h4 : isW F a b k [107, 110, 111, 119, 115] = false) (hp : ptl F z (a, k, b) [119, 104, 105, 116, 101] 0 (nI (T_nb t) - 1) = .inl e) : pstm F z (a, k, b) t = .inl e := by
  cases h5 : isW F a b k [119, 104, 105, 116, 101] with
  | true =>
    rw [ps_5 h1 h2 h3 h4 h5]
    exact pb_e (pw_e h5 hp)
  | false =>
    rw [ps_6 h1 h2 h3 h4 h5]
    exact congrArg Sum.inl (Sum.inl.inj ((ptl_n h5).symm.trans hp))
theorem ph_3 {lo hi : Int32} {e : Nat} (h1 : isW F a b k [98, 111, 111, 107] = true) (h8 : ¬ T_nb t < 8) (hp : ptl F z (a, k, b) [119, 104, 105, 116, 101] lo hi = .inl e) : pstm F z (a, k, b) t = .inl e := by
  rw [ps_1 h1]
  exact (if_neg h8).trans (congrArg Sum.inl (Sum.inl.inj ((ptl_n (isW_ne h1 (by decide +kernel))).symm.trans hp)))
theorem ph_4 {lo hi : Int32} {e : Nat} (h1 : isW F a b k [111, 110, 101] = true) (h8 : ¬ T_np t < 8) (hp : ptl F z (a, k, b) [119, 104, 105, 116, 101] lo hi = .inl e) : pstm F z (a, k, b) t = .inl e := by
  rw [po_0 h1]
  exact (if_neg h8).trans (congrArg Sum.inl (Sum.inl.inj ((ptl_n (isW_ne h1 (by decide +kernel))).symm.trans hp)))
end PS
/-- the whole text: the reference's answer -/
theorem ra_go {F : Nat → Int32} {z n c a b k1 k2 : Nat} {s1 : TK} {k i1 : Int32} {tJ t' : TA} {R : Nat ⊕ (TA × Nat)} (hR : R = if k = 0 then .inr (tJ, c) else if k = 3 then plp F z (n + 1) (lx F z b) tJ (c + 1) else .inl a) (h3 : k = 3) (hs : lx F z b = (k1, i1, k2)) (hp : pstm F z (k1, i1, k2) tJ = .inr (s1, t')) : R = if s1.2.1 = 0 then .inr (t', c + 1) else if s1.2.1 = 3 then plp F z n (lx F z s1.2.2) t' (c + 1 + 1) else .inl s1.1 := by
  rw [hR, if_neg (by rw [h3]; decide), if_pos h3, hs, plp_i hp]
theorem ra_ge {F : Nat → Int32} {z n c a b k1 k2 e : Nat} {k i1 : Int32} {tJ : TA} {R : Nat ⊕ (TA × Nat)} (hR : R = if k = 0 then .inr (tJ, c) else if k = 3 then plp F z (n + 1) (lx F z b) tJ (c + 1) else .inl a) (h3 : k = 3) (hs : lx F z b = (k1, i1, k2)) (hp : pstm F z (k1, i1, k2) tJ = .inl e) : R = .inl e := by
  rw [hR, if_neg (by rw [h3]; decide), if_pos h3, hs, plp_e hp]
theorem ra_0 {F : Nat → Int32} {z n c a b : Nat} {k : Int32} {tJ : TA} {R : Nat ⊕ (TA × Nat)} (hR : R = if k = 0 then .inr (tJ, c) else if k = 3 then plp F z n (lx F z b) tJ (c + 1) else .inl a) (h : k = 0) : R = .inr (tJ, c) := by rw [hR, if_pos h]
theorem ra_4 {F : Nat → Int32} {z n c a b : Nat} {k : Int32} {tJ : TA} {R : Nat ⊕ (TA × Nat)} (hR : R = if k = 0 then .inr (tJ, c) else if k = 3 then plp F z n (lx F z b) tJ (c + 1) else .inl a) (h : ¬ k = 0) (h3 : ¬ k = 3) : R = .inl a := by rw [hR, if_neg h, if_neg h3]
theorem ra_in {F : Nat → Int32} {z a b a1 b1 : Nat} {k k1 : Int32} {t t' : TA} (h0 : lx F z 0 = (a, k, b)) (hp : pstm F z (a, k, b) t = .inr ((a1, k1, b1), t')) : pall F z t = if k1 = 0 then .inr (t', 1) else if k1 = 3 then plp F z (250 - 1) (lx F z b1) t' (1 + 1) else .inl a1 := by
  unfold pall
  rw [h0, show (250 : Nat) = (250 - 1) + 1 from rfl, plp_i hp]
theorem ra_ie {F : Nat → Int32} {z a b e : Nat} {k : Int32} {t : TA} (h0 : lx F z 0 = (a, k, b)) (hp : pstm F z (a, k, b) t = .inl e) : pall F z t = .inl e := by
  unfold pall
  rw [h0, show (250 : Nat) = 249 + 1 from rfl, plp_e hp]
theorem ra_q {f : Nat → Int32} {z a a1 b1 : Nat} {k1 : Int32} {t t' : TA} (ha : a ≤ z) (hp : pstm (nbf f z) z ((lkF f z a).1, (lkF f z a).2.1, (lkF f z a).2.2.1) t = .inr ((a1, k1, b1), t')) : a + 3 ≤ a1 := by
  have q := ps_out (l := ((lkF f z a).1, (lkF f z a).2.1, (lkF f z a).2.2.1)) (lj_lk ha).1 hp
  have h1 := (lk_ok f ha).1
  have q1 : (lkF f z a).1 + 3 ≤ a1 := q.1
  omega
theorem ra_w {f : Nat → Int32} {z a a1 b1 : Nat} {k1 : Int32} {t t' : TA} (ha : a ≤ z) (hw : WI t) (hp : pstm (nbf f z) z ((lkF f z a).1, (lkF f z a).2.1, (lkF f z a).2.2.1) t = .inr ((a1, k1, b1), t')) : WI t' := pso_WI (ps_out (l := ((lkF f z a).1, (lkF f z a).2.1, (lkF f z a).2.2.1)) (lj_lk ha).1 hp).2.2 hw
theorem rt_1 {R : Nat ⊕ (TA × Nat)} {iZ : Int32} {tX tA : TA} (h : ∃ c, R = .inr (tX, c) ∧ iZ = nI c) : PXtown R tA iZ tX := Or.inr h
theorem rt_0 {R : Nat ⊕ (TA × Nat)} {iY : Int32} {tA : TA} {z : Nat} (h : ∃ e, R = .inl e ∧ iY = nI e ∧ e ≤ z) : PXtown R tA (-20 - iY) tA := by
  obtain ⟨e, h1, h2, _⟩ := h
  exact Or.inl ⟨e, h1, by rw [h2], rfl⟩
end
