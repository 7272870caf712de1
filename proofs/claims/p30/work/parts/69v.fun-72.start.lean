section
set_option maxHeartbeats 4000000 in
set_option maxRecDepth 100000 in
theorem x_X6_rows0 (l : Launch) (G : va_G) (cy : Nat → ClassId) (sz : Nat) (qm : Nat) (qmh : Nat) (qmo : Nat) (qmz : Nat) (qmR : Nat) (qmv : Nat) (qmk : Nat) (qma : Nat) (qmt : Nat) (kZ : Nat) (qmr : Nat) (tA : TA) (qmB : Nat) (qmO : Nat) (qmK : Nat) (iEn : Int32) (iTk : Int32) (uP : UM) (uU : UM) (kAt : Nat) (iTo : Int32) (iFr : Int32) (JFi : Int64) (iFa : Int32) (qm3 : Nat) (iSt : Int32) (iLv : Int32) (iWs : Int32) (vLa : Value) (qmu : Nat) (qmy : Nat) (qmb : Nat) (qms : Nat) (iOm : Int32) (rB : Nat → Nat) (rO : Nat → Nat) (rK : Nat → Nat) (fMu : Nat → Int32) (fMy : Nat → Int32) (fMb : Nat → Int32) (uS0 : UM) (uS1 : UM) (uS2 : UM) (uS3 : UM) (uS4 : UM) (kI : Nat) (kM : Nat) (kU : Nat)  (hI : kI < 8) (hM5 : kM ≤ 5) (hiM : 0 ≤ kM) (hU32 : kU < 32) (hcu : kM ≤ 0 + cu kM kU) (hB : T_nb tA ≤ 8) (hTI0 : TI tA) (hNI : NI tA) (hLE : LEq tA kI tA) (hKM : kM = (unF tA (T_nb tA)).1) (hUx : ∀ k, k < kM → fMu k = nI (unU tA k)) : MW l yX6_rowsFrom cX6_rowsFrom 8 none 11 250 4440 G cy ([zzO qm 5 (.ref qmh :: .ref qmo :: .ref qmz :: .ref qmR :: .ref qmv :: .ref qmk :: .ref qma :: .ref qmt :: .int (nI kZ) :: .ref qmr :: .int (nI (T_nb tA)) :: .ref qmB :: .int (nI (T_np tA)) :: .ref qmO :: .ref qmK :: .int iEn :: .int iTk :: .int (T_sd tA) :: ov uP :: ov uU :: .int (nI kAt) :: .int iTo :: .int iFr :: .long JFi :: .int iFa :: .ref qm3 :: .int iSt :: .int iLv :: .int iWs :: vLa :: .ref qmu :: .ref qmy :: .ref qmb :: .ref qms :: .int iOm :: []), zzG cy 3 qmB rB, zzI cy (rB 0) 4 (bkR tA 0), zzI cy (rB 1) 4 (bkR tA 1), zzI cy (rB 2) 4 (bkR tA 2), zzI cy (rB 3) 4 (bkR tA 3), zzI cy (rB 4) 4 (bkR tA 4), zzI cy (rB 5) 4 (bkR tA 5), zzI cy (rB 6) 4 (bkR tA 6), zzI cy (rB 7) 4 (bkR tA 7), zzG cy 3 qmO rO, zzI cy (rO 0) 5 (onR tA 0), zzI cy (rO 1) 5 (onR tA 1), zzI cy (rO 2) 5 (onR tA 2), zzI cy (rO 3) 5 (onR tA 3), zzI cy (rO 4) 5 (onR tA 4), zzI cy (rO 5) 5 (onR tA 5), zzI cy (rO 6) 5 (onR tA 6), zzI cy (rO 7) 5 (onR tA 7), zzG cy 3 qmK rK, zzI cy (rK 0) 8 (T_kn tA 0), zzI cy (rK 1) 8 (T_kn tA 1), zzI cy (rK 2) 8 (T_kn tA 2), zzI cy (rK 3) 8 (T_kn tA 3), zzI cy (rK 4) 8 (T_kn tA 4), zzI cy (rK 5) 8 (T_kn tA 5), zzI cy (rK 6) 8 (T_kn tA 6), zzI cy (rK 7) 8 (T_kn tA 7), zzI cy qmu 8 fMu, zzI cy qmy 5 fMy, zzI cy qmb 5 fMb, zzQ cy 5 qms 6 (sF (refU uS0) (refU uS1) (refU uS2) (refU uS3) (refU uS4))] ++ (oM cy uS0 ++ (oM cy uS1 ++ (oM cy uS2 ++ (oM cy uS3 ++ oM cy uS4))))) sz [.ref qm, .ref qm, .int (nI kI), .int 0, .int (nI kM), .int (nI kU)] (Wv G (fun u => ∃ (iNm : Int32) (fNy : Nat → Int32) (fNb : Nat → Int32) (uN0 : UM) (uN1 : UM) (uN2 : UM) (uN3 : UM) (uN4 : UM), u = ([zzO qm 5 (.ref qmh :: .ref qmo :: .ref qmz :: .ref qmR :: .ref qmv :: .ref qmk :: .ref qma :: .ref qmt :: .int (nI kZ) :: .ref qmr :: .int (nI (T_nb tA)) :: .ref qmB :: .int (nI (T_np tA)) :: .ref qmO :: .ref qmK :: .int iEn :: .int iTk :: .int (T_sd tA) :: ov uP :: ov uU :: .int (nI kAt) :: .int iTo :: .int iFr :: .long JFi :: .int iFa :: .ref qm3 :: .int iSt :: .int iLv :: .int iWs :: vLa :: .ref qmu :: .ref qmy :: .ref qmb :: .ref qms :: .int iNm :: []), zzG cy 3 qmB rB, zzI cy (rB 0) 4 (bkR tA 0), zzI cy (rB 1) 4 (bkR tA 1), zzI cy (rB 2) 4 (bkR tA 2), zzI cy (rB 3) 4 (bkR tA 3), zzI cy (rB 4) 4 (bkR tA 4), zzI cy (rB 5) 4 (bkR tA 5), zzI cy (rB 6) 4 (bkR tA 6), zzI cy (rB 7) 4 (bkR tA 7), zzG cy 3 qmO rO, zzI cy (rO 0) 5 (onR tA 0), zzI cy (rO 1) 5 (onR tA 1), zzI cy (rO 2) 5 (onR tA 2), zzI cy (rO 3) 5 (onR tA 3), zzI cy (rO 4) 5 (onR tA 4), zzI cy (rO 5) 5 (onR tA 5), zzI cy (rO 6) 5 (onR tA 6), zzI cy (rO 7) 5 (onR tA 7), zzG cy 3 qmK rK, zzI cy (rK 0) 8 (T_kn tA 0), zzI cy (rK 1) 8 (T_kn tA 1), zzI cy (rK 2) 8 (T_kn tA 2), zzI cy (rK 3) 8 (T_kn tA 3), zzI cy (rK 4) 8 (T_kn tA 4), zzI cy (rK 5) 8 (T_kn tA 5), zzI cy (rK 6) 8 (T_kn tA 6), zzI cy (rK 7) 8 (T_kn tA 7), zzI cy qmu 8 fMu, zzI cy qmy 5 fNy, zzI cy qmb 5 fNb, zzQ cy 5 qms 6 (sF (refU uN0) (refU uN1) (refU uN2) (refU uN3) (refU uN4))] ++ (oM cy uN0 ++ (oM cy uN1 ++ (oM cy uN2 ++ (oM cy uN3 ++ oM cy uN4))))) ∧ ((0 < kM → isS uN0 = true) ∧ (1 < kM → isS uN1 = true) ∧ (2 < kM → isS uN2 = true) ∧ (3 < kM → isS uN3 = true) ∧ (4 < kM → isS uN4 = true)) ∧ (ROW 0 tA kI tA kM kU fMu fMy fMb iOm fNy fNb iNm))) := by
  refine enW RX6 (by decide +kernel) rfl (Nat.le_of_ble_eq_true rfl) (fun p e s m below meth c ls A hx hb hml hown hts hr hlocks hP hN hl hin hD hA hS => ?_)
  have hin : meth.name = _ := hin
  have hK := hN.1
  replace hl : lv_has ls 8 [(0, .ref qm), (1, .ref qm), (2, .int (nI kI)), (3, .int 0), (4, .int (nI kM)), (5, .int (nI kU))] := hl
  refine lv_iload_n hx hb (g_29 bX6_rowsFrom rfl) rfl (lv_at hl 3 rfl) ?_
  refine lv_iload hx hb (g_21 (v := 4) bX6_rowsFrom rfl) (lv_at hl 4 rfl) ?_
  refine lv_icmp_ne (tgt := 97) hx hb dX6_rowsFrom_3 (by decide +kernel) (fun c_1 => ?_) (fun c_1 => ?_)
  · have hlM : 0 < kM := Nat.lt_of_le_of_ne hiM (fun q => c_1 (by rw [← q]; rfl))
    refine lv_aload_n hx hb (g_42 bX6_rowsFrom rfl) rfl (lv_at hl 0 rfl) ?_
    refine va_get (D := G) (ci := 5) (v := .ref qms) (C := RX6) (T := TX6) (N := 35) hx hb hts iX_X6 hown hK hP 0 rfl rfl 33 (by decide +kernel) (hts _ m_t883) (fun _ h9 => h9) rfl (g_180 (v := 67) bX6_rowsFrom rfl) ?_
    refine lv_iload_n hx hb (g_29 bX6_rowsFrom rfl) rfl (lv_at hl 3 rfl) ?_
    refine va_aldq hx hb hK hP 31 5 rfl rfl (in_c rfl) (g_50 bX6_rowsFrom rfl) ?_
    refine lv_setv (v := ov uS0) ((congrArg (fun z => va_rf (sF (refU uS0) (refU uS1) (refU uS2) (refU uS3) (refU uS4) z)) (show Int32.toNatClampNeg 0 = 0 by decide +kernel)).trans (rf_ov uS0)) ?_
    rcases um_or uS0 with eS_15 | ⟨qS_2, qSB_3, qSO_4, qSK_5, rSB_6, rSO_7, rSK_8, tS_9, xS_10, iEnS_11, iTkS_12, iLvS_13, iWsS_14, eS_15⟩
    · rw [eS_15] at hP hD
      have hPD := pd_as (([_, _, _, _, _, _, _, _, _, _, _, _, _, _, _, _, _, _, _, _, _, _, _, _, _, _, _, _, _, _, _, zzQ cy 5 qms 6 (sF none (refU uS1) (refU uS2) (refU uS3) (refU uS4))] : va_W) ++ (oM cy uS1 ++ (oM cy uS2 ++ (oM cy uS3 ++ oM cy uS4)))) hP hD rfl
      clear hP hD
      obtain ⟨hP, hD⟩ := hPD
      refine lv_setv (v := .null) (by rw [eS_15]; rfl) ?_
      refine lv_ifnonnullN hx hb dX6_rowsFrom_103 ?_
      refine lv_aload_n hx hb (g_42 bX6_rowsFrom rfl) rfl (lv_at hl 0 rfl) ?_
      refine va_get (D := G) (ci := 5) (v := .ref qms) (C := RX6) (T := TX6) (N := 35) hx hb hts iX_X6 hown hK hP 0 rfl rfl 33 (by decide +kernel) (hts _ m_t883) (fun _ h9 => h9) rfl (g_180 (v := 67) bX6_rowsFrom rfl) ?_
      refine lv_iload_n hx hb (g_29 bX6_rowsFrom rfl) rfl (lv_at hl 3 rfl) ?_
      refine va_new (ci := 5) (fs := (.null :: .null :: .null :: .null :: .null :: .null :: .null :: .null :: .int 0 :: .null :: .int 0 :: .null :: .int 0 :: .null :: .null :: .int 0 :: .int 0 :: .int 0 :: .null :: .null :: .int 0 :: .int 0 :: .int 0 :: .long 0 :: .int 0 :: .null :: .int 0 :: .int 0 :: .int 0 :: .null :: .null :: .null :: .null :: .null :: .int 0 :: [])) (C := RX6) (T := TX6) (N := 35) hx hb hts iX_X6 tyX6 tyX6_ok hown (hts _ m_t848) (hts _ m_t839) (hts _ m_t6) hK hP hD hS hA rfl df_X6 (Nat.le_of_ble_eq_true rfl) (Nat.le_of_ble_eq_true rfl) (g_187 (v := 8) bX6_rowsFrom rfl) (fun q_16 H => ?_)
      clear hP hD hS
      intro hP hD hS
      replace hP := va_P.swap hP
      replace hD := va_D.swap hD
      have hPD := pd_as (((_ :: _ :: _ :: _ :: _ :: _ :: _ :: _ :: _ :: _ :: _ :: _ :: _ :: _ :: _ :: _ :: _ :: _ :: _ :: _ :: _ :: _ :: _ :: _ :: _ :: _ :: _ :: _ :: _ :: _ :: _ :: _ :: zzO q_16 5 (.null :: .null :: .null :: .null :: .null :: .null :: .null :: .null :: .int 0 :: .null :: .int 0 :: .null :: .int 0 :: .null :: .null :: .int 0 :: .int 0 :: .int 0 :: .null :: .null :: .int 0 :: .int 0 :: .int 0 :: .long 0 :: .int 0 :: .null :: .int 0 :: .int 0 :: .int 0 :: .null :: .null :: .null :: .null :: .null :: .int 0 :: []) :: []) : va_W) ++ (oM cy uS1 ++ (oM cy uS2 ++ (oM cy uS3 ++ oM cy uS4)))) hP hD rfl
      clear hP hD
      obtain ⟨hP, hD⟩ := hPD
      refine W.widen (k := 1) (n := 35) (Nat.le_of_ble_eq_true rfl) (Nat.le_of_ble_eq_true rfl) ?_
      refine lv_dup hx hb (g_89 bX6_rowsFrom rfl) rfl ?_
      refine cIvQ (As := []) (rest := [.ref q_16, .int 0, .ref qms]) (b := q_16) ⟨hx, hb, hml, hown, hts⟩ (c_X6_initS l G cy (H).size q_16) L_X6_291 hN hP hD hS hA [32] (true :: true :: true :: true :: true :: true :: true :: true :: true :: true :: true :: true :: true :: true :: true :: true :: true :: true :: true :: true :: true :: true :: true :: true :: true :: true :: true :: true :: true :: true :: true :: true :: false :: []) rfl (by decide +kernel) rfl rfl ⟨Nat.le_of_ble_eq_true rfl, Nat.le_of_ble_eq_true rfl⟩ hl.1 (Nat.le_of_ble_eq_true rfl) (g_183 (v := 291) bX6_rowsFrom rfl) ⟨Nat.le_of_ble_eq_true rfl, Nat.le_of_ble_eq_true rfl⟩ (fun u_19 H locs h_18 => ?_)
      clear hP hD hS
      intro hP hD hS
      obtain ⟨qmB_20, qmO_21, qmK_22, rB_23, rO_24, rK_25, xF_26, hu9⟩ := h_18
      have hPD := pd_eqQ (((_ :: _ :: _ :: _ :: _ :: _ :: _ :: _ :: _ :: _ :: _ :: _ :: _ :: _ :: _ :: _ :: _ :: _ :: _ :: _ :: _ :: _ :: _ :: _ :: _ :: _ :: _ :: _ :: _ :: _ :: _ :: _ :: zzO q_16 5 (xF_26 0 :: xF_26 1 :: xF_26 2 :: xF_26 3 :: xF_26 4 :: xF_26 5 :: xF_26 6 :: xF_26 7 :: xF_26 8 :: xF_26 9 :: .int (nI (T_nb T0)) :: .ref qmB_20 :: .int (nI (T_np T0)) :: .ref qmO_21 :: .ref qmK_22 :: .int 0 :: .int 0 :: .int (T_sd T0) :: xF_26 18 :: xF_26 19 :: xF_26 20 :: xF_26 21 :: xF_26 22 :: xF_26 23 :: xF_26 24 :: xF_26 25 :: xF_26 26 :: .int 0 :: .int 0 :: xF_26 29 :: xF_26 30 :: xF_26 31 :: xF_26 32 :: xF_26 33 :: xF_26 34 :: []) :: zzG cy 3 qmB_20 rB_23 :: zzI cy (rB_23 0) 4 (bkR T0 0) :: zzI cy (rB_23 1) 4 (bkR T0 1) :: zzI cy (rB_23 2) 4 (bkR T0 2) :: zzI cy (rB_23 3) 4 (bkR T0 3) :: zzI cy (rB_23 4) 4 (bkR T0 4) :: zzI cy (rB_23 5) 4 (bkR T0 5) :: zzI cy (rB_23 6) 4 (bkR T0 6) :: zzI cy (rB_23 7) 4 (bkR T0 7) :: zzG cy 3 qmO_21 rO_24 :: zzI cy (rO_24 0) 5 (onR T0 0) :: zzI cy (rO_24 1) 5 (onR T0 1) :: zzI cy (rO_24 2) 5 (onR T0 2) :: zzI cy (rO_24 3) 5 (onR T0 3) :: zzI cy (rO_24 4) 5 (onR T0 4) :: zzI cy (rO_24 5) 5 (onR T0 5) :: zzI cy (rO_24 6) 5 (onR T0 6) :: zzI cy (rO_24 7) 5 (onR T0 7) :: zzG cy 3 qmK_22 rK_25 :: zzI cy (rK_25 0) 8 (T_kn T0 0) :: zzI cy (rK_25 1) 8 (T_kn T0 1) :: zzI cy (rK_25 2) 8 (T_kn T0 2) :: zzI cy (rK_25 3) 8 (T_kn T0 3) :: zzI cy (rK_25 4) 8 (T_kn T0 4) :: zzI cy (rK_25 5) 8 (T_kn T0 5) :: zzI cy (rK_25 6) 8 (T_kn T0 6) :: zzI cy (rK_25 7) 8 (T_kn T0 7) :: []) : va_W) ++ (oM cy uS1 ++ (oM cy uS2 ++ (oM cy uS3 ++ oM cy uS4)))) hP hD hu9 rfl
      clear hP hD hu9
      obtain ⟨hP, hD⟩ := hPD
      refine W.widen (k := 50) (n := 888) (Nat.le_of_ble_eq_true rfl) (Nat.le_of_ble_eq_true rfl) ?_
      refine va_astq hx hb hK hP hD hS 31 5 32 5 rfl rfl rfl rfl (in_c rfl) (g_83 bX6_rowsFrom rfl) (fun H locs => ?_)
      clear hP hD hS
      intro hP hD hS
      rw [show Int32.toNatClampNeg 0 = 0 by decide +kernel] at hP hD
      rw [su_0] at hP hD
      have hPD := pd_as (((_ :: _ :: _ :: _ :: _ :: _ :: _ :: _ :: _ :: _ :: _ :: _ :: _ :: _ :: _ :: _ :: _ :: _ :: _ :: _ :: _ :: _ :: _ :: _ :: _ :: _ :: _ :: _ :: _ :: _ :: _ :: zzQ cy 5 qms 6 (sF (some q_16) (refU uS1) (refU uS2) (refU uS3) (refU uS4)) :: _ :: _ :: _ :: _ :: _ :: _ :: _ :: _ :: _ :: _ :: _ :: _ :: _ :: _ :: _ :: _ :: _ :: _ :: _ :: _ :: _ :: _ :: _ :: _ :: _ :: _ :: _ :: _ :: []) : va_W) ++ (oM cy uS1 ++ (oM cy uS2 ++ (oM cy uS3 ++ oM cy uS4)))) hP hD rfl
      clear hP hD
      obtain ⟨hP, hD⟩ := hPD
      refine lv_iconst (v := 0) hx hb (g_3 bX6_rowsFrom rfl) (by decide +kernel) ?_
      refine lv_istore (lv' := [(6, .int 0), (0, .ref qm), (1, .ref qm), (2, .int (nI kI)), (3, .int 0), (4, .int (nI kM)), (5, .int (nI kU))]) hx hb (g_54 (v := 6) bX6_rowsFrom rfl) hl (by decide +kernel) rfl (fun ls => ?_)
      clear hl
      intro hl
      have lp_27 : ∀ (n_28 : Nat) (kk_30 : Nat) (tJ_31 : TA) (fY_32 : Nat → Int32) (fB_33 : Nat → Int32) (xM_34 : Int32) (iE1_35 : Int32) (iE2_36 : Int32) (uJ1_37 : UM) (uJ2_38 : UM) (uJ3_39 : UM) (uJ4_40 : UM) (xc_41 : Nat) (yc_42 : Nat), 5 - kk_30 < n_28 → kk_30 ≤ kM → LRW 0 tA kI tA kM kU fMu fMy fMb iOm kk_30 fY_32 fB_33 xM_34 → ((xc_41 = 50 ∧ yc_42 = 888 ∧ cu kk_30 kU = 0) ∨ (xc_41 = 250 ∧ yc_42 = 4440 ∧ (1 < kM → isS uJ1_37 = true) ∧ (2 < kM → isS uJ2_38 = true) ∧ (3 < kM → isS uJ3_39 = true) ∧ (4 < kM → isS uJ4_40 = true))) → ∀ (H : Heap) (locs : List Loc) (ls : Array Slot), va_P G CL ((zzO qm 5 (.ref qmh :: .ref qmo :: .ref qmz :: .ref qmR :: .ref qmv :: .ref qmk :: .ref qma :: .ref qmt :: .int (nI kZ) :: .ref qmr :: .int (nI (T_nb tA)) :: .ref qmB :: .int (nI (T_np tA)) :: .ref qmO :: .ref qmK :: .int iEn :: .int iTk :: .int (T_sd tA) :: ov uP :: ov uU :: .int (nI kAt) :: .int iTo :: .int iFr :: .long JFi :: .int iFa :: .ref qm3 :: .int iSt :: .int iLv :: .int iWs :: vLa :: .ref qmu :: .ref qmy :: .ref qmb :: .ref qms :: .int xM_34 :: []) :: zzG cy 3 qmB rB :: zzI cy (rB 0) 4 (bkR tA 0) :: zzI cy (rB 1) 4 (bkR tA 1) :: zzI cy (rB 2) 4 (bkR tA 2) :: zzI cy (rB 3) 4 (bkR tA 3) :: zzI cy (rB 4) 4 (bkR tA 4) :: zzI cy (rB 5) 4 (bkR tA 5) :: zzI cy (rB 6) 4 (bkR tA 6) :: zzI cy (rB 7) 4 (bkR tA 7) :: zzG cy 3 qmO rO :: zzI cy (rO 0) 5 (onR tA 0) :: zzI cy (rO 1) 5 (onR tA 1) :: zzI cy (rO 2) 5 (onR tA 2) :: zzI cy (rO 3) 5 (onR tA 3) :: zzI cy (rO 4) 5 (onR tA 4) :: zzI cy (rO 5) 5 (onR tA 5) :: zzI cy (rO 6) 5 (onR tA 6) :: zzI cy (rO 7) 5 (onR tA 7) :: zzG cy 3 qmK rK :: zzI cy (rK 0) 8 (T_kn tA 0) :: zzI cy (rK 1) 8 (T_kn tA 1) :: zzI cy (rK 2) 8 (T_kn tA 2) :: zzI cy (rK 3) 8 (T_kn tA 3) :: zzI cy (rK 4) 8 (T_kn tA 4) :: zzI cy (rK 5) 8 (T_kn tA 5) :: zzI cy (rK 6) 8 (T_kn tA 6) :: zzI cy (rK 7) 8 (T_kn tA 7) :: zzI cy qmu 8 fMu :: zzI cy qmy 5 fY_32 :: zzI cy qmb 5 fB_33 :: zzQ cy 5 qms 6 (sF (some q_16) (refU uJ1_37) (refU uJ2_38) (refU uJ3_39) (refU uJ4_40)) :: zzO q_16 5 (xF_26 0 :: xF_26 1 :: xF_26 2 :: xF_26 3 :: xF_26 4 :: xF_26 5 :: xF_26 6 :: xF_26 7 :: xF_26 8 :: xF_26 9 :: .int (nI (T_nb tJ_31)) :: .ref qmB_20 :: .int (nI (T_np tJ_31)) :: .ref qmO_21 :: .ref qmK_22 :: .int iE1_35 :: .int iE2_36 :: .int (T_sd tJ_31) :: xF_26 18 :: xF_26 19 :: xF_26 20 :: xF_26 21 :: xF_26 22 :: xF_26 23 :: xF_26 24 :: xF_26 25 :: xF_26 26 :: .int 0 :: .int 0 :: xF_26 29 :: xF_26 30 :: xF_26 31 :: xF_26 32 :: xF_26 33 :: xF_26 34 :: []) :: zzG cy 3 qmB_20 rB_23 :: zzI cy (rB_23 0) 4 (bkR tJ_31 0) :: zzI cy (rB_23 1) 4 (bkR tJ_31 1) :: zzI cy (rB_23 2) 4 (bkR tJ_31 2) :: zzI cy (rB_23 3) 4 (bkR tJ_31 3) :: zzI cy (rB_23 4) 4 (bkR tJ_31 4) :: zzI cy (rB_23 5) 4 (bkR tJ_31 5) :: zzI cy (rB_23 6) 4 (bkR tJ_31 6) :: zzI cy (rB_23 7) 4 (bkR tJ_31 7) :: zzG cy 3 qmO_21 rO_24 :: zzI cy (rO_24 0) 5 (onR tJ_31 0) :: zzI cy (rO_24 1) 5 (onR tJ_31 1) :: zzI cy (rO_24 2) 5 (onR tJ_31 2) :: zzI cy (rO_24 3) 5 (onR tJ_31 3) :: zzI cy (rO_24 4) 5 (onR tJ_31 4) :: zzI cy (rO_24 5) 5 (onR tJ_31 5) :: zzI cy (rO_24 6) 5 (onR tJ_31 6) :: zzI cy (rO_24 7) 5 (onR tJ_31 7) :: zzG cy 3 qmK_22 rK_25 :: zzI cy (rK_25 0) 8 (T_kn tJ_31 0) :: zzI cy (rK_25 1) 8 (T_kn tJ_31 1) :: zzI cy (rK_25 2) 8 (T_kn tJ_31 2) :: zzI cy (rK_25 3) 8 (T_kn tJ_31 3) :: zzI cy (rK_25 4) 8 (T_kn tJ_31 4) :: zzI cy (rK_25 5) 8 (T_kn tJ_31 5) :: zzI cy (rK_25 6) 8 (T_kn tJ_31 6) :: zzI cy (rK_25 7) 8 (T_kn tJ_31 7) :: []) ++ (oM cy uJ1_37 ++ (oM cy uJ2_38 ++ (oM cy uJ3_39 ++ oM cy uJ4_40)))) H → va_D A ((zzO qm 5 (.ref qmh :: .ref qmo :: .ref qmz :: .ref qmR :: .ref qmv :: .ref qmk :: .ref qma :: .ref qmt :: .int (nI kZ) :: .ref qmr :: .int (nI (T_nb tA)) :: .ref qmB :: .int (nI (T_np tA)) :: .ref qmO :: .ref qmK :: .int iEn :: .int iTk :: .int (T_sd tA) :: ov uP :: ov uU :: .int (nI kAt) :: .int iTo :: .int iFr :: .long JFi :: .int iFa :: .ref qm3 :: .int iSt :: .int iLv :: .int iWs :: vLa :: .ref qmu :: .ref qmy :: .ref qmb :: .ref qms :: .int xM_34 :: []) :: zzG cy 3 qmB rB :: zzI cy (rB 0) 4 (bkR tA 0) :: zzI cy (rB 1) 4 (bkR tA 1) :: zzI cy (rB 2) 4 (bkR tA 2) :: zzI cy (rB 3) 4 (bkR tA 3) :: zzI cy (rB 4) 4 (bkR tA 4) :: zzI cy (rB 5) 4 (bkR tA 5) :: zzI cy (rB 6) 4 (bkR tA 6) :: zzI cy (rB 7) 4 (bkR tA 7) :: zzG cy 3 qmO rO :: zzI cy (rO 0) 5 (onR tA 0) :: zzI cy (rO 1) 5 (onR tA 1) :: zzI cy (rO 2) 5 (onR tA 2) :: zzI cy (rO 3) 5 (onR tA 3) :: zzI cy (rO 4) 5 (onR tA 4) :: zzI cy (rO 5) 5 (onR tA 5) :: zzI cy (rO 6) 5 (onR tA 6) :: zzI cy (rO 7) 5 (onR tA 7) :: zzG cy 3 qmK rK :: zzI cy (rK 0) 8 (T_kn tA 0) :: zzI cy (rK 1) 8 (T_kn tA 1) :: zzI cy (rK 2) 8 (T_kn tA 2) :: zzI cy (rK 3) 8 (T_kn tA 3) :: zzI cy (rK 4) 8 (T_kn tA 4) :: zzI cy (rK 5) 8 (T_kn tA 5) :: zzI cy (rK 6) 8 (T_kn tA 6) :: zzI cy (rK 7) 8 (T_kn tA 7) :: zzI cy qmu 8 fMu :: zzI cy qmy 5 fY_32 :: zzI cy qmb 5 fB_33 :: zzQ cy 5 qms 6 (sF (some q_16) (refU uJ1_37) (refU uJ2_38) (refU uJ3_39) (refU uJ4_40)) :: zzO q_16 5 (xF_26 0 :: xF_26 1 :: xF_26 2 :: xF_26 3 :: xF_26 4 :: xF_26 5 :: xF_26 6 :: xF_26 7 :: xF_26 8 :: xF_26 9 :: .int (nI (T_nb tJ_31)) :: .ref qmB_20 :: .int (nI (T_np tJ_31)) :: .ref qmO_21 :: .ref qmK_22 :: .int iE1_35 :: .int iE2_36 :: .int (T_sd tJ_31) :: xF_26 18 :: xF_26 19 :: xF_26 20 :: xF_26 21 :: xF_26 22 :: xF_26 23 :: xF_26 24 :: xF_26 25 :: xF_26 26 :: .int 0 :: .int 0 :: xF_26 29 :: xF_26 30 :: xF_26 31 :: xF_26 32 :: xF_26 33 :: xF_26 34 :: []) :: zzG cy 3 qmB_20 rB_23 :: zzI cy (rB_23 0) 4 (bkR tJ_31 0) :: zzI cy (rB_23 1) 4 (bkR tJ_31 1) :: zzI cy (rB_23 2) 4 (bkR tJ_31 2) :: zzI cy (rB_23 3) 4 (bkR tJ_31 3) :: zzI cy (rB_23 4) 4 (bkR tJ_31 4) :: zzI cy (rB_23 5) 4 (bkR tJ_31 5) :: zzI cy (rB_23 6) 4 (bkR tJ_31 6) :: zzI cy (rB_23 7) 4 (bkR tJ_31 7) :: zzG cy 3 qmO_21 rO_24 :: zzI cy (rO_24 0) 5 (onR tJ_31 0) :: zzI cy (rO_24 1) 5 (onR tJ_31 1) :: zzI cy (rO_24 2) 5 (onR tJ_31 2) :: zzI cy (rO_24 3) 5 (onR tJ_31 3) :: zzI cy (rO_24 4) 5 (onR tJ_31 4) :: zzI cy (rO_24 5) 5 (onR tJ_31 5) :: zzI cy (rO_24 6) 5 (onR tJ_31 6) :: zzI cy (rO_24 7) 5 (onR tJ_31 7) :: zzG cy 3 qmK_22 rK_25 :: zzI cy (rK_25 0) 8 (T_kn tJ_31 0) :: zzI cy (rK_25 1) 8 (T_kn tJ_31 1) :: zzI cy (rK_25 2) 8 (T_kn tJ_31 2) :: zzI cy (rK_25 3) 8 (T_kn tJ_31 3) :: zzI cy (rK_25 4) 8 (T_kn tJ_31 4) :: zzI cy (rK_25 5) 8 (T_kn tJ_31 5) :: zzI cy (rK_25 6) 8 (T_kn tJ_31 6) :: zzI cy (rK_25 7) 8 (T_kn tJ_31 7) :: []) ++ (oM cy uJ1_37 ++ (oM cy uJ2_38 ++ (oM cy uJ3_39 ++ oM cy uJ4_40)))) → va_S A s.heap H locs → lv_has ls 8 [(6, .int (nI kk_30)), (0, .ref qm), (1, .ref qm), (2, .int (nI kI)), (3, .int 0), (4, .int (nI kM)), (5, .int (nI kU))] → W p l e (Rm 11 250 4440) s m (List.toArray (α := Value) [.ref qm, .ref qm, .int (nI kI), .int 0, .int (nI kM), .int (nI kU)]) below meth c H locs xc_41 yc_42 (MQ below ((Wv G (fun u => ∃ (iNm : Int32) (fNy : Nat → Int32) (fNb : Nat → Int32) (uN0 : UM) (uN1 : UM) (uN2 : UM) (uN3 : UM) (uN4 : UM), u = ([zzO qm 5 (.ref qmh :: .ref qmo :: .ref qmz :: .ref qmR :: .ref qmv :: .ref qmk :: .ref qma :: .ref qmt :: .int (nI kZ) :: .ref qmr :: .int (nI (T_nb tA)) :: .ref qmB :: .int (nI (T_np tA)) :: .ref qmO :: .ref qmK :: .int iEn :: .int iTk :: .int (T_sd tA) :: ov uP :: ov uU :: .int (nI kAt) :: .int iTo :: .int iFr :: .long JFi :: .int iFa :: .ref qm3 :: .int iSt :: .int iLv :: .int iWs :: vLa :: .ref qmu :: .ref qmy :: .ref qmb :: .ref qms :: .int iNm :: []), zzG cy 3 qmB rB, zzI cy (rB 0) 4 (bkR tA 0), zzI cy (rB 1) 4 (bkR tA 1), zzI cy (rB 2) 4 (bkR tA 2), zzI cy (rB 3) 4 (bkR tA 3), zzI cy (rB 4) 4 (bkR tA 4), zzI cy (rB 5) 4 (bkR tA 5), zzI cy (rB 6) 4 (bkR tA 6), zzI cy (rB 7) 4 (bkR tA 7), zzG cy 3 qmO rO, zzI cy (rO 0) 5 (onR tA 0), zzI cy (rO 1) 5 (onR tA 1), zzI cy (rO 2) 5 (onR tA 2), zzI cy (rO 3) 5 (onR tA 3), zzI cy (rO 4) 5 (onR tA 4), zzI cy (rO 5) 5 (onR tA 5), zzI cy (rO 6) 5 (onR tA 6), zzI cy (rO 7) 5 (onR tA 7), zzG cy 3 qmK rK, zzI cy (rK 0) 8 (T_kn tA 0), zzI cy (rK 1) 8 (T_kn tA 1), zzI cy (rK 2) 8 (T_kn tA 2), zzI cy (rK 3) 8 (T_kn tA 3), zzI cy (rK 4) 8 (T_kn tA 4), zzI cy (rK 5) 8 (T_kn tA 5), zzI cy (rK 6) 8 (T_kn tA 6), zzI cy (rK 7) 8 (T_kn tA 7), zzI cy qmu 8 fMu, zzI cy qmy 5 fNy, zzI cy qmb 5 fNb, zzQ cy 5 qms 6 (sF (refU uN0) (refU uN1) (refU uN2) (refU uN3) (refU uN4))] ++ (oM cy uN0 ++ (oM cy uN1 ++ (oM cy uN2 ++ (oM cy uN3 ++ oM cy uN4))))) ∧ ((0 < kM → isS uN0 = true) ∧ (1 < kM → isS uN1 = true) ∧ (2 < kM → isS uN2 = true) ∧ (3 < kM → isS uN3 = true) ∧ (4 < kM → isS uN4 = true)) ∧ (ROW 0 tA kI tA kM kU fMu fMy fMb iOm fNy fNb iNm))) A) (List.toArray (α := Value) [.ref qm, .ref qm, .int (nI kI), .int 0, .int (nI kM), .int (nI kU)]) s 250 4440 A) (F0 m 122 ls []) := by
        intro n_28
        induction n_28 with
        | zero => intro kk_30 tJ_31 fY_32 fB_33 xM_34 iE1_35 iE2_36 uJ1_37 uJ2_38 uJ3_39 uJ4_40 xc_41 yc_42 hm9; exact absurd hm9 (Nat.not_lt_zero _)
        | succ n_28 ih_29 =>
          intro kk_30 tJ_31 fY_32 fB_33 xM_34 iE1_35 iE2_36 uJ1_37 uJ2_38 uJ3_39 uJ4_40 xc_41 yc_42 hm_46 hj_43 hLR_44 hC_45 H locs ls hP hD hS hl
          refine lv_iload hx hb (g_21 (v := 6) bX6_rowsFrom rfl) (lv_at hl 0 rfl) ?_
          refine lv_iload hx hb (g_21 (v := 4) bX6_rowsFrom rfl) (lv_at hl 5 rfl) ?_
          refine lv_icmp_ge (tgt := 208) hx hb dX6_rowsFrom_126 (by decide +kernel) (fun c_47 => ?_) (fun c_47 => ?_)
          · have hlt_48 : kk_30 = kM := Nat.le_antisymm (by omega) (lp_ge rfl rfl (by omega) (by omega) c_47)
            rcases hC_45 with ⟨e_49, e_50, e_51⟩ | ⟨e_49, e_50, e_51⟩
            · rw [hlt_48] at e_51
              omega
            · subst e_49
              subst e_50
              exact endVt [(true :: true :: true :: true :: true :: true :: true :: true :: true :: true :: true :: true :: true :: true :: true :: true :: true :: true :: true :: true :: true :: true :: true :: true :: true :: true :: true :: true :: true :: true :: true :: true :: true :: true :: true :: true :: true :: true :: true :: true :: true :: true :: true :: true :: true :: true :: true :: true :: true :: true :: true :: true :: true :: true :: true :: true :: true :: true :: true :: true :: [])] hx hb hr hlocks hP hD rfl (by decide +kernel) hS ⟨xM_34, fY_32, fB_33, (some (q_16, qmB_20, qmO_21, qmK_22, rB_23, rO_24, rK_25, tJ_31, xF_26, iE1_35, iE2_36, 0, 0)), uJ1_37, uJ2_38, uJ3_39, uJ4_40, rfl, ⟨fun _ => rfl, e_51⟩, (lr_end hlM hlt_48 hLR_44)⟩ (g_177 bX6_rowsFrom rfl)
          · have hlt_52 : kk_30 < kM := lp_lt rfl rfl (by omega) (by omega) c_47
            refine lv_iload hx hb (g_21 (v := 5) bX6_rowsFrom rfl) (lv_at hl 6 rfl) ?_
            refine lv_iload hx hb (g_21 (v := 6) bX6_rowsFrom rfl) (lv_at hl 0 rfl) ?_
            refine lv_ishr hx hb (g_122 bX6_rowsFrom rfl) ?_
            refine lv_iconst (v := 1) hx hb (g_4 bX6_rowsFrom rfl) (by decide +kernel) ?_
            refine lv_iand hx hb (g_126 bX6_rowsFrom rfl) ?_
            refine lv_if_ne (tgt := 202) hx hb dX6_rowsFrom_136 (by decide +kernel) (fun c_53 => ?_) (fun c_53 => ?_)
            · refine lv_iinc (v := nI (kk_30 + 1)) (lv' := [(6, .int (nI (kk_30 + 1))), (0, .ref qm), (1, .ref qm), (2, .int (nI kI)), (3, .int 0), (4, .int (nI kM)), (5, .int (nI kU))]) hx hb dX6_rowsFrom_202 hl (k := 0) rfl (nI_1 _) (by decide +kernel) rfl (fun ls => ?_)
              clear hl
              intro hl
              refine lv_goto (tgt := 122) hx hb dX6_rowsFrom_205 (by decide +kernel) ?_
              exact ih_29 (kk_30 + 1) tJ_31 fY_32 fB_33 xM_34 iE1_35 iE2_36 uJ1_37 uJ2_38 uJ3_39 uJ4_40 xc_41 yc_42 (by omega) (by omega) (lr_skip (by omega) hLR_44 c_53) (hC_45.elim (fun q => Or.inl ⟨q.1, q.2.1, cu_set (by omega) (by omega) q.2.2 c_53⟩) Or.inr) _ _ _ hP hD hS (lv_sub hl [0, 1, 2, 3, 4, 5, 6] rfl)
            · refine lv_aload_n hx hb (g_42 bX6_rowsFrom rfl) rfl (lv_at hl 1 rfl) ?_
              refine va_get (D := G) (ci := 5) (v := .ref qms) (C := RX6) (T := TX6) (N := 35) hx hb hts iX_X6 hown hK hP 0 rfl rfl 33 (by decide +kernel) (hts _ m_t883) (fun _ h9 => h9) rfl (g_180 (v := 67) bX6_rowsFrom rfl) ?_
              refine lv_iload_n hx hb (g_29 bX6_rowsFrom rfl) rfl (lv_at hl 4 rfl) ?_
              refine va_aldq hx hb hK hP 31 5 rfl rfl (in_c rfl) (g_50 bX6_rowsFrom rfl) ?_
              refine lv_setv (v := .ref q_16) ((congrArg (fun z => va_rf (sF (some q_16) (refU uJ1_37) (refU uJ2_38) (refU uJ3_39) (refU uJ4_40) z)) (show Int32.toNatClampNeg 0 = 0 by decide +kernel)).trans rfl) ?_
              refine lv_aload_n hx hb (g_43 bX6_rowsFrom rfl) rfl (lv_at hl 2 rfl) ?_
              refine cVvQ (As := [.ref qm]) (rest := []) (b := q_16) (q := (RX6, TX6, 35)) ⟨hx, hb, hml, hown, hts⟩ (c_X6_takeFrom l G cy (H).size q_16 (xF_26 0) (xF_26 1) (xF_26 2) (xF_26 3) (xF_26 4) (xF_26 5) (xF_26 6) (xF_26 7) (xF_26 8) (xF_26 9) tJ_31 qmB_20 qmO_21 qmK_22 iE1_35 iE2_36 (xF_26 18) (xF_26 19) (xF_26 20) (xF_26 21) (xF_26 22) (xF_26 23) (xF_26 24) (xF_26 25) (xF_26 26) 0 0 (xF_26 29) (xF_26 30) (xF_26 31) (xF_26 32) (xF_26 33) (xF_26 34) rB_23 rO_24 rK_25 qm (.ref qmh) (.ref qmo) (.ref qmz) (.ref qmR) (.ref qmv) (.ref qmk) (.ref qma) (.ref qmt) (.int (nI kZ)) (.ref qmr) tA qmB qmO qmK iEn iTk (ov uP) (ov uU) (.int (nI kAt)) (.int iTo) (.int iFr) (.long JFi) (.int iFa) (.ref qm3) (.int iSt) iLv iWs vLa (.ref qmu) (.ref qmy) (.ref qmb) (.ref qms) (.int xM_34) rB rO rK) L_X6_225 hN hP hD hS hA (trueIxs [(false :: false :: false :: false :: false :: false :: false :: false :: false :: false :: false :: false :: false :: false :: false :: false :: false :: false :: false :: false :: false :: false :: false :: false :: false :: false :: false :: false :: false :: false :: false :: false :: true :: true :: true :: true :: true :: true :: true :: true :: true :: true :: true :: true :: true :: true :: true :: true :: true :: true :: true :: true :: true :: true :: true :: true :: true :: true :: true :: true :: []), [true, true, true, true, true, true, true, true, true, true, true, true, true, true, true, true, true, true, true, true, true, true, true, true, true, true, true, true]]) (false :: false :: false :: false :: false :: false :: false :: false :: false :: false :: false :: false :: false :: false :: false :: false :: false :: false :: false :: false :: false :: false :: false :: false :: false :: false :: false :: false :: true :: true :: true :: true :: false :: false :: false :: false :: false :: false :: false :: false :: false :: false :: false :: false :: false :: false :: false :: false :: false :: false :: false :: false :: false :: false :: false :: false :: false :: false :: false :: false :: []) (sels_eq rfl rfl) (by decide +kernel) rfl 32 5 rfl rfl rfl ⟨Nat.le_of_ble_eq_true rfl, Nat.le_of_ble_eq_true rfl⟩ hl.1 (Nat.le_of_ble_eq_true rfl) (g_182 (v := 225) bX6_rowsFrom rfl) ⟨by show xc_41 + 0 ≤ 250; omega, by show yc_42 + 0 ≤ 4440; omega⟩ (fun u_56 H locs h_55 => ?_)
              clear hP hD hS
              intro hP hD hS
              have hPD := pd_eqQ (((_ :: zzI cy qmy 5 fY_32 :: zzI cy qmb 5 fB_33 :: zzQ cy 5 qms 6 (sF (some q_16) (refU uJ1_37) (refU uJ2_38) (refU uJ3_39) (refU uJ4_40)) :: zzO q_16 5 (xF_26 0 :: xF_26 1 :: xF_26 2 :: xF_26 3 :: xF_26 4 :: xF_26 5 :: xF_26 6 :: xF_26 7 :: xF_26 8 :: xF_26 9 :: .int (nI (T_nb tA)) :: .ref qmB_20 :: .int (nI (T_np tA)) :: .ref qmO_21 :: .ref qmK_22 :: .int iEn :: .int iTk :: .int (T_sd tA) :: xF_26 18 :: xF_26 19 :: xF_26 20 :: xF_26 21 :: xF_26 22 :: xF_26 23 :: xF_26 24 :: xF_26 25 :: xF_26 26 :: .int 0 :: .int 0 :: xF_26 29 :: xF_26 30 :: xF_26 31 :: xF_26 32 :: xF_26 33 :: xF_26 34 :: []) :: _ :: zzI cy (rB_23 0) 4 (bkR tA 0) :: zzI cy (rB_23 1) 4 (bkR tA 1) :: zzI cy (rB_23 2) 4 (bkR tA 2) :: zzI cy (rB_23 3) 4 (bkR tA 3) :: zzI cy (rB_23 4) 4 (bkR tA 4) :: zzI cy (rB_23 5) 4 (bkR tA 5) :: zzI cy (rB_23 6) 4 (bkR tA 6) :: zzI cy (rB_23 7) 4 (bkR tA 7) :: _ :: zzI cy (rO_24 0) 5 (onR tA 0) :: zzI cy (rO_24 1) 5 (onR tA 1) :: zzI cy (rO_24 2) 5 (onR tA 2) :: zzI cy (rO_24 3) 5 (onR tA 3) :: zzI cy (rO_24 4) 5 (onR tA 4) :: zzI cy (rO_24 5) 5 (onR tA 5) :: zzI cy (rO_24 6) 5 (onR tA 6) :: zzI cy (rO_24 7) 5 (onR tA 7) :: _ :: zzI cy (rK_25 0) 8 (T_kn tA 0) :: zzI cy (rK_25 1) 8 (T_kn tA 1) :: zzI cy (rK_25 2) 8 (T_kn tA 2) :: zzI cy (rK_25 3) 8 (T_kn tA 3) :: zzI cy (rK_25 4) 8 (T_kn tA 4) :: zzI cy (rK_25 5) 8 (T_kn tA 5) :: zzI cy (rK_25 6) 8 (T_kn tA 6) :: zzI cy (rK_25 7) 8 (T_kn tA 7) :: zzO qm 5 (.ref qmh :: .ref qmo :: .ref qmz :: .ref qmR :: .ref qmv :: .ref qmk :: .ref qma :: .ref qmt :: .int (nI kZ) :: .ref qmr :: .int (nI (T_nb tA)) :: .ref qmB :: .int (nI (T_np tA)) :: .ref qmO :: .ref qmK :: .int iEn :: .int iTk :: .int (T_sd tA) :: ov uP :: ov uU :: .int (nI kAt) :: .int iTo :: .int iFr :: .long JFi :: .int iFa :: .ref qm3 :: .int iSt :: .int iLv :: .int iWs :: vLa :: .ref qmu :: .ref qmy :: .ref qmb :: .ref qms :: .int xM_34 :: []) :: _ :: _ :: _ :: _ :: _ :: _ :: _ :: _ :: _ :: _ :: _ :: _ :: _ :: _ :: _ :: _ :: _ :: _ :: _ :: _ :: _ :: _ :: _ :: _ :: _ :: _ :: _ :: []) : va_W) ++ (oM cy uJ1_37 ++ (oM cy uJ2_38 ++ (oM cy uJ3_39 ++ oM cy uJ4_40)))) hP hD h_55 rfl
              clear hP hD h_55
              obtain ⟨hP, hD⟩ := hPD
              refine lv_aload_n hx hb (g_42 bX6_rowsFrom rfl) rfl (lv_at hl 1 rfl) ?_
              refine va_get (D := G) (ci := 5) (v := .ref qms) (C := RX6) (T := TX6) (N := 35) hx hb hts iX_X6 hown hK hP 32 rfl rfl 33 (by decide +kernel) (hts _ m_t883) (fun _ h9 => h9) rfl (g_180 (v := 67) bX6_rowsFrom rfl) ?_
              refine lv_iload_n hx hb (g_29 bX6_rowsFrom rfl) rfl (lv_at hl 4 rfl) ?_
              refine va_aldq hx hb hK hP 3 5 rfl rfl (in_c rfl) (g_50 bX6_rowsFrom rfl) ?_
              refine lv_setv (v := .ref q_16) ((congrArg (fun z => va_rf (sF (some q_16) (refU uJ1_37) (refU uJ2_38) (refU uJ3_39) (refU uJ4_40) z)) (show Int32.toNatClampNeg 0 = 0 by decide +kernel)).trans rfl) ?_
              refine lv_iload_n hx hb (g_28 bX6_rowsFrom rfl) rfl (lv_at hl 3 rfl) ?_
              refine lv_aload_n hx hb (g_42 bX6_rowsFrom rfl) rfl (lv_at hl 1 rfl) ?_
              refine va_get (D := G) (ci := 5) (v := .ref qmu) (C := RX6) (T := TX6) (N := 35) hx hb hts iX_X6 hown hK hP 32 rfl rfl 30 (by decide +kernel) (hts _ m_t880) (fun _ h9 => h9) rfl (g_180 (v := 58) bX6_rowsFrom rfl) ?_
              refine lv_iload hx hb (g_21 (v := 6) bX6_rowsFrom rfl) (lv_at hl 0 rfl) ?_
              refine va_iald hx hb hK hP 0 0 rfl rfl (in8 (by omega)) (g_46 bX6_rowsFrom rfl) ?_
              refine lv_seti (v := fMu kk_30) (congrArg fMu (cl8 (by omega))) ?_
              have hk_58 := (un_in tA (T_nb tA)).2 kk_30 (by omega)
              have hk_58b : unU tA kk_30 < 8 := Nat.lt_of_lt_of_le hk_58.1 hB
              refine lv_seti (v := nI (unU tA kk_30)) (hUx kk_30 (by omega)) ?_
              refine cVvQ (As := [.int (nI kI), .int (nI (unU tA kk_30))]) (rest := []) (b := q_16) (q := (RX6, TX6, 35)) ⟨hx, hb, hml, hown, hts⟩ (c_X6_reads l G cy (H).size q_16 (xF_26 0) (xF_26 1) (xF_26 2) (xF_26 3) (xF_26 4) (xF_26 5) (xF_26 6) (xF_26 7) (xF_26 8) (xF_26 9) tA qmB_20 qmO_21 qmK_22 iEn iTk (xF_26 18) (xF_26 19) (xF_26 20) (xF_26 21) (xF_26 22) (xF_26 23) (xF_26 24) (xF_26 25) (xF_26 26) 0 0 (xF_26 29) (xF_26 30) (xF_26 31) (xF_26 32) (xF_26 33) (xF_26 34) rB_23 rO_24 rK_25 kI (unU tA kk_30) hI (by omega)) L_X6_257 hN hP hD hS hA (trueIx 0 [false, false, false, false, true, true, true, true, true, true, true, true, true, true, true, true, true, true, true, true, true, true, true, true, true, true, true, true, true, true, true, true]) (true :: true :: true :: true :: false :: false :: false :: false :: false :: false :: false :: false :: false :: false :: false :: false :: false :: false :: false :: false :: false :: false :: false :: false :: false :: false :: false :: false :: false :: false :: false :: false :: true :: true :: true :: true :: true :: true :: true :: true :: true :: true :: true :: true :: true :: true :: true :: true :: true :: true :: true :: true :: true :: true :: true :: true :: true :: true :: true :: true :: []) (sel_eq rfl rfl) (by decide +kernel) rfl 4 5 rfl rfl rfl ⟨Nat.le_of_ble_eq_true rfl, Nat.le_of_ble_eq_true rfl⟩ hl.1 (Nat.le_of_ble_eq_true rfl) (g_182 (v := 257) bX6_rowsFrom rfl) ⟨by show xc_41 + 0 ≤ 250; omega, by show yc_42 + 0 ≤ 4440; omega⟩ (fun u_62 H locs h_61 => ?_)
              clear hP hD hS
              intro hP hD hS
              have hPD := pd_eqQ (((_ :: _ :: _ :: _ :: _ :: _ :: _ :: _ :: _ :: _ :: _ :: _ :: _ :: _ :: _ :: _ :: _ :: _ :: _ :: _ :: _ :: _ :: _ :: _ :: _ :: _ :: _ :: _ :: _ :: _ :: _ :: _ :: zzO q_16 5 (xF_26 0 :: xF_26 1 :: xF_26 2 :: xF_26 3 :: xF_26 4 :: xF_26 5 :: xF_26 6 :: xF_26 7 :: xF_26 8 :: xF_26 9 :: .int (nI (T_nb (rdT tA kI (unU tA kk_30)))) :: .ref qmB_20 :: .int (nI (T_np (rdT tA kI (unU tA kk_30)))) :: .ref qmO_21 :: .ref qmK_22 :: .int iEn :: .int iTk :: .int (T_sd (rdT tA kI (unU tA kk_30))) :: xF_26 18 :: xF_26 19 :: xF_26 20 :: xF_26 21 :: xF_26 22 :: xF_26 23 :: xF_26 24 :: xF_26 25 :: xF_26 26 :: .int 0 :: .int 0 :: xF_26 29 :: xF_26 30 :: xF_26 31 :: xF_26 32 :: xF_26 33 :: xF_26 34 :: []) :: _ :: zzI cy (rB_23 0) 4 (bkR (rdT tA kI (unU tA kk_30)) 0) :: zzI cy (rB_23 1) 4 (bkR (rdT tA kI (unU tA kk_30)) 1) :: zzI cy (rB_23 2) 4 (bkR (rdT tA kI (unU tA kk_30)) 2) :: zzI cy (rB_23 3) 4 (bkR (rdT tA kI (unU tA kk_30)) 3) :: zzI cy (rB_23 4) 4 (bkR (rdT tA kI (unU tA kk_30)) 4) :: zzI cy (rB_23 5) 4 (bkR (rdT tA kI (unU tA kk_30)) 5) :: zzI cy (rB_23 6) 4 (bkR (rdT tA kI (unU tA kk_30)) 6) :: zzI cy (rB_23 7) 4 (bkR (rdT tA kI (unU tA kk_30)) 7) :: _ :: zzI cy (rO_24 0) 5 (onR (rdT tA kI (unU tA kk_30)) 0) :: zzI cy (rO_24 1) 5 (onR (rdT tA kI (unU tA kk_30)) 1) :: zzI cy (rO_24 2) 5 (onR (rdT tA kI (unU tA kk_30)) 2) :: zzI cy (rO_24 3) 5 (onR (rdT tA kI (unU tA kk_30)) 3) :: zzI cy (rO_24 4) 5 (onR (rdT tA kI (unU tA kk_30)) 4) :: zzI cy (rO_24 5) 5 (onR (rdT tA kI (unU tA kk_30)) 5) :: zzI cy (rO_24 6) 5 (onR (rdT tA kI (unU tA kk_30)) 6) :: zzI cy (rO_24 7) 5 (onR (rdT tA kI (unU tA kk_30)) 7) :: _ :: zzI cy (rK_25 0) 8 (T_kn (rdT tA kI (unU tA kk_30)) 0) :: zzI cy (rK_25 1) 8 (T_kn (rdT tA kI (unU tA kk_30)) 1) :: zzI cy (rK_25 2) 8 (T_kn (rdT tA kI (unU tA kk_30)) 2) :: zzI cy (rK_25 3) 8 (T_kn (rdT tA kI (unU tA kk_30)) 3) :: zzI cy (rK_25 4) 8 (T_kn (rdT tA kI (unU tA kk_30)) 4) :: zzI cy (rK_25 5) 8 (T_kn (rdT tA kI (unU tA kk_30)) 5) :: zzI cy (rK_25 6) 8 (T_kn (rdT tA kI (unU tA kk_30)) 6) :: zzI cy (rK_25 7) 8 (T_kn (rdT tA kI (unU tA kk_30)) 7) :: []) : va_W) ++ (oM cy uJ1_37 ++ (oM cy uJ2_38 ++ (oM cy uJ3_39 ++ oM cy uJ4_40)))) hP hD h_61 rfl
              clear hP hD h_61
              obtain ⟨hP, hD⟩ := hPD
              refine lv_aload_n hx hb (g_42 bX6_rowsFrom rfl) rfl (lv_at hl 1 rfl) ?_
              refine va_get (D := G) (ci := 5) (v := .ref qmy) (C := RX6) (T := TX6) (N := 35) hx hb hts iX_X6 hown hK hP 4 rfl rfl 31 (by decide +kernel) (hts _ m_t881) (fun _ h9 => h9) rfl (g_180 (v := 61) bX6_rowsFrom rfl) ?_
              refine lv_iload_n hx hb (g_29 bX6_rowsFrom rfl) rfl (lv_at hl 4 rfl) ?_
              refine lv_aload_n hx hb (g_42 bX6_rowsFrom rfl) rfl (lv_at hl 1 rfl) ?_
              refine va_get (D := G) (ci := 5) (v := .ref qmu) (C := RX6) (T := TX6) (N := 35) hx hb hts iX_X6 hown hK hP 4 rfl rfl 30 (by decide +kernel) (hts _ m_t880) (fun _ h9 => h9) rfl (g_180 (v := 58) bX6_rowsFrom rfl) ?_
              refine lv_iload hx hb (g_21 (v := 6) bX6_rowsFrom rfl) (lv_at hl 0 rfl) ?_
              refine va_iald hx hb hK hP 0 0 rfl rfl (in8 (by omega)) (g_46 bX6_rowsFrom rfl) ?_
              refine lv_seti (v := fMu kk_30) (congrArg fMu (cl8 (by omega))) ?_
              refine va_iast hx hb hK hP hD hS 1 0 rfl rfl (in_c rfl) (g_79 bX6_rowsFrom rfl) (fun H locs => ?_)
              clear hP hD hS
              intro hP hD hS
              have hPD := pd_as (((_ :: zzI cy qmy 5 (upd fY_32 0 (fMu kk_30)) :: _ :: _ :: _ :: _ :: _ :: _ :: _ :: _ :: _ :: _ :: _ :: _ :: _ :: _ :: _ :: _ :: _ :: _ :: _ :: _ :: _ :: _ :: _ :: _ :: _ :: _ :: _ :: _ :: _ :: _ :: _ :: _ :: _ :: _ :: _ :: _ :: _ :: _ :: _ :: _ :: _ :: _ :: _ :: _ :: _ :: _ :: _ :: _ :: _ :: _ :: _ :: _ :: _ :: _ :: _ :: _ :: _ :: _ :: []) : va_W) ++ (oM cy uJ1_37 ++ (oM cy uJ2_38 ++ (oM cy uJ3_39 ++ oM cy uJ4_40)))) hP hD rfl
              clear hP hD
              obtain ⟨hP, hD⟩ := hPD
              refine lv_aload_n hx hb (g_42 bX6_rowsFrom rfl) rfl (lv_at hl 1 rfl) ?_
              refine lv_aload_n hx hb (g_42 bX6_rowsFrom rfl) rfl (lv_at hl 1 rfl) ?_
              refine va_get (D := G) (ci := 5) (v := .ref qms) (C := RX6) (T := TX6) (N := 35) hx hb hts iX_X6 hown hK hP 4 rfl rfl 33 (by decide +kernel) (hts _ m_t883) (fun _ h9 => h9) rfl (g_180 (v := 67) bX6_rowsFrom rfl) ?_
              refine lv_iload_n hx hb (g_29 bX6_rowsFrom rfl) rfl (lv_at hl 4 rfl) ?_
              refine va_aldq hx hb hK hP 3 5 rfl rfl (in_c rfl) (g_50 bX6_rowsFrom rfl) ?_
              refine lv_setv (v := .ref q_16) ((congrArg (fun z => va_rf (sF (some q_16) (refU uJ1_37) (refU uJ2_38) (refU uJ3_39) (refU uJ4_40) z)) (show Int32.toNatClampNeg 0 = 0 by decide +kernel)).trans rfl) ?_
              refine lv_iload_n hx hb (g_28 bX6_rowsFrom rfl) rfl (lv_at hl 3 rfl) ?_
              refine lv_iload_n hx hb (g_29 bX6_rowsFrom rfl) rfl (lv_at hl 4 rfl) ?_
              refine lv_iconst (v := 1) hx hb (g_4 bX6_rowsFrom rfl) (by decide +kernel) ?_
              refine lv_iadd hx hb (g_96 bX6_rowsFrom rfl) ?_
              refine lv_seti (v := 1) (by decide +kernel) ?_
              refine lv_iload hx hb (g_21 (v := 4) bX6_rowsFrom rfl) (lv_at hl 5 rfl) ?_
              refine lv_iload hx hb (g_21 (v := 5) bX6_rowsFrom rfl) (lv_at hl 6 rfl) ?_
              refine lv_iconst (v := 1) hx hb (g_4 bX6_rowsFrom rfl) (by decide +kernel) ?_
              refine lv_iload hx hb (g_21 (v := 6) bX6_rowsFrom rfl) (lv_at hl 0 rfl) ?_
              refine lv_ishl hx hb (g_120 bX6_rowsFrom rfl) ?_
              refine lv_ior hx hb (g_128 bX6_rowsFrom rfl) ?_
              have hu_63 := us_or hU32 (show kk_30 < 5 by omega) c_53
              refine lv_seti (v := nI (kU ||| 2 ^ kk_30)) hu_63.1 ?_
              have hu_63c := hu_63.2.2 kM hM5 (by omega)
              rcases hC_45 with ⟨e_64, e_65, e_66⟩ | ⟨e_64, e_65, e_66⟩
              · subst e_64
                subst e_65
                refine cVvP (As := [.ref q_16, .int (nI kI), .int 1, .int (nI kM), .int (nI (kU ||| 2 ^ kk_30))]) (rest := []) (b := qm) (q := (RX6, TX6, 35)) ⟨hx, hb, hml, hown, hts⟩ (x_X6_rows1 l G cy (H).size qm qmh qmo qmz qmR qmv qmk qma qmt kZ qmr tA qmB qmO qmK iEn iTk uP uU kAt iTo iFr JFi iFa qm3 iSt iLv iWs vLa qmu qmy qmb qms xM_34 rB fMu (upd fY_32 0 (fMu kk_30)) fB_33 (some q_16) uJ1_37 uJ2_38 uJ3_39 uJ4_40 q_16 (xF_26 0) (xF_26 1) (xF_26 2) (xF_26 3) (xF_26 4) (xF_26 5) (xF_26 6) (xF_26 7) (xF_26 8) (xF_26 9) (rdT tA kI (unU tA kk_30)) qmB_20 qmO_21 qmK_22 iEn iTk (xF_26 18) (xF_26 19) (xF_26 20) (xF_26 21) (xF_26 22) (xF_26 23) (xF_26 24) (xF_26 25) (xF_26 26) 0 0 (xF_26 29) (xF_26 30) (xF_26 31) (xF_26 32) (xF_26 33) (xF_26 34) rB_23 rO_24 rK_25 kI kM (kU ||| 2 ^ kk_30) hI hM5 (by omega) (by omega) (by omega) hB hTI0 hNI (le_rd hTI0 hLE hk_58.1 hk_58.2) hKM hUx) L_X6_326 hN hP hD hS hA (trueIxs [[false, false, false, false, true, true, true, true, true, true, true, true, true, true], (true :: true :: true :: true :: false :: false :: false :: false :: false :: false :: false :: false :: false :: false :: false :: false :: false :: false :: false :: false :: false :: false :: false :: false :: false :: false :: false :: false :: false :: false :: false :: false :: true :: true :: true :: true :: true :: true :: true :: true :: true :: true :: true :: true :: true :: true :: true :: true :: true :: true :: true :: true :: true :: true :: true :: true :: true :: true :: true :: true :: [])]) (false :: false :: false :: false :: false :: false :: false :: false :: false :: false :: false :: false :: false :: false :: true :: true :: true :: true :: true :: true :: true :: true :: true :: true :: true :: true :: true :: true :: true :: true :: true :: true :: false :: false :: false :: false :: false :: false :: false :: false :: false :: false :: false :: false :: false :: false :: false :: false :: false :: false :: false :: false :: false :: false :: false :: false :: false :: false :: false :: false :: []) (sels_eq rfl rfl) (by decide +kernel) rfl 4 5 rfl rfl rfl ⟨Nat.le_of_ble_eq_true rfl, Nat.le_of_ble_eq_true rfl⟩ hl.1 (Nat.le_of_ble_eq_true rfl) (g_182 (v := 326) bX6_rowsFrom rfl) ⟨Nat.le_of_ble_eq_true rfl, Nat.le_of_ble_eq_true rfl⟩ (fun u_69 H locs h_68 => ?_)
                clear hP hD hS
                intro hP hD hS
                obtain ⟨iNm_70, fNy_71, fNb_72, uN_73, uN_74, uN_75, uN_76, rfl, h_77, h_78⟩ := h_68
                replace hP := al_P hP
                replace hD := al_D hD
                have hPD := pd_as (((_ :: _ :: _ :: _ :: _ :: _ :: _ :: _ :: _ :: _ :: _ :: _ :: _ :: _ :: _ :: _ :: _ :: _ :: zzO qm 5 (.ref qmh :: .ref qmo :: .ref qmz :: .ref qmR :: .ref qmv :: .ref qmk :: .ref qma :: .ref qmt :: .int (nI kZ) :: .ref qmr :: .int (nI (T_nb tA)) :: .ref qmB :: .int (nI (T_np tA)) :: .ref qmO :: .ref qmK :: .int iEn :: .int iTk :: .int (T_sd tA) :: ov uP :: ov uU :: .int (nI kAt) :: .int iTo :: .int iFr :: .long JFi :: .int iFa :: .ref qm3 :: .int iSt :: .int iLv :: .int iWs :: vLa :: .ref qmu :: .ref qmy :: .ref qmb :: .ref qms :: .int iNm_70 :: []) :: _ :: _ :: _ :: _ :: _ :: _ :: _ :: _ :: _ :: _ :: zzI cy qmy 5 fNy_71 :: zzI cy qmb 5 fNb_72 :: zzQ cy 5 qms 6 (sF (some q_16) (refU uN_73) (refU uN_74) (refU uN_75) (refU uN_76)) :: _ :: _ :: _ :: _ :: _ :: _ :: _ :: _ :: _ :: _ :: _ :: _ :: _ :: _ :: _ :: _ :: _ :: _ :: _ :: _ :: _ :: _ :: _ :: _ :: _ :: _ :: _ :: _ :: []) : va_W) ++ (oM cy uN_73 ++ (oM cy uN_74 ++ (oM cy uN_75 ++ oM cy uN_76)))) hP hD rfl
                clear hP hD
                obtain ⟨hP, hD⟩ := hPD
                refine W.widen (k := 250) (n := 4440) (Nat.le_of_ble_eq_true rfl) (Nat.le_of_ble_eq_true rfl) ?_
                refine lv_iinc (v := nI (kk_30 + 1)) (lv' := [(6, .int (nI (kk_30 + 1))), (0, .ref qm), (1, .ref qm), (2, .int (nI kI)), (3, .int 0), (4, .int (nI kM)), (5, .int (nI kU))]) hx hb dX6_rowsFrom_202 hl (k := 0) rfl (nI_1 _) (by decide +kernel) rfl (fun ls => ?_)
                clear hl
                intro hl
                refine lv_goto (tgt := 122) hx hb dX6_rowsFrom_205 (by decide +kernel) ?_
                exact ih_29 (kk_30 + 1) (rdT tA kI (unU tA kk_30)) fNy_71 fNb_72 iNm_70 iEn iTk uN_73 uN_74 uN_75 uN_76 250 4440 (by omega) (by omega) (lr_call (by omega) (by omega) hLR_44 c_53 h_78) (Or.inr ⟨rfl, rfl, h_77⟩) _ _ _ (pPt hP [[false, false, false, false, false, false, false, false, false, false, false, false, false, false, false, false, false, false, true, true, true, true, true, true, true, true, true, true], (true :: true :: true :: true :: true :: true :: true :: true :: true :: true :: true :: true :: true :: true :: true :: true :: true :: true :: false :: false :: false :: false :: false :: false :: false :: false :: false :: false :: true :: true :: true :: true :: true :: true :: true :: true :: true :: true :: true :: true :: true :: true :: true :: true :: true :: true :: true :: true :: true :: true :: true :: true :: true :: true :: true :: true :: true :: true :: true :: true :: [])] rfl rfl) (dPt hD [[false, false, false, false, false, false, false, false, false, false, false, false, false, false, false, false, false, false, true, true, true, true, true, true, true, true, true, true], (true :: true :: true :: true :: true :: true :: true :: true :: true :: true :: true :: true :: true :: true :: true :: true :: true :: true :: false :: false :: false :: false :: false :: false :: false :: false :: false :: false :: true :: true :: true :: true :: true :: true :: true :: true :: true :: true :: true :: true :: true :: true :: true :: true :: true :: true :: true :: true :: true :: true :: true :: true :: true :: true :: true :: true :: true :: true :: true :: true :: [])] (by decide +kernel) rfl rfl) hS (lv_sub hl [0, 1, 2, 3, 4, 5, 6] rfl)
              · subst e_64
                subst e_65
                refine cVvP (As := [.ref q_16, .int (nI kI), .int 1, .int (nI kM), .int (nI (kU ||| 2 ^ kk_30))]) (rest := []) (b := qm) (q := (RX6, TX6, 35)) ⟨hx, hb, hml, hown, hts⟩ (x_X6_rows1r l G cy (H).size qm qmh qmo qmz qmR qmv qmk qma qmt kZ qmr tA qmB qmO qmK iEn iTk uP uU kAt iTo iFr JFi iFa qm3 iSt iLv iWs vLa qmu qmy qmb qms xM_34 rB fMu (upd fY_32 0 (fMu kk_30)) fB_33 (some q_16) uJ1_37 uJ2_38 uJ3_39 uJ4_40 q_16 (xF_26 0) (xF_26 1) (xF_26 2) (xF_26 3) (xF_26 4) (xF_26 5) (xF_26 6) (xF_26 7) (xF_26 8) (xF_26 9) (rdT tA kI (unU tA kk_30)) qmB_20 qmO_21 qmK_22 iEn iTk (xF_26 18) (xF_26 19) (xF_26 20) (xF_26 21) (xF_26 22) (xF_26 23) (xF_26 24) (xF_26 25) (xF_26 26) 0 0 (xF_26 29) (xF_26 30) (xF_26 31) (xF_26 32) (xF_26 33) (xF_26 34) rB_23 rO_24 rK_25 kI kM (kU ||| 2 ^ kk_30) hI hM5 (by omega) (by omega) (by omega) hB hTI0 hNI (le_rd hTI0 hLE hk_58.1 hk_58.2) hKM hUx e_66) L_X6_326 hN hP hD hS hA (trueIxs [[false, false, false, false, true, true, true, true, true, true, true, true, true, true], (true :: true :: true :: true :: false :: false :: false :: false :: false :: false :: false :: false :: false :: false :: false :: false :: false :: false :: false :: false :: false :: false :: false :: false :: false :: false :: false :: false :: false :: false :: false :: false :: true :: true :: true :: true :: true :: true :: true :: true :: true :: true :: true :: true :: true :: true :: true :: true :: true :: true :: true :: true :: true :: true :: true :: true :: true :: true :: true :: true :: [])]) (false :: false :: false :: false :: false :: false :: false :: false :: false :: false :: false :: false :: false :: false :: true :: true :: true :: true :: true :: true :: true :: true :: true :: true :: true :: true :: true :: true :: true :: true :: true :: true :: false :: false :: false :: false :: false :: false :: false :: false :: false :: false :: false :: false :: false :: false :: false :: false :: false :: false :: false :: false :: false :: false :: false :: false :: false :: false :: false :: false :: []) (sels_eq rfl rfl) (by decide +kernel) rfl 4 5 rfl rfl rfl ⟨Nat.le_of_ble_eq_true rfl, Nat.le_of_ble_eq_true rfl⟩ hl.1 (Nat.le_of_ble_eq_true rfl) (g_182 (v := 326) bX6_rowsFrom rfl) ⟨Nat.le_of_ble_eq_true rfl, Nat.le_of_ble_eq_true rfl⟩ (fun u_81 H locs h_80 => ?_)
                clear hP hD hS
                intro hP hD hS
                obtain ⟨iNm_82, fNy_83, fNb_84, uN_85, uN_86, uN_87, uN_88, rfl, h_89, h_90⟩ := h_80
                replace hP := al_P hP
                replace hD := al_D hD
                have hPD := pd_as (((_ :: _ :: _ :: _ :: _ :: _ :: _ :: _ :: _ :: _ :: _ :: _ :: _ :: _ :: _ :: _ :: _ :: _ :: zzO qm 5 (.ref qmh :: .ref qmo :: .ref qmz :: .ref qmR :: .ref qmv :: .ref qmk :: .ref qma :: .ref qmt :: .int (nI kZ) :: .ref qmr :: .int (nI (T_nb tA)) :: .ref qmB :: .int (nI (T_np tA)) :: .ref qmO :: .ref qmK :: .int iEn :: .int iTk :: .int (T_sd tA) :: ov uP :: ov uU :: .int (nI kAt) :: .int iTo :: .int iFr :: .long JFi :: .int iFa :: .ref qm3 :: .int iSt :: .int iLv :: .int iWs :: vLa :: .ref qmu :: .ref qmy :: .ref qmb :: .ref qms :: .int iNm_82 :: []) :: _ :: _ :: _ :: _ :: _ :: _ :: _ :: _ :: _ :: _ :: zzI cy qmy 5 fNy_83 :: zzI cy qmb 5 fNb_84 :: zzQ cy 5 qms 6 (sF (some q_16) (refU uN_85) (refU uN_86) (refU uN_87) (refU uN_88)) :: _ :: _ :: _ :: _ :: _ :: _ :: _ :: _ :: _ :: _ :: _ :: _ :: _ :: _ :: _ :: _ :: _ :: _ :: _ :: _ :: _ :: _ :: _ :: _ :: _ :: _ :: _ :: _ :: []) : va_W) ++ (oM cy uN_85 ++ (oM cy uN_86 ++ (oM cy uN_87 ++ oM cy uN_88)))) hP hD rfl
                clear hP hD
                obtain ⟨hP, hD⟩ := hPD
                refine lv_iinc (v := nI (kk_30 + 1)) (lv' := [(6, .int (nI (kk_30 + 1))), (0, .ref qm), (1, .ref qm), (2, .int (nI kI)), (3, .int 0), (4, .int (nI kM)), (5, .int (nI kU))]) hx hb dX6_rowsFrom_202 hl (k := 0) rfl (nI_1 _) (by decide +kernel) rfl (fun ls => ?_)
                clear hl
                intro hl
                refine lv_goto (tgt := 122) hx hb dX6_rowsFrom_205 (by decide +kernel) ?_
                exact ih_29 (kk_30 + 1) (rdT tA kI (unU tA kk_30)) fNy_83 fNb_84 iNm_82 iEn iTk uN_85 uN_86 uN_87 uN_88 250 4440 (by omega) (by omega) (lr_call (by omega) (by omega) hLR_44 c_53 h_90) (Or.inr ⟨rfl, rfl, h_89⟩) _ _ _ (pPt hP [[false, false, false, false, false, false, false, false, false, false, false, false, false, false, false, false, false, false, true, true, true, true, true, true, true, true, true, true], (true :: true :: true :: true :: true :: true :: true :: true :: true :: true :: true :: true :: true :: true :: true :: true :: true :: true :: false :: false :: false :: false :: false :: false :: false :: false :: false :: false :: true :: true :: true :: true :: true :: true :: true :: true :: true :: true :: true :: true :: true :: true :: true :: true :: true :: true :: true :: true :: true :: true :: true :: true :: true :: true :: true :: true :: true :: true :: true :: true :: [])] rfl rfl) (dPt hD [[false, false, false, false, false, false, false, false, false, false, false, false, false, false, false, false, false, false, true, true, true, true, true, true, true, true, true, true], (true :: true :: true :: true :: true :: true :: true :: true :: true :: true :: true :: true :: true :: true :: true :: true :: true :: true :: false :: false :: false :: false :: false :: false :: false :: false :: false :: false :: true :: true :: true :: true :: true :: true :: true :: true :: true :: true :: true :: true :: true :: true :: true :: true :: true :: true :: true :: true :: true :: true :: true :: true :: true :: true :: true :: true :: true :: true :: true :: true :: [])] (by decide +kernel) rfl rfl) hS (lv_sub hl [0, 1, 2, 3, 4, 5, 6] rfl)
      exact lp_27 ((5 - 0) + 1) 0 T0 fMy fMb iOm 0 0 uS1 uS2 uS3 uS4 50 888 (Nat.lt_succ_self _) (Nat.zero_le _) lr_0' (Or.inl ⟨rfl, rfl, rfl⟩) _ _ ls hP hD hS (lv_sub hl [0, 1, 2, 3, 4, 5, 6] rfl)
    · rw [eS_15] at hP hD
      replace hP := al_P hP
      replace hD := al_D hD
      have hPD := pd_as (((_ :: _ :: _ :: _ :: _ :: _ :: _ :: _ :: _ :: _ :: _ :: _ :: _ :: _ :: _ :: _ :: _ :: _ :: _ :: _ :: _ :: _ :: _ :: _ :: _ :: _ :: _ :: _ :: _ :: _ :: _ :: zzQ cy 5 qms 6 (sF (some qS_2) (refU uS1) (refU uS2) (refU uS3) (refU uS4)) :: zzO qS_2 5 (xS_10 0 :: xS_10 1 :: xS_10 2 :: xS_10 3 :: xS_10 4 :: xS_10 5 :: xS_10 6 :: xS_10 7 :: xS_10 8 :: xS_10 9 :: .int (nI (T_nb tS_9)) :: .ref qSB_3 :: .int (nI (T_np tS_9)) :: .ref qSO_4 :: .ref qSK_5 :: .int iEnS_11 :: .int iTkS_12 :: .int (T_sd tS_9) :: xS_10 18 :: xS_10 19 :: xS_10 20 :: xS_10 21 :: xS_10 22 :: xS_10 23 :: xS_10 24 :: xS_10 25 :: xS_10 26 :: .int iLvS_13 :: .int iWsS_14 :: xS_10 29 :: xS_10 30 :: xS_10 31 :: xS_10 32 :: xS_10 33 :: xS_10 34 :: []) :: zzG cy 3 qSB_3 rSB_6 :: zzI cy (rSB_6 0) 4 (bkR tS_9 0) :: zzI cy (rSB_6 1) 4 (bkR tS_9 1) :: zzI cy (rSB_6 2) 4 (bkR tS_9 2) :: zzI cy (rSB_6 3) 4 (bkR tS_9 3) :: zzI cy (rSB_6 4) 4 (bkR tS_9 4) :: zzI cy (rSB_6 5) 4 (bkR tS_9 5) :: zzI cy (rSB_6 6) 4 (bkR tS_9 6) :: zzI cy (rSB_6 7) 4 (bkR tS_9 7) :: zzG cy 3 qSO_4 rSO_7 :: zzI cy (rSO_7 0) 5 (onR tS_9 0) :: zzI cy (rSO_7 1) 5 (onR tS_9 1) :: zzI cy (rSO_7 2) 5 (onR tS_9 2) :: zzI cy (rSO_7 3) 5 (onR tS_9 3) :: zzI cy (rSO_7 4) 5 (onR tS_9 4) :: zzI cy (rSO_7 5) 5 (onR tS_9 5) :: zzI cy (rSO_7 6) 5 (onR tS_9 6) :: zzI cy (rSO_7 7) 5 (onR tS_9 7) :: zzG cy 3 qSK_5 rSK_8 :: zzI cy (rSK_8 0) 8 (T_kn tS_9 0) :: zzI cy (rSK_8 1) 8 (T_kn tS_9 1) :: zzI cy (rSK_8 2) 8 (T_kn tS_9 2) :: zzI cy (rSK_8 3) 8 (T_kn tS_9 3) :: zzI cy (rSK_8 4) 8 (T_kn tS_9 4) :: zzI cy (rSK_8 5) 8 (T_kn tS_9 5) :: zzI cy (rSK_8 6) 8 (T_kn tS_9 6) :: zzI cy (rSK_8 7) 8 (T_kn tS_9 7) :: []) : va_W) ++ (oM cy uS1 ++ (oM cy uS2 ++ (oM cy uS3 ++ oM cy uS4)))) hP hD rfl
      clear hP hD
      obtain ⟨hP, hD⟩ := hPD
      refine lv_setv (v := .ref qS_2) (by rw [eS_15]; rfl) ?_
      refine lv_ifnonnull (tgt := 119) hx hb dX6_rowsFrom_103 (by decide +kernel) ?_
      refine lv_iconst (v := 0) hx hb (g_3 bX6_rowsFrom rfl) (by decide +kernel) ?_
      refine lv_istore (lv' := [(6, .int 0), (0, .ref qm), (1, .ref qm), (2, .int (nI kI)), (3, .int 0), (4, .int (nI kM)), (5, .int (nI kU))]) hx hb (g_54 (v := 6) bX6_rowsFrom rfl) hl (by decide +kernel) rfl (fun ls => ?_)
      clear hl
      intro hl
      have lp_91 : ∀ (n_92 : Nat) (kk_94 : Nat) (tJ_95 : TA) (fY_96 : Nat → Int32) (fB_97 : Nat → Int32) (xM_98 : Int32) (iE1_99 : Int32) (iE2_100 : Int32) (uJ1_101 : UM) (uJ2_102 : UM) (uJ3_103 : UM) (uJ4_104 : UM) (xc_105 : Nat) (yc_106 : Nat), 5 - kk_94 < n_92 → kk_94 ≤ kM → LRW 0 tA kI tA kM kU fMu fMy fMb iOm kk_94 fY_96 fB_97 xM_98 → ((xc_105 = 0 ∧ yc_106 = 0 ∧ cu kk_94 kU = 0) ∨ (xc_105 = 200 ∧ yc_106 = 3552 ∧ (1 < kM → isS uJ1_101 = true) ∧ (2 < kM → isS uJ2_102 = true) ∧ (3 < kM → isS uJ3_103 = true) ∧ (4 < kM → isS uJ4_104 = true))) → ∀ (H : Heap) (locs : List Loc) (ls : Array Slot), va_P G CL ((zzO qm 5 (.ref qmh :: .ref qmo :: .ref qmz :: .ref qmR :: .ref qmv :: .ref qmk :: .ref qma :: .ref qmt :: .int (nI kZ) :: .ref qmr :: .int (nI (T_nb tA)) :: .ref qmB :: .int (nI (T_np tA)) :: .ref qmO :: .ref qmK :: .int iEn :: .int iTk :: .int (T_sd tA) :: ov uP :: ov uU :: .int (nI kAt) :: .int iTo :: .int iFr :: .long JFi :: .int iFa :: .ref qm3 :: .int iSt :: .int iLv :: .int iWs :: vLa :: .ref qmu :: .ref qmy :: .ref qmb :: .ref qms :: .int xM_98 :: []) :: zzG cy 3 qmB rB :: zzI cy (rB 0) 4 (bkR tA 0) :: zzI cy (rB 1) 4 (bkR tA 1) :: zzI cy (rB 2) 4 (bkR tA 2) :: zzI cy (rB 3) 4 (bkR tA 3) :: zzI cy (rB 4) 4 (bkR tA 4) :: zzI cy (rB 5) 4 (bkR tA 5) :: zzI cy (rB 6) 4 (bkR tA 6) :: zzI cy (rB 7) 4 (bkR tA 7) :: zzG cy 3 qmO rO :: zzI cy (rO 0) 5 (onR tA 0) :: zzI cy (rO 1) 5 (onR tA 1) :: zzI cy (rO 2) 5 (onR tA 2) :: zzI cy (rO 3) 5 (onR tA 3) :: zzI cy (rO 4) 5 (onR tA 4) :: zzI cy (rO 5) 5 (onR tA 5) :: zzI cy (rO 6) 5 (onR tA 6) :: zzI cy (rO 7) 5 (onR tA 7) :: zzG cy 3 qmK rK :: zzI cy (rK 0) 8 (T_kn tA 0) :: zzI cy (rK 1) 8 (T_kn tA 1) :: zzI cy (rK 2) 8 (T_kn tA 2) :: zzI cy (rK 3) 8 (T_kn tA 3) :: zzI cy (rK 4) 8 (T_kn tA 4) :: zzI cy (rK 5) 8 (T_kn tA 5) :: zzI cy (rK 6) 8 (T_kn tA 6) :: zzI cy (rK 7) 8 (T_kn tA 7) :: zzI cy qmu 8 fMu :: zzI cy qmy 5 fY_96 :: zzI cy qmb 5 fB_97 :: zzQ cy 5 qms 6 (sF (some qS_2) (refU uJ1_101) (refU uJ2_102) (refU uJ3_103) (refU uJ4_104)) :: zzO qS_2 5 (xS_10 0 :: xS_10 1 :: xS_10 2 :: xS_10 3 :: xS_10 4 :: xS_10 5 :: xS_10 6 :: xS_10 7 :: xS_10 8 :: xS_10 9 :: .int (nI (T_nb tJ_95)) :: .ref qSB_3 :: .int (nI (T_np tJ_95)) :: .ref qSO_4 :: .ref qSK_5 :: .int iE1_99 :: .int iE2_100 :: .int (T_sd tJ_95) :: xS_10 18 :: xS_10 19 :: xS_10 20 :: xS_10 21 :: xS_10 22 :: xS_10 23 :: xS_10 24 :: xS_10 25 :: xS_10 26 :: .int iLvS_13 :: .int iWsS_14 :: xS_10 29 :: xS_10 30 :: xS_10 31 :: xS_10 32 :: xS_10 33 :: xS_10 34 :: []) :: zzG cy 3 qSB_3 rSB_6 :: zzI cy (rSB_6 0) 4 (bkR tJ_95 0) :: zzI cy (rSB_6 1) 4 (bkR tJ_95 1) :: zzI cy (rSB_6 2) 4 (bkR tJ_95 2) :: zzI cy (rSB_6 3) 4 (bkR tJ_95 3) :: zzI cy (rSB_6 4) 4 (bkR tJ_95 4) :: zzI cy (rSB_6 5) 4 (bkR tJ_95 5) :: zzI cy (rSB_6 6) 4 (bkR tJ_95 6) :: zzI cy (rSB_6 7) 4 (bkR tJ_95 7) :: zzG cy 3 qSO_4 rSO_7 :: zzI cy (rSO_7 0) 5 (onR tJ_95 0) :: zzI cy (rSO_7 1) 5 (onR tJ_95 1) :: zzI cy (rSO_7 2) 5 (onR tJ_95 2) :: zzI cy (rSO_7 3) 5 (onR tJ_95 3) :: zzI cy (rSO_7 4) 5 (onR tJ_95 4) :: zzI cy (rSO_7 5) 5 (onR tJ_95 5) :: zzI cy (rSO_7 6) 5 (onR tJ_95 6) :: zzI cy (rSO_7 7) 5 (onR tJ_95 7) :: zzG cy 3 qSK_5 rSK_8 :: zzI cy (rSK_8 0) 8 (T_kn tJ_95 0) :: zzI cy (rSK_8 1) 8 (T_kn tJ_95 1) :: zzI cy (rSK_8 2) 8 (T_kn tJ_95 2) :: zzI cy (rSK_8 3) 8 (T_kn tJ_95 3) :: zzI cy (rSK_8 4) 8 (T_kn tJ_95 4) :: zzI cy (rSK_8 5) 8 (T_kn tJ_95 5) :: zzI cy (rSK_8 6) 8 (T_kn tJ_95 6) :: zzI cy (rSK_8 7) 8 (T_kn tJ_95 7) :: []) ++ (oM cy uJ1_101 ++ (oM cy uJ2_102 ++ (oM cy uJ3_103 ++ oM cy uJ4_104)))) H → va_D A ((zzO qm 5 (.ref qmh :: .ref qmo :: .ref qmz :: .ref qmR :: .ref qmv :: .ref qmk :: .ref qma :: .ref qmt :: .int (nI kZ) :: .ref qmr :: .int (nI (T_nb tA)) :: .ref qmB :: .int (nI (T_np tA)) :: .ref qmO :: .ref qmK :: .int iEn :: .int iTk :: .int (T_sd tA) :: ov uP :: ov uU :: .int (nI kAt) :: .int iTo :: .int iFr :: .long JFi :: .int iFa :: .ref qm3 :: .int iSt :: .int iLv :: .int iWs :: vLa :: .ref qmu :: .ref qmy :: .ref qmb :: .ref qms :: .int xM_98 :: []) :: zzG cy 3 qmB rB :: zzI cy (rB 0) 4 (bkR tA 0) :: zzI cy (rB 1) 4 (bkR tA 1) :: zzI cy (rB 2) 4 (bkR tA 2) :: zzI cy (rB 3) 4 (bkR tA 3) :: zzI cy (rB 4) 4 (bkR tA 4) :: zzI cy (rB 5) 4 (bkR tA 5) :: zzI cy (rB 6) 4 (bkR tA 6) :: zzI cy (rB 7) 4 (bkR tA 7) :: zzG cy 3 qmO rO :: zzI cy (rO 0) 5 (onR tA 0) :: zzI cy (rO 1) 5 (onR tA 1) :: zzI cy (rO 2) 5 (onR tA 2) :: zzI cy (rO 3) 5 (onR tA 3) :: zzI cy (rO 4) 5 (onR tA 4) :: zzI cy (rO 5) 5 (onR tA 5) :: zzI cy (rO 6) 5 (onR tA 6) :: zzI cy (rO 7) 5 (onR tA 7) :: zzG cy 3 qmK rK :: zzI cy (rK 0) 8 (T_kn tA 0) :: zzI cy (rK 1) 8 (T_kn tA 1) :: zzI cy (rK 2) 8 (T_kn tA 2) :: zzI cy (rK 3) 8 (T_kn tA 3) :: zzI cy (rK 4) 8 (T_kn tA 4) :: zzI cy (rK 5) 8 (T_kn tA 5) :: zzI cy (rK 6) 8 (T_kn tA 6) :: zzI cy (rK 7) 8 (T_kn tA 7) :: zzI cy qmu 8 fMu :: zzI cy qmy 5 fY_96 :: zzI cy qmb 5 fB_97 :: zzQ cy 5 qms 6 (sF (some qS_2) (refU uJ1_101) (refU uJ2_102) (refU uJ3_103) (refU uJ4_104)) :: zzO qS_2 5 (xS_10 0 :: xS_10 1 :: xS_10 2 :: xS_10 3 :: xS_10 4 :: xS_10 5 :: xS_10 6 :: xS_10 7 :: xS_10 8 :: xS_10 9 :: .int (nI (T_nb tJ_95)) :: .ref qSB_3 :: .int (nI (T_np tJ_95)) :: .ref qSO_4 :: .ref qSK_5 :: .int iE1_99 :: .int iE2_100 :: .int (T_sd tJ_95) :: xS_10 18 :: xS_10 19 :: xS_10 20 :: xS_10 21 :: xS_10 22 :: xS_10 23 :: xS_10 24 :: xS_10 25 :: xS_10 26 :: .int iLvS_13 :: .int iWsS_14 :: xS_10 29 :: xS_10 30 :: xS_10 31 :: xS_10 32 :: xS_10 33 :: xS_10 34 :: []) :: zzG cy 3 qSB_3 rSB_6 :: zzI cy (rSB_6 0) 4 (bkR tJ_95 0) :: zzI cy (rSB_6 1) 4 (bkR tJ_95 1) :: zzI cy (rSB_6 2) 4 (bkR tJ_95 2) :: zzI cy (rSB_6 3) 4 (bkR tJ_95 3) :: zzI cy (rSB_6 4) 4 (bkR tJ_95 4) :: zzI cy (rSB_6 5) 4 (bkR tJ_95 5) :: zzI cy (rSB_6 6) 4 (bkR tJ_95 6) :: zzI cy (rSB_6 7) 4 (bkR tJ_95 7) :: zzG cy 3 qSO_4 rSO_7 :: zzI cy (rSO_7 0) 5 (onR tJ_95 0) :: zzI cy (rSO_7 1) 5 (onR tJ_95 1) :: zzI cy (rSO_7 2) 5 (onR tJ_95 2) :: zzI cy (rSO_7 3) 5 (onR tJ_95 3) :: zzI cy (rSO_7 4) 5 (onR tJ_95 4) :: zzI cy (rSO_7 5) 5 (onR tJ_95 5) :: zzI cy (rSO_7 6) 5 (onR tJ_95 6) :: zzI cy (rSO_7 7) 5 (onR tJ_95 7) :: zzG cy 3 qSK_5 rSK_8 :: zzI cy (rSK_8 0) 8 (T_kn tJ_95 0) :: zzI cy (rSK_8 1) 8 (T_kn tJ_95 1) :: zzI cy (rSK_8 2) 8 (T_kn tJ_95 2) :: zzI cy (rSK_8 3) 8 (T_kn tJ_95 3) :: zzI cy (rSK_8 4) 8 (T_kn tJ_95 4) :: zzI cy (rSK_8 5) 8 (T_kn tJ_95 5) :: zzI cy (rSK_8 6) 8 (T_kn tJ_95 6) :: zzI cy (rSK_8 7) 8 (T_kn tJ_95 7) :: []) ++ (oM cy uJ1_101 ++ (oM cy uJ2_102 ++ (oM cy uJ3_103 ++ oM cy uJ4_104)))) → va_S A s.heap H locs → lv_has ls 8 [(6, .int (nI kk_94)), (0, .ref qm), (1, .ref qm), (2, .int (nI kI)), (3, .int 0), (4, .int (nI kM)), (5, .int (nI kU))] → W p l e (Rm 11 250 4440) s m (List.toArray (α := Value) [.ref qm, .ref qm, .int (nI kI), .int 0, .int (nI kM), .int (nI kU)]) below meth c H locs xc_105 yc_106 (MQ below ((Wv G (fun u => ∃ (iNm : Int32) (fNy : Nat → Int32) (fNb : Nat → Int32) (uN0 : UM) (uN1 : UM) (uN2 : UM) (uN3 : UM) (uN4 : UM), u = ([zzO qm 5 (.ref qmh :: .ref qmo :: .ref qmz :: .ref qmR :: .ref qmv :: .ref qmk :: .ref qma :: .ref qmt :: .int (nI kZ) :: .ref qmr :: .int (nI (T_nb tA)) :: .ref qmB :: .int (nI (T_np tA)) :: .ref qmO :: .ref qmK :: .int iEn :: .int iTk :: .int (T_sd tA) :: ov uP :: ov uU :: .int (nI kAt) :: .int iTo :: .int iFr :: .long JFi :: .int iFa :: .ref qm3 :: .int iSt :: .int iLv :: .int iWs :: vLa :: .ref qmu :: .ref qmy :: .ref qmb :: .ref qms :: .int iNm :: []), zzG cy 3 qmB rB, zzI cy (rB 0) 4 (bkR tA 0), zzI cy (rB 1) 4 (bkR tA 1), zzI cy (rB 2) 4 (bkR tA 2), zzI cy (rB 3) 4 (bkR tA 3), zzI cy (rB 4) 4 (bkR tA 4), zzI cy (rB 5) 4 (bkR tA 5), zzI cy (rB 6) 4 (bkR tA 6), zzI cy (rB 7) 4 (bkR tA 7), zzG cy 3 qmO rO, zzI cy (rO 0) 5 (onR tA 0), zzI cy (rO 1) 5 (onR tA 1), zzI cy (rO 2) 5 (onR tA 2), zzI cy (rO 3) 5 (onR tA 3), zzI cy (rO 4) 5 (onR tA 4), zzI cy (rO 5) 5 (onR tA 5), zzI cy (rO 6) 5 (onR tA 6), zzI cy (rO 7) 5 (onR tA 7), zzG cy 3 qmK rK, zzI cy (rK 0) 8 (T_kn tA 0), zzI cy (rK 1) 8 (T_kn tA 1), zzI cy (rK 2) 8 (T_kn tA 2), zzI cy (rK 3) 8 (T_kn tA 3), zzI cy (rK 4) 8 (T_kn tA 4), zzI cy (rK 5) 8 (T_kn tA 5), zzI cy (rK 6) 8 (T_kn tA 6), zzI cy (rK 7) 8 (T_kn tA 7), zzI cy qmu 8 fMu, zzI cy qmy 5 fNy, zzI cy qmb 5 fNb, zzQ cy 5 qms 6 (sF (refU uN0) (refU uN1) (refU uN2) (refU uN3) (refU uN4))] ++ (oM cy uN0 ++ (oM cy uN1 ++ (oM cy uN2 ++ (oM cy uN3 ++ oM cy uN4))))) ∧ ((0 < kM → isS uN0 = true) ∧ (1 < kM → isS uN1 = true) ∧ (2 < kM → isS uN2 = true) ∧ (3 < kM → isS uN3 = true) ∧ (4 < kM → isS uN4 = true)) ∧ (ROW 0 tA kI tA kM kU fMu fMy fMb iOm fNy fNb iNm))) A) (List.toArray (α := Value) [.ref qm, .ref qm, .int (nI kI), .int 0, .int (nI kM), .int (nI kU)]) s 250 4440 A) (F0 m 122 ls []) := by
        intro n_92
        induction n_92 with
        | zero => intro kk_94 tJ_95 fY_96 fB_97 xM_98 iE1_99 iE2_100 uJ1_101 uJ2_102 uJ3_103 uJ4_104 xc_105 yc_106 hm9; exact absurd hm9 (Nat.not_lt_zero _)
        | succ n_92 ih_93 =>
          intro kk_94 tJ_95 fY_96 fB_97 xM_98 iE1_99 iE2_100 uJ1_101 uJ2_102 uJ3_103 uJ4_104 xc_105 yc_106 hm_110 hj_107 hLR_108 hC_109 H locs ls hP hD hS hl
          refine lv_iload hx hb (g_21 (v := 6) bX6_rowsFrom rfl) (lv_at hl 0 rfl) ?_
          refine lv_iload hx hb (g_21 (v := 4) bX6_rowsFrom rfl) (lv_at hl 5 rfl) ?_
          refine lv_icmp_ge (tgt := 208) hx hb dX6_rowsFrom_126 (by decide +kernel) (fun c_111 => ?_) (fun c_111 => ?_)
          · have hlt_112 : kk_94 = kM := Nat.le_antisymm (by omega) (lp_ge rfl rfl (by omega) (by omega) c_111)
            rcases hC_109 with ⟨e_113, e_114, e_115⟩ | ⟨e_113, e_114, e_115⟩
            · rw [hlt_112] at e_115
              omega
            · subst e_113
              subst e_114
              refine W.widen (k := 250) (n := 4440) (Nat.le_of_ble_eq_true rfl) (Nat.le_of_ble_eq_true rfl) ?_
              exact endVt [(true :: true :: true :: true :: true :: true :: true :: true :: true :: true :: true :: true :: true :: true :: true :: true :: true :: true :: true :: true :: true :: true :: true :: true :: true :: true :: true :: true :: true :: true :: true :: true :: true :: true :: true :: true :: true :: true :: true :: true :: true :: true :: true :: true :: true :: true :: true :: true :: true :: true :: true :: true :: true :: true :: true :: true :: true :: true :: true :: true :: [])] hx hb hr hlocks hP hD rfl (by decide +kernel) hS ⟨xM_98, fY_96, fB_97, (some (qS_2, qSB_3, qSO_4, qSK_5, rSB_6, rSO_7, rSK_8, tJ_95, xS_10, iE1_99, iE2_100, iLvS_13, iWsS_14)), uJ1_101, uJ2_102, uJ3_103, uJ4_104, rfl, ⟨fun _ => rfl, e_115⟩, (lr_end hlM hlt_112 hLR_108)⟩ (g_177 bX6_rowsFrom rfl)
          · have hlt_116 : kk_94 < kM := lp_lt rfl rfl (by omega) (by omega) c_111
            refine lv_iload hx hb (g_21 (v := 5) bX6_rowsFrom rfl) (lv_at hl 6 rfl) ?_
            refine lv_iload hx hb (g_21 (v := 6) bX6_rowsFrom rfl) (lv_at hl 0 rfl) ?_
            refine lv_ishr hx hb (g_122 bX6_rowsFrom rfl) ?_
            refine lv_iconst (v := 1) hx hb (g_4 bX6_rowsFrom rfl) (by decide +kernel) ?_
            refine lv_iand hx hb (g_126 bX6_rowsFrom rfl) ?_
            refine lv_if_ne (tgt := 202) hx hb dX6_rowsFrom_136 (by decide +kernel) (fun c_117 => ?_) (fun c_117 => ?_)
            · refine lv_iinc (v := nI (kk_94 + 1)) (lv' := [(6, .int (nI (kk_94 + 1))), (0, .ref qm), (1, .ref qm), (2, .int (nI kI)), (3, .int 0), (4, .int (nI kM)), (5, .int (nI kU))]) hx hb dX6_rowsFrom_202 hl (k := 0) rfl (nI_1 _) (by decide +kernel) rfl (fun ls => ?_)
              clear hl
              intro hl
              refine lv_goto (tgt := 122) hx hb dX6_rowsFrom_205 (by decide +kernel) ?_
              exact ih_93 (kk_94 + 1) tJ_95 fY_96 fB_97 xM_98 iE1_99 iE2_100 uJ1_101 uJ2_102 uJ3_103 uJ4_104 xc_105 yc_106 (by omega) (by omega) (lr_skip (by omega) hLR_108 c_117) (hC_109.elim (fun q => Or.inl ⟨q.1, q.2.1, cu_set (by omega) (by omega) q.2.2 c_117⟩) Or.inr) _ _ _ hP hD hS (lv_sub hl [0, 1, 2, 3, 4, 5, 6] rfl)
            · refine lv_aload_n hx hb (g_42 bX6_rowsFrom rfl) rfl (lv_at hl 1 rfl) ?_
              refine va_get (D := G) (ci := 5) (v := .ref qms) (C := RX6) (T := TX6) (N := 35) hx hb hts iX_X6 hown hK hP 0 rfl rfl 33 (by decide +kernel) (hts _ m_t883) (fun _ h9 => h9) rfl (g_180 (v := 67) bX6_rowsFrom rfl) ?_
              refine lv_iload_n hx hb (g_29 bX6_rowsFrom rfl) rfl (lv_at hl 4 rfl) ?_
              refine va_aldq hx hb hK hP 31 5 rfl rfl (in_c rfl) (g_50 bX6_rowsFrom rfl) ?_
              refine lv_setv (v := .ref qS_2) ((congrArg (fun z => va_rf (sF (some qS_2) (refU uJ1_101) (refU uJ2_102) (refU uJ3_103) (refU uJ4_104) z)) (show Int32.toNatClampNeg 0 = 0 by decide +kernel)).trans rfl) ?_
              refine lv_aload_n hx hb (g_43 bX6_rowsFrom rfl) rfl (lv_at hl 2 rfl) ?_
              refine cVvQ (As := [.ref qm]) (rest := []) (b := qS_2) (q := (RX6, TX6, 35)) ⟨hx, hb, hml, hown, hts⟩ (c_X6_takeFrom l G cy (H).size qS_2 (xS_10 0) (xS_10 1) (xS_10 2) (xS_10 3) (xS_10 4) (xS_10 5) (xS_10 6) (xS_10 7) (xS_10 8) (xS_10 9) tJ_95 qSB_3 qSO_4 qSK_5 iE1_99 iE2_100 (xS_10 18) (xS_10 19) (xS_10 20) (xS_10 21) (xS_10 22) (xS_10 23) (xS_10 24) (xS_10 25) (xS_10 26) iLvS_13 iWsS_14 (xS_10 29) (xS_10 30) (xS_10 31) (xS_10 32) (xS_10 33) (xS_10 34) rSB_6 rSO_7 rSK_8 qm (.ref qmh) (.ref qmo) (.ref qmz) (.ref qmR) (.ref qmv) (.ref qmk) (.ref qma) (.ref qmt) (.int (nI kZ)) (.ref qmr) tA qmB qmO qmK iEn iTk (ov uP) (ov uU) (.int (nI kAt)) (.int iTo) (.int iFr) (.long JFi) (.int iFa) (.ref qm3) (.int iSt) iLv iWs vLa (.ref qmu) (.ref qmy) (.ref qmb) (.ref qms) (.int xM_98) rB rO rK) L_X6_225 hN hP hD hS hA (trueIxs [(false :: false :: false :: false :: false :: false :: false :: false :: false :: false :: false :: false :: false :: false :: false :: false :: false :: false :: false :: false :: false :: false :: false :: false :: false :: false :: false :: false :: false :: false :: false :: false :: true :: true :: true :: true :: true :: true :: true :: true :: true :: true :: true :: true :: true :: true :: true :: true :: true :: true :: true :: true :: true :: true :: true :: true :: true :: true :: true :: true :: []), [true, true, true, true, true, true, true, true, true, true, true, true, true, true, true, true, true, true, true, true, true, true, true, true, true, true, true, true]]) (false :: false :: false :: false :: false :: false :: false :: false :: false :: false :: false :: false :: false :: false :: false :: false :: false :: false :: false :: false :: false :: false :: false :: false :: false :: false :: false :: false :: true :: true :: true :: true :: false :: false :: false :: false :: false :: false :: false :: false :: false :: false :: false :: false :: false :: false :: false :: false :: false :: false :: false :: false :: false :: false :: false :: false :: false :: false :: false :: false :: []) (sels_eq rfl rfl) (by decide +kernel) rfl 32 5 rfl rfl rfl ⟨Nat.le_of_ble_eq_true rfl, Nat.le_of_ble_eq_true rfl⟩ hl.1 (Nat.le_of_ble_eq_true rfl) (g_182 (v := 225) bX6_rowsFrom rfl) ⟨by show xc_105 + 0 ≤ 250; omega, by show yc_106 + 0 ≤ 4440; omega⟩ (fun u_120 H locs h_119 => ?_)
              clear hP hD hS
              intro hP hD hS
              have hPD := pd_eqQ (((_ :: zzI cy qmy 5 fY_96 :: zzI cy qmb 5 fB_97 :: zzQ cy 5 qms 6 (sF (some qS_2) (refU uJ1_101) (refU uJ2_102) (refU uJ3_103) (refU uJ4_104)) :: zzO qS_2 5 (xS_10 0 :: xS_10 1 :: xS_10 2 :: xS_10 3 :: xS_10 4 :: xS_10 5 :: xS_10 6 :: xS_10 7 :: xS_10 8 :: xS_10 9 :: .int (nI (T_nb tA)) :: .ref qSB_3 :: .int (nI (T_np tA)) :: .ref qSO_4 :: .ref qSK_5 :: .int iEn :: .int iTk :: .int (T_sd tA) :: xS_10 18 :: xS_10 19 :: xS_10 20 :: xS_10 21 :: xS_10 22 :: xS_10 23 :: xS_10 24 :: xS_10 25 :: xS_10 26 :: .int iLvS_13 :: .int iWsS_14 :: xS_10 29 :: xS_10 30 :: xS_10 31 :: xS_10 32 :: xS_10 33 :: xS_10 34 :: []) :: _ :: zzI cy (rSB_6 0) 4 (bkR tA 0) :: zzI cy (rSB_6 1) 4 (bkR tA 1) :: zzI cy (rSB_6 2) 4 (bkR tA 2) :: zzI cy (rSB_6 3) 4 (bkR tA 3) :: zzI cy (rSB_6 4) 4 (bkR tA 4) :: zzI cy (rSB_6 5) 4 (bkR tA 5) :: zzI cy (rSB_6 6) 4 (bkR tA 6) :: zzI cy (rSB_6 7) 4 (bkR tA 7) :: _ :: zzI cy (rSO_7 0) 5 (onR tA 0) :: zzI cy (rSO_7 1) 5 (onR tA 1) :: zzI cy (rSO_7 2) 5 (onR tA 2) :: zzI cy (rSO_7 3) 5 (onR tA 3) :: zzI cy (rSO_7 4) 5 (onR tA 4) :: zzI cy (rSO_7 5) 5 (onR tA 5) :: zzI cy (rSO_7 6) 5 (onR tA 6) :: zzI cy (rSO_7 7) 5 (onR tA 7) :: _ :: zzI cy (rSK_8 0) 8 (T_kn tA 0) :: zzI cy (rSK_8 1) 8 (T_kn tA 1) :: zzI cy (rSK_8 2) 8 (T_kn tA 2) :: zzI cy (rSK_8 3) 8 (T_kn tA 3) :: zzI cy (rSK_8 4) 8 (T_kn tA 4) :: zzI cy (rSK_8 5) 8 (T_kn tA 5) :: zzI cy (rSK_8 6) 8 (T_kn tA 6) :: zzI cy (rSK_8 7) 8 (T_kn tA 7) :: zzO qm 5 (.ref qmh :: .ref qmo :: .ref qmz :: .ref qmR :: .ref qmv :: .ref qmk :: .ref qma :: .ref qmt :: .int (nI kZ) :: .ref qmr :: .int (nI (T_nb tA)) :: .ref qmB :: .int (nI (T_np tA)) :: .ref qmO :: .ref qmK :: .int iEn :: .int iTk :: .int (T_sd tA) :: ov uP :: ov uU :: .int (nI kAt) :: .int iTo :: .int iFr :: .long JFi :: .int iFa :: .ref qm3 :: .int iSt :: .int iLv :: .int iWs :: vLa :: .ref qmu :: .ref qmy :: .ref qmb :: .ref qms :: .int xM_98 :: []) :: _ :: _ :: _ :: _ :: _ :: _ :: _ :: _ :: _ :: _ :: _ :: _ :: _ :: _ :: _ :: _ :: _ :: _ :: _ :: _ :: _ :: _ :: _ :: _ :: _ :: _ :: _ :: []) : va_W) ++ (oM cy uJ1_101 ++ (oM cy uJ2_102 ++ (oM cy uJ3_103 ++ oM cy uJ4_104)))) hP hD h_119 rfl
              clear hP hD h_119
              obtain ⟨hP, hD⟩ := hPD
              refine lv_aload_n hx hb (g_42 bX6_rowsFrom rfl) rfl (lv_at hl 1 rfl) ?_
              refine va_get (D := G) (ci := 5) (v := .ref qms) (C := RX6) (T := TX6) (N := 35) hx hb hts iX_X6 hown hK hP 32 rfl rfl 33 (by decide +kernel) (hts _ m_t883) (fun _ h9 => h9) rfl (g_180 (v := 67) bX6_rowsFrom rfl) ?_
              refine lv_iload_n hx hb (g_29 bX6_rowsFrom rfl) rfl (lv_at hl 4 rfl) ?_
              refine va_aldq hx hb hK hP 3 5 rfl rfl (in_c rfl) (g_50 bX6_rowsFrom rfl) ?_
              refine lv_setv (v := .ref qS_2) ((congrArg (fun z => va_rf (sF (some qS_2) (refU uJ1_101) (refU uJ2_102) (refU uJ3_103) (refU uJ4_104) z)) (show Int32.toNatClampNeg 0 = 0 by decide +kernel)).trans rfl) ?_
              refine lv_iload_n hx hb (g_28 bX6_rowsFrom rfl) rfl (lv_at hl 3 rfl) ?_
              refine lv_aload_n hx hb (g_42 bX6_rowsFrom rfl) rfl (lv_at hl 1 rfl) ?_
              refine va_get (D := G) (ci := 5) (v := .ref qmu) (C := RX6) (T := TX6) (N := 35) hx hb hts iX_X6 hown hK hP 32 rfl rfl 30 (by decide +kernel) (hts _ m_t880) (fun _ h9 => h9) rfl (g_180 (v := 58) bX6_rowsFrom rfl) ?_
              refine lv_iload hx hb (g_21 (v := 6) bX6_rowsFrom rfl) (lv_at hl 0 rfl) ?_
              refine va_iald hx hb hK hP 0 0 rfl rfl (in8 (by omega)) (g_46 bX6_rowsFrom rfl) ?_
              refine lv_seti (v := fMu kk_94) (congrArg fMu (cl8 (by omega))) ?_
              have hk_122 := (un_in tA (T_nb tA)).2 kk_94 (by omega)
              have hk_122b : unU tA kk_94 < 8 := Nat.lt_of_lt_of_le hk_122.1 hB
              refine lv_seti (v := nI (unU tA kk_94)) (hUx kk_94 (by omega)) ?_
              refine cVvQ (As := [.int (nI kI), .int (nI (unU tA kk_94))]) (rest := []) (b := qS_2) (q := (RX6, TX6, 35)) ⟨hx, hb, hml, hown, hts⟩ (c_X6_reads l G cy (H).size qS_2 (xS_10 0) (xS_10 1) (xS_10 2) (xS_10 3) (xS_10 4) (xS_10 5) (xS_10 6) (xS_10 7) (xS_10 8) (xS_10 9) tA qSB_3 qSO_4 qSK_5 iEn iTk (xS_10 18) (xS_10 19) (xS_10 20) (xS_10 21) (xS_10 22) (xS_10 23) (xS_10 24) (xS_10 25) (xS_10 26) iLvS_13 iWsS_14 (xS_10 29) (xS_10 30) (xS_10 31) (xS_10 32) (xS_10 33) (xS_10 34) rSB_6 rSO_7 rSK_8 kI (unU tA kk_94) hI (by omega)) L_X6_257 hN hP hD hS hA (trueIx 0 [false, false, false, false, true, true, true, true, true, true, true, true, true, true, true, true, true, true, true, true, true, true, true, true, true, true, true, true, true, true, true, true]) (true :: true :: true :: true :: false :: false :: false :: false :: false :: false :: false :: false :: false :: false :: false :: false :: false :: false :: false :: false :: false :: false :: false :: false :: false :: false :: false :: false :: false :: false :: false :: false :: true :: true :: true :: true :: true :: true :: true :: true :: true :: true :: true :: true :: true :: true :: true :: true :: true :: true :: true :: true :: true :: true :: true :: true :: true :: true :: true :: true :: []) (sel_eq rfl rfl) (by decide +kernel) rfl 4 5 rfl rfl rfl ⟨Nat.le_of_ble_eq_true rfl, Nat.le_of_ble_eq_true rfl⟩ hl.1 (Nat.le_of_ble_eq_true rfl) (g_182 (v := 257) bX6_rowsFrom rfl) ⟨by show xc_105 + 0 ≤ 250; omega, by show yc_106 + 0 ≤ 4440; omega⟩ (fun u_126 H locs h_125 => ?_)
              clear hP hD hS
              intro hP hD hS
              have hPD := pd_eqQ (((_ :: _ :: _ :: _ :: _ :: _ :: _ :: _ :: _ :: _ :: _ :: _ :: _ :: _ :: _ :: _ :: _ :: _ :: _ :: _ :: _ :: _ :: _ :: _ :: _ :: _ :: _ :: _ :: _ :: _ :: _ :: _ :: zzO qS_2 5 (xS_10 0 :: xS_10 1 :: xS_10 2 :: xS_10 3 :: xS_10 4 :: xS_10 5 :: xS_10 6 :: xS_10 7 :: xS_10 8 :: xS_10 9 :: .int (nI (T_nb (rdT tA kI (unU tA kk_94)))) :: .ref qSB_3 :: .int (nI (T_np (rdT tA kI (unU tA kk_94)))) :: .ref qSO_4 :: .ref qSK_5 :: .int iEn :: .int iTk :: .int (T_sd (rdT tA kI (unU tA kk_94))) :: xS_10 18 :: xS_10 19 :: xS_10 20 :: xS_10 21 :: xS_10 22 :: xS_10 23 :: xS_10 24 :: xS_10 25 :: xS_10 26 :: .int iLvS_13 :: .int iWsS_14 :: xS_10 29 :: xS_10 30 :: xS_10 31 :: xS_10 32 :: xS_10 33 :: xS_10 34 :: []) :: _ :: zzI cy (rSB_6 0) 4 (bkR (rdT tA kI (unU tA kk_94)) 0) :: zzI cy (rSB_6 1) 4 (bkR (rdT tA kI (unU tA kk_94)) 1) :: zzI cy (rSB_6 2) 4 (bkR (rdT tA kI (unU tA kk_94)) 2) :: zzI cy (rSB_6 3) 4 (bkR (rdT tA kI (unU tA kk_94)) 3) :: zzI cy (rSB_6 4) 4 (bkR (rdT tA kI (unU tA kk_94)) 4) :: zzI cy (rSB_6 5) 4 (bkR (rdT tA kI (unU tA kk_94)) 5) :: zzI cy (rSB_6 6) 4 (bkR (rdT tA kI (unU tA kk_94)) 6) :: zzI cy (rSB_6 7) 4 (bkR (rdT tA kI (unU tA kk_94)) 7) :: _ :: zzI cy (rSO_7 0) 5 (onR (rdT tA kI (unU tA kk_94)) 0) :: zzI cy (rSO_7 1) 5 (onR (rdT tA kI (unU tA kk_94)) 1) :: zzI cy (rSO_7 2) 5 (onR (rdT tA kI (unU tA kk_94)) 2) :: zzI cy (rSO_7 3) 5 (onR (rdT tA kI (unU tA kk_94)) 3) :: zzI cy (rSO_7 4) 5 (onR (rdT tA kI (unU tA kk_94)) 4) :: zzI cy (rSO_7 5) 5 (onR (rdT tA kI (unU tA kk_94)) 5) :: zzI cy (rSO_7 6) 5 (onR (rdT tA kI (unU tA kk_94)) 6) :: zzI cy (rSO_7 7) 5 (onR (rdT tA kI (unU tA kk_94)) 7) :: _ :: zzI cy (rSK_8 0) 8 (T_kn (rdT tA kI (unU tA kk_94)) 0) :: zzI cy (rSK_8 1) 8 (T_kn (rdT tA kI (unU tA kk_94)) 1) :: zzI cy (rSK_8 2) 8 (T_kn (rdT tA kI (unU tA kk_94)) 2) :: zzI cy (rSK_8 3) 8 (T_kn (rdT tA kI (unU tA kk_94)) 3) :: zzI cy (rSK_8 4) 8 (T_kn (rdT tA kI (unU tA kk_94)) 4) :: zzI cy (rSK_8 5) 8 (T_kn (rdT tA kI (unU tA kk_94)) 5) :: zzI cy (rSK_8 6) 8 (T_kn (rdT tA kI (unU tA kk_94)) 6) :: zzI cy (rSK_8 7) 8 (T_kn (rdT tA kI (unU tA kk_94)) 7) :: []) : va_W) ++ (oM cy uJ1_101 ++ (oM cy uJ2_102 ++ (oM cy uJ3_103 ++ oM cy uJ4_104)))) hP hD h_125 rfl
              clear hP hD h_125
              obtain ⟨hP, hD⟩ := hPD
              refine lv_aload_n hx hb (g_42 bX6_rowsFrom rfl) rfl (lv_at hl 1 rfl) ?_
              refine va_get (D := G) (ci := 5) (v := .ref qmy) (C := RX6) (T := TX6) (N := 35) hx hb hts iX_X6 hown hK hP 4 rfl rfl 31 (by decide +kernel) (hts _ m_t881) (fun _ h9 => h9) rfl (g_180 (v := 61) bX6_rowsFrom rfl) ?_
              refine lv_iload_n hx hb (g_29 bX6_rowsFrom rfl) rfl (lv_at hl 4 rfl) ?_
              refine lv_aload_n hx hb (g_42 bX6_rowsFrom rfl) rfl (lv_at hl 1 rfl) ?_
              refine va_get (D := G) (ci := 5) (v := .ref qmu) (C := RX6) (T := TX6) (N := 35) hx hb hts iX_X6 hown hK hP 4 rfl rfl 30 (by decide +kernel) (hts _ m_t880) (fun _ h9 => h9) rfl (g_180 (v := 58) bX6_rowsFrom rfl) ?_
              refine lv_iload hx hb (g_21 (v := 6) bX6_rowsFrom rfl) (lv_at hl 0 rfl) ?_
              refine va_iald hx hb hK hP 0 0 rfl rfl (in8 (by omega)) (g_46 bX6_rowsFrom rfl) ?_
              refine lv_seti (v := fMu kk_94) (congrArg fMu (cl8 (by omega))) ?_
              refine va_iast hx hb hK hP hD hS 1 0 rfl rfl (in_c rfl) (g_79 bX6_rowsFrom rfl) (fun H locs => ?_)
              clear hP hD hS
              intro hP hD hS
              have hPD := pd_as (((_ :: zzI cy qmy 5 (upd fY_96 0 (fMu kk_94)) :: _ :: _ :: _ :: _ :: _ :: _ :: _ :: _ :: _ :: _ :: _ :: _ :: _ :: _ :: _ :: _ :: _ :: _ :: _ :: _ :: _ :: _ :: _ :: _ :: _ :: _ :: _ :: _ :: _ :: _ :: _ :: _ :: _ :: _ :: _ :: _ :: _ :: _ :: _ :: _ :: _ :: _ :: _ :: _ :: _ :: _ :: _ :: _ :: _ :: _ :: _ :: _ :: _ :: _ :: _ :: _ :: _ :: _ :: []) : va_W) ++ (oM cy uJ1_101 ++ (oM cy uJ2_102 ++ (oM cy uJ3_103 ++ oM cy uJ4_104)))) hP hD rfl
              clear hP hD
              obtain ⟨hP, hD⟩ := hPD
              refine lv_aload_n hx hb (g_42 bX6_rowsFrom rfl) rfl (lv_at hl 1 rfl) ?_
              refine lv_aload_n hx hb (g_42 bX6_rowsFrom rfl) rfl (lv_at hl 1 rfl) ?_
              refine va_get (D := G) (ci := 5) (v := .ref qms) (C := RX6) (T := TX6) (N := 35) hx hb hts iX_X6 hown hK hP 4 rfl rfl 33 (by decide +kernel) (hts _ m_t883) (fun _ h9 => h9) rfl (g_180 (v := 67) bX6_rowsFrom rfl) ?_
              refine lv_iload_n hx hb (g_29 bX6_rowsFrom rfl) rfl (lv_at hl 4 rfl) ?_
              refine va_aldq hx hb hK hP 3 5 rfl rfl (in_c rfl) (g_50 bX6_rowsFrom rfl) ?_
              refine lv_setv (v := .ref qS_2) ((congrArg (fun z => va_rf (sF (some qS_2) (refU uJ1_101) (refU uJ2_102) (refU uJ3_103) (refU uJ4_104) z)) (show Int32.toNatClampNeg 0 = 0 by decide +kernel)).trans rfl) ?_
              refine lv_iload_n hx hb (g_28 bX6_rowsFrom rfl) rfl (lv_at hl 3 rfl) ?_
              refine lv_iload_n hx hb (g_29 bX6_rowsFrom rfl) rfl (lv_at hl 4 rfl) ?_
              refine lv_iconst (v := 1) hx hb (g_4 bX6_rowsFrom rfl) (by decide +kernel) ?_
              refine lv_iadd hx hb (g_96 bX6_rowsFrom rfl) ?_
              refine lv_seti (v := 1) (by decide +kernel) ?_
              refine lv_iload hx hb (g_21 (v := 4) bX6_rowsFrom rfl) (lv_at hl 5 rfl) ?_
              refine lv_iload hx hb (g_21 (v := 5) bX6_rowsFrom rfl) (lv_at hl 6 rfl) ?_
              refine lv_iconst (v := 1) hx hb (g_4 bX6_rowsFrom rfl) (by decide +kernel) ?_
              refine lv_iload hx hb (g_21 (v := 6) bX6_rowsFrom rfl) (lv_at hl 0 rfl) ?_
              refine lv_ishl hx hb (g_120 bX6_rowsFrom rfl) ?_
              refine lv_ior hx hb (g_128 bX6_rowsFrom rfl) ?_
              have hu_127 := us_or hU32 (show kk_94 < 5 by omega) c_117
              refine lv_seti (v := nI (kU ||| 2 ^ kk_94)) hu_127.1 ?_
              have hu_127c := hu_127.2.2 kM hM5 (by omega)
              rcases hC_109 with ⟨e_128, e_129, e_130⟩ | ⟨e_128, e_129, e_130⟩
              · subst e_128
                subst e_129
                refine cVvP (As := [.ref qS_2, .int (nI kI), .int 1, .int (nI kM), .int (nI (kU ||| 2 ^ kk_94))]) (rest := []) (b := qm) (q := (RX6, TX6, 35)) ⟨hx, hb, hml, hown, hts⟩ (x_X6_rows1 l G cy (H).size qm qmh qmo qmz qmR qmv qmk qma qmt kZ qmr tA qmB qmO qmK iEn iTk uP uU kAt iTo iFr JFi iFa qm3 iSt iLv iWs vLa qmu qmy qmb qms xM_98 rB fMu (upd fY_96 0 (fMu kk_94)) fB_97 (some qS_2) uJ1_101 uJ2_102 uJ3_103 uJ4_104 qS_2 (xS_10 0) (xS_10 1) (xS_10 2) (xS_10 3) (xS_10 4) (xS_10 5) (xS_10 6) (xS_10 7) (xS_10 8) (xS_10 9) (rdT tA kI (unU tA kk_94)) qSB_3 qSO_4 qSK_5 iEn iTk (xS_10 18) (xS_10 19) (xS_10 20) (xS_10 21) (xS_10 22) (xS_10 23) (xS_10 24) (xS_10 25) (xS_10 26) iLvS_13 iWsS_14 (xS_10 29) (xS_10 30) (xS_10 31) (xS_10 32) (xS_10 33) (xS_10 34) rSB_6 rSO_7 rSK_8 kI kM (kU ||| 2 ^ kk_94) hI hM5 (by omega) (by omega) (by omega) hB hTI0 hNI (le_rd hTI0 hLE hk_122.1 hk_122.2) hKM hUx) L_X6_326 hN hP hD hS hA (trueIxs [[false, false, false, false, true, true, true, true, true, true, true, true, true, true], (true :: true :: true :: true :: false :: false :: false :: false :: false :: false :: false :: false :: false :: false :: false :: false :: false :: false :: false :: false :: false :: false :: false :: false :: false :: false :: false :: false :: false :: false :: false :: false :: true :: true :: true :: true :: true :: true :: true :: true :: true :: true :: true :: true :: true :: true :: true :: true :: true :: true :: true :: true :: true :: true :: true :: true :: true :: true :: true :: true :: [])]) (false :: false :: false :: false :: false :: false :: false :: false :: false :: false :: false :: false :: false :: false :: true :: true :: true :: true :: true :: true :: true :: true :: true :: true :: true :: true :: true :: true :: true :: true :: true :: true :: false :: false :: false :: false :: false :: false :: false :: false :: false :: false :: false :: false :: false :: false :: false :: false :: false :: false :: false :: false :: false :: false :: false :: false :: false :: false :: false :: false :: []) (sels_eq rfl rfl) (by decide +kernel) rfl 4 5 rfl rfl rfl ⟨Nat.le_of_ble_eq_true rfl, Nat.le_of_ble_eq_true rfl⟩ hl.1 (Nat.le_of_ble_eq_true rfl) (g_182 (v := 326) bX6_rowsFrom rfl) ⟨Nat.le_of_ble_eq_true rfl, Nat.le_of_ble_eq_true rfl⟩ (fun u_133 H locs h_132 => ?_)
                clear hP hD hS
                intro hP hD hS
                obtain ⟨iNm_134, fNy_135, fNb_136, uN_137, uN_138, uN_139, uN_140, rfl, h_141, h_142⟩ := h_132
                replace hP := al_P hP
                replace hD := al_D hD
                have hPD := pd_as (((_ :: _ :: _ :: _ :: _ :: _ :: _ :: _ :: _ :: _ :: _ :: _ :: _ :: _ :: _ :: _ :: _ :: _ :: zzO qm 5 (.ref qmh :: .ref qmo :: .ref qmz :: .ref qmR :: .ref qmv :: .ref qmk :: .ref qma :: .ref qmt :: .int (nI kZ) :: .ref qmr :: .int (nI (T_nb tA)) :: .ref qmB :: .int (nI (T_np tA)) :: .ref qmO :: .ref qmK :: .int iEn :: .int iTk :: .int (T_sd tA) :: ov uP :: ov uU :: .int (nI kAt) :: .int iTo :: .int iFr :: .long JFi :: .int iFa :: .ref qm3 :: .int iSt :: .int iLv :: .int iWs :: vLa :: .ref qmu :: .ref qmy :: .ref qmb :: .ref qms :: .int iNm_134 :: []) :: _ :: _ :: _ :: _ :: _ :: _ :: _ :: _ :: _ :: _ :: zzI cy qmy 5 fNy_135 :: zzI cy qmb 5 fNb_136 :: zzQ cy 5 qms 6 (sF (some qS_2) (refU uN_137) (refU uN_138) (refU uN_139) (refU uN_140)) :: _ :: _ :: _ :: _ :: _ :: _ :: _ :: _ :: _ :: _ :: _ :: _ :: _ :: _ :: _ :: _ :: _ :: _ :: _ :: _ :: _ :: _ :: _ :: _ :: _ :: _ :: _ :: _ :: []) : va_W) ++ (oM cy uN_137 ++ (oM cy uN_138 ++ (oM cy uN_139 ++ oM cy uN_140)))) hP hD rfl
                clear hP hD
                obtain ⟨hP, hD⟩ := hPD
                refine W.widen (k := 200) (n := 3552) (Nat.le_of_ble_eq_true rfl) (Nat.le_of_ble_eq_true rfl) ?_
                refine lv_iinc (v := nI (kk_94 + 1)) (lv' := [(6, .int (nI (kk_94 + 1))), (0, .ref qm), (1, .ref qm), (2, .int (nI kI)), (3, .int 0), (4, .int (nI kM)), (5, .int (nI kU))]) hx hb dX6_rowsFrom_202 hl (k := 0) rfl (nI_1 _) (by decide +kernel) rfl (fun ls => ?_)
                clear hl
                intro hl
                refine lv_goto (tgt := 122) hx hb dX6_rowsFrom_205 (by decide +kernel) ?_
                exact ih_93 (kk_94 + 1) (rdT tA kI (unU tA kk_94)) fNy_135 fNb_136 iNm_134 iEn iTk uN_137 uN_138 uN_139 uN_140 200 3552 (by omega) (by omega) (lr_call (by omega) (by omega) hLR_108 c_117 h_142) (Or.inr ⟨rfl, rfl, h_141⟩) _ _ _ (pPt hP [[false, false, false, false, false, false, false, false, false, false, false, false, false, false, false, false, false, false, true, true, true, true, true, true, true, true, true, true], (true :: true :: true :: true :: true :: true :: true :: true :: true :: true :: true :: true :: true :: true :: true :: true :: true :: true :: false :: false :: false :: false :: false :: false :: false :: false :: false :: false :: true :: true :: true :: true :: true :: true :: true :: true :: true :: true :: true :: true :: true :: true :: true :: true :: true :: true :: true :: true :: true :: true :: true :: true :: true :: true :: true :: true :: true :: true :: true :: true :: [])] rfl rfl) (dPt hD [[false, false, false, false, false, false, false, false, false, false, false, false, false, false, false, false, false, false, true, true, true, true, true, true, true, true, true, true], (true :: true :: true :: true :: true :: true :: true :: true :: true :: true :: true :: true :: true :: true :: true :: true :: true :: true :: false :: false :: false :: false :: false :: false :: false :: false :: false :: false :: true :: true :: true :: true :: true :: true :: true :: true :: true :: true :: true :: true :: true :: true :: true :: true :: true :: true :: true :: true :: true :: true :: true :: true :: true :: true :: true :: true :: true :: true :: true :: true :: [])] (by decide +kernel) rfl rfl) hS (lv_sub hl [0, 1, 2, 3, 4, 5, 6] rfl)
              · subst e_128
                subst e_129
                refine cVvP (As := [.ref qS_2, .int (nI kI), .int 1, .int (nI kM), .int (nI (kU ||| 2 ^ kk_94))]) (rest := []) (b := qm) (q := (RX6, TX6, 35)) ⟨hx, hb, hml, hown, hts⟩ (x_X6_rows1r l G cy (H).size qm qmh qmo qmz qmR qmv qmk qma qmt kZ qmr tA qmB qmO qmK iEn iTk uP uU kAt iTo iFr JFi iFa qm3 iSt iLv iWs vLa qmu qmy qmb qms xM_98 rB fMu (upd fY_96 0 (fMu kk_94)) fB_97 (some qS_2) uJ1_101 uJ2_102 uJ3_103 uJ4_104 qS_2 (xS_10 0) (xS_10 1) (xS_10 2) (xS_10 3) (xS_10 4) (xS_10 5) (xS_10 6) (xS_10 7) (xS_10 8) (xS_10 9) (rdT tA kI (unU tA kk_94)) qSB_3 qSO_4 qSK_5 iEn iTk (xS_10 18) (xS_10 19) (xS_10 20) (xS_10 21) (xS_10 22) (xS_10 23) (xS_10 24) (xS_10 25) (xS_10 26) iLvS_13 iWsS_14 (xS_10 29) (xS_10 30) (xS_10 31) (xS_10 32) (xS_10 33) (xS_10 34) rSB_6 rSO_7 rSK_8 kI kM (kU ||| 2 ^ kk_94) hI hM5 (by omega) (by omega) (by omega) hB hTI0 hNI (le_rd hTI0 hLE hk_122.1 hk_122.2) hKM hUx e_130) L_X6_326 hN hP hD hS hA (trueIxs [[false, false, false, false, true, true, true, true, true, true, true, true, true, true], (true :: true :: true :: true :: false :: false :: false :: false :: false :: false :: false :: false :: false :: false :: false :: false :: false :: false :: false :: false :: false :: false :: false :: false :: false :: false :: false :: false :: false :: false :: false :: false :: true :: true :: true :: true :: true :: true :: true :: true :: true :: true :: true :: true :: true :: true :: true :: true :: true :: true :: true :: true :: true :: true :: true :: true :: true :: true :: true :: true :: [])]) (false :: false :: false :: false :: false :: false :: false :: false :: false :: false :: false :: false :: false :: false :: true :: true :: true :: true :: true :: true :: true :: true :: true :: true :: true :: true :: true :: true :: true :: true :: true :: true :: false :: false :: false :: false :: false :: false :: false :: false :: false :: false :: false :: false :: false :: false :: false :: false :: false :: false :: false :: false :: false :: false :: false :: false :: false :: false :: false :: false :: []) (sels_eq rfl rfl) (by decide +kernel) rfl 4 5 rfl rfl rfl ⟨Nat.le_of_ble_eq_true rfl, Nat.le_of_ble_eq_true rfl⟩ hl.1 (Nat.le_of_ble_eq_true rfl) (g_182 (v := 326) bX6_rowsFrom rfl) ⟨Nat.le_of_ble_eq_true rfl, Nat.le_of_ble_eq_true rfl⟩ (fun u_145 H locs h_144 => ?_)
                clear hP hD hS
                intro hP hD hS
                obtain ⟨iNm_146, fNy_147, fNb_148, uN_149, uN_150, uN_151, uN_152, rfl, h_153, h_154⟩ := h_144
                replace hP := al_P hP
                replace hD := al_D hD
                have hPD := pd_as (((_ :: _ :: _ :: _ :: _ :: _ :: _ :: _ :: _ :: _ :: _ :: _ :: _ :: _ :: _ :: _ :: _ :: _ :: zzO qm 5 (.ref qmh :: .ref qmo :: .ref qmz :: .ref qmR :: .ref qmv :: .ref qmk :: .ref qma :: .ref qmt :: .int (nI kZ) :: .ref qmr :: .int (nI (T_nb tA)) :: .ref qmB :: .int (nI (T_np tA)) :: .ref qmO :: .ref qmK :: .int iEn :: .int iTk :: .int (T_sd tA) :: ov uP :: ov uU :: .int (nI kAt) :: .int iTo :: .int iFr :: .long JFi :: .int iFa :: .ref qm3 :: .int iSt :: .int iLv :: .int iWs :: vLa :: .ref qmu :: .ref qmy :: .ref qmb :: .ref qms :: .int iNm_146 :: []) :: _ :: _ :: _ :: _ :: _ :: _ :: _ :: _ :: _ :: _ :: zzI cy qmy 5 fNy_147 :: zzI cy qmb 5 fNb_148 :: zzQ cy 5 qms 6 (sF (some qS_2) (refU uN_149) (refU uN_150) (refU uN_151) (refU uN_152)) :: _ :: _ :: _ :: _ :: _ :: _ :: _ :: _ :: _ :: _ :: _ :: _ :: _ :: _ :: _ :: _ :: _ :: _ :: _ :: _ :: _ :: _ :: _ :: _ :: _ :: _ :: _ :: _ :: []) : va_W) ++ (oM cy uN_149 ++ (oM cy uN_150 ++ (oM cy uN_151 ++ oM cy uN_152)))) hP hD rfl
                clear hP hD
                obtain ⟨hP, hD⟩ := hPD
                refine lv_iinc (v := nI (kk_94 + 1)) (lv' := [(6, .int (nI (kk_94 + 1))), (0, .ref qm), (1, .ref qm), (2, .int (nI kI)), (3, .int 0), (4, .int (nI kM)), (5, .int (nI kU))]) hx hb dX6_rowsFrom_202 hl (k := 0) rfl (nI_1 _) (by decide +kernel) rfl (fun ls => ?_)
                clear hl
                intro hl
                refine lv_goto (tgt := 122) hx hb dX6_rowsFrom_205 (by decide +kernel) ?_
                exact ih_93 (kk_94 + 1) (rdT tA kI (unU tA kk_94)) fNy_147 fNb_148 iNm_146 iEn iTk uN_149 uN_150 uN_151 uN_152 200 3552 (by omega) (by omega) (lr_call (by omega) (by omega) hLR_108 c_117 h_154) (Or.inr ⟨rfl, rfl, h_153⟩) _ _ _ (pPt hP [[false, false, false, false, false, false, false, false, false, false, false, false, false, false, false, false, false, false, true, true, true, true, true, true, true, true, true, true], (true :: true :: true :: true :: true :: true :: true :: true :: true :: true :: true :: true :: true :: true :: true :: true :: true :: true :: false :: false :: false :: false :: false :: false :: false :: false :: false :: false :: true :: true :: true :: true :: true :: true :: true :: true :: true :: true :: true :: true :: true :: true :: true :: true :: true :: true :: true :: true :: true :: true :: true :: true :: true :: true :: true :: true :: true :: true :: true :: true :: [])] rfl rfl) (dPt hD [[false, false, false, false, false, false, false, false, false, false, false, false, false, false, false, false, false, false, true, true, true, true, true, true, true, true, true, true], (true :: true :: true :: true :: true :: true :: true :: true :: true :: true :: true :: true :: true :: true :: true :: true :: true :: true :: false :: false :: false :: false :: false :: false :: false :: false :: false :: false :: true :: true :: true :: true :: true :: true :: true :: true :: true :: true :: true :: true :: true :: true :: true :: true :: true :: true :: true :: true :: true :: true :: true :: true :: true :: true :: true :: true :: true :: true :: true :: true :: [])] (by decide +kernel) rfl rfl) hS (lv_sub hl [0, 1, 2, 3, 4, 5, 6] rfl)
      exact lp_91 ((5 - 0) + 1) 0 tS_9 fMy fMb iOm iEnS_11 iTkS_12 uS1 uS2 uS3 uS4 0 0 (Nat.lt_succ_self _) (Nat.zero_le _) lr_0' (Or.inl ⟨rfl, rfl, rfl⟩) _ _ ls hP hD hS (lv_sub hl [0, 1, 2, 3, 4, 5, 6] rfl)
  · have heM : kM = 0 := (nI_inj (a := 0) (by omega) (by omega) c_1).symm
    refine lv_iconst (v := 0) hx hb (g_3 bX6_rowsFrom rfl) (by decide +kernel) ?_
    refine lv_istore (lv' := [(6, .int 0), (0, .ref qm), (1, .ref qm), (2, .int (nI kI)), (3, .int 0), (4, .int (nI kM)), (5, .int (nI kU))]) hx hb (g_54 (v := 6) bX6_rowsFrom rfl) hl (by decide +kernel) rfl (fun ls => ?_)
    clear hl
    intro hl
    refine lv_iconst (v := 0) hx hb (g_3 bX6_rowsFrom rfl) (by decide +kernel) ?_
    refine lv_istore (lv' := [(7, .int 0), (6, .int 0), (0, .ref qm), (1, .ref qm), (2, .int (nI kI)), (3, .int 0), (4, .int (nI kM)), (5, .int (nI kU))]) hx hb (g_54 (v := 7) bX6_rowsFrom rfl) hl (by decide +kernel) rfl (fun ls => ?_)
    clear hl
    intro hl
    have lp_155 : ∀ (n_156 : Nat) (j_158 : Nat) (xS_159 : Int32), 8 - j_158 < n_156 → j_158 ≤ T_nb tA → xS_159 = wsum (fun b => T_wo tA b * T_kn tA kI b) j_158 → ∀ (H : Heap) (locs : List Loc) (ls : Array Slot), va_P G CL ([zzO qm 5 (.ref qmh :: .ref qmo :: .ref qmz :: .ref qmR :: .ref qmv :: .ref qmk :: .ref qma :: .ref qmt :: .int (nI kZ) :: .ref qmr :: .int (nI (T_nb tA)) :: .ref qmB :: .int (nI (T_np tA)) :: .ref qmO :: .ref qmK :: .int iEn :: .int iTk :: .int (T_sd tA) :: ov uP :: ov uU :: .int (nI kAt) :: .int iTo :: .int iFr :: .long JFi :: .int iFa :: .ref qm3 :: .int iSt :: .int iLv :: .int iWs :: vLa :: .ref qmu :: .ref qmy :: .ref qmb :: .ref qms :: .int iOm :: []), zzG cy 3 qmB rB, zzI cy (rB 0) 4 (bkR tA 0), zzI cy (rB 1) 4 (bkR tA 1), zzI cy (rB 2) 4 (bkR tA 2), zzI cy (rB 3) 4 (bkR tA 3), zzI cy (rB 4) 4 (bkR tA 4), zzI cy (rB 5) 4 (bkR tA 5), zzI cy (rB 6) 4 (bkR tA 6), zzI cy (rB 7) 4 (bkR tA 7), zzG cy 3 qmO rO, zzI cy (rO 0) 5 (onR tA 0), zzI cy (rO 1) 5 (onR tA 1), zzI cy (rO 2) 5 (onR tA 2), zzI cy (rO 3) 5 (onR tA 3), zzI cy (rO 4) 5 (onR tA 4), zzI cy (rO 5) 5 (onR tA 5), zzI cy (rO 6) 5 (onR tA 6), zzI cy (rO 7) 5 (onR tA 7), zzG cy 3 qmK rK, zzI cy (rK 0) 8 (T_kn tA 0), zzI cy (rK 1) 8 (T_kn tA 1), zzI cy (rK 2) 8 (T_kn tA 2), zzI cy (rK 3) 8 (T_kn tA 3), zzI cy (rK 4) 8 (T_kn tA 4), zzI cy (rK 5) 8 (T_kn tA 5), zzI cy (rK 6) 8 (T_kn tA 6), zzI cy (rK 7) 8 (T_kn tA 7), zzI cy qmu 8 fMu, zzI cy qmy 5 fMy, zzI cy qmb 5 fMb, zzQ cy 5 qms 6 (sF (refU uS0) (refU uS1) (refU uS2) (refU uS3) (refU uS4))] ++ (oM cy uS0 ++ (oM cy uS1 ++ (oM cy uS2 ++ (oM cy uS3 ++ oM cy uS4))))) H → va_D A ([zzO qm 5 (.ref qmh :: .ref qmo :: .ref qmz :: .ref qmR :: .ref qmv :: .ref qmk :: .ref qma :: .ref qmt :: .int (nI kZ) :: .ref qmr :: .int (nI (T_nb tA)) :: .ref qmB :: .int (nI (T_np tA)) :: .ref qmO :: .ref qmK :: .int iEn :: .int iTk :: .int (T_sd tA) :: ov uP :: ov uU :: .int (nI kAt) :: .int iTo :: .int iFr :: .long JFi :: .int iFa :: .ref qm3 :: .int iSt :: .int iLv :: .int iWs :: vLa :: .ref qmu :: .ref qmy :: .ref qmb :: .ref qms :: .int iOm :: []), zzG cy 3 qmB rB, zzI cy (rB 0) 4 (bkR tA 0), zzI cy (rB 1) 4 (bkR tA 1), zzI cy (rB 2) 4 (bkR tA 2), zzI cy (rB 3) 4 (bkR tA 3), zzI cy (rB 4) 4 (bkR tA 4), zzI cy (rB 5) 4 (bkR tA 5), zzI cy (rB 6) 4 (bkR tA 6), zzI cy (rB 7) 4 (bkR tA 7), zzG cy 3 qmO rO, zzI cy (rO 0) 5 (onR tA 0), zzI cy (rO 1) 5 (onR tA 1), zzI cy (rO 2) 5 (onR tA 2), zzI cy (rO 3) 5 (onR tA 3), zzI cy (rO 4) 5 (onR tA 4), zzI cy (rO 5) 5 (onR tA 5), zzI cy (rO 6) 5 (onR tA 6), zzI cy (rO 7) 5 (onR tA 7), zzG cy 3 qmK rK, zzI cy (rK 0) 8 (T_kn tA 0), zzI cy (rK 1) 8 (T_kn tA 1), zzI cy (rK 2) 8 (T_kn tA 2), zzI cy (rK 3) 8 (T_kn tA 3), zzI cy (rK 4) 8 (T_kn tA 4), zzI cy (rK 5) 8 (T_kn tA 5), zzI cy (rK 6) 8 (T_kn tA 6), zzI cy (rK 7) 8 (T_kn tA 7), zzI cy qmu 8 fMu, zzI cy qmy 5 fMy, zzI cy qmb 5 fMb, zzQ cy 5 qms 6 (sF (refU uS0) (refU uS1) (refU uS2) (refU uS3) (refU uS4))] ++ (oM cy uS0 ++ (oM cy uS1 ++ (oM cy uS2 ++ (oM cy uS3 ++ oM cy uS4))))) → va_S A s.heap H locs → lv_has ls 8 [(7, .int (nI j_158)), (6, .int xS_159), (0, .ref qm), (1, .ref qm), (2, .int (nI kI)), (3, .int 0), (4, .int (nI kM)), (5, .int (nI kU))] → W p l e (Rm 11 250 4440) s m (List.toArray (α := Value) [.ref qm, .ref qm, .int (nI kI), .int 0, .int (nI kM), .int (nI kU)]) below meth c H locs 0 0 (MQ below ((Wv G (fun u => ∃ (iNm : Int32) (fNy : Nat → Int32) (fNb : Nat → Int32) (uN0 : UM) (uN1 : UM) (uN2 : UM) (uN3 : UM) (uN4 : UM), u = ([zzO qm 5 (.ref qmh :: .ref qmo :: .ref qmz :: .ref qmR :: .ref qmv :: .ref qmk :: .ref qma :: .ref qmt :: .int (nI kZ) :: .ref qmr :: .int (nI (T_nb tA)) :: .ref qmB :: .int (nI (T_np tA)) :: .ref qmO :: .ref qmK :: .int iEn :: .int iTk :: .int (T_sd tA) :: ov uP :: ov uU :: .int (nI kAt) :: .int iTo :: .int iFr :: .long JFi :: .int iFa :: .ref qm3 :: .int iSt :: .int iLv :: .int iWs :: vLa :: .ref qmu :: .ref qmy :: .ref qmb :: .ref qms :: .int iNm :: []), zzG cy 3 qmB rB, zzI cy (rB 0) 4 (bkR tA 0), zzI cy (rB 1) 4 (bkR tA 1), zzI cy (rB 2) 4 (bkR tA 2), zzI cy (rB 3) 4 (bkR tA 3), zzI cy (rB 4) 4 (bkR tA 4), zzI cy (rB 5) 4 (bkR tA 5), zzI cy (rB 6) 4 (bkR tA 6), zzI cy (rB 7) 4 (bkR tA 7), zzG cy 3 qmO rO, zzI cy (rO 0) 5 (onR tA 0), zzI cy (rO 1) 5 (onR tA 1), zzI cy (rO 2) 5 (onR tA 2), zzI cy (rO 3) 5 (onR tA 3), zzI cy (rO 4) 5 (onR tA 4), zzI cy (rO 5) 5 (onR tA 5), zzI cy (rO 6) 5 (onR tA 6), zzI cy (rO 7) 5 (onR tA 7), zzG cy 3 qmK rK, zzI cy (rK 0) 8 (T_kn tA 0), zzI cy (rK 1) 8 (T_kn tA 1), zzI cy (rK 2) 8 (T_kn tA 2), zzI cy (rK 3) 8 (T_kn tA 3), zzI cy (rK 4) 8 (T_kn tA 4), zzI cy (rK 5) 8 (T_kn tA 5), zzI cy (rK 6) 8 (T_kn tA 6), zzI cy (rK 7) 8 (T_kn tA 7), zzI cy qmu 8 fMu, zzI cy qmy 5 fNy, zzI cy qmb 5 fNb, zzQ cy 5 qms 6 (sF (refU uN0) (refU uN1) (refU uN2) (refU uN3) (refU uN4))] ++ (oM cy uN0 ++ (oM cy uN1 ++ (oM cy uN2 ++ (oM cy uN3 ++ oM cy uN4))))) ∧ ((0 < kM → isS uN0 = true) ∧ (1 < kM → isS uN1 = true) ∧ (2 < kM → isS uN2 = true) ∧ (3 < kM → isS uN3 = true) ∧ (4 < kM → isS uN4 = true)) ∧ (ROW 0 tA kI tA kM kU fMu fMy fMb iOm fNy fNb iNm))) A) (List.toArray (α := Value) [.ref qm, .ref qm, .int (nI kI), .int 0, .int (nI kM), .int (nI kU)]) s 250 4440 A) (F0 m 12 ls []) := by
      intro n_156
      induction n_156 with
      | zero => intro j_158 xS_159 hm9; exact absurd hm9 (Nat.not_lt_zero _)
      | succ n_156 ih_157 =>
        intro j_158 xS_159 hm_162 hj_160 hE_161 H locs ls hP hD hS hl
        refine lv_iload hx hb (g_21 (v := 7) bX6_rowsFrom rfl) (lv_at hl 0 rfl) ?_
        refine lv_aload_n hx hb (g_42 bX6_rowsFrom rfl) rfl (lv_at hl 2 rfl) ?_
        refine va_get (D := G) (ci := 5) (v := .int (nI (T_nb tA))) (C := RX6) (T := TX6) (N := 35) hx hb hts iX_X6 hown hK hP 0 rfl rfl 10 (by decide +kernel) (hts _ m_t860) (fun _ h9 => h9) rfl (g_180 (v := 71) bX6_rowsFrom rfl) ?_
        refine lv_icmp_ge (tgt := 51) hx hb dX6_rowsFrom_18 (by decide +kernel) (fun c_163 => ?_) (fun c_163 => ?_)
        · have hlt_164 : j_158 = T_nb tA := Nat.le_antisymm (by omega) (lp_ge rfl rfl (by omega) (by omega) c_163)
          have hs_165 : xS_159 = wsum (fun b => T_wo tA b * T_kn tA kI b) (T_nb tA) := by rw [hE_161, hlt_164]
          refine lv_iload hx hb (g_21 (v := 6) bX6_rowsFrom rfl) (lv_at hl 1 rfl) ?_
          refine lv_aload_n hx hb (g_42 bX6_rowsFrom rfl) rfl (lv_at hl 2 rfl) ?_
          refine va_get (D := G) (ci := 5) (v := .int iOm) (C := RX6) (T := TX6) (N := 35) hx hb hts iX_X6 hown hK hP 0 rfl rfl 34 (by decide +kernel) (hts _ m_t884) (fun _ h9 => h9) rfl (g_180 (v := 323) bX6_rowsFrom rfl) ?_
          refine lv_icmp_le (tgt := 96) hx hb dX6_rowsFrom_57 (by decide +kernel) (fun c_166 => ?_) (fun c_166 => ?_)
          · refine W.widen (k := 250) (n := 4440) (Nat.le_of_ble_eq_true rfl) (Nat.le_of_ble_eq_true rfl) ?_
            exact endV (u := ([zzO qm 5 (.ref qmh :: .ref qmo :: .ref qmz :: .ref qmR :: .ref qmv :: .ref qmk :: .ref qma :: .ref qmt :: .int (nI kZ) :: .ref qmr :: .int (nI (T_nb tA)) :: .ref qmB :: .int (nI (T_np tA)) :: .ref qmO :: .ref qmK :: .int iEn :: .int iTk :: .int (T_sd tA) :: ov uP :: ov uU :: .int (nI kAt) :: .int iTo :: .int iFr :: .long JFi :: .int iFa :: .ref qm3 :: .int iSt :: .int iLv :: .int iWs :: vLa :: .ref qmu :: .ref qmy :: .ref qmb :: .ref qms :: .int iOm :: []), zzG cy 3 qmB rB, zzI cy (rB 0) 4 (bkR tA 0), zzI cy (rB 1) 4 (bkR tA 1), zzI cy (rB 2) 4 (bkR tA 2), zzI cy (rB 3) 4 (bkR tA 3), zzI cy (rB 4) 4 (bkR tA 4), zzI cy (rB 5) 4 (bkR tA 5), zzI cy (rB 6) 4 (bkR tA 6), zzI cy (rB 7) 4 (bkR tA 7), zzG cy 3 qmO rO, zzI cy (rO 0) 5 (onR tA 0), zzI cy (rO 1) 5 (onR tA 1), zzI cy (rO 2) 5 (onR tA 2), zzI cy (rO 3) 5 (onR tA 3), zzI cy (rO 4) 5 (onR tA 4), zzI cy (rO 5) 5 (onR tA 5), zzI cy (rO 6) 5 (onR tA 6), zzI cy (rO 7) 5 (onR tA 7), zzG cy 3 qmK rK, zzI cy (rK 0) 8 (T_kn tA 0), zzI cy (rK 1) 8 (T_kn tA 1), zzI cy (rK 2) 8 (T_kn tA 2), zzI cy (rK 3) 8 (T_kn tA 3), zzI cy (rK 4) 8 (T_kn tA 4), zzI cy (rK 5) 8 (T_kn tA 5), zzI cy (rK 6) 8 (T_kn tA 6), zzI cy (rK 7) 8 (T_kn tA 7), zzI cy qmu 8 fMu, zzI cy qmy 5 fMy, zzI cy qmb 5 fMb, zzQ cy 5 qms 6 (sF (refU uS0) (refU uS1) (refU uS2) (refU uS3) (refU uS4))] ++ (oM cy uS0 ++ (oM cy uS1 ++ (oM cy uS2 ++ (oM cy uS3 ++ oM cy uS4)))))) hx hb hr hlocks (pPt hP [[true, true, true, true, true, true, true, true, true, true, true, true, true, true, true, true, true, true, true, true, true, true, true, true, true, true, true, true, true, true, true, true]] rfl rfl) (dPt hD [[true, true, true, true, true, true, true, true, true, true, true, true, true, true, true, true, true, true, true, true, true, true, true, true, true, true, true, true, true, true, true, true]] (by decide +kernel) rfl rfl) hS ⟨iOm, fMy, fMb, uS0, uS1, uS2, uS3, uS4, rfl, ⟨(fun q => by omega), (fun q => by omega), (fun q => by omega), (fun q => by omega), (fun q => by omega)⟩, (rw_le hTI0 hNI hKM heM (by rw [← hs_165]; exact c_166))⟩ (g_177 bX6_rowsFrom rfl)
          · refine lv_aload_n hx hb (g_42 bX6_rowsFrom rfl) rfl (lv_at hl 2 rfl) ?_
            refine lv_iload hx hb (g_21 (v := 6) bX6_rowsFrom rfl) (lv_at hl 1 rfl) ?_
            refine va_put (D := G) (ci := 5) (v := .int xS_159) (ty := .int) (C := RX6) (T := TX6) (N := 35) hx hb hts iX_X6 tyX6 tyX6_ok nmX6 hown hK hP hD hS 0 rfl rfl 34 (by decide +kernel) (hts _ m_t884) (fun _ h9 => h9) rfl (by decide +kernel) rfl rfl (Nat.le_of_ble_eq_true rfl) (g_181 (v := 323) bX6_rowsFrom rfl) (fun H locs => ?_)
            clear hP hD hS
            intro hP hD hS
            have hPD := pd_as (([zzO qm 5 (.ref qmh :: .ref qmo :: .ref qmz :: .ref qmR :: .ref qmv :: .ref qmk :: .ref qma :: .ref qmt :: .int (nI kZ) :: .ref qmr :: .int (nI (T_nb tA)) :: .ref qmB :: .int (nI (T_np tA)) :: .ref qmO :: .ref qmK :: .int iEn :: .int iTk :: .int (T_sd tA) :: ov uP :: ov uU :: .int (nI kAt) :: .int iTo :: .int iFr :: .long JFi :: .int iFa :: .ref qm3 :: .int iSt :: .int iLv :: .int iWs :: vLa :: .ref qmu :: .ref qmy :: .ref qmb :: .ref qms :: .int xS_159 :: []), _, _, _, _, _, _, _, _, _, _, _, _, _, _, _, _, _, _, _, _, _, _, _, _, _, _, _, _, _, _, _] : va_W) ++ (oM cy uS0 ++ (oM cy uS1 ++ (oM cy uS2 ++ (oM cy uS3 ++ oM cy uS4))))) hP hD rfl
            clear hP hD
            obtain ⟨hP, hD⟩ := hPD
            refine lv_iconst (v := 0) hx hb (g_3 bX6_rowsFrom rfl) (by decide +kernel) ?_
            refine lv_istore (lv' := [(7, .int 0), (6, .int xS_159), (0, .ref qm), (1, .ref qm), (2, .int (nI kI)), (3, .int 0), (4, .int (nI kM)), (5, .int (nI kU))]) hx hb (g_54 (v := 7) bX6_rowsFrom rfl) hl (by decide +kernel) rfl (fun ls => ?_)
            clear hl
            intro hl
            have lp_167 : ∀ (n_168 : Nat) (j_170 : Nat) (fJ_171 : Nat → Int32), 5 - j_170 < n_168 → j_170 ≤ kM → (∀ k, k < j_170 → fJ_171 k = fMy k) → ∀ (H : Heap) (locs : List Loc) (ls : Array Slot), va_P G CL ([zzO qm 5 (.ref qmh :: .ref qmo :: .ref qmz :: .ref qmR :: .ref qmv :: .ref qmk :: .ref qma :: .ref qmt :: .int (nI kZ) :: .ref qmr :: .int (nI (T_nb tA)) :: .ref qmB :: .int (nI (T_np tA)) :: .ref qmO :: .ref qmK :: .int iEn :: .int iTk :: .int (T_sd tA) :: ov uP :: ov uU :: .int (nI kAt) :: .int iTo :: .int iFr :: .long JFi :: .int iFa :: .ref qm3 :: .int iSt :: .int iLv :: .int iWs :: vLa :: .ref qmu :: .ref qmy :: .ref qmb :: .ref qms :: .int xS_159 :: []), zzG cy 3 qmB rB, zzI cy (rB 0) 4 (bkR tA 0), zzI cy (rB 1) 4 (bkR tA 1), zzI cy (rB 2) 4 (bkR tA 2), zzI cy (rB 3) 4 (bkR tA 3), zzI cy (rB 4) 4 (bkR tA 4), zzI cy (rB 5) 4 (bkR tA 5), zzI cy (rB 6) 4 (bkR tA 6), zzI cy (rB 7) 4 (bkR tA 7), zzG cy 3 qmO rO, zzI cy (rO 0) 5 (onR tA 0), zzI cy (rO 1) 5 (onR tA 1), zzI cy (rO 2) 5 (onR tA 2), zzI cy (rO 3) 5 (onR tA 3), zzI cy (rO 4) 5 (onR tA 4), zzI cy (rO 5) 5 (onR tA 5), zzI cy (rO 6) 5 (onR tA 6), zzI cy (rO 7) 5 (onR tA 7), zzG cy 3 qmK rK, zzI cy (rK 0) 8 (T_kn tA 0), zzI cy (rK 1) 8 (T_kn tA 1), zzI cy (rK 2) 8 (T_kn tA 2), zzI cy (rK 3) 8 (T_kn tA 3), zzI cy (rK 4) 8 (T_kn tA 4), zzI cy (rK 5) 8 (T_kn tA 5), zzI cy (rK 6) 8 (T_kn tA 6), zzI cy (rK 7) 8 (T_kn tA 7), zzI cy qmu 8 fMu, zzI cy qmy 5 fMy, zzI cy qmb 5 fJ_171, zzQ cy 5 qms 6 (sF (refU uS0) (refU uS1) (refU uS2) (refU uS3) (refU uS4))] ++ (oM cy uS0 ++ (oM cy uS1 ++ (oM cy uS2 ++ (oM cy uS3 ++ oM cy uS4))))) H → va_D A ([zzO qm 5 (.ref qmh :: .ref qmo :: .ref qmz :: .ref qmR :: .ref qmv :: .ref qmk :: .ref qma :: .ref qmt :: .int (nI kZ) :: .ref qmr :: .int (nI (T_nb tA)) :: .ref qmB :: .int (nI (T_np tA)) :: .ref qmO :: .ref qmK :: .int iEn :: .int iTk :: .int (T_sd tA) :: ov uP :: ov uU :: .int (nI kAt) :: .int iTo :: .int iFr :: .long JFi :: .int iFa :: .ref qm3 :: .int iSt :: .int iLv :: .int iWs :: vLa :: .ref qmu :: .ref qmy :: .ref qmb :: .ref qms :: .int xS_159 :: []), zzG cy 3 qmB rB, zzI cy (rB 0) 4 (bkR tA 0), zzI cy (rB 1) 4 (bkR tA 1), zzI cy (rB 2) 4 (bkR tA 2), zzI cy (rB 3) 4 (bkR tA 3), zzI cy (rB 4) 4 (bkR tA 4), zzI cy (rB 5) 4 (bkR tA 5), zzI cy (rB 6) 4 (bkR tA 6), zzI cy (rB 7) 4 (bkR tA 7), zzG cy 3 qmO rO, zzI cy (rO 0) 5 (onR tA 0), zzI cy (rO 1) 5 (onR tA 1), zzI cy (rO 2) 5 (onR tA 2), zzI cy (rO 3) 5 (onR tA 3), zzI cy (rO 4) 5 (onR tA 4), zzI cy (rO 5) 5 (onR tA 5), zzI cy (rO 6) 5 (onR tA 6), zzI cy (rO 7) 5 (onR tA 7), zzG cy 3 qmK rK, zzI cy (rK 0) 8 (T_kn tA 0), zzI cy (rK 1) 8 (T_kn tA 1), zzI cy (rK 2) 8 (T_kn tA 2), zzI cy (rK 3) 8 (T_kn tA 3), zzI cy (rK 4) 8 (T_kn tA 4), zzI cy (rK 5) 8 (T_kn tA 5), zzI cy (rK 6) 8 (T_kn tA 6), zzI cy (rK 7) 8 (T_kn tA 7), zzI cy qmu 8 fMu, zzI cy qmy 5 fMy, zzI cy qmb 5 fJ_171, zzQ cy 5 qms 6 (sF (refU uS0) (refU uS1) (refU uS2) (refU uS3) (refU uS4))] ++ (oM cy uS0 ++ (oM cy uS1 ++ (oM cy uS2 ++ (oM cy uS3 ++ oM cy uS4))))) → va_S A s.heap H locs → lv_has ls 8 [(7, .int (nI j_170)), (6, .int xS_159), (0, .ref qm), (1, .ref qm), (2, .int (nI kI)), (3, .int 0), (4, .int (nI kM)), (5, .int (nI kU))] → W p l e (Rm 11 250 4440) s m (List.toArray (α := Value) [.ref qm, .ref qm, .int (nI kI), .int 0, .int (nI kM), .int (nI kU)]) below meth c H locs 0 0 (MQ below ((Wv G (fun u => ∃ (iNm : Int32) (fNy : Nat → Int32) (fNb : Nat → Int32) (uN0 : UM) (uN1 : UM) (uN2 : UM) (uN3 : UM) (uN4 : UM), u = ([zzO qm 5 (.ref qmh :: .ref qmo :: .ref qmz :: .ref qmR :: .ref qmv :: .ref qmk :: .ref qma :: .ref qmt :: .int (nI kZ) :: .ref qmr :: .int (nI (T_nb tA)) :: .ref qmB :: .int (nI (T_np tA)) :: .ref qmO :: .ref qmK :: .int iEn :: .int iTk :: .int (T_sd tA) :: ov uP :: ov uU :: .int (nI kAt) :: .int iTo :: .int iFr :: .long JFi :: .int iFa :: .ref qm3 :: .int iSt :: .int iLv :: .int iWs :: vLa :: .ref qmu :: .ref qmy :: .ref qmb :: .ref qms :: .int iNm :: []), zzG cy 3 qmB rB, zzI cy (rB 0) 4 (bkR tA 0), zzI cy (rB 1) 4 (bkR tA 1), zzI cy (rB 2) 4 (bkR tA 2), zzI cy (rB 3) 4 (bkR tA 3), zzI cy (rB 4) 4 (bkR tA 4), zzI cy (rB 5) 4 (bkR tA 5), zzI cy (rB 6) 4 (bkR tA 6), zzI cy (rB 7) 4 (bkR tA 7), zzG cy 3 qmO rO, zzI cy (rO 0) 5 (onR tA 0), zzI cy (rO 1) 5 (onR tA 1), zzI cy (rO 2) 5 (onR tA 2), zzI cy (rO 3) 5 (onR tA 3), zzI cy (rO 4) 5 (onR tA 4), zzI cy (rO 5) 5 (onR tA 5), zzI cy (rO 6) 5 (onR tA 6), zzI cy (rO 7) 5 (onR tA 7), zzG cy 3 qmK rK, zzI cy (rK 0) 8 (T_kn tA 0), zzI cy (rK 1) 8 (T_kn tA 1), zzI cy (rK 2) 8 (T_kn tA 2), zzI cy (rK 3) 8 (T_kn tA 3), zzI cy (rK 4) 8 (T_kn tA 4), zzI cy (rK 5) 8 (T_kn tA 5), zzI cy (rK 6) 8 (T_kn tA 6), zzI cy (rK 7) 8 (T_kn tA 7), zzI cy qmu 8 fMu, zzI cy qmy 5 fNy, zzI cy qmb 5 fNb, zzQ cy 5 qms 6 (sF (refU uN0) (refU uN1) (refU uN2) (refU uN3) (refU uN4))] ++ (oM cy uN0 ++ (oM cy uN1 ++ (oM cy uN2 ++ (oM cy uN3 ++ oM cy uN4))))) ∧ ((0 < kM → isS uN0 = true) ∧ (1 < kM → isS uN1 = true) ∧ (2 < kM → isS uN2 = true) ∧ (3 < kM → isS uN3 = true) ∧ (4 < kM → isS uN4 = true)) ∧ (ROW 0 tA kI tA kM kU fMu fMy fMb iOm fNy fNb iNm))) A) (List.toArray (α := Value) [.ref qm, .ref qm, .int (nI kI), .int 0, .int (nI kM), .int (nI kU)]) s 250 4440 A) (F0 m 69 ls []) := by
              intro n_168
              induction n_168 with
              | zero => intro j_170 fJ_171 hm9; exact absurd hm9 (Nat.not_lt_zero _)
              | succ n_168 ih_169 =>
                intro j_170 fJ_171 hm_174 hj_172 hJ_173 H locs ls hP hD hS hl
                refine lv_iload hx hb (g_21 (v := 7) bX6_rowsFrom rfl) (lv_at hl 0 rfl) ?_
                refine lv_iload hx hb (g_21 (v := 4) bX6_rowsFrom rfl) (lv_at hl 6 rfl) ?_
                refine lv_icmp_ge (tgt := 96) hx hb dX6_rowsFrom_73 (by decide +kernel) (fun c_175 => ?_) (fun c_175 => ?_)
                · have hjM_176 : j_170 = kM := Nat.le_antisymm (by omega) (lp_ge rfl rfl (by omega) (by omega) c_175)
                  refine W.widen (k := 250) (n := 4440) (Nat.le_of_ble_eq_true rfl) (Nat.le_of_ble_eq_true rfl) ?_
                  exact endV (u := ([zzO qm 5 (.ref qmh :: .ref qmo :: .ref qmz :: .ref qmR :: .ref qmv :: .ref qmk :: .ref qma :: .ref qmt :: .int (nI kZ) :: .ref qmr :: .int (nI (T_nb tA)) :: .ref qmB :: .int (nI (T_np tA)) :: .ref qmO :: .ref qmK :: .int iEn :: .int iTk :: .int (T_sd tA) :: ov uP :: ov uU :: .int (nI kAt) :: .int iTo :: .int iFr :: .long JFi :: .int iFa :: .ref qm3 :: .int iSt :: .int iLv :: .int iWs :: vLa :: .ref qmu :: .ref qmy :: .ref qmb :: .ref qms :: .int xS_159 :: []), zzG cy 3 qmB rB, zzI cy (rB 0) 4 (bkR tA 0), zzI cy (rB 1) 4 (bkR tA 1), zzI cy (rB 2) 4 (bkR tA 2), zzI cy (rB 3) 4 (bkR tA 3), zzI cy (rB 4) 4 (bkR tA 4), zzI cy (rB 5) 4 (bkR tA 5), zzI cy (rB 6) 4 (bkR tA 6), zzI cy (rB 7) 4 (bkR tA 7), zzG cy 3 qmO rO, zzI cy (rO 0) 5 (onR tA 0), zzI cy (rO 1) 5 (onR tA 1), zzI cy (rO 2) 5 (onR tA 2), zzI cy (rO 3) 5 (onR tA 3), zzI cy (rO 4) 5 (onR tA 4), zzI cy (rO 5) 5 (onR tA 5), zzI cy (rO 6) 5 (onR tA 6), zzI cy (rO 7) 5 (onR tA 7), zzG cy 3 qmK rK, zzI cy (rK 0) 8 (T_kn tA 0), zzI cy (rK 1) 8 (T_kn tA 1), zzI cy (rK 2) 8 (T_kn tA 2), zzI cy (rK 3) 8 (T_kn tA 3), zzI cy (rK 4) 8 (T_kn tA 4), zzI cy (rK 5) 8 (T_kn tA 5), zzI cy (rK 6) 8 (T_kn tA 6), zzI cy (rK 7) 8 (T_kn tA 7), zzI cy qmu 8 fMu, zzI cy qmy 5 fMy, zzI cy qmb 5 fJ_171, zzQ cy 5 qms 6 (sF (refU uS0) (refU uS1) (refU uS2) (refU uS3) (refU uS4))] ++ (oM cy uS0 ++ (oM cy uS1 ++ (oM cy uS2 ++ (oM cy uS3 ++ oM cy uS4)))))) hx hb hr hlocks (pPt hP [[true, true, true, true, true, true, true, true, true, true, true, true, true, true, true, true, true, true, true, true, true, true, true, true, true, true, true, true, true, true, true, true]] rfl rfl) (dPt hD [[true, true, true, true, true, true, true, true, true, true, true, true, true, true, true, true, true, true, true, true, true, true, true, true, true, true, true, true, true, true, true, true]] (by decide +kernel) rfl rfl) hS ⟨xS_159, fMy, fJ_171, uS0, uS1, uS2, uS3, uS4, rfl, ⟨(fun q => by omega), (fun q => by omega), (fun q => by omega), (fun q => by omega), (fun q => by omega)⟩, (by rw [hs_165]; exact rw_gt hTI0 hNI hLE hKM heM (by rw [← hs_165]; exact c_166) (by have h9 := hJ_173; rw [hjM_176] at h9; exact h9))⟩ (g_177 bX6_rowsFrom rfl)
                · have hlt_177 : j_170 < kM := lp_lt rfl rfl (by omega) (by omega) c_175
                  refine lv_aload_n hx hb (g_42 bX6_rowsFrom rfl) rfl (lv_at hl 2 rfl) ?_
                  refine va_get (D := G) (ci := 5) (v := .ref qmb) (C := RX6) (T := TX6) (N := 35) hx hb hts iX_X6 hown hK hP 0 rfl rfl 32 (by decide +kernel) (hts _ m_t882) (fun _ h9 => h9) rfl (g_180 (v := 64) bX6_rowsFrom rfl) ?_
                  refine lv_iload hx hb (g_21 (v := 7) bX6_rowsFrom rfl) (lv_at hl 0 rfl) ?_
                  refine lv_aload_n hx hb (g_42 bX6_rowsFrom rfl) rfl (lv_at hl 2 rfl) ?_
                  refine va_get (D := G) (ci := 5) (v := .ref qmy) (C := RX6) (T := TX6) (N := 35) hx hb hts iX_X6 hown hK hP 0 rfl rfl 31 (by decide +kernel) (hts _ m_t881) (fun _ h9 => h9) rfl (g_180 (v := 61) bX6_rowsFrom rfl) ?_
                  refine lv_iload hx hb (g_21 (v := 7) bX6_rowsFrom rfl) (lv_at hl 0 rfl) ?_
                  refine va_iald hx hb hK hP 29 0 rfl rfl (vp_in_nI (by omega) (by omega)) (g_46 bX6_rowsFrom rfl) ?_
                  refine lv_seti (v := fMy j_170) (congrArg fMy (nI_clamp (by omega))) ?_
                  refine va_iast hx hb hK hP hD hS 30 0 rfl rfl (vp_in_nI (by omega) (by omega)) (g_79 bX6_rowsFrom rfl) (fun H locs => ?_)
                  clear hP hD hS
                  intro hP hD hS
                  rw [nI_clamp (n := j_170) (by omega)] at hP hD
                  have hPD := pd_as (([_, _, _, _, _, _, _, _, _, _, _, _, _, _, _, _, _, _, _, _, _, _, _, _, _, _, _, _, _, _, zzI cy qmb 5 (upd fJ_171 j_170 (fMy j_170)), _] : va_W) ++ (oM cy uS0 ++ (oM cy uS1 ++ (oM cy uS2 ++ (oM cy uS3 ++ oM cy uS4))))) hP hD rfl
                  clear hP hD
                  obtain ⟨hP, hD⟩ := hPD
                  refine lv_iinc (v := nI (j_170 + 1)) (lv' := [(7, .int (nI (j_170 + 1))), (6, .int xS_159), (0, .ref qm), (1, .ref qm), (2, .int (nI kI)), (3, .int 0), (4, .int (nI kM)), (5, .int (nI kU))]) hx hb dX6_rowsFrom_90 hl (k := 0) rfl (nI_1 _) (by decide +kernel) rfl (fun ls => ?_)
                  clear hl
                  intro hl
                  refine lv_goto (tgt := 69) hx hb dX6_rowsFrom_93 (by decide +kernel) ?_
                  exact ih_169 (j_170 + 1) (upd fJ_171 j_170 (fMy j_170)) (by omega) (by omega) (bc_step hJ_173) _ _ _ hP hD hS (lv_sub hl [0, 1, 2, 3, 4, 5, 6, 7] rfl)
            exact lp_167 ((5 - 0) + 1) 0 fMb (Nat.lt_succ_self _) (Nat.zero_le _) (fun k h => absurd h (Nat.not_lt_zero k)) _ _ ls hP hD hS (lv_sub hl [0, 1, 2, 3, 4, 5, 6, 7] rfl)
        · have hlt_178 : j_158 < T_nb tA := lp_lt rfl rfl (by omega) (by omega) c_163
          refine lv_iload hx hb (g_21 (v := 6) bX6_rowsFrom rfl) (lv_at hl 1 rfl) ?_
          refine lv_aload_n hx hb (g_42 bX6_rowsFrom rfl) rfl (lv_at hl 2 rfl) ?_
          refine va_get (D := G) (ci := 5) (v := .ref qmB) (C := RX6) (T := TX6) (N := 35) hx hb hts iX_X6 hown hK hP 0 rfl rfl 11 (by decide +kernel) (hts _ m_t861) (fun _ h9 => h9) rfl (g_180 (v := 42) bX6_rowsFrom rfl) ?_
          refine lv_iload hx hb (g_21 (v := 7) bX6_rowsFrom rfl) (lv_at hl 0 rfl) ?_
          refine va_alda hx hb hK hP 1 3 rfl rfl (in8 (by omega)) (g_50 bX6_rowsFrom rfl) ?_
          refine lv_setv (v := .ref (rB j_158)) (g_ref (by omega)) ?_
          refine lv_iconst (v := 0) hx hb (g_3 bX6_rowsFrom rfl) (by decide +kernel) ?_
          refine va_iald hx hb hK hP (2 + j_158) 0 (sg8 (n0 := 2) (f := (fun j => zzI cy (rB j) 4 (bkR tA j))) rfl rfl rfl rfl rfl rfl rfl rfl j_158 (by omega)) rfl (in_c rfl) (g_46 bX6_rowsFrom rfl) ?_
          refine lv_seti (v := T_wo tA j_158) (bk_0 _ _) ?_
          refine lv_aload_n hx hb (g_43 bX6_rowsFrom rfl) rfl (lv_at hl 3 rfl) ?_
          refine va_get (D := G) (ci := 5) (v := .ref qmK) (C := RX6) (T := TX6) (N := 35) hx hb hts iX_X6 hown hK hP 0 rfl rfl 14 (by decide +kernel) (hts _ m_t864) (fun _ h9 => h9) rfl (g_180 (v := 48) bX6_rowsFrom rfl) ?_
          refine lv_iload_n hx hb (g_28 bX6_rowsFrom rfl) rfl (lv_at hl 4 rfl) ?_
          refine va_alda hx hb hK hP 19 3 rfl rfl (in8 (by omega)) (g_50 bX6_rowsFrom rfl) ?_
          refine lv_setv (v := .ref (rK kI)) (g_ref (by omega)) ?_
          refine lv_iload hx hb (g_21 (v := 7) bX6_rowsFrom rfl) (lv_at hl 0 rfl) ?_
          refine va_iald hx hb hK hP (20 + kI) 0 (sg8 (n0 := 20) (f := (fun j => zzI cy (rK j) 8 (T_kn tA j))) rfl rfl rfl rfl rfl rfl rfl rfl kI (by omega)) rfl (vp_in_nI (by omega) (by omega)) (g_46 bX6_rowsFrom rfl) ?_
          refine lv_seti (v := T_kn tA kI j_158) (congrArg (T_kn tA kI) (nI_clamp (by omega))) ?_
          refine lv_imul hx hb (g_104 bX6_rowsFrom rfl) ?_
          refine lv_iadd hx hb (g_96 bX6_rowsFrom rfl) ?_
          refine lv_istore (lv' := [(6, .int (xS_159 + ((T_wo tA j_158) * (T_kn tA kI j_158)))), (7, .int (nI j_158)), (0, .ref qm), (1, .ref qm), (2, .int (nI kI)), (3, .int 0), (4, .int (nI kM)), (5, .int (nI kU))]) hx hb (g_54 (v := 6) bX6_rowsFrom rfl) hl (by decide +kernel) rfl (fun ls => ?_)
          clear hl
          intro hl
          refine lv_iinc (v := nI (j_158 + 1)) (lv' := [(7, .int (nI (j_158 + 1))), (6, .int (xS_159 + ((T_wo tA j_158) * (T_kn tA kI j_158)))), (0, .ref qm), (1, .ref qm), (2, .int (nI kI)), (3, .int 0), (4, .int (nI kM)), (5, .int (nI kU))]) hx hb dX6_rowsFrom_45 hl (k := 1) rfl (nI_1 _) (by decide +kernel) rfl (fun ls => ?_)
          clear hl
          intro hl
          refine lv_goto (tgt := 12) hx hb dX6_rowsFrom_48 (by decide +kernel) ?_
          exact ih_157 (j_158 + 1) (xS_159 + ((T_wo tA j_158) * (T_kn tA kI j_158))) (by omega) (by omega) (by rw [hE_161]; rfl) _ _ _ hP hD hS (lv_sub hl [0, 1, 2, 3, 4, 5, 6, 7] rfl)
    exact lp_155 ((8 - 0) + 1) 0 0 (Nat.lt_succ_self _) (Nat.zero_le _) rfl _ _ ls hP hD hS (lv_sub hl [0, 1, 2, 3, 4, 5, 6, 7] rfl)
end
section
set_option maxHeartbeats 4000000 in
set_option maxRecDepth 100000 in
theorem x_X6_order (l : Launch) (G : va_G) (cy : Nat → ClassId) (sz : Nat) (qm : Nat) (qmh : Nat) (qmo : Nat) (qmz : Nat) (qmR : Nat) (qmv : Nat) (qmk : Nat) (qma : Nat) (qmt : Nat) (kZ : Nat) (qmr : Nat) (tA : TA) (qmB : Nat) (qmO : Nat) (qmK : Nat) (iEn : Int32) (iTk : Int32) (uP : UM) (uU : UM) (kAt : Nat) (iTo : Int32) (iFr : Int32) (JFi : Int64) (iFa : Int32) (qm3 : Nat) (iSt : Int32) (iLv : Int32) (iWs : Int32) (vLa : Value) (qmu : Nat) (qmy : Nat) (qmb : Nat) (qms : Nat) (iOm : Int32) (fMr : Nat → Int32) (rB : Nat → Nat) (rO : Nat → Nat) (rK : Nat → Nat) (fMu : Nat → Int32) (fMy : Nat → Int32) (fMb : Nat → Int32) (uS0 : UM) (uS1 : UM) (uS2 : UM) (uS3 : UM) (uS4 : UM) (iA : Int32) (iB : Int32)  (hB : T_nb tA ≤ 8) (hPp : T_np tA ≤ 8) (hWI : WI tA) (hNI : NI tA) : MW l yX6_order cX6_order 5 (some .int) 16 250 4440 G cy ((zzO qm 5 (.ref qmh :: .ref qmo :: .ref qmz :: .ref qmR :: .ref qmv :: .ref qmk :: .ref qma :: .ref qmt :: .int (nI kZ) :: .ref qmr :: .int (nI (T_nb tA)) :: .ref qmB :: .int (nI (T_np tA)) :: .ref qmO :: .ref qmK :: .int iEn :: .int iTk :: .int (T_sd tA) :: ov uP :: ov uU :: .int (nI kAt) :: .int iTo :: .int iFr :: .long JFi :: .int iFa :: .ref qm3 :: .int iSt :: .int iLv :: .int iWs :: vLa :: .ref qmu :: .ref qmy :: .ref qmb :: .ref qms :: .int iOm :: []) :: zzI cy qmr 8 fMr :: zzG cy 3 qmB rB :: zzI cy (rB 0) 4 (bkR tA 0) :: zzI cy (rB 1) 4 (bkR tA 1) :: zzI cy (rB 2) 4 (bkR tA 2) :: zzI cy (rB 3) 4 (bkR tA 3) :: zzI cy (rB 4) 4 (bkR tA 4) :: zzI cy (rB 5) 4 (bkR tA 5) :: zzI cy (rB 6) 4 (bkR tA 6) :: zzI cy (rB 7) 4 (bkR tA 7) :: zzG cy 3 qmO rO :: zzI cy (rO 0) 5 (onR tA 0) :: zzI cy (rO 1) 5 (onR tA 1) :: zzI cy (rO 2) 5 (onR tA 2) :: zzI cy (rO 3) 5 (onR tA 3) :: zzI cy (rO 4) 5 (onR tA 4) :: zzI cy (rO 5) 5 (onR tA 5) :: zzI cy (rO 6) 5 (onR tA 6) :: zzI cy (rO 7) 5 (onR tA 7) :: zzG cy 3 qmK rK :: zzI cy (rK 0) 8 (T_kn tA 0) :: zzI cy (rK 1) 8 (T_kn tA 1) :: zzI cy (rK 2) 8 (T_kn tA 2) :: zzI cy (rK 3) 8 (T_kn tA 3) :: zzI cy (rK 4) 8 (T_kn tA 4) :: zzI cy (rK 5) 8 (T_kn tA 5) :: zzI cy (rK 6) 8 (T_kn tA 6) :: zzI cy (rK 7) 8 (T_kn tA 7) :: zzI cy qmu 8 fMu :: zzI cy qmy 5 fMy :: zzI cy qmb 5 fMb :: zzQ cy 5 qms 6 (sF (refU uS0) (refU uS1) (refU uS2) (refU uS3) (refU uS4)) :: []) ++ (oM cy uS0 ++ (oM cy uS1 ++ (oM cy uS2 ++ (oM cy uS3 ++ oM cy uS4))))) sz [.ref qm, .int iA, .int iB] (Wi G (fun r u => ∃ (iNm : Int32) (fNr : Nat → Int32) (fNu : Nat → Int32) (fNy : Nat → Int32) (fNb : Nat → Int32) (uN0 : UM) (uN1 : UM) (uN2 : UM) (uN3 : UM) (uN4 : UM), u = ((zzO qm 5 (.ref qmh :: .ref qmo :: .ref qmz :: .ref qmR :: .ref qmv :: .ref qmk :: .ref qma :: .ref qmt :: .int (nI kZ) :: .ref qmr :: .int (nI (T_nb tA)) :: .ref qmB :: .int (nI (T_np tA)) :: .ref qmO :: .ref qmK :: .int iEn :: .int iTk :: .int (T_sd tA) :: ov uP :: ov uU :: .int (nI kAt) :: .int iTo :: .int iFr :: .long JFi :: .int iFa :: .ref qm3 :: .int iSt :: .int iLv :: .int iWs :: vLa :: .ref qmu :: .ref qmy :: .ref qmb :: .ref qms :: .int iNm :: []) :: zzI cy qmr 8 fNr :: zzG cy 3 qmB rB :: zzI cy (rB 0) 4 (bkR tA 0) :: zzI cy (rB 1) 4 (bkR tA 1) :: zzI cy (rB 2) 4 (bkR tA 2) :: zzI cy (rB 3) 4 (bkR tA 3) :: zzI cy (rB 4) 4 (bkR tA 4) :: zzI cy (rB 5) 4 (bkR tA 5) :: zzI cy (rB 6) 4 (bkR tA 6) :: zzI cy (rB 7) 4 (bkR tA 7) :: zzG cy 3 qmO rO :: zzI cy (rO 0) 5 (onR tA 0) :: zzI cy (rO 1) 5 (onR tA 1) :: zzI cy (rO 2) 5 (onR tA 2) :: zzI cy (rO 3) 5 (onR tA 3) :: zzI cy (rO 4) 5 (onR tA 4) :: zzI cy (rO 5) 5 (onR tA 5) :: zzI cy (rO 6) 5 (onR tA 6) :: zzI cy (rO 7) 5 (onR tA 7) :: zzG cy 3 qmK rK :: zzI cy (rK 0) 8 (T_kn tA 0) :: zzI cy (rK 1) 8 (T_kn tA 1) :: zzI cy (rK 2) 8 (T_kn tA 2) :: zzI cy (rK 3) 8 (T_kn tA 3) :: zzI cy (rK 4) 8 (T_kn tA 4) :: zzI cy (rK 5) 8 (T_kn tA 5) :: zzI cy (rK 6) 8 (T_kn tA 6) :: zzI cy (rK 7) 8 (T_kn tA 7) :: zzI cy qmu 8 fNu :: zzI cy qmy 5 fNy :: zzI cy qmb 5 fNb :: zzQ cy 5 qms 6 (sF (refU uN0) (refU uN1) (refU uN2) (refU uN3) (refU uN4)) :: []) ++ (oM cy uN0 ++ (oM cy uN1 ++ (oM cy uN2 ++ (oM cy uN3 ++ oM cy uN4))))) ∧ (PMo tA iA iB r) ∧ (True))) := by
  refine enW RX6 (by decide +kernel) rfl (Nat.le_of_ble_eq_true rfl) (fun p e s m below meth c ls A hx hb hml hown hts hr hlocks hP hN hl hin hD hA hS => ?_)
  have hin : meth.name = _ := hin
  have hK := hN.1
  replace hl : lv_has ls 5 [(0, .ref qm), (1, .int iA), (2, .int iB)] := hl
  refine lv_iconst (v := 0) hx hb (g_3 bX6_order rfl) (by decide +kernel) ?_
  refine lv_istore_n (lv' := [(3, .int 0), (0, .ref qm), (1, .int iA), (2, .int iB)]) hx hb (g_62 bX6_order rfl) rfl hl (by decide +kernel) rfl (fun ls => ?_)
  clear hl
  intro hl
  refine lv_iconst (v := 0) hx hb (g_3 bX6_order rfl) (by decide +kernel) ?_
  refine lv_istore (lv' := [(4, .int 0), (3, .int 0), (0, .ref qm), (1, .int iA), (2, .int iB)]) hx hb (g_54 (v := 4) bX6_order rfl) hl (by decide +kernel) rfl (fun ls => ?_)
  clear hl
  intro hl
  replace hl : lv_has ls 5 [(4, .int (nI 0)), (3, .int (nI 0)), (0, .ref qm), (1, .int iA), (2, .int iB)] := hl
  have lp_1 : ∀ (n_2 : Nat) (j_4 : Nat) (m_5 : Nat) (fJ_6 : Nat → Int32), 8 - j_4 < n_2 → j_4 ≤ T_nb tA → m_5 = (unF tA j_4).1 → (∀ k, k < m_5 → fJ_6 k = nI ((unF tA j_4).2 k)) → ∀ (H : Heap) (locs : List Loc) (ls : Array Slot), va_P G CL ((zzO qm 5 (.ref qmh :: .ref qmo :: .ref qmz :: .ref qmR :: .ref qmv :: .ref qmk :: .ref qma :: .ref qmt :: .int (nI kZ) :: .ref qmr :: .int (nI (T_nb tA)) :: .ref qmB :: .int (nI (T_np tA)) :: .ref qmO :: .ref qmK :: .int iEn :: .int iTk :: .int (T_sd tA) :: ov uP :: ov uU :: .int (nI kAt) :: .int iTo :: .int iFr :: .long JFi :: .int iFa :: .ref qm3 :: .int iSt :: .int iLv :: .int iWs :: vLa :: .ref qmu :: .ref qmy :: .ref qmb :: .ref qms :: .int iOm :: []) :: zzI cy qmr 8 fMr :: zzG cy 3 qmB rB :: zzI cy (rB 0) 4 (bkR tA 0) :: zzI cy (rB 1) 4 (bkR tA 1) :: zzI cy (rB 2) 4 (bkR tA 2) :: zzI cy (rB 3) 4 (bkR tA 3) :: zzI cy (rB 4) 4 (bkR tA 4) :: zzI cy (rB 5) 4 (bkR tA 5) :: zzI cy (rB 6) 4 (bkR tA 6) :: zzI cy (rB 7) 4 (bkR tA 7) :: zzG cy 3 qmO rO :: zzI cy (rO 0) 5 (onR tA 0) :: zzI cy (rO 1) 5 (onR tA 1) :: zzI cy (rO 2) 5 (onR tA 2) :: zzI cy (rO 3) 5 (onR tA 3) :: zzI cy (rO 4) 5 (onR tA 4) :: zzI cy (rO 5) 5 (onR tA 5) :: zzI cy (rO 6) 5 (onR tA 6) :: zzI cy (rO 7) 5 (onR tA 7) :: zzG cy 3 qmK rK :: zzI cy (rK 0) 8 (T_kn tA 0) :: zzI cy (rK 1) 8 (T_kn tA 1) :: zzI cy (rK 2) 8 (T_kn tA 2) :: zzI cy (rK 3) 8 (T_kn tA 3) :: zzI cy (rK 4) 8 (T_kn tA 4) :: zzI cy (rK 5) 8 (T_kn tA 5) :: zzI cy (rK 6) 8 (T_kn tA 6) :: zzI cy (rK 7) 8 (T_kn tA 7) :: zzI cy qmu 8 fJ_6 :: zzI cy qmy 5 fMy :: zzI cy qmb 5 fMb :: zzQ cy 5 qms 6 (sF (refU uS0) (refU uS1) (refU uS2) (refU uS3) (refU uS4)) :: []) ++ (oM cy uS0 ++ (oM cy uS1 ++ (oM cy uS2 ++ (oM cy uS3 ++ oM cy uS4))))) H → va_D A ((zzO qm 5 (.ref qmh :: .ref qmo :: .ref qmz :: .ref qmR :: .ref qmv :: .ref qmk :: .ref qma :: .ref qmt :: .int (nI kZ) :: .ref qmr :: .int (nI (T_nb tA)) :: .ref qmB :: .int (nI (T_np tA)) :: .ref qmO :: .ref qmK :: .int iEn :: .int iTk :: .int (T_sd tA) :: ov uP :: ov uU :: .int (nI kAt) :: .int iTo :: .int iFr :: .long JFi :: .int iFa :: .ref qm3 :: .int iSt :: .int iLv :: .int iWs :: vLa :: .ref qmu :: .ref qmy :: .ref qmb :: .ref qms :: .int iOm :: []) :: zzI cy qmr 8 fMr :: zzG cy 3 qmB rB :: zzI cy (rB 0) 4 (bkR tA 0) :: zzI cy (rB 1) 4 (bkR tA 1) :: zzI cy (rB 2) 4 (bkR tA 2) :: zzI cy (rB 3) 4 (bkR tA 3) :: zzI cy (rB 4) 4 (bkR tA 4) :: zzI cy (rB 5) 4 (bkR tA 5) :: zzI cy (rB 6) 4 (bkR tA 6) :: zzI cy (rB 7) 4 (bkR tA 7) :: zzG cy 3 qmO rO :: zzI cy (rO 0) 5 (onR tA 0) :: zzI cy (rO 1) 5 (onR tA 1) :: zzI cy (rO 2) 5 (onR tA 2) :: zzI cy (rO 3) 5 (onR tA 3) :: zzI cy (rO 4) 5 (onR tA 4) :: zzI cy (rO 5) 5 (onR tA 5) :: zzI cy (rO 6) 5 (onR tA 6) :: zzI cy (rO 7) 5 (onR tA 7) :: zzG cy 3 qmK rK :: zzI cy (rK 0) 8 (T_kn tA 0) :: zzI cy (rK 1) 8 (T_kn tA 1) :: zzI cy (rK 2) 8 (T_kn tA 2) :: zzI cy (rK 3) 8 (T_kn tA 3) :: zzI cy (rK 4) 8 (T_kn tA 4) :: zzI cy (rK 5) 8 (T_kn tA 5) :: zzI cy (rK 6) 8 (T_kn tA 6) :: zzI cy (rK 7) 8 (T_kn tA 7) :: zzI cy qmu 8 fJ_6 :: zzI cy qmy 5 fMy :: zzI cy qmb 5 fMb :: zzQ cy 5 qms 6 (sF (refU uS0) (refU uS1) (refU uS2) (refU uS3) (refU uS4)) :: []) ++ (oM cy uS0 ++ (oM cy uS1 ++ (oM cy uS2 ++ (oM cy uS3 ++ oM cy uS4))))) → va_S A s.heap H locs → lv_has ls 5 [(4, .int (nI j_4)), (3, .int (nI m_5)), (0, .ref qm), (1, .int iA), (2, .int iB)] → W p l e (Rm 16 250 4440) s m (List.toArray (α := Value) [.ref qm, .int iA, .int iB]) below meth c H locs 0 0 (MQ below ((Wi G (fun r u => ∃ (iNm : Int32) (fNr : Nat → Int32) (fNu : Nat → Int32) (fNy : Nat → Int32) (fNb : Nat → Int32) (uN0 : UM) (uN1 : UM) (uN2 : UM) (uN3 : UM) (uN4 : UM), u = ((zzO qm 5 (.ref qmh :: .ref qmo :: .ref qmz :: .ref qmR :: .ref qmv :: .ref qmk :: .ref qma :: .ref qmt :: .int (nI kZ) :: .ref qmr :: .int (nI (T_nb tA)) :: .ref qmB :: .int (nI (T_np tA)) :: .ref qmO :: .ref qmK :: .int iEn :: .int iTk :: .int (T_sd tA) :: ov uP :: ov uU :: .int (nI kAt) :: .int iTo :: .int iFr :: .long JFi :: .int iFa :: .ref qm3 :: .int iSt :: .int iLv :: .int iWs :: vLa :: .ref qmu :: .ref qmy :: .ref qmb :: .ref qms :: .int iNm :: []) :: zzI cy qmr 8 fNr :: zzG cy 3 qmB rB :: zzI cy (rB 0) 4 (bkR tA 0) :: zzI cy (rB 1) 4 (bkR tA 1) :: zzI cy (rB 2) 4 (bkR tA 2) :: zzI cy (rB 3) 4 (bkR tA 3) :: zzI cy (rB 4) 4 (bkR tA 4) :: zzI cy (rB 5) 4 (bkR tA 5) :: zzI cy (rB 6) 4 (bkR tA 6) :: zzI cy (rB 7) 4 (bkR tA 7) :: zzG cy 3 qmO rO :: zzI cy (rO 0) 5 (onR tA 0) :: zzI cy (rO 1) 5 (onR tA 1) :: zzI cy (rO 2) 5 (onR tA 2) :: zzI cy (rO 3) 5 (onR tA 3) :: zzI cy (rO 4) 5 (onR tA 4) :: zzI cy (rO 5) 5 (onR tA 5) :: zzI cy (rO 6) 5 (onR tA 6) :: zzI cy (rO 7) 5 (onR tA 7) :: zzG cy 3 qmK rK :: zzI cy (rK 0) 8 (T_kn tA 0) :: zzI cy (rK 1) 8 (T_kn tA 1) :: zzI cy (rK 2) 8 (T_kn tA 2) :: zzI cy (rK 3) 8 (T_kn tA 3) :: zzI cy (rK 4) 8 (T_kn tA 4) :: zzI cy (rK 5) 8 (T_kn tA 5) :: zzI cy (rK 6) 8 (T_kn tA 6) :: zzI cy (rK 7) 8 (T_kn tA 7) :: zzI cy qmu 8 fNu :: zzI cy qmy 5 fNy :: zzI cy qmb 5 fNb :: zzQ cy 5 qms 6 (sF (refU uN0) (refU uN1) (refU uN2) (refU uN3) (refU uN4)) :: []) ++ (oM cy uN0 ++ (oM cy uN1 ++ (oM cy uN2 ++ (oM cy uN3 ++ oM cy uN4))))) ∧ (PMo tA iA iB r) ∧ (True))) A) (List.toArray (α := Value) [.ref qm, .int iA, .int iB]) s 250 4440 A) (F0 m 5 ls []) := by
    intro n_2
    induction n_2 with
    | zero => intro j_4 m_5 fJ_6 hm9; exact absurd hm9 (Nat.not_lt_zero _)
    | succ n_2 ih_3 =>
      intro j_4 m_5 fJ_6 hm_10 hj_7 hm_10 hUn_9 H locs ls hP hD hS hl
      refine lv_iload hx hb (g_21 (v := 4) bX6_order rfl) (lv_at hl 0 rfl) ?_
      refine lv_aload_n hx hb (g_42 bX6_order rfl) rfl (lv_at hl 2 rfl) ?_
      refine va_get (D := G) (ci := 5) (v := .int (nI (T_nb tA))) (C := RX6) (T := TX6) (N := 35) hx hb hts iX_X6 hown hK hP 0 rfl rfl 10 (by decide +kernel) (hts _ m_t860) (fun _ h9 => h9) rfl (g_180 (v := 71) bX6_order rfl) ?_
      refine lv_icmp_ge (tgt := 40) hx hb dX6_order_11 (by decide +kernel) (fun c_11 => ?_) (fun c_11 => ?_)
      · have hlt_12l := (un_in tA j_4).1
        have hlt_12 : j_4 = T_nb tA := Nat.le_antisymm (by omega) (lp_ge rfl rfl (by omega) (by omega) c_11)
        have hlt_12m := hm_10
        have hlt_12u := hUn_9
        rw [hlt_12] at hlt_12m hlt_12u
        refine lv_aload_n hx hb (g_42 bX6_order rfl) rfl (lv_at hl 2 rfl) ?_
        refine lv_iload_n hx hb (g_27 bX6_order rfl) rfl (lv_at hl 3 rfl) ?_
        refine lv_i2l (v := iA.toInt64) hx hb (g_133 bX6_order rfl) rfl ?_
        refine kRi (rV (As := [.long iA.toInt64]) (rest := []) (b := qm) ⟨hx, hb, hml, hown, hts⟩ (c_X6_isOne l G cy qm (.ref qmh) (.ref qmo) (.ref qmz) (.ref qmR) (.ref qmv) (.ref qmk) (.ref qma) (.ref qmt) (.int (nI kZ)) (.ref qmr) tA qmB qmO qmK iEn iTk (ov uP) (ov uU) (.int (nI kAt)) (.int iTo) (.int iFr) (.long JFi) (.int iFa) (.ref qm3) (.int iSt) iLv iWs vLa (.ref qmu) (.ref qmy) (.ref qmb) (.ref qms) (.int iOm) iA hPp) L_X6_236 (preRV (q := (RX6, TX6, 35)) hN hP [0] rfl 0 5 rfl rfl) rfl ⟨Nat.le_of_ble_eq_true rfl, Nat.le_of_ble_eq_true rfl⟩ hl.1 (Nat.le_of_ble_eq_true rfl) (g_182 (v := 236) bX6_order rfl) ⟨Nat.le_of_ble_eq_true rfl, Nat.le_of_ble_eq_true rfl⟩) (fun r_13 h_14 => ?_)
        rcases h_14 with ⟨rfl, h_15⟩ | ⟨rfl, h_15⟩
        · obtain ⟨k_16, hk_17, rfl⟩ := h_15
          refine lv_if_eq (tgt := 64) hx hb dX6_order_46 (by decide +kernel) (fun h9 => absurd h9 (by decide +kernel)) (fun _ => ?_)
          refine lv_iload_n hx hb (g_28 bX6_order rfl) rfl (lv_at hl 4 rfl) ?_
          refine lv_i2l (v := iB.toInt64) hx hb (g_133 bX6_order rfl) rfl ?_
          refine lv_ldc2 hx hb hown (hts _ m_t1312) (g_20 (v := 330) bX6_order rfl) ?_
          refine lv_iload_n hx hb (g_29 bX6_order rfl) rfl (lv_at hl 1 rfl) ?_
          refine lv_iconst (v := 1) hx hb (g_4 bX6_order rfl) (by decide +kernel) ?_
          refine lv_isub hx hb (g_100 bX6_order rfl) ?_
          refine lv_i2l (v := ((nI m_5) - 1).toInt64) hx hb (g_133 bX6_order rfl) rfl ?_
          refine kRi (rS (As := [.long iB.toInt64, .long (-1), .long (((nI m_5) - 1).toInt64)]) (rest := []) ⟨hx, hb, hml, hown, hts⟩ (c_X6_in l G cy iB.toInt64 (-1) (((nI m_5) - 1).toInt64)) L_X6_74 (preRS hN hP [] rfl) rfl ⟨Nat.le_of_ble_eq_true rfl, Nat.le_of_ble_eq_true rfl⟩ hl.1 (Nat.le_of_ble_eq_true rfl) (g_184 (v := 74) bX6_order rfl) ⟨Nat.le_of_ble_eq_true rfl, Nat.le_of_ble_eq_true rfl⟩) (fun r_19 h_20 => ?_)
          rcases h_20 with ⟨rfl, h_21⟩ | ⟨rfl, h_21⟩
          · refine lv_if_ne (tgt := 71) hx hb dX6_order_61 (by decide +kernel) (fun _ => ?_) (fun h9 => absurd h9 (by decide +kernel))
            refine lv_aload_n hx hb (g_42 bX6_order rfl) rfl (lv_at hl 2 rfl) ?_
            refine lv_iload_n hx hb (g_27 bX6_order rfl) rfl (lv_at hl 3 rfl) ?_
            refine kRi (rV (As := [.int (nI k_16)]) (rest := []) (b := qm) ⟨hx, hb, hml, hown, hts⟩ (c_X6_isThere l G cy qm (.ref qmh) (.ref qmo) (.ref qmz) (.ref qmR) (.ref qmv) (.ref qmk) (.ref qma) (.ref qmt) (.int (nI kZ)) (.ref qmr) tA qmB qmO qmK iEn iTk (ov uP) (ov uU) (.int (nI kAt)) (.int iTo) (.int iFr) (.long JFi) (.int iFa) (.ref qm3) (.int iSt) iLv iWs vLa (.ref qmu) (.ref qmy) (.ref qmb) (.ref qms) (.int iOm) rO k_16 (by omega)) L_X6_81 (preRV (q := (RX6, TX6, 35)) hN hP (trueIx 0 [true, false, false, false, false, false, false, false, false, false, false, true, true, true, true, true, true, true, true, true]) (sel_fm rfl rfl) 0 5 rfl rfl) rfl ⟨Nat.le_of_ble_eq_true rfl, Nat.le_of_ble_eq_true rfl⟩ hl.1 (Nat.le_of_ble_eq_true rfl) (g_182 (v := 81) bX6_order rfl) ⟨Nat.le_of_ble_eq_true rfl, Nat.le_of_ble_eq_true rfl⟩) (fun r_23 h_24 => ?_)
            rcases h_24 with ⟨rfl, h_25⟩ | ⟨rfl, h_25⟩
            · refine lv_if_eq (tgt := 84) hx hb dX6_order_76 (by decide +kernel) (fun h9 => absurd h9 (by decide +kernel)) (fun _ => ?_)
              refine lv_iload_n hx hb (g_29 bX6_order rfl) rfl (lv_at hl 1 rfl) ?_
              refine lv_iconst (v := 5) hx hb (g_8 bX6_order rfl) (by decide +kernel) ?_
              refine lv_icmp_le (tgt := 91) hx hb dX6_order_81 (by decide +kernel) (fun c_27 => ?_) (fun c_27 => ?_)
              · have hm5 : m_5 ≤ 5 := le5 (by omega) c_27
                refine lv_aload_n hx hb (g_42 bX6_order rfl) rfl (lv_at hl 2 rfl) ?_
                refine lv_iconst (v := (-1)) hx hb (g_2 bX6_order rfl) (by decide +kernel) ?_
                refine va_put (D := G) (ci := 5) (v := .int (-1)) (ty := .int) (C := RX6) (T := TX6) (N := 35) hx hb hts iX_X6 tyX6 tyX6_ok nmX6 hown hK hP hD hS 0 rfl rfl 34 (by decide +kernel) (hts _ m_t884) (fun _ h9 => h9) rfl (by decide +kernel) rfl rfl (Nat.le_of_ble_eq_true rfl) (g_181 (v := 323) bX6_order rfl) (fun H locs => ?_)
                clear hP hD hS
                intro hP hD hS
                have hPD := pd_as (((zzO qm 5 (.ref qmh :: .ref qmo :: .ref qmz :: .ref qmR :: .ref qmv :: .ref qmk :: .ref qma :: .ref qmt :: .int (nI kZ) :: .ref qmr :: .int (nI (T_nb tA)) :: .ref qmB :: .int (nI (T_np tA)) :: .ref qmO :: .ref qmK :: .int iEn :: .int iTk :: .int (T_sd tA) :: ov uP :: ov uU :: .int (nI kAt) :: .int iTo :: .int iFr :: .long JFi :: .int iFa :: .ref qm3 :: .int iSt :: .int iLv :: .int iWs :: vLa :: .ref qmu :: .ref qmy :: .ref qmb :: .ref qms :: .int (-1) :: []) :: _ :: _ :: _ :: _ :: _ :: _ :: _ :: _ :: _ :: _ :: _ :: _ :: _ :: _ :: _ :: _ :: _ :: _ :: _ :: _ :: _ :: _ :: _ :: _ :: _ :: _ :: _ :: _ :: zzI cy qmu 8 fJ_6 :: _ :: _ :: _ :: []) : va_W) ++ (oM cy uS0 ++ (oM cy uS1 ++ (oM cy uS2 ++ (oM cy uS3 ++ oM cy uS4))))) hP hD rfl
                clear hP hD
                obtain ⟨hP, hD⟩ := hPD
                refine lv_aload_n hx hb (g_42 bX6_order rfl) rfl (lv_at hl 2 rfl) ?_
                refine lv_aload_n hx hb (g_42 bX6_order rfl) rfl (lv_at hl 2 rfl) ?_
                refine lv_iload_n hx hb (g_27 bX6_order rfl) rfl (lv_at hl 3 rfl) ?_
                refine lv_iconst (v := 0) hx hb (g_3 bX6_order rfl) (by decide +kernel) ?_
                refine lv_iload_n hx hb (g_29 bX6_order rfl) rfl (lv_at hl 1 rfl) ?_
                refine lv_iconst (v := 0) hx hb (g_3 bX6_order rfl) (by decide +kernel) ?_
                refine lv_seti (v := nI 0) rfl ?_
                have hcu := cu_0 m_5 (by omega)
                refine cVvP (As := [.ref qm, .int (nI k_16), .int 0, .int (nI m_5), .int (nI 0)]) (rest := []) (b := qm) (q := (RX6, TX6, 35)) ⟨hx, hb, hml, hown, hts⟩ (x_X6_rows0 l G cy (H).size qm qmh qmo qmz qmR qmv qmk qma qmt kZ qmr tA qmB qmO qmK iEn iTk uP uU kAt iTo iFr JFi iFa qm3 iSt iLv iWs vLa qmu qmy qmb qms (-1) rB rO rK fJ_6 fMy fMb uS0 uS1 uS2 uS3 uS4 k_16 m_5 0 (by omega) (by omega) (by omega) (by omega) (by omega) hB hWI.1 hNI (le_0 hWI.1 _) hlt_12m hlt_12u) L_X6_326 hN hP hD hS hA (trueIx 0 (true :: false :: true :: true :: true :: true :: true :: true :: true :: true :: true :: true :: true :: true :: true :: true :: true :: true :: true :: true :: true :: true :: true :: true :: true :: true :: true :: true :: true :: true :: true :: true :: true :: [])) (false :: true :: false :: false :: false :: false :: false :: false :: false :: false :: false :: false :: false :: false :: false :: false :: false :: false :: false :: false :: false :: false :: false :: false :: false :: false :: false :: false :: false :: false :: false :: false :: false :: []) (sel_eq rfl rfl) (by decide +kernel) rfl 0 5 rfl rfl rfl ⟨Nat.le_of_ble_eq_true rfl, Nat.le_of_ble_eq_true rfl⟩ hl.1 (Nat.le_of_ble_eq_true rfl) (g_182 (v := 326) bX6_order rfl) ⟨Nat.le_of_ble_eq_true rfl, Nat.le_of_ble_eq_true rfl⟩ (fun u_30 H locs h_29 => ?_)
                clear hP hD hS
                intro hP hD hS
                obtain ⟨iNm_31, fNy_32, fNb_33, uN_34, uN_35, uN_36, uN_37, uN_38, rfl, h_39, h_40⟩ := h_29
                replace hP := al_P hP
                replace hD := al_D hD
                have hPD := pd_as (((_ :: zzO qm 5 (.ref qmh :: .ref qmo :: .ref qmz :: .ref qmR :: .ref qmv :: .ref qmk :: .ref qma :: .ref qmt :: .int (nI kZ) :: .ref qmr :: .int (nI (T_nb tA)) :: .ref qmB :: .int (nI (T_np tA)) :: .ref qmO :: .ref qmK :: .int iEn :: .int iTk :: .int (T_sd tA) :: ov uP :: ov uU :: .int (nI kAt) :: .int iTo :: .int iFr :: .long JFi :: .int iFa :: .ref qm3 :: .int iSt :: .int iLv :: .int iWs :: vLa :: .ref qmu :: .ref qmy :: .ref qmb :: .ref qms :: .int iNm_31 :: []) :: _ :: _ :: _ :: _ :: _ :: _ :: _ :: _ :: _ :: _ :: _ :: _ :: _ :: _ :: _ :: _ :: _ :: _ :: _ :: _ :: _ :: _ :: _ :: _ :: _ :: _ :: _ :: _ :: zzI cy qmy 5 fNy_32 :: zzI cy qmb 5 fNb_33 :: zzQ cy 5 qms 6 (sF (refU uN_34) (refU uN_35) (refU uN_36) (refU uN_37) (refU uN_38)) :: []) : va_W) ++ (oM cy uN_34 ++ (oM cy uN_35 ++ (oM cy uN_36 ++ (oM cy uN_37 ++ oM cy uN_38))))) hP hD rfl
                clear hP hD
                obtain ⟨hP, hD⟩ := hPD
                refine W.widen (k := 250) (n := 4440) (Nat.le_of_ble_eq_true rfl) (Nat.le_of_ble_eq_true rfl) ?_
                refine lv_iload_n hx hb (g_28 bX6_order rfl) rfl (lv_at hl 4 rfl) ?_
                refine lv_iconst (v := (-1)) hx hb (g_2 bX6_order rfl) (by decide +kernel) ?_
                refine lv_icmp_ne (tgt := 117) hx hb dX6_order_107 (by decide +kernel) (fun c_41 => ?_) (fun c_41 => ?_)
                · refine lv_aload_n hx hb (g_42 bX6_order rfl) rfl (lv_at hl 2 rfl) ?_
                  refine va_get (D := G) (ci := 5) (v := .ref qmb) (C := RX6) (T := TX6) (N := 35) hx hb hts iX_X6 hown hK hP 1 rfl rfl 32 (by decide +kernel) (hts _ m_t882) (fun _ h9 => h9) rfl (g_180 (v := 64) bX6_order rfl) ?_
                  refine lv_iload_n hx hb (g_28 bX6_order rfl) rfl (lv_at hl 4 rfl) ?_
                  refine va_iald hx hb hK hP 31 0 rfl rfl (bst_in (m := m_5) (by omega) h_21 c_41) (g_46 bX6_order rfl) ?_
                  exact endW (u := ((zzO qm 5 (.ref qmh :: .ref qmo :: .ref qmz :: .ref qmR :: .ref qmv :: .ref qmk :: .ref qma :: .ref qmt :: .int (nI kZ) :: .ref qmr :: .int (nI (T_nb tA)) :: .ref qmB :: .int (nI (T_np tA)) :: .ref qmO :: .ref qmK :: .int iEn :: .int iTk :: .int (T_sd tA) :: ov uP :: ov uU :: .int (nI kAt) :: .int iTo :: .int iFr :: .long JFi :: .int iFa :: .ref qm3 :: .int iSt :: .int iLv :: .int iWs :: vLa :: .ref qmu :: .ref qmy :: .ref qmb :: .ref qms :: .int iNm_31 :: []) :: zzI cy qmr 8 fMr :: zzG cy 3 qmB rB :: zzI cy (rB 0) 4 (bkR tA 0) :: zzI cy (rB 1) 4 (bkR tA 1) :: zzI cy (rB 2) 4 (bkR tA 2) :: zzI cy (rB 3) 4 (bkR tA 3) :: zzI cy (rB 4) 4 (bkR tA 4) :: zzI cy (rB 5) 4 (bkR tA 5) :: zzI cy (rB 6) 4 (bkR tA 6) :: zzI cy (rB 7) 4 (bkR tA 7) :: zzG cy 3 qmO rO :: zzI cy (rO 0) 5 (onR tA 0) :: zzI cy (rO 1) 5 (onR tA 1) :: zzI cy (rO 2) 5 (onR tA 2) :: zzI cy (rO 3) 5 (onR tA 3) :: zzI cy (rO 4) 5 (onR tA 4) :: zzI cy (rO 5) 5 (onR tA 5) :: zzI cy (rO 6) 5 (onR tA 6) :: zzI cy (rO 7) 5 (onR tA 7) :: zzG cy 3 qmK rK :: zzI cy (rK 0) 8 (T_kn tA 0) :: zzI cy (rK 1) 8 (T_kn tA 1) :: zzI cy (rK 2) 8 (T_kn tA 2) :: zzI cy (rK 3) 8 (T_kn tA 3) :: zzI cy (rK 4) 8 (T_kn tA 4) :: zzI cy (rK 5) 8 (T_kn tA 5) :: zzI cy (rK 6) 8 (T_kn tA 6) :: zzI cy (rK 7) 8 (T_kn tA 7) :: zzI cy qmu 8 fJ_6 :: zzI cy qmy 5 fNy_32 :: zzI cy qmb 5 fNb_33 :: zzQ cy 5 qms 6 (sF (refU uN_34) (refU uN_35) (refU uN_36) (refU uN_37) (refU uN_38)) :: []) ++ (oM cy uN_34 ++ (oM cy uN_35 ++ (oM cy uN_36 ++ (oM cy uN_37 ++ oM cy uN_38)))))) hx hb hr hlocks rfl (pPt hP [[false, true], (true :: false :: true :: true :: true :: true :: true :: true :: true :: true :: true :: true :: true :: true :: true :: true :: true :: true :: true :: true :: true :: true :: true :: true :: true :: true :: true :: true :: true :: true :: true :: true :: true :: [])] rfl rfl) (dPt hD [[false, true], (true :: false :: true :: true :: true :: true :: true :: true :: true :: true :: true :: true :: true :: true :: true :: true :: true :: true :: true :: true :: true :: true :: true :: true :: true :: true :: true :: true :: true :: true :: true :: true :: true :: [])] (by decide +kernel) rfl rfl) hS ⟨iNm_31, fMr, fJ_6, fNy_32, fNb_33, uN_34, uN_35, uN_36, uN_37, uN_38, rfl, Or.inr ⟨k_16, hk_17, rfl, (by rw [← hlt_12m]; exact h_21), Or.inr ⟨h_25, by rw [← hlt_12m]; exact c_27, Or.inr (ord_w hlt_12m h_21 c_41 (h_40.2.1 rfl rfl rfl (fun k h => absurd h (Nat.not_lt_zero k))) hlt_12u)⟩⟩, trivial⟩ (g_172 bX6_order rfl)
                · refine lv_aload_n hx hb (g_42 bX6_order rfl) rfl (lv_at hl 2 rfl) ?_
                  refine va_get (D := G) (ci := 5) (v := .int iNm_31) (C := RX6) (T := TX6) (N := 35) hx hb hts iX_X6 hown hK hP 1 rfl rfl 34 (by decide +kernel) (hts _ m_t884) (fun _ h9 => h9) rfl (g_180 (v := 323) bX6_order rfl) ?_
                  refine lv_goto (tgt := 123) hx hb dX6_order_114 (by decide +kernel) ?_
                  exact endW (u := ((zzO qm 5 (.ref qmh :: .ref qmo :: .ref qmz :: .ref qmR :: .ref qmv :: .ref qmk :: .ref qma :: .ref qmt :: .int (nI kZ) :: .ref qmr :: .int (nI (T_nb tA)) :: .ref qmB :: .int (nI (T_np tA)) :: .ref qmO :: .ref qmK :: .int iEn :: .int iTk :: .int (T_sd tA) :: ov uP :: ov uU :: .int (nI kAt) :: .int iTo :: .int iFr :: .long JFi :: .int iFa :: .ref qm3 :: .int iSt :: .int iLv :: .int iWs :: vLa :: .ref qmu :: .ref qmy :: .ref qmb :: .ref qms :: .int iNm_31 :: []) :: zzI cy qmr 8 fMr :: zzG cy 3 qmB rB :: zzI cy (rB 0) 4 (bkR tA 0) :: zzI cy (rB 1) 4 (bkR tA 1) :: zzI cy (rB 2) 4 (bkR tA 2) :: zzI cy (rB 3) 4 (bkR tA 3) :: zzI cy (rB 4) 4 (bkR tA 4) :: zzI cy (rB 5) 4 (bkR tA 5) :: zzI cy (rB 6) 4 (bkR tA 6) :: zzI cy (rB 7) 4 (bkR tA 7) :: zzG cy 3 qmO rO :: zzI cy (rO 0) 5 (onR tA 0) :: zzI cy (rO 1) 5 (onR tA 1) :: zzI cy (rO 2) 5 (onR tA 2) :: zzI cy (rO 3) 5 (onR tA 3) :: zzI cy (rO 4) 5 (onR tA 4) :: zzI cy (rO 5) 5 (onR tA 5) :: zzI cy (rO 6) 5 (onR tA 6) :: zzI cy (rO 7) 5 (onR tA 7) :: zzG cy 3 qmK rK :: zzI cy (rK 0) 8 (T_kn tA 0) :: zzI cy (rK 1) 8 (T_kn tA 1) :: zzI cy (rK 2) 8 (T_kn tA 2) :: zzI cy (rK 3) 8 (T_kn tA 3) :: zzI cy (rK 4) 8 (T_kn tA 4) :: zzI cy (rK 5) 8 (T_kn tA 5) :: zzI cy (rK 6) 8 (T_kn tA 6) :: zzI cy (rK 7) 8 (T_kn tA 7) :: zzI cy qmu 8 fJ_6 :: zzI cy qmy 5 fNy_32 :: zzI cy qmb 5 fNb_33 :: zzQ cy 5 qms 6 (sF (refU uN_34) (refU uN_35) (refU uN_36) (refU uN_37) (refU uN_38)) :: []) ++ (oM cy uN_34 ++ (oM cy uN_35 ++ (oM cy uN_36 ++ (oM cy uN_37 ++ oM cy uN_38)))))) hx hb hr hlocks rfl (pPt hP [[false, true], (true :: false :: true :: true :: true :: true :: true :: true :: true :: true :: true :: true :: true :: true :: true :: true :: true :: true :: true :: true :: true :: true :: true :: true :: true :: true :: true :: true :: true :: true :: true :: true :: true :: [])] rfl rfl) (dPt hD [[false, true], (true :: false :: true :: true :: true :: true :: true :: true :: true :: true :: true :: true :: true :: true :: true :: true :: true :: true :: true :: true :: true :: true :: true :: true :: true :: true :: true :: true :: true :: true :: true :: true :: true :: [])] (by decide +kernel) rfl rfl) hS ⟨iNm_31, fMr, fJ_6, fNy_32, fNb_33, uN_34, uN_35, uN_36, uN_37, uN_38, rfl, Or.inr ⟨k_16, hk_17, rfl, (by rw [← hlt_12m]; exact h_21), Or.inr ⟨h_25, by rw [← hlt_12m]; exact c_27, Or.inl ⟨c_41, (h_40.2.1 rfl rfl rfl (fun k h => absurd h (Nat.not_lt_zero k))).1⟩⟩⟩, trivial⟩ (g_172 bX6_order rfl)
              · refine lv_aload_n hx hb (g_42 bX6_order rfl) rfl (lv_at hl 2 rfl) ?_
                refine lv_bipush (v := (-5)) hx hb dX6_order_85 (by decide +kernel) ?_
                refine cViQ (As := [.int (-5)]) (rest := []) (b := qm) (q := (RX6, TX6, 35)) ⟨hx, hb, hml, hown, hts⟩ (c_X6_refuse5 l G cy (H).size qm (.ref qmh) (.ref qmo) (.ref qmz) (.ref qmR) (.ref qmv) (.ref qmk) (.ref qma) (.ref qmt) (.int (nI kZ)) qmr tA qmB qmO qmK iEn iTk (ov uP) (ov uU) (.int (nI kAt)) (.int iTo) (.int iFr) (.long JFi) (.int iFa) (.ref qm3) (.int iSt) iLv iWs vLa (.ref qmu) (.ref qmy) (.ref qmb) (.ref qms) (.int iOm) fMr) L_X6_91 hN hP hD hS hA [0, 1] (false :: false :: true :: true :: true :: true :: true :: true :: true :: true :: true :: true :: true :: true :: true :: true :: true :: true :: true :: true :: true :: true :: true :: true :: true :: true :: true :: true :: true :: true :: true :: true :: true :: []) rfl (by decide +kernel) rfl 0 5 rfl rfl rfl ⟨Nat.le_of_ble_eq_true rfl, Nat.le_of_ble_eq_true rfl⟩ hl.1 (Nat.le_of_ble_eq_true rfl) (g_182 (v := 91) bX6_order rfl) ⟨Nat.le_of_ble_eq_true rfl, Nat.le_of_ble_eq_true rfl⟩ (fun r_42 u_44 H locs h_43 => ?_)
                clear hP hD hS
                intro hP hD hS
                obtain ⟨fX_45, hu9, h_43⟩ := h_43
                have hPD := pd_eqQ (((_ :: _ :: _ :: _ :: _ :: _ :: _ :: _ :: _ :: _ :: _ :: _ :: _ :: _ :: _ :: _ :: _ :: _ :: _ :: _ :: _ :: _ :: _ :: _ :: _ :: _ :: _ :: _ :: _ :: _ :: _ :: _ :: zzI cy qmr 8 fX_45 :: []) : va_W) ++ (oM cy uS0 ++ (oM cy uS1 ++ (oM cy uS2 ++ (oM cy uS3 ++ oM cy uS4))))) hP hD hu9 rfl
                clear hP hD hu9
                obtain ⟨hP, hD⟩ := hPD
                subst h_43
                refine W.widen (k := 250) (n := 4440) (Nat.le_of_ble_eq_true rfl) (Nat.le_of_ble_eq_true rfl) ?_
                exact endW (u := ((zzO qm 5 (.ref qmh :: .ref qmo :: .ref qmz :: .ref qmR :: .ref qmv :: .ref qmk :: .ref qma :: .ref qmt :: .int (nI kZ) :: .ref qmr :: .int (nI (T_nb tA)) :: .ref qmB :: .int (nI (T_np tA)) :: .ref qmO :: .ref qmK :: .int iEn :: .int iTk :: .int (T_sd tA) :: ov uP :: ov uU :: .int (nI kAt) :: .int iTo :: .int iFr :: .long JFi :: .int iFa :: .ref qm3 :: .int iSt :: .int iLv :: .int iWs :: vLa :: .ref qmu :: .ref qmy :: .ref qmb :: .ref qms :: .int iOm :: []) :: zzI cy qmr 8 fX_45 :: zzG cy 3 qmB rB :: zzI cy (rB 0) 4 (bkR tA 0) :: zzI cy (rB 1) 4 (bkR tA 1) :: zzI cy (rB 2) 4 (bkR tA 2) :: zzI cy (rB 3) 4 (bkR tA 3) :: zzI cy (rB 4) 4 (bkR tA 4) :: zzI cy (rB 5) 4 (bkR tA 5) :: zzI cy (rB 6) 4 (bkR tA 6) :: zzI cy (rB 7) 4 (bkR tA 7) :: zzG cy 3 qmO rO :: zzI cy (rO 0) 5 (onR tA 0) :: zzI cy (rO 1) 5 (onR tA 1) :: zzI cy (rO 2) 5 (onR tA 2) :: zzI cy (rO 3) 5 (onR tA 3) :: zzI cy (rO 4) 5 (onR tA 4) :: zzI cy (rO 5) 5 (onR tA 5) :: zzI cy (rO 6) 5 (onR tA 6) :: zzI cy (rO 7) 5 (onR tA 7) :: zzG cy 3 qmK rK :: zzI cy (rK 0) 8 (T_kn tA 0) :: zzI cy (rK 1) 8 (T_kn tA 1) :: zzI cy (rK 2) 8 (T_kn tA 2) :: zzI cy (rK 3) 8 (T_kn tA 3) :: zzI cy (rK 4) 8 (T_kn tA 4) :: zzI cy (rK 5) 8 (T_kn tA 5) :: zzI cy (rK 6) 8 (T_kn tA 6) :: zzI cy (rK 7) 8 (T_kn tA 7) :: zzI cy qmu 8 fJ_6 :: zzI cy qmy 5 fMy :: zzI cy qmb 5 fMb :: zzQ cy 5 qms 6 (sF (refU uS0) (refU uS1) (refU uS2) (refU uS3) (refU uS4)) :: []) ++ (oM cy uS0 ++ (oM cy uS1 ++ (oM cy uS2 ++ (oM cy uS3 ++ oM cy uS4)))))) hx hb hr hlocks rfl (pPt hP [(false :: false :: false :: false :: false :: false :: false :: false :: false :: false :: false :: false :: false :: false :: false :: false :: false :: false :: false :: false :: false :: false :: false :: false :: false :: false :: false :: false :: false :: false :: false :: true :: true :: []), [true, true, true, true, true, true, true, true, true, true, true, true, true, true, true, true, true, true, true, true, true, true, true, true, true, true, true, true, true, true, true]] rfl rfl) (dPt hD [(false :: false :: false :: false :: false :: false :: false :: false :: false :: false :: false :: false :: false :: false :: false :: false :: false :: false :: false :: false :: false :: false :: false :: false :: false :: false :: false :: false :: false :: false :: false :: true :: true :: []), [true, true, true, true, true, true, true, true, true, true, true, true, true, true, true, true, true, true, true, true, true, true, true, true, true, true, true, true, true, true, true]] (by decide +kernel) rfl rfl) hS ⟨iOm, fX_45, fJ_6, fMy, fMb, uS0, uS1, uS2, uS3, uS4, rfl, Or.inr ⟨k_16, hk_17, rfl, (by rw [← hlt_12m]; exact h_21), Or.inl ⟨rfl, Or.inr (by rw [← hlt_12m]; exact c_27)⟩⟩, trivial⟩ (g_172 bX6_order rfl)
            · refine lv_if_eq (tgt := 84) hx hb dX6_order_76 (by decide +kernel) (fun _ => ?_) (fun h9 => absurd (by decide +kernel) h9)
              refine lv_aload_n hx hb (g_42 bX6_order rfl) rfl (lv_at hl 2 rfl) ?_
              refine lv_bipush (v := (-5)) hx hb dX6_order_85 (by decide +kernel) ?_
              refine cViQ (As := [.int (-5)]) (rest := []) (b := qm) (q := (RX6, TX6, 35)) ⟨hx, hb, hml, hown, hts⟩ (c_X6_refuse5 l G cy (H).size qm (.ref qmh) (.ref qmo) (.ref qmz) (.ref qmR) (.ref qmv) (.ref qmk) (.ref qma) (.ref qmt) (.int (nI kZ)) qmr tA qmB qmO qmK iEn iTk (ov uP) (ov uU) (.int (nI kAt)) (.int iTo) (.int iFr) (.long JFi) (.int iFa) (.ref qm3) (.int iSt) iLv iWs vLa (.ref qmu) (.ref qmy) (.ref qmb) (.ref qms) (.int iOm) fMr) L_X6_91 hN hP hD hS hA [0, 1] (false :: false :: true :: true :: true :: true :: true :: true :: true :: true :: true :: true :: true :: true :: true :: true :: true :: true :: true :: true :: true :: true :: true :: true :: true :: true :: true :: true :: true :: true :: true :: true :: true :: []) rfl (by decide +kernel) rfl 0 5 rfl rfl rfl ⟨Nat.le_of_ble_eq_true rfl, Nat.le_of_ble_eq_true rfl⟩ hl.1 (Nat.le_of_ble_eq_true rfl) (g_182 (v := 91) bX6_order rfl) ⟨Nat.le_of_ble_eq_true rfl, Nat.le_of_ble_eq_true rfl⟩ (fun r_47 u_49 H locs h_48 => ?_)
              clear hP hD hS
              intro hP hD hS
              obtain ⟨fX_50, hu9, h_48⟩ := h_48
              have hPD := pd_eqQ (((_ :: _ :: _ :: _ :: _ :: _ :: _ :: _ :: _ :: _ :: _ :: _ :: _ :: _ :: _ :: _ :: _ :: _ :: _ :: _ :: _ :: _ :: _ :: _ :: _ :: _ :: _ :: _ :: _ :: _ :: _ :: _ :: zzI cy qmr 8 fX_50 :: []) : va_W) ++ (oM cy uS0 ++ (oM cy uS1 ++ (oM cy uS2 ++ (oM cy uS3 ++ oM cy uS4))))) hP hD hu9 rfl
              clear hP hD hu9
              obtain ⟨hP, hD⟩ := hPD
              subst h_48
              refine W.widen (k := 250) (n := 4440) (Nat.le_of_ble_eq_true rfl) (Nat.le_of_ble_eq_true rfl) ?_
              exact endW (u := ((zzO qm 5 (.ref qmh :: .ref qmo :: .ref qmz :: .ref qmR :: .ref qmv :: .ref qmk :: .ref qma :: .ref qmt :: .int (nI kZ) :: .ref qmr :: .int (nI (T_nb tA)) :: .ref qmB :: .int (nI (T_np tA)) :: .ref qmO :: .ref qmK :: .int iEn :: .int iTk :: .int (T_sd tA) :: ov uP :: ov uU :: .int (nI kAt) :: .int iTo :: .int iFr :: .long JFi :: .int iFa :: .ref qm3 :: .int iSt :: .int iLv :: .int iWs :: vLa :: .ref qmu :: .ref qmy :: .ref qmb :: .ref qms :: .int iOm :: []) :: zzI cy qmr 8 fX_50 :: zzG cy 3 qmB rB :: zzI cy (rB 0) 4 (bkR tA 0) :: zzI cy (rB 1) 4 (bkR tA 1) :: zzI cy (rB 2) 4 (bkR tA 2) :: zzI cy (rB 3) 4 (bkR tA 3) :: zzI cy (rB 4) 4 (bkR tA 4) :: zzI cy (rB 5) 4 (bkR tA 5) :: zzI cy (rB 6) 4 (bkR tA 6) :: zzI cy (rB 7) 4 (bkR tA 7) :: zzG cy 3 qmO rO :: zzI cy (rO 0) 5 (onR tA 0) :: zzI cy (rO 1) 5 (onR tA 1) :: zzI cy (rO 2) 5 (onR tA 2) :: zzI cy (rO 3) 5 (onR tA 3) :: zzI cy (rO 4) 5 (onR tA 4) :: zzI cy (rO 5) 5 (onR tA 5) :: zzI cy (rO 6) 5 (onR tA 6) :: zzI cy (rO 7) 5 (onR tA 7) :: zzG cy 3 qmK rK :: zzI cy (rK 0) 8 (T_kn tA 0) :: zzI cy (rK 1) 8 (T_kn tA 1) :: zzI cy (rK 2) 8 (T_kn tA 2) :: zzI cy (rK 3) 8 (T_kn tA 3) :: zzI cy (rK 4) 8 (T_kn tA 4) :: zzI cy (rK 5) 8 (T_kn tA 5) :: zzI cy (rK 6) 8 (T_kn tA 6) :: zzI cy (rK 7) 8 (T_kn tA 7) :: zzI cy qmu 8 fJ_6 :: zzI cy qmy 5 fMy :: zzI cy qmb 5 fMb :: zzQ cy 5 qms 6 (sF (refU uS0) (refU uS1) (refU uS2) (refU uS3) (refU uS4)) :: []) ++ (oM cy uS0 ++ (oM cy uS1 ++ (oM cy uS2 ++ (oM cy uS3 ++ oM cy uS4)))))) hx hb hr hlocks rfl (pPt hP [(false :: false :: false :: false :: false :: false :: false :: false :: false :: false :: false :: false :: false :: false :: false :: false :: false :: false :: false :: false :: false :: false :: false :: false :: false :: false :: false :: false :: false :: false :: false :: true :: true :: []), [true, true, true, true, true, true, true, true, true, true, true, true, true, true, true, true, true, true, true, true, true, true, true, true, true, true, true, true, true, true, true]] rfl rfl) (dPt hD [(false :: false :: false :: false :: false :: false :: false :: false :: false :: false :: false :: false :: false :: false :: false :: false :: false :: false :: false :: false :: false :: false :: false :: false :: false :: false :: false :: false :: false :: false :: false :: true :: true :: []), [true, true, true, true, true, true, true, true, true, true, true, true, true, true, true, true, true, true, true, true, true, true, true, true, true, true, true, true, true, true, true]] (by decide +kernel) rfl rfl) hS ⟨iOm, fX_50, fJ_6, fMy, fMb, uS0, uS1, uS2, uS3, uS4, rfl, Or.inr ⟨k_16, hk_17, rfl, (by rw [← hlt_12m]; exact h_21), Or.inl ⟨rfl, Or.inl h_25⟩⟩, trivial⟩ (g_172 bX6_order rfl)
          · refine lv_if_ne (tgt := 71) hx hb dX6_order_61 (by decide +kernel) (fun h9 => absurd (by decide +kernel) h9) (fun _ => ?_)
            refine lv_aload_n hx hb (g_42 bX6_order rfl) rfl (lv_at hl 2 rfl) ?_
            refine lv_bipush (v := (-2)) hx hb dX6_order_65 (by decide +kernel) ?_
            refine cViQ (As := [.int (-2)]) (rest := []) (b := qm) (q := (RX6, TX6, 35)) ⟨hx, hb, hml, hown, hts⟩ (c_X6_refuse2 l G cy (H).size qm (.ref qmh) (.ref qmo) (.ref qmz) (.ref qmR) (.ref qmv) (.ref qmk) (.ref qma) (.ref qmt) (.int (nI kZ)) qmr tA qmB qmO qmK iEn iTk (ov uP) (ov uU) (.int (nI kAt)) (.int iTo) (.int iFr) (.long JFi) (.int iFa) (.ref qm3) (.int iSt) iLv iWs vLa (.ref qmu) (.ref qmy) (.ref qmb) (.ref qms) (.int iOm) fMr) L_X6_91 hN hP hD hS hA [0, 1] (false :: false :: true :: true :: true :: true :: true :: true :: true :: true :: true :: true :: true :: true :: true :: true :: true :: true :: true :: true :: true :: true :: true :: true :: true :: true :: true :: true :: true :: true :: true :: true :: true :: []) rfl (by decide +kernel) rfl 0 5 rfl rfl rfl ⟨Nat.le_of_ble_eq_true rfl, Nat.le_of_ble_eq_true rfl⟩ hl.1 (Nat.le_of_ble_eq_true rfl) (g_182 (v := 91) bX6_order rfl) ⟨Nat.le_of_ble_eq_true rfl, Nat.le_of_ble_eq_true rfl⟩ (fun r_52 u_54 H locs h_53 => ?_)
            clear hP hD hS
            intro hP hD hS
            obtain ⟨fX_55, hu9, h_53⟩ := h_53
            have hPD := pd_eqQ (((_ :: _ :: _ :: _ :: _ :: _ :: _ :: _ :: _ :: _ :: _ :: _ :: _ :: _ :: _ :: _ :: _ :: _ :: _ :: _ :: _ :: _ :: _ :: _ :: _ :: _ :: _ :: _ :: _ :: _ :: _ :: _ :: zzI cy qmr 8 fX_55 :: []) : va_W) ++ (oM cy uS0 ++ (oM cy uS1 ++ (oM cy uS2 ++ (oM cy uS3 ++ oM cy uS4))))) hP hD hu9 rfl
            clear hP hD hu9
            obtain ⟨hP, hD⟩ := hPD
            subst h_53
            refine W.widen (k := 250) (n := 4440) (Nat.le_of_ble_eq_true rfl) (Nat.le_of_ble_eq_true rfl) ?_
            exact endW (u := ((zzO qm 5 (.ref qmh :: .ref qmo :: .ref qmz :: .ref qmR :: .ref qmv :: .ref qmk :: .ref qma :: .ref qmt :: .int (nI kZ) :: .ref qmr :: .int (nI (T_nb tA)) :: .ref qmB :: .int (nI (T_np tA)) :: .ref qmO :: .ref qmK :: .int iEn :: .int iTk :: .int (T_sd tA) :: ov uP :: ov uU :: .int (nI kAt) :: .int iTo :: .int iFr :: .long JFi :: .int iFa :: .ref qm3 :: .int iSt :: .int iLv :: .int iWs :: vLa :: .ref qmu :: .ref qmy :: .ref qmb :: .ref qms :: .int iOm :: []) :: zzI cy qmr 8 fX_55 :: zzG cy 3 qmB rB :: zzI cy (rB 0) 4 (bkR tA 0) :: zzI cy (rB 1) 4 (bkR tA 1) :: zzI cy (rB 2) 4 (bkR tA 2) :: zzI cy (rB 3) 4 (bkR tA 3) :: zzI cy (rB 4) 4 (bkR tA 4) :: zzI cy (rB 5) 4 (bkR tA 5) :: zzI cy (rB 6) 4 (bkR tA 6) :: zzI cy (rB 7) 4 (bkR tA 7) :: zzG cy 3 qmO rO :: zzI cy (rO 0) 5 (onR tA 0) :: zzI cy (rO 1) 5 (onR tA 1) :: zzI cy (rO 2) 5 (onR tA 2) :: zzI cy (rO 3) 5 (onR tA 3) :: zzI cy (rO 4) 5 (onR tA 4) :: zzI cy (rO 5) 5 (onR tA 5) :: zzI cy (rO 6) 5 (onR tA 6) :: zzI cy (rO 7) 5 (onR tA 7) :: zzG cy 3 qmK rK :: zzI cy (rK 0) 8 (T_kn tA 0) :: zzI cy (rK 1) 8 (T_kn tA 1) :: zzI cy (rK 2) 8 (T_kn tA 2) :: zzI cy (rK 3) 8 (T_kn tA 3) :: zzI cy (rK 4) 8 (T_kn tA 4) :: zzI cy (rK 5) 8 (T_kn tA 5) :: zzI cy (rK 6) 8 (T_kn tA 6) :: zzI cy (rK 7) 8 (T_kn tA 7) :: zzI cy qmu 8 fJ_6 :: zzI cy qmy 5 fMy :: zzI cy qmb 5 fMb :: zzQ cy 5 qms 6 (sF (refU uS0) (refU uS1) (refU uS2) (refU uS3) (refU uS4)) :: []) ++ (oM cy uS0 ++ (oM cy uS1 ++ (oM cy uS2 ++ (oM cy uS3 ++ oM cy uS4)))))) hx hb hr hlocks rfl (pPt hP [(false :: false :: false :: false :: false :: false :: false :: false :: false :: false :: false :: false :: false :: false :: false :: false :: false :: false :: false :: false :: false :: false :: false :: false :: false :: false :: false :: false :: false :: false :: false :: true :: true :: []), [true, true, true, true, true, true, true, true, true, true, true, true, true, true, true, true, true, true, true, true, true, true, true, true, true, true, true, true, true, true, true]] rfl rfl) (dPt hD [(false :: false :: false :: false :: false :: false :: false :: false :: false :: false :: false :: false :: false :: false :: false :: false :: false :: false :: false :: false :: false :: false :: false :: false :: false :: false :: false :: false :: false :: false :: false :: true :: true :: []), [true, true, true, true, true, true, true, true, true, true, true, true, true, true, true, true, true, true, true, true, true, true, true, true, true, true, true, true, true, true, true]] (by decide +kernel) rfl rfl) hS ⟨iOm, fX_55, fJ_6, fMy, fMb, uS0, uS1, uS2, uS3, uS4, rfl, Or.inl ⟨rfl, fun q => h_21 (by rw [hlt_12m]; exact q.2)⟩, trivial⟩ (g_172 bX6_order rfl)
        · refine lv_if_eq (tgt := 64) hx hb dX6_order_46 (by decide +kernel) (fun _ => ?_) (fun h9 => absurd (by decide +kernel) h9)
          refine lv_aload_n hx hb (g_42 bX6_order rfl) rfl (lv_at hl 2 rfl) ?_
          refine lv_bipush (v := (-2)) hx hb dX6_order_65 (by decide +kernel) ?_
          refine cViQ (As := [.int (-2)]) (rest := []) (b := qm) (q := (RX6, TX6, 35)) ⟨hx, hb, hml, hown, hts⟩ (c_X6_refuse2 l G cy (H).size qm (.ref qmh) (.ref qmo) (.ref qmz) (.ref qmR) (.ref qmv) (.ref qmk) (.ref qma) (.ref qmt) (.int (nI kZ)) qmr tA qmB qmO qmK iEn iTk (ov uP) (ov uU) (.int (nI kAt)) (.int iTo) (.int iFr) (.long JFi) (.int iFa) (.ref qm3) (.int iSt) iLv iWs vLa (.ref qmu) (.ref qmy) (.ref qmb) (.ref qms) (.int iOm) fMr) L_X6_91 hN hP hD hS hA [0, 1] (false :: false :: true :: true :: true :: true :: true :: true :: true :: true :: true :: true :: true :: true :: true :: true :: true :: true :: true :: true :: true :: true :: true :: true :: true :: true :: true :: true :: true :: true :: true :: true :: true :: []) rfl (by decide +kernel) rfl 0 5 rfl rfl rfl ⟨Nat.le_of_ble_eq_true rfl, Nat.le_of_ble_eq_true rfl⟩ hl.1 (Nat.le_of_ble_eq_true rfl) (g_182 (v := 91) bX6_order rfl) ⟨Nat.le_of_ble_eq_true rfl, Nat.le_of_ble_eq_true rfl⟩ (fun r_57 u_59 H locs h_58 => ?_)
          clear hP hD hS
          intro hP hD hS
          obtain ⟨fX_60, hu9, h_58⟩ := h_58
          have hPD := pd_eqQ (((_ :: _ :: _ :: _ :: _ :: _ :: _ :: _ :: _ :: _ :: _ :: _ :: _ :: _ :: _ :: _ :: _ :: _ :: _ :: _ :: _ :: _ :: _ :: _ :: _ :: _ :: _ :: _ :: _ :: _ :: _ :: _ :: zzI cy qmr 8 fX_60 :: []) : va_W) ++ (oM cy uS0 ++ (oM cy uS1 ++ (oM cy uS2 ++ (oM cy uS3 ++ oM cy uS4))))) hP hD hu9 rfl
          clear hP hD hu9
          obtain ⟨hP, hD⟩ := hPD
          subst h_58
          refine W.widen (k := 250) (n := 4440) (Nat.le_of_ble_eq_true rfl) (Nat.le_of_ble_eq_true rfl) ?_
          exact endWt [(false :: false :: false :: false :: false :: false :: false :: false :: false :: false :: false :: false :: false :: false :: false :: false :: false :: false :: false :: false :: false :: false :: false :: false :: false :: false :: false :: false :: false :: false :: false :: true :: true :: []), [true, true, true, true, true, true, true, true, true, true, true, true, true, true, true, true, true, true, true, true, true, true, true, true, true, true, true, true, true, true, true]] hx hb hr hlocks rfl hP hD rfl (by decide +kernel) hS ⟨iOm, fX_60, fJ_6, fMy, fMb, uS0, uS1, uS2, uS3, uS4, rfl, Or.inl ⟨rfl, fun q => h_15 q.1⟩, trivial⟩ (g_172 bX6_order rfl)
      · have hlt_61l := (un_in tA j_4).1
        have hlt_61 : j_4 < T_nb tA := lp_lt rfl rfl (by omega) (by omega) c_11
        refine lv_aload_n hx hb (g_42 bX6_order rfl) rfl (lv_at hl 2 rfl) ?_
        refine lv_iload hx hb (g_21 (v := 4) bX6_order rfl) (lv_at hl 0 rfl) ?_
        refine kRi (rV (As := [.int (nI j_4)]) (rest := []) (b := qm) ⟨hx, hb, hml, hown, hts⟩ (c_X6_isWhite l G cy qm (.ref qmh) (.ref qmo) (.ref qmz) (.ref qmR) (.ref qmv) (.ref qmk) (.ref qma) (.ref qmt) (.int (nI kZ)) (.ref qmr) tA qmB qmO qmK iEn iTk (ov uP) (ov uU) (.int (nI kAt)) (.int iTo) (.int iFr) (.long JFi) (.int iFa) (.ref qm3) (.int iSt) iLv iWs vLa (.ref qmu) (.ref qmy) (.ref qmb) (.ref qms) (.int iOm) rB j_4 (by omega)) L_X6_248 (preRV (q := (RX6, TX6, 35)) hN hP (trueIx 0 [true, false, true, true, true, true, true, true, true, true, true]) (sel_fm rfl rfl) 0 5 rfl rfl) rfl ⟨Nat.le_of_ble_eq_true rfl, Nat.le_of_ble_eq_true rfl⟩ hl.1 (Nat.le_of_ble_eq_true rfl) (g_182 (v := 248) bX6_order rfl) ⟨Nat.le_of_ble_eq_true rfl, Nat.le_of_ble_eq_true rfl⟩) (fun r_62 h_63 => ?_)
        rcases h_63 with ⟨rfl, h_64⟩ | ⟨rfl, h_64⟩
        · refine lv_if_ne (tgt := 34) hx hb dX6_order_20 (by decide +kernel) (fun _ => ?_) (fun h9 => absurd h9 (by decide +kernel))
          refine lv_iinc (v := nI (j_4 + 1)) (lv' := [(4, .int (nI (j_4 + 1))), (3, .int (nI m_5)), (0, .ref qm), (1, .int iA), (2, .int iB)]) hx hb dX6_order_34 hl (k := 0) rfl (nI_1 _) (by decide +kernel) rfl (fun ls => ?_)
          clear hl
          intro hl
          refine lv_goto (tgt := 5) hx hb dX6_order_37 (by decide +kernel) ?_
          exact ih_3 (j_4 + 1) m_5 fJ_6 (by omega) (by omega) (by rw [unf_w h_64]; exact hm_10) (by rw [unf_w h_64]; exact hUn_9) _ _ _ hP hD hS (lv_sub hl [0, 1, 2, 3, 4] rfl)
        · refine lv_if_ne (tgt := 34) hx hb dX6_order_20 (by decide +kernel) (fun h9 => absurd (by decide +kernel) h9) (fun _ => ?_)
          refine lv_aload_n hx hb (g_42 bX6_order rfl) rfl (lv_at hl 2 rfl) ?_
          refine va_get (D := G) (ci := 5) (v := .ref qmu) (C := RX6) (T := TX6) (N := 35) hx hb hts iX_X6 hown hK hP 0 rfl rfl 30 (by decide +kernel) (hts _ m_t880) (fun _ h9 => h9) rfl (g_180 (v := 58) bX6_order rfl) ?_
          refine lv_iload_n hx hb (g_29 bX6_order rfl) rfl (lv_at hl 1 rfl) ?_
          refine lv_iinc (v := nI (m_5 + 1)) (lv' := [(3, .int (nI (m_5 + 1))), (4, .int (nI j_4)), (0, .ref qm), (1, .int iA), (2, .int iB)]) hx hb dX6_order_28 hl (k := 1) rfl (nI_1 _) (by decide +kernel) rfl (fun ls => ?_)
          clear hl
          intro hl
          refine lv_iload hx hb (g_21 (v := 4) bX6_order rfl) (lv_at hl 1 rfl) ?_
          refine va_iast hx hb hK hP hD hS 29 0 rfl rfl (in8 (by omega)) (g_79 bX6_order rfl) (fun H locs => ?_)
          clear hP hD hS
          intro hP hD hS
          rw [cl8 (k := m_5) (by omega)] at hP hD
          have hPD := pd_as (((_ :: _ :: _ :: _ :: _ :: _ :: _ :: _ :: _ :: _ :: _ :: _ :: _ :: _ :: _ :: _ :: _ :: _ :: _ :: _ :: _ :: _ :: _ :: _ :: _ :: _ :: _ :: _ :: _ :: zzI cy qmu 8 (upd fJ_6 m_5 (nI j_4)) :: _ :: _ :: _ :: []) : va_W) ++ (oM cy uS0 ++ (oM cy uS1 ++ (oM cy uS2 ++ (oM cy uS3 ++ oM cy uS4))))) hP hD rfl
          clear hP hD
          obtain ⟨hP, hD⟩ := hPD
          refine lv_iinc (v := nI (j_4 + 1)) (lv' := [(4, .int (nI (j_4 + 1))), (3, .int (nI (m_5 + 1))), (0, .ref qm), (1, .int iA), (2, .int iB)]) hx hb dX6_order_34 hl (k := 1) rfl (nI_1 _) (by decide +kernel) rfl (fun ls => ?_)
          clear hl
          intro hl
          refine lv_goto (tgt := 5) hx hb dX6_order_37 (by decide +kernel) ?_
          exact ih_3 (j_4 + 1) (m_5 + 1) (upd fJ_6 m_5 (nI j_4)) (by omega) (by omega) (by rw [unf_n h_64, hm_10]) (by have h9 := un_fill (f := fJ_6) h_64 (by rw [← hm_10]; exact hUn_9); rw [unf_n h_64, ← hm_10] at h9; rw [unf_n h_64, ← hm_10]; exact h9) _ _ _ hP hD hS (lv_sub hl [0, 1, 2, 3, 4] rfl)
  exact lp_1 ((8 - 0) + 1) 0 0 fMu (Nat.lt_succ_self _) (Nat.zero_le _) rfl (fun k h => absurd h (Nat.not_lt_zero k)) _ _ ls hP hD hS (lv_sub hl [0, 1, 2, 3, 4] rfl)
set_option maxHeartbeats 4000000 in
set_option maxRecDepth 100000 in
theorem x_X5_order (l : Launch) (G : va_G) (cy : Nat → ClassId) (sz : Nat) (qx : Nat) (qt : Nat) (qk : Nat) (qp : Nat) (qs : Nat) (qa : Nat) (qr : Nat) (iKp : Int32) (iYe : Int32) (iTv : Int32) (fR : Nat → Int32) (tA : TA) (qtw : Nat) (qtn : Nat) (qtg : Nat) (qta : Nat) (qtr : Nat) (qtm : Nat) (qtt : Nat) (qts : Nat) (qu : Nat) (qv : Nat) (iL : Int32) (iBs : Int32) (tU : TA) (quw : Nat) (qun : Nat) (qug : Nat) (qua : Nat) (qur : Nat) (qum : Nat) (qut : Nat) (qus : Nat) (iA : Int32) (iB : Int32)  (hB : T_nb tA ≤ 8) (hPp : T_np tA ≤ 8) : MW l yX5_order cX5_order 4 (some .int) 12 0 0 G cy [zzO qx 4 [.ref qt, .ref qk, .ref qp, .ref qs, .ref qa, .ref qr, .int iKp, .int iYe, .int iTv], zzI cy qr 5 fR, zzO qt 3 [.int (nI (T_nb tA)), .int (nI (T_np tA)), .int (wb (T_wh tA)), .int (wb (T_gn tA)), .int (T_sd tA), .ref qtw, .ref qtn, .ref qtg, .ref qta, .ref qtr, .ref qtm, .ref qtt, .ref qts], zzI cy qtw 8 (T_wo tA), zzI cy qtn 8 (T_ne tA), zzI cy qtg 8 (T_go tA), zzI cy qta 8 (T_ag tA), zzI cy qtr 8 (T_re tA), zzI cy qtm 8 (T_me tA), zzI cy qtt 8 (T_te tA), zzI cy qts 64 (shF (T_kn tA)), zzO qp 0 [.ref qu, .ref qv, .int iL, .int iBs], zzO qu 3 [.int (nI (T_nb tU)), .int (nI (T_np tU)), .int (wb (T_wh tU)), .int (wb (T_gn tU)), .int (T_sd tU), .ref quw, .ref qun, .ref qug, .ref qua, .ref qur, .ref qum, .ref qut, .ref qus], zzI cy quw 8 (T_wo tU), zzI cy qun 8 (T_ne tU), zzI cy qug 8 (T_go tU), zzI cy qua 8 (T_ag tU), zzI cy qur 8 (T_re tU), zzI cy qum 8 (T_me tU), zzI cy qut 8 (T_te tU), zzI cy qus 64 (shF (T_kn tU))] sz [.ref qx, .int iA, .int iB] (Wi G (fun r u => ∃ (fX : Nat → Int32) (iX : Int32) (iY : Int32) (tX : TA), u = [zzO qx 4 [.ref qt, .ref qk, .ref qp, .ref qs, .ref qa, .ref qr, .int iKp, .int iYe, .int iTv], zzI cy qr 5 fX, zzO qt 3 [.int (nI (T_nb tA)), .int (nI (T_np tA)), .int (wb (T_wh tA)), .int (wb (T_gn tA)), .int (T_sd tA), .ref qtw, .ref qtn, .ref qtg, .ref qta, .ref qtr, .ref qtm, .ref qtt, .ref qts], zzI cy qtw 8 (T_wo tA), zzI cy qtn 8 (T_ne tA), zzI cy qtg 8 (T_go tA), zzI cy qta 8 (T_ag tA), zzI cy qtr 8 (T_re tA), zzI cy qtm 8 (T_me tA), zzI cy qtt 8 (T_te tA), zzI cy qts 64 (shF (T_kn tA)), zzO qp 0 [.ref qu, .ref qv, .int iX, .int iY], zzO qu 3 [.int (nI (T_nb tX)), .int (nI (T_np tX)), .int (wb (T_wh tX)), .int (wb (T_gn tX)), .int (T_sd tX), .ref quw, .ref qun, .ref qug, .ref qua, .ref qur, .ref qum, .ref qut, .ref qus], zzI cy quw 8 (T_wo tX), zzI cy qun 8 (T_ne tX), zzI cy qug 8 (T_go tX), zzI cy qua 8 (T_ag tX), zzI cy qur 8 (T_re tX), zzI cy qum 8 (T_me tX), zzI cy qut 8 (T_te tX), zzI cy qus 64 (shF (T_kn tX))] ∧ (PXo tA iA iB r) ∧ (True))) := by
  refine enW RX5 (by decide +kernel) rfl (Nat.le_of_ble_eq_true rfl) (fun p e s m below meth c ls A hx hb hml hown hts hr hlocks hP hN hl hin hD hA hS => ?_)
  have hin : meth.name = _ := hin
  have hK := hN.1
  replace hl : lv_has ls 4 [(0, .ref qx), (1, .int iA), (2, .int iB)] := hl
  refine lv_aload_n hx hb (g_42 bX5_order rfl) rfl (lv_at hl 0 rfl) ?_
  refine va_get (D := G) (ci := 4) (v := .ref qt) (C := RX5) (T := TX5) (N := 9) hx hb hts iX_X5 hown hK hP 0 rfl rfl 0 (by decide +kernel) (hts _ m_t174) (fun _ h9 => h9) rfl (g_180 (v := 10) bX5_order rfl) ?_
  refine va_getN (D := G) (ci := 3) (v := .int (nI (T_nb tA))) (C := RX4) (T := TX4) (N := 13) hx hb hts iX_X4 hown hK hP 2 rfl rfl 0 (by decide +kernel) (va_Nw.use rfl (hN.2.1 (RX5, 127, "EachBookOnce$Town", "books", "I") (List.mem_of_getElem? (i := 3) rfl))) (fun _ h9 => h9) rfl (g_180 (v := 127) bX5_order rfl) ?_
  refine lv_aload_n hx hb (g_42 bX5_order rfl) rfl (lv_at hl 0 rfl) ?_
  refine va_get (D := G) (ci := 4) (v := .ref qt) (C := RX5) (T := TX5) (N := 9) hx hb hts iX_X5 hown hK hP 0 rfl rfl 0 (by decide +kernel) (hts _ m_t174) (fun _ h9 => h9) rfl (g_180 (v := 10) bX5_order rfl) ?_
  refine va_getN (D := G) (ci := 3) (v := .int (wb (T_wh tA))) (C := RX4) (T := TX4) (N := 13) hx hb hts iX_X4 hown hK hP 2 rfl rfl 2 (by decide +kernel) (va_Nw.use rfl (hN.2.1 (RX5, 180, "EachBookOnce$Town", "white", "I") (List.mem_of_getElem? (i := 10) rfl))) (fun _ h9 => h9) rfl (g_180 (v := 180) bX5_order rfl) ?_
  refine kRi (rS (As := [.int (wb (T_wh tA))]) (rest := [.int (nI (T_nb tA))]) ⟨hx, hb, hml, hown, hts⟩ (c_J6_bitCount l G cy (wb (T_wh tA))) L_X5_264 (preRS hN hP [] rfl) rfl ⟨Nat.le_of_ble_eq_true rfl, Nat.le_of_ble_eq_true rfl⟩ hl.1 (Nat.le_of_ble_eq_true rfl) (g_184 (v := 264) bX5_order rfl) ⟨Nat.le_of_ble_eq_true rfl, Nat.le_of_ble_eq_true rfl⟩) (fun r_1 h_2 => ?_)
  subst h_2
  refine lv_isub hx hb (g_100 bX5_order rfl) ?_
  refine lv_istore_n (lv' := [(3, .int ((nI (T_nb tA)) - (zbc (wb (T_wh tA))))), (0, .ref qx), (1, .int iA), (2, .int iB)]) hx hb (g_62 bX5_order rfl) rfl hl (by decide +kernel) rfl (fun ls => ?_)
  clear hl
  intro hl
  refine lv_aload_n hx hb (g_42 bX5_order rfl) rfl (lv_at hl 1 rfl) ?_
  refine va_get (D := G) (ci := 4) (v := .ref qt) (C := RX5) (T := TX5) (N := 9) hx hb hts iX_X5 hown hK hP 0 rfl rfl 0 (by decide +kernel) (hts _ m_t174) (fun _ h9 => h9) rfl (g_180 (v := 10) bX5_order rfl) ?_
  refine lv_iload_n hx hb (g_27 bX5_order rfl) rfl (lv_at hl 2 rfl) ?_
  refine kRi (rV (As := [.int iA]) (rest := []) (b := qt) ⟨hx, hb, hml, hown, hts⟩ (c_X4_isOne l G cy qt tA qtw qtn qtg qta qtr qtm qtt qts iA hPp) L_X5_192 (preRV (q := (RX4, TX4, 13)) hN hP [2] rfl 2 3 rfl rfl) rfl ⟨Nat.le_of_ble_eq_true rfl, Nat.le_of_ble_eq_true rfl⟩ hl.1 (Nat.le_of_ble_eq_true rfl) (g_182 (v := 192) bX5_order rfl) ⟨Nat.le_of_ble_eq_true rfl, Nat.le_of_ble_eq_true rfl⟩) (fun r_3 h_4 => ?_)
  rcases h_4 with ⟨rfl, h_5⟩ | ⟨rfl, h_5⟩
  · obtain ⟨k_6, hk_7, rfl⟩ := h_5
    refine lv_if_eq (tgt := 45) hx hb dX5_order_27 (by decide +kernel) (fun h9 => absurd h9 (by decide +kernel)) (fun _ => ?_)
    refine lv_iload_n hx hb (g_28 bX5_order rfl) rfl (lv_at hl 3 rfl) ?_
    refine lv_i2l (v := iB.toInt64) hx hb (g_133 bX5_order rfl) rfl ?_
    refine lv_ldc2 hx hb hown (hts _ m_t691) (g_20 (v := 275) bX5_order rfl) ?_
    refine lv_iload_n hx hb (g_29 bX5_order rfl) rfl (lv_at hl 0 rfl) ?_
    refine lv_iconst (v := 1) hx hb (g_4 bX5_order rfl) (by decide +kernel) ?_
    refine lv_isub hx hb (g_100 bX5_order rfl) ?_
    refine lv_i2l (v := (((nI (T_nb tA)) - (zbc (wb (T_wh tA)))) - 1).toInt64) hx hb (g_133 bX5_order rfl) rfl ?_
    refine kRi (rS (As := [.long iB.toInt64, .long (-1), .long ((((nI (T_nb tA)) - (zbc (wb (T_wh tA)))) - 1).toInt64)]) (rest := []) ⟨hx, hb, hml, hown, hts⟩ (c_X5_within l G cy iB.toInt64 (-1) ((((nI (T_nb tA)) - (zbc (wb (T_wh tA)))) - 1).toInt64)) L_X5_50 (preRS hN hP [] rfl) rfl ⟨Nat.le_of_ble_eq_true rfl, Nat.le_of_ble_eq_true rfl⟩ hl.1 (Nat.le_of_ble_eq_true rfl) (g_184 (v := 50) bX5_order rfl) ⟨Nat.le_of_ble_eq_true rfl, Nat.le_of_ble_eq_true rfl⟩) (fun r_9 h_10 => ?_)
    rcases h_10 with ⟨rfl, h_11⟩ | ⟨rfl, h_11⟩
    · refine lv_if_ne (tgt := 52) hx hb dX5_order_42 (by decide +kernel) (fun _ => ?_) (fun h9 => absurd h9 (by decide +kernel))
      refine lv_aload_n hx hb (g_42 bX5_order rfl) rfl (lv_at hl 1 rfl) ?_
      refine va_get (D := G) (ci := 4) (v := .ref qt) (C := RX5) (T := TX5) (N := 9) hx hb hts iX_X5 hown hK hP 0 rfl rfl 0 (by decide +kernel) (hts _ m_t174) (fun _ h9 => h9) rfl (g_180 (v := 10) bX5_order rfl) ?_
      refine va_getN (D := G) (ci := 3) (v := .int (wb (T_gn tA))) (C := RX4) (T := TX4) (N := 13) hx hb hts iX_X4 hown hK hP 2 rfl rfl 3 (by decide +kernel) (va_Nw.use rfl (hN.2.1 (RX5, 207, "EachBookOnce$Town", "gone", "I") (List.mem_of_getElem? (i := 12) rfl))) (fun _ h9 => h9) rfl (g_180 (v := 207) bX5_order rfl) ?_
      refine lv_iload_n hx hb (g_27 bX5_order rfl) rfl (lv_at hl 2 rfl) ?_
      refine kRi (rS (As := [.int (wb (T_gn tA)), .int (nI k_6)]) (rest := []) ⟨hx, hb, hml, hown, hts⟩ (c_X5_has l G cy (wb (T_gn tA)) k_6) L_X5_183 (preRS hN hP [] rfl) rfl ⟨Nat.le_of_ble_eq_true rfl, Nat.le_of_ble_eq_true rfl⟩ hl.1 (Nat.le_of_ble_eq_true rfl) (g_184 (v := 183) bX5_order rfl) ⟨Nat.le_of_ble_eq_true rfl, Nat.le_of_ble_eq_true rfl⟩) (fun r_13 h_14 => ?_)
      rcases h_14 with ⟨rfl, h_15⟩ | ⟨rfl, h_15⟩
      · rw [bit_wb _ (by omega)] at h_15
        refine lv_if_ne (tgt := 71) hx hb dX5_order_63 (by decide +kernel) (fun _ => ?_) (fun h9 => absurd h9 (by decide +kernel))
        refine lv_aload_n hx hb (g_42 bX5_order rfl) rfl (lv_at hl 1 rfl) ?_
        refine lv_bipush (v := (-5)) hx hb dX5_order_72 (by decide +kernel) ?_
        refine cVi (As := [.int (-5)]) (rest := []) (b := qx) (q := (RX5, TX5, 9)) ⟨hx, hb, hml, hown, hts⟩ (c_X5_refuse5 l G cy (s.heap).size qx qt qk qp qs qa qr iKp iYe iTv fR) L_X5_56 hN hP hD hS hA [0, 1] [false, false, true, true, true, true, true, true, true, true, true, true, true, true, true, true, true, true, true, true, true] rfl (by decide +kernel) rfl 0 4 rfl rfl rfl ⟨Nat.le_of_ble_eq_true rfl, Nat.le_of_ble_eq_true rfl⟩ hl.1 (Nat.le_of_ble_eq_true rfl) (g_182 (v := 56) bX5_order rfl) ⟨Nat.le_of_ble_eq_true rfl, Nat.le_of_ble_eq_true rfl⟩ (fun r_17 u_19 H locs h_18 => ?_)
        clear hP hD hS
        intro hP hD hS
        obtain ⟨fX_20, hu9, h_18⟩ := h_18
        have hPD := pd_eq [_, _, _, _, _, _, _, _, _, _, _, _, _, _, _, _, _, _, _, _, zzI cy qr 5 fX_20] hP hD hu9 rfl
        clear hP hD hu9
        obtain ⟨hP, hD⟩ := hPD
        subst h_18
        exact endWs [[false, false, false, false, false, false, false, false, false, false, false, false, false, false, false, false, false, false, false, true, true], [true, true, true, true, true, true, true, true, true, true, true, true, true, true, true, true, true, true, true]] hx hb hr hlocks rfl hP hD rfl (by decide +kernel) hS ⟨fX_20, iL, iBs, tU, rfl, Or.inr ⟨k_6, hk_7, rfl, h_11, Or.inl ⟨rfl, Or.inl h_15⟩⟩, trivial⟩ (g_172 bX5_order rfl)
      · rw [bit_wb _ (by omega)] at h_15
        refine lv_if_ne (tgt := 71) hx hb dX5_order_63 (by decide +kernel) (fun h9 => absurd (by decide +kernel) h9) (fun _ => ?_)
        refine lv_iload_n hx hb (g_29 bX5_order rfl) rfl (lv_at hl 0 rfl) ?_
        refine lv_iconst (v := 5) hx hb (g_8 bX5_order rfl) (by decide +kernel) ?_
        refine lv_icmp_le (tgt := 78) hx hb dX5_order_68 (by decide +kernel) (fun c_22 => ?_) (fun c_22 => ?_)
        · refine lv_iload_n hx hb (g_28 bX5_order rfl) rfl (lv_at hl 3 rfl) ?_
          refine lv_iconst (v := (-1)) hx hb (g_2 bX5_order rfl) (by decide +kernel) ?_
          refine lv_icmp_ne (tgt := 98) hx hb dX5_order_80 (by decide +kernel) (fun c_23 => ?_) (fun c_23 => ?_)
          · refine lv_aload_n hx hb (g_42 bX5_order rfl) rfl (lv_at hl 1 rfl) ?_
            refine va_get (D := G) (ci := 4) (v := .ref qt) (C := RX5) (T := TX5) (N := 9) hx hb hts iX_X5 hown hK hP 0 rfl rfl 0 (by decide +kernel) (hts _ m_t174) (fun _ h9 => h9) rfl (g_180 (v := 10) bX5_order rfl) ?_
            refine lv_iload_n hx hb (g_28 bX5_order rfl) rfl (lv_at hl 3 rfl) ?_
            refine kRi (rV (As := [.int iB]) (rest := []) (b := qt) ⟨hx, hb, hml, hown, hts⟩ (c_X4_unreadAt l G cy qt tA qtw qtn qtg qta qtr qtm qtt qts iB hB) L_X5_281 (preRV (q := (RX4, TX4, 13)) hN hP (trueIx 0 [false, false, true, true, true, true, true, true, true, true, true]) (sel_fm rfl rfl) 2 3 rfl rfl) rfl ⟨Nat.le_of_ble_eq_true rfl, Nat.le_of_ble_eq_true rfl⟩ hl.1 (Nat.le_of_ble_eq_true rfl) (g_182 (v := 281) bX5_order rfl) ⟨Nat.le_of_ble_eq_true rfl, Nat.le_of_ble_eq_true rfl⟩) (fun r_24 h_25 => ?_)
            subst h_25
            exact endWs [[true, true, true, true, true, true, true, true, true, true, true, true, true, true, true, true, true, true, true, true, true]] hx hb hr hlocks rfl hP hD rfl (by decide +kernel) hS ⟨fR, iL, iBs, tU, rfl, Or.inr ⟨k_6, hk_7, rfl, h_11, Or.inr ⟨h_15, c_22, (if_neg c_23).symm⟩⟩, trivial⟩ (g_172 bX5_order rfl)
          · refine lv_aload_n hx hb (g_42 bX5_order rfl) rfl (lv_at hl 1 rfl) ?_
            refine va_get (D := G) (ci := 4) (v := .ref qp) (C := RX5) (T := TX5) (N := 9) hx hb hts iX_X5 hown hK hP 0 rfl rfl 2 (by decide +kernel) (hts _ m_t176) (fun _ h9 => h9) rfl (g_180 (v := 22) bX5_order rfl) ?_
            refine lv_aload_n hx hb (g_42 bX5_order rfl) rfl (lv_at hl 1 rfl) ?_
            refine va_get (D := G) (ci := 4) (v := .ref qt) (C := RX5) (T := TX5) (N := 9) hx hb hts iX_X5 hown hK hP 0 rfl rfl 0 (by decide +kernel) (hts _ m_t174) (fun _ h9 => h9) rfl (g_180 (v := 10) bX5_order rfl) ?_
            refine lv_iload_n hx hb (g_27 bX5_order rfl) rfl (lv_at hl 2 rfl) ?_
            refine cVi (As := [.ref qt, .int (nI k_6)]) (rest := []) (b := qp) (q := (RX0, TX0, 4)) ⟨hx, hb, hml, hown, hts⟩ (c_X0_worthByRising l G cy (s.heap).size qp qu (.ref qv) iL iBs tU quw qun qug qua qur qum qut qus qt tA qtw qtn qtg qta qtr qtm qtt qts k_6 hB hPp (by omega)) L_X5_277 hN hP hD hS hA (trueIxs [[false, false, false, false, false, false, false, false, false, false, false, true, true, true, true, true, true, true, true, true, true], [false, false, true, true, true, true, true, true, true, true, true]]) [true, true, false, false, false, false, false, false, false, false, false, false, false, false, false, false, false, false, false, false, false] (sels_eq rfl rfl) (by decide +kernel) rfl 11 0 rfl rfl rfl ⟨Nat.le_of_ble_eq_true rfl, Nat.le_of_ble_eq_true rfl⟩ hl.1 (Nat.le_of_ble_eq_true rfl) (g_182 (v := 277) bX5_order rfl) ⟨Nat.le_of_ble_eq_true rfl, Nat.le_of_ble_eq_true rfl⟩ (fun r_26 u_28 H locs h_27 => ?_)
            clear hP hD hS
            intro hP hD hS
            obtain ⟨hu9, h_27⟩ := h_27
            have hPD := pd_eq [_, _, _, zzO qu 3 [.int (nI (T_nb (zwr tA k_6))), .int (nI (T_np (zwr tA k_6))), .int (wb (T_wh (zwr tA k_6))), .int (wb (T_gn (zwr tA k_6))), .int (T_sd (zwr tA k_6)), .ref quw, .ref qun, .ref qug, .ref qua, .ref qur, .ref qum, .ref qut, .ref qus], zzI cy quw 8 (T_wo (zwr tA k_6)), zzI cy qun 8 (T_ne (zwr tA k_6)), zzI cy qug 8 (T_go (zwr tA k_6)), zzI cy qua 8 (T_ag (zwr tA k_6)), zzI cy qur 8 (T_re (zwr tA k_6)), zzI cy qum 8 (T_me (zwr tA k_6)), zzI cy qut 8 (T_te (zwr tA k_6)), zzI cy qus 64 (shF (T_kn (zwr tA k_6))), _, _, _, _, _, _, _, _, _] hP hD hu9 rfl
            clear hP hD hu9
            obtain ⟨hP, hD⟩ := hPD
            subst h_27
            refine lv_goto (tgt := 106) hx hb dX5_order_95 (by decide +kernel) ?_
            exact endWs [[true, true, false, false, false, false, false, false, false, false, false, false, true, true, true, true, true, true, true, true, true], [false, false, true, true, true, true, true, true, true, true, true, true]] hx hb hr hlocks rfl hP hD rfl (by decide +kernel) hS ⟨fR, iL, iBs, (zwr tA k_6), rfl, Or.inr ⟨k_6, hk_7, rfl, h_11, Or.inr ⟨h_15, c_22, (if_pos c_23).symm⟩⟩, trivial⟩ (g_172 bX5_order rfl)
        · refine lv_aload_n hx hb (g_42 bX5_order rfl) rfl (lv_at hl 1 rfl) ?_
          refine lv_bipush (v := (-5)) hx hb dX5_order_72 (by decide +kernel) ?_
          refine cVi (As := [.int (-5)]) (rest := []) (b := qx) (q := (RX5, TX5, 9)) ⟨hx, hb, hml, hown, hts⟩ (c_X5_refuse5 l G cy (s.heap).size qx qt qk qp qs qa qr iKp iYe iTv fR) L_X5_56 hN hP hD hS hA [0, 1] [false, false, true, true, true, true, true, true, true, true, true, true, true, true, true, true, true, true, true, true, true] rfl (by decide +kernel) rfl 0 4 rfl rfl rfl ⟨Nat.le_of_ble_eq_true rfl, Nat.le_of_ble_eq_true rfl⟩ hl.1 (Nat.le_of_ble_eq_true rfl) (g_182 (v := 56) bX5_order rfl) ⟨Nat.le_of_ble_eq_true rfl, Nat.le_of_ble_eq_true rfl⟩ (fun r_29 u_31 H locs h_30 => ?_)
          clear hP hD hS
          intro hP hD hS
          obtain ⟨fX_32, hu9, h_30⟩ := h_30
          have hPD := pd_eq [_, _, _, _, _, _, _, _, _, _, _, _, _, _, _, _, _, _, _, _, zzI cy qr 5 fX_32] hP hD hu9 rfl
          clear hP hD hu9
          obtain ⟨hP, hD⟩ := hPD
          subst h_30
          exact endWs [[false, false, false, false, false, false, false, false, false, false, false, false, false, false, false, false, false, false, false, true, true], [true, true, true, true, true, true, true, true, true, true, true, true, true, true, true, true, true, true, true]] hx hb hr hlocks rfl hP hD rfl (by decide +kernel) hS ⟨fX_32, iL, iBs, tU, rfl, Or.inr ⟨k_6, hk_7, rfl, h_11, Or.inl ⟨rfl, Or.inr c_22⟩⟩, trivial⟩ (g_172 bX5_order rfl)
    · refine lv_if_ne (tgt := 52) hx hb dX5_order_42 (by decide +kernel) (fun h9 => absurd (by decide +kernel) h9) (fun _ => ?_)
      refine lv_aload_n hx hb (g_42 bX5_order rfl) rfl (lv_at hl 1 rfl) ?_
      refine lv_bipush (v := (-2)) hx hb dX5_order_46 (by decide +kernel) ?_
      refine cVi (As := [.int (-2)]) (rest := []) (b := qx) (q := (RX5, TX5, 9)) ⟨hx, hb, hml, hown, hts⟩ (c_X5_refuse2 l G cy (s.heap).size qx qt qk qp qs qa qr iKp iYe iTv fR) L_X5_56 hN hP hD hS hA [0, 1] [false, false, true, true, true, true, true, true, true, true, true, true, true, true, true, true, true, true, true, true, true] rfl (by decide +kernel) rfl 0 4 rfl rfl rfl ⟨Nat.le_of_ble_eq_true rfl, Nat.le_of_ble_eq_true rfl⟩ hl.1 (Nat.le_of_ble_eq_true rfl) (g_182 (v := 56) bX5_order rfl) ⟨Nat.le_of_ble_eq_true rfl, Nat.le_of_ble_eq_true rfl⟩ (fun r_34 u_36 H locs h_35 => ?_)
      clear hP hD hS
      intro hP hD hS
      obtain ⟨fX_37, hu9, h_35⟩ := h_35
      have hPD := pd_eq [_, _, _, _, _, _, _, _, _, _, _, _, _, _, _, _, _, _, _, _, zzI cy qr 5 fX_37] hP hD hu9 rfl
      clear hP hD hu9
      obtain ⟨hP, hD⟩ := hPD
      subst h_35
      exact endWs [[false, false, false, false, false, false, false, false, false, false, false, false, false, false, false, false, false, false, false, true, true], [true, true, true, true, true, true, true, true, true, true, true, true, true, true, true, true, true, true, true]] hx hb hr hlocks rfl hP hD rfl (by decide +kernel) hS ⟨fX_37, iL, iBs, tU, rfl, Or.inl ⟨rfl, fun q => h_11 q.2⟩, trivial⟩ (g_172 bX5_order rfl)
  · refine lv_if_eq (tgt := 45) hx hb dX5_order_27 (by decide +kernel) (fun _ => ?_) (fun h9 => absurd (by decide +kernel) h9)
    refine lv_aload_n hx hb (g_42 bX5_order rfl) rfl (lv_at hl 1 rfl) ?_
    refine lv_bipush (v := (-2)) hx hb dX5_order_46 (by decide +kernel) ?_
    refine cVi (As := [.int (-2)]) (rest := []) (b := qx) (q := (RX5, TX5, 9)) ⟨hx, hb, hml, hown, hts⟩ (c_X5_refuse2 l G cy (s.heap).size qx qt qk qp qs qa qr iKp iYe iTv fR) L_X5_56 hN hP hD hS hA [0, 1] [false, false, true, true, true, true, true, true, true, true, true, true, true, true, true, true, true, true, true, true, true] rfl (by decide +kernel) rfl 0 4 rfl rfl rfl ⟨Nat.le_of_ble_eq_true rfl, Nat.le_of_ble_eq_true rfl⟩ hl.1 (Nat.le_of_ble_eq_true rfl) (g_182 (v := 56) bX5_order rfl) ⟨Nat.le_of_ble_eq_true rfl, Nat.le_of_ble_eq_true rfl⟩ (fun r_39 u_41 H locs h_40 => ?_)
    clear hP hD hS
    intro hP hD hS
    obtain ⟨fX_42, hu9, h_40⟩ := h_40
    have hPD := pd_eq [_, _, _, _, _, _, _, _, _, _, _, _, _, _, _, _, _, _, _, _, zzI cy qr 5 fX_42] hP hD hu9 rfl
    clear hP hD hu9
    obtain ⟨hP, hD⟩ := hPD
    subst h_40
    exact endWs [[false, false, false, false, false, false, false, false, false, false, false, false, false, false, false, false, false, false, false, true, true], [true, true, true, true, true, true, true, true, true, true, true, true, true, true, true, true, true, true, true]] hx hb hr hlocks rfl hP hD rfl (by decide +kernel) hS ⟨fX_42, iL, iBs, tU, rfl, Or.inl ⟨rfl, fun q => h_5 q.1⟩, trivial⟩ (g_172 bX5_order rfl)
end
section
noncomputable def XW (cy : Nat → ClassId) (aX : Nat → Nat) (iKp : Int32) (iYe : Int32) (iTv : Int32) (fR : Nat → Int32) (tA : TA) (tB : TA) (iL : Int32) (iBs : Int32) (tU : TA) (tV : TA) (fH : Nat → Int32) (fS : Nat → Int32) (fA : Nat → Int32) (gE : Nat → Int64) (kZ : Nat) (iT1 : Int32) (iT2 : Int32) (iT3 : Int32) (iT4 : Int32) (fB : Nat → Int32) (tD : TA) : va_W := (zzO (aX 0) 4 [.ref (aX 2), .ref (aX 11), .ref (aX 20), .ref (aX 39), .ref (aX 44), .ref (aX 1), .int iKp, .int iYe, .int iTv] :: zzI cy (aX 1) 5 fR :: zzO (aX 2) 3 [.int (nI (T_nb tA)), .int (nI (T_np tA)), .int (wb (T_wh tA)), .int (wb (T_gn tA)), .int (T_sd tA), .ref (aX 3), .ref (aX 4), .ref (aX 5), .ref (aX 6), .ref (aX 7), .ref (aX 8), .ref (aX 9), .ref (aX 10)] :: zzI cy (aX 3) 8 (T_wo tA) :: zzI cy (aX 4) 8 (T_ne tA) :: zzI cy (aX 5) 8 (T_go tA) :: zzI cy (aX 6) 8 (T_ag tA) :: zzI cy (aX 7) 8 (T_re tA) :: zzI cy (aX 8) 8 (T_me tA) :: zzI cy (aX 9) 8 (T_te tA) :: zzI cy (aX 10) 64 (shF (T_kn tA)) :: zzO (aX 11) 3 [.int (nI (T_nb tB)), .int (nI (T_np tB)), .int (wb (T_wh tB)), .int (wb (T_gn tB)), .int (T_sd tB), .ref (aX 12), .ref (aX 13), .ref (aX 14), .ref (aX 15), .ref (aX 16), .ref (aX 17), .ref (aX 18), .ref (aX 19)] :: zzI cy (aX 12) 8 (T_wo tB) :: zzI cy (aX 13) 8 (T_ne tB) :: zzI cy (aX 14) 8 (T_go tB) :: zzI cy (aX 15) 8 (T_ag tB) :: zzI cy (aX 16) 8 (T_re tB) :: zzI cy (aX 17) 8 (T_me tB) :: zzI cy (aX 18) 8 (T_te tB) :: zzI cy (aX 19) 64 (shF (T_kn tB)) :: zzO (aX 20) 0 [.ref (aX 21), .ref (aX 30), .int iL, .int iBs] :: zzO (aX 21) 3 [.int (nI (T_nb tU)), .int (nI (T_np tU)), .int (wb (T_wh tU)), .int (wb (T_gn tU)), .int (T_sd tU), .ref (aX 22), .ref (aX 23), .ref (aX 24), .ref (aX 25), .ref (aX 26), .ref (aX 27), .ref (aX 28), .ref (aX 29)] :: zzI cy (aX 22) 8 (T_wo tU) :: zzI cy (aX 23) 8 (T_ne tU) :: zzI cy (aX 24) 8 (T_go tU) :: zzI cy (aX 25) 8 (T_ag tU) :: zzI cy (aX 26) 8 (T_re tU) :: zzI cy (aX 27) 8 (T_me tU) :: zzI cy (aX 28) 8 (T_te tU) :: zzI cy (aX 29) 64 (shF (T_kn tU)) :: zzO (aX 30) 3 [.int (nI (T_nb tV)), .int (nI (T_np tV)), .int (wb (T_wh tV)), .int (wb (T_gn tV)), .int (T_sd tV), .ref (aX 31), .ref (aX 32), .ref (aX 33), .ref (aX 34), .ref (aX 35), .ref (aX 36), .ref (aX 37), .ref (aX 38)] :: zzI cy (aX 31) 8 (T_wo tV) :: zzI cy (aX 32) 8 (T_ne tV) :: zzI cy (aX 33) 8 (T_go tV) :: zzI cy (aX 34) 8 (T_ag tV) :: zzI cy (aX 35) 8 (T_re tV) :: zzI cy (aX 36) 8 (T_me tV) :: zzI cy (aX 37) 8 (T_te tV) :: zzI cy (aX 38) 64 (shF (T_kn tV)) :: zzO (aX 39) 1 [.ref (aX 40), .ref (aX 41), .ref (aX 42), .ref (aX 43)] :: zzI cy (aX 40) 8 fH :: zzI cy (aX 41) 8 fS :: zzI cy (aX 42) 8 fA :: zzJ cy (aX 43) 320 gE :: zzO (aX 44) 2 [.ref (aX 45), .int (nI kZ), .int iT1, .int iT2, .int iT3, .int iT4, .ref (aX 46)] :: zzB cy (aX 45) 250 fB :: zzO (aX 46) 3 [.int (nI (T_nb tD)), .int (nI (T_np tD)), .int (wb (T_wh tD)), .int (wb (T_gn tD)), .int (T_sd tD), .ref (aX 47), .ref (aX 48), .ref (aX 49), .ref (aX 50), .ref (aX 51), .ref (aX 52), .ref (aX 53), .ref (aX 54)] :: zzI cy (aX 47) 8 (T_wo tD) :: zzI cy (aX 48) 8 (T_ne tD) :: zzI cy (aX 49) 8 (T_go tD) :: zzI cy (aX 50) 8 (T_ag tD) :: zzI cy (aX 51) 8 (T_re tD) :: zzI cy (aX 52) 8 (T_me tD) :: zzI cy (aX 53) 8 (T_te tD) :: zzI cy (aX 54) 64 (shF (T_kn tD)) :: [])
noncomputable def MK (cy : Nat → ClassId) (aM : Nat → Nat) (rR rB rO rK : Nat → Nat) (fMh : Nat → Int32) (fMo : Nat → Int32) (fMz : Nat → Int32) (gMv : Nat → Int64) (fMk : Nat → Int32) (fMa : Nat → Int32) (fMt : Nat → Int32) (kY : Nat) (fMr : Nat → Int32) (fM3 : Nat → Int32) (fMu : Nat → Int32) (fMy : Nat → Int32) (fMb : Nat → Int32) (eR : Nat → Nat → Int64) (tM : TA) (iEn : Int32) (iTk : Int32) (uP : UM) (uU : UM) (kAt : Nat) (iTo : Int32) (iFr : Int32) (JFi : Int64) (iFa : Int32) (iSt : Int32) (iLv : Int32) (iWs : Int32) (wL : UL) (uS0 : UM) (uS1 : UM) (uS2 : UM) (uS3 : UM) (uS4 : UM) (iOm : Int32) : va_W := (zzO (aM 0) 5 (.ref (aM 1) :: .ref (aM 2) :: .ref (aM 3) :: .ref (aM 14) :: .ref (aM 4) :: .ref (aM 5) :: .ref (aM 6) :: .ref (aM 7) :: .int (nI kY) :: .ref (aM 8) :: .int (nI (T_nb tM)) :: .ref (aM 15) :: .int (nI (T_np tM)) :: .ref (aM 16) :: .ref (aM 17) :: .int iEn :: .int iTk :: .int (T_sd tM) :: ov uP :: ov uU :: .int (nI kAt) :: .int iTo :: .int iFr :: .long JFi :: .int iFa :: .ref (aM 9) :: .int iSt :: .int iLv :: .int iWs :: ovL wL :: .ref (aM 10) :: .ref (aM 11) :: .ref (aM 12) :: .ref (aM 13) :: .int iOm :: []) :: zzI cy (aM 1) 8 fMh :: zzI cy (aM 2) 8 fMo :: zzI cy (aM 3) 8 fMz :: zzJ cy (aM 4) 40 gMv :: zzI cy (aM 5) 8 fMk :: zzI cy (aM 6) 8 fMa :: zzI cy (aM 7) 250 fMt :: zzI cy (aM 8) 8 fMr :: zzI cy (aM 9) 3 fM3 :: zzI cy (aM 10) 8 fMu :: zzI cy (aM 11) 5 fMy :: zzI cy (aM 12) 5 fMb :: zzQ cy 5 (aM 13) 6 (sF (refU uS0) (refU uS1) (refU uS2) (refU uS3) (refU uS4)) :: zzG cy 4 (aM 14) rR :: zzJ cy (rR 0) 40 (eR 0) :: zzJ cy (rR 1) 40 (eR 1) :: zzJ cy (rR 2) 40 (eR 2) :: zzJ cy (rR 3) 40 (eR 3) :: zzJ cy (rR 4) 40 (eR 4) :: zzJ cy (rR 5) 40 (eR 5) :: zzJ cy (rR 6) 40 (eR 6) :: zzJ cy (rR 7) 40 (eR 7) :: zzG cy 3 (aM 15) rB :: zzI cy (rB 0) 4 (bkR tM 0) :: zzI cy (rB 1) 4 (bkR tM 1) :: zzI cy (rB 2) 4 (bkR tM 2) :: zzI cy (rB 3) 4 (bkR tM 3) :: zzI cy (rB 4) 4 (bkR tM 4) :: zzI cy (rB 5) 4 (bkR tM 5) :: zzI cy (rB 6) 4 (bkR tM 6) :: zzI cy (rB 7) 4 (bkR tM 7) :: zzG cy 3 (aM 16) rO :: zzI cy (rO 0) 5 (onR tM 0) :: zzI cy (rO 1) 5 (onR tM 1) :: zzI cy (rO 2) 5 (onR tM 2) :: zzI cy (rO 3) 5 (onR tM 3) :: zzI cy (rO 4) 5 (onR tM 4) :: zzI cy (rO 5) 5 (onR tM 5) :: zzI cy (rO 6) 5 (onR tM 6) :: zzI cy (rO 7) 5 (onR tM 7) :: zzG cy 3 (aM 17) rK :: zzI cy (rK 0) 8 (T_kn tM 0) :: zzI cy (rK 1) 8 (T_kn tM 1) :: zzI cy (rK 2) 8 (T_kn tM 2) :: zzI cy (rK 3) 8 (T_kn tM 3) :: zzI cy (rK 4) 8 (T_kn tM 4) :: zzI cy (rK 5) 8 (T_kn tM 5) :: zzI cy (rK 6) 8 (T_kn tM 6) :: zzI cy (rK 7) 8 (T_kn tM 7) :: [])
section PERM
variable {G : va_G} {H : Heap} {A : Nat → Prop} {a b c d k t x u l s p q w : va_W}
theorem rotP (h : va_P G CL (a ++ (b ++ (c ++ d))) H) : va_P G CL (a ++ (c ++ (b ++ d))) H := by
  have h1 : va_P G CL ((a ++ b) ++ (c ++ d)) H := by rw [List.append_assoc]; exact h
  have h2 := h1.swap
  have h3 : va_P G CL (((a ++ c) ++ d) ++ b) H := by rw [List.append_assoc a c d]; exact h2
  have h4 := h3.swap
  rw [List.append_assoc, List.append_assoc] at h4
  exact h4
theorem rotD (h : va_D A (a ++ (b ++ (c ++ d)))) : va_D A (a ++ (c ++ (b ++ d))) := by
  have h1 : va_D A ((a ++ b) ++ (c ++ d)) := by rw [List.append_assoc]; exact h
  have h2 := h1.swap
  have h3 : va_D A (((a ++ c) ++ d) ++ b) := by rw [List.append_assoc a c d]; exact h2
  have h4 := h3.swap
  rw [List.append_assoc, List.append_assoc] at h4
  exact h4
theorem toNP (h : va_P G CL (x ++ (k ++ t)) H) : va_P G CL (k ++ (t ++ x)) H := by
  have h0 := h
  have h1 : va_P G CL ([] ++ ((k ++ t) ++ (x ++ []))) H := rotP (a := []) (b := x) (c := (k ++ t)) (d := []) (by simpa only [List.append_assoc, List.nil_append, List.append_nil] using h0)
  simpa only [List.append_assoc, List.nil_append, List.append_nil] using h1
theorem toND (h : va_D A (x ++ (k ++ t))) : va_D A (k ++ (t ++ x)) := by
  have h0 := h
  have h1 : va_D A ([] ++ ((k ++ t) ++ (x ++ []))) := rotD (a := []) (b := x) (c := (k ++ t)) (d := []) (by simpa only [List.append_assoc, List.nil_append, List.append_nil] using h0)
  simpa only [List.append_assoc, List.nil_append, List.append_nil] using h1
theorem ofNP (h : va_P G CL (k ++ (t ++ x)) H) : va_P G CL (x ++ (k ++ t)) H := by
  have h0 := h
  have h1 : va_P G CL ([] ++ (x ++ ((k ++ t) ++ []))) H := rotP (a := []) (b := (k ++ t)) (c := x) (d := []) (by simpa only [List.append_assoc, List.nil_append, List.append_nil] using h0)
  simpa only [List.append_assoc, List.nil_append, List.append_nil] using h1
theorem ofND (h : va_D A (k ++ (t ++ x))) : va_D A (x ++ (k ++ t)) := by
  have h0 := h
  have h1 : va_D A ([] ++ (x ++ ((k ++ t) ++ []))) := rotD (a := []) (b := (k ++ t)) (c := x) (d := []) (by simpa only [List.append_assoc, List.nil_append, List.append_nil] using h0)
  simpa only [List.append_assoc, List.nil_append, List.append_nil] using h1
theorem toUP (h : va_P G CL (x ++ (k ++ (u ++ t))) H) : va_P G CL ((k ++ u) ++ (t ++ x)) H := by
  have h0 := h
  have h1 : va_P G CL ([] ++ ((k ++ (u ++ t)) ++ (x ++ []))) H := rotP (a := []) (b := x) (c := (k ++ (u ++ t))) (d := []) (by simpa only [List.append_assoc, List.nil_append, List.append_nil] using h0)
  simpa only [List.append_assoc, List.nil_append, List.append_nil] using h1
theorem toUD (h : va_D A (x ++ (k ++ (u ++ t)))) : va_D A ((k ++ u) ++ (t ++ x)) := by
  have h0 := h
  have h1 : va_D A ([] ++ ((k ++ (u ++ t)) ++ (x ++ []))) := rotD (a := []) (b := x) (c := (k ++ (u ++ t))) (d := []) (by simpa only [List.append_assoc, List.nil_append, List.append_nil] using h0)
  simpa only [List.append_assoc, List.nil_append, List.append_nil] using h1
theorem ofUP (h : va_P G CL (k ++ (u ++ (t ++ x))) H) : va_P G CL (x ++ (k ++ (u ++ t))) H := by
  have h0 := h
  have h1 : va_P G CL ([] ++ (x ++ ((k ++ (u ++ t)) ++ []))) H := rotP (a := []) (b := (k ++ (u ++ t))) (c := x) (d := []) (by simpa only [List.append_assoc, List.nil_append, List.append_nil] using h0)
  simpa only [List.append_assoc, List.nil_append, List.append_nil] using h1
theorem ofUD (h : va_D A (k ++ (u ++ (t ++ x)))) : va_D A (x ++ (k ++ (u ++ t))) := by
  have h0 := h
  have h1 : va_D A ([] ++ (x ++ ((k ++ (u ++ t)) ++ []))) := rotD (a := []) (b := (k ++ (u ++ t))) (c := x) (d := []) (by simpa only [List.append_assoc, List.nil_append, List.append_nil] using h0)
  simpa only [List.append_assoc, List.nil_append, List.append_nil] using h1
theorem toLP (h : va_P G CL (x ++ (k ++ (u ++ (l ++ t)))) H) : va_P G CL ((k ++ (u ++ l)) ++ (t ++ x)) H := by
  have h0 := h
  have h1 : va_P G CL ([] ++ ((k ++ (u ++ (l ++ t))) ++ (x ++ []))) H := rotP (a := []) (b := x) (c := (k ++ (u ++ (l ++ t)))) (d := []) (by simpa only [List.append_assoc, List.nil_append, List.append_nil] using h0)
  simpa only [List.append_assoc, List.nil_append, List.append_nil] using h1
theorem toLD (h : va_D A (x ++ (k ++ (u ++ (l ++ t))))) : va_D A ((k ++ (u ++ l)) ++ (t ++ x)) := by
  have h0 := h
  have h1 : va_D A ([] ++ ((k ++ (u ++ (l ++ t))) ++ (x ++ []))) := rotD (a := []) (b := x) (c := (k ++ (u ++ (l ++ t)))) (d := []) (by simpa only [List.append_assoc, List.nil_append, List.append_nil] using h0)
  simpa only [List.append_assoc, List.nil_append, List.append_nil] using h1
theorem ofLP (h : va_P G CL (k ++ ((u ++ l) ++ (t ++ x))) H) : va_P G CL (x ++ (k ++ (u ++ (l ++ t)))) H := by
  have h0 := h
  have h1 : va_P G CL ([] ++ (x ++ ((k ++ (u ++ (l ++ t))) ++ []))) H := rotP (a := []) (b := (k ++ (u ++ (l ++ t)))) (c := x) (d := []) (by simpa only [List.append_assoc, List.nil_append, List.append_nil] using h0)
  simpa only [List.append_assoc, List.nil_append, List.append_nil] using h1
theorem ofLD (h : va_D A (k ++ ((u ++ l) ++ (t ++ x)))) : va_D A (x ++ (k ++ (u ++ (l ++ t)))) := by
  have h0 := h
  have h1 : va_D A ([] ++ (x ++ ((k ++ (u ++ (l ++ t))) ++ []))) := rotD (a := []) (b := (k ++ (u ++ (l ++ t)))) (c := x) (d := []) (by simpa only [List.append_assoc, List.nil_append, List.append_nil] using h0)
  simpa only [List.append_assoc, List.nil_append, List.append_nil] using h1
theorem toPP (h : va_P G CL (x ++ (k ++ (u ++ (l ++ (p ++ s))))) H) : va_P G CL ((k ++ p) ++ (u ++ (l ++ (s ++ x)))) H := by
  have h0 := h
  have h1 : va_P G CL ([] ++ ((k ++ (u ++ (l ++ (p ++ s)))) ++ (x ++ []))) H := rotP (a := []) (b := x) (c := (k ++ (u ++ (l ++ (p ++ s))))) (d := []) (by simpa only [List.append_assoc, List.nil_append, List.append_nil] using h0)
  have h2 : va_P G CL (k ++ (p ++ ((u ++ l) ++ (s ++ x)))) H := rotP (a := k) (b := (u ++ l)) (c := p) (d := (s ++ x)) (by simpa only [List.append_assoc, List.nil_append, List.append_nil] using h1)
  simpa only [List.append_assoc, List.nil_append, List.append_nil] using h2
theorem toPD (h : va_D A (x ++ (k ++ (u ++ (l ++ (p ++ s)))))) : va_D A ((k ++ p) ++ (u ++ (l ++ (s ++ x)))) := by
  have h0 := h
  have h1 : va_D A ([] ++ ((k ++ (u ++ (l ++ (p ++ s)))) ++ (x ++ []))) := rotD (a := []) (b := x) (c := (k ++ (u ++ (l ++ (p ++ s))))) (d := []) (by simpa only [List.append_assoc, List.nil_append, List.append_nil] using h0)
  have h2 : va_D A (k ++ (p ++ ((u ++ l) ++ (s ++ x)))) := rotD (a := k) (b := (u ++ l)) (c := p) (d := (s ++ x)) (by simpa only [List.append_assoc, List.nil_append, List.append_nil] using h1)
  simpa only [List.append_assoc, List.nil_append, List.append_nil] using h2
theorem ofPP (h : va_P G CL (k ++ (p ++ (u ++ (l ++ (s ++ x))))) H) : va_P G CL (x ++ (k ++ (u ++ (l ++ (p ++ s))))) H := by
  have h0 := h
  have h1 : va_P G CL (k ++ ((u ++ l) ++ (p ++ (s ++ x)))) H := rotP (a := k) (b := p) (c := (u ++ l)) (d := (s ++ x)) (by simpa only [List.append_assoc, List.nil_append, List.append_nil] using h0)
  have h2 : va_P G CL ([] ++ (x ++ ((k ++ (u ++ (l ++ (p ++ s)))) ++ []))) H := rotP (a := []) (b := (k ++ (u ++ (l ++ (p ++ s))))) (c := x) (d := []) (by simpa only [List.append_assoc, List.nil_append, List.append_nil] using h1)
  simpa only [List.append_assoc, List.nil_append, List.append_nil] using h2
theorem ofPD (h : va_D A (k ++ (p ++ (u ++ (l ++ (s ++ x)))))) : va_D A (x ++ (k ++ (u ++ (l ++ (p ++ s))))) := by
  have h0 := h
  have h1 : va_D A (k ++ ((u ++ l) ++ (p ++ (s ++ x)))) := rotD (a := k) (b := p) (c := (u ++ l)) (d := (s ++ x)) (by simpa only [List.append_assoc, List.nil_append, List.append_nil] using h0)
  have h2 : va_D A ([] ++ (x ++ ((k ++ (u ++ (l ++ (p ++ s)))) ++ []))) := rotD (a := []) (b := (k ++ (u ++ (l ++ (p ++ s))))) (c := x) (d := []) (by simpa only [List.append_assoc, List.nil_append, List.append_nil] using h1)
  simpa only [List.append_assoc, List.nil_append, List.append_nil] using h2
theorem toSP (h : va_P G CL (x ++ (k ++ (u ++ (l ++ (p ++ s))))) H) : va_P G CL ((k ++ s) ++ (u ++ (l ++ (p ++ x)))) H := by
  have h0 := h
  have h1 : va_P G CL ([] ++ ((k ++ (u ++ (l ++ (p ++ s)))) ++ (x ++ []))) H := rotP (a := []) (b := x) (c := (k ++ (u ++ (l ++ (p ++ s))))) (d := []) (by simpa only [List.append_assoc, List.nil_append, List.append_nil] using h0)
  have h2 : va_P G CL (k ++ (s ++ ((u ++ (l ++ p)) ++ x))) H := rotP (a := k) (b := (u ++ (l ++ p))) (c := s) (d := x) (by simpa only [List.append_assoc, List.nil_append, List.append_nil] using h1)
  simpa only [List.append_assoc, List.nil_append, List.append_nil] using h2
theorem toSD (h : va_D A (x ++ (k ++ (u ++ (l ++ (p ++ s)))))) : va_D A ((k ++ s) ++ (u ++ (l ++ (p ++ x)))) := by
  have h0 := h
  have h1 : va_D A ([] ++ ((k ++ (u ++ (l ++ (p ++ s)))) ++ (x ++ []))) := rotD (a := []) (b := x) (c := (k ++ (u ++ (l ++ (p ++ s))))) (d := []) (by simpa only [List.append_assoc, List.nil_append, List.append_nil] using h0)
  have h2 : va_D A (k ++ (s ++ ((u ++ (l ++ p)) ++ x))) := rotD (a := k) (b := (u ++ (l ++ p))) (c := s) (d := x) (by simpa only [List.append_assoc, List.nil_append, List.append_nil] using h1)
  simpa only [List.append_assoc, List.nil_append, List.append_nil] using h2
theorem ofSP (h : va_P G CL (k ++ (s ++ (u ++ (l ++ (p ++ x))))) H) : va_P G CL (x ++ (k ++ (u ++ (l ++ (p ++ s))))) H := by
  have h0 := h
  have h1 : va_P G CL (k ++ ((u ++ (l ++ p)) ++ (s ++ x))) H := rotP (a := k) (b := s) (c := (u ++ (l ++ p))) (d := x) (by simpa only [List.append_assoc, List.nil_append, List.append_nil] using h0)
  have h2 : va_P G CL ([] ++ (x ++ ((k ++ (u ++ (l ++ (p ++ s)))) ++ []))) H := rotP (a := []) (b := (k ++ (u ++ (l ++ (p ++ s))))) (c := x) (d := []) (by simpa only [List.append_assoc, List.nil_append, List.append_nil] using h1)
  simpa only [List.append_assoc, List.nil_append, List.append_nil] using h2
theorem ofSD (h : va_D A (k ++ (s ++ (u ++ (l ++ (p ++ x)))))) : va_D A (x ++ (k ++ (u ++ (l ++ (p ++ s))))) := by
  have h0 := h
  have h1 : va_D A (k ++ ((u ++ (l ++ p)) ++ (s ++ x))) := rotD (a := k) (b := s) (c := (u ++ (l ++ p))) (d := x) (by simpa only [List.append_assoc, List.nil_append, List.append_nil] using h0)
  have h2 : va_D A ([] ++ (x ++ ((k ++ (u ++ (l ++ (p ++ s)))) ++ []))) := rotD (a := []) (b := (k ++ (u ++ (l ++ (p ++ s))))) (c := x) (d := []) (by simpa only [List.append_assoc, List.nil_append, List.append_nil] using h1)
  simpa only [List.append_assoc, List.nil_append, List.append_nil] using h2
end PERM
noncomputable def SX (tA tB tD : TA) (fS : Nat → Int32) (kZ : Nat) : Prop := (T_nb tA ≤ 8 ∧ T_np tA ≤ 8) ∧ (T_nb tB ≤ 8 ∧ T_np tB ≤ 8) ∧ T_nb tD ≤ 8 ∧ (∀ s, s < 8 → ∃ n : Nat, n ≤ 40 ∧ fS s = nI n) ∧ kZ ≤ 250
noncomputable def SM (tM : TA) (uP : UM) (fMz fMa : Nat → Int32) (kY : Nat) : Prop := TI tM ∧ (isS uP = true → TI (uT uP)) ∧ (∀ s, s < 8 → ∃ n : Nat, n ≤ 40 ∧ fMz s = nI n) ∧ (∀ s, s < 8 → ∃ n : Nat, n ≤ 99 ∧ fMa s = nI n) ∧ kY ≤ 250
noncomputable def WJ (t : TA) : Prop := WI t ∧ NI t
/-! the towns are one town: what each call leaves of that -/
noncomputable def TWR (tA tB : TA) (fB : Nat → Int32) (kZ : Nat) (fMt : Nat → Int32) (kY : Nat) (tM : TA) (uP : UM) : Prop := tA = tM ∧ WJ tM ∧ (isS uP = true → tB = uT uP ∧ WJ (uT uP)) ∧ nbf fB kZ = nbf fMt kY
theorem k_eq {k k' n : Nat} {a : Int32} (hn : n ≤ 8) (hk : k < n) (hk' : k' < n) (e : a = nI k) (e' : a = nI k') : k' = k := nI_inj (by omega) (by omega) (e'.symm.trans e)
section TW
variable {tA tM t1 t2 : TA} {a b c d r r' : Int32}
theorem book_k (e : tA = tM) (h1 : PXbook tA a b r t1) (h2 : PXbook tM a b r' t2) : r = r' ∧ t1 = t2 := by
  subst e
  rcases h1 with ⟨e1, c1, f1⟩ | ⟨e1, c1, d1, g1, f1⟩ | ⟨e1, c1, d1, g1, f1⟩
  · rcases h2 with ⟨e2, c2, f2⟩ | ⟨e2, c2, d2, g2, f2⟩ | ⟨e2, c2, d2, g2, f2⟩
    · exact ⟨e1.trans e2.symm, f1.trans f2.symm⟩
    · exact absurd ⟨c2, d2⟩ c1
    · exact absurd ⟨c2, d2⟩ c1
  · rcases h2 with ⟨e2, c2, f2⟩ | ⟨e2, c2, d2, g2, f2⟩ | ⟨e2, c2, d2, g2, f2⟩
    · exact absurd ⟨c1, d1⟩ c2
    · exact ⟨e1.trans e2.symm, f1.trans f2.symm⟩
    · exact absurd g2 g1
  · rcases h2 with ⟨e2, c2, f2⟩ | ⟨e2, c2, d2, g2, f2⟩ | ⟨e2, c2, d2, g2, f2⟩
    · exact absurd ⟨c1, d1⟩ c2
    · exact absurd g1 g2
    · exact ⟨e1.trans e2.symm, f1.trans f2.symm⟩
theorem one_k (e : tA = tM) (h1 : PXone tA a b c d r t1) (h2 : PXone tM a b c d r' t2) : r = r' ∧ t1 = t2 := by
  subst e
  rcases h1 with ⟨e1, c1, f1⟩ | ⟨e1, c1, g1, f1⟩ | ⟨e1, c1, g1, f1⟩
  · rcases h2 with ⟨e2, c2, f2⟩ | ⟨e2, c2, g2, f2⟩ | ⟨e2, c2, g2, f2⟩
    · exact ⟨e1.trans e2.symm, f1.trans f2.symm⟩
    · exact absurd c2 c1
    · exact absurd c2 c1
  · rcases h2 with ⟨e2, c2, f2⟩ | ⟨e2, c2, g2, f2⟩ | ⟨e2, c2, g2, f2⟩
    · exact absurd c1 c2
    · exact ⟨e1.trans e2.symm, f1.trans f2.symm⟩
    · exact absurd g2 g1
  · rcases h2 with ⟨e2, c2, f2⟩ | ⟨e2, c2, g2, f2⟩ | ⟨e2, c2, g2, f2⟩
    · exact absurd c1 c2
    · exact absurd g1 g2
    · exact ⟨e1.trans e2.symm, f1.trans f2.symm⟩
theorem alter_k (e : tA = tM) (hn : T_nb tM ≤ 8 ∧ T_np tM ≤ 8) (h1 : PXalter tA a b c r t1) (h2 : PXalter tM a b c r' t2) : r = r' ∧ t1 = t2 := by
  subst e
  rcases h1 with ⟨e1, c1, f1⟩ | ⟨k, m, hk, hm, ek, em, iv, h1⟩
  · rcases h2 with ⟨e2, c2, f2⟩ | ⟨k, m, hk, hm, ek, em, iv, h2⟩
    · exact ⟨e1.trans e2.symm, f1.trans f2.symm⟩
    · exact absurd ⟨⟨⟨k, hk, ek⟩, ⟨m, hm, em⟩⟩, iv⟩ c1
  · rcases h2 with ⟨e2, c2, f2⟩ | ⟨k', m', hk', hm', ek', em', iv', h2⟩
    · exact absurd ⟨⟨⟨k, hk, ek⟩, ⟨m, hm, em⟩⟩, iv⟩ c2
    · have q1 := k_eq hn.2 hk hk' ek ek'
      have q2 := k_eq hn.1 hm hm' em em'
      subst q1
      subst q2
      rcases h1 with ⟨e1, g1, f1⟩ | ⟨e1, g1, f1⟩
      · rcases h2 with ⟨e2, g2, f2⟩ | ⟨e2, g2, f2⟩
        · exact ⟨e1.trans e2.symm, f1.trans f2.symm⟩
        · rw [g1] at g2; cases g2
      · rcases h2 with ⟨e2, g2, f2⟩ | ⟨e2, g2, f2⟩
        · rw [g1] at g2; cases g2
        · exact ⟨e1.trans e2.symm, f1.trans f2.symm⟩
theorem read_k (e : tA = tM) (hn : T_nb tM ≤ 8 ∧ T_np tM ≤ 8) (h1 : PXread tA a b r t1) (h2 : PXread tM a b r' t2) : r = r' ∧ t1 = t2 := by
  subst e
  rcases h1 with ⟨e1, c1, f1⟩ | ⟨k, m, hk, hm, ek, em, h1⟩
  · rcases h2 with ⟨e2, c2, f2⟩ | ⟨k, m, hk, hm, ek, em, h2⟩
    · exact ⟨e1.trans e2.symm, f1.trans f2.symm⟩
    · exact absurd ⟨⟨k, hk, ek⟩, ⟨m, hm, em⟩⟩ c1
  · rcases h2 with ⟨e2, c2, f2⟩ | ⟨k', m', hk', hm', ek', em', h2⟩
    · exact absurd ⟨⟨k, hk, ek⟩, ⟨m, hm, em⟩⟩ c2
    · have q1 := k_eq hn.2 hk hk' ek ek'
      have q2 := k_eq hn.1 hm hm' em em'
      subst q1
      subst q2
      rcases h1 with ⟨e1, g1, f1⟩ | ⟨e1, g1, p1, f1⟩
      · rcases h2 with ⟨e2, g2, f2⟩ | ⟨e2, g2, p2, f2⟩
        · exact ⟨e1.trans e2.symm, f1.trans f2.symm⟩
        · rw [g2, p2] at g1; exact absurd g1 (by decide +kernel)
      · rcases h2 with ⟨e2, g2, f2⟩ | ⟨e2, g2, p2, f2⟩
        · rw [g1, p1] at g2; exact absurd g2 (by decide +kernel)
        · exact ⟨e1.trans e2.symm, f1.trans f2.symm⟩
theorem aloud_k (e : tA = tM) (hn : T_nb tM ≤ 8 ∧ T_np tM ≤ 8) (h1 : PXaloud tA a b c r t1) (h2 : PXaloud tM a b c r' t2) : r = r' ∧ t1 = t2 := by
  subst e
  rcases h1 with ⟨e1, c1, f1⟩ | ⟨k, m, hk, hm, ek, em, iv, h1⟩
  · rcases h2 with ⟨e2, c2, f2⟩ | ⟨k, m, hk, hm, ek, em, iv, h2⟩
    · exact ⟨e1.trans e2.symm, f1.trans f2.symm⟩
    · exact absurd ⟨iv, ⟨⟨k, hk, ek⟩, ⟨m, hm, em⟩⟩⟩ c1
  · rcases h2 with ⟨e2, c2, f2⟩ | ⟨k', m', hk', hm', ek', em', iv', h2⟩
    · exact absurd ⟨iv, ⟨⟨k, hk, ek⟩, ⟨m, hm, em⟩⟩⟩ c2
    · have q1 := k_eq hn.2 hk hk' ek ek'
      have q2 := k_eq hn.1 hm hm' em em'
      subst q1
      subst q2
      rcases h1 with ⟨e1, g1, f1⟩ | ⟨e1, g1, p1, f1⟩
      · rcases h2 with ⟨e2, g2, f2⟩ | ⟨e2, g2, p2, f2⟩
        · exact ⟨e1.trans e2.symm, f1.trans f2.symm⟩
        · rw [g2, p2] at g1; exact absurd g1 (by decide +kernel)
      · rcases h2 with ⟨e2, g2, f2⟩ | ⟨e2, g2, p2, f2⟩
        · rw [g1, p1] at g2; exact absurd g2 (by decide +kernel)
        · exact ⟨e1.trans e2.symm, f1.trans f2.symm⟩
theorem tell_k (e : tA = tM) (hn : T_nb tM ≤ 8 ∧ T_np tM ≤ 8) (h1 : PXtell tA a b c r t1) (h2 : PXtell tM a b c r' t2) : r = r' ∧ t1 = t2 := by
  subst e
  rcases h1 with ⟨e1, c1, f1⟩ | ⟨k, j, m, hk, hj, hm, ek, ej, em, ne, h1⟩
  · rcases h2 with ⟨e2, c2, f2⟩ | ⟨k, j, m, hk, hj, hm, ek, ej, em, ne, h2⟩
    · exact ⟨e1.trans e2.symm, f1.trans f2.symm⟩
    · exact absurd ⟨⟨⟨k, hk, ek⟩, ⟨m, hm, em⟩⟩, ⟨j, hj, ej⟩, fun q => ne (nI_inj (by omega) (by omega) (ek.symm.trans (q.trans ej)))⟩ c1
  · rcases h2 with ⟨e2, c2, f2⟩ | ⟨k', j', m', hk', hj', hm', ek', ej', em', ne', h2⟩
    · exact absurd ⟨⟨⟨k, hk, ek⟩, ⟨m, hm, em⟩⟩, ⟨j, hj, ej⟩, fun q => ne (nI_inj (by omega) (by omega) (ek.symm.trans (q.trans ej)))⟩ c2
    · have q1 := k_eq hn.2 hk hk' ek ek'
      have q2 := k_eq hn.1 hm hm' em em'
      have q3 := k_eq hn.2 hj hj' ej ej'
      subst q1
      subst q2
      subst q3
      rcases h1 with ⟨e1, g1, f1⟩ | ⟨e1, g1, p1, f1⟩
      · rcases h2 with ⟨e2, g2, f2⟩ | ⟨e2, g2, p2, f2⟩
        · exact ⟨e1.trans e2.symm, f1.trans f2.symm⟩
        · rw [g2, p2] at g1; exact absurd g1 (by decide +kernel)
      · rcases h2 with ⟨e2, g2, f2⟩ | ⟨e2, g2, p2, f2⟩
        · rw [g1, p1] at g2; exact absurd g2 (by decide +kernel)
        · exact ⟨e1.trans e2.symm, f1.trans f2.symm⟩
theorem write_k (e : tA = tM) (hn : T_nb tM ≤ 8 ∧ T_np tM ≤ 8) (h1 : PXwrite tA a b r t1) (h2 : PXwrite tM a b r' t2) : r = r' ∧ t1 = t2 := by
  subst e
  rcases h1 with ⟨e1, c1, f1⟩ | ⟨k, m, hk, hm, ek, em, h1⟩
  · rcases h2 with ⟨e2, c2, f2⟩ | ⟨k, m, hk, hm, ek, em, h2⟩
    · exact ⟨e1.trans e2.symm, f1.trans f2.symm⟩
    · exact absurd ⟨⟨k, hk, ek⟩, ⟨m, hm, em⟩⟩ c1
  · rcases h2 with ⟨e2, c2, f2⟩ | ⟨k', m', hk', hm', ek', em', h2⟩
    · exact absurd ⟨⟨k, hk, ek⟩, ⟨m, hm, em⟩⟩ c2
    · have q1 := k_eq hn.2 hk hk' ek ek'
      have q2 := k_eq hn.1 hm hm' em em'
      subst q1
      subst q2
      rcases h1 with ⟨e1, g1, f1⟩ | ⟨e1, g1, p1, n1, f1⟩
      · rcases h2 with ⟨e2, g2, f2⟩ | ⟨e2, g2, p2, n2, f2⟩
        · exact ⟨e1.trans e2.symm, f1.trans f2.symm⟩
        · rw [g2, p2] at g1; rcases g1 with g | g | g
          · cases g
          · cases g
          · exact absurd g n2
      · rcases h2 with ⟨e2, g2, f2⟩ | ⟨e2, g2, p2, n2, f2⟩
        · rw [g1, p1] at g2; rcases g2 with g | g | g
          · cases g
          · cases g
          · exact absurd g n1
        · exact ⟨e1.trans e2.symm, f1.trans f2.symm⟩
theorem town_k {R : Nat ⊕ (TA × Nat)} (e : tA = tM) (h1 : PXtown R tA r t1) (h2 : PXtown R tM r' t2) : r = r' ∧ t1 = t2 := by
  subst e
  rcases h1 with ⟨x, e1, r1, f1⟩ | ⟨x, e1, r1⟩
  · rcases h2 with ⟨y, e2, r2, f2⟩ | ⟨y, e2, r2⟩
    · have q := Sum.inl.inj (e1.symm.trans e2)
      exact ⟨by rw [r1, r2, q], f1.trans f2.symm⟩
    · rw [e1] at e2; cases e2
  · rcases h2 with ⟨y, e2, r2, f2⟩ | ⟨y, e2, r2⟩
    · rw [e1] at e2; cases e2
    · have q := Prod.mk.inj (Sum.inr.inj (e1.symm.trans e2))
      exact ⟨by rw [r1, r2, q.2], q.1⟩
end TW
theorem nbf_0 {f g : Nat → Int32} : nbf f 0 = nbf g 0 := by
  funext i
  show (if i < 0 then nrm (f i) else 128) = if i < 0 then nrm (g i) else 128
  rw [if_neg (by omega), if_neg (by omega)]
noncomputable def SH1 (s : Nat) (fH fS fA : Nat → Int32) (gE : Nat → Int64) (fMh fMo fMz fMk fMa : Nat → Int32) (eR : Nat → Nat → Int64) : Prop := (fMh s = 0 ∧ fH s = -1) ∨ (fMh s = 1 ∧ fH s = fMo s ∧ Rw (fH s) ∧ fS s = fMz s ∧ ∀ n i : Nat, fS s = nI n → n ≤ 40 → i < n → gE (s * 40 + i) = eR s i) ∨ (fMh s = 2 ∧ fH s = 10 + fMk s ∧ Iv (fMk s).toInt64 1 6 ∧ fA s = fMa s)
noncomputable def SHR (fH fS fA : Nat → Int32) (gE : Nat → Int64) (fMh fMo fMz fMk fMa : Nat → Int32) (eR : Nat → Nat → Int64) : Prop := ∀ s, s < 8 → SH1 s fH fS fA gE fMh fMo fMz fMk fMa eR
noncomputable def LR (iKp : Int32) (tA tB : TA) (fH fS fA : Nat → Int32) (gE : Nat → Int64) (kZ : Nat) (fMh fMo fMz fMk fMa : Nat → Int32) (eR : Nat → Nat → Int64) (kY : Nat) (tM : TA) (uP : UM) (fB fMt : Nat → Int32) : Prop := (kZ = kY ∧ (iKp = 0 ↔ isS uP = false) ∧ SHR fH fS fA gE fMh fMo fMz fMk fMa eR) ∧ TWR tA tB fB kZ fMt kY tM uP
noncomputable def LINV (G : va_G) (cy : Nat → ClassId) (A : Nat → Prop) (H : Heap) (aX aM rR rB rO rK : Nat → Nat) : Prop := ∃ (iKp : Int32) (iYe : Int32) (iTv : Int32) (fR : Nat → Int32) (tA : TA) (tB : TA) (iL : Int32) (iBs : Int32) (tU : TA) (tV : TA) (fH : Nat → Int32) (fS : Nat → Int32) (fA : Nat → Int32) (gE : Nat → Int64) (kZ : Nat) (iT1 : Int32) (iT2 : Int32) (iT3 : Int32) (iT4 : Int32) (fB : Nat → Int32) (tD : TA) (fMh : Nat → Int32) (fMo : Nat → Int32) (fMz : Nat → Int32) (gMv : Nat → Int64) (fMk : Nat → Int32) (fMa : Nat → Int32) (fMt : Nat → Int32) (kY : Nat) (fMr : Nat → Int32) (fM3 : Nat → Int32) (fMu : Nat → Int32) (fMy : Nat → Int32) (fMb : Nat → Int32) (eR : Nat → Nat → Int64) (tM : TA) (iEn : Int32) (iTk : Int32) (uP : UM) (uU : UM) (kAt : Nat) (iTo : Int32) (iFr : Int32) (JFi : Int64) (iFa : Int32) (iSt : Int32) (iLv : Int32) (iWs : Int32) (wL : UL) (uS0 : UM) (uS1 : UM) (uS2 : UM) (uS3 : UM) (uS4 : UM) (iOm : Int32), va_P G CL ((XW cy aX iKp iYe iTv fR tA tB iL iBs tU tV fH fS fA gE kZ iT1 iT2 iT3 iT4 fB tD) ++ ((MK cy aM rR rB rO rK fMh fMo fMz gMv fMk fMa fMt kY fMr fM3 fMu fMy fMb eR tM iEn iTk uP uU kAt iTo iFr JFi iFa iSt iLv iWs wL uS0 uS1 uS2 uS3 uS4 iOm) ++ ((oM cy uU) ++ ((oL cy wL) ++ ((oM cy uP) ++ (oM cy uS0 ++ (oM cy uS1 ++ (oM cy uS2 ++ (oM cy uS3 ++ oM cy uS4))))))))) H ∧ va_D A ((XW cy aX iKp iYe iTv fR tA tB iL iBs tU tV fH fS fA gE kZ iT1 iT2 iT3 iT4 fB tD) ++ ((MK cy aM rR rB rO rK fMh fMo fMz gMv fMk fMa fMt kY fMr fM3 fMu fMy fMb eR tM iEn iTk uP uU kAt iTo iFr JFi iFa iSt iLv iWs wL uS0 uS1 uS2 uS3 uS4 iOm) ++ ((oM cy uU) ++ ((oL cy wL) ++ ((oM cy uP) ++ (oM cy uS0 ++ (oM cy uS1 ++ (oM cy uS2 ++ (oM cy uS3 ++ oM cy uS4))))))))) ∧ SX tA tB tD fS kZ ∧ SM tM uP fMz fMa kY ∧ LR iKp tA tB fH fS fA gE kZ fMh fMo fMz fMk fMa eR kY tM uP fB fMt
theorem linv_mk {G : va_G} {cy : Nat → ClassId} {A : Nat → Prop} {H : Heap} {aX aM rR rB rO rK : Nat → Nat} {iKp : Int32} {iYe : Int32} {iTv : Int32} {fR : Nat → Int32} {tA : TA} {tB : TA} {iL : Int32} {iBs : Int32} {tU : TA} {tV : TA} {fH : Nat → Int32} {fS : Nat → Int32} {fA : Nat → Int32} {gE : Nat → Int64} {kZ : Nat} {iT1 : Int32} {iT2 : Int32} {iT3 : Int32} {iT4 : Int32} {fB : Nat → Int32} {tD : TA} {fMh : Nat → Int32} {fMo : Nat → Int32} {fMz : Nat → Int32} {gMv : Nat → Int64} {fMk : Nat → Int32} {fMa : Nat → Int32} {fMt : Nat → Int32} {kY : Nat} {fMr : Nat → Int32} {fM3 : Nat → Int32} {fMu : Nat → Int32} {fMy : Nat → Int32} {fMb : Nat → Int32} {eR : Nat → Nat → Int64} {tM : TA} {iEn : Int32} {iTk : Int32} {uP : UM} {uU : UM} {kAt : Nat} {iTo : Int32} {iFr : Int32} {JFi : Int64} {iFa : Int32} {iSt : Int32} {iLv : Int32} {iWs : Int32} {wL : UL} {uS0 : UM} {uS1 : UM} {uS2 : UM} {uS3 : UM} {uS4 : UM} {iOm : Int32} (hP : va_P G CL ((XW cy aX iKp iYe iTv fR tA tB iL iBs tU tV fH fS fA gE kZ iT1 iT2 iT3 iT4 fB tD) ++ ((MK cy aM rR rB rO rK fMh fMo fMz gMv fMk fMa fMt kY fMr fM3 fMu fMy fMb eR tM iEn iTk uP uU kAt iTo iFr JFi iFa iSt iLv iWs wL uS0 uS1 uS2 uS3 uS4 iOm) ++ ((oM cy uU) ++ ((oL cy wL) ++ ((oM cy uP) ++ (oM cy uS0 ++ (oM cy uS1 ++ (oM cy uS2 ++ (oM cy uS3 ++ oM cy uS4))))))))) H) (hD : va_D A ((XW cy aX iKp iYe iTv fR tA tB iL iBs tU tV fH fS fA gE kZ iT1 iT2 iT3 iT4 fB tD) ++ ((MK cy aM rR rB rO rK fMh fMo fMz gMv fMk fMa fMt kY fMr fM3 fMu fMy fMb eR tM iEn iTk uP uU kAt iTo iFr JFi iFa iSt iLv iWs wL uS0 uS1 uS2 uS3 uS4 iOm) ++ ((oM cy uU) ++ ((oL cy wL) ++ ((oM cy uP) ++ (oM cy uS0 ++ (oM cy uS1 ++ (oM cy uS2 ++ (oM cy uS3 ++ oM cy uS4)))))))))) (hsX : SX tA tB tD fS kZ) (hsM : SM tM uP fMz fMa kY) (hLR : LR iKp tA tB fH fS fA gE kZ fMh fMo fMz fMk fMa eR kY tM uP fB fMt) : LINV G cy A H aX aM rR rB rO rK := ⟨iKp, iYe, iTv, fR, tA, tB, iL, iBs, tU, tV, fH, fS, fA, gE, kZ, iT1, iT2, iT3, iT4, fB, tD, fMh, fMo, fMz, gMv, fMk, fMa, fMt, kY, fMr, fM3, fMu, fMy, fMb, eR, tM, iEn, iTk, uP, uU, kAt, iTo, iFr, JFi, iFa, iSt, iLv, iWs, wL, uS0, uS1, uS2, uS3, uS4, iOm, hP, hD, hsX, hsM, hLR⟩
end
section
/-! what the calls keep: sizes in range -/
noncomputable abbrev NB8 (t : TA) : Prop := T_nb t ≤ 8 ∧ T_np t ≤ 8
theorem nb_book {t t' : TA} {a b r : Int32} (h : NB8 t) (q : PXbook t a b r t') : NB8 t' := by
  rcases q with ⟨-, -, rfl⟩ | ⟨-, -, -, -, rfl⟩ | ⟨-, -, -, h1, rfl⟩
  · exact h
  · exact h
  · exact ⟨h1, h.2⟩
theorem nb_one {t t' : TA} {a b c d r : Int32} (h : NB8 t) (q : PXone t a b c d r t') : NB8 t' := by
  rcases q with ⟨-, -, rfl⟩ | ⟨-, -, -, rfl⟩ | ⟨-, -, h1, rfl⟩
  · exact h
  · exact h
  · exact ⟨h.1, h1⟩
theorem nb_onG (e : Nat → Int64) : ∀ (n i : Nat) (t : TA) (c : Int32), NB8 t → NB8 (onG e n i t c).1 := by
  intro n
  induction n with
  | zero => intro i t c h; exact h
  | succ n ih =>
    intro i t c h
    by_cases h1 : T_np t < 8
    · by_cases h2 : Cbo (e i) (e (i + 1)) (e (i + 2)) (e (i + 3))
      · rw [on_go h1 h2]
        exact ih _ _ _ ⟨h.1, h1⟩
      · rw [on_2 h2]
        exact h
    · rw [on_1 h1]
      exact h
theorem nb_ones {f s : Nat → Int32} {e : Nat → Int64} {t t' : TA} {a n r : Int32} (h : NB8 t) (q : PXones f s e t a n r t') : NB8 t' := by
  rcases q with ⟨-, -, rfl⟩ | ⟨-, -, rfl⟩ | ⟨-, -, rfl⟩ | ⟨k, m, -, -, -, -, -, -, -, e1⟩
  · exact h
  · exact h
  · exact h
  · have := nb_onG (fun i => e (k * 40 + i)) m 0 t 0 h
    rw [← e1] at this
    exact this
theorem nb_alter {t t' : TA} {a b v r : Int32} (h : NB8 t) (q : PXalter t a b v r t') : NB8 t' := by
  rcases q with ⟨-, -, rfl⟩ | ⟨k, m, -, -, -, -, -, ⟨-, -, rfl⟩ | ⟨-, -, rfl⟩⟩ <;> exact h
theorem nb_read {t t' : TA} {a b r : Int32} (h : NB8 t) (q : PXread t a b r t') : NB8 t' := by
  rcases q with ⟨-, -, rfl⟩ | ⟨k, m, -, -, -, -, ⟨-, -, rfl⟩ | ⟨-, -, -, rfl⟩⟩
  · exact h
  · exact h
  · exact ⟨by rw [nb_rd]; exact h.1, by rw [np_rd]; exact h.2⟩
theorem nb_aloud {t t' : TA} {a b o r : Int32} (h : NB8 t) (q : PXaloud t a b o r t') : NB8 t' := by
  rcases q with ⟨-, -, rfl⟩ | ⟨k, m, -, -, -, -, -, ⟨-, -, rfl⟩ | ⟨-, -, -, rfl⟩⟩
  · exact h
  · exact h
  · exact ⟨by rw [nb_hf, nb_rd]; exact h.1, by rw [np_hf, np_rd]; exact h.2⟩
theorem nb_tell {t t' : TA} {a o b r : Int32} (h : NB8 t) (q : PXtell t a o b r t') : NB8 t' := by
  rcases q with ⟨-, -, rfl⟩ | ⟨k, j, m, -, -, -, -, -, -, -, ⟨-, -, rfl⟩ | ⟨-, -, -, rfl⟩⟩ <;> exact h
theorem nb_write {t t' : TA} {a b r : Int32} (h : NB8 t) (q : PXwrite t a b r t') : NB8 t' := by
  rcases q with ⟨-, -, rfl⟩ | ⟨k, m, -, -, -, -, ⟨-, -, rfl⟩ | ⟨-, -, -, -, rfl⟩⟩ <;> exact h
theorem nb_yrG (k a : Int32) : ∀ (n : Nat) (t : TA) (s : Int32), NB8 t → NB8 (yrG k a n t s).1 := by
  intro n
  induction n with
  | zero => intro t s h; exact h
  | succ n ih =>
    intro t s h
    refine ih _ _ ⟨?_, ?_⟩
    · rw [nb_ey, nb_dd, nb_za]; exact h.1
    · rw [np_ey, np_dd, np_za]; exact h.2
theorem nb_years {f am : Nat → Int32} {t t' : TA} {a n r : Int32} (h : NB8 t) (q : PXyears f am t a n r t') : NB8 t' := by
  rcases q with ⟨-, -, rfl⟩ | ⟨-, -, -, rfl⟩ | ⟨-, -, -, rfl⟩ | ⟨k, m, -, -, -, -, -, -, -, e1⟩
  · exact h
  · exact h
  · exact h
  · have := nb_yrG (f k - 10) (am k) m t 0 h
    rw [← e1] at this
    exact this
theorem nb_zey8 {t : TA} (h : NB8 t) : NB8 (zey t) := ⟨by rw [nb_ey]; exact h.1, by rw [np_ey]; exact h.2⟩
theorem sx_t {tA tB tD tN : TA} {fS : Nat → Int32} {kZ : Nat} (h : SX tA tB tD fS kZ) (q : NB8 tN) : SX tN tB tD fS kZ := ⟨q, h.2⟩
theorem sz_upd {f : Nat → Int32} {k n m : Nat} {v : Int32} (h : ∀ s, s < 8 → ∃ n : Nat, n ≤ m ∧ f s = nI n) (hn : n ≤ m) (hv : v = nI n) : ∀ s, s < 8 → ∃ n : Nat, n ≤ m ∧ upd f k v s = nI n := fun s hs => by
  show ∃ n : Nat, n ≤ m ∧ (if s = k then v else f s) = nI n
  by_cases e : s = k
  · rw [if_pos e]
    exact ⟨n, hn, hv⟩
  · rw [if_neg e]
    exact h s hs
theorem sx_row {tA tB tD : TA} {fH fS fY fZ : Nat → Int32} {gE gX : Nat → Int64} {kZ : Nat} {a b c r : Int32} (h : SX tA tB tD fS kZ) (q : PXrow fH fS gE a b c r fY fZ gX) : SX tA tB tD fZ kZ := by
  rcases q with ⟨-, -, -, rfl, -⟩ | ⟨-, k, n, -, h2, -, -, -, -, rfl, -⟩
  · exact h
  · exact ⟨h.1, h.2.1, h.2.2.1, sz_upd h.2.2.2.1 h2 rfl, h.2.2.2.2⟩
theorem fd_le {z z' : Nat} {n r : Int32} (h : z ≤ 250) (q : PXfeed z n r z') : z' ≤ 250 := by
  rcases q with ⟨-, -, rfl⟩ | ⟨k, -, -, -, ⟨-, -, rfl⟩ | ⟨-, h1, rfl⟩⟩
  · exact h
  · exact h
  · exact h1
theorem sx_z {tA tB tD : TA} {fS : Nat → Int32} {kZ kN : Nat} (h : SX tA tB tD fS kZ) (q : kN ≤ 250) : SX tA tB tD fS kN := ⟨h.1, h.2.1, h.2.2.1, h.2.2.2.1, q⟩
theorem sx_town {tA tB tD tN tO : TA} {fS : Nat → Int32} {kZ kN : Nat} (h : SX tA tB tD fS kZ) (q : T_nb tN ≤ 8 ∧ T_np tN ≤ 8 ∧ kN = 0 ∧ T_nb tO ≤ 8) : SX tN tB tO fS kN := ⟨⟨q.1, q.2.1⟩, h.2.1, q.2.2.2, h.2.2.2.1, by have := q.2.2.1; omega⟩
theorem sx_image {tA tB tD tN : TA} {fS : Nat → Int32} {kZ : Nat} (h : SX tA tB tD fS kZ) (q : tN = tA) : SX tA tN tD fS kZ := by
  subst q
  exact ⟨h.1, h.1, h.2.2⟩
theorem sx_back {tA tB tD tN : TA} {fS : Nat → Int32} {kZ : Nat} {i r : Int32} (h : SX tA tB tD fS kZ) (q : (i = 0 ∧ r = -5 ∧ tN = tA) ∨ (¬ i = 0 ∧ r = 1 ∧ tN = tB)) : SX tN tB tD fS kZ := by
  rcases q with ⟨-, -, rfl⟩ | ⟨-, -, rfl⟩
  · exact h
  · exact ⟨h.2.1, h.2⟩
theorem sm_row {tM : TA} {uP : UM} {h z a o h' o' z' : Nat → Int32} {e e' : Nat → Nat → Int64} {k : Nat} {x y c r : Int32} (q0 : SM tM uP z a k) (q : PMrow h o z e x y c r h' o' z' e') : SM tM uP z' a k := by
  rcases q with ⟨-, -, -, -, rfl, -⟩ | ⟨-, m, n, -, h2, -, -, -, -, -, rfl, -⟩
  · exact q0
  · exact ⟨q0.1, q0.2.1, sz_upd q0.2.2.1 h2 rfl, q0.2.2.2⟩
theorem sm_rule {tM : TA} {uP : UM} {h z a w h' w' a' : Nat → Int32} {k : Nat} {x y c r : Int32} (q0 : SM tM uP z a k) (q : PMrule h w a x y c r h' w' a') : SM tM uP z a' k := by
  rcases q with ⟨-, -, -, -, rfl⟩ | ⟨-, m, -, -, -, h5, -, -, rfl⟩
  · exact q0
  · obtain ⟨n, -, hn, rfl⟩ := iv_nI 0 99 (by decide +kernel) (by decide +kernel) h5
    exact ⟨q0.1, q0.2.1, q0.2.2.1, sz_upd q0.2.2.2.1 hn rfl, q0.2.2.2.2⟩
theorem sm_t {tM tN : TA} {uP : UM} {z a : Nat → Int32} {k : Nat} (q0 : SM tM uP z a k) (q : TI tN) : SM tN uP z a k := ⟨q, q0.2⟩
theorem sm_z {tM : TA} {uP : UM} {z a : Nat → Int32} {k n : Nat} (q0 : SM tM uP z a k) (q : n ≤ 250) : SM tM uP z a n := ⟨q0.1, q0.2.1, q0.2.2.1, q0.2.2.2.1, q⟩
theorem sm_town {tM tN : TA} {uP : UM} {z a : Nat → Int32} {k n : Nat} (q0 : SM tM uP z a k) (q : TI tN ∧ n = 0) : SM tN uP z a n := ⟨q.1, q0.2.1, q0.2.2.1, q0.2.2.2.1, by have := q.2; omega⟩
theorem sm_image {tM : TA} {uP uQ : UM} {z a : Nat → Int32} {k : Nat} {r : Int32} (q0 : SM tM uP z a k) (q : r = 1 ∧ isS uQ = true ∧ uT uQ = tM) : SM tM uQ z a k := ⟨q0.1, fun _ => by rw [q.2.2]; exact q0.1, q0.2.2⟩
theorem sm_back {tM tN : TA} {uP : UM} {z a : Nat → Int32} {k : Nat} {r : Int32} (q0 : SM tM uP z a k) (q : (isS uP = false ∧ r = -5 ∧ tN = tM) ∨ (isS uP = true ∧ r = 1 ∧ tN = uT uP)) : SM tN uP z a k := by
  rcases q with ⟨-, -, rfl⟩ | ⟨h1, -, rfl⟩
  · exact q0
  · exact ⟨q0.2.1 h1, q0.2⟩
theorem iv_n40 {n : Nat} (h : n ≤ 40) : Iv (nI n).toInt64 0 40 := ofI (m := 0) (n := 40) (by decide +kernel) (by decide +kernel) ⟨by rw [nI_toInt (by omega)]; omega, by rw [nI_toInt (by omega)]; omega⟩
theorem row_eq {h s h2 o z h' s' h2' o' z' : Nat → Int32} {e e' : Nat → Int64} {f f' : Nat → Nat → Int64} {a b c r r' : Int32} (q : PXrow h s e a b c r h' s' e') (q' : PMrow h2 o z f a b c r' h2' o' z' f') : r = r' := by
  rcases q with ⟨rfl, h1, -⟩ | ⟨rfl, k, n, h1, h2, rfl, rfl, h3, -⟩
  · rcases q' with ⟨rfl, -⟩ | ⟨-, k, n, g1, g2, rfl, rfl, g3, -⟩
    · rfl
    · exact absurd ⟨⟨k, g1, rfl⟩, g3, iv_n40 g2⟩ h1
  · rcases q' with ⟨-, g1, -⟩ | ⟨rfl, -⟩
    · exact absurd ⟨⟨k, h1, rfl⟩, h3, iv_n40 h2⟩ g1
    · rfl
/-! the shelves of both: what the calls on them answer and keep -/
theorem nI_eq8 {a b : Nat} (ha : a < 8) (hb : b < 8) (h : nI a = nI b) : a = b := nI_inj (by omega) (by omega) h
theorem rw_10 {x : Int32} (h : Rw x) : ¬ 10 ≤ x := fun q => h.2 (by
  rw [Int32.lt_iff_toInt_lt]
  rw [Int32.le_iff_toInt_le] at q
  have e1 : (10 : Int32).toInt = 10 := by decide +kernel
  have e2 : (4 : Int32).toInt = 4 := by decide +kernel
  omega)
theorem iv_16 {x : Int32} (h : Iv x.toInt64 1 6) : 10 ≤ 10 + x ∧ ¬ 10 + x = -1 := by
  rcases sw_1_6 x with rfl | rfl | rfl | rfl | rfl | rfl | h1
  · decide
  · decide
  · decide
  · decide
  · decide
  · decide
  · exfalso
    have := toI h (m := 1) (n := 6) (by decide +kernel) (by decide +kernel)
    omega
theorem iv_04 {x : Int32} (h : Iv x.toInt64 0 4) : Rw x := by
  have h1 := toI h (m := 0) (n := 4) (by decide +kernel) (by decide +kernel)
  have e2 : (4 : Int32).toInt = 4 := by decide +kernel
  have e0 : (0 : Int32).toInt = 0 := by decide +kernel
  exact ⟨fun q => by rw [Int32.lt_iff_toInt_lt] at q; omega, fun q => by rw [Int32.lt_iff_toInt_lt] at q; omega⟩
theorem sh_A {s : Nat} {fH fS fA : Nat → Int32} {gE : Nat → Int64} {fMh fMo fMz fMk fMa : Nat → Int32} {eR : Nat → Nat → Int64} (R : SH1 s fH fS fA gE fMh fMo fMz fMk fMa eR) : (10 ≤ fH s ↔ fMh s = 2) ∧ (Rw (fH s) ↔ fMh s = 1) ∧ (fH s = -1 ↔ fMh s = 0) ∧ (fMh s = 0 ∨ fMh s = 1 ∨ fMh s = 2) := by
  have n10 : ¬ (10 : Int32) ≤ -1 := by decide +kernel
  have nrw : ¬ Rw (-1) := fun q => q.1 (by decide +kernel)
  rcases R with ⟨h0, h1⟩ | ⟨h0, h1, h2, -⟩ | ⟨h0, h1, h2, -⟩
  · rw [h0, h1]
    exact ⟨⟨fun q => absurd q n10, fun q => absurd q (by decide +kernel)⟩, ⟨fun q => absurd q nrw, fun q => absurd q (by decide +kernel)⟩, ⟨fun _ => rfl, fun _ => rfl⟩, Or.inl rfl⟩
  · rw [h0]
    exact ⟨⟨fun q => absurd q (rw_10 h2), fun q => absurd q (by decide +kernel)⟩, ⟨fun _ => rfl, fun _ => h2⟩, ⟨fun q => by rw [q] at h2; exact absurd h2 nrw, fun q => absurd q (by decide +kernel)⟩, Or.inr (Or.inl rfl)⟩
  · rw [h0, h1]
    exact ⟨⟨fun _ => rfl, fun _ => (iv_16 h2).1⟩, ⟨fun q => absurd (iv_16 h2).1 (rw_10 q), fun q => absurd q (by decide +kernel)⟩, ⟨fun q => absurd q (iv_16 h2).2, fun q => absurd q (by decide +kernel)⟩, Or.inr (Or.inr rfl)⟩
theorem zr_hit (e : Nat → Int64) (k : Nat) : ∀ (n i : Nat), i < n → zrF e k n (k * 40 + i) = 0 := by
  intro n
  induction n with
  | zero => intro i h; exact absurd h (Nat.not_lt_zero _)
  | succ n ih =>
    intro i h
    show (if k * 40 + i = k * 40 + n then (0 : Int64) else zrF e k n (k * 40 + i)) = 0
    by_cases e1 : i = n
    · rw [if_pos (by omega)]
    · rw [if_neg (by omega)]
      exact ih i (by omega)
theorem zr_off (e : Nat → Int64) (k : Nat) : ∀ (n : Nat), n ≤ 40 → ∀ (s i : Nat), s ≠ k → i < 40 → zrF e k n (s * 40 + i) = e (s * 40 + i) := by
  intro n
  induction n with
  | zero => intro _ s i _ _; rfl
  | succ n ih =>
    intro hn s i hs hi
    show (if s * 40 + i = k * 40 + n then (0 : Int64) else zrF e k n (s * 40 + i)) = _
    rw [if_neg (by omega)]
    exact ih (by omega) s i hs hi
theorem zN_hit (e : Nat → Nat → Int64) (k : Nat) : ∀ (n i : Nat), i < n → zrN e k n k i = 0 := by
  intro n
  induction n with
  | zero => intro i h; exact absurd h (Nat.not_lt_zero _)
  | succ n ih =>
    intro i h
    show updN (zrN e k n) k n 0 k i = 0
    rw [un_u]
    show (if i = n then (0 : Int64) else zrN e k n k i) = 0
    by_cases e1 : i = n
    · rw [if_pos e1]
    · rw [if_neg e1]
      exact ih i (by omega)
theorem zN_off (e : Nat → Nat → Int64) (k : Nat) : ∀ (n s : Nat), s ≠ k → zrN e k n s = e s := by
  intro n
  induction n with
  | zero => intro s _; rfl
  | succ n ih =>
    intro s hs
    show updN (zrN e k n) k n 0 s = _
    rw [un_n hs]
    exact ih s hs
theorem up_s {f : Nat → Int32} {k : Nat} {v : Int32} : upd f k v k = v := if_pos rfl
theorem up_n {f : Nat → Int32} {k s : Nat} {v : Int32} (h : s ≠ k) : upd f k v s = f s := if_neg h
/-- an empty row, or a rule: at the shelf it is new, the others are as they were -/
theorem sh_off {s k : Nat} {fH fS fA : Nat → Int32} {gE gX : Nat → Int64} {fMh fMo fMz fMk fMa : Nat → Int32} {eR eN : Nat → Nat → Int64} {h1 h2 h3 m1 m2 m3 m4 m5 : Nat → Int32} (R : SH1 s fH fS fA gE fMh fMo fMz fMk fMa eR) (e1 : h1 s = fH s) (e2 : h2 s = fS s) (e3 : h3 s = fA s) (e4 : m1 s = fMh s) (e5 : m2 s = fMo s) (e6 : m3 s = fMz s) (e7 : m4 s = fMk s) (e8 : m5 s = fMa s) (e9 : ∀ i, i < 40 → gX (s * 40 + i) = gE (s * 40 + i)) (e10 : ∀ i, i < 40 → eN s i = eR s i) : SH1 s h1 h2 h3 gX m1 m2 m3 m4 m5 eN := by
  unfold SH1 at R ⊢
  rw [e1, e2, e3, e4, e5, e6, e7, e8]
  rcases R with h | ⟨a1, a2, a3, a4, a5⟩ | h
  · exact Or.inl h
  · refine Or.inr (Or.inl ⟨a1, a2, a3, a4, fun n i hn h40 hi => ?_⟩)
    rw [e9 i (by omega), e10 i (by omega)]
    exact a5 n i hn h40 hi
  · exact Or.inr (Or.inr h)
theorem row_k {fH fS fA fY fZ : Nat → Int32} {gE gX : Nat → Int64} {fMh fMo fMz fMk fMa fNh fNo fNz : Nat → Int32} {eR eN : Nat → Nat → Int64} {a b c r r' : Int32} (R : SHR fH fS fA gE fMh fMo fMz fMk fMa eR) (q : PXrow fH fS gE a b c r fY fZ gX) (q' : PMrow fMh fMo fMz eR a b c r' fNh fNo fNz eN) : SHR fY fZ fA gX fNh fNo fNz fMk fMa eN := by
  have e0 := row_eq q q'
  rcases q with ⟨rfl, -, rfl, rfl, rfl⟩ | ⟨rfl, k, n, h1, h2, rfl, rfl, h3, rfl, rfl, rfl⟩
  · rcases q' with ⟨-, -, rfl, rfl, rfl, rfl⟩ | ⟨rfl, -⟩
    · exact R
    · exact absurd e0 (by decide +kernel)
  · rcases q' with ⟨rfl, -⟩ | ⟨-, m, n', g1, g2, ea, en, -, rfl, rfl, rfl, rfl⟩
    · exact absurd e0 (by decide +kernel)
    · have := nI_eq8 h1 g1 ea
      subst this
      have := nI_inj (by omega) (by omega) en
      subst this
      intro s hs
      by_cases e : s = k
      · subst e
        refine Or.inr (Or.inl ⟨up_s, by rw [up_s, up_s], by rw [up_s]; exact iv_04 h3, by rw [up_s, up_s], fun n' i hn _ hi => ?_⟩)
        rw [up_s] at hn
        have := nI_inj (by omega) (by omega) hn
        subst this
        rw [zr_hit _ _ _ _ hi, zN_hit _ _ _ _ (by omega)]
      · exact sh_off (k := k) (R s hs) (up_n e) (up_n e) rfl (up_n e) (up_n e) (up_n e) rfl rfl (fun i hi => zr_off _ _ _ h2 _ _ e hi) (fun i _ => by rw [zN_off _ _ _ _ e])
theorem rule_k {fH fS fA fY fW : Nat → Int32} {gE : Nat → Int64} {fMh fMo fMz fMk fMa fNh fNk fNa : Nat → Int32} {eR : Nat → Nat → Int64} {a b c r r' : Int32} (R : SHR fH fS fA gE fMh fMo fMz fMk fMa eR) (q : PXrule fH fA a b c r fY fW) (q' : PMrule fMh fMk fMa a b c r' fNh fNk fNa) : r = r' ∧ SHR fY fS fW gE fNh fMo fMz fNk fNa eR := by
  rcases q with ⟨rfl, h0, rfl, rfl⟩ | ⟨rfl, k, h1, rfl, h2, h3, rfl, rfl⟩
  · rcases q' with ⟨rfl, -, rfl, rfl, rfl⟩ | ⟨-, k, h1, rfl, h2, h3, -⟩
    · exact ⟨rfl, R⟩
    · exact absurd ⟨⟨k, h1, rfl⟩, h2, h3⟩ h0
  · rcases q' with ⟨-, h0, -⟩ | ⟨rfl, m, g1, ea, -, -, rfl, rfl, rfl⟩
    · exact absurd ⟨⟨k, h1, rfl⟩, h2, h3⟩ h0
    · have := nI_eq8 h1 g1 ea
      subst this
      refine ⟨rfl, fun s hs => ?_⟩
      by_cases e : s = k
      · subst e
        exact Or.inr (Or.inr ⟨up_s, by rw [up_s, up_s], by rw [up_s]; exact h2, by rw [up_s, up_s]⟩)
      · exact sh_off (k := k) (R s hs) (up_n e) rfl (up_n e) (up_n e) rfl rfl (up_n e) (up_n e) (fun _ _ => rfl) (fun _ _ => rfl)
theorem lb_ft {x : Int32} (h : Rw x) (v : Int64) : zlb x v = zft x v := by
  rcases sw_0_4 x with rfl | rfl | rfl | rfl | rfl | h1
  · rfl
  · rfl
  · rfl
  · rfl
  · rfl
  · exfalso
    have e2 : (4 : Int32).toInt = 4 := by decide +kernel
    have e0 : (0 : Int32).toInt = 0 := by decide +kernel
    rcases h1 with h1 | h1
    · exact h.1 (by rw [Int32.lt_iff_toInt_lt]; omega)
    · exact h.2 (by rw [Int32.lt_iff_toInt_lt]; omega)
theorem set_k {fH fS fA : Nat → Int32} {gE gX : Nat → Int64} {fMh fMo fMz fMk fMa : Nat → Int32} {eR eN : Nat → Nat → Int64} {a b r r' : Int32} {v : Int64} (R : SHR fH fS fA gE fMh fMo fMz fMk fMa eR) (q : PXset fH fS gE a b v r gX) (q' : PMset fMh fMo fMz eR a b v r' eN) : r = r' ∧ SHR fH fS fA gX fMh fMo fMz fMk fMa eN := by
  by_cases hs : Sh a
  · obtain ⟨k, hk, rfl⟩ := hs
    obtain ⟨s1, s2, s3, s4⟩ := sh_A (R k hk)
    have hz : fMh k = 1 → fS k = fMz k := fun e => by
      rcases R k hk with ⟨h0, -⟩ | ⟨-, -, -, h1, -⟩ | ⟨h0, -⟩
      · rw [h0] at e; exact absurd e (by decide +kernel)
      · exact h1
      · rw [h0] at e; exact absurd e (by decide +kernel)
    rcases q with ⟨rfl, h0, rfl⟩ | ⟨rfl, ⟨m, hm, e, h0⟩, rfl⟩ | ⟨rfl, ⟨m, hm, e, h0, h1⟩, rfl⟩ | ⟨rfl, m, i, hm, e, h0, h1, hi, rfl, h2, rfl⟩
    · rcases h0 with h0 | ⟨m, hm, e, h0, h1, h2⟩
      · exact absurd ⟨k, hk, rfl⟩ h0
      · have := nI_eq8 hk hm e
        subst this
        have f1 := s2.mp h1
        rcases q' with ⟨rfl, -, rfl⟩ | ⟨rfl, ⟨m, hm, e, g0⟩, rfl⟩ | ⟨rfl, ⟨m, hm, e, g0, g1⟩, rfl⟩ | ⟨rfl, m, i, hm, e, g0, g1, hi, -, g2, -⟩
        · exact ⟨rfl, R⟩
        · have := nI_eq8 hk hm e
          subst this
          rw [f1] at g0; exact absurd g0 (by decide +kernel)
        · have := nI_eq8 hk hm e
          subst this
          rw [f1] at g1; exact absurd g1 (by decide +kernel)
        · have := nI_eq8 hk hm e
          subst this
          rw [← hz f1] at g2; exact absurd g2 h2
    · have := nI_eq8 hk hm e
      subst this
      have f1 := s1.mp h0
      rcases q' with ⟨rfl, g, rfl⟩ | ⟨rfl, -, rfl⟩ | ⟨rfl, ⟨m, hm, e, g0, g1⟩, rfl⟩ | ⟨rfl, m, i, hm, e, g0, g1, hi, -, g2, -⟩
      · rcases g with g | ⟨m, hm, e, g0, g1, g2⟩
        · exact absurd ⟨k, hk, rfl⟩ g
        · have := nI_eq8 hk hm e
          subst this
          exact absurd f1 g0
      · exact ⟨rfl, R⟩
      · have := nI_eq8 hk hm e
        subst this
        exact absurd f1 g0
      · have := nI_eq8 hk hm e
        subst this
        exact absurd f1 g0
    · have := nI_eq8 hk hm e
      subst this
      have f1 : fMh k = 0 := by
        rcases s4 with h | h | h
        · exact h
        · exact absurd (s2.mpr h) h1
        · exact absurd (s1.mpr h) h0
      rcases q' with ⟨rfl, g, rfl⟩ | ⟨rfl, ⟨m, hm, e, g0⟩, rfl⟩ | ⟨rfl, -, rfl⟩ | ⟨rfl, m, i, hm, e, g0, g1, hi, -, g2, -⟩
      · rcases g with g | ⟨m, hm, e, g0, g1, g2⟩
        · exact absurd ⟨k, hk, rfl⟩ g
        · have := nI_eq8 hk hm e
          subst this
          exact absurd f1 g1
      · have := nI_eq8 hk hm e
        subst this
        rw [f1] at g0; exact absurd g0 (by decide +kernel)
      · exact ⟨rfl, R⟩
      · have := nI_eq8 hk hm e
        subst this
        exact absurd f1 g1
    · have := nI_eq8 hk hm e
      subst this
      have f1 := s2.mp h1
      rcases q' with ⟨rfl, g, rfl⟩ | ⟨rfl, ⟨m, hm, e, g0⟩, rfl⟩ | ⟨rfl, ⟨m, hm, e, g0, g1⟩, rfl⟩ | ⟨rfl, m, j, hm, e, g0, g1, hj, ej, g2, rfl⟩
      · rcases g with g | ⟨m, hm, e, g0, g1, g2⟩
        · exact absurd ⟨k, hk, rfl⟩ g
        · have := nI_eq8 hk hm e
          subst this
          rw [← hz f1] at g2
          exact absurd h2 g2
      · have := nI_eq8 hk hm e
        subst this
        rw [f1] at g0; exact absurd g0 (by decide +kernel)
      · have := nI_eq8 hk hm e
        subst this
        rw [f1] at g1; exact absurd g1 (by decide +kernel)
      · have := nI_eq8 hk hm e
        subst this
        have := nI_inj (by omega) (by omega) ej
        subst this
        refine ⟨rfl, fun s hs => ?_⟩
        by_cases es : s = k
        · subst es
          rcases R s hs with ⟨x0, -⟩ | ⟨x1, x2, x3, x4, x5⟩ | ⟨x0, -⟩
          · rw [f1] at x0; exact absurd x0 (by decide +kernel)
          · refine Or.inr (Or.inl ⟨x1, x2, x3, x4, fun n y hn h40 hy => ?_⟩)
            rw [un_u]
            show (if s * 40 + y = s * 40 + i then zlb (fH s) v else gE (s * 40 + y)) = (if y = i then zft (fMo s) v else eR s y)
            by_cases ey : y = i
            · rw [if_pos (by omega), if_pos ey, ← x2]
              exact lb_ft x3 v
            · rw [if_neg (by omega), if_neg ey]
              exact x5 n y hn h40 hy
          · rw [f1] at x0; exact absurd x0 (by decide +kernel)
        · refine sh_off (k := k) (R s hs) rfl rfl rfl rfl rfl rfl rfl rfl (fun y hy => ?_) (fun y _ => by rw [un_n es])
          show (if s * 40 + y = k * 40 + i then zlb (fH k) v else gE (s * 40 + y)) = _
          rw [if_neg (by omega)]
  · rcases q with ⟨rfl, -, rfl⟩ | ⟨-, ⟨m, hm, e, -⟩, -⟩ | ⟨-, ⟨m, hm, e, -⟩, -⟩ | ⟨-, m, -, hm, e, -⟩
    · rcases q' with ⟨rfl, -, rfl⟩ | ⟨-, ⟨m, hm, e, -⟩, -⟩ | ⟨-, ⟨m, hm, e, -⟩, -⟩ | ⟨-, m, -, hm, e, -⟩
      · exact ⟨rfl, R⟩
      · exact absurd ⟨m, hm, e⟩ hs
      · exact absurd ⟨m, hm, e⟩ hs
      · exact absurd ⟨m, hm, e⟩ hs
    · exact absurd ⟨m, hm, e⟩ hs
    · exact absurd ⟨m, hm, e⟩ hs
    · exact absurd ⟨m, hm, e⟩ hs
theorem holds_eq {fH fS fA : Nat → Int32} {gE : Nat → Int64} {fMh fMo fMz fMk fMa : Nat → Int32} {eR : Nat → Nat → Int64} {a r r' : Int32} (R : SHR fH fS fA gE fMh fMo fMz fMk fMa eR) (q : PXholds fH a r) (q' : PMholds fMh fMo fMk a r') : r = r' := by
  rcases q with ⟨rfl, h0⟩ | ⟨k, hk, rfl, rfl⟩
  · rcases q' with ⟨rfl, -⟩ | ⟨m, hm, e, -⟩
    · rfl
    · exact absurd ⟨m, hm, e⟩ h0
  · rcases q' with ⟨-, h0⟩ | ⟨m, hm, e, h⟩
    · exact absurd ⟨k, hk, rfl⟩ h0
    · have := nI_eq8 hk hm e
      subst this
      rcases R k hk with ⟨x0, x1⟩ | ⟨x0, x1, -⟩ | ⟨x0, x1, -⟩ <;> rw [x0] at h <;> rcases h with ⟨y0, rfl⟩ | ⟨y0, rfl⟩ | ⟨y0, y1, rfl⟩
      · exact x1
      · exact absurd y0 (by decide +kernel)
      · exact absurd rfl y0
      · exact absurd y0 (by decide +kernel)
      · exact x1
      · exact absurd rfl y1
      · exact absurd y0 (by decide +kernel)
      · exact absurd y0 (by decide +kernel)
      · exact x1
theorem elem_eq {fH fS fA : Nat → Int32} {gE : Nat → Int64} {fMh fMo fMz fMk fMa : Nat → Int32} {eR : Nat → Nat → Int64} {a b : Int32} {r r' : Int64} (hSz : ∀ s, s < 8 → ∃ n : Nat, n ≤ 40 ∧ fS s = nI n) (R : SHR fH fS fA gE fMh fMo fMz fMk fMa eR) (q : PXelem fH fS gE a b r) (q' : PMelem fMh fMz eR a b r') : r = r' := by
  have key : ∀ k, k < 8 → (fMh k = 1 ↔ Rw (fH k)) ∧ (fMh k = 1 → fS k = fMz k) := fun k hk => by
    refine ⟨(sh_A (R k hk)).2.1.symm, fun e => ?_⟩
    rcases R k hk with ⟨h0, -⟩ | ⟨-, -, -, h1, -⟩ | ⟨h0, -⟩
    · rw [h0] at e; exact absurd e (by decide +kernel)
    · exact h1
    · rw [h0] at e; exact absurd e (by decide +kernel)
  rcases q with ⟨rfl, h0⟩ | ⟨k, i, hk, rfl, h0, h1, hi, rfl, h2, rfl⟩
  · rcases q' with ⟨rfl, -⟩ | ⟨k, i, hk, rfl, h1, hi, rfl, h2, rfl⟩
    · rfl
    · have f1 := (key k hk).1.mp h1
      exact absurd ⟨k, hk, rfl, rw_10 f1, f1, by rw [(key k hk).2 h1]; exact h2⟩ h0
  · have f1 := (key k hk).1.mpr h1
    rcases q' with ⟨rfl, h0⟩ | ⟨m, j, hm, e, h3, hj, ej, h4, rfl⟩
    · exact absurd ⟨k, hk, rfl, f1, by rw [← (key k hk).2 f1]; exact h2⟩ h0
    · have := nI_eq8 hk hm e
      subst this
      have := nI_inj (by omega) (by omega) ej
      subst this
      rcases R k hk with ⟨x0, -⟩ | ⟨x1, x2, x3, x4, x5⟩ | ⟨x0, -⟩
      · rw [f1] at x0; exact absurd x0 (by decide +kernel)
      · obtain ⟨n, hn, en⟩ := hSz k hk
        obtain ⟨i', hi', ei⟩ := sz_in en hn h2
        have := nI_inj (by omega) (by omega) ei
        subst this
        exact x5 n i en hn hi'
      · rw [f1] at x0; exact absurd x0 (by decide +kernel)
theorem feed_eq {z y z' w' : Nat} {n r r' : Int32} (hz : z = y) (q : PXfeed z n r z') (q' : PXfeed y n r' w') : r = r' ∧ z' = w' := by
  subst hz
  rcases q with ⟨rfl, h0, rfl⟩ | ⟨k, h1, h2, rfl, h3⟩
  · rcases q' with ⟨rfl, -, rfl⟩ | ⟨k, h1, h2, rfl, -⟩
    · exact ⟨rfl, rfl⟩
    · exact absurd (ofI (m := 1) (n := 4) (by decide +kernel) (by decide +kernel) ⟨by rw [nI_toInt (by omega)]; omega, by rw [nI_toInt (by omega)]; omega⟩) h0
  · rcases q' with ⟨rfl, h0, rfl⟩ | ⟨m, g1, g2, e, g3⟩
    · exact absurd (ofI (m := 1) (n := 4) (by decide +kernel) (by decide +kernel) ⟨by rw [nI_toInt (by omega)]; omega, by rw [nI_toInt (by omega)]; omega⟩) h0
    · have := nI_inj (by omega) (by omega) e
      subst this
      rcases h3 with ⟨rfl, a1, rfl⟩ | ⟨rfl, a1, rfl⟩ <;> rcases g3 with ⟨rfl, b1, rfl⟩ | ⟨rfl, b1, rfl⟩
      · exact ⟨rfl, rfl⟩
      · omega
      · omega
      · exact ⟨rfl, rfl⟩
theorem back_eq {iK r r' : Int32} {tA tB tN tM tN' : TA} {uP : UM} (h : iK = 0 ↔ isS uP = false) (q : (iK = 0 ∧ r = -5 ∧ tN = tA) ∨ (¬ iK = 0 ∧ r = 1 ∧ tN = tB)) (q' : (isS uP = false ∧ r' = -5 ∧ tN' = tM) ∨ (isS uP = true ∧ r' = 1 ∧ tN' = uT uP)) : r = r' := by
  rcases q with ⟨h1, rfl, -⟩ | ⟨h1, rfl, -⟩ <;> rcases q' with ⟨g1, rfl, -⟩ | ⟨g1, rfl, -⟩
  · rfl
  · rw [h.mp h1] at g1; cases g1
  · exact absurd (h.mpr g1) h1
  · rfl
theorem spn_to {i n m : Nat} (hm : m ≤ 40) (h : i + n ≤ m) : Spn (nI i) (nI n) (nI m) := by
  refine ⟨nI_pos (by omega), nI_pos (by omega), Int32.not_lt.mpr ((lg_cmp_le _ _).mpr ?_)⟩
  have e : (nI i).toInt64 + (nI n).toInt64 = (nI (i + n)).toInt64 := by
    apply Int64.toInt_inj.mp
    rw [Int64.toInt_add, Int32.toInt_toInt64, Int32.toInt_toInt64, Int32.toInt_toInt64, nI_toInt (by omega), nI_toInt (by omega), nI_toInt (by omega)]
    rw [Int.bmod_eq_of_le (by omega) (by omega)]
    omega
  rw [e, Int64.le_iff_toInt_le, Int32.toInt_toInt64, Int32.toInt_toInt64, nI_toInt (by omega), nI_toInt (by omega)]
  omega
theorem spm_iff {c d n : Int32} {a b : Nat} (ha : a ≤ 40) (hb : b ≤ 40) : SpM c d n (nI a) (nI b) ↔ (Spn c n (nI a) ∧ Spn d n (nI b)) := by
  constructor
  · rintro ⟨h1, h2, h3, h4, h5, h6, h7⟩
    obtain ⟨z, hz, rfl⟩ := nI_of h1
    obtain ⟨i, hi, rfl⟩ := nI_of h2
    obtain ⟨j, hj, rfl⟩ := nI_of h3
    rw [Int32.lt_iff_toInt_lt, nI_toInt (by omega), nI_toInt (by omega)] at h4 h5
    rw [Int32.lt_iff_toInt_lt, pk_sub_toInt (by omega) (by omega), nI_toInt (by omega)] at h6
    rw [Int32.le_iff_toInt_le, pk_sub_toInt (by omega) (by omega), nI_toInt (by omega)] at h7
    exact ⟨spn_to ha (by omega), spn_to hb (by omega)⟩
  · rintro ⟨h1, h2⟩
    obtain ⟨i, z, e1, rfl, rfl⟩ := spn_of rfl ha h1
    obtain ⟨j, w, e2, rfl, ew⟩ := spn_of rfl hb h2
    have := nI_inj (by omega) (by omega) ew
    subst this
    refine ⟨nI_pos (by omega), nI_pos (by omega), nI_pos (by omega), ?_, ?_, ?_, ?_⟩
    · rw [Int32.lt_iff_toInt_lt, nI_toInt (by omega), nI_toInt (by omega)]; omega
    · rw [Int32.lt_iff_toInt_lt, nI_toInt (by omega), nI_toInt (by omega)]; omega
    · rw [Int32.lt_iff_toInt_lt, pk_sub_toInt (by omega) (by omega), nI_toInt (by omega)]; omega
    · rw [Int32.le_iff_toInt_le, pk_sub_toInt (by omega) (by omega), nI_toInt (by omega)]; omega
theorem copy_k {fH fS fA : Nat → Int32} {gE gX : Nat → Int64} {fMh fMo fMz fMk fMa : Nat → Int32} {eR eN : Nat → Nat → Int64} {a b c d n r r' : Int32} (hSz : ∀ s, s < 8 → ∃ n : Nat, n ≤ 40 ∧ fS s = nI n) (R : SHR fH fS fA gE fMh fMo fMz fMk fMa eR) (q : PXcopy fH fS gE a b c d n r gX) (q' : PMcopy fMh fMo fMz eR a b c d n r' eN) : r = r' ∧ SHR fH fS fA gX fMh fMo fMz fMk fMa eN := by
  by_cases hs : ∃ k m : Nat, k < 8 ∧ m < 8 ∧ a = nI k ∧ b = nI m
  · obtain ⟨k, m, hk, hm, rfl, rfl⟩ := hs
    obtain ⟨s1, s2, s3, s4⟩ := sh_A (R k hk)
    obtain ⟨t1, t2, t3, t4⟩ := sh_A (R m hm)
    have row1 : ∀ s, s < 8 → fMh s = 1 → fH s = fMo s ∧ fS s = fMz s ∧ ∀ n i, fS s = nI n → n ≤ 40 → i < n → gE (s * 40 + i) = eR s i := fun s hs e => by
      rcases R s hs with ⟨h0, -⟩ | ⟨-, h1, -, h2, h3⟩ | ⟨h0, -⟩
      · rw [h0] at e; exact absurd e (by decide +kernel)
      · exact ⟨h1, h2, h3⟩
      · rw [h0] at e; exact absurd e (by decide +kernel)
    have un : ∀ {x y : Nat}, x < 8 → y < 8 → nI k = nI x → nI m = nI y → x = k ∧ y = m := fun hx hy e1 e2 => ⟨(nI_eq8 hk hx e1).symm, (nI_eq8 hm hy e2).symm⟩
    obtain ⟨zk, hzk, ezk⟩ := hSz k hk
    obtain ⟨zm, hzm, ezm⟩ := hSz m hm
    -- what the reference says, at these shelves
    have M : (r' = -2 ∧ fMh k = 1 ∧ fMh m = 1 ∧ fMo k = fMo m ∧ ¬ SpM c d n (fMz k) (fMz m) ∧ eN = eR) ∨ (r' = -3 ∧ (fMh k = 2 ∨ fMh m = 2 ∨ (fMh k = 1 ∧ fMh m = 1 ∧ ¬ fMo k = fMo m)) ∧ eN = eR) ∨ (r' = -4 ∧ ¬ fMh k = 2 ∧ ¬ fMh m = 2 ∧ (fMh k = 0 ∨ fMh m = 0) ∧ eN = eR) ∨ (r' = n ∧ fMh k = 1 ∧ fMh m = 1 ∧ fMo k = fMo m ∧ SpM c d n (fMz k) (fMz m) ∧ ∃ i j x : Nat, c = nI i ∧ d = nI j ∧ n = nI x ∧ i + x ≤ 40 ∧ j + x ≤ 40 ∧ ∀ s y, eN s y = if s = m ∧ j ≤ y ∧ y < j + x then eR k (i + (y - j)) else eR s y) := by
      have one : ∀ s, (fMh s = 0 ∨ fMh s = 1 ∨ fMh s = 2) → ¬ fMh s = 2 → ¬ fMh s = 0 → fMh s = 1 := fun s h g1 g2 => by
        rcases h with h | h | h
        · exact absurd h g2
        · exact h
        · exact absurd h g1
      rcases q' with ⟨e, g, e2⟩ | ⟨e, ⟨x, y, hx, hy, ex, ey, g⟩, e2⟩ | ⟨e, ⟨x, y, hx, hy, ex, ey, g⟩, e2⟩ | ⟨e, x, y, i, j, z, hx, hy, ex, ey, g1, g2, g3, g4, g5, g6, g7, g8, gb1, gb2, g9, g10⟩
      · rcases g with g | ⟨x, y, hx, hy, ex, ey, g1, g2, g3, g4, g5, g6⟩
        · exact absurd ⟨k, m, hk, hm, rfl, rfl⟩ g
        · obtain ⟨rfl, rfl⟩ := un hx hy ex ey
          have f1 := one _ s4 g1 g3
          have f2 := one _ t4 g2 g4
          exact Or.inl ⟨e, f1, f2, g5 f1 f2, g6, e2⟩
      · obtain ⟨rfl, rfl⟩ := un hx hy ex ey
        exact Or.inr (Or.inl ⟨e, g, e2⟩)
      · obtain ⟨rfl, rfl⟩ := un hx hy ex ey
        exact Or.inr (Or.inr (Or.inl ⟨e, g.1, g.2.1, g.2.2, e2⟩))
      · obtain ⟨rfl, rfl⟩ := un hx hy ex ey
        have f1 := one _ s4 g1 g3
        have f2 := one _ t4 g2 g4
        exact Or.inr (Or.inr (Or.inr ⟨e, f1, f2, g5 f1 f2, g9, i, j, z, g6, g7, g8, gb1, gb2, g10⟩))
    have X : (r = -2 ∧ fMh k = 1 ∧ fMh m = 1 ∧ fMo k = fMo m ∧ ¬ SpM c d n (fMz k) (fMz m) ∧ gX = gE) ∨ (r = -3 ∧ (fMh k = 2 ∨ fMh m = 2 ∨ (fMh k = 1 ∧ fMh m = 1 ∧ ¬ fMo k = fMo m)) ∧ gX = gE) ∨ (r = -4 ∧ ¬ fMh k = 2 ∧ ¬ fMh m = 2 ∧ (fMh k = 0 ∨ fMh m = 0) ∧ gX = gE) ∨ (r = n ∧ fMh k = 1 ∧ fMh m = 1 ∧ fMo k = fMo m ∧ SpM c d n (fMz k) (fMz m) ∧ ∃ i j x : Nat, c = nI i ∧ d = nI j ∧ n = nI x ∧ i + x ≤ 40 ∧ j + x ≤ 40 ∧ gX = va_cpy gE gE (k * 40 + i) (m * 40 + j) x) := by
      have zero : ∀ s, (fMh s = 0 ∨ fMh s = 1 ∨ fMh s = 2) → ¬ fMh s = 1 → ¬ fMh s = 2 → fMh s = 0 := fun s h g1 g2 => by
        rcases h with h | h | h
        · exact h
        · exact absurd h g1
        · exact absurd h g2
      have spe : fMh k = 1 → fMh m = 1 → (SpM c d n (fMz k) (fMz m) ↔ (Spn c n (fS k) ∧ Spn d n (fS m))) := fun f1 f2 => by
        rw [← (row1 k hk f1).2.1, ← (row1 m hm f2).2.1, ezk, ezm]
        exact spm_iff hzk hzm
      rcases q with ⟨e, g, e2⟩ | ⟨e, ⟨x, y, hx, hy, ex, ey, g⟩, e2⟩ | ⟨e, ⟨x, y, hx, hy, ex, ey, g⟩, e2⟩ | ⟨e, x, y, i, j, z, hx, hy, ex, ey, g1, g2, g3, g4, g5, g6, g7, g8, g9, g10, g11⟩
      · rcases g with g | ⟨x, y, hx, hy, ex, ey, g1, g2, g3, g4⟩
        · exact absurd ⟨k, m, hk, hm, rfl, rfl⟩ g
        · obtain ⟨rfl, rfl⟩ := un hx hy ex ey
          have f1 := s2.mp g1
          have f2 := t2.mp g2
          exact Or.inl ⟨e, f1, f2, by rw [← (row1 _ hk f1).1, ← (row1 _ hm f2).1]; exact g3, fun h => g4 ((spe f1 f2).mp h), e2⟩
      · obtain ⟨rfl, rfl⟩ := un hx hy ex ey
        refine Or.inr (Or.inl ⟨e, ?_, e2⟩)
        rcases g with g | g | ⟨g1, g2, g3⟩
        · exact Or.inl (s1.mp g)
        · exact Or.inr (Or.inl (t1.mp g))
        · have f1 := s2.mp g1
          have f2 := t2.mp g2
          exact Or.inr (Or.inr ⟨f1, f2, by rw [← (row1 _ hk f1).1, ← (row1 _ hm f2).1]; exact g3⟩)
      · obtain ⟨rfl, rfl⟩ := un hx hy ex ey
        have f1 : ¬ fMh x = 2 := fun h => g.1 (s1.mpr h)
        have f2 : ¬ fMh y = 2 := fun h => g.2.1 (t1.mpr h)
        refine Or.inr (Or.inr (Or.inl ⟨e, f1, f2, ?_, e2⟩))
        rcases g.2.2 with g3 | g3
        · exact Or.inl (zero _ s4 (fun h => g3 (s2.mpr h)) f1)
        · exact Or.inr (zero _ t4 (fun h => g3 (t2.mpr h)) f2)
      · obtain ⟨rfl, rfl⟩ := un hx hy ex ey
        have f1 := s2.mp g1
        have f2 := t2.mp g2
        exact Or.inr (Or.inr (Or.inr ⟨e, f1, f2, by rw [← (row1 _ hk f1).1, ← (row1 _ hm f2).1]; exact g3, (spe f1 f2).mpr ⟨g4, g5⟩, i, j, z, g6, g7, g8, g9, g10, g11⟩))
    rcases X with ⟨e, a1, a2, a3, a4, e2⟩ | ⟨e, a1, e2⟩ | ⟨e, a1, a2, a3, e2⟩ | ⟨e, a1, a2, a3, a4, i, j, x, ei, ej, ex, hi, hj, e2⟩ <;> rcases M with ⟨f, b1, b2, b3, b4, f2⟩ | ⟨f, b1, f2⟩ | ⟨f, b1, b2, b3, f2⟩ | ⟨f, b1, b2, b3, b4, i', j', x', fi, fj, fx, fb1, fb2, f2⟩
    · exact ⟨e.trans f.symm, by rw [e2, f2]; exact R⟩
    · exfalso
      rw [a1, a2] at b1
      rcases b1 with b1 | b1 | b1
      · exact absurd b1 (by decide +kernel)
      · exact absurd b1 (by decide +kernel)
      · exact b1.2.2 a3
    · exfalso
      rw [a1, a2] at b3
      rcases b3 with b3 | b3 <;> exact absurd b3 (by decide +kernel)
    · exact absurd b4 a4
    · exfalso
      rw [b1, b2] at a1
      rcases a1 with b | b | b
      · exact absurd b (by decide +kernel)
      · exact absurd b (by decide +kernel)
      · exact b.2.2 b3
    · exact ⟨e.trans f.symm, by rw [e2, f2]; exact R⟩
    · exfalso
      rcases a1 with b | b | b
      · exact b1 b
      · exact b2 b
      · rw [b.1, b.2.1] at b3
        rcases b3 with b3 | b3 <;> exact absurd b3 (by decide +kernel)
    · exfalso
      rw [b1, b2] at a1
      rcases a1 with b | b | b
      · exact absurd b (by decide +kernel)
      · exact absurd b (by decide +kernel)
      · exact b.2.2 b3
    · exfalso
      rw [b1, b2] at a3
      rcases a3 with b | b <;> exact absurd b (by decide +kernel)
    · exfalso
      rcases b1 with b | b | b
      · exact a1 b
      · exact a2 b
      · rw [b.1, b.2.1] at a3
        rcases a3 with b | b <;> exact absurd b (by decide +kernel)
    · exact ⟨e.trans f.symm, by rw [e2, f2]; exact R⟩
    · exfalso
      rw [b1, b2] at a3
      rcases a3 with b | b <;> exact absurd b (by decide +kernel)
    · exact absurd a4 b4
    · exfalso
      rw [a1, a2] at b1
      rcases b1 with b | b | b
      · exact absurd b (by decide +kernel)
      · exact absurd b (by decide +kernel)
      · exact b.2.2 a3
    · exfalso
      rw [a1, a2] at b3
      rcases b3 with b | b <;> exact absurd b (by decide +kernel)
    · refine ⟨e.trans f.symm, fun s hs => ?_⟩
      obtain ⟨sp1, sp2⟩ := (spm_iff hzk hzm).mp (by rw [← ezk, ← ezm, (row1 k hk a1).2.1, (row1 m hm a2).2.1]; exact a4)
      obtain ⟨u1, v1, w1, eu1, ev1⟩ := spn_of rfl hzk sp1
      obtain ⟨u2, v2, w2, eu2, ev2⟩ := spn_of rfl hzm sp2
      subst ei ej ex
      have q1 := nI_inj (by omega) (by omega) eu1
      have q2 := nI_inj (by omega) (by omega) ev1
      have q3 := nI_inj (by omega) (by omega) eu2
      have q4 := nI_inj (by omega) (by omega) ev2
      have q5 := nI_inj (by omega) (by omega) fi
      have q6 := nI_inj (by omega) (by omega) fj
      have q7 := nI_inj (by omega) (by omega) fx
      subst q1 q2 q3 q4 q5 q6 q7
      subst e2
      by_cases es : s = m
      · subst es
        rcases R s hs with ⟨x0, -⟩ | ⟨x1, x2, x3, x4, x5⟩ | ⟨x0, -⟩
        · rw [a2] at x0; exact absurd x0 (by decide +kernel)
        · refine Or.inr (Or.inl ⟨x1, x2, x3, x4, fun n' y hn' h40 hy => ?_⟩)
          have q8 : n' = zm := nI_inj (by omega) (by omega) (hn'.symm.trans ezm)
          subst q8
          rw [f2]
          show (if s * 40 + j ≤ s * 40 + y ∧ s * 40 + y < s * 40 + j + x then gE (k * 40 + i + (s * 40 + y - (s * 40 + j))) else gE (s * 40 + y)) = _
          by_cases c1 : j ≤ y ∧ y < j + x
          · rw [if_pos (by omega), if_pos ⟨rfl, c1⟩, show k * 40 + i + (s * 40 + y - (s * 40 + j)) = k * 40 + (i + (y - j)) by omega]
            exact (row1 k hk a1).2.2 zk (i + (y - j)) ezk hzk (by omega)
          · rw [if_neg (by omega), if_neg (fun q => c1 q.2)]
            exact x5 n' y hn' h40 hy
        · rw [a2] at x0; exact absurd x0 (by decide +kernel)
      · refine sh_off (k := k) (R s hs) rfl rfl rfl rfl rfl rfl rfl rfl (fun y hy => ?_) (fun y _ => ?_)
        · show (if m * 40 + j ≤ s * 40 + y ∧ s * 40 + y < m * 40 + j + x then gE (k * 40 + i + (s * 40 + y - (m * 40 + j))) else gE (s * 40 + y)) = _
          rw [if_neg (by omega)]
        · rw [f2, if_neg (fun q => es q.1)]
  · rcases q with ⟨rfl, -, rfl⟩ | ⟨-, ⟨x, y, hx, hy, ex, ey, -⟩, -⟩ | ⟨-, ⟨x, y, hx, hy, ex, ey, -⟩, -⟩ | ⟨-, x, y, i, j, z, hx, hy, ex, ey, -⟩
    · rcases q' with ⟨rfl, -, rfl⟩ | ⟨-, ⟨x, y, hx, hy, ex, ey, -⟩, -⟩ | ⟨-, ⟨x, y, hx, hy, ex, ey, -⟩, -⟩ | ⟨-, x, y, i, j, z, hx, hy, ex, ey, -⟩
      · exact ⟨rfl, R⟩
      · exact absurd ⟨x, y, hx, hy, ex, ey⟩ hs
      · exact absurd ⟨x, y, hx, hy, ex, ey⟩ hs
      · exact absurd ⟨x, y, hx, hy, ex, ey⟩ hs
    · exact absurd ⟨x, y, hx, hy, ex, ey⟩ hs
    · exact absurd ⟨x, y, hx, hy, ex, ey⟩ hs
    · exact absurd ⟨x, y, hx, hy, ex, ey⟩ hs
theorem lcmp_0 {x y : Int64} (h : x = y) : lg_cmp x y = 0 := by
  subst h
  have h1 := (lg_cmp_le x x).mpr (Int64.le_refl x)
  have h2 := (lg_cmp_ge x x).mpr (Int64.le_refl x)
  rw [Int32.le_iff_toInt_le] at h1 h2
  have e0 : (0 : Int32).toInt = 0 := by decide +kernel
  exact eqI (n := 0) (by decide +kernel) (by omega)
theorem exk {P : Nat → Prop} {k : Nat} (hk : k < 8) (h : ∃ k' : Nat, k' < 8 ∧ nI k = nI k' ∧ P k') : P k := by
  obtain ⟨k', h1, h2, h3⟩ := h
  rw [nI_eq8 hk h1 h2]
  exact h3
theorem rem4 : ∀ m, m < 11 → nI (4 * m) - nI (4 * m) / 4 * 4 = 0 := by decide +kernel
theorem iv0_of {x z : Int32} (h0 : ¬ x < 0) (h : x ≤ z) : Iv x.toInt64 0 z.toInt64 := by
  rw [Iv_iff, Int64.le_iff_toInt_le, Int64.le_iff_toInt_le, Int32.toInt_toInt64, Int32.toInt_toInt64]
  have h0 := Int32.not_lt.mp h0
  rw [Int32.le_iff_toInt_le] at h0 h
  exact ⟨h0, h⟩
theorem iv0_to {x z : Int32} (h : Iv x.toInt64 0 z.toInt64) : ¬ x < 0 ∧ x ≤ z := by
  obtain ⟨h1, h2⟩ := Iv_iff.mp h
  rw [Int64.le_iff_toInt_le, Int32.toInt_toInt64] at h1 h2
  rw [Int32.toInt_toInt64] at h2
  exact ⟨Int32.not_lt.mpr (Int32.le_iff_toInt_le.mpr h1), Int32.le_iff_toInt_le.mpr h2⟩
section SHK
variable {fH fS fA : Nat → Int32} {gE : Nat → Int64} {fMh fMo fMz fMk fMa : Nat → Int32} {eR : Nat → Nat → Int64}
theorem sh_0 {s : Nat} (R : SH1 s fH fS fA gE fMh fMo fMz fMk fMa eR) (h1 : ¬ fMh s = 1) (h2 : ¬ fMh s = 2) : fMh s = 0 := by
  rcases R with q | q | q
  · exact q.1
  · exact absurd q.1 h1
  · exact absurd q.1 h2
theorem sh_1 {s : Nat} (R : SH1 s fH fS fA gE fMh fMo fMz fMk fMa eR) (h : fMh s = 1) : fS s = fMz s ∧ ∀ n i : Nat, fS s = nI n → n ≤ 40 → i < n → gE (s * 40 + i) = eR s i := by
  rcases R with q | q | q
  · rw [q.1] at h; exact absurd h (by decide +kernel)
  · exact q.2.2.2
  · rw [q.1] at h; exact absurd h (by decide +kernel)
theorem sh_2 {s : Nat} (R : SH1 s fH fS fA gE fMh fMo fMz fMk fMa eR) (h : fMh s = 2) : fH s = 10 + fMk s ∧ Iv (fMk s).toInt64 1 6 ∧ fA s = fMa s := by
  rcases R with q | q | q
  · rw [q.1] at h; exact absurd h (by decide +kernel)
  · rw [q.1] at h; exact absurd h (by decide +kernel)
  · exact q.2
theorem sh_n {s : Nat} (R : SH1 s fH fS fA gE fMh fMo fMz fMk fMa eR) (h1 : ¬ fMh s = 1) (h0 : ¬ fMh s = 0) : fMh s = 2 := by
  rcases R with q | q | q
  · exact absurd q.1 h0
  · exact absurd q.1 h1
  · exact q.1
theorem shr_mk (R : SHR fH fS fA gE fMh fMo fMz fMk fMa eR) : ∀ s, s < 8 → ¬ fMh s = 1 → ¬ fMh s = 0 → Iv (fMk s).toInt64 1 6 := fun s hs h1 h0 => (sh_2 (R s hs) (sh_n (R s hs) h1 h0)).2.1
theorem ones_k {tA tM t1 t2 : TA} {a n r r' : Int32} (hSz : ∀ s, s < 8 → ∃ n : Nat, n ≤ 40 ∧ fS s = nI n) (R : SHR fH fS fA gE fMh fMo fMz fMk fMa eR) (e : tA = tM) (h1 : PXones fH fS gE tA a n r t1) (h2 : PMones fMh fMz eR tM a n r' t2) : r = r' ∧ t1 = t2 := by
  subst e
  by_cases hs : Sh a
  · obtain ⟨k, hk, rfl⟩ := hs
    have R1 := R k hk
    have s1 := (sh_A R1).1
    have s2 := (sh_A R1).2.1
    have A1 : ∀ {P : Prop}, fMh k = 1 → fMh k = 2 → P := fun h h' => absurd (h.symm.trans h') (by decide +kernel)
    have A2 : ∀ {P : Prop}, fMh k = 1 → fMh k = 0 → P := fun h h' => absurd (h.symm.trans h') (by decide +kernel)
    have A3 : ∀ {P : Prop}, fMh k = 2 → fMh k = 0 → P := fun h h' => absurd (h.symm.trans h') (by decide +kernel)
    rcases h1 with ⟨e1, c1, f1⟩ | ⟨e1, c1, f1⟩ | ⟨e1, c1, f1⟩ | ⟨k', m, hk', ek, n10, hr, en, hm, iv, eq1⟩
    · have c1 := exk (P := fun k => ¬ 10 ≤ fH k ∧ Rw (fH k) ∧ (¬ Iv n.toInt64 0 (fS k).toInt64 ∨ ¬ n - n / 4 * 4 = 0)) hk (c1.resolve_left (fun q => q ⟨k, hk, rfl⟩))
      have m1 := s2.mp c1.2.1
      rcases h2 with ⟨e2, c2, f2⟩ | ⟨e2, c2, f2⟩ | ⟨e2, c2, f2⟩ | ⟨k2, m2, hk2, ek2, p1, p2, en2, hm2, le2, eq2⟩
      · exact ⟨e1.trans e2.symm, f1.trans f2.symm⟩
      · exact A1 m1 (exk (P := fun k => fMh k = 2) hk c2)
      · exact A2 m1 (exk (P := fun k => ¬ fMh k = 2 ∧ fMh k = 0) hk c2).2
      · exfalso
        have q := nI_eq8 hk hk2 ek2
        subst q
        rcases c1.2.2 with q | q
        · exact q (by rw [(sh_1 R1 m1).1]; exact iv0_of (by rw [en2]; exact nI_pos (by omega)) le2)
        · exact q (by rw [en2]; exact rem4 m2 (by omega))
    · have m1 := s1.mp (exk (P := fun k => 10 ≤ fH k) hk c1)
      rcases h2 with ⟨e2, c2, f2⟩ | ⟨e2, c2, f2⟩ | ⟨e2, c2, f2⟩ | ⟨k2, m2, hk2, ek2, p1, p2, en2, hm2, le2, eq2⟩
      · have c2 := exk (P := fun k => ¬ fMh k = 2 ∧ ¬ fMh k = 0 ∧ (n < 0 ∨ ¬ n - n / 4 * 4 = 0 ∨ ¬ n ≤ fMz k)) hk (c2.resolve_left (fun q => q ⟨k, hk, rfl⟩))
        exact absurd m1 c2.1
      · exact ⟨e1.trans e2.symm, f1.trans f2.symm⟩
      · exact A3 m1 (exk (P := fun k => ¬ fMh k = 2 ∧ fMh k = 0) hk c2).2
      · have q := nI_eq8 hk hk2 ek2
        subst q
        exact absurd m1 p1
    · have c1 := exk (P := fun k => ¬ 10 ≤ fH k ∧ ¬ Rw (fH k)) hk c1
      have m1 := sh_0 R1 (fun q => c1.2 (s2.mpr q)) (fun q => c1.1 (s1.mpr q))
      rcases h2 with ⟨e2, c2, f2⟩ | ⟨e2, c2, f2⟩ | ⟨e2, c2, f2⟩ | ⟨k2, m2, hk2, ek2, p1, p2, en2, hm2, le2, eq2⟩
      · have c2 := exk (P := fun k => ¬ fMh k = 2 ∧ ¬ fMh k = 0 ∧ (n < 0 ∨ ¬ n - n / 4 * 4 = 0 ∨ ¬ n ≤ fMz k)) hk (c2.resolve_left (fun q => q ⟨k, hk, rfl⟩))
        exact absurd m1 c2.2.1
      · exact A3 (exk (P := fun k => fMh k = 2) hk c2) m1
      · exact ⟨e1.trans e2.symm, f1.trans f2.symm⟩
      · have q := nI_eq8 hk hk2 ek2
        subst q
        exact absurd m1 p2
    · have q := nI_eq8 hk hk' ek
      subst q
      have m1 := s2.mp hr
      obtain ⟨i1, i2⟩ := iv0_to iv
      rcases h2 with ⟨e2, c2, f2⟩ | ⟨e2, c2, f2⟩ | ⟨e2, c2, f2⟩ | ⟨k2, m2, hk2, ek2, p1, p2, en2, hm2, le2, eq2⟩
      · have c2 := exk (P := fun k => ¬ fMh k = 2 ∧ ¬ fMh k = 0 ∧ (n < 0 ∨ ¬ n - n / 4 * 4 = 0 ∨ ¬ n ≤ fMz k)) hk (c2.resolve_left (fun q => q ⟨k, hk, rfl⟩))
        exfalso
        rcases c2.2.2 with q | q | q
        · exact i1 q
        · exact q (by rw [en]; exact rem4 m (by omega))
        · exact q (by rw [← (sh_1 R1 m1).1]; exact i2)
      · exact A1 m1 (exk (P := fun k => fMh k = 2) hk c2)
      · exact A2 m1 (exk (P := fun k => ¬ fMh k = 2 ∧ fMh k = 0) hk c2).2
      · have q := nI_eq8 hk hk2 ek2
        subst q
        have q : 4 * m = 4 * m2 := nI_inj (by omega) (by omega) (en.symm.trans en2)
        have q : m = m2 := by omega
        subst q
        obtain ⟨z, hz, ez⟩ := hSz k hk
        have hzm : 4 * m ≤ z := by
          rw [en, ez, Int32.le_iff_toInt_le, nI_toInt (by omega), nI_toInt (by omega)] at i2
          omega
        have ec : onG (fun i => gE (k * 40 + i)) m 0 tA 0 = onG (eR k) m 0 tA 0 := on_cong m 0 tA 0 (fun j _ h2 => (sh_1 R1 m1).2 z j ez hz (by omega))
        have q := Prod.mk.inj (eq1.trans (ec.trans eq2.symm))
        exact ⟨q.2, q.1⟩
  · rcases h1 with ⟨e1, c1, f1⟩ | ⟨e1, ⟨k, h, ek, _⟩, f1⟩ | ⟨e1, ⟨k, h, ek, _⟩, f1⟩ | ⟨k, m, h, ek, _⟩
    · rcases h2 with ⟨e2, c2, f2⟩ | ⟨e2, ⟨k, h, ek, _⟩, f2⟩ | ⟨e2, ⟨k, h, ek, _⟩, f2⟩ | ⟨k, m, h, ek, _⟩
      · exact ⟨e1.trans e2.symm, f1.trans f2.symm⟩
      all_goals exact absurd ⟨k, h, ek⟩ hs
    all_goals exact absurd ⟨k, h, ek⟩ hs
theorem years_k {tA tM t1 t2 : TA} {a n r r' : Int32} (R : SHR fH fS fA gE fMh fMo fMz fMk fMa eR) (e : tA = tM) (h1 : PXyears fH fA tA a n r t1) (h2 : PMyears fMh fMk fMa tM a n r' t2) : r = r' ∧ t1 = t2 := by
  subst e
  by_cases hn : Iv n.toInt64 1 20
  · by_cases hs : Sh a
    · obtain ⟨k, hk, rfl⟩ := hs
      have R1 := R k hk
      have s1 := (sh_A R1).1
      have s2 := (sh_A R1).2.1
      have hsh : Sh (nI k) := ⟨k, hk, rfl⟩
      rcases h1 with ⟨e1, c1, f1⟩ | ⟨e1, _, c1, f1⟩ | ⟨e1, _, c1, f1⟩ | ⟨k', m, hk', ek, nr, h10, _, hm, en, eq1⟩
      · exact (c1.elim (fun q => absurd hn q) (fun q => absurd hsh q))
      · have m1 := s2.mp (exk (P := fun k => Rw (fH k)) hk c1)
        rcases h2 with ⟨e2, c2, f2⟩ | ⟨e2, _, c2, f2⟩ | ⟨e2, _, c2, f2⟩ | ⟨k2, m2, hk2, ek2, p1, p2, _, hm2, en2, eq2⟩
        · exact (c2.elim (fun q => absurd hsh q) (fun q => absurd hn q))
        · exact ⟨e1.trans e2.symm, f1.trans f2.symm⟩
        · exact absurd m1 (exk (P := fun k => ¬ fMh k = 1 ∧ fMh k = 0) hk c2).1
        · have q := nI_eq8 hk hk2 ek2
          subst q
          exact absurd m1 p1
      · have c1 := exk (P := fun k => ¬ Rw (fH k) ∧ ¬ 10 ≤ fH k) hk c1
        have m1 := sh_0 R1 (fun q => c1.1 (s2.mpr q)) (fun q => c1.2 (s1.mpr q))
        rcases h2 with ⟨e2, c2, f2⟩ | ⟨e2, _, c2, f2⟩ | ⟨e2, _, c2, f2⟩ | ⟨k2, m2, hk2, ek2, p1, p2, _, hm2, en2, eq2⟩
        · exact (c2.elim (fun q => absurd hsh q) (fun q => absurd hn q))
        · exact absurd (m1.symm.trans (exk (P := fun k => fMh k = 1) hk c2)) (by decide +kernel)
        · exact ⟨e1.trans e2.symm, f1.trans f2.symm⟩
        · have q := nI_eq8 hk hk2 ek2
          subst q
          exact absurd m1 p2
      · have q := nI_eq8 hk hk' ek
        subst q
        have m1 := s1.mp h10
        rcases h2 with ⟨e2, c2, f2⟩ | ⟨e2, _, c2, f2⟩ | ⟨e2, _, c2, f2⟩ | ⟨k2, m2, hk2, ek2, p1, p2, _, hm2, en2, eq2⟩
        · exact (c2.elim (fun q => absurd hsh q) (fun q => absurd hn q))
        · exact absurd (m1.symm.trans (exk (P := fun k => fMh k = 1) hk c2)) (by decide +kernel)
        · exact absurd (m1.symm.trans (exk (P := fun k => ¬ fMh k = 1 ∧ fMh k = 0) hk c2).2) (by decide +kernel)
        · have q := nI_eq8 hk hk2 ek2
          subst q
          have q : m = m2 := nI_inj (by omega) (by omega) (en.symm.trans en2)
          subst q
          obtain ⟨z1, _, z3⟩ := sh_2 R1 m1
          have ek : fH k - 10 = fMk k := by rw [z1, Int32.add_comm, Int32.add_sub_cancel]
          rw [ek, z3] at eq1
          have q := Prod.mk.inj (eq1.trans eq2.symm)
          exact ⟨q.2, q.1⟩
    · rcases h1 with ⟨e1, c1, f1⟩ | ⟨e1, _, ⟨k, h, ek, _⟩, f1⟩ | ⟨e1, _, ⟨k, h, ek, _⟩, f1⟩ | ⟨k, m, h, ek, _⟩
      · rcases h2 with ⟨e2, c2, f2⟩ | ⟨e2, _, ⟨k, h, ek, _⟩, f2⟩ | ⟨e2, _, ⟨k, h, ek, _⟩, f2⟩ | ⟨k, m, h, ek, _⟩
        · exact ⟨e1.trans e2.symm, f1.trans f2.symm⟩
        all_goals exact absurd ⟨k, h, ek⟩ hs
      all_goals exact absurd ⟨k, h, ek⟩ hs
  · have n20 : ∀ m : Nat, 1 ≤ m → m ≤ 20 → ¬ n = nI m := fun m h1 h2 q => hn (by
      rw [q]
      exact ofI (m := 1) (n := 20) (by decide +kernel) (by decide +kernel) ⟨by rw [nI_toInt (by omega)]; omega, by rw [nI_toInt (by omega)]; omega⟩)
    rcases h1 with ⟨e1, c1, f1⟩ | ⟨e1, q, _⟩ | ⟨e1, q, _⟩ | ⟨k, m, _, _, _, _, u1, u2, en, _⟩
    · rcases h2 with ⟨e2, c2, f2⟩ | ⟨e2, q, _⟩ | ⟨e2, q, _⟩ | ⟨k, m, _, _, _, _, u1, u2, en, _⟩
      · exact ⟨e1.trans e2.symm, f1.trans f2.symm⟩
      · exact absurd q hn
      · exact absurd q hn
      · exact absurd en (n20 m u1 u2)
    · exact absurd q hn
    · exact absurd q hn
    · exact absurd en (n20 m u1 u2)
end SHK
section TW2
variable {tA tB tM tN tN' : TA} {fB fMt fB' fM' : Nat → Int32} {kZ kY z1 y1 : Nat} {uP uQ : UM} {v n r r' iK : Int32}
theorem fd_rel2 (hz : kZ = kY) (hz1 : z1 = y1) (h1 : FD fB kZ v n z1 fB') (h2 : FD fMt kY v n y1 fM') (h : nbf fB kZ = nbf fMt kY) : nbf fB' z1 = nbf fM' y1 := by
  subst hz
  subst hz1
  exact fd_rel h1 h2 h
theorem town_k2 (hz : kZ = kY) (h : nbf fB kZ = nbf fMt kY) (e : tA = tM) (h1 : PXtown (pall (nbf fB kZ) kZ tA) tA r tN) (h2 : PXtown (pall (nbf fMt kY) kY tM) tM r' tN') : r = r' ∧ tN = tN' := by
  subst hz
  subst e
  rw [h] at h1
  exact town_k rfl h1 h2
theorem tw_town (hR : TWR tA tB fB kZ fMt kY tM uP) (e : tN = tN') (w : WJ tN') (e1 : z1 = 0) (e2 : y1 = 0) : TWR tN tB fB z1 fMt y1 tN' uP := by
  subst e1
  subst e2
  exact ⟨e, w, hR.2.2.1, nbf_0⟩
theorem tw_wipe (hR : TWR tA tB fB kZ fMt kY tM uP) (e1 : z1 = 0) (e2 : y1 = 0) : TWR tA tB fB z1 fMt y1 tM uP := by
  subst e1
  subst e2
  exact ⟨hR.1, hR.2.1, hR.2.2.1, nbf_0⟩
theorem tw_image {tC : TA} (hR : TWR tA tB fB kZ fMt kY tM uP) (e1 : tC = tA) (e2 : uT uQ = tM) : TWR tA tC fB kZ fMt kY tM uQ :=
  ⟨hR.1, hR.2.1, fun _ => ⟨by rw [e1, e2]; exact hR.1, by rw [e2]; exact hR.2.1⟩, hR.2.2.2⟩
theorem tw_back (hR : TWR tA tB fB kZ fMt kY tM uP) (h : iK = 0 ↔ isS uP = false) (q : (iK = 0 ∧ r = -5 ∧ tN = tA) ∨ (¬ iK = 0 ∧ r = 1 ∧ tN = tB)) (q' : (isS uP = false ∧ r' = -5 ∧ tN' = tM) ∨ (isS uP = true ∧ r' = 1 ∧ tN' = uT uP)) : TWR tN tB fB kZ fMt kY tN' uP := by
  rcases q with ⟨c, -, e⟩ | ⟨c, -, e⟩
  · rcases q' with ⟨c', -, e'⟩ | ⟨c', -, e'⟩
    · rw [e, e']; exact hR
    · rw [h.mp c] at c'; cases c'
  · rcases q' with ⟨c', -, e'⟩ | ⟨c', -, e'⟩
    · exact absurd (h.mpr c') c
    · rw [e, e']; exact ⟨(hR.2.2.1 c').1, (hR.2.2.1 c').2, hR.2.2.1, hR.2.2.2⟩
theorem seed_k (e : tA = tM) (h1 : tN = T_setsd tA n ∧ r = T_sd tA) (h2 : tN' = T_setsd tM n ∧ r' = T_sd tM) : r = r' ∧ tN = tN' := by
  subst e
  exact ⟨h1.2.trans h2.2.symm, h1.1.trans h2.1.symm⟩
end TW2
theorem WJ_0 : WJ T0 := ⟨⟨TI_0, ⟨fun _ _ _ _ _ => rfl, fun _ _ _ => rfl, fun _ _ _ => rfl⟩, fun p h _ => absurd h (Nat.not_lt_zero p)⟩, NI_0⟩
end
section
/-! THE CLAIM OUT OF ONE WALK OF THE LAW'S BODY. Your part is whole_start (and what it stands on); all else here is the same for every law, but numbers. -/
noncomputable def R_law : String := "EachBookOnceLaw"
noncomputable def lw_P (b : Addr) (xs : List Int32) (args : Array Value) (s : State) : Prop := args = #[.ref b] ∧ s.IntsAt b xs ∧ xs.length ≤ 384 ∧ (Jvm.Cond.and given_1 narrow_1).before args s = true
noncomputable def lw_Q (_ : Array Value) (s : State) (o : Outcome) (t : State) : Prop := o = .returned (some (.int 1)) ∧ Framed s o t [] 600000 7302250
noncomputable def lw_Z (below : List Frame) (a : Array Value) (s : State) : State → Prop := fun t => ∃ o, t.status = .running ∧ Ended t below o ∧ lw_Q a s o t
/-- the law's own end, with 1 on the stack, nothing written that was there before, its room as the claim has it -/
theorem lw_ret {p : Program} {l : Launch} {e : Env} {s : State} {m : MethodId} {below : List Frame} {meth : Method} {c : Code} {b : Nat} (hx : p.tables.exec = Jvm.exec) (hb : c.code = code) (hr : meth.sig.returnType = ret) (hlocks : meth.locks = false) {pc : Nat} {H : Heap} {ls : Array Slot} (hdg : decode code pc = .ok (.ireturn, 1)) : W p l e room_1 s m #[Value.ref b] below meth c H [] 600000 7302250 (lw_Z below #[Value.ref b] s) (F0 m pc ls [.int 1]) := by
  intro T hT X
  obtain ⟨fs, hret, hrun, hended, hW, hframe⟩ := X.leave (v := some (.int 1)) (hlocks := hlocks) (fun h => by rw [hr] at h; cases h)
  have hmeth' : T.vm.method? m = some meth := X.method'
  refine ⟨T.setFrames fs, ?_, .returned (some (.int 1)), hrun, hended, rfl, ⟨_, rfl⟩, hW, hframe⟩
  jvm_step X.here [X.here.top, hx, hb, hdg, hmeth', hr, ret, narrow_b1]
  (try refine ⟨rfl, ?_⟩); (try refine ⟨rfl, ?_⟩)
  first | (intro acts; rw [hret _ acts rfl rfl rfl]) | rw [hret _ _ rfl rfl rfl]
  exact Steps.refl _
/-- what holds at the law's entry: the machine, the code, the tables' words (any of lw_tbl by 'hts w (by decide +kernel)'), the script of L ints xs at the cell b, what the Statement gives of the start (any of its parts by flat_of_before) -/
noncomputable def lw_At (p : Program) (s : State) (m : MethodId) (meth : Method) (c : Code) (b L : Nat) (xs : Nat → Int32) : Prop :=
  p.tables.exec = Jvm.exec ∧ c.code = code ∧ meth.sig.returnType = ret ∧ c.maxLocals = 4 ∧ s.vm.findClass R_law = some m.cls ∧ (∀ w ∈ lw_tbl, w.before #[Value.ref b] s = true) ∧ va_X b L xs s s.heap ∧ b < s.heap.size ∧ meth.locks = false ∧ (Jvm.Cond.and given_1 narrow_1).before #[Value.ref b] s = true
theorem kn_nf {s : State} {b : Nat} (hts : ∀ w ∈ lw_tbl, w.before #[Value.ref b] s = true) : ∀ q ∈ nestF, va_Nw (.fieldLinkNest q.1 q.2.1 q.2.2.1 q.2.2.2.1 q.2.2.2.2 AO0) s := by
  unfold nestF
  exact List.forall_mem_cons.mpr ⟨va_Nw.of rfl (hts _ (List.mem_append_right _ n_t30)), List.forall_mem_cons.mpr ⟨va_Nw.of rfl (hts _ (List.mem_append_right _ n_t31)), List.forall_mem_cons.mpr ⟨va_Nw.of rfl (hts _ (List.mem_append_right _ n_t32)), List.forall_mem_cons.mpr ⟨va_Nw.of rfl (hts _ (List.mem_append_right _ n_t33)), List.forall_mem_cons.mpr ⟨va_Nw.of rfl (hts _ (List.mem_append_right _ n_t35)), List.forall_mem_cons.mpr ⟨va_Nw.of rfl (hts _ (List.mem_append_right _ n_t36)), List.forall_mem_cons.mpr ⟨va_Nw.of rfl (hts _ (List.mem_append_right _ n_t37)), List.forall_mem_cons.mpr ⟨va_Nw.of rfl (hts _ (List.mem_append_right _ n_t38)), List.forall_mem_cons.mpr ⟨va_Nw.of rfl (hts _ (List.mem_append_right _ n_t40)), List.forall_mem_cons.mpr ⟨va_Nw.of rfl (hts _ (List.mem_append_right _ n_t41)), List.forall_mem_cons.mpr ⟨va_Nw.of rfl (hts _ (List.mem_append_right _ n_t42)), List.forall_mem_cons.mpr ⟨va_Nw.of rfl (hts _ (List.mem_append_right _ n_t44)), List.forall_mem_cons.mpr ⟨va_Nw.of rfl (hts _ (List.mem_append_right _ n_t45)), List.forall_mem_cons.mpr ⟨va_Nw.of rfl (hts _ (List.mem_append_right _ n_t47)), List.forall_mem_cons.mpr ⟨va_Nw.of rfl (hts _ (List.mem_append_right _ n_t49)), List.forall_mem_cons.mpr ⟨va_Nw.of rfl (hts _ (List.mem_append_right _ n_t51)), List.forall_mem_cons.mpr ⟨va_Nw.of rfl (hts _ (List.mem_append_right _ n_t52)), List.forall_mem_cons.mpr ⟨va_Nw.of rfl (hts _ (List.mem_append_right _ n_t54)), List.forall_mem_cons.mpr ⟨va_Nw.of rfl (hts _ (List.mem_append_right _ n_t55)), List.forall_mem_cons.mpr ⟨va_Nw.of rfl (hts _ (List.mem_append_right _ n_t57)), List.forall_mem_cons.mpr ⟨va_Nw.of rfl (hts _ (List.mem_append_right _ n_t59)), List.forall_mem_cons.mpr ⟨va_Nw.of rfl (hts _ (List.mem_append_right _ n_t61)), List.forall_mem_cons.mpr ⟨va_Nw.of rfl (hts _ (List.mem_append_right _ n_t63)), List.forall_mem_cons.mpr ⟨va_Nw.of rfl (hts _ (List.mem_append_right _ n_t102)), List.forall_mem_cons.mpr ⟨va_Nw.of rfl (hts _ (List.mem_append_right _ n_t105)), List.forall_mem_cons.mpr ⟨va_Nw.of rfl (hts _ (List.mem_append_right _ n_t107)), List.forall_mem_cons.mpr ⟨va_Nw.of rfl (hts _ (List.mem_append_right _ n_t124)), List.forall_mem_cons.mpr ⟨va_Nw.of rfl (hts _ (List.mem_append_right _ n_t126)), List.forall_mem_cons.mpr ⟨va_Nw.of rfl (hts _ (List.mem_append_right _ n_t128)), List.forall_mem_cons.mpr ⟨va_Nw.of rfl (hts _ (List.mem_append_right _ n_t150)), List.forall_mem_cons.mpr ⟨va_Nw.of rfl (hts _ (List.mem_append_right _ n_t155)), List.forall_mem_cons.mpr ⟨va_Nw.of rfl (hts _ (List.mem_append_right _ n_t157)), fun _ h => absurd h List.not_mem_nil⟩⟩⟩⟩⟩⟩⟩⟩⟩⟩⟩⟩⟩⟩⟩⟩⟩⟩⟩⟩⟩⟩⟩⟩⟩⟩⟩⟩⟩⟩⟩⟩
theorem kn_nm {s : State} {b : Nat} (hts : ∀ w ∈ lw_tbl, w.before #[Value.ref b] s = true) : ∀ q ∈ nestM, va_Nw (.methodLinkNest q.1 q.2.1 q.2.2 AO0) s := by
  unfold nestM
  exact List.forall_mem_cons.mpr ⟨va_Nw.of rfl (hts _ (List.mem_append_right _ n_t25)), List.forall_mem_cons.mpr ⟨va_Nw.of rfl (hts _ (List.mem_append_right _ n_t95)), List.forall_mem_cons.mpr ⟨va_Nw.of rfl (hts _ (List.mem_append_right _ n_t100)), List.forall_mem_cons.mpr ⟨va_Nw.of rfl (hts _ (List.mem_append_right _ n_t142)), List.forall_mem_cons.mpr ⟨va_Nw.of rfl (hts _ (List.mem_append_right _ n_t147)), List.forall_mem_cons.mpr ⟨va_Nw.of rfl (hts _ (List.mem_append_right _ n_t321)), List.forall_mem_cons.mpr ⟨va_Nw.of rfl (hts _ (List.mem_append_right _ n_t358)), List.forall_mem_cons.mpr ⟨va_Nw.of rfl (hts _ (List.mem_append_right _ n_t369)), List.forall_mem_cons.mpr ⟨va_Nw.of rfl (hts _ (List.mem_append_right _ n_t681)), fun _ h => absurd h List.not_mem_nil⟩⟩⟩⟩⟩⟩⟩⟩⟩
theorem kn_one {s : State} {b k : Nat} {own tx : String} (h1 : (Cond.stringRef own k tx).before #[Value.ref b] s = true) (h2 : (Cond.exactly (Term.string own k) "java/lang/String").before #[Value.ref b] s = true) : ∃ a : Nat, vk_R own k tx a s := by
  obtain ⟨a, c, cA, kA, q1, -⟩ := Cond.exactly_spec (args := #[Value.ref b]) (first := s) (o := none) (s := s) (idx := []) (t := Term.string own k) (cls := "java/lang/String") h2
  exact ⟨a, vk_R.of h1 q1⟩
theorem kn_st {s : State} {b : Nat} (hts : ∀ w ∈ lw_tbl, w.before #[Value.ref b] s = true) (hgv : (Jvm.Cond.and given_1 narrow_1).before #[Value.ref b] s = true) : ∀ q ∈ strW, ∃ a : Nat, vk_R q.1 q.2.1 q.2.2 a s := by
  have hs := flat_of_before _ hgv
  unfold strW
  exact List.forall_mem_cons.mpr ⟨kn_one (hts _ (List.mem_append_right _ n_t459)) (cd_l (cd_r (cd_r (cd_r (cd_l (cd_l (cd_l (cd_l (cd_l (cd_r hgv)))))))))), List.forall_mem_cons.mpr ⟨kn_one (hts _ (List.mem_append_right _ n_t528)) (cd_r (cd_l (cd_r (cd_r (cd_l (cd_l (cd_l (cd_l (cd_r hgv))))))))), List.forall_mem_cons.mpr ⟨kn_one (hts _ (List.mem_append_right _ n_t534)) (cd_l (cd_l (cd_r (cd_l (cd_r (cd_l (cd_l (cd_l (cd_r hgv))))))))), List.forall_mem_cons.mpr ⟨kn_one (hts _ (List.mem_append_right _ n_t539)) (cd_l (cd_l (cd_r (cd_r (cd_r (cd_l (cd_l (cd_l (cd_r hgv))))))))), List.forall_mem_cons.mpr ⟨kn_one (hts _ (List.mem_append_right _ n_t544)) (cd_r (cd_l (cd_r (cd_l (cd_l (cd_r (cd_l (cd_l (cd_r hgv))))))))), List.forall_mem_cons.mpr ⟨kn_one (hts _ (List.mem_append_right _ n_t545)) (cd_r (cd_r (cd_r (cd_r (cd_r (cd_l (cd_r (cd_l (cd_l (cd_r hgv)))))))))), List.forall_mem_cons.mpr ⟨kn_one (hts _ (List.mem_append_right _ n_t546)) (cd_l (cd_r (cd_r (cd_l (cd_r (cd_r (cd_r (cd_l (cd_l (cd_r hgv)))))))))), List.forall_mem_cons.mpr ⟨kn_one (hts _ (List.mem_append_right _ n_t548)) (cd_r (cd_r (cd_r (cd_r (cd_l (cd_l (cd_l (cd_r (cd_l (cd_r hgv)))))))))), List.forall_mem_cons.mpr ⟨kn_one (hts _ (List.mem_append_right _ n_t554)) (cd_l (cd_l (cd_r (cd_l (cd_r (cd_l (cd_r (cd_l (cd_r hgv))))))))), List.forall_mem_cons.mpr ⟨kn_one (hts _ (List.mem_append_right _ n_t1144)) (cd_l (cd_r (cd_l (cd_l (cd_l (cd_r (cd_r (cd_l (cd_r hgv))))))))), List.forall_mem_cons.mpr ⟨kn_one (hts _ (List.mem_append_right _ n_t1163)) (cd_l (cd_l (cd_l (cd_l (cd_r (cd_r (cd_r (cd_l (cd_r hgv))))))))), List.forall_mem_cons.mpr ⟨kn_one (hts _ (List.mem_append_right _ n_t1168)) (cd_l (cd_r (cd_r (cd_r (cd_r (cd_r (cd_r (cd_r (cd_l (cd_r hgv)))))))))), List.forall_mem_cons.mpr ⟨kn_one (hts _ (List.mem_append_right _ n_t1169)) (cd_l (cd_r (cd_r (cd_r (cd_l (cd_l (cd_l (cd_r (cd_r hgv))))))))), List.forall_mem_cons.mpr ⟨kn_one (hts _ (List.mem_append_right _ n_t1170)) (cd_l (cd_r (cd_r (cd_r (cd_r (cd_r (cd_l (cd_l (cd_r (cd_r hgv)))))))))), List.forall_mem_cons.mpr ⟨kn_one (hts _ (List.mem_append_right _ n_t1171)) (cd_r (cd_l (cd_l (cd_l (cd_r (cd_r (cd_l (cd_r (cd_r hgv))))))))), List.forall_mem_cons.mpr ⟨kn_one (hts _ (List.mem_append_right _ n_t1172)) (cd_l (cd_l (cd_r (cd_l (cd_l (cd_l (cd_r (cd_r (cd_r hgv))))))))), List.forall_mem_cons.mpr ⟨kn_one (hts _ (List.mem_append_right _ n_t1173)) (cd_l (cd_r (cd_r (cd_r (cd_l (cd_r (cd_l (cd_r (cd_r (cd_r hgv)))))))))), List.forall_mem_cons.mpr ⟨kn_one (hts _ (List.mem_append_right _ n_t1174)) (cd_r (cd_r (cd_r (cd_l (cd_r (cd_l (cd_r (cd_r (cd_r (cd_r hgv)))))))))), fun _ h => absurd h List.not_mem_nil⟩⟩⟩⟩⟩⟩⟩⟩⟩⟩⟩⟩⟩⟩⟩⟩⟩⟩
theorem kn_big {s : State} {b : Nat} (hts : ∀ w ∈ lw_tbl, w.before #[Value.ref b] s = true) : ∀ w ∈ BIG, w.before #[Value.ref b] s = true := fun w h => hts w (List.mem_filter.mp h).1
theorem kn_arr {s : State} {cA : ClassId} {ty : FieldType} {k : Class} {comp : ClassId} (h1 : s.vm.classes[cA]? = some k) (h2 : k.kind = .array comp ty) : ArrOfT s cA ty := fun _ _ => ⟨(fun _ h => by cases h), k, h1, comp, h2⟩
theorem kn_start {s : State} {b : Nat} (hts : ∀ w ∈ lw_tbl, w.before #[Value.ref b] s = true) (hgv : (Jvm.Cond.and given_1 narrow_1).before #[Value.ref b] s = true) : ∃ (G : va_G) (cy : Nat → ClassId), KN G cy s := by
  have hB := kn_big hts
  obtain ⟨c0, i0, k0⟩ := u_known (C := RX0) (T := TX0) (N := 4) (n := 4) hB iX_X0 (hB _ m_t94)
  obtain ⟨c1, i1, k1⟩ := u_known (C := RX2) (T := TX2) (N := 4) (n := 4) hB iX_X2 (hB _ m_t118)
  obtain ⟨c2, i2, k2⟩ := u_known (C := RX3) (T := TX3) (N := 7) (n := 7) hB iX_X3 (hB _ m_t141)
  obtain ⟨c3, i3, k3⟩ := u_known (C := RX4) (T := TX4) (N := 13) (n := 13) hB iX_X4 (hB _ m_t24)
  obtain ⟨c4, i4, k4⟩ := u_known (C := RX5) (T := TX5) (N := 9) (n := 9) hB iX_X5 (hB _ m_t16)
  obtain ⟨c5, i5, k5⟩ := u_known (C := RX6) (T := TX6) (N := 35) (n := 35) hB iX_X6 (hB _ m_t839)
  obtain ⟨aI, aIk, aIc, aI1, aI2, aI3⟩ := Cond.arrayClass_spec (hB _ m_t92)
  obtain ⟨aJ, aJk, aJc, aJ1, aJ2, aJ3⟩ := Cond.arrayClass_spec (hB _ m_t139)
  obtain ⟨aB, aBk, aBc, aB1, aB2, aB3⟩ := Cond.arrayClass_spec (hB _ m_t173)
  have oP : (Cond.arrayOver (.array .int)).before #[Value.ref b] s = true := hts _ (List.mem_append_right _ n_t847)
  obtain ⟨gP, aP, aPk, gP1, gP2, gP3, gP4, gP5⟩ := Jvm.Stand.arrayOver_specB oP
  have oS : (Cond.arrayOver (.array .long)).before #[Value.ref b] s = true := hts _ (List.mem_append_right _ n_t845)
  obtain ⟨gS, aS, aSk, gS1, gS2, gS3, gS4, gS5⟩ := Jvm.Stand.arrayOver_specB oS
  have oM : (Cond.arrayOver (.object RX6)).before #[Value.ref b] s = true := hts _ (List.mem_append_right _ n_t849)
  obtain ⟨gM, aM, aMk, gM1, gM2, gM3, gM4, gM5⟩ := Cond.arrayOver_spec oM
  refine ⟨(fun k => match k with | 0 => c0 | 1 => c1 | 2 => c2 | 3 => c3 | 4 => c4 | _ => c5, fun k => match k with | 0 => i0 | 1 => i1 | 2 => i2 | 3 => i3 | 4 => i4 | _ => i5), (fun k => match k with | 0 => aI | 1 => aJ | 2 => aB | 3 => aP | 4 => aS | _ => aM), ⟨?_, ?_⟩, kn_nf hts, kn_nm hts, kn_st hts hgv, oM, oP, oS⟩
  · intro k q hq
    match k, hq with
    | 0, hq => cases hq; exact k0
    | 1, hq => cases hq; exact k1
    | 2, hq => cases hq; exact k2
    | 3, hq => cases hq; exact k3
    | 4, hq => cases hq; exact k4
    | 5, hq => cases hq; exact k5
    | k + 6, hq => simp [CL] at hq
  · intro k q hq
    match k, hq with
    | 0, hq => cases hq; exact ⟨kn_arr aI2 aI3, aI1⟩
    | 1, hq => cases hq; exact ⟨kn_arr aJ2 aJ3, aJ1⟩
    | 2, hq => cases hq; exact ⟨kn_arr aB2 aB3, aB1⟩
    | 3, hq => cases hq; exact ⟨kn_arr gP3 gP4, gP5⟩
    | 4, hq => cases hq; exact ⟨kn_arr gS3 gS4, gS5⟩
    | 5, hq => cases hq; exact ⟨kn_arr gM3 gM4, aMk, gM, gM3, gM4, gM1, gM5⟩
    | k + 6, hq => simp [tysA] at hq
theorem so_one {s : State} {b : Nat} {A : Nat → Prop} {own tx : String} {k : Nat} {lB : List Int32} (hlen : lB.length < 2 ^ 31) (hA : ∀ a : Nat, a < s.heap.size → ¬ A a) (hz1 : va_Z "java/lang/String" "COMPACT_STRINGS" "Z" (.int 1) A s s.heap) (hz2 : va_Zq "jdk/internal/util/Preconditions" "SIOOBE_FORMATTER" "Ljava/util/function/BiFunction;" A s s.heap)
    (h1 : (Cond.stringRef own k tx).before #[Value.ref b] s = true) (hex : (Cond.exactly (Term.string own k) "java/lang/String").before #[Value.ref b] s = true) (hco : (Cond.eq (.field (Term.string own k) "java/lang/String" "coder" "B") (.int 0)).before #[Value.ref b] s = true) (har : (Cond.arrayOf (.field (Term.string own k) "java/lang/String" "value" "[B") .byte).before #[Value.ref b] s = true)
    (hle : (Cond.eq (.length (.field (Term.string own k) "java/lang/String" "value" "[B")) (.int (Int32.ofNat lB.length))).before #[Value.ref b] s = true) (hel : ∀ j : Nat, j < lB.length → (Cond.eq (.elem (.field (Term.string own k) "java/lang/String" "value" "[B") (.int (Int32.ofNat j))) (.int (lB.getD j 0))).before #[Value.ref b] s = true) :
    ∃ a v : Nat, vk_R own k tx a s ∧ SF lB a v A s s.heap := by
  obtain ⟨a, c, cA, kA, q1, q2, q3, q4, q5, q6, -⟩ := Cond.exactly_spec (args := #[Value.ref b]) (first := s) (o := none) (s := s) (idx := []) (t := Term.string own k) (cls := "java/lang/String") hex
  obtain ⟨t, ht, hT⟩ := va_Tof (f := fun j => .int (lB.getD j 0)) (A := A) hlen har (va_eqt hle) (fun j hj => va_eqt (hel j hj)) hA
  exact ⟨a, t, vk_R.of h1 q1, ⟨cA, q3, q5, by rw [q6]; exact q2, hA a (Array.getElem?_eq_some_iff.mp q3).1⟩, vk_OFof q1 (va_eqt hco) hA, vk_OFof q1 ht hA, hT, hz1, hz2⟩
theorem so_start {s : State} {b : Nat} {A : Nat → Prop} (hts : ∀ w ∈ lw_tbl, w.before #[Value.ref b] s = true) (hgv : (Jvm.Cond.and given_1 narrow_1).before #[Value.ref b] s = true) (hA : ∀ a : Nat, a < s.heap.size → ¬ A a) : SO A s s.heap := by
  have hz1 : va_Z "java/lang/String" "COMPACT_STRINGS" "Z" (.int 1) A s s.heap := va_Zof (hts _ (List.mem_append_right _ n_t473)) (hts _ (List.mem_append_right _ n_t10)) (va_eqi (cd_l (cd_r (cd_l (cd_l (cd_l (cd_l (cd_l (cd_l (cd_r hgv)))))))))) hA
  have hz2 : va_Zq "jdk/internal/util/Preconditions" "SIOOBE_FORMATTER" "Ljava/util/function/BiFunction;" A s s.heap := va_Zqof (hts _ (List.mem_append_right _ n_t489)) (hts _ (List.mem_append_right _ n_t12)) (cd_r (cd_r (cd_l (cd_l (cd_l (cd_l (cd_l (cd_l (cd_r hgv))))))))) hA
  unfold SO strT
  exact List.forall_mem_cons.mpr ⟨so_one (by decide +kernel) hA hz1 hz2 (hts _ (List.mem_append_right _ n_t459)) (cd_l (cd_r (cd_r (cd_r (cd_l (cd_l (cd_l (cd_l (cd_l (cd_r hgv)))))))))) (cd_r (cd_r (cd_r (cd_r (cd_l (cd_l (cd_l (cd_l (cd_l (cd_r hgv)))))))))) (cd_l (cd_l (cd_l (cd_r (cd_l (cd_l (cd_l (cd_l (cd_r hgv))))))))) (cd_r (cd_l (cd_l (cd_r (cd_l (cd_l (cd_l (cd_l (cd_r hgv))))))))) (fun j hj => by match j, hj with | 0, _ => exact (cd_l (cd_r (cd_l (cd_r (cd_l (cd_l (cd_l (cd_l (cd_r hgv))))))))) | 1, _ => exact (cd_l (cd_r (cd_r (cd_l (cd_r (cd_l (cd_l (cd_l (cd_l (cd_r hgv)))))))))) | 2, _ => exact (cd_r (cd_r (cd_r (cd_l (cd_r (cd_l (cd_l (cd_l (cd_l (cd_r hgv)))))))))) | 3, _ => exact (cd_l (cd_l (cd_r (cd_r (cd_l (cd_l (cd_l (cd_l (cd_r hgv))))))))) | j + 4, hj => exact absurd hj (by simp)), List.forall_mem_cons.mpr ⟨so_one (by decide +kernel) hA hz1 hz2 (hts _ (List.mem_append_right _ n_t528)) (cd_r (cd_l (cd_r (cd_r (cd_l (cd_l (cd_l (cd_l (cd_r hgv))))))))) (cd_l (cd_r (cd_r (cd_r (cd_l (cd_l (cd_l (cd_l (cd_r hgv))))))))) (cd_l (cd_r (cd_r (cd_r (cd_r (cd_l (cd_l (cd_l (cd_l (cd_r hgv)))))))))) (cd_r (cd_r (cd_r (cd_r (cd_r (cd_l (cd_l (cd_l (cd_l (cd_r hgv)))))))))) (fun j hj => by match j, hj with | 0, _ => exact (cd_l (cd_l (cd_l (cd_l (cd_r (cd_l (cd_l (cd_l (cd_r hgv))))))))) | 1, _ => exact (cd_r (cd_l (cd_l (cd_l (cd_r (cd_l (cd_l (cd_l (cd_r hgv))))))))) | 2, _ => exact (cd_l (cd_r (cd_l (cd_l (cd_r (cd_l (cd_l (cd_l (cd_r hgv))))))))) | 3, _ => exact (cd_l (cd_r (cd_r (cd_l (cd_l (cd_r (cd_l (cd_l (cd_l (cd_r hgv)))))))))) | j + 4, hj => exact absurd hj (by simp)), List.forall_mem_cons.mpr ⟨so_one (by decide +kernel) hA hz1 hz2 (hts _ (List.mem_append_right _ n_t534)) (cd_l (cd_l (cd_r (cd_l (cd_r (cd_l (cd_l (cd_l (cd_r hgv))))))))) (cd_r (cd_l (cd_r (cd_l (cd_r (cd_l (cd_l (cd_l (cd_r hgv))))))))) (cd_l (cd_r (cd_r (cd_l (cd_r (cd_l (cd_l (cd_l (cd_r hgv))))))))) (cd_l (cd_r (cd_r (cd_r (cd_l (cd_r (cd_l (cd_l (cd_l (cd_r hgv)))))))))) (fun j hj => by match j, hj with | 0, _ => exact (cd_r (cd_r (cd_r (cd_r (cd_l (cd_r (cd_l (cd_l (cd_l (cd_r hgv)))))))))) | 1, _ => exact (cd_l (cd_l (cd_l (cd_r (cd_r (cd_l (cd_l (cd_l (cd_r hgv))))))))) | 2, _ => exact (cd_r (cd_l (cd_l (cd_r (cd_r (cd_l (cd_l (cd_l (cd_r hgv))))))))) | 3, _ => exact (cd_l (cd_r (cd_l (cd_r (cd_r (cd_l (cd_l (cd_l (cd_r hgv))))))))) | j + 4, hj => exact absurd hj (by simp)), List.forall_mem_cons.mpr ⟨so_one (by decide +kernel) hA hz1 hz2 (hts _ (List.mem_append_right _ n_t539)) (cd_l (cd_l (cd_r (cd_r (cd_r (cd_l (cd_l (cd_l (cd_r hgv))))))))) (cd_r (cd_l (cd_r (cd_r (cd_r (cd_l (cd_l (cd_l (cd_r hgv))))))))) (cd_l (cd_r (cd_r (cd_r (cd_r (cd_l (cd_l (cd_l (cd_r hgv))))))))) (cd_l (cd_r (cd_r (cd_r (cd_r (cd_r (cd_l (cd_l (cd_l (cd_r hgv)))))))))) (fun j hj => by match j, hj with | 0, _ => exact (cd_r (cd_r (cd_r (cd_r (cd_r (cd_r (cd_l (cd_l (cd_l (cd_r hgv)))))))))) | 1, _ => exact (cd_l (cd_l (cd_l (cd_l (cd_l (cd_r (cd_l (cd_l (cd_r hgv))))))))) | 2, _ => exact (cd_r (cd_l (cd_l (cd_l (cd_l (cd_r (cd_l (cd_l (cd_r hgv))))))))) | j + 3, hj => exact absurd hj (by simp)), List.forall_mem_cons.mpr ⟨so_one (by decide +kernel) hA hz1 hz2 (hts _ (List.mem_append_right _ n_t544)) (cd_r (cd_l (cd_r (cd_l (cd_l (cd_r (cd_l (cd_l (cd_r hgv))))))))) (cd_l (cd_r (cd_r (cd_l (cd_l (cd_r (cd_l (cd_l (cd_r hgv))))))))) (cd_l (cd_r (cd_r (cd_r (cd_l (cd_l (cd_r (cd_l (cd_l (cd_r hgv)))))))))) (cd_r (cd_r (cd_r (cd_r (cd_l (cd_l (cd_r (cd_l (cd_l (cd_r hgv)))))))))) (fun j hj => by match j, hj with | 0, _ => exact (cd_l (cd_l (cd_l (cd_r (cd_l (cd_r (cd_l (cd_l (cd_r hgv))))))))) | 1, _ => exact (cd_r (cd_l (cd_l (cd_r (cd_l (cd_r (cd_l (cd_l (cd_r hgv))))))))) | 2, _ => exact (cd_l (cd_r (cd_l (cd_r (cd_l (cd_r (cd_l (cd_l (cd_r hgv))))))))) | 3, _ => exact (cd_l (cd_r (cd_r (cd_l (cd_r (cd_l (cd_r (cd_l (cd_l (cd_r hgv)))))))))) | 4, _ => exact (cd_r (cd_r (cd_r (cd_l (cd_r (cd_l (cd_r (cd_l (cd_l (cd_r hgv)))))))))) | j + 5, hj => exact absurd hj (by simp)), List.forall_mem_cons.mpr ⟨so_one (by decide +kernel) hA hz1 hz2 (hts _ (List.mem_append_right _ n_t545)) (cd_r (cd_r (cd_r (cd_r (cd_r (cd_l (cd_r (cd_l (cd_l (cd_r hgv)))))))))) (cd_l (cd_l (cd_l (cd_l (cd_r (cd_r (cd_l (cd_l (cd_r hgv))))))))) (cd_r (cd_l (cd_l (cd_l (cd_r (cd_r (cd_l (cd_l (cd_r hgv))))))))) (cd_l (cd_r (cd_l (cd_l (cd_r (cd_r (cd_l (cd_l (cd_r hgv))))))))) (fun j hj => by match j, hj with | 0, _ => exact (cd_l (cd_r (cd_r (cd_l (cd_l (cd_r (cd_r (cd_l (cd_l (cd_r hgv)))))))))) | 1, _ => exact (cd_r (cd_r (cd_r (cd_l (cd_l (cd_r (cd_r (cd_l (cd_l (cd_r hgv)))))))))) | 2, _ => exact (cd_l (cd_l (cd_r (cd_l (cd_r (cd_r (cd_l (cd_l (cd_r hgv))))))))) | 3, _ => exact (cd_r (cd_l (cd_r (cd_l (cd_r (cd_r (cd_l (cd_l (cd_r hgv))))))))) | 4, _ => exact (cd_l (cd_r (cd_r (cd_l (cd_r (cd_r (cd_l (cd_l (cd_r hgv))))))))) | j + 5, hj => exact absurd hj (by simp)), List.forall_mem_cons.mpr ⟨so_one (by decide +kernel) hA hz1 hz2 (hts _ (List.mem_append_right _ n_t546)) (cd_l (cd_r (cd_r (cd_l (cd_r (cd_r (cd_r (cd_l (cd_l (cd_r hgv)))))))))) (cd_r (cd_r (cd_r (cd_l (cd_r (cd_r (cd_r (cd_l (cd_l (cd_r hgv)))))))))) (cd_l (cd_l (cd_r (cd_r (cd_r (cd_r (cd_l (cd_l (cd_r hgv))))))))) (cd_r (cd_l (cd_r (cd_r (cd_r (cd_r (cd_l (cd_l (cd_r hgv))))))))) (fun j hj => by match j, hj with | 0, _ => exact (cd_l (cd_r (cd_r (cd_r (cd_r (cd_r (cd_l (cd_l (cd_r hgv))))))))) | 1, _ => exact (cd_l (cd_r (cd_r (cd_r (cd_r (cd_r (cd_r (cd_l (cd_l (cd_r hgv)))))))))) | 2, _ => exact (cd_r (cd_r (cd_r (cd_r (cd_r (cd_r (cd_r (cd_l (cd_l (cd_r hgv)))))))))) | 3, _ => exact (cd_l (cd_l (cd_l (cd_l (cd_l (cd_l (cd_r (cd_l (cd_r hgv))))))))) | 4, _ => exact (cd_r (cd_l (cd_l (cd_l (cd_l (cd_l (cd_r (cd_l (cd_r hgv))))))))) | j + 5, hj => exact absurd hj (by simp)), List.forall_mem_cons.mpr ⟨so_one (by decide +kernel) hA hz1 hz2 (hts _ (List.mem_append_right _ n_t548)) (cd_r (cd_r (cd_r (cd_r (cd_l (cd_l (cd_l (cd_r (cd_l (cd_r hgv)))))))))) (cd_l (cd_l (cd_l (cd_r (cd_l (cd_l (cd_r (cd_l (cd_r hgv))))))))) (cd_r (cd_l (cd_l (cd_r (cd_l (cd_l (cd_r (cd_l (cd_r hgv))))))))) (cd_l (cd_r (cd_l (cd_r (cd_l (cd_l (cd_r (cd_l (cd_r hgv))))))))) (fun j hj => by match j, hj with | 0, _ => exact (cd_l (cd_r (cd_r (cd_l (cd_r (cd_l (cd_l (cd_r (cd_l (cd_r hgv)))))))))) | 1, _ => exact (cd_r (cd_r (cd_r (cd_l (cd_r (cd_l (cd_l (cd_r (cd_l (cd_r hgv)))))))))) | 2, _ => exact (cd_l (cd_l (cd_r (cd_r (cd_l (cd_l (cd_r (cd_l (cd_r hgv))))))))) | 3, _ => exact (cd_r (cd_l (cd_r (cd_r (cd_l (cd_l (cd_r (cd_l (cd_r hgv))))))))) | 4, _ => exact (cd_l (cd_r (cd_r (cd_r (cd_l (cd_l (cd_r (cd_l (cd_r hgv))))))))) | j + 5, hj => exact absurd hj (by simp)), List.forall_mem_cons.mpr ⟨so_one (by decide +kernel) hA hz1 hz2 (hts _ (List.mem_append_right _ n_t554)) (cd_l (cd_l (cd_r (cd_l (cd_r (cd_l (cd_r (cd_l (cd_r hgv))))))))) (cd_r (cd_l (cd_r (cd_l (cd_r (cd_l (cd_r (cd_l (cd_r hgv))))))))) (cd_l (cd_r (cd_r (cd_l (cd_r (cd_l (cd_r (cd_l (cd_r hgv))))))))) (cd_l (cd_r (cd_r (cd_r (cd_l (cd_r (cd_l (cd_r (cd_l (cd_r hgv)))))))))) (fun j hj => by match j, hj with | 0, _ => exact (cd_r (cd_r (cd_r (cd_r (cd_l (cd_r (cd_l (cd_r (cd_l (cd_r hgv)))))))))) | 1, _ => exact (cd_l (cd_l (cd_l (cd_r (cd_r (cd_l (cd_r (cd_l (cd_r hgv))))))))) | 2, _ => exact (cd_r (cd_l (cd_l (cd_r (cd_r (cd_l (cd_r (cd_l (cd_r hgv))))))))) | 3, _ => exact (cd_l (cd_r (cd_l (cd_r (cd_r (cd_l (cd_r (cd_l (cd_r hgv))))))))) | 4, _ => exact (cd_l (cd_r (cd_r (cd_l (cd_r (cd_r (cd_l (cd_r (cd_l (cd_r hgv)))))))))) | j + 5, hj => exact absurd hj (by simp)), List.forall_mem_cons.mpr ⟨so_one (by decide +kernel) hA hz1 hz2 (hts _ (List.mem_append_right _ n_t1144)) (cd_l (cd_r (cd_l (cd_l (cd_l (cd_r (cd_r (cd_l (cd_r hgv))))))))) (cd_r (cd_r (cd_l (cd_l (cd_l (cd_r (cd_r (cd_l (cd_r hgv))))))))) (cd_l (cd_l (cd_r (cd_l (cd_l (cd_r (cd_r (cd_l (cd_r hgv))))))))) (cd_r (cd_l (cd_r (cd_l (cd_l (cd_r (cd_r (cd_l (cd_r hgv))))))))) (fun j hj => by match j, hj with | 0, _ => exact (cd_l (cd_r (cd_r (cd_l (cd_l (cd_r (cd_r (cd_l (cd_r hgv))))))))) | 1, _ => exact (cd_l (cd_r (cd_r (cd_r (cd_l (cd_l (cd_r (cd_r (cd_l (cd_r hgv)))))))))) | 2, _ => exact (cd_r (cd_r (cd_r (cd_r (cd_l (cd_l (cd_r (cd_r (cd_l (cd_r hgv)))))))))) | 3, _ => exact (cd_l (cd_l (cd_l (cd_r (cd_l (cd_r (cd_r (cd_l (cd_r hgv))))))))) | j + 4, hj => exact absurd hj (by simp)), List.forall_mem_cons.mpr ⟨so_one (by decide +kernel) hA hz1 hz2 (hts _ (List.mem_append_right _ n_t1163)) (cd_l (cd_l (cd_l (cd_l (cd_r (cd_r (cd_r (cd_l (cd_r hgv))))))))) (cd_r (cd_l (cd_l (cd_l (cd_r (cd_r (cd_r (cd_l (cd_r hgv))))))))) (cd_l (cd_r (cd_l (cd_l (cd_r (cd_r (cd_r (cd_l (cd_r hgv))))))))) (cd_l (cd_r (cd_r (cd_l (cd_l (cd_r (cd_r (cd_r (cd_l (cd_r hgv)))))))))) (fun j hj => by match j, hj with | 0, _ => exact (cd_r (cd_r (cd_r (cd_l (cd_l (cd_r (cd_r (cd_r (cd_l (cd_r hgv)))))))))) | 1, _ => exact (cd_l (cd_l (cd_r (cd_l (cd_r (cd_r (cd_r (cd_l (cd_r hgv))))))))) | 2, _ => exact (cd_r (cd_l (cd_r (cd_l (cd_r (cd_r (cd_r (cd_l (cd_r hgv))))))))) | 3, _ => exact (cd_l (cd_r (cd_r (cd_l (cd_r (cd_r (cd_r (cd_l (cd_r hgv))))))))) | j + 4, hj => exact absurd hj (by simp)), List.forall_mem_cons.mpr ⟨so_one (by decide +kernel) hA hz1 hz2 (hts _ (List.mem_append_right _ n_t1168)) (cd_l (cd_r (cd_r (cd_r (cd_r (cd_r (cd_r (cd_r (cd_l (cd_r hgv)))))))))) (cd_r (cd_r (cd_r (cd_r (cd_r (cd_r (cd_r (cd_r (cd_l (cd_r hgv)))))))))) (cd_l (cd_l (cd_l (cd_l (cd_l (cd_l (cd_l (cd_r (cd_r hgv))))))))) (cd_r (cd_l (cd_l (cd_l (cd_l (cd_l (cd_l (cd_r (cd_r hgv))))))))) (fun j hj => by match j, hj with | 0, _ => exact (cd_l (cd_r (cd_l (cd_l (cd_l (cd_l (cd_l (cd_r (cd_r hgv))))))))) | 1, _ => exact (cd_r (cd_r (cd_l (cd_l (cd_l (cd_l (cd_l (cd_r (cd_r hgv))))))))) | 2, _ => exact (cd_l (cd_l (cd_r (cd_l (cd_l (cd_l (cd_l (cd_r (cd_r hgv))))))))) | j + 3, hj => exact absurd hj (by simp)), List.forall_mem_cons.mpr ⟨so_one (by decide +kernel) hA hz1 hz2 (hts _ (List.mem_append_right _ n_t1169)) (cd_l (cd_r (cd_r (cd_r (cd_l (cd_l (cd_l (cd_r (cd_r hgv))))))))) (cd_l (cd_r (cd_r (cd_r (cd_r (cd_l (cd_l (cd_l (cd_r (cd_r hgv)))))))))) (cd_r (cd_r (cd_r (cd_r (cd_r (cd_l (cd_l (cd_l (cd_r (cd_r hgv)))))))))) (cd_l (cd_l (cd_l (cd_l (cd_r (cd_l (cd_l (cd_r (cd_r hgv))))))))) (fun j hj => by match j, hj with | 0, _ => exact (cd_r (cd_l (cd_l (cd_l (cd_r (cd_l (cd_l (cd_r (cd_r hgv))))))))) | 1, _ => exact (cd_l (cd_r (cd_l (cd_l (cd_r (cd_l (cd_l (cd_r (cd_r hgv))))))))) | 2, _ => exact (cd_l (cd_r (cd_r (cd_l (cd_l (cd_r (cd_l (cd_l (cd_r (cd_r hgv)))))))))) | 3, _ => exact (cd_r (cd_r (cd_r (cd_l (cd_l (cd_r (cd_l (cd_l (cd_r (cd_r hgv)))))))))) | 4, _ => exact (cd_l (cd_l (cd_r (cd_l (cd_r (cd_l (cd_l (cd_r (cd_r hgv))))))))) | j + 5, hj => exact absurd hj (by simp)), List.forall_mem_cons.mpr ⟨so_one (by decide +kernel) hA hz1 hz2 (hts _ (List.mem_append_right _ n_t1170)) (cd_l (cd_r (cd_r (cd_r (cd_r (cd_r (cd_l (cd_l (cd_r (cd_r hgv)))))))))) (cd_r (cd_r (cd_r (cd_r (cd_r (cd_r (cd_l (cd_l (cd_r (cd_r hgv)))))))))) (cd_l (cd_l (cd_l (cd_l (cd_l (cd_r (cd_l (cd_r (cd_r hgv))))))))) (cd_r (cd_l (cd_l (cd_l (cd_l (cd_r (cd_l (cd_r (cd_r hgv))))))))) (fun j hj => by match j, hj with | 0, _ => exact (cd_l (cd_r (cd_l (cd_l (cd_l (cd_r (cd_l (cd_r (cd_r hgv))))))))) | 1, _ => exact (cd_r (cd_r (cd_l (cd_l (cd_l (cd_r (cd_l (cd_r (cd_r hgv))))))))) | 2, _ => exact (cd_l (cd_l (cd_r (cd_l (cd_l (cd_r (cd_l (cd_r (cd_r hgv))))))))) | 3, _ => exact (cd_r (cd_l (cd_r (cd_l (cd_l (cd_r (cd_l (cd_r (cd_r hgv))))))))) | 4, _ => exact (cd_l (cd_r (cd_r (cd_l (cd_l (cd_r (cd_l (cd_r (cd_r hgv))))))))) | j + 5, hj => exact absurd hj (by simp)), List.forall_mem_cons.mpr ⟨so_one (by decide +kernel) hA hz1 hz2 (hts _ (List.mem_append_right _ n_t1171)) (cd_r (cd_l (cd_l (cd_l (cd_r (cd_r (cd_l (cd_r (cd_r hgv))))))))) (cd_l (cd_r (cd_l (cd_l (cd_r (cd_r (cd_l (cd_r (cd_r hgv))))))))) (cd_l (cd_r (cd_r (cd_l (cd_l (cd_r (cd_r (cd_l (cd_r (cd_r hgv)))))))))) (cd_r (cd_r (cd_r (cd_l (cd_l (cd_r (cd_r (cd_l (cd_r (cd_r hgv)))))))))) (fun j hj => by match j, hj with | 0, _ => exact (cd_l (cd_l (cd_r (cd_l (cd_r (cd_r (cd_l (cd_r (cd_r hgv))))))))) | 1, _ => exact (cd_r (cd_l (cd_r (cd_l (cd_r (cd_r (cd_l (cd_r (cd_r hgv))))))))) | 2, _ => exact (cd_l (cd_r (cd_r (cd_l (cd_r (cd_r (cd_l (cd_r (cd_r hgv))))))))) | 3, _ => exact (cd_l (cd_r (cd_r (cd_r (cd_l (cd_r (cd_r (cd_l (cd_r (cd_r hgv)))))))))) | 4, _ => exact (cd_r (cd_r (cd_r (cd_r (cd_l (cd_r (cd_r (cd_l (cd_r (cd_r hgv)))))))))) | j + 5, hj => exact absurd hj (by simp)), List.forall_mem_cons.mpr ⟨so_one (by decide +kernel) hA hz1 hz2 (hts _ (List.mem_append_right _ n_t1172)) (cd_l (cd_l (cd_r (cd_l (cd_l (cd_l (cd_r (cd_r (cd_r hgv))))))))) (cd_r (cd_l (cd_r (cd_l (cd_l (cd_l (cd_r (cd_r (cd_r hgv))))))))) (cd_l (cd_r (cd_r (cd_l (cd_l (cd_l (cd_r (cd_r (cd_r hgv))))))))) (cd_l (cd_r (cd_r (cd_r (cd_l (cd_l (cd_l (cd_r (cd_r (cd_r hgv)))))))))) (fun j hj => by match j, hj with | 0, _ => exact (cd_r (cd_r (cd_r (cd_r (cd_l (cd_l (cd_l (cd_r (cd_r (cd_r hgv)))))))))) | 1, _ => exact (cd_l (cd_l (cd_l (cd_r (cd_l (cd_l (cd_r (cd_r (cd_r hgv))))))))) | 2, _ => exact (cd_r (cd_l (cd_l (cd_r (cd_l (cd_l (cd_r (cd_r (cd_r hgv))))))))) | 3, _ => exact (cd_l (cd_r (cd_l (cd_r (cd_l (cd_l (cd_r (cd_r (cd_r hgv))))))))) | j + 4, hj => exact absurd hj (by simp)), List.forall_mem_cons.mpr ⟨so_one (by decide +kernel) hA hz1 hz2 (hts _ (List.mem_append_right _ n_t1173)) (cd_l (cd_r (cd_r (cd_r (cd_l (cd_r (cd_l (cd_r (cd_r (cd_r hgv)))))))))) (cd_r (cd_r (cd_r (cd_r (cd_l (cd_r (cd_l (cd_r (cd_r (cd_r hgv)))))))))) (cd_l (cd_l (cd_l (cd_r (cd_r (cd_l (cd_r (cd_r (cd_r hgv))))))))) (cd_r (cd_l (cd_l (cd_r (cd_r (cd_l (cd_r (cd_r (cd_r hgv))))))))) (fun j hj => by match j, hj with | 0, _ => exact (cd_l (cd_r (cd_l (cd_r (cd_r (cd_l (cd_r (cd_r (cd_r hgv))))))))) | 1, _ => exact (cd_l (cd_r (cd_r (cd_l (cd_r (cd_r (cd_l (cd_r (cd_r (cd_r hgv)))))))))) | 2, _ => exact (cd_r (cd_r (cd_r (cd_l (cd_r (cd_r (cd_l (cd_r (cd_r (cd_r hgv)))))))))) | 3, _ => exact (cd_l (cd_l (cd_r (cd_r (cd_r (cd_l (cd_r (cd_r (cd_r hgv))))))))) | 4, _ => exact (cd_r (cd_l (cd_r (cd_r (cd_r (cd_l (cd_r (cd_r (cd_r hgv))))))))) | j + 5, hj => exact absurd hj (by simp)), List.forall_mem_cons.mpr ⟨so_one (by decide +kernel) hA hz1 hz2 (hts _ (List.mem_append_right _ n_t1174)) (cd_r (cd_r (cd_r (cd_l (cd_r (cd_l (cd_r (cd_r (cd_r (cd_r hgv)))))))))) (cd_l (cd_l (cd_r (cd_r (cd_l (cd_r (cd_r (cd_r (cd_r hgv))))))))) (cd_r (cd_l (cd_r (cd_r (cd_l (cd_r (cd_r (cd_r (cd_r hgv))))))))) (cd_l (cd_r (cd_r (cd_r (cd_l (cd_r (cd_r (cd_r (cd_r hgv))))))))) (fun j hj => by match j, hj with | 0, _ => exact (cd_l (cd_r (cd_r (cd_r (cd_r (cd_l (cd_r (cd_r (cd_r (cd_r hgv)))))))))) | 1, _ => exact (cd_r (cd_r (cd_r (cd_r (cd_r (cd_l (cd_r (cd_r (cd_r (cd_r hgv)))))))))) | 2, _ => exact (cd_l (cd_l (cd_l (cd_l (cd_r (cd_r (cd_r (cd_r (cd_r hgv))))))))) | 3, _ => exact (cd_r (cd_l (cd_l (cd_l (cd_r (cd_r (cd_r (cd_r (cd_r hgv))))))))) | 4, _ => exact (cd_l (cd_r (cd_l (cd_l (cd_r (cd_r (cd_r (cd_r (cd_r hgv))))))))) | j + 5, hj => exact absurd hj (by simp)), fun _ h => absurd h List.not_mem_nil⟩⟩⟩⟩⟩⟩⟩⟩⟩⟩⟩⟩⟩⟩⟩⟩⟩⟩
end
