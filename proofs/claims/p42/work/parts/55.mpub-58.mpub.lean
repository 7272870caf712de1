section
set_option maxHeartbeats 4000000 in
set_option maxRecDepth 100000 in
theorem p_X6_left (l : Launch) (G : va_G) (cy : Nat → ClassId) (sz : Nat) (qm : Nat) (qmh : Nat) (qmo : Nat) (qmz : Nat) (qmR : Nat) (qmv : Nat) (qmk : Nat) (qma : Nat) (qmt : Nat) (kZ : Nat) (qmr : Nat) (tA : TA) (qmB : Nat) (qmO : Nat) (qmK : Nat) (iEn : Int32) (iTk : Int32) (uP : UM) (uU : UM) (kAt : Nat) (iTo : Int32) (iFr : Int32) (JFi : Int64) (iFa : Int32) (qm3 : Nat) (iSt : Int32) (iLv : Int32) (iWs : Int32) (vLa : Value) (qmu : Nat) (qmy : Nat) (qmb : Nat) (qms : Nat) (iOm : Int32) (fMr : Nat → Int32) (iA : Int32) (iB : Int32) (iC : Int32)   : MW l yX6_left cX6_left 4 (some .int) 16 0 0 G cy [zzO qm 5 (.ref qmh :: .ref qmo :: .ref qmz :: .ref qmR :: .ref qmv :: .ref qmk :: .ref qma :: .ref qmt :: .int (nI kZ) :: .ref qmr :: .int (nI (T_nb tA)) :: .ref qmB :: .int (nI (T_np tA)) :: .ref qmO :: .ref qmK :: .int iEn :: .int iTk :: .int (T_sd tA) :: ov uP :: ov uU :: .int (nI kAt) :: .int iTo :: .int iFr :: .long JFi :: .int iFa :: .ref qm3 :: .int iSt :: .int iLv :: .int iWs :: vLa :: .ref qmu :: .ref qmy :: .ref qmb :: .ref qms :: .int iOm :: []), zzI cy qmr 8 fMr] sz [.ref qm, .int iA, .int iB, .int iC] (Wi G (fun r u => ∃ (fNr : Nat → Int32), u = [zzO qm 5 (.ref qmh :: .ref qmo :: .ref qmz :: .ref qmR :: .ref qmv :: .ref qmk :: .ref qma :: .ref qmt :: .int (nI kZ) :: .ref qmr :: .int (nI (T_nb tA)) :: .ref qmB :: .int (nI (T_np tA)) :: .ref qmO :: .ref qmK :: .int iEn :: .int iTk :: .int (T_sd tA) :: ov uP :: ov uU :: .int (nI kAt) :: .int iTo :: .int iFr :: .long JFi :: .int iFa :: .ref qm3 :: .int iSt :: .int iLv :: .int iWs :: vLa :: .ref qmu :: .ref qmy :: .ref qmb :: .ref qms :: .int iOm :: []), zzI cy qmr 8 fNr] ∧ ((r = (sp_left iA iB iC))))) := by
  refine enW RX6 (by decide +kernel) rfl (Nat.le_of_ble_eq_true rfl) (fun p e s m below meth c ls A hx hb hml hown hts hr hlocks hP hN hl hin hD hA hS => ?_)
  have hin : meth.name = _ := hin
  have hK := hN.1
  replace hl : lv_has ls 4 [(0, .ref qm), (1, .int iA), (2, .int iB), (3, .int iC)] := hl
  refine lv_iload_n hx hb (g_27 bX6_left rfl) rfl (lv_at hl 1 rfl) ?_
  refine lv_i2l (v := iA.toInt64) hx hb (g_133 bX6_left rfl) rfl ?_
  refine lv_lconst (v := 0) hx hb (g_9 bX6_left rfl) (by decide +kernel) ?_
  refine lv_ldc2 hx hb hown (hts _ m_t1199) (g_20 (v := 239) bX6_left rfl) ?_
  refine kRi (rS (As := [.long iA.toInt64, .long 0, .long 1000]) (rest := []) ⟨hx, hb, hml, hown, hts⟩ (c_X6_in l G cy iA.toInt64 0 1000) L_X6_74 (preRS hN hP [] rfl) rfl ⟨Nat.le_of_ble_eq_true rfl, Nat.le_of_ble_eq_true rfl⟩ hl.1 (Nat.le_of_ble_eq_true rfl) (g_184 (v := 74) bX6_left rfl) ⟨Nat.le_of_ble_eq_true rfl, Nat.le_of_ble_eq_true rfl⟩) (fun r_1 h_2 => ?_)
  rcases h_2 with ⟨rfl, h_3⟩ | ⟨rfl, h_3⟩
  · refine lv_if_eq (tgt := 45) hx hb dX6_left_9 (by decide +kernel) (fun h9 => absurd h9 (by decide +kernel)) (fun _ => ?_)
    refine lv_iload_n hx hb (g_28 bX6_left rfl) rfl (lv_at hl 2 rfl) ?_
    refine lv_i2l (v := iB.toInt64) hx hb (g_133 bX6_left rfl) rfl ?_
    refine lv_lconst (v := 0) hx hb (g_9 bX6_left rfl) (by decide +kernel) ?_
    refine lv_ldc2 hx hb hown (hts _ m_t1103) (g_20 (v := 132) bX6_left rfl) ?_
    refine kRi (rS (As := [.long iB.toInt64, .long 0, .long 10]) (rest := []) ⟨hx, hb, hml, hown, hts⟩ (c_X6_in l G cy iB.toInt64 0 10) L_X6_74 (preRS hN hP [] rfl) rfl ⟨Nat.le_of_ble_eq_true rfl, Nat.le_of_ble_eq_true rfl⟩ hl.1 (Nat.le_of_ble_eq_true rfl) (g_184 (v := 74) bX6_left rfl) ⟨Nat.le_of_ble_eq_true rfl, Nat.le_of_ble_eq_true rfl⟩) (fun r_5 h_6 => ?_)
    rcases h_6 with ⟨rfl, h_7⟩ | ⟨rfl, h_7⟩
    · refine lv_if_eq (tgt := 45) hx hb dX6_left_21 (by decide +kernel) (fun h9 => absurd h9 (by decide +kernel)) (fun _ => ?_)
      refine lv_iload_n hx hb (g_29 bX6_left rfl) rfl (lv_at hl 3 rfl) ?_
      refine lv_i2l (v := iC.toInt64) hx hb (g_133 bX6_left rfl) rfl ?_
      refine lv_lconst (v := 0) hx hb (g_9 bX6_left rfl) (by decide +kernel) ?_
      refine lv_ldc2 hx hb hown (hts _ m_t998) (g_20 (v := 104) bX6_left rfl) ?_
      refine kRi (rS (As := [.long iC.toInt64, .long 0, .long 99]) (rest := []) ⟨hx, hb, hml, hown, hts⟩ (c_X6_in l G cy iC.toInt64 0 99) L_X6_74 (preRS hN hP [] rfl) rfl ⟨Nat.le_of_ble_eq_true rfl, Nat.le_of_ble_eq_true rfl⟩ hl.1 (Nat.le_of_ble_eq_true rfl) (g_184 (v := 74) bX6_left rfl) ⟨Nat.le_of_ble_eq_true rfl, Nat.le_of_ble_eq_true rfl⟩) (fun r_9 h_10 => ?_)
      rcases h_10 with ⟨rfl, h_11⟩ | ⟨rfl, h_11⟩
      · obtain ⟨k_12, hk_13, hk_14, rfl⟩ := iv_nI 0 99 (by decide +kernel) (by decide +kernel) h_11
        refine lv_if_eq (tgt := 45) hx hb dX6_left_33 (by decide +kernel) (fun h9 => absurd h9 (by decide +kernel)) (fun _ => ?_)
        refine lv_iload_n hx hb (g_27 bX6_left rfl) rfl (lv_at hl 1 rfl) ?_
        refine lv_iload_n hx hb (g_28 bX6_left rfl) rfl (lv_at hl 2 rfl) ?_
        refine lv_iload_n hx hb (g_29 bX6_left rfl) rfl (lv_at hl 3 rfl) ?_
        refine kRi (rS (As := [.int iA, .int iB, .int (nI k_12)]) (rest := []) ⟨hx, hb, hml, hown, hts⟩ (c_X6_leftOf l G cy iA iB k_12 (by first | omega | (simp only [nb_sr, np_sr, nb_wr, np_wr, nb_rd, np_rd, nb_ch, np_ch, nb_zr, np_zr, nb_za, np_za, nb_ey, np_ey, nb_hf, np_hf, nb_dd, np_dd, nb_so, np_so, nb_skn, np_skn, nb_swh, np_swh, nb_sgn, np_sgn, nb_ssd, np_ssd, nb_sgo, np_sgo, nb_sag, np_sag]; omega))) L_X6_332 (preRS hN hP [] rfl) rfl ⟨Nat.le_of_ble_eq_true rfl, Nat.le_of_ble_eq_true rfl⟩ hl.1 (Nat.le_of_ble_eq_true rfl) (g_184 (v := 332) bX6_left rfl) ⟨Nat.le_of_ble_eq_true rfl, Nat.le_of_ble_eq_true rfl⟩) (fun r_16 h_17 => ?_)
        subst h_17
        refine lv_goto (tgt := 51) hx hb dX6_left_42 (by decide +kernel) ?_
        exact endW (u := [zzO qm 5 (.ref qmh :: .ref qmo :: .ref qmz :: .ref qmR :: .ref qmv :: .ref qmk :: .ref qma :: .ref qmt :: .int (nI kZ) :: .ref qmr :: .int (nI (T_nb tA)) :: .ref qmB :: .int (nI (T_np tA)) :: .ref qmO :: .ref qmK :: .int iEn :: .int iTk :: .int (T_sd tA) :: ov uP :: ov uU :: .int (nI kAt) :: .int iTo :: .int iFr :: .long JFi :: .int iFa :: .ref qm3 :: .int iSt :: .int iLv :: .int iWs :: vLa :: .ref qmu :: .ref qmy :: .ref qmb :: .ref qms :: .int iOm :: []), zzI cy qmr 8 fMr]) hx hb hr hlocks rfl (hP.sub [0, 1] rfl) (hD.sub [0, 1] (by decide +kernel) rfl) hS ⟨fMr, rfl, (by rw [sp_left, if_pos ⟨h_3, h_7, h_11⟩, nI_clamp (by omega)])⟩ (g_172 bX6_left rfl)
      · refine lv_if_eq (tgt := 45) hx hb dX6_left_33 (by decide +kernel) (fun _ => ?_) (fun h9 => absurd (by decide +kernel) h9)
        refine lv_aload_n hx hb (g_42 bX6_left rfl) rfl (lv_at hl 0 rfl) ?_
        refine lv_bipush (v := (-2)) hx hb dX6_left_46 (by decide +kernel) ?_
        refine cVi (As := [.int (-2)]) (rest := []) (b := qm) (q := (RX6, TX6, 35)) ⟨hx, hb, hml, hown, hts⟩ (c_X6_refuse2 l G cy (s.heap).size qm (.ref qmh) (.ref qmo) (.ref qmz) (.ref qmR) (.ref qmv) (.ref qmk) (.ref qma) (.ref qmt) (.int (nI kZ)) qmr tA qmB qmO qmK iEn iTk (ov uP) (ov uU) (.int (nI kAt)) (.int iTo) (.int iFr) (.long JFi) (.int iFa) (.ref qm3) (.int iSt) iLv iWs vLa (.ref qmu) (.ref qmy) (.ref qmb) (.ref qms) (.int iOm) fMr) L_X6_91 hN hP hD hS hA [0, 1] [false, false] rfl (by decide +kernel) rfl 0 5 rfl rfl rfl ⟨Nat.le_of_ble_eq_true rfl, Nat.le_of_ble_eq_true rfl⟩ hl.1 (Nat.le_of_ble_eq_true rfl) (g_182 (v := 91) bX6_left rfl) ⟨Nat.le_of_ble_eq_true rfl, Nat.le_of_ble_eq_true rfl⟩ (fun r_19 u_21 H locs h_20 => ?_)
        clear hP hD hS
        intro hP hD hS
        obtain ⟨fX_22, hu9, h_20⟩ := h_20
        have hPD := pd_eq [_, zzI cy qmr 8 fX_22] hP hD hu9 rfl
        clear hP hD hu9
        obtain ⟨hP, hD⟩ := hPD
        subst h_20
        exact endW (u := [zzO qm 5 (.ref qmh :: .ref qmo :: .ref qmz :: .ref qmR :: .ref qmv :: .ref qmk :: .ref qma :: .ref qmt :: .int (nI kZ) :: .ref qmr :: .int (nI (T_nb tA)) :: .ref qmB :: .int (nI (T_np tA)) :: .ref qmO :: .ref qmK :: .int iEn :: .int iTk :: .int (T_sd tA) :: ov uP :: ov uU :: .int (nI kAt) :: .int iTo :: .int iFr :: .long JFi :: .int iFa :: .ref qm3 :: .int iSt :: .int iLv :: .int iWs :: vLa :: .ref qmu :: .ref qmy :: .ref qmb :: .ref qms :: .int iOm :: []), zzI cy qmr 8 fX_22]) hx hb hr hlocks rfl (hP.sub [0, 1] rfl) (hD.sub [0, 1] (by decide +kernel) rfl) hS ⟨fX_22, rfl, (by rw [sp_left, if_neg (fun q => h_11 q.2.2)])⟩ (g_172 bX6_left rfl)
    · refine lv_if_eq (tgt := 45) hx hb dX6_left_21 (by decide +kernel) (fun _ => ?_) (fun h9 => absurd (by decide +kernel) h9)
      refine lv_aload_n hx hb (g_42 bX6_left rfl) rfl (lv_at hl 0 rfl) ?_
      refine lv_bipush (v := (-2)) hx hb dX6_left_46 (by decide +kernel) ?_
      refine cVi (As := [.int (-2)]) (rest := []) (b := qm) (q := (RX6, TX6, 35)) ⟨hx, hb, hml, hown, hts⟩ (c_X6_refuse2 l G cy (s.heap).size qm (.ref qmh) (.ref qmo) (.ref qmz) (.ref qmR) (.ref qmv) (.ref qmk) (.ref qma) (.ref qmt) (.int (nI kZ)) qmr tA qmB qmO qmK iEn iTk (ov uP) (ov uU) (.int (nI kAt)) (.int iTo) (.int iFr) (.long JFi) (.int iFa) (.ref qm3) (.int iSt) iLv iWs vLa (.ref qmu) (.ref qmy) (.ref qmb) (.ref qms) (.int iOm) fMr) L_X6_91 hN hP hD hS hA [0, 1] [false, false] rfl (by decide +kernel) rfl 0 5 rfl rfl rfl ⟨Nat.le_of_ble_eq_true rfl, Nat.le_of_ble_eq_true rfl⟩ hl.1 (Nat.le_of_ble_eq_true rfl) (g_182 (v := 91) bX6_left rfl) ⟨Nat.le_of_ble_eq_true rfl, Nat.le_of_ble_eq_true rfl⟩ (fun r_24 u_26 H locs h_25 => ?_)
      clear hP hD hS
      intro hP hD hS
      obtain ⟨fX_27, hu9, h_25⟩ := h_25
      have hPD := pd_eq [_, zzI cy qmr 8 fX_27] hP hD hu9 rfl
      clear hP hD hu9
      obtain ⟨hP, hD⟩ := hPD
      subst h_25
      exact endW (u := [zzO qm 5 (.ref qmh :: .ref qmo :: .ref qmz :: .ref qmR :: .ref qmv :: .ref qmk :: .ref qma :: .ref qmt :: .int (nI kZ) :: .ref qmr :: .int (nI (T_nb tA)) :: .ref qmB :: .int (nI (T_np tA)) :: .ref qmO :: .ref qmK :: .int iEn :: .int iTk :: .int (T_sd tA) :: ov uP :: ov uU :: .int (nI kAt) :: .int iTo :: .int iFr :: .long JFi :: .int iFa :: .ref qm3 :: .int iSt :: .int iLv :: .int iWs :: vLa :: .ref qmu :: .ref qmy :: .ref qmb :: .ref qms :: .int iOm :: []), zzI cy qmr 8 fX_27]) hx hb hr hlocks rfl (hP.sub [0, 1] rfl) (hD.sub [0, 1] (by decide +kernel) rfl) hS ⟨fX_27, rfl, (by rw [sp_left, if_neg (fun q => h_7 q.2.1)])⟩ (g_172 bX6_left rfl)
  · refine lv_if_eq (tgt := 45) hx hb dX6_left_9 (by decide +kernel) (fun _ => ?_) (fun h9 => absurd (by decide +kernel) h9)
    refine lv_aload_n hx hb (g_42 bX6_left rfl) rfl (lv_at hl 0 rfl) ?_
    refine lv_bipush (v := (-2)) hx hb dX6_left_46 (by decide +kernel) ?_
    refine cVi (As := [.int (-2)]) (rest := []) (b := qm) (q := (RX6, TX6, 35)) ⟨hx, hb, hml, hown, hts⟩ (c_X6_refuse2 l G cy (s.heap).size qm (.ref qmh) (.ref qmo) (.ref qmz) (.ref qmR) (.ref qmv) (.ref qmk) (.ref qma) (.ref qmt) (.int (nI kZ)) qmr tA qmB qmO qmK iEn iTk (ov uP) (ov uU) (.int (nI kAt)) (.int iTo) (.int iFr) (.long JFi) (.int iFa) (.ref qm3) (.int iSt) iLv iWs vLa (.ref qmu) (.ref qmy) (.ref qmb) (.ref qms) (.int iOm) fMr) L_X6_91 hN hP hD hS hA [0, 1] [false, false] rfl (by decide +kernel) rfl 0 5 rfl rfl rfl ⟨Nat.le_of_ble_eq_true rfl, Nat.le_of_ble_eq_true rfl⟩ hl.1 (Nat.le_of_ble_eq_true rfl) (g_182 (v := 91) bX6_left rfl) ⟨Nat.le_of_ble_eq_true rfl, Nat.le_of_ble_eq_true rfl⟩ (fun r_29 u_31 H locs h_30 => ?_)
    clear hP hD hS
    intro hP hD hS
    obtain ⟨fX_32, hu9, h_30⟩ := h_30
    have hPD := pd_eq [_, zzI cy qmr 8 fX_32] hP hD hu9 rfl
    clear hP hD hu9
    obtain ⟨hP, hD⟩ := hPD
    subst h_30
    exact endW (u := [zzO qm 5 (.ref qmh :: .ref qmo :: .ref qmz :: .ref qmR :: .ref qmv :: .ref qmk :: .ref qma :: .ref qmt :: .int (nI kZ) :: .ref qmr :: .int (nI (T_nb tA)) :: .ref qmB :: .int (nI (T_np tA)) :: .ref qmO :: .ref qmK :: .int iEn :: .int iTk :: .int (T_sd tA) :: ov uP :: ov uU :: .int (nI kAt) :: .int iTo :: .int iFr :: .long JFi :: .int iFa :: .ref qm3 :: .int iSt :: .int iLv :: .int iWs :: vLa :: .ref qmu :: .ref qmy :: .ref qmb :: .ref qms :: .int iOm :: []), zzI cy qmr 8 fX_32]) hx hb hr hlocks rfl (hP.sub [0, 1] rfl) (hD.sub [0, 1] (by decide +kernel) rfl) hS ⟨fX_32, rfl, (by rw [sp_left, if_neg (fun q => h_3 q.1)])⟩ (g_172 bX6_left rfl)
set_option maxHeartbeats 4000000 in
set_option maxRecDepth 100000 in
theorem p_X6_longest (l : Launch) (G : va_G) (cy : Nat → ClassId) (sz : Nat) (qm : Nat) (qmh : Nat) (qmo : Nat) (qmz : Nat) (qmR : Nat) (qmv : Nat) (qmk : Nat) (qma : Nat) (qmt : Nat) (kZ : Nat) (qmr : Nat) (tA : TA) (qmB : Nat) (qmO : Nat) (qmK : Nat) (iEn : Int32) (iTk : Int32) (uP : UM) (uU : UM) (kAt : Nat) (iTo : Int32) (iFr : Int32) (JFi : Int64) (iFa : Int32) (qm3 : Nat) (iSt : Int32) (iLv : Int32) (iWs : Int32) (vLa : Value) (qmu : Nat) (qmy : Nat) (qmb : Nat) (qms : Nat) (iOm : Int32) (fMr : Nat → Int32) (iA : Int32) (iB : Int32) (iC : Int32)   : MW l yX6_longest cX6_longest 5 (some .int) 16 0 0 G cy [zzO qm 5 (.ref qmh :: .ref qmo :: .ref qmz :: .ref qmR :: .ref qmv :: .ref qmk :: .ref qma :: .ref qmt :: .int (nI kZ) :: .ref qmr :: .int (nI (T_nb tA)) :: .ref qmB :: .int (nI (T_np tA)) :: .ref qmO :: .ref qmK :: .int iEn :: .int iTk :: .int (T_sd tA) :: ov uP :: ov uU :: .int (nI kAt) :: .int iTo :: .int iFr :: .long JFi :: .int iFa :: .ref qm3 :: .int iSt :: .int iLv :: .int iWs :: vLa :: .ref qmu :: .ref qmy :: .ref qmb :: .ref qms :: .int iOm :: []), zzI cy qmr 8 fMr] sz [.ref qm, .int iA, .int iB, .int iC] (Wi G (fun r u => ∃ (fNr : Nat → Int32), u = [zzO qm 5 (.ref qmh :: .ref qmo :: .ref qmz :: .ref qmR :: .ref qmv :: .ref qmk :: .ref qma :: .ref qmt :: .int (nI kZ) :: .ref qmr :: .int (nI (T_nb tA)) :: .ref qmB :: .int (nI (T_np tA)) :: .ref qmO :: .ref qmK :: .int iEn :: .int iTk :: .int (T_sd tA) :: ov uP :: ov uU :: .int (nI kAt) :: .int iTo :: .int iFr :: .long JFi :: .int iFa :: .ref qm3 :: .int iSt :: .int iLv :: .int iWs :: vLa :: .ref qmu :: .ref qmy :: .ref qmb :: .ref qms :: .int iOm :: []), zzI cy qmr 8 fNr] ∧ ((r = (sp_longest iA iB iC))))) := by
  refine enW RX6 (by decide +kernel) rfl (Nat.le_of_ble_eq_true rfl) (fun p e s m below meth c ls A hx hb hml hown hts hr hlocks hP hN hl hin hD hA hS => ?_)
  have hin : meth.name = _ := hin
  have hK := hN.1
  replace hl : lv_has ls 5 [(0, .ref qm), (1, .int iA), (2, .int iB), (3, .int iC)] := hl
  refine lv_iload_n hx hb (g_27 bX6_longest rfl) rfl (lv_at hl 1 rfl) ?_
  refine lv_i2l (v := iA.toInt64) hx hb (g_133 bX6_longest rfl) rfl ?_
  refine lv_lconst (v := 0) hx hb (g_9 bX6_longest rfl) (by decide +kernel) ?_
  refine lv_ldc2 hx hb hown (hts _ m_t1199) (g_20 (v := 239) bX6_longest rfl) ?_
  refine kRi (rS (As := [.long iA.toInt64, .long 0, .long 1000]) (rest := []) ⟨hx, hb, hml, hown, hts⟩ (c_X6_in l G cy iA.toInt64 0 1000) L_X6_74 (preRS hN hP [] rfl) rfl ⟨Nat.le_of_ble_eq_true rfl, Nat.le_of_ble_eq_true rfl⟩ hl.1 (Nat.le_of_ble_eq_true rfl) (g_184 (v := 74) bX6_longest rfl) ⟨Nat.le_of_ble_eq_true rfl, Nat.le_of_ble_eq_true rfl⟩) (fun r_1 h_2 => ?_)
  rcases h_2 with ⟨rfl, h_3⟩ | ⟨rfl, h_3⟩
  · refine lv_if_eq (tgt := 36) hx hb dX6_longest_9 (by decide +kernel) (fun h9 => absurd h9 (by decide +kernel)) (fun _ => ?_)
    refine lv_iload_n hx hb (g_28 bX6_longest rfl) rfl (lv_at hl 2 rfl) ?_
    refine lv_i2l (v := iB.toInt64) hx hb (g_133 bX6_longest rfl) rfl ?_
    refine lv_lconst (v := 0) hx hb (g_9 bX6_longest rfl) (by decide +kernel) ?_
    refine lv_ldc2 hx hb hown (hts _ m_t1103) (g_20 (v := 132) bX6_longest rfl) ?_
    refine kRi (rS (As := [.long iB.toInt64, .long 0, .long 10]) (rest := []) ⟨hx, hb, hml, hown, hts⟩ (c_X6_in l G cy iB.toInt64 0 10) L_X6_74 (preRS hN hP [] rfl) rfl ⟨Nat.le_of_ble_eq_true rfl, Nat.le_of_ble_eq_true rfl⟩ hl.1 (Nat.le_of_ble_eq_true rfl) (g_184 (v := 74) bX6_longest rfl) ⟨Nat.le_of_ble_eq_true rfl, Nat.le_of_ble_eq_true rfl⟩) (fun r_5 h_6 => ?_)
    rcases h_6 with ⟨rfl, h_7⟩ | ⟨rfl, h_7⟩
    · refine lv_if_eq (tgt := 36) hx hb dX6_longest_21 (by decide +kernel) (fun h9 => absurd h9 (by decide +kernel)) (fun _ => ?_)
      refine lv_iload_n hx hb (g_29 bX6_longest rfl) rfl (lv_at hl 3 rfl) ?_
      refine lv_i2l (v := iC.toInt64) hx hb (g_133 bX6_longest rfl) rfl ?_
      refine lv_lconst (v := 1) hx hb (g_10 bX6_longest rfl) (by decide +kernel) ?_
      refine lv_ldc2 hx hb hown (hts _ m_t1199) (g_20 (v := 239) bX6_longest rfl) ?_
      refine kRi (rS (As := [.long iC.toInt64, .long 1, .long 1000]) (rest := []) ⟨hx, hb, hml, hown, hts⟩ (c_X6_in l G cy iC.toInt64 1 1000) L_X6_74 (preRS hN hP [] rfl) rfl ⟨Nat.le_of_ble_eq_true rfl, Nat.le_of_ble_eq_true rfl⟩ hl.1 (Nat.le_of_ble_eq_true rfl) (g_184 (v := 74) bX6_longest rfl) ⟨Nat.le_of_ble_eq_true rfl, Nat.le_of_ble_eq_true rfl⟩) (fun r_9 h_10 => ?_)
      rcases h_10 with ⟨rfl, h_11⟩ | ⟨rfl, h_11⟩
      · refine lv_if_ne (tgt := 43) hx hb dX6_longest_33 (by decide +kernel) (fun _ => ?_) (fun h9 => absurd h9 (by decide +kernel))
        refine lv_iconst (v := (-1)) hx hb (g_2 bX6_longest rfl) (by decide +kernel) ?_
        refine lv_istore (lv' := [(4, .int (-1)), (0, .ref qm), (1, .int iA), (2, .int iB), (3, .int iC)]) hx hb (g_54 (v := 4) bX6_longest rfl) hl (by decide +kernel) rfl (fun ls => ?_)
        clear hl
        intro hl
        replace hl : lv_has ls 5 [(4, .int (nI 0 - 1)), (0, .ref qm), (1, .int iA), (2, .int iB), (3, .int iC)] := hl
        have lp_13 : ∀ (n_14 : Nat) (j_16 : Nat), 100 - j_16 < n_14 → lgst iB iC (100 - j_16) (nI j_16 - 1) (lft iB j_16 iA) = lgst iB iC 100 (-1) iA → j_16 ≤ 100 → ∀ (H : Heap) (locs : List Loc) (ls : Array Slot), va_P G CL [zzO qm 5 (.ref qmh :: .ref qmo :: .ref qmz :: .ref qmR :: .ref qmv :: .ref qmk :: .ref qma :: .ref qmt :: .int (nI kZ) :: .ref qmr :: .int (nI (T_nb tA)) :: .ref qmB :: .int (nI (T_np tA)) :: .ref qmO :: .ref qmK :: .int iEn :: .int iTk :: .int (T_sd tA) :: ov uP :: ov uU :: .int (nI kAt) :: .int iTo :: .int iFr :: .long JFi :: .int iFa :: .ref qm3 :: .int iSt :: .int iLv :: .int iWs :: vLa :: .ref qmu :: .ref qmy :: .ref qmb :: .ref qms :: .int iOm :: []), zzI cy qmr 8 fMr] H → va_D A [zzO qm 5 (.ref qmh :: .ref qmo :: .ref qmz :: .ref qmR :: .ref qmv :: .ref qmk :: .ref qma :: .ref qmt :: .int (nI kZ) :: .ref qmr :: .int (nI (T_nb tA)) :: .ref qmB :: .int (nI (T_np tA)) :: .ref qmO :: .ref qmK :: .int iEn :: .int iTk :: .int (T_sd tA) :: ov uP :: ov uU :: .int (nI kAt) :: .int iTo :: .int iFr :: .long JFi :: .int iFa :: .ref qm3 :: .int iSt :: .int iLv :: .int iWs :: vLa :: .ref qmu :: .ref qmy :: .ref qmb :: .ref qms :: .int iOm :: []), zzI cy qmr 8 fMr] → va_S A s.heap H locs → lv_has ls 5 [(4, .int (nI j_16 - 1)), (0, .ref qm), (1, .int iA), (2, .int iB), (3, .int iC)] → W p l e (Rm 16 0 0) s m (List.toArray (α := Value) [.ref qm, .int iA, .int iB, .int iC]) below meth c H locs 0 0 (MQ below ((Wi G (fun r u => ∃ (fNr : Nat → Int32), u = [zzO qm 5 (.ref qmh :: .ref qmo :: .ref qmz :: .ref qmR :: .ref qmv :: .ref qmk :: .ref qma :: .ref qmt :: .int (nI kZ) :: .ref qmr :: .int (nI (T_nb tA)) :: .ref qmB :: .int (nI (T_np tA)) :: .ref qmO :: .ref qmK :: .int iEn :: .int iTk :: .int (T_sd tA) :: ov uP :: ov uU :: .int (nI kAt) :: .int iTo :: .int iFr :: .long JFi :: .int iFa :: .ref qm3 :: .int iSt :: .int iLv :: .int iWs :: vLa :: .ref qmu :: .ref qmy :: .ref qmb :: .ref qms :: .int iOm :: []), zzI cy qmr 8 fNr] ∧ ((r = (sp_longest iA iB iC))))) A) (List.toArray (α := Value) [.ref qm, .int iA, .int iB, .int iC]) s 0 0 A) (F0 m 46 ls []) := by
          intro n_14
          induction n_14 with
          | zero => intro j_16 hm9; exact absurd hm9 (Nat.not_lt_zero _)
          | succ n_14 ih_15 =>
            intro j_16 hm_19 hT_17 hj_18 H locs ls hP hD hS hl
            refine lv_iload hx hb (g_21 (v := 4) bX6_longest rfl) (lv_at hl 0 rfl) ?_
            refine lv_bipush (v := 99) hx hb dX6_longest_48 (by decide +kernel) ?_
            refine lv_icmp_ge (tgt := 72) hx hb dX6_longest_50 (by decide +kernel) (fun c_20 => ?_) (fun c_20 => ?_)
            · refine lv_iload hx hb (g_21 (v := 4) bX6_longest rfl) (lv_at hl 0 rfl) ?_
              exact endW (u := [zzO qm 5 (.ref qmh :: .ref qmo :: .ref qmz :: .ref qmR :: .ref qmv :: .ref qmk :: .ref qma :: .ref qmt :: .int (nI kZ) :: .ref qmr :: .int (nI (T_nb tA)) :: .ref qmB :: .int (nI (T_np tA)) :: .ref qmO :: .ref qmK :: .int iEn :: .int iTk :: .int (T_sd tA) :: ov uP :: ov uU :: .int (nI kAt) :: .int iTo :: .int iFr :: .long JFi :: .int iFa :: .ref qm3 :: .int iSt :: .int iLv :: .int iWs :: vLa :: .ref qmu :: .ref qmy :: .ref qmb :: .ref qms :: .int iOm :: []), zzI cy qmr 8 fMr]) hx hb hr hlocks rfl (hP.sub [0, 1] rfl) (hD.sub [0, 1] (by decide +kernel) rfl) hS ⟨fMr, rfl, (by rw [sp_longest, if_pos ⟨h_3, h_7, h_11⟩, ← hT_17, m1_ge rfl hj_18 c_20]; rfl)⟩ (g_172 bX6_longest rfl)
            · have hlt_21 : j_16 < 100 := m1_lt rfl hj_18 c_20
              refine lv_iload_n hx hb (g_27 bX6_longest rfl) rfl (lv_at hl 2 rfl) ?_
              refine lv_iload_n hx hb (g_28 bX6_longest rfl) rfl (lv_at hl 3 rfl) ?_
              refine lv_iload hx hb (g_21 (v := 4) bX6_longest rfl) (lv_at hl 0 rfl) ?_
              refine lv_iconst (v := 1) hx hb (g_4 bX6_longest rfl) (by decide +kernel) ?_
              refine lv_iadd hx hb (g_96 bX6_longest rfl) ?_
              refine lv_seti (v := nI j_16) (m1_nI' _) ?_
              refine kRi (rS (As := [.int iA, .int iB, .int (nI j_16)]) (rest := []) ⟨hx, hb, hml, hown, hts⟩ (c_X6_leftOf l G cy iA iB j_16 hj_18) L_X6_332 (preRS hN hP [] rfl) rfl ⟨Nat.le_of_ble_eq_true rfl, Nat.le_of_ble_eq_true rfl⟩ hl.1 (Nat.le_of_ble_eq_true rfl) (g_184 (v := 332) bX6_longest rfl) ⟨Nat.le_of_ble_eq_true rfl, Nat.le_of_ble_eq_true rfl⟩) (fun r_22 h_23 => ?_)
              subst h_23
              refine lv_iload_n hx hb (g_29 bX6_longest rfl) rfl (lv_at hl 4 rfl) ?_
              refine lv_icmp_lt (tgt := 72) hx hb dX6_longest_63 (by decide +kernel) (fun c_24 => ?_) (fun c_24 => ?_)
              · refine lv_iload hx hb (g_21 (v := 4) bX6_longest rfl) (lv_at hl 0 rfl) ?_
                exact endW (u := [zzO qm 5 (.ref qmh :: .ref qmo :: .ref qmz :: .ref qmR :: .ref qmv :: .ref qmk :: .ref qma :: .ref qmt :: .int (nI kZ) :: .ref qmr :: .int (nI (T_nb tA)) :: .ref qmB :: .int (nI (T_np tA)) :: .ref qmO :: .ref qmK :: .int iEn :: .int iTk :: .int (T_sd tA) :: ov uP :: ov uU :: .int (nI kAt) :: .int iTo :: .int iFr :: .long JFi :: .int iFa :: .ref qm3 :: .int iSt :: .int iLv :: .int iWs :: vLa :: .ref qmu :: .ref qmy :: .ref qmb :: .ref qms :: .int iOm :: []), zzI cy qmr 8 fMr]) hx hb hr hlocks rfl (hP.sub [0, 1] rfl) (hD.sub [0, 1] (by decide +kernel) rfl) hS ⟨fMr, rfl, (by rw [sp_longest, if_pos ⟨h_3, h_7, h_11⟩, ← hT_17, lg_stop0 c_24])⟩ (g_172 bX6_longest rfl)
              · refine lv_iinc (v := (nI j_16 - 1) + 1) (lv' := [(4, .int ((nI j_16 - 1) + 1)), (0, .ref qm), (1, .int iA), (2, .int iB), (3, .int iC)]) hx hb dX6_longest_66 hl (k := 0) rfl (rfl) (by decide +kernel) rfl (fun ls => ?_)
                clear hl
                intro hl
                rw [m1_nI] at hl
                refine lv_goto (tgt := 46) hx hb dX6_longest_69 (by decide +kernel) ?_
                exact ih_15 (j_16 + 1) (by omega) (by rw [← hT_17, show 100 - j_16 = 100 - (j_16 + 1) + 1 by omega, lg_go c_24, m1_nI]; rfl) (by omega) _ _ _ hP hD hS (lv_sub hl [0, 1, 2, 3, 4] rfl)
        exact lp_13 ((100 - 0) + 1) 0 (Nat.lt_succ_self _) rfl (Nat.zero_le _) _ _ ls hP hD hS (lv_sub hl [0, 1, 2, 3, 4] rfl)
      · refine lv_if_ne (tgt := 43) hx hb dX6_longest_33 (by decide +kernel) (fun h9 => absurd (by decide +kernel) h9) (fun _ => ?_)
        refine lv_aload_n hx hb (g_42 bX6_longest rfl) rfl (lv_at hl 0 rfl) ?_
        refine lv_bipush (v := (-2)) hx hb dX6_longest_37 (by decide +kernel) ?_
        refine cVi (As := [.int (-2)]) (rest := []) (b := qm) (q := (RX6, TX6, 35)) ⟨hx, hb, hml, hown, hts⟩ (c_X6_refuse2 l G cy (s.heap).size qm (.ref qmh) (.ref qmo) (.ref qmz) (.ref qmR) (.ref qmv) (.ref qmk) (.ref qma) (.ref qmt) (.int (nI kZ)) qmr tA qmB qmO qmK iEn iTk (ov uP) (ov uU) (.int (nI kAt)) (.int iTo) (.int iFr) (.long JFi) (.int iFa) (.ref qm3) (.int iSt) iLv iWs vLa (.ref qmu) (.ref qmy) (.ref qmb) (.ref qms) (.int iOm) fMr) L_X6_91 hN hP hD hS hA [0, 1] [false, false] rfl (by decide +kernel) rfl 0 5 rfl rfl rfl ⟨Nat.le_of_ble_eq_true rfl, Nat.le_of_ble_eq_true rfl⟩ hl.1 (Nat.le_of_ble_eq_true rfl) (g_182 (v := 91) bX6_longest rfl) ⟨Nat.le_of_ble_eq_true rfl, Nat.le_of_ble_eq_true rfl⟩ (fun r_26 u_28 H locs h_27 => ?_)
        clear hP hD hS
        intro hP hD hS
        obtain ⟨fX_29, hu9, h_27⟩ := h_27
        have hPD := pd_eq [_, zzI cy qmr 8 fX_29] hP hD hu9 rfl
        clear hP hD hu9
        obtain ⟨hP, hD⟩ := hPD
        subst h_27
        exact endW (u := [zzO qm 5 (.ref qmh :: .ref qmo :: .ref qmz :: .ref qmR :: .ref qmv :: .ref qmk :: .ref qma :: .ref qmt :: .int (nI kZ) :: .ref qmr :: .int (nI (T_nb tA)) :: .ref qmB :: .int (nI (T_np tA)) :: .ref qmO :: .ref qmK :: .int iEn :: .int iTk :: .int (T_sd tA) :: ov uP :: ov uU :: .int (nI kAt) :: .int iTo :: .int iFr :: .long JFi :: .int iFa :: .ref qm3 :: .int iSt :: .int iLv :: .int iWs :: vLa :: .ref qmu :: .ref qmy :: .ref qmb :: .ref qms :: .int iOm :: []), zzI cy qmr 8 fX_29]) hx hb hr hlocks rfl (hP.sub [0, 1] rfl) (hD.sub [0, 1] (by decide +kernel) rfl) hS ⟨fX_29, rfl, (by rw [sp_longest, if_neg (fun q => h_11 q.2.2)])⟩ (g_172 bX6_longest rfl)
    · refine lv_if_eq (tgt := 36) hx hb dX6_longest_21 (by decide +kernel) (fun _ => ?_) (fun h9 => absurd (by decide +kernel) h9)
      refine lv_aload_n hx hb (g_42 bX6_longest rfl) rfl (lv_at hl 0 rfl) ?_
      refine lv_bipush (v := (-2)) hx hb dX6_longest_37 (by decide +kernel) ?_
      refine cVi (As := [.int (-2)]) (rest := []) (b := qm) (q := (RX6, TX6, 35)) ⟨hx, hb, hml, hown, hts⟩ (c_X6_refuse2 l G cy (s.heap).size qm (.ref qmh) (.ref qmo) (.ref qmz) (.ref qmR) (.ref qmv) (.ref qmk) (.ref qma) (.ref qmt) (.int (nI kZ)) qmr tA qmB qmO qmK iEn iTk (ov uP) (ov uU) (.int (nI kAt)) (.int iTo) (.int iFr) (.long JFi) (.int iFa) (.ref qm3) (.int iSt) iLv iWs vLa (.ref qmu) (.ref qmy) (.ref qmb) (.ref qms) (.int iOm) fMr) L_X6_91 hN hP hD hS hA [0, 1] [false, false] rfl (by decide +kernel) rfl 0 5 rfl rfl rfl ⟨Nat.le_of_ble_eq_true rfl, Nat.le_of_ble_eq_true rfl⟩ hl.1 (Nat.le_of_ble_eq_true rfl) (g_182 (v := 91) bX6_longest rfl) ⟨Nat.le_of_ble_eq_true rfl, Nat.le_of_ble_eq_true rfl⟩ (fun r_31 u_33 H locs h_32 => ?_)
      clear hP hD hS
      intro hP hD hS
      obtain ⟨fX_34, hu9, h_32⟩ := h_32
      have hPD := pd_eq [_, zzI cy qmr 8 fX_34] hP hD hu9 rfl
      clear hP hD hu9
      obtain ⟨hP, hD⟩ := hPD
      subst h_32
      exact endW (u := [zzO qm 5 (.ref qmh :: .ref qmo :: .ref qmz :: .ref qmR :: .ref qmv :: .ref qmk :: .ref qma :: .ref qmt :: .int (nI kZ) :: .ref qmr :: .int (nI (T_nb tA)) :: .ref qmB :: .int (nI (T_np tA)) :: .ref qmO :: .ref qmK :: .int iEn :: .int iTk :: .int (T_sd tA) :: ov uP :: ov uU :: .int (nI kAt) :: .int iTo :: .int iFr :: .long JFi :: .int iFa :: .ref qm3 :: .int iSt :: .int iLv :: .int iWs :: vLa :: .ref qmu :: .ref qmy :: .ref qmb :: .ref qms :: .int iOm :: []), zzI cy qmr 8 fX_34]) hx hb hr hlocks rfl (hP.sub [0, 1] rfl) (hD.sub [0, 1] (by decide +kernel) rfl) hS ⟨fX_34, rfl, (by rw [sp_longest, if_neg (fun q => h_7 q.2.1)])⟩ (g_172 bX6_longest rfl)
  · refine lv_if_eq (tgt := 36) hx hb dX6_longest_9 (by decide +kernel) (fun _ => ?_) (fun h9 => absurd (by decide +kernel) h9)
    refine lv_aload_n hx hb (g_42 bX6_longest rfl) rfl (lv_at hl 0 rfl) ?_
    refine lv_bipush (v := (-2)) hx hb dX6_longest_37 (by decide +kernel) ?_
    refine cVi (As := [.int (-2)]) (rest := []) (b := qm) (q := (RX6, TX6, 35)) ⟨hx, hb, hml, hown, hts⟩ (c_X6_refuse2 l G cy (s.heap).size qm (.ref qmh) (.ref qmo) (.ref qmz) (.ref qmR) (.ref qmv) (.ref qmk) (.ref qma) (.ref qmt) (.int (nI kZ)) qmr tA qmB qmO qmK iEn iTk (ov uP) (ov uU) (.int (nI kAt)) (.int iTo) (.int iFr) (.long JFi) (.int iFa) (.ref qm3) (.int iSt) iLv iWs vLa (.ref qmu) (.ref qmy) (.ref qmb) (.ref qms) (.int iOm) fMr) L_X6_91 hN hP hD hS hA [0, 1] [false, false] rfl (by decide +kernel) rfl 0 5 rfl rfl rfl ⟨Nat.le_of_ble_eq_true rfl, Nat.le_of_ble_eq_true rfl⟩ hl.1 (Nat.le_of_ble_eq_true rfl) (g_182 (v := 91) bX6_longest rfl) ⟨Nat.le_of_ble_eq_true rfl, Nat.le_of_ble_eq_true rfl⟩ (fun r_36 u_38 H locs h_37 => ?_)
    clear hP hD hS
    intro hP hD hS
    obtain ⟨fX_39, hu9, h_37⟩ := h_37
    have hPD := pd_eq [_, zzI cy qmr 8 fX_39] hP hD hu9 rfl
    clear hP hD hu9
    obtain ⟨hP, hD⟩ := hPD
    subst h_37
    exact endW (u := [zzO qm 5 (.ref qmh :: .ref qmo :: .ref qmz :: .ref qmR :: .ref qmv :: .ref qmk :: .ref qma :: .ref qmt :: .int (nI kZ) :: .ref qmr :: .int (nI (T_nb tA)) :: .ref qmB :: .int (nI (T_np tA)) :: .ref qmO :: .ref qmK :: .int iEn :: .int iTk :: .int (T_sd tA) :: ov uP :: ov uU :: .int (nI kAt) :: .int iTo :: .int iFr :: .long JFi :: .int iFa :: .ref qm3 :: .int iSt :: .int iLv :: .int iWs :: vLa :: .ref qmu :: .ref qmy :: .ref qmb :: .ref qms :: .int iOm :: []), zzI cy qmr 8 fX_39]) hx hb hr hlocks rfl (hP.sub [0, 1] rfl) (hD.sub [0, 1] (by decide +kernel) rfl) hS ⟨fX_39, rfl, (by rw [sp_longest, if_neg (fun q => h_3 q.1)])⟩ (g_172 bX6_longest rfl)
set_option maxHeartbeats 4000000 in
set_option maxRecDepth 100000 in
theorem p_X6_hangs (l : Launch) (G : va_G) (cy : Nat → ClassId) (sz : Nat) (qm : Nat) (qmh : Nat) (qmo : Nat) (qmz : Nat) (qmR : Nat) (qmv : Nat) (qmk : Nat) (qma : Nat) (qmt : Nat) (kZ : Nat) (qmr : Nat) (tA : TA) (qmB : Nat) (qmO : Nat) (qmK : Nat) (iEn : Int32) (iTk : Int32) (uP : UM) (uU : UM) (kAt : Nat) (iTo : Int32) (iFr : Int32) (JFi : Int64) (iFa : Int32) (qm3 : Nat) (iSt : Int32) (iLv : Int32) (iWs : Int32) (vLa : Value) (qmu : Nat) (qmy : Nat) (qmb : Nat) (qms : Nat) (iOm : Int32) (fMr : Nat → Int32) (rB : Nat → Nat) (rO : Nat → Nat) (rK : Nat → Nat)  (hB : T_nb tA ≤ 8) (hPp : T_np tA ≤ 8) (hTI : TI tA) : MW l yX6_hangs cX6_hangs 6 (some .int) 16 0 0 G cy [zzO qm 5 (.ref qmh :: .ref qmo :: .ref qmz :: .ref qmR :: .ref qmv :: .ref qmk :: .ref qma :: .ref qmt :: .int (nI kZ) :: .ref qmr :: .int (nI (T_nb tA)) :: .ref qmB :: .int (nI (T_np tA)) :: .ref qmO :: .ref qmK :: .int iEn :: .int iTk :: .int (T_sd tA) :: ov uP :: ov uU :: .int (nI kAt) :: .int iTo :: .int iFr :: .long JFi :: .int iFa :: .ref qm3 :: .int iSt :: .int iLv :: .int iWs :: vLa :: .ref qmu :: .ref qmy :: .ref qmb :: .ref qms :: .int iOm :: []), zzI cy qmr 8 fMr, zzG cy 3 qmB rB, zzI cy (rB 0) 4 (bkR tA 0), zzI cy (rB 1) 4 (bkR tA 1), zzI cy (rB 2) 4 (bkR tA 2), zzI cy (rB 3) 4 (bkR tA 3), zzI cy (rB 4) 4 (bkR tA 4), zzI cy (rB 5) 4 (bkR tA 5), zzI cy (rB 6) 4 (bkR tA 6), zzI cy (rB 7) 4 (bkR tA 7), zzG cy 3 qmO rO, zzI cy (rO 0) 5 (onR tA 0), zzI cy (rO 1) 5 (onR tA 1), zzI cy (rO 2) 5 (onR tA 2), zzI cy (rO 3) 5 (onR tA 3), zzI cy (rO 4) 5 (onR tA 4), zzI cy (rO 5) 5 (onR tA 5), zzI cy (rO 6) 5 (onR tA 6), zzI cy (rO 7) 5 (onR tA 7), zzG cy 3 qmK rK, zzI cy (rK 0) 8 (T_kn tA 0), zzI cy (rK 1) 8 (T_kn tA 1), zzI cy (rK 2) 8 (T_kn tA 2), zzI cy (rK 3) 8 (T_kn tA 3), zzI cy (rK 4) 8 (T_kn tA 4), zzI cy (rK 5) 8 (T_kn tA 5), zzI cy (rK 6) 8 (T_kn tA 6), zzI cy (rK 7) 8 (T_kn tA 7)] sz [.ref qm] (Wi G (fun r u => ∃ (fNr : Nat → Int32), u = [zzO qm 5 (.ref qmh :: .ref qmo :: .ref qmz :: .ref qmR :: .ref qmv :: .ref qmk :: .ref qma :: .ref qmt :: .int (nI kZ) :: .ref qmr :: .int (nI (T_nb tA)) :: .ref qmB :: .int (nI (T_np tA)) :: .ref qmO :: .ref qmK :: .int iEn :: .int iTk :: .int (T_sd tA) :: ov uP :: ov uU :: .int (nI kAt) :: .int iTo :: .int iFr :: .long JFi :: .int iFa :: .ref qm3 :: .int iSt :: .int iLv :: .int iWs :: vLa :: .ref qmu :: .ref qmy :: .ref qmb :: .ref qms :: .int iOm :: []), zzI cy qmr 8 fNr, zzG cy 3 qmB rB, zzI cy (rB 0) 4 (bkR tA 0), zzI cy (rB 1) 4 (bkR tA 1), zzI cy (rB 2) 4 (bkR tA 2), zzI cy (rB 3) 4 (bkR tA 3), zzI cy (rB 4) 4 (bkR tA 4), zzI cy (rB 5) 4 (bkR tA 5), zzI cy (rB 6) 4 (bkR tA 6), zzI cy (rB 7) 4 (bkR tA 7), zzG cy 3 qmO rO, zzI cy (rO 0) 5 (onR tA 0), zzI cy (rO 1) 5 (onR tA 1), zzI cy (rO 2) 5 (onR tA 2), zzI cy (rO 3) 5 (onR tA 3), zzI cy (rO 4) 5 (onR tA 4), zzI cy (rO 5) 5 (onR tA 5), zzI cy (rO 6) 5 (onR tA 6), zzI cy (rO 7) 5 (onR tA 7), zzG cy 3 qmK rK, zzI cy (rK 0) 8 (T_kn tA 0), zzI cy (rK 1) 8 (T_kn tA 1), zzI cy (rK 2) 8 (T_kn tA 2), zzI cy (rK 3) 8 (T_kn tA 3), zzI cy (rK 4) 8 (T_kn tA 4), zzI cy (rK 5) 8 (T_kn tA 5), zzI cy (rK 6) 8 (T_kn tA 6), zzI cy (rK 7) 8 (T_kn tA 7)] ∧ (True))) := by
  refine enW RX6 (by decide +kernel) rfl (Nat.le_of_ble_eq_true rfl) (fun p e s m below meth c ls A hx hb hml hown hts hr hlocks hP hN hl hin hD hA hS => ?_)
  have hin : meth.name = _ := hin
  have hK := hN.1
  replace hl : lv_has ls 6 [(0, .ref qm)] := hl
  refine lv_iconst (v := (-1)) hx hb (g_2 bX6_hangs rfl) (by decide +kernel) ?_
  refine lv_istore_n (lv' := [(1, .int (-1)), (0, .ref qm)]) hx hb (g_60 bX6_hangs rfl) rfl hl (by decide +kernel) rfl (fun ls => ?_)
  clear hl
  intro hl
  refine lv_iconst (v := 0) hx hb (g_3 bX6_hangs rfl) (by decide +kernel) ?_
  refine lv_istore_n (lv' := [(2, .int 0), (1, .int (-1)), (0, .ref qm)]) hx hb (g_61 bX6_hangs rfl) rfl hl (by decide +kernel) rfl (fun ls => ?_)
  clear hl
  intro hl
  refine lv_iconst (v := 1) hx hb (g_4 bX6_hangs rfl) (by decide +kernel) ?_
  refine lv_aload_n hx hb (g_42 bX6_hangs rfl) rfl (lv_at hl 2 rfl) ?_
  refine va_get (D := G) (ci := 5) (v := .int (nI (T_np tA))) (C := RX6) (T := TX6) (N := 35) hx hb hts iX_X6 hown hK hP 0 rfl rfl 12 (by decide +kernel) (hts _ m_t862) (fun _ h9 => h9) rfl (g_180 (v := 78) bX6_hangs rfl) ?_
  refine lv_ishl hx hb (g_120 bX6_hangs rfl) ?_
  refine lv_iconst (v := 1) hx hb (g_4 bX6_hangs rfl) (by decide +kernel) ?_
  refine lv_isub hx hb (g_100 bX6_hangs rfl) ?_
  refine lv_istore_n (lv' := [(3, .int ((1 <<< ((nI (T_np tA)) &&& 31)) - 1)), (2, .int 0), (1, .int (-1)), (0, .ref qm)]) hx hb (g_62 bX6_hangs rfl) rfl hl (by decide +kernel) rfl (fun ls => ?_)
  clear hl
  intro hl
  refine lv_iconst (v := 0) hx hb (g_3 bX6_hangs rfl) (by decide +kernel) ?_
  refine lv_istore (lv' := [(4, .int 0), (3, .int ((1 <<< ((nI (T_np tA)) &&& 31)) - 1)), (2, .int 0), (1, .int (-1)), (0, .ref qm)]) hx hb (g_54 (v := 4) bX6_hangs rfl) hl (by decide +kernel) rfl (fun ls => ?_)
  clear hl
  intro hl
  have lp_1 : ∀ (n_2 : Nat) (j_4 : Nat) (x1_5 : Int32) (x2_6 : Int32), 8 - j_4 < n_2 → j_4 ≤ T_np tA → ∀ (H : Heap) (locs : List Loc) (ls : Array Slot), va_P G CL [zzO qm 5 (.ref qmh :: .ref qmo :: .ref qmz :: .ref qmR :: .ref qmv :: .ref qmk :: .ref qma :: .ref qmt :: .int (nI kZ) :: .ref qmr :: .int (nI (T_nb tA)) :: .ref qmB :: .int (nI (T_np tA)) :: .ref qmO :: .ref qmK :: .int iEn :: .int iTk :: .int (T_sd tA) :: ov uP :: ov uU :: .int (nI kAt) :: .int iTo :: .int iFr :: .long JFi :: .int iFa :: .ref qm3 :: .int iSt :: .int iLv :: .int iWs :: vLa :: .ref qmu :: .ref qmy :: .ref qmb :: .ref qms :: .int iOm :: []), zzI cy qmr 8 fMr, zzG cy 3 qmB rB, zzI cy (rB 0) 4 (bkR tA 0), zzI cy (rB 1) 4 (bkR tA 1), zzI cy (rB 2) 4 (bkR tA 2), zzI cy (rB 3) 4 (bkR tA 3), zzI cy (rB 4) 4 (bkR tA 4), zzI cy (rB 5) 4 (bkR tA 5), zzI cy (rB 6) 4 (bkR tA 6), zzI cy (rB 7) 4 (bkR tA 7), zzG cy 3 qmO rO, zzI cy (rO 0) 5 (onR tA 0), zzI cy (rO 1) 5 (onR tA 1), zzI cy (rO 2) 5 (onR tA 2), zzI cy (rO 3) 5 (onR tA 3), zzI cy (rO 4) 5 (onR tA 4), zzI cy (rO 5) 5 (onR tA 5), zzI cy (rO 6) 5 (onR tA 6), zzI cy (rO 7) 5 (onR tA 7), zzG cy 3 qmK rK, zzI cy (rK 0) 8 (T_kn tA 0), zzI cy (rK 1) 8 (T_kn tA 1), zzI cy (rK 2) 8 (T_kn tA 2), zzI cy (rK 3) 8 (T_kn tA 3), zzI cy (rK 4) 8 (T_kn tA 4), zzI cy (rK 5) 8 (T_kn tA 5), zzI cy (rK 6) 8 (T_kn tA 6), zzI cy (rK 7) 8 (T_kn tA 7)] H → va_D A [zzO qm 5 (.ref qmh :: .ref qmo :: .ref qmz :: .ref qmR :: .ref qmv :: .ref qmk :: .ref qma :: .ref qmt :: .int (nI kZ) :: .ref qmr :: .int (nI (T_nb tA)) :: .ref qmB :: .int (nI (T_np tA)) :: .ref qmO :: .ref qmK :: .int iEn :: .int iTk :: .int (T_sd tA) :: ov uP :: ov uU :: .int (nI kAt) :: .int iTo :: .int iFr :: .long JFi :: .int iFa :: .ref qm3 :: .int iSt :: .int iLv :: .int iWs :: vLa :: .ref qmu :: .ref qmy :: .ref qmb :: .ref qms :: .int iOm :: []), zzI cy qmr 8 fMr, zzG cy 3 qmB rB, zzI cy (rB 0) 4 (bkR tA 0), zzI cy (rB 1) 4 (bkR tA 1), zzI cy (rB 2) 4 (bkR tA 2), zzI cy (rB 3) 4 (bkR tA 3), zzI cy (rB 4) 4 (bkR tA 4), zzI cy (rB 5) 4 (bkR tA 5), zzI cy (rB 6) 4 (bkR tA 6), zzI cy (rB 7) 4 (bkR tA 7), zzG cy 3 qmO rO, zzI cy (rO 0) 5 (onR tA 0), zzI cy (rO 1) 5 (onR tA 1), zzI cy (rO 2) 5 (onR tA 2), zzI cy (rO 3) 5 (onR tA 3), zzI cy (rO 4) 5 (onR tA 4), zzI cy (rO 5) 5 (onR tA 5), zzI cy (rO 6) 5 (onR tA 6), zzI cy (rO 7) 5 (onR tA 7), zzG cy 3 qmK rK, zzI cy (rK 0) 8 (T_kn tA 0), zzI cy (rK 1) 8 (T_kn tA 1), zzI cy (rK 2) 8 (T_kn tA 2), zzI cy (rK 3) 8 (T_kn tA 3), zzI cy (rK 4) 8 (T_kn tA 4), zzI cy (rK 5) 8 (T_kn tA 5), zzI cy (rK 6) 8 (T_kn tA 6), zzI cy (rK 7) 8 (T_kn tA 7)] → va_S A s.heap H locs → lv_has ls 6 [(4, .int (nI j_4)), (3, .int ((1 <<< ((nI (T_np tA)) &&& 31)) - 1)), (2, .int x2_6), (1, .int x1_5), (0, .ref qm)] → W p l e (Rm 16 0 0) s m (List.toArray (α := Value) [.ref qm]) below meth c H locs 0 0 (MQ below ((Wi G (fun r u => ∃ (fNr : Nat → Int32), u = [zzO qm 5 (.ref qmh :: .ref qmo :: .ref qmz :: .ref qmR :: .ref qmv :: .ref qmk :: .ref qma :: .ref qmt :: .int (nI kZ) :: .ref qmr :: .int (nI (T_nb tA)) :: .ref qmB :: .int (nI (T_np tA)) :: .ref qmO :: .ref qmK :: .int iEn :: .int iTk :: .int (T_sd tA) :: ov uP :: ov uU :: .int (nI kAt) :: .int iTo :: .int iFr :: .long JFi :: .int iFa :: .ref qm3 :: .int iSt :: .int iLv :: .int iWs :: vLa :: .ref qmu :: .ref qmy :: .ref qmb :: .ref qms :: .int iOm :: []), zzI cy qmr 8 fNr, zzG cy 3 qmB rB, zzI cy (rB 0) 4 (bkR tA 0), zzI cy (rB 1) 4 (bkR tA 1), zzI cy (rB 2) 4 (bkR tA 2), zzI cy (rB 3) 4 (bkR tA 3), zzI cy (rB 4) 4 (bkR tA 4), zzI cy (rB 5) 4 (bkR tA 5), zzI cy (rB 6) 4 (bkR tA 6), zzI cy (rB 7) 4 (bkR tA 7), zzG cy 3 qmO rO, zzI cy (rO 0) 5 (onR tA 0), zzI cy (rO 1) 5 (onR tA 1), zzI cy (rO 2) 5 (onR tA 2), zzI cy (rO 3) 5 (onR tA 3), zzI cy (rO 4) 5 (onR tA 4), zzI cy (rO 5) 5 (onR tA 5), zzI cy (rO 6) 5 (onR tA 6), zzI cy (rO 7) 5 (onR tA 7), zzG cy 3 qmK rK, zzI cy (rK 0) 8 (T_kn tA 0), zzI cy (rK 1) 8 (T_kn tA 1), zzI cy (rK 2) 8 (T_kn tA 2), zzI cy (rK 3) 8 (T_kn tA 3), zzI cy (rK 4) 8 (T_kn tA 4), zzI cy (rK 5) 8 (T_kn tA 5), zzI cy (rK 6) 8 (T_kn tA 6), zzI cy (rK 7) 8 (T_kn tA 7)] ∧ (True))) A) (List.toArray (α := Value) [.ref qm]) s 0 0 A) (F0 m 16 ls []) := by
    intro n_2
    induction n_2 with
    | zero => intro j_4 x1_5 x2_6 hm9; exact absurd hm9 (Nat.not_lt_zero _)
    | succ n_2 ih_3 =>
      intro j_4 x1_5 x2_6 hm_8 hj_7 H locs ls hP hD hS hl
      refine lv_iload hx hb (g_21 (v := 4) bX6_hangs rfl) (lv_at hl 0 rfl) ?_
      refine lv_aload_n hx hb (g_42 bX6_hangs rfl) rfl (lv_at hl 4 rfl) ?_
      refine va_get (D := G) (ci := 5) (v := .int (nI (T_np tA))) (C := RX6) (T := TX6) (N := 35) hx hb hts iX_X6 hown hK hP 0 rfl rfl 12 (by decide +kernel) (hts _ m_t862) (fun _ h9 => h9) rfl (g_180 (v := 78) bX6_hangs rfl) ?_
      refine lv_icmp_ge (tgt := 71) hx hb dX6_hangs_22 (by decide +kernel) (fun c_9 => ?_) (fun c_9 => ?_)
      · have hlt_10 : j_4 = T_np tA := Nat.le_antisymm (by omega) (lp_ge rfl rfl (by omega) (by omega) c_9)
        refine lv_iload_n hx hb (g_27 bX6_hangs rfl) rfl (lv_at hl 3 rfl) ?_
        refine lv_iconst (v := (-1)) hx hb (g_2 bX6_hangs rfl) (by decide +kernel) ?_
        refine lv_icmp_ne (tgt := 85) hx hb dX6_hangs_73 (by decide +kernel) (fun c_11 => ?_) (fun c_11 => ?_)
        · refine lv_iload_n hx hb (g_27 bX6_hangs rfl) rfl (lv_at hl 3 rfl) ?_
          exact endWs [[true, true, true, true, true, true, true, true, true, true, true, true, true, true, true, true, true, true, true, true, true, true, true, true, true, true, true, true, true]] hx hb hr hlocks rfl hP hD rfl (by decide +kernel) hS ⟨fMr, rfl, trivial⟩ (g_172 bX6_hangs rfl)
        · refine lv_aload_n hx hb (g_42 bX6_hangs rfl) rfl (lv_at hl 4 rfl) ?_
          refine lv_bipush (v := (-5)) hx hb dX6_hangs_77 (by decide +kernel) ?_
          refine cVi (As := [.int (-5)]) (rest := []) (b := qm) (q := (RX6, TX6, 35)) ⟨hx, hb, hml, hown, hts⟩ (c_X6_refuse5 l G cy (H).size qm (.ref qmh) (.ref qmo) (.ref qmz) (.ref qmR) (.ref qmv) (.ref qmk) (.ref qma) (.ref qmt) (.int (nI kZ)) qmr tA qmB qmO qmK iEn iTk (ov uP) (ov uU) (.int (nI kAt)) (.int iTo) (.int iFr) (.long JFi) (.int iFa) (.ref qm3) (.int iSt) iLv iWs vLa (.ref qmu) (.ref qmy) (.ref qmb) (.ref qms) (.int iOm) fMr) L_X6_91 hN hP hD hS hA [0, 1] [false, false, true, true, true, true, true, true, true, true, true, true, true, true, true, true, true, true, true, true, true, true, true, true, true, true, true, true, true] rfl (by decide +kernel) rfl 0 5 rfl rfl rfl ⟨Nat.le_of_ble_eq_true rfl, Nat.le_of_ble_eq_true rfl⟩ hl.1 (Nat.le_of_ble_eq_true rfl) (g_182 (v := 91) bX6_hangs rfl) ⟨Nat.le_of_ble_eq_true rfl, Nat.le_of_ble_eq_true rfl⟩ (fun r_12 u_14 H locs h_13 => ?_)
          clear hP hD hS
          intro hP hD hS
          obtain ⟨fX_15, hu9, h_13⟩ := h_13
          have hPD := pd_eq [_, _, _, _, _, _, _, _, _, _, _, _, _, _, _, _, _, _, _, _, _, _, _, _, _, _, _, _, zzI cy qmr 8 fX_15] hP hD hu9 rfl
          clear hP hD hu9
          obtain ⟨hP, hD⟩ := hPD
          subst h_13
          refine lv_goto (tgt := 86) hx hb dX6_hangs_82 (by decide +kernel) ?_
          exact endWs [[false, false, false, false, false, false, false, false, false, false, false, false, false, false, false, false, false, false, false, false, false, false, false, false, false, false, false, true, true], [true, true, true, true, true, true, true, true, true, true, true, true, true, true, true, true, true, true, true, true, true, true, true, true, true, true, true]] hx hb hr hlocks rfl hP hD rfl (by decide +kernel) hS ⟨fX_15, rfl, trivial⟩ (g_172 bX6_hangs rfl)
      · have hlt_16 : j_4 < T_np tA := lp_lt rfl rfl (by omega) (by omega) c_9
        refine lv_aload_n hx hb (g_42 bX6_hangs rfl) rfl (lv_at hl 4 rfl) ?_
        refine lv_iload hx hb (g_21 (v := 4) bX6_hangs rfl) (lv_at hl 0 rfl) ?_
        refine kRi (rV (As := [.int (nI j_4)]) (rest := []) (b := qm) ⟨hx, hb, hml, hown, hts⟩ (c_X6_isThere l G cy qm (.ref qmh) (.ref qmo) (.ref qmz) (.ref qmR) (.ref qmv) (.ref qmk) (.ref qma) (.ref qmt) (.int (nI kZ)) (.ref qmr) tA qmB qmO qmK iEn iTk (ov uP) (ov uU) (.int (nI kAt)) (.int iTo) (.int iFr) (.long JFi) (.int iFa) (.ref qm3) (.int iSt) iLv iWs vLa (.ref qmu) (.ref qmy) (.ref qmb) (.ref qms) (.int iOm) rO j_4 (by first | omega | (simp only [nb_sr, np_sr, nb_wr, np_wr, nb_rd, np_rd, nb_ch, np_ch, nb_zr, np_zr, nb_za, np_za, nb_ey, np_ey, nb_hf, np_hf, nb_dd, np_dd, nb_so, np_so, nb_skn, np_skn, nb_swh, np_swh, nb_sgn, np_sgn, nb_ssd, np_ssd, nb_sgo, np_sgo, nb_sag, np_sag]; omega))) L_X6_81 (preRV (q := (RX6, TX6, 35)) hN hP (trueIx 0 [true, false, false, false, false, false, false, false, false, false, false, true, true, true, true, true, true, true, true, true]) (sel_fm rfl rfl) 0 5 rfl rfl) rfl ⟨Nat.le_of_ble_eq_true rfl, Nat.le_of_ble_eq_true rfl⟩ hl.1 (Nat.le_of_ble_eq_true rfl) (g_182 (v := 81) bX6_hangs rfl) ⟨Nat.le_of_ble_eq_true rfl, Nat.le_of_ble_eq_true rfl⟩) (fun r_17 h_18 => ?_)
        rcases h_18 with ⟨rfl, h_19⟩ | ⟨rfl, h_19⟩
        · refine lv_if_eq (tgt := 65) hx hb dX6_hangs_31 (by decide +kernel) (fun h9 => absurd h9 (by decide +kernel)) (fun _ => ?_)
          refine lv_aload_n hx hb (g_42 bX6_hangs rfl) rfl (lv_at hl 4 rfl) ?_
          refine lv_iload_n hx hb (g_29 bX6_hangs rfl) rfl (lv_at hl 1 rfl) ?_
          refine lv_iconst (v := 1) hx hb (g_4 bX6_hangs rfl) (by decide +kernel) ?_
          refine lv_iload hx hb (g_21 (v := 4) bX6_hangs rfl) (lv_at hl 0 rfl) ?_
          refine lv_ishl hx hb (g_120 bX6_hangs rfl) ?_
          refine lv_iconst (v := (-1)) hx hb (g_2 bX6_hangs rfl) (by decide +kernel) ?_
          refine lv_ixor hx hb (g_130 bX6_hangs rfl) ?_
          refine lv_iand hx hb (g_126 bX6_hangs rfl) ?_
          refine lv_topi (fun iS_21 eS_22 => ?_)
          refine kRi (rV (As := [.int iS_21]) (rest := []) (b := qm) ⟨hx, hb, hml, hown, hts⟩ (c_X6_valueOf l G cy qm (.ref qmh) (.ref qmo) (.ref qmz) (.ref qmR) (.ref qmv) (.ref qmk) (.ref qma) (.ref qmt) (.int (nI kZ)) (.ref qmr) tA qmB qmO qmK iEn iTk (ov uP) (ov uU) (.int (nI kAt)) (.int iTo) (.int iFr) (.long JFi) (.int iFa) (.ref qm3) (.int iSt) iLv iWs vLa (.ref qmu) (.ref qmy) (.ref qmb) (.ref qms) (.int iOm) rB rO rK iS_21 hB hPp) L_X6_266 (preRV (q := (RX6, TX6, 35)) hN hP (trueIx 0 [true, false, true, true, true, true, true, true, true, true, true, true, true, true, true, true, true, true, true, true, true, true, true, true, true, true, true, true, true]) (sel_fm rfl rfl) 0 5 rfl rfl) rfl ⟨Nat.le_of_ble_eq_true rfl, Nat.le_of_ble_eq_true rfl⟩ hl.1 (Nat.le_of_ble_eq_true rfl) (g_182 (v := 266) bX6_hangs rfl) ⟨Nat.le_of_ble_eq_true rfl, Nat.le_of_ble_eq_true rfl⟩) (fun r_23 h_24 => ?_)
          subst h_24
          refine lv_istore (lv' := [(5, .int (mvo tA iS_21)), (4, .int (nI j_4)), (3, .int ((1 <<< ((nI (T_np tA)) &&& 31)) - 1)), (2, .int x2_6), (1, .int x1_5), (0, .ref qm)]) hx hb (g_54 (v := 5) bX6_hangs rfl) hl (by decide +kernel) rfl (fun ls => ?_)
          clear hl
          intro hl
          refine lv_iload_n hx hb (g_27 bX6_hangs rfl) rfl (lv_at hl 4 rfl) ?_
          refine lv_iconst (v := (-1)) hx hb (g_2 bX6_hangs rfl) (by decide +kernel) ?_
          refine lv_icmp_eq (tgt := 59) hx hb dX6_hangs_50 (by decide +kernel) (fun c_25 => ?_) (fun c_25 => ?_)
          · refine lv_iload hx hb (g_21 (v := 4) bX6_hangs rfl) (lv_at hl 1 rfl) ?_
            refine lv_istore_n (lv' := [(1, .int (nI j_4)), (5, .int (mvo tA iS_21)), (4, .int (nI j_4)), (3, .int ((1 <<< ((nI (T_np tA)) &&& 31)) - 1)), (2, .int x2_6), (0, .ref qm)]) hx hb (g_60 bX6_hangs rfl) rfl hl (by decide +kernel) rfl (fun ls => ?_)
            clear hl
            intro hl
            refine lv_iload hx hb (g_21 (v := 5) bX6_hangs rfl) (lv_at hl 1 rfl) ?_
            refine lv_istore_n (lv' := [(2, .int (mvo tA iS_21)), (1, .int (nI j_4)), (5, .int (mvo tA iS_21)), (4, .int (nI j_4)), (3, .int ((1 <<< ((nI (T_np tA)) &&& 31)) - 1)), (0, .ref qm)]) hx hb (g_61 bX6_hangs rfl) rfl hl (by decide +kernel) rfl (fun ls => ?_)
            clear hl
            intro hl
            refine lv_iinc (v := nI (j_4 + 1)) (lv' := [(4, .int (nI (j_4 + 1))), (2, .int (mvo tA iS_21)), (1, .int (nI j_4)), (5, .int (mvo tA iS_21)), (3, .int ((1 <<< ((nI (T_np tA)) &&& 31)) - 1)), (0, .ref qm)]) hx hb dX6_hangs_65 hl (k := 3) rfl (nI_1 _) (by decide +kernel) rfl (fun ls => ?_)
            clear hl
            intro hl
            refine lv_goto (tgt := 16) hx hb dX6_hangs_68 (by decide +kernel) ?_
            exact ih_3 (j_4 + 1) (nI j_4) (mvo tA iS_21) (by omega) (by omega) _ _ _ hP hD hS (lv_sub hl [0, 4, 1, 2, 5] rfl)
          · refine lv_iload hx hb (g_21 (v := 5) bX6_hangs rfl) (lv_at hl 0 rfl) ?_
            refine lv_iload_n hx hb (g_28 bX6_hangs rfl) rfl (lv_at hl 3 rfl) ?_
            refine lv_icmp_ge (tgt := 65) hx hb dX6_hangs_56 (by decide +kernel) (fun c_26 => ?_) (fun c_26 => ?_)
            · refine lv_iinc (v := nI (j_4 + 1)) (lv' := [(4, .int (nI (j_4 + 1))), (5, .int (mvo tA iS_21)), (3, .int ((1 <<< ((nI (T_np tA)) &&& 31)) - 1)), (2, .int x2_6), (1, .int x1_5), (0, .ref qm)]) hx hb dX6_hangs_65 hl (k := 1) rfl (nI_1 _) (by decide +kernel) rfl (fun ls => ?_)
              clear hl
              intro hl
              refine lv_goto (tgt := 16) hx hb dX6_hangs_68 (by decide +kernel) ?_
              exact ih_3 (j_4 + 1) x1_5 x2_6 (by omega) (by omega) _ _ _ hP hD hS (lv_sub hl [0, 2, 3, 4, 5] rfl)
            · refine lv_iload hx hb (g_21 (v := 4) bX6_hangs rfl) (lv_at hl 1 rfl) ?_
              refine lv_istore_n (lv' := [(1, .int (nI j_4)), (5, .int (mvo tA iS_21)), (4, .int (nI j_4)), (3, .int ((1 <<< ((nI (T_np tA)) &&& 31)) - 1)), (2, .int x2_6), (0, .ref qm)]) hx hb (g_60 bX6_hangs rfl) rfl hl (by decide +kernel) rfl (fun ls => ?_)
              clear hl
              intro hl
              refine lv_iload hx hb (g_21 (v := 5) bX6_hangs rfl) (lv_at hl 1 rfl) ?_
              refine lv_istore_n (lv' := [(2, .int (mvo tA iS_21)), (1, .int (nI j_4)), (5, .int (mvo tA iS_21)), (4, .int (nI j_4)), (3, .int ((1 <<< ((nI (T_np tA)) &&& 31)) - 1)), (0, .ref qm)]) hx hb (g_61 bX6_hangs rfl) rfl hl (by decide +kernel) rfl (fun ls => ?_)
              clear hl
              intro hl
              refine lv_iinc (v := nI (j_4 + 1)) (lv' := [(4, .int (nI (j_4 + 1))), (2, .int (mvo tA iS_21)), (1, .int (nI j_4)), (5, .int (mvo tA iS_21)), (3, .int ((1 <<< ((nI (T_np tA)) &&& 31)) - 1)), (0, .ref qm)]) hx hb dX6_hangs_65 hl (k := 3) rfl (nI_1 _) (by decide +kernel) rfl (fun ls => ?_)
              clear hl
              intro hl
              refine lv_goto (tgt := 16) hx hb dX6_hangs_68 (by decide +kernel) ?_
              exact ih_3 (j_4 + 1) (nI j_4) (mvo tA iS_21) (by omega) (by omega) _ _ _ hP hD hS (lv_sub hl [0, 4, 1, 2, 5] rfl)
        · refine lv_if_eq (tgt := 65) hx hb dX6_hangs_31 (by decide +kernel) (fun _ => ?_) (fun h9 => absurd (by decide +kernel) h9)
          refine lv_iinc (v := nI (j_4 + 1)) (lv' := [(4, .int (nI (j_4 + 1))), (3, .int ((1 <<< ((nI (T_np tA)) &&& 31)) - 1)), (2, .int x2_6), (1, .int x1_5), (0, .ref qm)]) hx hb dX6_hangs_65 hl (k := 0) rfl (nI_1 _) (by decide +kernel) rfl (fun ls => ?_)
          clear hl
          intro hl
          refine lv_goto (tgt := 16) hx hb dX6_hangs_68 (by decide +kernel) ?_
          exact ih_3 (j_4 + 1) x1_5 x2_6 (by omega) (by omega) _ _ _ hP hD hS (lv_sub hl [0, 1, 2, 3, 4] rfl)
  exact lp_1 ((8 - 0) + 1) 0 (-1) 0 (Nat.lt_succ_self _) (Nat.zero_le _) _ _ ls hP hD hS (lv_sub hl [0, 1, 2, 3, 4] rfl)
set_option maxHeartbeats 4000000 in
set_option maxRecDepth 100000 in
theorem p_X6_lost (l : Launch) (G : va_G) (cy : Nat → ClassId) (sz : Nat) (qm : Nat) (qmh : Nat) (qmo : Nat) (qmz : Nat) (qmR : Nat) (qmv : Nat) (qmk : Nat) (qma : Nat) (qmt : Nat) (kZ : Nat) (qmr : Nat) (tA : TA) (qmB : Nat) (qmO : Nat) (qmK : Nat) (iEn : Int32) (iTk : Int32) (uP : UM) (uU : UM) (kAt : Nat) (iTo : Int32) (iFr : Int32) (JFi : Int64) (iFa : Int32) (qm3 : Nat) (iSt : Int32) (iLv : Int32) (iWs : Int32) (vLa : Value) (qmu : Nat) (qmy : Nat) (qmb : Nat) (qms : Nat) (iOm : Int32) (fMr : Nat → Int32) (rB : Nat → Nat) (rO : Nat → Nat) (rK : Nat → Nat) (iA : Int32)  (hB : T_nb tA ≤ 8) (hPp : T_np tA ≤ 8) (hTI : TI tA) : MW l yX6_lost cX6_lost 2 (some .int) 16 0 0 G cy [zzO qm 5 (.ref qmh :: .ref qmo :: .ref qmz :: .ref qmR :: .ref qmv :: .ref qmk :: .ref qma :: .ref qmt :: .int (nI kZ) :: .ref qmr :: .int (nI (T_nb tA)) :: .ref qmB :: .int (nI (T_np tA)) :: .ref qmO :: .ref qmK :: .int iEn :: .int iTk :: .int (T_sd tA) :: ov uP :: ov uU :: .int (nI kAt) :: .int iTo :: .int iFr :: .long JFi :: .int iFa :: .ref qm3 :: .int iSt :: .int iLv :: .int iWs :: vLa :: .ref qmu :: .ref qmy :: .ref qmb :: .ref qms :: .int iOm :: []), zzI cy qmr 8 fMr, zzG cy 3 qmB rB, zzI cy (rB 0) 4 (bkR tA 0), zzI cy (rB 1) 4 (bkR tA 1), zzI cy (rB 2) 4 (bkR tA 2), zzI cy (rB 3) 4 (bkR tA 3), zzI cy (rB 4) 4 (bkR tA 4), zzI cy (rB 5) 4 (bkR tA 5), zzI cy (rB 6) 4 (bkR tA 6), zzI cy (rB 7) 4 (bkR tA 7), zzG cy 3 qmO rO, zzI cy (rO 0) 5 (onR tA 0), zzI cy (rO 1) 5 (onR tA 1), zzI cy (rO 2) 5 (onR tA 2), zzI cy (rO 3) 5 (onR tA 3), zzI cy (rO 4) 5 (onR tA 4), zzI cy (rO 5) 5 (onR tA 5), zzI cy (rO 6) 5 (onR tA 6), zzI cy (rO 7) 5 (onR tA 7), zzG cy 3 qmK rK, zzI cy (rK 0) 8 (T_kn tA 0), zzI cy (rK 1) 8 (T_kn tA 1), zzI cy (rK 2) 8 (T_kn tA 2), zzI cy (rK 3) 8 (T_kn tA 3), zzI cy (rK 4) 8 (T_kn tA 4), zzI cy (rK 5) 8 (T_kn tA 5), zzI cy (rK 6) 8 (T_kn tA 6), zzI cy (rK 7) 8 (T_kn tA 7)] sz [.ref qm, .int iA] (Wi G (fun r u => ∃ (fNr : Nat → Int32), u = [zzO qm 5 (.ref qmh :: .ref qmo :: .ref qmz :: .ref qmR :: .ref qmv :: .ref qmk :: .ref qma :: .ref qmt :: .int (nI kZ) :: .ref qmr :: .int (nI (T_nb tA)) :: .ref qmB :: .int (nI (T_np tA)) :: .ref qmO :: .ref qmK :: .int iEn :: .int iTk :: .int (T_sd tA) :: ov uP :: ov uU :: .int (nI kAt) :: .int iTo :: .int iFr :: .long JFi :: .int iFa :: .ref qm3 :: .int iSt :: .int iLv :: .int iWs :: vLa :: .ref qmu :: .ref qmy :: .ref qmb :: .ref qms :: .int iOm :: []), zzI cy qmr 8 fNr, zzG cy 3 qmB rB, zzI cy (rB 0) 4 (bkR tA 0), zzI cy (rB 1) 4 (bkR tA 1), zzI cy (rB 2) 4 (bkR tA 2), zzI cy (rB 3) 4 (bkR tA 3), zzI cy (rB 4) 4 (bkR tA 4), zzI cy (rB 5) 4 (bkR tA 5), zzI cy (rB 6) 4 (bkR tA 6), zzI cy (rB 7) 4 (bkR tA 7), zzG cy 3 qmO rO, zzI cy (rO 0) 5 (onR tA 0), zzI cy (rO 1) 5 (onR tA 1), zzI cy (rO 2) 5 (onR tA 2), zzI cy (rO 3) 5 (onR tA 3), zzI cy (rO 4) 5 (onR tA 4), zzI cy (rO 5) 5 (onR tA 5), zzI cy (rO 6) 5 (onR tA 6), zzI cy (rO 7) 5 (onR tA 7), zzG cy 3 qmK rK, zzI cy (rK 0) 8 (T_kn tA 0), zzI cy (rK 1) 8 (T_kn tA 1), zzI cy (rK 2) 8 (T_kn tA 2), zzI cy (rK 3) 8 (T_kn tA 3), zzI cy (rK 4) 8 (T_kn tA 4), zzI cy (rK 5) 8 (T_kn tA 5), zzI cy (rK 6) 8 (T_kn tA 6), zzI cy (rK 7) 8 (T_kn tA 7)] ∧ (True))) := by
  refine enW RX6 (by decide +kernel) rfl (Nat.le_of_ble_eq_true rfl) (fun p e s m below meth c ls A hx hb hml hown hts hr hlocks hP hN hl hin hD hA hS => ?_)
  have hin : meth.name = _ := hin
  have hK := hN.1
  replace hl : lv_has ls 2 [(0, .ref qm), (1, .int iA)] := hl
  refine lv_iload_n hx hb (g_27 bX6_lost rfl) rfl (lv_at hl 1 rfl) ?_
  refine lv_i2l (v := iA.toInt64) hx hb (g_133 bX6_lost rfl) rfl ?_
  refine lv_lconst (v := 1) hx hb (g_10 bX6_lost rfl) (by decide +kernel) ?_
  refine lv_ldc2 hx hb hown (hts _ m_t1199) (g_20 (v := 239) bX6_lost rfl) ?_
  refine kRi (rS (As := [.long iA.toInt64, .long 1, .long 1000]) (rest := []) ⟨hx, hb, hml, hown, hts⟩ (c_X6_in l G cy iA.toInt64 1 1000) L_X6_74 (preRS hN hP [] rfl) rfl ⟨Nat.le_of_ble_eq_true rfl, Nat.le_of_ble_eq_true rfl⟩ hl.1 (Nat.le_of_ble_eq_true rfl) (g_184 (v := 74) bX6_lost rfl) ⟨Nat.le_of_ble_eq_true rfl, Nat.le_of_ble_eq_true rfl⟩) (fun r_1 h_2 => ?_)
  rcases h_2 with ⟨rfl, h_3⟩ | ⟨rfl, h_3⟩
  · obtain ⟨k_4, hk_5, hk_6, rfl⟩ := iv_nI 1 1000 (by decide +kernel) (by decide +kernel) h_3
    refine lv_if_eq (tgt := 28) hx hb dX6_lost_9 (by decide +kernel) (fun h9 => absurd h9 (by decide +kernel)) (fun _ => ?_)
    refine lv_aload_n hx hb (g_42 bX6_lost rfl) rfl (lv_at hl 0 rfl) ?_
    refine lv_iload_n hx hb (g_27 bX6_lost rfl) rfl (lv_at hl 1 rfl) ?_
    refine lv_iconst (v := 1) hx hb (g_4 bX6_lost rfl) (by decide +kernel) ?_
    refine lv_aload_n hx hb (g_42 bX6_lost rfl) rfl (lv_at hl 0 rfl) ?_
    refine va_get (D := G) (ci := 5) (v := .int (nI (T_np tA))) (C := RX6) (T := TX6) (N := 35) hx hb hts iX_X6 hown hK hP 0 rfl rfl 12 (by decide +kernel) (hts _ m_t862) (fun _ h9 => h9) rfl (g_180 (v := 78) bX6_lost rfl) ?_
    refine lv_ishl hx hb (g_120 bX6_lost rfl) ?_
    refine lv_iconst (v := 1) hx hb (g_4 bX6_lost rfl) (by decide +kernel) ?_
    refine lv_isub hx hb (g_100 bX6_lost rfl) ?_
    refine kRi (rV (As := [.int (nI k_4), .int ((1 <<< ((nI (T_np tA)) &&& 31)) - 1)]) (rest := []) (b := qm) ⟨hx, hb, hml, hown, hts⟩ (c_X6_lostBy l G cy qm (.ref qmh) (.ref qmo) (.ref qmz) (.ref qmR) (.ref qmv) (.ref qmk) (.ref qma) (.ref qmt) (.int (nI kZ)) (.ref qmr) tA qmB qmO qmK iEn iTk (ov uP) (ov uU) (.int (nI kAt)) (.int iTo) (.int iFr) (.long JFi) (.int iFa) (.ref qm3) (.int iSt) iLv iWs vLa (.ref qmu) (.ref qmy) (.ref qmb) (.ref qms) (.int iOm) rB rO rK (nI k_4) ((1 <<< ((nI (T_np tA)) &&& 31)) - 1) hB hPp) L_X6_335 (preRV (q := (RX6, TX6, 35)) hN hP (trueIx 0 [true, false, true, true, true, true, true, true, true, true, true, true, true, true, true, true, true, true, true, true, true, true, true, true, true, true, true, true, true]) (sel_fm rfl rfl) 0 5 rfl rfl) rfl ⟨Nat.le_of_ble_eq_true rfl, Nat.le_of_ble_eq_true rfl⟩ hl.1 (Nat.le_of_ble_eq_true rfl) (g_182 (v := 335) bX6_lost rfl) ⟨Nat.le_of_ble_eq_true rfl, Nat.le_of_ble_eq_true rfl⟩) (fun r_8 h_9 => ?_)
    refine lv_goto (tgt := 34) hx hb dX6_lost_25 (by decide +kernel) ?_
    exact endWs [[true, true, true, true, true, true, true, true, true, true, true, true, true, true, true, true, true, true, true, true, true, true, true, true, true, true, true, true, true]] hx hb hr hlocks rfl hP hD rfl (by decide +kernel) hS ⟨fMr, rfl, trivial⟩ (g_172 bX6_lost rfl)
  · refine lv_if_eq (tgt := 28) hx hb dX6_lost_9 (by decide +kernel) (fun _ => ?_) (fun h9 => absurd (by decide +kernel) h9)
    refine lv_aload_n hx hb (g_42 bX6_lost rfl) rfl (lv_at hl 0 rfl) ?_
    refine lv_bipush (v := (-2)) hx hb dX6_lost_29 (by decide +kernel) ?_
    refine cVi (As := [.int (-2)]) (rest := []) (b := qm) (q := (RX6, TX6, 35)) ⟨hx, hb, hml, hown, hts⟩ (c_X6_refuse2 l G cy (s.heap).size qm (.ref qmh) (.ref qmo) (.ref qmz) (.ref qmR) (.ref qmv) (.ref qmk) (.ref qma) (.ref qmt) (.int (nI kZ)) qmr tA qmB qmO qmK iEn iTk (ov uP) (ov uU) (.int (nI kAt)) (.int iTo) (.int iFr) (.long JFi) (.int iFa) (.ref qm3) (.int iSt) iLv iWs vLa (.ref qmu) (.ref qmy) (.ref qmb) (.ref qms) (.int iOm) fMr) L_X6_91 hN hP hD hS hA [0, 1] [false, false, true, true, true, true, true, true, true, true, true, true, true, true, true, true, true, true, true, true, true, true, true, true, true, true, true, true, true] rfl (by decide +kernel) rfl 0 5 rfl rfl rfl ⟨Nat.le_of_ble_eq_true rfl, Nat.le_of_ble_eq_true rfl⟩ hl.1 (Nat.le_of_ble_eq_true rfl) (g_182 (v := 91) bX6_lost rfl) ⟨Nat.le_of_ble_eq_true rfl, Nat.le_of_ble_eq_true rfl⟩ (fun r_11 u_13 H locs h_12 => ?_)
    clear hP hD hS
    intro hP hD hS
    obtain ⟨fX_14, hu9, h_12⟩ := h_12
    have hPD := pd_eq [_, _, _, _, _, _, _, _, _, _, _, _, _, _, _, _, _, _, _, _, _, _, _, _, _, _, _, _, zzI cy qmr 8 fX_14] hP hD hu9 rfl
    clear hP hD hu9
    obtain ⟨hP, hD⟩ := hPD
    subst h_12
    exact endWs [[false, false, false, false, false, false, false, false, false, false, false, false, false, false, false, false, false, false, false, false, false, false, false, false, false, false, false, true, true], [true, true, true, true, true, true, true, true, true, true, true, true, true, true, true, true, true, true, true, true, true, true, true, true, true, true, true]] hx hb hr hlocks rfl hP hD rfl (by decide +kernel) hS ⟨fX_14, rfl, trivial⟩ (g_172 bX6_lost rfl)
set_option maxHeartbeats 4000000 in
set_option maxRecDepth 100000 in
theorem p_X6_bear (l : Launch) (G : va_G) (cy : Nat → ClassId) (sz : Nat) (qm : Nat) (qmh : Nat) (qmo : Nat) (qmz : Nat) (qmR : Nat) (qmv : Nat) (qmk : Nat) (qma : Nat) (qmt : Nat) (kZ : Nat) (qmr : Nat) (tA : TA) (qmB : Nat) (qmO : Nat) (qmK : Nat) (iEn : Int32) (iTk : Int32) (uP : UM) (uU : UM) (kAt : Nat) (iTo : Int32) (iFr : Int32) (JFi : Int64) (iFa : Int32) (qm3 : Nat) (iSt : Int32) (iLv : Int32) (iWs : Int32) (vLa : Value) (qmu : Nat) (qmy : Nat) (qmb : Nat) (qms : Nat) (iOm : Int32) (fMr : Nat → Int32) (rB : Nat → Nat) (rO : Nat → Nat) (rK : Nat → Nat) (iA : Int32)  (hB : T_nb tA ≤ 8) (hPp : T_np tA ≤ 8) (hTI : TI tA) : MW l yX6_bear cX6_bear 5 (some .int) 16 0 0 G cy [zzO qm 5 (.ref qmh :: .ref qmo :: .ref qmz :: .ref qmR :: .ref qmv :: .ref qmk :: .ref qma :: .ref qmt :: .int (nI kZ) :: .ref qmr :: .int (nI (T_nb tA)) :: .ref qmB :: .int (nI (T_np tA)) :: .ref qmO :: .ref qmK :: .int iEn :: .int iTk :: .int (T_sd tA) :: ov uP :: ov uU :: .int (nI kAt) :: .int iTo :: .int iFr :: .long JFi :: .int iFa :: .ref qm3 :: .int iSt :: .int iLv :: .int iWs :: vLa :: .ref qmu :: .ref qmy :: .ref qmb :: .ref qms :: .int iOm :: []), zzI cy qmr 8 fMr, zzG cy 3 qmB rB, zzI cy (rB 0) 4 (bkR tA 0), zzI cy (rB 1) 4 (bkR tA 1), zzI cy (rB 2) 4 (bkR tA 2), zzI cy (rB 3) 4 (bkR tA 3), zzI cy (rB 4) 4 (bkR tA 4), zzI cy (rB 5) 4 (bkR tA 5), zzI cy (rB 6) 4 (bkR tA 6), zzI cy (rB 7) 4 (bkR tA 7), zzG cy 3 qmO rO, zzI cy (rO 0) 5 (onR tA 0), zzI cy (rO 1) 5 (onR tA 1), zzI cy (rO 2) 5 (onR tA 2), zzI cy (rO 3) 5 (onR tA 3), zzI cy (rO 4) 5 (onR tA 4), zzI cy (rO 5) 5 (onR tA 5), zzI cy (rO 6) 5 (onR tA 6), zzI cy (rO 7) 5 (onR tA 7), zzG cy 3 qmK rK, zzI cy (rK 0) 8 (T_kn tA 0), zzI cy (rK 1) 8 (T_kn tA 1), zzI cy (rK 2) 8 (T_kn tA 2), zzI cy (rK 3) 8 (T_kn tA 3), zzI cy (rK 4) 8 (T_kn tA 4), zzI cy (rK 5) 8 (T_kn tA 5), zzI cy (rK 6) 8 (T_kn tA 6), zzI cy (rK 7) 8 (T_kn tA 7)] sz [.ref qm, .int iA] (Wi G (fun r u => ∃ (fNr : Nat → Int32), u = [zzO qm 5 (.ref qmh :: .ref qmo :: .ref qmz :: .ref qmR :: .ref qmv :: .ref qmk :: .ref qma :: .ref qmt :: .int (nI kZ) :: .ref qmr :: .int (nI (T_nb tA)) :: .ref qmB :: .int (nI (T_np tA)) :: .ref qmO :: .ref qmK :: .int iEn :: .int iTk :: .int (T_sd tA) :: ov uP :: ov uU :: .int (nI kAt) :: .int iTo :: .int iFr :: .long JFi :: .int iFa :: .ref qm3 :: .int iSt :: .int iLv :: .int iWs :: vLa :: .ref qmu :: .ref qmy :: .ref qmb :: .ref qms :: .int iOm :: []), zzI cy qmr 8 fNr, zzG cy 3 qmB rB, zzI cy (rB 0) 4 (bkR tA 0), zzI cy (rB 1) 4 (bkR tA 1), zzI cy (rB 2) 4 (bkR tA 2), zzI cy (rB 3) 4 (bkR tA 3), zzI cy (rB 4) 4 (bkR tA 4), zzI cy (rB 5) 4 (bkR tA 5), zzI cy (rB 6) 4 (bkR tA 6), zzI cy (rB 7) 4 (bkR tA 7), zzG cy 3 qmO rO, zzI cy (rO 0) 5 (onR tA 0), zzI cy (rO 1) 5 (onR tA 1), zzI cy (rO 2) 5 (onR tA 2), zzI cy (rO 3) 5 (onR tA 3), zzI cy (rO 4) 5 (onR tA 4), zzI cy (rO 5) 5 (onR tA 5), zzI cy (rO 6) 5 (onR tA 6), zzI cy (rO 7) 5 (onR tA 7), zzG cy 3 qmK rK, zzI cy (rK 0) 8 (T_kn tA 0), zzI cy (rK 1) 8 (T_kn tA 1), zzI cy (rK 2) 8 (T_kn tA 2), zzI cy (rK 3) 8 (T_kn tA 3), zzI cy (rK 4) 8 (T_kn tA 4), zzI cy (rK 5) 8 (T_kn tA 5), zzI cy (rK 6) 8 (T_kn tA 6), zzI cy (rK 7) 8 (T_kn tA 7)] ∧ (True))) := by
  refine enW RX6 (by decide +kernel) rfl (Nat.le_of_ble_eq_true rfl) (fun p e s m below meth c ls A hx hb hml hown hts hr hlocks hP hN hl hin hD hA hS => ?_)
  have hin : meth.name = _ := hin
  have hK := hN.1
  replace hl : lv_has ls 5 [(0, .ref qm), (1, .int iA)] := hl
  refine lv_iload_n hx hb (g_27 bX6_bear rfl) rfl (lv_at hl 1 rfl) ?_
  refine lv_i2l (v := iA.toInt64) hx hb (g_133 bX6_bear rfl) rfl ?_
  refine lv_lconst (v := 1) hx hb (g_10 bX6_bear rfl) (by decide +kernel) ?_
  refine lv_ldc2 hx hb hown (hts _ m_t1199) (g_20 (v := 239) bX6_bear rfl) ?_
  refine kRi (rS (As := [.long iA.toInt64, .long 1, .long 1000]) (rest := []) ⟨hx, hb, hml, hown, hts⟩ (c_X6_in l G cy iA.toInt64 1 1000) L_X6_74 (preRS hN hP [] rfl) rfl ⟨Nat.le_of_ble_eq_true rfl, Nat.le_of_ble_eq_true rfl⟩ hl.1 (Nat.le_of_ble_eq_true rfl) (g_184 (v := 74) bX6_bear rfl) ⟨Nat.le_of_ble_eq_true rfl, Nat.le_of_ble_eq_true rfl⟩) (fun r_1 h_2 => ?_)
  rcases h_2 with ⟨rfl, h_3⟩ | ⟨rfl, h_3⟩
  · refine lv_if_ne (tgt := 19) hx hb dX6_bear_9 (by decide +kernel) (fun _ => ?_) (fun h9 => absurd h9 (by decide +kernel))
    refine lv_iconst (v := 1) hx hb (g_4 bX6_bear rfl) (by decide +kernel) ?_
    refine lv_aload_n hx hb (g_42 bX6_bear rfl) rfl (lv_at hl 0 rfl) ?_
    refine va_get (D := G) (ci := 5) (v := .int (nI (T_np tA))) (C := RX6) (T := TX6) (N := 35) hx hb hts iX_X6 hown hK hP 0 rfl rfl 12 (by decide +kernel) (hts _ m_t862) (fun _ h9 => h9) rfl (g_180 (v := 78) bX6_bear rfl) ?_
    refine lv_ishl hx hb (g_120 bX6_bear rfl) ?_
    refine lv_iconst (v := 1) hx hb (g_4 bX6_bear rfl) (by decide +kernel) ?_
    refine lv_isub hx hb (g_100 bX6_bear rfl) ?_
    refine lv_istore_n (lv' := [(2, .int ((1 <<< ((nI (T_np tA)) &&& 31)) - 1)), (0, .ref qm), (1, .int iA)]) hx hb (g_61 bX6_bear rfl) rfl hl (by decide +kernel) rfl (fun ls => ?_)
    clear hl
    intro hl
    refine lv_iload_n hx hb (g_28 bX6_bear rfl) rfl (lv_at hl 0 rfl) ?_
    refine lv_istore_n (lv' := [(3, .int ((1 <<< ((nI (T_np tA)) &&& 31)) - 1)), (2, .int ((1 <<< ((nI (T_np tA)) &&& 31)) - 1)), (0, .ref qm), (1, .int iA)]) hx hb (g_62 bX6_bear rfl) rfl hl (by decide +kernel) rfl (fun ls => ?_)
    clear hl
    intro hl
    refine lv_iload_n hx hb (g_28 bX6_bear rfl) rfl (lv_at hl 1 rfl) ?_
    refine lv_istore (lv' := [(4, .int ((1 <<< ((nI (T_np tA)) &&& 31)) - 1)), (3, .int ((1 <<< ((nI (T_np tA)) &&& 31)) - 1)), (2, .int ((1 <<< ((nI (T_np tA)) &&& 31)) - 1)), (0, .ref qm), (1, .int iA)]) hx hb (g_54 (v := 4) bX6_bear rfl) hl (by decide +kernel) rfl (fun ls => ?_)
    clear hl
    intro hl
    rw [sh_pow (n := T_np tA) (by omega)] at hl
    have lp_5 : ∀ (n_6 : Nat) (j_8 : Nat) (x3_9 : Int32), j_8 < n_6 → j_8 ≤ 256 → ∀ (H : Heap) (locs : List Loc) (ls : Array Slot), va_P G CL [zzO qm 5 (.ref qmh :: .ref qmo :: .ref qmz :: .ref qmR :: .ref qmv :: .ref qmk :: .ref qma :: .ref qmt :: .int (nI kZ) :: .ref qmr :: .int (nI (T_nb tA)) :: .ref qmB :: .int (nI (T_np tA)) :: .ref qmO :: .ref qmK :: .int iEn :: .int iTk :: .int (T_sd tA) :: ov uP :: ov uU :: .int (nI kAt) :: .int iTo :: .int iFr :: .long JFi :: .int iFa :: .ref qm3 :: .int iSt :: .int iLv :: .int iWs :: vLa :: .ref qmu :: .ref qmy :: .ref qmb :: .ref qms :: .int iOm :: []), zzI cy qmr 8 fMr, zzG cy 3 qmB rB, zzI cy (rB 0) 4 (bkR tA 0), zzI cy (rB 1) 4 (bkR tA 1), zzI cy (rB 2) 4 (bkR tA 2), zzI cy (rB 3) 4 (bkR tA 3), zzI cy (rB 4) 4 (bkR tA 4), zzI cy (rB 5) 4 (bkR tA 5), zzI cy (rB 6) 4 (bkR tA 6), zzI cy (rB 7) 4 (bkR tA 7), zzG cy 3 qmO rO, zzI cy (rO 0) 5 (onR tA 0), zzI cy (rO 1) 5 (onR tA 1), zzI cy (rO 2) 5 (onR tA 2), zzI cy (rO 3) 5 (onR tA 3), zzI cy (rO 4) 5 (onR tA 4), zzI cy (rO 5) 5 (onR tA 5), zzI cy (rO 6) 5 (onR tA 6), zzI cy (rO 7) 5 (onR tA 7), zzG cy 3 qmK rK, zzI cy (rK 0) 8 (T_kn tA 0), zzI cy (rK 1) 8 (T_kn tA 1), zzI cy (rK 2) 8 (T_kn tA 2), zzI cy (rK 3) 8 (T_kn tA 3), zzI cy (rK 4) 8 (T_kn tA 4), zzI cy (rK 5) 8 (T_kn tA 5), zzI cy (rK 6) 8 (T_kn tA 6), zzI cy (rK 7) 8 (T_kn tA 7)] H → va_D A [zzO qm 5 (.ref qmh :: .ref qmo :: .ref qmz :: .ref qmR :: .ref qmv :: .ref qmk :: .ref qma :: .ref qmt :: .int (nI kZ) :: .ref qmr :: .int (nI (T_nb tA)) :: .ref qmB :: .int (nI (T_np tA)) :: .ref qmO :: .ref qmK :: .int iEn :: .int iTk :: .int (T_sd tA) :: ov uP :: ov uU :: .int (nI kAt) :: .int iTo :: .int iFr :: .long JFi :: .int iFa :: .ref qm3 :: .int iSt :: .int iLv :: .int iWs :: vLa :: .ref qmu :: .ref qmy :: .ref qmb :: .ref qms :: .int iOm :: []), zzI cy qmr 8 fMr, zzG cy 3 qmB rB, zzI cy (rB 0) 4 (bkR tA 0), zzI cy (rB 1) 4 (bkR tA 1), zzI cy (rB 2) 4 (bkR tA 2), zzI cy (rB 3) 4 (bkR tA 3), zzI cy (rB 4) 4 (bkR tA 4), zzI cy (rB 5) 4 (bkR tA 5), zzI cy (rB 6) 4 (bkR tA 6), zzI cy (rB 7) 4 (bkR tA 7), zzG cy 3 qmO rO, zzI cy (rO 0) 5 (onR tA 0), zzI cy (rO 1) 5 (onR tA 1), zzI cy (rO 2) 5 (onR tA 2), zzI cy (rO 3) 5 (onR tA 3), zzI cy (rO 4) 5 (onR tA 4), zzI cy (rO 5) 5 (onR tA 5), zzI cy (rO 6) 5 (onR tA 6), zzI cy (rO 7) 5 (onR tA 7), zzG cy 3 qmK rK, zzI cy (rK 0) 8 (T_kn tA 0), zzI cy (rK 1) 8 (T_kn tA 1), zzI cy (rK 2) 8 (T_kn tA 2), zzI cy (rK 3) 8 (T_kn tA 3), zzI cy (rK 4) 8 (T_kn tA 4), zzI cy (rK 5) 8 (T_kn tA 5), zzI cy (rK 6) 8 (T_kn tA 6), zzI cy (rK 7) 8 (T_kn tA 7)] → va_S A s.heap H locs → lv_has ls 5 [(4, .int (nI j_8 - 1)), (3, .int x3_9), (2, .int (nI (2 ^ T_np tA) - 1)), (0, .ref qm), (1, .int iA)] → W p l e (Rm 16 0 0) s m (List.toArray (α := Value) [.ref qm, .int iA]) below meth c H locs 0 0 (MQ below ((Wi G (fun r u => ∃ (fNr : Nat → Int32), u = [zzO qm 5 (.ref qmh :: .ref qmo :: .ref qmz :: .ref qmR :: .ref qmv :: .ref qmk :: .ref qma :: .ref qmt :: .int (nI kZ) :: .ref qmr :: .int (nI (T_nb tA)) :: .ref qmB :: .int (nI (T_np tA)) :: .ref qmO :: .ref qmK :: .int iEn :: .int iTk :: .int (T_sd tA) :: ov uP :: ov uU :: .int (nI kAt) :: .int iTo :: .int iFr :: .long JFi :: .int iFa :: .ref qm3 :: .int iSt :: .int iLv :: .int iWs :: vLa :: .ref qmu :: .ref qmy :: .ref qmb :: .ref qms :: .int iOm :: []), zzI cy qmr 8 fNr, zzG cy 3 qmB rB, zzI cy (rB 0) 4 (bkR tA 0), zzI cy (rB 1) 4 (bkR tA 1), zzI cy (rB 2) 4 (bkR tA 2), zzI cy (rB 3) 4 (bkR tA 3), zzI cy (rB 4) 4 (bkR tA 4), zzI cy (rB 5) 4 (bkR tA 5), zzI cy (rB 6) 4 (bkR tA 6), zzI cy (rB 7) 4 (bkR tA 7), zzG cy 3 qmO rO, zzI cy (rO 0) 5 (onR tA 0), zzI cy (rO 1) 5 (onR tA 1), zzI cy (rO 2) 5 (onR tA 2), zzI cy (rO 3) 5 (onR tA 3), zzI cy (rO 4) 5 (onR tA 4), zzI cy (rO 5) 5 (onR tA 5), zzI cy (rO 6) 5 (onR tA 6), zzI cy (rO 7) 5 (onR tA 7), zzG cy 3 qmK rK, zzI cy (rK 0) 8 (T_kn tA 0), zzI cy (rK 1) 8 (T_kn tA 1), zzI cy (rK 2) 8 (T_kn tA 2), zzI cy (rK 3) 8 (T_kn tA 3), zzI cy (rK 4) 8 (T_kn tA 4), zzI cy (rK 5) 8 (T_kn tA 5), zzI cy (rK 6) 8 (T_kn tA 6), zzI cy (rK 7) 8 (T_kn tA 7)] ∧ (True))) A) (List.toArray (α := Value) [.ref qm, .int iA]) s 0 0 A) (F0 m 33 ls []) := by
      intro n_6
      induction n_6 with
      | zero => intro j_8 x3_9 hm9; exact absurd hm9 (Nat.not_lt_zero _)
      | succ n_6 ih_7 =>
        intro j_8 x3_9 hm_11 hj_10 H locs ls hP hD hS hl
        refine lv_iload hx hb (g_21 (v := 4) bX6_bear rfl) (lv_at hl 0 rfl) ?_
        refine lv_if_lt (tgt := 79) hx hb dX6_bear_35 (by decide +kernel) (fun c_12 => ?_) (fun c_12 => ?_)
        · refine lv_iload_n hx hb (g_29 bX6_bear rfl) rfl (lv_at hl 1 rfl) ?_
          exact endWs [[true, true, true, true, true, true, true, true, true, true, true, true, true, true, true, true, true, true, true, true, true, true, true, true, true, true, true, true, true]] hx hb hr hlocks rfl hP hD rfl (by decide +kernel) hS ⟨fMr, rfl, trivial⟩ (g_172 bX6_bear rfl)
        · obtain ⟨m_13, em_14⟩ := m1_pos c_12
          subst em_14
          rw [nI_pred] at hl
          refine lv_aload_n hx hb (g_42 bX6_bear rfl) rfl (lv_at hl 3 rfl) ?_
          refine lv_iload_n hx hb (g_27 bX6_bear rfl) rfl (lv_at hl 4 rfl) ?_
          refine lv_iload hx hb (g_21 (v := 4) bX6_bear rfl) (lv_at hl 0 rfl) ?_
          refine kRi (rV (As := [.int iA, .int (nI m_13)]) (rest := []) (b := qm) ⟨hx, hb, hml, hown, hts⟩ (c_X6_lostBy l G cy qm (.ref qmh) (.ref qmo) (.ref qmz) (.ref qmR) (.ref qmv) (.ref qmk) (.ref qma) (.ref qmt) (.int (nI kZ)) (.ref qmr) tA qmB qmO qmK iEn iTk (ov uP) (ov uU) (.int (nI kAt)) (.int iTo) (.int iFr) (.long JFi) (.int iFa) (.ref qm3) (.int iSt) iLv iWs vLa (.ref qmu) (.ref qmy) (.ref qmb) (.ref qms) (.int iOm) rB rO rK iA (nI m_13) hB hPp) L_X6_335 (preRV (q := (RX6, TX6, 35)) hN hP (trueIx 0 [true, false, true, true, true, true, true, true, true, true, true, true, true, true, true, true, true, true, true, true, true, true, true, true, true, true, true, true, true]) (sel_fm rfl rfl) 0 5 rfl rfl) rfl ⟨Nat.le_of_ble_eq_true rfl, Nat.le_of_ble_eq_true rfl⟩ hl.1 (Nat.le_of_ble_eq_true rfl) (g_182 (v := 335) bX6_bear rfl) ⟨Nat.le_of_ble_eq_true rfl, Nat.le_of_ble_eq_true rfl⟩) (fun r_15 h_16 => ?_)
          refine lv_aload_n hx hb (g_42 bX6_bear rfl) rfl (lv_at hl 3 rfl) ?_
          refine lv_iload_n hx hb (g_27 bX6_bear rfl) rfl (lv_at hl 4 rfl) ?_
          refine lv_iload_n hx hb (g_28 bX6_bear rfl) rfl (lv_at hl 2 rfl) ?_
          refine kRi (rV (As := [.int iA, .int (nI (2 ^ T_np tA) - 1)]) (rest := [.int r_15]) (b := qm) ⟨hx, hb, hml, hown, hts⟩ (c_X6_lostBy l G cy qm (.ref qmh) (.ref qmo) (.ref qmz) (.ref qmR) (.ref qmv) (.ref qmk) (.ref qma) (.ref qmt) (.int (nI kZ)) (.ref qmr) tA qmB qmO qmK iEn iTk (ov uP) (ov uU) (.int (nI kAt)) (.int iTo) (.int iFr) (.long JFi) (.int iFa) (.ref qm3) (.int iSt) iLv iWs vLa (.ref qmu) (.ref qmy) (.ref qmb) (.ref qms) (.int iOm) rB rO rK iA (nI (2 ^ T_np tA) - 1) hB hPp) L_X6_335 (preRV (q := (RX6, TX6, 35)) hN hP (trueIx 0 [true, false, true, true, true, true, true, true, true, true, true, true, true, true, true, true, true, true, true, true, true, true, true, true, true, true, true, true, true]) (sel_fm rfl rfl) 0 5 rfl rfl) rfl ⟨Nat.le_of_ble_eq_true rfl, Nat.le_of_ble_eq_true rfl⟩ hl.1 (Nat.le_of_ble_eq_true rfl) (g_182 (v := 335) bX6_bear rfl) ⟨Nat.le_of_ble_eq_true rfl, Nat.le_of_ble_eq_true rfl⟩) (fun r_17 h_18 => ?_)
          refine lv_icmp_ne (tgt := 71) hx hb dX6_bear_51 (by decide +kernel) (fun c_19 => ?_) (fun c_19 => ?_)
          · refine lv_iload_n hx hb (g_29 bX6_bear rfl) rfl (lv_at hl 1 rfl) ?_
            refine lv_istore_n (lv' := [(3, .int x3_9), (4, .int (nI m_13)), (2, .int (nI (2 ^ T_np tA) - 1)), (0, .ref qm), (1, .int iA)]) hx hb (g_62 bX6_bear rfl) rfl hl (by decide +kernel) rfl (fun ls => ?_)
            clear hl
            intro hl
            refine lv_iinc (v := nI m_13 - 1) (lv' := [(4, .int (nI m_13 - 1)), (3, .int x3_9), (2, .int (nI (2 ^ T_np tA) - 1)), (0, .ref qm), (1, .int iA)]) hx hb dX6_bear_73 hl (k := 1) rfl (ii_m1 _) (by decide +kernel) rfl (fun ls => ?_)
            clear hl
            intro hl
            refine lv_goto (tgt := 33) hx hb dX6_bear_76 (by decide +kernel) ?_
            exact ih_7 m_13 x3_9 (by omega) (by omega) _ _ _ hP hD hS (lv_sub hl [0, 1, 2, 3, 4] rfl)
          · refine lv_iload hx hb (g_21 (v := 4) bX6_bear rfl) (lv_at hl 0 rfl) ?_
            refine kRi (rS (As := [.int (nI m_13)]) (rest := []) ⟨hx, hb, hml, hown, hts⟩ (c_X6_bits l G cy (nI m_13)) L_X6_338 (preRS hN hP [] rfl) rfl ⟨Nat.le_of_ble_eq_true rfl, Nat.le_of_ble_eq_true rfl⟩ hl.1 (Nat.le_of_ble_eq_true rfl) (g_184 (v := 338) bX6_bear rfl) ⟨Nat.le_of_ble_eq_true rfl, Nat.le_of_ble_eq_true rfl⟩) (fun r_20 h_21 => ?_)
            refine lv_iload_n hx hb (g_29 bX6_bear rfl) rfl (lv_at hl 1 rfl) ?_
            refine kRi (rS (As := [.int x3_9]) (rest := [.int r_20]) ⟨hx, hb, hml, hown, hts⟩ (c_X6_bits l G cy x3_9) L_X6_338 (preRS hN hP [] rfl) rfl ⟨Nat.le_of_ble_eq_true rfl, Nat.le_of_ble_eq_true rfl⟩ hl.1 (Nat.le_of_ble_eq_true rfl) (g_184 (v := 338) bX6_bear rfl) ⟨Nat.le_of_ble_eq_true rfl, Nat.le_of_ble_eq_true rfl⟩) (fun r_22 h_23 => ?_)
            refine lv_icmp_gt (tgt := 71) hx hb dX6_bear_63 (by decide +kernel) (fun c_24 => ?_) (fun c_24 => ?_)
            · refine lv_iload_n hx hb (g_29 bX6_bear rfl) rfl (lv_at hl 1 rfl) ?_
              refine lv_istore_n (lv' := [(3, .int x3_9), (4, .int (nI m_13)), (2, .int (nI (2 ^ T_np tA) - 1)), (0, .ref qm), (1, .int iA)]) hx hb (g_62 bX6_bear rfl) rfl hl (by decide +kernel) rfl (fun ls => ?_)
              clear hl
              intro hl
              refine lv_iinc (v := nI m_13 - 1) (lv' := [(4, .int (nI m_13 - 1)), (3, .int x3_9), (2, .int (nI (2 ^ T_np tA) - 1)), (0, .ref qm), (1, .int iA)]) hx hb dX6_bear_73 hl (k := 1) rfl (ii_m1 _) (by decide +kernel) rfl (fun ls => ?_)
              clear hl
              intro hl
              refine lv_goto (tgt := 33) hx hb dX6_bear_76 (by decide +kernel) ?_
              exact ih_7 m_13 x3_9 (by omega) (by omega) _ _ _ hP hD hS (lv_sub hl [0, 1, 2, 3, 4] rfl)
            · refine lv_iload hx hb (g_21 (v := 4) bX6_bear rfl) (lv_at hl 0 rfl) ?_
              refine lv_goto (tgt := 72) hx hb dX6_bear_68 (by decide +kernel) ?_
              refine lv_istore_n (lv' := [(3, .int (nI m_13)), (4, .int (nI m_13)), (2, .int (nI (2 ^ T_np tA) - 1)), (0, .ref qm), (1, .int iA)]) hx hb (g_62 bX6_bear rfl) rfl hl (by decide +kernel) rfl (fun ls => ?_)
              clear hl
              intro hl
              refine lv_iinc (v := nI m_13 - 1) (lv' := [(4, .int (nI m_13 - 1)), (3, .int (nI m_13)), (2, .int (nI (2 ^ T_np tA) - 1)), (0, .ref qm), (1, .int iA)]) hx hb dX6_bear_73 hl (k := 1) rfl (ii_m1 _) (by decide +kernel) rfl (fun ls => ?_)
              clear hl
              intro hl
              refine lv_goto (tgt := 33) hx hb dX6_bear_76 (by decide +kernel) ?_
              exact ih_7 m_13 (nI m_13) (by omega) (by omega) _ _ _ hP hD hS (lv_sub hl [0, 1, 2, 3, 4] rfl)
    exact lp_5 ((2 ^ T_np tA) + 1) (2 ^ T_np tA) (nI (2 ^ T_np tA) - 1) (Nat.lt_succ_self _) (pow_le8 (by omega)) _ _ ls hP hD hS (lv_sub hl [0, 1, 2, 3, 4] rfl)
  · refine lv_if_ne (tgt := 19) hx hb dX6_bear_9 (by decide +kernel) (fun h9 => absurd (by decide +kernel) h9) (fun _ => ?_)
    refine lv_aload_n hx hb (g_42 bX6_bear rfl) rfl (lv_at hl 0 rfl) ?_
    refine lv_bipush (v := (-2)) hx hb dX6_bear_13 (by decide +kernel) ?_
    refine cVi (As := [.int (-2)]) (rest := []) (b := qm) (q := (RX6, TX6, 35)) ⟨hx, hb, hml, hown, hts⟩ (c_X6_refuse2 l G cy (s.heap).size qm (.ref qmh) (.ref qmo) (.ref qmz) (.ref qmR) (.ref qmv) (.ref qmk) (.ref qma) (.ref qmt) (.int (nI kZ)) qmr tA qmB qmO qmK iEn iTk (ov uP) (ov uU) (.int (nI kAt)) (.int iTo) (.int iFr) (.long JFi) (.int iFa) (.ref qm3) (.int iSt) iLv iWs vLa (.ref qmu) (.ref qmy) (.ref qmb) (.ref qms) (.int iOm) fMr) L_X6_91 hN hP hD hS hA [0, 1] [false, false, true, true, true, true, true, true, true, true, true, true, true, true, true, true, true, true, true, true, true, true, true, true, true, true, true, true, true] rfl (by decide +kernel) rfl 0 5 rfl rfl rfl ⟨Nat.le_of_ble_eq_true rfl, Nat.le_of_ble_eq_true rfl⟩ hl.1 (Nat.le_of_ble_eq_true rfl) (g_182 (v := 91) bX6_bear rfl) ⟨Nat.le_of_ble_eq_true rfl, Nat.le_of_ble_eq_true rfl⟩ (fun r_26 u_28 H locs h_27 => ?_)
    clear hP hD hS
    intro hP hD hS
    obtain ⟨fX_29, hu9, h_27⟩ := h_27
    have hPD := pd_eq [_, _, _, _, _, _, _, _, _, _, _, _, _, _, _, _, _, _, _, _, _, _, _, _, _, _, _, _, zzI cy qmr 8 fX_29] hP hD hu9 rfl
    clear hP hD hu9
    obtain ⟨hP, hD⟩ := hPD
    subst h_27
    exact endWs [[false, false, false, false, false, false, false, false, false, false, false, false, false, false, false, false, false, false, false, false, false, false, false, false, false, false, false, true, true], [true, true, true, true, true, true, true, true, true, true, true, true, true, true, true, true, true, true, true, true, true, true, true, true, true, true, true]] hx hb hr hlocks rfl hP hD rfl (by decide +kernel) hS ⟨fX_29, rfl, trivial⟩ (g_172 bX6_bear rfl)
end
section
set_option maxHeartbeats 4000000 in
set_option maxRecDepth 100000 in
theorem p_X6_judge (l : Launch) (G : va_G) (cy : Nat → ClassId) (sz : Nat) (qm : Nat) (qmh : Nat) (qmo : Nat) (qmz : Nat) (qmR : Nat) (qmv : Nat) (qmk : Nat) (qma : Nat) (qmt : Nat) (kZ : Nat) (qmr : Nat) (tA : TA) (qmB : Nat) (qmO : Nat) (qmK : Nat) (iEn : Int32) (iTk : Int32) (uP : UM) (uU : UM) (kAt : Nat) (iTo : Int32) (iFr : Int32) (JFi : Int64) (iFa : Int32) (qm3 : Nat) (iSt : Int32) (iLv : Int32) (iWs : Int32) (vLa : Value) (qmu : Nat) (qmy : Nat) (qmb : Nat) (qms : Nat) (iOm : Int32) (fMh : Nat → Int32) (fMz : Nat → Int32) (rR : Nat → Nat) (eR : Nat → Nat → Int64) (fMr : Nat → Int32) (rB : Nat → Nat) (rO : Nat → Nat) (rK : Nat → Nat) (iA : Int32) (iB : Int32)  (hB : T_nb tA ≤ 8) (hPp : T_np tA ≤ 8) (hTI : TI tA) (hSz : ∀ s, s < 8 → ∃ n : Nat, n ≤ 40 ∧ fMz s = nI n) : MW l yX6_judge cX6_judge 4 (some .int) 16 50 888 G cy ((zzO qm 5 (.ref qmh :: .ref qmo :: .ref qmz :: .ref qmR :: .ref qmv :: .ref qmk :: .ref qma :: .ref qmt :: .int (nI kZ) :: .ref qmr :: .int (nI (T_nb tA)) :: .ref qmB :: .int (nI (T_np tA)) :: .ref qmO :: .ref qmK :: .int iEn :: .int iTk :: .int (T_sd tA) :: ov uP :: ov uU :: .int (nI kAt) :: .int iTo :: .int iFr :: .long JFi :: .int iFa :: .ref qm3 :: .int iSt :: .int iLv :: .int iWs :: vLa :: .ref qmu :: .ref qmy :: .ref qmb :: .ref qms :: .int iOm :: []) :: zzI cy qmh 8 fMh :: zzI cy qmz 8 fMz :: zzG cy 4 qmR rR :: zzJ cy (rR 0) 40 (eR 0) :: zzJ cy (rR 1) 40 (eR 1) :: zzJ cy (rR 2) 40 (eR 2) :: zzJ cy (rR 3) 40 (eR 3) :: zzJ cy (rR 4) 40 (eR 4) :: zzJ cy (rR 5) 40 (eR 5) :: zzJ cy (rR 6) 40 (eR 6) :: zzJ cy (rR 7) 40 (eR 7) :: zzI cy qmr 8 fMr :: zzG cy 3 qmB rB :: zzI cy (rB 0) 4 (bkR tA 0) :: zzI cy (rB 1) 4 (bkR tA 1) :: zzI cy (rB 2) 4 (bkR tA 2) :: zzI cy (rB 3) 4 (bkR tA 3) :: zzI cy (rB 4) 4 (bkR tA 4) :: zzI cy (rB 5) 4 (bkR tA 5) :: zzI cy (rB 6) 4 (bkR tA 6) :: zzI cy (rB 7) 4 (bkR tA 7) :: zzG cy 3 qmO rO :: zzI cy (rO 0) 5 (onR tA 0) :: zzI cy (rO 1) 5 (onR tA 1) :: zzI cy (rO 2) 5 (onR tA 2) :: zzI cy (rO 3) 5 (onR tA 3) :: zzI cy (rO 4) 5 (onR tA 4) :: zzI cy (rO 5) 5 (onR tA 5) :: zzI cy (rO 6) 5 (onR tA 6) :: zzI cy (rO 7) 5 (onR tA 7) :: zzG cy 3 qmK rK :: zzI cy (rK 0) 8 (T_kn tA 0) :: zzI cy (rK 1) 8 (T_kn tA 1) :: zzI cy (rK 2) 8 (T_kn tA 2) :: zzI cy (rK 3) 8 (T_kn tA 3) :: zzI cy (rK 4) 8 (T_kn tA 4) :: zzI cy (rK 5) 8 (T_kn tA 5) :: zzI cy (rK 6) 8 (T_kn tA 6) :: zzI cy (rK 7) 8 (T_kn tA 7) :: []) ++ oM cy uU) sz [.ref qm, .int iA, .int iB] (Wi G (fun r u => ∃ (fNr : Nat → Int32) (uN : UM), u = ((zzO qm 5 (.ref qmh :: .ref qmo :: .ref qmz :: .ref qmR :: .ref qmv :: .ref qmk :: .ref qma :: .ref qmt :: .int (nI kZ) :: .ref qmr :: .int (nI (T_nb tA)) :: .ref qmB :: .int (nI (T_np tA)) :: .ref qmO :: .ref qmK :: .int iEn :: .int iTk :: .int (T_sd tA) :: ov uP :: ov uN :: .int (nI kAt) :: .int iTo :: .int iFr :: .long JFi :: .int iFa :: .ref qm3 :: .int iSt :: .int iLv :: .int iWs :: vLa :: .ref qmu :: .ref qmy :: .ref qmb :: .ref qms :: .int iOm :: []) :: zzI cy qmh 8 fMh :: zzI cy qmz 8 fMz :: zzG cy 4 qmR rR :: zzJ cy (rR 0) 40 (eR 0) :: zzJ cy (rR 1) 40 (eR 1) :: zzJ cy (rR 2) 40 (eR 2) :: zzJ cy (rR 3) 40 (eR 3) :: zzJ cy (rR 4) 40 (eR 4) :: zzJ cy (rR 5) 40 (eR 5) :: zzJ cy (rR 6) 40 (eR 6) :: zzJ cy (rR 7) 40 (eR 7) :: zzI cy qmr 8 fNr :: zzG cy 3 qmB rB :: zzI cy (rB 0) 4 (bkR tA 0) :: zzI cy (rB 1) 4 (bkR tA 1) :: zzI cy (rB 2) 4 (bkR tA 2) :: zzI cy (rB 3) 4 (bkR tA 3) :: zzI cy (rB 4) 4 (bkR tA 4) :: zzI cy (rB 5) 4 (bkR tA 5) :: zzI cy (rB 6) 4 (bkR tA 6) :: zzI cy (rB 7) 4 (bkR tA 7) :: zzG cy 3 qmO rO :: zzI cy (rO 0) 5 (onR tA 0) :: zzI cy (rO 1) 5 (onR tA 1) :: zzI cy (rO 2) 5 (onR tA 2) :: zzI cy (rO 3) 5 (onR tA 3) :: zzI cy (rO 4) 5 (onR tA 4) :: zzI cy (rO 5) 5 (onR tA 5) :: zzI cy (rO 6) 5 (onR tA 6) :: zzI cy (rO 7) 5 (onR tA 7) :: zzG cy 3 qmK rK :: zzI cy (rK 0) 8 (T_kn tA 0) :: zzI cy (rK 1) 8 (T_kn tA 1) :: zzI cy (rK 2) 8 (T_kn tA 2) :: zzI cy (rK 3) 8 (T_kn tA 3) :: zzI cy (rK 4) 8 (T_kn tA 4) :: zzI cy (rK 5) 8 (T_kn tA 5) :: zzI cy (rK 6) 8 (T_kn tA 6) :: zzI cy (rK 7) 8 (T_kn tA 7) :: []) ++ oM cy uN) ∧ (True))) := by
  refine enW RX6 (by decide +kernel) rfl (Nat.le_of_ble_eq_true rfl) (fun p e s m below meth c ls A hx hb hml hown hts hr hlocks hP hN hl hin hD hA hS => ?_)
  have hin : meth.name = _ := hin
  have hK := hN.1
  replace hl : lv_has ls 4 [(0, .ref qm), (1, .int iA), (2, .int iB)] := hl
  refine lv_aload_n hx hb (g_42 bX6_judge rfl) rfl (lv_at hl 0 rfl) ?_
  refine lv_iload_n hx hb (g_27 bX6_judge rfl) rfl (lv_at hl 1 rfl) ?_
  refine lv_iload_n hx hb (g_28 bX6_judge rfl) rfl (lv_at hl 2 rfl) ?_
  refine cViQ (As := [.int iA, .int iB]) (rest := []) (b := qm) (q := (RX6, TX6, 35)) ⟨hx, hb, hml, hown, hts⟩ (c_X6_noTold l G cy (s.heap).size qm qmh qmo qmz qmR qmv qmk qma qmt kZ qmr tA qmB qmO qmK iEn iTk uP uU kAt iTo iFr JFi iFa qm3 iSt iLv iWs vLa qmu qmy qmb qms iOm fMh fMz fMr iA iB) L_X6_345 hN hP hD hS hA (trueIx 0 [true, true, true, false, false, false, false, false, false, false, false, false, true]) (false :: false :: false :: true :: true :: true :: true :: true :: true :: true :: true :: true :: false :: true :: true :: true :: true :: true :: true :: true :: true :: true :: true :: true :: true :: true :: true :: true :: true :: true :: true :: true :: true :: true :: true :: true :: true :: true :: true :: true :: []) (sel_eq rfl rfl) (by decide +kernel) rfl 0 5 rfl rfl rfl ⟨Nat.le_of_ble_eq_true rfl, Nat.le_of_ble_eq_true rfl⟩ hl.1 (Nat.le_of_ble_eq_true rfl) (g_182 (v := 345) bX6_judge rfl) ⟨Nat.le_of_ble_eq_true rfl, Nat.le_of_ble_eq_true rfl⟩ (fun r_1 u_3 H locs h_2 => ?_)
  clear hP hD hS
  intro hP hD hS
  obtain ⟨fX_4, hu9, h_2⟩ := h_2
  have hPD := pd_eqQ (((_ :: _ :: _ :: _ :: _ :: _ :: _ :: _ :: _ :: _ :: _ :: _ :: _ :: _ :: _ :: _ :: _ :: _ :: _ :: _ :: _ :: _ :: _ :: _ :: _ :: _ :: _ :: _ :: _ :: _ :: _ :: _ :: _ :: _ :: _ :: _ :: _ :: _ :: _ :: zzI cy qmr 8 fX_4 :: []) : va_W) ++ oM cy uU) hP hD hu9 rfl
  clear hP hD hu9
  obtain ⟨hP, hD⟩ := hPD
  rcases h_2 with rfl | rfl | rfl | ⟨rfl, h_5⟩
  · refine lv_istore_n (lv' := [(3, .int (-2)), (0, .ref qm), (1, .int iA), (2, .int iB)]) hx hb (g_62 bX6_judge rfl) rfl hl (by decide +kernel) rfl (fun ls => ?_)
    clear hl
    intro hl
    refine lv_iload_n hx hb (g_29 bX6_judge rfl) rfl (lv_at hl 0 rfl) ?_
    refine lv_if_eq (tgt := 15) hx hb dX6_judge_8 (by decide +kernel) (fun h9 => absurd h9 (by decide +kernel)) (fun _ => ?_)
    refine lv_iload_n hx hb (g_29 bX6_judge rfl) rfl (lv_at hl 0 rfl) ?_
    refine lv_goto (tgt := 21) hx hb dX6_judge_12 (by decide +kernel) ?_
    refine W.widen (k := 50) (n := 888) (Nat.le_of_ble_eq_true rfl) (Nat.le_of_ble_eq_true rfl) ?_
    exact endWt [(false :: false :: false :: false :: false :: false :: false :: false :: false :: false :: false :: false :: false :: false :: false :: false :: false :: false :: false :: false :: false :: false :: false :: false :: false :: false :: false :: false :: false :: false :: false :: false :: false :: false :: false :: false :: true :: true :: true :: []), (true :: true :: true :: true :: true :: true :: true :: true :: true :: false :: false :: false :: false :: false :: false :: false :: false :: false :: false :: false :: false :: false :: false :: false :: false :: false :: false :: false :: false :: false :: false :: false :: false :: false :: false :: false :: false :: false :: false :: true :: []), (false :: false :: false :: false :: false :: false :: false :: false :: false :: true :: true :: true :: true :: true :: true :: true :: true :: true :: true :: true :: true :: true :: true :: true :: true :: true :: true :: true :: true :: true :: true :: true :: true :: true :: true :: true :: [])] hx hb hr hlocks rfl hP hD rfl (by decide +kernel) hS ⟨fX_4, uU, rfl, trivial⟩ (g_172 bX6_judge rfl)
  · refine lv_istore_n (lv' := [(3, .int (-3)), (0, .ref qm), (1, .int iA), (2, .int iB)]) hx hb (g_62 bX6_judge rfl) rfl hl (by decide +kernel) rfl (fun ls => ?_)
    clear hl
    intro hl
    refine lv_iload_n hx hb (g_29 bX6_judge rfl) rfl (lv_at hl 0 rfl) ?_
    refine lv_if_eq (tgt := 15) hx hb dX6_judge_8 (by decide +kernel) (fun h9 => absurd h9 (by decide +kernel)) (fun _ => ?_)
    refine lv_iload_n hx hb (g_29 bX6_judge rfl) rfl (lv_at hl 0 rfl) ?_
    refine lv_goto (tgt := 21) hx hb dX6_judge_12 (by decide +kernel) ?_
    refine W.widen (k := 50) (n := 888) (Nat.le_of_ble_eq_true rfl) (Nat.le_of_ble_eq_true rfl) ?_
    exact endWt [(false :: false :: false :: false :: false :: false :: false :: false :: false :: false :: false :: false :: false :: false :: false :: false :: false :: false :: false :: false :: false :: false :: false :: false :: false :: false :: false :: false :: false :: false :: false :: false :: false :: false :: false :: false :: true :: true :: true :: []), (true :: true :: true :: true :: true :: true :: true :: true :: true :: false :: false :: false :: false :: false :: false :: false :: false :: false :: false :: false :: false :: false :: false :: false :: false :: false :: false :: false :: false :: false :: false :: false :: false :: false :: false :: false :: false :: false :: false :: true :: []), (false :: false :: false :: false :: false :: false :: false :: false :: false :: true :: true :: true :: true :: true :: true :: true :: true :: true :: true :: true :: true :: true :: true :: true :: true :: true :: true :: true :: true :: true :: true :: true :: true :: true :: true :: true :: [])] hx hb hr hlocks rfl hP hD rfl (by decide +kernel) hS ⟨fX_4, uU, rfl, trivial⟩ (g_172 bX6_judge rfl)
  · refine lv_istore_n (lv' := [(3, .int (-4)), (0, .ref qm), (1, .int iA), (2, .int iB)]) hx hb (g_62 bX6_judge rfl) rfl hl (by decide +kernel) rfl (fun ls => ?_)
    clear hl
    intro hl
    refine lv_iload_n hx hb (g_29 bX6_judge rfl) rfl (lv_at hl 0 rfl) ?_
    refine lv_if_eq (tgt := 15) hx hb dX6_judge_8 (by decide +kernel) (fun h9 => absurd h9 (by decide +kernel)) (fun _ => ?_)
    refine lv_iload_n hx hb (g_29 bX6_judge rfl) rfl (lv_at hl 0 rfl) ?_
    refine lv_goto (tgt := 21) hx hb dX6_judge_12 (by decide +kernel) ?_
    refine W.widen (k := 50) (n := 888) (Nat.le_of_ble_eq_true rfl) (Nat.le_of_ble_eq_true rfl) ?_
    exact endWt [(false :: false :: false :: false :: false :: false :: false :: false :: false :: false :: false :: false :: false :: false :: false :: false :: false :: false :: false :: false :: false :: false :: false :: false :: false :: false :: false :: false :: false :: false :: false :: false :: false :: false :: false :: false :: true :: true :: true :: []), (true :: true :: true :: true :: true :: true :: true :: true :: true :: false :: false :: false :: false :: false :: false :: false :: false :: false :: false :: false :: false :: false :: false :: false :: false :: false :: false :: false :: false :: false :: false :: false :: false :: false :: false :: false :: false :: false :: false :: true :: []), (false :: false :: false :: false :: false :: false :: false :: false :: false :: true :: true :: true :: true :: true :: true :: true :: true :: true :: true :: true :: true :: true :: true :: true :: true :: true :: true :: true :: true :: true :: true :: true :: true :: true :: true :: true :: [])] hx hb hr hlocks rfl hP hD rfl (by decide +kernel) hS ⟨fX_4, uU, rfl, trivial⟩ (g_172 bX6_judge rfl)
  · obtain ⟨k_9, hk_10, rfl, h_11, h_12, h_13, h_14⟩ := h_5
    refine lv_istore_n (lv' := [(3, .int 0), (0, .ref qm), (1, .int (nI k_9)), (2, .int iB)]) hx hb (g_62 bX6_judge rfl) rfl hl (by decide +kernel) rfl (fun ls => ?_)
    clear hl
    intro hl
    refine lv_iload_n hx hb (g_29 bX6_judge rfl) rfl (lv_at hl 0 rfl) ?_
    refine lv_if_eq (tgt := 15) hx hb dX6_judge_8 (by decide +kernel) (fun _ => ?_) (fun h9 => absurd (by decide +kernel) h9)
    refine lv_aload_n hx hb (g_42 bX6_judge rfl) rfl (lv_at hl 1 rfl) ?_
    refine lv_iload_n hx hb (g_27 bX6_judge rfl) rfl (lv_at hl 2 rfl) ?_
    refine lv_iload_n hx hb (g_28 bX6_judge rfl) rfl (lv_at hl 3 rfl) ?_
    obtain ⟨k_16, hk_17, hk_18, rfl⟩ := iv_nI 0 20 (by decide +kernel) (by decide +kernel) h_14
    refine cViP (As := [.int (nI k_9), .int (nI k_16)]) (rest := []) (b := qm) (q := (RX6, TX6, 35)) ⟨hx, hb, hml, hown, hts⟩ (c_X6_wrongAt l G cy (H).size qm qmh qmo qmz qmR qmv qmk qma qmt kZ qmr tA qmB qmO qmK iEn iTk uP uU kAt iTo iFr JFi iFa qm3 iSt iLv iWs vLa qmu qmy qmb qms iOm rR eR rB rO rK k_9 k_16 (by first | omega | (simp only [nb_sr, np_sr, nb_wr, np_wr, nb_rd, np_rd, nb_ch, np_ch, nb_zr, np_zr, nb_za, np_za, nb_ey, np_ey, nb_hf, np_hf, nb_dd, np_dd, nb_so, np_so, nb_skn, np_skn, nb_swh, np_swh, nb_sgn, np_sgn, nb_ssd, np_ssd, nb_sgo, np_sgo, nb_sag, np_sag]; omega)) (by first | omega | (simp only [nb_sr, np_sr, nb_wr, np_wr, nb_rd, np_rd, nb_ch, np_ch, nb_zr, np_zr, nb_za, np_za, nb_ey, np_ey, nb_hf, np_hf, nb_dd, np_dd, nb_so, np_so, nb_skn, np_skn, nb_swh, np_swh, nb_sgn, np_sgn, nb_ssd, np_ssd, nb_sgo, np_sgo, nb_sag, np_sag]; omega)) hB hPp) L_X6_348 hN hP hD hS hA (trueIxs [(false :: false :: false :: false :: false :: false :: false :: false :: false :: false :: false :: false :: false :: false :: false :: false :: false :: false :: false :: false :: false :: false :: false :: false :: false :: false :: false :: false :: false :: false :: false :: false :: false :: false :: false :: false :: true :: []), (true :: true :: true :: true :: true :: true :: true :: true :: true :: true :: true :: true :: true :: true :: true :: true :: true :: true :: true :: true :: true :: true :: true :: true :: true :: true :: true :: true :: true :: true :: true :: true :: true :: true :: true :: true :: [])]) (false :: false :: false :: false :: false :: false :: false :: false :: false :: false :: false :: false :: false :: false :: false :: false :: false :: false :: false :: false :: false :: false :: false :: false :: false :: false :: false :: false :: false :: false :: false :: false :: false :: false :: false :: false :: false :: true :: true :: true :: []) (sels_eq rfl rfl) (by decide +kernel) rfl 36 5 rfl rfl rfl ⟨Nat.le_of_ble_eq_true rfl, Nat.le_of_ble_eq_true rfl⟩ hl.1 (Nat.le_of_ble_eq_true rfl) (g_182 (v := 348) bX6_judge rfl) ⟨Nat.le_of_ble_eq_true rfl, Nat.le_of_ble_eq_true rfl⟩ (fun r_19 u_21 H locs h_20 => ?_)
    clear hP hD hS
    intro hP hD hS
    obtain ⟨qU_22, qUB_23, qUO_24, qUK_25, rUB_26, rUO_27, rUK_28, xU_29, tX_30, iXe_31, iXt_32, iXl_33, iXw_34, rfl, h_35, h_20⟩ := h_20
    have hPD := pd_as (_ :: _ :: _ :: zzO qm 5 (.ref qmh :: .ref qmo :: .ref qmz :: .ref qmR :: .ref qmv :: .ref qmk :: .ref qma :: .ref qmt :: .int (nI kZ) :: .ref qmr :: .int (nI (T_nb tA)) :: .ref qmB :: .int (nI (T_np tA)) :: .ref qmO :: .ref qmK :: .int iEn :: .int iTk :: .int (T_sd tA) :: ov uP :: .ref qU_22 :: .int (nI kAt) :: .int iTo :: .int iFr :: .long JFi :: .int iFa :: .ref qm3 :: .int iSt :: .int iLv :: .int iWs :: vLa :: .ref qmu :: .ref qmy :: .ref qmb :: .ref qms :: .int iOm :: []) :: _ :: _ :: _ :: _ :: _ :: _ :: _ :: _ :: _ :: _ :: _ :: _ :: _ :: _ :: _ :: _ :: _ :: _ :: _ :: _ :: _ :: _ :: _ :: _ :: _ :: _ :: _ :: _ :: _ :: _ :: _ :: _ :: _ :: _ :: _ :: _ :: zzO qU_22 5 (xU_29 0 :: xU_29 1 :: xU_29 2 :: xU_29 3 :: xU_29 4 :: xU_29 5 :: xU_29 6 :: xU_29 7 :: xU_29 8 :: xU_29 9 :: .int (nI (T_nb tX_30)) :: .ref qUB_23 :: .int (nI (T_np tX_30)) :: .ref qUO_24 :: .ref qUK_25 :: .int iXe_31 :: .int iXt_32 :: .int (T_sd tX_30) :: xU_29 18 :: xU_29 19 :: xU_29 20 :: xU_29 21 :: xU_29 22 :: xU_29 23 :: xU_29 24 :: xU_29 25 :: xU_29 26 :: .int iXl_33 :: .int iXw_34 :: xU_29 29 :: xU_29 30 :: xU_29 31 :: xU_29 32 :: xU_29 33 :: xU_29 34 :: []) :: zzG cy 3 qUB_23 rUB_26 :: zzI cy (rUB_26 0) 4 (bkR tX_30 0) :: zzI cy (rUB_26 1) 4 (bkR tX_30 1) :: zzI cy (rUB_26 2) 4 (bkR tX_30 2) :: zzI cy (rUB_26 3) 4 (bkR tX_30 3) :: zzI cy (rUB_26 4) 4 (bkR tX_30 4) :: zzI cy (rUB_26 5) 4 (bkR tX_30 5) :: zzI cy (rUB_26 6) 4 (bkR tX_30 6) :: zzI cy (rUB_26 7) 4 (bkR tX_30 7) :: zzG cy 3 qUO_24 rUO_27 :: zzI cy (rUO_27 0) 5 (onR tX_30 0) :: zzI cy (rUO_27 1) 5 (onR tX_30 1) :: zzI cy (rUO_27 2) 5 (onR tX_30 2) :: zzI cy (rUO_27 3) 5 (onR tX_30 3) :: zzI cy (rUO_27 4) 5 (onR tX_30 4) :: zzI cy (rUO_27 5) 5 (onR tX_30 5) :: zzI cy (rUO_27 6) 5 (onR tX_30 6) :: zzI cy (rUO_27 7) 5 (onR tX_30 7) :: zzG cy 3 qUK_25 rUK_28 :: zzI cy (rUK_28 0) 8 (T_kn tX_30 0) :: zzI cy (rUK_28 1) 8 (T_kn tX_30 1) :: zzI cy (rUK_28 2) 8 (T_kn tX_30 2) :: zzI cy (rUK_28 3) 8 (T_kn tX_30 3) :: zzI cy (rUK_28 4) 8 (T_kn tX_30 4) :: zzI cy (rUK_28 5) 8 (T_kn tX_30 5) :: zzI cy (rUK_28 6) 8 (T_kn tX_30 6) :: zzI cy (rUK_28 7) 8 (T_kn tX_30 7) :: []) hP hD rfl
    clear hP hD
    obtain ⟨hP, hD⟩ := hPD
    refine W.widen (k := 50) (n := 888) (Nat.le_of_ble_eq_true rfl) (Nat.le_of_ble_eq_true rfl) ?_
    exact endWs [[false, false, false, true], [true, true, false, false, true, true, true, true, true, true, true, true, true], (false :: false :: true :: false :: false :: false :: false :: false :: false :: false :: false :: false :: false :: true :: true :: true :: true :: true :: true :: true :: true :: true :: true :: true :: true :: true :: true :: true :: true :: true :: true :: true :: true :: true :: true :: true :: true :: true :: true :: true :: true :: true :: true :: true :: true :: true :: true :: true :: true :: true :: true :: true :: true :: true :: true :: true :: true :: true :: true :: true :: true :: true :: true :: true :: true :: true :: true :: true :: [])] hx hb hr hlocks rfl hP hD rfl (by decide +kernel) hS ⟨fX_4, (some (qU_22, qUB_23, qUO_24, qUK_25, rUB_26, rUO_27, rUK_28, tX_30, xU_29, iXe_31, iXt_32, iXl_33, iXw_34)), rfl, trivial⟩ (g_172 bX6_judge rfl)
set_option maxHeartbeats 4000000 in
set_option maxRecDepth 100000 in
theorem p_X6_told (l : Launch) (G : va_G) (cy : Nat → ClassId) (sz : Nat) (qm : Nat) (qmh : Nat) (qmo : Nat) (qmz : Nat) (qmR : Nat) (qmv : Nat) (qmk : Nat) (qma : Nat) (qmt : Nat) (kZ : Nat) (qmr : Nat) (tA : TA) (qmB : Nat) (qmO : Nat) (qmK : Nat) (iEn : Int32) (iTk : Int32) (uP : UM) (uU : UM) (kAt : Nat) (iTo : Int32) (iFr : Int32) (JFi : Int64) (iFa : Int32) (qm3 : Nat) (iSt : Int32) (iLv : Int32) (iWs : Int32) (vLa : Value) (qmu : Nat) (qmy : Nat) (qmb : Nat) (qms : Nat) (iOm : Int32) (fMh : Nat → Int32) (fMz : Nat → Int32) (rR : Nat → Nat) (eR : Nat → Nat → Int64) (fMr : Nat → Int32) (rB : Nat → Nat) (rO : Nat → Nat) (rK : Nat → Nat) (iA : Int32) (iB : Int32)  (hB : T_nb tA ≤ 8) (hPp : T_np tA ≤ 8) (hTI : TI tA) (hSz : ∀ s, s < 8 → ∃ n : Nat, n ≤ 40 ∧ fMz s = nI n) : MW l yX6_told cX6_told 4 (some .int) 16 50 888 G cy ((zzO qm 5 (.ref qmh :: .ref qmo :: .ref qmz :: .ref qmR :: .ref qmv :: .ref qmk :: .ref qma :: .ref qmt :: .int (nI kZ) :: .ref qmr :: .int (nI (T_nb tA)) :: .ref qmB :: .int (nI (T_np tA)) :: .ref qmO :: .ref qmK :: .int iEn :: .int iTk :: .int (T_sd tA) :: ov uP :: ov uU :: .int (nI kAt) :: .int iTo :: .int iFr :: .long JFi :: .int iFa :: .ref qm3 :: .int iSt :: .int iLv :: .int iWs :: vLa :: .ref qmu :: .ref qmy :: .ref qmb :: .ref qms :: .int iOm :: []) :: zzI cy qmh 8 fMh :: zzI cy qmz 8 fMz :: zzG cy 4 qmR rR :: zzJ cy (rR 0) 40 (eR 0) :: zzJ cy (rR 1) 40 (eR 1) :: zzJ cy (rR 2) 40 (eR 2) :: zzJ cy (rR 3) 40 (eR 3) :: zzJ cy (rR 4) 40 (eR 4) :: zzJ cy (rR 5) 40 (eR 5) :: zzJ cy (rR 6) 40 (eR 6) :: zzJ cy (rR 7) 40 (eR 7) :: zzI cy qmr 8 fMr :: zzG cy 3 qmB rB :: zzI cy (rB 0) 4 (bkR tA 0) :: zzI cy (rB 1) 4 (bkR tA 1) :: zzI cy (rB 2) 4 (bkR tA 2) :: zzI cy (rB 3) 4 (bkR tA 3) :: zzI cy (rB 4) 4 (bkR tA 4) :: zzI cy (rB 5) 4 (bkR tA 5) :: zzI cy (rB 6) 4 (bkR tA 6) :: zzI cy (rB 7) 4 (bkR tA 7) :: zzG cy 3 qmO rO :: zzI cy (rO 0) 5 (onR tA 0) :: zzI cy (rO 1) 5 (onR tA 1) :: zzI cy (rO 2) 5 (onR tA 2) :: zzI cy (rO 3) 5 (onR tA 3) :: zzI cy (rO 4) 5 (onR tA 4) :: zzI cy (rO 5) 5 (onR tA 5) :: zzI cy (rO 6) 5 (onR tA 6) :: zzI cy (rO 7) 5 (onR tA 7) :: zzG cy 3 qmK rK :: zzI cy (rK 0) 8 (T_kn tA 0) :: zzI cy (rK 1) 8 (T_kn tA 1) :: zzI cy (rK 2) 8 (T_kn tA 2) :: zzI cy (rK 3) 8 (T_kn tA 3) :: zzI cy (rK 4) 8 (T_kn tA 4) :: zzI cy (rK 5) 8 (T_kn tA 5) :: zzI cy (rK 6) 8 (T_kn tA 6) :: zzI cy (rK 7) 8 (T_kn tA 7) :: []) ++ oM cy uU) sz [.ref qm, .int iA, .int iB] (Wi G (fun r u => ∃ (fNr : Nat → Int32) (uN : UM), u = ((zzO qm 5 (.ref qmh :: .ref qmo :: .ref qmz :: .ref qmR :: .ref qmv :: .ref qmk :: .ref qma :: .ref qmt :: .int (nI kZ) :: .ref qmr :: .int (nI (T_nb tA)) :: .ref qmB :: .int (nI (T_np tA)) :: .ref qmO :: .ref qmK :: .int iEn :: .int iTk :: .int (T_sd tA) :: ov uP :: ov uN :: .int (nI kAt) :: .int iTo :: .int iFr :: .long JFi :: .int iFa :: .ref qm3 :: .int iSt :: .int iLv :: .int iWs :: vLa :: .ref qmu :: .ref qmy :: .ref qmb :: .ref qms :: .int iOm :: []) :: zzI cy qmh 8 fMh :: zzI cy qmz 8 fMz :: zzG cy 4 qmR rR :: zzJ cy (rR 0) 40 (eR 0) :: zzJ cy (rR 1) 40 (eR 1) :: zzJ cy (rR 2) 40 (eR 2) :: zzJ cy (rR 3) 40 (eR 3) :: zzJ cy (rR 4) 40 (eR 4) :: zzJ cy (rR 5) 40 (eR 5) :: zzJ cy (rR 6) 40 (eR 6) :: zzJ cy (rR 7) 40 (eR 7) :: zzI cy qmr 8 fNr :: zzG cy 3 qmB rB :: zzI cy (rB 0) 4 (bkR tA 0) :: zzI cy (rB 1) 4 (bkR tA 1) :: zzI cy (rB 2) 4 (bkR tA 2) :: zzI cy (rB 3) 4 (bkR tA 3) :: zzI cy (rB 4) 4 (bkR tA 4) :: zzI cy (rB 5) 4 (bkR tA 5) :: zzI cy (rB 6) 4 (bkR tA 6) :: zzI cy (rB 7) 4 (bkR tA 7) :: zzG cy 3 qmO rO :: zzI cy (rO 0) 5 (onR tA 0) :: zzI cy (rO 1) 5 (onR tA 1) :: zzI cy (rO 2) 5 (onR tA 2) :: zzI cy (rO 3) 5 (onR tA 3) :: zzI cy (rO 4) 5 (onR tA 4) :: zzI cy (rO 5) 5 (onR tA 5) :: zzI cy (rO 6) 5 (onR tA 6) :: zzI cy (rO 7) 5 (onR tA 7) :: zzG cy 3 qmK rK :: zzI cy (rK 0) 8 (T_kn tA 0) :: zzI cy (rK 1) 8 (T_kn tA 1) :: zzI cy (rK 2) 8 (T_kn tA 2) :: zzI cy (rK 3) 8 (T_kn tA 3) :: zzI cy (rK 4) 8 (T_kn tA 4) :: zzI cy (rK 5) 8 (T_kn tA 5) :: zzI cy (rK 6) 8 (T_kn tA 6) :: zzI cy (rK 7) 8 (T_kn tA 7) :: []) ++ oM cy uN) ∧ (True))) := by
  refine enW RX6 (by decide +kernel) rfl (Nat.le_of_ble_eq_true rfl) (fun p e s m below meth c ls A hx hb hml hown hts hr hlocks hP hN hl hin hD hA hS => ?_)
  have hin : meth.name = _ := hin
  have hK := hN.1
  replace hl : lv_has ls 4 [(0, .ref qm), (1, .int iA), (2, .int iB)] := hl
  refine lv_aload_n hx hb (g_42 bX6_told rfl) rfl (lv_at hl 0 rfl) ?_
  refine lv_iload_n hx hb (g_27 bX6_told rfl) rfl (lv_at hl 1 rfl) ?_
  refine lv_iload_n hx hb (g_28 bX6_told rfl) rfl (lv_at hl 2 rfl) ?_
  refine cViQ (As := [.int iA, .int iB]) (rest := []) (b := qm) (q := (RX6, TX6, 35)) ⟨hx, hb, hml, hown, hts⟩ (c_X6_noTold l G cy (s.heap).size qm qmh qmo qmz qmR qmv qmk qma qmt kZ qmr tA qmB qmO qmK iEn iTk uP uU kAt iTo iFr JFi iFa qm3 iSt iLv iWs vLa qmu qmy qmb qms iOm fMh fMz fMr iA iB) L_X6_345 hN hP hD hS hA (trueIx 0 [true, true, true, false, false, false, false, false, false, false, false, false, true]) (false :: false :: false :: true :: true :: true :: true :: true :: true :: true :: true :: true :: false :: true :: true :: true :: true :: true :: true :: true :: true :: true :: true :: true :: true :: true :: true :: true :: true :: true :: true :: true :: true :: true :: true :: true :: true :: true :: true :: true :: []) (sel_eq rfl rfl) (by decide +kernel) rfl 0 5 rfl rfl rfl ⟨Nat.le_of_ble_eq_true rfl, Nat.le_of_ble_eq_true rfl⟩ hl.1 (Nat.le_of_ble_eq_true rfl) (g_182 (v := 345) bX6_told rfl) ⟨Nat.le_of_ble_eq_true rfl, Nat.le_of_ble_eq_true rfl⟩ (fun r_1 u_3 H locs h_2 => ?_)
  clear hP hD hS
  intro hP hD hS
  obtain ⟨fX_4, hu9, h_2⟩ := h_2
  have hPD := pd_eqQ (((_ :: _ :: _ :: _ :: _ :: _ :: _ :: _ :: _ :: _ :: _ :: _ :: _ :: _ :: _ :: _ :: _ :: _ :: _ :: _ :: _ :: _ :: _ :: _ :: _ :: _ :: _ :: _ :: _ :: _ :: _ :: _ :: _ :: _ :: _ :: _ :: _ :: _ :: _ :: zzI cy qmr 8 fX_4 :: []) : va_W) ++ oM cy uU) hP hD hu9 rfl
  clear hP hD hu9
  obtain ⟨hP, hD⟩ := hPD
  rcases h_2 with rfl | rfl | rfl | ⟨rfl, h_5⟩
  · refine lv_istore_n (lv' := [(3, .int (-2)), (0, .ref qm), (1, .int iA), (2, .int iB)]) hx hb (g_62 bX6_told rfl) rfl hl (by decide +kernel) rfl (fun ls => ?_)
    clear hl
    intro hl
    refine lv_iload_n hx hb (g_29 bX6_told rfl) rfl (lv_at hl 0 rfl) ?_
    refine lv_if_eq (tgt := 13) hx hb dX6_told_8 (by decide +kernel) (fun h9 => absurd h9 (by decide +kernel)) (fun _ => ?_)
    refine lv_iload_n hx hb (g_29 bX6_told rfl) rfl (lv_at hl 0 rfl) ?_
    refine W.widen (k := 50) (n := 888) (Nat.le_of_ble_eq_true rfl) (Nat.le_of_ble_eq_true rfl) ?_
    exact endWt [(false :: false :: false :: false :: false :: false :: false :: false :: false :: false :: false :: false :: false :: false :: false :: false :: false :: false :: false :: false :: false :: false :: false :: false :: false :: false :: false :: false :: false :: false :: false :: false :: false :: false :: false :: false :: true :: true :: true :: []), (true :: true :: true :: true :: true :: true :: true :: true :: true :: false :: false :: false :: false :: false :: false :: false :: false :: false :: false :: false :: false :: false :: false :: false :: false :: false :: false :: false :: false :: false :: false :: false :: false :: false :: false :: false :: false :: false :: false :: true :: []), (false :: false :: false :: false :: false :: false :: false :: false :: false :: true :: true :: true :: true :: true :: true :: true :: true :: true :: true :: true :: true :: true :: true :: true :: true :: true :: true :: true :: true :: true :: true :: true :: true :: true :: true :: true :: [])] hx hb hr hlocks rfl hP hD rfl (by decide +kernel) hS ⟨fX_4, uU, rfl, trivial⟩ (g_172 bX6_told rfl)
  · refine lv_istore_n (lv' := [(3, .int (-3)), (0, .ref qm), (1, .int iA), (2, .int iB)]) hx hb (g_62 bX6_told rfl) rfl hl (by decide +kernel) rfl (fun ls => ?_)
    clear hl
    intro hl
    refine lv_iload_n hx hb (g_29 bX6_told rfl) rfl (lv_at hl 0 rfl) ?_
    refine lv_if_eq (tgt := 13) hx hb dX6_told_8 (by decide +kernel) (fun h9 => absurd h9 (by decide +kernel)) (fun _ => ?_)
    refine lv_iload_n hx hb (g_29 bX6_told rfl) rfl (lv_at hl 0 rfl) ?_
    refine W.widen (k := 50) (n := 888) (Nat.le_of_ble_eq_true rfl) (Nat.le_of_ble_eq_true rfl) ?_
    exact endWt [(false :: false :: false :: false :: false :: false :: false :: false :: false :: false :: false :: false :: false :: false :: false :: false :: false :: false :: false :: false :: false :: false :: false :: false :: false :: false :: false :: false :: false :: false :: false :: false :: false :: false :: false :: false :: true :: true :: true :: []), (true :: true :: true :: true :: true :: true :: true :: true :: true :: false :: false :: false :: false :: false :: false :: false :: false :: false :: false :: false :: false :: false :: false :: false :: false :: false :: false :: false :: false :: false :: false :: false :: false :: false :: false :: false :: false :: false :: false :: true :: []), (false :: false :: false :: false :: false :: false :: false :: false :: false :: true :: true :: true :: true :: true :: true :: true :: true :: true :: true :: true :: true :: true :: true :: true :: true :: true :: true :: true :: true :: true :: true :: true :: true :: true :: true :: true :: [])] hx hb hr hlocks rfl hP hD rfl (by decide +kernel) hS ⟨fX_4, uU, rfl, trivial⟩ (g_172 bX6_told rfl)
  · refine lv_istore_n (lv' := [(3, .int (-4)), (0, .ref qm), (1, .int iA), (2, .int iB)]) hx hb (g_62 bX6_told rfl) rfl hl (by decide +kernel) rfl (fun ls => ?_)
    clear hl
    intro hl
    refine lv_iload_n hx hb (g_29 bX6_told rfl) rfl (lv_at hl 0 rfl) ?_
    refine lv_if_eq (tgt := 13) hx hb dX6_told_8 (by decide +kernel) (fun h9 => absurd h9 (by decide +kernel)) (fun _ => ?_)
    refine lv_iload_n hx hb (g_29 bX6_told rfl) rfl (lv_at hl 0 rfl) ?_
    refine W.widen (k := 50) (n := 888) (Nat.le_of_ble_eq_true rfl) (Nat.le_of_ble_eq_true rfl) ?_
    exact endWt [(false :: false :: false :: false :: false :: false :: false :: false :: false :: false :: false :: false :: false :: false :: false :: false :: false :: false :: false :: false :: false :: false :: false :: false :: false :: false :: false :: false :: false :: false :: false :: false :: false :: false :: false :: false :: true :: true :: true :: []), (true :: true :: true :: true :: true :: true :: true :: true :: true :: false :: false :: false :: false :: false :: false :: false :: false :: false :: false :: false :: false :: false :: false :: false :: false :: false :: false :: false :: false :: false :: false :: false :: false :: false :: false :: false :: false :: false :: false :: true :: []), (false :: false :: false :: false :: false :: false :: false :: false :: false :: true :: true :: true :: true :: true :: true :: true :: true :: true :: true :: true :: true :: true :: true :: true :: true :: true :: true :: true :: true :: true :: true :: true :: true :: true :: true :: true :: [])] hx hb hr hlocks rfl hP hD rfl (by decide +kernel) hS ⟨fX_4, uU, rfl, trivial⟩ (g_172 bX6_told rfl)
  · obtain ⟨k_9, hk_10, rfl, h_11, h_12, h_13, h_14⟩ := h_5
    refine lv_istore_n (lv' := [(3, .int 0), (0, .ref qm), (1, .int (nI k_9)), (2, .int iB)]) hx hb (g_62 bX6_told rfl) rfl hl (by decide +kernel) rfl (fun ls => ?_)
    clear hl
    intro hl
    refine lv_iload_n hx hb (g_29 bX6_told rfl) rfl (lv_at hl 0 rfl) ?_
    refine lv_if_eq (tgt := 13) hx hb dX6_told_8 (by decide +kernel) (fun _ => ?_) (fun h9 => absurd (by decide +kernel) h9)
    refine lv_aload_n hx hb (g_42 bX6_told rfl) rfl (lv_at hl 1 rfl) ?_
    refine lv_iload_n hx hb (g_27 bX6_told rfl) rfl (lv_at hl 2 rfl) ?_
    refine lv_iload_n hx hb (g_28 bX6_told rfl) rfl (lv_at hl 3 rfl) ?_
    obtain ⟨k_16, hk_17, hk_18, rfl⟩ := iv_nI 0 20 (by decide +kernel) (by decide +kernel) h_14
    refine cViP (As := [.int (nI k_9), .int (nI k_16)]) (rest := []) (b := qm) (q := (RX6, TX6, 35)) ⟨hx, hb, hml, hown, hts⟩ (c_X6_wrongAt l G cy (H).size qm qmh qmo qmz qmR qmv qmk qma qmt kZ qmr tA qmB qmO qmK iEn iTk uP uU kAt iTo iFr JFi iFa qm3 iSt iLv iWs vLa qmu qmy qmb qms iOm rR eR rB rO rK k_9 k_16 (by first | omega | (simp only [nb_sr, np_sr, nb_wr, np_wr, nb_rd, np_rd, nb_ch, np_ch, nb_zr, np_zr, nb_za, np_za, nb_ey, np_ey, nb_hf, np_hf, nb_dd, np_dd, nb_so, np_so, nb_skn, np_skn, nb_swh, np_swh, nb_sgn, np_sgn, nb_ssd, np_ssd, nb_sgo, np_sgo, nb_sag, np_sag]; omega)) (by first | omega | (simp only [nb_sr, np_sr, nb_wr, np_wr, nb_rd, np_rd, nb_ch, np_ch, nb_zr, np_zr, nb_za, np_za, nb_ey, np_ey, nb_hf, np_hf, nb_dd, np_dd, nb_so, np_so, nb_skn, np_skn, nb_swh, np_swh, nb_sgn, np_sgn, nb_ssd, np_ssd, nb_sgo, np_sgo, nb_sag, np_sag]; omega)) hB hPp) L_X6_348 hN hP hD hS hA (trueIxs [(false :: false :: false :: false :: false :: false :: false :: false :: false :: false :: false :: false :: false :: false :: false :: false :: false :: false :: false :: false :: false :: false :: false :: false :: false :: false :: false :: false :: false :: false :: false :: false :: false :: false :: false :: false :: true :: []), (true :: true :: true :: true :: true :: true :: true :: true :: true :: true :: true :: true :: true :: true :: true :: true :: true :: true :: true :: true :: true :: true :: true :: true :: true :: true :: true :: true :: true :: true :: true :: true :: true :: true :: true :: true :: [])]) (false :: false :: false :: false :: false :: false :: false :: false :: false :: false :: false :: false :: false :: false :: false :: false :: false :: false :: false :: false :: false :: false :: false :: false :: false :: false :: false :: false :: false :: false :: false :: false :: false :: false :: false :: false :: false :: true :: true :: true :: []) (sels_eq rfl rfl) (by decide +kernel) rfl 36 5 rfl rfl rfl ⟨Nat.le_of_ble_eq_true rfl, Nat.le_of_ble_eq_true rfl⟩ hl.1 (Nat.le_of_ble_eq_true rfl) (g_182 (v := 348) bX6_told rfl) ⟨Nat.le_of_ble_eq_true rfl, Nat.le_of_ble_eq_true rfl⟩ (fun r_19 u_21 H locs h_20 => ?_)
    clear hP hD hS
    intro hP hD hS
    obtain ⟨qU_22, qUB_23, qUO_24, qUK_25, rUB_26, rUO_27, rUK_28, xU_29, tX_30, iXe_31, iXt_32, iXl_33, iXw_34, rfl, h_35, h_20⟩ := h_20
    have hPD := pd_as (_ :: _ :: _ :: zzO qm 5 (.ref qmh :: .ref qmo :: .ref qmz :: .ref qmR :: .ref qmv :: .ref qmk :: .ref qma :: .ref qmt :: .int (nI kZ) :: .ref qmr :: .int (nI (T_nb tA)) :: .ref qmB :: .int (nI (T_np tA)) :: .ref qmO :: .ref qmK :: .int iEn :: .int iTk :: .int (T_sd tA) :: ov uP :: .ref qU_22 :: .int (nI kAt) :: .int iTo :: .int iFr :: .long JFi :: .int iFa :: .ref qm3 :: .int iSt :: .int iLv :: .int iWs :: vLa :: .ref qmu :: .ref qmy :: .ref qmb :: .ref qms :: .int iOm :: []) :: _ :: _ :: _ :: _ :: _ :: _ :: _ :: _ :: _ :: _ :: _ :: _ :: _ :: _ :: _ :: _ :: _ :: _ :: _ :: _ :: _ :: _ :: _ :: _ :: _ :: _ :: _ :: _ :: _ :: _ :: _ :: _ :: _ :: _ :: _ :: _ :: zzO qU_22 5 (xU_29 0 :: xU_29 1 :: xU_29 2 :: xU_29 3 :: xU_29 4 :: xU_29 5 :: xU_29 6 :: xU_29 7 :: xU_29 8 :: xU_29 9 :: .int (nI (T_nb tX_30)) :: .ref qUB_23 :: .int (nI (T_np tX_30)) :: .ref qUO_24 :: .ref qUK_25 :: .int iXe_31 :: .int iXt_32 :: .int (T_sd tX_30) :: xU_29 18 :: xU_29 19 :: xU_29 20 :: xU_29 21 :: xU_29 22 :: xU_29 23 :: xU_29 24 :: xU_29 25 :: xU_29 26 :: .int iXl_33 :: .int iXw_34 :: xU_29 29 :: xU_29 30 :: xU_29 31 :: xU_29 32 :: xU_29 33 :: xU_29 34 :: []) :: zzG cy 3 qUB_23 rUB_26 :: zzI cy (rUB_26 0) 4 (bkR tX_30 0) :: zzI cy (rUB_26 1) 4 (bkR tX_30 1) :: zzI cy (rUB_26 2) 4 (bkR tX_30 2) :: zzI cy (rUB_26 3) 4 (bkR tX_30 3) :: zzI cy (rUB_26 4) 4 (bkR tX_30 4) :: zzI cy (rUB_26 5) 4 (bkR tX_30 5) :: zzI cy (rUB_26 6) 4 (bkR tX_30 6) :: zzI cy (rUB_26 7) 4 (bkR tX_30 7) :: zzG cy 3 qUO_24 rUO_27 :: zzI cy (rUO_27 0) 5 (onR tX_30 0) :: zzI cy (rUO_27 1) 5 (onR tX_30 1) :: zzI cy (rUO_27 2) 5 (onR tX_30 2) :: zzI cy (rUO_27 3) 5 (onR tX_30 3) :: zzI cy (rUO_27 4) 5 (onR tX_30 4) :: zzI cy (rUO_27 5) 5 (onR tX_30 5) :: zzI cy (rUO_27 6) 5 (onR tX_30 6) :: zzI cy (rUO_27 7) 5 (onR tX_30 7) :: zzG cy 3 qUK_25 rUK_28 :: zzI cy (rUK_28 0) 8 (T_kn tX_30 0) :: zzI cy (rUK_28 1) 8 (T_kn tX_30 1) :: zzI cy (rUK_28 2) 8 (T_kn tX_30 2) :: zzI cy (rUK_28 3) 8 (T_kn tX_30 3) :: zzI cy (rUK_28 4) 8 (T_kn tX_30 4) :: zzI cy (rUK_28 5) 8 (T_kn tX_30 5) :: zzI cy (rUK_28 6) 8 (T_kn tX_30 6) :: zzI cy (rUK_28 7) 8 (T_kn tX_30 7) :: []) hP hD rfl
    clear hP hD
    obtain ⟨hP, hD⟩ := hPD
    refine W.widen (k := 50) (n := 888) (Nat.le_of_ble_eq_true rfl) (Nat.le_of_ble_eq_true rfl) ?_
    refine lv_iconst (v := (-1)) hx hb (g_2 bX6_told rfl) (by decide +kernel) ?_
    refine lv_icmp_ne (tgt := 33) hx hb dX6_told_20 (by decide +kernel) (fun c_36 => ?_) (fun c_36 => ?_)
    · refine lv_aload_n hx hb (g_42 bX6_told rfl) rfl (lv_at hl 1 rfl) ?_
      refine lv_bipush (v := (-5)) hx hb dX6_told_34 (by decide +kernel) ?_
      refine cVi (As := [.int (-5)]) (rest := []) (b := qm) (q := (RX6, TX6, 35)) ⟨hx, hb, hml, hown, hts⟩ (c_X6_refuse5 l G cy (H).size qm (.ref qmh) (.ref qmo) (.ref qmz) (.ref qmR) (.ref qmv) (.ref qmk) (.ref qma) (.ref qmt) (.int (nI kZ)) qmr tA qmB qmO qmK iEn iTk (ov uP) (.ref qU_22) (.int (nI kAt)) (.int iTo) (.int iFr) (.long JFi) (.int iFa) (.ref qm3) (.int iSt) iLv iWs vLa (.ref qmu) (.ref qmy) (.ref qmb) (.ref qms) (.int iOm) fX_4) L_X6_91 hN hP hD hS hA [3, 2] (true :: true :: false :: false :: true :: true :: true :: true :: true :: true :: true :: true :: true :: true :: true :: true :: true :: true :: true :: true :: true :: true :: true :: true :: true :: true :: true :: true :: true :: true :: true :: true :: true :: true :: true :: true :: true :: true :: true :: true :: true :: true :: true :: true :: true :: true :: true :: true :: true :: true :: true :: true :: true :: true :: true :: true :: true :: true :: true :: true :: true :: true :: true :: true :: true :: true :: true :: true :: []) rfl (by decide +kernel) rfl 3 5 rfl rfl rfl ⟨Nat.le_of_ble_eq_true rfl, Nat.le_of_ble_eq_true rfl⟩ hl.1 (Nat.le_of_ble_eq_true rfl) (g_182 (v := 91) bX6_told rfl) ⟨Nat.le_of_ble_eq_true rfl, Nat.le_of_ble_eq_true rfl⟩ (fun r_37 u_39 H locs h_38 => ?_)
      clear hP hD hS
      intro hP hD hS
      obtain ⟨fX_40, hu9, h_38⟩ := h_38
      have hPD := pd_eq (_ :: _ :: _ :: _ :: _ :: _ :: _ :: _ :: _ :: _ :: _ :: _ :: _ :: _ :: _ :: _ :: _ :: _ :: _ :: _ :: _ :: _ :: _ :: _ :: _ :: _ :: _ :: _ :: _ :: _ :: _ :: _ :: _ :: _ :: _ :: _ :: _ :: _ :: _ :: _ :: _ :: _ :: _ :: _ :: _ :: _ :: _ :: _ :: _ :: _ :: _ :: _ :: _ :: _ :: _ :: _ :: _ :: _ :: _ :: _ :: _ :: _ :: _ :: _ :: _ :: _ :: _ :: zzI cy qmr 8 fX_40 :: []) hP hD hu9 rfl
      clear hP hD hu9
      obtain ⟨hP, hD⟩ := hPD
      subst h_38
      exact endWs [(false :: false :: false :: false :: false :: false :: false :: false :: false :: false :: false :: false :: false :: false :: false :: false :: false :: false :: false :: false :: false :: false :: false :: false :: false :: false :: false :: false :: false :: false :: false :: false :: false :: false :: false :: false :: false :: false :: false :: false :: false :: false :: false :: false :: false :: false :: false :: false :: false :: false :: false :: false :: false :: false :: false :: false :: false :: false :: false :: false :: false :: false :: false :: false :: false :: false :: true :: []), (true :: true :: true :: true :: true :: true :: true :: true :: true :: true :: true :: false :: false :: false :: false :: false :: false :: false :: false :: false :: false :: false :: false :: false :: false :: false :: false :: false :: false :: false :: false :: false :: false :: false :: false :: false :: false :: false :: false :: false :: false :: false :: false :: false :: false :: false :: false :: false :: false :: false :: false :: false :: false :: false :: false :: false :: false :: false :: false :: false :: false :: false :: false :: false :: false :: false :: false :: true :: []), (false :: false :: false :: false :: false :: false :: false :: false :: false :: false :: false :: true :: true :: true :: true :: true :: true :: true :: true :: true :: true :: true :: true :: true :: true :: true :: true :: true :: true :: true :: true :: true :: true :: true :: true :: true :: true :: true :: true :: true :: true :: true :: true :: true :: true :: true :: true :: true :: true :: true :: true :: true :: true :: true :: true :: true :: true :: true :: true :: true :: true :: true :: true :: true :: true :: true :: [])] hx hb hr hlocks rfl hP hD rfl (by decide +kernel) hS ⟨fX_40, (some (qU_22, qUB_23, qUO_24, qUK_25, rUB_26, rUO_27, rUK_28, tX_30, xU_29, iXe_31, iXt_32, iXl_33, iXw_34)), rfl, trivial⟩ (g_172 bX6_told rfl)
    · refine lv_aload_n hx hb (g_42 bX6_told rfl) rfl (lv_at hl 1 rfl) ?_
      refine va_get (D := G) (ci := 5) (v := .ref qU_22) (C := RX6) (T := TX6) (N := 35) hx hb hts iX_X6 hown hK hP 3 rfl rfl 19 (by decide +kernel) (hts _ m_t869) (fun _ h9 => h9) rfl (g_180 (v := 118) bX6_told rfl) ?_
      refine kRi (rV (As := []) (rest := []) (b := qU_22) ⟨hx, hb, hml, hown, hts⟩ (c_X6_valueNow l G cy qU_22 (xU_29 0) (xU_29 1) (xU_29 2) (xU_29 3) (xU_29 4) (xU_29 5) (xU_29 6) (xU_29 7) (xU_29 8) (xU_29 9) tX_30 qUB_23 qUO_24 qUK_25 iXe_31 iXt_32 (xU_29 18) (xU_29 19) (xU_29 20) (xU_29 21) (xU_29 22) (xU_29 23) (xU_29 24) (xU_29 25) (xU_29 26) iXl_33 iXw_34 (xU_29 29) (xU_29 30) (xU_29 31) (xU_29 32) (xU_29 33) (xU_29 34) rUB_26 rUO_27 rUK_28 (by first | omega | (simp only [nb_sr, np_sr, nb_wr, np_wr, nb_rd, np_rd, nb_ch, np_ch, nb_zr, np_zr, nb_za, np_za, nb_ey, np_ey, nb_hf, np_hf, nb_dd, np_dd, nb_so, np_so, nb_skn, np_skn, nb_swh, np_swh, nb_sgn, np_sgn, nb_ssd, np_ssd, nb_sgo, np_sgo, nb_sag, np_sag]; omega)) (by first | omega | (simp only [nb_sr, np_sr, nb_wr, np_wr, nb_rd, np_rd, nb_ch, np_ch, nb_zr, np_zr, nb_za, np_za, nb_ey, np_ey, nb_hf, np_hf, nb_dd, np_dd, nb_so, np_so, nb_skn, np_skn, nb_swh, np_swh, nb_sgn, np_sgn, nb_ssd, np_ssd, nb_sgo, np_sgo, nb_sag, np_sag]; omega))) L_X6_122 (preRV (q := (RX6, TX6, 35)) hN hP (trueIx 0 (false :: false :: false :: false :: false :: false :: false :: false :: false :: false :: false :: false :: false :: false :: false :: false :: false :: false :: false :: false :: false :: false :: false :: false :: false :: false :: false :: false :: false :: false :: false :: false :: false :: false :: false :: false :: false :: false :: false :: false :: true :: true :: true :: true :: true :: true :: true :: true :: true :: true :: true :: true :: true :: true :: true :: true :: true :: true :: true :: true :: true :: true :: true :: true :: true :: true :: true :: true :: [])) (sel_fm rfl rfl) 40 5 rfl rfl) rfl ⟨Nat.le_of_ble_eq_true rfl, Nat.le_of_ble_eq_true rfl⟩ hl.1 (Nat.le_of_ble_eq_true rfl) (g_182 (v := 122) bX6_told rfl) ⟨Nat.le_of_ble_eq_true rfl, Nat.le_of_ble_eq_true rfl⟩) (fun r_41 h_42 => ?_)
      subst h_42
      refine lv_goto (tgt := 39) hx hb dX6_told_30 (by decide +kernel) ?_
      exact endWs [[false, false, false, true], [true, true, false, false, true, true, true, true, true, true, true, true, true], (false :: false :: true :: false :: false :: false :: false :: false :: false :: false :: false :: false :: false :: true :: true :: true :: true :: true :: true :: true :: true :: true :: true :: true :: true :: true :: true :: true :: true :: true :: true :: true :: true :: true :: true :: true :: true :: true :: true :: true :: true :: true :: true :: true :: true :: true :: true :: true :: true :: true :: true :: true :: true :: true :: true :: true :: true :: true :: true :: true :: true :: true :: true :: true :: true :: true :: true :: true :: [])] hx hb hr hlocks rfl hP hD rfl (by decide +kernel) hS ⟨fX_4, (some (qU_22, qUB_23, qUO_24, qUK_25, rUB_26, rUO_27, rUK_28, tX_30, xU_29, iXe_31, iXt_32, iXl_33, iXw_34)), rfl, trivial⟩ (g_172 bX6_told rfl)
end
section
set_option maxHeartbeats 4000000 in
set_option maxRecDepth 100000 in
theorem p_X6_image (l : Launch) (G : va_G) (cy : Nat → ClassId) (sz : Nat) (qm : Nat) (qmh : Nat) (qmo : Nat) (qmz : Nat) (qmR : Nat) (qmv : Nat) (qmk : Nat) (qma : Nat) (qmt : Nat) (kZ : Nat) (qmr : Nat) (tA : TA) (qmB : Nat) (qmO : Nat) (qmK : Nat) (iEn : Int32) (iTk : Int32) (uP : UM) (uU : UM) (kAt : Nat) (iTo : Int32) (iFr : Int32) (JFi : Int64) (iFa : Int32) (qm3 : Nat) (iSt : Int32) (iLv : Int32) (iWs : Int32) (vLa : Value) (qmu : Nat) (qmy : Nat) (qmb : Nat) (qms : Nat) (iOm : Int32) (rB : Nat → Nat) (rO : Nat → Nat) (rK : Nat → Nat)  (hB : T_nb tA ≤ 8) (hPp : T_np tA ≤ 8) (hTI : TI tA) : MW l yX6_image cX6_image 1 (some .int) 16 50 888 G cy ([zzO qm 5 (.ref qmh :: .ref qmo :: .ref qmz :: .ref qmR :: .ref qmv :: .ref qmk :: .ref qma :: .ref qmt :: .int (nI kZ) :: .ref qmr :: .int (nI (T_nb tA)) :: .ref qmB :: .int (nI (T_np tA)) :: .ref qmO :: .ref qmK :: .int iEn :: .int iTk :: .int (T_sd tA) :: ov uP :: ov uU :: .int (nI kAt) :: .int iTo :: .int iFr :: .long JFi :: .int iFa :: .ref qm3 :: .int iSt :: .int iLv :: .int iWs :: vLa :: .ref qmu :: .ref qmy :: .ref qmb :: .ref qms :: .int iOm :: []), zzG cy 3 qmB rB, zzI cy (rB 0) 4 (bkR tA 0), zzI cy (rB 1) 4 (bkR tA 1), zzI cy (rB 2) 4 (bkR tA 2), zzI cy (rB 3) 4 (bkR tA 3), zzI cy (rB 4) 4 (bkR tA 4), zzI cy (rB 5) 4 (bkR tA 5), zzI cy (rB 6) 4 (bkR tA 6), zzI cy (rB 7) 4 (bkR tA 7), zzG cy 3 qmO rO, zzI cy (rO 0) 5 (onR tA 0), zzI cy (rO 1) 5 (onR tA 1), zzI cy (rO 2) 5 (onR tA 2), zzI cy (rO 3) 5 (onR tA 3), zzI cy (rO 4) 5 (onR tA 4), zzI cy (rO 5) 5 (onR tA 5), zzI cy (rO 6) 5 (onR tA 6), zzI cy (rO 7) 5 (onR tA 7), zzG cy 3 qmK rK, zzI cy (rK 0) 8 (T_kn tA 0), zzI cy (rK 1) 8 (T_kn tA 1), zzI cy (rK 2) 8 (T_kn tA 2), zzI cy (rK 3) 8 (T_kn tA 3), zzI cy (rK 4) 8 (T_kn tA 4), zzI cy (rK 5) 8 (T_kn tA 5), zzI cy (rK 6) 8 (T_kn tA 6), zzI cy (rK 7) 8 (T_kn tA 7)] ++ oM cy uP) sz [.ref qm] (Wi G (fun r u => ∃ (uQ : UM), u = ([zzO qm 5 (.ref qmh :: .ref qmo :: .ref qmz :: .ref qmR :: .ref qmv :: .ref qmk :: .ref qma :: .ref qmt :: .int (nI kZ) :: .ref qmr :: .int (nI (T_nb tA)) :: .ref qmB :: .int (nI (T_np tA)) :: .ref qmO :: .ref qmK :: .int iEn :: .int iTk :: .int (T_sd tA) :: ov uQ :: ov uU :: .int (nI kAt) :: .int iTo :: .int iFr :: .long JFi :: .int iFa :: .ref qm3 :: .int iSt :: .int iLv :: .int iWs :: vLa :: .ref qmu :: .ref qmy :: .ref qmb :: .ref qms :: .int iOm :: []), zzG cy 3 qmB rB, zzI cy (rB 0) 4 (bkR tA 0), zzI cy (rB 1) 4 (bkR tA 1), zzI cy (rB 2) 4 (bkR tA 2), zzI cy (rB 3) 4 (bkR tA 3), zzI cy (rB 4) 4 (bkR tA 4), zzI cy (rB 5) 4 (bkR tA 5), zzI cy (rB 6) 4 (bkR tA 6), zzI cy (rB 7) 4 (bkR tA 7), zzG cy 3 qmO rO, zzI cy (rO 0) 5 (onR tA 0), zzI cy (rO 1) 5 (onR tA 1), zzI cy (rO 2) 5 (onR tA 2), zzI cy (rO 3) 5 (onR tA 3), zzI cy (rO 4) 5 (onR tA 4), zzI cy (rO 5) 5 (onR tA 5), zzI cy (rO 6) 5 (onR tA 6), zzI cy (rO 7) 5 (onR tA 7), zzG cy 3 qmK rK, zzI cy (rK 0) 8 (T_kn tA 0), zzI cy (rK 1) 8 (T_kn tA 1), zzI cy (rK 2) 8 (T_kn tA 2), zzI cy (rK 3) 8 (T_kn tA 3), zzI cy (rK 4) 8 (T_kn tA 4), zzI cy (rK 5) 8 (T_kn tA 5), zzI cy (rK 6) 8 (T_kn tA 6), zzI cy (rK 7) 8 (T_kn tA 7)] ++ oM cy uQ) ∧ (r = 1 ∧ isS uQ = true ∧ uT uQ = tA) ∧ (True))) := by
  refine enW RX6 (by decide +kernel) rfl (Nat.le_of_ble_eq_true rfl) (fun p e s m below meth c ls A hx hb hml hown hts hr hlocks hP hN hl hin hD hA hS => ?_)
  have hin : meth.name = _ := hin
  have hK := hN.1
  replace hl : lv_has ls 1 [(0, .ref qm)] := hl
  refine lv_aload_n hx hb (g_42 bX6_image rfl) rfl (lv_at hl 0 rfl) ?_
  refine va_get (D := G) (ci := 5) (v := ov uP) (C := RX6) (T := TX6) (N := 35) hx hb hts iX_X6 hown hK hP 0 rfl rfl 18 (by decide +kernel) (hts _ m_t868) (fun _ h9 => h9) rfl (g_180 (v := 362) bX6_image rfl) ?_
  rcases uP with _ | ⟨qP_1, qPB_2, qPO_3, qPK_4, rPB_5, rPO_6, rPK_7, tP_8, xP_9, iEnP_10, iTkP_11, iLvP_12, iWsP_13⟩
  · have hPD := pd_as [zzO qm 5 (.ref qmh :: .ref qmo :: .ref qmz :: .ref qmR :: .ref qmv :: .ref qmk :: .ref qma :: .ref qmt :: .int (nI kZ) :: .ref qmr :: .int (nI (T_nb tA)) :: .ref qmB :: .int (nI (T_np tA)) :: .ref qmO :: .ref qmK :: .int iEn :: .int iTk :: .int (T_sd tA) :: .null :: ov uU :: .int (nI kAt) :: .int iTo :: .int iFr :: .long JFi :: .int iFa :: .ref qm3 :: .int iSt :: .int iLv :: .int iWs :: vLa :: .ref qmu :: .ref qmy :: .ref qmb :: .ref qms :: .int iOm :: []), _, _, _, _, _, _, _, _, _, _, _, _, _, _, _, _, _, _, _, _, _, _, _, _, _, _, _] hP hD rfl
    clear hP hD
    obtain ⟨hP, hD⟩ := hPD
    refine lv_setv (v := .null) rfl ?_
    refine lv_ifnonnullN hx hb dX6_image_4 ?_
    refine lv_aload_n hx hb (g_42 bX6_image rfl) rfl (lv_at hl 0 rfl) ?_
    refine va_new (ci := 5) (fs := (.null :: .null :: .null :: .null :: .null :: .null :: .null :: .null :: .int 0 :: .null :: .int 0 :: .null :: .int 0 :: .null :: .null :: .int 0 :: .int 0 :: .int 0 :: .null :: .null :: .int 0 :: .int 0 :: .int 0 :: .long 0 :: .int 0 :: .null :: .int 0 :: .int 0 :: .int 0 :: .null :: .null :: .null :: .null :: .null :: .int 0 :: [])) (C := RX6) (T := TX6) (N := 35) hx hb hts iX_X6 tyX6 tyX6_ok hown (hts _ m_t848) (hts _ m_t839) (hts _ m_t6) hK hP hD hS hA rfl df_X6 (Nat.le_of_ble_eq_true rfl) (Nat.le_of_ble_eq_true rfl) (g_187 (v := 8) bX6_image rfl) (fun q_14 H => ?_)
    clear hP hD hS
    intro hP hD hS
    have hPD := pd_as [_, _, _, _, _, _, _, _, _, _, _, _, _, _, _, _, _, _, _, _, _, _, _, _, _, _, _, _, zzO q_14 5 (.null :: .null :: .null :: .null :: .null :: .null :: .null :: .null :: .int 0 :: .null :: .int 0 :: .null :: .int 0 :: .null :: .null :: .int 0 :: .int 0 :: .int 0 :: .null :: .null :: .int 0 :: .int 0 :: .int 0 :: .long 0 :: .int 0 :: .null :: .int 0 :: .int 0 :: .int 0 :: .null :: .null :: .null :: .null :: .null :: .int 0 :: [])] hP hD rfl
    clear hP hD
    obtain ⟨hP, hD⟩ := hPD
    refine W.widen (k := 1) (n := 35) (Nat.le_of_ble_eq_true rfl) (Nat.le_of_ble_eq_true rfl) ?_
    refine lv_dup hx hb (g_89 bX6_image rfl) rfl ?_
    refine cIv (As := []) (rest := [.ref q_14, .ref qm]) (b := q_14) ⟨hx, hb, hml, hown, hts⟩ (c_X6_initS l G cy (H).size q_14) L_X6_291 hN hP hD hS hA [28] [true, true, true, true, true, true, true, true, true, true, true, true, true, true, true, true, true, true, true, true, true, true, true, true, true, true, true, true, false] rfl (by decide +kernel) rfl rfl ⟨Nat.le_of_ble_eq_true rfl, Nat.le_of_ble_eq_true rfl⟩ hl.1 (Nat.le_of_ble_eq_true rfl) (g_183 (v := 291) bX6_image rfl) ⟨Nat.le_of_ble_eq_true rfl, Nat.le_of_ble_eq_true rfl⟩ (fun u_17 H locs h_16 => ?_)
    clear hP hD hS
    intro hP hD hS
    obtain ⟨qmB_18, qmO_19, qmK_20, rB_21, rO_22, rK_23, xF_24, hu9⟩ := h_16
    have hPD := pd_eq (_ :: _ :: _ :: _ :: _ :: _ :: _ :: _ :: _ :: _ :: _ :: _ :: _ :: _ :: _ :: _ :: _ :: _ :: _ :: _ :: _ :: _ :: _ :: _ :: _ :: _ :: _ :: _ :: zzO q_14 5 (xF_24 0 :: xF_24 1 :: xF_24 2 :: xF_24 3 :: xF_24 4 :: xF_24 5 :: xF_24 6 :: xF_24 7 :: xF_24 8 :: xF_24 9 :: .int (nI (T_nb T0)) :: .ref qmB_18 :: .int (nI (T_np T0)) :: .ref qmO_19 :: .ref qmK_20 :: .int 0 :: .int 0 :: .int (T_sd T0) :: xF_24 18 :: xF_24 19 :: xF_24 20 :: xF_24 21 :: xF_24 22 :: xF_24 23 :: xF_24 24 :: xF_24 25 :: xF_24 26 :: .int 0 :: .int 0 :: xF_24 29 :: xF_24 30 :: xF_24 31 :: xF_24 32 :: xF_24 33 :: xF_24 34 :: []) :: zzG cy 3 qmB_18 rB_21 :: zzI cy (rB_21 0) 4 (bkR T0 0) :: zzI cy (rB_21 1) 4 (bkR T0 1) :: zzI cy (rB_21 2) 4 (bkR T0 2) :: zzI cy (rB_21 3) 4 (bkR T0 3) :: zzI cy (rB_21 4) 4 (bkR T0 4) :: zzI cy (rB_21 5) 4 (bkR T0 5) :: zzI cy (rB_21 6) 4 (bkR T0 6) :: zzI cy (rB_21 7) 4 (bkR T0 7) :: zzG cy 3 qmO_19 rO_22 :: zzI cy (rO_22 0) 5 (onR T0 0) :: zzI cy (rO_22 1) 5 (onR T0 1) :: zzI cy (rO_22 2) 5 (onR T0 2) :: zzI cy (rO_22 3) 5 (onR T0 3) :: zzI cy (rO_22 4) 5 (onR T0 4) :: zzI cy (rO_22 5) 5 (onR T0 5) :: zzI cy (rO_22 6) 5 (onR T0 6) :: zzI cy (rO_22 7) 5 (onR T0 7) :: zzG cy 3 qmK_20 rK_23 :: zzI cy (rK_23 0) 8 (T_kn T0 0) :: zzI cy (rK_23 1) 8 (T_kn T0 1) :: zzI cy (rK_23 2) 8 (T_kn T0 2) :: zzI cy (rK_23 3) 8 (T_kn T0 3) :: zzI cy (rK_23 4) 8 (T_kn T0 4) :: zzI cy (rK_23 5) 8 (T_kn T0 5) :: zzI cy (rK_23 6) 8 (T_kn T0 6) :: zzI cy (rK_23 7) 8 (T_kn T0 7) :: []) hP hD hu9 rfl
    clear hP hD hu9
    obtain ⟨hP, hD⟩ := hPD
    refine W.widen (k := 50) (n := 888) (Nat.le_of_ble_eq_true rfl) (Nat.le_of_ble_eq_true rfl) ?_
    refine va_put (D := G) (ci := 5) (v := .ref q_14) (ty := (.object "EachBookOnceModel")) (C := RX6) (T := TX6) (N := 35) hx hb hts iX_X6 tyX6 tyX6_ok nmX6 hown hK hP hD hS 0 rfl rfl 18 (by decide +kernel) (hts _ m_t868) (fun _ h9 => h9) rfl (by decide +kernel) rfl rfl (Nat.le_of_ble_eq_true rfl) (g_181 (v := 362) bX6_image rfl) (fun H locs => ?_)
    clear hP hD hS
    intro hP hD hS
    have hPD := pd_as (zzO qm 5 (.ref qmh :: .ref qmo :: .ref qmz :: .ref qmR :: .ref qmv :: .ref qmk :: .ref qma :: .ref qmt :: .int (nI kZ) :: .ref qmr :: .int (nI (T_nb tA)) :: .ref qmB :: .int (nI (T_np tA)) :: .ref qmO :: .ref qmK :: .int iEn :: .int iTk :: .int (T_sd tA) :: .ref q_14 :: ov uU :: .int (nI kAt) :: .int iTo :: .int iFr :: .long JFi :: .int iFa :: .ref qm3 :: .int iSt :: .int iLv :: .int iWs :: vLa :: .ref qmu :: .ref qmy :: .ref qmb :: .ref qms :: .int iOm :: []) :: _ :: _ :: _ :: _ :: _ :: _ :: _ :: _ :: _ :: _ :: _ :: _ :: _ :: _ :: _ :: _ :: _ :: _ :: _ :: _ :: _ :: _ :: _ :: _ :: _ :: _ :: _ :: _ :: _ :: _ :: _ :: _ :: _ :: _ :: _ :: _ :: _ :: _ :: _ :: _ :: _ :: _ :: _ :: _ :: _ :: _ :: _ :: _ :: _ :: _ :: _ :: _ :: _ :: _ :: _ :: []) hP hD rfl
    clear hP hD
    obtain ⟨hP, hD⟩ := hPD
    refine lv_aload_n hx hb (g_42 bX6_image rfl) rfl (lv_at hl 0 rfl) ?_
    refine va_get (D := G) (ci := 5) (v := .ref q_14) (C := RX6) (T := TX6) (N := 35) hx hb hts iX_X6 hown hK hP 0 rfl rfl 18 (by decide +kernel) (hts _ m_t868) (fun _ h9 => h9) rfl (g_180 (v := 362) bX6_image rfl) ?_
    refine lv_aload_n hx hb (g_42 bX6_image rfl) rfl (lv_at hl 0 rfl) ?_
    refine cVv (As := [.ref qm]) (rest := []) (b := q_14) (q := (RX6, TX6, 35)) ⟨hx, hb, hml, hown, hts⟩ (c_X6_takeFrom l G cy (H).size q_14 (xF_24 0) (xF_24 1) (xF_24 2) (xF_24 3) (xF_24 4) (xF_24 5) (xF_24 6) (xF_24 7) (xF_24 8) (xF_24 9) T0 qmB_18 qmO_19 qmK_20 0 0 (xF_24 18) (xF_24 19) (xF_24 20) (xF_24 21) (xF_24 22) (xF_24 23) (xF_24 24) (xF_24 25) (xF_24 26) 0 0 (xF_24 29) (xF_24 30) (xF_24 31) (xF_24 32) (xF_24 33) (xF_24 34) rB_21 rO_22 rK_23 qm (.ref qmh) (.ref qmo) (.ref qmz) (.ref qmR) (.ref qmv) (.ref qmk) (.ref qma) (.ref qmt) (.int (nI kZ)) (.ref qmr) tA qmB qmO qmK iEn iTk (.ref q_14) (ov uU) (.int (nI kAt)) (.int iTo) (.int iFr) (.long JFi) (.int iFa) (.ref qm3) (.int iSt) iLv iWs vLa (.ref qmu) (.ref qmy) (.ref qmb) (.ref qms) (.int iOm) rB rO rK) L_X6_225 hN hP hD hS hA (trueIxs [(false :: false :: false :: false :: false :: false :: false :: false :: false :: false :: false :: false :: false :: false :: false :: false :: false :: false :: false :: false :: false :: false :: false :: false :: false :: false :: false :: false :: true :: true :: true :: true :: true :: true :: true :: true :: true :: true :: true :: true :: true :: true :: true :: true :: true :: true :: true :: true :: true :: true :: true :: true :: true :: true :: true :: true :: []), [true, true, true, true, true, true, true, true, true, true, true, true, true, true, true, true, true, true, true, true, true, true, true, true, true, true, true, true]]) (false :: false :: false :: false :: false :: false :: false :: false :: false :: false :: false :: false :: false :: false :: false :: false :: false :: false :: false :: false :: false :: false :: false :: false :: false :: false :: false :: false :: false :: false :: false :: false :: false :: false :: false :: false :: false :: false :: false :: false :: false :: false :: false :: false :: false :: false :: false :: false :: false :: false :: false :: false :: false :: false :: false :: false :: []) (sels_eq rfl rfl) (by decide +kernel) rfl 28 5 rfl rfl rfl ⟨Nat.le_of_ble_eq_true rfl, Nat.le_of_ble_eq_true rfl⟩ hl.1 (Nat.le_of_ble_eq_true rfl) (g_182 (v := 225) bX6_image rfl) ⟨Nat.le_of_ble_eq_true rfl, Nat.le_of_ble_eq_true rfl⟩ (fun u_27 H locs h_26 => ?_)
    clear hP hD hS
    intro hP hD hS
    have hPD := pd_eq (zzO q_14 5 (xF_24 0 :: xF_24 1 :: xF_24 2 :: xF_24 3 :: xF_24 4 :: xF_24 5 :: xF_24 6 :: xF_24 7 :: xF_24 8 :: xF_24 9 :: .int (nI (T_nb tA)) :: .ref qmB_18 :: .int (nI (T_np tA)) :: .ref qmO_19 :: .ref qmK_20 :: .int iEn :: .int iTk :: .int (T_sd tA) :: xF_24 18 :: xF_24 19 :: xF_24 20 :: xF_24 21 :: xF_24 22 :: xF_24 23 :: xF_24 24 :: xF_24 25 :: xF_24 26 :: .int 0 :: .int 0 :: xF_24 29 :: xF_24 30 :: xF_24 31 :: xF_24 32 :: xF_24 33 :: xF_24 34 :: []) :: _ :: zzI cy (rB_21 0) 4 (bkR tA 0) :: zzI cy (rB_21 1) 4 (bkR tA 1) :: zzI cy (rB_21 2) 4 (bkR tA 2) :: zzI cy (rB_21 3) 4 (bkR tA 3) :: zzI cy (rB_21 4) 4 (bkR tA 4) :: zzI cy (rB_21 5) 4 (bkR tA 5) :: zzI cy (rB_21 6) 4 (bkR tA 6) :: zzI cy (rB_21 7) 4 (bkR tA 7) :: _ :: zzI cy (rO_22 0) 5 (onR tA 0) :: zzI cy (rO_22 1) 5 (onR tA 1) :: zzI cy (rO_22 2) 5 (onR tA 2) :: zzI cy (rO_22 3) 5 (onR tA 3) :: zzI cy (rO_22 4) 5 (onR tA 4) :: zzI cy (rO_22 5) 5 (onR tA 5) :: zzI cy (rO_22 6) 5 (onR tA 6) :: zzI cy (rO_22 7) 5 (onR tA 7) :: _ :: zzI cy (rK_23 0) 8 (T_kn tA 0) :: zzI cy (rK_23 1) 8 (T_kn tA 1) :: zzI cy (rK_23 2) 8 (T_kn tA 2) :: zzI cy (rK_23 3) 8 (T_kn tA 3) :: zzI cy (rK_23 4) 8 (T_kn tA 4) :: zzI cy (rK_23 5) 8 (T_kn tA 5) :: zzI cy (rK_23 6) 8 (T_kn tA 6) :: zzI cy (rK_23 7) 8 (T_kn tA 7) :: _ :: _ :: _ :: _ :: _ :: _ :: _ :: _ :: _ :: _ :: _ :: _ :: _ :: _ :: _ :: _ :: _ :: _ :: _ :: _ :: _ :: _ :: _ :: _ :: _ :: _ :: _ :: _ :: []) hP hD h_26 rfl
    clear hP hD h_26
    obtain ⟨hP, hD⟩ := hPD
    refine lv_iconst (v := 1) hx hb (g_4 bX6_image rfl) (by decide +kernel) ?_
    exact endWs [(false :: false :: false :: false :: false :: false :: false :: false :: false :: false :: false :: false :: false :: false :: false :: false :: false :: false :: false :: false :: false :: false :: false :: false :: false :: false :: false :: false :: true :: true :: true :: true :: true :: true :: true :: true :: true :: true :: true :: true :: true :: true :: true :: true :: true :: true :: true :: true :: true :: true :: true :: true :: true :: true :: true :: true :: []), [true, true, true, true, true, true, true, true, true, true, true, true, true, true, true, true, true, true, true, true, true, true, true, true, true, true, true, true]] hx hb hr hlocks rfl hP hD rfl (by decide +kernel) hS ⟨(some (q_14, qmB_18, qmO_19, qmK_20, rB_21, rO_22, rK_23, tA, xF_24, iEn, iTk, 0, 0)), rfl, ⟨rfl, rfl, rfl⟩, trivial⟩ (g_172 bX6_image rfl)
  · have hPD := pd_as (zzO qm 5 (.ref qmh :: .ref qmo :: .ref qmz :: .ref qmR :: .ref qmv :: .ref qmk :: .ref qma :: .ref qmt :: .int (nI kZ) :: .ref qmr :: .int (nI (T_nb tA)) :: .ref qmB :: .int (nI (T_np tA)) :: .ref qmO :: .ref qmK :: .int iEn :: .int iTk :: .int (T_sd tA) :: .ref qP_1 :: ov uU :: .int (nI kAt) :: .int iTo :: .int iFr :: .long JFi :: .int iFa :: .ref qm3 :: .int iSt :: .int iLv :: .int iWs :: vLa :: .ref qmu :: .ref qmy :: .ref qmb :: .ref qms :: .int iOm :: []) :: _ :: _ :: _ :: _ :: _ :: _ :: _ :: _ :: _ :: _ :: _ :: _ :: _ :: _ :: _ :: _ :: _ :: _ :: _ :: _ :: _ :: _ :: _ :: _ :: _ :: _ :: _ :: zzO qP_1 5 (xP_9 0 :: xP_9 1 :: xP_9 2 :: xP_9 3 :: xP_9 4 :: xP_9 5 :: xP_9 6 :: xP_9 7 :: xP_9 8 :: xP_9 9 :: .int (nI (T_nb tP_8)) :: .ref qPB_2 :: .int (nI (T_np tP_8)) :: .ref qPO_3 :: .ref qPK_4 :: .int iEnP_10 :: .int iTkP_11 :: .int (T_sd tP_8) :: xP_9 18 :: xP_9 19 :: xP_9 20 :: xP_9 21 :: xP_9 22 :: xP_9 23 :: xP_9 24 :: xP_9 25 :: xP_9 26 :: .int iLvP_12 :: .int iWsP_13 :: xP_9 29 :: xP_9 30 :: xP_9 31 :: xP_9 32 :: xP_9 33 :: xP_9 34 :: []) :: zzG cy 3 qPB_2 rPB_5 :: zzI cy (rPB_5 0) 4 (bkR tP_8 0) :: zzI cy (rPB_5 1) 4 (bkR tP_8 1) :: zzI cy (rPB_5 2) 4 (bkR tP_8 2) :: zzI cy (rPB_5 3) 4 (bkR tP_8 3) :: zzI cy (rPB_5 4) 4 (bkR tP_8 4) :: zzI cy (rPB_5 5) 4 (bkR tP_8 5) :: zzI cy (rPB_5 6) 4 (bkR tP_8 6) :: zzI cy (rPB_5 7) 4 (bkR tP_8 7) :: zzG cy 3 qPO_3 rPO_6 :: zzI cy (rPO_6 0) 5 (onR tP_8 0) :: zzI cy (rPO_6 1) 5 (onR tP_8 1) :: zzI cy (rPO_6 2) 5 (onR tP_8 2) :: zzI cy (rPO_6 3) 5 (onR tP_8 3) :: zzI cy (rPO_6 4) 5 (onR tP_8 4) :: zzI cy (rPO_6 5) 5 (onR tP_8 5) :: zzI cy (rPO_6 6) 5 (onR tP_8 6) :: zzI cy (rPO_6 7) 5 (onR tP_8 7) :: zzG cy 3 qPK_4 rPK_7 :: zzI cy (rPK_7 0) 8 (T_kn tP_8 0) :: zzI cy (rPK_7 1) 8 (T_kn tP_8 1) :: zzI cy (rPK_7 2) 8 (T_kn tP_8 2) :: zzI cy (rPK_7 3) 8 (T_kn tP_8 3) :: zzI cy (rPK_7 4) 8 (T_kn tP_8 4) :: zzI cy (rPK_7 5) 8 (T_kn tP_8 5) :: zzI cy (rPK_7 6) 8 (T_kn tP_8 6) :: zzI cy (rPK_7 7) 8 (T_kn tP_8 7) :: []) hP hD rfl
    clear hP hD
    obtain ⟨hP, hD⟩ := hPD
    refine lv_setv (v := .ref qP_1) rfl ?_
    refine lv_ifnonnull (tgt := 18) hx hb dX6_image_4 (by decide +kernel) ?_
    refine lv_aload_n hx hb (g_42 bX6_image rfl) rfl (lv_at hl 0 rfl) ?_
    refine va_get (D := G) (ci := 5) (v := .ref qP_1) (C := RX6) (T := TX6) (N := 35) hx hb hts iX_X6 hown hK hP 0 rfl rfl 18 (by decide +kernel) (hts _ m_t868) (fun _ h9 => h9) rfl (g_180 (v := 362) bX6_image rfl) ?_
    refine lv_aload_n hx hb (g_42 bX6_image rfl) rfl (lv_at hl 0 rfl) ?_
    refine cVv (As := [.ref qm]) (rest := []) (b := qP_1) (q := (RX6, TX6, 35)) ⟨hx, hb, hml, hown, hts⟩ (c_X6_takeFrom l G cy (s.heap).size qP_1 (xP_9 0) (xP_9 1) (xP_9 2) (xP_9 3) (xP_9 4) (xP_9 5) (xP_9 6) (xP_9 7) (xP_9 8) (xP_9 9) tP_8 qPB_2 qPO_3 qPK_4 iEnP_10 iTkP_11 (xP_9 18) (xP_9 19) (xP_9 20) (xP_9 21) (xP_9 22) (xP_9 23) (xP_9 24) (xP_9 25) (xP_9 26) iLvP_12 iWsP_13 (xP_9 29) (xP_9 30) (xP_9 31) (xP_9 32) (xP_9 33) (xP_9 34) rPB_5 rPO_6 rPK_7 qm (.ref qmh) (.ref qmo) (.ref qmz) (.ref qmR) (.ref qmv) (.ref qmk) (.ref qma) (.ref qmt) (.int (nI kZ)) (.ref qmr) tA qmB qmO qmK iEn iTk (.ref qP_1) (ov uU) (.int (nI kAt)) (.int iTo) (.int iFr) (.long JFi) (.int iFa) (.ref qm3) (.int iSt) iLv iWs vLa (.ref qmu) (.ref qmy) (.ref qmb) (.ref qms) (.int iOm) rB rO rK) L_X6_225 hN hP hD hS hA (trueIxs [(false :: false :: false :: false :: false :: false :: false :: false :: false :: false :: false :: false :: false :: false :: false :: false :: false :: false :: false :: false :: false :: false :: false :: false :: false :: false :: false :: false :: true :: true :: true :: true :: true :: true :: true :: true :: true :: true :: true :: true :: true :: true :: true :: true :: true :: true :: true :: true :: true :: true :: true :: true :: true :: true :: true :: true :: []), [true, true, true, true, true, true, true, true, true, true, true, true, true, true, true, true, true, true, true, true, true, true, true, true, true, true, true, true]]) (false :: false :: false :: false :: false :: false :: false :: false :: false :: false :: false :: false :: false :: false :: false :: false :: false :: false :: false :: false :: false :: false :: false :: false :: false :: false :: false :: false :: false :: false :: false :: false :: false :: false :: false :: false :: false :: false :: false :: false :: false :: false :: false :: false :: false :: false :: false :: false :: false :: false :: false :: false :: false :: false :: false :: false :: []) (sels_eq rfl rfl) (by decide +kernel) rfl 28 5 rfl rfl rfl ⟨Nat.le_of_ble_eq_true rfl, Nat.le_of_ble_eq_true rfl⟩ hl.1 (Nat.le_of_ble_eq_true rfl) (g_182 (v := 225) bX6_image rfl) ⟨Nat.le_of_ble_eq_true rfl, Nat.le_of_ble_eq_true rfl⟩ (fun u_30 H locs h_29 => ?_)
    clear hP hD hS
    intro hP hD hS
    have hPD := pd_eq (zzO qP_1 5 (xP_9 0 :: xP_9 1 :: xP_9 2 :: xP_9 3 :: xP_9 4 :: xP_9 5 :: xP_9 6 :: xP_9 7 :: xP_9 8 :: xP_9 9 :: .int (nI (T_nb tA)) :: .ref qPB_2 :: .int (nI (T_np tA)) :: .ref qPO_3 :: .ref qPK_4 :: .int iEn :: .int iTk :: .int (T_sd tA) :: xP_9 18 :: xP_9 19 :: xP_9 20 :: xP_9 21 :: xP_9 22 :: xP_9 23 :: xP_9 24 :: xP_9 25 :: xP_9 26 :: .int iLvP_12 :: .int iWsP_13 :: xP_9 29 :: xP_9 30 :: xP_9 31 :: xP_9 32 :: xP_9 33 :: xP_9 34 :: []) :: _ :: zzI cy (rPB_5 0) 4 (bkR tA 0) :: zzI cy (rPB_5 1) 4 (bkR tA 1) :: zzI cy (rPB_5 2) 4 (bkR tA 2) :: zzI cy (rPB_5 3) 4 (bkR tA 3) :: zzI cy (rPB_5 4) 4 (bkR tA 4) :: zzI cy (rPB_5 5) 4 (bkR tA 5) :: zzI cy (rPB_5 6) 4 (bkR tA 6) :: zzI cy (rPB_5 7) 4 (bkR tA 7) :: _ :: zzI cy (rPO_6 0) 5 (onR tA 0) :: zzI cy (rPO_6 1) 5 (onR tA 1) :: zzI cy (rPO_6 2) 5 (onR tA 2) :: zzI cy (rPO_6 3) 5 (onR tA 3) :: zzI cy (rPO_6 4) 5 (onR tA 4) :: zzI cy (rPO_6 5) 5 (onR tA 5) :: zzI cy (rPO_6 6) 5 (onR tA 6) :: zzI cy (rPO_6 7) 5 (onR tA 7) :: _ :: zzI cy (rPK_7 0) 8 (T_kn tA 0) :: zzI cy (rPK_7 1) 8 (T_kn tA 1) :: zzI cy (rPK_7 2) 8 (T_kn tA 2) :: zzI cy (rPK_7 3) 8 (T_kn tA 3) :: zzI cy (rPK_7 4) 8 (T_kn tA 4) :: zzI cy (rPK_7 5) 8 (T_kn tA 5) :: zzI cy (rPK_7 6) 8 (T_kn tA 6) :: zzI cy (rPK_7 7) 8 (T_kn tA 7) :: _ :: _ :: _ :: _ :: _ :: _ :: _ :: _ :: _ :: _ :: _ :: _ :: _ :: _ :: _ :: _ :: _ :: _ :: _ :: _ :: _ :: _ :: _ :: _ :: _ :: _ :: _ :: _ :: []) hP hD h_29 rfl
    clear hP hD h_29
    obtain ⟨hP, hD⟩ := hPD
    refine lv_iconst (v := 1) hx hb (g_4 bX6_image rfl) (by decide +kernel) ?_
    refine W.widen (k := 50) (n := 888) (Nat.le_of_ble_eq_true rfl) (Nat.le_of_ble_eq_true rfl) ?_
    exact endWs [(false :: false :: false :: false :: false :: false :: false :: false :: false :: false :: false :: false :: false :: false :: false :: false :: false :: false :: false :: false :: false :: false :: false :: false :: false :: false :: false :: false :: true :: true :: true :: true :: true :: true :: true :: true :: true :: true :: true :: true :: true :: true :: true :: true :: true :: true :: true :: true :: true :: true :: true :: true :: true :: true :: true :: true :: []), [true, true, true, true, true, true, true, true, true, true, true, true, true, true, true, true, true, true, true, true, true, true, true, true, true, true, true, true]] hx hb hr hlocks rfl hP hD rfl (by decide +kernel) hS ⟨(some (qP_1, qPB_2, qPO_3, qPK_4, rPB_5, rPO_6, rPK_7, tA, xP_9, iEn, iTk, iLvP_12, iWsP_13)), rfl, ⟨rfl, rfl, rfl⟩, trivial⟩ (g_172 bX6_image rfl)
set_option maxHeartbeats 4000000 in
set_option maxRecDepth 100000 in
theorem p_X6_back (l : Launch) (G : va_G) (cy : Nat → ClassId) (sz : Nat) (qm : Nat) (qmh : Nat) (qmo : Nat) (qmz : Nat) (qmR : Nat) (qmv : Nat) (qmk : Nat) (qma : Nat) (qmt : Nat) (kZ : Nat) (qmr : Nat) (tA : TA) (qmB : Nat) (qmO : Nat) (qmK : Nat) (iEn : Int32) (iTk : Int32) (uP : UM) (uU : UM) (kAt : Nat) (iTo : Int32) (iFr : Int32) (JFi : Int64) (iFa : Int32) (qm3 : Nat) (iSt : Int32) (iLv : Int32) (iWs : Int32) (vLa : Value) (qmu : Nat) (qmy : Nat) (qmb : Nat) (qms : Nat) (iOm : Int32) (fMr : Nat → Int32) (rB : Nat → Nat) (rO : Nat → Nat) (rK : Nat → Nat)  (hB : T_nb tA ≤ 8) (hPp : T_np tA ≤ 8) (hTI : TI tA) : MW l yX6_back cX6_back 1 (some .int) 16 0 0 G cy ([zzO qm 5 (.ref qmh :: .ref qmo :: .ref qmz :: .ref qmR :: .ref qmv :: .ref qmk :: .ref qma :: .ref qmt :: .int (nI kZ) :: .ref qmr :: .int (nI (T_nb tA)) :: .ref qmB :: .int (nI (T_np tA)) :: .ref qmO :: .ref qmK :: .int iEn :: .int iTk :: .int (T_sd tA) :: ov uP :: ov uU :: .int (nI kAt) :: .int iTo :: .int iFr :: .long JFi :: .int iFa :: .ref qm3 :: .int iSt :: .int iLv :: .int iWs :: vLa :: .ref qmu :: .ref qmy :: .ref qmb :: .ref qms :: .int iOm :: []), zzI cy qmr 8 fMr, zzG cy 3 qmB rB, zzI cy (rB 0) 4 (bkR tA 0), zzI cy (rB 1) 4 (bkR tA 1), zzI cy (rB 2) 4 (bkR tA 2), zzI cy (rB 3) 4 (bkR tA 3), zzI cy (rB 4) 4 (bkR tA 4), zzI cy (rB 5) 4 (bkR tA 5), zzI cy (rB 6) 4 (bkR tA 6), zzI cy (rB 7) 4 (bkR tA 7), zzG cy 3 qmO rO, zzI cy (rO 0) 5 (onR tA 0), zzI cy (rO 1) 5 (onR tA 1), zzI cy (rO 2) 5 (onR tA 2), zzI cy (rO 3) 5 (onR tA 3), zzI cy (rO 4) 5 (onR tA 4), zzI cy (rO 5) 5 (onR tA 5), zzI cy (rO 6) 5 (onR tA 6), zzI cy (rO 7) 5 (onR tA 7), zzG cy 3 qmK rK, zzI cy (rK 0) 8 (T_kn tA 0), zzI cy (rK 1) 8 (T_kn tA 1), zzI cy (rK 2) 8 (T_kn tA 2), zzI cy (rK 3) 8 (T_kn tA 3), zzI cy (rK 4) 8 (T_kn tA 4), zzI cy (rK 5) 8 (T_kn tA 5), zzI cy (rK 6) 8 (T_kn tA 6), zzI cy (rK 7) 8 (T_kn tA 7)] ++ oM cy uP) sz [.ref qm] (Wi G (fun r u => ∃ (iNe : Int32) (iNt : Int32) (fNr : Nat → Int32) (tN : TA), u = ([zzO qm 5 (.ref qmh :: .ref qmo :: .ref qmz :: .ref qmR :: .ref qmv :: .ref qmk :: .ref qma :: .ref qmt :: .int (nI kZ) :: .ref qmr :: .int (nI (T_nb tN)) :: .ref qmB :: .int (nI (T_np tN)) :: .ref qmO :: .ref qmK :: .int iNe :: .int iNt :: .int (T_sd tN) :: ov uP :: ov uU :: .int (nI kAt) :: .int iTo :: .int iFr :: .long JFi :: .int iFa :: .ref qm3 :: .int iSt :: .int iLv :: .int iWs :: vLa :: .ref qmu :: .ref qmy :: .ref qmb :: .ref qms :: .int iOm :: []), zzI cy qmr 8 fNr, zzG cy 3 qmB rB, zzI cy (rB 0) 4 (bkR tN 0), zzI cy (rB 1) 4 (bkR tN 1), zzI cy (rB 2) 4 (bkR tN 2), zzI cy (rB 3) 4 (bkR tN 3), zzI cy (rB 4) 4 (bkR tN 4), zzI cy (rB 5) 4 (bkR tN 5), zzI cy (rB 6) 4 (bkR tN 6), zzI cy (rB 7) 4 (bkR tN 7), zzG cy 3 qmO rO, zzI cy (rO 0) 5 (onR tN 0), zzI cy (rO 1) 5 (onR tN 1), zzI cy (rO 2) 5 (onR tN 2), zzI cy (rO 3) 5 (onR tN 3), zzI cy (rO 4) 5 (onR tN 4), zzI cy (rO 5) 5 (onR tN 5), zzI cy (rO 6) 5 (onR tN 6), zzI cy (rO 7) 5 (onR tN 7), zzG cy 3 qmK rK, zzI cy (rK 0) 8 (T_kn tN 0), zzI cy (rK 1) 8 (T_kn tN 1), zzI cy (rK 2) 8 (T_kn tN 2), zzI cy (rK 3) 8 (T_kn tN 3), zzI cy (rK 4) 8 (T_kn tN 4), zzI cy (rK 5) 8 (T_kn tN 5), zzI cy (rK 6) 8 (T_kn tN 6), zzI cy (rK 7) 8 (T_kn tN 7)] ++ oM cy uP) ∧ ((isS uP = false ∧ r = -5 ∧ tN = tA) ∨ (isS uP = true ∧ r = 1 ∧ tN = uT uP)) ∧ (True))) := by
  refine enW RX6 (by decide +kernel) rfl (Nat.le_of_ble_eq_true rfl) (fun p e s m below meth c ls A hx hb hml hown hts hr hlocks hP hN hl hin hD hA hS => ?_)
  have hin : meth.name = _ := hin
  have hK := hN.1
  replace hl : lv_has ls 1 [(0, .ref qm)] := hl
  refine lv_aload_n hx hb (g_42 bX6_back rfl) rfl (lv_at hl 0 rfl) ?_
  refine va_get (D := G) (ci := 5) (v := ov uP) (C := RX6) (T := TX6) (N := 35) hx hb hts iX_X6 hown hK hP 0 rfl rfl 18 (by decide +kernel) (hts _ m_t868) (fun _ h9 => h9) rfl (g_180 (v := 362) bX6_back rfl) ?_
  rcases uP with _ | ⟨qP_1, qPB_2, qPO_3, qPK_4, rPB_5, rPO_6, rPK_7, tP_8, xP_9, iEnP_10, iTkP_11, iLvP_12, iWsP_13⟩
  · have hPD := pd_as [zzO qm 5 (.ref qmh :: .ref qmo :: .ref qmz :: .ref qmR :: .ref qmv :: .ref qmk :: .ref qma :: .ref qmt :: .int (nI kZ) :: .ref qmr :: .int (nI (T_nb tA)) :: .ref qmB :: .int (nI (T_np tA)) :: .ref qmO :: .ref qmK :: .int iEn :: .int iTk :: .int (T_sd tA) :: .null :: ov uU :: .int (nI kAt) :: .int iTo :: .int iFr :: .long JFi :: .int iFa :: .ref qm3 :: .int iSt :: .int iLv :: .int iWs :: vLa :: .ref qmu :: .ref qmy :: .ref qmb :: .ref qms :: .int iOm :: []), _, _, _, _, _, _, _, _, _, _, _, _, _, _, _, _, _, _, _, _, _, _, _, _, _, _, _, _] hP hD rfl
    clear hP hD
    obtain ⟨hP, hD⟩ := hPD
    refine lv_setv (v := .null) rfl ?_
    refine lv_ifnonnullN hx hb dX6_back_4 ?_
    refine lv_aload_n hx hb (g_42 bX6_back rfl) rfl (lv_at hl 0 rfl) ?_
    refine lv_bipush (v := (-5)) hx hb dX6_back_8 (by decide +kernel) ?_
    refine cVi (As := [.int (-5)]) (rest := []) (b := qm) (q := (RX6, TX6, 35)) ⟨hx, hb, hml, hown, hts⟩ (c_X6_refuse5 l G cy (s.heap).size qm (.ref qmh) (.ref qmo) (.ref qmz) (.ref qmR) (.ref qmv) (.ref qmk) (.ref qma) (.ref qmt) (.int (nI kZ)) qmr tA qmB qmO qmK iEn iTk .null (ov uU) (.int (nI kAt)) (.int iTo) (.int iFr) (.long JFi) (.int iFa) (.ref qm3) (.int iSt) iLv iWs vLa (.ref qmu) (.ref qmy) (.ref qmb) (.ref qms) (.int iOm) fMr) L_X6_91 hN hP hD hS hA [0, 1] [false, false, true, true, true, true, true, true, true, true, true, true, true, true, true, true, true, true, true, true, true, true, true, true, true, true, true, true, true] rfl (by decide +kernel) rfl 0 5 rfl rfl rfl ⟨Nat.le_of_ble_eq_true rfl, Nat.le_of_ble_eq_true rfl⟩ hl.1 (Nat.le_of_ble_eq_true rfl) (g_182 (v := 91) bX6_back rfl) ⟨Nat.le_of_ble_eq_true rfl, Nat.le_of_ble_eq_true rfl⟩ (fun r_14 u_16 H locs h_15 => ?_)
    clear hP hD hS
    intro hP hD hS
    obtain ⟨fX_17, hu9, h_15⟩ := h_15
    have hPD := pd_eq [_, _, _, _, _, _, _, _, _, _, _, _, _, _, _, _, _, _, _, _, _, _, _, _, _, _, _, _, zzI cy qmr 8 fX_17] hP hD hu9 rfl
    clear hP hD hu9
    obtain ⟨hP, hD⟩ := hPD
    subst h_15
    exact endWs [[false, false, false, false, false, false, false, false, false, false, false, false, false, false, false, false, false, false, false, false, false, false, false, false, false, false, false, true, true], [true, true, true, true, true, true, true, true, true, true, true, true, true, true, true, true, true, true, true, true, true, true, true, true, true, true, true]] hx hb hr hlocks rfl hP hD rfl (by decide +kernel) hS ⟨iEn, iTk, fX_17, tA, rfl, Or.inl ⟨rfl, rfl, rfl⟩, trivial⟩ (g_172 bX6_back rfl)
  · have hPD := pd_as (zzO qm 5 (.ref qmh :: .ref qmo :: .ref qmz :: .ref qmR :: .ref qmv :: .ref qmk :: .ref qma :: .ref qmt :: .int (nI kZ) :: .ref qmr :: .int (nI (T_nb tA)) :: .ref qmB :: .int (nI (T_np tA)) :: .ref qmO :: .ref qmK :: .int iEn :: .int iTk :: .int (T_sd tA) :: .ref qP_1 :: ov uU :: .int (nI kAt) :: .int iTo :: .int iFr :: .long JFi :: .int iFa :: .ref qm3 :: .int iSt :: .int iLv :: .int iWs :: vLa :: .ref qmu :: .ref qmy :: .ref qmb :: .ref qms :: .int iOm :: []) :: _ :: _ :: _ :: _ :: _ :: _ :: _ :: _ :: _ :: _ :: _ :: _ :: _ :: _ :: _ :: _ :: _ :: _ :: _ :: _ :: _ :: _ :: _ :: _ :: _ :: _ :: _ :: _ :: zzO qP_1 5 (xP_9 0 :: xP_9 1 :: xP_9 2 :: xP_9 3 :: xP_9 4 :: xP_9 5 :: xP_9 6 :: xP_9 7 :: xP_9 8 :: xP_9 9 :: .int (nI (T_nb tP_8)) :: .ref qPB_2 :: .int (nI (T_np tP_8)) :: .ref qPO_3 :: .ref qPK_4 :: .int iEnP_10 :: .int iTkP_11 :: .int (T_sd tP_8) :: xP_9 18 :: xP_9 19 :: xP_9 20 :: xP_9 21 :: xP_9 22 :: xP_9 23 :: xP_9 24 :: xP_9 25 :: xP_9 26 :: .int iLvP_12 :: .int iWsP_13 :: xP_9 29 :: xP_9 30 :: xP_9 31 :: xP_9 32 :: xP_9 33 :: xP_9 34 :: []) :: zzG cy 3 qPB_2 rPB_5 :: zzI cy (rPB_5 0) 4 (bkR tP_8 0) :: zzI cy (rPB_5 1) 4 (bkR tP_8 1) :: zzI cy (rPB_5 2) 4 (bkR tP_8 2) :: zzI cy (rPB_5 3) 4 (bkR tP_8 3) :: zzI cy (rPB_5 4) 4 (bkR tP_8 4) :: zzI cy (rPB_5 5) 4 (bkR tP_8 5) :: zzI cy (rPB_5 6) 4 (bkR tP_8 6) :: zzI cy (rPB_5 7) 4 (bkR tP_8 7) :: zzG cy 3 qPO_3 rPO_6 :: zzI cy (rPO_6 0) 5 (onR tP_8 0) :: zzI cy (rPO_6 1) 5 (onR tP_8 1) :: zzI cy (rPO_6 2) 5 (onR tP_8 2) :: zzI cy (rPO_6 3) 5 (onR tP_8 3) :: zzI cy (rPO_6 4) 5 (onR tP_8 4) :: zzI cy (rPO_6 5) 5 (onR tP_8 5) :: zzI cy (rPO_6 6) 5 (onR tP_8 6) :: zzI cy (rPO_6 7) 5 (onR tP_8 7) :: zzG cy 3 qPK_4 rPK_7 :: zzI cy (rPK_7 0) 8 (T_kn tP_8 0) :: zzI cy (rPK_7 1) 8 (T_kn tP_8 1) :: zzI cy (rPK_7 2) 8 (T_kn tP_8 2) :: zzI cy (rPK_7 3) 8 (T_kn tP_8 3) :: zzI cy (rPK_7 4) 8 (T_kn tP_8 4) :: zzI cy (rPK_7 5) 8 (T_kn tP_8 5) :: zzI cy (rPK_7 6) 8 (T_kn tP_8 6) :: zzI cy (rPK_7 7) 8 (T_kn tP_8 7) :: []) hP hD rfl
    clear hP hD
    obtain ⟨hP, hD⟩ := hPD
    refine lv_setv (v := .ref qP_1) rfl ?_
    refine lv_ifnonnull (tgt := 14) hx hb dX6_back_4 (by decide +kernel) ?_
    refine lv_aload_n hx hb (g_42 bX6_back rfl) rfl (lv_at hl 0 rfl) ?_
    refine lv_aload_n hx hb (g_42 bX6_back rfl) rfl (lv_at hl 0 rfl) ?_
    refine va_get (D := G) (ci := 5) (v := .ref qP_1) (C := RX6) (T := TX6) (N := 35) hx hb hts iX_X6 hown hK hP 0 rfl rfl 18 (by decide +kernel) (hts _ m_t868) (fun _ h9 => h9) rfl (g_180 (v := 362) bX6_back rfl) ?_
    refine cVv (As := [.ref qP_1]) (rest := []) (b := qm) (q := (RX6, TX6, 35)) ⟨hx, hb, hml, hown, hts⟩ (c_X6_takeFrom l G cy (s.heap).size qm (.ref qmh) (.ref qmo) (.ref qmz) (.ref qmR) (.ref qmv) (.ref qmk) (.ref qma) (.ref qmt) (.int (nI kZ)) (.ref qmr) tA qmB qmO qmK iEn iTk (.ref qP_1) (ov uU) (.int (nI kAt)) (.int iTo) (.int iFr) (.long JFi) (.int iFa) (.ref qm3) (.int iSt) iLv iWs vLa (.ref qmu) (.ref qmy) (.ref qmb) (.ref qms) (.int iOm) rB rO rK qP_1 (xP_9 0) (xP_9 1) (xP_9 2) (xP_9 3) (xP_9 4) (xP_9 5) (xP_9 6) (xP_9 7) (xP_9 8) (xP_9 9) tP_8 qPB_2 qPO_3 qPK_4 iEnP_10 iTkP_11 (xP_9 18) (xP_9 19) (xP_9 20) (xP_9 21) (xP_9 22) (xP_9 23) (xP_9 24) (xP_9 25) (xP_9 26) iLvP_12 iWsP_13 (xP_9 29) (xP_9 30) (xP_9 31) (xP_9 32) (xP_9 33) (xP_9 34) rPB_5 rPO_6 rPK_7) L_X6_225 hN hP hD hS hA (trueIx 0 (true :: false :: true :: true :: true :: true :: true :: true :: true :: true :: true :: true :: true :: true :: true :: true :: true :: true :: true :: true :: true :: true :: true :: true :: true :: true :: true :: true :: true :: true :: true :: true :: true :: true :: true :: true :: true :: true :: true :: true :: true :: true :: true :: true :: true :: true :: true :: true :: true :: true :: true :: true :: true :: true :: true :: true :: true :: [])) (false :: true :: false :: false :: false :: false :: false :: false :: false :: false :: false :: false :: false :: false :: false :: false :: false :: false :: false :: false :: false :: false :: false :: false :: false :: false :: false :: false :: false :: false :: false :: false :: false :: false :: false :: false :: false :: false :: false :: false :: false :: false :: false :: false :: false :: false :: false :: false :: false :: false :: false :: false :: false :: false :: false :: false :: false :: []) (sel_eq rfl rfl) (by decide +kernel) rfl 0 5 rfl rfl rfl ⟨Nat.le_of_ble_eq_true rfl, Nat.le_of_ble_eq_true rfl⟩ hl.1 (Nat.le_of_ble_eq_true rfl) (g_182 (v := 225) bX6_back rfl) ⟨Nat.le_of_ble_eq_true rfl, Nat.le_of_ble_eq_true rfl⟩ (fun u_20 H locs h_19 => ?_)
    clear hP hD hS
    intro hP hD hS
    have hPD := pd_eq (_ :: zzO qm 5 (.ref qmh :: .ref qmo :: .ref qmz :: .ref qmR :: .ref qmv :: .ref qmk :: .ref qma :: .ref qmt :: .int (nI kZ) :: .ref qmr :: .int (nI (T_nb tP_8)) :: .ref qmB :: .int (nI (T_np tP_8)) :: .ref qmO :: .ref qmK :: .int iEnP_10 :: .int iTkP_11 :: .int (T_sd tP_8) :: .ref qP_1 :: ov uU :: .int (nI kAt) :: .int iTo :: .int iFr :: .long JFi :: .int iFa :: .ref qm3 :: .int iSt :: .int iLv :: .int iWs :: vLa :: .ref qmu :: .ref qmy :: .ref qmb :: .ref qms :: .int iOm :: []) :: _ :: zzI cy (rB 0) 4 (bkR tP_8 0) :: zzI cy (rB 1) 4 (bkR tP_8 1) :: zzI cy (rB 2) 4 (bkR tP_8 2) :: zzI cy (rB 3) 4 (bkR tP_8 3) :: zzI cy (rB 4) 4 (bkR tP_8 4) :: zzI cy (rB 5) 4 (bkR tP_8 5) :: zzI cy (rB 6) 4 (bkR tP_8 6) :: zzI cy (rB 7) 4 (bkR tP_8 7) :: _ :: zzI cy (rO 0) 5 (onR tP_8 0) :: zzI cy (rO 1) 5 (onR tP_8 1) :: zzI cy (rO 2) 5 (onR tP_8 2) :: zzI cy (rO 3) 5 (onR tP_8 3) :: zzI cy (rO 4) 5 (onR tP_8 4) :: zzI cy (rO 5) 5 (onR tP_8 5) :: zzI cy (rO 6) 5 (onR tP_8 6) :: zzI cy (rO 7) 5 (onR tP_8 7) :: _ :: zzI cy (rK 0) 8 (T_kn tP_8 0) :: zzI cy (rK 1) 8 (T_kn tP_8 1) :: zzI cy (rK 2) 8 (T_kn tP_8 2) :: zzI cy (rK 3) 8 (T_kn tP_8 3) :: zzI cy (rK 4) 8 (T_kn tP_8 4) :: zzI cy (rK 5) 8 (T_kn tP_8 5) :: zzI cy (rK 6) 8 (T_kn tP_8 6) :: zzI cy (rK 7) 8 (T_kn tP_8 7) :: _ :: _ :: _ :: _ :: _ :: _ :: _ :: _ :: _ :: _ :: _ :: _ :: _ :: _ :: _ :: _ :: _ :: _ :: _ :: _ :: _ :: _ :: _ :: _ :: _ :: _ :: _ :: _ :: []) hP hD h_19 rfl
    clear hP hD h_19
    obtain ⟨hP, hD⟩ := hPD
    refine lv_iconst (v := 1) hx hb (g_4 bX6_back rfl) (by decide +kernel) ?_
    exact endWs [[false, true], (true :: false :: true :: true :: true :: true :: true :: true :: true :: true :: true :: true :: true :: true :: true :: true :: true :: true :: true :: true :: true :: true :: true :: true :: true :: true :: true :: true :: true :: true :: true :: true :: true :: true :: true :: true :: true :: true :: true :: true :: true :: true :: true :: true :: true :: true :: true :: true :: true :: true :: true :: true :: true :: true :: true :: true :: true :: [])] hx hb hr hlocks rfl hP hD rfl (by decide +kernel) hS ⟨iEnP_10, iTkP_11, fMr, tP_8, rfl, Or.inr ⟨rfl, rfl, rfl⟩, trivial⟩ (g_172 bX6_back rfl)
set_option maxHeartbeats 4000000 in
set_option maxRecDepth 100000 in
theorem p_X6_status (l : Launch) (G : va_G) (cy : Nat → ClassId) (qm : Nat) (qmh : Nat) (qmo : Nat) (qmz : Nat) (qmR : Nat) (qmv : Nat) (qmk : Nat) (qma : Nat) (qmt : Nat) (kZ : Nat) (qmr : Nat) (tA : TA) (qmB : Nat) (qmO : Nat) (qmK : Nat) (iEn : Int32) (iTk : Int32) (uP : UM) (uU : UM) (kAt : Nat) (iTo : Int32) (iFr : Int32) (JFi : Int64) (iFa : Int32) (qm3 : Nat) (iSt : Int32) (iLv : Int32) (iWs : Int32) (vLa : Value) (qmu : Nat) (qmy : Nat) (qmb : Nat) (qms : Nat) (iOm : Int32) (fMh : Nat → Int32) (fMr : Nat → Int32) (rB : Nat → Nat) (rO : Nat → Nat) (rK : Nat → Nat) (iA : Int32)  (hB : T_nb tA ≤ 8) (hPp : T_np tA ≤ 8) (hTI : TI tA) : MR l yX6_status cX6_status 4 (some .int) 16 G cy [zzO qm 5 (.ref qmh :: .ref qmo :: .ref qmz :: .ref qmR :: .ref qmv :: .ref qmk :: .ref qma :: .ref qmt :: .int (nI kZ) :: .ref qmr :: .int (nI (T_nb tA)) :: .ref qmB :: .int (nI (T_np tA)) :: .ref qmO :: .ref qmK :: .int iEn :: .int iTk :: .int (T_sd tA) :: ov uP :: ov uU :: .int (nI kAt) :: .int iTo :: .int iFr :: .long JFi :: .int iFa :: .ref qm3 :: .int iSt :: .int iLv :: .int iWs :: vLa :: .ref qmu :: .ref qmy :: .ref qmb :: .ref qms :: .int iOm :: []), zzI cy qmh 8 fMh, zzI cy qmr 8 fMr, zzG cy 3 qmB rB, zzI cy (rB 0) 4 (bkR tA 0), zzI cy (rB 1) 4 (bkR tA 1), zzI cy (rB 2) 4 (bkR tA 2), zzI cy (rB 3) 4 (bkR tA 3), zzI cy (rB 4) 4 (bkR tA 4), zzI cy (rB 5) 4 (bkR tA 5), zzI cy (rB 6) 4 (bkR tA 6), zzI cy (rB 7) 4 (bkR tA 7), zzG cy 3 qmO rO, zzI cy (rO 0) 5 (onR tA 0), zzI cy (rO 1) 5 (onR tA 1), zzI cy (rO 2) 5 (onR tA 2), zzI cy (rO 3) 5 (onR tA 3), zzI cy (rO 4) 5 (onR tA 4), zzI cy (rO 5) 5 (onR tA 5), zzI cy (rO 6) 5 (onR tA 6), zzI cy (rO 7) 5 (onR tA 7), zzG cy 3 qmK rK, zzI cy (rK 0) 8 (T_kn tA 0), zzI cy (rK 1) 8 (T_kn tA 1), zzI cy (rK 2) 8 (T_kn tA 2), zzI cy (rK 3) 8 (T_kn tA 3), zzI cy (rK 4) 8 (T_kn tA 4), zzI cy (rK 5) 8 (T_kn tA 5), zzI cy (rK 6) 8 (T_kn tA 6), zzI cy (rK 7) 8 (T_kn tA 7)] [.ref qm, .int iA] (vp_Si (fun r => True)) := by
  refine enR RX6 (by decide +kernel) rfl (Nat.le_of_ble_eq_true rfl) (fun p e s m below meth c ls hx hb hml hown hts hr hlocks hP hN hl => ?_)
  have hK := hN.1
  replace hl : lv_has ls 4 [(0, .ref qm), (1, .int iA)] := hl
  refine lv_iload_n hx hb (g_27 bX6_status rfl) rfl (lv_at hl 1 rfl) ?_
  rcases sw_0_8 iA with rfl | rfl | rfl | rfl | rfl | rfl | rfl | rfl | rfl | h_1
  · refine lv_tableIn (tgt := 52) (off := 51) hx hb dX6_status_1 (by decide +kernel) (by decide +kernel) (by decide +kernel) (by decide +kernel) ?_
    refine lv_aload_n hx hb (g_42 bX6_status rfl) rfl (lv_at hl 0 rfl) ?_
    refine va_get (D := G) (ci := 5) (v := .int (nI (T_nb tA))) (C := RX6) (T := TX6) (N := 35) hx hb hts iX_X6 hown hK hP 0 rfl rfl 10 (by decide +kernel) (hts _ m_t860) (fun _ h9 => h9) rfl (g_180 (v := 71) bX6_status rfl) ?_
    exact endR hx hb hr hlocks rfl trivial (g_172 bX6_status rfl)
  · refine lv_tableIn (tgt := 57) (off := 56) hx hb dX6_status_1 (by decide +kernel) (by decide +kernel) (by decide +kernel) (by decide +kernel) ?_
    refine lv_aload_n hx hb (g_42 bX6_status rfl) rfl (lv_at hl 0 rfl) ?_
    refine kRi (rV (As := []) (rest := []) (b := qm) ⟨hx, hb, hml, hown, hts⟩ (c_X6_whiteMany l G cy qm (.ref qmh) (.ref qmo) (.ref qmz) (.ref qmR) (.ref qmv) (.ref qmk) (.ref qma) (.ref qmt) (.int (nI kZ)) (.ref qmr) tA qmB qmO qmK iEn iTk (ov uP) (ov uU) (.int (nI kAt)) (.int iTo) (.int iFr) (.long JFi) (.int iFa) (.ref qm3) (.int iSt) iLv iWs vLa (.ref qmu) (.ref qmy) (.ref qmb) (.ref qms) (.int iOm) rB hB) L_X6_308 (preRV (q := (RX6, TX6, 35)) hN hP (trueIx 0 [true, false, false, true, true, true, true, true, true, true, true, true]) (sel_fm rfl rfl) 0 5 rfl rfl) rfl ⟨Nat.le_of_ble_eq_true rfl, Nat.le_of_ble_eq_true rfl⟩ hl.1 (Nat.le_of_ble_eq_true rfl) (g_182 (v := 308) bX6_status rfl) ⟨Nat.le_of_ble_eq_true rfl, Nat.le_of_ble_eq_true rfl⟩) (fun r_2 h_3 => ?_)
    subst h_3
    exact endR hx hb hr hlocks rfl trivial (g_172 bX6_status rfl)
  · refine lv_tableIn (tgt := 62) (off := 61) hx hb dX6_status_1 (by decide +kernel) (by decide +kernel) (by decide +kernel) (by decide +kernel) ?_
    refine lv_aload_n hx hb (g_42 bX6_status rfl) rfl (lv_at hl 0 rfl) ?_
    refine va_get (D := G) (ci := 5) (v := .int (nI (T_np tA))) (C := RX6) (T := TX6) (N := 35) hx hb hts iX_X6 hown hK hP 0 rfl rfl 12 (by decide +kernel) (hts _ m_t862) (fun _ h9 => h9) rfl (g_180 (v := 78) bX6_status rfl) ?_
    exact endR hx hb hr hlocks rfl trivial (g_172 bX6_status rfl)
  · refine lv_tableIn (tgt := 67) (off := 66) hx hb dX6_status_1 (by decide +kernel) (by decide +kernel) (by decide +kernel) (by decide +kernel) ?_
    refine lv_aload_n hx hb (g_42 bX6_status rfl) rfl (lv_at hl 0 rfl) ?_
    refine va_get (D := G) (ci := 5) (v := .int (nI (T_np tA))) (C := RX6) (T := TX6) (N := 35) hx hb hts iX_X6 hown hK hP 0 rfl rfl 12 (by decide +kernel) (hts _ m_t862) (fun _ h9 => h9) rfl (g_180 (v := 78) bX6_status rfl) ?_
    refine lv_aload_n hx hb (g_42 bX6_status rfl) rfl (lv_at hl 0 rfl) ?_
    refine kRi (rV (As := []) (rest := [.int (nI (T_np tA))]) (b := qm) ⟨hx, hb, hml, hown, hts⟩ (c_X6_thereMany l G cy qm (.ref qmh) (.ref qmo) (.ref qmz) (.ref qmR) (.ref qmv) (.ref qmk) (.ref qma) (.ref qmt) (.int (nI kZ)) (.ref qmr) tA qmB qmO qmK iEn iTk (ov uP) (ov uU) (.int (nI kAt)) (.int iTo) (.int iFr) (.long JFi) (.int iFa) (.ref qm3) (.int iSt) iLv iWs vLa (.ref qmu) (.ref qmy) (.ref qmb) (.ref qms) (.int iOm) rO hPp) L_X6_275 (preRV (q := (RX6, TX6, 35)) hN hP (trueIx 0 [true, false, false, false, false, false, false, false, false, false, false, false, true, true, true, true, true, true, true, true, true]) (sel_fm rfl rfl) 0 5 rfl rfl) rfl ⟨Nat.le_of_ble_eq_true rfl, Nat.le_of_ble_eq_true rfl⟩ hl.1 (Nat.le_of_ble_eq_true rfl) (g_182 (v := 275) bX6_status rfl) ⟨Nat.le_of_ble_eq_true rfl, Nat.le_of_ble_eq_true rfl⟩) (fun r_4 h_5 => ?_)
    subst h_5
    refine lv_isub hx hb (g_100 bX6_status rfl) ?_
    exact endR hx hb hr hlocks rfl trivial (g_172 bX6_status rfl)
  · refine lv_tableIn (tgt := 77) (off := 76) hx hb dX6_status_1 (by decide +kernel) (by decide +kernel) (by decide +kernel) (by decide +kernel) ?_
    refine lv_aload_n hx hb (g_42 bX6_status rfl) rfl (lv_at hl 0 rfl) ?_
    refine va_get (D := G) (ci := 5) (v := .int iEn) (C := RX6) (T := TX6) (N := 35) hx hb hts iX_X6 hown hK hP 0 rfl rfl 15 (by decide +kernel) (hts _ m_t865) (fun _ h9 => h9) rfl (g_180 (v := 285) bX6_status rfl) ?_
    exact endR hx hb hr hlocks rfl trivial (g_172 bX6_status rfl)
  · refine lv_tableIn (tgt := 82) (off := 81) hx hb dX6_status_1 (by decide +kernel) (by decide +kernel) (by decide +kernel) (by decide +kernel) ?_
    refine lv_aload_n hx hb (g_42 bX6_status rfl) rfl (lv_at hl 0 rfl) ?_
    refine va_get (D := G) (ci := 5) (v := .int iTk) (C := RX6) (T := TX6) (N := 35) hx hb hts iX_X6 hown hK hP 0 rfl rfl 16 (by decide +kernel) (hts _ m_t866) (fun _ h9 => h9) rfl (g_180 (v := 355) bX6_status rfl) ?_
    exact endR hx hb hr hlocks rfl trivial (g_172 bX6_status rfl)
  · refine lv_tableIn (tgt := 87) (off := 86) hx hb dX6_status_1 (by decide +kernel) (by decide +kernel) (by decide +kernel) (by decide +kernel) ?_
    refine lv_aload_n hx hb (g_42 bX6_status rfl) rfl (lv_at hl 0 rfl) ?_
    refine va_get (D := G) (ci := 5) (v := .int (nI kZ)) (C := RX6) (T := TX6) (N := 35) hx hb hts iX_X6 hown hK hP 0 rfl rfl 8 (by decide +kernel) (hts _ m_t858) (fun _ h9 => h9) rfl (g_180 (v := 141) bX6_status rfl) ?_
    exact endR hx hb hr hlocks rfl trivial (g_172 bX6_status rfl)
  · refine lv_tableIn (tgt := 92) (off := 91) hx hb dX6_status_1 (by decide +kernel) (by decide +kernel) (by decide +kernel) (by decide +kernel) ?_
    refine lv_aload_n hx hb (g_42 bX6_status rfl) rfl (lv_at hl 0 rfl) ?_
    refine va_get (D := G) (ci := 5) (v := .int (T_sd tA)) (C := RX6) (T := TX6) (N := 35) hx hb hts iX_X6 hown hK hP 0 rfl rfl 17 (by decide +kernel) (hts _ m_t867) (fun _ h9 => h9) rfl (g_180 (v := 51) bX6_status rfl) ?_
    exact endR hx hb hr hlocks rfl trivial (g_172 bX6_status rfl)
  · refine lv_tableIn (tgt := 97) (off := 96) hx hb dX6_status_1 (by decide +kernel) (by decide +kernel) (by decide +kernel) (by decide +kernel) ?_
    refine lv_iconst (v := 0) hx hb (g_3 bX6_status rfl) (by decide +kernel) ?_
    refine lv_istore_n (lv' := [(2, .int 0), (0, .ref qm), (1, .int 8)]) hx hb (g_61 bX6_status rfl) rfl hl (by decide +kernel) rfl (fun ls => ?_)
    clear hl
    intro hl
    refine lv_iconst (v := 0) hx hb (g_3 bX6_status rfl) (by decide +kernel) ?_
    refine lv_istore_n (lv' := [(3, .int 0), (2, .int 0), (0, .ref qm), (1, .int 8)]) hx hb (g_62 bX6_status rfl) rfl hl (by decide +kernel) rfl (fun ls => ?_)
    clear hl
    intro hl
    have lp_6 : ∀ (n_7 : Nat) (j_9 : Nat) (x2_10 : Int32), 8 - j_9 < n_7 → j_9 ≤ 8 → ∀ (ls : Array Slot), lv_has ls 4 [(3, .int (nI j_9)), (2, .int x2_10), (0, .ref qm), (1, .int 8)] → W p l e (Rm 16 0 0) s m (List.toArray (α := Value) [.ref qm, .int 8]) below meth c s.heap [] 0 0 (MQ below (vp_Si (fun r => True)) (List.toArray (α := Value) [.ref qm, .int 8]) s 0 0 (fun _ => False)) (F0 m 101 ls []) := by
      intro n_7
      induction n_7 with
      | zero => intro j_9 x2_10 hm9; exact absurd hm9 (Nat.not_lt_zero _)
      | succ n_7 ih_8 =>
        intro j_9 x2_10 hm_12 hj_11 ls hl
        refine lv_iload_n hx hb (g_29 bX6_status rfl) rfl (lv_at hl 0 rfl) ?_
        refine lv_bipush (v := 8) hx hb dX6_status_102 (by decide +kernel) ?_
        refine lv_icmp_ge (tgt := 130) hx hb dX6_status_104 (by decide +kernel) (fun c_13 => ?_) (fun c_13 => ?_)
        · have hlt_14 : j_9 = 8 := Nat.le_antisymm (by omega) (lp_ge rfl (rfl : (8 : Int32) = nI 8) (by omega) (by omega) c_13)
          refine lv_iload_n hx hb (g_28 bX6_status rfl) rfl (lv_at hl 1 rfl) ?_
          exact endR hx hb hr hlocks rfl trivial (g_172 bX6_status rfl)
        · have hlt_15 : j_9 < 8 := lp_lt rfl (rfl : (8 : Int32) = nI 8) (by omega) (by omega) c_13
          refine lv_iload_n hx hb (g_28 bX6_status rfl) rfl (lv_at hl 1 rfl) ?_
          refine lv_aload_n hx hb (g_42 bX6_status rfl) rfl (lv_at hl 2 rfl) ?_
          refine va_get (D := G) (ci := 5) (v := .ref qmh) (C := RX6) (T := TX6) (N := 35) hx hb hts iX_X6 hown hK hP 0 rfl rfl 0 (by decide +kernel) (hts _ m_t850) (fun _ h9 => h9) rfl (g_180 (v := 7) bX6_status rfl) ?_
          refine lv_iload_n hx hb (g_29 bX6_status rfl) rfl (lv_at hl 0 rfl) ?_
          refine va_iald hx hb hK hP 1 0 rfl rfl (in8 (by omega)) (g_46 bX6_status rfl) ?_
          refine lv_seti (v := fMh j_9) (congrArg fMh (cl8 (by omega))) ?_
          refine lv_if_eq (tgt := 121) hx hb dX6_status_114 (by decide +kernel) (fun c_16 => ?_) (fun c_16 => ?_)
          · refine lv_iconst (v := 0) hx hb (g_3 bX6_status rfl) (by decide +kernel) ?_
            refine lv_iadd hx hb (g_96 bX6_status rfl) ?_
            refine lv_istore_n (lv' := [(2, .int (x2_10 + 0)), (3, .int (nI j_9)), (0, .ref qm), (1, .int 8)]) hx hb (g_61 bX6_status rfl) rfl hl (by decide +kernel) rfl (fun ls => ?_)
            clear hl
            intro hl
            refine lv_iinc (v := nI (j_9 + 1)) (lv' := [(3, .int (nI (j_9 + 1))), (2, .int (x2_10 + 0)), (0, .ref qm), (1, .int 8)]) hx hb dX6_status_124 hl (k := 1) rfl (nI_1 _) (by decide +kernel) rfl (fun ls => ?_)
            clear hl
            intro hl
            refine lv_goto (tgt := 101) hx hb dX6_status_127 (by decide +kernel) ?_
            exact ih_8 (j_9 + 1) (x2_10 + 0) (by omega) (by omega) _ (lv_sub hl [0, 1, 2, 3] rfl)
          · refine lv_iconst (v := 1) hx hb (g_4 bX6_status rfl) (by decide +kernel) ?_
            refine lv_goto (tgt := 122) hx hb dX6_status_118 (by decide +kernel) ?_
            refine lv_iadd hx hb (g_96 bX6_status rfl) ?_
            refine lv_istore_n (lv' := [(2, .int (x2_10 + 1)), (3, .int (nI j_9)), (0, .ref qm), (1, .int 8)]) hx hb (g_61 bX6_status rfl) rfl hl (by decide +kernel) rfl (fun ls => ?_)
            clear hl
            intro hl
            refine lv_iinc (v := nI (j_9 + 1)) (lv' := [(3, .int (nI (j_9 + 1))), (2, .int (x2_10 + 1)), (0, .ref qm), (1, .int 8)]) hx hb dX6_status_124 hl (k := 1) rfl (nI_1 _) (by decide +kernel) rfl (fun ls => ?_)
            clear hl
            intro hl
            refine lv_goto (tgt := 101) hx hb dX6_status_127 (by decide +kernel) ?_
            exact ih_8 (j_9 + 1) (x2_10 + 1) (by omega) (by omega) _ (lv_sub hl [0, 1, 2, 3] rfl)
    exact lp_6 ((8 - 0) + 1) 0 0 (Nat.lt_succ_self _) (Nat.zero_le _) ls (lv_sub hl [0, 1, 2, 3] rfl)
  · refine lv_tableOut (tgt := 132) hx hb dX6_status_1 h_1 (by decide +kernel) ?_
    refine lv_iload_n hx hb (g_27 bX6_status rfl) rfl (lv_at hl 1 rfl) ?_
    refine lv_i2l (v := iA.toInt64) hx hb (g_133 bX6_status rfl) rfl ?_
    refine lv_ldc2 hx hb hown (hts _ m_t1390) (g_20 (v := 365) bX6_status rfl) ?_
    refine lv_ldc2 hx hb hown (hts _ m_t1391) (g_20 (v := 367) bX6_status rfl) ?_
    refine kRi (rS (As := [.long iA.toInt64, .long 12, .long 16]) (rest := []) ⟨hx, hb, hml, hown, hts⟩ (c_X6_in l G cy iA.toInt64 12 16) L_X6_74 (preRS hN hP [] rfl) rfl ⟨Nat.le_of_ble_eq_true rfl, Nat.le_of_ble_eq_true rfl⟩ hl.1 (Nat.le_of_ble_eq_true rfl) (g_184 (v := 74) bX6_status rfl) ⟨Nat.le_of_ble_eq_true rfl, Nat.le_of_ble_eq_true rfl⟩) (fun r_17 h_18 => ?_)
    rcases h_18 with ⟨rfl, h_19⟩ | ⟨rfl, h_19⟩
    · refine lv_if_eq (tgt := 158) hx hb dX6_status_143 (by decide +kernel) (fun h9 => absurd h9 (by decide +kernel)) (fun _ => ?_)
      refine lv_aload_n hx hb (g_42 bX6_status rfl) rfl (lv_at hl 0 rfl) ?_
      refine va_get (D := G) (ci := 5) (v := .ref qmr) (C := RX6) (T := TX6) (N := 35) hx hb hts iX_X6 hown hK hP 0 rfl rfl 9 (by decide +kernel) (hts _ m_t859) (fun _ h9 => h9) rfl (g_180 (v := 37) bX6_status rfl) ?_
      refine lv_iload_n hx hb (g_27 bX6_status rfl) rfl (lv_at hl 1 rfl) ?_
      refine lv_bipush (v := 10) hx hb dX6_status_151 (by decide +kernel) ?_
      refine lv_isub hx hb (g_100 bX6_status rfl) ?_
      refine va_iald hx hb hK hP 2 0 rfl rfl (st_in8m h_19) (g_46 bX6_status rfl) ?_
      refine lv_goto (tgt := 159) hx hb dX6_status_155 (by decide +kernel) ?_
      exact endR hx hb hr hlocks rfl trivial (g_172 bX6_status rfl)
    · refine lv_if_eq (tgt := 158) hx hb dX6_status_143 (by decide +kernel) (fun _ => ?_) (fun h9 => absurd (by decide +kernel) h9)
      refine lv_iconst (v := (-1)) hx hb (g_2 bX6_status rfl) (by decide +kernel) ?_
      exact endR hx hb hr hlocks rfl trivial (g_172 bX6_status rfl)
end
section
/-! a callee that has one tail, the caller another -/
theorem tx_map {X w pl : va_W} {is : List Nat} (h : is.map (fun i => X[i]?) = w.map some) : (is ++ (List.range pl.length).map (fun i => X.length + i)).map (fun i => (X ++ pl)[i]?) = (w ++ pl).map some := by
  rw [List.map_append, List.map_append, tx_app h]
  congr 1
  rw [List.map_map]
  apply List.ext_getElem?
  intro k
  rw [List.getElem?_map, List.getElem?_map]
  by_cases hk : k < pl.length
  · rw [List.getElem?_range hk]
    show some ((X ++ pl)[X.length + k]?) = _
    rw [List.getElem?_append_right (by omega), show X.length + k - X.length = k by omega, List.getElem?_eq_getElem hk]
    rfl
  · rw [List.getElem?_eq_none (by simpa using hk), List.getElem?_eq_none (by simpa using hk)]
    rfl
theorem tx_nd1 (n : Nat) : ∀ m k : Nat, va_nd ((List.range m).map (fun i => n + (i + k))) = true := by
  intro m
  induction m with
  | zero => intro k; rfl
  | succ m ih =>
    intro k
    rw [List.range_succ_eq_map, List.map_cons, List.map_map]
    show (decide (_ ∉ _) && va_nd _) = true
    rw [Bool.and_eq_true]
    refine ⟨decide_eq_true ?_, ?_⟩
    · intro h
      obtain ⟨x, _, hx⟩ := List.mem_map.mp h
      simp at hx
    · have := ih (k + 1)
      rw [show ((fun i => n + (i + k)) ∘ Nat.succ) = (fun i => n + (i + (k + 1))) by funext x; simp; omega]
      exact this
theorem tx_nd2 {b : List Nat} (hb : va_nd b = true) : ∀ {a : List Nat}, va_nd a = true → (∀ i ∈ a, i ∉ b) → va_nd (a ++ b) = true := by
  intro a
  induction a with
  | nil => intro _ _; exact hb
  | cons x a ih =>
    intro h hd
    have h' : (decide (x ∉ a) && va_nd a) = true := h
    rw [Bool.and_eq_true, decide_eq_true_eq] at h'
    show (decide (x ∉ a ++ b) && va_nd (a ++ b)) = true
    rw [Bool.and_eq_true, decide_eq_true_eq]
    refine ⟨fun q => ?_, ih h'.2 (fun i hi => hd i (List.mem_cons_of_mem _ hi))⟩
    rcases List.mem_append.mp q with q | q
    · exact h'.1 q
    · exact hd x List.mem_cons_self q
theorem tx_nd {is : List Nat} {n m : Nat} (h : va_nd is = true) (hb : ∀ i ∈ is, i < n) : va_nd (is ++ (List.range m).map (fun i => n + i)) = true := by
  refine tx_nd2 (by have := tx_nd1 n m 0; simpa using this) h (fun i hi q => ?_)
  obtain ⟨x, _, hx⟩ := List.mem_map.mp q
  have := hb i hi
  omega
theorem va_joinPQ {D : va_G} {A : Nat → Prop} {Xw cx wr p1 p2 u : va_W} {H H1 : Heap} (hP : va_P D CL ((Xw ++ p1) ++ p2) H) (hD : va_D A ((Xw ++ p1) ++ p2)) (isC isR : List Nat) (hC : isC.map (fun i => Xw[i]?) = cx.map some) (hR : isR.map (fun i => Xw[i]?) = wr.map some) (hn : va_nd isR = true) (hdis : ∀ i ∈ isR, i ∉ isC)
    (hk : ∀ q : Nat, q < H.size → ¬ va_A (cx ++ p1) H.size q → H1[q]? = H[q]?) (hF : ∀ q, va_A (cx ++ p1) H.size q → A q) (hP1 : va_P D CL u H1) (hD1 : va_D (va_A (cx ++ p1) H.size) u) : va_P D CL ((wr ++ u) ++ p2) H1 ∧ va_D A ((wr ++ u) ++ p2) := by
  have h := va_joinP (rx := []) (pl1 := u) (X := Xw ++ p2) (pl := p1) hP.swap hD.swap isC (isR ++ (List.range p2.length).map (fun i => Xw.length + i)) (tx_app hC) (tx_map hR) (tx_nd hn (tx_lt hR)) (fun i hi hc => by
    rcases List.mem_append.mp hi with q | q
    · exact hdis i q hc
    · obtain ⟨x, _, hx⟩ := List.mem_map.mp q
      have := tx_lt hC i hc
      omega) hk hF hP1 hD1
  rw [List.append_nil] at h
  exact ⟨h.1.swap, h.2.swap⟩
section TAIL2
variable {p : Program} {l : Launch} {e : Env} {R : Room} {s : State} {m : MethodId} {args : Array Value} {below : List Frame} {meth : Method} {c : Code} {H : Heap} {locs : List Loc} {cells slots : Nat} {Q : State → Prop}
variable {pc mc ms : Nat} {ls : Array Slot} {st0 rest As : List Value} {G : va_G} {cy : Nat → ClassId} {b : Nat} {a : Array Value}
variable {Xw cx wr p1 p2 : va_W} {A : Nat → Prop} {H0 : Heap}
theorem va_D.left {w1 w2 : va_W} (h : va_D A (w1 ++ w2)) : va_D A w1 := h.by id (fun k q hq => by
  show (w1 ++ w2)[k]? = some q
  rw [List.getElem?_append_left (List.getElem?_eq_some_iff.mp hq).1]
  exact hq) (fun _ _ _ _ h => h)
theorem va_P.left {w1 w2 : va_W} (h : va_P G CL (w1 ++ w2) H) : va_P G CL w1 H := h.by id (fun k q hq => by
  show (w1 ++ w2)[k]? = some q
  rw [List.getElem?_append_left (List.getElem?_eq_some_iff.mp hq).1]
  exact hq)
theorem kWiPQ {post : Int32 → va_W → Prop} (hr : va_Run p l e R s m args below meth c H locs cells slots mc ms (F0 m pc ls st0) rest (Wi G post (va_A (cx ++ p1) H.size) a) (va_A (cx ++ p1) H.size)) (hP : va_P G CL ((Xw ++ p1) ++ p2) H) (hD : va_D A ((Xw ++ p1) ++ p2)) (hS : va_S A H0 H locs) (hA : ∀ q, H0.size ≤ q → A q)
    (isC isR : List Nat) (hC : isC.map (fun i => Xw[i]?) = cx.map some) (hR : isR.map (fun i => Xw[i]?) = wr.map some) (hn : va_nd isR = true) (hdis : ∀ i ∈ isR, i ∉ isC)
    (kk : ∀ (r : Int32) (u : va_W) (H1 : Heap) (locs1 : List Loc), post r u → va_P G CL ((wr ++ u) ++ p2) H1 → va_D A ((wr ++ u) ++ p2) → va_S A H0 H1 locs1 → W p l e R s m args below meth c H1 locs1 (cells + mc) (slots + ms) Q (F0 m (pc + 3) ls (.int r :: rest))) : W p l e R s m args below meth c H locs cells slots Q (F0 m pc ls st0) := by
  have hF := va_freeP hD.left hS hA isC hC
  refine va_calli hr hS (fun q _ h => hF q h) hF (fun r u t H1 locs1 ht hvm hw hB hz1 hk1 hS1 => ?_)
  obtain ⟨hP1, hD1⟩ := hB
  rw [ht] at hP1
  obtain ⟨hP2, hD2⟩ := va_joinPQ hP hD isC isR hC hR hn hdis hk1 hF hP1 hD1
  exact kk r u H1 locs1 hw hP2 hD2 hS1
theorem preWVPQ {q : vw_C} {fs : List Value} (hN : KN G cy s) (hP : va_P G CL ((Xw ++ p1) ++ p2) H) (hD : va_D A ((Xw ++ p1) ++ p2)) (isC : List Nat) (hC : isC.map (fun i => Xw[i]?) = cx.map some) (hn : va_nd isC = true) (qr ci : Nat) (he : (Xw ++ p1)[qr]? = some (b, .inr (ci, fs))) (hc : CL[ci]? = some q) : PreV s H q.1 b (Wr G cy (cx ++ p1) H.size (.ref b :: As)) As := preWVP hN hP.left hD.left isC hC hn qr ci he hc
theorem preWVXPQ {locs : List Loc} {X : (Nat → Prop) → State → Heap → Prop} {q : vw_C} {fs : List Value} (hN : KN G cy s) (hP : va_P G CL ((Xw ++ p1) ++ p2) H) (hD : va_D A ((Xw ++ p1) ++ p2)) (isC : List Nat) (hC : isC.map (fun i => Xw[i]?) = cx.map some) (hn : va_nd isC = true) (qr ci : Nat) (he : (Xw ++ p1)[qr]? = some (b, .inr (ci, fs))) (hc : CL[ci]? = some q) (ok : XOK X) (hX : X A s s.heap) (hS : va_S A s.heap H locs) (hA : ∀ q, s.heap.size ≤ q → A q) : PreV s H q.1 b (WrX G cy X (cx ++ p1) H.size (.ref b :: As)) As := preWVXP hN hP.left hD.left isC hC hn qr ci he hc ok hX hS hA
end TAIL2
/-- the model that is a year ahead, with one beside it -/
noncomputable abbrev UL : Type := Option (DM × UM)
noncomputable def ovL (u : UL) : Value := match u with
  | none => .null
  | some (d, _) => .ref d.1
noncomputable def mL (cy : Nat → ClassId) (q qB qO qK : Nat) (rB rO rK : Nat → Nat) (t : TA) (x : Nat → Value) (iE iT iL iW : Int32) (uW : UM) : va_W := [zzO q 5 (x 0 :: x 1 :: x 2 :: x 3 :: x 4 :: x 5 :: x 6 :: x 7 :: x 8 :: x 9 :: .int (nI (T_nb t)) :: .ref qB :: .int (nI (T_np t)) :: .ref qO :: .ref qK :: .int iE :: .int iT :: .int (T_sd t) :: x 18 :: ov uW :: x 20 :: x 21 :: x 22 :: x 23 :: x 24 :: x 25 :: x 26 :: .int iL :: .int iW :: x 29 :: x 30 :: x 31 :: x 32 :: x 33 :: x 34 :: []), zzG cy 3 qB rB, zzI cy (rB 0) 4 (bkR t 0), zzI cy (rB 1) 4 (bkR t 1), zzI cy (rB 2) 4 (bkR t 2), zzI cy (rB 3) 4 (bkR t 3), zzI cy (rB 4) 4 (bkR t 4), zzI cy (rB 5) 4 (bkR t 5), zzI cy (rB 6) 4 (bkR t 6), zzI cy (rB 7) 4 (bkR t 7), zzG cy 3 qO rO, zzI cy (rO 0) 5 (onR t 0), zzI cy (rO 1) 5 (onR t 1), zzI cy (rO 2) 5 (onR t 2), zzI cy (rO 3) 5 (onR t 3), zzI cy (rO 4) 5 (onR t 4), zzI cy (rO 5) 5 (onR t 5), zzI cy (rO 6) 5 (onR t 6), zzI cy (rO 7) 5 (onR t 7), zzG cy 3 qK rK, zzI cy (rK 0) 8 (T_kn t 0), zzI cy (rK 1) 8 (T_kn t 1), zzI cy (rK 2) 8 (T_kn t 2), zzI cy (rK 3) 8 (T_kn t 3), zzI cy (rK 4) 8 (T_kn t 4), zzI cy (rK 5) 8 (T_kn t 5), zzI cy (rK 6) 8 (T_kn t 6), zzI cy (rK 7) 8 (T_kn t 7)]
noncomputable def oL (cy : Nat → ClassId) (u : UL) : va_W := match u with
  | none => []
  | some ((q, qB, qO, qK, rB, rO, rK, t, x, iE, iT, iL, iW), uW) => mL cy q qB qO qK rB rO rK t x iE iT iL iW uW ++ oM cy uW
theorem ul_or (u : UL) : u = none ∨ ∃ (q qB qO qK : Nat) (rB rO rK : Nat → Nat) (t : TA) (x : Nat → Value) (e1 e2 e3 e4 : Int32) (uW : UM), u = some ((q, qB, qO, qK, rB, rO, rK, t, x, e1, e2, e3, e4), uW) := by
  rcases u with _ | ⟨⟨q, qB, qO, qK, rB, rO, rK, t, x, e1, e2, e3, e4⟩, uW⟩
  · exact Or.inl rfl
  · exact Or.inr ⟨q, qB, qO, qK, rB, rO, rK, t, x, e1, e2, e3, e4, uW, rfl⟩
theorem pt_as {G : va_G} {H : Heap} {A : Nat → Prop} {X pl : va_W} (cx : va_W) (is : List Nat) (h : va_P G CL (X ++ pl) H) (d : va_D A (X ++ pl)) (hn : va_nd is = true) (hs : is.map (fun i => X[i]?) = cx.map some) : va_P G CL (cx ++ pl) H ∧ va_D A (cx ++ pl) := ⟨h.part is hs, d.part is hn hs⟩
theorem kl0P {G : va_G} {H : Heap} {cy : Nat → ClassId} {K U : va_W} (h : va_P G CL (K ++ (U ++ oL cy none)) H) : va_P G CL (K ++ U) H := by
  have e : U ++ oL cy none = U := List.append_nil U
  rw [e] at h
  exact h
theorem kl1P {G : va_G} {H : Heap} {cy : Nat → ClassId} {K U : va_W} {q qB qO qK : Nat} {rB rO rK : Nat → Nat} {t : TA} {x : Nat → Value} {e1 e2 e3 e4 : Int32} {uW : UM} (h : va_P G CL (K ++ (U ++ oL cy (some ((q, qB, qO, qK, rB, rO, rK, t, x, e1, e2, e3, e4), uW)))) H) : va_P G CL ((K ++ mL cy q qB qO qK rB rO rK t x e1 e2 e3 e4 uW) ++ (oM cy uW ++ U)) H := by
  have h1 : va_P G CL ((K ++ U) ++ (mL cy q qB qO qK rB rO rK t x e1 e2 e3 e4 uW ++ oM cy uW)) H := al_P h
  exact as1P (va_P.swap h1)
theorem kl2P {G : va_G} {H : Heap} {cy : Nat → ClassId} {K U : va_W} {q qB qO qK : Nat} {rB rO rK : Nat → Nat} {t : TA} {x : Nat → Value} {e1 e2 e3 e4 : Int32} {uW : UM} (h : va_P G CL ((K ++ mL cy q qB qO qK rB rO rK t x e1 e2 e3 e4 uW) ++ (oM cy uW ++ U)) H) : va_P G CL (K ++ (U ++ oL cy (some ((q, qB, qO, qK, rB, rO, rK, t, x, e1, e2, e3, e4), uW)))) H := by
  have h1 : va_P G CL ((K ++ (mL cy q qB qO qK rB rO rK t x e1 e2 e3 e4 uW ++ oM cy uW)) ++ U) H := by simpa only [List.append_assoc] using h
  have h2 : va_P G CL ((K ++ U) ++ (mL cy q qB qO qK rB rO rK t x e1 e2 e3 e4 uW ++ oM cy uW)) H := va_P.swap h1
  exact ar_P h2
theorem kl0D {A : Nat → Prop} {cy : Nat → ClassId} {K U : va_W} (h : va_D A (K ++ (U ++ oL cy none))) : va_D A (K ++ U) := by
  have e : U ++ oL cy none = U := List.append_nil U
  rw [e] at h
  exact h
theorem kl1D {A : Nat → Prop} {cy : Nat → ClassId} {K U : va_W} {q qB qO qK : Nat} {rB rO rK : Nat → Nat} {t : TA} {x : Nat → Value} {e1 e2 e3 e4 : Int32} {uW : UM} (h : va_D A (K ++ (U ++ oL cy (some ((q, qB, qO, qK, rB, rO, rK, t, x, e1, e2, e3, e4), uW))))) : va_D A ((K ++ mL cy q qB qO qK rB rO rK t x e1 e2 e3 e4 uW) ++ (oM cy uW ++ U)) := by
  have h1 : va_D A ((K ++ U) ++ (mL cy q qB qO qK rB rO rK t x e1 e2 e3 e4 uW ++ oM cy uW)) := al_D h
  exact as1D (va_D.swap h1)
theorem kl2D {A : Nat → Prop} {cy : Nat → ClassId} {K U : va_W} {q qB qO qK : Nat} {rB rO rK : Nat → Nat} {t : TA} {x : Nat → Value} {e1 e2 e3 e4 : Int32} {uW : UM} (h : va_D A ((K ++ mL cy q qB qO qK rB rO rK t x e1 e2 e3 e4 uW) ++ (oM cy uW ++ U))) : va_D A (K ++ (U ++ oL cy (some ((q, qB, qO, qK, rB, rO, rK, t, x, e1, e2, e3, e4), uW)))) := by
  have h1 : va_D A ((K ++ (mL cy q qB qO qK rB rO rK t x e1 e2 e3 e4 uW ++ oM cy uW)) ++ U) := by simpa only [List.append_assoc] using h
  have h2 : va_D A ((K ++ U) ++ (mL cy q qB qO qK rB rO rK t x e1 e2 e3 e4 uW ++ oM cy uW)) := va_D.swap h1
  exact ar_D h2
section SPEEDU
variable {p : Program} {l : Launch} {e : Env} {R : Room} {s : State} {m : MethodId} {args : Array Value} {below : List Frame} {meth : Method} {c : Code} {H : Heap} {locs : List Loc} {cells slots : Nat} {Q : State → Prop}
variable {y : MethodName} {bytes cc : ByteArray} {maxL nL mc ms index d pc : Nat} {ret : Option FieldType} {own : String} {b : Addr} {As rest st0 : List Value} {ls : Array Slot} {G : va_G} {cy : Nat → ClassId}
variable {ws wc Xw cx pl p1 p2 : va_W} {A : Nat → Prop} {q : vw_C} {fs : List Value} {X : (Nat → Prop) → State → Heap → Prop}
theorem cViPQ {post : Int32 → va_W → Prop} (S : CallFix p m c cc nL s args BIG own) (hM : Met l y (.code y bytes maxL ret :: BIG) (Rm d mc ms) (Wr G cy (cx ++ p1) H.size (.ref b :: As)) (Wi G post (va_A (cx ++ p1) H.size)) mc ms (va_A (cx ++ p1) H.size)) (L : LkV own index q.1 y bytes maxL ret As.length) (hN : KN G cy s) (hP : va_P G CL ((Xw ++ p1) ++ p2) H) (hD : va_D A ((Xw ++ p1) ++ p2)) (hS : va_S A s.heap H locs) (hA : ∀ q, s.heap.size ≤ q → A q) (isC : List Nat) (mk : List Bool) (hC : isC.map (fun i => Xw[i]?) = cx.map some) (hk : okC isC mk = true) (hm : Nat.ble mk.length Xw.length = true) (qr ci : Nat) (he : (Xw ++ p1)[qr]? = some (b, .inr (ci, fs))) (hc : CL[ci]? = some q) (hst : st0 = As.reverse ++ .ref b :: rest) (hR : d + 1 ≤ R.frames ∧ 8 + (maxL + 11) + 60 * d ≤ R.locals) (hsize : ls.size = nL) (hW : (rest.map fun v => v.category).sum ≤ 8) (hdg : decode cc pc = .ok (.invokevirtual index, 3)) (hf : cells + mc ≤ R.cells ∧ slots + ms ≤ R.slots)
    (kk : ∀ (r : Int32) (u : va_W) (H1 : Heap) (locs1 : List Loc), post r u → va_P G CL ((selW mk Xw ++ u) ++ p2) H1 → va_D A ((selW mk Xw ++ u) ++ p2) → va_S A s.heap H1 locs1 → W p l e R s m args below meth c H1 locs1 (cells + mc) (slots + ms) Q (F0 m (pc + 3) ls (.int r :: rest))) : W p l e R s m args below meth c H locs cells slots Q (F0 m pc ls st0) := kWiPQ (rV S hM L (preWVPQ hN hP hD isC hC (okC_nd hk) qr ci he hc) hst hR hsize hW hdg hf) hP hD hS hA isC (trueIx 0 mk) hC (sel_ok hm) (sel_nd mk 0) (okC_dis hk) kk
theorem cVXiPQ {post : Int32 → va_W → Prop} (S : CallFix p m c cc nL s args BIG own) (hM : Met l y (.code y bytes maxL ret :: BIG) (Rm d mc ms) (WrX G cy X (cx ++ p1) H.size (.ref b :: As)) (Wi G post (va_A (cx ++ p1) H.size)) mc ms (va_A (cx ++ p1) H.size)) (L : LkV own index q.1 y bytes maxL ret As.length) (hN : KN G cy s) (hP : va_P G CL ((Xw ++ p1) ++ p2) H) (hD : va_D A ((Xw ++ p1) ++ p2)) (hS : va_S A s.heap H locs) (hA : ∀ q, s.heap.size ≤ q → A q) (isC : List Nat) (mk : List Bool) (hC : isC.map (fun i => Xw[i]?) = cx.map some) (hk : okC isC mk = true) (hm : Nat.ble mk.length Xw.length = true) (qr ci : Nat) (he : (Xw ++ p1)[qr]? = some (b, .inr (ci, fs))) (hc : CL[ci]? = some q) (ok : XOK X) (hX : X A s s.heap) (hst : st0 = As.reverse ++ .ref b :: rest) (hR : d + 1 ≤ R.frames ∧ 8 + (maxL + 11) + 60 * d ≤ R.locals) (hsize : ls.size = nL) (hW : (rest.map fun v => v.category).sum ≤ 8) (hdg : decode cc pc = .ok (.invokevirtual index, 3)) (hf : cells + mc ≤ R.cells ∧ slots + ms ≤ R.slots)
    (kk : ∀ (r : Int32) (u : va_W) (H1 : Heap) (locs1 : List Loc), post r u → va_P G CL ((selW mk Xw ++ u) ++ p2) H1 → va_D A ((selW mk Xw ++ u) ++ p2) → va_S A s.heap H1 locs1 → W p l e R s m args below meth c H1 locs1 (cells + mc) (slots + ms) Q (F0 m (pc + 3) ls (.int r :: rest))) : W p l e R s m args below meth c H locs cells slots Q (F0 m pc ls st0) := kWiPQ (rV S hM L (preWVXPQ hN hP hD isC hC (okC_nd hk) qr ci he hc ok hX hS hA) hst hR hsize hW hdg hf) hP hD hS hA isC (trueIx 0 mk) hC (sel_ok hm) (sel_nd mk 0) (okC_dis hk) kk
end SPEEDU

set_option maxHeartbeats 4000000 in
set_option maxRecDepth 100000 in
theorem c_X6_initL (l : Launch) (G : va_G) (cy : Nat → ClassId) (sz : Nat) (qm : Nat)   : MW l yX6_init cX6_init 1 none 1 49 853 G cy [zzO qm 5 (.null :: .null :: .null :: .null :: .null :: .null :: .null :: .null :: .int 0 :: .null :: .int 0 :: .null :: .int 0 :: .null :: .null :: .int 0 :: .int 0 :: .int 0 :: .null :: .null :: .int 0 :: .int 0 :: .int 0 :: .long 0 :: .int 0 :: .null :: .int 0 :: .int 0 :: .int 0 :: .null :: .null :: .null :: .null :: .null :: .int 0 :: [])] sz [.ref qm] (Wv G (fun u => ∃ (qmB : Nat) (qmO : Nat) (qmK : Nat) (rB : Nat → Nat) (rO : Nat → Nat) (rK : Nat → Nat) (xF : Nat → Value), u = [zzO qm 5 (xF 0 :: xF 1 :: xF 2 :: xF 3 :: xF 4 :: xF 5 :: xF 6 :: xF 7 :: xF 8 :: xF 9 :: .int (nI (T_nb T0)) :: .ref qmB :: .int (nI (T_np T0)) :: .ref qmO :: .ref qmK :: .int 0 :: .int 0 :: .int (T_sd T0) :: xF 18 :: .null :: xF 20 :: xF 21 :: xF 22 :: xF 23 :: xF 24 :: xF 25 :: xF 26 :: .int 0 :: .int 0 :: xF 29 :: xF 30 :: xF 31 :: xF 32 :: xF 33 :: xF 34 :: []), zzG cy 3 qmB rB, zzI cy (rB 0) 4 (bkR T0 0), zzI cy (rB 1) 4 (bkR T0 1), zzI cy (rB 2) 4 (bkR T0 2), zzI cy (rB 3) 4 (bkR T0 3), zzI cy (rB 4) 4 (bkR T0 4), zzI cy (rB 5) 4 (bkR T0 5), zzI cy (rB 6) 4 (bkR T0 6), zzI cy (rB 7) 4 (bkR T0 7), zzG cy 3 qmO rO, zzI cy (rO 0) 5 (onR T0 0), zzI cy (rO 1) 5 (onR T0 1), zzI cy (rO 2) 5 (onR T0 2), zzI cy (rO 3) 5 (onR T0 3), zzI cy (rO 4) 5 (onR T0 4), zzI cy (rO 5) 5 (onR T0 5), zzI cy (rO 6) 5 (onR T0 6), zzI cy (rO 7) 5 (onR T0 7), zzG cy 3 qmK rK, zzI cy (rK 0) 8 (T_kn T0 0), zzI cy (rK 1) 8 (T_kn T0 1), zzI cy (rK 2) 8 (T_kn T0 2), zzI cy (rK 3) 8 (T_kn T0 3), zzI cy (rK 4) 8 (T_kn T0 4), zzI cy (rK 5) 8 (T_kn T0 5), zzI cy (rK 6) 8 (T_kn T0 6), zzI cy (rK 7) 8 (T_kn T0 7)])) := by
  refine enW RX6 (by decide +kernel) rfl (Nat.le_of_ble_eq_true rfl) (fun p e s m below meth c ls A hx hb hml hown hts hr hlocks hP hN hl hin hD hA hS => ?_)
  have hin : meth.name = _ := hin
  have hK := hN.1
  replace hl : lv_has ls 1 [(0, .ref qm)] := hl
  refine lv_aload_n hx hb (g_42 bX6_init rfl) rfl (lv_at hl 0 rfl) ?_
  refine W.objInit hx hb hown (hts _ m_t843) (hts _ m_t21) (hts _ m_t22) rfl (by rw [hml]; exact hl.1) rfl dX6_init_1 (Nat.le_of_ble_eq_true rfl) (Nat.le_of_ble_eq_true rfl) ?_
  refine W.eq (g2 := F0 m 4 ls []) rfl ?_
  refine lv_aload_n hx hb (g_42 bX6_init rfl) rfl (lv_at hl 0 rfl) ?_
  refine lv_bipush (v := 8) hx hb dX6_init_5 (by decide +kernel) ?_
  refine newI hx hb hts m_t92 hN hP hD hS hA 8 (by decide +kernel) (by decide +kernel) (Nat.le_of_ble_eq_true rfl) (Nat.le_of_ble_eq_true rfl) (Nat.le_of_ble_eq_true rfl) (g_na10 bX6_init rfl) (fun q_1 H => ?_)
  clear hP hD hS
  intro hP hD hS
  have hPD := pd_as [_, zzI cy q_1 8 (fun _ => 0)] hP hD rfl
  clear hP hD
  obtain ⟨hP, hD⟩ := hPD
  refine W.widen (k := 1) (n := 8) (Nat.le_of_ble_eq_true rfl) (Nat.le_of_ble_eq_true rfl) ?_
  refine va_putF (D := G) (ci := 5) (v := .ref q_1) (ty := (.array .int)) (C := RX6) (T := TX6) (N := 35) hx hb hts iX_X6 tyX6 tyX6_ok nmX6 hown hK hP hD hS 0 rfl rfl 0 (by decide +kernel) (hts _ m_t850) (fun _ h9 => h9) rfl hin rfl (by decide +kernel) rfl rfl (Nat.le_of_ble_eq_true rfl) (g_181 (v := 7) bX6_init rfl) (fun H locs => ?_)
  clear hP hD hS
  intro hP hD hS
  have hPD := pd_as [zzO qm 5 (.ref q_1 :: .null :: .null :: .null :: .null :: .null :: .null :: .null :: .int 0 :: .null :: .int 0 :: .null :: .int 0 :: .null :: .null :: .int 0 :: .int 0 :: .int 0 :: .null :: .null :: .int 0 :: .int 0 :: .int 0 :: .long 0 :: .int 0 :: .null :: .int 0 :: .int 0 :: .int 0 :: .null :: .null :: .null :: .null :: .null :: .int 0 :: []), _] hP hD rfl
  clear hP hD
  obtain ⟨hP, hD⟩ := hPD
  refine lv_aload_n hx hb (g_42 bX6_init rfl) rfl (lv_at hl 0 rfl) ?_
  refine lv_bipush (v := 8) hx hb dX6_init_13 (by decide +kernel) ?_
  refine newI hx hb hts m_t92 hN hP hD hS hA 8 (by decide +kernel) (by decide +kernel) (Nat.le_of_ble_eq_true rfl) (Nat.le_of_ble_eq_true rfl) (Nat.le_of_ble_eq_true rfl) (g_na10 bX6_init rfl) (fun q_2 H => ?_)
  clear hP hD hS
  intro hP hD hS
  have hPD := pd_as [_, _, zzI cy q_2 8 (fun _ => 0)] hP hD rfl
  clear hP hD
  obtain ⟨hP, hD⟩ := hPD
  refine W.widen (k := 2) (n := 16) (Nat.le_of_ble_eq_true rfl) (Nat.le_of_ble_eq_true rfl) ?_
  refine va_putF (D := G) (ci := 5) (v := .ref q_2) (ty := (.array .int)) (C := RX6) (T := TX6) (N := 35) hx hb hts iX_X6 tyX6 tyX6_ok nmX6 hown hK hP hD hS 0 rfl rfl 1 (by decide +kernel) (hts _ m_t851) (fun _ h9 => h9) rfl hin rfl (by decide +kernel) rfl rfl (Nat.le_of_ble_eq_true rfl) (g_181 (v := 13) bX6_init rfl) (fun H locs => ?_)
  clear hP hD hS
  intro hP hD hS
  have hPD := pd_as [zzO qm 5 (.ref q_1 :: .ref q_2 :: .null :: .null :: .null :: .null :: .null :: .null :: .int 0 :: .null :: .int 0 :: .null :: .int 0 :: .null :: .null :: .int 0 :: .int 0 :: .int 0 :: .null :: .null :: .int 0 :: .int 0 :: .int 0 :: .long 0 :: .int 0 :: .null :: .int 0 :: .int 0 :: .int 0 :: .null :: .null :: .null :: .null :: .null :: .int 0 :: []), _, _] hP hD rfl
  clear hP hD
  obtain ⟨hP, hD⟩ := hPD
  refine lv_aload_n hx hb (g_42 bX6_init rfl) rfl (lv_at hl 0 rfl) ?_
  refine lv_bipush (v := 8) hx hb dX6_init_21 (by decide +kernel) ?_
  refine newI hx hb hts m_t92 hN hP hD hS hA 8 (by decide +kernel) (by decide +kernel) (Nat.le_of_ble_eq_true rfl) (Nat.le_of_ble_eq_true rfl) (Nat.le_of_ble_eq_true rfl) (g_na10 bX6_init rfl) (fun q_3 H => ?_)
  clear hP hD hS
  intro hP hD hS
  have hPD := pd_as [_, _, _, zzI cy q_3 8 (fun _ => 0)] hP hD rfl
  clear hP hD
  obtain ⟨hP, hD⟩ := hPD
  refine W.widen (k := 3) (n := 24) (Nat.le_of_ble_eq_true rfl) (Nat.le_of_ble_eq_true rfl) ?_
  refine va_putF (D := G) (ci := 5) (v := .ref q_3) (ty := (.array .int)) (C := RX6) (T := TX6) (N := 35) hx hb hts iX_X6 tyX6 tyX6_ok nmX6 hown hK hP hD hS 0 rfl rfl 2 (by decide +kernel) (hts _ m_t852) (fun _ h9 => h9) rfl hin rfl (by decide +kernel) rfl rfl (Nat.le_of_ble_eq_true rfl) (g_181 (v := 16) bX6_init rfl) (fun H locs => ?_)
  clear hP hD hS
  intro hP hD hS
  have hPD := pd_as [zzO qm 5 (.ref q_1 :: .ref q_2 :: .ref q_3 :: .null :: .null :: .null :: .null :: .null :: .int 0 :: .null :: .int 0 :: .null :: .int 0 :: .null :: .null :: .int 0 :: .int 0 :: .int 0 :: .null :: .null :: .int 0 :: .int 0 :: .int 0 :: .long 0 :: .int 0 :: .null :: .int 0 :: .int 0 :: .int 0 :: .null :: .null :: .null :: .null :: .null :: .int 0 :: []), _, _, _] hP hD rfl
  clear hP hD
  obtain ⟨hP, hD⟩ := hPD
  refine lv_aload_n hx hb (g_42 bX6_init rfl) rfl (lv_at hl 0 rfl) ?_
  refine lv_bipush (v := 8) hx hb dX6_init_29 (by decide +kernel) ?_
  refine lv_bipush (v := 40) hx hb dX6_init_31 (by decide +kernel) ?_
  refine newJJ hx hb hts hown m_t844 m_t139 hN hP hD hS hA 40 (by decide +kernel) (by decide +kernel) (by decide +kernel) (Nat.le_of_ble_eq_true rfl) (Nat.le_of_ble_eq_true rfl) (Nat.le_of_ble_eq_true rfl) (Nat.le_of_ble_eq_true rfl) dX6_init_33 (fun q_4 r_5 H => ?_)
  clear hP hD hS
  intro hP hD hS
  have hPD := pd_as [_, _, _, _, zzG cy 4 q_4 r_5, zzJ cy (r_5 0) 40 (fun _ => 0), zzJ cy (r_5 1) 40 (fun _ => 0), zzJ cy (r_5 2) 40 (fun _ => 0), zzJ cy (r_5 3) 40 (fun _ => 0), zzJ cy (r_5 4) 40 (fun _ => 0), zzJ cy (r_5 5) 40 (fun _ => 0), zzJ cy (r_5 6) 40 (fun _ => 0), zzJ cy (r_5 7) 40 (fun _ => 0)] hP hD rfl
  clear hP hD
  obtain ⟨hP, hD⟩ := hPD
  refine W.widen (k := 12) (n := 352) (Nat.le_of_ble_eq_true rfl) (Nat.le_of_ble_eq_true rfl) ?_
  refine va_putF (D := G) (ci := 5) (v := .ref q_4) (ty := (.array (.array .long))) (C := RX6) (T := TX6) (N := 35) hx hb hts iX_X6 tyX6 tyX6_ok nmX6 hown hK hP hD hS 0 rfl rfl 3 (by decide +kernel) (hts _ m_t853) (fun _ h9 => h9) rfl hin rfl (by decide +kernel) rfl rfl (Nat.le_of_ble_eq_true rfl) (g_181 (v := 21) bX6_init rfl) (fun H locs => ?_)
  clear hP hD hS
  intro hP hD hS
  have hPD := pd_as [zzO qm 5 (.ref q_1 :: .ref q_2 :: .ref q_3 :: .ref q_4 :: .null :: .null :: .null :: .null :: .int 0 :: .null :: .int 0 :: .null :: .int 0 :: .null :: .null :: .int 0 :: .int 0 :: .int 0 :: .null :: .null :: .int 0 :: .int 0 :: .int 0 :: .long 0 :: .int 0 :: .null :: .int 0 :: .int 0 :: .int 0 :: .null :: .null :: .null :: .null :: .null :: .int 0 :: []), _, _, _, _, _, _, _, _, _, _, _, _] hP hD rfl
  clear hP hD
  obtain ⟨hP, hD⟩ := hPD
  refine lv_aload_n hx hb (g_42 bX6_init rfl) rfl (lv_at hl 0 rfl) ?_
  refine lv_bipush (v := 40) hx hb dX6_init_41 (by decide +kernel) ?_
  refine newJ hx hb hts m_t139 hN hP hD hS hA 40 (by decide +kernel) (by decide +kernel) (Nat.le_of_ble_eq_true rfl) (Nat.le_of_ble_eq_true rfl) (Nat.le_of_ble_eq_true rfl) (g_na11 bX6_init rfl) (fun q_6 H => ?_)
  clear hP hD hS
  intro hP hD hS
  have hPD := pd_as [_, _, _, _, _, _, _, _, _, _, _, _, _, zzJ cy q_6 40 (fun _ => 0)] hP hD rfl
  clear hP hD
  obtain ⟨hP, hD⟩ := hPD
  refine W.widen (k := 13) (n := 392) (Nat.le_of_ble_eq_true rfl) (Nat.le_of_ble_eq_true rfl) ?_
  refine va_putF (D := G) (ci := 5) (v := .ref q_6) (ty := (.array .long)) (C := RX6) (T := TX6) (N := 35) hx hb hts iX_X6 tyX6 tyX6_ok nmX6 hown hK hP hD hS 0 rfl rfl 4 (by decide +kernel) (hts _ m_t854) (fun _ h9 => h9) rfl hin rfl (by decide +kernel) rfl rfl (Nat.le_of_ble_eq_true rfl) (g_181 (v := 24) bX6_init rfl) (fun H locs => ?_)
  clear hP hD hS
  intro hP hD hS
  have hPD := pd_as [zzO qm 5 (.ref q_1 :: .ref q_2 :: .ref q_3 :: .ref q_4 :: .ref q_6 :: .null :: .null :: .null :: .int 0 :: .null :: .int 0 :: .null :: .int 0 :: .null :: .null :: .int 0 :: .int 0 :: .int 0 :: .null :: .null :: .int 0 :: .int 0 :: .int 0 :: .long 0 :: .int 0 :: .null :: .int 0 :: .int 0 :: .int 0 :: .null :: .null :: .null :: .null :: .null :: .int 0 :: []), _, _, _, _, _, _, _, _, _, _, _, _, _] hP hD rfl
  clear hP hD
  obtain ⟨hP, hD⟩ := hPD
  refine lv_aload_n hx hb (g_42 bX6_init rfl) rfl (lv_at hl 0 rfl) ?_
  refine lv_bipush (v := 8) hx hb dX6_init_49 (by decide +kernel) ?_
  refine newI hx hb hts m_t92 hN hP hD hS hA 8 (by decide +kernel) (by decide +kernel) (Nat.le_of_ble_eq_true rfl) (Nat.le_of_ble_eq_true rfl) (Nat.le_of_ble_eq_true rfl) (g_na10 bX6_init rfl) (fun q_7 H => ?_)
  clear hP hD hS
  intro hP hD hS
  have hPD := pd_as [_, _, _, _, _, _, _, _, _, _, _, _, _, _, zzI cy q_7 8 (fun _ => 0)] hP hD rfl
  clear hP hD
  obtain ⟨hP, hD⟩ := hPD
  refine W.widen (k := 14) (n := 400) (Nat.le_of_ble_eq_true rfl) (Nat.le_of_ble_eq_true rfl) ?_
  refine va_putF (D := G) (ci := 5) (v := .ref q_7) (ty := (.array .int)) (C := RX6) (T := TX6) (N := 35) hx hb hts iX_X6 tyX6 tyX6_ok nmX6 hown hK hP hD hS 0 rfl rfl 5 (by decide +kernel) (hts _ m_t855) (fun _ h9 => h9) rfl hin rfl (by decide +kernel) rfl rfl (Nat.le_of_ble_eq_true rfl) (g_181 (v := 28) bX6_init rfl) (fun H locs => ?_)
  clear hP hD hS
  intro hP hD hS
  have hPD := pd_as [zzO qm 5 (.ref q_1 :: .ref q_2 :: .ref q_3 :: .ref q_4 :: .ref q_6 :: .ref q_7 :: .null :: .null :: .int 0 :: .null :: .int 0 :: .null :: .int 0 :: .null :: .null :: .int 0 :: .int 0 :: .int 0 :: .null :: .null :: .int 0 :: .int 0 :: .int 0 :: .long 0 :: .int 0 :: .null :: .int 0 :: .int 0 :: .int 0 :: .null :: .null :: .null :: .null :: .null :: .int 0 :: []), _, _, _, _, _, _, _, _, _, _, _, _, _, _] hP hD rfl
  clear hP hD
  obtain ⟨hP, hD⟩ := hPD
  refine lv_aload_n hx hb (g_42 bX6_init rfl) rfl (lv_at hl 0 rfl) ?_
  refine lv_bipush (v := 8) hx hb dX6_init_57 (by decide +kernel) ?_
  refine newI hx hb hts m_t92 hN hP hD hS hA 8 (by decide +kernel) (by decide +kernel) (Nat.le_of_ble_eq_true rfl) (Nat.le_of_ble_eq_true rfl) (Nat.le_of_ble_eq_true rfl) (g_na10 bX6_init rfl) (fun q_8 H => ?_)
  clear hP hD hS
  intro hP hD hS
  have hPD := pd_as [_, _, _, _, _, _, _, _, _, _, _, _, _, _, _, zzI cy q_8 8 (fun _ => 0)] hP hD rfl
  clear hP hD
  obtain ⟨hP, hD⟩ := hPD
  refine W.widen (k := 15) (n := 408) (Nat.le_of_ble_eq_true rfl) (Nat.le_of_ble_eq_true rfl) ?_
  refine va_putF (D := G) (ci := 5) (v := .ref q_8) (ty := (.array .int)) (C := RX6) (T := TX6) (N := 35) hx hb hts iX_X6 tyX6 tyX6_ok nmX6 hown hK hP hD hS 0 rfl rfl 6 (by decide +kernel) (hts _ m_t856) (fun _ h9 => h9) rfl hin rfl (by decide +kernel) rfl rfl (Nat.le_of_ble_eq_true rfl) (g_181 (v := 31) bX6_init rfl) (fun H locs => ?_)
  clear hP hD hS
  intro hP hD hS
  have hPD := pd_as [zzO qm 5 (.ref q_1 :: .ref q_2 :: .ref q_3 :: .ref q_4 :: .ref q_6 :: .ref q_7 :: .ref q_8 :: .null :: .int 0 :: .null :: .int 0 :: .null :: .int 0 :: .null :: .null :: .int 0 :: .int 0 :: .int 0 :: .null :: .null :: .int 0 :: .int 0 :: .int 0 :: .long 0 :: .int 0 :: .null :: .int 0 :: .int 0 :: .int 0 :: .null :: .null :: .null :: .null :: .null :: .int 0 :: []), _, _, _, _, _, _, _, _, _, _, _, _, _, _, _] hP hD rfl
  clear hP hD
  obtain ⟨hP, hD⟩ := hPD
  refine lv_aload_n hx hb (g_42 bX6_init rfl) rfl (lv_at hl 0 rfl) ?_
  refine lv_sipush (v := 250) hx hb dX6_init_65 (by decide +kernel) ?_
  refine newI hx hb hts m_t92 hN hP hD hS hA 250 (by decide +kernel) (by decide +kernel) (Nat.le_of_ble_eq_true rfl) (Nat.le_of_ble_eq_true rfl) (Nat.le_of_ble_eq_true rfl) (g_na10 bX6_init rfl) (fun q_9 H => ?_)
  clear hP hD hS
  intro hP hD hS
  have hPD := pd_as [_, _, _, _, _, _, _, _, _, _, _, _, _, _, _, _, zzI cy q_9 250 (fun _ => 0)] hP hD rfl
  clear hP hD
  obtain ⟨hP, hD⟩ := hPD
  refine W.widen (k := 16) (n := 658) (Nat.le_of_ble_eq_true rfl) (Nat.le_of_ble_eq_true rfl) ?_
  refine va_putF (D := G) (ci := 5) (v := .ref q_9) (ty := (.array .int)) (C := RX6) (T := TX6) (N := 35) hx hb hts iX_X6 tyX6 tyX6_ok nmX6 hown hK hP hD hS 0 rfl rfl 7 (by decide +kernel) (hts _ m_t857) (fun _ h9 => h9) rfl hin rfl (by decide +kernel) rfl rfl (Nat.le_of_ble_eq_true rfl) (g_181 (v := 34) bX6_init rfl) (fun H locs => ?_)
  clear hP hD hS
  intro hP hD hS
  have hPD := pd_as [zzO qm 5 (.ref q_1 :: .ref q_2 :: .ref q_3 :: .ref q_4 :: .ref q_6 :: .ref q_7 :: .ref q_8 :: .ref q_9 :: .int 0 :: .null :: .int 0 :: .null :: .int 0 :: .null :: .null :: .int 0 :: .int 0 :: .int 0 :: .null :: .null :: .int 0 :: .int 0 :: .int 0 :: .long 0 :: .int 0 :: .null :: .int 0 :: .int 0 :: .int 0 :: .null :: .null :: .null :: .null :: .null :: .int 0 :: []), _, _, _, _, _, _, _, _, _, _, _, _, _, _, _, _] hP hD rfl
  clear hP hD
  obtain ⟨hP, hD⟩ := hPD
  refine lv_aload_n hx hb (g_42 bX6_init rfl) rfl (lv_at hl 0 rfl) ?_
  refine lv_bipush (v := 8) hx hb dX6_init_74 (by decide +kernel) ?_
  refine newI hx hb hts m_t92 hN hP hD hS hA 8 (by decide +kernel) (by decide +kernel) (Nat.le_of_ble_eq_true rfl) (Nat.le_of_ble_eq_true rfl) (Nat.le_of_ble_eq_true rfl) (g_na10 bX6_init rfl) (fun q_10 H => ?_)
  clear hP hD hS
  intro hP hD hS
  have hPD := pd_as [_, _, _, _, _, _, _, _, _, _, _, _, _, _, _, _, _, zzI cy q_10 8 (fun _ => 0)] hP hD rfl
  clear hP hD
  obtain ⟨hP, hD⟩ := hPD
  refine W.widen (k := 17) (n := 666) (Nat.le_of_ble_eq_true rfl) (Nat.le_of_ble_eq_true rfl) ?_
  refine va_putF (D := G) (ci := 5) (v := .ref q_10) (ty := (.array .int)) (C := RX6) (T := TX6) (N := 35) hx hb hts iX_X6 tyX6 tyX6_ok nmX6 hown hK hP hD hS 0 rfl rfl 9 (by decide +kernel) (hts _ m_t859) (fun _ h9 => h9) rfl hin rfl (by decide +kernel) rfl rfl (Nat.le_of_ble_eq_true rfl) (g_181 (v := 37) bX6_init rfl) (fun H locs => ?_)
  clear hP hD hS
  intro hP hD hS
  have hPD := pd_as [zzO qm 5 (.ref q_1 :: .ref q_2 :: .ref q_3 :: .ref q_4 :: .ref q_6 :: .ref q_7 :: .ref q_8 :: .ref q_9 :: .int 0 :: .ref q_10 :: .int 0 :: .null :: .int 0 :: .null :: .null :: .int 0 :: .int 0 :: .int 0 :: .null :: .null :: .int 0 :: .int 0 :: .int 0 :: .long 0 :: .int 0 :: .null :: .int 0 :: .int 0 :: .int 0 :: .null :: .null :: .null :: .null :: .null :: .int 0 :: []), _, _, _, _, _, _, _, _, _, _, _, _, _, _, _, _, _] hP hD rfl
  clear hP hD
  obtain ⟨hP, hD⟩ := hPD
  refine lv_aload_n hx hb (g_42 bX6_init rfl) rfl (lv_at hl 0 rfl) ?_
  refine lv_bipush (v := 8) hx hb dX6_init_82 (by decide +kernel) ?_
  refine lv_iconst (v := 4) hx hb (g_7 bX6_init rfl) (by decide +kernel) ?_
  refine newII hx hb hts hown m_t846 m_t92 hN hP hD hS hA 4 (by decide +kernel) (by decide +kernel) (by decide +kernel) (Nat.le_of_ble_eq_true rfl) (Nat.le_of_ble_eq_true rfl) (Nat.le_of_ble_eq_true rfl) (Nat.le_of_ble_eq_true rfl) dX6_init_85 (fun q_11 r_12 H => ?_)
  clear hP hD hS
  intro hP hD hS
  have hPD := pd_as [_, _, _, _, _, _, _, _, _, _, _, _, _, _, _, _, _, _, zzG cy 3 q_11 r_12, zzI cy (r_12 0) 4 (fun _ => 0), zzI cy (r_12 1) 4 (fun _ => 0), zzI cy (r_12 2) 4 (fun _ => 0), zzI cy (r_12 3) 4 (fun _ => 0), zzI cy (r_12 4) 4 (fun _ => 0), zzI cy (r_12 5) 4 (fun _ => 0), zzI cy (r_12 6) 4 (fun _ => 0), zzI cy (r_12 7) 4 (fun _ => 0)] hP hD rfl
  clear hP hD
  obtain ⟨hP, hD⟩ := hPD
  refine W.widen (k := 26) (n := 706) (Nat.le_of_ble_eq_true rfl) (Nat.le_of_ble_eq_true rfl) ?_
  refine va_putF (D := G) (ci := 5) (v := .ref q_11) (ty := (.array (.array .int))) (C := RX6) (T := TX6) (N := 35) hx hb hts iX_X6 tyX6 tyX6_ok nmX6 hown hK hP hD hS 0 rfl rfl 11 (by decide +kernel) (hts _ m_t861) (fun _ h9 => h9) rfl hin rfl (by decide +kernel) rfl rfl (Nat.le_of_ble_eq_true rfl) (g_181 (v := 42) bX6_init rfl) (fun H locs => ?_)
  clear hP hD hS
  intro hP hD hS
  have hPD := pd_as [zzO qm 5 (.ref q_1 :: .ref q_2 :: .ref q_3 :: .ref q_4 :: .ref q_6 :: .ref q_7 :: .ref q_8 :: .ref q_9 :: .int 0 :: .ref q_10 :: .int 0 :: .ref q_11 :: .int 0 :: .null :: .null :: .int 0 :: .int 0 :: .int 0 :: .null :: .null :: .int 0 :: .int 0 :: .int 0 :: .long 0 :: .int 0 :: .null :: .int 0 :: .int 0 :: .int 0 :: .null :: .null :: .null :: .null :: .null :: .int 0 :: []), _, _, _, _, _, _, _, _, _, _, _, _, _, _, _, _, _, _, _, _, _, _, _, _, _, _] hP hD rfl
  clear hP hD
  obtain ⟨hP, hD⟩ := hPD
  refine lv_aload_n hx hb (g_42 bX6_init rfl) rfl (lv_at hl 0 rfl) ?_
  refine lv_bipush (v := 8) hx hb dX6_init_93 (by decide +kernel) ?_
  refine lv_iconst (v := 5) hx hb (g_8 bX6_init rfl) (by decide +kernel) ?_
  refine newII hx hb hts hown m_t846 m_t92 hN hP hD hS hA 5 (by decide +kernel) (by decide +kernel) (by decide +kernel) (Nat.le_of_ble_eq_true rfl) (Nat.le_of_ble_eq_true rfl) (Nat.le_of_ble_eq_true rfl) (Nat.le_of_ble_eq_true rfl) dX6_init_96 (fun q_13 r_14 H => ?_)
  clear hP hD hS
  intro hP hD hS
  have hPD := pd_as (_ :: _ :: _ :: _ :: _ :: _ :: _ :: _ :: _ :: _ :: _ :: _ :: _ :: _ :: _ :: _ :: _ :: _ :: _ :: _ :: _ :: _ :: _ :: _ :: _ :: _ :: _ :: zzG cy 3 q_13 r_14 :: zzI cy (r_14 0) 5 (fun _ => 0) :: zzI cy (r_14 1) 5 (fun _ => 0) :: zzI cy (r_14 2) 5 (fun _ => 0) :: zzI cy (r_14 3) 5 (fun _ => 0) :: zzI cy (r_14 4) 5 (fun _ => 0) :: zzI cy (r_14 5) 5 (fun _ => 0) :: zzI cy (r_14 6) 5 (fun _ => 0) :: zzI cy (r_14 7) 5 (fun _ => 0) :: []) hP hD rfl
  clear hP hD
  obtain ⟨hP, hD⟩ := hPD
  refine W.widen (k := 35) (n := 754) (Nat.le_of_ble_eq_true rfl) (Nat.le_of_ble_eq_true rfl) ?_
  refine va_putF (D := G) (ci := 5) (v := .ref q_13) (ty := (.array (.array .int))) (C := RX6) (T := TX6) (N := 35) hx hb hts iX_X6 tyX6 tyX6_ok nmX6 hown hK hP hD hS 0 rfl rfl 13 (by decide +kernel) (hts _ m_t863) (fun _ h9 => h9) rfl hin rfl (by decide +kernel) rfl rfl (Nat.le_of_ble_eq_true rfl) (g_181 (v := 45) bX6_init rfl) (fun H locs => ?_)
  clear hP hD hS
  intro hP hD hS
  have hPD := pd_as (zzO qm 5 (.ref q_1 :: .ref q_2 :: .ref q_3 :: .ref q_4 :: .ref q_6 :: .ref q_7 :: .ref q_8 :: .ref q_9 :: .int 0 :: .ref q_10 :: .int 0 :: .ref q_11 :: .int 0 :: .ref q_13 :: .null :: .int 0 :: .int 0 :: .int 0 :: .null :: .null :: .int 0 :: .int 0 :: .int 0 :: .long 0 :: .int 0 :: .null :: .int 0 :: .int 0 :: .int 0 :: .null :: .null :: .null :: .null :: .null :: .int 0 :: []) :: _ :: _ :: _ :: _ :: _ :: _ :: _ :: _ :: _ :: _ :: _ :: _ :: _ :: _ :: _ :: _ :: _ :: _ :: _ :: _ :: _ :: _ :: _ :: _ :: _ :: _ :: _ :: _ :: _ :: _ :: _ :: _ :: _ :: _ :: _ :: []) hP hD rfl
  clear hP hD
  obtain ⟨hP, hD⟩ := hPD
  refine lv_aload_n hx hb (g_42 bX6_init rfl) rfl (lv_at hl 0 rfl) ?_
  refine lv_bipush (v := 8) hx hb dX6_init_104 (by decide +kernel) ?_
  refine lv_bipush (v := 8) hx hb dX6_init_106 (by decide +kernel) ?_
  refine newII hx hb hts hown m_t846 m_t92 hN hP hD hS hA 8 (by decide +kernel) (by decide +kernel) (by decide +kernel) (Nat.le_of_ble_eq_true rfl) (Nat.le_of_ble_eq_true rfl) (Nat.le_of_ble_eq_true rfl) (Nat.le_of_ble_eq_true rfl) dX6_init_108 (fun q_15 r_16 H => ?_)
  clear hP hD hS
  intro hP hD hS
  have hPD := pd_as (_ :: _ :: _ :: _ :: _ :: _ :: _ :: _ :: _ :: _ :: _ :: _ :: _ :: _ :: _ :: _ :: _ :: _ :: _ :: _ :: _ :: _ :: _ :: _ :: _ :: _ :: _ :: _ :: _ :: _ :: _ :: _ :: _ :: _ :: _ :: _ :: zzG cy 3 q_15 r_16 :: zzI cy (r_16 0) 8 (fun _ => 0) :: zzI cy (r_16 1) 8 (fun _ => 0) :: zzI cy (r_16 2) 8 (fun _ => 0) :: zzI cy (r_16 3) 8 (fun _ => 0) :: zzI cy (r_16 4) 8 (fun _ => 0) :: zzI cy (r_16 5) 8 (fun _ => 0) :: zzI cy (r_16 6) 8 (fun _ => 0) :: zzI cy (r_16 7) 8 (fun _ => 0) :: []) hP hD rfl
  clear hP hD
  obtain ⟨hP, hD⟩ := hPD
  refine W.widen (k := 44) (n := 826) (Nat.le_of_ble_eq_true rfl) (Nat.le_of_ble_eq_true rfl) ?_
  refine va_putF (D := G) (ci := 5) (v := .ref q_15) (ty := (.array (.array .int))) (C := RX6) (T := TX6) (N := 35) hx hb hts iX_X6 tyX6 tyX6_ok nmX6 hown hK hP hD hS 0 rfl rfl 14 (by decide +kernel) (hts _ m_t864) (fun _ h9 => h9) rfl hin rfl (by decide +kernel) rfl rfl (Nat.le_of_ble_eq_true rfl) (g_181 (v := 48) bX6_init rfl) (fun H locs => ?_)
  clear hP hD hS
  intro hP hD hS
  have hPD := pd_as (zzO qm 5 (.ref q_1 :: .ref q_2 :: .ref q_3 :: .ref q_4 :: .ref q_6 :: .ref q_7 :: .ref q_8 :: .ref q_9 :: .int 0 :: .ref q_10 :: .int 0 :: .ref q_11 :: .int 0 :: .ref q_13 :: .ref q_15 :: .int 0 :: .int 0 :: .int 0 :: .null :: .null :: .int 0 :: .int 0 :: .int 0 :: .long 0 :: .int 0 :: .null :: .int 0 :: .int 0 :: .int 0 :: .null :: .null :: .null :: .null :: .null :: .int 0 :: []) :: _ :: _ :: _ :: _ :: _ :: _ :: _ :: _ :: _ :: _ :: _ :: _ :: _ :: _ :: _ :: _ :: _ :: _ :: _ :: _ :: _ :: _ :: _ :: _ :: _ :: _ :: _ :: _ :: _ :: _ :: _ :: _ :: _ :: _ :: _ :: _ :: _ :: _ :: _ :: _ :: _ :: _ :: _ :: _ :: []) hP hD rfl
  clear hP hD
  obtain ⟨hP, hD⟩ := hPD
  refine lv_aload_n hx hb (g_42 bX6_init rfl) rfl (lv_at hl 0 rfl) ?_
  refine lv_iconst (v := 1) hx hb (g_4 bX6_init rfl) (by decide +kernel) ?_
  refine va_put (D := G) (ci := 5) (v := .int 1) (ty := .int) (C := RX6) (T := TX6) (N := 35) hx hb hts iX_X6 tyX6 tyX6_ok nmX6 hown hK hP hD hS 0 rfl rfl 17 (by decide +kernel) (hts _ m_t867) (fun _ h9 => h9) rfl (by decide +kernel) rfl rfl (Nat.le_of_ble_eq_true rfl) (g_181 (v := 51) bX6_init rfl) (fun H locs => ?_)
  clear hP hD hS
  intro hP hD hS
  have hPD := pd_as (zzO qm 5 (.ref q_1 :: .ref q_2 :: .ref q_3 :: .ref q_4 :: .ref q_6 :: .ref q_7 :: .ref q_8 :: .ref q_9 :: .int 0 :: .ref q_10 :: .int 0 :: .ref q_11 :: .int 0 :: .ref q_13 :: .ref q_15 :: .int 0 :: .int 0 :: .int 1 :: .null :: .null :: .int 0 :: .int 0 :: .int 0 :: .long 0 :: .int 0 :: .null :: .int 0 :: .int 0 :: .int 0 :: .null :: .null :: .null :: .null :: .null :: .int 0 :: []) :: _ :: _ :: _ :: _ :: _ :: _ :: _ :: _ :: _ :: _ :: _ :: _ :: _ :: _ :: _ :: _ :: _ :: _ :: _ :: _ :: _ :: _ :: _ :: _ :: _ :: _ :: _ :: _ :: _ :: _ :: _ :: _ :: _ :: _ :: _ :: _ :: _ :: _ :: _ :: _ :: _ :: _ :: _ :: _ :: []) hP hD rfl
  clear hP hD
  obtain ⟨hP, hD⟩ := hPD
  refine lv_aload_n hx hb (g_42 bX6_init rfl) rfl (lv_at hl 0 rfl) ?_
  refine lv_iconst (v := 3) hx hb (g_6 bX6_init rfl) (by decide +kernel) ?_
  refine newI hx hb hts m_t92 hN hP hD hS hA 3 (by decide +kernel) (by decide +kernel) (Nat.le_of_ble_eq_true rfl) (Nat.le_of_ble_eq_true rfl) (Nat.le_of_ble_eq_true rfl) (g_na10 bX6_init rfl) (fun q_17 H => ?_)
  clear hP hD hS
  intro hP hD hS
  have hPD := pd_as (_ :: _ :: _ :: _ :: _ :: _ :: _ :: _ :: _ :: _ :: _ :: _ :: _ :: _ :: _ :: _ :: _ :: _ :: _ :: _ :: _ :: _ :: _ :: _ :: _ :: _ :: _ :: _ :: _ :: _ :: _ :: _ :: _ :: _ :: _ :: _ :: _ :: _ :: _ :: _ :: _ :: _ :: _ :: _ :: _ :: zzI cy q_17 3 (fun _ => 0) :: []) hP hD rfl
  clear hP hD
  obtain ⟨hP, hD⟩ := hPD
  refine W.widen (k := 45) (n := 829) (Nat.le_of_ble_eq_true rfl) (Nat.le_of_ble_eq_true rfl) ?_
  refine va_putF (D := G) (ci := 5) (v := .ref q_17) (ty := (.array .int)) (C := RX6) (T := TX6) (N := 35) hx hb hts iX_X6 tyX6 tyX6_ok nmX6 hown hK hP hD hS 0 rfl rfl 25 (by decide +kernel) (hts _ m_t875) (fun _ h9 => h9) rfl hin rfl (by decide +kernel) rfl rfl (Nat.le_of_ble_eq_true rfl) (g_181 (v := 55) bX6_init rfl) (fun H locs => ?_)
  clear hP hD hS
  intro hP hD hS
  have hPD := pd_as (zzO qm 5 (.ref q_1 :: .ref q_2 :: .ref q_3 :: .ref q_4 :: .ref q_6 :: .ref q_7 :: .ref q_8 :: .ref q_9 :: .int 0 :: .ref q_10 :: .int 0 :: .ref q_11 :: .int 0 :: .ref q_13 :: .ref q_15 :: .int 0 :: .int 0 :: .int 1 :: .null :: .null :: .int 0 :: .int 0 :: .int 0 :: .long 0 :: .int 0 :: .ref q_17 :: .int 0 :: .int 0 :: .int 0 :: .null :: .null :: .null :: .null :: .null :: .int 0 :: []) :: _ :: _ :: _ :: _ :: _ :: _ :: _ :: _ :: _ :: _ :: _ :: _ :: _ :: _ :: _ :: _ :: _ :: _ :: _ :: _ :: _ :: _ :: _ :: _ :: _ :: _ :: _ :: _ :: _ :: _ :: _ :: _ :: _ :: _ :: _ :: _ :: _ :: _ :: _ :: _ :: _ :: _ :: _ :: _ :: _ :: []) hP hD rfl
  clear hP hD
  obtain ⟨hP, hD⟩ := hPD
  refine lv_aload_n hx hb (g_42 bX6_init rfl) rfl (lv_at hl 0 rfl) ?_
  refine lv_bipush (v := 8) hx hb dX6_init_128 (by decide +kernel) ?_
  refine newI hx hb hts m_t92 hN hP hD hS hA 8 (by decide +kernel) (by decide +kernel) (Nat.le_of_ble_eq_true rfl) (Nat.le_of_ble_eq_true rfl) (Nat.le_of_ble_eq_true rfl) (g_na10 bX6_init rfl) (fun q_18 H => ?_)
  clear hP hD hS
  intro hP hD hS
  have hPD := pd_as (_ :: _ :: _ :: _ :: _ :: _ :: _ :: _ :: _ :: _ :: _ :: _ :: _ :: _ :: _ :: _ :: _ :: _ :: _ :: _ :: _ :: _ :: _ :: _ :: _ :: _ :: _ :: _ :: _ :: _ :: _ :: _ :: _ :: _ :: _ :: _ :: _ :: _ :: _ :: _ :: _ :: _ :: _ :: _ :: _ :: _ :: zzI cy q_18 8 (fun _ => 0) :: []) hP hD rfl
  clear hP hD
  obtain ⟨hP, hD⟩ := hPD
  refine W.widen (k := 46) (n := 837) (Nat.le_of_ble_eq_true rfl) (Nat.le_of_ble_eq_true rfl) ?_
  refine va_putF (D := G) (ci := 5) (v := .ref q_18) (ty := (.array .int)) (C := RX6) (T := TX6) (N := 35) hx hb hts iX_X6 tyX6 tyX6_ok nmX6 hown hK hP hD hS 0 rfl rfl 30 (by decide +kernel) (hts _ m_t880) (fun _ h9 => h9) rfl hin rfl (by decide +kernel) rfl rfl (Nat.le_of_ble_eq_true rfl) (g_181 (v := 58) bX6_init rfl) (fun H locs => ?_)
  clear hP hD hS
  intro hP hD hS
  have hPD := pd_as (zzO qm 5 (.ref q_1 :: .ref q_2 :: .ref q_3 :: .ref q_4 :: .ref q_6 :: .ref q_7 :: .ref q_8 :: .ref q_9 :: .int 0 :: .ref q_10 :: .int 0 :: .ref q_11 :: .int 0 :: .ref q_13 :: .ref q_15 :: .int 0 :: .int 0 :: .int 1 :: .null :: .null :: .int 0 :: .int 0 :: .int 0 :: .long 0 :: .int 0 :: .ref q_17 :: .int 0 :: .int 0 :: .int 0 :: .null :: .ref q_18 :: .null :: .null :: .null :: .int 0 :: []) :: _ :: _ :: _ :: _ :: _ :: _ :: _ :: _ :: _ :: _ :: _ :: _ :: _ :: _ :: _ :: _ :: _ :: _ :: _ :: _ :: _ :: _ :: _ :: _ :: _ :: _ :: _ :: _ :: _ :: _ :: _ :: _ :: _ :: _ :: _ :: _ :: _ :: _ :: _ :: _ :: _ :: _ :: _ :: _ :: _ :: _ :: []) hP hD rfl
  clear hP hD
  obtain ⟨hP, hD⟩ := hPD
  refine lv_aload_n hx hb (g_42 bX6_init rfl) rfl (lv_at hl 0 rfl) ?_
  refine lv_iconst (v := 5) hx hb (g_8 bX6_init rfl) (by decide +kernel) ?_
  refine newI hx hb hts m_t92 hN hP hD hS hA 5 (by decide +kernel) (by decide +kernel) (Nat.le_of_ble_eq_true rfl) (Nat.le_of_ble_eq_true rfl) (Nat.le_of_ble_eq_true rfl) (g_na10 bX6_init rfl) (fun q_19 H => ?_)
  clear hP hD hS
  intro hP hD hS
  have hPD := pd_as (_ :: _ :: _ :: _ :: _ :: _ :: _ :: _ :: _ :: _ :: _ :: _ :: _ :: _ :: _ :: _ :: _ :: _ :: _ :: _ :: _ :: _ :: _ :: _ :: _ :: _ :: _ :: _ :: _ :: _ :: _ :: _ :: _ :: _ :: _ :: _ :: _ :: _ :: _ :: _ :: _ :: _ :: _ :: _ :: _ :: _ :: _ :: zzI cy q_19 5 (fun _ => 0) :: []) hP hD rfl
  clear hP hD
  obtain ⟨hP, hD⟩ := hPD
  refine W.widen (k := 47) (n := 842) (Nat.le_of_ble_eq_true rfl) (Nat.le_of_ble_eq_true rfl) ?_
  refine va_putF (D := G) (ci := 5) (v := .ref q_19) (ty := (.array .int)) (C := RX6) (T := TX6) (N := 35) hx hb hts iX_X6 tyX6 tyX6_ok nmX6 hown hK hP hD hS 0 rfl rfl 31 (by decide +kernel) (hts _ m_t881) (fun _ h9 => h9) rfl hin rfl (by decide +kernel) rfl rfl (Nat.le_of_ble_eq_true rfl) (g_181 (v := 61) bX6_init rfl) (fun H locs => ?_)
  clear hP hD hS
  intro hP hD hS
  have hPD := pd_as (zzO qm 5 (.ref q_1 :: .ref q_2 :: .ref q_3 :: .ref q_4 :: .ref q_6 :: .ref q_7 :: .ref q_8 :: .ref q_9 :: .int 0 :: .ref q_10 :: .int 0 :: .ref q_11 :: .int 0 :: .ref q_13 :: .ref q_15 :: .int 0 :: .int 0 :: .int 1 :: .null :: .null :: .int 0 :: .int 0 :: .int 0 :: .long 0 :: .int 0 :: .ref q_17 :: .int 0 :: .int 0 :: .int 0 :: .null :: .ref q_18 :: .ref q_19 :: .null :: .null :: .int 0 :: []) :: _ :: _ :: _ :: _ :: _ :: _ :: _ :: _ :: _ :: _ :: _ :: _ :: _ :: _ :: _ :: _ :: _ :: _ :: _ :: _ :: _ :: _ :: _ :: _ :: _ :: _ :: _ :: _ :: _ :: _ :: _ :: _ :: _ :: _ :: _ :: _ :: _ :: _ :: _ :: _ :: _ :: _ :: _ :: _ :: _ :: _ :: _ :: []) hP hD rfl
  clear hP hD
  obtain ⟨hP, hD⟩ := hPD
  refine lv_aload_n hx hb (g_42 bX6_init rfl) rfl (lv_at hl 0 rfl) ?_
  refine lv_iconst (v := 5) hx hb (g_8 bX6_init rfl) (by decide +kernel) ?_
  refine newI hx hb hts m_t92 hN hP hD hS hA 5 (by decide +kernel) (by decide +kernel) (Nat.le_of_ble_eq_true rfl) (Nat.le_of_ble_eq_true rfl) (Nat.le_of_ble_eq_true rfl) (g_na10 bX6_init rfl) (fun q_20 H => ?_)
  clear hP hD hS
  intro hP hD hS
  have hPD := pd_as (_ :: _ :: _ :: _ :: _ :: _ :: _ :: _ :: _ :: _ :: _ :: _ :: _ :: _ :: _ :: _ :: _ :: _ :: _ :: _ :: _ :: _ :: _ :: _ :: _ :: _ :: _ :: _ :: _ :: _ :: _ :: _ :: _ :: _ :: _ :: _ :: _ :: _ :: _ :: _ :: _ :: _ :: _ :: _ :: _ :: _ :: _ :: _ :: zzI cy q_20 5 (fun _ => 0) :: []) hP hD rfl
  clear hP hD
  obtain ⟨hP, hD⟩ := hPD
  refine W.widen (k := 48) (n := 847) (Nat.le_of_ble_eq_true rfl) (Nat.le_of_ble_eq_true rfl) ?_
  refine va_putF (D := G) (ci := 5) (v := .ref q_20) (ty := (.array .int)) (C := RX6) (T := TX6) (N := 35) hx hb hts iX_X6 tyX6 tyX6_ok nmX6 hown hK hP hD hS 0 rfl rfl 32 (by decide +kernel) (hts _ m_t882) (fun _ h9 => h9) rfl hin rfl (by decide +kernel) rfl rfl (Nat.le_of_ble_eq_true rfl) (g_181 (v := 64) bX6_init rfl) (fun H locs => ?_)
  clear hP hD hS
  intro hP hD hS
  have hPD := pd_as (zzO qm 5 (.ref q_1 :: .ref q_2 :: .ref q_3 :: .ref q_4 :: .ref q_6 :: .ref q_7 :: .ref q_8 :: .ref q_9 :: .int 0 :: .ref q_10 :: .int 0 :: .ref q_11 :: .int 0 :: .ref q_13 :: .ref q_15 :: .int 0 :: .int 0 :: .int 1 :: .null :: .null :: .int 0 :: .int 0 :: .int 0 :: .long 0 :: .int 0 :: .ref q_17 :: .int 0 :: .int 0 :: .int 0 :: .null :: .ref q_18 :: .ref q_19 :: .ref q_20 :: .null :: .int 0 :: []) :: _ :: _ :: _ :: _ :: _ :: _ :: _ :: _ :: _ :: _ :: _ :: _ :: _ :: _ :: _ :: _ :: _ :: _ :: _ :: _ :: _ :: _ :: _ :: _ :: _ :: _ :: _ :: _ :: _ :: _ :: _ :: _ :: _ :: _ :: _ :: _ :: _ :: _ :: _ :: _ :: _ :: _ :: _ :: _ :: _ :: _ :: _ :: _ :: []) hP hD rfl
  clear hP hD
  obtain ⟨hP, hD⟩ := hPD
  refine lv_aload_n hx hb (g_42 bX6_init rfl) rfl (lv_at hl 0 rfl) ?_
  refine lv_bipush (v := 6) hx hb dX6_init_150 (by decide +kernel) ?_
  refine newM hx hb hts hown m_t848 hN hP hD hS hA 6 (by decide +kernel) (by decide +kernel) (Nat.le_of_ble_eq_true rfl) (Nat.le_of_ble_eq_true rfl) (Nat.le_of_ble_eq_true rfl) (g_189 (v := 8) bX6_init rfl) (fun q_21 H => ?_)
  clear hP hD hS
  intro hP hD hS
  have hPD := pd_as (_ :: _ :: _ :: _ :: _ :: _ :: _ :: _ :: _ :: _ :: _ :: _ :: _ :: _ :: _ :: _ :: _ :: _ :: _ :: _ :: _ :: _ :: _ :: _ :: _ :: _ :: _ :: _ :: _ :: _ :: _ :: _ :: _ :: _ :: _ :: _ :: _ :: _ :: _ :: _ :: _ :: _ :: _ :: _ :: _ :: _ :: _ :: _ :: _ :: zzQ cy 5 q_21 6 (fun _ => none) :: []) hP hD rfl
  clear hP hD
  obtain ⟨hP, hD⟩ := hPD
  refine W.widen (k := 49) (n := 853) (Nat.le_of_ble_eq_true rfl) (Nat.le_of_ble_eq_true rfl) ?_
  refine va_putF (D := G) (ci := 5) (v := .ref q_21) (ty := (.array (.object "EachBookOnceModel"))) (C := RX6) (T := TX6) (N := 35) hx hb hts iX_X6 tyX6 tyX6_ok nmX6 hown hK hP hD hS 0 rfl rfl 33 (by decide +kernel) (hts _ m_t883) (fun _ h9 => h9) rfl hin rfl (by decide +kernel) rfl rfl (Nat.le_of_ble_eq_true rfl) (g_181 (v := 67) bX6_init rfl) (fun H locs => ?_)
  clear hP hD hS
  intro hP hD hS
  have hPD := pd_as (zzO qm 5 (.ref q_1 :: .ref q_2 :: .ref q_3 :: .ref q_4 :: .ref q_6 :: .ref q_7 :: .ref q_8 :: .ref q_9 :: .int 0 :: .ref q_10 :: .int 0 :: .ref q_11 :: .int 0 :: .ref q_13 :: .ref q_15 :: .int 0 :: .int 0 :: .int 1 :: .null :: .null :: .int 0 :: .int 0 :: .int 0 :: .long 0 :: .int 0 :: .ref q_17 :: .int 0 :: .int 0 :: .int 0 :: .null :: .ref q_18 :: .ref q_19 :: .ref q_20 :: .ref q_21 :: .int 0 :: []) :: _ :: _ :: _ :: _ :: _ :: _ :: _ :: _ :: _ :: _ :: _ :: _ :: _ :: _ :: _ :: _ :: _ :: _ :: _ :: _ :: _ :: _ :: _ :: _ :: _ :: _ :: _ :: _ :: _ :: _ :: _ :: _ :: _ :: _ :: _ :: _ :: _ :: _ :: _ :: _ :: _ :: _ :: _ :: _ :: _ :: _ :: _ :: _ :: _ :: []) hP hD rfl
  clear hP hD
  obtain ⟨hP, hD⟩ := hPD
  exact endV (u := [zzO qm 5 (.ref q_1 :: .ref q_2 :: .ref q_3 :: .ref q_4 :: .ref q_6 :: .ref q_7 :: .ref q_8 :: .ref q_9 :: .int 0 :: .ref q_10 :: .int 0 :: .ref q_11 :: .int 0 :: .ref q_13 :: .ref q_15 :: .int 0 :: .int 0 :: .int 1 :: .null :: .null :: .int 0 :: .int 0 :: .int 0 :: .long 0 :: .int 0 :: .ref q_17 :: .int 0 :: .int 0 :: .int 0 :: .null :: .ref q_18 :: .ref q_19 :: .ref q_20 :: .ref q_21 :: .int 0 :: []), zzG cy 3 q_11 r_12, zzI cy (r_12 0) 4 (fun _ => 0), zzI cy (r_12 1) 4 (fun _ => 0), zzI cy (r_12 2) 4 (fun _ => 0), zzI cy (r_12 3) 4 (fun _ => 0), zzI cy (r_12 4) 4 (fun _ => 0), zzI cy (r_12 5) 4 (fun _ => 0), zzI cy (r_12 6) 4 (fun _ => 0), zzI cy (r_12 7) 4 (fun _ => 0), zzG cy 3 q_13 r_14, zzI cy (r_14 0) 5 (fun _ => 0), zzI cy (r_14 1) 5 (fun _ => 0), zzI cy (r_14 2) 5 (fun _ => 0), zzI cy (r_14 3) 5 (fun _ => 0), zzI cy (r_14 4) 5 (fun _ => 0), zzI cy (r_14 5) 5 (fun _ => 0), zzI cy (r_14 6) 5 (fun _ => 0), zzI cy (r_14 7) 5 (fun _ => 0), zzG cy 3 q_15 r_16, zzI cy (r_16 0) 8 (fun _ => 0), zzI cy (r_16 1) 8 (fun _ => 0), zzI cy (r_16 2) 8 (fun _ => 0), zzI cy (r_16 3) 8 (fun _ => 0), zzI cy (r_16 4) 8 (fun _ => 0), zzI cy (r_16 5) 8 (fun _ => 0), zzI cy (r_16 6) 8 (fun _ => 0), zzI cy (r_16 7) 8 (fun _ => 0)]) hx hb hr hlocks (pSb hP [(true :: false :: false :: false :: false :: false :: false :: false :: false :: false :: false :: false :: false :: false :: false :: false :: false :: false :: true :: true :: true :: true :: true :: true :: true :: true :: true :: true :: true :: true :: true :: true :: true :: true :: true :: true :: true :: true :: true :: true :: true :: true :: true :: true :: true :: [])] rfl rfl) (dSb hD [(true :: false :: false :: false :: false :: false :: false :: false :: false :: false :: false :: false :: false :: false :: false :: false :: false :: false :: true :: true :: true :: true :: true :: true :: true :: true :: true :: true :: true :: true :: true :: true :: true :: true :: true :: true :: true :: true :: true :: true :: true :: true :: true :: true :: true :: [])] (by decide +kernel) rfl rfl) hS ⟨q_11, q_13, q_15, r_12, r_14, r_16, (fvL (.ref q_1 :: .ref q_2 :: .ref q_3 :: .ref q_4 :: .ref q_6 :: .ref q_7 :: .ref q_8 :: .ref q_9 :: .int 0 :: .ref q_10 :: .null :: .null :: .null :: .null :: .null :: .null :: .null :: .null :: .null :: .null :: .int 0 :: .int 0 :: .int 0 :: .long 0 :: .int 0 :: .ref q_17 :: .int 0 :: .null :: .null :: .null :: .ref q_18 :: .ref q_19 :: .ref q_20 :: .ref q_21 :: .int 0 :: [])), (by rw [bk_T0 0, bk_T0 1, bk_T0 2, bk_T0 3, bk_T0 4, bk_T0 5, bk_T0 6, bk_T0 7, on_T0 0, on_T0 1, on_T0 2, on_T0 3, on_T0 4, on_T0 5, on_T0 6, on_T0 7]; rfl)⟩ (g_177 bX6_init rfl)
set_option maxHeartbeats 4000000 in
set_option maxRecDepth 100000 in
theorem p_X6_keeping (l : Launch) (G : va_G) (cy : Nat → ClassId) (sz : Nat) (qm : Nat) (qmh : Nat) (qmo : Nat) (qmz : Nat) (qmR : Nat) (qmv : Nat) (qmk : Nat) (qma : Nat) (qmt : Nat) (kZ : Nat) (qmr : Nat) (tA : TA) (qmB : Nat) (qmO : Nat) (qmK : Nat) (iEn : Int32) (iTk : Int32) (uP : UM) (uU : UM) (kAt : Nat) (iTo : Int32) (iFr : Int32) (JFi : Int64) (iFa : Int32) (qm3 : Nat) (iSt : Int32) (iLv : Int32) (iWs : Int32) (wL : UL) (qmu : Nat) (qmy : Nat) (qmb : Nat) (qms : Nat) (iOm : Int32) (fMr : Nat → Int32) (rB : Nat → Nat) (rO : Nat → Nat) (rK : Nat → Nat) (iA : Int32) (iB : Int32)  (hB : T_nb tA ≤ 8) (hPp : T_np tA ≤ 8) (hTI : TI tA) : MW l yX6_keeping cX6_keeping 4 (some .int) 18 200 3552 G cy ([zzO qm 5 (.ref qmh :: .ref qmo :: .ref qmz :: .ref qmR :: .ref qmv :: .ref qmk :: .ref qma :: .ref qmt :: .int (nI kZ) :: .ref qmr :: .int (nI (T_nb tA)) :: .ref qmB :: .int (nI (T_np tA)) :: .ref qmO :: .ref qmK :: .int iEn :: .int iTk :: .int (T_sd tA) :: ov uP :: ov uU :: .int (nI kAt) :: .int iTo :: .int iFr :: .long JFi :: .int iFa :: .ref qm3 :: .int iSt :: .int iLv :: .int iWs :: ovL wL :: .ref qmu :: .ref qmy :: .ref qmb :: .ref qms :: .int iOm :: []), zzI cy qmr 8 fMr, zzG cy 3 qmB rB, zzI cy (rB 0) 4 (bkR tA 0), zzI cy (rB 1) 4 (bkR tA 1), zzI cy (rB 2) 4 (bkR tA 2), zzI cy (rB 3) 4 (bkR tA 3), zzI cy (rB 4) 4 (bkR tA 4), zzI cy (rB 5) 4 (bkR tA 5), zzI cy (rB 6) 4 (bkR tA 6), zzI cy (rB 7) 4 (bkR tA 7), zzG cy 3 qmO rO, zzI cy (rO 0) 5 (onR tA 0), zzI cy (rO 1) 5 (onR tA 1), zzI cy (rO 2) 5 (onR tA 2), zzI cy (rO 3) 5 (onR tA 3), zzI cy (rO 4) 5 (onR tA 4), zzI cy (rO 5) 5 (onR tA 5), zzI cy (rO 6) 5 (onR tA 6), zzI cy (rO 7) 5 (onR tA 7), zzG cy 3 qmK rK, zzI cy (rK 0) 8 (T_kn tA 0), zzI cy (rK 1) 8 (T_kn tA 1), zzI cy (rK 2) 8 (T_kn tA 2), zzI cy (rK 3) 8 (T_kn tA 3), zzI cy (rK 4) 8 (T_kn tA 4), zzI cy (rK 5) 8 (T_kn tA 5), zzI cy (rK 6) 8 (T_kn tA 6), zzI cy (rK 7) 8 (T_kn tA 7)] ++ (oM cy uU ++ oL cy wL)) sz [.ref qm, .int iA, .int iB] (Wi G (fun r u => ∃ (uN : UM) (wN : UL) (iNw : Int32) (fNr : Nat → Int32), u = ([zzO qm 5 (.ref qmh :: .ref qmo :: .ref qmz :: .ref qmR :: .ref qmv :: .ref qmk :: .ref qma :: .ref qmt :: .int (nI kZ) :: .ref qmr :: .int (nI (T_nb tA)) :: .ref qmB :: .int (nI (T_np tA)) :: .ref qmO :: .ref qmK :: .int iEn :: .int iTk :: .int (T_sd tA) :: ov uP :: ov uN :: .int (nI kAt) :: .int iTo :: .int iFr :: .long JFi :: .int iFa :: .ref qm3 :: .int iSt :: .int iLv :: .int iNw :: ovL wN :: .ref qmu :: .ref qmy :: .ref qmb :: .ref qms :: .int iOm :: []), zzI cy qmr 8 fNr, zzG cy 3 qmB rB, zzI cy (rB 0) 4 (bkR tA 0), zzI cy (rB 1) 4 (bkR tA 1), zzI cy (rB 2) 4 (bkR tA 2), zzI cy (rB 3) 4 (bkR tA 3), zzI cy (rB 4) 4 (bkR tA 4), zzI cy (rB 5) 4 (bkR tA 5), zzI cy (rB 6) 4 (bkR tA 6), zzI cy (rB 7) 4 (bkR tA 7), zzG cy 3 qmO rO, zzI cy (rO 0) 5 (onR tA 0), zzI cy (rO 1) 5 (onR tA 1), zzI cy (rO 2) 5 (onR tA 2), zzI cy (rO 3) 5 (onR tA 3), zzI cy (rO 4) 5 (onR tA 4), zzI cy (rO 5) 5 (onR tA 5), zzI cy (rO 6) 5 (onR tA 6), zzI cy (rO 7) 5 (onR tA 7), zzG cy 3 qmK rK, zzI cy (rK 0) 8 (T_kn tA 0), zzI cy (rK 1) 8 (T_kn tA 1), zzI cy (rK 2) 8 (T_kn tA 2), zzI cy (rK 3) 8 (T_kn tA 3), zzI cy (rK 4) 8 (T_kn tA 4), zzI cy (rK 5) 8 (T_kn tA 5), zzI cy (rK 6) 8 (T_kn tA 6), zzI cy (rK 7) 8 (T_kn tA 7)] ++ (oM cy uN ++ oL cy wN)) ∧ (True))) := by
  refine enW RX6 (by decide +kernel) rfl (Nat.le_of_ble_eq_true rfl) (fun p e s m below meth c ls A hx hb hml hown hts hr hlocks hP hN hl hin hD hA hS => ?_)
  have hin : meth.name = _ := hin
  have hK := hN.1
  replace hl : lv_has ls 4 [(0, .ref qm), (1, .int iA), (2, .int iB)] := hl
  refine lv_aload_n hx hb (g_42 bX6_keeping rfl) rfl (lv_at hl 0 rfl) ?_
  refine lv_iload_n hx hb (g_27 bX6_keeping rfl) rfl (lv_at hl 1 rfl) ?_
  refine lv_i2l (v := iA.toInt64) hx hb (g_133 bX6_keeping rfl) rfl ?_
  refine kRi (rV (As := [.long iA.toInt64]) (rest := []) (b := qm) ⟨hx, hb, hml, hown, hts⟩ (c_X6_isBook l G cy qm (.ref qmh) (.ref qmo) (.ref qmz) (.ref qmR) (.ref qmv) (.ref qmk) (.ref qma) (.ref qmt) (.int (nI kZ)) (.ref qmr) tA qmB qmO qmK iEn iTk (ov uP) (ov uU) (.int (nI kAt)) (.int iTo) (.int iFr) (.long JFi) (.int iFa) (.ref qm3) (.int iSt) iLv iWs (ovL wL) (.ref qmu) (.ref qmy) (.ref qmb) (.ref qms) (.int iOm) iA hB) L_X6_229 (preRV (q := (RX6, TX6, 35)) hN hP [0] rfl 0 5 rfl rfl) rfl ⟨Nat.le_of_ble_eq_true rfl, Nat.le_of_ble_eq_true rfl⟩ hl.1 (Nat.le_of_ble_eq_true rfl) (g_182 (v := 229) bX6_keeping rfl) ⟨Nat.le_of_ble_eq_true rfl, Nat.le_of_ble_eq_true rfl⟩) (fun r_1 h_2 => ?_)
  rcases h_2 with ⟨rfl, h_3⟩ | ⟨rfl, h_3⟩
  · obtain ⟨k_4, hk_5, rfl⟩ := h_3
    refine lv_if_eq (tgt := 23) hx hb dX6_keeping_6 (by decide +kernel) (fun h9 => absurd h9 (by decide +kernel)) (fun _ => ?_)
    refine lv_iload_n hx hb (g_28 bX6_keeping rfl) rfl (lv_at hl 2 rfl) ?_
    refine lv_i2l (v := iB.toInt64) hx hb (g_133 bX6_keeping rfl) rfl ?_
    refine lv_ldc2 hx hb hown (hts _ m_t1307) (g_20 (v := 318) bX6_keeping rfl) ?_
    refine lv_ldc2 hx hb hown (hts _ m_t1268) (g_20 (v := 298) bX6_keeping rfl) ?_
    refine kRi (rS (As := [.long iB.toInt64, .long 2, .long 60]) (rest := []) ⟨hx, hb, hml, hown, hts⟩ (c_X6_in l G cy iB.toInt64 2 60) L_X6_74 (preRS hN hP [] rfl) rfl ⟨Nat.le_of_ble_eq_true rfl, Nat.le_of_ble_eq_true rfl⟩ hl.1 (Nat.le_of_ble_eq_true rfl) (g_184 (v := 74) bX6_keeping rfl) ⟨Nat.le_of_ble_eq_true rfl, Nat.le_of_ble_eq_true rfl⟩) (fun r_7 h_8 => ?_)
    rcases h_8 with ⟨rfl, h_9⟩ | ⟨rfl, h_9⟩
    · obtain ⟨k_10, hk_11, hk_12, rfl⟩ := iv_nI 2 60 (by decide +kernel) (by decide +kernel) h_9
      refine lv_if_ne (tgt := 34) hx hb dX6_keeping_20 (by decide +kernel) (fun _ => ?_) (fun h9 => absurd h9 (by decide +kernel))
      refine lv_aload_n hx hb (g_42 bX6_keeping rfl) rfl (lv_at hl 0 rfl) ?_
      refine lv_iload_n hx hb (g_27 bX6_keeping rfl) rfl (lv_at hl 1 rfl) ?_
      refine kRi (rV (As := [.int (nI k_4)]) (rest := []) (b := qm) ⟨hx, hb, hml, hown, hts⟩ (c_X6_isWhite l G cy qm (.ref qmh) (.ref qmo) (.ref qmz) (.ref qmR) (.ref qmv) (.ref qmk) (.ref qma) (.ref qmt) (.int (nI kZ)) (.ref qmr) tA qmB qmO qmK iEn iTk (ov uP) (ov uU) (.int (nI kAt)) (.int iTo) (.int iFr) (.long JFi) (.int iFa) (.ref qm3) (.int iSt) iLv iWs (ovL wL) (.ref qmu) (.ref qmy) (.ref qmb) (.ref qms) (.int iOm) rB k_4 (by first | omega | (simp only [nb_sr, np_sr, nb_wr, np_wr, nb_rd, np_rd, nb_ch, np_ch, nb_zr, np_zr, nb_za, np_za, nb_ey, np_ey, nb_hf, np_hf, nb_dd, np_dd, nb_so, np_so, nb_skn, np_skn, nb_swh, np_swh, nb_sgn, np_sgn, nb_ssd, np_ssd, nb_sgo, np_sgo, nb_sag, np_sag]; omega))) L_X6_248 (preRV (q := (RX6, TX6, 35)) hN hP (trueIx 0 [true, false, true, true, true, true, true, true, true, true, true]) (sel_fm rfl rfl) 0 5 rfl rfl) rfl ⟨Nat.le_of_ble_eq_true rfl, Nat.le_of_ble_eq_true rfl⟩ hl.1 (Nat.le_of_ble_eq_true rfl) (g_182 (v := 248) bX6_keeping rfl) ⟨Nat.le_of_ble_eq_true rfl, Nat.le_of_ble_eq_true rfl⟩) (fun r_14 h_15 => ?_)
      rcases h_15 with ⟨rfl, h_16⟩ | ⟨rfl, h_16⟩
      · refine lv_if_ne (tgt := 52) hx hb dX6_keeping_39 (by decide +kernel) (fun _ => ?_) (fun h9 => absurd h9 (by decide +kernel))
        refine lv_aload_n hx hb (g_42 bX6_keeping rfl) rfl (lv_at hl 0 rfl) ?_
        refine lv_bipush (v := (-5)) hx hb dX6_keeping_53 (by decide +kernel) ?_
        refine cViQ (As := [.int (-5)]) (rest := []) (b := qm) (q := (RX6, TX6, 35)) ⟨hx, hb, hml, hown, hts⟩ (c_X6_refuse5 l G cy (s.heap).size qm (.ref qmh) (.ref qmo) (.ref qmz) (.ref qmR) (.ref qmv) (.ref qmk) (.ref qma) (.ref qmt) (.int (nI kZ)) qmr tA qmB qmO qmK iEn iTk (ov uP) (ov uU) (.int (nI kAt)) (.int iTo) (.int iFr) (.long JFi) (.int iFa) (.ref qm3) (.int iSt) iLv iWs (ovL wL) (.ref qmu) (.ref qmy) (.ref qmb) (.ref qms) (.int iOm) fMr) L_X6_91 hN hP hD hS hA [0, 1] [false, false, true, true, true, true, true, true, true, true, true, true, true, true, true, true, true, true, true, true, true, true, true, true, true, true, true, true, true] rfl (by decide +kernel) rfl 0 5 rfl rfl rfl ⟨Nat.le_of_ble_eq_true rfl, Nat.le_of_ble_eq_true rfl⟩ hl.1 (Nat.le_of_ble_eq_true rfl) (g_182 (v := 91) bX6_keeping rfl) ⟨Nat.le_of_ble_eq_true rfl, Nat.le_of_ble_eq_true rfl⟩ (fun r_18 u_20 H locs h_19 => ?_)
        clear hP hD hS
        intro hP hD hS
        obtain ⟨fX_21, hu9, h_19⟩ := h_19
        have hPD := pd_eqQ (([_, _, _, _, _, _, _, _, _, _, _, _, _, _, _, _, _, _, _, _, _, _, _, _, _, _, _, _, zzI cy qmr 8 fX_21] : va_W) ++ (oM cy uU ++ oL cy wL)) hP hD hu9 rfl
        clear hP hD hu9
        obtain ⟨hP, hD⟩ := hPD
        subst h_19
        refine lv_ldcw hx hb hown (hts _ m_t1290) (g_19 (v := 311) bX6_keeping rfl) ?_
        refine lv_isub hx hb (g_100 bX6_keeping rfl) ?_
        refine lv_seti (v := (-1000005)) (by decide +kernel) ?_
        refine W.widen (k := 200) (n := 3552) (Nat.le_of_ble_eq_true rfl) (Nat.le_of_ble_eq_true rfl) ?_
        exact endWt [[false, false, false, false, false, false, false, false, false, false, false, false, false, false, false, false, false, false, false, false, false, false, false, false, false, false, false, true, true], [true, true, true, true, true, true, true, true, true, true, true, true, true, true, true, true, true, true, true, true, true, true, true, true, true, true, true]] hx hb hr hlocks rfl hP hD rfl (by decide +kernel) hS ⟨(uU), (wL), iWs, fX_21, rfl, trivial⟩ (g_172 bX6_keeping rfl)
      · refine lv_if_ne (tgt := 52) hx hb dX6_keeping_39 (by decide +kernel) (fun h9 => absurd (by decide +kernel) h9) (fun _ => ?_)
        refine lv_aload_n hx hb (g_42 bX6_keeping rfl) rfl (lv_at hl 0 rfl) ?_
        refine lv_iload_n hx hb (g_27 bX6_keeping rfl) rfl (lv_at hl 1 rfl) ?_
        refine lv_iload_n hx hb (g_28 bX6_keeping rfl) rfl (lv_at hl 2 rfl) ?_
        replace hP := al_P hP
        replace hD := al_D hD
        refine cViPQ (As := [.int (nI k_4), .int (nI k_10)]) (rest := []) (b := qm) (q := (RX6, TX6, 35)) ⟨hx, hb, hml, hown, hts⟩ (c_X6_findWho l G cy (s.heap).size qm (.ref qmh) (.ref qmo) (.ref qmz) (.ref qmR) (.ref qmv) (.ref qmk) (.ref qma) (.ref qmt) (.int (nI kZ)) (.ref qmr) tA qmB qmO qmK iEn iTk (ov uP) uU (.int (nI kAt)) (.int iTo) (.int iFr) (.long JFi) (.int iFa) (.ref qm3) (.int iSt) iLv iWs (ovL wL) (.ref qmu) (.ref qmy) (.ref qmb) (.ref qms) (.int iOm) rB rO rK k_4 k_10 (by first | omega | (simp only [nb_sr, np_sr, nb_wr, np_wr, nb_rd, np_rd, nb_ch, np_ch, nb_zr, np_zr, nb_za, np_za, nb_ey, np_ey, nb_hf, np_hf, nb_dd, np_dd, nb_so, np_so, nb_skn, np_skn, nb_swh, np_swh, nb_sgn, np_sgn, nb_ssd, np_ssd, nb_sgo, np_sgo, nb_sag, np_sag]; omega)) (by first | omega | (simp only [nb_sr, np_sr, nb_wr, np_wr, nb_rd, np_rd, nb_ch, np_ch, nb_zr, np_zr, nb_za, np_za, nb_ey, np_ey, nb_hf, np_hf, nb_dd, np_dd, nb_so, np_so, nb_skn, np_skn, nb_swh, np_swh, nb_sgn, np_sgn, nb_ssd, np_ssd, nb_sgo, np_sgo, nb_sag, np_sag]; omega)) hB hPp hTI) L_X6_315 hN hP hD hS hA (trueIx 0 [true, false, true, true, true, true, true, true, true, true, true, true, true, true, true, true, true, true, true, true, true, true, true, true, true, true, true, true, true]) [false, true, false, false, false, false, false, false, false, false, false, false, false, false, false, false, false, false, false, false, false, false, false, false, false, false, false, false, false] (sel_eq rfl rfl) (by decide +kernel) rfl 0 5 rfl rfl rfl ⟨Nat.le_of_ble_eq_true rfl, Nat.le_of_ble_eq_true rfl⟩ hl.1 (Nat.le_of_ble_eq_true rfl) (g_182 (v := 315) bX6_keeping rfl) ⟨Nat.le_of_ble_eq_true rfl, Nat.le_of_ble_eq_true rfl⟩ (fun r_23 u_25 H locs h_24 => ?_)
        clear hP hD hS
        intro hP hD hS
        obtain ⟨uN_26, iNw_27, rfl, h_24⟩ := h_24
        replace hP := as1P hP
        replace hD := as1D hD
        have hPD := pd_as (([_, zzO qm 5 (.ref qmh :: .ref qmo :: .ref qmz :: .ref qmR :: .ref qmv :: .ref qmk :: .ref qma :: .ref qmt :: .int (nI kZ) :: .ref qmr :: .int (nI (T_nb tA)) :: .ref qmB :: .int (nI (T_np tA)) :: .ref qmO :: .ref qmK :: .int iEn :: .int iTk :: .int (T_sd tA) :: ov uP :: ov uN_26 :: .int (nI kAt) :: .int iTo :: .int iFr :: .long JFi :: .int iFa :: .ref qm3 :: .int iSt :: .int iLv :: .int iNw_27 :: ovL wL :: .ref qmu :: .ref qmy :: .ref qmb :: .ref qms :: .int iOm :: []), _, _, _, _, _, _, _, _, _, _, _, _, _, _, _, _, _, _, _, _, _, _, _, _, _, _, _] : va_W) ++ (oM cy uN_26 ++ oL cy wL)) hP hD rfl
        clear hP hD
        obtain ⟨hP, hD⟩ := hPD
        refine W.widen (k := 50) (n := 888) (Nat.le_of_ble_eq_true rfl) (Nat.le_of_ble_eq_true rfl) ?_
        refine lv_iconst (v := (-1)) hx hb (g_2 bX6_keeping rfl) (by decide +kernel) ?_
        refine lv_icmp_ne (tgt := 63) hx hb dX6_keeping_49 (by decide +kernel) (fun c_28 => ?_) (fun c_28 => ?_)
        · refine lv_aload_n hx hb (g_42 bX6_keeping rfl) rfl (lv_at hl 0 rfl) ?_
          refine va_get (D := G) (ci := 5) (v := ovL wL) (C := RX6) (T := TX6) (N := 35) hx hb hts iX_X6 hown hK hP 1 rfl rfl 29 (by decide +kernel) (hts _ m_t879) (fun _ h9 => h9) rfl (g_180 (v := 320) bX6_keeping rfl) ?_
          rcases ul_or wL with eL_43 | ⟨qL_29, qLB_30, qLO_31, qLK_32, rLB_33, rLO_34, rLK_35, tL_36, xL_37, iEnL_38, iTkL_39, iLvL_40, iWsL_41, uW_42, eL_43⟩
          · rw [eL_43] at hP hD
            replace hP := kl0P hP
            replace hD := kl0D hD
            have hPD := pd_as (([_, zzO qm 5 (.ref qmh :: .ref qmo :: .ref qmz :: .ref qmR :: .ref qmv :: .ref qmk :: .ref qma :: .ref qmt :: .int (nI kZ) :: .ref qmr :: .int (nI (T_nb tA)) :: .ref qmB :: .int (nI (T_np tA)) :: .ref qmO :: .ref qmK :: .int iEn :: .int iTk :: .int (T_sd tA) :: ov uP :: ov uN_26 :: .int (nI kAt) :: .int iTo :: .int iFr :: .long JFi :: .int iFa :: .ref qm3 :: .int iSt :: .int iLv :: .int iNw_27 :: .null :: .ref qmu :: .ref qmy :: .ref qmb :: .ref qms :: .int iOm :: []), _, _, _, _, _, _, _, _, _, _, _, _, _, _, _, _, _, _, _, _, _, _, _, _, _, _, _] : va_W) ++ oM cy uN_26) hP hD rfl
            clear hP hD
            obtain ⟨hP, hD⟩ := hPD
            refine lv_setv (v := .null) (by rw [eL_43]; rfl) ?_
            refine lv_ifnonnullN hx hb dX6_keeping_67 ?_
            refine lv_aload_n hx hb (g_42 bX6_keeping rfl) rfl (lv_at hl 0 rfl) ?_
            refine va_new (ci := 5) (fs := (.null :: .null :: .null :: .null :: .null :: .null :: .null :: .null :: .int 0 :: .null :: .int 0 :: .null :: .int 0 :: .null :: .null :: .int 0 :: .int 0 :: .int 0 :: .null :: .null :: .int 0 :: .int 0 :: .int 0 :: .long 0 :: .int 0 :: .null :: .int 0 :: .int 0 :: .int 0 :: .null :: .null :: .null :: .null :: .null :: .int 0 :: [])) (C := RX6) (T := TX6) (N := 35) hx hb hts iX_X6 tyX6 tyX6_ok hown (hts _ m_t848) (hts _ m_t839) (hts _ m_t6) hK hP hD hS hA rfl df_X6 (Nat.le_of_ble_eq_true rfl) (Nat.le_of_ble_eq_true rfl) (g_187 (v := 8) bX6_keeping rfl) (fun q_44 H => ?_)
            clear hP hD hS
            intro hP hD hS
            replace hP := va_P.swap hP
            replace hD := va_D.swap hD
            have hPD := pd_as (([_, _, _, _, _, _, _, _, _, _, _, _, _, _, _, _, _, _, _, _, _, _, _, _, _, _, _, _, _, zzO q_44 5 (.null :: .null :: .null :: .null :: .null :: .null :: .null :: .null :: .int 0 :: .null :: .int 0 :: .null :: .int 0 :: .null :: .null :: .int 0 :: .int 0 :: .int 0 :: .null :: .null :: .int 0 :: .int 0 :: .int 0 :: .long 0 :: .int 0 :: .null :: .int 0 :: .int 0 :: .int 0 :: .null :: .null :: .null :: .null :: .null :: .int 0 :: [])] : va_W) ++ oM cy uN_26) hP hD rfl
            clear hP hD
            obtain ⟨hP, hD⟩ := hPD
            refine W.widen (k := 51) (n := 923) (Nat.le_of_ble_eq_true rfl) (Nat.le_of_ble_eq_true rfl) ?_
            refine lv_dup hx hb (g_89 bX6_keeping rfl) rfl ?_
            refine cIvQ (As := []) (rest := [.ref q_44, .ref qm]) (b := q_44) ⟨hx, hb, hml, hown, hts⟩ (c_X6_initL l G cy (H).size q_44) L_X6_291 hN hP hD hS hA [29] [true, true, true, true, true, true, true, true, true, true, true, true, true, true, true, true, true, true, true, true, true, true, true, true, true, true, true, true, true, false] rfl (by decide +kernel) rfl rfl ⟨Nat.le_of_ble_eq_true rfl, Nat.le_of_ble_eq_true rfl⟩ hl.1 (Nat.le_of_ble_eq_true rfl) (g_183 (v := 291) bX6_keeping rfl) ⟨Nat.le_of_ble_eq_true rfl, Nat.le_of_ble_eq_true rfl⟩ (fun u_47 H locs h_46 => ?_)
            clear hP hD hS
            intro hP hD hS
            obtain ⟨qmB_48, qmO_49, qmK_50, rB_51, rO_52, rK_53, xF_54, hu9⟩ := h_46
            have hPD := pd_eqQ (((_ :: _ :: _ :: _ :: _ :: _ :: _ :: _ :: _ :: _ :: _ :: _ :: _ :: _ :: _ :: _ :: _ :: _ :: _ :: _ :: _ :: _ :: _ :: _ :: _ :: _ :: _ :: _ :: _ :: zzO q_44 5 (xF_54 0 :: xF_54 1 :: xF_54 2 :: xF_54 3 :: xF_54 4 :: xF_54 5 :: xF_54 6 :: xF_54 7 :: xF_54 8 :: xF_54 9 :: .int (nI (T_nb T0)) :: .ref qmB_48 :: .int (nI (T_np T0)) :: .ref qmO_49 :: .ref qmK_50 :: .int 0 :: .int 0 :: .int (T_sd T0) :: xF_54 18 :: .null :: xF_54 20 :: xF_54 21 :: xF_54 22 :: xF_54 23 :: xF_54 24 :: xF_54 25 :: xF_54 26 :: .int 0 :: .int 0 :: xF_54 29 :: xF_54 30 :: xF_54 31 :: xF_54 32 :: xF_54 33 :: xF_54 34 :: []) :: zzG cy 3 qmB_48 rB_51 :: zzI cy (rB_51 0) 4 (bkR T0 0) :: zzI cy (rB_51 1) 4 (bkR T0 1) :: zzI cy (rB_51 2) 4 (bkR T0 2) :: zzI cy (rB_51 3) 4 (bkR T0 3) :: zzI cy (rB_51 4) 4 (bkR T0 4) :: zzI cy (rB_51 5) 4 (bkR T0 5) :: zzI cy (rB_51 6) 4 (bkR T0 6) :: zzI cy (rB_51 7) 4 (bkR T0 7) :: zzG cy 3 qmO_49 rO_52 :: zzI cy (rO_52 0) 5 (onR T0 0) :: zzI cy (rO_52 1) 5 (onR T0 1) :: zzI cy (rO_52 2) 5 (onR T0 2) :: zzI cy (rO_52 3) 5 (onR T0 3) :: zzI cy (rO_52 4) 5 (onR T0 4) :: zzI cy (rO_52 5) 5 (onR T0 5) :: zzI cy (rO_52 6) 5 (onR T0 6) :: zzI cy (rO_52 7) 5 (onR T0 7) :: zzG cy 3 qmK_50 rK_53 :: zzI cy (rK_53 0) 8 (T_kn T0 0) :: zzI cy (rK_53 1) 8 (T_kn T0 1) :: zzI cy (rK_53 2) 8 (T_kn T0 2) :: zzI cy (rK_53 3) 8 (T_kn T0 3) :: zzI cy (rK_53 4) 8 (T_kn T0 4) :: zzI cy (rK_53 5) 8 (T_kn T0 5) :: zzI cy (rK_53 6) 8 (T_kn T0 6) :: zzI cy (rK_53 7) 8 (T_kn T0 7) :: []) : va_W) ++ oM cy uN_26) hP hD hu9 rfl
            clear hP hD hu9
            obtain ⟨hP, hD⟩ := hPD
            refine W.widen (k := 100) (n := 1776) (Nat.le_of_ble_eq_true rfl) (Nat.le_of_ble_eq_true rfl) ?_
            refine va_put (D := G) (ci := 5) (v := .ref q_44) (ty := (.object "EachBookOnceModel")) (C := RX6) (T := TX6) (N := 35) hx hb hts iX_X6 tyX6 tyX6_ok nmX6 hown hK hP hD hS 1 rfl rfl 29 (by decide +kernel) (hts _ m_t879) (fun _ h9 => h9) rfl (by decide +kernel) rfl rfl (Nat.le_of_ble_eq_true rfl) (g_181 (v := 320) bX6_keeping rfl) (fun H locs => ?_)
            clear hP hD hS
            intro hP hD hS
            have hPD := pd_as (((_ :: zzO qm 5 (.ref qmh :: .ref qmo :: .ref qmz :: .ref qmR :: .ref qmv :: .ref qmk :: .ref qma :: .ref qmt :: .int (nI kZ) :: .ref qmr :: .int (nI (T_nb tA)) :: .ref qmB :: .int (nI (T_np tA)) :: .ref qmO :: .ref qmK :: .int iEn :: .int iTk :: .int (T_sd tA) :: ov uP :: ov uN_26 :: .int (nI kAt) :: .int iTo :: .int iFr :: .long JFi :: .int iFa :: .ref qm3 :: .int iSt :: .int iLv :: .int iNw_27 :: .ref q_44 :: .ref qmu :: .ref qmy :: .ref qmb :: .ref qms :: .int iOm :: []) :: _ :: _ :: _ :: _ :: _ :: _ :: _ :: _ :: _ :: _ :: _ :: _ :: _ :: _ :: _ :: _ :: _ :: _ :: _ :: _ :: _ :: _ :: _ :: _ :: _ :: _ :: _ :: _ :: _ :: _ :: _ :: _ :: _ :: _ :: _ :: _ :: _ :: _ :: _ :: _ :: _ :: _ :: _ :: _ :: _ :: _ :: _ :: _ :: _ :: _ :: _ :: _ :: _ :: _ :: _ :: []) : va_W) ++ oM cy uN_26) hP hD rfl
            clear hP hD
            obtain ⟨hP, hD⟩ := hPD
            refine lv_aload_n hx hb (g_42 bX6_keeping rfl) rfl (lv_at hl 0 rfl) ?_
            refine va_get (D := G) (ci := 5) (v := .ref q_44) (C := RX6) (T := TX6) (N := 35) hx hb hts iX_X6 hown hK hP 1 rfl rfl 29 (by decide +kernel) (hts _ m_t879) (fun _ h9 => h9) rfl (g_180 (v := 320) bX6_keeping rfl) ?_
            refine lv_aload_n hx hb (g_42 bX6_keeping rfl) rfl (lv_at hl 0 rfl) ?_
            refine cVvQ (As := [.ref qm]) (rest := []) (b := q_44) (q := (RX6, TX6, 35)) ⟨hx, hb, hml, hown, hts⟩ (c_X6_takeFrom l G cy (H).size q_44 (xF_54 0) (xF_54 1) (xF_54 2) (xF_54 3) (xF_54 4) (xF_54 5) (xF_54 6) (xF_54 7) (xF_54 8) (xF_54 9) T0 qmB_48 qmO_49 qmK_50 0 0 (xF_54 18) .null (xF_54 20) (xF_54 21) (xF_54 22) (xF_54 23) (xF_54 24) (xF_54 25) (xF_54 26) 0 0 (xF_54 29) (xF_54 30) (xF_54 31) (xF_54 32) (xF_54 33) (xF_54 34) rB_51 rO_52 rK_53 qm (.ref qmh) (.ref qmo) (.ref qmz) (.ref qmR) (.ref qmv) (.ref qmk) (.ref qma) (.ref qmt) (.int (nI kZ)) (.ref qmr) tA qmB qmO qmK iEn iTk (ov uP) (ov uN_26) (.int (nI kAt)) (.int iTo) (.int iFr) (.long JFi) (.int iFa) (.ref qm3) (.int iSt) iLv iNw_27 (.ref q_44) (.ref qmu) (.ref qmy) (.ref qmb) (.ref qms) (.int iOm) rB rO rK) L_X6_225 hN hP hD hS hA (trueIxs [(false :: false :: false :: false :: false :: false :: false :: false :: false :: false :: false :: false :: false :: false :: false :: false :: false :: false :: false :: false :: false :: false :: false :: false :: false :: false :: false :: false :: false :: true :: true :: true :: true :: true :: true :: true :: true :: true :: true :: true :: true :: true :: true :: true :: true :: true :: true :: true :: true :: true :: true :: true :: true :: true :: true :: true :: true :: []), [false, true, true, true, true, true, true, true, true, true, true, true, true, true, true, true, true, true, true, true, true, true, true, true, true, true, true, true, true]]) (true :: false :: false :: false :: false :: false :: false :: false :: false :: false :: false :: false :: false :: false :: false :: false :: false :: false :: false :: false :: false :: false :: false :: false :: false :: false :: false :: false :: false :: false :: false :: false :: false :: false :: false :: false :: false :: false :: false :: false :: false :: false :: false :: false :: false :: false :: false :: false :: false :: false :: false :: false :: false :: false :: false :: false :: false :: []) (sels_eq rfl rfl) (by decide +kernel) rfl 29 5 rfl rfl rfl ⟨Nat.le_of_ble_eq_true rfl, Nat.le_of_ble_eq_true rfl⟩ hl.1 (Nat.le_of_ble_eq_true rfl) (g_182 (v := 225) bX6_keeping rfl) ⟨Nat.le_of_ble_eq_true rfl, Nat.le_of_ble_eq_true rfl⟩ (fun u_57 H locs h_56 => ?_)
            clear hP hD hS
            intro hP hD hS
            have hPD := pd_eqQ (((_ :: zzO q_44 5 (xF_54 0 :: xF_54 1 :: xF_54 2 :: xF_54 3 :: xF_54 4 :: xF_54 5 :: xF_54 6 :: xF_54 7 :: xF_54 8 :: xF_54 9 :: .int (nI (T_nb tA)) :: .ref qmB_48 :: .int (nI (T_np tA)) :: .ref qmO_49 :: .ref qmK_50 :: .int iEn :: .int iTk :: .int (T_sd tA) :: xF_54 18 :: .null :: xF_54 20 :: xF_54 21 :: xF_54 22 :: xF_54 23 :: xF_54 24 :: xF_54 25 :: xF_54 26 :: .int 0 :: .int 0 :: xF_54 29 :: xF_54 30 :: xF_54 31 :: xF_54 32 :: xF_54 33 :: xF_54 34 :: []) :: _ :: zzI cy (rB_51 0) 4 (bkR tA 0) :: zzI cy (rB_51 1) 4 (bkR tA 1) :: zzI cy (rB_51 2) 4 (bkR tA 2) :: zzI cy (rB_51 3) 4 (bkR tA 3) :: zzI cy (rB_51 4) 4 (bkR tA 4) :: zzI cy (rB_51 5) 4 (bkR tA 5) :: zzI cy (rB_51 6) 4 (bkR tA 6) :: zzI cy (rB_51 7) 4 (bkR tA 7) :: _ :: zzI cy (rO_52 0) 5 (onR tA 0) :: zzI cy (rO_52 1) 5 (onR tA 1) :: zzI cy (rO_52 2) 5 (onR tA 2) :: zzI cy (rO_52 3) 5 (onR tA 3) :: zzI cy (rO_52 4) 5 (onR tA 4) :: zzI cy (rO_52 5) 5 (onR tA 5) :: zzI cy (rO_52 6) 5 (onR tA 6) :: zzI cy (rO_52 7) 5 (onR tA 7) :: _ :: zzI cy (rK_53 0) 8 (T_kn tA 0) :: zzI cy (rK_53 1) 8 (T_kn tA 1) :: zzI cy (rK_53 2) 8 (T_kn tA 2) :: zzI cy (rK_53 3) 8 (T_kn tA 3) :: zzI cy (rK_53 4) 8 (T_kn tA 4) :: zzI cy (rK_53 5) 8 (T_kn tA 5) :: zzI cy (rK_53 6) 8 (T_kn tA 6) :: zzI cy (rK_53 7) 8 (T_kn tA 7) :: _ :: _ :: _ :: _ :: _ :: _ :: _ :: _ :: _ :: _ :: _ :: _ :: _ :: _ :: _ :: _ :: _ :: _ :: _ :: _ :: _ :: _ :: _ :: _ :: _ :: _ :: _ :: _ :: []) : va_W) ++ oM cy uN_26) hP hD h_56 rfl
            clear hP hD h_56
            obtain ⟨hP, hD⟩ := hPD
            refine lv_aload_n hx hb (g_42 bX6_keeping rfl) rfl (lv_at hl 0 rfl) ?_
            refine va_get (D := G) (ci := 5) (v := .ref q_44) (C := RX6) (T := TX6) (N := 35) hx hb hts iX_X6 hown hK hP 29 rfl rfl 29 (by decide +kernel) (hts _ m_t879) (fun _ h9 => h9) rfl (g_180 (v := 320) bX6_keeping rfl) ?_
            refine lv_iconst (v := (-1)) hx hb (g_2 bX6_keeping rfl) (by decide +kernel) ?_
            refine lv_iconst (v := 0) hx hb (g_3 bX6_keeping rfl) (by decide +kernel) ?_
            refine lv_iconst (v := 1) hx hb (g_4 bX6_keeping rfl) (by decide +kernel) ?_
            refine cViQ (As := [.int (-1), .int 0, .int 1]) (rest := []) (b := q_44) (q := (RX6, TX6, 35)) ⟨hx, hb, hml, hown, hts⟩ (c_X6_goes01 l G cy (H).size q_44 (xF_54 0) (xF_54 1) (xF_54 2) (xF_54 3) (xF_54 4) (xF_54 5) (xF_54 6) (xF_54 7) (xF_54 8) (xF_54 9) tA qmB_48 qmO_49 qmK_50 iEn iTk (xF_54 18) .null (xF_54 20) (xF_54 21) (xF_54 22) (xF_54 23) (xF_54 24) (xF_54 25) (xF_54 26) 0 0 (xF_54 29) (xF_54 30) (xF_54 31) (xF_54 32) (xF_54 33) (xF_54 34) rB_51 rO_52 rK_53 hB hPp hTI) L_X6_295 hN hP hD hS hA (trueIx 0 [false, true, true, true, true, true, true, true, true, true, true, true, true, true, true, true, true, true, true, true, true, true, true, true, true, true, true, true, true]) (true :: false :: false :: false :: false :: false :: false :: false :: false :: false :: false :: false :: false :: false :: false :: false :: false :: false :: false :: false :: false :: false :: false :: false :: false :: false :: false :: false :: false :: true :: true :: true :: true :: true :: true :: true :: true :: true :: true :: true :: true :: true :: true :: true :: true :: true :: true :: true :: true :: true :: true :: true :: true :: true :: true :: true :: true :: []) (sel_eq rfl rfl) (by decide +kernel) rfl 1 5 rfl rfl rfl ⟨Nat.le_of_ble_eq_true rfl, Nat.le_of_ble_eq_true rfl⟩ hl.1 (Nat.le_of_ble_eq_true rfl) (g_182 (v := 295) bX6_keeping rfl) ⟨Nat.le_of_ble_eq_true rfl, Nat.le_of_ble_eq_true rfl⟩ (fun r_58 u_60 H locs h_59 => ?_)
            clear hP hD hS
            intro hP hD hS
            obtain ⟨tX_61, iX_62, iY_63, hu9, h_64, h_59⟩ := h_59
            have hPD := pd_eqQ (((_ :: _ :: _ :: _ :: _ :: _ :: _ :: _ :: _ :: _ :: _ :: _ :: _ :: _ :: _ :: _ :: _ :: _ :: _ :: _ :: _ :: _ :: _ :: _ :: _ :: _ :: _ :: _ :: _ :: zzO q_44 5 (xF_54 0 :: xF_54 1 :: xF_54 2 :: xF_54 3 :: xF_54 4 :: xF_54 5 :: xF_54 6 :: xF_54 7 :: xF_54 8 :: xF_54 9 :: .int (nI (T_nb tX_61)) :: .ref qmB_48 :: .int (nI (T_np tX_61)) :: .ref qmO_49 :: .ref qmK_50 :: .int iX_62 :: .int iTk :: .int (T_sd tX_61) :: xF_54 18 :: .null :: xF_54 20 :: xF_54 21 :: xF_54 22 :: xF_54 23 :: xF_54 24 :: xF_54 25 :: xF_54 26 :: .int iY_63 :: .int 0 :: xF_54 29 :: xF_54 30 :: xF_54 31 :: xF_54 32 :: xF_54 33 :: xF_54 34 :: []) :: _ :: zzI cy (rB_51 0) 4 (bkR tX_61 0) :: zzI cy (rB_51 1) 4 (bkR tX_61 1) :: zzI cy (rB_51 2) 4 (bkR tX_61 2) :: zzI cy (rB_51 3) 4 (bkR tX_61 3) :: zzI cy (rB_51 4) 4 (bkR tX_61 4) :: zzI cy (rB_51 5) 4 (bkR tX_61 5) :: zzI cy (rB_51 6) 4 (bkR tX_61 6) :: zzI cy (rB_51 7) 4 (bkR tX_61 7) :: _ :: zzI cy (rO_52 0) 5 (onR tX_61 0) :: zzI cy (rO_52 1) 5 (onR tX_61 1) :: zzI cy (rO_52 2) 5 (onR tX_61 2) :: zzI cy (rO_52 3) 5 (onR tX_61 3) :: zzI cy (rO_52 4) 5 (onR tX_61 4) :: zzI cy (rO_52 5) 5 (onR tX_61 5) :: zzI cy (rO_52 6) 5 (onR tX_61 6) :: zzI cy (rO_52 7) 5 (onR tX_61 7) :: _ :: zzI cy (rK_53 0) 8 (T_kn tX_61 0) :: zzI cy (rK_53 1) 8 (T_kn tX_61 1) :: zzI cy (rK_53 2) 8 (T_kn tX_61 2) :: zzI cy (rK_53 3) 8 (T_kn tX_61 3) :: zzI cy (rK_53 4) 8 (T_kn tX_61 4) :: zzI cy (rK_53 5) 8 (T_kn tX_61 5) :: zzI cy (rK_53 6) 8 (T_kn tX_61 6) :: zzI cy (rK_53 7) 8 (T_kn tX_61 7) :: []) : va_W) ++ oM cy uN_26) hP hD hu9 rfl
            clear hP hD hu9
            obtain ⟨hP, hD⟩ := hPD
            refine lv_istore_n (lv' := [(3, .int r_58), (0, .ref qm), (1, .int (nI k_4)), (2, .int (nI k_10))]) hx hb (g_62 bX6_keeping rfl) rfl hl (by decide +kernel) rfl (fun ls => ?_)
            clear hl
            intro hl
            refine lv_aload_n hx hb (g_42 bX6_keeping rfl) rfl (lv_at hl 1 rfl) ?_
            refine va_get (D := G) (ci := 5) (v := .ref q_44) (C := RX6) (T := TX6) (N := 35) hx hb hts iX_X6 hown hK hP 1 rfl rfl 29 (by decide +kernel) (hts _ m_t879) (fun _ h9 => h9) rfl (g_180 (v := 320) bX6_keeping rfl) ?_
            refine lv_iload_n hx hb (g_27 bX6_keeping rfl) rfl (lv_at hl 2 rfl) ?_
            refine lv_iload_n hx hb (g_28 bX6_keeping rfl) rfl (lv_at hl 3 rfl) ?_
            refine lv_iconst (v := 1) hx hb (g_4 bX6_keeping rfl) (by decide +kernel) ?_
            refine lv_isub hx hb (g_100 bX6_keeping rfl) ?_
            refine lv_seti (v := nI (k_10 - 1)) (nI_sub1 (by omega)) ?_
            refine cViQ (As := [.int (nI k_4), .int (nI (k_10 - 1))]) (rest := []) (b := q_44) (q := (RX6, TX6, 35)) ⟨hx, hb, hml, hown, hts⟩ (c_X6_findWho l G cy (H).size q_44 (xF_54 0) (xF_54 1) (xF_54 2) (xF_54 3) (xF_54 4) (xF_54 5) (xF_54 6) (xF_54 7) (xF_54 8) (xF_54 9) tX_61 qmB_48 qmO_49 qmK_50 iX_62 iTk (xF_54 18) none (xF_54 20) (xF_54 21) (xF_54 22) (xF_54 23) (xF_54 24) (xF_54 25) (xF_54 26) iY_63 0 (xF_54 29) (xF_54 30) (xF_54 31) (xF_54 32) (xF_54 33) (xF_54 34) rB_51 rO_52 rK_53 k_4 (k_10 - 1) (by first | omega | (simp only [nb_sr, np_sr, nb_wr, np_wr, nb_rd, np_rd, nb_ch, np_ch, nb_zr, np_zr, nb_za, np_za, nb_ey, np_ey, nb_hf, np_hf, nb_dd, np_dd, nb_so, np_so, nb_skn, np_skn, nb_swh, np_swh, nb_sgn, np_sgn, nb_ssd, np_ssd, nb_sgo, np_sgo, nb_sag, np_sag]; omega)) (by first | omega | (simp only [nb_sr, np_sr, nb_wr, np_wr, nb_rd, np_rd, nb_ch, np_ch, nb_zr, np_zr, nb_za, np_za, nb_ey, np_ey, nb_hf, np_hf, nb_dd, np_dd, nb_so, np_so, nb_skn, np_skn, nb_swh, np_swh, nb_sgn, np_sgn, nb_ssd, np_ssd, nb_sgo, np_sgo, nb_sag, np_sag]; omega)) (by first | omega | (simp only [nb_sr, np_sr, nb_wr, np_wr, nb_rd, np_rd, nb_ch, np_ch, nb_zr, np_zr, nb_za, np_za, nb_ey, np_ey, nb_hf, np_hf, nb_dd, np_dd, nb_so, np_so, nb_skn, np_skn, nb_swh, np_swh, nb_sgn, np_sgn, nb_ssd, np_ssd, nb_sgo, np_sgo, nb_sag, np_sag]; omega)) (by first | omega | (simp only [nb_sr, np_sr, nb_wr, np_wr, nb_rd, np_rd, nb_ch, np_ch, nb_zr, np_zr, nb_za, np_za, nb_ey, np_ey, nb_hf, np_hf, nb_dd, np_dd, nb_so, np_so, nb_skn, np_skn, nb_swh, np_swh, nb_sgn, np_sgn, nb_ssd, np_ssd, nb_sgo, np_sgo, nb_sag, np_sag]; omega)) h_64.1) L_X6_315 hN hP hD hS hA (trueIx 0 (false :: false :: false :: false :: false :: false :: false :: false :: false :: false :: false :: false :: false :: false :: false :: false :: false :: false :: false :: false :: false :: false :: false :: false :: false :: false :: false :: false :: false :: true :: true :: true :: true :: true :: true :: true :: true :: true :: true :: true :: true :: true :: true :: true :: true :: true :: true :: true :: true :: true :: true :: true :: true :: true :: true :: true :: true :: [])) (true :: true :: true :: true :: true :: true :: true :: true :: true :: true :: true :: true :: true :: true :: true :: true :: true :: true :: true :: true :: true :: true :: true :: true :: true :: true :: true :: true :: true :: false :: false :: false :: false :: false :: false :: false :: false :: false :: false :: false :: false :: false :: false :: false :: false :: false :: false :: false :: false :: false :: false :: false :: false :: false :: false :: false :: false :: []) (sel_eq rfl rfl) (by decide +kernel) rfl 29 5 rfl rfl rfl ⟨Nat.le_of_ble_eq_true rfl, Nat.le_of_ble_eq_true rfl⟩ hl.1 (Nat.le_of_ble_eq_true rfl) (g_182 (v := 315) bX6_keeping rfl) ⟨Nat.le_of_ble_eq_true rfl, Nat.le_of_ble_eq_true rfl⟩ (fun r_65 u_67 H locs h_66 => ?_)
            clear hP hD hS
            intro hP hD hS
            obtain ⟨uN_68, iNw_69, rfl, h_66⟩ := h_66
            replace hP := as1P hP
            replace hD := as1D hD
            have hPD := pd_as (((_ :: _ :: _ :: _ :: _ :: _ :: _ :: _ :: _ :: _ :: _ :: _ :: _ :: _ :: _ :: _ :: _ :: _ :: _ :: _ :: _ :: _ :: _ :: _ :: _ :: _ :: _ :: _ :: _ :: zzO q_44 5 (xF_54 0 :: xF_54 1 :: xF_54 2 :: xF_54 3 :: xF_54 4 :: xF_54 5 :: xF_54 6 :: xF_54 7 :: xF_54 8 :: xF_54 9 :: .int (nI (T_nb tX_61)) :: .ref qmB_48 :: .int (nI (T_np tX_61)) :: .ref qmO_49 :: .ref qmK_50 :: .int iX_62 :: .int iTk :: .int (T_sd tX_61) :: xF_54 18 :: ov uN_68 :: xF_54 20 :: xF_54 21 :: xF_54 22 :: xF_54 23 :: xF_54 24 :: xF_54 25 :: xF_54 26 :: .int iY_63 :: .int iNw_69 :: xF_54 29 :: xF_54 30 :: xF_54 31 :: xF_54 32 :: xF_54 33 :: xF_54 34 :: []) :: _ :: _ :: _ :: _ :: _ :: _ :: _ :: _ :: _ :: _ :: _ :: _ :: _ :: _ :: _ :: _ :: _ :: _ :: _ :: _ :: _ :: _ :: _ :: _ :: _ :: _ :: _ :: []) : va_W) ++ (oM cy uN_68 ++ oM cy uN_26)) hP hD rfl
            clear hP hD
            obtain ⟨hP, hD⟩ := hPD
            refine W.widen (k := 150) (n := 2664) (Nat.le_of_ble_eq_true rfl) (Nat.le_of_ble_eq_true rfl) ?_
            refine lv_iconst (v := (-1)) hx hb (g_2 bX6_keeping rfl) (by decide +kernel) ?_
            refine lv_icmp_ne (tgt := 126) hx hb dX6_keeping_112 (by decide +kernel) (fun c_70 => ?_) (fun c_70 => ?_)
            · refine lv_iload_n hx hb (g_29 bX6_keeping rfl) rfl (lv_at hl 0 rfl) ?_
              refine lv_aload_n hx hb (g_42 bX6_keeping rfl) rfl (lv_at hl 1 rfl) ?_
              refine va_get (D := G) (ci := 5) (v := .ref q_44) (C := RX6) (T := TX6) (N := 35) hx hb hts iX_X6 hown hK hP 1 rfl rfl 29 (by decide +kernel) (hts _ m_t879) (fun _ h9 => h9) rfl (g_180 (v := 320) bX6_keeping rfl) ?_
              refine va_get (D := G) (ci := 5) (v := .int iNw_69) (C := RX6) (T := TX6) (N := 35) hx hb hts iX_X6 hown hK hP 29 rfl rfl 28 (by decide +kernel) (hts _ m_t878) (fun _ h9 => h9) rfl (g_180 (v := 312) bX6_keeping rfl) ?_
              refine lv_iadd hx hb (g_96 bX6_keeping rfl) ?_
              refine lv_aload_n hx hb (g_42 bX6_keeping rfl) rfl (lv_at hl 1 rfl) ?_
              refine va_get (D := G) (ci := 5) (v := .int iNw_27) (C := RX6) (T := TX6) (N := 35) hx hb hts iX_X6 hown hK hP 1 rfl rfl 28 (by decide +kernel) (hts _ m_t878) (fun _ h9 => h9) rfl (g_180 (v := 312) bX6_keeping rfl) ?_
              refine lv_isub hx hb (g_100 bX6_keeping rfl) ?_
              have hPD := pt_as (zzI cy qmr 8 fMr :: zzO qm 5 (.ref qmh :: .ref qmo :: .ref qmz :: .ref qmR :: .ref qmv :: .ref qmk :: .ref qma :: .ref qmt :: .int (nI kZ) :: .ref qmr :: .int (nI (T_nb tA)) :: .ref qmB :: .int (nI (T_np tA)) :: .ref qmO :: .ref qmK :: .int iEn :: .int iTk :: .int (T_sd tA) :: ov uP :: ov uN_26 :: .int (nI kAt) :: .int iTo :: .int iFr :: .long JFi :: .int iFa :: .ref qm3 :: .int iSt :: .int iLv :: .int iNw_27 :: .ref q_44 :: .ref qmu :: .ref qmy :: .ref qmb :: .ref qms :: .int iOm :: []) :: zzG cy 3 qmB rB :: zzI cy (rB 0) 4 (bkR tA 0) :: zzI cy (rB 1) 4 (bkR tA 1) :: zzI cy (rB 2) 4 (bkR tA 2) :: zzI cy (rB 3) 4 (bkR tA 3) :: zzI cy (rB 4) 4 (bkR tA 4) :: zzI cy (rB 5) 4 (bkR tA 5) :: zzI cy (rB 6) 4 (bkR tA 6) :: zzI cy (rB 7) 4 (bkR tA 7) :: zzG cy 3 qmO rO :: zzI cy (rO 0) 5 (onR tA 0) :: zzI cy (rO 1) 5 (onR tA 1) :: zzI cy (rO 2) 5 (onR tA 2) :: zzI cy (rO 3) 5 (onR tA 3) :: zzI cy (rO 4) 5 (onR tA 4) :: zzI cy (rO 5) 5 (onR tA 5) :: zzI cy (rO 6) 5 (onR tA 6) :: zzI cy (rO 7) 5 (onR tA 7) :: zzG cy 3 qmK rK :: zzI cy (rK 0) 8 (T_kn tA 0) :: zzI cy (rK 1) 8 (T_kn tA 1) :: zzI cy (rK 2) 8 (T_kn tA 2) :: zzI cy (rK 3) 8 (T_kn tA 3) :: zzI cy (rK 4) 8 (T_kn tA 4) :: zzI cy (rK 5) 8 (T_kn tA 5) :: zzI cy (rK 6) 8 (T_kn tA 6) :: zzI cy (rK 7) 8 (T_kn tA 7) :: zzO q_44 5 (xF_54 0 :: xF_54 1 :: xF_54 2 :: xF_54 3 :: xF_54 4 :: xF_54 5 :: xF_54 6 :: xF_54 7 :: xF_54 8 :: xF_54 9 :: .int (nI (T_nb tX_61)) :: .ref qmB_48 :: .int (nI (T_np tX_61)) :: .ref qmO_49 :: .ref qmK_50 :: .int iX_62 :: .int iTk :: .int (T_sd tX_61) :: xF_54 18 :: ov uN_68 :: xF_54 20 :: xF_54 21 :: xF_54 22 :: xF_54 23 :: xF_54 24 :: xF_54 25 :: xF_54 26 :: .int iY_63 :: .int iNw_69 :: xF_54 29 :: xF_54 30 :: xF_54 31 :: xF_54 32 :: xF_54 33 :: xF_54 34 :: []) :: zzG cy 3 qmB_48 rB_51 :: zzI cy (rB_51 0) 4 (bkR tX_61 0) :: zzI cy (rB_51 1) 4 (bkR tX_61 1) :: zzI cy (rB_51 2) 4 (bkR tX_61 2) :: zzI cy (rB_51 3) 4 (bkR tX_61 3) :: zzI cy (rB_51 4) 4 (bkR tX_61 4) :: zzI cy (rB_51 5) 4 (bkR tX_61 5) :: zzI cy (rB_51 6) 4 (bkR tX_61 6) :: zzI cy (rB_51 7) 4 (bkR tX_61 7) :: zzG cy 3 qmO_49 rO_52 :: zzI cy (rO_52 0) 5 (onR tX_61 0) :: zzI cy (rO_52 1) 5 (onR tX_61 1) :: zzI cy (rO_52 2) 5 (onR tX_61 2) :: zzI cy (rO_52 3) 5 (onR tX_61 3) :: zzI cy (rO_52 4) 5 (onR tX_61 4) :: zzI cy (rO_52 5) 5 (onR tX_61 5) :: zzI cy (rO_52 6) 5 (onR tX_61 6) :: zzI cy (rO_52 7) 5 (onR tX_61 7) :: zzG cy 3 qmK_50 rK_53 :: zzI cy (rK_53 0) 8 (T_kn tX_61 0) :: zzI cy (rK_53 1) 8 (T_kn tX_61 1) :: zzI cy (rK_53 2) 8 (T_kn tX_61 2) :: zzI cy (rK_53 3) 8 (T_kn tX_61 3) :: zzI cy (rK_53 4) 8 (T_kn tX_61 4) :: zzI cy (rK_53 5) 8 (T_kn tX_61 5) :: zzI cy (rK_53 6) 8 (T_kn tX_61 6) :: zzI cy (rK_53 7) 8 (T_kn tX_61 7) :: []) (0 :: 1 :: 2 :: 3 :: 4 :: 5 :: 6 :: 7 :: 8 :: 9 :: 10 :: 11 :: 12 :: 13 :: 14 :: 15 :: 16 :: 17 :: 18 :: 19 :: 20 :: 21 :: 22 :: 23 :: 24 :: 25 :: 26 :: 27 :: 28 :: 29 :: 30 :: 31 :: 32 :: 33 :: 34 :: 35 :: 36 :: 37 :: 38 :: 39 :: 40 :: 41 :: 42 :: 43 :: 44 :: 45 :: 46 :: 47 :: 48 :: 49 :: 50 :: 51 :: 52 :: 53 :: 54 :: 55 :: 56 :: []) hP hD (by decide +kernel) rfl
              clear hP hD
              obtain ⟨hP, hD⟩ := hPD
              have hPD := pd_as (([zzI cy qmr 8 fMr, zzO qm 5 (.ref qmh :: .ref qmo :: .ref qmz :: .ref qmR :: .ref qmv :: .ref qmk :: .ref qma :: .ref qmt :: .int (nI kZ) :: .ref qmr :: .int (nI (T_nb tA)) :: .ref qmB :: .int (nI (T_np tA)) :: .ref qmO :: .ref qmK :: .int iEn :: .int iTk :: .int (T_sd tA) :: ov uP :: ov uN_26 :: .int (nI kAt) :: .int iTo :: .int iFr :: .long JFi :: .int iFa :: .ref qm3 :: .int iSt :: .int iLv :: .int iNw_27 :: .ref q_44 :: .ref qmu :: .ref qmy :: .ref qmb :: .ref qms :: .int iOm :: []), zzG cy 3 qmB rB, zzI cy (rB 0) 4 (bkR tA 0), zzI cy (rB 1) 4 (bkR tA 1), zzI cy (rB 2) 4 (bkR tA 2), zzI cy (rB 3) 4 (bkR tA 3), zzI cy (rB 4) 4 (bkR tA 4), zzI cy (rB 5) 4 (bkR tA 5), zzI cy (rB 6) 4 (bkR tA 6), zzI cy (rB 7) 4 (bkR tA 7), zzG cy 3 qmO rO, zzI cy (rO 0) 5 (onR tA 0), zzI cy (rO 1) 5 (onR tA 1), zzI cy (rO 2) 5 (onR tA 2), zzI cy (rO 3) 5 (onR tA 3), zzI cy (rO 4) 5 (onR tA 4), zzI cy (rO 5) 5 (onR tA 5), zzI cy (rO 6) 5 (onR tA 6), zzI cy (rO 7) 5 (onR tA 7), zzG cy 3 qmK rK, zzI cy (rK 0) 8 (T_kn tA 0), zzI cy (rK 1) 8 (T_kn tA 1), zzI cy (rK 2) 8 (T_kn tA 2), zzI cy (rK 3) 8 (T_kn tA 3), zzI cy (rK 4) 8 (T_kn tA 4), zzI cy (rK 5) 8 (T_kn tA 5), zzI cy (rK 6) 8 (T_kn tA 6), zzI cy (rK 7) 8 (T_kn tA 7)] ++ mL cy q_44 qmB_48 qmO_49 qmK_50 rB_51 rO_52 rK_53 tX_61 xF_54 iX_62 iTk iY_63 iNw_69 uN_68) ++ (oM cy uN_68 ++ oM cy uN_26)) hP hD rfl
              clear hP hD
              obtain ⟨hP, hD⟩ := hPD
              replace hP := kl2P hP
              replace hD := kl2D hD
              refine W.widen (k := 200) (n := 3552) (Nat.le_of_ble_eq_true rfl) (Nat.le_of_ble_eq_true rfl) ?_
              exact endWt [[false, true], [true, false, true, true, true, true, true, true, true, true, true, true, true, true, true, true, true, true, true, true, true, true, true, true, true, true, true, true, true]] hx hb hr hlocks rfl hP hD rfl (by decide +kernel) hS ⟨(uN_26), (some ((q_44, qmB_48, qmO_49, qmK_50, rB_51, rO_52, rK_53, tX_61, xF_54, iX_62, iTk, iY_63, iNw_69), uN_68)), iNw_27, fMr, rfl, trivial⟩ (g_172 bX6_keeping rfl)
            · refine lv_aload_n hx hb (g_42 bX6_keeping rfl) rfl (lv_at hl 1 rfl) ?_
              refine lv_bipush (v := (-5)) hx hb dX6_keeping_116 (by decide +kernel) ?_
              refine cViQ (As := [.int (-5)]) (rest := []) (b := qm) (q := (RX6, TX6, 35)) ⟨hx, hb, hml, hown, hts⟩ (c_X6_refuse5 l G cy (H).size qm (.ref qmh) (.ref qmo) (.ref qmz) (.ref qmR) (.ref qmv) (.ref qmk) (.ref qma) (.ref qmt) (.int (nI kZ)) qmr tA qmB qmO qmK iEn iTk (ov uP) (ov uN_26) (.int (nI kAt)) (.int iTo) (.int iFr) (.long JFi) (.int iFa) (.ref qm3) (.int iSt) iLv iNw_27 (.ref q_44) (.ref qmu) (.ref qmy) (.ref qmb) (.ref qms) (.int iOm) fMr) L_X6_91 hN hP hD hS hA [1, 0] (false :: false :: true :: true :: true :: true :: true :: true :: true :: true :: true :: true :: true :: true :: true :: true :: true :: true :: true :: true :: true :: true :: true :: true :: true :: true :: true :: true :: true :: true :: true :: true :: true :: true :: true :: true :: true :: true :: true :: true :: true :: true :: true :: true :: true :: true :: true :: true :: true :: true :: true :: true :: true :: true :: true :: true :: true :: []) rfl (by decide +kernel) rfl 1 5 rfl rfl rfl ⟨Nat.le_of_ble_eq_true rfl, Nat.le_of_ble_eq_true rfl⟩ hl.1 (Nat.le_of_ble_eq_true rfl) (g_182 (v := 91) bX6_keeping rfl) ⟨Nat.le_of_ble_eq_true rfl, Nat.le_of_ble_eq_true rfl⟩ (fun r_71 u_73 H locs h_72 => ?_)
              clear hP hD hS
              intro hP hD hS
              obtain ⟨fX_74, hu9, h_72⟩ := h_72
              have hPD := pd_eqQ (((_ :: _ :: _ :: _ :: _ :: _ :: _ :: _ :: _ :: _ :: _ :: _ :: _ :: _ :: _ :: _ :: _ :: _ :: _ :: _ :: _ :: _ :: _ :: _ :: _ :: _ :: _ :: _ :: _ :: _ :: _ :: _ :: _ :: _ :: _ :: _ :: _ :: _ :: _ :: _ :: _ :: _ :: _ :: _ :: _ :: _ :: _ :: _ :: _ :: _ :: _ :: _ :: _ :: _ :: _ :: _ :: zzI cy qmr 8 fX_74 :: []) : va_W) ++ (oM cy uN_68 ++ oM cy uN_26)) hP hD hu9 rfl
              clear hP hD hu9
              obtain ⟨hP, hD⟩ := hPD
              subst h_72
              refine lv_ldcw hx hb hown (hts _ m_t1290) (g_19 (v := 311) bX6_keeping rfl) ?_
              refine lv_isub hx hb (g_100 bX6_keeping rfl) ?_
              refine lv_seti (v := (-1000005)) (by decide +kernel) ?_
              have hPD := pt_as (zzG cy 3 qmB rB :: zzI cy (rB 0) 4 (bkR tA 0) :: zzI cy (rB 1) 4 (bkR tA 1) :: zzI cy (rB 2) 4 (bkR tA 2) :: zzI cy (rB 3) 4 (bkR tA 3) :: zzI cy (rB 4) 4 (bkR tA 4) :: zzI cy (rB 5) 4 (bkR tA 5) :: zzI cy (rB 6) 4 (bkR tA 6) :: zzI cy (rB 7) 4 (bkR tA 7) :: zzG cy 3 qmO rO :: zzI cy (rO 0) 5 (onR tA 0) :: zzI cy (rO 1) 5 (onR tA 1) :: zzI cy (rO 2) 5 (onR tA 2) :: zzI cy (rO 3) 5 (onR tA 3) :: zzI cy (rO 4) 5 (onR tA 4) :: zzI cy (rO 5) 5 (onR tA 5) :: zzI cy (rO 6) 5 (onR tA 6) :: zzI cy (rO 7) 5 (onR tA 7) :: zzG cy 3 qmK rK :: zzI cy (rK 0) 8 (T_kn tA 0) :: zzI cy (rK 1) 8 (T_kn tA 1) :: zzI cy (rK 2) 8 (T_kn tA 2) :: zzI cy (rK 3) 8 (T_kn tA 3) :: zzI cy (rK 4) 8 (T_kn tA 4) :: zzI cy (rK 5) 8 (T_kn tA 5) :: zzI cy (rK 6) 8 (T_kn tA 6) :: zzI cy (rK 7) 8 (T_kn tA 7) :: zzO qm 5 (.ref qmh :: .ref qmo :: .ref qmz :: .ref qmR :: .ref qmv :: .ref qmk :: .ref qma :: .ref qmt :: .int (nI kZ) :: .ref qmr :: .int (nI (T_nb tA)) :: .ref qmB :: .int (nI (T_np tA)) :: .ref qmO :: .ref qmK :: .int iEn :: .int iTk :: .int (T_sd tA) :: ov uP :: ov uN_26 :: .int (nI kAt) :: .int iTo :: .int iFr :: .long JFi :: .int iFa :: .ref qm3 :: .int iSt :: .int iLv :: .int iNw_27 :: .ref q_44 :: .ref qmu :: .ref qmy :: .ref qmb :: .ref qms :: .int iOm :: []) :: zzI cy qmr 8 fX_74 :: zzO q_44 5 (xF_54 0 :: xF_54 1 :: xF_54 2 :: xF_54 3 :: xF_54 4 :: xF_54 5 :: xF_54 6 :: xF_54 7 :: xF_54 8 :: xF_54 9 :: .int (nI (T_nb tX_61)) :: .ref qmB_48 :: .int (nI (T_np tX_61)) :: .ref qmO_49 :: .ref qmK_50 :: .int iX_62 :: .int iTk :: .int (T_sd tX_61) :: xF_54 18 :: ov uN_68 :: xF_54 20 :: xF_54 21 :: xF_54 22 :: xF_54 23 :: xF_54 24 :: xF_54 25 :: xF_54 26 :: .int iY_63 :: .int iNw_69 :: xF_54 29 :: xF_54 30 :: xF_54 31 :: xF_54 32 :: xF_54 33 :: xF_54 34 :: []) :: zzG cy 3 qmB_48 rB_51 :: zzI cy (rB_51 0) 4 (bkR tX_61 0) :: zzI cy (rB_51 1) 4 (bkR tX_61 1) :: zzI cy (rB_51 2) 4 (bkR tX_61 2) :: zzI cy (rB_51 3) 4 (bkR tX_61 3) :: zzI cy (rB_51 4) 4 (bkR tX_61 4) :: zzI cy (rB_51 5) 4 (bkR tX_61 5) :: zzI cy (rB_51 6) 4 (bkR tX_61 6) :: zzI cy (rB_51 7) 4 (bkR tX_61 7) :: zzG cy 3 qmO_49 rO_52 :: zzI cy (rO_52 0) 5 (onR tX_61 0) :: zzI cy (rO_52 1) 5 (onR tX_61 1) :: zzI cy (rO_52 2) 5 (onR tX_61 2) :: zzI cy (rO_52 3) 5 (onR tX_61 3) :: zzI cy (rO_52 4) 5 (onR tX_61 4) :: zzI cy (rO_52 5) 5 (onR tX_61 5) :: zzI cy (rO_52 6) 5 (onR tX_61 6) :: zzI cy (rO_52 7) 5 (onR tX_61 7) :: zzG cy 3 qmK_50 rK_53 :: zzI cy (rK_53 0) 8 (T_kn tX_61 0) :: zzI cy (rK_53 1) 8 (T_kn tX_61 1) :: zzI cy (rK_53 2) 8 (T_kn tX_61 2) :: zzI cy (rK_53 3) 8 (T_kn tX_61 3) :: zzI cy (rK_53 4) 8 (T_kn tX_61 4) :: zzI cy (rK_53 5) 8 (T_kn tX_61 5) :: zzI cy (rK_53 6) 8 (T_kn tX_61 6) :: zzI cy (rK_53 7) 8 (T_kn tX_61 7) :: []) (0 :: 1 :: 2 :: 3 :: 4 :: 5 :: 6 :: 7 :: 8 :: 9 :: 10 :: 11 :: 12 :: 13 :: 14 :: 15 :: 16 :: 17 :: 18 :: 19 :: 20 :: 21 :: 22 :: 23 :: 24 :: 25 :: 26 :: 55 :: 56 :: 27 :: 28 :: 29 :: 30 :: 31 :: 32 :: 33 :: 34 :: 35 :: 36 :: 37 :: 38 :: 39 :: 40 :: 41 :: 42 :: 43 :: 44 :: 45 :: 46 :: 47 :: 48 :: 49 :: 50 :: 51 :: 52 :: 53 :: 54 :: []) hP hD (by decide +kernel) rfl
              clear hP hD
              obtain ⟨hP, hD⟩ := hPD
              have hPD := pd_as (([zzG cy 3 qmB rB, zzI cy (rB 0) 4 (bkR tA 0), zzI cy (rB 1) 4 (bkR tA 1), zzI cy (rB 2) 4 (bkR tA 2), zzI cy (rB 3) 4 (bkR tA 3), zzI cy (rB 4) 4 (bkR tA 4), zzI cy (rB 5) 4 (bkR tA 5), zzI cy (rB 6) 4 (bkR tA 6), zzI cy (rB 7) 4 (bkR tA 7), zzG cy 3 qmO rO, zzI cy (rO 0) 5 (onR tA 0), zzI cy (rO 1) 5 (onR tA 1), zzI cy (rO 2) 5 (onR tA 2), zzI cy (rO 3) 5 (onR tA 3), zzI cy (rO 4) 5 (onR tA 4), zzI cy (rO 5) 5 (onR tA 5), zzI cy (rO 6) 5 (onR tA 6), zzI cy (rO 7) 5 (onR tA 7), zzG cy 3 qmK rK, zzI cy (rK 0) 8 (T_kn tA 0), zzI cy (rK 1) 8 (T_kn tA 1), zzI cy (rK 2) 8 (T_kn tA 2), zzI cy (rK 3) 8 (T_kn tA 3), zzI cy (rK 4) 8 (T_kn tA 4), zzI cy (rK 5) 8 (T_kn tA 5), zzI cy (rK 6) 8 (T_kn tA 6), zzI cy (rK 7) 8 (T_kn tA 7), zzO qm 5 (.ref qmh :: .ref qmo :: .ref qmz :: .ref qmR :: .ref qmv :: .ref qmk :: .ref qma :: .ref qmt :: .int (nI kZ) :: .ref qmr :: .int (nI (T_nb tA)) :: .ref qmB :: .int (nI (T_np tA)) :: .ref qmO :: .ref qmK :: .int iEn :: .int iTk :: .int (T_sd tA) :: ov uP :: ov uN_26 :: .int (nI kAt) :: .int iTo :: .int iFr :: .long JFi :: .int iFa :: .ref qm3 :: .int iSt :: .int iLv :: .int iNw_27 :: .ref q_44 :: .ref qmu :: .ref qmy :: .ref qmb :: .ref qms :: .int iOm :: []), zzI cy qmr 8 fX_74] ++ mL cy q_44 qmB_48 qmO_49 qmK_50 rB_51 rO_52 rK_53 tX_61 xF_54 iX_62 iTk iY_63 iNw_69 uN_68) ++ (oM cy uN_68 ++ oM cy uN_26)) hP hD rfl
              clear hP hD
              obtain ⟨hP, hD⟩ := hPD
              replace hP := kl2P hP
              replace hD := kl2D hD
              refine W.widen (k := 200) (n := 3552) (Nat.le_of_ble_eq_true rfl) (Nat.le_of_ble_eq_true rfl) ?_
              exact endWt [[false, false, false, false, false, false, false, false, false, false, false, false, false, false, false, false, false, false, false, false, false, false, false, false, false, false, false, true, true], [true, true, true, true, true, true, true, true, true, true, true, true, true, true, true, true, true, true, true, true, true, true, true, true, true, true, true]] hx hb hr hlocks rfl hP hD rfl (by decide +kernel) hS ⟨(uN_26), (some ((q_44, qmB_48, qmO_49, qmK_50, rB_51, rO_52, rK_53, tX_61, xF_54, iX_62, iTk, iY_63, iNw_69), uN_68)), iNw_27, fX_74, rfl, trivial⟩ (g_172 bX6_keeping rfl)
          · rw [eL_43] at hP hD
            replace hP := kl1P hP
            replace hD := kl1D hD
            have hPD := pd_as (((_ :: zzO qm 5 (.ref qmh :: .ref qmo :: .ref qmz :: .ref qmR :: .ref qmv :: .ref qmk :: .ref qma :: .ref qmt :: .int (nI kZ) :: .ref qmr :: .int (nI (T_nb tA)) :: .ref qmB :: .int (nI (T_np tA)) :: .ref qmO :: .ref qmK :: .int iEn :: .int iTk :: .int (T_sd tA) :: ov uP :: ov uN_26 :: .int (nI kAt) :: .int iTo :: .int iFr :: .long JFi :: .int iFa :: .ref qm3 :: .int iSt :: .int iLv :: .int iNw_27 :: .ref qL_29 :: .ref qmu :: .ref qmy :: .ref qmb :: .ref qms :: .int iOm :: []) :: _ :: _ :: _ :: _ :: _ :: _ :: _ :: _ :: _ :: _ :: _ :: _ :: _ :: _ :: _ :: _ :: _ :: _ :: _ :: _ :: _ :: _ :: _ :: _ :: _ :: _ :: _ :: zzO qL_29 5 (xL_37 0 :: xL_37 1 :: xL_37 2 :: xL_37 3 :: xL_37 4 :: xL_37 5 :: xL_37 6 :: xL_37 7 :: xL_37 8 :: xL_37 9 :: .int (nI (T_nb tL_36)) :: .ref qLB_30 :: .int (nI (T_np tL_36)) :: .ref qLO_31 :: .ref qLK_32 :: .int iEnL_38 :: .int iTkL_39 :: .int (T_sd tL_36) :: xL_37 18 :: ov uW_42 :: xL_37 20 :: xL_37 21 :: xL_37 22 :: xL_37 23 :: xL_37 24 :: xL_37 25 :: xL_37 26 :: .int iLvL_40 :: .int iWsL_41 :: xL_37 29 :: xL_37 30 :: xL_37 31 :: xL_37 32 :: xL_37 33 :: xL_37 34 :: []) :: zzG cy 3 qLB_30 rLB_33 :: zzI cy (rLB_33 0) 4 (bkR tL_36 0) :: zzI cy (rLB_33 1) 4 (bkR tL_36 1) :: zzI cy (rLB_33 2) 4 (bkR tL_36 2) :: zzI cy (rLB_33 3) 4 (bkR tL_36 3) :: zzI cy (rLB_33 4) 4 (bkR tL_36 4) :: zzI cy (rLB_33 5) 4 (bkR tL_36 5) :: zzI cy (rLB_33 6) 4 (bkR tL_36 6) :: zzI cy (rLB_33 7) 4 (bkR tL_36 7) :: zzG cy 3 qLO_31 rLO_34 :: zzI cy (rLO_34 0) 5 (onR tL_36 0) :: zzI cy (rLO_34 1) 5 (onR tL_36 1) :: zzI cy (rLO_34 2) 5 (onR tL_36 2) :: zzI cy (rLO_34 3) 5 (onR tL_36 3) :: zzI cy (rLO_34 4) 5 (onR tL_36 4) :: zzI cy (rLO_34 5) 5 (onR tL_36 5) :: zzI cy (rLO_34 6) 5 (onR tL_36 6) :: zzI cy (rLO_34 7) 5 (onR tL_36 7) :: zzG cy 3 qLK_32 rLK_35 :: zzI cy (rLK_35 0) 8 (T_kn tL_36 0) :: zzI cy (rLK_35 1) 8 (T_kn tL_36 1) :: zzI cy (rLK_35 2) 8 (T_kn tL_36 2) :: zzI cy (rLK_35 3) 8 (T_kn tL_36 3) :: zzI cy (rLK_35 4) 8 (T_kn tL_36 4) :: zzI cy (rLK_35 5) 8 (T_kn tL_36 5) :: zzI cy (rLK_35 6) 8 (T_kn tL_36 6) :: zzI cy (rLK_35 7) 8 (T_kn tL_36 7) :: []) : va_W) ++ (oM cy uW_42 ++ oM cy uN_26)) hP hD rfl
            clear hP hD
            obtain ⟨hP, hD⟩ := hPD
            refine lv_setv (v := .ref qL_29) (by rw [eL_43]; rfl) ?_
            refine lv_ifnonnull (tgt := 81) hx hb dX6_keeping_67 (by decide +kernel) ?_
            refine lv_aload_n hx hb (g_42 bX6_keeping rfl) rfl (lv_at hl 0 rfl) ?_
            refine va_get (D := G) (ci := 5) (v := .ref qL_29) (C := RX6) (T := TX6) (N := 35) hx hb hts iX_X6 hown hK hP 1 rfl rfl 29 (by decide +kernel) (hts _ m_t879) (fun _ h9 => h9) rfl (g_180 (v := 320) bX6_keeping rfl) ?_
            refine lv_aload_n hx hb (g_42 bX6_keeping rfl) rfl (lv_at hl 0 rfl) ?_
            refine cVvQ (As := [.ref qm]) (rest := []) (b := qL_29) (q := (RX6, TX6, 35)) ⟨hx, hb, hml, hown, hts⟩ (c_X6_takeFrom l G cy (H).size qL_29 (xL_37 0) (xL_37 1) (xL_37 2) (xL_37 3) (xL_37 4) (xL_37 5) (xL_37 6) (xL_37 7) (xL_37 8) (xL_37 9) tL_36 qLB_30 qLO_31 qLK_32 iEnL_38 iTkL_39 (xL_37 18) (ov uW_42) (xL_37 20) (xL_37 21) (xL_37 22) (xL_37 23) (xL_37 24) (xL_37 25) (xL_37 26) iLvL_40 iWsL_41 (xL_37 29) (xL_37 30) (xL_37 31) (xL_37 32) (xL_37 33) (xL_37 34) rLB_33 rLO_34 rLK_35 qm (.ref qmh) (.ref qmo) (.ref qmz) (.ref qmR) (.ref qmv) (.ref qmk) (.ref qma) (.ref qmt) (.int (nI kZ)) (.ref qmr) tA qmB qmO qmK iEn iTk (ov uP) (ov uN_26) (.int (nI kAt)) (.int iTo) (.int iFr) (.long JFi) (.int iFa) (.ref qm3) (.int iSt) iLv iNw_27 (.ref qL_29) (.ref qmu) (.ref qmy) (.ref qmb) (.ref qms) (.int iOm) rB rO rK) L_X6_225 hN hP hD hS hA (trueIxs [(false :: false :: false :: false :: false :: false :: false :: false :: false :: false :: false :: false :: false :: false :: false :: false :: false :: false :: false :: false :: false :: false :: false :: false :: false :: false :: false :: false :: false :: true :: true :: true :: true :: true :: true :: true :: true :: true :: true :: true :: true :: true :: true :: true :: true :: true :: true :: true :: true :: true :: true :: true :: true :: true :: true :: true :: true :: []), [false, true, true, true, true, true, true, true, true, true, true, true, true, true, true, true, true, true, true, true, true, true, true, true, true, true, true, true, true]]) (true :: false :: false :: false :: false :: false :: false :: false :: false :: false :: false :: false :: false :: false :: false :: false :: false :: false :: false :: false :: false :: false :: false :: false :: false :: false :: false :: false :: false :: false :: false :: false :: false :: false :: false :: false :: false :: false :: false :: false :: false :: false :: false :: false :: false :: false :: false :: false :: false :: false :: false :: false :: false :: false :: false :: false :: false :: []) (sels_eq rfl rfl) (by decide +kernel) rfl 29 5 rfl rfl rfl ⟨Nat.le_of_ble_eq_true rfl, Nat.le_of_ble_eq_true rfl⟩ hl.1 (Nat.le_of_ble_eq_true rfl) (g_182 (v := 225) bX6_keeping rfl) ⟨Nat.le_of_ble_eq_true rfl, Nat.le_of_ble_eq_true rfl⟩ (fun u_77 H locs h_76 => ?_)
            clear hP hD hS
            intro hP hD hS
            have hPD := pd_eqQ (((_ :: zzO qL_29 5 (xL_37 0 :: xL_37 1 :: xL_37 2 :: xL_37 3 :: xL_37 4 :: xL_37 5 :: xL_37 6 :: xL_37 7 :: xL_37 8 :: xL_37 9 :: .int (nI (T_nb tA)) :: .ref qLB_30 :: .int (nI (T_np tA)) :: .ref qLO_31 :: .ref qLK_32 :: .int iEn :: .int iTk :: .int (T_sd tA) :: xL_37 18 :: ov uW_42 :: xL_37 20 :: xL_37 21 :: xL_37 22 :: xL_37 23 :: xL_37 24 :: xL_37 25 :: xL_37 26 :: .int iLvL_40 :: .int iWsL_41 :: xL_37 29 :: xL_37 30 :: xL_37 31 :: xL_37 32 :: xL_37 33 :: xL_37 34 :: []) :: _ :: zzI cy (rLB_33 0) 4 (bkR tA 0) :: zzI cy (rLB_33 1) 4 (bkR tA 1) :: zzI cy (rLB_33 2) 4 (bkR tA 2) :: zzI cy (rLB_33 3) 4 (bkR tA 3) :: zzI cy (rLB_33 4) 4 (bkR tA 4) :: zzI cy (rLB_33 5) 4 (bkR tA 5) :: zzI cy (rLB_33 6) 4 (bkR tA 6) :: zzI cy (rLB_33 7) 4 (bkR tA 7) :: _ :: zzI cy (rLO_34 0) 5 (onR tA 0) :: zzI cy (rLO_34 1) 5 (onR tA 1) :: zzI cy (rLO_34 2) 5 (onR tA 2) :: zzI cy (rLO_34 3) 5 (onR tA 3) :: zzI cy (rLO_34 4) 5 (onR tA 4) :: zzI cy (rLO_34 5) 5 (onR tA 5) :: zzI cy (rLO_34 6) 5 (onR tA 6) :: zzI cy (rLO_34 7) 5 (onR tA 7) :: _ :: zzI cy (rLK_35 0) 8 (T_kn tA 0) :: zzI cy (rLK_35 1) 8 (T_kn tA 1) :: zzI cy (rLK_35 2) 8 (T_kn tA 2) :: zzI cy (rLK_35 3) 8 (T_kn tA 3) :: zzI cy (rLK_35 4) 8 (T_kn tA 4) :: zzI cy (rLK_35 5) 8 (T_kn tA 5) :: zzI cy (rLK_35 6) 8 (T_kn tA 6) :: zzI cy (rLK_35 7) 8 (T_kn tA 7) :: _ :: _ :: _ :: _ :: _ :: _ :: _ :: _ :: _ :: _ :: _ :: _ :: _ :: _ :: _ :: _ :: _ :: _ :: _ :: _ :: _ :: _ :: _ :: _ :: _ :: _ :: _ :: _ :: []) : va_W) ++ (oM cy uW_42 ++ oM cy uN_26)) hP hD h_76 rfl
            clear hP hD h_76
            obtain ⟨hP, hD⟩ := hPD
            refine lv_aload_n hx hb (g_42 bX6_keeping rfl) rfl (lv_at hl 0 rfl) ?_
            refine va_get (D := G) (ci := 5) (v := .ref qL_29) (C := RX6) (T := TX6) (N := 35) hx hb hts iX_X6 hown hK hP 29 rfl rfl 29 (by decide +kernel) (hts _ m_t879) (fun _ h9 => h9) rfl (g_180 (v := 320) bX6_keeping rfl) ?_
            refine lv_iconst (v := (-1)) hx hb (g_2 bX6_keeping rfl) (by decide +kernel) ?_
            refine lv_iconst (v := 0) hx hb (g_3 bX6_keeping rfl) (by decide +kernel) ?_
            refine lv_iconst (v := 1) hx hb (g_4 bX6_keeping rfl) (by decide +kernel) ?_
            refine cViQ (As := [.int (-1), .int 0, .int 1]) (rest := []) (b := qL_29) (q := (RX6, TX6, 35)) ⟨hx, hb, hml, hown, hts⟩ (c_X6_goes01 l G cy (H).size qL_29 (xL_37 0) (xL_37 1) (xL_37 2) (xL_37 3) (xL_37 4) (xL_37 5) (xL_37 6) (xL_37 7) (xL_37 8) (xL_37 9) tA qLB_30 qLO_31 qLK_32 iEn iTk (xL_37 18) (ov uW_42) (xL_37 20) (xL_37 21) (xL_37 22) (xL_37 23) (xL_37 24) (xL_37 25) (xL_37 26) iLvL_40 iWsL_41 (xL_37 29) (xL_37 30) (xL_37 31) (xL_37 32) (xL_37 33) (xL_37 34) rLB_33 rLO_34 rLK_35 hB hPp hTI) L_X6_295 hN hP hD hS hA (trueIx 0 [false, true, true, true, true, true, true, true, true, true, true, true, true, true, true, true, true, true, true, true, true, true, true, true, true, true, true, true, true]) (true :: false :: false :: false :: false :: false :: false :: false :: false :: false :: false :: false :: false :: false :: false :: false :: false :: false :: false :: false :: false :: false :: false :: false :: false :: false :: false :: false :: false :: true :: true :: true :: true :: true :: true :: true :: true :: true :: true :: true :: true :: true :: true :: true :: true :: true :: true :: true :: true :: true :: true :: true :: true :: true :: true :: true :: true :: []) (sel_eq rfl rfl) (by decide +kernel) rfl 1 5 rfl rfl rfl ⟨Nat.le_of_ble_eq_true rfl, Nat.le_of_ble_eq_true rfl⟩ hl.1 (Nat.le_of_ble_eq_true rfl) (g_182 (v := 295) bX6_keeping rfl) ⟨Nat.le_of_ble_eq_true rfl, Nat.le_of_ble_eq_true rfl⟩ (fun r_78 u_80 H locs h_79 => ?_)
            clear hP hD hS
            intro hP hD hS
            obtain ⟨tX_81, iX_82, iY_83, hu9, h_84, h_79⟩ := h_79
            have hPD := pd_eqQ (((_ :: _ :: _ :: _ :: _ :: _ :: _ :: _ :: _ :: _ :: _ :: _ :: _ :: _ :: _ :: _ :: _ :: _ :: _ :: _ :: _ :: _ :: _ :: _ :: _ :: _ :: _ :: _ :: _ :: zzO qL_29 5 (xL_37 0 :: xL_37 1 :: xL_37 2 :: xL_37 3 :: xL_37 4 :: xL_37 5 :: xL_37 6 :: xL_37 7 :: xL_37 8 :: xL_37 9 :: .int (nI (T_nb tX_81)) :: .ref qLB_30 :: .int (nI (T_np tX_81)) :: .ref qLO_31 :: .ref qLK_32 :: .int iX_82 :: .int iTk :: .int (T_sd tX_81) :: xL_37 18 :: ov uW_42 :: xL_37 20 :: xL_37 21 :: xL_37 22 :: xL_37 23 :: xL_37 24 :: xL_37 25 :: xL_37 26 :: .int iY_83 :: .int iWsL_41 :: xL_37 29 :: xL_37 30 :: xL_37 31 :: xL_37 32 :: xL_37 33 :: xL_37 34 :: []) :: _ :: zzI cy (rLB_33 0) 4 (bkR tX_81 0) :: zzI cy (rLB_33 1) 4 (bkR tX_81 1) :: zzI cy (rLB_33 2) 4 (bkR tX_81 2) :: zzI cy (rLB_33 3) 4 (bkR tX_81 3) :: zzI cy (rLB_33 4) 4 (bkR tX_81 4) :: zzI cy (rLB_33 5) 4 (bkR tX_81 5) :: zzI cy (rLB_33 6) 4 (bkR tX_81 6) :: zzI cy (rLB_33 7) 4 (bkR tX_81 7) :: _ :: zzI cy (rLO_34 0) 5 (onR tX_81 0) :: zzI cy (rLO_34 1) 5 (onR tX_81 1) :: zzI cy (rLO_34 2) 5 (onR tX_81 2) :: zzI cy (rLO_34 3) 5 (onR tX_81 3) :: zzI cy (rLO_34 4) 5 (onR tX_81 4) :: zzI cy (rLO_34 5) 5 (onR tX_81 5) :: zzI cy (rLO_34 6) 5 (onR tX_81 6) :: zzI cy (rLO_34 7) 5 (onR tX_81 7) :: _ :: zzI cy (rLK_35 0) 8 (T_kn tX_81 0) :: zzI cy (rLK_35 1) 8 (T_kn tX_81 1) :: zzI cy (rLK_35 2) 8 (T_kn tX_81 2) :: zzI cy (rLK_35 3) 8 (T_kn tX_81 3) :: zzI cy (rLK_35 4) 8 (T_kn tX_81 4) :: zzI cy (rLK_35 5) 8 (T_kn tX_81 5) :: zzI cy (rLK_35 6) 8 (T_kn tX_81 6) :: zzI cy (rLK_35 7) 8 (T_kn tX_81 7) :: []) : va_W) ++ (oM cy uW_42 ++ oM cy uN_26)) hP hD hu9 rfl
            clear hP hD hu9
            obtain ⟨hP, hD⟩ := hPD
            refine lv_istore_n (lv' := [(3, .int r_78), (0, .ref qm), (1, .int (nI k_4)), (2, .int (nI k_10))]) hx hb (g_62 bX6_keeping rfl) rfl hl (by decide +kernel) rfl (fun ls => ?_)
            clear hl
            intro hl
            refine lv_aload_n hx hb (g_42 bX6_keeping rfl) rfl (lv_at hl 1 rfl) ?_
            refine va_get (D := G) (ci := 5) (v := .ref qL_29) (C := RX6) (T := TX6) (N := 35) hx hb hts iX_X6 hown hK hP 1 rfl rfl 29 (by decide +kernel) (hts _ m_t879) (fun _ h9 => h9) rfl (g_180 (v := 320) bX6_keeping rfl) ?_
            refine lv_iload_n hx hb (g_27 bX6_keeping rfl) rfl (lv_at hl 2 rfl) ?_
            refine lv_iload_n hx hb (g_28 bX6_keeping rfl) rfl (lv_at hl 3 rfl) ?_
            refine lv_iconst (v := 1) hx hb (g_4 bX6_keeping rfl) (by decide +kernel) ?_
            refine lv_isub hx hb (g_100 bX6_keeping rfl) ?_
            refine lv_seti (v := nI (k_10 - 1)) (nI_sub1 (by omega)) ?_
            replace hP := al_P hP
            replace hD := al_D hD
            refine cViPQ (As := [.int (nI k_4), .int (nI (k_10 - 1))]) (rest := []) (b := qL_29) (q := (RX6, TX6, 35)) ⟨hx, hb, hml, hown, hts⟩ (c_X6_findWho l G cy (H).size qL_29 (xL_37 0) (xL_37 1) (xL_37 2) (xL_37 3) (xL_37 4) (xL_37 5) (xL_37 6) (xL_37 7) (xL_37 8) (xL_37 9) tX_81 qLB_30 qLO_31 qLK_32 iX_82 iTk (xL_37 18) uW_42 (xL_37 20) (xL_37 21) (xL_37 22) (xL_37 23) (xL_37 24) (xL_37 25) (xL_37 26) iY_83 iWsL_41 (xL_37 29) (xL_37 30) (xL_37 31) (xL_37 32) (xL_37 33) (xL_37 34) rLB_33 rLO_34 rLK_35 k_4 (k_10 - 1) (by first | omega | (simp only [nb_sr, np_sr, nb_wr, np_wr, nb_rd, np_rd, nb_ch, np_ch, nb_zr, np_zr, nb_za, np_za, nb_ey, np_ey, nb_hf, np_hf, nb_dd, np_dd, nb_so, np_so, nb_skn, np_skn, nb_swh, np_swh, nb_sgn, np_sgn, nb_ssd, np_ssd, nb_sgo, np_sgo, nb_sag, np_sag]; omega)) (by first | omega | (simp only [nb_sr, np_sr, nb_wr, np_wr, nb_rd, np_rd, nb_ch, np_ch, nb_zr, np_zr, nb_za, np_za, nb_ey, np_ey, nb_hf, np_hf, nb_dd, np_dd, nb_so, np_so, nb_skn, np_skn, nb_swh, np_swh, nb_sgn, np_sgn, nb_ssd, np_ssd, nb_sgo, np_sgo, nb_sag, np_sag]; omega)) (by first | omega | (simp only [nb_sr, np_sr, nb_wr, np_wr, nb_rd, np_rd, nb_ch, np_ch, nb_zr, np_zr, nb_za, np_za, nb_ey, np_ey, nb_hf, np_hf, nb_dd, np_dd, nb_so, np_so, nb_skn, np_skn, nb_swh, np_swh, nb_sgn, np_sgn, nb_ssd, np_ssd, nb_sgo, np_sgo, nb_sag, np_sag]; omega)) (by first | omega | (simp only [nb_sr, np_sr, nb_wr, np_wr, nb_rd, np_rd, nb_ch, np_ch, nb_zr, np_zr, nb_za, np_za, nb_ey, np_ey, nb_hf, np_hf, nb_dd, np_dd, nb_so, np_so, nb_skn, np_skn, nb_swh, np_swh, nb_sgn, np_sgn, nb_ssd, np_ssd, nb_sgo, np_sgo, nb_sag, np_sag]; omega)) h_84.1) L_X6_315 hN hP hD hS hA (trueIx 0 (false :: false :: false :: false :: false :: false :: false :: false :: false :: false :: false :: false :: false :: false :: false :: false :: false :: false :: false :: false :: false :: false :: false :: false :: false :: false :: false :: false :: false :: true :: true :: true :: true :: true :: true :: true :: true :: true :: true :: true :: true :: true :: true :: true :: true :: true :: true :: true :: true :: true :: true :: true :: true :: true :: true :: true :: true :: [])) (true :: true :: true :: true :: true :: true :: true :: true :: true :: true :: true :: true :: true :: true :: true :: true :: true :: true :: true :: true :: true :: true :: true :: true :: true :: true :: true :: true :: true :: false :: false :: false :: false :: false :: false :: false :: false :: false :: false :: false :: false :: false :: false :: false :: false :: false :: false :: false :: false :: false :: false :: false :: false :: false :: false :: false :: false :: []) (sel_eq rfl rfl) (by decide +kernel) rfl 29 5 rfl rfl rfl ⟨Nat.le_of_ble_eq_true rfl, Nat.le_of_ble_eq_true rfl⟩ hl.1 (Nat.le_of_ble_eq_true rfl) (g_182 (v := 315) bX6_keeping rfl) ⟨Nat.le_of_ble_eq_true rfl, Nat.le_of_ble_eq_true rfl⟩ (fun r_85 u_87 H locs h_86 => ?_)
            clear hP hD hS
            intro hP hD hS
            obtain ⟨uN_88, iNw_89, rfl, h_86⟩ := h_86
            replace hP := as1P hP
            replace hD := as1D hD
            have hPD := pd_as (((_ :: _ :: _ :: _ :: _ :: _ :: _ :: _ :: _ :: _ :: _ :: _ :: _ :: _ :: _ :: _ :: _ :: _ :: _ :: _ :: _ :: _ :: _ :: _ :: _ :: _ :: _ :: _ :: _ :: zzO qL_29 5 (xL_37 0 :: xL_37 1 :: xL_37 2 :: xL_37 3 :: xL_37 4 :: xL_37 5 :: xL_37 6 :: xL_37 7 :: xL_37 8 :: xL_37 9 :: .int (nI (T_nb tX_81)) :: .ref qLB_30 :: .int (nI (T_np tX_81)) :: .ref qLO_31 :: .ref qLK_32 :: .int iX_82 :: .int iTk :: .int (T_sd tX_81) :: xL_37 18 :: ov uN_88 :: xL_37 20 :: xL_37 21 :: xL_37 22 :: xL_37 23 :: xL_37 24 :: xL_37 25 :: xL_37 26 :: .int iY_83 :: .int iNw_89 :: xL_37 29 :: xL_37 30 :: xL_37 31 :: xL_37 32 :: xL_37 33 :: xL_37 34 :: []) :: _ :: _ :: _ :: _ :: _ :: _ :: _ :: _ :: _ :: _ :: _ :: _ :: _ :: _ :: _ :: _ :: _ :: _ :: _ :: _ :: _ :: _ :: _ :: _ :: _ :: _ :: _ :: []) : va_W) ++ (oM cy uN_88 ++ oM cy uN_26)) hP hD rfl
            clear hP hD
            obtain ⟨hP, hD⟩ := hPD
            refine W.widen (k := 100) (n := 1776) (Nat.le_of_ble_eq_true rfl) (Nat.le_of_ble_eq_true rfl) ?_
            refine lv_iconst (v := (-1)) hx hb (g_2 bX6_keeping rfl) (by decide +kernel) ?_
            refine lv_icmp_ne (tgt := 126) hx hb dX6_keeping_112 (by decide +kernel) (fun c_90 => ?_) (fun c_90 => ?_)
            · refine lv_iload_n hx hb (g_29 bX6_keeping rfl) rfl (lv_at hl 0 rfl) ?_
              refine lv_aload_n hx hb (g_42 bX6_keeping rfl) rfl (lv_at hl 1 rfl) ?_
              refine va_get (D := G) (ci := 5) (v := .ref qL_29) (C := RX6) (T := TX6) (N := 35) hx hb hts iX_X6 hown hK hP 1 rfl rfl 29 (by decide +kernel) (hts _ m_t879) (fun _ h9 => h9) rfl (g_180 (v := 320) bX6_keeping rfl) ?_
              refine va_get (D := G) (ci := 5) (v := .int iNw_89) (C := RX6) (T := TX6) (N := 35) hx hb hts iX_X6 hown hK hP 29 rfl rfl 28 (by decide +kernel) (hts _ m_t878) (fun _ h9 => h9) rfl (g_180 (v := 312) bX6_keeping rfl) ?_
              refine lv_iadd hx hb (g_96 bX6_keeping rfl) ?_
              refine lv_aload_n hx hb (g_42 bX6_keeping rfl) rfl (lv_at hl 1 rfl) ?_
              refine va_get (D := G) (ci := 5) (v := .int iNw_27) (C := RX6) (T := TX6) (N := 35) hx hb hts iX_X6 hown hK hP 1 rfl rfl 28 (by decide +kernel) (hts _ m_t878) (fun _ h9 => h9) rfl (g_180 (v := 312) bX6_keeping rfl) ?_
              refine lv_isub hx hb (g_100 bX6_keeping rfl) ?_
              have hPD := pt_as (zzI cy qmr 8 fMr :: zzO qm 5 (.ref qmh :: .ref qmo :: .ref qmz :: .ref qmR :: .ref qmv :: .ref qmk :: .ref qma :: .ref qmt :: .int (nI kZ) :: .ref qmr :: .int (nI (T_nb tA)) :: .ref qmB :: .int (nI (T_np tA)) :: .ref qmO :: .ref qmK :: .int iEn :: .int iTk :: .int (T_sd tA) :: ov uP :: ov uN_26 :: .int (nI kAt) :: .int iTo :: .int iFr :: .long JFi :: .int iFa :: .ref qm3 :: .int iSt :: .int iLv :: .int iNw_27 :: .ref qL_29 :: .ref qmu :: .ref qmy :: .ref qmb :: .ref qms :: .int iOm :: []) :: zzG cy 3 qmB rB :: zzI cy (rB 0) 4 (bkR tA 0) :: zzI cy (rB 1) 4 (bkR tA 1) :: zzI cy (rB 2) 4 (bkR tA 2) :: zzI cy (rB 3) 4 (bkR tA 3) :: zzI cy (rB 4) 4 (bkR tA 4) :: zzI cy (rB 5) 4 (bkR tA 5) :: zzI cy (rB 6) 4 (bkR tA 6) :: zzI cy (rB 7) 4 (bkR tA 7) :: zzG cy 3 qmO rO :: zzI cy (rO 0) 5 (onR tA 0) :: zzI cy (rO 1) 5 (onR tA 1) :: zzI cy (rO 2) 5 (onR tA 2) :: zzI cy (rO 3) 5 (onR tA 3) :: zzI cy (rO 4) 5 (onR tA 4) :: zzI cy (rO 5) 5 (onR tA 5) :: zzI cy (rO 6) 5 (onR tA 6) :: zzI cy (rO 7) 5 (onR tA 7) :: zzG cy 3 qmK rK :: zzI cy (rK 0) 8 (T_kn tA 0) :: zzI cy (rK 1) 8 (T_kn tA 1) :: zzI cy (rK 2) 8 (T_kn tA 2) :: zzI cy (rK 3) 8 (T_kn tA 3) :: zzI cy (rK 4) 8 (T_kn tA 4) :: zzI cy (rK 5) 8 (T_kn tA 5) :: zzI cy (rK 6) 8 (T_kn tA 6) :: zzI cy (rK 7) 8 (T_kn tA 7) :: zzO qL_29 5 (xL_37 0 :: xL_37 1 :: xL_37 2 :: xL_37 3 :: xL_37 4 :: xL_37 5 :: xL_37 6 :: xL_37 7 :: xL_37 8 :: xL_37 9 :: .int (nI (T_nb tX_81)) :: .ref qLB_30 :: .int (nI (T_np tX_81)) :: .ref qLO_31 :: .ref qLK_32 :: .int iX_82 :: .int iTk :: .int (T_sd tX_81) :: xL_37 18 :: ov uN_88 :: xL_37 20 :: xL_37 21 :: xL_37 22 :: xL_37 23 :: xL_37 24 :: xL_37 25 :: xL_37 26 :: .int iY_83 :: .int iNw_89 :: xL_37 29 :: xL_37 30 :: xL_37 31 :: xL_37 32 :: xL_37 33 :: xL_37 34 :: []) :: zzG cy 3 qLB_30 rLB_33 :: zzI cy (rLB_33 0) 4 (bkR tX_81 0) :: zzI cy (rLB_33 1) 4 (bkR tX_81 1) :: zzI cy (rLB_33 2) 4 (bkR tX_81 2) :: zzI cy (rLB_33 3) 4 (bkR tX_81 3) :: zzI cy (rLB_33 4) 4 (bkR tX_81 4) :: zzI cy (rLB_33 5) 4 (bkR tX_81 5) :: zzI cy (rLB_33 6) 4 (bkR tX_81 6) :: zzI cy (rLB_33 7) 4 (bkR tX_81 7) :: zzG cy 3 qLO_31 rLO_34 :: zzI cy (rLO_34 0) 5 (onR tX_81 0) :: zzI cy (rLO_34 1) 5 (onR tX_81 1) :: zzI cy (rLO_34 2) 5 (onR tX_81 2) :: zzI cy (rLO_34 3) 5 (onR tX_81 3) :: zzI cy (rLO_34 4) 5 (onR tX_81 4) :: zzI cy (rLO_34 5) 5 (onR tX_81 5) :: zzI cy (rLO_34 6) 5 (onR tX_81 6) :: zzI cy (rLO_34 7) 5 (onR tX_81 7) :: zzG cy 3 qLK_32 rLK_35 :: zzI cy (rLK_35 0) 8 (T_kn tX_81 0) :: zzI cy (rLK_35 1) 8 (T_kn tX_81 1) :: zzI cy (rLK_35 2) 8 (T_kn tX_81 2) :: zzI cy (rLK_35 3) 8 (T_kn tX_81 3) :: zzI cy (rLK_35 4) 8 (T_kn tX_81 4) :: zzI cy (rLK_35 5) 8 (T_kn tX_81 5) :: zzI cy (rLK_35 6) 8 (T_kn tX_81 6) :: zzI cy (rLK_35 7) 8 (T_kn tX_81 7) :: []) (0 :: 1 :: 2 :: 3 :: 4 :: 5 :: 6 :: 7 :: 8 :: 9 :: 10 :: 11 :: 12 :: 13 :: 14 :: 15 :: 16 :: 17 :: 18 :: 19 :: 20 :: 21 :: 22 :: 23 :: 24 :: 25 :: 26 :: 27 :: 28 :: 29 :: 30 :: 31 :: 32 :: 33 :: 34 :: 35 :: 36 :: 37 :: 38 :: 39 :: 40 :: 41 :: 42 :: 43 :: 44 :: 45 :: 46 :: 47 :: 48 :: 49 :: 50 :: 51 :: 52 :: 53 :: 54 :: 55 :: 56 :: []) hP hD (by decide +kernel) rfl
              clear hP hD
              obtain ⟨hP, hD⟩ := hPD
              have hPD := pd_as (([zzI cy qmr 8 fMr, zzO qm 5 (.ref qmh :: .ref qmo :: .ref qmz :: .ref qmR :: .ref qmv :: .ref qmk :: .ref qma :: .ref qmt :: .int (nI kZ) :: .ref qmr :: .int (nI (T_nb tA)) :: .ref qmB :: .int (nI (T_np tA)) :: .ref qmO :: .ref qmK :: .int iEn :: .int iTk :: .int (T_sd tA) :: ov uP :: ov uN_26 :: .int (nI kAt) :: .int iTo :: .int iFr :: .long JFi :: .int iFa :: .ref qm3 :: .int iSt :: .int iLv :: .int iNw_27 :: .ref qL_29 :: .ref qmu :: .ref qmy :: .ref qmb :: .ref qms :: .int iOm :: []), zzG cy 3 qmB rB, zzI cy (rB 0) 4 (bkR tA 0), zzI cy (rB 1) 4 (bkR tA 1), zzI cy (rB 2) 4 (bkR tA 2), zzI cy (rB 3) 4 (bkR tA 3), zzI cy (rB 4) 4 (bkR tA 4), zzI cy (rB 5) 4 (bkR tA 5), zzI cy (rB 6) 4 (bkR tA 6), zzI cy (rB 7) 4 (bkR tA 7), zzG cy 3 qmO rO, zzI cy (rO 0) 5 (onR tA 0), zzI cy (rO 1) 5 (onR tA 1), zzI cy (rO 2) 5 (onR tA 2), zzI cy (rO 3) 5 (onR tA 3), zzI cy (rO 4) 5 (onR tA 4), zzI cy (rO 5) 5 (onR tA 5), zzI cy (rO 6) 5 (onR tA 6), zzI cy (rO 7) 5 (onR tA 7), zzG cy 3 qmK rK, zzI cy (rK 0) 8 (T_kn tA 0), zzI cy (rK 1) 8 (T_kn tA 1), zzI cy (rK 2) 8 (T_kn tA 2), zzI cy (rK 3) 8 (T_kn tA 3), zzI cy (rK 4) 8 (T_kn tA 4), zzI cy (rK 5) 8 (T_kn tA 5), zzI cy (rK 6) 8 (T_kn tA 6), zzI cy (rK 7) 8 (T_kn tA 7)] ++ mL cy qL_29 qLB_30 qLO_31 qLK_32 rLB_33 rLO_34 rLK_35 tX_81 xL_37 iX_82 iTk iY_83 iNw_89 uN_88) ++ (oM cy uN_88 ++ oM cy uN_26)) hP hD rfl
              clear hP hD
              obtain ⟨hP, hD⟩ := hPD
              replace hP := kl2P hP
              replace hD := kl2D hD
              refine W.widen (k := 200) (n := 3552) (Nat.le_of_ble_eq_true rfl) (Nat.le_of_ble_eq_true rfl) ?_
              exact endWt [[false, true], [true, false, true, true, true, true, true, true, true, true, true, true, true, true, true, true, true, true, true, true, true, true, true, true, true, true, true, true, true]] hx hb hr hlocks rfl hP hD rfl (by decide +kernel) hS ⟨(uN_26), (some ((qL_29, qLB_30, qLO_31, qLK_32, rLB_33, rLO_34, rLK_35, tX_81, xL_37, iX_82, iTk, iY_83, iNw_89), uN_88)), iNw_27, fMr, rfl, trivial⟩ (g_172 bX6_keeping rfl)
            · refine lv_aload_n hx hb (g_42 bX6_keeping rfl) rfl (lv_at hl 1 rfl) ?_
              refine lv_bipush (v := (-5)) hx hb dX6_keeping_116 (by decide +kernel) ?_
              refine cViQ (As := [.int (-5)]) (rest := []) (b := qm) (q := (RX6, TX6, 35)) ⟨hx, hb, hml, hown, hts⟩ (c_X6_refuse5 l G cy (H).size qm (.ref qmh) (.ref qmo) (.ref qmz) (.ref qmR) (.ref qmv) (.ref qmk) (.ref qma) (.ref qmt) (.int (nI kZ)) qmr tA qmB qmO qmK iEn iTk (ov uP) (ov uN_26) (.int (nI kAt)) (.int iTo) (.int iFr) (.long JFi) (.int iFa) (.ref qm3) (.int iSt) iLv iNw_27 (.ref qL_29) (.ref qmu) (.ref qmy) (.ref qmb) (.ref qms) (.int iOm) fMr) L_X6_91 hN hP hD hS hA [1, 0] (false :: false :: true :: true :: true :: true :: true :: true :: true :: true :: true :: true :: true :: true :: true :: true :: true :: true :: true :: true :: true :: true :: true :: true :: true :: true :: true :: true :: true :: true :: true :: true :: true :: true :: true :: true :: true :: true :: true :: true :: true :: true :: true :: true :: true :: true :: true :: true :: true :: true :: true :: true :: true :: true :: true :: true :: true :: []) rfl (by decide +kernel) rfl 1 5 rfl rfl rfl ⟨Nat.le_of_ble_eq_true rfl, Nat.le_of_ble_eq_true rfl⟩ hl.1 (Nat.le_of_ble_eq_true rfl) (g_182 (v := 91) bX6_keeping rfl) ⟨Nat.le_of_ble_eq_true rfl, Nat.le_of_ble_eq_true rfl⟩ (fun r_91 u_93 H locs h_92 => ?_)
              clear hP hD hS
              intro hP hD hS
              obtain ⟨fX_94, hu9, h_92⟩ := h_92
              have hPD := pd_eqQ (((_ :: _ :: _ :: _ :: _ :: _ :: _ :: _ :: _ :: _ :: _ :: _ :: _ :: _ :: _ :: _ :: _ :: _ :: _ :: _ :: _ :: _ :: _ :: _ :: _ :: _ :: _ :: _ :: _ :: _ :: _ :: _ :: _ :: _ :: _ :: _ :: _ :: _ :: _ :: _ :: _ :: _ :: _ :: _ :: _ :: _ :: _ :: _ :: _ :: _ :: _ :: _ :: _ :: _ :: _ :: _ :: zzI cy qmr 8 fX_94 :: []) : va_W) ++ (oM cy uN_88 ++ oM cy uN_26)) hP hD hu9 rfl
              clear hP hD hu9
              obtain ⟨hP, hD⟩ := hPD
              subst h_92
              refine lv_ldcw hx hb hown (hts _ m_t1290) (g_19 (v := 311) bX6_keeping rfl) ?_
              refine lv_isub hx hb (g_100 bX6_keeping rfl) ?_
              refine lv_seti (v := (-1000005)) (by decide +kernel) ?_
              have hPD := pt_as (zzG cy 3 qmB rB :: zzI cy (rB 0) 4 (bkR tA 0) :: zzI cy (rB 1) 4 (bkR tA 1) :: zzI cy (rB 2) 4 (bkR tA 2) :: zzI cy (rB 3) 4 (bkR tA 3) :: zzI cy (rB 4) 4 (bkR tA 4) :: zzI cy (rB 5) 4 (bkR tA 5) :: zzI cy (rB 6) 4 (bkR tA 6) :: zzI cy (rB 7) 4 (bkR tA 7) :: zzG cy 3 qmO rO :: zzI cy (rO 0) 5 (onR tA 0) :: zzI cy (rO 1) 5 (onR tA 1) :: zzI cy (rO 2) 5 (onR tA 2) :: zzI cy (rO 3) 5 (onR tA 3) :: zzI cy (rO 4) 5 (onR tA 4) :: zzI cy (rO 5) 5 (onR tA 5) :: zzI cy (rO 6) 5 (onR tA 6) :: zzI cy (rO 7) 5 (onR tA 7) :: zzG cy 3 qmK rK :: zzI cy (rK 0) 8 (T_kn tA 0) :: zzI cy (rK 1) 8 (T_kn tA 1) :: zzI cy (rK 2) 8 (T_kn tA 2) :: zzI cy (rK 3) 8 (T_kn tA 3) :: zzI cy (rK 4) 8 (T_kn tA 4) :: zzI cy (rK 5) 8 (T_kn tA 5) :: zzI cy (rK 6) 8 (T_kn tA 6) :: zzI cy (rK 7) 8 (T_kn tA 7) :: zzO qm 5 (.ref qmh :: .ref qmo :: .ref qmz :: .ref qmR :: .ref qmv :: .ref qmk :: .ref qma :: .ref qmt :: .int (nI kZ) :: .ref qmr :: .int (nI (T_nb tA)) :: .ref qmB :: .int (nI (T_np tA)) :: .ref qmO :: .ref qmK :: .int iEn :: .int iTk :: .int (T_sd tA) :: ov uP :: ov uN_26 :: .int (nI kAt) :: .int iTo :: .int iFr :: .long JFi :: .int iFa :: .ref qm3 :: .int iSt :: .int iLv :: .int iNw_27 :: .ref qL_29 :: .ref qmu :: .ref qmy :: .ref qmb :: .ref qms :: .int iOm :: []) :: zzI cy qmr 8 fX_94 :: zzO qL_29 5 (xL_37 0 :: xL_37 1 :: xL_37 2 :: xL_37 3 :: xL_37 4 :: xL_37 5 :: xL_37 6 :: xL_37 7 :: xL_37 8 :: xL_37 9 :: .int (nI (T_nb tX_81)) :: .ref qLB_30 :: .int (nI (T_np tX_81)) :: .ref qLO_31 :: .ref qLK_32 :: .int iX_82 :: .int iTk :: .int (T_sd tX_81) :: xL_37 18 :: ov uN_88 :: xL_37 20 :: xL_37 21 :: xL_37 22 :: xL_37 23 :: xL_37 24 :: xL_37 25 :: xL_37 26 :: .int iY_83 :: .int iNw_89 :: xL_37 29 :: xL_37 30 :: xL_37 31 :: xL_37 32 :: xL_37 33 :: xL_37 34 :: []) :: zzG cy 3 qLB_30 rLB_33 :: zzI cy (rLB_33 0) 4 (bkR tX_81 0) :: zzI cy (rLB_33 1) 4 (bkR tX_81 1) :: zzI cy (rLB_33 2) 4 (bkR tX_81 2) :: zzI cy (rLB_33 3) 4 (bkR tX_81 3) :: zzI cy (rLB_33 4) 4 (bkR tX_81 4) :: zzI cy (rLB_33 5) 4 (bkR tX_81 5) :: zzI cy (rLB_33 6) 4 (bkR tX_81 6) :: zzI cy (rLB_33 7) 4 (bkR tX_81 7) :: zzG cy 3 qLO_31 rLO_34 :: zzI cy (rLO_34 0) 5 (onR tX_81 0) :: zzI cy (rLO_34 1) 5 (onR tX_81 1) :: zzI cy (rLO_34 2) 5 (onR tX_81 2) :: zzI cy (rLO_34 3) 5 (onR tX_81 3) :: zzI cy (rLO_34 4) 5 (onR tX_81 4) :: zzI cy (rLO_34 5) 5 (onR tX_81 5) :: zzI cy (rLO_34 6) 5 (onR tX_81 6) :: zzI cy (rLO_34 7) 5 (onR tX_81 7) :: zzG cy 3 qLK_32 rLK_35 :: zzI cy (rLK_35 0) 8 (T_kn tX_81 0) :: zzI cy (rLK_35 1) 8 (T_kn tX_81 1) :: zzI cy (rLK_35 2) 8 (T_kn tX_81 2) :: zzI cy (rLK_35 3) 8 (T_kn tX_81 3) :: zzI cy (rLK_35 4) 8 (T_kn tX_81 4) :: zzI cy (rLK_35 5) 8 (T_kn tX_81 5) :: zzI cy (rLK_35 6) 8 (T_kn tX_81 6) :: zzI cy (rLK_35 7) 8 (T_kn tX_81 7) :: []) (0 :: 1 :: 2 :: 3 :: 4 :: 5 :: 6 :: 7 :: 8 :: 9 :: 10 :: 11 :: 12 :: 13 :: 14 :: 15 :: 16 :: 17 :: 18 :: 19 :: 20 :: 21 :: 22 :: 23 :: 24 :: 25 :: 26 :: 55 :: 56 :: 27 :: 28 :: 29 :: 30 :: 31 :: 32 :: 33 :: 34 :: 35 :: 36 :: 37 :: 38 :: 39 :: 40 :: 41 :: 42 :: 43 :: 44 :: 45 :: 46 :: 47 :: 48 :: 49 :: 50 :: 51 :: 52 :: 53 :: 54 :: []) hP hD (by decide +kernel) rfl
              clear hP hD
              obtain ⟨hP, hD⟩ := hPD
              have hPD := pd_as (([zzG cy 3 qmB rB, zzI cy (rB 0) 4 (bkR tA 0), zzI cy (rB 1) 4 (bkR tA 1), zzI cy (rB 2) 4 (bkR tA 2), zzI cy (rB 3) 4 (bkR tA 3), zzI cy (rB 4) 4 (bkR tA 4), zzI cy (rB 5) 4 (bkR tA 5), zzI cy (rB 6) 4 (bkR tA 6), zzI cy (rB 7) 4 (bkR tA 7), zzG cy 3 qmO rO, zzI cy (rO 0) 5 (onR tA 0), zzI cy (rO 1) 5 (onR tA 1), zzI cy (rO 2) 5 (onR tA 2), zzI cy (rO 3) 5 (onR tA 3), zzI cy (rO 4) 5 (onR tA 4), zzI cy (rO 5) 5 (onR tA 5), zzI cy (rO 6) 5 (onR tA 6), zzI cy (rO 7) 5 (onR tA 7), zzG cy 3 qmK rK, zzI cy (rK 0) 8 (T_kn tA 0), zzI cy (rK 1) 8 (T_kn tA 1), zzI cy (rK 2) 8 (T_kn tA 2), zzI cy (rK 3) 8 (T_kn tA 3), zzI cy (rK 4) 8 (T_kn tA 4), zzI cy (rK 5) 8 (T_kn tA 5), zzI cy (rK 6) 8 (T_kn tA 6), zzI cy (rK 7) 8 (T_kn tA 7), zzO qm 5 (.ref qmh :: .ref qmo :: .ref qmz :: .ref qmR :: .ref qmv :: .ref qmk :: .ref qma :: .ref qmt :: .int (nI kZ) :: .ref qmr :: .int (nI (T_nb tA)) :: .ref qmB :: .int (nI (T_np tA)) :: .ref qmO :: .ref qmK :: .int iEn :: .int iTk :: .int (T_sd tA) :: ov uP :: ov uN_26 :: .int (nI kAt) :: .int iTo :: .int iFr :: .long JFi :: .int iFa :: .ref qm3 :: .int iSt :: .int iLv :: .int iNw_27 :: .ref qL_29 :: .ref qmu :: .ref qmy :: .ref qmb :: .ref qms :: .int iOm :: []), zzI cy qmr 8 fX_94] ++ mL cy qL_29 qLB_30 qLO_31 qLK_32 rLB_33 rLO_34 rLK_35 tX_81 xL_37 iX_82 iTk iY_83 iNw_89 uN_88) ++ (oM cy uN_88 ++ oM cy uN_26)) hP hD rfl
              clear hP hD
              obtain ⟨hP, hD⟩ := hPD
              replace hP := kl2P hP
              replace hD := kl2D hD
              refine W.widen (k := 200) (n := 3552) (Nat.le_of_ble_eq_true rfl) (Nat.le_of_ble_eq_true rfl) ?_
              exact endWt [[false, false, false, false, false, false, false, false, false, false, false, false, false, false, false, false, false, false, false, false, false, false, false, false, false, false, false, true, true], [true, true, true, true, true, true, true, true, true, true, true, true, true, true, true, true, true, true, true, true, true, true, true, true, true, true, true]] hx hb hr hlocks rfl hP hD rfl (by decide +kernel) hS ⟨(uN_26), (some ((qL_29, qLB_30, qLO_31, qLK_32, rLB_33, rLO_34, rLK_35, tX_81, xL_37, iX_82, iTk, iY_83, iNw_89), uN_88)), iNw_27, fX_94, rfl, trivial⟩ (g_172 bX6_keeping rfl)
        · refine lv_aload_n hx hb (g_42 bX6_keeping rfl) rfl (lv_at hl 0 rfl) ?_
          refine lv_bipush (v := (-5)) hx hb dX6_keeping_53 (by decide +kernel) ?_
          refine cViQ (As := [.int (-5)]) (rest := []) (b := qm) (q := (RX6, TX6, 35)) ⟨hx, hb, hml, hown, hts⟩ (c_X6_refuse5 l G cy (H).size qm (.ref qmh) (.ref qmo) (.ref qmz) (.ref qmR) (.ref qmv) (.ref qmk) (.ref qma) (.ref qmt) (.int (nI kZ)) qmr tA qmB qmO qmK iEn iTk (ov uP) (ov uN_26) (.int (nI kAt)) (.int iTo) (.int iFr) (.long JFi) (.int iFa) (.ref qm3) (.int iSt) iLv iNw_27 (ovL wL) (.ref qmu) (.ref qmy) (.ref qmb) (.ref qms) (.int iOm) fMr) L_X6_91 hN hP hD hS hA [1, 0] [false, false, true, true, true, true, true, true, true, true, true, true, true, true, true, true, true, true, true, true, true, true, true, true, true, true, true, true, true] rfl (by decide +kernel) rfl 1 5 rfl rfl rfl ⟨Nat.le_of_ble_eq_true rfl, Nat.le_of_ble_eq_true rfl⟩ hl.1 (Nat.le_of_ble_eq_true rfl) (g_182 (v := 91) bX6_keeping rfl) ⟨Nat.le_of_ble_eq_true rfl, Nat.le_of_ble_eq_true rfl⟩ (fun r_95 u_97 H locs h_96 => ?_)
          clear hP hD hS
          intro hP hD hS
          obtain ⟨fX_98, hu9, h_96⟩ := h_96
          have hPD := pd_eqQ (([_, _, _, _, _, _, _, _, _, _, _, _, _, _, _, _, _, _, _, _, _, _, _, _, _, _, _, _, zzI cy qmr 8 fX_98] : va_W) ++ (oM cy uN_26 ++ oL cy wL)) hP hD hu9 rfl
          clear hP hD hu9
          obtain ⟨hP, hD⟩ := hPD
          subst h_96
          refine lv_ldcw hx hb hown (hts _ m_t1290) (g_19 (v := 311) bX6_keeping rfl) ?_
          refine lv_isub hx hb (g_100 bX6_keeping rfl) ?_
          refine lv_seti (v := (-1000005)) (by decide +kernel) ?_
          refine W.widen (k := 200) (n := 3552) (Nat.le_of_ble_eq_true rfl) (Nat.le_of_ble_eq_true rfl) ?_
          exact endWt [[false, false, false, false, false, false, false, false, false, false, false, false, false, false, false, false, false, false, false, false, false, false, false, false, false, false, false, true, true], [true, true, true, true, true, true, true, true, true, true, true, true, true, true, true, true, true, true, true, true, true, true, true, true, true, true, true]] hx hb hr hlocks rfl hP hD rfl (by decide +kernel) hS ⟨(uN_26), (wL), iNw_27, fX_98, rfl, trivial⟩ (g_172 bX6_keeping rfl)
    · refine lv_if_ne (tgt := 34) hx hb dX6_keeping_20 (by decide +kernel) (fun h9 => absurd (by decide +kernel) h9) (fun _ => ?_)
      refine lv_aload_n hx hb (g_42 bX6_keeping rfl) rfl (lv_at hl 0 rfl) ?_
      refine lv_bipush (v := (-2)) hx hb dX6_keeping_24 (by decide +kernel) ?_
      refine cViQ (As := [.int (-2)]) (rest := []) (b := qm) (q := (RX6, TX6, 35)) ⟨hx, hb, hml, hown, hts⟩ (c_X6_refuse2 l G cy (s.heap).size qm (.ref qmh) (.ref qmo) (.ref qmz) (.ref qmR) (.ref qmv) (.ref qmk) (.ref qma) (.ref qmt) (.int (nI kZ)) qmr tA qmB qmO qmK iEn iTk (ov uP) (ov uU) (.int (nI kAt)) (.int iTo) (.int iFr) (.long JFi) (.int iFa) (.ref qm3) (.int iSt) iLv iWs (ovL wL) (.ref qmu) (.ref qmy) (.ref qmb) (.ref qms) (.int iOm) fMr) L_X6_91 hN hP hD hS hA [0, 1] [false, false, true, true, true, true, true, true, true, true, true, true, true, true, true, true, true, true, true, true, true, true, true, true, true, true, true, true, true] rfl (by decide +kernel) rfl 0 5 rfl rfl rfl ⟨Nat.le_of_ble_eq_true rfl, Nat.le_of_ble_eq_true rfl⟩ hl.1 (Nat.le_of_ble_eq_true rfl) (g_182 (v := 91) bX6_keeping rfl) ⟨Nat.le_of_ble_eq_true rfl, Nat.le_of_ble_eq_true rfl⟩ (fun r_100 u_102 H locs h_101 => ?_)
      clear hP hD hS
      intro hP hD hS
      obtain ⟨fX_103, hu9, h_101⟩ := h_101
      have hPD := pd_eqQ (([_, _, _, _, _, _, _, _, _, _, _, _, _, _, _, _, _, _, _, _, _, _, _, _, _, _, _, _, zzI cy qmr 8 fX_103] : va_W) ++ (oM cy uU ++ oL cy wL)) hP hD hu9 rfl
      clear hP hD hu9
      obtain ⟨hP, hD⟩ := hPD
      subst h_101
      refine lv_ldcw hx hb hown (hts _ m_t1290) (g_19 (v := 311) bX6_keeping rfl) ?_
      refine lv_isub hx hb (g_100 bX6_keeping rfl) ?_
      refine lv_seti (v := (-1000002)) (by decide +kernel) ?_
      refine W.widen (k := 200) (n := 3552) (Nat.le_of_ble_eq_true rfl) (Nat.le_of_ble_eq_true rfl) ?_
      exact endWt [[false, false, false, false, false, false, false, false, false, false, false, false, false, false, false, false, false, false, false, false, false, false, false, false, false, false, false, true, true], [true, true, true, true, true, true, true, true, true, true, true, true, true, true, true, true, true, true, true, true, true, true, true, true, true, true, true]] hx hb hr hlocks rfl hP hD rfl (by decide +kernel) hS ⟨(uU), (wL), iWs, fX_103, rfl, trivial⟩ (g_172 bX6_keeping rfl)
  · refine lv_if_eq (tgt := 23) hx hb dX6_keeping_6 (by decide +kernel) (fun _ => ?_) (fun h9 => absurd (by decide +kernel) h9)
    refine lv_aload_n hx hb (g_42 bX6_keeping rfl) rfl (lv_at hl 0 rfl) ?_
    refine lv_bipush (v := (-2)) hx hb dX6_keeping_24 (by decide +kernel) ?_
    refine cViQ (As := [.int (-2)]) (rest := []) (b := qm) (q := (RX6, TX6, 35)) ⟨hx, hb, hml, hown, hts⟩ (c_X6_refuse2 l G cy (s.heap).size qm (.ref qmh) (.ref qmo) (.ref qmz) (.ref qmR) (.ref qmv) (.ref qmk) (.ref qma) (.ref qmt) (.int (nI kZ)) qmr tA qmB qmO qmK iEn iTk (ov uP) (ov uU) (.int (nI kAt)) (.int iTo) (.int iFr) (.long JFi) (.int iFa) (.ref qm3) (.int iSt) iLv iWs (ovL wL) (.ref qmu) (.ref qmy) (.ref qmb) (.ref qms) (.int iOm) fMr) L_X6_91 hN hP hD hS hA [0, 1] [false, false, true, true, true, true, true, true, true, true, true, true, true, true, true, true, true, true, true, true, true, true, true, true, true, true, true, true, true] rfl (by decide +kernel) rfl 0 5 rfl rfl rfl ⟨Nat.le_of_ble_eq_true rfl, Nat.le_of_ble_eq_true rfl⟩ hl.1 (Nat.le_of_ble_eq_true rfl) (g_182 (v := 91) bX6_keeping rfl) ⟨Nat.le_of_ble_eq_true rfl, Nat.le_of_ble_eq_true rfl⟩ (fun r_105 u_107 H locs h_106 => ?_)
    clear hP hD hS
    intro hP hD hS
    obtain ⟨fX_108, hu9, h_106⟩ := h_106
    have hPD := pd_eqQ (([_, _, _, _, _, _, _, _, _, _, _, _, _, _, _, _, _, _, _, _, _, _, _, _, _, _, _, _, zzI cy qmr 8 fX_108] : va_W) ++ (oM cy uU ++ oL cy wL)) hP hD hu9 rfl
    clear hP hD hu9
    obtain ⟨hP, hD⟩ := hPD
    subst h_106
    refine lv_ldcw hx hb hown (hts _ m_t1290) (g_19 (v := 311) bX6_keeping rfl) ?_
    refine lv_isub hx hb (g_100 bX6_keeping rfl) ?_
    refine lv_seti (v := (-1000002)) (by decide +kernel) ?_
    refine W.widen (k := 200) (n := 3552) (Nat.le_of_ble_eq_true rfl) (Nat.le_of_ble_eq_true rfl) ?_
    exact endWt [[false, false, false, false, false, false, false, false, false, false, false, false, false, false, false, false, false, false, false, false, false, false, false, false, false, false, false, true, true], [true, true, true, true, true, true, true, true, true, true, true, true, true, true, true, true, true, true, true, true, true, true, true, true, true, true, true]] hx hb hr hlocks rfl hP hD rfl (by decide +kernel) hS ⟨(uU), (wL), iWs, fX_108, rfl, trivial⟩ (g_172 bX6_keeping rfl)
end
