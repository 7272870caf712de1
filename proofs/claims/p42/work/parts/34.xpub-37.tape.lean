section
theorem wb_lt8 : ∀ b0 b1 b2 b3 b4 b5 b6 b7 : Bool, ∃ n : Nat, n < 256 ∧ wb8 b0 b1 b2 b3 b4 b5 b6 b7 = nI n := fun b0 b1 b2 b3 b4 b5 b6 b7 => ⟨_, by
  have h : ∀ (b : Bool) (k : Nat), (if b = true then k else 0) ≤ k := fun b k => by cases b <;> simp
  have h0 := h b0 1; have h1 := h b1 2; have h2 := h b2 4; have h3 := h b3 8; have h4 := h b4 16; have h5 := h b5 32; have h6 := h b6 64; have h7 := h b7 128
  omega, rfl⟩
theorem wb_lt (f : Nat → Bool) : ∃ n : Nat, n < 256 ∧ wb f = nI n := wb_lt8 _ _ _ _ _ _ _ _
set_option maxHeartbeats 4000000 in
set_option maxRecDepth 100000 in
theorem c_X5_firstWrong (l : Launch) (G : va_G) (cy : Nat → ClassId) (sz : Nat) (qx : Nat) (qt : Nat) (qk : Nat) (qp : Nat) (qs : Nat) (qa : Nat) (qr : Nat) (iKp : Int32) (iYe : Int32) (iTv : Int32) (qu : Nat) (qv : Nat) (iL : Int32) (iBs : Int32) (tU : TA) (quw : Nat) (qun : Nat) (qug : Nat) (qua : Nat) (qur : Nat) (qum : Nat) (qut : Nat) (qus : Nat) (tA : TA) (qtw : Nat) (qtn : Nat) (qtg : Nat) (qta : Nat) (qtr : Nat) (qtm : Nat) (qtt : Nat) (qts : Nat) (qsh : Nat) (qss : Nat) (qsa : Nat) (qse : Nat) (gE : Nat → Int64) (kS : Nat) (kN : Nat)  (hB : T_nb tA ≤ 8) (hPp : T_np tA ≤ 8) (hS8 : kS < 8) (hN40 : kN ≤ 40) : MW l yX5_firstWrong cX5_firstWrong 9 (some .int) 5 0 0 G cy [zzO qx 4 [.ref qt, .ref qk, .ref qp, .ref qs, .ref qa, .ref qr, .int iKp, .int iYe, .int iTv], zzO qp 0 [.ref qu, .ref qv, .int iL, .int iBs], zzO qu 3 [.int (nI (T_nb tU)), .int (nI (T_np tU)), .int (wb (T_wh tU)), .int (wb (T_gn tU)), .int (T_sd tU), .ref quw, .ref qun, .ref qug, .ref qua, .ref qur, .ref qum, .ref qut, .ref qus], zzI cy quw 8 (T_wo tU), zzI cy qun 8 (T_ne tU), zzI cy qug 8 (T_go tU), zzI cy qua 8 (T_ag tU), zzI cy qur 8 (T_re tU), zzI cy qum 8 (T_me tU), zzI cy qut 8 (T_te tU), zzI cy qus 64 (shF (T_kn tU)), zzO qt 3 [.int (nI (T_nb tA)), .int (nI (T_np tA)), .int (wb (T_wh tA)), .int (wb (T_gn tA)), .int (T_sd tA), .ref qtw, .ref qtn, .ref qtg, .ref qta, .ref qtr, .ref qtm, .ref qtt, .ref qts], zzI cy qtw 8 (T_wo tA), zzI cy qtn 8 (T_ne tA), zzI cy qtg 8 (T_go tA), zzI cy qta 8 (T_ag tA), zzI cy qtr 8 (T_re tA), zzI cy qtm 8 (T_me tA), zzI cy qtt 8 (T_te tA), zzI cy qts 64 (shF (T_kn tA)), zzO qs 1 [.ref qsh, .ref qss, .ref qsa, .ref qse], zzJ cy qse 320 gE] sz [.ref qx, .int (nI kS), .int (nI kN)] (Wi G (fun r u => ∃ (tX : TA), u = [zzO qx 4 [.ref qt, .ref qk, .ref qp, .ref qs, .ref qa, .ref qr, .int iKp, .int iYe, .int iTv], zzO qp 0 [.ref qu, .ref qv, .int iL, .int iBs], zzO qu 3 [.int (nI (T_nb tX)), .int (nI (T_np tX)), .int (wb (T_wh tX)), .int (wb (T_gn tX)), .int (T_sd tX), .ref quw, .ref qun, .ref qug, .ref qua, .ref qur, .ref qum, .ref qut, .ref qus], zzI cy quw 8 (T_wo tX), zzI cy qun 8 (T_ne tX), zzI cy qug 8 (T_go tX), zzI cy qua 8 (T_ag tX), zzI cy qur 8 (T_re tX), zzI cy qum 8 (T_me tX), zzI cy qut 8 (T_te tX), zzI cy qus 64 (shF (T_kn tX)), zzO qt 3 [.int (nI (T_nb tA)), .int (nI (T_np tA)), .int (wb (T_wh tA)), .int (wb (T_gn tA)), .int (T_sd tA), .ref qtw, .ref qtn, .ref qtg, .ref qta, .ref qtr, .ref qtm, .ref qtt, .ref qts], zzI cy qtw 8 (T_wo tA), zzI cy qtn 8 (T_ne tA), zzI cy qtg 8 (T_go tA), zzI cy qta 8 (T_ag tA), zzI cy qtr 8 (T_re tA), zzI cy qtm 8 (T_me tA), zzI cy qtt 8 (T_te tA), zzI cy qts 64 (shF (T_kn tA)), zzO qs 1 [.ref qsh, .ref qss, .ref qsa, .ref qse], zzJ cy qse 320 gE] ∧ (T_nb tX ≤ 8 ∧ T_np tX ≤ 8) ∧ (True))) := by
  refine enW RX5 (by decide +kernel) rfl (Nat.le_of_ble_eq_true rfl) (fun p e s m below meth c ls A hx hb hml hown hts hr hlocks hP hN hl hin hD hA hS => ?_)
  have hin : meth.name = _ := hin
  have hK := hN.1
  replace hl : lv_has ls 9 [(0, .ref qx), (1, .int (nI kS)), (2, .int (nI kN))] := hl
  refine lv_aload_n hx hb (g_42 bX5_firstWrong rfl) rfl (lv_at hl 0 rfl) ?_
  refine va_get (D := G) (ci := 4) (v := .ref qp) (C := RX5) (T := TX5) (N := 9) hx hb hts iX_X5 hown hK hP 0 rfl rfl 2 (by decide +kernel) (hts _ m_t176) (fun _ h9 => h9) rfl (g_180 (v := 22) bX5_firstWrong rfl) ?_
  refine lv_aload_n hx hb (g_42 bX5_firstWrong rfl) rfl (lv_at hl 0 rfl) ?_
  refine va_get (D := G) (ci := 4) (v := .ref qt) (C := RX5) (T := TX5) (N := 9) hx hb hts iX_X5 hown hK hP 0 rfl rfl 0 (by decide +kernel) (hts _ m_t174) (fun _ h9 => h9) rfl (g_180 (v := 10) bX5_firstWrong rfl) ?_
  refine cVq (As := [.ref qt]) (rest := []) (b := qp) (q := (RX0, TX0, 4)) ⟨hx, hb, hml, hown, hts⟩ (c_X0_trialOf l G cy (s.heap).size qp qu (.ref qv) (.int iL) (.int iBs) tU quw qun qug qua qur qum qut qus qt tA qtw qtn qtg qta qtr qtm qtt qts) L_X5_115 hN hP hD hS hA (trueIx 0 [false, true, true, true, true, true, true, true, true, true, true, true, true, true, true, true, true, true, true, true]) [true, false, false, false, false, false, false, false, false, false, false, false, false, false, false, false, false, false, false, false, true, true] (sel_eq rfl rfl) (by decide +kernel) rfl 1 0 rfl rfl rfl ⟨Nat.le_of_ble_eq_true rfl, Nat.le_of_ble_eq_true rfl⟩ hl.1 (Nat.le_of_ble_eq_true rfl) (g_182 (v := 115) bX5_firstWrong rfl) ⟨Nat.le_of_ble_eq_true rfl, Nat.le_of_ble_eq_true rfl⟩ (fun r_1 u_3 H locs h_2 => ?_)
  clear hP hD hS
  intro hP hD hS
  obtain ⟨hu9, h_2⟩ := h_2
  have hPD := pd_eq [_, _, _, _, zzO qu 3 [.int (nI (T_nb tA)), .int (nI (T_np tA)), .int (wb (T_wh tA)), .int (wb (T_gn tA)), .int (T_sd tA), .ref quw, .ref qun, .ref qug, .ref qua, .ref qur, .ref qum, .ref qut, .ref qus], zzI cy quw 8 (T_wo tA), zzI cy qun 8 (T_ne tA), zzI cy qug 8 (T_go tA), zzI cy qua 8 (T_ag tA), zzI cy qur 8 (T_re tA), zzI cy qum 8 (T_me tA), zzI cy qut 8 (T_te tA), zzI cy qus 64 (shF (T_kn tA)), _, _, _, _, _, _, _, _, _] hP hD hu9 rfl
  clear hP hD hu9
  obtain ⟨hP, hD⟩ := hPD
  have h_2 := h_2.symm
  subst h_2
  refine lv_astore_n (lv' := [(3, .ref qu), (0, .ref qx), (1, .int (nI kS)), (2, .int (nI kN))]) hx hb (g_78 bX5_firstWrong rfl) rfl hl (by decide +kernel) rfl (fun ls => ?_)
  clear hl
  intro hl
  refine lv_iconst (v := 0) hx hb (g_3 bX5_firstWrong rfl) (by decide +kernel) ?_
  refine lv_istore (lv' := [(4, .int 0), (3, .ref qu), (0, .ref qx), (1, .int (nI kS)), (2, .int (nI kN))]) hx hb (g_54 (v := 4) bX5_firstWrong rfl) hl (by decide +kernel) rfl (fun ls => ?_)
  clear hl
  intro hl
  have lp_4 : ∀ (n_5 : Nat) (j_7 : Nat) (tJ_8 : TA), 40 - j_7 < n_5 → j_7 ≤ kN → T_nb tJ_8 = T_nb tA ∧ T_np tJ_8 = T_np tA → ∀ (H : Heap) (locs : List Loc) (ls : Array Slot), va_P G CL [zzO qx 4 [.ref qt, .ref qk, .ref qp, .ref qs, .ref qa, .ref qr, .int iKp, .int iYe, .int iTv], zzO qs 1 [.ref qsh, .ref qss, .ref qsa, .ref qse], zzJ cy qse 320 gE, zzO qp 0 [.ref qu, .ref qv, .int iL, .int iBs], zzO qu 3 [.int (nI (T_nb tJ_8)), .int (nI (T_np tJ_8)), .int (wb (T_wh tJ_8)), .int (wb (T_gn tJ_8)), .int (T_sd tJ_8), .ref quw, .ref qun, .ref qug, .ref qua, .ref qur, .ref qum, .ref qut, .ref qus], zzI cy quw 8 (T_wo tJ_8), zzI cy qun 8 (T_ne tJ_8), zzI cy qug 8 (T_go tJ_8), zzI cy qua 8 (T_ag tJ_8), zzI cy qur 8 (T_re tJ_8), zzI cy qum 8 (T_me tJ_8), zzI cy qut 8 (T_te tJ_8), zzI cy qus 64 (shF (T_kn tJ_8)), zzO qt 3 [.int (nI (T_nb tA)), .int (nI (T_np tA)), .int (wb (T_wh tA)), .int (wb (T_gn tA)), .int (T_sd tA), .ref qtw, .ref qtn, .ref qtg, .ref qta, .ref qtr, .ref qtm, .ref qtt, .ref qts], zzI cy qtw 8 (T_wo tA), zzI cy qtn 8 (T_ne tA), zzI cy qtg 8 (T_go tA), zzI cy qta 8 (T_ag tA), zzI cy qtr 8 (T_re tA), zzI cy qtm 8 (T_me tA), zzI cy qtt 8 (T_te tA), zzI cy qts 64 (shF (T_kn tA))] H → va_D A [zzO qx 4 [.ref qt, .ref qk, .ref qp, .ref qs, .ref qa, .ref qr, .int iKp, .int iYe, .int iTv], zzO qs 1 [.ref qsh, .ref qss, .ref qsa, .ref qse], zzJ cy qse 320 gE, zzO qp 0 [.ref qu, .ref qv, .int iL, .int iBs], zzO qu 3 [.int (nI (T_nb tJ_8)), .int (nI (T_np tJ_8)), .int (wb (T_wh tJ_8)), .int (wb (T_gn tJ_8)), .int (T_sd tJ_8), .ref quw, .ref qun, .ref qug, .ref qua, .ref qur, .ref qum, .ref qut, .ref qus], zzI cy quw 8 (T_wo tJ_8), zzI cy qun 8 (T_ne tJ_8), zzI cy qug 8 (T_go tJ_8), zzI cy qua 8 (T_ag tJ_8), zzI cy qur 8 (T_re tJ_8), zzI cy qum 8 (T_me tJ_8), zzI cy qut 8 (T_te tJ_8), zzI cy qus 64 (shF (T_kn tJ_8)), zzO qt 3 [.int (nI (T_nb tA)), .int (nI (T_np tA)), .int (wb (T_wh tA)), .int (wb (T_gn tA)), .int (T_sd tA), .ref qtw, .ref qtn, .ref qtg, .ref qta, .ref qtr, .ref qtm, .ref qtt, .ref qts], zzI cy qtw 8 (T_wo tA), zzI cy qtn 8 (T_ne tA), zzI cy qtg 8 (T_go tA), zzI cy qta 8 (T_ag tA), zzI cy qtr 8 (T_re tA), zzI cy qtm 8 (T_me tA), zzI cy qtt 8 (T_te tA), zzI cy qts 64 (shF (T_kn tA))] → va_S A s.heap H locs → lv_has ls 9 [(4, .int (nI j_7)), (3, .ref qu), (0, .ref qx), (1, .int (nI kS)), (2, .int (nI kN))] → W p l e (Rm 5 0 0) s m (List.toArray (α := Value) [.ref qx, .int (nI kS), .int (nI kN)]) below meth c H locs 0 0 (MQ below ((Wi G (fun r u => ∃ (tX : TA), u = [zzO qx 4 [.ref qt, .ref qk, .ref qp, .ref qs, .ref qa, .ref qr, .int iKp, .int iYe, .int iTv], zzO qp 0 [.ref qu, .ref qv, .int iL, .int iBs], zzO qu 3 [.int (nI (T_nb tX)), .int (nI (T_np tX)), .int (wb (T_wh tX)), .int (wb (T_gn tX)), .int (T_sd tX), .ref quw, .ref qun, .ref qug, .ref qua, .ref qur, .ref qum, .ref qut, .ref qus], zzI cy quw 8 (T_wo tX), zzI cy qun 8 (T_ne tX), zzI cy qug 8 (T_go tX), zzI cy qua 8 (T_ag tX), zzI cy qur 8 (T_re tX), zzI cy qum 8 (T_me tX), zzI cy qut 8 (T_te tX), zzI cy qus 64 (shF (T_kn tX)), zzO qt 3 [.int (nI (T_nb tA)), .int (nI (T_np tA)), .int (wb (T_wh tA)), .int (wb (T_gn tA)), .int (T_sd tA), .ref qtw, .ref qtn, .ref qtg, .ref qta, .ref qtr, .ref qtm, .ref qtt, .ref qts], zzI cy qtw 8 (T_wo tA), zzI cy qtn 8 (T_ne tA), zzI cy qtg 8 (T_go tA), zzI cy qta 8 (T_ag tA), zzI cy qtr 8 (T_re tA), zzI cy qtm 8 (T_me tA), zzI cy qtt 8 (T_te tA), zzI cy qts 64 (shF (T_kn tA)), zzO qs 1 [.ref qsh, .ref qss, .ref qsa, .ref qse], zzJ cy qse 320 gE] ∧ (T_nb tX ≤ 8 ∧ T_np tX ≤ 8) ∧ (True))) A) (List.toArray (α := Value) [.ref qx, .int (nI kS), .int (nI kN)]) s 0 0 A) (F0 m 15 ls []) := by
    intro n_5
    induction n_5 with
    | zero => intro j_7 tJ_8 hm9; exact absurd hm9 (Nat.not_lt_zero _)
    | succ n_5 ih_6 =>
      intro j_7 tJ_8 hm_11 hj_9 hn_10 H locs ls hP hD hS hl
      refine lv_iload hx hb (g_21 (v := 4) bX5_firstWrong rfl) (lv_at hl 0 rfl) ?_
      refine lv_iload_n hx hb (g_28 bX5_firstWrong rfl) rfl (lv_at hl 4 rfl) ?_
      refine lv_icmp_ge (tgt := 114) hx hb dX5_firstWrong_18 (by decide +kernel) (fun c_12 => ?_) (fun c_12 => ?_)
      · refine lv_iconst (v := (-1)) hx hb (g_2 bX5_firstWrong rfl) (by decide +kernel) ?_
        exact endW (u := [zzO qx 4 [.ref qt, .ref qk, .ref qp, .ref qs, .ref qa, .ref qr, .int iKp, .int iYe, .int iTv], zzO qp 0 [.ref qu, .ref qv, .int iL, .int iBs], zzO qu 3 [.int (nI (T_nb tJ_8)), .int (nI (T_np tJ_8)), .int (wb (T_wh tJ_8)), .int (wb (T_gn tJ_8)), .int (T_sd tJ_8), .ref quw, .ref qun, .ref qug, .ref qua, .ref qur, .ref qum, .ref qut, .ref qus], zzI cy quw 8 (T_wo tJ_8), zzI cy qun 8 (T_ne tJ_8), zzI cy qug 8 (T_go tJ_8), zzI cy qua 8 (T_ag tJ_8), zzI cy qur 8 (T_re tJ_8), zzI cy qum 8 (T_me tJ_8), zzI cy qut 8 (T_te tJ_8), zzI cy qus 64 (shF (T_kn tJ_8)), zzO qt 3 [.int (nI (T_nb tA)), .int (nI (T_np tA)), .int (wb (T_wh tA)), .int (wb (T_gn tA)), .int (T_sd tA), .ref qtw, .ref qtn, .ref qtg, .ref qta, .ref qtr, .ref qtm, .ref qtt, .ref qts], zzI cy qtw 8 (T_wo tA), zzI cy qtn 8 (T_ne tA), zzI cy qtg 8 (T_go tA), zzI cy qta 8 (T_ag tA), zzI cy qtr 8 (T_re tA), zzI cy qtm 8 (T_me tA), zzI cy qtt 8 (T_te tA), zzI cy qts 64 (shF (T_kn tA)), zzO qs 1 [.ref qsh, .ref qss, .ref qsa, .ref qse], zzJ cy qse 320 gE]) hx hb hr hlocks rfl (pSb hP [[true, false, false, true, true, true, true, true, true, true, true, true, true, true, true, true, true, true, true, true, true, true], [false, true, true]] rfl rfl) (dSb hD [[true, false, false, true, true, true, true, true, true, true, true, true, true, true, true, true, true, true, true, true, true, true], [false, true, true]] (by decide +kernel) rfl rfl) hS ⟨tJ_8, rfl, (by obtain ⟨q1, q2⟩ := id hn_10; exact ⟨by omega, by omega⟩), trivial⟩ (g_172 bX5_firstWrong rfl)
      · have hlt_14 : j_7 < kN := lp_lt rfl rfl (by omega) (by omega) c_12
        obtain ⟨hlt_14b, hlt_14p⟩ := id hn_10
        refine lv_aload_n hx hb (g_42 bX5_firstWrong rfl) rfl (lv_at hl 2 rfl) ?_
        refine va_get (D := G) (ci := 4) (v := .ref qs) (C := RX5) (T := TX5) (N := 9) hx hb hts iX_X5 hown hK hP 0 rfl rfl 3 (by decide +kernel) (hts _ m_t177) (fun _ h9 => h9) rfl (g_180 (v := 29) bX5_firstWrong rfl) ?_
        refine lv_iload_n hx hb (g_27 bX5_firstWrong rfl) rfl (lv_at hl 3 rfl) ?_
        refine lv_iload hx hb (g_21 (v := 4) bX5_firstWrong rfl) (lv_at hl 0 rfl) ?_
        refine kRl (rV (As := [.int (nI kS), .int (nI j_7)]) (rest := []) (b := qs) ⟨hx, hb, hml, hown, hts⟩ (c_X2_at l G cy qs qsh qss qsa qse gE kS j_7 hS8 (by first | omega | (simp only [nb_sr, np_sr, nb_wr, np_wr, nb_rd, np_rd, nb_ch, np_ch, nb_zr, np_zr, nb_za, np_za, nb_ey, np_ey, nb_hf, np_hf, nb_dd, np_dd, nb_so, np_so, nb_skn, np_skn, nb_swh, np_swh, nb_sgn, np_sgn, nb_ssd, np_ssd, nb_sgo, np_sgo, nb_sag, np_sag]; omega))) L_X5_86 (preRV (q := (RX2, TX2, 4)) hN hP [1, 2] rfl 1 1 rfl rfl) rfl ⟨Nat.le_of_ble_eq_true rfl, Nat.le_of_ble_eq_true rfl⟩ hl.1 (Nat.le_of_ble_eq_true rfl) (g_182 (v := 86) bX5_firstWrong rfl) ⟨Nat.le_of_ble_eq_true rfl, Nat.le_of_ble_eq_true rfl⟩) (fun r_15 h_16 => ?_)
        subst h_16
        refine lv_lstore (lv' := [(5, .long (gE (kS * 40 + j_7))), (4, .int (nI j_7)), (3, .ref qu), (0, .ref qx), (1, .int (nI kS)), (2, .int (nI kN))]) hx hb (g_55 (v := 5) bX5_firstWrong rfl) hl (by decide +kernel) rfl (fun ls => ?_)
        clear hl
        intro hl
        refine lv_lload hx hb (g_22 (v := 5) bX5_firstWrong rfl) (lv_at hl 0 rfl) ?_
        refine lv_lconst (v := 0) hx hb (g_9 bX5_firstWrong rfl) (by decide +kernel) ?_
        refine lv_ldc2 hx hb hown (hts _ m_t793) (g_20 (v := 367) bX5_firstWrong rfl) ?_
        refine kRi (rS (As := [.long (gE (kS * 40 + j_7)), .long 0, .long 799]) (rest := []) ⟨hx, hb, hml, hown, hts⟩ (c_X5_within l G cy (gE (kS * 40 + j_7)) 0 799) L_X5_50 (preRS hN hP [] rfl) rfl ⟨Nat.le_of_ble_eq_true rfl, Nat.le_of_ble_eq_true rfl⟩ hl.1 (Nat.le_of_ble_eq_true rfl) (g_184 (v := 50) bX5_firstWrong rfl) ⟨Nat.le_of_ble_eq_true rfl, Nat.le_of_ble_eq_true rfl⟩) (fun r_17 h_18 => ?_)
        rcases h_18 with ⟨rfl, h_19⟩ | ⟨rfl, h_19⟩
        · refine lv_if_ne (tgt := 48) hx hb dX5_firstWrong_42 (by decide +kernel) (fun _ => ?_) (fun h9 => absurd h9 (by decide +kernel))
          refine lv_lload hx hb (g_22 (v := 5) bX5_firstWrong rfl) (lv_at hl 0 rfl) ?_
          refine lv_l2i (v := (gE (kS * 40 + j_7)).toInt32) hx hb (g_136 bX5_firstWrong rfl) rfl ?_
          refine lv_bipush (v := 100) hx hb dX5_firstWrong_51 (by decide +kernel) ?_
          refine lv_idiv hx hb (g_108 bX5_firstWrong rfl) (by decide +kernel) ?_
          refine lv_istore (lv' := [(7, .int (((gE (kS * 40 + j_7)).toInt32) / 100)), (5, .long (gE (kS * 40 + j_7))), (4, .int (nI j_7)), (3, .ref qu), (0, .ref qx), (1, .int (nI kS)), (2, .int (nI kN))]) hx hb (g_54 (v := 7) bX5_firstWrong rfl) hl (by decide +kernel) rfl (fun ls => ?_)
          clear hl
          intro hl
          refine lv_lload hx hb (g_22 (v := 5) bX5_firstWrong rfl) (lv_at hl 1 rfl) ?_
          refine lv_l2i (v := (gE (kS * 40 + j_7)).toInt32) hx hb (g_136 bX5_firstWrong rfl) rfl ?_
          refine lv_bipush (v := 100) hx hb dX5_firstWrong_59 (by decide +kernel) ?_
          refine lv_irem hx hb (g_112 bX5_firstWrong rfl) (by decide +kernel) ?_
          refine lv_istore (lv' := [(8, .int (((gE (kS * 40 + j_7)).toInt32) - ((gE (kS * 40 + j_7)).toInt32) / 100 * 100)), (7, .int (((gE (kS * 40 + j_7)).toInt32) / 100)), (5, .long (gE (kS * 40 + j_7))), (4, .int (nI j_7)), (3, .ref qu), (0, .ref qx), (1, .int (nI kS)), (2, .int (nI kN))]) hx hb (g_54 (v := 8) bX5_firstWrong rfl) hl (by decide +kernel) rfl (fun ls => ?_)
          clear hl
          intro hl
          obtain ⟨k_21, k_22, hk_23, hk_24, e_25, e_26, e_27⟩ := dv100 h_19
          rw [e_26, e_25] at hl
          refine lv_aload_n hx hb (g_45 bX5_firstWrong rfl) rfl (lv_at hl 4 rfl) ?_
          refine kRi (rV (As := []) (rest := []) (b := qu) ⟨hx, hb, hml, hown, hts⟩ (c_X4_setThere l G cy qu tJ_8 quw qun qug qua qur qum qut qus (by first | omega | (simp only [nb_sr, np_sr, nb_wr, np_wr, nb_rd, np_rd, nb_ch, np_ch, nb_zr, np_zr, nb_za, np_za, nb_ey, np_ey, nb_hf, np_hf, nb_dd, np_dd, nb_so, np_so, nb_skn, np_skn, nb_swh, np_swh, nb_sgn, np_sgn, nb_ssd, np_ssd, nb_sgo, np_sgo, nb_sag, np_sag]; omega))) L_X5_269 (preRV (q := (RX4, TX4, 13)) hN hP [4] rfl 4 3 rfl rfl) rfl ⟨Nat.le_of_ble_eq_true rfl, Nat.le_of_ble_eq_true rfl⟩ hl.1 (Nat.le_of_ble_eq_true rfl) (g_182 (v := 269) bX5_firstWrong rfl) ⟨Nat.le_of_ble_eq_true rfl, Nat.le_of_ble_eq_true rfl⟩) (fun r_28 h_29 => ?_)
          subst h_29
          refine lv_iload hx hb (g_21 (v := 7) bX5_firstWrong rfl) (lv_at hl 1 rfl) ?_
          refine kRi (rS (As := [.int (zthere tJ_8), .int (nI k_21)]) (rest := []) ⟨hx, hb, hml, hown, hts⟩ (c_X5_has l G cy (zthere tJ_8) k_21) L_X5_183 (preRS hN hP [] rfl) rfl ⟨Nat.le_of_ble_eq_true rfl, Nat.le_of_ble_eq_true rfl⟩ hl.1 (Nat.le_of_ble_eq_true rfl) (g_184 (v := 183) bX5_firstWrong rfl) ⟨Nat.le_of_ble_eq_true rfl, Nat.le_of_ble_eq_true rfl⟩) (fun r_30 h_31 => ?_)
          rcases h_31 with ⟨rfl, h_32⟩ | ⟨rfl, h_32⟩
          · refine lv_if_eq (tgt := 97) hx hb dX5_firstWrong_73 (by decide +kernel) (fun h9 => absurd h9 (by decide +kernel)) (fun _ => ?_)
            refine lv_aload_n hx hb (g_45 bX5_firstWrong rfl) rfl (lv_at hl 4 rfl) ?_
            refine lv_iload hx hb (g_21 (v := 8) bX5_firstWrong rfl) (lv_at hl 0 rfl) ?_
            refine kRi (rV (As := [.int (nI k_22)]) (rest := []) (b := qu) ⟨hx, hb, hml, hown, hts⟩ (c_X4_isBook l G cy qu tJ_8 quw qun qug qua qur qum qut qus (nI k_22) (by first | omega | (simp only [nb_sr, np_sr, nb_wr, np_wr, nb_rd, np_rd, nb_ch, np_ch, nb_zr, np_zr, nb_za, np_za, nb_ey, np_ey, nb_hf, np_hf, nb_dd, np_dd, nb_so, np_so, nb_skn, np_skn, nb_swh, np_swh, nb_sgn, np_sgn, nb_ssd, np_ssd, nb_sgo, np_sgo, nb_sag, np_sag]; omega))) L_X5_168 (preRV (q := (RX4, TX4, 13)) hN hP [4] rfl 4 3 rfl rfl) rfl ⟨Nat.le_of_ble_eq_true rfl, Nat.le_of_ble_eq_true rfl⟩ hl.1 (Nat.le_of_ble_eq_true rfl) (g_182 (v := 168) bX5_firstWrong rfl) ⟨Nat.le_of_ble_eq_true rfl, Nat.le_of_ble_eq_true rfl⟩) (fun r_34 h_35 => ?_)
            rcases h_35 with ⟨rfl, h_36⟩ | ⟨rfl, h_36⟩
            · refine lv_if_eq (tgt := 97) hx hb dX5_firstWrong_82 (by decide +kernel) (fun h9 => absurd h9 (by decide +kernel)) (fun _ => ?_)
              obtain ⟨k_38, hk_39, ek_40⟩ := h_36
              have hb_41 : k_22 < T_nb tJ_8 := by rw [nI_inj (by omega) (by omega) ek_40]; exact hk_39
              refine lv_aload_n hx hb (g_45 bX5_firstWrong rfl) rfl (lv_at hl 4 rfl) ?_
              refine va_getN (D := G) (ci := 3) (v := .int (wb (T_wh tJ_8))) (C := RX4) (T := TX4) (N := 13) hx hb hts iX_X4 hown hK hP 4 rfl rfl 2 (by decide +kernel) (va_Nw.use rfl (hN.2.1 (RX5, 180, "EachBookOnce$Town", "white", "I") (List.mem_of_getElem? (i := 10) rfl))) (fun _ h9 => h9) rfl (g_180 (v := 180) bX5_firstWrong rfl) ?_
              refine lv_iload hx hb (g_21 (v := 8) bX5_firstWrong rfl) (lv_at hl 0 rfl) ?_
              refine kRi (rS (As := [.int (wb (T_wh tJ_8)), .int (nI k_22)]) (rest := []) ⟨hx, hb, hml, hown, hts⟩ (c_X5_has l G cy (wb (T_wh tJ_8)) k_22) L_X5_183 (preRS hN hP [] rfl) rfl ⟨Nat.le_of_ble_eq_true rfl, Nat.le_of_ble_eq_true rfl⟩ hl.1 (Nat.le_of_ble_eq_true rfl) (g_184 (v := 183) bX5_firstWrong rfl) ⟨Nat.le_of_ble_eq_true rfl, Nat.le_of_ble_eq_true rfl⟩) (fun r_42 h_43 => ?_)
              rcases h_43 with ⟨rfl, h_44⟩ | ⟨rfl, h_44⟩
              · rw [bit_wb _ (by omega)] at h_44
                refine lv_if_eq (tgt := 100) hx hb dX5_firstWrong_94 (by decide +kernel) (fun h9 => absurd h9 (by decide +kernel)) (fun _ => ?_)
                refine lv_iload hx hb (g_21 (v := 4) bX5_firstWrong rfl) (lv_at hl 3 rfl) ?_
                exact endW (u := [zzO qx 4 [.ref qt, .ref qk, .ref qp, .ref qs, .ref qa, .ref qr, .int iKp, .int iYe, .int iTv], zzO qp 0 [.ref qu, .ref qv, .int iL, .int iBs], zzO qu 3 [.int (nI (T_nb tJ_8)), .int (nI (T_np tJ_8)), .int (wb (T_wh tJ_8)), .int (wb (T_gn tJ_8)), .int (T_sd tJ_8), .ref quw, .ref qun, .ref qug, .ref qua, .ref qur, .ref qum, .ref qut, .ref qus], zzI cy quw 8 (T_wo tJ_8), zzI cy qun 8 (T_ne tJ_8), zzI cy qug 8 (T_go tJ_8), zzI cy qua 8 (T_ag tJ_8), zzI cy qur 8 (T_re tJ_8), zzI cy qum 8 (T_me tJ_8), zzI cy qut 8 (T_te tJ_8), zzI cy qus 64 (shF (T_kn tJ_8)), zzO qt 3 [.int (nI (T_nb tA)), .int (nI (T_np tA)), .int (wb (T_wh tA)), .int (wb (T_gn tA)), .int (T_sd tA), .ref qtw, .ref qtn, .ref qtg, .ref qta, .ref qtr, .ref qtm, .ref qtt, .ref qts], zzI cy qtw 8 (T_wo tA), zzI cy qtn 8 (T_ne tA), zzI cy qtg 8 (T_go tA), zzI cy qta 8 (T_ag tA), zzI cy qtr 8 (T_re tA), zzI cy qtm 8 (T_me tA), zzI cy qtt 8 (T_te tA), zzI cy qts 64 (shF (T_kn tA)), zzO qs 1 [.ref qsh, .ref qss, .ref qsa, .ref qse], zzJ cy qse 320 gE]) hx hb hr hlocks rfl (pSb hP [[true, false, false, true, true, true, true, true, true, true, true, true, true, true, true, true, true, true, true, true, true, true], [false, true, true]] rfl rfl) (dSb hD [[true, false, false, true, true, true, true, true, true, true, true, true, true, true, true, true, true, true, true, true, true, true], [false, true, true]] (by decide +kernel) rfl rfl) hS ⟨tJ_8, rfl, (by obtain ⟨q1, q2⟩ := id hn_10; exact ⟨by omega, by omega⟩), trivial⟩ (g_172 bX5_firstWrong rfl)
              · rw [bit_wb _ (by omega)] at h_44
                refine lv_if_eq (tgt := 100) hx hb dX5_firstWrong_94 (by decide +kernel) (fun _ => ?_) (fun h9 => absurd (by decide +kernel) h9)
                refine lv_aload_n hx hb (g_45 bX5_firstWrong rfl) rfl (lv_at hl 4 rfl) ?_
                refine lv_iload hx hb (g_21 (v := 7) bX5_firstWrong rfl) (lv_at hl 1 rfl) ?_
                refine lv_iload hx hb (g_21 (v := 8) bX5_firstWrong rfl) (lv_at hl 0 rfl) ?_
                refine cVv (As := [.int (nI k_21), .int (nI k_22)]) (rest := []) (b := qu) (q := (RX4, TX4, 13)) ⟨hx, hb, hml, hown, hts⟩ (c_X4_readBy l G cy (H).size qu tJ_8 quw qun qug qua qur qum qut qus k_21 k_22 (by first | omega | (simp only [nb_sr, np_sr, nb_wr, np_wr, nb_rd, np_rd, nb_ch, np_ch, nb_zr, np_zr, nb_za, np_za, nb_ey, np_ey, nb_hf, np_hf, nb_dd, np_dd, nb_so, np_so, nb_skn, np_skn, nb_swh, np_swh, nb_sgn, np_sgn, nb_ssd, np_ssd, nb_sgo, np_sgo, nb_sag, np_sag]; omega)) (by first | omega | (simp only [nb_sr, np_sr, nb_wr, np_wr, nb_rd, np_rd, nb_ch, np_ch, nb_zr, np_zr, nb_za, np_za, nb_ey, np_ey, nb_hf, np_hf, nb_dd, np_dd, nb_so, np_so, nb_skn, np_skn, nb_swh, np_swh, nb_sgn, np_sgn, nb_ssd, np_ssd, nb_sgo, np_sgo, nb_sag, np_sag]; omega))) L_X5_230 hN hP hD hS hA (trueIx 0 [false, false, false, false, true, true, true, true, true, true, true, true, true]) [true, true, true, true, false, false, false, false, false, false, false, false, false, true, true, true, true, true, true, true, true, true] (sel_eq rfl rfl) (by decide +kernel) rfl 4 3 rfl rfl rfl ⟨Nat.le_of_ble_eq_true rfl, Nat.le_of_ble_eq_true rfl⟩ hl.1 (Nat.le_of_ble_eq_true rfl) (g_182 (v := 230) bX5_firstWrong rfl) ⟨Nat.le_of_ble_eq_true rfl, Nat.le_of_ble_eq_true rfl⟩ (fun u_49 H locs h_48 => ?_)
                clear hP hD hS
                intro hP hD hS
                have hPD := pd_eq [_, _, _, _, _, _, _, _, _, _, _, _, _, zzO qu 3 [.int (nI (T_nb (rdT tJ_8 k_21 k_22))), .int (nI (T_np (rdT tJ_8 k_21 k_22))), .int (wb (T_wh (rdT tJ_8 k_21 k_22))), .int (wb (T_gn (rdT tJ_8 k_21 k_22))), .int (T_sd (rdT tJ_8 k_21 k_22)), .ref quw, .ref qun, .ref qug, .ref qua, .ref qur, .ref qum, .ref qut, .ref qus], zzI cy quw 8 (T_wo (rdT tJ_8 k_21 k_22)), zzI cy qun 8 (T_ne (rdT tJ_8 k_21 k_22)), zzI cy qug 8 (T_go (rdT tJ_8 k_21 k_22)), zzI cy qua 8 (T_ag (rdT tJ_8 k_21 k_22)), zzI cy qur 8 (T_re (rdT tJ_8 k_21 k_22)), zzI cy qum 8 (T_me (rdT tJ_8 k_21 k_22)), zzI cy qut 8 (T_te (rdT tJ_8 k_21 k_22)), zzI cy qus 64 (shF (T_kn (rdT tJ_8 k_21 k_22)))] hP hD h_48 rfl
                clear hP hD h_48
                obtain ⟨hP, hD⟩ := hPD
                refine lv_iinc (v := nI (j_7 + 1)) (lv' := [(4, .int (nI (j_7 + 1))), (8, .int (nI k_22)), (7, .int (nI k_21)), (5, .long (gE (kS * 40 + j_7))), (3, .ref qu), (0, .ref qx), (1, .int (nI kS)), (2, .int (nI kN))]) hx hb dX5_firstWrong_108 hl (k := 3) rfl (nI_1 _) (by decide +kernel) rfl (fun ls => ?_)
                clear hl
                intro hl
                refine lv_goto (tgt := 15) hx hb dX5_firstWrong_111 (by decide +kernel) ?_
                exact ih_6 (j_7 + 1) (rdT tJ_8 k_21 k_22) (by omega) (by omega) hn_10 _ _ _ (pSb hP [[true, true, true, true, false, false, false, false, false, false, false, false, false, true, true, true, true, true, true, true, true, true], [false, false, false, false, true, true, true, true, true, true, true, true, true]] rfl rfl) (dSb hD [[true, true, true, true, false, false, false, false, false, false, false, false, false, true, true, true, true, true, true, true, true, true], [false, false, false, false, true, true, true, true, true, true, true, true, true]] (by decide +kernel) rfl rfl) hS (lv_sub hl [0, 4, 5, 6, 7] rfl)
            · refine lv_if_eq (tgt := 97) hx hb dX5_firstWrong_82 (by decide +kernel) (fun _ => ?_) (fun h9 => absurd (by decide +kernel) h9)
              refine lv_iload hx hb (g_21 (v := 4) bX5_firstWrong rfl) (lv_at hl 3 rfl) ?_
              exact endW (u := [zzO qx 4 [.ref qt, .ref qk, .ref qp, .ref qs, .ref qa, .ref qr, .int iKp, .int iYe, .int iTv], zzO qp 0 [.ref qu, .ref qv, .int iL, .int iBs], zzO qu 3 [.int (nI (T_nb tJ_8)), .int (nI (T_np tJ_8)), .int (wb (T_wh tJ_8)), .int (wb (T_gn tJ_8)), .int (T_sd tJ_8), .ref quw, .ref qun, .ref qug, .ref qua, .ref qur, .ref qum, .ref qut, .ref qus], zzI cy quw 8 (T_wo tJ_8), zzI cy qun 8 (T_ne tJ_8), zzI cy qug 8 (T_go tJ_8), zzI cy qua 8 (T_ag tJ_8), zzI cy qur 8 (T_re tJ_8), zzI cy qum 8 (T_me tJ_8), zzI cy qut 8 (T_te tJ_8), zzI cy qus 64 (shF (T_kn tJ_8)), zzO qt 3 [.int (nI (T_nb tA)), .int (nI (T_np tA)), .int (wb (T_wh tA)), .int (wb (T_gn tA)), .int (T_sd tA), .ref qtw, .ref qtn, .ref qtg, .ref qta, .ref qtr, .ref qtm, .ref qtt, .ref qts], zzI cy qtw 8 (T_wo tA), zzI cy qtn 8 (T_ne tA), zzI cy qtg 8 (T_go tA), zzI cy qta 8 (T_ag tA), zzI cy qtr 8 (T_re tA), zzI cy qtm 8 (T_me tA), zzI cy qtt 8 (T_te tA), zzI cy qts 64 (shF (T_kn tA)), zzO qs 1 [.ref qsh, .ref qss, .ref qsa, .ref qse], zzJ cy qse 320 gE]) hx hb hr hlocks rfl (pSb hP [[true, false, false, true, true, true, true, true, true, true, true, true, true, true, true, true, true, true, true, true, true, true], [false, true, true]] rfl rfl) (dSb hD [[true, false, false, true, true, true, true, true, true, true, true, true, true, true, true, true, true, true, true, true, true, true], [false, true, true]] (by decide +kernel) rfl rfl) hS ⟨tJ_8, rfl, (by obtain ⟨q1, q2⟩ := id hn_10; exact ⟨by omega, by omega⟩), trivial⟩ (g_172 bX5_firstWrong rfl)
          · refine lv_if_eq (tgt := 97) hx hb dX5_firstWrong_73 (by decide +kernel) (fun _ => ?_) (fun h9 => absurd (by decide +kernel) h9)
            refine lv_iload hx hb (g_21 (v := 4) bX5_firstWrong rfl) (lv_at hl 3 rfl) ?_
            exact endW (u := [zzO qx 4 [.ref qt, .ref qk, .ref qp, .ref qs, .ref qa, .ref qr, .int iKp, .int iYe, .int iTv], zzO qp 0 [.ref qu, .ref qv, .int iL, .int iBs], zzO qu 3 [.int (nI (T_nb tJ_8)), .int (nI (T_np tJ_8)), .int (wb (T_wh tJ_8)), .int (wb (T_gn tJ_8)), .int (T_sd tJ_8), .ref quw, .ref qun, .ref qug, .ref qua, .ref qur, .ref qum, .ref qut, .ref qus], zzI cy quw 8 (T_wo tJ_8), zzI cy qun 8 (T_ne tJ_8), zzI cy qug 8 (T_go tJ_8), zzI cy qua 8 (T_ag tJ_8), zzI cy qur 8 (T_re tJ_8), zzI cy qum 8 (T_me tJ_8), zzI cy qut 8 (T_te tJ_8), zzI cy qus 64 (shF (T_kn tJ_8)), zzO qt 3 [.int (nI (T_nb tA)), .int (nI (T_np tA)), .int (wb (T_wh tA)), .int (wb (T_gn tA)), .int (T_sd tA), .ref qtw, .ref qtn, .ref qtg, .ref qta, .ref qtr, .ref qtm, .ref qtt, .ref qts], zzI cy qtw 8 (T_wo tA), zzI cy qtn 8 (T_ne tA), zzI cy qtg 8 (T_go tA), zzI cy qta 8 (T_ag tA), zzI cy qtr 8 (T_re tA), zzI cy qtm 8 (T_me tA), zzI cy qtt 8 (T_te tA), zzI cy qts 64 (shF (T_kn tA)), zzO qs 1 [.ref qsh, .ref qss, .ref qsa, .ref qse], zzJ cy qse 320 gE]) hx hb hr hlocks rfl (pSb hP [[true, false, false, true, true, true, true, true, true, true, true, true, true, true, true, true, true, true, true, true, true, true], [false, true, true]] rfl rfl) (dSb hD [[true, false, false, true, true, true, true, true, true, true, true, true, true, true, true, true, true, true, true, true, true, true], [false, true, true]] (by decide +kernel) rfl rfl) hS ⟨tJ_8, rfl, (by obtain ⟨q1, q2⟩ := id hn_10; exact ⟨by omega, by omega⟩), trivial⟩ (g_172 bX5_firstWrong rfl)
        · refine lv_if_ne (tgt := 48) hx hb dX5_firstWrong_42 (by decide +kernel) (fun h9 => absurd (by decide +kernel) h9) (fun _ => ?_)
          refine lv_iload hx hb (g_21 (v := 4) bX5_firstWrong rfl) (lv_at hl 1 rfl) ?_
          exact endW (u := [zzO qx 4 [.ref qt, .ref qk, .ref qp, .ref qs, .ref qa, .ref qr, .int iKp, .int iYe, .int iTv], zzO qp 0 [.ref qu, .ref qv, .int iL, .int iBs], zzO qu 3 [.int (nI (T_nb tJ_8)), .int (nI (T_np tJ_8)), .int (wb (T_wh tJ_8)), .int (wb (T_gn tJ_8)), .int (T_sd tJ_8), .ref quw, .ref qun, .ref qug, .ref qua, .ref qur, .ref qum, .ref qut, .ref qus], zzI cy quw 8 (T_wo tJ_8), zzI cy qun 8 (T_ne tJ_8), zzI cy qug 8 (T_go tJ_8), zzI cy qua 8 (T_ag tJ_8), zzI cy qur 8 (T_re tJ_8), zzI cy qum 8 (T_me tJ_8), zzI cy qut 8 (T_te tJ_8), zzI cy qus 64 (shF (T_kn tJ_8)), zzO qt 3 [.int (nI (T_nb tA)), .int (nI (T_np tA)), .int (wb (T_wh tA)), .int (wb (T_gn tA)), .int (T_sd tA), .ref qtw, .ref qtn, .ref qtg, .ref qta, .ref qtr, .ref qtm, .ref qtt, .ref qts], zzI cy qtw 8 (T_wo tA), zzI cy qtn 8 (T_ne tA), zzI cy qtg 8 (T_go tA), zzI cy qta 8 (T_ag tA), zzI cy qtr 8 (T_re tA), zzI cy qtm 8 (T_me tA), zzI cy qtt 8 (T_te tA), zzI cy qts 64 (shF (T_kn tA)), zzO qs 1 [.ref qsh, .ref qss, .ref qsa, .ref qse], zzJ cy qse 320 gE]) hx hb hr hlocks rfl (pSb hP [[true, false, false, true, true, true, true, true, true, true, true, true, true, true, true, true, true, true, true, true, true, true], [false, true, true]] rfl rfl) (dSb hD [[true, false, false, true, true, true, true, true, true, true, true, true, true, true, true, true, true, true, true, true, true, true], [false, true, true]] (by decide +kernel) rfl rfl) hS ⟨tJ_8, rfl, (by obtain ⟨q1, q2⟩ := id hn_10; exact ⟨by omega, by omega⟩), trivial⟩ (g_172 bX5_firstWrong rfl)
  exact lp_4 ((40 - 0) + 1) 0 tA (Nat.lt_succ_self _) (Nat.zero_le _) (⟨rfl, rfl⟩) _ _ ls hP hD hS (lv_sub hl [0, 1, 2, 3, 4] rfl)
set_option maxHeartbeats 4000000 in
set_option maxRecDepth 100000 in
theorem p_X5_run (l : Launch) (G : va_G) (cy : Nat → ClassId) (sz : Nat) (qx : Nat) (qt : Nat) (qk : Nat) (qp : Nat) (qs : Nat) (qa : Nat) (qr : Nat) (iKp : Int32) (iYe : Int32) (iTv : Int32) (fR : Nat → Int32) (qsh : Nat) (qss : Nat) (qsa : Nat) (qse : Nat) (fH : Nat → Int32) (fA : Nat → Int32) (tA : TA) (qtw : Nat) (qtn : Nat) (qtg : Nat) (qta : Nat) (qtr : Nat) (qtm : Nat) (qtt : Nat) (qts : Nat) (qu : Nat) (qv : Nat) (iL : Int32) (iBs : Int32) (tU : TA) (quw : Nat) (qun : Nat) (qug : Nat) (qua : Nat) (qur : Nat) (qum : Nat) (qut : Nat) (qus : Nat) (iA : Int32) (iB : Int32) (iC : Int32)  (hB : T_nb tA ≤ 8) (hPp : T_np tA ≤ 8) : MW l yX5_run cX5_run 6 (some .int) 12 0 0 G cy [zzO qx 4 [.ref qt, .ref qk, .ref qp, .ref qs, .ref qa, .ref qr, .int iKp, .int iYe, .int iTv], zzI cy qr 5 fR, zzO qs 1 [.ref qsh, .ref qss, .ref qsa, .ref qse], zzI cy qsh 8 fH, zzI cy qsa 8 fA, zzO qt 3 [.int (nI (T_nb tA)), .int (nI (T_np tA)), .int (wb (T_wh tA)), .int (wb (T_gn tA)), .int (T_sd tA), .ref qtw, .ref qtn, .ref qtg, .ref qta, .ref qtr, .ref qtm, .ref qtt, .ref qts], zzI cy qtw 8 (T_wo tA), zzI cy qtn 8 (T_ne tA), zzI cy qtg 8 (T_go tA), zzI cy qta 8 (T_ag tA), zzI cy qtr 8 (T_re tA), zzI cy qtm 8 (T_me tA), zzI cy qtt 8 (T_te tA), zzI cy qts 64 (shF (T_kn tA)), zzO qp 0 [.ref qu, .ref qv, .int iL, .int iBs], zzO qu 3 [.int (nI (T_nb tU)), .int (nI (T_np tU)), .int (wb (T_wh tU)), .int (wb (T_gn tU)), .int (T_sd tU), .ref quw, .ref qun, .ref qug, .ref qua, .ref qur, .ref qum, .ref qut, .ref qus], zzI cy quw 8 (T_wo tU), zzI cy qun 8 (T_ne tU), zzI cy qug 8 (T_go tU), zzI cy qua 8 (T_ag tU), zzI cy qur 8 (T_re tU), zzI cy qum 8 (T_me tU), zzI cy qut 8 (T_te tU), zzI cy qus 64 (shF (T_kn tU))] sz [.ref qx, .int iA, .int iB, .int iC] (Wi G (fun r u => ∃ (fX : Nat → Int32) (iX : Int32) (iY : Int32) (tX : TA), u = [zzO qx 4 [.ref qt, .ref qk, .ref qp, .ref qs, .ref qa, .ref qr, .int iKp, .int iYe, .int iTv], zzI cy qr 5 fX, zzO qs 1 [.ref qsh, .ref qss, .ref qsa, .ref qse], zzI cy qsh 8 fH, zzI cy qsa 8 fA, zzO qt 3 [.int (nI (T_nb tA)), .int (nI (T_np tA)), .int (wb (T_wh tA)), .int (wb (T_gn tA)), .int (T_sd tA), .ref qtw, .ref qtn, .ref qtg, .ref qta, .ref qtr, .ref qtm, .ref qtt, .ref qts], zzI cy qtw 8 (T_wo tA), zzI cy qtn 8 (T_ne tA), zzI cy qtg 8 (T_go tA), zzI cy qta 8 (T_ag tA), zzI cy qtr 8 (T_re tA), zzI cy qtm 8 (T_me tA), zzI cy qtt 8 (T_te tA), zzI cy qts 64 (shF (T_kn tA)), zzO qp 0 [.ref qu, .ref qv, .int iX, .int iY], zzO qu 3 [.int (nI (T_nb tX)), .int (nI (T_np tX)), .int (wb (T_wh tX)), .int (wb (T_gn tX)), .int (T_sd tX), .ref quw, .ref qun, .ref qug, .ref qua, .ref qur, .ref qum, .ref qut, .ref qus], zzI cy quw 8 (T_wo tX), zzI cy qun 8 (T_ne tX), zzI cy qug 8 (T_go tX), zzI cy qua 8 (T_ag tX), zzI cy qur 8 (T_re tX), zzI cy qum 8 (T_me tX), zzI cy qut 8 (T_te tX), zzI cy qus 64 (shF (T_kn tX))] ∧ (True))) := by
  refine enW RX5 (by decide +kernel) rfl (Nat.le_of_ble_eq_true rfl) (fun p e s m below meth c ls A hx hb hml hown hts hr hlocks hP hN hl hin hD hA hS => ?_)
  have hin : meth.name = _ := hin
  have hK := hN.1
  replace hl : lv_has ls 6 [(0, .ref qx), (1, .int iA), (2, .int iB), (3, .int iC)] := hl
  refine lv_iload_n hx hb (g_28 bX5_run rfl) rfl (lv_at hl 2 rfl) ?_
  refine lv_i2l (v := iB.toInt64) hx hb (g_133 bX5_run rfl) rfl ?_
  refine lv_lconst (v := 1) hx hb (g_10 bX5_run rfl) (by decide +kernel) ?_
  refine lv_ldc2 hx hb hown (hts _ m_t644) (g_20 (v := 250) bX5_run rfl) ?_
  refine kRi (rS (As := [.long iB.toInt64, .long 1, .long 60]) (rest := []) ⟨hx, hb, hml, hown, hts⟩ (c_X5_within l G cy iB.toInt64 1 60) L_X5_50 (preRS hN hP [] rfl) rfl ⟨Nat.le_of_ble_eq_true rfl, Nat.le_of_ble_eq_true rfl⟩ hl.1 (Nat.le_of_ble_eq_true rfl) (g_184 (v := 50) bX5_run rfl) ⟨Nat.le_of_ble_eq_true rfl, Nat.le_of_ble_eq_true rfl⟩) (fun r_1 h_2 => ?_)
  rcases h_2 with ⟨rfl, h_3⟩ | ⟨rfl, h_3⟩
  · obtain ⟨k_4, hk_5, hk_6, rfl⟩ := iv_nI 1 60 (by decide +kernel) (by decide +kernel) h_3
    refine lv_if_eq (tgt := 32) hx hb dX5_run_9 (by decide +kernel) (fun h9 => absurd h9 (by decide +kernel)) (fun _ => ?_)
    refine lv_iload_n hx hb (g_29 bX5_run rfl) rfl (lv_at hl 3 rfl) ?_
    refine lv_i2l (v := iC.toInt64) hx hb (g_133 bX5_run rfl) rfl ?_
    refine lv_lconst (v := 0) hx hb (g_9 bX5_run rfl) (by decide +kernel) ?_
    refine lv_ldc2 hx hb hown (hts _ m_t645) (g_20 (v := 252) bX5_run rfl) ?_
    refine kRi (rS (As := [.long iC.toInt64, .long 0, .long 3]) (rest := []) ⟨hx, hb, hml, hown, hts⟩ (c_X5_within l G cy iC.toInt64 0 3) L_X5_50 (preRS hN hP [] rfl) rfl ⟨Nat.le_of_ble_eq_true rfl, Nat.le_of_ble_eq_true rfl⟩ hl.1 (Nat.le_of_ble_eq_true rfl) (g_184 (v := 50) bX5_run rfl) ⟨Nat.le_of_ble_eq_true rfl, Nat.le_of_ble_eq_true rfl⟩) (fun r_8 h_9 => ?_)
    rcases h_9 with ⟨rfl, h_10⟩ | ⟨rfl, h_10⟩
    · refine lv_if_eq (tgt := 32) hx hb dX5_run_21 (by decide +kernel) (fun h9 => absurd h9 (by decide +kernel)) (fun _ => ?_)
      refine lv_aload_n hx hb (g_42 bX5_run rfl) rfl (lv_at hl 0 rfl) ?_
      refine lv_iload_n hx hb (g_27 bX5_run rfl) rfl (lv_at hl 1 rfl) ?_
      refine kRi (rV (As := [.int iA]) (rest := []) (b := qx) ⟨hx, hb, hml, hown, hts⟩ (c_X5_ruleFit l G cy qx qt qk qp qs qa qr iKp iYe iTv qsh qss qsa qse fH iA) L_X5_100 (preRV (q := (RX5, TX5, 9)) hN hP (trueIx 0 [true, false, true, true]) (sel_fm rfl rfl) 0 4 rfl rfl) rfl ⟨Nat.le_of_ble_eq_true rfl, Nat.le_of_ble_eq_true rfl⟩ hl.1 (Nat.le_of_ble_eq_true rfl) (g_182 (v := 100) bX5_run rfl) ⟨Nat.le_of_ble_eq_true rfl, Nat.le_of_ble_eq_true rfl⟩) (fun r_12 h_13 => ?_)
      rcases h_13 with ⟨rfl, h_14⟩ | ⟨rfl, h_14⟩ | ⟨rfl, h_14⟩ | ⟨rfl, h_14⟩
      · refine lv_goto (tgt := 34) hx hb dX5_run_29 (by decide +kernel) ?_
        refine lv_istore (lv' := [(4, .int (-2)), (0, .ref qx), (1, .int iA), (2, .int (nI k_4)), (3, .int iC)]) hx hb (g_54 (v := 4) bX5_run rfl) hl (by decide +kernel) rfl (fun ls => ?_)
        clear hl
        intro hl
        refine lv_iload hx hb (g_21 (v := 4) bX5_run rfl) (lv_at hl 0 rfl) ?_
        refine lv_if_eq (tgt := 48) hx hb dX5_run_38 (by decide +kernel) (fun h9 => absurd h9 (by decide +kernel)) (fun _ => ?_)
        refine lv_aload_n hx hb (g_42 bX5_run rfl) rfl (lv_at hl 1 rfl) ?_
        refine lv_iload hx hb (g_21 (v := 4) bX5_run rfl) (lv_at hl 0 rfl) ?_
        refine cVi (As := [.int (-2)]) (rest := []) (b := qx) (q := (RX5, TX5, 9)) ⟨hx, hb, hml, hown, hts⟩ (c_X5_refuse2 l G cy (s.heap).size qx qt qk qp qs qa qr iKp iYe iTv fR) L_X5_56 hN hP hD hS hA [0, 1] [false, false, true, true, true, true, true, true, true, true, true, true, true, true, true, true, true, true, true, true, true, true, true, true] rfl (by decide +kernel) rfl 0 4 rfl rfl rfl ⟨Nat.le_of_ble_eq_true rfl, Nat.le_of_ble_eq_true rfl⟩ hl.1 (Nat.le_of_ble_eq_true rfl) (g_182 (v := 56) bX5_run rfl) ⟨Nat.le_of_ble_eq_true rfl, Nat.le_of_ble_eq_true rfl⟩ (fun r_16 u_18 H locs h_17 => ?_)
        clear hP hD hS
        intro hP hD hS
        obtain ⟨fX_19, hu9, h_17⟩ := h_17
        have hPD := pd_eq [_, _, _, _, _, _, _, _, _, _, _, _, _, _, _, _, _, _, _, _, _, _, _, zzI cy qr 5 fX_19] hP hD hu9 rfl
        clear hP hD hu9
        obtain ⟨hP, hD⟩ := hPD
        subst h_17
        exact endWs [[false, false, false, false, false, false, false, false, false, false, false, false, false, false, false, false, false, false, false, false, false, false, true, true], [true, true, true, true, true, true, true, true, true, true, true, true, true, true, true, true, true, true, true, true, true, true]] hx hb hr hlocks rfl hP hD rfl (by decide +kernel) hS ⟨fX_19, iL, iBs, tU, rfl, trivial⟩ (g_172 bX5_run rfl)
      · obtain ⟨k_20, hk_21, rfl, h_22⟩ := h_14
        refine lv_goto (tgt := 34) hx hb dX5_run_29 (by decide +kernel) ?_
        refine lv_istore (lv' := [(4, .int (-3)), (0, .ref qx), (1, .int (nI k_20)), (2, .int (nI k_4)), (3, .int iC)]) hx hb (g_54 (v := 4) bX5_run rfl) hl (by decide +kernel) rfl (fun ls => ?_)
        clear hl
        intro hl
        refine lv_iload hx hb (g_21 (v := 4) bX5_run rfl) (lv_at hl 0 rfl) ?_
        refine lv_if_eq (tgt := 48) hx hb dX5_run_38 (by decide +kernel) (fun h9 => absurd h9 (by decide +kernel)) (fun _ => ?_)
        refine lv_aload_n hx hb (g_42 bX5_run rfl) rfl (lv_at hl 1 rfl) ?_
        refine lv_iload hx hb (g_21 (v := 4) bX5_run rfl) (lv_at hl 0 rfl) ?_
        refine cVi (As := [.int (-3)]) (rest := []) (b := qx) (q := (RX5, TX5, 9)) ⟨hx, hb, hml, hown, hts⟩ (c_X5_refuse3 l G cy (s.heap).size qx qt qk qp qs qa qr iKp iYe iTv fR) L_X5_56 hN hP hD hS hA [0, 1] [false, false, true, true, true, true, true, true, true, true, true, true, true, true, true, true, true, true, true, true, true, true, true, true] rfl (by decide +kernel) rfl 0 4 rfl rfl rfl ⟨Nat.le_of_ble_eq_true rfl, Nat.le_of_ble_eq_true rfl⟩ hl.1 (Nat.le_of_ble_eq_true rfl) (g_182 (v := 56) bX5_run rfl) ⟨Nat.le_of_ble_eq_true rfl, Nat.le_of_ble_eq_true rfl⟩ (fun r_24 u_26 H locs h_25 => ?_)
        clear hP hD hS
        intro hP hD hS
        obtain ⟨fX_27, hu9, h_25⟩ := h_25
        have hPD := pd_eq [_, _, _, _, _, _, _, _, _, _, _, _, _, _, _, _, _, _, _, _, _, _, _, zzI cy qr 5 fX_27] hP hD hu9 rfl
        clear hP hD hu9
        obtain ⟨hP, hD⟩ := hPD
        subst h_25
        exact endWs [[false, false, false, false, false, false, false, false, false, false, false, false, false, false, false, false, false, false, false, false, false, false, true, true], [true, true, true, true, true, true, true, true, true, true, true, true, true, true, true, true, true, true, true, true, true, true]] hx hb hr hlocks rfl hP hD rfl (by decide +kernel) hS ⟨fX_27, iL, iBs, tU, rfl, trivial⟩ (g_172 bX5_run rfl)
      · obtain ⟨k_28, hk_29, rfl, h_30, h_31⟩ := h_14
        refine lv_goto (tgt := 34) hx hb dX5_run_29 (by decide +kernel) ?_
        refine lv_istore (lv' := [(4, .int 0), (0, .ref qx), (1, .int (nI k_28)), (2, .int (nI k_4)), (3, .int iC)]) hx hb (g_54 (v := 4) bX5_run rfl) hl (by decide +kernel) rfl (fun ls => ?_)
        clear hl
        intro hl
        refine lv_iload hx hb (g_21 (v := 4) bX5_run rfl) (lv_at hl 0 rfl) ?_
        refine lv_if_eq (tgt := 48) hx hb dX5_run_38 (by decide +kernel) (fun _ => ?_) (fun h9 => absurd (by decide +kernel) h9)
        refine lv_aload_n hx hb (g_42 bX5_run rfl) rfl (lv_at hl 1 rfl) ?_
        refine va_get (D := G) (ci := 4) (v := .ref qp) (C := RX5) (T := TX5) (N := 9) hx hb hts iX_X5 hown hK hP 0 rfl rfl 2 (by decide +kernel) (hts _ m_t176) (fun _ h9 => h9) rfl (g_180 (v := 22) bX5_run rfl) ?_
        refine lv_aload_n hx hb (g_42 bX5_run rfl) rfl (lv_at hl 1 rfl) ?_
        refine va_get (D := G) (ci := 4) (v := .ref qp) (C := RX5) (T := TX5) (N := 9) hx hb hts iX_X5 hown hK hP 0 rfl rfl 2 (by decide +kernel) (hts _ m_t176) (fun _ h9 => h9) rfl (g_180 (v := 22) bX5_run rfl) ?_
        refine lv_aload_n hx hb (g_42 bX5_run rfl) rfl (lv_at hl 1 rfl) ?_
        refine va_get (D := G) (ci := 4) (v := .ref qt) (C := RX5) (T := TX5) (N := 9) hx hb hts iX_X5 hown hK hP 0 rfl rfl 0 (by decide +kernel) (hts _ m_t174) (fun _ h9 => h9) rfl (g_180 (v := 10) bX5_run rfl) ?_
        refine cVq (As := [.ref qt]) (rest := [.ref qp]) (b := qp) (q := (RX0, TX0, 4)) ⟨hx, hb, hml, hown, hts⟩ (c_X0_trialOf l G cy (s.heap).size qp qu (.ref qv) (.int iL) (.int iBs) tU quw qun qug qua qur qum qut qus qt tA qtw qtn qtg qta qtr qtm qtt qts) L_X5_115 hN hP hD hS hA (trueIxs [[false, false, false, false, false, false, false, false, false, false, false, false, false, false, true, true, true, true, true, true, true, true, true, true], [false, false, false, false, false, true, true, true, true, true, true, true, true, true]]) [true, true, true, true, true, false, false, false, false, false, false, false, false, false, false, false, false, false, false, false, false, false, false, false] (sels_eq rfl rfl) (by decide +kernel) rfl 14 0 rfl rfl rfl ⟨Nat.le_of_ble_eq_true rfl, Nat.le_of_ble_eq_true rfl⟩ hl.1 (Nat.le_of_ble_eq_true rfl) (g_182 (v := 115) bX5_run rfl) ⟨Nat.le_of_ble_eq_true rfl, Nat.le_of_ble_eq_true rfl⟩ (fun r_33 u_35 H locs h_34 => ?_)
        clear hP hD hS
        intro hP hD hS
        obtain ⟨hu9, h_34⟩ := h_34
        have hPD := pd_eq [_, _, _, _, _, _, zzO qu 3 [.int (nI (T_nb tA)), .int (nI (T_np tA)), .int (wb (T_wh tA)), .int (wb (T_gn tA)), .int (T_sd tA), .ref quw, .ref qun, .ref qug, .ref qua, .ref qur, .ref qum, .ref qut, .ref qus], zzI cy quw 8 (T_wo tA), zzI cy qun 8 (T_ne tA), zzI cy qug 8 (T_go tA), zzI cy qua 8 (T_ag tA), zzI cy qur 8 (T_re tA), zzI cy qum 8 (T_me tA), zzI cy qut 8 (T_te tA), zzI cy qus 64 (shF (T_kn tA)), _, _, _, _, _, _, _, _, _] hP hD hu9 rfl
        clear hP hD hu9
        obtain ⟨hP, hD⟩ := hPD
        have h_34 := h_34.symm
        subst h_34
        refine lv_aload_n hx hb (g_42 bX5_run rfl) rfl (lv_at hl 1 rfl) ?_
        refine va_get (D := G) (ci := 4) (v := .ref qs) (C := RX5) (T := TX5) (N := 9) hx hb hts iX_X5 hown hK hP 0 rfl rfl 3 (by decide +kernel) (hts _ m_t177) (fun _ h9 => h9) rfl (g_180 (v := 29) bX5_run rfl) ?_
        refine lv_iload_n hx hb (g_27 bX5_run rfl) rfl (lv_at hl 2 rfl) ?_
        refine kRi (rV (As := [.int (nI k_28)]) (rest := [.ref qu, .ref qp]) (b := qs) ⟨hx, hb, hml, hown, hts⟩ (c_X2_kindIn l G cy qs qsh qss qsa qse fH k_28 (by first | omega | (simp only [nb_sr, np_sr, nb_wr, np_wr, nb_rd, np_rd, nb_ch, np_ch, nb_zr, np_zr, nb_za, np_za, nb_ey, np_ey, nb_hf, np_hf, nb_dd, np_dd, nb_so, np_so, nb_skn, np_skn, nb_swh, np_swh, nb_sgn, np_sgn, nb_ssd, np_ssd, nb_sgo, np_sgo, nb_sag, np_sag]; omega))) L_X5_103 (preRV (q := (RX2, TX2, 4)) hN hP [2, 3] rfl 2 1 rfl rfl) rfl ⟨Nat.le_of_ble_eq_true rfl, Nat.le_of_ble_eq_true rfl⟩ hl.1 (Nat.le_of_ble_eq_true rfl) (g_182 (v := 103) bX5_run rfl) ⟨Nat.le_of_ble_eq_true rfl, Nat.le_of_ble_eq_true rfl⟩) (fun r_36 h_37 => ?_)
        subst h_37
        refine lv_aload_n hx hb (g_42 bX5_run rfl) rfl (lv_at hl 1 rfl) ?_
        refine va_get (D := G) (ci := 4) (v := .ref qs) (C := RX5) (T := TX5) (N := 9) hx hb hts iX_X5 hown hK hP 0 rfl rfl 3 (by decide +kernel) (hts _ m_t177) (fun _ h9 => h9) rfl (g_180 (v := 29) bX5_run rfl) ?_
        refine va_getN (D := G) (ci := 1) (v := .ref qsa) (C := RX2) (T := TX2) (N := 4) hx hb hts iX_X2 hown hK hP 2 rfl rfl 2 (by decide +kernel) (va_Nw.use rfl (hN.2.1 (RX5, 112, "EachBookOnce$Shelves", "amount", "[I") (List.mem_of_getElem? (i := 28) rfl))) (fun _ h9 => h9) rfl (g_180 (v := 112) bX5_run rfl) ?_
        refine lv_iload_n hx hb (g_27 bX5_run rfl) rfl (lv_at hl 2 rfl) ?_
        refine va_iald hx hb hK hP 4 0 rfl rfl (in8 (by omega)) (g_46 bX5_run rfl) ?_
        refine lv_seti (v := fA k_28) (congrArg fA (cl8 (by omega))) ?_
        refine lv_iload_n hx hb (g_28 bX5_run rfl) rfl (lv_at hl 3 rfl) ?_
        refine cVi (As := [.ref qu, .int ((fH k_28) - 10), .int (fA k_28), .int (nI k_4)]) (rest := []) (b := qp) (q := (RX0, TX0, 4)) ⟨hx, hb, hml, hown, hts⟩ (c_X0_sumOfRun l G cy (H).size qp qu (.ref qv) iL iBs tA quw qun qug qua qur qum qut qus ((fH k_28) - 10) (fA k_28) k_4 hB hPp (by first | omega | (simp only [nb_sr, np_sr, nb_wr, np_wr, nb_rd, np_rd, nb_ch, np_ch, nb_zr, np_zr, nb_za, np_za, nb_ey, np_ey, nb_hf, np_hf, nb_dd, np_dd, nb_so, np_so, nb_skn, np_skn, nb_swh, np_swh, nb_sgn, np_sgn, nb_ssd, np_ssd, nb_sgo, np_sgo, nb_sag, np_sag]; omega))) L_X5_254 hN hP hD hS hA (trueIx 0 [false, false, false, false, false, true, true, true, true, true, true, true, true, true, true]) [true, true, true, true, true, false, false, false, false, false, false, false, false, false, false, true, true, true, true, true, true, true, true, true] (sel_eq rfl rfl) (by decide +kernel) rfl 5 0 rfl rfl rfl ⟨Nat.le_of_ble_eq_true rfl, Nat.le_of_ble_eq_true rfl⟩ hl.1 (Nat.le_of_ble_eq_true rfl) (g_182 (v := 254) bX5_run rfl) ⟨Nat.le_of_ble_eq_true rfl, Nat.le_of_ble_eq_true rfl⟩ (fun r_38 u_40 H locs h_39 => ?_)
        clear hP hD hS
        intro hP hD hS
        obtain ⟨hu9, h_39⟩ := h_39
        have hPD := pd_eq [_, _, _, _, _, _, _, _, _, _, _, _, _, _, zzO qp 0 [.ref qu, .ref qv, .int ((srG ((fH k_28) - 10) (fA k_28) k_4 tA iL 0).2.1), .int iBs], zzO qu 3 [.int (nI (T_nb ((srG ((fH k_28) - 10) (fA k_28) k_4 tA iL 0).1))), .int (nI (T_np ((srG ((fH k_28) - 10) (fA k_28) k_4 tA iL 0).1))), .int (wb (T_wh ((srG ((fH k_28) - 10) (fA k_28) k_4 tA iL 0).1))), .int (wb (T_gn ((srG ((fH k_28) - 10) (fA k_28) k_4 tA iL 0).1))), .int (T_sd ((srG ((fH k_28) - 10) (fA k_28) k_4 tA iL 0).1)), .ref quw, .ref qun, .ref qug, .ref qua, .ref qur, .ref qum, .ref qut, .ref qus], zzI cy quw 8 (T_wo ((srG ((fH k_28) - 10) (fA k_28) k_4 tA iL 0).1)), zzI cy qun 8 (T_ne ((srG ((fH k_28) - 10) (fA k_28) k_4 tA iL 0).1)), zzI cy qug 8 (T_go ((srG ((fH k_28) - 10) (fA k_28) k_4 tA iL 0).1)), zzI cy qua 8 (T_ag ((srG ((fH k_28) - 10) (fA k_28) k_4 tA iL 0).1)), zzI cy qur 8 (T_re ((srG ((fH k_28) - 10) (fA k_28) k_4 tA iL 0).1)), zzI cy qum 8 (T_me ((srG ((fH k_28) - 10) (fA k_28) k_4 tA iL 0).1)), zzI cy qut 8 (T_te ((srG ((fH k_28) - 10) (fA k_28) k_4 tA iL 0).1)), zzI cy qus 64 (shF (T_kn ((srG ((fH k_28) - 10) (fA k_28) k_4 tA iL 0).1)))] hP hD hu9 rfl
        clear hP hD hu9
        obtain ⟨hP, hD⟩ := hPD
        subst h_39
        refine lv_istore (lv' := [(5, .int ((srG ((fH k_28) - 10) (fA k_28) k_4 tA iL 0).2.2)), (4, .int 0), (0, .ref qx), (1, .int (nI k_28)), (2, .int (nI k_4)), (3, .int iC)]) hx hb (g_54 (v := 5) bX5_run rfl) hl (by decide +kernel) rfl (fun ls => ?_)
        clear hl
        intro hl
        refine lv_iload_n hx hb (g_29 bX5_run rfl) rfl (lv_at hl 5 rfl) ?_
        rcases sw_0_2 iC with rfl | rfl | rfl | h_41
        · refine lv_tableIn (tgt := 112) (off := 25) hx hb dX5_run_87 (by decide +kernel) (by decide +kernel) (by decide +kernel) (by decide +kernel) ?_
          refine lv_iload hx hb (g_21 (v := 5) bX5_run rfl) (lv_at hl 0 rfl) ?_
          exact endWs [[true, true, true, true, true, true, true, true, true, true, true, true, true, true, true, true, true, true, true, true, true, true, true, true]] hx hb hr hlocks rfl hP hD rfl (by decide +kernel) hS ⟨fR, (srG ((fH k_28) - 10) (fA k_28) k_4 tA iL 0).2.1, iBs, ((srG ((fH k_28) - 10) (fA k_28) k_4 tA iL 0).1), rfl, trivial⟩ (g_172 bX5_run rfl)
        · refine lv_tableIn (tgt := 115) (off := 28) hx hb dX5_run_87 (by decide +kernel) (by decide +kernel) (by decide +kernel) (by decide +kernel) ?_
          refine lv_aload_n hx hb (g_42 bX5_run rfl) rfl (lv_at hl 2 rfl) ?_
          refine va_get (D := G) (ci := 4) (v := .ref qp) (C := RX5) (T := TX5) (N := 9) hx hb hts iX_X5 hown hK hP 0 rfl rfl 2 (by decide +kernel) (hts _ m_t176) (fun _ h9 => h9) rfl (g_180 (v := 22) bX5_run rfl) ?_
          refine va_getN (D := G) (ci := 0) (v := .int ((srG ((fH k_28) - 10) (fA k_28) k_4 tA iL 0).2.1)) (C := RX0) (T := TX0) (N := 4) hx hb hts iX_X0 hown hK hP 14 rfl rfl 2 (by decide +kernel) (va_Nw.use rfl (hN.2.1 (RX5, 258, "EachBookOnce$Plans", "lastValue", "I") (List.mem_of_getElem? (i := 24) rfl))) (fun _ h9 => h9) rfl (g_180 (v := 258) bX5_run rfl) ?_
          exact endWs [[true, true, true, true, true, true, true, true, true, true, true, true, true, true, true, true, true, true, true, true, true, true, true, true]] hx hb hr hlocks rfl hP hD rfl (by decide +kernel) hS ⟨fR, (srG ((fH k_28) - 10) (fA k_28) k_4 tA iL 0).2.1, iBs, ((srG ((fH k_28) - 10) (fA k_28) k_4 tA iL 0).1), rfl, trivial⟩ (g_172 bX5_run rfl)
        · refine lv_tableIn (tgt := 123) (off := 36) hx hb dX5_run_87 (by decide +kernel) (by decide +kernel) (by decide +kernel) (by decide +kernel) ?_
          refine lv_aload_n hx hb (g_42 bX5_run rfl) rfl (lv_at hl 2 rfl) ?_
          refine va_get (D := G) (ci := 4) (v := .ref qp) (C := RX5) (T := TX5) (N := 9) hx hb hts iX_X5 hown hK hP 0 rfl rfl 2 (by decide +kernel) (hts _ m_t176) (fun _ h9 => h9) rfl (g_180 (v := 22) bX5_run rfl) ?_
          refine va_getN (D := G) (ci := 0) (v := .ref qu) (C := RX0) (T := TX0) (N := 4) hx hb hts iX_X0 hown hK hP 14 rfl rfl 0 (by decide +kernel) (va_Nw.use rfl (hN.2.1 (RX5, 261, "EachBookOnce$Plans", "trial", "LEachBookOnce$Town;") (List.mem_of_getElem? (i := 23) rfl))) (fun _ h9 => h9) rfl (g_180 (v := 261) bX5_run rfl) ?_
          refine va_getN (D := G) (ci := 3) (v := .int (wb (T_wh ((srG ((fH k_28) - 10) (fA k_28) k_4 tA iL 0).1)))) (C := RX4) (T := TX4) (N := 13) hx hb hts iX_X4 hown hK hP 15 rfl rfl 2 (by decide +kernel) (va_Nw.use rfl (hN.2.1 (RX5, 180, "EachBookOnce$Town", "white", "I") (List.mem_of_getElem? (i := 10) rfl))) (fun _ h9 => h9) rfl (g_180 (v := 180) bX5_run rfl) ?_
          refine kRi (rS (As := [.int (wb (T_wh ((srG ((fH k_28) - 10) (fA k_28) k_4 tA iL 0).1)))]) (rest := []) ⟨hx, hb, hml, hown, hts⟩ (c_J6_bitCount l G cy (wb (T_wh ((srG ((fH k_28) - 10) (fA k_28) k_4 tA iL 0).1)))) L_X5_264 (preRS hN hP [] rfl) rfl ⟨Nat.le_of_ble_eq_true rfl, Nat.le_of_ble_eq_true rfl⟩ hl.1 (Nat.le_of_ble_eq_true rfl) (g_184 (v := 264) bX5_run rfl) ⟨Nat.le_of_ble_eq_true rfl, Nat.le_of_ble_eq_true rfl⟩) (fun r_42 h_43 => ?_)
          subst h_43
          exact endWs [[true, true, true, true, true, true, true, true, true, true, true, true, true, true, true, true, true, true, true, true, true, true, true, true]] hx hb hr hlocks rfl hP hD rfl (by decide +kernel) hS ⟨fR, (srG ((fH k_28) - 10) (fA k_28) k_4 tA iL 0).2.1, iBs, ((srG ((fH k_28) - 10) (fA k_28) k_4 tA iL 0).1), rfl, trivial⟩ (g_172 bX5_run rfl)
        · refine lv_tableOut (tgt := 137) hx hb dX5_run_87 h_41 (by decide +kernel) ?_
          refine lv_aload_n hx hb (g_42 bX5_run rfl) rfl (lv_at hl 2 rfl) ?_
          refine va_get (D := G) (ci := 4) (v := .ref qp) (C := RX5) (T := TX5) (N := 9) hx hb hts iX_X5 hown hK hP 0 rfl rfl 2 (by decide +kernel) (hts _ m_t176) (fun _ h9 => h9) rfl (g_180 (v := 22) bX5_run rfl) ?_
          refine va_getN (D := G) (ci := 0) (v := .ref qu) (C := RX0) (T := TX0) (N := 4) hx hb hts iX_X0 hown hK hP 14 rfl rfl 0 (by decide +kernel) (va_Nw.use rfl (hN.2.1 (RX5, 261, "EachBookOnce$Plans", "trial", "LEachBookOnce$Town;") (List.mem_of_getElem? (i := 23) rfl))) (fun _ h9 => h9) rfl (g_180 (v := 261) bX5_run rfl) ?_
          refine kRi (rV (As := []) (rest := []) (b := qu) ⟨hx, hb, hml, hown, hts⟩ (c_X4_setThere l G cy qu ((srG ((fH k_28) - 10) (fA k_28) k_4 tA iL 0).1) quw qun qug qua qur qum qut qus (by first | omega | (simp only [nb_sr, np_sr, nb_wr, np_wr, nb_rd, np_rd, nb_ch, np_ch, nb_zr, np_zr, nb_za, np_za, nb_ey, np_ey, nb_hf, np_hf, nb_dd, np_dd, nb_so, np_so, nb_skn, np_skn, nb_swh, np_swh, nb_sgn, np_sgn, nb_ssd, np_ssd, nb_sgo, np_sgo, nb_sag, np_sag]; omega))) L_X5_269 (preRV (q := (RX4, TX4, 13)) hN hP [15] rfl 15 3 rfl rfl) rfl ⟨Nat.le_of_ble_eq_true rfl, Nat.le_of_ble_eq_true rfl⟩ hl.1 (Nat.le_of_ble_eq_true rfl) (g_182 (v := 269) bX5_run rfl) ⟨Nat.le_of_ble_eq_true rfl, Nat.le_of_ble_eq_true rfl⟩) (fun r_44 h_45 => ?_)
          subst h_45
          refine kRi (rS (As := [.int (zthere ((srG ((fH k_28) - 10) (fA k_28) k_4 tA iL 0).1))]) (rest := []) ⟨hx, hb, hml, hown, hts⟩ (c_J6_bitCount l G cy (zthere ((srG ((fH k_28) - 10) (fA k_28) k_4 tA iL 0).1))) L_X5_264 (preRS hN hP [] rfl) rfl ⟨Nat.le_of_ble_eq_true rfl, Nat.le_of_ble_eq_true rfl⟩ hl.1 (Nat.le_of_ble_eq_true rfl) (g_184 (v := 264) bX5_run rfl) ⟨Nat.le_of_ble_eq_true rfl, Nat.le_of_ble_eq_true rfl⟩) (fun r_46 h_47 => ?_)
          subst h_47
          exact endWs [[true, true, true, true, true, true, true, true, true, true, true, true, true, true, true, true, true, true, true, true, true, true, true, true]] hx hb hr hlocks rfl hP hD rfl (by decide +kernel) hS ⟨fR, (srG ((fH k_28) - 10) (fA k_28) k_4 tA iL 0).2.1, iBs, ((srG ((fH k_28) - 10) (fA k_28) k_4 tA iL 0).1), rfl, trivial⟩ (g_172 bX5_run rfl)
      · obtain ⟨k_48, hk_49, rfl, h_50, h_51⟩ := h_14
        refine lv_goto (tgt := 34) hx hb dX5_run_29 (by decide +kernel) ?_
        refine lv_istore (lv' := [(4, .int (-4)), (0, .ref qx), (1, .int (nI k_48)), (2, .int (nI k_4)), (3, .int iC)]) hx hb (g_54 (v := 4) bX5_run rfl) hl (by decide +kernel) rfl (fun ls => ?_)
        clear hl
        intro hl
        refine lv_iload hx hb (g_21 (v := 4) bX5_run rfl) (lv_at hl 0 rfl) ?_
        refine lv_if_eq (tgt := 48) hx hb dX5_run_38 (by decide +kernel) (fun h9 => absurd h9 (by decide +kernel)) (fun _ => ?_)
        refine lv_aload_n hx hb (g_42 bX5_run rfl) rfl (lv_at hl 1 rfl) ?_
        refine lv_iload hx hb (g_21 (v := 4) bX5_run rfl) (lv_at hl 0 rfl) ?_
        refine cVi (As := [.int (-4)]) (rest := []) (b := qx) (q := (RX5, TX5, 9)) ⟨hx, hb, hml, hown, hts⟩ (c_X5_refuse4 l G cy (s.heap).size qx qt qk qp qs qa qr iKp iYe iTv fR) L_X5_56 hN hP hD hS hA [0, 1] [false, false, true, true, true, true, true, true, true, true, true, true, true, true, true, true, true, true, true, true, true, true, true, true] rfl (by decide +kernel) rfl 0 4 rfl rfl rfl ⟨Nat.le_of_ble_eq_true rfl, Nat.le_of_ble_eq_true rfl⟩ hl.1 (Nat.le_of_ble_eq_true rfl) (g_182 (v := 56) bX5_run rfl) ⟨Nat.le_of_ble_eq_true rfl, Nat.le_of_ble_eq_true rfl⟩ (fun r_53 u_55 H locs h_54 => ?_)
        clear hP hD hS
        intro hP hD hS
        obtain ⟨fX_56, hu9, h_54⟩ := h_54
        have hPD := pd_eq [_, _, _, _, _, _, _, _, _, _, _, _, _, _, _, _, _, _, _, _, _, _, _, zzI cy qr 5 fX_56] hP hD hu9 rfl
        clear hP hD hu9
        obtain ⟨hP, hD⟩ := hPD
        subst h_54
        exact endWs [[false, false, false, false, false, false, false, false, false, false, false, false, false, false, false, false, false, false, false, false, false, false, true, true], [true, true, true, true, true, true, true, true, true, true, true, true, true, true, true, true, true, true, true, true, true, true]] hx hb hr hlocks rfl hP hD rfl (by decide +kernel) hS ⟨fX_56, iL, iBs, tU, rfl, trivial⟩ (g_172 bX5_run rfl)
    · refine lv_if_eq (tgt := 32) hx hb dX5_run_21 (by decide +kernel) (fun _ => ?_) (fun h9 => absurd (by decide +kernel) h9)
      refine lv_bipush (v := (-2)) hx hb dX5_run_32 (by decide +kernel) ?_
      refine lv_istore (lv' := [(4, .int (-2)), (0, .ref qx), (1, .int iA), (2, .int (nI k_4)), (3, .int iC)]) hx hb (g_54 (v := 4) bX5_run rfl) hl (by decide +kernel) rfl (fun ls => ?_)
      clear hl
      intro hl
      refine lv_iload hx hb (g_21 (v := 4) bX5_run rfl) (lv_at hl 0 rfl) ?_
      refine lv_if_eq (tgt := 48) hx hb dX5_run_38 (by decide +kernel) (fun h9 => absurd h9 (by decide +kernel)) (fun _ => ?_)
      refine lv_aload_n hx hb (g_42 bX5_run rfl) rfl (lv_at hl 1 rfl) ?_
      refine lv_iload hx hb (g_21 (v := 4) bX5_run rfl) (lv_at hl 0 rfl) ?_
      refine cVi (As := [.int (-2)]) (rest := []) (b := qx) (q := (RX5, TX5, 9)) ⟨hx, hb, hml, hown, hts⟩ (c_X5_refuse2 l G cy (s.heap).size qx qt qk qp qs qa qr iKp iYe iTv fR) L_X5_56 hN hP hD hS hA [0, 1] [false, false, true, true, true, true, true, true, true, true, true, true, true, true, true, true, true, true, true, true, true, true, true, true] rfl (by decide +kernel) rfl 0 4 rfl rfl rfl ⟨Nat.le_of_ble_eq_true rfl, Nat.le_of_ble_eq_true rfl⟩ hl.1 (Nat.le_of_ble_eq_true rfl) (g_182 (v := 56) bX5_run rfl) ⟨Nat.le_of_ble_eq_true rfl, Nat.le_of_ble_eq_true rfl⟩ (fun r_59 u_61 H locs h_60 => ?_)
      clear hP hD hS
      intro hP hD hS
      obtain ⟨fX_62, hu9, h_60⟩ := h_60
      have hPD := pd_eq [_, _, _, _, _, _, _, _, _, _, _, _, _, _, _, _, _, _, _, _, _, _, _, zzI cy qr 5 fX_62] hP hD hu9 rfl
      clear hP hD hu9
      obtain ⟨hP, hD⟩ := hPD
      subst h_60
      exact endWs [[false, false, false, false, false, false, false, false, false, false, false, false, false, false, false, false, false, false, false, false, false, false, true, true], [true, true, true, true, true, true, true, true, true, true, true, true, true, true, true, true, true, true, true, true, true, true]] hx hb hr hlocks rfl hP hD rfl (by decide +kernel) hS ⟨fX_62, iL, iBs, tU, rfl, trivial⟩ (g_172 bX5_run rfl)
  · refine lv_if_eq (tgt := 32) hx hb dX5_run_9 (by decide +kernel) (fun _ => ?_) (fun h9 => absurd (by decide +kernel) h9)
    refine lv_bipush (v := (-2)) hx hb dX5_run_32 (by decide +kernel) ?_
    refine lv_istore (lv' := [(4, .int (-2)), (0, .ref qx), (1, .int iA), (2, .int iB), (3, .int iC)]) hx hb (g_54 (v := 4) bX5_run rfl) hl (by decide +kernel) rfl (fun ls => ?_)
    clear hl
    intro hl
    refine lv_iload hx hb (g_21 (v := 4) bX5_run rfl) (lv_at hl 0 rfl) ?_
    refine lv_if_eq (tgt := 48) hx hb dX5_run_38 (by decide +kernel) (fun h9 => absurd h9 (by decide +kernel)) (fun _ => ?_)
    refine lv_aload_n hx hb (g_42 bX5_run rfl) rfl (lv_at hl 1 rfl) ?_
    refine lv_iload hx hb (g_21 (v := 4) bX5_run rfl) (lv_at hl 0 rfl) ?_
    refine cVi (As := [.int (-2)]) (rest := []) (b := qx) (q := (RX5, TX5, 9)) ⟨hx, hb, hml, hown, hts⟩ (c_X5_refuse2 l G cy (s.heap).size qx qt qk qp qs qa qr iKp iYe iTv fR) L_X5_56 hN hP hD hS hA [0, 1] [false, false, true, true, true, true, true, true, true, true, true, true, true, true, true, true, true, true, true, true, true, true, true, true] rfl (by decide +kernel) rfl 0 4 rfl rfl rfl ⟨Nat.le_of_ble_eq_true rfl, Nat.le_of_ble_eq_true rfl⟩ hl.1 (Nat.le_of_ble_eq_true rfl) (g_182 (v := 56) bX5_run rfl) ⟨Nat.le_of_ble_eq_true rfl, Nat.le_of_ble_eq_true rfl⟩ (fun r_65 u_67 H locs h_66 => ?_)
    clear hP hD hS
    intro hP hD hS
    obtain ⟨fX_68, hu9, h_66⟩ := h_66
    have hPD := pd_eq [_, _, _, _, _, _, _, _, _, _, _, _, _, _, _, _, _, _, _, _, _, _, _, zzI cy qr 5 fX_68] hP hD hu9 rfl
    clear hP hD hu9
    obtain ⟨hP, hD⟩ := hPD
    subst h_66
    exact endWs [[false, false, false, false, false, false, false, false, false, false, false, false, false, false, false, false, false, false, false, false, false, false, true, true], [true, true, true, true, true, true, true, true, true, true, true, true, true, true, true, true, true, true, true, true, true, true]] hx hb hr hlocks rfl hP hD rfl (by decide +kernel) hS ⟨fX_68, iL, iBs, tU, rfl, trivial⟩ (g_172 bX5_run rfl)
set_option maxHeartbeats 4000000 in
set_option maxRecDepth 100000 in
theorem p_X5_head (l : Launch) (G : va_G) (cy : Nat → ClassId) (sz : Nat) (qx : Nat) (qt : Nat) (qk : Nat) (qp : Nat) (qs : Nat) (qa : Nat) (qr : Nat) (iKp : Int32) (iYe : Int32) (iTv : Int32) (fR : Nat → Int32) (qsh : Nat) (qss : Nat) (qsa : Nat) (qse : Nat) (fH : Nat → Int32) (fA : Nat → Int32) (tA : TA) (qtw : Nat) (qtn : Nat) (qtg : Nat) (qta : Nat) (qtr : Nat) (qtm : Nat) (qtt : Nat) (qts : Nat) (qu : Nat) (qv : Nat) (iL : Int32) (iBs : Int32) (tU : TA) (quw : Nat) (qun : Nat) (qug : Nat) (qua : Nat) (qur : Nat) (qum : Nat) (qut : Nat) (qus : Nat) (iA : Int32)  (hB : T_nb tA ≤ 8) (hPp : T_np tA ≤ 8) : MW l yX5_head cX5_head 6 (some .int) 12 0 0 G cy [zzO qx 4 [.ref qt, .ref qk, .ref qp, .ref qs, .ref qa, .ref qr, .int iKp, .int iYe, .int iTv], zzI cy qr 5 fR, zzO qs 1 [.ref qsh, .ref qss, .ref qsa, .ref qse], zzI cy qsh 8 fH, zzI cy qsa 8 fA, zzO qt 3 [.int (nI (T_nb tA)), .int (nI (T_np tA)), .int (wb (T_wh tA)), .int (wb (T_gn tA)), .int (T_sd tA), .ref qtw, .ref qtn, .ref qtg, .ref qta, .ref qtr, .ref qtm, .ref qtt, .ref qts], zzI cy qtw 8 (T_wo tA), zzI cy qtn 8 (T_ne tA), zzI cy qtg 8 (T_go tA), zzI cy qta 8 (T_ag tA), zzI cy qtr 8 (T_re tA), zzI cy qtm 8 (T_me tA), zzI cy qtt 8 (T_te tA), zzI cy qts 64 (shF (T_kn tA)), zzO qp 0 [.ref qu, .ref qv, .int iL, .int iBs], zzO qu 3 [.int (nI (T_nb tU)), .int (nI (T_np tU)), .int (wb (T_wh tU)), .int (wb (T_gn tU)), .int (T_sd tU), .ref quw, .ref qun, .ref qug, .ref qua, .ref qur, .ref qum, .ref qut, .ref qus], zzI cy quw 8 (T_wo tU), zzI cy qun 8 (T_ne tU), zzI cy qug 8 (T_go tU), zzI cy qua 8 (T_ag tU), zzI cy qur 8 (T_re tU), zzI cy qum 8 (T_me tU), zzI cy qut 8 (T_te tU), zzI cy qus 64 (shF (T_kn tU))] sz [.ref qx, .int iA] (Wi G (fun r u => ∃ (fX : Nat → Int32) (iX : Int32) (iY : Int32) (tX : TA), u = [zzO qx 4 [.ref qt, .ref qk, .ref qp, .ref qs, .ref qa, .ref qr, .int iKp, .int iYe, .int iTv], zzI cy qr 5 fX, zzO qs 1 [.ref qsh, .ref qss, .ref qsa, .ref qse], zzI cy qsh 8 fH, zzI cy qsa 8 fA, zzO qt 3 [.int (nI (T_nb tA)), .int (nI (T_np tA)), .int (wb (T_wh tA)), .int (wb (T_gn tA)), .int (T_sd tA), .ref qtw, .ref qtn, .ref qtg, .ref qta, .ref qtr, .ref qtm, .ref qtt, .ref qts], zzI cy qtw 8 (T_wo tA), zzI cy qtn 8 (T_ne tA), zzI cy qtg 8 (T_go tA), zzI cy qta 8 (T_ag tA), zzI cy qtr 8 (T_re tA), zzI cy qtm 8 (T_me tA), zzI cy qtt 8 (T_te tA), zzI cy qts 64 (shF (T_kn tA)), zzO qp 0 [.ref qu, .ref qv, .int iX, .int iY], zzO qu 3 [.int (nI (T_nb tX)), .int (nI (T_np tX)), .int (wb (T_wh tX)), .int (wb (T_gn tX)), .int (T_sd tX), .ref quw, .ref qun, .ref qug, .ref qua, .ref qur, .ref qum, .ref qut, .ref qus], zzI cy quw 8 (T_wo tX), zzI cy qun 8 (T_ne tX), zzI cy qug 8 (T_go tX), zzI cy qua 8 (T_ag tX), zzI cy qur 8 (T_re tX), zzI cy qum 8 (T_me tX), zzI cy qut 8 (T_te tX), zzI cy qus 64 (shF (T_kn tX))] ∧ (True))) := by
  refine enW RX5 (by decide +kernel) rfl (Nat.le_of_ble_eq_true rfl) (fun p e s m below meth c ls A hx hb hml hown hts hr hlocks hP hN hl hin hD hA hS => ?_)
  have hin : meth.name = _ := hin
  have hK := hN.1
  replace hl : lv_has ls 6 [(0, .ref qx), (1, .int iA)] := hl
  refine lv_iload_n hx hb (g_27 bX5_head rfl) rfl (lv_at hl 1 rfl) ?_
  refine lv_i2l (v := iA.toInt64) hx hb (g_133 bX5_head rfl) rfl ?_
  refine lv_lconst (v := 1) hx hb (g_10 bX5_head rfl) (by decide +kernel) ?_
  refine lv_ldc2 hx hb hown (hts _ m_t644) (g_20 (v := 250) bX5_head rfl) ?_
  refine kRi (rS (As := [.long iA.toInt64, .long 1, .long 60]) (rest := []) ⟨hx, hb, hml, hown, hts⟩ (c_X5_within l G cy iA.toInt64 1 60) L_X5_50 (preRS hN hP [] rfl) rfl ⟨Nat.le_of_ble_eq_true rfl, Nat.le_of_ble_eq_true rfl⟩ hl.1 (Nat.le_of_ble_eq_true rfl) (g_184 (v := 50) bX5_head rfl) ⟨Nat.le_of_ble_eq_true rfl, Nat.le_of_ble_eq_true rfl⟩) (fun r_1 h_2 => ?_)
  rcases h_2 with ⟨rfl, h_3⟩ | ⟨rfl, h_3⟩
  · obtain ⟨k_4, hk_5, hk_6, rfl⟩ := iv_nI 1 60 (by decide +kernel) (by decide +kernel) h_3
    refine lv_if_ne (tgt := 19) hx hb dX5_head_9 (by decide +kernel) (fun _ => ?_) (fun h9 => absurd h9 (by decide +kernel))
    refine lv_iconst (v := (-1)) hx hb (g_2 bX5_head rfl) (by decide +kernel) ?_
    refine lv_istore_n (lv' := [(2, .int (-1)), (0, .ref qx), (1, .int (nI k_4))]) hx hb (g_61 bX5_head rfl) rfl hl (by decide +kernel) rfl (fun ls => ?_)
    clear hl
    intro hl
    refine lv_iconst (v := 0) hx hb (g_3 bX5_head rfl) (by decide +kernel) ?_
    refine lv_istore_n (lv' := [(3, .int 0), (2, .int (-1)), (0, .ref qx), (1, .int (nI k_4))]) hx hb (g_62 bX5_head rfl) rfl hl (by decide +kernel) rfl (fun ls => ?_)
    clear hl
    intro hl
    refine lv_iconst (v := 0) hx hb (g_3 bX5_head rfl) (by decide +kernel) ?_
    refine lv_istore (lv' := [(4, .int 0), (3, .int 0), (2, .int (-1)), (0, .ref qx), (1, .int (nI k_4))]) hx hb (g_54 (v := 4) bX5_head rfl) hl (by decide +kernel) rfl (fun ls => ?_)
    clear hl
    intro hl
    have lp_8 : ∀ (n_9 : Nat) (j_11 : Nat) (tJ_12 : TA) (xB_13 : Int32) (xM_14 : Int32) (xL_15 : Int32), 8 - j_11 < n_9 → j_11 ≤ 8 → ∀ (H : Heap) (locs : List Loc) (ls : Array Slot), va_P G CL [zzO qx 4 [.ref qt, .ref qk, .ref qp, .ref qs, .ref qa, .ref qr, .int iKp, .int iYe, .int iTv], zzI cy qr 5 fR, zzO qs 1 [.ref qsh, .ref qss, .ref qsa, .ref qse], zzI cy qsh 8 fH, zzI cy qsa 8 fA, zzO qt 3 [.int (nI (T_nb tA)), .int (nI (T_np tA)), .int (wb (T_wh tA)), .int (wb (T_gn tA)), .int (T_sd tA), .ref qtw, .ref qtn, .ref qtg, .ref qta, .ref qtr, .ref qtm, .ref qtt, .ref qts], zzI cy qtw 8 (T_wo tA), zzI cy qtn 8 (T_ne tA), zzI cy qtg 8 (T_go tA), zzI cy qta 8 (T_ag tA), zzI cy qtr 8 (T_re tA), zzI cy qtm 8 (T_me tA), zzI cy qtt 8 (T_te tA), zzI cy qts 64 (shF (T_kn tA)), zzO qp 0 [.ref qu, .ref qv, .int xL_15, .int iBs], zzO qu 3 [.int (nI (T_nb tJ_12)), .int (nI (T_np tJ_12)), .int (wb (T_wh tJ_12)), .int (wb (T_gn tJ_12)), .int (T_sd tJ_12), .ref quw, .ref qun, .ref qug, .ref qua, .ref qur, .ref qum, .ref qut, .ref qus], zzI cy quw 8 (T_wo tJ_12), zzI cy qun 8 (T_ne tJ_12), zzI cy qug 8 (T_go tJ_12), zzI cy qua 8 (T_ag tJ_12), zzI cy qur 8 (T_re tJ_12), zzI cy qum 8 (T_me tJ_12), zzI cy qut 8 (T_te tJ_12), zzI cy qus 64 (shF (T_kn tJ_12))] H → va_D A [zzO qx 4 [.ref qt, .ref qk, .ref qp, .ref qs, .ref qa, .ref qr, .int iKp, .int iYe, .int iTv], zzI cy qr 5 fR, zzO qs 1 [.ref qsh, .ref qss, .ref qsa, .ref qse], zzI cy qsh 8 fH, zzI cy qsa 8 fA, zzO qt 3 [.int (nI (T_nb tA)), .int (nI (T_np tA)), .int (wb (T_wh tA)), .int (wb (T_gn tA)), .int (T_sd tA), .ref qtw, .ref qtn, .ref qtg, .ref qta, .ref qtr, .ref qtm, .ref qtt, .ref qts], zzI cy qtw 8 (T_wo tA), zzI cy qtn 8 (T_ne tA), zzI cy qtg 8 (T_go tA), zzI cy qta 8 (T_ag tA), zzI cy qtr 8 (T_re tA), zzI cy qtm 8 (T_me tA), zzI cy qtt 8 (T_te tA), zzI cy qts 64 (shF (T_kn tA)), zzO qp 0 [.ref qu, .ref qv, .int xL_15, .int iBs], zzO qu 3 [.int (nI (T_nb tJ_12)), .int (nI (T_np tJ_12)), .int (wb (T_wh tJ_12)), .int (wb (T_gn tJ_12)), .int (T_sd tJ_12), .ref quw, .ref qun, .ref qug, .ref qua, .ref qur, .ref qum, .ref qut, .ref qus], zzI cy quw 8 (T_wo tJ_12), zzI cy qun 8 (T_ne tJ_12), zzI cy qug 8 (T_go tJ_12), zzI cy qua 8 (T_ag tJ_12), zzI cy qur 8 (T_re tJ_12), zzI cy qum 8 (T_me tJ_12), zzI cy qut 8 (T_te tJ_12), zzI cy qus 64 (shF (T_kn tJ_12))] → va_S A s.heap H locs → lv_has ls 6 [(4, .int (nI j_11)), (3, .int xM_14), (2, .int xB_13), (0, .ref qx), (1, .int (nI k_4))] → W p l e (Rm 12 0 0) s m (List.toArray (α := Value) [.ref qx, .int (nI k_4)]) below meth c H locs 0 0 (MQ below ((Wi G (fun r u => ∃ (fX : Nat → Int32) (iX : Int32) (iY : Int32) (tX : TA), u = [zzO qx 4 [.ref qt, .ref qk, .ref qp, .ref qs, .ref qa, .ref qr, .int iKp, .int iYe, .int iTv], zzI cy qr 5 fX, zzO qs 1 [.ref qsh, .ref qss, .ref qsa, .ref qse], zzI cy qsh 8 fH, zzI cy qsa 8 fA, zzO qt 3 [.int (nI (T_nb tA)), .int (nI (T_np tA)), .int (wb (T_wh tA)), .int (wb (T_gn tA)), .int (T_sd tA), .ref qtw, .ref qtn, .ref qtg, .ref qta, .ref qtr, .ref qtm, .ref qtt, .ref qts], zzI cy qtw 8 (T_wo tA), zzI cy qtn 8 (T_ne tA), zzI cy qtg 8 (T_go tA), zzI cy qta 8 (T_ag tA), zzI cy qtr 8 (T_re tA), zzI cy qtm 8 (T_me tA), zzI cy qtt 8 (T_te tA), zzI cy qts 64 (shF (T_kn tA)), zzO qp 0 [.ref qu, .ref qv, .int iX, .int iY], zzO qu 3 [.int (nI (T_nb tX)), .int (nI (T_np tX)), .int (wb (T_wh tX)), .int (wb (T_gn tX)), .int (T_sd tX), .ref quw, .ref qun, .ref qug, .ref qua, .ref qur, .ref qum, .ref qut, .ref qus], zzI cy quw 8 (T_wo tX), zzI cy qun 8 (T_ne tX), zzI cy qug 8 (T_go tX), zzI cy qua 8 (T_ag tX), zzI cy qur 8 (T_re tX), zzI cy qum 8 (T_me tX), zzI cy qut 8 (T_te tX), zzI cy qus 64 (shF (T_kn tX))] ∧ (True))) A) (List.toArray (α := Value) [.ref qx, .int (nI k_4)]) s 0 0 A) (F0 m 26 ls []) := by
      intro n_9
      induction n_9 with
      | zero => intro j_11 tJ_12 xB_13 xM_14 xL_15 hm9; exact absurd hm9 (Nat.not_lt_zero _)
      | succ n_9 ih_10 =>
        intro j_11 tJ_12 xB_13 xM_14 xL_15 hm_17 hj_16 H locs ls hP hD hS hl
        refine lv_iload hx hb (g_21 (v := 4) bX5_head rfl) (lv_at hl 0 rfl) ?_
        refine lv_bipush (v := 8) hx hb dX5_head_28 (by decide +kernel) ?_
        refine lv_icmp_ge (tgt := 105) hx hb dX5_head_30 (by decide +kernel) (fun c_18 => ?_) (fun c_18 => ?_)
        · have hlt_19 : j_11 = 8 := Nat.le_antisymm (by omega) (lp_ge rfl (rfl : (8 : Int32) = nI 8) (by omega) (by omega) c_18)
          refine lv_iload_n hx hb (g_28 bX5_head rfl) rfl (lv_at hl 2 rfl) ?_
          refine lv_iconst (v := (-1)) hx hb (g_2 bX5_head rfl) (by decide +kernel) ?_
          refine lv_icmp_ne (tgt := 119) hx hb dX5_head_107 (by decide +kernel) (fun c_20 => ?_) (fun c_20 => ?_)
          · refine lv_iload_n hx hb (g_28 bX5_head rfl) rfl (lv_at hl 2 rfl) ?_
            exact endWs [[true, true, true, true, true, true, true, true, true, true, true, true, true, true, true, true, true, true, true, true, true, true, true, true]] hx hb hr hlocks rfl hP hD rfl (by decide +kernel) hS ⟨fR, xL_15, iBs, tJ_12, rfl, trivial⟩ (g_172 bX5_head rfl)
          · refine lv_aload_n hx hb (g_42 bX5_head rfl) rfl (lv_at hl 3 rfl) ?_
            refine lv_bipush (v := (-5)) hx hb dX5_head_111 (by decide +kernel) ?_
            refine cVi (As := [.int (-5)]) (rest := []) (b := qx) (q := (RX5, TX5, 9)) ⟨hx, hb, hml, hown, hts⟩ (c_X5_refuse5 l G cy (H).size qx qt qk qp qs qa qr iKp iYe iTv fR) L_X5_56 hN hP hD hS hA [0, 1] [false, false, true, true, true, true, true, true, true, true, true, true, true, true, true, true, true, true, true, true, true, true, true, true] rfl (by decide +kernel) rfl 0 4 rfl rfl rfl ⟨Nat.le_of_ble_eq_true rfl, Nat.le_of_ble_eq_true rfl⟩ hl.1 (Nat.le_of_ble_eq_true rfl) (g_182 (v := 56) bX5_head rfl) ⟨Nat.le_of_ble_eq_true rfl, Nat.le_of_ble_eq_true rfl⟩ (fun r_21 u_23 H locs h_22 => ?_)
            clear hP hD hS
            intro hP hD hS
            obtain ⟨fX_24, hu9, h_22⟩ := h_22
            have hPD := pd_eq [_, _, _, _, _, _, _, _, _, _, _, _, zzO qp 0 [.ref qu, .ref qv, .int xL_15, .int iBs], zzO qu 3 [.int (nI (T_nb tJ_12)), .int (nI (T_np tJ_12)), .int (wb (T_wh tJ_12)), .int (wb (T_gn tJ_12)), .int (T_sd tJ_12), .ref quw, .ref qun, .ref qug, .ref qua, .ref qur, .ref qum, .ref qut, .ref qus], zzI cy quw 8 (T_wo tJ_12), zzI cy qun 8 (T_ne tJ_12), zzI cy qug 8 (T_go tJ_12), zzI cy qua 8 (T_ag tJ_12), zzI cy qur 8 (T_re tJ_12), zzI cy qum 8 (T_me tJ_12), zzI cy qut 8 (T_te tJ_12), zzI cy qus 64 (shF (T_kn tJ_12)), _, zzI cy qr 5 fX_24] hP hD hu9 rfl
            clear hP hD hu9
            obtain ⟨hP, hD⟩ := hPD
            subst h_22
            refine lv_goto (tgt := 120) hx hb dX5_head_116 (by decide +kernel) ?_
            exact endWs [[false, false, false, false, false, false, false, false, false, false, false, false, false, false, false, false, false, false, false, false, false, false, true, true], [true, true, true, true, true, true, true, true, true, true, true, true, true, true, true, true, true, true, true, true, true, true]] hx hb hr hlocks rfl hP hD rfl (by decide +kernel) hS ⟨fX_24, xL_15, iBs, tJ_12, rfl, trivial⟩ (g_172 bX5_head rfl)
        · have hlt_25 : j_11 < 8 := lp_lt rfl (rfl : (8 : Int32) = nI 8) (by omega) (by omega) c_18
          refine lv_aload_n hx hb (g_42 bX5_head rfl) rfl (lv_at hl 3 rfl) ?_
          refine lv_iload hx hb (g_21 (v := 4) bX5_head rfl) (lv_at hl 0 rfl) ?_
          refine kRi (rV (As := [.int (nI j_11)]) (rest := []) (b := qx) ⟨hx, hb, hml, hown, hts⟩ (c_X5_ruleFitK l G cy qx qt qk qp qs qa qr iKp iYe iTv qsh qss qsa qse fH j_11 (by first | omega | (simp only [nb_sr, np_sr, nb_wr, np_wr, nb_rd, np_rd, nb_ch, np_ch, nb_zr, np_zr, nb_za, np_za, nb_ey, np_ey, nb_hf, np_hf, nb_dd, np_dd, nb_so, np_so, nb_skn, np_skn, nb_swh, np_swh, nb_sgn, np_sgn, nb_ssd, np_ssd, nb_sgo, np_sgo, nb_sag, np_sag]; omega))) L_X5_100 (preRV (q := (RX5, TX5, 9)) hN hP (trueIx 0 [true, false, true, true]) (sel_fm rfl rfl) 0 4 rfl rfl) rfl ⟨Nat.le_of_ble_eq_true rfl, Nat.le_of_ble_eq_true rfl⟩ hl.1 (Nat.le_of_ble_eq_true rfl) (g_182 (v := 100) bX5_head rfl) ⟨Nat.le_of_ble_eq_true rfl, Nat.le_of_ble_eq_true rfl⟩) (fun r_26 h_27 => ?_)
          rcases h_27 with ⟨rfl, h_28⟩ | ⟨rfl, h_28⟩ | ⟨rfl, h_28⟩
          · refine lv_if_ne (tgt := 99) hx hb dX5_head_39 (by decide +kernel) (fun _ => ?_) (fun h9 => absurd h9 (by decide +kernel))
            refine lv_iinc (v := nI (j_11 + 1)) (lv' := [(4, .int (nI (j_11 + 1))), (3, .int xM_14), (2, .int xB_13), (0, .ref qx), (1, .int (nI k_4))]) hx hb dX5_head_99 hl (k := 0) rfl (nI_1 _) (by decide +kernel) rfl (fun ls => ?_)
            clear hl
            intro hl
            refine lv_goto (tgt := 26) hx hb dX5_head_102 (by decide +kernel) ?_
            exact ih_10 (j_11 + 1) tJ_12 xB_13 xM_14 xL_15 (by omega) (by omega) _ _ _ hP hD hS (lv_sub hl [0, 1, 2, 3, 4] rfl)
          · refine lv_if_ne (tgt := 99) hx hb dX5_head_39 (by decide +kernel) (fun h9 => absurd (by decide +kernel) h9) (fun _ => ?_)
            refine lv_aload_n hx hb (g_42 bX5_head rfl) rfl (lv_at hl 3 rfl) ?_
            refine va_get (D := G) (ci := 4) (v := .ref qp) (C := RX5) (T := TX5) (N := 9) hx hb hts iX_X5 hown hK hP 0 rfl rfl 2 (by decide +kernel) (hts _ m_t176) (fun _ h9 => h9) rfl (g_180 (v := 22) bX5_head rfl) ?_
            refine lv_aload_n hx hb (g_42 bX5_head rfl) rfl (lv_at hl 3 rfl) ?_
            refine va_get (D := G) (ci := 4) (v := .ref qp) (C := RX5) (T := TX5) (N := 9) hx hb hts iX_X5 hown hK hP 0 rfl rfl 2 (by decide +kernel) (hts _ m_t176) (fun _ h9 => h9) rfl (g_180 (v := 22) bX5_head rfl) ?_
            refine lv_aload_n hx hb (g_42 bX5_head rfl) rfl (lv_at hl 3 rfl) ?_
            refine va_get (D := G) (ci := 4) (v := .ref qt) (C := RX5) (T := TX5) (N := 9) hx hb hts iX_X5 hown hK hP 0 rfl rfl 0 (by decide +kernel) (hts _ m_t174) (fun _ h9 => h9) rfl (g_180 (v := 10) bX5_head rfl) ?_
            refine cVq (As := [.ref qt]) (rest := [.ref qp]) (b := qp) (q := (RX0, TX0, 4)) ⟨hx, hb, hml, hown, hts⟩ (c_X0_trialOf l G cy (H).size qp qu (.ref qv) (.int xL_15) (.int iBs) tJ_12 quw qun qug qua qur qum qut qus qt tA qtw qtn qtg qta qtr qtm qtt qts) L_X5_115 hN hP hD hS hA (trueIxs [[false, false, false, false, false, false, false, false, false, false, false, false, false, false, true, true, true, true, true, true, true, true, true, true], [false, false, false, false, false, true, true, true, true, true, true, true, true, true]]) [true, true, true, true, true, false, false, false, false, false, false, false, false, false, false, false, false, false, false, false, false, false, false, false] (sels_eq rfl rfl) (by decide +kernel) rfl 14 0 rfl rfl rfl ⟨Nat.le_of_ble_eq_true rfl, Nat.le_of_ble_eq_true rfl⟩ hl.1 (Nat.le_of_ble_eq_true rfl) (g_182 (v := 115) bX5_head rfl) ⟨Nat.le_of_ble_eq_true rfl, Nat.le_of_ble_eq_true rfl⟩ (fun r_31 u_33 H locs h_32 => ?_)
            clear hP hD hS
            intro hP hD hS
            obtain ⟨hu9, h_32⟩ := h_32
            have hPD := pd_eq [_, _, _, _, _, _, zzO qu 3 [.int (nI (T_nb tA)), .int (nI (T_np tA)), .int (wb (T_wh tA)), .int (wb (T_gn tA)), .int (T_sd tA), .ref quw, .ref qun, .ref qug, .ref qua, .ref qur, .ref qum, .ref qut, .ref qus], zzI cy quw 8 (T_wo tA), zzI cy qun 8 (T_ne tA), zzI cy qug 8 (T_go tA), zzI cy qua 8 (T_ag tA), zzI cy qur 8 (T_re tA), zzI cy qum 8 (T_me tA), zzI cy qut 8 (T_te tA), zzI cy qus 64 (shF (T_kn tA)), _, _, _, _, _, _, _, _, _] hP hD hu9 rfl
            clear hP hD hu9
            obtain ⟨hP, hD⟩ := hPD
            have h_32 := h_32.symm
            subst h_32
            refine lv_aload_n hx hb (g_42 bX5_head rfl) rfl (lv_at hl 3 rfl) ?_
            refine va_get (D := G) (ci := 4) (v := .ref qs) (C := RX5) (T := TX5) (N := 9) hx hb hts iX_X5 hown hK hP 0 rfl rfl 3 (by decide +kernel) (hts _ m_t177) (fun _ h9 => h9) rfl (g_180 (v := 29) bX5_head rfl) ?_
            refine lv_iload hx hb (g_21 (v := 4) bX5_head rfl) (lv_at hl 0 rfl) ?_
            refine kRi (rV (As := [.int (nI j_11)]) (rest := [.ref qu, .ref qp]) (b := qs) ⟨hx, hb, hml, hown, hts⟩ (c_X2_kindIn l G cy qs qsh qss qsa qse fH j_11 (by first | omega | (simp only [nb_sr, np_sr, nb_wr, np_wr, nb_rd, np_rd, nb_ch, np_ch, nb_zr, np_zr, nb_za, np_za, nb_ey, np_ey, nb_hf, np_hf, nb_dd, np_dd, nb_so, np_so, nb_skn, np_skn, nb_swh, np_swh, nb_sgn, np_sgn, nb_ssd, np_ssd, nb_sgo, np_sgo, nb_sag, np_sag]; omega))) L_X5_103 (preRV (q := (RX2, TX2, 4)) hN hP [2, 3] rfl 2 1 rfl rfl) rfl ⟨Nat.le_of_ble_eq_true rfl, Nat.le_of_ble_eq_true rfl⟩ hl.1 (Nat.le_of_ble_eq_true rfl) (g_182 (v := 103) bX5_head rfl) ⟨Nat.le_of_ble_eq_true rfl, Nat.le_of_ble_eq_true rfl⟩) (fun r_34 h_35 => ?_)
            subst h_35
            refine lv_aload_n hx hb (g_42 bX5_head rfl) rfl (lv_at hl 3 rfl) ?_
            refine va_get (D := G) (ci := 4) (v := .ref qs) (C := RX5) (T := TX5) (N := 9) hx hb hts iX_X5 hown hK hP 0 rfl rfl 3 (by decide +kernel) (hts _ m_t177) (fun _ h9 => h9) rfl (g_180 (v := 29) bX5_head rfl) ?_
            refine va_getN (D := G) (ci := 1) (v := .ref qsa) (C := RX2) (T := TX2) (N := 4) hx hb hts iX_X2 hown hK hP 2 rfl rfl 2 (by decide +kernel) (va_Nw.use rfl (hN.2.1 (RX5, 112, "EachBookOnce$Shelves", "amount", "[I") (List.mem_of_getElem? (i := 28) rfl))) (fun _ h9 => h9) rfl (g_180 (v := 112) bX5_head rfl) ?_
            refine lv_iload hx hb (g_21 (v := 4) bX5_head rfl) (lv_at hl 0 rfl) ?_
            refine va_iald hx hb hK hP 4 0 rfl rfl (in8 (by omega)) (g_46 bX5_head rfl) ?_
            refine lv_seti (v := fA j_11) (congrArg fA (cl8 (by omega))) ?_
            refine lv_iload_n hx hb (g_27 bX5_head rfl) rfl (lv_at hl 4 rfl) ?_
            refine cVi (As := [.ref qu, .int ((fH j_11) - 10), .int (fA j_11), .int (nI k_4)]) (rest := []) (b := qp) (q := (RX0, TX0, 4)) ⟨hx, hb, hml, hown, hts⟩ (c_X0_sumOfRun l G cy (H).size qp qu (.ref qv) xL_15 iBs tA quw qun qug qua qur qum qut qus ((fH j_11) - 10) (fA j_11) k_4 hB hPp (by first | omega | (simp only [nb_sr, np_sr, nb_wr, np_wr, nb_rd, np_rd, nb_ch, np_ch, nb_zr, np_zr, nb_za, np_za, nb_ey, np_ey, nb_hf, np_hf, nb_dd, np_dd, nb_so, np_so, nb_skn, np_skn, nb_swh, np_swh, nb_sgn, np_sgn, nb_ssd, np_ssd, nb_sgo, np_sgo, nb_sag, np_sag]; omega))) L_X5_254 hN hP hD hS hA (trueIx 0 [false, false, false, false, false, true, true, true, true, true, true, true, true, true, true]) [true, true, true, true, true, false, false, false, false, false, false, false, false, false, false, true, true, true, true, true, true, true, true, true] (sel_eq rfl rfl) (by decide +kernel) rfl 5 0 rfl rfl rfl ⟨Nat.le_of_ble_eq_true rfl, Nat.le_of_ble_eq_true rfl⟩ hl.1 (Nat.le_of_ble_eq_true rfl) (g_182 (v := 254) bX5_head rfl) ⟨Nat.le_of_ble_eq_true rfl, Nat.le_of_ble_eq_true rfl⟩ (fun r_36 u_38 H locs h_37 => ?_)
            clear hP hD hS
            intro hP hD hS
            obtain ⟨hu9, h_37⟩ := h_37
            have hPD := pd_eq [_, _, _, _, _, _, _, _, _, _, _, _, _, _, zzO qp 0 [.ref qu, .ref qv, .int ((srG ((fH j_11) - 10) (fA j_11) k_4 tA xL_15 0).2.1), .int iBs], zzO qu 3 [.int (nI (T_nb ((srG ((fH j_11) - 10) (fA j_11) k_4 tA xL_15 0).1))), .int (nI (T_np ((srG ((fH j_11) - 10) (fA j_11) k_4 tA xL_15 0).1))), .int (wb (T_wh ((srG ((fH j_11) - 10) (fA j_11) k_4 tA xL_15 0).1))), .int (wb (T_gn ((srG ((fH j_11) - 10) (fA j_11) k_4 tA xL_15 0).1))), .int (T_sd ((srG ((fH j_11) - 10) (fA j_11) k_4 tA xL_15 0).1)), .ref quw, .ref qun, .ref qug, .ref qua, .ref qur, .ref qum, .ref qut, .ref qus], zzI cy quw 8 (T_wo ((srG ((fH j_11) - 10) (fA j_11) k_4 tA xL_15 0).1)), zzI cy qun 8 (T_ne ((srG ((fH j_11) - 10) (fA j_11) k_4 tA xL_15 0).1)), zzI cy qug 8 (T_go ((srG ((fH j_11) - 10) (fA j_11) k_4 tA xL_15 0).1)), zzI cy qua 8 (T_ag ((srG ((fH j_11) - 10) (fA j_11) k_4 tA xL_15 0).1)), zzI cy qur 8 (T_re ((srG ((fH j_11) - 10) (fA j_11) k_4 tA xL_15 0).1)), zzI cy qum 8 (T_me ((srG ((fH j_11) - 10) (fA j_11) k_4 tA xL_15 0).1)), zzI cy qut 8 (T_te ((srG ((fH j_11) - 10) (fA j_11) k_4 tA xL_15 0).1)), zzI cy qus 64 (shF (T_kn ((srG ((fH j_11) - 10) (fA j_11) k_4 tA xL_15 0).1)))] hP hD hu9 rfl
            clear hP hD hu9
            obtain ⟨hP, hD⟩ := hPD
            subst h_37
            refine lv_istore (lv' := [(5, .int ((srG ((fH j_11) - 10) (fA j_11) k_4 tA xL_15 0).2.2)), (4, .int (nI j_11)), (3, .int xM_14), (2, .int xB_13), (0, .ref qx), (1, .int (nI k_4))]) hx hb (g_54 (v := 5) bX5_head rfl) hl (by decide +kernel) rfl (fun ls => ?_)
            clear hl
            intro hl
            refine lv_iload_n hx hb (g_28 bX5_head rfl) rfl (lv_at hl 3 rfl) ?_
            refine lv_iconst (v := (-1)) hx hb (g_2 bX5_head rfl) (by decide +kernel) ?_
            refine lv_icmp_eq (tgt := 93) hx hb dX5_head_84 (by decide +kernel) (fun c_39 => ?_) (fun c_39 => ?_)
            · refine lv_iload hx hb (g_21 (v := 4) bX5_head rfl) (lv_at hl 1 rfl) ?_
              refine lv_istore_n (lv' := [(2, .int (nI j_11)), (5, .int ((srG ((fH j_11) - 10) (fA j_11) k_4 tA xL_15 0).2.2)), (4, .int (nI j_11)), (3, .int xM_14), (0, .ref qx), (1, .int (nI k_4))]) hx hb (g_61 bX5_head rfl) rfl hl (by decide +kernel) rfl (fun ls => ?_)
              clear hl
              intro hl
              refine lv_iload hx hb (g_21 (v := 5) bX5_head rfl) (lv_at hl 1 rfl) ?_
              refine lv_istore_n (lv' := [(3, .int ((srG ((fH j_11) - 10) (fA j_11) k_4 tA xL_15 0).2.2)), (2, .int (nI j_11)), (5, .int ((srG ((fH j_11) - 10) (fA j_11) k_4 tA xL_15 0).2.2)), (4, .int (nI j_11)), (0, .ref qx), (1, .int (nI k_4))]) hx hb (g_62 bX5_head rfl) rfl hl (by decide +kernel) rfl (fun ls => ?_)
              clear hl
              intro hl
              refine lv_iinc (v := nI (j_11 + 1)) (lv' := [(4, .int (nI (j_11 + 1))), (3, .int ((srG ((fH j_11) - 10) (fA j_11) k_4 tA xL_15 0).2.2)), (2, .int (nI j_11)), (5, .int ((srG ((fH j_11) - 10) (fA j_11) k_4 tA xL_15 0).2.2)), (0, .ref qx), (1, .int (nI k_4))]) hx hb dX5_head_99 hl (k := 3) rfl (nI_1 _) (by decide +kernel) rfl (fun ls => ?_)
              clear hl
              intro hl
              refine lv_goto (tgt := 26) hx hb dX5_head_102 (by decide +kernel) ?_
              exact ih_10 (j_11 + 1) ((srG ((fH j_11) - 10) (fA j_11) k_4 tA xL_15 0).1) (nI j_11) ((srG ((fH j_11) - 10) (fA j_11) k_4 tA xL_15 0).2.2) ((srG ((fH j_11) - 10) (fA j_11) k_4 tA xL_15 0).2.1) (by omega) (by omega) _ _ _ hP hD hS (lv_sub hl [0, 1, 2, 4, 5] rfl)
            · refine lv_iload hx hb (g_21 (v := 5) bX5_head rfl) (lv_at hl 0 rfl) ?_
              refine lv_iload_n hx hb (g_29 bX5_head rfl) rfl (lv_at hl 2 rfl) ?_
              refine lv_icmp_le (tgt := 99) hx hb dX5_head_90 (by decide +kernel) (fun c_40 => ?_) (fun c_40 => ?_)
              · refine lv_iinc (v := nI (j_11 + 1)) (lv' := [(4, .int (nI (j_11 + 1))), (5, .int ((srG ((fH j_11) - 10) (fA j_11) k_4 tA xL_15 0).2.2)), (3, .int xM_14), (2, .int xB_13), (0, .ref qx), (1, .int (nI k_4))]) hx hb dX5_head_99 hl (k := 1) rfl (nI_1 _) (by decide +kernel) rfl (fun ls => ?_)
                clear hl
                intro hl
                refine lv_goto (tgt := 26) hx hb dX5_head_102 (by decide +kernel) ?_
                exact ih_10 (j_11 + 1) ((srG ((fH j_11) - 10) (fA j_11) k_4 tA xL_15 0).1) xB_13 xM_14 ((srG ((fH j_11) - 10) (fA j_11) k_4 tA xL_15 0).2.1) (by omega) (by omega) _ _ _ hP hD hS (lv_sub hl [0, 2, 3, 4, 5] rfl)
              · refine lv_iload hx hb (g_21 (v := 4) bX5_head rfl) (lv_at hl 1 rfl) ?_
                refine lv_istore_n (lv' := [(2, .int (nI j_11)), (5, .int ((srG ((fH j_11) - 10) (fA j_11) k_4 tA xL_15 0).2.2)), (4, .int (nI j_11)), (3, .int xM_14), (0, .ref qx), (1, .int (nI k_4))]) hx hb (g_61 bX5_head rfl) rfl hl (by decide +kernel) rfl (fun ls => ?_)
                clear hl
                intro hl
                refine lv_iload hx hb (g_21 (v := 5) bX5_head rfl) (lv_at hl 1 rfl) ?_
                refine lv_istore_n (lv' := [(3, .int ((srG ((fH j_11) - 10) (fA j_11) k_4 tA xL_15 0).2.2)), (2, .int (nI j_11)), (5, .int ((srG ((fH j_11) - 10) (fA j_11) k_4 tA xL_15 0).2.2)), (4, .int (nI j_11)), (0, .ref qx), (1, .int (nI k_4))]) hx hb (g_62 bX5_head rfl) rfl hl (by decide +kernel) rfl (fun ls => ?_)
                clear hl
                intro hl
                refine lv_iinc (v := nI (j_11 + 1)) (lv' := [(4, .int (nI (j_11 + 1))), (3, .int ((srG ((fH j_11) - 10) (fA j_11) k_4 tA xL_15 0).2.2)), (2, .int (nI j_11)), (5, .int ((srG ((fH j_11) - 10) (fA j_11) k_4 tA xL_15 0).2.2)), (0, .ref qx), (1, .int (nI k_4))]) hx hb dX5_head_99 hl (k := 3) rfl (nI_1 _) (by decide +kernel) rfl (fun ls => ?_)
                clear hl
                intro hl
                refine lv_goto (tgt := 26) hx hb dX5_head_102 (by decide +kernel) ?_
                exact ih_10 (j_11 + 1) ((srG ((fH j_11) - 10) (fA j_11) k_4 tA xL_15 0).1) (nI j_11) ((srG ((fH j_11) - 10) (fA j_11) k_4 tA xL_15 0).2.2) ((srG ((fH j_11) - 10) (fA j_11) k_4 tA xL_15 0).2.1) (by omega) (by omega) _ _ _ hP hD hS (lv_sub hl [0, 1, 2, 4, 5] rfl)
          · refine lv_if_ne (tgt := 99) hx hb dX5_head_39 (by decide +kernel) (fun _ => ?_) (fun h9 => absurd h9 (by decide +kernel))
            refine lv_iinc (v := nI (j_11 + 1)) (lv' := [(4, .int (nI (j_11 + 1))), (3, .int xM_14), (2, .int xB_13), (0, .ref qx), (1, .int (nI k_4))]) hx hb dX5_head_99 hl (k := 0) rfl (nI_1 _) (by decide +kernel) rfl (fun ls => ?_)
            clear hl
            intro hl
            refine lv_goto (tgt := 26) hx hb dX5_head_102 (by decide +kernel) ?_
            exact ih_10 (j_11 + 1) tJ_12 xB_13 xM_14 xL_15 (by omega) (by omega) _ _ _ hP hD hS (lv_sub hl [0, 1, 2, 3, 4] rfl)
    exact lp_8 ((8 - 0) + 1) 0 tU (-1) 0 iL (Nat.lt_succ_self _) (Nat.zero_le _) _ _ ls hP hD hS (lv_sub hl [0, 1, 2, 3, 4] rfl)
  · refine lv_if_ne (tgt := 19) hx hb dX5_head_9 (by decide +kernel) (fun h9 => absurd (by decide +kernel) h9) (fun _ => ?_)
    refine lv_aload_n hx hb (g_42 bX5_head rfl) rfl (lv_at hl 0 rfl) ?_
    refine lv_bipush (v := (-2)) hx hb dX5_head_13 (by decide +kernel) ?_
    refine cVi (As := [.int (-2)]) (rest := []) (b := qx) (q := (RX5, TX5, 9)) ⟨hx, hb, hml, hown, hts⟩ (c_X5_refuse2 l G cy (s.heap).size qx qt qk qp qs qa qr iKp iYe iTv fR) L_X5_56 hN hP hD hS hA [0, 1] [false, false, true, true, true, true, true, true, true, true, true, true, true, true, true, true, true, true, true, true, true, true, true, true] rfl (by decide +kernel) rfl 0 4 rfl rfl rfl ⟨Nat.le_of_ble_eq_true rfl, Nat.le_of_ble_eq_true rfl⟩ hl.1 (Nat.le_of_ble_eq_true rfl) (g_182 (v := 56) bX5_head rfl) ⟨Nat.le_of_ble_eq_true rfl, Nat.le_of_ble_eq_true rfl⟩ (fun r_43 u_45 H locs h_44 => ?_)
    clear hP hD hS
    intro hP hD hS
    obtain ⟨fX_46, hu9, h_44⟩ := h_44
    have hPD := pd_eq [_, _, _, _, _, _, _, _, _, _, _, _, _, _, _, _, _, _, _, _, _, _, _, zzI cy qr 5 fX_46] hP hD hu9 rfl
    clear hP hD hu9
    obtain ⟨hP, hD⟩ := hPD
    subst h_44
    exact endWs [[false, false, false, false, false, false, false, false, false, false, false, false, false, false, false, false, false, false, false, false, false, false, true, true], [true, true, true, true, true, true, true, true, true, true, true, true, true, true, true, true, true, true, true, true, true, true]] hx hb hr hlocks rfl hP hD rfl (by decide +kernel) hS ⟨fX_46, iL, iBs, tU, rfl, trivial⟩ (g_172 bX5_head rfl)
set_option maxHeartbeats 4000000 in
set_option maxRecDepth 100000 in
theorem p_X5_who (l : Launch) (G : va_G) (cy : Nat → ClassId) (sz : Nat) (qx : Nat) (qt : Nat) (qk : Nat) (qp : Nat) (qs : Nat) (qa : Nat) (qr : Nat) (iKp : Int32) (iYe : Int32) (iTv : Int32) (fR : Nat → Int32) (tA : TA) (qtw : Nat) (qtn : Nat) (qtg : Nat) (qta : Nat) (qtr : Nat) (qtm : Nat) (qtt : Nat) (qts : Nat) (qu : Nat) (qv : Nat) (iL : Int32) (iBs : Int32) (tU : TA) (quw : Nat) (qun : Nat) (qug : Nat) (qua : Nat) (qur : Nat) (qum : Nat) (qut : Nat) (qus : Nat) (iA : Int32) (iB : Int32)  (hB : T_nb tA ≤ 8) (hPp : T_np tA ≤ 8) : MW l yX5_who cX5_who 3 (some .int) 12 0 0 G cy [zzO qx 4 [.ref qt, .ref qk, .ref qp, .ref qs, .ref qa, .ref qr, .int iKp, .int iYe, .int iTv], zzI cy qr 5 fR, zzO qt 3 [.int (nI (T_nb tA)), .int (nI (T_np tA)), .int (wb (T_wh tA)), .int (wb (T_gn tA)), .int (T_sd tA), .ref qtw, .ref qtn, .ref qtg, .ref qta, .ref qtr, .ref qtm, .ref qtt, .ref qts], zzI cy qtw 8 (T_wo tA), zzI cy qtn 8 (T_ne tA), zzI cy qtg 8 (T_go tA), zzI cy qta 8 (T_ag tA), zzI cy qtr 8 (T_re tA), zzI cy qtm 8 (T_me tA), zzI cy qtt 8 (T_te tA), zzI cy qts 64 (shF (T_kn tA)), zzO qp 0 [.ref qu, .ref qv, .int iL, .int iBs], zzO qu 3 [.int (nI (T_nb tU)), .int (nI (T_np tU)), .int (wb (T_wh tU)), .int (wb (T_gn tU)), .int (T_sd tU), .ref quw, .ref qun, .ref qug, .ref qua, .ref qur, .ref qum, .ref qut, .ref qus], zzI cy quw 8 (T_wo tU), zzI cy qun 8 (T_ne tU), zzI cy qug 8 (T_go tU), zzI cy qua 8 (T_ag tU), zzI cy qur 8 (T_re tU), zzI cy qum 8 (T_me tU), zzI cy qut 8 (T_te tU), zzI cy qus 64 (shF (T_kn tU))] sz [.ref qx, .int iA, .int iB] (Wi G (fun r u => ∃ (fX : Nat → Int32) (iX : Int32) (iY : Int32) (tX : TA), u = [zzO qx 4 [.ref qt, .ref qk, .ref qp, .ref qs, .ref qa, .ref qr, .int iKp, .int iYe, .int iTv], zzI cy qr 5 fX, zzO qt 3 [.int (nI (T_nb tA)), .int (nI (T_np tA)), .int (wb (T_wh tA)), .int (wb (T_gn tA)), .int (T_sd tA), .ref qtw, .ref qtn, .ref qtg, .ref qta, .ref qtr, .ref qtm, .ref qtt, .ref qts], zzI cy qtw 8 (T_wo tA), zzI cy qtn 8 (T_ne tA), zzI cy qtg 8 (T_go tA), zzI cy qta 8 (T_ag tA), zzI cy qtr 8 (T_re tA), zzI cy qtm 8 (T_me tA), zzI cy qtt 8 (T_te tA), zzI cy qts 64 (shF (T_kn tA)), zzO qp 0 [.ref qu, .ref qv, .int iX, .int iY], zzO qu 3 [.int (nI (T_nb tX)), .int (nI (T_np tX)), .int (wb (T_wh tX)), .int (wb (T_gn tX)), .int (T_sd tX), .ref quw, .ref qun, .ref qug, .ref qua, .ref qur, .ref qum, .ref qut, .ref qus], zzI cy quw 8 (T_wo tX), zzI cy qun 8 (T_ne tX), zzI cy qug 8 (T_go tX), zzI cy qua 8 (T_ag tX), zzI cy qur 8 (T_re tX), zzI cy qum 8 (T_me tX), zzI cy qut 8 (T_te tX), zzI cy qus 64 (shF (T_kn tX))] ∧ (True))) := by
  refine enW RX5 (by decide +kernel) rfl (Nat.le_of_ble_eq_true rfl) (fun p e s m below meth c ls A hx hb hml hown hts hr hlocks hP hN hl hin hD hA hS => ?_)
  have hin : meth.name = _ := hin
  have hK := hN.1
  replace hl : lv_has ls 3 [(0, .ref qx), (1, .int iA), (2, .int iB)] := hl
  refine lv_aload_n hx hb (g_42 bX5_who rfl) rfl (lv_at hl 0 rfl) ?_
  refine va_get (D := G) (ci := 4) (v := .ref qt) (C := RX5) (T := TX5) (N := 9) hx hb hts iX_X5 hown hK hP 0 rfl rfl 0 (by decide +kernel) (hts _ m_t174) (fun _ h9 => h9) rfl (g_180 (v := 10) bX5_who rfl) ?_
  refine lv_iload_n hx hb (g_27 bX5_who rfl) rfl (lv_at hl 1 rfl) ?_
  refine kRi (rV (As := [.int iA]) (rest := []) (b := qt) ⟨hx, hb, hml, hown, hts⟩ (c_X4_isBook l G cy qt tA qtw qtn qtg qta qtr qtm qtt qts iA hB) L_X5_168 (preRV (q := (RX4, TX4, 13)) hN hP [2] rfl 2 3 rfl rfl) rfl ⟨Nat.le_of_ble_eq_true rfl, Nat.le_of_ble_eq_true rfl⟩ hl.1 (Nat.le_of_ble_eq_true rfl) (g_182 (v := 168) bX5_who rfl) ⟨Nat.le_of_ble_eq_true rfl, Nat.le_of_ble_eq_true rfl⟩) (fun r_1 h_2 => ?_)
  rcases h_2 with ⟨rfl, h_3⟩ | ⟨rfl, h_3⟩
  · obtain ⟨k_4, hk_5, rfl⟩ := h_3
    refine lv_if_eq (tgt := 23) hx hb dX5_who_8 (by decide +kernel) (fun h9 => absurd h9 (by decide +kernel)) (fun _ => ?_)
    refine lv_iload_n hx hb (g_28 bX5_who rfl) rfl (lv_at hl 2 rfl) ?_
    refine lv_i2l (v := iB.toInt64) hx hb (g_133 bX5_who rfl) rfl ?_
    refine lv_lconst (v := 1) hx hb (g_10 bX5_who rfl) (by decide +kernel) ?_
    refine lv_ldc2 hx hb hown (hts _ m_t644) (g_20 (v := 250) bX5_who rfl) ?_
    refine kRi (rS (As := [.long iB.toInt64, .long 1, .long 60]) (rest := []) ⟨hx, hb, hml, hown, hts⟩ (c_X5_within l G cy iB.toInt64 1 60) L_X5_50 (preRS hN hP [] rfl) rfl ⟨Nat.le_of_ble_eq_true rfl, Nat.le_of_ble_eq_true rfl⟩ hl.1 (Nat.le_of_ble_eq_true rfl) (g_184 (v := 50) bX5_who rfl) ⟨Nat.le_of_ble_eq_true rfl, Nat.le_of_ble_eq_true rfl⟩) (fun r_7 h_8 => ?_)
    rcases h_8 with ⟨rfl, h_9⟩ | ⟨rfl, h_9⟩
    · obtain ⟨k_10, hk_11, hk_12, rfl⟩ := iv_nI 1 60 (by decide +kernel) (by decide +kernel) h_9
      refine lv_if_ne (tgt := 30) hx hb dX5_who_20 (by decide +kernel) (fun _ => ?_) (fun h9 => absurd h9 (by decide +kernel))
      refine lv_aload_n hx hb (g_42 bX5_who rfl) rfl (lv_at hl 0 rfl) ?_
      refine va_get (D := G) (ci := 4) (v := .ref qt) (C := RX5) (T := TX5) (N := 9) hx hb hts iX_X5 hown hK hP 0 rfl rfl 0 (by decide +kernel) (hts _ m_t174) (fun _ h9 => h9) rfl (g_180 (v := 10) bX5_who rfl) ?_
      refine va_getN (D := G) (ci := 3) (v := .int (wb (T_wh tA))) (C := RX4) (T := TX4) (N := 13) hx hb hts iX_X4 hown hK hP 2 rfl rfl 2 (by decide +kernel) (va_Nw.use rfl (hN.2.1 (RX5, 180, "EachBookOnce$Town", "white", "I") (List.mem_of_getElem? (i := 10) rfl))) (fun _ h9 => h9) rfl (g_180 (v := 180) bX5_who rfl) ?_
      refine lv_iload_n hx hb (g_27 bX5_who rfl) rfl (lv_at hl 1 rfl) ?_
      refine kRi (rS (As := [.int (wb (T_wh tA)), .int (nI k_4)]) (rest := []) ⟨hx, hb, hml, hown, hts⟩ (c_X5_has l G cy (wb (T_wh tA)) k_4) L_X5_183 (preRS hN hP [] rfl) rfl ⟨Nat.le_of_ble_eq_true rfl, Nat.le_of_ble_eq_true rfl⟩ hl.1 (Nat.le_of_ble_eq_true rfl) (g_184 (v := 183) bX5_who rfl) ⟨Nat.le_of_ble_eq_true rfl, Nat.le_of_ble_eq_true rfl⟩) (fun r_14 h_15 => ?_)
      rcases h_15 with ⟨rfl, h_16⟩ | ⟨rfl, h_16⟩
      · rw [bit_wb _ (by omega)] at h_16
        refine lv_if_ne (tgt := 54) hx hb dX5_who_41 (by decide +kernel) (fun _ => ?_) (fun h9 => absurd h9 (by decide +kernel))
        refine lv_aload_n hx hb (g_42 bX5_who rfl) rfl (lv_at hl 0 rfl) ?_
        refine lv_bipush (v := (-5)) hx hb dX5_who_55 (by decide +kernel) ?_
        refine cVi (As := [.int (-5)]) (rest := []) (b := qx) (q := (RX5, TX5, 9)) ⟨hx, hb, hml, hown, hts⟩ (c_X5_refuse5 l G cy (s.heap).size qx qt qk qp qs qa qr iKp iYe iTv fR) L_X5_56 hN hP hD hS hA [0, 1] [false, false, true, true, true, true, true, true, true, true, true, true, true, true, true, true, true, true, true, true, true] rfl (by decide +kernel) rfl 0 4 rfl rfl rfl ⟨Nat.le_of_ble_eq_true rfl, Nat.le_of_ble_eq_true rfl⟩ hl.1 (Nat.le_of_ble_eq_true rfl) (g_182 (v := 56) bX5_who rfl) ⟨Nat.le_of_ble_eq_true rfl, Nat.le_of_ble_eq_true rfl⟩ (fun r_18 u_20 H locs h_19 => ?_)
        clear hP hD hS
        intro hP hD hS
        obtain ⟨fX_21, hu9, h_19⟩ := h_19
        have hPD := pd_eq [_, _, _, _, _, _, _, _, _, _, _, _, _, _, _, _, _, _, _, _, zzI cy qr 5 fX_21] hP hD hu9 rfl
        clear hP hD hu9
        obtain ⟨hP, hD⟩ := hPD
        subst h_19
        exact endWs [[false, false, false, false, false, false, false, false, false, false, false, false, false, false, false, false, false, false, false, true, true], [true, true, true, true, true, true, true, true, true, true, true, true, true, true, true, true, true, true, true]] hx hb hr hlocks rfl hP hD rfl (by decide +kernel) hS ⟨fX_21, iL, iBs, tU, rfl, trivial⟩ (g_172 bX5_who rfl)
      · rw [bit_wb _ (by omega)] at h_16
        refine lv_if_ne (tgt := 54) hx hb dX5_who_41 (by decide +kernel) (fun h9 => absurd (by decide +kernel) h9) (fun _ => ?_)
        refine lv_aload_n hx hb (g_42 bX5_who rfl) rfl (lv_at hl 0 rfl) ?_
        refine va_get (D := G) (ci := 4) (v := .ref qt) (C := RX5) (T := TX5) (N := 9) hx hb hts iX_X5 hown hK hP 0 rfl rfl 0 (by decide +kernel) (hts _ m_t174) (fun _ h9 => h9) rfl (g_180 (v := 10) bX5_who rfl) ?_
        refine kRi (rV (As := []) (rest := []) (b := qt) ⟨hx, hb, hml, hown, hts⟩ (c_X4_setThere l G cy qt tA qtw qtn qtg qta qtr qtm qtt qts hPp) L_X5_269 (preRV (q := (RX4, TX4, 13)) hN hP [2] rfl 2 3 rfl rfl) rfl ⟨Nat.le_of_ble_eq_true rfl, Nat.le_of_ble_eq_true rfl⟩ hl.1 (Nat.le_of_ble_eq_true rfl) (g_182 (v := 269) bX5_who rfl) ⟨Nat.le_of_ble_eq_true rfl, Nat.le_of_ble_eq_true rfl⟩) (fun r_23 h_24 => ?_)
        subst h_24
        refine lv_if_ne (tgt := 61) hx hb dX5_who_51 (by decide +kernel) (fun c_25 => ?_) (fun c_25 => ?_)
        · refine lv_aload_n hx hb (g_42 bX5_who rfl) rfl (lv_at hl 0 rfl) ?_
          refine va_get (D := G) (ci := 4) (v := .ref qp) (C := RX5) (T := TX5) (N := 9) hx hb hts iX_X5 hown hK hP 0 rfl rfl 2 (by decide +kernel) (hts _ m_t176) (fun _ h9 => h9) rfl (g_180 (v := 22) bX5_who rfl) ?_
          refine lv_aload_n hx hb (g_42 bX5_who rfl) rfl (lv_at hl 0 rfl) ?_
          refine va_get (D := G) (ci := 4) (v := .ref qt) (C := RX5) (T := TX5) (N := 9) hx hb hts iX_X5 hown hK hP 0 rfl rfl 0 (by decide +kernel) (hts _ m_t174) (fun _ h9 => h9) rfl (g_180 (v := 10) bX5_who rfl) ?_
          refine lv_iload_n hx hb (g_27 bX5_who rfl) rfl (lv_at hl 1 rfl) ?_
          refine lv_iload_n hx hb (g_28 bX5_who rfl) rfl (lv_at hl 2 rfl) ?_
          refine cVi (As := [.ref qt, .int (nI k_4), .int (nI k_10)]) (rest := []) (b := qp) (q := (RX0, TX0, 4)) ⟨hx, hb, hml, hown, hts⟩ (c_X0_bestWho l G cy (s.heap).size qp qu (.ref qv) iL iBs tU quw qun qug qua qur qum qut qus qt tA qtw qtn qtg qta qtr qtm qtt qts k_4 k_10 hB hPp (by first | omega | (simp only [nb_sr, np_sr, nb_wr, np_wr, nb_rd, np_rd, nb_ch, np_ch, nb_zr, np_zr, nb_za, np_za, nb_ey, np_ey, nb_hf, np_hf, nb_dd, np_dd, nb_so, np_so, nb_skn, np_skn, nb_swh, np_swh, nb_sgn, np_sgn, nb_ssd, np_ssd, nb_sgo, np_sgo, nb_sag, np_sag]; omega)) (by first | omega | (simp only [nb_sr, np_sr, nb_wr, np_wr, nb_rd, np_rd, nb_ch, np_ch, nb_zr, np_zr, nb_za, np_za, nb_ey, np_ey, nb_hf, np_hf, nb_dd, np_dd, nb_so, np_so, nb_skn, np_skn, nb_swh, np_swh, nb_sgn, np_sgn, nb_ssd, np_ssd, nb_sgo, np_sgo, nb_sag, np_sag]; omega))) L_X5_272 hN hP hD hS hA (trueIxs [[false, false, false, false, false, false, false, false, false, false, false, true, true, true, true, true, true, true, true, true, true], [false, false, true, true, true, true, true, true, true, true, true]]) [true, true, false, false, false, false, false, false, false, false, false, false, false, false, false, false, false, false, false, false, false] (sels_eq rfl rfl) (by decide +kernel) rfl 11 0 rfl rfl rfl ⟨Nat.le_of_ble_eq_true rfl, Nat.le_of_ble_eq_true rfl⟩ hl.1 (Nat.le_of_ble_eq_true rfl) (g_182 (v := 272) bX5_who rfl) ⟨Nat.le_of_ble_eq_true rfl, Nat.le_of_ble_eq_true rfl⟩ (fun r_26 u_28 H locs h_27 => ?_)
          clear hP hD hS
          intro hP hD hS
          obtain ⟨tX_29, hu9, h_27⟩ := h_27
          have hPD := pd_eq [_, _, zzO qp 0 [.ref qu, .ref qv, .int iL, .int ((zbw tA k_4 k_10 iBs).2)], zzO qu 3 [.int (nI (T_nb tX_29)), .int (nI (T_np tX_29)), .int (wb (T_wh tX_29)), .int (wb (T_gn tX_29)), .int (T_sd tX_29), .ref quw, .ref qun, .ref qug, .ref qua, .ref qur, .ref qum, .ref qut, .ref qus], zzI cy quw 8 (T_wo tX_29), zzI cy qun 8 (T_ne tX_29), zzI cy qug 8 (T_go tX_29), zzI cy qua 8 (T_ag tX_29), zzI cy qur 8 (T_re tX_29), zzI cy qum 8 (T_me tX_29), zzI cy qut 8 (T_te tX_29), zzI cy qus 64 (shF (T_kn tX_29)), _, _, _, _, _, _, _, _, _] hP hD hu9 rfl
          clear hP hD hu9
          obtain ⟨hP, hD⟩ := hPD
          subst h_27
          exact endWs [[true, true, false, false, false, false, false, false, false, false, false, false, true, true, true, true, true, true, true, true, true], [false, false, true, true, true, true, true, true, true, true, true, true]] hx hb hr hlocks rfl hP hD rfl (by decide +kernel) hS ⟨fR, iL, (zbw tA k_4 k_10 iBs).2, tX_29, rfl, trivial⟩ (g_172 bX5_who rfl)
        · refine lv_aload_n hx hb (g_42 bX5_who rfl) rfl (lv_at hl 0 rfl) ?_
          refine lv_bipush (v := (-5)) hx hb dX5_who_55 (by decide +kernel) ?_
          refine cVi (As := [.int (-5)]) (rest := []) (b := qx) (q := (RX5, TX5, 9)) ⟨hx, hb, hml, hown, hts⟩ (c_X5_refuse5 l G cy (s.heap).size qx qt qk qp qs qa qr iKp iYe iTv fR) L_X5_56 hN hP hD hS hA [0, 1] [false, false, true, true, true, true, true, true, true, true, true, true, true, true, true, true, true, true, true, true, true] rfl (by decide +kernel) rfl 0 4 rfl rfl rfl ⟨Nat.le_of_ble_eq_true rfl, Nat.le_of_ble_eq_true rfl⟩ hl.1 (Nat.le_of_ble_eq_true rfl) (g_182 (v := 56) bX5_who rfl) ⟨Nat.le_of_ble_eq_true rfl, Nat.le_of_ble_eq_true rfl⟩ (fun r_30 u_32 H locs h_31 => ?_)
          clear hP hD hS
          intro hP hD hS
          obtain ⟨fX_33, hu9, h_31⟩ := h_31
          have hPD := pd_eq [_, _, _, _, _, _, _, _, _, _, _, _, _, _, _, _, _, _, _, _, zzI cy qr 5 fX_33] hP hD hu9 rfl
          clear hP hD hu9
          obtain ⟨hP, hD⟩ := hPD
          subst h_31
          exact endWs [[false, false, false, false, false, false, false, false, false, false, false, false, false, false, false, false, false, false, false, true, true], [true, true, true, true, true, true, true, true, true, true, true, true, true, true, true, true, true, true, true]] hx hb hr hlocks rfl hP hD rfl (by decide +kernel) hS ⟨fX_33, iL, iBs, tU, rfl, trivial⟩ (g_172 bX5_who rfl)
    · refine lv_if_ne (tgt := 30) hx hb dX5_who_20 (by decide +kernel) (fun h9 => absurd (by decide +kernel) h9) (fun _ => ?_)
      refine lv_aload_n hx hb (g_42 bX5_who rfl) rfl (lv_at hl 0 rfl) ?_
      refine lv_bipush (v := (-2)) hx hb dX5_who_24 (by decide +kernel) ?_
      refine cVi (As := [.int (-2)]) (rest := []) (b := qx) (q := (RX5, TX5, 9)) ⟨hx, hb, hml, hown, hts⟩ (c_X5_refuse2 l G cy (s.heap).size qx qt qk qp qs qa qr iKp iYe iTv fR) L_X5_56 hN hP hD hS hA [0, 1] [false, false, true, true, true, true, true, true, true, true, true, true, true, true, true, true, true, true, true, true, true] rfl (by decide +kernel) rfl 0 4 rfl rfl rfl ⟨Nat.le_of_ble_eq_true rfl, Nat.le_of_ble_eq_true rfl⟩ hl.1 (Nat.le_of_ble_eq_true rfl) (g_182 (v := 56) bX5_who rfl) ⟨Nat.le_of_ble_eq_true rfl, Nat.le_of_ble_eq_true rfl⟩ (fun r_35 u_37 H locs h_36 => ?_)
      clear hP hD hS
      intro hP hD hS
      obtain ⟨fX_38, hu9, h_36⟩ := h_36
      have hPD := pd_eq [_, _, _, _, _, _, _, _, _, _, _, _, _, _, _, _, _, _, _, _, zzI cy qr 5 fX_38] hP hD hu9 rfl
      clear hP hD hu9
      obtain ⟨hP, hD⟩ := hPD
      subst h_36
      exact endWs [[false, false, false, false, false, false, false, false, false, false, false, false, false, false, false, false, false, false, false, true, true], [true, true, true, true, true, true, true, true, true, true, true, true, true, true, true, true, true, true, true]] hx hb hr hlocks rfl hP hD rfl (by decide +kernel) hS ⟨fX_38, iL, iBs, tU, rfl, trivial⟩ (g_172 bX5_who rfl)
  · refine lv_if_eq (tgt := 23) hx hb dX5_who_8 (by decide +kernel) (fun _ => ?_) (fun h9 => absurd (by decide +kernel) h9)
    refine lv_aload_n hx hb (g_42 bX5_who rfl) rfl (lv_at hl 0 rfl) ?_
    refine lv_bipush (v := (-2)) hx hb dX5_who_24 (by decide +kernel) ?_
    refine cVi (As := [.int (-2)]) (rest := []) (b := qx) (q := (RX5, TX5, 9)) ⟨hx, hb, hml, hown, hts⟩ (c_X5_refuse2 l G cy (s.heap).size qx qt qk qp qs qa qr iKp iYe iTv fR) L_X5_56 hN hP hD hS hA [0, 1] [false, false, true, true, true, true, true, true, true, true, true, true, true, true, true, true, true, true, true, true, true] rfl (by decide +kernel) rfl 0 4 rfl rfl rfl ⟨Nat.le_of_ble_eq_true rfl, Nat.le_of_ble_eq_true rfl⟩ hl.1 (Nat.le_of_ble_eq_true rfl) (g_182 (v := 56) bX5_who rfl) ⟨Nat.le_of_ble_eq_true rfl, Nat.le_of_ble_eq_true rfl⟩ (fun r_40 u_42 H locs h_41 => ?_)
    clear hP hD hS
    intro hP hD hS
    obtain ⟨fX_43, hu9, h_41⟩ := h_41
    have hPD := pd_eq [_, _, _, _, _, _, _, _, _, _, _, _, _, _, _, _, _, _, _, _, zzI cy qr 5 fX_43] hP hD hu9 rfl
    clear hP hD hu9
    obtain ⟨hP, hD⟩ := hPD
    subst h_41
    exact endWs [[false, false, false, false, false, false, false, false, false, false, false, false, false, false, false, false, false, false, false, true, true], [true, true, true, true, true, true, true, true, true, true, true, true, true, true, true, true, true, true, true]] hx hb hr hlocks rfl hP hD rfl (by decide +kernel) hS ⟨fX_43, iL, iBs, tU, rfl, trivial⟩ (g_172 bX5_who rfl)
set_option maxHeartbeats 4000000 in
set_option maxRecDepth 100000 in
theorem p_X5_order (l : Launch) (G : va_G) (cy : Nat → ClassId) (sz : Nat) (qx : Nat) (qt : Nat) (qk : Nat) (qp : Nat) (qs : Nat) (qa : Nat) (qr : Nat) (iKp : Int32) (iYe : Int32) (iTv : Int32) (fR : Nat → Int32) (tA : TA) (qtw : Nat) (qtn : Nat) (qtg : Nat) (qta : Nat) (qtr : Nat) (qtm : Nat) (qtt : Nat) (qts : Nat) (qu : Nat) (qv : Nat) (iL : Int32) (iBs : Int32) (tU : TA) (quw : Nat) (qun : Nat) (qug : Nat) (qua : Nat) (qur : Nat) (qum : Nat) (qut : Nat) (qus : Nat) (iA : Int32) (iB : Int32)  (hB : T_nb tA ≤ 8) (hPp : T_np tA ≤ 8) : MW l yX5_order cX5_order 4 (some .int) 12 0 0 G cy [zzO qx 4 [.ref qt, .ref qk, .ref qp, .ref qs, .ref qa, .ref qr, .int iKp, .int iYe, .int iTv], zzI cy qr 5 fR, zzO qt 3 [.int (nI (T_nb tA)), .int (nI (T_np tA)), .int (wb (T_wh tA)), .int (wb (T_gn tA)), .int (T_sd tA), .ref qtw, .ref qtn, .ref qtg, .ref qta, .ref qtr, .ref qtm, .ref qtt, .ref qts], zzI cy qtw 8 (T_wo tA), zzI cy qtn 8 (T_ne tA), zzI cy qtg 8 (T_go tA), zzI cy qta 8 (T_ag tA), zzI cy qtr 8 (T_re tA), zzI cy qtm 8 (T_me tA), zzI cy qtt 8 (T_te tA), zzI cy qts 64 (shF (T_kn tA)), zzO qp 0 [.ref qu, .ref qv, .int iL, .int iBs], zzO qu 3 [.int (nI (T_nb tU)), .int (nI (T_np tU)), .int (wb (T_wh tU)), .int (wb (T_gn tU)), .int (T_sd tU), .ref quw, .ref qun, .ref qug, .ref qua, .ref qur, .ref qum, .ref qut, .ref qus], zzI cy quw 8 (T_wo tU), zzI cy qun 8 (T_ne tU), zzI cy qug 8 (T_go tU), zzI cy qua 8 (T_ag tU), zzI cy qur 8 (T_re tU), zzI cy qum 8 (T_me tU), zzI cy qut 8 (T_te tU), zzI cy qus 64 (shF (T_kn tU))] sz [.ref qx, .int iA, .int iB] (Wi G (fun r u => ∃ (fX : Nat → Int32) (iX : Int32) (iY : Int32) (tX : TA), u = [zzO qx 4 [.ref qt, .ref qk, .ref qp, .ref qs, .ref qa, .ref qr, .int iKp, .int iYe, .int iTv], zzI cy qr 5 fX, zzO qt 3 [.int (nI (T_nb tA)), .int (nI (T_np tA)), .int (wb (T_wh tA)), .int (wb (T_gn tA)), .int (T_sd tA), .ref qtw, .ref qtn, .ref qtg, .ref qta, .ref qtr, .ref qtm, .ref qtt, .ref qts], zzI cy qtw 8 (T_wo tA), zzI cy qtn 8 (T_ne tA), zzI cy qtg 8 (T_go tA), zzI cy qta 8 (T_ag tA), zzI cy qtr 8 (T_re tA), zzI cy qtm 8 (T_me tA), zzI cy qtt 8 (T_te tA), zzI cy qts 64 (shF (T_kn tA)), zzO qp 0 [.ref qu, .ref qv, .int iX, .int iY], zzO qu 3 [.int (nI (T_nb tX)), .int (nI (T_np tX)), .int (wb (T_wh tX)), .int (wb (T_gn tX)), .int (T_sd tX), .ref quw, .ref qun, .ref qug, .ref qua, .ref qur, .ref qum, .ref qut, .ref qus], zzI cy quw 8 (T_wo tX), zzI cy qun 8 (T_ne tX), zzI cy qug 8 (T_go tX), zzI cy qua 8 (T_ag tX), zzI cy qur 8 (T_re tX), zzI cy qum 8 (T_me tX), zzI cy qut 8 (T_te tX), zzI cy qus 64 (shF (T_kn tX))] ∧ (True))) := by
  refine enW RX5 (by decide +kernel) rfl (Nat.le_of_ble_eq_true rfl) (fun p e s m below meth c ls A hx hb hml hown hts hr hlocks hP hN hl hin hD hA hS => ?_)
  have hin : meth.name = _ := hin
  have hK := hN.1
  replace hl : lv_has ls 4 [(0, .ref qx), (1, .int iA), (2, .int iB)] := hl
  refine lv_aload_n hx hb (g_42 bX5_order rfl) rfl (lv_at hl 0 rfl) ?_
  refine va_get (D := G) (ci := 4) (v := .ref qt) (C := RX5) (T := TX5) (N := 9) hx hb hts iX_X5 hown hK hP 0 rfl rfl 0 (by decide +kernel) (hts _ m_t174) (fun _ h9 => h9) rfl (g_180 (v := 10) bX5_order rfl) ?_
  refine va_getN (D := G) (ci := 3) (v := .int (nI (T_nb tA))) (C := RX4) (T := TX4) (N := 13) hx hb hts iX_X4 hown hK hP 2 rfl rfl 0 (by decide +kernel) (va_Nw.use rfl (hN.2.1 (RX5, 127, "EachBookOnce$Town", "books", "I") (List.mem_of_getElem? (i := 3) rfl))) (fun _ h9 => h9) rfl (g_180 (v := 127) bX5_order rfl) ?_
  refine lv_aload_n hx hb (g_42 bX5_order rfl) rfl (lv_at hl 0 rfl) ?_
  refine va_get (D := G) (ci := 4) (v := .ref qt) (C := RX5) (T := TX5) (N := 9) hx hb hts iX_X5 hown hK hP 0 rfl rfl 0 (by decide +kernel) (hts _ m_t174) (fun _ h9 => h9) rfl (g_180 (v := 10) bX5_order rfl) ?_
  refine va_getN (D := G) (ci := 3) (v := .int (wb (T_wh tA))) (C := RX4) (T := TX4) (N := 13) hx hb hts iX_X4 hown hK hP 2 rfl rfl 2 (by decide +kernel) (va_Nw.use rfl (hN.2.1 (RX5, 180, "EachBookOnce$Town", "white", "I") (List.mem_of_getElem? (i := 10) rfl))) (fun _ h9 => h9) rfl (g_180 (v := 180) bX5_order rfl) ?_
  refine kRi (rS (As := [.int (wb (T_wh tA))]) (rest := [.int (nI (T_nb tA))]) ⟨hx, hb, hml, hown, hts⟩ (c_J6_bitCount l G cy (wb (T_wh tA))) L_X5_264 (preRS hN hP [] rfl) rfl ⟨Nat.le_of_ble_eq_true rfl, Nat.le_of_ble_eq_true rfl⟩ hl.1 (Nat.le_of_ble_eq_true rfl) (g_184 (v := 264) bX5_order rfl) ⟨Nat.le_of_ble_eq_true rfl, Nat.le_of_ble_eq_true rfl⟩) (fun r_1 h_2 => ?_)
  subst h_2
  refine lv_isub hx hb (g_100 bX5_order rfl) ?_
  refine lv_istore_n (lv' := [(3, .int ((nI (T_nb tA)) - (zbc (wb (T_wh tA))))), (0, .ref qx), (1, .int iA), (2, .int iB)]) hx hb (g_62 bX5_order rfl) rfl hl (by decide +kernel) rfl (fun ls => ?_)
  clear hl
  intro hl
  refine lv_aload_n hx hb (g_42 bX5_order rfl) rfl (lv_at hl 1 rfl) ?_
  refine va_get (D := G) (ci := 4) (v := .ref qt) (C := RX5) (T := TX5) (N := 9) hx hb hts iX_X5 hown hK hP 0 rfl rfl 0 (by decide +kernel) (hts _ m_t174) (fun _ h9 => h9) rfl (g_180 (v := 10) bX5_order rfl) ?_
  refine lv_iload_n hx hb (g_27 bX5_order rfl) rfl (lv_at hl 2 rfl) ?_
  refine kRi (rV (As := [.int iA]) (rest := []) (b := qt) ⟨hx, hb, hml, hown, hts⟩ (c_X4_isOne l G cy qt tA qtw qtn qtg qta qtr qtm qtt qts iA hPp) L_X5_192 (preRV (q := (RX4, TX4, 13)) hN hP [2] rfl 2 3 rfl rfl) rfl ⟨Nat.le_of_ble_eq_true rfl, Nat.le_of_ble_eq_true rfl⟩ hl.1 (Nat.le_of_ble_eq_true rfl) (g_182 (v := 192) bX5_order rfl) ⟨Nat.le_of_ble_eq_true rfl, Nat.le_of_ble_eq_true rfl⟩) (fun r_3 h_4 => ?_)
  rcases h_4 with ⟨rfl, h_5⟩ | ⟨rfl, h_5⟩
  · obtain ⟨k_6, hk_7, rfl⟩ := h_5
    refine lv_if_eq (tgt := 45) hx hb dX5_order_27 (by decide +kernel) (fun h9 => absurd h9 (by decide +kernel)) (fun _ => ?_)
    refine lv_iload_n hx hb (g_28 bX5_order rfl) rfl (lv_at hl 3 rfl) ?_
    refine lv_i2l (v := iB.toInt64) hx hb (g_133 bX5_order rfl) rfl ?_
    refine lv_ldc2 hx hb hown (hts _ m_t691) (g_20 (v := 275) bX5_order rfl) ?_
    refine lv_iload_n hx hb (g_29 bX5_order rfl) rfl (lv_at hl 0 rfl) ?_
    refine lv_iconst (v := 1) hx hb (g_4 bX5_order rfl) (by decide +kernel) ?_
    refine lv_isub hx hb (g_100 bX5_order rfl) ?_
    refine lv_i2l (v := (((nI (T_nb tA)) - (zbc (wb (T_wh tA)))) - 1).toInt64) hx hb (g_133 bX5_order rfl) rfl ?_
    refine kRi (rS (As := [.long iB.toInt64, .long (-1), .long ((((nI (T_nb tA)) - (zbc (wb (T_wh tA)))) - 1).toInt64)]) (rest := []) ⟨hx, hb, hml, hown, hts⟩ (c_X5_within l G cy iB.toInt64 (-1) ((((nI (T_nb tA)) - (zbc (wb (T_wh tA)))) - 1).toInt64)) L_X5_50 (preRS hN hP [] rfl) rfl ⟨Nat.le_of_ble_eq_true rfl, Nat.le_of_ble_eq_true rfl⟩ hl.1 (Nat.le_of_ble_eq_true rfl) (g_184 (v := 50) bX5_order rfl) ⟨Nat.le_of_ble_eq_true rfl, Nat.le_of_ble_eq_true rfl⟩) (fun r_9 h_10 => ?_)
    rcases h_10 with ⟨rfl, h_11⟩ | ⟨rfl, h_11⟩
    · refine lv_if_ne (tgt := 52) hx hb dX5_order_42 (by decide +kernel) (fun _ => ?_) (fun h9 => absurd h9 (by decide +kernel))
      refine lv_aload_n hx hb (g_42 bX5_order rfl) rfl (lv_at hl 1 rfl) ?_
      refine va_get (D := G) (ci := 4) (v := .ref qt) (C := RX5) (T := TX5) (N := 9) hx hb hts iX_X5 hown hK hP 0 rfl rfl 0 (by decide +kernel) (hts _ m_t174) (fun _ h9 => h9) rfl (g_180 (v := 10) bX5_order rfl) ?_
      refine va_getN (D := G) (ci := 3) (v := .int (wb (T_gn tA))) (C := RX4) (T := TX4) (N := 13) hx hb hts iX_X4 hown hK hP 2 rfl rfl 3 (by decide +kernel) (va_Nw.use rfl (hN.2.1 (RX5, 207, "EachBookOnce$Town", "gone", "I") (List.mem_of_getElem? (i := 12) rfl))) (fun _ h9 => h9) rfl (g_180 (v := 207) bX5_order rfl) ?_
      refine lv_iload_n hx hb (g_27 bX5_order rfl) rfl (lv_at hl 2 rfl) ?_
      refine kRi (rS (As := [.int (wb (T_gn tA)), .int (nI k_6)]) (rest := []) ⟨hx, hb, hml, hown, hts⟩ (c_X5_has l G cy (wb (T_gn tA)) k_6) L_X5_183 (preRS hN hP [] rfl) rfl ⟨Nat.le_of_ble_eq_true rfl, Nat.le_of_ble_eq_true rfl⟩ hl.1 (Nat.le_of_ble_eq_true rfl) (g_184 (v := 183) bX5_order rfl) ⟨Nat.le_of_ble_eq_true rfl, Nat.le_of_ble_eq_true rfl⟩) (fun r_13 h_14 => ?_)
      rcases h_14 with ⟨rfl, h_15⟩ | ⟨rfl, h_15⟩
      · rw [bit_wb _ (by omega)] at h_15
        refine lv_if_ne (tgt := 71) hx hb dX5_order_63 (by decide +kernel) (fun _ => ?_) (fun h9 => absurd h9 (by decide +kernel))
        refine lv_aload_n hx hb (g_42 bX5_order rfl) rfl (lv_at hl 1 rfl) ?_
        refine lv_bipush (v := (-5)) hx hb dX5_order_72 (by decide +kernel) ?_
        refine cVi (As := [.int (-5)]) (rest := []) (b := qx) (q := (RX5, TX5, 9)) ⟨hx, hb, hml, hown, hts⟩ (c_X5_refuse5 l G cy (s.heap).size qx qt qk qp qs qa qr iKp iYe iTv fR) L_X5_56 hN hP hD hS hA [0, 1] [false, false, true, true, true, true, true, true, true, true, true, true, true, true, true, true, true, true, true, true, true] rfl (by decide +kernel) rfl 0 4 rfl rfl rfl ⟨Nat.le_of_ble_eq_true rfl, Nat.le_of_ble_eq_true rfl⟩ hl.1 (Nat.le_of_ble_eq_true rfl) (g_182 (v := 56) bX5_order rfl) ⟨Nat.le_of_ble_eq_true rfl, Nat.le_of_ble_eq_true rfl⟩ (fun r_17 u_19 H locs h_18 => ?_)
        clear hP hD hS
        intro hP hD hS
        obtain ⟨fX_20, hu9, h_18⟩ := h_18
        have hPD := pd_eq [_, _, _, _, _, _, _, _, _, _, _, _, _, _, _, _, _, _, _, _, zzI cy qr 5 fX_20] hP hD hu9 rfl
        clear hP hD hu9
        obtain ⟨hP, hD⟩ := hPD
        subst h_18
        exact endWs [[false, false, false, false, false, false, false, false, false, false, false, false, false, false, false, false, false, false, false, true, true], [true, true, true, true, true, true, true, true, true, true, true, true, true, true, true, true, true, true, true]] hx hb hr hlocks rfl hP hD rfl (by decide +kernel) hS ⟨fX_20, iL, iBs, tU, rfl, trivial⟩ (g_172 bX5_order rfl)
      · rw [bit_wb _ (by omega)] at h_15
        refine lv_if_ne (tgt := 71) hx hb dX5_order_63 (by decide +kernel) (fun h9 => absurd (by decide +kernel) h9) (fun _ => ?_)
        refine lv_iload_n hx hb (g_29 bX5_order rfl) rfl (lv_at hl 0 rfl) ?_
        refine lv_iconst (v := 5) hx hb (g_8 bX5_order rfl) (by decide +kernel) ?_
        refine lv_icmp_le (tgt := 78) hx hb dX5_order_68 (by decide +kernel) (fun c_22 => ?_) (fun c_22 => ?_)
        · refine lv_iload_n hx hb (g_28 bX5_order rfl) rfl (lv_at hl 3 rfl) ?_
          refine lv_iconst (v := (-1)) hx hb (g_2 bX5_order rfl) (by decide +kernel) ?_
          refine lv_icmp_ne (tgt := 98) hx hb dX5_order_80 (by decide +kernel) (fun c_23 => ?_) (fun c_23 => ?_)
          · refine lv_aload_n hx hb (g_42 bX5_order rfl) rfl (lv_at hl 1 rfl) ?_
            refine va_get (D := G) (ci := 4) (v := .ref qt) (C := RX5) (T := TX5) (N := 9) hx hb hts iX_X5 hown hK hP 0 rfl rfl 0 (by decide +kernel) (hts _ m_t174) (fun _ h9 => h9) rfl (g_180 (v := 10) bX5_order rfl) ?_
            refine lv_iload_n hx hb (g_28 bX5_order rfl) rfl (lv_at hl 3 rfl) ?_
            refine kRi (rV (As := [.int iB]) (rest := []) (b := qt) ⟨hx, hb, hml, hown, hts⟩ (c_X4_unreadAt l G cy qt tA qtw qtn qtg qta qtr qtm qtt qts iB hB) L_X5_281 (preRV (q := (RX4, TX4, 13)) hN hP (trueIx 0 [false, false, true, true, true, true, true, true, true, true, true]) (sel_fm rfl rfl) 2 3 rfl rfl) rfl ⟨Nat.le_of_ble_eq_true rfl, Nat.le_of_ble_eq_true rfl⟩ hl.1 (Nat.le_of_ble_eq_true rfl) (g_182 (v := 281) bX5_order rfl) ⟨Nat.le_of_ble_eq_true rfl, Nat.le_of_ble_eq_true rfl⟩) (fun r_24 h_25 => ?_)
            subst h_25
            exact endWs [[true, true, true, true, true, true, true, true, true, true, true, true, true, true, true, true, true, true, true, true, true]] hx hb hr hlocks rfl hP hD rfl (by decide +kernel) hS ⟨fR, iL, iBs, tU, rfl, trivial⟩ (g_172 bX5_order rfl)
          · refine lv_aload_n hx hb (g_42 bX5_order rfl) rfl (lv_at hl 1 rfl) ?_
            refine va_get (D := G) (ci := 4) (v := .ref qp) (C := RX5) (T := TX5) (N := 9) hx hb hts iX_X5 hown hK hP 0 rfl rfl 2 (by decide +kernel) (hts _ m_t176) (fun _ h9 => h9) rfl (g_180 (v := 22) bX5_order rfl) ?_
            refine lv_aload_n hx hb (g_42 bX5_order rfl) rfl (lv_at hl 1 rfl) ?_
            refine va_get (D := G) (ci := 4) (v := .ref qt) (C := RX5) (T := TX5) (N := 9) hx hb hts iX_X5 hown hK hP 0 rfl rfl 0 (by decide +kernel) (hts _ m_t174) (fun _ h9 => h9) rfl (g_180 (v := 10) bX5_order rfl) ?_
            refine lv_iload_n hx hb (g_27 bX5_order rfl) rfl (lv_at hl 2 rfl) ?_
            refine cVi (As := [.ref qt, .int (nI k_6)]) (rest := []) (b := qp) (q := (RX0, TX0, 4)) ⟨hx, hb, hml, hown, hts⟩ (c_X0_worthByRising l G cy (s.heap).size qp qu (.ref qv) iL iBs tU quw qun qug qua qur qum qut qus qt tA qtw qtn qtg qta qtr qtm qtt qts k_6 hB hPp (by first | omega | (simp only [nb_sr, np_sr, nb_wr, np_wr, nb_rd, np_rd, nb_ch, np_ch, nb_zr, np_zr, nb_za, np_za, nb_ey, np_ey, nb_hf, np_hf, nb_dd, np_dd, nb_so, np_so, nb_skn, np_skn, nb_swh, np_swh, nb_sgn, np_sgn, nb_ssd, np_ssd, nb_sgo, np_sgo, nb_sag, np_sag]; omega))) L_X5_277 hN hP hD hS hA (trueIxs [[false, false, false, false, false, false, false, false, false, false, false, true, true, true, true, true, true, true, true, true, true], [false, false, true, true, true, true, true, true, true, true, true]]) [true, true, false, false, false, false, false, false, false, false, false, false, false, false, false, false, false, false, false, false, false] (sels_eq rfl rfl) (by decide +kernel) rfl 11 0 rfl rfl rfl ⟨Nat.le_of_ble_eq_true rfl, Nat.le_of_ble_eq_true rfl⟩ hl.1 (Nat.le_of_ble_eq_true rfl) (g_182 (v := 277) bX5_order rfl) ⟨Nat.le_of_ble_eq_true rfl, Nat.le_of_ble_eq_true rfl⟩ (fun r_26 u_28 H locs h_27 => ?_)
            clear hP hD hS
            intro hP hD hS
            obtain ⟨hu9, h_27⟩ := h_27
            have hPD := pd_eq [_, _, _, zzO qu 3 [.int (nI (T_nb (zwr tA k_6))), .int (nI (T_np (zwr tA k_6))), .int (wb (T_wh (zwr tA k_6))), .int (wb (T_gn (zwr tA k_6))), .int (T_sd (zwr tA k_6)), .ref quw, .ref qun, .ref qug, .ref qua, .ref qur, .ref qum, .ref qut, .ref qus], zzI cy quw 8 (T_wo (zwr tA k_6)), zzI cy qun 8 (T_ne (zwr tA k_6)), zzI cy qug 8 (T_go (zwr tA k_6)), zzI cy qua 8 (T_ag (zwr tA k_6)), zzI cy qur 8 (T_re (zwr tA k_6)), zzI cy qum 8 (T_me (zwr tA k_6)), zzI cy qut 8 (T_te (zwr tA k_6)), zzI cy qus 64 (shF (T_kn (zwr tA k_6))), _, _, _, _, _, _, _, _, _] hP hD hu9 rfl
            clear hP hD hu9
            obtain ⟨hP, hD⟩ := hPD
            subst h_27
            refine lv_goto (tgt := 106) hx hb dX5_order_95 (by decide +kernel) ?_
            exact endWs [[true, true, false, false, false, false, false, false, false, false, false, false, true, true, true, true, true, true, true, true, true], [false, false, true, true, true, true, true, true, true, true, true, true]] hx hb hr hlocks rfl hP hD rfl (by decide +kernel) hS ⟨fR, iL, iBs, (zwr tA k_6), rfl, trivial⟩ (g_172 bX5_order rfl)
        · refine lv_aload_n hx hb (g_42 bX5_order rfl) rfl (lv_at hl 1 rfl) ?_
          refine lv_bipush (v := (-5)) hx hb dX5_order_72 (by decide +kernel) ?_
          refine cVi (As := [.int (-5)]) (rest := []) (b := qx) (q := (RX5, TX5, 9)) ⟨hx, hb, hml, hown, hts⟩ (c_X5_refuse5 l G cy (s.heap).size qx qt qk qp qs qa qr iKp iYe iTv fR) L_X5_56 hN hP hD hS hA [0, 1] [false, false, true, true, true, true, true, true, true, true, true, true, true, true, true, true, true, true, true, true, true] rfl (by decide +kernel) rfl 0 4 rfl rfl rfl ⟨Nat.le_of_ble_eq_true rfl, Nat.le_of_ble_eq_true rfl⟩ hl.1 (Nat.le_of_ble_eq_true rfl) (g_182 (v := 56) bX5_order rfl) ⟨Nat.le_of_ble_eq_true rfl, Nat.le_of_ble_eq_true rfl⟩ (fun r_29 u_31 H locs h_30 => ?_)
          clear hP hD hS
          intro hP hD hS
          obtain ⟨fX_32, hu9, h_30⟩ := h_30
          have hPD := pd_eq [_, _, _, _, _, _, _, _, _, _, _, _, _, _, _, _, _, _, _, _, zzI cy qr 5 fX_32] hP hD hu9 rfl
          clear hP hD hu9
          obtain ⟨hP, hD⟩ := hPD
          subst h_30
          exact endWs [[false, false, false, false, false, false, false, false, false, false, false, false, false, false, false, false, false, false, false, true, true], [true, true, true, true, true, true, true, true, true, true, true, true, true, true, true, true, true, true, true]] hx hb hr hlocks rfl hP hD rfl (by decide +kernel) hS ⟨fX_32, iL, iBs, tU, rfl, trivial⟩ (g_172 bX5_order rfl)
    · refine lv_if_ne (tgt := 52) hx hb dX5_order_42 (by decide +kernel) (fun h9 => absurd (by decide +kernel) h9) (fun _ => ?_)
      refine lv_aload_n hx hb (g_42 bX5_order rfl) rfl (lv_at hl 1 rfl) ?_
      refine lv_bipush (v := (-2)) hx hb dX5_order_46 (by decide +kernel) ?_
      refine cVi (As := [.int (-2)]) (rest := []) (b := qx) (q := (RX5, TX5, 9)) ⟨hx, hb, hml, hown, hts⟩ (c_X5_refuse2 l G cy (s.heap).size qx qt qk qp qs qa qr iKp iYe iTv fR) L_X5_56 hN hP hD hS hA [0, 1] [false, false, true, true, true, true, true, true, true, true, true, true, true, true, true, true, true, true, true, true, true] rfl (by decide +kernel) rfl 0 4 rfl rfl rfl ⟨Nat.le_of_ble_eq_true rfl, Nat.le_of_ble_eq_true rfl⟩ hl.1 (Nat.le_of_ble_eq_true rfl) (g_182 (v := 56) bX5_order rfl) ⟨Nat.le_of_ble_eq_true rfl, Nat.le_of_ble_eq_true rfl⟩ (fun r_34 u_36 H locs h_35 => ?_)
      clear hP hD hS
      intro hP hD hS
      obtain ⟨fX_37, hu9, h_35⟩ := h_35
      have hPD := pd_eq [_, _, _, _, _, _, _, _, _, _, _, _, _, _, _, _, _, _, _, _, zzI cy qr 5 fX_37] hP hD hu9 rfl
      clear hP hD hu9
      obtain ⟨hP, hD⟩ := hPD
      subst h_35
      exact endWs [[false, false, false, false, false, false, false, false, false, false, false, false, false, false, false, false, false, false, false, true, true], [true, true, true, true, true, true, true, true, true, true, true, true, true, true, true, true, true, true, true]] hx hb hr hlocks rfl hP hD rfl (by decide +kernel) hS ⟨fX_37, iL, iBs, tU, rfl, trivial⟩ (g_172 bX5_order rfl)
  · refine lv_if_eq (tgt := 45) hx hb dX5_order_27 (by decide +kernel) (fun _ => ?_) (fun h9 => absurd (by decide +kernel) h9)
    refine lv_aload_n hx hb (g_42 bX5_order rfl) rfl (lv_at hl 1 rfl) ?_
    refine lv_bipush (v := (-2)) hx hb dX5_order_46 (by decide +kernel) ?_
    refine cVi (As := [.int (-2)]) (rest := []) (b := qx) (q := (RX5, TX5, 9)) ⟨hx, hb, hml, hown, hts⟩ (c_X5_refuse2 l G cy (s.heap).size qx qt qk qp qs qa qr iKp iYe iTv fR) L_X5_56 hN hP hD hS hA [0, 1] [false, false, true, true, true, true, true, true, true, true, true, true, true, true, true, true, true, true, true, true, true] rfl (by decide +kernel) rfl 0 4 rfl rfl rfl ⟨Nat.le_of_ble_eq_true rfl, Nat.le_of_ble_eq_true rfl⟩ hl.1 (Nat.le_of_ble_eq_true rfl) (g_182 (v := 56) bX5_order rfl) ⟨Nat.le_of_ble_eq_true rfl, Nat.le_of_ble_eq_true rfl⟩ (fun r_39 u_41 H locs h_40 => ?_)
    clear hP hD hS
    intro hP hD hS
    obtain ⟨fX_42, hu9, h_40⟩ := h_40
    have hPD := pd_eq [_, _, _, _, _, _, _, _, _, _, _, _, _, _, _, _, _, _, _, _, zzI cy qr 5 fX_42] hP hD hu9 rfl
    clear hP hD hu9
    obtain ⟨hP, hD⟩ := hPD
    subst h_40
    exact endWs [[false, false, false, false, false, false, false, false, false, false, false, false, false, false, false, false, false, false, false, true, true], [true, true, true, true, true, true, true, true, true, true, true, true, true, true, true, true, true, true, true]] hx hb hr hlocks rfl hP hD rfl (by decide +kernel) hS ⟨fX_42, iL, iBs, tU, rfl, trivial⟩ (g_172 bX5_order rfl)
set_option maxHeartbeats 4000000 in
set_option maxRecDepth 100000 in
theorem p_X5_keeping (l : Launch) (G : va_G) (cy : Nat → ClassId) (sz : Nat) (qx : Nat) (qt : Nat) (qk : Nat) (qp : Nat) (qs : Nat) (qa : Nat) (qr : Nat) (iKp : Int32) (iYe : Int32) (iTv : Int32) (fR : Nat → Int32) (tA : TA) (qtw : Nat) (qtn : Nat) (qtg : Nat) (qta : Nat) (qtr : Nat) (qtm : Nat) (qtt : Nat) (qts : Nat) (qu : Nat) (qv : Nat) (iL : Int32) (iBs : Int32) (tU : TA) (quw : Nat) (qun : Nat) (qug : Nat) (qua : Nat) (qur : Nat) (qum : Nat) (qut : Nat) (qus : Nat) (tV : TA) (qvw : Nat) (qvn : Nat) (qvg : Nat) (qva : Nat) (qvr : Nat) (qvm : Nat) (qvt : Nat) (qvs : Nat) (iA : Int32) (iB : Int32)  (hB : T_nb tA ≤ 8) (hPp : T_np tA ≤ 8) : MW l yX5_keeping cX5_keeping 4 (some .int) 12 0 0 G cy [zzO qx 4 [.ref qt, .ref qk, .ref qp, .ref qs, .ref qa, .ref qr, .int iKp, .int iYe, .int iTv], zzI cy qr 5 fR, zzO qt 3 [.int (nI (T_nb tA)), .int (nI (T_np tA)), .int (wb (T_wh tA)), .int (wb (T_gn tA)), .int (T_sd tA), .ref qtw, .ref qtn, .ref qtg, .ref qta, .ref qtr, .ref qtm, .ref qtt, .ref qts], zzI cy qtw 8 (T_wo tA), zzI cy qtn 8 (T_ne tA), zzI cy qtg 8 (T_go tA), zzI cy qta 8 (T_ag tA), zzI cy qtr 8 (T_re tA), zzI cy qtm 8 (T_me tA), zzI cy qtt 8 (T_te tA), zzI cy qts 64 (shF (T_kn tA)), zzO qp 0 [.ref qu, .ref qv, .int iL, .int iBs], zzO qu 3 [.int (nI (T_nb tU)), .int (nI (T_np tU)), .int (wb (T_wh tU)), .int (wb (T_gn tU)), .int (T_sd tU), .ref quw, .ref qun, .ref qug, .ref qua, .ref qur, .ref qum, .ref qut, .ref qus], zzI cy quw 8 (T_wo tU), zzI cy qun 8 (T_ne tU), zzI cy qug 8 (T_go tU), zzI cy qua 8 (T_ag tU), zzI cy qur 8 (T_re tU), zzI cy qum 8 (T_me tU), zzI cy qut 8 (T_te tU), zzI cy qus 64 (shF (T_kn tU)), zzO qv 3 [.int (nI (T_nb tV)), .int (nI (T_np tV)), .int (wb (T_wh tV)), .int (wb (T_gn tV)), .int (T_sd tV), .ref qvw, .ref qvn, .ref qvg, .ref qva, .ref qvr, .ref qvm, .ref qvt, .ref qvs], zzI cy qvw 8 (T_wo tV), zzI cy qvn 8 (T_ne tV), zzI cy qvg 8 (T_go tV), zzI cy qva 8 (T_ag tV), zzI cy qvr 8 (T_re tV), zzI cy qvm 8 (T_me tV), zzI cy qvt 8 (T_te tV), zzI cy qvs 64 (shF (T_kn tV))] sz [.ref qx, .int iA, .int iB] (Wi G (fun r u => ∃ (fX : Nat → Int32) (iX : Int32) (iY : Int32) (tX : TA) (tY : TA), u = [zzO qx 4 [.ref qt, .ref qk, .ref qp, .ref qs, .ref qa, .ref qr, .int iKp, .int iYe, .int iTv], zzI cy qr 5 fX, zzO qt 3 [.int (nI (T_nb tA)), .int (nI (T_np tA)), .int (wb (T_wh tA)), .int (wb (T_gn tA)), .int (T_sd tA), .ref qtw, .ref qtn, .ref qtg, .ref qta, .ref qtr, .ref qtm, .ref qtt, .ref qts], zzI cy qtw 8 (T_wo tA), zzI cy qtn 8 (T_ne tA), zzI cy qtg 8 (T_go tA), zzI cy qta 8 (T_ag tA), zzI cy qtr 8 (T_re tA), zzI cy qtm 8 (T_me tA), zzI cy qtt 8 (T_te tA), zzI cy qts 64 (shF (T_kn tA)), zzO qp 0 [.ref qu, .ref qv, .int iX, .int iY], zzO qu 3 [.int (nI (T_nb tX)), .int (nI (T_np tX)), .int (wb (T_wh tX)), .int (wb (T_gn tX)), .int (T_sd tX), .ref quw, .ref qun, .ref qug, .ref qua, .ref qur, .ref qum, .ref qut, .ref qus], zzI cy quw 8 (T_wo tX), zzI cy qun 8 (T_ne tX), zzI cy qug 8 (T_go tX), zzI cy qua 8 (T_ag tX), zzI cy qur 8 (T_re tX), zzI cy qum 8 (T_me tX), zzI cy qut 8 (T_te tX), zzI cy qus 64 (shF (T_kn tX)), zzO qv 3 [.int (nI (T_nb tY)), .int (nI (T_np tY)), .int (wb (T_wh tY)), .int (wb (T_gn tY)), .int (T_sd tY), .ref qvw, .ref qvn, .ref qvg, .ref qva, .ref qvr, .ref qvm, .ref qvt, .ref qvs], zzI cy qvw 8 (T_wo tY), zzI cy qvn 8 (T_ne tY), zzI cy qvg 8 (T_go tY), zzI cy qva 8 (T_ag tY), zzI cy qvr 8 (T_re tY), zzI cy qvm 8 (T_me tY), zzI cy qvt 8 (T_te tY), zzI cy qvs 64 (shF (T_kn tY))] ∧ (True))) := by
  refine enW RX5 (by decide +kernel) rfl (Nat.le_of_ble_eq_true rfl) (fun p e s m below meth c ls A hx hb hml hown hts hr hlocks hP hN hl hin hD hA hS => ?_)
  have hin : meth.name = _ := hin
  have hK := hN.1
  replace hl : lv_has ls 4 [(0, .ref qx), (1, .int iA), (2, .int iB)] := hl
  refine lv_aload_n hx hb (g_42 bX5_keeping rfl) rfl (lv_at hl 0 rfl) ?_
  refine va_get (D := G) (ci := 4) (v := .ref qt) (C := RX5) (T := TX5) (N := 9) hx hb hts iX_X5 hown hK hP 0 rfl rfl 0 (by decide +kernel) (hts _ m_t174) (fun _ h9 => h9) rfl (g_180 (v := 10) bX5_keeping rfl) ?_
  refine lv_iload_n hx hb (g_27 bX5_keeping rfl) rfl (lv_at hl 1 rfl) ?_
  refine kRi (rV (As := [.int iA]) (rest := []) (b := qt) ⟨hx, hb, hml, hown, hts⟩ (c_X4_isBook l G cy qt tA qtw qtn qtg qta qtr qtm qtt qts iA hB) L_X5_168 (preRV (q := (RX4, TX4, 13)) hN hP [2] rfl 2 3 rfl rfl) rfl ⟨Nat.le_of_ble_eq_true rfl, Nat.le_of_ble_eq_true rfl⟩ hl.1 (Nat.le_of_ble_eq_true rfl) (g_182 (v := 168) bX5_keeping rfl) ⟨Nat.le_of_ble_eq_true rfl, Nat.le_of_ble_eq_true rfl⟩) (fun r_1 h_2 => ?_)
  rcases h_2 with ⟨rfl, h_3⟩ | ⟨rfl, h_3⟩
  · obtain ⟨k_4, hk_5, rfl⟩ := h_3
    refine lv_if_eq (tgt := 25) hx hb dX5_keeping_8 (by decide +kernel) (fun h9 => absurd h9 (by decide +kernel)) (fun _ => ?_)
    refine lv_iload_n hx hb (g_28 bX5_keeping rfl) rfl (lv_at hl 2 rfl) ?_
    refine lv_i2l (v := iB.toInt64) hx hb (g_133 bX5_keeping rfl) rfl ?_
    refine lv_ldc2 hx hb hown (hts _ m_t704) (g_20 (v := 284) bX5_keeping rfl) ?_
    refine lv_ldc2 hx hb hown (hts _ m_t644) (g_20 (v := 250) bX5_keeping rfl) ?_
    refine kRi (rS (As := [.long iB.toInt64, .long 2, .long 60]) (rest := []) ⟨hx, hb, hml, hown, hts⟩ (c_X5_within l G cy iB.toInt64 2 60) L_X5_50 (preRS hN hP [] rfl) rfl ⟨Nat.le_of_ble_eq_true rfl, Nat.le_of_ble_eq_true rfl⟩ hl.1 (Nat.le_of_ble_eq_true rfl) (g_184 (v := 50) bX5_keeping rfl) ⟨Nat.le_of_ble_eq_true rfl, Nat.le_of_ble_eq_true rfl⟩) (fun r_7 h_8 => ?_)
    rcases h_8 with ⟨rfl, h_9⟩ | ⟨rfl, h_9⟩
    · obtain ⟨k_10, hk_11, hk_12, rfl⟩ := iv_nI 2 60 (by decide +kernel) (by decide +kernel) h_9
      refine lv_if_ne (tgt := 36) hx hb dX5_keeping_22 (by decide +kernel) (fun _ => ?_) (fun h9 => absurd h9 (by decide +kernel))
      refine lv_aload_n hx hb (g_42 bX5_keeping rfl) rfl (lv_at hl 0 rfl) ?_
      refine va_get (D := G) (ci := 4) (v := .ref qt) (C := RX5) (T := TX5) (N := 9) hx hb hts iX_X5 hown hK hP 0 rfl rfl 0 (by decide +kernel) (hts _ m_t174) (fun _ h9 => h9) rfl (g_180 (v := 10) bX5_keeping rfl) ?_
      refine va_getN (D := G) (ci := 3) (v := .int (wb (T_wh tA))) (C := RX4) (T := TX4) (N := 13) hx hb hts iX_X4 hown hK hP 2 rfl rfl 2 (by decide +kernel) (va_Nw.use rfl (hN.2.1 (RX5, 180, "EachBookOnce$Town", "white", "I") (List.mem_of_getElem? (i := 10) rfl))) (fun _ h9 => h9) rfl (g_180 (v := 180) bX5_keeping rfl) ?_
      refine lv_iload_n hx hb (g_27 bX5_keeping rfl) rfl (lv_at hl 1 rfl) ?_
      refine kRi (rS (As := [.int (wb (T_wh tA)), .int (nI k_4)]) (rest := []) ⟨hx, hb, hml, hown, hts⟩ (c_X5_has l G cy (wb (T_wh tA)) k_4) L_X5_183 (preRS hN hP [] rfl) rfl ⟨Nat.le_of_ble_eq_true rfl, Nat.le_of_ble_eq_true rfl⟩ hl.1 (Nat.le_of_ble_eq_true rfl) (g_184 (v := 183) bX5_keeping rfl) ⟨Nat.le_of_ble_eq_true rfl, Nat.le_of_ble_eq_true rfl⟩) (fun r_14 h_15 => ?_)
      rcases h_15 with ⟨rfl, h_16⟩ | ⟨rfl, h_16⟩
      · rw [bit_wb _ (by omega)] at h_16
        refine lv_if_ne (tgt := 70) hx hb dX5_keeping_47 (by decide +kernel) (fun _ => ?_) (fun h9 => absurd h9 (by decide +kernel))
        refine lv_iconst (v := 0) hx hb (g_3 bX5_keeping rfl) (by decide +kernel) ?_
        refine lv_istore_n (lv' := [(3, .int 0), (0, .ref qx), (1, .int (nI k_4)), (2, .int (nI k_10))]) hx hb (g_62 bX5_keeping rfl) rfl hl (by decide +kernel) rfl (fun ls => ?_)
        clear hl
        intro hl
        refine lv_iload_n hx hb (g_29 bX5_keeping rfl) rfl (lv_at hl 0 rfl) ?_
        refine lv_if_eq (tgt := 86) hx hb dX5_keeping_73 (by decide +kernel) (fun _ => ?_) (fun h9 => absurd (by decide +kernel) h9)
        refine lv_aload_n hx hb (g_42 bX5_keeping rfl) rfl (lv_at hl 1 rfl) ?_
        refine lv_bipush (v := (-5)) hx hb dX5_keeping_87 (by decide +kernel) ?_
        refine cVi (As := [.int (-5)]) (rest := []) (b := qx) (q := (RX5, TX5, 9)) ⟨hx, hb, hml, hown, hts⟩ (c_X5_refuse5 l G cy (s.heap).size qx qt qk qp qs qa qr iKp iYe iTv fR) L_X5_56 hN hP hD hS hA [0, 1] [false, false, true, true, true, true, true, true, true, true, true, true, true, true, true, true, true, true, true, true, true, true, true, true, true, true, true, true, true, true] rfl (by decide +kernel) rfl 0 4 rfl rfl rfl ⟨Nat.le_of_ble_eq_true rfl, Nat.le_of_ble_eq_true rfl⟩ hl.1 (Nat.le_of_ble_eq_true rfl) (g_182 (v := 56) bX5_keeping rfl) ⟨Nat.le_of_ble_eq_true rfl, Nat.le_of_ble_eq_true rfl⟩ (fun r_19 u_21 H locs h_20 => ?_)
        clear hP hD hS
        intro hP hD hS
        obtain ⟨fX_22, hu9, h_20⟩ := h_20
        have hPD := pd_eq [_, _, _, _, _, _, _, _, _, _, _, _, _, _, _, _, _, _, _, _, _, _, _, _, _, _, _, _, _, zzI cy qr 5 fX_22] hP hD hu9 rfl
        clear hP hD hu9
        obtain ⟨hP, hD⟩ := hPD
        subst h_20
        refine lv_ldcw hx hb hown (hts _ m_t705) (g_19 (v := 286) bX5_keeping rfl) ?_
        refine lv_isub hx hb (g_100 bX5_keeping rfl) ?_
        refine lv_seti (v := (-1000005)) (by decide +kernel) ?_
        exact endWs [[false, false, false, false, false, false, false, false, false, false, false, false, false, false, false, false, false, false, false, false, false, false, false, false, false, false, false, false, true, true], [true, true, true, true, true, true, true, true, true, true, true, true, true, true, true, true, true, true, true, true, true, true, true, true, true, true, true, true]] hx hb hr hlocks rfl hP hD rfl (by decide +kernel) hS ⟨fX_22, iL, iBs, tU, tV, rfl, trivial⟩ (g_172 bX5_keeping rfl)
      · rw [bit_wb _ (by omega)] at h_16
        refine lv_if_ne (tgt := 70) hx hb dX5_keeping_47 (by decide +kernel) (fun h9 => absurd (by decide +kernel) h9) (fun _ => ?_)
        refine lv_aload_n hx hb (g_42 bX5_keeping rfl) rfl (lv_at hl 0 rfl) ?_
        refine va_get (D := G) (ci := 4) (v := .ref qp) (C := RX5) (T := TX5) (N := 9) hx hb hts iX_X5 hown hK hP 0 rfl rfl 2 (by decide +kernel) (hts _ m_t176) (fun _ h9 => h9) rfl (g_180 (v := 22) bX5_keeping rfl) ?_
        refine lv_aload_n hx hb (g_42 bX5_keeping rfl) rfl (lv_at hl 0 rfl) ?_
        refine va_get (D := G) (ci := 4) (v := .ref qt) (C := RX5) (T := TX5) (N := 9) hx hb hts iX_X5 hown hK hP 0 rfl rfl 0 (by decide +kernel) (hts _ m_t174) (fun _ h9 => h9) rfl (g_180 (v := 10) bX5_keeping rfl) ?_
        refine lv_iload_n hx hb (g_27 bX5_keeping rfl) rfl (lv_at hl 1 rfl) ?_
        refine lv_iload_n hx hb (g_28 bX5_keeping rfl) rfl (lv_at hl 2 rfl) ?_
        refine cVi (As := [.ref qt, .int (nI k_4), .int (nI k_10)]) (rest := []) (b := qp) (q := (RX0, TX0, 4)) ⟨hx, hb, hml, hown, hts⟩ (c_X0_findKeeping l G cy (s.heap).size qp qu qv iL iBs tU quw qun qug qua qur qum qut qus tV qvw qvn qvg qva qvr qvm qvt qvs qt tA qtw qtn qtg qta qtr qtm qtt qts k_4 k_10 hB hPp (by first | omega | (simp only [nb_sr, np_sr, nb_wr, np_wr, nb_rd, np_rd, nb_ch, np_ch, nb_zr, np_zr, nb_za, np_za, nb_ey, np_ey, nb_hf, np_hf, nb_dd, np_dd, nb_so, np_so, nb_skn, np_skn, nb_swh, np_swh, nb_sgn, np_sgn, nb_ssd, np_ssd, nb_sgo, np_sgo, nb_sag, np_sag]; omega)) (by first | omega | (simp only [nb_sr, np_sr, nb_wr, np_wr, nb_rd, np_rd, nb_ch, np_ch, nb_zr, np_zr, nb_za, np_za, nb_ey, np_ey, nb_hf, np_hf, nb_dd, np_dd, nb_so, np_so, nb_skn, np_skn, nb_swh, np_swh, nb_sgn, np_sgn, nb_ssd, np_ssd, nb_sgo, np_sgo, nb_sag, np_sag]; omega)) (by first | omega | (simp only [nb_sr, np_sr, nb_wr, np_wr, nb_rd, np_rd, nb_ch, np_ch, nb_zr, np_zr, nb_za, np_za, nb_ey, np_ey, nb_hf, np_hf, nb_dd, np_dd, nb_so, np_so, nb_skn, np_skn, nb_swh, np_swh, nb_sgn, np_sgn, nb_ssd, np_ssd, nb_sgo, np_sgo, nb_sag, np_sag]; omega))) L_X5_287 hN hP hD hS hA (trueIxs [[false, false, false, false, false, false, false, false, false, false, false, true, true, true, true, true, true, true, true, true, true, true, true, true, true, true, true, true, true, true], [false, false, true, true, true, true, true, true, true, true, true]]) [true, true, false, false, false, false, false, false, false, false, false, false, false, false, false, false, false, false, false, false, false, false, false, false, false, false, false, false, false, false] (sels_eq rfl rfl) (by decide +kernel) rfl 11 0 rfl rfl rfl ⟨Nat.le_of_ble_eq_true rfl, Nat.le_of_ble_eq_true rfl⟩ hl.1 (Nat.le_of_ble_eq_true rfl) (g_182 (v := 287) bX5_keeping rfl) ⟨Nat.le_of_ble_eq_true rfl, Nat.le_of_ble_eq_true rfl⟩ (fun r_24 u_26 H locs h_25 => ?_)
        clear hP hD hS
        intro hP hD hS
        obtain ⟨tX_27, tY_28, hu9, h_25⟩ := h_25
        have hPD := pd_eq [_, _, zzO qp 0 [.ref qu, .ref qv, .int iL, .int ((zfk tA k_4 k_10 iBs).2)], zzO qu 3 [.int (nI (T_nb tX_27)), .int (nI (T_np tX_27)), .int (wb (T_wh tX_27)), .int (wb (T_gn tX_27)), .int (T_sd tX_27), .ref quw, .ref qun, .ref qug, .ref qua, .ref qur, .ref qum, .ref qut, .ref qus], zzI cy quw 8 (T_wo tX_27), zzI cy qun 8 (T_ne tX_27), zzI cy qug 8 (T_go tX_27), zzI cy qua 8 (T_ag tX_27), zzI cy qur 8 (T_re tX_27), zzI cy qum 8 (T_me tX_27), zzI cy qut 8 (T_te tX_27), zzI cy qus 64 (shF (T_kn tX_27)), zzO qv 3 [.int (nI (T_nb tY_28)), .int (nI (T_np tY_28)), .int (wb (T_wh tY_28)), .int (wb (T_gn tY_28)), .int (T_sd tY_28), .ref qvw, .ref qvn, .ref qvg, .ref qva, .ref qvr, .ref qvm, .ref qvt, .ref qvs], zzI cy qvw 8 (T_wo tY_28), zzI cy qvn 8 (T_ne tY_28), zzI cy qvg 8 (T_go tY_28), zzI cy qva 8 (T_ag tY_28), zzI cy qvr 8 (T_re tY_28), zzI cy qvm 8 (T_me tY_28), zzI cy qvt 8 (T_te tY_28), zzI cy qvs 64 (shF (T_kn tY_28)), _, _, _, _, _, _, _, _, _] hP hD hu9 rfl
        clear hP hD hu9
        obtain ⟨hP, hD⟩ := hPD
        subst h_25
        refine lv_if_eq (tgt := 70) hx hb dX5_keeping_63 (by decide +kernel) (fun c_29 => ?_) (fun c_29 => ?_)
        · refine lv_iconst (v := 0) hx hb (g_3 bX5_keeping rfl) (by decide +kernel) ?_
          refine lv_istore_n (lv' := [(3, .int 0), (0, .ref qx), (1, .int (nI k_4)), (2, .int (nI k_10))]) hx hb (g_62 bX5_keeping rfl) rfl hl (by decide +kernel) rfl (fun ls => ?_)
          clear hl
          intro hl
          refine lv_iload_n hx hb (g_29 bX5_keeping rfl) rfl (lv_at hl 0 rfl) ?_
          refine lv_if_eq (tgt := 86) hx hb dX5_keeping_73 (by decide +kernel) (fun _ => ?_) (fun h9 => absurd (by decide +kernel) h9)
          refine lv_aload_n hx hb (g_42 bX5_keeping rfl) rfl (lv_at hl 1 rfl) ?_
          refine lv_bipush (v := (-5)) hx hb dX5_keeping_87 (by decide +kernel) ?_
          refine cVi (As := [.int (-5)]) (rest := []) (b := qx) (q := (RX5, TX5, 9)) ⟨hx, hb, hml, hown, hts⟩ (c_X5_refuse5 l G cy (H).size qx qt qk qp qs qa qr iKp iYe iTv fR) L_X5_56 hN hP hD hS hA [0, 1] [false, false, true, true, true, true, true, true, true, true, true, true, true, true, true, true, true, true, true, true, true, true, true, true, true, true, true, true, true, true] rfl (by decide +kernel) rfl 0 4 rfl rfl rfl ⟨Nat.le_of_ble_eq_true rfl, Nat.le_of_ble_eq_true rfl⟩ hl.1 (Nat.le_of_ble_eq_true rfl) (g_182 (v := 56) bX5_keeping rfl) ⟨Nat.le_of_ble_eq_true rfl, Nat.le_of_ble_eq_true rfl⟩ (fun r_31 u_33 H locs h_32 => ?_)
          clear hP hD hS
          intro hP hD hS
          obtain ⟨fX_34, hu9, h_32⟩ := h_32
          have hPD := pd_eq [_, _, _, _, _, _, _, _, _, _, _, _, _, _, _, _, _, _, _, _, _, _, _, _, _, _, _, _, _, zzI cy qr 5 fX_34] hP hD hu9 rfl
          clear hP hD hu9
          obtain ⟨hP, hD⟩ := hPD
          subst h_32
          refine lv_ldcw hx hb hown (hts _ m_t705) (g_19 (v := 286) bX5_keeping rfl) ?_
          refine lv_isub hx hb (g_100 bX5_keeping rfl) ?_
          refine lv_seti (v := (-1000005)) (by decide +kernel) ?_
          exact endWs [[false, false, false, false, false, false, false, false, false, false, false, false, false, false, false, false, false, false, false, false, false, false, false, false, false, false, false, false, true, true], [false, false, false, false, false, false, false, false, false, false, false, false, false, false, false, false, false, false, false, true, true, true, true, true, true, true, true, true], [true, true, true, true, true, true, true, true, true, true, true, true, true, true, true, true, true, true, true]] hx hb hr hlocks rfl hP hD rfl (by decide +kernel) hS ⟨fX_34, iL, (zfk tA k_4 k_10 iBs).2, tX_27, tY_28, rfl, trivial⟩ (g_172 bX5_keeping rfl)
        · refine lv_iconst (v := 1) hx hb (g_4 bX5_keeping rfl) (by decide +kernel) ?_
          refine lv_goto (tgt := 71) hx hb dX5_keeping_67 (by decide +kernel) ?_
          refine lv_istore_n (lv' := [(3, .int 1), (0, .ref qx), (1, .int (nI k_4)), (2, .int (nI k_10))]) hx hb (g_62 bX5_keeping rfl) rfl hl (by decide +kernel) rfl (fun ls => ?_)
          clear hl
          intro hl
          refine lv_iload_n hx hb (g_29 bX5_keeping rfl) rfl (lv_at hl 0 rfl) ?_
          refine lv_if_eq (tgt := 86) hx hb dX5_keeping_73 (by decide +kernel) (fun h9 => absurd h9 (by decide +kernel)) (fun _ => ?_)
          refine lv_aload_n hx hb (g_42 bX5_keeping rfl) rfl (lv_at hl 1 rfl) ?_
          refine va_get (D := G) (ci := 4) (v := .ref qp) (C := RX5) (T := TX5) (N := 9) hx hb hts iX_X5 hown hK hP 0 rfl rfl 2 (by decide +kernel) (hts _ m_t176) (fun _ h9 => h9) rfl (g_180 (v := 22) bX5_keeping rfl) ?_
          refine va_getN (D := G) (ci := 0) (v := .int ((zfk tA k_4 k_10 iBs).2)) (C := RX0) (T := TX0) (N := 4) hx hb hts iX_X0 hown hK hP 2 rfl rfl 3 (by decide +kernel) (va_Nw.use rfl (hN.2.1 (RX5, 291, "EachBookOnce$Plans", "bestSum", "I") (List.mem_of_getElem? (i := 25) rfl))) (fun _ h9 => h9) rfl (g_180 (v := 291) bX5_keeping rfl) ?_
          refine lv_goto (tgt := 96) hx hb dX5_keeping_83 (by decide +kernel) ?_
          exact endWs [[true, true, false, false, false, false, false, false, false, false, false, false, false, false, false, false, false, false, false, false, false, true, true, true, true, true, true, true, true, true], [false, false, true, true, true, true, true, true, true, true, true, true, true, true, true, true, true, true, true, true, true]] hx hb hr hlocks rfl hP hD rfl (by decide +kernel) hS ⟨fR, iL, (zfk tA k_4 k_10 iBs).2, tX_27, tY_28, rfl, trivial⟩ (g_172 bX5_keeping rfl)
    · refine lv_if_ne (tgt := 36) hx hb dX5_keeping_22 (by decide +kernel) (fun h9 => absurd (by decide +kernel) h9) (fun _ => ?_)
      refine lv_aload_n hx hb (g_42 bX5_keeping rfl) rfl (lv_at hl 0 rfl) ?_
      refine lv_bipush (v := (-2)) hx hb dX5_keeping_26 (by decide +kernel) ?_
      refine cVi (As := [.int (-2)]) (rest := []) (b := qx) (q := (RX5, TX5, 9)) ⟨hx, hb, hml, hown, hts⟩ (c_X5_refuse2 l G cy (s.heap).size qx qt qk qp qs qa qr iKp iYe iTv fR) L_X5_56 hN hP hD hS hA [0, 1] [false, false, true, true, true, true, true, true, true, true, true, true, true, true, true, true, true, true, true, true, true, true, true, true, true, true, true, true, true, true] rfl (by decide +kernel) rfl 0 4 rfl rfl rfl ⟨Nat.le_of_ble_eq_true rfl, Nat.le_of_ble_eq_true rfl⟩ hl.1 (Nat.le_of_ble_eq_true rfl) (g_182 (v := 56) bX5_keeping rfl) ⟨Nat.le_of_ble_eq_true rfl, Nat.le_of_ble_eq_true rfl⟩ (fun r_37 u_39 H locs h_38 => ?_)
      clear hP hD hS
      intro hP hD hS
      obtain ⟨fX_40, hu9, h_38⟩ := h_38
      have hPD := pd_eq [_, _, _, _, _, _, _, _, _, _, _, _, _, _, _, _, _, _, _, _, _, _, _, _, _, _, _, _, _, zzI cy qr 5 fX_40] hP hD hu9 rfl
      clear hP hD hu9
      obtain ⟨hP, hD⟩ := hPD
      subst h_38
      refine lv_ldcw hx hb hown (hts _ m_t705) (g_19 (v := 286) bX5_keeping rfl) ?_
      refine lv_isub hx hb (g_100 bX5_keeping rfl) ?_
      refine lv_seti (v := (-1000002)) (by decide +kernel) ?_
      exact endWs [[false, false, false, false, false, false, false, false, false, false, false, false, false, false, false, false, false, false, false, false, false, false, false, false, false, false, false, false, true, true], [true, true, true, true, true, true, true, true, true, true, true, true, true, true, true, true, true, true, true, true, true, true, true, true, true, true, true, true]] hx hb hr hlocks rfl hP hD rfl (by decide +kernel) hS ⟨fX_40, iL, iBs, tU, tV, rfl, trivial⟩ (g_172 bX5_keeping rfl)
  · refine lv_if_eq (tgt := 25) hx hb dX5_keeping_8 (by decide +kernel) (fun _ => ?_) (fun h9 => absurd (by decide +kernel) h9)
    refine lv_aload_n hx hb (g_42 bX5_keeping rfl) rfl (lv_at hl 0 rfl) ?_
    refine lv_bipush (v := (-2)) hx hb dX5_keeping_26 (by decide +kernel) ?_
    refine cVi (As := [.int (-2)]) (rest := []) (b := qx) (q := (RX5, TX5, 9)) ⟨hx, hb, hml, hown, hts⟩ (c_X5_refuse2 l G cy (s.heap).size qx qt qk qp qs qa qr iKp iYe iTv fR) L_X5_56 hN hP hD hS hA [0, 1] [false, false, true, true, true, true, true, true, true, true, true, true, true, true, true, true, true, true, true, true, true, true, true, true, true, true, true, true, true, true] rfl (by decide +kernel) rfl 0 4 rfl rfl rfl ⟨Nat.le_of_ble_eq_true rfl, Nat.le_of_ble_eq_true rfl⟩ hl.1 (Nat.le_of_ble_eq_true rfl) (g_182 (v := 56) bX5_keeping rfl) ⟨Nat.le_of_ble_eq_true rfl, Nat.le_of_ble_eq_true rfl⟩ (fun r_42 u_44 H locs h_43 => ?_)
    clear hP hD hS
    intro hP hD hS
    obtain ⟨fX_45, hu9, h_43⟩ := h_43
    have hPD := pd_eq [_, _, _, _, _, _, _, _, _, _, _, _, _, _, _, _, _, _, _, _, _, _, _, _, _, _, _, _, _, zzI cy qr 5 fX_45] hP hD hu9 rfl
    clear hP hD hu9
    obtain ⟨hP, hD⟩ := hPD
    subst h_43
    refine lv_ldcw hx hb hown (hts _ m_t705) (g_19 (v := 286) bX5_keeping rfl) ?_
    refine lv_isub hx hb (g_100 bX5_keeping rfl) ?_
    refine lv_seti (v := (-1000002)) (by decide +kernel) ?_
    exact endWs [[false, false, false, false, false, false, false, false, false, false, false, false, false, false, false, false, false, false, false, false, false, false, false, false, false, false, false, false, true, true], [true, true, true, true, true, true, true, true, true, true, true, true, true, true, true, true, true, true, true, true, true, true, true, true, true, true, true, true]] hx hb hr hlocks rfl hP hD rfl (by decide +kernel) hS ⟨fX_45, iL, iBs, tU, tV, rfl, trivial⟩ (g_172 bX5_keeping rfl)
set_option maxHeartbeats 4000000 in
set_option maxRecDepth 100000 in
theorem p_X5_left (l : Launch) (G : va_G) (cy : Nat → ClassId) (sz : Nat) (qx : Nat) (qt : Nat) (qk : Nat) (qp : Nat) (qs : Nat) (qa : Nat) (qr : Nat) (iKp : Int32) (iYe : Int32) (iTv : Int32) (fR : Nat → Int32) (iA : Int32) (iB : Int32) (iC : Int32)   : MW l yX5_left cX5_left 6 (some .int) 12 0 0 G cy [zzO qx 4 [.ref qt, .ref qk, .ref qp, .ref qs, .ref qa, .ref qr, .int iKp, .int iYe, .int iTv], zzI cy qr 5 fR] sz [.ref qx, .int iA, .int iB, .int iC] (Wi G (fun r u => ∃ (fX : Nat → Int32), u = [zzO qx 4 [.ref qt, .ref qk, .ref qp, .ref qs, .ref qa, .ref qr, .int iKp, .int iYe, .int iTv], zzI cy qr 5 fX] ∧ ((r = (sp_left iA iB iC))))) := by
  refine enW RX5 (by decide +kernel) rfl (Nat.le_of_ble_eq_true rfl) (fun p e s m below meth c ls A hx hb hml hown hts hr hlocks hP hN hl hin hD hA hS => ?_)
  have hin : meth.name = _ := hin
  have hK := hN.1
  replace hl : lv_has ls 6 [(0, .ref qx), (1, .int iA), (2, .int iB), (3, .int iC)] := hl
  refine lv_iload_n hx hb (g_27 bX5_left rfl) rfl (lv_at hl 1 rfl) ?_
  refine lv_iload_n hx hb (g_28 bX5_left rfl) rfl (lv_at hl 2 rfl) ?_
  refine kRi (rS (As := [.int iA, .int iB]) (rest := []) ⟨hx, hb, hml, hown, hts⟩ (c_X5_canBeTold l G cy iA iB) L_X5_294 (preRS hN hP [] rfl) rfl ⟨Nat.le_of_ble_eq_true rfl, Nat.le_of_ble_eq_true rfl⟩ hl.1 (Nat.le_of_ble_eq_true rfl) (g_184 (v := 294) bX5_left rfl) ⟨Nat.le_of_ble_eq_true rfl, Nat.le_of_ble_eq_true rfl⟩) (fun r_1 h_2 => ?_)
  rcases h_2 with ⟨rfl, h_3⟩ | ⟨rfl, h_3⟩
  · refine lv_if_eq (tgt := 20) hx hb dX5_left_5 (by decide +kernel) (fun h9 => absurd h9 (by decide +kernel)) (fun _ => ?_)
    refine lv_iload_n hx hb (g_29 bX5_left rfl) rfl (lv_at hl 3 rfl) ?_
    refine lv_i2l (v := iC.toInt64) hx hb (g_133 bX5_left rfl) rfl ?_
    refine lv_lconst (v := 0) hx hb (g_9 bX5_left rfl) (by decide +kernel) ?_
    refine lv_ldc2 hx hb hown (hts _ m_t282) (g_20 (v := 95) bX5_left rfl) ?_
    refine kRi (rS (As := [.long iC.toInt64, .long 0, .long 99]) (rest := []) ⟨hx, hb, hml, hown, hts⟩ (c_X5_within l G cy iC.toInt64 0 99) L_X5_50 (preRS hN hP [] rfl) rfl ⟨Nat.le_of_ble_eq_true rfl, Nat.le_of_ble_eq_true rfl⟩ hl.1 (Nat.le_of_ble_eq_true rfl) (g_184 (v := 50) bX5_left rfl) ⟨Nat.le_of_ble_eq_true rfl, Nat.le_of_ble_eq_true rfl⟩) (fun r_5 h_6 => ?_)
    rcases h_6 with ⟨rfl, h_7⟩ | ⟨rfl, h_7⟩
    · obtain ⟨k_8, hk_9, hk_10, rfl⟩ := iv_nI 0 99 (by decide +kernel) (by decide +kernel) h_7
      refine lv_if_ne (tgt := 27) hx hb dX5_left_17 (by decide +kernel) (fun _ => ?_) (fun h9 => absurd h9 (by decide +kernel))
      refine lv_iload_n hx hb (g_27 bX5_left rfl) rfl (lv_at hl 1 rfl) ?_
      refine lv_istore (lv' := [(4, .int iA), (0, .ref qx), (1, .int iA), (2, .int iB), (3, .int (nI k_8))]) hx hb (g_54 (v := 4) bX5_left rfl) hl (by decide +kernel) rfl (fun ls => ?_)
      clear hl
      intro hl
      refine lv_iconst (v := 0) hx hb (g_3 bX5_left rfl) (by decide +kernel) ?_
      refine lv_istore (lv' := [(5, .int 0), (4, .int iA), (0, .ref qx), (1, .int iA), (2, .int iB), (3, .int (nI k_8))]) hx hb (g_54 (v := 5) bX5_left rfl) hl (by decide +kernel) rfl (fun ls => ?_)
      clear hl
      intro hl
      have lp_12 : ∀ (n_13 : Nat) (j_15 : Nat) (xR_16 : Int32), 99 - j_15 < n_13 → xR_16 = lft iB j_15 iA → j_15 ≤ k_8 → ∀ (H : Heap) (locs : List Loc) (ls : Array Slot), va_P G CL [zzO qx 4 [.ref qt, .ref qk, .ref qp, .ref qs, .ref qa, .ref qr, .int iKp, .int iYe, .int iTv], zzI cy qr 5 fR] H → va_D A [zzO qx 4 [.ref qt, .ref qk, .ref qp, .ref qs, .ref qa, .ref qr, .int iKp, .int iYe, .int iTv], zzI cy qr 5 fR] → va_S A s.heap H locs → lv_has ls 6 [(5, .int (nI j_15)), (4, .int xR_16), (0, .ref qx), (1, .int iA), (2, .int iB), (3, .int (nI k_8))] → W p l e (Rm 12 0 0) s m (List.toArray (α := Value) [.ref qx, .int iA, .int iB, .int (nI k_8)]) below meth c H locs 0 0 (MQ below ((Wi G (fun r u => ∃ (fX : Nat → Int32), u = [zzO qx 4 [.ref qt, .ref qk, .ref qp, .ref qs, .ref qa, .ref qr, .int iKp, .int iYe, .int iTv], zzI cy qr 5 fX] ∧ ((r = (sp_left iA iB (nI k_8)))))) A) (List.toArray (α := Value) [.ref qx, .int iA, .int iB, .int (nI k_8)]) s 0 0 A) (F0 m 33 ls []) := by
        intro n_13
        induction n_13 with
        | zero => intro j_15 xR_16 hm9; exact absurd hm9 (Nat.not_lt_zero _)
        | succ n_13 ih_14 =>
          intro j_15 xR_16 hm_19 hxR_17 hj_18 H locs ls hP hD hS hl
          refine lv_iload hx hb (g_21 (v := 5) bX5_left rfl) (lv_at hl 0 rfl) ?_
          refine lv_iload_n hx hb (g_29 bX5_left rfl) rfl (lv_at hl 5 rfl) ?_
          refine lv_icmp_ge (tgt := 53) hx hb dX5_left_36 (by decide +kernel) (fun c_20 => ?_) (fun c_20 => ?_)
          · have hlt_21 : k_8 ≤ j_15 := lp_ge rfl rfl (by omega) (by omega) c_20
            refine lv_iload hx hb (g_21 (v := 4) bX5_left rfl) (lv_at hl 1 rfl) ?_
            exact endW (u := [zzO qx 4 [.ref qt, .ref qk, .ref qp, .ref qs, .ref qa, .ref qr, .int iKp, .int iYe, .int iTv], zzI cy qr 5 fR]) hx hb hr hlocks rfl (hP.sub [0, 1] rfl) (hD.sub [0, 1] (by decide +kernel) rfl) hS ⟨fR, rfl, (by rw [hxR_17, show j_15 = k_8 by omega, sp_left, if_pos ⟨h_3.1, h_3.2, h_7⟩, nI_clamp (by omega)])⟩ (g_172 bX5_left rfl)
          · have hlt_22 : j_15 < k_8 := lp_lt rfl rfl (by omega) (by omega) c_20
            refine lv_iload hx hb (g_21 (v := 4) bX5_left rfl) (lv_at hl 1 rfl) ?_
            refine lv_iload_n hx hb (g_28 bX5_left rfl) rfl (lv_at hl 4 rfl) ?_
            refine kRi (rS (As := [.int xR_16, .int iB]) (rest := []) ⟨hx, hb, hml, hown, hts⟩ (c_X4_afterTelling l G cy xR_16 iB) L_X5_297 (preRS hN hP [] rfl) rfl ⟨Nat.le_of_ble_eq_true rfl, Nat.le_of_ble_eq_true rfl⟩ hl.1 (Nat.le_of_ble_eq_true rfl) (g_184 (v := 297) bX5_left rfl) ⟨Nat.le_of_ble_eq_true rfl, Nat.le_of_ble_eq_true rfl⟩) (fun r_23 h_24 => ?_)
            subst h_24
            refine lv_istore (lv' := [(4, .int (xR_16 * iB / 10)), (5, .int (nI j_15)), (0, .ref qx), (1, .int iA), (2, .int iB), (3, .int (nI k_8))]) hx hb (g_54 (v := 4) bX5_left rfl) hl (by decide +kernel) rfl (fun ls => ?_)
            clear hl
            intro hl
            refine lv_iinc (v := nI (j_15 + 1)) (lv' := [(5, .int (nI (j_15 + 1))), (4, .int (xR_16 * iB / 10)), (0, .ref qx), (1, .int iA), (2, .int iB), (3, .int (nI k_8))]) hx hb dX5_left_47 hl (k := 1) rfl (nI_1 _) (by decide +kernel) rfl (fun ls => ?_)
            clear hl
            intro hl
            refine lv_goto (tgt := 33) hx hb dX5_left_50 (by decide +kernel) ?_
            exact ih_14 (j_15 + 1) (xR_16 * iB / 10) (by omega) (by rw [hxR_17]; rfl) (by omega) _ _ _ hP hD hS (lv_sub hl [0, 1, 2, 3, 4, 5] rfl)
      exact lp_12 ((99 - 0) + 1) 0 iA (Nat.lt_succ_self _) rfl (Nat.zero_le _) _ _ ls hP hD hS (lv_sub hl [0, 1, 2, 3, 4, 5] rfl)
    · refine lv_if_ne (tgt := 27) hx hb dX5_left_17 (by decide +kernel) (fun h9 => absurd (by decide +kernel) h9) (fun _ => ?_)
      refine lv_aload_n hx hb (g_42 bX5_left rfl) rfl (lv_at hl 0 rfl) ?_
      refine lv_bipush (v := (-2)) hx hb dX5_left_21 (by decide +kernel) ?_
      refine cVi (As := [.int (-2)]) (rest := []) (b := qx) (q := (RX5, TX5, 9)) ⟨hx, hb, hml, hown, hts⟩ (c_X5_refuse2 l G cy (s.heap).size qx qt qk qp qs qa qr iKp iYe iTv fR) L_X5_56 hN hP hD hS hA [0, 1] [false, false] rfl (by decide +kernel) rfl 0 4 rfl rfl rfl ⟨Nat.le_of_ble_eq_true rfl, Nat.le_of_ble_eq_true rfl⟩ hl.1 (Nat.le_of_ble_eq_true rfl) (g_182 (v := 56) bX5_left rfl) ⟨Nat.le_of_ble_eq_true rfl, Nat.le_of_ble_eq_true rfl⟩ (fun r_26 u_28 H locs h_27 => ?_)
      clear hP hD hS
      intro hP hD hS
      obtain ⟨fX_29, hu9, h_27⟩ := h_27
      have hPD := pd_eq [_, zzI cy qr 5 fX_29] hP hD hu9 rfl
      clear hP hD hu9
      obtain ⟨hP, hD⟩ := hPD
      subst h_27
      exact endW (u := [zzO qx 4 [.ref qt, .ref qk, .ref qp, .ref qs, .ref qa, .ref qr, .int iKp, .int iYe, .int iTv], zzI cy qr 5 fX_29]) hx hb hr hlocks rfl (hP.sub [0, 1] rfl) (hD.sub [0, 1] (by decide +kernel) rfl) hS ⟨fX_29, rfl, (by rw [sp_left, if_neg (fun q => h_7 q.2.2)])⟩ (g_172 bX5_left rfl)
  · refine lv_if_eq (tgt := 20) hx hb dX5_left_5 (by decide +kernel) (fun _ => ?_) (fun h9 => absurd (by decide +kernel) h9)
    refine lv_aload_n hx hb (g_42 bX5_left rfl) rfl (lv_at hl 0 rfl) ?_
    refine lv_bipush (v := (-2)) hx hb dX5_left_21 (by decide +kernel) ?_
    refine cVi (As := [.int (-2)]) (rest := []) (b := qx) (q := (RX5, TX5, 9)) ⟨hx, hb, hml, hown, hts⟩ (c_X5_refuse2 l G cy (s.heap).size qx qt qk qp qs qa qr iKp iYe iTv fR) L_X5_56 hN hP hD hS hA [0, 1] [false, false] rfl (by decide +kernel) rfl 0 4 rfl rfl rfl ⟨Nat.le_of_ble_eq_true rfl, Nat.le_of_ble_eq_true rfl⟩ hl.1 (Nat.le_of_ble_eq_true rfl) (g_182 (v := 56) bX5_left rfl) ⟨Nat.le_of_ble_eq_true rfl, Nat.le_of_ble_eq_true rfl⟩ (fun r_31 u_33 H locs h_32 => ?_)
    clear hP hD hS
    intro hP hD hS
    obtain ⟨fX_34, hu9, h_32⟩ := h_32
    have hPD := pd_eq [_, zzI cy qr 5 fX_34] hP hD hu9 rfl
    clear hP hD hu9
    obtain ⟨hP, hD⟩ := hPD
    subst h_32
    exact endW (u := [zzO qx 4 [.ref qt, .ref qk, .ref qp, .ref qs, .ref qa, .ref qr, .int iKp, .int iYe, .int iTv], zzI cy qr 5 fX_34]) hx hb hr hlocks rfl (hP.sub [0, 1] rfl) (hD.sub [0, 1] (by decide +kernel) rfl) hS ⟨fX_34, rfl, (by rw [sp_left, if_neg (fun q => h_3 ⟨q.1, q.2.1⟩)])⟩ (g_172 bX5_left rfl)
set_option maxHeartbeats 4000000 in
set_option maxRecDepth 100000 in
theorem p_X5_longest (l : Launch) (G : va_G) (cy : Nat → ClassId) (sz : Nat) (qx : Nat) (qt : Nat) (qk : Nat) (qp : Nat) (qs : Nat) (qa : Nat) (qr : Nat) (iKp : Int32) (iYe : Int32) (iTv : Int32) (fR : Nat → Int32) (iA : Int32) (iB : Int32) (iC : Int32)   : MW l yX5_longest cX5_longest 6 (some .int) 12 0 0 G cy [zzO qx 4 [.ref qt, .ref qk, .ref qp, .ref qs, .ref qa, .ref qr, .int iKp, .int iYe, .int iTv], zzI cy qr 5 fR] sz [.ref qx, .int iA, .int iB, .int iC] (Wi G (fun r u => ∃ (fX : Nat → Int32), u = [zzO qx 4 [.ref qt, .ref qk, .ref qp, .ref qs, .ref qa, .ref qr, .int iKp, .int iYe, .int iTv], zzI cy qr 5 fX] ∧ ((r = (sp_longest iA iB iC))))) := by
  refine enW RX5 (by decide +kernel) rfl (Nat.le_of_ble_eq_true rfl) (fun p e s m below meth c ls A hx hb hml hown hts hr hlocks hP hN hl hin hD hA hS => ?_)
  have hin : meth.name = _ := hin
  have hK := hN.1
  replace hl : lv_has ls 6 [(0, .ref qx), (1, .int iA), (2, .int iB), (3, .int iC)] := hl
  refine lv_iload_n hx hb (g_27 bX5_longest rfl) rfl (lv_at hl 1 rfl) ?_
  refine lv_iload_n hx hb (g_28 bX5_longest rfl) rfl (lv_at hl 2 rfl) ?_
  refine kRi (rS (As := [.int iA, .int iB]) (rest := []) ⟨hx, hb, hml, hown, hts⟩ (c_X5_canBeTold l G cy iA iB) L_X5_294 (preRS hN hP [] rfl) rfl ⟨Nat.le_of_ble_eq_true rfl, Nat.le_of_ble_eq_true rfl⟩ hl.1 (Nat.le_of_ble_eq_true rfl) (g_184 (v := 294) bX5_longest rfl) ⟨Nat.le_of_ble_eq_true rfl, Nat.le_of_ble_eq_true rfl⟩) (fun r_1 h_2 => ?_)
  rcases h_2 with ⟨rfl, h_3⟩ | ⟨rfl, h_3⟩
  · refine lv_if_eq (tgt := 20) hx hb dX5_longest_5 (by decide +kernel) (fun h9 => absurd h9 (by decide +kernel)) (fun _ => ?_)
    refine lv_iload_n hx hb (g_29 bX5_longest rfl) rfl (lv_at hl 3 rfl) ?_
    refine lv_i2l (v := iC.toInt64) hx hb (g_133 bX5_longest rfl) rfl ?_
    refine lv_lconst (v := 1) hx hb (g_10 bX5_longest rfl) (by decide +kernel) ?_
    refine lv_ldc2 hx hb hown (hts _ m_t591) (g_20 (v := 216) bX5_longest rfl) ?_
    refine kRi (rS (As := [.long iC.toInt64, .long 1, .long 1000]) (rest := []) ⟨hx, hb, hml, hown, hts⟩ (c_X5_within l G cy iC.toInt64 1 1000) L_X5_50 (preRS hN hP [] rfl) rfl ⟨Nat.le_of_ble_eq_true rfl, Nat.le_of_ble_eq_true rfl⟩ hl.1 (Nat.le_of_ble_eq_true rfl) (g_184 (v := 50) bX5_longest rfl) ⟨Nat.le_of_ble_eq_true rfl, Nat.le_of_ble_eq_true rfl⟩) (fun r_5 h_6 => ?_)
    rcases h_6 with ⟨rfl, h_7⟩ | ⟨rfl, h_7⟩
    · refine lv_if_ne (tgt := 27) hx hb dX5_longest_17 (by decide +kernel) (fun _ => ?_) (fun h9 => absurd h9 (by decide +kernel))
      refine lv_iconst (v := (-1)) hx hb (g_2 bX5_longest rfl) (by decide +kernel) ?_
      refine lv_istore (lv' := [(4, .int (-1)), (0, .ref qx), (1, .int iA), (2, .int iB), (3, .int iC)]) hx hb (g_54 (v := 4) bX5_longest rfl) hl (by decide +kernel) rfl (fun ls => ?_)
      clear hl
      intro hl
      refine lv_iload_n hx hb (g_27 bX5_longest rfl) rfl (lv_at hl 2 rfl) ?_
      refine lv_istore (lv' := [(5, .int iA), (4, .int (-1)), (0, .ref qx), (1, .int iA), (2, .int iB), (3, .int iC)]) hx hb (g_54 (v := 5) bX5_longest rfl) hl (by decide +kernel) rfl (fun ls => ?_)
      clear hl
      intro hl
      have lp_9 : ∀ (n_10 : Nat) (j_12 : Nat) (xC_13 : Int32) (xR_14 : Int32), 100 - j_12 < n_10 → xC_13 = nI j_12 - 1 → lgst iB iC (100 - j_12) xC_13 xR_14 = lgst iB iC 100 (-1) iA → j_12 ≤ 100 → ∀ (H : Heap) (locs : List Loc) (ls : Array Slot), va_P G CL [zzO qx 4 [.ref qt, .ref qk, .ref qp, .ref qs, .ref qa, .ref qr, .int iKp, .int iYe, .int iTv], zzI cy qr 5 fR] H → va_D A [zzO qx 4 [.ref qt, .ref qk, .ref qp, .ref qs, .ref qa, .ref qr, .int iKp, .int iYe, .int iTv], zzI cy qr 5 fR] → va_S A s.heap H locs → lv_has ls 6 [(5, .int xR_14), (4, .int xC_13), (0, .ref qx), (1, .int iA), (2, .int iB), (3, .int iC)] → W p l e (Rm 12 0 0) s m (List.toArray (α := Value) [.ref qx, .int iA, .int iB, .int iC]) below meth c H locs 0 0 (MQ below ((Wi G (fun r u => ∃ (fX : Nat → Int32), u = [zzO qx 4 [.ref qt, .ref qk, .ref qp, .ref qs, .ref qa, .ref qr, .int iKp, .int iYe, .int iTv], zzI cy qr 5 fX] ∧ ((r = (sp_longest iA iB iC))))) A) (List.toArray (α := Value) [.ref qx, .int iA, .int iB, .int iC]) s 0 0 A) (F0 m 33 ls []) := by
        intro n_10
        induction n_10 with
        | zero => intro j_12 xC_13 xR_14 hm9; exact absurd hm9 (Nat.not_lt_zero _)
        | succ n_10 ih_11 =>
          intro j_12 xC_13 xR_14 hm_18 hxC_15 hT_16 hj_17 H locs ls hP hD hS hl
          refine lv_iload hx hb (g_21 (v := 5) bX5_longest rfl) (lv_at hl 0 rfl) ?_
          refine lv_iload_n hx hb (g_29 bX5_longest rfl) rfl (lv_at hl 5 rfl) ?_
          refine lv_icmp_lt (tgt := 60) hx hb dX5_longest_36 (by decide +kernel) (fun c_19 => ?_) (fun c_19 => ?_)
          · refine lv_iload hx hb (g_21 (v := 4) bX5_longest rfl) (lv_at hl 1 rfl) ?_
            exact endW (u := [zzO qx 4 [.ref qt, .ref qk, .ref qp, .ref qs, .ref qa, .ref qr, .int iKp, .int iYe, .int iTv], zzI cy qr 5 fR]) hx hb hr hlocks rfl (hP.sub [0, 1] rfl) (hD.sub [0, 1] (by decide +kernel) rfl) hS ⟨fR, rfl, (by rw [sp_longest, if_pos ⟨h_3.1, h_3.2, h_7⟩, ← hT_16, lg_stop0 c_19])⟩ (g_172 bX5_longest rfl)
          · refine lv_iload hx hb (g_21 (v := 4) bX5_longest rfl) (lv_at hl 1 rfl) ?_
            refine lv_bipush (v := 99) hx hb dX5_longest_41 (by decide +kernel) ?_
            refine lv_icmp_ge (tgt := 60) hx hb dX5_longest_43 (by decide +kernel) (fun c_20 => ?_) (fun c_20 => ?_)
            · refine lv_iload hx hb (g_21 (v := 4) bX5_longest rfl) (lv_at hl 1 rfl) ?_
              exact endW (u := [zzO qx 4 [.ref qt, .ref qk, .ref qp, .ref qs, .ref qa, .ref qr, .int iKp, .int iYe, .int iTv], zzI cy qr 5 fR]) hx hb hr hlocks rfl (hP.sub [0, 1] rfl) (hD.sub [0, 1] (by decide +kernel) rfl) hS ⟨fR, rfl, (by rw [sp_longest, if_pos ⟨h_3.1, h_3.2, h_7⟩, ← hT_16, m1_ge hxC_15 hj_17 c_20]; rfl)⟩ (g_172 bX5_longest rfl)
            · have hlt_21 : j_12 < 100 := m1_lt hxC_15 hj_17 c_20
              refine lv_iinc (v := xC_13 + 1) (lv' := [(4, .int (xC_13 + 1)), (5, .int xR_14), (0, .ref qx), (1, .int iA), (2, .int iB), (3, .int iC)]) hx hb dX5_longest_46 hl (k := 1) rfl (rfl) (by decide +kernel) rfl (fun ls => ?_)
              clear hl
              intro hl
              refine lv_iload hx hb (g_21 (v := 5) bX5_longest rfl) (lv_at hl 1 rfl) ?_
              refine lv_iload_n hx hb (g_28 bX5_longest rfl) rfl (lv_at hl 4 rfl) ?_
              refine kRi (rS (As := [.int xR_14, .int iB]) (rest := []) ⟨hx, hb, hml, hown, hts⟩ (c_X4_afterTelling l G cy xR_14 iB) L_X5_297 (preRS hN hP [] rfl) rfl ⟨Nat.le_of_ble_eq_true rfl, Nat.le_of_ble_eq_true rfl⟩ hl.1 (Nat.le_of_ble_eq_true rfl) (g_184 (v := 297) bX5_longest rfl) ⟨Nat.le_of_ble_eq_true rfl, Nat.le_of_ble_eq_true rfl⟩) (fun r_22 h_23 => ?_)
              subst h_23
              refine lv_istore (lv' := [(5, .int (xR_14 * iB / 10)), (4, .int (xC_13 + 1)), (0, .ref qx), (1, .int iA), (2, .int iB), (3, .int iC)]) hx hb (g_54 (v := 5) bX5_longest rfl) hl (by decide +kernel) rfl (fun ls => ?_)
              clear hl
              intro hl
              refine lv_goto (tgt := 33) hx hb dX5_longest_57 (by decide +kernel) ?_
              exact ih_11 (j_12 + 1) (xC_13 + 1) (xR_14 * iB / 10) (by omega) (by rw [hxC_15]; exact m1_nI _) (by rw [← hT_16, show 100 - j_12 = 100 - (j_12 + 1) + 1 by omega, lg_go c_19]) (by omega) _ _ _ hP hD hS (lv_sub hl [0, 1, 2, 3, 4, 5] rfl)
      exact lp_9 ((100 - 0) + 1) 0 (-1) iA (Nat.lt_succ_self _) (by decide +kernel) rfl (Nat.zero_le _) _ _ ls hP hD hS (lv_sub hl [0, 1, 2, 3, 4, 5] rfl)
    · refine lv_if_ne (tgt := 27) hx hb dX5_longest_17 (by decide +kernel) (fun h9 => absurd (by decide +kernel) h9) (fun _ => ?_)
      refine lv_aload_n hx hb (g_42 bX5_longest rfl) rfl (lv_at hl 0 rfl) ?_
      refine lv_bipush (v := (-2)) hx hb dX5_longest_21 (by decide +kernel) ?_
      refine cVi (As := [.int (-2)]) (rest := []) (b := qx) (q := (RX5, TX5, 9)) ⟨hx, hb, hml, hown, hts⟩ (c_X5_refuse2 l G cy (s.heap).size qx qt qk qp qs qa qr iKp iYe iTv fR) L_X5_56 hN hP hD hS hA [0, 1] [false, false] rfl (by decide +kernel) rfl 0 4 rfl rfl rfl ⟨Nat.le_of_ble_eq_true rfl, Nat.le_of_ble_eq_true rfl⟩ hl.1 (Nat.le_of_ble_eq_true rfl) (g_182 (v := 56) bX5_longest rfl) ⟨Nat.le_of_ble_eq_true rfl, Nat.le_of_ble_eq_true rfl⟩ (fun r_25 u_27 H locs h_26 => ?_)
      clear hP hD hS
      intro hP hD hS
      obtain ⟨fX_28, hu9, h_26⟩ := h_26
      have hPD := pd_eq [_, zzI cy qr 5 fX_28] hP hD hu9 rfl
      clear hP hD hu9
      obtain ⟨hP, hD⟩ := hPD
      subst h_26
      exact endW (u := [zzO qx 4 [.ref qt, .ref qk, .ref qp, .ref qs, .ref qa, .ref qr, .int iKp, .int iYe, .int iTv], zzI cy qr 5 fX_28]) hx hb hr hlocks rfl (hP.sub [0, 1] rfl) (hD.sub [0, 1] (by decide +kernel) rfl) hS ⟨fX_28, rfl, (by rw [sp_longest, if_neg (fun q => h_7 q.2.2)])⟩ (g_172 bX5_longest rfl)
  · refine lv_if_eq (tgt := 20) hx hb dX5_longest_5 (by decide +kernel) (fun _ => ?_) (fun h9 => absurd (by decide +kernel) h9)
    refine lv_aload_n hx hb (g_42 bX5_longest rfl) rfl (lv_at hl 0 rfl) ?_
    refine lv_bipush (v := (-2)) hx hb dX5_longest_21 (by decide +kernel) ?_
    refine cVi (As := [.int (-2)]) (rest := []) (b := qx) (q := (RX5, TX5, 9)) ⟨hx, hb, hml, hown, hts⟩ (c_X5_refuse2 l G cy (s.heap).size qx qt qk qp qs qa qr iKp iYe iTv fR) L_X5_56 hN hP hD hS hA [0, 1] [false, false] rfl (by decide +kernel) rfl 0 4 rfl rfl rfl ⟨Nat.le_of_ble_eq_true rfl, Nat.le_of_ble_eq_true rfl⟩ hl.1 (Nat.le_of_ble_eq_true rfl) (g_182 (v := 56) bX5_longest rfl) ⟨Nat.le_of_ble_eq_true rfl, Nat.le_of_ble_eq_true rfl⟩ (fun r_30 u_32 H locs h_31 => ?_)
    clear hP hD hS
    intro hP hD hS
    obtain ⟨fX_33, hu9, h_31⟩ := h_31
    have hPD := pd_eq [_, zzI cy qr 5 fX_33] hP hD hu9 rfl
    clear hP hD hu9
    obtain ⟨hP, hD⟩ := hPD
    subst h_31
    exact endW (u := [zzO qx 4 [.ref qt, .ref qk, .ref qp, .ref qs, .ref qa, .ref qr, .int iKp, .int iYe, .int iTv], zzI cy qr 5 fX_33]) hx hb hr hlocks rfl (hP.sub [0, 1] rfl) (hD.sub [0, 1] (by decide +kernel) rfl) hS ⟨fX_33, rfl, (by rw [sp_longest, if_neg (fun q => h_3 ⟨q.1, q.2.1⟩)])⟩ (g_172 bX5_longest rfl)
set_option maxHeartbeats 4000000 in
set_option maxRecDepth 100000 in
theorem p_X5_hangs (l : Launch) (G : va_G) (cy : Nat → ClassId) (sz : Nat) (qx : Nat) (qt : Nat) (qk : Nat) (qp : Nat) (qs : Nat) (qa : Nat) (qr : Nat) (iKp : Int32) (iYe : Int32) (iTv : Int32) (fR : Nat → Int32) (tA : TA) (qtw : Nat) (qtn : Nat) (qtg : Nat) (qta : Nat) (qtr : Nat) (qtm : Nat) (qtt : Nat) (qts : Nat)  (hB : T_nb tA ≤ 8) (hPp : T_np tA ≤ 8) : MW l yX5_hangs cX5_hangs 6 (some .int) 12 0 0 G cy [zzO qx 4 [.ref qt, .ref qk, .ref qp, .ref qs, .ref qa, .ref qr, .int iKp, .int iYe, .int iTv], zzI cy qr 5 fR, zzO qt 3 [.int (nI (T_nb tA)), .int (nI (T_np tA)), .int (wb (T_wh tA)), .int (wb (T_gn tA)), .int (T_sd tA), .ref qtw, .ref qtn, .ref qtg, .ref qta, .ref qtr, .ref qtm, .ref qtt, .ref qts], zzI cy qtw 8 (T_wo tA), zzI cy qtn 8 (T_ne tA), zzI cy qtg 8 (T_go tA), zzI cy qta 8 (T_ag tA), zzI cy qtr 8 (T_re tA), zzI cy qtm 8 (T_me tA), zzI cy qtt 8 (T_te tA), zzI cy qts 64 (shF (T_kn tA))] sz [.ref qx] (Wi G (fun r u => ∃ (fX : Nat → Int32), u = [zzO qx 4 [.ref qt, .ref qk, .ref qp, .ref qs, .ref qa, .ref qr, .int iKp, .int iYe, .int iTv], zzI cy qr 5 fX, zzO qt 3 [.int (nI (T_nb tA)), .int (nI (T_np tA)), .int (wb (T_wh tA)), .int (wb (T_gn tA)), .int (T_sd tA), .ref qtw, .ref qtn, .ref qtg, .ref qta, .ref qtr, .ref qtm, .ref qtt, .ref qts], zzI cy qtw 8 (T_wo tA), zzI cy qtn 8 (T_ne tA), zzI cy qtg 8 (T_go tA), zzI cy qta 8 (T_ag tA), zzI cy qtr 8 (T_re tA), zzI cy qtm 8 (T_me tA), zzI cy qtt 8 (T_te tA), zzI cy qts 64 (shF (T_kn tA))] ∧ (True))) := by
  refine enW RX5 (by decide +kernel) rfl (Nat.le_of_ble_eq_true rfl) (fun p e s m below meth c ls A hx hb hml hown hts hr hlocks hP hN hl hin hD hA hS => ?_)
  have hin : meth.name = _ := hin
  have hK := hN.1
  replace hl : lv_has ls 6 [(0, .ref qx)] := hl
  refine lv_aload_n hx hb (g_42 bX5_hangs rfl) rfl (lv_at hl 0 rfl) ?_
  refine va_get (D := G) (ci := 4) (v := .ref qt) (C := RX5) (T := TX5) (N := 9) hx hb hts iX_X5 hown hK hP 0 rfl rfl 0 (by decide +kernel) (hts _ m_t174) (fun _ h9 => h9) rfl (g_180 (v := 10) bX5_hangs rfl) ?_
  refine kRi (rV (As := []) (rest := []) (b := qt) ⟨hx, hb, hml, hown, hts⟩ (c_X4_setThere l G cy qt tA qtw qtn qtg qta qtr qtm qtt qts hPp) L_X5_269 (preRV (q := (RX4, TX4, 13)) hN hP [2] rfl 2 3 rfl rfl) rfl ⟨Nat.le_of_ble_eq_true rfl, Nat.le_of_ble_eq_true rfl⟩ hl.1 (Nat.le_of_ble_eq_true rfl) (g_182 (v := 269) bX5_hangs rfl) ⟨Nat.le_of_ble_eq_true rfl, Nat.le_of_ble_eq_true rfl⟩) (fun r_1 h_2 => ?_)
  subst h_2
  refine lv_istore_n (lv' := [(1, .int (zthere tA)), (0, .ref qx)]) hx hb (g_60 bX5_hangs rfl) rfl hl (by decide +kernel) rfl (fun ls => ?_)
  clear hl
  intro hl
  refine lv_iconst (v := (-1)) hx hb (g_2 bX5_hangs rfl) (by decide +kernel) ?_
  refine lv_istore_n (lv' := [(2, .int (-1)), (1, .int (zthere tA)), (0, .ref qx)]) hx hb (g_61 bX5_hangs rfl) rfl hl (by decide +kernel) rfl (fun ls => ?_)
  clear hl
  intro hl
  refine lv_iconst (v := 0) hx hb (g_3 bX5_hangs rfl) (by decide +kernel) ?_
  refine lv_istore_n (lv' := [(3, .int 0), (2, .int (-1)), (1, .int (zthere tA)), (0, .ref qx)]) hx hb (g_62 bX5_hangs rfl) rfl hl (by decide +kernel) rfl (fun ls => ?_)
  clear hl
  intro hl
  refine lv_iconst (v := 0) hx hb (g_3 bX5_hangs rfl) (by decide +kernel) ?_
  refine lv_istore (lv' := [(4, .int 0), (3, .int 0), (2, .int (-1)), (1, .int (zthere tA)), (0, .ref qx)]) hx hb (g_54 (v := 4) bX5_hangs rfl) hl (by decide +kernel) rfl (fun ls => ?_)
  clear hl
  intro hl
  have lp_3 : ∀ (n_4 : Nat) (j_6 : Nat) (x2_7 : Int32) (x3_8 : Int32), 8 - j_6 < n_4 → j_6 ≤ T_np tA → ∀ (H : Heap) (locs : List Loc) (ls : Array Slot), va_P G CL [zzO qx 4 [.ref qt, .ref qk, .ref qp, .ref qs, .ref qa, .ref qr, .int iKp, .int iYe, .int iTv], zzI cy qr 5 fR, zzO qt 3 [.int (nI (T_nb tA)), .int (nI (T_np tA)), .int (wb (T_wh tA)), .int (wb (T_gn tA)), .int (T_sd tA), .ref qtw, .ref qtn, .ref qtg, .ref qta, .ref qtr, .ref qtm, .ref qtt, .ref qts], zzI cy qtw 8 (T_wo tA), zzI cy qtn 8 (T_ne tA), zzI cy qtg 8 (T_go tA), zzI cy qta 8 (T_ag tA), zzI cy qtr 8 (T_re tA), zzI cy qtm 8 (T_me tA), zzI cy qtt 8 (T_te tA), zzI cy qts 64 (shF (T_kn tA))] H → va_D A [zzO qx 4 [.ref qt, .ref qk, .ref qp, .ref qs, .ref qa, .ref qr, .int iKp, .int iYe, .int iTv], zzI cy qr 5 fR, zzO qt 3 [.int (nI (T_nb tA)), .int (nI (T_np tA)), .int (wb (T_wh tA)), .int (wb (T_gn tA)), .int (T_sd tA), .ref qtw, .ref qtn, .ref qtg, .ref qta, .ref qtr, .ref qtm, .ref qtt, .ref qts], zzI cy qtw 8 (T_wo tA), zzI cy qtn 8 (T_ne tA), zzI cy qtg 8 (T_go tA), zzI cy qta 8 (T_ag tA), zzI cy qtr 8 (T_re tA), zzI cy qtm 8 (T_me tA), zzI cy qtt 8 (T_te tA), zzI cy qts 64 (shF (T_kn tA))] → va_S A s.heap H locs → lv_has ls 6 [(4, .int (nI j_6)), (3, .int x3_8), (2, .int x2_7), (1, .int (zthere tA)), (0, .ref qx)] → W p l e (Rm 12 0 0) s m (List.toArray (α := Value) [.ref qx]) below meth c H locs 0 0 (MQ below ((Wi G (fun r u => ∃ (fX : Nat → Int32), u = [zzO qx 4 [.ref qt, .ref qk, .ref qp, .ref qs, .ref qa, .ref qr, .int iKp, .int iYe, .int iTv], zzI cy qr 5 fX, zzO qt 3 [.int (nI (T_nb tA)), .int (nI (T_np tA)), .int (wb (T_wh tA)), .int (wb (T_gn tA)), .int (T_sd tA), .ref qtw, .ref qtn, .ref qtg, .ref qta, .ref qtr, .ref qtm, .ref qtt, .ref qts], zzI cy qtw 8 (T_wo tA), zzI cy qtn 8 (T_ne tA), zzI cy qtg 8 (T_go tA), zzI cy qta 8 (T_ag tA), zzI cy qtr 8 (T_re tA), zzI cy qtm 8 (T_me tA), zzI cy qtt 8 (T_te tA), zzI cy qts 64 (shF (T_kn tA))] ∧ (True))) A) (List.toArray (α := Value) [.ref qx]) s 0 0 A) (F0 m 15 ls []) := by
    intro n_4
    induction n_4 with
    | zero => intro j_6 x2_7 x3_8 hm9; exact absurd hm9 (Nat.not_lt_zero _)
    | succ n_4 ih_5 =>
      intro j_6 x2_7 x3_8 hm_10 hj_9 H locs ls hP hD hS hl
      refine lv_iload hx hb (g_21 (v := 4) bX5_hangs rfl) (lv_at hl 0 rfl) ?_
      refine lv_aload_n hx hb (g_42 bX5_hangs rfl) rfl (lv_at hl 4 rfl) ?_
      refine va_get (D := G) (ci := 4) (v := .ref qt) (C := RX5) (T := TX5) (N := 9) hx hb hts iX_X5 hown hK hP 0 rfl rfl 0 (by decide +kernel) (hts _ m_t174) (fun _ h9 => h9) rfl (g_180 (v := 10) bX5_hangs rfl) ?_
      refine va_getN (D := G) (ci := 3) (v := .int (nI (T_np tA))) (C := RX4) (T := TX4) (N := 13) hx hb hts iX_X4 hown hK hP 2 rfl rfl 1 (by decide +kernel) (va_Nw.use rfl (hN.2.1 (RX5, 141, "EachBookOnce$Town", "people", "I") (List.mem_of_getElem? (i := 7) rfl))) (fun _ h9 => h9) rfl (g_180 (v := 141) bX5_hangs rfl) ?_
      refine lv_icmp_ge (tgt := 76) hx hb dX5_hangs_24 (by decide +kernel) (fun c_11 => ?_) (fun c_11 => ?_)
      · have hlt_12 : j_6 = T_np tA := Nat.le_antisymm (by omega) (lp_ge rfl rfl (by omega) (by omega) c_11)
        refine lv_iload_n hx hb (g_28 bX5_hangs rfl) rfl (lv_at hl 2 rfl) ?_
        refine lv_iconst (v := (-1)) hx hb (g_2 bX5_hangs rfl) (by decide +kernel) ?_
        refine lv_icmp_ne (tgt := 90) hx hb dX5_hangs_78 (by decide +kernel) (fun c_13 => ?_) (fun c_13 => ?_)
        · refine lv_iload_n hx hb (g_28 bX5_hangs rfl) rfl (lv_at hl 2 rfl) ?_
          exact endWs [[true, true, true, true, true, true, true, true, true, true, true]] hx hb hr hlocks rfl hP hD rfl (by decide +kernel) hS ⟨fR, rfl, trivial⟩ (g_172 bX5_hangs rfl)
        · refine lv_aload_n hx hb (g_42 bX5_hangs rfl) rfl (lv_at hl 4 rfl) ?_
          refine lv_bipush (v := (-5)) hx hb dX5_hangs_82 (by decide +kernel) ?_
          refine cVi (As := [.int (-5)]) (rest := []) (b := qx) (q := (RX5, TX5, 9)) ⟨hx, hb, hml, hown, hts⟩ (c_X5_refuse5 l G cy (H).size qx qt qk qp qs qa qr iKp iYe iTv fR) L_X5_56 hN hP hD hS hA [0, 1] [false, false, true, true, true, true, true, true, true, true, true] rfl (by decide +kernel) rfl 0 4 rfl rfl rfl ⟨Nat.le_of_ble_eq_true rfl, Nat.le_of_ble_eq_true rfl⟩ hl.1 (Nat.le_of_ble_eq_true rfl) (g_182 (v := 56) bX5_hangs rfl) ⟨Nat.le_of_ble_eq_true rfl, Nat.le_of_ble_eq_true rfl⟩ (fun r_14 u_16 H locs h_15 => ?_)
          clear hP hD hS
          intro hP hD hS
          obtain ⟨fX_17, hu9, h_15⟩ := h_15
          have hPD := pd_eq [_, _, _, _, _, _, _, _, _, _, zzI cy qr 5 fX_17] hP hD hu9 rfl
          clear hP hD hu9
          obtain ⟨hP, hD⟩ := hPD
          subst h_15
          refine lv_goto (tgt := 91) hx hb dX5_hangs_87 (by decide +kernel) ?_
          exact endWs [[false, false, false, false, false, false, false, false, false, true, true], [true, true, true, true, true, true, true, true, true]] hx hb hr hlocks rfl hP hD rfl (by decide +kernel) hS ⟨fX_17, rfl, trivial⟩ (g_172 bX5_hangs rfl)
      · have hlt_18 : j_6 < T_np tA := lp_lt rfl rfl (by omega) (by omega) c_11
        refine lv_iload_n hx hb (g_27 bX5_hangs rfl) rfl (lv_at hl 3 rfl) ?_
        refine lv_iload hx hb (g_21 (v := 4) bX5_hangs rfl) (lv_at hl 0 rfl) ?_
        refine kRi (rS (As := [.int (zthere tA), .int (nI j_6)]) (rest := []) ⟨hx, hb, hml, hown, hts⟩ (c_X5_has l G cy (zthere tA) j_6) L_X5_183 (preRS hN hP [] rfl) rfl ⟨Nat.le_of_ble_eq_true rfl, Nat.le_of_ble_eq_true rfl⟩ hl.1 (Nat.le_of_ble_eq_true rfl) (g_184 (v := 183) bX5_hangs rfl) ⟨Nat.le_of_ble_eq_true rfl, Nat.le_of_ble_eq_true rfl⟩) (fun r_19 h_20 => ?_)
        rcases h_20 with ⟨rfl, h_21⟩ | ⟨rfl, h_21⟩
        · refine lv_if_eq (tgt := 70) hx hb dX5_hangs_33 (by decide +kernel) (fun h9 => absurd h9 (by decide +kernel)) (fun _ => ?_)
          refine lv_aload_n hx hb (g_42 bX5_hangs rfl) rfl (lv_at hl 4 rfl) ?_
          refine va_get (D := G) (ci := 4) (v := .ref qt) (C := RX5) (T := TX5) (N := 9) hx hb hts iX_X5 hown hK hP 0 rfl rfl 0 (by decide +kernel) (hts _ m_t174) (fun _ h9 => h9) rfl (g_180 (v := 10) bX5_hangs rfl) ?_
          refine lv_iload_n hx hb (g_27 bX5_hangs rfl) rfl (lv_at hl 3 rfl) ?_
          refine lv_iconst (v := 1) hx hb (g_4 bX5_hangs rfl) (by decide +kernel) ?_
          refine lv_iload hx hb (g_21 (v := 4) bX5_hangs rfl) (lv_at hl 0 rfl) ?_
          refine lv_ishl hx hb (g_120 bX5_hangs rfl) ?_
          refine lv_iconst (v := (-1)) hx hb (g_2 bX5_hangs rfl) (by decide +kernel) ?_
          refine lv_ixor hx hb (g_130 bX5_hangs rfl) ?_
          refine lv_iand hx hb (g_126 bX5_hangs rfl) ?_
          refine kRi (rV (As := [.int ((zthere tA) &&& ((1 <<< ((nI j_6) &&& 31)) ^^^ (-1)))]) (rest := []) (b := qt) ⟨hx, hb, hml, hown, hts⟩ (c_X4_worthAmong l G cy qt tA qtw qtn qtg qta qtr qtm qtt qts ((zthere tA) &&& ((1 <<< ((nI j_6) &&& 31)) ^^^ (-1))) hB hPp) L_X5_300 (preRV (q := (RX4, TX4, 13)) hN hP (trueIx 0 [false, false, true, true, false, false, false, false, false, false, true]) (sel_fm rfl rfl) 2 3 rfl rfl) rfl ⟨Nat.le_of_ble_eq_true rfl, Nat.le_of_ble_eq_true rfl⟩ hl.1 (Nat.le_of_ble_eq_true rfl) (g_182 (v := 300) bX5_hangs rfl) ⟨Nat.le_of_ble_eq_true rfl, Nat.le_of_ble_eq_true rfl⟩) (fun r_23 h_24 => ?_)
          subst h_24
          refine lv_istore (lv' := [(5, .int (waF tA ((zthere tA) &&& ((1 <<< ((nI j_6) &&& 31)) ^^^ (-1))))), (4, .int (nI j_6)), (3, .int x3_8), (2, .int x2_7), (1, .int (zthere tA)), (0, .ref qx)]) hx hb (g_54 (v := 5) bX5_hangs rfl) hl (by decide +kernel) rfl (fun ls => ?_)
          clear hl
          intro hl
          refine lv_iload_n hx hb (g_28 bX5_hangs rfl) rfl (lv_at hl 3 rfl) ?_
          refine lv_iconst (v := (-1)) hx hb (g_2 bX5_hangs rfl) (by decide +kernel) ?_
          refine lv_icmp_eq (tgt := 64) hx hb dX5_hangs_55 (by decide +kernel) (fun c_25 => ?_) (fun c_25 => ?_)
          · refine lv_iload hx hb (g_21 (v := 4) bX5_hangs rfl) (lv_at hl 1 rfl) ?_
            refine lv_istore_n (lv' := [(2, .int (nI j_6)), (5, .int (waF tA ((zthere tA) &&& ((1 <<< ((nI j_6) &&& 31)) ^^^ (-1))))), (4, .int (nI j_6)), (3, .int x3_8), (1, .int (zthere tA)), (0, .ref qx)]) hx hb (g_61 bX5_hangs rfl) rfl hl (by decide +kernel) rfl (fun ls => ?_)
            clear hl
            intro hl
            refine lv_iload hx hb (g_21 (v := 5) bX5_hangs rfl) (lv_at hl 1 rfl) ?_
            refine lv_istore_n (lv' := [(3, .int (waF tA ((zthere tA) &&& ((1 <<< ((nI j_6) &&& 31)) ^^^ (-1))))), (2, .int (nI j_6)), (5, .int (waF tA ((zthere tA) &&& ((1 <<< ((nI j_6) &&& 31)) ^^^ (-1))))), (4, .int (nI j_6)), (1, .int (zthere tA)), (0, .ref qx)]) hx hb (g_62 bX5_hangs rfl) rfl hl (by decide +kernel) rfl (fun ls => ?_)
            clear hl
            intro hl
            refine lv_iinc (v := nI (j_6 + 1)) (lv' := [(4, .int (nI (j_6 + 1))), (3, .int (waF tA ((zthere tA) &&& ((1 <<< ((nI j_6) &&& 31)) ^^^ (-1))))), (2, .int (nI j_6)), (5, .int (waF tA ((zthere tA) &&& ((1 <<< ((nI j_6) &&& 31)) ^^^ (-1))))), (1, .int (zthere tA)), (0, .ref qx)]) hx hb dX5_hangs_70 hl (k := 3) rfl (nI_1 _) (by decide +kernel) rfl (fun ls => ?_)
            clear hl
            intro hl
            refine lv_goto (tgt := 15) hx hb dX5_hangs_73 (by decide +kernel) ?_
            exact ih_5 (j_6 + 1) (nI j_6) (waF tA ((zthere tA) &&& ((1 <<< ((nI j_6) &&& 31)) ^^^ (-1)))) (by omega) (by omega) _ _ _ hP hD hS (lv_sub hl [0, 1, 2, 4, 5] rfl)
          · refine lv_iload hx hb (g_21 (v := 5) bX5_hangs rfl) (lv_at hl 0 rfl) ?_
            refine lv_iload_n hx hb (g_29 bX5_hangs rfl) rfl (lv_at hl 2 rfl) ?_
            refine lv_icmp_ge (tgt := 70) hx hb dX5_hangs_61 (by decide +kernel) (fun c_26 => ?_) (fun c_26 => ?_)
            · refine lv_iinc (v := nI (j_6 + 1)) (lv' := [(4, .int (nI (j_6 + 1))), (5, .int (waF tA ((zthere tA) &&& ((1 <<< ((nI j_6) &&& 31)) ^^^ (-1))))), (3, .int x3_8), (2, .int x2_7), (1, .int (zthere tA)), (0, .ref qx)]) hx hb dX5_hangs_70 hl (k := 1) rfl (nI_1 _) (by decide +kernel) rfl (fun ls => ?_)
              clear hl
              intro hl
              refine lv_goto (tgt := 15) hx hb dX5_hangs_73 (by decide +kernel) ?_
              exact ih_5 (j_6 + 1) x2_7 x3_8 (by omega) (by omega) _ _ _ hP hD hS (lv_sub hl [0, 2, 3, 4, 5] rfl)
            · refine lv_iload hx hb (g_21 (v := 4) bX5_hangs rfl) (lv_at hl 1 rfl) ?_
              refine lv_istore_n (lv' := [(2, .int (nI j_6)), (5, .int (waF tA ((zthere tA) &&& ((1 <<< ((nI j_6) &&& 31)) ^^^ (-1))))), (4, .int (nI j_6)), (3, .int x3_8), (1, .int (zthere tA)), (0, .ref qx)]) hx hb (g_61 bX5_hangs rfl) rfl hl (by decide +kernel) rfl (fun ls => ?_)
              clear hl
              intro hl
              refine lv_iload hx hb (g_21 (v := 5) bX5_hangs rfl) (lv_at hl 1 rfl) ?_
              refine lv_istore_n (lv' := [(3, .int (waF tA ((zthere tA) &&& ((1 <<< ((nI j_6) &&& 31)) ^^^ (-1))))), (2, .int (nI j_6)), (5, .int (waF tA ((zthere tA) &&& ((1 <<< ((nI j_6) &&& 31)) ^^^ (-1))))), (4, .int (nI j_6)), (1, .int (zthere tA)), (0, .ref qx)]) hx hb (g_62 bX5_hangs rfl) rfl hl (by decide +kernel) rfl (fun ls => ?_)
              clear hl
              intro hl
              refine lv_iinc (v := nI (j_6 + 1)) (lv' := [(4, .int (nI (j_6 + 1))), (3, .int (waF tA ((zthere tA) &&& ((1 <<< ((nI j_6) &&& 31)) ^^^ (-1))))), (2, .int (nI j_6)), (5, .int (waF tA ((zthere tA) &&& ((1 <<< ((nI j_6) &&& 31)) ^^^ (-1))))), (1, .int (zthere tA)), (0, .ref qx)]) hx hb dX5_hangs_70 hl (k := 3) rfl (nI_1 _) (by decide +kernel) rfl (fun ls => ?_)
              clear hl
              intro hl
              refine lv_goto (tgt := 15) hx hb dX5_hangs_73 (by decide +kernel) ?_
              exact ih_5 (j_6 + 1) (nI j_6) (waF tA ((zthere tA) &&& ((1 <<< ((nI j_6) &&& 31)) ^^^ (-1)))) (by omega) (by omega) _ _ _ hP hD hS (lv_sub hl [0, 1, 2, 4, 5] rfl)
        · refine lv_if_eq (tgt := 70) hx hb dX5_hangs_33 (by decide +kernel) (fun _ => ?_) (fun h9 => absurd (by decide +kernel) h9)
          refine lv_iinc (v := nI (j_6 + 1)) (lv' := [(4, .int (nI (j_6 + 1))), (3, .int x3_8), (2, .int x2_7), (1, .int (zthere tA)), (0, .ref qx)]) hx hb dX5_hangs_70 hl (k := 0) rfl (nI_1 _) (by decide +kernel) rfl (fun ls => ?_)
          clear hl
          intro hl
          refine lv_goto (tgt := 15) hx hb dX5_hangs_73 (by decide +kernel) ?_
          exact ih_5 (j_6 + 1) x2_7 x3_8 (by omega) (by omega) _ _ _ hP hD hS (lv_sub hl [0, 1, 2, 3, 4] rfl)
  exact lp_3 ((8 - 0) + 1) 0 (-1) 0 (Nat.lt_succ_self _) (Nat.zero_le _) _ _ ls hP hD hS (lv_sub hl [0, 1, 2, 3, 4] rfl)
set_option maxHeartbeats 4000000 in
set_option maxRecDepth 100000 in
theorem p_X5_lost (l : Launch) (G : va_G) (cy : Nat → ClassId) (sz : Nat) (qx : Nat) (qt : Nat) (qk : Nat) (qp : Nat) (qs : Nat) (qa : Nat) (qr : Nat) (iKp : Int32) (iYe : Int32) (iTv : Int32) (fR : Nat → Int32) (tA : TA) (qtw : Nat) (qtn : Nat) (qtg : Nat) (qta : Nat) (qtr : Nat) (qtm : Nat) (qtt : Nat) (qts : Nat) (iA : Int32)  (hB : T_nb tA ≤ 8) (hPp : T_np tA ≤ 8) : MW l yX5_lost cX5_lost 2 (some .int) 12 0 0 G cy [zzO qx 4 [.ref qt, .ref qk, .ref qp, .ref qs, .ref qa, .ref qr, .int iKp, .int iYe, .int iTv], zzI cy qr 5 fR, zzO qt 3 [.int (nI (T_nb tA)), .int (nI (T_np tA)), .int (wb (T_wh tA)), .int (wb (T_gn tA)), .int (T_sd tA), .ref qtw, .ref qtn, .ref qtg, .ref qta, .ref qtr, .ref qtm, .ref qtt, .ref qts], zzI cy qtw 8 (T_wo tA), zzI cy qtn 8 (T_ne tA), zzI cy qtg 8 (T_go tA), zzI cy qta 8 (T_ag tA), zzI cy qtr 8 (T_re tA), zzI cy qtm 8 (T_me tA), zzI cy qtt 8 (T_te tA), zzI cy qts 64 (shF (T_kn tA))] sz [.ref qx, .int iA] (Wi G (fun r u => ∃ (fX : Nat → Int32), u = [zzO qx 4 [.ref qt, .ref qk, .ref qp, .ref qs, .ref qa, .ref qr, .int iKp, .int iYe, .int iTv], zzI cy qr 5 fX, zzO qt 3 [.int (nI (T_nb tA)), .int (nI (T_np tA)), .int (wb (T_wh tA)), .int (wb (T_gn tA)), .int (T_sd tA), .ref qtw, .ref qtn, .ref qtg, .ref qta, .ref qtr, .ref qtm, .ref qtt, .ref qts], zzI cy qtw 8 (T_wo tA), zzI cy qtn 8 (T_ne tA), zzI cy qtg 8 (T_go tA), zzI cy qta 8 (T_ag tA), zzI cy qtr 8 (T_re tA), zzI cy qtm 8 (T_me tA), zzI cy qtt 8 (T_te tA), zzI cy qts 64 (shF (T_kn tA))] ∧ (True))) := by
  refine enW RX5 (by decide +kernel) rfl (Nat.le_of_ble_eq_true rfl) (fun p e s m below meth c ls A hx hb hml hown hts hr hlocks hP hN hl hin hD hA hS => ?_)
  have hin : meth.name = _ := hin
  have hK := hN.1
  replace hl : lv_has ls 2 [(0, .ref qx), (1, .int iA)] := hl
  refine lv_iload_n hx hb (g_27 bX5_lost rfl) rfl (lv_at hl 1 rfl) ?_
  refine lv_i2l (v := iA.toInt64) hx hb (g_133 bX5_lost rfl) rfl ?_
  refine lv_lconst (v := 1) hx hb (g_10 bX5_lost rfl) (by decide +kernel) ?_
  refine lv_ldc2 hx hb hown (hts _ m_t591) (g_20 (v := 216) bX5_lost rfl) ?_
  refine kRi (rS (As := [.long iA.toInt64, .long 1, .long 1000]) (rest := []) ⟨hx, hb, hml, hown, hts⟩ (c_X5_within l G cy iA.toInt64 1 1000) L_X5_50 (preRS hN hP [] rfl) rfl ⟨Nat.le_of_ble_eq_true rfl, Nat.le_of_ble_eq_true rfl⟩ hl.1 (Nat.le_of_ble_eq_true rfl) (g_184 (v := 50) bX5_lost rfl) ⟨Nat.le_of_ble_eq_true rfl, Nat.le_of_ble_eq_true rfl⟩) (fun r_1 h_2 => ?_)
  rcases h_2 with ⟨rfl, h_3⟩ | ⟨rfl, h_3⟩
  · obtain ⟨k_4, hk_5, hk_6, rfl⟩ := iv_nI 1 1000 (by decide +kernel) (by decide +kernel) h_3
    refine lv_if_eq (tgt := 43) hx hb dX5_lost_9 (by decide +kernel) (fun h9 => absurd h9 (by decide +kernel)) (fun _ => ?_)
    refine lv_aload_n hx hb (g_42 bX5_lost rfl) rfl (lv_at hl 0 rfl) ?_
    refine va_get (D := G) (ci := 4) (v := .ref qt) (C := RX5) (T := TX5) (N := 9) hx hb hts iX_X5 hown hK hP 0 rfl rfl 0 (by decide +kernel) (hts _ m_t174) (fun _ h9 => h9) rfl (g_180 (v := 10) bX5_lost rfl) ?_
    refine va_getN (D := G) (ci := 3) (v := .int (nI (T_nb tA))) (C := RX4) (T := TX4) (N := 13) hx hb hts iX_X4 hown hK hP 2 rfl rfl 0 (by decide +kernel) (va_Nw.use rfl (hN.2.1 (RX5, 127, "EachBookOnce$Town", "books", "I") (List.mem_of_getElem? (i := 3) rfl))) (fun _ h9 => h9) rfl (g_180 (v := 127) bX5_lost rfl) ?_
    refine kRi (rS (As := [.int (nI (T_nb tA))]) (rest := []) ⟨hx, hb, hml, hown, hts⟩ (c_X5_setOfAll l G cy (nI (T_nb tA))) L_X5_186 (preRS hN hP [] rfl) rfl ⟨Nat.le_of_ble_eq_true rfl, Nat.le_of_ble_eq_true rfl⟩ hl.1 (Nat.le_of_ble_eq_true rfl) (g_184 (v := 186) bX5_lost rfl) ⟨Nat.le_of_ble_eq_true rfl, Nat.le_of_ble_eq_true rfl⟩) (fun r_8 h_9 => ?_)
    subst h_9
    refine lv_aload_n hx hb (g_42 bX5_lost rfl) rfl (lv_at hl 0 rfl) ?_
    refine va_get (D := G) (ci := 4) (v := .ref qt) (C := RX5) (T := TX5) (N := 9) hx hb hts iX_X5 hown hK hP 0 rfl rfl 0 (by decide +kernel) (hts _ m_t174) (fun _ h9 => h9) rfl (g_180 (v := 10) bX5_lost rfl) ?_
    refine lv_aload_n hx hb (g_42 bX5_lost rfl) rfl (lv_at hl 0 rfl) ?_
    refine va_get (D := G) (ci := 4) (v := .ref qt) (C := RX5) (T := TX5) (N := 9) hx hb hts iX_X5 hown hK hP 0 rfl rfl 0 (by decide +kernel) (hts _ m_t174) (fun _ h9 => h9) rfl (g_180 (v := 10) bX5_lost rfl) ?_
    refine kRi (rV (As := []) (rest := [.ref qt, .int ((1 <<< ((nI (T_nb tA)) &&& 31)) - 1)]) (b := qt) ⟨hx, hb, hml, hown, hts⟩ (c_X4_setThere l G cy qt tA qtw qtn qtg qta qtr qtm qtt qts hPp) L_X5_269 (preRV (q := (RX4, TX4, 13)) hN hP [2] rfl 2 3 rfl rfl) rfl ⟨Nat.le_of_ble_eq_true rfl, Nat.le_of_ble_eq_true rfl⟩ hl.1 (Nat.le_of_ble_eq_true rfl) (g_182 (v := 269) bX5_lost rfl) ⟨Nat.le_of_ble_eq_true rfl, Nat.le_of_ble_eq_true rfl⟩) (fun r_10 h_11 => ?_)
    subst h_11
    refine lv_iload_n hx hb (g_27 bX5_lost rfl) rfl (lv_at hl 1 rfl) ?_
    refine kRi (rV (As := [.int (zthere tA), .int (nI k_4)]) (rest := [.int ((1 <<< ((nI (T_nb tA)) &&& 31)) - 1)]) (b := qt) ⟨hx, hb, hml, hown, hts⟩ (c_X4_booksKnown l G cy qt tA qtw qtn qtg qta qtr qtm qtt qts (zthere tA) (nI k_4) hB hPp) L_X5_303 (preRV (q := (RX4, TX4, 13)) hN hP [2, 10] rfl 2 3 rfl rfl) rfl ⟨Nat.le_of_ble_eq_true rfl, Nat.le_of_ble_eq_true rfl⟩ hl.1 (Nat.le_of_ble_eq_true rfl) (g_182 (v := 303) bX5_lost rfl) ⟨Nat.le_of_ble_eq_true rfl, Nat.le_of_ble_eq_true rfl⟩) (fun r_12 h_13 => ?_)
    subst h_13
    refine lv_iconst (v := (-1)) hx hb (g_2 bX5_lost rfl) (by decide +kernel) ?_
    refine lv_ixor hx hb (g_130 bX5_lost rfl) ?_
    refine lv_iand hx hb (g_126 bX5_lost rfl) ?_
    refine lv_goto (tgt := 49) hx hb dX5_lost_40 (by decide +kernel) ?_
    exact endWs [[true, true, true, true, true, true, true, true, true, true, true]] hx hb hr hlocks rfl hP hD rfl (by decide +kernel) hS ⟨fR, rfl, trivial⟩ (g_172 bX5_lost rfl)
  · refine lv_if_eq (tgt := 43) hx hb dX5_lost_9 (by decide +kernel) (fun _ => ?_) (fun h9 => absurd (by decide +kernel) h9)
    refine lv_aload_n hx hb (g_42 bX5_lost rfl) rfl (lv_at hl 0 rfl) ?_
    refine lv_bipush (v := (-2)) hx hb dX5_lost_44 (by decide +kernel) ?_
    refine cVi (As := [.int (-2)]) (rest := []) (b := qx) (q := (RX5, TX5, 9)) ⟨hx, hb, hml, hown, hts⟩ (c_X5_refuse2 l G cy (s.heap).size qx qt qk qp qs qa qr iKp iYe iTv fR) L_X5_56 hN hP hD hS hA [0, 1] [false, false, true, true, true, true, true, true, true, true, true] rfl (by decide +kernel) rfl 0 4 rfl rfl rfl ⟨Nat.le_of_ble_eq_true rfl, Nat.le_of_ble_eq_true rfl⟩ hl.1 (Nat.le_of_ble_eq_true rfl) (g_182 (v := 56) bX5_lost rfl) ⟨Nat.le_of_ble_eq_true rfl, Nat.le_of_ble_eq_true rfl⟩ (fun r_15 u_17 H locs h_16 => ?_)
    clear hP hD hS
    intro hP hD hS
    obtain ⟨fX_18, hu9, h_16⟩ := h_16
    have hPD := pd_eq [_, _, _, _, _, _, _, _, _, _, zzI cy qr 5 fX_18] hP hD hu9 rfl
    clear hP hD hu9
    obtain ⟨hP, hD⟩ := hPD
    subst h_16
    exact endWs [[false, false, false, false, false, false, false, false, false, true, true], [true, true, true, true, true, true, true, true, true]] hx hb hr hlocks rfl hP hD rfl (by decide +kernel) hS ⟨fX_18, rfl, trivial⟩ (g_172 bX5_lost rfl)
set_option maxHeartbeats 4000000 in
set_option maxRecDepth 100000 in
theorem p_X5_bear (l : Launch) (G : va_G) (cy : Nat → ClassId) (sz : Nat) (qx : Nat) (qt : Nat) (qk : Nat) (qp : Nat) (qs : Nat) (qa : Nat) (qr : Nat) (iKp : Int32) (iYe : Int32) (iTv : Int32) (fR : Nat → Int32) (tA : TA) (qtw : Nat) (qtn : Nat) (qtg : Nat) (qta : Nat) (qtr : Nat) (qtm : Nat) (qtt : Nat) (qts : Nat) (iA : Int32)  (hB : T_nb tA ≤ 8) (hPp : T_np tA ≤ 8) : MW l yX5_bear cX5_bear 7 (some .int) 12 0 0 G cy [zzO qx 4 [.ref qt, .ref qk, .ref qp, .ref qs, .ref qa, .ref qr, .int iKp, .int iYe, .int iTv], zzI cy qr 5 fR, zzO qt 3 [.int (nI (T_nb tA)), .int (nI (T_np tA)), .int (wb (T_wh tA)), .int (wb (T_gn tA)), .int (T_sd tA), .ref qtw, .ref qtn, .ref qtg, .ref qta, .ref qtr, .ref qtm, .ref qtt, .ref qts], zzI cy qtw 8 (T_wo tA), zzI cy qtn 8 (T_ne tA), zzI cy qtg 8 (T_go tA), zzI cy qta 8 (T_ag tA), zzI cy qtr 8 (T_re tA), zzI cy qtm 8 (T_me tA), zzI cy qtt 8 (T_te tA), zzI cy qts 64 (shF (T_kn tA))] sz [.ref qx, .int iA] (Wi G (fun r u => ∃ (fX : Nat → Int32), u = [zzO qx 4 [.ref qt, .ref qk, .ref qp, .ref qs, .ref qa, .ref qr, .int iKp, .int iYe, .int iTv], zzI cy qr 5 fX, zzO qt 3 [.int (nI (T_nb tA)), .int (nI (T_np tA)), .int (wb (T_wh tA)), .int (wb (T_gn tA)), .int (T_sd tA), .ref qtw, .ref qtn, .ref qtg, .ref qta, .ref qtr, .ref qtm, .ref qtt, .ref qts], zzI cy qtw 8 (T_wo tA), zzI cy qtn 8 (T_ne tA), zzI cy qtg 8 (T_go tA), zzI cy qta 8 (T_ag tA), zzI cy qtr 8 (T_re tA), zzI cy qtm 8 (T_me tA), zzI cy qtt 8 (T_te tA), zzI cy qts 64 (shF (T_kn tA))] ∧ (True))) := by
  refine enW RX5 (by decide +kernel) rfl (Nat.le_of_ble_eq_true rfl) (fun p e s m below meth c ls A hx hb hml hown hts hr hlocks hP hN hl hin hD hA hS => ?_)
  have hin : meth.name = _ := hin
  have hK := hN.1
  replace hl : lv_has ls 7 [(0, .ref qx), (1, .int iA)] := hl
  refine lv_iload_n hx hb (g_27 bX5_bear rfl) rfl (lv_at hl 1 rfl) ?_
  refine lv_i2l (v := iA.toInt64) hx hb (g_133 bX5_bear rfl) rfl ?_
  refine lv_lconst (v := 1) hx hb (g_10 bX5_bear rfl) (by decide +kernel) ?_
  refine lv_ldc2 hx hb hown (hts _ m_t591) (g_20 (v := 216) bX5_bear rfl) ?_
  refine kRi (rS (As := [.long iA.toInt64, .long 1, .long 1000]) (rest := []) ⟨hx, hb, hml, hown, hts⟩ (c_X5_within l G cy iA.toInt64 1 1000) L_X5_50 (preRS hN hP [] rfl) rfl ⟨Nat.le_of_ble_eq_true rfl, Nat.le_of_ble_eq_true rfl⟩ hl.1 (Nat.le_of_ble_eq_true rfl) (g_184 (v := 50) bX5_bear rfl) ⟨Nat.le_of_ble_eq_true rfl, Nat.le_of_ble_eq_true rfl⟩) (fun r_1 h_2 => ?_)
  rcases h_2 with ⟨rfl, h_3⟩ | ⟨rfl, h_3⟩
  · obtain ⟨k_4, hk_5, hk_6, rfl⟩ := iv_nI 1 1000 (by decide +kernel) (by decide +kernel) h_3
    refine lv_if_ne (tgt := 19) hx hb dX5_bear_9 (by decide +kernel) (fun _ => ?_) (fun h9 => absurd h9 (by decide +kernel))
    refine lv_aload_n hx hb (g_42 bX5_bear rfl) rfl (lv_at hl 0 rfl) ?_
    refine va_get (D := G) (ci := 4) (v := .ref qt) (C := RX5) (T := TX5) (N := 9) hx hb hts iX_X5 hown hK hP 0 rfl rfl 0 (by decide +kernel) (hts _ m_t174) (fun _ h9 => h9) rfl (g_180 (v := 10) bX5_bear rfl) ?_
    refine kRi (rV (As := []) (rest := []) (b := qt) ⟨hx, hb, hml, hown, hts⟩ (c_X4_setThere l G cy qt tA qtw qtn qtg qta qtr qtm qtt qts hPp) L_X5_269 (preRV (q := (RX4, TX4, 13)) hN hP [2] rfl 2 3 rfl rfl) rfl ⟨Nat.le_of_ble_eq_true rfl, Nat.le_of_ble_eq_true rfl⟩ hl.1 (Nat.le_of_ble_eq_true rfl) (g_182 (v := 269) bX5_bear rfl) ⟨Nat.le_of_ble_eq_true rfl, Nat.le_of_ble_eq_true rfl⟩) (fun r_8 h_9 => ?_)
    subst h_9
    refine lv_istore_n (lv' := [(2, .int (zthere tA)), (0, .ref qx), (1, .int (nI k_4))]) hx hb (g_61 bX5_bear rfl) rfl hl (by decide +kernel) rfl (fun ls => ?_)
    clear hl
    intro hl
    obtain ⟨n_10, hn_11, en_12⟩ := wb_lt (fun p => decide (p < T_np tA) && !T_gn tA p)
    have en_12 : zthere tA = nI n_10 := en_12
    rw [en_12] at hl
    refine lv_aload_n hx hb (g_42 bX5_bear rfl) rfl (lv_at hl 1 rfl) ?_
    refine va_get (D := G) (ci := 4) (v := .ref qt) (C := RX5) (T := TX5) (N := 9) hx hb hts iX_X5 hown hK hP 0 rfl rfl 0 (by decide +kernel) (hts _ m_t174) (fun _ h9 => h9) rfl (g_180 (v := 10) bX5_bear rfl) ?_
    refine lv_iload_n hx hb (g_28 bX5_bear rfl) rfl (lv_at hl 0 rfl) ?_
    refine lv_iload_n hx hb (g_27 bX5_bear rfl) rfl (lv_at hl 2 rfl) ?_
    refine kRi (rV (As := [.int (nI n_10), .int (nI k_4)]) (rest := []) (b := qt) ⟨hx, hb, hml, hown, hts⟩ (c_X4_booksKnown l G cy qt tA qtw qtn qtg qta qtr qtm qtt qts (nI n_10) (nI k_4) hB hPp) L_X5_303 (preRV (q := (RX4, TX4, 13)) hN hP [2, 10] rfl 2 3 rfl rfl) rfl ⟨Nat.le_of_ble_eq_true rfl, Nat.le_of_ble_eq_true rfl⟩ hl.1 (Nat.le_of_ble_eq_true rfl) (g_182 (v := 303) bX5_bear rfl) ⟨Nat.le_of_ble_eq_true rfl, Nat.le_of_ble_eq_true rfl⟩) (fun r_13 h_14 => ?_)
    subst h_14
    refine lv_istore_n (lv' := [(3, .int (bkn tA (nI n_10) (nI k_4))), (2, .int (nI n_10)), (0, .ref qx), (1, .int (nI k_4))]) hx hb (g_62 bX5_bear rfl) rfl hl (by decide +kernel) rfl (fun ls => ?_)
    clear hl
    intro hl
    refine lv_iload_n hx hb (g_28 bX5_bear rfl) rfl (lv_at hl 1 rfl) ?_
    refine lv_istore (lv' := [(4, .int (nI n_10)), (3, .int (bkn tA (nI n_10) (nI k_4))), (2, .int (nI n_10)), (0, .ref qx), (1, .int (nI k_4))]) hx hb (g_54 (v := 4) bX5_bear rfl) hl (by decide +kernel) rfl (fun ls => ?_)
    clear hl
    intro hl
    refine lv_iconst (v := 0) hx hb (g_3 bX5_bear rfl) (by decide +kernel) ?_
    refine lv_istore (lv' := [(5, .int 0), (4, .int (nI n_10)), (3, .int (bkn tA (nI n_10) (nI k_4))), (2, .int (nI n_10)), (0, .ref qx), (1, .int (nI k_4))]) hx hb (g_54 (v := 5) bX5_bear rfl) hl (by decide +kernel) rfl (fun ls => ?_)
    clear hl
    intro hl
    have lp_15 : ∀ (n_16 : Nat) (j_18 : Nat) (x4_19 : Int32), 256 - j_18 < n_16 → j_18 ≤ n_10 → ∀ (H : Heap) (locs : List Loc) (ls : Array Slot), va_P G CL [zzO qx 4 [.ref qt, .ref qk, .ref qp, .ref qs, .ref qa, .ref qr, .int iKp, .int iYe, .int iTv], zzI cy qr 5 fR, zzO qt 3 [.int (nI (T_nb tA)), .int (nI (T_np tA)), .int (wb (T_wh tA)), .int (wb (T_gn tA)), .int (T_sd tA), .ref qtw, .ref qtn, .ref qtg, .ref qta, .ref qtr, .ref qtm, .ref qtt, .ref qts], zzI cy qtw 8 (T_wo tA), zzI cy qtn 8 (T_ne tA), zzI cy qtg 8 (T_go tA), zzI cy qta 8 (T_ag tA), zzI cy qtr 8 (T_re tA), zzI cy qtm 8 (T_me tA), zzI cy qtt 8 (T_te tA), zzI cy qts 64 (shF (T_kn tA))] H → va_D A [zzO qx 4 [.ref qt, .ref qk, .ref qp, .ref qs, .ref qa, .ref qr, .int iKp, .int iYe, .int iTv], zzI cy qr 5 fR, zzO qt 3 [.int (nI (T_nb tA)), .int (nI (T_np tA)), .int (wb (T_wh tA)), .int (wb (T_gn tA)), .int (T_sd tA), .ref qtw, .ref qtn, .ref qtg, .ref qta, .ref qtr, .ref qtm, .ref qtt, .ref qts], zzI cy qtw 8 (T_wo tA), zzI cy qtn 8 (T_ne tA), zzI cy qtg 8 (T_go tA), zzI cy qta 8 (T_ag tA), zzI cy qtr 8 (T_re tA), zzI cy qtm 8 (T_me tA), zzI cy qtt 8 (T_te tA), zzI cy qts 64 (shF (T_kn tA))] → va_S A s.heap H locs → lv_has ls 7 [(5, .int (nI j_18)), (4, .int x4_19), (3, .int (bkn tA (nI n_10) (nI k_4))), (2, .int (nI n_10)), (0, .ref qx), (1, .int (nI k_4))] → W p l e (Rm 12 0 0) s m (List.toArray (α := Value) [.ref qx, .int (nI k_4)]) below meth c H locs 0 0 (MQ below ((Wi G (fun r u => ∃ (fX : Nat → Int32), u = [zzO qx 4 [.ref qt, .ref qk, .ref qp, .ref qs, .ref qa, .ref qr, .int iKp, .int iYe, .int iTv], zzI cy qr 5 fX, zzO qt 3 [.int (nI (T_nb tA)), .int (nI (T_np tA)), .int (wb (T_wh tA)), .int (wb (T_gn tA)), .int (T_sd tA), .ref qtw, .ref qtn, .ref qtg, .ref qta, .ref qtr, .ref qtm, .ref qtt, .ref qts], zzI cy qtw 8 (T_wo tA), zzI cy qtn 8 (T_ne tA), zzI cy qtg 8 (T_go tA), zzI cy qta 8 (T_ag tA), zzI cy qtr 8 (T_re tA), zzI cy qtm 8 (T_me tA), zzI cy qtt 8 (T_te tA), zzI cy qts 64 (shF (T_kn tA))] ∧ (True))) A) (List.toArray (α := Value) [.ref qx, .int (nI k_4)]) s 0 0 A) (F0 m 43 ls []) := by
      intro n_16
      induction n_16 with
      | zero => intro j_18 x4_19 hm9; exact absurd hm9 (Nat.not_lt_zero _)
      | succ n_16 ih_17 =>
        intro j_18 x4_19 hm_21 hj_20 H locs ls hP hD hS hl
        refine lv_iload hx hb (g_21 (v := 5) bX5_bear rfl) (lv_at hl 0 rfl) ?_
        refine lv_iload_n hx hb (g_28 bX5_bear rfl) rfl (lv_at hl 3 rfl) ?_
        refine lv_icmp_ge (tgt := 107) hx hb dX5_bear_46 (by decide +kernel) (fun c_22 => ?_) (fun c_22 => ?_)
        · refine lv_iload hx hb (g_21 (v := 4) bX5_bear rfl) (lv_at hl 1 rfl) ?_
          exact endWs [[true, true, true, true, true, true, true, true, true, true, true]] hx hb hr hlocks rfl hP hD rfl (by decide +kernel) hS ⟨fR, rfl, trivial⟩ (g_172 bX5_bear rfl)
        · have hlt_24 : j_18 < n_10 := lp_lt rfl rfl (by omega) (by omega) c_22
          refine lv_iload hx hb (g_21 (v := 5) bX5_bear rfl) (lv_at hl 0 rfl) ?_
          refine kRi (rS (As := [.int (nI j_18)]) (rest := []) ⟨hx, hb, hml, hown, hts⟩ (c_J6_bitCount l G cy (nI j_18)) L_X5_264 (preRS hN hP [] rfl) rfl ⟨Nat.le_of_ble_eq_true rfl, Nat.le_of_ble_eq_true rfl⟩ hl.1 (Nat.le_of_ble_eq_true rfl) (g_184 (v := 264) bX5_bear rfl) ⟨Nat.le_of_ble_eq_true rfl, Nat.le_of_ble_eq_true rfl⟩) (fun r_25 h_26 => ?_)
          subst h_26
          refine lv_iload hx hb (g_21 (v := 4) bX5_bear rfl) (lv_at hl 1 rfl) ?_
          refine kRi (rS (As := [.int x4_19]) (rest := [.int (zbc (nI j_18))]) ⟨hx, hb, hml, hown, hts⟩ (c_J6_bitCount l G cy x4_19) L_X5_264 (preRS hN hP [] rfl) rfl ⟨Nat.le_of_ble_eq_true rfl, Nat.le_of_ble_eq_true rfl⟩ hl.1 (Nat.le_of_ble_eq_true rfl) (g_184 (v := 264) bX5_bear rfl) ⟨Nat.le_of_ble_eq_true rfl, Nat.le_of_ble_eq_true rfl⟩) (fun r_27 h_28 => ?_)
          subst h_28
          refine lv_icmp_ge (tgt := 66) hx hb dX5_bear_59 (by decide +kernel) (fun c_29 => ?_) (fun c_29 => ?_)
          · refine lv_iconst (v := 0) hx hb (g_3 bX5_bear rfl) (by decide +kernel) ?_
            refine lv_istore (lv' := [(6, .int 0), (5, .int (nI j_18)), (4, .int x4_19), (3, .int (bkn tA (nI n_10) (nI k_4))), (2, .int (nI n_10)), (0, .ref qx), (1, .int (nI k_4))]) hx hb (g_54 (v := 6) bX5_bear rfl) hl (by decide +kernel) rfl (fun ls => ?_)
            clear hl
            intro hl
            refine lv_iload hx hb (g_21 (v := 5) bX5_bear rfl) (lv_at hl 1 rfl) ?_
            refine lv_iload_n hx hb (g_28 bX5_bear rfl) rfl (lv_at hl 4 rfl) ?_
            refine lv_iconst (v := (-1)) hx hb (g_2 bX5_bear rfl) (by decide +kernel) ?_
            refine lv_ixor hx hb (g_130 bX5_bear rfl) ?_
            refine lv_iand hx hb (g_126 bX5_bear rfl) ?_
            refine lv_if_ne (tgt := 101) hx hb dX5_bear_75 (by decide +kernel) (fun c_30 => ?_) (fun c_30 => ?_)
            · refine lv_iinc (v := nI (j_18 + 1)) (lv' := [(5, .int (nI (j_18 + 1))), (6, .int 0), (4, .int x4_19), (3, .int (bkn tA (nI n_10) (nI k_4))), (2, .int (nI n_10)), (0, .ref qx), (1, .int (nI k_4))]) hx hb dX5_bear_101 hl (k := 1) rfl (nI_1 _) (by decide +kernel) rfl (fun ls => ?_)
              clear hl
              intro hl
              refine lv_goto (tgt := 43) hx hb dX5_bear_104 (by decide +kernel) ?_
              exact ih_17 (j_18 + 1) x4_19 (by omega) (by omega) _ _ _ hP hD hS (lv_sub hl [0, 2, 3, 4, 5, 6] rfl)
            · refine lv_iload hx hb (g_21 (v := 6) bX5_bear rfl) (lv_at hl 0 rfl) ?_
              refine lv_if_eq (tgt := 101) hx hb dX5_bear_80 (by decide +kernel) (fun _ => ?_) (fun h9 => absurd (by decide +kernel) h9)
              refine lv_iinc (v := nI (j_18 + 1)) (lv' := [(5, .int (nI (j_18 + 1))), (6, .int 0), (4, .int x4_19), (3, .int (bkn tA (nI n_10) (nI k_4))), (2, .int (nI n_10)), (0, .ref qx), (1, .int (nI k_4))]) hx hb dX5_bear_101 hl (k := 1) rfl (nI_1 _) (by decide +kernel) rfl (fun ls => ?_)
              clear hl
              intro hl
              refine lv_goto (tgt := 43) hx hb dX5_bear_104 (by decide +kernel) ?_
              exact ih_17 (j_18 + 1) x4_19 (by omega) (by omega) _ _ _ hP hD hS (lv_sub hl [0, 2, 3, 4, 5, 6] rfl)
          · refine lv_iconst (v := 1) hx hb (g_4 bX5_bear rfl) (by decide +kernel) ?_
            refine lv_goto (tgt := 67) hx hb dX5_bear_63 (by decide +kernel) ?_
            refine lv_istore (lv' := [(6, .int 1), (5, .int (nI j_18)), (4, .int x4_19), (3, .int (bkn tA (nI n_10) (nI k_4))), (2, .int (nI n_10)), (0, .ref qx), (1, .int (nI k_4))]) hx hb (g_54 (v := 6) bX5_bear rfl) hl (by decide +kernel) rfl (fun ls => ?_)
            clear hl
            intro hl
            refine lv_iload hx hb (g_21 (v := 5) bX5_bear rfl) (lv_at hl 1 rfl) ?_
            refine lv_iload_n hx hb (g_28 bX5_bear rfl) rfl (lv_at hl 4 rfl) ?_
            refine lv_iconst (v := (-1)) hx hb (g_2 bX5_bear rfl) (by decide +kernel) ?_
            refine lv_ixor hx hb (g_130 bX5_bear rfl) ?_
            refine lv_iand hx hb (g_126 bX5_bear rfl) ?_
            refine lv_if_ne (tgt := 101) hx hb dX5_bear_75 (by decide +kernel) (fun c_32 => ?_) (fun c_32 => ?_)
            · refine lv_iinc (v := nI (j_18 + 1)) (lv' := [(5, .int (nI (j_18 + 1))), (6, .int 1), (4, .int x4_19), (3, .int (bkn tA (nI n_10) (nI k_4))), (2, .int (nI n_10)), (0, .ref qx), (1, .int (nI k_4))]) hx hb dX5_bear_101 hl (k := 1) rfl (nI_1 _) (by decide +kernel) rfl (fun ls => ?_)
              clear hl
              intro hl
              refine lv_goto (tgt := 43) hx hb dX5_bear_104 (by decide +kernel) ?_
              exact ih_17 (j_18 + 1) x4_19 (by omega) (by omega) _ _ _ hP hD hS (lv_sub hl [0, 2, 3, 4, 5, 6] rfl)
            · refine lv_iload hx hb (g_21 (v := 6) bX5_bear rfl) (lv_at hl 0 rfl) ?_
              refine lv_if_eq (tgt := 101) hx hb dX5_bear_80 (by decide +kernel) (fun h9 => absurd h9 (by decide +kernel)) (fun _ => ?_)
              refine lv_aload_n hx hb (g_42 bX5_bear rfl) rfl (lv_at hl 5 rfl) ?_
              refine va_get (D := G) (ci := 4) (v := .ref qt) (C := RX5) (T := TX5) (N := 9) hx hb hts iX_X5 hown hK hP 0 rfl rfl 0 (by decide +kernel) (hts _ m_t174) (fun _ h9 => h9) rfl (g_180 (v := 10) bX5_bear rfl) ?_
              refine lv_iload hx hb (g_21 (v := 5) bX5_bear rfl) (lv_at hl 1 rfl) ?_
              refine lv_iload_n hx hb (g_27 bX5_bear rfl) rfl (lv_at hl 6 rfl) ?_
              refine kRi (rV (As := [.int (nI j_18), .int (nI k_4)]) (rest := []) (b := qt) ⟨hx, hb, hml, hown, hts⟩ (c_X4_booksKnown l G cy qt tA qtw qtn qtg qta qtr qtm qtt qts (nI j_18) (nI k_4) hB hPp) L_X5_303 (preRV (q := (RX4, TX4, 13)) hN hP [2, 10] rfl 2 3 rfl rfl) rfl ⟨Nat.le_of_ble_eq_true rfl, Nat.le_of_ble_eq_true rfl⟩ hl.1 (Nat.le_of_ble_eq_true rfl) (g_182 (v := 303) bX5_bear rfl) ⟨Nat.le_of_ble_eq_true rfl, Nat.le_of_ble_eq_true rfl⟩) (fun r_34 h_35 => ?_)
              subst h_35
              refine lv_iload_n hx hb (g_29 bX5_bear rfl) rfl (lv_at hl 3 rfl) ?_
              refine lv_icmp_ne (tgt := 101) hx hb dX5_bear_94 (by decide +kernel) (fun c_36 => ?_) (fun c_36 => ?_)
              · refine lv_iinc (v := nI (j_18 + 1)) (lv' := [(5, .int (nI (j_18 + 1))), (6, .int 1), (4, .int x4_19), (3, .int (bkn tA (nI n_10) (nI k_4))), (2, .int (nI n_10)), (0, .ref qx), (1, .int (nI k_4))]) hx hb dX5_bear_101 hl (k := 1) rfl (nI_1 _) (by decide +kernel) rfl (fun ls => ?_)
                clear hl
                intro hl
                refine lv_goto (tgt := 43) hx hb dX5_bear_104 (by decide +kernel) ?_
                exact ih_17 (j_18 + 1) x4_19 (by omega) (by omega) _ _ _ hP hD hS (lv_sub hl [0, 2, 3, 4, 5, 6] rfl)
              · refine lv_iload hx hb (g_21 (v := 5) bX5_bear rfl) (lv_at hl 1 rfl) ?_
                refine lv_istore (lv' := [(4, .int (nI j_18)), (6, .int 1), (5, .int (nI j_18)), (3, .int (bkn tA (nI n_10) (nI k_4))), (2, .int (nI n_10)), (0, .ref qx), (1, .int (nI k_4))]) hx hb (g_54 (v := 4) bX5_bear rfl) hl (by decide +kernel) rfl (fun ls => ?_)
                clear hl
                intro hl
                refine lv_iinc (v := nI (j_18 + 1)) (lv' := [(5, .int (nI (j_18 + 1))), (4, .int (nI j_18)), (6, .int 1), (3, .int (bkn tA (nI n_10) (nI k_4))), (2, .int (nI n_10)), (0, .ref qx), (1, .int (nI k_4))]) hx hb dX5_bear_101 hl (k := 2) rfl (nI_1 _) (by decide +kernel) rfl (fun ls => ?_)
                clear hl
                intro hl
                refine lv_goto (tgt := 43) hx hb dX5_bear_104 (by decide +kernel) ?_
                exact ih_17 (j_18 + 1) (nI j_18) (by omega) (by omega) _ _ _ hP hD hS (lv_sub hl [0, 1, 3, 4, 5, 6] rfl)
    exact lp_15 ((256 - 0) + 1) 0 (nI n_10) (Nat.lt_succ_self _) (Nat.zero_le _) _ _ ls hP hD hS (lv_sub hl [0, 1, 2, 3, 4, 5] rfl)
  · refine lv_if_ne (tgt := 19) hx hb dX5_bear_9 (by decide +kernel) (fun h9 => absurd (by decide +kernel) h9) (fun _ => ?_)
    refine lv_aload_n hx hb (g_42 bX5_bear rfl) rfl (lv_at hl 0 rfl) ?_
    refine lv_bipush (v := (-2)) hx hb dX5_bear_13 (by decide +kernel) ?_
    refine cVi (As := [.int (-2)]) (rest := []) (b := qx) (q := (RX5, TX5, 9)) ⟨hx, hb, hml, hown, hts⟩ (c_X5_refuse2 l G cy (s.heap).size qx qt qk qp qs qa qr iKp iYe iTv fR) L_X5_56 hN hP hD hS hA [0, 1] [false, false, true, true, true, true, true, true, true, true, true] rfl (by decide +kernel) rfl 0 4 rfl rfl rfl ⟨Nat.le_of_ble_eq_true rfl, Nat.le_of_ble_eq_true rfl⟩ hl.1 (Nat.le_of_ble_eq_true rfl) (g_182 (v := 56) bX5_bear rfl) ⟨Nat.le_of_ble_eq_true rfl, Nat.le_of_ble_eq_true rfl⟩ (fun r_38 u_40 H locs h_39 => ?_)
    clear hP hD hS
    intro hP hD hS
    obtain ⟨fX_41, hu9, h_39⟩ := h_39
    have hPD := pd_eq [_, _, _, _, _, _, _, _, _, _, zzI cy qr 5 fX_41] hP hD hu9 rfl
    clear hP hD hu9
    obtain ⟨hP, hD⟩ := hPD
    subst h_39
    exact endWs [[false, false, false, false, false, false, false, false, false, true, true], [true, true, true, true, true, true, true, true, true]] hx hb hr hlocks rfl hP hD rfl (by decide +kernel) hS ⟨fX_41, rfl, trivial⟩ (g_172 bX5_bear rfl)
set_option maxHeartbeats 4000000 in
set_option maxRecDepth 100000 in
theorem p_X5_youngest (l : Launch) (G : va_G) (cy : Nat → ClassId) (sz : Nat) (qx : Nat) (qt : Nat) (qk : Nat) (qp : Nat) (qs : Nat) (qa : Nat) (qr : Nat) (iKp : Int32) (iYe : Int32) (iTv : Int32) (fR : Nat → Int32) (tA : TA) (qtw : Nat) (qtn : Nat) (qtg : Nat) (qta : Nat) (qtr : Nat) (qtm : Nat) (qtt : Nat) (qts : Nat) (iA : Int32)  (hB : T_nb tA ≤ 8) (hPp : T_np tA ≤ 8) : MW l yX5_youngest cX5_youngest 2 (some .int) 12 0 0 G cy [zzO qx 4 [.ref qt, .ref qk, .ref qp, .ref qs, .ref qa, .ref qr, .int iKp, .int iYe, .int iTv], zzI cy qr 5 fR, zzO qt 3 [.int (nI (T_nb tA)), .int (nI (T_np tA)), .int (wb (T_wh tA)), .int (wb (T_gn tA)), .int (T_sd tA), .ref qtw, .ref qtn, .ref qtg, .ref qta, .ref qtr, .ref qtm, .ref qtt, .ref qts], zzI cy qtw 8 (T_wo tA), zzI cy qtn 8 (T_ne tA), zzI cy qtg 8 (T_go tA), zzI cy qta 8 (T_ag tA), zzI cy qtr 8 (T_re tA), zzI cy qtm 8 (T_me tA), zzI cy qtt 8 (T_te tA), zzI cy qts 64 (shF (T_kn tA))] sz [.ref qx, .int iA] (Wi G (fun r u => ∃ (fX : Nat → Int32), u = [zzO qx 4 [.ref qt, .ref qk, .ref qp, .ref qs, .ref qa, .ref qr, .int iKp, .int iYe, .int iTv], zzI cy qr 5 fX, zzO qt 3 [.int (nI (T_nb tA)), .int (nI (T_np tA)), .int (wb (T_wh tA)), .int (wb (T_gn tA)), .int (T_sd tA), .ref qtw, .ref qtn, .ref qtg, .ref qta, .ref qtr, .ref qtm, .ref qtt, .ref qts], zzI cy qtw 8 (T_wo tA), zzI cy qtn 8 (T_ne tA), zzI cy qtg 8 (T_go tA), zzI cy qta 8 (T_ag tA), zzI cy qtr 8 (T_re tA), zzI cy qtm 8 (T_me tA), zzI cy qtt 8 (T_te tA), zzI cy qts 64 (shF (T_kn tA))] ∧ (True))) := by
  refine enW RX5 (by decide +kernel) rfl (Nat.le_of_ble_eq_true rfl) (fun p e s m below meth c ls A hx hb hml hown hts hr hlocks hP hN hl hin hD hA hS => ?_)
  have hin : meth.name = _ := hin
  have hK := hN.1
  replace hl : lv_has ls 2 [(0, .ref qx), (1, .int iA)] := hl
  refine lv_aload_n hx hb (g_42 bX5_youngest rfl) rfl (lv_at hl 0 rfl) ?_
  refine va_get (D := G) (ci := 4) (v := .ref qt) (C := RX5) (T := TX5) (N := 9) hx hb hts iX_X5 hown hK hP 0 rfl rfl 0 (by decide +kernel) (hts _ m_t174) (fun _ h9 => h9) rfl (g_180 (v := 10) bX5_youngest rfl) ?_
  refine lv_iload_n hx hb (g_27 bX5_youngest rfl) rfl (lv_at hl 1 rfl) ?_
  refine kRi (rV (As := [.int iA]) (rest := []) (b := qt) ⟨hx, hb, hml, hown, hts⟩ (c_X4_isOne l G cy qt tA qtw qtn qtg qta qtr qtm qtt qts iA hPp) L_X5_192 (preRV (q := (RX4, TX4, 13)) hN hP [2] rfl 2 3 rfl rfl) rfl ⟨Nat.le_of_ble_eq_true rfl, Nat.le_of_ble_eq_true rfl⟩ hl.1 (Nat.le_of_ble_eq_true rfl) (g_182 (v := 192) bX5_youngest rfl) ⟨Nat.le_of_ble_eq_true rfl, Nat.le_of_ble_eq_true rfl⟩) (fun r_1 h_2 => ?_)
  rcases h_2 with ⟨rfl, h_3⟩ | ⟨rfl, h_3⟩
  · obtain ⟨k_4, hk_5, rfl⟩ := h_3
    refine lv_if_eq (tgt := 22) hx hb dX5_youngest_8 (by decide +kernel) (fun h9 => absurd h9 (by decide +kernel)) (fun _ => ?_)
    refine lv_aload_n hx hb (g_42 bX5_youngest rfl) rfl (lv_at hl 0 rfl) ?_
    refine va_get (D := G) (ci := 4) (v := .ref qt) (C := RX5) (T := TX5) (N := 9) hx hb hts iX_X5 hown hK hP 0 rfl rfl 0 (by decide +kernel) (hts _ m_t174) (fun _ h9 => h9) rfl (g_180 (v := 10) bX5_youngest rfl) ?_
    refine lv_iload_n hx hb (g_27 bX5_youngest rfl) rfl (lv_at hl 1 rfl) ?_
    refine kRi (rV (As := [.int (nI k_4)]) (rest := []) (b := qt) ⟨hx, hb, hml, hown, hts⟩ (c_X4_youngestBut l G cy qt tA qtw qtn qtg qta qtr qtm qtt qts (nI k_4) hPp) L_X5_306 (preRV (q := (RX4, TX4, 13)) hN hP (trueIx 0 [false, false, true, true, true, true, true, true, true, true, true]) (sel_fm rfl rfl) 2 3 rfl rfl) rfl ⟨Nat.le_of_ble_eq_true rfl, Nat.le_of_ble_eq_true rfl⟩ hl.1 (Nat.le_of_ble_eq_true rfl) (g_182 (v := 306) bX5_youngest rfl) ⟨Nat.le_of_ble_eq_true rfl, Nat.le_of_ble_eq_true rfl⟩) (fun r_7 h_8 => ?_)
    subst h_8
    refine lv_goto (tgt := 28) hx hb dX5_youngest_19 (by decide +kernel) ?_
    exact endWs [[true, true, true, true, true, true, true, true, true, true, true]] hx hb hr hlocks rfl hP hD rfl (by decide +kernel) hS ⟨fR, rfl, trivial⟩ (g_172 bX5_youngest rfl)
  · refine lv_if_eq (tgt := 22) hx hb dX5_youngest_8 (by decide +kernel) (fun _ => ?_) (fun h9 => absurd (by decide +kernel) h9)
    refine lv_aload_n hx hb (g_42 bX5_youngest rfl) rfl (lv_at hl 0 rfl) ?_
    refine lv_bipush (v := (-2)) hx hb dX5_youngest_23 (by decide +kernel) ?_
    refine cVi (As := [.int (-2)]) (rest := []) (b := qx) (q := (RX5, TX5, 9)) ⟨hx, hb, hml, hown, hts⟩ (c_X5_refuse2 l G cy (s.heap).size qx qt qk qp qs qa qr iKp iYe iTv fR) L_X5_56 hN hP hD hS hA [0, 1] [false, false, true, true, true, true, true, true, true, true, true] rfl (by decide +kernel) rfl 0 4 rfl rfl rfl ⟨Nat.le_of_ble_eq_true rfl, Nat.le_of_ble_eq_true rfl⟩ hl.1 (Nat.le_of_ble_eq_true rfl) (g_182 (v := 56) bX5_youngest rfl) ⟨Nat.le_of_ble_eq_true rfl, Nat.le_of_ble_eq_true rfl⟩ (fun r_10 u_12 H locs h_11 => ?_)
    clear hP hD hS
    intro hP hD hS
    obtain ⟨fX_13, hu9, h_11⟩ := h_11
    have hPD := pd_eq [_, _, _, _, _, _, _, _, _, _, zzI cy qr 5 fX_13] hP hD hu9 rfl
    clear hP hD hu9
    obtain ⟨hP, hD⟩ := hPD
    subst h_11
    exact endWs [[false, false, false, false, false, false, false, false, false, true, true], [true, true, true, true, true, true, true, true, true]] hx hb hr hlocks rfl hP hD rfl (by decide +kernel) hS ⟨fX_13, rfl, trivial⟩ (g_172 bX5_youngest rfl)
set_option maxHeartbeats 4000000 in
set_option maxRecDepth 100000 in
theorem p_X5_teach (l : Launch) (G : va_G) (cy : Nat → ClassId) (sz : Nat) (qx : Nat) (qt : Nat) (qk : Nat) (qp : Nat) (qs : Nat) (qa : Nat) (qr : Nat) (iKp : Int32) (iYe : Int32) (iTv : Int32) (fR : Nat → Int32) (tA : TA) (qtw : Nat) (qtn : Nat) (qtg : Nat) (qta : Nat) (qtr : Nat) (qtm : Nat) (qtt : Nat) (qts : Nat) (iA : Int32) (iB : Int32)  (hB : T_nb tA ≤ 8) (hPp : T_np tA ≤ 8) : MW l yX5_teach cX5_teach 7 (some .int) 12 0 0 G cy [zzO qx 4 [.ref qt, .ref qk, .ref qp, .ref qs, .ref qa, .ref qr, .int iKp, .int iYe, .int iTv], zzI cy qr 5 fR, zzO qt 3 [.int (nI (T_nb tA)), .int (nI (T_np tA)), .int (wb (T_wh tA)), .int (wb (T_gn tA)), .int (T_sd tA), .ref qtw, .ref qtn, .ref qtg, .ref qta, .ref qtr, .ref qtm, .ref qtt, .ref qts], zzI cy qtw 8 (T_wo tA), zzI cy qtn 8 (T_ne tA), zzI cy qtg 8 (T_go tA), zzI cy qta 8 (T_ag tA), zzI cy qtr 8 (T_re tA), zzI cy qtm 8 (T_me tA), zzI cy qtt 8 (T_te tA), zzI cy qts 64 (shF (T_kn tA))] sz [.ref qx, .int iA, .int iB] (Wi G (fun r u => ∃ (fX : Nat → Int32), u = [zzO qx 4 [.ref qt, .ref qk, .ref qp, .ref qs, .ref qa, .ref qr, .int iKp, .int iYe, .int iTv], zzI cy qr 5 fX, zzO qt 3 [.int (nI (T_nb tA)), .int (nI (T_np tA)), .int (wb (T_wh tA)), .int (wb (T_gn tA)), .int (T_sd tA), .ref qtw, .ref qtn, .ref qtg, .ref qta, .ref qtr, .ref qtm, .ref qtt, .ref qts], zzI cy qtw 8 (T_wo tA), zzI cy qtn 8 (T_ne tA), zzI cy qtg 8 (T_go tA), zzI cy qta 8 (T_ag tA), zzI cy qtr 8 (T_re tA), zzI cy qtm 8 (T_me tA), zzI cy qtt 8 (T_te tA), zzI cy qts 64 (shF (T_kn tA))] ∧ (True))) := by
  refine enW RX5 (by decide +kernel) rfl (Nat.le_of_ble_eq_true rfl) (fun p e s m below meth c ls A hx hb hml hown hts hr hlocks hP hN hl hin hD hA hS => ?_)
  have hin : meth.name = _ := hin
  have hK := hN.1
  replace hl : lv_has ls 7 [(0, .ref qx), (1, .int iA), (2, .int iB)] := hl
  refine lv_aload_n hx hb (g_42 bX5_teach rfl) rfl (lv_at hl 0 rfl) ?_
  refine lv_iload_n hx hb (g_27 bX5_teach rfl) rfl (lv_at hl 1 rfl) ?_
  refine lv_iload_n hx hb (g_28 bX5_teach rfl) rfl (lv_at hl 2 rfl) ?_
  refine kRi (rV (As := [.int iA, .int iB]) (rest := []) (b := qx) ⟨hx, hb, hml, hown, hts⟩ (c_X5_isPair l G cy qx qt qk qp qs qa qr iKp iYe iTv tA qtw qtn qtg qta qtr qtm qtt qts iA iB hB hPp) L_X5_210 (preRV (q := (RX5, TX5, 9)) hN hP [0, 2] rfl 0 4 rfl rfl) rfl ⟨Nat.le_of_ble_eq_true rfl, Nat.le_of_ble_eq_true rfl⟩ hl.1 (Nat.le_of_ble_eq_true rfl) (g_182 (v := 210) bX5_teach rfl) ⟨Nat.le_of_ble_eq_true rfl, Nat.le_of_ble_eq_true rfl⟩) (fun r_1 h_2 => ?_)
  rcases h_2 with ⟨rfl, h_3⟩ | ⟨rfl, h_3⟩
  · obtain ⟨⟨k_4, hk_6, rfl⟩, ⟨k_5, hk_7, rfl⟩⟩ := h_3
    refine lv_if_ne (tgt := 16) hx hb dX5_teach_6 (by decide +kernel) (fun _ => ?_) (fun h9 => absurd h9 (by decide +kernel))
    refine lv_aload_n hx hb (g_42 bX5_teach rfl) rfl (lv_at hl 0 rfl) ?_
    refine va_get (D := G) (ci := 4) (v := .ref qt) (C := RX5) (T := TX5) (N := 9) hx hb hts iX_X5 hown hK hP 0 rfl rfl 0 (by decide +kernel) (hts _ m_t174) (fun _ h9 => h9) rfl (g_180 (v := 10) bX5_teach rfl) ?_
    refine va_getN (D := G) (ci := 3) (v := .int (wb (T_gn tA))) (C := RX4) (T := TX4) (N := 13) hx hb hts iX_X4 hown hK hP 2 rfl rfl 3 (by decide +kernel) (va_Nw.use rfl (hN.2.1 (RX5, 207, "EachBookOnce$Town", "gone", "I") (List.mem_of_getElem? (i := 12) rfl))) (fun _ h9 => h9) rfl (g_180 (v := 207) bX5_teach rfl) ?_
    refine lv_iload_n hx hb (g_27 bX5_teach rfl) rfl (lv_at hl 1 rfl) ?_
    refine kRi (rS (As := [.int (wb (T_gn tA)), .int (nI k_4)]) (rest := []) ⟨hx, hb, hml, hown, hts⟩ (c_X5_has l G cy (wb (T_gn tA)) k_4) L_X5_183 (preRS hN hP [] rfl) rfl ⟨Nat.le_of_ble_eq_true rfl, Nat.le_of_ble_eq_true rfl⟩ hl.1 (Nat.le_of_ble_eq_true rfl) (g_184 (v := 183) bX5_teach rfl) ⟨Nat.le_of_ble_eq_true rfl, Nat.le_of_ble_eq_true rfl⟩) (fun r_9 h_10 => ?_)
    rcases h_10 with ⟨rfl, h_11⟩ | ⟨rfl, h_11⟩
    · rw [bit_wb _ (by omega)] at h_11
      refine lv_if_eq (tgt := 37) hx hb dX5_teach_27 (by decide +kernel) (fun h9 => absurd h9 (by decide +kernel)) (fun _ => ?_)
      refine lv_aload_n hx hb (g_42 bX5_teach rfl) rfl (lv_at hl 0 rfl) ?_
      refine lv_bipush (v := (-5)) hx hb dX5_teach_31 (by decide +kernel) ?_
      refine cVi (As := [.int (-5)]) (rest := []) (b := qx) (q := (RX5, TX5, 9)) ⟨hx, hb, hml, hown, hts⟩ (c_X5_refuse5 l G cy (s.heap).size qx qt qk qp qs qa qr iKp iYe iTv fR) L_X5_56 hN hP hD hS hA [0, 1] [false, false, true, true, true, true, true, true, true, true, true] rfl (by decide +kernel) rfl 0 4 rfl rfl rfl ⟨Nat.le_of_ble_eq_true rfl, Nat.le_of_ble_eq_true rfl⟩ hl.1 (Nat.le_of_ble_eq_true rfl) (g_182 (v := 56) bX5_teach rfl) ⟨Nat.le_of_ble_eq_true rfl, Nat.le_of_ble_eq_true rfl⟩ (fun r_13 u_15 H locs h_14 => ?_)
      clear hP hD hS
      intro hP hD hS
      obtain ⟨fX_16, hu9, h_14⟩ := h_14
      have hPD := pd_eq [_, _, _, _, _, _, _, _, _, _, zzI cy qr 5 fX_16] hP hD hu9 rfl
      clear hP hD hu9
      obtain ⟨hP, hD⟩ := hPD
      subst h_14
      exact endWs [[false, false, false, false, false, false, false, false, false, true, true], [true, true, true, true, true, true, true, true, true]] hx hb hr hlocks rfl hP hD rfl (by decide +kernel) hS ⟨fX_16, rfl, trivial⟩ (g_172 bX5_teach rfl)
    · rw [bit_wb _ (by omega)] at h_11
      refine lv_if_eq (tgt := 37) hx hb dX5_teach_27 (by decide +kernel) (fun _ => ?_) (fun h9 => absurd (by decide +kernel) h9)
      refine lv_iconst (v := (-1)) hx hb (g_2 bX5_teach rfl) (by decide +kernel) ?_
      refine lv_istore_n (lv' := [(3, .int (-1)), (0, .ref qx), (1, .int (nI k_4)), (2, .int (nI k_5))]) hx hb (g_62 bX5_teach rfl) rfl hl (by decide +kernel) rfl (fun ls => ?_)
      clear hl
      intro hl
      refine lv_iconst (v := 0) hx hb (g_3 bX5_teach rfl) (by decide +kernel) ?_
      refine lv_istore (lv' := [(4, .int 0), (3, .int (-1)), (0, .ref qx), (1, .int (nI k_4)), (2, .int (nI k_5))]) hx hb (g_54 (v := 4) bX5_teach rfl) hl (by decide +kernel) rfl (fun ls => ?_)
      clear hl
      intro hl
      refine lv_iconst (v := 0) hx hb (g_3 bX5_teach rfl) (by decide +kernel) ?_
      refine lv_istore (lv' := [(5, .int 0), (4, .int 0), (3, .int (-1)), (0, .ref qx), (1, .int (nI k_4)), (2, .int (nI k_5))]) hx hb (g_54 (v := 5) bX5_teach rfl) hl (by decide +kernel) rfl (fun ls => ?_)
      clear hl
      intro hl
      have lp_18 : ∀ (n_19 : Nat) (j_21 : Nat) (x3_22 : Int32) (x4_23 : Int32), 8 - j_21 < n_19 → j_21 ≤ T_np tA → ∀ (H : Heap) (locs : List Loc) (ls : Array Slot), va_P G CL [zzO qx 4 [.ref qt, .ref qk, .ref qp, .ref qs, .ref qa, .ref qr, .int iKp, .int iYe, .int iTv], zzI cy qr 5 fR, zzO qt 3 [.int (nI (T_nb tA)), .int (nI (T_np tA)), .int (wb (T_wh tA)), .int (wb (T_gn tA)), .int (T_sd tA), .ref qtw, .ref qtn, .ref qtg, .ref qta, .ref qtr, .ref qtm, .ref qtt, .ref qts], zzI cy qtw 8 (T_wo tA), zzI cy qtn 8 (T_ne tA), zzI cy qtg 8 (T_go tA), zzI cy qta 8 (T_ag tA), zzI cy qtr 8 (T_re tA), zzI cy qtm 8 (T_me tA), zzI cy qtt 8 (T_te tA), zzI cy qts 64 (shF (T_kn tA))] H → va_D A [zzO qx 4 [.ref qt, .ref qk, .ref qp, .ref qs, .ref qa, .ref qr, .int iKp, .int iYe, .int iTv], zzI cy qr 5 fR, zzO qt 3 [.int (nI (T_nb tA)), .int (nI (T_np tA)), .int (wb (T_wh tA)), .int (wb (T_gn tA)), .int (T_sd tA), .ref qtw, .ref qtn, .ref qtg, .ref qta, .ref qtr, .ref qtm, .ref qtt, .ref qts], zzI cy qtw 8 (T_wo tA), zzI cy qtn 8 (T_ne tA), zzI cy qtg 8 (T_go tA), zzI cy qta 8 (T_ag tA), zzI cy qtr 8 (T_re tA), zzI cy qtm 8 (T_me tA), zzI cy qtt 8 (T_te tA), zzI cy qts 64 (shF (T_kn tA))] → va_S A s.heap H locs → lv_has ls 7 [(5, .int (nI j_21)), (4, .int x4_23), (3, .int x3_22), (0, .ref qx), (1, .int (nI k_4)), (2, .int (nI k_5))] → W p l e (Rm 12 0 0) s m (List.toArray (α := Value) [.ref qx, .int (nI k_4), .int (nI k_5)]) below meth c H locs 0 0 (MQ below ((Wi G (fun r u => ∃ (fX : Nat → Int32), u = [zzO qx 4 [.ref qt, .ref qk, .ref qp, .ref qs, .ref qa, .ref qr, .int iKp, .int iYe, .int iTv], zzI cy qr 5 fX, zzO qt 3 [.int (nI (T_nb tA)), .int (nI (T_np tA)), .int (wb (T_wh tA)), .int (wb (T_gn tA)), .int (T_sd tA), .ref qtw, .ref qtn, .ref qtg, .ref qta, .ref qtr, .ref qtm, .ref qtt, .ref qts], zzI cy qtw 8 (T_wo tA), zzI cy qtn 8 (T_ne tA), zzI cy qtg 8 (T_go tA), zzI cy qta 8 (T_ag tA), zzI cy qtr 8 (T_re tA), zzI cy qtm 8 (T_me tA), zzI cy qtt 8 (T_te tA), zzI cy qts 64 (shF (T_kn tA))] ∧ (True))) A) (List.toArray (α := Value) [.ref qx, .int (nI k_4), .int (nI k_5)]) s 0 0 A) (F0 m 45 ls []) := by
        intro n_19
        induction n_19 with
        | zero => intro j_21 x3_22 x4_23 hm9; exact absurd hm9 (Nat.not_lt_zero _)
        | succ n_19 ih_20 =>
          intro j_21 x3_22 x4_23 hm_25 hj_24 H locs ls hP hD hS hl
          refine lv_iload hx hb (g_21 (v := 5) bX5_teach rfl) (lv_at hl 0 rfl) ?_
          refine lv_aload_n hx hb (g_42 bX5_teach rfl) rfl (lv_at hl 3 rfl) ?_
          refine va_get (D := G) (ci := 4) (v := .ref qt) (C := RX5) (T := TX5) (N := 9) hx hb hts iX_X5 hown hK hP 0 rfl rfl 0 (by decide +kernel) (hts _ m_t174) (fun _ h9 => h9) rfl (g_180 (v := 10) bX5_teach rfl) ?_
          refine va_getN (D := G) (ci := 3) (v := .int (nI (T_np tA))) (C := RX4) (T := TX4) (N := 13) hx hb hts iX_X4 hown hK hP 2 rfl rfl 1 (by decide +kernel) (va_Nw.use rfl (hN.2.1 (RX5, 141, "EachBookOnce$Town", "people", "I") (List.mem_of_getElem? (i := 7) rfl))) (fun _ h9 => h9) rfl (g_180 (v := 141) bX5_teach rfl) ?_
          refine lv_icmp_ge (tgt := 115) hx hb dX5_teach_54 (by decide +kernel) (fun c_26 => ?_) (fun c_26 => ?_)
          · have hlt_27 : j_21 = T_np tA := Nat.le_antisymm (by omega) (lp_ge rfl rfl (by omega) (by omega) c_26)
            refine lv_iload_n hx hb (g_29 bX5_teach rfl) rfl (lv_at hl 2 rfl) ?_
            exact endWs [[true, true, true, true, true, true, true, true, true, true, true]] hx hb hr hlocks rfl hP hD rfl (by decide +kernel) hS ⟨fR, rfl, trivial⟩ (g_172 bX5_teach rfl)
          · have hlt_28 : j_21 < T_np tA := lp_lt rfl rfl (by omega) (by omega) c_26
            refine lv_iload hx hb (g_21 (v := 5) bX5_teach rfl) (lv_at hl 0 rfl) ?_
            refine lv_iload_n hx hb (g_27 bX5_teach rfl) rfl (lv_at hl 4 rfl) ?_
            refine lv_icmp_eq (tgt := 78) hx hb dX5_teach_60 (by decide +kernel) (fun c_29 => ?_) (fun c_29 => ?_)
            · refine lv_iconst (v := 0) hx hb (g_3 bX5_teach rfl) (by decide +kernel) ?_
              refine lv_goto (tgt := 93) hx hb dX5_teach_79 (by decide +kernel) ?_
              refine lv_istore (lv' := [(6, .int 0), (5, .int (nI j_21)), (4, .int x4_23), (3, .int x3_22), (0, .ref qx), (1, .int (nI k_4)), (2, .int (nI k_5))]) hx hb (g_54 (v := 6) bX5_teach rfl) hl (by decide +kernel) rfl (fun ls => ?_)
              clear hl
              intro hl
              refine lv_iload hx hb (g_21 (v := 6) bX5_teach rfl) (lv_at hl 0 rfl) ?_
              refine lv_iload hx hb (g_21 (v := 4) bX5_teach rfl) (lv_at hl 2 rfl) ?_
              refine lv_icmp_le (tgt := 109) hx hb dX5_teach_99 (by decide +kernel) (fun c_30 => ?_) (fun c_30 => ?_)
              · refine lv_iinc (v := nI (j_21 + 1)) (lv' := [(5, .int (nI (j_21 + 1))), (6, .int 0), (4, .int x4_23), (3, .int x3_22), (0, .ref qx), (1, .int (nI k_4)), (2, .int (nI k_5))]) hx hb dX5_teach_109 hl (k := 1) rfl (nI_1 _) (by decide +kernel) rfl (fun ls => ?_)
                clear hl
                intro hl
                refine lv_goto (tgt := 45) hx hb dX5_teach_112 (by decide +kernel) ?_
                exact ih_20 (j_21 + 1) x3_22 x4_23 (by omega) (by omega) _ _ _ hP hD hS (lv_sub hl [0, 2, 3, 4, 5, 6] rfl)
              · refine lv_iload hx hb (g_21 (v := 5) bX5_teach rfl) (lv_at hl 1 rfl) ?_
                refine lv_istore_n (lv' := [(3, .int (nI j_21)), (6, .int 0), (5, .int (nI j_21)), (4, .int x4_23), (0, .ref qx), (1, .int (nI k_4)), (2, .int (nI k_5))]) hx hb (g_62 bX5_teach rfl) rfl hl (by decide +kernel) rfl (fun ls => ?_)
                clear hl
                intro hl
                refine lv_iload hx hb (g_21 (v := 6) bX5_teach rfl) (lv_at hl 1 rfl) ?_
                refine lv_istore (lv' := [(4, .int 0), (3, .int (nI j_21)), (6, .int 0), (5, .int (nI j_21)), (0, .ref qx), (1, .int (nI k_4)), (2, .int (nI k_5))]) hx hb (g_54 (v := 4) bX5_teach rfl) hl (by decide +kernel) rfl (fun ls => ?_)
                clear hl
                intro hl
                refine lv_iinc (v := nI (j_21 + 1)) (lv' := [(5, .int (nI (j_21 + 1))), (4, .int 0), (3, .int (nI j_21)), (6, .int 0), (0, .ref qx), (1, .int (nI k_4)), (2, .int (nI k_5))]) hx hb dX5_teach_109 hl (k := 3) rfl (nI_1 _) (by decide +kernel) rfl (fun ls => ?_)
                clear hl
                intro hl
                refine lv_goto (tgt := 45) hx hb dX5_teach_112 (by decide +kernel) ?_
                exact ih_20 (j_21 + 1) (nI j_21) 0 (by omega) (by omega) _ _ _ hP hD hS (lv_sub hl [0, 1, 2, 4, 5, 6] rfl)
            · refine lv_aload_n hx hb (g_42 bX5_teach rfl) rfl (lv_at hl 3 rfl) ?_
              refine va_get (D := G) (ci := 4) (v := .ref qt) (C := RX5) (T := TX5) (N := 9) hx hb hts iX_X5 hown hK hP 0 rfl rfl 0 (by decide +kernel) (hts _ m_t174) (fun _ h9 => h9) rfl (g_180 (v := 10) bX5_teach rfl) ?_
              refine va_getN (D := G) (ci := 3) (v := .int (wb (T_gn tA))) (C := RX4) (T := TX4) (N := 13) hx hb hts iX_X4 hown hK hP 2 rfl rfl 3 (by decide +kernel) (va_Nw.use rfl (hN.2.1 (RX5, 207, "EachBookOnce$Town", "gone", "I") (List.mem_of_getElem? (i := 12) rfl))) (fun _ h9 => h9) rfl (g_180 (v := 207) bX5_teach rfl) ?_
              refine lv_iload hx hb (g_21 (v := 5) bX5_teach rfl) (lv_at hl 0 rfl) ?_
              refine kRi (rS (As := [.int (wb (T_gn tA)), .int (nI j_21)]) (rest := []) ⟨hx, hb, hml, hown, hts⟩ (c_X5_has l G cy (wb (T_gn tA)) j_21) L_X5_183 (preRS hN hP [] rfl) rfl ⟨Nat.le_of_ble_eq_true rfl, Nat.le_of_ble_eq_true rfl⟩ hl.1 (Nat.le_of_ble_eq_true rfl) (g_184 (v := 183) bX5_teach rfl) ⟨Nat.le_of_ble_eq_true rfl, Nat.le_of_ble_eq_true rfl⟩) (fun r_31 h_32 => ?_)
              rcases h_32 with ⟨rfl, h_33⟩ | ⟨rfl, h_33⟩
              · rw [bit_wb _ (by omega)] at h_33
                refine lv_if_eq (tgt := 82) hx hb dX5_teach_75 (by decide +kernel) (fun h9 => absurd h9 (by decide +kernel)) (fun _ => ?_)
                refine lv_iconst (v := 0) hx hb (g_3 bX5_teach rfl) (by decide +kernel) ?_
                refine lv_goto (tgt := 93) hx hb dX5_teach_79 (by decide +kernel) ?_
                refine lv_istore (lv' := [(6, .int 0), (5, .int (nI j_21)), (4, .int x4_23), (3, .int x3_22), (0, .ref qx), (1, .int (nI k_4)), (2, .int (nI k_5))]) hx hb (g_54 (v := 6) bX5_teach rfl) hl (by decide +kernel) rfl (fun ls => ?_)
                clear hl
                intro hl
                refine lv_iload hx hb (g_21 (v := 6) bX5_teach rfl) (lv_at hl 0 rfl) ?_
                refine lv_iload hx hb (g_21 (v := 4) bX5_teach rfl) (lv_at hl 2 rfl) ?_
                refine lv_icmp_le (tgt := 109) hx hb dX5_teach_99 (by decide +kernel) (fun c_35 => ?_) (fun c_35 => ?_)
                · refine lv_iinc (v := nI (j_21 + 1)) (lv' := [(5, .int (nI (j_21 + 1))), (6, .int 0), (4, .int x4_23), (3, .int x3_22), (0, .ref qx), (1, .int (nI k_4)), (2, .int (nI k_5))]) hx hb dX5_teach_109 hl (k := 1) rfl (nI_1 _) (by decide +kernel) rfl (fun ls => ?_)
                  clear hl
                  intro hl
                  refine lv_goto (tgt := 45) hx hb dX5_teach_112 (by decide +kernel) ?_
                  exact ih_20 (j_21 + 1) x3_22 x4_23 (by omega) (by omega) _ _ _ hP hD hS (lv_sub hl [0, 2, 3, 4, 5, 6] rfl)
                · refine lv_iload hx hb (g_21 (v := 5) bX5_teach rfl) (lv_at hl 1 rfl) ?_
                  refine lv_istore_n (lv' := [(3, .int (nI j_21)), (6, .int 0), (5, .int (nI j_21)), (4, .int x4_23), (0, .ref qx), (1, .int (nI k_4)), (2, .int (nI k_5))]) hx hb (g_62 bX5_teach rfl) rfl hl (by decide +kernel) rfl (fun ls => ?_)
                  clear hl
                  intro hl
                  refine lv_iload hx hb (g_21 (v := 6) bX5_teach rfl) (lv_at hl 1 rfl) ?_
                  refine lv_istore (lv' := [(4, .int 0), (3, .int (nI j_21)), (6, .int 0), (5, .int (nI j_21)), (0, .ref qx), (1, .int (nI k_4)), (2, .int (nI k_5))]) hx hb (g_54 (v := 4) bX5_teach rfl) hl (by decide +kernel) rfl (fun ls => ?_)
                  clear hl
                  intro hl
                  refine lv_iinc (v := nI (j_21 + 1)) (lv' := [(5, .int (nI (j_21 + 1))), (4, .int 0), (3, .int (nI j_21)), (6, .int 0), (0, .ref qx), (1, .int (nI k_4)), (2, .int (nI k_5))]) hx hb dX5_teach_109 hl (k := 3) rfl (nI_1 _) (by decide +kernel) rfl (fun ls => ?_)
                  clear hl
                  intro hl
                  refine lv_goto (tgt := 45) hx hb dX5_teach_112 (by decide +kernel) ?_
                  exact ih_20 (j_21 + 1) (nI j_21) 0 (by omega) (by omega) _ _ _ hP hD hS (lv_sub hl [0, 1, 2, 4, 5, 6] rfl)
              · rw [bit_wb _ (by omega)] at h_33
                refine lv_if_eq (tgt := 82) hx hb dX5_teach_75 (by decide +kernel) (fun _ => ?_) (fun h9 => absurd (by decide +kernel) h9)
                refine lv_aload_n hx hb (g_42 bX5_teach rfl) rfl (lv_at hl 3 rfl) ?_
                refine va_get (D := G) (ci := 4) (v := .ref qt) (C := RX5) (T := TX5) (N := 9) hx hb hts iX_X5 hown hK hP 0 rfl rfl 0 (by decide +kernel) (hts _ m_t174) (fun _ h9 => h9) rfl (g_180 (v := 10) bX5_teach rfl) ?_
                refine lv_iload_n hx hb (g_27 bX5_teach rfl) rfl (lv_at hl 4 rfl) ?_
                refine lv_iload hx hb (g_21 (v := 5) bX5_teach rfl) (lv_at hl 0 rfl) ?_
                refine lv_iload_n hx hb (g_28 bX5_teach rfl) rfl (lv_at hl 5 rfl) ?_
                refine kRi (rV (As := [.int (nI k_4), .int (nI j_21), .int (nI k_5)]) (rest := []) (b := qt) ⟨hx, hb, hml, hown, hts⟩ (c_X4_gainByTelling l G cy qt tA qtw qtn qtg qta qtr qtm qtt qts k_4 j_21 k_5 (by first | omega | (simp only [nb_sr, np_sr, nb_wr, np_wr, nb_rd, np_rd, nb_ch, np_ch, nb_zr, np_zr, nb_za, np_za, nb_ey, np_ey, nb_hf, np_hf, nb_dd, np_dd, nb_so, np_so, nb_skn, np_skn, nb_swh, np_swh, nb_sgn, np_sgn, nb_ssd, np_ssd, nb_sgo, np_sgo, nb_sag, np_sag]; omega)) (by first | omega | (simp only [nb_sr, np_sr, nb_wr, np_wr, nb_rd, np_rd, nb_ch, np_ch, nb_zr, np_zr, nb_za, np_za, nb_ey, np_ey, nb_hf, np_hf, nb_dd, np_dd, nb_so, np_so, nb_skn, np_skn, nb_swh, np_swh, nb_sgn, np_sgn, nb_ssd, np_ssd, nb_sgo, np_sgo, nb_sag, np_sag]; omega)) (by first | omega | (simp only [nb_sr, np_sr, nb_wr, np_wr, nb_rd, np_rd, nb_ch, np_ch, nb_zr, np_zr, nb_za, np_za, nb_ey, np_ey, nb_hf, np_hf, nb_dd, np_dd, nb_so, np_so, nb_skn, np_skn, nb_swh, np_swh, nb_sgn, np_sgn, nb_ssd, np_ssd, nb_sgo, np_sgo, nb_sag, np_sag]; omega))) L_X5_238 (preRV (q := (RX4, TX4, 13)) hN hP (trueIx 0 [false, false, true, false, false, false, false, false, false, true, true]) (sel_fm rfl rfl) 2 3 rfl rfl) rfl ⟨Nat.le_of_ble_eq_true rfl, Nat.le_of_ble_eq_true rfl⟩ hl.1 (Nat.le_of_ble_eq_true rfl) (g_182 (v := 238) bX5_teach rfl) ⟨Nat.le_of_ble_eq_true rfl, Nat.le_of_ble_eq_true rfl⟩) (fun r_37 h_38 => ?_)
                subst h_38
                refine lv_istore (lv' := [(6, .int (zgt tA k_4 j_21 k_5)), (5, .int (nI j_21)), (4, .int x4_23), (3, .int x3_22), (0, .ref qx), (1, .int (nI k_4)), (2, .int (nI k_5))]) hx hb (g_54 (v := 6) bX5_teach rfl) hl (by decide +kernel) rfl (fun ls => ?_)
                clear hl
                intro hl
                refine lv_iload hx hb (g_21 (v := 6) bX5_teach rfl) (lv_at hl 0 rfl) ?_
                refine lv_iload hx hb (g_21 (v := 4) bX5_teach rfl) (lv_at hl 2 rfl) ?_
                refine lv_icmp_le (tgt := 109) hx hb dX5_teach_99 (by decide +kernel) (fun c_39 => ?_) (fun c_39 => ?_)
                · refine lv_iinc (v := nI (j_21 + 1)) (lv' := [(5, .int (nI (j_21 + 1))), (6, .int (zgt tA k_4 j_21 k_5)), (4, .int x4_23), (3, .int x3_22), (0, .ref qx), (1, .int (nI k_4)), (2, .int (nI k_5))]) hx hb dX5_teach_109 hl (k := 1) rfl (nI_1 _) (by decide +kernel) rfl (fun ls => ?_)
                  clear hl
                  intro hl
                  refine lv_goto (tgt := 45) hx hb dX5_teach_112 (by decide +kernel) ?_
                  exact ih_20 (j_21 + 1) x3_22 x4_23 (by omega) (by omega) _ _ _ hP hD hS (lv_sub hl [0, 2, 3, 4, 5, 6] rfl)
                · refine lv_iload hx hb (g_21 (v := 5) bX5_teach rfl) (lv_at hl 1 rfl) ?_
                  refine lv_istore_n (lv' := [(3, .int (nI j_21)), (6, .int (zgt tA k_4 j_21 k_5)), (5, .int (nI j_21)), (4, .int x4_23), (0, .ref qx), (1, .int (nI k_4)), (2, .int (nI k_5))]) hx hb (g_62 bX5_teach rfl) rfl hl (by decide +kernel) rfl (fun ls => ?_)
                  clear hl
                  intro hl
                  refine lv_iload hx hb (g_21 (v := 6) bX5_teach rfl) (lv_at hl 1 rfl) ?_
                  refine lv_istore (lv' := [(4, .int (zgt tA k_4 j_21 k_5)), (3, .int (nI j_21)), (6, .int (zgt tA k_4 j_21 k_5)), (5, .int (nI j_21)), (0, .ref qx), (1, .int (nI k_4)), (2, .int (nI k_5))]) hx hb (g_54 (v := 4) bX5_teach rfl) hl (by decide +kernel) rfl (fun ls => ?_)
                  clear hl
                  intro hl
                  refine lv_iinc (v := nI (j_21 + 1)) (lv' := [(5, .int (nI (j_21 + 1))), (4, .int (zgt tA k_4 j_21 k_5)), (3, .int (nI j_21)), (6, .int (zgt tA k_4 j_21 k_5)), (0, .ref qx), (1, .int (nI k_4)), (2, .int (nI k_5))]) hx hb dX5_teach_109 hl (k := 3) rfl (nI_1 _) (by decide +kernel) rfl (fun ls => ?_)
                  clear hl
                  intro hl
                  refine lv_goto (tgt := 45) hx hb dX5_teach_112 (by decide +kernel) ?_
                  exact ih_20 (j_21 + 1) (nI j_21) (zgt tA k_4 j_21 k_5) (by omega) (by omega) _ _ _ hP hD hS (lv_sub hl [0, 1, 2, 4, 5, 6] rfl)
      exact lp_18 ((8 - 0) + 1) 0 (-1) 0 (Nat.lt_succ_self _) (Nat.zero_le _) _ _ ls hP hD hS (lv_sub hl [0, 1, 2, 3, 4, 5] rfl)
  · refine lv_if_ne (tgt := 16) hx hb dX5_teach_6 (by decide +kernel) (fun h9 => absurd (by decide +kernel) h9) (fun _ => ?_)
    refine lv_aload_n hx hb (g_42 bX5_teach rfl) rfl (lv_at hl 0 rfl) ?_
    refine lv_bipush (v := (-2)) hx hb dX5_teach_10 (by decide +kernel) ?_
    refine cVi (As := [.int (-2)]) (rest := []) (b := qx) (q := (RX5, TX5, 9)) ⟨hx, hb, hml, hown, hts⟩ (c_X5_refuse2 l G cy (s.heap).size qx qt qk qp qs qa qr iKp iYe iTv fR) L_X5_56 hN hP hD hS hA [0, 1] [false, false, true, true, true, true, true, true, true, true, true] rfl (by decide +kernel) rfl 0 4 rfl rfl rfl ⟨Nat.le_of_ble_eq_true rfl, Nat.le_of_ble_eq_true rfl⟩ hl.1 (Nat.le_of_ble_eq_true rfl) (g_182 (v := 56) bX5_teach rfl) ⟨Nat.le_of_ble_eq_true rfl, Nat.le_of_ble_eq_true rfl⟩ (fun r_41 u_43 H locs h_42 => ?_)
    clear hP hD hS
    intro hP hD hS
    obtain ⟨fX_44, hu9, h_42⟩ := h_42
    have hPD := pd_eq [_, _, _, _, _, _, _, _, _, _, zzI cy qr 5 fX_44] hP hD hu9 rfl
    clear hP hD hu9
    obtain ⟨hP, hD⟩ := hPD
    subst h_42
    exact endWs [[false, false, false, false, false, false, false, false, false, true, true], [true, true, true, true, true, true, true, true, true]] hx hb hr hlocks rfl hP hD rfl (by decide +kernel) hS ⟨fX_44, rfl, trivial⟩ (g_172 bX5_teach rfl)
set_option maxHeartbeats 4000000 in
set_option maxRecDepth 100000 in
theorem p_X5_needs (l : Launch) (G : va_G) (cy : Nat → ClassId) (sz : Nat) (qx : Nat) (qt : Nat) (qk : Nat) (qp : Nat) (qs : Nat) (qa : Nat) (qr : Nat) (iKp : Int32) (iYe : Int32) (iTv : Int32) (fR : Nat → Int32) (tA : TA) (qtw : Nat) (qtn : Nat) (qtg : Nat) (qta : Nat) (qtr : Nat) (qtm : Nat) (qtt : Nat) (qts : Nat) (iA : Int32) (iB : Int32)  (hB : T_nb tA ≤ 8) (hPp : T_np tA ≤ 8) : MW l yX5_needs cX5_needs 3 (some .int) 12 0 0 G cy [zzO qx 4 [.ref qt, .ref qk, .ref qp, .ref qs, .ref qa, .ref qr, .int iKp, .int iYe, .int iTv], zzI cy qr 5 fR, zzO qt 3 [.int (nI (T_nb tA)), .int (nI (T_np tA)), .int (wb (T_wh tA)), .int (wb (T_gn tA)), .int (T_sd tA), .ref qtw, .ref qtn, .ref qtg, .ref qta, .ref qtr, .ref qtm, .ref qtt, .ref qts], zzI cy qtw 8 (T_wo tA), zzI cy qtn 8 (T_ne tA), zzI cy qtg 8 (T_go tA), zzI cy qta 8 (T_ag tA), zzI cy qtr 8 (T_re tA), zzI cy qtm 8 (T_me tA), zzI cy qtt 8 (T_te tA), zzI cy qts 64 (shF (T_kn tA))] sz [.ref qx, .int iA, .int iB] (Wi G (fun r u => ∃ (fX : Nat → Int32), u = [zzO qx 4 [.ref qt, .ref qk, .ref qp, .ref qs, .ref qa, .ref qr, .int iKp, .int iYe, .int iTv], zzI cy qr 5 fX, zzO qt 3 [.int (nI (T_nb tA)), .int (nI (T_np tA)), .int (wb (T_wh tA)), .int (wb (T_gn tA)), .int (T_sd tA), .ref qtw, .ref qtn, .ref qtg, .ref qta, .ref qtr, .ref qtm, .ref qtt, .ref qts], zzI cy qtw 8 (T_wo tA), zzI cy qtn 8 (T_ne tA), zzI cy qtg 8 (T_go tA), zzI cy qta 8 (T_ag tA), zzI cy qtr 8 (T_re tA), zzI cy qtm 8 (T_me tA), zzI cy qtt 8 (T_te tA), zzI cy qts 64 (shF (T_kn tA))] ∧ (True))) := by
  refine enW RX5 (by decide +kernel) rfl (Nat.le_of_ble_eq_true rfl) (fun p e s m below meth c ls A hx hb hml hown hts hr hlocks hP hN hl hin hD hA hS => ?_)
  have hin : meth.name = _ := hin
  have hK := hN.1
  replace hl : lv_has ls 3 [(0, .ref qx), (1, .int iA), (2, .int iB)] := hl
  refine lv_aload_n hx hb (g_42 bX5_needs rfl) rfl (lv_at hl 0 rfl) ?_
  refine va_get (D := G) (ci := 4) (v := .ref qt) (C := RX5) (T := TX5) (N := 9) hx hb hts iX_X5 hown hK hP 0 rfl rfl 0 (by decide +kernel) (hts _ m_t174) (fun _ h9 => h9) rfl (g_180 (v := 10) bX5_needs rfl) ?_
  refine lv_iload_n hx hb (g_27 bX5_needs rfl) rfl (lv_at hl 1 rfl) ?_
  refine kRi (rV (As := [.int iA]) (rest := []) (b := qt) ⟨hx, hb, hml, hown, hts⟩ (c_X4_isBook l G cy qt tA qtw qtn qtg qta qtr qtm qtt qts iA hB) L_X5_168 (preRV (q := (RX4, TX4, 13)) hN hP [2] rfl 2 3 rfl rfl) rfl ⟨Nat.le_of_ble_eq_true rfl, Nat.le_of_ble_eq_true rfl⟩ hl.1 (Nat.le_of_ble_eq_true rfl) (g_182 (v := 168) bX5_needs rfl) ⟨Nat.le_of_ble_eq_true rfl, Nat.le_of_ble_eq_true rfl⟩) (fun r_1 h_2 => ?_)
  rcases h_2 with ⟨rfl, h_3⟩ | ⟨rfl, h_3⟩
  · obtain ⟨k_4, hk_5, rfl⟩ := h_3
    refine lv_if_ne (tgt := 18) hx hb dX5_needs_8 (by decide +kernel) (fun _ => ?_) (fun h9 => absurd h9 (by decide +kernel))
    refine lv_iload_n hx hb (g_28 bX5_needs rfl) rfl (lv_at hl 2 rfl) ?_
    refine lv_if_eq (tgt := 33) hx hb dX5_needs_19 (by decide +kernel) (fun c_7 => ?_) (fun c_7 => ?_)
    · refine lv_aload_n hx hb (g_42 bX5_needs rfl) rfl (lv_at hl 0 rfl) ?_
      refine va_get (D := G) (ci := 4) (v := .ref qt) (C := RX5) (T := TX5) (N := 9) hx hb hts iX_X5 hown hK hP 0 rfl rfl 0 (by decide +kernel) (hts _ m_t174) (fun _ h9 => h9) rfl (g_180 (v := 10) bX5_needs rfl) ?_
      refine lv_iload_n hx hb (g_27 bX5_needs rfl) rfl (lv_at hl 1 rfl) ?_
      refine kRi (rV (As := [.int (nI k_4)]) (rest := []) (b := qt) ⟨hx, hb, hml, hown, hts⟩ (c_X4_allNeededBy l G cy qt tA qtw qtn qtg qta qtr qtm qtt qts k_4 (by first | omega | (simp only [nb_sr, np_sr, nb_wr, np_wr, nb_rd, np_rd, nb_ch, np_ch, nb_zr, np_zr, nb_za, np_za, nb_ey, np_ey, nb_hf, np_hf, nb_dd, np_dd, nb_so, np_so, nb_skn, np_skn, nb_swh, np_swh, nb_sgn, np_sgn, nb_ssd, np_ssd, nb_sgo, np_sgo, nb_sag, np_sag]; omega))) L_X5_312 (preRV (q := (RX4, TX4, 13)) hN hP (trueIx 0 [false, false, true, true, true, true, true, true, true, true, true]) (sel_fm rfl rfl) 2 3 rfl rfl) rfl ⟨Nat.le_of_ble_eq_true rfl, Nat.le_of_ble_eq_true rfl⟩ hl.1 (Nat.le_of_ble_eq_true rfl) (g_182 (v := 312) bX5_needs rfl) ⟨Nat.le_of_ble_eq_true rfl, Nat.le_of_ble_eq_true rfl⟩) (fun r_8 h_9 => ?_)
      subst h_9
      exact endWs [[true, true, true, true, true, true, true, true, true, true, true]] hx hb hr hlocks rfl hP hD rfl (by decide +kernel) hS ⟨fR, rfl, trivial⟩ (g_172 bX5_needs rfl)
    · refine lv_aload_n hx hb (g_42 bX5_needs rfl) rfl (lv_at hl 0 rfl) ?_
      refine va_get (D := G) (ci := 4) (v := .ref qt) (C := RX5) (T := TX5) (N := 9) hx hb hts iX_X5 hown hK hP 0 rfl rfl 0 (by decide +kernel) (hts _ m_t174) (fun _ h9 => h9) rfl (g_180 (v := 10) bX5_needs rfl) ?_
      refine lv_iload_n hx hb (g_27 bX5_needs rfl) rfl (lv_at hl 1 rfl) ?_
      refine kRi (rV (As := [.int (nI k_4)]) (rest := []) (b := qt) ⟨hx, hb, hml, hown, hts⟩ (c_X4_allThatNeed l G cy qt tA qtw qtn qtg qta qtr qtm qtt qts k_4 hB (by first | omega | (simp only [nb_sr, np_sr, nb_wr, np_wr, nb_rd, np_rd, nb_ch, np_ch, nb_zr, np_zr, nb_za, np_za, nb_ey, np_ey, nb_hf, np_hf, nb_dd, np_dd, nb_so, np_so, nb_skn, np_skn, nb_swh, np_swh, nb_sgn, np_sgn, nb_ssd, np_ssd, nb_sgo, np_sgo, nb_sag, np_sag]; omega))) L_X5_309 (preRV (q := (RX4, TX4, 13)) hN hP (trueIx 0 [false, false, true, true, true, true, true, true, true, true, true]) (sel_fm rfl rfl) 2 3 rfl rfl) rfl ⟨Nat.le_of_ble_eq_true rfl, Nat.le_of_ble_eq_true rfl⟩ hl.1 (Nat.le_of_ble_eq_true rfl) (g_182 (v := 309) bX5_needs rfl) ⟨Nat.le_of_ble_eq_true rfl, Nat.le_of_ble_eq_true rfl⟩) (fun r_10 h_11 => ?_)
      subst h_11
      refine lv_goto (tgt := 41) hx hb dX5_needs_30 (by decide +kernel) ?_
      exact endWs [[true, true, true, true, true, true, true, true, true, true, true]] hx hb hr hlocks rfl hP hD rfl (by decide +kernel) hS ⟨fR, rfl, trivial⟩ (g_172 bX5_needs rfl)
  · refine lv_if_ne (tgt := 18) hx hb dX5_needs_8 (by decide +kernel) (fun h9 => absurd (by decide +kernel) h9) (fun _ => ?_)
    refine lv_aload_n hx hb (g_42 bX5_needs rfl) rfl (lv_at hl 0 rfl) ?_
    refine lv_bipush (v := (-2)) hx hb dX5_needs_12 (by decide +kernel) ?_
    refine cVi (As := [.int (-2)]) (rest := []) (b := qx) (q := (RX5, TX5, 9)) ⟨hx, hb, hml, hown, hts⟩ (c_X5_refuse2 l G cy (s.heap).size qx qt qk qp qs qa qr iKp iYe iTv fR) L_X5_56 hN hP hD hS hA [0, 1] [false, false, true, true, true, true, true, true, true, true, true] rfl (by decide +kernel) rfl 0 4 rfl rfl rfl ⟨Nat.le_of_ble_eq_true rfl, Nat.le_of_ble_eq_true rfl⟩ hl.1 (Nat.le_of_ble_eq_true rfl) (g_182 (v := 56) bX5_needs rfl) ⟨Nat.le_of_ble_eq_true rfl, Nat.le_of_ble_eq_true rfl⟩ (fun r_13 u_15 H locs h_14 => ?_)
    clear hP hD hS
    intro hP hD hS
    obtain ⟨fX_16, hu9, h_14⟩ := h_14
    have hPD := pd_eq [_, _, _, _, _, _, _, _, _, _, zzI cy qr 5 fX_16] hP hD hu9 rfl
    clear hP hD hu9
    obtain ⟨hP, hD⟩ := hPD
    subst h_14
    exact endWs [[false, false, false, false, false, false, false, false, false, true, true], [true, true, true, true, true, true, true, true, true]] hx hb hr hlocks rfl hP hD rfl (by decide +kernel) hS ⟨fX_16, rfl, trivial⟩ (g_172 bX5_needs rfl)
set_option maxHeartbeats 4000000 in
set_option maxRecDepth 100000 in
theorem p_X5_next (l : Launch) (G : va_G) (cy : Nat → ClassId) (qx : Nat) (qt : Nat) (qk : Nat) (qp : Nat) (qs : Nat) (qa : Nat) (qr : Nat) (iKp : Int32) (iYe : Int32) (iTv : Int32) (tA : TA) (qtw : Nat) (qtn : Nat) (qtg : Nat) (qta : Nat) (qtr : Nat) (qtm : Nat) (qtt : Nat) (qts : Nat)  (hB : T_nb tA ≤ 8) (hPp : T_np tA ≤ 8) : MR l yX5_next cX5_next 5 (some .int) 12 G cy [zzO qx 4 [.ref qt, .ref qk, .ref qp, .ref qs, .ref qa, .ref qr, .int iKp, .int iYe, .int iTv], zzO qt 3 [.int (nI (T_nb tA)), .int (nI (T_np tA)), .int (wb (T_wh tA)), .int (wb (T_gn tA)), .int (T_sd tA), .ref qtw, .ref qtn, .ref qtg, .ref qta, .ref qtr, .ref qtm, .ref qtt, .ref qts], zzI cy qtw 8 (T_wo tA), zzI cy qtn 8 (T_ne tA), zzI cy qtg 8 (T_go tA), zzI cy qta 8 (T_ag tA), zzI cy qtr 8 (T_re tA), zzI cy qtm 8 (T_me tA), zzI cy qtt 8 (T_te tA), zzI cy qts 64 (shF (T_kn tA))] [.ref qx] (vp_Si (fun r => True)) := by
  refine enR RX5 (by decide +kernel) rfl (Nat.le_of_ble_eq_true rfl) (fun p e s m below meth c ls hx hb hml hown hts hr hlocks hP hN hl => ?_)
  have hK := hN.1
  replace hl : lv_has ls 5 [(0, .ref qx)] := hl
  refine lv_iconst (v := (-1)) hx hb (g_2 bX5_next rfl) (by decide +kernel) ?_
  refine lv_istore_n (lv' := [(1, .int (-1)), (0, .ref qx)]) hx hb (g_60 bX5_next rfl) rfl hl (by decide +kernel) rfl (fun ls => ?_)
  clear hl
  intro hl
  refine lv_iconst (v := 0) hx hb (g_3 bX5_next rfl) (by decide +kernel) ?_
  refine lv_istore_n (lv' := [(2, .int 0), (1, .int (-1)), (0, .ref qx)]) hx hb (g_61 bX5_next rfl) rfl hl (by decide +kernel) rfl (fun ls => ?_)
  clear hl
  intro hl
  refine lv_iconst (v := 0) hx hb (g_3 bX5_next rfl) (by decide +kernel) ?_
  refine lv_istore_n (lv' := [(3, .int 0), (2, .int 0), (1, .int (-1)), (0, .ref qx)]) hx hb (g_62 bX5_next rfl) rfl hl (by decide +kernel) rfl (fun ls => ?_)
  clear hl
  intro hl
  have lp_1 : ∀ (n_2 : Nat) (j_4 : Nat) (x1_5 : Int32) (x2_6 : Int32), 8 - j_4 < n_2 → j_4 ≤ T_nb tA → ∀ (ls : Array Slot), lv_has ls 5 [(3, .int (nI j_4)), (2, .int x2_6), (1, .int x1_5), (0, .ref qx)] → W p l e (Rm 12 0 0) s m (List.toArray (α := Value) [.ref qx]) below meth c s.heap [] 0 0 (MQ below (vp_Si (fun r => True)) (List.toArray (α := Value) [.ref qx]) s 0 0 (fun _ => False)) (F0 m 6 ls []) := by
    intro n_2
    induction n_2 with
    | zero => intro j_4 x1_5 x2_6 hm9; exact absurd hm9 (Nat.not_lt_zero _)
    | succ n_2 ih_3 =>
      intro j_4 x1_5 x2_6 hm_8 hj_7 ls hl
      refine lv_iload_n hx hb (g_29 bX5_next rfl) rfl (lv_at hl 0 rfl) ?_
      refine lv_aload_n hx hb (g_42 bX5_next rfl) rfl (lv_at hl 3 rfl) ?_
      refine va_get (D := G) (ci := 4) (v := .ref qt) (C := RX5) (T := TX5) (N := 9) hx hb hts iX_X5 hown hK hP 0 rfl rfl 0 (by decide +kernel) (hts _ m_t174) (fun _ h9 => h9) rfl (g_180 (v := 10) bX5_next rfl) ?_
      refine va_getN (D := G) (ci := 3) (v := .int (nI (T_nb tA))) (C := RX4) (T := TX4) (N := 13) hx hb hts iX_X4 hown hK hP 1 rfl rfl 0 (by decide +kernel) (va_Nw.use rfl (hN.2.1 (RX5, 127, "EachBookOnce$Town", "books", "I") (List.mem_of_getElem? (i := 3) rfl))) (fun _ h9 => h9) rfl (g_180 (v := 127) bX5_next rfl) ?_
      refine lv_icmp_ge (tgt := 62) hx hb dX5_next_14 (by decide +kernel) (fun c_9 => ?_) (fun c_9 => ?_)
      · have hlt_10 : j_4 = T_nb tA := Nat.le_antisymm (by omega) (lp_ge rfl rfl (by omega) (by omega) c_9)
        refine lv_iload_n hx hb (g_27 bX5_next rfl) rfl (lv_at hl 2 rfl) ?_
        exact endR hx hb hr hlocks rfl trivial (g_172 bX5_next rfl)
      · have hlt_11 : j_4 < T_nb tA := lp_lt rfl rfl (by omega) (by omega) c_9
        refine lv_aload_n hx hb (g_42 bX5_next rfl) rfl (lv_at hl 3 rfl) ?_
        refine va_get (D := G) (ci := 4) (v := .ref qt) (C := RX5) (T := TX5) (N := 9) hx hb hts iX_X5 hown hK hP 0 rfl rfl 0 (by decide +kernel) (hts _ m_t174) (fun _ h9 => h9) rfl (g_180 (v := 10) bX5_next rfl) ?_
        refine va_getN (D := G) (ci := 3) (v := .int (wb (T_wh tA))) (C := RX4) (T := TX4) (N := 13) hx hb hts iX_X4 hown hK hP 1 rfl rfl 2 (by decide +kernel) (va_Nw.use rfl (hN.2.1 (RX5, 180, "EachBookOnce$Town", "white", "I") (List.mem_of_getElem? (i := 10) rfl))) (fun _ h9 => h9) rfl (g_180 (v := 180) bX5_next rfl) ?_
        refine lv_iload_n hx hb (g_29 bX5_next rfl) rfl (lv_at hl 0 rfl) ?_
        refine kRi (rS (As := [.int (wb (T_wh tA)), .int (nI j_4)]) (rest := []) ⟨hx, hb, hml, hown, hts⟩ (c_X5_has l G cy (wb (T_wh tA)) j_4) L_X5_183 (preRS hN hP [] rfl) rfl ⟨Nat.le_of_ble_eq_true rfl, Nat.le_of_ble_eq_true rfl⟩ hl.1 (Nat.le_of_ble_eq_true rfl) (g_184 (v := 183) bX5_next rfl) ⟨Nat.le_of_ble_eq_true rfl, Nat.le_of_ble_eq_true rfl⟩) (fun r_12 h_13 => ?_)
        rcases h_13 with ⟨rfl, h_14⟩ | ⟨rfl, h_14⟩
        · rw [bit_wb _ (by omega)] at h_14
          refine lv_if_eq (tgt := 35) hx hb dX5_next_28 (by decide +kernel) (fun h9 => absurd h9 (by decide +kernel)) (fun _ => ?_)
          refine lv_iconst (v := 0) hx hb (g_3 bX5_next rfl) (by decide +kernel) ?_
          refine lv_goto (tgt := 43) hx hb dX5_next_32 (by decide +kernel) ?_
          refine lv_istore (lv' := [(4, .int 0), (3, .int (nI j_4)), (2, .int x2_6), (1, .int x1_5), (0, .ref qx)]) hx hb (g_54 (v := 4) bX5_next rfl) hl (by decide +kernel) rfl (fun ls => ?_)
          clear hl
          intro hl
          refine lv_iload hx hb (g_21 (v := 4) bX5_next rfl) (lv_at hl 0 rfl) ?_
          refine lv_iload_n hx hb (g_28 bX5_next rfl) rfl (lv_at hl 2 rfl) ?_
          refine lv_icmp_le (tgt := 56) hx hb dX5_next_48 (by decide +kernel) (fun c_16 => ?_) (fun c_16 => ?_)
          · refine lv_iinc (v := nI (j_4 + 1)) (lv' := [(3, .int (nI (j_4 + 1))), (4, .int 0), (2, .int x2_6), (1, .int x1_5), (0, .ref qx)]) hx hb dX5_next_56 hl (k := 1) rfl (nI_1 _) (by decide +kernel) rfl (fun ls => ?_)
            clear hl
            intro hl
            refine lv_goto (tgt := 6) hx hb dX5_next_59 (by decide +kernel) ?_
            exact ih_3 (j_4 + 1) x1_5 x2_6 (by omega) (by omega) _ (lv_sub hl [0, 2, 3, 4] rfl)
          · refine lv_iload_n hx hb (g_29 bX5_next rfl) rfl (lv_at hl 1 rfl) ?_
            refine lv_istore_n (lv' := [(1, .int (nI j_4)), (4, .int 0), (3, .int (nI j_4)), (2, .int x2_6), (0, .ref qx)]) hx hb (g_60 bX5_next rfl) rfl hl (by decide +kernel) rfl (fun ls => ?_)
            clear hl
            intro hl
            refine lv_iload hx hb (g_21 (v := 4) bX5_next rfl) (lv_at hl 1 rfl) ?_
            refine lv_istore_n (lv' := [(2, .int 0), (1, .int (nI j_4)), (4, .int 0), (3, .int (nI j_4)), (0, .ref qx)]) hx hb (g_61 bX5_next rfl) rfl hl (by decide +kernel) rfl (fun ls => ?_)
            clear hl
            intro hl
            refine lv_iinc (v := nI (j_4 + 1)) (lv' := [(3, .int (nI (j_4 + 1))), (2, .int 0), (1, .int (nI j_4)), (4, .int 0), (0, .ref qx)]) hx hb dX5_next_56 hl (k := 3) rfl (nI_1 _) (by decide +kernel) rfl (fun ls => ?_)
            clear hl
            intro hl
            refine lv_goto (tgt := 6) hx hb dX5_next_59 (by decide +kernel) ?_
            exact ih_3 (j_4 + 1) (nI j_4) 0 (by omega) (by omega) _ (lv_sub hl [0, 1, 2, 4] rfl)
        · rw [bit_wb _ (by omega)] at h_14
          refine lv_if_eq (tgt := 35) hx hb dX5_next_28 (by decide +kernel) (fun _ => ?_) (fun h9 => absurd (by decide +kernel) h9)
          refine lv_aload_n hx hb (g_42 bX5_next rfl) rfl (lv_at hl 3 rfl) ?_
          refine va_get (D := G) (ci := 4) (v := .ref qt) (C := RX5) (T := TX5) (N := 9) hx hb hts iX_X5 hown hK hP 0 rfl rfl 0 (by decide +kernel) (hts _ m_t174) (fun _ h9 => h9) rfl (g_180 (v := 10) bX5_next rfl) ?_
          refine lv_iload_n hx hb (g_29 bX5_next rfl) rfl (lv_at hl 0 rfl) ?_
          refine kRi (rV (As := [.int (nI j_4)]) (rest := []) (b := qt) ⟨hx, hb, hml, hown, hts⟩ (c_X4_gainByReading l G cy qt tA qtw qtn qtg qta qtr qtm qtt qts j_4 hPp (by first | omega | (simp only [nb_sr, np_sr, nb_wr, np_wr, nb_rd, np_rd, nb_ch, np_ch, nb_zr, np_zr, nb_za, np_za, nb_ey, np_ey, nb_hf, np_hf, nb_dd, np_dd, nb_so, np_so, nb_skn, np_skn, nb_swh, np_swh, nb_sgn, np_sgn, nb_ssd, np_ssd, nb_sgo, np_sgo, nb_sag, np_sag]; omega))) L_X5_315 (preRV (q := (RX4, TX4, 13)) hN hP (trueIx 0 [false, true, true, true, true, true, true, true, true, true]) (sel_fm rfl rfl) 1 3 rfl rfl) rfl ⟨Nat.le_of_ble_eq_true rfl, Nat.le_of_ble_eq_true rfl⟩ hl.1 (Nat.le_of_ble_eq_true rfl) (g_182 (v := 315) bX5_next rfl) ⟨Nat.le_of_ble_eq_true rfl, Nat.le_of_ble_eq_true rfl⟩) (fun r_18 h_19 => ?_)
          subst h_19
          refine lv_istore (lv' := [(4, .int (zgb tA j_4)), (3, .int (nI j_4)), (2, .int x2_6), (1, .int x1_5), (0, .ref qx)]) hx hb (g_54 (v := 4) bX5_next rfl) hl (by decide +kernel) rfl (fun ls => ?_)
          clear hl
          intro hl
          refine lv_iload hx hb (g_21 (v := 4) bX5_next rfl) (lv_at hl 0 rfl) ?_
          refine lv_iload_n hx hb (g_28 bX5_next rfl) rfl (lv_at hl 2 rfl) ?_
          refine lv_icmp_le (tgt := 56) hx hb dX5_next_48 (by decide +kernel) (fun c_20 => ?_) (fun c_20 => ?_)
          · refine lv_iinc (v := nI (j_4 + 1)) (lv' := [(3, .int (nI (j_4 + 1))), (4, .int (zgb tA j_4)), (2, .int x2_6), (1, .int x1_5), (0, .ref qx)]) hx hb dX5_next_56 hl (k := 1) rfl (nI_1 _) (by decide +kernel) rfl (fun ls => ?_)
            clear hl
            intro hl
            refine lv_goto (tgt := 6) hx hb dX5_next_59 (by decide +kernel) ?_
            exact ih_3 (j_4 + 1) x1_5 x2_6 (by omega) (by omega) _ (lv_sub hl [0, 2, 3, 4] rfl)
          · refine lv_iload_n hx hb (g_29 bX5_next rfl) rfl (lv_at hl 1 rfl) ?_
            refine lv_istore_n (lv' := [(1, .int (nI j_4)), (4, .int (zgb tA j_4)), (3, .int (nI j_4)), (2, .int x2_6), (0, .ref qx)]) hx hb (g_60 bX5_next rfl) rfl hl (by decide +kernel) rfl (fun ls => ?_)
            clear hl
            intro hl
            refine lv_iload hx hb (g_21 (v := 4) bX5_next rfl) (lv_at hl 1 rfl) ?_
            refine lv_istore_n (lv' := [(2, .int (zgb tA j_4)), (1, .int (nI j_4)), (4, .int (zgb tA j_4)), (3, .int (nI j_4)), (0, .ref qx)]) hx hb (g_61 bX5_next rfl) rfl hl (by decide +kernel) rfl (fun ls => ?_)
            clear hl
            intro hl
            refine lv_iinc (v := nI (j_4 + 1)) (lv' := [(3, .int (nI (j_4 + 1))), (2, .int (zgb tA j_4)), (1, .int (nI j_4)), (4, .int (zgb tA j_4)), (0, .ref qx)]) hx hb dX5_next_56 hl (k := 3) rfl (nI_1 _) (by decide +kernel) rfl (fun ls => ?_)
            clear hl
            intro hl
            refine lv_goto (tgt := 6) hx hb dX5_next_59 (by decide +kernel) ?_
            exact ih_3 (j_4 + 1) (nI j_4) (zgb tA j_4) (by omega) (by omega) _ (lv_sub hl [0, 1, 2, 4] rfl)
  exact lp_1 ((8 - 0) + 1) 0 (-1) 0 (Nat.lt_succ_self _) (Nat.zero_le _) ls (lv_sub hl [0, 1, 2, 3] rfl)
set_option maxHeartbeats 4000000 in
set_option maxRecDepth 100000 in
theorem p_X5_two (l : Launch) (G : va_G) (cy : Nat → ClassId) (sz : Nat) (qx : Nat) (qt : Nat) (qk : Nat) (qp : Nat) (qs : Nat) (qa : Nat) (qr : Nat) (iKp : Int32) (iYe : Int32) (iTv : Int32) (fR : Nat → Int32) (tA : TA) (qtw : Nat) (qtn : Nat) (qtg : Nat) (qta : Nat) (qtr : Nat) (qtm : Nat) (qtt : Nat) (qts : Nat) (iA : Int32) (iB : Int32)  (hB : T_nb tA ≤ 8) (hPp : T_np tA ≤ 8) : MW l yX5_two cX5_two 3 (some .int) 12 0 0 G cy [zzO qx 4 [.ref qt, .ref qk, .ref qp, .ref qs, .ref qa, .ref qr, .int iKp, .int iYe, .int iTv], zzI cy qr 5 fR, zzO qt 3 [.int (nI (T_nb tA)), .int (nI (T_np tA)), .int (wb (T_wh tA)), .int (wb (T_gn tA)), .int (T_sd tA), .ref qtw, .ref qtn, .ref qtg, .ref qta, .ref qtr, .ref qtm, .ref qtt, .ref qts], zzI cy qtw 8 (T_wo tA), zzI cy qtn 8 (T_ne tA), zzI cy qtg 8 (T_go tA), zzI cy qta 8 (T_ag tA), zzI cy qtr 8 (T_re tA), zzI cy qtm 8 (T_me tA), zzI cy qtt 8 (T_te tA), zzI cy qts 64 (shF (T_kn tA))] sz [.ref qx, .int iA, .int iB] (Wi G (fun r u => ∃ (fX : Nat → Int32), u = [zzO qx 4 [.ref qt, .ref qk, .ref qp, .ref qs, .ref qa, .ref qr, .int iKp, .int iYe, .int iTv], zzI cy qr 5 fX, zzO qt 3 [.int (nI (T_nb tA)), .int (nI (T_np tA)), .int (wb (T_wh tA)), .int (wb (T_gn tA)), .int (T_sd tA), .ref qtw, .ref qtn, .ref qtg, .ref qta, .ref qtr, .ref qtm, .ref qtt, .ref qts], zzI cy qtw 8 (T_wo tA), zzI cy qtn 8 (T_ne tA), zzI cy qtg 8 (T_go tA), zzI cy qta 8 (T_ag tA), zzI cy qtr 8 (T_re tA), zzI cy qtm 8 (T_me tA), zzI cy qtt 8 (T_te tA), zzI cy qts 64 (shF (T_kn tA))] ∧ (True))) := by
  refine enW RX5 (by decide +kernel) rfl (Nat.le_of_ble_eq_true rfl) (fun p e s m below meth c ls A hx hb hml hown hts hr hlocks hP hN hl hin hD hA hS => ?_)
  have hin : meth.name = _ := hin
  have hK := hN.1
  replace hl : lv_has ls 3 [(0, .ref qx), (1, .int iA), (2, .int iB)] := hl
  refine lv_aload_n hx hb (g_42 bX5_two rfl) rfl (lv_at hl 0 rfl) ?_
  refine va_get (D := G) (ci := 4) (v := .ref qt) (C := RX5) (T := TX5) (N := 9) hx hb hts iX_X5 hown hK hP 0 rfl rfl 0 (by decide +kernel) (hts _ m_t174) (fun _ h9 => h9) rfl (g_180 (v := 10) bX5_two rfl) ?_
  refine lv_iload_n hx hb (g_27 bX5_two rfl) rfl (lv_at hl 1 rfl) ?_
  refine kRi (rV (As := [.int iA]) (rest := []) (b := qt) ⟨hx, hb, hml, hown, hts⟩ (c_X4_isOne l G cy qt tA qtw qtn qtg qta qtr qtm qtt qts iA hPp) L_X5_192 (preRV (q := (RX4, TX4, 13)) hN hP [2] rfl 2 3 rfl rfl) rfl ⟨Nat.le_of_ble_eq_true rfl, Nat.le_of_ble_eq_true rfl⟩ hl.1 (Nat.le_of_ble_eq_true rfl) (g_182 (v := 192) bX5_two rfl) ⟨Nat.le_of_ble_eq_true rfl, Nat.le_of_ble_eq_true rfl⟩) (fun r_1 h_2 => ?_)
  rcases h_2 with ⟨rfl, h_3⟩ | ⟨rfl, h_3⟩
  · obtain ⟨k_4, hk_5, rfl⟩ := h_3
    refine lv_if_eq (tgt := 22) hx hb dX5_two_8 (by decide +kernel) (fun h9 => absurd h9 (by decide +kernel)) (fun _ => ?_)
    refine lv_aload_n hx hb (g_42 bX5_two rfl) rfl (lv_at hl 0 rfl) ?_
    refine va_get (D := G) (ci := 4) (v := .ref qt) (C := RX5) (T := TX5) (N := 9) hx hb hts iX_X5 hown hK hP 0 rfl rfl 0 (by decide +kernel) (hts _ m_t174) (fun _ h9 => h9) rfl (g_180 (v := 10) bX5_two rfl) ?_
    refine lv_iload_n hx hb (g_28 bX5_two rfl) rfl (lv_at hl 2 rfl) ?_
    refine kRi (rV (As := [.int iB]) (rest := []) (b := qt) ⟨hx, hb, hml, hown, hts⟩ (c_X4_isOne l G cy qt tA qtw qtn qtg qta qtr qtm qtt qts iB hPp) L_X5_192 (preRV (q := (RX4, TX4, 13)) hN hP [2] rfl 2 3 rfl rfl) rfl ⟨Nat.le_of_ble_eq_true rfl, Nat.le_of_ble_eq_true rfl⟩ hl.1 (Nat.le_of_ble_eq_true rfl) (g_182 (v := 192) bX5_two rfl) ⟨Nat.le_of_ble_eq_true rfl, Nat.le_of_ble_eq_true rfl⟩) (fun r_7 h_8 => ?_)
    rcases h_8 with ⟨rfl, h_9⟩ | ⟨rfl, h_9⟩
    · obtain ⟨k_10, hk_11, rfl⟩ := h_9
      refine lv_if_ne (tgt := 29) hx hb dX5_two_19 (by decide +kernel) (fun _ => ?_) (fun h9 => absurd h9 (by decide +kernel))
      refine lv_aload_n hx hb (g_42 bX5_two rfl) rfl (lv_at hl 0 rfl) ?_
      refine va_get (D := G) (ci := 4) (v := .ref qt) (C := RX5) (T := TX5) (N := 9) hx hb hts iX_X5 hown hK hP 0 rfl rfl 0 (by decide +kernel) (hts _ m_t174) (fun _ h9 => h9) rfl (g_180 (v := 10) bX5_two rfl) ?_
      refine lv_aload_n hx hb (g_42 bX5_two rfl) rfl (lv_at hl 0 rfl) ?_
      refine va_get (D := G) (ci := 4) (v := .ref qt) (C := RX5) (T := TX5) (N := 9) hx hb hts iX_X5 hown hK hP 0 rfl rfl 0 (by decide +kernel) (hts _ m_t174) (fun _ h9 => h9) rfl (g_180 (v := 10) bX5_two rfl) ?_
      refine kRi (rV (As := []) (rest := [.ref qt]) (b := qt) ⟨hx, hb, hml, hown, hts⟩ (c_X4_setThere l G cy qt tA qtw qtn qtg qta qtr qtm qtt qts hPp) L_X5_269 (preRV (q := (RX4, TX4, 13)) hN hP [2] rfl 2 3 rfl rfl) rfl ⟨Nat.le_of_ble_eq_true rfl, Nat.le_of_ble_eq_true rfl⟩ hl.1 (Nat.le_of_ble_eq_true rfl) (g_182 (v := 269) bX5_two rfl) ⟨Nat.le_of_ble_eq_true rfl, Nat.le_of_ble_eq_true rfl⟩) (fun r_13 h_14 => ?_)
      subst h_14
      refine lv_iconst (v := 1) hx hb (g_4 bX5_two rfl) (by decide +kernel) ?_
      refine lv_iload_n hx hb (g_27 bX5_two rfl) rfl (lv_at hl 1 rfl) ?_
      refine lv_ishl hx hb (g_120 bX5_two rfl) ?_
      refine lv_iconst (v := 1) hx hb (g_4 bX5_two rfl) (by decide +kernel) ?_
      refine lv_iload_n hx hb (g_28 bX5_two rfl) rfl (lv_at hl 2 rfl) ?_
      refine lv_ishl hx hb (g_120 bX5_two rfl) ?_
      refine lv_ior hx hb (g_128 bX5_two rfl) ?_
      refine lv_iand hx hb (g_126 bX5_two rfl) ?_
      refine kRi (rV (As := [.int ((zthere tA) &&& ((1 <<< ((nI k_4) &&& 31)) ||| (1 <<< ((nI k_10) &&& 31))))]) (rest := []) (b := qt) ⟨hx, hb, hml, hown, hts⟩ (c_X4_worthAmong l G cy qt tA qtw qtn qtg qta qtr qtm qtt qts ((zthere tA) &&& ((1 <<< ((nI k_4) &&& 31)) ||| (1 <<< ((nI k_10) &&& 31)))) hB hPp) L_X5_300 (preRV (q := (RX4, TX4, 13)) hN hP (trueIx 0 [false, false, true, true, false, false, false, false, false, false, true]) (sel_fm rfl rfl) 2 3 rfl rfl) rfl ⟨Nat.le_of_ble_eq_true rfl, Nat.le_of_ble_eq_true rfl⟩ hl.1 (Nat.le_of_ble_eq_true rfl) (g_182 (v := 300) bX5_two rfl) ⟨Nat.le_of_ble_eq_true rfl, Nat.le_of_ble_eq_true rfl⟩) (fun r_15 h_16 => ?_)
      subst h_16
      exact endWs [[true, true, true, true, true, true, true, true, true, true, true]] hx hb hr hlocks rfl hP hD rfl (by decide +kernel) hS ⟨fR, rfl, trivial⟩ (g_172 bX5_two rfl)
    · refine lv_if_ne (tgt := 29) hx hb dX5_two_19 (by decide +kernel) (fun h9 => absurd (by decide +kernel) h9) (fun _ => ?_)
      refine lv_aload_n hx hb (g_42 bX5_two rfl) rfl (lv_at hl 0 rfl) ?_
      refine lv_bipush (v := (-2)) hx hb dX5_two_23 (by decide +kernel) ?_
      refine cVi (As := [.int (-2)]) (rest := []) (b := qx) (q := (RX5, TX5, 9)) ⟨hx, hb, hml, hown, hts⟩ (c_X5_refuse2 l G cy (s.heap).size qx qt qk qp qs qa qr iKp iYe iTv fR) L_X5_56 hN hP hD hS hA [0, 1] [false, false, true, true, true, true, true, true, true, true, true] rfl (by decide +kernel) rfl 0 4 rfl rfl rfl ⟨Nat.le_of_ble_eq_true rfl, Nat.le_of_ble_eq_true rfl⟩ hl.1 (Nat.le_of_ble_eq_true rfl) (g_182 (v := 56) bX5_two rfl) ⟨Nat.le_of_ble_eq_true rfl, Nat.le_of_ble_eq_true rfl⟩ (fun r_18 u_20 H locs h_19 => ?_)
      clear hP hD hS
      intro hP hD hS
      obtain ⟨fX_21, hu9, h_19⟩ := h_19
      have hPD := pd_eq [_, _, _, _, _, _, _, _, _, _, zzI cy qr 5 fX_21] hP hD hu9 rfl
      clear hP hD hu9
      obtain ⟨hP, hD⟩ := hPD
      subst h_19
      exact endWs [[false, false, false, false, false, false, false, false, false, true, true], [true, true, true, true, true, true, true, true, true]] hx hb hr hlocks rfl hP hD rfl (by decide +kernel) hS ⟨fX_21, rfl, trivial⟩ (g_172 bX5_two rfl)
  · refine lv_if_eq (tgt := 22) hx hb dX5_two_8 (by decide +kernel) (fun _ => ?_) (fun h9 => absurd (by decide +kernel) h9)
    refine lv_aload_n hx hb (g_42 bX5_two rfl) rfl (lv_at hl 0 rfl) ?_
    refine lv_bipush (v := (-2)) hx hb dX5_two_23 (by decide +kernel) ?_
    refine cVi (As := [.int (-2)]) (rest := []) (b := qx) (q := (RX5, TX5, 9)) ⟨hx, hb, hml, hown, hts⟩ (c_X5_refuse2 l G cy (s.heap).size qx qt qk qp qs qa qr iKp iYe iTv fR) L_X5_56 hN hP hD hS hA [0, 1] [false, false, true, true, true, true, true, true, true, true, true] rfl (by decide +kernel) rfl 0 4 rfl rfl rfl ⟨Nat.le_of_ble_eq_true rfl, Nat.le_of_ble_eq_true rfl⟩ hl.1 (Nat.le_of_ble_eq_true rfl) (g_182 (v := 56) bX5_two rfl) ⟨Nat.le_of_ble_eq_true rfl, Nat.le_of_ble_eq_true rfl⟩ (fun r_23 u_25 H locs h_24 => ?_)
    clear hP hD hS
    intro hP hD hS
    obtain ⟨fX_26, hu9, h_24⟩ := h_24
    have hPD := pd_eq [_, _, _, _, _, _, _, _, _, _, zzI cy qr 5 fX_26] hP hD hu9 rfl
    clear hP hD hu9
    obtain ⟨hP, hD⟩ := hPD
    subst h_24
    exact endWs [[false, false, false, false, false, false, false, false, false, true, true], [true, true, true, true, true, true, true, true, true]] hx hb hr hlocks rfl hP hD rfl (by decide +kernel) hS ⟨fX_26, rfl, trivial⟩ (g_172 bX5_two rfl)
set_option maxHeartbeats 4000000 in
set_option maxRecDepth 100000 in
theorem p_X5_judge (l : Launch) (G : va_G) (cy : Nat → ClassId) (sz : Nat) (qx : Nat) (qt : Nat) (qk : Nat) (qp : Nat) (qs : Nat) (qa : Nat) (qr : Nat) (iKp : Int32) (iYe : Int32) (iTv : Int32) (fR : Nat → Int32) (qsh : Nat) (qss : Nat) (qsa : Nat) (qse : Nat) (fH : Nat → Int32) (fS : Nat → Int32) (gE : Nat → Int64) (tA : TA) (qtw : Nat) (qtn : Nat) (qtg : Nat) (qta : Nat) (qtr : Nat) (qtm : Nat) (qtt : Nat) (qts : Nat) (qu : Nat) (qv : Nat) (iL : Int32) (iBs : Int32) (tU : TA) (quw : Nat) (qun : Nat) (qug : Nat) (qua : Nat) (qur : Nat) (qum : Nat) (qut : Nat) (qus : Nat) (iA : Int32) (iB : Int32)  (hB : T_nb tA ≤ 8) (hPp : T_np tA ≤ 8) (hSz : ∀ s, s < 8 → ∃ n : Nat, n ≤ 40 ∧ fS s = nI n) : MW l yX5_judge cX5_judge 4 (some .int) 12 0 0 G cy [zzO qx 4 [.ref qt, .ref qk, .ref qp, .ref qs, .ref qa, .ref qr, .int iKp, .int iYe, .int iTv], zzI cy qr 5 fR, zzO qs 1 [.ref qsh, .ref qss, .ref qsa, .ref qse], zzI cy qsh 8 fH, zzI cy qss 8 fS, zzJ cy qse 320 gE, zzO qt 3 [.int (nI (T_nb tA)), .int (nI (T_np tA)), .int (wb (T_wh tA)), .int (wb (T_gn tA)), .int (T_sd tA), .ref qtw, .ref qtn, .ref qtg, .ref qta, .ref qtr, .ref qtm, .ref qtt, .ref qts], zzI cy qtw 8 (T_wo tA), zzI cy qtn 8 (T_ne tA), zzI cy qtg 8 (T_go tA), zzI cy qta 8 (T_ag tA), zzI cy qtr 8 (T_re tA), zzI cy qtm 8 (T_me tA), zzI cy qtt 8 (T_te tA), zzI cy qts 64 (shF (T_kn tA)), zzO qp 0 [.ref qu, .ref qv, .int iL, .int iBs], zzO qu 3 [.int (nI (T_nb tU)), .int (nI (T_np tU)), .int (wb (T_wh tU)), .int (wb (T_gn tU)), .int (T_sd tU), .ref quw, .ref qun, .ref qug, .ref qua, .ref qur, .ref qum, .ref qut, .ref qus], zzI cy quw 8 (T_wo tU), zzI cy qun 8 (T_ne tU), zzI cy qug 8 (T_go tU), zzI cy qua 8 (T_ag tU), zzI cy qur 8 (T_re tU), zzI cy qum 8 (T_me tU), zzI cy qut 8 (T_te tU), zzI cy qus 64 (shF (T_kn tU))] sz [.ref qx, .int iA, .int iB] (Wi G (fun r u => ∃ (fX : Nat → Int32) (tX : TA), u = [zzO qx 4 [.ref qt, .ref qk, .ref qp, .ref qs, .ref qa, .ref qr, .int iKp, .int iYe, .int iTv], zzI cy qr 5 fX, zzO qs 1 [.ref qsh, .ref qss, .ref qsa, .ref qse], zzI cy qsh 8 fH, zzI cy qss 8 fS, zzJ cy qse 320 gE, zzO qt 3 [.int (nI (T_nb tA)), .int (nI (T_np tA)), .int (wb (T_wh tA)), .int (wb (T_gn tA)), .int (T_sd tA), .ref qtw, .ref qtn, .ref qtg, .ref qta, .ref qtr, .ref qtm, .ref qtt, .ref qts], zzI cy qtw 8 (T_wo tA), zzI cy qtn 8 (T_ne tA), zzI cy qtg 8 (T_go tA), zzI cy qta 8 (T_ag tA), zzI cy qtr 8 (T_re tA), zzI cy qtm 8 (T_me tA), zzI cy qtt 8 (T_te tA), zzI cy qts 64 (shF (T_kn tA)), zzO qp 0 [.ref qu, .ref qv, .int iL, .int iBs], zzO qu 3 [.int (nI (T_nb tX)), .int (nI (T_np tX)), .int (wb (T_wh tX)), .int (wb (T_gn tX)), .int (T_sd tX), .ref quw, .ref qun, .ref qug, .ref qua, .ref qur, .ref qum, .ref qut, .ref qus], zzI cy quw 8 (T_wo tX), zzI cy qun 8 (T_ne tX), zzI cy qug 8 (T_go tX), zzI cy qua 8 (T_ag tX), zzI cy qur 8 (T_re tX), zzI cy qum 8 (T_me tX), zzI cy qut 8 (T_te tX), zzI cy qus 64 (shF (T_kn tX))] ∧ (True))) := by
  refine enW RX5 (by decide +kernel) rfl (Nat.le_of_ble_eq_true rfl) (fun p e s m below meth c ls A hx hb hml hown hts hr hlocks hP hN hl hin hD hA hS => ?_)
  have hin : meth.name = _ := hin
  have hK := hN.1
  replace hl : lv_has ls 4 [(0, .ref qx), (1, .int iA), (2, .int iB)] := hl
  refine lv_aload_n hx hb (g_42 bX5_judge rfl) rfl (lv_at hl 0 rfl) ?_
  refine lv_iload_n hx hb (g_27 bX5_judge rfl) rfl (lv_at hl 1 rfl) ?_
  refine lv_iload_n hx hb (g_28 bX5_judge rfl) rfl (lv_at hl 2 rfl) ?_
  refine kRi (rV (As := [.int iA, .int iB]) (rest := []) (b := qx) ⟨hx, hb, hml, hown, hts⟩ (c_X5_toldFit l G cy qx qt qk qp qs qa qr iKp iYe iTv qsh qss qsa qse fH fS iA iB) L_X5_321 (preRV (q := (RX5, TX5, 9)) hN hP (trueIx 0 [true, false, true, true, true]) (sel_fm rfl rfl) 0 4 rfl rfl) rfl ⟨Nat.le_of_ble_eq_true rfl, Nat.le_of_ble_eq_true rfl⟩ hl.1 (Nat.le_of_ble_eq_true rfl) (g_182 (v := 321) bX5_judge rfl) ⟨Nat.le_of_ble_eq_true rfl, Nat.le_of_ble_eq_true rfl⟩) (fun r_1 h_2 => ?_)
  rcases h_2 with ⟨rfl, h_3⟩ | ⟨rfl, h_3⟩ | ⟨rfl, h_3⟩ | ⟨rfl, h_3⟩
  · refine lv_istore_n (lv' := [(3, .int (-2)), (0, .ref qx), (1, .int iA), (2, .int iB)]) hx hb (g_62 bX5_judge rfl) rfl hl (by decide +kernel) rfl (fun ls => ?_)
    clear hl
    intro hl
    refine lv_iload_n hx hb (g_29 bX5_judge rfl) rfl (lv_at hl 0 rfl) ?_
    refine lv_if_ne (tgt := 20) hx hb dX5_judge_8 (by decide +kernel) (fun _ => ?_) (fun h9 => absurd h9 (by decide +kernel))
    refine lv_aload_n hx hb (g_42 bX5_judge rfl) rfl (lv_at hl 1 rfl) ?_
    refine lv_iload_n hx hb (g_29 bX5_judge rfl) rfl (lv_at hl 0 rfl) ?_
    refine cVi (As := [.int (-2)]) (rest := []) (b := qx) (q := (RX5, TX5, 9)) ⟨hx, hb, hml, hown, hts⟩ (c_X5_refuse2 l G cy (s.heap).size qx qt qk qp qs qa qr iKp iYe iTv fR) L_X5_56 hN hP hD hS hA [0, 1] [false, false, true, true, true, true, true, true, true, true, true, true, true, true, true, true, true, true, true, true, true, true, true, true, true] rfl (by decide +kernel) rfl 0 4 rfl rfl rfl ⟨Nat.le_of_ble_eq_true rfl, Nat.le_of_ble_eq_true rfl⟩ hl.1 (Nat.le_of_ble_eq_true rfl) (g_182 (v := 56) bX5_judge rfl) ⟨Nat.le_of_ble_eq_true rfl, Nat.le_of_ble_eq_true rfl⟩ (fun r_5 u_7 H locs h_6 => ?_)
    clear hP hD hS
    intro hP hD hS
    obtain ⟨fX_8, hu9, h_6⟩ := h_6
    have hPD := pd_eq [_, _, _, _, _, _, _, _, _, _, _, _, _, _, _, _, _, _, _, _, _, _, _, _, zzI cy qr 5 fX_8] hP hD hu9 rfl
    clear hP hD hu9
    obtain ⟨hP, hD⟩ := hPD
    subst h_6
    exact endWs [[false, false, false, false, false, false, false, false, false, false, false, false, false, false, false, false, false, false, false, false, false, false, false, true, true], [true, true, true, true, true, true, true, true, true, true, true, true, true, true, true, true, true, true, true, true, true, true, true]] hx hb hr hlocks rfl hP hD rfl (by decide +kernel) hS ⟨fX_8, tU, rfl, trivial⟩ (g_172 bX5_judge rfl)
  · refine lv_istore_n (lv' := [(3, .int (-3)), (0, .ref qx), (1, .int iA), (2, .int iB)]) hx hb (g_62 bX5_judge rfl) rfl hl (by decide +kernel) rfl (fun ls => ?_)
    clear hl
    intro hl
    refine lv_iload_n hx hb (g_29 bX5_judge rfl) rfl (lv_at hl 0 rfl) ?_
    refine lv_if_ne (tgt := 20) hx hb dX5_judge_8 (by decide +kernel) (fun _ => ?_) (fun h9 => absurd h9 (by decide +kernel))
    refine lv_aload_n hx hb (g_42 bX5_judge rfl) rfl (lv_at hl 1 rfl) ?_
    refine lv_iload_n hx hb (g_29 bX5_judge rfl) rfl (lv_at hl 0 rfl) ?_
    refine cVi (As := [.int (-3)]) (rest := []) (b := qx) (q := (RX5, TX5, 9)) ⟨hx, hb, hml, hown, hts⟩ (c_X5_refuse3 l G cy (s.heap).size qx qt qk qp qs qa qr iKp iYe iTv fR) L_X5_56 hN hP hD hS hA [0, 1] [false, false, true, true, true, true, true, true, true, true, true, true, true, true, true, true, true, true, true, true, true, true, true, true, true] rfl (by decide +kernel) rfl 0 4 rfl rfl rfl ⟨Nat.le_of_ble_eq_true rfl, Nat.le_of_ble_eq_true rfl⟩ hl.1 (Nat.le_of_ble_eq_true rfl) (g_182 (v := 56) bX5_judge rfl) ⟨Nat.le_of_ble_eq_true rfl, Nat.le_of_ble_eq_true rfl⟩ (fun r_10 u_12 H locs h_11 => ?_)
    clear hP hD hS
    intro hP hD hS
    obtain ⟨fX_13, hu9, h_11⟩ := h_11
    have hPD := pd_eq [_, _, _, _, _, _, _, _, _, _, _, _, _, _, _, _, _, _, _, _, _, _, _, _, zzI cy qr 5 fX_13] hP hD hu9 rfl
    clear hP hD hu9
    obtain ⟨hP, hD⟩ := hPD
    subst h_11
    exact endWs [[false, false, false, false, false, false, false, false, false, false, false, false, false, false, false, false, false, false, false, false, false, false, false, true, true], [true, true, true, true, true, true, true, true, true, true, true, true, true, true, true, true, true, true, true, true, true, true, true]] hx hb hr hlocks rfl hP hD rfl (by decide +kernel) hS ⟨fX_13, tU, rfl, trivial⟩ (g_172 bX5_judge rfl)
  · refine lv_istore_n (lv' := [(3, .int 0), (0, .ref qx), (1, .int iA), (2, .int iB)]) hx hb (g_62 bX5_judge rfl) rfl hl (by decide +kernel) rfl (fun ls => ?_)
    clear hl
    intro hl
    refine lv_iload_n hx hb (g_29 bX5_judge rfl) rfl (lv_at hl 0 rfl) ?_
    refine lv_if_ne (tgt := 20) hx hb dX5_judge_8 (by decide +kernel) (fun h9 => absurd (by decide +kernel) h9) (fun _ => ?_)
    refine lv_aload_n hx hb (g_42 bX5_judge rfl) rfl (lv_at hl 1 rfl) ?_
    refine lv_iload_n hx hb (g_27 bX5_judge rfl) rfl (lv_at hl 2 rfl) ?_
    refine lv_iload_n hx hb (g_28 bX5_judge rfl) rfl (lv_at hl 3 rfl) ?_
    obtain ⟨h_15, k_16, hk_17, rfl, h_18, h_19⟩ := h_3
    obtain ⟨k_23, hk_24, hk_25, rfl⟩ := iv_nI 0 20 (by decide +kernel) (by decide +kernel) h_15
    refine cVi (As := [.int (nI k_16), .int (nI k_23)]) (rest := []) (b := qx) (q := (RX5, TX5, 9)) ⟨hx, hb, hml, hown, hts⟩ (c_X5_firstWrong l G cy (s.heap).size qx qt qk qp qs qa qr iKp iYe iTv qu qv iL iBs tU quw qun qug qua qur qum qut qus tA qtw qtn qtg qta qtr qtm qtt qts qsh qss qsa qse gE k_16 k_23 hB hPp (by first | omega | (simp only [nb_sr, np_sr, nb_wr, np_wr, nb_rd, np_rd, nb_ch, np_ch, nb_zr, np_zr, nb_za, np_za, nb_ey, np_ey, nb_hf, np_hf, nb_dd, np_dd, nb_so, np_so, nb_skn, np_skn, nb_swh, np_swh, nb_sgn, np_sgn, nb_ssd, np_ssd, nb_sgo, np_sgo, nb_sag, np_sag]; omega)) (by first | omega | (simp only [nb_sr, np_sr, nb_wr, np_wr, nb_rd, np_rd, nb_ch, np_ch, nb_zr, np_zr, nb_za, np_za, nb_ey, np_ey, nb_hf, np_hf, nb_dd, np_dd, nb_so, np_so, nb_skn, np_skn, nb_swh, np_swh, nb_sgn, np_sgn, nb_ssd, np_ssd, nb_sgo, np_sgo, nb_sag, np_sag]; omega))) L_X5_324 hN hP hD hS hA (trueIxs [[true, false, false, false, false, false, false, false, false, false, false, false, false, false, false, true, true, true, true, true, true, true, true, true, true], [false, false, false, false, false, false, true, true, true, true, true, true, true, true, true], [false, false, true, false, false, true]]) [false, true, false, true, true, false, false, false, false, false, false, false, false, false, false, false, false, false, false, false, false, false, false, false, false] (sels_eq rfl rfl) (by decide +kernel) rfl 0 4 rfl rfl rfl ⟨Nat.le_of_ble_eq_true rfl, Nat.le_of_ble_eq_true rfl⟩ hl.1 (Nat.le_of_ble_eq_true rfl) (g_182 (v := 324) bX5_judge rfl) ⟨Nat.le_of_ble_eq_true rfl, Nat.le_of_ble_eq_true rfl⟩ (fun r_26 u_28 H locs h_27 => ?_)
    clear hP hD hS
    intro hP hD hS
    obtain ⟨tX_29, hu9, h_30, h_27⟩ := h_27
    have hPD := pd_eq [_, _, _, _, _, zzO qu 3 [.int (nI (T_nb tX_29)), .int (nI (T_np tX_29)), .int (wb (T_wh tX_29)), .int (wb (T_gn tX_29)), .int (T_sd tX_29), .ref quw, .ref qun, .ref qug, .ref qua, .ref qur, .ref qum, .ref qut, .ref qus], zzI cy quw 8 (T_wo tX_29), zzI cy qun 8 (T_ne tX_29), zzI cy qug 8 (T_go tX_29), zzI cy qua 8 (T_ag tX_29), zzI cy qur 8 (T_re tX_29), zzI cy qum 8 (T_me tX_29), zzI cy qut 8 (T_te tX_29), zzI cy qus 64 (shF (T_kn tX_29)), _, _, _, _, _, _, _, _, _, _, _] hP hD hu9 rfl
    clear hP hD hu9
    obtain ⟨hP, hD⟩ := hPD
    refine lv_goto (tgt := 25) hx hb dX5_judge_17 (by decide +kernel) ?_
    exact endWs [[false, false, false, true], [true, false, false, false, false, false, false, false, false, false, false, false, false, false, false, false, false, false, false, false, false, false, false, true], [false, true, true, false, false, false, false, false, false, false, false, false, false, false, false, false, false, false, false, false, false, false, false, false, true], [false, false, false, false, false, false, false, false, false, false, false, false, false, false, true, true, true, true, true, true, true, true, true], [false, false, false, false, true, true, true, true, true, true, true, true, true, true]] hx hb hr hlocks rfl hP hD rfl (by decide +kernel) hS ⟨fR, tX_29, rfl, trivial⟩ (g_172 bX5_judge rfl)
  · refine lv_istore_n (lv' := [(3, .int (-4)), (0, .ref qx), (1, .int iA), (2, .int iB)]) hx hb (g_62 bX5_judge rfl) rfl hl (by decide +kernel) rfl (fun ls => ?_)
    clear hl
    intro hl
    refine lv_iload_n hx hb (g_29 bX5_judge rfl) rfl (lv_at hl 0 rfl) ?_
    refine lv_if_ne (tgt := 20) hx hb dX5_judge_8 (by decide +kernel) (fun _ => ?_) (fun h9 => absurd h9 (by decide +kernel))
    refine lv_aload_n hx hb (g_42 bX5_judge rfl) rfl (lv_at hl 1 rfl) ?_
    refine lv_iload_n hx hb (g_29 bX5_judge rfl) rfl (lv_at hl 0 rfl) ?_
    refine cVi (As := [.int (-4)]) (rest := []) (b := qx) (q := (RX5, TX5, 9)) ⟨hx, hb, hml, hown, hts⟩ (c_X5_refuse4 l G cy (s.heap).size qx qt qk qp qs qa qr iKp iYe iTv fR) L_X5_56 hN hP hD hS hA [0, 1] [false, false, true, true, true, true, true, true, true, true, true, true, true, true, true, true, true, true, true, true, true, true, true, true, true] rfl (by decide +kernel) rfl 0 4 rfl rfl rfl ⟨Nat.le_of_ble_eq_true rfl, Nat.le_of_ble_eq_true rfl⟩ hl.1 (Nat.le_of_ble_eq_true rfl) (g_182 (v := 56) bX5_judge rfl) ⟨Nat.le_of_ble_eq_true rfl, Nat.le_of_ble_eq_true rfl⟩ (fun r_32 u_34 H locs h_33 => ?_)
    clear hP hD hS
    intro hP hD hS
    obtain ⟨fX_35, hu9, h_33⟩ := h_33
    have hPD := pd_eq [_, _, _, _, _, _, _, _, _, _, _, _, _, _, _, _, _, _, _, _, _, _, _, _, zzI cy qr 5 fX_35] hP hD hu9 rfl
    clear hP hD hu9
    obtain ⟨hP, hD⟩ := hPD
    subst h_33
    exact endWs [[false, false, false, false, false, false, false, false, false, false, false, false, false, false, false, false, false, false, false, false, false, false, false, true, true], [true, true, true, true, true, true, true, true, true, true, true, true, true, true, true, true, true, true, true, true, true, true, true]] hx hb hr hlocks rfl hP hD rfl (by decide +kernel) hS ⟨fX_35, tU, rfl, trivial⟩ (g_172 bX5_judge rfl)
set_option maxHeartbeats 4000000 in
set_option maxRecDepth 100000 in
theorem p_X5_told (l : Launch) (G : va_G) (cy : Nat → ClassId) (sz : Nat) (qx : Nat) (qt : Nat) (qk : Nat) (qp : Nat) (qs : Nat) (qa : Nat) (qr : Nat) (iKp : Int32) (iYe : Int32) (iTv : Int32) (fR : Nat → Int32) (qsh : Nat) (qss : Nat) (qsa : Nat) (qse : Nat) (fH : Nat → Int32) (fS : Nat → Int32) (gE : Nat → Int64) (tA : TA) (qtw : Nat) (qtn : Nat) (qtg : Nat) (qta : Nat) (qtr : Nat) (qtm : Nat) (qtt : Nat) (qts : Nat) (qu : Nat) (qv : Nat) (iL : Int32) (iBs : Int32) (tU : TA) (quw : Nat) (qun : Nat) (qug : Nat) (qua : Nat) (qur : Nat) (qum : Nat) (qut : Nat) (qus : Nat) (iA : Int32) (iB : Int32)  (hB : T_nb tA ≤ 8) (hPp : T_np tA ≤ 8) (hSz : ∀ s, s < 8 → ∃ n : Nat, n ≤ 40 ∧ fS s = nI n) : MW l yX5_told cX5_told 4 (some .int) 12 0 0 G cy [zzO qx 4 [.ref qt, .ref qk, .ref qp, .ref qs, .ref qa, .ref qr, .int iKp, .int iYe, .int iTv], zzI cy qr 5 fR, zzO qs 1 [.ref qsh, .ref qss, .ref qsa, .ref qse], zzI cy qsh 8 fH, zzI cy qss 8 fS, zzJ cy qse 320 gE, zzO qt 3 [.int (nI (T_nb tA)), .int (nI (T_np tA)), .int (wb (T_wh tA)), .int (wb (T_gn tA)), .int (T_sd tA), .ref qtw, .ref qtn, .ref qtg, .ref qta, .ref qtr, .ref qtm, .ref qtt, .ref qts], zzI cy qtw 8 (T_wo tA), zzI cy qtn 8 (T_ne tA), zzI cy qtg 8 (T_go tA), zzI cy qta 8 (T_ag tA), zzI cy qtr 8 (T_re tA), zzI cy qtm 8 (T_me tA), zzI cy qtt 8 (T_te tA), zzI cy qts 64 (shF (T_kn tA)), zzO qp 0 [.ref qu, .ref qv, .int iL, .int iBs], zzO qu 3 [.int (nI (T_nb tU)), .int (nI (T_np tU)), .int (wb (T_wh tU)), .int (wb (T_gn tU)), .int (T_sd tU), .ref quw, .ref qun, .ref qug, .ref qua, .ref qur, .ref qum, .ref qut, .ref qus], zzI cy quw 8 (T_wo tU), zzI cy qun 8 (T_ne tU), zzI cy qug 8 (T_go tU), zzI cy qua 8 (T_ag tU), zzI cy qur 8 (T_re tU), zzI cy qum 8 (T_me tU), zzI cy qut 8 (T_te tU), zzI cy qus 64 (shF (T_kn tU))] sz [.ref qx, .int iA, .int iB] (Wi G (fun r u => ∃ (fX : Nat → Int32) (tX : TA), u = [zzO qx 4 [.ref qt, .ref qk, .ref qp, .ref qs, .ref qa, .ref qr, .int iKp, .int iYe, .int iTv], zzI cy qr 5 fX, zzO qs 1 [.ref qsh, .ref qss, .ref qsa, .ref qse], zzI cy qsh 8 fH, zzI cy qss 8 fS, zzJ cy qse 320 gE, zzO qt 3 [.int (nI (T_nb tA)), .int (nI (T_np tA)), .int (wb (T_wh tA)), .int (wb (T_gn tA)), .int (T_sd tA), .ref qtw, .ref qtn, .ref qtg, .ref qta, .ref qtr, .ref qtm, .ref qtt, .ref qts], zzI cy qtw 8 (T_wo tA), zzI cy qtn 8 (T_ne tA), zzI cy qtg 8 (T_go tA), zzI cy qta 8 (T_ag tA), zzI cy qtr 8 (T_re tA), zzI cy qtm 8 (T_me tA), zzI cy qtt 8 (T_te tA), zzI cy qts 64 (shF (T_kn tA)), zzO qp 0 [.ref qu, .ref qv, .int iL, .int iBs], zzO qu 3 [.int (nI (T_nb tX)), .int (nI (T_np tX)), .int (wb (T_wh tX)), .int (wb (T_gn tX)), .int (T_sd tX), .ref quw, .ref qun, .ref qug, .ref qua, .ref qur, .ref qum, .ref qut, .ref qus], zzI cy quw 8 (T_wo tX), zzI cy qun 8 (T_ne tX), zzI cy qug 8 (T_go tX), zzI cy qua 8 (T_ag tX), zzI cy qur 8 (T_re tX), zzI cy qum 8 (T_me tX), zzI cy qut 8 (T_te tX), zzI cy qus 64 (shF (T_kn tX))] ∧ (True))) := by
  refine enW RX5 (by decide +kernel) rfl (Nat.le_of_ble_eq_true rfl) (fun p e s m below meth c ls A hx hb hml hown hts hr hlocks hP hN hl hin hD hA hS => ?_)
  have hin : meth.name = _ := hin
  have hK := hN.1
  replace hl : lv_has ls 4 [(0, .ref qx), (1, .int iA), (2, .int iB)] := hl
  refine lv_aload_n hx hb (g_42 bX5_told rfl) rfl (lv_at hl 0 rfl) ?_
  refine lv_iload_n hx hb (g_27 bX5_told rfl) rfl (lv_at hl 1 rfl) ?_
  refine lv_iload_n hx hb (g_28 bX5_told rfl) rfl (lv_at hl 2 rfl) ?_
  refine kRi (rV (As := [.int iA, .int iB]) (rest := []) (b := qx) ⟨hx, hb, hml, hown, hts⟩ (c_X5_toldFit l G cy qx qt qk qp qs qa qr iKp iYe iTv qsh qss qsa qse fH fS iA iB) L_X5_321 (preRV (q := (RX5, TX5, 9)) hN hP (trueIx 0 [true, false, true, true, true]) (sel_fm rfl rfl) 0 4 rfl rfl) rfl ⟨Nat.le_of_ble_eq_true rfl, Nat.le_of_ble_eq_true rfl⟩ hl.1 (Nat.le_of_ble_eq_true rfl) (g_182 (v := 321) bX5_told rfl) ⟨Nat.le_of_ble_eq_true rfl, Nat.le_of_ble_eq_true rfl⟩) (fun r_1 h_2 => ?_)
  rcases h_2 with ⟨rfl, h_3⟩ | ⟨rfl, h_3⟩ | ⟨rfl, h_3⟩ | ⟨rfl, h_3⟩
  · refine lv_istore_n (lv' := [(3, .int (-2)), (0, .ref qx), (1, .int iA), (2, .int iB)]) hx hb (g_62 bX5_told rfl) rfl hl (by decide +kernel) rfl (fun ls => ?_)
    clear hl
    intro hl
    refine lv_iload_n hx hb (g_29 bX5_told rfl) rfl (lv_at hl 0 rfl) ?_
    refine lv_if_ne (tgt := 24) hx hb dX5_told_8 (by decide +kernel) (fun _ => ?_) (fun h9 => absurd h9 (by decide +kernel))
    refine lv_iload_n hx hb (g_29 bX5_told rfl) rfl (lv_at hl 0 rfl) ?_
    refine lv_if_ne (tgt := 41) hx hb dX5_told_25 (by decide +kernel) (fun _ => ?_) (fun h9 => absurd h9 (by decide +kernel))
    refine lv_aload_n hx hb (g_42 bX5_told rfl) rfl (lv_at hl 1 rfl) ?_
    refine lv_iload_n hx hb (g_29 bX5_told rfl) rfl (lv_at hl 0 rfl) ?_
    refine cVi (As := [.int (-2)]) (rest := []) (b := qx) (q := (RX5, TX5, 9)) ⟨hx, hb, hml, hown, hts⟩ (c_X5_refuse2 l G cy (s.heap).size qx qt qk qp qs qa qr iKp iYe iTv fR) L_X5_56 hN hP hD hS hA [0, 1] [false, false, true, true, true, true, true, true, true, true, true, true, true, true, true, true, true, true, true, true, true, true, true, true, true] rfl (by decide +kernel) rfl 0 4 rfl rfl rfl ⟨Nat.le_of_ble_eq_true rfl, Nat.le_of_ble_eq_true rfl⟩ hl.1 (Nat.le_of_ble_eq_true rfl) (g_182 (v := 56) bX5_told rfl) ⟨Nat.le_of_ble_eq_true rfl, Nat.le_of_ble_eq_true rfl⟩ (fun r_6 u_8 H locs h_7 => ?_)
    clear hP hD hS
    intro hP hD hS
    obtain ⟨fX_9, hu9, h_7⟩ := h_7
    have hPD := pd_eq [_, _, _, _, _, _, _, _, _, _, _, _, _, _, _, _, _, _, _, _, _, _, _, _, zzI cy qr 5 fX_9] hP hD hu9 rfl
    clear hP hD hu9
    obtain ⟨hP, hD⟩ := hPD
    subst h_7
    exact endWs [[false, false, false, false, false, false, false, false, false, false, false, false, false, false, false, false, false, false, false, false, false, false, false, true, true], [true, true, true, true, true, true, true, true, true, true, true, true, true, true, true, true, true, true, true, true, true, true, true]] hx hb hr hlocks rfl hP hD rfl (by decide +kernel) hS ⟨fX_9, tU, rfl, trivial⟩ (g_172 bX5_told rfl)
  · refine lv_istore_n (lv' := [(3, .int (-3)), (0, .ref qx), (1, .int iA), (2, .int iB)]) hx hb (g_62 bX5_told rfl) rfl hl (by decide +kernel) rfl (fun ls => ?_)
    clear hl
    intro hl
    refine lv_iload_n hx hb (g_29 bX5_told rfl) rfl (lv_at hl 0 rfl) ?_
    refine lv_if_ne (tgt := 24) hx hb dX5_told_8 (by decide +kernel) (fun _ => ?_) (fun h9 => absurd h9 (by decide +kernel))
    refine lv_iload_n hx hb (g_29 bX5_told rfl) rfl (lv_at hl 0 rfl) ?_
    refine lv_if_ne (tgt := 41) hx hb dX5_told_25 (by decide +kernel) (fun _ => ?_) (fun h9 => absurd h9 (by decide +kernel))
    refine lv_aload_n hx hb (g_42 bX5_told rfl) rfl (lv_at hl 1 rfl) ?_
    refine lv_iload_n hx hb (g_29 bX5_told rfl) rfl (lv_at hl 0 rfl) ?_
    refine cVi (As := [.int (-3)]) (rest := []) (b := qx) (q := (RX5, TX5, 9)) ⟨hx, hb, hml, hown, hts⟩ (c_X5_refuse3 l G cy (s.heap).size qx qt qk qp qs qa qr iKp iYe iTv fR) L_X5_56 hN hP hD hS hA [0, 1] [false, false, true, true, true, true, true, true, true, true, true, true, true, true, true, true, true, true, true, true, true, true, true, true, true] rfl (by decide +kernel) rfl 0 4 rfl rfl rfl ⟨Nat.le_of_ble_eq_true rfl, Nat.le_of_ble_eq_true rfl⟩ hl.1 (Nat.le_of_ble_eq_true rfl) (g_182 (v := 56) bX5_told rfl) ⟨Nat.le_of_ble_eq_true rfl, Nat.le_of_ble_eq_true rfl⟩ (fun r_12 u_14 H locs h_13 => ?_)
    clear hP hD hS
    intro hP hD hS
    obtain ⟨fX_15, hu9, h_13⟩ := h_13
    have hPD := pd_eq [_, _, _, _, _, _, _, _, _, _, _, _, _, _, _, _, _, _, _, _, _, _, _, _, zzI cy qr 5 fX_15] hP hD hu9 rfl
    clear hP hD hu9
    obtain ⟨hP, hD⟩ := hPD
    subst h_13
    exact endWs [[false, false, false, false, false, false, false, false, false, false, false, false, false, false, false, false, false, false, false, false, false, false, false, true, true], [true, true, true, true, true, true, true, true, true, true, true, true, true, true, true, true, true, true, true, true, true, true, true]] hx hb hr hlocks rfl hP hD rfl (by decide +kernel) hS ⟨fX_15, tU, rfl, trivial⟩ (g_172 bX5_told rfl)
  · refine lv_istore_n (lv' := [(3, .int 0), (0, .ref qx), (1, .int iA), (2, .int iB)]) hx hb (g_62 bX5_told rfl) rfl hl (by decide +kernel) rfl (fun ls => ?_)
    clear hl
    intro hl
    refine lv_iload_n hx hb (g_29 bX5_told rfl) rfl (lv_at hl 0 rfl) ?_
    refine lv_if_ne (tgt := 24) hx hb dX5_told_8 (by decide +kernel) (fun h9 => absurd (by decide +kernel) h9) (fun _ => ?_)
    refine lv_aload_n hx hb (g_42 bX5_told rfl) rfl (lv_at hl 1 rfl) ?_
    refine lv_iload_n hx hb (g_27 bX5_told rfl) rfl (lv_at hl 2 rfl) ?_
    refine lv_iload_n hx hb (g_28 bX5_told rfl) rfl (lv_at hl 3 rfl) ?_
    obtain ⟨h_17, k_18, hk_19, rfl, h_20, h_21⟩ := h_3
    obtain ⟨k_25, hk_26, hk_27, rfl⟩ := iv_nI 0 20 (by decide +kernel) (by decide +kernel) h_17
    refine cVi (As := [.int (nI k_18), .int (nI k_25)]) (rest := []) (b := qx) (q := (RX5, TX5, 9)) ⟨hx, hb, hml, hown, hts⟩ (c_X5_firstWrong l G cy (s.heap).size qx qt qk qp qs qa qr iKp iYe iTv qu qv iL iBs tU quw qun qug qua qur qum qut qus tA qtw qtn qtg qta qtr qtm qtt qts qsh qss qsa qse gE k_18 k_25 hB hPp (by first | omega | (simp only [nb_sr, np_sr, nb_wr, np_wr, nb_rd, np_rd, nb_ch, np_ch, nb_zr, np_zr, nb_za, np_za, nb_ey, np_ey, nb_hf, np_hf, nb_dd, np_dd, nb_so, np_so, nb_skn, np_skn, nb_swh, np_swh, nb_sgn, np_sgn, nb_ssd, np_ssd, nb_sgo, np_sgo, nb_sag, np_sag]; omega)) (by first | omega | (simp only [nb_sr, np_sr, nb_wr, np_wr, nb_rd, np_rd, nb_ch, np_ch, nb_zr, np_zr, nb_za, np_za, nb_ey, np_ey, nb_hf, np_hf, nb_dd, np_dd, nb_so, np_so, nb_skn, np_skn, nb_swh, np_swh, nb_sgn, np_sgn, nb_ssd, np_ssd, nb_sgo, np_sgo, nb_sag, np_sag]; omega))) L_X5_324 hN hP hD hS hA (trueIxs [[true, false, false, false, false, false, false, false, false, false, false, false, false, false, false, true, true, true, true, true, true, true, true, true, true], [false, false, false, false, false, false, true, true, true, true, true, true, true, true, true], [false, false, true, false, false, true]]) [false, true, false, true, true, false, false, false, false, false, false, false, false, false, false, false, false, false, false, false, false, false, false, false, false] (sels_eq rfl rfl) (by decide +kernel) rfl 0 4 rfl rfl rfl ⟨Nat.le_of_ble_eq_true rfl, Nat.le_of_ble_eq_true rfl⟩ hl.1 (Nat.le_of_ble_eq_true rfl) (g_182 (v := 324) bX5_told rfl) ⟨Nat.le_of_ble_eq_true rfl, Nat.le_of_ble_eq_true rfl⟩ (fun r_28 u_30 H locs h_29 => ?_)
    clear hP hD hS
    intro hP hD hS
    obtain ⟨tX_31, hu9, h_32, h_29⟩ := h_29
    have hPD := pd_eq [_, _, _, _, _, zzO qu 3 [.int (nI (T_nb tX_31)), .int (nI (T_np tX_31)), .int (wb (T_wh tX_31)), .int (wb (T_gn tX_31)), .int (T_sd tX_31), .ref quw, .ref qun, .ref qug, .ref qua, .ref qur, .ref qum, .ref qut, .ref qus], zzI cy quw 8 (T_wo tX_31), zzI cy qun 8 (T_ne tX_31), zzI cy qug 8 (T_go tX_31), zzI cy qua 8 (T_ag tX_31), zzI cy qur 8 (T_re tX_31), zzI cy qum 8 (T_me tX_31), zzI cy qut 8 (T_te tX_31), zzI cy qus 64 (shF (T_kn tX_31)), _, _, _, _, _, _, _, _, _, _, _] hP hD hu9 rfl
    clear hP hD hu9
    obtain ⟨hP, hD⟩ := hPD
    refine lv_iconst (v := (-1)) hx hb (g_2 bX5_told rfl) (by decide +kernel) ?_
    refine lv_icmp_eq (tgt := 24) hx hb dX5_told_18 (by decide +kernel) (fun c_33 => ?_) (fun c_33 => ?_)
    · refine lv_iload_n hx hb (g_29 bX5_told rfl) rfl (lv_at hl 0 rfl) ?_
      refine lv_if_ne (tgt := 41) hx hb dX5_told_25 (by decide +kernel) (fun h9 => absurd (by decide +kernel) h9) (fun _ => ?_)
      refine lv_aload_n hx hb (g_42 bX5_told rfl) rfl (lv_at hl 1 rfl) ?_
      refine va_get (D := G) (ci := 4) (v := .ref qp) (C := RX5) (T := TX5) (N := 9) hx hb hts iX_X5 hown hK hP 3 rfl rfl 2 (by decide +kernel) (hts _ m_t176) (fun _ h9 => h9) rfl (g_180 (v := 22) bX5_told rfl) ?_
      refine va_getN (D := G) (ci := 0) (v := .ref qu) (C := RX0) (T := TX0) (N := 4) hx hb hts iX_X0 hown hK hP 4 rfl rfl 0 (by decide +kernel) (va_Nw.use rfl (hN.2.1 (RX5, 261, "EachBookOnce$Plans", "trial", "LEachBookOnce$Town;") (List.mem_of_getElem? (i := 23) rfl))) (fun _ h9 => h9) rfl (g_180 (v := 261) bX5_told rfl) ?_
      refine kRi (rV (As := []) (rest := []) (b := qu) ⟨hx, hb, hml, hown, hts⟩ (c_X4_worthNow l G cy qu tX_31 quw qun qug qua qur qum qut qus (by first | omega | (simp only [nb_sr, np_sr, nb_wr, np_wr, nb_rd, np_rd, nb_ch, np_ch, nb_zr, np_zr, nb_za, np_za, nb_ey, np_ey, nb_hf, np_hf, nb_dd, np_dd, nb_so, np_so, nb_skn, np_skn, nb_swh, np_swh, nb_sgn, np_sgn, nb_ssd, np_ssd, nb_sgo, np_sgo, nb_sag, np_sag]; omega)) (by first | omega | (simp only [nb_sr, np_sr, nb_wr, np_wr, nb_rd, np_rd, nb_ch, np_ch, nb_zr, np_zr, nb_za, np_za, nb_ey, np_ey, nb_hf, np_hf, nb_dd, np_dd, nb_so, np_so, nb_skn, np_skn, nb_swh, np_swh, nb_sgn, np_sgn, nb_ssd, np_ssd, nb_sgo, np_sgo, nb_sag, np_sag]; omega))) L_X5_123 (preRV (q := (RX4, TX4, 13)) hN hP (trueIx 0 [false, false, false, false, false, true, true, false, false, false, false, false, false, true]) (sel_fm rfl rfl) 5 3 rfl rfl) rfl ⟨Nat.le_of_ble_eq_true rfl, Nat.le_of_ble_eq_true rfl⟩ hl.1 (Nat.le_of_ble_eq_true rfl) (g_182 (v := 123) bX5_told rfl) ⟨Nat.le_of_ble_eq_true rfl, Nat.le_of_ble_eq_true rfl⟩) (fun r_35 h_36 => ?_)
      subst h_36
      refine lv_goto (tgt := 46) hx hb dX5_told_38 (by decide +kernel) ?_
      exact endWs [[false, false, false, true], [true, false, false, false, false, false, false, false, false, false, false, false, false, false, false, false, false, false, false, false, false, false, false, true], [false, true, true, false, false, false, false, false, false, false, false, false, false, false, false, false, false, false, false, false, false, false, false, false, true], [false, false, false, false, false, false, false, false, false, false, false, false, false, false, true, true, true, true, true, true, true, true, true], [false, false, false, false, true, true, true, true, true, true, true, true, true, true]] hx hb hr hlocks rfl hP hD rfl (by decide +kernel) hS ⟨fR, tX_31, rfl, trivial⟩ (g_172 bX5_told rfl)
    · refine lv_bipush (v := (-5)) hx hb dX5_told_21 (by decide +kernel) ?_
      refine lv_istore_n (lv' := [(3, .int (-5)), (0, .ref qx), (1, .int (nI k_18)), (2, .int (nI k_25))]) hx hb (g_62 bX5_told rfl) rfl hl (by decide +kernel) rfl (fun ls => ?_)
      clear hl
      intro hl
      refine lv_iload_n hx hb (g_29 bX5_told rfl) rfl (lv_at hl 0 rfl) ?_
      refine lv_if_ne (tgt := 41) hx hb dX5_told_25 (by decide +kernel) (fun _ => ?_) (fun h9 => absurd h9 (by decide +kernel))
      refine lv_aload_n hx hb (g_42 bX5_told rfl) rfl (lv_at hl 1 rfl) ?_
      refine lv_iload_n hx hb (g_29 bX5_told rfl) rfl (lv_at hl 0 rfl) ?_
      refine cVi (As := [.int (-5)]) (rest := []) (b := qx) (q := (RX5, TX5, 9)) ⟨hx, hb, hml, hown, hts⟩ (c_X5_refuse5 l G cy (H).size qx qt qk qp qs qa qr iKp iYe iTv fR) L_X5_56 hN hP hD hS hA [3, 0] [false, true, true, false, true, true, true, true, true, true, true, true, true, true, true, true, true, true, true, true, true, true, true, true, true] rfl (by decide +kernel) rfl 3 4 rfl rfl rfl ⟨Nat.le_of_ble_eq_true rfl, Nat.le_of_ble_eq_true rfl⟩ hl.1 (Nat.le_of_ble_eq_true rfl) (g_182 (v := 56) bX5_told rfl) ⟨Nat.le_of_ble_eq_true rfl, Nat.le_of_ble_eq_true rfl⟩ (fun r_38 u_40 H locs h_39 => ?_)
      clear hP hD hS
      intro hP hD hS
      obtain ⟨fX_41, hu9, h_39⟩ := h_39
      have hPD := pd_eq [_, _, _, _, _, _, _, _, _, _, _, _, _, _, _, _, _, _, _, _, _, _, _, _, zzI cy qr 5 fX_41] hP hD hu9 rfl
      clear hP hD hu9
      obtain ⟨hP, hD⟩ := hPD
      subst h_39
      exact endWs [[false, false, false, false, false, false, false, false, false, false, false, false, false, false, false, false, false, false, false, false, false, false, false, true, true], [false, false, false, false, false, false, false, false, false, false, false, false, false, false, false, false, false, false, false, false, false, true], [true, true, false, false, false, false, false, false, false, false, false, false, false, false, false, false, false, false, false, false, false, false, true], [false, false, false, false, false, false, false, false, false, false, false, false, true, true, true, true, true, true, true, true, true], [false, false, true, true, true, true, true, true, true, true, true, true]] hx hb hr hlocks rfl hP hD rfl (by decide +kernel) hS ⟨fX_41, tX_31, rfl, trivial⟩ (g_172 bX5_told rfl)
  · refine lv_istore_n (lv' := [(3, .int (-4)), (0, .ref qx), (1, .int iA), (2, .int iB)]) hx hb (g_62 bX5_told rfl) rfl hl (by decide +kernel) rfl (fun ls => ?_)
    clear hl
    intro hl
    refine lv_iload_n hx hb (g_29 bX5_told rfl) rfl (lv_at hl 0 rfl) ?_
    refine lv_if_ne (tgt := 24) hx hb dX5_told_8 (by decide +kernel) (fun _ => ?_) (fun h9 => absurd h9 (by decide +kernel))
    refine lv_iload_n hx hb (g_29 bX5_told rfl) rfl (lv_at hl 0 rfl) ?_
    refine lv_if_ne (tgt := 41) hx hb dX5_told_25 (by decide +kernel) (fun _ => ?_) (fun h9 => absurd h9 (by decide +kernel))
    refine lv_aload_n hx hb (g_42 bX5_told rfl) rfl (lv_at hl 1 rfl) ?_
    refine lv_iload_n hx hb (g_29 bX5_told rfl) rfl (lv_at hl 0 rfl) ?_
    refine cVi (As := [.int (-4)]) (rest := []) (b := qx) (q := (RX5, TX5, 9)) ⟨hx, hb, hml, hown, hts⟩ (c_X5_refuse4 l G cy (s.heap).size qx qt qk qp qs qa qr iKp iYe iTv fR) L_X5_56 hN hP hD hS hA [0, 1] [false, false, true, true, true, true, true, true, true, true, true, true, true, true, true, true, true, true, true, true, true, true, true, true, true] rfl (by decide +kernel) rfl 0 4 rfl rfl rfl ⟨Nat.le_of_ble_eq_true rfl, Nat.le_of_ble_eq_true rfl⟩ hl.1 (Nat.le_of_ble_eq_true rfl) (g_182 (v := 56) bX5_told rfl) ⟨Nat.le_of_ble_eq_true rfl, Nat.le_of_ble_eq_true rfl⟩ (fun r_44 u_46 H locs h_45 => ?_)
    clear hP hD hS
    intro hP hD hS
    obtain ⟨fX_47, hu9, h_45⟩ := h_45
    have hPD := pd_eq [_, _, _, _, _, _, _, _, _, _, _, _, _, _, _, _, _, _, _, _, _, _, _, _, zzI cy qr 5 fX_47] hP hD hu9 rfl
    clear hP hD hu9
    obtain ⟨hP, hD⟩ := hPD
    subst h_45
    exact endWs [[false, false, false, false, false, false, false, false, false, false, false, false, false, false, false, false, false, false, false, false, false, false, false, true, true], [true, true, true, true, true, true, true, true, true, true, true, true, true, true, true, true, true, true, true, true, true, true, true]] hx hb hr hlocks rfl hP hD rfl (by decide +kernel) hS ⟨fX_47, tU, rfl, trivial⟩ (g_172 bX5_told rfl)
set_option maxHeartbeats 4000000 in
set_option maxRecDepth 100000 in
theorem p_X5_years (l : Launch) (G : va_G) (cy : Nat → ClassId) (sz : Nat) (qx : Nat) (qt : Nat) (qk : Nat) (qp : Nat) (qs : Nat) (qa : Nat) (qr : Nat) (iKp : Int32) (iYe : Int32) (iTv : Int32) (fR : Nat → Int32) (qsh : Nat) (qss : Nat) (qsa : Nat) (qse : Nat) (fH : Nat → Int32) (fA : Nat → Int32) (tA : TA) (qtw : Nat) (qtn : Nat) (qtg : Nat) (qta : Nat) (qtr : Nat) (qtm : Nat) (qtt : Nat) (qts : Nat) (iA : Int32) (iB : Int32)  (hB : T_nb tA ≤ 8) (hPp : T_np tA ≤ 8) : MW l yX5_years cX5_years 6 (some .int) 12 0 0 G cy [zzO qx 4 [.ref qt, .ref qk, .ref qp, .ref qs, .ref qa, .ref qr, .int iKp, .int iYe, .int iTv], zzI cy qr 5 fR, zzO qs 1 [.ref qsh, .ref qss, .ref qsa, .ref qse], zzI cy qsh 8 fH, zzI cy qsa 8 fA, zzO qt 3 [.int (nI (T_nb tA)), .int (nI (T_np tA)), .int (wb (T_wh tA)), .int (wb (T_gn tA)), .int (T_sd tA), .ref qtw, .ref qtn, .ref qtg, .ref qta, .ref qtr, .ref qtm, .ref qtt, .ref qts], zzI cy qtw 8 (T_wo tA), zzI cy qtn 8 (T_ne tA), zzI cy qtg 8 (T_go tA), zzI cy qta 8 (T_ag tA), zzI cy qtr 8 (T_re tA), zzI cy qtm 8 (T_me tA), zzI cy qtt 8 (T_te tA), zzI cy qts 64 (shF (T_kn tA))] sz [.ref qx, .int iA, .int iB] (Wi G (fun r u => ∃ (iX1 : Int32) (iX2 : Int32) (iX3 : Int32) (fX : Nat → Int32) (tN : TA), u = [zzO qx 4 [.ref qt, .ref qk, .ref qp, .ref qs, .ref qa, .ref qr, .int iX1, .int iX2, .int iX3], zzI cy qr 5 fX, zzO qs 1 [.ref qsh, .ref qss, .ref qsa, .ref qse], zzI cy qsh 8 fH, zzI cy qsa 8 fA, zzO qt 3 [.int (nI (T_nb tN)), .int (nI (T_np tN)), .int (wb (T_wh tN)), .int (wb (T_gn tN)), .int (T_sd tN), .ref qtw, .ref qtn, .ref qtg, .ref qta, .ref qtr, .ref qtm, .ref qtt, .ref qts], zzI cy qtw 8 (T_wo tN), zzI cy qtn 8 (T_ne tN), zzI cy qtg 8 (T_go tN), zzI cy qta 8 (T_ag tN), zzI cy qtr 8 (T_re tN), zzI cy qtm 8 (T_me tN), zzI cy qtt 8 (T_te tN), zzI cy qts 64 (shF (T_kn tN))] ∧ (PXyears fH fA tA iA iB r tN ∧ iX1 = iKp) ∧ (True))) := by
  refine enW RX5 (by decide +kernel) rfl (Nat.le_of_ble_eq_true rfl) (fun p e s m below meth c ls A hx hb hml hown hts hr hlocks hP hN hl hin hD hA hS => ?_)
  have hin : meth.name = _ := hin
  have hK := hN.1
  replace hl : lv_has ls 6 [(0, .ref qx), (1, .int iA), (2, .int iB)] := hl
  refine lv_iload_n hx hb (g_28 bX5_years rfl) rfl (lv_at hl 2 rfl) ?_
  refine lv_i2l (v := iB.toInt64) hx hb (g_133 bX5_years rfl) rfl ?_
  refine lv_lconst (v := 1) hx hb (g_10 bX5_years rfl) (by decide +kernel) ?_
  refine lv_ldc2 hx hb hown (hts _ m_t788) (g_20 (v := 327) bX5_years rfl) ?_
  refine kRi (rS (As := [.long iB.toInt64, .long 1, .long 20]) (rest := []) ⟨hx, hb, hml, hown, hts⟩ (c_X5_within l G cy iB.toInt64 1 20) L_X5_50 (preRS hN hP [] rfl) rfl ⟨Nat.le_of_ble_eq_true rfl, Nat.le_of_ble_eq_true rfl⟩ hl.1 (Nat.le_of_ble_eq_true rfl) (g_184 (v := 50) bX5_years rfl) ⟨Nat.le_of_ble_eq_true rfl, Nat.le_of_ble_eq_true rfl⟩) (fun r_1 h_2 => ?_)
  rcases h_2 with ⟨rfl, h_3⟩ | ⟨rfl, h_3⟩
  · obtain ⟨k_4, hk_5, hk_6, rfl⟩ := iv_nI 1 20 (by decide +kernel) (by decide +kernel) h_3
    refine lv_if_eq (tgt := 20) hx hb dX5_years_9 (by decide +kernel) (fun h9 => absurd h9 (by decide +kernel)) (fun _ => ?_)
    refine lv_aload_n hx hb (g_42 bX5_years rfl) rfl (lv_at hl 0 rfl) ?_
    refine lv_iload_n hx hb (g_27 bX5_years rfl) rfl (lv_at hl 1 rfl) ?_
    refine kRi (rV (As := [.int iA]) (rest := []) (b := qx) ⟨hx, hb, hml, hown, hts⟩ (c_X5_ruleFit l G cy qx qt qk qp qs qa qr iKp iYe iTv qsh qss qsa qse fH iA) L_X5_100 (preRV (q := (RX5, TX5, 9)) hN hP (trueIx 0 [true, false, true, true]) (sel_fm rfl rfl) 0 4 rfl rfl) rfl ⟨Nat.le_of_ble_eq_true rfl, Nat.le_of_ble_eq_true rfl⟩ hl.1 (Nat.le_of_ble_eq_true rfl) (g_182 (v := 100) bX5_years rfl) ⟨Nat.le_of_ble_eq_true rfl, Nat.le_of_ble_eq_true rfl⟩) (fun r_8 h_9 => ?_)
    rcases h_9 with ⟨rfl, h_10⟩ | ⟨rfl, h_10⟩ | ⟨rfl, h_10⟩ | ⟨rfl, h_10⟩
    · refine lv_goto (tgt := 22) hx hb dX5_years_17 (by decide +kernel) ?_
      refine lv_istore_n (lv' := [(3, .int (-2)), (0, .ref qx), (1, .int iA), (2, .int (nI k_4))]) hx hb (g_62 bX5_years rfl) rfl hl (by decide +kernel) rfl (fun ls => ?_)
      clear hl
      intro hl
      refine lv_iload_n hx hb (g_29 bX5_years rfl) rfl (lv_at hl 0 rfl) ?_
      refine lv_if_eq (tgt := 33) hx hb dX5_years_24 (by decide +kernel) (fun h9 => absurd h9 (by decide +kernel)) (fun _ => ?_)
      refine lv_aload_n hx hb (g_42 bX5_years rfl) rfl (lv_at hl 1 rfl) ?_
      refine lv_iload_n hx hb (g_29 bX5_years rfl) rfl (lv_at hl 0 rfl) ?_
      refine cVi (As := [.int (-2)]) (rest := []) (b := qx) (q := (RX5, TX5, 9)) ⟨hx, hb, hml, hown, hts⟩ (c_X5_refuse2 l G cy (s.heap).size qx qt qk qp qs qa qr iKp iYe iTv fR) L_X5_56 hN hP hD hS hA [0, 1] [false, false, true, true, true, true, true, true, true, true, true, true, true, true] rfl (by decide +kernel) rfl 0 4 rfl rfl rfl ⟨Nat.le_of_ble_eq_true rfl, Nat.le_of_ble_eq_true rfl⟩ hl.1 (Nat.le_of_ble_eq_true rfl) (g_182 (v := 56) bX5_years rfl) ⟨Nat.le_of_ble_eq_true rfl, Nat.le_of_ble_eq_true rfl⟩ (fun r_12 u_14 H locs h_13 => ?_)
      clear hP hD hS
      intro hP hD hS
      obtain ⟨fX_15, hu9, h_13⟩ := h_13
      have hPD := pd_eq [_, _, _, _, _, _, _, _, _, _, _, _, _, zzI cy qr 5 fX_15] hP hD hu9 rfl
      clear hP hD hu9
      obtain ⟨hP, hD⟩ := hPD
      subst h_13
      exact endWs [[false, false, false, false, false, false, false, false, false, false, false, false, true, true], [true, true, true, true, true, true, true, true, true, true, true, true]] hx hb hr hlocks rfl hP hD rfl (by decide +kernel) hS ⟨iKp, iYe, iTv, fX_15, tA, rfl, ⟨Or.inl ⟨rfl, Or.inr h_10, rfl⟩, rfl⟩, trivial⟩ (g_172 bX5_years rfl)
    · obtain ⟨k_16, hk_17, rfl, h_18⟩ := h_10
      refine lv_goto (tgt := 22) hx hb dX5_years_17 (by decide +kernel) ?_
      refine lv_istore_n (lv' := [(3, .int (-3)), (0, .ref qx), (1, .int (nI k_16)), (2, .int (nI k_4))]) hx hb (g_62 bX5_years rfl) rfl hl (by decide +kernel) rfl (fun ls => ?_)
      clear hl
      intro hl
      refine lv_iload_n hx hb (g_29 bX5_years rfl) rfl (lv_at hl 0 rfl) ?_
      refine lv_if_eq (tgt := 33) hx hb dX5_years_24 (by decide +kernel) (fun h9 => absurd h9 (by decide +kernel)) (fun _ => ?_)
      refine lv_aload_n hx hb (g_42 bX5_years rfl) rfl (lv_at hl 1 rfl) ?_
      refine lv_iload_n hx hb (g_29 bX5_years rfl) rfl (lv_at hl 0 rfl) ?_
      refine cVi (As := [.int (-3)]) (rest := []) (b := qx) (q := (RX5, TX5, 9)) ⟨hx, hb, hml, hown, hts⟩ (c_X5_refuse3 l G cy (s.heap).size qx qt qk qp qs qa qr iKp iYe iTv fR) L_X5_56 hN hP hD hS hA [0, 1] [false, false, true, true, true, true, true, true, true, true, true, true, true, true] rfl (by decide +kernel) rfl 0 4 rfl rfl rfl ⟨Nat.le_of_ble_eq_true rfl, Nat.le_of_ble_eq_true rfl⟩ hl.1 (Nat.le_of_ble_eq_true rfl) (g_182 (v := 56) bX5_years rfl) ⟨Nat.le_of_ble_eq_true rfl, Nat.le_of_ble_eq_true rfl⟩ (fun r_20 u_22 H locs h_21 => ?_)
      clear hP hD hS
      intro hP hD hS
      obtain ⟨fX_23, hu9, h_21⟩ := h_21
      have hPD := pd_eq [_, _, _, _, _, _, _, _, _, _, _, _, _, zzI cy qr 5 fX_23] hP hD hu9 rfl
      clear hP hD hu9
      obtain ⟨hP, hD⟩ := hPD
      subst h_21
      exact endWs [[false, false, false, false, false, false, false, false, false, false, false, false, true, true], [true, true, true, true, true, true, true, true, true, true, true, true]] hx hb hr hlocks rfl hP hD rfl (by decide +kernel) hS ⟨iKp, iYe, iTv, fX_23, tA, rfl, ⟨Or.inr (Or.inl ⟨rfl, h_3, ⟨k_16, hk_17, rfl, h_18⟩, rfl⟩), rfl⟩, trivial⟩ (g_172 bX5_years rfl)
    · obtain ⟨k_24, hk_25, rfl, h_26, h_27⟩ := h_10
      refine lv_goto (tgt := 22) hx hb dX5_years_17 (by decide +kernel) ?_
      refine lv_istore_n (lv' := [(3, .int 0), (0, .ref qx), (1, .int (nI k_24)), (2, .int (nI k_4))]) hx hb (g_62 bX5_years rfl) rfl hl (by decide +kernel) rfl (fun ls => ?_)
      clear hl
      intro hl
      refine lv_iload_n hx hb (g_29 bX5_years rfl) rfl (lv_at hl 0 rfl) ?_
      refine lv_if_eq (tgt := 33) hx hb dX5_years_24 (by decide +kernel) (fun _ => ?_) (fun h9 => absurd (by decide +kernel) h9)
      refine lv_iconst (v := 0) hx hb (g_3 bX5_years rfl) (by decide +kernel) ?_
      refine lv_istore (lv' := [(4, .int 0), (3, .int 0), (0, .ref qx), (1, .int (nI k_24)), (2, .int (nI k_4))]) hx hb (g_54 (v := 4) bX5_years rfl) hl (by decide +kernel) rfl (fun ls => ?_)
      clear hl
      intro hl
      refine lv_iconst (v := 0) hx hb (g_3 bX5_years rfl) (by decide +kernel) ?_
      refine lv_istore (lv' := [(5, .int 0), (4, .int 0), (3, .int 0), (0, .ref qx), (1, .int (nI k_24)), (2, .int (nI k_4))]) hx hb (g_54 (v := 5) bX5_years rfl) hl (by decide +kernel) rfl (fun ls => ?_)
      clear hl
      intro hl
      have lp_29 : ∀ (n_30 : Nat) (j_32 : Nat) (tJ_33 : TA) (xS_34 : Int32) (xY_35 : Int32), 20 - j_32 < n_30 → j_32 ≤ k_4 → yrG (fH k_24 - 10) (fA k_24) (k_4 - j_32) tJ_33 xS_34 = yrG (fH k_24 - 10) (fA k_24) k_4 tA 0 → T_nb tJ_33 = T_nb tA ∧ T_np tJ_33 = T_np tA → ∀ (H : Heap) (locs : List Loc) (ls : Array Slot), va_P G CL [zzO qx 4 [.ref qt, .ref qk, .ref qp, .ref qs, .ref qa, .ref qr, .int iKp, .int xY_35, .int iTv], zzI cy qr 5 fR, zzO qs 1 [.ref qsh, .ref qss, .ref qsa, .ref qse], zzI cy qsh 8 fH, zzI cy qsa 8 fA, zzO qt 3 [.int (nI (T_nb tJ_33)), .int (nI (T_np tJ_33)), .int (wb (T_wh tJ_33)), .int (wb (T_gn tJ_33)), .int (T_sd tJ_33), .ref qtw, .ref qtn, .ref qtg, .ref qta, .ref qtr, .ref qtm, .ref qtt, .ref qts], zzI cy qtw 8 (T_wo tJ_33), zzI cy qtn 8 (T_ne tJ_33), zzI cy qtg 8 (T_go tJ_33), zzI cy qta 8 (T_ag tJ_33), zzI cy qtr 8 (T_re tJ_33), zzI cy qtm 8 (T_me tJ_33), zzI cy qtt 8 (T_te tJ_33), zzI cy qts 64 (shF (T_kn tJ_33))] H → va_D A [zzO qx 4 [.ref qt, .ref qk, .ref qp, .ref qs, .ref qa, .ref qr, .int iKp, .int xY_35, .int iTv], zzI cy qr 5 fR, zzO qs 1 [.ref qsh, .ref qss, .ref qsa, .ref qse], zzI cy qsh 8 fH, zzI cy qsa 8 fA, zzO qt 3 [.int (nI (T_nb tJ_33)), .int (nI (T_np tJ_33)), .int (wb (T_wh tJ_33)), .int (wb (T_gn tJ_33)), .int (T_sd tJ_33), .ref qtw, .ref qtn, .ref qtg, .ref qta, .ref qtr, .ref qtm, .ref qtt, .ref qts], zzI cy qtw 8 (T_wo tJ_33), zzI cy qtn 8 (T_ne tJ_33), zzI cy qtg 8 (T_go tJ_33), zzI cy qta 8 (T_ag tJ_33), zzI cy qtr 8 (T_re tJ_33), zzI cy qtm 8 (T_me tJ_33), zzI cy qtt 8 (T_te tJ_33), zzI cy qts 64 (shF (T_kn tJ_33))] → va_S A s.heap H locs → lv_has ls 6 [(5, .int (nI j_32)), (4, .int xS_34), (3, .int 0), (0, .ref qx), (1, .int (nI k_24)), (2, .int (nI k_4))] → W p l e (Rm 12 0 0) s m (List.toArray (α := Value) [.ref qx, .int (nI k_24), .int (nI k_4)]) below meth c H locs 0 0 (MQ below ((Wi G (fun r u => ∃ (iX1 : Int32) (iX2 : Int32) (iX3 : Int32) (fX : Nat → Int32) (tN : TA), u = [zzO qx 4 [.ref qt, .ref qk, .ref qp, .ref qs, .ref qa, .ref qr, .int iX1, .int iX2, .int iX3], zzI cy qr 5 fX, zzO qs 1 [.ref qsh, .ref qss, .ref qsa, .ref qse], zzI cy qsh 8 fH, zzI cy qsa 8 fA, zzO qt 3 [.int (nI (T_nb tN)), .int (nI (T_np tN)), .int (wb (T_wh tN)), .int (wb (T_gn tN)), .int (T_sd tN), .ref qtw, .ref qtn, .ref qtg, .ref qta, .ref qtr, .ref qtm, .ref qtt, .ref qts], zzI cy qtw 8 (T_wo tN), zzI cy qtn 8 (T_ne tN), zzI cy qtg 8 (T_go tN), zzI cy qta 8 (T_ag tN), zzI cy qtr 8 (T_re tN), zzI cy qtm 8 (T_me tN), zzI cy qtt 8 (T_te tN), zzI cy qts 64 (shF (T_kn tN))] ∧ (PXyears fH fA tA (nI k_24) (nI k_4) r tN ∧ iX1 = iKp) ∧ (True))) A) (List.toArray (α := Value) [.ref qx, .int (nI k_24), .int (nI k_4)]) s 0 0 A) (F0 m 39 ls []) := by
        intro n_30
        induction n_30 with
        | zero => intro j_32 tJ_33 xS_34 xY_35 hm9; exact absurd hm9 (Nat.not_lt_zero _)
        | succ n_30 ih_31 =>
          intro j_32 tJ_33 xS_34 xY_35 hm_39 hj_36 hT_37 hn_38 H locs ls hP hD hS hl
          refine lv_iload hx hb (g_21 (v := 5) bX5_years rfl) (lv_at hl 0 rfl) ?_
          refine lv_iload_n hx hb (g_28 bX5_years rfl) rfl (lv_at hl 5 rfl) ?_
          refine lv_icmp_ge (tgt := 113) hx hb dX5_years_42 (by decide +kernel) (fun c_40 => ?_) (fun c_40 => ?_)
          · have hlt_41 : j_32 = k_4 := Nat.le_antisymm (by omega) (lp_ge rfl rfl (by omega) (by omega) c_40)
            have hlt_41r : yrG (fH k_24 - 10) (fA k_24) k_4 tA 0 = (tJ_33, xS_34) := by rw [← hT_37, hlt_41, Nat.sub_self]; rfl
            refine lv_aload_n hx hb (g_42 bX5_years rfl) rfl (lv_at hl 3 rfl) ?_
            refine lv_dup hx hb (g_89 bX5_years rfl) rfl ?_
            refine va_get (D := G) (ci := 4) (v := .int iTv) (C := RX5) (T := TX5) (N := 9) hx hb hts iX_X5 hown hK hP 0 rfl rfl 8 (by decide +kernel) (hts _ m_t182) (fun _ h9 => h9) rfl (g_180 (v := 338) bX5_years rfl) ?_
            refine lv_iload hx hb (g_21 (v := 4) bX5_years rfl) (lv_at hl 1 rfl) ?_
            refine lv_iadd hx hb (g_96 bX5_years rfl) ?_
            refine va_put (D := G) (ci := 4) (v := .int (iTv + xS_34)) (ty := .int) (C := RX5) (T := TX5) (N := 9) hx hb hts iX_X5 tyX5 tyX5_ok nmX5 hown hK hP hD hS 0 rfl rfl 8 (by decide +kernel) (hts _ m_t182) (fun _ h9 => h9) rfl (by decide +kernel) rfl rfl (Nat.le_of_ble_eq_true rfl) (g_181 (v := 338) bX5_years rfl) (fun H locs => ?_)
            clear hP hD hS
            intro hP hD hS
            have hPD := pd_as [zzO qx 4 [.ref qt, .ref qk, .ref qp, .ref qs, .ref qa, .ref qr, .int iKp, .int xY_35, .int (iTv + xS_34)], _, _, _, _, zzO qt 3 [.int (nI (T_nb tJ_33)), .int (nI (T_np tJ_33)), .int (wb (T_wh tJ_33)), .int (wb (T_gn tJ_33)), .int (T_sd tJ_33), .ref qtw, .ref qtn, .ref qtg, .ref qta, .ref qtr, .ref qtm, .ref qtt, .ref qts], zzI cy qtw 8 (T_wo tJ_33), zzI cy qtn 8 (T_ne tJ_33), zzI cy qtg 8 (T_go tJ_33), zzI cy qta 8 (T_ag tJ_33), zzI cy qtr 8 (T_re tJ_33), zzI cy qtm 8 (T_me tJ_33), zzI cy qtt 8 (T_te tJ_33), zzI cy qts 64 (shF (T_kn tJ_33))] hP hD rfl
            clear hP hD
            obtain ⟨hP, hD⟩ := hPD
            refine lv_iload hx hb (g_21 (v := 4) bX5_years rfl) (lv_at hl 1 rfl) ?_
            exact endWs [[true, true, true, true, true, true, true, true, true, true, true, true, true, true]] hx hb hr hlocks rfl hP hD rfl (by decide +kernel) hS ⟨iKp, xY_35, iTv + xS_34, fR, tJ_33, rfl, ⟨Or.inr (Or.inr (Or.inr ⟨k_24, k_4, hk_25, rfl, h_26, h_27, by omega, by omega, rfl, hlt_41r.symm⟩)), rfl⟩, trivial⟩ (g_172 bX5_years rfl)
          · have hlt_42 : j_32 < k_4 := lp_lt rfl rfl (by omega) (by omega) c_40
            obtain ⟨hlt_42b, hlt_42p⟩ := id hn_38
            refine lv_aload_n hx hb (g_42 bX5_years rfl) rfl (lv_at hl 3 rfl) ?_
            refine va_get (D := G) (ci := 4) (v := .ref qt) (C := RX5) (T := TX5) (N := 9) hx hb hts iX_X5 hown hK hP 0 rfl rfl 0 (by decide +kernel) (hts _ m_t174) (fun _ h9 => h9) rfl (g_180 (v := 10) bX5_years rfl) ?_
            refine lv_aload_n hx hb (g_42 bX5_years rfl) rfl (lv_at hl 3 rfl) ?_
            refine va_get (D := G) (ci := 4) (v := .ref qs) (C := RX5) (T := TX5) (N := 9) hx hb hts iX_X5 hown hK hP 0 rfl rfl 3 (by decide +kernel) (hts _ m_t177) (fun _ h9 => h9) rfl (g_180 (v := 29) bX5_years rfl) ?_
            refine lv_iload_n hx hb (g_27 bX5_years rfl) rfl (lv_at hl 4 rfl) ?_
            refine kRi (rV (As := [.int (nI k_24)]) (rest := [.ref qt]) (b := qs) ⟨hx, hb, hml, hown, hts⟩ (c_X2_kindIn l G cy qs qsh qss qsa qse fH k_24 (by first | omega | (simp only [nb_sr, np_sr, nb_wr, np_wr, nb_rd, np_rd, nb_ch, np_ch, nb_zr, np_zr, nb_za, np_za, nb_ey, np_ey, nb_hf, np_hf, nb_dd, np_dd, nb_so, np_so, nb_skn, np_skn, nb_swh, np_swh, nb_sgn, np_sgn, nb_ssd, np_ssd, nb_sgo, np_sgo, nb_sag, np_sag]; omega))) L_X5_103 (preRV (q := (RX2, TX2, 4)) hN hP [2, 3] rfl 2 1 rfl rfl) rfl ⟨Nat.le_of_ble_eq_true rfl, Nat.le_of_ble_eq_true rfl⟩ hl.1 (Nat.le_of_ble_eq_true rfl) (g_182 (v := 103) bX5_years rfl) ⟨Nat.le_of_ble_eq_true rfl, Nat.le_of_ble_eq_true rfl⟩) (fun r_43 h_44 => ?_)
            subst h_44
            refine lv_aload_n hx hb (g_42 bX5_years rfl) rfl (lv_at hl 3 rfl) ?_
            refine va_get (D := G) (ci := 4) (v := .ref qs) (C := RX5) (T := TX5) (N := 9) hx hb hts iX_X5 hown hK hP 0 rfl rfl 3 (by decide +kernel) (hts _ m_t177) (fun _ h9 => h9) rfl (g_180 (v := 29) bX5_years rfl) ?_
            refine va_getN (D := G) (ci := 1) (v := .ref qsa) (C := RX2) (T := TX2) (N := 4) hx hb hts iX_X2 hown hK hP 2 rfl rfl 2 (by decide +kernel) (va_Nw.use rfl (hN.2.1 (RX5, 112, "EachBookOnce$Shelves", "amount", "[I") (List.mem_of_getElem? (i := 28) rfl))) (fun _ h9 => h9) rfl (g_180 (v := 112) bX5_years rfl) ?_
            refine lv_iload_n hx hb (g_27 bX5_years rfl) rfl (lv_at hl 4 rfl) ?_
            refine va_iald hx hb hK hP 4 0 rfl rfl (in8 (by omega)) (g_46 bX5_years rfl) ?_
            refine lv_seti (v := fA k_24) (congrArg fA (cl8 (by omega))) ?_
            refine cSi (As := [.ref qt, .int ((fH k_24) - 10), .int (fA k_24)]) (rest := []) ⟨hx, hb, hml, hown, hts⟩ (c_X1_act l G cy (H).size qt tJ_33 qtw qtn qtg qta qtr qtm qtt qts ((fH k_24) - 10) (fA k_24) (by first | omega | (simp only [nb_sr, np_sr, nb_wr, np_wr, nb_rd, np_rd, nb_ch, np_ch, nb_zr, np_zr, nb_za, np_za, nb_ey, np_ey, nb_hf, np_hf, nb_dd, np_dd, nb_so, np_so, nb_skn, np_skn, nb_swh, np_swh, nb_sgn, np_sgn, nb_ssd, np_ssd, nb_sgo, np_sgo, nb_sag, np_sag]; omega)) (by first | omega | (simp only [nb_sr, np_sr, nb_wr, np_wr, nb_rd, np_rd, nb_ch, np_ch, nb_zr, np_zr, nb_za, np_za, nb_ey, np_ey, nb_hf, np_hf, nb_dd, np_dd, nb_so, np_so, nb_skn, np_skn, nb_swh, np_swh, nb_sgn, np_sgn, nb_ssd, np_ssd, nb_sgo, np_sgo, nb_sag, np_sag]; omega))) L_X5_119 hN hP hD hS hA (trueIx 0 [false, false, false, false, false, true, true, true, true, true, true, true, true, true]) [true, true, true, true, true, false, false, false, false, false, false, false, false, false] (sel_eq rfl rfl) (by decide +kernel) rfl rfl ⟨Nat.le_of_ble_eq_true rfl, Nat.le_of_ble_eq_true rfl⟩ hl.1 (Nat.le_of_ble_eq_true rfl) (g_184 (v := 119) bX5_years rfl) ⟨Nat.le_of_ble_eq_true rfl, Nat.le_of_ble_eq_true rfl⟩ (fun r_45 u_47 H locs h_46 => ?_)
            clear hP hD hS
            intro hP hD hS
            obtain ⟨hu9, h_46⟩ := h_46
            have hPD := pd_eq [zzO qx 4 [.ref qt, .ref qk, .ref qp, .ref qs, .ref qa, .ref qr, .int iKp, .int xY_35, .int iTv], _, _, _, _, zzO qt 3 [.int (nI (T_nb ((zact tJ_33 ((fH k_24) - 10) (fA k_24)).1))), .int (nI (T_np ((zact tJ_33 ((fH k_24) - 10) (fA k_24)).1))), .int (wb (T_wh ((zact tJ_33 ((fH k_24) - 10) (fA k_24)).1))), .int (wb (T_gn ((zact tJ_33 ((fH k_24) - 10) (fA k_24)).1))), .int (T_sd ((zact tJ_33 ((fH k_24) - 10) (fA k_24)).1)), .ref qtw, .ref qtn, .ref qtg, .ref qta, .ref qtr, .ref qtm, .ref qtt, .ref qts], zzI cy qtw 8 (T_wo ((zact tJ_33 ((fH k_24) - 10) (fA k_24)).1)), zzI cy qtn 8 (T_ne ((zact tJ_33 ((fH k_24) - 10) (fA k_24)).1)), zzI cy qtg 8 (T_go ((zact tJ_33 ((fH k_24) - 10) (fA k_24)).1)), zzI cy qta 8 (T_ag ((zact tJ_33 ((fH k_24) - 10) (fA k_24)).1)), zzI cy qtr 8 (T_re ((zact tJ_33 ((fH k_24) - 10) (fA k_24)).1)), zzI cy qtm 8 (T_me ((zact tJ_33 ((fH k_24) - 10) (fA k_24)).1)), zzI cy qtt 8 (T_te ((zact tJ_33 ((fH k_24) - 10) (fA k_24)).1)), zzI cy qts 64 (shF (T_kn ((zact tJ_33 ((fH k_24) - 10) (fA k_24)).1)))] hP hD hu9 rfl
            clear hP hD hu9
            obtain ⟨hP, hD⟩ := hPD
            subst h_46
            refine lv_pop hx hb (g_87 bX5_years rfl) rfl ?_
            refine lv_iload hx hb (g_21 (v := 4) bX5_years rfl) (lv_at hl 1 rfl) ?_
            refine lv_aload_n hx hb (g_42 bX5_years rfl) rfl (lv_at hl 3 rfl) ?_
            refine va_get (D := G) (ci := 4) (v := .ref qt) (C := RX5) (T := TX5) (N := 9) hx hb hts iX_X5 hown hK hP 0 rfl rfl 0 (by decide +kernel) (hts _ m_t174) (fun _ h9 => h9) rfl (g_180 (v := 10) bX5_years rfl) ?_
            refine kRi (rV (As := []) (rest := [.int xS_34]) (b := qt) ⟨hx, hb, hml, hown, hts⟩ (c_X4_worthNow l G cy qt ((zact tJ_33 ((fH k_24) - 10) (fA k_24)).1) qtw qtn qtg qta qtr qtm qtt qts (by first | omega | (simp only [nb_sr, np_sr, nb_wr, np_wr, nb_rd, np_rd, nb_ch, np_ch, nb_zr, np_zr, nb_za, np_za, nb_ey, np_ey, nb_hf, np_hf, nb_dd, np_dd, nb_so, np_so, nb_skn, np_skn, nb_swh, np_swh, nb_sgn, np_sgn, nb_ssd, np_ssd, nb_sgo, np_sgo, nb_sag, np_sag]; omega)) (by first | omega | (simp only [nb_sr, np_sr, nb_wr, np_wr, nb_rd, np_rd, nb_ch, np_ch, nb_zr, np_zr, nb_za, np_za, nb_ey, np_ey, nb_hf, np_hf, nb_dd, np_dd, nb_so, np_so, nb_skn, np_skn, nb_swh, np_swh, nb_sgn, np_sgn, nb_ssd, np_ssd, nb_sgo, np_sgo, nb_sag, np_sag]; omega))) L_X5_123 (preRV (q := (RX4, TX4, 13)) hN hP (trueIx 0 [false, false, false, false, false, true, true, false, false, false, false, false, false, true]) (sel_fm rfl rfl) 5 3 rfl rfl) rfl ⟨Nat.le_of_ble_eq_true rfl, Nat.le_of_ble_eq_true rfl⟩ hl.1 (Nat.le_of_ble_eq_true rfl) (g_182 (v := 123) bX5_years rfl) ⟨Nat.le_of_ble_eq_true rfl, Nat.le_of_ble_eq_true rfl⟩) (fun r_48 h_49 => ?_)
            subst h_49
            refine lv_iadd hx hb (g_96 bX5_years rfl) ?_
            refine lv_istore (lv' := [(4, .int (xS_34 + (zval ((zact tJ_33 ((fH k_24) - 10) (fA k_24)).1)))), (5, .int (nI j_32)), (3, .int 0), (0, .ref qx), (1, .int (nI k_24)), (2, .int (nI k_4))]) hx hb (g_54 (v := 4) bX5_years rfl) hl (by decide +kernel) rfl (fun ls => ?_)
            clear hl
            intro hl
            refine lv_aload_n hx hb (g_42 bX5_years rfl) rfl (lv_at hl 3 rfl) ?_
            refine va_get (D := G) (ci := 4) (v := .ref qt) (C := RX5) (T := TX5) (N := 9) hx hb hts iX_X5 hown hK hP 0 rfl rfl 0 (by decide +kernel) (hts _ m_t174) (fun _ h9 => h9) rfl (g_180 (v := 10) bX5_years rfl) ?_
            refine cVv (As := []) (rest := []) (b := qt) (q := (RX4, TX4, 13)) ⟨hx, hb, hml, hown, hts⟩ (c_X4_drawDeaths l G cy (H).size qt ((zact tJ_33 ((fH k_24) - 10) (fA k_24)).1) qtw qtn qtg qta qtr qtm qtt qts (by first | omega | (simp only [nb_sr, np_sr, nb_wr, np_wr, nb_rd, np_rd, nb_ch, np_ch, nb_zr, np_zr, nb_za, np_za, nb_ey, np_ey, nb_hf, np_hf, nb_dd, np_dd, nb_so, np_so, nb_skn, np_skn, nb_swh, np_swh, nb_sgn, np_sgn, nb_ssd, np_ssd, nb_sgo, np_sgo, nb_sag, np_sag]; omega))) L_X5_329 hN hP hD hS hA (trueIx 0 [false, false, false, false, false, true, true, true, true, true, true, true, true, true]) [true, true, true, true, true, false, false, false, false, false, false, false, false, false] (sel_eq rfl rfl) (by decide +kernel) rfl 5 3 rfl rfl rfl ⟨Nat.le_of_ble_eq_true rfl, Nat.le_of_ble_eq_true rfl⟩ hl.1 (Nat.le_of_ble_eq_true rfl) (g_182 (v := 329) bX5_years rfl) ⟨Nat.le_of_ble_eq_true rfl, Nat.le_of_ble_eq_true rfl⟩ (fun u_52 H locs h_51 => ?_)
            clear hP hD hS
            intro hP hD hS
            have hPD := pd_eq [_, _, _, _, _, zzO qt 3 [.int (nI (T_nb (zdd ((zact tJ_33 ((fH k_24) - 10) (fA k_24)).1)))), .int (nI (T_np (zdd ((zact tJ_33 ((fH k_24) - 10) (fA k_24)).1)))), .int (wb (T_wh (zdd ((zact tJ_33 ((fH k_24) - 10) (fA k_24)).1)))), .int (wb (T_gn (zdd ((zact tJ_33 ((fH k_24) - 10) (fA k_24)).1)))), .int (T_sd (zdd ((zact tJ_33 ((fH k_24) - 10) (fA k_24)).1))), .ref qtw, .ref qtn, .ref qtg, .ref qta, .ref qtr, .ref qtm, .ref qtt, .ref qts], zzI cy qtw 8 (T_wo (zdd ((zact tJ_33 ((fH k_24) - 10) (fA k_24)).1))), zzI cy qtn 8 (T_ne (zdd ((zact tJ_33 ((fH k_24) - 10) (fA k_24)).1))), zzI cy qtg 8 (T_go (zdd ((zact tJ_33 ((fH k_24) - 10) (fA k_24)).1))), zzI cy qta 8 (T_ag (zdd ((zact tJ_33 ((fH k_24) - 10) (fA k_24)).1))), zzI cy qtr 8 (T_re (zdd ((zact tJ_33 ((fH k_24) - 10) (fA k_24)).1))), zzI cy qtm 8 (T_me (zdd ((zact tJ_33 ((fH k_24) - 10) (fA k_24)).1))), zzI cy qtt 8 (T_te (zdd ((zact tJ_33 ((fH k_24) - 10) (fA k_24)).1))), zzI cy qts 64 (shF (T_kn (zdd ((zact tJ_33 ((fH k_24) - 10) (fA k_24)).1))))] hP hD h_51 rfl
            clear hP hD h_51
            obtain ⟨hP, hD⟩ := hPD
            refine lv_aload_n hx hb (g_42 bX5_years rfl) rfl (lv_at hl 3 rfl) ?_
            refine va_get (D := G) (ci := 4) (v := .ref qt) (C := RX5) (T := TX5) (N := 9) hx hb hts iX_X5 hown hK hP 0 rfl rfl 0 (by decide +kernel) (hts _ m_t174) (fun _ h9 => h9) rfl (g_180 (v := 10) bX5_years rfl) ?_
            refine cVi (As := []) (rest := []) (b := qt) (q := (RX4, TX4, 13)) ⟨hx, hb, hml, hown, hts⟩ (c_X4_endYear l G cy (H).size qt (zdd ((zact tJ_33 ((fH k_24) - 10) (fA k_24)).1)) qtw qtn qtg qta qtr qtm qtt qts (by first | omega | (simp only [nb_sr, np_sr, nb_wr, np_wr, nb_rd, np_rd, nb_ch, np_ch, nb_zr, np_zr, nb_za, np_za, nb_ey, np_ey, nb_hf, np_hf, nb_dd, np_dd, nb_so, np_so, nb_skn, np_skn, nb_swh, np_swh, nb_sgn, np_sgn, nb_ssd, np_ssd, nb_sgo, np_sgo, nb_sag, np_sag]; omega)) (by first | omega | (simp only [nb_sr, np_sr, nb_wr, np_wr, nb_rd, np_rd, nb_ch, np_ch, nb_zr, np_zr, nb_za, np_za, nb_ey, np_ey, nb_hf, np_hf, nb_dd, np_dd, nb_so, np_so, nb_skn, np_skn, nb_swh, np_swh, nb_sgn, np_sgn, nb_ssd, np_ssd, nb_sgo, np_sgo, nb_sag, np_sag]; omega))) L_X5_332 hN hP hD hS hA (trueIx 0 [false, false, false, false, false, true, true, true, true, true, true, true, true, true]) [true, true, true, true, true, false, false, false, false, false, false, false, false, false] (sel_eq rfl rfl) (by decide +kernel) rfl 5 3 rfl rfl rfl ⟨Nat.le_of_ble_eq_true rfl, Nat.le_of_ble_eq_true rfl⟩ hl.1 (Nat.le_of_ble_eq_true rfl) (g_182 (v := 332) bX5_years rfl) ⟨Nat.le_of_ble_eq_true rfl, Nat.le_of_ble_eq_true rfl⟩ (fun r_53 u_55 H locs h_54 => ?_)
            clear hP hD hS
            intro hP hD hS
            obtain ⟨hu9, h_54⟩ := h_54
            have hPD := pd_eq [_, _, _, _, _, zzO qt 3 [.int (nI (T_nb (zey (zdd ((zact tJ_33 ((fH k_24) - 10) (fA k_24)).1))))), .int (nI (T_np (zey (zdd ((zact tJ_33 ((fH k_24) - 10) (fA k_24)).1))))), .int (wb (T_wh (zey (zdd ((zact tJ_33 ((fH k_24) - 10) (fA k_24)).1))))), .int (wb (T_gn (zey (zdd ((zact tJ_33 ((fH k_24) - 10) (fA k_24)).1))))), .int (T_sd (zey (zdd ((zact tJ_33 ((fH k_24) - 10) (fA k_24)).1)))), .ref qtw, .ref qtn, .ref qtg, .ref qta, .ref qtr, .ref qtm, .ref qtt, .ref qts], zzI cy qtw 8 (T_wo (zey (zdd ((zact tJ_33 ((fH k_24) - 10) (fA k_24)).1)))), zzI cy qtn 8 (T_ne (zey (zdd ((zact tJ_33 ((fH k_24) - 10) (fA k_24)).1)))), zzI cy qtg 8 (T_go (zey (zdd ((zact tJ_33 ((fH k_24) - 10) (fA k_24)).1)))), zzI cy qta 8 (T_ag (zey (zdd ((zact tJ_33 ((fH k_24) - 10) (fA k_24)).1)))), zzI cy qtr 8 (T_re (zey (zdd ((zact tJ_33 ((fH k_24) - 10) (fA k_24)).1)))), zzI cy qtm 8 (T_me (zey (zdd ((zact tJ_33 ((fH k_24) - 10) (fA k_24)).1)))), zzI cy qtt 8 (T_te (zey (zdd ((zact tJ_33 ((fH k_24) - 10) (fA k_24)).1)))), zzI cy qts 64 (shF (T_kn (zey (zdd ((zact tJ_33 ((fH k_24) - 10) (fA k_24)).1)))))] hP hD hu9 rfl
            clear hP hD hu9
            obtain ⟨hP, hD⟩ := hPD
            subst h_54
            refine lv_pop hx hb (g_87 bX5_years rfl) rfl ?_
            refine lv_aload_n hx hb (g_42 bX5_years rfl) rfl (lv_at hl 3 rfl) ?_
            refine lv_dup hx hb (g_89 bX5_years rfl) rfl ?_
            refine va_get (D := G) (ci := 4) (v := .int xY_35) (C := RX5) (T := TX5) (N := 9) hx hb hts iX_X5 hown hK hP 0 rfl rfl 7 (by decide +kernel) (hts _ m_t181) (fun _ h9 => h9) rfl (g_180 (v := 335) bX5_years rfl) ?_
            refine lv_iconst (v := 1) hx hb (g_4 bX5_years rfl) (by decide +kernel) ?_
            refine lv_iadd hx hb (g_96 bX5_years rfl) ?_
            refine va_put (D := G) (ci := 4) (v := .int (xY_35 + 1)) (ty := .int) (C := RX5) (T := TX5) (N := 9) hx hb hts iX_X5 tyX5 tyX5_ok nmX5 hown hK hP hD hS 0 rfl rfl 7 (by decide +kernel) (hts _ m_t181) (fun _ h9 => h9) rfl (by decide +kernel) rfl rfl (Nat.le_of_ble_eq_true rfl) (g_181 (v := 335) bX5_years rfl) (fun H locs => ?_)
            clear hP hD hS
            intro hP hD hS
            have hPD := pd_as [zzO qx 4 [.ref qt, .ref qk, .ref qp, .ref qs, .ref qa, .ref qr, .int iKp, .int (xY_35 + 1), .int iTv], _, _, _, _, _, _, _, _, _, _, _, _, _] hP hD rfl
            clear hP hD
            obtain ⟨hP, hD⟩ := hPD
            refine lv_iinc (v := nI (j_32 + 1)) (lv' := [(5, .int (nI (j_32 + 1))), (4, .int (xS_34 + (zval ((zact tJ_33 ((fH k_24) - 10) (fA k_24)).1)))), (3, .int 0), (0, .ref qx), (1, .int (nI k_24)), (2, .int (nI k_4))]) hx hb dX5_years_107 hl (k := 1) rfl (nI_1 _) (by decide +kernel) rfl (fun ls => ?_)
            clear hl
            intro hl
            refine lv_goto (tgt := 39) hx hb dX5_years_110 (by decide +kernel) ?_
            exact ih_31 (j_32 + 1) (zey (zdd ((zact tJ_33 ((fH k_24) - 10) (fA k_24)).1))) (xS_34 + (zval ((zact tJ_33 ((fH k_24) - 10) (fA k_24)).1))) (xY_35 + 1) (by omega) (by omega) (by rw [← hT_37, show k_4 - j_32 = k_4 - (j_32 + 1) + 1 by omega]; rfl) (⟨(zey_nb _).1.trans ((dd_nb _ _).1.trans ((zact_nb _ _ _).1.trans hn_38.1)), (zey_nb _).2.trans ((dd_nb _ _).2.trans ((zact_nb _ _ _).2.trans hn_38.2))⟩) _ _ _ hP hD hS (lv_sub hl [0, 1, 2, 3, 4, 5] rfl)
      exact lp_29 ((20 - 0) + 1) 0 tA 0 iYe (Nat.lt_succ_self _) (Nat.zero_le _) rfl (⟨rfl, rfl⟩) _ _ ls hP hD hS (lv_sub hl [0, 1, 2, 3, 4, 5] rfl)
    · obtain ⟨k_56, hk_57, rfl, h_58, h_59⟩ := h_10
      refine lv_goto (tgt := 22) hx hb dX5_years_17 (by decide +kernel) ?_
      refine lv_istore_n (lv' := [(3, .int (-4)), (0, .ref qx), (1, .int (nI k_56)), (2, .int (nI k_4))]) hx hb (g_62 bX5_years rfl) rfl hl (by decide +kernel) rfl (fun ls => ?_)
      clear hl
      intro hl
      refine lv_iload_n hx hb (g_29 bX5_years rfl) rfl (lv_at hl 0 rfl) ?_
      refine lv_if_eq (tgt := 33) hx hb dX5_years_24 (by decide +kernel) (fun h9 => absurd h9 (by decide +kernel)) (fun _ => ?_)
      refine lv_aload_n hx hb (g_42 bX5_years rfl) rfl (lv_at hl 1 rfl) ?_
      refine lv_iload_n hx hb (g_29 bX5_years rfl) rfl (lv_at hl 0 rfl) ?_
      refine cVi (As := [.int (-4)]) (rest := []) (b := qx) (q := (RX5, TX5, 9)) ⟨hx, hb, hml, hown, hts⟩ (c_X5_refuse4 l G cy (s.heap).size qx qt qk qp qs qa qr iKp iYe iTv fR) L_X5_56 hN hP hD hS hA [0, 1] [false, false, true, true, true, true, true, true, true, true, true, true, true, true] rfl (by decide +kernel) rfl 0 4 rfl rfl rfl ⟨Nat.le_of_ble_eq_true rfl, Nat.le_of_ble_eq_true rfl⟩ hl.1 (Nat.le_of_ble_eq_true rfl) (g_182 (v := 56) bX5_years rfl) ⟨Nat.le_of_ble_eq_true rfl, Nat.le_of_ble_eq_true rfl⟩ (fun r_61 u_63 H locs h_62 => ?_)
      clear hP hD hS
      intro hP hD hS
      obtain ⟨fX_64, hu9, h_62⟩ := h_62
      have hPD := pd_eq [_, _, _, _, _, _, _, _, _, _, _, _, _, zzI cy qr 5 fX_64] hP hD hu9 rfl
      clear hP hD hu9
      obtain ⟨hP, hD⟩ := hPD
      subst h_62
      exact endWs [[false, false, false, false, false, false, false, false, false, false, false, false, true, true], [true, true, true, true, true, true, true, true, true, true, true, true]] hx hb hr hlocks rfl hP hD rfl (by decide +kernel) hS ⟨iKp, iYe, iTv, fX_64, tA, rfl, ⟨Or.inr (Or.inr (Or.inl ⟨rfl, h_3, ⟨k_56, hk_57, rfl, h_58, h_59⟩, rfl⟩)), rfl⟩, trivial⟩ (g_172 bX5_years rfl)
  · refine lv_if_eq (tgt := 20) hx hb dX5_years_9 (by decide +kernel) (fun _ => ?_) (fun h9 => absurd (by decide +kernel) h9)
    refine lv_bipush (v := (-2)) hx hb dX5_years_20 (by decide +kernel) ?_
    refine lv_istore_n (lv' := [(3, .int (-2)), (0, .ref qx), (1, .int iA), (2, .int iB)]) hx hb (g_62 bX5_years rfl) rfl hl (by decide +kernel) rfl (fun ls => ?_)
    clear hl
    intro hl
    refine lv_iload_n hx hb (g_29 bX5_years rfl) rfl (lv_at hl 0 rfl) ?_
    refine lv_if_eq (tgt := 33) hx hb dX5_years_24 (by decide +kernel) (fun h9 => absurd h9 (by decide +kernel)) (fun _ => ?_)
    refine lv_aload_n hx hb (g_42 bX5_years rfl) rfl (lv_at hl 1 rfl) ?_
    refine lv_iload_n hx hb (g_29 bX5_years rfl) rfl (lv_at hl 0 rfl) ?_
    refine cVi (As := [.int (-2)]) (rest := []) (b := qx) (q := (RX5, TX5, 9)) ⟨hx, hb, hml, hown, hts⟩ (c_X5_refuse2 l G cy (s.heap).size qx qt qk qp qs qa qr iKp iYe iTv fR) L_X5_56 hN hP hD hS hA [0, 1] [false, false, true, true, true, true, true, true, true, true, true, true, true, true] rfl (by decide +kernel) rfl 0 4 rfl rfl rfl ⟨Nat.le_of_ble_eq_true rfl, Nat.le_of_ble_eq_true rfl⟩ hl.1 (Nat.le_of_ble_eq_true rfl) (g_182 (v := 56) bX5_years rfl) ⟨Nat.le_of_ble_eq_true rfl, Nat.le_of_ble_eq_true rfl⟩ (fun r_67 u_69 H locs h_68 => ?_)
    clear hP hD hS
    intro hP hD hS
    obtain ⟨fX_70, hu9, h_68⟩ := h_68
    have hPD := pd_eq [_, _, _, _, _, _, _, _, _, _, _, _, _, zzI cy qr 5 fX_70] hP hD hu9 rfl
    clear hP hD hu9
    obtain ⟨hP, hD⟩ := hPD
    subst h_68
    exact endWs [[false, false, false, false, false, false, false, false, false, false, false, false, true, true], [true, true, true, true, true, true, true, true, true, true, true, true]] hx hb hr hlocks rfl hP hD rfl (by decide +kernel) hS ⟨iKp, iYe, iTv, fX_70, tA, rfl, ⟨Or.inl ⟨rfl, Or.inl h_3, rfl⟩, rfl⟩, trivial⟩ (g_172 bX5_years rfl)
set_option maxHeartbeats 4000000 in
set_option maxRecDepth 100000 in
theorem p_X5_ends (l : Launch) (G : va_G) (cy : Nat → ClassId) (sz : Nat) (qx : Nat) (qt : Nat) (qk : Nat) (qp : Nat) (qs : Nat) (qa : Nat) (qr : Nat) (iKp : Int32) (iYe : Int32) (iTv : Int32) (tA : TA) (qtw : Nat) (qtn : Nat) (qtg : Nat) (qta : Nat) (qtr : Nat) (qtm : Nat) (qtt : Nat) (qts : Nat)  (hB : T_nb tA ≤ 8) (hPp : T_np tA ≤ 8) : MW l yX5_ends cX5_ends 1 (some .int) 12 0 0 G cy [zzO qx 4 [.ref qt, .ref qk, .ref qp, .ref qs, .ref qa, .ref qr, .int iKp, .int iYe, .int iTv], zzO qt 3 [.int (nI (T_nb tA)), .int (nI (T_np tA)), .int (wb (T_wh tA)), .int (wb (T_gn tA)), .int (T_sd tA), .ref qtw, .ref qtn, .ref qtg, .ref qta, .ref qtr, .ref qtm, .ref qtt, .ref qts], zzI cy qtw 8 (T_wo tA), zzI cy qtn 8 (T_ne tA), zzI cy qtg 8 (T_go tA), zzI cy qta 8 (T_ag tA), zzI cy qtr 8 (T_re tA), zzI cy qtm 8 (T_me tA), zzI cy qtt 8 (T_te tA), zzI cy qts 64 (shF (T_kn tA))] sz [.ref qx] (Wi G (fun r u => ∃ (iX1 : Int32) (iX2 : Int32) (iX3 : Int32) (tN : TA), u = [zzO qx 4 [.ref qt, .ref qk, .ref qp, .ref qs, .ref qa, .ref qr, .int iX1, .int iX2, .int iX3], zzO qt 3 [.int (nI (T_nb tN)), .int (nI (T_np tN)), .int (wb (T_wh tN)), .int (wb (T_gn tN)), .int (T_sd tN), .ref qtw, .ref qtn, .ref qtg, .ref qta, .ref qtr, .ref qtm, .ref qtt, .ref qts], zzI cy qtw 8 (T_wo tN), zzI cy qtn 8 (T_ne tN), zzI cy qtg 8 (T_go tN), zzI cy qta 8 (T_ag tN), zzI cy qtr 8 (T_re tN), zzI cy qtm 8 (T_me tN), zzI cy qtt 8 (T_te tN), zzI cy qts 64 (shF (T_kn tN))] ∧ (tN = zey tA ∧ r = zbc (zthere tA &&& wb (T_gn (zey tA))) ∧ iX1 = iKp) ∧ (True))) := by
  refine enW RX5 (by decide +kernel) rfl (Nat.le_of_ble_eq_true rfl) (fun p e s m below meth c ls A hx hb hml hown hts hr hlocks hP hN hl hin hD hA hS => ?_)
  have hin : meth.name = _ := hin
  have hK := hN.1
  replace hl : lv_has ls 1 [(0, .ref qx)] := hl
  refine lv_aload_n hx hb (g_42 bX5_ends rfl) rfl (lv_at hl 0 rfl) ?_
  refine lv_dup hx hb (g_89 bX5_ends rfl) rfl ?_
  refine va_get (D := G) (ci := 4) (v := .int iYe) (C := RX5) (T := TX5) (N := 9) hx hb hts iX_X5 hown hK hP 0 rfl rfl 7 (by decide +kernel) (hts _ m_t181) (fun _ h9 => h9) rfl (g_180 (v := 335) bX5_ends rfl) ?_
  refine lv_iconst (v := 1) hx hb (g_4 bX5_ends rfl) (by decide +kernel) ?_
  refine lv_iadd hx hb (g_96 bX5_ends rfl) ?_
  refine va_put (D := G) (ci := 4) (v := .int (iYe + 1)) (ty := .int) (C := RX5) (T := TX5) (N := 9) hx hb hts iX_X5 tyX5 tyX5_ok nmX5 hown hK hP hD hS 0 rfl rfl 7 (by decide +kernel) (hts _ m_t181) (fun _ h9 => h9) rfl (by decide +kernel) rfl rfl (Nat.le_of_ble_eq_true rfl) (g_181 (v := 335) bX5_ends rfl) (fun H locs => ?_)
  clear hP hD hS
  intro hP hD hS
  have hPD := pd_as [zzO qx 4 [.ref qt, .ref qk, .ref qp, .ref qs, .ref qa, .ref qr, .int iKp, .int (iYe + 1), .int iTv], _, _, _, _, _, _, _, _, _] hP hD rfl
  clear hP hD
  obtain ⟨hP, hD⟩ := hPD
  refine lv_aload_n hx hb (g_42 bX5_ends rfl) rfl (lv_at hl 0 rfl) ?_
  refine va_get (D := G) (ci := 4) (v := .ref qt) (C := RX5) (T := TX5) (N := 9) hx hb hts iX_X5 hown hK hP 0 rfl rfl 0 (by decide +kernel) (hts _ m_t174) (fun _ h9 => h9) rfl (g_180 (v := 10) bX5_ends rfl) ?_
  refine cVi (As := []) (rest := []) (b := qt) (q := (RX4, TX4, 13)) ⟨hx, hb, hml, hown, hts⟩ (c_X4_endYear l G cy (H).size qt tA qtw qtn qtg qta qtr qtm qtt qts hB hPp) L_X5_332 hN hP hD hS hA (trueIx 0 [false, true, true, true, true, true, true, true, true, true]) [true, false, false, false, false, false, false, false, false, false] (sel_eq rfl rfl) (by decide +kernel) rfl 1 3 rfl rfl rfl ⟨Nat.le_of_ble_eq_true rfl, Nat.le_of_ble_eq_true rfl⟩ hl.1 (Nat.le_of_ble_eq_true rfl) (g_182 (v := 332) bX5_ends rfl) ⟨Nat.le_of_ble_eq_true rfl, Nat.le_of_ble_eq_true rfl⟩ (fun r_1 u_3 H locs h_2 => ?_)
  clear hP hD hS
  intro hP hD hS
  obtain ⟨hu9, h_2⟩ := h_2
  have hPD := pd_eq [_, zzO qt 3 [.int (nI (T_nb (zey tA))), .int (nI (T_np (zey tA))), .int (wb (T_wh (zey tA))), .int (wb (T_gn (zey tA))), .int (T_sd (zey tA)), .ref qtw, .ref qtn, .ref qtg, .ref qta, .ref qtr, .ref qtm, .ref qtt, .ref qts], zzI cy qtw 8 (T_wo (zey tA)), zzI cy qtn 8 (T_ne (zey tA)), zzI cy qtg 8 (T_go (zey tA)), zzI cy qta 8 (T_ag (zey tA)), zzI cy qtr 8 (T_re (zey tA)), zzI cy qtm 8 (T_me (zey tA)), zzI cy qtt 8 (T_te (zey tA)), zzI cy qts 64 (shF (T_kn (zey tA)))] hP hD hu9 rfl
  clear hP hD hu9
  obtain ⟨hP, hD⟩ := hPD
  subst h_2
  exact endWs [[true, true, true, true, true, true, true, true, true, true]] hx hb hr hlocks rfl hP hD rfl (by decide +kernel) hS ⟨iKp, iYe + 1, iTv, (zey tA), rfl, ⟨rfl, rfl, rfl⟩, trivial⟩ (g_172 bX5_ends rfl)
set_option maxHeartbeats 4000000 in
set_option maxRecDepth 100000 in
theorem p_X5_seed (l : Launch) (G : va_G) (cy : Nat → ClassId) (sz : Nat) (qx : Nat) (qt : Nat) (qk : Nat) (qp : Nat) (qs : Nat) (qa : Nat) (qr : Nat) (iKp : Int32) (iYe : Int32) (iTv : Int32) (tA : TA) (qtw : Nat) (qtn : Nat) (qtg : Nat) (qta : Nat) (qtr : Nat) (qtm : Nat) (qtt : Nat) (qts : Nat) (iA : Int32)  (hB : T_nb tA ≤ 8) (hPp : T_np tA ≤ 8) : MW l yX5_seed cX5_seed 3 (some .int) 12 0 0 G cy [zzO qx 4 [.ref qt, .ref qk, .ref qp, .ref qs, .ref qa, .ref qr, .int iKp, .int iYe, .int iTv], zzO qt 3 [.int (nI (T_nb tA)), .int (nI (T_np tA)), .int (wb (T_wh tA)), .int (wb (T_gn tA)), .int (T_sd tA), .ref qtw, .ref qtn, .ref qtg, .ref qta, .ref qtr, .ref qtm, .ref qtt, .ref qts], zzI cy qtw 8 (T_wo tA), zzI cy qtn 8 (T_ne tA), zzI cy qtg 8 (T_go tA), zzI cy qta 8 (T_ag tA), zzI cy qtr 8 (T_re tA), zzI cy qtm 8 (T_me tA), zzI cy qtt 8 (T_te tA), zzI cy qts 64 (shF (T_kn tA))] sz [.ref qx, .int iA] (Wi G (fun r u => ∃ (tN : TA), u = [zzO qx 4 [.ref qt, .ref qk, .ref qp, .ref qs, .ref qa, .ref qr, .int iKp, .int iYe, .int iTv], zzO qt 3 [.int (nI (T_nb tN)), .int (nI (T_np tN)), .int (wb (T_wh tN)), .int (wb (T_gn tN)), .int (T_sd tN), .ref qtw, .ref qtn, .ref qtg, .ref qta, .ref qtr, .ref qtm, .ref qtt, .ref qts], zzI cy qtw 8 (T_wo tN), zzI cy qtn 8 (T_ne tN), zzI cy qtg 8 (T_go tN), zzI cy qta 8 (T_ag tN), zzI cy qtr 8 (T_re tN), zzI cy qtm 8 (T_me tN), zzI cy qtt 8 (T_te tN), zzI cy qts 64 (shF (T_kn tN))] ∧ (tN = T_setsd tA iA ∧ r = T_sd tA) ∧ (True))) := by
  refine enW RX5 (by decide +kernel) rfl (Nat.le_of_ble_eq_true rfl) (fun p e s m below meth c ls A hx hb hml hown hts hr hlocks hP hN hl hin hD hA hS => ?_)
  have hin : meth.name = _ := hin
  have hK := hN.1
  replace hl : lv_has ls 3 [(0, .ref qx), (1, .int iA)] := hl
  refine lv_aload_n hx hb (g_42 bX5_seed rfl) rfl (lv_at hl 0 rfl) ?_
  refine va_get (D := G) (ci := 4) (v := .ref qt) (C := RX5) (T := TX5) (N := 9) hx hb hts iX_X5 hown hK hP 0 rfl rfl 0 (by decide +kernel) (hts _ m_t174) (fun _ h9 => h9) rfl (g_180 (v := 10) bX5_seed rfl) ?_
  refine va_getN (D := G) (ci := 3) (v := .int (T_sd tA)) (C := RX4) (T := TX4) (N := 13) hx hb hts iX_X4 hown hK hP 1 rfl rfl 4 (by decide +kernel) (va_Nw.use rfl (hN.2.1 (RX5, 341, "EachBookOnce$Town", "luck", "I") (List.mem_of_getElem? (i := 13) rfl))) (fun _ h9 => h9) rfl (g_180 (v := 341) bX5_seed rfl) ?_
  refine lv_istore_n (lv' := [(2, .int (T_sd tA)), (0, .ref qx), (1, .int iA)]) hx hb (g_61 bX5_seed rfl) rfl hl (by decide +kernel) rfl (fun ls => ?_)
  clear hl
  intro hl
  refine lv_aload_n hx hb (g_42 bX5_seed rfl) rfl (lv_at hl 1 rfl) ?_
  refine va_get (D := G) (ci := 4) (v := .ref qt) (C := RX5) (T := TX5) (N := 9) hx hb hts iX_X5 hown hK hP 0 rfl rfl 0 (by decide +kernel) (hts _ m_t174) (fun _ h9 => h9) rfl (g_180 (v := 10) bX5_seed rfl) ?_
  refine lv_iload_n hx hb (g_27 bX5_seed rfl) rfl (lv_at hl 2 rfl) ?_
  refine va_putN (D := G) (ci := 3) (v := .int iA) (ty := .int) (C := RX4) (T := TX4) (N := 13) hx hb hts iX_X4 tyX4 tyX4_ok nmX4 hown hK hP hD hS 1 rfl rfl 4 (by decide +kernel) (va_Nw.use rfl (hN.2.1 (RX5, 341, "EachBookOnce$Town", "luck", "I") (List.mem_of_getElem? (i := 13) rfl))) (fun _ h9 => h9) rfl (by decide +kernel) rfl rfl (Nat.le_of_ble_eq_true rfl) (g_181 (v := 341) bX5_seed rfl) (fun H locs => ?_)
  clear hP hD hS
  intro hP hD hS
  have hPD := pd_as [_, zzO qt 3 [.int (nI (T_nb tA)), .int (nI (T_np tA)), .int (wb (T_wh tA)), .int (wb (T_gn tA)), .int iA, .ref qtw, .ref qtn, .ref qtg, .ref qta, .ref qtr, .ref qtm, .ref qtt, .ref qts], _, _, _, _, _, _, _, _] hP hD rfl
  clear hP hD
  obtain ⟨hP, hD⟩ := hPD
  have hPD := pd_as [_, zzO qt 3 [.int (nI (T_nb (T_setsd tA iA))), .int (nI (T_np (T_setsd tA iA))), .int (wb (T_wh (T_setsd tA iA))), .int (wb (T_gn (T_setsd tA iA))), .int (T_sd (T_setsd tA iA)), .ref qtw, .ref qtn, .ref qtg, .ref qta, .ref qtr, .ref qtm, .ref qtt, .ref qts], zzI cy qtw 8 (T_wo (T_setsd tA iA)), zzI cy qtn 8 (T_ne (T_setsd tA iA)), zzI cy qtg 8 (T_go (T_setsd tA iA)), zzI cy qta 8 (T_ag (T_setsd tA iA)), zzI cy qtr 8 (T_re (T_setsd tA iA)), zzI cy qtm 8 (T_me (T_setsd tA iA)), zzI cy qtt 8 (T_te (T_setsd tA iA)), zzI cy qts 64 (shF (T_kn (T_setsd tA iA)))] hP hD rfl
  clear hP hD
  obtain ⟨hP, hD⟩ := hPD
  refine lv_iload_n hx hb (g_28 bX5_seed rfl) rfl (lv_at hl 0 rfl) ?_
  exact endWs [[true, true, true, true, true, true, true, true, true, true]] hx hb hr hlocks rfl hP hD rfl (by decide +kernel) hS ⟨(T_setsd tA iA), rfl, ⟨rfl, rfl⟩, trivial⟩ (g_172 bX5_seed rfl)
set_option maxHeartbeats 4000000 in
set_option maxRecDepth 100000 in
theorem p_X5_image (l : Launch) (G : va_G) (cy : Nat → ClassId) (sz : Nat) (qx : Nat) (qt : Nat) (qk : Nat) (qp : Nat) (qs : Nat) (qa : Nat) (qr : Nat) (iKp : Int32) (iYe : Int32) (iTv : Int32) (tA : TA) (qtw : Nat) (qtn : Nat) (qtg : Nat) (qta : Nat) (qtr : Nat) (qtm : Nat) (qtt : Nat) (qts : Nat) (tB : TA) (qkw : Nat) (qkn : Nat) (qkg : Nat) (qka : Nat) (qkr : Nat) (qkm : Nat) (qkt : Nat) (qks : Nat)  (hB : T_nb tA ≤ 8) (hPp : T_np tA ≤ 8) : MW l yX5_image cX5_image 1 (some .int) 12 0 0 G cy [zzO qx 4 [.ref qt, .ref qk, .ref qp, .ref qs, .ref qa, .ref qr, .int iKp, .int iYe, .int iTv], zzO qt 3 [.int (nI (T_nb tA)), .int (nI (T_np tA)), .int (wb (T_wh tA)), .int (wb (T_gn tA)), .int (T_sd tA), .ref qtw, .ref qtn, .ref qtg, .ref qta, .ref qtr, .ref qtm, .ref qtt, .ref qts], zzI cy qtw 8 (T_wo tA), zzI cy qtn 8 (T_ne tA), zzI cy qtg 8 (T_go tA), zzI cy qta 8 (T_ag tA), zzI cy qtr 8 (T_re tA), zzI cy qtm 8 (T_me tA), zzI cy qtt 8 (T_te tA), zzI cy qts 64 (shF (T_kn tA)), zzO qk 3 [.int (nI (T_nb tB)), .int (nI (T_np tB)), .int (wb (T_wh tB)), .int (wb (T_gn tB)), .int (T_sd tB), .ref qkw, .ref qkn, .ref qkg, .ref qka, .ref qkr, .ref qkm, .ref qkt, .ref qks], zzI cy qkw 8 (T_wo tB), zzI cy qkn 8 (T_ne tB), zzI cy qkg 8 (T_go tB), zzI cy qka 8 (T_ag tB), zzI cy qkr 8 (T_re tB), zzI cy qkm 8 (T_me tB), zzI cy qkt 8 (T_te tB), zzI cy qks 64 (shF (T_kn tB))] sz [.ref qx] (Wi G (fun r u => ∃ (iX1 : Int32) (iX2 : Int32) (iX3 : Int32) (tM : TA), u = [zzO qx 4 [.ref qt, .ref qk, .ref qp, .ref qs, .ref qa, .ref qr, .int iX1, .int iX2, .int iX3], zzO qt 3 [.int (nI (T_nb tA)), .int (nI (T_np tA)), .int (wb (T_wh tA)), .int (wb (T_gn tA)), .int (T_sd tA), .ref qtw, .ref qtn, .ref qtg, .ref qta, .ref qtr, .ref qtm, .ref qtt, .ref qts], zzI cy qtw 8 (T_wo tA), zzI cy qtn 8 (T_ne tA), zzI cy qtg 8 (T_go tA), zzI cy qta 8 (T_ag tA), zzI cy qtr 8 (T_re tA), zzI cy qtm 8 (T_me tA), zzI cy qtt 8 (T_te tA), zzI cy qts 64 (shF (T_kn tA)), zzO qk 3 [.int (nI (T_nb tM)), .int (nI (T_np tM)), .int (wb (T_wh tM)), .int (wb (T_gn tM)), .int (T_sd tM), .ref qkw, .ref qkn, .ref qkg, .ref qka, .ref qkr, .ref qkm, .ref qkt, .ref qks], zzI cy qkw 8 (T_wo tM), zzI cy qkn 8 (T_ne tM), zzI cy qkg 8 (T_go tM), zzI cy qka 8 (T_ag tM), zzI cy qkr 8 (T_re tM), zzI cy qkm 8 (T_me tM), zzI cy qkt 8 (T_te tM), zzI cy qks 64 (shF (T_kn tM))] ∧ (tM = tA ∧ r = 1 ∧ iX1 = 1) ∧ (True))) := by
  refine enW RX5 (by decide +kernel) rfl (Nat.le_of_ble_eq_true rfl) (fun p e s m below meth c ls A hx hb hml hown hts hr hlocks hP hN hl hin hD hA hS => ?_)
  have hin : meth.name = _ := hin
  have hK := hN.1
  replace hl : lv_has ls 1 [(0, .ref qx)] := hl
  refine lv_aload_n hx hb (g_42 bX5_image rfl) rfl (lv_at hl 0 rfl) ?_
  refine va_get (D := G) (ci := 4) (v := .ref qk) (C := RX5) (T := TX5) (N := 9) hx hb hts iX_X5 hown hK hP 0 rfl rfl 1 (by decide +kernel) (hts _ m_t175) (fun _ h9 => h9) rfl (g_180 (v := 16) bX5_image rfl) ?_
  refine lv_aload_n hx hb (g_42 bX5_image rfl) rfl (lv_at hl 0 rfl) ?_
  refine va_get (D := G) (ci := 4) (v := .ref qt) (C := RX5) (T := TX5) (N := 9) hx hb hts iX_X5 hown hK hP 0 rfl rfl 0 (by decide +kernel) (hts _ m_t174) (fun _ h9 => h9) rfl (g_180 (v := 10) bX5_image rfl) ?_
  refine cVv (As := [.ref qt]) (rest := []) (b := qk) (q := (RX4, TX4, 13)) ⟨hx, hb, hml, hown, hts⟩ (c_X4_become l G cy (s.heap).size qk tB qkw qkn qkg qka qkr qkm qkt qks qt tA qtw qtn qtg qta qtr qtm qtt qts) L_X5_164 hN hP hD hS hA (trueIxs [[false, false, false, false, false, false, false, false, false, false, true, true, true, true, true, true, true, true, true], [false, true, true, true, true, true, true, true, true, true]]) [true, false, false, false, false, false, false, false, false, false, false, false, false, false, false, false, false, false, false] (sels_eq rfl rfl) (by decide +kernel) rfl 10 3 rfl rfl rfl ⟨Nat.le_of_ble_eq_true rfl, Nat.le_of_ble_eq_true rfl⟩ hl.1 (Nat.le_of_ble_eq_true rfl) (g_182 (v := 164) bX5_image rfl) ⟨Nat.le_of_ble_eq_true rfl, Nat.le_of_ble_eq_true rfl⟩ (fun u_3 H locs h_2 => ?_)
  clear hP hD hS
  intro hP hD hS
  have hPD := pd_eq [_, zzO qk 3 [.int (nI (T_nb tA)), .int (nI (T_np tA)), .int (wb (T_wh tA)), .int (wb (T_gn tA)), .int (T_sd tA), .ref qkw, .ref qkn, .ref qkg, .ref qka, .ref qkr, .ref qkm, .ref qkt, .ref qks], zzI cy qkw 8 (T_wo tA), zzI cy qkn 8 (T_ne tA), zzI cy qkg 8 (T_go tA), zzI cy qka 8 (T_ag tA), zzI cy qkr 8 (T_re tA), zzI cy qkm 8 (T_me tA), zzI cy qkt 8 (T_te tA), zzI cy qks 64 (shF (T_kn tA)), _, _, _, _, _, _, _, _, _] hP hD h_2 rfl
  clear hP hD h_2
  obtain ⟨hP, hD⟩ := hPD
  refine lv_aload_n hx hb (g_42 bX5_image rfl) rfl (lv_at hl 0 rfl) ?_
  refine lv_iconst (v := 1) hx hb (g_4 bX5_image rfl) (by decide +kernel) ?_
  refine va_put (D := G) (ci := 4) (v := .int 1) (ty := .boolean) (C := RX5) (T := TX5) (N := 9) hx hb hts iX_X5 tyX5 tyX5_ok nmX5 hown hK hP hD hS 0 rfl rfl 6 (by decide +kernel) (hts _ m_t180) (fun _ h9 => h9) rfl (by decide +kernel) rfl rfl (Nat.le_of_ble_eq_true rfl) (g_181 (v := 344) bX5_image rfl) (fun H locs => ?_)
  clear hP hD hS
  intro hP hD hS
  have hPD := pd_as [zzO qx 4 [.ref qt, .ref qk, .ref qp, .ref qs, .ref qa, .ref qr, .int 1, .int iYe, .int iTv], _, _, _, _, _, _, _, _, _, _, _, _, _, _, _, _, _, _] hP hD rfl
  clear hP hD
  obtain ⟨hP, hD⟩ := hPD
  refine lv_iconst (v := 1) hx hb (g_4 bX5_image rfl) (by decide +kernel) ?_
  exact endWs [[true, false, false, false, false, false, false, false, false, false, true, true, true, true, true, true, true, true, true], [false, true, true, true, true, true, true, true, true, true]] hx hb hr hlocks rfl hP hD rfl (by decide +kernel) hS ⟨1, iYe, iTv, tA, rfl, ⟨rfl, rfl, rfl⟩, trivial⟩ (g_172 bX5_image rfl)
set_option maxHeartbeats 4000000 in
set_option maxRecDepth 100000 in
theorem p_X5_back (l : Launch) (G : va_G) (cy : Nat → ClassId) (sz : Nat) (qx : Nat) (qt : Nat) (qk : Nat) (qp : Nat) (qs : Nat) (qa : Nat) (qr : Nat) (iKp : Int32) (iYe : Int32) (iTv : Int32) (fR : Nat → Int32) (tA : TA) (qtw : Nat) (qtn : Nat) (qtg : Nat) (qta : Nat) (qtr : Nat) (qtm : Nat) (qtt : Nat) (qts : Nat) (tB : TA) (qkw : Nat) (qkn : Nat) (qkg : Nat) (qka : Nat) (qkr : Nat) (qkm : Nat) (qkt : Nat) (qks : Nat)  (hB : T_nb tA ≤ 8) (hPp : T_np tA ≤ 8) : MW l yX5_back cX5_back 1 (some .int) 12 0 0 G cy [zzO qx 4 [.ref qt, .ref qk, .ref qp, .ref qs, .ref qa, .ref qr, .int iKp, .int iYe, .int iTv], zzI cy qr 5 fR, zzO qt 3 [.int (nI (T_nb tA)), .int (nI (T_np tA)), .int (wb (T_wh tA)), .int (wb (T_gn tA)), .int (T_sd tA), .ref qtw, .ref qtn, .ref qtg, .ref qta, .ref qtr, .ref qtm, .ref qtt, .ref qts], zzI cy qtw 8 (T_wo tA), zzI cy qtn 8 (T_ne tA), zzI cy qtg 8 (T_go tA), zzI cy qta 8 (T_ag tA), zzI cy qtr 8 (T_re tA), zzI cy qtm 8 (T_me tA), zzI cy qtt 8 (T_te tA), zzI cy qts 64 (shF (T_kn tA)), zzO qk 3 [.int (nI (T_nb tB)), .int (nI (T_np tB)), .int (wb (T_wh tB)), .int (wb (T_gn tB)), .int (T_sd tB), .ref qkw, .ref qkn, .ref qkg, .ref qka, .ref qkr, .ref qkm, .ref qkt, .ref qks], zzI cy qkw 8 (T_wo tB), zzI cy qkn 8 (T_ne tB), zzI cy qkg 8 (T_go tB), zzI cy qka 8 (T_ag tB), zzI cy qkr 8 (T_re tB), zzI cy qkm 8 (T_me tB), zzI cy qkt 8 (T_te tB), zzI cy qks 64 (shF (T_kn tB))] sz [.ref qx] (Wi G (fun r u => ∃ (fX : Nat → Int32) (tN : TA), u = [zzO qx 4 [.ref qt, .ref qk, .ref qp, .ref qs, .ref qa, .ref qr, .int iKp, .int iYe, .int iTv], zzI cy qr 5 fX, zzO qt 3 [.int (nI (T_nb tN)), .int (nI (T_np tN)), .int (wb (T_wh tN)), .int (wb (T_gn tN)), .int (T_sd tN), .ref qtw, .ref qtn, .ref qtg, .ref qta, .ref qtr, .ref qtm, .ref qtt, .ref qts], zzI cy qtw 8 (T_wo tN), zzI cy qtn 8 (T_ne tN), zzI cy qtg 8 (T_go tN), zzI cy qta 8 (T_ag tN), zzI cy qtr 8 (T_re tN), zzI cy qtm 8 (T_me tN), zzI cy qtt 8 (T_te tN), zzI cy qts 64 (shF (T_kn tN)), zzO qk 3 [.int (nI (T_nb tB)), .int (nI (T_np tB)), .int (wb (T_wh tB)), .int (wb (T_gn tB)), .int (T_sd tB), .ref qkw, .ref qkn, .ref qkg, .ref qka, .ref qkr, .ref qkm, .ref qkt, .ref qks], zzI cy qkw 8 (T_wo tB), zzI cy qkn 8 (T_ne tB), zzI cy qkg 8 (T_go tB), zzI cy qka 8 (T_ag tB), zzI cy qkr 8 (T_re tB), zzI cy qkm 8 (T_me tB), zzI cy qkt 8 (T_te tB), zzI cy qks 64 (shF (T_kn tB))] ∧ ((iKp = 0 ∧ r = -5 ∧ tN = tA) ∨ (¬ iKp = 0 ∧ r = 1 ∧ tN = tB)) ∧ (True))) := by
  refine enW RX5 (by decide +kernel) rfl (Nat.le_of_ble_eq_true rfl) (fun p e s m below meth c ls A hx hb hml hown hts hr hlocks hP hN hl hin hD hA hS => ?_)
  have hin : meth.name = _ := hin
  have hK := hN.1
  replace hl : lv_has ls 1 [(0, .ref qx)] := hl
  refine lv_aload_n hx hb (g_42 bX5_back rfl) rfl (lv_at hl 0 rfl) ?_
  refine va_get (D := G) (ci := 4) (v := .int iKp) (C := RX5) (T := TX5) (N := 9) hx hb hts iX_X5 hown hK hP 0 rfl rfl 6 (by decide +kernel) (hts _ m_t180) (fun _ h9 => h9) rfl (g_180 (v := 344) bX5_back rfl) ?_
  refine lv_if_ne (tgt := 14) hx hb dX5_back_4 (by decide +kernel) (fun c_1 => ?_) (fun c_1 => ?_)
  · refine lv_aload_n hx hb (g_42 bX5_back rfl) rfl (lv_at hl 0 rfl) ?_
    refine va_get (D := G) (ci := 4) (v := .ref qt) (C := RX5) (T := TX5) (N := 9) hx hb hts iX_X5 hown hK hP 0 rfl rfl 0 (by decide +kernel) (hts _ m_t174) (fun _ h9 => h9) rfl (g_180 (v := 10) bX5_back rfl) ?_
    refine lv_aload_n hx hb (g_42 bX5_back rfl) rfl (lv_at hl 0 rfl) ?_
    refine va_get (D := G) (ci := 4) (v := .ref qk) (C := RX5) (T := TX5) (N := 9) hx hb hts iX_X5 hown hK hP 0 rfl rfl 1 (by decide +kernel) (hts _ m_t175) (fun _ h9 => h9) rfl (g_180 (v := 16) bX5_back rfl) ?_
    refine cVv (As := [.ref qk]) (rest := []) (b := qt) (q := (RX4, TX4, 13)) ⟨hx, hb, hml, hown, hts⟩ (c_X4_become l G cy (s.heap).size qt tA qtw qtn qtg qta qtr qtm qtt qts qk tB qkw qkn qkg qka qkr qkm qkt qks) L_X5_164 hN hP hD hS hA (trueIx 0 [false, false, true, true, true, true, true, true, true, true, true, true, true, true, true, true, true, true, true, true]) [true, true, false, false, false, false, false, false, false, false, false, false, false, false, false, false, false, false, false, false] (sel_eq rfl rfl) (by decide +kernel) rfl 2 3 rfl rfl rfl ⟨Nat.le_of_ble_eq_true rfl, Nat.le_of_ble_eq_true rfl⟩ hl.1 (Nat.le_of_ble_eq_true rfl) (g_182 (v := 164) bX5_back rfl) ⟨Nat.le_of_ble_eq_true rfl, Nat.le_of_ble_eq_true rfl⟩ (fun u_4 H locs h_3 => ?_)
    clear hP hD hS
    intro hP hD hS
    have hPD := pd_eq [_, _, zzO qt 3 [.int (nI (T_nb tB)), .int (nI (T_np tB)), .int (wb (T_wh tB)), .int (wb (T_gn tB)), .int (T_sd tB), .ref qtw, .ref qtn, .ref qtg, .ref qta, .ref qtr, .ref qtm, .ref qtt, .ref qts], zzI cy qtw 8 (T_wo tB), zzI cy qtn 8 (T_ne tB), zzI cy qtg 8 (T_go tB), zzI cy qta 8 (T_ag tB), zzI cy qtr 8 (T_re tB), zzI cy qtm 8 (T_me tB), zzI cy qtt 8 (T_te tB), zzI cy qts 64 (shF (T_kn tB)), _, _, _, _, _, _, _, _, _] hP hD h_3 rfl
    clear hP hD h_3
    obtain ⟨hP, hD⟩ := hPD
    refine lv_iconst (v := 1) hx hb (g_4 bX5_back rfl) (by decide +kernel) ?_
    exact endWs [[true, true, true, true, true, true, true, true, true, true, true, true, true, true, true, true, true, true, true, true]] hx hb hr hlocks rfl hP hD rfl (by decide +kernel) hS ⟨fR, tB, rfl, Or.inr ⟨c_1, rfl, rfl⟩, trivial⟩ (g_172 bX5_back rfl)
  · refine lv_aload_n hx hb (g_42 bX5_back rfl) rfl (lv_at hl 0 rfl) ?_
    refine lv_bipush (v := (-5)) hx hb dX5_back_8 (by decide +kernel) ?_
    refine cVi (As := [.int (-5)]) (rest := []) (b := qx) (q := (RX5, TX5, 9)) ⟨hx, hb, hml, hown, hts⟩ (c_X5_refuse5 l G cy (s.heap).size qx qt qk qp qs qa qr iKp iYe iTv fR) L_X5_56 hN hP hD hS hA [0, 1] [false, false, true, true, true, true, true, true, true, true, true, true, true, true, true, true, true, true, true, true] rfl (by decide +kernel) rfl 0 4 rfl rfl rfl ⟨Nat.le_of_ble_eq_true rfl, Nat.le_of_ble_eq_true rfl⟩ hl.1 (Nat.le_of_ble_eq_true rfl) (g_182 (v := 56) bX5_back rfl) ⟨Nat.le_of_ble_eq_true rfl, Nat.le_of_ble_eq_true rfl⟩ (fun r_5 u_7 H locs h_6 => ?_)
    clear hP hD hS
    intro hP hD hS
    obtain ⟨fX_8, hu9, h_6⟩ := h_6
    have hPD := pd_eq [_, _, _, _, _, _, _, _, _, _, _, _, _, _, _, _, _, _, _, zzI cy qr 5 fX_8] hP hD hu9 rfl
    clear hP hD hu9
    obtain ⟨hP, hD⟩ := hPD
    subst h_6
    exact endWs [[false, false, false, false, false, false, false, false, false, false, false, false, false, false, false, false, false, false, true, true], [true, true, true, true, true, true, true, true, true, true, true, true, true, true, true, true, true, true]] hx hb hr hlocks rfl hP hD rfl (by decide +kernel) hS ⟨fX_8, tA, rfl, Or.inl ⟨c_1, rfl, rfl⟩, trivial⟩ (g_172 bX5_back rfl)
set_option maxHeartbeats 4000000 in
set_option maxRecDepth 100000 in
theorem p_X5_status (l : Launch) (G : va_G) (cy : Nat → ClassId) (qx : Nat) (qt : Nat) (qk : Nat) (qp : Nat) (qs : Nat) (qa : Nat) (qr : Nat) (iKp : Int32) (iYe : Int32) (iTv : Int32) (fR : Nat → Int32) (tA : TA) (qtw : Nat) (qtn : Nat) (qtg : Nat) (qta : Nat) (qtr : Nat) (qtm : Nat) (qtt : Nat) (qts : Nat) (qsh : Nat) (qss : Nat) (qsa : Nat) (qse : Nat) (fH : Nat → Int32) (qab : Nat) (kZ : Nat) (iT1 : Int32) (iT2 : Int32) (iT3 : Int32) (iT4 : Int32) (qd : Nat) (iA : Int32)  (hB : T_nb tA ≤ 8) (hPp : T_np tA ≤ 8) (hZ : kZ ≤ 250) : MR l yX5_status cX5_status 2 (some .int) 12 G cy [zzO qx 4 [.ref qt, .ref qk, .ref qp, .ref qs, .ref qa, .ref qr, .int iKp, .int iYe, .int iTv], zzI cy qr 5 fR, zzO qt 3 [.int (nI (T_nb tA)), .int (nI (T_np tA)), .int (wb (T_wh tA)), .int (wb (T_gn tA)), .int (T_sd tA), .ref qtw, .ref qtn, .ref qtg, .ref qta, .ref qtr, .ref qtm, .ref qtt, .ref qts], zzI cy qtw 8 (T_wo tA), zzI cy qtn 8 (T_ne tA), zzI cy qtg 8 (T_go tA), zzI cy qta 8 (T_ag tA), zzI cy qtr 8 (T_re tA), zzI cy qtm 8 (T_me tA), zzI cy qtt 8 (T_te tA), zzI cy qts 64 (shF (T_kn tA)), zzO qs 1 [.ref qsh, .ref qss, .ref qsa, .ref qse], zzI cy qsh 8 fH, zzO qa 2 [.ref qab, .int (nI kZ), .int iT1, .int iT2, .int iT3, .int iT4, .ref qd]] [.ref qx, .int iA] (vp_Si (fun r => True)) := by
  refine enR RX5 (by decide +kernel) rfl (Nat.le_of_ble_eq_true rfl) (fun p e s m below meth c ls hx hb hml hown hts hr hlocks hP hN hl => ?_)
  have hK := hN.1
  replace hl : lv_has ls 2 [(0, .ref qx), (1, .int iA)] := hl
  refine lv_iload_n hx hb (g_27 bX5_status rfl) rfl (lv_at hl 1 rfl) ?_
  refine lv_i2l (v := iA.toInt64) hx hb (g_133 bX5_status rfl) rfl ?_
  refine lv_ldc2 hx hb hown (hts _ m_t832) (g_20 (v := 348) bX5_status rfl) ?_
  refine lv_ldc2 hx hb hown (hts _ m_t833) (g_20 (v := 350) bX5_status rfl) ?_
  refine kRi (rS (As := [.long iA.toInt64, .long 12, .long 16]) (rest := []) ⟨hx, hb, hml, hown, hts⟩ (c_X5_within l G cy iA.toInt64 12 16) L_X5_50 (preRS hN hP [] rfl) rfl ⟨Nat.le_of_ble_eq_true rfl, Nat.le_of_ble_eq_true rfl⟩ hl.1 (Nat.le_of_ble_eq_true rfl) (g_184 (v := 50) bX5_status rfl) ⟨Nat.le_of_ble_eq_true rfl, Nat.le_of_ble_eq_true rfl⟩) (fun r_1 h_2 => ?_)
  rcases h_2 with ⟨rfl, h_3⟩ | ⟨rfl, h_3⟩
  · refine lv_if_eq (tgt := 24) hx hb dX5_status_11 (by decide +kernel) (fun h9 => absurd h9 (by decide +kernel)) (fun _ => ?_)
    refine lv_aload_n hx hb (g_42 bX5_status rfl) rfl (lv_at hl 0 rfl) ?_
    refine va_get (D := G) (ci := 4) (v := .ref qr) (C := RX5) (T := TX5) (N := 9) hx hb hts iX_X5 hown hK hP 0 rfl rfl 5 (by decide +kernel) (hts _ m_t179) (fun _ h9 => h9) rfl (g_180 (v := 40) bX5_status rfl) ?_
    refine lv_iload_n hx hb (g_27 bX5_status rfl) rfl (lv_at hl 1 rfl) ?_
    refine lv_bipush (v := 12) hx hb dX5_status_19 (by decide +kernel) ?_
    refine lv_isub hx hb (g_100 bX5_status rfl) ?_
    refine va_iald hx hb hK hP 1 0 rfl rfl (st_in5 h_3) (g_46 bX5_status rfl) ?_
    exact endR hx hb hr hlocks rfl trivial (g_172 bX5_status rfl)
  · refine lv_if_eq (tgt := 24) hx hb dX5_status_11 (by decide +kernel) (fun _ => ?_) (fun h9 => absurd (by decide +kernel) h9)
    refine lv_iload_n hx hb (g_27 bX5_status rfl) rfl (lv_at hl 1 rfl) ?_
    rcases sw_0_8 iA with rfl | rfl | rfl | rfl | rfl | rfl | rfl | rfl | rfl | h_6
    · refine lv_tableIn (tgt := 76) (off := 51) hx hb dX5_status_25 (by decide +kernel) (by decide +kernel) (by decide +kernel) (by decide +kernel) ?_
      refine lv_aload_n hx hb (g_42 bX5_status rfl) rfl (lv_at hl 0 rfl) ?_
      refine va_get (D := G) (ci := 4) (v := .ref qt) (C := RX5) (T := TX5) (N := 9) hx hb hts iX_X5 hown hK hP 0 rfl rfl 0 (by decide +kernel) (hts _ m_t174) (fun _ h9 => h9) rfl (g_180 (v := 10) bX5_status rfl) ?_
      refine va_getN (D := G) (ci := 3) (v := .int (nI (T_nb tA))) (C := RX4) (T := TX4) (N := 13) hx hb hts iX_X4 hown hK hP 2 rfl rfl 0 (by decide +kernel) (va_Nw.use rfl (hN.2.1 (RX5, 127, "EachBookOnce$Town", "books", "I") (List.mem_of_getElem? (i := 3) rfl))) (fun _ h9 => h9) rfl (g_180 (v := 127) bX5_status rfl) ?_
      exact endR hx hb hr hlocks rfl trivial (g_172 bX5_status rfl)
    · refine lv_tableIn (tgt := 84) (off := 59) hx hb dX5_status_25 (by decide +kernel) (by decide +kernel) (by decide +kernel) (by decide +kernel) ?_
      refine lv_aload_n hx hb (g_42 bX5_status rfl) rfl (lv_at hl 0 rfl) ?_
      refine va_get (D := G) (ci := 4) (v := .ref qt) (C := RX5) (T := TX5) (N := 9) hx hb hts iX_X5 hown hK hP 0 rfl rfl 0 (by decide +kernel) (hts _ m_t174) (fun _ h9 => h9) rfl (g_180 (v := 10) bX5_status rfl) ?_
      refine va_getN (D := G) (ci := 3) (v := .int (wb (T_wh tA))) (C := RX4) (T := TX4) (N := 13) hx hb hts iX_X4 hown hK hP 2 rfl rfl 2 (by decide +kernel) (va_Nw.use rfl (hN.2.1 (RX5, 180, "EachBookOnce$Town", "white", "I") (List.mem_of_getElem? (i := 10) rfl))) (fun _ h9 => h9) rfl (g_180 (v := 180) bX5_status rfl) ?_
      refine kRi (rS (As := [.int (wb (T_wh tA))]) (rest := []) ⟨hx, hb, hml, hown, hts⟩ (c_J6_bitCount l G cy (wb (T_wh tA))) L_X5_264 (preRS hN hP [] rfl) rfl ⟨Nat.le_of_ble_eq_true rfl, Nat.le_of_ble_eq_true rfl⟩ hl.1 (Nat.le_of_ble_eq_true rfl) (g_184 (v := 264) bX5_status rfl) ⟨Nat.le_of_ble_eq_true rfl, Nat.le_of_ble_eq_true rfl⟩) (fun r_7 h_8 => ?_)
      subst h_8
      exact endR hx hb hr hlocks rfl trivial (g_172 bX5_status rfl)
    · refine lv_tableIn (tgt := 95) (off := 70) hx hb dX5_status_25 (by decide +kernel) (by decide +kernel) (by decide +kernel) (by decide +kernel) ?_
      refine lv_aload_n hx hb (g_42 bX5_status rfl) rfl (lv_at hl 0 rfl) ?_
      refine va_get (D := G) (ci := 4) (v := .ref qt) (C := RX5) (T := TX5) (N := 9) hx hb hts iX_X5 hown hK hP 0 rfl rfl 0 (by decide +kernel) (hts _ m_t174) (fun _ h9 => h9) rfl (g_180 (v := 10) bX5_status rfl) ?_
      refine va_getN (D := G) (ci := 3) (v := .int (nI (T_np tA))) (C := RX4) (T := TX4) (N := 13) hx hb hts iX_X4 hown hK hP 2 rfl rfl 1 (by decide +kernel) (va_Nw.use rfl (hN.2.1 (RX5, 141, "EachBookOnce$Town", "people", "I") (List.mem_of_getElem? (i := 7) rfl))) (fun _ h9 => h9) rfl (g_180 (v := 141) bX5_status rfl) ?_
      exact endR hx hb hr hlocks rfl trivial (g_172 bX5_status rfl)
    · refine lv_tableIn (tgt := 103) (off := 78) hx hb dX5_status_25 (by decide +kernel) (by decide +kernel) (by decide +kernel) (by decide +kernel) ?_
      refine lv_aload_n hx hb (g_42 bX5_status rfl) rfl (lv_at hl 0 rfl) ?_
      refine va_get (D := G) (ci := 4) (v := .ref qt) (C := RX5) (T := TX5) (N := 9) hx hb hts iX_X5 hown hK hP 0 rfl rfl 0 (by decide +kernel) (hts _ m_t174) (fun _ h9 => h9) rfl (g_180 (v := 10) bX5_status rfl) ?_
      refine va_getN (D := G) (ci := 3) (v := .int (wb (T_gn tA))) (C := RX4) (T := TX4) (N := 13) hx hb hts iX_X4 hown hK hP 2 rfl rfl 3 (by decide +kernel) (va_Nw.use rfl (hN.2.1 (RX5, 207, "EachBookOnce$Town", "gone", "I") (List.mem_of_getElem? (i := 12) rfl))) (fun _ h9 => h9) rfl (g_180 (v := 207) bX5_status rfl) ?_
      refine kRi (rS (As := [.int (wb (T_gn tA))]) (rest := []) ⟨hx, hb, hml, hown, hts⟩ (c_J6_bitCount l G cy (wb (T_gn tA))) L_X5_264 (preRS hN hP [] rfl) rfl ⟨Nat.le_of_ble_eq_true rfl, Nat.le_of_ble_eq_true rfl⟩ hl.1 (Nat.le_of_ble_eq_true rfl) (g_184 (v := 264) bX5_status rfl) ⟨Nat.le_of_ble_eq_true rfl, Nat.le_of_ble_eq_true rfl⟩) (fun r_9 h_10 => ?_)
      subst h_10
      exact endR hx hb hr hlocks rfl trivial (g_172 bX5_status rfl)
    · refine lv_tableIn (tgt := 114) (off := 89) hx hb dX5_status_25 (by decide +kernel) (by decide +kernel) (by decide +kernel) (by decide +kernel) ?_
      refine lv_aload_n hx hb (g_42 bX5_status rfl) rfl (lv_at hl 0 rfl) ?_
      refine va_get (D := G) (ci := 4) (v := .int iYe) (C := RX5) (T := TX5) (N := 9) hx hb hts iX_X5 hown hK hP 0 rfl rfl 7 (by decide +kernel) (hts _ m_t181) (fun _ h9 => h9) rfl (g_180 (v := 335) bX5_status rfl) ?_
      exact endR hx hb hr hlocks rfl trivial (g_172 bX5_status rfl)
    · refine lv_tableIn (tgt := 119) (off := 94) hx hb dX5_status_25 (by decide +kernel) (by decide +kernel) (by decide +kernel) (by decide +kernel) ?_
      refine lv_aload_n hx hb (g_42 bX5_status rfl) rfl (lv_at hl 0 rfl) ?_
      refine va_get (D := G) (ci := 4) (v := .int iTv) (C := RX5) (T := TX5) (N := 9) hx hb hts iX_X5 hown hK hP 0 rfl rfl 8 (by decide +kernel) (hts _ m_t182) (fun _ h9 => h9) rfl (g_180 (v := 338) bX5_status rfl) ?_
      exact endR hx hb hr hlocks rfl trivial (g_172 bX5_status rfl)
    · refine lv_tableIn (tgt := 124) (off := 99) hx hb dX5_status_25 (by decide +kernel) (by decide +kernel) (by decide +kernel) (by decide +kernel) ?_
      refine lv_aload_n hx hb (g_42 bX5_status rfl) rfl (lv_at hl 0 rfl) ?_
      refine va_get (D := G) (ci := 4) (v := .ref qa) (C := RX5) (T := TX5) (N := 9) hx hb hts iX_X5 hown hK hP 0 rfl rfl 4 (by decide +kernel) (hts _ m_t178) (fun _ h9 => h9) rfl (g_180 (v := 36) bX5_status rfl) ?_
      refine va_getN (D := G) (ci := 2) (v := .int (nI kZ)) (C := RX3) (T := TX3) (N := 7) hx hb hts iX_X3 hown hK hP 13 rfl rfl 1 (by decide +kernel) (va_Nw.use rfl (hN.2.1 (RX5, 148, "EachBookOnce$Tape", "size", "I") (List.mem_of_getElem? (i := 29) rfl))) (fun _ h9 => h9) rfl (g_180 (v := 148) bX5_status rfl) ?_
      exact endR hx hb hr hlocks rfl trivial (g_172 bX5_status rfl)
    · refine lv_tableIn (tgt := 132) (off := 107) hx hb dX5_status_25 (by decide +kernel) (by decide +kernel) (by decide +kernel) (by decide +kernel) ?_
      refine lv_aload_n hx hb (g_42 bX5_status rfl) rfl (lv_at hl 0 rfl) ?_
      refine va_get (D := G) (ci := 4) (v := .ref qt) (C := RX5) (T := TX5) (N := 9) hx hb hts iX_X5 hown hK hP 0 rfl rfl 0 (by decide +kernel) (hts _ m_t174) (fun _ h9 => h9) rfl (g_180 (v := 10) bX5_status rfl) ?_
      refine va_getN (D := G) (ci := 3) (v := .int (T_sd tA)) (C := RX4) (T := TX4) (N := 13) hx hb hts iX_X4 hown hK hP 2 rfl rfl 4 (by decide +kernel) (va_Nw.use rfl (hN.2.1 (RX5, 341, "EachBookOnce$Town", "luck", "I") (List.mem_of_getElem? (i := 13) rfl))) (fun _ h9 => h9) rfl (g_180 (v := 341) bX5_status rfl) ?_
      exact endR hx hb hr hlocks rfl trivial (g_172 bX5_status rfl)
    · refine lv_tableIn (tgt := 140) (off := 115) hx hb dX5_status_25 (by decide +kernel) (by decide +kernel) (by decide +kernel) (by decide +kernel) ?_
      refine lv_aload_n hx hb (g_42 bX5_status rfl) rfl (lv_at hl 0 rfl) ?_
      refine va_get (D := G) (ci := 4) (v := .ref qs) (C := RX5) (T := TX5) (N := 9) hx hb hts iX_X5 hown hK hP 0 rfl rfl 3 (by decide +kernel) (hts _ m_t177) (fun _ h9 => h9) rfl (g_180 (v := 29) bX5_status rfl) ?_
      refine kRi (rV (As := []) (rest := []) (b := qs) ⟨hx, hb, hml, hown, hts⟩ (c_X2_countHolding l G cy qs qsh qss qsa qse fH) L_X5_352 (preRV (q := (RX2, TX2, 4)) hN hP [11, 12] rfl 11 1 rfl rfl) rfl ⟨Nat.le_of_ble_eq_true rfl, Nat.le_of_ble_eq_true rfl⟩ hl.1 (Nat.le_of_ble_eq_true rfl) (g_182 (v := 352) bX5_status rfl) ⟨Nat.le_of_ble_eq_true rfl, Nat.le_of_ble_eq_true rfl⟩) (fun r_11 h_12 => ?_)
      exact endR hx hb hr hlocks rfl trivial (g_172 bX5_status rfl)
    · refine lv_tableOut (tgt := 148) hx hb dX5_status_25 h_6 (by decide +kernel) ?_
      refine lv_iconst (v := (-1)) hx hb (g_2 bX5_status rfl) (by decide +kernel) ?_
      exact endR hx hb hr hlocks rfl trivial (g_172 bX5_status rfl)
end
section
/-! STRINGS: constants that nobody writes, and what a contract says of them -/
noncomputable def SF (lB : List Int32) (a v : Nat) (A : Nat → Prop) (U : State) (H : Heap) : Prop := va_O "java/lang/String" a A U H ∧ va_OF "java/lang/String" "coder" "B" (.int 0) a A U H ∧ va_OF "java/lang/String" "value" "[B" (.ref v) a A U H ∧ va_T .byte v lB.length (fun j => .int (lB.getD j 0)) A U H ∧ va_Z "java/lang/String" "COMPACT_STRINGS" "Z" (.int 1) A U H ∧ va_Zq "jdk/internal/util/Preconditions" "SIOOBE_FORMATTER" "Ljava/util/function/BiFunction;" A U H
noncomputable def XOK (X : (Nat → Prop) → State → Heap → Prop) : Prop := (∀ (A : Nat → Prop) (s U : State) (H : Heap), s.WarmedH U.vm → X A s H → X A U H) ∧ (∀ (A : Nat → Prop) (U : State) (H : Heap) (g : JFrame) (mk : MethodId) (a : Array Value), X A U H → X A (U.calling g mk a) H) ∧ (∀ (A : Nat → Prop) (U : State) (H H1 : Heap), X A U H → (∀ a : Nat, a < H.size → ¬ A a → H1[a]? = H[a]?) → X A U H1) ∧ ∀ (A B : Nat → Prop) (U : State) (H : Heap), X A U H → (∀ q, B q → A q) → X B U H
theorem SF_ok {lB : List Int32} {a v : Nat} : XOK (SF lB a v) :=
  ⟨fun A s U H hW h => ⟨va_O.moved hW.alike h.1, va_OF.moved hW.alike h.2.1, va_OF.moved hW.alike h.2.2.1, va_T.moved hW.alike h.2.2.2.1, va_Z.moved hW.alike h.2.2.2.2.1, va_Zq.moved hW.alike h.2.2.2.2.2⟩,
   fun A U H g mk a h => ⟨va_O.moved (Vm.Alike.refl U.vm) h.1, va_OF.moved (Vm.Alike.refl U.vm) h.2.1, va_OF.moved (Vm.Alike.refl U.vm) h.2.2.1, va_T.moved (Vm.Alike.refl U.vm) h.2.2.2.1, va_Z.moved (Vm.Alike.refl U.vm) h.2.2.2.2.1, va_Zq.moved (Vm.Alike.refl U.vm) h.2.2.2.2.2⟩,
   fun A U H H1 h hq => ⟨h.1.kept hq, h.2.1.kept hq, h.2.2.1.kept hq, h.2.2.2.1.kept hq, h.2.2.2.2.1.kept hq, h.2.2.2.2.2.kept hq⟩,
   fun A B U H h hq => ⟨h.1.narrow hq, h.2.1.narrow hq, h.2.2.1.narrow hq, h.2.2.2.1.narrow hq, h.2.2.2.2.1.narrow hq, h.2.2.2.2.2.narrow hq⟩⟩
noncomputable def strT : List (String × Nat × String × List Int32) := [(RX3, 48, "book", [98, 111, 111, 107]), (RX3, 84, "good", [103, 111, 111, 100]), (RX3, 57, "need", [110, 101, 101, 100]), (RX3, 62, "one", [111, 110, 101]), (RX3, 101, "reads", [114, 101, 97, 100, 115]), (RX3, 103, "keeps", [107, 101, 101, 112, 115]), (RX3, 105, "tells", [116, 101, 108, 108, 115]), (RX3, 67, "knows", [107, 110, 111, 119, 115]), (RX3, 72, "white", [119, 104, 105, 116, 101]), (RX6, 198, "book", [98, 111, 111, 107]), (RX6, 199, "good", [103, 111, 111, 100]), (RX6, 204, "one", [111, 110, 101]), (RX6, 205, "reads", [114, 101, 97, 100, 115]), (RX6, 207, "keeps", [107, 101, 101, 112, 115]), (RX6, 209, "tells", [116, 101, 108, 108, 115]), (RX6, 210, "need", [110, 101, 101, 100]), (RX6, 212, "knows", [107, 110, 111, 119, 115]), (RX6, 214, "white", [119, 104, 105, 116, 101])]
noncomputable def SO (A : Nat → Prop) (U : State) (H : Heap) : Prop := ∀ q ∈ strT, ∃ a v : Nat, vk_R q.1 q.2.1 q.2.2.1 a U ∧ SF q.2.2.2 a v A U H
theorem SO_ok : XOK SO :=
  ⟨fun A s U H hW h q hq => (h q hq).elim fun a h1 => h1.elim fun v h2 => ⟨a, v, vk_R.warm hW h2.1, SF_ok.1 A s U H hW h2.2⟩,
   fun A U H g mk x h q hq => (h q hq).elim fun a h1 => h1.elim fun v h2 => ⟨a, v, vk_R.same rfl h2.1, SF_ok.2.1 A U H g mk x h2.2⟩,
   fun A U H H1 h hk q hq => (h q hq).elim fun a h1 => h1.elim fun v h2 => ⟨a, v, h2.1, SF_ok.2.2.1 A U H H1 h2.2 hk⟩,
   fun A B U H h hk q hq => (h q hq).elim fun a h1 => h1.elim fun v h2 => ⟨a, v, h2.1, SF_ok.2.2.2 A B U H h2.2 hk⟩⟩
noncomputable def RdX (G : va_G) (cy : Nat → ClassId) (X : (Nat → Prop) → State → Heap → Prop) (ws : va_W) (av : List Value) : Array Value → State → Prop := va_Pc av (fun U => va_P G CL ws U.heap ∧ KN G cy U ∧ XOK X ∧ X (fun _ => False) U U.heap)
noncomputable def WrX (G : va_G) (cy : Nat → ClassId) (X : (Nat → Prop) → State → Heap → Prop) (ws : va_W) (sz : Nat) (av : List Value) : Array Value → State → Prop := va_Pc av (fun U => U.heap.size = sz ∧ va_P G CL ws U.heap ∧ KN G cy U ∧ va_D (fun _ => True) ws ∧ XOK X ∧ X (va_A ws sz) U U.heap)
theorem RdX.blind {G : va_G} {cy : Nat → ClassId} {X : (Nat → Prop) → State → Heap → Prop} {ws : va_W} {av : List Value} : FrameBlind (RdX G cy X ws av) := fun _ _ _ _ q => ⟨q.1, q.2.1, q.2.2.1.call, q.2.2.2.1, q.2.2.2.1.2.1 _ _ _ _ _ _ q.2.2.2.2⟩
theorem WrX.blind {G : va_G} {cy : Nat → ClassId} {X : (Nat → Prop) → State → Heap → Prop} {ws : va_W} {sz : Nat} {av : List Value} : FrameBlind (WrX G cy X ws sz av) := fun _ _ _ _ q => ⟨q.1, q.2.1, q.2.2.1, q.2.2.2.1.call, q.2.2.2.2.1, q.2.2.2.2.2.1, q.2.2.2.2.2.1.2.1 _ _ _ _ _ _ q.2.2.2.2.2.2⟩
noncomputable abbrev MRX (l : Launch) (y : MethodName) (cc : ByteArray) (n : Nat) (ret : Option FieldType) (d : Nat) (G : va_G) (cy : Nat → ClassId) (X : (Nat → Prop) → State → Heap → Prop) (ws : va_W) (av : List Value) (Qc : Array Value → State → Outcome → State → Prop) : Prop := Met l y (.code y cc n ret :: BIG) (Rm d 0 0) (RdX G cy X ws av) Qc 0 0 (fun _ => False)
noncomputable abbrev MWX (l : Launch) (y : MethodName) (cc : ByteArray) (n : Nat) (ret : Option FieldType) (d mc ms : Nat) (G : va_G) (cy : Nat → ClassId) (X : (Nat → Prop) → State → Heap → Prop) (ws : va_W) (sz : Nat) (av : List Value) (QA : (Nat → Prop) → Array Value → State → Outcome → State → Prop) : Prop := Met l y (.code y cc n ret :: BIG) (Rm d mc ms) (WrX G cy X ws sz av) (QA (va_A ws sz)) mc ms (va_A ws sz)
theorem enRX {l : Launch} {y : MethodName} {cc : ByteArray} {n : Nat} {ret : Option FieldType} {d : Nat} {G : va_G} {cy : Nat → ClassId} {X : (Nat → Prop) → State → Heap → Prop} {ws : va_W} {av : List Value} {Qc : Array Value → State → Outcome → State → Prop} (own : String) (hy : plainName y.cls = true) (ho : y.cls = own) (hn : (lg_sl av).length ≤ n)
    (body : ∀ (p : Program) (e : Env) (s : State) (m : MethodId) (below : List Frame) (meth : Method) (c : Code) (ls : Array Slot), p.tables.exec = Jvm.exec → c.code = cc → c.maxLocals = n → s.vm.findClass own = some m.cls → (∀ w ∈ BIG, w.before av.toArray s = true) → meth.sig.returnType = ret → meth.locks = false → va_P G CL ws s.heap → KN G cy s → lv_has ls n (lv_args 0 av) → X (fun _ => False) s s.heap →
      W p l e (Rm d 0 0) s m av.toArray below meth c s.heap [] 0 0 (MQ below Qc av.toArray s 0 0 (fun _ => False)) (F0 m 0 ls [])) : MRX l y cc n ret d G cy X ws av Qc := by
  refine Met.ofW (cc := cc) (maxL := n) (ret := ret) hy rfl ?_
  intro p e s m args below meth c s₁ B hml hv
  obtain ⟨rfl, hP, hN, hok, hX⟩ := hv
  have hts := atoms_spec (ws := .code y cc n ret :: BIG) B.pre
  have hown : s.vm.findClass own = some m.cls := by rw [← ho]; exact findClass_of_methodNamed B.named
  rw [lg_entry_eq]
  exact body p e s m below meth c _ B.exec B.bytes hml hown (fun w h => hts w (List.mem_cons_of_mem _ h)) B.returns B.notSynchronized hP hN (lv_entry av hn) hX
theorem enWX {l : Launch} {y : MethodName} {cc : ByteArray} {n : Nat} {ret : Option FieldType} {d mc ms : Nat} {G : va_G} {cy : Nat → ClassId} {X : (Nat → Prop) → State → Heap → Prop} {ws : va_W} {sz : Nat} {av : List Value} {QA : (Nat → Prop) → Array Value → State → Outcome → State → Prop} (own : String) (hy : plainName y.cls = true) (ho : y.cls = own) (hn : (lg_sl av).length ≤ n)
    (body : ∀ (p : Program) (e : Env) (s : State) (m : MethodId) (below : List Frame) (meth : Method) (c : Code) (ls : Array Slot) (A : Nat → Prop), p.tables.exec = Jvm.exec → c.code = cc → c.maxLocals = n → s.vm.findClass own = some m.cls → (∀ w ∈ BIG, w.before av.toArray s = true) → meth.sig.returnType = ret → meth.locks = false → va_P G CL ws s.heap → KN G cy s → lv_has ls n (lv_args 0 av) → meth.name = y.name →
      va_D A ws → (∀ q : Nat, s.heap.size ≤ q → A q) → va_S A s.heap s.heap [] → X A s s.heap →
      W p l e (Rm d mc ms) s m av.toArray below meth c s.heap [] 0 0 (MQ below (QA A) av.toArray s mc ms A) (F0 m 0 ls [])) : MWX l y cc n ret d mc ms G cy X ws sz av QA := by
  refine Met.ofW (cc := cc) (maxL := n) (ret := ret) hy rfl ?_
  intro p e s m args below meth c s₁ B hml hv
  obtain ⟨rfl, hsz, hP, hN, hD0, hok, hX⟩ := hv
  have hts := atoms_spec (ws := .code y cc n ret :: BIG) B.pre
  have hown : s.vm.findClass own = some m.cls := by rw [← ho]; exact findClass_of_methodNamed B.named
  subst hsz
  rw [lg_entry_eq]
  exact body p e s m below meth c _ _ B.exec B.bytes hml hown (fun w h => hts w (List.mem_cons_of_mem _ h)) B.returns B.notSynchronized hP hN (lv_entry av hn) (name_of_methodNamed B.named B.method).1 hD0.self (fun q h => Or.inr h) va_S.rf hX
theorem xq {X : (Nat → Prop) → State → Heap → Prop} {A B : Nat → Prop} {s U : State} {H : Heap} {locs : List Loc} (ok : XOK X) (hX : X A s s.heap) (hS : va_S A s.heap H locs) (hU : U.heap = H) (hW : s.WarmedH U.vm) (hB : ∀ q, B q → A q) : X B U U.heap := by
  rw [hU]
  exact ok.2.2.2 A B U H (ok.1 A s U H hW (ok.2.2.1 A s s.heap H hX hS.2.1)) hB
section STRC
variable {s : State} {H : Heap} {locs : List Loc} {b : Addr} {As : List Value} {G : va_G} {cy : Nat → ClassId} {X : (Nat → Prop) → State → Heap → Prop} {ws wc : va_W} {A : Nat → Prop}
theorem preRVX {q : vw_C} {fs : List Value} (hN : KN G cy s) (hP : va_P G CL ws H) (isC : List Nat) (hC : isC.filterMap (fun i => ws[i]?) = wc) (qr ci : Nat) (he : ws[qr]? = some (b, .inr (ci, fs))) (hc : CL[ci]? = some q) (ok : XOK X) (hX : X A s s.heap) (hS : va_S A s.heap H locs) : PreV s H q.1 b (RdX G cy X wc (.ref b :: As)) As :=
  ⟨RdX.blind, va_recv hN.1 hP hc he, fun U hU hW => ⟨rfl, by rw [hU]; exact hP.sub isC hC, hN.warm hW, ok, xq ok hX hS hU hW (fun _ h => h.elim)⟩⟩
theorem preRSX (hN : KN G cy s) (hP : va_P G CL ws H) (isC : List Nat) (hC : isC.filterMap (fun i => ws[i]?) = wc) (ok : XOK X) (hX : X A s s.heap) (hS : va_S A s.heap H locs) : PreS s H (RdX G cy X wc As) As :=
  ⟨RdX.blind, fun U hU hW => ⟨rfl, by rw [hU]; exact hP.sub isC hC, hN.warm hW, ok, xq ok hX hS hU hW (fun _ h => h.elim)⟩⟩
theorem preRVS {lB : List Int32} {v : Nat} (hN : KN G cy s) (hX : SF lB b v A s s.heap) (hS : va_S A s.heap H locs) : PreV s H "java/lang/String" b (RdX G cy (SF lB b v) [] (.ref b :: As)) As := by
  obtain ⟨cell, h1, h2, h3, -⟩ := hX.1.kept hS.2.1
  exact ⟨RdX.blind, ⟨cell, h1, h2, h3⟩, fun U hU hW => ⟨rfl, va_P0, hN.warm hW, SF_ok, xq SF_ok hX hS hU hW (fun _ h => h.elim)⟩⟩
theorem preWVX {q : vw_C} {fs : List Value} (hN : KN G cy s) (hP : va_P G CL ws H) (hD : va_D A ws) (isC : List Nat) (hC : isC.map (fun i => ws[i]?) = wc.map some) (hn : va_nd isC = true) (qr ci : Nat) (he : ws[qr]? = some (b, .inr (ci, fs))) (hc : CL[ci]? = some q) (ok : XOK X) (hX : X A s s.heap) (hS : va_S A s.heap H locs) (hA : ∀ q, s.heap.size ≤ q → A q) : PreV s H q.1 b (WrX G cy X wc H.size (.ref b :: As)) As :=
  ⟨WrX.blind, va_recv hN.1 hP hc he, fun U hU hW => ⟨rfl, by rw [hU], by rw [hU]; exact hP.sub isC (va_sub2 hC), hN.warm hW, (hD.sub isC hn hC).weaken (fun _ _ _ _ => trivial), ok, xq ok hX hS hU hW (va_free hD hS hA isC hC)⟩⟩
end STRC
/-- a method that only reads, and answers nothing -/
noncomputable def vp_S0 : Array Value → State → Outcome → State → Prop := fun _ st o t => o = .returned none ∧ t.heap = st.heap
section STRD
variable {p : Program} {l : Launch} {e : Env} {R : Room} {s : State} {m : MethodId} {args : Array Value} {below : List Frame} {meth : Method} {c : Code} {H : Heap} {locs : List Loc} {cells slots : Nat} {Q : State → Prop} {cc : ByteArray} {pc : Nat} {ls : Array Slot} {rest st0 : List Value} {a : Array Value}
theorem kR0 (hr : va_Run p l e R s m args below meth c H locs cells slots 0 0 (F0 m pc ls st0) rest (vp_S0 a) (fun _ => False))
    (kk : W p l e R s m args below meth c H locs cells slots Q (F0 m (pc + 3) ls rest)) : W p l e R s m args below meth c H locs cells slots Q (F0 m pc ls st0) := by
  intro T hT X
  obtain ⟨v, st₀, t, T', L, h0, X', hL, e1, e2, ⟨hv, hh⟩, st⟩ := hr T hT X
  cases hv
  obtain ⟨t2, a1, b1⟩ := kk T' (by rw [e1, hh, h0]) (Stand.forget X' (fun q h => (hL q h).elim))
  exact ⟨t2, st t2 a1, b1⟩
theorem endR0 (hexec : p.tables.exec = Jvm.exec) (hb : c.code = cc) (hr : meth.sig.returnType = none) (hlocks : meth.locks = false) (hdg : decode cc pc = .ok (.return_, 1)) : W p l e R s m args below meth c s.heap [] cells slots (MQ below vp_S0 args s cells slots (fun _ => False)) (F0 m pc ls []) :=
  W.vret hexec hb hr (fun _ ht _ => ⟨rfl, ht⟩) (fun _ h => by cases h) hdg
end STRD
theorem sh0 (x : Int32) : x >>> ((0 : Int32) &&& 31) = x := by
  apply Int32.toInt_inj.mp
  rw [pk_shr x _ 0 (by decide +kernel)]
  simp
theorem ch8 : ∀ n : Nat, n < 128 → ((nI n) &&& 255) = nI n := by decide +kernel
end
section
theorem L_J0_335 : LkV RJ0 335 RJ0 yJ0_coder_7d493 cJ0_coder_7d493 1 (some .byte) 0 := ⟨m_t468, m_t10, m_t471, ⟨by decide +kernel, by decide +kernel, by decide +kernel⟩, m_t469, m_t470⟩
theorem L_J0_492 : LkV RJ0 492 RJ0 yJ0_isLatin1_aae02 cJ0_isLatin1_aae02 1 (some .boolean) 0 := ⟨m_t478, m_t10, m_t481, ⟨by decide +kernel, by decide +kernel, by decide +kernel⟩, m_t479, m_t480⟩
theorem L_J0_495 : LkS RJ0 495 yJ1_charAt_3b067 cJ1_charAt_3b067 2 (some .char) 2 := ⟨m_t482, m_t11, m_t484, ⟨by decide +kernel, by decide +kernel, by decide +kernel⟩, m_t483⟩
theorem L_J1_9 : LkS RJ1 9 yJ0_checkIndex_df160 cJ0_checkIndex_df160 2 none 2 := ⟨m_t485, m_t10, m_t487, ⟨by decide +kernel, by decide +kernel, by decide +kernel⟩, m_t486⟩
theorem L_J0_1059 : LkS RJ0 1059 yJ3_checkIndex_8e157 cJ3_checkIndex_8e157 3 (some .int) 3 := ⟨m_t490, m_t12, m_t492, ⟨by decide +kernel, by decide +kernel, by decide +kernel⟩, m_t491⟩
set_option maxHeartbeats 4000000 in
theorem j_coder (l : Launch) (G : va_G) (cy : Nat → ClassId)  (lB : List Int32) (qw qv : Nat) : MRX l yJ0_coder_7d493 cJ0_coder_7d493 1 (some .byte) 1 G cy (SF lB qw qv) [] [.ref qw] (vp_Si (fun r => r = 0)) := by
  refine enRX RJ0 (by decide +kernel) rfl (Nat.le_of_ble_eq_true rfl) (fun p e s m below meth c ls hx hb hml hown hts hr hlocks hP hN hl hX => ?_)
  have hl : lv_has ls 1 [(0, .ref qw)] := hl
  refine va_gets hx hb (v := .int 1) hX.2.2.2.2.1 va_S.rf hown (hts _ m_t472) (fun _ h => h) (g_178 (v := 38) bJ0_coder_7d493 rfl) ?_
  refine lv_if_eq (tgt := 13) hx hb dJ0_coder_7d493_3 (by decide +kernel) (fun h9 => absurd h9 (by decide +kernel)) (fun _ => ?_)
  refine lv_aload_n hx hb (g_42 bJ0_coder_7d493 rfl) rfl (lv_at hl 0 rfl) ?_
  refine vk_getf hx hb hX.2.1 va_S.rf hown (hts _ m_t1394) (fun _ h => h) (g_180 (v := 15) bJ0_coder_7d493 rfl) ?_
  refine lv_goto (tgt := 14) hx hb dJ0_coder_7d493_10 (by decide +kernel) ?_
  exact endR hx hb hr hlocks rfl rfl (g_172 bJ0_coder_7d493 rfl)
set_option maxHeartbeats 4000000 in
theorem j_isLatin1 (l : Launch) (G : va_G) (cy : Nat → ClassId)  (lB : List Int32) (qw qv : Nat) : MRX l yJ0_isLatin1_aae02 cJ0_isLatin1_aae02 1 (some .boolean) 1 G cy (SF lB qw qv) [] [.ref qw] (vp_Si (fun r => r = 1)) := by
  refine enRX RJ0 (by decide +kernel) rfl (Nat.le_of_ble_eq_true rfl) (fun p e s m below meth c ls hx hb hml hown hts hr hlocks hP hN hl hX => ?_)
  have hl : lv_has ls 1 [(0, .ref qw)] := hl
  refine va_gets hx hb (v := .int 1) hX.2.2.2.2.1 va_S.rf hown (hts _ m_t472) (fun _ h => h) (g_178 (v := 38) bJ0_isLatin1_aae02 rfl) ?_
  refine lv_if_eq (tgt := 17) hx hb dJ0_isLatin1_aae02_3 (by decide +kernel) (fun h9 => absurd h9 (by decide +kernel)) (fun _ => ?_)
  refine lv_aload_n hx hb (g_42 bJ0_isLatin1_aae02 rfl) rfl (lv_at hl 0 rfl) ?_
  refine vk_getf hx hb hX.2.1 va_S.rf hown (hts _ m_t1394) (fun _ h => h) (g_180 (v := 15) bJ0_isLatin1_aae02 rfl) ?_
  refine lv_if_ne (tgt := 17) hx hb dJ0_isLatin1_aae02_10 (by decide +kernel) (fun h9 => absurd rfl h9) (fun _ => ?_)
  refine lv_iconst (v := 1) hx hb (g_4 bJ0_isLatin1_aae02 rfl) (by decide +kernel) ?_
  refine lv_goto (tgt := 18) hx hb dJ0_isLatin1_aae02_14 (by decide +kernel) ?_
  exact endR hx hb hr hlocks rfl rfl (g_172 bJ0_isLatin1_aae02 rfl)
set_option maxHeartbeats 4000000 in
theorem j_length (l : Launch) (G : va_G) (cy : Nat → ClassId)  (lB : List Int32) (qw qv : Nat) : MRX l yJ0_length_8abf5 cJ0_length_8abf5 1 (some .int) 2 G cy (SF lB qw qv) [] [.ref qw] (vp_Si (fun r => r = nI lB.length)) := by
  refine enRX RJ0 (by decide +kernel) rfl (Nat.le_of_ble_eq_true rfl) (fun p e s m below meth c ls hx hb hml hown hts hr hlocks hP hN hl hX => ?_)
  have hl : lv_has ls 1 [(0, .ref qw)] := hl
  refine lv_aload_n hx hb (g_42 bJ0_length_8abf5 rfl) rfl (lv_at hl 0 rfl) ?_
  refine vk_getf hx hb hX.2.2.1 va_S.rf hown (hts _ m_t1393) (fun _ h => h) (g_180 (v := 9) bJ0_length_8abf5 rfl) ?_
  refine va_tlen hx hb hX.2.2.2.1 va_S.rf (v := nI lB.length) rfl (g_190 bJ0_length_8abf5 rfl) ?_
  refine lv_aload_n hx hb (g_42 bJ0_length_8abf5 rfl) rfl (lv_at hl 0 rfl) ?_
  refine kRi (rV (As := []) (rest := [.int (nI lB.length)]) (b := qw) ⟨hx, hb, hml, hown, hts⟩ (j_coder l G cy lB qw qv) L_J0_335 (preRVS hN hX va_S.rf) rfl ⟨Nat.le_of_ble_eq_true rfl, Nat.le_of_ble_eq_true rfl⟩ hl.1 (Nat.le_of_ble_eq_true rfl) (g_182 (v := 335) bJ0_length_8abf5 rfl) ⟨Nat.le_of_ble_eq_true rfl, Nat.le_of_ble_eq_true rfl⟩) (fun r h => ?_)
  subst h
  refine lv_ishr hx hb (g_122 bJ0_length_8abf5 rfl) ?_
  refine lv_seti (sh0 _) ?_
  exact endR hx hb hr hlocks rfl rfl (g_172 bJ0_length_8abf5 rfl)
set_option maxHeartbeats 4000000 in
theorem j_pcheck (l : Launch) (G : va_G) (cy : Nat → ClassId)  (qF : Nat) (kI kN : Nat) (hI : kI < kN) (hN0 : kN < 2 ^ 31) : MR l yJ3_checkIndex_8e157 cJ3_checkIndex_8e157 3 (some .int) 1 G cy [] [.int (nI kI), .int (nI kN), .ref qF] (vp_Si (fun r => r = nI kI)) := by
  refine enR RJ3 (by decide +kernel) rfl (Nat.le_of_ble_eq_true rfl) (fun p e s m below meth c ls hx hb hml hown hts hr hlocks hP hN hl => ?_)
  have hl : lv_has ls 3 [(0, .int (nI kI)), (1, .int (nI kN)), (2, .ref qF)] := hl
  refine lv_iload_n hx hb (g_26 bJ3_checkIndex_8e157 rfl) rfl (lv_at hl 0 rfl) ?_
  refine lv_if_lt (tgt := 9) hx hb dJ3_checkIndex_8e157_1 (by decide +kernel) (fun h9 => absurd h9 (nI_pos (by omega))) (fun _ => ?_)
  refine lv_iload_n hx hb (g_26 bJ3_checkIndex_8e157 rfl) rfl (lv_at hl 0 rfl) ?_
  refine lv_iload_n hx hb (g_27 bJ3_checkIndex_8e157 rfl) rfl (lv_at hl 1 rfl) ?_
  refine lv_icmp_lt (tgt := 16) hx hb dJ3_checkIndex_8e157_6 (by decide +kernel) (fun _ => ?_) (fun h9 => absurd (Int32.not_le.mp (nI_ge hI (by omega))) h9)
  refine lv_iload_n hx hb (g_26 bJ3_checkIndex_8e157 rfl) rfl (lv_at hl 0 rfl) ?_
  exact endR hx hb hr hlocks rfl rfl (g_172 bJ3_checkIndex_8e157 rfl)
set_option maxHeartbeats 4000000 in
theorem j_pcheckN (l : Launch) (G : va_G) (cy : Nat → ClassId)  (kI kN : Nat) (hI : kI < kN) (hN0 : kN < 2 ^ 31) : MR l yJ3_checkIndex_8e157 cJ3_checkIndex_8e157 3 (some .int) 1 G cy [] [.int (nI kI), .int (nI kN), .null] (vp_Si (fun r => r = nI kI)) := by
  refine enR RJ3 (by decide +kernel) rfl (Nat.le_of_ble_eq_true rfl) (fun p e s m below meth c ls hx hb hml hown hts hr hlocks hP hN hl => ?_)
  have hl : lv_has ls 3 [(0, .int (nI kI)), (1, .int (nI kN)), (2, .null)] := hl
  refine lv_iload_n hx hb (g_26 bJ3_checkIndex_8e157 rfl) rfl (lv_at hl 0 rfl) ?_
  refine lv_if_lt (tgt := 9) hx hb dJ3_checkIndex_8e157_1 (by decide +kernel) (fun h9 => absurd h9 (nI_pos (by omega))) (fun _ => ?_)
  refine lv_iload_n hx hb (g_26 bJ3_checkIndex_8e157 rfl) rfl (lv_at hl 0 rfl) ?_
  refine lv_iload_n hx hb (g_27 bJ3_checkIndex_8e157 rfl) rfl (lv_at hl 1 rfl) ?_
  refine lv_icmp_lt (tgt := 16) hx hb dJ3_checkIndex_8e157_6 (by decide +kernel) (fun _ => ?_) (fun h9 => absurd (Int32.not_le.mp (nI_ge hI (by omega))) h9)
  refine lv_iload_n hx hb (g_26 bJ3_checkIndex_8e157 rfl) rfl (lv_at hl 0 rfl) ?_
  exact endR hx hb hr hlocks rfl rfl (g_172 bJ3_checkIndex_8e157 rfl)
set_option maxHeartbeats 4000000 in
theorem j_check (l : Launch) (G : va_G) (cy : Nat → ClassId)  (lB : List Int32) (qw qv kI kN : Nat) (hI : kI < kN) (hN0 : kN < 2 ^ 31) : MRX l yJ0_checkIndex_df160 cJ0_checkIndex_df160 2 none 2 G cy (SF lB qw qv) [] [.int (nI kI), .int (nI kN)] vp_S0 := by
  refine enRX RJ0 (by decide +kernel) rfl (Nat.le_of_ble_eq_true rfl) (fun p e s m below meth c ls hx hb hml hown hts hr hlocks hP hN hl hX => ?_)
  have hl : lv_has ls 2 [(0, .int (nI kI)), (1, .int (nI kN))] := hl
  rcases hX.2.2.2.2.2 with hf | ⟨qf, hf⟩
  · refine lv_iload_n hx hb (g_26 bJ0_checkIndex_df160 rfl) rfl (lv_at hl 0 rfl) ?_
    refine lv_iload_n hx hb (g_27 bJ0_checkIndex_df160 rfl) rfl (lv_at hl 1 rfl) ?_
    refine va_gets hx hb (v := .null) hf va_S.rf hown (hts _ m_t488) (fun _ h => h) (g_178 (v := 1053) bJ0_checkIndex_df160 rfl) ?_
    refine kRi (rS (As := [.int (nI kI), .int (nI kN), .null]) (rest := []) ⟨hx, hb, hml, hown, hts⟩ (j_pcheckN l G cy kI kN hI hN0) L_J0_1059 (preRS hN hP [] rfl) rfl ⟨Nat.le_of_ble_eq_true rfl, Nat.le_of_ble_eq_true rfl⟩ hl.1 (Nat.le_of_ble_eq_true rfl) (g_184 (v := 1059) bJ0_checkIndex_df160 rfl) ⟨Nat.le_of_ble_eq_true rfl, Nat.le_of_ble_eq_true rfl⟩) (fun r h => ?_)
    subst h
    refine lv_pop hx hb (g_87 bJ0_checkIndex_df160 rfl) rfl ?_
    exact endR0 hx hb hr hlocks (g_177 bJ0_checkIndex_df160 rfl)
  · refine lv_iload_n hx hb (g_26 bJ0_checkIndex_df160 rfl) rfl (lv_at hl 0 rfl) ?_
    refine lv_iload_n hx hb (g_27 bJ0_checkIndex_df160 rfl) rfl (lv_at hl 1 rfl) ?_
    refine va_gets hx hb (v := .ref qf) hf va_S.rf hown (hts _ m_t488) (fun _ h => h) (g_178 (v := 1053) bJ0_checkIndex_df160 rfl) ?_
    refine kRi (rS (As := [.int (nI kI), .int (nI kN), .ref qf]) (rest := []) ⟨hx, hb, hml, hown, hts⟩ (j_pcheck l G cy qf kI kN hI hN0) L_J0_1059 (preRS hN hP [] rfl) rfl ⟨Nat.le_of_ble_eq_true rfl, Nat.le_of_ble_eq_true rfl⟩ hl.1 (Nat.le_of_ble_eq_true rfl) (g_184 (v := 1059) bJ0_checkIndex_df160 rfl) ⟨Nat.le_of_ble_eq_true rfl, Nat.le_of_ble_eq_true rfl⟩) (fun r h => ?_)
    subst h
    refine lv_pop hx hb (g_87 bJ0_checkIndex_df160 rfl) rfl ?_
    exact endR0 hx hb hr hlocks (g_177 bJ0_checkIndex_df160 rfl)
theorem ch_n {x : Int32} (h : ∃ n : Nat, n < 128 ∧ x = nI n) : ((x &&& 255).toUInt32 % 65536).toInt32 = x ∧ narrow .char (.int x) = .int x := by
  obtain ⟨n, hn, rfl⟩ := h
  refine ⟨?_, (pk_charN (by omega)).1⟩
  rw [ch8 n hn, pk_char, pk_tn (by omega), Nat.mod_eq_of_lt (by omega)]
set_option maxHeartbeats 4000000 in
theorem j_charAt1 (l : Launch) (G : va_G) (cy : Nat → ClassId)  (lB : List Int32) (qw qv kI : Nat) (hI : kI < lB.length) (hN0 : lB.length < 2 ^ 31) (hA : ∃ n : Nat, n < 128 ∧ lB.getD kI 0 = nI n) : MRX l yJ1_charAt_3b067 cJ1_charAt_3b067 2 (some .char) 3 G cy (SF lB qw qv) [] [.ref qv, .int (nI kI)] (vp_Si (fun r => r = lB.getD kI 0)) := by
  refine enRX RJ1 (by decide +kernel) rfl (Nat.le_of_ble_eq_true rfl) (fun p e s m below meth c ls hx hb hml hown hts hr hlocks hP hN hl hX => ?_)
  have hl : lv_has ls 2 [(0, .ref qv), (1, .int (nI kI))] := hl
  refine lv_iload_n hx hb (g_27 bJ1_charAt_3b067 rfl) rfl (lv_at hl 1 rfl) ?_
  refine lv_aload_n hx hb (g_42 bJ1_charAt_3b067 rfl) rfl (lv_at hl 0 rfl) ?_
  refine va_tlen hx hb hX.2.2.2.1 va_S.rf (v := nI lB.length) rfl (g_190 bJ1_charAt_3b067 rfl) ?_
  refine kR0 (rS (As := [.int (nI kI), .int (nI lB.length)]) (rest := []) ⟨hx, hb, hml, hown, hts⟩ (j_check l G cy lB qw qv kI lB.length hI hN0) L_J1_9 (preRSX hN hP [] rfl SF_ok hX va_S.rf) rfl ⟨Nat.le_of_ble_eq_true rfl, Nat.le_of_ble_eq_true rfl⟩ hl.1 (Nat.le_of_ble_eq_true rfl) (g_184 (v := 9) bJ1_charAt_3b067 rfl) ⟨Nat.le_of_ble_eq_true rfl, Nat.le_of_ble_eq_true rfl⟩) ?_
  refine lv_aload_n hx hb (g_42 bJ1_charAt_3b067 rfl) rfl (lv_at hl 0 rfl) ?_
  refine lv_iload_n hx hb (g_27 bJ1_charAt_3b067 rfl) rfl (lv_at hl 1 rfl) ?_
  refine va_tb hx hb hX.2.2.2.1 va_S.rf (vp_in_nI hI hN0) (v := .int (lB.getD kI 0)) (by rw [nI_clamp (by omega)]) (g_51 bJ1_charAt_3b067 rfl) ?_
  refine lv_sipush (v := 255) hx hb dJ1_charAt_3b067_9 (by decide +kernel) ?_
  refine lv_iand hx hb (g_126 bJ1_charAt_3b067 rfl) ?_
  refine lv_i2c (v := lB.getD kI 0) hx hb (g_146 bJ1_charAt_3b067 rfl) (ch_n hA).1 ?_
  exact endR hx hb hr hlocks (ch_n hA).2 rfl (g_172 bJ1_charAt_3b067 rfl)
set_option maxHeartbeats 4000000 in
theorem j_charAt (l : Launch) (G : va_G) (cy : Nat → ClassId)  (lB : List Int32) (qw qv kI : Nat) (hI : kI < lB.length) (hN0 : lB.length < 2 ^ 31) (hA : ∃ n : Nat, n < 128 ∧ lB.getD kI 0 = nI n) : MRX l yJ0_charAt_5068e cJ0_charAt_5068e 2 (some .char) 4 G cy (SF lB qw qv) [] [.ref qw, .int (nI kI)] (vp_Si (fun r => r = lB.getD kI 0)) := by
  refine enRX RJ0 (by decide +kernel) rfl (Nat.le_of_ble_eq_true rfl) (fun p e s m below meth c ls hx hb hml hown hts hr hlocks hP hN hl hX => ?_)
  have hl : lv_has ls 2 [(0, .ref qw), (1, .int (nI kI))] := hl
  refine lv_aload_n hx hb (g_42 bJ0_charAt_5068e rfl) rfl (lv_at hl 0 rfl) ?_
  refine kRi (rV (As := []) (rest := []) (b := qw) ⟨hx, hb, hml, hown, hts⟩ (j_isLatin1 l G cy lB qw qv) L_J0_492 (preRVS hN hX va_S.rf) rfl ⟨Nat.le_of_ble_eq_true rfl, Nat.le_of_ble_eq_true rfl⟩ hl.1 (Nat.le_of_ble_eq_true rfl) (g_182 (v := 492) bJ0_charAt_5068e rfl) ⟨Nat.le_of_ble_eq_true rfl, Nat.le_of_ble_eq_true rfl⟩) (fun r h => ?_)
  subst h
  refine lv_if_eq (tgt := 16) hx hb dJ0_charAt_5068e_4 (by decide +kernel) (fun h9 => absurd h9 (by decide +kernel)) (fun _ => ?_)
  refine lv_aload_n hx hb (g_42 bJ0_charAt_5068e rfl) rfl (lv_at hl 0 rfl) ?_
  refine vk_getf hx hb hX.2.2.1 va_S.rf hown (hts _ m_t1393) (fun _ h => h) (g_180 (v := 9) bJ0_charAt_5068e rfl) ?_
  refine lv_iload_n hx hb (g_27 bJ0_charAt_5068e rfl) rfl (lv_at hl 1 rfl) ?_
  refine kRi (rS (As := [.ref qv, .int (nI kI)]) (rest := []) ⟨hx, hb, hml, hown, hts⟩ (j_charAt1 l G cy lB qw qv kI hI hN0 hA) L_J0_495 (preRSX hN hP [] rfl SF_ok hX va_S.rf) rfl ⟨Nat.le_of_ble_eq_true rfl, Nat.le_of_ble_eq_true rfl⟩ hl.1 (Nat.le_of_ble_eq_true rfl) (g_184 (v := 495) bJ0_charAt_5068e rfl) ⟨Nat.le_of_ble_eq_true rfl, Nat.le_of_ble_eq_true rfl⟩) (fun r h => ?_)
  subst h
  exact endR hx hb hr hlocks (ch_n hA).2 rfl (g_172 bJ0_charAt_5068e rfl)
end
section
section SPEEDX
variable {p : Program} {l : Launch} {e : Env} {R : Room} {s : State} {m : MethodId} {args : Array Value} {below : List Frame} {meth : Method} {c : Code} {H : Heap} {locs : List Loc} {cells slots : Nat} {Q : State → Prop}
variable {y : MethodName} {bytes cc : ByteArray} {maxL nL mc ms index d pc : Nat} {ret : Option FieldType} {own : String} {b : Addr} {As rest st0 : List Value} {ls : Array Slot} {G : va_G} {cy : Nat → ClassId}
variable {ws wc Xw cx pl p1 p2 : va_W} {A : Nat → Prop} {q : vw_C} {fs : List Value} {X : (Nat → Prop) → State → Heap → Prop}
theorem cVXi {post : Int32 → va_W → Prop} (S : CallFix p m c cc nL s args BIG own) (hM : Met l y (.code y bytes maxL ret :: BIG) (Rm d mc ms) (WrX G cy X wc H.size (.ref b :: As)) (Wi G post (va_A wc H.size)) mc ms (va_A wc H.size)) (L : LkV own index q.1 y bytes maxL ret As.length) (hN : KN G cy s) (hP : va_P G CL ws H) (hD : va_D A ws) (hS : va_S A s.heap H locs) (hA : ∀ q, s.heap.size ≤ q → A q) (isC : List Nat) (mk : List Bool) (hC : isC.map (fun i => ws[i]?) = wc.map some) (hk : okC isC mk = true) (hm : Nat.ble mk.length ws.length = true) (qr ci : Nat) (he : ws[qr]? = some (b, .inr (ci, fs))) (hc : CL[ci]? = some q) (ok : XOK X) (hX : X A s s.heap) (hst : st0 = As.reverse ++ .ref b :: rest) (hR : d + 1 ≤ R.frames ∧ 8 + (maxL + 11) + 60 * d ≤ R.locals) (hsize : ls.size = nL) (hW : (rest.map fun v => v.category).sum ≤ 8) (hdg : decode cc pc = .ok (.invokevirtual index, 3)) (hf : cells + mc ≤ R.cells ∧ slots + ms ≤ R.slots)
    (kk : ∀ (r : Int32) (u : va_W) (H1 : Heap) (locs1 : List Loc), post r u → va_P G CL (selW mk ws ++ u) H1 → va_D A (selW mk ws ++ u) → va_S A s.heap H1 locs1 → W p l e R s m args below meth c H1 locs1 (cells + mc) (slots + ms) Q (F0 m (pc + 3) ls (.int r :: rest))) : W p l e R s m args below meth c H locs cells slots Q (F0 m pc ls st0) := kWi (rV S hM L (preWVX hN hP hD isC hC (okC_nd hk) qr ci he hc ok hX hS hA) hst hR hsize hW hdg hf) hP hD hS hA isC (trueIx 0 mk) hC (sel_ok hm) (sel_nd mk 0) (okC_dis hk) kk
theorem cVXv {post : va_W → Prop} (S : CallFix p m c cc nL s args BIG own) (hM : Met l y (.code y bytes maxL ret :: BIG) (Rm d mc ms) (WrX G cy X wc H.size (.ref b :: As)) (Wv G post (va_A wc H.size)) mc ms (va_A wc H.size)) (L : LkV own index q.1 y bytes maxL ret As.length) (hN : KN G cy s) (hP : va_P G CL ws H) (hD : va_D A ws) (hS : va_S A s.heap H locs) (hA : ∀ q, s.heap.size ≤ q → A q) (isC : List Nat) (mk : List Bool) (hC : isC.map (fun i => ws[i]?) = wc.map some) (hk : okC isC mk = true) (hm : Nat.ble mk.length ws.length = true) (qr ci : Nat) (he : ws[qr]? = some (b, .inr (ci, fs))) (hc : CL[ci]? = some q) (ok : XOK X) (hX : X A s s.heap) (hst : st0 = As.reverse ++ .ref b :: rest) (hR : d + 1 ≤ R.frames ∧ 8 + (maxL + 11) + 60 * d ≤ R.locals) (hsize : ls.size = nL) (hW : (rest.map fun v => v.category).sum ≤ 8) (hdg : decode cc pc = .ok (.invokevirtual index, 3)) (hf : cells + mc ≤ R.cells ∧ slots + ms ≤ R.slots)
    (kk : ∀ (u : va_W) (H1 : Heap) (locs1 : List Loc), post u → va_P G CL (selW mk ws ++ u) H1 → va_D A (selW mk ws ++ u) → va_S A s.heap H1 locs1 → W p l e R s m args below meth c H1 locs1 (cells + mc) (slots + ms) Q (F0 m (pc + 3) ls rest)) : W p l e R s m args below meth c H locs cells slots Q (F0 m pc ls st0) := kWv (rV S hM L (preWVX hN hP hD isC hC (okC_nd hk) qr ci he hc ok hX hS hA) hst hR hsize hW hdg hf) hP hD hS hA isC (trueIx 0 mk) hC (sel_ok hm) (sel_nd mk 0) (okC_dis hk) kk
end SPEEDX
end
section
theorem lp_lt0 {j n : Nat} (hj : j < 2 ^ 31) (hn : n < 2 ^ 31) (c : nI j < nI n) : j < n := by
  rw [Int32.lt_iff_toInt_lt, nI_toInt hj, nI_toInt hn] at c
  omega
theorem nI_ne1' {k : Nat} (hk : k < 2 ^ 31) : ¬ nI k = -1 := fun q => by
  have := nI_pos (n := k) hk
  rw [q] at this
  exact this (by decide +kernel)
theorem wd_len {a b n : Nat} (ha : a < 2 ^ 30) (hb : b < 2 ^ 30) (hn : n ≤ 5) (c : nI b - nI a = nI n) : b = a + n := by
  have := congrArg Int32.toInt c
  rw [pk_sub_toInt hb ha, nI_toInt (by omega)] at this
  omega
theorem cnt250 {j : Nat} (hj : j ≤ 251) (c : ¬ (250 : Int32) < nI j) : j < 251 := by
  rcases Nat.lt_or_ge j 251 with q | q
  · exact q
  · exact absurd (by rw [show j = 251 by omega]; decide) c
theorem tk_in {x : Int32} {n : Nat} (hn : n ≤ 8) (h1 : 0 ≤ x) (h2 : x ≤ nI n - 1) : ∃ k : Nat, k < n ∧ x = nI k := by
  obtain ⟨k, hk, rfl⟩ := nI_of (Int32.not_lt.mpr h1)
  refine ⟨k, ?_, rfl⟩
  rw [Int32.le_iff_toInt_le, nI_toInt hk, show (1 : Int32) = nI 1 from rfl, pk_sub_toInt (by omega) (by omega)] at h2
  omega
noncomputable abbrev T_setne (t : TA) (x : Nat → Int32) : TA := T_mk (T_nb t) (T_np t) (T_sd t) (T_wh t) (T_gn t) (T_wo t) x (T_go t) (T_ag t) (T_re t) (T_me t) (T_te t) (T_kn t)
theorem as_book : ∀ k, k < ([98, 111, 111, 107] : List Int32).length → ∃ n : Nat, n < 128 ∧ ([98, 111, 111, 107] : List Int32).getD k 0 = nI n := fun k hk => by
  match k, hk with
  | 0, _ => exact ⟨98, by omega, rfl⟩
  | 1, _ => exact ⟨111, by omega, rfl⟩
  | 2, _ => exact ⟨111, by omega, rfl⟩
  | 3, _ => exact ⟨107, by omega, rfl⟩
  | k + 4, h => exact absurd h (by simp)
theorem as_good : ∀ k, k < ([103, 111, 111, 100] : List Int32).length → ∃ n : Nat, n < 128 ∧ ([103, 111, 111, 100] : List Int32).getD k 0 = nI n := fun k hk => by
  match k, hk with
  | 0, _ => exact ⟨103, by omega, rfl⟩
  | 1, _ => exact ⟨111, by omega, rfl⟩
  | 2, _ => exact ⟨111, by omega, rfl⟩
  | 3, _ => exact ⟨100, by omega, rfl⟩
  | k + 4, h => exact absurd h (by simp)
theorem as_need : ∀ k, k < ([110, 101, 101, 100] : List Int32).length → ∃ n : Nat, n < 128 ∧ ([110, 101, 101, 100] : List Int32).getD k 0 = nI n := fun k hk => by
  match k, hk with
  | 0, _ => exact ⟨110, by omega, rfl⟩
  | 1, _ => exact ⟨101, by omega, rfl⟩
  | 2, _ => exact ⟨101, by omega, rfl⟩
  | 3, _ => exact ⟨100, by omega, rfl⟩
  | k + 4, h => exact absurd h (by simp)
theorem as_one : ∀ k, k < ([111, 110, 101] : List Int32).length → ∃ n : Nat, n < 128 ∧ ([111, 110, 101] : List Int32).getD k 0 = nI n := fun k hk => by
  match k, hk with
  | 0, _ => exact ⟨111, by omega, rfl⟩
  | 1, _ => exact ⟨110, by omega, rfl⟩
  | 2, _ => exact ⟨101, by omega, rfl⟩
  | k + 3, h => exact absurd h (by simp)
theorem as_reads : ∀ k, k < ([114, 101, 97, 100, 115] : List Int32).length → ∃ n : Nat, n < 128 ∧ ([114, 101, 97, 100, 115] : List Int32).getD k 0 = nI n := fun k hk => by
  match k, hk with
  | 0, _ => exact ⟨114, by omega, rfl⟩
  | 1, _ => exact ⟨101, by omega, rfl⟩
  | 2, _ => exact ⟨97, by omega, rfl⟩
  | 3, _ => exact ⟨100, by omega, rfl⟩
  | 4, _ => exact ⟨115, by omega, rfl⟩
  | k + 5, h => exact absurd h (by simp)
theorem as_keeps : ∀ k, k < ([107, 101, 101, 112, 115] : List Int32).length → ∃ n : Nat, n < 128 ∧ ([107, 101, 101, 112, 115] : List Int32).getD k 0 = nI n := fun k hk => by
  match k, hk with
  | 0, _ => exact ⟨107, by omega, rfl⟩
  | 1, _ => exact ⟨101, by omega, rfl⟩
  | 2, _ => exact ⟨101, by omega, rfl⟩
  | 3, _ => exact ⟨112, by omega, rfl⟩
  | 4, _ => exact ⟨115, by omega, rfl⟩
  | k + 5, h => exact absurd h (by simp)
theorem as_tells : ∀ k, k < ([116, 101, 108, 108, 115] : List Int32).length → ∃ n : Nat, n < 128 ∧ ([116, 101, 108, 108, 115] : List Int32).getD k 0 = nI n := fun k hk => by
  match k, hk with
  | 0, _ => exact ⟨116, by omega, rfl⟩
  | 1, _ => exact ⟨101, by omega, rfl⟩
  | 2, _ => exact ⟨108, by omega, rfl⟩
  | 3, _ => exact ⟨108, by omega, rfl⟩
  | 4, _ => exact ⟨115, by omega, rfl⟩
  | k + 5, h => exact absurd h (by simp)
theorem as_knows : ∀ k, k < ([107, 110, 111, 119, 115] : List Int32).length → ∃ n : Nat, n < 128 ∧ ([107, 110, 111, 119, 115] : List Int32).getD k 0 = nI n := fun k hk => by
  match k, hk with
  | 0, _ => exact ⟨107, by omega, rfl⟩
  | 1, _ => exact ⟨110, by omega, rfl⟩
  | 2, _ => exact ⟨111, by omega, rfl⟩
  | 3, _ => exact ⟨119, by omega, rfl⟩
  | 4, _ => exact ⟨115, by omega, rfl⟩
  | k + 5, h => exact absurd h (by simp)
theorem as_white : ∀ k, k < ([119, 104, 105, 116, 101] : List Int32).length → ∃ n : Nat, n < 128 ∧ ([119, 104, 105, 116, 101] : List Int32).getD k 0 = nI n := fun k hk => by
  match k, hk with
  | 0, _ => exact ⟨119, by omega, rfl⟩
  | 1, _ => exact ⟨104, by omega, rfl⟩
  | 2, _ => exact ⟨105, by omega, rfl⟩
  | 3, _ => exact ⟨116, by omega, rfl⟩
  | 4, _ => exact ⟨101, by omega, rfl⟩
  | k + 5, h => exact absurd h (by simp)
end
