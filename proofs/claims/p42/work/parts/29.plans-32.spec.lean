section
set_option maxHeartbeats 4000000 in
set_option maxRecDepth 100000 in
theorem c_X1_isUnder (l : Launch) (G : va_G) (cy : Nat → ClassId) (iK : Int32) (iA : Int32)   : MR l yX1_isUnder cX1_isUnder 2 (some .boolean) 1 G cy [] [.int iK, .int iA] (vp_Si (fun r => (r = 1 ∧ zun iK iA = true) ∨ (r = 0 ∧ zun iK iA = false))) := by
  refine enR RX1 (by decide +kernel) rfl (Nat.le_of_ble_eq_true rfl) (fun p e s m below meth c ls hx hb hml hown hts hr hlocks hP hN hl => ?_)
  have hK := hN.1
  replace hl : lv_has ls 2 [(0, .int iK), (1, .int iA)] := hl
  refine lv_iload_n hx hb (g_27 bX1_isUnder rfl) rfl (lv_at hl 1 rfl) ?_
  rcases sw_0_4 iA with rfl | rfl | rfl | rfl | rfl | h_1
  · refine lv_tableIn (tgt := 36) (off := 35) hx hb dX1_isUnder_1 (by decide +kernel) (by decide +kernel) (by decide +kernel) (by decide +kernel) ?_
    refine lv_iconst (v := 1) hx hb (g_4 bX1_isUnder rfl) (by decide +kernel) ?_
    exact endR hx hb hr hlocks rfl (Or.inl (⟨rfl, by rfl⟩)) (g_172 bX1_isUnder rfl)
  · refine lv_tableIn (tgt := 38) (off := 37) hx hb dX1_isUnder_1 (by decide +kernel) (by decide +kernel) (by decide +kernel) (by decide +kernel) ?_
    refine lv_iload_n hx hb (g_26 bX1_isUnder rfl) rfl (lv_at hl 0 rfl) ?_
    refine lv_iconst (v := 1) hx hb (g_4 bX1_isUnder rfl) (by decide +kernel) ?_
    refine lv_icmp_lt (tgt := 52) hx hb dX1_isUnder_40 (by decide +kernel) (fun c_2 => ?_) (fun c_2 => ?_)
    · refine lv_iconst (v := 0) hx hb (g_3 bX1_isUnder rfl) (by decide +kernel) ?_
      exact endR hx hb hr hlocks rfl (Or.inr (⟨rfl, by show (decide _ && decide _) = false; rw [decide_eq_false (Int32.not_le.mpr c_2)]; rfl⟩)) (g_172 bX1_isUnder rfl)
    · refine lv_iload_n hx hb (g_26 bX1_isUnder rfl) rfl (lv_at hl 0 rfl) ?_
      refine lv_iconst (v := 3) hx hb (g_6 bX1_isUnder rfl) (by decide +kernel) ?_
      refine lv_icmp_gt (tgt := 52) hx hb dX1_isUnder_45 (by decide +kernel) (fun c_3 => ?_) (fun c_3 => ?_)
      · refine lv_iconst (v := 0) hx hb (g_3 bX1_isUnder rfl) (by decide +kernel) ?_
        exact endR hx hb hr hlocks rfl (Or.inr (⟨rfl, by show (decide _ && decide _) = false; rw [decide_eq_false (p := _ ≤ (3 : Int32)) (Int32.not_le.mpr c_3), Bool.and_false]⟩)) (g_172 bX1_isUnder rfl)
      · refine lv_iconst (v := 1) hx hb (g_4 bX1_isUnder rfl) (by decide +kernel) ?_
        refine lv_goto (tgt := 53) hx hb dX1_isUnder_49 (by decide +kernel) ?_
        exact endR hx hb hr hlocks rfl (Or.inl (⟨rfl, by show (decide _ && decide _) = true; rw [decide_eq_true (Int32.not_lt.mp c_2), decide_eq_true (Int32.not_lt.mp c_3)]; rfl⟩)) (g_172 bX1_isUnder rfl)
  · refine lv_tableIn (tgt := 71) (off := 70) hx hb dX1_isUnder_1 (by decide +kernel) (by decide +kernel) (by decide +kernel) (by decide +kernel) ?_
    refine lv_iload_n hx hb (g_26 bX1_isUnder rfl) rfl (lv_at hl 0 rfl) ?_
    refine lv_iload_n hx hb (g_27 bX1_isUnder rfl) rfl (lv_at hl 1 rfl) ?_
    refine lv_icmp_ne (tgt := 80) hx hb dX1_isUnder_73 (by decide +kernel) (fun c_4 => ?_) (fun c_4 => ?_)
    · refine lv_iconst (v := 0) hx hb (g_3 bX1_isUnder rfl) (by decide +kernel) ?_
      exact endR hx hb hr hlocks rfl (Or.inr (⟨rfl, by rw [show zun _ _ = decide _ from rfl]; exact decide_eq_false (by intro q; exact c_4 q)⟩)) (g_172 bX1_isUnder rfl)
    · refine lv_iconst (v := 1) hx hb (g_4 bX1_isUnder rfl) (by decide +kernel) ?_
      refine lv_goto (tgt := 81) hx hb dX1_isUnder_77 (by decide +kernel) ?_
      exact endR hx hb hr hlocks rfl (Or.inl (⟨rfl, by rw [show zun _ _ = decide _ from rfl]; exact decide_eq_true (by simpa using c_4)⟩)) (g_172 bX1_isUnder rfl)
  · refine lv_tableIn (tgt := 71) (off := 70) hx hb dX1_isUnder_1 (by decide +kernel) (by decide +kernel) (by decide +kernel) (by decide +kernel) ?_
    refine lv_iload_n hx hb (g_26 bX1_isUnder rfl) rfl (lv_at hl 0 rfl) ?_
    refine lv_iload_n hx hb (g_27 bX1_isUnder rfl) rfl (lv_at hl 1 rfl) ?_
    refine lv_icmp_ne (tgt := 80) hx hb dX1_isUnder_73 (by decide +kernel) (fun c_5 => ?_) (fun c_5 => ?_)
    · refine lv_iconst (v := 0) hx hb (g_3 bX1_isUnder rfl) (by decide +kernel) ?_
      exact endR hx hb hr hlocks rfl (Or.inr (⟨rfl, by rw [show zun _ _ = decide _ from rfl]; exact decide_eq_false (by intro q; exact c_5 q)⟩)) (g_172 bX1_isUnder rfl)
    · refine lv_iconst (v := 1) hx hb (g_4 bX1_isUnder rfl) (by decide +kernel) ?_
      refine lv_goto (tgt := 81) hx hb dX1_isUnder_77 (by decide +kernel) ?_
      exact endR hx hb hr hlocks rfl (Or.inl (⟨rfl, by rw [show zun _ _ = decide _ from rfl]; exact decide_eq_true (by simpa using c_5)⟩)) (g_172 bX1_isUnder rfl)
  · refine lv_tableIn (tgt := 54) (off := 53) hx hb dX1_isUnder_1 (by decide +kernel) (by decide +kernel) (by decide +kernel) (by decide +kernel) ?_
    refine lv_iload_n hx hb (g_26 bX1_isUnder rfl) rfl (lv_at hl 0 rfl) ?_
    refine lv_iconst (v := 4) hx hb (g_7 bX1_isUnder rfl) (by decide +kernel) ?_
    refine lv_icmp_lt (tgt := 69) hx hb dX1_isUnder_56 (by decide +kernel) (fun c_6 => ?_) (fun c_6 => ?_)
    · refine lv_iconst (v := 0) hx hb (g_3 bX1_isUnder rfl) (by decide +kernel) ?_
      exact endR hx hb hr hlocks rfl (Or.inr (⟨rfl, by show (decide _ && decide _) = false; rw [decide_eq_false (Int32.not_le.mpr c_6)]; rfl⟩)) (g_172 bX1_isUnder rfl)
    · refine lv_iload_n hx hb (g_26 bX1_isUnder rfl) rfl (lv_at hl 0 rfl) ?_
      refine lv_bipush (v := 6) hx hb dX1_isUnder_60 (by decide +kernel) ?_
      refine lv_icmp_gt (tgt := 69) hx hb dX1_isUnder_62 (by decide +kernel) (fun c_7 => ?_) (fun c_7 => ?_)
      · refine lv_iconst (v := 0) hx hb (g_3 bX1_isUnder rfl) (by decide +kernel) ?_
        exact endR hx hb hr hlocks rfl (Or.inr (⟨rfl, by show (decide _ && decide _) = false; rw [decide_eq_false (p := _ ≤ (6 : Int32)) (Int32.not_le.mpr c_7), Bool.and_false]⟩)) (g_172 bX1_isUnder rfl)
      · refine lv_iconst (v := 1) hx hb (g_4 bX1_isUnder rfl) (by decide +kernel) ?_
        refine lv_goto (tgt := 70) hx hb dX1_isUnder_66 (by decide +kernel) ?_
        exact endR hx hb hr hlocks rfl (Or.inl (⟨rfl, by show (decide _ && decide _) = true; rw [decide_eq_true (Int32.not_lt.mp c_6), decide_eq_true (Int32.not_lt.mp c_7)]; rfl⟩)) (g_172 bX1_isUnder rfl)
  · refine lv_tableOut (tgt := 71) hx hb dX1_isUnder_1 h_1 (by decide +kernel) ?_
    refine lv_iload_n hx hb (g_26 bX1_isUnder rfl) rfl (lv_at hl 0 rfl) ?_
    refine lv_iload_n hx hb (g_27 bX1_isUnder rfl) rfl (lv_at hl 1 rfl) ?_
    refine lv_icmp_ne (tgt := 80) hx hb dX1_isUnder_73 (by decide +kernel) (fun c_8 => ?_) (fun c_8 => ?_)
    · refine lv_iconst (v := 0) hx hb (g_3 bX1_isUnder rfl) (by decide +kernel) ?_
      exact endR hx hb hr hlocks rfl (Or.inr (⟨rfl, by rw [un_d h_1]; exact decide_eq_false (by intro q; exact c_8 q)⟩)) (g_172 bX1_isUnder rfl)
    · refine lv_iconst (v := 1) hx hb (g_4 bX1_isUnder rfl) (by decide +kernel) ?_
      refine lv_goto (tgt := 81) hx hb dX1_isUnder_77 (by decide +kernel) ?_
      exact endR hx hb hr hlocks rfl (Or.inl (⟨rfl, by rw [un_d h_1]; exact decide_eq_true (by simpa using c_8)⟩)) (g_172 bX1_isUnder rfl)
set_option maxHeartbeats 4000000 in
set_option maxRecDepth 100000 in
theorem c_X0_trialOf (l : Launch) (G : va_G) (cy : Nat → ClassId) (sz : Nat) (qp : Nat) (qu : Nat) (vA : Value) (vB : Value) (vC : Value) (tU : TA) (quw : Nat) (qun : Nat) (qug : Nat) (qua : Nat) (qur : Nat) (qum : Nat) (qut : Nat) (qus : Nat) (qt : Nat) (tA : TA) (qtw : Nat) (qtn : Nat) (qtg : Nat) (qta : Nat) (qtr : Nat) (qtm : Nat) (qtt : Nat) (qts : Nat)   : MW l yX0_trialOf cX0_trialOf 2 (some (.object "EachBookOnce$Town")) 3 0 0 G cy [zzO qp 0 [.ref qu, vA, vB, vC], zzO qu 3 [.int (nI (T_nb tU)), .int (nI (T_np tU)), .int (wb (T_wh tU)), .int (wb (T_gn tU)), .int (T_sd tU), .ref quw, .ref qun, .ref qug, .ref qua, .ref qur, .ref qum, .ref qut, .ref qus], zzI cy quw 8 (T_wo tU), zzI cy qun 8 (T_ne tU), zzI cy qug 8 (T_go tU), zzI cy qua 8 (T_ag tU), zzI cy qur 8 (T_re tU), zzI cy qum 8 (T_me tU), zzI cy qut 8 (T_te tU), zzI cy qus 64 (shF (T_kn tU)), zzO qt 3 [.int (nI (T_nb tA)), .int (nI (T_np tA)), .int (wb (T_wh tA)), .int (wb (T_gn tA)), .int (T_sd tA), .ref qtw, .ref qtn, .ref qtg, .ref qta, .ref qtr, .ref qtm, .ref qtt, .ref qts], zzI cy qtw 8 (T_wo tA), zzI cy qtn 8 (T_ne tA), zzI cy qtg 8 (T_go tA), zzI cy qta 8 (T_ag tA), zzI cy qtr 8 (T_re tA), zzI cy qtm 8 (T_me tA), zzI cy qtt 8 (T_te tA), zzI cy qts 64 (shF (T_kn tA))] sz [.ref qp, .ref qt] (Wq G (fun r u => u = [zzO qp 0 [.ref qu, vA, vB, vC], zzO qu 3 [.int (nI (T_nb tA)), .int (nI (T_np tA)), .int (wb (T_wh tA)), .int (wb (T_gn tA)), .int (T_sd tA), .ref quw, .ref qun, .ref qug, .ref qua, .ref qur, .ref qum, .ref qut, .ref qus], zzI cy quw 8 (T_wo tA), zzI cy qun 8 (T_ne tA), zzI cy qug 8 (T_go tA), zzI cy qua 8 (T_ag tA), zzI cy qur 8 (T_re tA), zzI cy qum 8 (T_me tA), zzI cy qut 8 (T_te tA), zzI cy qus 64 (shF (T_kn tA)), zzO qt 3 [.int (nI (T_nb tA)), .int (nI (T_np tA)), .int (wb (T_wh tA)), .int (wb (T_gn tA)), .int (T_sd tA), .ref qtw, .ref qtn, .ref qtg, .ref qta, .ref qtr, .ref qtm, .ref qtt, .ref qts], zzI cy qtw 8 (T_wo tA), zzI cy qtn 8 (T_ne tA), zzI cy qtg 8 (T_go tA), zzI cy qta 8 (T_ag tA), zzI cy qtr 8 (T_re tA), zzI cy qtm 8 (T_me tA), zzI cy qtt 8 (T_te tA), zzI cy qts 64 (shF (T_kn tA))] ∧ ((r = qu)))) := by
  refine enW RX0 (by decide +kernel) rfl (Nat.le_of_ble_eq_true rfl) (fun p e s m below meth c ls A hx hb hml hown hts hr hlocks hP hN hl hin hD hA hS => ?_)
  have hin : meth.name = _ := hin
  have hK := hN.1
  replace hl : lv_has ls 2 [(0, .ref qp), (1, .ref qt)] := hl
  refine lv_aload_n hx hb (g_42 bX0_trialOf rfl) rfl (lv_at hl 0 rfl) ?_
  refine va_get (D := G) (ci := 0) (v := .ref qu) (C := RX0) (T := TX0) (N := 4) hx hb hts iX_X0 hown hK hP 0 rfl rfl 0 (by decide +kernel) (hts _ m_t101) (fun _ h9 => h9) rfl (g_180 (v := 12) bX0_trialOf rfl) ?_
  refine lv_aload_n hx hb (g_43 bX0_trialOf rfl) rfl (lv_at hl 1 rfl) ?_
  refine cVv (As := [.ref qt]) (rest := []) (b := qu) (q := (RX4, TX4, 13)) ⟨hx, hb, hml, hown, hts⟩ (c_X4_become l G cy (s.heap).size qu tU quw qun qug qua qur qum qut qus qt tA qtw qtn qtg qta qtr qtm qtt qts) L_X0_21 hN hP hD hS hA (trueIx 0 [false, true, true, true, true, true, true, true, true, true, true, true, true, true, true, true, true, true, true]) [true, false, false, false, false, false, false, false, false, false, false, false, false, false, false, false, false, false, false] (sel_eq rfl rfl) (by decide +kernel) rfl 1 3 rfl rfl rfl ⟨Nat.le_of_ble_eq_true rfl, Nat.le_of_ble_eq_true rfl⟩ hl.1 (Nat.le_of_ble_eq_true rfl) (g_182 (v := 21) bX0_trialOf rfl) ⟨Nat.le_of_ble_eq_true rfl, Nat.le_of_ble_eq_true rfl⟩ (fun u_3 H locs h_2 => ?_)
  clear hP hD hS
  intro hP hD hS
  have hPD := pd_eq [_, _, _, _, _, _, _, _, _, _, _, _, _, _, _, _, _, _, _] hP hD h_2 rfl
  clear hP hD h_2
  obtain ⟨hP, hD⟩ := hPD
  refine lv_aload_n hx hb (g_42 bX0_trialOf rfl) rfl (lv_at hl 0 rfl) ?_
  refine va_get (D := G) (ci := 0) (v := .ref qu) (C := RX0) (T := TX0) (N := 4) hx hb hts iX_X0 hown hK hP 0 rfl rfl 0 (by decide +kernel) (hts _ m_t101) (fun _ h9 => h9) rfl (g_180 (v := 12) bX0_trialOf rfl) ?_
  exact endQ (u := [zzO qp 0 [.ref qu, vA, vB, vC], zzO qu 3 [.int (nI (T_nb tA)), .int (nI (T_np tA)), .int (wb (T_wh tA)), .int (wb (T_gn tA)), .int (T_sd tA), .ref quw, .ref qun, .ref qug, .ref qua, .ref qur, .ref qum, .ref qut, .ref qus], zzI cy quw 8 (T_wo tA), zzI cy qun 8 (T_ne tA), zzI cy qug 8 (T_go tA), zzI cy qua 8 (T_ag tA), zzI cy qur 8 (T_re tA), zzI cy qum 8 (T_me tA), zzI cy qut 8 (T_te tA), zzI cy qus 64 (shF (T_kn tA)), zzO qt 3 [.int (nI (T_nb tA)), .int (nI (T_np tA)), .int (wb (T_wh tA)), .int (wb (T_gn tA)), .int (T_sd tA), .ref qtw, .ref qtn, .ref qtg, .ref qta, .ref qtr, .ref qtm, .ref qtt, .ref qts], zzI cy qtw 8 (T_wo tA), zzI cy qtn 8 (T_ne tA), zzI cy qtg 8 (T_go tA), zzI cy qta 8 (T_ag tA), zzI cy qtr 8 (T_re tA), zzI cy qtm 8 (T_me tA), zzI cy qtt 8 (T_te tA), zzI cy qts 64 (shF (T_kn tA))]) hx hb hr hlocks (pSb hP [[true, true, true, true, true, true, true, true, true, true, true, true, true, true, true, true, true, true, true]] rfl rfl) (dSb hD [[true, true, true, true, true, true, true, true, true, true, true, true, true, true, true, true, true, true, true]] (by decide +kernel) rfl rfl) hS ⟨rfl, rfl⟩ (g_176 bX0_trialOf rfl)
set_option maxHeartbeats 4000000 in
set_option maxRecDepth 100000 in
theorem c_X0_sumOfRun (l : Launch) (G : va_G) (cy : Nat → ClassId) (sz : Nat) (qp : Nat) (qu : Nat) (vS : Value) (iL : Int32) (iBs : Int32) (tA : TA) (quw : Nat) (qun : Nat) (qug : Nat) (qua : Nat) (qur : Nat) (qum : Nat) (qut : Nat) (qus : Nat) (iK : Int32) (iA : Int32) (kN : Nat)  (hB : T_nb tA ≤ 8) (hPp : T_np tA ≤ 8) (hN60 : kN ≤ 60) : MW l yX0_sumOfRun cX0_sumOfRun 7 (some .int) 6 0 0 G cy [zzO qp 0 [.ref qu, vS, .int iL, .int iBs], zzO qu 3 [.int (nI (T_nb tA)), .int (nI (T_np tA)), .int (wb (T_wh tA)), .int (wb (T_gn tA)), .int (T_sd tA), .ref quw, .ref qun, .ref qug, .ref qua, .ref qur, .ref qum, .ref qut, .ref qus], zzI cy quw 8 (T_wo tA), zzI cy qun 8 (T_ne tA), zzI cy qug 8 (T_go tA), zzI cy qua 8 (T_ag tA), zzI cy qur 8 (T_re tA), zzI cy qum 8 (T_me tA), zzI cy qut 8 (T_te tA), zzI cy qus 64 (shF (T_kn tA))] sz [.ref qp, .ref qu, .int iK, .int iA, .int (nI kN)] (Wi G (fun r u => u = [zzO qp 0 [.ref qu, vS, .int ((srG iK iA kN tA iL 0).2.1), .int iBs], zzO qu 3 [.int (nI (T_nb ((srG iK iA kN tA iL 0).1))), .int (nI (T_np ((srG iK iA kN tA iL 0).1))), .int (wb (T_wh ((srG iK iA kN tA iL 0).1))), .int (wb (T_gn ((srG iK iA kN tA iL 0).1))), .int (T_sd ((srG iK iA kN tA iL 0).1)), .ref quw, .ref qun, .ref qug, .ref qua, .ref qur, .ref qum, .ref qut, .ref qus], zzI cy quw 8 (T_wo ((srG iK iA kN tA iL 0).1)), zzI cy qun 8 (T_ne ((srG iK iA kN tA iL 0).1)), zzI cy qug 8 (T_go ((srG iK iA kN tA iL 0).1)), zzI cy qua 8 (T_ag ((srG iK iA kN tA iL 0).1)), zzI cy qur 8 (T_re ((srG iK iA kN tA iL 0).1)), zzI cy qum 8 (T_me ((srG iK iA kN tA iL 0).1)), zzI cy qut 8 (T_te ((srG iK iA kN tA iL 0).1)), zzI cy qus 64 (shF (T_kn ((srG iK iA kN tA iL 0).1)))] ∧ ((r = ((srG iK iA kN tA iL 0).2.2))))) := by
  refine enW RX0 (by decide +kernel) rfl (Nat.le_of_ble_eq_true rfl) (fun p e s m below meth c ls A hx hb hml hown hts hr hlocks hP hN hl hin hD hA hS => ?_)
  have hin : meth.name = _ := hin
  have hK := hN.1
  replace hl : lv_has ls 7 [(0, .ref qp), (1, .ref qu), (2, .int iK), (3, .int iA), (4, .int (nI kN))] := hl
  refine lv_iconst (v := 0) hx hb (g_3 bX0_sumOfRun rfl) (by decide +kernel) ?_
  refine lv_istore (lv' := [(5, .int 0), (0, .ref qp), (1, .ref qu), (2, .int iK), (3, .int iA), (4, .int (nI kN))]) hx hb (g_54 (v := 5) bX0_sumOfRun rfl) hl (by decide +kernel) rfl (fun ls => ?_)
  clear hl
  intro hl
  refine lv_iconst (v := 0) hx hb (g_3 bX0_sumOfRun rfl) (by decide +kernel) ?_
  refine lv_istore (lv' := [(6, .int 0), (5, .int 0), (0, .ref qp), (1, .ref qu), (2, .int iK), (3, .int iA), (4, .int (nI kN))]) hx hb (g_54 (v := 6) bX0_sumOfRun rfl) hl (by decide +kernel) rfl (fun ls => ?_)
  clear hl
  intro hl
  have lp_1 : ∀ (n_2 : Nat) (j_4 : Nat) (tJ_5 : TA) (xL_6 : Int32) (xS_7 : Int32), 60 - j_4 < n_2 → j_4 ≤ kN → srG iK iA (kN - j_4) tJ_5 xL_6 xS_7 = srG iK iA kN tA iL 0 → T_nb tJ_5 = T_nb tA ∧ T_np tJ_5 = T_np tA → ∀ (H : Heap) (locs : List Loc) (ls : Array Slot), va_P G CL [zzO qp 0 [.ref qu, vS, .int xL_6, .int iBs], zzO qu 3 [.int (nI (T_nb tJ_5)), .int (nI (T_np tJ_5)), .int (wb (T_wh tJ_5)), .int (wb (T_gn tJ_5)), .int (T_sd tJ_5), .ref quw, .ref qun, .ref qug, .ref qua, .ref qur, .ref qum, .ref qut, .ref qus], zzI cy quw 8 (T_wo tJ_5), zzI cy qun 8 (T_ne tJ_5), zzI cy qug 8 (T_go tJ_5), zzI cy qua 8 (T_ag tJ_5), zzI cy qur 8 (T_re tJ_5), zzI cy qum 8 (T_me tJ_5), zzI cy qut 8 (T_te tJ_5), zzI cy qus 64 (shF (T_kn tJ_5))] H → va_D A [zzO qp 0 [.ref qu, vS, .int xL_6, .int iBs], zzO qu 3 [.int (nI (T_nb tJ_5)), .int (nI (T_np tJ_5)), .int (wb (T_wh tJ_5)), .int (wb (T_gn tJ_5)), .int (T_sd tJ_5), .ref quw, .ref qun, .ref qug, .ref qua, .ref qur, .ref qum, .ref qut, .ref qus], zzI cy quw 8 (T_wo tJ_5), zzI cy qun 8 (T_ne tJ_5), zzI cy qug 8 (T_go tJ_5), zzI cy qua 8 (T_ag tJ_5), zzI cy qur 8 (T_re tJ_5), zzI cy qum 8 (T_me tJ_5), zzI cy qut 8 (T_te tJ_5), zzI cy qus 64 (shF (T_kn tJ_5))] → va_S A s.heap H locs → lv_has ls 7 [(6, .int (nI j_4)), (5, .int xS_7), (0, .ref qp), (1, .ref qu), (2, .int iK), (3, .int iA), (4, .int (nI kN))] → W p l e (Rm 6 0 0) s m (List.toArray (α := Value) [.ref qp, .ref qu, .int iK, .int iA, .int (nI kN)]) below meth c H locs 0 0 (MQ below ((Wi G (fun r u => u = [zzO qp 0 [.ref qu, vS, .int ((srG iK iA kN tA iL 0).2.1), .int iBs], zzO qu 3 [.int (nI (T_nb ((srG iK iA kN tA iL 0).1))), .int (nI (T_np ((srG iK iA kN tA iL 0).1))), .int (wb (T_wh ((srG iK iA kN tA iL 0).1))), .int (wb (T_gn ((srG iK iA kN tA iL 0).1))), .int (T_sd ((srG iK iA kN tA iL 0).1)), .ref quw, .ref qun, .ref qug, .ref qua, .ref qur, .ref qum, .ref qut, .ref qus], zzI cy quw 8 (T_wo ((srG iK iA kN tA iL 0).1)), zzI cy qun 8 (T_ne ((srG iK iA kN tA iL 0).1)), zzI cy qug 8 (T_go ((srG iK iA kN tA iL 0).1)), zzI cy qua 8 (T_ag ((srG iK iA kN tA iL 0).1)), zzI cy qur 8 (T_re ((srG iK iA kN tA iL 0).1)), zzI cy qum 8 (T_me ((srG iK iA kN tA iL 0).1)), zzI cy qut 8 (T_te ((srG iK iA kN tA iL 0).1)), zzI cy qus 64 (shF (T_kn ((srG iK iA kN tA iL 0).1)))] ∧ ((r = ((srG iK iA kN tA iL 0).2.2))))) A) (List.toArray (α := Value) [.ref qp, .ref qu, .int iK, .int iA, .int (nI kN)]) s 0 0 A) (F0 m 6 ls []) := by
    intro n_2
    induction n_2 with
    | zero => intro j_4 tJ_5 xL_6 xS_7 hm9; exact absurd hm9 (Nat.not_lt_zero _)
    | succ n_2 ih_3 =>
      intro j_4 tJ_5 xL_6 xS_7 hm_11 hj_8 hT_9 hn_10 H locs ls hP hD hS hl
      refine lv_iload hx hb (g_21 (v := 6) bX0_sumOfRun rfl) (lv_at hl 0 rfl) ?_
      refine lv_iload hx hb (g_21 (v := 4) bX0_sumOfRun rfl) (lv_at hl 6 rfl) ?_
      refine lv_icmp_ge (tgt := 63) hx hb dX0_sumOfRun_10 (by decide +kernel) (fun c_12 => ?_) (fun c_12 => ?_)
      · have hlt_13 : j_4 = kN := Nat.le_antisymm (by omega) (lp_ge rfl rfl (by omega) (by omega) c_12)
        have hlt_13r : srG iK iA kN tA iL 0 = (tJ_5, xL_6, xS_7) := by rw [← hT_9, hlt_13, Nat.sub_self]; rfl
        refine lv_iload hx hb (g_21 (v := 5) bX0_sumOfRun rfl) (lv_at hl 1 rfl) ?_
        exact endW (u := [zzO qp 0 [.ref qu, vS, .int xL_6, .int iBs], zzO qu 3 [.int (nI (T_nb tJ_5)), .int (nI (T_np tJ_5)), .int (wb (T_wh tJ_5)), .int (wb (T_gn tJ_5)), .int (T_sd tJ_5), .ref quw, .ref qun, .ref qug, .ref qua, .ref qur, .ref qum, .ref qut, .ref qus], zzI cy quw 8 (T_wo tJ_5), zzI cy qun 8 (T_ne tJ_5), zzI cy qug 8 (T_go tJ_5), zzI cy qua 8 (T_ag tJ_5), zzI cy qur 8 (T_re tJ_5), zzI cy qum 8 (T_me tJ_5), zzI cy qut 8 (T_te tJ_5), zzI cy qus 64 (shF (T_kn tJ_5))]) hx hb hr hlocks rfl (pSb hP [[true, true, true, true, true, true, true, true, true, true]] rfl rfl) (dSb hD [[true, true, true, true, true, true, true, true, true, true]] (by decide +kernel) rfl rfl) hS ⟨by rw [hlt_13r], (by rw [hlt_13r])⟩ (g_172 bX0_sumOfRun rfl)
      · have hlt_14 : j_4 < kN := lp_lt rfl rfl (by omega) (by omega) c_12
        obtain ⟨hlt_14b, hlt_14p⟩ := id hn_10
        refine lv_aload_n hx hb (g_43 bX0_sumOfRun rfl) rfl (lv_at hl 3 rfl) ?_
        refine kRi (rV (As := []) (rest := []) (b := qu) ⟨hx, hb, hml, hown, hts⟩ (c_X4_setThere l G cy qu tJ_5 quw qun qug qua qur qum qut qus (by first | omega | (simp only [nb_sr, np_sr, nb_wr, np_wr, nb_rd, np_rd, nb_ch, np_ch, nb_zr, np_zr, nb_za, np_za, nb_ey, np_ey, nb_hf, np_hf, nb_dd, np_dd, nb_so, np_so, nb_skn, np_skn, nb_swh, np_swh, nb_sgn, np_sgn, nb_ssd, np_ssd, nb_sgo, np_sgo, nb_sag, np_sag]; omega))) L_X0_25 (preRV (q := (RX4, TX4, 13)) hN hP [1] rfl 1 3 rfl rfl) rfl ⟨Nat.le_of_ble_eq_true rfl, Nat.le_of_ble_eq_true rfl⟩ hl.1 (Nat.le_of_ble_eq_true rfl) (g_182 (v := 25) bX0_sumOfRun rfl) ⟨Nat.le_of_ble_eq_true rfl, Nat.le_of_ble_eq_true rfl⟩) (fun r_15 h_16 => ?_)
        subst h_16
        refine lv_if_ne (tgt := 28) hx hb dX0_sumOfRun_17 (by decide +kernel) (fun c_17 => ?_) (fun c_17 => ?_)
        · refine lv_aload_n hx hb (g_43 bX0_sumOfRun rfl) rfl (lv_at hl 3 rfl) ?_
          refine lv_iload_n hx hb (g_28 bX0_sumOfRun rfl) rfl (lv_at hl 4 rfl) ?_
          refine lv_iload_n hx hb (g_29 bX0_sumOfRun rfl) rfl (lv_at hl 5 rfl) ?_
          refine cSi (As := [.ref qu, .int iK, .int iA]) (rest := []) ⟨hx, hb, hml, hown, hts⟩ (c_X1_act l G cy (H).size qu tJ_5 quw qun qug qua qur qum qut qus iK iA (by first | omega | (simp only [nb_sr, np_sr, nb_wr, np_wr, nb_rd, np_rd, nb_ch, np_ch, nb_zr, np_zr, nb_za, np_za, nb_ey, np_ey, nb_hf, np_hf, nb_dd, np_dd, nb_so, np_so, nb_skn, np_skn, nb_swh, np_swh, nb_sgn, np_sgn, nb_ssd, np_ssd, nb_sgo, np_sgo, nb_sag, np_sag]; omega)) (by first | omega | (simp only [nb_sr, np_sr, nb_wr, np_wr, nb_rd, np_rd, nb_ch, np_ch, nb_zr, np_zr, nb_za, np_za, nb_ey, np_ey, nb_hf, np_hf, nb_dd, np_dd, nb_so, np_so, nb_skn, np_skn, nb_swh, np_swh, nb_sgn, np_sgn, nb_ssd, np_ssd, nb_sgo, np_sgo, nb_sag, np_sag]; omega))) L_X0_33 hN hP hD hS hA (trueIx 0 [false, true, true, true, true, true, true, true, true, true]) [true, false, false, false, false, false, false, false, false, false] (sel_eq rfl rfl) (by decide +kernel) rfl rfl ⟨Nat.le_of_ble_eq_true rfl, Nat.le_of_ble_eq_true rfl⟩ hl.1 (Nat.le_of_ble_eq_true rfl) (g_184 (v := 33) bX0_sumOfRun rfl) ⟨Nat.le_of_ble_eq_true rfl, Nat.le_of_ble_eq_true rfl⟩ (fun r_18 u_20 H locs h_19 => ?_)
          clear hP hD hS
          intro hP hD hS
          obtain ⟨hu9, h_19⟩ := h_19
          have hPD := pd_eq [zzO qp 0 [.ref qu, vS, .int xL_6, .int iBs], zzO qu 3 [.int (nI (T_nb ((zact tJ_5 iK iA).1))), .int (nI (T_np ((zact tJ_5 iK iA).1))), .int (wb (T_wh ((zact tJ_5 iK iA).1))), .int (wb (T_gn ((zact tJ_5 iK iA).1))), .int (T_sd ((zact tJ_5 iK iA).1)), .ref quw, .ref qun, .ref qug, .ref qua, .ref qur, .ref qum, .ref qut, .ref qus], zzI cy quw 8 (T_wo ((zact tJ_5 iK iA).1)), zzI cy qun 8 (T_ne ((zact tJ_5 iK iA).1)), zzI cy qug 8 (T_go ((zact tJ_5 iK iA).1)), zzI cy qua 8 (T_ag ((zact tJ_5 iK iA).1)), zzI cy qur 8 (T_re ((zact tJ_5 iK iA).1)), zzI cy qum 8 (T_me ((zact tJ_5 iK iA).1)), zzI cy qut 8 (T_te ((zact tJ_5 iK iA).1)), zzI cy qus 64 (shF (T_kn ((zact tJ_5 iK iA).1)))] hP hD hu9 rfl
          clear hP hD hu9
          obtain ⟨hP, hD⟩ := hPD
          subst h_19
          refine lv_pop hx hb (g_87 bX0_sumOfRun rfl) rfl ?_
          refine lv_aload_n hx hb (g_42 bX0_sumOfRun rfl) rfl (lv_at hl 2 rfl) ?_
          refine lv_aload_n hx hb (g_43 bX0_sumOfRun rfl) rfl (lv_at hl 3 rfl) ?_
          refine kRi (rV (As := []) (rest := [.ref qp]) (b := qu) ⟨hx, hb, hml, hown, hts⟩ (c_X4_worthNow l G cy qu ((zact tJ_5 iK iA).1) quw qun qug qua qur qum qut qus (by first | omega | (simp only [nb_sr, np_sr, nb_wr, np_wr, nb_rd, np_rd, nb_ch, np_ch, nb_zr, np_zr, nb_za, np_za, nb_ey, np_ey, nb_hf, np_hf, nb_dd, np_dd, nb_so, np_so, nb_skn, np_skn, nb_swh, np_swh, nb_sgn, np_sgn, nb_ssd, np_ssd, nb_sgo, np_sgo, nb_sag, np_sag]; omega)) (by first | omega | (simp only [nb_sr, np_sr, nb_wr, np_wr, nb_rd, np_rd, nb_ch, np_ch, nb_zr, np_zr, nb_za, np_za, nb_ey, np_ey, nb_hf, np_hf, nb_dd, np_dd, nb_so, np_so, nb_skn, np_skn, nb_swh, np_swh, nb_sgn, np_sgn, nb_ssd, np_ssd, nb_sgo, np_sgo, nb_sag, np_sag]; omega))) L_X0_39 (preRV (q := (RX4, TX4, 13)) hN hP (trueIx 0 [false, true, true, false, false, false, false, false, false, true]) (sel_fm rfl rfl) 1 3 rfl rfl) rfl ⟨Nat.le_of_ble_eq_true rfl, Nat.le_of_ble_eq_true rfl⟩ hl.1 (Nat.le_of_ble_eq_true rfl) (g_182 (v := 39) bX0_sumOfRun rfl) ⟨Nat.le_of_ble_eq_true rfl, Nat.le_of_ble_eq_true rfl⟩) (fun r_21 h_22 => ?_)
          subst h_22
          refine va_put (D := G) (ci := 0) (v := .int (zval ((zact tJ_5 iK iA).1))) (ty := .int) (C := RX0) (T := TX0) (N := 4) hx hb hts iX_X0 tyX0 tyX0_ok nmX0 hown hK hP hD hS 0 rfl rfl 2 (by decide +kernel) (hts _ m_t104) (fun _ h9 => h9) rfl (by decide +kernel) rfl rfl (Nat.le_of_ble_eq_true rfl) (g_181 (v := 29) bX0_sumOfRun rfl) (fun H locs => ?_)
          clear hP hD hS
          intro hP hD hS
          have hPD := pd_as [zzO qp 0 [.ref qu, vS, .int (zval ((zact tJ_5 iK iA).1)), .int iBs], _, _, _, _, _, _, _, _, _] hP hD rfl
          clear hP hD
          obtain ⟨hP, hD⟩ := hPD
          refine lv_iload hx hb (g_21 (v := 5) bX0_sumOfRun rfl) (lv_at hl 1 rfl) ?_
          refine lv_aload_n hx hb (g_42 bX0_sumOfRun rfl) rfl (lv_at hl 2 rfl) ?_
          refine va_get (D := G) (ci := 0) (v := .int (zval ((zact tJ_5 iK iA).1))) (C := RX0) (T := TX0) (N := 4) hx hb hts iX_X0 hown hK hP 0 rfl rfl 2 (by decide +kernel) (hts _ m_t104) (fun _ h9 => h9) rfl (g_180 (v := 29) bX0_sumOfRun rfl) ?_
          refine lv_iadd hx hb (g_96 bX0_sumOfRun rfl) ?_
          refine lv_istore (lv' := [(5, .int (xS_7 + (zval ((zact tJ_5 iK iA).1)))), (6, .int (nI j_4)), (0, .ref qp), (1, .ref qu), (2, .int iK), (3, .int iA), (4, .int (nI kN))]) hx hb (g_54 (v := 5) bX0_sumOfRun rfl) hl (by decide +kernel) rfl (fun ls => ?_)
          clear hl
          intro hl
          refine lv_aload_n hx hb (g_43 bX0_sumOfRun rfl) rfl (lv_at hl 3 rfl) ?_
          refine cVi (As := []) (rest := []) (b := qu) (q := (RX4, TX4, 13)) ⟨hx, hb, hml, hown, hts⟩ (c_X4_endYear l G cy (H).size qu ((zact tJ_5 iK iA).1) quw qun qug qua qur qum qut qus (by first | omega | (simp only [nb_sr, np_sr, nb_wr, np_wr, nb_rd, np_rd, nb_ch, np_ch, nb_zr, np_zr, nb_za, np_za, nb_ey, np_ey, nb_hf, np_hf, nb_dd, np_dd, nb_so, np_so, nb_skn, np_skn, nb_swh, np_swh, nb_sgn, np_sgn, nb_ssd, np_ssd, nb_sgo, np_sgo, nb_sag, np_sag]; omega)) (by first | omega | (simp only [nb_sr, np_sr, nb_wr, np_wr, nb_rd, np_rd, nb_ch, np_ch, nb_zr, np_zr, nb_za, np_za, nb_ey, np_ey, nb_hf, np_hf, nb_dd, np_dd, nb_so, np_so, nb_skn, np_skn, nb_swh, np_swh, nb_sgn, np_sgn, nb_ssd, np_ssd, nb_sgo, np_sgo, nb_sag, np_sag]; omega))) L_X0_42 hN hP hD hS hA (trueIx 0 [false, true, true, true, true, true, true, true, true, true]) [true, false, false, false, false, false, false, false, false, false] (sel_eq rfl rfl) (by decide +kernel) rfl 1 3 rfl rfl rfl ⟨Nat.le_of_ble_eq_true rfl, Nat.le_of_ble_eq_true rfl⟩ hl.1 (Nat.le_of_ble_eq_true rfl) (g_182 (v := 42) bX0_sumOfRun rfl) ⟨Nat.le_of_ble_eq_true rfl, Nat.le_of_ble_eq_true rfl⟩ (fun r_23 u_25 H locs h_24 => ?_)
          clear hP hD hS
          intro hP hD hS
          obtain ⟨hu9, h_24⟩ := h_24
          have hPD := pd_eq [_, zzO qu 3 [.int (nI (T_nb (zey ((zact tJ_5 iK iA).1)))), .int (nI (T_np (zey ((zact tJ_5 iK iA).1)))), .int (wb (T_wh (zey ((zact tJ_5 iK iA).1)))), .int (wb (T_gn (zey ((zact tJ_5 iK iA).1)))), .int (T_sd (zey ((zact tJ_5 iK iA).1))), .ref quw, .ref qun, .ref qug, .ref qua, .ref qur, .ref qum, .ref qut, .ref qus], zzI cy quw 8 (T_wo (zey ((zact tJ_5 iK iA).1))), zzI cy qun 8 (T_ne (zey ((zact tJ_5 iK iA).1))), zzI cy qug 8 (T_go (zey ((zact tJ_5 iK iA).1))), zzI cy qua 8 (T_ag (zey ((zact tJ_5 iK iA).1))), zzI cy qur 8 (T_re (zey ((zact tJ_5 iK iA).1))), zzI cy qum 8 (T_me (zey ((zact tJ_5 iK iA).1))), zzI cy qut 8 (T_te (zey ((zact tJ_5 iK iA).1))), zzI cy qus 64 (shF (T_kn (zey ((zact tJ_5 iK iA).1))))] hP hD hu9 rfl
          clear hP hD hu9
          obtain ⟨hP, hD⟩ := hPD
          subst h_24
          refine lv_pop hx hb (g_87 bX0_sumOfRun rfl) rfl ?_
          refine lv_iinc (v := nI (j_4 + 1)) (lv' := [(6, .int (nI (j_4 + 1))), (5, .int (xS_7 + (zval ((zact tJ_5 iK iA).1)))), (0, .ref qp), (1, .ref qu), (2, .int iK), (3, .int iA), (4, .int (nI kN))]) hx hb dX0_sumOfRun_57 hl (k := 1) rfl (nI_1 _) (by decide +kernel) rfl (fun ls => ?_)
          clear hl
          intro hl
          refine lv_goto (tgt := 6) hx hb dX0_sumOfRun_60 (by decide +kernel) ?_
          exact ih_3 (j_4 + 1) (zey ((zact tJ_5 iK iA).1)) (zval ((zact tJ_5 iK iA).1)) (xS_7 + (zval ((zact tJ_5 iK iA).1))) (by omega) (by omega) (by rw [← hT_9, show kN - j_4 = kN - (j_4 + 1) + 1 by omega, sr_go c_17]) (⟨(zey_nb _).1.trans ((zact_nb _ _ _).1.trans hn_10.1), (zey_nb _).2.trans ((zact_nb _ _ _).2.trans hn_10.2)⟩) _ _ _ hP hD hS (lv_sub hl [0, 1, 2, 3, 4, 5, 6] rfl)
        · have hz_26 : srG iK iA kN tA iL 0 = (tJ_5, 0, xS_7) := by rw [← hT_9, show kN - j_4 = kN - (j_4 + 1) + 1 by omega, sr_0 c_17]
          refine lv_aload_n hx hb (g_42 bX0_sumOfRun rfl) rfl (lv_at hl 2 rfl) ?_
          refine lv_iconst (v := 0) hx hb (g_3 bX0_sumOfRun rfl) (by decide +kernel) ?_
          refine va_put (D := G) (ci := 0) (v := .int 0) (ty := .int) (C := RX0) (T := TX0) (N := 4) hx hb hts iX_X0 tyX0 tyX0_ok nmX0 hown hK hP hD hS 0 rfl rfl 2 (by decide +kernel) (hts _ m_t104) (fun _ h9 => h9) rfl (by decide +kernel) rfl rfl (Nat.le_of_ble_eq_true rfl) (g_181 (v := 29) bX0_sumOfRun rfl) (fun H locs => ?_)
          clear hP hD hS
          intro hP hD hS
          have hPD := pd_as [zzO qp 0 [.ref qu, vS, .int 0, .int iBs], zzO qu 3 [.int (nI (T_nb tJ_5)), .int (nI (T_np tJ_5)), .int (wb (T_wh tJ_5)), .int (wb (T_gn tJ_5)), .int (T_sd tJ_5), .ref quw, .ref qun, .ref qug, .ref qua, .ref qur, .ref qum, .ref qut, .ref qus], zzI cy quw 8 (T_wo tJ_5), zzI cy qun 8 (T_ne tJ_5), zzI cy qug 8 (T_go tJ_5), zzI cy qua 8 (T_ag tJ_5), zzI cy qur 8 (T_re tJ_5), zzI cy qum 8 (T_me tJ_5), zzI cy qut 8 (T_te tJ_5), zzI cy qus 64 (shF (T_kn tJ_5))] hP hD rfl
          clear hP hD
          obtain ⟨hP, hD⟩ := hPD
          refine lv_goto (tgt := 63) hx hb dX0_sumOfRun_25 (by decide +kernel) ?_
          refine lv_iload hx hb (g_21 (v := 5) bX0_sumOfRun rfl) (lv_at hl 1 rfl) ?_
          exact endW (u := [zzO qp 0 [.ref qu, vS, .int 0, .int iBs], zzO qu 3 [.int (nI (T_nb tJ_5)), .int (nI (T_np tJ_5)), .int (wb (T_wh tJ_5)), .int (wb (T_gn tJ_5)), .int (T_sd tJ_5), .ref quw, .ref qun, .ref qug, .ref qua, .ref qur, .ref qum, .ref qut, .ref qus], zzI cy quw 8 (T_wo tJ_5), zzI cy qun 8 (T_ne tJ_5), zzI cy qug 8 (T_go tJ_5), zzI cy qua 8 (T_ag tJ_5), zzI cy qur 8 (T_re tJ_5), zzI cy qum 8 (T_me tJ_5), zzI cy qut 8 (T_te tJ_5), zzI cy qus 64 (shF (T_kn tJ_5))]) hx hb hr hlocks rfl (pSb hP [[true, true, true, true, true, true, true, true, true, true]] rfl rfl) (dSb hD [[true, true, true, true, true, true, true, true, true, true]] (by decide +kernel) rfl rfl) hS ⟨by rw [hz_26], (by rw [hz_26])⟩ (g_172 bX0_sumOfRun rfl)
  exact lp_1 ((60 - 0) + 1) 0 tA iL 0 (Nat.lt_succ_self _) (Nat.zero_le _) rfl (⟨rfl, rfl⟩) _ _ ls hP hD hS (lv_sub hl [0, 1, 2, 3, 4, 5, 6] rfl)
set_option maxHeartbeats 4000000 in
set_option maxRecDepth 100000 in
theorem c_X0_sumOfRest (l : Launch) (G : va_G) (cy : Nat → ClassId) (sz : Nat) (qu : Nat) (tA : TA) (quw : Nat) (qun : Nat) (qug : Nat) (qua : Nat) (qur : Nat) (qum : Nat) (qut : Nat) (qus : Nat) (kN : Nat)  (hB : T_nb tA ≤ 8) (hPp : T_np tA ≤ 8) (hN60 : kN ≤ 60) : MW l yX0_sumOfRest cX0_sumOfRest 4 (some .int) 6 0 0 G cy [zzO qu 3 [.int (nI (T_nb tA)), .int (nI (T_np tA)), .int (wb (T_wh tA)), .int (wb (T_gn tA)), .int (T_sd tA), .ref quw, .ref qun, .ref qug, .ref qua, .ref qur, .ref qum, .ref qut, .ref qus], zzI cy quw 8 (T_wo tA), zzI cy qun 8 (T_ne tA), zzI cy qug 8 (T_go tA), zzI cy qua 8 (T_ag tA), zzI cy qur 8 (T_re tA), zzI cy qum 8 (T_me tA), zzI cy qut 8 (T_te tA), zzI cy qus 64 (shF (T_kn tA))] sz [.ref qu, .int (nI kN)] (Wi G (fun r u => u = [zzO qu 3 [.int (nI (T_nb ((soG kN tA 0).1))), .int (nI (T_np ((soG kN tA 0).1))), .int (wb (T_wh ((soG kN tA 0).1))), .int (wb (T_gn ((soG kN tA 0).1))), .int (T_sd ((soG kN tA 0).1)), .ref quw, .ref qun, .ref qug, .ref qua, .ref qur, .ref qum, .ref qut, .ref qus], zzI cy quw 8 (T_wo ((soG kN tA 0).1)), zzI cy qun 8 (T_ne ((soG kN tA 0).1)), zzI cy qug 8 (T_go ((soG kN tA 0).1)), zzI cy qua 8 (T_ag ((soG kN tA 0).1)), zzI cy qur 8 (T_re ((soG kN tA 0).1)), zzI cy qum 8 (T_me ((soG kN tA 0).1)), zzI cy qut 8 (T_te ((soG kN tA 0).1)), zzI cy qus 64 (shF (T_kn ((soG kN tA 0).1)))] ∧ ((r = ((soG kN tA 0).2))))) := by
  refine enW RX0 (by decide +kernel) rfl (Nat.le_of_ble_eq_true rfl) (fun p e s m below meth c ls A hx hb hml hown hts hr hlocks hP hN hl hin hD hA hS => ?_)
  have hin : meth.name = _ := hin
  have hK := hN.1
  replace hl : lv_has ls 4 [(0, .ref qu), (1, .int (nI kN))] := hl
  refine lv_iconst (v := 0) hx hb (g_3 bX0_sumOfRest rfl) (by decide +kernel) ?_
  refine lv_istore_n (lv' := [(2, .int 0), (0, .ref qu), (1, .int (nI kN))]) hx hb (g_61 bX0_sumOfRest rfl) rfl hl (by decide +kernel) rfl (fun ls => ?_)
  clear hl
  intro hl
  refine lv_iconst (v := 0) hx hb (g_3 bX0_sumOfRest rfl) (by decide +kernel) ?_
  refine lv_istore_n (lv' := [(3, .int 0), (2, .int 0), (0, .ref qu), (1, .int (nI kN))]) hx hb (g_62 bX0_sumOfRest rfl) rfl hl (by decide +kernel) rfl (fun ls => ?_)
  clear hl
  intro hl
  have lp_1 : ∀ (n_2 : Nat) (j_4 : Nat) (tJ_5 : TA) (xS_6 : Int32), 60 - j_4 < n_2 → j_4 ≤ kN → soG (kN - j_4) tJ_5 xS_6 = soG kN tA 0 → T_nb tJ_5 = T_nb tA ∧ T_np tJ_5 = T_np tA → ∀ (H : Heap) (locs : List Loc) (ls : Array Slot), va_P G CL [zzO qu 3 [.int (nI (T_nb tJ_5)), .int (nI (T_np tJ_5)), .int (wb (T_wh tJ_5)), .int (wb (T_gn tJ_5)), .int (T_sd tJ_5), .ref quw, .ref qun, .ref qug, .ref qua, .ref qur, .ref qum, .ref qut, .ref qus], zzI cy quw 8 (T_wo tJ_5), zzI cy qun 8 (T_ne tJ_5), zzI cy qug 8 (T_go tJ_5), zzI cy qua 8 (T_ag tJ_5), zzI cy qur 8 (T_re tJ_5), zzI cy qum 8 (T_me tJ_5), zzI cy qut 8 (T_te tJ_5), zzI cy qus 64 (shF (T_kn tJ_5))] H → va_D A [zzO qu 3 [.int (nI (T_nb tJ_5)), .int (nI (T_np tJ_5)), .int (wb (T_wh tJ_5)), .int (wb (T_gn tJ_5)), .int (T_sd tJ_5), .ref quw, .ref qun, .ref qug, .ref qua, .ref qur, .ref qum, .ref qut, .ref qus], zzI cy quw 8 (T_wo tJ_5), zzI cy qun 8 (T_ne tJ_5), zzI cy qug 8 (T_go tJ_5), zzI cy qua 8 (T_ag tJ_5), zzI cy qur 8 (T_re tJ_5), zzI cy qum 8 (T_me tJ_5), zzI cy qut 8 (T_te tJ_5), zzI cy qus 64 (shF (T_kn tJ_5))] → va_S A s.heap H locs → lv_has ls 4 [(3, .int (nI j_4)), (2, .int xS_6), (0, .ref qu), (1, .int (nI kN))] → W p l e (Rm 6 0 0) s m (List.toArray (α := Value) [.ref qu, .int (nI kN)]) below meth c H locs 0 0 (MQ below ((Wi G (fun r u => u = [zzO qu 3 [.int (nI (T_nb ((soG kN tA 0).1))), .int (nI (T_np ((soG kN tA 0).1))), .int (wb (T_wh ((soG kN tA 0).1))), .int (wb (T_gn ((soG kN tA 0).1))), .int (T_sd ((soG kN tA 0).1)), .ref quw, .ref qun, .ref qug, .ref qua, .ref qur, .ref qum, .ref qut, .ref qus], zzI cy quw 8 (T_wo ((soG kN tA 0).1)), zzI cy qun 8 (T_ne ((soG kN tA 0).1)), zzI cy qug 8 (T_go ((soG kN tA 0).1)), zzI cy qua 8 (T_ag ((soG kN tA 0).1)), zzI cy qur 8 (T_re ((soG kN tA 0).1)), zzI cy qum 8 (T_me ((soG kN tA 0).1)), zzI cy qut 8 (T_te ((soG kN tA 0).1)), zzI cy qus 64 (shF (T_kn ((soG kN tA 0).1)))] ∧ ((r = ((soG kN tA 0).2))))) A) (List.toArray (α := Value) [.ref qu, .int (nI kN)]) s 0 0 A) (F0 m 4 ls []) := by
    intro n_2
    induction n_2 with
    | zero => intro j_4 tJ_5 xS_6 hm9; exact absurd hm9 (Nat.not_lt_zero _)
    | succ n_2 ih_3 =>
      intro j_4 tJ_5 xS_6 hm_10 hj_7 hT_8 hn_9 H locs ls hP hD hS hl
      refine lv_iload_n hx hb (g_29 bX0_sumOfRest rfl) rfl (lv_at hl 0 rfl) ?_
      refine lv_iload_n hx hb (g_27 bX0_sumOfRest rfl) rfl (lv_at hl 3 rfl) ?_
      refine lv_icmp_ge (tgt := 38) hx hb dX0_sumOfRest_6 (by decide +kernel) (fun c_11 => ?_) (fun c_11 => ?_)
      · have hlt_12 : j_4 = kN := Nat.le_antisymm (by omega) (lp_ge rfl rfl (by omega) (by omega) c_11)
        have hlt_12r : soG kN tA 0 = (tJ_5, xS_6) := by rw [← hT_8, hlt_12, Nat.sub_self]; rfl
        refine lv_iload_n hx hb (g_28 bX0_sumOfRest rfl) rfl (lv_at hl 1 rfl) ?_
        exact endW (u := [zzO qu 3 [.int (nI (T_nb tJ_5)), .int (nI (T_np tJ_5)), .int (wb (T_wh tJ_5)), .int (wb (T_gn tJ_5)), .int (T_sd tJ_5), .ref quw, .ref qun, .ref qug, .ref qua, .ref qur, .ref qum, .ref qut, .ref qus], zzI cy quw 8 (T_wo tJ_5), zzI cy qun 8 (T_ne tJ_5), zzI cy qug 8 (T_go tJ_5), zzI cy qua 8 (T_ag tJ_5), zzI cy qur 8 (T_re tJ_5), zzI cy qum 8 (T_me tJ_5), zzI cy qut 8 (T_te tJ_5), zzI cy qus 64 (shF (T_kn tJ_5))]) hx hb hr hlocks rfl (pSb hP [[true, true, true, true, true, true, true, true, true]] rfl rfl) (dSb hD [[true, true, true, true, true, true, true, true, true]] (by decide +kernel) rfl rfl) hS ⟨by rw [hlt_12r], (by rw [hlt_12r])⟩ (g_172 bX0_sumOfRest rfl)
      · have hlt_13 : j_4 < kN := lp_lt rfl rfl (by omega) (by omega) c_11
        obtain ⟨hlt_13b, hlt_13p⟩ := id hn_9
        refine lv_aload_n hx hb (g_42 bX0_sumOfRest rfl) rfl (lv_at hl 2 rfl) ?_
        refine kRi (rV (As := []) (rest := []) (b := qu) ⟨hx, hb, hml, hown, hts⟩ (c_X4_setThere l G cy qu tJ_5 quw qun qug qua qur qum qut qus (by first | omega | (simp only [nb_sr, np_sr, nb_wr, np_wr, nb_rd, np_rd, nb_ch, np_ch, nb_zr, np_zr, nb_za, np_za, nb_ey, np_ey, nb_hf, np_hf, nb_dd, np_dd, nb_so, np_so, nb_skn, np_skn, nb_swh, np_swh, nb_sgn, np_sgn, nb_ssd, np_ssd, nb_sgo, np_sgo, nb_sag, np_sag]; omega))) L_X0_25 (preRV (q := (RX4, TX4, 13)) hN hP [0] rfl 0 3 rfl rfl) rfl ⟨Nat.le_of_ble_eq_true rfl, Nat.le_of_ble_eq_true rfl⟩ hl.1 (Nat.le_of_ble_eq_true rfl) (g_182 (v := 25) bX0_sumOfRest rfl) ⟨Nat.le_of_ble_eq_true rfl, Nat.le_of_ble_eq_true rfl⟩) (fun r_14 h_15 => ?_)
        subst h_15
        refine lv_if_eq (tgt := 38) hx hb dX0_sumOfRest_13 (by decide +kernel) (fun c_16 => ?_) (fun c_16 => ?_)
        · have hz_17 : soG kN tA 0 = (tJ_5, xS_6) := by rw [← hT_8, so_0 c_16]
          refine lv_iload_n hx hb (g_28 bX0_sumOfRest rfl) rfl (lv_at hl 1 rfl) ?_
          exact endW (u := [zzO qu 3 [.int (nI (T_nb tJ_5)), .int (nI (T_np tJ_5)), .int (wb (T_wh tJ_5)), .int (wb (T_gn tJ_5)), .int (T_sd tJ_5), .ref quw, .ref qun, .ref qug, .ref qua, .ref qur, .ref qum, .ref qut, .ref qus], zzI cy quw 8 (T_wo tJ_5), zzI cy qun 8 (T_ne tJ_5), zzI cy qug 8 (T_go tJ_5), zzI cy qua 8 (T_ag tJ_5), zzI cy qur 8 (T_re tJ_5), zzI cy qum 8 (T_me tJ_5), zzI cy qut 8 (T_te tJ_5), zzI cy qus 64 (shF (T_kn tJ_5))]) hx hb hr hlocks rfl (pSb hP [[true, true, true, true, true, true, true, true, true]] rfl rfl) (dSb hD [[true, true, true, true, true, true, true, true, true]] (by decide +kernel) rfl rfl) hS ⟨by rw [hz_17], (by rw [hz_17])⟩ (g_172 bX0_sumOfRest rfl)
        · refine lv_iload_n hx hb (g_28 bX0_sumOfRest rfl) rfl (lv_at hl 1 rfl) ?_
          refine lv_aload_n hx hb (g_42 bX0_sumOfRest rfl) rfl (lv_at hl 2 rfl) ?_
          refine lv_aload_n hx hb (g_42 bX0_sumOfRest rfl) rfl (lv_at hl 2 rfl) ?_
          refine kRi (rV (As := []) (rest := [.ref qu, .int xS_6]) (b := qu) ⟨hx, hb, hml, hown, hts⟩ (c_X4_setThere l G cy qu tJ_5 quw qun qug qua qur qum qut qus (by first | omega | (simp only [nb_sr, np_sr, nb_wr, np_wr, nb_rd, np_rd, nb_ch, np_ch, nb_zr, np_zr, nb_za, np_za, nb_ey, np_ey, nb_hf, np_hf, nb_dd, np_dd, nb_so, np_so, nb_skn, np_skn, nb_swh, np_swh, nb_sgn, np_sgn, nb_ssd, np_ssd, nb_sgo, np_sgo, nb_sag, np_sag]; omega))) L_X0_25 (preRV (q := (RX4, TX4, 13)) hN hP [0] rfl 0 3 rfl rfl) rfl ⟨Nat.le_of_ble_eq_true rfl, Nat.le_of_ble_eq_true rfl⟩ hl.1 (Nat.le_of_ble_eq_true rfl) (g_182 (v := 25) bX0_sumOfRest rfl) ⟨Nat.le_of_ble_eq_true rfl, Nat.le_of_ble_eq_true rfl⟩) (fun r_18 h_19 => ?_)
          subst h_19
          refine kRi (rV (As := [.int (zthere tJ_5)]) (rest := [.int xS_6]) (b := qu) ⟨hx, hb, hml, hown, hts⟩ (c_X4_worthAmong l G cy qu tJ_5 quw qun qug qua qur qum qut qus (zthere tJ_5) (by first | omega | (simp only [nb_sr, np_sr, nb_wr, np_wr, nb_rd, np_rd, nb_ch, np_ch, nb_zr, np_zr, nb_za, np_za, nb_ey, np_ey, nb_hf, np_hf, nb_dd, np_dd, nb_so, np_so, nb_skn, np_skn, nb_swh, np_swh, nb_sgn, np_sgn, nb_ssd, np_ssd, nb_sgo, np_sgo, nb_sag, np_sag]; omega)) (by first | omega | (simp only [nb_sr, np_sr, nb_wr, np_wr, nb_rd, np_rd, nb_ch, np_ch, nb_zr, np_zr, nb_za, np_za, nb_ey, np_ey, nb_hf, np_hf, nb_dd, np_dd, nb_so, np_so, nb_skn, np_skn, nb_swh, np_swh, nb_sgn, np_sgn, nb_ssd, np_ssd, nb_sgo, np_sgo, nb_sag, np_sag]; omega))) L_X0_45 (preRV (q := (RX4, TX4, 13)) hN hP (trueIx 0 [true, true, false, false, false, false, false, false, true]) (sel_fm rfl rfl) 0 3 rfl rfl) rfl ⟨Nat.le_of_ble_eq_true rfl, Nat.le_of_ble_eq_true rfl⟩ hl.1 (Nat.le_of_ble_eq_true rfl) (g_182 (v := 45) bX0_sumOfRest rfl) ⟨Nat.le_of_ble_eq_true rfl, Nat.le_of_ble_eq_true rfl⟩) (fun r_20 h_21 => ?_)
          subst h_21
          refine lv_iadd hx hb (g_96 bX0_sumOfRest rfl) ?_
          refine lv_istore_n (lv' := [(2, .int (xS_6 + (waF tJ_5 (zthere tJ_5)))), (3, .int (nI j_4)), (0, .ref qu), (1, .int (nI kN))]) hx hb (g_61 bX0_sumOfRest rfl) rfl hl (by decide +kernel) rfl (fun ls => ?_)
          clear hl
          intro hl
          refine lv_aload_n hx hb (g_42 bX0_sumOfRest rfl) rfl (lv_at hl 2 rfl) ?_
          refine cVi (As := []) (rest := []) (b := qu) (q := (RX4, TX4, 13)) ⟨hx, hb, hml, hown, hts⟩ (c_X4_endYear l G cy (H).size qu tJ_5 quw qun qug qua qur qum qut qus (by first | omega | (simp only [nb_sr, np_sr, nb_wr, np_wr, nb_rd, np_rd, nb_ch, np_ch, nb_zr, np_zr, nb_za, np_za, nb_ey, np_ey, nb_hf, np_hf, nb_dd, np_dd, nb_so, np_so, nb_skn, np_skn, nb_swh, np_swh, nb_sgn, np_sgn, nb_ssd, np_ssd, nb_sgo, np_sgo, nb_sag, np_sag]; omega)) (by first | omega | (simp only [nb_sr, np_sr, nb_wr, np_wr, nb_rd, np_rd, nb_ch, np_ch, nb_zr, np_zr, nb_za, np_za, nb_ey, np_ey, nb_hf, np_hf, nb_dd, np_dd, nb_so, np_so, nb_skn, np_skn, nb_swh, np_swh, nb_sgn, np_sgn, nb_ssd, np_ssd, nb_sgo, np_sgo, nb_sag, np_sag]; omega))) L_X0_42 hN hP hD hS hA (trueIx 0 [true, true, true, true, true, true, true, true, true]) [false, false, false, false, false, false, false, false, false] (sel_eq rfl rfl) (by decide +kernel) rfl 0 3 rfl rfl rfl ⟨Nat.le_of_ble_eq_true rfl, Nat.le_of_ble_eq_true rfl⟩ hl.1 (Nat.le_of_ble_eq_true rfl) (g_182 (v := 42) bX0_sumOfRest rfl) ⟨Nat.le_of_ble_eq_true rfl, Nat.le_of_ble_eq_true rfl⟩ (fun r_22 u_24 H locs h_23 => ?_)
          clear hP hD hS
          intro hP hD hS
          obtain ⟨hu9, h_23⟩ := h_23
          have hPD := pd_eq [zzO qu 3 [.int (nI (T_nb (zey tJ_5))), .int (nI (T_np (zey tJ_5))), .int (wb (T_wh (zey tJ_5))), .int (wb (T_gn (zey tJ_5))), .int (T_sd (zey tJ_5)), .ref quw, .ref qun, .ref qug, .ref qua, .ref qur, .ref qum, .ref qut, .ref qus], zzI cy quw 8 (T_wo (zey tJ_5)), zzI cy qun 8 (T_ne (zey tJ_5)), zzI cy qug 8 (T_go (zey tJ_5)), zzI cy qua 8 (T_ag (zey tJ_5)), zzI cy qur 8 (T_re (zey tJ_5)), zzI cy qum 8 (T_me (zey tJ_5)), zzI cy qut 8 (T_te (zey tJ_5)), zzI cy qus 64 (shF (T_kn (zey tJ_5)))] hP hD hu9 rfl
          clear hP hD hu9
          obtain ⟨hP, hD⟩ := hPD
          subst h_23
          refine lv_pop hx hb (g_87 bX0_sumOfRest rfl) rfl ?_
          refine lv_iinc (v := nI (j_4 + 1)) (lv' := [(3, .int (nI (j_4 + 1))), (2, .int (xS_6 + (waF tJ_5 (zthere tJ_5)))), (0, .ref qu), (1, .int (nI kN))]) hx hb dX0_sumOfRest_32 hl (k := 1) rfl (nI_1 _) (by decide +kernel) rfl (fun ls => ?_)
          clear hl
          intro hl
          refine lv_goto (tgt := 4) hx hb dX0_sumOfRest_35 (by decide +kernel) ?_
          exact ih_3 (j_4 + 1) (zey tJ_5) (xS_6 + (waF tJ_5 (zthere tJ_5))) (by omega) (by omega) (by rw [← hT_8, show kN - j_4 = kN - (j_4 + 1) + 1 by omega, so_go c_16]; rfl) (⟨(zey_nb _).1.trans hn_9.1, (zey_nb _).2.trans hn_9.2⟩) _ _ _ hP hD hS (lv_sub hl [0, 1, 2, 3] rfl)
  exact lp_1 ((60 - 0) + 1) 0 tA 0 (Nat.lt_succ_self _) (Nat.zero_le _) rfl (⟨rfl, rfl⟩) _ _ ls hP hD hS (lv_sub hl [0, 1, 2, 3] rfl)
set_option maxHeartbeats 4000000 in
set_option maxRecDepth 100000 in
theorem c_X0_bestWho (l : Launch) (G : va_G) (cy : Nat → ClassId) (sz : Nat) (qp : Nat) (qu : Nat) (vS : Value) (iL : Int32) (iBs : Int32) (tU : TA) (quw : Nat) (qun : Nat) (qug : Nat) (qua : Nat) (qur : Nat) (qum : Nat) (qut : Nat) (qus : Nat) (qt : Nat) (tA : TA) (qtw : Nat) (qtn : Nat) (qtg : Nat) (qta : Nat) (qtr : Nat) (qtm : Nat) (qtt : Nat) (qts : Nat) (kB : Nat) (kN : Nat)  (hB : T_nb tA ≤ 8) (hPp : T_np tA ≤ 8) (hN60 : kN ≤ 60) (hJ : kB < 8) : MW l yX0_bestWho cX0_bestWho 7 (some .int) 7 0 0 G cy [zzO qp 0 [.ref qu, vS, .int iL, .int iBs], zzO qu 3 [.int (nI (T_nb tU)), .int (nI (T_np tU)), .int (wb (T_wh tU)), .int (wb (T_gn tU)), .int (T_sd tU), .ref quw, .ref qun, .ref qug, .ref qua, .ref qur, .ref qum, .ref qut, .ref qus], zzI cy quw 8 (T_wo tU), zzI cy qun 8 (T_ne tU), zzI cy qug 8 (T_go tU), zzI cy qua 8 (T_ag tU), zzI cy qur 8 (T_re tU), zzI cy qum 8 (T_me tU), zzI cy qut 8 (T_te tU), zzI cy qus 64 (shF (T_kn tU)), zzO qt 3 [.int (nI (T_nb tA)), .int (nI (T_np tA)), .int (wb (T_wh tA)), .int (wb (T_gn tA)), .int (T_sd tA), .ref qtw, .ref qtn, .ref qtg, .ref qta, .ref qtr, .ref qtm, .ref qtt, .ref qts], zzI cy qtw 8 (T_wo tA), zzI cy qtn 8 (T_ne tA), zzI cy qtg 8 (T_go tA), zzI cy qta 8 (T_ag tA), zzI cy qtr 8 (T_re tA), zzI cy qtm 8 (T_me tA), zzI cy qtt 8 (T_te tA), zzI cy qts 64 (shF (T_kn tA))] sz [.ref qp, .ref qt, .int (nI kB), .int (nI kN)] (Wi G (fun r u => ∃ (tX : TA), u = [zzO qp 0 [.ref qu, vS, .int iL, .int ((zbw tA kB kN iBs).2)], zzO qu 3 [.int (nI (T_nb tX)), .int (nI (T_np tX)), .int (wb (T_wh tX)), .int (wb (T_gn tX)), .int (T_sd tX), .ref quw, .ref qun, .ref qug, .ref qua, .ref qur, .ref qum, .ref qut, .ref qus], zzI cy quw 8 (T_wo tX), zzI cy qun 8 (T_ne tX), zzI cy qug 8 (T_go tX), zzI cy qua 8 (T_ag tX), zzI cy qur 8 (T_re tX), zzI cy qum 8 (T_me tX), zzI cy qut 8 (T_te tX), zzI cy qus 64 (shF (T_kn tX)), zzO qt 3 [.int (nI (T_nb tA)), .int (nI (T_np tA)), .int (wb (T_wh tA)), .int (wb (T_gn tA)), .int (T_sd tA), .ref qtw, .ref qtn, .ref qtg, .ref qta, .ref qtr, .ref qtm, .ref qtt, .ref qts], zzI cy qtw 8 (T_wo tA), zzI cy qtn 8 (T_ne tA), zzI cy qtg 8 (T_go tA), zzI cy qta 8 (T_ag tA), zzI cy qtr 8 (T_re tA), zzI cy qtm 8 (T_me tA), zzI cy qtt 8 (T_te tA), zzI cy qts 64 (shF (T_kn tA))] ∧ ((r = ((zbw tA kB kN iBs).1))))) := by
  refine enW RX0 (by decide +kernel) rfl (Nat.le_of_ble_eq_true rfl) (fun p e s m below meth c ls A hx hb hml hown hts hr hlocks hP hN hl hin hD hA hS => ?_)
  have hin : meth.name = _ := hin
  have hK := hN.1
  replace hl : lv_has ls 7 [(0, .ref qp), (1, .ref qt), (2, .int (nI kB)), (3, .int (nI kN))] := hl
  refine lv_iconst (v := (-1)) hx hb (g_2 bX0_bestWho rfl) (by decide +kernel) ?_
  refine lv_istore (lv' := [(4, .int (-1)), (0, .ref qp), (1, .ref qt), (2, .int (nI kB)), (3, .int (nI kN))]) hx hb (g_54 (v := 4) bX0_bestWho rfl) hl (by decide +kernel) rfl (fun ls => ?_)
  clear hl
  intro hl
  refine lv_iconst (v := 0) hx hb (g_3 bX0_bestWho rfl) (by decide +kernel) ?_
  refine lv_istore (lv' := [(5, .int 0), (4, .int (-1)), (0, .ref qp), (1, .ref qt), (2, .int (nI kB)), (3, .int (nI kN))]) hx hb (g_54 (v := 5) bX0_bestWho rfl) hl (by decide +kernel) rfl (fun ls => ?_)
  clear hl
  intro hl
  have lp_1 : ∀ (n_2 : Nat) (j_4 : Nat) (tJ_5 : TA) (xB_6 : Int32) (xM_7 : Int32), 8 - j_4 < n_2 → j_4 ≤ T_np tA → xB_6 = (bwF tA kB kN iBs j_4).1 → xM_7 = (bwF tA kB kN iBs j_4).2 → ∀ (H : Heap) (locs : List Loc) (ls : Array Slot), va_P G CL [zzO qp 0 [.ref qu, vS, .int iL, .int xM_7], zzO qu 3 [.int (nI (T_nb tJ_5)), .int (nI (T_np tJ_5)), .int (wb (T_wh tJ_5)), .int (wb (T_gn tJ_5)), .int (T_sd tJ_5), .ref quw, .ref qun, .ref qug, .ref qua, .ref qur, .ref qum, .ref qut, .ref qus], zzI cy quw 8 (T_wo tJ_5), zzI cy qun 8 (T_ne tJ_5), zzI cy qug 8 (T_go tJ_5), zzI cy qua 8 (T_ag tJ_5), zzI cy qur 8 (T_re tJ_5), zzI cy qum 8 (T_me tJ_5), zzI cy qut 8 (T_te tJ_5), zzI cy qus 64 (shF (T_kn tJ_5)), zzO qt 3 [.int (nI (T_nb tA)), .int (nI (T_np tA)), .int (wb (T_wh tA)), .int (wb (T_gn tA)), .int (T_sd tA), .ref qtw, .ref qtn, .ref qtg, .ref qta, .ref qtr, .ref qtm, .ref qtt, .ref qts], zzI cy qtw 8 (T_wo tA), zzI cy qtn 8 (T_ne tA), zzI cy qtg 8 (T_go tA), zzI cy qta 8 (T_ag tA), zzI cy qtr 8 (T_re tA), zzI cy qtm 8 (T_me tA), zzI cy qtt 8 (T_te tA), zzI cy qts 64 (shF (T_kn tA))] H → va_D A [zzO qp 0 [.ref qu, vS, .int iL, .int xM_7], zzO qu 3 [.int (nI (T_nb tJ_5)), .int (nI (T_np tJ_5)), .int (wb (T_wh tJ_5)), .int (wb (T_gn tJ_5)), .int (T_sd tJ_5), .ref quw, .ref qun, .ref qug, .ref qua, .ref qur, .ref qum, .ref qut, .ref qus], zzI cy quw 8 (T_wo tJ_5), zzI cy qun 8 (T_ne tJ_5), zzI cy qug 8 (T_go tJ_5), zzI cy qua 8 (T_ag tJ_5), zzI cy qur 8 (T_re tJ_5), zzI cy qum 8 (T_me tJ_5), zzI cy qut 8 (T_te tJ_5), zzI cy qus 64 (shF (T_kn tJ_5)), zzO qt 3 [.int (nI (T_nb tA)), .int (nI (T_np tA)), .int (wb (T_wh tA)), .int (wb (T_gn tA)), .int (T_sd tA), .ref qtw, .ref qtn, .ref qtg, .ref qta, .ref qtr, .ref qtm, .ref qtt, .ref qts], zzI cy qtw 8 (T_wo tA), zzI cy qtn 8 (T_ne tA), zzI cy qtg 8 (T_go tA), zzI cy qta 8 (T_ag tA), zzI cy qtr 8 (T_re tA), zzI cy qtm 8 (T_me tA), zzI cy qtt 8 (T_te tA), zzI cy qts 64 (shF (T_kn tA))] → va_S A s.heap H locs → lv_has ls 7 [(5, .int (nI j_4)), (4, .int xB_6), (0, .ref qp), (1, .ref qt), (2, .int (nI kB)), (3, .int (nI kN))] → W p l e (Rm 7 0 0) s m (List.toArray (α := Value) [.ref qp, .ref qt, .int (nI kB), .int (nI kN)]) below meth c H locs 0 0 (MQ below ((Wi G (fun r u => ∃ (tX : TA), u = [zzO qp 0 [.ref qu, vS, .int iL, .int ((zbw tA kB kN iBs).2)], zzO qu 3 [.int (nI (T_nb tX)), .int (nI (T_np tX)), .int (wb (T_wh tX)), .int (wb (T_gn tX)), .int (T_sd tX), .ref quw, .ref qun, .ref qug, .ref qua, .ref qur, .ref qum, .ref qut, .ref qus], zzI cy quw 8 (T_wo tX), zzI cy qun 8 (T_ne tX), zzI cy qug 8 (T_go tX), zzI cy qua 8 (T_ag tX), zzI cy qur 8 (T_re tX), zzI cy qum 8 (T_me tX), zzI cy qut 8 (T_te tX), zzI cy qus 64 (shF (T_kn tX)), zzO qt 3 [.int (nI (T_nb tA)), .int (nI (T_np tA)), .int (wb (T_wh tA)), .int (wb (T_gn tA)), .int (T_sd tA), .ref qtw, .ref qtn, .ref qtg, .ref qta, .ref qtr, .ref qtm, .ref qtt, .ref qts], zzI cy qtw 8 (T_wo tA), zzI cy qtn 8 (T_ne tA), zzI cy qtg 8 (T_go tA), zzI cy qta 8 (T_ag tA), zzI cy qtr 8 (T_re tA), zzI cy qtm 8 (T_me tA), zzI cy qtt 8 (T_te tA), zzI cy qts 64 (shF (T_kn tA))] ∧ ((r = ((zbw tA kB kN iBs).1))))) A) (List.toArray (α := Value) [.ref qp, .ref qt, .int (nI kB), .int (nI kN)]) s 0 0 A) (F0 m 6 ls []) := by
    intro n_2
    induction n_2 with
    | zero => intro j_4 tJ_5 xB_6 xM_7 hm9; exact absurd hm9 (Nat.not_lt_zero _)
    | succ n_2 ih_3 =>
      intro j_4 tJ_5 xB_6 xM_7 hm_11 hj_8 hxB_9 hxM_10 H locs ls hP hD hS hl
      refine lv_iload hx hb (g_21 (v := 5) bX0_bestWho rfl) (lv_at hl 0 rfl) ?_
      refine lv_aload_n hx hb (g_43 bX0_bestWho rfl) rfl (lv_at hl 3 rfl) ?_
      refine va_getN (D := G) (ci := 3) (v := .int (nI (T_np tA))) (C := RX4) (T := TX4) (N := 13) hx hb hts iX_X4 hown hK hP 10 rfl rfl 1 (by decide +kernel) (va_Nw.use rfl (hN.2.1 (RX0, 49, "EachBookOnce$Town", "people", "I") (List.mem_of_getElem? (i := 5) rfl))) (fun _ h9 => h9) rfl (g_180 (v := 49) bX0_bestWho rfl) ?_
      refine lv_icmp_ge (tgt := 86) hx hb dX0_bestWho_12 (by decide +kernel) (fun c_12 => ?_) (fun c_12 => ?_)
      · have hlt_13 : j_4 = T_np tA := Nat.le_antisymm (by omega) (lp_ge rfl rfl (by omega) (by omega) c_12)
        have hlt_13b : xB_6 = (zbw tA kB kN iBs).1 := by rw [hxB_9, hlt_13]; rfl
        have hlt_13m : xM_7 = (zbw tA kB kN iBs).2 := by rw [hxM_10, hlt_13]; rfl
        refine lv_iload hx hb (g_21 (v := 4) bX0_bestWho rfl) (lv_at hl 1 rfl) ?_
        exact endW (u := [zzO qp 0 [.ref qu, vS, .int iL, .int xM_7], zzO qu 3 [.int (nI (T_nb tJ_5)), .int (nI (T_np tJ_5)), .int (wb (T_wh tJ_5)), .int (wb (T_gn tJ_5)), .int (T_sd tJ_5), .ref quw, .ref qun, .ref qug, .ref qua, .ref qur, .ref qum, .ref qut, .ref qus], zzI cy quw 8 (T_wo tJ_5), zzI cy qun 8 (T_ne tJ_5), zzI cy qug 8 (T_go tJ_5), zzI cy qua 8 (T_ag tJ_5), zzI cy qur 8 (T_re tJ_5), zzI cy qum 8 (T_me tJ_5), zzI cy qut 8 (T_te tJ_5), zzI cy qus 64 (shF (T_kn tJ_5)), zzO qt 3 [.int (nI (T_nb tA)), .int (nI (T_np tA)), .int (wb (T_wh tA)), .int (wb (T_gn tA)), .int (T_sd tA), .ref qtw, .ref qtn, .ref qtg, .ref qta, .ref qtr, .ref qtm, .ref qtt, .ref qts], zzI cy qtw 8 (T_wo tA), zzI cy qtn 8 (T_ne tA), zzI cy qtg 8 (T_go tA), zzI cy qta 8 (T_ag tA), zzI cy qtr 8 (T_re tA), zzI cy qtm 8 (T_me tA), zzI cy qtt 8 (T_te tA), zzI cy qts 64 (shF (T_kn tA))]) hx hb hr hlocks rfl (pSb hP [[true, true, true, true, true, true, true, true, true, true, true, true, true, true, true, true, true, true, true]] rfl rfl) (dSb hD [[true, true, true, true, true, true, true, true, true, true, true, true, true, true, true, true, true, true, true]] (by decide +kernel) rfl rfl) hS ⟨tJ_5, by rw [hlt_13m], (by exact hlt_13b)⟩ (g_172 bX0_bestWho rfl)
      · have hlt_14 : j_4 < T_np tA := lp_lt rfl rfl (by omega) (by omega) c_12
        refine lv_aload_n hx hb (g_43 bX0_bestWho rfl) rfl (lv_at hl 3 rfl) ?_
        refine kRi (rV (As := []) (rest := []) (b := qt) ⟨hx, hb, hml, hown, hts⟩ (c_X4_setThere l G cy qt tA qtw qtn qtg qta qtr qtm qtt qts hPp) L_X0_25 (preRV (q := (RX4, TX4, 13)) hN hP [10] rfl 10 3 rfl rfl) rfl ⟨Nat.le_of_ble_eq_true rfl, Nat.le_of_ble_eq_true rfl⟩ hl.1 (Nat.le_of_ble_eq_true rfl) (g_182 (v := 25) bX0_bestWho rfl) ⟨Nat.le_of_ble_eq_true rfl, Nat.le_of_ble_eq_true rfl⟩) (fun r_15 h_16 => ?_)
        subst h_16
        refine lv_iload hx hb (g_21 (v := 5) bX0_bestWho rfl) (lv_at hl 0 rfl) ?_
        refine kRi (rSN (As := [.int (zthere tA), .int (nI j_4)]) (rest := []) ⟨hx, hb, hml, hown, hts⟩ hN (c_X5_has l G cy (zthere tA) j_4) L_X0_52 (preRS hN hP [] rfl) rfl ⟨Nat.le_of_ble_eq_true rfl, Nat.le_of_ble_eq_true rfl⟩ hl.1 (Nat.le_of_ble_eq_true rfl) (g_184 (v := 52) bX0_bestWho rfl) ⟨Nat.le_of_ble_eq_true rfl, Nat.le_of_ble_eq_true rfl⟩) (fun r_17 h_18 => ?_)
        rcases h_18 with ⟨rfl, h_19⟩ | ⟨rfl, h_19⟩
        · refine lv_if_eq (tgt := 80) hx hb dX0_bestWho_24 (by decide +kernel) (fun h9 => absurd h9 (by decide +kernel)) (fun _ => ?_)
          refine lv_aload_n hx hb (g_42 bX0_bestWho rfl) rfl (lv_at hl 2 rfl) ?_
          refine va_get (D := G) (ci := 0) (v := .ref qu) (C := RX0) (T := TX0) (N := 4) hx hb hts iX_X0 hown hK hP 0 rfl rfl 0 (by decide +kernel) (hts _ m_t101) (fun _ h9 => h9) rfl (g_180 (v := 12) bX0_bestWho rfl) ?_
          refine lv_aload_n hx hb (g_43 bX0_bestWho rfl) rfl (lv_at hl 3 rfl) ?_
          refine cVv (As := [.ref qt]) (rest := []) (b := qu) (q := (RX4, TX4, 13)) ⟨hx, hb, hml, hown, hts⟩ (c_X4_become l G cy (H).size qu tJ_5 quw qun qug qua qur qum qut qus qt tA qtw qtn qtg qta qtr qtm qtt qts) L_X0_21 hN hP hD hS hA (trueIx 0 [false, true, true, true, true, true, true, true, true, true, true, true, true, true, true, true, true, true, true]) [true, false, false, false, false, false, false, false, false, false, false, false, false, false, false, false, false, false, false] (sel_eq rfl rfl) (by decide +kernel) rfl 1 3 rfl rfl rfl ⟨Nat.le_of_ble_eq_true rfl, Nat.le_of_ble_eq_true rfl⟩ hl.1 (Nat.le_of_ble_eq_true rfl) (g_182 (v := 21) bX0_bestWho rfl) ⟨Nat.le_of_ble_eq_true rfl, Nat.le_of_ble_eq_true rfl⟩ (fun u_23 H locs h_22 => ?_)
          clear hP hD hS
          intro hP hD hS
          have hPD := pd_eq [zzO qp 0 [.ref qu, vS, .int iL, .int xM_7], zzO qu 3 [.int (nI (T_nb tA)), .int (nI (T_np tA)), .int (wb (T_wh tA)), .int (wb (T_gn tA)), .int (T_sd tA), .ref quw, .ref qun, .ref qug, .ref qua, .ref qur, .ref qum, .ref qut, .ref qus], zzI cy quw 8 (T_wo tA), zzI cy qun 8 (T_ne tA), zzI cy qug 8 (T_go tA), zzI cy qua 8 (T_ag tA), zzI cy qur 8 (T_re tA), zzI cy qum 8 (T_me tA), zzI cy qut 8 (T_te tA), zzI cy qus 64 (shF (T_kn tA)), _, _, _, _, _, _, _, _, _] hP hD h_22 rfl
          clear hP hD h_22
          obtain ⟨hP, hD⟩ := hPD
          refine lv_aload_n hx hb (g_42 bX0_bestWho rfl) rfl (lv_at hl 2 rfl) ?_
          refine va_get (D := G) (ci := 0) (v := .ref qu) (C := RX0) (T := TX0) (N := 4) hx hb hts iX_X0 hown hK hP 0 rfl rfl 0 (by decide +kernel) (hts _ m_t101) (fun _ h9 => h9) rfl (g_180 (v := 12) bX0_bestWho rfl) ?_
          refine lv_iload hx hb (g_21 (v := 5) bX0_bestWho rfl) (lv_at hl 0 rfl) ?_
          refine lv_iload_n hx hb (g_28 bX0_bestWho rfl) rfl (lv_at hl 4 rfl) ?_
          refine cVv (As := [.int (nI j_4), .int (nI kB)]) (rest := []) (b := qu) (q := (RX4, TX4, 13)) ⟨hx, hb, hml, hown, hts⟩ (c_X4_readBy l G cy (H).size qu tA quw qun qug qua qur qum qut qus j_4 kB (by first | omega | (simp only [nb_sr, np_sr, nb_wr, np_wr, nb_rd, np_rd, nb_ch, np_ch, nb_zr, np_zr, nb_za, np_za, nb_ey, np_ey, nb_hf, np_hf, nb_dd, np_dd, nb_so, np_so, nb_skn, np_skn, nb_swh, np_swh, nb_sgn, np_sgn, nb_ssd, np_ssd, nb_sgo, np_sgo, nb_sag, np_sag]; omega)) hJ) L_X0_56 hN hP hD hS hA (trueIx 0 [false, true, true, true, true, true, true, true, true, true]) [true, false, false, false, false, false, false, false, false, false, true, true, true, true, true, true, true, true, true] (sel_eq rfl rfl) (by decide +kernel) rfl 1 3 rfl rfl rfl ⟨Nat.le_of_ble_eq_true rfl, Nat.le_of_ble_eq_true rfl⟩ hl.1 (Nat.le_of_ble_eq_true rfl) (g_182 (v := 56) bX0_bestWho rfl) ⟨Nat.le_of_ble_eq_true rfl, Nat.le_of_ble_eq_true rfl⟩ (fun u_26 H locs h_25 => ?_)
          clear hP hD hS
          intro hP hD hS
          have hPD := pd_eq [_, _, _, _, _, _, _, _, _, _, zzO qu 3 [.int (nI (T_nb (rdT tA j_4 kB))), .int (nI (T_np (rdT tA j_4 kB))), .int (wb (T_wh (rdT tA j_4 kB))), .int (wb (T_gn (rdT tA j_4 kB))), .int (T_sd (rdT tA j_4 kB)), .ref quw, .ref qun, .ref qug, .ref qua, .ref qur, .ref qum, .ref qut, .ref qus], zzI cy quw 8 (T_wo (rdT tA j_4 kB)), zzI cy qun 8 (T_ne (rdT tA j_4 kB)), zzI cy qug 8 (T_go (rdT tA j_4 kB)), zzI cy qua 8 (T_ag (rdT tA j_4 kB)), zzI cy qur 8 (T_re (rdT tA j_4 kB)), zzI cy qum 8 (T_me (rdT tA j_4 kB)), zzI cy qut 8 (T_te (rdT tA j_4 kB)), zzI cy qus 64 (shF (T_kn (rdT tA j_4 kB)))] hP hD h_25 rfl
          clear hP hD h_25
          obtain ⟨hP, hD⟩ := hPD
          refine lv_aload_n hx hb (g_42 bX0_bestWho rfl) rfl (lv_at hl 2 rfl) ?_
          refine va_get (D := G) (ci := 0) (v := .ref qu) (C := RX0) (T := TX0) (N := 4) hx hb hts iX_X0 hown hK hP 0 rfl rfl 0 (by decide +kernel) (hts _ m_t101) (fun _ h9 => h9) rfl (g_180 (v := 12) bX0_bestWho rfl) ?_
          refine lv_iload_n hx hb (g_29 bX0_bestWho rfl) rfl (lv_at hl 5 rfl) ?_
          refine cSi (As := [.ref qu, .int (nI kN)]) (rest := []) ⟨hx, hb, hml, hown, hts⟩ (c_X0_sumOfRest l G cy (H).size qu (rdT tA j_4 kB) quw qun qug qua qur qum qut qus kN (by first | omega | (simp only [nb_sr, np_sr, nb_wr, np_wr, nb_rd, np_rd, nb_ch, np_ch, nb_zr, np_zr, nb_za, np_za, nb_ey, np_ey, nb_hf, np_hf, nb_dd, np_dd, nb_so, np_so, nb_skn, np_skn, nb_swh, np_swh, nb_sgn, np_sgn, nb_ssd, np_ssd, nb_sgo, np_sgo, nb_sag, np_sag]; omega)) (by first | omega | (simp only [nb_sr, np_sr, nb_wr, np_wr, nb_rd, np_rd, nb_ch, np_ch, nb_zr, np_zr, nb_za, np_za, nb_ey, np_ey, nb_hf, np_hf, nb_dd, np_dd, nb_so, np_so, nb_skn, np_skn, nb_swh, np_swh, nb_sgn, np_sgn, nb_ssd, np_ssd, nb_sgo, np_sgo, nb_sag, np_sag]; omega)) hN60) L_X0_60 hN hP hD hS hA (trueIx 0 [false, false, false, false, false, false, false, false, false, false, true, true, true, true, true, true, true, true, true]) [true, true, true, true, true, true, true, true, true, true, false, false, false, false, false, false, false, false, false] (sel_eq rfl rfl) (by decide +kernel) rfl rfl ⟨Nat.le_of_ble_eq_true rfl, Nat.le_of_ble_eq_true rfl⟩ hl.1 (Nat.le_of_ble_eq_true rfl) (g_184 (v := 60) bX0_bestWho rfl) ⟨Nat.le_of_ble_eq_true rfl, Nat.le_of_ble_eq_true rfl⟩ (fun r_27 u_29 H locs h_28 => ?_)
          clear hP hD hS
          intro hP hD hS
          obtain ⟨hu9, h_28⟩ := h_28
          have hPD := pd_eq [_, _, _, _, _, _, _, _, _, _, zzO qu 3 [.int (nI (T_nb ((soG kN (rdT tA j_4 kB) 0).1))), .int (nI (T_np ((soG kN (rdT tA j_4 kB) 0).1))), .int (wb (T_wh ((soG kN (rdT tA j_4 kB) 0).1))), .int (wb (T_gn ((soG kN (rdT tA j_4 kB) 0).1))), .int (T_sd ((soG kN (rdT tA j_4 kB) 0).1)), .ref quw, .ref qun, .ref qug, .ref qua, .ref qur, .ref qum, .ref qut, .ref qus], zzI cy quw 8 (T_wo ((soG kN (rdT tA j_4 kB) 0).1)), zzI cy qun 8 (T_ne ((soG kN (rdT tA j_4 kB) 0).1)), zzI cy qug 8 (T_go ((soG kN (rdT tA j_4 kB) 0).1)), zzI cy qua 8 (T_ag ((soG kN (rdT tA j_4 kB) 0).1)), zzI cy qur 8 (T_re ((soG kN (rdT tA j_4 kB) 0).1)), zzI cy qum 8 (T_me ((soG kN (rdT tA j_4 kB) 0).1)), zzI cy qut 8 (T_te ((soG kN (rdT tA j_4 kB) 0).1)), zzI cy qus 64 (shF (T_kn ((soG kN (rdT tA j_4 kB) 0).1)))] hP hD hu9 rfl
          clear hP hD hu9
          obtain ⟨hP, hD⟩ := hPD
          subst h_28
          refine lv_istore (lv' := [(6, .int ((soG kN (rdT tA j_4 kB) 0).2)), (5, .int (nI j_4)), (4, .int xB_6), (0, .ref qp), (1, .ref qt), (2, .int (nI kB)), (3, .int (nI kN))]) hx hb (g_54 (v := 6) bX0_bestWho rfl) hl (by decide +kernel) rfl (fun ls => ?_)
          clear hl
          intro hl
          refine lv_iload hx hb (g_21 (v := 4) bX0_bestWho rfl) (lv_at hl 2 rfl) ?_
          refine lv_iconst (v := (-1)) hx hb (g_2 bX0_bestWho rfl) (by decide +kernel) ?_
          refine lv_icmp_eq (tgt := 70) hx hb dX0_bestWho_58 (by decide +kernel) (fun c_30 => ?_) (fun c_30 => ?_)
          · refine lv_iload hx hb (g_21 (v := 5) bX0_bestWho rfl) (lv_at hl 1 rfl) ?_
            refine lv_istore (lv' := [(4, .int (nI j_4)), (6, .int ((soG kN (rdT tA j_4 kB) 0).2)), (5, .int (nI j_4)), (0, .ref qp), (1, .ref qt), (2, .int (nI kB)), (3, .int (nI kN))]) hx hb (g_54 (v := 4) bX0_bestWho rfl) hl (by decide +kernel) rfl (fun ls => ?_)
            clear hl
            intro hl
            refine lv_aload_n hx hb (g_42 bX0_bestWho rfl) rfl (lv_at hl 3 rfl) ?_
            refine lv_iload hx hb (g_21 (v := 6) bX0_bestWho rfl) (lv_at hl 1 rfl) ?_
            refine va_put (D := G) (ci := 0) (v := .int ((soG kN (rdT tA j_4 kB) 0).2)) (ty := .int) (C := RX0) (T := TX0) (N := 4) hx hb hts iX_X0 tyX0 tyX0_ok nmX0 hown hK hP hD hS 0 rfl rfl 3 (by decide +kernel) (hts _ m_t106) (fun _ h9 => h9) rfl (by decide +kernel) rfl rfl (Nat.le_of_ble_eq_true rfl) (g_181 (v := 64) bX0_bestWho rfl) (fun H locs => ?_)
            clear hP hD hS
            intro hP hD hS
            have hPD := pd_as [zzO qp 0 [.ref qu, vS, .int iL, .int ((soG kN (rdT tA j_4 kB) 0).2)], _, _, _, _, _, _, _, _, _, _, _, _, _, _, _, _, _, _] hP hD rfl
            clear hP hD
            obtain ⟨hP, hD⟩ := hPD
            refine lv_iinc (v := nI (j_4 + 1)) (lv' := [(5, .int (nI (j_4 + 1))), (4, .int (nI j_4)), (6, .int ((soG kN (rdT tA j_4 kB) 0).2)), (0, .ref qp), (1, .ref qt), (2, .int (nI kB)), (3, .int (nI kN))]) hx hb dX0_bestWho_80 hl (k := 2) rfl (nI_1 _) (by decide +kernel) rfl (fun ls => ?_)
            clear hl
            intro hl
            refine lv_goto (tgt := 6) hx hb dX0_bestWho_83 (by decide +kernel) ?_
            exact ih_3 (j_4 + 1) ((soG kN (rdT tA j_4 kB) 0).1) (nI j_4) ((soG kN (rdT tA j_4 kB) 0).2) (by omega) (by omega) (by rw [bw_upd ⟨h_19, Or.inl (hxB_9 ▸ c_30)⟩]) (by rw [bw_upd ⟨h_19, Or.inl (hxB_9 ▸ c_30)⟩]) _ _ _ (pSb hP [[true, false, false, false, false, false, false, false, false, false, true, true, true, true, true, true, true, true, true], [false, true, true, true, true, true, true, true, true, true]] rfl rfl) (dSb hD [[true, false, false, false, false, false, false, false, false, false, true, true, true, true, true, true, true, true, true], [false, true, true, true, true, true, true, true, true, true]] (by decide +kernel) rfl rfl) hS (lv_sub hl [0, 1, 3, 4, 5, 6] rfl)
          · refine lv_iload hx hb (g_21 (v := 6) bX0_bestWho rfl) (lv_at hl 0 rfl) ?_
            refine lv_aload_n hx hb (g_42 bX0_bestWho rfl) rfl (lv_at hl 3 rfl) ?_
            refine va_get (D := G) (ci := 0) (v := .int xM_7) (C := RX0) (T := TX0) (N := 4) hx hb hts iX_X0 hown hK hP 0 rfl rfl 3 (by decide +kernel) (hts _ m_t106) (fun _ h9 => h9) rfl (g_180 (v := 64) bX0_bestWho rfl) ?_
            refine lv_icmp_le (tgt := 80) hx hb dX0_bestWho_67 (by decide +kernel) (fun c_31 => ?_) (fun c_31 => ?_)
            · refine lv_iinc (v := nI (j_4 + 1)) (lv' := [(5, .int (nI (j_4 + 1))), (6, .int ((soG kN (rdT tA j_4 kB) 0).2)), (4, .int xB_6), (0, .ref qp), (1, .ref qt), (2, .int (nI kB)), (3, .int (nI kN))]) hx hb dX0_bestWho_80 hl (k := 1) rfl (nI_1 _) (by decide +kernel) rfl (fun ls => ?_)
              clear hl
              intro hl
              refine lv_goto (tgt := 6) hx hb dX0_bestWho_83 (by decide +kernel) ?_
              exact ih_3 (j_4 + 1) ((soG kN (rdT tA j_4 kB) 0).1) xB_6 xM_7 (by omega) (by omega) (by rw [bw_skip (fun q => q.2.elim (fun r => c_30 (hxB_9.trans r)) (fun r => Int32.not_lt.mpr c_31 (hxM_10 ▸ r)))]; exact hxB_9) (by rw [bw_skip (fun q => q.2.elim (fun r => c_30 (hxB_9.trans r)) (fun r => Int32.not_lt.mpr c_31 (hxM_10 ▸ r)))]; exact hxM_10) _ _ _ (pSb hP [[true, false, false, false, false, false, false, false, false, false, true, true, true, true, true, true, true, true, true], [false, true, true, true, true, true, true, true, true, true]] rfl rfl) (dSb hD [[true, false, false, false, false, false, false, false, false, false, true, true, true, true, true, true, true, true, true], [false, true, true, true, true, true, true, true, true, true]] (by decide +kernel) rfl rfl) hS (lv_sub hl [0, 2, 3, 4, 5, 6] rfl)
            · refine lv_iload hx hb (g_21 (v := 5) bX0_bestWho rfl) (lv_at hl 1 rfl) ?_
              refine lv_istore (lv' := [(4, .int (nI j_4)), (6, .int ((soG kN (rdT tA j_4 kB) 0).2)), (5, .int (nI j_4)), (0, .ref qp), (1, .ref qt), (2, .int (nI kB)), (3, .int (nI kN))]) hx hb (g_54 (v := 4) bX0_bestWho rfl) hl (by decide +kernel) rfl (fun ls => ?_)
              clear hl
              intro hl
              refine lv_aload_n hx hb (g_42 bX0_bestWho rfl) rfl (lv_at hl 3 rfl) ?_
              refine lv_iload hx hb (g_21 (v := 6) bX0_bestWho rfl) (lv_at hl 1 rfl) ?_
              refine va_put (D := G) (ci := 0) (v := .int ((soG kN (rdT tA j_4 kB) 0).2)) (ty := .int) (C := RX0) (T := TX0) (N := 4) hx hb hts iX_X0 tyX0 tyX0_ok nmX0 hown hK hP hD hS 0 rfl rfl 3 (by decide +kernel) (hts _ m_t106) (fun _ h9 => h9) rfl (by decide +kernel) rfl rfl (Nat.le_of_ble_eq_true rfl) (g_181 (v := 64) bX0_bestWho rfl) (fun H locs => ?_)
              clear hP hD hS
              intro hP hD hS
              have hPD := pd_as [_, _, _, _, _, _, _, _, _, _, _, _, _, _, _, _, _, _, _] hP hD rfl
              clear hP hD
              obtain ⟨hP, hD⟩ := hPD
              refine lv_iinc (v := nI (j_4 + 1)) (lv' := [(5, .int (nI (j_4 + 1))), (4, .int (nI j_4)), (6, .int ((soG kN (rdT tA j_4 kB) 0).2)), (0, .ref qp), (1, .ref qt), (2, .int (nI kB)), (3, .int (nI kN))]) hx hb dX0_bestWho_80 hl (k := 2) rfl (nI_1 _) (by decide +kernel) rfl (fun ls => ?_)
              clear hl
              intro hl
              refine lv_goto (tgt := 6) hx hb dX0_bestWho_83 (by decide +kernel) ?_
              exact ih_3 (j_4 + 1) ((soG kN (rdT tA j_4 kB) 0).1) (nI j_4) ((soG kN (rdT tA j_4 kB) 0).2) (by omega) (by omega) (by rw [bw_upd ⟨h_19, Or.inr (hxM_10 ▸ Int32.not_le.mp c_31)⟩]) (by rw [bw_upd ⟨h_19, Or.inr (hxM_10 ▸ Int32.not_le.mp c_31)⟩]) _ _ _ (pSb hP [[true, false, false, false, false, false, false, false, false, false, true, true, true, true, true, true, true, true, true], [false, true, true, true, true, true, true, true, true, true]] rfl rfl) (dSb hD [[true, false, false, false, false, false, false, false, false, false, true, true, true, true, true, true, true, true, true], [false, true, true, true, true, true, true, true, true, true]] (by decide +kernel) rfl rfl) hS (lv_sub hl [0, 1, 3, 4, 5, 6] rfl)
        · refine lv_if_eq (tgt := 80) hx hb dX0_bestWho_24 (by decide +kernel) (fun _ => ?_) (fun h9 => absurd (by decide +kernel) h9)
          refine lv_iinc (v := nI (j_4 + 1)) (lv' := [(5, .int (nI (j_4 + 1))), (4, .int xB_6), (0, .ref qp), (1, .ref qt), (2, .int (nI kB)), (3, .int (nI kN))]) hx hb dX0_bestWho_80 hl (k := 0) rfl (nI_1 _) (by decide +kernel) rfl (fun ls => ?_)
          clear hl
          intro hl
          refine lv_goto (tgt := 6) hx hb dX0_bestWho_83 (by decide +kernel) ?_
          exact ih_3 (j_4 + 1) tJ_5 xB_6 xM_7 (by omega) (by omega) (by rw [bw_skip (fun q => by rw [h_19] at q; exact absurd q.1 (by decide +kernel))]; exact hxB_9) (by rw [bw_skip (fun q => by rw [h_19] at q; exact absurd q.1 (by decide +kernel))]; exact hxM_10) _ _ _ hP hD hS (lv_sub hl [0, 1, 2, 3, 4, 5] rfl)
  exact lp_1 ((8 - 0) + 1) 0 tU (-1) iBs (Nat.lt_succ_self _) (Nat.zero_le _) rfl rfl _ _ ls hP hD hS (lv_sub hl [0, 1, 2, 3, 4, 5] rfl)
set_option maxHeartbeats 4000000 in
set_option maxRecDepth 100000 in
theorem c_X0_worthByRising (l : Launch) (G : va_G) (cy : Nat → ClassId) (sz : Nat) (qp : Nat) (qu : Nat) (vS : Value) (iL : Int32) (iBs : Int32) (tU : TA) (quw : Nat) (qun : Nat) (qug : Nat) (qua : Nat) (qur : Nat) (qum : Nat) (qut : Nat) (qus : Nat) (qt : Nat) (tA : TA) (qtw : Nat) (qtn : Nat) (qtg : Nat) (qta : Nat) (qtr : Nat) (qtm : Nat) (qtt : Nat) (qts : Nat) (kI : Nat)  (hB : T_nb tA ≤ 8) (hPp : T_np tA ≤ 8) (hI : kI < 8) : MW l yX0_worthByRising cX0_worthByRising 4 (some .int) 5 0 0 G cy [zzO qp 0 [.ref qu, vS, .int iL, .int iBs], zzO qu 3 [.int (nI (T_nb tU)), .int (nI (T_np tU)), .int (wb (T_wh tU)), .int (wb (T_gn tU)), .int (T_sd tU), .ref quw, .ref qun, .ref qug, .ref qua, .ref qur, .ref qum, .ref qut, .ref qus], zzI cy quw 8 (T_wo tU), zzI cy qun 8 (T_ne tU), zzI cy qug 8 (T_go tU), zzI cy qua 8 (T_ag tU), zzI cy qur 8 (T_re tU), zzI cy qum 8 (T_me tU), zzI cy qut 8 (T_te tU), zzI cy qus 64 (shF (T_kn tU)), zzO qt 3 [.int (nI (T_nb tA)), .int (nI (T_np tA)), .int (wb (T_wh tA)), .int (wb (T_gn tA)), .int (T_sd tA), .ref qtw, .ref qtn, .ref qtg, .ref qta, .ref qtr, .ref qtm, .ref qtt, .ref qts], zzI cy qtw 8 (T_wo tA), zzI cy qtn 8 (T_ne tA), zzI cy qtg 8 (T_go tA), zzI cy qta 8 (T_ag tA), zzI cy qtr 8 (T_re tA), zzI cy qtm 8 (T_me tA), zzI cy qtt 8 (T_te tA), zzI cy qts 64 (shF (T_kn tA))] sz [.ref qp, .ref qt, .int (nI kI)] (Wi G (fun r u => u = [zzO qp 0 [.ref qu, vS, .int iL, .int iBs], zzO qu 3 [.int (nI (T_nb (zwr tA kI))), .int (nI (T_np (zwr tA kI))), .int (wb (T_wh (zwr tA kI))), .int (wb (T_gn (zwr tA kI))), .int (T_sd (zwr tA kI)), .ref quw, .ref qun, .ref qug, .ref qua, .ref qur, .ref qum, .ref qut, .ref qus], zzI cy quw 8 (T_wo (zwr tA kI)), zzI cy qun 8 (T_ne (zwr tA kI)), zzI cy qug 8 (T_go (zwr tA kI)), zzI cy qua 8 (T_ag (zwr tA kI)), zzI cy qur 8 (T_re (zwr tA kI)), zzI cy qum 8 (T_me (zwr tA kI)), zzI cy qut 8 (T_te (zwr tA kI)), zzI cy qus 64 (shF (T_kn (zwr tA kI))), zzO qt 3 [.int (nI (T_nb tA)), .int (nI (T_np tA)), .int (wb (T_wh tA)), .int (wb (T_gn tA)), .int (T_sd tA), .ref qtw, .ref qtn, .ref qtg, .ref qta, .ref qtr, .ref qtm, .ref qtt, .ref qts], zzI cy qtw 8 (T_wo tA), zzI cy qtn 8 (T_ne tA), zzI cy qtg 8 (T_go tA), zzI cy qta 8 (T_ag tA), zzI cy qtr 8 (T_re tA), zzI cy qtm 8 (T_me tA), zzI cy qtt 8 (T_te tA), zzI cy qts 64 (shF (T_kn tA))] ∧ ((r = (waF (zwr tA kI) (1 <<< ((nI kI) &&& 31))))))) := by
  refine enW RX0 (by decide +kernel) rfl (Nat.le_of_ble_eq_true rfl) (fun p e s m below meth c ls A hx hb hml hown hts hr hlocks hP hN hl hin hD hA hS => ?_)
  have hin : meth.name = _ := hin
  have hK := hN.1
  replace hl : lv_has ls 4 [(0, .ref qp), (1, .ref qt), (2, .int (nI kI))] := hl
  refine lv_aload_n hx hb (g_42 bX0_worthByRising rfl) rfl (lv_at hl 0 rfl) ?_
  refine va_get (D := G) (ci := 0) (v := .ref qu) (C := RX0) (T := TX0) (N := 4) hx hb hts iX_X0 hown hK hP 0 rfl rfl 0 (by decide +kernel) (hts _ m_t101) (fun _ h9 => h9) rfl (g_180 (v := 12) bX0_worthByRising rfl) ?_
  refine lv_aload_n hx hb (g_43 bX0_worthByRising rfl) rfl (lv_at hl 1 rfl) ?_
  refine cVv (As := [.ref qt]) (rest := []) (b := qu) (q := (RX4, TX4, 13)) ⟨hx, hb, hml, hown, hts⟩ (c_X4_become l G cy (s.heap).size qu tU quw qun qug qua qur qum qut qus qt tA qtw qtn qtg qta qtr qtm qtt qts) L_X0_21 hN hP hD hS hA (trueIx 0 [false, true, true, true, true, true, true, true, true, true, true, true, true, true, true, true, true, true, true]) [true, false, false, false, false, false, false, false, false, false, false, false, false, false, false, false, false, false, false] (sel_eq rfl rfl) (by decide +kernel) rfl 1 3 rfl rfl rfl ⟨Nat.le_of_ble_eq_true rfl, Nat.le_of_ble_eq_true rfl⟩ hl.1 (Nat.le_of_ble_eq_true rfl) (g_182 (v := 21) bX0_worthByRising rfl) ⟨Nat.le_of_ble_eq_true rfl, Nat.le_of_ble_eq_true rfl⟩ (fun u_3 H locs h_2 => ?_)
  clear hP hD hS
  intro hP hD hS
  have hPD := pd_eq [_, zzO qu 3 [.int (nI (T_nb tA)), .int (nI (T_np tA)), .int (wb (T_wh tA)), .int (wb (T_gn tA)), .int (T_sd tA), .ref quw, .ref qun, .ref qug, .ref qua, .ref qur, .ref qum, .ref qut, .ref qus], zzI cy quw 8 (T_wo tA), zzI cy qun 8 (T_ne tA), zzI cy qug 8 (T_go tA), zzI cy qua 8 (T_ag tA), zzI cy qur 8 (T_re tA), zzI cy qum 8 (T_me tA), zzI cy qut 8 (T_te tA), zzI cy qus 64 (shF (T_kn tA)), _, _, _, _, _, _, _, _, _] hP hD h_2 rfl
  clear hP hD h_2
  obtain ⟨hP, hD⟩ := hPD
  refine lv_iconst (v := 0) hx hb (g_3 bX0_worthByRising rfl) (by decide +kernel) ?_
  refine lv_istore_n (lv' := [(3, .int 0), (0, .ref qp), (1, .ref qt), (2, .int (nI kI))]) hx hb (g_62 bX0_worthByRising rfl) rfl hl (by decide +kernel) rfl (fun ls => ?_)
  clear hl
  intro hl
  have lp_4 : ∀ (n_5 : Nat) (j_7 : Nat) (tJ_8 : TA), 8 - j_7 < n_5 → j_7 ≤ T_nb tA → tJ_8 = wrF tA kI j_7 → ∀ (H : Heap) (locs : List Loc) (ls : Array Slot), va_P G CL [zzO qp 0 [.ref qu, vS, .int iL, .int iBs], zzO qu 3 [.int (nI (T_nb tJ_8)), .int (nI (T_np tJ_8)), .int (wb (T_wh tJ_8)), .int (wb (T_gn tJ_8)), .int (T_sd tJ_8), .ref quw, .ref qun, .ref qug, .ref qua, .ref qur, .ref qum, .ref qut, .ref qus], zzI cy quw 8 (T_wo tJ_8), zzI cy qun 8 (T_ne tJ_8), zzI cy qug 8 (T_go tJ_8), zzI cy qua 8 (T_ag tJ_8), zzI cy qur 8 (T_re tJ_8), zzI cy qum 8 (T_me tJ_8), zzI cy qut 8 (T_te tJ_8), zzI cy qus 64 (shF (T_kn tJ_8)), zzO qt 3 [.int (nI (T_nb tA)), .int (nI (T_np tA)), .int (wb (T_wh tA)), .int (wb (T_gn tA)), .int (T_sd tA), .ref qtw, .ref qtn, .ref qtg, .ref qta, .ref qtr, .ref qtm, .ref qtt, .ref qts], zzI cy qtw 8 (T_wo tA), zzI cy qtn 8 (T_ne tA), zzI cy qtg 8 (T_go tA), zzI cy qta 8 (T_ag tA), zzI cy qtr 8 (T_re tA), zzI cy qtm 8 (T_me tA), zzI cy qtt 8 (T_te tA), zzI cy qts 64 (shF (T_kn tA))] H → va_D A [zzO qp 0 [.ref qu, vS, .int iL, .int iBs], zzO qu 3 [.int (nI (T_nb tJ_8)), .int (nI (T_np tJ_8)), .int (wb (T_wh tJ_8)), .int (wb (T_gn tJ_8)), .int (T_sd tJ_8), .ref quw, .ref qun, .ref qug, .ref qua, .ref qur, .ref qum, .ref qut, .ref qus], zzI cy quw 8 (T_wo tJ_8), zzI cy qun 8 (T_ne tJ_8), zzI cy qug 8 (T_go tJ_8), zzI cy qua 8 (T_ag tJ_8), zzI cy qur 8 (T_re tJ_8), zzI cy qum 8 (T_me tJ_8), zzI cy qut 8 (T_te tJ_8), zzI cy qus 64 (shF (T_kn tJ_8)), zzO qt 3 [.int (nI (T_nb tA)), .int (nI (T_np tA)), .int (wb (T_wh tA)), .int (wb (T_gn tA)), .int (T_sd tA), .ref qtw, .ref qtn, .ref qtg, .ref qta, .ref qtr, .ref qtm, .ref qtt, .ref qts], zzI cy qtw 8 (T_wo tA), zzI cy qtn 8 (T_ne tA), zzI cy qtg 8 (T_go tA), zzI cy qta 8 (T_ag tA), zzI cy qtr 8 (T_re tA), zzI cy qtm 8 (T_me tA), zzI cy qtt 8 (T_te tA), zzI cy qts 64 (shF (T_kn tA))] → va_S A s.heap H locs → lv_has ls 4 [(3, .int (nI j_7)), (0, .ref qp), (1, .ref qt), (2, .int (nI kI))] → W p l e (Rm 5 0 0) s m (List.toArray (α := Value) [.ref qp, .ref qt, .int (nI kI)]) below meth c H locs 0 0 (MQ below ((Wi G (fun r u => u = [zzO qp 0 [.ref qu, vS, .int iL, .int iBs], zzO qu 3 [.int (nI (T_nb (zwr tA kI))), .int (nI (T_np (zwr tA kI))), .int (wb (T_wh (zwr tA kI))), .int (wb (T_gn (zwr tA kI))), .int (T_sd (zwr tA kI)), .ref quw, .ref qun, .ref qug, .ref qua, .ref qur, .ref qum, .ref qut, .ref qus], zzI cy quw 8 (T_wo (zwr tA kI)), zzI cy qun 8 (T_ne (zwr tA kI)), zzI cy qug 8 (T_go (zwr tA kI)), zzI cy qua 8 (T_ag (zwr tA kI)), zzI cy qur 8 (T_re (zwr tA kI)), zzI cy qum 8 (T_me (zwr tA kI)), zzI cy qut 8 (T_te (zwr tA kI)), zzI cy qus 64 (shF (T_kn (zwr tA kI))), zzO qt 3 [.int (nI (T_nb tA)), .int (nI (T_np tA)), .int (wb (T_wh tA)), .int (wb (T_gn tA)), .int (T_sd tA), .ref qtw, .ref qtn, .ref qtg, .ref qta, .ref qtr, .ref qtm, .ref qtt, .ref qts], zzI cy qtw 8 (T_wo tA), zzI cy qtn 8 (T_ne tA), zzI cy qtg 8 (T_go tA), zzI cy qta 8 (T_ag tA), zzI cy qtr 8 (T_re tA), zzI cy qtm 8 (T_me tA), zzI cy qtt 8 (T_te tA), zzI cy qts 64 (shF (T_kn tA))] ∧ ((r = (waF (zwr tA kI) (1 <<< ((nI kI) &&& 31))))))) A) (List.toArray (α := Value) [.ref qp, .ref qt, .int (nI kI)]) s 0 0 A) (F0 m 10 ls []) := by
    intro n_5
    induction n_5 with
    | zero => intro j_7 tJ_8 hm9; exact absurd hm9 (Nat.not_lt_zero _)
    | succ n_5 ih_6 =>
      intro j_7 tJ_8 hm_11 hj_9 htJ_10 H locs ls hP hD hS hl
      refine lv_iload_n hx hb (g_29 bX0_worthByRising rfl) rfl (lv_at hl 0 rfl) ?_
      refine lv_aload_n hx hb (g_42 bX0_worthByRising rfl) rfl (lv_at hl 1 rfl) ?_
      refine va_get (D := G) (ci := 0) (v := .ref qu) (C := RX0) (T := TX0) (N := 4) hx hb hts iX_X0 hown hK hP 0 rfl rfl 0 (by decide +kernel) (hts _ m_t101) (fun _ h9 => h9) rfl (g_180 (v := 12) bX0_worthByRising rfl) ?_
      refine va_getN (D := G) (ci := 3) (v := .int (nI (T_nb tJ_8))) (C := RX4) (T := TX4) (N := 13) hx hb hts iX_X4 hown hK hP 1 rfl rfl 0 (by decide +kernel) (va_Nw.use rfl (hN.2.1 (RX0, 70, "EachBookOnce$Town", "books", "I") (List.mem_of_getElem? (i := 2) rfl))) (fun _ h9 => h9) rfl (g_180 (v := 70) bX0_worthByRising rfl) ?_
      refine lv_icmp_ge (tgt := 50) hx hb dX0_worthByRising_18 (by decide +kernel) (fun c_12 => ?_) (fun c_12 => ?_)
      · have hlt_13e : T_nb tJ_8 = T_nb tA := by rw [htJ_10]; exact (wr_nb _ _ _).1
        have hlt_13 : j_7 = T_nb tA := Nat.le_antisymm (by omega) (by rw [hlt_13e] at c_12; exact lp_ge rfl rfl (by omega) (by omega) c_12)
        have e9_14 : tJ_8 = zwr tA kI := by rw [htJ_10, hlt_13]; rfl
        subst e9_14
        refine lv_aload_n hx hb (g_42 bX0_worthByRising rfl) rfl (lv_at hl 1 rfl) ?_
        refine va_get (D := G) (ci := 0) (v := .ref qu) (C := RX0) (T := TX0) (N := 4) hx hb hts iX_X0 hown hK hP 0 rfl rfl 0 (by decide +kernel) (hts _ m_t101) (fun _ h9 => h9) rfl (g_180 (v := 12) bX0_worthByRising rfl) ?_
        refine lv_iconst (v := 1) hx hb (g_4 bX0_worthByRising rfl) (by decide +kernel) ?_
        refine lv_iload_n hx hb (g_28 bX0_worthByRising rfl) rfl (lv_at hl 3 rfl) ?_
        refine lv_ishl hx hb (g_120 bX0_worthByRising rfl) ?_
        refine kRi (rV (As := [.int (1 <<< ((nI kI) &&& 31))]) (rest := []) (b := qu) ⟨hx, hb, hml, hown, hts⟩ (c_X4_worthAmong l G cy qu (zwr tA kI) quw qun qug qua qur qum qut qus (1 <<< ((nI kI) &&& 31)) (by first | omega | (simp only [nb_sr, np_sr, nb_wr, np_wr, nb_rd, np_rd, nb_ch, np_ch, nb_zr, np_zr, nb_za, np_za, nb_ey, np_ey, nb_hf, np_hf, nb_dd, np_dd, nb_so, np_so, nb_skn, np_skn, nb_swh, np_swh, nb_sgn, np_sgn, nb_ssd, np_ssd, nb_sgo, np_sgo, nb_sag, np_sag]; omega)) (by first | omega | (simp only [nb_sr, np_sr, nb_wr, np_wr, nb_rd, np_rd, nb_ch, np_ch, nb_zr, np_zr, nb_za, np_za, nb_ey, np_ey, nb_hf, np_hf, nb_dd, np_dd, nb_so, np_so, nb_skn, np_skn, nb_swh, np_swh, nb_sgn, np_sgn, nb_ssd, np_ssd, nb_sgo, np_sgo, nb_sag, np_sag]; omega))) L_X0_45 (preRV (q := (RX4, TX4, 13)) hN hP (trueIx 0 [false, true, true, false, false, false, false, false, false, true]) (sel_fm rfl rfl) 1 3 rfl rfl) rfl ⟨Nat.le_of_ble_eq_true rfl, Nat.le_of_ble_eq_true rfl⟩ hl.1 (Nat.le_of_ble_eq_true rfl) (g_182 (v := 45) bX0_worthByRising rfl) ⟨Nat.le_of_ble_eq_true rfl, Nat.le_of_ble_eq_true rfl⟩) (fun r_15 h_16 => ?_)
        subst h_16
        exact endWs [[true, true, true, true, true, true, true, true, true, true, true, true, true, true, true, true, true, true, true]] hx hb hr hlocks rfl hP hD rfl (by decide +kernel) hS ⟨rfl, rfl⟩ (g_172 bX0_worthByRising rfl)
      · have hlt_17e : T_nb tJ_8 = T_nb tA := by rw [htJ_10]; exact (wr_nb _ _ _).1
        have hlt_17 : j_7 < T_nb tA := by rw [hlt_17e] at c_12; exact lp_lt rfl rfl (by omega) (by omega) c_12
        refine lv_aload_n hx hb (g_42 bX0_worthByRising rfl) rfl (lv_at hl 1 rfl) ?_
        refine va_get (D := G) (ci := 0) (v := .ref qu) (C := RX0) (T := TX0) (N := 4) hx hb hts iX_X0 hown hK hP 0 rfl rfl 0 (by decide +kernel) (hts _ m_t101) (fun _ h9 => h9) rfl (g_180 (v := 12) bX0_worthByRising rfl) ?_
        refine va_getN (D := G) (ci := 3) (v := .int (wb (T_wh tJ_8))) (C := RX4) (T := TX4) (N := 13) hx hb hts iX_X4 hown hK hP 1 rfl rfl 2 (by decide +kernel) (va_Nw.use rfl (hN.2.1 (RX0, 73, "EachBookOnce$Town", "white", "I") (List.mem_of_getElem? (i := 8) rfl))) (fun _ h9 => h9) rfl (g_180 (v := 73) bX0_worthByRising rfl) ?_
        refine lv_iload_n hx hb (g_29 bX0_worthByRising rfl) rfl (lv_at hl 0 rfl) ?_
        refine kRi (rSN (As := [.int (wb (T_wh tJ_8)), .int (nI j_7)]) (rest := []) ⟨hx, hb, hml, hown, hts⟩ hN (c_X5_has l G cy (wb (T_wh tJ_8)) j_7) L_X0_52 (preRS hN hP [] rfl) rfl ⟨Nat.le_of_ble_eq_true rfl, Nat.le_of_ble_eq_true rfl⟩ hl.1 (Nat.le_of_ble_eq_true rfl) (g_184 (v := 52) bX0_worthByRising rfl) ⟨Nat.le_of_ble_eq_true rfl, Nat.le_of_ble_eq_true rfl⟩) (fun r_18 h_19 => ?_)
        rcases h_19 with ⟨rfl, h_20⟩ | ⟨rfl, h_20⟩
        · rw [bit_wb _ (by omega)] at h_20
          refine lv_if_ne (tgt := 44) hx hb dX0_worthByRising_32 (by decide +kernel) (fun _ => ?_) (fun h9 => absurd h9 (by decide +kernel))
          refine lv_iinc (v := nI (j_7 + 1)) (lv' := [(3, .int (nI (j_7 + 1))), (0, .ref qp), (1, .ref qt), (2, .int (nI kI))]) hx hb dX0_worthByRising_44 hl (k := 0) rfl (nI_1 _) (by decide +kernel) rfl (fun ls => ?_)
          clear hl
          intro hl
          refine lv_goto (tgt := 10) hx hb dX0_worthByRising_47 (by decide +kernel) ?_
          exact ih_6 (j_7 + 1) tJ_8 (by omega) (by omega) (by rw [wr_no (htJ_10 ▸ h_20)]; exact htJ_10) _ _ _ hP hD hS (lv_sub hl [0, 1, 2, 3] rfl)
        · rw [bit_wb _ (by omega)] at h_20
          refine lv_if_ne (tgt := 44) hx hb dX0_worthByRising_32 (by decide +kernel) (fun h9 => absurd (by decide +kernel) h9) (fun _ => ?_)
          refine lv_aload_n hx hb (g_42 bX0_worthByRising rfl) rfl (lv_at hl 1 rfl) ?_
          refine va_get (D := G) (ci := 0) (v := .ref qu) (C := RX0) (T := TX0) (N := 4) hx hb hts iX_X0 hown hK hP 0 rfl rfl 0 (by decide +kernel) (hts _ m_t101) (fun _ h9 => h9) rfl (g_180 (v := 12) bX0_worthByRising rfl) ?_
          refine lv_iload_n hx hb (g_28 bX0_worthByRising rfl) rfl (lv_at hl 3 rfl) ?_
          refine lv_iload_n hx hb (g_29 bX0_worthByRising rfl) rfl (lv_at hl 0 rfl) ?_
          refine cVv (As := [.int (nI kI), .int (nI j_7)]) (rest := []) (b := qu) (q := (RX4, TX4, 13)) ⟨hx, hb, hml, hown, hts⟩ (c_X4_readBy l G cy (H).size qu tJ_8 quw qun qug qua qur qum qut qus kI j_7 hI (by first | omega | (simp only [nb_sr, np_sr, nb_wr, np_wr, nb_rd, np_rd, nb_ch, np_ch, nb_zr, np_zr, nb_za, np_za, nb_ey, np_ey, nb_hf, np_hf, nb_dd, np_dd, nb_so, np_so, nb_skn, np_skn, nb_swh, np_swh, nb_sgn, np_sgn, nb_ssd, np_ssd, nb_sgo, np_sgo, nb_sag, np_sag]; omega))) L_X0_56 hN hP hD hS hA (trueIx 0 [false, true, true, true, true, true, true, true, true, true]) [true, false, false, false, false, false, false, false, false, false, true, true, true, true, true, true, true, true, true] (sel_eq rfl rfl) (by decide +kernel) rfl 1 3 rfl rfl rfl ⟨Nat.le_of_ble_eq_true rfl, Nat.le_of_ble_eq_true rfl⟩ hl.1 (Nat.le_of_ble_eq_true rfl) (g_182 (v := 56) bX0_worthByRising rfl) ⟨Nat.le_of_ble_eq_true rfl, Nat.le_of_ble_eq_true rfl⟩ (fun u_25 H locs h_24 => ?_)
          clear hP hD hS
          intro hP hD hS
          have hPD := pd_eq [_, _, _, _, _, _, _, _, _, _, zzO qu 3 [.int (nI (T_nb (rdT tJ_8 kI j_7))), .int (nI (T_np (rdT tJ_8 kI j_7))), .int (wb (T_wh (rdT tJ_8 kI j_7))), .int (wb (T_gn (rdT tJ_8 kI j_7))), .int (T_sd (rdT tJ_8 kI j_7)), .ref quw, .ref qun, .ref qug, .ref qua, .ref qur, .ref qum, .ref qut, .ref qus], zzI cy quw 8 (T_wo (rdT tJ_8 kI j_7)), zzI cy qun 8 (T_ne (rdT tJ_8 kI j_7)), zzI cy qug 8 (T_go (rdT tJ_8 kI j_7)), zzI cy qua 8 (T_ag (rdT tJ_8 kI j_7)), zzI cy qur 8 (T_re (rdT tJ_8 kI j_7)), zzI cy qum 8 (T_me (rdT tJ_8 kI j_7)), zzI cy qut 8 (T_te (rdT tJ_8 kI j_7)), zzI cy qus 64 (shF (T_kn (rdT tJ_8 kI j_7)))] hP hD h_24 rfl
          clear hP hD h_24
          obtain ⟨hP, hD⟩ := hPD
          refine lv_iinc (v := nI (j_7 + 1)) (lv' := [(3, .int (nI (j_7 + 1))), (0, .ref qp), (1, .ref qt), (2, .int (nI kI))]) hx hb dX0_worthByRising_44 hl (k := 0) rfl (nI_1 _) (by decide +kernel) rfl (fun ls => ?_)
          clear hl
          intro hl
          refine lv_goto (tgt := 10) hx hb dX0_worthByRising_47 (by decide +kernel) ?_
          exact ih_6 (j_7 + 1) (rdT tJ_8 kI j_7) (by omega) (by omega) (by rw [wr_go (htJ_10 ▸ h_20), ← htJ_10]) _ _ _ (pSb hP [[true, false, false, false, false, false, false, false, false, false, true, true, true, true, true, true, true, true, true], [false, true, true, true, true, true, true, true, true, true]] rfl rfl) (dSb hD [[true, false, false, false, false, false, false, false, false, false, true, true, true, true, true, true, true, true, true], [false, true, true, true, true, true, true, true, true, true]] (by decide +kernel) rfl rfl) hS (lv_sub hl [0, 1, 2, 3] rfl)
  exact lp_4 ((8 - 0) + 1) 0 tA (Nat.lt_succ_self _) (Nat.zero_le _) rfl _ _ ls hP hD hS (lv_sub hl [0, 1, 2, 3] rfl)
theorem c_X0_sumOfRest1 (l : Launch) (G : va_G) (cy : Nat → ClassId) (sz : Nat) (qu : Nat) (tA : TA) (quw : Nat) (qun : Nat) (qug : Nat) (qua : Nat) (qur : Nat) (qum : Nat) (qut : Nat) (qus : Nat)  (hB : T_nb tA ≤ 8) (hPp : T_np tA ≤ 8) : MW l yX0_sumOfRest cX0_sumOfRest 4 (some .int) 6 0 0 G cy [zzO qu 3 [.int (nI (T_nb tA)), .int (nI (T_np tA)), .int (wb (T_wh tA)), .int (wb (T_gn tA)), .int (T_sd tA), .ref quw, .ref qun, .ref qug, .ref qua, .ref qur, .ref qum, .ref qut, .ref qus], zzI cy quw 8 (T_wo tA), zzI cy qun 8 (T_ne tA), zzI cy qug 8 (T_go tA), zzI cy qua 8 (T_ag tA), zzI cy qur 8 (T_re tA), zzI cy qum 8 (T_me tA), zzI cy qut 8 (T_te tA), zzI cy qus 64 (shF (T_kn tA))] sz [.ref qu, .int 1] (Wi G (fun r u => u = [zzO qu 3 [.int (nI (T_nb ((soG 1 tA 0).1))), .int (nI (T_np ((soG 1 tA 0).1))), .int (wb (T_wh ((soG 1 tA 0).1))), .int (wb (T_gn ((soG 1 tA 0).1))), .int (T_sd ((soG 1 tA 0).1)), .ref quw, .ref qun, .ref qug, .ref qua, .ref qur, .ref qum, .ref qut, .ref qus], zzI cy quw 8 (T_wo ((soG 1 tA 0).1)), zzI cy qun 8 (T_ne ((soG 1 tA 0).1)), zzI cy qug 8 (T_go ((soG 1 tA 0).1)), zzI cy qua 8 (T_ag ((soG 1 tA 0).1)), zzI cy qur 8 (T_re ((soG 1 tA 0).1)), zzI cy qum 8 (T_me ((soG 1 tA 0).1)), zzI cy qut 8 (T_te ((soG 1 tA 0).1)), zzI cy qus 64 (shF (T_kn ((soG 1 tA 0).1)))] ∧ ((r = ((soG 1 tA 0).2))))) := c_X0_sumOfRest l G cy sz qu tA quw qun qug qua qur qum qut qus 1 hB hPp (by omega)
set_option maxHeartbeats 4000000 in
set_option maxRecDepth 100000 in
theorem c_X0_findKeeping (l : Launch) (G : va_G) (cy : Nat → ClassId) (sz : Nat) (qp : Nat) (qu : Nat) (qv : Nat) (iL : Int32) (iBs : Int32) (tU : TA) (quw : Nat) (qun : Nat) (qug : Nat) (qua : Nat) (qur : Nat) (qum : Nat) (qut : Nat) (qus : Nat) (tV : TA) (qvw : Nat) (qvn : Nat) (qvg : Nat) (qva : Nat) (qvr : Nat) (qvm : Nat) (qvt : Nat) (qvs : Nat) (qt : Nat) (tA : TA) (qtw : Nat) (qtn : Nat) (qtg : Nat) (qta : Nat) (qtr : Nat) (qtm : Nat) (qtt : Nat) (qts : Nat) (kB : Nat) (kN : Nat)  (hB : T_nb tA ≤ 8) (hPp : T_np tA ≤ 8) (hN60 : kN ≤ 60) (hN2 : 2 ≤ kN) (hJ : kB < 8) : MW l yX0_findKeeping cX0_findKeeping 6 (some .boolean) 8 0 0 G cy [zzO qp 0 [.ref qu, .ref qv, .int iL, .int iBs], zzO qu 3 [.int (nI (T_nb tU)), .int (nI (T_np tU)), .int (wb (T_wh tU)), .int (wb (T_gn tU)), .int (T_sd tU), .ref quw, .ref qun, .ref qug, .ref qua, .ref qur, .ref qum, .ref qut, .ref qus], zzI cy quw 8 (T_wo tU), zzI cy qun 8 (T_ne tU), zzI cy qug 8 (T_go tU), zzI cy qua 8 (T_ag tU), zzI cy qur 8 (T_re tU), zzI cy qum 8 (T_me tU), zzI cy qut 8 (T_te tU), zzI cy qus 64 (shF (T_kn tU)), zzO qv 3 [.int (nI (T_nb tV)), .int (nI (T_np tV)), .int (wb (T_wh tV)), .int (wb (T_gn tV)), .int (T_sd tV), .ref qvw, .ref qvn, .ref qvg, .ref qva, .ref qvr, .ref qvm, .ref qvt, .ref qvs], zzI cy qvw 8 (T_wo tV), zzI cy qvn 8 (T_ne tV), zzI cy qvg 8 (T_go tV), zzI cy qva 8 (T_ag tV), zzI cy qvr 8 (T_re tV), zzI cy qvm 8 (T_me tV), zzI cy qvt 8 (T_te tV), zzI cy qvs 64 (shF (T_kn tV)), zzO qt 3 [.int (nI (T_nb tA)), .int (nI (T_np tA)), .int (wb (T_wh tA)), .int (wb (T_gn tA)), .int (T_sd tA), .ref qtw, .ref qtn, .ref qtg, .ref qta, .ref qtr, .ref qtm, .ref qtt, .ref qts], zzI cy qtw 8 (T_wo tA), zzI cy qtn 8 (T_ne tA), zzI cy qtg 8 (T_go tA), zzI cy qta 8 (T_ag tA), zzI cy qtr 8 (T_re tA), zzI cy qtm 8 (T_me tA), zzI cy qtt 8 (T_te tA), zzI cy qts 64 (shF (T_kn tA))] sz [.ref qp, .ref qt, .int (nI kB), .int (nI kN)] (Wi G (fun r u => ∃ (tX : TA) (tY : TA), u = [zzO qp 0 [.ref qu, .ref qv, .int iL, .int ((zfk tA kB kN iBs).2)], zzO qu 3 [.int (nI (T_nb tX)), .int (nI (T_np tX)), .int (wb (T_wh tX)), .int (wb (T_gn tX)), .int (T_sd tX), .ref quw, .ref qun, .ref qug, .ref qua, .ref qur, .ref qum, .ref qut, .ref qus], zzI cy quw 8 (T_wo tX), zzI cy qun 8 (T_ne tX), zzI cy qug 8 (T_go tX), zzI cy qua 8 (T_ag tX), zzI cy qur 8 (T_re tX), zzI cy qum 8 (T_me tX), zzI cy qut 8 (T_te tX), zzI cy qus 64 (shF (T_kn tX)), zzO qv 3 [.int (nI (T_nb tY)), .int (nI (T_np tY)), .int (wb (T_wh tY)), .int (wb (T_gn tY)), .int (T_sd tY), .ref qvw, .ref qvn, .ref qvg, .ref qva, .ref qvr, .ref qvm, .ref qvt, .ref qvs], zzI cy qvw 8 (T_wo tY), zzI cy qvn 8 (T_ne tY), zzI cy qvg 8 (T_go tY), zzI cy qva 8 (T_ag tY), zzI cy qvr 8 (T_re tY), zzI cy qvm 8 (T_me tY), zzI cy qvt 8 (T_te tY), zzI cy qvs 64 (shF (T_kn tY)), zzO qt 3 [.int (nI (T_nb tA)), .int (nI (T_np tA)), .int (wb (T_wh tA)), .int (wb (T_gn tA)), .int (T_sd tA), .ref qtw, .ref qtn, .ref qtg, .ref qta, .ref qtr, .ref qtm, .ref qtt, .ref qts], zzI cy qtw 8 (T_wo tA), zzI cy qtn 8 (T_ne tA), zzI cy qtg 8 (T_go tA), zzI cy qta 8 (T_ag tA), zzI cy qtr 8 (T_re tA), zzI cy qtm 8 (T_me tA), zzI cy qtt 8 (T_te tA), zzI cy qts 64 (shF (T_kn tA))] ∧ ((r = ((zfk tA kB kN iBs).1))))) := by
  refine enW RX0 (by decide +kernel) rfl (Nat.le_of_ble_eq_true rfl) (fun p e s m below meth c ls A hx hb hml hown hts hr hlocks hP hN hl hin hD hA hS => ?_)
  have hin : meth.name = _ := hin
  have hK := hN.1
  replace hl : lv_has ls 6 [(0, .ref qp), (1, .ref qt), (2, .int (nI kB)), (3, .int (nI kN))] := hl
  refine lv_aload_n hx hb (g_42 bX0_findKeeping rfl) rfl (lv_at hl 0 rfl) ?_
  refine lv_aload_n hx hb (g_43 bX0_findKeeping rfl) rfl (lv_at hl 1 rfl) ?_
  refine lv_iload_n hx hb (g_28 bX0_findKeeping rfl) rfl (lv_at hl 2 rfl) ?_
  refine lv_iload_n hx hb (g_29 bX0_findKeeping rfl) rfl (lv_at hl 3 rfl) ?_
  refine cVi (As := [.ref qt, .int (nI kB), .int (nI kN)]) (rest := []) (b := qp) (q := (RX0, TX0, 4)) ⟨hx, hb, hml, hown, hts⟩ (c_X0_bestWho l G cy (s.heap).size qp qu (.ref qv) iL iBs tU quw qun qug qua qur qum qut qus qt tA qtw qtn qtg qta qtr qtm qtt qts kB kN hB hPp hN60 hJ) L_X0_67 hN hP hD hS hA (trueIx 0 [true, true, true, true, true, true, true, true, true, true, false, false, false, false, false, false, false, false, false, true, true, true, true, true, true, true, true, true]) [false, false, false, false, false, false, false, false, false, false, true, true, true, true, true, true, true, true, true, false, false, false, false, false, false, false, false, false] (sel_eq rfl rfl) (by decide +kernel) rfl 0 0 rfl rfl rfl ⟨Nat.le_of_ble_eq_true rfl, Nat.le_of_ble_eq_true rfl⟩ hl.1 (Nat.le_of_ble_eq_true rfl) (g_182 (v := 67) bX0_findKeeping rfl) ⟨Nat.le_of_ble_eq_true rfl, Nat.le_of_ble_eq_true rfl⟩ (fun r_1 u_3 H locs h_2 => ?_)
  clear hP hD hS
  intro hP hD hS
  obtain ⟨tX_4, hu9, h_2⟩ := h_2
  have hPD := pd_eq [_, _, _, _, _, _, _, _, _, zzO qp 0 [.ref qu, .ref qv, .int iL, .int ((zbw tA kB kN iBs).2)], zzO qu 3 [.int (nI (T_nb tX_4)), .int (nI (T_np tX_4)), .int (wb (T_wh tX_4)), .int (wb (T_gn tX_4)), .int (T_sd tX_4), .ref quw, .ref qun, .ref qug, .ref qua, .ref qur, .ref qum, .ref qut, .ref qus], zzI cy quw 8 (T_wo tX_4), zzI cy qun 8 (T_ne tX_4), zzI cy qug 8 (T_go tX_4), zzI cy qua 8 (T_ag tX_4), zzI cy qur 8 (T_re tX_4), zzI cy qum 8 (T_me tX_4), zzI cy qut 8 (T_te tX_4), zzI cy qus 64 (shF (T_kn tX_4)), _, _, _, _, _, _, _, _, _] hP hD hu9 rfl
  clear hP hD hu9
  obtain ⟨hP, hD⟩ := hPD
  subst h_2
  refine lv_iconst (v := (-1)) hx hb (g_2 bX0_findKeeping rfl) (by decide +kernel) ?_
  refine lv_icmp_ne (tgt := 13) hx hb dX0_findKeeping_8 (by decide +kernel) (fun c_5 => ?_) (fun c_5 => ?_)
  · refine lv_aload_n hx hb (g_42 bX0_findKeeping rfl) rfl (lv_at hl 0 rfl) ?_
    refine va_get (D := G) (ci := 0) (v := .int ((zbw tA kB kN iBs).2)) (C := RX0) (T := TX0) (N := 4) hx hb hts iX_X0 hown hK hP 9 rfl rfl 3 (by decide +kernel) (hts _ m_t106) (fun _ h9 => h9) rfl (g_180 (v := 64) bX0_findKeeping rfl) ?_
    refine lv_istore (lv' := [(4, .int ((zbw tA kB kN iBs).2)), (0, .ref qp), (1, .ref qt), (2, .int (nI kB)), (3, .int (nI kN))]) hx hb (g_54 (v := 4) bX0_findKeeping rfl) hl (by decide +kernel) rfl (fun ls => ?_)
    clear hl
    intro hl
    refine lv_aload_n hx hb (g_42 bX0_findKeeping rfl) rfl (lv_at hl 1 rfl) ?_
    refine va_get (D := G) (ci := 0) (v := .ref qv) (C := RX0) (T := TX0) (N := 4) hx hb hts iX_X0 hown hK hP 9 rfl rfl 1 (by decide +kernel) (hts _ m_t103) (fun _ h9 => h9) rfl (g_180 (v := 18) bX0_findKeeping rfl) ?_
    refine lv_aload_n hx hb (g_43 bX0_findKeeping rfl) rfl (lv_at hl 2 rfl) ?_
    refine cVv (As := [.ref qt]) (rest := []) (b := qv) (q := (RX4, TX4, 13)) ⟨hx, hb, hml, hown, hts⟩ (c_X4_become l G cy (H).size qv tV qvw qvn qvg qva qvr qvm qvt qvs qt tA qtw qtn qtg qta qtr qtm qtt qts) L_X0_21 hN hP hD hS hA (trueIx 0 [true, true, true, true, true, true, true, true, true, false, false, false, false, false, false, false, false, false, false, true, true, true, true, true, true, true, true, true]) [false, false, false, false, false, false, false, false, false, true, true, true, true, true, true, true, true, true, true, false, false, false, false, false, false, false, false, false] (sel_eq rfl rfl) (by decide +kernel) rfl 0 3 rfl rfl rfl ⟨Nat.le_of_ble_eq_true rfl, Nat.le_of_ble_eq_true rfl⟩ hl.1 (Nat.le_of_ble_eq_true rfl) (g_182 (v := 21) bX0_findKeeping rfl) ⟨Nat.le_of_ble_eq_true rfl, Nat.le_of_ble_eq_true rfl⟩ (fun u_8 H locs h_7 => ?_)
    clear hP hD hS
    intro hP hD hS
    have hPD := pd_eq [_, _, _, _, _, _, _, _, _, _, zzO qv 3 [.int (nI (T_nb tA)), .int (nI (T_np tA)), .int (wb (T_wh tA)), .int (wb (T_gn tA)), .int (T_sd tA), .ref qvw, .ref qvn, .ref qvg, .ref qva, .ref qvr, .ref qvm, .ref qvt, .ref qvs], zzI cy qvw 8 (T_wo tA), zzI cy qvn 8 (T_ne tA), zzI cy qvg 8 (T_go tA), zzI cy qva 8 (T_ag tA), zzI cy qvr 8 (T_re tA), zzI cy qvm 8 (T_me tA), zzI cy qvt 8 (T_te tA), zzI cy qvs 64 (shF (T_kn tA)), _, _, _, _, _, _, _, _, _] hP hD h_7 rfl
    clear hP hD h_7
    obtain ⟨hP, hD⟩ := hPD
    refine lv_aload_n hx hb (g_42 bX0_findKeeping rfl) rfl (lv_at hl 1 rfl) ?_
    refine va_get (D := G) (ci := 0) (v := .ref qv) (C := RX0) (T := TX0) (N := 4) hx hb hts iX_X0 hown hK hP 0 rfl rfl 1 (by decide +kernel) (hts _ m_t103) (fun _ h9 => h9) rfl (g_180 (v := 18) bX0_findKeeping rfl) ?_
    refine lv_iconst (v := 1) hx hb (g_4 bX0_findKeeping rfl) (by decide +kernel) ?_
    refine cSi (As := [.ref qv, .int 1]) (rest := []) ⟨hx, hb, hml, hown, hts⟩ (c_X0_sumOfRest1 l G cy (H).size qv tA qvw qvn qvg qva qvr qvm qvt qvs hB hPp) L_X0_60 hN hP hD hS hA (trueIx 0 [false, false, false, false, false, false, false, false, false, false, true, true, true, true, true, true, true, true, true]) [true, true, true, true, true, true, true, true, true, true, false, false, false, false, false, false, false, false, false, true, true, true, true, true, true, true, true, true] (sel_eq rfl rfl) (by decide +kernel) rfl rfl ⟨Nat.le_of_ble_eq_true rfl, Nat.le_of_ble_eq_true rfl⟩ hl.1 (Nat.le_of_ble_eq_true rfl) (g_184 (v := 60) bX0_findKeeping rfl) ⟨Nat.le_of_ble_eq_true rfl, Nat.le_of_ble_eq_true rfl⟩ (fun r_9 u_11 H locs h_10 => ?_)
    clear hP hD hS
    intro hP hD hS
    obtain ⟨hu9, h_10⟩ := h_10
    have hPD := pd_eq [_, _, _, _, _, _, _, _, _, _, _, _, _, _, _, _, _, _, _, zzO qv 3 [.int (nI (T_nb ((soG 1 tA 0).1))), .int (nI (T_np ((soG 1 tA 0).1))), .int (wb (T_wh ((soG 1 tA 0).1))), .int (wb (T_gn ((soG 1 tA 0).1))), .int (T_sd ((soG 1 tA 0).1)), .ref qvw, .ref qvn, .ref qvg, .ref qva, .ref qvr, .ref qvm, .ref qvt, .ref qvs], zzI cy qvw 8 (T_wo ((soG 1 tA 0).1)), zzI cy qvn 8 (T_ne ((soG 1 tA 0).1)), zzI cy qvg 8 (T_go ((soG 1 tA 0).1)), zzI cy qva 8 (T_ag ((soG 1 tA 0).1)), zzI cy qvr 8 (T_re ((soG 1 tA 0).1)), zzI cy qvm 8 (T_me ((soG 1 tA 0).1)), zzI cy qvt 8 (T_te ((soG 1 tA 0).1)), zzI cy qvs 64 (shF (T_kn ((soG 1 tA 0).1)))] hP hD hu9 rfl
    clear hP hD hu9
    obtain ⟨hP, hD⟩ := hPD
    subst h_10
    refine lv_istore (lv' := [(5, .int ((soG 1 tA 0).2)), (4, .int ((zbw tA kB kN iBs).2)), (0, .ref qp), (1, .ref qt), (2, .int (nI kB)), (3, .int (nI kN))]) hx hb (g_54 (v := 5) bX0_findKeeping rfl) hl (by decide +kernel) rfl (fun ls => ?_)
    clear hl
    intro hl
    refine lv_aload_n hx hb (g_42 bX0_findKeeping rfl) rfl (lv_at hl 2 rfl) ?_
    refine lv_aload_n hx hb (g_42 bX0_findKeeping rfl) rfl (lv_at hl 2 rfl) ?_
    refine va_get (D := G) (ci := 0) (v := .ref qv) (C := RX0) (T := TX0) (N := 4) hx hb hts iX_X0 hown hK hP 0 rfl rfl 1 (by decide +kernel) (hts _ m_t103) (fun _ h9 => h9) rfl (g_180 (v := 18) bX0_findKeeping rfl) ?_
    refine lv_iload_n hx hb (g_28 bX0_findKeeping rfl) rfl (lv_at hl 4 rfl) ?_
    refine lv_iload_n hx hb (g_29 bX0_findKeeping rfl) rfl (lv_at hl 5 rfl) ?_
    refine lv_iconst (v := 1) hx hb (g_4 bX0_findKeeping rfl) (by decide +kernel) ?_
    refine lv_isub hx hb (g_100 bX0_findKeeping rfl) ?_
    refine lv_seti (v := nI (kN - 1)) (nI_sub1 (by omega)) ?_
    refine cVi (As := [.ref qv, .int (nI kB), .int (nI (kN - 1))]) (rest := []) (b := qp) (q := (RX0, TX0, 4)) ⟨hx, hb, hml, hown, hts⟩ (c_X0_bestWho l G cy (H).size qp qu (.ref qv) iL ((zbw tA kB kN iBs).2) tX_4 quw qun qug qua qur qum qut qus qv ((soG 1 tA 0).1) qvw qvn qvg qva qvr qvm qvt qvs kB (kN - 1) (by first | omega | (simp only [nb_sr, np_sr, nb_wr, np_wr, nb_rd, np_rd, nb_ch, np_ch, nb_zr, np_zr, nb_za, np_za, nb_ey, np_ey, nb_hf, np_hf, nb_dd, np_dd, nb_so, np_so, nb_skn, np_skn, nb_swh, np_swh, nb_sgn, np_sgn, nb_ssd, np_ssd, nb_sgo, np_sgo, nb_sag, np_sag]; omega)) (by first | omega | (simp only [nb_sr, np_sr, nb_wr, np_wr, nb_rd, np_rd, nb_ch, np_ch, nb_zr, np_zr, nb_za, np_za, nb_ey, np_ey, nb_hf, np_hf, nb_dd, np_dd, nb_so, np_so, nb_skn, np_skn, nb_swh, np_swh, nb_sgn, np_sgn, nb_ssd, np_ssd, nb_sgo, np_sgo, nb_sag, np_sag]; omega)) (by first | omega | (simp only [nb_sr, np_sr, nb_wr, np_wr, nb_rd, np_rd, nb_ch, np_ch, nb_zr, np_zr, nb_za, np_za, nb_ey, np_ey, nb_hf, np_hf, nb_dd, np_dd, nb_so, np_so, nb_skn, np_skn, nb_swh, np_swh, nb_sgn, np_sgn, nb_ssd, np_ssd, nb_sgo, np_sgo, nb_sag, np_sag]; omega)) hJ) L_X0_67 hN hP hD hS hA (trueIx 0 [true, true, true, true, true, true, true, true, true, true, false, false, false, false, false, false, false, false, false, true, true, true, true, true, true, true, true, true]) [false, false, false, false, false, false, false, false, false, false, true, true, true, true, true, true, true, true, true, false, false, false, false, false, false, false, false, false] (sel_eq rfl rfl) (by decide +kernel) rfl 0 0 rfl rfl rfl ⟨Nat.le_of_ble_eq_true rfl, Nat.le_of_ble_eq_true rfl⟩ hl.1 (Nat.le_of_ble_eq_true rfl) (g_182 (v := 67) bX0_findKeeping rfl) ⟨Nat.le_of_ble_eq_true rfl, Nat.le_of_ble_eq_true rfl⟩ (fun r_12 u_14 H locs h_13 => ?_)
    clear hP hD hS
    intro hP hD hS
    obtain ⟨tX_15, hu9, h_13⟩ := h_13
    have hPD := pd_eq [_, _, _, _, _, _, _, _, _, zzO qp 0 [.ref qu, .ref qv, .int iL, .int ((zbw ((soG 1 tA 0).1) kB (kN - 1) ((zbw tA kB kN iBs).2)).2)], zzO qu 3 [.int (nI (T_nb tX_15)), .int (nI (T_np tX_15)), .int (wb (T_wh tX_15)), .int (wb (T_gn tX_15)), .int (T_sd tX_15), .ref quw, .ref qun, .ref qug, .ref qua, .ref qur, .ref qum, .ref qut, .ref qus], zzI cy quw 8 (T_wo tX_15), zzI cy qun 8 (T_ne tX_15), zzI cy qug 8 (T_go tX_15), zzI cy qua 8 (T_ag tX_15), zzI cy qur 8 (T_re tX_15), zzI cy qum 8 (T_me tX_15), zzI cy qut 8 (T_te tX_15), zzI cy qus 64 (shF (T_kn tX_15)), _, _, _, _, _, _, _, _, _] hP hD hu9 rfl
    clear hP hD hu9
    obtain ⟨hP, hD⟩ := hPD
    subst h_13
    refine lv_iconst (v := (-1)) hx hb (g_2 bX0_findKeeping rfl) (by decide +kernel) ?_
    refine lv_icmp_ne (tgt := 55) hx hb dX0_findKeeping_50 (by decide +kernel) (fun c_16 => ?_) (fun c_16 => ?_)
    · refine lv_aload_n hx hb (g_42 bX0_findKeeping rfl) rfl (lv_at hl 2 rfl) ?_
      refine lv_iload hx hb (g_21 (v := 5) bX0_findKeeping rfl) (lv_at hl 0 rfl) ?_
      refine lv_aload_n hx hb (g_42 bX0_findKeeping rfl) rfl (lv_at hl 2 rfl) ?_
      refine va_get (D := G) (ci := 0) (v := .int ((zbw ((soG 1 tA 0).1) kB (kN - 1) ((zbw tA kB kN iBs).2)).2)) (C := RX0) (T := TX0) (N := 4) hx hb hts iX_X0 hown hK hP 9 rfl rfl 3 (by decide +kernel) (hts _ m_t106) (fun _ h9 => h9) rfl (g_180 (v := 64) bX0_findKeeping rfl) ?_
      refine lv_iadd hx hb (g_96 bX0_findKeeping rfl) ?_
      refine lv_iload hx hb (g_21 (v := 4) bX0_findKeeping rfl) (lv_at hl 1 rfl) ?_
      refine lv_isub hx hb (g_100 bX0_findKeeping rfl) ?_
      refine va_put (D := G) (ci := 0) (v := .int ((((soG 1 tA 0).2) + ((zbw ((soG 1 tA 0).1) kB (kN - 1) ((zbw tA kB kN iBs).2)).2)) - ((zbw tA kB kN iBs).2))) (ty := .int) (C := RX0) (T := TX0) (N := 4) hx hb hts iX_X0 tyX0 tyX0_ok nmX0 hown hK hP hD hS 9 rfl rfl 3 (by decide +kernel) (hts _ m_t106) (fun _ h9 => h9) rfl (by decide +kernel) rfl rfl (Nat.le_of_ble_eq_true rfl) (g_181 (v := 64) bX0_findKeeping rfl) (fun H locs => ?_)
      clear hP hD hS
      intro hP hD hS
      have hPD := pd_as [_, _, _, _, _, _, _, _, _, zzO qp 0 [.ref qu, .ref qv, .int iL, .int ((((soG 1 tA 0).2) + ((zbw ((soG 1 tA 0).1) kB (kN - 1) ((zbw tA kB kN iBs).2)).2)) - ((zbw tA kB kN iBs).2))], _, _, _, _, _, _, _, _, _, _, _, _, _, _, _, _, _, _] hP hD rfl
      clear hP hD
      obtain ⟨hP, hD⟩ := hPD
      refine lv_iconst (v := 1) hx hb (g_4 bX0_findKeeping rfl) (by decide +kernel) ?_
      exact endW (u := [zzO qp 0 [.ref qu, .ref qv, .int iL, .int ((((soG 1 tA 0).2) + ((zbw ((soG 1 tA 0).1) kB (kN - 1) ((zbw tA kB kN iBs).2)).2)) - ((zbw tA kB kN iBs).2))], zzO qu 3 [.int (nI (T_nb tX_15)), .int (nI (T_np tX_15)), .int (wb (T_wh tX_15)), .int (wb (T_gn tX_15)), .int (T_sd tX_15), .ref quw, .ref qun, .ref qug, .ref qua, .ref qur, .ref qum, .ref qut, .ref qus], zzI cy quw 8 (T_wo tX_15), zzI cy qun 8 (T_ne tX_15), zzI cy qug 8 (T_go tX_15), zzI cy qua 8 (T_ag tX_15), zzI cy qur 8 (T_re tX_15), zzI cy qum 8 (T_me tX_15), zzI cy qut 8 (T_te tX_15), zzI cy qus 64 (shF (T_kn tX_15)), zzO qv 3 [.int (nI (T_nb ((soG 1 tA 0).1))), .int (nI (T_np ((soG 1 tA 0).1))), .int (wb (T_wh ((soG 1 tA 0).1))), .int (wb (T_gn ((soG 1 tA 0).1))), .int (T_sd ((soG 1 tA 0).1)), .ref qvw, .ref qvn, .ref qvg, .ref qva, .ref qvr, .ref qvm, .ref qvt, .ref qvs], zzI cy qvw 8 (T_wo ((soG 1 tA 0).1)), zzI cy qvn 8 (T_ne ((soG 1 tA 0).1)), zzI cy qvg 8 (T_go ((soG 1 tA 0).1)), zzI cy qva 8 (T_ag ((soG 1 tA 0).1)), zzI cy qvr 8 (T_re ((soG 1 tA 0).1)), zzI cy qvm 8 (T_me ((soG 1 tA 0).1)), zzI cy qvt 8 (T_te ((soG 1 tA 0).1)), zzI cy qvs 64 (shF (T_kn ((soG 1 tA 0).1))), zzO qt 3 [.int (nI (T_nb tA)), .int (nI (T_np tA)), .int (wb (T_wh tA)), .int (wb (T_gn tA)), .int (T_sd tA), .ref qtw, .ref qtn, .ref qtg, .ref qta, .ref qtr, .ref qtm, .ref qtt, .ref qts], zzI cy qtw 8 (T_wo tA), zzI cy qtn 8 (T_ne tA), zzI cy qtg 8 (T_go tA), zzI cy qta 8 (T_ag tA), zzI cy qtr 8 (T_re tA), zzI cy qtm 8 (T_me tA), zzI cy qtt 8 (T_te tA), zzI cy qts 64 (shF (T_kn tA))]) hx hb hr hlocks rfl (pSb hP [[false, false, false, false, false, false, false, false, false, true, true, true, true, true, true, true, true, true, true, true, true, true, true, true, true, true, true, true], [true, true, true, true, true, true, true, true, true]] rfl rfl) (dSb hD [[false, false, false, false, false, false, false, false, false, true, true, true, true, true, true, true, true, true, true, true, true, true, true, true, true, true, true, true], [true, true, true, true, true, true, true, true, true]] (by decide +kernel) rfl rfl) hS ⟨tX_15, ((soG 1 tA 0).1), by rw [fk_3 c_5 c_16], (by rw [fk_3 c_5 c_16])⟩ (g_172 bX0_findKeeping rfl)
    · refine lv_iconst (v := 0) hx hb (g_3 bX0_findKeeping rfl) (by decide +kernel) ?_
      exact endW (u := [zzO qp 0 [.ref qu, .ref qv, .int iL, .int ((zbw ((soG 1 tA 0).1) kB (kN - 1) ((zbw tA kB kN iBs).2)).2)], zzO qu 3 [.int (nI (T_nb tX_15)), .int (nI (T_np tX_15)), .int (wb (T_wh tX_15)), .int (wb (T_gn tX_15)), .int (T_sd tX_15), .ref quw, .ref qun, .ref qug, .ref qua, .ref qur, .ref qum, .ref qut, .ref qus], zzI cy quw 8 (T_wo tX_15), zzI cy qun 8 (T_ne tX_15), zzI cy qug 8 (T_go tX_15), zzI cy qua 8 (T_ag tX_15), zzI cy qur 8 (T_re tX_15), zzI cy qum 8 (T_me tX_15), zzI cy qut 8 (T_te tX_15), zzI cy qus 64 (shF (T_kn tX_15)), zzO qv 3 [.int (nI (T_nb ((soG 1 tA 0).1))), .int (nI (T_np ((soG 1 tA 0).1))), .int (wb (T_wh ((soG 1 tA 0).1))), .int (wb (T_gn ((soG 1 tA 0).1))), .int (T_sd ((soG 1 tA 0).1)), .ref qvw, .ref qvn, .ref qvg, .ref qva, .ref qvr, .ref qvm, .ref qvt, .ref qvs], zzI cy qvw 8 (T_wo ((soG 1 tA 0).1)), zzI cy qvn 8 (T_ne ((soG 1 tA 0).1)), zzI cy qvg 8 (T_go ((soG 1 tA 0).1)), zzI cy qva 8 (T_ag ((soG 1 tA 0).1)), zzI cy qvr 8 (T_re ((soG 1 tA 0).1)), zzI cy qvm 8 (T_me ((soG 1 tA 0).1)), zzI cy qvt 8 (T_te ((soG 1 tA 0).1)), zzI cy qvs 64 (shF (T_kn ((soG 1 tA 0).1))), zzO qt 3 [.int (nI (T_nb tA)), .int (nI (T_np tA)), .int (wb (T_wh tA)), .int (wb (T_gn tA)), .int (T_sd tA), .ref qtw, .ref qtn, .ref qtg, .ref qta, .ref qtr, .ref qtm, .ref qtt, .ref qts], zzI cy qtw 8 (T_wo tA), zzI cy qtn 8 (T_ne tA), zzI cy qtg 8 (T_go tA), zzI cy qta 8 (T_ag tA), zzI cy qtr 8 (T_re tA), zzI cy qtm 8 (T_me tA), zzI cy qtt 8 (T_te tA), zzI cy qts 64 (shF (T_kn tA))]) hx hb hr hlocks rfl (pSb hP [[false, false, false, false, false, false, false, false, false, true, true, true, true, true, true, true, true, true, true, true, true, true, true, true, true, true, true, true], [true, true, true, true, true, true, true, true, true]] rfl rfl) (dSb hD [[false, false, false, false, false, false, false, false, false, true, true, true, true, true, true, true, true, true, true, true, true, true, true, true, true, true, true, true], [true, true, true, true, true, true, true, true, true]] (by decide +kernel) rfl rfl) hS ⟨tX_15, ((soG 1 tA 0).1), by rw [fk_2 c_5 c_16], (by rw [fk_2 c_5 c_16])⟩ (g_172 bX0_findKeeping rfl)
  · refine lv_iconst (v := 0) hx hb (g_3 bX0_findKeeping rfl) (by decide +kernel) ?_
    exact endW (u := [zzO qp 0 [.ref qu, .ref qv, .int iL, .int ((zbw tA kB kN iBs).2)], zzO qu 3 [.int (nI (T_nb tX_4)), .int (nI (T_np tX_4)), .int (wb (T_wh tX_4)), .int (wb (T_gn tX_4)), .int (T_sd tX_4), .ref quw, .ref qun, .ref qug, .ref qua, .ref qur, .ref qum, .ref qut, .ref qus], zzI cy quw 8 (T_wo tX_4), zzI cy qun 8 (T_ne tX_4), zzI cy qug 8 (T_go tX_4), zzI cy qua 8 (T_ag tX_4), zzI cy qur 8 (T_re tX_4), zzI cy qum 8 (T_me tX_4), zzI cy qut 8 (T_te tX_4), zzI cy qus 64 (shF (T_kn tX_4)), zzO qv 3 [.int (nI (T_nb tV)), .int (nI (T_np tV)), .int (wb (T_wh tV)), .int (wb (T_gn tV)), .int (T_sd tV), .ref qvw, .ref qvn, .ref qvg, .ref qva, .ref qvr, .ref qvm, .ref qvt, .ref qvs], zzI cy qvw 8 (T_wo tV), zzI cy qvn 8 (T_ne tV), zzI cy qvg 8 (T_go tV), zzI cy qva 8 (T_ag tV), zzI cy qvr 8 (T_re tV), zzI cy qvm 8 (T_me tV), zzI cy qvt 8 (T_te tV), zzI cy qvs 64 (shF (T_kn tV)), zzO qt 3 [.int (nI (T_nb tA)), .int (nI (T_np tA)), .int (wb (T_wh tA)), .int (wb (T_gn tA)), .int (T_sd tA), .ref qtw, .ref qtn, .ref qtg, .ref qta, .ref qtr, .ref qtm, .ref qtt, .ref qts], zzI cy qtw 8 (T_wo tA), zzI cy qtn 8 (T_ne tA), zzI cy qtg 8 (T_go tA), zzI cy qta 8 (T_ag tA), zzI cy qtr 8 (T_re tA), zzI cy qtm 8 (T_me tA), zzI cy qtt 8 (T_te tA), zzI cy qts 64 (shF (T_kn tA))]) hx hb hr hlocks rfl (pSb hP [[false, false, false, false, false, false, false, false, false, true, true, true, true, true, true, true, true, true, true], [true, true, true, true, true, true, true, true, true, false, false, false, false, false, false, false, false, false, false, true, true, true, true, true, true, true, true, true]] rfl rfl) (dSb hD [[false, false, false, false, false, false, false, false, false, true, true, true, true, true, true, true, true, true, true], [true, true, true, true, true, true, true, true, true, false, false, false, false, false, false, false, false, false, false, true, true, true, true, true, true, true, true, true]] (by decide +kernel) rfl rfl) hS ⟨tX_4, tV, by rw [fk_1 c_5], (by rw [fk_1 c_5])⟩ (g_172 bX0_findKeeping rfl)
end
section
/-! shelves -/
noncomputable def Rw (x : Int32) : Prop := ¬ x < 0 ∧ ¬ 4 < x
theorem ix40 {s i : Nat} : nI s * 40 + nI i = nI (s * 40 + i) := by
  rw [show (40 : Int32) = nI 40 from rfl, pk_mul, nI_add]
theorem in320 {s i : Nat} (hs : s < 8) (hi : i < 40) : vp_in (nI s * 40 + nI i) 320 := by
  rw [ix40]
  exact vp_in_nI (by omega) (by omega)
theorem cl320 {s i : Nat} (hs : s < 8) (hi : i < 40) : (nI s * 40 + nI i).toNatClampNeg = s * 40 + i := by
  rw [ix40]
  exact nI_clamp (by omega)
theorem cl320' {s i : Nat} (hs : s < 8) (hi : i ≤ 40) : (nI s * 40 + nI i).toNatClampNeg = s * 40 + i := by
  rw [ix40]
  exact nI_clamp (by omega)
noncomputable def zrF (g : Nat → Int64) (s : Nat) : Nat → Nat → Int64
  | 0 => g
  | n + 1 => vp_updL (zrF g s n) (s * 40 + n) 0
noncomputable def zlb (sort : Int32) (v : Int64) : Int64 := if sort = 0 then v.toInt32.toInt8.toInt32.toInt64 else if sort = 1 then v.toInt32.toInt16.toInt32.toInt64 else if sort = 2 then v.toInt32.toInt64 else if sort = 4 then (if lg_cmp v 0 = 0 then 0 else 1) else v
theorem lb_d {x : Int32} (h : x.toInt < 0 ∨ 4 < x.toInt) (v : Int64) : zlb x v = v := by
  have n : ∀ c : Int32, 0 ≤ c.toInt → c.toInt ≤ 4 → ¬ x = c := fun c h1 h2 e => by subst e; omega
  exact (if_neg (n 0 (by decide +kernel) (by decide +kernel))).trans ((if_neg (n 1 (by decide +kernel) (by decide +kernel))).trans ((if_neg (n 2 (by decide +kernel) (by decide +kernel))).trans (if_neg (n 4 (by decide +kernel) (by decide +kernel)))))
noncomputable def Spn (i n z : Int32) : Prop := ¬ i < 0 ∧ ¬ n < 0 ∧ ¬ 0 < lg_cmp (i.toInt64 + n.toInt64) z.toInt64
theorem nI_of7' {x : Int32} (h : Iv x.toInt64 0 7) : ∃ k : Nat, k < 8 ∧ x = nI k := by
  obtain ⟨k, h1, h2⟩ := nI_of7 h
  exact ⟨k, by omega, h2⟩
theorem no_of7 {x : Int32} (h : ¬ Iv x.toInt64 0 7) : ¬ ∃ k : Nat, k < 8 ∧ x = nI k := fun ⟨k, h1, h2⟩ => h (by
  subst h2
  refine ofI (m := 0) (n := 7) (by decide +kernel) (by decide +kernel) ⟨?_, ?_⟩ <;> rw [nI_toInt (by omega)] <;> omega)
theorem sz_in {x z : Int32} {n : Nat} (hz : z = nI n) (hn : n ≤ 40) (h : Iv x.toInt64 0 (z - 1).toInt64) : ∃ k : Nat, k < n ∧ x = nI k := by
  subst hz
  have e : (nI n - 1).toInt = (n : Int) - 1 := by
    rw [show (1 : Int32) = nI 1 from rfl, pk_sub_toInt (by omega) (by omega)]
    rfl
  have h1 := toI h (m := 0) (n := (n : Int) - 1) (by decide +kernel) (by rw [Int32.toInt_toInt64]; exact e)
  obtain ⟨k, hk, rfl⟩ := nI_of (x := x) (by rw [Int32.lt_iff_toInt_lt]; exact Int.not_lt.mpr h1.1)
  refine ⟨k, ?_, rfl⟩
  rw [nI_toInt hk] at h1
  omega
theorem spn_of {i n z : Int32} {m : Nat} (hz : z = nI m) (hm : m ≤ 40) (h : Spn i n z) : ∃ a b : Nat, a + b ≤ m ∧ i = nI a ∧ n = nI b := by
  subst hz
  obtain ⟨h1, h2, h3⟩ := h
  obtain ⟨a, ha, rfl⟩ := nI_of h1
  obtain ⟨b, hb, rfl⟩ := nI_of h2
  refine ⟨a, b, ?_, rfl, rfl⟩
  have h4 := (lg_cmp_le _ _).mp (Int32.not_lt.mp h3)
  rw [Int64.le_iff_toInt_le, Int32.toInt_toInt64, nI_toInt (by omega)] at h4
  have h5 : ((nI a).toInt64 + (nI b).toInt64).toInt = (a : Int) + b := by
    rw [Int64.toInt_add, Int32.toInt_toInt64, Int32.toInt_toInt64, nI_toInt ha, nI_toInt hb]
    rw [Int.bmod_def]
    omega
  omega
end
section
set_option maxHeartbeats 4000000 in
set_option maxRecDepth 100000 in
theorem c_X2_hasRow (l : Launch) (G : va_G) (cy : Nat → ClassId) (qs : Nat) (qsh : Nat) (qss : Nat) (qsa : Nat) (qse : Nat) (fH : Nat → Int32) (kS : Nat)  (hS8 : kS < 8) : MR l yX2_hasRow cX2_hasRow 2 (some .boolean) 1 G cy [zzO qs 1 [.ref qsh, .ref qss, .ref qsa, .ref qse], zzI cy qsh 8 fH] [.ref qs, .int (nI kS)] (vp_Si (fun r => (r = 1 ∧ Rw (fH kS)) ∨ (r = 0 ∧ ¬ Rw (fH kS)))) := by
  refine enR RX2 (by decide +kernel) rfl (Nat.le_of_ble_eq_true rfl) (fun p e s m below meth c ls hx hb hml hown hts hr hlocks hP hN hl => ?_)
  have hK := hN.1
  replace hl : lv_has ls 2 [(0, .ref qs), (1, .int (nI kS))] := hl
  refine lv_aload_n hx hb (g_42 bX2_hasRow rfl) rfl (lv_at hl 0 rfl) ?_
  refine va_get (D := G) (ci := 1) (v := .ref qsh) (C := RX2) (T := TX2) (N := 4) hx hb hts iX_X2 hown hK hP 0 rfl rfl 0 (by decide +kernel) (hts _ m_t123) (fun _ h9 => h9) rfl (g_180 (v := 9) bX2_hasRow rfl) ?_
  refine lv_iload_n hx hb (g_27 bX2_hasRow rfl) rfl (lv_at hl 1 rfl) ?_
  refine va_iald hx hb hK hP 1 0 rfl rfl (in8 (by omega)) (g_46 bX2_hasRow rfl) ?_
  refine lv_seti (v := fH kS) (congrArg fH (cl8 (by omega))) ?_
  refine lv_if_lt (tgt := 23) hx hb dX2_hasRow_6 (by decide +kernel) (fun c_1 => ?_) (fun c_1 => ?_)
  · refine lv_iconst (v := 0) hx hb (g_3 bX2_hasRow rfl) (by decide +kernel) ?_
    exact endR hx hb hr hlocks rfl (Or.inr (⟨rfl, (fun q => q.1 c_1)⟩)) (g_172 bX2_hasRow rfl)
  · refine lv_aload_n hx hb (g_42 bX2_hasRow rfl) rfl (lv_at hl 0 rfl) ?_
    refine va_get (D := G) (ci := 1) (v := .ref qsh) (C := RX2) (T := TX2) (N := 4) hx hb hts iX_X2 hown hK hP 0 rfl rfl 0 (by decide +kernel) (hts _ m_t123) (fun _ h9 => h9) rfl (g_180 (v := 9) bX2_hasRow rfl) ?_
    refine lv_iload_n hx hb (g_27 bX2_hasRow rfl) rfl (lv_at hl 1 rfl) ?_
    refine va_iald hx hb hK hP 1 0 rfl rfl (in8 (by omega)) (g_46 bX2_hasRow rfl) ?_
    refine lv_seti (v := fH kS) (congrArg fH (cl8 (by omega))) ?_
    refine lv_iconst (v := 4) hx hb (g_7 bX2_hasRow rfl) (by decide +kernel) ?_
    refine lv_icmp_gt (tgt := 23) hx hb dX2_hasRow_16 (by decide +kernel) (fun c_2 => ?_) (fun c_2 => ?_)
    · refine lv_iconst (v := 0) hx hb (g_3 bX2_hasRow rfl) (by decide +kernel) ?_
      exact endR hx hb hr hlocks rfl (Or.inr (⟨rfl, (fun q => q.2 c_2)⟩)) (g_172 bX2_hasRow rfl)
    · refine lv_iconst (v := 1) hx hb (g_4 bX2_hasRow rfl) (by decide +kernel) ?_
      refine lv_goto (tgt := 24) hx hb dX2_hasRow_20 (by decide +kernel) ?_
      exact endR hx hb hr hlocks rfl (Or.inl (⟨rfl, ⟨c_1, c_2⟩⟩)) (g_172 bX2_hasRow rfl)
set_option maxHeartbeats 4000000 in
set_option maxRecDepth 100000 in
theorem c_X2_hasRule (l : Launch) (G : va_G) (cy : Nat → ClassId) (qs : Nat) (qsh : Nat) (qss : Nat) (qsa : Nat) (qse : Nat) (fH : Nat → Int32) (kS : Nat)  (hS8 : kS < 8) : MR l yX2_hasRule cX2_hasRule 2 (some .boolean) 1 G cy [zzO qs 1 [.ref qsh, .ref qss, .ref qsa, .ref qse], zzI cy qsh 8 fH] [.ref qs, .int (nI kS)] (vp_Si (fun r => (r = 1 ∧ 10 ≤ fH kS) ∨ (r = 0 ∧ ¬ 10 ≤ fH kS))) := by
  refine enR RX2 (by decide +kernel) rfl (Nat.le_of_ble_eq_true rfl) (fun p e s m below meth c ls hx hb hml hown hts hr hlocks hP hN hl => ?_)
  have hK := hN.1
  replace hl : lv_has ls 2 [(0, .ref qs), (1, .int (nI kS))] := hl
  refine lv_aload_n hx hb (g_42 bX2_hasRule rfl) rfl (lv_at hl 0 rfl) ?_
  refine va_get (D := G) (ci := 1) (v := .ref qsh) (C := RX2) (T := TX2) (N := 4) hx hb hts iX_X2 hown hK hP 0 rfl rfl 0 (by decide +kernel) (hts _ m_t123) (fun _ h9 => h9) rfl (g_180 (v := 9) bX2_hasRule rfl) ?_
  refine lv_iload_n hx hb (g_27 bX2_hasRule rfl) rfl (lv_at hl 1 rfl) ?_
  refine va_iald hx hb hK hP 1 0 rfl rfl (in8 (by omega)) (g_46 bX2_hasRule rfl) ?_
  refine lv_seti (v := fH kS) (congrArg fH (cl8 (by omega))) ?_
  refine lv_bipush (v := 10) hx hb dX2_hasRule_6 (by decide +kernel) ?_
  refine lv_icmp_lt (tgt := 15) hx hb dX2_hasRule_8 (by decide +kernel) (fun c_1 => ?_) (fun c_1 => ?_)
  · refine lv_iconst (v := 0) hx hb (g_3 bX2_hasRule rfl) (by decide +kernel) ?_
    exact endR hx hb hr hlocks rfl (Or.inr (⟨rfl, Int32.not_le.mpr c_1⟩)) (g_172 bX2_hasRule rfl)
  · refine lv_iconst (v := 1) hx hb (g_4 bX2_hasRule rfl) (by decide +kernel) ?_
    refine lv_goto (tgt := 16) hx hb dX2_hasRule_12 (by decide +kernel) ?_
    exact endR hx hb hr hlocks rfl (Or.inl (⟨rfl, Int32.not_lt.mp c_1⟩)) (g_172 bX2_hasRule rfl)
set_option maxHeartbeats 4000000 in
set_option maxRecDepth 100000 in
theorem c_X2_kindIn (l : Launch) (G : va_G) (cy : Nat → ClassId) (qs : Nat) (qsh : Nat) (qss : Nat) (qsa : Nat) (qse : Nat) (fH : Nat → Int32) (kS : Nat)  (hS8 : kS < 8) : MR l yX2_kindIn cX2_kindIn 2 (some .int) 1 G cy [zzO qs 1 [.ref qsh, .ref qss, .ref qsa, .ref qse], zzI cy qsh 8 fH] [.ref qs, .int (nI kS)] (vp_Si (fun r => (r = ((fH kS) - 10)))) := by
  refine enR RX2 (by decide +kernel) rfl (Nat.le_of_ble_eq_true rfl) (fun p e s m below meth c ls hx hb hml hown hts hr hlocks hP hN hl => ?_)
  have hK := hN.1
  replace hl : lv_has ls 2 [(0, .ref qs), (1, .int (nI kS))] := hl
  refine lv_aload_n hx hb (g_42 bX2_kindIn rfl) rfl (lv_at hl 0 rfl) ?_
  refine va_get (D := G) (ci := 1) (v := .ref qsh) (C := RX2) (T := TX2) (N := 4) hx hb hts iX_X2 hown hK hP 0 rfl rfl 0 (by decide +kernel) (hts _ m_t123) (fun _ h9 => h9) rfl (g_180 (v := 9) bX2_kindIn rfl) ?_
  refine lv_iload_n hx hb (g_27 bX2_kindIn rfl) rfl (lv_at hl 1 rfl) ?_
  refine va_iald hx hb hK hP 1 0 rfl rfl (in8 (by omega)) (g_46 bX2_kindIn rfl) ?_
  refine lv_seti (v := fH kS) (congrArg fH (cl8 (by omega))) ?_
  refine lv_bipush (v := 10) hx hb dX2_kindIn_6 (by decide +kernel) ?_
  refine lv_isub hx hb (g_100 bX2_kindIn rfl) ?_
  exact endR hx hb hr hlocks rfl rfl (g_172 bX2_kindIn rfl)
set_option maxHeartbeats 4000000 in
set_option maxRecDepth 100000 in
theorem c_X2_countHolding (l : Launch) (G : va_G) (cy : Nat → ClassId) (qs : Nat) (qsh : Nat) (qss : Nat) (qsa : Nat) (qse : Nat) (fH : Nat → Int32)   : MR l yX2_countHolding cX2_countHolding 3 (some .int) 1 G cy [zzO qs 1 [.ref qsh, .ref qss, .ref qsa, .ref qse], zzI cy qsh 8 fH] [.ref qs] (vp_Si (fun r => True)) := by
  refine enR RX2 (by decide +kernel) rfl (Nat.le_of_ble_eq_true rfl) (fun p e s m below meth c ls hx hb hml hown hts hr hlocks hP hN hl => ?_)
  have hK := hN.1
  replace hl : lv_has ls 3 [(0, .ref qs)] := hl
  refine lv_iconst (v := 0) hx hb (g_3 bX2_countHolding rfl) (by decide +kernel) ?_
  refine lv_istore_n (lv' := [(1, .int 0), (0, .ref qs)]) hx hb (g_60 bX2_countHolding rfl) rfl hl (by decide +kernel) rfl (fun ls => ?_)
  clear hl
  intro hl
  refine lv_iconst (v := 0) hx hb (g_3 bX2_countHolding rfl) (by decide +kernel) ?_
  refine lv_istore_n (lv' := [(2, .int 0), (1, .int 0), (0, .ref qs)]) hx hb (g_61 bX2_countHolding rfl) rfl hl (by decide +kernel) rfl (fun ls => ?_)
  clear hl
  intro hl
  have lp_1 : ∀ (n_2 : Nat) (j_4 : Nat) (xC_5 : Int32), 8 - j_4 < n_2 → j_4 ≤ 8 → ∀ (ls : Array Slot), lv_has ls 3 [(2, .int (nI j_4)), (1, .int xC_5), (0, .ref qs)] → W p l e (Rm 1 0 0) s m (List.toArray (α := Value) [.ref qs]) below meth c s.heap [] 0 0 (MQ below (vp_Si (fun r => True)) (List.toArray (α := Value) [.ref qs]) s 0 0 (fun _ => False)) (F0 m 4 ls []) := by
    intro n_2
    induction n_2 with
    | zero => intro j_4 xC_5 hm9; exact absurd hm9 (Nat.not_lt_zero _)
    | succ n_2 ih_3 =>
      intro j_4 xC_5 hm_7 hj_6 ls hl
      refine lv_iload_n hx hb (g_28 bX2_countHolding rfl) rfl (lv_at hl 0 rfl) ?_
      refine lv_bipush (v := 8) hx hb dX2_countHolding_5 (by decide +kernel) ?_
      refine lv_icmp_ge (tgt := 29) hx hb dX2_countHolding_7 (by decide +kernel) (fun c_8 => ?_) (fun c_8 => ?_)
      · have hlt_9 : j_4 = 8 := Nat.le_antisymm (by omega) (lp_ge rfl (rfl : (8 : Int32) = nI 8) (by omega) (by omega) c_8)
        refine lv_iload_n hx hb (g_27 bX2_countHolding rfl) rfl (lv_at hl 1 rfl) ?_
        exact endR hx hb hr hlocks rfl trivial (g_172 bX2_countHolding rfl)
      · have hlt_10 : j_4 < 8 := lp_lt rfl (rfl : (8 : Int32) = nI 8) (by omega) (by omega) c_8
        refine lv_aload_n hx hb (g_42 bX2_countHolding rfl) rfl (lv_at hl 2 rfl) ?_
        refine va_get (D := G) (ci := 1) (v := .ref qsh) (C := RX2) (T := TX2) (N := 4) hx hb hts iX_X2 hown hK hP 0 rfl rfl 0 (by decide +kernel) (hts _ m_t123) (fun _ h9 => h9) rfl (g_180 (v := 9) bX2_countHolding rfl) ?_
        refine lv_iload_n hx hb (g_28 bX2_countHolding rfl) rfl (lv_at hl 0 rfl) ?_
        refine va_iald hx hb hK hP 1 0 rfl rfl (in8 (by omega)) (g_46 bX2_countHolding rfl) ?_
        refine lv_seti (v := fH j_4) (congrArg fH (cl8 (by omega))) ?_
        refine lv_iconst (v := (-1)) hx hb (g_2 bX2_countHolding rfl) (by decide +kernel) ?_
        refine lv_icmp_eq (tgt := 23) hx hb dX2_countHolding_17 (by decide +kernel) (fun c_11 => ?_) (fun c_11 => ?_)
        · refine lv_iinc (v := nI (j_4 + 1)) (lv' := [(2, .int (nI (j_4 + 1))), (1, .int xC_5), (0, .ref qs)]) hx hb dX2_countHolding_23 hl (k := 0) rfl (nI_1 _) (by decide +kernel) rfl (fun ls => ?_)
          clear hl
          intro hl
          refine lv_goto (tgt := 4) hx hb dX2_countHolding_26 (by decide +kernel) ?_
          exact ih_3 (j_4 + 1) xC_5 (by omega) (by omega) _ (lv_sub hl [0, 1, 2] rfl)
        · refine lv_iinc (v := xC_5 + 1) (lv' := [(1, .int (xC_5 + 1)), (2, .int (nI j_4)), (0, .ref qs)]) hx hb dX2_countHolding_20 hl (k := 1) rfl (rfl) (by decide +kernel) rfl (fun ls => ?_)
          clear hl
          intro hl
          refine lv_iinc (v := nI (j_4 + 1)) (lv' := [(2, .int (nI (j_4 + 1))), (1, .int (xC_5 + 1)), (0, .ref qs)]) hx hb dX2_countHolding_23 hl (k := 1) rfl (nI_1 _) (by decide +kernel) rfl (fun ls => ?_)
          clear hl
          intro hl
          refine lv_goto (tgt := 4) hx hb dX2_countHolding_26 (by decide +kernel) ?_
          exact ih_3 (j_4 + 1) (xC_5 + 1) (by omega) (by omega) _ (lv_sub hl [0, 1, 2] rfl)
  exact lp_1 ((8 - 0) + 1) 0 0 (Nat.lt_succ_self _) (Nat.zero_le _) ls (lv_sub hl [0, 1, 2] rfl)
set_option maxHeartbeats 4000000 in
set_option maxRecDepth 100000 in
theorem c_X2_putRule (l : Launch) (G : va_G) (cy : Nat → ClassId) (sz : Nat) (qs : Nat) (qsh : Nat) (qss : Nat) (qsa : Nat) (qse : Nat) (fH : Nat → Int32) (fA : Nat → Int32) (kS : Nat) (iB : Int32) (iC : Int32)  (hS8 : kS < 8) : MW l yX2_putRule cX2_putRule 4 none 1 0 0 G cy [zzO qs 1 [.ref qsh, .ref qss, .ref qsa, .ref qse], zzI cy qsh 8 fH, zzI cy qsa 8 fA] sz [.ref qs, .int (nI kS), .int iB, .int iC] (Wv G (fun u => u = [zzO qs 1 [.ref qsh, .ref qss, .ref qsa, .ref qse], zzI cy qsh 8 (upd fH kS (10 + iB)), zzI cy qsa 8 (upd fA kS iC)])) := by
  refine enW RX2 (by decide +kernel) rfl (Nat.le_of_ble_eq_true rfl) (fun p e s m below meth c ls A hx hb hml hown hts hr hlocks hP hN hl hin hD hA hS => ?_)
  have hin : meth.name = _ := hin
  have hK := hN.1
  replace hl : lv_has ls 4 [(0, .ref qs), (1, .int (nI kS)), (2, .int iB), (3, .int iC)] := hl
  refine lv_aload_n hx hb (g_42 bX2_putRule rfl) rfl (lv_at hl 0 rfl) ?_
  refine va_get (D := G) (ci := 1) (v := .ref qsh) (C := RX2) (T := TX2) (N := 4) hx hb hts iX_X2 hown hK hP 0 rfl rfl 0 (by decide +kernel) (hts _ m_t123) (fun _ h9 => h9) rfl (g_180 (v := 9) bX2_putRule rfl) ?_
  refine lv_iload_n hx hb (g_27 bX2_putRule rfl) rfl (lv_at hl 1 rfl) ?_
  refine lv_bipush (v := 10) hx hb dX2_putRule_5 (by decide +kernel) ?_
  refine lv_iload_n hx hb (g_28 bX2_putRule rfl) rfl (lv_at hl 2 rfl) ?_
  refine lv_iadd hx hb (g_96 bX2_putRule rfl) ?_
  refine va_iast hx hb hK hP hD hS 1 0 rfl rfl (in8 (by omega)) (g_79 bX2_putRule rfl) (fun H locs => ?_)
  clear hP hD hS
  intro hP hD hS
  rw [cl8 (k := kS) (by omega)] at hP hD
  have hPD := pd_as [_, _, _] hP hD rfl
  clear hP hD
  obtain ⟨hP, hD⟩ := hPD
  refine lv_aload_n hx hb (g_42 bX2_putRule rfl) rfl (lv_at hl 0 rfl) ?_
  refine va_get (D := G) (ci := 1) (v := .ref qsa) (C := RX2) (T := TX2) (N := 4) hx hb hts iX_X2 hown hK hP 0 rfl rfl 2 (by decide +kernel) (hts _ m_t127) (fun _ h9 => h9) rfl (g_180 (v := 18) bX2_putRule rfl) ?_
  refine lv_iload_n hx hb (g_27 bX2_putRule rfl) rfl (lv_at hl 1 rfl) ?_
  refine lv_iload_n hx hb (g_29 bX2_putRule rfl) rfl (lv_at hl 3 rfl) ?_
  refine va_iast hx hb hK hP hD hS 2 0 rfl rfl (in8 (by omega)) (g_79 bX2_putRule rfl) (fun H locs => ?_)
  clear hP hD hS
  intro hP hD hS
  rw [cl8 (k := kS) (by omega)] at hP hD
  have hPD := pd_as [_, _, _] hP hD rfl
  clear hP hD
  obtain ⟨hP, hD⟩ := hPD
  exact endVs [[true, true, true]] hx hb hr hlocks hP hD rfl (by decide +kernel) hS rfl (g_177 bX2_putRule rfl)
set_option maxHeartbeats 4000000 in
set_option maxRecDepth 100000 in
theorem c_X2_putRow (l : Launch) (G : va_G) (cy : Nat → ClassId) (sz : Nat) (qs : Nat) (qsh : Nat) (qss : Nat) (qsa : Nat) (qse : Nat) (fH : Nat → Int32) (fS : Nat → Int32) (gE : Nat → Int64) (kS : Nat) (iB : Int32) (kN : Nat)  (hS8 : kS < 8) (hN40 : kN ≤ 40) : MW l yX2_putRow cX2_putRow 5 none 1 0 0 G cy [zzO qs 1 [.ref qsh, .ref qss, .ref qsa, .ref qse], zzI cy qsh 8 fH, zzI cy qss 8 fS, zzJ cy qse 320 gE] sz [.ref qs, .int (nI kS), .int iB, .int (nI kN)] (Wv G (fun u => u = [zzO qs 1 [.ref qsh, .ref qss, .ref qsa, .ref qse], zzI cy qsh 8 (upd fH kS iB), zzI cy qss 8 (upd fS kS (nI kN)), zzJ cy qse 320 (zrF gE kS kN)])) := by
  refine enW RX2 (by decide +kernel) rfl (Nat.le_of_ble_eq_true rfl) (fun p e s m below meth c ls A hx hb hml hown hts hr hlocks hP hN hl hin hD hA hS => ?_)
  have hin : meth.name = _ := hin
  have hK := hN.1
  replace hl : lv_has ls 5 [(0, .ref qs), (1, .int (nI kS)), (2, .int iB), (3, .int (nI kN))] := hl
  refine lv_aload_n hx hb (g_42 bX2_putRow rfl) rfl (lv_at hl 0 rfl) ?_
  refine va_get (D := G) (ci := 1) (v := .ref qsh) (C := RX2) (T := TX2) (N := 4) hx hb hts iX_X2 hown hK hP 0 rfl rfl 0 (by decide +kernel) (hts _ m_t123) (fun _ h9 => h9) rfl (g_180 (v := 9) bX2_putRow rfl) ?_
  refine lv_iload_n hx hb (g_27 bX2_putRow rfl) rfl (lv_at hl 1 rfl) ?_
  refine lv_iload_n hx hb (g_28 bX2_putRow rfl) rfl (lv_at hl 2 rfl) ?_
  refine va_iast hx hb hK hP hD hS 1 0 rfl rfl (in8 (by omega)) (g_79 bX2_putRow rfl) (fun H locs => ?_)
  clear hP hD hS
  intro hP hD hS
  rw [cl8 (k := kS) (by omega)] at hP hD
  have hPD := pd_as [_, _, _, _] hP hD rfl
  clear hP hD
  obtain ⟨hP, hD⟩ := hPD
  refine lv_aload_n hx hb (g_42 bX2_putRow rfl) rfl (lv_at hl 0 rfl) ?_
  refine va_get (D := G) (ci := 1) (v := .ref qss) (C := RX2) (T := TX2) (N := 4) hx hb hts iX_X2 hown hK hP 0 rfl rfl 1 (by decide +kernel) (hts _ m_t125) (fun _ h9 => h9) rfl (g_180 (v := 15) bX2_putRow rfl) ?_
  refine lv_iload_n hx hb (g_27 bX2_putRow rfl) rfl (lv_at hl 1 rfl) ?_
  refine lv_iload_n hx hb (g_29 bX2_putRow rfl) rfl (lv_at hl 3 rfl) ?_
  refine va_iast hx hb hK hP hD hS 2 0 rfl rfl (in8 (by omega)) (g_79 bX2_putRow rfl) (fun H locs => ?_)
  clear hP hD hS
  intro hP hD hS
  rw [cl8 (k := kS) (by omega)] at hP hD
  have hPD := pd_as [_, _, _, _] hP hD rfl
  clear hP hD
  obtain ⟨hP, hD⟩ := hPD
  refine lv_iconst (v := 0) hx hb (g_3 bX2_putRow rfl) (by decide +kernel) ?_
  refine lv_istore (lv' := [(4, .int 0), (0, .ref qs), (1, .int (nI kS)), (2, .int iB), (3, .int (nI kN))]) hx hb (g_54 (v := 4) bX2_putRow rfl) hl (by decide +kernel) rfl (fun ls => ?_)
  clear hl
  intro hl
  have lp_1 : ∀ (n_2 : Nat) (j_4 : Nat) (gJ_5 : Nat → Int64), 40 - j_4 < n_2 → j_4 ≤ kN → gJ_5 = zrF gE kS j_4 → ∀ (H : Heap) (locs : List Loc) (ls : Array Slot), va_P G CL [zzO qs 1 [.ref qsh, .ref qss, .ref qsa, .ref qse], zzI cy qsh 8 (upd fH kS iB), zzI cy qss 8 (upd fS kS (nI kN)), zzJ cy qse 320 gJ_5] H → va_D A [zzO qs 1 [.ref qsh, .ref qss, .ref qsa, .ref qse], zzI cy qsh 8 (upd fH kS iB), zzI cy qss 8 (upd fS kS (nI kN)), zzJ cy qse 320 gJ_5] → va_S A s.heap H locs → lv_has ls 5 [(4, .int (nI j_4)), (0, .ref qs), (1, .int (nI kS)), (2, .int iB), (3, .int (nI kN))] → W p l e (Rm 1 0 0) s m (List.toArray (α := Value) [.ref qs, .int (nI kS), .int iB, .int (nI kN)]) below meth c H locs 0 0 (MQ below ((Wv G (fun u => u = [zzO qs 1 [.ref qsh, .ref qss, .ref qsa, .ref qse], zzI cy qsh 8 (upd fH kS iB), zzI cy qss 8 (upd fS kS (nI kN)), zzJ cy qse 320 (zrF gE kS kN)])) A) (List.toArray (α := Value) [.ref qs, .int (nI kS), .int iB, .int (nI kN)]) s 0 0 A) (F0 m 17 ls []) := by
    intro n_2
    induction n_2 with
    | zero => intro j_4 gJ_5 hm9; exact absurd hm9 (Nat.not_lt_zero _)
    | succ n_2 ih_3 =>
      intro j_4 gJ_5 hm_8 hj_6 hgJ_7 H locs ls hP hD hS hl
      refine lv_iload hx hb (g_21 (v := 4) bX2_putRow rfl) (lv_at hl 0 rfl) ?_
      refine lv_iload_n hx hb (g_29 bX2_putRow rfl) rfl (lv_at hl 4 rfl) ?_
      refine lv_icmp_ge (tgt := 42) hx hb dX2_putRow_20 (by decide +kernel) (fun c_9 => ?_) (fun c_9 => ?_)
      · have hlt_10 : j_4 = kN := Nat.le_antisymm (by omega) (lp_ge rfl rfl (by omega) (by omega) c_9)
        have e9_11 : gJ_5 = zrF gE kS kN := by rw [hgJ_7, hlt_10]
        subst e9_11
        exact endVs [[true, true, true, true]] hx hb hr hlocks hP hD rfl (by decide +kernel) hS rfl (g_177 bX2_putRow rfl)
      · have hlt_12 : j_4 < kN := lp_lt rfl rfl (by omega) (by omega) c_9
        refine lv_aload_n hx hb (g_42 bX2_putRow rfl) rfl (lv_at hl 1 rfl) ?_
        refine va_get (D := G) (ci := 1) (v := .ref qse) (C := RX2) (T := TX2) (N := 4) hx hb hts iX_X2 hown hK hP 0 rfl rfl 3 (by decide +kernel) (hts _ m_t129) (fun _ h9 => h9) rfl (g_180 (v := 21) bX2_putRow rfl) ?_
        refine lv_iload_n hx hb (g_27 bX2_putRow rfl) rfl (lv_at hl 2 rfl) ?_
        refine lv_bipush (v := 40) hx hb dX2_putRow_28 (by decide +kernel) ?_
        refine lv_imul hx hb (g_104 bX2_putRow rfl) ?_
        refine lv_iload hx hb (g_21 (v := 4) bX2_putRow rfl) (lv_at hl 0 rfl) ?_
        refine lv_iadd hx hb (g_96 bX2_putRow rfl) ?_
        refine lv_lconst (v := 0) hx hb (g_9 bX2_putRow rfl) (by decide +kernel) ?_
        refine va_last hx hb hK hP hD hS 3 1 rfl rfl (in320 (by omega) (by omega)) (g_80 bX2_putRow rfl) (fun H locs => ?_)
        clear hP hD hS
        intro hP hD hS
        rw [cl320 (s := kS) (i := j_4) (by omega) (by omega)] at hP hD
        have hPD := pd_as [_, _, _, zzJ cy qse 320 (vp_updL gJ_5 (kS * 40 + j_4) 0)] hP hD rfl
        clear hP hD
        obtain ⟨hP, hD⟩ := hPD
        refine lv_iinc (v := nI (j_4 + 1)) (lv' := [(4, .int (nI (j_4 + 1))), (0, .ref qs), (1, .int (nI kS)), (2, .int iB), (3, .int (nI kN))]) hx hb dX2_putRow_36 hl (k := 0) rfl (nI_1 _) (by decide +kernel) rfl (fun ls => ?_)
        clear hl
        intro hl
        refine lv_goto (tgt := 17) hx hb dX2_putRow_39 (by decide +kernel) ?_
        exact ih_3 (j_4 + 1) (vp_updL gJ_5 (kS * 40 + j_4) 0) (by omega) (by omega) (by rw [hgJ_7]; rfl) _ _ _ hP hD hS (lv_sub hl [0, 1, 2, 3, 4] rfl)
  exact lp_1 ((40 - 0) + 1) 0 gE (Nat.lt_succ_self _) (Nat.zero_le _) rfl _ _ ls hP hD hS (lv_sub hl [0, 1, 2, 3, 4] rfl)
set_option maxHeartbeats 4000000 in
set_option maxRecDepth 100000 in
theorem c_X2_at (l : Launch) (G : va_G) (cy : Nat → ClassId) (qs : Nat) (qsh : Nat) (qss : Nat) (qsa : Nat) (qse : Nat) (gE : Nat → Int64) (kS : Nat) (kI : Nat)  (hS8 : kS < 8) (hI40 : kI < 40) : MR l yX2_at cX2_at 3 (some .long) 1 G cy [zzO qs 1 [.ref qsh, .ref qss, .ref qsa, .ref qse], zzJ cy qse 320 gE] [.ref qs, .int (nI kS), .int (nI kI)] (vp_Sl (fun r => (r = (gE (kS * 40 + kI))))) := by
  refine enR RX2 (by decide +kernel) rfl (Nat.le_of_ble_eq_true rfl) (fun p e s m below meth c ls hx hb hml hown hts hr hlocks hP hN hl => ?_)
  have hK := hN.1
  replace hl : lv_has ls 3 [(0, .ref qs), (1, .int (nI kS)), (2, .int (nI kI))] := hl
  refine lv_aload_n hx hb (g_42 bX2_at rfl) rfl (lv_at hl 0 rfl) ?_
  refine va_get (D := G) (ci := 1) (v := .ref qse) (C := RX2) (T := TX2) (N := 4) hx hb hts iX_X2 hown hK hP 0 rfl rfl 3 (by decide +kernel) (hts _ m_t129) (fun _ h9 => h9) rfl (g_180 (v := 21) bX2_at rfl) ?_
  refine lv_iload_n hx hb (g_27 bX2_at rfl) rfl (lv_at hl 1 rfl) ?_
  refine lv_bipush (v := 40) hx hb dX2_at_5 (by decide +kernel) ?_
  refine lv_imul hx hb (g_104 bX2_at rfl) ?_
  refine lv_iload_n hx hb (g_28 bX2_at rfl) rfl (lv_at hl 2 rfl) ?_
  refine lv_iadd hx hb (g_96 bX2_at rfl) ?_
  refine va_lald hx hb hK hP 1 1 rfl rfl (in320 (by omega) (by omega)) (g_47 bX2_at rfl) ?_
  refine lv_setl (v := gE (kS * 40 + kI)) (congrArg gE (cl320 (by omega) (by omega))) ?_
  exact endRl hx hb hr hlocks rfl (g_173 bX2_at rfl)
set_option maxHeartbeats 4000000 in
set_option maxRecDepth 100000 in
theorem c_X2_lowestBits (l : Launch) (G : va_G) (cy : Nat → ClassId) (iA : Int32) (J1 : Int64)   : MR l yX2_lowestBits cX2_lowestBits 3 (some .long) 1 G cy [] [.int iA, .long J1] (vp_Sl (fun r => (r = (zlb iA J1)))) := by
  refine enR RX2 (by decide +kernel) rfl (Nat.le_of_ble_eq_true rfl) (fun p e s m below meth c ls hx hb hml hown hts hr hlocks hP hN hl => ?_)
  have hK := hN.1
  replace hl : lv_has ls 3 [(0, .int iA), (1, .long J1)] := hl
  refine lv_iload_n hx hb (g_26 bX2_lowestBits rfl) rfl (lv_at hl 0 rfl) ?_
  rcases sw_0_4 iA with rfl | rfl | rfl | rfl | rfl | h_1
  · refine lv_tableIn (tgt := 36) (off := 35) hx hb dX2_lowestBits_1 (by decide +kernel) (by decide +kernel) (by decide +kernel) (by decide +kernel) ?_
    refine lv_lload_n hx hb (g_31 bX2_lowestBits rfl) rfl (lv_at hl 1 rfl) ?_
    refine lv_l2i (v := J1.toInt32) hx hb (g_136 bX2_lowestBits rfl) rfl ?_
    refine lv_i2b (v := J1.toInt32.toInt8.toInt32) hx hb (g_145 bX2_lowestBits rfl) rfl ?_
    refine lv_i2l (v := J1.toInt32.toInt8.toInt32.toInt64) hx hb (g_133 bX2_lowestBits rfl) rfl ?_
    exact endRl hx hb hr hlocks (by rfl) (g_173 bX2_lowestBits rfl)
  · refine lv_tableIn (tgt := 41) (off := 40) hx hb dX2_lowestBits_1 (by decide +kernel) (by decide +kernel) (by decide +kernel) (by decide +kernel) ?_
    refine lv_lload_n hx hb (g_31 bX2_lowestBits rfl) rfl (lv_at hl 1 rfl) ?_
    refine lv_l2i (v := J1.toInt32) hx hb (g_136 bX2_lowestBits rfl) rfl ?_
    refine lv_i2s (v := J1.toInt32.toInt16.toInt32) hx hb (g_147 bX2_lowestBits rfl) rfl ?_
    refine lv_i2l (v := J1.toInt32.toInt16.toInt32.toInt64) hx hb (g_133 bX2_lowestBits rfl) rfl ?_
    exact endRl hx hb hr hlocks (by rfl) (g_173 bX2_lowestBits rfl)
  · refine lv_tableIn (tgt := 46) (off := 45) hx hb dX2_lowestBits_1 (by decide +kernel) (by decide +kernel) (by decide +kernel) (by decide +kernel) ?_
    refine lv_lload_n hx hb (g_31 bX2_lowestBits rfl) rfl (lv_at hl 1 rfl) ?_
    refine lv_l2i (v := J1.toInt32) hx hb (g_136 bX2_lowestBits rfl) rfl ?_
    refine lv_i2l (v := J1.toInt32.toInt64) hx hb (g_133 bX2_lowestBits rfl) rfl ?_
    exact endRl hx hb hr hlocks (by rfl) (g_173 bX2_lowestBits rfl)
  · refine lv_tableIn (tgt := 62) (off := 61) hx hb dX2_lowestBits_1 (by decide +kernel) (by decide +kernel) (by decide +kernel) (by decide +kernel) ?_
    refine lv_lload_n hx hb (g_31 bX2_lowestBits rfl) rfl (lv_at hl 1 rfl) ?_
    exact endRl hx hb hr hlocks (by rfl) (g_173 bX2_lowestBits rfl)
  · refine lv_tableIn (tgt := 50) (off := 49) hx hb dX2_lowestBits_1 (by decide +kernel) (by decide +kernel) (by decide +kernel) (by decide +kernel) ?_
    refine lv_lload_n hx hb (g_31 bX2_lowestBits rfl) rfl (lv_at hl 1 rfl) ?_
    refine lv_lconst (v := 0) hx hb (g_9 bX2_lowestBits rfl) (by decide +kernel) ?_
    refine W.lcmp hx hb (g_148 bX2_lowestBits rfl) ?_
    refine lv_if_eq (tgt := 60) hx hb dX2_lowestBits_53 (by decide +kernel) (fun c_2 => ?_) (fun c_2 => ?_)
    · refine lv_lconst (v := 0) hx hb (g_9 bX2_lowestBits rfl) (by decide +kernel) ?_
      exact endRl hx hb hr hlocks (by show _ = (if lg_cmp J1 0 = 0 then (0 : Int64) else 1); rw [if_pos c_2]) (g_173 bX2_lowestBits rfl)
    · refine lv_lconst (v := 1) hx hb (g_10 bX2_lowestBits rfl) (by decide +kernel) ?_
      refine lv_goto (tgt := 61) hx hb dX2_lowestBits_57 (by decide +kernel) ?_
      exact endRl hx hb hr hlocks (by show _ = (if lg_cmp J1 0 = 0 then (0 : Int64) else 1); rw [if_neg c_2]) (g_173 bX2_lowestBits rfl)
  · refine lv_tableOut (tgt := 62) hx hb dX2_lowestBits_1 h_1 (by decide +kernel) ?_
    refine lv_lload_n hx hb (g_31 bX2_lowestBits rfl) rfl (lv_at hl 1 rfl) ?_
    exact endRl hx hb hr hlocks (by rw [lb_d h_1]) (g_173 bX2_lowestBits rfl)
set_option maxHeartbeats 4000000 in
set_option maxRecDepth 100000 in
theorem c_X2_put (l : Launch) (G : va_G) (cy : Nat → ClassId) (sz : Nat) (qs : Nat) (qsh : Nat) (qss : Nat) (qsa : Nat) (qse : Nat) (fH : Nat → Int32) (gE : Nat → Int64) (kS : Nat) (kI : Nat) (J1 : Int64)  (hS8 : kS < 8) (hI40 : kI < 40) : MW l yX2_put cX2_put 5 none 2 0 0 G cy [zzO qs 1 [.ref qsh, .ref qss, .ref qsa, .ref qse], zzI cy qsh 8 fH, zzJ cy qse 320 gE] sz [.ref qs, .int (nI kS), .int (nI kI), .long J1] (Wv G (fun u => u = [zzO qs 1 [.ref qsh, .ref qss, .ref qsa, .ref qse], zzI cy qsh 8 fH, zzJ cy qse 320 (vp_updL gE (kS * 40 + kI) (zlb (fH kS) J1))])) := by
  refine enW RX2 (by decide +kernel) rfl (Nat.le_of_ble_eq_true rfl) (fun p e s m below meth c ls A hx hb hml hown hts hr hlocks hP hN hl hin hD hA hS => ?_)
  have hin : meth.name = _ := hin
  have hK := hN.1
  replace hl : lv_has ls 5 [(0, .ref qs), (1, .int (nI kS)), (2, .int (nI kI)), (3, .long J1)] := hl
  refine lv_aload_n hx hb (g_42 bX2_put rfl) rfl (lv_at hl 0 rfl) ?_
  refine va_get (D := G) (ci := 1) (v := .ref qse) (C := RX2) (T := TX2) (N := 4) hx hb hts iX_X2 hown hK hP 0 rfl rfl 3 (by decide +kernel) (hts _ m_t129) (fun _ h9 => h9) rfl (g_180 (v := 21) bX2_put rfl) ?_
  refine lv_iload_n hx hb (g_27 bX2_put rfl) rfl (lv_at hl 1 rfl) ?_
  refine lv_bipush (v := 40) hx hb dX2_put_5 (by decide +kernel) ?_
  refine lv_imul hx hb (g_104 bX2_put rfl) ?_
  refine lv_iload_n hx hb (g_28 bX2_put rfl) rfl (lv_at hl 2 rfl) ?_
  refine lv_iadd hx hb (g_96 bX2_put rfl) ?_
  refine lv_aload_n hx hb (g_42 bX2_put rfl) rfl (lv_at hl 0 rfl) ?_
  refine va_get (D := G) (ci := 1) (v := .ref qsh) (C := RX2) (T := TX2) (N := 4) hx hb hts iX_X2 hown hK hP 0 rfl rfl 0 (by decide +kernel) (hts _ m_t123) (fun _ h9 => h9) rfl (g_180 (v := 9) bX2_put rfl) ?_
  refine lv_iload_n hx hb (g_27 bX2_put rfl) rfl (lv_at hl 1 rfl) ?_
  refine va_iald hx hb hK hP 1 0 rfl rfl (in8 (by omega)) (g_46 bX2_put rfl) ?_
  refine lv_seti (v := fH kS) (congrArg fH (cl8 (by omega))) ?_
  refine lv_lload_n hx hb (g_33 bX2_put rfl) rfl (lv_at hl 3 rfl) ?_
  refine kRl (rS (As := [.int (fH kS), .long J1]) (rest := [.int (((nI kS) * 40) + (nI kI)), .ref qse]) ⟨hx, hb, hml, hown, hts⟩ (c_X2_lowestBits l G cy (fH kS) J1) L_X2_25 (preRS hN hP [] rfl) rfl ⟨Nat.le_of_ble_eq_true rfl, Nat.le_of_ble_eq_true rfl⟩ hl.1 (Nat.le_of_ble_eq_true rfl) (g_184 (v := 25) bX2_put rfl) ⟨Nat.le_of_ble_eq_true rfl, Nat.le_of_ble_eq_true rfl⟩) (fun r_1 h_2 => ?_)
  subst h_2
  refine va_last hx hb hK hP hD hS 2 1 rfl rfl (in320 (by omega) (by omega)) (g_80 bX2_put rfl) (fun H locs => ?_)
  clear hP hD hS
  intro hP hD hS
  rw [cl320 (s := kS) (i := kI) (by omega) (by omega)] at hP hD
  have hPD := pd_as [_, _, _] hP hD rfl
  clear hP hD
  obtain ⟨hP, hD⟩ := hPD
  exact endVs [[true, true, true]] hx hb hr hlocks hP hD rfl (by decide +kernel) hS rfl (g_177 bX2_put rfl)
set_option maxHeartbeats 4000000 in
set_option maxRecDepth 100000 in
theorem c_X2_move (l : Launch) (G : va_G) (cy : Nat → ClassId) (sz : Nat) (qs : Nat) (qsh : Nat) (qss : Nat) (qsa : Nat) (qse : Nat) (gE : Nat → Int64) (kS : Nat) (kT : Nat) (kI : Nat) (kJ : Nat) (kN : Nat)  (hS8 : kS < 8) (hT8 : kT < 8) (hI4 : kI + kN ≤ 40) (hJ4 : kJ + kN ≤ 40) : MW l yX2_move cX2_move 6 none 2 0 0 G cy [zzO qs 1 [.ref qsh, .ref qss, .ref qsa, .ref qse], zzJ cy qse 320 gE] sz [.ref qs, .int (nI kS), .int (nI kT), .int (nI kI), .int (nI kJ), .int (nI kN)] (Wv G (fun u => u = [zzO qs 1 [.ref qsh, .ref qss, .ref qsa, .ref qse], zzJ cy qse 320 (va_cpy gE gE (kS * 40 + kI) (kT * 40 + kJ) kN)])) := by
  refine enW RX2 (by decide +kernel) rfl (Nat.le_of_ble_eq_true rfl) (fun p e s m below meth c ls A hx hb hml hown hts hr hlocks hP hN hl hin hD hA hS => ?_)
  have hin : meth.name = _ := hin
  have hK := hN.1
  replace hl : lv_has ls 6 [(0, .ref qs), (1, .int (nI kS)), (2, .int (nI kT)), (3, .int (nI kI)), (4, .int (nI kJ)), (5, .int (nI kN))] := hl
  refine lv_aload_n hx hb (g_42 bX2_move rfl) rfl (lv_at hl 0 rfl) ?_
  refine va_get (D := G) (ci := 1) (v := .ref qse) (C := RX2) (T := TX2) (N := 4) hx hb hts iX_X2 hown hK hP 0 rfl rfl 3 (by decide +kernel) (hts _ m_t129) (fun _ h9 => h9) rfl (g_180 (v := 21) bX2_move rfl) ?_
  refine lv_iload_n hx hb (g_27 bX2_move rfl) rfl (lv_at hl 1 rfl) ?_
  refine lv_bipush (v := 40) hx hb dX2_move_5 (by decide +kernel) ?_
  refine lv_imul hx hb (g_104 bX2_move rfl) ?_
  refine lv_iload_n hx hb (g_29 bX2_move rfl) rfl (lv_at hl 3 rfl) ?_
  refine lv_iadd hx hb (g_96 bX2_move rfl) ?_
  refine lv_aload_n hx hb (g_42 bX2_move rfl) rfl (lv_at hl 0 rfl) ?_
  refine va_get (D := G) (ci := 1) (v := .ref qse) (C := RX2) (T := TX2) (N := 4) hx hb hts iX_X2 hown hK hP 0 rfl rfl 3 (by decide +kernel) (hts _ m_t129) (fun _ h9 => h9) rfl (g_180 (v := 21) bX2_move rfl) ?_
  refine lv_iload_n hx hb (g_28 bX2_move rfl) rfl (lv_at hl 2 rfl) ?_
  refine lv_bipush (v := 40) hx hb dX2_move_15 (by decide +kernel) ?_
  refine lv_imul hx hb (g_104 bX2_move rfl) ?_
  refine lv_iload hx hb (g_21 (v := 4) bX2_move rfl) (lv_at hl 4 rfl) ?_
  refine lv_iadd hx hb (g_96 bX2_move rfl) ?_
  refine lv_iload hx hb (g_21 (v := 5) bX2_move rfl) (lv_at hl 5 rfl) ?_
  refine va_copyl hx hb (hml.trans hl.1.symm) hown (hts _ m_t262) (hts _ m_nat) (hts _ m_t263) (hts _ m_t7) hK hP hD hS 1 1 1 1 rfl rfl rfl rfl rfl (by rw [ix40]; exact nI_pos (by omega)) (by rw [ix40]; exact nI_pos (by omega)) (nI_pos (by omega)) (by rw [cl320' (by omega) (by omega), nI_clamp (by omega)]; omega) (by rw [cl320' (by omega) (by omega), nI_clamp (by omega)]; omega) (fun _ _ => rfl) (Nat.le_of_ble_eq_true rfl) (Nat.le_of_ble_eq_true rfl) (g_184 (v := 29) bX2_move rfl) (fun H locs => ?_)
  clear hP hD hS
  intro hP hD hS
  rw [cl320' (s := kS) (i := kI) (by omega) (by omega), cl320' (s := kT) (i := kJ) (by omega) (by omega), nI_clamp (n := kN) (by omega)] at hP hD
  have hPD := pd_as [_, _] hP hD rfl
  clear hP hD
  obtain ⟨hP, hD⟩ := hPD
  exact endVs [[true, true]] hx hb hr hlocks hP hD rfl (by decide +kernel) hS rfl (g_177 bX2_move rfl)
set_option maxHeartbeats 4000000 in
set_option maxRecDepth 100000 in
theorem c_X5_refuse2 (l : Launch) (G : va_G) (cy : Nat → ClassId) (sz : Nat) (qx : Nat) (qt : Nat) (qk : Nat) (qp : Nat) (qs : Nat) (qa : Nat) (qr : Nat) (iKp : Int32) (iYe : Int32) (iTv : Int32) (fR : Nat → Int32)   : MW l yX5_refuse cX5_refuse 3 (some .int) 2 0 0 G cy [zzO qx 4 [.ref qt, .ref qk, .ref qp, .ref qs, .ref qa, .ref qr, .int iKp, .int iYe, .int iTv], zzI cy qr 5 fR] sz [.ref qx, .int (-2)] (Wi G (fun r u => ∃ (fX : Nat → Int32), u = [zzO qx 4 [.ref qt, .ref qk, .ref qp, .ref qs, .ref qa, .ref qr, .int iKp, .int iYe, .int iTv], zzI cy qr 5 fX] ∧ ((r = (-2))))) := by
  refine enW RX5 (by decide +kernel) rfl (Nat.le_of_ble_eq_true rfl) (fun p e s m below meth c ls A hx hb hml hown hts hr hlocks hP hN hl hin hD hA hS => ?_)
  have hin : meth.name = _ := hin
  have hK := hN.1
  replace hl : lv_has ls 3 [(0, .ref qx), (1, .int (-2))] := hl
  refine lv_bipush (v := (-2)) hx hb dX5_refuse_0 (by decide +kernel) ?_
  refine lv_iload_n hx hb (g_27 bX5_refuse rfl) rfl (lv_at hl 1 rfl) ?_
  refine lv_isub hx hb (g_100 bX5_refuse rfl) ?_
  refine lv_seti (v := 0) (by decide +kernel) ?_
  refine lv_istore_n (lv' := [(2, .int 0), (0, .ref qx), (1, .int (-2))]) hx hb (g_61 bX5_refuse rfl) rfl hl (by decide +kernel) rfl (fun ls => ?_)
  clear hl
  intro hl
  refine lv_iload_n hx hb (g_28 bX5_refuse rfl) rfl (lv_at hl 0 rfl) ?_
  refine lv_i2l (v := 0) hx hb (g_133 bX5_refuse rfl) (by decide +kernel) ?_
  refine lv_lconst (v := 0) hx hb (g_9 bX5_refuse rfl) (by decide +kernel) ?_
  refine lv_aload_n hx hb (g_42 bX5_refuse rfl) rfl (lv_at hl 1 rfl) ?_
  refine va_get (D := G) (ci := 4) (v := .ref qr) (C := RX5) (T := TX5) (N := 9) hx hb hts iX_X5 hown hK hP 0 rfl rfl 5 (by decide +kernel) (hts _ m_t179) (fun _ h9 => h9) rfl (g_180 (v := 40) bX5_refuse rfl) ?_
  refine va_alen hx hb hK hP 1 0 rfl rfl (v := 5) rfl (g_190 bX5_refuse rfl) ?_
  refine lv_iconst (v := 1) hx hb (g_4 bX5_refuse rfl) (by decide +kernel) ?_
  refine lv_isub hx hb (g_100 bX5_refuse rfl) ?_
  refine lv_seti (v := 4) (by decide +kernel) ?_
  refine lv_i2l (v := 4) hx hb (g_133 bX5_refuse rfl) (by decide +kernel) ?_
  refine kRi (rS (As := [.long 0, .long 0, .long 4]) (rest := []) ⟨hx, hb, hml, hown, hts⟩ (c_X5_within l G cy 0 0 4) L_X5_50 (preRS hN hP [] rfl) rfl ⟨Nat.le_of_ble_eq_true rfl, Nat.le_of_ble_eq_true rfl⟩ hl.1 (Nat.le_of_ble_eq_true rfl) (g_184 (v := 50) bX5_refuse rfl) ⟨Nat.le_of_ble_eq_true rfl, Nat.le_of_ble_eq_true rfl⟩) (fun r_1 h_2 => ?_)
  rcases h_2 with ⟨rfl, h_3⟩ | ⟨rfl, h_3⟩
  · refine lv_if_eq (tgt := 32) hx hb dX5_refuse_19 (by decide +kernel) (fun h9 => absurd h9 (by decide +kernel)) (fun _ => ?_)
    refine lv_aload_n hx hb (g_42 bX5_refuse rfl) rfl (lv_at hl 1 rfl) ?_
    refine va_get (D := G) (ci := 4) (v := .ref qr) (C := RX5) (T := TX5) (N := 9) hx hb hts iX_X5 hown hK hP 0 rfl rfl 5 (by decide +kernel) (hts _ m_t179) (fun _ h9 => h9) rfl (g_180 (v := 40) bX5_refuse rfl) ?_
    refine lv_iload_n hx hb (g_28 bX5_refuse rfl) rfl (lv_at hl 0 rfl) ?_
    refine lv_dup2_11 hx hb (g_92 bX5_refuse rfl) rfl rfl ?_
    refine va_iald hx hb hK hP 1 0 rfl rfl (in_c rfl) (g_46 bX5_refuse rfl) ?_
    refine lv_seti (v := fR 0) (congrArg fR (by decide +kernel)) ?_
    refine lv_iconst (v := 1) hx hb (g_4 bX5_refuse rfl) (by decide +kernel) ?_
    refine lv_iadd hx hb (g_96 bX5_refuse rfl) ?_
    refine va_iast hx hb hK hP hD hS 1 0 rfl rfl (in_c rfl) (g_79 bX5_refuse rfl) (fun H locs => ?_)
    clear hP hD hS
    intro hP hD hS
    have hPD := pd_as [_, zzI cy qr 5 (upd fR 0 ((fR 0) + 1))] hP hD rfl
    clear hP hD
    obtain ⟨hP, hD⟩ := hPD
    refine lv_iload_n hx hb (g_27 bX5_refuse rfl) rfl (lv_at hl 2 rfl) ?_
    exact endWs [[true, true]] hx hb hr hlocks rfl hP hD rfl (by decide +kernel) hS ⟨upd fR 0 ((fR 0) + 1), rfl, rfl⟩ (g_172 bX5_refuse rfl)
  · exact absurd (by decide +kernel) h_3
set_option maxHeartbeats 4000000 in
set_option maxRecDepth 100000 in
theorem c_X5_refuse3 (l : Launch) (G : va_G) (cy : Nat → ClassId) (sz : Nat) (qx : Nat) (qt : Nat) (qk : Nat) (qp : Nat) (qs : Nat) (qa : Nat) (qr : Nat) (iKp : Int32) (iYe : Int32) (iTv : Int32) (fR : Nat → Int32)   : MW l yX5_refuse cX5_refuse 3 (some .int) 2 0 0 G cy [zzO qx 4 [.ref qt, .ref qk, .ref qp, .ref qs, .ref qa, .ref qr, .int iKp, .int iYe, .int iTv], zzI cy qr 5 fR] sz [.ref qx, .int (-3)] (Wi G (fun r u => ∃ (fX : Nat → Int32), u = [zzO qx 4 [.ref qt, .ref qk, .ref qp, .ref qs, .ref qa, .ref qr, .int iKp, .int iYe, .int iTv], zzI cy qr 5 fX] ∧ ((r = (-3))))) := by
  refine enW RX5 (by decide +kernel) rfl (Nat.le_of_ble_eq_true rfl) (fun p e s m below meth c ls A hx hb hml hown hts hr hlocks hP hN hl hin hD hA hS => ?_)
  have hin : meth.name = _ := hin
  have hK := hN.1
  replace hl : lv_has ls 3 [(0, .ref qx), (1, .int (-3))] := hl
  refine lv_bipush (v := (-2)) hx hb dX5_refuse_0 (by decide +kernel) ?_
  refine lv_iload_n hx hb (g_27 bX5_refuse rfl) rfl (lv_at hl 1 rfl) ?_
  refine lv_isub hx hb (g_100 bX5_refuse rfl) ?_
  refine lv_seti (v := 1) (by decide +kernel) ?_
  refine lv_istore_n (lv' := [(2, .int 1), (0, .ref qx), (1, .int (-3))]) hx hb (g_61 bX5_refuse rfl) rfl hl (by decide +kernel) rfl (fun ls => ?_)
  clear hl
  intro hl
  refine lv_iload_n hx hb (g_28 bX5_refuse rfl) rfl (lv_at hl 0 rfl) ?_
  refine lv_i2l (v := 1) hx hb (g_133 bX5_refuse rfl) (by decide +kernel) ?_
  refine lv_lconst (v := 0) hx hb (g_9 bX5_refuse rfl) (by decide +kernel) ?_
  refine lv_aload_n hx hb (g_42 bX5_refuse rfl) rfl (lv_at hl 1 rfl) ?_
  refine va_get (D := G) (ci := 4) (v := .ref qr) (C := RX5) (T := TX5) (N := 9) hx hb hts iX_X5 hown hK hP 0 rfl rfl 5 (by decide +kernel) (hts _ m_t179) (fun _ h9 => h9) rfl (g_180 (v := 40) bX5_refuse rfl) ?_
  refine va_alen hx hb hK hP 1 0 rfl rfl (v := 5) rfl (g_190 bX5_refuse rfl) ?_
  refine lv_iconst (v := 1) hx hb (g_4 bX5_refuse rfl) (by decide +kernel) ?_
  refine lv_isub hx hb (g_100 bX5_refuse rfl) ?_
  refine lv_seti (v := 4) (by decide +kernel) ?_
  refine lv_i2l (v := 4) hx hb (g_133 bX5_refuse rfl) (by decide +kernel) ?_
  refine kRi (rS (As := [.long 1, .long 0, .long 4]) (rest := []) ⟨hx, hb, hml, hown, hts⟩ (c_X5_within l G cy 1 0 4) L_X5_50 (preRS hN hP [] rfl) rfl ⟨Nat.le_of_ble_eq_true rfl, Nat.le_of_ble_eq_true rfl⟩ hl.1 (Nat.le_of_ble_eq_true rfl) (g_184 (v := 50) bX5_refuse rfl) ⟨Nat.le_of_ble_eq_true rfl, Nat.le_of_ble_eq_true rfl⟩) (fun r_1 h_2 => ?_)
  rcases h_2 with ⟨rfl, h_3⟩ | ⟨rfl, h_3⟩
  · refine lv_if_eq (tgt := 32) hx hb dX5_refuse_19 (by decide +kernel) (fun h9 => absurd h9 (by decide +kernel)) (fun _ => ?_)
    refine lv_aload_n hx hb (g_42 bX5_refuse rfl) rfl (lv_at hl 1 rfl) ?_
    refine va_get (D := G) (ci := 4) (v := .ref qr) (C := RX5) (T := TX5) (N := 9) hx hb hts iX_X5 hown hK hP 0 rfl rfl 5 (by decide +kernel) (hts _ m_t179) (fun _ h9 => h9) rfl (g_180 (v := 40) bX5_refuse rfl) ?_
    refine lv_iload_n hx hb (g_28 bX5_refuse rfl) rfl (lv_at hl 0 rfl) ?_
    refine lv_dup2_11 hx hb (g_92 bX5_refuse rfl) rfl rfl ?_
    refine va_iald hx hb hK hP 1 0 rfl rfl (in_c rfl) (g_46 bX5_refuse rfl) ?_
    refine lv_seti (v := fR 1) (congrArg fR (by decide +kernel)) ?_
    refine lv_iconst (v := 1) hx hb (g_4 bX5_refuse rfl) (by decide +kernel) ?_
    refine lv_iadd hx hb (g_96 bX5_refuse rfl) ?_
    refine va_iast hx hb hK hP hD hS 1 0 rfl rfl (in_c rfl) (g_79 bX5_refuse rfl) (fun H locs => ?_)
    clear hP hD hS
    intro hP hD hS
    have hPD := pd_as [_, zzI cy qr 5 (upd fR 1 ((fR 1) + 1))] hP hD rfl
    clear hP hD
    obtain ⟨hP, hD⟩ := hPD
    refine lv_iload_n hx hb (g_27 bX5_refuse rfl) rfl (lv_at hl 2 rfl) ?_
    exact endWs [[true, true]] hx hb hr hlocks rfl hP hD rfl (by decide +kernel) hS ⟨upd fR 1 ((fR 1) + 1), rfl, rfl⟩ (g_172 bX5_refuse rfl)
  · exact absurd (by decide +kernel) h_3
set_option maxHeartbeats 4000000 in
set_option maxRecDepth 100000 in
theorem c_X5_refuse4 (l : Launch) (G : va_G) (cy : Nat → ClassId) (sz : Nat) (qx : Nat) (qt : Nat) (qk : Nat) (qp : Nat) (qs : Nat) (qa : Nat) (qr : Nat) (iKp : Int32) (iYe : Int32) (iTv : Int32) (fR : Nat → Int32)   : MW l yX5_refuse cX5_refuse 3 (some .int) 2 0 0 G cy [zzO qx 4 [.ref qt, .ref qk, .ref qp, .ref qs, .ref qa, .ref qr, .int iKp, .int iYe, .int iTv], zzI cy qr 5 fR] sz [.ref qx, .int (-4)] (Wi G (fun r u => ∃ (fX : Nat → Int32), u = [zzO qx 4 [.ref qt, .ref qk, .ref qp, .ref qs, .ref qa, .ref qr, .int iKp, .int iYe, .int iTv], zzI cy qr 5 fX] ∧ ((r = (-4))))) := by
  refine enW RX5 (by decide +kernel) rfl (Nat.le_of_ble_eq_true rfl) (fun p e s m below meth c ls A hx hb hml hown hts hr hlocks hP hN hl hin hD hA hS => ?_)
  have hin : meth.name = _ := hin
  have hK := hN.1
  replace hl : lv_has ls 3 [(0, .ref qx), (1, .int (-4))] := hl
  refine lv_bipush (v := (-2)) hx hb dX5_refuse_0 (by decide +kernel) ?_
  refine lv_iload_n hx hb (g_27 bX5_refuse rfl) rfl (lv_at hl 1 rfl) ?_
  refine lv_isub hx hb (g_100 bX5_refuse rfl) ?_
  refine lv_seti (v := 2) (by decide +kernel) ?_
  refine lv_istore_n (lv' := [(2, .int 2), (0, .ref qx), (1, .int (-4))]) hx hb (g_61 bX5_refuse rfl) rfl hl (by decide +kernel) rfl (fun ls => ?_)
  clear hl
  intro hl
  refine lv_iload_n hx hb (g_28 bX5_refuse rfl) rfl (lv_at hl 0 rfl) ?_
  refine lv_i2l (v := 2) hx hb (g_133 bX5_refuse rfl) (by decide +kernel) ?_
  refine lv_lconst (v := 0) hx hb (g_9 bX5_refuse rfl) (by decide +kernel) ?_
  refine lv_aload_n hx hb (g_42 bX5_refuse rfl) rfl (lv_at hl 1 rfl) ?_
  refine va_get (D := G) (ci := 4) (v := .ref qr) (C := RX5) (T := TX5) (N := 9) hx hb hts iX_X5 hown hK hP 0 rfl rfl 5 (by decide +kernel) (hts _ m_t179) (fun _ h9 => h9) rfl (g_180 (v := 40) bX5_refuse rfl) ?_
  refine va_alen hx hb hK hP 1 0 rfl rfl (v := 5) rfl (g_190 bX5_refuse rfl) ?_
  refine lv_iconst (v := 1) hx hb (g_4 bX5_refuse rfl) (by decide +kernel) ?_
  refine lv_isub hx hb (g_100 bX5_refuse rfl) ?_
  refine lv_seti (v := 4) (by decide +kernel) ?_
  refine lv_i2l (v := 4) hx hb (g_133 bX5_refuse rfl) (by decide +kernel) ?_
  refine kRi (rS (As := [.long 2, .long 0, .long 4]) (rest := []) ⟨hx, hb, hml, hown, hts⟩ (c_X5_within l G cy 2 0 4) L_X5_50 (preRS hN hP [] rfl) rfl ⟨Nat.le_of_ble_eq_true rfl, Nat.le_of_ble_eq_true rfl⟩ hl.1 (Nat.le_of_ble_eq_true rfl) (g_184 (v := 50) bX5_refuse rfl) ⟨Nat.le_of_ble_eq_true rfl, Nat.le_of_ble_eq_true rfl⟩) (fun r_1 h_2 => ?_)
  rcases h_2 with ⟨rfl, h_3⟩ | ⟨rfl, h_3⟩
  · refine lv_if_eq (tgt := 32) hx hb dX5_refuse_19 (by decide +kernel) (fun h9 => absurd h9 (by decide +kernel)) (fun _ => ?_)
    refine lv_aload_n hx hb (g_42 bX5_refuse rfl) rfl (lv_at hl 1 rfl) ?_
    refine va_get (D := G) (ci := 4) (v := .ref qr) (C := RX5) (T := TX5) (N := 9) hx hb hts iX_X5 hown hK hP 0 rfl rfl 5 (by decide +kernel) (hts _ m_t179) (fun _ h9 => h9) rfl (g_180 (v := 40) bX5_refuse rfl) ?_
    refine lv_iload_n hx hb (g_28 bX5_refuse rfl) rfl (lv_at hl 0 rfl) ?_
    refine lv_dup2_11 hx hb (g_92 bX5_refuse rfl) rfl rfl ?_
    refine va_iald hx hb hK hP 1 0 rfl rfl (in_c rfl) (g_46 bX5_refuse rfl) ?_
    refine lv_seti (v := fR 2) (congrArg fR (by decide +kernel)) ?_
    refine lv_iconst (v := 1) hx hb (g_4 bX5_refuse rfl) (by decide +kernel) ?_
    refine lv_iadd hx hb (g_96 bX5_refuse rfl) ?_
    refine va_iast hx hb hK hP hD hS 1 0 rfl rfl (in_c rfl) (g_79 bX5_refuse rfl) (fun H locs => ?_)
    clear hP hD hS
    intro hP hD hS
    have hPD := pd_as [_, zzI cy qr 5 (upd fR 2 ((fR 2) + 1))] hP hD rfl
    clear hP hD
    obtain ⟨hP, hD⟩ := hPD
    refine lv_iload_n hx hb (g_27 bX5_refuse rfl) rfl (lv_at hl 2 rfl) ?_
    exact endWs [[true, true]] hx hb hr hlocks rfl hP hD rfl (by decide +kernel) hS ⟨upd fR 2 ((fR 2) + 1), rfl, rfl⟩ (g_172 bX5_refuse rfl)
  · exact absurd (by decide +kernel) h_3
set_option maxHeartbeats 4000000 in
set_option maxRecDepth 100000 in
theorem c_X5_refuse5 (l : Launch) (G : va_G) (cy : Nat → ClassId) (sz : Nat) (qx : Nat) (qt : Nat) (qk : Nat) (qp : Nat) (qs : Nat) (qa : Nat) (qr : Nat) (iKp : Int32) (iYe : Int32) (iTv : Int32) (fR : Nat → Int32)   : MW l yX5_refuse cX5_refuse 3 (some .int) 2 0 0 G cy [zzO qx 4 [.ref qt, .ref qk, .ref qp, .ref qs, .ref qa, .ref qr, .int iKp, .int iYe, .int iTv], zzI cy qr 5 fR] sz [.ref qx, .int (-5)] (Wi G (fun r u => ∃ (fX : Nat → Int32), u = [zzO qx 4 [.ref qt, .ref qk, .ref qp, .ref qs, .ref qa, .ref qr, .int iKp, .int iYe, .int iTv], zzI cy qr 5 fX] ∧ ((r = (-5))))) := by
  refine enW RX5 (by decide +kernel) rfl (Nat.le_of_ble_eq_true rfl) (fun p e s m below meth c ls A hx hb hml hown hts hr hlocks hP hN hl hin hD hA hS => ?_)
  have hin : meth.name = _ := hin
  have hK := hN.1
  replace hl : lv_has ls 3 [(0, .ref qx), (1, .int (-5))] := hl
  refine lv_bipush (v := (-2)) hx hb dX5_refuse_0 (by decide +kernel) ?_
  refine lv_iload_n hx hb (g_27 bX5_refuse rfl) rfl (lv_at hl 1 rfl) ?_
  refine lv_isub hx hb (g_100 bX5_refuse rfl) ?_
  refine lv_seti (v := 3) (by decide +kernel) ?_
  refine lv_istore_n (lv' := [(2, .int 3), (0, .ref qx), (1, .int (-5))]) hx hb (g_61 bX5_refuse rfl) rfl hl (by decide +kernel) rfl (fun ls => ?_)
  clear hl
  intro hl
  refine lv_iload_n hx hb (g_28 bX5_refuse rfl) rfl (lv_at hl 0 rfl) ?_
  refine lv_i2l (v := 3) hx hb (g_133 bX5_refuse rfl) (by decide +kernel) ?_
  refine lv_lconst (v := 0) hx hb (g_9 bX5_refuse rfl) (by decide +kernel) ?_
  refine lv_aload_n hx hb (g_42 bX5_refuse rfl) rfl (lv_at hl 1 rfl) ?_
  refine va_get (D := G) (ci := 4) (v := .ref qr) (C := RX5) (T := TX5) (N := 9) hx hb hts iX_X5 hown hK hP 0 rfl rfl 5 (by decide +kernel) (hts _ m_t179) (fun _ h9 => h9) rfl (g_180 (v := 40) bX5_refuse rfl) ?_
  refine va_alen hx hb hK hP 1 0 rfl rfl (v := 5) rfl (g_190 bX5_refuse rfl) ?_
  refine lv_iconst (v := 1) hx hb (g_4 bX5_refuse rfl) (by decide +kernel) ?_
  refine lv_isub hx hb (g_100 bX5_refuse rfl) ?_
  refine lv_seti (v := 4) (by decide +kernel) ?_
  refine lv_i2l (v := 4) hx hb (g_133 bX5_refuse rfl) (by decide +kernel) ?_
  refine kRi (rS (As := [.long 3, .long 0, .long 4]) (rest := []) ⟨hx, hb, hml, hown, hts⟩ (c_X5_within l G cy 3 0 4) L_X5_50 (preRS hN hP [] rfl) rfl ⟨Nat.le_of_ble_eq_true rfl, Nat.le_of_ble_eq_true rfl⟩ hl.1 (Nat.le_of_ble_eq_true rfl) (g_184 (v := 50) bX5_refuse rfl) ⟨Nat.le_of_ble_eq_true rfl, Nat.le_of_ble_eq_true rfl⟩) (fun r_1 h_2 => ?_)
  rcases h_2 with ⟨rfl, h_3⟩ | ⟨rfl, h_3⟩
  · refine lv_if_eq (tgt := 32) hx hb dX5_refuse_19 (by decide +kernel) (fun h9 => absurd h9 (by decide +kernel)) (fun _ => ?_)
    refine lv_aload_n hx hb (g_42 bX5_refuse rfl) rfl (lv_at hl 1 rfl) ?_
    refine va_get (D := G) (ci := 4) (v := .ref qr) (C := RX5) (T := TX5) (N := 9) hx hb hts iX_X5 hown hK hP 0 rfl rfl 5 (by decide +kernel) (hts _ m_t179) (fun _ h9 => h9) rfl (g_180 (v := 40) bX5_refuse rfl) ?_
    refine lv_iload_n hx hb (g_28 bX5_refuse rfl) rfl (lv_at hl 0 rfl) ?_
    refine lv_dup2_11 hx hb (g_92 bX5_refuse rfl) rfl rfl ?_
    refine va_iald hx hb hK hP 1 0 rfl rfl (in_c rfl) (g_46 bX5_refuse rfl) ?_
    refine lv_seti (v := fR 3) (congrArg fR (by decide +kernel)) ?_
    refine lv_iconst (v := 1) hx hb (g_4 bX5_refuse rfl) (by decide +kernel) ?_
    refine lv_iadd hx hb (g_96 bX5_refuse rfl) ?_
    refine va_iast hx hb hK hP hD hS 1 0 rfl rfl (in_c rfl) (g_79 bX5_refuse rfl) (fun H locs => ?_)
    clear hP hD hS
    intro hP hD hS
    have hPD := pd_as [_, zzI cy qr 5 (upd fR 3 ((fR 3) + 1))] hP hD rfl
    clear hP hD
    obtain ⟨hP, hD⟩ := hPD
    refine lv_iload_n hx hb (g_27 bX5_refuse rfl) rfl (lv_at hl 2 rfl) ?_
    exact endWs [[true, true]] hx hb hr hlocks rfl hP hD rfl (by decide +kernel) hS ⟨upd fR 3 ((fR 3) + 1), rfl, rfl⟩ (g_172 bX5_refuse rfl)
  · exact absurd (by decide +kernel) h_3
set_option maxHeartbeats 4000000 in
set_option maxRecDepth 100000 in
theorem c_X5_refuse6 (l : Launch) (G : va_G) (cy : Nat → ClassId) (sz : Nat) (qx : Nat) (qt : Nat) (qk : Nat) (qp : Nat) (qs : Nat) (qa : Nat) (qr : Nat) (iKp : Int32) (iYe : Int32) (iTv : Int32) (fR : Nat → Int32)   : MW l yX5_refuse cX5_refuse 3 (some .int) 2 0 0 G cy [zzO qx 4 [.ref qt, .ref qk, .ref qp, .ref qs, .ref qa, .ref qr, .int iKp, .int iYe, .int iTv], zzI cy qr 5 fR] sz [.ref qx, .int (-6)] (Wi G (fun r u => ∃ (fX : Nat → Int32), u = [zzO qx 4 [.ref qt, .ref qk, .ref qp, .ref qs, .ref qa, .ref qr, .int iKp, .int iYe, .int iTv], zzI cy qr 5 fX] ∧ ((r = (-6))))) := by
  refine enW RX5 (by decide +kernel) rfl (Nat.le_of_ble_eq_true rfl) (fun p e s m below meth c ls A hx hb hml hown hts hr hlocks hP hN hl hin hD hA hS => ?_)
  have hin : meth.name = _ := hin
  have hK := hN.1
  replace hl : lv_has ls 3 [(0, .ref qx), (1, .int (-6))] := hl
  refine lv_bipush (v := (-2)) hx hb dX5_refuse_0 (by decide +kernel) ?_
  refine lv_iload_n hx hb (g_27 bX5_refuse rfl) rfl (lv_at hl 1 rfl) ?_
  refine lv_isub hx hb (g_100 bX5_refuse rfl) ?_
  refine lv_seti (v := 4) (by decide +kernel) ?_
  refine lv_istore_n (lv' := [(2, .int 4), (0, .ref qx), (1, .int (-6))]) hx hb (g_61 bX5_refuse rfl) rfl hl (by decide +kernel) rfl (fun ls => ?_)
  clear hl
  intro hl
  refine lv_iload_n hx hb (g_28 bX5_refuse rfl) rfl (lv_at hl 0 rfl) ?_
  refine lv_i2l (v := 4) hx hb (g_133 bX5_refuse rfl) (by decide +kernel) ?_
  refine lv_lconst (v := 0) hx hb (g_9 bX5_refuse rfl) (by decide +kernel) ?_
  refine lv_aload_n hx hb (g_42 bX5_refuse rfl) rfl (lv_at hl 1 rfl) ?_
  refine va_get (D := G) (ci := 4) (v := .ref qr) (C := RX5) (T := TX5) (N := 9) hx hb hts iX_X5 hown hK hP 0 rfl rfl 5 (by decide +kernel) (hts _ m_t179) (fun _ h9 => h9) rfl (g_180 (v := 40) bX5_refuse rfl) ?_
  refine va_alen hx hb hK hP 1 0 rfl rfl (v := 5) rfl (g_190 bX5_refuse rfl) ?_
  refine lv_iconst (v := 1) hx hb (g_4 bX5_refuse rfl) (by decide +kernel) ?_
  refine lv_isub hx hb (g_100 bX5_refuse rfl) ?_
  refine lv_seti (v := 4) (by decide +kernel) ?_
  refine lv_i2l (v := 4) hx hb (g_133 bX5_refuse rfl) (by decide +kernel) ?_
  refine kRi (rS (As := [.long 4, .long 0, .long 4]) (rest := []) ⟨hx, hb, hml, hown, hts⟩ (c_X5_within l G cy 4 0 4) L_X5_50 (preRS hN hP [] rfl) rfl ⟨Nat.le_of_ble_eq_true rfl, Nat.le_of_ble_eq_true rfl⟩ hl.1 (Nat.le_of_ble_eq_true rfl) (g_184 (v := 50) bX5_refuse rfl) ⟨Nat.le_of_ble_eq_true rfl, Nat.le_of_ble_eq_true rfl⟩) (fun r_1 h_2 => ?_)
  rcases h_2 with ⟨rfl, h_3⟩ | ⟨rfl, h_3⟩
  · refine lv_if_eq (tgt := 32) hx hb dX5_refuse_19 (by decide +kernel) (fun h9 => absurd h9 (by decide +kernel)) (fun _ => ?_)
    refine lv_aload_n hx hb (g_42 bX5_refuse rfl) rfl (lv_at hl 1 rfl) ?_
    refine va_get (D := G) (ci := 4) (v := .ref qr) (C := RX5) (T := TX5) (N := 9) hx hb hts iX_X5 hown hK hP 0 rfl rfl 5 (by decide +kernel) (hts _ m_t179) (fun _ h9 => h9) rfl (g_180 (v := 40) bX5_refuse rfl) ?_
    refine lv_iload_n hx hb (g_28 bX5_refuse rfl) rfl (lv_at hl 0 rfl) ?_
    refine lv_dup2_11 hx hb (g_92 bX5_refuse rfl) rfl rfl ?_
    refine va_iald hx hb hK hP 1 0 rfl rfl (in_c rfl) (g_46 bX5_refuse rfl) ?_
    refine lv_seti (v := fR 4) (congrArg fR (by decide +kernel)) ?_
    refine lv_iconst (v := 1) hx hb (g_4 bX5_refuse rfl) (by decide +kernel) ?_
    refine lv_iadd hx hb (g_96 bX5_refuse rfl) ?_
    refine va_iast hx hb hK hP hD hS 1 0 rfl rfl (in_c rfl) (g_79 bX5_refuse rfl) (fun H locs => ?_)
    clear hP hD hS
    intro hP hD hS
    have hPD := pd_as [_, zzI cy qr 5 (upd fR 4 ((fR 4) + 1))] hP hD rfl
    clear hP hD
    obtain ⟨hP, hD⟩ := hPD
    refine lv_iload_n hx hb (g_27 bX5_refuse rfl) rfl (lv_at hl 2 rfl) ?_
    exact endWs [[true, true]] hx hb hr hlocks rfl hP hD rfl (by decide +kernel) hS ⟨upd fR 4 ((fR 4) + 1), rfl, rfl⟩ (g_172 bX5_refuse rfl)
  · exact absurd (by decide +kernel) h_3
set_option maxHeartbeats 4000000 in
set_option maxRecDepth 100000 in
theorem c_X5_isShelf (l : Launch) (G : va_G) (cy : Nat → ClassId) (iA : Int32)   : MR l yX5_isShelf cX5_isShelf 1 (some .boolean) 2 G cy [] [.int iA] (vp_Si (fun r => (r = 1 ∧ ∃ k : Nat, k < 8 ∧ iA = nI k) ∨ (r = 0 ∧ ¬ ∃ k : Nat, k < 8 ∧ iA = nI k))) := by
  refine enR RX5 (by decide +kernel) rfl (Nat.le_of_ble_eq_true rfl) (fun p e s m below meth c ls hx hb hml hown hts hr hlocks hP hN hl => ?_)
  have hK := hN.1
  replace hl : lv_has ls 1 [(0, .int iA)] := hl
  refine lv_iload_n hx hb (g_26 bX5_isShelf rfl) rfl (lv_at hl 0 rfl) ?_
  refine lv_i2l (v := iA.toInt64) hx hb (g_133 bX5_isShelf rfl) rfl ?_
  refine lv_lconst (v := 0) hx hb (g_9 bX5_isShelf rfl) (by decide +kernel) ?_
  refine lv_ldc2 hx hb hown (hts _ m_t209) (g_20 (v := 355) bX5_isShelf rfl) ?_
  refine kRi (rS (As := [.long iA.toInt64, .long 0, .long 7]) (rest := []) ⟨hx, hb, hml, hown, hts⟩ (c_X5_within l G cy iA.toInt64 0 7) L_X5_50 (preRS hN hP [] rfl) rfl ⟨Nat.le_of_ble_eq_true rfl, Nat.le_of_ble_eq_true rfl⟩ hl.1 (Nat.le_of_ble_eq_true rfl) (g_184 (v := 50) bX5_isShelf rfl) ⟨Nat.le_of_ble_eq_true rfl, Nat.le_of_ble_eq_true rfl⟩) (fun r_1 h_2 => ?_)
  rcases h_2 with ⟨rfl, h_3⟩ | ⟨rfl, h_3⟩
  · exact endR hx hb hr hlocks rfl (Or.inl (⟨rfl, nI_of7' h_3⟩)) (g_172 bX5_isShelf rfl)
  · exact endR hx hb hr hlocks rfl (Or.inr (⟨rfl, no_of7 h_3⟩)) (g_172 bX5_isShelf rfl)
set_option maxHeartbeats 4000000 in
set_option maxRecDepth 100000 in
theorem c_X5_isSetOf (l : Launch) (G : va_G) (cy : Nat → ClassId) (iA : Int32) (iB : Int32)   : MR l yX5_isSetOf cX5_isSetOf 2 (some .boolean) 2 G cy [] [.int iA, .int iB] (vp_Si (fun r => (r = 1 ∧ iA &&& (((1 <<< (iB &&& 31)) - 1) ^^^ (-1)) = 0) ∨ (r = 0 ∧ ¬ iA &&& (((1 <<< (iB &&& 31)) - 1) ^^^ (-1)) = 0))) := by
  refine enR RX5 (by decide +kernel) rfl (Nat.le_of_ble_eq_true rfl) (fun p e s m below meth c ls hx hb hml hown hts hr hlocks hP hN hl => ?_)
  have hK := hN.1
  replace hl : lv_has ls 2 [(0, .int iA), (1, .int iB)] := hl
  refine lv_iload_n hx hb (g_26 bX5_isSetOf rfl) rfl (lv_at hl 0 rfl) ?_
  refine lv_iload_n hx hb (g_27 bX5_isSetOf rfl) rfl (lv_at hl 1 rfl) ?_
  refine kRi (rS (As := [.int iB]) (rest := [.int iA]) ⟨hx, hb, hml, hown, hts⟩ (c_X5_setOfAll l G cy iB) L_X5_186 (preRS hN hP [] rfl) rfl ⟨Nat.le_of_ble_eq_true rfl, Nat.le_of_ble_eq_true rfl⟩ hl.1 (Nat.le_of_ble_eq_true rfl) (g_184 (v := 186) bX5_isSetOf rfl) ⟨Nat.le_of_ble_eq_true rfl, Nat.le_of_ble_eq_true rfl⟩) (fun r_1 h_2 => ?_)
  subst h_2
  refine lv_iconst (v := (-1)) hx hb (g_2 bX5_isSetOf rfl) (by decide +kernel) ?_
  refine lv_ixor hx hb (g_130 bX5_isSetOf rfl) ?_
  refine lv_iand hx hb (g_126 bX5_isSetOf rfl) ?_
  refine lv_if_ne (tgt := 15) hx hb dX5_isSetOf_8 (by decide +kernel) (fun c_3 => ?_) (fun c_3 => ?_)
  · refine lv_iconst (v := 0) hx hb (g_3 bX5_isSetOf rfl) (by decide +kernel) ?_
    exact endR hx hb hr hlocks rfl (Or.inr (⟨rfl, c_3⟩)) (g_172 bX5_isSetOf rfl)
  · refine lv_iconst (v := 1) hx hb (g_4 bX5_isSetOf rfl) (by decide +kernel) ?_
    refine lv_goto (tgt := 16) hx hb dX5_isSetOf_12 (by decide +kernel) ?_
    exact endR hx hb hr hlocks rfl (Or.inl (⟨rfl, c_3⟩)) (g_172 bX5_isSetOf rfl)
set_option maxHeartbeats 4000000 in
set_option maxRecDepth 100000 in
theorem c_X5_canBeOne (l : Launch) (G : va_G) (cy : Nat → ClassId) (J1 : Int64) (J2 : Int64) (J3 : Int64) (J4 : Int64)   : MR l yX5_canBeOne cX5_canBeOne 8 (some .boolean) 2 G cy [] [.long J1, .long J2, .long J3, .long J4] (vp_Si (fun r => (r = 1 ∧ Iv J1 0 9 ∧ Iv J2 0 10 ∧ Iv J3 0 10 ∧ Iv J4 0 10) ∨ (r = 0 ∧ ¬ (Iv J1 0 9 ∧ Iv J2 0 10 ∧ Iv J3 0 10 ∧ Iv J4 0 10)))) := by
  refine enR RX5 (by decide +kernel) rfl (Nat.le_of_ble_eq_true rfl) (fun p e s m below meth c ls hx hb hml hown hts hr hlocks hP hN hl => ?_)
  have hK := hN.1
  replace hl : lv_has ls 8 [(0, .long J1), (2, .long J2), (4, .long J3), (6, .long J4)] := hl
  refine lv_lload_n hx hb (g_30 bX5_canBeOne rfl) rfl (lv_at hl 0 rfl) ?_
  refine lv_lconst (v := 0) hx hb (g_9 bX5_canBeOne rfl) (by decide +kernel) ?_
  refine lv_ldc2 hx hb hown (hts _ m_t416) (g_20 (v := 357) bX5_canBeOne rfl) ?_
  refine kRi (rS (As := [.long J1, .long 0, .long 9]) (rest := []) ⟨hx, hb, hml, hown, hts⟩ (c_X5_within l G cy J1 0 9) L_X5_50 (preRS hN hP [] rfl) rfl ⟨Nat.le_of_ble_eq_true rfl, Nat.le_of_ble_eq_true rfl⟩ hl.1 (Nat.le_of_ble_eq_true rfl) (g_184 (v := 50) bX5_canBeOne rfl) ⟨Nat.le_of_ble_eq_true rfl, Nat.le_of_ble_eq_true rfl⟩) (fun r_1 h_2 => ?_)
  rcases h_2 with ⟨rfl, h_3⟩ | ⟨rfl, h_3⟩
  · refine lv_if_eq (tgt := 50) hx hb dX5_canBeOne_8 (by decide +kernel) (fun h9 => absurd h9 (by decide +kernel)) (fun _ => ?_)
    refine lv_lload_n hx hb (g_32 bX5_canBeOne rfl) rfl (lv_at hl 1 rfl) ?_
    refine lv_lconst (v := 0) hx hb (g_9 bX5_canBeOne rfl) (by decide +kernel) ?_
    refine lv_ldc2 hx hb hown (hts _ m_t417) (g_20 (v := 359) bX5_canBeOne rfl) ?_
    refine kRi (rS (As := [.long J2, .long 0, .long 10]) (rest := []) ⟨hx, hb, hml, hown, hts⟩ (c_X5_within l G cy J2 0 10) L_X5_50 (preRS hN hP [] rfl) rfl ⟨Nat.le_of_ble_eq_true rfl, Nat.le_of_ble_eq_true rfl⟩ hl.1 (Nat.le_of_ble_eq_true rfl) (g_184 (v := 50) bX5_canBeOne rfl) ⟨Nat.le_of_ble_eq_true rfl, Nat.le_of_ble_eq_true rfl⟩) (fun r_5 h_6 => ?_)
    rcases h_6 with ⟨rfl, h_7⟩ | ⟨rfl, h_7⟩
    · refine lv_if_eq (tgt := 50) hx hb dX5_canBeOne_19 (by decide +kernel) (fun h9 => absurd h9 (by decide +kernel)) (fun _ => ?_)
      refine lv_lload hx hb (g_22 (v := 4) bX5_canBeOne rfl) (lv_at hl 2 rfl) ?_
      refine lv_lconst (v := 0) hx hb (g_9 bX5_canBeOne rfl) (by decide +kernel) ?_
      refine lv_ldc2 hx hb hown (hts _ m_t417) (g_20 (v := 359) bX5_canBeOne rfl) ?_
      refine kRi (rS (As := [.long J3, .long 0, .long 10]) (rest := []) ⟨hx, hb, hml, hown, hts⟩ (c_X5_within l G cy J3 0 10) L_X5_50 (preRS hN hP [] rfl) rfl ⟨Nat.le_of_ble_eq_true rfl, Nat.le_of_ble_eq_true rfl⟩ hl.1 (Nat.le_of_ble_eq_true rfl) (g_184 (v := 50) bX5_canBeOne rfl) ⟨Nat.le_of_ble_eq_true rfl, Nat.le_of_ble_eq_true rfl⟩) (fun r_9 h_10 => ?_)
      rcases h_10 with ⟨rfl, h_11⟩ | ⟨rfl, h_11⟩
      · refine lv_if_eq (tgt := 50) hx hb dX5_canBeOne_31 (by decide +kernel) (fun h9 => absurd h9 (by decide +kernel)) (fun _ => ?_)
        refine lv_lload hx hb (g_22 (v := 6) bX5_canBeOne rfl) (lv_at hl 3 rfl) ?_
        refine lv_lconst (v := 0) hx hb (g_9 bX5_canBeOne rfl) (by decide +kernel) ?_
        refine lv_ldc2 hx hb hown (hts _ m_t417) (g_20 (v := 359) bX5_canBeOne rfl) ?_
        refine kRi (rS (As := [.long J4, .long 0, .long 10]) (rest := []) ⟨hx, hb, hml, hown, hts⟩ (c_X5_within l G cy J4 0 10) L_X5_50 (preRS hN hP [] rfl) rfl ⟨Nat.le_of_ble_eq_true rfl, Nat.le_of_ble_eq_true rfl⟩ hl.1 (Nat.le_of_ble_eq_true rfl) (g_184 (v := 50) bX5_canBeOne rfl) ⟨Nat.le_of_ble_eq_true rfl, Nat.le_of_ble_eq_true rfl⟩) (fun r_13 h_14 => ?_)
        rcases h_14 with ⟨rfl, h_15⟩ | ⟨rfl, h_15⟩
        · refine lv_if_eq (tgt := 50) hx hb dX5_canBeOne_43 (by decide +kernel) (fun h9 => absurd h9 (by decide +kernel)) (fun _ => ?_)
          refine lv_iconst (v := 1) hx hb (g_4 bX5_canBeOne rfl) (by decide +kernel) ?_
          refine lv_goto (tgt := 51) hx hb dX5_canBeOne_47 (by decide +kernel) ?_
          exact endR hx hb hr hlocks rfl (Or.inl (⟨rfl, by simp [Iv, h_3, h_7, h_11, h_15]⟩)) (g_172 bX5_canBeOne rfl)
        · refine lv_if_eq (tgt := 50) hx hb dX5_canBeOne_43 (by decide +kernel) (fun _ => ?_) (fun h9 => absurd (by decide +kernel) h9)
          refine lv_iconst (v := 0) hx hb (g_3 bX5_canBeOne rfl) (by decide +kernel) ?_
          exact endR hx hb hr hlocks rfl (Or.inr (⟨rfl, by simp [Iv, h_3, h_7, h_11, h_15]⟩)) (g_172 bX5_canBeOne rfl)
      · refine lv_if_eq (tgt := 50) hx hb dX5_canBeOne_31 (by decide +kernel) (fun _ => ?_) (fun h9 => absurd (by decide +kernel) h9)
        refine lv_iconst (v := 0) hx hb (g_3 bX5_canBeOne rfl) (by decide +kernel) ?_
        exact endR hx hb hr hlocks rfl (Or.inr (⟨rfl, by simp [Iv, h_3, h_7, h_11]⟩)) (g_172 bX5_canBeOne rfl)
    · refine lv_if_eq (tgt := 50) hx hb dX5_canBeOne_19 (by decide +kernel) (fun _ => ?_) (fun h9 => absurd (by decide +kernel) h9)
      refine lv_iconst (v := 0) hx hb (g_3 bX5_canBeOne rfl) (by decide +kernel) ?_
      exact endR hx hb hr hlocks rfl (Or.inr (⟨rfl, by simp [Iv, h_3, h_7]⟩)) (g_172 bX5_canBeOne rfl)
  · refine lv_if_eq (tgt := 50) hx hb dX5_canBeOne_8 (by decide +kernel) (fun _ => ?_) (fun h9 => absurd (by decide +kernel) h9)
    refine lv_iconst (v := 0) hx hb (g_3 bX5_canBeOne rfl) (by decide +kernel) ?_
    exact endR hx hb hr hlocks rfl (Or.inr (⟨rfl, by simp [Iv, h_3]⟩)) (g_172 bX5_canBeOne rfl)
set_option maxHeartbeats 4000000 in
set_option maxRecDepth 100000 in
theorem c_X5_canBeTold (l : Launch) (G : va_G) (cy : Nat → ClassId) (iA : Int32) (iB : Int32)   : MR l yX5_canBeTold cX5_canBeTold 2 (some .boolean) 2 G cy [] [.int iA, .int iB] (vp_Si (fun r => (r = 1 ∧ Iv iA.toInt64 0 1000 ∧ Iv iB.toInt64 0 10) ∨ (r = 0 ∧ ¬ (Iv iA.toInt64 0 1000 ∧ Iv iB.toInt64 0 10)))) := by
  refine enR RX5 (by decide +kernel) rfl (Nat.le_of_ble_eq_true rfl) (fun p e s m below meth c ls hx hb hml hown hts hr hlocks hP hN hl => ?_)
  have hK := hN.1
  replace hl : lv_has ls 2 [(0, .int iA), (1, .int iB)] := hl
  refine lv_iload_n hx hb (g_26 bX5_canBeTold rfl) rfl (lv_at hl 0 rfl) ?_
  refine lv_i2l (v := iA.toInt64) hx hb (g_133 bX5_canBeTold rfl) rfl ?_
  refine lv_lconst (v := 0) hx hb (g_9 bX5_canBeTold rfl) (by decide +kernel) ?_
  refine lv_ldc2 hx hb hown (hts _ m_t591) (g_20 (v := 216) bX5_canBeTold rfl) ?_
  refine kRi (rS (As := [.long iA.toInt64, .long 0, .long 1000]) (rest := []) ⟨hx, hb, hml, hown, hts⟩ (c_X5_within l G cy iA.toInt64 0 1000) L_X5_50 (preRS hN hP [] rfl) rfl ⟨Nat.le_of_ble_eq_true rfl, Nat.le_of_ble_eq_true rfl⟩ hl.1 (Nat.le_of_ble_eq_true rfl) (g_184 (v := 50) bX5_canBeTold rfl) ⟨Nat.le_of_ble_eq_true rfl, Nat.le_of_ble_eq_true rfl⟩) (fun r_1 h_2 => ?_)
  rcases h_2 with ⟨rfl, h_3⟩ | ⟨rfl, h_3⟩
  · refine lv_if_eq (tgt := 28) hx hb dX5_canBeTold_9 (by decide +kernel) (fun h9 => absurd h9 (by decide +kernel)) (fun _ => ?_)
    refine lv_iload_n hx hb (g_27 bX5_canBeTold rfl) rfl (lv_at hl 1 rfl) ?_
    refine lv_i2l (v := iB.toInt64) hx hb (g_133 bX5_canBeTold rfl) rfl ?_
    refine lv_lconst (v := 0) hx hb (g_9 bX5_canBeTold rfl) (by decide +kernel) ?_
    refine lv_ldc2 hx hb hown (hts _ m_t417) (g_20 (v := 359) bX5_canBeTold rfl) ?_
    refine kRi (rS (As := [.long iB.toInt64, .long 0, .long 10]) (rest := []) ⟨hx, hb, hml, hown, hts⟩ (c_X5_within l G cy iB.toInt64 0 10) L_X5_50 (preRS hN hP [] rfl) rfl ⟨Nat.le_of_ble_eq_true rfl, Nat.le_of_ble_eq_true rfl⟩ hl.1 (Nat.le_of_ble_eq_true rfl) (g_184 (v := 50) bX5_canBeTold rfl) ⟨Nat.le_of_ble_eq_true rfl, Nat.le_of_ble_eq_true rfl⟩) (fun r_5 h_6 => ?_)
    rcases h_6 with ⟨rfl, h_7⟩ | ⟨rfl, h_7⟩
    · refine lv_if_eq (tgt := 28) hx hb dX5_canBeTold_21 (by decide +kernel) (fun h9 => absurd h9 (by decide +kernel)) (fun _ => ?_)
      refine lv_iconst (v := 1) hx hb (g_4 bX5_canBeTold rfl) (by decide +kernel) ?_
      refine lv_goto (tgt := 29) hx hb dX5_canBeTold_25 (by decide +kernel) ?_
      exact endR hx hb hr hlocks rfl (Or.inl (⟨rfl, by simp [Iv, h_3, h_7]⟩)) (g_172 bX5_canBeTold rfl)
    · refine lv_if_eq (tgt := 28) hx hb dX5_canBeTold_21 (by decide +kernel) (fun _ => ?_) (fun h9 => absurd (by decide +kernel) h9)
      refine lv_iconst (v := 0) hx hb (g_3 bX5_canBeTold rfl) (by decide +kernel) ?_
      exact endR hx hb hr hlocks rfl (Or.inr (⟨rfl, by simp [Iv, h_3, h_7]⟩)) (g_172 bX5_canBeTold rfl)
  · refine lv_if_eq (tgt := 28) hx hb dX5_canBeTold_9 (by decide +kernel) (fun _ => ?_) (fun h9 => absurd (by decide +kernel) h9)
    refine lv_iconst (v := 0) hx hb (g_3 bX5_canBeTold rfl) (by decide +kernel) ?_
    exact endR hx hb hr hlocks rfl (Or.inr (⟨rfl, by simp [Iv, h_3]⟩)) (g_172 bX5_canBeTold rfl)
set_option maxHeartbeats 4000000 in
set_option maxRecDepth 100000 in
theorem c_X5_isPair (l : Launch) (G : va_G) (cy : Nat → ClassId) (qx : Nat) (qt : Nat) (qk : Nat) (qp : Nat) (qs : Nat) (qa : Nat) (qr : Nat) (iKp : Int32) (iYe : Int32) (iTv : Int32) (tA : TA) (qtw : Nat) (qtn : Nat) (qtg : Nat) (qta : Nat) (qtr : Nat) (qtm : Nat) (qtt : Nat) (qts : Nat) (iA : Int32) (iB : Int32)  (hB : T_nb tA ≤ 8) (hPp : T_np tA ≤ 8) : MR l yX5_isPair cX5_isPair 3 (some .boolean) 2 G cy [zzO qx 4 [.ref qt, .ref qk, .ref qp, .ref qs, .ref qa, .ref qr, .int iKp, .int iYe, .int iTv], zzO qt 3 [.int (nI (T_nb tA)), .int (nI (T_np tA)), .int (wb (T_wh tA)), .int (wb (T_gn tA)), .int (T_sd tA), .ref qtw, .ref qtn, .ref qtg, .ref qta, .ref qtr, .ref qtm, .ref qtt, .ref qts]] [.ref qx, .int iA, .int iB] (vp_Si (fun r => (r = 1 ∧ (∃ k : Nat, k < T_np tA ∧ iA = nI k) ∧ (∃ k : Nat, k < T_nb tA ∧ iB = nI k)) ∨ (r = 0 ∧ ¬ ((∃ k : Nat, k < T_np tA ∧ iA = nI k) ∧ (∃ k : Nat, k < T_nb tA ∧ iB = nI k))))) := by
  refine enR RX5 (by decide +kernel) rfl (Nat.le_of_ble_eq_true rfl) (fun p e s m below meth c ls hx hb hml hown hts hr hlocks hP hN hl => ?_)
  have hK := hN.1
  replace hl : lv_has ls 3 [(0, .ref qx), (1, .int iA), (2, .int iB)] := hl
  refine lv_aload_n hx hb (g_42 bX5_isPair rfl) rfl (lv_at hl 0 rfl) ?_
  refine va_get (D := G) (ci := 4) (v := .ref qt) (C := RX5) (T := TX5) (N := 9) hx hb hts iX_X5 hown hK hP 0 rfl rfl 0 (by decide +kernel) (hts _ m_t174) (fun _ h9 => h9) rfl (g_180 (v := 10) bX5_isPair rfl) ?_
  refine lv_iload_n hx hb (g_27 bX5_isPair rfl) rfl (lv_at hl 1 rfl) ?_
  refine kRi (rV (As := [.int iA]) (rest := []) (b := qt) ⟨hx, hb, hml, hown, hts⟩ (c_X4_isOne l G cy qt tA qtw qtn qtg qta qtr qtm qtt qts iA hPp) L_X5_192 (preRV (q := (RX4, TX4, 13)) hN hP [1] rfl 1 3 rfl rfl) rfl ⟨Nat.le_of_ble_eq_true rfl, Nat.le_of_ble_eq_true rfl⟩ hl.1 (Nat.le_of_ble_eq_true rfl) (g_182 (v := 192) bX5_isPair rfl) ⟨Nat.le_of_ble_eq_true rfl, Nat.le_of_ble_eq_true rfl⟩) (fun r_1 h_2 => ?_)
  rcases h_2 with ⟨rfl, h_3⟩ | ⟨rfl, h_3⟩
  · refine lv_if_eq (tgt := 26) hx hb dX5_isPair_8 (by decide +kernel) (fun h9 => absurd h9 (by decide +kernel)) (fun _ => ?_)
    refine lv_aload_n hx hb (g_42 bX5_isPair rfl) rfl (lv_at hl 0 rfl) ?_
    refine va_get (D := G) (ci := 4) (v := .ref qt) (C := RX5) (T := TX5) (N := 9) hx hb hts iX_X5 hown hK hP 0 rfl rfl 0 (by decide +kernel) (hts _ m_t174) (fun _ h9 => h9) rfl (g_180 (v := 10) bX5_isPair rfl) ?_
    refine lv_iload_n hx hb (g_28 bX5_isPair rfl) rfl (lv_at hl 2 rfl) ?_
    refine kRi (rV (As := [.int iB]) (rest := []) (b := qt) ⟨hx, hb, hml, hown, hts⟩ (c_X4_isBook l G cy qt tA qtw qtn qtg qta qtr qtm qtt qts iB hB) L_X5_168 (preRV (q := (RX4, TX4, 13)) hN hP [1] rfl 1 3 rfl rfl) rfl ⟨Nat.le_of_ble_eq_true rfl, Nat.le_of_ble_eq_true rfl⟩ hl.1 (Nat.le_of_ble_eq_true rfl) (g_182 (v := 168) bX5_isPair rfl) ⟨Nat.le_of_ble_eq_true rfl, Nat.le_of_ble_eq_true rfl⟩) (fun r_5 h_6 => ?_)
    rcases h_6 with ⟨rfl, h_7⟩ | ⟨rfl, h_7⟩
    · refine lv_if_eq (tgt := 26) hx hb dX5_isPair_19 (by decide +kernel) (fun h9 => absurd h9 (by decide +kernel)) (fun _ => ?_)
      refine lv_iconst (v := 1) hx hb (g_4 bX5_isPair rfl) (by decide +kernel) ?_
      refine lv_goto (tgt := 27) hx hb dX5_isPair_23 (by decide +kernel) ?_
      exact endR hx hb hr hlocks rfl (Or.inl (⟨rfl, ⟨h_3, h_7⟩⟩)) (g_172 bX5_isPair rfl)
    · refine lv_if_eq (tgt := 26) hx hb dX5_isPair_19 (by decide +kernel) (fun _ => ?_) (fun h9 => absurd (by decide +kernel) h9)
      refine lv_iconst (v := 0) hx hb (g_3 bX5_isPair rfl) (by decide +kernel) ?_
      exact endR hx hb hr hlocks rfl (Or.inr (⟨rfl, (fun q => h_7 q.2)⟩)) (g_172 bX5_isPair rfl)
  · refine lv_if_eq (tgt := 26) hx hb dX5_isPair_8 (by decide +kernel) (fun _ => ?_) (fun h9 => absurd (by decide +kernel) h9)
    refine lv_iconst (v := 0) hx hb (g_3 bX5_isPair rfl) (by decide +kernel) ?_
    exact endR hx hb hr hlocks rfl (Or.inr (⟨rfl, (fun q => h_3 q.1)⟩)) (g_172 bX5_isPair rfl)
set_option maxHeartbeats 4000000 in
set_option maxRecDepth 100000 in
theorem c_X5_readFit (l : Launch) (G : va_G) (cy : Nat → ClassId) (qx : Nat) (qt : Nat) (qk : Nat) (qp : Nat) (qs : Nat) (qa : Nat) (qr : Nat) (iKp : Int32) (iYe : Int32) (iTv : Int32) (tA : TA) (qtw : Nat) (qtn : Nat) (qtg : Nat) (qta : Nat) (qtr : Nat) (qtm : Nat) (qtt : Nat) (qts : Nat) (iA : Int32) (iB : Int32)  (hB : T_nb tA ≤ 8) (hPp : T_np tA ≤ 8) : MR l yX5_readFit cX5_readFit 3 (some .int) 3 G cy [zzO qx 4 [.ref qt, .ref qk, .ref qp, .ref qs, .ref qa, .ref qr, .int iKp, .int iYe, .int iTv], zzO qt 3 [.int (nI (T_nb tA)), .int (nI (T_np tA)), .int (wb (T_wh tA)), .int (wb (T_gn tA)), .int (T_sd tA), .ref qtw, .ref qtn, .ref qtg, .ref qta, .ref qtr, .ref qtm, .ref qtt, .ref qts]] [.ref qx, .int iA, .int iB] (vp_Si (fun r => (r = (-2) ∧ ¬ ((∃ k : Nat, k < T_np tA ∧ iA = nI k) ∧ (∃ k : Nat, k < T_nb tA ∧ iB = nI k))) ∨ (r = (-5) ∧ ∃ k m : Nat, k < T_np tA ∧ m < T_nb tA ∧ iA = nI k ∧ iB = nI m ∧ (T_wh tA m = true ∨ T_gn tA k = true)) ∨ (r = 0 ∧ ∃ k m : Nat, k < T_np tA ∧ m < T_nb tA ∧ iA = nI k ∧ iB = nI m ∧ T_wh tA m = false ∧ T_gn tA k = false))) := by
  refine enR RX5 (by decide +kernel) rfl (Nat.le_of_ble_eq_true rfl) (fun p e s m below meth c ls hx hb hml hown hts hr hlocks hP hN hl => ?_)
  have hK := hN.1
  replace hl : lv_has ls 3 [(0, .ref qx), (1, .int iA), (2, .int iB)] := hl
  refine lv_aload_n hx hb (g_42 bX5_readFit rfl) rfl (lv_at hl 0 rfl) ?_
  refine lv_iload_n hx hb (g_27 bX5_readFit rfl) rfl (lv_at hl 1 rfl) ?_
  refine lv_iload_n hx hb (g_28 bX5_readFit rfl) rfl (lv_at hl 2 rfl) ?_
  refine kRi (rV (As := [.int iA, .int iB]) (rest := []) (b := qx) ⟨hx, hb, hml, hown, hts⟩ (c_X5_isPair l G cy qx qt qk qp qs qa qr iKp iYe iTv tA qtw qtn qtg qta qtr qtm qtt qts iA iB hB hPp) L_X5_210 (preRV (q := (RX5, TX5, 9)) hN hP [0, 1] rfl 0 4 rfl rfl) rfl ⟨Nat.le_of_ble_eq_true rfl, Nat.le_of_ble_eq_true rfl⟩ hl.1 (Nat.le_of_ble_eq_true rfl) (g_182 (v := 210) bX5_readFit rfl) ⟨Nat.le_of_ble_eq_true rfl, Nat.le_of_ble_eq_true rfl⟩) (fun r_1 h_2 => ?_)
  rcases h_2 with ⟨rfl, h_3⟩ | ⟨rfl, h_3⟩
  · refine lv_if_ne (tgt := 12) hx hb dX5_readFit_6 (by decide +kernel) (fun _ => ?_) (fun h9 => absurd h9 (by decide +kernel))
    obtain ⟨⟨k_5, hk_7, rfl⟩, ⟨k_6, hk_8, rfl⟩⟩ := h_3
    refine lv_aload_n hx hb (g_42 bX5_readFit rfl) rfl (lv_at hl 0 rfl) ?_
    refine va_get (D := G) (ci := 4) (v := .ref qt) (C := RX5) (T := TX5) (N := 9) hx hb hts iX_X5 hown hK hP 0 rfl rfl 0 (by decide +kernel) (hts _ m_t174) (fun _ h9 => h9) rfl (g_180 (v := 10) bX5_readFit rfl) ?_
    refine va_getN (D := G) (ci := 3) (v := .int (wb (T_wh tA))) (C := RX4) (T := TX4) (N := 13) hx hb hts iX_X4 hown hK hP 1 rfl rfl 2 (by decide +kernel) (va_Nw.use rfl (hN.2.1 (RX5, 180, "EachBookOnce$Town", "white", "I") (List.mem_of_getElem? (i := 10) rfl))) (fun _ h9 => h9) rfl (g_180 (v := 180) bX5_readFit rfl) ?_
    refine lv_iload_n hx hb (g_28 bX5_readFit rfl) rfl (lv_at hl 2 rfl) ?_
    refine kRi (rS (As := [.int (wb (T_wh tA)), .int (nI k_6)]) (rest := []) ⟨hx, hb, hml, hown, hts⟩ (c_X5_has l G cy (wb (T_wh tA)) k_6) L_X5_183 (preRS hN hP [] rfl) rfl ⟨Nat.le_of_ble_eq_true rfl, Nat.le_of_ble_eq_true rfl⟩ hl.1 (Nat.le_of_ble_eq_true rfl) (g_184 (v := 183) bX5_readFit rfl) ⟨Nat.le_of_ble_eq_true rfl, Nat.le_of_ble_eq_true rfl⟩) (fun r_9 h_10 => ?_)
    rcases h_10 with ⟨rfl, h_11⟩ | ⟨rfl, h_11⟩
    · rw [bit_wb _ (by omega)] at h_11
      refine lv_if_ne (tgt := 40) hx hb dX5_readFit_23 (by decide +kernel) (fun _ => ?_) (fun h9 => absurd h9 (by decide +kernel))
      refine lv_bipush (v := (-5)) hx hb dX5_readFit_40 (by decide +kernel) ?_
      refine lv_goto (tgt := 46) hx hb dX5_readFit_42 (by decide +kernel) ?_
      exact endR hx hb hr hlocks rfl (Or.inr (Or.inl (⟨rfl, ⟨k_5, k_6, hk_7, hk_8, rfl, rfl, Or.inl h_11⟩⟩))) (g_172 bX5_readFit rfl)
    · rw [bit_wb _ (by omega)] at h_11
      refine lv_if_ne (tgt := 40) hx hb dX5_readFit_23 (by decide +kernel) (fun h9 => absurd (by decide +kernel) h9) (fun _ => ?_)
      refine lv_aload_n hx hb (g_42 bX5_readFit rfl) rfl (lv_at hl 0 rfl) ?_
      refine va_get (D := G) (ci := 4) (v := .ref qt) (C := RX5) (T := TX5) (N := 9) hx hb hts iX_X5 hown hK hP 0 rfl rfl 0 (by decide +kernel) (hts _ m_t174) (fun _ h9 => h9) rfl (g_180 (v := 10) bX5_readFit rfl) ?_
      refine va_getN (D := G) (ci := 3) (v := .int (wb (T_gn tA))) (C := RX4) (T := TX4) (N := 13) hx hb hts iX_X4 hown hK hP 1 rfl rfl 3 (by decide +kernel) (va_Nw.use rfl (hN.2.1 (RX5, 207, "EachBookOnce$Town", "gone", "I") (List.mem_of_getElem? (i := 12) rfl))) (fun _ h9 => h9) rfl (g_180 (v := 207) bX5_readFit rfl) ?_
      refine lv_iload_n hx hb (g_27 bX5_readFit rfl) rfl (lv_at hl 1 rfl) ?_
      refine kRi (rS (As := [.int (wb (T_gn tA)), .int (nI k_5)]) (rest := []) ⟨hx, hb, hml, hown, hts⟩ (c_X5_has l G cy (wb (T_gn tA)) k_5) L_X5_183 (preRS hN hP [] rfl) rfl ⟨Nat.le_of_ble_eq_true rfl, Nat.le_of_ble_eq_true rfl⟩ hl.1 (Nat.le_of_ble_eq_true rfl) (g_184 (v := 183) bX5_readFit rfl) ⟨Nat.le_of_ble_eq_true rfl, Nat.le_of_ble_eq_true rfl⟩) (fun r_14 h_15 => ?_)
      rcases h_15 with ⟨rfl, h_16⟩ | ⟨rfl, h_16⟩
      · rw [bit_wb _ (by omega)] at h_16
        refine lv_if_eq (tgt := 45) hx hb dX5_readFit_37 (by decide +kernel) (fun h9 => absurd h9 (by decide +kernel)) (fun _ => ?_)
        refine lv_bipush (v := (-5)) hx hb dX5_readFit_40 (by decide +kernel) ?_
        refine lv_goto (tgt := 46) hx hb dX5_readFit_42 (by decide +kernel) ?_
        exact endR hx hb hr hlocks rfl (Or.inr (Or.inl (⟨rfl, ⟨k_5, k_6, hk_7, hk_8, rfl, rfl, Or.inr h_16⟩⟩))) (g_172 bX5_readFit rfl)
      · rw [bit_wb _ (by omega)] at h_16
        refine lv_if_eq (tgt := 45) hx hb dX5_readFit_37 (by decide +kernel) (fun _ => ?_) (fun h9 => absurd (by decide +kernel) h9)
        refine lv_iconst (v := 0) hx hb (g_3 bX5_readFit rfl) (by decide +kernel) ?_
        exact endR hx hb hr hlocks rfl (Or.inr (Or.inr (⟨rfl, ⟨k_5, k_6, hk_7, hk_8, rfl, rfl, h_11, h_16⟩⟩))) (g_172 bX5_readFit rfl)
  · refine lv_if_ne (tgt := 12) hx hb dX5_readFit_6 (by decide +kernel) (fun h9 => absurd (by decide +kernel) h9) (fun _ => ?_)
    refine lv_bipush (v := (-2)) hx hb dX5_readFit_9 (by decide +kernel) ?_
    exact endR hx hb hr hlocks rfl (Or.inl (⟨rfl, h_3⟩)) (g_172 bX5_readFit rfl)
set_option maxHeartbeats 4000000 in
set_option maxRecDepth 100000 in
theorem c_X5_rowFit (l : Launch) (G : va_G) (cy : Nat → ClassId) (qx : Nat) (qt : Nat) (qk : Nat) (qp : Nat) (qs : Nat) (qa : Nat) (qr : Nat) (iKp : Int32) (iYe : Int32) (iTv : Int32) (qsh : Nat) (qss : Nat) (qsa : Nat) (qse : Nat) (fH : Nat → Int32) (iA : Int32)   : MR l yX5_rowFit cX5_rowFit 2 (some .int) 3 G cy [zzO qx 4 [.ref qt, .ref qk, .ref qp, .ref qs, .ref qa, .ref qr, .int iKp, .int iYe, .int iTv], zzO qs 1 [.ref qsh, .ref qss, .ref qsa, .ref qse], zzI cy qsh 8 fH] [.ref qx, .int iA] (vp_Si (fun r => (r = (-2) ∧ ¬ ∃ k : Nat, k < 8 ∧ iA = nI k) ∨ (r = (-3) ∧ ∃ k : Nat, k < 8 ∧ iA = nI k ∧ 10 ≤ fH k) ∨ (r = 0 ∧ ∃ k : Nat, k < 8 ∧ iA = nI k ∧ ¬ 10 ≤ fH k ∧ Rw (fH k)) ∨ (r = (-4) ∧ ∃ k : Nat, k < 8 ∧ iA = nI k ∧ ¬ 10 ≤ fH k ∧ ¬ Rw (fH k)))) := by
  refine enR RX5 (by decide +kernel) rfl (Nat.le_of_ble_eq_true rfl) (fun p e s m below meth c ls hx hb hml hown hts hr hlocks hP hN hl => ?_)
  have hK := hN.1
  replace hl : lv_has ls 2 [(0, .ref qx), (1, .int iA)] := hl
  refine lv_iload_n hx hb (g_27 bX5_rowFit rfl) rfl (lv_at hl 1 rfl) ?_
  refine kRi (rS (As := [.int iA]) (rest := []) ⟨hx, hb, hml, hown, hts⟩ (c_X5_isShelf l G cy iA) L_X5_44 (preRS hN hP [] rfl) rfl ⟨Nat.le_of_ble_eq_true rfl, Nat.le_of_ble_eq_true rfl⟩ hl.1 (Nat.le_of_ble_eq_true rfl) (g_184 (v := 44) bX5_rowFit rfl) ⟨Nat.le_of_ble_eq_true rfl, Nat.le_of_ble_eq_true rfl⟩) (fun r_1 h_2 => ?_)
  rcases h_2 with ⟨rfl, h_3⟩ | ⟨rfl, h_3⟩
  · obtain ⟨k_4, hk_5, rfl⟩ := h_3
    refine lv_if_ne (tgt := 10) hx hb dX5_rowFit_4 (by decide +kernel) (fun _ => ?_) (fun h9 => absurd h9 (by decide +kernel))
    refine lv_aload_n hx hb (g_42 bX5_rowFit rfl) rfl (lv_at hl 0 rfl) ?_
    refine va_get (D := G) (ci := 4) (v := .ref qs) (C := RX5) (T := TX5) (N := 9) hx hb hts iX_X5 hown hK hP 0 rfl rfl 3 (by decide +kernel) (hts _ m_t177) (fun _ h9 => h9) rfl (g_180 (v := 29) bX5_rowFit rfl) ?_
    refine lv_iload_n hx hb (g_27 bX5_rowFit rfl) rfl (lv_at hl 1 rfl) ?_
    refine kRi (rV (As := [.int (nI k_4)]) (rest := []) (b := qs) ⟨hx, hb, hml, hown, hts⟩ (c_X2_hasRule l G cy qs qsh qss qsa qse fH k_4 (by first | omega | (simp only [nb_sr, np_sr, nb_wr, np_wr, nb_rd, np_rd, nb_ch, np_ch, nb_zr, np_zr, nb_za, np_za, nb_ey, np_ey, nb_hf, np_hf, nb_dd, np_dd, nb_so, np_so, nb_skn, np_skn, nb_swh, np_swh, nb_sgn, np_sgn, nb_ssd, np_ssd, nb_sgo, np_sgo, nb_sag, np_sag]; omega))) L_X5_361 (preRV (q := (RX2, TX2, 4)) hN hP [1, 2] rfl 1 1 rfl rfl) rfl ⟨Nat.le_of_ble_eq_true rfl, Nat.le_of_ble_eq_true rfl⟩ hl.1 (Nat.le_of_ble_eq_true rfl) (g_182 (v := 361) bX5_rowFit rfl) ⟨Nat.le_of_ble_eq_true rfl, Nat.le_of_ble_eq_true rfl⟩) (fun r_7 h_8 => ?_)
    rcases h_8 with ⟨rfl, h_9⟩ | ⟨rfl, h_9⟩
    · refine lv_if_eq (tgt := 24) hx hb dX5_rowFit_18 (by decide +kernel) (fun h9 => absurd h9 (by decide +kernel)) (fun _ => ?_)
      refine lv_bipush (v := (-3)) hx hb dX5_rowFit_21 (by decide +kernel) ?_
      exact endR hx hb hr hlocks rfl (Or.inr (Or.inl (⟨rfl, ⟨k_4, hk_5, rfl, h_9⟩⟩))) (g_172 bX5_rowFit rfl)
    · refine lv_if_eq (tgt := 24) hx hb dX5_rowFit_18 (by decide +kernel) (fun _ => ?_) (fun h9 => absurd (by decide +kernel) h9)
      refine lv_aload_n hx hb (g_42 bX5_rowFit rfl) rfl (lv_at hl 0 rfl) ?_
      refine va_get (D := G) (ci := 4) (v := .ref qs) (C := RX5) (T := TX5) (N := 9) hx hb hts iX_X5 hown hK hP 0 rfl rfl 3 (by decide +kernel) (hts _ m_t177) (fun _ h9 => h9) rfl (g_180 (v := 29) bX5_rowFit rfl) ?_
      refine lv_iload_n hx hb (g_27 bX5_rowFit rfl) rfl (lv_at hl 1 rfl) ?_
      refine kRi (rV (As := [.int (nI k_4)]) (rest := []) (b := qs) ⟨hx, hb, hml, hown, hts⟩ (c_X2_hasRow l G cy qs qsh qss qsa qse fH k_4 (by first | omega | (simp only [nb_sr, np_sr, nb_wr, np_wr, nb_rd, np_rd, nb_ch, np_ch, nb_zr, np_zr, nb_za, np_za, nb_ey, np_ey, nb_hf, np_hf, nb_dd, np_dd, nb_so, np_so, nb_skn, np_skn, nb_swh, np_swh, nb_sgn, np_sgn, nb_ssd, np_ssd, nb_sgo, np_sgo, nb_sag, np_sag]; omega))) L_X5_364 (preRV (q := (RX2, TX2, 4)) hN hP [1, 2] rfl 1 1 rfl rfl) rfl ⟨Nat.le_of_ble_eq_true rfl, Nat.le_of_ble_eq_true rfl⟩ hl.1 (Nat.le_of_ble_eq_true rfl) (g_182 (v := 364) bX5_rowFit rfl) ⟨Nat.le_of_ble_eq_true rfl, Nat.le_of_ble_eq_true rfl⟩) (fun r_12 h_13 => ?_)
      rcases h_13 with ⟨rfl, h_14⟩ | ⟨rfl, h_14⟩
      · refine lv_if_eq (tgt := 39) hx hb dX5_rowFit_32 (by decide +kernel) (fun h9 => absurd h9 (by decide +kernel)) (fun _ => ?_)
        refine lv_iconst (v := 0) hx hb (g_3 bX5_rowFit rfl) (by decide +kernel) ?_
        refine lv_goto (tgt := 41) hx hb dX5_rowFit_36 (by decide +kernel) ?_
        exact endR hx hb hr hlocks rfl (Or.inr (Or.inr (Or.inl (⟨rfl, ⟨k_4, hk_5, rfl, h_9, h_14⟩⟩)))) (g_172 bX5_rowFit rfl)
      · refine lv_if_eq (tgt := 39) hx hb dX5_rowFit_32 (by decide +kernel) (fun _ => ?_) (fun h9 => absurd (by decide +kernel) h9)
        refine lv_bipush (v := (-4)) hx hb dX5_rowFit_39 (by decide +kernel) ?_
        exact endR hx hb hr hlocks rfl (Or.inr (Or.inr (Or.inr (⟨rfl, ⟨k_4, hk_5, rfl, h_9, h_14⟩⟩)))) (g_172 bX5_rowFit rfl)
  · refine lv_if_ne (tgt := 10) hx hb dX5_rowFit_4 (by decide +kernel) (fun h9 => absurd (by decide +kernel) h9) (fun _ => ?_)
    refine lv_bipush (v := (-2)) hx hb dX5_rowFit_7 (by decide +kernel) ?_
    exact endR hx hb hr hlocks rfl (Or.inl (⟨rfl, h_3⟩)) (g_172 bX5_rowFit rfl)
set_option maxHeartbeats 4000000 in
set_option maxRecDepth 100000 in
theorem c_X5_ruleFitK (l : Launch) (G : va_G) (cy : Nat → ClassId) (qx : Nat) (qt : Nat) (qk : Nat) (qp : Nat) (qs : Nat) (qa : Nat) (qr : Nat) (iKp : Int32) (iYe : Int32) (iTv : Int32) (qsh : Nat) (qss : Nat) (qsa : Nat) (qse : Nat) (fH : Nat → Int32) (kS : Nat)  (hS8 : kS < 8) : MR l yX5_ruleFit cX5_ruleFit 2 (some .int) 3 G cy [zzO qx 4 [.ref qt, .ref qk, .ref qp, .ref qs, .ref qa, .ref qr, .int iKp, .int iYe, .int iTv], zzO qs 1 [.ref qsh, .ref qss, .ref qsa, .ref qse], zzI cy qsh 8 fH] [.ref qx, .int (nI kS)] (vp_Si (fun r => (r = (-3) ∧ Rw (fH kS)) ∨ (r = 0 ∧ ¬ Rw (fH kS) ∧ 10 ≤ fH kS) ∨ (r = (-4) ∧ ¬ Rw (fH kS) ∧ ¬ 10 ≤ fH kS))) := by
  refine enR RX5 (by decide +kernel) rfl (Nat.le_of_ble_eq_true rfl) (fun p e s m below meth c ls hx hb hml hown hts hr hlocks hP hN hl => ?_)
  have hK := hN.1
  replace hl : lv_has ls 2 [(0, .ref qx), (1, .int (nI kS))] := hl
  refine lv_iload_n hx hb (g_27 bX5_ruleFit rfl) rfl (lv_at hl 1 rfl) ?_
  refine kRi (rS (As := [.int (nI kS)]) (rest := []) ⟨hx, hb, hml, hown, hts⟩ (c_X5_isShelf l G cy (nI kS)) L_X5_44 (preRS hN hP [] rfl) rfl ⟨Nat.le_of_ble_eq_true rfl, Nat.le_of_ble_eq_true rfl⟩ hl.1 (Nat.le_of_ble_eq_true rfl) (g_184 (v := 44) bX5_ruleFit rfl) ⟨Nat.le_of_ble_eq_true rfl, Nat.le_of_ble_eq_true rfl⟩) (fun r_1 h_2 => ?_)
  rcases h_2 with ⟨rfl, h_3⟩ | ⟨rfl, h_3⟩
  · refine lv_if_ne (tgt := 10) hx hb dX5_ruleFit_4 (by decide +kernel) (fun _ => ?_) (fun h9 => absurd h9 (by decide +kernel))
    refine lv_aload_n hx hb (g_42 bX5_ruleFit rfl) rfl (lv_at hl 0 rfl) ?_
    refine va_get (D := G) (ci := 4) (v := .ref qs) (C := RX5) (T := TX5) (N := 9) hx hb hts iX_X5 hown hK hP 0 rfl rfl 3 (by decide +kernel) (hts _ m_t177) (fun _ h9 => h9) rfl (g_180 (v := 29) bX5_ruleFit rfl) ?_
    refine lv_iload_n hx hb (g_27 bX5_ruleFit rfl) rfl (lv_at hl 1 rfl) ?_
    refine kRi (rV (As := [.int (nI kS)]) (rest := []) (b := qs) ⟨hx, hb, hml, hown, hts⟩ (c_X2_hasRow l G cy qs qsh qss qsa qse fH kS hS8) L_X5_364 (preRV (q := (RX2, TX2, 4)) hN hP [1, 2] rfl 1 1 rfl rfl) rfl ⟨Nat.le_of_ble_eq_true rfl, Nat.le_of_ble_eq_true rfl⟩ hl.1 (Nat.le_of_ble_eq_true rfl) (g_182 (v := 364) bX5_ruleFit rfl) ⟨Nat.le_of_ble_eq_true rfl, Nat.le_of_ble_eq_true rfl⟩) (fun r_5 h_6 => ?_)
    rcases h_6 with ⟨rfl, h_7⟩ | ⟨rfl, h_7⟩
    · refine lv_if_eq (tgt := 24) hx hb dX5_ruleFit_18 (by decide +kernel) (fun h9 => absurd h9 (by decide +kernel)) (fun _ => ?_)
      refine lv_bipush (v := (-3)) hx hb dX5_ruleFit_21 (by decide +kernel) ?_
      exact endR hx hb hr hlocks rfl (Or.inl (⟨rfl, h_7⟩)) (g_172 bX5_ruleFit rfl)
    · refine lv_if_eq (tgt := 24) hx hb dX5_ruleFit_18 (by decide +kernel) (fun _ => ?_) (fun h9 => absurd (by decide +kernel) h9)
      refine lv_aload_n hx hb (g_42 bX5_ruleFit rfl) rfl (lv_at hl 0 rfl) ?_
      refine va_get (D := G) (ci := 4) (v := .ref qs) (C := RX5) (T := TX5) (N := 9) hx hb hts iX_X5 hown hK hP 0 rfl rfl 3 (by decide +kernel) (hts _ m_t177) (fun _ h9 => h9) rfl (g_180 (v := 29) bX5_ruleFit rfl) ?_
      refine lv_iload_n hx hb (g_27 bX5_ruleFit rfl) rfl (lv_at hl 1 rfl) ?_
      refine kRi (rV (As := [.int (nI kS)]) (rest := []) (b := qs) ⟨hx, hb, hml, hown, hts⟩ (c_X2_hasRule l G cy qs qsh qss qsa qse fH kS hS8) L_X5_361 (preRV (q := (RX2, TX2, 4)) hN hP [1, 2] rfl 1 1 rfl rfl) rfl ⟨Nat.le_of_ble_eq_true rfl, Nat.le_of_ble_eq_true rfl⟩ hl.1 (Nat.le_of_ble_eq_true rfl) (g_182 (v := 361) bX5_ruleFit rfl) ⟨Nat.le_of_ble_eq_true rfl, Nat.le_of_ble_eq_true rfl⟩) (fun r_10 h_11 => ?_)
      rcases h_11 with ⟨rfl, h_12⟩ | ⟨rfl, h_12⟩
      · refine lv_if_eq (tgt := 39) hx hb dX5_ruleFit_32 (by decide +kernel) (fun h9 => absurd h9 (by decide +kernel)) (fun _ => ?_)
        refine lv_iconst (v := 0) hx hb (g_3 bX5_ruleFit rfl) (by decide +kernel) ?_
        refine lv_goto (tgt := 41) hx hb dX5_ruleFit_36 (by decide +kernel) ?_
        exact endR hx hb hr hlocks rfl (Or.inr (Or.inl (⟨rfl, ⟨h_7, h_12⟩⟩))) (g_172 bX5_ruleFit rfl)
      · refine lv_if_eq (tgt := 39) hx hb dX5_ruleFit_32 (by decide +kernel) (fun _ => ?_) (fun h9 => absurd (by decide +kernel) h9)
        refine lv_bipush (v := (-4)) hx hb dX5_ruleFit_39 (by decide +kernel) ?_
        exact endR hx hb hr hlocks rfl (Or.inr (Or.inr (⟨rfl, ⟨h_7, h_12⟩⟩))) (g_172 bX5_ruleFit rfl)
  · exact absurd ⟨kS, hS8, rfl⟩ h_3
set_option maxHeartbeats 4000000 in
set_option maxRecDepth 100000 in
theorem c_X5_ruleFit (l : Launch) (G : va_G) (cy : Nat → ClassId) (qx : Nat) (qt : Nat) (qk : Nat) (qp : Nat) (qs : Nat) (qa : Nat) (qr : Nat) (iKp : Int32) (iYe : Int32) (iTv : Int32) (qsh : Nat) (qss : Nat) (qsa : Nat) (qse : Nat) (fH : Nat → Int32) (iA : Int32)   : MR l yX5_ruleFit cX5_ruleFit 2 (some .int) 3 G cy [zzO qx 4 [.ref qt, .ref qk, .ref qp, .ref qs, .ref qa, .ref qr, .int iKp, .int iYe, .int iTv], zzO qs 1 [.ref qsh, .ref qss, .ref qsa, .ref qse], zzI cy qsh 8 fH] [.ref qx, .int iA] (vp_Si (fun r => (r = (-2) ∧ ¬ ∃ k : Nat, k < 8 ∧ iA = nI k) ∨ (r = (-3) ∧ ∃ k : Nat, k < 8 ∧ iA = nI k ∧ Rw (fH k)) ∨ (r = 0 ∧ ∃ k : Nat, k < 8 ∧ iA = nI k ∧ ¬ Rw (fH k) ∧ 10 ≤ fH k) ∨ (r = (-4) ∧ ∃ k : Nat, k < 8 ∧ iA = nI k ∧ ¬ Rw (fH k) ∧ ¬ 10 ≤ fH k))) := by
  refine enR RX5 (by decide +kernel) rfl (Nat.le_of_ble_eq_true rfl) (fun p e s m below meth c ls hx hb hml hown hts hr hlocks hP hN hl => ?_)
  have hK := hN.1
  replace hl : lv_has ls 2 [(0, .ref qx), (1, .int iA)] := hl
  refine lv_iload_n hx hb (g_27 bX5_ruleFit rfl) rfl (lv_at hl 1 rfl) ?_
  refine kRi (rS (As := [.int iA]) (rest := []) ⟨hx, hb, hml, hown, hts⟩ (c_X5_isShelf l G cy iA) L_X5_44 (preRS hN hP [] rfl) rfl ⟨Nat.le_of_ble_eq_true rfl, Nat.le_of_ble_eq_true rfl⟩ hl.1 (Nat.le_of_ble_eq_true rfl) (g_184 (v := 44) bX5_ruleFit rfl) ⟨Nat.le_of_ble_eq_true rfl, Nat.le_of_ble_eq_true rfl⟩) (fun r_1 h_2 => ?_)
  rcases h_2 with ⟨rfl, h_3⟩ | ⟨rfl, h_3⟩
  · obtain ⟨k_4, hk_5, rfl⟩ := h_3
    refine lv_if_ne (tgt := 10) hx hb dX5_ruleFit_4 (by decide +kernel) (fun _ => ?_) (fun h9 => absurd h9 (by decide +kernel))
    refine lv_aload_n hx hb (g_42 bX5_ruleFit rfl) rfl (lv_at hl 0 rfl) ?_
    refine va_get (D := G) (ci := 4) (v := .ref qs) (C := RX5) (T := TX5) (N := 9) hx hb hts iX_X5 hown hK hP 0 rfl rfl 3 (by decide +kernel) (hts _ m_t177) (fun _ h9 => h9) rfl (g_180 (v := 29) bX5_ruleFit rfl) ?_
    refine lv_iload_n hx hb (g_27 bX5_ruleFit rfl) rfl (lv_at hl 1 rfl) ?_
    refine kRi (rV (As := [.int (nI k_4)]) (rest := []) (b := qs) ⟨hx, hb, hml, hown, hts⟩ (c_X2_hasRow l G cy qs qsh qss qsa qse fH k_4 (by first | omega | (simp only [nb_sr, np_sr, nb_wr, np_wr, nb_rd, np_rd, nb_ch, np_ch, nb_zr, np_zr, nb_za, np_za, nb_ey, np_ey, nb_hf, np_hf, nb_dd, np_dd, nb_so, np_so, nb_skn, np_skn, nb_swh, np_swh, nb_sgn, np_sgn, nb_ssd, np_ssd, nb_sgo, np_sgo, nb_sag, np_sag]; omega))) L_X5_364 (preRV (q := (RX2, TX2, 4)) hN hP [1, 2] rfl 1 1 rfl rfl) rfl ⟨Nat.le_of_ble_eq_true rfl, Nat.le_of_ble_eq_true rfl⟩ hl.1 (Nat.le_of_ble_eq_true rfl) (g_182 (v := 364) bX5_ruleFit rfl) ⟨Nat.le_of_ble_eq_true rfl, Nat.le_of_ble_eq_true rfl⟩) (fun r_7 h_8 => ?_)
    rcases h_8 with ⟨rfl, h_9⟩ | ⟨rfl, h_9⟩
    · refine lv_if_eq (tgt := 24) hx hb dX5_ruleFit_18 (by decide +kernel) (fun h9 => absurd h9 (by decide +kernel)) (fun _ => ?_)
      refine lv_bipush (v := (-3)) hx hb dX5_ruleFit_21 (by decide +kernel) ?_
      exact endR hx hb hr hlocks rfl (Or.inr (Or.inl (⟨rfl, ⟨k_4, hk_5, rfl, h_9⟩⟩))) (g_172 bX5_ruleFit rfl)
    · refine lv_if_eq (tgt := 24) hx hb dX5_ruleFit_18 (by decide +kernel) (fun _ => ?_) (fun h9 => absurd (by decide +kernel) h9)
      refine lv_aload_n hx hb (g_42 bX5_ruleFit rfl) rfl (lv_at hl 0 rfl) ?_
      refine va_get (D := G) (ci := 4) (v := .ref qs) (C := RX5) (T := TX5) (N := 9) hx hb hts iX_X5 hown hK hP 0 rfl rfl 3 (by decide +kernel) (hts _ m_t177) (fun _ h9 => h9) rfl (g_180 (v := 29) bX5_ruleFit rfl) ?_
      refine lv_iload_n hx hb (g_27 bX5_ruleFit rfl) rfl (lv_at hl 1 rfl) ?_
      refine kRi (rV (As := [.int (nI k_4)]) (rest := []) (b := qs) ⟨hx, hb, hml, hown, hts⟩ (c_X2_hasRule l G cy qs qsh qss qsa qse fH k_4 (by first | omega | (simp only [nb_sr, np_sr, nb_wr, np_wr, nb_rd, np_rd, nb_ch, np_ch, nb_zr, np_zr, nb_za, np_za, nb_ey, np_ey, nb_hf, np_hf, nb_dd, np_dd, nb_so, np_so, nb_skn, np_skn, nb_swh, np_swh, nb_sgn, np_sgn, nb_ssd, np_ssd, nb_sgo, np_sgo, nb_sag, np_sag]; omega))) L_X5_361 (preRV (q := (RX2, TX2, 4)) hN hP [1, 2] rfl 1 1 rfl rfl) rfl ⟨Nat.le_of_ble_eq_true rfl, Nat.le_of_ble_eq_true rfl⟩ hl.1 (Nat.le_of_ble_eq_true rfl) (g_182 (v := 361) bX5_ruleFit rfl) ⟨Nat.le_of_ble_eq_true rfl, Nat.le_of_ble_eq_true rfl⟩) (fun r_12 h_13 => ?_)
      rcases h_13 with ⟨rfl, h_14⟩ | ⟨rfl, h_14⟩
      · refine lv_if_eq (tgt := 39) hx hb dX5_ruleFit_32 (by decide +kernel) (fun h9 => absurd h9 (by decide +kernel)) (fun _ => ?_)
        refine lv_iconst (v := 0) hx hb (g_3 bX5_ruleFit rfl) (by decide +kernel) ?_
        refine lv_goto (tgt := 41) hx hb dX5_ruleFit_36 (by decide +kernel) ?_
        exact endR hx hb hr hlocks rfl (Or.inr (Or.inr (Or.inl (⟨rfl, ⟨k_4, hk_5, rfl, h_9, h_14⟩⟩)))) (g_172 bX5_ruleFit rfl)
      · refine lv_if_eq (tgt := 39) hx hb dX5_ruleFit_32 (by decide +kernel) (fun _ => ?_) (fun h9 => absurd (by decide +kernel) h9)
        refine lv_bipush (v := (-4)) hx hb dX5_ruleFit_39 (by decide +kernel) ?_
        exact endR hx hb hr hlocks rfl (Or.inr (Or.inr (Or.inr (⟨rfl, ⟨k_4, hk_5, rfl, h_9, h_14⟩⟩)))) (g_172 bX5_ruleFit rfl)
  · refine lv_if_ne (tgt := 10) hx hb dX5_ruleFit_4 (by decide +kernel) (fun h9 => absurd (by decide +kernel) h9) (fun _ => ?_)
    refine lv_bipush (v := (-2)) hx hb dX5_ruleFit_7 (by decide +kernel) ?_
    exact endR hx hb hr hlocks rfl (Or.inl (⟨rfl, h_3⟩)) (g_172 bX5_ruleFit rfl)
set_option maxHeartbeats 4000000 in
set_option maxRecDepth 100000 in
theorem c_X5_copyFit (l : Launch) (G : va_G) (cy : Nat → ClassId) (qx : Nat) (qt : Nat) (qk : Nat) (qp : Nat) (qs : Nat) (qa : Nat) (qr : Nat) (iKp : Int32) (iYe : Int32) (iTv : Int32) (qsh : Nat) (qss : Nat) (qsa : Nat) (qse : Nat) (fH : Nat → Int32) (iA : Int32) (iB : Int32)   : MR l yX5_copyFit cX5_copyFit 3 (some .int) 3 G cy [zzO qx 4 [.ref qt, .ref qk, .ref qp, .ref qs, .ref qa, .ref qr, .int iKp, .int iYe, .int iTv], zzO qs 1 [.ref qsh, .ref qss, .ref qsa, .ref qse], zzI cy qsh 8 fH] [.ref qx, .int iA, .int iB] (vp_Si (fun r => (r = (-2) ∧ ¬ ∃ k m : Nat, k < 8 ∧ m < 8 ∧ iA = nI k ∧ iB = nI m) ∨ (r = 0 ∧ ∃ k m : Nat, k < 8 ∧ m < 8 ∧ iA = nI k ∧ iB = nI m ∧ Rw (fH k) ∧ Rw (fH m) ∧ fH k = fH m) ∨ (r = (-4) ∧ ∃ k m : Nat, k < 8 ∧ m < 8 ∧ iA = nI k ∧ iB = nI m ∧ ¬ 10 ≤ fH k ∧ ¬ 10 ≤ fH m ∧ (¬ Rw (fH k) ∨ ¬ Rw (fH m))) ∨ (r = (-3) ∧ ∃ k m : Nat, k < 8 ∧ m < 8 ∧ iA = nI k ∧ iB = nI m ∧ (10 ≤ fH k ∨ 10 ≤ fH m ∨ (Rw (fH k) ∧ Rw (fH m) ∧ ¬ fH k = fH m))))) := by
  refine enR RX5 (by decide +kernel) rfl (Nat.le_of_ble_eq_true rfl) (fun p e s m below meth c ls hx hb hml hown hts hr hlocks hP hN hl => ?_)
  have hK := hN.1
  replace hl : lv_has ls 3 [(0, .ref qx), (1, .int iA), (2, .int iB)] := hl
  refine lv_iload_n hx hb (g_27 bX5_copyFit rfl) rfl (lv_at hl 1 rfl) ?_
  refine kRi (rS (As := [.int iA]) (rest := []) ⟨hx, hb, hml, hown, hts⟩ (c_X5_isShelf l G cy iA) L_X5_44 (preRS hN hP [] rfl) rfl ⟨Nat.le_of_ble_eq_true rfl, Nat.le_of_ble_eq_true rfl⟩ hl.1 (Nat.le_of_ble_eq_true rfl) (g_184 (v := 44) bX5_copyFit rfl) ⟨Nat.le_of_ble_eq_true rfl, Nat.le_of_ble_eq_true rfl⟩) (fun r_1 h_2 => ?_)
  rcases h_2 with ⟨rfl, h_3⟩ | ⟨rfl, h_3⟩
  · obtain ⟨k_4, hk_5, rfl⟩ := h_3
    refine lv_if_eq (tgt := 14) hx hb dX5_copyFit_4 (by decide +kernel) (fun h9 => absurd h9 (by decide +kernel)) (fun _ => ?_)
    refine lv_iload_n hx hb (g_28 bX5_copyFit rfl) rfl (lv_at hl 2 rfl) ?_
    refine kRi (rS (As := [.int iB]) (rest := []) ⟨hx, hb, hml, hown, hts⟩ (c_X5_isShelf l G cy iB) L_X5_44 (preRS hN hP [] rfl) rfl ⟨Nat.le_of_ble_eq_true rfl, Nat.le_of_ble_eq_true rfl⟩ hl.1 (Nat.le_of_ble_eq_true rfl) (g_184 (v := 44) bX5_copyFit rfl) ⟨Nat.le_of_ble_eq_true rfl, Nat.le_of_ble_eq_true rfl⟩) (fun r_7 h_8 => ?_)
    rcases h_8 with ⟨rfl, h_9⟩ | ⟨rfl, h_9⟩
    · obtain ⟨k_10, hk_11, rfl⟩ := h_9
      refine lv_if_ne (tgt := 17) hx hb dX5_copyFit_11 (by decide +kernel) (fun _ => ?_) (fun h9 => absurd h9 (by decide +kernel))
      refine lv_aload_n hx hb (g_42 bX5_copyFit rfl) rfl (lv_at hl 0 rfl) ?_
      refine va_get (D := G) (ci := 4) (v := .ref qs) (C := RX5) (T := TX5) (N := 9) hx hb hts iX_X5 hown hK hP 0 rfl rfl 3 (by decide +kernel) (hts _ m_t177) (fun _ h9 => h9) rfl (g_180 (v := 29) bX5_copyFit rfl) ?_
      refine lv_iload_n hx hb (g_27 bX5_copyFit rfl) rfl (lv_at hl 1 rfl) ?_
      refine kRi (rV (As := [.int (nI k_4)]) (rest := []) (b := qs) ⟨hx, hb, hml, hown, hts⟩ (c_X2_hasRule l G cy qs qsh qss qsa qse fH k_4 (by first | omega | (simp only [nb_sr, np_sr, nb_wr, np_wr, nb_rd, np_rd, nb_ch, np_ch, nb_zr, np_zr, nb_za, np_za, nb_ey, np_ey, nb_hf, np_hf, nb_dd, np_dd, nb_so, np_so, nb_skn, np_skn, nb_swh, np_swh, nb_sgn, np_sgn, nb_ssd, np_ssd, nb_sgo, np_sgo, nb_sag, np_sag]; omega))) L_X5_361 (preRV (q := (RX2, TX2, 4)) hN hP [1, 2] rfl 1 1 rfl rfl) rfl ⟨Nat.le_of_ble_eq_true rfl, Nat.le_of_ble_eq_true rfl⟩ hl.1 (Nat.le_of_ble_eq_true rfl) (g_182 (v := 361) bX5_copyFit rfl) ⟨Nat.le_of_ble_eq_true rfl, Nat.le_of_ble_eq_true rfl⟩) (fun r_13 h_14 => ?_)
      rcases h_14 with ⟨rfl, h_15⟩ | ⟨rfl, h_15⟩
      · refine lv_if_ne (tgt := 39) hx hb dX5_copyFit_25 (by decide +kernel) (fun _ => ?_) (fun h9 => absurd h9 (by decide +kernel))
        refine lv_bipush (v := (-3)) hx hb dX5_copyFit_39 (by decide +kernel) ?_
        exact endR hx hb hr hlocks rfl (Or.inr (Or.inr (Or.inr (⟨rfl, ⟨k_4, k_10, hk_5, hk_11, rfl, rfl, Or.inl h_15⟩⟩)))) (g_172 bX5_copyFit rfl)
      · refine lv_if_ne (tgt := 39) hx hb dX5_copyFit_25 (by decide +kernel) (fun h9 => absurd (by decide +kernel) h9) (fun _ => ?_)
        refine lv_aload_n hx hb (g_42 bX5_copyFit rfl) rfl (lv_at hl 0 rfl) ?_
        refine va_get (D := G) (ci := 4) (v := .ref qs) (C := RX5) (T := TX5) (N := 9) hx hb hts iX_X5 hown hK hP 0 rfl rfl 3 (by decide +kernel) (hts _ m_t177) (fun _ h9 => h9) rfl (g_180 (v := 29) bX5_copyFit rfl) ?_
        refine lv_iload_n hx hb (g_28 bX5_copyFit rfl) rfl (lv_at hl 2 rfl) ?_
        refine kRi (rV (As := [.int (nI k_10)]) (rest := []) (b := qs) ⟨hx, hb, hml, hown, hts⟩ (c_X2_hasRule l G cy qs qsh qss qsa qse fH k_10 (by first | omega | (simp only [nb_sr, np_sr, nb_wr, np_wr, nb_rd, np_rd, nb_ch, np_ch, nb_zr, np_zr, nb_za, np_za, nb_ey, np_ey, nb_hf, np_hf, nb_dd, np_dd, nb_so, np_so, nb_skn, np_skn, nb_swh, np_swh, nb_sgn, np_sgn, nb_ssd, np_ssd, nb_sgo, np_sgo, nb_sag, np_sag]; omega))) L_X5_361 (preRV (q := (RX2, TX2, 4)) hN hP [1, 2] rfl 1 1 rfl rfl) rfl ⟨Nat.le_of_ble_eq_true rfl, Nat.le_of_ble_eq_true rfl⟩ hl.1 (Nat.le_of_ble_eq_true rfl) (g_182 (v := 361) bX5_copyFit rfl) ⟨Nat.le_of_ble_eq_true rfl, Nat.le_of_ble_eq_true rfl⟩) (fun r_18 h_19 => ?_)
        rcases h_19 with ⟨rfl, h_20⟩ | ⟨rfl, h_20⟩
        · refine lv_if_eq (tgt := 42) hx hb dX5_copyFit_36 (by decide +kernel) (fun h9 => absurd h9 (by decide +kernel)) (fun _ => ?_)
          refine lv_bipush (v := (-3)) hx hb dX5_copyFit_39 (by decide +kernel) ?_
          exact endR hx hb hr hlocks rfl (Or.inr (Or.inr (Or.inr (⟨rfl, ⟨k_4, k_10, hk_5, hk_11, rfl, rfl, Or.inr (Or.inl h_20)⟩⟩)))) (g_172 bX5_copyFit rfl)
        · refine lv_if_eq (tgt := 42) hx hb dX5_copyFit_36 (by decide +kernel) (fun _ => ?_) (fun h9 => absurd (by decide +kernel) h9)
          refine lv_aload_n hx hb (g_42 bX5_copyFit rfl) rfl (lv_at hl 0 rfl) ?_
          refine va_get (D := G) (ci := 4) (v := .ref qs) (C := RX5) (T := TX5) (N := 9) hx hb hts iX_X5 hown hK hP 0 rfl rfl 3 (by decide +kernel) (hts _ m_t177) (fun _ h9 => h9) rfl (g_180 (v := 29) bX5_copyFit rfl) ?_
          refine lv_iload_n hx hb (g_27 bX5_copyFit rfl) rfl (lv_at hl 1 rfl) ?_
          refine kRi (rV (As := [.int (nI k_4)]) (rest := []) (b := qs) ⟨hx, hb, hml, hown, hts⟩ (c_X2_hasRow l G cy qs qsh qss qsa qse fH k_4 (by first | omega | (simp only [nb_sr, np_sr, nb_wr, np_wr, nb_rd, np_rd, nb_ch, np_ch, nb_zr, np_zr, nb_za, np_za, nb_ey, np_ey, nb_hf, np_hf, nb_dd, np_dd, nb_so, np_so, nb_skn, np_skn, nb_swh, np_swh, nb_sgn, np_sgn, nb_ssd, np_ssd, nb_sgo, np_sgo, nb_sag, np_sag]; omega))) L_X5_364 (preRV (q := (RX2, TX2, 4)) hN hP [1, 2] rfl 1 1 rfl rfl) rfl ⟨Nat.le_of_ble_eq_true rfl, Nat.le_of_ble_eq_true rfl⟩ hl.1 (Nat.le_of_ble_eq_true rfl) (g_182 (v := 364) bX5_copyFit rfl) ⟨Nat.le_of_ble_eq_true rfl, Nat.le_of_ble_eq_true rfl⟩) (fun r_23 h_24 => ?_)
          rcases h_24 with ⟨rfl, h_25⟩ | ⟨rfl, h_25⟩
          · refine lv_if_eq (tgt := 64) hx hb dX5_copyFit_50 (by decide +kernel) (fun h9 => absurd h9 (by decide +kernel)) (fun _ => ?_)
            refine lv_aload_n hx hb (g_42 bX5_copyFit rfl) rfl (lv_at hl 0 rfl) ?_
            refine va_get (D := G) (ci := 4) (v := .ref qs) (C := RX5) (T := TX5) (N := 9) hx hb hts iX_X5 hown hK hP 0 rfl rfl 3 (by decide +kernel) (hts _ m_t177) (fun _ h9 => h9) rfl (g_180 (v := 29) bX5_copyFit rfl) ?_
            refine lv_iload_n hx hb (g_28 bX5_copyFit rfl) rfl (lv_at hl 2 rfl) ?_
            refine kRi (rV (As := [.int (nI k_10)]) (rest := []) (b := qs) ⟨hx, hb, hml, hown, hts⟩ (c_X2_hasRow l G cy qs qsh qss qsa qse fH k_10 (by first | omega | (simp only [nb_sr, np_sr, nb_wr, np_wr, nb_rd, np_rd, nb_ch, np_ch, nb_zr, np_zr, nb_za, np_za, nb_ey, np_ey, nb_hf, np_hf, nb_dd, np_dd, nb_so, np_so, nb_skn, np_skn, nb_swh, np_swh, nb_sgn, np_sgn, nb_ssd, np_ssd, nb_sgo, np_sgo, nb_sag, np_sag]; omega))) L_X5_364 (preRV (q := (RX2, TX2, 4)) hN hP [1, 2] rfl 1 1 rfl rfl) rfl ⟨Nat.le_of_ble_eq_true rfl, Nat.le_of_ble_eq_true rfl⟩ hl.1 (Nat.le_of_ble_eq_true rfl) (g_182 (v := 364) bX5_copyFit rfl) ⟨Nat.le_of_ble_eq_true rfl, Nat.le_of_ble_eq_true rfl⟩) (fun r_27 h_28 => ?_)
            rcases h_28 with ⟨rfl, h_29⟩ | ⟨rfl, h_29⟩
            · refine lv_if_ne (tgt := 67) hx hb dX5_copyFit_61 (by decide +kernel) (fun _ => ?_) (fun h9 => absurd h9 (by decide +kernel))
              refine lv_aload_n hx hb (g_42 bX5_copyFit rfl) rfl (lv_at hl 0 rfl) ?_
              refine va_get (D := G) (ci := 4) (v := .ref qs) (C := RX5) (T := TX5) (N := 9) hx hb hts iX_X5 hown hK hP 0 rfl rfl 3 (by decide +kernel) (hts _ m_t177) (fun _ h9 => h9) rfl (g_180 (v := 29) bX5_copyFit rfl) ?_
              refine va_getN (D := G) (ci := 1) (v := .ref qsh) (C := RX2) (T := TX2) (N := 4) hx hb hts iX_X2 hown hK hP 1 rfl rfl 0 (by decide +kernel) (va_Nw.use rfl (hN.2.1 (RX5, 90, "EachBookOnce$Shelves", "holding", "[I") (List.mem_of_getElem? (i := 26) rfl))) (fun _ h9 => h9) rfl (g_180 (v := 90) bX5_copyFit rfl) ?_
              refine lv_iload_n hx hb (g_27 bX5_copyFit rfl) rfl (lv_at hl 1 rfl) ?_
              refine va_iald hx hb hK hP 2 0 rfl rfl (in8 (by omega)) (g_46 bX5_copyFit rfl) ?_
              refine lv_seti (v := fH k_4) (congrArg fH (cl8 (by omega))) ?_
              refine lv_aload_n hx hb (g_42 bX5_copyFit rfl) rfl (lv_at hl 0 rfl) ?_
              refine va_get (D := G) (ci := 4) (v := .ref qs) (C := RX5) (T := TX5) (N := 9) hx hb hts iX_X5 hown hK hP 0 rfl rfl 3 (by decide +kernel) (hts _ m_t177) (fun _ h9 => h9) rfl (g_180 (v := 29) bX5_copyFit rfl) ?_
              refine va_getN (D := G) (ci := 1) (v := .ref qsh) (C := RX2) (T := TX2) (N := 4) hx hb hts iX_X2 hown hK hP 1 rfl rfl 0 (by decide +kernel) (va_Nw.use rfl (hN.2.1 (RX5, 90, "EachBookOnce$Shelves", "holding", "[I") (List.mem_of_getElem? (i := 26) rfl))) (fun _ h9 => h9) rfl (g_180 (v := 90) bX5_copyFit rfl) ?_
              refine lv_iload_n hx hb (g_28 bX5_copyFit rfl) rfl (lv_at hl 2 rfl) ?_
              refine va_iald hx hb hK hP 2 0 rfl rfl (in8 (by omega)) (g_46 bX5_copyFit rfl) ?_
              refine lv_seti (v := fH k_10) (congrArg fH (cl8 (by omega))) ?_
              refine lv_icmp_ne (tgt := 92) hx hb dX5_copyFit_85 (by decide +kernel) (fun c_31 => ?_) (fun c_31 => ?_)
              · refine lv_bipush (v := (-3)) hx hb dX5_copyFit_92 (by decide +kernel) ?_
                exact endR hx hb hr hlocks rfl (Or.inr (Or.inr (Or.inr (⟨rfl, ⟨k_4, k_10, hk_5, hk_11, rfl, rfl, Or.inr (Or.inr ⟨h_25, h_29, c_31⟩)⟩⟩)))) (g_172 bX5_copyFit rfl)
              · refine lv_iconst (v := 0) hx hb (g_3 bX5_copyFit rfl) (by decide +kernel) ?_
                refine lv_goto (tgt := 94) hx hb dX5_copyFit_89 (by decide +kernel) ?_
                exact endR hx hb hr hlocks rfl (Or.inr (Or.inl (⟨rfl, ⟨k_4, k_10, hk_5, hk_11, rfl, rfl, h_25, h_29, c_31⟩⟩))) (g_172 bX5_copyFit rfl)
            · refine lv_if_ne (tgt := 67) hx hb dX5_copyFit_61 (by decide +kernel) (fun h9 => absurd (by decide +kernel) h9) (fun _ => ?_)
              refine lv_bipush (v := (-4)) hx hb dX5_copyFit_64 (by decide +kernel) ?_
              exact endR hx hb hr hlocks rfl (Or.inr (Or.inr (Or.inl (⟨rfl, ⟨k_4, k_10, hk_5, hk_11, rfl, rfl, h_15, h_20, Or.inr h_29⟩⟩)))) (g_172 bX5_copyFit rfl)
          · refine lv_if_eq (tgt := 64) hx hb dX5_copyFit_50 (by decide +kernel) (fun _ => ?_) (fun h9 => absurd (by decide +kernel) h9)
            refine lv_bipush (v := (-4)) hx hb dX5_copyFit_64 (by decide +kernel) ?_
            exact endR hx hb hr hlocks rfl (Or.inr (Or.inr (Or.inl (⟨rfl, ⟨k_4, k_10, hk_5, hk_11, rfl, rfl, h_15, h_20, Or.inl h_25⟩⟩)))) (g_172 bX5_copyFit rfl)
    · refine lv_if_ne (tgt := 17) hx hb dX5_copyFit_11 (by decide +kernel) (fun h9 => absurd (by decide +kernel) h9) (fun _ => ?_)
      refine lv_bipush (v := (-2)) hx hb dX5_copyFit_14 (by decide +kernel) ?_
      exact endR hx hb hr hlocks rfl (Or.inl (⟨rfl, (fun ⟨_, m, _, h2, _, h4⟩ => h_9 ⟨m, h2, h4⟩)⟩)) (g_172 bX5_copyFit rfl)
  · refine lv_if_eq (tgt := 14) hx hb dX5_copyFit_4 (by decide +kernel) (fun _ => ?_) (fun h9 => absurd (by decide +kernel) h9)
    refine lv_bipush (v := (-2)) hx hb dX5_copyFit_14 (by decide +kernel) ?_
    exact endR hx hb hr hlocks rfl (Or.inl (⟨rfl, (fun ⟨k, _, h1, _, h3, _⟩ => h_3 ⟨k, h1, h3⟩)⟩)) (g_172 bX5_copyFit rfl)
set_option maxHeartbeats 4000000 in
set_option maxRecDepth 100000 in
theorem c_X5_hasSpan (l : Launch) (G : va_G) (cy : Nat → ClassId) (qx : Nat) (qt : Nat) (qk : Nat) (qp : Nat) (qs : Nat) (qa : Nat) (qr : Nat) (iKp : Int32) (iYe : Int32) (iTv : Int32) (qsh : Nat) (qss : Nat) (qsa : Nat) (qse : Nat) (fS : Nat → Int32) (kS : Nat) (iB : Int32) (iC : Int32)  (hS8 : kS < 8) : MR l yX5_hasSpan cX5_hasSpan 4 (some .boolean) 1 G cy [zzO qx 4 [.ref qt, .ref qk, .ref qp, .ref qs, .ref qa, .ref qr, .int iKp, .int iYe, .int iTv], zzO qs 1 [.ref qsh, .ref qss, .ref qsa, .ref qse], zzI cy qss 8 fS] [.ref qx, .int (nI kS), .int iB, .int iC] (vp_Si (fun r => (r = 1 ∧ Spn iB iC (fS kS)) ∨ (r = 0 ∧ ¬ Spn iB iC (fS kS)))) := by
  refine enR RX5 (by decide +kernel) rfl (Nat.le_of_ble_eq_true rfl) (fun p e s m below meth c ls hx hb hml hown hts hr hlocks hP hN hl => ?_)
  have hK := hN.1
  replace hl : lv_has ls 4 [(0, .ref qx), (1, .int (nI kS)), (2, .int iB), (3, .int iC)] := hl
  refine lv_iload_n hx hb (g_28 bX5_hasSpan rfl) rfl (lv_at hl 2 rfl) ?_
  refine lv_if_lt (tgt := 31) hx hb dX5_hasSpan_1 (by decide +kernel) (fun c_1 => ?_) (fun c_1 => ?_)
  · refine lv_iconst (v := 0) hx hb (g_3 bX5_hasSpan rfl) (by decide +kernel) ?_
    exact endR hx hb hr hlocks rfl (Or.inr (⟨rfl, (fun q => q.1 c_1)⟩)) (g_172 bX5_hasSpan rfl)
  · refine lv_iload_n hx hb (g_29 bX5_hasSpan rfl) rfl (lv_at hl 3 rfl) ?_
    refine lv_if_lt (tgt := 31) hx hb dX5_hasSpan_5 (by decide +kernel) (fun c_2 => ?_) (fun c_2 => ?_)
    · refine lv_iconst (v := 0) hx hb (g_3 bX5_hasSpan rfl) (by decide +kernel) ?_
      exact endR hx hb hr hlocks rfl (Or.inr (⟨rfl, (fun q => q.2.1 c_2)⟩)) (g_172 bX5_hasSpan rfl)
    · refine lv_iload_n hx hb (g_28 bX5_hasSpan rfl) rfl (lv_at hl 2 rfl) ?_
      refine lv_i2l (v := iB.toInt64) hx hb (g_133 bX5_hasSpan rfl) rfl ?_
      refine lv_iload_n hx hb (g_29 bX5_hasSpan rfl) rfl (lv_at hl 3 rfl) ?_
      refine lv_i2l (v := iC.toInt64) hx hb (g_133 bX5_hasSpan rfl) rfl ?_
      refine lv_ladd hx hb (g_97 bX5_hasSpan rfl) ?_
      refine lv_aload_n hx hb (g_42 bX5_hasSpan rfl) rfl (lv_at hl 0 rfl) ?_
      refine va_get (D := G) (ci := 4) (v := .ref qs) (C := RX5) (T := TX5) (N := 9) hx hb hts iX_X5 hown hK hP 0 rfl rfl 3 (by decide +kernel) (hts _ m_t177) (fun _ h9 => h9) rfl (g_180 (v := 29) bX5_hasSpan rfl) ?_
      refine va_getN (D := G) (ci := 1) (v := .ref qss) (C := RX2) (T := TX2) (N := 4) hx hb hts iX_X2 hown hK hP 1 rfl rfl 1 (by decide +kernel) (va_Nw.use rfl (hN.2.1 (RX5, 67, "EachBookOnce$Shelves", "size", "[I") (List.mem_of_getElem? (i := 27) rfl))) (fun _ h9 => h9) rfl (g_180 (v := 67) bX5_hasSpan rfl) ?_
      refine lv_iload_n hx hb (g_27 bX5_hasSpan rfl) rfl (lv_at hl 1 rfl) ?_
      refine va_iald hx hb hK hP 2 0 rfl rfl (in8 (by omega)) (g_46 bX5_hasSpan rfl) ?_
      refine lv_seti (v := fS kS) (congrArg fS (cl8 (by omega))) ?_
      refine lv_i2l (v := (fS kS).toInt64) hx hb (g_133 bX5_hasSpan rfl) rfl ?_
      refine W.lcmp hx hb (g_148 bX5_hasSpan rfl) ?_
      refine lv_if_gt (tgt := 31) hx hb dX5_hasSpan_24 (by decide +kernel) (fun c_3 => ?_) (fun c_3 => ?_)
      · refine lv_iconst (v := 0) hx hb (g_3 bX5_hasSpan rfl) (by decide +kernel) ?_
        exact endR hx hb hr hlocks rfl (Or.inr (⟨rfl, (fun q => q.2.2 c_3)⟩)) (g_172 bX5_hasSpan rfl)
      · refine lv_iconst (v := 1) hx hb (g_4 bX5_hasSpan rfl) (by decide +kernel) ?_
        refine lv_goto (tgt := 32) hx hb dX5_hasSpan_28 (by decide +kernel) ?_
        exact endR hx hb hr hlocks rfl (Or.inl (⟨rfl, ⟨c_1, c_2, c_3⟩⟩)) (g_172 bX5_hasSpan rfl)
set_option maxHeartbeats 4000000 in
set_option maxRecDepth 100000 in
theorem c_X5_toldFit (l : Launch) (G : va_G) (cy : Nat → ClassId) (qx : Nat) (qt : Nat) (qk : Nat) (qp : Nat) (qs : Nat) (qa : Nat) (qr : Nat) (iKp : Int32) (iYe : Int32) (iTv : Int32) (qsh : Nat) (qss : Nat) (qsa : Nat) (qse : Nat) (fH : Nat → Int32) (fS : Nat → Int32) (iA : Int32) (iB : Int32)   : MR l yX5_toldFit cX5_toldFit 4 (some .int) 4 G cy [zzO qx 4 [.ref qt, .ref qk, .ref qp, .ref qs, .ref qa, .ref qr, .int iKp, .int iYe, .int iTv], zzO qs 1 [.ref qsh, .ref qss, .ref qsa, .ref qse], zzI cy qsh 8 fH, zzI cy qss 8 fS] [.ref qx, .int iA, .int iB] (vp_Si (fun r => (r = (-2) ∧ (¬ Iv iB.toInt64 0 20 ∨ (¬ ∃ k : Nat, k < 8 ∧ iA = nI k) ∨ ∃ k : Nat, k < 8 ∧ iA = nI k ∧ fS k < iB)) ∨ (r = (-3) ∧ Iv iB.toInt64 0 20 ∧ ∃ k : Nat, k < 8 ∧ iA = nI k ∧ 10 ≤ fH k) ∨ (r = 0 ∧ Iv iB.toInt64 0 20 ∧ ∃ k : Nat, k < 8 ∧ iA = nI k ∧ (¬ 10 ≤ fH k ∧ Rw (fH k)) ∧ iB ≤ fS k) ∨ (r = (-4) ∧ Iv iB.toInt64 0 20 ∧ ∃ k : Nat, k < 8 ∧ iA = nI k ∧ (¬ 10 ≤ fH k ∧ ¬ Rw (fH k))))) := by
  refine enR RX5 (by decide +kernel) rfl (Nat.le_of_ble_eq_true rfl) (fun p e s m below meth c ls hx hb hml hown hts hr hlocks hP hN hl => ?_)
  have hK := hN.1
  replace hl : lv_has ls 4 [(0, .ref qx), (1, .int iA), (2, .int iB)] := hl
  refine lv_iload_n hx hb (g_28 bX5_toldFit rfl) rfl (lv_at hl 2 rfl) ?_
  refine lv_i2l (v := iB.toInt64) hx hb (g_133 bX5_toldFit rfl) rfl ?_
  refine lv_lconst (v := 0) hx hb (g_9 bX5_toldFit rfl) (by decide +kernel) ?_
  refine lv_ldc2 hx hb hown (hts _ m_t788) (g_20 (v := 327) bX5_toldFit rfl) ?_
  refine kRi (rS (As := [.long iB.toInt64, .long 0, .long 20]) (rest := []) ⟨hx, hb, hml, hown, hts⟩ (c_X5_within l G cy iB.toInt64 0 20) L_X5_50 (preRS hN hP [] rfl) rfl ⟨Nat.le_of_ble_eq_true rfl, Nat.le_of_ble_eq_true rfl⟩ hl.1 (Nat.le_of_ble_eq_true rfl) (g_184 (v := 50) bX5_toldFit rfl) ⟨Nat.le_of_ble_eq_true rfl, Nat.le_of_ble_eq_true rfl⟩) (fun r_1 h_2 => ?_)
  rcases h_2 with ⟨rfl, h_3⟩ | ⟨rfl, h_3⟩
  · refine lv_if_eq (tgt := 20) hx hb dX5_toldFit_9 (by decide +kernel) (fun h9 => absurd h9 (by decide +kernel)) (fun _ => ?_)
    refine lv_aload_n hx hb (g_42 bX5_toldFit rfl) rfl (lv_at hl 0 rfl) ?_
    refine lv_iload_n hx hb (g_27 bX5_toldFit rfl) rfl (lv_at hl 1 rfl) ?_
    refine kRi (rV (As := [.int iA]) (rest := []) (b := qx) ⟨hx, hb, hml, hown, hts⟩ (c_X5_rowFit l G cy qx qt qk qp qs qa qr iKp iYe iTv qsh qss qsa qse fH iA) L_X5_64 (preRV (q := (RX5, TX5, 9)) hN hP (trueIx 0 [true, true, true]) (sel_fm rfl rfl) 0 4 rfl rfl) rfl ⟨Nat.le_of_ble_eq_true rfl, Nat.le_of_ble_eq_true rfl⟩ hl.1 (Nat.le_of_ble_eq_true rfl) (g_182 (v := 64) bX5_toldFit rfl) ⟨Nat.le_of_ble_eq_true rfl, Nat.le_of_ble_eq_true rfl⟩) (fun r_5 h_6 => ?_)
    rcases h_6 with ⟨rfl, h_7⟩ | ⟨rfl, h_7⟩ | ⟨rfl, h_7⟩ | ⟨rfl, h_7⟩
    · refine lv_goto (tgt := 22) hx hb dX5_toldFit_17 (by decide +kernel) ?_
      refine lv_istore_n (lv' := [(3, .int (-2)), (0, .ref qx), (1, .int iA), (2, .int iB)]) hx hb (g_62 bX5_toldFit rfl) rfl hl (by decide +kernel) rfl (fun ls => ?_)
      clear hl
      intro hl
      refine lv_iload_n hx hb (g_29 bX5_toldFit rfl) rfl (lv_at hl 0 rfl) ?_
      refine lv_if_ne (tgt := 45) hx hb dX5_toldFit_24 (by decide +kernel) (fun _ => ?_) (fun h9 => absurd h9 (by decide +kernel))
      refine lv_iload_n hx hb (g_29 bX5_toldFit rfl) rfl (lv_at hl 0 rfl) ?_
      exact endR hx hb hr hlocks rfl (Or.inl (⟨rfl, Or.inr (Or.inl h_7)⟩)) (g_172 bX5_toldFit rfl)
    · obtain ⟨k_9, hk_10, rfl, h_11⟩ := h_7
      refine lv_goto (tgt := 22) hx hb dX5_toldFit_17 (by decide +kernel) ?_
      refine lv_istore_n (lv' := [(3, .int (-3)), (0, .ref qx), (1, .int (nI k_9)), (2, .int iB)]) hx hb (g_62 bX5_toldFit rfl) rfl hl (by decide +kernel) rfl (fun ls => ?_)
      clear hl
      intro hl
      refine lv_iload_n hx hb (g_29 bX5_toldFit rfl) rfl (lv_at hl 0 rfl) ?_
      refine lv_if_ne (tgt := 45) hx hb dX5_toldFit_24 (by decide +kernel) (fun _ => ?_) (fun h9 => absurd h9 (by decide +kernel))
      refine lv_iload_n hx hb (g_29 bX5_toldFit rfl) rfl (lv_at hl 0 rfl) ?_
      exact endR hx hb hr hlocks rfl (Or.inr (Or.inl (⟨rfl, ⟨h_3, k_9, hk_10, rfl, h_11⟩⟩))) (g_172 bX5_toldFit rfl)
    · obtain ⟨k_13, hk_14, rfl, h_15, h_16⟩ := h_7
      refine lv_goto (tgt := 22) hx hb dX5_toldFit_17 (by decide +kernel) ?_
      refine lv_istore_n (lv' := [(3, .int 0), (0, .ref qx), (1, .int (nI k_13)), (2, .int iB)]) hx hb (g_62 bX5_toldFit rfl) rfl hl (by decide +kernel) rfl (fun ls => ?_)
      clear hl
      intro hl
      refine lv_iload_n hx hb (g_29 bX5_toldFit rfl) rfl (lv_at hl 0 rfl) ?_
      refine lv_if_ne (tgt := 45) hx hb dX5_toldFit_24 (by decide +kernel) (fun h9 => absurd (by decide +kernel) h9) (fun _ => ?_)
      refine lv_iload_n hx hb (g_28 bX5_toldFit rfl) rfl (lv_at hl 3 rfl) ?_
      refine lv_aload_n hx hb (g_42 bX5_toldFit rfl) rfl (lv_at hl 1 rfl) ?_
      refine va_get (D := G) (ci := 4) (v := .ref qs) (C := RX5) (T := TX5) (N := 9) hx hb hts iX_X5 hown hK hP 0 rfl rfl 3 (by decide +kernel) (hts _ m_t177) (fun _ h9 => h9) rfl (g_180 (v := 29) bX5_toldFit rfl) ?_
      refine va_getN (D := G) (ci := 1) (v := .ref qss) (C := RX2) (T := TX2) (N := 4) hx hb hts iX_X2 hown hK hP 1 rfl rfl 1 (by decide +kernel) (va_Nw.use rfl (hN.2.1 (RX5, 67, "EachBookOnce$Shelves", "size", "[I") (List.mem_of_getElem? (i := 27) rfl))) (fun _ h9 => h9) rfl (g_180 (v := 67) bX5_toldFit rfl) ?_
      refine lv_iload_n hx hb (g_27 bX5_toldFit rfl) rfl (lv_at hl 2 rfl) ?_
      refine va_iald hx hb hK hP 3 0 rfl rfl (in8 (by omega)) (g_46 bX5_toldFit rfl) ?_
      refine lv_seti (v := fS k_13) (congrArg fS (cl8 (by omega))) ?_
      refine lv_icmp_le (tgt := 45) hx hb dX5_toldFit_37 (by decide +kernel) (fun c_18 => ?_) (fun c_18 => ?_)
      · refine lv_iload_n hx hb (g_29 bX5_toldFit rfl) rfl (lv_at hl 0 rfl) ?_
        exact endR hx hb hr hlocks rfl (Or.inr (Or.inr (Or.inl (⟨rfl, ⟨h_3, k_13, hk_14, rfl, ⟨h_15, h_16⟩, c_18⟩⟩)))) (g_172 bX5_toldFit rfl)
      · refine lv_bipush (v := (-2)) hx hb dX5_toldFit_40 (by decide +kernel) ?_
        refine lv_goto (tgt := 46) hx hb dX5_toldFit_42 (by decide +kernel) ?_
        exact endR hx hb hr hlocks rfl (Or.inl (⟨rfl, Or.inr (Or.inr ⟨k_13, hk_14, rfl, Int32.not_le.mp c_18⟩)⟩)) (g_172 bX5_toldFit rfl)
    · obtain ⟨k_19, hk_20, rfl, h_21, h_22⟩ := h_7
      refine lv_goto (tgt := 22) hx hb dX5_toldFit_17 (by decide +kernel) ?_
      refine lv_istore_n (lv' := [(3, .int (-4)), (0, .ref qx), (1, .int (nI k_19)), (2, .int iB)]) hx hb (g_62 bX5_toldFit rfl) rfl hl (by decide +kernel) rfl (fun ls => ?_)
      clear hl
      intro hl
      refine lv_iload_n hx hb (g_29 bX5_toldFit rfl) rfl (lv_at hl 0 rfl) ?_
      refine lv_if_ne (tgt := 45) hx hb dX5_toldFit_24 (by decide +kernel) (fun _ => ?_) (fun h9 => absurd h9 (by decide +kernel))
      refine lv_iload_n hx hb (g_29 bX5_toldFit rfl) rfl (lv_at hl 0 rfl) ?_
      exact endR hx hb hr hlocks rfl (Or.inr (Or.inr (Or.inr (⟨rfl, ⟨h_3, k_19, hk_20, rfl, ⟨h_21, h_22⟩⟩⟩)))) (g_172 bX5_toldFit rfl)
  · refine lv_if_eq (tgt := 20) hx hb dX5_toldFit_9 (by decide +kernel) (fun _ => ?_) (fun h9 => absurd (by decide +kernel) h9)
    refine lv_bipush (v := (-2)) hx hb dX5_toldFit_20 (by decide +kernel) ?_
    refine lv_istore_n (lv' := [(3, .int (-2)), (0, .ref qx), (1, .int iA), (2, .int iB)]) hx hb (g_62 bX5_toldFit rfl) rfl hl (by decide +kernel) rfl (fun ls => ?_)
    clear hl
    intro hl
    refine lv_iload_n hx hb (g_29 bX5_toldFit rfl) rfl (lv_at hl 0 rfl) ?_
    refine lv_if_ne (tgt := 45) hx hb dX5_toldFit_24 (by decide +kernel) (fun _ => ?_) (fun h9 => absurd h9 (by decide +kernel))
    refine lv_iload_n hx hb (g_29 bX5_toldFit rfl) rfl (lv_at hl 0 rfl) ?_
    exact endR hx hb hr hlocks rfl (Or.inl (⟨rfl, Or.inl h_3⟩)) (g_172 bX5_toldFit rfl)
end
section
/-! what the class's public methods do -/
theorem iv_nI {x : Int32} {a b : Int64} (m n : Nat) (ha : a.toInt = m) (hb : b.toInt = n) (h : Iv x.toInt64 a b) : ∃ k : Nat, m ≤ k ∧ k ≤ n ∧ x = nI k := by
  have h1 := toI h (m := m) (n := n) ha hb
  obtain ⟨k, hk, rfl⟩ := nI_of (x := x) (by rw [Int32.lt_iff_toInt_lt]; exact Int.not_lt.mpr (by show (0 : Int) ≤ _; omega))
  rw [nI_toInt hk] at h1
  exact ⟨k, by omega, by omega, rfl⟩
theorem nI_inj {a b : Nat} (ha : a < 2 ^ 31) (hb : b < 2 ^ 31) (h : nI a = nI b) : a = b := by
  have := congrArg Int32.toInt h
  rw [nI_toInt ha, nI_toInt hb] at this
  omega
noncomputable abbrev Sh (a : Int32) : Prop := ∃ k : Nat, k < 8 ∧ a = nI k
noncomputable def PXrow (h s : Nat → Int32) (e : Nat → Int64) (a b c r : Int32) (h' s' : Nat → Int32) (e' : Nat → Int64) : Prop := (r = -2 ∧ ¬ (Sh a ∧ Iv b.toInt64 0 4 ∧ Iv c.toInt64 0 40) ∧ h' = h ∧ s' = s ∧ e' = e) ∨ (r = 1 ∧ ∃ k n : Nat, k < 8 ∧ n ≤ 40 ∧ a = nI k ∧ c = nI n ∧ Iv b.toInt64 0 4 ∧ h' = upd h k b ∧ s' = upd s k (nI n) ∧ e' = zrF e k n)
noncomputable def PXset (h s : Nat → Int32) (e : Nat → Int64) (a b : Int32) (v : Int64) (r : Int32) (e' : Nat → Int64) : Prop := (r = -2 ∧ (¬ Sh a ∨ ∃ k : Nat, k < 8 ∧ a = nI k ∧ ¬ 10 ≤ h k ∧ Rw (h k) ∧ ¬ Iv b.toInt64 0 (s k - 1).toInt64) ∧ e' = e) ∨ (r = -3 ∧ (∃ k : Nat, k < 8 ∧ a = nI k ∧ 10 ≤ h k) ∧ e' = e) ∨ (r = -4 ∧ (∃ k : Nat, k < 8 ∧ a = nI k ∧ ¬ 10 ≤ h k ∧ ¬ Rw (h k)) ∧ e' = e) ∨ (r = 1 ∧ ∃ k i : Nat, k < 8 ∧ a = nI k ∧ ¬ 10 ≤ h k ∧ Rw (h k) ∧ i < 40 ∧ b = nI i ∧ Iv b.toInt64 0 (s k - 1).toInt64 ∧ e' = vp_updL e (k * 40 + i) (zlb (h k) v))
noncomputable def PXcopy (h s : Nat → Int32) (e : Nat → Int64) (a b c d n r : Int32) (e' : Nat → Int64) : Prop := (r = -2 ∧ ((¬ ∃ k m : Nat, k < 8 ∧ m < 8 ∧ a = nI k ∧ b = nI m) ∨ ∃ k m : Nat, k < 8 ∧ m < 8 ∧ a = nI k ∧ b = nI m ∧ Rw (h k) ∧ Rw (h m) ∧ h k = h m ∧ ¬ (Spn c n (s k) ∧ Spn d n (s m))) ∧ e' = e) ∨ (r = -3 ∧ (∃ k m : Nat, k < 8 ∧ m < 8 ∧ a = nI k ∧ b = nI m ∧ (10 ≤ h k ∨ 10 ≤ h m ∨ (Rw (h k) ∧ Rw (h m) ∧ ¬ h k = h m))) ∧ e' = e) ∨ (r = -4 ∧ (∃ k m : Nat, k < 8 ∧ m < 8 ∧ a = nI k ∧ b = nI m ∧ ¬ 10 ≤ h k ∧ ¬ 10 ≤ h m ∧ (¬ Rw (h k) ∨ ¬ Rw (h m))) ∧ e' = e) ∨ (r = n ∧ ∃ k m i j z : Nat, k < 8 ∧ m < 8 ∧ a = nI k ∧ b = nI m ∧ Rw (h k) ∧ Rw (h m) ∧ h k = h m ∧ Spn c n (s k) ∧ Spn d n (s m) ∧ c = nI i ∧ d = nI j ∧ n = nI z ∧ i + z ≤ 40 ∧ j + z ≤ 40 ∧ e' = va_cpy e e (k * 40 + i) (m * 40 + j) z)
noncomputable def PXelem (h s : Nat → Int32) (e : Nat → Int64) (a b : Int32) (r : Int64) : Prop := (r = 0 ∧ ¬ ∃ k : Nat, k < 8 ∧ a = nI k ∧ ¬ 10 ≤ h k ∧ Rw (h k) ∧ Iv b.toInt64 0 (s k - 1).toInt64) ∨ ∃ k i : Nat, k < 8 ∧ a = nI k ∧ ¬ 10 ≤ h k ∧ Rw (h k) ∧ i < 40 ∧ b = nI i ∧ Iv b.toInt64 0 (s k - 1).toInt64 ∧ r = e (k * 40 + i)
noncomputable def PXholds (h : Nat → Int32) (a r : Int32) : Prop := (r = -1 ∧ ¬ Sh a) ∨ ∃ k : Nat, k < 8 ∧ a = nI k ∧ r = h k
noncomputable def PXrule (h am : Nat → Int32) (a b c r : Int32) (h' am' : Nat → Int32) : Prop := (r = -2 ∧ ¬ (Sh a ∧ Iv b.toInt64 1 6 ∧ Iv c.toInt64 0 99) ∧ h' = h ∧ am' = am) ∨ (r = 1 ∧ ∃ k : Nat, k < 8 ∧ a = nI k ∧ Iv b.toInt64 1 6 ∧ Iv c.toInt64 0 99 ∧ h' = upd h k (10 + b) ∧ am' = upd am k c)
noncomputable abbrev SetO (b : Int32) (n : Nat) : Prop := b &&& (((1 <<< (nI n &&& 31)) - 1) ^^^ (-1)) = 0
noncomputable def PXbook (t : TA) (a b r : Int32) (t' : TA) : Prop := (r = -2 ∧ ¬ (Iv a.toInt64 1 99 ∧ SetO b (T_nb t)) ∧ t' = t) ∨ (r = -6 ∧ Iv a.toInt64 1 99 ∧ SetO b (T_nb t) ∧ ¬ T_nb t < 8 ∧ t' = t) ∨ (r = nI (T_nb t) ∧ Iv a.toInt64 1 99 ∧ SetO b (T_nb t) ∧ T_nb t < 8 ∧ t' = zab t a b)
noncomputable abbrev Cbo (a b c d : Int64) : Prop := Iv a 0 9 ∧ Iv b 0 10 ∧ Iv c 0 10 ∧ Iv d 0 10
noncomputable def PXone (t : TA) (a b c d r : Int32) (t' : TA) : Prop := (r = -2 ∧ ¬ Cbo a.toInt64 b.toInt64 c.toInt64 d.toInt64 ∧ t' = t) ∨ (r = -6 ∧ Cbo a.toInt64 b.toInt64 c.toInt64 d.toInt64 ∧ ¬ T_np t < 8 ∧ t' = t) ∨ (r = nI (T_np t) ∧ Cbo a.toInt64 b.toInt64 c.toInt64 d.toInt64 ∧ T_np t < 8 ∧ t' = zao t a b c d)
/-- ones from a row -/
noncomputable def onG (e : Nat → Int64) : Nat → Nat → TA → Int32 → TA × Int32
  | 0, _, t, c => (t, c)
  | n + 1, i, t, c => if T_np t < 8 ∧ Cbo (e i) (e (i + 1)) (e (i + 2)) (e (i + 3)) then onG e n (i + 4) (zao t (e i).toInt32 (e (i + 1)).toInt32 (e (i + 2)).toInt32 (e (i + 3)).toInt32) (c + 1) else (t, c)
theorem on_go {e : Nat → Int64} {n i : Nat} {t : TA} {c : Int32} (h1 : T_np t < 8) (h2 : Cbo (e i) (e (i + 1)) (e (i + 2)) (e (i + 3))) : onG e (n + 1) i t c = onG e n (i + 4) (zao t (e i).toInt32 (e (i + 1)).toInt32 (e (i + 2)).toInt32 (e (i + 3)).toInt32) (c + 1) := if_pos ⟨h1, h2⟩
theorem on_1 {e : Nat → Int64} {n i : Nat} {t : TA} {c : Int32} (h1 : ¬ T_np t < 8) : onG e n i t c = (t, c) := by
  cases n with
  | zero => rfl
  | succ n => exact if_neg (fun q => h1 q.1)
theorem on_2 {e : Nat → Int64} {n i : Nat} {t : TA} {c : Int32} (h2 : ¬ Cbo (e i) (e (i + 1)) (e (i + 2)) (e (i + 3))) : onG e n i t c = (t, c) := by
  cases n with
  | zero => rfl
  | succ n => exact if_neg (fun q => h2 q.2)
noncomputable def PXones (h s : Nat → Int32) (e : Nat → Int64) (t : TA) (a n r : Int32) (t' : TA) : Prop := (r = -2 ∧ (¬ Sh a ∨ ∃ k : Nat, k < 8 ∧ a = nI k ∧ ¬ 10 ≤ h k ∧ Rw (h k) ∧ (¬ Iv n.toInt64 0 (s k).toInt64 ∨ ¬ n - n / 4 * 4 = 0)) ∧ t' = t) ∨ (r = -3 ∧ (∃ k : Nat, k < 8 ∧ a = nI k ∧ 10 ≤ h k) ∧ t' = t) ∨ (r = -4 ∧ (∃ k : Nat, k < 8 ∧ a = nI k ∧ ¬ 10 ≤ h k ∧ ¬ Rw (h k)) ∧ t' = t) ∨ ∃ k m : Nat, k < 8 ∧ a = nI k ∧ ¬ 10 ≤ h k ∧ Rw (h k) ∧ n = nI (4 * m) ∧ 4 * m ≤ 40 ∧ Iv n.toInt64 0 (s k).toInt64 ∧ (t', r) = onG (fun i => e (k * 40 + i)) m 0 t 0
noncomputable def PXfeed (z : Nat) (n r : Int32) (z' : Nat) : Prop := (r = -2 ∧ ¬ Iv n.toInt64 1 4 ∧ z' = z) ∨ ∃ k : Nat, 1 ≤ k ∧ k ≤ 4 ∧ n = nI k ∧ ((r = -6 ∧ 250 < z + k ∧ z' = z) ∨ (r = nI (z + k) ∧ z + k ≤ 250 ∧ z' = z + k))
noncomputable abbrev Pr (t : TA) (a b : Int32) : Prop := (∃ k : Nat, k < T_np t ∧ a = nI k) ∧ (∃ k : Nat, k < T_nb t ∧ b = nI k)
noncomputable def PXalter (t : TA) (a b v r : Int32) (t' : TA) : Prop := (r = -2 ∧ ¬ (Pr t a b ∧ Iv v.toInt64 0 1000) ∧ t' = t) ∨ ∃ k m : Nat, k < T_np t ∧ m < T_nb t ∧ a = nI k ∧ b = nI m ∧ Iv v.toInt64 0 1000 ∧ ((r = -5 ∧ T_gn t k = true ∧ t' = t) ∨ (r = T_kn t k m ∧ T_gn t k = false ∧ t' = T_setkn t (updM (T_kn t) k m v)))
noncomputable def PXread (t : TA) (a b r : Int32) (t' : TA) : Prop := (r = -2 ∧ ¬ Pr t a b ∧ t' = t) ∨ ∃ k m : Nat, k < T_np t ∧ m < T_nb t ∧ a = nI k ∧ b = nI m ∧ ((r = -5 ∧ (T_wh t m = true ∨ T_gn t k = true) ∧ t' = t) ∨ (r = T_kn (rdT t k m) k m ∧ T_wh t m = false ∧ T_gn t k = false ∧ t' = rdT t k m))
noncomputable def PXaloud (t : TA) (a b o r : Int32) (t' : TA) : Prop := (r = -2 ∧ ¬ (SetO o (T_np t) ∧ Pr t a b) ∧ t' = t) ∨ ∃ k m : Nat, k < T_np t ∧ m < T_nb t ∧ a = nI k ∧ b = nI m ∧ SetO o (T_np t) ∧ ((r = -5 ∧ (T_wh t m = true ∨ T_gn t k = true) ∧ t' = t) ∨ (r = (zhf (rdT t k m) k m o).2 ∧ T_wh t m = false ∧ T_gn t k = false ∧ t' = (zhf (rdT t k m) k m o).1))
noncomputable def PXtell (t : TA) (a o b r : Int32) (t' : TA) : Prop := (r = -2 ∧ ¬ (Pr t a b ∧ (∃ k : Nat, k < T_np t ∧ o = nI k) ∧ ¬ a = o) ∧ t' = t) ∨ ∃ k j m : Nat, k < T_np t ∧ j < T_np t ∧ m < T_nb t ∧ a = nI k ∧ o = nI j ∧ b = nI m ∧ ¬ k = j ∧ ((r = -5 ∧ (T_gn t k = true ∨ T_gn t j = true) ∧ t' = t) ∨ (r = zgt t k j m ∧ T_gn t k = false ∧ T_gn t j = false ∧ t' = tlT t k j m))
noncomputable def PXwrite (t : TA) (a b r : Int32) (t' : TA) : Prop := (r = -2 ∧ ¬ Pr t a b ∧ t' = t) ∨ ∃ k m : Nat, k < T_np t ∧ m < T_nb t ∧ a = nI k ∧ b = nI m ∧ ((r = -5 ∧ (T_wh t m = false ∨ T_gn t k = true ∨ T_kn t k m < 1) ∧ t' = t) ∨ (r = T_kn t k m ∧ T_wh t m = true ∧ T_gn t k = false ∧ ¬ T_kn t k m < 1 ∧ t' = T_setgo (T_setwh t (updB (T_wh t) m false)) (upd (T_go t) m (T_kn t k m))))
noncomputable def yrG (k a : Int32) : Nat → TA → Int32 → TA × Int32
  | 0, t, s => (t, s)
  | n + 1, t, s => yrG k a n (zey (zdd (zact t k a).1)) (s + zval (zact t k a).1)
noncomputable def PXyears (h am : Nat → Int32) (t : TA) (a n r : Int32) (t' : TA) : Prop := (r = -2 ∧ (¬ Iv n.toInt64 1 20 ∨ ¬ Sh a) ∧ t' = t) ∨ (r = -3 ∧ Iv n.toInt64 1 20 ∧ (∃ k : Nat, k < 8 ∧ a = nI k ∧ Rw (h k)) ∧ t' = t) ∨ (r = -4 ∧ Iv n.toInt64 1 20 ∧ (∃ k : Nat, k < 8 ∧ a = nI k ∧ ¬ Rw (h k) ∧ ¬ 10 ≤ h k) ∧ t' = t) ∨ ∃ k m : Nat, k < 8 ∧ a = nI k ∧ ¬ Rw (h k) ∧ 10 ≤ h k ∧ 1 ≤ m ∧ m ≤ 20 ∧ n = nI m ∧ (t', r) = yrG (h k - 10) (am k) m t 0
theorem dv100 {v : Int64} (h : Iv v 0 799) : ∃ p b : Nat, p < 8 ∧ b < 100 ∧ v.toInt32 / 100 = nI p ∧ v.toInt32 - v.toInt32 / 100 * 100 = nI b ∧ v.toInt = 100 * p + b := by
  obtain ⟨h1, h2⟩ := Iv_iff.mp h
  rw [Int64.le_iff_toInt_le] at h1 h2
  have e0 : (0 : Int64).toInt = 0 := by decide +kernel
  have e1 : (799 : Int64).toInt = 799 := by decide +kernel
  rw [e0] at h1
  rw [e1] at h2
  have e : v.toInt32 = nI v.toInt.toNat := by
    apply Int32.toInt_inj.mp
    rw [nI_toInt (by omega), Int64.toInt_toInt32, Int.bmod_def]
    omega
  generalize hn : v.toInt.toNat = n at e
  have hn8 : n < 800 := by omega
  have hd : nI n / 100 = nI (n / 100) := by
    rw [show (100 : Int32) = nI 100 from rfl]
    exact pk_div (by omega) (by omega) (by omega)
  refine ⟨n / 100, n % 100, by omega, by omega, ?_, ?_, by omega⟩
  · rw [e, hd]
  · rw [e, hd, show (100 : Int32) = nI 100 from rfl, pk_mul, pk_sub (by omega)]
    congr 1
    omega
theorem lt_of8 {n : Nat} (h : n ≤ 8) (c : nI n < 8) : n < 8 := by
  rcases Nat.lt_or_ge n 8 with q | q
  · exact q
  · exact absurd c (by rw [show n = 8 by omega]; decide)
theorem nlt_of8 {n : Nat} (h : n ≤ 8) (c : ¬ nI n < 8) : ¬ n < 8 := fun q => c (by
  rw [Int32.lt_iff_toInt_lt, nI_toInt (by omega)]
  show (n : Int) < 8
  omega)
theorem fd_yes {z k : Nat} (hz : z ≤ 250) (hk : k ≤ 4) (c : nI z ≤ 250 - nI k) : z + k ≤ 250 := by
  rw [show (250 : Int32) = nI 250 from rfl, pk_sub (by omega), Int32.le_iff_toInt_le, nI_toInt (by omega), nI_toInt (by omega)] at c
  omega
theorem fd_no {z k : Nat} (hz : z ≤ 250) (hk : k ≤ 4) (c : ¬ nI z ≤ 250 - nI k) : 250 < z + k := by
  rw [show (250 : Int32) = nI 250 from rfl, pk_sub (by omega), Int32.le_iff_toInt_le, nI_toInt (by omega), nI_toInt (by omega)] at c
  omega
theorem sz4 {x z : Int32} {n : Nat} (hz : z = nI n) (hn : n ≤ 40) (h : Iv x.toInt64 0 z.toInt64) (c : x - x / 4 * 4 = 0) : ∃ k : Nat, 4 * k ≤ 40 ∧ x = nI (4 * k) := by
  subst hz
  have h1 := toI h (m := 0) (n := n) (by decide +kernel) (by rw [Int32.toInt_toInt64, nI_toInt (by omega)])
  obtain ⟨k, hk, rfl⟩ := nI_of (x := x) (by rw [Int32.lt_iff_toInt_lt]; exact Int.not_lt.mpr h1.1)
  rw [nI_toInt hk] at h1
  rw [show (4 : Int32) = nI 4 from rfl, pk_rem hk (by omega) (by omega)] at c
  have e : k % 4 = 0 := nI_inj (a := k % 4) (b := 0) (by omega) (by omega) c
  exact ⟨k / 4, by omega, by congr 1; omega⟩
end
