theorem dX1_act_0 : decode cX1_act 0 = .ok (.iload_n 1, 1) := by decide +kernel
theorem dX1_act_1 : decode cX1_act 1 = .ok (.tableswitch 89 1 6 #[39, 47, 54, 62, 68, 78], 39) := by decide +kernel
theorem dX1_act_40 : decode cX1_act 40 = .ok (.aload_n 0, 1) := by decide +kernel
theorem dX1_act_41 : decode cX1_act 41 = .ok (.bipush 8, 2) := by decide +kernel
theorem dX1_act_43 : decode cX1_act 43 = .ok (.iconst 0, 1) := by decide +kernel
theorem dX1_act_44 : decode cX1_act 44 = .ok (.invokestatic 9, 3) := by decide +kernel
theorem dX1_act_47 : decode cX1_act 47 = .ok (.ireturn, 1) := by decide +kernel
theorem dX1_act_48 : decode cX1_act 48 = .ok (.aload_n 0, 1) := by decide +kernel
theorem dX1_act_49 : decode cX1_act 49 = .ok (.iload_n 2, 1) := by decide +kernel
theorem dX1_act_50 : decode cX1_act 50 = .ok (.iconst 0, 1) := by decide +kernel
theorem dX1_act_51 : decode cX1_act 51 = .ok (.invokestatic 9, 3) := by decide +kernel
theorem dX1_act_54 : decode cX1_act 54 = .ok (.ireturn, 1) := by decide +kernel
theorem dX1_act_55 : decode cX1_act 55 = .ok (.aload_n 0, 1) := by decide +kernel
theorem dX1_act_56 : decode cX1_act 56 = .ok (.bipush 8, 2) := by decide +kernel
theorem dX1_act_58 : decode cX1_act 58 = .ok (.iconst 1, 1) := by decide +kernel
theorem dX1_act_59 : decode cX1_act 59 = .ok (.invokestatic 9, 3) := by decide +kernel
theorem dX1_act_62 : decode cX1_act 62 = .ok (.ireturn, 1) := by decide +kernel
theorem dX1_act_63 : decode cX1_act 63 = .ok (.aload_n 0, 1) := by decide +kernel
theorem dX1_act_64 : decode cX1_act 64 = .ok (.invokestatic 15, 3) := by decide +kernel
theorem dX1_act_67 : decode cX1_act 67 = .ok (.iconst 0, 1) := by decide +kernel
theorem dX1_act_68 : decode cX1_act 68 = .ok (.ireturn, 1) := by decide +kernel
theorem dX1_act_69 : decode cX1_act 69 = .ok (.aload_n 0, 1) := by decide +kernel
theorem dX1_act_70 : decode cX1_act 70 = .ok (.invokestatic 15, 3) := by decide +kernel
theorem dX1_act_73 : decode cX1_act 73 = .ok (.aload_n 0, 1) := by decide +kernel
theorem dX1_act_74 : decode cX1_act 74 = .ok (.invokestatic 15, 3) := by decide +kernel
theorem dX1_act_77 : decode cX1_act 77 = .ok (.iconst 0, 1) := by decide +kernel
theorem dX1_act_78 : decode cX1_act 78 = .ok (.ireturn, 1) := by decide +kernel
theorem dX1_act_79 : decode cX1_act 79 = .ok (.aload_n 0, 1) := by decide +kernel
theorem dX1_act_80 : decode cX1_act 80 = .ok (.invokestatic 15, 3) := by decide +kernel
theorem dX1_act_83 : decode cX1_act 83 = .ok (.aload_n 0, 1) := by decide +kernel
theorem dX1_act_84 : decode cX1_act 84 = .ok (.iconst 1, 1) := by decide +kernel
theorem dX1_act_85 : decode cX1_act 85 = .ok (.iconst 0, 1) := by decide +kernel
theorem dX1_act_86 : decode cX1_act 86 = .ok (.invokestatic 9, 3) := by decide +kernel
theorem dX1_act_89 : decode cX1_act 89 = .ok (.ireturn, 1) := by decide +kernel
theorem dX1_act_90 : decode cX1_act 90 = .ok (.iconst 0, 1) := by decide +kernel
theorem dX1_act_91 : decode cX1_act 91 = .ok (.ireturn, 1) := by decide +kernel
theorem dX1_readDearest_0 : decode cX1_readDearest 0 = .ok (.iconst 0, 1) := by decide +kernel
theorem dX1_readDearest_1 : decode cX1_readDearest 1 = .ok (.istore_n 3, 1) := by decide +kernel
theorem dX1_readDearest_2 : decode cX1_readDearest 2 = .ok (.iconst 0, 1) := by decide +kernel
theorem dX1_readDearest_3 : decode cX1_readDearest 3 = .ok (.istore 4, 2) := by decide +kernel
theorem dX1_readDearest_5 : decode cX1_readDearest 5 = .ok (.iload 4, 2) := by decide +kernel
theorem dX1_readDearest_7 : decode cX1_readDearest 7 = .ok (.bipush 8, 2) := by decide +kernel
theorem dX1_readDearest_9 : decode cX1_readDearest 9 = .ok (.if_icmp .ge 76, 3) := by decide +kernel
theorem dX1_readDearest_12 : decode cX1_readDearest 12 = .ok (.iload 4, 2) := by decide +kernel
theorem dX1_readDearest_14 : decode cX1_readDearest 14 = .ok (.iload_n 1, 1) := by decide +kernel
theorem dX1_readDearest_15 : decode cX1_readDearest 15 = .ok (.if_icmp .ge 70, 3) := by decide +kernel
theorem dX1_readDearest_18 : decode cX1_readDearest 18 = .ok (.aload_n 0, 1) := by decide +kernel
theorem dX1_readDearest_19 : decode cX1_readDearest 19 = .ok (.invokevirtual 19, 3) := by decide +kernel
theorem dX1_readDearest_22 : decode cX1_readDearest 22 = .ok (.istore 5, 2) := by decide +kernel
theorem dX1_readDearest_24 : decode cX1_readDearest 24 = .ok (.iload 5, 2) := by decide +kernel
theorem dX1_readDearest_26 : decode cX1_readDearest 26 = .ok (.iconst (-1), 1) := by decide +kernel
theorem dX1_readDearest_27 : decode cX1_readDearest 27 = .ok (.if_icmp .ne 7, 3) := by decide +kernel
theorem dX1_readDearest_30 : decode cX1_readDearest 30 = .ok (.iconst (-1), 1) := by decide +kernel
theorem dX1_readDearest_31 : decode cX1_readDearest 31 = .ok (.goto 9, 3) := by decide +kernel
theorem dX1_readDearest_34 : decode cX1_readDearest 34 = .ok (.aload_n 0, 1) := by decide +kernel
theorem dX1_readDearest_35 : decode cX1_readDearest 35 = .ok (.iload 5, 2) := by decide +kernel
theorem dX1_readDearest_37 : decode cX1_readDearest 37 = .ok (.invokevirtual 25, 3) := by decide +kernel
theorem dX1_readDearest_40 : decode cX1_readDearest 40 = .ok (.istore 6, 2) := by decide +kernel
theorem dX1_readDearest_42 : decode cX1_readDearest 42 = .ok (.iload 6, 2) := by decide +kernel
theorem dX1_readDearest_44 : decode cX1_readDearest 44 = .ok (.iconst (-1), 1) := by decide +kernel
theorem dX1_readDearest_45 : decode cX1_readDearest 45 = .ok (.if_icmp .ne 6, 3) := by decide +kernel
theorem dX1_readDearest_48 : decode cX1_readDearest 48 = .ok (.goto 37, 3) := by decide +kernel
theorem dX1_readDearest_51 : decode cX1_readDearest 51 = .ok (.aload_n 0, 1) := by decide +kernel
theorem dX1_readDearest_52 : decode cX1_readDearest 52 = .ok (.iload 6, 2) := by decide +kernel
theorem dX1_readDearest_54 : decode cX1_readDearest 54 = .ok (.iload 5, 2) := by decide +kernel
theorem dX1_readDearest_56 : decode cX1_readDearest 56 = .ok (.invokevirtual 29, 3) := by decide +kernel
theorem dX1_readDearest_59 : decode cX1_readDearest 59 = .ok (.iload_n 2, 1) := by decide +kernel
theorem dX1_readDearest_60 : decode cX1_readDearest 60 = .ok (.ifCond .eq 16, 3) := by decide +kernel
theorem dX1_readDearest_63 : decode cX1_readDearest 63 = .ok (.aload_n 0, 1) := by decide +kernel
theorem dX1_readDearest_64 : decode cX1_readDearest 64 = .ok (.iload 6, 2) := by decide +kernel
theorem dX1_readDearest_66 : decode cX1_readDearest 66 = .ok (.iload 5, 2) := by decide +kernel
theorem dX1_readDearest_68 : decode cX1_readDearest 68 = .ok (.aload_n 0, 1) := by decide +kernel
theorem dX1_readDearest_69 : decode cX1_readDearest 69 = .ok (.invokevirtual 33, 3) := by decide +kernel
theorem dX1_readDearest_72 : decode cX1_readDearest 72 = .ok (.invokevirtual 36, 3) := by decide +kernel
theorem dX1_readDearest_75 : decode cX1_readDearest 75 = .ok (.pop, 1) := by decide +kernel
theorem dX1_readDearest_76 : decode cX1_readDearest 76 = .ok (.iinc 3 1, 3) := by decide +kernel
theorem dX1_readDearest_79 : decode cX1_readDearest 79 = .ok (.iinc 4 1, 3) := by decide +kernel
theorem dX1_readDearest_82 : decode cX1_readDearest 82 = .ok (.goto (-77), 3) := by decide +kernel
theorem dX1_readDearest_85 : decode cX1_readDearest 85 = .ok (.iload_n 3, 1) := by decide +kernel
theorem dX1_readDearest_86 : decode cX1_readDearest 86 = .ok (.ireturn, 1) := by decide +kernel
set_option maxHeartbeats 4000000 in
set_option maxRecDepth 100000 in
theorem c_X1_readDearest (l : Launch) (G : va_G) (cy : Nat → ClassId) (sz : Nat) (qt : Nat) (tA : TA) (qtw : Nat) (qtn : Nat) (qtg : Nat) (qta : Nat) (qtr : Nat) (qtm : Nat) (qtt : Nat) (qts : Nat) (iM : Int32) (iL : Int32)  (hB : T_nb tA ≤ 8) (hPp : T_np tA ≤ 8) : MW l yX1_readDearest cX1_readDearest 7 (some .int) 4 0 0 G cy [zzO qt 3 [.int (nI (T_nb tA)), .int (nI (T_np tA)), .int (wb (T_wh tA)), .int (wb (T_gn tA)), .int (T_sd tA), .ref qtw, .ref qtn, .ref qtg, .ref qta, .ref qtr, .ref qtm, .ref qtt, .ref qts], zzI cy qtw 8 (T_wo tA), zzI cy qtn 8 (T_ne tA), zzI cy qtg 8 (T_go tA), zzI cy qta 8 (T_ag tA), zzI cy qtr 8 (T_re tA), zzI cy qtm 8 (T_me tA), zzI cy qtt 8 (T_te tA), zzI cy qts 64 (shF (T_kn tA))] sz [.ref qt, .int iM, .int iL] (Wi G (fun r u => u = [zzO qt 3 [.int (nI (T_nb ((zrd tA iM iL).1))), .int (nI (T_np ((zrd tA iM iL).1))), .int (wb (T_wh ((zrd tA iM iL).1))), .int (wb (T_gn ((zrd tA iM iL).1))), .int (T_sd ((zrd tA iM iL).1)), .ref qtw, .ref qtn, .ref qtg, .ref qta, .ref qtr, .ref qtm, .ref qtt, .ref qts], zzI cy qtw 8 (T_wo ((zrd tA iM iL).1)), zzI cy qtn 8 (T_ne ((zrd tA iM iL).1)), zzI cy qtg 8 (T_go ((zrd tA iM iL).1)), zzI cy qta 8 (T_ag ((zrd tA iM iL).1)), zzI cy qtr 8 (T_re ((zrd tA iM iL).1)), zzI cy qtm 8 (T_me ((zrd tA iM iL).1)), zzI cy qtt 8 (T_te ((zrd tA iM iL).1)), zzI cy qts 64 (shF (T_kn ((zrd tA iM iL).1)))] ∧ ((r = ((zrd tA iM iL).2))))) := by
  refine enW RX1 (by decide) rfl (Nat.le_of_ble_eq_true rfl) (fun p e s m below meth c ls A hx hb hml hown hts hr hlocks hP hN hl hin hD hA hS => ?_)
  have hin : meth.name = _ := hin
  have hK := hN.1
  replace hl : lv_has ls 7 [(0, .ref qt), (1, .int iM), (2, .int iL)] := hl
  refine lv_iconst (v := 0) hx hb dX1_readDearest_0 (by decide) ?_
  refine lv_istore_n (lv' := [(3, .int 0), (0, .ref qt), (1, .int iM), (2, .int iL)]) hx hb dX1_readDearest_1 rfl hl (by decide) rfl (fun ls => ?_)
  clear hl
  intro hl
  refine lv_iconst (v := 0) hx hb dX1_readDearest_2 (by decide) ?_
  refine lv_istore (lv' := [(4, .int 0), (3, .int 0), (0, .ref qt), (1, .int iM), (2, .int iL)]) hx hb dX1_readDearest_3 hl (by decide) rfl (fun ls => ?_)
  clear hl
  intro hl
  have lp_1 : ∀ (n_2 : Nat) (j_4 : Nat) (tJ_5 : TA) (xC_6 : Int32), 8 - j_4 < n_2 → j_4 ≤ 8 → rdG iL iM (8 - j_4) j_4 tJ_5 xC_6 = zrd tA iM iL → T_nb tJ_5 = T_nb tA ∧ T_np tJ_5 = T_np tA → ∀ (H : Heap) (locs : List Loc) (ls : Array Slot), va_P G CL [zzO qt 3 [.int (nI (T_nb tJ_5)), .int (nI (T_np tJ_5)), .int (wb (T_wh tJ_5)), .int (wb (T_gn tJ_5)), .int (T_sd tJ_5), .ref qtw, .ref qtn, .ref qtg, .ref qta, .ref qtr, .ref qtm, .ref qtt, .ref qts], zzI cy qtw 8 (T_wo tJ_5), zzI cy qtn 8 (T_ne tJ_5), zzI cy qtg 8 (T_go tJ_5), zzI cy qta 8 (T_ag tJ_5), zzI cy qtr 8 (T_re tJ_5), zzI cy qtm 8 (T_me tJ_5), zzI cy qtt 8 (T_te tJ_5), zzI cy qts 64 (shF (T_kn tJ_5))] H → va_D A [zzO qt 3 [.int (nI (T_nb tJ_5)), .int (nI (T_np tJ_5)), .int (wb (T_wh tJ_5)), .int (wb (T_gn tJ_5)), .int (T_sd tJ_5), .ref qtw, .ref qtn, .ref qtg, .ref qta, .ref qtr, .ref qtm, .ref qtt, .ref qts], zzI cy qtw 8 (T_wo tJ_5), zzI cy qtn 8 (T_ne tJ_5), zzI cy qtg 8 (T_go tJ_5), zzI cy qta 8 (T_ag tJ_5), zzI cy qtr 8 (T_re tJ_5), zzI cy qtm 8 (T_me tJ_5), zzI cy qtt 8 (T_te tJ_5), zzI cy qts 64 (shF (T_kn tJ_5))] → va_S A s.heap H locs → lv_has ls 7 [(4, .int (nI j_4)), (3, .int xC_6), (0, .ref qt), (1, .int iM), (2, .int iL)] → W p l e (Rm 4 0 0) s m (List.toArray (α := Value) [.ref qt, .int iM, .int iL]) below meth c H locs 0 0 (MQ below ((Wi G (fun r u => u = [zzO qt 3 [.int (nI (T_nb ((zrd tA iM iL).1))), .int (nI (T_np ((zrd tA iM iL).1))), .int (wb (T_wh ((zrd tA iM iL).1))), .int (wb (T_gn ((zrd tA iM iL).1))), .int (T_sd ((zrd tA iM iL).1)), .ref qtw, .ref qtn, .ref qtg, .ref qta, .ref qtr, .ref qtm, .ref qtt, .ref qts], zzI cy qtw 8 (T_wo ((zrd tA iM iL).1)), zzI cy qtn 8 (T_ne ((zrd tA iM iL).1)), zzI cy qtg 8 (T_go ((zrd tA iM iL).1)), zzI cy qta 8 (T_ag ((zrd tA iM iL).1)), zzI cy qtr 8 (T_re ((zrd tA iM iL).1)), zzI cy qtm 8 (T_me ((zrd tA iM iL).1)), zzI cy qtt 8 (T_te ((zrd tA iM iL).1)), zzI cy qts 64 (shF (T_kn ((zrd tA iM iL).1)))] ∧ ((r = ((zrd tA iM iL).2))))) A) (List.toArray (α := Value) [.ref qt, .int iM, .int iL]) s 0 0 A) (F0 m 5 ls []) := by
    intro n_2
    induction n_2 with
    | zero => intro j_4 tJ_5 xC_6 hm9; exact absurd hm9 (Nat.not_lt_zero _)
    | succ n_2 ih_3 =>
      intro j_4 tJ_5 xC_6 hm_10 hj_7 hT_8 hn_9 H locs ls hP hD hS hl
      refine lv_iload hx hb dX1_readDearest_5 (lv_at hl 0 rfl) ?_
      refine lv_bipush (v := 8) hx hb dX1_readDearest_7 (by decide) ?_
      refine lv_icmp_ge (tgt := 85) hx hb dX1_readDearest_9 (by decide) (fun c_11 => ?_) (fun c_11 => ?_)
      · have hlt_12 : j_4 = 8 := Nat.le_antisymm (by omega) (lp_ge rfl (rfl : (8 : Int32) = nI 8) (by omega) (by omega) c_11)
        have hlt_12r : rdG iL iM (8 - j_4) j_4 tJ_5 xC_6 = (tJ_5, xC_6) := by rw [hlt_12]; rfl
        have e8_13 : xC_6 = (zrd tA iM iL).2 := by rw [← hT_8, hlt_12r]
        have e9_14 : tJ_5 = (zrd tA iM iL).1 := by rw [← hT_8, hlt_12r]
        subst e9_14
        refine lv_iload_n hx hb dX1_readDearest_85 rfl (lv_at hl 1 rfl) ?_
        exact endW (u := [zzO qt 3 [.int (nI (T_nb ((zrd tA iM iL).1))), .int (nI (T_np ((zrd tA iM iL).1))), .int (wb (T_wh ((zrd tA iM iL).1))), .int (wb (T_gn ((zrd tA iM iL).1))), .int (T_sd ((zrd tA iM iL).1)), .ref qtw, .ref qtn, .ref qtg, .ref qta, .ref qtr, .ref qtm, .ref qtt, .ref qts], zzI cy qtw 8 (T_wo ((zrd tA iM iL).1)), zzI cy qtn 8 (T_ne ((zrd tA iM iL).1)), zzI cy qtg 8 (T_go ((zrd tA iM iL).1)), zzI cy qta 8 (T_ag ((zrd tA iM iL).1)), zzI cy qtr 8 (T_re ((zrd tA iM iL).1)), zzI cy qtm 8 (T_me ((zrd tA iM iL).1)), zzI cy qtt 8 (T_te ((zrd tA iM iL).1)), zzI cy qts 64 (shF (T_kn ((zrd tA iM iL).1)))]) hx hb hr hlocks rfl (hP.sub [0, 1, 2, 3, 4, 5, 6, 7, 8] rfl) (hD.sub [0, 1, 2, 3, 4, 5, 6, 7, 8] (by decide +kernel) rfl) hS ⟨rfl, (by exact e8_13)⟩ dX1_readDearest_86
      · have hlt_15 : j_4 < 8 := lp_lt rfl (rfl : (8 : Int32) = nI 8) (by omega) (by omega) c_11
        obtain ⟨hlt_15b, hlt_15p⟩ := id hn_9
        refine lv_iload hx hb dX1_readDearest_12 (lv_at hl 0 rfl) ?_
        refine lv_iload_n hx hb dX1_readDearest_14 rfl (lv_at hl 3 rfl) ?_
        refine lv_icmp_ge (tgt := 85) hx hb dX1_readDearest_15 (by decide) (fun c_16 => ?_) (fun c_16 => ?_)
        · have e8_17 : xC_6 = (zrd tA iM iL).2 := by rw [← hT_8, rd_m c_16]
          have e9_18 : tJ_5 = (zrd tA iM iL).1 := by rw [← hT_8, rd_m c_16]
          subst e9_18
          refine lv_iload_n hx hb dX1_readDearest_85 rfl (lv_at hl 1 rfl) ?_
          exact endW (u := [zzO qt 3 [.int (nI (T_nb ((zrd tA iM iL).1))), .int (nI (T_np ((zrd tA iM iL).1))), .int (wb (T_wh ((zrd tA iM iL).1))), .int (wb (T_gn ((zrd tA iM iL).1))), .int (T_sd ((zrd tA iM iL).1)), .ref qtw, .ref qtn, .ref qtg, .ref qta, .ref qtr, .ref qtm, .ref qtt, .ref qts], zzI cy qtw 8 (T_wo ((zrd tA iM iL).1)), zzI cy qtn 8 (T_ne ((zrd tA iM iL).1)), zzI cy qtg 8 (T_go ((zrd tA iM iL).1)), zzI cy qta 8 (T_ag ((zrd tA iM iL).1)), zzI cy qtr 8 (T_re ((zrd tA iM iL).1)), zzI cy qtm 8 (T_me ((zrd tA iM iL).1)), zzI cy qtt 8 (T_te ((zrd tA iM iL).1)), zzI cy qts 64 (shF (T_kn ((zrd tA iM iL).1)))]) hx hb hr hlocks rfl (hP.sub [0, 1, 2, 3, 4, 5, 6, 7, 8] rfl) (hD.sub [0, 1, 2, 3, 4, 5, 6, 7, 8] (by decide +kernel) rfl) hS ⟨rfl, (by exact e8_17)⟩ dX1_readDearest_86
        · refine lv_aload_n hx hb dX1_readDearest_18 rfl (lv_at hl 2 rfl) ?_
          refine kRi (rV (As := []) (rest := []) (b := qt) ⟨hx, hb, hml, hown, hts⟩ (c_X4_dearestUnread l G cy qt tJ_5 qtw qtn qtg qta qtr qtm qtt qts (by first | omega | (simp only [nb_rd, np_rd, nb_ch, np_ch, nb_zr, np_zr, nb_za, np_za, nb_ey, np_ey, nb_hf, np_hf, nb_dd, np_dd, nb_so, np_so, nb_skn, np_skn, nb_swh, np_swh, nb_sgn, np_sgn, nb_ssd, np_ssd, nb_sgo, np_sgo, nb_sag, np_sag]; omega))) L_X1_19 (preRV (q := (RX4, TX4, 13)) hN hP [0, 1, 2, 3, 4, 5, 6, 7, 8] rfl 0 3 rfl rfl) rfl ⟨Nat.le_of_ble_eq_true rfl, Nat.le_of_ble_eq_true rfl⟩ hl.1 (Nat.le_of_ble_eq_true rfl) dX1_readDearest_19 ⟨Nat.le_of_ble_eq_true rfl, Nat.le_of_ble_eq_true rfl⟩) (fun r_19 h_20 => ?_)
          subst h_20
          refine lv_istore (lv' := [(5, .int (zdu tJ_5)), (4, .int (nI j_4)), (3, .int xC_6), (0, .ref qt), (1, .int iM), (2, .int iL)]) hx hb dX1_readDearest_22 hl (by decide) rfl (fun ls => ?_)
          clear hl
          intro hl
          rcases du_in tJ_5 (T_nb tJ_5) with ek_23 | ⟨k_21, hk_22, ek_23⟩
          · have ek_23 : zdu tJ_5 = -1 := ek_23
            rw [ek_23] at hl
            have e8_24 : xC_6 = (zrd tA iM iL).2 := by rw [← hT_8, rd_u ek_23]
            have e9_25 : tJ_5 = (zrd tA iM iL).1 := by rw [← hT_8, rd_u ek_23]
            subst e9_25
            refine lv_iload hx hb dX1_readDearest_24 (lv_at hl 0 rfl) ?_
            refine lv_iconst (v := (-1)) hx hb dX1_readDearest_26 (by decide) ?_
            refine lv_icmp_ne (tgt := 34) hx hb dX1_readDearest_27 (by decide) (fun h9 => absurd (by decide) h9) (fun _ => ?_)
            refine lv_iconst (v := (-1)) hx hb dX1_readDearest_30 (by decide) ?_
            refine lv_goto (tgt := 40) hx hb dX1_readDearest_31 (by decide) ?_
            refine lv_istore (lv' := [(6, .int (-1)), (5, .int (-1)), (4, .int (nI j_4)), (3, .int xC_6), (0, .ref qt), (1, .int iM), (2, .int iL)]) hx hb dX1_readDearest_40 hl (by decide) rfl (fun ls => ?_)
            clear hl
            intro hl
            refine lv_iload hx hb dX1_readDearest_42 (lv_at hl 0 rfl) ?_
            refine lv_iconst (v := (-1)) hx hb dX1_readDearest_44 (by decide) ?_
            refine lv_icmp_ne (tgt := 51) hx hb dX1_readDearest_45 (by decide) (fun h9 => absurd (by decide) h9) (fun _ => ?_)
            refine lv_goto (tgt := 85) hx hb dX1_readDearest_48 (by decide) ?_
            refine lv_iload_n hx hb dX1_readDearest_85 rfl (lv_at hl 3 rfl) ?_
            exact endW (u := [zzO qt 3 [.int (nI (T_nb ((zrd tA iM iL).1))), .int (nI (T_np ((zrd tA iM iL).1))), .int (wb (T_wh ((zrd tA iM iL).1))), .int (wb (T_gn ((zrd tA iM iL).1))), .int (T_sd ((zrd tA iM iL).1)), .ref qtw, .ref qtn, .ref qtg, .ref qta, .ref qtr, .ref qtm, .ref qtt, .ref qts], zzI cy qtw 8 (T_wo ((zrd tA iM iL).1)), zzI cy qtn 8 (T_ne ((zrd tA iM iL).1)), zzI cy qtg 8 (T_go ((zrd tA iM iL).1)), zzI cy qta 8 (T_ag ((zrd tA iM iL).1)), zzI cy qtr 8 (T_re ((zrd tA iM iL).1)), zzI cy qtm 8 (T_me ((zrd tA iM iL).1)), zzI cy qtt 8 (T_te ((zrd tA iM iL).1)), zzI cy qts 64 (shF (T_kn ((zrd tA iM iL).1)))]) hx hb hr hlocks rfl (hP.sub [0, 1, 2, 3, 4, 5, 6, 7, 8] rfl) (hD.sub [0, 1, 2, 3, 4, 5, 6, 7, 8] (by decide +kernel) rfl) hS ⟨rfl, (by exact e8_24)⟩ dX1_readDearest_86
          · have ek_23 : zdu tJ_5 = nI k_21 := ek_23
            rw [ek_23] at hl
            refine lv_iload hx hb dX1_readDearest_24 (lv_at hl 0 rfl) ?_
            refine lv_iconst (v := (-1)) hx hb dX1_readDearest_26 (by decide) ?_
            refine lv_icmp_ne (tgt := 34) hx hb dX1_readDearest_27 (by decide) (fun c_28 => ?_) (fun c_28 => ?_)
            · refine lv_aload_n hx hb dX1_readDearest_34 rfl (lv_at hl 3 rfl) ?_
              refine lv_iload hx hb dX1_readDearest_35 (lv_at hl 0 rfl) ?_
              refine kRi (rV (As := [.int (nI k_21)]) (rest := []) (b := qt) ⟨hx, hb, hml, hown, hts⟩ (c_X4_bestReader l G cy qt tJ_5 qtw qtn qtg qta qtr qtm qtt qts k_21 (by first | omega | (simp only [nb_rd, np_rd, nb_ch, np_ch, nb_zr, np_zr, nb_za, np_za, nb_ey, np_ey, nb_hf, np_hf, nb_dd, np_dd, nb_so, np_so, nb_skn, np_skn, nb_swh, np_swh, nb_sgn, np_sgn, nb_ssd, np_ssd, nb_sgo, np_sgo, nb_sag, np_sag]; omega)) (by first | omega | (simp only [nb_rd, np_rd, nb_ch, np_ch, nb_zr, np_zr, nb_za, np_za, nb_ey, np_ey, nb_hf, np_hf, nb_dd, np_dd, nb_so, np_so, nb_skn, np_skn, nb_swh, np_swh, nb_sgn, np_sgn, nb_ssd, np_ssd, nb_sgo, np_sgo, nb_sag, np_sag]; omega))) L_X1_25 (preRV (q := (RX4, TX4, 13)) hN hP [0, 1, 2, 3, 4, 5, 6, 7, 8] rfl 0 3 rfl rfl) rfl ⟨Nat.le_of_ble_eq_true rfl, Nat.le_of_ble_eq_true rfl⟩ hl.1 (Nat.le_of_ble_eq_true rfl) dX1_readDearest_37 ⟨Nat.le_of_ble_eq_true rfl, Nat.le_of_ble_eq_true rfl⟩) (fun r_29 h_30 => ?_)
              subst h_30
              refine lv_istore (lv' := [(6, .int (zbr tJ_5 k_21)), (5, .int (nI k_21)), (4, .int (nI j_4)), (3, .int xC_6), (0, .ref qt), (1, .int iM), (2, .int iL)]) hx hb dX1_readDearest_40 hl (by decide) rfl (fun ls => ?_)
              clear hl
              intro hl
              rcases br_in tJ_5 k_21 (T_np tJ_5) with ek_33 | ⟨k_31, hk_32, ek_33⟩
              · have ek_33 : zbr tJ_5 k_21 = -1 := ek_33
                rw [ek_33] at hl
                have e8_34 : xC_6 = (zrd tA iM iL).2 := by rw [← hT_8, rd_b ek_23 (by omega) ek_33]
                have e9_35 : tJ_5 = (zrd tA iM iL).1 := by rw [← hT_8, rd_b ek_23 (by omega) ek_33]
                subst e9_35
                refine lv_iload hx hb dX1_readDearest_42 (lv_at hl 0 rfl) ?_
                refine lv_iconst (v := (-1)) hx hb dX1_readDearest_44 (by decide) ?_
                refine lv_icmp_ne (tgt := 51) hx hb dX1_readDearest_45 (by decide) (fun h9 => absurd (by decide) h9) (fun _ => ?_)
                refine lv_goto (tgt := 85) hx hb dX1_readDearest_48 (by decide) ?_
                refine lv_iload_n hx hb dX1_readDearest_85 rfl (lv_at hl 3 rfl) ?_
                exact endW (u := [zzO qt 3 [.int (nI (T_nb ((zrd tA iM iL).1))), .int (nI (T_np ((zrd tA iM iL).1))), .int (wb (T_wh ((zrd tA iM iL).1))), .int (wb (T_gn ((zrd tA iM iL).1))), .int (T_sd ((zrd tA iM iL).1)), .ref qtw, .ref qtn, .ref qtg, .ref qta, .ref qtr, .ref qtm, .ref qtt, .ref qts], zzI cy qtw 8 (T_wo ((zrd tA iM iL).1)), zzI cy qtn 8 (T_ne ((zrd tA iM iL).1)), zzI cy qtg 8 (T_go ((zrd tA iM iL).1)), zzI cy qta 8 (T_ag ((zrd tA iM iL).1)), zzI cy qtr 8 (T_re ((zrd tA iM iL).1)), zzI cy qtm 8 (T_me ((zrd tA iM iL).1)), zzI cy qtt 8 (T_te ((zrd tA iM iL).1)), zzI cy qts 64 (shF (T_kn ((zrd tA iM iL).1)))]) hx hb hr hlocks rfl (hP.sub [0, 1, 2, 3, 4, 5, 6, 7, 8] rfl) (hD.sub [0, 1, 2, 3, 4, 5, 6, 7, 8] (by decide +kernel) rfl) hS ⟨rfl, (by exact e8_34)⟩ dX1_readDearest_86
              · have ek_33 : zbr tJ_5 k_21 = nI k_31 := ek_33
                rw [ek_33] at hl
                refine lv_iload hx hb dX1_readDearest_42 (lv_at hl 0 rfl) ?_
                refine lv_iconst (v := (-1)) hx hb dX1_readDearest_44 (by decide) ?_
                refine lv_icmp_ne (tgt := 51) hx hb dX1_readDearest_45 (by decide) (fun c_37 => ?_) (fun c_37 => ?_)
                · refine lv_aload_n hx hb dX1_readDearest_51 rfl (lv_at hl 4 rfl) ?_
                  refine lv_iload hx hb dX1_readDearest_52 (lv_at hl 0 rfl) ?_
                  refine lv_iload hx hb dX1_readDearest_54 (lv_at hl 1 rfl) ?_
                  refine cVv (As := [.int (nI k_31), .int (nI k_21)]) (rest := []) (b := qt) (q := (RX4, TX4, 13)) ⟨hx, hb, hml, hown, hts⟩ (c_X4_readBy l G cy (H).size qt tJ_5 qtw qtn qtg qta qtr qtm qtt qts k_31 k_21 (by first | omega | (simp only [nb_rd, np_rd, nb_ch, np_ch, nb_zr, np_zr, nb_za, np_za, nb_ey, np_ey, nb_hf, np_hf, nb_dd, np_dd, nb_so, np_so, nb_skn, np_skn, nb_swh, np_swh, nb_sgn, np_sgn, nb_ssd, np_ssd, nb_sgo, np_sgo, nb_sag, np_sag]; omega)) (by first | omega | (simp only [nb_rd, np_rd, nb_ch, np_ch, nb_zr, np_zr, nb_za, np_za, nb_ey, np_ey, nb_hf, np_hf, nb_dd, np_dd, nb_so, np_so, nb_skn, np_skn, nb_swh, np_swh, nb_sgn, np_sgn, nb_ssd, np_ssd, nb_sgo, np_sgo, nb_sag, np_sag]; omega))) L_X1_29 hN hP hD hS hA [0, 1, 2, 3, 4, 5, 6, 7, 8] [false, false, false, false, false, false, false, false, false] rfl (by decide +kernel) rfl 0 3 rfl rfl rfl ⟨Nat.le_of_ble_eq_true rfl, Nat.le_of_ble_eq_true rfl⟩ hl.1 (Nat.le_of_ble_eq_true rfl) dX1_readDearest_56 ⟨Nat.le_of_ble_eq_true rfl, Nat.le_of_ble_eq_true rfl⟩ (fun u_40 H locs h_39 => ?_)
                  clear hP hD hS
                  intro hP hD hS
                  subst h_39
                  have hPD := pd_as [zzO qt 3 [.int (nI (T_nb (rdT tJ_5 k_31 k_21))), .int (nI (T_np (rdT tJ_5 k_31 k_21))), .int (wb (T_wh (rdT tJ_5 k_31 k_21))), .int (wb (T_gn (rdT tJ_5 k_31 k_21))), .int (T_sd (rdT tJ_5 k_31 k_21)), .ref qtw, .ref qtn, .ref qtg, .ref qta, .ref qtr, .ref qtm, .ref qtt, .ref qts], zzI cy qtw 8 (T_wo (rdT tJ_5 k_31 k_21)), zzI cy qtn 8 (T_ne (rdT tJ_5 k_31 k_21)), zzI cy qtg 8 (T_go (rdT tJ_5 k_31 k_21)), zzI cy qta 8 (T_ag (rdT tJ_5 k_31 k_21)), zzI cy qtr 8 (T_re (rdT tJ_5 k_31 k_21)), zzI cy qtm 8 (T_me (rdT tJ_5 k_31 k_21)), zzI cy qtt 8 (T_te (rdT tJ_5 k_31 k_21)), zzI cy qts 64 (shF (T_kn (rdT tJ_5 k_31 k_21)))] hP hD rfl
                  clear hP hD
                  obtain ⟨hP, hD⟩ := hPD
                  refine lv_iload_n hx hb dX1_readDearest_59 rfl (lv_at hl 6 rfl) ?_
                  refine lv_if_eq (tgt := 76) hx hb dX1_readDearest_60 (by decide) (fun c_41 => ?_) (fun c_41 => ?_)
                  · refine lv_iinc (v := xC_6 + 1) (lv' := [(3, .int (xC_6 + 1)), (6, .int (nI k_31)), (5, .int (nI k_21)), (4, .int (nI j_4)), (0, .ref qt), (1, .int iM), (2, .int iL)]) hx hb dX1_readDearest_76 hl (k := 3) rfl (rfl) (by decide) rfl (fun ls => ?_)
                    clear hl
                    intro hl
                    refine lv_iinc (v := nI (j_4 + 1)) (lv' := [(4, .int (nI (j_4 + 1))), (3, .int (xC_6 + 1)), (6, .int (nI k_31)), (5, .int (nI k_21)), (0, .ref qt), (1, .int iM), (2, .int iL)]) hx hb dX1_readDearest_79 hl (k := 3) rfl (nI_1 _) (by decide) rfl (fun ls => ?_)
                    clear hl
                    intro hl
                    refine lv_goto (tgt := 5) hx hb dX1_readDearest_82 (by decide) ?_
                    exact ih_3 (j_4 + 1) (rdT tJ_5 k_31 k_21) (xC_6 + 1) (by omega) (by omega) (by rw [← hT_8, show 8 - j_4 = 8 - (j_4 + 1) + 1 by omega, rd_go c_16 ek_23 (by omega) ek_33 (by omega), rdS, if_pos c_41]) hn_9 _ _ _ hP hD hS (lv_sub hl [0, 1, 4, 5, 6] rfl)
                  · refine lv_aload_n hx hb dX1_readDearest_63 rfl (lv_at hl 4 rfl) ?_
                    refine lv_iload hx hb dX1_readDearest_64 (lv_at hl 0 rfl) ?_
                    refine lv_iload hx hb dX1_readDearest_66 (lv_at hl 1 rfl) ?_
                    refine lv_aload_n hx hb dX1_readDearest_68 rfl (lv_at hl 4 rfl) ?_
                    refine kRi (rV (As := []) (rest := [.int (nI k_21), .int (nI k_31), .ref qt]) (b := qt) ⟨hx, hb, hml, hown, hts⟩ (c_X4_setThere l G cy qt (rdT tJ_5 k_31 k_21) qtw qtn qtg qta qtr qtm qtt qts (by first | omega | (simp only [nb_rd, np_rd, nb_ch, np_ch, nb_zr, np_zr, nb_za, np_za, nb_ey, np_ey, nb_hf, np_hf, nb_dd, np_dd, nb_so, np_so, nb_skn, np_skn, nb_swh, np_swh, nb_sgn, np_sgn, nb_ssd, np_ssd, nb_sgo, np_sgo, nb_sag, np_sag]; omega))) L_X1_33 (preRV (q := (RX4, TX4, 13)) hN hP [0] rfl 0 3 rfl rfl) rfl ⟨Nat.le_of_ble_eq_true rfl, Nat.le_of_ble_eq_true rfl⟩ hl.1 (Nat.le_of_ble_eq_true rfl) dX1_readDearest_69 ⟨Nat.le_of_ble_eq_true rfl, Nat.le_of_ble_eq_true rfl⟩) (fun r_42 h_43 => ?_)
                    subst h_43
                    refine cVi (As := [.int (nI k_31), .int (nI k_21), .int (zthere (rdT tJ_5 k_31 k_21))]) (rest := []) (b := qt) (q := (RX4, TX4, 13)) ⟨hx, hb, hml, hown, hts⟩ (c_X4_hearFrom l G cy (H).size qt (rdT tJ_5 k_31 k_21) qtw qtn qtg qta qtr qtm qtt qts k_31 k_21 (zthere (rdT tJ_5 k_31 k_21)) (by first | omega | (simp only [nb_rd, np_rd, nb_ch, np_ch, nb_zr, np_zr, nb_za, np_za, nb_ey, np_ey, nb_hf, np_hf, nb_dd, np_dd, nb_so, np_so, nb_skn, np_skn, nb_swh, np_swh, nb_sgn, np_sgn, nb_ssd, np_ssd, nb_sgo, np_sgo, nb_sag, np_sag]; omega)) (by first | omega | (simp only [nb_rd, np_rd, nb_ch, np_ch, nb_zr, np_zr, nb_za, np_za, nb_ey, np_ey, nb_hf, np_hf, nb_dd, np_dd, nb_so, np_so, nb_skn, np_skn, nb_swh, np_swh, nb_sgn, np_sgn, nb_ssd, np_ssd, nb_sgo, np_sgo, nb_sag, np_sag]; omega)) (by first | omega | (simp only [nb_rd, np_rd, nb_ch, np_ch, nb_zr, np_zr, nb_za, np_za, nb_ey, np_ey, nb_hf, np_hf, nb_dd, np_dd, nb_so, np_so, nb_skn, np_skn, nb_swh, np_swh, nb_sgn, np_sgn, nb_ssd, np_ssd, nb_sgo, np_sgo, nb_sag, np_sag]; omega))) L_X1_36 hN hP hD hS hA [0, 1, 2, 3, 4, 5, 6, 7, 8] [false, false, false, false, false, false, false, false, false] rfl (by decide +kernel) rfl 0 3 rfl rfl rfl ⟨Nat.le_of_ble_eq_true rfl, Nat.le_of_ble_eq_true rfl⟩ hl.1 (Nat.le_of_ble_eq_true rfl) dX1_readDearest_72 ⟨Nat.le_of_ble_eq_true rfl, Nat.le_of_ble_eq_true rfl⟩ (fun r_44 u_46 H locs h_45 => ?_)
                    clear hP hD hS
                    intro hP hD hS
                    obtain ⟨rfl, h_45⟩ := h_45
                    have hPD := pd_as [zzO qt 3 [.int (nI (T_nb ((zhf (rdT tJ_5 k_31 k_21) k_31 k_21 (zthere (rdT tJ_5 k_31 k_21))).1))), .int (nI (T_np ((zhf (rdT tJ_5 k_31 k_21) k_31 k_21 (zthere (rdT tJ_5 k_31 k_21))).1))), .int (wb (T_wh ((zhf (rdT tJ_5 k_31 k_21) k_31 k_21 (zthere (rdT tJ_5 k_31 k_21))).1))), .int (wb (T_gn ((zhf (rdT tJ_5 k_31 k_21) k_31 k_21 (zthere (rdT tJ_5 k_31 k_21))).1))), .int (T_sd ((zhf (rdT tJ_5 k_31 k_21) k_31 k_21 (zthere (rdT tJ_5 k_31 k_21))).1)), .ref qtw, .ref qtn, .ref qtg, .ref qta, .ref qtr, .ref qtm, .ref qtt, .ref qts], zzI cy qtw 8 (T_wo ((zhf (rdT tJ_5 k_31 k_21) k_31 k_21 (zthere (rdT tJ_5 k_31 k_21))).1)), zzI cy qtn 8 (T_ne ((zhf (rdT tJ_5 k_31 k_21) k_31 k_21 (zthere (rdT tJ_5 k_31 k_21))).1)), zzI cy qtg 8 (T_go ((zhf (rdT tJ_5 k_31 k_21) k_31 k_21 (zthere (rdT tJ_5 k_31 k_21))).1)), zzI cy qta 8 (T_ag ((zhf (rdT tJ_5 k_31 k_21) k_31 k_21 (zthere (rdT tJ_5 k_31 k_21))).1)), zzI cy qtr 8 (T_re ((zhf (rdT tJ_5 k_31 k_21) k_31 k_21 (zthere (rdT tJ_5 k_31 k_21))).1)), zzI cy qtm 8 (T_me ((zhf (rdT tJ_5 k_31 k_21) k_31 k_21 (zthere (rdT tJ_5 k_31 k_21))).1)), zzI cy qtt 8 (T_te ((zhf (rdT tJ_5 k_31 k_21) k_31 k_21 (zthere (rdT tJ_5 k_31 k_21))).1)), zzI cy qts 64 (shF (T_kn ((zhf (rdT tJ_5 k_31 k_21) k_31 k_21 (zthere (rdT tJ_5 k_31 k_21))).1)))] hP hD rfl
                    clear hP hD
                    obtain ⟨hP, hD⟩ := hPD
                    subst h_45
                    refine lv_pop hx hb dX1_readDearest_75 rfl ?_
                    refine lv_iinc (v := xC_6 + 1) (lv' := [(3, .int (xC_6 + 1)), (6, .int (nI k_31)), (5, .int (nI k_21)), (4, .int (nI j_4)), (0, .ref qt), (1, .int iM), (2, .int iL)]) hx hb dX1_readDearest_76 hl (k := 3) rfl (rfl) (by decide) rfl (fun ls => ?_)
                    clear hl
                    intro hl
                    refine lv_iinc (v := nI (j_4 + 1)) (lv' := [(4, .int (nI (j_4 + 1))), (3, .int (xC_6 + 1)), (6, .int (nI k_31)), (5, .int (nI k_21)), (0, .ref qt), (1, .int iM), (2, .int iL)]) hx hb dX1_readDearest_79 hl (k := 3) rfl (nI_1 _) (by decide) rfl (fun ls => ?_)
                    clear hl
                    intro hl
                    refine lv_goto (tgt := 5) hx hb dX1_readDearest_82 (by decide) ?_
                    exact ih_3 (j_4 + 1) ((zhf (rdT tJ_5 k_31 k_21) k_31 k_21 (zthere (rdT tJ_5 k_31 k_21))).1) (xC_6 + 1) (by omega) (by omega) (by rw [← hT_8, show 8 - j_4 = 8 - (j_4 + 1) + 1 by omega, rd_go c_16 ek_23 (by omega) ek_33 (by omega), rdS, if_neg c_41]) (⟨(zhf_nb _ _ _ _).1.trans hn_9.1, (zhf_nb _ _ _ _).2.trans hn_9.2⟩) _ _ _ hP hD hS (lv_sub hl [0, 1, 4, 5, 6] rfl)
                · exact absurd c_37 (nI_ne1 (by omega))
            · exact absurd c_28 (nI_ne1 (by omega))
  exact lp_1 ((8 - 0) + 1) 0 tA 0 (Nat.lt_succ_self _) (Nat.zero_le _) rfl (⟨rfl, rfl⟩) _ _ ls hP hD hS (lv_sub hl [0, 1, 2, 3, 4] rfl)
set_option maxHeartbeats 4000000 in
set_option maxRecDepth 100000 in
theorem c_X1_act (l : Launch) (G : va_G) (cy : Nat → ClassId) (sz : Nat) (qt : Nat) (tA : TA) (qtw : Nat) (qtn : Nat) (qtg : Nat) (qta : Nat) (qtr : Nat) (qtm : Nat) (qtt : Nat) (qts : Nat) (iK : Int32) (iM : Int32)  (hB : T_nb tA ≤ 8) (hPp : T_np tA ≤ 8) : MW l yX1_act cX1_act 3 (some .int) 5 0 0 G cy [zzO qt 3 [.int (nI (T_nb tA)), .int (nI (T_np tA)), .int (wb (T_wh tA)), .int (wb (T_gn tA)), .int (T_sd tA), .ref qtw, .ref qtn, .ref qtg, .ref qta, .ref qtr, .ref qtm, .ref qtt, .ref qts], zzI cy qtw 8 (T_wo tA), zzI cy qtn 8 (T_ne tA), zzI cy qtg 8 (T_go tA), zzI cy qta 8 (T_ag tA), zzI cy qtr 8 (T_re tA), zzI cy qtm 8 (T_me tA), zzI cy qtt 8 (T_te tA), zzI cy qts 64 (shF (T_kn tA))] sz [.ref qt, .int iK, .int iM] (Wi G (fun r u => u = [zzO qt 3 [.int (nI (T_nb ((zact tA iK iM).1))), .int (nI (T_np ((zact tA iK iM).1))), .int (wb (T_wh ((zact tA iK iM).1))), .int (wb (T_gn ((zact tA iK iM).1))), .int (T_sd ((zact tA iK iM).1)), .ref qtw, .ref qtn, .ref qtg, .ref qta, .ref qtr, .ref qtm, .ref qtt, .ref qts], zzI cy qtw 8 (T_wo ((zact tA iK iM).1)), zzI cy qtn 8 (T_ne ((zact tA iK iM).1)), zzI cy qtg 8 (T_go ((zact tA iK iM).1)), zzI cy qta 8 (T_ag ((zact tA iK iM).1)), zzI cy qtr 8 (T_re ((zact tA iK iM).1)), zzI cy qtm 8 (T_me ((zact tA iK iM).1)), zzI cy qtt 8 (T_te ((zact tA iK iM).1)), zzI cy qts 64 (shF (T_kn ((zact tA iK iM).1)))] ∧ ((r = ((zact tA iK iM).2))))) := by
  refine enW RX1 (by decide) rfl (Nat.le_of_ble_eq_true rfl) (fun p e s m below meth c ls A hx hb hml hown hts hr hlocks hP hN hl hin hD hA hS => ?_)
  have hin : meth.name = _ := hin
  have hK := hN.1
  replace hl : lv_has ls 3 [(0, .ref qt), (1, .int iK), (2, .int iM)] := hl
  refine lv_iload_n hx hb dX1_act_0 rfl (lv_at hl 1 rfl) ?_
  rcases sw_1_6 iK with rfl | rfl | rfl | rfl | rfl | rfl | h_1
  · refine lv_tableIn (tgt := 40) (off := 39) hx hb dX1_act_1 (by decide) (by decide) (by decide) (by decide) ?_
    refine lv_aload_n hx hb dX1_act_40 rfl (lv_at hl 0 rfl) ?_
    refine lv_bipush (v := 8) hx hb dX1_act_41 (by decide) ?_
    refine lv_iconst (v := 0) hx hb dX1_act_43 (by decide) ?_
    refine cSi (As := [.ref qt, .int 8, .int 0]) (rest := []) ⟨hx, hb, hml, hown, hts⟩ (c_X1_readDearest l G cy (s.heap).size qt tA qtw qtn qtg qta qtr qtm qtt qts 8 0 hB hPp) L_X1_9 hN hP hD hS hA [0, 1, 2, 3, 4, 5, 6, 7, 8] [false, false, false, false, false, false, false, false, false] rfl (by decide +kernel) rfl rfl ⟨Nat.le_of_ble_eq_true rfl, Nat.le_of_ble_eq_true rfl⟩ hl.1 (Nat.le_of_ble_eq_true rfl) dX1_act_44 ⟨Nat.le_of_ble_eq_true rfl, Nat.le_of_ble_eq_true rfl⟩ (fun r_2 u_4 H locs h_3 => ?_)
    clear hP hD hS
    intro hP hD hS
    obtain ⟨rfl, h_3⟩ := h_3
    have hPD := pd_as [zzO qt 3 [.int (nI (T_nb ((zrd tA 8 0).1))), .int (nI (T_np ((zrd tA 8 0).1))), .int (wb (T_wh ((zrd tA 8 0).1))), .int (wb (T_gn ((zrd tA 8 0).1))), .int (T_sd ((zrd tA 8 0).1)), .ref qtw, .ref qtn, .ref qtg, .ref qta, .ref qtr, .ref qtm, .ref qtt, .ref qts], zzI cy qtw 8 (T_wo ((zrd tA 8 0).1)), zzI cy qtn 8 (T_ne ((zrd tA 8 0).1)), zzI cy qtg 8 (T_go ((zrd tA 8 0).1)), zzI cy qta 8 (T_ag ((zrd tA 8 0).1)), zzI cy qtr 8 (T_re ((zrd tA 8 0).1)), zzI cy qtm 8 (T_me ((zrd tA 8 0).1)), zzI cy qtt 8 (T_te ((zrd tA 8 0).1)), zzI cy qts 64 (shF (T_kn ((zrd tA 8 0).1)))] hP hD rfl
    clear hP hD
    obtain ⟨hP, hD⟩ := hPD
    subst h_3
    exact endW (u := [zzO qt 3 [.int (nI (T_nb ((zrd tA 8 0).1))), .int (nI (T_np ((zrd tA 8 0).1))), .int (wb (T_wh ((zrd tA 8 0).1))), .int (wb (T_gn ((zrd tA 8 0).1))), .int (T_sd ((zrd tA 8 0).1)), .ref qtw, .ref qtn, .ref qtg, .ref qta, .ref qtr, .ref qtm, .ref qtt, .ref qts], zzI cy qtw 8 (T_wo ((zrd tA 8 0).1)), zzI cy qtn 8 (T_ne ((zrd tA 8 0).1)), zzI cy qtg 8 (T_go ((zrd tA 8 0).1)), zzI cy qta 8 (T_ag ((zrd tA 8 0).1)), zzI cy qtr 8 (T_re ((zrd tA 8 0).1)), zzI cy qtm 8 (T_me ((zrd tA 8 0).1)), zzI cy qtt 8 (T_te ((zrd tA 8 0).1)), zzI cy qts 64 (shF (T_kn ((zrd tA 8 0).1)))]) hx hb hr hlocks rfl (hP.sub [0, 1, 2, 3, 4, 5, 6, 7, 8] rfl) (hD.sub [0, 1, 2, 3, 4, 5, 6, 7, 8] (by decide +kernel) rfl) hS ⟨by rw [act_1], (by rw [act_1])⟩ dX1_act_47
  · refine lv_tableIn (tgt := 48) (off := 47) hx hb dX1_act_1 (by decide) (by decide) (by decide) (by decide) ?_
    refine lv_aload_n hx hb dX1_act_48 rfl (lv_at hl 0 rfl) ?_
    refine lv_iload_n hx hb dX1_act_49 rfl (lv_at hl 2 rfl) ?_
    refine lv_iconst (v := 0) hx hb dX1_act_50 (by decide) ?_
    refine cSi (As := [.ref qt, .int iM, .int 0]) (rest := []) ⟨hx, hb, hml, hown, hts⟩ (c_X1_readDearest l G cy (s.heap).size qt tA qtw qtn qtg qta qtr qtm qtt qts iM 0 hB hPp) L_X1_9 hN hP hD hS hA [0, 1, 2, 3, 4, 5, 6, 7, 8] [false, false, false, false, false, false, false, false, false] rfl (by decide +kernel) rfl rfl ⟨Nat.le_of_ble_eq_true rfl, Nat.le_of_ble_eq_true rfl⟩ hl.1 (Nat.le_of_ble_eq_true rfl) dX1_act_51 ⟨Nat.le_of_ble_eq_true rfl, Nat.le_of_ble_eq_true rfl⟩ (fun r_5 u_7 H locs h_6 => ?_)
    clear hP hD hS
    intro hP hD hS
    obtain ⟨rfl, h_6⟩ := h_6
    have hPD := pd_as [zzO qt 3 [.int (nI (T_nb ((zrd tA iM 0).1))), .int (nI (T_np ((zrd tA iM 0).1))), .int (wb (T_wh ((zrd tA iM 0).1))), .int (wb (T_gn ((zrd tA iM 0).1))), .int (T_sd ((zrd tA iM 0).1)), .ref qtw, .ref qtn, .ref qtg, .ref qta, .ref qtr, .ref qtm, .ref qtt, .ref qts], zzI cy qtw 8 (T_wo ((zrd tA iM 0).1)), zzI cy qtn 8 (T_ne ((zrd tA iM 0).1)), zzI cy qtg 8 (T_go ((zrd tA iM 0).1)), zzI cy qta 8 (T_ag ((zrd tA iM 0).1)), zzI cy qtr 8 (T_re ((zrd tA iM 0).1)), zzI cy qtm 8 (T_me ((zrd tA iM 0).1)), zzI cy qtt 8 (T_te ((zrd tA iM 0).1)), zzI cy qts 64 (shF (T_kn ((zrd tA iM 0).1)))] hP hD rfl
    clear hP hD
    obtain ⟨hP, hD⟩ := hPD
    subst h_6
    exact endW (u := [zzO qt 3 [.int (nI (T_nb ((zrd tA iM 0).1))), .int (nI (T_np ((zrd tA iM 0).1))), .int (wb (T_wh ((zrd tA iM 0).1))), .int (wb (T_gn ((zrd tA iM 0).1))), .int (T_sd ((zrd tA iM 0).1)), .ref qtw, .ref qtn, .ref qtg, .ref qta, .ref qtr, .ref qtm, .ref qtt, .ref qts], zzI cy qtw 8 (T_wo ((zrd tA iM 0).1)), zzI cy qtn 8 (T_ne ((zrd tA iM 0).1)), zzI cy qtg 8 (T_go ((zrd tA iM 0).1)), zzI cy qta 8 (T_ag ((zrd tA iM 0).1)), zzI cy qtr 8 (T_re ((zrd tA iM 0).1)), zzI cy qtm 8 (T_me ((zrd tA iM 0).1)), zzI cy qtt 8 (T_te ((zrd tA iM 0).1)), zzI cy qts 64 (shF (T_kn ((zrd tA iM 0).1)))]) hx hb hr hlocks rfl (hP.sub [0, 1, 2, 3, 4, 5, 6, 7, 8] rfl) (hD.sub [0, 1, 2, 3, 4, 5, 6, 7, 8] (by decide +kernel) rfl) hS ⟨by rw [act_2], (by rw [act_2])⟩ dX1_act_54
  · refine lv_tableIn (tgt := 55) (off := 54) hx hb dX1_act_1 (by decide) (by decide) (by decide) (by decide) ?_
    refine lv_aload_n hx hb dX1_act_55 rfl (lv_at hl 0 rfl) ?_
    refine lv_bipush (v := 8) hx hb dX1_act_56 (by decide) ?_
    refine lv_iconst (v := 1) hx hb dX1_act_58 (by decide) ?_
    refine cSi (As := [.ref qt, .int 8, .int 1]) (rest := []) ⟨hx, hb, hml, hown, hts⟩ (c_X1_readDearest l G cy (s.heap).size qt tA qtw qtn qtg qta qtr qtm qtt qts 8 1 hB hPp) L_X1_9 hN hP hD hS hA [0, 1, 2, 3, 4, 5, 6, 7, 8] [false, false, false, false, false, false, false, false, false] rfl (by decide +kernel) rfl rfl ⟨Nat.le_of_ble_eq_true rfl, Nat.le_of_ble_eq_true rfl⟩ hl.1 (Nat.le_of_ble_eq_true rfl) dX1_act_59 ⟨Nat.le_of_ble_eq_true rfl, Nat.le_of_ble_eq_true rfl⟩ (fun r_8 u_10 H locs h_9 => ?_)
    clear hP hD hS
    intro hP hD hS
    obtain ⟨rfl, h_9⟩ := h_9
    have hPD := pd_as [zzO qt 3 [.int (nI (T_nb ((zrd tA 8 1).1))), .int (nI (T_np ((zrd tA 8 1).1))), .int (wb (T_wh ((zrd tA 8 1).1))), .int (wb (T_gn ((zrd tA 8 1).1))), .int (T_sd ((zrd tA 8 1).1)), .ref qtw, .ref qtn, .ref qtg, .ref qta, .ref qtr, .ref qtm, .ref qtt, .ref qts], zzI cy qtw 8 (T_wo ((zrd tA 8 1).1)), zzI cy qtn 8 (T_ne ((zrd tA 8 1).1)), zzI cy qtg 8 (T_go ((zrd tA 8 1).1)), zzI cy qta 8 (T_ag ((zrd tA 8 1).1)), zzI cy qtr 8 (T_re ((zrd tA 8 1).1)), zzI cy qtm 8 (T_me ((zrd tA 8 1).1)), zzI cy qtt 8 (T_te ((zrd tA 8 1).1)), zzI cy qts 64 (shF (T_kn ((zrd tA 8 1).1)))] hP hD rfl
    clear hP hD
    obtain ⟨hP, hD⟩ := hPD
    subst h_9
    exact endW (u := [zzO qt 3 [.int (nI (T_nb ((zrd tA 8 1).1))), .int (nI (T_np ((zrd tA 8 1).1))), .int (wb (T_wh ((zrd tA 8 1).1))), .int (wb (T_gn ((zrd tA 8 1).1))), .int (T_sd ((zrd tA 8 1).1)), .ref qtw, .ref qtn, .ref qtg, .ref qta, .ref qtr, .ref qtm, .ref qtt, .ref qts], zzI cy qtw 8 (T_wo ((zrd tA 8 1).1)), zzI cy qtn 8 (T_ne ((zrd tA 8 1).1)), zzI cy qtg 8 (T_go ((zrd tA 8 1).1)), zzI cy qta 8 (T_ag ((zrd tA 8 1).1)), zzI cy qtr 8 (T_re ((zrd tA 8 1).1)), zzI cy qtm 8 (T_me ((zrd tA 8 1).1)), zzI cy qtt 8 (T_te ((zrd tA 8 1).1)), zzI cy qts 64 (shF (T_kn ((zrd tA 8 1).1)))]) hx hb hr hlocks rfl (hP.sub [0, 1, 2, 3, 4, 5, 6, 7, 8] rfl) (hD.sub [0, 1, 2, 3, 4, 5, 6, 7, 8] (by decide +kernel) rfl) hS ⟨by rw [act_3], (by rw [act_3])⟩ dX1_act_62
  · refine lv_tableIn (tgt := 63) (off := 62) hx hb dX1_act_1 (by decide) (by decide) (by decide) (by decide) ?_
    refine lv_aload_n hx hb dX1_act_63 rfl (lv_at hl 0 rfl) ?_
    refine cSv (As := [.ref qt]) (rest := []) ⟨hx, hb, hml, hown, hts⟩ (c_X1_tellChain l G cy (s.heap).size qt tA qtw qtn qtg qta qtr qtm qtt qts hB hPp) L_X1_15 hN hP hD hS hA [0, 1, 2, 3, 4, 5, 6, 7, 8] [false, false, false, false, false, false, false, false, false] rfl (by decide +kernel) rfl rfl ⟨Nat.le_of_ble_eq_true rfl, Nat.le_of_ble_eq_true rfl⟩ hl.1 (Nat.le_of_ble_eq_true rfl) dX1_act_64 ⟨Nat.le_of_ble_eq_true rfl, Nat.le_of_ble_eq_true rfl⟩ (fun u_13 H locs h_12 => ?_)
    clear hP hD hS
    intro hP hD hS
    subst h_12
    have hPD := pd_as [zzO qt 3 [.int (nI (T_nb (zch tA))), .int (nI (T_np (zch tA))), .int (wb (T_wh (zch tA))), .int (wb (T_gn (zch tA))), .int (T_sd (zch tA)), .ref qtw, .ref qtn, .ref qtg, .ref qta, .ref qtr, .ref qtm, .ref qtt, .ref qts], zzI cy qtw 8 (T_wo (zch tA)), zzI cy qtn 8 (T_ne (zch tA)), zzI cy qtg 8 (T_go (zch tA)), zzI cy qta 8 (T_ag (zch tA)), zzI cy qtr 8 (T_re (zch tA)), zzI cy qtm 8 (T_me (zch tA)), zzI cy qtt 8 (T_te (zch tA)), zzI cy qts 64 (shF (T_kn (zch tA)))] hP hD rfl
    clear hP hD
    obtain ⟨hP, hD⟩ := hPD
    refine lv_iconst (v := 0) hx hb dX1_act_67 (by decide) ?_
    exact endW (u := [zzO qt 3 [.int (nI (T_nb (zch tA))), .int (nI (T_np (zch tA))), .int (wb (T_wh (zch tA))), .int (wb (T_gn (zch tA))), .int (T_sd (zch tA)), .ref qtw, .ref qtn, .ref qtg, .ref qta, .ref qtr, .ref qtm, .ref qtt, .ref qts], zzI cy qtw 8 (T_wo (zch tA)), zzI cy qtn 8 (T_ne (zch tA)), zzI cy qtg 8 (T_go (zch tA)), zzI cy qta 8 (T_ag (zch tA)), zzI cy qtr 8 (T_re (zch tA)), zzI cy qtm 8 (T_me (zch tA)), zzI cy qtt 8 (T_te (zch tA)), zzI cy qts 64 (shF (T_kn (zch tA)))]) hx hb hr hlocks rfl (hP.sub [0, 1, 2, 3, 4, 5, 6, 7, 8] rfl) (hD.sub [0, 1, 2, 3, 4, 5, 6, 7, 8] (by decide +kernel) rfl) hS ⟨by rw [act_4], (by rw [act_4])⟩ dX1_act_68
  · refine lv_tableIn (tgt := 69) (off := 68) hx hb dX1_act_1 (by decide) (by decide) (by decide) (by decide) ?_
    refine lv_aload_n hx hb dX1_act_69 rfl (lv_at hl 0 rfl) ?_
    refine cSv (As := [.ref qt]) (rest := []) ⟨hx, hb, hml, hown, hts⟩ (c_X1_tellChain l G cy (s.heap).size qt tA qtw qtn qtg qta qtr qtm qtt qts hB hPp) L_X1_15 hN hP hD hS hA [0, 1, 2, 3, 4, 5, 6, 7, 8] [false, false, false, false, false, false, false, false, false] rfl (by decide +kernel) rfl rfl ⟨Nat.le_of_ble_eq_true rfl, Nat.le_of_ble_eq_true rfl⟩ hl.1 (Nat.le_of_ble_eq_true rfl) dX1_act_70 ⟨Nat.le_of_ble_eq_true rfl, Nat.le_of_ble_eq_true rfl⟩ (fun u_16 H locs h_15 => ?_)
    clear hP hD hS
    intro hP hD hS
    subst h_15
    have hPD := pd_as [zzO qt 3 [.int (nI (T_nb (zch tA))), .int (nI (T_np (zch tA))), .int (wb (T_wh (zch tA))), .int (wb (T_gn (zch tA))), .int (T_sd (zch tA)), .ref qtw, .ref qtn, .ref qtg, .ref qta, .ref qtr, .ref qtm, .ref qtt, .ref qts], zzI cy qtw 8 (T_wo (zch tA)), zzI cy qtn 8 (T_ne (zch tA)), zzI cy qtg 8 (T_go (zch tA)), zzI cy qta 8 (T_ag (zch tA)), zzI cy qtr 8 (T_re (zch tA)), zzI cy qtm 8 (T_me (zch tA)), zzI cy qtt 8 (T_te (zch tA)), zzI cy qts 64 (shF (T_kn (zch tA)))] hP hD rfl
    clear hP hD
    obtain ⟨hP, hD⟩ := hPD
    refine lv_aload_n hx hb dX1_act_73 rfl (lv_at hl 0 rfl) ?_
    refine cSv (As := [.ref qt]) (rest := []) ⟨hx, hb, hml, hown, hts⟩ (c_X1_tellChain l G cy (H).size qt (zch tA) qtw qtn qtg qta qtr qtm qtt qts (by first | omega | (simp only [nb_rd, np_rd, nb_ch, np_ch, nb_zr, np_zr, nb_za, np_za, nb_ey, np_ey, nb_hf, np_hf, nb_dd, np_dd, nb_so, np_so, nb_skn, np_skn, nb_swh, np_swh, nb_sgn, np_sgn, nb_ssd, np_ssd, nb_sgo, np_sgo, nb_sag, np_sag]; omega)) (by first | omega | (simp only [nb_rd, np_rd, nb_ch, np_ch, nb_zr, np_zr, nb_za, np_za, nb_ey, np_ey, nb_hf, np_hf, nb_dd, np_dd, nb_so, np_so, nb_skn, np_skn, nb_swh, np_swh, nb_sgn, np_sgn, nb_ssd, np_ssd, nb_sgo, np_sgo, nb_sag, np_sag]; omega))) L_X1_15 hN hP hD hS hA [0, 1, 2, 3, 4, 5, 6, 7, 8] [false, false, false, false, false, false, false, false, false] rfl (by decide +kernel) rfl rfl ⟨Nat.le_of_ble_eq_true rfl, Nat.le_of_ble_eq_true rfl⟩ hl.1 (Nat.le_of_ble_eq_true rfl) dX1_act_74 ⟨Nat.le_of_ble_eq_true rfl, Nat.le_of_ble_eq_true rfl⟩ (fun u_19 H locs h_18 => ?_)
    clear hP hD hS
    intro hP hD hS
    subst h_18
    have hPD := pd_as [zzO qt 3 [.int (nI (T_nb (zch (zch tA)))), .int (nI (T_np (zch (zch tA)))), .int (wb (T_wh (zch (zch tA)))), .int (wb (T_gn (zch (zch tA)))), .int (T_sd (zch (zch tA))), .ref qtw, .ref qtn, .ref qtg, .ref qta, .ref qtr, .ref qtm, .ref qtt, .ref qts], zzI cy qtw 8 (T_wo (zch (zch tA))), zzI cy qtn 8 (T_ne (zch (zch tA))), zzI cy qtg 8 (T_go (zch (zch tA))), zzI cy qta 8 (T_ag (zch (zch tA))), zzI cy qtr 8 (T_re (zch (zch tA))), zzI cy qtm 8 (T_me (zch (zch tA))), zzI cy qtt 8 (T_te (zch (zch tA))), zzI cy qts 64 (shF (T_kn (zch (zch tA))))] hP hD rfl
    clear hP hD
    obtain ⟨hP, hD⟩ := hPD
    refine lv_iconst (v := 0) hx hb dX1_act_77 (by decide) ?_
    exact endW (u := [zzO qt 3 [.int (nI (T_nb (zch (zch tA)))), .int (nI (T_np (zch (zch tA)))), .int (wb (T_wh (zch (zch tA)))), .int (wb (T_gn (zch (zch tA)))), .int (T_sd (zch (zch tA))), .ref qtw, .ref qtn, .ref qtg, .ref qta, .ref qtr, .ref qtm, .ref qtt, .ref qts], zzI cy qtw 8 (T_wo (zch (zch tA))), zzI cy qtn 8 (T_ne (zch (zch tA))), zzI cy qtg 8 (T_go (zch (zch tA))), zzI cy qta 8 (T_ag (zch (zch tA))), zzI cy qtr 8 (T_re (zch (zch tA))), zzI cy qtm 8 (T_me (zch (zch tA))), zzI cy qtt 8 (T_te (zch (zch tA))), zzI cy qts 64 (shF (T_kn (zch (zch tA))))]) hx hb hr hlocks rfl (hP.sub [0, 1, 2, 3, 4, 5, 6, 7, 8] rfl) (hD.sub [0, 1, 2, 3, 4, 5, 6, 7, 8] (by decide +kernel) rfl) hS ⟨by rw [act_5], (by rw [act_5])⟩ dX1_act_78
  · refine lv_tableIn (tgt := 79) (off := 78) hx hb dX1_act_1 (by decide) (by decide) (by decide) (by decide) ?_
    refine lv_aload_n hx hb dX1_act_79 rfl (lv_at hl 0 rfl) ?_
    refine cSv (As := [.ref qt]) (rest := []) ⟨hx, hb, hml, hown, hts⟩ (c_X1_tellChain l G cy (s.heap).size qt tA qtw qtn qtg qta qtr qtm qtt qts hB hPp) L_X1_15 hN hP hD hS hA [0, 1, 2, 3, 4, 5, 6, 7, 8] [false, false, false, false, false, false, false, false, false] rfl (by decide +kernel) rfl rfl ⟨Nat.le_of_ble_eq_true rfl, Nat.le_of_ble_eq_true rfl⟩ hl.1 (Nat.le_of_ble_eq_true rfl) dX1_act_80 ⟨Nat.le_of_ble_eq_true rfl, Nat.le_of_ble_eq_true rfl⟩ (fun u_22 H locs h_21 => ?_)
    clear hP hD hS
    intro hP hD hS
    subst h_21
    have hPD := pd_as [zzO qt 3 [.int (nI (T_nb (zch tA))), .int (nI (T_np (zch tA))), .int (wb (T_wh (zch tA))), .int (wb (T_gn (zch tA))), .int (T_sd (zch tA)), .ref qtw, .ref qtn, .ref qtg, .ref qta, .ref qtr, .ref qtm, .ref qtt, .ref qts], zzI cy qtw 8 (T_wo (zch tA)), zzI cy qtn 8 (T_ne (zch tA)), zzI cy qtg 8 (T_go (zch tA)), zzI cy qta 8 (T_ag (zch tA)), zzI cy qtr 8 (T_re (zch tA)), zzI cy qtm 8 (T_me (zch tA)), zzI cy qtt 8 (T_te (zch tA)), zzI cy qts 64 (shF (T_kn (zch tA)))] hP hD rfl
    clear hP hD
    obtain ⟨hP, hD⟩ := hPD
    refine lv_aload_n hx hb dX1_act_83 rfl (lv_at hl 0 rfl) ?_
    refine lv_iconst (v := 1) hx hb dX1_act_84 (by decide) ?_
    refine lv_iconst (v := 0) hx hb dX1_act_85 (by decide) ?_
    refine cSi (As := [.ref qt, .int 1, .int 0]) (rest := []) ⟨hx, hb, hml, hown, hts⟩ (c_X1_readDearest l G cy (H).size qt (zch tA) qtw qtn qtg qta qtr qtm qtt qts 1 0 (by rw [(zch_nb tA).1]; omega) (by rw [(zch_nb tA).2]; omega)) L_X1_9 hN hP hD hS hA [0, 1, 2, 3, 4, 5, 6, 7, 8] [false, false, false, false, false, false, false, false, false] rfl (by decide +kernel) rfl rfl ⟨Nat.le_of_ble_eq_true rfl, Nat.le_of_ble_eq_true rfl⟩ hl.1 (Nat.le_of_ble_eq_true rfl) dX1_act_86 ⟨Nat.le_of_ble_eq_true rfl, Nat.le_of_ble_eq_true rfl⟩ (fun r_23 u_25 H locs h_24 => ?_)
    clear hP hD hS
    intro hP hD hS
    obtain ⟨rfl, h_24⟩ := h_24
    have hPD := pd_as [zzO qt 3 [.int (nI (T_nb ((zrd (zch tA) 1 0).1))), .int (nI (T_np ((zrd (zch tA) 1 0).1))), .int (wb (T_wh ((zrd (zch tA) 1 0).1))), .int (wb (T_gn ((zrd (zch tA) 1 0).1))), .int (T_sd ((zrd (zch tA) 1 0).1)), .ref qtw, .ref qtn, .ref qtg, .ref qta, .ref qtr, .ref qtm, .ref qtt, .ref qts], zzI cy qtw 8 (T_wo ((zrd (zch tA) 1 0).1)), zzI cy qtn 8 (T_ne ((zrd (zch tA) 1 0).1)), zzI cy qtg 8 (T_go ((zrd (zch tA) 1 0).1)), zzI cy qta 8 (T_ag ((zrd (zch tA) 1 0).1)), zzI cy qtr 8 (T_re ((zrd (zch tA) 1 0).1)), zzI cy qtm 8 (T_me ((zrd (zch tA) 1 0).1)), zzI cy qtt 8 (T_te ((zrd (zch tA) 1 0).1)), zzI cy qts 64 (shF (T_kn ((zrd (zch tA) 1 0).1)))] hP hD rfl
    clear hP hD
    obtain ⟨hP, hD⟩ := hPD
    subst h_24
    exact endW (u := [zzO qt 3 [.int (nI (T_nb ((zrd (zch tA) 1 0).1))), .int (nI (T_np ((zrd (zch tA) 1 0).1))), .int (wb (T_wh ((zrd (zch tA) 1 0).1))), .int (wb (T_gn ((zrd (zch tA) 1 0).1))), .int (T_sd ((zrd (zch tA) 1 0).1)), .ref qtw, .ref qtn, .ref qtg, .ref qta, .ref qtr, .ref qtm, .ref qtt, .ref qts], zzI cy qtw 8 (T_wo ((zrd (zch tA) 1 0).1)), zzI cy qtn 8 (T_ne ((zrd (zch tA) 1 0).1)), zzI cy qtg 8 (T_go ((zrd (zch tA) 1 0).1)), zzI cy qta 8 (T_ag ((zrd (zch tA) 1 0).1)), zzI cy qtr 8 (T_re ((zrd (zch tA) 1 0).1)), zzI cy qtm 8 (T_me ((zrd (zch tA) 1 0).1)), zzI cy qtt 8 (T_te ((zrd (zch tA) 1 0).1)), zzI cy qts 64 (shF (T_kn ((zrd (zch tA) 1 0).1)))]) hx hb hr hlocks rfl (hP.sub [0, 1, 2, 3, 4, 5, 6, 7, 8] rfl) (hD.sub [0, 1, 2, 3, 4, 5, 6, 7, 8] (by decide +kernel) rfl) hS ⟨by rw [act_6], (by rw [act_6])⟩ dX1_act_89
  · refine lv_tableOut (tgt := 90) hx hb dX1_act_1 h_1 (by decide) ?_
    refine lv_iconst (v := 0) hx hb dX1_act_90 (by decide) ?_
    exact endW (u := [zzO qt 3 [.int (nI (T_nb tA)), .int (nI (T_np tA)), .int (wb (T_wh tA)), .int (wb (T_gn tA)), .int (T_sd tA), .ref qtw, .ref qtn, .ref qtg, .ref qta, .ref qtr, .ref qtm, .ref qtt, .ref qts], zzI cy qtw 8 (T_wo tA), zzI cy qtn 8 (T_ne tA), zzI cy qtg 8 (T_go tA), zzI cy qta 8 (T_ag tA), zzI cy qtr 8 (T_re tA), zzI cy qtm 8 (T_me tA), zzI cy qtt 8 (T_te tA), zzI cy qts 64 (shF (T_kn tA))]) hx hb hr hlocks rfl (hP.sub [0, 1, 2, 3, 4, 5, 6, 7, 8] rfl) (hD.sub [0, 1, 2, 3, 4, 5, 6, 7, 8] (by decide +kernel) rfl) hS ⟨by rw [act_no h_1], (by rw [act_no h_1])⟩ dX1_act_91
