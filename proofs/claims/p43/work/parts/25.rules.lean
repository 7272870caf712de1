theorem dX1_tellChain_0 : decode cX1_tellChain 0 = .ok (.iconst 0, 1) := by decide +kernel
theorem dX1_tellChain_1 : decode cX1_tellChain 1 = .ok (.istore_n 1, 1) := by decide +kernel
theorem dX1_tellChain_2 : decode cX1_tellChain 2 = .ok (.iload_n 1, 1) := by decide +kernel
theorem dX1_tellChain_3 : decode cX1_tellChain 3 = .ok (.aload_n 0, 1) := by decide +kernel
theorem dX1_tellChain_4 : decode cX1_tellChain 4 = .ok (.getfield 40, 3) := by decide +kernel
theorem dX1_tellChain_7 : decode cX1_tellChain 7 = .ok (.if_icmp .ge 58, 3) := by decide +kernel
theorem dX1_tellChain_10 : decode cX1_tellChain 10 = .ok (.aload_n 0, 1) := by decide +kernel
theorem dX1_tellChain_11 : decode cX1_tellChain 11 = .ok (.getfield 44, 3) := by decide +kernel
theorem dX1_tellChain_14 : decode cX1_tellChain 14 = .ok (.iload_n 1, 1) := by decide +kernel
theorem dX1_tellChain_15 : decode cX1_tellChain 15 = .ok (.invokestatic 47, 3) := by decide +kernel
theorem dX1_tellChain_18 : decode cX1_tellChain 18 = .ok (.ifCond .eq 7, 3) := by decide +kernel
theorem dX1_tellChain_21 : decode cX1_tellChain 21 = .ok (.iconst (-1), 1) := by decide +kernel
theorem dX1_tellChain_22 : decode cX1_tellChain 22 = .ok (.goto 8, 3) := by decide +kernel
theorem dX1_tellChain_25 : decode cX1_tellChain 25 = .ok (.aload_n 0, 1) := by decide +kernel
theorem dX1_tellChain_26 : decode cX1_tellChain 26 = .ok (.iload_n 1, 1) := by decide +kernel
theorem dX1_tellChain_27 : decode cX1_tellChain 27 = .ok (.invokevirtual 51, 3) := by decide +kernel
theorem dX1_tellChain_30 : decode cX1_tellChain 30 = .ok (.istore_n 2, 1) := by decide +kernel
theorem dX1_tellChain_31 : decode cX1_tellChain 31 = .ok (.iconst 0, 1) := by decide +kernel
theorem dX1_tellChain_32 : decode cX1_tellChain 32 = .ok (.istore_n 3, 1) := by decide +kernel
theorem dX1_tellChain_33 : decode cX1_tellChain 33 = .ok (.iload_n 3, 1) := by decide +kernel
theorem dX1_tellChain_34 : decode cX1_tellChain 34 = .ok (.aload_n 0, 1) := by decide +kernel
theorem dX1_tellChain_35 : decode cX1_tellChain 35 = .ok (.getfield 54, 3) := by decide +kernel
theorem dX1_tellChain_38 : decode cX1_tellChain 38 = .ok (.if_icmp .ge 21, 3) := by decide +kernel
theorem dX1_tellChain_41 : decode cX1_tellChain 41 = .ok (.iload_n 2, 1) := by decide +kernel
theorem dX1_tellChain_42 : decode cX1_tellChain 42 = .ok (.iconst (-1), 1) := by decide +kernel
theorem dX1_tellChain_43 : decode cX1_tellChain 43 = .ok (.if_icmp .eq 16, 3) := by decide +kernel
theorem dX1_tellChain_46 : decode cX1_tellChain 46 = .ok (.aload_n 0, 1) := by decide +kernel
theorem dX1_tellChain_47 : decode cX1_tellChain 47 = .ok (.iload_n 1, 1) := by decide +kernel
theorem dX1_tellChain_48 : decode cX1_tellChain 48 = .ok (.iload_n 2, 1) := by decide +kernel
theorem dX1_tellChain_49 : decode cX1_tellChain 49 = .ok (.iload_n 3, 1) := by decide +kernel
theorem dX1_tellChain_50 : decode cX1_tellChain 50 = .ok (.invokevirtual 57, 3) := by decide +kernel
theorem dX1_tellChain_53 : decode cX1_tellChain 53 = .ok (.iinc 3 1, 3) := by decide +kernel
theorem dX1_tellChain_56 : decode cX1_tellChain 56 = .ok (.goto (-23), 3) := by decide +kernel
theorem dX1_tellChain_59 : decode cX1_tellChain 59 = .ok (.iinc 1 1, 3) := by decide +kernel
theorem dX1_tellChain_62 : decode cX1_tellChain 62 = .ok (.goto (-60), 3) := by decide +kernel
theorem dX1_tellChain_65 : decode cX1_tellChain 65 = .ok (.return_, 1) := by decide +kernel
set_option maxHeartbeats 4000000 in
set_option maxRecDepth 100000 in
theorem c_X1_tellChain (l : Launch) (G : va_G) (cy : Nat → ClassId) (sz : Nat) (qt : Nat) (tA : TA) (qtw : Nat) (qtn : Nat) (qtg : Nat) (qta : Nat) (qtr : Nat) (qtm : Nat) (qtt : Nat) (qts : Nat)  (hB : T_nb tA ≤ 8) (hPp : T_np tA ≤ 8) : MW l yX1_tellChain cX1_tellChain 4 none 4 0 0 G cy [zzO qt 3 [.int (nI (T_nb tA)), .int (nI (T_np tA)), .int (wb (T_wh tA)), .int (wb (T_gn tA)), .int (T_sd tA), .ref qtw, .ref qtn, .ref qtg, .ref qta, .ref qtr, .ref qtm, .ref qtt, .ref qts], zzI cy qtw 8 (T_wo tA), zzI cy qtn 8 (T_ne tA), zzI cy qtg 8 (T_go tA), zzI cy qta 8 (T_ag tA), zzI cy qtr 8 (T_re tA), zzI cy qtm 8 (T_me tA), zzI cy qtt 8 (T_te tA), zzI cy qts 64 (shF (T_kn tA))] sz [.ref qt] (Wv G (fun u => u = [zzO qt 3 [.int (nI (T_nb (zch tA))), .int (nI (T_np (zch tA))), .int (wb (T_wh (zch tA))), .int (wb (T_gn (zch tA))), .int (T_sd (zch tA)), .ref qtw, .ref qtn, .ref qtg, .ref qta, .ref qtr, .ref qtm, .ref qtt, .ref qts], zzI cy qtw 8 (T_wo (zch tA)), zzI cy qtn 8 (T_ne (zch tA)), zzI cy qtg 8 (T_go (zch tA)), zzI cy qta 8 (T_ag (zch tA)), zzI cy qtr 8 (T_re (zch tA)), zzI cy qtm 8 (T_me (zch tA)), zzI cy qtt 8 (T_te (zch tA)), zzI cy qts 64 (shF (T_kn (zch tA)))])) := by
  refine enW RX1 (by decide) rfl (Nat.le_of_ble_eq_true rfl) (fun p e s m below meth c ls A hx hb hml hown hts hr hlocks hP hN hl hin hD hA hS => ?_)
  have hin : meth.name = _ := hin
  have hK := hN.1
  replace hl : lv_has ls 4 [(0, .ref qt)] := hl
  refine lv_iconst (v := 0) hx hb dX1_tellChain_0 (by decide) ?_
  refine lv_istore_n (lv' := [(1, .int 0), (0, .ref qt)]) hx hb dX1_tellChain_1 rfl hl (by decide) rfl (fun ls => ?_)
  clear hl
  intro hl
  have lp_1 : ∀ (n_2 : Nat) (j_4 : Nat) (tJ_5 : TA), 8 - j_4 < n_2 → j_4 ≤ T_np tA → tJ_5 = tcF tA j_4 → ∀ (H : Heap) (locs : List Loc) (ls : Array Slot), va_P G CL [zzO qt 3 [.int (nI (T_nb tJ_5)), .int (nI (T_np tJ_5)), .int (wb (T_wh tJ_5)), .int (wb (T_gn tJ_5)), .int (T_sd tJ_5), .ref qtw, .ref qtn, .ref qtg, .ref qta, .ref qtr, .ref qtm, .ref qtt, .ref qts], zzI cy qtw 8 (T_wo tJ_5), zzI cy qtn 8 (T_ne tJ_5), zzI cy qtg 8 (T_go tJ_5), zzI cy qta 8 (T_ag tJ_5), zzI cy qtr 8 (T_re tJ_5), zzI cy qtm 8 (T_me tJ_5), zzI cy qtt 8 (T_te tJ_5), zzI cy qts 64 (shF (T_kn tJ_5))] H → va_D A [zzO qt 3 [.int (nI (T_nb tJ_5)), .int (nI (T_np tJ_5)), .int (wb (T_wh tJ_5)), .int (wb (T_gn tJ_5)), .int (T_sd tJ_5), .ref qtw, .ref qtn, .ref qtg, .ref qta, .ref qtr, .ref qtm, .ref qtt, .ref qts], zzI cy qtw 8 (T_wo tJ_5), zzI cy qtn 8 (T_ne tJ_5), zzI cy qtg 8 (T_go tJ_5), zzI cy qta 8 (T_ag tJ_5), zzI cy qtr 8 (T_re tJ_5), zzI cy qtm 8 (T_me tJ_5), zzI cy qtt 8 (T_te tJ_5), zzI cy qts 64 (shF (T_kn tJ_5))] → va_S A s.heap H locs → lv_has ls 4 [(1, .int (nI j_4)), (0, .ref qt)] → W p l e (Rm 4 0 0) s m (List.toArray (α := Value) [.ref qt]) below meth c H locs 0 0 (MQ below ((Wv G (fun u => u = [zzO qt 3 [.int (nI (T_nb (zch tA))), .int (nI (T_np (zch tA))), .int (wb (T_wh (zch tA))), .int (wb (T_gn (zch tA))), .int (T_sd (zch tA)), .ref qtw, .ref qtn, .ref qtg, .ref qta, .ref qtr, .ref qtm, .ref qtt, .ref qts], zzI cy qtw 8 (T_wo (zch tA)), zzI cy qtn 8 (T_ne (zch tA)), zzI cy qtg 8 (T_go (zch tA)), zzI cy qta 8 (T_ag (zch tA)), zzI cy qtr 8 (T_re (zch tA)), zzI cy qtm 8 (T_me (zch tA)), zzI cy qtt 8 (T_te (zch tA)), zzI cy qts 64 (shF (T_kn (zch tA)))])) A) (List.toArray (α := Value) [.ref qt]) s 0 0 A) (F0 m 2 ls []) := by
    intro n_2
    induction n_2 with
    | zero => intro j_4 tJ_5 hm9; exact absurd hm9 (Nat.not_lt_zero _)
    | succ n_2 ih_3 =>
      intro j_4 tJ_5 hm_8 hj_6 htJ_7 H locs ls hP hD hS hl
      refine lv_iload_n hx hb dX1_tellChain_2 rfl (lv_at hl 0 rfl) ?_
      refine lv_aload_n hx hb dX1_tellChain_3 rfl (lv_at hl 1 rfl) ?_
      refine va_getN (D := G) (ci := 3) (v := .int (nI (T_np tJ_5))) (C := RX4) (T := TX4) (N := 13) hx hb hts iX_X4 hown hK hP 0 rfl rfl 1 (by decide) (va_Nw.use rfl (hN.2.1 (RX1, 40, "EachBookOnce$Town", "people", "I") (List.mem_of_getElem? (i := 4) rfl))) (fun _ h9 => h9) rfl dX1_tellChain_4 ?_
      refine lv_icmp_ge (tgt := 65) hx hb dX1_tellChain_7 (by decide) (fun c_9 => ?_) (fun c_9 => ?_)
      · have hlt_10e : T_np tJ_5 = T_np tA := by rw [htJ_7]; exact (tcF_nb _ _).2
        have hlt_10 : j_4 = T_np tA := Nat.le_antisymm (by omega) (by rw [hlt_10e] at c_9; exact lp_ge rfl rfl (by omega) (by omega) c_9)
        have e9_11 : tJ_5 = zch tA := by rw [htJ_7, hlt_10]; rfl
        subst e9_11
        exact endV (u := [zzO qt 3 [.int (nI (T_nb (zch tA))), .int (nI (T_np (zch tA))), .int (wb (T_wh (zch tA))), .int (wb (T_gn (zch tA))), .int (T_sd (zch tA)), .ref qtw, .ref qtn, .ref qtg, .ref qta, .ref qtr, .ref qtm, .ref qtt, .ref qts], zzI cy qtw 8 (T_wo (zch tA)), zzI cy qtn 8 (T_ne (zch tA)), zzI cy qtg 8 (T_go (zch tA)), zzI cy qta 8 (T_ag (zch tA)), zzI cy qtr 8 (T_re (zch tA)), zzI cy qtm 8 (T_me (zch tA)), zzI cy qtt 8 (T_te (zch tA)), zzI cy qts 64 (shF (T_kn (zch tA)))]) hx hb hr hlocks (hP.sub [0, 1, 2, 3, 4, 5, 6, 7, 8] rfl) (hD.sub [0, 1, 2, 3, 4, 5, 6, 7, 8] (by decide +kernel) rfl) hS rfl dX1_tellChain_65
      · have hlt_12e : T_np tJ_5 = T_np tA := by rw [htJ_7]; exact (tcF_nb _ _).2
        have hlt_12 : j_4 < T_np tA := by rw [hlt_12e] at c_9; exact lp_lt rfl rfl (by omega) (by omega) c_9
        have hlt_12b : T_nb tJ_5 = T_nb tA := by rw [htJ_7]; exact (tcF_nb _ _).1
        refine lv_aload_n hx hb dX1_tellChain_10 rfl (lv_at hl 1 rfl) ?_
        refine va_getN (D := G) (ci := 3) (v := .int (wb (T_gn tJ_5))) (C := RX4) (T := TX4) (N := 13) hx hb hts iX_X4 hown hK hP 0 rfl rfl 3 (by decide) (va_Nw.use rfl (hN.2.1 (RX1, 44, "EachBookOnce$Town", "gone", "I") (List.mem_of_getElem? (i := 11) rfl))) (fun _ h9 => h9) rfl dX1_tellChain_11 ?_
        refine lv_iload_n hx hb dX1_tellChain_14 rfl (lv_at hl 0 rfl) ?_
        refine kRi (rSN (As := [.int (wb (T_gn tJ_5)), .int (nI j_4)]) (rest := []) ⟨hx, hb, hml, hown, hts⟩ hN (c_X5_has l G cy (wb (T_gn tJ_5)) j_4) L_X1_47 (preRS hN hP [] rfl) rfl ⟨Nat.le_of_ble_eq_true rfl, Nat.le_of_ble_eq_true rfl⟩ hl.1 (Nat.le_of_ble_eq_true rfl) dX1_tellChain_15 ⟨Nat.le_of_ble_eq_true rfl, Nat.le_of_ble_eq_true rfl⟩) (fun r_13 h_14 => ?_)
        rcases h_14 with ⟨rfl, h_15⟩ | ⟨rfl, h_15⟩
        · rw [bit_wb _ (by omega)] at h_15
          refine lv_if_eq (tgt := 25) hx hb dX1_tellChain_18 (by decide) (fun h9 => absurd h9 (by decide)) (fun _ => ?_)
          refine lv_iconst (v := (-1)) hx hb dX1_tellChain_21 (by decide) ?_
          refine lv_goto (tgt := 30) hx hb dX1_tellChain_22 (by decide) ?_
          refine lv_istore_n (lv' := [(2, .int (-1)), (1, .int (nI j_4)), (0, .ref qt)]) hx hb dX1_tellChain_30 rfl hl (by decide) rfl (fun ls => ?_)
          clear hl
          intro hl
          refine lv_iconst (v := 0) hx hb dX1_tellChain_31 (by decide) ?_
          refine lv_istore_n (lv' := [(3, .int 0), (2, .int (-1)), (1, .int (nI j_4)), (0, .ref qt)]) hx hb dX1_tellChain_32 rfl hl (by decide) rfl (fun ls => ?_)
          clear hl
          intro hl
          refine lv_iload_n hx hb dX1_tellChain_33 rfl (lv_at hl 0 rfl) ?_
          refine lv_aload_n hx hb dX1_tellChain_34 rfl (lv_at hl 3 rfl) ?_
          refine va_getN (D := G) (ci := 3) (v := .int (nI (T_nb tJ_5))) (C := RX4) (T := TX4) (N := 13) hx hb hts iX_X4 hown hK hP 0 rfl rfl 0 (by decide) (va_Nw.use rfl (hN.2.1 (RX1, 54, "EachBookOnce$Town", "books", "I") (List.mem_of_getElem? (i := 1) rfl))) (fun _ h9 => h9) rfl dX1_tellChain_35 ?_
          refine lv_icmp_ge (tgt := 59) hx hb dX1_tellChain_38 (by decide) (fun c_17 => ?_) (fun c_17 => ?_)
          · refine lv_iinc (v := nI (j_4 + 1)) (lv' := [(1, .int (nI (j_4 + 1))), (3, .int 0), (2, .int (-1)), (0, .ref qt)]) hx hb dX1_tellChain_59 hl (k := 2) rfl (nI_1 _) (by decide) rfl (fun ls => ?_)
            clear hl
            intro hl
            refine lv_goto (tgt := 2) hx hb dX1_tellChain_62 (by decide) ?_
            exact ih_3 (j_4 + 1) tJ_5 (by omega) (by omega) (by show _ = tcS _ _; rw [← htJ_7, tcS_g h_15]) _ _ _ hP hD hS (lv_sub hl [0, 3] rfl)
          · refine lv_iload_n hx hb dX1_tellChain_41 rfl (lv_at hl 1 rfl) ?_
            refine lv_iconst (v := (-1)) hx hb dX1_tellChain_42 (by decide) ?_
            refine lv_icmp_eq (tgt := 59) hx hb dX1_tellChain_43 (by decide) (fun _ => ?_) (fun h9 => absurd (by decide) h9)
            refine lv_iinc (v := nI (j_4 + 1)) (lv' := [(1, .int (nI (j_4 + 1))), (3, .int 0), (2, .int (-1)), (0, .ref qt)]) hx hb dX1_tellChain_59 hl (k := 2) rfl (nI_1 _) (by decide) rfl (fun ls => ?_)
            clear hl
            intro hl
            refine lv_goto (tgt := 2) hx hb dX1_tellChain_62 (by decide) ?_
            exact ih_3 (j_4 + 1) tJ_5 (by omega) (by omega) (by show _ = tcS _ _; rw [← htJ_7, tcS_g h_15]) _ _ _ hP hD hS (lv_sub hl [0, 3] rfl)
        · rw [bit_wb _ (by omega)] at h_15
          refine lv_if_eq (tgt := 25) hx hb dX1_tellChain_18 (by decide) (fun _ => ?_) (fun h9 => absurd (by decide) h9)
          refine lv_aload_n hx hb dX1_tellChain_25 rfl (lv_at hl 1 rfl) ?_
          refine lv_iload_n hx hb dX1_tellChain_26 rfl (lv_at hl 0 rfl) ?_
          refine kRi (rV (As := [.int (nI j_4)]) (rest := []) (b := qt) ⟨hx, hb, hml, hown, hts⟩ (c_X4_youngestBut l G cy qt tJ_5 qtw qtn qtg qta qtr qtm qtt qts (nI j_4) (by omega)) L_X1_51 (preRV (q := (RX4, TX4, 13)) hN hP [0, 1, 2, 3, 4, 5, 6, 7, 8] rfl 0 3 rfl rfl) rfl ⟨Nat.le_of_ble_eq_true rfl, Nat.le_of_ble_eq_true rfl⟩ hl.1 (Nat.le_of_ble_eq_true rfl) dX1_tellChain_27 ⟨Nat.le_of_ble_eq_true rfl, Nat.le_of_ble_eq_true rfl⟩) (fun r_20 h_21 => ?_)
          subst h_21
          refine lv_istore_n (lv' := [(2, .int (zyb tJ_5 (nI j_4))), (1, .int (nI j_4)), (0, .ref qt)]) hx hb dX1_tellChain_30 rfl hl (by decide) rfl (fun ls => ?_)
          clear hl
          intro hl
          refine lv_iconst (v := 0) hx hb dX1_tellChain_31 (by decide) ?_
          refine lv_istore_n (lv' := [(3, .int 0), (2, .int (zyb tJ_5 (nI j_4))), (1, .int (nI j_4)), (0, .ref qt)]) hx hb dX1_tellChain_32 rfl hl (by decide) rfl (fun ls => ?_)
          clear hl
          intro hl
          rcases yb_in tJ_5 (nI j_4) (T_np tJ_5) with ek_25 | ⟨k_23, hk_24, ek_25⟩
          · have ek_25 : zyb tJ_5 (nI j_4) = -1 := ek_25
            rw [ek_25] at hl
            refine lv_iload_n hx hb dX1_tellChain_33 rfl (lv_at hl 0 rfl) ?_
            refine lv_aload_n hx hb dX1_tellChain_34 rfl (lv_at hl 3 rfl) ?_
            refine va_getN (D := G) (ci := 3) (v := .int (nI (T_nb tJ_5))) (C := RX4) (T := TX4) (N := 13) hx hb hts iX_X4 hown hK hP 0 rfl rfl 0 (by decide) (va_Nw.use rfl (hN.2.1 (RX1, 54, "EachBookOnce$Town", "books", "I") (List.mem_of_getElem? (i := 1) rfl))) (fun _ h9 => h9) rfl dX1_tellChain_35 ?_
            refine lv_icmp_ge (tgt := 59) hx hb dX1_tellChain_38 (by decide) (fun c_26 => ?_) (fun c_26 => ?_)
            · refine lv_iinc (v := nI (j_4 + 1)) (lv' := [(1, .int (nI (j_4 + 1))), (3, .int 0), (2, .int (-1)), (0, .ref qt)]) hx hb dX1_tellChain_59 hl (k := 2) rfl (nI_1 _) (by decide) rfl (fun ls => ?_)
              clear hl
              intro hl
              refine lv_goto (tgt := 2) hx hb dX1_tellChain_62 (by decide) ?_
              exact ih_3 (j_4 + 1) tJ_5 (by omega) (by omega) (by show _ = tcS _ _; rw [← htJ_7, tcS_n h_15 ek_25]) _ _ _ hP hD hS (lv_sub hl [0, 3] rfl)
            · refine lv_iload_n hx hb dX1_tellChain_41 rfl (lv_at hl 1 rfl) ?_
              refine lv_iconst (v := (-1)) hx hb dX1_tellChain_42 (by decide) ?_
              refine lv_icmp_eq (tgt := 59) hx hb dX1_tellChain_43 (by decide) (fun _ => ?_) (fun h9 => absurd (by decide) h9)
              refine lv_iinc (v := nI (j_4 + 1)) (lv' := [(1, .int (nI (j_4 + 1))), (3, .int 0), (2, .int (-1)), (0, .ref qt)]) hx hb dX1_tellChain_59 hl (k := 2) rfl (nI_1 _) (by decide) rfl (fun ls => ?_)
              clear hl
              intro hl
              refine lv_goto (tgt := 2) hx hb dX1_tellChain_62 (by decide) ?_
              exact ih_3 (j_4 + 1) tJ_5 (by omega) (by omega) (by show _ = tcS _ _; rw [← htJ_7, tcS_n h_15 ek_25]) _ _ _ hP hD hS (lv_sub hl [0, 3] rfl)
          · have ek_25 : zyb tJ_5 (nI j_4) = nI k_23 := ek_25
            rw [ek_25] at hl
            have hq_22 : T_np tJ_5 = T_np tA := by rw [htJ_7]; exact (tcF_nb _ _).2
            have lp_28 : ∀ (n_29 : Nat) (j_31 : Nat) (tJ_32 : TA), 8 - j_31 < n_29 → j_31 ≤ T_nb tJ_5 → tJ_32 = tcI tJ_5 j_4 k_23 j_31 → ∀ (H : Heap) (locs : List Loc) (ls : Array Slot), va_P G CL [zzO qt 3 [.int (nI (T_nb tJ_32)), .int (nI (T_np tJ_32)), .int (wb (T_wh tJ_32)), .int (wb (T_gn tJ_32)), .int (T_sd tJ_32), .ref qtw, .ref qtn, .ref qtg, .ref qta, .ref qtr, .ref qtm, .ref qtt, .ref qts], zzI cy qtw 8 (T_wo tJ_32), zzI cy qtn 8 (T_ne tJ_32), zzI cy qtg 8 (T_go tJ_32), zzI cy qta 8 (T_ag tJ_32), zzI cy qtr 8 (T_re tJ_32), zzI cy qtm 8 (T_me tJ_32), zzI cy qtt 8 (T_te tJ_32), zzI cy qts 64 (shF (T_kn tJ_32))] H → va_D A [zzO qt 3 [.int (nI (T_nb tJ_32)), .int (nI (T_np tJ_32)), .int (wb (T_wh tJ_32)), .int (wb (T_gn tJ_32)), .int (T_sd tJ_32), .ref qtw, .ref qtn, .ref qtg, .ref qta, .ref qtr, .ref qtm, .ref qtt, .ref qts], zzI cy qtw 8 (T_wo tJ_32), zzI cy qtn 8 (T_ne tJ_32), zzI cy qtg 8 (T_go tJ_32), zzI cy qta 8 (T_ag tJ_32), zzI cy qtr 8 (T_re tJ_32), zzI cy qtm 8 (T_me tJ_32), zzI cy qtt 8 (T_te tJ_32), zzI cy qts 64 (shF (T_kn tJ_32))] → va_S A s.heap H locs → lv_has ls 4 [(3, .int (nI j_31)), (2, .int (nI k_23)), (1, .int (nI j_4)), (0, .ref qt)] → W p l e (Rm 4 0 0) s m (List.toArray (α := Value) [.ref qt]) below meth c H locs 0 0 (MQ below ((Wv G (fun u => u = [zzO qt 3 [.int (nI (T_nb (zch tA))), .int (nI (T_np (zch tA))), .int (wb (T_wh (zch tA))), .int (wb (T_gn (zch tA))), .int (T_sd (zch tA)), .ref qtw, .ref qtn, .ref qtg, .ref qta, .ref qtr, .ref qtm, .ref qtt, .ref qts], zzI cy qtw 8 (T_wo (zch tA)), zzI cy qtn 8 (T_ne (zch tA)), zzI cy qtg 8 (T_go (zch tA)), zzI cy qta 8 (T_ag (zch tA)), zzI cy qtr 8 (T_re (zch tA)), zzI cy qtm 8 (T_me (zch tA)), zzI cy qtt 8 (T_te (zch tA)), zzI cy qts 64 (shF (T_kn (zch tA)))])) A) (List.toArray (α := Value) [.ref qt]) s 0 0 A) (F0 m 33 ls []) := by
              intro n_29
              induction n_29 with
              | zero => intro j_31 tJ_32 hm9; exact absurd hm9 (Nat.not_lt_zero _)
              | succ n_29 ih_30 =>
                intro j_31 tJ_32 hm_35 hj_33 htJ_34 H locs ls hP hD hS hl
                refine lv_iload_n hx hb dX1_tellChain_33 rfl (lv_at hl 0 rfl) ?_
                refine lv_aload_n hx hb dX1_tellChain_34 rfl (lv_at hl 3 rfl) ?_
                refine va_getN (D := G) (ci := 3) (v := .int (nI (T_nb tJ_32))) (C := RX4) (T := TX4) (N := 13) hx hb hts iX_X4 hown hK hP 0 rfl rfl 0 (by decide) (va_Nw.use rfl (hN.2.1 (RX1, 54, "EachBookOnce$Town", "books", "I") (List.mem_of_getElem? (i := 1) rfl))) (fun _ h9 => h9) rfl dX1_tellChain_35 ?_
                refine lv_icmp_ge (tgt := 59) hx hb dX1_tellChain_38 (by decide) (fun c_36 => ?_) (fun c_36 => ?_)
                · have hlt_37e : T_nb tJ_32 = T_nb tJ_5 := by rw [htJ_34]; exact (tcI_nb _ _ _ _).1
                  have hlt_37 : j_31 = T_nb tJ_5 := Nat.le_antisymm (by omega) (by rw [hlt_37e] at c_36; exact lp_ge rfl rfl (by omega) (by omega) c_36)
                  refine lv_iinc (v := nI (j_4 + 1)) (lv' := [(1, .int (nI (j_4 + 1))), (3, .int (nI j_31)), (2, .int (nI k_23)), (0, .ref qt)]) hx hb dX1_tellChain_59 hl (k := 2) rfl (nI_1 _) (by decide) rfl (fun ls => ?_)
                  clear hl
                  intro hl
                  refine lv_goto (tgt := 2) hx hb dX1_tellChain_62 (by decide) ?_
                  exact ih_3 (j_4 + 1) tJ_32 (by omega) (by omega) (by show _ = tcS _ _; rw [← htJ_7, tcS_y h_15 ek_25 (by omega), htJ_34, hlt_37]) _ _ _ hP hD hS (lv_sub hl [0, 3] rfl)
                · have hlt_38e : T_nb tJ_32 = T_nb tJ_5 := by rw [htJ_34]; exact (tcI_nb _ _ _ _).1
                  have hlt_38 : j_31 < T_nb tJ_5 := by rw [hlt_38e] at c_36; exact lp_lt rfl rfl (by omega) (by omega) c_36
                  refine lv_iload_n hx hb dX1_tellChain_41 rfl (lv_at hl 1 rfl) ?_
                  refine lv_iconst (v := (-1)) hx hb dX1_tellChain_42 (by decide) ?_
                  refine lv_icmp_eq (tgt := 59) hx hb dX1_tellChain_43 (by decide) (fun c_39 => ?_) (fun c_39 => ?_)
                  · exact absurd c_39 (nI_ne1 (by omega))
                  · refine lv_aload_n hx hb dX1_tellChain_46 rfl (lv_at hl 3 rfl) ?_
                    refine lv_iload_n hx hb dX1_tellChain_47 rfl (lv_at hl 2 rfl) ?_
                    refine lv_iload_n hx hb dX1_tellChain_48 rfl (lv_at hl 1 rfl) ?_
                    refine lv_iload_n hx hb dX1_tellChain_49 rfl (lv_at hl 0 rfl) ?_
                    refine cVv (As := [.int (nI j_4), .int (nI k_23), .int (nI j_31)]) (rest := []) (b := qt) (q := (RX4, TX4, 13)) ⟨hx, hb, hml, hown, hts⟩ (c_X4_tellTo l G cy (H).size qt tJ_32 qtw qtn qtg qta qtr qtm qtt qts j_4 k_23 j_31 (by omega) (by omega) (by omega)) L_X1_57 hN hP hD hS hA [0, 7, 8] [false, true, true, true, true, true, true, false, false] rfl (by decide +kernel) rfl 0 3 rfl rfl rfl ⟨Nat.le_of_ble_eq_true rfl, Nat.le_of_ble_eq_true rfl⟩ hl.1 (Nat.le_of_ble_eq_true rfl) dX1_tellChain_50 ⟨Nat.le_of_ble_eq_true rfl, Nat.le_of_ble_eq_true rfl⟩ (fun u_42 H locs h_41 => ?_)
                    clear hP hD hS
                    intro hP hD hS
                    subst h_41
                    have hPD := pd_as [zzI cy qtw 8 (T_wo (T_setkn tJ_32 (updM (T_kn tJ_32) k_23 j_31 (T_kn tJ_32 k_23 j_31 + zgt tJ_32 j_4 k_23 j_31)))), zzI cy qtn 8 (T_ne (T_setkn tJ_32 (updM (T_kn tJ_32) k_23 j_31 (T_kn tJ_32 k_23 j_31 + zgt tJ_32 j_4 k_23 j_31)))), zzI cy qtg 8 (T_go (T_setkn tJ_32 (updM (T_kn tJ_32) k_23 j_31 (T_kn tJ_32 k_23 j_31 + zgt tJ_32 j_4 k_23 j_31)))), zzI cy qta 8 (T_ag (T_setkn tJ_32 (updM (T_kn tJ_32) k_23 j_31 (T_kn tJ_32 k_23 j_31 + zgt tJ_32 j_4 k_23 j_31)))), zzI cy qtr 8 (T_re (T_setkn tJ_32 (updM (T_kn tJ_32) k_23 j_31 (T_kn tJ_32 k_23 j_31 + zgt tJ_32 j_4 k_23 j_31)))), zzI cy qtm 8 (T_me (T_setkn tJ_32 (updM (T_kn tJ_32) k_23 j_31 (T_kn tJ_32 k_23 j_31 + zgt tJ_32 j_4 k_23 j_31)))), zzO qt 3 [.int (nI (T_nb (T_setkn tJ_32 (updM (T_kn tJ_32) k_23 j_31 (T_kn tJ_32 k_23 j_31 + zgt tJ_32 j_4 k_23 j_31))))), .int (nI (T_np (T_setkn tJ_32 (updM (T_kn tJ_32) k_23 j_31 (T_kn tJ_32 k_23 j_31 + zgt tJ_32 j_4 k_23 j_31))))), .int (wb (T_wh (T_setkn tJ_32 (updM (T_kn tJ_32) k_23 j_31 (T_kn tJ_32 k_23 j_31 + zgt tJ_32 j_4 k_23 j_31))))), .int (wb (T_gn (T_setkn tJ_32 (updM (T_kn tJ_32) k_23 j_31 (T_kn tJ_32 k_23 j_31 + zgt tJ_32 j_4 k_23 j_31))))), .int (T_sd (T_setkn tJ_32 (updM (T_kn tJ_32) k_23 j_31 (T_kn tJ_32 k_23 j_31 + zgt tJ_32 j_4 k_23 j_31)))), .ref qtw, .ref qtn, .ref qtg, .ref qta, .ref qtr, .ref qtm, .ref qtt, .ref qts], zzI cy qtt 8 (T_te (T_setkn tJ_32 (updM (T_kn tJ_32) k_23 j_31 (T_kn tJ_32 k_23 j_31 + zgt tJ_32 j_4 k_23 j_31)))), zzI cy qts 64 (shF (T_kn (T_setkn tJ_32 (updM (T_kn tJ_32) k_23 j_31 (T_kn tJ_32 k_23 j_31 + zgt tJ_32 j_4 k_23 j_31)))))] hP hD rfl
                    clear hP hD
                    obtain ⟨hP, hD⟩ := hPD
                    refine lv_iinc (v := nI (j_31 + 1)) (lv' := [(3, .int (nI (j_31 + 1))), (2, .int (nI k_23)), (1, .int (nI j_4)), (0, .ref qt)]) hx hb dX1_tellChain_53 hl (k := 0) rfl (nI_1 _) (by decide) rfl (fun ls => ?_)
                    clear hl
                    intro hl
                    refine lv_goto (tgt := 33) hx hb dX1_tellChain_56 (by decide) ?_
                    exact ih_30 (j_31 + 1) (T_setkn tJ_32 (updM (T_kn tJ_32) k_23 j_31 (T_kn tJ_32 k_23 j_31 + zgt tJ_32 j_4 k_23 j_31))) (by omega) (by omega) (by rw [htJ_34]; rfl) _ _ _ (hP.sub [6, 0, 1, 2, 3, 4, 5, 7, 8] rfl) (hD.sub [6, 0, 1, 2, 3, 4, 5, 7, 8] (by decide +kernel) rfl) hS (lv_sub hl [0, 1, 2, 3] rfl)
            exact lp_28 ((8 - 0) + 1) 0 tJ_5 (Nat.lt_succ_self _) (Nat.zero_le _) rfl _ _ ls hP hD hS (lv_sub hl [0, 1, 2, 3] rfl)
  exact lp_1 ((8 - 0) + 1) 0 tA (Nat.lt_succ_self _) (Nat.zero_le _) rfl _ _ ls hP hD hS (lv_sub hl [0, 1] rfl)
