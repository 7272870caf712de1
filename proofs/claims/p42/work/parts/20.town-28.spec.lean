section
set_option maxHeartbeats 4000000 in
set_option maxRecDepth 100000 in
theorem c_X5_within (l : Launch) (G : va_G) (cy : Nat → ClassId) (J1 : Int64) (J2 : Int64) (J3 : Int64)   : MR l yX5_within cX5_within 6 (some .boolean) 1 G cy [] [.long J1, .long J2, .long J3] (vp_Si (fun r => (r = 1 ∧ Iv J1 J2 J3) ∨ (r = 0 ∧ ¬ Iv J1 J2 J3))) := by
  refine enR RX5 (by decide +kernel) rfl (Nat.le_of_ble_eq_true rfl) (fun p e s m below meth c ls hx hb hml hown hts hr hlocks hP hN hl => ?_)
  have hK := hN.1
  replace hl : lv_has ls 6 [(0, .long J1), (2, .long J2), (4, .long J3)] := hl
  refine lv_lload_n hx hb (g_30 bX5_within rfl) rfl (lv_at hl 0 rfl) ?_
  refine lv_lload_n hx hb (g_32 bX5_within rfl) rfl (lv_at hl 1 rfl) ?_
  refine W.lcmp hx hb (g_148 bX5_within rfl) ?_
  refine lv_if_lt (tgt := 17) hx hb dX5_within_3 (by decide +kernel) (fun c_1 => ?_) (fun c_1 => ?_)
  · refine lv_iconst (v := 0) hx hb (g_3 bX5_within rfl) (by decide +kernel) ?_
    exact endR hx hb hr hlocks rfl (Or.inr (⟨rfl, in_no1 c_1⟩)) (g_172 bX5_within rfl)
  · refine lv_lload_n hx hb (g_30 bX5_within rfl) rfl (lv_at hl 0 rfl) ?_
    refine lv_lload hx hb (g_22 (v := 4) bX5_within rfl) (lv_at hl 2 rfl) ?_
    refine W.lcmp hx hb (g_148 bX5_within rfl) ?_
    refine lv_if_gt (tgt := 17) hx hb dX5_within_10 (by decide +kernel) (fun c_2 => ?_) (fun c_2 => ?_)
    · refine lv_iconst (v := 0) hx hb (g_3 bX5_within rfl) (by decide +kernel) ?_
      exact endR hx hb hr hlocks rfl (Or.inr (⟨rfl, in_no2 c_2⟩)) (g_172 bX5_within rfl)
    · refine lv_iconst (v := 1) hx hb (g_4 bX5_within rfl) (by decide +kernel) ?_
      refine lv_goto (tgt := 18) hx hb dX5_within_14 (by decide +kernel) ?_
      exact endR hx hb hr hlocks rfl (Or.inl (⟨rfl, in_yes c_1 c_2⟩)) (g_172 bX5_within rfl)
set_option maxHeartbeats 4000000 in
set_option maxRecDepth 100000 in
theorem c_X5_has (l : Launch) (G : va_G) (cy : Nat → ClassId) (iA : Int32) (kI : Nat)   : MR l yX5_has cX5_has 2 (some .boolean) 1 G cy [] [.int iA, .int (nI kI)] (vp_Si (fun r => (r = 1 ∧ bitb iA kI = true) ∨ (r = 0 ∧ bitb iA kI = false))) := by
  refine enR RX5 (by decide +kernel) rfl (Nat.le_of_ble_eq_true rfl) (fun p e s m below meth c ls hx hb hml hown hts hr hlocks hP hN hl => ?_)
  have hK := hN.1
  replace hl : lv_has ls 2 [(0, .int iA), (1, .int (nI kI))] := hl
  refine lv_iload_n hx hb (g_26 bX5_has rfl) rfl (lv_at hl 0 rfl) ?_
  refine lv_iload_n hx hb (g_27 bX5_has rfl) rfl (lv_at hl 1 rfl) ?_
  refine lv_ishr hx hb (g_122 bX5_has rfl) ?_
  refine lv_iconst (v := 1) hx hb (g_4 bX5_has rfl) (by decide +kernel) ?_
  refine lv_iand hx hb (g_126 bX5_has rfl) ?_
  refine lv_if_eq (tgt := 12) hx hb dX5_has_5 (by decide +kernel) (fun c_1 => ?_) (fun c_1 => ?_)
  · refine lv_iconst (v := 0) hx hb (g_3 bX5_has rfl) (by decide +kernel) ?_
    exact endR hx hb hr hlocks rfl (Or.inr (⟨rfl, by unfold bitb; exact decide_eq_false (fun q => q c_1)⟩)) (g_172 bX5_has rfl)
  · refine lv_iconst (v := 1) hx hb (g_4 bX5_has rfl) (by decide +kernel) ?_
    refine lv_goto (tgt := 13) hx hb dX5_has_9 (by decide +kernel) ?_
    exact endR hx hb hr hlocks rfl (Or.inl (⟨rfl, by unfold bitb; exact decide_eq_true c_1⟩)) (g_172 bX5_has rfl)
set_option maxHeartbeats 4000000 in
set_option maxRecDepth 100000 in
theorem c_X5_setOfAll (l : Launch) (G : va_G) (cy : Nat → ClassId) (iA : Int32)   : MR l yX5_setOfAll cX5_setOfAll 1 (some .int) 1 G cy [] [.int iA] (vp_Si (fun r => (r = ((1 <<< (iA &&& 31)) - 1)))) := by
  refine enR RX5 (by decide +kernel) rfl (Nat.le_of_ble_eq_true rfl) (fun p e s m below meth c ls hx hb hml hown hts hr hlocks hP hN hl => ?_)
  have hK := hN.1
  replace hl : lv_has ls 1 [(0, .int iA)] := hl
  refine lv_iconst (v := 1) hx hb (g_4 bX5_setOfAll rfl) (by decide +kernel) ?_
  refine lv_iload_n hx hb (g_26 bX5_setOfAll rfl) rfl (lv_at hl 0 rfl) ?_
  refine lv_ishl hx hb (g_120 bX5_setOfAll rfl) ?_
  refine lv_iconst (v := 1) hx hb (g_4 bX5_setOfAll rfl) (by decide +kernel) ?_
  refine lv_isub hx hb (g_100 bX5_setOfAll rfl) ?_
  exact endR hx hb hr hlocks rfl rfl (g_172 bX5_setOfAll rfl)
set_option maxHeartbeats 4000000 in
set_option maxRecDepth 100000 in
theorem c_X4_afterTelling (l : Launch) (G : va_G) (cy : Nat → ClassId) (iA : Int32) (iB : Int32)   : MR l yX4_afterTelling cX4_afterTelling 2 (some .int) 1 G cy [] [.int iA, .int iB] (vp_Si (fun r => (r = (iA * iB / 10)))) := by
  refine enR RX4 (by decide +kernel) rfl (Nat.le_of_ble_eq_true rfl) (fun p e s m below meth c ls hx hb hml hown hts hr hlocks hP hN hl => ?_)
  have hK := hN.1
  replace hl : lv_has ls 2 [(0, .int iA), (1, .int iB)] := hl
  refine lv_iload_n hx hb (g_26 bX4_afterTelling rfl) rfl (lv_at hl 0 rfl) ?_
  refine lv_iload_n hx hb (g_27 bX4_afterTelling rfl) rfl (lv_at hl 1 rfl) ?_
  refine lv_imul hx hb (g_104 bX4_afterTelling rfl) ?_
  refine lv_bipush (v := 10) hx hb dX4_afterTelling_3 (by decide +kernel) ?_
  refine lv_idiv hx hb (g_108 bX4_afterTelling rfl) (by decide +kernel) ?_
  exact endR hx hb hr hlocks rfl (by simp []) (g_172 bX4_afterTelling rfl)
set_option maxHeartbeats 4000000 in
set_option maxRecDepth 100000 in
theorem c_X4_grasped (l : Launch) (G : va_G) (cy : Nat → ClassId) (iA : Int32) (iB : Int32)   : MR l yX4_grasped cX4_grasped 2 (some .int) 1 G cy [] [.int iA, .int iB] (vp_Si (fun r => (r = (zgr iA iB)))) := by
  refine enR RX4 (by decide +kernel) rfl (Nat.le_of_ble_eq_true rfl) (fun p e s m below meth c ls hx hb hml hown hts hr hlocks hP hN hl => ?_)
  have hK := hN.1
  replace hl : lv_has ls 2 [(0, .int iA), (1, .int iB)] := hl
  refine lv_iload_n hx hb (g_26 bX4_grasped rfl) rfl (lv_at hl 0 rfl) ?_
  refine lv_iload_n hx hb (g_27 bX4_grasped rfl) rfl (lv_at hl 1 rfl) ?_
  refine lv_sipush (v := 1000) hx hb dX4_grasped_2 (by decide +kernel) ?_
  refine lv_iadd hx hb (g_96 bX4_grasped rfl) ?_
  refine lv_imul hx hb (g_104 bX4_grasped rfl) ?_
  refine lv_sipush (v := 2000) hx hb dX4_grasped_7 (by decide +kernel) ?_
  refine lv_idiv hx hb (g_108 bX4_grasped rfl) (by decide +kernel) ?_
  exact endR hx hb hr hlocks rfl (by rfl) (g_172 bX4_grasped rfl)
set_option maxHeartbeats 4000000 in
set_option maxRecDepth 100000 in
theorem c_X4_setThere (l : Launch) (G : va_G) (cy : Nat → ClassId) (qt : Nat) (tA : TA) (qtw : Nat) (qtn : Nat) (qtg : Nat) (qta : Nat) (qtr : Nat) (qtm : Nat) (qtt : Nat) (qts : Nat)  (hPp : T_np tA ≤ 8) : MR l yX4_setThere cX4_setThere 1 (some .int) 2 G cy [zzO qt 3 [.int (nI (T_nb tA)), .int (nI (T_np tA)), .int (wb (T_wh tA)), .int (wb (T_gn tA)), .int (T_sd tA), .ref qtw, .ref qtn, .ref qtg, .ref qta, .ref qtr, .ref qtm, .ref qtt, .ref qts]] [.ref qt] (vp_Si (fun r => (r = (zthere tA)))) := by
  refine enR RX4 (by decide +kernel) rfl (Nat.le_of_ble_eq_true rfl) (fun p e s m below meth c ls hx hb hml hown hts hr hlocks hP hN hl => ?_)
  have hK := hN.1
  replace hl : lv_has ls 1 [(0, .ref qt)] := hl
  refine lv_aload_n hx hb (g_42 bX4_setThere rfl) rfl (lv_at hl 0 rfl) ?_
  refine va_get (D := G) (ci := 3) (v := .int (nI (T_np tA))) (C := RX4) (T := TX4) (N := 13) hx hb hts iX_X4 hown hK hP 0 rfl rfl 1 (by decide +kernel) (hts _ m_t34) (fun _ h9 => h9) rfl (g_180 (v := 43) bX4_setThere rfl) ?_
  refine kRi (rSN (As := [.int (nI (T_np tA))]) (rest := []) ⟨hx, hb, hml, hown, hts⟩ hN (c_X5_setOfAll l G cy (nI (T_np tA))) L_X4_58 (preRS hN hP [] rfl) rfl ⟨Nat.le_of_ble_eq_true rfl, Nat.le_of_ble_eq_true rfl⟩ hl.1 (Nat.le_of_ble_eq_true rfl) (g_184 (v := 58) bX4_setThere rfl) ⟨Nat.le_of_ble_eq_true rfl, Nat.le_of_ble_eq_true rfl⟩) (fun r_1 h_2 => ?_)
  subst h_2
  refine lv_aload_n hx hb (g_42 bX4_setThere rfl) rfl (lv_at hl 0 rfl) ?_
  refine va_get (D := G) (ci := 3) (v := .int (wb (T_gn tA))) (C := RX4) (T := TX4) (N := 13) hx hb hts iX_X4 hown hK hP 0 rfl rfl 3 (by decide +kernel) (hts _ m_t43) (fun _ h9 => h9) rfl (g_180 (v := 49) bX4_setThere rfl) ?_
  refine lv_iconst (v := (-1)) hx hb (g_2 bX4_setThere rfl) (by decide +kernel) ?_
  refine lv_ixor hx hb (g_130 bX4_setThere rfl) ?_
  refine lv_iand hx hb (g_126 bX4_setThere rfl) ?_
  exact endR hx hb hr hlocks rfl (by exact wb_there _ hPp) (g_172 bX4_setThere rfl)
set_option maxHeartbeats 4000000 in
set_option maxRecDepth 100000 in
theorem c_X4_knows (l : Launch) (G : va_G) (cy : Nat → ClassId) (qt : Nat) (tA : TA) (qtw : Nat) (qtn : Nat) (qtg : Nat) (qta : Nat) (qtr : Nat) (qtm : Nat) (qtt : Nat) (qts : Nat) (kI : Nat) (kJ : Nat)  (hI : kI < 8) (hJ : kJ < 8) : MR l yX4_knows cX4_knows 3 (some .int) 1 G cy [zzO qt 3 [.int (nI (T_nb tA)), .int (nI (T_np tA)), .int (wb (T_wh tA)), .int (wb (T_gn tA)), .int (T_sd tA), .ref qtw, .ref qtn, .ref qtg, .ref qta, .ref qtr, .ref qtm, .ref qtt, .ref qts], zzI cy qts 64 (shF (T_kn tA))] [.ref qt, .int (nI kI), .int (nI kJ)] (vp_Si (fun r => (r = (T_kn tA kI kJ)))) := by
  refine enR RX4 (by decide +kernel) rfl (Nat.le_of_ble_eq_true rfl) (fun p e s m below meth c ls hx hb hml hown hts hr hlocks hP hN hl => ?_)
  have hK := hN.1
  replace hl : lv_has ls 3 [(0, .ref qt), (1, .int (nI kI)), (2, .int (nI kJ))] := hl
  refine lv_aload_n hx hb (g_42 bX4_knows rfl) rfl (lv_at hl 0 rfl) ?_
  refine va_get (D := G) (ci := 3) (v := .ref qts) (C := RX4) (T := TX4) (N := 13) hx hb hts iX_X4 hown hK hP 0 rfl rfl 12 (by decide +kernel) (hts _ m_t64) (fun _ h9 => h9) rfl (g_180 (v := 37) bX4_knows rfl) ?_
  refine lv_iload_n hx hb (g_27 bX4_knows rfl) rfl (lv_at hl 1 rfl) ?_
  refine lv_bipush (v := 8) hx hb dX4_knows_5 (by decide +kernel) ?_
  refine lv_imul hx hb (g_104 bX4_knows rfl) ?_
  refine lv_iload_n hx hb (g_28 bX4_knows rfl) rfl (lv_at hl 2 rfl) ?_
  refine lv_iadd hx hb (g_96 bX4_knows rfl) ?_
  refine va_iald hx hb hK hP 1 0 rfl rfl (in64 (by omega) (by omega)) (g_46 bX4_knows rfl) ?_
  refine lv_seti (v := (T_kn tA) kI kJ) ((congrArg (shF (T_kn tA)) (cl64 (by omega) (by omega))).trans (shF_get _ (by omega))) ?_
  exact endR hx hb hr hlocks rfl (by simp [hI, hJ]) (g_172 bX4_knows rfl)
set_option maxHeartbeats 4000000 in
set_option maxRecDepth 100000 in
theorem c_X4_learn (l : Launch) (G : va_G) (cy : Nat → ClassId) (sz : Nat) (qt : Nat) (tA : TA) (qtw : Nat) (qtn : Nat) (qtg : Nat) (qta : Nat) (qtr : Nat) (qtm : Nat) (qtt : Nat) (qts : Nat) (kI : Nat) (kJ : Nat) (iV : Int32)  (hI : kI < 8) (hJ : kJ < 8) : MW l yX4_learn cX4_learn 4 none 1 0 0 G cy [zzO qt 3 [.int (nI (T_nb tA)), .int (nI (T_np tA)), .int (wb (T_wh tA)), .int (wb (T_gn tA)), .int (T_sd tA), .ref qtw, .ref qtn, .ref qtg, .ref qta, .ref qtr, .ref qtm, .ref qtt, .ref qts], zzI cy qts 64 (shF (T_kn tA))] sz [.ref qt, .int (nI kI), .int (nI kJ), .int iV] (Wv G (fun u => u = [zzO qt 3 [.int (nI (T_nb (T_setkn tA (updM (T_kn tA) kI kJ iV)))), .int (nI (T_np (T_setkn tA (updM (T_kn tA) kI kJ iV)))), .int (wb (T_wh (T_setkn tA (updM (T_kn tA) kI kJ iV)))), .int (wb (T_gn (T_setkn tA (updM (T_kn tA) kI kJ iV)))), .int (T_sd (T_setkn tA (updM (T_kn tA) kI kJ iV))), .ref qtw, .ref qtn, .ref qtg, .ref qta, .ref qtr, .ref qtm, .ref qtt, .ref qts], zzI cy qts 64 (shF (T_kn (T_setkn tA (updM (T_kn tA) kI kJ iV))))])) := by
  refine enW RX4 (by decide +kernel) rfl (Nat.le_of_ble_eq_true rfl) (fun p e s m below meth c ls A hx hb hml hown hts hr hlocks hP hN hl hin hD hA hS => ?_)
  have hin : meth.name = _ := hin
  have hK := hN.1
  replace hl : lv_has ls 4 [(0, .ref qt), (1, .int (nI kI)), (2, .int (nI kJ)), (3, .int iV)] := hl
  refine lv_aload_n hx hb (g_42 bX4_learn rfl) rfl (lv_at hl 0 rfl) ?_
  refine va_get (D := G) (ci := 3) (v := .ref qts) (C := RX4) (T := TX4) (N := 13) hx hb hts iX_X4 hown hK hP 0 rfl rfl 12 (by decide +kernel) (hts _ m_t64) (fun _ h9 => h9) rfl (g_180 (v := 37) bX4_learn rfl) ?_
  refine lv_iload_n hx hb (g_27 bX4_learn rfl) rfl (lv_at hl 1 rfl) ?_
  refine lv_bipush (v := 8) hx hb dX4_learn_5 (by decide +kernel) ?_
  refine lv_imul hx hb (g_104 bX4_learn rfl) ?_
  refine lv_iload_n hx hb (g_28 bX4_learn rfl) rfl (lv_at hl 2 rfl) ?_
  refine lv_iadd hx hb (g_96 bX4_learn rfl) ?_
  refine lv_iload_n hx hb (g_29 bX4_learn rfl) rfl (lv_at hl 3 rfl) ?_
  refine va_iast hx hb hK hP hD hS 1 0 rfl rfl (in64 (by omega) (by omega)) (g_79 bX4_learn rfl) (fun H locs => ?_)
  clear hP hD hS
  intro hP hD hS
  rw [cl64 (p := kI) (b := kJ) (by omega) (by omega), shF_put _ (by omega)] at hP hD
  have hPD := pd_as [_, zzI cy qts 64 (shF (updM (T_kn tA) kI kJ iV))] hP hD rfl
  clear hP hD
  obtain ⟨hP, hD⟩ := hPD
  exact endVs [[true, true]] hx hb hr hlocks hP hD rfl (by decide +kernel) hS rfl (g_177 bX4_learn rfl)
set_option maxHeartbeats 4000000 in
set_option maxRecDepth 100000 in
theorem c_X4_mostKnown (l : Launch) (G : va_G) (cy : Nat → ClassId) (qt : Nat) (tA : TA) (qtw : Nat) (qtn : Nat) (qtg : Nat) (qta : Nat) (qtr : Nat) (qtm : Nat) (qtt : Nat) (qts : Nat) (kB : Nat) (iS : Int32)  (hPp : T_np tA ≤ 8) (hJ : kB < 8) : MR l yX4_mostKnown cX4_mostKnown 5 (some .int) 2 G cy [zzO qt 3 [.int (nI (T_nb tA)), .int (nI (T_np tA)), .int (wb (T_wh tA)), .int (wb (T_gn tA)), .int (T_sd tA), .ref qtw, .ref qtn, .ref qtg, .ref qta, .ref qtr, .ref qtm, .ref qtt, .ref qts], zzI cy qts 64 (shF (T_kn tA))] [.ref qt, .int (nI kB), .int iS] (vp_Si (fun r => (r = (mkn tA kB iS)))) := by
  refine enR RX4 (by decide +kernel) rfl (Nat.le_of_ble_eq_true rfl) (fun p e s m below meth c ls hx hb hml hown hts hr hlocks hP hN hl => ?_)
  have hK := hN.1
  replace hl : lv_has ls 5 [(0, .ref qt), (1, .int (nI kB)), (2, .int iS)] := hl
  refine lv_iconst (v := 0) hx hb (g_3 bX4_mostKnown rfl) (by decide +kernel) ?_
  refine lv_istore_n (lv' := [(3, .int 0), (0, .ref qt), (1, .int (nI kB)), (2, .int iS)]) hx hb (g_62 bX4_mostKnown rfl) rfl hl (by decide +kernel) rfl (fun ls => ?_)
  clear hl
  intro hl
  refine lv_iconst (v := 0) hx hb (g_3 bX4_mostKnown rfl) (by decide +kernel) ?_
  refine lv_istore (lv' := [(4, .int 0), (3, .int 0), (0, .ref qt), (1, .int (nI kB)), (2, .int iS)]) hx hb (g_54 (v := 4) bX4_mostKnown rfl) hl (by decide +kernel) rfl (fun ls => ?_)
  clear hl
  intro hl
  have lp_1 : ∀ (n_2 : Nat) (j_4 : Nat) (xM_5 : Int32), 8 - j_4 < n_2 → j_4 ≤ T_np tA → xM_5 = gA (bitb iS) (fun p => T_kn tA p kB) j_4 → ∀ (ls : Array Slot), lv_has ls 5 [(4, .int (nI j_4)), (3, .int xM_5), (0, .ref qt), (1, .int (nI kB)), (2, .int iS)] → W p l e (Rm 2 0 0) s m (List.toArray (α := Value) [.ref qt, .int (nI kB), .int iS]) below meth c s.heap [] 0 0 (MQ below (vp_Si (fun r => (r = (mkn tA kB iS)))) (List.toArray (α := Value) [.ref qt, .int (nI kB), .int iS]) s 0 0 (fun _ => False)) (F0 m 5 ls []) := by
    intro n_2
    induction n_2 with
    | zero => intro j_4 xM_5 hm9; exact absurd hm9 (Nat.not_lt_zero _)
    | succ n_2 ih_3 =>
      intro j_4 xM_5 hm_8 hj_6 hxM_7 ls hl
      refine lv_iload hx hb (g_21 (v := 4) bX4_mostKnown rfl) (lv_at hl 0 rfl) ?_
      refine lv_aload_n hx hb (g_42 bX4_mostKnown rfl) rfl (lv_at hl 2 rfl) ?_
      refine va_get (D := G) (ci := 3) (v := .int (nI (T_np tA))) (C := RX4) (T := TX4) (N := 13) hx hb hts iX_X4 hown hK hP 0 rfl rfl 1 (by decide +kernel) (hts _ m_t34) (fun _ h9 => h9) rfl (g_180 (v := 43) bX4_mostKnown rfl) ?_
      refine lv_icmp_ge (tgt := 41) hx hb dX4_mostKnown_11 (by decide +kernel) (fun c_9 => ?_) (fun c_9 => ?_)
      · have hlt_10 : j_4 = T_np tA := Nat.le_antisymm (by omega) (lp_ge rfl rfl (by omega) (by omega) c_9)
        refine lv_iload_n hx hb (g_29 bX4_mostKnown rfl) rfl (lv_at hl 1 rfl) ?_
        exact endR hx hb hr hlocks rfl (by rw [hxM_7, hlt_10]; rfl) (g_172 bX4_mostKnown rfl)
      · have hlt_11 : j_4 < T_np tA := lp_lt rfl rfl (by omega) (by omega) c_9
        refine lv_iload_n hx hb (g_28 bX4_mostKnown rfl) rfl (lv_at hl 4 rfl) ?_
        refine lv_iload hx hb (g_21 (v := 4) bX4_mostKnown rfl) (lv_at hl 0 rfl) ?_
        refine kRi (rSN (As := [.int iS, .int (nI j_4)]) (rest := []) ⟨hx, hb, hml, hown, hts⟩ hN (c_X5_has l G cy iS j_4) L_X4_62 (preRS hN hP [] rfl) rfl ⟨Nat.le_of_ble_eq_true rfl, Nat.le_of_ble_eq_true rfl⟩ hl.1 (Nat.le_of_ble_eq_true rfl) (g_184 (v := 62) bX4_mostKnown rfl) ⟨Nat.le_of_ble_eq_true rfl, Nat.le_of_ble_eq_true rfl⟩) (fun r_12 h_13 => ?_)
        rcases h_13 with ⟨rfl, h_14⟩ | ⟨rfl, h_14⟩
        · refine lv_if_eq (tgt := 35) hx hb dX4_mostKnown_20 (by decide +kernel) (fun h9 => absurd h9 (by decide +kernel)) (fun _ => ?_)
          refine lv_iload_n hx hb (g_29 bX4_mostKnown rfl) rfl (lv_at hl 1 rfl) ?_
          refine lv_aload_n hx hb (g_42 bX4_mostKnown rfl) rfl (lv_at hl 2 rfl) ?_
          refine lv_iload hx hb (g_21 (v := 4) bX4_mostKnown rfl) (lv_at hl 0 rfl) ?_
          refine lv_iload_n hx hb (g_27 bX4_mostKnown rfl) rfl (lv_at hl 3 rfl) ?_
          refine kRi (rV (As := [.int (nI j_4), .int (nI kB)]) (rest := [.int xM_5]) (b := qt) ⟨hx, hb, hml, hown, hts⟩ (c_X4_knows l G cy qt tA qtw qtn qtg qta qtr qtm qtt qts j_4 kB (by omega) hJ) L_X4_66 (preRV (q := (RX4, TX4, 13)) hN hP [0, 1] rfl 0 3 rfl rfl) rfl ⟨Nat.le_of_ble_eq_true rfl, Nat.le_of_ble_eq_true rfl⟩ hl.1 (Nat.le_of_ble_eq_true rfl) (g_182 (v := 66) bX4_mostKnown rfl) ⟨Nat.le_of_ble_eq_true rfl, Nat.le_of_ble_eq_true rfl⟩) (fun r_16 h_17 => ?_)
          subst h_17
          refine va_mmax hx hb (hml.trans hl.1.symm) hown (hts _ m_max1) (hts _ m_max2) (hts _ m_t9) (hts _ m_max3) (Nat.le_of_ble_eq_true rfl) (Nat.le_of_ble_eq_true rfl) (Nat.le_of_ble_eq_true rfl) (Nat.le_of_ble_eq_true rfl) (g_184 (v := 70) bX4_mostKnown rfl) ?_
          refine lv_seti (v := mx xM_5 (T_kn tA j_4 kB)) rfl ?_
          refine lv_istore_n (lv' := [(3, .int (mx xM_5 (T_kn tA j_4 kB))), (4, .int (nI j_4)), (0, .ref qt), (1, .int (nI kB)), (2, .int iS)]) hx hb (g_62 bX4_mostKnown rfl) rfl hl (by decide +kernel) rfl (fun ls => ?_)
          clear hl
          intro hl
          refine lv_iinc (v := nI (j_4 + 1)) (lv' := [(4, .int (nI (j_4 + 1))), (3, .int (mx xM_5 (T_kn tA j_4 kB))), (0, .ref qt), (1, .int (nI kB)), (2, .int iS)]) hx hb dX4_mostKnown_35 hl (k := 1) rfl (nI_1 _) (by decide +kernel) rfl (fun ls => ?_)
          clear hl
          intro hl
          refine lv_goto (tgt := 5) hx hb dX4_mostKnown_38 (by decide +kernel) ?_
          exact ih_3 (j_4 + 1) (mx xM_5 (T_kn tA j_4 kB)) (by omega) (by omega) (by rw [hxM_7]; exact (if_pos h_14).symm) _ (lv_sub hl [0, 1, 2, 3, 4] rfl)
        · refine lv_if_eq (tgt := 35) hx hb dX4_mostKnown_20 (by decide +kernel) (fun _ => ?_) (fun h9 => absurd (by decide +kernel) h9)
          refine lv_iinc (v := nI (j_4 + 1)) (lv' := [(4, .int (nI (j_4 + 1))), (3, .int xM_5), (0, .ref qt), (1, .int (nI kB)), (2, .int iS)]) hx hb dX4_mostKnown_35 hl (k := 0) rfl (nI_1 _) (by decide +kernel) rfl (fun ls => ?_)
          clear hl
          intro hl
          refine lv_goto (tgt := 5) hx hb dX4_mostKnown_38 (by decide +kernel) ?_
          exact ih_3 (j_4 + 1) xM_5 (by omega) (by omega) (by rw [hxM_7]; exact (if_neg (by rw [h_14]; decide)).symm) _ (lv_sub hl [0, 1, 2, 3, 4] rfl)
  exact lp_1 ((8 - 0) + 1) 0 0 (Nat.lt_succ_self _) (Nat.zero_le _) rfl ls (lv_sub hl [0, 1, 2, 3, 4] rfl)
set_option maxHeartbeats 4000000 in
set_option maxRecDepth 100000 in
theorem c_X4_worthAmong (l : Launch) (G : va_G) (cy : Nat → ClassId) (qt : Nat) (tA : TA) (qtw : Nat) (qtn : Nat) (qtg : Nat) (qta : Nat) (qtr : Nat) (qtm : Nat) (qtt : Nat) (qts : Nat) (iS : Int32)  (hB : T_nb tA ≤ 8) (hPp : T_np tA ≤ 8) : MR l yX4_worthAmong cX4_worthAmong 4 (some .int) 3 G cy [zzO qt 3 [.int (nI (T_nb tA)), .int (nI (T_np tA)), .int (wb (T_wh tA)), .int (wb (T_gn tA)), .int (T_sd tA), .ref qtw, .ref qtn, .ref qtg, .ref qta, .ref qtr, .ref qtm, .ref qtt, .ref qts], zzI cy qtw 8 (T_wo tA), zzI cy qts 64 (shF (T_kn tA))] [.ref qt, .int iS] (vp_Si (fun r => (r = (waF tA iS)))) := by
  refine enR RX4 (by decide +kernel) rfl (Nat.le_of_ble_eq_true rfl) (fun p e s m below meth c ls hx hb hml hown hts hr hlocks hP hN hl => ?_)
  have hK := hN.1
  replace hl : lv_has ls 4 [(0, .ref qt), (1, .int iS)] := hl
  refine lv_iconst (v := 0) hx hb (g_3 bX4_worthAmong rfl) (by decide +kernel) ?_
  refine lv_istore_n (lv' := [(2, .int 0), (0, .ref qt), (1, .int iS)]) hx hb (g_61 bX4_worthAmong rfl) rfl hl (by decide +kernel) rfl (fun ls => ?_)
  clear hl
  intro hl
  refine lv_iconst (v := 0) hx hb (g_3 bX4_worthAmong rfl) (by decide +kernel) ?_
  refine lv_istore_n (lv' := [(3, .int 0), (2, .int 0), (0, .ref qt), (1, .int iS)]) hx hb (g_62 bX4_worthAmong rfl) rfl hl (by decide +kernel) rfl (fun ls => ?_)
  clear hl
  intro hl
  have lp_1 : ∀ (n_2 : Nat) (j_4 : Nat) (xM_5 : Int32), 8 - j_4 < n_2 → j_4 ≤ T_nb tA → xM_5 = wsum (fun b => T_wo tA b * mkn tA b iS) j_4 → ∀ (ls : Array Slot), lv_has ls 4 [(3, .int (nI j_4)), (2, .int xM_5), (0, .ref qt), (1, .int iS)] → W p l e (Rm 3 0 0) s m (List.toArray (α := Value) [.ref qt, .int iS]) below meth c s.heap [] 0 0 (MQ below (vp_Si (fun r => (r = (waF tA iS)))) (List.toArray (α := Value) [.ref qt, .int iS]) s 0 0 (fun _ => False)) (F0 m 4 ls []) := by
    intro n_2
    induction n_2 with
    | zero => intro j_4 xM_5 hm9; exact absurd hm9 (Nat.not_lt_zero _)
    | succ n_2 ih_3 =>
      intro j_4 xM_5 hm_8 hj_6 hxM_7 ls hl
      refine lv_iload_n hx hb (g_29 bX4_worthAmong rfl) rfl (lv_at hl 0 rfl) ?_
      refine lv_aload_n hx hb (g_42 bX4_worthAmong rfl) rfl (lv_at hl 2 rfl) ?_
      refine va_get (D := G) (ci := 3) (v := .int (nI (T_nb tA))) (C := RX4) (T := TX4) (N := 13) hx hb hts iX_X4 hown hK hP 0 rfl rfl 0 (by decide +kernel) (hts _ m_t29) (fun _ h9 => h9) rfl (g_180 (v := 40) bX4_worthAmong rfl) ?_
      refine lv_icmp_ge (tgt := 34) hx hb dX4_worthAmong_9 (by decide +kernel) (fun c_9 => ?_) (fun c_9 => ?_)
      · have hlt_10 : j_4 = T_nb tA := Nat.le_antisymm (by omega) (lp_ge rfl rfl (by omega) (by omega) c_9)
        refine lv_iload_n hx hb (g_28 bX4_worthAmong rfl) rfl (lv_at hl 1 rfl) ?_
        exact endR hx hb hr hlocks rfl (by rw [hxM_7, hlt_10]; rfl) (g_172 bX4_worthAmong rfl)
      · have hlt_11 : j_4 < T_nb tA := lp_lt rfl rfl (by omega) (by omega) c_9
        refine lv_iload_n hx hb (g_28 bX4_worthAmong rfl) rfl (lv_at hl 1 rfl) ?_
        refine lv_aload_n hx hb (g_42 bX4_worthAmong rfl) rfl (lv_at hl 2 rfl) ?_
        refine va_get (D := G) (ci := 3) (v := .ref qtw) (C := RX4) (T := TX4) (N := 13) hx hb hts iX_X4 hown hK hP 0 rfl rfl 5 (by decide +kernel) (hts _ m_t48) (fun _ h9 => h9) rfl (g_180 (v := 15) bX4_worthAmong rfl) ?_
        refine lv_iload_n hx hb (g_29 bX4_worthAmong rfl) rfl (lv_at hl 0 rfl) ?_
        refine va_iald hx hb hK hP 1 0 rfl rfl (in8 (by omega)) (g_46 bX4_worthAmong rfl) ?_
        refine lv_seti (v := (T_wo tA) j_4) (congrArg (T_wo tA) (cl8 (by omega))) ?_
        refine lv_aload_n hx hb (g_42 bX4_worthAmong rfl) rfl (lv_at hl 2 rfl) ?_
        refine lv_iload_n hx hb (g_29 bX4_worthAmong rfl) rfl (lv_at hl 0 rfl) ?_
        refine lv_iload_n hx hb (g_27 bX4_worthAmong rfl) rfl (lv_at hl 3 rfl) ?_
        refine kRi (rV (As := [.int (nI j_4), .int iS]) (rest := [.int ((T_wo tA) j_4), .int xM_5]) (b := qt) ⟨hx, hb, hml, hown, hts⟩ (c_X4_mostKnown l G cy qt tA qtw qtn qtg qta qtr qtm qtt qts j_4 iS hPp (by omega)) L_X4_75 (preRV (q := (RX4, TX4, 13)) hN hP [0, 2] rfl 0 3 rfl rfl) rfl ⟨Nat.le_of_ble_eq_true rfl, Nat.le_of_ble_eq_true rfl⟩ hl.1 (Nat.le_of_ble_eq_true rfl) (g_182 (v := 75) bX4_worthAmong rfl) ⟨Nat.le_of_ble_eq_true rfl, Nat.le_of_ble_eq_true rfl⟩) (fun r_12 h_13 => ?_)
        subst h_13
        refine lv_imul hx hb (g_104 bX4_worthAmong rfl) ?_
        refine lv_iadd hx hb (g_96 bX4_worthAmong rfl) ?_
        refine lv_istore_n (lv' := [(2, .int (xM_5 + (((T_wo tA) j_4) * (mkn tA j_4 iS)))), (3, .int (nI j_4)), (0, .ref qt), (1, .int iS)]) hx hb (g_61 bX4_worthAmong rfl) rfl hl (by decide +kernel) rfl (fun ls => ?_)
        clear hl
        intro hl
        refine lv_iinc (v := nI (j_4 + 1)) (lv' := [(3, .int (nI (j_4 + 1))), (2, .int (xM_5 + (((T_wo tA) j_4) * (mkn tA j_4 iS)))), (0, .ref qt), (1, .int iS)]) hx hb dX4_worthAmong_28 hl (k := 1) rfl (nI_1 _) (by decide +kernel) rfl (fun ls => ?_)
        clear hl
        intro hl
        refine lv_goto (tgt := 4) hx hb dX4_worthAmong_31 (by decide +kernel) ?_
        exact ih_3 (j_4 + 1) (xM_5 + (((T_wo tA) j_4) * (mkn tA j_4 iS))) (by omega) (by omega) (by rw [hxM_7]; rfl) _ (lv_sub hl [0, 1, 2, 3] rfl)
  exact lp_1 ((8 - 0) + 1) 0 0 (Nat.lt_succ_self _) (Nat.zero_le _) rfl ls (lv_sub hl [0, 1, 2, 3] rfl)
set_option maxHeartbeats 4000000 in
set_option maxRecDepth 100000 in
theorem c_X4_worthNow (l : Launch) (G : va_G) (cy : Nat → ClassId) (qt : Nat) (tA : TA) (qtw : Nat) (qtn : Nat) (qtg : Nat) (qta : Nat) (qtr : Nat) (qtm : Nat) (qtt : Nat) (qts : Nat)  (hB : T_nb tA ≤ 8) (hPp : T_np tA ≤ 8) : MR l yX4_worthNow cX4_worthNow 1 (some .int) 4 G cy [zzO qt 3 [.int (nI (T_nb tA)), .int (nI (T_np tA)), .int (wb (T_wh tA)), .int (wb (T_gn tA)), .int (T_sd tA), .ref qtw, .ref qtn, .ref qtg, .ref qta, .ref qtr, .ref qtm, .ref qtt, .ref qts], zzI cy qtw 8 (T_wo tA), zzI cy qts 64 (shF (T_kn tA))] [.ref qt] (vp_Si (fun r => (r = (zval tA)))) := by
  refine enR RX4 (by decide +kernel) rfl (Nat.le_of_ble_eq_true rfl) (fun p e s m below meth c ls hx hb hml hown hts hr hlocks hP hN hl => ?_)
  have hK := hN.1
  replace hl : lv_has ls 1 [(0, .ref qt)] := hl
  refine lv_aload_n hx hb (g_42 bX4_worthNow rfl) rfl (lv_at hl 0 rfl) ?_
  refine lv_aload_n hx hb (g_42 bX4_worthNow rfl) rfl (lv_at hl 0 rfl) ?_
  refine kRi (rV (As := []) (rest := [.ref qt]) (b := qt) ⟨hx, hb, hml, hown, hts⟩ (c_X4_setThere l G cy qt tA qtw qtn qtg qta qtr qtm qtt qts hPp) L_X4_78 (preRV (q := (RX4, TX4, 13)) hN hP [0] rfl 0 3 rfl rfl) rfl ⟨Nat.le_of_ble_eq_true rfl, Nat.le_of_ble_eq_true rfl⟩ hl.1 (Nat.le_of_ble_eq_true rfl) (g_182 (v := 78) bX4_worthNow rfl) ⟨Nat.le_of_ble_eq_true rfl, Nat.le_of_ble_eq_true rfl⟩) (fun r_1 h_2 => ?_)
  subst h_2
  refine kRi (rV (As := [.int (zthere tA)]) (rest := []) (b := qt) ⟨hx, hb, hml, hown, hts⟩ (c_X4_worthAmong l G cy qt tA qtw qtn qtg qta qtr qtm qtt qts (zthere tA) hB hPp) L_X4_82 (preRV (q := (RX4, TX4, 13)) hN hP (trueIx 0 [true, true, true]) (sel_fm rfl rfl) 0 3 rfl rfl) rfl ⟨Nat.le_of_ble_eq_true rfl, Nat.le_of_ble_eq_true rfl⟩ hl.1 (Nat.le_of_ble_eq_true rfl) (g_182 (v := 82) bX4_worthNow rfl) ⟨Nat.le_of_ble_eq_true rfl, Nat.le_of_ble_eq_true rfl⟩) (fun r_3 h_4 => ?_)
  subst h_4
  exact endR hx hb hr hlocks rfl (by rfl) (g_172 bX4_worthNow rfl)
set_option maxHeartbeats 4000000 in
set_option maxRecDepth 100000 in
theorem c_X4_booksKnown (l : Launch) (G : va_G) (cy : Nat → ClassId) (qt : Nat) (tA : TA) (qtw : Nat) (qtn : Nat) (qtg : Nat) (qta : Nat) (qtr : Nat) (qtm : Nat) (qtt : Nat) (qts : Nat) (iS : Int32) (iV : Int32)  (hB : T_nb tA ≤ 8) (hPp : T_np tA ≤ 8) : MR l yX4_booksKnown cX4_booksKnown 5 (some .int) 3 G cy [zzO qt 3 [.int (nI (T_nb tA)), .int (nI (T_np tA)), .int (wb (T_wh tA)), .int (wb (T_gn tA)), .int (T_sd tA), .ref qtw, .ref qtn, .ref qtg, .ref qta, .ref qtr, .ref qtm, .ref qtt, .ref qts], zzI cy qts 64 (shF (T_kn tA))] [.ref qt, .int iS, .int iV] (vp_Si (fun r => (r = (bkn tA iS iV)))) := by
  refine enR RX4 (by decide +kernel) rfl (Nat.le_of_ble_eq_true rfl) (fun p e s m below meth c ls hx hb hml hown hts hr hlocks hP hN hl => ?_)
  have hK := hN.1
  replace hl : lv_has ls 5 [(0, .ref qt), (1, .int iS), (2, .int iV)] := hl
  refine lv_iconst (v := 0) hx hb (g_3 bX4_booksKnown rfl) (by decide +kernel) ?_
  refine lv_istore_n (lv' := [(3, .int 0), (0, .ref qt), (1, .int iS), (2, .int iV)]) hx hb (g_62 bX4_booksKnown rfl) rfl hl (by decide +kernel) rfl (fun ls => ?_)
  clear hl
  intro hl
  refine lv_iconst (v := 0) hx hb (g_3 bX4_booksKnown rfl) (by decide +kernel) ?_
  refine lv_istore (lv' := [(4, .int 0), (3, .int 0), (0, .ref qt), (1, .int iS), (2, .int iV)]) hx hb (g_54 (v := 4) bX4_booksKnown rfl) hl (by decide +kernel) rfl (fun ls => ?_)
  clear hl
  intro hl
  have lp_1 : ∀ (n_2 : Nat) (j_4 : Nat) (xM_5 : Int32), 8 - j_4 < n_2 → j_4 ≤ T_nb tA → xM_5 = orF (fun b => decide (iV ≤ mkn tA b iS)) j_4 → ∀ (ls : Array Slot), lv_has ls 5 [(4, .int (nI j_4)), (3, .int xM_5), (0, .ref qt), (1, .int iS), (2, .int iV)] → W p l e (Rm 3 0 0) s m (List.toArray (α := Value) [.ref qt, .int iS, .int iV]) below meth c s.heap [] 0 0 (MQ below (vp_Si (fun r => (r = (bkn tA iS iV)))) (List.toArray (α := Value) [.ref qt, .int iS, .int iV]) s 0 0 (fun _ => False)) (F0 m 5 ls []) := by
    intro n_2
    induction n_2 with
    | zero => intro j_4 xM_5 hm9; exact absurd hm9 (Nat.not_lt_zero _)
    | succ n_2 ih_3 =>
      intro j_4 xM_5 hm_8 hj_6 hxM_7 ls hl
      refine lv_iload hx hb (g_21 (v := 4) bX4_booksKnown rfl) (lv_at hl 0 rfl) ?_
      refine lv_aload_n hx hb (g_42 bX4_booksKnown rfl) rfl (lv_at hl 2 rfl) ?_
      refine va_get (D := G) (ci := 3) (v := .int (nI (T_nb tA))) (C := RX4) (T := TX4) (N := 13) hx hb hts iX_X4 hown hK hP 0 rfl rfl 0 (by decide +kernel) (hts _ m_t29) (fun _ h9 => h9) rfl (g_180 (v := 40) bX4_booksKnown rfl) ?_
      refine lv_icmp_ge (tgt := 38) hx hb dX4_booksKnown_11 (by decide +kernel) (fun c_9 => ?_) (fun c_9 => ?_)
      · have hlt_10 : j_4 = T_nb tA := Nat.le_antisymm (by omega) (lp_ge rfl rfl (by omega) (by omega) c_9)
        refine lv_iload_n hx hb (g_29 bX4_booksKnown rfl) rfl (lv_at hl 1 rfl) ?_
        exact endR hx hb hr hlocks rfl (by rw [hxM_7, hlt_10]; rfl) (g_172 bX4_booksKnown rfl)
      · have hlt_11 : j_4 < T_nb tA := lp_lt rfl rfl (by omega) (by omega) c_9
        refine lv_aload_n hx hb (g_42 bX4_booksKnown rfl) rfl (lv_at hl 2 rfl) ?_
        refine lv_iload hx hb (g_21 (v := 4) bX4_booksKnown rfl) (lv_at hl 0 rfl) ?_
        refine lv_iload_n hx hb (g_27 bX4_booksKnown rfl) rfl (lv_at hl 3 rfl) ?_
        refine kRi (rV (As := [.int (nI j_4), .int iS]) (rest := []) (b := qt) ⟨hx, hb, hml, hown, hts⟩ (c_X4_mostKnown l G cy qt tA qtw qtn qtg qta qtr qtm qtt qts j_4 iS hPp (by omega)) L_X4_75 (preRV (q := (RX4, TX4, 13)) hN hP [0, 1] rfl 0 3 rfl rfl) rfl ⟨Nat.le_of_ble_eq_true rfl, Nat.le_of_ble_eq_true rfl⟩ hl.1 (Nat.le_of_ble_eq_true rfl) (g_182 (v := 75) bX4_booksKnown rfl) ⟨Nat.le_of_ble_eq_true rfl, Nat.le_of_ble_eq_true rfl⟩) (fun r_12 h_13 => ?_)
        subst h_13
        refine lv_iload_n hx hb (g_28 bX4_booksKnown rfl) rfl (lv_at hl 4 rfl) ?_
        refine lv_icmp_lt (tgt := 32) hx hb dX4_booksKnown_22 (by decide +kernel) (fun c_14 => ?_) (fun c_14 => ?_)
        · refine lv_iinc (v := nI (j_4 + 1)) (lv' := [(4, .int (nI (j_4 + 1))), (3, .int xM_5), (0, .ref qt), (1, .int iS), (2, .int iV)]) hx hb dX4_booksKnown_32 hl (k := 0) rfl (nI_1 _) (by decide +kernel) rfl (fun ls => ?_)
          clear hl
          intro hl
          refine lv_goto (tgt := 5) hx hb dX4_booksKnown_35 (by decide +kernel) ?_
          exact ih_3 (j_4 + 1) xM_5 (by omega) (by omega) (by rw [hxM_7]; exact (if_neg (by simp only [decide_eq_true_eq]; exact Int32.not_le.mpr c_14)).symm) _ (lv_sub hl [0, 1, 2, 3, 4] rfl)
        · refine lv_iload_n hx hb (g_29 bX4_booksKnown rfl) rfl (lv_at hl 1 rfl) ?_
          refine lv_iconst (v := 1) hx hb (g_4 bX4_booksKnown rfl) (by decide +kernel) ?_
          refine lv_iload hx hb (g_21 (v := 4) bX4_booksKnown rfl) (lv_at hl 0 rfl) ?_
          refine lv_ishl hx hb (g_120 bX4_booksKnown rfl) ?_
          refine lv_ior hx hb (g_128 bX4_booksKnown rfl) ?_
          refine lv_istore_n (lv' := [(3, .int (xM_5 ||| (1 <<< ((nI j_4) &&& 31)))), (4, .int (nI j_4)), (0, .ref qt), (1, .int iS), (2, .int iV)]) hx hb (g_62 bX4_booksKnown rfl) rfl hl (by decide +kernel) rfl (fun ls => ?_)
          clear hl
          intro hl
          refine lv_iinc (v := nI (j_4 + 1)) (lv' := [(4, .int (nI (j_4 + 1))), (3, .int (xM_5 ||| (1 <<< ((nI j_4) &&& 31)))), (0, .ref qt), (1, .int iS), (2, .int iV)]) hx hb dX4_booksKnown_32 hl (k := 1) rfl (nI_1 _) (by decide +kernel) rfl (fun ls => ?_)
          clear hl
          intro hl
          refine lv_goto (tgt := 5) hx hb dX4_booksKnown_35 (by decide +kernel) ?_
          exact ih_3 (j_4 + 1) (xM_5 ||| (1 <<< ((nI j_4) &&& 31))) (by omega) (by omega) (by rw [hxM_7]; exact (if_pos (by simp only [decide_eq_true_eq]; exact Int32.not_lt.mp c_14)).symm) _ (lv_sub hl [0, 1, 2, 3, 4] rfl)
  exact lp_1 ((8 - 0) + 1) 0 0 (Nat.lt_succ_self _) (Nat.zero_le _) rfl ls (lv_sub hl [0, 1, 2, 3, 4] rfl)
set_option maxHeartbeats 4000000 in
set_option maxRecDepth 100000 in
theorem c_X4_groundOf (l : Launch) (G : va_G) (cy : Nat → ClassId) (qt : Nat) (tA : TA) (qtw : Nat) (qtn : Nat) (qtg : Nat) (qta : Nat) (qtr : Nat) (qtm : Nat) (qtt : Nat) (qts : Nat) (kI : Nat) (kB : Nat)  (hI : kI < 8) (hJ : kB < 8) : MR l yX4_groundOf cX4_groundOf 5 (some .int) 1 G cy [zzO qt 3 [.int (nI (T_nb tA)), .int (nI (T_np tA)), .int (wb (T_wh tA)), .int (wb (T_gn tA)), .int (T_sd tA), .ref qtw, .ref qtn, .ref qtg, .ref qta, .ref qtr, .ref qtm, .ref qtt, .ref qts], zzI cy qtn 8 (T_ne tA), zzI cy qts 64 (shF (T_kn tA))] [.ref qt, .int (nI kI), .int (nI kB)] (vp_Si (fun r => (r = (zgd tA kI kB)))) := by
  refine enR RX4 (by decide +kernel) rfl (Nat.le_of_ble_eq_true rfl) (fun p e s m below meth c ls hx hb hml hown hts hr hlocks hP hN hl => ?_)
  have hK := hN.1
  replace hl : lv_has ls 5 [(0, .ref qt), (1, .int (nI kI)), (2, .int (nI kB))] := hl
  refine lv_sipush (v := 1000) hx hb dX4_groundOf_0 (by decide +kernel) ?_
  refine lv_istore_n (lv' := [(3, .int 1000), (0, .ref qt), (1, .int (nI kI)), (2, .int (nI kB))]) hx hb (g_62 bX4_groundOf rfl) rfl hl (by decide +kernel) rfl (fun ls => ?_)
  clear hl
  intro hl
  refine lv_iconst (v := 0) hx hb (g_3 bX4_groundOf rfl) (by decide +kernel) ?_
  refine lv_istore (lv' := [(4, .int 0), (3, .int 1000), (0, .ref qt), (1, .int (nI kI)), (2, .int (nI kB))]) hx hb (g_54 (v := 4) bX4_groundOf rfl) hl (by decide +kernel) rfl (fun ls => ?_)
  clear hl
  intro hl
  have lp_1 : ∀ (n_2 : Nat) (j_4 : Nat) (xM_5 : Int32), 8 - j_4 < n_2 → j_4 ≤ kB → xM_5 = gdF (T_ne tA kB) (T_kn tA kI) j_4 → ∀ (ls : Array Slot), lv_has ls 5 [(4, .int (nI j_4)), (3, .int xM_5), (0, .ref qt), (1, .int (nI kI)), (2, .int (nI kB))] → W p l e (Rm 1 0 0) s m (List.toArray (α := Value) [.ref qt, .int (nI kI), .int (nI kB)]) below meth c s.heap [] 0 0 (MQ below (vp_Si (fun r => (r = (zgd tA kI kB)))) (List.toArray (α := Value) [.ref qt, .int (nI kI), .int (nI kB)]) s 0 0 (fun _ => False)) (F0 m 7 ls []) := by
    intro n_2
    induction n_2 with
    | zero => intro j_4 xM_5 hm9; exact absurd hm9 (Nat.not_lt_zero _)
    | succ n_2 ih_3 =>
      intro j_4 xM_5 hm_8 hj_6 hxM_7 ls hl
      refine lv_iload hx hb (g_21 (v := 4) bX4_groundOf rfl) (lv_at hl 0 rfl) ?_
      refine lv_iload_n hx hb (g_28 bX4_groundOf rfl) rfl (lv_at hl 4 rfl) ?_
      refine lv_icmp_ge (tgt := 62) hx hb dX4_groundOf_10 (by decide +kernel) (fun c_9 => ?_) (fun c_9 => ?_)
      · have hlt_10 : j_4 = kB := Nat.le_antisymm (by omega) (lp_ge rfl rfl (by omega) (by omega) c_9)
        refine lv_iload_n hx hb (g_29 bX4_groundOf rfl) rfl (lv_at hl 1 rfl) ?_
        exact endR hx hb hr hlocks rfl (by rw [hxM_7, hlt_10]; rfl) (g_172 bX4_groundOf rfl)
      · have hlt_11 : j_4 < kB := lp_lt rfl rfl (by omega) (by omega) c_9
        refine lv_aload_n hx hb (g_42 bX4_groundOf rfl) rfl (lv_at hl 2 rfl) ?_
        refine va_get (D := G) (ci := 3) (v := .ref qtn) (C := RX4) (T := TX4) (N := 13) hx hb hts iX_X4 hown hK hP 0 rfl rfl 6 (by decide +kernel) (hts _ m_t50) (fun _ h9 => h9) rfl (g_180 (v := 19) bX4_groundOf rfl) ?_
        refine lv_iload_n hx hb (g_28 bX4_groundOf rfl) rfl (lv_at hl 4 rfl) ?_
        refine va_iald hx hb hK hP 1 0 rfl rfl (in8 (by omega)) (g_46 bX4_groundOf rfl) ?_
        refine lv_seti (v := (T_ne tA) kB) (congrArg (T_ne tA) (cl8 (by omega))) ?_
        refine lv_iload hx hb (g_21 (v := 4) bX4_groundOf rfl) (lv_at hl 0 rfl) ?_
        refine lv_ishr hx hb (g_122 bX4_groundOf rfl) ?_
        refine lv_iconst (v := 1) hx hb (g_4 bX4_groundOf rfl) (by decide +kernel) ?_
        refine lv_iand hx hb (g_126 bX4_groundOf rfl) ?_
        refine lv_if_eq (tgt := 56) hx hb dX4_groundOf_24 (by decide +kernel) (fun c_12 => ?_) (fun c_12 => ?_)
        · refine lv_iinc (v := nI (j_4 + 1)) (lv' := [(4, .int (nI (j_4 + 1))), (3, .int xM_5), (0, .ref qt), (1, .int (nI kI)), (2, .int (nI kB))]) hx hb dX4_groundOf_56 hl (k := 0) rfl (nI_1 _) (by decide +kernel) rfl (fun ls => ?_)
          clear hl
          intro hl
          refine lv_goto (tgt := 7) hx hb dX4_groundOf_59 (by decide +kernel) ?_
          exact ih_3 (j_4 + 1) xM_5 (by omega) (by omega) (by rw [hxM_7]; exact (if_neg (fun q => absurd c_12 (by have := q.1; unfold bitb at this; exact of_decide_eq_true this))).symm) _ (lv_sub hl [0, 1, 2, 3, 4] rfl)
        · refine lv_aload_n hx hb (g_42 bX4_groundOf rfl) rfl (lv_at hl 2 rfl) ?_
          refine va_get (D := G) (ci := 3) (v := .ref qts) (C := RX4) (T := TX4) (N := 13) hx hb hts iX_X4 hown hK hP 0 rfl rfl 12 (by decide +kernel) (hts _ m_t64) (fun _ h9 => h9) rfl (g_180 (v := 37) bX4_groundOf rfl) ?_
          refine lv_iload_n hx hb (g_27 bX4_groundOf rfl) rfl (lv_at hl 3 rfl) ?_
          refine lv_bipush (v := 8) hx hb dX4_groundOf_32 (by decide +kernel) ?_
          refine lv_imul hx hb (g_104 bX4_groundOf rfl) ?_
          refine lv_iload hx hb (g_21 (v := 4) bX4_groundOf rfl) (lv_at hl 0 rfl) ?_
          refine lv_iadd hx hb (g_96 bX4_groundOf rfl) ?_
          refine va_iald hx hb hK hP 2 0 rfl rfl (in64 (by omega) (by omega)) (g_46 bX4_groundOf rfl) ?_
          refine lv_seti (v := (T_kn tA) kI j_4) ((congrArg (shF (T_kn tA)) (cl64 (by omega) (by omega))).trans (shF_get _ (by omega))) ?_
          refine lv_iload_n hx hb (g_29 bX4_groundOf rfl) rfl (lv_at hl 1 rfl) ?_
          refine lv_icmp_ge (tgt := 56) hx hb dX4_groundOf_40 (by decide +kernel) (fun c_13 => ?_) (fun c_13 => ?_)
          · refine lv_iinc (v := nI (j_4 + 1)) (lv' := [(4, .int (nI (j_4 + 1))), (3, .int xM_5), (0, .ref qt), (1, .int (nI kI)), (2, .int (nI kB))]) hx hb dX4_groundOf_56 hl (k := 0) rfl (nI_1 _) (by decide +kernel) rfl (fun ls => ?_)
            clear hl
            intro hl
            refine lv_goto (tgt := 7) hx hb dX4_groundOf_59 (by decide +kernel) ?_
            exact ih_3 (j_4 + 1) xM_5 (by omega) (by omega) (by rw [hxM_7] at c_13; rw [hxM_7]; exact (if_neg (fun q => Int32.not_lt.mpr c_13 q.2)).symm) _ (lv_sub hl [0, 1, 2, 3, 4] rfl)
          · refine lv_aload_n hx hb (g_42 bX4_groundOf rfl) rfl (lv_at hl 2 rfl) ?_
            refine va_get (D := G) (ci := 3) (v := .ref qts) (C := RX4) (T := TX4) (N := 13) hx hb hts iX_X4 hown hK hP 0 rfl rfl 12 (by decide +kernel) (hts _ m_t64) (fun _ h9 => h9) rfl (g_180 (v := 37) bX4_groundOf rfl) ?_
            refine lv_iload_n hx hb (g_27 bX4_groundOf rfl) rfl (lv_at hl 3 rfl) ?_
            refine lv_bipush (v := 8) hx hb dX4_groundOf_48 (by decide +kernel) ?_
            refine lv_imul hx hb (g_104 bX4_groundOf rfl) ?_
            refine lv_iload hx hb (g_21 (v := 4) bX4_groundOf rfl) (lv_at hl 0 rfl) ?_
            refine lv_iadd hx hb (g_96 bX4_groundOf rfl) ?_
            refine va_iald hx hb hK hP 2 0 rfl rfl (in64 (by omega) (by omega)) (g_46 bX4_groundOf rfl) ?_
            refine lv_seti (v := (T_kn tA) kI j_4) ((congrArg (shF (T_kn tA)) (cl64 (by omega) (by omega))).trans (shF_get _ (by omega))) ?_
            refine lv_istore_n (lv' := [(3, .int ((T_kn tA) kI j_4)), (4, .int (nI j_4)), (0, .ref qt), (1, .int (nI kI)), (2, .int (nI kB))]) hx hb (g_62 bX4_groundOf rfl) rfl hl (by decide +kernel) rfl (fun ls => ?_)
            clear hl
            intro hl
            refine lv_iinc (v := nI (j_4 + 1)) (lv' := [(4, .int (nI (j_4 + 1))), (3, .int ((T_kn tA) kI j_4)), (0, .ref qt), (1, .int (nI kI)), (2, .int (nI kB))]) hx hb dX4_groundOf_56 hl (k := 1) rfl (nI_1 _) (by decide +kernel) rfl (fun ls => ?_)
            clear hl
            intro hl
            refine lv_goto (tgt := 7) hx hb dX4_groundOf_59 (by decide +kernel) ?_
            exact ih_3 (j_4 + 1) ((T_kn tA) kI j_4) (by omega) (by omega) (by rw [hxM_7] at c_13; exact (if_pos ⟨by unfold bitb; exact decide_eq_true c_12, Int32.not_le.mp c_13⟩).symm) _ (lv_sub hl [0, 1, 2, 3, 4] rfl)
  exact lp_1 ((8 - 0) + 1) 0 1000 (Nat.lt_succ_self _) (Nat.zero_le _) rfl ls (lv_sub hl [0, 1, 2, 3, 4] rfl)
set_option maxHeartbeats 4000000 in
set_option maxRecDepth 100000 in
theorem c_X4_wouldKnow (l : Launch) (G : va_G) (cy : Nat → ClassId) (qt : Nat) (tA : TA) (qtw : Nat) (qtn : Nat) (qtg : Nat) (qta : Nat) (qtr : Nat) (qtm : Nat) (qtt : Nat) (qts : Nat) (kI : Nat) (kB : Nat)  (hI : kI < 8) (hJ : kB < 8) : MR l yX4_wouldKnow cX4_wouldKnow 4 (some .int) 2 G cy [zzO qt 3 [.int (nI (T_nb tA)), .int (nI (T_np tA)), .int (wb (T_wh tA)), .int (wb (T_gn tA)), .int (T_sd tA), .ref qtw, .ref qtn, .ref qtg, .ref qta, .ref qtr, .ref qtm, .ref qtt, .ref qts], zzI cy qtn 8 (T_ne tA), zzI cy qtg 8 (T_go tA), zzI cy qtr 8 (T_re tA), zzI cy qts 64 (shF (T_kn tA))] [.ref qt, .int (nI kI), .int (nI kB)] (vp_Si (fun r => (r = (zwk tA kI kB)))) := by
  refine enR RX4 (by decide +kernel) rfl (Nat.le_of_ble_eq_true rfl) (fun p e s m below meth c ls hx hb hml hown hts hr hlocks hP hN hl => ?_)
  have hK := hN.1
  replace hl : lv_has ls 4 [(0, .ref qt), (1, .int (nI kI)), (2, .int (nI kB))] := hl
  refine lv_aload_n hx hb (g_42 bX4_wouldKnow rfl) rfl (lv_at hl 0 rfl) ?_
  refine va_get (D := G) (ci := 3) (v := .ref qtg) (C := RX4) (T := TX4) (N := 13) hx hb hts iX_X4 hown hK hP 0 rfl rfl 7 (by decide +kernel) (hts _ m_t53) (fun _ h9 => h9) rfl (g_180 (v := 22) bX4_wouldKnow rfl) ?_
  refine lv_iload_n hx hb (g_28 bX4_wouldKnow rfl) rfl (lv_at hl 2 rfl) ?_
  refine va_iald hx hb hK hP 2 0 rfl rfl (in8 (by omega)) (g_46 bX4_wouldKnow rfl) ?_
  refine lv_seti (v := (T_go tA) kB) (congrArg (T_go tA) (cl8 (by omega))) ?_
  refine lv_aload_n hx hb (g_42 bX4_wouldKnow rfl) rfl (lv_at hl 0 rfl) ?_
  refine va_get (D := G) (ci := 3) (v := .ref qtr) (C := RX4) (T := TX4) (N := 13) hx hb hts iX_X4 hown hK hP 0 rfl rfl 9 (by decide +kernel) (hts _ m_t58) (fun _ h9 => h9) rfl (g_180 (v := 28) bX4_wouldKnow rfl) ?_
  refine lv_iload_n hx hb (g_27 bX4_wouldKnow rfl) rfl (lv_at hl 1 rfl) ?_
  refine va_iald hx hb hK hP 3 0 rfl rfl (in8 (by omega)) (g_46 bX4_wouldKnow rfl) ?_
  refine lv_seti (v := (T_re tA) kI) (congrArg (T_re tA) (cl8 (by omega))) ?_
  refine lv_imul hx hb (g_104 bX4_wouldKnow rfl) ?_
  refine lv_bipush (v := 10) hx hb dX4_wouldKnow_13 (by decide +kernel) ?_
  refine lv_idiv hx hb (g_108 bX4_wouldKnow rfl) (by decide +kernel) ?_
  refine lv_aload_n hx hb (g_42 bX4_wouldKnow rfl) rfl (lv_at hl 0 rfl) ?_
  refine lv_iload_n hx hb (g_27 bX4_wouldKnow rfl) rfl (lv_at hl 1 rfl) ?_
  refine lv_iload_n hx hb (g_28 bX4_wouldKnow rfl) rfl (lv_at hl 2 rfl) ?_
  refine kRi (rV (As := [.int (nI kI), .int (nI kB)]) (rest := [.int ((((T_go tA) kB) * ((T_re tA) kI)) / 10)]) (b := qt) ⟨hx, hb, hml, hown, hts⟩ (c_X4_groundOf l G cy qt tA qtw qtn qtg qta qtr qtm qtt qts kI kB hI hJ) L_X4_85 (preRV (q := (RX4, TX4, 13)) hN hP (trueIx 0 [true, true, false, false, true]) (sel_fm rfl rfl) 0 3 rfl rfl) rfl ⟨Nat.le_of_ble_eq_true rfl, Nat.le_of_ble_eq_true rfl⟩ hl.1 (Nat.le_of_ble_eq_true rfl) (g_182 (v := 85) bX4_wouldKnow rfl) ⟨Nat.le_of_ble_eq_true rfl, Nat.le_of_ble_eq_true rfl⟩) (fun r_1 h_2 => ?_)
  subst h_2
  refine kRi (rS (As := [.int ((((T_go tA) kB) * ((T_re tA) kI)) / 10), .int (zgd tA kI kB)]) (rest := []) ⟨hx, hb, hml, hown, hts⟩ (c_X4_grasped l G cy ((((T_go tA) kB) * ((T_re tA) kI)) / 10) (zgd tA kI kB)) L_X4_88 (preRS hN hP [] rfl) rfl ⟨Nat.le_of_ble_eq_true rfl, Nat.le_of_ble_eq_true rfl⟩ hl.1 (Nat.le_of_ble_eq_true rfl) (g_184 (v := 88) bX4_wouldKnow rfl) ⟨Nat.le_of_ble_eq_true rfl, Nat.le_of_ble_eq_true rfl⟩) (fun r_3 h_4 => ?_)
  subst h_4
  refine lv_istore_n (lv' := [(3, .int (zgr ((((T_go tA) kB) * ((T_re tA) kI)) / 10) (zgd tA kI kB))), (0, .ref qt), (1, .int (nI kI)), (2, .int (nI kB))]) hx hb (g_62 bX4_wouldKnow rfl) rfl hl (by decide +kernel) rfl (fun ls => ?_)
  clear hl
  intro hl
  refine lv_iload_n hx hb (g_29 bX4_wouldKnow rfl) rfl (lv_at hl 0 rfl) ?_
  refine lv_aload_n hx hb (g_42 bX4_wouldKnow rfl) rfl (lv_at hl 1 rfl) ?_
  refine lv_iload_n hx hb (g_27 bX4_wouldKnow rfl) rfl (lv_at hl 2 rfl) ?_
  refine lv_iload_n hx hb (g_28 bX4_wouldKnow rfl) rfl (lv_at hl 3 rfl) ?_
  refine kRi (rV (As := [.int (nI kI), .int (nI kB)]) (rest := [.int (zgr ((((T_go tA) kB) * ((T_re tA) kI)) / 10) (zgd tA kI kB))]) (b := qt) ⟨hx, hb, hml, hown, hts⟩ (c_X4_knows l G cy qt tA qtw qtn qtg qta qtr qtm qtt qts kI kB hI hJ) L_X4_66 (preRV (q := (RX4, TX4, 13)) hN hP [0, 4] rfl 0 3 rfl rfl) rfl ⟨Nat.le_of_ble_eq_true rfl, Nat.le_of_ble_eq_true rfl⟩ hl.1 (Nat.le_of_ble_eq_true rfl) (g_182 (v := 66) bX4_wouldKnow rfl) ⟨Nat.le_of_ble_eq_true rfl, Nat.le_of_ble_eq_true rfl⟩) (fun r_5 h_6 => ?_)
  subst h_6
  refine va_mmax hx hb (hml.trans hl.1.symm) hown (hts _ m_max1) (hts _ m_max2) (hts _ m_t9) (hts _ m_max3) (Nat.le_of_ble_eq_true rfl) (Nat.le_of_ble_eq_true rfl) (Nat.le_of_ble_eq_true rfl) (Nat.le_of_ble_eq_true rfl) (g_184 (v := 70) bX4_wouldKnow rfl) ?_
  refine lv_seti (v := mx (zgr ((((T_go tA) kB) * ((T_re tA) kI)) / 10) (zgd tA kI kB)) (T_kn tA kI kB)) rfl ?_
  exact endR hx hb hr hlocks rfl (by rfl) (g_172 bX4_wouldKnow rfl)
set_option maxHeartbeats 4000000 in
set_option maxRecDepth 100000 in
theorem c_X4_gainByTelling (l : Launch) (G : va_G) (cy : Nat → ClassId) (qt : Nat) (tA : TA) (qtw : Nat) (qtn : Nat) (qtg : Nat) (qta : Nat) (qtr : Nat) (qtm : Nat) (qtt : Nat) (qts : Nat) (kI : Nat) (kO : Nat) (kB : Nat)  (hI : kI < 8) (hO : kO < 8) (hJ : kB < 8) : MR l yX4_gainByTelling cX4_gainByTelling 4 (some .int) 2 G cy [zzO qt 3 [.int (nI (T_nb tA)), .int (nI (T_np tA)), .int (wb (T_wh tA)), .int (wb (T_gn tA)), .int (T_sd tA), .ref qtw, .ref qtn, .ref qtg, .ref qta, .ref qtr, .ref qtm, .ref qtt, .ref qts], zzI cy qtt 8 (T_te tA), zzI cy qts 64 (shF (T_kn tA))] [.ref qt, .int (nI kI), .int (nI kO), .int (nI kB)] (vp_Si (fun r => (r = (zgt tA kI kO kB)))) := by
  refine enR RX4 (by decide +kernel) rfl (Nat.le_of_ble_eq_true rfl) (fun p e s m below meth c ls hx hb hml hown hts hr hlocks hP hN hl => ?_)
  have hK := hN.1
  replace hl : lv_has ls 4 [(0, .ref qt), (1, .int (nI kI)), (2, .int (nI kO)), (3, .int (nI kB))] := hl
  refine lv_iconst (v := 0) hx hb (g_3 bX4_gainByTelling rfl) (by decide +kernel) ?_
  refine lv_aload_n hx hb (g_42 bX4_gainByTelling rfl) rfl (lv_at hl 0 rfl) ?_
  refine lv_iload_n hx hb (g_27 bX4_gainByTelling rfl) rfl (lv_at hl 1 rfl) ?_
  refine lv_iload_n hx hb (g_29 bX4_gainByTelling rfl) rfl (lv_at hl 3 rfl) ?_
  refine kRi (rV (As := [.int (nI kI), .int (nI kB)]) (rest := [.int 0]) (b := qt) ⟨hx, hb, hml, hown, hts⟩ (c_X4_knows l G cy qt tA qtw qtn qtg qta qtr qtm qtt qts kI kB hI hJ) L_X4_66 (preRV (q := (RX4, TX4, 13)) hN hP [0, 2] rfl 0 3 rfl rfl) rfl ⟨Nat.le_of_ble_eq_true rfl, Nat.le_of_ble_eq_true rfl⟩ hl.1 (Nat.le_of_ble_eq_true rfl) (g_182 (v := 66) bX4_gainByTelling rfl) ⟨Nat.le_of_ble_eq_true rfl, Nat.le_of_ble_eq_true rfl⟩) (fun r_1 h_2 => ?_)
  subst h_2
  refine lv_aload_n hx hb (g_42 bX4_gainByTelling rfl) rfl (lv_at hl 0 rfl) ?_
  refine va_get (D := G) (ci := 3) (v := .ref qtt) (C := RX4) (T := TX4) (N := 13) hx hb hts iX_X4 hown hK hP 0 rfl rfl 11 (by decide +kernel) (hts _ m_t62) (fun _ h9 => h9) rfl (g_180 (v := 34) bX4_gainByTelling rfl) ?_
  refine lv_iload_n hx hb (g_27 bX4_gainByTelling rfl) rfl (lv_at hl 1 rfl) ?_
  refine va_iald hx hb hK hP 1 0 rfl rfl (in8 (by omega)) (g_46 bX4_gainByTelling rfl) ?_
  refine lv_seti (v := (T_te tA) kI) (congrArg (T_te tA) (cl8 (by omega))) ?_
  refine kRi (rS (As := [.int (T_kn tA kI kB), .int ((T_te tA) kI)]) (rest := [.int 0]) ⟨hx, hb, hml, hown, hts⟩ (c_X4_afterTelling l G cy (T_kn tA kI kB) ((T_te tA) kI)) L_X4_98 (preRS hN hP [] rfl) rfl ⟨Nat.le_of_ble_eq_true rfl, Nat.le_of_ble_eq_true rfl⟩ hl.1 (Nat.le_of_ble_eq_true rfl) (g_184 (v := 98) bX4_gainByTelling rfl) ⟨Nat.le_of_ble_eq_true rfl, Nat.le_of_ble_eq_true rfl⟩) (fun r_3 h_4 => ?_)
  subst h_4
  refine lv_aload_n hx hb (g_42 bX4_gainByTelling rfl) rfl (lv_at hl 0 rfl) ?_
  refine lv_iload_n hx hb (g_28 bX4_gainByTelling rfl) rfl (lv_at hl 2 rfl) ?_
  refine lv_iload_n hx hb (g_29 bX4_gainByTelling rfl) rfl (lv_at hl 3 rfl) ?_
  refine kRi (rV (As := [.int (nI kO), .int (nI kB)]) (rest := [.int ((T_kn tA kI kB) * ((T_te tA) kI) / 10), .int 0]) (b := qt) ⟨hx, hb, hml, hown, hts⟩ (c_X4_knows l G cy qt tA qtw qtn qtg qta qtr qtm qtt qts kO kB hO hJ) L_X4_66 (preRV (q := (RX4, TX4, 13)) hN hP [0, 2] rfl 0 3 rfl rfl) rfl ⟨Nat.le_of_ble_eq_true rfl, Nat.le_of_ble_eq_true rfl⟩ hl.1 (Nat.le_of_ble_eq_true rfl) (g_182 (v := 66) bX4_gainByTelling rfl) ⟨Nat.le_of_ble_eq_true rfl, Nat.le_of_ble_eq_true rfl⟩) (fun r_5 h_6 => ?_)
  subst h_6
  refine lv_isub hx hb (g_100 bX4_gainByTelling rfl) ?_
  refine va_mmax hx hb (hml.trans hl.1.symm) hown (hts _ m_max1) (hts _ m_max2) (hts _ m_t9) (hts _ m_max3) (Nat.le_of_ble_eq_true rfl) (Nat.le_of_ble_eq_true rfl) (Nat.le_of_ble_eq_true rfl) (Nat.le_of_ble_eq_true rfl) (g_184 (v := 70) bX4_gainByTelling rfl) ?_
  refine lv_seti (v := mx 0 (((T_kn tA kI kB) * ((T_te tA) kI) / 10) - (T_kn tA kO kB))) rfl ?_
  exact endR hx hb hr hlocks rfl (by rfl) (g_172 bX4_gainByTelling rfl)
set_option maxHeartbeats 4000000 in
set_option maxRecDepth 100000 in
theorem c_X4_tellTo (l : Launch) (G : va_G) (cy : Nat → ClassId) (sz : Nat) (qt : Nat) (tA : TA) (qtw : Nat) (qtn : Nat) (qtg : Nat) (qta : Nat) (qtr : Nat) (qtm : Nat) (qtt : Nat) (qts : Nat) (kI : Nat) (kO : Nat) (kB : Nat)  (hI : kI < 8) (hO : kO < 8) (hJ : kB < 8) : MW l yX4_tellTo cX4_tellTo 4 none 3 0 0 G cy [zzO qt 3 [.int (nI (T_nb tA)), .int (nI (T_np tA)), .int (wb (T_wh tA)), .int (wb (T_gn tA)), .int (T_sd tA), .ref qtw, .ref qtn, .ref qtg, .ref qta, .ref qtr, .ref qtm, .ref qtt, .ref qts], zzI cy qtt 8 (T_te tA), zzI cy qts 64 (shF (T_kn tA))] sz [.ref qt, .int (nI kI), .int (nI kO), .int (nI kB)] (Wv G (fun u => u = [zzO qt 3 [.int (nI (T_nb (T_setkn tA (updM (T_kn tA) kO kB (T_kn tA kO kB + zgt tA kI kO kB))))), .int (nI (T_np (T_setkn tA (updM (T_kn tA) kO kB (T_kn tA kO kB + zgt tA kI kO kB))))), .int (wb (T_wh (T_setkn tA (updM (T_kn tA) kO kB (T_kn tA kO kB + zgt tA kI kO kB))))), .int (wb (T_gn (T_setkn tA (updM (T_kn tA) kO kB (T_kn tA kO kB + zgt tA kI kO kB))))), .int (T_sd (T_setkn tA (updM (T_kn tA) kO kB (T_kn tA kO kB + zgt tA kI kO kB)))), .ref qtw, .ref qtn, .ref qtg, .ref qta, .ref qtr, .ref qtm, .ref qtt, .ref qts], zzI cy qtt 8 (T_te (T_setkn tA (updM (T_kn tA) kO kB (T_kn tA kO kB + zgt tA kI kO kB)))), zzI cy qts 64 (shF (T_kn (T_setkn tA (updM (T_kn tA) kO kB (T_kn tA kO kB + zgt tA kI kO kB)))))])) := by
  refine enW RX4 (by decide +kernel) rfl (Nat.le_of_ble_eq_true rfl) (fun p e s m below meth c ls A hx hb hml hown hts hr hlocks hP hN hl hin hD hA hS => ?_)
  have hin : meth.name = _ := hin
  have hK := hN.1
  replace hl : lv_has ls 4 [(0, .ref qt), (1, .int (nI kI)), (2, .int (nI kO)), (3, .int (nI kB))] := hl
  refine lv_aload_n hx hb (g_42 bX4_tellTo rfl) rfl (lv_at hl 0 rfl) ?_
  refine lv_iload_n hx hb (g_28 bX4_tellTo rfl) rfl (lv_at hl 2 rfl) ?_
  refine lv_iload_n hx hb (g_29 bX4_tellTo rfl) rfl (lv_at hl 3 rfl) ?_
  refine lv_aload_n hx hb (g_42 bX4_tellTo rfl) rfl (lv_at hl 0 rfl) ?_
  refine lv_iload_n hx hb (g_28 bX4_tellTo rfl) rfl (lv_at hl 2 rfl) ?_
  refine lv_iload_n hx hb (g_29 bX4_tellTo rfl) rfl (lv_at hl 3 rfl) ?_
  refine kRi (rV (As := [.int (nI kO), .int (nI kB)]) (rest := [.int (nI kB), .int (nI kO), .ref qt]) (b := qt) ⟨hx, hb, hml, hown, hts⟩ (c_X4_knows l G cy qt tA qtw qtn qtg qta qtr qtm qtt qts kO kB hO hJ) L_X4_66 (preRV (q := (RX4, TX4, 13)) hN hP [0, 2] rfl 0 3 rfl rfl) rfl ⟨Nat.le_of_ble_eq_true rfl, Nat.le_of_ble_eq_true rfl⟩ hl.1 (Nat.le_of_ble_eq_true rfl) (g_182 (v := 66) bX4_tellTo rfl) ⟨Nat.le_of_ble_eq_true rfl, Nat.le_of_ble_eq_true rfl⟩) (fun r_1 h_2 => ?_)
  subst h_2
  refine lv_aload_n hx hb (g_42 bX4_tellTo rfl) rfl (lv_at hl 0 rfl) ?_
  refine lv_iload_n hx hb (g_27 bX4_tellTo rfl) rfl (lv_at hl 1 rfl) ?_
  refine lv_iload_n hx hb (g_28 bX4_tellTo rfl) rfl (lv_at hl 2 rfl) ?_
  refine lv_iload_n hx hb (g_29 bX4_tellTo rfl) rfl (lv_at hl 3 rfl) ?_
  refine kRi (rV (As := [.int (nI kI), .int (nI kO), .int (nI kB)]) (rest := [.int (T_kn tA kO kB), .int (nI kB), .int (nI kO), .ref qt]) (b := qt) ⟨hx, hb, hml, hown, hts⟩ (c_X4_gainByTelling l G cy qt tA qtw qtn qtg qta qtr qtm qtt qts kI kO kB hI hO hJ) L_X4_101 (preRV (q := (RX4, TX4, 13)) hN hP (trueIx 0 [true, true, true]) (sel_fm rfl rfl) 0 3 rfl rfl) rfl ⟨Nat.le_of_ble_eq_true rfl, Nat.le_of_ble_eq_true rfl⟩ hl.1 (Nat.le_of_ble_eq_true rfl) (g_182 (v := 101) bX4_tellTo rfl) ⟨Nat.le_of_ble_eq_true rfl, Nat.le_of_ble_eq_true rfl⟩) (fun r_3 h_4 => ?_)
  subst h_4
  refine lv_iadd hx hb (g_96 bX4_tellTo rfl) ?_
  refine cVv (As := [.int (nI kO), .int (nI kB), .int ((T_kn tA kO kB) + (zgt tA kI kO kB))]) (rest := []) (b := qt) (q := (RX4, TX4, 13)) ⟨hx, hb, hml, hown, hts⟩ (c_X4_learn l G cy (s.heap).size qt tA qtw qtn qtg qta qtr qtm qtt qts kO kB ((T_kn tA kO kB) + (zgt tA kI kO kB)) hO hJ) L_X4_94 hN hP hD hS hA [0, 2] [false, true, false] rfl (by decide +kernel) rfl 0 3 rfl rfl rfl ⟨Nat.le_of_ble_eq_true rfl, Nat.le_of_ble_eq_true rfl⟩ hl.1 (Nat.le_of_ble_eq_true rfl) (g_182 (v := 94) bX4_tellTo rfl) ⟨Nat.le_of_ble_eq_true rfl, Nat.le_of_ble_eq_true rfl⟩ (fun u_7 H locs h_6 => ?_)
  clear hP hD hS
  intro hP hD hS
  have hPD := pd_eq [zzI cy qtt 8 (T_te (T_setkn tA (updM (T_kn tA) kO kB ((T_kn tA kO kB) + (zgt tA kI kO kB))))), zzO qt 3 [.int (nI (T_nb (T_setkn tA (updM (T_kn tA) kO kB ((T_kn tA kO kB) + (zgt tA kI kO kB)))))), .int (nI (T_np (T_setkn tA (updM (T_kn tA) kO kB ((T_kn tA kO kB) + (zgt tA kI kO kB)))))), .int (wb (T_wh (T_setkn tA (updM (T_kn tA) kO kB ((T_kn tA kO kB) + (zgt tA kI kO kB)))))), .int (wb (T_gn (T_setkn tA (updM (T_kn tA) kO kB ((T_kn tA kO kB) + (zgt tA kI kO kB)))))), .int (T_sd (T_setkn tA (updM (T_kn tA) kO kB ((T_kn tA kO kB) + (zgt tA kI kO kB))))), .ref qtw, .ref qtn, .ref qtg, .ref qta, .ref qtr, .ref qtm, .ref qtt, .ref qts], zzI cy qts 64 (shF (T_kn (T_setkn tA (updM (T_kn tA) kO kB ((T_kn tA kO kB) + (zgt tA kI kO kB))))))] hP hD h_6 rfl
  clear hP hD h_6
  obtain ⟨hP, hD⟩ := hPD
  exact endVs [[false, true], [true, false, true]] hx hb hr hlocks hP hD rfl (by decide +kernel) hS rfl (g_177 bX4_tellTo rfl)
end
section
set_option maxHeartbeats 4000000 in
set_option maxRecDepth 100000 in
theorem c_X4_readBy (l : Launch) (G : va_G) (cy : Nat → ClassId) (sz : Nat) (qt : Nat) (tA : TA) (qtw : Nat) (qtn : Nat) (qtg : Nat) (qta : Nat) (qtr : Nat) (qtm : Nat) (qtt : Nat) (qts : Nat) (kI : Nat) (kB : Nat)  (hI : kI < 8) (hJ : kB < 8) : MW l yX4_readBy cX4_readBy 3 none 3 0 0 G cy [zzO qt 3 [.int (nI (T_nb tA)), .int (nI (T_np tA)), .int (wb (T_wh tA)), .int (wb (T_gn tA)), .int (T_sd tA), .ref qtw, .ref qtn, .ref qtg, .ref qta, .ref qtr, .ref qtm, .ref qtt, .ref qts], zzI cy qtw 8 (T_wo tA), zzI cy qtn 8 (T_ne tA), zzI cy qtg 8 (T_go tA), zzI cy qta 8 (T_ag tA), zzI cy qtr 8 (T_re tA), zzI cy qtm 8 (T_me tA), zzI cy qtt 8 (T_te tA), zzI cy qts 64 (shF (T_kn tA))] sz [.ref qt, .int (nI kI), .int (nI kB)] (Wv G (fun u => u = [zzO qt 3 [.int (nI (T_nb (rdT tA kI kB))), .int (nI (T_np (rdT tA kI kB))), .int (wb (T_wh (rdT tA kI kB))), .int (wb (T_gn (rdT tA kI kB))), .int (T_sd (rdT tA kI kB)), .ref qtw, .ref qtn, .ref qtg, .ref qta, .ref qtr, .ref qtm, .ref qtt, .ref qts], zzI cy qtw 8 (T_wo (rdT tA kI kB)), zzI cy qtn 8 (T_ne (rdT tA kI kB)), zzI cy qtg 8 (T_go (rdT tA kI kB)), zzI cy qta 8 (T_ag (rdT tA kI kB)), zzI cy qtr 8 (T_re (rdT tA kI kB)), zzI cy qtm 8 (T_me (rdT tA kI kB)), zzI cy qtt 8 (T_te (rdT tA kI kB)), zzI cy qts 64 (shF (T_kn (rdT tA kI kB)))])) := by
  refine enW RX4 (by decide +kernel) rfl (Nat.le_of_ble_eq_true rfl) (fun p e s m below meth c ls A hx hb hml hown hts hr hlocks hP hN hl hin hD hA hS => ?_)
  have hin : meth.name = _ := hin
  have hK := hN.1
  replace hl : lv_has ls 3 [(0, .ref qt), (1, .int (nI kI)), (2, .int (nI kB))] := hl
  refine lv_aload_n hx hb (g_42 bX4_readBy rfl) rfl (lv_at hl 0 rfl) ?_
  refine lv_iload_n hx hb (g_27 bX4_readBy rfl) rfl (lv_at hl 1 rfl) ?_
  refine lv_iload_n hx hb (g_28 bX4_readBy rfl) rfl (lv_at hl 2 rfl) ?_
  refine lv_aload_n hx hb (g_42 bX4_readBy rfl) rfl (lv_at hl 0 rfl) ?_
  refine lv_iload_n hx hb (g_27 bX4_readBy rfl) rfl (lv_at hl 1 rfl) ?_
  refine lv_iload_n hx hb (g_28 bX4_readBy rfl) rfl (lv_at hl 2 rfl) ?_
  refine kRi (rV (As := [.int (nI kI), .int (nI kB)]) (rest := [.int (nI kB), .int (nI kI), .ref qt]) (b := qt) ⟨hx, hb, hml, hown, hts⟩ (c_X4_wouldKnow l G cy qt tA qtw qtn qtg qta qtr qtm qtt qts kI kB hI hJ) L_X4_91 (preRV (q := (RX4, TX4, 13)) hN hP (trueIx 0 [true, false, true, true, false, true, false, false, true]) (sel_fm rfl rfl) 0 3 rfl rfl) rfl ⟨Nat.le_of_ble_eq_true rfl, Nat.le_of_ble_eq_true rfl⟩ hl.1 (Nat.le_of_ble_eq_true rfl) (g_182 (v := 91) bX4_readBy rfl) ⟨Nat.le_of_ble_eq_true rfl, Nat.le_of_ble_eq_true rfl⟩) (fun r_1 h_2 => ?_)
  subst h_2
  refine cVv (As := [.int (nI kI), .int (nI kB), .int (zwk tA kI kB)]) (rest := []) (b := qt) (q := (RX4, TX4, 13)) ⟨hx, hb, hml, hown, hts⟩ (c_X4_learn l G cy (s.heap).size qt tA qtw qtn qtg qta qtr qtm qtt qts kI kB (zwk tA kI kB) hI hJ) L_X4_94 hN hP hD hS hA [0, 8] [false, true, true, true, true, true, true, true, false] rfl (by decide +kernel) rfl 0 3 rfl rfl rfl ⟨Nat.le_of_ble_eq_true rfl, Nat.le_of_ble_eq_true rfl⟩ hl.1 (Nat.le_of_ble_eq_true rfl) (g_182 (v := 94) bX4_readBy rfl) ⟨Nat.le_of_ble_eq_true rfl, Nat.le_of_ble_eq_true rfl⟩ (fun u_5 H locs h_4 => ?_)
  clear hP hD hS
  intro hP hD hS
  have hPD := pd_eq [zzI cy qtw 8 (T_wo (T_setkn tA (updM (T_kn tA) kI kB (zwk tA kI kB)))), zzI cy qtn 8 (T_ne (T_setkn tA (updM (T_kn tA) kI kB (zwk tA kI kB)))), zzI cy qtg 8 (T_go (T_setkn tA (updM (T_kn tA) kI kB (zwk tA kI kB)))), zzI cy qta 8 (T_ag (T_setkn tA (updM (T_kn tA) kI kB (zwk tA kI kB)))), zzI cy qtr 8 (T_re (T_setkn tA (updM (T_kn tA) kI kB (zwk tA kI kB)))), zzI cy qtm 8 (T_me (T_setkn tA (updM (T_kn tA) kI kB (zwk tA kI kB)))), zzI cy qtt 8 (T_te (T_setkn tA (updM (T_kn tA) kI kB (zwk tA kI kB)))), zzO qt 3 [.int (nI (T_nb (T_setkn tA (updM (T_kn tA) kI kB (zwk tA kI kB))))), .int (nI (T_np (T_setkn tA (updM (T_kn tA) kI kB (zwk tA kI kB))))), .int (wb (T_wh (T_setkn tA (updM (T_kn tA) kI kB (zwk tA kI kB))))), .int (wb (T_gn (T_setkn tA (updM (T_kn tA) kI kB (zwk tA kI kB))))), .int (T_sd (T_setkn tA (updM (T_kn tA) kI kB (zwk tA kI kB)))), .ref qtw, .ref qtn, .ref qtg, .ref qta, .ref qtr, .ref qtm, .ref qtt, .ref qts], zzI cy qts 64 (shF (T_kn (T_setkn tA (updM (T_kn tA) kI kB (zwk tA kI kB)))))] hP hD h_4 rfl
  clear hP hD h_4
  obtain ⟨hP, hD⟩ := hPD
  refine lv_aload_n hx hb (g_42 bX4_readBy rfl) rfl (lv_at hl 0 rfl) ?_
  refine lv_dup hx hb (g_89 bX4_readBy rfl) rfl ?_
  refine va_get (D := G) (ci := 3) (v := .int (wb (T_wh (T_setkn tA (updM (T_kn tA) kI kB (zwk tA kI kB)))))) (C := RX4) (T := TX4) (N := 13) hx hb hts iX_X4 hown hK hP 7 rfl rfl 2 (by decide +kernel) (hts _ m_t39) (fun _ h9 => h9) rfl (g_180 (v := 46) bX4_readBy rfl) ?_
  refine lv_iconst (v := 1) hx hb (g_4 bX4_readBy rfl) (by decide +kernel) ?_
  refine lv_iload_n hx hb (g_28 bX4_readBy rfl) rfl (lv_at hl 2 rfl) ?_
  refine lv_ishl hx hb (g_120 bX4_readBy rfl) ?_
  refine lv_ior hx hb (g_128 bX4_readBy rfl) ?_
  refine lv_seti (v := wb (updB (T_wh tA) kB true)) (wb_on _ (by omega)) ?_
  refine va_put (D := G) (ci := 3) (v := .int (wb (updB (T_wh tA) kB true))) (ty := .int) (C := RX4) (T := TX4) (N := 13) hx hb hts iX_X4 tyX4 tyX4_ok nmX4 hown hK hP hD hS 7 rfl rfl 2 (by decide +kernel) (hts _ m_t39) (fun _ h9 => h9) rfl (by decide +kernel) rfl rfl (Nat.le_of_ble_eq_true rfl) (g_181 (v := 46) bX4_readBy rfl) (fun H locs => ?_)
  clear hP hD hS
  intro hP hD hS
  have hPD := pd_as [_, _, _, _, _, _, _, zzO qt 3 [.int (nI (T_nb (T_setkn tA (updM (T_kn tA) kI kB (zwk tA kI kB))))), .int (nI (T_np (T_setkn tA (updM (T_kn tA) kI kB (zwk tA kI kB))))), .int (wb (updB (T_wh tA) kB true)), .int (wb (T_gn (T_setkn tA (updM (T_kn tA) kI kB (zwk tA kI kB))))), .int (T_sd (T_setkn tA (updM (T_kn tA) kI kB (zwk tA kI kB)))), .ref qtw, .ref qtn, .ref qtg, .ref qta, .ref qtr, .ref qtm, .ref qtt, .ref qts], _] hP hD rfl
  clear hP hD
  obtain ⟨hP, hD⟩ := hPD
  exact endVs [[false, false, false, false, false, false, false, true], [true, true, true, true, true, true, true, false, true]] hx hb hr hlocks hP hD rfl (by decide +kernel) hS rfl (g_177 bX4_readBy rfl)
set_option maxHeartbeats 4000000 in
set_option maxRecDepth 100000 in
theorem c_X4_writeBy (l : Launch) (G : va_G) (cy : Nat → ClassId) (sz : Nat) (qt : Nat) (tA : TA) (qtw : Nat) (qtn : Nat) (qtg : Nat) (qta : Nat) (qtr : Nat) (qtm : Nat) (qtt : Nat) (qts : Nat) (kI : Nat) (kB : Nat)  (hI : kI < 8) (hJ : kB < 8) : MW l yX4_writeBy cX4_writeBy 3 (some .int) 3 0 0 G cy [zzO qt 3 [.int (nI (T_nb tA)), .int (nI (T_np tA)), .int (wb (T_wh tA)), .int (wb (T_gn tA)), .int (T_sd tA), .ref qtw, .ref qtn, .ref qtg, .ref qta, .ref qtr, .ref qtm, .ref qtt, .ref qts], zzI cy qtw 8 (T_wo tA), zzI cy qtn 8 (T_ne tA), zzI cy qtg 8 (T_go tA), zzI cy qta 8 (T_ag tA), zzI cy qtr 8 (T_re tA), zzI cy qtm 8 (T_me tA), zzI cy qtt 8 (T_te tA), zzI cy qts 64 (shF (T_kn tA))] sz [.ref qt, .int (nI kI), .int (nI kB)] (Wi G (fun r u => u = [zzO qt 3 [.int (nI (T_nb (T_setgo (T_setwh tA (updB (T_wh tA) kB false)) (upd (T_go tA) kB (T_kn tA kI kB))))), .int (nI (T_np (T_setgo (T_setwh tA (updB (T_wh tA) kB false)) (upd (T_go tA) kB (T_kn tA kI kB))))), .int (wb (T_wh (T_setgo (T_setwh tA (updB (T_wh tA) kB false)) (upd (T_go tA) kB (T_kn tA kI kB))))), .int (wb (T_gn (T_setgo (T_setwh tA (updB (T_wh tA) kB false)) (upd (T_go tA) kB (T_kn tA kI kB))))), .int (T_sd (T_setgo (T_setwh tA (updB (T_wh tA) kB false)) (upd (T_go tA) kB (T_kn tA kI kB)))), .ref qtw, .ref qtn, .ref qtg, .ref qta, .ref qtr, .ref qtm, .ref qtt, .ref qts], zzI cy qtw 8 (T_wo (T_setgo (T_setwh tA (updB (T_wh tA) kB false)) (upd (T_go tA) kB (T_kn tA kI kB)))), zzI cy qtn 8 (T_ne (T_setgo (T_setwh tA (updB (T_wh tA) kB false)) (upd (T_go tA) kB (T_kn tA kI kB)))), zzI cy qtg 8 (T_go (T_setgo (T_setwh tA (updB (T_wh tA) kB false)) (upd (T_go tA) kB (T_kn tA kI kB)))), zzI cy qta 8 (T_ag (T_setgo (T_setwh tA (updB (T_wh tA) kB false)) (upd (T_go tA) kB (T_kn tA kI kB)))), zzI cy qtr 8 (T_re (T_setgo (T_setwh tA (updB (T_wh tA) kB false)) (upd (T_go tA) kB (T_kn tA kI kB)))), zzI cy qtm 8 (T_me (T_setgo (T_setwh tA (updB (T_wh tA) kB false)) (upd (T_go tA) kB (T_kn tA kI kB)))), zzI cy qtt 8 (T_te (T_setgo (T_setwh tA (updB (T_wh tA) kB false)) (upd (T_go tA) kB (T_kn tA kI kB)))), zzI cy qts 64 (shF (T_kn (T_setgo (T_setwh tA (updB (T_wh tA) kB false)) (upd (T_go tA) kB (T_kn tA kI kB)))))] ∧ ((r = (T_kn tA kI kB))))) := by
  refine enW RX4 (by decide +kernel) rfl (Nat.le_of_ble_eq_true rfl) (fun p e s m below meth c ls A hx hb hml hown hts hr hlocks hP hN hl hin hD hA hS => ?_)
  have hin : meth.name = _ := hin
  have hK := hN.1
  replace hl : lv_has ls 3 [(0, .ref qt), (1, .int (nI kI)), (2, .int (nI kB))] := hl
  refine lv_aload_n hx hb (g_42 bX4_writeBy rfl) rfl (lv_at hl 0 rfl) ?_
  refine lv_dup hx hb (g_89 bX4_writeBy rfl) rfl ?_
  refine va_get (D := G) (ci := 3) (v := .int (wb (T_wh tA))) (C := RX4) (T := TX4) (N := 13) hx hb hts iX_X4 hown hK hP 0 rfl rfl 2 (by decide +kernel) (hts _ m_t39) (fun _ h9 => h9) rfl (g_180 (v := 46) bX4_writeBy rfl) ?_
  refine lv_iconst (v := 1) hx hb (g_4 bX4_writeBy rfl) (by decide +kernel) ?_
  refine lv_iload_n hx hb (g_28 bX4_writeBy rfl) rfl (lv_at hl 2 rfl) ?_
  refine lv_ishl hx hb (g_120 bX4_writeBy rfl) ?_
  refine lv_iconst (v := (-1)) hx hb (g_2 bX4_writeBy rfl) (by decide +kernel) ?_
  refine lv_ixor hx hb (g_130 bX4_writeBy rfl) ?_
  refine lv_iand hx hb (g_126 bX4_writeBy rfl) ?_
  refine lv_seti (v := wb (updB (T_wh tA) kB false)) (wb_off _ (by omega)) ?_
  refine va_put (D := G) (ci := 3) (v := .int (wb (updB (T_wh tA) kB false))) (ty := .int) (C := RX4) (T := TX4) (N := 13) hx hb hts iX_X4 tyX4 tyX4_ok nmX4 hown hK hP hD hS 0 rfl rfl 2 (by decide +kernel) (hts _ m_t39) (fun _ h9 => h9) rfl (by decide +kernel) rfl rfl (Nat.le_of_ble_eq_true rfl) (g_181 (v := 46) bX4_writeBy rfl) (fun H locs => ?_)
  clear hP hD hS
  intro hP hD hS
  have hPD := pd_as [zzO qt 3 [.int (nI (T_nb tA)), .int (nI (T_np tA)), .int (wb (updB (T_wh tA) kB false)), .int (wb (T_gn tA)), .int (T_sd tA), .ref qtw, .ref qtn, .ref qtg, .ref qta, .ref qtr, .ref qtm, .ref qtt, .ref qts], _, _, _, _, _, _, _, _] hP hD rfl
  clear hP hD
  obtain ⟨hP, hD⟩ := hPD
  have hPD := pd_as [zzO qt 3 [.int (nI (T_nb (T_setwh tA (updB (T_wh tA) kB false)))), .int (nI (T_np (T_setwh tA (updB (T_wh tA) kB false)))), .int (wb (T_wh (T_setwh tA (updB (T_wh tA) kB false)))), .int (wb (T_gn (T_setwh tA (updB (T_wh tA) kB false)))), .int (T_sd (T_setwh tA (updB (T_wh tA) kB false))), .ref qtw, .ref qtn, .ref qtg, .ref qta, .ref qtr, .ref qtm, .ref qtt, .ref qts], zzI cy qtw 8 (T_wo (T_setwh tA (updB (T_wh tA) kB false))), zzI cy qtn 8 (T_ne (T_setwh tA (updB (T_wh tA) kB false))), zzI cy qtg 8 (T_go (T_setwh tA (updB (T_wh tA) kB false))), zzI cy qta 8 (T_ag (T_setwh tA (updB (T_wh tA) kB false))), zzI cy qtr 8 (T_re (T_setwh tA (updB (T_wh tA) kB false))), zzI cy qtm 8 (T_me (T_setwh tA (updB (T_wh tA) kB false))), zzI cy qtt 8 (T_te (T_setwh tA (updB (T_wh tA) kB false))), zzI cy qts 64 (shF (T_kn (T_setwh tA (updB (T_wh tA) kB false))))] hP hD rfl
  clear hP hD
  obtain ⟨hP, hD⟩ := hPD
  refine lv_aload_n hx hb (g_42 bX4_writeBy rfl) rfl (lv_at hl 0 rfl) ?_
  refine va_get (D := G) (ci := 3) (v := .ref qtg) (C := RX4) (T := TX4) (N := 13) hx hb hts iX_X4 hown hK hP 0 rfl rfl 7 (by decide +kernel) (hts _ m_t53) (fun _ h9 => h9) rfl (g_180 (v := 22) bX4_writeBy rfl) ?_
  refine lv_iload_n hx hb (g_28 bX4_writeBy rfl) rfl (lv_at hl 2 rfl) ?_
  refine lv_aload_n hx hb (g_42 bX4_writeBy rfl) rfl (lv_at hl 0 rfl) ?_
  refine lv_iload_n hx hb (g_27 bX4_writeBy rfl) rfl (lv_at hl 1 rfl) ?_
  refine lv_iload_n hx hb (g_28 bX4_writeBy rfl) rfl (lv_at hl 2 rfl) ?_
  refine kRi (rV (As := [.int (nI kI), .int (nI kB)]) (rest := [.int (nI kB), .ref qtg]) (b := qt) ⟨hx, hb, hml, hown, hts⟩ (c_X4_knows l G cy qt (T_setwh tA (updB (T_wh tA) kB false)) qtw qtn qtg qta qtr qtm qtt qts kI kB hI hJ) L_X4_66 (preRV (q := (RX4, TX4, 13)) hN hP [0, 8] rfl 0 3 rfl rfl) rfl ⟨Nat.le_of_ble_eq_true rfl, Nat.le_of_ble_eq_true rfl⟩ hl.1 (Nat.le_of_ble_eq_true rfl) (g_182 (v := 66) bX4_writeBy rfl) ⟨Nat.le_of_ble_eq_true rfl, Nat.le_of_ble_eq_true rfl⟩) (fun r_1 h_2 => ?_)
  subst h_2
  refine va_iast hx hb hK hP hD hS 3 0 rfl rfl (in8 (by omega)) (g_79 bX4_writeBy rfl) (fun H locs => ?_)
  clear hP hD hS
  intro hP hD hS
  rw [cl8 (k := kB) (by omega)] at hP hD
  have hPD := pd_as [_, _, _, zzI cy qtg 8 (upd (T_go (T_setwh tA (updB (T_wh tA) kB false))) kB (T_kn (T_setwh tA (updB (T_wh tA) kB false)) kI kB)), _, _, _, _, _] hP hD rfl
  clear hP hD
  obtain ⟨hP, hD⟩ := hPD
  refine lv_aload_n hx hb (g_42 bX4_writeBy rfl) rfl (lv_at hl 0 rfl) ?_
  refine va_get (D := G) (ci := 3) (v := .ref qtg) (C := RX4) (T := TX4) (N := 13) hx hb hts iX_X4 hown hK hP 0 rfl rfl 7 (by decide +kernel) (hts _ m_t53) (fun _ h9 => h9) rfl (g_180 (v := 22) bX4_writeBy rfl) ?_
  refine lv_iload_n hx hb (g_28 bX4_writeBy rfl) rfl (lv_at hl 2 rfl) ?_
  refine va_iald hx hb hK hP 3 0 rfl rfl (in8 (by omega)) (g_46 bX4_writeBy rfl) ?_
  refine lv_seti (v := T_kn (T_setwh tA (updB (T_wh tA) kB false)) kI kB) ((congrArg (upd (T_go (T_setwh tA (updB (T_wh tA) kB false))) kB (T_kn (T_setwh tA (updB (T_wh tA) kB false)) kI kB)) (cl8 (by omega))).trans pk_us) ?_
  exact endW (u := [zzO qt 3 [.int (nI (T_nb (T_setwh tA (updB (T_wh tA) kB false)))), .int (nI (T_np (T_setwh tA (updB (T_wh tA) kB false)))), .int (wb (T_wh (T_setwh tA (updB (T_wh tA) kB false)))), .int (wb (T_gn (T_setwh tA (updB (T_wh tA) kB false)))), .int (T_sd (T_setwh tA (updB (T_wh tA) kB false))), .ref qtw, .ref qtn, .ref qtg, .ref qta, .ref qtr, .ref qtm, .ref qtt, .ref qts], zzI cy qtw 8 (T_wo (T_setwh tA (updB (T_wh tA) kB false))), zzI cy qtn 8 (T_ne (T_setwh tA (updB (T_wh tA) kB false))), zzI cy qtg 8 (upd (T_go (T_setwh tA (updB (T_wh tA) kB false))) kB (T_kn (T_setwh tA (updB (T_wh tA) kB false)) kI kB)), zzI cy qta 8 (T_ag (T_setwh tA (updB (T_wh tA) kB false))), zzI cy qtr 8 (T_re (T_setwh tA (updB (T_wh tA) kB false))), zzI cy qtm 8 (T_me (T_setwh tA (updB (T_wh tA) kB false))), zzI cy qtt 8 (T_te (T_setwh tA (updB (T_wh tA) kB false))), zzI cy qts 64 (shF (T_kn (T_setwh tA (updB (T_wh tA) kB false))))]) hx hb hr hlocks rfl (pSb hP [[true, true, true, true, true, true, true, true, true]] rfl rfl) (dSb hD [[true, true, true, true, true, true, true, true, true]] (by decide +kernel) rfl rfl) hS ⟨rfl, (by rfl)⟩ (g_172 bX4_writeBy rfl)
set_option maxHeartbeats 4000000 in
set_option maxRecDepth 100000 in
theorem c_X4_addBook (l : Launch) (G : va_G) (cy : Nat → ClassId) (sz : Nat) (qt : Nat) (tA : TA) (qtw : Nat) (qtn : Nat) (qtg : Nat) (qta : Nat) (qtr : Nat) (qtm : Nat) (qtt : Nat) (qts : Nat) (iA : Int32) (iB : Int32)  (hB : T_nb tA < 8) : MW l yX4_addBook cX4_addBook 4 (some .int) 1 0 0 G cy [zzO qt 3 [.int (nI (T_nb tA)), .int (nI (T_np tA)), .int (wb (T_wh tA)), .int (wb (T_gn tA)), .int (T_sd tA), .ref qtw, .ref qtn, .ref qtg, .ref qta, .ref qtr, .ref qtm, .ref qtt, .ref qts], zzI cy qtw 8 (T_wo tA), zzI cy qtn 8 (T_ne tA), zzI cy qtg 8 (T_go tA), zzI cy qta 8 (T_ag tA), zzI cy qtr 8 (T_re tA), zzI cy qtm 8 (T_me tA), zzI cy qtt 8 (T_te tA), zzI cy qts 64 (shF (T_kn tA))] sz [.ref qt, .int iA, .int iB] (Wi G (fun r u => u = [zzO qt 3 [.int (nI (T_nb (zab tA iA iB))), .int (nI (T_np (zab tA iA iB))), .int (wb (T_wh (zab tA iA iB))), .int (wb (T_gn (zab tA iA iB))), .int (T_sd (zab tA iA iB)), .ref qtw, .ref qtn, .ref qtg, .ref qta, .ref qtr, .ref qtm, .ref qtt, .ref qts], zzI cy qtw 8 (T_wo (zab tA iA iB)), zzI cy qtn 8 (T_ne (zab tA iA iB)), zzI cy qtg 8 (T_go (zab tA iA iB)), zzI cy qta 8 (T_ag (zab tA iA iB)), zzI cy qtr 8 (T_re (zab tA iA iB)), zzI cy qtm 8 (T_me (zab tA iA iB)), zzI cy qtt 8 (T_te (zab tA iA iB)), zzI cy qts 64 (shF (T_kn (zab tA iA iB)))] ∧ ((r = (nI (T_nb tA)))))) := by
  refine enW RX4 (by decide +kernel) rfl (Nat.le_of_ble_eq_true rfl) (fun p e s m below meth c ls A hx hb hml hown hts hr hlocks hP hN hl hin hD hA hS => ?_)
  have hin : meth.name = _ := hin
  have hK := hN.1
  replace hl : lv_has ls 4 [(0, .ref qt), (1, .int iA), (2, .int iB)] := hl
  refine lv_aload_n hx hb (g_42 bX4_addBook rfl) rfl (lv_at hl 0 rfl) ?_
  refine va_get (D := G) (ci := 3) (v := .int (nI (T_nb tA))) (C := RX4) (T := TX4) (N := 13) hx hb hts iX_X4 hown hK hP 0 rfl rfl 0 (by decide +kernel) (hts _ m_t29) (fun _ h9 => h9) rfl (g_180 (v := 40) bX4_addBook rfl) ?_
  refine lv_istore_n (lv' := [(3, .int (nI (T_nb tA))), (0, .ref qt), (1, .int iA), (2, .int iB)]) hx hb (g_62 bX4_addBook rfl) rfl hl (by decide +kernel) rfl (fun ls => ?_)
  clear hl
  intro hl
  refine lv_aload_n hx hb (g_42 bX4_addBook rfl) rfl (lv_at hl 1 rfl) ?_
  refine va_get (D := G) (ci := 3) (v := .ref qtw) (C := RX4) (T := TX4) (N := 13) hx hb hts iX_X4 hown hK hP 0 rfl rfl 5 (by decide +kernel) (hts _ m_t48) (fun _ h9 => h9) rfl (g_180 (v := 15) bX4_addBook rfl) ?_
  refine lv_iload_n hx hb (g_29 bX4_addBook rfl) rfl (lv_at hl 0 rfl) ?_
  refine lv_iload_n hx hb (g_27 bX4_addBook rfl) rfl (lv_at hl 2 rfl) ?_
  refine va_iast hx hb hK hP hD hS 1 0 rfl rfl (in8 (by omega)) (g_79 bX4_addBook rfl) (fun H locs => ?_)
  clear hP hD hS
  intro hP hD hS
  rw [cl8 (k := (T_nb tA)) (by omega)] at hP hD
  have hPD := pd_as [_, zzI cy qtw 8 (upd (T_wo tA) (T_nb tA) iA), _, _, _, _, _, _, _] hP hD rfl
  clear hP hD
  obtain ⟨hP, hD⟩ := hPD
  refine lv_aload_n hx hb (g_42 bX4_addBook rfl) rfl (lv_at hl 1 rfl) ?_
  refine va_get (D := G) (ci := 3) (v := .ref qtn) (C := RX4) (T := TX4) (N := 13) hx hb hts iX_X4 hown hK hP 0 rfl rfl 6 (by decide +kernel) (hts _ m_t50) (fun _ h9 => h9) rfl (g_180 (v := 19) bX4_addBook rfl) ?_
  refine lv_iload_n hx hb (g_29 bX4_addBook rfl) rfl (lv_at hl 0 rfl) ?_
  refine lv_iload_n hx hb (g_28 bX4_addBook rfl) rfl (lv_at hl 3 rfl) ?_
  refine va_iast hx hb hK hP hD hS 2 0 rfl rfl (in8 (by omega)) (g_79 bX4_addBook rfl) (fun H locs => ?_)
  clear hP hD hS
  intro hP hD hS
  rw [cl8 (k := (T_nb tA)) (by omega)] at hP hD
  have hPD := pd_as [_, _, zzI cy qtn 8 (upd (T_ne tA) (T_nb tA) iB), _, _, _, _, _, _] hP hD rfl
  clear hP hD
  obtain ⟨hP, hD⟩ := hPD
  refine lv_aload_n hx hb (g_42 bX4_addBook rfl) rfl (lv_at hl 1 rfl) ?_
  refine va_get (D := G) (ci := 3) (v := .ref qtg) (C := RX4) (T := TX4) (N := 13) hx hb hts iX_X4 hown hK hP 0 rfl rfl 7 (by decide +kernel) (hts _ m_t53) (fun _ h9 => h9) rfl (g_180 (v := 22) bX4_addBook rfl) ?_
  refine lv_iload_n hx hb (g_29 bX4_addBook rfl) rfl (lv_at hl 0 rfl) ?_
  refine lv_sipush (v := 1000) hx hb dX4_addBook_24 (by decide +kernel) ?_
  refine va_iast hx hb hK hP hD hS 3 0 rfl rfl (in8 (by omega)) (g_79 bX4_addBook rfl) (fun H locs => ?_)
  clear hP hD hS
  intro hP hD hS
  rw [cl8 (k := (T_nb tA)) (by omega)] at hP hD
  have hPD := pd_as [_, _, _, zzI cy qtg 8 (upd (T_go tA) (T_nb tA) 1000), _, _, _, _, _] hP hD rfl
  clear hP hD
  obtain ⟨hP, hD⟩ := hPD
  refine lv_aload_n hx hb (g_42 bX4_addBook rfl) rfl (lv_at hl 1 rfl) ?_
  refine lv_dup hx hb (g_89 bX4_addBook rfl) rfl ?_
  refine va_get (D := G) (ci := 3) (v := .int (nI (T_nb tA))) (C := RX4) (T := TX4) (N := 13) hx hb hts iX_X4 hown hK hP 0 rfl rfl 0 (by decide +kernel) (hts _ m_t29) (fun _ h9 => h9) rfl (g_180 (v := 40) bX4_addBook rfl) ?_
  refine lv_iconst (v := 1) hx hb (g_4 bX4_addBook rfl) (by decide +kernel) ?_
  refine lv_iadd hx hb (g_96 bX4_addBook rfl) ?_
  refine lv_seti (v := nI ((T_nb tA) + 1)) (nI_1 _) ?_
  refine va_put (D := G) (ci := 3) (v := .int (nI ((T_nb tA) + 1))) (ty := .int) (C := RX4) (T := TX4) (N := 13) hx hb hts iX_X4 tyX4 tyX4_ok nmX4 hown hK hP hD hS 0 rfl rfl 0 (by decide +kernel) (hts _ m_t29) (fun _ h9 => h9) rfl (by decide +kernel) rfl rfl (Nat.le_of_ble_eq_true rfl) (g_181 (v := 40) bX4_addBook rfl) (fun H locs => ?_)
  clear hP hD hS
  intro hP hD hS
  have hPD := pd_as [zzO qt 3 [.int (nI ((T_nb tA) + 1)), .int (nI (T_np tA)), .int (wb (T_wh tA)), .int (wb (T_gn tA)), .int (T_sd tA), .ref qtw, .ref qtn, .ref qtg, .ref qta, .ref qtr, .ref qtm, .ref qtt, .ref qts], _, _, _, _, _, _, _, _] hP hD rfl
  clear hP hD
  obtain ⟨hP, hD⟩ := hPD
  refine lv_iload_n hx hb (g_29 bX4_addBook rfl) rfl (lv_at hl 0 rfl) ?_
  exact endWs [[true, true, true, true, true, true, true, true, true]] hx hb hr hlocks rfl hP hD rfl (by decide +kernel) hS ⟨rfl, rfl⟩ (g_172 bX4_addBook rfl)
set_option maxHeartbeats 4000000 in
set_option maxRecDepth 100000 in
theorem c_X4_addOne (l : Launch) (G : va_G) (cy : Nat → ClassId) (sz : Nat) (qt : Nat) (tA : TA) (qtw : Nat) (qtn : Nat) (qtg : Nat) (qta : Nat) (qtr : Nat) (qtm : Nat) (qtt : Nat) (qts : Nat) (iA : Int32) (iB : Int32) (iC : Int32) (iD : Int32)  (hPp : T_np tA < 8) : MW l yX4_addOne cX4_addOne 6 (some .int) 1 0 0 G cy [zzO qt 3 [.int (nI (T_nb tA)), .int (nI (T_np tA)), .int (wb (T_wh tA)), .int (wb (T_gn tA)), .int (T_sd tA), .ref qtw, .ref qtn, .ref qtg, .ref qta, .ref qtr, .ref qtm, .ref qtt, .ref qts], zzI cy qtw 8 (T_wo tA), zzI cy qtn 8 (T_ne tA), zzI cy qtg 8 (T_go tA), zzI cy qta 8 (T_ag tA), zzI cy qtr 8 (T_re tA), zzI cy qtm 8 (T_me tA), zzI cy qtt 8 (T_te tA), zzI cy qts 64 (shF (T_kn tA))] sz [.ref qt, .int iA, .int iB, .int iC, .int iD] (Wi G (fun r u => u = [zzO qt 3 [.int (nI (T_nb (zao tA iA iB iC iD))), .int (nI (T_np (zao tA iA iB iC iD))), .int (wb (T_wh (zao tA iA iB iC iD))), .int (wb (T_gn (zao tA iA iB iC iD))), .int (T_sd (zao tA iA iB iC iD)), .ref qtw, .ref qtn, .ref qtg, .ref qta, .ref qtr, .ref qtm, .ref qtt, .ref qts], zzI cy qtw 8 (T_wo (zao tA iA iB iC iD)), zzI cy qtn 8 (T_ne (zao tA iA iB iC iD)), zzI cy qtg 8 (T_go (zao tA iA iB iC iD)), zzI cy qta 8 (T_ag (zao tA iA iB iC iD)), zzI cy qtr 8 (T_re (zao tA iA iB iC iD)), zzI cy qtm 8 (T_me (zao tA iA iB iC iD)), zzI cy qtt 8 (T_te (zao tA iA iB iC iD)), zzI cy qts 64 (shF (T_kn (zao tA iA iB iC iD)))] ∧ ((r = (nI (T_np tA)))))) := by
  refine enW RX4 (by decide +kernel) rfl (Nat.le_of_ble_eq_true rfl) (fun p e s m below meth c ls A hx hb hml hown hts hr hlocks hP hN hl hin hD hA hS => ?_)
  have hin : meth.name = _ := hin
  have hK := hN.1
  replace hl : lv_has ls 6 [(0, .ref qt), (1, .int iA), (2, .int iB), (3, .int iC), (4, .int iD)] := hl
  refine lv_aload_n hx hb (g_42 bX4_addOne rfl) rfl (lv_at hl 0 rfl) ?_
  refine va_get (D := G) (ci := 3) (v := .int (nI (T_np tA))) (C := RX4) (T := TX4) (N := 13) hx hb hts iX_X4 hown hK hP 0 rfl rfl 1 (by decide +kernel) (hts _ m_t34) (fun _ h9 => h9) rfl (g_180 (v := 43) bX4_addOne rfl) ?_
  refine lv_istore (lv' := [(5, .int (nI (T_np tA))), (0, .ref qt), (1, .int iA), (2, .int iB), (3, .int iC), (4, .int iD)]) hx hb (g_54 (v := 5) bX4_addOne rfl) hl (by decide +kernel) rfl (fun ls => ?_)
  clear hl
  intro hl
  refine lv_aload_n hx hb (g_42 bX4_addOne rfl) rfl (lv_at hl 1 rfl) ?_
  refine va_get (D := G) (ci := 3) (v := .ref qta) (C := RX4) (T := TX4) (N := 13) hx hb hts iX_X4 hown hK hP 0 rfl rfl 8 (by decide +kernel) (hts _ m_t56) (fun _ h9 => h9) rfl (g_180 (v := 25) bX4_addOne rfl) ?_
  refine lv_iload hx hb (g_21 (v := 5) bX4_addOne rfl) (lv_at hl 0 rfl) ?_
  refine lv_iload_n hx hb (g_27 bX4_addOne rfl) rfl (lv_at hl 2 rfl) ?_
  refine va_iast hx hb hK hP hD hS 4 0 rfl rfl (in8 (by omega)) (g_79 bX4_addOne rfl) (fun H locs => ?_)
  clear hP hD hS
  intro hP hD hS
  rw [cl8 (k := (T_np tA)) (by omega)] at hP hD
  have hPD := pd_as [_, _, _, _, zzI cy qta 8 (upd (T_ag tA) (T_np tA) iA), _, _, _, _] hP hD rfl
  clear hP hD
  obtain ⟨hP, hD⟩ := hPD
  refine lv_aload_n hx hb (g_42 bX4_addOne rfl) rfl (lv_at hl 1 rfl) ?_
  refine va_get (D := G) (ci := 3) (v := .ref qtr) (C := RX4) (T := TX4) (N := 13) hx hb hts iX_X4 hown hK hP 0 rfl rfl 9 (by decide +kernel) (hts _ m_t58) (fun _ h9 => h9) rfl (g_180 (v := 28) bX4_addOne rfl) ?_
  refine lv_iload hx hb (g_21 (v := 5) bX4_addOne rfl) (lv_at hl 0 rfl) ?_
  refine lv_iload_n hx hb (g_28 bX4_addOne rfl) rfl (lv_at hl 3 rfl) ?_
  refine va_iast hx hb hK hP hD hS 5 0 rfl rfl (in8 (by omega)) (g_79 bX4_addOne rfl) (fun H locs => ?_)
  clear hP hD hS
  intro hP hD hS
  rw [cl8 (k := (T_np tA)) (by omega)] at hP hD
  have hPD := pd_as [_, _, _, _, _, zzI cy qtr 8 (upd (T_re tA) (T_np tA) iB), _, _, _] hP hD rfl
  clear hP hD
  obtain ⟨hP, hD⟩ := hPD
  refine lv_aload_n hx hb (g_42 bX4_addOne rfl) rfl (lv_at hl 1 rfl) ?_
  refine va_get (D := G) (ci := 3) (v := .ref qtm) (C := RX4) (T := TX4) (N := 13) hx hb hts iX_X4 hown hK hP 0 rfl rfl 10 (by decide +kernel) (hts _ m_t60) (fun _ h9 => h9) rfl (g_180 (v := 31) bX4_addOne rfl) ?_
  refine lv_iload hx hb (g_21 (v := 5) bX4_addOne rfl) (lv_at hl 0 rfl) ?_
  refine lv_iload_n hx hb (g_29 bX4_addOne rfl) rfl (lv_at hl 4 rfl) ?_
  refine va_iast hx hb hK hP hD hS 6 0 rfl rfl (in8 (by omega)) (g_79 bX4_addOne rfl) (fun H locs => ?_)
  clear hP hD hS
  intro hP hD hS
  rw [cl8 (k := (T_np tA)) (by omega)] at hP hD
  have hPD := pd_as [_, _, _, _, _, _, zzI cy qtm 8 (upd (T_me tA) (T_np tA) iC), _, _] hP hD rfl
  clear hP hD
  obtain ⟨hP, hD⟩ := hPD
  refine lv_aload_n hx hb (g_42 bX4_addOne rfl) rfl (lv_at hl 1 rfl) ?_
  refine va_get (D := G) (ci := 3) (v := .ref qtt) (C := RX4) (T := TX4) (N := 13) hx hb hts iX_X4 hown hK hP 0 rfl rfl 11 (by decide +kernel) (hts _ m_t62) (fun _ h9 => h9) rfl (g_180 (v := 34) bX4_addOne rfl) ?_
  refine lv_iload hx hb (g_21 (v := 5) bX4_addOne rfl) (lv_at hl 0 rfl) ?_
  refine lv_iload hx hb (g_21 (v := 4) bX4_addOne rfl) (lv_at hl 5 rfl) ?_
  refine va_iast hx hb hK hP hD hS 7 0 rfl rfl (in8 (by omega)) (g_79 bX4_addOne rfl) (fun H locs => ?_)
  clear hP hD hS
  intro hP hD hS
  rw [cl8 (k := (T_np tA)) (by omega)] at hP hD
  have hPD := pd_as [_, _, _, _, _, _, _, zzI cy qtt 8 (upd (T_te tA) (T_np tA) iD), _] hP hD rfl
  clear hP hD
  obtain ⟨hP, hD⟩ := hPD
  refine lv_aload_n hx hb (g_42 bX4_addOne rfl) rfl (lv_at hl 1 rfl) ?_
  refine lv_dup hx hb (g_89 bX4_addOne rfl) rfl ?_
  refine va_get (D := G) (ci := 3) (v := .int (nI (T_np tA))) (C := RX4) (T := TX4) (N := 13) hx hb hts iX_X4 hown hK hP 0 rfl rfl 1 (by decide +kernel) (hts _ m_t34) (fun _ h9 => h9) rfl (g_180 (v := 43) bX4_addOne rfl) ?_
  refine lv_iconst (v := 1) hx hb (g_4 bX4_addOne rfl) (by decide +kernel) ?_
  refine lv_iadd hx hb (g_96 bX4_addOne rfl) ?_
  refine lv_seti (v := nI ((T_np tA) + 1)) (nI_1 _) ?_
  refine va_put (D := G) (ci := 3) (v := .int (nI ((T_np tA) + 1))) (ty := .int) (C := RX4) (T := TX4) (N := 13) hx hb hts iX_X4 tyX4 tyX4_ok nmX4 hown hK hP hD hS 0 rfl rfl 1 (by decide +kernel) (hts _ m_t34) (fun _ h9 => h9) rfl (by decide +kernel) rfl rfl (Nat.le_of_ble_eq_true rfl) (g_181 (v := 43) bX4_addOne rfl) (fun H locs => ?_)
  clear hP hD hS
  intro hP hD hS
  have hPD := pd_as [zzO qt 3 [.int (nI (T_nb tA)), .int (nI ((T_np tA) + 1)), .int (wb (T_wh tA)), .int (wb (T_gn tA)), .int (T_sd tA), .ref qtw, .ref qtn, .ref qtg, .ref qta, .ref qtr, .ref qtm, .ref qtt, .ref qts], _, _, _, _, _, _, _, _] hP hD rfl
  clear hP hD
  obtain ⟨hP, hD⟩ := hPD
  refine lv_iload hx hb (g_21 (v := 5) bX4_addOne rfl) (lv_at hl 0 rfl) ?_
  exact endWs [[true, true, true, true, true, true, true, true, true]] hx hb hr hlocks rfl hP hD rfl (by decide +kernel) hS ⟨rfl, rfl⟩ (g_172 bX4_addOne rfl)
set_option maxHeartbeats 4000000 in
set_option maxRecDepth 100000 in
theorem c_X4_isBook (l : Launch) (G : va_G) (cy : Nat → ClassId) (qt : Nat) (tA : TA) (qtw : Nat) (qtn : Nat) (qtg : Nat) (qta : Nat) (qtr : Nat) (qtm : Nat) (qtt : Nat) (qts : Nat) (iA : Int32)  (hB : T_nb tA ≤ 8) : MR l yX4_isBook cX4_isBook 2 (some .boolean) 1 G cy [zzO qt 3 [.int (nI (T_nb tA)), .int (nI (T_np tA)), .int (wb (T_wh tA)), .int (wb (T_gn tA)), .int (T_sd tA), .ref qtw, .ref qtn, .ref qtg, .ref qta, .ref qtr, .ref qtm, .ref qtt, .ref qts]] [.ref qt, .int iA] (vp_Si (fun r => (r = 1 ∧ ∃ k : Nat, k < T_nb tA ∧ iA = nI k) ∨ (r = 0 ∧ ¬ ∃ k : Nat, k < T_nb tA ∧ iA = nI k))) := by
  refine enR RX4 (by decide +kernel) rfl (Nat.le_of_ble_eq_true rfl) (fun p e s m below meth c ls hx hb hml hown hts hr hlocks hP hN hl => ?_)
  have hK := hN.1
  replace hl : lv_has ls 2 [(0, .ref qt), (1, .int iA)] := hl
  refine lv_iload_n hx hb (g_27 bX4_isBook rfl) rfl (lv_at hl 1 rfl) ?_
  refine lv_if_lt (tgt := 16) hx hb dX4_isBook_1 (by decide +kernel) (fun c_1 => ?_) (fun c_1 => ?_)
  · refine lv_iconst (v := 0) hx hb (g_3 bX4_isBook rfl) (by decide +kernel) ?_
    exact endR hx hb hr hlocks rfl (Or.inr (⟨rfl, isx_no1 c_1 (by omega)⟩)) (g_172 bX4_isBook rfl)
  · refine lv_iload_n hx hb (g_27 bX4_isBook rfl) rfl (lv_at hl 1 rfl) ?_
    refine lv_aload_n hx hb (g_42 bX4_isBook rfl) rfl (lv_at hl 0 rfl) ?_
    refine va_get (D := G) (ci := 3) (v := .int (nI (T_nb tA))) (C := RX4) (T := TX4) (N := 13) hx hb hts iX_X4 hown hK hP 0 rfl rfl 0 (by decide +kernel) (hts _ m_t29) (fun _ h9 => h9) rfl (g_180 (v := 40) bX4_isBook rfl) ?_
    refine lv_icmp_ge (tgt := 16) hx hb dX4_isBook_9 (by decide +kernel) (fun c_2 => ?_) (fun c_2 => ?_)
    · refine lv_iconst (v := 0) hx hb (g_3 bX4_isBook rfl) (by decide +kernel) ?_
      exact endR hx hb hr hlocks rfl (Or.inr (⟨rfl, isx_no2 c_2 (by omega)⟩)) (g_172 bX4_isBook rfl)
    · refine lv_iconst (v := 1) hx hb (g_4 bX4_isBook rfl) (by decide +kernel) ?_
      refine lv_goto (tgt := 17) hx hb dX4_isBook_13 (by decide +kernel) ?_
      exact endR hx hb hr hlocks rfl (Or.inl (⟨rfl, isx_yes c_1 c_2 (by omega)⟩)) (g_172 bX4_isBook rfl)
set_option maxHeartbeats 4000000 in
set_option maxRecDepth 100000 in
theorem c_X4_isOne (l : Launch) (G : va_G) (cy : Nat → ClassId) (qt : Nat) (tA : TA) (qtw : Nat) (qtn : Nat) (qtg : Nat) (qta : Nat) (qtr : Nat) (qtm : Nat) (qtt : Nat) (qts : Nat) (iA : Int32)  (hB : T_np tA ≤ 8) : MR l yX4_isOne cX4_isOne 2 (some .boolean) 1 G cy [zzO qt 3 [.int (nI (T_nb tA)), .int (nI (T_np tA)), .int (wb (T_wh tA)), .int (wb (T_gn tA)), .int (T_sd tA), .ref qtw, .ref qtn, .ref qtg, .ref qta, .ref qtr, .ref qtm, .ref qtt, .ref qts]] [.ref qt, .int iA] (vp_Si (fun r => (r = 1 ∧ ∃ k : Nat, k < T_np tA ∧ iA = nI k) ∨ (r = 0 ∧ ¬ ∃ k : Nat, k < T_np tA ∧ iA = nI k))) := by
  refine enR RX4 (by decide +kernel) rfl (Nat.le_of_ble_eq_true rfl) (fun p e s m below meth c ls hx hb hml hown hts hr hlocks hP hN hl => ?_)
  have hK := hN.1
  replace hl : lv_has ls 2 [(0, .ref qt), (1, .int iA)] := hl
  refine lv_iload_n hx hb (g_27 bX4_isOne rfl) rfl (lv_at hl 1 rfl) ?_
  refine lv_if_lt (tgt := 16) hx hb dX4_isOne_1 (by decide +kernel) (fun c_1 => ?_) (fun c_1 => ?_)
  · refine lv_iconst (v := 0) hx hb (g_3 bX4_isOne rfl) (by decide +kernel) ?_
    exact endR hx hb hr hlocks rfl (Or.inr (⟨rfl, isx_no1 c_1 (by omega)⟩)) (g_172 bX4_isOne rfl)
  · refine lv_iload_n hx hb (g_27 bX4_isOne rfl) rfl (lv_at hl 1 rfl) ?_
    refine lv_aload_n hx hb (g_42 bX4_isOne rfl) rfl (lv_at hl 0 rfl) ?_
    refine va_get (D := G) (ci := 3) (v := .int (nI (T_np tA))) (C := RX4) (T := TX4) (N := 13) hx hb hts iX_X4 hown hK hP 0 rfl rfl 1 (by decide +kernel) (hts _ m_t34) (fun _ h9 => h9) rfl (g_180 (v := 43) bX4_isOne rfl) ?_
    refine lv_icmp_ge (tgt := 16) hx hb dX4_isOne_9 (by decide +kernel) (fun c_2 => ?_) (fun c_2 => ?_)
    · refine lv_iconst (v := 0) hx hb (g_3 bX4_isOne rfl) (by decide +kernel) ?_
      exact endR hx hb hr hlocks rfl (Or.inr (⟨rfl, isx_no2 c_2 (by omega)⟩)) (g_172 bX4_isOne rfl)
    · refine lv_iconst (v := 1) hx hb (g_4 bX4_isOne rfl) (by decide +kernel) ?_
      refine lv_goto (tgt := 17) hx hb dX4_isOne_13 (by decide +kernel) ?_
      exact endR hx hb hr hlocks rfl (Or.inl (⟨rfl, isx_yes c_1 c_2 (by omega)⟩)) (g_172 bX4_isOne rfl)
set_option maxHeartbeats 4000000 in
set_option maxRecDepth 100000 in
theorem c_X4_bestReader (l : Launch) (G : va_G) (cy : Nat → ClassId) (qt : Nat) (tA : TA) (qtw : Nat) (qtn : Nat) (qtg : Nat) (qta : Nat) (qtr : Nat) (qtm : Nat) (qtt : Nat) (qts : Nat) (kB : Nat)  (hPp : T_np tA ≤ 8) (hJ : kB < 8) : MR l yX4_bestReader cX4_bestReader 6 (some .int) 3 G cy [zzO qt 3 [.int (nI (T_nb tA)), .int (nI (T_np tA)), .int (wb (T_wh tA)), .int (wb (T_gn tA)), .int (T_sd tA), .ref qtw, .ref qtn, .ref qtg, .ref qta, .ref qtr, .ref qtm, .ref qtt, .ref qts], zzI cy qtw 8 (T_wo tA), zzI cy qtn 8 (T_ne tA), zzI cy qtg 8 (T_go tA), zzI cy qta 8 (T_ag tA), zzI cy qtr 8 (T_re tA), zzI cy qtm 8 (T_me tA), zzI cy qtt 8 (T_te tA), zzI cy qts 64 (shF (T_kn tA))] [.ref qt, .int (nI kB)] (vp_Si (fun r => (r = (zbr tA kB)))) := by
  refine enR RX4 (by decide +kernel) rfl (Nat.le_of_ble_eq_true rfl) (fun p e s m below meth c ls hx hb hml hown hts hr hlocks hP hN hl => ?_)
  have hK := hN.1
  replace hl : lv_has ls 6 [(0, .ref qt), (1, .int (nI kB))] := hl
  refine lv_iconst (v := (-1)) hx hb (g_2 bX4_bestReader rfl) (by decide +kernel) ?_
  refine lv_istore_n (lv' := [(2, .int (-1)), (0, .ref qt), (1, .int (nI kB))]) hx hb (g_61 bX4_bestReader rfl) rfl hl (by decide +kernel) rfl (fun ls => ?_)
  clear hl
  intro hl
  refine lv_iconst (v := 0) hx hb (g_3 bX4_bestReader rfl) (by decide +kernel) ?_
  refine lv_istore_n (lv' := [(3, .int 0), (2, .int (-1)), (0, .ref qt), (1, .int (nI kB))]) hx hb (g_62 bX4_bestReader rfl) rfl hl (by decide +kernel) rfl (fun ls => ?_)
  clear hl
  intro hl
  refine lv_iconst (v := 0) hx hb (g_3 bX4_bestReader rfl) (by decide +kernel) ?_
  refine lv_istore (lv' := [(4, .int 0), (3, .int 0), (2, .int (-1)), (0, .ref qt), (1, .int (nI kB))]) hx hb (g_54 (v := 4) bX4_bestReader rfl) hl (by decide +kernel) rfl (fun ls => ?_)
  clear hl
  intro hl
  have lp_1 : ∀ (n_2 : Nat) (j_4 : Nat) (xB_5 : Int32) (xM_6 : Int32), 8 - j_4 < n_2 → j_4 ≤ T_np tA → xB_5 = (brF tA kB j_4).1 → xM_6 = (brF tA kB j_4).2 → ∀ (ls : Array Slot), lv_has ls 6 [(4, .int (nI j_4)), (3, .int xM_6), (2, .int xB_5), (0, .ref qt), (1, .int (nI kB))] → W p l e (Rm 3 0 0) s m (List.toArray (α := Value) [.ref qt, .int (nI kB)]) below meth c s.heap [] 0 0 (MQ below (vp_Si (fun r => (r = (zbr tA kB)))) (List.toArray (α := Value) [.ref qt, .int (nI kB)]) s 0 0 (fun _ => False)) (F0 m 7 ls []) := by
    intro n_2
    induction n_2 with
    | zero => intro j_4 xB_5 xM_6 hm9; exact absurd hm9 (Nat.not_lt_zero _)
    | succ n_2 ih_3 =>
      intro j_4 xB_5 xM_6 hm_10 hj_7 hxB_8 hxM_9 ls hl
      refine lv_iload hx hb (g_21 (v := 4) bX4_bestReader rfl) (lv_at hl 0 rfl) ?_
      refine lv_aload_n hx hb (g_42 bX4_bestReader rfl) rfl (lv_at hl 3 rfl) ?_
      refine va_get (D := G) (ci := 3) (v := .int (nI (T_np tA))) (C := RX4) (T := TX4) (N := 13) hx hb hts iX_X4 hown hK hP 0 rfl rfl 1 (by decide +kernel) (hts _ m_t34) (fun _ h9 => h9) rfl (g_180 (v := 43) bX4_bestReader rfl) ?_
      refine lv_icmp_ge (tgt := 92) hx hb dX4_bestReader_13 (by decide +kernel) (fun c_11 => ?_) (fun c_11 => ?_)
      · have hlt_12 : j_4 = T_np tA := Nat.le_antisymm (by omega) (lp_ge rfl rfl (by omega) (by omega) c_11)
        refine lv_iload_n hx hb (g_28 bX4_bestReader rfl) rfl (lv_at hl 2 rfl) ?_
        exact endR hx hb hr hlocks rfl (by rw [hxB_8, hlt_12]; rfl) (g_172 bX4_bestReader rfl)
      · have hlt_13 : j_4 < T_np tA := lp_lt rfl rfl (by omega) (by omega) c_11
        refine lv_aload_n hx hb (g_42 bX4_bestReader rfl) rfl (lv_at hl 3 rfl) ?_
        refine va_get (D := G) (ci := 3) (v := .int (wb (T_gn tA))) (C := RX4) (T := TX4) (N := 13) hx hb hts iX_X4 hown hK hP 0 rfl rfl 3 (by decide +kernel) (hts _ m_t43) (fun _ h9 => h9) rfl (g_180 (v := 49) bX4_bestReader rfl) ?_
        refine lv_iload hx hb (g_21 (v := 4) bX4_bestReader rfl) (lv_at hl 0 rfl) ?_
        refine kRi (rSN (As := [.int (wb (T_gn tA)), .int (nI j_4)]) (rest := []) ⟨hx, hb, hml, hown, hts⟩ hN (c_X5_has l G cy (wb (T_gn tA)) j_4) L_X4_62 (preRS hN hP [] rfl) rfl ⟨Nat.le_of_ble_eq_true rfl, Nat.le_of_ble_eq_true rfl⟩ hl.1 (Nat.le_of_ble_eq_true rfl) (g_184 (v := 62) bX4_bestReader rfl) ⟨Nat.le_of_ble_eq_true rfl, Nat.le_of_ble_eq_true rfl⟩) (fun r_14 h_15 => ?_)
        rcases h_15 with ⟨rfl, h_16⟩ | ⟨rfl, h_16⟩
        · rw [bit_wb _ (by omega)] at h_16
          refine lv_if_eq (tgt := 32) hx hb dX4_bestReader_25 (by decide +kernel) (fun h9 => absurd h9 (by decide +kernel)) (fun _ => ?_)
          refine lv_iconst (v := (-1)) hx hb (g_2 bX4_bestReader rfl) (by decide +kernel) ?_
          refine lv_goto (tgt := 39) hx hb dX4_bestReader_29 (by decide +kernel) ?_
          refine lv_istore (lv' := [(5, .int (-1)), (4, .int (nI j_4)), (3, .int xM_6), (2, .int xB_5), (0, .ref qt), (1, .int (nI kB))]) hx hb (g_54 (v := 5) bX4_bestReader rfl) hl (by decide +kernel) rfl (fun ls => ?_)
          clear hl
          intro hl
          refine lv_iload hx hb (g_21 (v := 5) bX4_bestReader rfl) (lv_at hl 0 rfl) ?_
          refine lv_iconst (v := (-1)) hx hb (g_2 bX4_bestReader rfl) (by decide +kernel) ?_
          refine lv_icmp_eq (tgt := 86) hx hb dX4_bestReader_44 (by decide +kernel) (fun _ => ?_) (fun h9 => absurd (by decide +kernel) h9)
          refine lv_iinc (v := nI (j_4 + 1)) (lv' := [(4, .int (nI (j_4 + 1))), (5, .int (-1)), (3, .int xM_6), (2, .int xB_5), (0, .ref qt), (1, .int (nI kB))]) hx hb dX4_bestReader_86 hl (k := 1) rfl (nI_1 _) (by decide +kernel) rfl (fun ls => ?_)
          clear hl
          intro hl
          refine lv_goto (tgt := 7) hx hb dX4_bestReader_89 (by decide +kernel) ?_
          exact ih_3 (j_4 + 1) xB_5 xM_6 (by omega) (by omega) (by rw [br_skip (fun q => by rw [h_16] at q; exact absurd q.1 (by decide +kernel))]; exact hxB_8) (by rw [br_skip (fun q => by rw [h_16] at q; exact absurd q.1 (by decide +kernel))]; exact hxM_9) _ (lv_sub hl [0, 2, 3, 4, 5] rfl)
        · rw [bit_wb _ (by omega)] at h_16
          refine lv_if_eq (tgt := 32) hx hb dX4_bestReader_25 (by decide +kernel) (fun _ => ?_) (fun h9 => absurd (by decide +kernel) h9)
          refine lv_aload_n hx hb (g_42 bX4_bestReader rfl) rfl (lv_at hl 3 rfl) ?_
          refine lv_iload hx hb (g_21 (v := 4) bX4_bestReader rfl) (lv_at hl 0 rfl) ?_
          refine lv_iload_n hx hb (g_27 bX4_bestReader rfl) rfl (lv_at hl 4 rfl) ?_
          refine kRi (rV (As := [.int (nI j_4), .int (nI kB)]) (rest := []) (b := qt) ⟨hx, hb, hml, hown, hts⟩ (c_X4_wouldKnow l G cy qt tA qtw qtn qtg qta qtr qtm qtt qts j_4 kB (by omega) hJ) L_X4_91 (preRV (q := (RX4, TX4, 13)) hN hP (trueIx 0 [true, false, true, true, false, true, false, false, true]) (sel_fm rfl rfl) 0 3 rfl rfl) rfl ⟨Nat.le_of_ble_eq_true rfl, Nat.le_of_ble_eq_true rfl⟩ hl.1 (Nat.le_of_ble_eq_true rfl) (g_182 (v := 91) bX4_bestReader rfl) ⟨Nat.le_of_ble_eq_true rfl, Nat.le_of_ble_eq_true rfl⟩) (fun r_20 h_21 => ?_)
          subst h_21
          refine lv_istore (lv' := [(5, .int (zwk tA j_4 kB)), (4, .int (nI j_4)), (3, .int xM_6), (2, .int xB_5), (0, .ref qt), (1, .int (nI kB))]) hx hb (g_54 (v := 5) bX4_bestReader rfl) hl (by decide +kernel) rfl (fun ls => ?_)
          clear hl
          intro hl
          refine lv_iload hx hb (g_21 (v := 5) bX4_bestReader rfl) (lv_at hl 0 rfl) ?_
          refine lv_iconst (v := (-1)) hx hb (g_2 bX4_bestReader rfl) (by decide +kernel) ?_
          refine lv_icmp_eq (tgt := 86) hx hb dX4_bestReader_44 (by decide +kernel) (fun c_22 => ?_) (fun c_22 => ?_)
          · refine lv_iinc (v := nI (j_4 + 1)) (lv' := [(4, .int (nI (j_4 + 1))), (5, .int (zwk tA j_4 kB)), (3, .int xM_6), (2, .int xB_5), (0, .ref qt), (1, .int (nI kB))]) hx hb dX4_bestReader_86 hl (k := 1) rfl (nI_1 _) (by decide +kernel) rfl (fun ls => ?_)
            clear hl
            intro hl
            refine lv_goto (tgt := 7) hx hb dX4_bestReader_89 (by decide +kernel) ?_
            exact ih_3 (j_4 + 1) xB_5 xM_6 (by omega) (by omega) (by rw [br_skip (fun q => q.2.1 c_22)]; exact hxB_8) (by rw [br_skip (fun q => q.2.1 c_22)]; exact hxM_9) _ (lv_sub hl [0, 2, 3, 4, 5] rfl)
          · refine lv_iload_n hx hb (g_28 bX4_bestReader rfl) rfl (lv_at hl 3 rfl) ?_
            refine lv_iconst (v := (-1)) hx hb (g_2 bX4_bestReader rfl) (by decide +kernel) ?_
            refine lv_icmp_eq (tgt := 80) hx hb dX4_bestReader_49 (by decide +kernel) (fun c_23 => ?_) (fun c_23 => ?_)
            · refine lv_iload hx hb (g_21 (v := 4) bX4_bestReader rfl) (lv_at hl 1 rfl) ?_
              refine lv_istore_n (lv' := [(2, .int (nI j_4)), (5, .int (zwk tA j_4 kB)), (4, .int (nI j_4)), (3, .int xM_6), (0, .ref qt), (1, .int (nI kB))]) hx hb (g_61 bX4_bestReader rfl) rfl hl (by decide +kernel) rfl (fun ls => ?_)
              clear hl
              intro hl
              refine lv_iload hx hb (g_21 (v := 5) bX4_bestReader rfl) (lv_at hl 1 rfl) ?_
              refine lv_istore_n (lv' := [(3, .int (zwk tA j_4 kB)), (2, .int (nI j_4)), (5, .int (zwk tA j_4 kB)), (4, .int (nI j_4)), (0, .ref qt), (1, .int (nI kB))]) hx hb (g_62 bX4_bestReader rfl) rfl hl (by decide +kernel) rfl (fun ls => ?_)
              clear hl
              intro hl
              refine lv_iinc (v := nI (j_4 + 1)) (lv' := [(4, .int (nI (j_4 + 1))), (3, .int (zwk tA j_4 kB)), (2, .int (nI j_4)), (5, .int (zwk tA j_4 kB)), (0, .ref qt), (1, .int (nI kB))]) hx hb dX4_bestReader_86 hl (k := 3) rfl (nI_1 _) (by decide +kernel) rfl (fun ls => ?_)
              clear hl
              intro hl
              refine lv_goto (tgt := 7) hx hb dX4_bestReader_89 (by decide +kernel) ?_
              exact ih_3 (j_4 + 1) (nI j_4) (zwk tA j_4 kB) (by omega) (by omega) (by rw [br_upd ⟨h_16, c_22, Or.inl (hxB_8 ▸ c_23)⟩]) (by rw [br_upd ⟨h_16, c_22, Or.inl (hxB_8 ▸ c_23)⟩]) _ (lv_sub hl [0, 1, 2, 4, 5] rfl)
            · refine lv_iload hx hb (g_21 (v := 5) bX4_bestReader rfl) (lv_at hl 0 rfl) ?_
              refine lv_iload_n hx hb (g_29 bX4_bestReader rfl) rfl (lv_at hl 2 rfl) ?_
              refine lv_icmp_gt (tgt := 80) hx hb dX4_bestReader_55 (by decide +kernel) (fun c_24 => ?_) (fun c_24 => ?_)
              · refine lv_iload hx hb (g_21 (v := 4) bX4_bestReader rfl) (lv_at hl 1 rfl) ?_
                refine lv_istore_n (lv' := [(2, .int (nI j_4)), (5, .int (zwk tA j_4 kB)), (4, .int (nI j_4)), (3, .int xM_6), (0, .ref qt), (1, .int (nI kB))]) hx hb (g_61 bX4_bestReader rfl) rfl hl (by decide +kernel) rfl (fun ls => ?_)
                clear hl
                intro hl
                refine lv_iload hx hb (g_21 (v := 5) bX4_bestReader rfl) (lv_at hl 1 rfl) ?_
                refine lv_istore_n (lv' := [(3, .int (zwk tA j_4 kB)), (2, .int (nI j_4)), (5, .int (zwk tA j_4 kB)), (4, .int (nI j_4)), (0, .ref qt), (1, .int (nI kB))]) hx hb (g_62 bX4_bestReader rfl) rfl hl (by decide +kernel) rfl (fun ls => ?_)
                clear hl
                intro hl
                refine lv_iinc (v := nI (j_4 + 1)) (lv' := [(4, .int (nI (j_4 + 1))), (3, .int (zwk tA j_4 kB)), (2, .int (nI j_4)), (5, .int (zwk tA j_4 kB)), (0, .ref qt), (1, .int (nI kB))]) hx hb dX4_bestReader_86 hl (k := 3) rfl (nI_1 _) (by decide +kernel) rfl (fun ls => ?_)
                clear hl
                intro hl
                refine lv_goto (tgt := 7) hx hb dX4_bestReader_89 (by decide +kernel) ?_
                exact ih_3 (j_4 + 1) (nI j_4) (zwk tA j_4 kB) (by omega) (by omega) (by rw [br_upd ⟨h_16, c_22, Or.inr (Or.inl (hxM_9 ▸ c_24))⟩]) (by rw [br_upd ⟨h_16, c_22, Or.inr (Or.inl (hxM_9 ▸ c_24))⟩]) _ (lv_sub hl [0, 1, 2, 4, 5] rfl)
              · refine lv_iload hx hb (g_21 (v := 5) bX4_bestReader rfl) (lv_at hl 0 rfl) ?_
                refine lv_iload_n hx hb (g_29 bX4_bestReader rfl) rfl (lv_at hl 2 rfl) ?_
                refine lv_icmp_ne (tgt := 86) hx hb dX4_bestReader_61 (by decide +kernel) (fun c_25 => ?_) (fun c_25 => ?_)
                · refine lv_iinc (v := nI (j_4 + 1)) (lv' := [(4, .int (nI (j_4 + 1))), (5, .int (zwk tA j_4 kB)), (3, .int xM_6), (2, .int xB_5), (0, .ref qt), (1, .int (nI kB))]) hx hb dX4_bestReader_86 hl (k := 1) rfl (nI_1 _) (by decide +kernel) rfl (fun ls => ?_)
                  clear hl
                  intro hl
                  refine lv_goto (tgt := 7) hx hb dX4_bestReader_89 (by decide +kernel) ?_
                  exact ih_3 (j_4 + 1) xB_5 xM_6 (by omega) (by omega) (by rw [br_skip (fun q => q.2.2.elim (fun r => c_23 (hxB_8.trans r)) (fun r => r.elim (fun r => c_24 (hxM_9 ▸ r)) (fun r => c_25 (r.1.trans hxM_9.symm))))]; exact hxB_8) (by rw [br_skip (fun q => q.2.2.elim (fun r => c_23 (hxB_8.trans r)) (fun r => r.elim (fun r => c_24 (hxM_9 ▸ r)) (fun r => c_25 (r.1.trans hxM_9.symm))))]; exact hxM_9) _ (lv_sub hl [0, 2, 3, 4, 5] rfl)
                · refine lv_aload_n hx hb (g_42 bX4_bestReader rfl) rfl (lv_at hl 4 rfl) ?_
                  refine va_get (D := G) (ci := 3) (v := .ref qta) (C := RX4) (T := TX4) (N := 13) hx hb hts iX_X4 hown hK hP 0 rfl rfl 8 (by decide +kernel) (hts _ m_t56) (fun _ h9 => h9) rfl (g_180 (v := 25) bX4_bestReader rfl) ?_
                  refine lv_iload hx hb (g_21 (v := 4) bX4_bestReader rfl) (lv_at hl 1 rfl) ?_
                  refine va_iald hx hb hK hP 4 0 rfl rfl (in8 (by omega)) (g_46 bX4_bestReader rfl) ?_
                  refine lv_seti (v := (T_ag tA) j_4) (congrArg (T_ag tA) (cl8 (by omega))) ?_
                  refine lv_aload_n hx hb (g_42 bX4_bestReader rfl) rfl (lv_at hl 4 rfl) ?_
                  refine va_get (D := G) (ci := 3) (v := .ref qta) (C := RX4) (T := TX4) (N := 13) hx hb hts iX_X4 hown hK hP 0 rfl rfl 8 (by decide +kernel) (hts _ m_t56) (fun _ h9 => h9) rfl (g_180 (v := 25) bX4_bestReader rfl) ?_
                  refine lv_iload_n hx hb (g_28 bX4_bestReader rfl) rfl (lv_at hl 3 rfl) ?_
                  obtain ⟨k_26, hk_27, ek_28⟩ : ∃ k : Nat, k < j_4 ∧ xB_5 = nI k := by
                    rcases br_in tA kB j_4 with q | ⟨k, h1, h2⟩
                    · exact absurd (hxB_8.trans q) c_23
                    · exact ⟨k, h1, hxB_8.trans h2⟩
                  refine lv_seti (v := nI k_26) ek_28 ?_
                  refine va_iald hx hb hK hP 4 0 rfl rfl (in8 (by omega)) (g_46 bX4_bestReader rfl) ?_
                  refine lv_seti (v := (T_ag tA) k_26) (congrArg (T_ag tA) (cl8 (by omega))) ?_
                  refine lv_icmp_ge (tgt := 86) hx hb dX4_bestReader_77 (by decide +kernel) (fun c_29 => ?_) (fun c_29 => ?_)
                  · refine lv_iinc (v := nI (j_4 + 1)) (lv' := [(4, .int (nI (j_4 + 1))), (5, .int (zwk tA j_4 kB)), (3, .int xM_6), (2, .int xB_5), (0, .ref qt), (1, .int (nI kB))]) hx hb dX4_bestReader_86 hl (k := 1) rfl (nI_1 _) (by decide +kernel) rfl (fun ls => ?_)
                    clear hl
                    intro hl
                    refine lv_goto (tgt := 7) hx hb dX4_bestReader_89 (by decide +kernel) ?_
                    exact ih_3 (j_4 + 1) xB_5 xM_6 (by omega) (by omega) (by rw [br_skip (fun q => q.2.2.elim (fun r => c_23 (hxB_8.trans r)) (fun r => r.elim (fun r => c_24 (hxM_9 ▸ r)) (fun r => by rw [← hxB_8, ek_28, nI_clamp (by omega)] at r; exact Int32.not_lt.mpr c_29 r.2)))]; exact hxB_8) (by rw [br_skip (fun q => q.2.2.elim (fun r => c_23 (hxB_8.trans r)) (fun r => r.elim (fun r => c_24 (hxM_9 ▸ r)) (fun r => by rw [← hxB_8, ek_28, nI_clamp (by omega)] at r; exact Int32.not_lt.mpr c_29 r.2)))]; exact hxM_9) _ (lv_sub hl [0, 2, 3, 4, 5] rfl)
                  · refine lv_iload hx hb (g_21 (v := 4) bX4_bestReader rfl) (lv_at hl 1 rfl) ?_
                    refine lv_istore_n (lv' := [(2, .int (nI j_4)), (5, .int (zwk tA j_4 kB)), (4, .int (nI j_4)), (3, .int xM_6), (0, .ref qt), (1, .int (nI kB))]) hx hb (g_61 bX4_bestReader rfl) rfl hl (by decide +kernel) rfl (fun ls => ?_)
                    clear hl
                    intro hl
                    refine lv_iload hx hb (g_21 (v := 5) bX4_bestReader rfl) (lv_at hl 1 rfl) ?_
                    refine lv_istore_n (lv' := [(3, .int (zwk tA j_4 kB)), (2, .int (nI j_4)), (5, .int (zwk tA j_4 kB)), (4, .int (nI j_4)), (0, .ref qt), (1, .int (nI kB))]) hx hb (g_62 bX4_bestReader rfl) rfl hl (by decide +kernel) rfl (fun ls => ?_)
                    clear hl
                    intro hl
                    refine lv_iinc (v := nI (j_4 + 1)) (lv' := [(4, .int (nI (j_4 + 1))), (3, .int (zwk tA j_4 kB)), (2, .int (nI j_4)), (5, .int (zwk tA j_4 kB)), (0, .ref qt), (1, .int (nI kB))]) hx hb dX4_bestReader_86 hl (k := 3) rfl (nI_1 _) (by decide +kernel) rfl (fun ls => ?_)
                    clear hl
                    intro hl
                    refine lv_goto (tgt := 7) hx hb dX4_bestReader_89 (by decide +kernel) ?_
                    exact ih_3 (j_4 + 1) (nI j_4) (zwk tA j_4 kB) (by omega) (by omega) (by rw [br_upd ⟨h_16, c_22, Or.inr (Or.inr ⟨c_25.trans hxM_9, by rw [← hxB_8, ek_28, nI_clamp (by omega)]; exact Int32.not_le.mp c_29⟩)⟩]) (by rw [br_upd ⟨h_16, c_22, Or.inr (Or.inr ⟨c_25.trans hxM_9, by rw [← hxB_8, ek_28, nI_clamp (by omega)]; exact Int32.not_le.mp c_29⟩)⟩]) _ (lv_sub hl [0, 1, 2, 4, 5] rfl)
  exact lp_1 ((8 - 0) + 1) 0 (-1) 0 (Nat.lt_succ_self _) (Nat.zero_le _) rfl rfl ls (lv_sub hl [0, 1, 2, 3, 4] rfl)
set_option maxHeartbeats 4000000 in
set_option maxRecDepth 100000 in
theorem c_X4_dearestUnread (l : Launch) (G : va_G) (cy : Nat → ClassId) (qt : Nat) (tA : TA) (qtw : Nat) (qtn : Nat) (qtg : Nat) (qta : Nat) (qtr : Nat) (qtm : Nat) (qtt : Nat) (qts : Nat)  (hB : T_nb tA ≤ 8) : MR l yX4_dearestUnread cX4_dearestUnread 3 (some .int) 2 G cy [zzO qt 3 [.int (nI (T_nb tA)), .int (nI (T_np tA)), .int (wb (T_wh tA)), .int (wb (T_gn tA)), .int (T_sd tA), .ref qtw, .ref qtn, .ref qtg, .ref qta, .ref qtr, .ref qtm, .ref qtt, .ref qts], zzI cy qtw 8 (T_wo tA), zzI cy qtn 8 (T_ne tA), zzI cy qtg 8 (T_go tA), zzI cy qta 8 (T_ag tA), zzI cy qtr 8 (T_re tA), zzI cy qtm 8 (T_me tA), zzI cy qtt 8 (T_te tA), zzI cy qts 64 (shF (T_kn tA))] [.ref qt] (vp_Si (fun r => (r = (zdu tA)))) := by
  refine enR RX4 (by decide +kernel) rfl (Nat.le_of_ble_eq_true rfl) (fun p e s m below meth c ls hx hb hml hown hts hr hlocks hP hN hl => ?_)
  have hK := hN.1
  replace hl : lv_has ls 3 [(0, .ref qt)] := hl
  refine lv_iconst (v := (-1)) hx hb (g_2 bX4_dearestUnread rfl) (by decide +kernel) ?_
  refine lv_istore_n (lv' := [(1, .int (-1)), (0, .ref qt)]) hx hb (g_60 bX4_dearestUnread rfl) rfl hl (by decide +kernel) rfl (fun ls => ?_)
  clear hl
  intro hl
  refine lv_iconst (v := 0) hx hb (g_3 bX4_dearestUnread rfl) (by decide +kernel) ?_
  refine lv_istore_n (lv' := [(2, .int 0), (1, .int (-1)), (0, .ref qt)]) hx hb (g_61 bX4_dearestUnread rfl) rfl hl (by decide +kernel) rfl (fun ls => ?_)
  clear hl
  intro hl
  have lp_1 : ∀ (n_2 : Nat) (j_4 : Nat) (xB_5 : Int32), 8 - j_4 < n_2 → j_4 ≤ T_nb tA → xB_5 = duF tA j_4 → ∀ (ls : Array Slot), lv_has ls 3 [(2, .int (nI j_4)), (1, .int xB_5), (0, .ref qt)] → W p l e (Rm 2 0 0) s m (List.toArray (α := Value) [.ref qt]) below meth c s.heap [] 0 0 (MQ below (vp_Si (fun r => (r = (zdu tA)))) (List.toArray (α := Value) [.ref qt]) s 0 0 (fun _ => False)) (F0 m 4 ls []) := by
    intro n_2
    induction n_2 with
    | zero => intro j_4 xB_5 hm9; exact absurd hm9 (Nat.not_lt_zero _)
    | succ n_2 ih_3 =>
      intro j_4 xB_5 hm_8 hj_6 hxB_7 ls hl
      refine lv_iload_n hx hb (g_28 bX4_dearestUnread rfl) rfl (lv_at hl 0 rfl) ?_
      refine lv_aload_n hx hb (g_42 bX4_dearestUnread rfl) rfl (lv_at hl 2 rfl) ?_
      refine va_get (D := G) (ci := 3) (v := .int (nI (T_nb tA))) (C := RX4) (T := TX4) (N := 13) hx hb hts iX_X4 hown hK hP 0 rfl rfl 0 (by decide +kernel) (hts _ m_t29) (fun _ h9 => h9) rfl (g_180 (v := 40) bX4_dearestUnread rfl) ?_
      refine lv_icmp_ge (tgt := 51) hx hb dX4_dearestUnread_9 (by decide +kernel) (fun c_9 => ?_) (fun c_9 => ?_)
      · have hlt_10 : j_4 = T_nb tA := Nat.le_antisymm (by omega) (lp_ge rfl rfl (by omega) (by omega) c_9)
        refine lv_iload_n hx hb (g_27 bX4_dearestUnread rfl) rfl (lv_at hl 1 rfl) ?_
        exact endR hx hb hr hlocks rfl (by rw [hxB_7, hlt_10]; rfl) (g_172 bX4_dearestUnread rfl)
      · have hlt_11 : j_4 < T_nb tA := lp_lt rfl rfl (by omega) (by omega) c_9
        refine lv_aload_n hx hb (g_42 bX4_dearestUnread rfl) rfl (lv_at hl 2 rfl) ?_
        refine va_get (D := G) (ci := 3) (v := .int (wb (T_wh tA))) (C := RX4) (T := TX4) (N := 13) hx hb hts iX_X4 hown hK hP 0 rfl rfl 2 (by decide +kernel) (hts _ m_t39) (fun _ h9 => h9) rfl (g_180 (v := 46) bX4_dearestUnread rfl) ?_
        refine lv_iload_n hx hb (g_28 bX4_dearestUnread rfl) rfl (lv_at hl 0 rfl) ?_
        refine kRi (rSN (As := [.int (wb (T_wh tA)), .int (nI j_4)]) (rest := []) ⟨hx, hb, hml, hown, hts⟩ hN (c_X5_has l G cy (wb (T_wh tA)) j_4) L_X4_62 (preRS hN hP [] rfl) rfl ⟨Nat.le_of_ble_eq_true rfl, Nat.le_of_ble_eq_true rfl⟩ hl.1 (Nat.le_of_ble_eq_true rfl) (g_184 (v := 62) bX4_dearestUnread rfl) ⟨Nat.le_of_ble_eq_true rfl, Nat.le_of_ble_eq_true rfl⟩) (fun r_12 h_13 => ?_)
        rcases h_13 with ⟨rfl, h_14⟩ | ⟨rfl, h_14⟩
        · rw [bit_wb _ (by omega)] at h_14
          refine lv_if_ne (tgt := 45) hx hb dX4_dearestUnread_20 (by decide +kernel) (fun _ => ?_) (fun h9 => absurd h9 (by decide +kernel))
          refine lv_iinc (v := nI (j_4 + 1)) (lv' := [(2, .int (nI (j_4 + 1))), (1, .int xB_5), (0, .ref qt)]) hx hb dX4_dearestUnread_45 hl (k := 0) rfl (nI_1 _) (by decide +kernel) rfl (fun ls => ?_)
          clear hl
          intro hl
          refine lv_goto (tgt := 4) hx hb dX4_dearestUnread_48 (by decide +kernel) ?_
          exact ih_3 (j_4 + 1) xB_5 (by omega) (by omega) (by rw [du_skip (fun q => by rw [h_14] at q; exact absurd q.1 (by decide +kernel))]; exact hxB_7) _ (lv_sub hl [0, 1, 2] rfl)
        · rw [bit_wb _ (by omega)] at h_14
          refine lv_if_ne (tgt := 45) hx hb dX4_dearestUnread_20 (by decide +kernel) (fun h9 => absurd (by decide +kernel) h9) (fun _ => ?_)
          refine lv_iload_n hx hb (g_27 bX4_dearestUnread rfl) rfl (lv_at hl 1 rfl) ?_
          refine lv_iconst (v := (-1)) hx hb (g_2 bX4_dearestUnread rfl) (by decide +kernel) ?_
          refine lv_icmp_eq (tgt := 43) hx hb dX4_dearestUnread_25 (by decide +kernel) (fun c_17 => ?_) (fun c_17 => ?_)
          · refine lv_iload_n hx hb (g_28 bX4_dearestUnread rfl) rfl (lv_at hl 0 rfl) ?_
            refine lv_istore_n (lv' := [(1, .int (nI j_4)), (2, .int (nI j_4)), (0, .ref qt)]) hx hb (g_60 bX4_dearestUnread rfl) rfl hl (by decide +kernel) rfl (fun ls => ?_)
            clear hl
            intro hl
            refine lv_iinc (v := nI (j_4 + 1)) (lv' := [(2, .int (nI (j_4 + 1))), (1, .int (nI j_4)), (0, .ref qt)]) hx hb dX4_dearestUnread_45 hl (k := 1) rfl (nI_1 _) (by decide +kernel) rfl (fun ls => ?_)
            clear hl
            intro hl
            refine lv_goto (tgt := 4) hx hb dX4_dearestUnread_48 (by decide +kernel) ?_
            exact ih_3 (j_4 + 1) (nI j_4) (by omega) (by omega) (by rw [du_upd ⟨h_14, Or.inl (hxB_7 ▸ c_17)⟩]) _ (lv_sub hl [0, 1, 2] rfl)
          · refine lv_aload_n hx hb (g_42 bX4_dearestUnread rfl) rfl (lv_at hl 2 rfl) ?_
            refine va_get (D := G) (ci := 3) (v := .ref qtw) (C := RX4) (T := TX4) (N := 13) hx hb hts iX_X4 hown hK hP 0 rfl rfl 5 (by decide +kernel) (hts _ m_t48) (fun _ h9 => h9) rfl (g_180 (v := 15) bX4_dearestUnread rfl) ?_
            refine lv_iload_n hx hb (g_28 bX4_dearestUnread rfl) rfl (lv_at hl 0 rfl) ?_
            refine va_iald hx hb hK hP 1 0 rfl rfl (in8 (by omega)) (g_46 bX4_dearestUnread rfl) ?_
            refine lv_seti (v := (T_wo tA) j_4) (congrArg (T_wo tA) (cl8 (by omega))) ?_
            refine lv_aload_n hx hb (g_42 bX4_dearestUnread rfl) rfl (lv_at hl 2 rfl) ?_
            refine va_get (D := G) (ci := 3) (v := .ref qtw) (C := RX4) (T := TX4) (N := 13) hx hb hts iX_X4 hown hK hP 0 rfl rfl 5 (by decide +kernel) (hts _ m_t48) (fun _ h9 => h9) rfl (g_180 (v := 15) bX4_dearestUnread rfl) ?_
            refine lv_iload_n hx hb (g_27 bX4_dearestUnread rfl) rfl (lv_at hl 1 rfl) ?_
            obtain ⟨k_18, hk_19, ek_20⟩ : ∃ k : Nat, k < j_4 ∧ xB_5 = nI k := by
              rcases du_in tA j_4 with q | ⟨k, h1, h2⟩
              · exact absurd (hxB_7.trans q) c_17
              · exact ⟨k, h1, hxB_7.trans h2⟩
            refine lv_seti (v := nI k_18) ek_20 ?_
            refine va_iald hx hb hK hP 1 0 rfl rfl (in8 (by omega)) (g_46 bX4_dearestUnread rfl) ?_
            refine lv_seti (v := (T_wo tA) k_18) (congrArg (T_wo tA) (cl8 (by omega))) ?_
            refine lv_icmp_le (tgt := 45) hx hb dX4_dearestUnread_40 (by decide +kernel) (fun c_21 => ?_) (fun c_21 => ?_)
            · refine lv_iinc (v := nI (j_4 + 1)) (lv' := [(2, .int (nI (j_4 + 1))), (1, .int xB_5), (0, .ref qt)]) hx hb dX4_dearestUnread_45 hl (k := 0) rfl (nI_1 _) (by decide +kernel) rfl (fun ls => ?_)
              clear hl
              intro hl
              refine lv_goto (tgt := 4) hx hb dX4_dearestUnread_48 (by decide +kernel) ?_
              exact ih_3 (j_4 + 1) xB_5 (by omega) (by omega) (by rw [du_skip (fun q => q.2.elim (fun r => c_17 (hxB_7.trans r)) (fun r => by rw [← hxB_7, ek_20, nI_clamp (by omega)] at r; exact Int32.not_lt.mpr c_21 r))]; exact hxB_7) _ (lv_sub hl [0, 1, 2] rfl)
            · refine lv_iload_n hx hb (g_28 bX4_dearestUnread rfl) rfl (lv_at hl 0 rfl) ?_
              refine lv_istore_n (lv' := [(1, .int (nI j_4)), (2, .int (nI j_4)), (0, .ref qt)]) hx hb (g_60 bX4_dearestUnread rfl) rfl hl (by decide +kernel) rfl (fun ls => ?_)
              clear hl
              intro hl
              refine lv_iinc (v := nI (j_4 + 1)) (lv' := [(2, .int (nI (j_4 + 1))), (1, .int (nI j_4)), (0, .ref qt)]) hx hb dX4_dearestUnread_45 hl (k := 1) rfl (nI_1 _) (by decide +kernel) rfl (fun ls => ?_)
              clear hl
              intro hl
              refine lv_goto (tgt := 4) hx hb dX4_dearestUnread_48 (by decide +kernel) ?_
              exact ih_3 (j_4 + 1) (nI j_4) (by omega) (by omega) (by rw [du_upd ⟨h_14, Or.inr (by rw [← hxB_7, ek_20, nI_clamp (by omega)]; exact Int32.not_le.mp c_21)⟩]) _ (lv_sub hl [0, 1, 2] rfl)
  exact lp_1 ((8 - 0) + 1) 0 (-1) (Nat.lt_succ_self _) (Nat.zero_le _) rfl ls (lv_sub hl [0, 1, 2] rfl)
set_option maxHeartbeats 4000000 in
set_option maxRecDepth 100000 in
theorem c_X4_youngestBut (l : Launch) (G : va_G) (cy : Nat → ClassId) (qt : Nat) (tA : TA) (qtw : Nat) (qtn : Nat) (qtg : Nat) (qta : Nat) (qtr : Nat) (qtm : Nat) (qtt : Nat) (qts : Nat) (iO : Int32)  (hPp : T_np tA ≤ 8) : MR l yX4_youngestBut cX4_youngestBut 4 (some .int) 2 G cy [zzO qt 3 [.int (nI (T_nb tA)), .int (nI (T_np tA)), .int (wb (T_wh tA)), .int (wb (T_gn tA)), .int (T_sd tA), .ref qtw, .ref qtn, .ref qtg, .ref qta, .ref qtr, .ref qtm, .ref qtt, .ref qts], zzI cy qtw 8 (T_wo tA), zzI cy qtn 8 (T_ne tA), zzI cy qtg 8 (T_go tA), zzI cy qta 8 (T_ag tA), zzI cy qtr 8 (T_re tA), zzI cy qtm 8 (T_me tA), zzI cy qtt 8 (T_te tA), zzI cy qts 64 (shF (T_kn tA))] [.ref qt, .int iO] (vp_Si (fun r => (r = (zyb tA iO)))) := by
  refine enR RX4 (by decide +kernel) rfl (Nat.le_of_ble_eq_true rfl) (fun p e s m below meth c ls hx hb hml hown hts hr hlocks hP hN hl => ?_)
  have hK := hN.1
  replace hl : lv_has ls 4 [(0, .ref qt), (1, .int iO)] := hl
  refine lv_iconst (v := (-1)) hx hb (g_2 bX4_youngestBut rfl) (by decide +kernel) ?_
  refine lv_istore_n (lv' := [(2, .int (-1)), (0, .ref qt), (1, .int iO)]) hx hb (g_61 bX4_youngestBut rfl) rfl hl (by decide +kernel) rfl (fun ls => ?_)
  clear hl
  intro hl
  refine lv_iconst (v := 0) hx hb (g_3 bX4_youngestBut rfl) (by decide +kernel) ?_
  refine lv_istore_n (lv' := [(3, .int 0), (2, .int (-1)), (0, .ref qt), (1, .int iO)]) hx hb (g_62 bX4_youngestBut rfl) rfl hl (by decide +kernel) rfl (fun ls => ?_)
  clear hl
  intro hl
  have lp_1 : ∀ (n_2 : Nat) (j_4 : Nat) (xB_5 : Int32), 8 - j_4 < n_2 → j_4 ≤ T_np tA → xB_5 = ybF tA iO j_4 → ∀ (ls : Array Slot), lv_has ls 4 [(3, .int (nI j_4)), (2, .int xB_5), (0, .ref qt), (1, .int iO)] → W p l e (Rm 2 0 0) s m (List.toArray (α := Value) [.ref qt, .int iO]) below meth c s.heap [] 0 0 (MQ below (vp_Si (fun r => (r = (zyb tA iO)))) (List.toArray (α := Value) [.ref qt, .int iO]) s 0 0 (fun _ => False)) (F0 m 4 ls []) := by
    intro n_2
    induction n_2 with
    | zero => intro j_4 xB_5 hm9; exact absurd hm9 (Nat.not_lt_zero _)
    | succ n_2 ih_3 =>
      intro j_4 xB_5 hm_8 hj_6 hxB_7 ls hl
      refine lv_iload_n hx hb (g_29 bX4_youngestBut rfl) rfl (lv_at hl 0 rfl) ?_
      refine lv_aload_n hx hb (g_42 bX4_youngestBut rfl) rfl (lv_at hl 2 rfl) ?_
      refine va_get (D := G) (ci := 3) (v := .int (nI (T_np tA))) (C := RX4) (T := TX4) (N := 13) hx hb hts iX_X4 hown hK hP 0 rfl rfl 1 (by decide +kernel) (hts _ m_t34) (fun _ h9 => h9) rfl (g_180 (v := 43) bX4_youngestBut rfl) ?_
      refine lv_icmp_ge (tgt := 56) hx hb dX4_youngestBut_9 (by decide +kernel) (fun c_9 => ?_) (fun c_9 => ?_)
      · have hlt_10 : j_4 = T_np tA := Nat.le_antisymm (by omega) (lp_ge rfl rfl (by omega) (by omega) c_9)
        refine lv_iload_n hx hb (g_28 bX4_youngestBut rfl) rfl (lv_at hl 1 rfl) ?_
        exact endR hx hb hr hlocks rfl (by rw [hxB_7, hlt_10]; rfl) (g_172 bX4_youngestBut rfl)
      · have hlt_11 : j_4 < T_np tA := lp_lt rfl rfl (by omega) (by omega) c_9
        refine lv_iload_n hx hb (g_29 bX4_youngestBut rfl) rfl (lv_at hl 0 rfl) ?_
        refine lv_iload_n hx hb (g_27 bX4_youngestBut rfl) rfl (lv_at hl 3 rfl) ?_
        refine lv_icmp_eq (tgt := 50) hx hb dX4_youngestBut_14 (by decide +kernel) (fun c_12 => ?_) (fun c_12 => ?_)
        · refine lv_iinc (v := nI (j_4 + 1)) (lv' := [(3, .int (nI (j_4 + 1))), (2, .int xB_5), (0, .ref qt), (1, .int iO)]) hx hb dX4_youngestBut_50 hl (k := 0) rfl (nI_1 _) (by decide +kernel) rfl (fun ls => ?_)
          clear hl
          intro hl
          refine lv_goto (tgt := 4) hx hb dX4_youngestBut_53 (by decide +kernel) ?_
          exact ih_3 (j_4 + 1) xB_5 (by omega) (by omega) (by rw [yb_skip (fun q => q.1 c_12)]; exact hxB_7) _ (lv_sub hl [0, 1, 2, 3] rfl)
        · refine lv_aload_n hx hb (g_42 bX4_youngestBut rfl) rfl (lv_at hl 2 rfl) ?_
          refine va_get (D := G) (ci := 3) (v := .int (wb (T_gn tA))) (C := RX4) (T := TX4) (N := 13) hx hb hts iX_X4 hown hK hP 0 rfl rfl 3 (by decide +kernel) (hts _ m_t43) (fun _ h9 => h9) rfl (g_180 (v := 49) bX4_youngestBut rfl) ?_
          refine lv_iload_n hx hb (g_29 bX4_youngestBut rfl) rfl (lv_at hl 0 rfl) ?_
          refine kRi (rSN (As := [.int (wb (T_gn tA)), .int (nI j_4)]) (rest := []) ⟨hx, hb, hml, hown, hts⟩ hN (c_X5_has l G cy (wb (T_gn tA)) j_4) L_X4_62 (preRS hN hP [] rfl) rfl ⟨Nat.le_of_ble_eq_true rfl, Nat.le_of_ble_eq_true rfl⟩ hl.1 (Nat.le_of_ble_eq_true rfl) (g_184 (v := 62) bX4_youngestBut rfl) ⟨Nat.le_of_ble_eq_true rfl, Nat.le_of_ble_eq_true rfl⟩) (fun r_13 h_14 => ?_)
          rcases h_14 with ⟨rfl, h_15⟩ | ⟨rfl, h_15⟩
          · rw [bit_wb _ (by omega)] at h_15
            refine lv_if_ne (tgt := 50) hx hb dX4_youngestBut_25 (by decide +kernel) (fun _ => ?_) (fun h9 => absurd h9 (by decide +kernel))
            refine lv_iinc (v := nI (j_4 + 1)) (lv' := [(3, .int (nI (j_4 + 1))), (2, .int xB_5), (0, .ref qt), (1, .int iO)]) hx hb dX4_youngestBut_50 hl (k := 0) rfl (nI_1 _) (by decide +kernel) rfl (fun ls => ?_)
            clear hl
            intro hl
            refine lv_goto (tgt := 4) hx hb dX4_youngestBut_53 (by decide +kernel) ?_
            exact ih_3 (j_4 + 1) xB_5 (by omega) (by omega) (by rw [yb_skip (fun q => by rw [h_15] at q; exact absurd q.2.1 (by decide +kernel))]; exact hxB_7) _ (lv_sub hl [0, 1, 2, 3] rfl)
          · rw [bit_wb _ (by omega)] at h_15
            refine lv_if_ne (tgt := 50) hx hb dX4_youngestBut_25 (by decide +kernel) (fun h9 => absurd (by decide +kernel) h9) (fun _ => ?_)
            refine lv_iload_n hx hb (g_28 bX4_youngestBut rfl) rfl (lv_at hl 1 rfl) ?_
            refine lv_iconst (v := (-1)) hx hb (g_2 bX4_youngestBut rfl) (by decide +kernel) ?_
            refine lv_icmp_eq (tgt := 48) hx hb dX4_youngestBut_30 (by decide +kernel) (fun c_18 => ?_) (fun c_18 => ?_)
            · refine lv_iload_n hx hb (g_29 bX4_youngestBut rfl) rfl (lv_at hl 0 rfl) ?_
              refine lv_istore_n (lv' := [(2, .int (nI j_4)), (3, .int (nI j_4)), (0, .ref qt), (1, .int iO)]) hx hb (g_61 bX4_youngestBut rfl) rfl hl (by decide +kernel) rfl (fun ls => ?_)
              clear hl
              intro hl
              refine lv_iinc (v := nI (j_4 + 1)) (lv' := [(3, .int (nI (j_4 + 1))), (2, .int (nI j_4)), (0, .ref qt), (1, .int iO)]) hx hb dX4_youngestBut_50 hl (k := 1) rfl (nI_1 _) (by decide +kernel) rfl (fun ls => ?_)
              clear hl
              intro hl
              refine lv_goto (tgt := 4) hx hb dX4_youngestBut_53 (by decide +kernel) ?_
              exact ih_3 (j_4 + 1) (nI j_4) (by omega) (by omega) (by rw [yb_upd ⟨c_12, h_15, Or.inl (hxB_7 ▸ c_18)⟩]) _ (lv_sub hl [0, 1, 2, 3] rfl)
            · refine lv_aload_n hx hb (g_42 bX4_youngestBut rfl) rfl (lv_at hl 2 rfl) ?_
              refine va_get (D := G) (ci := 3) (v := .ref qta) (C := RX4) (T := TX4) (N := 13) hx hb hts iX_X4 hown hK hP 0 rfl rfl 8 (by decide +kernel) (hts _ m_t56) (fun _ h9 => h9) rfl (g_180 (v := 25) bX4_youngestBut rfl) ?_
              refine lv_iload_n hx hb (g_29 bX4_youngestBut rfl) rfl (lv_at hl 0 rfl) ?_
              refine va_iald hx hb hK hP 4 0 rfl rfl (in8 (by omega)) (g_46 bX4_youngestBut rfl) ?_
              refine lv_seti (v := (T_ag tA) j_4) (congrArg (T_ag tA) (cl8 (by omega))) ?_
              refine lv_aload_n hx hb (g_42 bX4_youngestBut rfl) rfl (lv_at hl 2 rfl) ?_
              refine va_get (D := G) (ci := 3) (v := .ref qta) (C := RX4) (T := TX4) (N := 13) hx hb hts iX_X4 hown hK hP 0 rfl rfl 8 (by decide +kernel) (hts _ m_t56) (fun _ h9 => h9) rfl (g_180 (v := 25) bX4_youngestBut rfl) ?_
              refine lv_iload_n hx hb (g_28 bX4_youngestBut rfl) rfl (lv_at hl 1 rfl) ?_
              obtain ⟨k_19, hk_20, ek_21⟩ : ∃ k : Nat, k < j_4 ∧ xB_5 = nI k := by
                rcases yb_in tA iO j_4 with q | ⟨k, h1, h2⟩
                · exact absurd (hxB_7.trans q) c_18
                · exact ⟨k, h1, hxB_7.trans h2⟩
              refine lv_seti (v := nI k_19) ek_21 ?_
              refine va_iald hx hb hK hP 4 0 rfl rfl (in8 (by omega)) (g_46 bX4_youngestBut rfl) ?_
              refine lv_seti (v := (T_ag tA) k_19) (congrArg (T_ag tA) (cl8 (by omega))) ?_
              refine lv_icmp_ge (tgt := 50) hx hb dX4_youngestBut_45 (by decide +kernel) (fun c_22 => ?_) (fun c_22 => ?_)
              · refine lv_iinc (v := nI (j_4 + 1)) (lv' := [(3, .int (nI (j_4 + 1))), (2, .int xB_5), (0, .ref qt), (1, .int iO)]) hx hb dX4_youngestBut_50 hl (k := 0) rfl (nI_1 _) (by decide +kernel) rfl (fun ls => ?_)
                clear hl
                intro hl
                refine lv_goto (tgt := 4) hx hb dX4_youngestBut_53 (by decide +kernel) ?_
                exact ih_3 (j_4 + 1) xB_5 (by omega) (by omega) (by rw [yb_skip (fun q => q.2.2.elim (fun r => c_18 (hxB_7.trans r)) (fun r => by rw [← hxB_7, ek_21, nI_clamp (by omega)] at r; exact Int32.not_lt.mpr c_22 r))]; exact hxB_7) _ (lv_sub hl [0, 1, 2, 3] rfl)
              · refine lv_iload_n hx hb (g_29 bX4_youngestBut rfl) rfl (lv_at hl 0 rfl) ?_
                refine lv_istore_n (lv' := [(2, .int (nI j_4)), (3, .int (nI j_4)), (0, .ref qt), (1, .int iO)]) hx hb (g_61 bX4_youngestBut rfl) rfl hl (by decide +kernel) rfl (fun ls => ?_)
                clear hl
                intro hl
                refine lv_iinc (v := nI (j_4 + 1)) (lv' := [(3, .int (nI (j_4 + 1))), (2, .int (nI j_4)), (0, .ref qt), (1, .int iO)]) hx hb dX4_youngestBut_50 hl (k := 1) rfl (nI_1 _) (by decide +kernel) rfl (fun ls => ?_)
                clear hl
                intro hl
                refine lv_goto (tgt := 4) hx hb dX4_youngestBut_53 (by decide +kernel) ?_
                exact ih_3 (j_4 + 1) (nI j_4) (by omega) (by omega) (by rw [yb_upd ⟨c_12, h_15, Or.inr (by rw [← hxB_7, ek_21, nI_clamp (by omega)]; exact Int32.not_le.mp c_22)⟩]) _ (lv_sub hl [0, 1, 2, 3] rfl)
  exact lp_1 ((8 - 0) + 1) 0 (-1) (Nat.lt_succ_self _) (Nat.zero_le _) rfl ls (lv_sub hl [0, 1, 2, 3] rfl)
end
section
set_option maxHeartbeats 4000000 in
set_option maxRecDepth 100000 in
theorem c_J6_bitCount (l : Launch) (G : va_G) (cy : Nat → ClassId) (iA : Int32)   : MR l yJ6_bitCount_0f7a4 cJ6_bitCount_0f7a4 1 (some .int) 1 G cy [] [.int iA] (vp_Si (fun r => (r = (zbc iA)))) := by
  refine enR RJ6 (by decide +kernel) rfl (Nat.le_of_ble_eq_true rfl) (fun p e s m below meth c ls hx hb hml hown hts hr hlocks hP hN hl => ?_)
  have hK := hN.1
  replace hl : lv_has ls 1 [(0, .int iA)] := hl
  refine lv_iload_n hx hb (g_26 bJ6_bitCount_0f7a4 rfl) rfl (lv_at hl 0 rfl) ?_
  refine lv_iload_n hx hb (g_26 bJ6_bitCount_0f7a4 rfl) rfl (lv_at hl 0 rfl) ?_
  refine lv_iconst (v := 1) hx hb (g_4 bJ6_bitCount_0f7a4 rfl) (by decide +kernel) ?_
  refine lv_iushr (v := (iA.toUInt32 >>> (Int32.toUInt32 1 &&& Int32.toUInt32 31)).toInt32) hx hb (g_124 bJ6_bitCount_0f7a4 rfl) (rfl) ?_
  refine lv_ldcw hx hb hown (hts _ m_t664) (g_19 (v := 265) bJ6_bitCount_0f7a4 rfl) ?_
  refine lv_iand hx hb (g_126 bJ6_bitCount_0f7a4 rfl) ?_
  refine lv_isub hx hb (g_100 bJ6_bitCount_0f7a4 rfl) ?_
  refine lv_istore_n (lv' := [(0, .int (iA - (((iA.toUInt32 >>> (Int32.toUInt32 1 &&& Int32.toUInt32 31)).toInt32) &&& 1431655765)))]) hx hb (g_59 bJ6_bitCount_0f7a4 rfl) rfl hl (by decide +kernel) rfl (fun ls => ?_)
  clear hl
  intro hl
  refine lv_iload_n hx hb (g_26 bJ6_bitCount_0f7a4 rfl) rfl (lv_at hl 0 rfl) ?_
  refine lv_ldcw hx hb hown (hts _ m_t665) (g_19 (v := 266) bJ6_bitCount_0f7a4 rfl) ?_
  refine lv_iand hx hb (g_126 bJ6_bitCount_0f7a4 rfl) ?_
  refine lv_iload_n hx hb (g_26 bJ6_bitCount_0f7a4 rfl) rfl (lv_at hl 0 rfl) ?_
  refine lv_iconst (v := 2) hx hb (g_5 bJ6_bitCount_0f7a4 rfl) (by decide +kernel) ?_
  refine lv_iushr (v := ((iA - (((iA.toUInt32 >>> (Int32.toUInt32 1 &&& Int32.toUInt32 31)).toInt32) &&& 1431655765)).toUInt32 >>> (Int32.toUInt32 2 &&& Int32.toUInt32 31)).toInt32) hx hb (g_124 bJ6_bitCount_0f7a4 rfl) (rfl) ?_
  refine lv_ldcw hx hb hown (hts _ m_t665) (g_19 (v := 266) bJ6_bitCount_0f7a4 rfl) ?_
  refine lv_iand hx hb (g_126 bJ6_bitCount_0f7a4 rfl) ?_
  refine lv_iadd hx hb (g_96 bJ6_bitCount_0f7a4 rfl) ?_
  refine lv_istore_n (lv' := [(0, .int (((iA - (((iA.toUInt32 >>> (Int32.toUInt32 1 &&& Int32.toUInt32 31)).toInt32) &&& 1431655765)) &&& 858993459) + ((((iA - (((iA.toUInt32 >>> (Int32.toUInt32 1 &&& Int32.toUInt32 31)).toInt32) &&& 1431655765)).toUInt32 >>> (Int32.toUInt32 2 &&& Int32.toUInt32 31)).toInt32) &&& 858993459)))]) hx hb (g_59 bJ6_bitCount_0f7a4 rfl) rfl hl (by decide +kernel) rfl (fun ls => ?_)
  clear hl
  intro hl
  refine lv_iload_n hx hb (g_26 bJ6_bitCount_0f7a4 rfl) rfl (lv_at hl 0 rfl) ?_
  refine lv_iload_n hx hb (g_26 bJ6_bitCount_0f7a4 rfl) rfl (lv_at hl 0 rfl) ?_
  refine lv_iconst (v := 4) hx hb (g_7 bJ6_bitCount_0f7a4 rfl) (by decide +kernel) ?_
  refine lv_iushr (v := ((((iA - (((iA.toUInt32 >>> (Int32.toUInt32 1 &&& Int32.toUInt32 31)).toInt32) &&& 1431655765)) &&& 858993459) + ((((iA - (((iA.toUInt32 >>> (Int32.toUInt32 1 &&& Int32.toUInt32 31)).toInt32) &&& 1431655765)).toUInt32 >>> (Int32.toUInt32 2 &&& Int32.toUInt32 31)).toInt32) &&& 858993459)).toUInt32 >>> (Int32.toUInt32 4 &&& Int32.toUInt32 31)).toInt32) hx hb (g_124 bJ6_bitCount_0f7a4 rfl) (rfl) ?_
  refine lv_iadd hx hb (g_96 bJ6_bitCount_0f7a4 rfl) ?_
  refine lv_ldcw hx hb hown (hts _ m_t666) (g_19 (v := 267) bJ6_bitCount_0f7a4 rfl) ?_
  refine lv_iand hx hb (g_126 bJ6_bitCount_0f7a4 rfl) ?_
  refine lv_istore_n (lv' := [(0, .int (((((iA - (((iA.toUInt32 >>> (Int32.toUInt32 1 &&& Int32.toUInt32 31)).toInt32) &&& 1431655765)) &&& 858993459) + ((((iA - (((iA.toUInt32 >>> (Int32.toUInt32 1 &&& Int32.toUInt32 31)).toInt32) &&& 1431655765)).toUInt32 >>> (Int32.toUInt32 2 &&& Int32.toUInt32 31)).toInt32) &&& 858993459)) + (((((iA - (((iA.toUInt32 >>> (Int32.toUInt32 1 &&& Int32.toUInt32 31)).toInt32) &&& 1431655765)) &&& 858993459) + ((((iA - (((iA.toUInt32 >>> (Int32.toUInt32 1 &&& Int32.toUInt32 31)).toInt32) &&& 1431655765)).toUInt32 >>> (Int32.toUInt32 2 &&& Int32.toUInt32 31)).toInt32) &&& 858993459)).toUInt32 >>> (Int32.toUInt32 4 &&& Int32.toUInt32 31)).toInt32)) &&& 252645135))]) hx hb (g_59 bJ6_bitCount_0f7a4 rfl) rfl hl (by decide +kernel) rfl (fun ls => ?_)
  clear hl
  intro hl
  refine lv_iload_n hx hb (g_26 bJ6_bitCount_0f7a4 rfl) rfl (lv_at hl 0 rfl) ?_
  refine lv_iload_n hx hb (g_26 bJ6_bitCount_0f7a4 rfl) rfl (lv_at hl 0 rfl) ?_
  refine lv_bipush (v := 8) hx hb dJ6_bitCount_0f7a4_36 (by decide +kernel) ?_
  refine lv_iushr (v := ((((((iA - (((iA.toUInt32 >>> (Int32.toUInt32 1 &&& Int32.toUInt32 31)).toInt32) &&& 1431655765)) &&& 858993459) + ((((iA - (((iA.toUInt32 >>> (Int32.toUInt32 1 &&& Int32.toUInt32 31)).toInt32) &&& 1431655765)).toUInt32 >>> (Int32.toUInt32 2 &&& Int32.toUInt32 31)).toInt32) &&& 858993459)) + (((((iA - (((iA.toUInt32 >>> (Int32.toUInt32 1 &&& Int32.toUInt32 31)).toInt32) &&& 1431655765)) &&& 858993459) + ((((iA - (((iA.toUInt32 >>> (Int32.toUInt32 1 &&& Int32.toUInt32 31)).toInt32) &&& 1431655765)).toUInt32 >>> (Int32.toUInt32 2 &&& Int32.toUInt32 31)).toInt32) &&& 858993459)).toUInt32 >>> (Int32.toUInt32 4 &&& Int32.toUInt32 31)).toInt32)) &&& 252645135).toUInt32 >>> (Int32.toUInt32 8 &&& Int32.toUInt32 31)).toInt32) hx hb (g_124 bJ6_bitCount_0f7a4 rfl) (rfl) ?_
  refine lv_iadd hx hb (g_96 bJ6_bitCount_0f7a4 rfl) ?_
  refine lv_istore_n (lv' := [(0, .int ((((((iA - (((iA.toUInt32 >>> (Int32.toUInt32 1 &&& Int32.toUInt32 31)).toInt32) &&& 1431655765)) &&& 858993459) + ((((iA - (((iA.toUInt32 >>> (Int32.toUInt32 1 &&& Int32.toUInt32 31)).toInt32) &&& 1431655765)).toUInt32 >>> (Int32.toUInt32 2 &&& Int32.toUInt32 31)).toInt32) &&& 858993459)) + (((((iA - (((iA.toUInt32 >>> (Int32.toUInt32 1 &&& Int32.toUInt32 31)).toInt32) &&& 1431655765)) &&& 858993459) + ((((iA - (((iA.toUInt32 >>> (Int32.toUInt32 1 &&& Int32.toUInt32 31)).toInt32) &&& 1431655765)).toUInt32 >>> (Int32.toUInt32 2 &&& Int32.toUInt32 31)).toInt32) &&& 858993459)).toUInt32 >>> (Int32.toUInt32 4 &&& Int32.toUInt32 31)).toInt32)) &&& 252645135) + (((((((iA - (((iA.toUInt32 >>> (Int32.toUInt32 1 &&& Int32.toUInt32 31)).toInt32) &&& 1431655765)) &&& 858993459) + ((((iA - (((iA.toUInt32 >>> (Int32.toUInt32 1 &&& Int32.toUInt32 31)).toInt32) &&& 1431655765)).toUInt32 >>> (Int32.toUInt32 2 &&& Int32.toUInt32 31)).toInt32) &&& 858993459)) + (((((iA - (((iA.toUInt32 >>> (Int32.toUInt32 1 &&& Int32.toUInt32 31)).toInt32) &&& 1431655765)) &&& 858993459) + ((((iA - (((iA.toUInt32 >>> (Int32.toUInt32 1 &&& Int32.toUInt32 31)).toInt32) &&& 1431655765)).toUInt32 >>> (Int32.toUInt32 2 &&& Int32.toUInt32 31)).toInt32) &&& 858993459)).toUInt32 >>> (Int32.toUInt32 4 &&& Int32.toUInt32 31)).toInt32)) &&& 252645135).toUInt32 >>> (Int32.toUInt32 8 &&& Int32.toUInt32 31)).toInt32)))]) hx hb (g_59 bJ6_bitCount_0f7a4 rfl) rfl hl (by decide +kernel) rfl (fun ls => ?_)
  clear hl
  intro hl
  refine lv_iload_n hx hb (g_26 bJ6_bitCount_0f7a4 rfl) rfl (lv_at hl 0 rfl) ?_
  refine lv_iload_n hx hb (g_26 bJ6_bitCount_0f7a4 rfl) rfl (lv_at hl 0 rfl) ?_
  refine lv_bipush (v := 16) hx hb dJ6_bitCount_0f7a4_43 (by decide +kernel) ?_
  refine lv_iushr (v := (((((((iA - (((iA.toUInt32 >>> (Int32.toUInt32 1 &&& Int32.toUInt32 31)).toInt32) &&& 1431655765)) &&& 858993459) + ((((iA - (((iA.toUInt32 >>> (Int32.toUInt32 1 &&& Int32.toUInt32 31)).toInt32) &&& 1431655765)).toUInt32 >>> (Int32.toUInt32 2 &&& Int32.toUInt32 31)).toInt32) &&& 858993459)) + (((((iA - (((iA.toUInt32 >>> (Int32.toUInt32 1 &&& Int32.toUInt32 31)).toInt32) &&& 1431655765)) &&& 858993459) + ((((iA - (((iA.toUInt32 >>> (Int32.toUInt32 1 &&& Int32.toUInt32 31)).toInt32) &&& 1431655765)).toUInt32 >>> (Int32.toUInt32 2 &&& Int32.toUInt32 31)).toInt32) &&& 858993459)).toUInt32 >>> (Int32.toUInt32 4 &&& Int32.toUInt32 31)).toInt32)) &&& 252645135) + (((((((iA - (((iA.toUInt32 >>> (Int32.toUInt32 1 &&& Int32.toUInt32 31)).toInt32) &&& 1431655765)) &&& 858993459) + ((((iA - (((iA.toUInt32 >>> (Int32.toUInt32 1 &&& Int32.toUInt32 31)).toInt32) &&& 1431655765)).toUInt32 >>> (Int32.toUInt32 2 &&& Int32.toUInt32 31)).toInt32) &&& 858993459)) + (((((iA - (((iA.toUInt32 >>> (Int32.toUInt32 1 &&& Int32.toUInt32 31)).toInt32) &&& 1431655765)) &&& 858993459) + ((((iA - (((iA.toUInt32 >>> (Int32.toUInt32 1 &&& Int32.toUInt32 31)).toInt32) &&& 1431655765)).toUInt32 >>> (Int32.toUInt32 2 &&& Int32.toUInt32 31)).toInt32) &&& 858993459)).toUInt32 >>> (Int32.toUInt32 4 &&& Int32.toUInt32 31)).toInt32)) &&& 252645135).toUInt32 >>> (Int32.toUInt32 8 &&& Int32.toUInt32 31)).toInt32)).toUInt32 >>> (Int32.toUInt32 16 &&& Int32.toUInt32 31)).toInt32) hx hb (g_124 bJ6_bitCount_0f7a4 rfl) (rfl) ?_
  refine lv_iadd hx hb (g_96 bJ6_bitCount_0f7a4 rfl) ?_
  refine lv_istore_n (lv' := [(0, .int (((((((iA - (((iA.toUInt32 >>> (Int32.toUInt32 1 &&& Int32.toUInt32 31)).toInt32) &&& 1431655765)) &&& 858993459) + ((((iA - (((iA.toUInt32 >>> (Int32.toUInt32 1 &&& Int32.toUInt32 31)).toInt32) &&& 1431655765)).toUInt32 >>> (Int32.toUInt32 2 &&& Int32.toUInt32 31)).toInt32) &&& 858993459)) + (((((iA - (((iA.toUInt32 >>> (Int32.toUInt32 1 &&& Int32.toUInt32 31)).toInt32) &&& 1431655765)) &&& 858993459) + ((((iA - (((iA.toUInt32 >>> (Int32.toUInt32 1 &&& Int32.toUInt32 31)).toInt32) &&& 1431655765)).toUInt32 >>> (Int32.toUInt32 2 &&& Int32.toUInt32 31)).toInt32) &&& 858993459)).toUInt32 >>> (Int32.toUInt32 4 &&& Int32.toUInt32 31)).toInt32)) &&& 252645135) + (((((((iA - (((iA.toUInt32 >>> (Int32.toUInt32 1 &&& Int32.toUInt32 31)).toInt32) &&& 1431655765)) &&& 858993459) + ((((iA - (((iA.toUInt32 >>> (Int32.toUInt32 1 &&& Int32.toUInt32 31)).toInt32) &&& 1431655765)).toUInt32 >>> (Int32.toUInt32 2 &&& Int32.toUInt32 31)).toInt32) &&& 858993459)) + (((((iA - (((iA.toUInt32 >>> (Int32.toUInt32 1 &&& Int32.toUInt32 31)).toInt32) &&& 1431655765)) &&& 858993459) + ((((iA - (((iA.toUInt32 >>> (Int32.toUInt32 1 &&& Int32.toUInt32 31)).toInt32) &&& 1431655765)).toUInt32 >>> (Int32.toUInt32 2 &&& Int32.toUInt32 31)).toInt32) &&& 858993459)).toUInt32 >>> (Int32.toUInt32 4 &&& Int32.toUInt32 31)).toInt32)) &&& 252645135).toUInt32 >>> (Int32.toUInt32 8 &&& Int32.toUInt32 31)).toInt32)) + ((((((((iA - (((iA.toUInt32 >>> (Int32.toUInt32 1 &&& Int32.toUInt32 31)).toInt32) &&& 1431655765)) &&& 858993459) + ((((iA - (((iA.toUInt32 >>> (Int32.toUInt32 1 &&& Int32.toUInt32 31)).toInt32) &&& 1431655765)).toUInt32 >>> (Int32.toUInt32 2 &&& Int32.toUInt32 31)).toInt32) &&& 858993459)) + (((((iA - (((iA.toUInt32 >>> (Int32.toUInt32 1 &&& Int32.toUInt32 31)).toInt32) &&& 1431655765)) &&& 858993459) + ((((iA - (((iA.toUInt32 >>> (Int32.toUInt32 1 &&& Int32.toUInt32 31)).toInt32) &&& 1431655765)).toUInt32 >>> (Int32.toUInt32 2 &&& Int32.toUInt32 31)).toInt32) &&& 858993459)).toUInt32 >>> (Int32.toUInt32 4 &&& Int32.toUInt32 31)).toInt32)) &&& 252645135) + (((((((iA - (((iA.toUInt32 >>> (Int32.toUInt32 1 &&& Int32.toUInt32 31)).toInt32) &&& 1431655765)) &&& 858993459) + ((((iA - (((iA.toUInt32 >>> (Int32.toUInt32 1 &&& Int32.toUInt32 31)).toInt32) &&& 1431655765)).toUInt32 >>> (Int32.toUInt32 2 &&& Int32.toUInt32 31)).toInt32) &&& 858993459)) + (((((iA - (((iA.toUInt32 >>> (Int32.toUInt32 1 &&& Int32.toUInt32 31)).toInt32) &&& 1431655765)) &&& 858993459) + ((((iA - (((iA.toUInt32 >>> (Int32.toUInt32 1 &&& Int32.toUInt32 31)).toInt32) &&& 1431655765)).toUInt32 >>> (Int32.toUInt32 2 &&& Int32.toUInt32 31)).toInt32) &&& 858993459)).toUInt32 >>> (Int32.toUInt32 4 &&& Int32.toUInt32 31)).toInt32)) &&& 252645135).toUInt32 >>> (Int32.toUInt32 8 &&& Int32.toUInt32 31)).toInt32)).toUInt32 >>> (Int32.toUInt32 16 &&& Int32.toUInt32 31)).toInt32)))]) hx hb (g_59 bJ6_bitCount_0f7a4 rfl) rfl hl (by decide +kernel) rfl (fun ls => ?_)
  clear hl
  intro hl
  refine lv_iload_n hx hb (g_26 bJ6_bitCount_0f7a4 rfl) rfl (lv_at hl 0 rfl) ?_
  refine lv_bipush (v := 63) hx hb dJ6_bitCount_0f7a4_49 (by decide +kernel) ?_
  refine lv_iand hx hb (g_126 bJ6_bitCount_0f7a4 rfl) ?_
  exact endR hx hb hr hlocks rfl (by rfl) (g_172 bJ6_bitCount_0f7a4 rfl)
set_option maxHeartbeats 4000000 in
set_option maxRecDepth 100000 in
theorem c_X4_unreadAt (l : Launch) (G : va_G) (cy : Nat → ClassId) (qt : Nat) (tA : TA) (qtw : Nat) (qtn : Nat) (qtg : Nat) (qta : Nat) (qtr : Nat) (qtm : Nat) (qtt : Nat) (qts : Nat) (iA : Int32)  (hB : T_nb tA ≤ 8) : MR l yX4_unreadAt cX4_unreadAt 4 (some .int) 2 G cy [zzO qt 3 [.int (nI (T_nb tA)), .int (nI (T_np tA)), .int (wb (T_wh tA)), .int (wb (T_gn tA)), .int (T_sd tA), .ref qtw, .ref qtn, .ref qtg, .ref qta, .ref qtr, .ref qtm, .ref qtt, .ref qts], zzI cy qtw 8 (T_wo tA), zzI cy qtn 8 (T_ne tA), zzI cy qtg 8 (T_go tA), zzI cy qta 8 (T_ag tA), zzI cy qtr 8 (T_re tA), zzI cy qtm 8 (T_me tA), zzI cy qtt 8 (T_te tA), zzI cy qts 64 (shF (T_kn tA))] [.ref qt, .int iA] (vp_Si (fun r => (r = (zua tA iA)))) := by
  refine enR RX4 (by decide +kernel) rfl (Nat.le_of_ble_eq_true rfl) (fun p e s m below meth c ls hx hb hml hown hts hr hlocks hP hN hl => ?_)
  have hK := hN.1
  replace hl : lv_has ls 4 [(0, .ref qt), (1, .int iA)] := hl
  refine lv_iconst (v := 0) hx hb (g_3 bX4_unreadAt rfl) (by decide +kernel) ?_
  refine lv_istore_n (lv' := [(2, .int 0), (0, .ref qt), (1, .int iA)]) hx hb (g_61 bX4_unreadAt rfl) rfl hl (by decide +kernel) rfl (fun ls => ?_)
  clear hl
  intro hl
  refine lv_iconst (v := 0) hx hb (g_3 bX4_unreadAt rfl) (by decide +kernel) ?_
  refine lv_istore_n (lv' := [(3, .int 0), (2, .int 0), (0, .ref qt), (1, .int iA)]) hx hb (g_62 bX4_unreadAt rfl) rfl hl (by decide +kernel) rfl (fun ls => ?_)
  clear hl
  intro hl
  have lp_1 : ∀ (n_2 : Nat) (j_4 : Nat) (xC_5 : Int32), 8 - j_4 < n_2 → j_4 ≤ T_nb tA → uaG tA iA (T_nb tA - j_4) j_4 xC_5 = zua tA iA → ∀ (ls : Array Slot), lv_has ls 4 [(3, .int (nI j_4)), (2, .int xC_5), (0, .ref qt), (1, .int iA)] → W p l e (Rm 2 0 0) s m (List.toArray (α := Value) [.ref qt, .int iA]) below meth c s.heap [] 0 0 (MQ below (vp_Si (fun r => (r = (zua tA iA)))) (List.toArray (α := Value) [.ref qt, .int iA]) s 0 0 (fun _ => False)) (F0 m 4 ls []) := by
    intro n_2
    induction n_2 with
    | zero => intro j_4 xC_5 hm9; exact absurd hm9 (Nat.not_lt_zero _)
    | succ n_2 ih_3 =>
      intro j_4 xC_5 hm_8 hj_6 hT_7 ls hl
      refine lv_iload_n hx hb (g_29 bX4_unreadAt rfl) rfl (lv_at hl 0 rfl) ?_
      refine lv_aload_n hx hb (g_42 bX4_unreadAt rfl) rfl (lv_at hl 2 rfl) ?_
      refine va_get (D := G) (ci := 3) (v := .int (nI (T_nb tA))) (C := RX4) (T := TX4) (N := 13) hx hb hts iX_X4 hown hK hP 0 rfl rfl 0 (by decide +kernel) (hts _ m_t29) (fun _ h9 => h9) rfl (g_180 (v := 40) bX4_unreadAt rfl) ?_
      refine lv_icmp_ge (tgt := 39) hx hb dX4_unreadAt_9 (by decide +kernel) (fun c_9 => ?_) (fun c_9 => ?_)
      · have hlt_10 : j_4 = T_nb tA := Nat.le_antisymm (by omega) (lp_ge rfl rfl (by omega) (by omega) c_9)
        refine lv_iconst (v := (-1)) hx hb (g_2 bX4_unreadAt rfl) (by decide +kernel) ?_
        exact endR hx hb hr hlocks rfl (by rw [← hT_7, hlt_10, Nat.sub_self]; rfl) (g_172 bX4_unreadAt rfl)
      · have hlt_11 : j_4 < T_nb tA := lp_lt rfl rfl (by omega) (by omega) c_9
        refine lv_aload_n hx hb (g_42 bX4_unreadAt rfl) rfl (lv_at hl 2 rfl) ?_
        refine va_get (D := G) (ci := 3) (v := .int (wb (T_wh tA))) (C := RX4) (T := TX4) (N := 13) hx hb hts iX_X4 hown hK hP 0 rfl rfl 2 (by decide +kernel) (hts _ m_t39) (fun _ h9 => h9) rfl (g_180 (v := 46) bX4_unreadAt rfl) ?_
        refine lv_iload_n hx hb (g_29 bX4_unreadAt rfl) rfl (lv_at hl 0 rfl) ?_
        refine kRi (rSN (As := [.int (wb (T_wh tA)), .int (nI j_4)]) (rest := []) ⟨hx, hb, hml, hown, hts⟩ hN (c_X5_has l G cy (wb (T_wh tA)) j_4) L_X4_62 (preRS hN hP [] rfl) rfl ⟨Nat.le_of_ble_eq_true rfl, Nat.le_of_ble_eq_true rfl⟩ hl.1 (Nat.le_of_ble_eq_true rfl) (g_184 (v := 62) bX4_unreadAt rfl) ⟨Nat.le_of_ble_eq_true rfl, Nat.le_of_ble_eq_true rfl⟩) (fun r_12 h_13 => ?_)
        rcases h_13 with ⟨rfl, h_14⟩ | ⟨rfl, h_14⟩
        · rw [bit_wb _ (by omega)] at h_14
          refine lv_if_ne (tgt := 33) hx hb dX4_unreadAt_20 (by decide +kernel) (fun _ => ?_) (fun h9 => absurd h9 (by decide +kernel))
          refine lv_iinc (v := nI (j_4 + 1)) (lv' := [(3, .int (nI (j_4 + 1))), (2, .int xC_5), (0, .ref qt), (1, .int iA)]) hx hb dX4_unreadAt_33 hl (k := 0) rfl (nI_1 _) (by decide +kernel) rfl (fun ls => ?_)
          clear hl
          intro hl
          refine lv_goto (tgt := 4) hx hb dX4_unreadAt_36 (by decide +kernel) ?_
          exact ih_3 (j_4 + 1) xC_5 (by omega) (by omega) (by rw [← hT_7, show T_nb tA - j_4 = T_nb tA - (j_4 + 1) + 1 by omega, ua_white h_14]) _ (lv_sub hl [0, 1, 2, 3] rfl)
        · rw [bit_wb _ (by omega)] at h_14
          refine lv_if_ne (tgt := 33) hx hb dX4_unreadAt_20 (by decide +kernel) (fun h9 => absurd (by decide +kernel) h9) (fun _ => ?_)
          refine lv_iload_n hx hb (g_28 bX4_unreadAt rfl) rfl (lv_at hl 1 rfl) ?_
          refine lv_iload_n hx hb (g_27 bX4_unreadAt rfl) rfl (lv_at hl 3 rfl) ?_
          refine lv_icmp_ne (tgt := 30) hx hb dX4_unreadAt_25 (by decide +kernel) (fun c_17 => ?_) (fun c_17 => ?_)
          · refine lv_iinc (v := xC_5 + 1) (lv' := [(2, .int (xC_5 + 1)), (3, .int (nI j_4)), (0, .ref qt), (1, .int iA)]) hx hb dX4_unreadAt_30 hl (k := 1) rfl (rfl) (by decide +kernel) rfl (fun ls => ?_)
            clear hl
            intro hl
            refine lv_iinc (v := nI (j_4 + 1)) (lv' := [(3, .int (nI (j_4 + 1))), (2, .int (xC_5 + 1)), (0, .ref qt), (1, .int iA)]) hx hb dX4_unreadAt_33 hl (k := 1) rfl (nI_1 _) (by decide +kernel) rfl (fun ls => ?_)
            clear hl
            intro hl
            refine lv_goto (tgt := 4) hx hb dX4_unreadAt_36 (by decide +kernel) ?_
            exact ih_3 (j_4 + 1) (xC_5 + 1) (by omega) (by omega) (by rw [← hT_7, show T_nb tA - j_4 = T_nb tA - (j_4 + 1) + 1 by omega, ua_pass h_14 c_17]) _ (lv_sub hl [0, 1, 2, 3] rfl)
          · refine lv_iload_n hx hb (g_29 bX4_unreadAt rfl) rfl (lv_at hl 0 rfl) ?_
            exact endR hx hb hr hlocks rfl (by rw [← hT_7, show T_nb tA - j_4 = T_nb tA - (j_4 + 1) + 1 by omega, ua_hit h_14 c_17]) (g_172 bX4_unreadAt rfl)
  exact lp_1 ((8 - 0) + 1) 0 0 (Nat.lt_succ_self _) (Nat.zero_le _) rfl ls (lv_sub hl [0, 1, 2, 3] rfl)
set_option maxHeartbeats 4000000 in
set_option maxRecDepth 100000 in
theorem c_X4_allNeededBy (l : Launch) (G : va_G) (cy : Nat → ClassId) (qt : Nat) (tA : TA) (qtw : Nat) (qtn : Nat) (qtg : Nat) (qta : Nat) (qtr : Nat) (qtm : Nat) (qtt : Nat) (qts : Nat) (kB : Nat)  (hJ : kB < 8) : MR l yX4_allNeededBy cX4_allNeededBy 4 (some .int) 2 G cy [zzO qt 3 [.int (nI (T_nb tA)), .int (nI (T_np tA)), .int (wb (T_wh tA)), .int (wb (T_gn tA)), .int (T_sd tA), .ref qtw, .ref qtn, .ref qtg, .ref qta, .ref qtr, .ref qtm, .ref qtt, .ref qts], zzI cy qtw 8 (T_wo tA), zzI cy qtn 8 (T_ne tA), zzI cy qtg 8 (T_go tA), zzI cy qta 8 (T_ag tA), zzI cy qtr 8 (T_re tA), zzI cy qtm 8 (T_me tA), zzI cy qtt 8 (T_te tA), zzI cy qts 64 (shF (T_kn tA))] [.ref qt, .int (nI kB)] (vp_Si (fun r => (r = (zan tA kB)))) := by
  refine enR RX4 (by decide +kernel) rfl (Nat.le_of_ble_eq_true rfl) (fun p e s m below meth c ls hx hb hml hown hts hr hlocks hP hN hl => ?_)
  have hK := hN.1
  replace hl : lv_has ls 4 [(0, .ref qt), (1, .int (nI kB))] := hl
  refine lv_aload_n hx hb (g_42 bX4_allNeededBy rfl) rfl (lv_at hl 0 rfl) ?_
  refine va_get (D := G) (ci := 3) (v := .ref qtn) (C := RX4) (T := TX4) (N := 13) hx hb hts iX_X4 hown hK hP 0 rfl rfl 6 (by decide +kernel) (hts _ m_t50) (fun _ h9 => h9) rfl (g_180 (v := 19) bX4_allNeededBy rfl) ?_
  refine lv_iload_n hx hb (g_27 bX4_allNeededBy rfl) rfl (lv_at hl 1 rfl) ?_
  refine va_iald hx hb hK hP 2 0 rfl rfl (in8 (by omega)) (g_46 bX4_allNeededBy rfl) ?_
  refine lv_seti (v := (T_ne tA) kB) (congrArg (T_ne tA) (cl8 (by omega))) ?_
  refine lv_istore_n (lv' := [(2, .int ((T_ne tA) kB)), (0, .ref qt), (1, .int (nI kB))]) hx hb (g_61 bX4_allNeededBy rfl) rfl hl (by decide +kernel) rfl (fun ls => ?_)
  clear hl
  intro hl
  refine lv_iload_n hx hb (g_27 bX4_allNeededBy rfl) rfl (lv_at hl 2 rfl) ?_
  refine lv_iconst (v := 1) hx hb (g_4 bX4_allNeededBy rfl) (by decide +kernel) ?_
  refine lv_isub hx hb (g_100 bX4_allNeededBy rfl) ?_
  refine lv_istore_n (lv' := [(3, .int ((nI kB) - 1)), (2, .int ((T_ne tA) kB)), (0, .ref qt), (1, .int (nI kB))]) hx hb (g_62 bX4_allNeededBy rfl) rfl hl (by decide +kernel) rfl (fun ls => ?_)
  clear hl
  intro hl
  have lp_1 : ∀ (n_2 : Nat) (j_4 : Nat) (xS_5 : Int32), j_4 < n_2 → j_4 ≤ kB → anF tA j_4 xS_5 = zan tA kB → ∀ (ls : Array Slot), lv_has ls 4 [(3, .int (nI j_4 - 1)), (2, .int xS_5), (0, .ref qt), (1, .int (nI kB))] → W p l e (Rm 2 0 0) s m (List.toArray (α := Value) [.ref qt, .int (nI kB)]) below meth c s.heap [] 0 0 (MQ below (vp_Si (fun r => (r = (zan tA kB)))) (List.toArray (α := Value) [.ref qt, .int (nI kB)]) s 0 0 (fun _ => False)) (F0 m 11 ls []) := by
    intro n_2
    induction n_2 with
    | zero => intro j_4 xS_5 hm9; exact absurd hm9 (Nat.not_lt_zero _)
    | succ n_2 ih_3 =>
      intro j_4 xS_5 hm_8 hj_6 hT_7 ls hl
      refine lv_iload_n hx hb (g_29 bX4_allNeededBy rfl) rfl (lv_at hl 0 rfl) ?_
      refine lv_if_lt (tgt := 38) hx hb dX4_allNeededBy_12 (by decide +kernel) (fun c_9 => ?_) (fun c_9 => ?_)
      · have hz_10 : j_4 = 0 := m1_neg (by omega) c_9
        refine lv_iload_n hx hb (g_28 bX4_allNeededBy rfl) rfl (lv_at hl 1 rfl) ?_
        exact endR hx hb hr hlocks rfl (by rw [← hT_7, hz_10]; rfl) (g_172 bX4_allNeededBy rfl)
      · obtain ⟨m_11, em_12⟩ := m1_pos c_9
        subst em_12
        rw [nI_pred] at hl
        refine lv_iload_n hx hb (g_28 bX4_allNeededBy rfl) rfl (lv_at hl 1 rfl) ?_
        refine lv_iload_n hx hb (g_29 bX4_allNeededBy rfl) rfl (lv_at hl 0 rfl) ?_
        refine kRi (rSN (As := [.int xS_5, .int (nI m_11)]) (rest := []) ⟨hx, hb, hml, hown, hts⟩ hN (c_X5_has l G cy xS_5 m_11) L_X4_62 (preRS hN hP [] rfl) rfl ⟨Nat.le_of_ble_eq_true rfl, Nat.le_of_ble_eq_true rfl⟩ hl.1 (Nat.le_of_ble_eq_true rfl) (g_184 (v := 62) bX4_allNeededBy rfl) ⟨Nat.le_of_ble_eq_true rfl, Nat.le_of_ble_eq_true rfl⟩) (fun r_13 h_14 => ?_)
        rcases h_14 with ⟨rfl, h_15⟩ | ⟨rfl, h_15⟩
        · refine lv_if_eq (tgt := 32) hx hb dX4_allNeededBy_20 (by decide +kernel) (fun h9 => absurd h9 (by decide +kernel)) (fun _ => ?_)
          refine lv_iload_n hx hb (g_28 bX4_allNeededBy rfl) rfl (lv_at hl 1 rfl) ?_
          refine lv_aload_n hx hb (g_42 bX4_allNeededBy rfl) rfl (lv_at hl 2 rfl) ?_
          refine va_get (D := G) (ci := 3) (v := .ref qtn) (C := RX4) (T := TX4) (N := 13) hx hb hts iX_X4 hown hK hP 0 rfl rfl 6 (by decide +kernel) (hts _ m_t50) (fun _ h9 => h9) rfl (g_180 (v := 19) bX4_allNeededBy rfl) ?_
          refine lv_iload_n hx hb (g_29 bX4_allNeededBy rfl) rfl (lv_at hl 0 rfl) ?_
          refine va_iald hx hb hK hP 2 0 rfl rfl (in8 (by omega)) (g_46 bX4_allNeededBy rfl) ?_
          refine lv_seti (v := (T_ne tA) m_11) (congrArg (T_ne tA) (cl8 (by omega))) ?_
          refine lv_ior hx hb (g_128 bX4_allNeededBy rfl) ?_
          refine lv_istore_n (lv' := [(2, .int (xS_5 ||| ((T_ne tA) m_11))), (3, .int (nI m_11)), (0, .ref qt), (1, .int (nI kB))]) hx hb (g_61 bX4_allNeededBy rfl) rfl hl (by decide +kernel) rfl (fun ls => ?_)
          clear hl
          intro hl
          refine lv_iinc (v := nI m_11 - 1) (lv' := [(3, .int (nI m_11 - 1)), (2, .int (xS_5 ||| ((T_ne tA) m_11))), (0, .ref qt), (1, .int (nI kB))]) hx hb dX4_allNeededBy_32 hl (k := 1) rfl (ii_m1 _) (by decide +kernel) rfl (fun ls => ?_)
          clear hl
          intro hl
          refine lv_goto (tgt := 11) hx hb dX4_allNeededBy_35 (by decide +kernel) ?_
          exact ih_3 m_11 (xS_5 ||| ((T_ne tA) m_11)) (by omega) (by omega) (by rw [← hT_7, an_go h_15]) _ (lv_sub hl [0, 1, 2, 3] rfl)
        · refine lv_if_eq (tgt := 32) hx hb dX4_allNeededBy_20 (by decide +kernel) (fun _ => ?_) (fun h9 => absurd (by decide +kernel) h9)
          refine lv_iinc (v := nI m_11 - 1) (lv' := [(3, .int (nI m_11 - 1)), (2, .int xS_5), (0, .ref qt), (1, .int (nI kB))]) hx hb dX4_allNeededBy_32 hl (k := 0) rfl (ii_m1 _) (by decide +kernel) rfl (fun ls => ?_)
          clear hl
          intro hl
          refine lv_goto (tgt := 11) hx hb dX4_allNeededBy_35 (by decide +kernel) ?_
          exact ih_3 m_11 xS_5 (by omega) (by omega) (by rw [← hT_7, an_no h_15]) _ (lv_sub hl [0, 1, 2, 3] rfl)
  exact lp_1 (kB + 1) kB (T_ne tA kB) (Nat.lt_succ_self _) (Nat.le_refl _) rfl ls (lv_sub hl [0, 1, 2, 3] rfl)
set_option maxHeartbeats 4000000 in
set_option maxRecDepth 100000 in
theorem c_X4_allThatNeed (l : Launch) (G : va_G) (cy : Nat → ClassId) (qt : Nat) (tA : TA) (qtw : Nat) (qtn : Nat) (qtg : Nat) (qta : Nat) (qtr : Nat) (qtm : Nat) (qtt : Nat) (qts : Nat) (kB : Nat)  (hB : T_nb tA ≤ 8) (hK2 : kB < T_nb tA) : MR l yX4_allThatNeed cX4_allThatNeed 4 (some .int) 3 G cy [zzO qt 3 [.int (nI (T_nb tA)), .int (nI (T_np tA)), .int (wb (T_wh tA)), .int (wb (T_gn tA)), .int (T_sd tA), .ref qtw, .ref qtn, .ref qtg, .ref qta, .ref qtr, .ref qtm, .ref qtt, .ref qts], zzI cy qtw 8 (T_wo tA), zzI cy qtn 8 (T_ne tA), zzI cy qtg 8 (T_go tA), zzI cy qta 8 (T_ag tA), zzI cy qtr 8 (T_re tA), zzI cy qtm 8 (T_me tA), zzI cy qtt 8 (T_te tA), zzI cy qts 64 (shF (T_kn tA))] [.ref qt, .int (nI kB)] (vp_Si (fun r => (r = (zat tA kB)))) := by
  refine enR RX4 (by decide +kernel) rfl (Nat.le_of_ble_eq_true rfl) (fun p e s m below meth c ls hx hb hml hown hts hr hlocks hP hN hl => ?_)
  have hK := hN.1
  replace hl : lv_has ls 4 [(0, .ref qt), (1, .int (nI kB))] := hl
  refine lv_iconst (v := 0) hx hb (g_3 bX4_allThatNeed rfl) (by decide +kernel) ?_
  refine lv_istore_n (lv' := [(2, .int 0), (0, .ref qt), (1, .int (nI kB))]) hx hb (g_61 bX4_allThatNeed rfl) rfl hl (by decide +kernel) rfl (fun ls => ?_)
  clear hl
  intro hl
  refine lv_iload_n hx hb (g_27 bX4_allThatNeed rfl) rfl (lv_at hl 2 rfl) ?_
  refine lv_iconst (v := 1) hx hb (g_4 bX4_allThatNeed rfl) (by decide +kernel) ?_
  refine lv_iadd hx hb (g_96 bX4_allThatNeed rfl) ?_
  refine lv_seti (v := nI (kB + 1)) (nI_1 _) ?_
  refine lv_istore_n (lv' := [(3, .int (nI (kB + 1))), (2, .int 0), (0, .ref qt), (1, .int (nI kB))]) hx hb (g_62 bX4_allThatNeed rfl) rfl hl (by decide +kernel) rfl (fun ls => ?_)
  clear hl
  intro hl
  have lp_1 : ∀ (n_2 : Nat) (j_4 : Nat) (xS_5 : Int32), 8 - j_4 < n_2 → j_4 ≤ T_nb tA → kB + 1 ≤ j_4 → xS_5 = atF tA kB j_4 → ∀ (ls : Array Slot), lv_has ls 4 [(3, .int (nI j_4)), (2, .int xS_5), (0, .ref qt), (1, .int (nI kB))] → W p l e (Rm 3 0 0) s m (List.toArray (α := Value) [.ref qt, .int (nI kB)]) below meth c s.heap [] 0 0 (MQ below (vp_Si (fun r => (r = (zat tA kB)))) (List.toArray (α := Value) [.ref qt, .int (nI kB)]) s 0 0 (fun _ => False)) (F0 m 6 ls []) := by
    intro n_2
    induction n_2 with
    | zero => intro j_4 xS_5 hm9; exact absurd hm9 (Nat.not_lt_zero _)
    | succ n_2 ih_3 =>
      intro j_4 xS_5 hm_9 hj_6 hk_7 hxS_8 ls hl
      refine lv_iload_n hx hb (g_29 bX4_allThatNeed rfl) rfl (lv_at hl 0 rfl) ?_
      refine lv_aload_n hx hb (g_42 bX4_allThatNeed rfl) rfl (lv_at hl 2 rfl) ?_
      refine va_get (D := G) (ci := 3) (v := .int (nI (T_nb tA))) (C := RX4) (T := TX4) (N := 13) hx hb hts iX_X4 hown hK hP 0 rfl rfl 0 (by decide +kernel) (hts _ m_t29) (fun _ h9 => h9) rfl (g_180 (v := 40) bX4_allThatNeed rfl) ?_
      refine lv_icmp_ge (tgt := 38) hx hb dX4_allThatNeed_11 (by decide +kernel) (fun c_10 => ?_) (fun c_10 => ?_)
      · have hlt_11 : j_4 = T_nb tA := Nat.le_antisymm (by omega) (lp_ge rfl rfl (by omega) (by omega) c_10)
        refine lv_iload_n hx hb (g_28 bX4_allThatNeed rfl) rfl (lv_at hl 1 rfl) ?_
        exact endR hx hb hr hlocks rfl (by rw [hxS_8, hlt_11]; rfl) (g_172 bX4_allThatNeed rfl)
      · have hlt_12 : j_4 < T_nb tA := lp_lt rfl rfl (by omega) (by omega) c_10
        refine lv_aload_n hx hb (g_42 bX4_allThatNeed rfl) rfl (lv_at hl 2 rfl) ?_
        refine lv_iload_n hx hb (g_29 bX4_allThatNeed rfl) rfl (lv_at hl 0 rfl) ?_
        refine kRi (rV (As := [.int (nI j_4)]) (rest := []) (b := qt) ⟨hx, hb, hml, hown, hts⟩ (c_X4_allNeededBy l G cy qt tA qtw qtn qtg qta qtr qtm qtt qts j_4 (by omega)) L_X4_108 (preRV (q := (RX4, TX4, 13)) hN hP (trueIx 0 [true, true, true, true, true, true, true, true, true]) (sel_fm rfl rfl) 0 3 rfl rfl) rfl ⟨Nat.le_of_ble_eq_true rfl, Nat.le_of_ble_eq_true rfl⟩ hl.1 (Nat.le_of_ble_eq_true rfl) (g_182 (v := 108) bX4_allThatNeed rfl) ⟨Nat.le_of_ble_eq_true rfl, Nat.le_of_ble_eq_true rfl⟩) (fun r_13 h_14 => ?_)
        subst h_14
        refine lv_iload_n hx hb (g_27 bX4_allThatNeed rfl) rfl (lv_at hl 3 rfl) ?_
        refine kRi (rSN (As := [.int (zan tA j_4), .int (nI kB)]) (rest := []) ⟨hx, hb, hml, hown, hts⟩ hN (c_X5_has l G cy (zan tA j_4) kB) L_X4_62 (preRS hN hP [] rfl) rfl ⟨Nat.le_of_ble_eq_true rfl, Nat.le_of_ble_eq_true rfl⟩ hl.1 (Nat.le_of_ble_eq_true rfl) (g_184 (v := 62) bX4_allThatNeed rfl) ⟨Nat.le_of_ble_eq_true rfl, Nat.le_of_ble_eq_true rfl⟩) (fun r_15 h_16 => ?_)
        rcases h_16 with ⟨rfl, h_17⟩ | ⟨rfl, h_17⟩
        · refine lv_if_eq (tgt := 32) hx hb dX4_allThatNeed_23 (by decide +kernel) (fun h9 => absurd h9 (by decide +kernel)) (fun _ => ?_)
          refine lv_iload_n hx hb (g_28 bX4_allThatNeed rfl) rfl (lv_at hl 1 rfl) ?_
          refine lv_iconst (v := 1) hx hb (g_4 bX4_allThatNeed rfl) (by decide +kernel) ?_
          refine lv_iload_n hx hb (g_29 bX4_allThatNeed rfl) rfl (lv_at hl 0 rfl) ?_
          refine lv_ishl hx hb (g_120 bX4_allThatNeed rfl) ?_
          refine lv_ior hx hb (g_128 bX4_allThatNeed rfl) ?_
          refine lv_istore_n (lv' := [(2, .int (xS_5 ||| (1 <<< ((nI j_4) &&& 31)))), (3, .int (nI j_4)), (0, .ref qt), (1, .int (nI kB))]) hx hb (g_61 bX4_allThatNeed rfl) rfl hl (by decide +kernel) rfl (fun ls => ?_)
          clear hl
          intro hl
          refine lv_iinc (v := nI (j_4 + 1)) (lv' := [(3, .int (nI (j_4 + 1))), (2, .int (xS_5 ||| (1 <<< ((nI j_4) &&& 31)))), (0, .ref qt), (1, .int (nI kB))]) hx hb dX4_allThatNeed_32 hl (k := 1) rfl (nI_1 _) (by decide +kernel) rfl (fun ls => ?_)
          clear hl
          intro hl
          refine lv_goto (tgt := 6) hx hb dX4_allThatNeed_35 (by decide +kernel) ?_
          exact ih_3 (j_4 + 1) (xS_5 ||| (1 <<< ((nI j_4) &&& 31))) (by omega) (by omega) (by omega) (by rw [at_go (by omega) h_17, hxS_8]) _ (lv_sub hl [0, 1, 2, 3] rfl)
        · refine lv_if_eq (tgt := 32) hx hb dX4_allThatNeed_23 (by decide +kernel) (fun _ => ?_) (fun h9 => absurd (by decide +kernel) h9)
          refine lv_iinc (v := nI (j_4 + 1)) (lv' := [(3, .int (nI (j_4 + 1))), (2, .int xS_5), (0, .ref qt), (1, .int (nI kB))]) hx hb dX4_allThatNeed_32 hl (k := 0) rfl (nI_1 _) (by decide +kernel) rfl (fun ls => ?_)
          clear hl
          intro hl
          refine lv_goto (tgt := 6) hx hb dX4_allThatNeed_35 (by decide +kernel) ?_
          exact ih_3 (j_4 + 1) xS_5 (by omega) (by omega) (by omega) (by rw [at_no h_17]; exact hxS_8) _ (lv_sub hl [0, 1, 2, 3] rfl)
  exact lp_1 ((8 - (kB + 1)) + 1) (kB + 1) 0 (Nat.lt_succ_self _) (by omega) (Nat.le_refl _) ((at_0 _ _ _ (Nat.le_refl _)).symm) ls (lv_sub hl [0, 1, 2, 3] rfl)
set_option maxHeartbeats 4000000 in
set_option maxRecDepth 100000 in
theorem c_X4_gainByReading (l : Launch) (G : va_G) (cy : Nat → ClassId) (qt : Nat) (tA : TA) (qtw : Nat) (qtn : Nat) (qtg : Nat) (qta : Nat) (qtr : Nat) (qtm : Nat) (qtt : Nat) (qts : Nat) (kB : Nat)  (hPp : T_np tA ≤ 8) (hJ : kB < 8) : MR l yX4_gainByReading cX4_gainByReading 3 (some .int) 4 G cy [zzO qt 3 [.int (nI (T_nb tA)), .int (nI (T_np tA)), .int (wb (T_wh tA)), .int (wb (T_gn tA)), .int (T_sd tA), .ref qtw, .ref qtn, .ref qtg, .ref qta, .ref qtr, .ref qtm, .ref qtt, .ref qts], zzI cy qtw 8 (T_wo tA), zzI cy qtn 8 (T_ne tA), zzI cy qtg 8 (T_go tA), zzI cy qta 8 (T_ag tA), zzI cy qtr 8 (T_re tA), zzI cy qtm 8 (T_me tA), zzI cy qtt 8 (T_te tA), zzI cy qts 64 (shF (T_kn tA))] [.ref qt, .int (nI kB)] (vp_Si (fun r => (r = (zgb tA kB)))) := by
  refine enR RX4 (by decide +kernel) rfl (Nat.le_of_ble_eq_true rfl) (fun p e s m below meth c ls hx hb hml hown hts hr hlocks hP hN hl => ?_)
  have hK := hN.1
  replace hl : lv_has ls 3 [(0, .ref qt), (1, .int (nI kB))] := hl
  refine lv_aload_n hx hb (g_42 bX4_gainByReading rfl) rfl (lv_at hl 0 rfl) ?_
  refine lv_iload_n hx hb (g_27 bX4_gainByReading rfl) rfl (lv_at hl 1 rfl) ?_
  refine kRi (rV (As := [.int (nI kB)]) (rest := []) (b := qt) ⟨hx, hb, hml, hown, hts⟩ (c_X4_bestReader l G cy qt tA qtw qtn qtg qta qtr qtm qtt qts kB hPp hJ) L_X4_105 (preRV (q := (RX4, TX4, 13)) hN hP (trueIx 0 [true, true, true, true, true, true, true, true, true]) (sel_fm rfl rfl) 0 3 rfl rfl) rfl ⟨Nat.le_of_ble_eq_true rfl, Nat.le_of_ble_eq_true rfl⟩ hl.1 (Nat.le_of_ble_eq_true rfl) (g_182 (v := 105) bX4_gainByReading rfl) ⟨Nat.le_of_ble_eq_true rfl, Nat.le_of_ble_eq_true rfl⟩) (fun r_1 h_2 => ?_)
  subst h_2
  refine lv_istore_n (lv' := [(2, .int (zbr tA kB)), (0, .ref qt), (1, .int (nI kB))]) hx hb (g_61 bX4_gainByReading rfl) rfl hl (by decide +kernel) rfl (fun ls => ?_)
  clear hl
  intro hl
  refine lv_iload_n hx hb (g_28 bX4_gainByReading rfl) rfl (lv_at hl 0 rfl) ?_
  refine lv_iconst (v := (-1)) hx hb (g_2 bX4_gainByReading rfl) (by decide +kernel) ?_
  refine lv_icmp_ne (tgt := 15) hx hb dX4_gainByReading_8 (by decide +kernel) (fun c_3 => ?_) (fun c_3 => ?_)
  · obtain ⟨k_4, hk_5, ek_6⟩ : ∃ k : Nat, k < T_np tA ∧ zbr tA kB = nI k := (br_in tA kB (T_np tA)).resolve_left c_3
    rw [ek_6] at hl
    refine lv_aload_n hx hb (g_42 bX4_gainByReading rfl) rfl (lv_at hl 1 rfl) ?_
    refine va_get (D := G) (ci := 3) (v := .ref qtw) (C := RX4) (T := TX4) (N := 13) hx hb hts iX_X4 hown hK hP 0 rfl rfl 5 (by decide +kernel) (hts _ m_t48) (fun _ h9 => h9) rfl (g_180 (v := 15) bX4_gainByReading rfl) ?_
    refine lv_iload_n hx hb (g_27 bX4_gainByReading rfl) rfl (lv_at hl 2 rfl) ?_
    refine va_iald hx hb hK hP 1 0 rfl rfl (in8 (by omega)) (g_46 bX4_gainByReading rfl) ?_
    refine lv_seti (v := (T_wo tA) kB) (congrArg (T_wo tA) (cl8 (by omega))) ?_
    refine lv_aload_n hx hb (g_42 bX4_gainByReading rfl) rfl (lv_at hl 1 rfl) ?_
    refine lv_iload_n hx hb (g_28 bX4_gainByReading rfl) rfl (lv_at hl 0 rfl) ?_
    refine lv_iload_n hx hb (g_27 bX4_gainByReading rfl) rfl (lv_at hl 2 rfl) ?_
    refine kRi (rV (As := [.int (nI k_4), .int (nI kB)]) (rest := [.int ((T_wo tA) kB)]) (b := qt) ⟨hx, hb, hml, hown, hts⟩ (c_X4_wouldKnow l G cy qt tA qtw qtn qtg qta qtr qtm qtt qts k_4 kB (by omega) hJ) L_X4_91 (preRV (q := (RX4, TX4, 13)) hN hP (trueIx 0 [true, false, true, true, false, true, false, false, true]) (sel_fm rfl rfl) 0 3 rfl rfl) rfl ⟨Nat.le_of_ble_eq_true rfl, Nat.le_of_ble_eq_true rfl⟩ hl.1 (Nat.le_of_ble_eq_true rfl) (g_182 (v := 91) bX4_gainByReading rfl) ⟨Nat.le_of_ble_eq_true rfl, Nat.le_of_ble_eq_true rfl⟩) (fun r_7 h_8 => ?_)
    subst h_8
    refine lv_aload_n hx hb (g_42 bX4_gainByReading rfl) rfl (lv_at hl 1 rfl) ?_
    refine lv_iload_n hx hb (g_27 bX4_gainByReading rfl) rfl (lv_at hl 2 rfl) ?_
    refine lv_aload_n hx hb (g_42 bX4_gainByReading rfl) rfl (lv_at hl 1 rfl) ?_
    refine kRi (rV (As := []) (rest := [.int (nI kB), .ref qt, .int (zwk tA k_4 kB), .int ((T_wo tA) kB)]) (b := qt) ⟨hx, hb, hml, hown, hts⟩ (c_X4_setThere l G cy qt tA qtw qtn qtg qta qtr qtm qtt qts hPp) L_X4_78 (preRV (q := (RX4, TX4, 13)) hN hP [0] rfl 0 3 rfl rfl) rfl ⟨Nat.le_of_ble_eq_true rfl, Nat.le_of_ble_eq_true rfl⟩ hl.1 (Nat.le_of_ble_eq_true rfl) (g_182 (v := 78) bX4_gainByReading rfl) ⟨Nat.le_of_ble_eq_true rfl, Nat.le_of_ble_eq_true rfl⟩) (fun r_9 h_10 => ?_)
    subst h_10
    refine kRi (rV (As := [.int (nI kB), .int (zthere tA)]) (rest := [.int (zwk tA k_4 kB), .int ((T_wo tA) kB)]) (b := qt) ⟨hx, hb, hml, hown, hts⟩ (c_X4_mostKnown l G cy qt tA qtw qtn qtg qta qtr qtm qtt qts kB (zthere tA) hPp hJ) L_X4_75 (preRV (q := (RX4, TX4, 13)) hN hP [0, 8] rfl 0 3 rfl rfl) rfl ⟨Nat.le_of_ble_eq_true rfl, Nat.le_of_ble_eq_true rfl⟩ hl.1 (Nat.le_of_ble_eq_true rfl) (g_182 (v := 75) bX4_gainByReading rfl) ⟨Nat.le_of_ble_eq_true rfl, Nat.le_of_ble_eq_true rfl⟩) (fun r_11 h_12 => ?_)
    subst h_12
    refine lv_isub hx hb (g_100 bX4_gainByReading rfl) ?_
    refine lv_imul hx hb (g_104 bX4_gainByReading rfl) ?_
    exact endR hx hb hr hlocks rfl (by rw [zgb, if_neg c_3, ek_6, nI_clamp (by omega)]) (g_172 bX4_gainByReading rfl)
  · refine lv_iconst (v := 0) hx hb (g_3 bX4_gainByReading rfl) (by decide +kernel) ?_
    refine lv_goto (tgt := 38) hx hb dX4_gainByReading_12 (by decide +kernel) ?_
    exact endR hx hb hr hlocks rfl (by rw [zgb, if_pos c_3]) (g_172 bX4_gainByReading rfl)
set_option maxHeartbeats 4000000 in
set_option maxRecDepth 100000 in
theorem c_X4_drawBelow20 (l : Launch) (G : va_G) (cy : Nat → ClassId) (sz : Nat) (qt : Nat) (tA : TA) (qtw : Nat) (qtn : Nat) (qtg : Nat) (qta : Nat) (qtr : Nat) (qtm : Nat) (qtt : Nat) (qts : Nat)   : MW l yX4_drawBelow20 cX4_drawBelow20 1 (some .int) 1 0 0 G cy [zzO qt 3 [.int (nI (T_nb tA)), .int (nI (T_np tA)), .int (wb (T_wh tA)), .int (wb (T_gn tA)), .int (T_sd tA), .ref qtw, .ref qtn, .ref qtg, .ref qta, .ref qtr, .ref qtm, .ref qtt, .ref qts], zzI cy qtw 8 (T_wo tA), zzI cy qtn 8 (T_ne tA), zzI cy qtg 8 (T_go tA), zzI cy qta 8 (T_ag tA), zzI cy qtr 8 (T_re tA), zzI cy qtm 8 (T_me tA), zzI cy qtt 8 (T_te tA), zzI cy qts 64 (shF (T_kn tA))] sz [.ref qt] (Wi G (fun r u => u = [zzO qt 3 [.int (nI (T_nb (T_setsd tA (ltS (T_sd tA))))), .int (nI (T_np (T_setsd tA (ltS (T_sd tA))))), .int (wb (T_wh (T_setsd tA (ltS (T_sd tA))))), .int (wb (T_gn (T_setsd tA (ltS (T_sd tA))))), .int (T_sd (T_setsd tA (ltS (T_sd tA)))), .ref qtw, .ref qtn, .ref qtg, .ref qta, .ref qtr, .ref qtm, .ref qtt, .ref qts], zzI cy qtw 8 (T_wo (T_setsd tA (ltS (T_sd tA)))), zzI cy qtn 8 (T_ne (T_setsd tA (ltS (T_sd tA)))), zzI cy qtg 8 (T_go (T_setsd tA (ltS (T_sd tA)))), zzI cy qta 8 (T_ag (T_setsd tA (ltS (T_sd tA)))), zzI cy qtr 8 (T_re (T_setsd tA (ltS (T_sd tA)))), zzI cy qtm 8 (T_me (T_setsd tA (ltS (T_sd tA)))), zzI cy qtt 8 (T_te (T_setsd tA (ltS (T_sd tA)))), zzI cy qts 64 (shF (T_kn (T_setsd tA (ltS (T_sd tA)))))] ∧ ((r = (ltR (T_sd tA)))))) := by
  refine enW RX4 (by decide +kernel) rfl (Nat.le_of_ble_eq_true rfl) (fun p e s m below meth c ls A hx hb hml hown hts hr hlocks hP hN hl hin hD hA hS => ?_)
  have hin : meth.name = _ := hin
  have hK := hN.1
  replace hl : lv_has ls 1 [(0, .ref qt)] := hl
  refine lv_aload_n hx hb (g_42 bX4_drawBelow20 rfl) rfl (lv_at hl 0 rfl) ?_
  refine lv_aload_n hx hb (g_42 bX4_drawBelow20 rfl) rfl (lv_at hl 0 rfl) ?_
  refine va_get (D := G) (ci := 3) (v := .int (T_sd tA)) (C := RX4) (T := TX4) (N := 13) hx hb hts iX_X4 hown hK hP 0 rfl rfl 4 (by decide +kernel) (hts _ m_t46) (fun _ h9 => h9) rfl (g_180 (v := 9) bX4_drawBelow20 rfl) ?_
  refine lv_ldc hx hb hown (hts _ m_t810) (g_18 (v := 123) bX4_drawBelow20 rfl) ?_
  refine lv_imul hx hb (g_104 bX4_drawBelow20 rfl) ?_
  refine lv_sipush (v := 12345) hx hb dX4_drawBelow20_8 (by decide +kernel) ?_
  refine lv_iadd hx hb (g_96 bX4_drawBelow20 rfl) ?_
  refine lv_seti (v := ltS (T_sd tA)) (ltS_eq _) ?_
  refine va_put (D := G) (ci := 3) (v := .int (ltS (T_sd tA))) (ty := .int) (C := RX4) (T := TX4) (N := 13) hx hb hts iX_X4 tyX4 tyX4_ok nmX4 hown hK hP hD hS 0 rfl rfl 4 (by decide +kernel) (hts _ m_t46) (fun _ h9 => h9) rfl (by decide +kernel) rfl rfl (Nat.le_of_ble_eq_true rfl) (g_181 (v := 9) bX4_drawBelow20 rfl) (fun H locs => ?_)
  clear hP hD hS
  intro hP hD hS
  have hPD := pd_as [zzO qt 3 [.int (nI (T_nb tA)), .int (nI (T_np tA)), .int (wb (T_wh tA)), .int (wb (T_gn tA)), .int (ltS (T_sd tA)), .ref qtw, .ref qtn, .ref qtg, .ref qta, .ref qtr, .ref qtm, .ref qtt, .ref qts], _, _, _, _, _, _, _, _] hP hD rfl
  clear hP hD
  obtain ⟨hP, hD⟩ := hPD
  refine lv_aload_n hx hb (g_42 bX4_drawBelow20 rfl) rfl (lv_at hl 0 rfl) ?_
  refine va_get (D := G) (ci := 3) (v := .int (ltS (T_sd tA))) (C := RX4) (T := TX4) (N := 13) hx hb hts iX_X4 hown hK hP 0 rfl rfl 4 (by decide +kernel) (hts _ m_t46) (fun _ h9 => h9) rfl (g_180 (v := 9) bX4_drawBelow20 rfl) ?_
  refine lv_bipush (v := 16) hx hb dX4_drawBelow20_19 (by decide +kernel) ?_
  refine lv_iushr (v := ((ltS (T_sd tA)).toUInt32 >>> (Int32.toUInt32 16 &&& Int32.toUInt32 31)).toInt32) hx hb (g_124 bX4_drawBelow20 rfl) (rfl) ?_
  refine lv_seti (v := ltD (T_sd tA)) (ltD_eq _) ?_
  refine lv_bipush (v := 20) hx hb dX4_drawBelow20_22 (by decide +kernel) ?_
  refine lv_irem hx hb (g_112 bX4_drawBelow20 rfl) (by decide +kernel) ?_
  refine lv_seti (v := ltR (T_sd tA)) (ltR_eq _) ?_
  exact endWs [[true, true, true, true, true, true, true, true, true]] hx hb hr hlocks rfl hP hD rfl (by decide +kernel) hS ⟨rfl, rfl⟩ (g_172 bX4_drawBelow20 rfl)
set_option maxHeartbeats 4000000 in
set_option maxRecDepth 100000 in
theorem c_X4_forget (l : Launch) (G : va_G) (cy : Nat → ClassId) (sz : Nat) (qt : Nat) (tA : TA) (qtw : Nat) (qtn : Nat) (qtg : Nat) (qta : Nat) (qtr : Nat) (qtm : Nat) (qtt : Nat) (qts : Nat) (kI : Nat)  (hI : kI < 8) (hB : T_nb tA ≤ 8) : MW l yX4_forget cX4_forget 4 none 3 0 0 G cy [zzO qt 3 [.int (nI (T_nb tA)), .int (nI (T_np tA)), .int (wb (T_wh tA)), .int (wb (T_gn tA)), .int (T_sd tA), .ref qtw, .ref qtn, .ref qtg, .ref qta, .ref qtr, .ref qtm, .ref qtt, .ref qts], zzI cy qtw 8 (T_wo tA), zzI cy qtn 8 (T_ne tA), zzI cy qtg 8 (T_go tA), zzI cy qta 8 (T_ag tA), zzI cy qtr 8 (T_re tA), zzI cy qtm 8 (T_me tA), zzI cy qtt 8 (T_te tA), zzI cy qts 64 (shF (T_kn tA))] sz [.ref qt, .int (nI kI)] (Wv G (fun u => u = [zzO qt 3 [.int (nI (T_nb (fgT tA kI))), .int (nI (T_np (fgT tA kI))), .int (wb (T_wh (fgT tA kI))), .int (wb (T_gn (fgT tA kI))), .int (T_sd (fgT tA kI)), .ref qtw, .ref qtn, .ref qtg, .ref qta, .ref qtr, .ref qtm, .ref qtt, .ref qts], zzI cy qtw 8 (T_wo (fgT tA kI)), zzI cy qtn 8 (T_ne (fgT tA kI)), zzI cy qtg 8 (T_go (fgT tA kI)), zzI cy qta 8 (T_ag (fgT tA kI)), zzI cy qtr 8 (T_re (fgT tA kI)), zzI cy qtm 8 (T_me (fgT tA kI)), zzI cy qtt 8 (T_te (fgT tA kI)), zzI cy qts 64 (shF (T_kn (fgT tA kI)))])) := by
  refine enW RX4 (by decide +kernel) rfl (Nat.le_of_ble_eq_true rfl) (fun p e s m below meth c ls A hx hb hml hown hts hr hlocks hP hN hl hin hD hA hS => ?_)
  have hin : meth.name = _ := hin
  have hK := hN.1
  replace hl : lv_has ls 4 [(0, .ref qt), (1, .int (nI kI))] := hl
  refine lv_aload_n hx hb (g_42 bX4_forget rfl) rfl (lv_at hl 0 rfl) ?_
  refine va_get (D := G) (ci := 3) (v := .int (wb (T_gn tA))) (C := RX4) (T := TX4) (N := 13) hx hb hts iX_X4 hown hK hP 0 rfl rfl 3 (by decide +kernel) (hts _ m_t43) (fun _ h9 => h9) rfl (g_180 (v := 49) bX4_forget rfl) ?_
  refine lv_iload_n hx hb (g_27 bX4_forget rfl) rfl (lv_at hl 1 rfl) ?_
  refine kRi (rSN (As := [.int (wb (T_gn tA)), .int (nI kI)]) (rest := []) ⟨hx, hb, hml, hown, hts⟩ hN (c_X5_has l G cy (wb (T_gn tA)) kI) L_X4_62 (preRS hN hP [] rfl) rfl ⟨Nat.le_of_ble_eq_true rfl, Nat.le_of_ble_eq_true rfl⟩ hl.1 (Nat.le_of_ble_eq_true rfl) (g_184 (v := 62) bX4_forget rfl) ⟨Nat.le_of_ble_eq_true rfl, Nat.le_of_ble_eq_true rfl⟩) (fun r_1 h_2 => ?_)
  rcases h_2 with ⟨rfl, h_3⟩ | ⟨rfl, h_3⟩
  · rw [bit_wb _ (by omega)] at h_3
    refine lv_if_eq (tgt := 15) hx hb dX4_forget_8 (by decide +kernel) (fun h9 => absurd h9 (by decide +kernel)) (fun _ => ?_)
    refine lv_iconst (v := 0) hx hb (g_3 bX4_forget rfl) (by decide +kernel) ?_
    refine lv_goto (tgt := 24) hx hb dX4_forget_12 (by decide +kernel) ?_
    refine lv_istore_n (lv' := [(2, .int 0), (0, .ref qt), (1, .int (nI kI))]) hx hb (g_61 bX4_forget rfl) rfl hl (by decide +kernel) rfl (fun ls => ?_)
    clear hl
    intro hl
    refine lv_iconst (v := 0) hx hb (g_3 bX4_forget rfl) (by decide +kernel) ?_
    refine lv_istore_n (lv' := [(3, .int 0), (2, .int 0), (0, .ref qt), (1, .int (nI kI))]) hx hb (g_62 bX4_forget rfl) rfl hl (by decide +kernel) rfl (fun ls => ?_)
    clear hl
    intro hl
    have lp_5 : ∀ (n_6 : Nat) (j_8 : Nat) (tJ_9 : TA), 8 - j_8 < n_6 → j_8 ≤ T_nb tA → tJ_9 = T_setkn tA (fgK (T_kn tA) kI 0 j_8) → ∀ (H : Heap) (locs : List Loc) (ls : Array Slot), va_P G CL [zzO qt 3 [.int (nI (T_nb tJ_9)), .int (nI (T_np tJ_9)), .int (wb (T_wh tJ_9)), .int (wb (T_gn tJ_9)), .int (T_sd tJ_9), .ref qtw, .ref qtn, .ref qtg, .ref qta, .ref qtr, .ref qtm, .ref qtt, .ref qts], zzI cy qtw 8 (T_wo tJ_9), zzI cy qtn 8 (T_ne tJ_9), zzI cy qtg 8 (T_go tJ_9), zzI cy qta 8 (T_ag tJ_9), zzI cy qtr 8 (T_re tJ_9), zzI cy qtm 8 (T_me tJ_9), zzI cy qtt 8 (T_te tJ_9), zzI cy qts 64 (shF (T_kn tJ_9))] H → va_D A [zzO qt 3 [.int (nI (T_nb tJ_9)), .int (nI (T_np tJ_9)), .int (wb (T_wh tJ_9)), .int (wb (T_gn tJ_9)), .int (T_sd tJ_9), .ref qtw, .ref qtn, .ref qtg, .ref qta, .ref qtr, .ref qtm, .ref qtt, .ref qts], zzI cy qtw 8 (T_wo tJ_9), zzI cy qtn 8 (T_ne tJ_9), zzI cy qtg 8 (T_go tJ_9), zzI cy qta 8 (T_ag tJ_9), zzI cy qtr 8 (T_re tJ_9), zzI cy qtm 8 (T_me tJ_9), zzI cy qtt 8 (T_te tJ_9), zzI cy qts 64 (shF (T_kn tJ_9))] → va_S A s.heap H locs → lv_has ls 4 [(3, .int (nI j_8)), (2, .int 0), (0, .ref qt), (1, .int (nI kI))] → W p l e (Rm 3 0 0) s m (List.toArray (α := Value) [.ref qt, .int (nI kI)]) below meth c H locs 0 0 (MQ below ((Wv G (fun u => u = [zzO qt 3 [.int (nI (T_nb (fgT tA kI))), .int (nI (T_np (fgT tA kI))), .int (wb (T_wh (fgT tA kI))), .int (wb (T_gn (fgT tA kI))), .int (T_sd (fgT tA kI)), .ref qtw, .ref qtn, .ref qtg, .ref qta, .ref qtr, .ref qtm, .ref qtt, .ref qts], zzI cy qtw 8 (T_wo (fgT tA kI)), zzI cy qtn 8 (T_ne (fgT tA kI)), zzI cy qtg 8 (T_go (fgT tA kI)), zzI cy qta 8 (T_ag (fgT tA kI)), zzI cy qtr 8 (T_re (fgT tA kI)), zzI cy qtm 8 (T_me (fgT tA kI)), zzI cy qtt 8 (T_te (fgT tA kI)), zzI cy qts 64 (shF (T_kn (fgT tA kI)))])) A) (List.toArray (α := Value) [.ref qt, .int (nI kI)]) s 0 0 A) (F0 m 27 ls []) := by
      intro n_6
      induction n_6 with
      | zero => intro j_8 tJ_9 hm9; exact absurd hm9 (Nat.not_lt_zero _)
      | succ n_6 ih_7 =>
        intro j_8 tJ_9 hm_12 hj_10 htJ_11 H locs ls hP hD hS hl
        refine lv_iload_n hx hb (g_29 bX4_forget rfl) rfl (lv_at hl 0 rfl) ?_
        refine lv_aload_n hx hb (g_42 bX4_forget rfl) rfl (lv_at hl 2 rfl) ?_
        refine va_get (D := G) (ci := 3) (v := .int (nI (T_nb tJ_9))) (C := RX4) (T := TX4) (N := 13) hx hb hts iX_X4 hown hK hP 0 rfl rfl 0 (by decide +kernel) (hts _ m_t29) (fun _ h9 => h9) rfl (g_180 (v := 40) bX4_forget rfl) ?_
        refine lv_icmp_ge (tgt := 58) hx hb dX4_forget_32 (by decide +kernel) (fun c_13 => ?_) (fun c_13 => ?_)
        · have hlt_14e : T_nb tJ_9 = T_nb tA := by rw [htJ_11]
          have hlt_14 : j_8 = T_nb tA := Nat.le_antisymm (by omega) (by rw [hlt_14e] at c_13; exact lp_ge rfl rfl (by omega) (by omega) c_13)
          have e9_15 : tJ_9 = fgT tA kI := by rw [htJ_11, hlt_14, fgT, if_pos h_3]
          subst e9_15
          exact endVs [[true, true, true, true, true, true, true, true, true]] hx hb hr hlocks hP hD rfl (by decide +kernel) hS rfl (g_177 bX4_forget rfl)
        · have hlt_16e : T_nb tJ_9 = T_nb tA := by rw [htJ_11]
          have hlt_16 : j_8 < T_nb tA := by rw [hlt_16e] at c_13; exact lp_lt rfl rfl (by omega) (by omega) c_13
          refine lv_aload_n hx hb (g_42 bX4_forget rfl) rfl (lv_at hl 2 rfl) ?_
          refine lv_iload_n hx hb (g_27 bX4_forget rfl) rfl (lv_at hl 3 rfl) ?_
          refine lv_iload_n hx hb (g_29 bX4_forget rfl) rfl (lv_at hl 0 rfl) ?_
          refine lv_aload_n hx hb (g_42 bX4_forget rfl) rfl (lv_at hl 2 rfl) ?_
          refine lv_iload_n hx hb (g_27 bX4_forget rfl) rfl (lv_at hl 3 rfl) ?_
          refine lv_iload_n hx hb (g_29 bX4_forget rfl) rfl (lv_at hl 0 rfl) ?_
          refine kRi (rV (As := [.int (nI kI), .int (nI j_8)]) (rest := [.int (nI j_8), .int (nI kI), .ref qt]) (b := qt) ⟨hx, hb, hml, hown, hts⟩ (c_X4_knows l G cy qt tJ_9 qtw qtn qtg qta qtr qtm qtt qts kI j_8 hI (by omega)) L_X4_66 (preRV (q := (RX4, TX4, 13)) hN hP [0, 8] rfl 0 3 rfl rfl) rfl ⟨Nat.le_of_ble_eq_true rfl, Nat.le_of_ble_eq_true rfl⟩ hl.1 (Nat.le_of_ble_eq_true rfl) (g_182 (v := 66) bX4_forget rfl) ⟨Nat.le_of_ble_eq_true rfl, Nat.le_of_ble_eq_true rfl⟩) (fun r_17 h_18 => ?_)
          subst h_18
          refine lv_iload_n hx hb (g_28 bX4_forget rfl) rfl (lv_at hl 1 rfl) ?_
          refine lv_imul hx hb (g_104 bX4_forget rfl) ?_
          refine lv_bipush (v := 100) hx hb dX4_forget_46 (by decide +kernel) ?_
          refine lv_idiv hx hb (g_108 bX4_forget rfl) (by decide +kernel) ?_
          refine cVv (As := [.int (nI kI), .int (nI j_8), .int (((T_kn tJ_9 kI j_8) * 0) / 100)]) (rest := []) (b := qt) (q := (RX4, TX4, 13)) ⟨hx, hb, hml, hown, hts⟩ (c_X4_learn l G cy (H).size qt tJ_9 qtw qtn qtg qta qtr qtm qtt qts kI j_8 (((T_kn tJ_9 kI j_8) * 0) / 100) hI (by omega)) L_X4_94 hN hP hD hS hA [0, 8] [false, true, true, true, true, true, true, true, false] rfl (by decide +kernel) rfl 0 3 rfl rfl rfl ⟨Nat.le_of_ble_eq_true rfl, Nat.le_of_ble_eq_true rfl⟩ hl.1 (Nat.le_of_ble_eq_true rfl) (g_182 (v := 94) bX4_forget rfl) ⟨Nat.le_of_ble_eq_true rfl, Nat.le_of_ble_eq_true rfl⟩ (fun u_21 H locs h_20 => ?_)
          clear hP hD hS
          intro hP hD hS
          have hPD := pd_eq [zzI cy qtw 8 (T_wo (T_setkn tJ_9 (updM (T_kn tJ_9) kI j_8 (((T_kn tJ_9 kI j_8) * 0) / 100)))), zzI cy qtn 8 (T_ne (T_setkn tJ_9 (updM (T_kn tJ_9) kI j_8 (((T_kn tJ_9 kI j_8) * 0) / 100)))), zzI cy qtg 8 (T_go (T_setkn tJ_9 (updM (T_kn tJ_9) kI j_8 (((T_kn tJ_9 kI j_8) * 0) / 100)))), zzI cy qta 8 (T_ag (T_setkn tJ_9 (updM (T_kn tJ_9) kI j_8 (((T_kn tJ_9 kI j_8) * 0) / 100)))), zzI cy qtr 8 (T_re (T_setkn tJ_9 (updM (T_kn tJ_9) kI j_8 (((T_kn tJ_9 kI j_8) * 0) / 100)))), zzI cy qtm 8 (T_me (T_setkn tJ_9 (updM (T_kn tJ_9) kI j_8 (((T_kn tJ_9 kI j_8) * 0) / 100)))), zzI cy qtt 8 (T_te (T_setkn tJ_9 (updM (T_kn tJ_9) kI j_8 (((T_kn tJ_9 kI j_8) * 0) / 100)))), zzO qt 3 [.int (nI (T_nb (T_setkn tJ_9 (updM (T_kn tJ_9) kI j_8 (((T_kn tJ_9 kI j_8) * 0) / 100))))), .int (nI (T_np (T_setkn tJ_9 (updM (T_kn tJ_9) kI j_8 (((T_kn tJ_9 kI j_8) * 0) / 100))))), .int (wb (T_wh (T_setkn tJ_9 (updM (T_kn tJ_9) kI j_8 (((T_kn tJ_9 kI j_8) * 0) / 100))))), .int (wb (T_gn (T_setkn tJ_9 (updM (T_kn tJ_9) kI j_8 (((T_kn tJ_9 kI j_8) * 0) / 100))))), .int (T_sd (T_setkn tJ_9 (updM (T_kn tJ_9) kI j_8 (((T_kn tJ_9 kI j_8) * 0) / 100)))), .ref qtw, .ref qtn, .ref qtg, .ref qta, .ref qtr, .ref qtm, .ref qtt, .ref qts], zzI cy qts 64 (shF (T_kn (T_setkn tJ_9 (updM (T_kn tJ_9) kI j_8 (((T_kn tJ_9 kI j_8) * 0) / 100)))))] hP hD h_20 rfl
          clear hP hD h_20
          obtain ⟨hP, hD⟩ := hPD
          refine lv_iinc (v := nI (j_8 + 1)) (lv' := [(3, .int (nI (j_8 + 1))), (2, .int 0), (0, .ref qt), (1, .int (nI kI))]) hx hb dX4_forget_52 hl (k := 0) rfl (nI_1 _) (by decide +kernel) rfl (fun ls => ?_)
          clear hl
          intro hl
          refine lv_goto (tgt := 27) hx hb dX4_forget_55 (by decide +kernel) ?_
          exact ih_7 (j_8 + 1) (T_setkn tJ_9 (updM (T_kn tJ_9) kI j_8 (((T_kn tJ_9 kI j_8) * 0) / 100))) (by omega) (by omega) (by rw [htJ_11]; rfl) _ _ _ (pSb hP [[false, false, false, false, false, false, false, true], [true, true, true, true, true, true, true, false, true]] rfl rfl) (dSb hD [[false, false, false, false, false, false, false, true], [true, true, true, true, true, true, true, false, true]] (by decide +kernel) rfl rfl) hS (lv_sub hl [0, 1, 2, 3] rfl)
    exact lp_5 ((8 - 0) + 1) 0 tA (Nat.lt_succ_self _) (Nat.zero_le _) rfl _ _ ls hP hD hS (lv_sub hl [0, 1, 2, 3] rfl)
  · rw [bit_wb _ (by omega)] at h_3
    refine lv_if_eq (tgt := 15) hx hb dX4_forget_8 (by decide +kernel) (fun _ => ?_) (fun h9 => absurd (by decide +kernel) h9)
    refine lv_bipush (v := 90) hx hb dX4_forget_15 (by decide +kernel) ?_
    refine lv_aload_n hx hb (g_42 bX4_forget rfl) rfl (lv_at hl 0 rfl) ?_
    refine va_get (D := G) (ci := 3) (v := .ref qtm) (C := RX4) (T := TX4) (N := 13) hx hb hts iX_X4 hown hK hP 0 rfl rfl 10 (by decide +kernel) (hts _ m_t60) (fun _ h9 => h9) rfl (g_180 (v := 31) bX4_forget rfl) ?_
    refine lv_iload_n hx hb (g_27 bX4_forget rfl) rfl (lv_at hl 1 rfl) ?_
    refine va_iald hx hb hK hP 6 0 rfl rfl (in8 (by omega)) (g_46 bX4_forget rfl) ?_
    refine lv_seti (v := (T_me tA) kI) (congrArg (T_me tA) (cl8 (by omega))) ?_
    refine lv_iadd hx hb (g_96 bX4_forget rfl) ?_
    refine lv_istore_n (lv' := [(2, .int (90 + ((T_me tA) kI))), (0, .ref qt), (1, .int (nI kI))]) hx hb (g_61 bX4_forget rfl) rfl hl (by decide +kernel) rfl (fun ls => ?_)
    clear hl
    intro hl
    refine lv_iconst (v := 0) hx hb (g_3 bX4_forget rfl) (by decide +kernel) ?_
    refine lv_istore_n (lv' := [(3, .int 0), (2, .int (90 + ((T_me tA) kI))), (0, .ref qt), (1, .int (nI kI))]) hx hb (g_62 bX4_forget rfl) rfl hl (by decide +kernel) rfl (fun ls => ?_)
    clear hl
    intro hl
    have lp_23 : ∀ (n_24 : Nat) (j_26 : Nat) (tJ_27 : TA), 8 - j_26 < n_24 → j_26 ≤ T_nb tA → tJ_27 = T_setkn tA (fgK (T_kn tA) kI (90 + ((T_me tA) kI)) j_26) → ∀ (H : Heap) (locs : List Loc) (ls : Array Slot), va_P G CL [zzO qt 3 [.int (nI (T_nb tJ_27)), .int (nI (T_np tJ_27)), .int (wb (T_wh tJ_27)), .int (wb (T_gn tJ_27)), .int (T_sd tJ_27), .ref qtw, .ref qtn, .ref qtg, .ref qta, .ref qtr, .ref qtm, .ref qtt, .ref qts], zzI cy qtw 8 (T_wo tJ_27), zzI cy qtn 8 (T_ne tJ_27), zzI cy qtg 8 (T_go tJ_27), zzI cy qta 8 (T_ag tJ_27), zzI cy qtr 8 (T_re tJ_27), zzI cy qtm 8 (T_me tJ_27), zzI cy qtt 8 (T_te tJ_27), zzI cy qts 64 (shF (T_kn tJ_27))] H → va_D A [zzO qt 3 [.int (nI (T_nb tJ_27)), .int (nI (T_np tJ_27)), .int (wb (T_wh tJ_27)), .int (wb (T_gn tJ_27)), .int (T_sd tJ_27), .ref qtw, .ref qtn, .ref qtg, .ref qta, .ref qtr, .ref qtm, .ref qtt, .ref qts], zzI cy qtw 8 (T_wo tJ_27), zzI cy qtn 8 (T_ne tJ_27), zzI cy qtg 8 (T_go tJ_27), zzI cy qta 8 (T_ag tJ_27), zzI cy qtr 8 (T_re tJ_27), zzI cy qtm 8 (T_me tJ_27), zzI cy qtt 8 (T_te tJ_27), zzI cy qts 64 (shF (T_kn tJ_27))] → va_S A s.heap H locs → lv_has ls 4 [(3, .int (nI j_26)), (2, .int (90 + ((T_me tA) kI))), (0, .ref qt), (1, .int (nI kI))] → W p l e (Rm 3 0 0) s m (List.toArray (α := Value) [.ref qt, .int (nI kI)]) below meth c H locs 0 0 (MQ below ((Wv G (fun u => u = [zzO qt 3 [.int (nI (T_nb (fgT tA kI))), .int (nI (T_np (fgT tA kI))), .int (wb (T_wh (fgT tA kI))), .int (wb (T_gn (fgT tA kI))), .int (T_sd (fgT tA kI)), .ref qtw, .ref qtn, .ref qtg, .ref qta, .ref qtr, .ref qtm, .ref qtt, .ref qts], zzI cy qtw 8 (T_wo (fgT tA kI)), zzI cy qtn 8 (T_ne (fgT tA kI)), zzI cy qtg 8 (T_go (fgT tA kI)), zzI cy qta 8 (T_ag (fgT tA kI)), zzI cy qtr 8 (T_re (fgT tA kI)), zzI cy qtm 8 (T_me (fgT tA kI)), zzI cy qtt 8 (T_te (fgT tA kI)), zzI cy qts 64 (shF (T_kn (fgT tA kI)))])) A) (List.toArray (α := Value) [.ref qt, .int (nI kI)]) s 0 0 A) (F0 m 27 ls []) := by
      intro n_24
      induction n_24 with
      | zero => intro j_26 tJ_27 hm9; exact absurd hm9 (Nat.not_lt_zero _)
      | succ n_24 ih_25 =>
        intro j_26 tJ_27 hm_30 hj_28 htJ_29 H locs ls hP hD hS hl
        refine lv_iload_n hx hb (g_29 bX4_forget rfl) rfl (lv_at hl 0 rfl) ?_
        refine lv_aload_n hx hb (g_42 bX4_forget rfl) rfl (lv_at hl 2 rfl) ?_
        refine va_get (D := G) (ci := 3) (v := .int (nI (T_nb tJ_27))) (C := RX4) (T := TX4) (N := 13) hx hb hts iX_X4 hown hK hP 0 rfl rfl 0 (by decide +kernel) (hts _ m_t29) (fun _ h9 => h9) rfl (g_180 (v := 40) bX4_forget rfl) ?_
        refine lv_icmp_ge (tgt := 58) hx hb dX4_forget_32 (by decide +kernel) (fun c_31 => ?_) (fun c_31 => ?_)
        · have hlt_32e : T_nb tJ_27 = T_nb tA := by rw [htJ_29]
          have hlt_32 : j_26 = T_nb tA := Nat.le_antisymm (by omega) (by rw [hlt_32e] at c_31; exact lp_ge rfl rfl (by omega) (by omega) c_31)
          have e9_33 : tJ_27 = fgT tA kI := by rw [htJ_29, hlt_32, fgT, if_neg (by rw [h_3]; decide)]
          subst e9_33
          exact endVs [[true, true, true, true, true, true, true, true, true]] hx hb hr hlocks hP hD rfl (by decide +kernel) hS rfl (g_177 bX4_forget rfl)
        · have hlt_34e : T_nb tJ_27 = T_nb tA := by rw [htJ_29]
          have hlt_34 : j_26 < T_nb tA := by rw [hlt_34e] at c_31; exact lp_lt rfl rfl (by omega) (by omega) c_31
          refine lv_aload_n hx hb (g_42 bX4_forget rfl) rfl (lv_at hl 2 rfl) ?_
          refine lv_iload_n hx hb (g_27 bX4_forget rfl) rfl (lv_at hl 3 rfl) ?_
          refine lv_iload_n hx hb (g_29 bX4_forget rfl) rfl (lv_at hl 0 rfl) ?_
          refine lv_aload_n hx hb (g_42 bX4_forget rfl) rfl (lv_at hl 2 rfl) ?_
          refine lv_iload_n hx hb (g_27 bX4_forget rfl) rfl (lv_at hl 3 rfl) ?_
          refine lv_iload_n hx hb (g_29 bX4_forget rfl) rfl (lv_at hl 0 rfl) ?_
          refine kRi (rV (As := [.int (nI kI), .int (nI j_26)]) (rest := [.int (nI j_26), .int (nI kI), .ref qt]) (b := qt) ⟨hx, hb, hml, hown, hts⟩ (c_X4_knows l G cy qt tJ_27 qtw qtn qtg qta qtr qtm qtt qts kI j_26 hI (by omega)) L_X4_66 (preRV (q := (RX4, TX4, 13)) hN hP [0, 8] rfl 0 3 rfl rfl) rfl ⟨Nat.le_of_ble_eq_true rfl, Nat.le_of_ble_eq_true rfl⟩ hl.1 (Nat.le_of_ble_eq_true rfl) (g_182 (v := 66) bX4_forget rfl) ⟨Nat.le_of_ble_eq_true rfl, Nat.le_of_ble_eq_true rfl⟩) (fun r_35 h_36 => ?_)
          subst h_36
          refine lv_iload_n hx hb (g_28 bX4_forget rfl) rfl (lv_at hl 1 rfl) ?_
          refine lv_imul hx hb (g_104 bX4_forget rfl) ?_
          refine lv_bipush (v := 100) hx hb dX4_forget_46 (by decide +kernel) ?_
          refine lv_idiv hx hb (g_108 bX4_forget rfl) (by decide +kernel) ?_
          refine cVv (As := [.int (nI kI), .int (nI j_26), .int (((T_kn tJ_27 kI j_26) * (90 + ((T_me tA) kI))) / 100)]) (rest := []) (b := qt) (q := (RX4, TX4, 13)) ⟨hx, hb, hml, hown, hts⟩ (c_X4_learn l G cy (H).size qt tJ_27 qtw qtn qtg qta qtr qtm qtt qts kI j_26 (((T_kn tJ_27 kI j_26) * (90 + ((T_me tA) kI))) / 100) hI (by omega)) L_X4_94 hN hP hD hS hA [0, 8] [false, true, true, true, true, true, true, true, false] rfl (by decide +kernel) rfl 0 3 rfl rfl rfl ⟨Nat.le_of_ble_eq_true rfl, Nat.le_of_ble_eq_true rfl⟩ hl.1 (Nat.le_of_ble_eq_true rfl) (g_182 (v := 94) bX4_forget rfl) ⟨Nat.le_of_ble_eq_true rfl, Nat.le_of_ble_eq_true rfl⟩ (fun u_39 H locs h_38 => ?_)
          clear hP hD hS
          intro hP hD hS
          have hPD := pd_eq [zzI cy qtw 8 (T_wo (T_setkn tJ_27 (updM (T_kn tJ_27) kI j_26 (((T_kn tJ_27 kI j_26) * (90 + ((T_me tA) kI))) / 100)))), zzI cy qtn 8 (T_ne (T_setkn tJ_27 (updM (T_kn tJ_27) kI j_26 (((T_kn tJ_27 kI j_26) * (90 + ((T_me tA) kI))) / 100)))), zzI cy qtg 8 (T_go (T_setkn tJ_27 (updM (T_kn tJ_27) kI j_26 (((T_kn tJ_27 kI j_26) * (90 + ((T_me tA) kI))) / 100)))), zzI cy qta 8 (T_ag (T_setkn tJ_27 (updM (T_kn tJ_27) kI j_26 (((T_kn tJ_27 kI j_26) * (90 + ((T_me tA) kI))) / 100)))), zzI cy qtr 8 (T_re (T_setkn tJ_27 (updM (T_kn tJ_27) kI j_26 (((T_kn tJ_27 kI j_26) * (90 + ((T_me tA) kI))) / 100)))), zzI cy qtm 8 (T_me (T_setkn tJ_27 (updM (T_kn tJ_27) kI j_26 (((T_kn tJ_27 kI j_26) * (90 + ((T_me tA) kI))) / 100)))), zzI cy qtt 8 (T_te (T_setkn tJ_27 (updM (T_kn tJ_27) kI j_26 (((T_kn tJ_27 kI j_26) * (90 + ((T_me tA) kI))) / 100)))), zzO qt 3 [.int (nI (T_nb (T_setkn tJ_27 (updM (T_kn tJ_27) kI j_26 (((T_kn tJ_27 kI j_26) * (90 + ((T_me tA) kI))) / 100))))), .int (nI (T_np (T_setkn tJ_27 (updM (T_kn tJ_27) kI j_26 (((T_kn tJ_27 kI j_26) * (90 + ((T_me tA) kI))) / 100))))), .int (wb (T_wh (T_setkn tJ_27 (updM (T_kn tJ_27) kI j_26 (((T_kn tJ_27 kI j_26) * (90 + ((T_me tA) kI))) / 100))))), .int (wb (T_gn (T_setkn tJ_27 (updM (T_kn tJ_27) kI j_26 (((T_kn tJ_27 kI j_26) * (90 + ((T_me tA) kI))) / 100))))), .int (T_sd (T_setkn tJ_27 (updM (T_kn tJ_27) kI j_26 (((T_kn tJ_27 kI j_26) * (90 + ((T_me tA) kI))) / 100)))), .ref qtw, .ref qtn, .ref qtg, .ref qta, .ref qtr, .ref qtm, .ref qtt, .ref qts], zzI cy qts 64 (shF (T_kn (T_setkn tJ_27 (updM (T_kn tJ_27) kI j_26 (((T_kn tJ_27 kI j_26) * (90 + ((T_me tA) kI))) / 100)))))] hP hD h_38 rfl
          clear hP hD h_38
          obtain ⟨hP, hD⟩ := hPD
          refine lv_iinc (v := nI (j_26 + 1)) (lv' := [(3, .int (nI (j_26 + 1))), (2, .int (90 + ((T_me tA) kI))), (0, .ref qt), (1, .int (nI kI))]) hx hb dX4_forget_52 hl (k := 0) rfl (nI_1 _) (by decide +kernel) rfl (fun ls => ?_)
          clear hl
          intro hl
          refine lv_goto (tgt := 27) hx hb dX4_forget_55 (by decide +kernel) ?_
          exact ih_25 (j_26 + 1) (T_setkn tJ_27 (updM (T_kn tJ_27) kI j_26 (((T_kn tJ_27 kI j_26) * (90 + ((T_me tA) kI))) / 100))) (by omega) (by omega) (by rw [htJ_29]; rfl) _ _ _ (pSb hP [[false, false, false, false, false, false, false, true], [true, true, true, true, true, true, true, false, true]] rfl rfl) (dSb hD [[false, false, false, false, false, false, false, true], [true, true, true, true, true, true, true, false, true]] (by decide +kernel) rfl rfl) hS (lv_sub hl [0, 1, 2, 3] rfl)
    exact lp_23 ((8 - 0) + 1) 0 tA (Nat.lt_succ_self _) (Nat.zero_le _) rfl _ _ ls hP hD hS (lv_sub hl [0, 1, 2, 3] rfl)
end
section
set_option maxHeartbeats 4000000 in
set_option maxRecDepth 100000 in
theorem c_X4_become (l : Launch) (G : va_G) (cy : Nat → ClassId) (sz : Nat) (qk : Nat) (tB : TA) (qkw : Nat) (qkn : Nat) (qkg : Nat) (qka : Nat) (qkr : Nat) (qkm : Nat) (qkt : Nat) (qks : Nat) (qt : Nat) (tA : TA) (qtw : Nat) (qtn : Nat) (qtg : Nat) (qta : Nat) (qtr : Nat) (qtm : Nat) (qtt : Nat) (qts : Nat)   : MW l yX4_become cX4_become 2 none 2 0 0 G cy [zzO qk 3 [.int (nI (T_nb tB)), .int (nI (T_np tB)), .int (wb (T_wh tB)), .int (wb (T_gn tB)), .int (T_sd tB), .ref qkw, .ref qkn, .ref qkg, .ref qka, .ref qkr, .ref qkm, .ref qkt, .ref qks], zzI cy qkw 8 (T_wo tB), zzI cy qkn 8 (T_ne tB), zzI cy qkg 8 (T_go tB), zzI cy qka 8 (T_ag tB), zzI cy qkr 8 (T_re tB), zzI cy qkm 8 (T_me tB), zzI cy qkt 8 (T_te tB), zzI cy qks 64 (shF (T_kn tB)), zzO qt 3 [.int (nI (T_nb tA)), .int (nI (T_np tA)), .int (wb (T_wh tA)), .int (wb (T_gn tA)), .int (T_sd tA), .ref qtw, .ref qtn, .ref qtg, .ref qta, .ref qtr, .ref qtm, .ref qtt, .ref qts], zzI cy qtw 8 (T_wo tA), zzI cy qtn 8 (T_ne tA), zzI cy qtg 8 (T_go tA), zzI cy qta 8 (T_ag tA), zzI cy qtr 8 (T_re tA), zzI cy qtm 8 (T_me tA), zzI cy qtt 8 (T_te tA), zzI cy qts 64 (shF (T_kn tA))] sz [.ref qk, .ref qt] (Wv G (fun u => u = [zzO qk 3 [.int (nI (T_nb tA)), .int (nI (T_np tA)), .int (wb (T_wh tA)), .int (wb (T_gn tA)), .int (T_sd tA), .ref qkw, .ref qkn, .ref qkg, .ref qka, .ref qkr, .ref qkm, .ref qkt, .ref qks], zzI cy qkw 8 (T_wo tA), zzI cy qkn 8 (T_ne tA), zzI cy qkg 8 (T_go tA), zzI cy qka 8 (T_ag tA), zzI cy qkr 8 (T_re tA), zzI cy qkm 8 (T_me tA), zzI cy qkt 8 (T_te tA), zzI cy qks 64 (shF (T_kn tA)), zzO qt 3 [.int (nI (T_nb tA)), .int (nI (T_np tA)), .int (wb (T_wh tA)), .int (wb (T_gn tA)), .int (T_sd tA), .ref qtw, .ref qtn, .ref qtg, .ref qta, .ref qtr, .ref qtm, .ref qtt, .ref qts], zzI cy qtw 8 (T_wo tA), zzI cy qtn 8 (T_ne tA), zzI cy qtg 8 (T_go tA), zzI cy qta 8 (T_ag tA), zzI cy qtr 8 (T_re tA), zzI cy qtm 8 (T_me tA), zzI cy qtt 8 (T_te tA), zzI cy qts 64 (shF (T_kn tA))])) := by
  refine enW RX4 (by decide +kernel) rfl (Nat.le_of_ble_eq_true rfl) (fun p e s m below meth c ls A hx hb hml hown hts hr hlocks hP hN hl hin hD hA hS => ?_)
  have hin : meth.name = _ := hin
  have hK := hN.1
  replace hl : lv_has ls 2 [(0, .ref qk), (1, .ref qt)] := hl
  refine lv_aload_n hx hb (g_42 bX4_become rfl) rfl (lv_at hl 0 rfl) ?_
  refine lv_aload_n hx hb (g_43 bX4_become rfl) rfl (lv_at hl 1 rfl) ?_
  refine va_get (D := G) (ci := 3) (v := .int (nI (T_nb tA))) (C := RX4) (T := TX4) (N := 13) hx hb hts iX_X4 hown hK hP 9 rfl rfl 0 (by decide +kernel) (hts _ m_t29) (fun _ h9 => h9) rfl (g_180 (v := 40) bX4_become rfl) ?_
  refine va_put (D := G) (ci := 3) (v := .int (nI (T_nb tA))) (ty := .int) (C := RX4) (T := TX4) (N := 13) hx hb hts iX_X4 tyX4 tyX4_ok nmX4 hown hK hP hD hS 0 rfl rfl 0 (by decide +kernel) (hts _ m_t29) (fun _ h9 => h9) rfl (by decide +kernel) rfl rfl (Nat.le_of_ble_eq_true rfl) (g_181 (v := 40) bX4_become rfl) (fun H locs => ?_)
  clear hP hD hS
  intro hP hD hS
  have hPD := pd_as [zzO qk 3 [.int (nI (T_nb tA)), .int (nI (T_np tB)), .int (wb (T_wh tB)), .int (wb (T_gn tB)), .int (T_sd tB), .ref qkw, .ref qkn, .ref qkg, .ref qka, .ref qkr, .ref qkm, .ref qkt, .ref qks], _, _, _, _, _, _, _, _, _, _, _, _, _, _, _, _, _] hP hD rfl
  clear hP hD
  obtain ⟨hP, hD⟩ := hPD
  refine lv_aload_n hx hb (g_42 bX4_become rfl) rfl (lv_at hl 0 rfl) ?_
  refine lv_aload_n hx hb (g_43 bX4_become rfl) rfl (lv_at hl 1 rfl) ?_
  refine va_get (D := G) (ci := 3) (v := .int (nI (T_np tA))) (C := RX4) (T := TX4) (N := 13) hx hb hts iX_X4 hown hK hP 9 rfl rfl 1 (by decide +kernel) (hts _ m_t34) (fun _ h9 => h9) rfl (g_180 (v := 43) bX4_become rfl) ?_
  refine va_put (D := G) (ci := 3) (v := .int (nI (T_np tA))) (ty := .int) (C := RX4) (T := TX4) (N := 13) hx hb hts iX_X4 tyX4 tyX4_ok nmX4 hown hK hP hD hS 0 rfl rfl 1 (by decide +kernel) (hts _ m_t34) (fun _ h9 => h9) rfl (by decide +kernel) rfl rfl (Nat.le_of_ble_eq_true rfl) (g_181 (v := 43) bX4_become rfl) (fun H locs => ?_)
  clear hP hD hS
  intro hP hD hS
  have hPD := pd_as [zzO qk 3 [.int (nI (T_nb tA)), .int (nI (T_np tA)), .int (wb (T_wh tB)), .int (wb (T_gn tB)), .int (T_sd tB), .ref qkw, .ref qkn, .ref qkg, .ref qka, .ref qkr, .ref qkm, .ref qkt, .ref qks], _, _, _, _, _, _, _, _, _, _, _, _, _, _, _, _, _] hP hD rfl
  clear hP hD
  obtain ⟨hP, hD⟩ := hPD
  refine lv_aload_n hx hb (g_42 bX4_become rfl) rfl (lv_at hl 0 rfl) ?_
  refine lv_aload_n hx hb (g_43 bX4_become rfl) rfl (lv_at hl 1 rfl) ?_
  refine va_get (D := G) (ci := 3) (v := .int (wb (T_wh tA))) (C := RX4) (T := TX4) (N := 13) hx hb hts iX_X4 hown hK hP 9 rfl rfl 2 (by decide +kernel) (hts _ m_t39) (fun _ h9 => h9) rfl (g_180 (v := 46) bX4_become rfl) ?_
  refine va_put (D := G) (ci := 3) (v := .int (wb (T_wh tA))) (ty := .int) (C := RX4) (T := TX4) (N := 13) hx hb hts iX_X4 tyX4 tyX4_ok nmX4 hown hK hP hD hS 0 rfl rfl 2 (by decide +kernel) (hts _ m_t39) (fun _ h9 => h9) rfl (by decide +kernel) rfl rfl (Nat.le_of_ble_eq_true rfl) (g_181 (v := 46) bX4_become rfl) (fun H locs => ?_)
  clear hP hD hS
  intro hP hD hS
  have hPD := pd_as [zzO qk 3 [.int (nI (T_nb tA)), .int (nI (T_np tA)), .int (wb (T_wh tA)), .int (wb (T_gn tB)), .int (T_sd tB), .ref qkw, .ref qkn, .ref qkg, .ref qka, .ref qkr, .ref qkm, .ref qkt, .ref qks], _, _, _, _, _, _, _, _, _, _, _, _, _, _, _, _, _] hP hD rfl
  clear hP hD
  obtain ⟨hP, hD⟩ := hPD
  refine lv_aload_n hx hb (g_42 bX4_become rfl) rfl (lv_at hl 0 rfl) ?_
  refine lv_aload_n hx hb (g_43 bX4_become rfl) rfl (lv_at hl 1 rfl) ?_
  refine va_get (D := G) (ci := 3) (v := .int (wb (T_gn tA))) (C := RX4) (T := TX4) (N := 13) hx hb hts iX_X4 hown hK hP 9 rfl rfl 3 (by decide +kernel) (hts _ m_t43) (fun _ h9 => h9) rfl (g_180 (v := 49) bX4_become rfl) ?_
  refine va_put (D := G) (ci := 3) (v := .int (wb (T_gn tA))) (ty := .int) (C := RX4) (T := TX4) (N := 13) hx hb hts iX_X4 tyX4 tyX4_ok nmX4 hown hK hP hD hS 0 rfl rfl 3 (by decide +kernel) (hts _ m_t43) (fun _ h9 => h9) rfl (by decide +kernel) rfl rfl (Nat.le_of_ble_eq_true rfl) (g_181 (v := 49) bX4_become rfl) (fun H locs => ?_)
  clear hP hD hS
  intro hP hD hS
  have hPD := pd_as [zzO qk 3 [.int (nI (T_nb tA)), .int (nI (T_np tA)), .int (wb (T_wh tA)), .int (wb (T_gn tA)), .int (T_sd tB), .ref qkw, .ref qkn, .ref qkg, .ref qka, .ref qkr, .ref qkm, .ref qkt, .ref qks], _, _, _, _, _, _, _, _, _, _, _, _, _, _, _, _, _] hP hD rfl
  clear hP hD
  obtain ⟨hP, hD⟩ := hPD
  refine lv_aload_n hx hb (g_42 bX4_become rfl) rfl (lv_at hl 0 rfl) ?_
  refine lv_aload_n hx hb (g_43 bX4_become rfl) rfl (lv_at hl 1 rfl) ?_
  refine va_get (D := G) (ci := 3) (v := .int (T_sd tA)) (C := RX4) (T := TX4) (N := 13) hx hb hts iX_X4 hown hK hP 9 rfl rfl 4 (by decide +kernel) (hts _ m_t46) (fun _ h9 => h9) rfl (g_180 (v := 9) bX4_become rfl) ?_
  refine va_put (D := G) (ci := 3) (v := .int (T_sd tA)) (ty := .int) (C := RX4) (T := TX4) (N := 13) hx hb hts iX_X4 tyX4 tyX4_ok nmX4 hown hK hP hD hS 0 rfl rfl 4 (by decide +kernel) (hts _ m_t46) (fun _ h9 => h9) rfl (by decide +kernel) rfl rfl (Nat.le_of_ble_eq_true rfl) (g_181 (v := 9) bX4_become rfl) (fun H locs => ?_)
  clear hP hD hS
  intro hP hD hS
  have hPD := pd_as [_, _, _, _, _, _, _, _, _, _, _, _, _, _, _, _, _, _] hP hD rfl
  clear hP hD
  obtain ⟨hP, hD⟩ := hPD
  refine lv_aload_n hx hb (g_43 bX4_become rfl) rfl (lv_at hl 1 rfl) ?_
  refine va_get (D := G) (ci := 3) (v := .ref qtw) (C := RX4) (T := TX4) (N := 13) hx hb hts iX_X4 hown hK hP 9 rfl rfl 5 (by decide +kernel) (hts _ m_t48) (fun _ h9 => h9) rfl (g_180 (v := 15) bX4_become rfl) ?_
  refine lv_iconst (v := 0) hx hb (g_3 bX4_become rfl) (by decide +kernel) ?_
  refine lv_aload_n hx hb (g_42 bX4_become rfl) rfl (lv_at hl 0 rfl) ?_
  refine va_get (D := G) (ci := 3) (v := .ref qkw) (C := RX4) (T := TX4) (N := 13) hx hb hts iX_X4 hown hK hP 0 rfl rfl 5 (by decide +kernel) (hts _ m_t48) (fun _ h9 => h9) rfl (g_180 (v := 15) bX4_become rfl) ?_
  refine lv_iconst (v := 0) hx hb (g_3 bX4_become rfl) (by decide +kernel) ?_
  refine lv_bipush (v := 8) hx hb dX4_become_50 (by decide +kernel) ?_
  refine cpAll hx hb (hml.trans hl.1.symm) hown (hts _ m_t310) (hts _ m_nat) (hts _ m_t263) (hts _ m_t7) hK hP hD hS 10 1 8 rfl rfl (by decide +kernel) (by decide +kernel) (Nat.le_of_ble_eq_true rfl) (Nat.le_of_ble_eq_true rfl) (g_184 (v := 52) bX4_become rfl) (fun H locs => ?_)
  clear hP hD hS
  intro hP hD hS
  have hPD := pd_as [_, _, _, _, _, _, _, _, _, _, _, _, _, _, _, _, _, _] hP hD rfl
  clear hP hD
  obtain ⟨hP, hD⟩ := hPD
  refine lv_aload_n hx hb (g_43 bX4_become rfl) rfl (lv_at hl 1 rfl) ?_
  refine va_get (D := G) (ci := 3) (v := .ref qtn) (C := RX4) (T := TX4) (N := 13) hx hb hts iX_X4 hown hK hP 9 rfl rfl 6 (by decide +kernel) (hts _ m_t50) (fun _ h9 => h9) rfl (g_180 (v := 19) bX4_become rfl) ?_
  refine lv_iconst (v := 0) hx hb (g_3 bX4_become rfl) (by decide +kernel) ?_
  refine lv_aload_n hx hb (g_42 bX4_become rfl) rfl (lv_at hl 0 rfl) ?_
  refine va_get (D := G) (ci := 3) (v := .ref qkn) (C := RX4) (T := TX4) (N := 13) hx hb hts iX_X4 hown hK hP 0 rfl rfl 6 (by decide +kernel) (hts _ m_t50) (fun _ h9 => h9) rfl (g_180 (v := 19) bX4_become rfl) ?_
  refine lv_iconst (v := 0) hx hb (g_3 bX4_become rfl) (by decide +kernel) ?_
  refine lv_bipush (v := 8) hx hb dX4_become_65 (by decide +kernel) ?_
  refine cpAll hx hb (hml.trans hl.1.symm) hown (hts _ m_t310) (hts _ m_nat) (hts _ m_t263) (hts _ m_t7) hK hP hD hS 11 2 8 rfl rfl (by decide +kernel) (by decide +kernel) (Nat.le_of_ble_eq_true rfl) (Nat.le_of_ble_eq_true rfl) (g_184 (v := 52) bX4_become rfl) (fun H locs => ?_)
  clear hP hD hS
  intro hP hD hS
  have hPD := pd_as [_, _, _, _, _, _, _, _, _, _, _, _, _, _, _, _, _, _] hP hD rfl
  clear hP hD
  obtain ⟨hP, hD⟩ := hPD
  refine lv_aload_n hx hb (g_43 bX4_become rfl) rfl (lv_at hl 1 rfl) ?_
  refine va_get (D := G) (ci := 3) (v := .ref qtg) (C := RX4) (T := TX4) (N := 13) hx hb hts iX_X4 hown hK hP 9 rfl rfl 7 (by decide +kernel) (hts _ m_t53) (fun _ h9 => h9) rfl (g_180 (v := 22) bX4_become rfl) ?_
  refine lv_iconst (v := 0) hx hb (g_3 bX4_become rfl) (by decide +kernel) ?_
  refine lv_aload_n hx hb (g_42 bX4_become rfl) rfl (lv_at hl 0 rfl) ?_
  refine va_get (D := G) (ci := 3) (v := .ref qkg) (C := RX4) (T := TX4) (N := 13) hx hb hts iX_X4 hown hK hP 0 rfl rfl 7 (by decide +kernel) (hts _ m_t53) (fun _ h9 => h9) rfl (g_180 (v := 22) bX4_become rfl) ?_
  refine lv_iconst (v := 0) hx hb (g_3 bX4_become rfl) (by decide +kernel) ?_
  refine lv_bipush (v := 8) hx hb dX4_become_80 (by decide +kernel) ?_
  refine cpAll hx hb (hml.trans hl.1.symm) hown (hts _ m_t310) (hts _ m_nat) (hts _ m_t263) (hts _ m_t7) hK hP hD hS 12 3 8 rfl rfl (by decide +kernel) (by decide +kernel) (Nat.le_of_ble_eq_true rfl) (Nat.le_of_ble_eq_true rfl) (g_184 (v := 52) bX4_become rfl) (fun H locs => ?_)
  clear hP hD hS
  intro hP hD hS
  have hPD := pd_as [_, _, _, _, _, _, _, _, _, _, _, _, _, _, _, _, _, _] hP hD rfl
  clear hP hD
  obtain ⟨hP, hD⟩ := hPD
  refine lv_aload_n hx hb (g_43 bX4_become rfl) rfl (lv_at hl 1 rfl) ?_
  refine va_get (D := G) (ci := 3) (v := .ref qta) (C := RX4) (T := TX4) (N := 13) hx hb hts iX_X4 hown hK hP 9 rfl rfl 8 (by decide +kernel) (hts _ m_t56) (fun _ h9 => h9) rfl (g_180 (v := 25) bX4_become rfl) ?_
  refine lv_iconst (v := 0) hx hb (g_3 bX4_become rfl) (by decide +kernel) ?_
  refine lv_aload_n hx hb (g_42 bX4_become rfl) rfl (lv_at hl 0 rfl) ?_
  refine va_get (D := G) (ci := 3) (v := .ref qka) (C := RX4) (T := TX4) (N := 13) hx hb hts iX_X4 hown hK hP 0 rfl rfl 8 (by decide +kernel) (hts _ m_t56) (fun _ h9 => h9) rfl (g_180 (v := 25) bX4_become rfl) ?_
  refine lv_iconst (v := 0) hx hb (g_3 bX4_become rfl) (by decide +kernel) ?_
  refine lv_bipush (v := 8) hx hb dX4_become_95 (by decide +kernel) ?_
  refine cpAll hx hb (hml.trans hl.1.symm) hown (hts _ m_t310) (hts _ m_nat) (hts _ m_t263) (hts _ m_t7) hK hP hD hS 13 4 8 rfl rfl (by decide +kernel) (by decide +kernel) (Nat.le_of_ble_eq_true rfl) (Nat.le_of_ble_eq_true rfl) (g_184 (v := 52) bX4_become rfl) (fun H locs => ?_)
  clear hP hD hS
  intro hP hD hS
  have hPD := pd_as [_, _, _, _, _, _, _, _, _, _, _, _, _, _, _, _, _, _] hP hD rfl
  clear hP hD
  obtain ⟨hP, hD⟩ := hPD
  refine lv_aload_n hx hb (g_43 bX4_become rfl) rfl (lv_at hl 1 rfl) ?_
  refine va_get (D := G) (ci := 3) (v := .ref qtr) (C := RX4) (T := TX4) (N := 13) hx hb hts iX_X4 hown hK hP 9 rfl rfl 9 (by decide +kernel) (hts _ m_t58) (fun _ h9 => h9) rfl (g_180 (v := 28) bX4_become rfl) ?_
  refine lv_iconst (v := 0) hx hb (g_3 bX4_become rfl) (by decide +kernel) ?_
  refine lv_aload_n hx hb (g_42 bX4_become rfl) rfl (lv_at hl 0 rfl) ?_
  refine va_get (D := G) (ci := 3) (v := .ref qkr) (C := RX4) (T := TX4) (N := 13) hx hb hts iX_X4 hown hK hP 0 rfl rfl 9 (by decide +kernel) (hts _ m_t58) (fun _ h9 => h9) rfl (g_180 (v := 28) bX4_become rfl) ?_
  refine lv_iconst (v := 0) hx hb (g_3 bX4_become rfl) (by decide +kernel) ?_
  refine lv_bipush (v := 8) hx hb dX4_become_110 (by decide +kernel) ?_
  refine cpAll hx hb (hml.trans hl.1.symm) hown (hts _ m_t310) (hts _ m_nat) (hts _ m_t263) (hts _ m_t7) hK hP hD hS 14 5 8 rfl rfl (by decide +kernel) (by decide +kernel) (Nat.le_of_ble_eq_true rfl) (Nat.le_of_ble_eq_true rfl) (g_184 (v := 52) bX4_become rfl) (fun H locs => ?_)
  clear hP hD hS
  intro hP hD hS
  have hPD := pd_as [_, _, _, _, _, _, _, _, _, _, _, _, _, _, _, _, _, _] hP hD rfl
  clear hP hD
  obtain ⟨hP, hD⟩ := hPD
  refine lv_aload_n hx hb (g_43 bX4_become rfl) rfl (lv_at hl 1 rfl) ?_
  refine va_get (D := G) (ci := 3) (v := .ref qtm) (C := RX4) (T := TX4) (N := 13) hx hb hts iX_X4 hown hK hP 9 rfl rfl 10 (by decide +kernel) (hts _ m_t60) (fun _ h9 => h9) rfl (g_180 (v := 31) bX4_become rfl) ?_
  refine lv_iconst (v := 0) hx hb (g_3 bX4_become rfl) (by decide +kernel) ?_
  refine lv_aload_n hx hb (g_42 bX4_become rfl) rfl (lv_at hl 0 rfl) ?_
  refine va_get (D := G) (ci := 3) (v := .ref qkm) (C := RX4) (T := TX4) (N := 13) hx hb hts iX_X4 hown hK hP 0 rfl rfl 10 (by decide +kernel) (hts _ m_t60) (fun _ h9 => h9) rfl (g_180 (v := 31) bX4_become rfl) ?_
  refine lv_iconst (v := 0) hx hb (g_3 bX4_become rfl) (by decide +kernel) ?_
  refine lv_bipush (v := 8) hx hb dX4_become_125 (by decide +kernel) ?_
  refine cpAll hx hb (hml.trans hl.1.symm) hown (hts _ m_t310) (hts _ m_nat) (hts _ m_t263) (hts _ m_t7) hK hP hD hS 15 6 8 rfl rfl (by decide +kernel) (by decide +kernel) (Nat.le_of_ble_eq_true rfl) (Nat.le_of_ble_eq_true rfl) (g_184 (v := 52) bX4_become rfl) (fun H locs => ?_)
  clear hP hD hS
  intro hP hD hS
  have hPD := pd_as [_, _, _, _, _, _, _, _, _, _, _, _, _, _, _, _, _, _] hP hD rfl
  clear hP hD
  obtain ⟨hP, hD⟩ := hPD
  refine lv_aload_n hx hb (g_43 bX4_become rfl) rfl (lv_at hl 1 rfl) ?_
  refine va_get (D := G) (ci := 3) (v := .ref qtt) (C := RX4) (T := TX4) (N := 13) hx hb hts iX_X4 hown hK hP 9 rfl rfl 11 (by decide +kernel) (hts _ m_t62) (fun _ h9 => h9) rfl (g_180 (v := 34) bX4_become rfl) ?_
  refine lv_iconst (v := 0) hx hb (g_3 bX4_become rfl) (by decide +kernel) ?_
  refine lv_aload_n hx hb (g_42 bX4_become rfl) rfl (lv_at hl 0 rfl) ?_
  refine va_get (D := G) (ci := 3) (v := .ref qkt) (C := RX4) (T := TX4) (N := 13) hx hb hts iX_X4 hown hK hP 0 rfl rfl 11 (by decide +kernel) (hts _ m_t62) (fun _ h9 => h9) rfl (g_180 (v := 34) bX4_become rfl) ?_
  refine lv_iconst (v := 0) hx hb (g_3 bX4_become rfl) (by decide +kernel) ?_
  refine lv_bipush (v := 8) hx hb dX4_become_140 (by decide +kernel) ?_
  refine cpAll hx hb (hml.trans hl.1.symm) hown (hts _ m_t310) (hts _ m_nat) (hts _ m_t263) (hts _ m_t7) hK hP hD hS 16 7 8 rfl rfl (by decide +kernel) (by decide +kernel) (Nat.le_of_ble_eq_true rfl) (Nat.le_of_ble_eq_true rfl) (g_184 (v := 52) bX4_become rfl) (fun H locs => ?_)
  clear hP hD hS
  intro hP hD hS
  have hPD := pd_as [_, _, _, _, _, _, _, _, _, _, _, _, _, _, _, _, _, _] hP hD rfl
  clear hP hD
  obtain ⟨hP, hD⟩ := hPD
  refine lv_aload_n hx hb (g_43 bX4_become rfl) rfl (lv_at hl 1 rfl) ?_
  refine va_get (D := G) (ci := 3) (v := .ref qts) (C := RX4) (T := TX4) (N := 13) hx hb hts iX_X4 hown hK hP 9 rfl rfl 12 (by decide +kernel) (hts _ m_t64) (fun _ h9 => h9) rfl (g_180 (v := 37) bX4_become rfl) ?_
  refine lv_iconst (v := 0) hx hb (g_3 bX4_become rfl) (by decide +kernel) ?_
  refine lv_aload_n hx hb (g_42 bX4_become rfl) rfl (lv_at hl 0 rfl) ?_
  refine va_get (D := G) (ci := 3) (v := .ref qks) (C := RX4) (T := TX4) (N := 13) hx hb hts iX_X4 hown hK hP 0 rfl rfl 12 (by decide +kernel) (hts _ m_t64) (fun _ h9 => h9) rfl (g_180 (v := 37) bX4_become rfl) ?_
  refine lv_iconst (v := 0) hx hb (g_3 bX4_become rfl) (by decide +kernel) ?_
  refine lv_bipush (v := 64) hx hb dX4_become_155 (by decide +kernel) ?_
  refine cpAll hx hb (hml.trans hl.1.symm) hown (hts _ m_t310) (hts _ m_nat) (hts _ m_t263) (hts _ m_t7) hK hP hD hS 17 8 64 rfl rfl (by decide +kernel) (by decide +kernel) (Nat.le_of_ble_eq_true rfl) (Nat.le_of_ble_eq_true rfl) (g_184 (v := 52) bX4_become rfl) (fun H locs => ?_)
  clear hP hD hS
  intro hP hD hS
  have hPD := pd_as [_, _, _, _, _, _, _, _, _, _, _, _, _, _, _, _, _, _] hP hD rfl
  clear hP hD
  obtain ⟨hP, hD⟩ := hPD
  exact endVs [[true, true, true, true, true, true, true, true, true, true, true, true, true, true, true, true, true, true]] hx hb hr hlocks hP hD rfl (by decide +kernel) hS rfl (g_177 bX4_become rfl)
set_option maxHeartbeats 4000000 in
set_option maxRecDepth 100000 in
theorem c_X4_endYear (l : Launch) (G : va_G) (cy : Nat → ClassId) (sz : Nat) (qt : Nat) (tA : TA) (qtw : Nat) (qtn : Nat) (qtg : Nat) (qta : Nat) (qtr : Nat) (qtm : Nat) (qtt : Nat) (qts : Nat)  (hB : T_nb tA ≤ 8) (hPp : T_np tA ≤ 8) : MW l yX4_endYear cX4_endYear 3 (some .int) 4 0 0 G cy [zzO qt 3 [.int (nI (T_nb tA)), .int (nI (T_np tA)), .int (wb (T_wh tA)), .int (wb (T_gn tA)), .int (T_sd tA), .ref qtw, .ref qtn, .ref qtg, .ref qta, .ref qtr, .ref qtm, .ref qtt, .ref qts], zzI cy qtw 8 (T_wo tA), zzI cy qtn 8 (T_ne tA), zzI cy qtg 8 (T_go tA), zzI cy qta 8 (T_ag tA), zzI cy qtr 8 (T_re tA), zzI cy qtm 8 (T_me tA), zzI cy qtt 8 (T_te tA), zzI cy qts 64 (shF (T_kn tA))] sz [.ref qt] (Wi G (fun r u => u = [zzO qt 3 [.int (nI (T_nb (zey tA))), .int (nI (T_np (zey tA))), .int (wb (T_wh (zey tA))), .int (wb (T_gn (zey tA))), .int (T_sd (zey tA)), .ref qtw, .ref qtn, .ref qtg, .ref qta, .ref qtr, .ref qtm, .ref qtt, .ref qts], zzI cy qtw 8 (T_wo (zey tA)), zzI cy qtn 8 (T_ne (zey tA)), zzI cy qtg 8 (T_go (zey tA)), zzI cy qta 8 (T_ag (zey tA)), zzI cy qtr 8 (T_re (zey tA)), zzI cy qtm 8 (T_me (zey tA)), zzI cy qtt 8 (T_te (zey tA)), zzI cy qts 64 (shF (T_kn (zey tA)))] ∧ ((r = (zbc (zthere tA &&& wb (T_gn (zey tA)))))))) := by
  refine enW RX4 (by decide +kernel) rfl (Nat.le_of_ble_eq_true rfl) (fun p e s m below meth c ls A hx hb hml hown hts hr hlocks hP hN hl hin hD hA hS => ?_)
  have hin : meth.name = _ := hin
  have hK := hN.1
  replace hl : lv_has ls 3 [(0, .ref qt)] := hl
  refine lv_aload_n hx hb (g_42 bX4_endYear rfl) rfl (lv_at hl 0 rfl) ?_
  refine kRi (rV (As := []) (rest := []) (b := qt) ⟨hx, hb, hml, hown, hts⟩ (c_X4_setThere l G cy qt tA qtw qtn qtg qta qtr qtm qtt qts hPp) L_X4_78 (preRV (q := (RX4, TX4, 13)) hN hP [0] rfl 0 3 rfl rfl) rfl ⟨Nat.le_of_ble_eq_true rfl, Nat.le_of_ble_eq_true rfl⟩ hl.1 (Nat.le_of_ble_eq_true rfl) (g_182 (v := 78) bX4_endYear rfl) ⟨Nat.le_of_ble_eq_true rfl, Nat.le_of_ble_eq_true rfl⟩) (fun r_1 h_2 => ?_)
  subst h_2
  refine lv_istore_n (lv' := [(1, .int (zthere tA)), (0, .ref qt)]) hx hb (g_60 bX4_endYear rfl) rfl hl (by decide +kernel) rfl (fun ls => ?_)
  clear hl
  intro hl
  refine lv_iconst (v := 0) hx hb (g_3 bX4_endYear rfl) (by decide +kernel) ?_
  refine lv_istore_n (lv' := [(2, .int 0), (1, .int (zthere tA)), (0, .ref qt)]) hx hb (g_61 bX4_endYear rfl) rfl hl (by decide +kernel) rfl (fun ls => ?_)
  clear hl
  intro hl
  have lp_3 : ∀ (n_4 : Nat) (j_6 : Nat) (tJ_7 : TA), 8 - j_6 < n_4 → j_6 ≤ T_np tA → tJ_7 = eyF (zthere tA) tA j_6 → ∀ (H : Heap) (locs : List Loc) (ls : Array Slot), va_P G CL [zzO qt 3 [.int (nI (T_nb tJ_7)), .int (nI (T_np tJ_7)), .int (wb (T_wh tJ_7)), .int (wb (T_gn tJ_7)), .int (T_sd tJ_7), .ref qtw, .ref qtn, .ref qtg, .ref qta, .ref qtr, .ref qtm, .ref qtt, .ref qts], zzI cy qtw 8 (T_wo tJ_7), zzI cy qtn 8 (T_ne tJ_7), zzI cy qtg 8 (T_go tJ_7), zzI cy qta 8 (T_ag tJ_7), zzI cy qtr 8 (T_re tJ_7), zzI cy qtm 8 (T_me tJ_7), zzI cy qtt 8 (T_te tJ_7), zzI cy qts 64 (shF (T_kn tJ_7))] H → va_D A [zzO qt 3 [.int (nI (T_nb tJ_7)), .int (nI (T_np tJ_7)), .int (wb (T_wh tJ_7)), .int (wb (T_gn tJ_7)), .int (T_sd tJ_7), .ref qtw, .ref qtn, .ref qtg, .ref qta, .ref qtr, .ref qtm, .ref qtt, .ref qts], zzI cy qtw 8 (T_wo tJ_7), zzI cy qtn 8 (T_ne tJ_7), zzI cy qtg 8 (T_go tJ_7), zzI cy qta 8 (T_ag tJ_7), zzI cy qtr 8 (T_re tJ_7), zzI cy qtm 8 (T_me tJ_7), zzI cy qtt 8 (T_te tJ_7), zzI cy qts 64 (shF (T_kn tJ_7))] → va_S A s.heap H locs → lv_has ls 3 [(2, .int (nI j_6)), (1, .int (zthere tA)), (0, .ref qt)] → W p l e (Rm 4 0 0) s m (List.toArray (α := Value) [.ref qt]) below meth c H locs 0 0 (MQ below ((Wi G (fun r u => u = [zzO qt 3 [.int (nI (T_nb (zey tA))), .int (nI (T_np (zey tA))), .int (wb (T_wh (zey tA))), .int (wb (T_gn (zey tA))), .int (T_sd (zey tA)), .ref qtw, .ref qtn, .ref qtg, .ref qta, .ref qtr, .ref qtm, .ref qtt, .ref qts], zzI cy qtw 8 (T_wo (zey tA)), zzI cy qtn 8 (T_ne (zey tA)), zzI cy qtg 8 (T_go (zey tA)), zzI cy qta 8 (T_ag (zey tA)), zzI cy qtr 8 (T_re (zey tA)), zzI cy qtm 8 (T_me (zey tA)), zzI cy qtt 8 (T_te (zey tA)), zzI cy qts 64 (shF (T_kn (zey tA)))] ∧ ((r = (zbc (zthere tA &&& wb (T_gn (zey tA)))))))) A) (List.toArray (α := Value) [.ref qt]) s 0 0 A) (F0 m 7 ls []) := by
    intro n_4
    induction n_4 with
    | zero => intro j_6 tJ_7 hm9; exact absurd hm9 (Nat.not_lt_zero _)
    | succ n_4 ih_5 =>
      intro j_6 tJ_7 hm_10 hj_8 htJ_9 H locs ls hP hD hS hl
      refine lv_iload_n hx hb (g_28 bX4_endYear rfl) rfl (lv_at hl 0 rfl) ?_
      refine lv_aload_n hx hb (g_42 bX4_endYear rfl) rfl (lv_at hl 2 rfl) ?_
      refine va_get (D := G) (ci := 3) (v := .int (nI (T_np tJ_7))) (C := RX4) (T := TX4) (N := 13) hx hb hts iX_X4 hown hK hP 0 rfl rfl 1 (by decide +kernel) (hts _ m_t34) (fun _ h9 => h9) rfl (g_180 (v := 43) bX4_endYear rfl) ?_
      refine lv_icmp_ge (tgt := 67) hx hb dX4_endYear_12 (by decide +kernel) (fun c_11 => ?_) (fun c_11 => ?_)
      · have hlt_12e : T_np tJ_7 = T_np tA := by rw [htJ_9]; exact (ey_nb _ _ _).2
        have hlt_12 : j_6 = T_np tA := Nat.le_antisymm (by omega) (by rw [hlt_12e] at c_11; exact lp_ge rfl rfl (by omega) (by omega) c_11)
        have e9_13 : tJ_7 = zey tA := by rw [htJ_9, hlt_12]; rfl
        subst e9_13
        refine lv_iload_n hx hb (g_27 bX4_endYear rfl) rfl (lv_at hl 1 rfl) ?_
        refine lv_aload_n hx hb (g_42 bX4_endYear rfl) rfl (lv_at hl 2 rfl) ?_
        refine va_get (D := G) (ci := 3) (v := .int (wb (T_gn (zey tA)))) (C := RX4) (T := TX4) (N := 13) hx hb hts iX_X4 hown hK hP 0 rfl rfl 3 (by decide +kernel) (hts _ m_t43) (fun _ h9 => h9) rfl (g_180 (v := 49) bX4_endYear rfl) ?_
        refine lv_iand hx hb (g_126 bX4_endYear rfl) ?_
        refine kRi (rS (As := [.int ((zthere tA) &&& (wb (T_gn (zey tA))))]) (rest := []) ⟨hx, hb, hml, hown, hts⟩ (c_J6_bitCount l G cy ((zthere tA) &&& (wb (T_gn (zey tA))))) L_X4_115 (preRS hN hP [] rfl) rfl ⟨Nat.le_of_ble_eq_true rfl, Nat.le_of_ble_eq_true rfl⟩ hl.1 (Nat.le_of_ble_eq_true rfl) (g_184 (v := 115) bX4_endYear rfl) ⟨Nat.le_of_ble_eq_true rfl, Nat.le_of_ble_eq_true rfl⟩) (fun r_14 h_15 => ?_)
        subst h_15
        exact endW (u := [zzO qt 3 [.int (nI (T_nb (zey tA))), .int (nI (T_np (zey tA))), .int (wb (T_wh (zey tA))), .int (wb (T_gn (zey tA))), .int (T_sd (zey tA)), .ref qtw, .ref qtn, .ref qtg, .ref qta, .ref qtr, .ref qtm, .ref qtt, .ref qts], zzI cy qtw 8 (T_wo (zey tA)), zzI cy qtn 8 (T_ne (zey tA)), zzI cy qtg 8 (T_go (zey tA)), zzI cy qta 8 (T_ag (zey tA)), zzI cy qtr 8 (T_re (zey tA)), zzI cy qtm 8 (T_me (zey tA)), zzI cy qtt 8 (T_te (zey tA)), zzI cy qts 64 (shF (T_kn (zey tA)))]) hx hb hr hlocks rfl (pSb hP [[true, true, true, true, true, true, true, true, true]] rfl rfl) (dSb hD [[true, true, true, true, true, true, true, true, true]] (by decide +kernel) rfl rfl) hS ⟨rfl, (by simp [hB, hPp, c_11])⟩ (g_172 bX4_endYear rfl)
      · have hlt_16e : T_np tJ_7 = T_np tA := by rw [htJ_9]; exact (ey_nb _ _ _).2
        have hlt_16 : j_6 < T_np tA := by rw [hlt_16e] at c_11; exact lp_lt rfl rfl (by omega) (by omega) c_11
        refine lv_iload_n hx hb (g_27 bX4_endYear rfl) rfl (lv_at hl 1 rfl) ?_
        refine lv_iload_n hx hb (g_28 bX4_endYear rfl) rfl (lv_at hl 0 rfl) ?_
        refine kRi (rSN (As := [.int (zthere tA), .int (nI j_6)]) (rest := []) ⟨hx, hb, hml, hown, hts⟩ hN (c_X5_has l G cy (zthere tA) j_6) L_X4_62 (preRS hN hP [] rfl) rfl ⟨Nat.le_of_ble_eq_true rfl, Nat.le_of_ble_eq_true rfl⟩ hl.1 (Nat.le_of_ble_eq_true rfl) (g_184 (v := 62) bX4_endYear rfl) ⟨Nat.le_of_ble_eq_true rfl, Nat.le_of_ble_eq_true rfl⟩) (fun r_17 h_18 => ?_)
        rcases h_18 with ⟨rfl, h_19⟩ | ⟨rfl, h_19⟩
        · refine lv_if_eq (tgt := 61) hx hb dX4_endYear_20 (by decide +kernel) (fun h9 => absurd h9 (by decide +kernel)) (fun _ => ?_)
          refine lv_aload_n hx hb (g_42 bX4_endYear rfl) rfl (lv_at hl 2 rfl) ?_
          refine va_get (D := G) (ci := 3) (v := .ref qta) (C := RX4) (T := TX4) (N := 13) hx hb hts iX_X4 hown hK hP 0 rfl rfl 8 (by decide +kernel) (hts _ m_t56) (fun _ h9 => h9) rfl (g_180 (v := 25) bX4_endYear rfl) ?_
          refine lv_iload_n hx hb (g_28 bX4_endYear rfl) rfl (lv_at hl 0 rfl) ?_
          refine lv_dup2_11 hx hb (g_92 bX4_endYear rfl) rfl rfl ?_
          refine va_iald hx hb hK hP 4 0 rfl rfl (in8 (by omega)) (g_46 bX4_endYear rfl) ?_
          refine lv_seti (v := (T_ag tJ_7) j_6) (congrArg (T_ag tJ_7) (cl8 (by omega))) ?_
          refine lv_iconst (v := 1) hx hb (g_4 bX4_endYear rfl) (by decide +kernel) ?_
          refine lv_iadd hx hb (g_96 bX4_endYear rfl) ?_
          refine va_iast hx hb hK hP hD hS 4 0 rfl rfl (in8 (by omega)) (g_79 bX4_endYear rfl) (fun H locs => ?_)
          clear hP hD hS
          intro hP hD hS
          rw [cl8 (k := j_6) (by omega)] at hP hD
          have hPD := pd_as [zzO qt 3 [.int (nI (T_nb tJ_7)), .int (nI (T_np tJ_7)), .int (wb (T_wh tJ_7)), .int (wb (T_gn tJ_7)), .int (T_sd tJ_7), .ref qtw, .ref qtn, .ref qtg, .ref qta, .ref qtr, .ref qtm, .ref qtt, .ref qts], zzI cy qtw 8 (T_wo tJ_7), zzI cy qtn 8 (T_ne tJ_7), zzI cy qtg 8 (T_go tJ_7), zzI cy qta 8 (upd (T_ag tJ_7) j_6 (((T_ag tJ_7) j_6) + 1)), zzI cy qtr 8 (T_re tJ_7), zzI cy qtm 8 (T_me tJ_7), zzI cy qtt 8 (T_te tJ_7), zzI cy qts 64 (shF (T_kn tJ_7))] hP hD rfl
          clear hP hD
          obtain ⟨hP, hD⟩ := hPD
          refine lv_aload_n hx hb (g_42 bX4_endYear rfl) rfl (lv_at hl 2 rfl) ?_
          refine va_get (D := G) (ci := 3) (v := .ref qta) (C := RX4) (T := TX4) (N := 13) hx hb hts iX_X4 hown hK hP 0 rfl rfl 8 (by decide +kernel) (hts _ m_t56) (fun _ h9 => h9) rfl (g_180 (v := 25) bX4_endYear rfl) ?_
          refine lv_iload_n hx hb (g_28 bX4_endYear rfl) rfl (lv_at hl 0 rfl) ?_
          refine va_iald hx hb hK hP 4 0 rfl rfl (in8 (by omega)) (g_46 bX4_endYear rfl) ?_
          refine lv_seti (v := ((T_ag tJ_7) j_6) + 1) ((congrArg (upd (T_ag tJ_7) j_6 (((T_ag tJ_7) j_6) + 1)) (cl8 (by omega))).trans pk_us) ?_
          refine lv_bipush (v := 9) hx hb dX4_endYear_39 (by decide +kernel) ?_
          refine lv_icmp_le (tgt := 56) hx hb dX4_endYear_41 (by decide +kernel) (fun c_21 => ?_) (fun c_21 => ?_)
          · have hPD := pd_as [zzO qt 3 [.int (nI (T_nb (T_setgn (T_setag tJ_7 (upd (T_ag tJ_7) j_6 (T_ag tJ_7 j_6 + 1))) (T_gn tJ_7)))), .int (nI (T_np (T_setgn (T_setag tJ_7 (upd (T_ag tJ_7) j_6 (T_ag tJ_7 j_6 + 1))) (T_gn tJ_7)))), .int (wb (T_wh (T_setgn (T_setag tJ_7 (upd (T_ag tJ_7) j_6 (T_ag tJ_7 j_6 + 1))) (T_gn tJ_7)))), .int (wb (T_gn (T_setgn (T_setag tJ_7 (upd (T_ag tJ_7) j_6 (T_ag tJ_7 j_6 + 1))) (T_gn tJ_7)))), .int (T_sd (T_setgn (T_setag tJ_7 (upd (T_ag tJ_7) j_6 (T_ag tJ_7 j_6 + 1))) (T_gn tJ_7))), .ref qtw, .ref qtn, .ref qtg, .ref qta, .ref qtr, .ref qtm, .ref qtt, .ref qts], zzI cy qtw 8 (T_wo (T_setgn (T_setag tJ_7 (upd (T_ag tJ_7) j_6 (T_ag tJ_7 j_6 + 1))) (T_gn tJ_7))), zzI cy qtn 8 (T_ne (T_setgn (T_setag tJ_7 (upd (T_ag tJ_7) j_6 (T_ag tJ_7 j_6 + 1))) (T_gn tJ_7))), zzI cy qtg 8 (T_go (T_setgn (T_setag tJ_7 (upd (T_ag tJ_7) j_6 (T_ag tJ_7 j_6 + 1))) (T_gn tJ_7))), zzI cy qta 8 (T_ag (T_setgn (T_setag tJ_7 (upd (T_ag tJ_7) j_6 (T_ag tJ_7 j_6 + 1))) (T_gn tJ_7))), zzI cy qtr 8 (T_re (T_setgn (T_setag tJ_7 (upd (T_ag tJ_7) j_6 (T_ag tJ_7 j_6 + 1))) (T_gn tJ_7))), zzI cy qtm 8 (T_me (T_setgn (T_setag tJ_7 (upd (T_ag tJ_7) j_6 (T_ag tJ_7 j_6 + 1))) (T_gn tJ_7))), zzI cy qtt 8 (T_te (T_setgn (T_setag tJ_7 (upd (T_ag tJ_7) j_6 (T_ag tJ_7 j_6 + 1))) (T_gn tJ_7))), zzI cy qts 64 (shF (T_kn (T_setgn (T_setag tJ_7 (upd (T_ag tJ_7) j_6 (T_ag tJ_7 j_6 + 1))) (T_gn tJ_7))))] hP hD rfl
            clear hP hD
            obtain ⟨hP, hD⟩ := hPD
            refine lv_aload_n hx hb (g_42 bX4_endYear rfl) rfl (lv_at hl 2 rfl) ?_
            refine lv_iload_n hx hb (g_28 bX4_endYear rfl) rfl (lv_at hl 0 rfl) ?_
            refine cVv (As := [.int (nI j_6)]) (rest := []) (b := qt) (q := (RX4, TX4, 13)) ⟨hx, hb, hml, hown, hts⟩ (c_X4_forget l G cy (H).size qt (T_setgn (T_setag tJ_7 (upd (T_ag tJ_7) j_6 (T_ag tJ_7 j_6 + 1))) (T_gn tJ_7)) qtw qtn qtg qta qtr qtm qtt qts j_6 (by omega) (by have := (ey_nb (zthere tA) tA j_6).1; rw [← htJ_9] at this; show T_nb tJ_7 ≤ 8; omega)) L_X4_111 hN hP hD hS hA (trueIx 0 [true, true, true, true, true, true, true, true, true]) [false, false, false, false, false, false, false, false, false] (sel_eq rfl rfl) (by decide +kernel) rfl 0 3 rfl rfl rfl ⟨Nat.le_of_ble_eq_true rfl, Nat.le_of_ble_eq_true rfl⟩ hl.1 (Nat.le_of_ble_eq_true rfl) (g_182 (v := 111) bX4_endYear rfl) ⟨Nat.le_of_ble_eq_true rfl, Nat.le_of_ble_eq_true rfl⟩ (fun u_24 H locs h_23 => ?_)
            clear hP hD hS
            intro hP hD hS
            have hPD := pd_eq [zzO qt 3 [.int (nI (T_nb (fgT (T_setgn (T_setag tJ_7 (upd (T_ag tJ_7) j_6 (T_ag tJ_7 j_6 + 1))) (T_gn tJ_7)) j_6))), .int (nI (T_np (fgT (T_setgn (T_setag tJ_7 (upd (T_ag tJ_7) j_6 (T_ag tJ_7 j_6 + 1))) (T_gn tJ_7)) j_6))), .int (wb (T_wh (fgT (T_setgn (T_setag tJ_7 (upd (T_ag tJ_7) j_6 (T_ag tJ_7 j_6 + 1))) (T_gn tJ_7)) j_6))), .int (wb (T_gn (fgT (T_setgn (T_setag tJ_7 (upd (T_ag tJ_7) j_6 (T_ag tJ_7 j_6 + 1))) (T_gn tJ_7)) j_6))), .int (T_sd (fgT (T_setgn (T_setag tJ_7 (upd (T_ag tJ_7) j_6 (T_ag tJ_7 j_6 + 1))) (T_gn tJ_7)) j_6)), .ref qtw, .ref qtn, .ref qtg, .ref qta, .ref qtr, .ref qtm, .ref qtt, .ref qts], zzI cy qtw 8 (T_wo (fgT (T_setgn (T_setag tJ_7 (upd (T_ag tJ_7) j_6 (T_ag tJ_7 j_6 + 1))) (T_gn tJ_7)) j_6)), zzI cy qtn 8 (T_ne (fgT (T_setgn (T_setag tJ_7 (upd (T_ag tJ_7) j_6 (T_ag tJ_7 j_6 + 1))) (T_gn tJ_7)) j_6)), zzI cy qtg 8 (T_go (fgT (T_setgn (T_setag tJ_7 (upd (T_ag tJ_7) j_6 (T_ag tJ_7 j_6 + 1))) (T_gn tJ_7)) j_6)), zzI cy qta 8 (T_ag (fgT (T_setgn (T_setag tJ_7 (upd (T_ag tJ_7) j_6 (T_ag tJ_7 j_6 + 1))) (T_gn tJ_7)) j_6)), zzI cy qtr 8 (T_re (fgT (T_setgn (T_setag tJ_7 (upd (T_ag tJ_7) j_6 (T_ag tJ_7 j_6 + 1))) (T_gn tJ_7)) j_6)), zzI cy qtm 8 (T_me (fgT (T_setgn (T_setag tJ_7 (upd (T_ag tJ_7) j_6 (T_ag tJ_7 j_6 + 1))) (T_gn tJ_7)) j_6)), zzI cy qtt 8 (T_te (fgT (T_setgn (T_setag tJ_7 (upd (T_ag tJ_7) j_6 (T_ag tJ_7 j_6 + 1))) (T_gn tJ_7)) j_6)), zzI cy qts 64 (shF (T_kn (fgT (T_setgn (T_setag tJ_7 (upd (T_ag tJ_7) j_6 (T_ag tJ_7 j_6 + 1))) (T_gn tJ_7)) j_6)))] hP hD h_23 rfl
            clear hP hD h_23
            obtain ⟨hP, hD⟩ := hPD
            refine lv_iinc (v := nI (j_6 + 1)) (lv' := [(2, .int (nI (j_6 + 1))), (1, .int (zthere tA)), (0, .ref qt)]) hx hb dX4_endYear_61 hl (k := 0) rfl (nI_1 _) (by decide +kernel) rfl (fun ls => ?_)
            clear hl
            intro hl
            refine lv_goto (tgt := 7) hx hb dX4_endYear_64 (by decide +kernel) ?_
            exact ih_5 (j_6 + 1) (fgT (T_setgn (T_setag tJ_7 (upd (T_ag tJ_7) j_6 (T_ag tJ_7 j_6 + 1))) (T_gn tJ_7)) j_6) (by omega) (by omega) (by rw [ey_on h_19, ← htJ_9, eyS, if_neg (Int32.not_lt.mpr c_21)]) _ _ _ hP hD hS (lv_sub hl [0, 1, 2] rfl)
          · refine lv_aload_n hx hb (g_42 bX4_endYear rfl) rfl (lv_at hl 2 rfl) ?_
            refine lv_dup hx hb (g_89 bX4_endYear rfl) rfl ?_
            refine va_get (D := G) (ci := 3) (v := .int (wb (T_gn tJ_7))) (C := RX4) (T := TX4) (N := 13) hx hb hts iX_X4 hown hK hP 0 rfl rfl 3 (by decide +kernel) (hts _ m_t43) (fun _ h9 => h9) rfl (g_180 (v := 49) bX4_endYear rfl) ?_
            refine lv_iconst (v := 1) hx hb (g_4 bX4_endYear rfl) (by decide +kernel) ?_
            refine lv_iload_n hx hb (g_28 bX4_endYear rfl) rfl (lv_at hl 0 rfl) ?_
            refine lv_ishl hx hb (g_120 bX4_endYear rfl) ?_
            refine lv_ior hx hb (g_128 bX4_endYear rfl) ?_
            refine lv_seti (v := wb (updB (T_gn tJ_7) j_6 true)) (wb_on _ (by omega)) ?_
            refine va_put (D := G) (ci := 3) (v := .int (wb (updB (T_gn tJ_7) j_6 true))) (ty := .int) (C := RX4) (T := TX4) (N := 13) hx hb hts iX_X4 tyX4 tyX4_ok nmX4 hown hK hP hD hS 0 rfl rfl 3 (by decide +kernel) (hts _ m_t43) (fun _ h9 => h9) rfl (by decide +kernel) rfl rfl (Nat.le_of_ble_eq_true rfl) (g_181 (v := 49) bX4_endYear rfl) (fun H locs => ?_)
            clear hP hD hS
            intro hP hD hS
            have hPD := pd_as [zzO qt 3 [.int (nI (T_nb tJ_7)), .int (nI (T_np tJ_7)), .int (wb (T_wh tJ_7)), .int (wb (updB (T_gn tJ_7) j_6 true)), .int (T_sd tJ_7), .ref qtw, .ref qtn, .ref qtg, .ref qta, .ref qtr, .ref qtm, .ref qtt, .ref qts], _, _, _, _, _, _, _, _] hP hD rfl
            clear hP hD
            obtain ⟨hP, hD⟩ := hPD
            have hPD := pd_as [zzO qt 3 [.int (nI (T_nb (T_setgn (T_setag tJ_7 (upd (T_ag tJ_7) j_6 (T_ag tJ_7 j_6 + 1))) (updB (T_gn tJ_7) j_6 true)))), .int (nI (T_np (T_setgn (T_setag tJ_7 (upd (T_ag tJ_7) j_6 (T_ag tJ_7 j_6 + 1))) (updB (T_gn tJ_7) j_6 true)))), .int (wb (T_wh (T_setgn (T_setag tJ_7 (upd (T_ag tJ_7) j_6 (T_ag tJ_7 j_6 + 1))) (updB (T_gn tJ_7) j_6 true)))), .int (wb (T_gn (T_setgn (T_setag tJ_7 (upd (T_ag tJ_7) j_6 (T_ag tJ_7 j_6 + 1))) (updB (T_gn tJ_7) j_6 true)))), .int (T_sd (T_setgn (T_setag tJ_7 (upd (T_ag tJ_7) j_6 (T_ag tJ_7 j_6 + 1))) (updB (T_gn tJ_7) j_6 true))), .ref qtw, .ref qtn, .ref qtg, .ref qta, .ref qtr, .ref qtm, .ref qtt, .ref qts], zzI cy qtw 8 (T_wo (T_setgn (T_setag tJ_7 (upd (T_ag tJ_7) j_6 (T_ag tJ_7 j_6 + 1))) (updB (T_gn tJ_7) j_6 true))), zzI cy qtn 8 (T_ne (T_setgn (T_setag tJ_7 (upd (T_ag tJ_7) j_6 (T_ag tJ_7 j_6 + 1))) (updB (T_gn tJ_7) j_6 true))), zzI cy qtg 8 (T_go (T_setgn (T_setag tJ_7 (upd (T_ag tJ_7) j_6 (T_ag tJ_7 j_6 + 1))) (updB (T_gn tJ_7) j_6 true))), zzI cy qta 8 (T_ag (T_setgn (T_setag tJ_7 (upd (T_ag tJ_7) j_6 (T_ag tJ_7 j_6 + 1))) (updB (T_gn tJ_7) j_6 true))), zzI cy qtr 8 (T_re (T_setgn (T_setag tJ_7 (upd (T_ag tJ_7) j_6 (T_ag tJ_7 j_6 + 1))) (updB (T_gn tJ_7) j_6 true))), zzI cy qtm 8 (T_me (T_setgn (T_setag tJ_7 (upd (T_ag tJ_7) j_6 (T_ag tJ_7 j_6 + 1))) (updB (T_gn tJ_7) j_6 true))), zzI cy qtt 8 (T_te (T_setgn (T_setag tJ_7 (upd (T_ag tJ_7) j_6 (T_ag tJ_7 j_6 + 1))) (updB (T_gn tJ_7) j_6 true))), zzI cy qts 64 (shF (T_kn (T_setgn (T_setag tJ_7 (upd (T_ag tJ_7) j_6 (T_ag tJ_7 j_6 + 1))) (updB (T_gn tJ_7) j_6 true))))] hP hD rfl
            clear hP hD
            obtain ⟨hP, hD⟩ := hPD
            refine lv_aload_n hx hb (g_42 bX4_endYear rfl) rfl (lv_at hl 2 rfl) ?_
            refine lv_iload_n hx hb (g_28 bX4_endYear rfl) rfl (lv_at hl 0 rfl) ?_
            refine cVv (As := [.int (nI j_6)]) (rest := []) (b := qt) (q := (RX4, TX4, 13)) ⟨hx, hb, hml, hown, hts⟩ (c_X4_forget l G cy (H).size qt (T_setgn (T_setag tJ_7 (upd (T_ag tJ_7) j_6 (T_ag tJ_7 j_6 + 1))) (updB (T_gn tJ_7) j_6 true)) qtw qtn qtg qta qtr qtm qtt qts j_6 (by omega) (by have := (ey_nb (zthere tA) tA j_6).1; rw [← htJ_9] at this; show T_nb tJ_7 ≤ 8; omega)) L_X4_111 hN hP hD hS hA (trueIx 0 [true, true, true, true, true, true, true, true, true]) [false, false, false, false, false, false, false, false, false] (sel_eq rfl rfl) (by decide +kernel) rfl 0 3 rfl rfl rfl ⟨Nat.le_of_ble_eq_true rfl, Nat.le_of_ble_eq_true rfl⟩ hl.1 (Nat.le_of_ble_eq_true rfl) (g_182 (v := 111) bX4_endYear rfl) ⟨Nat.le_of_ble_eq_true rfl, Nat.le_of_ble_eq_true rfl⟩ (fun u_27 H locs h_26 => ?_)
            clear hP hD hS
            intro hP hD hS
            have hPD := pd_eq [zzO qt 3 [.int (nI (T_nb (fgT (T_setgn (T_setag tJ_7 (upd (T_ag tJ_7) j_6 (T_ag tJ_7 j_6 + 1))) (updB (T_gn tJ_7) j_6 true)) j_6))), .int (nI (T_np (fgT (T_setgn (T_setag tJ_7 (upd (T_ag tJ_7) j_6 (T_ag tJ_7 j_6 + 1))) (updB (T_gn tJ_7) j_6 true)) j_6))), .int (wb (T_wh (fgT (T_setgn (T_setag tJ_7 (upd (T_ag tJ_7) j_6 (T_ag tJ_7 j_6 + 1))) (updB (T_gn tJ_7) j_6 true)) j_6))), .int (wb (T_gn (fgT (T_setgn (T_setag tJ_7 (upd (T_ag tJ_7) j_6 (T_ag tJ_7 j_6 + 1))) (updB (T_gn tJ_7) j_6 true)) j_6))), .int (T_sd (fgT (T_setgn (T_setag tJ_7 (upd (T_ag tJ_7) j_6 (T_ag tJ_7 j_6 + 1))) (updB (T_gn tJ_7) j_6 true)) j_6)), .ref qtw, .ref qtn, .ref qtg, .ref qta, .ref qtr, .ref qtm, .ref qtt, .ref qts], zzI cy qtw 8 (T_wo (fgT (T_setgn (T_setag tJ_7 (upd (T_ag tJ_7) j_6 (T_ag tJ_7 j_6 + 1))) (updB (T_gn tJ_7) j_6 true)) j_6)), zzI cy qtn 8 (T_ne (fgT (T_setgn (T_setag tJ_7 (upd (T_ag tJ_7) j_6 (T_ag tJ_7 j_6 + 1))) (updB (T_gn tJ_7) j_6 true)) j_6)), zzI cy qtg 8 (T_go (fgT (T_setgn (T_setag tJ_7 (upd (T_ag tJ_7) j_6 (T_ag tJ_7 j_6 + 1))) (updB (T_gn tJ_7) j_6 true)) j_6)), zzI cy qta 8 (T_ag (fgT (T_setgn (T_setag tJ_7 (upd (T_ag tJ_7) j_6 (T_ag tJ_7 j_6 + 1))) (updB (T_gn tJ_7) j_6 true)) j_6)), zzI cy qtr 8 (T_re (fgT (T_setgn (T_setag tJ_7 (upd (T_ag tJ_7) j_6 (T_ag tJ_7 j_6 + 1))) (updB (T_gn tJ_7) j_6 true)) j_6)), zzI cy qtm 8 (T_me (fgT (T_setgn (T_setag tJ_7 (upd (T_ag tJ_7) j_6 (T_ag tJ_7 j_6 + 1))) (updB (T_gn tJ_7) j_6 true)) j_6)), zzI cy qtt 8 (T_te (fgT (T_setgn (T_setag tJ_7 (upd (T_ag tJ_7) j_6 (T_ag tJ_7 j_6 + 1))) (updB (T_gn tJ_7) j_6 true)) j_6)), zzI cy qts 64 (shF (T_kn (fgT (T_setgn (T_setag tJ_7 (upd (T_ag tJ_7) j_6 (T_ag tJ_7 j_6 + 1))) (updB (T_gn tJ_7) j_6 true)) j_6)))] hP hD h_26 rfl
            clear hP hD h_26
            obtain ⟨hP, hD⟩ := hPD
            refine lv_iinc (v := nI (j_6 + 1)) (lv' := [(2, .int (nI (j_6 + 1))), (1, .int (zthere tA)), (0, .ref qt)]) hx hb dX4_endYear_61 hl (k := 0) rfl (nI_1 _) (by decide +kernel) rfl (fun ls => ?_)
            clear hl
            intro hl
            refine lv_goto (tgt := 7) hx hb dX4_endYear_64 (by decide +kernel) ?_
            exact ih_5 (j_6 + 1) (fgT (T_setgn (T_setag tJ_7 (upd (T_ag tJ_7) j_6 (T_ag tJ_7 j_6 + 1))) (updB (T_gn tJ_7) j_6 true)) j_6) (by omega) (by omega) (by rw [ey_on h_19, ← htJ_9, eyS, if_pos (Int32.not_le.mp c_21)]) _ _ _ hP hD hS (lv_sub hl [0, 1, 2] rfl)
        · refine lv_if_eq (tgt := 61) hx hb dX4_endYear_20 (by decide +kernel) (fun _ => ?_) (fun h9 => absurd (by decide +kernel) h9)
          refine lv_iinc (v := nI (j_6 + 1)) (lv' := [(2, .int (nI (j_6 + 1))), (1, .int (zthere tA)), (0, .ref qt)]) hx hb dX4_endYear_61 hl (k := 0) rfl (nI_1 _) (by decide +kernel) rfl (fun ls => ?_)
          clear hl
          intro hl
          refine lv_goto (tgt := 7) hx hb dX4_endYear_64 (by decide +kernel) ?_
          exact ih_5 (j_6 + 1) tJ_7 (by omega) (by omega) (by rw [ey_no h_19]; exact htJ_9) _ _ _ hP hD hS (lv_sub hl [0, 1, 2] rfl)
  exact lp_3 ((8 - 0) + 1) 0 tA (Nat.lt_succ_self _) (Nat.zero_le _) rfl _ _ ls hP hD hS (lv_sub hl [0, 1, 2] rfl)
set_option maxHeartbeats 4000000 in
set_option maxRecDepth 100000 in
theorem c_X4_drawDeaths (l : Launch) (G : va_G) (cy : Nat → ClassId) (sz : Nat) (qt : Nat) (tA : TA) (qtw : Nat) (qtn : Nat) (qtg : Nat) (qta : Nat) (qtr : Nat) (qtm : Nat) (qtt : Nat) (qts : Nat)  (hPp : T_np tA ≤ 8) : MW l yX4_drawDeaths cX4_drawDeaths 2 none 2 0 0 G cy [zzO qt 3 [.int (nI (T_nb tA)), .int (nI (T_np tA)), .int (wb (T_wh tA)), .int (wb (T_gn tA)), .int (T_sd tA), .ref qtw, .ref qtn, .ref qtg, .ref qta, .ref qtr, .ref qtm, .ref qtt, .ref qts], zzI cy qtw 8 (T_wo tA), zzI cy qtn 8 (T_ne tA), zzI cy qtg 8 (T_go tA), zzI cy qta 8 (T_ag tA), zzI cy qtr 8 (T_re tA), zzI cy qtm 8 (T_me tA), zzI cy qtt 8 (T_te tA), zzI cy qts 64 (shF (T_kn tA))] sz [.ref qt] (Wv G (fun u => u = [zzO qt 3 [.int (nI (T_nb (zdd tA))), .int (nI (T_np (zdd tA))), .int (wb (T_wh (zdd tA))), .int (wb (T_gn (zdd tA))), .int (T_sd (zdd tA)), .ref qtw, .ref qtn, .ref qtg, .ref qta, .ref qtr, .ref qtm, .ref qtt, .ref qts], zzI cy qtw 8 (T_wo (zdd tA)), zzI cy qtn 8 (T_ne (zdd tA)), zzI cy qtg 8 (T_go (zdd tA)), zzI cy qta 8 (T_ag (zdd tA)), zzI cy qtr 8 (T_re (zdd tA)), zzI cy qtm 8 (T_me (zdd tA)), zzI cy qtt 8 (T_te (zdd tA)), zzI cy qts 64 (shF (T_kn (zdd tA)))])) := by
  refine enW RX4 (by decide +kernel) rfl (Nat.le_of_ble_eq_true rfl) (fun p e s m below meth c ls A hx hb hml hown hts hr hlocks hP hN hl hin hD hA hS => ?_)
  have hin : meth.name = _ := hin
  have hK := hN.1
  replace hl : lv_has ls 2 [(0, .ref qt)] := hl
  refine lv_iconst (v := 0) hx hb (g_3 bX4_drawDeaths rfl) (by decide +kernel) ?_
  refine lv_istore_n (lv' := [(1, .int 0), (0, .ref qt)]) hx hb (g_60 bX4_drawDeaths rfl) rfl hl (by decide +kernel) rfl (fun ls => ?_)
  clear hl
  intro hl
  have lp_1 : ∀ (n_2 : Nat) (j_4 : Nat) (tJ_5 : TA), 8 - j_4 < n_2 → j_4 ≤ T_np tA → tJ_5 = ddF tA j_4 → ∀ (H : Heap) (locs : List Loc) (ls : Array Slot), va_P G CL [zzO qt 3 [.int (nI (T_nb tJ_5)), .int (nI (T_np tJ_5)), .int (wb (T_wh tJ_5)), .int (wb (T_gn tJ_5)), .int (T_sd tJ_5), .ref qtw, .ref qtn, .ref qtg, .ref qta, .ref qtr, .ref qtm, .ref qtt, .ref qts], zzI cy qtw 8 (T_wo tJ_5), zzI cy qtn 8 (T_ne tJ_5), zzI cy qtg 8 (T_go tJ_5), zzI cy qta 8 (T_ag tJ_5), zzI cy qtr 8 (T_re tJ_5), zzI cy qtm 8 (T_me tJ_5), zzI cy qtt 8 (T_te tJ_5), zzI cy qts 64 (shF (T_kn tJ_5))] H → va_D A [zzO qt 3 [.int (nI (T_nb tJ_5)), .int (nI (T_np tJ_5)), .int (wb (T_wh tJ_5)), .int (wb (T_gn tJ_5)), .int (T_sd tJ_5), .ref qtw, .ref qtn, .ref qtg, .ref qta, .ref qtr, .ref qtm, .ref qtt, .ref qts], zzI cy qtw 8 (T_wo tJ_5), zzI cy qtn 8 (T_ne tJ_5), zzI cy qtg 8 (T_go tJ_5), zzI cy qta 8 (T_ag tJ_5), zzI cy qtr 8 (T_re tJ_5), zzI cy qtm 8 (T_me tJ_5), zzI cy qtt 8 (T_te tJ_5), zzI cy qts 64 (shF (T_kn tJ_5))] → va_S A s.heap H locs → lv_has ls 2 [(1, .int (nI j_4)), (0, .ref qt)] → W p l e (Rm 2 0 0) s m (List.toArray (α := Value) [.ref qt]) below meth c H locs 0 0 (MQ below ((Wv G (fun u => u = [zzO qt 3 [.int (nI (T_nb (zdd tA))), .int (nI (T_np (zdd tA))), .int (wb (T_wh (zdd tA))), .int (wb (T_gn (zdd tA))), .int (T_sd (zdd tA)), .ref qtw, .ref qtn, .ref qtg, .ref qta, .ref qtr, .ref qtm, .ref qtt, .ref qts], zzI cy qtw 8 (T_wo (zdd tA)), zzI cy qtn 8 (T_ne (zdd tA)), zzI cy qtg 8 (T_go (zdd tA)), zzI cy qta 8 (T_ag (zdd tA)), zzI cy qtr 8 (T_re (zdd tA)), zzI cy qtm 8 (T_me (zdd tA)), zzI cy qtt 8 (T_te (zdd tA)), zzI cy qts 64 (shF (T_kn (zdd tA)))])) A) (List.toArray (α := Value) [.ref qt]) s 0 0 A) (F0 m 2 ls []) := by
    intro n_2
    induction n_2 with
    | zero => intro j_4 tJ_5 hm9; exact absurd hm9 (Nat.not_lt_zero _)
    | succ n_2 ih_3 =>
      intro j_4 tJ_5 hm_8 hj_6 htJ_7 H locs ls hP hD hS hl
      refine lv_iload_n hx hb (g_27 bX4_drawDeaths rfl) rfl (lv_at hl 0 rfl) ?_
      refine lv_aload_n hx hb (g_42 bX4_drawDeaths rfl) rfl (lv_at hl 1 rfl) ?_
      refine va_get (D := G) (ci := 3) (v := .int (nI (T_np tJ_5))) (C := RX4) (T := TX4) (N := 13) hx hb hts iX_X4 hown hK hP 0 rfl rfl 1 (by decide +kernel) (hts _ m_t34) (fun _ h9 => h9) rfl (g_180 (v := 43) bX4_drawDeaths rfl) ?_
      refine lv_icmp_ge (tgt := 52) hx hb dX4_drawDeaths_7 (by decide +kernel) (fun c_9 => ?_) (fun c_9 => ?_)
      · have hlt_10e : T_np tJ_5 = T_np tA := by rw [htJ_7]; exact (dd_nb _ _).2
        have hlt_10 : j_4 = T_np tA := Nat.le_antisymm (by omega) (by rw [hlt_10e] at c_9; exact lp_ge rfl rfl (by omega) (by omega) c_9)
        have e9_11 : tJ_5 = zdd tA := by rw [htJ_7, hlt_10]; rfl
        subst e9_11
        exact endVs [[true, true, true, true, true, true, true, true, true]] hx hb hr hlocks hP hD rfl (by decide +kernel) hS rfl (g_177 bX4_drawDeaths rfl)
      · have hlt_12e : T_np tJ_5 = T_np tA := by rw [htJ_7]; exact (dd_nb _ _).2
        have hlt_12 : j_4 < T_np tA := by rw [hlt_12e] at c_9; exact lp_lt rfl rfl (by omega) (by omega) c_9
        refine lv_aload_n hx hb (g_42 bX4_drawDeaths rfl) rfl (lv_at hl 1 rfl) ?_
        refine va_get (D := G) (ci := 3) (v := .int (wb (T_gn tJ_5))) (C := RX4) (T := TX4) (N := 13) hx hb hts iX_X4 hown hK hP 0 rfl rfl 3 (by decide +kernel) (hts _ m_t43) (fun _ h9 => h9) rfl (g_180 (v := 49) bX4_drawDeaths rfl) ?_
        refine lv_iload_n hx hb (g_27 bX4_drawDeaths rfl) rfl (lv_at hl 0 rfl) ?_
        refine kRi (rSN (As := [.int (wb (T_gn tJ_5)), .int (nI j_4)]) (rest := []) ⟨hx, hb, hml, hown, hts⟩ hN (c_X5_has l G cy (wb (T_gn tJ_5)) j_4) L_X4_62 (preRS hN hP [] rfl) rfl ⟨Nat.le_of_ble_eq_true rfl, Nat.le_of_ble_eq_true rfl⟩ hl.1 (Nat.le_of_ble_eq_true rfl) (g_184 (v := 62) bX4_drawDeaths rfl) ⟨Nat.le_of_ble_eq_true rfl, Nat.le_of_ble_eq_true rfl⟩) (fun r_13 h_14 => ?_)
        rcases h_14 with ⟨rfl, h_15⟩ | ⟨rfl, h_15⟩
        · rw [bit_wb _ (by omega)] at h_15
          refine lv_if_ne (tgt := 46) hx hb dX4_drawDeaths_18 (by decide +kernel) (fun _ => ?_) (fun h9 => absurd h9 (by decide +kernel))
          refine lv_iinc (v := nI (j_4 + 1)) (lv' := [(1, .int (nI (j_4 + 1))), (0, .ref qt)]) hx hb dX4_drawDeaths_46 hl (k := 0) rfl (nI_1 _) (by decide +kernel) rfl (fun ls => ?_)
          clear hl
          intro hl
          refine lv_goto (tgt := 2) hx hb dX4_drawDeaths_49 (by decide +kernel) ?_
          exact ih_3 (j_4 + 1) tJ_5 (by omega) (by omega) (by rw [dd_g (htJ_7 ▸ h_15)]; exact htJ_7) _ _ _ hP hD hS (lv_sub hl [0, 1] rfl)
        · rw [bit_wb _ (by omega)] at h_15
          refine lv_if_ne (tgt := 46) hx hb dX4_drawDeaths_18 (by decide +kernel) (fun h9 => absurd (by decide +kernel) h9) (fun _ => ?_)
          refine lv_aload_n hx hb (g_42 bX4_drawDeaths rfl) rfl (lv_at hl 1 rfl) ?_
          refine cVi (As := []) (rest := []) (b := qt) (q := (RX4, TX4, 13)) ⟨hx, hb, hml, hown, hts⟩ (c_X4_drawBelow20 l G cy (H).size qt tJ_5 qtw qtn qtg qta qtr qtm qtt qts) L_X4_120 hN hP hD hS hA (trueIx 0 [true, true, true, true, true, true, true, true, true]) [false, false, false, false, false, false, false, false, false] (sel_eq rfl rfl) (by decide +kernel) rfl 0 3 rfl rfl rfl ⟨Nat.le_of_ble_eq_true rfl, Nat.le_of_ble_eq_true rfl⟩ hl.1 (Nat.le_of_ble_eq_true rfl) (g_182 (v := 120) bX4_drawDeaths rfl) ⟨Nat.le_of_ble_eq_true rfl, Nat.le_of_ble_eq_true rfl⟩ (fun r_18 u_20 H locs h_19 => ?_)
          clear hP hD hS
          intro hP hD hS
          obtain ⟨hu9, h_19⟩ := h_19
          have hPD := pd_eq [zzO qt 3 [.int (nI (T_nb (T_setsd tJ_5 (ltS (T_sd tJ_5))))), .int (nI (T_np (T_setsd tJ_5 (ltS (T_sd tJ_5))))), .int (wb (T_wh (T_setsd tJ_5 (ltS (T_sd tJ_5))))), .int (wb (T_gn (T_setsd tJ_5 (ltS (T_sd tJ_5))))), .int (T_sd (T_setsd tJ_5 (ltS (T_sd tJ_5)))), .ref qtw, .ref qtn, .ref qtg, .ref qta, .ref qtr, .ref qtm, .ref qtt, .ref qts], zzI cy qtw 8 (T_wo (T_setsd tJ_5 (ltS (T_sd tJ_5)))), zzI cy qtn 8 (T_ne (T_setsd tJ_5 (ltS (T_sd tJ_5)))), zzI cy qtg 8 (T_go (T_setsd tJ_5 (ltS (T_sd tJ_5)))), zzI cy qta 8 (T_ag (T_setsd tJ_5 (ltS (T_sd tJ_5)))), zzI cy qtr 8 (T_re (T_setsd tJ_5 (ltS (T_sd tJ_5)))), zzI cy qtm 8 (T_me (T_setsd tJ_5 (ltS (T_sd tJ_5)))), zzI cy qtt 8 (T_te (T_setsd tJ_5 (ltS (T_sd tJ_5)))), zzI cy qts 64 (shF (T_kn (T_setsd tJ_5 (ltS (T_sd tJ_5)))))] hP hD hu9 rfl
          clear hP hD hu9
          obtain ⟨hP, hD⟩ := hPD
          subst h_19
          refine lv_aload_n hx hb (g_42 bX4_drawDeaths rfl) rfl (lv_at hl 1 rfl) ?_
          refine va_get (D := G) (ci := 3) (v := .ref qta) (C := RX4) (T := TX4) (N := 13) hx hb hts iX_X4 hown hK hP 0 rfl rfl 8 (by decide +kernel) (hts _ m_t56) (fun _ h9 => h9) rfl (g_180 (v := 25) bX4_drawDeaths rfl) ?_
          refine lv_iload_n hx hb (g_27 bX4_drawDeaths rfl) rfl (lv_at hl 0 rfl) ?_
          refine va_iald hx hb hK hP 4 0 rfl rfl (in8 (by omega)) (g_46 bX4_drawDeaths rfl) ?_
          refine lv_seti (v := (T_ag (T_setsd tJ_5 (ltS (T_sd tJ_5)))) j_4) (congrArg (T_ag (T_setsd tJ_5 (ltS (T_sd tJ_5)))) (cl8 (by omega))) ?_
          refine lv_icmp_ge (tgt := 46) hx hb dX4_drawDeaths_31 (by decide +kernel) (fun c_21 => ?_) (fun c_21 => ?_)
          · refine lv_iinc (v := nI (j_4 + 1)) (lv' := [(1, .int (nI (j_4 + 1))), (0, .ref qt)]) hx hb dX4_drawDeaths_46 hl (k := 0) rfl (nI_1 _) (by decide +kernel) rfl (fun ls => ?_)
            clear hl
            intro hl
            refine lv_goto (tgt := 2) hx hb dX4_drawDeaths_49 (by decide +kernel) ?_
            exact ih_3 (j_4 + 1) (T_setsd tJ_5 (ltS (T_sd tJ_5))) (by omega) (by omega) (by rw [dd_live (htJ_7 ▸ h_15) (htJ_7 ▸ Int32.not_lt.mpr c_21), ← htJ_7]) _ _ _ hP hD hS (lv_sub hl [0, 1] rfl)
          · refine lv_aload_n hx hb (g_42 bX4_drawDeaths rfl) rfl (lv_at hl 1 rfl) ?_
            refine lv_dup hx hb (g_89 bX4_drawDeaths rfl) rfl ?_
            refine va_get (D := G) (ci := 3) (v := .int (wb (T_gn (T_setsd tJ_5 (ltS (T_sd tJ_5)))))) (C := RX4) (T := TX4) (N := 13) hx hb hts iX_X4 hown hK hP 0 rfl rfl 3 (by decide +kernel) (hts _ m_t43) (fun _ h9 => h9) rfl (g_180 (v := 49) bX4_drawDeaths rfl) ?_
            refine lv_iconst (v := 1) hx hb (g_4 bX4_drawDeaths rfl) (by decide +kernel) ?_
            refine lv_iload_n hx hb (g_27 bX4_drawDeaths rfl) rfl (lv_at hl 0 rfl) ?_
            refine lv_ishl hx hb (g_120 bX4_drawDeaths rfl) ?_
            refine lv_ior hx hb (g_128 bX4_drawDeaths rfl) ?_
            refine lv_seti (v := wb (updB (T_gn tJ_5) j_4 true)) (wb_on _ (by omega)) ?_
            refine va_put (D := G) (ci := 3) (v := .int (wb (updB (T_gn tJ_5) j_4 true))) (ty := .int) (C := RX4) (T := TX4) (N := 13) hx hb hts iX_X4 tyX4 tyX4_ok nmX4 hown hK hP hD hS 0 rfl rfl 3 (by decide +kernel) (hts _ m_t43) (fun _ h9 => h9) rfl (by decide +kernel) rfl rfl (Nat.le_of_ble_eq_true rfl) (g_181 (v := 49) bX4_drawDeaths rfl) (fun H locs => ?_)
            clear hP hD hS
            intro hP hD hS
            have hPD := pd_as [zzO qt 3 [.int (nI (T_nb (T_setsd tJ_5 (ltS (T_sd tJ_5))))), .int (nI (T_np (T_setsd tJ_5 (ltS (T_sd tJ_5))))), .int (wb (T_wh (T_setsd tJ_5 (ltS (T_sd tJ_5))))), .int (wb (updB (T_gn tJ_5) j_4 true)), .int (T_sd (T_setsd tJ_5 (ltS (T_sd tJ_5)))), .ref qtw, .ref qtn, .ref qtg, .ref qta, .ref qtr, .ref qtm, .ref qtt, .ref qts], _, _, _, _, _, _, _, _] hP hD rfl
            clear hP hD
            obtain ⟨hP, hD⟩ := hPD
            have hPD := pd_as [zzO qt 3 [.int (nI (T_nb (T_setgn (T_setsd tJ_5 (ltS (T_sd tJ_5))) (updB (T_gn tJ_5) j_4 true)))), .int (nI (T_np (T_setgn (T_setsd tJ_5 (ltS (T_sd tJ_5))) (updB (T_gn tJ_5) j_4 true)))), .int (wb (T_wh (T_setgn (T_setsd tJ_5 (ltS (T_sd tJ_5))) (updB (T_gn tJ_5) j_4 true)))), .int (wb (T_gn (T_setgn (T_setsd tJ_5 (ltS (T_sd tJ_5))) (updB (T_gn tJ_5) j_4 true)))), .int (T_sd (T_setgn (T_setsd tJ_5 (ltS (T_sd tJ_5))) (updB (T_gn tJ_5) j_4 true))), .ref qtw, .ref qtn, .ref qtg, .ref qta, .ref qtr, .ref qtm, .ref qtt, .ref qts], zzI cy qtw 8 (T_wo (T_setgn (T_setsd tJ_5 (ltS (T_sd tJ_5))) (updB (T_gn tJ_5) j_4 true))), zzI cy qtn 8 (T_ne (T_setgn (T_setsd tJ_5 (ltS (T_sd tJ_5))) (updB (T_gn tJ_5) j_4 true))), zzI cy qtg 8 (T_go (T_setgn (T_setsd tJ_5 (ltS (T_sd tJ_5))) (updB (T_gn tJ_5) j_4 true))), zzI cy qta 8 (T_ag (T_setgn (T_setsd tJ_5 (ltS (T_sd tJ_5))) (updB (T_gn tJ_5) j_4 true))), zzI cy qtr 8 (T_re (T_setgn (T_setsd tJ_5 (ltS (T_sd tJ_5))) (updB (T_gn tJ_5) j_4 true))), zzI cy qtm 8 (T_me (T_setgn (T_setsd tJ_5 (ltS (T_sd tJ_5))) (updB (T_gn tJ_5) j_4 true))), zzI cy qtt 8 (T_te (T_setgn (T_setsd tJ_5 (ltS (T_sd tJ_5))) (updB (T_gn tJ_5) j_4 true))), zzI cy qts 64 (shF (T_kn (T_setgn (T_setsd tJ_5 (ltS (T_sd tJ_5))) (updB (T_gn tJ_5) j_4 true))))] hP hD rfl
            clear hP hD
            obtain ⟨hP, hD⟩ := hPD
            refine lv_iinc (v := nI (j_4 + 1)) (lv' := [(1, .int (nI (j_4 + 1))), (0, .ref qt)]) hx hb dX4_drawDeaths_46 hl (k := 0) rfl (nI_1 _) (by decide +kernel) rfl (fun ls => ?_)
            clear hl
            intro hl
            refine lv_goto (tgt := 2) hx hb dX4_drawDeaths_49 (by decide +kernel) ?_
            exact ih_3 (j_4 + 1) (T_setgn (T_setsd tJ_5 (ltS (T_sd tJ_5))) (updB (T_gn tJ_5) j_4 true)) (by omega) (by omega) (by rw [dd_die (htJ_7 ▸ h_15) (htJ_7 ▸ Int32.not_le.mp c_21), ← htJ_7]) _ _ _ hP hD hS (lv_sub hl [0, 1] rfl)
  exact lp_1 ((8 - 0) + 1) 0 tA (Nat.lt_succ_self _) (Nat.zero_le _) rfl _ _ ls hP hD hS (lv_sub hl [0, 1] rfl)
set_option maxHeartbeats 4000000 in
set_option maxRecDepth 100000 in
theorem c_X4_hearFrom (l : Launch) (G : va_G) (cy : Nat → ClassId) (sz : Nat) (qt : Nat) (tA : TA) (qtw : Nat) (qtn : Nat) (qtg : Nat) (qta : Nat) (qtr : Nat) (qtm : Nat) (qtt : Nat) (qts : Nat) (kI : Nat) (kB : Nat) (iO : Int32)  (hI : kI < 8) (hJ : kB < 8) (hPp : T_np tA ≤ 8) : MW l yX4_hearFrom cX4_hearFrom 9 (some .int) 3 0 0 G cy [zzO qt 3 [.int (nI (T_nb tA)), .int (nI (T_np tA)), .int (wb (T_wh tA)), .int (wb (T_gn tA)), .int (T_sd tA), .ref qtw, .ref qtn, .ref qtg, .ref qta, .ref qtr, .ref qtm, .ref qtt, .ref qts], zzI cy qtw 8 (T_wo tA), zzI cy qtn 8 (T_ne tA), zzI cy qtg 8 (T_go tA), zzI cy qta 8 (T_ag tA), zzI cy qtr 8 (T_re tA), zzI cy qtm 8 (T_me tA), zzI cy qtt 8 (T_te tA), zzI cy qts 64 (shF (T_kn tA))] sz [.ref qt, .int (nI kI), .int (nI kB), .int iO] (Wi G (fun r u => u = [zzO qt 3 [.int (nI (T_nb ((zhf tA kI kB iO).1))), .int (nI (T_np ((zhf tA kI kB iO).1))), .int (wb (T_wh ((zhf tA kI kB iO).1))), .int (wb (T_gn ((zhf tA kI kB iO).1))), .int (T_sd ((zhf tA kI kB iO).1)), .ref qtw, .ref qtn, .ref qtg, .ref qta, .ref qtr, .ref qtm, .ref qtt, .ref qts], zzI cy qtw 8 (T_wo ((zhf tA kI kB iO).1)), zzI cy qtn 8 (T_ne ((zhf tA kI kB iO).1)), zzI cy qtg 8 (T_go ((zhf tA kI kB iO).1)), zzI cy qta 8 (T_ag ((zhf tA kI kB iO).1)), zzI cy qtr 8 (T_re ((zhf tA kI kB iO).1)), zzI cy qtm 8 (T_me ((zhf tA kI kB iO).1)), zzI cy qtt 8 (T_te ((zhf tA kI kB iO).1)), zzI cy qts 64 (shF (T_kn ((zhf tA kI kB iO).1)))] ∧ ((r = ((zhf tA kI kB iO).2))))) := by
  refine enW RX4 (by decide +kernel) rfl (Nat.le_of_ble_eq_true rfl) (fun p e s m below meth c ls A hx hb hml hown hts hr hlocks hP hN hl hin hD hA hS => ?_)
  have hin : meth.name = _ := hin
  have hK := hN.1
  replace hl : lv_has ls 9 [(0, .ref qt), (1, .int (nI kI)), (2, .int (nI kB)), (3, .int iO)] := hl
  refine lv_aload_n hx hb (g_42 bX4_hearFrom rfl) rfl (lv_at hl 0 rfl) ?_
  refine lv_iload_n hx hb (g_27 bX4_hearFrom rfl) rfl (lv_at hl 1 rfl) ?_
  refine lv_iload_n hx hb (g_28 bX4_hearFrom rfl) rfl (lv_at hl 2 rfl) ?_
  refine kRi (rV (As := [.int (nI kI), .int (nI kB)]) (rest := []) (b := qt) ⟨hx, hb, hml, hown, hts⟩ (c_X4_knows l G cy qt tA qtw qtn qtg qta qtr qtm qtt qts kI kB hI hJ) L_X4_66 (preRV (q := (RX4, TX4, 13)) hN hP [0, 8] rfl 0 3 rfl rfl) rfl ⟨Nat.le_of_ble_eq_true rfl, Nat.le_of_ble_eq_true rfl⟩ hl.1 (Nat.le_of_ble_eq_true rfl) (g_182 (v := 66) bX4_hearFrom rfl) ⟨Nat.le_of_ble_eq_true rfl, Nat.le_of_ble_eq_true rfl⟩) (fun r_1 h_2 => ?_)
  subst h_2
  refine lv_iconst (v := 2) hx hb (g_5 bX4_hearFrom rfl) (by decide +kernel) ?_
  refine lv_idiv hx hb (g_108 bX4_hearFrom rfl) (by decide +kernel) ?_
  refine lv_istore (lv' := [(4, .int ((T_kn tA kI kB) / 2)), (0, .ref qt), (1, .int (nI kI)), (2, .int (nI kB)), (3, .int iO)]) hx hb (g_54 (v := 4) bX4_hearFrom rfl) hl (by decide +kernel) rfl (fun ls => ?_)
  clear hl
  intro hl
  refine lv_iload_n hx hb (g_29 bX4_hearFrom rfl) rfl (lv_at hl 4 rfl) ?_
  refine lv_aload_n hx hb (g_42 bX4_hearFrom rfl) rfl (lv_at hl 1 rfl) ?_
  refine kRi (rV (As := []) (rest := [.int iO]) (b := qt) ⟨hx, hb, hml, hown, hts⟩ (c_X4_setThere l G cy qt tA qtw qtn qtg qta qtr qtm qtt qts hPp) L_X4_78 (preRV (q := (RX4, TX4, 13)) hN hP [0] rfl 0 3 rfl rfl) rfl ⟨Nat.le_of_ble_eq_true rfl, Nat.le_of_ble_eq_true rfl⟩ hl.1 (Nat.le_of_ble_eq_true rfl) (g_182 (v := 78) bX4_hearFrom rfl) ⟨Nat.le_of_ble_eq_true rfl, Nat.le_of_ble_eq_true rfl⟩) (fun r_3 h_4 => ?_)
  subst h_4
  refine lv_iand hx hb (g_126 bX4_hearFrom rfl) ?_
  refine lv_iconst (v := 1) hx hb (g_4 bX4_hearFrom rfl) (by decide +kernel) ?_
  refine lv_iload_n hx hb (g_27 bX4_hearFrom rfl) rfl (lv_at hl 2 rfl) ?_
  refine lv_ishl hx hb (g_120 bX4_hearFrom rfl) ?_
  refine lv_iconst (v := (-1)) hx hb (g_2 bX4_hearFrom rfl) (by decide +kernel) ?_
  refine lv_ixor hx hb (g_130 bX4_hearFrom rfl) ?_
  refine lv_iand hx hb (g_126 bX4_hearFrom rfl) ?_
  refine lv_istore (lv' := [(5, .int ((iO &&& (zthere tA)) &&& ((1 <<< ((nI kI) &&& 31)) ^^^ (-1)))), (4, .int ((T_kn tA kI kB) / 2)), (0, .ref qt), (1, .int (nI kI)), (2, .int (nI kB)), (3, .int iO)]) hx hb (g_54 (v := 5) bX4_hearFrom rfl) hl (by decide +kernel) rfl (fun ls => ?_)
  clear hl
  intro hl
  refine lv_iconst (v := 0) hx hb (g_3 bX4_hearFrom rfl) (by decide +kernel) ?_
  refine lv_istore (lv' := [(6, .int 0), (5, .int ((iO &&& (zthere tA)) &&& ((1 <<< ((nI kI) &&& 31)) ^^^ (-1)))), (4, .int ((T_kn tA kI kB) / 2)), (0, .ref qt), (1, .int (nI kI)), (2, .int (nI kB)), (3, .int iO)]) hx hb (g_54 (v := 6) bX4_hearFrom rfl) hl (by decide +kernel) rfl (fun ls => ?_)
  clear hl
  intro hl
  refine lv_iconst (v := 0) hx hb (g_3 bX4_hearFrom rfl) (by decide +kernel) ?_
  refine lv_istore (lv' := [(7, .int 0), (6, .int 0), (5, .int ((iO &&& (zthere tA)) &&& ((1 <<< ((nI kI) &&& 31)) ^^^ (-1)))), (4, .int ((T_kn tA kI kB) / 2)), (0, .ref qt), (1, .int (nI kI)), (2, .int (nI kB)), (3, .int iO)]) hx hb (g_54 (v := 7) bX4_hearFrom rfl) hl (by decide +kernel) rfl (fun ls => ?_)
  clear hl
  intro hl
  have lp_5 : ∀ (n_6 : Nat) (j_8 : Nat) (tJ_9 : TA) (xC_10 : Int32), 8 - j_8 < n_6 → j_8 ≤ T_np tA → tJ_9 = (hfF tA (T_kn tA kI kB / 2) ((iO &&& zthere tA) &&& ((1 <<< (nI kI &&& 31)) ^^^ (-1))) kB j_8).1 → xC_10 = (hfF tA (T_kn tA kI kB / 2) ((iO &&& zthere tA) &&& ((1 <<< (nI kI &&& 31)) ^^^ (-1))) kB j_8).2 → ∀ (H : Heap) (locs : List Loc) (ls : Array Slot), va_P G CL [zzO qt 3 [.int (nI (T_nb tJ_9)), .int (nI (T_np tJ_9)), .int (wb (T_wh tJ_9)), .int (wb (T_gn tJ_9)), .int (T_sd tJ_9), .ref qtw, .ref qtn, .ref qtg, .ref qta, .ref qtr, .ref qtm, .ref qtt, .ref qts], zzI cy qtw 8 (T_wo tJ_9), zzI cy qtn 8 (T_ne tJ_9), zzI cy qtg 8 (T_go tJ_9), zzI cy qta 8 (T_ag tJ_9), zzI cy qtr 8 (T_re tJ_9), zzI cy qtm 8 (T_me tJ_9), zzI cy qtt 8 (T_te tJ_9), zzI cy qts 64 (shF (T_kn tJ_9))] H → va_D A [zzO qt 3 [.int (nI (T_nb tJ_9)), .int (nI (T_np tJ_9)), .int (wb (T_wh tJ_9)), .int (wb (T_gn tJ_9)), .int (T_sd tJ_9), .ref qtw, .ref qtn, .ref qtg, .ref qta, .ref qtr, .ref qtm, .ref qtt, .ref qts], zzI cy qtw 8 (T_wo tJ_9), zzI cy qtn 8 (T_ne tJ_9), zzI cy qtg 8 (T_go tJ_9), zzI cy qta 8 (T_ag tJ_9), zzI cy qtr 8 (T_re tJ_9), zzI cy qtm 8 (T_me tJ_9), zzI cy qtt 8 (T_te tJ_9), zzI cy qts 64 (shF (T_kn tJ_9))] → va_S A s.heap H locs → lv_has ls 9 [(7, .int (nI j_8)), (6, .int xC_10), (5, .int ((iO &&& (zthere tA)) &&& ((1 <<< ((nI kI) &&& 31)) ^^^ (-1)))), (4, .int ((T_kn tA kI kB) / 2)), (0, .ref qt), (1, .int (nI kI)), (2, .int (nI kB)), (3, .int iO)] → W p l e (Rm 3 0 0) s m (List.toArray (α := Value) [.ref qt, .int (nI kI), .int (nI kB), .int iO]) below meth c H locs 0 0 (MQ below ((Wi G (fun r u => u = [zzO qt 3 [.int (nI (T_nb ((zhf tA kI kB iO).1))), .int (nI (T_np ((zhf tA kI kB iO).1))), .int (wb (T_wh ((zhf tA kI kB iO).1))), .int (wb (T_gn ((zhf tA kI kB iO).1))), .int (T_sd ((zhf tA kI kB iO).1)), .ref qtw, .ref qtn, .ref qtg, .ref qta, .ref qtr, .ref qtm, .ref qtt, .ref qts], zzI cy qtw 8 (T_wo ((zhf tA kI kB iO).1)), zzI cy qtn 8 (T_ne ((zhf tA kI kB iO).1)), zzI cy qtg 8 (T_go ((zhf tA kI kB iO).1)), zzI cy qta 8 (T_ag ((zhf tA kI kB iO).1)), zzI cy qtr 8 (T_re ((zhf tA kI kB iO).1)), zzI cy qtm 8 (T_me ((zhf tA kI kB iO).1)), zzI cy qtt 8 (T_te ((zhf tA kI kB iO).1)), zzI cy qts 64 (shF (T_kn ((zhf tA kI kB iO).1)))] ∧ ((r = ((zhf tA kI kB iO).2))))) A) (List.toArray (α := Value) [.ref qt, .int (nI kI), .int (nI kB), .int iO]) s 0 0 A) (F0 m 30 ls []) := by
    intro n_6
    induction n_6 with
    | zero => intro j_8 tJ_9 xC_10 hm9; exact absurd hm9 (Nat.not_lt_zero _)
    | succ n_6 ih_7 =>
      intro j_8 tJ_9 xC_10 hm_14 hj_11 htJ_12 hxC_13 H locs ls hP hD hS hl
      refine lv_iload hx hb (g_21 (v := 7) bX4_hearFrom rfl) (lv_at hl 0 rfl) ?_
      refine lv_aload_n hx hb (g_42 bX4_hearFrom rfl) rfl (lv_at hl 4 rfl) ?_
      refine va_get (D := G) (ci := 3) (v := .int (nI (T_np tJ_9))) (C := RX4) (T := TX4) (N := 13) hx hb hts iX_X4 hown hK hP 0 rfl rfl 1 (by decide +kernel) (hts _ m_t34) (fun _ h9 => h9) rfl (g_180 (v := 43) bX4_hearFrom rfl) ?_
      refine lv_icmp_ge (tgt := 93) hx hb dX4_hearFrom_36 (by decide +kernel) (fun c_15 => ?_) (fun c_15 => ?_)
      · have hlt_16e : T_np tJ_9 = T_np tA := by rw [htJ_12]; exact (hf_nb _ _ _ _ _).2
        have hlt_16 : j_8 = T_np tA := Nat.le_antisymm (by omega) (by rw [hlt_16e] at c_15; exact lp_ge rfl rfl (by omega) (by omega) c_15)
        have e9_17 : tJ_9 = (zhf tA kI kB iO).1 := by rw [htJ_12, hlt_16]; rfl
        subst e9_17
        refine lv_iload hx hb (g_21 (v := 6) bX4_hearFrom rfl) (lv_at hl 1 rfl) ?_
        exact endW (u := [zzO qt 3 [.int (nI (T_nb ((zhf tA kI kB iO).1))), .int (nI (T_np ((zhf tA kI kB iO).1))), .int (wb (T_wh ((zhf tA kI kB iO).1))), .int (wb (T_gn ((zhf tA kI kB iO).1))), .int (T_sd ((zhf tA kI kB iO).1)), .ref qtw, .ref qtn, .ref qtg, .ref qta, .ref qtr, .ref qtm, .ref qtt, .ref qts], zzI cy qtw 8 (T_wo ((zhf tA kI kB iO).1)), zzI cy qtn 8 (T_ne ((zhf tA kI kB iO).1)), zzI cy qtg 8 (T_go ((zhf tA kI kB iO).1)), zzI cy qta 8 (T_ag ((zhf tA kI kB iO).1)), zzI cy qtr 8 (T_re ((zhf tA kI kB iO).1)), zzI cy qtm 8 (T_me ((zhf tA kI kB iO).1)), zzI cy qtt 8 (T_te ((zhf tA kI kB iO).1)), zzI cy qts 64 (shF (T_kn ((zhf tA kI kB iO).1)))]) hx hb hr hlocks rfl (pSb hP [[true, true, true, true, true, true, true, true, true]] rfl rfl) (dSb hD [[true, true, true, true, true, true, true, true, true]] (by decide +kernel) rfl rfl) hS ⟨rfl, (by rw [hxC_13, hlt_16]; rfl)⟩ (g_172 bX4_hearFrom rfl)
      · have hlt_18e : T_np tJ_9 = T_np tA := by rw [htJ_12]; exact (hf_nb _ _ _ _ _).2
        have hlt_18 : j_8 < T_np tA := by rw [hlt_18e] at c_15; exact lp_lt rfl rfl (by omega) (by omega) c_15
        refine lv_iload hx hb (g_21 (v := 4) bX4_hearFrom rfl) (lv_at hl 3 rfl) ?_
        refine lv_aload_n hx hb (g_42 bX4_hearFrom rfl) rfl (lv_at hl 4 rfl) ?_
        refine lv_iload hx hb (g_21 (v := 7) bX4_hearFrom rfl) (lv_at hl 0 rfl) ?_
        refine lv_iload_n hx hb (g_28 bX4_hearFrom rfl) rfl (lv_at hl 6 rfl) ?_
        refine kRi (rV (As := [.int (nI j_8), .int (nI kB)]) (rest := [.int ((T_kn tA kI kB) / 2)]) (b := qt) ⟨hx, hb, hml, hown, hts⟩ (c_X4_groundOf l G cy qt tJ_9 qtw qtn qtg qta qtr qtm qtt qts j_8 kB (by omega) hJ) L_X4_85 (preRV (q := (RX4, TX4, 13)) hN hP (trueIx 0 [true, false, true, false, false, false, false, false, true]) (sel_fm rfl rfl) 0 3 rfl rfl) rfl ⟨Nat.le_of_ble_eq_true rfl, Nat.le_of_ble_eq_true rfl⟩ hl.1 (Nat.le_of_ble_eq_true rfl) (g_182 (v := 85) bX4_hearFrom rfl) ⟨Nat.le_of_ble_eq_true rfl, Nat.le_of_ble_eq_true rfl⟩) (fun r_19 h_20 => ?_)
        subst h_20
        refine kRi (rS (As := [.int ((T_kn tA kI kB) / 2), .int (zgd tJ_9 j_8 kB)]) (rest := []) ⟨hx, hb, hml, hown, hts⟩ (c_X4_grasped l G cy ((T_kn tA kI kB) / 2) (zgd tJ_9 j_8 kB)) L_X4_88 (preRS hN hP [] rfl) rfl ⟨Nat.le_of_ble_eq_true rfl, Nat.le_of_ble_eq_true rfl⟩ hl.1 (Nat.le_of_ble_eq_true rfl) (g_184 (v := 88) bX4_hearFrom rfl) ⟨Nat.le_of_ble_eq_true rfl, Nat.le_of_ble_eq_true rfl⟩) (fun r_21 h_22 => ?_)
        subst h_22
        refine lv_istore (lv' := [(8, .int (zgr ((T_kn tA kI kB) / 2) (zgd tJ_9 j_8 kB))), (7, .int (nI j_8)), (6, .int xC_10), (5, .int ((iO &&& (zthere tA)) &&& ((1 <<< ((nI kI) &&& 31)) ^^^ (-1)))), (4, .int ((T_kn tA kI kB) / 2)), (0, .ref qt), (1, .int (nI kI)), (2, .int (nI kB)), (3, .int iO)]) hx hb (g_54 (v := 8) bX4_hearFrom rfl) hl (by decide +kernel) rfl (fun ls => ?_)
        clear hl
        intro hl
        refine lv_iload hx hb (g_21 (v := 5) bX4_hearFrom rfl) (lv_at hl 3 rfl) ?_
        refine lv_iload hx hb (g_21 (v := 7) bX4_hearFrom rfl) (lv_at hl 1 rfl) ?_
        refine kRi (rSN (As := [.int ((iO &&& (zthere tA)) &&& ((1 <<< ((nI kI) &&& 31)) ^^^ (-1))), .int (nI j_8)]) (rest := []) ⟨hx, hb, hml, hown, hts⟩ hN (c_X5_has l G cy ((iO &&& (zthere tA)) &&& ((1 <<< ((nI kI) &&& 31)) ^^^ (-1))) j_8) L_X4_62 (preRS hN hP [] rfl) rfl ⟨Nat.le_of_ble_eq_true rfl, Nat.le_of_ble_eq_true rfl⟩ hl.1 (Nat.le_of_ble_eq_true rfl) (g_184 (v := 62) bX4_hearFrom rfl) ⟨Nat.le_of_ble_eq_true rfl, Nat.le_of_ble_eq_true rfl⟩) (fun r_23 h_24 => ?_)
        rcases h_24 with ⟨rfl, h_25⟩ | ⟨rfl, h_25⟩
        · refine lv_if_eq (tgt := 87) hx hb dX4_hearFrom_60 (by decide +kernel) (fun h9 => absurd h9 (by decide +kernel)) (fun _ => ?_)
          refine lv_iload hx hb (g_21 (v := 8) bX4_hearFrom rfl) (lv_at hl 0 rfl) ?_
          refine lv_aload_n hx hb (g_42 bX4_hearFrom rfl) rfl (lv_at hl 5 rfl) ?_
          refine lv_iload hx hb (g_21 (v := 7) bX4_hearFrom rfl) (lv_at hl 1 rfl) ?_
          refine lv_iload_n hx hb (g_28 bX4_hearFrom rfl) rfl (lv_at hl 7 rfl) ?_
          refine kRi (rV (As := [.int (nI j_8), .int (nI kB)]) (rest := [.int (zgr ((T_kn tA kI kB) / 2) (zgd tJ_9 j_8 kB))]) (b := qt) ⟨hx, hb, hml, hown, hts⟩ (c_X4_knows l G cy qt tJ_9 qtw qtn qtg qta qtr qtm qtt qts j_8 kB (by omega) hJ) L_X4_66 (preRV (q := (RX4, TX4, 13)) hN hP [0, 8] rfl 0 3 rfl rfl) rfl ⟨Nat.le_of_ble_eq_true rfl, Nat.le_of_ble_eq_true rfl⟩ hl.1 (Nat.le_of_ble_eq_true rfl) (g_182 (v := 66) bX4_hearFrom rfl) ⟨Nat.le_of_ble_eq_true rfl, Nat.le_of_ble_eq_true rfl⟩) (fun r_27 h_28 => ?_)
          subst h_28
          refine lv_icmp_le (tgt := 87) hx hb dX4_hearFrom_72 (by decide +kernel) (fun c_29 => ?_) (fun c_29 => ?_)
          · refine lv_iinc (v := nI (j_8 + 1)) (lv' := [(7, .int (nI (j_8 + 1))), (8, .int (zgr ((T_kn tA kI kB) / 2) (zgd tJ_9 j_8 kB))), (6, .int xC_10), (5, .int ((iO &&& (zthere tA)) &&& ((1 <<< ((nI kI) &&& 31)) ^^^ (-1)))), (4, .int ((T_kn tA kI kB) / 2)), (0, .ref qt), (1, .int (nI kI)), (2, .int (nI kB)), (3, .int iO)]) hx hb dX4_hearFrom_87 hl (k := 1) rfl (nI_1 _) (by decide +kernel) rfl (fun ls => ?_)
            clear hl
            intro hl
            refine lv_goto (tgt := 30) hx hb dX4_hearFrom_90 (by decide +kernel) ?_
            exact ih_7 (j_8 + 1) tJ_9 xC_10 (by omega) (by omega) (by rw [hf_no2 (htJ_12 ▸ Int32.not_lt.mpr c_29)]; exact htJ_12) (by rw [hf_no2 (htJ_12 ▸ Int32.not_lt.mpr c_29)]; exact hxC_13) _ _ _ hP hD hS (lv_sub hl [0, 2, 3, 4, 5, 6, 7, 8] rfl)
          · refine lv_aload_n hx hb (g_42 bX4_hearFrom rfl) rfl (lv_at hl 5 rfl) ?_
            refine lv_iload hx hb (g_21 (v := 7) bX4_hearFrom rfl) (lv_at hl 1 rfl) ?_
            refine lv_iload_n hx hb (g_28 bX4_hearFrom rfl) rfl (lv_at hl 7 rfl) ?_
            refine lv_iload hx hb (g_21 (v := 8) bX4_hearFrom rfl) (lv_at hl 0 rfl) ?_
            refine cVv (As := [.int (nI j_8), .int (nI kB), .int (zgr ((T_kn tA kI kB) / 2) (zgd tJ_9 j_8 kB))]) (rest := []) (b := qt) (q := (RX4, TX4, 13)) ⟨hx, hb, hml, hown, hts⟩ (c_X4_learn l G cy (H).size qt tJ_9 qtw qtn qtg qta qtr qtm qtt qts j_8 kB (zgr ((T_kn tA kI kB) / 2) (zgd tJ_9 j_8 kB)) (by omega) hJ) L_X4_94 hN hP hD hS hA [0, 8] [false, true, true, true, true, true, true, true, false] rfl (by decide +kernel) rfl 0 3 rfl rfl rfl ⟨Nat.le_of_ble_eq_true rfl, Nat.le_of_ble_eq_true rfl⟩ hl.1 (Nat.le_of_ble_eq_true rfl) (g_182 (v := 94) bX4_hearFrom rfl) ⟨Nat.le_of_ble_eq_true rfl, Nat.le_of_ble_eq_true rfl⟩ (fun u_32 H locs h_31 => ?_)
            clear hP hD hS
            intro hP hD hS
            have hPD := pd_eq [zzI cy qtw 8 (T_wo (T_setkn tJ_9 (updM (T_kn tJ_9) j_8 kB (zgr ((T_kn tA kI kB) / 2) (zgd tJ_9 j_8 kB))))), zzI cy qtn 8 (T_ne (T_setkn tJ_9 (updM (T_kn tJ_9) j_8 kB (zgr ((T_kn tA kI kB) / 2) (zgd tJ_9 j_8 kB))))), zzI cy qtg 8 (T_go (T_setkn tJ_9 (updM (T_kn tJ_9) j_8 kB (zgr ((T_kn tA kI kB) / 2) (zgd tJ_9 j_8 kB))))), zzI cy qta 8 (T_ag (T_setkn tJ_9 (updM (T_kn tJ_9) j_8 kB (zgr ((T_kn tA kI kB) / 2) (zgd tJ_9 j_8 kB))))), zzI cy qtr 8 (T_re (T_setkn tJ_9 (updM (T_kn tJ_9) j_8 kB (zgr ((T_kn tA kI kB) / 2) (zgd tJ_9 j_8 kB))))), zzI cy qtm 8 (T_me (T_setkn tJ_9 (updM (T_kn tJ_9) j_8 kB (zgr ((T_kn tA kI kB) / 2) (zgd tJ_9 j_8 kB))))), zzI cy qtt 8 (T_te (T_setkn tJ_9 (updM (T_kn tJ_9) j_8 kB (zgr ((T_kn tA kI kB) / 2) (zgd tJ_9 j_8 kB))))), zzO qt 3 [.int (nI (T_nb (T_setkn tJ_9 (updM (T_kn tJ_9) j_8 kB (zgr ((T_kn tA kI kB) / 2) (zgd tJ_9 j_8 kB)))))), .int (nI (T_np (T_setkn tJ_9 (updM (T_kn tJ_9) j_8 kB (zgr ((T_kn tA kI kB) / 2) (zgd tJ_9 j_8 kB)))))), .int (wb (T_wh (T_setkn tJ_9 (updM (T_kn tJ_9) j_8 kB (zgr ((T_kn tA kI kB) / 2) (zgd tJ_9 j_8 kB)))))), .int (wb (T_gn (T_setkn tJ_9 (updM (T_kn tJ_9) j_8 kB (zgr ((T_kn tA kI kB) / 2) (zgd tJ_9 j_8 kB)))))), .int (T_sd (T_setkn tJ_9 (updM (T_kn tJ_9) j_8 kB (zgr ((T_kn tA kI kB) / 2) (zgd tJ_9 j_8 kB))))), .ref qtw, .ref qtn, .ref qtg, .ref qta, .ref qtr, .ref qtm, .ref qtt, .ref qts], zzI cy qts 64 (shF (T_kn (T_setkn tJ_9 (updM (T_kn tJ_9) j_8 kB (zgr ((T_kn tA kI kB) / 2) (zgd tJ_9 j_8 kB))))))] hP hD h_31 rfl
            clear hP hD h_31
            obtain ⟨hP, hD⟩ := hPD
            refine lv_iinc (v := xC_10 + 1) (lv' := [(6, .int (xC_10 + 1)), (8, .int (zgr ((T_kn tA kI kB) / 2) (zgd tJ_9 j_8 kB))), (7, .int (nI j_8)), (5, .int ((iO &&& (zthere tA)) &&& ((1 <<< ((nI kI) &&& 31)) ^^^ (-1)))), (4, .int ((T_kn tA kI kB) / 2)), (0, .ref qt), (1, .int (nI kI)), (2, .int (nI kB)), (3, .int iO)]) hx hb dX4_hearFrom_84 hl (k := 2) rfl (rfl) (by decide +kernel) rfl (fun ls => ?_)
            clear hl
            intro hl
            refine lv_iinc (v := nI (j_8 + 1)) (lv' := [(7, .int (nI (j_8 + 1))), (6, .int (xC_10 + 1)), (8, .int (zgr ((T_kn tA kI kB) / 2) (zgd tJ_9 j_8 kB))), (5, .int ((iO &&& (zthere tA)) &&& ((1 <<< ((nI kI) &&& 31)) ^^^ (-1)))), (4, .int ((T_kn tA kI kB) / 2)), (0, .ref qt), (1, .int (nI kI)), (2, .int (nI kB)), (3, .int iO)]) hx hb dX4_hearFrom_87 hl (k := 2) rfl (nI_1 _) (by decide +kernel) rfl (fun ls => ?_)
            clear hl
            intro hl
            refine lv_goto (tgt := 30) hx hb dX4_hearFrom_90 (by decide +kernel) ?_
            exact ih_7 (j_8 + 1) (T_setkn tJ_9 (updM (T_kn tJ_9) j_8 kB (zgr ((T_kn tA kI kB) / 2) (zgd tJ_9 j_8 kB)))) (xC_10 + 1) (by omega) (by omega) (by rw [hf_on h_25 (htJ_12 ▸ Int32.not_le.mp c_29), ← htJ_12]) (by rw [hf_on h_25 (htJ_12 ▸ Int32.not_le.mp c_29), ← hxC_13]) _ _ _ (pSb hP [[false, false, false, false, false, false, false, true], [true, true, true, true, true, true, true, false, true]] rfl rfl) (dSb hD [[false, false, false, false, false, false, false, true], [true, true, true, true, true, true, true, false, true]] (by decide +kernel) rfl rfl) hS (lv_sub hl [0, 1, 3, 4, 5, 6, 7, 8] rfl)
        · refine lv_if_eq (tgt := 87) hx hb dX4_hearFrom_60 (by decide +kernel) (fun _ => ?_) (fun h9 => absurd (by decide +kernel) h9)
          refine lv_iinc (v := nI (j_8 + 1)) (lv' := [(7, .int (nI (j_8 + 1))), (8, .int (zgr ((T_kn tA kI kB) / 2) (zgd tJ_9 j_8 kB))), (6, .int xC_10), (5, .int ((iO &&& (zthere tA)) &&& ((1 <<< ((nI kI) &&& 31)) ^^^ (-1)))), (4, .int ((T_kn tA kI kB) / 2)), (0, .ref qt), (1, .int (nI kI)), (2, .int (nI kB)), (3, .int iO)]) hx hb dX4_hearFrom_87 hl (k := 1) rfl (nI_1 _) (by decide +kernel) rfl (fun ls => ?_)
          clear hl
          intro hl
          refine lv_goto (tgt := 30) hx hb dX4_hearFrom_90 (by decide +kernel) ?_
          exact ih_7 (j_8 + 1) tJ_9 xC_10 (by omega) (by omega) (by rw [hf_no1 h_25]; exact htJ_12) (by rw [hf_no1 h_25]; exact hxC_13) _ _ _ hP hD hS (lv_sub hl [0, 2, 3, 4, 5, 6, 7, 8] rfl)
  exact lp_5 ((8 - 0) + 1) 0 tA 0 (Nat.lt_succ_self _) (Nat.zero_le _) rfl rfl _ _ ls hP hD hS (lv_sub hl [0, 1, 2, 3, 4, 5, 6, 7] rfl)
end
section
/-! rules and plans -/
noncomputable def tlT (t : TA) (p o b : Nat) : TA := T_setkn t (updM (T_kn t) o b (T_kn t o b + zgt t p o b))
noncomputable def tcI (t : TA) (p o : Nat) : Nat → TA
  | 0 => t
  | b + 1 => tlT (tcI t p o b) p o b
noncomputable def tcS (t : TA) (p : Nat) : TA := if T_gn t p = true then t else if zyb t (nI p) = -1 then t else tcI t p (zyb t (nI p)).toNatClampNeg (T_nb t)
noncomputable def tcF (t : TA) : Nat → TA
  | 0 => t
  | p + 1 => tcS (tcF t p) p
noncomputable def zch (t : TA) : TA := tcF t (T_np t)
theorem tcI_nb (t : TA) (p o : Nat) : ∀ n, T_nb (tcI t p o n) = T_nb t ∧ T_np (tcI t p o n) = T_np t := by
  intro n
  induction n with
  | zero => exact ⟨rfl, rfl⟩
  | succ n ih => exact ih
theorem tcS_nb (t : TA) (p : Nat) : T_nb (tcS t p) = T_nb t ∧ T_np (tcS t p) = T_np t := by
  unfold tcS
  split
  · exact ⟨rfl, rfl⟩
  · split
    · exact ⟨rfl, rfl⟩
    · exact tcI_nb _ _ _ _
theorem tcF_nb (t : TA) : ∀ n, T_nb (tcF t n) = T_nb t ∧ T_np (tcF t n) = T_np t := by
  intro n
  induction n with
  | zero => exact ⟨rfl, rfl⟩
  | succ n ih => exact ⟨(tcS_nb _ _).1.trans ih.1, (tcS_nb _ _).2.trans ih.2⟩
theorem tcS_g {t : TA} {p : Nat} (h : T_gn t p = true) : tcS t p = t := by rw [tcS, if_pos h]
theorem tcS_n {t : TA} {p : Nat} (h : T_gn t p = false) (e : zyb t (nI p) = -1) : tcS t p = t := by rw [tcS, if_neg (by rw [h]; decide), if_pos e]
theorem tcS_y {t : TA} {p k : Nat} (h : T_gn t p = false) (e : zyb t (nI p) = nI k) (hk : k < 8) : tcS t p = tcI t p k (T_nb t) := by
  rw [tcS, if_neg (by rw [h]; decide), if_neg (by rw [e]; intro q; have := nI_pos (n := k) (by omega); rw [q] at this; exact this (by decide +kernel)), e, nI_clamp (by omega)]
noncomputable def rdS (t : TA) (p b : Nat) (loud : Int32) : TA := if loud = 0 then rdT t p b else (zhf (rdT t p b) p b (zthere (rdT t p b))).1
noncomputable def rdG (loud most : Int32) : Nat → Nat → TA → Int32 → TA × Int32
  | 0, _, t, c => (t, c)
  | n + 1, j, t, c => if most ≤ nI j then (t, c) else if zdu t = -1 then (t, c) else if zbr t (zdu t).toNatClampNeg = -1 then (t, c) else rdG loud most n (j + 1) (rdS t (zbr t (zdu t).toNatClampNeg).toNatClampNeg (zdu t).toNatClampNeg loud) (c + 1)
noncomputable def zrd (t : TA) (most loud : Int32) : TA × Int32 := rdG loud most 8 0 t 0
theorem rd_m {loud most : Int32} {n j : Nat} {t : TA} {c : Int32} (h : most ≤ nI j) : rdG loud most n j t c = (t, c) := by
  cases n with
  | zero => rfl
  | succ n => rw [rdG, if_pos h]
theorem rd_u {loud most : Int32} {n j : Nat} {t : TA} {c : Int32} (e : zdu t = -1) : rdG loud most n j t c = (t, c) := by
  cases n with
  | zero => rfl
  | succ n =>
    rw [rdG]
    split
    · rfl
    · first | rfl | rw [if_pos e]
theorem rd_b {loud most : Int32} {n j k : Nat} {t : TA} {c : Int32} (e : zdu t = nI k) (hk : k < 8) (e2 : zbr t k = -1) : rdG loud most n j t c = (t, c) := by
  cases n with
  | zero => rfl
  | succ n =>
    rw [rdG]
    split
    · rfl
    · split
      · rfl
      · first | rfl | rw [e, nI_clamp (by omega), if_pos e2]
theorem nI_ne1 {k : Nat} (hk : k < 8) : ¬ nI k = -1 := fun q => by
  have := nI_pos (n := k) (by omega)
  rw [q] at this
  exact this (by decide +kernel)
theorem rd_go {loud most : Int32} {n j k i : Nat} {t : TA} {c : Int32} (h : ¬ most ≤ nI j) (e : zdu t = nI k) (hk : k < 8) (e2 : zbr t k = nI i) (hi : i < 8) : rdG loud most (n + 1) j t c = rdG loud most n (j + 1) (rdS t i k loud) (c + 1) := by
  rw [rdG, if_neg h, e, if_neg (nI_ne1 hk), nI_clamp (by omega), e2, if_neg (nI_ne1 hi), nI_clamp (by omega)]
theorem rdT_nb (t : TA) (p b : Nat) : T_nb (rdT t p b) = T_nb t ∧ T_np (rdT t p b) = T_np t := ⟨rfl, rfl⟩
theorem zhf_nb (t : TA) (p b : Nat) (o : Int32) : T_nb (zhf t p b o).1 = T_nb t ∧ T_np (zhf t p b o).1 = T_np t := hf_nb _ _ _ _ _
theorem rdS_nb (t : TA) (p b : Nat) (l : Int32) : T_nb (rdS t p b l) = T_nb t ∧ T_np (rdS t p b l) = T_np t := by
  unfold rdS
  split
  · exact rdT_nb _ _ _
  · exact ⟨(zhf_nb _ _ _ _).1.trans (rdT_nb t p b).1, (zhf_nb _ _ _ _).2.trans (rdT_nb t p b).2⟩
theorem rdG_nb (loud most : Int32) : ∀ (n j : Nat) (t : TA) (c : Int32), T_nb (rdG loud most n j t c).1 = T_nb t ∧ T_np (rdG loud most n j t c).1 = T_np t := by
  intro n
  induction n with
  | zero => intro j t c; exact ⟨rfl, rfl⟩
  | succ n ih =>
    intro j t c
    rw [rdG]
    split
    · exact ⟨rfl, rfl⟩
    · split
      · exact ⟨rfl, rfl⟩
      · split
        · exact ⟨rfl, rfl⟩
        · exact ⟨(ih _ _ _).1.trans (rdS_nb _ _ _ _).1, (ih _ _ _).2.trans (rdS_nb _ _ _ _).2⟩
noncomputable def zact (t : TA) (k a : Int32) : TA × Int32 := if k = 1 then zrd t 8 0 else if k = 2 then zrd t a 0 else if k = 3 then zrd t 8 1 else if k = 4 then (zch t, 0) else if k = 5 then (zch (zch t), 0) else if k = 6 then zrd (zch t) 1 0 else (t, 0)
theorem zch_nb (t : TA) : T_nb (zch t) = T_nb t ∧ T_np (zch t) = T_np t := tcF_nb _ _
theorem zrd_nb (t : TA) (m l : Int32) : T_nb (zrd t m l).1 = T_nb t ∧ T_np (zrd t m l).1 = T_np t := rdG_nb _ _ _ _ _ _
theorem zact_nb (t : TA) (k a : Int32) : T_nb (zact t k a).1 = T_nb t ∧ T_np (zact t k a).1 = T_np t := by
  unfold zact
  split
  · exact zrd_nb _ _ _
  · split
    · exact zrd_nb _ _ _
    · split
      · exact zrd_nb _ _ _
      · split
        · exact zch_nb _
        · split
          · exact ⟨(zch_nb _).1.trans (zch_nb _).1, (zch_nb _).2.trans (zch_nb _).2⟩
          · split
            · exact ⟨(zrd_nb _ _ _).1.trans (zch_nb _).1, (zrd_nb _ _ _).2.trans (zch_nb _).2⟩
            · exact ⟨rfl, rfl⟩
theorem zey_nb (t : TA) : T_nb (zey t) = T_nb t ∧ T_np (zey t) = T_np t := ey_nb _ _ _
/-- runs: the town, the last value, the sum -/
noncomputable def srG (k a : Int32) : Nat → TA → Int32 → Int32 → TA × Int32 × Int32
  | 0, t, l, s => (t, l, s)
  | n + 1, t, l, s => if zthere t = 0 then (t, 0, s) else srG k a n (zey (zact t k a).1) (zval (zact t k a).1) (s + zval (zact t k a).1)
theorem sr_0 {k a : Int32} {n : Nat} {t : TA} {l s : Int32} (h : zthere t = 0) : srG k a (n + 1) t l s = (t, 0, s) := by rw [srG, if_pos h]
theorem sr_go {k a : Int32} {n : Nat} {t : TA} {l s : Int32} (h : ¬ zthere t = 0) : srG k a (n + 1) t l s = srG k a n (zey (zact t k a).1) (zval (zact t k a).1) (s + zval (zact t k a).1) := by rw [srG, if_neg h]
noncomputable def soG : Nat → TA → Int32 → TA × Int32
  | 0, t, s => (t, s)
  | n + 1, t, s => if zthere t = 0 then (t, s) else soG n (zey t) (s + zval t)
theorem so_0 {n : Nat} {t : TA} {s : Int32} (h : zthere t = 0) : soG n t s = (t, s) := by
  cases n with
  | zero => rfl
  | succ n => rw [soG, if_pos h]
theorem so_go {n : Nat} {t : TA} {s : Int32} (h : ¬ zthere t = 0) : soG (n + 1) t s = soG n (zey t) (s + zval t) := by rw [soG, if_neg h]
theorem soG_nb : ∀ (n : Nat) (t : TA) (s : Int32), T_nb (soG n t s).1 = T_nb t ∧ T_np (soG n t s).1 = T_np t := by
  intro n
  induction n with
  | zero => intro t s; exact ⟨rfl, rfl⟩
  | succ n ih =>
    intro t s
    rw [soG]
    split
    · exact ⟨rfl, rfl⟩
    · exact ⟨(ih _ _).1.trans (zey_nb _).1, (ih _ _).2.trans (zey_nb _).2⟩
end
section
set_option maxHeartbeats 4000000 in
set_option maxRecDepth 100000 in
theorem c_X1_tellChain (l : Launch) (G : va_G) (cy : Nat → ClassId) (sz : Nat) (qt : Nat) (tA : TA) (qtw : Nat) (qtn : Nat) (qtg : Nat) (qta : Nat) (qtr : Nat) (qtm : Nat) (qtt : Nat) (qts : Nat)  (hB : T_nb tA ≤ 8) (hPp : T_np tA ≤ 8) : MW l yX1_tellChain cX1_tellChain 4 none 4 0 0 G cy [zzO qt 3 [.int (nI (T_nb tA)), .int (nI (T_np tA)), .int (wb (T_wh tA)), .int (wb (T_gn tA)), .int (T_sd tA), .ref qtw, .ref qtn, .ref qtg, .ref qta, .ref qtr, .ref qtm, .ref qtt, .ref qts], zzI cy qtw 8 (T_wo tA), zzI cy qtn 8 (T_ne tA), zzI cy qtg 8 (T_go tA), zzI cy qta 8 (T_ag tA), zzI cy qtr 8 (T_re tA), zzI cy qtm 8 (T_me tA), zzI cy qtt 8 (T_te tA), zzI cy qts 64 (shF (T_kn tA))] sz [.ref qt] (Wv G (fun u => u = [zzO qt 3 [.int (nI (T_nb (zch tA))), .int (nI (T_np (zch tA))), .int (wb (T_wh (zch tA))), .int (wb (T_gn (zch tA))), .int (T_sd (zch tA)), .ref qtw, .ref qtn, .ref qtg, .ref qta, .ref qtr, .ref qtm, .ref qtt, .ref qts], zzI cy qtw 8 (T_wo (zch tA)), zzI cy qtn 8 (T_ne (zch tA)), zzI cy qtg 8 (T_go (zch tA)), zzI cy qta 8 (T_ag (zch tA)), zzI cy qtr 8 (T_re (zch tA)), zzI cy qtm 8 (T_me (zch tA)), zzI cy qtt 8 (T_te (zch tA)), zzI cy qts 64 (shF (T_kn (zch tA)))])) := by
  refine enW RX1 (by decide +kernel) rfl (Nat.le_of_ble_eq_true rfl) (fun p e s m below meth c ls A hx hb hml hown hts hr hlocks hP hN hl hin hD hA hS => ?_)
  have hin : meth.name = _ := hin
  have hK := hN.1
  replace hl : lv_has ls 4 [(0, .ref qt)] := hl
  refine lv_iconst (v := 0) hx hb (g_3 bX1_tellChain rfl) (by decide +kernel) ?_
  refine lv_istore_n (lv' := [(1, .int 0), (0, .ref qt)]) hx hb (g_60 bX1_tellChain rfl) rfl hl (by decide +kernel) rfl (fun ls => ?_)
  clear hl
  intro hl
  have lp_1 : ∀ (n_2 : Nat) (j_4 : Nat) (tJ_5 : TA), 8 - j_4 < n_2 → j_4 ≤ T_np tA → tJ_5 = tcF tA j_4 → ∀ (H : Heap) (locs : List Loc) (ls : Array Slot), va_P G CL [zzO qt 3 [.int (nI (T_nb tJ_5)), .int (nI (T_np tJ_5)), .int (wb (T_wh tJ_5)), .int (wb (T_gn tJ_5)), .int (T_sd tJ_5), .ref qtw, .ref qtn, .ref qtg, .ref qta, .ref qtr, .ref qtm, .ref qtt, .ref qts], zzI cy qtw 8 (T_wo tJ_5), zzI cy qtn 8 (T_ne tJ_5), zzI cy qtg 8 (T_go tJ_5), zzI cy qta 8 (T_ag tJ_5), zzI cy qtr 8 (T_re tJ_5), zzI cy qtm 8 (T_me tJ_5), zzI cy qtt 8 (T_te tJ_5), zzI cy qts 64 (shF (T_kn tJ_5))] H → va_D A [zzO qt 3 [.int (nI (T_nb tJ_5)), .int (nI (T_np tJ_5)), .int (wb (T_wh tJ_5)), .int (wb (T_gn tJ_5)), .int (T_sd tJ_5), .ref qtw, .ref qtn, .ref qtg, .ref qta, .ref qtr, .ref qtm, .ref qtt, .ref qts], zzI cy qtw 8 (T_wo tJ_5), zzI cy qtn 8 (T_ne tJ_5), zzI cy qtg 8 (T_go tJ_5), zzI cy qta 8 (T_ag tJ_5), zzI cy qtr 8 (T_re tJ_5), zzI cy qtm 8 (T_me tJ_5), zzI cy qtt 8 (T_te tJ_5), zzI cy qts 64 (shF (T_kn tJ_5))] → va_S A s.heap H locs → lv_has ls 4 [(1, .int (nI j_4)), (0, .ref qt)] → W p l e (Rm 4 0 0) s m (List.toArray (α := Value) [.ref qt]) below meth c H locs 0 0 (MQ below ((Wv G (fun u => u = [zzO qt 3 [.int (nI (T_nb (zch tA))), .int (nI (T_np (zch tA))), .int (wb (T_wh (zch tA))), .int (wb (T_gn (zch tA))), .int (T_sd (zch tA)), .ref qtw, .ref qtn, .ref qtg, .ref qta, .ref qtr, .ref qtm, .ref qtt, .ref qts], zzI cy qtw 8 (T_wo (zch tA)), zzI cy qtn 8 (T_ne (zch tA)), zzI cy qtg 8 (T_go (zch tA)), zzI cy qta 8 (T_ag (zch tA)), zzI cy qtr 8 (T_re (zch tA)), zzI cy qtm 8 (T_me (zch tA)), zzI cy qtt 8 (T_te (zch tA)), zzI cy qts 64 (shF (T_kn (zch tA)))])) A) (List.toArray (α := Value) [.ref qt]) s 0 0 A) (F0 m 2 ls []) := by
    intro n_2
    induction n_2 with
    | zero => intro j_4 tJ_5 hm9; exact absurd hm9 (Nat.not_lt_zero _)
    | succ n_2 ih_3 =>
      intro j_4 tJ_5 hm_8 hj_6 htJ_7 H locs ls hP hD hS hl
      refine lv_iload_n hx hb (g_27 bX1_tellChain rfl) rfl (lv_at hl 0 rfl) ?_
      refine lv_aload_n hx hb (g_42 bX1_tellChain rfl) rfl (lv_at hl 1 rfl) ?_
      refine va_getN (D := G) (ci := 3) (v := .int (nI (T_np tJ_5))) (C := RX4) (T := TX4) (N := 13) hx hb hts iX_X4 hown hK hP 0 rfl rfl 1 (by decide +kernel) (va_Nw.use rfl (hN.2.1 (RX1, 40, "EachBookOnce$Town", "people", "I") (List.mem_of_getElem? (i := 4) rfl))) (fun _ h9 => h9) rfl (g_180 (v := 40) bX1_tellChain rfl) ?_
      refine lv_icmp_ge (tgt := 65) hx hb dX1_tellChain_7 (by decide +kernel) (fun c_9 => ?_) (fun c_9 => ?_)
      · have hlt_10e : T_np tJ_5 = T_np tA := by rw [htJ_7]; exact (tcF_nb _ _).2
        have hlt_10 : j_4 = T_np tA := Nat.le_antisymm (by omega) (by rw [hlt_10e] at c_9; exact lp_ge rfl rfl (by omega) (by omega) c_9)
        have e9_11 : tJ_5 = zch tA := by rw [htJ_7, hlt_10]; rfl
        subst e9_11
        exact endVs [[true, true, true, true, true, true, true, true, true]] hx hb hr hlocks hP hD rfl (by decide +kernel) hS rfl (g_177 bX1_tellChain rfl)
      · have hlt_12e : T_np tJ_5 = T_np tA := by rw [htJ_7]; exact (tcF_nb _ _).2
        have hlt_12 : j_4 < T_np tA := by rw [hlt_12e] at c_9; exact lp_lt rfl rfl (by omega) (by omega) c_9
        have hlt_12b : T_nb tJ_5 = T_nb tA := by rw [htJ_7]; exact (tcF_nb _ _).1
        refine lv_aload_n hx hb (g_42 bX1_tellChain rfl) rfl (lv_at hl 1 rfl) ?_
        refine va_getN (D := G) (ci := 3) (v := .int (wb (T_gn tJ_5))) (C := RX4) (T := TX4) (N := 13) hx hb hts iX_X4 hown hK hP 0 rfl rfl 3 (by decide +kernel) (va_Nw.use rfl (hN.2.1 (RX1, 44, "EachBookOnce$Town", "gone", "I") (List.mem_of_getElem? (i := 11) rfl))) (fun _ h9 => h9) rfl (g_180 (v := 44) bX1_tellChain rfl) ?_
        refine lv_iload_n hx hb (g_27 bX1_tellChain rfl) rfl (lv_at hl 0 rfl) ?_
        refine kRi (rSN (As := [.int (wb (T_gn tJ_5)), .int (nI j_4)]) (rest := []) ⟨hx, hb, hml, hown, hts⟩ hN (c_X5_has l G cy (wb (T_gn tJ_5)) j_4) L_X1_47 (preRS hN hP [] rfl) rfl ⟨Nat.le_of_ble_eq_true rfl, Nat.le_of_ble_eq_true rfl⟩ hl.1 (Nat.le_of_ble_eq_true rfl) (g_184 (v := 47) bX1_tellChain rfl) ⟨Nat.le_of_ble_eq_true rfl, Nat.le_of_ble_eq_true rfl⟩) (fun r_13 h_14 => ?_)
        rcases h_14 with ⟨rfl, h_15⟩ | ⟨rfl, h_15⟩
        · rw [bit_wb _ (by omega)] at h_15
          refine lv_if_eq (tgt := 25) hx hb dX1_tellChain_18 (by decide +kernel) (fun h9 => absurd h9 (by decide +kernel)) (fun _ => ?_)
          refine lv_iconst (v := (-1)) hx hb (g_2 bX1_tellChain rfl) (by decide +kernel) ?_
          refine lv_goto (tgt := 30) hx hb dX1_tellChain_22 (by decide +kernel) ?_
          refine lv_istore_n (lv' := [(2, .int (-1)), (1, .int (nI j_4)), (0, .ref qt)]) hx hb (g_61 bX1_tellChain rfl) rfl hl (by decide +kernel) rfl (fun ls => ?_)
          clear hl
          intro hl
          refine lv_iconst (v := 0) hx hb (g_3 bX1_tellChain rfl) (by decide +kernel) ?_
          refine lv_istore_n (lv' := [(3, .int 0), (2, .int (-1)), (1, .int (nI j_4)), (0, .ref qt)]) hx hb (g_62 bX1_tellChain rfl) rfl hl (by decide +kernel) rfl (fun ls => ?_)
          clear hl
          intro hl
          refine lv_iload_n hx hb (g_29 bX1_tellChain rfl) rfl (lv_at hl 0 rfl) ?_
          refine lv_aload_n hx hb (g_42 bX1_tellChain rfl) rfl (lv_at hl 3 rfl) ?_
          refine va_getN (D := G) (ci := 3) (v := .int (nI (T_nb tJ_5))) (C := RX4) (T := TX4) (N := 13) hx hb hts iX_X4 hown hK hP 0 rfl rfl 0 (by decide +kernel) (va_Nw.use rfl (hN.2.1 (RX1, 54, "EachBookOnce$Town", "books", "I") (List.mem_of_getElem? (i := 1) rfl))) (fun _ h9 => h9) rfl (g_180 (v := 54) bX1_tellChain rfl) ?_
          refine lv_icmp_ge (tgt := 59) hx hb dX1_tellChain_38 (by decide +kernel) (fun c_17 => ?_) (fun c_17 => ?_)
          · refine lv_iinc (v := nI (j_4 + 1)) (lv' := [(1, .int (nI (j_4 + 1))), (3, .int 0), (2, .int (-1)), (0, .ref qt)]) hx hb dX1_tellChain_59 hl (k := 2) rfl (nI_1 _) (by decide +kernel) rfl (fun ls => ?_)
            clear hl
            intro hl
            refine lv_goto (tgt := 2) hx hb dX1_tellChain_62 (by decide +kernel) ?_
            exact ih_3 (j_4 + 1) tJ_5 (by omega) (by omega) (by show _ = tcS _ _; rw [← htJ_7, tcS_g h_15]) _ _ _ hP hD hS (lv_sub hl [0, 3] rfl)
          · refine lv_iload_n hx hb (g_28 bX1_tellChain rfl) rfl (lv_at hl 1 rfl) ?_
            refine lv_iconst (v := (-1)) hx hb (g_2 bX1_tellChain rfl) (by decide +kernel) ?_
            refine lv_icmp_eq (tgt := 59) hx hb dX1_tellChain_43 (by decide +kernel) (fun _ => ?_) (fun h9 => absurd (by decide +kernel) h9)
            refine lv_iinc (v := nI (j_4 + 1)) (lv' := [(1, .int (nI (j_4 + 1))), (3, .int 0), (2, .int (-1)), (0, .ref qt)]) hx hb dX1_tellChain_59 hl (k := 2) rfl (nI_1 _) (by decide +kernel) rfl (fun ls => ?_)
            clear hl
            intro hl
            refine lv_goto (tgt := 2) hx hb dX1_tellChain_62 (by decide +kernel) ?_
            exact ih_3 (j_4 + 1) tJ_5 (by omega) (by omega) (by show _ = tcS _ _; rw [← htJ_7, tcS_g h_15]) _ _ _ hP hD hS (lv_sub hl [0, 3] rfl)
        · rw [bit_wb _ (by omega)] at h_15
          refine lv_if_eq (tgt := 25) hx hb dX1_tellChain_18 (by decide +kernel) (fun _ => ?_) (fun h9 => absurd (by decide +kernel) h9)
          refine lv_aload_n hx hb (g_42 bX1_tellChain rfl) rfl (lv_at hl 1 rfl) ?_
          refine lv_iload_n hx hb (g_27 bX1_tellChain rfl) rfl (lv_at hl 0 rfl) ?_
          refine kRi (rV (As := [.int (nI j_4)]) (rest := []) (b := qt) ⟨hx, hb, hml, hown, hts⟩ (c_X4_youngestBut l G cy qt tJ_5 qtw qtn qtg qta qtr qtm qtt qts (nI j_4) (by omega)) L_X1_51 (preRV (q := (RX4, TX4, 13)) hN hP (trueIx 0 [true, true, true, true, true, true, true, true, true]) (sel_fm rfl rfl) 0 3 rfl rfl) rfl ⟨Nat.le_of_ble_eq_true rfl, Nat.le_of_ble_eq_true rfl⟩ hl.1 (Nat.le_of_ble_eq_true rfl) (g_182 (v := 51) bX1_tellChain rfl) ⟨Nat.le_of_ble_eq_true rfl, Nat.le_of_ble_eq_true rfl⟩) (fun r_20 h_21 => ?_)
          subst h_21
          refine lv_istore_n (lv' := [(2, .int (zyb tJ_5 (nI j_4))), (1, .int (nI j_4)), (0, .ref qt)]) hx hb (g_61 bX1_tellChain rfl) rfl hl (by decide +kernel) rfl (fun ls => ?_)
          clear hl
          intro hl
          refine lv_iconst (v := 0) hx hb (g_3 bX1_tellChain rfl) (by decide +kernel) ?_
          refine lv_istore_n (lv' := [(3, .int 0), (2, .int (zyb tJ_5 (nI j_4))), (1, .int (nI j_4)), (0, .ref qt)]) hx hb (g_62 bX1_tellChain rfl) rfl hl (by decide +kernel) rfl (fun ls => ?_)
          clear hl
          intro hl
          rcases yb_in tJ_5 (nI j_4) (T_np tJ_5) with ek_25 | ⟨k_23, hk_24, ek_25⟩
          · have ek_25 : zyb tJ_5 (nI j_4) = -1 := ek_25
            rw [ek_25] at hl
            refine lv_iload_n hx hb (g_29 bX1_tellChain rfl) rfl (lv_at hl 0 rfl) ?_
            refine lv_aload_n hx hb (g_42 bX1_tellChain rfl) rfl (lv_at hl 3 rfl) ?_
            refine va_getN (D := G) (ci := 3) (v := .int (nI (T_nb tJ_5))) (C := RX4) (T := TX4) (N := 13) hx hb hts iX_X4 hown hK hP 0 rfl rfl 0 (by decide +kernel) (va_Nw.use rfl (hN.2.1 (RX1, 54, "EachBookOnce$Town", "books", "I") (List.mem_of_getElem? (i := 1) rfl))) (fun _ h9 => h9) rfl (g_180 (v := 54) bX1_tellChain rfl) ?_
            refine lv_icmp_ge (tgt := 59) hx hb dX1_tellChain_38 (by decide +kernel) (fun c_26 => ?_) (fun c_26 => ?_)
            · refine lv_iinc (v := nI (j_4 + 1)) (lv' := [(1, .int (nI (j_4 + 1))), (3, .int 0), (2, .int (-1)), (0, .ref qt)]) hx hb dX1_tellChain_59 hl (k := 2) rfl (nI_1 _) (by decide +kernel) rfl (fun ls => ?_)
              clear hl
              intro hl
              refine lv_goto (tgt := 2) hx hb dX1_tellChain_62 (by decide +kernel) ?_
              exact ih_3 (j_4 + 1) tJ_5 (by omega) (by omega) (by show _ = tcS _ _; rw [← htJ_7, tcS_n h_15 ek_25]) _ _ _ hP hD hS (lv_sub hl [0, 3] rfl)
            · refine lv_iload_n hx hb (g_28 bX1_tellChain rfl) rfl (lv_at hl 1 rfl) ?_
              refine lv_iconst (v := (-1)) hx hb (g_2 bX1_tellChain rfl) (by decide +kernel) ?_
              refine lv_icmp_eq (tgt := 59) hx hb dX1_tellChain_43 (by decide +kernel) (fun _ => ?_) (fun h9 => absurd (by decide +kernel) h9)
              refine lv_iinc (v := nI (j_4 + 1)) (lv' := [(1, .int (nI (j_4 + 1))), (3, .int 0), (2, .int (-1)), (0, .ref qt)]) hx hb dX1_tellChain_59 hl (k := 2) rfl (nI_1 _) (by decide +kernel) rfl (fun ls => ?_)
              clear hl
              intro hl
              refine lv_goto (tgt := 2) hx hb dX1_tellChain_62 (by decide +kernel) ?_
              exact ih_3 (j_4 + 1) tJ_5 (by omega) (by omega) (by show _ = tcS _ _; rw [← htJ_7, tcS_n h_15 ek_25]) _ _ _ hP hD hS (lv_sub hl [0, 3] rfl)
          · have ek_25 : zyb tJ_5 (nI j_4) = nI k_23 := ek_25
            rw [ek_25] at hl
            have hq_22 : T_np tJ_5 = T_np tA := by rw [htJ_7]; exact (tcF_nb _ _).2
            have lp_28 : ∀ (n_29 : Nat) (j_31 : Nat) (tJ_32 : TA), 8 - j_31 < n_29 → j_31 ≤ T_nb tJ_5 → tJ_32 = tcI tJ_5 j_4 k_23 j_31 → ∀ (H : Heap) (locs : List Loc) (ls : Array Slot), va_P G CL [zzO qt 3 [.int (nI (T_nb tJ_32)), .int (nI (T_np tJ_32)), .int (wb (T_wh tJ_32)), .int (wb (T_gn tJ_32)), .int (T_sd tJ_32), .ref qtw, .ref qtn, .ref qtg, .ref qta, .ref qtr, .ref qtm, .ref qtt, .ref qts], zzI cy qtw 8 (T_wo tJ_32), zzI cy qtn 8 (T_ne tJ_32), zzI cy qtg 8 (T_go tJ_32), zzI cy qta 8 (T_ag tJ_32), zzI cy qtr 8 (T_re tJ_32), zzI cy qtm 8 (T_me tJ_32), zzI cy qtt 8 (T_te tJ_32), zzI cy qts 64 (shF (T_kn tJ_32))] H → va_D A [zzO qt 3 [.int (nI (T_nb tJ_32)), .int (nI (T_np tJ_32)), .int (wb (T_wh tJ_32)), .int (wb (T_gn tJ_32)), .int (T_sd tJ_32), .ref qtw, .ref qtn, .ref qtg, .ref qta, .ref qtr, .ref qtm, .ref qtt, .ref qts], zzI cy qtw 8 (T_wo tJ_32), zzI cy qtn 8 (T_ne tJ_32), zzI cy qtg 8 (T_go tJ_32), zzI cy qta 8 (T_ag tJ_32), zzI cy qtr 8 (T_re tJ_32), zzI cy qtm 8 (T_me tJ_32), zzI cy qtt 8 (T_te tJ_32), zzI cy qts 64 (shF (T_kn tJ_32))] → va_S A s.heap H locs → lv_has ls 4 [(3, .int (nI j_31)), (2, .int (nI k_23)), (1, .int (nI j_4)), (0, .ref qt)] → W p l e (Rm 4 0 0) s m (List.toArray (α := Value) [.ref qt]) below meth c H locs 0 0 (MQ below ((Wv G (fun u => u = [zzO qt 3 [.int (nI (T_nb (zch tA))), .int (nI (T_np (zch tA))), .int (wb (T_wh (zch tA))), .int (wb (T_gn (zch tA))), .int (T_sd (zch tA)), .ref qtw, .ref qtn, .ref qtg, .ref qta, .ref qtr, .ref qtm, .ref qtt, .ref qts], zzI cy qtw 8 (T_wo (zch tA)), zzI cy qtn 8 (T_ne (zch tA)), zzI cy qtg 8 (T_go (zch tA)), zzI cy qta 8 (T_ag (zch tA)), zzI cy qtr 8 (T_re (zch tA)), zzI cy qtm 8 (T_me (zch tA)), zzI cy qtt 8 (T_te (zch tA)), zzI cy qts 64 (shF (T_kn (zch tA)))])) A) (List.toArray (α := Value) [.ref qt]) s 0 0 A) (F0 m 33 ls []) := by
              intro n_29
              induction n_29 with
              | zero => intro j_31 tJ_32 hm9; exact absurd hm9 (Nat.not_lt_zero _)
              | succ n_29 ih_30 =>
                intro j_31 tJ_32 hm_35 hj_33 htJ_34 H locs ls hP hD hS hl
                refine lv_iload_n hx hb (g_29 bX1_tellChain rfl) rfl (lv_at hl 0 rfl) ?_
                refine lv_aload_n hx hb (g_42 bX1_tellChain rfl) rfl (lv_at hl 3 rfl) ?_
                refine va_getN (D := G) (ci := 3) (v := .int (nI (T_nb tJ_32))) (C := RX4) (T := TX4) (N := 13) hx hb hts iX_X4 hown hK hP 0 rfl rfl 0 (by decide +kernel) (va_Nw.use rfl (hN.2.1 (RX1, 54, "EachBookOnce$Town", "books", "I") (List.mem_of_getElem? (i := 1) rfl))) (fun _ h9 => h9) rfl (g_180 (v := 54) bX1_tellChain rfl) ?_
                refine lv_icmp_ge (tgt := 59) hx hb dX1_tellChain_38 (by decide +kernel) (fun c_36 => ?_) (fun c_36 => ?_)
                · have hlt_37e : T_nb tJ_32 = T_nb tJ_5 := by rw [htJ_34]; exact (tcI_nb _ _ _ _).1
                  have hlt_37 : j_31 = T_nb tJ_5 := Nat.le_antisymm (by omega) (by rw [hlt_37e] at c_36; exact lp_ge rfl rfl (by omega) (by omega) c_36)
                  refine lv_iinc (v := nI (j_4 + 1)) (lv' := [(1, .int (nI (j_4 + 1))), (3, .int (nI j_31)), (2, .int (nI k_23)), (0, .ref qt)]) hx hb dX1_tellChain_59 hl (k := 2) rfl (nI_1 _) (by decide +kernel) rfl (fun ls => ?_)
                  clear hl
                  intro hl
                  refine lv_goto (tgt := 2) hx hb dX1_tellChain_62 (by decide +kernel) ?_
                  exact ih_3 (j_4 + 1) tJ_32 (by omega) (by omega) (by show _ = tcS _ _; rw [← htJ_7, tcS_y h_15 ek_25 (by omega), htJ_34, hlt_37]) _ _ _ hP hD hS (lv_sub hl [0, 3] rfl)
                · have hlt_38e : T_nb tJ_32 = T_nb tJ_5 := by rw [htJ_34]; exact (tcI_nb _ _ _ _).1
                  have hlt_38 : j_31 < T_nb tJ_5 := by rw [hlt_38e] at c_36; exact lp_lt rfl rfl (by omega) (by omega) c_36
                  refine lv_iload_n hx hb (g_28 bX1_tellChain rfl) rfl (lv_at hl 1 rfl) ?_
                  refine lv_iconst (v := (-1)) hx hb (g_2 bX1_tellChain rfl) (by decide +kernel) ?_
                  refine lv_icmp_eq (tgt := 59) hx hb dX1_tellChain_43 (by decide +kernel) (fun c_39 => ?_) (fun c_39 => ?_)
                  · exact absurd c_39 (nI_ne1 (by omega))
                  · refine lv_aload_n hx hb (g_42 bX1_tellChain rfl) rfl (lv_at hl 3 rfl) ?_
                    refine lv_iload_n hx hb (g_27 bX1_tellChain rfl) rfl (lv_at hl 2 rfl) ?_
                    refine lv_iload_n hx hb (g_28 bX1_tellChain rfl) rfl (lv_at hl 1 rfl) ?_
                    refine lv_iload_n hx hb (g_29 bX1_tellChain rfl) rfl (lv_at hl 0 rfl) ?_
                    refine cVv (As := [.int (nI j_4), .int (nI k_23), .int (nI j_31)]) (rest := []) (b := qt) (q := (RX4, TX4, 13)) ⟨hx, hb, hml, hown, hts⟩ (c_X4_tellTo l G cy (H).size qt tJ_32 qtw qtn qtg qta qtr qtm qtt qts j_4 k_23 j_31 (by omega) (by omega) (by omega)) L_X1_57 hN hP hD hS hA (trueIx 0 [true, false, false, false, false, false, false, true, true]) [false, true, true, true, true, true, true, false, false] (sel_eq rfl rfl) (by decide +kernel) rfl 0 3 rfl rfl rfl ⟨Nat.le_of_ble_eq_true rfl, Nat.le_of_ble_eq_true rfl⟩ hl.1 (Nat.le_of_ble_eq_true rfl) (g_182 (v := 57) bX1_tellChain rfl) ⟨Nat.le_of_ble_eq_true rfl, Nat.le_of_ble_eq_true rfl⟩ (fun u_42 H locs h_41 => ?_)
                    clear hP hD hS
                    intro hP hD hS
                    have hPD := pd_eq [zzI cy qtw 8 (T_wo (T_setkn tJ_32 (updM (T_kn tJ_32) k_23 j_31 (T_kn tJ_32 k_23 j_31 + zgt tJ_32 j_4 k_23 j_31)))), zzI cy qtn 8 (T_ne (T_setkn tJ_32 (updM (T_kn tJ_32) k_23 j_31 (T_kn tJ_32 k_23 j_31 + zgt tJ_32 j_4 k_23 j_31)))), zzI cy qtg 8 (T_go (T_setkn tJ_32 (updM (T_kn tJ_32) k_23 j_31 (T_kn tJ_32 k_23 j_31 + zgt tJ_32 j_4 k_23 j_31)))), zzI cy qta 8 (T_ag (T_setkn tJ_32 (updM (T_kn tJ_32) k_23 j_31 (T_kn tJ_32 k_23 j_31 + zgt tJ_32 j_4 k_23 j_31)))), zzI cy qtr 8 (T_re (T_setkn tJ_32 (updM (T_kn tJ_32) k_23 j_31 (T_kn tJ_32 k_23 j_31 + zgt tJ_32 j_4 k_23 j_31)))), zzI cy qtm 8 (T_me (T_setkn tJ_32 (updM (T_kn tJ_32) k_23 j_31 (T_kn tJ_32 k_23 j_31 + zgt tJ_32 j_4 k_23 j_31)))), zzO qt 3 [.int (nI (T_nb (T_setkn tJ_32 (updM (T_kn tJ_32) k_23 j_31 (T_kn tJ_32 k_23 j_31 + zgt tJ_32 j_4 k_23 j_31))))), .int (nI (T_np (T_setkn tJ_32 (updM (T_kn tJ_32) k_23 j_31 (T_kn tJ_32 k_23 j_31 + zgt tJ_32 j_4 k_23 j_31))))), .int (wb (T_wh (T_setkn tJ_32 (updM (T_kn tJ_32) k_23 j_31 (T_kn tJ_32 k_23 j_31 + zgt tJ_32 j_4 k_23 j_31))))), .int (wb (T_gn (T_setkn tJ_32 (updM (T_kn tJ_32) k_23 j_31 (T_kn tJ_32 k_23 j_31 + zgt tJ_32 j_4 k_23 j_31))))), .int (T_sd (T_setkn tJ_32 (updM (T_kn tJ_32) k_23 j_31 (T_kn tJ_32 k_23 j_31 + zgt tJ_32 j_4 k_23 j_31)))), .ref qtw, .ref qtn, .ref qtg, .ref qta, .ref qtr, .ref qtm, .ref qtt, .ref qts], zzI cy qtt 8 (T_te (T_setkn tJ_32 (updM (T_kn tJ_32) k_23 j_31 (T_kn tJ_32 k_23 j_31 + zgt tJ_32 j_4 k_23 j_31)))), zzI cy qts 64 (shF (T_kn (T_setkn tJ_32 (updM (T_kn tJ_32) k_23 j_31 (T_kn tJ_32 k_23 j_31 + zgt tJ_32 j_4 k_23 j_31)))))] hP hD h_41 rfl
                    clear hP hD h_41
                    obtain ⟨hP, hD⟩ := hPD
                    refine lv_iinc (v := nI (j_31 + 1)) (lv' := [(3, .int (nI (j_31 + 1))), (2, .int (nI k_23)), (1, .int (nI j_4)), (0, .ref qt)]) hx hb dX1_tellChain_53 hl (k := 0) rfl (nI_1 _) (by decide +kernel) rfl (fun ls => ?_)
                    clear hl
                    intro hl
                    refine lv_goto (tgt := 33) hx hb dX1_tellChain_56 (by decide +kernel) ?_
                    exact ih_30 (j_31 + 1) (T_setkn tJ_32 (updM (T_kn tJ_32) k_23 j_31 (T_kn tJ_32 k_23 j_31 + zgt tJ_32 j_4 k_23 j_31))) (by omega) (by omega) (by rw [htJ_34]; rfl) _ _ _ (pSb hP [[false, false, false, false, false, false, true], [true, true, true, true, true, true, false, true, true]] rfl rfl) (dSb hD [[false, false, false, false, false, false, true], [true, true, true, true, true, true, false, true, true]] (by decide +kernel) rfl rfl) hS (lv_sub hl [0, 1, 2, 3] rfl)
            exact lp_28 ((8 - 0) + 1) 0 tJ_5 (Nat.lt_succ_self _) (Nat.zero_le _) rfl _ _ ls hP hD hS (lv_sub hl [0, 1, 2, 3] rfl)
  exact lp_1 ((8 - 0) + 1) 0 tA (Nat.lt_succ_self _) (Nat.zero_le _) rfl _ _ ls hP hD hS (lv_sub hl [0, 1] rfl)
end
section
theorem sw_1_6 (x : Int32) : x = 1 ∨ x = 2 ∨ x = 3 ∨ x = 4 ∨ x = 5 ∨ x = 6 ∨ (x.toInt < 1 ∨ 6 < x.toInt) := by
  rcases (show x.toInt = 1 ∨ x.toInt = 2 ∨ x.toInt = 3 ∨ x.toInt = 4 ∨ x.toInt = 5 ∨ x.toInt = 6 ∨ (x.toInt < 1 ∨ 6 < x.toInt) by omega) with e | e | e | e | e | e | e
  · exact Or.inl (eqI (by decide +kernel) e)
  · exact Or.inr (Or.inl (eqI (by decide +kernel) e))
  · exact Or.inr (Or.inr (Or.inl (eqI (by decide +kernel) e)))
  · exact Or.inr (Or.inr (Or.inr (Or.inl (eqI (by decide +kernel) e))))
  · exact Or.inr (Or.inr (Or.inr (Or.inr (Or.inl (eqI (by decide +kernel) e)))))
  · exact Or.inr (Or.inr (Or.inr (Or.inr (Or.inr (Or.inl (eqI (by decide +kernel) e))))))
  · exact Or.inr (Or.inr (Or.inr (Or.inr (Or.inr (Or.inr e)))))
theorem act_1 (t : TA) (a : Int32) : zact t 1 a = zrd t 8 0 := if_pos rfl
theorem act_2 (t : TA) (a : Int32) : zact t 2 a = zrd t a 0 := (if_neg (by decide +kernel)).trans (if_pos rfl)
theorem act_3 (t : TA) (a : Int32) : zact t 3 a = zrd t 8 1 := (if_neg (by decide +kernel)).trans ((if_neg (by decide +kernel)).trans (if_pos rfl))
theorem act_4 (t : TA) (a : Int32) : zact t 4 a = (zch t, 0) := (if_neg (by decide +kernel)).trans ((if_neg (by decide +kernel)).trans ((if_neg (by decide +kernel)).trans (if_pos rfl)))
theorem act_5 (t : TA) (a : Int32) : zact t 5 a = (zch (zch t), 0) := (if_neg (by decide +kernel)).trans ((if_neg (by decide +kernel)).trans ((if_neg (by decide +kernel)).trans ((if_neg (by decide +kernel)).trans (if_pos rfl))))
theorem act_6 (t : TA) (a : Int32) : zact t 6 a = zrd (zch t) 1 0 := (if_neg (by decide +kernel)).trans ((if_neg (by decide +kernel)).trans ((if_neg (by decide +kernel)).trans ((if_neg (by decide +kernel)).trans ((if_neg (by decide +kernel)).trans (if_pos rfl)))))
theorem act_no {x : Int32} (h : x.toInt < 1 ∨ 6 < x.toInt) (t : TA) (a : Int32) : zact t x a = (t, 0) := by
  have n : ∀ k : Int32, 1 ≤ k.toInt → k.toInt ≤ 6 → ¬ x = k := fun k h1 h2 e => by subst e; omega
  exact (if_neg (n 1 (by decide +kernel) (by decide +kernel))).trans ((if_neg (n 2 (by decide +kernel) (by decide +kernel))).trans ((if_neg (n 3 (by decide +kernel) (by decide +kernel))).trans ((if_neg (n 4 (by decide +kernel) (by decide +kernel))).trans ((if_neg (n 5 (by decide +kernel) (by decide +kernel))).trans (if_neg (n 6 (by decide +kernel) (by decide +kernel)))))))
theorem nb_rd (t : TA) (p b : Nat) : T_nb (rdT t p b) = T_nb t := (rdT_nb t p b).1
theorem np_rd (t : TA) (p b : Nat) : T_np (rdT t p b) = T_np t := (rdT_nb t p b).2
theorem nb_ch (t : TA) : T_nb (zch t) = T_nb t := (zch_nb t).1
theorem np_ch (t : TA) : T_np (zch t) = T_np t := (zch_nb t).2
theorem nb_zr (t : TA) (m l : Int32) : T_nb ((zrd t m l).1) = T_nb t := (zrd_nb t m l).1
theorem np_zr (t : TA) (m l : Int32) : T_np ((zrd t m l).1) = T_np t := (zrd_nb t m l).2
theorem nb_za (t : TA) (k a : Int32) : T_nb ((zact t k a).1) = T_nb t := (zact_nb t k a).1
theorem np_za (t : TA) (k a : Int32) : T_np ((zact t k a).1) = T_np t := (zact_nb t k a).2
theorem nb_ey (t : TA) : T_nb (zey t) = T_nb t := (zey_nb t).1
theorem np_ey (t : TA) : T_np (zey t) = T_np t := (zey_nb t).2
theorem nb_hf (t : TA) (p b : Nat) (o : Int32) : T_nb ((zhf t p b o).1) = T_nb t := (zhf_nb t p b o).1
theorem np_hf (t : TA) (p b : Nat) (o : Int32) : T_np ((zhf t p b o).1) = T_np t := (zhf_nb t p b o).2
theorem nb_dd (t : TA) : T_nb (zdd t) = T_nb t := (dd_nb t _).1
theorem np_dd (t : TA) : T_np (zdd t) = T_np t := (dd_nb t _).2
theorem nb_so (n : Nat) (t : TA) (s : Int32) : T_nb ((soG n t s).1) = T_nb t := (soG_nb n t s).1
theorem np_so (n : Nat) (t : TA) (s : Int32) : T_np ((soG n t s).1) = T_np t := (soG_nb n t s).2
theorem nb_skn (t : TA) (x : Nat → Nat → Int32) : T_nb (T_setkn t x) = T_nb t := ((⟨rfl, rfl⟩ : T_nb (T_setkn t x) = T_nb t ∧ T_np (T_setkn t x) = T_np t)).1
theorem np_skn (t : TA) (x : Nat → Nat → Int32) : T_np (T_setkn t x) = T_np t := ((⟨rfl, rfl⟩ : T_nb (T_setkn t x) = T_nb t ∧ T_np (T_setkn t x) = T_np t)).2
theorem nb_swh (t : TA) (x : Nat → Bool) : T_nb (T_setwh t x) = T_nb t := ((⟨rfl, rfl⟩ : T_nb (T_setwh t x) = T_nb t ∧ T_np (T_setwh t x) = T_np t)).1
theorem np_swh (t : TA) (x : Nat → Bool) : T_np (T_setwh t x) = T_np t := ((⟨rfl, rfl⟩ : T_nb (T_setwh t x) = T_nb t ∧ T_np (T_setwh t x) = T_np t)).2
theorem nb_sgn (t : TA) (x : Nat → Bool) : T_nb (T_setgn t x) = T_nb t := ((⟨rfl, rfl⟩ : T_nb (T_setgn t x) = T_nb t ∧ T_np (T_setgn t x) = T_np t)).1
theorem np_sgn (t : TA) (x : Nat → Bool) : T_np (T_setgn t x) = T_np t := ((⟨rfl, rfl⟩ : T_nb (T_setgn t x) = T_nb t ∧ T_np (T_setgn t x) = T_np t)).2
theorem nb_ssd (t : TA) (x : Int32) : T_nb (T_setsd t x) = T_nb t := ((⟨rfl, rfl⟩ : T_nb (T_setsd t x) = T_nb t ∧ T_np (T_setsd t x) = T_np t)).1
theorem np_ssd (t : TA) (x : Int32) : T_np (T_setsd t x) = T_np t := ((⟨rfl, rfl⟩ : T_nb (T_setsd t x) = T_nb t ∧ T_np (T_setsd t x) = T_np t)).2
theorem nb_sgo (t : TA) (x : Nat → Int32) : T_nb (T_setgo t x) = T_nb t := ((⟨rfl, rfl⟩ : T_nb (T_setgo t x) = T_nb t ∧ T_np (T_setgo t x) = T_np t)).1
theorem np_sgo (t : TA) (x : Nat → Int32) : T_np (T_setgo t x) = T_np t := ((⟨rfl, rfl⟩ : T_nb (T_setgo t x) = T_nb t ∧ T_np (T_setgo t x) = T_np t)).2
theorem nb_sag (t : TA) (x : Nat → Int32) : T_nb (T_setag t x) = T_nb t := ((⟨rfl, rfl⟩ : T_nb (T_setag t x) = T_nb t ∧ T_np (T_setag t x) = T_np t)).1
theorem np_sag (t : TA) (x : Nat → Int32) : T_np (T_setag t x) = T_np t := ((⟨rfl, rfl⟩ : T_nb (T_setag t x) = T_nb t ∧ T_np (T_setag t x) = T_np t)).2
end
section
set_option maxHeartbeats 4000000 in
set_option maxRecDepth 100000 in
theorem c_X1_readDearest (l : Launch) (G : va_G) (cy : Nat → ClassId) (sz : Nat) (qt : Nat) (tA : TA) (qtw : Nat) (qtn : Nat) (qtg : Nat) (qta : Nat) (qtr : Nat) (qtm : Nat) (qtt : Nat) (qts : Nat) (iM : Int32) (iL : Int32)  (hB : T_nb tA ≤ 8) (hPp : T_np tA ≤ 8) : MW l yX1_readDearest cX1_readDearest 7 (some .int) 4 0 0 G cy [zzO qt 3 [.int (nI (T_nb tA)), .int (nI (T_np tA)), .int (wb (T_wh tA)), .int (wb (T_gn tA)), .int (T_sd tA), .ref qtw, .ref qtn, .ref qtg, .ref qta, .ref qtr, .ref qtm, .ref qtt, .ref qts], zzI cy qtw 8 (T_wo tA), zzI cy qtn 8 (T_ne tA), zzI cy qtg 8 (T_go tA), zzI cy qta 8 (T_ag tA), zzI cy qtr 8 (T_re tA), zzI cy qtm 8 (T_me tA), zzI cy qtt 8 (T_te tA), zzI cy qts 64 (shF (T_kn tA))] sz [.ref qt, .int iM, .int iL] (Wi G (fun r u => u = [zzO qt 3 [.int (nI (T_nb ((zrd tA iM iL).1))), .int (nI (T_np ((zrd tA iM iL).1))), .int (wb (T_wh ((zrd tA iM iL).1))), .int (wb (T_gn ((zrd tA iM iL).1))), .int (T_sd ((zrd tA iM iL).1)), .ref qtw, .ref qtn, .ref qtg, .ref qta, .ref qtr, .ref qtm, .ref qtt, .ref qts], zzI cy qtw 8 (T_wo ((zrd tA iM iL).1)), zzI cy qtn 8 (T_ne ((zrd tA iM iL).1)), zzI cy qtg 8 (T_go ((zrd tA iM iL).1)), zzI cy qta 8 (T_ag ((zrd tA iM iL).1)), zzI cy qtr 8 (T_re ((zrd tA iM iL).1)), zzI cy qtm 8 (T_me ((zrd tA iM iL).1)), zzI cy qtt 8 (T_te ((zrd tA iM iL).1)), zzI cy qts 64 (shF (T_kn ((zrd tA iM iL).1)))] ∧ ((r = ((zrd tA iM iL).2))))) := by
  refine enW RX1 (by decide +kernel) rfl (Nat.le_of_ble_eq_true rfl) (fun p e s m below meth c ls A hx hb hml hown hts hr hlocks hP hN hl hin hD hA hS => ?_)
  have hin : meth.name = _ := hin
  have hK := hN.1
  replace hl : lv_has ls 7 [(0, .ref qt), (1, .int iM), (2, .int iL)] := hl
  refine lv_iconst (v := 0) hx hb (g_3 bX1_readDearest rfl) (by decide +kernel) ?_
  refine lv_istore_n (lv' := [(3, .int 0), (0, .ref qt), (1, .int iM), (2, .int iL)]) hx hb (g_62 bX1_readDearest rfl) rfl hl (by decide +kernel) rfl (fun ls => ?_)
  clear hl
  intro hl
  refine lv_iconst (v := 0) hx hb (g_3 bX1_readDearest rfl) (by decide +kernel) ?_
  refine lv_istore (lv' := [(4, .int 0), (3, .int 0), (0, .ref qt), (1, .int iM), (2, .int iL)]) hx hb (g_54 (v := 4) bX1_readDearest rfl) hl (by decide +kernel) rfl (fun ls => ?_)
  clear hl
  intro hl
  have lp_1 : ∀ (n_2 : Nat) (j_4 : Nat) (tJ_5 : TA) (xC_6 : Int32), 8 - j_4 < n_2 → j_4 ≤ 8 → rdG iL iM (8 - j_4) j_4 tJ_5 xC_6 = zrd tA iM iL → T_nb tJ_5 = T_nb tA ∧ T_np tJ_5 = T_np tA → ∀ (H : Heap) (locs : List Loc) (ls : Array Slot), va_P G CL [zzO qt 3 [.int (nI (T_nb tJ_5)), .int (nI (T_np tJ_5)), .int (wb (T_wh tJ_5)), .int (wb (T_gn tJ_5)), .int (T_sd tJ_5), .ref qtw, .ref qtn, .ref qtg, .ref qta, .ref qtr, .ref qtm, .ref qtt, .ref qts], zzI cy qtw 8 (T_wo tJ_5), zzI cy qtn 8 (T_ne tJ_5), zzI cy qtg 8 (T_go tJ_5), zzI cy qta 8 (T_ag tJ_5), zzI cy qtr 8 (T_re tJ_5), zzI cy qtm 8 (T_me tJ_5), zzI cy qtt 8 (T_te tJ_5), zzI cy qts 64 (shF (T_kn tJ_5))] H → va_D A [zzO qt 3 [.int (nI (T_nb tJ_5)), .int (nI (T_np tJ_5)), .int (wb (T_wh tJ_5)), .int (wb (T_gn tJ_5)), .int (T_sd tJ_5), .ref qtw, .ref qtn, .ref qtg, .ref qta, .ref qtr, .ref qtm, .ref qtt, .ref qts], zzI cy qtw 8 (T_wo tJ_5), zzI cy qtn 8 (T_ne tJ_5), zzI cy qtg 8 (T_go tJ_5), zzI cy qta 8 (T_ag tJ_5), zzI cy qtr 8 (T_re tJ_5), zzI cy qtm 8 (T_me tJ_5), zzI cy qtt 8 (T_te tJ_5), zzI cy qts 64 (shF (T_kn tJ_5))] → va_S A s.heap H locs → lv_has ls 7 [(4, .int (nI j_4)), (3, .int xC_6), (0, .ref qt), (1, .int iM), (2, .int iL)] → W p l e (Rm 4 0 0) s m (List.toArray (α := Value) [.ref qt, .int iM, .int iL]) below meth c H locs 0 0 (MQ below ((Wi G (fun r u => u = [zzO qt 3 [.int (nI (T_nb ((zrd tA iM iL).1))), .int (nI (T_np ((zrd tA iM iL).1))), .int (wb (T_wh ((zrd tA iM iL).1))), .int (wb (T_gn ((zrd tA iM iL).1))), .int (T_sd ((zrd tA iM iL).1)), .ref qtw, .ref qtn, .ref qtg, .ref qta, .ref qtr, .ref qtm, .ref qtt, .ref qts], zzI cy qtw 8 (T_wo ((zrd tA iM iL).1)), zzI cy qtn 8 (T_ne ((zrd tA iM iL).1)), zzI cy qtg 8 (T_go ((zrd tA iM iL).1)), zzI cy qta 8 (T_ag ((zrd tA iM iL).1)), zzI cy qtr 8 (T_re ((zrd tA iM iL).1)), zzI cy qtm 8 (T_me ((zrd tA iM iL).1)), zzI cy qtt 8 (T_te ((zrd tA iM iL).1)), zzI cy qts 64 (shF (T_kn ((zrd tA iM iL).1)))] ∧ ((r = ((zrd tA iM iL).2))))) A) (List.toArray (α := Value) [.ref qt, .int iM, .int iL]) s 0 0 A) (F0 m 5 ls []) := by
    intro n_2
    induction n_2 with
    | zero => intro j_4 tJ_5 xC_6 hm9; exact absurd hm9 (Nat.not_lt_zero _)
    | succ n_2 ih_3 =>
      intro j_4 tJ_5 xC_6 hm_10 hj_7 hT_8 hn_9 H locs ls hP hD hS hl
      refine lv_iload hx hb (g_21 (v := 4) bX1_readDearest rfl) (lv_at hl 0 rfl) ?_
      refine lv_bipush (v := 8) hx hb dX1_readDearest_7 (by decide +kernel) ?_
      refine lv_icmp_ge (tgt := 85) hx hb dX1_readDearest_9 (by decide +kernel) (fun c_11 => ?_) (fun c_11 => ?_)
      · have hlt_12 : j_4 = 8 := Nat.le_antisymm (by omega) (lp_ge rfl (rfl : (8 : Int32) = nI 8) (by omega) (by omega) c_11)
        have hlt_12r : rdG iL iM (8 - j_4) j_4 tJ_5 xC_6 = (tJ_5, xC_6) := by rw [hlt_12]; rfl
        have e8_13 : xC_6 = (zrd tA iM iL).2 := by rw [← hT_8, hlt_12r]
        have e9_14 : tJ_5 = (zrd tA iM iL).1 := by rw [← hT_8, hlt_12r]
        subst e9_14
        refine lv_iload_n hx hb (g_29 bX1_readDearest rfl) rfl (lv_at hl 1 rfl) ?_
        exact endW (u := [zzO qt 3 [.int (nI (T_nb ((zrd tA iM iL).1))), .int (nI (T_np ((zrd tA iM iL).1))), .int (wb (T_wh ((zrd tA iM iL).1))), .int (wb (T_gn ((zrd tA iM iL).1))), .int (T_sd ((zrd tA iM iL).1)), .ref qtw, .ref qtn, .ref qtg, .ref qta, .ref qtr, .ref qtm, .ref qtt, .ref qts], zzI cy qtw 8 (T_wo ((zrd tA iM iL).1)), zzI cy qtn 8 (T_ne ((zrd tA iM iL).1)), zzI cy qtg 8 (T_go ((zrd tA iM iL).1)), zzI cy qta 8 (T_ag ((zrd tA iM iL).1)), zzI cy qtr 8 (T_re ((zrd tA iM iL).1)), zzI cy qtm 8 (T_me ((zrd tA iM iL).1)), zzI cy qtt 8 (T_te ((zrd tA iM iL).1)), zzI cy qts 64 (shF (T_kn ((zrd tA iM iL).1)))]) hx hb hr hlocks rfl (pSb hP [[true, true, true, true, true, true, true, true, true]] rfl rfl) (dSb hD [[true, true, true, true, true, true, true, true, true]] (by decide +kernel) rfl rfl) hS ⟨rfl, (by exact e8_13)⟩ (g_172 bX1_readDearest rfl)
      · have hlt_15 : j_4 < 8 := lp_lt rfl (rfl : (8 : Int32) = nI 8) (by omega) (by omega) c_11
        obtain ⟨hlt_15b, hlt_15p⟩ := id hn_9
        refine lv_iload hx hb (g_21 (v := 4) bX1_readDearest rfl) (lv_at hl 0 rfl) ?_
        refine lv_iload_n hx hb (g_27 bX1_readDearest rfl) rfl (lv_at hl 3 rfl) ?_
        refine lv_icmp_ge (tgt := 85) hx hb dX1_readDearest_15 (by decide +kernel) (fun c_16 => ?_) (fun c_16 => ?_)
        · have e8_17 : xC_6 = (zrd tA iM iL).2 := by rw [← hT_8, rd_m c_16]
          have e9_18 : tJ_5 = (zrd tA iM iL).1 := by rw [← hT_8, rd_m c_16]
          subst e9_18
          refine lv_iload_n hx hb (g_29 bX1_readDearest rfl) rfl (lv_at hl 1 rfl) ?_
          exact endW (u := [zzO qt 3 [.int (nI (T_nb ((zrd tA iM iL).1))), .int (nI (T_np ((zrd tA iM iL).1))), .int (wb (T_wh ((zrd tA iM iL).1))), .int (wb (T_gn ((zrd tA iM iL).1))), .int (T_sd ((zrd tA iM iL).1)), .ref qtw, .ref qtn, .ref qtg, .ref qta, .ref qtr, .ref qtm, .ref qtt, .ref qts], zzI cy qtw 8 (T_wo ((zrd tA iM iL).1)), zzI cy qtn 8 (T_ne ((zrd tA iM iL).1)), zzI cy qtg 8 (T_go ((zrd tA iM iL).1)), zzI cy qta 8 (T_ag ((zrd tA iM iL).1)), zzI cy qtr 8 (T_re ((zrd tA iM iL).1)), zzI cy qtm 8 (T_me ((zrd tA iM iL).1)), zzI cy qtt 8 (T_te ((zrd tA iM iL).1)), zzI cy qts 64 (shF (T_kn ((zrd tA iM iL).1)))]) hx hb hr hlocks rfl (pSb hP [[true, true, true, true, true, true, true, true, true]] rfl rfl) (dSb hD [[true, true, true, true, true, true, true, true, true]] (by decide +kernel) rfl rfl) hS ⟨rfl, (by exact e8_17)⟩ (g_172 bX1_readDearest rfl)
        · refine lv_aload_n hx hb (g_42 bX1_readDearest rfl) rfl (lv_at hl 2 rfl) ?_
          refine kRi (rV (As := []) (rest := []) (b := qt) ⟨hx, hb, hml, hown, hts⟩ (c_X4_dearestUnread l G cy qt tJ_5 qtw qtn qtg qta qtr qtm qtt qts (by first | omega | (simp only [nb_rd, np_rd, nb_ch, np_ch, nb_zr, np_zr, nb_za, np_za, nb_ey, np_ey, nb_hf, np_hf, nb_dd, np_dd, nb_so, np_so, nb_skn, np_skn, nb_swh, np_swh, nb_sgn, np_sgn, nb_ssd, np_ssd, nb_sgo, np_sgo, nb_sag, np_sag]; omega))) L_X1_19 (preRV (q := (RX4, TX4, 13)) hN hP (trueIx 0 [true, true, true, true, true, true, true, true, true]) (sel_fm rfl rfl) 0 3 rfl rfl) rfl ⟨Nat.le_of_ble_eq_true rfl, Nat.le_of_ble_eq_true rfl⟩ hl.1 (Nat.le_of_ble_eq_true rfl) (g_182 (v := 19) bX1_readDearest rfl) ⟨Nat.le_of_ble_eq_true rfl, Nat.le_of_ble_eq_true rfl⟩) (fun r_19 h_20 => ?_)
          subst h_20
          refine lv_istore (lv' := [(5, .int (zdu tJ_5)), (4, .int (nI j_4)), (3, .int xC_6), (0, .ref qt), (1, .int iM), (2, .int iL)]) hx hb (g_54 (v := 5) bX1_readDearest rfl) hl (by decide +kernel) rfl (fun ls => ?_)
          clear hl
          intro hl
          rcases du_in tJ_5 (T_nb tJ_5) with ek_23 | ⟨k_21, hk_22, ek_23⟩
          · have ek_23 : zdu tJ_5 = -1 := ek_23
            rw [ek_23] at hl
            have e8_24 : xC_6 = (zrd tA iM iL).2 := by rw [← hT_8, rd_u ek_23]
            have e9_25 : tJ_5 = (zrd tA iM iL).1 := by rw [← hT_8, rd_u ek_23]
            subst e9_25
            refine lv_iload hx hb (g_21 (v := 5) bX1_readDearest rfl) (lv_at hl 0 rfl) ?_
            refine lv_iconst (v := (-1)) hx hb (g_2 bX1_readDearest rfl) (by decide +kernel) ?_
            refine lv_icmp_ne (tgt := 34) hx hb dX1_readDearest_27 (by decide +kernel) (fun h9 => absurd (by decide +kernel) h9) (fun _ => ?_)
            refine lv_iconst (v := (-1)) hx hb (g_2 bX1_readDearest rfl) (by decide +kernel) ?_
            refine lv_goto (tgt := 40) hx hb dX1_readDearest_31 (by decide +kernel) ?_
            refine lv_istore (lv' := [(6, .int (-1)), (5, .int (-1)), (4, .int (nI j_4)), (3, .int xC_6), (0, .ref qt), (1, .int iM), (2, .int iL)]) hx hb (g_54 (v := 6) bX1_readDearest rfl) hl (by decide +kernel) rfl (fun ls => ?_)
            clear hl
            intro hl
            refine lv_iload hx hb (g_21 (v := 6) bX1_readDearest rfl) (lv_at hl 0 rfl) ?_
            refine lv_iconst (v := (-1)) hx hb (g_2 bX1_readDearest rfl) (by decide +kernel) ?_
            refine lv_icmp_ne (tgt := 51) hx hb dX1_readDearest_45 (by decide +kernel) (fun h9 => absurd (by decide +kernel) h9) (fun _ => ?_)
            refine lv_goto (tgt := 85) hx hb dX1_readDearest_48 (by decide +kernel) ?_
            refine lv_iload_n hx hb (g_29 bX1_readDearest rfl) rfl (lv_at hl 3 rfl) ?_
            exact endW (u := [zzO qt 3 [.int (nI (T_nb ((zrd tA iM iL).1))), .int (nI (T_np ((zrd tA iM iL).1))), .int (wb (T_wh ((zrd tA iM iL).1))), .int (wb (T_gn ((zrd tA iM iL).1))), .int (T_sd ((zrd tA iM iL).1)), .ref qtw, .ref qtn, .ref qtg, .ref qta, .ref qtr, .ref qtm, .ref qtt, .ref qts], zzI cy qtw 8 (T_wo ((zrd tA iM iL).1)), zzI cy qtn 8 (T_ne ((zrd tA iM iL).1)), zzI cy qtg 8 (T_go ((zrd tA iM iL).1)), zzI cy qta 8 (T_ag ((zrd tA iM iL).1)), zzI cy qtr 8 (T_re ((zrd tA iM iL).1)), zzI cy qtm 8 (T_me ((zrd tA iM iL).1)), zzI cy qtt 8 (T_te ((zrd tA iM iL).1)), zzI cy qts 64 (shF (T_kn ((zrd tA iM iL).1)))]) hx hb hr hlocks rfl (pSb hP [[true, true, true, true, true, true, true, true, true]] rfl rfl) (dSb hD [[true, true, true, true, true, true, true, true, true]] (by decide +kernel) rfl rfl) hS ⟨rfl, (by exact e8_24)⟩ (g_172 bX1_readDearest rfl)
          · have ek_23 : zdu tJ_5 = nI k_21 := ek_23
            rw [ek_23] at hl
            refine lv_iload hx hb (g_21 (v := 5) bX1_readDearest rfl) (lv_at hl 0 rfl) ?_
            refine lv_iconst (v := (-1)) hx hb (g_2 bX1_readDearest rfl) (by decide +kernel) ?_
            refine lv_icmp_ne (tgt := 34) hx hb dX1_readDearest_27 (by decide +kernel) (fun c_28 => ?_) (fun c_28 => ?_)
            · refine lv_aload_n hx hb (g_42 bX1_readDearest rfl) rfl (lv_at hl 3 rfl) ?_
              refine lv_iload hx hb (g_21 (v := 5) bX1_readDearest rfl) (lv_at hl 0 rfl) ?_
              refine kRi (rV (As := [.int (nI k_21)]) (rest := []) (b := qt) ⟨hx, hb, hml, hown, hts⟩ (c_X4_bestReader l G cy qt tJ_5 qtw qtn qtg qta qtr qtm qtt qts k_21 (by first | omega | (simp only [nb_rd, np_rd, nb_ch, np_ch, nb_zr, np_zr, nb_za, np_za, nb_ey, np_ey, nb_hf, np_hf, nb_dd, np_dd, nb_so, np_so, nb_skn, np_skn, nb_swh, np_swh, nb_sgn, np_sgn, nb_ssd, np_ssd, nb_sgo, np_sgo, nb_sag, np_sag]; omega)) (by first | omega | (simp only [nb_rd, np_rd, nb_ch, np_ch, nb_zr, np_zr, nb_za, np_za, nb_ey, np_ey, nb_hf, np_hf, nb_dd, np_dd, nb_so, np_so, nb_skn, np_skn, nb_swh, np_swh, nb_sgn, np_sgn, nb_ssd, np_ssd, nb_sgo, np_sgo, nb_sag, np_sag]; omega))) L_X1_25 (preRV (q := (RX4, TX4, 13)) hN hP (trueIx 0 [true, true, true, true, true, true, true, true, true]) (sel_fm rfl rfl) 0 3 rfl rfl) rfl ⟨Nat.le_of_ble_eq_true rfl, Nat.le_of_ble_eq_true rfl⟩ hl.1 (Nat.le_of_ble_eq_true rfl) (g_182 (v := 25) bX1_readDearest rfl) ⟨Nat.le_of_ble_eq_true rfl, Nat.le_of_ble_eq_true rfl⟩) (fun r_29 h_30 => ?_)
              subst h_30
              refine lv_istore (lv' := [(6, .int (zbr tJ_5 k_21)), (5, .int (nI k_21)), (4, .int (nI j_4)), (3, .int xC_6), (0, .ref qt), (1, .int iM), (2, .int iL)]) hx hb (g_54 (v := 6) bX1_readDearest rfl) hl (by decide +kernel) rfl (fun ls => ?_)
              clear hl
              intro hl
              rcases br_in tJ_5 k_21 (T_np tJ_5) with ek_33 | ⟨k_31, hk_32, ek_33⟩
              · have ek_33 : zbr tJ_5 k_21 = -1 := ek_33
                rw [ek_33] at hl
                have e8_34 : xC_6 = (zrd tA iM iL).2 := by rw [← hT_8, rd_b ek_23 (by omega) ek_33]
                have e9_35 : tJ_5 = (zrd tA iM iL).1 := by rw [← hT_8, rd_b ek_23 (by omega) ek_33]
                subst e9_35
                refine lv_iload hx hb (g_21 (v := 6) bX1_readDearest rfl) (lv_at hl 0 rfl) ?_
                refine lv_iconst (v := (-1)) hx hb (g_2 bX1_readDearest rfl) (by decide +kernel) ?_
                refine lv_icmp_ne (tgt := 51) hx hb dX1_readDearest_45 (by decide +kernel) (fun h9 => absurd (by decide +kernel) h9) (fun _ => ?_)
                refine lv_goto (tgt := 85) hx hb dX1_readDearest_48 (by decide +kernel) ?_
                refine lv_iload_n hx hb (g_29 bX1_readDearest rfl) rfl (lv_at hl 3 rfl) ?_
                exact endW (u := [zzO qt 3 [.int (nI (T_nb ((zrd tA iM iL).1))), .int (nI (T_np ((zrd tA iM iL).1))), .int (wb (T_wh ((zrd tA iM iL).1))), .int (wb (T_gn ((zrd tA iM iL).1))), .int (T_sd ((zrd tA iM iL).1)), .ref qtw, .ref qtn, .ref qtg, .ref qta, .ref qtr, .ref qtm, .ref qtt, .ref qts], zzI cy qtw 8 (T_wo ((zrd tA iM iL).1)), zzI cy qtn 8 (T_ne ((zrd tA iM iL).1)), zzI cy qtg 8 (T_go ((zrd tA iM iL).1)), zzI cy qta 8 (T_ag ((zrd tA iM iL).1)), zzI cy qtr 8 (T_re ((zrd tA iM iL).1)), zzI cy qtm 8 (T_me ((zrd tA iM iL).1)), zzI cy qtt 8 (T_te ((zrd tA iM iL).1)), zzI cy qts 64 (shF (T_kn ((zrd tA iM iL).1)))]) hx hb hr hlocks rfl (pSb hP [[true, true, true, true, true, true, true, true, true]] rfl rfl) (dSb hD [[true, true, true, true, true, true, true, true, true]] (by decide +kernel) rfl rfl) hS ⟨rfl, (by exact e8_34)⟩ (g_172 bX1_readDearest rfl)
              · have ek_33 : zbr tJ_5 k_21 = nI k_31 := ek_33
                rw [ek_33] at hl
                refine lv_iload hx hb (g_21 (v := 6) bX1_readDearest rfl) (lv_at hl 0 rfl) ?_
                refine lv_iconst (v := (-1)) hx hb (g_2 bX1_readDearest rfl) (by decide +kernel) ?_
                refine lv_icmp_ne (tgt := 51) hx hb dX1_readDearest_45 (by decide +kernel) (fun c_37 => ?_) (fun c_37 => ?_)
                · refine lv_aload_n hx hb (g_42 bX1_readDearest rfl) rfl (lv_at hl 4 rfl) ?_
                  refine lv_iload hx hb (g_21 (v := 6) bX1_readDearest rfl) (lv_at hl 0 rfl) ?_
                  refine lv_iload hx hb (g_21 (v := 5) bX1_readDearest rfl) (lv_at hl 1 rfl) ?_
                  refine cVv (As := [.int (nI k_31), .int (nI k_21)]) (rest := []) (b := qt) (q := (RX4, TX4, 13)) ⟨hx, hb, hml, hown, hts⟩ (c_X4_readBy l G cy (H).size qt tJ_5 qtw qtn qtg qta qtr qtm qtt qts k_31 k_21 (by first | omega | (simp only [nb_rd, np_rd, nb_ch, np_ch, nb_zr, np_zr, nb_za, np_za, nb_ey, np_ey, nb_hf, np_hf, nb_dd, np_dd, nb_so, np_so, nb_skn, np_skn, nb_swh, np_swh, nb_sgn, np_sgn, nb_ssd, np_ssd, nb_sgo, np_sgo, nb_sag, np_sag]; omega)) (by first | omega | (simp only [nb_rd, np_rd, nb_ch, np_ch, nb_zr, np_zr, nb_za, np_za, nb_ey, np_ey, nb_hf, np_hf, nb_dd, np_dd, nb_so, np_so, nb_skn, np_skn, nb_swh, np_swh, nb_sgn, np_sgn, nb_ssd, np_ssd, nb_sgo, np_sgo, nb_sag, np_sag]; omega))) L_X1_29 hN hP hD hS hA (trueIx 0 [true, true, true, true, true, true, true, true, true]) [false, false, false, false, false, false, false, false, false] (sel_eq rfl rfl) (by decide +kernel) rfl 0 3 rfl rfl rfl ⟨Nat.le_of_ble_eq_true rfl, Nat.le_of_ble_eq_true rfl⟩ hl.1 (Nat.le_of_ble_eq_true rfl) (g_182 (v := 29) bX1_readDearest rfl) ⟨Nat.le_of_ble_eq_true rfl, Nat.le_of_ble_eq_true rfl⟩ (fun u_40 H locs h_39 => ?_)
                  clear hP hD hS
                  intro hP hD hS
                  have hPD := pd_eq [zzO qt 3 [.int (nI (T_nb (rdT tJ_5 k_31 k_21))), .int (nI (T_np (rdT tJ_5 k_31 k_21))), .int (wb (T_wh (rdT tJ_5 k_31 k_21))), .int (wb (T_gn (rdT tJ_5 k_31 k_21))), .int (T_sd (rdT tJ_5 k_31 k_21)), .ref qtw, .ref qtn, .ref qtg, .ref qta, .ref qtr, .ref qtm, .ref qtt, .ref qts], zzI cy qtw 8 (T_wo (rdT tJ_5 k_31 k_21)), zzI cy qtn 8 (T_ne (rdT tJ_5 k_31 k_21)), zzI cy qtg 8 (T_go (rdT tJ_5 k_31 k_21)), zzI cy qta 8 (T_ag (rdT tJ_5 k_31 k_21)), zzI cy qtr 8 (T_re (rdT tJ_5 k_31 k_21)), zzI cy qtm 8 (T_me (rdT tJ_5 k_31 k_21)), zzI cy qtt 8 (T_te (rdT tJ_5 k_31 k_21)), zzI cy qts 64 (shF (T_kn (rdT tJ_5 k_31 k_21)))] hP hD h_39 rfl
                  clear hP hD h_39
                  obtain ⟨hP, hD⟩ := hPD
                  refine lv_iload_n hx hb (g_28 bX1_readDearest rfl) rfl (lv_at hl 6 rfl) ?_
                  refine lv_if_eq (tgt := 76) hx hb dX1_readDearest_60 (by decide +kernel) (fun c_41 => ?_) (fun c_41 => ?_)
                  · refine lv_iinc (v := xC_6 + 1) (lv' := [(3, .int (xC_6 + 1)), (6, .int (nI k_31)), (5, .int (nI k_21)), (4, .int (nI j_4)), (0, .ref qt), (1, .int iM), (2, .int iL)]) hx hb dX1_readDearest_76 hl (k := 3) rfl (rfl) (by decide +kernel) rfl (fun ls => ?_)
                    clear hl
                    intro hl
                    refine lv_iinc (v := nI (j_4 + 1)) (lv' := [(4, .int (nI (j_4 + 1))), (3, .int (xC_6 + 1)), (6, .int (nI k_31)), (5, .int (nI k_21)), (0, .ref qt), (1, .int iM), (2, .int iL)]) hx hb dX1_readDearest_79 hl (k := 3) rfl (nI_1 _) (by decide +kernel) rfl (fun ls => ?_)
                    clear hl
                    intro hl
                    refine lv_goto (tgt := 5) hx hb dX1_readDearest_82 (by decide +kernel) ?_
                    exact ih_3 (j_4 + 1) (rdT tJ_5 k_31 k_21) (xC_6 + 1) (by omega) (by omega) (by rw [← hT_8, show 8 - j_4 = 8 - (j_4 + 1) + 1 by omega, rd_go c_16 ek_23 (by omega) ek_33 (by omega), rdS, if_pos c_41]) hn_9 _ _ _ hP hD hS (lv_sub hl [0, 1, 4, 5, 6] rfl)
                  · refine lv_aload_n hx hb (g_42 bX1_readDearest rfl) rfl (lv_at hl 4 rfl) ?_
                    refine lv_iload hx hb (g_21 (v := 6) bX1_readDearest rfl) (lv_at hl 0 rfl) ?_
                    refine lv_iload hx hb (g_21 (v := 5) bX1_readDearest rfl) (lv_at hl 1 rfl) ?_
                    refine lv_aload_n hx hb (g_42 bX1_readDearest rfl) rfl (lv_at hl 4 rfl) ?_
                    refine kRi (rV (As := []) (rest := [.int (nI k_21), .int (nI k_31), .ref qt]) (b := qt) ⟨hx, hb, hml, hown, hts⟩ (c_X4_setThere l G cy qt (rdT tJ_5 k_31 k_21) qtw qtn qtg qta qtr qtm qtt qts (by first | omega | (simp only [nb_rd, np_rd, nb_ch, np_ch, nb_zr, np_zr, nb_za, np_za, nb_ey, np_ey, nb_hf, np_hf, nb_dd, np_dd, nb_so, np_so, nb_skn, np_skn, nb_swh, np_swh, nb_sgn, np_sgn, nb_ssd, np_ssd, nb_sgo, np_sgo, nb_sag, np_sag]; omega))) L_X1_33 (preRV (q := (RX4, TX4, 13)) hN hP [0] rfl 0 3 rfl rfl) rfl ⟨Nat.le_of_ble_eq_true rfl, Nat.le_of_ble_eq_true rfl⟩ hl.1 (Nat.le_of_ble_eq_true rfl) (g_182 (v := 33) bX1_readDearest rfl) ⟨Nat.le_of_ble_eq_true rfl, Nat.le_of_ble_eq_true rfl⟩) (fun r_42 h_43 => ?_)
                    subst h_43
                    refine cVi (As := [.int (nI k_31), .int (nI k_21), .int (zthere (rdT tJ_5 k_31 k_21))]) (rest := []) (b := qt) (q := (RX4, TX4, 13)) ⟨hx, hb, hml, hown, hts⟩ (c_X4_hearFrom l G cy (H).size qt (rdT tJ_5 k_31 k_21) qtw qtn qtg qta qtr qtm qtt qts k_31 k_21 (zthere (rdT tJ_5 k_31 k_21)) (by first | omega | (simp only [nb_rd, np_rd, nb_ch, np_ch, nb_zr, np_zr, nb_za, np_za, nb_ey, np_ey, nb_hf, np_hf, nb_dd, np_dd, nb_so, np_so, nb_skn, np_skn, nb_swh, np_swh, nb_sgn, np_sgn, nb_ssd, np_ssd, nb_sgo, np_sgo, nb_sag, np_sag]; omega)) (by first | omega | (simp only [nb_rd, np_rd, nb_ch, np_ch, nb_zr, np_zr, nb_za, np_za, nb_ey, np_ey, nb_hf, np_hf, nb_dd, np_dd, nb_so, np_so, nb_skn, np_skn, nb_swh, np_swh, nb_sgn, np_sgn, nb_ssd, np_ssd, nb_sgo, np_sgo, nb_sag, np_sag]; omega)) (by first | omega | (simp only [nb_rd, np_rd, nb_ch, np_ch, nb_zr, np_zr, nb_za, np_za, nb_ey, np_ey, nb_hf, np_hf, nb_dd, np_dd, nb_so, np_so, nb_skn, np_skn, nb_swh, np_swh, nb_sgn, np_sgn, nb_ssd, np_ssd, nb_sgo, np_sgo, nb_sag, np_sag]; omega))) L_X1_36 hN hP hD hS hA (trueIx 0 [true, true, true, true, true, true, true, true, true]) [false, false, false, false, false, false, false, false, false] (sel_eq rfl rfl) (by decide +kernel) rfl 0 3 rfl rfl rfl ⟨Nat.le_of_ble_eq_true rfl, Nat.le_of_ble_eq_true rfl⟩ hl.1 (Nat.le_of_ble_eq_true rfl) (g_182 (v := 36) bX1_readDearest rfl) ⟨Nat.le_of_ble_eq_true rfl, Nat.le_of_ble_eq_true rfl⟩ (fun r_44 u_46 H locs h_45 => ?_)
                    clear hP hD hS
                    intro hP hD hS
                    obtain ⟨hu9, h_45⟩ := h_45
                    have hPD := pd_eq [zzO qt 3 [.int (nI (T_nb ((zhf (rdT tJ_5 k_31 k_21) k_31 k_21 (zthere (rdT tJ_5 k_31 k_21))).1))), .int (nI (T_np ((zhf (rdT tJ_5 k_31 k_21) k_31 k_21 (zthere (rdT tJ_5 k_31 k_21))).1))), .int (wb (T_wh ((zhf (rdT tJ_5 k_31 k_21) k_31 k_21 (zthere (rdT tJ_5 k_31 k_21))).1))), .int (wb (T_gn ((zhf (rdT tJ_5 k_31 k_21) k_31 k_21 (zthere (rdT tJ_5 k_31 k_21))).1))), .int (T_sd ((zhf (rdT tJ_5 k_31 k_21) k_31 k_21 (zthere (rdT tJ_5 k_31 k_21))).1)), .ref qtw, .ref qtn, .ref qtg, .ref qta, .ref qtr, .ref qtm, .ref qtt, .ref qts], zzI cy qtw 8 (T_wo ((zhf (rdT tJ_5 k_31 k_21) k_31 k_21 (zthere (rdT tJ_5 k_31 k_21))).1)), zzI cy qtn 8 (T_ne ((zhf (rdT tJ_5 k_31 k_21) k_31 k_21 (zthere (rdT tJ_5 k_31 k_21))).1)), zzI cy qtg 8 (T_go ((zhf (rdT tJ_5 k_31 k_21) k_31 k_21 (zthere (rdT tJ_5 k_31 k_21))).1)), zzI cy qta 8 (T_ag ((zhf (rdT tJ_5 k_31 k_21) k_31 k_21 (zthere (rdT tJ_5 k_31 k_21))).1)), zzI cy qtr 8 (T_re ((zhf (rdT tJ_5 k_31 k_21) k_31 k_21 (zthere (rdT tJ_5 k_31 k_21))).1)), zzI cy qtm 8 (T_me ((zhf (rdT tJ_5 k_31 k_21) k_31 k_21 (zthere (rdT tJ_5 k_31 k_21))).1)), zzI cy qtt 8 (T_te ((zhf (rdT tJ_5 k_31 k_21) k_31 k_21 (zthere (rdT tJ_5 k_31 k_21))).1)), zzI cy qts 64 (shF (T_kn ((zhf (rdT tJ_5 k_31 k_21) k_31 k_21 (zthere (rdT tJ_5 k_31 k_21))).1)))] hP hD hu9 rfl
                    clear hP hD hu9
                    obtain ⟨hP, hD⟩ := hPD
                    subst h_45
                    refine lv_pop hx hb (g_87 bX1_readDearest rfl) rfl ?_
                    refine lv_iinc (v := xC_6 + 1) (lv' := [(3, .int (xC_6 + 1)), (6, .int (nI k_31)), (5, .int (nI k_21)), (4, .int (nI j_4)), (0, .ref qt), (1, .int iM), (2, .int iL)]) hx hb dX1_readDearest_76 hl (k := 3) rfl (rfl) (by decide +kernel) rfl (fun ls => ?_)
                    clear hl
                    intro hl
                    refine lv_iinc (v := nI (j_4 + 1)) (lv' := [(4, .int (nI (j_4 + 1))), (3, .int (xC_6 + 1)), (6, .int (nI k_31)), (5, .int (nI k_21)), (0, .ref qt), (1, .int iM), (2, .int iL)]) hx hb dX1_readDearest_79 hl (k := 3) rfl (nI_1 _) (by decide +kernel) rfl (fun ls => ?_)
                    clear hl
                    intro hl
                    refine lv_goto (tgt := 5) hx hb dX1_readDearest_82 (by decide +kernel) ?_
                    exact ih_3 (j_4 + 1) ((zhf (rdT tJ_5 k_31 k_21) k_31 k_21 (zthere (rdT tJ_5 k_31 k_21))).1) (xC_6 + 1) (by omega) (by omega) (by rw [← hT_8, show 8 - j_4 = 8 - (j_4 + 1) + 1 by omega, rd_go c_16 ek_23 (by omega) ek_33 (by omega), rdS, if_neg c_41]) (⟨(zhf_nb _ _ _ _).1.trans hn_9.1, (zhf_nb _ _ _ _).2.trans hn_9.2⟩) _ _ _ hP hD hS (lv_sub hl [0, 1, 4, 5, 6] rfl)
                · exact absurd c_37 (nI_ne1 (by omega))
            · exact absurd c_28 (nI_ne1 (by omega))
  exact lp_1 ((8 - 0) + 1) 0 tA 0 (Nat.lt_succ_self _) (Nat.zero_le _) rfl (⟨rfl, rfl⟩) _ _ ls hP hD hS (lv_sub hl [0, 1, 2, 3, 4] rfl)
set_option maxHeartbeats 4000000 in
set_option maxRecDepth 100000 in
theorem c_X1_act (l : Launch) (G : va_G) (cy : Nat → ClassId) (sz : Nat) (qt : Nat) (tA : TA) (qtw : Nat) (qtn : Nat) (qtg : Nat) (qta : Nat) (qtr : Nat) (qtm : Nat) (qtt : Nat) (qts : Nat) (iK : Int32) (iM : Int32)  (hB : T_nb tA ≤ 8) (hPp : T_np tA ≤ 8) : MW l yX1_act cX1_act 3 (some .int) 5 0 0 G cy [zzO qt 3 [.int (nI (T_nb tA)), .int (nI (T_np tA)), .int (wb (T_wh tA)), .int (wb (T_gn tA)), .int (T_sd tA), .ref qtw, .ref qtn, .ref qtg, .ref qta, .ref qtr, .ref qtm, .ref qtt, .ref qts], zzI cy qtw 8 (T_wo tA), zzI cy qtn 8 (T_ne tA), zzI cy qtg 8 (T_go tA), zzI cy qta 8 (T_ag tA), zzI cy qtr 8 (T_re tA), zzI cy qtm 8 (T_me tA), zzI cy qtt 8 (T_te tA), zzI cy qts 64 (shF (T_kn tA))] sz [.ref qt, .int iK, .int iM] (Wi G (fun r u => u = [zzO qt 3 [.int (nI (T_nb ((zact tA iK iM).1))), .int (nI (T_np ((zact tA iK iM).1))), .int (wb (T_wh ((zact tA iK iM).1))), .int (wb (T_gn ((zact tA iK iM).1))), .int (T_sd ((zact tA iK iM).1)), .ref qtw, .ref qtn, .ref qtg, .ref qta, .ref qtr, .ref qtm, .ref qtt, .ref qts], zzI cy qtw 8 (T_wo ((zact tA iK iM).1)), zzI cy qtn 8 (T_ne ((zact tA iK iM).1)), zzI cy qtg 8 (T_go ((zact tA iK iM).1)), zzI cy qta 8 (T_ag ((zact tA iK iM).1)), zzI cy qtr 8 (T_re ((zact tA iK iM).1)), zzI cy qtm 8 (T_me ((zact tA iK iM).1)), zzI cy qtt 8 (T_te ((zact tA iK iM).1)), zzI cy qts 64 (shF (T_kn ((zact tA iK iM).1)))] ∧ ((r = ((zact tA iK iM).2))))) := by
  refine enW RX1 (by decide +kernel) rfl (Nat.le_of_ble_eq_true rfl) (fun p e s m below meth c ls A hx hb hml hown hts hr hlocks hP hN hl hin hD hA hS => ?_)
  have hin : meth.name = _ := hin
  have hK := hN.1
  replace hl : lv_has ls 3 [(0, .ref qt), (1, .int iK), (2, .int iM)] := hl
  refine lv_iload_n hx hb (g_27 bX1_act rfl) rfl (lv_at hl 1 rfl) ?_
  rcases sw_1_6 iK with rfl | rfl | rfl | rfl | rfl | rfl | h_1
  · refine lv_tableIn (tgt := 40) (off := 39) hx hb dX1_act_1 (by decide +kernel) (by decide +kernel) (by decide +kernel) (by decide +kernel) ?_
    refine lv_aload_n hx hb (g_42 bX1_act rfl) rfl (lv_at hl 0 rfl) ?_
    refine lv_bipush (v := 8) hx hb dX1_act_41 (by decide +kernel) ?_
    refine lv_iconst (v := 0) hx hb (g_3 bX1_act rfl) (by decide +kernel) ?_
    refine cSi (As := [.ref qt, .int 8, .int 0]) (rest := []) ⟨hx, hb, hml, hown, hts⟩ (c_X1_readDearest l G cy (s.heap).size qt tA qtw qtn qtg qta qtr qtm qtt qts 8 0 hB hPp) L_X1_9 hN hP hD hS hA (trueIx 0 [true, true, true, true, true, true, true, true, true]) [false, false, false, false, false, false, false, false, false] (sel_eq rfl rfl) (by decide +kernel) rfl rfl ⟨Nat.le_of_ble_eq_true rfl, Nat.le_of_ble_eq_true rfl⟩ hl.1 (Nat.le_of_ble_eq_true rfl) (g_184 (v := 9) bX1_act rfl) ⟨Nat.le_of_ble_eq_true rfl, Nat.le_of_ble_eq_true rfl⟩ (fun r_2 u_4 H locs h_3 => ?_)
    clear hP hD hS
    intro hP hD hS
    obtain ⟨hu9, h_3⟩ := h_3
    have hPD := pd_eq [zzO qt 3 [.int (nI (T_nb ((zrd tA 8 0).1))), .int (nI (T_np ((zrd tA 8 0).1))), .int (wb (T_wh ((zrd tA 8 0).1))), .int (wb (T_gn ((zrd tA 8 0).1))), .int (T_sd ((zrd tA 8 0).1)), .ref qtw, .ref qtn, .ref qtg, .ref qta, .ref qtr, .ref qtm, .ref qtt, .ref qts], zzI cy qtw 8 (T_wo ((zrd tA 8 0).1)), zzI cy qtn 8 (T_ne ((zrd tA 8 0).1)), zzI cy qtg 8 (T_go ((zrd tA 8 0).1)), zzI cy qta 8 (T_ag ((zrd tA 8 0).1)), zzI cy qtr 8 (T_re ((zrd tA 8 0).1)), zzI cy qtm 8 (T_me ((zrd tA 8 0).1)), zzI cy qtt 8 (T_te ((zrd tA 8 0).1)), zzI cy qts 64 (shF (T_kn ((zrd tA 8 0).1)))] hP hD hu9 rfl
    clear hP hD hu9
    obtain ⟨hP, hD⟩ := hPD
    subst h_3
    exact endW (u := [zzO qt 3 [.int (nI (T_nb ((zrd tA 8 0).1))), .int (nI (T_np ((zrd tA 8 0).1))), .int (wb (T_wh ((zrd tA 8 0).1))), .int (wb (T_gn ((zrd tA 8 0).1))), .int (T_sd ((zrd tA 8 0).1)), .ref qtw, .ref qtn, .ref qtg, .ref qta, .ref qtr, .ref qtm, .ref qtt, .ref qts], zzI cy qtw 8 (T_wo ((zrd tA 8 0).1)), zzI cy qtn 8 (T_ne ((zrd tA 8 0).1)), zzI cy qtg 8 (T_go ((zrd tA 8 0).1)), zzI cy qta 8 (T_ag ((zrd tA 8 0).1)), zzI cy qtr 8 (T_re ((zrd tA 8 0).1)), zzI cy qtm 8 (T_me ((zrd tA 8 0).1)), zzI cy qtt 8 (T_te ((zrd tA 8 0).1)), zzI cy qts 64 (shF (T_kn ((zrd tA 8 0).1)))]) hx hb hr hlocks rfl (pSb hP [[true, true, true, true, true, true, true, true, true]] rfl rfl) (dSb hD [[true, true, true, true, true, true, true, true, true]] (by decide +kernel) rfl rfl) hS ⟨by rw [act_1], (by rw [act_1])⟩ (g_172 bX1_act rfl)
  · refine lv_tableIn (tgt := 48) (off := 47) hx hb dX1_act_1 (by decide +kernel) (by decide +kernel) (by decide +kernel) (by decide +kernel) ?_
    refine lv_aload_n hx hb (g_42 bX1_act rfl) rfl (lv_at hl 0 rfl) ?_
    refine lv_iload_n hx hb (g_28 bX1_act rfl) rfl (lv_at hl 2 rfl) ?_
    refine lv_iconst (v := 0) hx hb (g_3 bX1_act rfl) (by decide +kernel) ?_
    refine cSi (As := [.ref qt, .int iM, .int 0]) (rest := []) ⟨hx, hb, hml, hown, hts⟩ (c_X1_readDearest l G cy (s.heap).size qt tA qtw qtn qtg qta qtr qtm qtt qts iM 0 hB hPp) L_X1_9 hN hP hD hS hA (trueIx 0 [true, true, true, true, true, true, true, true, true]) [false, false, false, false, false, false, false, false, false] (sel_eq rfl rfl) (by decide +kernel) rfl rfl ⟨Nat.le_of_ble_eq_true rfl, Nat.le_of_ble_eq_true rfl⟩ hl.1 (Nat.le_of_ble_eq_true rfl) (g_184 (v := 9) bX1_act rfl) ⟨Nat.le_of_ble_eq_true rfl, Nat.le_of_ble_eq_true rfl⟩ (fun r_5 u_7 H locs h_6 => ?_)
    clear hP hD hS
    intro hP hD hS
    obtain ⟨hu9, h_6⟩ := h_6
    have hPD := pd_eq [zzO qt 3 [.int (nI (T_nb ((zrd tA iM 0).1))), .int (nI (T_np ((zrd tA iM 0).1))), .int (wb (T_wh ((zrd tA iM 0).1))), .int (wb (T_gn ((zrd tA iM 0).1))), .int (T_sd ((zrd tA iM 0).1)), .ref qtw, .ref qtn, .ref qtg, .ref qta, .ref qtr, .ref qtm, .ref qtt, .ref qts], zzI cy qtw 8 (T_wo ((zrd tA iM 0).1)), zzI cy qtn 8 (T_ne ((zrd tA iM 0).1)), zzI cy qtg 8 (T_go ((zrd tA iM 0).1)), zzI cy qta 8 (T_ag ((zrd tA iM 0).1)), zzI cy qtr 8 (T_re ((zrd tA iM 0).1)), zzI cy qtm 8 (T_me ((zrd tA iM 0).1)), zzI cy qtt 8 (T_te ((zrd tA iM 0).1)), zzI cy qts 64 (shF (T_kn ((zrd tA iM 0).1)))] hP hD hu9 rfl
    clear hP hD hu9
    obtain ⟨hP, hD⟩ := hPD
    subst h_6
    exact endW (u := [zzO qt 3 [.int (nI (T_nb ((zrd tA iM 0).1))), .int (nI (T_np ((zrd tA iM 0).1))), .int (wb (T_wh ((zrd tA iM 0).1))), .int (wb (T_gn ((zrd tA iM 0).1))), .int (T_sd ((zrd tA iM 0).1)), .ref qtw, .ref qtn, .ref qtg, .ref qta, .ref qtr, .ref qtm, .ref qtt, .ref qts], zzI cy qtw 8 (T_wo ((zrd tA iM 0).1)), zzI cy qtn 8 (T_ne ((zrd tA iM 0).1)), zzI cy qtg 8 (T_go ((zrd tA iM 0).1)), zzI cy qta 8 (T_ag ((zrd tA iM 0).1)), zzI cy qtr 8 (T_re ((zrd tA iM 0).1)), zzI cy qtm 8 (T_me ((zrd tA iM 0).1)), zzI cy qtt 8 (T_te ((zrd tA iM 0).1)), zzI cy qts 64 (shF (T_kn ((zrd tA iM 0).1)))]) hx hb hr hlocks rfl (pSb hP [[true, true, true, true, true, true, true, true, true]] rfl rfl) (dSb hD [[true, true, true, true, true, true, true, true, true]] (by decide +kernel) rfl rfl) hS ⟨by rw [act_2], (by rw [act_2])⟩ (g_172 bX1_act rfl)
  · refine lv_tableIn (tgt := 55) (off := 54) hx hb dX1_act_1 (by decide +kernel) (by decide +kernel) (by decide +kernel) (by decide +kernel) ?_
    refine lv_aload_n hx hb (g_42 bX1_act rfl) rfl (lv_at hl 0 rfl) ?_
    refine lv_bipush (v := 8) hx hb dX1_act_56 (by decide +kernel) ?_
    refine lv_iconst (v := 1) hx hb (g_4 bX1_act rfl) (by decide +kernel) ?_
    refine cSi (As := [.ref qt, .int 8, .int 1]) (rest := []) ⟨hx, hb, hml, hown, hts⟩ (c_X1_readDearest l G cy (s.heap).size qt tA qtw qtn qtg qta qtr qtm qtt qts 8 1 hB hPp) L_X1_9 hN hP hD hS hA (trueIx 0 [true, true, true, true, true, true, true, true, true]) [false, false, false, false, false, false, false, false, false] (sel_eq rfl rfl) (by decide +kernel) rfl rfl ⟨Nat.le_of_ble_eq_true rfl, Nat.le_of_ble_eq_true rfl⟩ hl.1 (Nat.le_of_ble_eq_true rfl) (g_184 (v := 9) bX1_act rfl) ⟨Nat.le_of_ble_eq_true rfl, Nat.le_of_ble_eq_true rfl⟩ (fun r_8 u_10 H locs h_9 => ?_)
    clear hP hD hS
    intro hP hD hS
    obtain ⟨hu9, h_9⟩ := h_9
    have hPD := pd_eq [zzO qt 3 [.int (nI (T_nb ((zrd tA 8 1).1))), .int (nI (T_np ((zrd tA 8 1).1))), .int (wb (T_wh ((zrd tA 8 1).1))), .int (wb (T_gn ((zrd tA 8 1).1))), .int (T_sd ((zrd tA 8 1).1)), .ref qtw, .ref qtn, .ref qtg, .ref qta, .ref qtr, .ref qtm, .ref qtt, .ref qts], zzI cy qtw 8 (T_wo ((zrd tA 8 1).1)), zzI cy qtn 8 (T_ne ((zrd tA 8 1).1)), zzI cy qtg 8 (T_go ((zrd tA 8 1).1)), zzI cy qta 8 (T_ag ((zrd tA 8 1).1)), zzI cy qtr 8 (T_re ((zrd tA 8 1).1)), zzI cy qtm 8 (T_me ((zrd tA 8 1).1)), zzI cy qtt 8 (T_te ((zrd tA 8 1).1)), zzI cy qts 64 (shF (T_kn ((zrd tA 8 1).1)))] hP hD hu9 rfl
    clear hP hD hu9
    obtain ⟨hP, hD⟩ := hPD
    subst h_9
    exact endW (u := [zzO qt 3 [.int (nI (T_nb ((zrd tA 8 1).1))), .int (nI (T_np ((zrd tA 8 1).1))), .int (wb (T_wh ((zrd tA 8 1).1))), .int (wb (T_gn ((zrd tA 8 1).1))), .int (T_sd ((zrd tA 8 1).1)), .ref qtw, .ref qtn, .ref qtg, .ref qta, .ref qtr, .ref qtm, .ref qtt, .ref qts], zzI cy qtw 8 (T_wo ((zrd tA 8 1).1)), zzI cy qtn 8 (T_ne ((zrd tA 8 1).1)), zzI cy qtg 8 (T_go ((zrd tA 8 1).1)), zzI cy qta 8 (T_ag ((zrd tA 8 1).1)), zzI cy qtr 8 (T_re ((zrd tA 8 1).1)), zzI cy qtm 8 (T_me ((zrd tA 8 1).1)), zzI cy qtt 8 (T_te ((zrd tA 8 1).1)), zzI cy qts 64 (shF (T_kn ((zrd tA 8 1).1)))]) hx hb hr hlocks rfl (pSb hP [[true, true, true, true, true, true, true, true, true]] rfl rfl) (dSb hD [[true, true, true, true, true, true, true, true, true]] (by decide +kernel) rfl rfl) hS ⟨by rw [act_3], (by rw [act_3])⟩ (g_172 bX1_act rfl)
  · refine lv_tableIn (tgt := 63) (off := 62) hx hb dX1_act_1 (by decide +kernel) (by decide +kernel) (by decide +kernel) (by decide +kernel) ?_
    refine lv_aload_n hx hb (g_42 bX1_act rfl) rfl (lv_at hl 0 rfl) ?_
    refine cSv (As := [.ref qt]) (rest := []) ⟨hx, hb, hml, hown, hts⟩ (c_X1_tellChain l G cy (s.heap).size qt tA qtw qtn qtg qta qtr qtm qtt qts hB hPp) L_X1_15 hN hP hD hS hA (trueIx 0 [true, true, true, true, true, true, true, true, true]) [false, false, false, false, false, false, false, false, false] (sel_eq rfl rfl) (by decide +kernel) rfl rfl ⟨Nat.le_of_ble_eq_true rfl, Nat.le_of_ble_eq_true rfl⟩ hl.1 (Nat.le_of_ble_eq_true rfl) (g_184 (v := 15) bX1_act rfl) ⟨Nat.le_of_ble_eq_true rfl, Nat.le_of_ble_eq_true rfl⟩ (fun u_13 H locs h_12 => ?_)
    clear hP hD hS
    intro hP hD hS
    have hPD := pd_eq [zzO qt 3 [.int (nI (T_nb (zch tA))), .int (nI (T_np (zch tA))), .int (wb (T_wh (zch tA))), .int (wb (T_gn (zch tA))), .int (T_sd (zch tA)), .ref qtw, .ref qtn, .ref qtg, .ref qta, .ref qtr, .ref qtm, .ref qtt, .ref qts], zzI cy qtw 8 (T_wo (zch tA)), zzI cy qtn 8 (T_ne (zch tA)), zzI cy qtg 8 (T_go (zch tA)), zzI cy qta 8 (T_ag (zch tA)), zzI cy qtr 8 (T_re (zch tA)), zzI cy qtm 8 (T_me (zch tA)), zzI cy qtt 8 (T_te (zch tA)), zzI cy qts 64 (shF (T_kn (zch tA)))] hP hD h_12 rfl
    clear hP hD h_12
    obtain ⟨hP, hD⟩ := hPD
    refine lv_iconst (v := 0) hx hb (g_3 bX1_act rfl) (by decide +kernel) ?_
    exact endW (u := [zzO qt 3 [.int (nI (T_nb (zch tA))), .int (nI (T_np (zch tA))), .int (wb (T_wh (zch tA))), .int (wb (T_gn (zch tA))), .int (T_sd (zch tA)), .ref qtw, .ref qtn, .ref qtg, .ref qta, .ref qtr, .ref qtm, .ref qtt, .ref qts], zzI cy qtw 8 (T_wo (zch tA)), zzI cy qtn 8 (T_ne (zch tA)), zzI cy qtg 8 (T_go (zch tA)), zzI cy qta 8 (T_ag (zch tA)), zzI cy qtr 8 (T_re (zch tA)), zzI cy qtm 8 (T_me (zch tA)), zzI cy qtt 8 (T_te (zch tA)), zzI cy qts 64 (shF (T_kn (zch tA)))]) hx hb hr hlocks rfl (pSb hP [[true, true, true, true, true, true, true, true, true]] rfl rfl) (dSb hD [[true, true, true, true, true, true, true, true, true]] (by decide +kernel) rfl rfl) hS ⟨by rw [act_4], (by rw [act_4])⟩ (g_172 bX1_act rfl)
  · refine lv_tableIn (tgt := 69) (off := 68) hx hb dX1_act_1 (by decide +kernel) (by decide +kernel) (by decide +kernel) (by decide +kernel) ?_
    refine lv_aload_n hx hb (g_42 bX1_act rfl) rfl (lv_at hl 0 rfl) ?_
    refine cSv (As := [.ref qt]) (rest := []) ⟨hx, hb, hml, hown, hts⟩ (c_X1_tellChain l G cy (s.heap).size qt tA qtw qtn qtg qta qtr qtm qtt qts hB hPp) L_X1_15 hN hP hD hS hA (trueIx 0 [true, true, true, true, true, true, true, true, true]) [false, false, false, false, false, false, false, false, false] (sel_eq rfl rfl) (by decide +kernel) rfl rfl ⟨Nat.le_of_ble_eq_true rfl, Nat.le_of_ble_eq_true rfl⟩ hl.1 (Nat.le_of_ble_eq_true rfl) (g_184 (v := 15) bX1_act rfl) ⟨Nat.le_of_ble_eq_true rfl, Nat.le_of_ble_eq_true rfl⟩ (fun u_16 H locs h_15 => ?_)
    clear hP hD hS
    intro hP hD hS
    have hPD := pd_eq [_, _, _, _, _, _, _, _, _] hP hD h_15 rfl
    clear hP hD h_15
    obtain ⟨hP, hD⟩ := hPD
    refine lv_aload_n hx hb (g_42 bX1_act rfl) rfl (lv_at hl 0 rfl) ?_
    refine cSv (As := [.ref qt]) (rest := []) ⟨hx, hb, hml, hown, hts⟩ (c_X1_tellChain l G cy (H).size qt (zch tA) qtw qtn qtg qta qtr qtm qtt qts (by first | omega | (simp only [nb_rd, np_rd, nb_ch, np_ch, nb_zr, np_zr, nb_za, np_za, nb_ey, np_ey, nb_hf, np_hf, nb_dd, np_dd, nb_so, np_so, nb_skn, np_skn, nb_swh, np_swh, nb_sgn, np_sgn, nb_ssd, np_ssd, nb_sgo, np_sgo, nb_sag, np_sag]; omega)) (by first | omega | (simp only [nb_rd, np_rd, nb_ch, np_ch, nb_zr, np_zr, nb_za, np_za, nb_ey, np_ey, nb_hf, np_hf, nb_dd, np_dd, nb_so, np_so, nb_skn, np_skn, nb_swh, np_swh, nb_sgn, np_sgn, nb_ssd, np_ssd, nb_sgo, np_sgo, nb_sag, np_sag]; omega))) L_X1_15 hN hP hD hS hA (trueIx 0 [true, true, true, true, true, true, true, true, true]) [false, false, false, false, false, false, false, false, false] (sel_eq rfl rfl) (by decide +kernel) rfl rfl ⟨Nat.le_of_ble_eq_true rfl, Nat.le_of_ble_eq_true rfl⟩ hl.1 (Nat.le_of_ble_eq_true rfl) (g_184 (v := 15) bX1_act rfl) ⟨Nat.le_of_ble_eq_true rfl, Nat.le_of_ble_eq_true rfl⟩ (fun u_19 H locs h_18 => ?_)
    clear hP hD hS
    intro hP hD hS
    have hPD := pd_eq [zzO qt 3 [.int (nI (T_nb (zch (zch tA)))), .int (nI (T_np (zch (zch tA)))), .int (wb (T_wh (zch (zch tA)))), .int (wb (T_gn (zch (zch tA)))), .int (T_sd (zch (zch tA))), .ref qtw, .ref qtn, .ref qtg, .ref qta, .ref qtr, .ref qtm, .ref qtt, .ref qts], zzI cy qtw 8 (T_wo (zch (zch tA))), zzI cy qtn 8 (T_ne (zch (zch tA))), zzI cy qtg 8 (T_go (zch (zch tA))), zzI cy qta 8 (T_ag (zch (zch tA))), zzI cy qtr 8 (T_re (zch (zch tA))), zzI cy qtm 8 (T_me (zch (zch tA))), zzI cy qtt 8 (T_te (zch (zch tA))), zzI cy qts 64 (shF (T_kn (zch (zch tA))))] hP hD h_18 rfl
    clear hP hD h_18
    obtain ⟨hP, hD⟩ := hPD
    refine lv_iconst (v := 0) hx hb (g_3 bX1_act rfl) (by decide +kernel) ?_
    exact endW (u := [zzO qt 3 [.int (nI (T_nb (zch (zch tA)))), .int (nI (T_np (zch (zch tA)))), .int (wb (T_wh (zch (zch tA)))), .int (wb (T_gn (zch (zch tA)))), .int (T_sd (zch (zch tA))), .ref qtw, .ref qtn, .ref qtg, .ref qta, .ref qtr, .ref qtm, .ref qtt, .ref qts], zzI cy qtw 8 (T_wo (zch (zch tA))), zzI cy qtn 8 (T_ne (zch (zch tA))), zzI cy qtg 8 (T_go (zch (zch tA))), zzI cy qta 8 (T_ag (zch (zch tA))), zzI cy qtr 8 (T_re (zch (zch tA))), zzI cy qtm 8 (T_me (zch (zch tA))), zzI cy qtt 8 (T_te (zch (zch tA))), zzI cy qts 64 (shF (T_kn (zch (zch tA))))]) hx hb hr hlocks rfl (pSb hP [[true, true, true, true, true, true, true, true, true]] rfl rfl) (dSb hD [[true, true, true, true, true, true, true, true, true]] (by decide +kernel) rfl rfl) hS ⟨by rw [act_5], (by rw [act_5])⟩ (g_172 bX1_act rfl)
  · refine lv_tableIn (tgt := 79) (off := 78) hx hb dX1_act_1 (by decide +kernel) (by decide +kernel) (by decide +kernel) (by decide +kernel) ?_
    refine lv_aload_n hx hb (g_42 bX1_act rfl) rfl (lv_at hl 0 rfl) ?_
    refine cSv (As := [.ref qt]) (rest := []) ⟨hx, hb, hml, hown, hts⟩ (c_X1_tellChain l G cy (s.heap).size qt tA qtw qtn qtg qta qtr qtm qtt qts hB hPp) L_X1_15 hN hP hD hS hA (trueIx 0 [true, true, true, true, true, true, true, true, true]) [false, false, false, false, false, false, false, false, false] (sel_eq rfl rfl) (by decide +kernel) rfl rfl ⟨Nat.le_of_ble_eq_true rfl, Nat.le_of_ble_eq_true rfl⟩ hl.1 (Nat.le_of_ble_eq_true rfl) (g_184 (v := 15) bX1_act rfl) ⟨Nat.le_of_ble_eq_true rfl, Nat.le_of_ble_eq_true rfl⟩ (fun u_22 H locs h_21 => ?_)
    clear hP hD hS
    intro hP hD hS
    have hPD := pd_eq [_, _, _, _, _, _, _, _, _] hP hD h_21 rfl
    clear hP hD h_21
    obtain ⟨hP, hD⟩ := hPD
    refine lv_aload_n hx hb (g_42 bX1_act rfl) rfl (lv_at hl 0 rfl) ?_
    refine lv_iconst (v := 1) hx hb (g_4 bX1_act rfl) (by decide +kernel) ?_
    refine lv_iconst (v := 0) hx hb (g_3 bX1_act rfl) (by decide +kernel) ?_
    refine cSi (As := [.ref qt, .int 1, .int 0]) (rest := []) ⟨hx, hb, hml, hown, hts⟩ (c_X1_readDearest l G cy (H).size qt (zch tA) qtw qtn qtg qta qtr qtm qtt qts 1 0 (by rw [(zch_nb tA).1]; omega) (by rw [(zch_nb tA).2]; omega)) L_X1_9 hN hP hD hS hA (trueIx 0 [true, true, true, true, true, true, true, true, true]) [false, false, false, false, false, false, false, false, false] (sel_eq rfl rfl) (by decide +kernel) rfl rfl ⟨Nat.le_of_ble_eq_true rfl, Nat.le_of_ble_eq_true rfl⟩ hl.1 (Nat.le_of_ble_eq_true rfl) (g_184 (v := 9) bX1_act rfl) ⟨Nat.le_of_ble_eq_true rfl, Nat.le_of_ble_eq_true rfl⟩ (fun r_23 u_25 H locs h_24 => ?_)
    clear hP hD hS
    intro hP hD hS
    obtain ⟨hu9, h_24⟩ := h_24
    have hPD := pd_eq [zzO qt 3 [.int (nI (T_nb ((zrd (zch tA) 1 0).1))), .int (nI (T_np ((zrd (zch tA) 1 0).1))), .int (wb (T_wh ((zrd (zch tA) 1 0).1))), .int (wb (T_gn ((zrd (zch tA) 1 0).1))), .int (T_sd ((zrd (zch tA) 1 0).1)), .ref qtw, .ref qtn, .ref qtg, .ref qta, .ref qtr, .ref qtm, .ref qtt, .ref qts], zzI cy qtw 8 (T_wo ((zrd (zch tA) 1 0).1)), zzI cy qtn 8 (T_ne ((zrd (zch tA) 1 0).1)), zzI cy qtg 8 (T_go ((zrd (zch tA) 1 0).1)), zzI cy qta 8 (T_ag ((zrd (zch tA) 1 0).1)), zzI cy qtr 8 (T_re ((zrd (zch tA) 1 0).1)), zzI cy qtm 8 (T_me ((zrd (zch tA) 1 0).1)), zzI cy qtt 8 (T_te ((zrd (zch tA) 1 0).1)), zzI cy qts 64 (shF (T_kn ((zrd (zch tA) 1 0).1)))] hP hD hu9 rfl
    clear hP hD hu9
    obtain ⟨hP, hD⟩ := hPD
    subst h_24
    exact endW (u := [zzO qt 3 [.int (nI (T_nb ((zrd (zch tA) 1 0).1))), .int (nI (T_np ((zrd (zch tA) 1 0).1))), .int (wb (T_wh ((zrd (zch tA) 1 0).1))), .int (wb (T_gn ((zrd (zch tA) 1 0).1))), .int (T_sd ((zrd (zch tA) 1 0).1)), .ref qtw, .ref qtn, .ref qtg, .ref qta, .ref qtr, .ref qtm, .ref qtt, .ref qts], zzI cy qtw 8 (T_wo ((zrd (zch tA) 1 0).1)), zzI cy qtn 8 (T_ne ((zrd (zch tA) 1 0).1)), zzI cy qtg 8 (T_go ((zrd (zch tA) 1 0).1)), zzI cy qta 8 (T_ag ((zrd (zch tA) 1 0).1)), zzI cy qtr 8 (T_re ((zrd (zch tA) 1 0).1)), zzI cy qtm 8 (T_me ((zrd (zch tA) 1 0).1)), zzI cy qtt 8 (T_te ((zrd (zch tA) 1 0).1)), zzI cy qts 64 (shF (T_kn ((zrd (zch tA) 1 0).1)))]) hx hb hr hlocks rfl (pSb hP [[true, true, true, true, true, true, true, true, true]] rfl rfl) (dSb hD [[true, true, true, true, true, true, true, true, true]] (by decide +kernel) rfl rfl) hS ⟨by rw [act_6], (by rw [act_6])⟩ (g_172 bX1_act rfl)
  · refine lv_tableOut (tgt := 90) hx hb dX1_act_1 h_1 (by decide +kernel) ?_
    refine lv_iconst (v := 0) hx hb (g_3 bX1_act rfl) (by decide +kernel) ?_
    exact endW (u := [zzO qt 3 [.int (nI (T_nb tA)), .int (nI (T_np tA)), .int (wb (T_wh tA)), .int (wb (T_gn tA)), .int (T_sd tA), .ref qtw, .ref qtn, .ref qtg, .ref qta, .ref qtr, .ref qtm, .ref qtt, .ref qts], zzI cy qtw 8 (T_wo tA), zzI cy qtn 8 (T_ne tA), zzI cy qtg 8 (T_go tA), zzI cy qta 8 (T_ag tA), zzI cy qtr 8 (T_re tA), zzI cy qtm 8 (T_me tA), zzI cy qtt 8 (T_te tA), zzI cy qts 64 (shF (T_kn tA))]) hx hb hr hlocks rfl (pSb hP [[true, true, true, true, true, true, true, true, true]] rfl rfl) (dSb hD [[true, true, true, true, true, true, true, true, true]] (by decide +kernel) rfl rfl) hS ⟨by rw [act_no h_1], (by rw [act_no h_1])⟩ (g_172 bX1_act rfl)
end
section
/-! plans -/
noncomputable def bwF (t : TA) (b n : Nat) (s0 : Int32) : Nat → Int32 × Int32
  | 0 => (-1, s0)
  | p + 1 => if bitb (zthere t) p = true ∧ ((bwF t b n s0 p).1 = -1 ∨ (bwF t b n s0 p).2 < (soG n (rdT t p b) 0).2) then (nI p, (soG n (rdT t p b) 0).2) else bwF t b n s0 p
theorem bw_upd {t : TA} {b n p : Nat} {s0 : Int32} (h : bitb (zthere t) p = true ∧ ((bwF t b n s0 p).1 = -1 ∨ (bwF t b n s0 p).2 < (soG n (rdT t p b) 0).2)) : bwF t b n s0 (p + 1) = (nI p, (soG n (rdT t p b) 0).2) := if_pos h
theorem bw_skip {t : TA} {b n p : Nat} {s0 : Int32} (h : ¬ (bitb (zthere t) p = true ∧ ((bwF t b n s0 p).1 = -1 ∨ (bwF t b n s0 p).2 < (soG n (rdT t p b) 0).2))) : bwF t b n s0 (p + 1) = bwF t b n s0 p := if_neg h
noncomputable def zbw (t : TA) (b n : Nat) (s0 : Int32) : Int32 × Int32 := bwF t b n s0 (T_np t)
noncomputable def zfk (t : TA) (b n : Nat) (s0 : Int32) : Int32 × Int32 := if (zbw t b n s0).1 = -1 then (0, (zbw t b n s0).2) else if (zbw (soG 1 t 0).1 b (n - 1) (zbw t b n s0).2).1 = -1 then (0, (zbw (soG 1 t 0).1 b (n - 1) (zbw t b n s0).2).2) else (1, ((soG 1 t 0).2 + (zbw (soG 1 t 0).1 b (n - 1) (zbw t b n s0).2).2) - (zbw t b n s0).2)
theorem fk_1 {t : TA} {b n : Nat} {s0 : Int32} (h : (zbw t b n s0).1 = -1) : zfk t b n s0 = (0, (zbw t b n s0).2) := if_pos h
theorem fk_2 {t : TA} {b n : Nat} {s0 : Int32} (h : ¬ (zbw t b n s0).1 = -1) (g : (zbw (soG 1 t 0).1 b (n - 1) (zbw t b n s0).2).1 = -1) : zfk t b n s0 = (0, (zbw (soG 1 t 0).1 b (n - 1) (zbw t b n s0).2).2) := (if_neg h).trans (if_pos g)
theorem fk_3 {t : TA} {b n : Nat} {s0 : Int32} (h : ¬ (zbw t b n s0).1 = -1) (g : ¬ (zbw (soG 1 t 0).1 b (n - 1) (zbw t b n s0).2).1 = -1) : zfk t b n s0 = (1, ((soG 1 t 0).2 + (zbw (soG 1 t 0).1 b (n - 1) (zbw t b n s0).2).2) - (zbw t b n s0).2) := (if_neg h).trans (if_neg g)
noncomputable def wrF (t : TA) (p : Nat) : Nat → TA
  | 0 => t
  | b + 1 => if T_wh (wrF t p b) b = true then wrF t p b else rdT (wrF t p b) p b
theorem wr_nb (t : TA) (p : Nat) : ∀ n, T_nb (wrF t p n) = T_nb t ∧ T_np (wrF t p n) = T_np t := by
  intro n
  induction n with
  | zero => exact ⟨rfl, rfl⟩
  | succ n ih =>
    unfold wrF
    split
    · exact ih
    · exact ⟨(rdT_nb _ _ _).1.trans ih.1, (rdT_nb _ _ _).2.trans ih.2⟩
theorem wr_go {t : TA} {p b : Nat} (h : T_wh (wrF t p b) b = false) : wrF t p (b + 1) = rdT (wrF t p b) p b := by
  rw [wrF, if_neg (by rw [h]; decide)]
theorem wr_no {t : TA} {p b : Nat} (h : T_wh (wrF t p b) b = true) : wrF t p (b + 1) = wrF t p b := by
  rw [wrF, if_pos h]
noncomputable def zwr (t : TA) (p : Nat) : TA := wrF t p (T_nb t)
theorem nb_wr (t : TA) (p : Nat) : T_nb (zwr t p) = T_nb t := (wr_nb t p _).1
theorem np_wr (t : TA) (p : Nat) : T_np (zwr t p) = T_np t := (wr_nb t p _).2
theorem srG_nb (k a : Int32) : ∀ (n : Nat) (t : TA) (l s : Int32), T_nb (srG k a n t l s).1 = T_nb t ∧ T_np (srG k a n t l s).1 = T_np t := by
  intro n
  induction n with
  | zero => intro t l s; exact ⟨rfl, rfl⟩
  | succ n ih =>
    intro t l s
    rw [srG]
    split
    · exact ⟨rfl, rfl⟩
    · exact ⟨(ih _ _ _).1.trans ((zey_nb _).1.trans (zact_nb _ _ _).1), (ih _ _ _).2.trans ((zey_nb _).2.trans (zact_nb _ _ _).2)⟩
theorem nb_sr (k a : Int32) (n : Nat) (t : TA) (l s : Int32) : T_nb ((srG k a n t l s).1) = T_nb t := (srG_nb k a n t l s).1
theorem np_sr (k a : Int32) (n : Nat) (t : TA) (l s : Int32) : T_np ((srG k a n t l s).1) = T_np t := (srG_nb k a n t l s).2
theorem nI_sub1 {k : Nat} (h : 1 ≤ k) : nI k - 1 = nI (k - 1) := by
  obtain ⟨m, rfl⟩ : ∃ m, k = m + 1 := ⟨k - 1, by omega⟩
  exact nI_pred m
/-- under a kind -/
noncomputable def zun (k a : Int32) : Bool := if a = 0 then true else if a = 1 then decide (1 ≤ k) && decide (k ≤ 3) else if a = 4 then decide (4 ≤ k) && decide (k ≤ 6) else decide (k = a)
theorem sw_0_4 (x : Int32) : x = 0 ∨ x = 1 ∨ x = 2 ∨ x = 3 ∨ x = 4 ∨ (x.toInt < 0 ∨ 4 < x.toInt) := by
  rcases (show x.toInt = 0 ∨ x.toInt = 1 ∨ x.toInt = 2 ∨ x.toInt = 3 ∨ x.toInt = 4 ∨ (x.toInt < 0 ∨ 4 < x.toInt) by omega) with e | e | e | e | e | e
  · exact Or.inl (eqI (by decide +kernel) e)
  · exact Or.inr (Or.inl (eqI (by decide +kernel) e))
  · exact Or.inr (Or.inr (Or.inl (eqI (by decide +kernel) e)))
  · exact Or.inr (Or.inr (Or.inr (Or.inl (eqI (by decide +kernel) e))))
  · exact Or.inr (Or.inr (Or.inr (Or.inr (Or.inl (eqI (by decide +kernel) e)))))
  · exact Or.inr (Or.inr (Or.inr (Or.inr (Or.inr e))))
theorem sw_0_2 (x : Int32) : x = 0 ∨ x = 1 ∨ x = 2 ∨ (x.toInt < 0 ∨ 2 < x.toInt) := by
  rcases sw_0_4 x with e | e | e | e | e | e
  · exact Or.inl e
  · exact Or.inr (Or.inl e)
  · exact Or.inr (Or.inr (Or.inl e))
  · exact Or.inr (Or.inr (Or.inr (Or.inr (by rw [e]; decide))))
  · exact Or.inr (Or.inr (Or.inr (Or.inr (by rw [e]; decide))))
  · exact Or.inr (Or.inr (Or.inr (by omega)))
theorem un_d {k a : Int32} (h : a.toInt < 0 ∨ 4 < a.toInt) : zun k a = decide (k = a) := by
  have n : ∀ c : Int32, 0 ≤ c.toInt → c.toInt ≤ 4 → ¬ a = c := fun c h1 h2 e => by subst e; omega
  exact (if_neg (n 0 (by decide +kernel) (by decide +kernel))).trans ((if_neg (n 1 (by decide +kernel) (by decide +kernel))).trans (if_neg (n 4 (by decide +kernel) (by decide +kernel))))
end
