theorem ps_as {G : va_G} {H : Heap} {A : Nat → Prop} {ws : va_W} (ws' : va_W) (is : List Nat) (h : va_P G CL ws H) (d : va_D A ws) (hn : va_nd is = true) (hs : is.map (fun i => ws[i]?) = ws'.map some) : va_P G CL ws' H ∧ va_D A ws' := ⟨h.sub is (va_sub2 hs), d.sub is hn hs⟩
theorem wb_T0 : wb (T_wh T0) = 0 := by decide +kernel
theorem wg_T0 : wb (T_gn T0) = 0 := by decide +kernel
theorem sF_n : sF (refU none) (refU none) (refU none) (refU none) (refU none) = fun _ => none := by
  funext i
  unfold sF refU
  split
  · rfl
  · split
    · rfl
    · split
      · rfl
      · split
        · rfl
        · split <;> rfl
theorem sx_0 : SX T0 T0 T0 (fun _ => 0) 0 := ⟨⟨Nat.zero_le _, Nat.zero_le _⟩, ⟨Nat.zero_le _, Nat.zero_le _⟩, Nat.zero_le _, fun _ _ => ⟨0, Nat.zero_le _, rfl⟩, Nat.zero_le _⟩
theorem sm_0 : SM T0 none (fun _ => 0) (fun _ => 0) 0 := ⟨TI_0, (fun h => absurd (show false = true from h) (by decide +kernel)), fun _ _ => ⟨0, Nat.zero_le _, rfl⟩, fun _ _ => ⟨0, Nat.zero_le _, rfl⟩, Nat.zero_le _⟩
theorem lr_0 {fH : Nat → Int32} (h : ∀ i, i < 8 → fH i = -1) : LR 0 T0 T0 fH (fun _ => 0) (fun _ => 0) (fun _ => 0) 0 (fun _ => 0) (fun _ => 0) (fun _ => 0) (fun _ => 0) (fun _ => 0) (fun _ _ => 0) 0 T0 none (fun _ => 0) (fun _ => 0) := ⟨⟨rfl, ⟨fun _ => rfl, fun _ => rfl⟩, fun s hs => Or.inl ⟨rfl, h s hs⟩⟩, ⟨rfl, WI_0, fun q => (by cases q), rfl⟩⟩
set_option maxHeartbeats 8000000 in
set_option maxRecDepth 100000 in
theorem whole_start {p : Program} {e : Env} {s : State} {m : MethodId} {below : List Frame} {meth : Method} {c : Code} (l : Launch) (hflags : l.flags = flags0) {b L : Nat} {xs : Nat → Int32} (hL : L ≤ 384) (C0 : lw_At p s m meth c b L xs) : W p l e room_1 s m #[Value.ref b] below meth c s.heap [] 0 0 (lw_Z below #[Value.ref b] s) (entryFrame m ([Value.ref b] : List Value).toArray 4) := by
  obtain ⟨hx, hb, hr, hml, hown, hts0, hX, hbl, hlocks, hgv⟩ := C0
  obtain ⟨G, cy, hN⟩ := kn_start hts0 hgv
  have hts := kn_big hts0
  have hown : s.vm.findClass RL = some m.cls := hown
  obtain ⟨A, hAe⟩ : ∃ A : Nat → Prop, A = (fun q : Nat => s.heap.size ≤ q) := ⟨_, rfl⟩
  have hA : ∀ q : Nat, s.heap.size ≤ q → A q := fun q h => by rw [hAe]; exact h
  have hAn : ∀ q : Nat, A q → s.heap.size ≤ q := fun q h => by rw [hAe] at h; exact h
  have hSO : SO A s s.heap := so_start hts0 hgv (fun a ha h => Nat.not_le.mpr ha (hAn a h))
  have hbA : ¬ A b := fun h => Nat.not_le.mpr hbl (hAn b h)
  have hK := hN.1
  have hP : va_P G CL [] s.heap := va_P0
  have hD : va_D A [] := va_D0
  have hS : va_S A s.heap s.heap [] := va_S.rf
  have hl := lv_entry ([.ref b]) (n := 4) (Nat.le_of_ble_eq_true rfl)
  rw [lg_entry_eq]
  generalize (lg_sl ([.ref b]) ++ List.replicate (4 - (lg_sl ([.ref b])).length) Slot.unset).toArray = ls at hl ⊢
  have hl : lv_has ls 4 [(0, .ref b)] := hl
  refine va_new (ci := 4) (fs := [.null, .null, .null, .null, .null, .null, .int 0, .int 0, .int 0]) (C := RX5) (T := TX5) (N := 9) hx hb hts iX_X5 tyX5 tyX5_ok hown (hts _ m_t15) (hts _ m_t16) (hts _ m_t1) hK hP hD hS hA rfl df_X5 (Nat.le_of_ble_eq_true rfl) (Nat.le_of_ble_eq_true rfl) dL_law_0 (fun q_1 H => ?_)
  clear hP hD hS
  intro hP hD hS
  have hPD := pd_as [zzO q_1 4 [.null, .null, .null, .null, .null, .null, .int 0, .int 0, .int 0]] hP hD rfl
  clear hP hD
  obtain ⟨hP, hD⟩ := hPD
  refine W.widen (k := 1) (n := 9) (Nat.le_of_ble_eq_true rfl) (Nat.le_of_ble_eq_true rfl) ?_
  refine lv_dup hx hb dL_law_3 rfl ?_
  refine cIv (As := []) (rest := [.ref q_1]) (b := q_1) ⟨hx, hb, hml, hown, hts⟩ (k_X5_init l G cy (H).size q_1) L_L_9 hN hP hD hS hA [0] [false] rfl (by decide +kernel) rfl rfl ⟨Nat.le_of_ble_eq_true rfl, Nat.le_of_ble_eq_true rfl⟩ hl.1 (Nat.le_of_ble_eq_true rfl) dL_law_4 ⟨Nat.le_of_ble_eq_true rfl, Nat.le_of_ble_eq_true rfl⟩ (fun u_4 H locs h_3 => ?_)
  clear hP hD hS
  intro hP hD hS
  obtain ⟨qr_5, qt_6, qtw_7, qtn_8, qtg_9, qta_10, qtr_11, qtm_12, qtt_13, qts_14, qk_15, qkw_16, qkn_17, qkg_18, qka_19, qkr_20, qkm_21, qkt_22, qks_23, qp_24, qu_25, quw_26, qun_27, qug_28, qua_29, qur_30, qum_31, qut_32, qus_33, qv_34, qvw_35, qvn_36, qvg_37, qva_38, qvr_39, qvm_40, qvt_41, qvs_42, qs_43, qsh_44, qss_45, qsa_46, qse_47, fH_48, qa_49, qab_50, qd_51, qdw_52, qdn_53, qdg_54, qda_55, qdr_56, qdm_57, qdt_58, qds_59, rfl, h_60⟩ := h_3
  have hPD := pd_as [zzO q_1 4 [.ref qt_6, .ref qk_15, .ref qp_24, .ref qs_43, .ref qa_49, .ref qr_5, .int 0, .int 0, .int 0], zzI cy qr_5 5 (fun _ => 0), zzO qt_6 3 [.int 0, .int 0, .int 0, .int 0, .int 1, .ref qtw_7, .ref qtn_8, .ref qtg_9, .ref qta_10, .ref qtr_11, .ref qtm_12, .ref qtt_13, .ref qts_14], zzI cy qtw_7 8 (fun _ => 0), zzI cy qtn_8 8 (fun _ => 0), zzI cy qtg_9 8 (fun _ => 0), zzI cy qta_10 8 (fun _ => 0), zzI cy qtr_11 8 (fun _ => 0), zzI cy qtm_12 8 (fun _ => 0), zzI cy qtt_13 8 (fun _ => 0), zzI cy qts_14 64 (fun _ => 0), zzO qk_15 3 [.int 0, .int 0, .int 0, .int 0, .int 1, .ref qkw_16, .ref qkn_17, .ref qkg_18, .ref qka_19, .ref qkr_20, .ref qkm_21, .ref qkt_22, .ref qks_23], zzI cy qkw_16 8 (fun _ => 0), zzI cy qkn_17 8 (fun _ => 0), zzI cy qkg_18 8 (fun _ => 0), zzI cy qka_19 8 (fun _ => 0), zzI cy qkr_20 8 (fun _ => 0), zzI cy qkm_21 8 (fun _ => 0), zzI cy qkt_22 8 (fun _ => 0), zzI cy qks_23 64 (fun _ => 0), zzO qp_24 0 [.ref qu_25, .ref qv_34, .int 0, .int 0], zzO qu_25 3 [.int 0, .int 0, .int 0, .int 0, .int 1, .ref quw_26, .ref qun_27, .ref qug_28, .ref qua_29, .ref qur_30, .ref qum_31, .ref qut_32, .ref qus_33], zzI cy quw_26 8 (fun _ => 0), zzI cy qun_27 8 (fun _ => 0), zzI cy qug_28 8 (fun _ => 0), zzI cy qua_29 8 (fun _ => 0), zzI cy qur_30 8 (fun _ => 0), zzI cy qum_31 8 (fun _ => 0), zzI cy qut_32 8 (fun _ => 0), zzI cy qus_33 64 (fun _ => 0), zzO qv_34 3 [.int 0, .int 0, .int 0, .int 0, .int 1, .ref qvw_35, .ref qvn_36, .ref qvg_37, .ref qva_38, .ref qvr_39, .ref qvm_40, .ref qvt_41, .ref qvs_42], zzI cy qvw_35 8 (fun _ => 0), zzI cy qvn_36 8 (fun _ => 0), zzI cy qvg_37 8 (fun _ => 0), zzI cy qva_38 8 (fun _ => 0), zzI cy qvr_39 8 (fun _ => 0), zzI cy qvm_40 8 (fun _ => 0), zzI cy qvt_41 8 (fun _ => 0), zzI cy qvs_42 64 (fun _ => 0), zzO qs_43 1 [.ref qsh_44, .ref qss_45, .ref qsa_46, .ref qse_47], zzI cy qsh_44 8 fH_48, zzI cy qss_45 8 (fun _ => 0), zzI cy qsa_46 8 (fun _ => 0), zzJ cy qse_47 320 (fun _ => 0), zzO qa_49 2 [.ref qab_50, .int 0, .int 0, .int 0, .int 0, .int 0, .ref qd_51], zzB cy qab_50 250 (fun _ => 0), zzO qd_51 3 [.int 0, .int 0, .int 0, .int 0, .int 1, .ref qdw_52, .ref qdn_53, .ref qdg_54, .ref qda_55, .ref qdr_56, .ref qdm_57, .ref qdt_58, .ref qds_59], zzI cy qdw_52 8 (fun _ => 0), zzI cy qdn_53 8 (fun _ => 0), zzI cy qdg_54 8 (fun _ => 0), zzI cy qda_55 8 (fun _ => 0), zzI cy qdr_56 8 (fun _ => 0), zzI cy qdm_57 8 (fun _ => 0), zzI cy qdt_58 8 (fun _ => 0), zzI cy qds_59 64 (fun _ => 0)] hP hD rfl
  clear hP hD
  obtain ⟨hP, hD⟩ := hPD
  refine W.widen (k := 55) (n := 1288) (Nat.le_of_ble_eq_true rfl) (Nat.le_of_ble_eq_true rfl) ?_
  refine lv_astore_n (lv' := [(1, .ref q_1), (0, .ref b)]) hx hb dL_law_7 rfl hl (by decide +kernel) rfl (fun ls => ?_)
  clear hl
  intro hl
  refine va_new (ci := 5) (fs := [.null, .null, .null, .null, .null, .null, .null, .null, .int 0, .null, .int 0, .null, .int 0, .null, .null, .int 0, .int 0, .int 0, .null, .null, .int 0, .int 0, .int 0, .long 0, .int 0, .null, .int 0, .int 0, .int 0, .null, .null, .null, .null, .null, .int 0]) (C := RX6) (T := TX6) (N := 35) hx hb hts iX_X6 tyX6 tyX6_ok hown (hts _ m_t838) (hts _ m_t839) (hts _ m_t6) hK hP hD hS hA rfl df_X6 (Nat.le_of_ble_eq_true rfl) (Nat.le_of_ble_eq_true rfl) dL_law_8 (fun q_61 H => ?_)
  clear hP hD hS
  intro hP hD hS
  have hPD := pd_as [_, _, _, _, _, _, _, _, _, _, _, _, _, _, _, _, _, _, _, _, _, _, _, _, _, _, _, _, _, _, _, _, _, _, _, _, _, _, _, _, _, _, _, _, _, _, _, _, _, _, _, _, _, _, _, zzO q_61 5 [.null, .null, .null, .null, .null, .null, .null, .null, .int 0, .null, .int 0, .null, .int 0, .null, .null, .int 0, .int 0, .int 0, .null, .null, .int 0, .int 0, .int 0, .long 0, .int 0, .null, .int 0, .int 0, .int 0, .null, .null, .null, .null, .null, .int 0]] hP hD rfl
  clear hP hD
  obtain ⟨hP, hD⟩ := hPD
  refine W.widen (k := 56) (n := 1323) (Nat.le_of_ble_eq_true rfl) (Nat.le_of_ble_eq_true rfl) ?_
  refine lv_dup hx hb dL_law_11 rfl ?_
  refine cIv (As := []) (rest := [.ref q_61]) (b := q_61) ⟨hx, hb, hml, hown, hts⟩ (k_X6_init l G cy (H).size q_61) L_L_12 hN hP hD hS hA [55] [true, true, true, true, true, true, true, true, true, true, true, true, true, true, true, true, true, true, true, true, true, true, true, true, true, true, true, true, true, true, true, true, true, true, true, true, true, true, true, true, true, true, true, true, true, true, true, true, true, true, true, true, true, true, true, false] rfl (by decide +kernel) rfl rfl ⟨Nat.le_of_ble_eq_true rfl, Nat.le_of_ble_eq_true rfl⟩ hl.1 (Nat.le_of_ble_eq_true rfl) dL_law_12 ⟨Nat.le_of_ble_eq_true rfl, Nat.le_of_ble_eq_true rfl⟩ (fun u_64 H locs h_63 => ?_)
  clear hP hD hS
  intro hP hD hS
  obtain ⟨qmh_65, qmo_66, qmz_67, qmv_68, qmk_69, qma_70, qmt_71, qmr_72, qm_73, qmu_74, qmy_75, qmb_76, qmR_77, qmB_78, qmO_79, qmK_80, rR_81, rB_82, rO_83, rK_84, qms_85, rfl⟩ := h_63
  have hPD := pd_as [_, _, _, _, _, _, _, _, _, _, _, _, _, _, _, _, _, _, _, _, _, _, _, _, _, _, _, _, _, _, _, _, _, _, _, _, _, _, _, _, _, _, _, _, _, _, _, _, _, _, _, _, _, _, _, zzO q_61 5 [.ref qmh_65, .ref qmo_66, .ref qmz_67, .ref qmR_77, .ref qmv_68, .ref qmk_69, .ref qma_70, .ref qmt_71, .int 0, .ref qmr_72, .int 0, .ref qmB_78, .int 0, .ref qmO_79, .ref qmK_80, .int 0, .int 0, .int 1, .null, .null, .int 0, .int 0, .int 0, .long 0, .int 0, .ref qm_73, .int 0, .int 0, .int 0, .null, .ref qmu_74, .ref qmy_75, .ref qmb_76, .ref qms_85, .int 0], zzI cy qmh_65 8 (fun _ => 0), zzI cy qmo_66 8 (fun _ => 0), zzI cy qmz_67 8 (fun _ => 0), zzJ cy qmv_68 40 (fun _ => 0), zzI cy qmk_69 8 (fun _ => 0), zzI cy qma_70 8 (fun _ => 0), zzI cy qmt_71 250 (fun _ => 0), zzI cy qmr_72 8 (fun _ => 0), zzI cy qm_73 3 (fun _ => 0), zzI cy qmu_74 8 (fun _ => 0), zzI cy qmy_75 5 (fun _ => 0), zzI cy qmb_76 5 (fun _ => 0), zzG cy 4 qmR_77 rR_81, zzJ cy (rR_81 0) 40 (fun _ => 0), zzJ cy (rR_81 1) 40 (fun _ => 0), zzJ cy (rR_81 2) 40 (fun _ => 0), zzJ cy (rR_81 3) 40 (fun _ => 0), zzJ cy (rR_81 4) 40 (fun _ => 0), zzJ cy (rR_81 5) 40 (fun _ => 0), zzJ cy (rR_81 6) 40 (fun _ => 0), zzJ cy (rR_81 7) 40 (fun _ => 0), zzG cy 3 qmB_78 rB_82, zzI cy (rB_82 0) 4 (fun _ => 0), zzI cy (rB_82 1) 4 (fun _ => 0), zzI cy (rB_82 2) 4 (fun _ => 0), zzI cy (rB_82 3) 4 (fun _ => 0), zzI cy (rB_82 4) 4 (fun _ => 0), zzI cy (rB_82 5) 4 (fun _ => 0), zzI cy (rB_82 6) 4 (fun _ => 0), zzI cy (rB_82 7) 4 (fun _ => 0), zzG cy 3 qmO_79 rO_83, zzI cy (rO_83 0) 5 (fun _ => 0), zzI cy (rO_83 1) 5 (fun _ => 0), zzI cy (rO_83 2) 5 (fun _ => 0), zzI cy (rO_83 3) 5 (fun _ => 0), zzI cy (rO_83 4) 5 (fun _ => 0), zzI cy (rO_83 5) 5 (fun _ => 0), zzI cy (rO_83 6) 5 (fun _ => 0), zzI cy (rO_83 7) 5 (fun _ => 0), zzG cy 3 qmK_80 rK_84, zzI cy (rK_84 0) 8 (fun _ => 0), zzI cy (rK_84 1) 8 (fun _ => 0), zzI cy (rK_84 2) 8 (fun _ => 0), zzI cy (rK_84 3) 8 (fun _ => 0), zzI cy (rK_84 4) 8 (fun _ => 0), zzI cy (rK_84 5) 8 (fun _ => 0), zzI cy (rK_84 6) 8 (fun _ => 0), zzI cy (rK_84 7) 8 (fun _ => 0), zzQ cy 5 qms_85 6 (fun _ => none)] hP hD rfl
  clear hP hD
  obtain ⟨hP, hD⟩ := hPD
  refine W.widen (k := 105) (n := 2176) (Nat.le_of_ble_eq_true rfl) (Nat.le_of_ble_eq_true rfl) ?_
  refine lv_astore_n (lv' := [(2, .ref q_61), (1, .ref q_1), (0, .ref b)]) hx hb dL_law_15 rfl hl (by decide +kernel) rfl (fun ls => ?_)
  clear hl
  intro hl
  refine lv_iconst (v := 0) hx hb dL_law_16 (by decide +kernel) ?_
  refine lv_istore_n (lv' := [(3, .int 0), (2, .ref q_61), (1, .ref q_1), (0, .ref b)]) hx hb dL_law_17 rfl hl (by decide +kernel) rfl (fun ls => ?_)
  clear hl
  intro hl
  have hPD := ps_as ([zzO q_1 4 [.ref qt_6, .ref qk_15, .ref qp_24, .ref qs_43, .ref qa_49, .ref qr_5, .int 0, .int 0, .int 0], zzI cy qr_5 5 (fun _ => 0), zzO qt_6 3 [.int 0, .int 0, .int 0, .int 0, .int 1, .ref qtw_7, .ref qtn_8, .ref qtg_9, .ref qta_10, .ref qtr_11, .ref qtm_12, .ref qtt_13, .ref qts_14], zzI cy qtw_7 8 (fun _ => 0), zzI cy qtn_8 8 (fun _ => 0), zzI cy qtg_9 8 (fun _ => 0), zzI cy qta_10 8 (fun _ => 0), zzI cy qtr_11 8 (fun _ => 0), zzI cy qtm_12 8 (fun _ => 0), zzI cy qtt_13 8 (fun _ => 0), zzI cy qts_14 64 (fun _ => 0), zzO qk_15 3 [.int 0, .int 0, .int 0, .int 0, .int 1, .ref qkw_16, .ref qkn_17, .ref qkg_18, .ref qka_19, .ref qkr_20, .ref qkm_21, .ref qkt_22, .ref qks_23], zzI cy qkw_16 8 (fun _ => 0), zzI cy qkn_17 8 (fun _ => 0), zzI cy qkg_18 8 (fun _ => 0), zzI cy qka_19 8 (fun _ => 0), zzI cy qkr_20 8 (fun _ => 0), zzI cy qkm_21 8 (fun _ => 0), zzI cy qkt_22 8 (fun _ => 0), zzI cy qks_23 64 (fun _ => 0), zzO qp_24 0 [.ref qu_25, .ref qv_34, .int 0, .int 0], zzO qu_25 3 [.int 0, .int 0, .int 0, .int 0, .int 1, .ref quw_26, .ref qun_27, .ref qug_28, .ref qua_29, .ref qur_30, .ref qum_31, .ref qut_32, .ref qus_33], zzI cy quw_26 8 (fun _ => 0), zzI cy qun_27 8 (fun _ => 0), zzI cy qug_28 8 (fun _ => 0), zzI cy qua_29 8 (fun _ => 0), zzI cy qur_30 8 (fun _ => 0), zzI cy qum_31 8 (fun _ => 0), zzI cy qut_32 8 (fun _ => 0), zzI cy qus_33 64 (fun _ => 0), zzO qv_34 3 [.int 0, .int 0, .int 0, .int 0, .int 1, .ref qvw_35, .ref qvn_36, .ref qvg_37, .ref qva_38, .ref qvr_39, .ref qvm_40, .ref qvt_41, .ref qvs_42], zzI cy qvw_35 8 (fun _ => 0), zzI cy qvn_36 8 (fun _ => 0), zzI cy qvg_37 8 (fun _ => 0), zzI cy qva_38 8 (fun _ => 0), zzI cy qvr_39 8 (fun _ => 0), zzI cy qvm_40 8 (fun _ => 0), zzI cy qvt_41 8 (fun _ => 0), zzI cy qvs_42 64 (fun _ => 0), zzO qs_43 1 [.ref qsh_44, .ref qss_45, .ref qsa_46, .ref qse_47], zzI cy qsh_44 8 fH_48, zzI cy qss_45 8 (fun _ => 0), zzI cy qsa_46 8 (fun _ => 0), zzJ cy qse_47 320 (fun _ => 0), zzO qa_49 2 [.ref qab_50, .int 0, .int 0, .int 0, .int 0, .int 0, .ref qd_51], zzB cy qab_50 250 (fun _ => 0), zzO qd_51 3 [.int 0, .int 0, .int 0, .int 0, .int 1, .ref qdw_52, .ref qdn_53, .ref qdg_54, .ref qda_55, .ref qdr_56, .ref qdm_57, .ref qdt_58, .ref qds_59], zzI cy qdw_52 8 (fun _ => 0), zzI cy qdn_53 8 (fun _ => 0), zzI cy qdg_54 8 (fun _ => 0), zzI cy qda_55 8 (fun _ => 0), zzI cy qdr_56 8 (fun _ => 0), zzI cy qdm_57 8 (fun _ => 0), zzI cy qdt_58 8 (fun _ => 0), zzI cy qds_59 64 (fun _ => 0)] ++ [zzO q_61 5 [.ref qmh_65, .ref qmo_66, .ref qmz_67, .ref qmR_77, .ref qmv_68, .ref qmk_69, .ref qma_70, .ref qmt_71, .int 0, .ref qmr_72, .int 0, .ref qmB_78, .int 0, .ref qmO_79, .ref qmK_80, .int 0, .int 0, .int 1, .null, .null, .int 0, .int 0, .int 0, .long 0, .int 0, .ref qm_73, .int 0, .int 0, .int 0, .null, .ref qmu_74, .ref qmy_75, .ref qmb_76, .ref qms_85, .int 0], zzI cy qmh_65 8 (fun _ => 0), zzI cy qmo_66 8 (fun _ => 0), zzI cy qmz_67 8 (fun _ => 0), zzJ cy qmv_68 40 (fun _ => 0), zzI cy qmk_69 8 (fun _ => 0), zzI cy qma_70 8 (fun _ => 0), zzI cy qmt_71 250 (fun _ => 0), zzI cy qmr_72 8 (fun _ => 0), zzI cy qm_73 3 (fun _ => 0), zzI cy qmu_74 8 (fun _ => 0), zzI cy qmy_75 5 (fun _ => 0), zzI cy qmb_76 5 (fun _ => 0), zzQ cy 5 qms_85 6 (fun _ => none), zzG cy 4 qmR_77 rR_81, zzJ cy (rR_81 0) 40 (fun _ => 0), zzJ cy (rR_81 1) 40 (fun _ => 0), zzJ cy (rR_81 2) 40 (fun _ => 0), zzJ cy (rR_81 3) 40 (fun _ => 0), zzJ cy (rR_81 4) 40 (fun _ => 0), zzJ cy (rR_81 5) 40 (fun _ => 0), zzJ cy (rR_81 6) 40 (fun _ => 0), zzJ cy (rR_81 7) 40 (fun _ => 0), zzG cy 3 qmB_78 rB_82, zzI cy (rB_82 0) 4 (fun _ => 0), zzI cy (rB_82 1) 4 (fun _ => 0), zzI cy (rB_82 2) 4 (fun _ => 0), zzI cy (rB_82 3) 4 (fun _ => 0), zzI cy (rB_82 4) 4 (fun _ => 0), zzI cy (rB_82 5) 4 (fun _ => 0), zzI cy (rB_82 6) 4 (fun _ => 0), zzI cy (rB_82 7) 4 (fun _ => 0), zzG cy 3 qmO_79 rO_83, zzI cy (rO_83 0) 5 (fun _ => 0), zzI cy (rO_83 1) 5 (fun _ => 0), zzI cy (rO_83 2) 5 (fun _ => 0), zzI cy (rO_83 3) 5 (fun _ => 0), zzI cy (rO_83 4) 5 (fun _ => 0), zzI cy (rO_83 5) 5 (fun _ => 0), zzI cy (rO_83 6) 5 (fun _ => 0), zzI cy (rO_83 7) 5 (fun _ => 0), zzG cy 3 qmK_80 rK_84, zzI cy (rK_84 0) 8 (fun _ => 0), zzI cy (rK_84 1) 8 (fun _ => 0), zzI cy (rK_84 2) 8 (fun _ => 0), zzI cy (rK_84 3) 8 (fun _ => 0), zzI cy (rK_84 4) 8 (fun _ => 0), zzI cy (rK_84 5) 8 (fun _ => 0), zzI cy (rK_84 6) 8 (fun _ => 0), zzI cy (rK_84 7) 8 (fun _ => 0)]) [0, 1, 2, 3, 4, 5, 6, 7, 8, 9, 10, 11, 12, 13, 14, 15, 16, 17, 18, 19, 20, 21, 22, 23, 24, 25, 26, 27, 28, 29, 30, 31, 32, 33, 34, 35, 36, 37, 38, 39, 40, 41, 42, 43, 44, 45, 46, 47, 48, 49, 50, 51, 52, 53, 54, 55, 56, 57, 58, 59, 60, 61, 62, 63, 64, 65, 66, 67, 104, 68, 69, 70, 71, 72, 73, 74, 75, 76, 77, 78, 79, 80, 81, 82, 83, 84, 85, 86, 87, 88, 89, 90, 91, 92, 93, 94, 95, 96, 97, 98, 99, 100, 101, 102, 103] hP hD (by decide +kernel) rfl
  clear hP hD
  obtain ⟨hP, hD⟩ := hPD
  have eW : ((XW cy (fun i => List.getD [q_1, qr_5, qt_6, qtw_7, qtn_8, qtg_9, qta_10, qtr_11, qtm_12, qtt_13, qts_14, qk_15, qkw_16, qkn_17, qkg_18, qka_19, qkr_20, qkm_21, qkt_22, qks_23, qp_24, qu_25, quw_26, qun_27, qug_28, qua_29, qur_30, qum_31, qut_32, qus_33, qv_34, qvw_35, qvn_36, qvg_37, qva_38, qvr_39, qvm_40, qvt_41, qvs_42, qs_43, qsh_44, qss_45, qsa_46, qse_47, qa_49, qab_50, qd_51, qdw_52, qdn_53, qdg_54, qda_55, qdr_56, qdm_57, qdt_58, qds_59] i 0) 0 0 0 (fun _ => 0) T0 T0 0 0 T0 T0 fH_48 (fun _ => 0) (fun _ => 0) (fun _ => 0) 0 0 0 0 0 (fun _ => 0) T0) ++ ((MK cy (fun i => List.getD [q_61, qmh_65, qmo_66, qmz_67, qmv_68, qmk_69, qma_70, qmt_71, qmr_72, qm_73, qmu_74, qmy_75, qmb_76, qms_85, qmR_77, qmB_78, qmO_79, qmK_80] i 0) rR_81 rB_82 rO_83 rK_84 (fun _ => 0) (fun _ => 0) (fun _ => 0) (fun _ => 0) (fun _ => 0) (fun _ => 0) (fun _ => 0) 0 (fun _ => 0) (fun _ => 0) (fun _ => 0) (fun _ => 0) (fun _ => 0) (fun _ _ => 0) T0 0 0 none none 0 0 0 0 0 0 0 0 none none none none none none 0) ++ (oM cy none ++ (oL cy none ++ (oM cy none ++ (oM cy none ++ (oM cy none ++ (oM cy none ++ (oM cy none ++ oM cy none))))))))) = ([zzO q_1 4 [.ref qt_6, .ref qk_15, .ref qp_24, .ref qs_43, .ref qa_49, .ref qr_5, .int 0, .int 0, .int 0], zzI cy qr_5 5 (fun _ => 0), zzO qt_6 3 [.int 0, .int 0, .int 0, .int 0, .int 1, .ref qtw_7, .ref qtn_8, .ref qtg_9, .ref qta_10, .ref qtr_11, .ref qtm_12, .ref qtt_13, .ref qts_14], zzI cy qtw_7 8 (fun _ => 0), zzI cy qtn_8 8 (fun _ => 0), zzI cy qtg_9 8 (fun _ => 0), zzI cy qta_10 8 (fun _ => 0), zzI cy qtr_11 8 (fun _ => 0), zzI cy qtm_12 8 (fun _ => 0), zzI cy qtt_13 8 (fun _ => 0), zzI cy qts_14 64 (fun _ => 0), zzO qk_15 3 [.int 0, .int 0, .int 0, .int 0, .int 1, .ref qkw_16, .ref qkn_17, .ref qkg_18, .ref qka_19, .ref qkr_20, .ref qkm_21, .ref qkt_22, .ref qks_23], zzI cy qkw_16 8 (fun _ => 0), zzI cy qkn_17 8 (fun _ => 0), zzI cy qkg_18 8 (fun _ => 0), zzI cy qka_19 8 (fun _ => 0), zzI cy qkr_20 8 (fun _ => 0), zzI cy qkm_21 8 (fun _ => 0), zzI cy qkt_22 8 (fun _ => 0), zzI cy qks_23 64 (fun _ => 0), zzO qp_24 0 [.ref qu_25, .ref qv_34, .int 0, .int 0], zzO qu_25 3 [.int 0, .int 0, .int 0, .int 0, .int 1, .ref quw_26, .ref qun_27, .ref qug_28, .ref qua_29, .ref qur_30, .ref qum_31, .ref qut_32, .ref qus_33], zzI cy quw_26 8 (fun _ => 0), zzI cy qun_27 8 (fun _ => 0), zzI cy qug_28 8 (fun _ => 0), zzI cy qua_29 8 (fun _ => 0), zzI cy qur_30 8 (fun _ => 0), zzI cy qum_31 8 (fun _ => 0), zzI cy qut_32 8 (fun _ => 0), zzI cy qus_33 64 (fun _ => 0), zzO qv_34 3 [.int 0, .int 0, .int 0, .int 0, .int 1, .ref qvw_35, .ref qvn_36, .ref qvg_37, .ref qva_38, .ref qvr_39, .ref qvm_40, .ref qvt_41, .ref qvs_42], zzI cy qvw_35 8 (fun _ => 0), zzI cy qvn_36 8 (fun _ => 0), zzI cy qvg_37 8 (fun _ => 0), zzI cy qva_38 8 (fun _ => 0), zzI cy qvr_39 8 (fun _ => 0), zzI cy qvm_40 8 (fun _ => 0), zzI cy qvt_41 8 (fun _ => 0), zzI cy qvs_42 64 (fun _ => 0), zzO qs_43 1 [.ref qsh_44, .ref qss_45, .ref qsa_46, .ref qse_47], zzI cy qsh_44 8 fH_48, zzI cy qss_45 8 (fun _ => 0), zzI cy qsa_46 8 (fun _ => 0), zzJ cy qse_47 320 (fun _ => 0), zzO qa_49 2 [.ref qab_50, .int 0, .int 0, .int 0, .int 0, .int 0, .ref qd_51], zzB cy qab_50 250 (fun _ => 0), zzO qd_51 3 [.int 0, .int 0, .int 0, .int 0, .int 1, .ref qdw_52, .ref qdn_53, .ref qdg_54, .ref qda_55, .ref qdr_56, .ref qdm_57, .ref qdt_58, .ref qds_59], zzI cy qdw_52 8 (fun _ => 0), zzI cy qdn_53 8 (fun _ => 0), zzI cy qdg_54 8 (fun _ => 0), zzI cy qda_55 8 (fun _ => 0), zzI cy qdr_56 8 (fun _ => 0), zzI cy qdm_57 8 (fun _ => 0), zzI cy qdt_58 8 (fun _ => 0), zzI cy qds_59 64 (fun _ => 0)] ++ [zzO q_61 5 [.ref qmh_65, .ref qmo_66, .ref qmz_67, .ref qmR_77, .ref qmv_68, .ref qmk_69, .ref qma_70, .ref qmt_71, .int 0, .ref qmr_72, .int 0, .ref qmB_78, .int 0, .ref qmO_79, .ref qmK_80, .int 0, .int 0, .int 1, .null, .null, .int 0, .int 0, .int 0, .long 0, .int 0, .ref qm_73, .int 0, .int 0, .int 0, .null, .ref qmu_74, .ref qmy_75, .ref qmb_76, .ref qms_85, .int 0], zzI cy qmh_65 8 (fun _ => 0), zzI cy qmo_66 8 (fun _ => 0), zzI cy qmz_67 8 (fun _ => 0), zzJ cy qmv_68 40 (fun _ => 0), zzI cy qmk_69 8 (fun _ => 0), zzI cy qma_70 8 (fun _ => 0), zzI cy qmt_71 250 (fun _ => 0), zzI cy qmr_72 8 (fun _ => 0), zzI cy qm_73 3 (fun _ => 0), zzI cy qmu_74 8 (fun _ => 0), zzI cy qmy_75 5 (fun _ => 0), zzI cy qmb_76 5 (fun _ => 0), zzQ cy 5 qms_85 6 (fun _ => none), zzG cy 4 qmR_77 rR_81, zzJ cy (rR_81 0) 40 (fun _ => 0), zzJ cy (rR_81 1) 40 (fun _ => 0), zzJ cy (rR_81 2) 40 (fun _ => 0), zzJ cy (rR_81 3) 40 (fun _ => 0), zzJ cy (rR_81 4) 40 (fun _ => 0), zzJ cy (rR_81 5) 40 (fun _ => 0), zzJ cy (rR_81 6) 40 (fun _ => 0), zzJ cy (rR_81 7) 40 (fun _ => 0), zzG cy 3 qmB_78 rB_82, zzI cy (rB_82 0) 4 (fun _ => 0), zzI cy (rB_82 1) 4 (fun _ => 0), zzI cy (rB_82 2) 4 (fun _ => 0), zzI cy (rB_82 3) 4 (fun _ => 0), zzI cy (rB_82 4) 4 (fun _ => 0), zzI cy (rB_82 5) 4 (fun _ => 0), zzI cy (rB_82 6) 4 (fun _ => 0), zzI cy (rB_82 7) 4 (fun _ => 0), zzG cy 3 qmO_79 rO_83, zzI cy (rO_83 0) 5 (fun _ => 0), zzI cy (rO_83 1) 5 (fun _ => 0), zzI cy (rO_83 2) 5 (fun _ => 0), zzI cy (rO_83 3) 5 (fun _ => 0), zzI cy (rO_83 4) 5 (fun _ => 0), zzI cy (rO_83 5) 5 (fun _ => 0), zzI cy (rO_83 6) 5 (fun _ => 0), zzI cy (rO_83 7) 5 (fun _ => 0), zzG cy 3 qmK_80 rK_84, zzI cy (rK_84 0) 8 (fun _ => 0), zzI cy (rK_84 1) 8 (fun _ => 0), zzI cy (rK_84 2) 8 (fun _ => 0), zzI cy (rK_84 3) 8 (fun _ => 0), zzI cy (rK_84 4) 8 (fun _ => 0), zzI cy (rK_84 5) 8 (fun _ => 0), zzI cy (rK_84 6) 8 (fun _ => 0), zzI cy (rK_84 7) 8 (fun _ => 0)]) := by
    unfold XW MK
    rw [wb_T0, wg_T0, bk_T0 0, bk_T0 1, bk_T0 2, bk_T0 3, bk_T0 4, bk_T0 5, bk_T0 6, bk_T0 7, on_T0 0, on_T0 1, on_T0 2, on_T0 3, on_T0 4, on_T0 5, on_T0 6, on_T0 7, sF_n]
    rfl
  refine law_loop (aX := (fun i => List.getD [q_1, qr_5, qt_6, qtw_7, qtn_8, qtg_9, qta_10, qtr_11, qtm_12, qtt_13, qts_14, qk_15, qkw_16, qkn_17, qkg_18, qka_19, qkr_20, qkm_21, qkt_22, qks_23, qp_24, qu_25, quw_26, qun_27, qug_28, qua_29, qur_30, qum_31, qut_32, qus_33, qv_34, qvw_35, qvn_36, qvg_37, qva_38, qvr_39, qvm_40, qvt_41, qvs_42, qs_43, qsh_44, qss_45, qsa_46, qse_47, qa_49, qab_50, qd_51, qdw_52, qdn_53, qdg_54, qda_55, qdr_56, qdm_57, qdt_58, qds_59] i 0)) (aM := (fun i => List.getD [q_61, qmh_65, qmo_66, qmz_67, qmv_68, qmk_69, qma_70, qmt_71, qmr_72, qm_73, qmu_74, qmy_75, qmb_76, qms_85, qmR_77, qmB_78, qmO_79, qmK_80] i 0)) (rR := rR_81) (rB := rB_82) (rO := rO_83) (rK := rK_84) hx hb hr hml hown hts hX hbl hlocks hN hA hAn hbA hSO hL 64 0 _ _ _ _ _ (by omega) (by omega) (Nat.le_of_ble_eq_true rfl) (Nat.le_of_ble_eq_true rfl) ⟨0, 0, 0, (fun _ => 0), T0, T0, 0, 0, T0, T0, fH_48, (fun _ => 0), (fun _ => 0), (fun _ => 0), 0, 0, 0, 0, 0, (fun _ => 0), T0, (fun _ => 0), (fun _ => 0), (fun _ => 0), (fun _ => 0), (fun _ => 0), (fun _ => 0), (fun _ => 0), 0, (fun _ => 0), (fun _ => 0), (fun _ => 0), (fun _ => 0), (fun _ => 0), (fun _ _ => 0), T0, 0, 0, none, none, 0, 0, 0, 0, 0, 0, 0, 0, none, none, none, none, none, none, 0, by rw [eW]; exact hP, by rw [eW]; exact hD, sx_0, sm_0, lr_0 h_60⟩ hS ?_
  exact lv_sub hl [0, 1, 2, 3] rfl
set_option maxHeartbeats 4000000 in
theorem lw_walk (l : Launch) (hflags : l.flags = flags0) (b : Addr) (xs : List Int32) : MetFree l x (headSpec (Jvm.Cond.code x code maxLocals ret :: tables_1) room_1) (lw_P b xs) (fun _ _ _ _ _ => True) lw_Q := by
  refine MetFree.of_bodyS (code := code) (maxLocals := maxLocals) (ret := ret) (by decide +kernel) ?_ ?_
  · intro args s m h hn
    obtain ⟨meth, c, h1, h2, h3, h4, h5, h6, -, -⟩ := Cond.code_spec hn (atoms_spec (ws := Jvm.Cond.code x code maxLocals ret :: tables_1) h _ List.mem_cons_self)
    exact ⟨meth, c, h1, h2, h3, h4, h5, h6⟩
  · intro p e s m args below meth c s₁ B hml0 hP _
    obtain ⟨rfl, hx, hbd, hgv⟩ := hP
    obtain ⟨scr, harrAt, hlist, hof, hsmall⟩ := hx
    obtain ⟨hcb, hkn, -, -⟩ := State.arrayAt?_spec harrAt
    have hown : s.vm.findClass R_law = some m.cls := findClass_of_methodNamed B.named
    have hts0 : ∀ c ∈ (Jvm.Cond.code x code maxLocals ret :: tables_1), c.before #[Value.ref b] s = true := atoms_spec (ws := Jvm.Cond.code x code maxLocals ret :: tables_1) B.pre
    have hts : ∀ w ∈ lw_tbl, w.before #[Value.ref b] s = true := k2_hts_sels lw_privs (fun w hw => hts0 w (List.mem_cons_of_mem _ hw)) lw_privs_ok
    have hml : c.maxLocals = 4 := B.maxLocals_eq (hts0 _ List.mem_cons_self)
    have X₀ : Stand p l e room_1 s m #[Value.ref b] below meth c s₁ [] 0 0 := Stand.of_body B
    have hh0 : s₁.heap = s.heap := by rw [B.state]; rfl
    have hsz : scr.slots.size = xs.length := by rw [← Array.length_toList, hlist, List.length_map]
    have hval : ∀ j : Nat, j < xs.length → scr.slots[j]? = some (.int (xs.getD j 0)) := fun j hj => by
      rw [← Array.getElem?_toList, hlist]
      simp [hj]
    have hbl : b < s.heap.size := (Array.getElem?_eq_some_iff.mp hcb).1
    have hX : va_X b xs.length (fun j => xs.getD j 0) s s.heap := ⟨scr, hcb, hof, hkn, hsz, hval⟩
    have K : W p l e room_1 s m #[Value.ref b] below meth c s₁.heap [] 0 0 (lw_Z below #[Value.ref b] s) (entryFrame m ([Value.ref b] : List Value).toArray 4) := by
      rw [hh0]
      exact whole_start l hflags hbd ⟨B.exec, B.bytes, B.returns, hml, hown, hts, hX, hbl, B.notSynchronized, hgv⟩
    obtain ⟨t, a1, o, b1, b2, b3⟩ := K s₁ rfl X₀
    exact ⟨t, o, a1, b1, b2, b3⟩
theorem lw_pre_spec {args : Array Value} {s : State} (h : (Jvm.Cond.and given_1 narrow_1).before args s = true) (hr : rest_1_c.before args s = true) : ∃ (b : Addr) (xs : List Int32), lw_P b xs args s := by
  have hs := flat_of_before _ h
  have hq := flat_of_before _ hr
  have hc : (Cond.count 1).before args s = true := hs _ (by decide +kernel)
  have harr : (Cond.arrayOf (.arg 0) .int).before args s = true := hs _ (by decide +kernel)
  have hle : (Cond.le (.length (.arg 0)) (.int 384)).before args s = true := hs _ (by decide +kernel)
  have hlen : (Cond.isInt (.length (.arg 0))).before args s = true := hq _ (by decide +kernel)
  have hall : (Cond.all (.arg 0) (.isInt (.elem (.arg 0) (.index 0)))).before args s = true := hq _ (by decide +kernel)
  obtain ⟨b, xs, hb, hx⟩ := State.ints_of_pre rfl harr hlen hall
  have hsm : xs.length < 2 ^ 31 := hx.choose_spec.2.2.2
  have hev : (Term.length (.arg 0)).eval args s none [] s = some (.int xs.length.toInt32) := hx.length_eval hb
  have hv := Cond.le_ints hev (show (Term.int 384).eval args s none [] s = some (.int 384) from rfl)
  have hd : xs.length.toInt32 ≤ 384 := by
    simpa [Cond.before, Cond.holds, hv] using hle
  have hN : xs.length ≤ 384 := (Int32.ofNat_le_ofNat hsm (by decide +kernel)).mp (show Int32.ofNat xs.length ≤ Int32.ofNat 384 from hd)
  exact ⟨b, xs, Cond.one_arg hc (show args[0]? = some (.ref b) from hb), hx, hN, h⟩
theorem lw_comes (l : Launch) (hflags : l.flags = flags0) : Comes l x (Jvm.Cond.code x code maxLocals ret :: tables_1) room_1 (fun tb e args s => Calls_1 tb e args s ∧ rest_1 tb e args s ∧ Pre_1 tb e args s)
    (fun _ _ args s o t => lw_Q args s o t) := by
  intro p e ha hc hk s m args below hf hfit hheap happ hpre
  obtain ⟨b, xs, hP⟩ := lw_pre_spec hpre.2.2 hpre.2.1
  obtain ⟨k, o, h1, h2, h3, hQ⟩ := lw_walk l hflags b xs p e ha hc hk s m args below hf ((Spec.applies_iff_loose hf).mp happ).1 hP trivial
  exact ⟨k, o, h1, h2, h3, hQ⟩
theorem lw_frame {s t : State} {o : Outcome} {args : Array Value} (h : Framed s o t [] 600000 7302250) :
    Framed s o t (fieldLocs frame_1_writes args s ++ arrayLocs frame_1_arrays args s ++ staticLocs frame_1_statics s) 600000 7302250 := h
theorem lw_limb (L : Cond) (hL : ∀ (args : Array Value) (s t : State), L.after args s (.returned (some (.int 1))) t = true) :
    ArmFor flags0 classFile x code maxLocals ret World_1 tables_1 room_1 Calls_1 rest_1 Pre_1
      (fun tb e a s o t => postC L tb e a s o t ∧ Framed s o t (fieldLocs frame_1_writes a s ++ arrayLocs frame_1_arrays a s ++ staticLocs frame_1_statics s) 600000 7302250) := by
  intro l hflags _ _ p e ha hc hk s m args below hf hfit hheap happ hpre
  obtain ⟨k, o, h1, h2, h3, rfl, hF⟩ := lw_comes l hflags p e ha hc hk s m args below hf hfit hheap happ hpre
  exact ⟨k, _, h1, h2, h3, hL args s _, lw_frame hF⟩
theorem i_vc : Claimed_1_1 ∧ Claimed_1_2 := ⟨lw_limb limb_1_1 (fun args s t => by simp [limb_1_1, Cond.after, Cond.holds, Cond.value]), lw_limb limb_1_2 (fun args s t => Cond.after_iff.mpr (by
  first | (rw [show limb_1_2 = Cond.eq .result (.int 1) from rfl, Cond.eq_ints (x := 1) (y := 1) rfl rfl]; simp; done) | (simp [limb_1_2, Cond.value, Term.eval]; done)))⟩
