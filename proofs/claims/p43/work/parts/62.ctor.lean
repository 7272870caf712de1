theorem dX0_init_0 : decode cX0_init 0 = .ok (.aload_n 0, 1) := by decide +kernel
theorem dX0_init_1 : decode cX0_init 1 = .ok (.invokespecial 3, 3) := by decide +kernel
theorem dX0_init_4 : decode cX0_init 4 = .ok (.aload_n 0, 1) := by decide +kernel
theorem dX0_init_5 : decode cX0_init 5 = .ok (.new 9, 3) := by decide +kernel
theorem dX0_init_8 : decode cX0_init 8 = .ok (.dup, 1) := by decide +kernel
theorem dX0_init_9 : decode cX0_init 9 = .ok (.invokespecial 11, 3) := by decide +kernel
theorem dX0_init_12 : decode cX0_init 12 = .ok (.putfield 12, 3) := by decide +kernel
theorem dX0_init_15 : decode cX0_init 15 = .ok (.aload_n 0, 1) := by decide +kernel
theorem dX0_init_16 : decode cX0_init 16 = .ok (.new 9, 3) := by decide +kernel
theorem dX0_init_19 : decode cX0_init 19 = .ok (.dup, 1) := by decide +kernel
theorem dX0_init_20 : decode cX0_init 20 = .ok (.invokespecial 11, 3) := by decide +kernel
theorem dX0_init_23 : decode cX0_init 23 = .ok (.putfield 18, 3) := by decide +kernel
theorem dX0_init_26 : decode cX0_init 26 = .ok (.return_, 1) := by decide +kernel
theorem dX2_init_0 : decode cX2_init 0 = .ok (.aload_n 0, 1) := by decide +kernel
theorem dX2_init_1 : decode cX2_init 1 = .ok (.invokespecial 3, 3) := by decide +kernel
theorem dX2_init_4 : decode cX2_init 4 = .ok (.aload_n 0, 1) := by decide +kernel
theorem dX2_init_5 : decode cX2_init 5 = .ok (.bipush 8, 2) := by decide +kernel
theorem dX2_init_7 : decode cX2_init 7 = .ok (.newarray .int, 2) := by decide +kernel
theorem dX2_init_9 : decode cX2_init 9 = .ok (.putfield 9, 3) := by decide +kernel
theorem dX2_init_12 : decode cX2_init 12 = .ok (.aload_n 0, 1) := by decide +kernel
theorem dX2_init_13 : decode cX2_init 13 = .ok (.bipush 8, 2) := by decide +kernel
theorem dX2_init_15 : decode cX2_init 15 = .ok (.newarray .int, 2) := by decide +kernel
theorem dX2_init_17 : decode cX2_init 17 = .ok (.putfield 15, 3) := by decide +kernel
theorem dX2_init_20 : decode cX2_init 20 = .ok (.aload_n 0, 1) := by decide +kernel
theorem dX2_init_21 : decode cX2_init 21 = .ok (.bipush 8, 2) := by decide +kernel
theorem dX2_init_23 : decode cX2_init 23 = .ok (.newarray .int, 2) := by decide +kernel
theorem dX2_init_25 : decode cX2_init 25 = .ok (.putfield 18, 3) := by decide +kernel
theorem dX2_init_28 : decode cX2_init 28 = .ok (.aload_n 0, 1) := by decide +kernel
theorem dX2_init_29 : decode cX2_init 29 = .ok (.sipush 320, 3) := by decide +kernel
theorem dX2_init_32 : decode cX2_init 32 = .ok (.newarray .long, 2) := by decide +kernel
theorem dX2_init_34 : decode cX2_init 34 = .ok (.putfield 21, 3) := by decide +kernel
theorem dX2_init_37 : decode cX2_init 37 = .ok (.iconst 0, 1) := by decide +kernel
theorem dX2_init_38 : decode cX2_init 38 = .ok (.istore_n 1, 1) := by decide +kernel
theorem dX2_init_39 : decode cX2_init 39 = .ok (.iload_n 1, 1) := by decide +kernel
theorem dX2_init_40 : decode cX2_init 40 = .ok (.bipush 8, 2) := by decide +kernel
theorem dX2_init_42 : decode cX2_init 42 = .ok (.if_icmp .ge 16, 3) := by decide +kernel
theorem dX2_init_45 : decode cX2_init 45 = .ok (.aload_n 0, 1) := by decide +kernel
theorem dX2_init_46 : decode cX2_init 46 = .ok (.getfield 9, 3) := by decide +kernel
theorem dX2_init_49 : decode cX2_init 49 = .ok (.iload_n 1, 1) := by decide +kernel
theorem dX2_init_50 : decode cX2_init 50 = .ok (.iconst (-1), 1) := by decide +kernel
theorem dX2_init_51 : decode cX2_init 51 = .ok (.iastore, 1) := by decide +kernel
theorem dX2_init_52 : decode cX2_init 52 = .ok (.iinc 1 1, 3) := by decide +kernel
theorem dX2_init_55 : decode cX2_init 55 = .ok (.goto (-16), 3) := by decide +kernel
theorem dX2_init_58 : decode cX2_init 58 = .ok (.return_, 1) := by decide +kernel
theorem dX3_init_0 : decode cX3_init 0 = .ok (.aload_n 0, 1) := by decide +kernel
theorem dX3_init_1 : decode cX3_init 1 = .ok (.invokespecial 3, 3) := by decide +kernel
theorem dX3_init_4 : decode cX3_init 4 = .ok (.aload_n 0, 1) := by decide +kernel
theorem dX3_init_5 : decode cX3_init 5 = .ok (.sipush 250, 3) := by decide +kernel
theorem dX3_init_8 : decode cX3_init 8 = .ok (.newarray .byte, 2) := by decide +kernel
theorem dX3_init_10 : decode cX3_init 10 = .ok (.putfield 11, 3) := by decide +kernel
theorem dX3_init_13 : decode cX3_init 13 = .ok (.aload_n 0, 1) := by decide +kernel
theorem dX3_init_14 : decode cX3_init 14 = .ok (.new 15, 3) := by decide +kernel
theorem dX3_init_17 : decode cX3_init 17 = .ok (.dup, 1) := by decide +kernel
theorem dX3_init_18 : decode cX3_init 18 = .ok (.invokespecial 17, 3) := by decide +kernel
theorem dX3_init_21 : decode cX3_init 21 = .ok (.putfield 18, 3) := by decide +kernel
theorem dX3_init_24 : decode cX3_init 24 = .ok (.return_, 1) := by decide +kernel
theorem dX4_init_0 : decode cX4_init 0 = .ok (.aload_n 0, 1) := by decide +kernel
theorem dX4_init_1 : decode cX4_init 1 = .ok (.invokespecial 3, 3) := by decide +kernel
theorem dX4_init_4 : decode cX4_init 4 = .ok (.aload_n 0, 1) := by decide +kernel
theorem dX4_init_5 : decode cX4_init 5 = .ok (.iconst 1, 1) := by decide +kernel
theorem dX4_init_6 : decode cX4_init 6 = .ok (.putfield 9, 3) := by decide +kernel
theorem dX4_init_9 : decode cX4_init 9 = .ok (.aload_n 0, 1) := by decide +kernel
theorem dX4_init_10 : decode cX4_init 10 = .ok (.bipush 8, 2) := by decide +kernel
theorem dX4_init_12 : decode cX4_init 12 = .ok (.newarray .int, 2) := by decide +kernel
theorem dX4_init_14 : decode cX4_init 14 = .ok (.putfield 15, 3) := by decide +kernel
theorem dX4_init_17 : decode cX4_init 17 = .ok (.aload_n 0, 1) := by decide +kernel
theorem dX4_init_18 : decode cX4_init 18 = .ok (.bipush 8, 2) := by decide +kernel
theorem dX4_init_20 : decode cX4_init 20 = .ok (.newarray .int, 2) := by decide +kernel
theorem dX4_init_22 : decode cX4_init 22 = .ok (.putfield 19, 3) := by decide +kernel
theorem dX4_init_25 : decode cX4_init 25 = .ok (.aload_n 0, 1) := by decide +kernel
theorem dX4_init_26 : decode cX4_init 26 = .ok (.bipush 8, 2) := by decide +kernel
theorem dX4_init_28 : decode cX4_init 28 = .ok (.newarray .int, 2) := by decide +kernel
theorem dX4_init_30 : decode cX4_init 30 = .ok (.putfield 22, 3) := by decide +kernel
theorem dX4_init_33 : decode cX4_init 33 = .ok (.aload_n 0, 1) := by decide +kernel
theorem dX4_init_34 : decode cX4_init 34 = .ok (.bipush 8, 2) := by decide +kernel
theorem dX4_init_36 : decode cX4_init 36 = .ok (.newarray .int, 2) := by decide +kernel
theorem dX4_init_38 : decode cX4_init 38 = .ok (.putfield 25, 3) := by decide +kernel
theorem dX4_init_41 : decode cX4_init 41 = .ok (.aload_n 0, 1) := by decide +kernel
theorem dX4_init_42 : decode cX4_init 42 = .ok (.bipush 8, 2) := by decide +kernel
theorem dX4_init_44 : decode cX4_init 44 = .ok (.newarray .int, 2) := by decide +kernel
theorem dX4_init_46 : decode cX4_init 46 = .ok (.putfield 28, 3) := by decide +kernel
theorem dX4_init_49 : decode cX4_init 49 = .ok (.aload_n 0, 1) := by decide +kernel
theorem dX4_init_50 : decode cX4_init 50 = .ok (.bipush 8, 2) := by decide +kernel
theorem dX4_init_52 : decode cX4_init 52 = .ok (.newarray .int, 2) := by decide +kernel
theorem dX4_init_54 : decode cX4_init 54 = .ok (.putfield 31, 3) := by decide +kernel
theorem dX4_init_57 : decode cX4_init 57 = .ok (.aload_n 0, 1) := by decide +kernel
theorem dX4_init_58 : decode cX4_init 58 = .ok (.bipush 8, 2) := by decide +kernel
theorem dX4_init_60 : decode cX4_init 60 = .ok (.newarray .int, 2) := by decide +kernel
theorem dX4_init_62 : decode cX4_init 62 = .ok (.putfield 34, 3) := by decide +kernel
theorem dX4_init_65 : decode cX4_init 65 = .ok (.aload_n 0, 1) := by decide +kernel
theorem dX4_init_66 : decode cX4_init 66 = .ok (.bipush 64, 2) := by decide +kernel
theorem dX4_init_68 : decode cX4_init 68 = .ok (.newarray .int, 2) := by decide +kernel
theorem dX4_init_70 : decode cX4_init 70 = .ok (.putfield 37, 3) := by decide +kernel
theorem dX4_init_73 : decode cX4_init 73 = .ok (.return_, 1) := by decide +kernel
theorem dX5_init_0 : decode cX5_init 0 = .ok (.aload_n 0, 1) := by decide +kernel
theorem dX5_init_1 : decode cX5_init 1 = .ok (.invokespecial 1, 3) := by decide +kernel
theorem dX5_init_4 : decode cX5_init 4 = .ok (.aload_n 0, 1) := by decide +kernel
theorem dX5_init_5 : decode cX5_init 5 = .ok (.new 7, 3) := by decide +kernel
theorem dX5_init_8 : decode cX5_init 8 = .ok (.dup, 1) := by decide +kernel
theorem dX5_init_9 : decode cX5_init 9 = .ok (.invokespecial 9, 3) := by decide +kernel
theorem dX5_init_12 : decode cX5_init 12 = .ok (.putfield 10, 3) := by decide +kernel
theorem dX5_init_15 : decode cX5_init 15 = .ok (.aload_n 0, 1) := by decide +kernel
theorem dX5_init_16 : decode cX5_init 16 = .ok (.new 7, 3) := by decide +kernel
theorem dX5_init_19 : decode cX5_init 19 = .ok (.dup, 1) := by decide +kernel
theorem dX5_init_20 : decode cX5_init 20 = .ok (.invokespecial 9, 3) := by decide +kernel
theorem dX5_init_23 : decode cX5_init 23 = .ok (.putfield 16, 3) := by decide +kernel
theorem dX5_init_26 : decode cX5_init 26 = .ok (.aload_n 0, 1) := by decide +kernel
theorem dX5_init_27 : decode cX5_init 27 = .ok (.new 19, 3) := by decide +kernel
theorem dX5_init_30 : decode cX5_init 30 = .ok (.dup, 1) := by decide +kernel
theorem dX5_init_31 : decode cX5_init 31 = .ok (.invokespecial 21, 3) := by decide +kernel
theorem dX5_init_34 : decode cX5_init 34 = .ok (.putfield 22, 3) := by decide +kernel
theorem dX5_init_37 : decode cX5_init 37 = .ok (.aload_n 0, 1) := by decide +kernel
theorem dX5_init_38 : decode cX5_init 38 = .ok (.new 26, 3) := by decide +kernel
theorem dX5_init_41 : decode cX5_init 41 = .ok (.dup, 1) := by decide +kernel
theorem dX5_init_42 : decode cX5_init 42 = .ok (.invokespecial 28, 3) := by decide +kernel
theorem dX5_init_45 : decode cX5_init 45 = .ok (.putfield 29, 3) := by decide +kernel
theorem dX5_init_48 : decode cX5_init 48 = .ok (.aload_n 0, 1) := by decide +kernel
theorem dX5_init_49 : decode cX5_init 49 = .ok (.new 33, 3) := by decide +kernel
theorem dX5_init_52 : decode cX5_init 52 = .ok (.dup, 1) := by decide +kernel
theorem dX5_init_53 : decode cX5_init 53 = .ok (.invokespecial 35, 3) := by decide +kernel
theorem dX5_init_56 : decode cX5_init 56 = .ok (.putfield 36, 3) := by decide +kernel
theorem dX5_init_59 : decode cX5_init 59 = .ok (.aload_n 0, 1) := by decide +kernel
theorem dX5_init_60 : decode cX5_init 60 = .ok (.iconst 5, 1) := by decide +kernel
theorem dX5_init_61 : decode cX5_init 61 = .ok (.newarray .int, 2) := by decide +kernel
theorem dX5_init_63 : decode cX5_init 63 = .ok (.putfield 40, 3) := by decide +kernel
theorem dX5_init_66 : decode cX5_init 66 = .ok (.return_, 1) := by decide +kernel
set_option maxHeartbeats 4000000 in
set_option maxRecDepth 100000 in
theorem k_X4_init (l : Launch) (G : va_G) (cy : Nat → ClassId) (sz : Nat) (qt : Nat)   : MW l yX4_init cX4_init 1 none 1 8 120 G cy [zzO qt 3 [.int 0, .int 0, .int 0, .int 0, .int 0, .null, .null, .null, .null, .null, .null, .null, .null]] sz [.ref qt] (Wv G (fun u => ∃ (qtw : Nat) (qtn : Nat) (qtg : Nat) (qta : Nat) (qtr : Nat) (qtm : Nat) (qtt : Nat) (qts : Nat), u = [zzO qt 3 [.int 0, .int 0, .int 0, .int 0, .int 1, .ref qtw, .ref qtn, .ref qtg, .ref qta, .ref qtr, .ref qtm, .ref qtt, .ref qts], zzI cy qtw 8 (fun _ => 0), zzI cy qtn 8 (fun _ => 0), zzI cy qtg 8 (fun _ => 0), zzI cy qta 8 (fun _ => 0), zzI cy qtr 8 (fun _ => 0), zzI cy qtm 8 (fun _ => 0), zzI cy qtt 8 (fun _ => 0), zzI cy qts 64 (fun _ => 0)])) := by
  refine enW RX4 (by decide) rfl (Nat.le_of_ble_eq_true rfl) (fun p e s m below meth c ls A hx hb hml hown hts hr hlocks hP hN hl hin hD hA hS => ?_)
  have hin : meth.name = _ := hin
  have hK := hN.1
  replace hl : lv_has ls 1 [(0, .ref qt)] := hl
  refine lv_aload_n hx hb dX4_init_0 rfl (lv_at hl 0 rfl) ?_
  refine W.objInit hx hb hown (hts _ m_t28) (hts _ m_t21) (hts _ m_t22) rfl (by rw [hml]; exact hl.1) rfl dX4_init_1 (Nat.le_of_ble_eq_true rfl) (Nat.le_of_ble_eq_true rfl) ?_
  refine W.eq (g2 := F0 m 4 ls []) rfl ?_
  refine lv_aload_n hx hb dX4_init_4 rfl (lv_at hl 0 rfl) ?_
  refine lv_iconst (v := 1) hx hb dX4_init_5 (by decide) ?_
  refine va_put (D := G) (ci := 3) (v := .int 1) (ty := .int) (C := RX4) (T := TX4) (N := 13) hx hb hts iX_X4 tyX4 tyX4_ok nmX4 hown hK hP hD hS 0 rfl rfl 4 (by decide) (hts _ m_t46) (fun _ h9 => h9) rfl (by decide +kernel) rfl rfl (Nat.le_of_ble_eq_true rfl) dX4_init_6 (fun H locs => ?_)
  clear hP hD hS
  intro hP hD hS
  have hPD := pd_as [zzO qt 3 [.int 0, .int 0, .int 0, .int 0, .int 1, .null, .null, .null, .null, .null, .null, .null, .null]] hP hD rfl
  clear hP hD
  obtain ⟨hP, hD⟩ := hPD
  refine lv_aload_n hx hb dX4_init_9 rfl (lv_at hl 0 rfl) ?_
  refine lv_bipush (v := 8) hx hb dX4_init_10 (by decide) ?_
  refine newI hx hb hts m_t92 hN hP hD hS hA 8 (by decide) (by decide) (Nat.le_of_ble_eq_true rfl) (Nat.le_of_ble_eq_true rfl) (Nat.le_of_ble_eq_true rfl) dX4_init_12 (fun q_1 H => ?_)
  clear hP hD hS
  intro hP hD hS
  have hPD := pd_as [zzO qt 3 [.int 0, .int 0, .int 0, .int 0, .int 1, .null, .null, .null, .null, .null, .null, .null, .null], zzI cy q_1 8 (fun _ => 0)] hP hD rfl
  clear hP hD
  obtain ⟨hP, hD⟩ := hPD
  refine W.widen (k := 1) (n := 8) (Nat.le_of_ble_eq_true rfl) (Nat.le_of_ble_eq_true rfl) ?_
  refine va_putF (D := G) (ci := 3) (v := .ref q_1) (ty := (.array .int)) (C := RX4) (T := TX4) (N := 13) hx hb hts iX_X4 tyX4 tyX4_ok nmX4 hown hK hP hD hS 0 rfl rfl 5 (by decide) (hts _ m_t48) (fun _ h9 => h9) rfl hin rfl (by decide +kernel) rfl rfl (Nat.le_of_ble_eq_true rfl) dX4_init_14 (fun H locs => ?_)
  clear hP hD hS
  intro hP hD hS
  have hPD := pd_as [zzO qt 3 [.int 0, .int 0, .int 0, .int 0, .int 1, .ref q_1, .null, .null, .null, .null, .null, .null, .null], zzI cy q_1 8 (fun _ => 0)] hP hD rfl
  clear hP hD
  obtain ⟨hP, hD⟩ := hPD
  refine lv_aload_n hx hb dX4_init_17 rfl (lv_at hl 0 rfl) ?_
  refine lv_bipush (v := 8) hx hb dX4_init_18 (by decide) ?_
  refine newI hx hb hts m_t92 hN hP hD hS hA 8 (by decide) (by decide) (Nat.le_of_ble_eq_true rfl) (Nat.le_of_ble_eq_true rfl) (Nat.le_of_ble_eq_true rfl) dX4_init_20 (fun q_2 H => ?_)
  clear hP hD hS
  intro hP hD hS
  have hPD := pd_as [zzO qt 3 [.int 0, .int 0, .int 0, .int 0, .int 1, .ref q_1, .null, .null, .null, .null, .null, .null, .null], zzI cy q_1 8 (fun _ => 0), zzI cy q_2 8 (fun _ => 0)] hP hD rfl
  clear hP hD
  obtain ⟨hP, hD⟩ := hPD
  refine W.widen (k := 2) (n := 16) (Nat.le_of_ble_eq_true rfl) (Nat.le_of_ble_eq_true rfl) ?_
  refine va_putF (D := G) (ci := 3) (v := .ref q_2) (ty := (.array .int)) (C := RX4) (T := TX4) (N := 13) hx hb hts iX_X4 tyX4 tyX4_ok nmX4 hown hK hP hD hS 0 rfl rfl 6 (by decide) (hts _ m_t50) (fun _ h9 => h9) rfl hin rfl (by decide +kernel) rfl rfl (Nat.le_of_ble_eq_true rfl) dX4_init_22 (fun H locs => ?_)
  clear hP hD hS
  intro hP hD hS
  have hPD := pd_as [zzO qt 3 [.int 0, .int 0, .int 0, .int 0, .int 1, .ref q_1, .ref q_2, .null, .null, .null, .null, .null, .null], zzI cy q_1 8 (fun _ => 0), zzI cy q_2 8 (fun _ => 0)] hP hD rfl
  clear hP hD
  obtain ⟨hP, hD⟩ := hPD
  refine lv_aload_n hx hb dX4_init_25 rfl (lv_at hl 0 rfl) ?_
  refine lv_bipush (v := 8) hx hb dX4_init_26 (by decide) ?_
  refine newI hx hb hts m_t92 hN hP hD hS hA 8 (by decide) (by decide) (Nat.le_of_ble_eq_true rfl) (Nat.le_of_ble_eq_true rfl) (Nat.le_of_ble_eq_true rfl) dX4_init_28 (fun q_3 H => ?_)
  clear hP hD hS
  intro hP hD hS
  have hPD := pd_as [zzO qt 3 [.int 0, .int 0, .int 0, .int 0, .int 1, .ref q_1, .ref q_2, .null, .null, .null, .null, .null, .null], zzI cy q_1 8 (fun _ => 0), zzI cy q_2 8 (fun _ => 0), zzI cy q_3 8 (fun _ => 0)] hP hD rfl
  clear hP hD
  obtain ⟨hP, hD⟩ := hPD
  refine W.widen (k := 3) (n := 24) (Nat.le_of_ble_eq_true rfl) (Nat.le_of_ble_eq_true rfl) ?_
  refine va_putF (D := G) (ci := 3) (v := .ref q_3) (ty := (.array .int)) (C := RX4) (T := TX4) (N := 13) hx hb hts iX_X4 tyX4 tyX4_ok nmX4 hown hK hP hD hS 0 rfl rfl 7 (by decide) (hts _ m_t53) (fun _ h9 => h9) rfl hin rfl (by decide +kernel) rfl rfl (Nat.le_of_ble_eq_true rfl) dX4_init_30 (fun H locs => ?_)
  clear hP hD hS
  intro hP hD hS
  have hPD := pd_as [zzO qt 3 [.int 0, .int 0, .int 0, .int 0, .int 1, .ref q_1, .ref q_2, .ref q_3, .null, .null, .null, .null, .null], zzI cy q_1 8 (fun _ => 0), zzI cy q_2 8 (fun _ => 0), zzI cy q_3 8 (fun _ => 0)] hP hD rfl
  clear hP hD
  obtain ⟨hP, hD⟩ := hPD
  refine lv_aload_n hx hb dX4_init_33 rfl (lv_at hl 0 rfl) ?_
  refine lv_bipush (v := 8) hx hb dX4_init_34 (by decide) ?_
  refine newI hx hb hts m_t92 hN hP hD hS hA 8 (by decide) (by decide) (Nat.le_of_ble_eq_true rfl) (Nat.le_of_ble_eq_true rfl) (Nat.le_of_ble_eq_true rfl) dX4_init_36 (fun q_4 H => ?_)
  clear hP hD hS
  intro hP hD hS
  have hPD := pd_as [zzO qt 3 [.int 0, .int 0, .int 0, .int 0, .int 1, .ref q_1, .ref q_2, .ref q_3, .null, .null, .null, .null, .null], zzI cy q_1 8 (fun _ => 0), zzI cy q_2 8 (fun _ => 0), zzI cy q_3 8 (fun _ => 0), zzI cy q_4 8 (fun _ => 0)] hP hD rfl
  clear hP hD
  obtain ⟨hP, hD⟩ := hPD
  refine W.widen (k := 4) (n := 32) (Nat.le_of_ble_eq_true rfl) (Nat.le_of_ble_eq_true rfl) ?_
  refine va_putF (D := G) (ci := 3) (v := .ref q_4) (ty := (.array .int)) (C := RX4) (T := TX4) (N := 13) hx hb hts iX_X4 tyX4 tyX4_ok nmX4 hown hK hP hD hS 0 rfl rfl 8 (by decide) (hts _ m_t56) (fun _ h9 => h9) rfl hin rfl (by decide +kernel) rfl rfl (Nat.le_of_ble_eq_true rfl) dX4_init_38 (fun H locs => ?_)
  clear hP hD hS
  intro hP hD hS
  have hPD := pd_as [zzO qt 3 [.int 0, .int 0, .int 0, .int 0, .int 1, .ref q_1, .ref q_2, .ref q_3, .ref q_4, .null, .null, .null, .null], zzI cy q_1 8 (fun _ => 0), zzI cy q_2 8 (fun _ => 0), zzI cy q_3 8 (fun _ => 0), zzI cy q_4 8 (fun _ => 0)] hP hD rfl
  clear hP hD
  obtain ⟨hP, hD⟩ := hPD
  refine lv_aload_n hx hb dX4_init_41 rfl (lv_at hl 0 rfl) ?_
  refine lv_bipush (v := 8) hx hb dX4_init_42 (by decide) ?_
  refine newI hx hb hts m_t92 hN hP hD hS hA 8 (by decide) (by decide) (Nat.le_of_ble_eq_true rfl) (Nat.le_of_ble_eq_true rfl) (Nat.le_of_ble_eq_true rfl) dX4_init_44 (fun q_5 H => ?_)
  clear hP hD hS
  intro hP hD hS
  have hPD := pd_as [zzO qt 3 [.int 0, .int 0, .int 0, .int 0, .int 1, .ref q_1, .ref q_2, .ref q_3, .ref q_4, .null, .null, .null, .null], zzI cy q_1 8 (fun _ => 0), zzI cy q_2 8 (fun _ => 0), zzI cy q_3 8 (fun _ => 0), zzI cy q_4 8 (fun _ => 0), zzI cy q_5 8 (fun _ => 0)] hP hD rfl
  clear hP hD
  obtain ⟨hP, hD⟩ := hPD
  refine W.widen (k := 5) (n := 40) (Nat.le_of_ble_eq_true rfl) (Nat.le_of_ble_eq_true rfl) ?_
  refine va_putF (D := G) (ci := 3) (v := .ref q_5) (ty := (.array .int)) (C := RX4) (T := TX4) (N := 13) hx hb hts iX_X4 tyX4 tyX4_ok nmX4 hown hK hP hD hS 0 rfl rfl 9 (by decide) (hts _ m_t58) (fun _ h9 => h9) rfl hin rfl (by decide +kernel) rfl rfl (Nat.le_of_ble_eq_true rfl) dX4_init_46 (fun H locs => ?_)
  clear hP hD hS
  intro hP hD hS
  have hPD := pd_as [zzO qt 3 [.int 0, .int 0, .int 0, .int 0, .int 1, .ref q_1, .ref q_2, .ref q_3, .ref q_4, .ref q_5, .null, .null, .null], zzI cy q_1 8 (fun _ => 0), zzI cy q_2 8 (fun _ => 0), zzI cy q_3 8 (fun _ => 0), zzI cy q_4 8 (fun _ => 0), zzI cy q_5 8 (fun _ => 0)] hP hD rfl
  clear hP hD
  obtain ⟨hP, hD⟩ := hPD
  refine lv_aload_n hx hb dX4_init_49 rfl (lv_at hl 0 rfl) ?_
  refine lv_bipush (v := 8) hx hb dX4_init_50 (by decide) ?_
  refine newI hx hb hts m_t92 hN hP hD hS hA 8 (by decide) (by decide) (Nat.le_of_ble_eq_true rfl) (Nat.le_of_ble_eq_true rfl) (Nat.le_of_ble_eq_true rfl) dX4_init_52 (fun q_6 H => ?_)
  clear hP hD hS
  intro hP hD hS
  have hPD := pd_as [zzO qt 3 [.int 0, .int 0, .int 0, .int 0, .int 1, .ref q_1, .ref q_2, .ref q_3, .ref q_4, .ref q_5, .null, .null, .null], zzI cy q_1 8 (fun _ => 0), zzI cy q_2 8 (fun _ => 0), zzI cy q_3 8 (fun _ => 0), zzI cy q_4 8 (fun _ => 0), zzI cy q_5 8 (fun _ => 0), zzI cy q_6 8 (fun _ => 0)] hP hD rfl
  clear hP hD
  obtain ⟨hP, hD⟩ := hPD
  refine W.widen (k := 6) (n := 48) (Nat.le_of_ble_eq_true rfl) (Nat.le_of_ble_eq_true rfl) ?_
  refine va_putF (D := G) (ci := 3) (v := .ref q_6) (ty := (.array .int)) (C := RX4) (T := TX4) (N := 13) hx hb hts iX_X4 tyX4 tyX4_ok nmX4 hown hK hP hD hS 0 rfl rfl 10 (by decide) (hts _ m_t60) (fun _ h9 => h9) rfl hin rfl (by decide +kernel) rfl rfl (Nat.le_of_ble_eq_true rfl) dX4_init_54 (fun H locs => ?_)
  clear hP hD hS
  intro hP hD hS
  have hPD := pd_as [zzO qt 3 [.int 0, .int 0, .int 0, .int 0, .int 1, .ref q_1, .ref q_2, .ref q_3, .ref q_4, .ref q_5, .ref q_6, .null, .null], zzI cy q_1 8 (fun _ => 0), zzI cy q_2 8 (fun _ => 0), zzI cy q_3 8 (fun _ => 0), zzI cy q_4 8 (fun _ => 0), zzI cy q_5 8 (fun _ => 0), zzI cy q_6 8 (fun _ => 0)] hP hD rfl
  clear hP hD
  obtain ⟨hP, hD⟩ := hPD
  refine lv_aload_n hx hb dX4_init_57 rfl (lv_at hl 0 rfl) ?_
  refine lv_bipush (v := 8) hx hb dX4_init_58 (by decide) ?_
  refine newI hx hb hts m_t92 hN hP hD hS hA 8 (by decide) (by decide) (Nat.le_of_ble_eq_true rfl) (Nat.le_of_ble_eq_true rfl) (Nat.le_of_ble_eq_true rfl) dX4_init_60 (fun q_7 H => ?_)
  clear hP hD hS
  intro hP hD hS
  have hPD := pd_as [zzO qt 3 [.int 0, .int 0, .int 0, .int 0, .int 1, .ref q_1, .ref q_2, .ref q_3, .ref q_4, .ref q_5, .ref q_6, .null, .null], zzI cy q_1 8 (fun _ => 0), zzI cy q_2 8 (fun _ => 0), zzI cy q_3 8 (fun _ => 0), zzI cy q_4 8 (fun _ => 0), zzI cy q_5 8 (fun _ => 0), zzI cy q_6 8 (fun _ => 0), zzI cy q_7 8 (fun _ => 0)] hP hD rfl
  clear hP hD
  obtain ⟨hP, hD⟩ := hPD
  refine W.widen (k := 7) (n := 56) (Nat.le_of_ble_eq_true rfl) (Nat.le_of_ble_eq_true rfl) ?_
  refine va_putF (D := G) (ci := 3) (v := .ref q_7) (ty := (.array .int)) (C := RX4) (T := TX4) (N := 13) hx hb hts iX_X4 tyX4 tyX4_ok nmX4 hown hK hP hD hS 0 rfl rfl 11 (by decide) (hts _ m_t62) (fun _ h9 => h9) rfl hin rfl (by decide +kernel) rfl rfl (Nat.le_of_ble_eq_true rfl) dX4_init_62 (fun H locs => ?_)
  clear hP hD hS
  intro hP hD hS
  have hPD := pd_as [zzO qt 3 [.int 0, .int 0, .int 0, .int 0, .int 1, .ref q_1, .ref q_2, .ref q_3, .ref q_4, .ref q_5, .ref q_6, .ref q_7, .null], zzI cy q_1 8 (fun _ => 0), zzI cy q_2 8 (fun _ => 0), zzI cy q_3 8 (fun _ => 0), zzI cy q_4 8 (fun _ => 0), zzI cy q_5 8 (fun _ => 0), zzI cy q_6 8 (fun _ => 0), zzI cy q_7 8 (fun _ => 0)] hP hD rfl
  clear hP hD
  obtain ⟨hP, hD⟩ := hPD
  refine lv_aload_n hx hb dX4_init_65 rfl (lv_at hl 0 rfl) ?_
  refine lv_bipush (v := 64) hx hb dX4_init_66 (by decide) ?_
  refine newI hx hb hts m_t92 hN hP hD hS hA 64 (by decide) (by decide) (Nat.le_of_ble_eq_true rfl) (Nat.le_of_ble_eq_true rfl) (Nat.le_of_ble_eq_true rfl) dX4_init_68 (fun q_8 H => ?_)
  clear hP hD hS
  intro hP hD hS
  have hPD := pd_as [zzO qt 3 [.int 0, .int 0, .int 0, .int 0, .int 1, .ref q_1, .ref q_2, .ref q_3, .ref q_4, .ref q_5, .ref q_6, .ref q_7, .null], zzI cy q_1 8 (fun _ => 0), zzI cy q_2 8 (fun _ => 0), zzI cy q_3 8 (fun _ => 0), zzI cy q_4 8 (fun _ => 0), zzI cy q_5 8 (fun _ => 0), zzI cy q_6 8 (fun _ => 0), zzI cy q_7 8 (fun _ => 0), zzI cy q_8 64 (fun _ => 0)] hP hD rfl
  clear hP hD
  obtain ⟨hP, hD⟩ := hPD
  refine W.widen (k := 8) (n := 120) (Nat.le_of_ble_eq_true rfl) (Nat.le_of_ble_eq_true rfl) ?_
  refine va_putF (D := G) (ci := 3) (v := .ref q_8) (ty := (.array .int)) (C := RX4) (T := TX4) (N := 13) hx hb hts iX_X4 tyX4 tyX4_ok nmX4 hown hK hP hD hS 0 rfl rfl 12 (by decide) (hts _ m_t64) (fun _ h9 => h9) rfl hin rfl (by decide +kernel) rfl rfl (Nat.le_of_ble_eq_true rfl) dX4_init_70 (fun H locs => ?_)
  clear hP hD hS
  intro hP hD hS
  have hPD := pd_as [zzO qt 3 [.int 0, .int 0, .int 0, .int 0, .int 1, .ref q_1, .ref q_2, .ref q_3, .ref q_4, .ref q_5, .ref q_6, .ref q_7, .ref q_8], zzI cy q_1 8 (fun _ => 0), zzI cy q_2 8 (fun _ => 0), zzI cy q_3 8 (fun _ => 0), zzI cy q_4 8 (fun _ => 0), zzI cy q_5 8 (fun _ => 0), zzI cy q_6 8 (fun _ => 0), zzI cy q_7 8 (fun _ => 0), zzI cy q_8 64 (fun _ => 0)] hP hD rfl
  clear hP hD
  obtain ⟨hP, hD⟩ := hPD
  exact endV (u := [zzO qt 3 [.int 0, .int 0, .int 0, .int 0, .int 1, .ref q_1, .ref q_2, .ref q_3, .ref q_4, .ref q_5, .ref q_6, .ref q_7, .ref q_8], zzI cy q_1 8 (fun _ => 0), zzI cy q_2 8 (fun _ => 0), zzI cy q_3 8 (fun _ => 0), zzI cy q_4 8 (fun _ => 0), zzI cy q_5 8 (fun _ => 0), zzI cy q_6 8 (fun _ => 0), zzI cy q_7 8 (fun _ => 0), zzI cy q_8 64 (fun _ => 0)]) hx hb hr hlocks (hP.sub [0, 1, 2, 3, 4, 5, 6, 7, 8] rfl) (hD.sub [0, 1, 2, 3, 4, 5, 6, 7, 8] (by decide +kernel) rfl) hS ⟨q_1, q_2, q_3, q_4, q_5, q_6, q_7, q_8, rfl⟩ dX4_init_73
set_option maxHeartbeats 4000000 in
set_option maxRecDepth 100000 in
theorem k_X0_init (l : Launch) (G : va_G) (cy : Nat → ClassId) (sz : Nat) (qp : Nat)   : MW l yX0_init cX0_init 1 none 2 18 266 G cy [zzO qp 0 [.null, .null, .int 0, .int 0]] sz [.ref qp] (Wv G (fun u => ∃ (qu : Nat) (quw : Nat) (qun : Nat) (qug : Nat) (qua : Nat) (qur : Nat) (qum : Nat) (qut : Nat) (qus : Nat) (qv : Nat) (qvw : Nat) (qvn : Nat) (qvg : Nat) (qva : Nat) (qvr : Nat) (qvm : Nat) (qvt : Nat) (qvs : Nat), u = [zzO qp 0 [.ref qu, .ref qv, .int 0, .int 0], zzO qu 3 [.int 0, .int 0, .int 0, .int 0, .int 1, .ref quw, .ref qun, .ref qug, .ref qua, .ref qur, .ref qum, .ref qut, .ref qus], zzI cy quw 8 (fun _ => 0), zzI cy qun 8 (fun _ => 0), zzI cy qug 8 (fun _ => 0), zzI cy qua 8 (fun _ => 0), zzI cy qur 8 (fun _ => 0), zzI cy qum 8 (fun _ => 0), zzI cy qut 8 (fun _ => 0), zzI cy qus 64 (fun _ => 0), zzO qv 3 [.int 0, .int 0, .int 0, .int 0, .int 1, .ref qvw, .ref qvn, .ref qvg, .ref qva, .ref qvr, .ref qvm, .ref qvt, .ref qvs], zzI cy qvw 8 (fun _ => 0), zzI cy qvn 8 (fun _ => 0), zzI cy qvg 8 (fun _ => 0), zzI cy qva 8 (fun _ => 0), zzI cy qvr 8 (fun _ => 0), zzI cy qvm 8 (fun _ => 0), zzI cy qvt 8 (fun _ => 0), zzI cy qvs 64 (fun _ => 0)])) := by
  refine enW RX0 (by decide) rfl (Nat.le_of_ble_eq_true rfl) (fun p e s m below meth c ls A hx hb hml hown hts hr hlocks hP hN hl hin hD hA hS => ?_)
  have hin : meth.name = _ := hin
  have hK := hN.1
  replace hl : lv_has ls 1 [(0, .ref qp)] := hl
  refine lv_aload_n hx hb dX0_init_0 rfl (lv_at hl 0 rfl) ?_
  refine W.objInit hx hb hown (hts _ m_t98) (hts _ m_t21) (hts _ m_t22) rfl (by rw [hml]; exact hl.1) rfl dX0_init_1 (Nat.le_of_ble_eq_true rfl) (Nat.le_of_ble_eq_true rfl) ?_
  refine W.eq (g2 := F0 m 4 ls []) rfl ?_
  refine lv_aload_n hx hb dX0_init_4 rfl (lv_at hl 0 rfl) ?_
  refine va_new (ci := 3) (fs := [.int 0, .int 0, .int 0, .int 0, .int 0, .null, .null, .null, .null, .null, .null, .null, .null]) (C := RX4) (T := TX4) (N := 13) hx hb hts iX_X4 tyX4 tyX4_ok hown (hts _ m_t99) (hts _ m_t24) (hts _ m_t2) hK hP hD hS hA rfl df_X4 (Nat.le_of_ble_eq_true rfl) (Nat.le_of_ble_eq_true rfl) dX0_init_5 (fun q_1 H => ?_)
  clear hP hD hS
  intro hP hD hS
  have hPD := pd_as [zzO qp 0 [.null, .null, .int 0, .int 0], zzO q_1 3 [.int 0, .int 0, .int 0, .int 0, .int 0, .null, .null, .null, .null, .null, .null, .null, .null]] hP hD rfl
  clear hP hD
  obtain ⟨hP, hD⟩ := hPD
  refine W.widen (k := 1) (n := 13) (Nat.le_of_ble_eq_true rfl) (Nat.le_of_ble_eq_true rfl) ?_
  refine lv_dup hx hb dX0_init_8 rfl ?_
  refine cINv (As := []) (rest := [.ref q_1, .ref qp]) (b := q_1) ⟨hx, hb, hml, hown, hts⟩ (k_X4_init l G cy (H).size q_1) L_X0_11 hN hP hD hS hA [1] [true, false] rfl (by decide +kernel) rfl rfl ⟨Nat.le_of_ble_eq_true rfl, Nat.le_of_ble_eq_true rfl⟩ hl.1 (Nat.le_of_ble_eq_true rfl) dX0_init_9 ⟨Nat.le_of_ble_eq_true rfl, Nat.le_of_ble_eq_true rfl⟩ (fun u_4 H locs h_3 => ?_)
  clear hP hD hS
  intro hP hD hS
  obtain ⟨qtw_5, qtn_6, qtg_7, qta_8, qtr_9, qtm_10, qtt_11, qts_12, rfl⟩ := h_3
  have hPD := pd_as [zzO qp 0 [.null, .null, .int 0, .int 0], zzO q_1 3 [.int 0, .int 0, .int 0, .int 0, .int 1, .ref qtw_5, .ref qtn_6, .ref qtg_7, .ref qta_8, .ref qtr_9, .ref qtm_10, .ref qtt_11, .ref qts_12], zzI cy qtw_5 8 (fun _ => 0), zzI cy qtn_6 8 (fun _ => 0), zzI cy qtg_7 8 (fun _ => 0), zzI cy qta_8 8 (fun _ => 0), zzI cy qtr_9 8 (fun _ => 0), zzI cy qtm_10 8 (fun _ => 0), zzI cy qtt_11 8 (fun _ => 0), zzI cy qts_12 64 (fun _ => 0)] hP hD rfl
  clear hP hD
  obtain ⟨hP, hD⟩ := hPD
  refine W.widen (k := 9) (n := 133) (Nat.le_of_ble_eq_true rfl) (Nat.le_of_ble_eq_true rfl) ?_
  refine va_putF (D := G) (ci := 0) (v := .ref q_1) (ty := (.object "EachBookOnce$Town")) (C := RX0) (T := TX0) (N := 4) hx hb hts iX_X0 tyX0 tyX0_ok nmX0 hown hK hP hD hS 0 rfl rfl 0 (by decide) (hts _ m_t101) (fun _ h9 => h9) rfl hin rfl (by decide +kernel) rfl rfl (Nat.le_of_ble_eq_true rfl) dX0_init_12 (fun H locs => ?_)
  clear hP hD hS
  intro hP hD hS
  have hPD := pd_as [zzO qp 0 [.ref q_1, .null, .int 0, .int 0], zzO q_1 3 [.int 0, .int 0, .int 0, .int 0, .int 1, .ref qtw_5, .ref qtn_6, .ref qtg_7, .ref qta_8, .ref qtr_9, .ref qtm_10, .ref qtt_11, .ref qts_12], zzI cy qtw_5 8 (fun _ => 0), zzI cy qtn_6 8 (fun _ => 0), zzI cy qtg_7 8 (fun _ => 0), zzI cy qta_8 8 (fun _ => 0), zzI cy qtr_9 8 (fun _ => 0), zzI cy qtm_10 8 (fun _ => 0), zzI cy qtt_11 8 (fun _ => 0), zzI cy qts_12 64 (fun _ => 0)] hP hD rfl
  clear hP hD
  obtain ⟨hP, hD⟩ := hPD
  refine lv_aload_n hx hb dX0_init_15 rfl (lv_at hl 0 rfl) ?_
  refine va_new (ci := 3) (fs := [.int 0, .int 0, .int 0, .int 0, .int 0, .null, .null, .null, .null, .null, .null, .null, .null]) (C := RX4) (T := TX4) (N := 13) hx hb hts iX_X4 tyX4 tyX4_ok hown (hts _ m_t99) (hts _ m_t24) (hts _ m_t2) hK hP hD hS hA rfl df_X4 (Nat.le_of_ble_eq_true rfl) (Nat.le_of_ble_eq_true rfl) dX0_init_16 (fun q_13 H => ?_)
  clear hP hD hS
  intro hP hD hS
  have hPD := pd_as [zzO qp 0 [.ref q_1, .null, .int 0, .int 0], zzO q_1 3 [.int 0, .int 0, .int 0, .int 0, .int 1, .ref qtw_5, .ref qtn_6, .ref qtg_7, .ref qta_8, .ref qtr_9, .ref qtm_10, .ref qtt_11, .ref qts_12], zzI cy qtw_5 8 (fun _ => 0), zzI cy qtn_6 8 (fun _ => 0), zzI cy qtg_7 8 (fun _ => 0), zzI cy qta_8 8 (fun _ => 0), zzI cy qtr_9 8 (fun _ => 0), zzI cy qtm_10 8 (fun _ => 0), zzI cy qtt_11 8 (fun _ => 0), zzI cy qts_12 64 (fun _ => 0), zzO q_13 3 [.int 0, .int 0, .int 0, .int 0, .int 0, .null, .null, .null, .null, .null, .null, .null, .null]] hP hD rfl
  clear hP hD
  obtain ⟨hP, hD⟩ := hPD
  refine W.widen (k := 10) (n := 146) (Nat.le_of_ble_eq_true rfl) (Nat.le_of_ble_eq_true rfl) ?_
  refine lv_dup hx hb dX0_init_19 rfl ?_
  refine cINv (As := []) (rest := [.ref q_13, .ref qp]) (b := q_13) ⟨hx, hb, hml, hown, hts⟩ (k_X4_init l G cy (H).size q_13) L_X0_11 hN hP hD hS hA [10] [true, true, true, true, true, true, true, true, true, true, false] rfl (by decide +kernel) rfl rfl ⟨Nat.le_of_ble_eq_true rfl, Nat.le_of_ble_eq_true rfl⟩ hl.1 (Nat.le_of_ble_eq_true rfl) dX0_init_20 ⟨Nat.le_of_ble_eq_true rfl, Nat.le_of_ble_eq_true rfl⟩ (fun u_16 H locs h_15 => ?_)
  clear hP hD hS
  intro hP hD hS
  obtain ⟨qtw_17, qtn_18, qtg_19, qta_20, qtr_21, qtm_22, qtt_23, qts_24, rfl⟩ := h_15
  have hPD := pd_as [zzO qp 0 [.ref q_1, .null, .int 0, .int 0], zzO q_1 3 [.int 0, .int 0, .int 0, .int 0, .int 1, .ref qtw_5, .ref qtn_6, .ref qtg_7, .ref qta_8, .ref qtr_9, .ref qtm_10, .ref qtt_11, .ref qts_12], zzI cy qtw_5 8 (fun _ => 0), zzI cy qtn_6 8 (fun _ => 0), zzI cy qtg_7 8 (fun _ => 0), zzI cy qta_8 8 (fun _ => 0), zzI cy qtr_9 8 (fun _ => 0), zzI cy qtm_10 8 (fun _ => 0), zzI cy qtt_11 8 (fun _ => 0), zzI cy qts_12 64 (fun _ => 0), zzO q_13 3 [.int 0, .int 0, .int 0, .int 0, .int 1, .ref qtw_17, .ref qtn_18, .ref qtg_19, .ref qta_20, .ref qtr_21, .ref qtm_22, .ref qtt_23, .ref qts_24], zzI cy qtw_17 8 (fun _ => 0), zzI cy qtn_18 8 (fun _ => 0), zzI cy qtg_19 8 (fun _ => 0), zzI cy qta_20 8 (fun _ => 0), zzI cy qtr_21 8 (fun _ => 0), zzI cy qtm_22 8 (fun _ => 0), zzI cy qtt_23 8 (fun _ => 0), zzI cy qts_24 64 (fun _ => 0)] hP hD rfl
  clear hP hD
  obtain ⟨hP, hD⟩ := hPD
  refine W.widen (k := 18) (n := 266) (Nat.le_of_ble_eq_true rfl) (Nat.le_of_ble_eq_true rfl) ?_
  refine va_putF (D := G) (ci := 0) (v := .ref q_13) (ty := (.object "EachBookOnce$Town")) (C := RX0) (T := TX0) (N := 4) hx hb hts iX_X0 tyX0 tyX0_ok nmX0 hown hK hP hD hS 0 rfl rfl 1 (by decide) (hts _ m_t103) (fun _ h9 => h9) rfl hin rfl (by decide +kernel) rfl rfl (Nat.le_of_ble_eq_true rfl) dX0_init_23 (fun H locs => ?_)
  clear hP hD hS
  intro hP hD hS
  have hPD := pd_as [zzO qp 0 [.ref q_1, .ref q_13, .int 0, .int 0], zzO q_1 3 [.int 0, .int 0, .int 0, .int 0, .int 1, .ref qtw_5, .ref qtn_6, .ref qtg_7, .ref qta_8, .ref qtr_9, .ref qtm_10, .ref qtt_11, .ref qts_12], zzI cy qtw_5 8 (fun _ => 0), zzI cy qtn_6 8 (fun _ => 0), zzI cy qtg_7 8 (fun _ => 0), zzI cy qta_8 8 (fun _ => 0), zzI cy qtr_9 8 (fun _ => 0), zzI cy qtm_10 8 (fun _ => 0), zzI cy qtt_11 8 (fun _ => 0), zzI cy qts_12 64 (fun _ => 0), zzO q_13 3 [.int 0, .int 0, .int 0, .int 0, .int 1, .ref qtw_17, .ref qtn_18, .ref qtg_19, .ref qta_20, .ref qtr_21, .ref qtm_22, .ref qtt_23, .ref qts_24], zzI cy qtw_17 8 (fun _ => 0), zzI cy qtn_18 8 (fun _ => 0), zzI cy qtg_19 8 (fun _ => 0), zzI cy qta_20 8 (fun _ => 0), zzI cy qtr_21 8 (fun _ => 0), zzI cy qtm_22 8 (fun _ => 0), zzI cy qtt_23 8 (fun _ => 0), zzI cy qts_24 64 (fun _ => 0)] hP hD rfl
  clear hP hD
  obtain ⟨hP, hD⟩ := hPD
  exact endV (u := [zzO qp 0 [.ref q_1, .ref q_13, .int 0, .int 0], zzO q_1 3 [.int 0, .int 0, .int 0, .int 0, .int 1, .ref qtw_5, .ref qtn_6, .ref qtg_7, .ref qta_8, .ref qtr_9, .ref qtm_10, .ref qtt_11, .ref qts_12], zzI cy qtw_5 8 (fun _ => 0), zzI cy qtn_6 8 (fun _ => 0), zzI cy qtg_7 8 (fun _ => 0), zzI cy qta_8 8 (fun _ => 0), zzI cy qtr_9 8 (fun _ => 0), zzI cy qtm_10 8 (fun _ => 0), zzI cy qtt_11 8 (fun _ => 0), zzI cy qts_12 64 (fun _ => 0), zzO q_13 3 [.int 0, .int 0, .int 0, .int 0, .int 1, .ref qtw_17, .ref qtn_18, .ref qtg_19, .ref qta_20, .ref qtr_21, .ref qtm_22, .ref qtt_23, .ref qts_24], zzI cy qtw_17 8 (fun _ => 0), zzI cy qtn_18 8 (fun _ => 0), zzI cy qtg_19 8 (fun _ => 0), zzI cy qta_20 8 (fun _ => 0), zzI cy qtr_21 8 (fun _ => 0), zzI cy qtm_22 8 (fun _ => 0), zzI cy qtt_23 8 (fun _ => 0), zzI cy qts_24 64 (fun _ => 0)]) hx hb hr hlocks (hP.sub [0, 1, 2, 3, 4, 5, 6, 7, 8, 9, 10, 11, 12, 13, 14, 15, 16, 17, 18] rfl) (hD.sub [0, 1, 2, 3, 4, 5, 6, 7, 8, 9, 10, 11, 12, 13, 14, 15, 16, 17, 18] (by decide +kernel) rfl) hS ⟨q_1, qtw_5, qtn_6, qtg_7, qta_8, qtr_9, qtm_10, qtt_11, qts_12, q_13, qtw_17, qtn_18, qtg_19, qta_20, qtr_21, qtm_22, qtt_23, qts_24, rfl⟩ dX0_init_26
set_option maxHeartbeats 4000000 in
set_option maxRecDepth 100000 in
theorem k_X2_init (l : Launch) (G : va_G) (cy : Nat → ClassId) (sz : Nat) (qs : Nat)   : MW l yX2_init cX2_init 2 none 1 4 344 G cy [zzO qs 1 [.null, .null, .null, .null]] sz [.ref qs] (Wv G (fun u => ∃ (qsh : Nat) (qss : Nat) (qsa : Nat) (qse : Nat) (fH : Nat → Int32), u = [zzO qs 1 [.ref qsh, .ref qss, .ref qsa, .ref qse], zzI cy qsh 8 fH, zzI cy qss 8 (fun _ => 0), zzI cy qsa 8 (fun _ => 0), zzJ cy qse 320 (fun _ => 0)] ∧ (∀ i, i < 8 → fH i = -1))) := by
  refine enW RX2 (by decide) rfl (Nat.le_of_ble_eq_true rfl) (fun p e s m below meth c ls A hx hb hml hown hts hr hlocks hP hN hl hin hD hA hS => ?_)
  have hin : meth.name = _ := hin
  have hK := hN.1
  replace hl : lv_has ls 2 [(0, .ref qs)] := hl
  refine lv_aload_n hx hb dX2_init_0 rfl (lv_at hl 0 rfl) ?_
  refine W.objInit hx hb hown (hts _ m_t122) (hts _ m_t21) (hts _ m_t22) rfl (by rw [hml]; exact hl.1) rfl dX2_init_1 (Nat.le_of_ble_eq_true rfl) (Nat.le_of_ble_eq_true rfl) ?_
  refine W.eq (g2 := F0 m 4 ls []) rfl ?_
  refine lv_aload_n hx hb dX2_init_4 rfl (lv_at hl 0 rfl) ?_
  refine lv_bipush (v := 8) hx hb dX2_init_5 (by decide) ?_
  refine newI hx hb hts m_t92 hN hP hD hS hA 8 (by decide) (by decide) (Nat.le_of_ble_eq_true rfl) (Nat.le_of_ble_eq_true rfl) (Nat.le_of_ble_eq_true rfl) dX2_init_7 (fun q_1 H => ?_)
  clear hP hD hS
  intro hP hD hS
  have hPD := pd_as [zzO qs 1 [.null, .null, .null, .null], zzI cy q_1 8 (fun _ => 0)] hP hD rfl
  clear hP hD
  obtain ⟨hP, hD⟩ := hPD
  refine W.widen (k := 1) (n := 8) (Nat.le_of_ble_eq_true rfl) (Nat.le_of_ble_eq_true rfl) ?_
  refine va_putF (D := G) (ci := 1) (v := .ref q_1) (ty := (.array .int)) (C := RX2) (T := TX2) (N := 4) hx hb hts iX_X2 tyX2 tyX2_ok nmX2 hown hK hP hD hS 0 rfl rfl 0 (by decide) (hts _ m_t123) (fun _ h9 => h9) rfl hin rfl (by decide +kernel) rfl rfl (Nat.le_of_ble_eq_true rfl) dX2_init_9 (fun H locs => ?_)
  clear hP hD hS
  intro hP hD hS
  have hPD := pd_as [zzO qs 1 [.ref q_1, .null, .null, .null], zzI cy q_1 8 (fun _ => 0)] hP hD rfl
  clear hP hD
  obtain ⟨hP, hD⟩ := hPD
  refine lv_aload_n hx hb dX2_init_12 rfl (lv_at hl 0 rfl) ?_
  refine lv_bipush (v := 8) hx hb dX2_init_13 (by decide) ?_
  refine newI hx hb hts m_t92 hN hP hD hS hA 8 (by decide) (by decide) (Nat.le_of_ble_eq_true rfl) (Nat.le_of_ble_eq_true rfl) (Nat.le_of_ble_eq_true rfl) dX2_init_15 (fun q_2 H => ?_)
  clear hP hD hS
  intro hP hD hS
  have hPD := pd_as [zzO qs 1 [.ref q_1, .null, .null, .null], zzI cy q_1 8 (fun _ => 0), zzI cy q_2 8 (fun _ => 0)] hP hD rfl
  clear hP hD
  obtain ⟨hP, hD⟩ := hPD
  refine W.widen (k := 2) (n := 16) (Nat.le_of_ble_eq_true rfl) (Nat.le_of_ble_eq_true rfl) ?_
  refine va_putF (D := G) (ci := 1) (v := .ref q_2) (ty := (.array .int)) (C := RX2) (T := TX2) (N := 4) hx hb hts iX_X2 tyX2 tyX2_ok nmX2 hown hK hP hD hS 0 rfl rfl 1 (by decide) (hts _ m_t125) (fun _ h9 => h9) rfl hin rfl (by decide +kernel) rfl rfl (Nat.le_of_ble_eq_true rfl) dX2_init_17 (fun H locs => ?_)
  clear hP hD hS
  intro hP hD hS
  have hPD := pd_as [zzO qs 1 [.ref q_1, .ref q_2, .null, .null], zzI cy q_1 8 (fun _ => 0), zzI cy q_2 8 (fun _ => 0)] hP hD rfl
  clear hP hD
  obtain ⟨hP, hD⟩ := hPD
  refine lv_aload_n hx hb dX2_init_20 rfl (lv_at hl 0 rfl) ?_
  refine lv_bipush (v := 8) hx hb dX2_init_21 (by decide) ?_
  refine newI hx hb hts m_t92 hN hP hD hS hA 8 (by decide) (by decide) (Nat.le_of_ble_eq_true rfl) (Nat.le_of_ble_eq_true rfl) (Nat.le_of_ble_eq_true rfl) dX2_init_23 (fun q_3 H => ?_)
  clear hP hD hS
  intro hP hD hS
  have hPD := pd_as [zzO qs 1 [.ref q_1, .ref q_2, .null, .null], zzI cy q_1 8 (fun _ => 0), zzI cy q_2 8 (fun _ => 0), zzI cy q_3 8 (fun _ => 0)] hP hD rfl
  clear hP hD
  obtain ⟨hP, hD⟩ := hPD
  refine W.widen (k := 3) (n := 24) (Nat.le_of_ble_eq_true rfl) (Nat.le_of_ble_eq_true rfl) ?_
  refine va_putF (D := G) (ci := 1) (v := .ref q_3) (ty := (.array .int)) (C := RX2) (T := TX2) (N := 4) hx hb hts iX_X2 tyX2 tyX2_ok nmX2 hown hK hP hD hS 0 rfl rfl 2 (by decide) (hts _ m_t127) (fun _ h9 => h9) rfl hin rfl (by decide +kernel) rfl rfl (Nat.le_of_ble_eq_true rfl) dX2_init_25 (fun H locs => ?_)
  clear hP hD hS
  intro hP hD hS
  have hPD := pd_as [zzO qs 1 [.ref q_1, .ref q_2, .ref q_3, .null], zzI cy q_1 8 (fun _ => 0), zzI cy q_2 8 (fun _ => 0), zzI cy q_3 8 (fun _ => 0)] hP hD rfl
  clear hP hD
  obtain ⟨hP, hD⟩ := hPD
  refine lv_aload_n hx hb dX2_init_28 rfl (lv_at hl 0 rfl) ?_
  refine lv_sipush (v := 320) hx hb dX2_init_29 (by decide) ?_
  refine newJ hx hb hts m_t139 hN hP hD hS hA 320 (by decide) (by decide) (Nat.le_of_ble_eq_true rfl) (Nat.le_of_ble_eq_true rfl) (Nat.le_of_ble_eq_true rfl) dX2_init_32 (fun q_4 H => ?_)
  clear hP hD hS
  intro hP hD hS
  have hPD := pd_as [zzO qs 1 [.ref q_1, .ref q_2, .ref q_3, .null], zzI cy q_1 8 (fun _ => 0), zzI cy q_2 8 (fun _ => 0), zzI cy q_3 8 (fun _ => 0), zzJ cy q_4 320 (fun _ => 0)] hP hD rfl
  clear hP hD
  obtain ⟨hP, hD⟩ := hPD
  refine W.widen (k := 4) (n := 344) (Nat.le_of_ble_eq_true rfl) (Nat.le_of_ble_eq_true rfl) ?_
  refine va_putF (D := G) (ci := 1) (v := .ref q_4) (ty := (.array .long)) (C := RX2) (T := TX2) (N := 4) hx hb hts iX_X2 tyX2 tyX2_ok nmX2 hown hK hP hD hS 0 rfl rfl 3 (by decide) (hts _ m_t129) (fun _ h9 => h9) rfl hin rfl (by decide +kernel) rfl rfl (Nat.le_of_ble_eq_true rfl) dX2_init_34 (fun H locs => ?_)
  clear hP hD hS
  intro hP hD hS
  have hPD := pd_as [zzO qs 1 [.ref q_1, .ref q_2, .ref q_3, .ref q_4], zzI cy q_1 8 (fun _ => 0), zzI cy q_2 8 (fun _ => 0), zzI cy q_3 8 (fun _ => 0), zzJ cy q_4 320 (fun _ => 0)] hP hD rfl
  clear hP hD
  obtain ⟨hP, hD⟩ := hPD
  refine lv_iconst (v := 0) hx hb dX2_init_37 (by decide) ?_
  refine lv_istore_n (lv' := [(1, .int 0), (0, .ref qs)]) hx hb dX2_init_38 rfl hl (by decide) rfl (fun ls => ?_)
  clear hl
  intro hl
  refine lv_iload_n hx hb dX2_init_39 rfl (lv_at hl 0 rfl) ?_
  refine lv_bipush (v := 8) hx hb dX2_init_40 (by decide) ?_
  refine lv_icmp_ge (tgt := 58) hx hb dX2_init_42 (by decide) (fun h9 => absurd h9 (by decide)) (fun _ => ?_)
  refine lv_aload_n hx hb dX2_init_45 rfl (lv_at hl 1 rfl) ?_
  refine va_get (D := G) (ci := 1) (v := .ref q_1) (C := RX2) (T := TX2) (N := 4) hx hb hts iX_X2 hown hK hP 0 rfl rfl 0 (by decide) (hts _ m_t123) (fun _ h9 => h9) rfl dX2_init_46 ?_
  refine lv_iload_n hx hb dX2_init_49 rfl (lv_at hl 0 rfl) ?_
  refine lv_iconst (v := (-1)) hx hb dX2_init_50 (by decide) ?_
  refine va_iast hx hb hK hP hD hS 1 0 rfl rfl (in_c rfl) dX2_init_51 (fun H locs => ?_)
  clear hP hD hS
  intro hP hD hS
  have hPD := pd_as [zzO qs 1 [.ref q_1, .ref q_2, .ref q_3, .ref q_4], zzI cy q_1 8 (upd (fun _ => 0) 0 (-1)), zzI cy q_2 8 (fun _ => 0), zzI cy q_3 8 (fun _ => 0), zzJ cy q_4 320 (fun _ => 0)] hP hD rfl
  clear hP hD
  obtain ⟨hP, hD⟩ := hPD
  refine lv_iinc (v := 1) (lv' := [(1, .int 1), (0, .ref qs)]) hx hb dX2_init_52 hl (k := 0) rfl (by decide) (by decide) rfl (fun ls => ?_)
  clear hl
  intro hl
  refine lv_goto (tgt := 39) hx hb dX2_init_55 (by decide) ?_
  refine lv_iload_n hx hb dX2_init_39 rfl (lv_at hl 0 rfl) ?_
  refine lv_bipush (v := 8) hx hb dX2_init_40 (by decide) ?_
  refine lv_icmp_ge (tgt := 58) hx hb dX2_init_42 (by decide) (fun h9 => absurd h9 (by decide)) (fun _ => ?_)
  refine lv_aload_n hx hb dX2_init_45 rfl (lv_at hl 1 rfl) ?_
  refine va_get (D := G) (ci := 1) (v := .ref q_1) (C := RX2) (T := TX2) (N := 4) hx hb hts iX_X2 hown hK hP 0 rfl rfl 0 (by decide) (hts _ m_t123) (fun _ h9 => h9) rfl dX2_init_46 ?_
  refine lv_iload_n hx hb dX2_init_49 rfl (lv_at hl 0 rfl) ?_
  refine lv_iconst (v := (-1)) hx hb dX2_init_50 (by decide) ?_
  refine va_iast hx hb hK hP hD hS 1 0 rfl rfl (in_c rfl) dX2_init_51 (fun H locs => ?_)
  clear hP hD hS
  intro hP hD hS
  have hPD := pd_as [zzO qs 1 [.ref q_1, .ref q_2, .ref q_3, .ref q_4], zzI cy q_1 8 (upd (upd (fun _ => 0) 0 (-1)) 1 (-1)), zzI cy q_2 8 (fun _ => 0), zzI cy q_3 8 (fun _ => 0), zzJ cy q_4 320 (fun _ => 0)] hP hD rfl
  clear hP hD
  obtain ⟨hP, hD⟩ := hPD
  refine lv_iinc (v := 2) (lv' := [(1, .int 2), (0, .ref qs)]) hx hb dX2_init_52 hl (k := 0) rfl (by decide) (by decide) rfl (fun ls => ?_)
  clear hl
  intro hl
  refine lv_goto (tgt := 39) hx hb dX2_init_55 (by decide) ?_
  refine lv_iload_n hx hb dX2_init_39 rfl (lv_at hl 0 rfl) ?_
  refine lv_bipush (v := 8) hx hb dX2_init_40 (by decide) ?_
  refine lv_icmp_ge (tgt := 58) hx hb dX2_init_42 (by decide) (fun h9 => absurd h9 (by decide)) (fun _ => ?_)
  refine lv_aload_n hx hb dX2_init_45 rfl (lv_at hl 1 rfl) ?_
  refine va_get (D := G) (ci := 1) (v := .ref q_1) (C := RX2) (T := TX2) (N := 4) hx hb hts iX_X2 hown hK hP 0 rfl rfl 0 (by decide) (hts _ m_t123) (fun _ h9 => h9) rfl dX2_init_46 ?_
  refine lv_iload_n hx hb dX2_init_49 rfl (lv_at hl 0 rfl) ?_
  refine lv_iconst (v := (-1)) hx hb dX2_init_50 (by decide) ?_
  refine va_iast hx hb hK hP hD hS 1 0 rfl rfl (in_c rfl) dX2_init_51 (fun H locs => ?_)
  clear hP hD hS
  intro hP hD hS
  have hPD := pd_as [zzO qs 1 [.ref q_1, .ref q_2, .ref q_3, .ref q_4], zzI cy q_1 8 (upd (upd (upd (fun _ => 0) 0 (-1)) 1 (-1)) 2 (-1)), zzI cy q_2 8 (fun _ => 0), zzI cy q_3 8 (fun _ => 0), zzJ cy q_4 320 (fun _ => 0)] hP hD rfl
  clear hP hD
  obtain ⟨hP, hD⟩ := hPD
  refine lv_iinc (v := 3) (lv' := [(1, .int 3), (0, .ref qs)]) hx hb dX2_init_52 hl (k := 0) rfl (by decide) (by decide) rfl (fun ls => ?_)
  clear hl
  intro hl
  refine lv_goto (tgt := 39) hx hb dX2_init_55 (by decide) ?_
  refine lv_iload_n hx hb dX2_init_39 rfl (lv_at hl 0 rfl) ?_
  refine lv_bipush (v := 8) hx hb dX2_init_40 (by decide) ?_
  refine lv_icmp_ge (tgt := 58) hx hb dX2_init_42 (by decide) (fun h9 => absurd h9 (by decide)) (fun _ => ?_)
  refine lv_aload_n hx hb dX2_init_45 rfl (lv_at hl 1 rfl) ?_
  refine va_get (D := G) (ci := 1) (v := .ref q_1) (C := RX2) (T := TX2) (N := 4) hx hb hts iX_X2 hown hK hP 0 rfl rfl 0 (by decide) (hts _ m_t123) (fun _ h9 => h9) rfl dX2_init_46 ?_
  refine lv_iload_n hx hb dX2_init_49 rfl (lv_at hl 0 rfl) ?_
  refine lv_iconst (v := (-1)) hx hb dX2_init_50 (by decide) ?_
  refine va_iast hx hb hK hP hD hS 1 0 rfl rfl (in_c rfl) dX2_init_51 (fun H locs => ?_)
  clear hP hD hS
  intro hP hD hS
  have hPD := pd_as [zzO qs 1 [.ref q_1, .ref q_2, .ref q_3, .ref q_4], zzI cy q_1 8 (upd (upd (upd (upd (fun _ => 0) 0 (-1)) 1 (-1)) 2 (-1)) 3 (-1)), zzI cy q_2 8 (fun _ => 0), zzI cy q_3 8 (fun _ => 0), zzJ cy q_4 320 (fun _ => 0)] hP hD rfl
  clear hP hD
  obtain ⟨hP, hD⟩ := hPD
  refine lv_iinc (v := 4) (lv' := [(1, .int 4), (0, .ref qs)]) hx hb dX2_init_52 hl (k := 0) rfl (by decide) (by decide) rfl (fun ls => ?_)
  clear hl
  intro hl
  refine lv_goto (tgt := 39) hx hb dX2_init_55 (by decide) ?_
  refine lv_iload_n hx hb dX2_init_39 rfl (lv_at hl 0 rfl) ?_
  refine lv_bipush (v := 8) hx hb dX2_init_40 (by decide) ?_
  refine lv_icmp_ge (tgt := 58) hx hb dX2_init_42 (by decide) (fun h9 => absurd h9 (by decide)) (fun _ => ?_)
  refine lv_aload_n hx hb dX2_init_45 rfl (lv_at hl 1 rfl) ?_
  refine va_get (D := G) (ci := 1) (v := .ref q_1) (C := RX2) (T := TX2) (N := 4) hx hb hts iX_X2 hown hK hP 0 rfl rfl 0 (by decide) (hts _ m_t123) (fun _ h9 => h9) rfl dX2_init_46 ?_
  refine lv_iload_n hx hb dX2_init_49 rfl (lv_at hl 0 rfl) ?_
  refine lv_iconst (v := (-1)) hx hb dX2_init_50 (by decide) ?_
  refine va_iast hx hb hK hP hD hS 1 0 rfl rfl (in_c rfl) dX2_init_51 (fun H locs => ?_)
  clear hP hD hS
  intro hP hD hS
  have hPD := pd_as [zzO qs 1 [.ref q_1, .ref q_2, .ref q_3, .ref q_4], zzI cy q_1 8 (upd (upd (upd (upd (upd (fun _ => 0) 0 (-1)) 1 (-1)) 2 (-1)) 3 (-1)) 4 (-1)), zzI cy q_2 8 (fun _ => 0), zzI cy q_3 8 (fun _ => 0), zzJ cy q_4 320 (fun _ => 0)] hP hD rfl
  clear hP hD
  obtain ⟨hP, hD⟩ := hPD
  refine lv_iinc (v := 5) (lv' := [(1, .int 5), (0, .ref qs)]) hx hb dX2_init_52 hl (k := 0) rfl (by decide) (by decide) rfl (fun ls => ?_)
  clear hl
  intro hl
  refine lv_goto (tgt := 39) hx hb dX2_init_55 (by decide) ?_
  refine lv_iload_n hx hb dX2_init_39 rfl (lv_at hl 0 rfl) ?_
  refine lv_bipush (v := 8) hx hb dX2_init_40 (by decide) ?_
  refine lv_icmp_ge (tgt := 58) hx hb dX2_init_42 (by decide) (fun h9 => absurd h9 (by decide)) (fun _ => ?_)
  refine lv_aload_n hx hb dX2_init_45 rfl (lv_at hl 1 rfl) ?_
  refine va_get (D := G) (ci := 1) (v := .ref q_1) (C := RX2) (T := TX2) (N := 4) hx hb hts iX_X2 hown hK hP 0 rfl rfl 0 (by decide) (hts _ m_t123) (fun _ h9 => h9) rfl dX2_init_46 ?_
  refine lv_iload_n hx hb dX2_init_49 rfl (lv_at hl 0 rfl) ?_
  refine lv_iconst (v := (-1)) hx hb dX2_init_50 (by decide) ?_
  refine va_iast hx hb hK hP hD hS 1 0 rfl rfl (in_c rfl) dX2_init_51 (fun H locs => ?_)
  clear hP hD hS
  intro hP hD hS
  have hPD := pd_as [zzO qs 1 [.ref q_1, .ref q_2, .ref q_3, .ref q_4], zzI cy q_1 8 (upd (upd (upd (upd (upd (upd (fun _ => 0) 0 (-1)) 1 (-1)) 2 (-1)) 3 (-1)) 4 (-1)) 5 (-1)), zzI cy q_2 8 (fun _ => 0), zzI cy q_3 8 (fun _ => 0), zzJ cy q_4 320 (fun _ => 0)] hP hD rfl
  clear hP hD
  obtain ⟨hP, hD⟩ := hPD
  refine lv_iinc (v := 6) (lv' := [(1, .int 6), (0, .ref qs)]) hx hb dX2_init_52 hl (k := 0) rfl (by decide) (by decide) rfl (fun ls => ?_)
  clear hl
  intro hl
  refine lv_goto (tgt := 39) hx hb dX2_init_55 (by decide) ?_
  refine lv_iload_n hx hb dX2_init_39 rfl (lv_at hl 0 rfl) ?_
  refine lv_bipush (v := 8) hx hb dX2_init_40 (by decide) ?_
  refine lv_icmp_ge (tgt := 58) hx hb dX2_init_42 (by decide) (fun h9 => absurd h9 (by decide)) (fun _ => ?_)
  refine lv_aload_n hx hb dX2_init_45 rfl (lv_at hl 1 rfl) ?_
  refine va_get (D := G) (ci := 1) (v := .ref q_1) (C := RX2) (T := TX2) (N := 4) hx hb hts iX_X2 hown hK hP 0 rfl rfl 0 (by decide) (hts _ m_t123) (fun _ h9 => h9) rfl dX2_init_46 ?_
  refine lv_iload_n hx hb dX2_init_49 rfl (lv_at hl 0 rfl) ?_
  refine lv_iconst (v := (-1)) hx hb dX2_init_50 (by decide) ?_
  refine va_iast hx hb hK hP hD hS 1 0 rfl rfl (in_c rfl) dX2_init_51 (fun H locs => ?_)
  clear hP hD hS
  intro hP hD hS
  have hPD := pd_as [zzO qs 1 [.ref q_1, .ref q_2, .ref q_3, .ref q_4], zzI cy q_1 8 (upd (upd (upd (upd (upd (upd (upd (fun _ => 0) 0 (-1)) 1 (-1)) 2 (-1)) 3 (-1)) 4 (-1)) 5 (-1)) 6 (-1)), zzI cy q_2 8 (fun _ => 0), zzI cy q_3 8 (fun _ => 0), zzJ cy q_4 320 (fun _ => 0)] hP hD rfl
  clear hP hD
  obtain ⟨hP, hD⟩ := hPD
  refine lv_iinc (v := 7) (lv' := [(1, .int 7), (0, .ref qs)]) hx hb dX2_init_52 hl (k := 0) rfl (by decide) (by decide) rfl (fun ls => ?_)
  clear hl
  intro hl
  refine lv_goto (tgt := 39) hx hb dX2_init_55 (by decide) ?_
  refine lv_iload_n hx hb dX2_init_39 rfl (lv_at hl 0 rfl) ?_
  refine lv_bipush (v := 8) hx hb dX2_init_40 (by decide) ?_
  refine lv_icmp_ge (tgt := 58) hx hb dX2_init_42 (by decide) (fun h9 => absurd h9 (by decide)) (fun _ => ?_)
  refine lv_aload_n hx hb dX2_init_45 rfl (lv_at hl 1 rfl) ?_
  refine va_get (D := G) (ci := 1) (v := .ref q_1) (C := RX2) (T := TX2) (N := 4) hx hb hts iX_X2 hown hK hP 0 rfl rfl 0 (by decide) (hts _ m_t123) (fun _ h9 => h9) rfl dX2_init_46 ?_
  refine lv_iload_n hx hb dX2_init_49 rfl (lv_at hl 0 rfl) ?_
  refine lv_iconst (v := (-1)) hx hb dX2_init_50 (by decide) ?_
  refine va_iast hx hb hK hP hD hS 1 0 rfl rfl (in_c rfl) dX2_init_51 (fun H locs => ?_)
  clear hP hD hS
  intro hP hD hS
  have hPD := pd_as [zzO qs 1 [.ref q_1, .ref q_2, .ref q_3, .ref q_4], zzI cy q_1 8 (upd (upd (upd (upd (upd (upd (upd (upd (fun _ => 0) 0 (-1)) 1 (-1)) 2 (-1)) 3 (-1)) 4 (-1)) 5 (-1)) 6 (-1)) 7 (-1)), zzI cy q_2 8 (fun _ => 0), zzI cy q_3 8 (fun _ => 0), zzJ cy q_4 320 (fun _ => 0)] hP hD rfl
  clear hP hD
  obtain ⟨hP, hD⟩ := hPD
  refine lv_iinc (v := 8) (lv' := [(1, .int 8), (0, .ref qs)]) hx hb dX2_init_52 hl (k := 0) rfl (by decide) (by decide) rfl (fun ls => ?_)
  clear hl
  intro hl
  refine lv_goto (tgt := 39) hx hb dX2_init_55 (by decide) ?_
  refine lv_iload_n hx hb dX2_init_39 rfl (lv_at hl 0 rfl) ?_
  refine lv_bipush (v := 8) hx hb dX2_init_40 (by decide) ?_
  refine lv_icmp_ge (tgt := 58) hx hb dX2_init_42 (by decide) (fun _ => ?_) (fun h9 => absurd (by decide) h9)
  exact endV (u := [zzO qs 1 [.ref q_1, .ref q_2, .ref q_3, .ref q_4], zzI cy q_1 8 (upd (upd (upd (upd (upd (upd (upd (upd (fun _ => 0) 0 (-1)) 1 (-1)) 2 (-1)) 3 (-1)) 4 (-1)) 5 (-1)) 6 (-1)) 7 (-1)), zzI cy q_2 8 (fun _ => 0), zzI cy q_3 8 (fun _ => 0), zzJ cy q_4 320 (fun _ => 0)]) hx hb hr hlocks (hP.sub [0, 1, 2, 3, 4] rfl) (hD.sub [0, 1, 2, 3, 4] (by decide +kernel) rfl) hS ⟨q_1, q_2, q_3, q_4, upd (upd (upd (upd (upd (upd (upd (upd (fun _ => 0) 0 (-1)) 1 (-1)) 2 (-1)) 3 (-1)) 4 (-1)) 5 (-1)) 6 (-1)) 7 (-1), rfl, fun i hi => by match i, hi with | 0, _ => rfl | 1, _ => rfl | 2, _ => rfl | 3, _ => rfl | 4, _ => rfl | 5, _ => rfl | 6, _ => rfl | 7, _ => rfl | k + 8, h => exact absurd h (by omega)⟩ dX2_init_58
set_option maxHeartbeats 4000000 in
set_option maxRecDepth 100000 in
theorem k_X3_init (l : Launch) (G : va_G) (cy : Nat → ClassId) (sz : Nat) (qa : Nat)   : MW l yX3_init cX3_init 1 none 2 10 383 G cy [zzO qa 2 [.null, .int 0, .int 0, .int 0, .int 0, .int 0, .null]] sz [.ref qa] (Wv G (fun u => ∃ (qab : Nat) (qd : Nat) (qdw : Nat) (qdn : Nat) (qdg : Nat) (qda : Nat) (qdr : Nat) (qdm : Nat) (qdt : Nat) (qds : Nat), u = [zzO qa 2 [.ref qab, .int 0, .int 0, .int 0, .int 0, .int 0, .ref qd], zzB cy qab 250 (fun _ => 0), zzO qd 3 [.int 0, .int 0, .int 0, .int 0, .int 1, .ref qdw, .ref qdn, .ref qdg, .ref qda, .ref qdr, .ref qdm, .ref qdt, .ref qds], zzI cy qdw 8 (fun _ => 0), zzI cy qdn 8 (fun _ => 0), zzI cy qdg 8 (fun _ => 0), zzI cy qda 8 (fun _ => 0), zzI cy qdr 8 (fun _ => 0), zzI cy qdm 8 (fun _ => 0), zzI cy qdt 8 (fun _ => 0), zzI cy qds 64 (fun _ => 0)])) := by
  refine enW RX3 (by decide) rfl (Nat.le_of_ble_eq_true rfl) (fun p e s m below meth c ls A hx hb hml hown hts hr hlocks hP hN hl hin hD hA hS => ?_)
  have hin : meth.name = _ := hin
  have hK := hN.1
  replace hl : lv_has ls 1 [(0, .ref qa)] := hl
  refine lv_aload_n hx hb dX3_init_0 rfl (lv_at hl 0 rfl) ?_
  refine W.objInit hx hb hown (hts _ m_t145) (hts _ m_t21) (hts _ m_t22) rfl (by rw [hml]; exact hl.1) rfl dX3_init_1 (Nat.le_of_ble_eq_true rfl) (Nat.le_of_ble_eq_true rfl) ?_
  refine W.eq (g2 := F0 m 4 ls []) rfl ?_
  refine lv_aload_n hx hb dX3_init_4 rfl (lv_at hl 0 rfl) ?_
  refine lv_sipush (v := 250) hx hb dX3_init_5 (by decide) ?_
  refine newB hx hb hts m_t173 hN hP hD hS hA 250 (by decide) (by decide) (Nat.le_of_ble_eq_true rfl) (Nat.le_of_ble_eq_true rfl) (Nat.le_of_ble_eq_true rfl) dX3_init_8 (fun q_1 H => ?_)
  clear hP hD hS
  intro hP hD hS
  have hPD := pd_as [zzO qa 2 [.null, .int 0, .int 0, .int 0, .int 0, .int 0, .null], zzB cy q_1 250 (fun _ => 0)] hP hD rfl
  clear hP hD
  obtain ⟨hP, hD⟩ := hPD
  refine W.widen (k := 1) (n := 250) (Nat.le_of_ble_eq_true rfl) (Nat.le_of_ble_eq_true rfl) ?_
  refine va_putF (D := G) (ci := 2) (v := .ref q_1) (ty := (.array .byte)) (C := RX3) (T := TX3) (N := 7) hx hb hts iX_X3 tyX3 tyX3_ok nmX3 hown hK hP hD hS 0 rfl rfl 0 (by decide) (hts _ m_t148) (fun _ h9 => h9) rfl hin rfl (by decide +kernel) rfl rfl (Nat.le_of_ble_eq_true rfl) dX3_init_10 (fun H locs => ?_)
  clear hP hD hS
  intro hP hD hS
  have hPD := pd_as [zzO qa 2 [.ref q_1, .int 0, .int 0, .int 0, .int 0, .int 0, .null], zzB cy q_1 250 (fun _ => 0)] hP hD rfl
  clear hP hD
  obtain ⟨hP, hD⟩ := hPD
  refine lv_aload_n hx hb dX3_init_13 rfl (lv_at hl 0 rfl) ?_
  refine va_new (ci := 3) (fs := [.int 0, .int 0, .int 0, .int 0, .int 0, .null, .null, .null, .null, .null, .null, .null, .null]) (C := RX4) (T := TX4) (N := 13) hx hb hts iX_X4 tyX4 tyX4_ok hown (hts _ m_t146) (hts _ m_t24) (hts _ m_t2) hK hP hD hS hA rfl df_X4 (Nat.le_of_ble_eq_true rfl) (Nat.le_of_ble_eq_true rfl) dX3_init_14 (fun q_2 H => ?_)
  clear hP hD hS
  intro hP hD hS
  have hPD := pd_as [zzO qa 2 [.ref q_1, .int 0, .int 0, .int 0, .int 0, .int 0, .null], zzB cy q_1 250 (fun _ => 0), zzO q_2 3 [.int 0, .int 0, .int 0, .int 0, .int 0, .null, .null, .null, .null, .null, .null, .null, .null]] hP hD rfl
  clear hP hD
  obtain ⟨hP, hD⟩ := hPD
  refine W.widen (k := 2) (n := 263) (Nat.le_of_ble_eq_true rfl) (Nat.le_of_ble_eq_true rfl) ?_
  refine lv_dup hx hb dX3_init_17 rfl ?_
  refine cINv (As := []) (rest := [.ref q_2, .ref qa]) (b := q_2) ⟨hx, hb, hml, hown, hts⟩ (k_X4_init l G cy (H).size q_2) L_X3_17 hN hP hD hS hA [2] [true, true, false] rfl (by decide +kernel) rfl rfl ⟨Nat.le_of_ble_eq_true rfl, Nat.le_of_ble_eq_true rfl⟩ hl.1 (Nat.le_of_ble_eq_true rfl) dX3_init_18 ⟨Nat.le_of_ble_eq_true rfl, Nat.le_of_ble_eq_true rfl⟩ (fun u_5 H locs h_4 => ?_)
  clear hP hD hS
  intro hP hD hS
  obtain ⟨qtw_6, qtn_7, qtg_8, qta_9, qtr_10, qtm_11, qtt_12, qts_13, rfl⟩ := h_4
  have hPD := pd_as [zzO qa 2 [.ref q_1, .int 0, .int 0, .int 0, .int 0, .int 0, .null], zzB cy q_1 250 (fun _ => 0), zzO q_2 3 [.int 0, .int 0, .int 0, .int 0, .int 1, .ref qtw_6, .ref qtn_7, .ref qtg_8, .ref qta_9, .ref qtr_10, .ref qtm_11, .ref qtt_12, .ref qts_13], zzI cy qtw_6 8 (fun _ => 0), zzI cy qtn_7 8 (fun _ => 0), zzI cy qtg_8 8 (fun _ => 0), zzI cy qta_9 8 (fun _ => 0), zzI cy qtr_10 8 (fun _ => 0), zzI cy qtm_11 8 (fun _ => 0), zzI cy qtt_12 8 (fun _ => 0), zzI cy qts_13 64 (fun _ => 0)] hP hD rfl
  clear hP hD
  obtain ⟨hP, hD⟩ := hPD
  refine W.widen (k := 10) (n := 383) (Nat.le_of_ble_eq_true rfl) (Nat.le_of_ble_eq_true rfl) ?_
  refine va_putF (D := G) (ci := 2) (v := .ref q_2) (ty := (.object "EachBookOnce$Town")) (C := RX3) (T := TX3) (N := 7) hx hb hts iX_X3 tyX3 tyX3_ok nmX3 hown hK hP hD hS 0 rfl rfl 6 (by decide) (hts _ m_t156) (fun _ h9 => h9) rfl hin rfl (by decide +kernel) rfl rfl (Nat.le_of_ble_eq_true rfl) dX3_init_21 (fun H locs => ?_)
  clear hP hD hS
  intro hP hD hS
  have hPD := pd_as [zzO qa 2 [.ref q_1, .int 0, .int 0, .int 0, .int 0, .int 0, .ref q_2], zzB cy q_1 250 (fun _ => 0), zzO q_2 3 [.int 0, .int 0, .int 0, .int 0, .int 1, .ref qtw_6, .ref qtn_7, .ref qtg_8, .ref qta_9, .ref qtr_10, .ref qtm_11, .ref qtt_12, .ref qts_13], zzI cy qtw_6 8 (fun _ => 0), zzI cy qtn_7 8 (fun _ => 0), zzI cy qtg_8 8 (fun _ => 0), zzI cy qta_9 8 (fun _ => 0), zzI cy qtr_10 8 (fun _ => 0), zzI cy qtm_11 8 (fun _ => 0), zzI cy qtt_12 8 (fun _ => 0), zzI cy qts_13 64 (fun _ => 0)] hP hD rfl
  clear hP hD
  obtain ⟨hP, hD⟩ := hPD
  exact endV (u := [zzO qa 2 [.ref q_1, .int 0, .int 0, .int 0, .int 0, .int 0, .ref q_2], zzB cy q_1 250 (fun _ => 0), zzO q_2 3 [.int 0, .int 0, .int 0, .int 0, .int 1, .ref qtw_6, .ref qtn_7, .ref qtg_8, .ref qta_9, .ref qtr_10, .ref qtm_11, .ref qtt_12, .ref qts_13], zzI cy qtw_6 8 (fun _ => 0), zzI cy qtn_7 8 (fun _ => 0), zzI cy qtg_8 8 (fun _ => 0), zzI cy qta_9 8 (fun _ => 0), zzI cy qtr_10 8 (fun _ => 0), zzI cy qtm_11 8 (fun _ => 0), zzI cy qtt_12 8 (fun _ => 0), zzI cy qts_13 64 (fun _ => 0)]) hx hb hr hlocks (hP.sub [0, 1, 2, 3, 4, 5, 6, 7, 8, 9, 10] rfl) (hD.sub [0, 1, 2, 3, 4, 5, 6, 7, 8, 9, 10] (by decide +kernel) rfl) hS ⟨q_1, q_2, qtw_6, qtn_7, qtg_8, qta_9, qtr_10, qtm_11, qtt_12, qts_13, rfl⟩ dX3_init_24
set_option maxHeartbeats 4000000 in
set_option maxRecDepth 100000 in
theorem k_X5_init (l : Launch) (G : va_G) (cy : Nat → ClassId) (sz : Nat) (qx : Nat)   : MW l yX5_init cX5_init 1 none 3 54 1279 G cy [zzO qx 4 [.null, .null, .null, .null, .null, .null, .int 0, .int 0, .int 0]] sz [.ref qx] (Wv G (fun u => ∃ (qr : Nat) (qt : Nat) (qtw : Nat) (qtn : Nat) (qtg : Nat) (qta : Nat) (qtr : Nat) (qtm : Nat) (qtt : Nat) (qts : Nat) (qk : Nat) (qkw : Nat) (qkn : Nat) (qkg : Nat) (qka : Nat) (qkr : Nat) (qkm : Nat) (qkt : Nat) (qks : Nat) (qp : Nat) (qu : Nat) (quw : Nat) (qun : Nat) (qug : Nat) (qua : Nat) (qur : Nat) (qum : Nat) (qut : Nat) (qus : Nat) (qv : Nat) (qvw : Nat) (qvn : Nat) (qvg : Nat) (qva : Nat) (qvr : Nat) (qvm : Nat) (qvt : Nat) (qvs : Nat) (qs : Nat) (qsh : Nat) (qss : Nat) (qsa : Nat) (qse : Nat) (fH : Nat → Int32) (qa : Nat) (qab : Nat) (qd : Nat) (qdw : Nat) (qdn : Nat) (qdg : Nat) (qda : Nat) (qdr : Nat) (qdm : Nat) (qdt : Nat) (qds : Nat), u = [zzO qx 4 [.ref qt, .ref qk, .ref qp, .ref qs, .ref qa, .ref qr, .int 0, .int 0, .int 0], zzI cy qr 5 (fun _ => 0), zzO qt 3 [.int 0, .int 0, .int 0, .int 0, .int 1, .ref qtw, .ref qtn, .ref qtg, .ref qta, .ref qtr, .ref qtm, .ref qtt, .ref qts], zzI cy qtw 8 (fun _ => 0), zzI cy qtn 8 (fun _ => 0), zzI cy qtg 8 (fun _ => 0), zzI cy qta 8 (fun _ => 0), zzI cy qtr 8 (fun _ => 0), zzI cy qtm 8 (fun _ => 0), zzI cy qtt 8 (fun _ => 0), zzI cy qts 64 (fun _ => 0), zzO qk 3 [.int 0, .int 0, .int 0, .int 0, .int 1, .ref qkw, .ref qkn, .ref qkg, .ref qka, .ref qkr, .ref qkm, .ref qkt, .ref qks], zzI cy qkw 8 (fun _ => 0), zzI cy qkn 8 (fun _ => 0), zzI cy qkg 8 (fun _ => 0), zzI cy qka 8 (fun _ => 0), zzI cy qkr 8 (fun _ => 0), zzI cy qkm 8 (fun _ => 0), zzI cy qkt 8 (fun _ => 0), zzI cy qks 64 (fun _ => 0), zzO qp 0 [.ref qu, .ref qv, .int 0, .int 0], zzO qu 3 [.int 0, .int 0, .int 0, .int 0, .int 1, .ref quw, .ref qun, .ref qug, .ref qua, .ref qur, .ref qum, .ref qut, .ref qus], zzI cy quw 8 (fun _ => 0), zzI cy qun 8 (fun _ => 0), zzI cy qug 8 (fun _ => 0), zzI cy qua 8 (fun _ => 0), zzI cy qur 8 (fun _ => 0), zzI cy qum 8 (fun _ => 0), zzI cy qut 8 (fun _ => 0), zzI cy qus 64 (fun _ => 0), zzO qv 3 [.int 0, .int 0, .int 0, .int 0, .int 1, .ref qvw, .ref qvn, .ref qvg, .ref qva, .ref qvr, .ref qvm, .ref qvt, .ref qvs], zzI cy qvw 8 (fun _ => 0), zzI cy qvn 8 (fun _ => 0), zzI cy qvg 8 (fun _ => 0), zzI cy qva 8 (fun _ => 0), zzI cy qvr 8 (fun _ => 0), zzI cy qvm 8 (fun _ => 0), zzI cy qvt 8 (fun _ => 0), zzI cy qvs 64 (fun _ => 0), zzO qs 1 [.ref qsh, .ref qss, .ref qsa, .ref qse], zzI cy qsh 8 fH, zzI cy qss 8 (fun _ => 0), zzI cy qsa 8 (fun _ => 0), zzJ cy qse 320 (fun _ => 0), zzO qa 2 [.ref qab, .int 0, .int 0, .int 0, .int 0, .int 0, .ref qd], zzB cy qab 250 (fun _ => 0), zzO qd 3 [.int 0, .int 0, .int 0, .int 0, .int 1, .ref qdw, .ref qdn, .ref qdg, .ref qda, .ref qdr, .ref qdm, .ref qdt, .ref qds], zzI cy qdw 8 (fun _ => 0), zzI cy qdn 8 (fun _ => 0), zzI cy qdg 8 (fun _ => 0), zzI cy qda 8 (fun _ => 0), zzI cy qdr 8 (fun _ => 0), zzI cy qdm 8 (fun _ => 0), zzI cy qdt 8 (fun _ => 0), zzI cy qds 64 (fun _ => 0)] ∧ (∀ i, i < 8 → fH i = -1))) := by
  refine enW RX5 (by decide) rfl (Nat.le_of_ble_eq_true rfl) (fun p e s m below meth c ls A hx hb hml hown hts hr hlocks hP hN hl hin hD hA hS => ?_)
  have hin : meth.name = _ := hin
  have hK := hN.1
  replace hl : lv_has ls 1 [(0, .ref qx)] := hl
  refine lv_aload_n hx hb dX5_init_0 rfl (lv_at hl 0 rfl) ?_
  refine W.objInit hx hb hown (hts _ m_t20) (hts _ m_t21) (hts _ m_t22) rfl (by rw [hml]; exact hl.1) rfl dX5_init_1 (Nat.le_of_ble_eq_true rfl) (Nat.le_of_ble_eq_true rfl) ?_
  refine W.eq (g2 := F0 m 4 ls []) rfl ?_
  refine lv_aload_n hx hb dX5_init_4 rfl (lv_at hl 0 rfl) ?_
  refine va_new (ci := 3) (fs := [.int 0, .int 0, .int 0, .int 0, .int 0, .null, .null, .null, .null, .null, .null, .null, .null]) (C := RX4) (T := TX4) (N := 13) hx hb hts iX_X4 tyX4 tyX4_ok hown (hts _ m_t23) (hts _ m_t24) (hts _ m_t2) hK hP hD hS hA rfl df_X4 (Nat.le_of_ble_eq_true rfl) (Nat.le_of_ble_eq_true rfl) dX5_init_5 (fun q_1 H => ?_)
  clear hP hD hS
  intro hP hD hS
  have hPD := pd_as [zzO qx 4 [.null, .null, .null, .null, .null, .null, .int 0, .int 0, .int 0], zzO q_1 3 [.int 0, .int 0, .int 0, .int 0, .int 0, .null, .null, .null, .null, .null, .null, .null, .null]] hP hD rfl
  clear hP hD
  obtain ⟨hP, hD⟩ := hPD
  refine W.widen (k := 1) (n := 13) (Nat.le_of_ble_eq_true rfl) (Nat.le_of_ble_eq_true rfl) ?_
  refine lv_dup hx hb dX5_init_8 rfl ?_
  refine cINv (As := []) (rest := [.ref q_1, .ref qx]) (b := q_1) ⟨hx, hb, hml, hown, hts⟩ (k_X4_init l G cy (H).size q_1) L_X5_9 hN hP hD hS hA [1] [true, false] rfl (by decide +kernel) rfl rfl ⟨Nat.le_of_ble_eq_true rfl, Nat.le_of_ble_eq_true rfl⟩ hl.1 (Nat.le_of_ble_eq_true rfl) dX5_init_9 ⟨Nat.le_of_ble_eq_true rfl, Nat.le_of_ble_eq_true rfl⟩ (fun u_4 H locs h_3 => ?_)
  clear hP hD hS
  intro hP hD hS
  obtain ⟨qtw_5, qtn_6, qtg_7, qta_8, qtr_9, qtm_10, qtt_11, qts_12, rfl⟩ := h_3
  have hPD := pd_as [zzO qx 4 [.null, .null, .null, .null, .null, .null, .int 0, .int 0, .int 0], zzO q_1 3 [.int 0, .int 0, .int 0, .int 0, .int 1, .ref qtw_5, .ref qtn_6, .ref qtg_7, .ref qta_8, .ref qtr_9, .ref qtm_10, .ref qtt_11, .ref qts_12], zzI cy qtw_5 8 (fun _ => 0), zzI cy qtn_6 8 (fun _ => 0), zzI cy qtg_7 8 (fun _ => 0), zzI cy qta_8 8 (fun _ => 0), zzI cy qtr_9 8 (fun _ => 0), zzI cy qtm_10 8 (fun _ => 0), zzI cy qtt_11 8 (fun _ => 0), zzI cy qts_12 64 (fun _ => 0)] hP hD rfl
  clear hP hD
  obtain ⟨hP, hD⟩ := hPD
  refine W.widen (k := 9) (n := 133) (Nat.le_of_ble_eq_true rfl) (Nat.le_of_ble_eq_true rfl) ?_
  refine va_putF (D := G) (ci := 4) (v := .ref q_1) (ty := (.object "EachBookOnce$Town")) (C := RX5) (T := TX5) (N := 9) hx hb hts iX_X5 tyX5 tyX5_ok nmX5 hown hK hP hD hS 0 rfl rfl 0 (by decide) (hts _ m_t174) (fun _ h9 => h9) rfl hin rfl (by decide +kernel) rfl rfl (Nat.le_of_ble_eq_true rfl) dX5_init_12 (fun H locs => ?_)
  clear hP hD hS
  intro hP hD hS
  have hPD := pd_as [zzO qx 4 [.ref q_1, .null, .null, .null, .null, .null, .int 0, .int 0, .int 0], zzO q_1 3 [.int 0, .int 0, .int 0, .int 0, .int 1, .ref qtw_5, .ref qtn_6, .ref qtg_7, .ref qta_8, .ref qtr_9, .ref qtm_10, .ref qtt_11, .ref qts_12], zzI cy qtw_5 8 (fun _ => 0), zzI cy qtn_6 8 (fun _ => 0), zzI cy qtg_7 8 (fun _ => 0), zzI cy qta_8 8 (fun _ => 0), zzI cy qtr_9 8 (fun _ => 0), zzI cy qtm_10 8 (fun _ => 0), zzI cy qtt_11 8 (fun _ => 0), zzI cy qts_12 64 (fun _ => 0)] hP hD rfl
  clear hP hD
  obtain ⟨hP, hD⟩ := hPD
  refine lv_aload_n hx hb dX5_init_15 rfl (lv_at hl 0 rfl) ?_
  refine va_new (ci := 3) (fs := [.int 0, .int 0, .int 0, .int 0, .int 0, .null, .null, .null, .null, .null, .null, .null, .null]) (C := RX4) (T := TX4) (N := 13) hx hb hts iX_X4 tyX4 tyX4_ok hown (hts _ m_t23) (hts _ m_t24) (hts _ m_t2) hK hP hD hS hA rfl df_X4 (Nat.le_of_ble_eq_true rfl) (Nat.le_of_ble_eq_true rfl) dX5_init_16 (fun q_13 H => ?_)
  clear hP hD hS
  intro hP hD hS
  have hPD := pd_as [zzO qx 4 [.ref q_1, .null, .null, .null, .null, .null, .int 0, .int 0, .int 0], zzO q_1 3 [.int 0, .int 0, .int 0, .int 0, .int 1, .ref qtw_5, .ref qtn_6, .ref qtg_7, .ref qta_8, .ref qtr_9, .ref qtm_10, .ref qtt_11, .ref qts_12], zzI cy qtw_5 8 (fun _ => 0), zzI cy qtn_6 8 (fun _ => 0), zzI cy qtg_7 8 (fun _ => 0), zzI cy qta_8 8 (fun _ => 0), zzI cy qtr_9 8 (fun _ => 0), zzI cy qtm_10 8 (fun _ => 0), zzI cy qtt_11 8 (fun _ => 0), zzI cy qts_12 64 (fun _ => 0), zzO q_13 3 [.int 0, .int 0, .int 0, .int 0, .int 0, .null, .null, .null, .null, .null, .null, .null, .null]] hP hD rfl
  clear hP hD
  obtain ⟨hP, hD⟩ := hPD
  refine W.widen (k := 10) (n := 146) (Nat.le_of_ble_eq_true rfl) (Nat.le_of_ble_eq_true rfl) ?_
  refine lv_dup hx hb dX5_init_19 rfl ?_
  refine cINv (As := []) (rest := [.ref q_13, .ref qx]) (b := q_13) ⟨hx, hb, hml, hown, hts⟩ (k_X4_init l G cy (H).size q_13) L_X5_9 hN hP hD hS hA [10] [true, true, true, true, true, true, true, true, true, true, false] rfl (by decide +kernel) rfl rfl ⟨Nat.le_of_ble_eq_true rfl, Nat.le_of_ble_eq_true rfl⟩ hl.1 (Nat.le_of_ble_eq_true rfl) dX5_init_20 ⟨Nat.le_of_ble_eq_true rfl, Nat.le_of_ble_eq_true rfl⟩ (fun u_16 H locs h_15 => ?_)
  clear hP hD hS
  intro hP hD hS
  obtain ⟨qtw_17, qtn_18, qtg_19, qta_20, qtr_21, qtm_22, qtt_23, qts_24, rfl⟩ := h_15
  have hPD := pd_as [zzO qx 4 [.ref q_1, .null, .null, .null, .null, .null, .int 0, .int 0, .int 0], zzO q_1 3 [.int 0, .int 0, .int 0, .int 0, .int 1, .ref qtw_5, .ref qtn_6, .ref qtg_7, .ref qta_8, .ref qtr_9, .ref qtm_10, .ref qtt_11, .ref qts_12], zzI cy qtw_5 8 (fun _ => 0), zzI cy qtn_6 8 (fun _ => 0), zzI cy qtg_7 8 (fun _ => 0), zzI cy qta_8 8 (fun _ => 0), zzI cy qtr_9 8 (fun _ => 0), zzI cy qtm_10 8 (fun _ => 0), zzI cy qtt_11 8 (fun _ => 0), zzI cy qts_12 64 (fun _ => 0), zzO q_13 3 [.int 0, .int 0, .int 0, .int 0, .int 1, .ref qtw_17, .ref qtn_18, .ref qtg_19, .ref qta_20, .ref qtr_21, .ref qtm_22, .ref qtt_23, .ref qts_24], zzI cy qtw_17 8 (fun _ => 0), zzI cy qtn_18 8 (fun _ => 0), zzI cy qtg_19 8 (fun _ => 0), zzI cy qta_20 8 (fun _ => 0), zzI cy qtr_21 8 (fun _ => 0), zzI cy qtm_22 8 (fun _ => 0), zzI cy qtt_23 8 (fun _ => 0), zzI cy qts_24 64 (fun _ => 0)] hP hD rfl
  clear hP hD
  obtain ⟨hP, hD⟩ := hPD
  refine W.widen (k := 18) (n := 266) (Nat.le_of_ble_eq_true rfl) (Nat.le_of_ble_eq_true rfl) ?_
  refine va_putF (D := G) (ci := 4) (v := .ref q_13) (ty := (.object "EachBookOnce$Town")) (C := RX5) (T := TX5) (N := 9) hx hb hts iX_X5 tyX5 tyX5_ok nmX5 hown hK hP hD hS 0 rfl rfl 1 (by decide) (hts _ m_t175) (fun _ h9 => h9) rfl hin rfl (by decide +kernel) rfl rfl (Nat.le_of_ble_eq_true rfl) dX5_init_23 (fun H locs => ?_)
  clear hP hD hS
  intro hP hD hS
  have hPD := pd_as [zzO qx 4 [.ref q_1, .ref q_13, .null, .null, .null, .null, .int 0, .int 0, .int 0], zzO q_1 3 [.int 0, .int 0, .int 0, .int 0, .int 1, .ref qtw_5, .ref qtn_6, .ref qtg_7, .ref qta_8, .ref qtr_9, .ref qtm_10, .ref qtt_11, .ref qts_12], zzI cy qtw_5 8 (fun _ => 0), zzI cy qtn_6 8 (fun _ => 0), zzI cy qtg_7 8 (fun _ => 0), zzI cy qta_8 8 (fun _ => 0), zzI cy qtr_9 8 (fun _ => 0), zzI cy qtm_10 8 (fun _ => 0), zzI cy qtt_11 8 (fun _ => 0), zzI cy qts_12 64 (fun _ => 0), zzO q_13 3 [.int 0, .int 0, .int 0, .int 0, .int 1, .ref qtw_17, .ref qtn_18, .ref qtg_19, .ref qta_20, .ref qtr_21, .ref qtm_22, .ref qtt_23, .ref qts_24], zzI cy qtw_17 8 (fun _ => 0), zzI cy qtn_18 8 (fun _ => 0), zzI cy qtg_19 8 (fun _ => 0), zzI cy qta_20 8 (fun _ => 0), zzI cy qtr_21 8 (fun _ => 0), zzI cy qtm_22 8 (fun _ => 0), zzI cy qtt_23 8 (fun _ => 0), zzI cy qts_24 64 (fun _ => 0)] hP hD rfl
  clear hP hD
  obtain ⟨hP, hD⟩ := hPD
  refine lv_aload_n hx hb dX5_init_26 rfl (lv_at hl 0 rfl) ?_
  refine va_new (ci := 0) (fs := [.null, .null, .int 0, .int 0]) (C := RX0) (T := TX0) (N := 4) hx hb hts iX_X0 tyX0 tyX0_ok hown (hts _ m_t93) (hts _ m_t94) (hts _ m_t3) hK hP hD hS hA rfl df_X0 (Nat.le_of_ble_eq_true rfl) (Nat.le_of_ble_eq_true rfl) dX5_init_27 (fun q_25 H => ?_)
  clear hP hD hS
  intro hP hD hS
  have hPD := pd_as [zzO qx 4 [.ref q_1, .ref q_13, .null, .null, .null, .null, .int 0, .int 0, .int 0], zzO q_1 3 [.int 0, .int 0, .int 0, .int 0, .int 1, .ref qtw_5, .ref qtn_6, .ref qtg_7, .ref qta_8, .ref qtr_9, .ref qtm_10, .ref qtt_11, .ref qts_12], zzI cy qtw_5 8 (fun _ => 0), zzI cy qtn_6 8 (fun _ => 0), zzI cy qtg_7 8 (fun _ => 0), zzI cy qta_8 8 (fun _ => 0), zzI cy qtr_9 8 (fun _ => 0), zzI cy qtm_10 8 (fun _ => 0), zzI cy qtt_11 8 (fun _ => 0), zzI cy qts_12 64 (fun _ => 0), zzO q_13 3 [.int 0, .int 0, .int 0, .int 0, .int 1, .ref qtw_17, .ref qtn_18, .ref qtg_19, .ref qta_20, .ref qtr_21, .ref qtm_22, .ref qtt_23, .ref qts_24], zzI cy qtw_17 8 (fun _ => 0), zzI cy qtn_18 8 (fun _ => 0), zzI cy qtg_19 8 (fun _ => 0), zzI cy qta_20 8 (fun _ => 0), zzI cy qtr_21 8 (fun _ => 0), zzI cy qtm_22 8 (fun _ => 0), zzI cy qtt_23 8 (fun _ => 0), zzI cy qts_24 64 (fun _ => 0), zzO q_25 0 [.null, .null, .int 0, .int 0]] hP hD rfl
  clear hP hD
  obtain ⟨hP, hD⟩ := hPD
  refine W.widen (k := 19) (n := 270) (Nat.le_of_ble_eq_true rfl) (Nat.le_of_ble_eq_true rfl) ?_
  refine lv_dup hx hb dX5_init_30 rfl ?_
  refine cINv (As := []) (rest := [.ref q_25, .ref qx]) (b := q_25) ⟨hx, hb, hml, hown, hts⟩ (k_X0_init l G cy (H).size q_25) L_X5_21 hN hP hD hS hA [19] [true, true, true, true, true, true, true, true, true, true, true, true, true, true, true, true, true, true, true, false] rfl (by decide +kernel) rfl rfl ⟨Nat.le_of_ble_eq_true rfl, Nat.le_of_ble_eq_true rfl⟩ hl.1 (Nat.le_of_ble_eq_true rfl) dX5_init_31 ⟨Nat.le_of_ble_eq_true rfl, Nat.le_of_ble_eq_true rfl⟩ (fun u_28 H locs h_27 => ?_)
  clear hP hD hS
  intro hP hD hS
  obtain ⟨qu_29, quw_30, qun_31, qug_32, qua_33, qur_34, qum_35, qut_36, qus_37, qv_38, qvw_39, qvn_40, qvg_41, qva_42, qvr_43, qvm_44, qvt_45, qvs_46, rfl⟩ := h_27
  have hPD := pd_as [zzO qx 4 [.ref q_1, .ref q_13, .null, .null, .null, .null, .int 0, .int 0, .int 0], zzO q_1 3 [.int 0, .int 0, .int 0, .int 0, .int 1, .ref qtw_5, .ref qtn_6, .ref qtg_7, .ref qta_8, .ref qtr_9, .ref qtm_10, .ref qtt_11, .ref qts_12], zzI cy qtw_5 8 (fun _ => 0), zzI cy qtn_6 8 (fun _ => 0), zzI cy qtg_7 8 (fun _ => 0), zzI cy qta_8 8 (fun _ => 0), zzI cy qtr_9 8 (fun _ => 0), zzI cy qtm_10 8 (fun _ => 0), zzI cy qtt_11 8 (fun _ => 0), zzI cy qts_12 64 (fun _ => 0), zzO q_13 3 [.int 0, .int 0, .int 0, .int 0, .int 1, .ref qtw_17, .ref qtn_18, .ref qtg_19, .ref qta_20, .ref qtr_21, .ref qtm_22, .ref qtt_23, .ref qts_24], zzI cy qtw_17 8 (fun _ => 0), zzI cy qtn_18 8 (fun _ => 0), zzI cy qtg_19 8 (fun _ => 0), zzI cy qta_20 8 (fun _ => 0), zzI cy qtr_21 8 (fun _ => 0), zzI cy qtm_22 8 (fun _ => 0), zzI cy qtt_23 8 (fun _ => 0), zzI cy qts_24 64 (fun _ => 0), zzO q_25 0 [.ref qu_29, .ref qv_38, .int 0, .int 0], zzO qu_29 3 [.int 0, .int 0, .int 0, .int 0, .int 1, .ref quw_30, .ref qun_31, .ref qug_32, .ref qua_33, .ref qur_34, .ref qum_35, .ref qut_36, .ref qus_37], zzI cy quw_30 8 (fun _ => 0), zzI cy qun_31 8 (fun _ => 0), zzI cy qug_32 8 (fun _ => 0), zzI cy qua_33 8 (fun _ => 0), zzI cy qur_34 8 (fun _ => 0), zzI cy qum_35 8 (fun _ => 0), zzI cy qut_36 8 (fun _ => 0), zzI cy qus_37 64 (fun _ => 0), zzO qv_38 3 [.int 0, .int 0, .int 0, .int 0, .int 1, .ref qvw_39, .ref qvn_40, .ref qvg_41, .ref qva_42, .ref qvr_43, .ref qvm_44, .ref qvt_45, .ref qvs_46], zzI cy qvw_39 8 (fun _ => 0), zzI cy qvn_40 8 (fun _ => 0), zzI cy qvg_41 8 (fun _ => 0), zzI cy qva_42 8 (fun _ => 0), zzI cy qvr_43 8 (fun _ => 0), zzI cy qvm_44 8 (fun _ => 0), zzI cy qvt_45 8 (fun _ => 0), zzI cy qvs_46 64 (fun _ => 0)] hP hD rfl
  clear hP hD
  obtain ⟨hP, hD⟩ := hPD
  refine W.widen (k := 37) (n := 536) (Nat.le_of_ble_eq_true rfl) (Nat.le_of_ble_eq_true rfl) ?_
  refine va_putF (D := G) (ci := 4) (v := .ref q_25) (ty := (.object "EachBookOnce$Plans")) (C := RX5) (T := TX5) (N := 9) hx hb hts iX_X5 tyX5 tyX5_ok nmX5 hown hK hP hD hS 0 rfl rfl 2 (by decide) (hts _ m_t176) (fun _ h9 => h9) rfl hin rfl (by decide +kernel) rfl rfl (Nat.le_of_ble_eq_true rfl) dX5_init_34 (fun H locs => ?_)
  clear hP hD hS
  intro hP hD hS
  have hPD := pd_as [zzO qx 4 [.ref q_1, .ref q_13, .ref q_25, .null, .null, .null, .int 0, .int 0, .int 0], zzO q_1 3 [.int 0, .int 0, .int 0, .int 0, .int 1, .ref qtw_5, .ref qtn_6, .ref qtg_7, .ref qta_8, .ref qtr_9, .ref qtm_10, .ref qtt_11, .ref qts_12], zzI cy qtw_5 8 (fun _ => 0), zzI cy qtn_6 8 (fun _ => 0), zzI cy qtg_7 8 (fun _ => 0), zzI cy qta_8 8 (fun _ => 0), zzI cy qtr_9 8 (fun _ => 0), zzI cy qtm_10 8 (fun _ => 0), zzI cy qtt_11 8 (fun _ => 0), zzI cy qts_12 64 (fun _ => 0), zzO q_13 3 [.int 0, .int 0, .int 0, .int 0, .int 1, .ref qtw_17, .ref qtn_18, .ref qtg_19, .ref qta_20, .ref qtr_21, .ref qtm_22, .ref qtt_23, .ref qts_24], zzI cy qtw_17 8 (fun _ => 0), zzI cy qtn_18 8 (fun _ => 0), zzI cy qtg_19 8 (fun _ => 0), zzI cy qta_20 8 (fun _ => 0), zzI cy qtr_21 8 (fun _ => 0), zzI cy qtm_22 8 (fun _ => 0), zzI cy qtt_23 8 (fun _ => 0), zzI cy qts_24 64 (fun _ => 0), zzO q_25 0 [.ref qu_29, .ref qv_38, .int 0, .int 0], zzO qu_29 3 [.int 0, .int 0, .int 0, .int 0, .int 1, .ref quw_30, .ref qun_31, .ref qug_32, .ref qua_33, .ref qur_34, .ref qum_35, .ref qut_36, .ref qus_37], zzI cy quw_30 8 (fun _ => 0), zzI cy qun_31 8 (fun _ => 0), zzI cy qug_32 8 (fun _ => 0), zzI cy qua_33 8 (fun _ => 0), zzI cy qur_34 8 (fun _ => 0), zzI cy qum_35 8 (fun _ => 0), zzI cy qut_36 8 (fun _ => 0), zzI cy qus_37 64 (fun _ => 0), zzO qv_38 3 [.int 0, .int 0, .int 0, .int 0, .int 1, .ref qvw_39, .ref qvn_40, .ref qvg_41, .ref qva_42, .ref qvr_43, .ref qvm_44, .ref qvt_45, .ref qvs_46], zzI cy qvw_39 8 (fun _ => 0), zzI cy qvn_40 8 (fun _ => 0), zzI cy qvg_41 8 (fun _ => 0), zzI cy qva_42 8 (fun _ => 0), zzI cy qvr_43 8 (fun _ => 0), zzI cy qvm_44 8 (fun _ => 0), zzI cy qvt_45 8 (fun _ => 0), zzI cy qvs_46 64 (fun _ => 0)] hP hD rfl
  clear hP hD
  obtain ⟨hP, hD⟩ := hPD
  refine lv_aload_n hx hb dX5_init_37 rfl (lv_at hl 0 rfl) ?_
  refine va_new (ci := 1) (fs := [.null, .null, .null, .null]) (C := RX2) (T := TX2) (N := 4) hx hb hts iX_X2 tyX2 tyX2_ok hown (hts _ m_t117) (hts _ m_t118) (hts _ m_t4) hK hP hD hS hA rfl df_X2 (Nat.le_of_ble_eq_true rfl) (Nat.le_of_ble_eq_true rfl) dX5_init_38 (fun q_47 H => ?_)
  clear hP hD hS
  intro hP hD hS
  have hPD := pd_as [zzO qx 4 [.ref q_1, .ref q_13, .ref q_25, .null, .null, .null, .int 0, .int 0, .int 0], zzO q_1 3 [.int 0, .int 0, .int 0, .int 0, .int 1, .ref qtw_5, .ref qtn_6, .ref qtg_7, .ref qta_8, .ref qtr_9, .ref qtm_10, .ref qtt_11, .ref qts_12], zzI cy qtw_5 8 (fun _ => 0), zzI cy qtn_6 8 (fun _ => 0), zzI cy qtg_7 8 (fun _ => 0), zzI cy qta_8 8 (fun _ => 0), zzI cy qtr_9 8 (fun _ => 0), zzI cy qtm_10 8 (fun _ => 0), zzI cy qtt_11 8 (fun _ => 0), zzI cy qts_12 64 (fun _ => 0), zzO q_13 3 [.int 0, .int 0, .int 0, .int 0, .int 1, .ref qtw_17, .ref qtn_18, .ref qtg_19, .ref qta_20, .ref qtr_21, .ref qtm_22, .ref qtt_23, .ref qts_24], zzI cy qtw_17 8 (fun _ => 0), zzI cy qtn_18 8 (fun _ => 0), zzI cy qtg_19 8 (fun _ => 0), zzI cy qta_20 8 (fun _ => 0), zzI cy qtr_21 8 (fun _ => 0), zzI cy qtm_22 8 (fun _ => 0), zzI cy qtt_23 8 (fun _ => 0), zzI cy qts_24 64 (fun _ => 0), zzO q_25 0 [.ref qu_29, .ref qv_38, .int 0, .int 0], zzO qu_29 3 [.int 0, .int 0, .int 0, .int 0, .int 1, .ref quw_30, .ref qun_31, .ref qug_32, .ref qua_33, .ref qur_34, .ref qum_35, .ref qut_36, .ref qus_37], zzI cy quw_30 8 (fun _ => 0), zzI cy qun_31 8 (fun _ => 0), zzI cy qug_32 8 (fun _ => 0), zzI cy qua_33 8 (fun _ => 0), zzI cy qur_34 8 (fun _ => 0), zzI cy qum_35 8 (fun _ => 0), zzI cy qut_36 8 (fun _ => 0), zzI cy qus_37 64 (fun _ => 0), zzO qv_38 3 [.int 0, .int 0, .int 0, .int 0, .int 1, .ref qvw_39, .ref qvn_40, .ref qvg_41, .ref qva_42, .ref qvr_43, .ref qvm_44, .ref qvt_45, .ref qvs_46], zzI cy qvw_39 8 (fun _ => 0), zzI cy qvn_40 8 (fun _ => 0), zzI cy qvg_41 8 (fun _ => 0), zzI cy qva_42 8 (fun _ => 0), zzI cy qvr_43 8 (fun _ => 0), zzI cy qvm_44 8 (fun _ => 0), zzI cy qvt_45 8 (fun _ => 0), zzI cy qvs_46 64 (fun _ => 0), zzO q_47 1 [.null, .null, .null, .null]] hP hD rfl
  clear hP hD
  obtain ⟨hP, hD⟩ := hPD
  refine W.widen (k := 38) (n := 540) (Nat.le_of_ble_eq_true rfl) (Nat.le_of_ble_eq_true rfl) ?_
  refine lv_dup hx hb dX5_init_41 rfl ?_
  refine cIv (As := []) (rest := [.ref q_47, .ref qx]) (b := q_47) ⟨hx, hb, hml, hown, hts⟩ (k_X2_init l G cy (H).size q_47) L_X5_28 hN hP hD hS hA [38] [true, true, true, true, true, true, true, true, true, true, true, true, true, true, true, true, true, true, true, true, true, true, true, true, true, true, true, true, true, true, true, true, true, true, true, true, true, true, false] rfl (by decide +kernel) rfl rfl ⟨Nat.le_of_ble_eq_true rfl, Nat.le_of_ble_eq_true rfl⟩ hl.1 (Nat.le_of_ble_eq_true rfl) dX5_init_42 ⟨Nat.le_of_ble_eq_true rfl, Nat.le_of_ble_eq_true rfl⟩ (fun u_50 H locs h_49 => ?_)
  clear hP hD hS
  intro hP hD hS
  obtain ⟨qsh_51, qss_52, qsa_53, qse_54, fH_55, rfl, h_56⟩ := h_49
  have hPD := pd_as [zzO qx 4 [.ref q_1, .ref q_13, .ref q_25, .null, .null, .null, .int 0, .int 0, .int 0], zzO q_1 3 [.int 0, .int 0, .int 0, .int 0, .int 1, .ref qtw_5, .ref qtn_6, .ref qtg_7, .ref qta_8, .ref qtr_9, .ref qtm_10, .ref qtt_11, .ref qts_12], zzI cy qtw_5 8 (fun _ => 0), zzI cy qtn_6 8 (fun _ => 0), zzI cy qtg_7 8 (fun _ => 0), zzI cy qta_8 8 (fun _ => 0), zzI cy qtr_9 8 (fun _ => 0), zzI cy qtm_10 8 (fun _ => 0), zzI cy qtt_11 8 (fun _ => 0), zzI cy qts_12 64 (fun _ => 0), zzO q_13 3 [.int 0, .int 0, .int 0, .int 0, .int 1, .ref qtw_17, .ref qtn_18, .ref qtg_19, .ref qta_20, .ref qtr_21, .ref qtm_22, .ref qtt_23, .ref qts_24], zzI cy qtw_17 8 (fun _ => 0), zzI cy qtn_18 8 (fun _ => 0), zzI cy qtg_19 8 (fun _ => 0), zzI cy qta_20 8 (fun _ => 0), zzI cy qtr_21 8 (fun _ => 0), zzI cy qtm_22 8 (fun _ => 0), zzI cy qtt_23 8 (fun _ => 0), zzI cy qts_24 64 (fun _ => 0), zzO q_25 0 [.ref qu_29, .ref qv_38, .int 0, .int 0], zzO qu_29 3 [.int 0, .int 0, .int 0, .int 0, .int 1, .ref quw_30, .ref qun_31, .ref qug_32, .ref qua_33, .ref qur_34, .ref qum_35, .ref qut_36, .ref qus_37], zzI cy quw_30 8 (fun _ => 0), zzI cy qun_31 8 (fun _ => 0), zzI cy qug_32 8 (fun _ => 0), zzI cy qua_33 8 (fun _ => 0), zzI cy qur_34 8 (fun _ => 0), zzI cy qum_35 8 (fun _ => 0), zzI cy qut_36 8 (fun _ => 0), zzI cy qus_37 64 (fun _ => 0), zzO qv_38 3 [.int 0, .int 0, .int 0, .int 0, .int 1, .ref qvw_39, .ref qvn_40, .ref qvg_41, .ref qva_42, .ref qvr_43, .ref qvm_44, .ref qvt_45, .ref qvs_46], zzI cy qvw_39 8 (fun _ => 0), zzI cy qvn_40 8 (fun _ => 0), zzI cy qvg_41 8 (fun _ => 0), zzI cy qva_42 8 (fun _ => 0), zzI cy qvr_43 8 (fun _ => 0), zzI cy qvm_44 8 (fun _ => 0), zzI cy qvt_45 8 (fun _ => 0), zzI cy qvs_46 64 (fun _ => 0), zzO q_47 1 [.ref qsh_51, .ref qss_52, .ref qsa_53, .ref qse_54], zzI cy qsh_51 8 fH_55, zzI cy qss_52 8 (fun _ => 0), zzI cy qsa_53 8 (fun _ => 0), zzJ cy qse_54 320 (fun _ => 0)] hP hD rfl
  clear hP hD
  obtain ⟨hP, hD⟩ := hPD
  refine W.widen (k := 42) (n := 884) (Nat.le_of_ble_eq_true rfl) (Nat.le_of_ble_eq_true rfl) ?_
  refine va_putF (D := G) (ci := 4) (v := .ref q_47) (ty := (.object "EachBookOnce$Shelves")) (C := RX5) (T := TX5) (N := 9) hx hb hts iX_X5 tyX5 tyX5_ok nmX5 hown hK hP hD hS 0 rfl rfl 3 (by decide) (hts _ m_t177) (fun _ h9 => h9) rfl hin rfl (by decide +kernel) rfl rfl (Nat.le_of_ble_eq_true rfl) dX5_init_45 (fun H locs => ?_)
  clear hP hD hS
  intro hP hD hS
  have hPD := pd_as [zzO qx 4 [.ref q_1, .ref q_13, .ref q_25, .ref q_47, .null, .null, .int 0, .int 0, .int 0], zzO q_1 3 [.int 0, .int 0, .int 0, .int 0, .int 1, .ref qtw_5, .ref qtn_6, .ref qtg_7, .ref qta_8, .ref qtr_9, .ref qtm_10, .ref qtt_11, .ref qts_12], zzI cy qtw_5 8 (fun _ => 0), zzI cy qtn_6 8 (fun _ => 0), zzI cy qtg_7 8 (fun _ => 0), zzI cy qta_8 8 (fun _ => 0), zzI cy qtr_9 8 (fun _ => 0), zzI cy qtm_10 8 (fun _ => 0), zzI cy qtt_11 8 (fun _ => 0), zzI cy qts_12 64 (fun _ => 0), zzO q_13 3 [.int 0, .int 0, .int 0, .int 0, .int 1, .ref qtw_17, .ref qtn_18, .ref qtg_19, .ref qta_20, .ref qtr_21, .ref qtm_22, .ref qtt_23, .ref qts_24], zzI cy qtw_17 8 (fun _ => 0), zzI cy qtn_18 8 (fun _ => 0), zzI cy qtg_19 8 (fun _ => 0), zzI cy qta_20 8 (fun _ => 0), zzI cy qtr_21 8 (fun _ => 0), zzI cy qtm_22 8 (fun _ => 0), zzI cy qtt_23 8 (fun _ => 0), zzI cy qts_24 64 (fun _ => 0), zzO q_25 0 [.ref qu_29, .ref qv_38, .int 0, .int 0], zzO qu_29 3 [.int 0, .int 0, .int 0, .int 0, .int 1, .ref quw_30, .ref qun_31, .ref qug_32, .ref qua_33, .ref qur_34, .ref qum_35, .ref qut_36, .ref qus_37], zzI cy quw_30 8 (fun _ => 0), zzI cy qun_31 8 (fun _ => 0), zzI cy qug_32 8 (fun _ => 0), zzI cy qua_33 8 (fun _ => 0), zzI cy qur_34 8 (fun _ => 0), zzI cy qum_35 8 (fun _ => 0), zzI cy qut_36 8 (fun _ => 0), zzI cy qus_37 64 (fun _ => 0), zzO qv_38 3 [.int 0, .int 0, .int 0, .int 0, .int 1, .ref qvw_39, .ref qvn_40, .ref qvg_41, .ref qva_42, .ref qvr_43, .ref qvm_44, .ref qvt_45, .ref qvs_46], zzI cy qvw_39 8 (fun _ => 0), zzI cy qvn_40 8 (fun _ => 0), zzI cy qvg_41 8 (fun _ => 0), zzI cy qva_42 8 (fun _ => 0), zzI cy qvr_43 8 (fun _ => 0), zzI cy qvm_44 8 (fun _ => 0), zzI cy qvt_45 8 (fun _ => 0), zzI cy qvs_46 64 (fun _ => 0), zzO q_47 1 [.ref qsh_51, .ref qss_52, .ref qsa_53, .ref qse_54], zzI cy qsh_51 8 fH_55, zzI cy qss_52 8 (fun _ => 0), zzI cy qsa_53 8 (fun _ => 0), zzJ cy qse_54 320 (fun _ => 0)] hP hD rfl
  clear hP hD
  obtain ⟨hP, hD⟩ := hPD
  refine lv_aload_n hx hb dX5_init_48 rfl (lv_at hl 0 rfl) ?_
  refine va_new (ci := 2) (fs := [.null, .int 0, .int 0, .int 0, .int 0, .int 0, .null]) (C := RX3) (T := TX3) (N := 7) hx hb hts iX_X3 tyX3 tyX3_ok hown (hts _ m_t140) (hts _ m_t141) (hts _ m_t5) hK hP hD hS hA rfl df_X3 (Nat.le_of_ble_eq_true rfl) (Nat.le_of_ble_eq_true rfl) dX5_init_49 (fun q_57 H => ?_)
  clear hP hD hS
  intro hP hD hS
  have hPD := pd_as [zzO qx 4 [.ref q_1, .ref q_13, .ref q_25, .ref q_47, .null, .null, .int 0, .int 0, .int 0], zzO q_1 3 [.int 0, .int 0, .int 0, .int 0, .int 1, .ref qtw_5, .ref qtn_6, .ref qtg_7, .ref qta_8, .ref qtr_9, .ref qtm_10, .ref qtt_11, .ref qts_12], zzI cy qtw_5 8 (fun _ => 0), zzI cy qtn_6 8 (fun _ => 0), zzI cy qtg_7 8 (fun _ => 0), zzI cy qta_8 8 (fun _ => 0), zzI cy qtr_9 8 (fun _ => 0), zzI cy qtm_10 8 (fun _ => 0), zzI cy qtt_11 8 (fun _ => 0), zzI cy qts_12 64 (fun _ => 0), zzO q_13 3 [.int 0, .int 0, .int 0, .int 0, .int 1, .ref qtw_17, .ref qtn_18, .ref qtg_19, .ref qta_20, .ref qtr_21, .ref qtm_22, .ref qtt_23, .ref qts_24], zzI cy qtw_17 8 (fun _ => 0), zzI cy qtn_18 8 (fun _ => 0), zzI cy qtg_19 8 (fun _ => 0), zzI cy qta_20 8 (fun _ => 0), zzI cy qtr_21 8 (fun _ => 0), zzI cy qtm_22 8 (fun _ => 0), zzI cy qtt_23 8 (fun _ => 0), zzI cy qts_24 64 (fun _ => 0), zzO q_25 0 [.ref qu_29, .ref qv_38, .int 0, .int 0], zzO qu_29 3 [.int 0, .int 0, .int 0, .int 0, .int 1, .ref quw_30, .ref qun_31, .ref qug_32, .ref qua_33, .ref qur_34, .ref qum_35, .ref qut_36, .ref qus_37], zzI cy quw_30 8 (fun _ => 0), zzI cy qun_31 8 (fun _ => 0), zzI cy qug_32 8 (fun _ => 0), zzI cy qua_33 8 (fun _ => 0), zzI cy qur_34 8 (fun _ => 0), zzI cy qum_35 8 (fun _ => 0), zzI cy qut_36 8 (fun _ => 0), zzI cy qus_37 64 (fun _ => 0), zzO qv_38 3 [.int 0, .int 0, .int 0, .int 0, .int 1, .ref qvw_39, .ref qvn_40, .ref qvg_41, .ref qva_42, .ref qvr_43, .ref qvm_44, .ref qvt_45, .ref qvs_46], zzI cy qvw_39 8 (fun _ => 0), zzI cy qvn_40 8 (fun _ => 0), zzI cy qvg_41 8 (fun _ => 0), zzI cy qva_42 8 (fun _ => 0), zzI cy qvr_43 8 (fun _ => 0), zzI cy qvm_44 8 (fun _ => 0), zzI cy qvt_45 8 (fun _ => 0), zzI cy qvs_46 64 (fun _ => 0), zzO q_47 1 [.ref qsh_51, .ref qss_52, .ref qsa_53, .ref qse_54], zzI cy qsh_51 8 fH_55, zzI cy qss_52 8 (fun _ => 0), zzI cy qsa_53 8 (fun _ => 0), zzJ cy qse_54 320 (fun _ => 0), zzO q_57 2 [.null, .int 0, .int 0, .int 0, .int 0, .int 0, .null]] hP hD rfl
  clear hP hD
  obtain ⟨hP, hD⟩ := hPD
  refine W.widen (k := 43) (n := 891) (Nat.le_of_ble_eq_true rfl) (Nat.le_of_ble_eq_true rfl) ?_
  refine lv_dup hx hb dX5_init_52 rfl ?_
  refine cINv (As := []) (rest := [.ref q_57, .ref qx]) (b := q_57) ⟨hx, hb, hml, hown, hts⟩ (k_X3_init l G cy (H).size q_57) L_X5_35 hN hP hD hS hA [43] [true, true, true, true, true, true, true, true, true, true, true, true, true, true, true, true, true, true, true, true, true, true, true, true, true, true, true, true, true, true, true, true, true, true, true, true, true, true, true, true, true, true, true, false] rfl (by decide +kernel) rfl rfl ⟨Nat.le_of_ble_eq_true rfl, Nat.le_of_ble_eq_true rfl⟩ hl.1 (Nat.le_of_ble_eq_true rfl) dX5_init_53 ⟨Nat.le_of_ble_eq_true rfl, Nat.le_of_ble_eq_true rfl⟩ (fun u_60 H locs h_59 => ?_)
  clear hP hD hS
  intro hP hD hS
  obtain ⟨qab_61, qd_62, qdw_63, qdn_64, qdg_65, qda_66, qdr_67, qdm_68, qdt_69, qds_70, rfl⟩ := h_59
  have hPD := pd_as [zzO qx 4 [.ref q_1, .ref q_13, .ref q_25, .ref q_47, .null, .null, .int 0, .int 0, .int 0], zzO q_1 3 [.int 0, .int 0, .int 0, .int 0, .int 1, .ref qtw_5, .ref qtn_6, .ref qtg_7, .ref qta_8, .ref qtr_9, .ref qtm_10, .ref qtt_11, .ref qts_12], zzI cy qtw_5 8 (fun _ => 0), zzI cy qtn_6 8 (fun _ => 0), zzI cy qtg_7 8 (fun _ => 0), zzI cy qta_8 8 (fun _ => 0), zzI cy qtr_9 8 (fun _ => 0), zzI cy qtm_10 8 (fun _ => 0), zzI cy qtt_11 8 (fun _ => 0), zzI cy qts_12 64 (fun _ => 0), zzO q_13 3 [.int 0, .int 0, .int 0, .int 0, .int 1, .ref qtw_17, .ref qtn_18, .ref qtg_19, .ref qta_20, .ref qtr_21, .ref qtm_22, .ref qtt_23, .ref qts_24], zzI cy qtw_17 8 (fun _ => 0), zzI cy qtn_18 8 (fun _ => 0), zzI cy qtg_19 8 (fun _ => 0), zzI cy qta_20 8 (fun _ => 0), zzI cy qtr_21 8 (fun _ => 0), zzI cy qtm_22 8 (fun _ => 0), zzI cy qtt_23 8 (fun _ => 0), zzI cy qts_24 64 (fun _ => 0), zzO q_25 0 [.ref qu_29, .ref qv_38, .int 0, .int 0], zzO qu_29 3 [.int 0, .int 0, .int 0, .int 0, .int 1, .ref quw_30, .ref qun_31, .ref qug_32, .ref qua_33, .ref qur_34, .ref qum_35, .ref qut_36, .ref qus_37], zzI cy quw_30 8 (fun _ => 0), zzI cy qun_31 8 (fun _ => 0), zzI cy qug_32 8 (fun _ => 0), zzI cy qua_33 8 (fun _ => 0), zzI cy qur_34 8 (fun _ => 0), zzI cy qum_35 8 (fun _ => 0), zzI cy qut_36 8 (fun _ => 0), zzI cy qus_37 64 (fun _ => 0), zzO qv_38 3 [.int 0, .int 0, .int 0, .int 0, .int 1, .ref qvw_39, .ref qvn_40, .ref qvg_41, .ref qva_42, .ref qvr_43, .ref qvm_44, .ref qvt_45, .ref qvs_46], zzI cy qvw_39 8 (fun _ => 0), zzI cy qvn_40 8 (fun _ => 0), zzI cy qvg_41 8 (fun _ => 0), zzI cy qva_42 8 (fun _ => 0), zzI cy qvr_43 8 (fun _ => 0), zzI cy qvm_44 8 (fun _ => 0), zzI cy qvt_45 8 (fun _ => 0), zzI cy qvs_46 64 (fun _ => 0), zzO q_47 1 [.ref qsh_51, .ref qss_52, .ref qsa_53, .ref qse_54], zzI cy qsh_51 8 fH_55, zzI cy qss_52 8 (fun _ => 0), zzI cy qsa_53 8 (fun _ => 0), zzJ cy qse_54 320 (fun _ => 0), zzO q_57 2 [.ref qab_61, .int 0, .int 0, .int 0, .int 0, .int 0, .ref qd_62], zzB cy qab_61 250 (fun _ => 0), zzO qd_62 3 [.int 0, .int 0, .int 0, .int 0, .int 1, .ref qdw_63, .ref qdn_64, .ref qdg_65, .ref qda_66, .ref qdr_67, .ref qdm_68, .ref qdt_69, .ref qds_70], zzI cy qdw_63 8 (fun _ => 0), zzI cy qdn_64 8 (fun _ => 0), zzI cy qdg_65 8 (fun _ => 0), zzI cy qda_66 8 (fun _ => 0), zzI cy qdr_67 8 (fun _ => 0), zzI cy qdm_68 8 (fun _ => 0), zzI cy qdt_69 8 (fun _ => 0), zzI cy qds_70 64 (fun _ => 0)] hP hD rfl
  clear hP hD
  obtain ⟨hP, hD⟩ := hPD
  refine W.widen (k := 53) (n := 1274) (Nat.le_of_ble_eq_true rfl) (Nat.le_of_ble_eq_true rfl) ?_
  refine va_putF (D := G) (ci := 4) (v := .ref q_57) (ty := (.object "EachBookOnce$Tape")) (C := RX5) (T := TX5) (N := 9) hx hb hts iX_X5 tyX5 tyX5_ok nmX5 hown hK hP hD hS 0 rfl rfl 4 (by decide) (hts _ m_t178) (fun _ h9 => h9) rfl hin rfl (by decide +kernel) rfl rfl (Nat.le_of_ble_eq_true rfl) dX5_init_56 (fun H locs => ?_)
  clear hP hD hS
  intro hP hD hS
  have hPD := pd_as [zzO qx 4 [.ref q_1, .ref q_13, .ref q_25, .ref q_47, .ref q_57, .null, .int 0, .int 0, .int 0], zzO q_1 3 [.int 0, .int 0, .int 0, .int 0, .int 1, .ref qtw_5, .ref qtn_6, .ref qtg_7, .ref qta_8, .ref qtr_9, .ref qtm_10, .ref qtt_11, .ref qts_12], zzI cy qtw_5 8 (fun _ => 0), zzI cy qtn_6 8 (fun _ => 0), zzI cy qtg_7 8 (fun _ => 0), zzI cy qta_8 8 (fun _ => 0), zzI cy qtr_9 8 (fun _ => 0), zzI cy qtm_10 8 (fun _ => 0), zzI cy qtt_11 8 (fun _ => 0), zzI cy qts_12 64 (fun _ => 0), zzO q_13 3 [.int 0, .int 0, .int 0, .int 0, .int 1, .ref qtw_17, .ref qtn_18, .ref qtg_19, .ref qta_20, .ref qtr_21, .ref qtm_22, .ref qtt_23, .ref qts_24], zzI cy qtw_17 8 (fun _ => 0), zzI cy qtn_18 8 (fun _ => 0), zzI cy qtg_19 8 (fun _ => 0), zzI cy qta_20 8 (fun _ => 0), zzI cy qtr_21 8 (fun _ => 0), zzI cy qtm_22 8 (fun _ => 0), zzI cy qtt_23 8 (fun _ => 0), zzI cy qts_24 64 (fun _ => 0), zzO q_25 0 [.ref qu_29, .ref qv_38, .int 0, .int 0], zzO qu_29 3 [.int 0, .int 0, .int 0, .int 0, .int 1, .ref quw_30, .ref qun_31, .ref qug_32, .ref qua_33, .ref qur_34, .ref qum_35, .ref qut_36, .ref qus_37], zzI cy quw_30 8 (fun _ => 0), zzI cy qun_31 8 (fun _ => 0), zzI cy qug_32 8 (fun _ => 0), zzI cy qua_33 8 (fun _ => 0), zzI cy qur_34 8 (fun _ => 0), zzI cy qum_35 8 (fun _ => 0), zzI cy qut_36 8 (fun _ => 0), zzI cy qus_37 64 (fun _ => 0), zzO qv_38 3 [.int 0, .int 0, .int 0, .int 0, .int 1, .ref qvw_39, .ref qvn_40, .ref qvg_41, .ref qva_42, .ref qvr_43, .ref qvm_44, .ref qvt_45, .ref qvs_46], zzI cy qvw_39 8 (fun _ => 0), zzI cy qvn_40 8 (fun _ => 0), zzI cy qvg_41 8 (fun _ => 0), zzI cy qva_42 8 (fun _ => 0), zzI cy qvr_43 8 (fun _ => 0), zzI cy qvm_44 8 (fun _ => 0), zzI cy qvt_45 8 (fun _ => 0), zzI cy qvs_46 64 (fun _ => 0), zzO q_47 1 [.ref qsh_51, .ref qss_52, .ref qsa_53, .ref qse_54], zzI cy qsh_51 8 fH_55, zzI cy qss_52 8 (fun _ => 0), zzI cy qsa_53 8 (fun _ => 0), zzJ cy qse_54 320 (fun _ => 0), zzO q_57 2 [.ref qab_61, .int 0, .int 0, .int 0, .int 0, .int 0, .ref qd_62], zzB cy qab_61 250 (fun _ => 0), zzO qd_62 3 [.int 0, .int 0, .int 0, .int 0, .int 1, .ref qdw_63, .ref qdn_64, .ref qdg_65, .ref qda_66, .ref qdr_67, .ref qdm_68, .ref qdt_69, .ref qds_70], zzI cy qdw_63 8 (fun _ => 0), zzI cy qdn_64 8 (fun _ => 0), zzI cy qdg_65 8 (fun _ => 0), zzI cy qda_66 8 (fun _ => 0), zzI cy qdr_67 8 (fun _ => 0), zzI cy qdm_68 8 (fun _ => 0), zzI cy qdt_69 8 (fun _ => 0), zzI cy qds_70 64 (fun _ => 0)] hP hD rfl
  clear hP hD
  obtain ⟨hP, hD⟩ := hPD
  refine lv_aload_n hx hb dX5_init_59 rfl (lv_at hl 0 rfl) ?_
  refine lv_iconst (v := 5) hx hb dX5_init_60 (by decide) ?_
  refine newI hx hb hts m_t92 hN hP hD hS hA 5 (by decide) (by decide) (Nat.le_of_ble_eq_true rfl) (Nat.le_of_ble_eq_true rfl) (Nat.le_of_ble_eq_true rfl) dX5_init_61 (fun q_71 H => ?_)
  clear hP hD hS
  intro hP hD hS
  have hPD := pd_as [zzO qx 4 [.ref q_1, .ref q_13, .ref q_25, .ref q_47, .ref q_57, .null, .int 0, .int 0, .int 0], zzO q_1 3 [.int 0, .int 0, .int 0, .int 0, .int 1, .ref qtw_5, .ref qtn_6, .ref qtg_7, .ref qta_8, .ref qtr_9, .ref qtm_10, .ref qtt_11, .ref qts_12], zzI cy qtw_5 8 (fun _ => 0), zzI cy qtn_6 8 (fun _ => 0), zzI cy qtg_7 8 (fun _ => 0), zzI cy qta_8 8 (fun _ => 0), zzI cy qtr_9 8 (fun _ => 0), zzI cy qtm_10 8 (fun _ => 0), zzI cy qtt_11 8 (fun _ => 0), zzI cy qts_12 64 (fun _ => 0), zzO q_13 3 [.int 0, .int 0, .int 0, .int 0, .int 1, .ref qtw_17, .ref qtn_18, .ref qtg_19, .ref qta_20, .ref qtr_21, .ref qtm_22, .ref qtt_23, .ref qts_24], zzI cy qtw_17 8 (fun _ => 0), zzI cy qtn_18 8 (fun _ => 0), zzI cy qtg_19 8 (fun _ => 0), zzI cy qta_20 8 (fun _ => 0), zzI cy qtr_21 8 (fun _ => 0), zzI cy qtm_22 8 (fun _ => 0), zzI cy qtt_23 8 (fun _ => 0), zzI cy qts_24 64 (fun _ => 0), zzO q_25 0 [.ref qu_29, .ref qv_38, .int 0, .int 0], zzO qu_29 3 [.int 0, .int 0, .int 0, .int 0, .int 1, .ref quw_30, .ref qun_31, .ref qug_32, .ref qua_33, .ref qur_34, .ref qum_35, .ref qut_36, .ref qus_37], zzI cy quw_30 8 (fun _ => 0), zzI cy qun_31 8 (fun _ => 0), zzI cy qug_32 8 (fun _ => 0), zzI cy qua_33 8 (fun _ => 0), zzI cy qur_34 8 (fun _ => 0), zzI cy qum_35 8 (fun _ => 0), zzI cy qut_36 8 (fun _ => 0), zzI cy qus_37 64 (fun _ => 0), zzO qv_38 3 [.int 0, .int 0, .int 0, .int 0, .int 1, .ref qvw_39, .ref qvn_40, .ref qvg_41, .ref qva_42, .ref qvr_43, .ref qvm_44, .ref qvt_45, .ref qvs_46], zzI cy qvw_39 8 (fun _ => 0), zzI cy qvn_40 8 (fun _ => 0), zzI cy qvg_41 8 (fun _ => 0), zzI cy qva_42 8 (fun _ => 0), zzI cy qvr_43 8 (fun _ => 0), zzI cy qvm_44 8 (fun _ => 0), zzI cy qvt_45 8 (fun _ => 0), zzI cy qvs_46 64 (fun _ => 0), zzO q_47 1 [.ref qsh_51, .ref qss_52, .ref qsa_53, .ref qse_54], zzI cy qsh_51 8 fH_55, zzI cy qss_52 8 (fun _ => 0), zzI cy qsa_53 8 (fun _ => 0), zzJ cy qse_54 320 (fun _ => 0), zzO q_57 2 [.ref qab_61, .int 0, .int 0, .int 0, .int 0, .int 0, .ref qd_62], zzB cy qab_61 250 (fun _ => 0), zzO qd_62 3 [.int 0, .int 0, .int 0, .int 0, .int 1, .ref qdw_63, .ref qdn_64, .ref qdg_65, .ref qda_66, .ref qdr_67, .ref qdm_68, .ref qdt_69, .ref qds_70], zzI cy qdw_63 8 (fun _ => 0), zzI cy qdn_64 8 (fun _ => 0), zzI cy qdg_65 8 (fun _ => 0), zzI cy qda_66 8 (fun _ => 0), zzI cy qdr_67 8 (fun _ => 0), zzI cy qdm_68 8 (fun _ => 0), zzI cy qdt_69 8 (fun _ => 0), zzI cy qds_70 64 (fun _ => 0), zzI cy q_71 5 (fun _ => 0)] hP hD rfl
  clear hP hD
  obtain ⟨hP, hD⟩ := hPD
  refine W.widen (k := 54) (n := 1279) (Nat.le_of_ble_eq_true rfl) (Nat.le_of_ble_eq_true rfl) ?_
  refine va_putF (D := G) (ci := 4) (v := .ref q_71) (ty := (.array .int)) (C := RX5) (T := TX5) (N := 9) hx hb hts iX_X5 tyX5 tyX5_ok nmX5 hown hK hP hD hS 0 rfl rfl 5 (by decide) (hts _ m_t179) (fun _ h9 => h9) rfl hin rfl (by decide +kernel) rfl rfl (Nat.le_of_ble_eq_true rfl) dX5_init_63 (fun H locs => ?_)
  clear hP hD hS
  intro hP hD hS
  have hPD := pd_as [zzO qx 4 [.ref q_1, .ref q_13, .ref q_25, .ref q_47, .ref q_57, .ref q_71, .int 0, .int 0, .int 0], zzO q_1 3 [.int 0, .int 0, .int 0, .int 0, .int 1, .ref qtw_5, .ref qtn_6, .ref qtg_7, .ref qta_8, .ref qtr_9, .ref qtm_10, .ref qtt_11, .ref qts_12], zzI cy qtw_5 8 (fun _ => 0), zzI cy qtn_6 8 (fun _ => 0), zzI cy qtg_7 8 (fun _ => 0), zzI cy qta_8 8 (fun _ => 0), zzI cy qtr_9 8 (fun _ => 0), zzI cy qtm_10 8 (fun _ => 0), zzI cy qtt_11 8 (fun _ => 0), zzI cy qts_12 64 (fun _ => 0), zzO q_13 3 [.int 0, .int 0, .int 0, .int 0, .int 1, .ref qtw_17, .ref qtn_18, .ref qtg_19, .ref qta_20, .ref qtr_21, .ref qtm_22, .ref qtt_23, .ref qts_24], zzI cy qtw_17 8 (fun _ => 0), zzI cy qtn_18 8 (fun _ => 0), zzI cy qtg_19 8 (fun _ => 0), zzI cy qta_20 8 (fun _ => 0), zzI cy qtr_21 8 (fun _ => 0), zzI cy qtm_22 8 (fun _ => 0), zzI cy qtt_23 8 (fun _ => 0), zzI cy qts_24 64 (fun _ => 0), zzO q_25 0 [.ref qu_29, .ref qv_38, .int 0, .int 0], zzO qu_29 3 [.int 0, .int 0, .int 0, .int 0, .int 1, .ref quw_30, .ref qun_31, .ref qug_32, .ref qua_33, .ref qur_34, .ref qum_35, .ref qut_36, .ref qus_37], zzI cy quw_30 8 (fun _ => 0), zzI cy qun_31 8 (fun _ => 0), zzI cy qug_32 8 (fun _ => 0), zzI cy qua_33 8 (fun _ => 0), zzI cy qur_34 8 (fun _ => 0), zzI cy qum_35 8 (fun _ => 0), zzI cy qut_36 8 (fun _ => 0), zzI cy qus_37 64 (fun _ => 0), zzO qv_38 3 [.int 0, .int 0, .int 0, .int 0, .int 1, .ref qvw_39, .ref qvn_40, .ref qvg_41, .ref qva_42, .ref qvr_43, .ref qvm_44, .ref qvt_45, .ref qvs_46], zzI cy qvw_39 8 (fun _ => 0), zzI cy qvn_40 8 (fun _ => 0), zzI cy qvg_41 8 (fun _ => 0), zzI cy qva_42 8 (fun _ => 0), zzI cy qvr_43 8 (fun _ => 0), zzI cy qvm_44 8 (fun _ => 0), zzI cy qvt_45 8 (fun _ => 0), zzI cy qvs_46 64 (fun _ => 0), zzO q_47 1 [.ref qsh_51, .ref qss_52, .ref qsa_53, .ref qse_54], zzI cy qsh_51 8 fH_55, zzI cy qss_52 8 (fun _ => 0), zzI cy qsa_53 8 (fun _ => 0), zzJ cy qse_54 320 (fun _ => 0), zzO q_57 2 [.ref qab_61, .int 0, .int 0, .int 0, .int 0, .int 0, .ref qd_62], zzB cy qab_61 250 (fun _ => 0), zzO qd_62 3 [.int 0, .int 0, .int 0, .int 0, .int 1, .ref qdw_63, .ref qdn_64, .ref qdg_65, .ref qda_66, .ref qdr_67, .ref qdm_68, .ref qdt_69, .ref qds_70], zzI cy qdw_63 8 (fun _ => 0), zzI cy qdn_64 8 (fun _ => 0), zzI cy qdg_65 8 (fun _ => 0), zzI cy qda_66 8 (fun _ => 0), zzI cy qdr_67 8 (fun _ => 0), zzI cy qdm_68 8 (fun _ => 0), zzI cy qdt_69 8 (fun _ => 0), zzI cy qds_70 64 (fun _ => 0), zzI cy q_71 5 (fun _ => 0)] hP hD rfl
  clear hP hD
  obtain ⟨hP, hD⟩ := hPD
  exact endV (u := [zzO qx 4 [.ref q_1, .ref q_13, .ref q_25, .ref q_47, .ref q_57, .ref q_71, .int 0, .int 0, .int 0], zzI cy q_71 5 (fun _ => 0), zzO q_1 3 [.int 0, .int 0, .int 0, .int 0, .int 1, .ref qtw_5, .ref qtn_6, .ref qtg_7, .ref qta_8, .ref qtr_9, .ref qtm_10, .ref qtt_11, .ref qts_12], zzI cy qtw_5 8 (fun _ => 0), zzI cy qtn_6 8 (fun _ => 0), zzI cy qtg_7 8 (fun _ => 0), zzI cy qta_8 8 (fun _ => 0), zzI cy qtr_9 8 (fun _ => 0), zzI cy qtm_10 8 (fun _ => 0), zzI cy qtt_11 8 (fun _ => 0), zzI cy qts_12 64 (fun _ => 0), zzO q_13 3 [.int 0, .int 0, .int 0, .int 0, .int 1, .ref qtw_17, .ref qtn_18, .ref qtg_19, .ref qta_20, .ref qtr_21, .ref qtm_22, .ref qtt_23, .ref qts_24], zzI cy qtw_17 8 (fun _ => 0), zzI cy qtn_18 8 (fun _ => 0), zzI cy qtg_19 8 (fun _ => 0), zzI cy qta_20 8 (fun _ => 0), zzI cy qtr_21 8 (fun _ => 0), zzI cy qtm_22 8 (fun _ => 0), zzI cy qtt_23 8 (fun _ => 0), zzI cy qts_24 64 (fun _ => 0), zzO q_25 0 [.ref qu_29, .ref qv_38, .int 0, .int 0], zzO qu_29 3 [.int 0, .int 0, .int 0, .int 0, .int 1, .ref quw_30, .ref qun_31, .ref qug_32, .ref qua_33, .ref qur_34, .ref qum_35, .ref qut_36, .ref qus_37], zzI cy quw_30 8 (fun _ => 0), zzI cy qun_31 8 (fun _ => 0), zzI cy qug_32 8 (fun _ => 0), zzI cy qua_33 8 (fun _ => 0), zzI cy qur_34 8 (fun _ => 0), zzI cy qum_35 8 (fun _ => 0), zzI cy qut_36 8 (fun _ => 0), zzI cy qus_37 64 (fun _ => 0), zzO qv_38 3 [.int 0, .int 0, .int 0, .int 0, .int 1, .ref qvw_39, .ref qvn_40, .ref qvg_41, .ref qva_42, .ref qvr_43, .ref qvm_44, .ref qvt_45, .ref qvs_46], zzI cy qvw_39 8 (fun _ => 0), zzI cy qvn_40 8 (fun _ => 0), zzI cy qvg_41 8 (fun _ => 0), zzI cy qva_42 8 (fun _ => 0), zzI cy qvr_43 8 (fun _ => 0), zzI cy qvm_44 8 (fun _ => 0), zzI cy qvt_45 8 (fun _ => 0), zzI cy qvs_46 64 (fun _ => 0), zzO q_47 1 [.ref qsh_51, .ref qss_52, .ref qsa_53, .ref qse_54], zzI cy qsh_51 8 fH_55, zzI cy qss_52 8 (fun _ => 0), zzI cy qsa_53 8 (fun _ => 0), zzJ cy qse_54 320 (fun _ => 0), zzO q_57 2 [.ref qab_61, .int 0, .int 0, .int 0, .int 0, .int 0, .ref qd_62], zzB cy qab_61 250 (fun _ => 0), zzO qd_62 3 [.int 0, .int 0, .int 0, .int 0, .int 1, .ref qdw_63, .ref qdn_64, .ref qdg_65, .ref qda_66, .ref qdr_67, .ref qdm_68, .ref qdt_69, .ref qds_70], zzI cy qdw_63 8 (fun _ => 0), zzI cy qdn_64 8 (fun _ => 0), zzI cy qdg_65 8 (fun _ => 0), zzI cy qda_66 8 (fun _ => 0), zzI cy qdr_67 8 (fun _ => 0), zzI cy qdm_68 8 (fun _ => 0), zzI cy qdt_69 8 (fun _ => 0), zzI cy qds_70 64 (fun _ => 0)]) hx hb hr hlocks (hP.sub [0, 54, 1, 2, 3, 4, 5, 6, 7, 8, 9, 10, 11, 12, 13, 14, 15, 16, 17, 18, 19, 20, 21, 22, 23, 24, 25, 26, 27, 28, 29, 30, 31, 32, 33, 34, 35, 36, 37, 38, 39, 40, 41, 42, 43, 44, 45, 46, 47, 48, 49, 50, 51, 52, 53] rfl) (hD.sub [0, 54, 1, 2, 3, 4, 5, 6, 7, 8, 9, 10, 11, 12, 13, 14, 15, 16, 17, 18, 19, 20, 21, 22, 23, 24, 25, 26, 27, 28, 29, 30, 31, 32, 33, 34, 35, 36, 37, 38, 39, 40, 41, 42, 43, 44, 45, 46, 47, 48, 49, 50, 51, 52, 53] (by decide +kernel) rfl) hS ⟨q_71, q_1, qtw_5, qtn_6, qtg_7, qta_8, qtr_9, qtm_10, qtt_11, qts_12, q_13, qtw_17, qtn_18, qtg_19, qta_20, qtr_21, qtm_22, qtt_23, qts_24, q_25, qu_29, quw_30, qun_31, qug_32, qua_33, qur_34, qum_35, qut_36, qus_37, qv_38, qvw_39, qvn_40, qvg_41, qva_42, qvr_43, qvm_44, qvt_45, qvs_46, q_47, qsh_51, qss_52, qsa_53, qse_54, fH_55, q_57, qab_61, qd_62, qdw_63, qdn_64, qdg_65, qda_66, qdr_67, qdm_68, qdt_69, qds_70, rfl, h_56⟩ dX5_init_66
set_option maxHeartbeats 4000000 in
set_option maxRecDepth 100000 in
theorem k_X6_init (l : Launch) (G : va_G) (cy : Nat → ClassId) (sz : Nat) (qm : Nat)   : MW l yX6_init cX6_init 1 none 1 49 853 G cy [zzO qm 5 [.null, .null, .null, .null, .null, .null, .null, .null, .int 0, .null, .int 0, .null, .int 0, .null, .null, .int 0, .int 0, .int 0, .null, .null, .int 0, .int 0, .int 0, .long 0, .int 0, .null, .int 0, .int 0, .int 0, .null, .null, .null, .null, .null, .int 0]] sz [.ref qm] (Wv G (fun u => ∃ (qmh : Nat) (qmo : Nat) (qmz : Nat) (qmv : Nat) (qmk : Nat) (qma : Nat) (qmt : Nat) (qmr : Nat) (qm3 : Nat) (qmu : Nat) (qmy : Nat) (qmb : Nat) (qmR : Nat) (qmB : Nat) (qmO : Nat) (qmK : Nat) (rR : Nat → Nat) (rB : Nat → Nat) (rO : Nat → Nat) (rK : Nat → Nat) (qms : Nat), u = [zzO qm 5 [.ref qmh, .ref qmo, .ref qmz, .ref qmR, .ref qmv, .ref qmk, .ref qma, .ref qmt, .int 0, .ref qmr, .int 0, .ref qmB, .int 0, .ref qmO, .ref qmK, .int 0, .int 0, .int 1, .null, .null, .int 0, .int 0, .int 0, .long 0, .int 0, .ref qm3, .int 0, .int 0, .int 0, .null, .ref qmu, .ref qmy, .ref qmb, .ref qms, .int 0], zzI cy qmh 8 (fun _ => 0), zzI cy qmo 8 (fun _ => 0), zzI cy qmz 8 (fun _ => 0), zzJ cy qmv 40 (fun _ => 0), zzI cy qmk 8 (fun _ => 0), zzI cy qma 8 (fun _ => 0), zzI cy qmt 250 (fun _ => 0), zzI cy qmr 8 (fun _ => 0), zzI cy qm3 3 (fun _ => 0), zzI cy qmu 8 (fun _ => 0), zzI cy qmy 5 (fun _ => 0), zzI cy qmb 5 (fun _ => 0), zzG cy 4 qmR rR, zzJ cy (rR 0) 40 (fun _ => 0), zzJ cy (rR 1) 40 (fun _ => 0), zzJ cy (rR 2) 40 (fun _ => 0), zzJ cy (rR 3) 40 (fun _ => 0), zzJ cy (rR 4) 40 (fun _ => 0), zzJ cy (rR 5) 40 (fun _ => 0), zzJ cy (rR 6) 40 (fun _ => 0), zzJ cy (rR 7) 40 (fun _ => 0), zzG cy 3 qmB rB, zzI cy (rB 0) 4 (fun _ => 0), zzI cy (rB 1) 4 (fun _ => 0), zzI cy (rB 2) 4 (fun _ => 0), zzI cy (rB 3) 4 (fun _ => 0), zzI cy (rB 4) 4 (fun _ => 0), zzI cy (rB 5) 4 (fun _ => 0), zzI cy (rB 6) 4 (fun _ => 0), zzI cy (rB 7) 4 (fun _ => 0), zzG cy 3 qmO rO, zzI cy (rO 0) 5 (fun _ => 0), zzI cy (rO 1) 5 (fun _ => 0), zzI cy (rO 2) 5 (fun _ => 0), zzI cy (rO 3) 5 (fun _ => 0), zzI cy (rO 4) 5 (fun _ => 0), zzI cy (rO 5) 5 (fun _ => 0), zzI cy (rO 6) 5 (fun _ => 0), zzI cy (rO 7) 5 (fun _ => 0), zzG cy 3 qmK rK, zzI cy (rK 0) 8 (fun _ => 0), zzI cy (rK 1) 8 (fun _ => 0), zzI cy (rK 2) 8 (fun _ => 0), zzI cy (rK 3) 8 (fun _ => 0), zzI cy (rK 4) 8 (fun _ => 0), zzI cy (rK 5) 8 (fun _ => 0), zzI cy (rK 6) 8 (fun _ => 0), zzI cy (rK 7) 8 (fun _ => 0), zzQ cy 5 qms 6 (fun _ => none)])) := by
  refine enW RX6 (by decide) rfl (Nat.le_of_ble_eq_true rfl) (fun p e s m below meth c ls A hx hb hml hown hts hr hlocks hP hN hl hin hD hA hS => ?_)
  have hin : meth.name = _ := hin
  have hK := hN.1
  replace hl : lv_has ls 1 [(0, .ref qm)] := hl
  refine lv_aload_n hx hb dX6_init_0 rfl (lv_at hl 0 rfl) ?_
  refine W.objInit hx hb hown (hts _ m_t843) (hts _ m_t21) (hts _ m_t22) rfl (by rw [hml]; exact hl.1) rfl dX6_init_1 (Nat.le_of_ble_eq_true rfl) (Nat.le_of_ble_eq_true rfl) ?_
  refine W.eq (g2 := F0 m 4 ls []) rfl ?_
  refine lv_aload_n hx hb dX6_init_4 rfl (lv_at hl 0 rfl) ?_
  refine lv_bipush (v := 8) hx hb dX6_init_5 (by decide) ?_
  refine newI hx hb hts m_t92 hN hP hD hS hA 8 (by decide) (by decide) (Nat.le_of_ble_eq_true rfl) (Nat.le_of_ble_eq_true rfl) (Nat.le_of_ble_eq_true rfl) dX6_init_7 (fun q_1 H => ?_)
  clear hP hD hS
  intro hP hD hS
  have hPD := pd_as [zzO qm 5 [.null, .null, .null, .null, .null, .null, .null, .null, .int 0, .null, .int 0, .null, .int 0, .null, .null, .int 0, .int 0, .int 0, .null, .null, .int 0, .int 0, .int 0, .long 0, .int 0, .null, .int 0, .int 0, .int 0, .null, .null, .null, .null, .null, .int 0], zzI cy q_1 8 (fun _ => 0)] hP hD rfl
  clear hP hD
  obtain ⟨hP, hD⟩ := hPD
  refine W.widen (k := 1) (n := 8) (Nat.le_of_ble_eq_true rfl) (Nat.le_of_ble_eq_true rfl) ?_
  refine va_putF (D := G) (ci := 5) (v := .ref q_1) (ty := (.array .int)) (C := RX6) (T := TX6) (N := 35) hx hb hts iX_X6 tyX6 tyX6_ok nmX6 hown hK hP hD hS 0 rfl rfl 0 (by decide) (hts _ m_t850) (fun _ h9 => h9) rfl hin rfl (by decide +kernel) rfl rfl (Nat.le_of_ble_eq_true rfl) dX6_init_9 (fun H locs => ?_)
  clear hP hD hS
  intro hP hD hS
  have hPD := pd_as [zzO qm 5 [.ref q_1, .null, .null, .null, .null, .null, .null, .null, .int 0, .null, .int 0, .null, .int 0, .null, .null, .int 0, .int 0, .int 0, .null, .null, .int 0, .int 0, .int 0, .long 0, .int 0, .null, .int 0, .int 0, .int 0, .null, .null, .null, .null, .null, .int 0], zzI cy q_1 8 (fun _ => 0)] hP hD rfl
  clear hP hD
  obtain ⟨hP, hD⟩ := hPD
  refine lv_aload_n hx hb dX6_init_12 rfl (lv_at hl 0 rfl) ?_
  refine lv_bipush (v := 8) hx hb dX6_init_13 (by decide) ?_
  refine newI hx hb hts m_t92 hN hP hD hS hA 8 (by decide) (by decide) (Nat.le_of_ble_eq_true rfl) (Nat.le_of_ble_eq_true rfl) (Nat.le_of_ble_eq_true rfl) dX6_init_15 (fun q_2 H => ?_)
  clear hP hD hS
  intro hP hD hS
  have hPD := pd_as [zzO qm 5 [.ref q_1, .null, .null, .null, .null, .null, .null, .null, .int 0, .null, .int 0, .null, .int 0, .null, .null, .int 0, .int 0, .int 0, .null, .null, .int 0, .int 0, .int 0, .long 0, .int 0, .null, .int 0, .int 0, .int 0, .null, .null, .null, .null, .null, .int 0], zzI cy q_1 8 (fun _ => 0), zzI cy q_2 8 (fun _ => 0)] hP hD rfl
  clear hP hD
  obtain ⟨hP, hD⟩ := hPD
  refine W.widen (k := 2) (n := 16) (Nat.le_of_ble_eq_true rfl) (Nat.le_of_ble_eq_true rfl) ?_
  refine va_putF (D := G) (ci := 5) (v := .ref q_2) (ty := (.array .int)) (C := RX6) (T := TX6) (N := 35) hx hb hts iX_X6 tyX6 tyX6_ok nmX6 hown hK hP hD hS 0 rfl rfl 1 (by decide) (hts _ m_t851) (fun _ h9 => h9) rfl hin rfl (by decide +kernel) rfl rfl (Nat.le_of_ble_eq_true rfl) dX6_init_17 (fun H locs => ?_)
  clear hP hD hS
  intro hP hD hS
  have hPD := pd_as [zzO qm 5 [.ref q_1, .ref q_2, .null, .null, .null, .null, .null, .null, .int 0, .null, .int 0, .null, .int 0, .null, .null, .int 0, .int 0, .int 0, .null, .null, .int 0, .int 0, .int 0, .long 0, .int 0, .null, .int 0, .int 0, .int 0, .null, .null, .null, .null, .null, .int 0], zzI cy q_1 8 (fun _ => 0), zzI cy q_2 8 (fun _ => 0)] hP hD rfl
  clear hP hD
  obtain ⟨hP, hD⟩ := hPD
  refine lv_aload_n hx hb dX6_init_20 rfl (lv_at hl 0 rfl) ?_
  refine lv_bipush (v := 8) hx hb dX6_init_21 (by decide) ?_
  refine newI hx hb hts m_t92 hN hP hD hS hA 8 (by decide) (by decide) (Nat.le_of_ble_eq_true rfl) (Nat.le_of_ble_eq_true rfl) (Nat.le_of_ble_eq_true rfl) dX6_init_23 (fun q_3 H => ?_)
  clear hP hD hS
  intro hP hD hS
  have hPD := pd_as [zzO qm 5 [.ref q_1, .ref q_2, .null, .null, .null, .null, .null, .null, .int 0, .null, .int 0, .null, .int 0, .null, .null, .int 0, .int 0, .int 0, .null, .null, .int 0, .int 0, .int 0, .long 0, .int 0, .null, .int 0, .int 0, .int 0, .null, .null, .null, .null, .null, .int 0], zzI cy q_1 8 (fun _ => 0), zzI cy q_2 8 (fun _ => 0), zzI cy q_3 8 (fun _ => 0)] hP hD rfl
  clear hP hD
  obtain ⟨hP, hD⟩ := hPD
  refine W.widen (k := 3) (n := 24) (Nat.le_of_ble_eq_true rfl) (Nat.le_of_ble_eq_true rfl) ?_
  refine va_putF (D := G) (ci := 5) (v := .ref q_3) (ty := (.array .int)) (C := RX6) (T := TX6) (N := 35) hx hb hts iX_X6 tyX6 tyX6_ok nmX6 hown hK hP hD hS 0 rfl rfl 2 (by decide) (hts _ m_t852) (fun _ h9 => h9) rfl hin rfl (by decide +kernel) rfl rfl (Nat.le_of_ble_eq_true rfl) dX6_init_25 (fun H locs => ?_)
  clear hP hD hS
  intro hP hD hS
  have hPD := pd_as [zzO qm 5 [.ref q_1, .ref q_2, .ref q_3, .null, .null, .null, .null, .null, .int 0, .null, .int 0, .null, .int 0, .null, .null, .int 0, .int 0, .int 0, .null, .null, .int 0, .int 0, .int 0, .long 0, .int 0, .null, .int 0, .int 0, .int 0, .null, .null, .null, .null, .null, .int 0], zzI cy q_1 8 (fun _ => 0), zzI cy q_2 8 (fun _ => 0), zzI cy q_3 8 (fun _ => 0)] hP hD rfl
  clear hP hD
  obtain ⟨hP, hD⟩ := hPD
  refine lv_aload_n hx hb dX6_init_28 rfl (lv_at hl 0 rfl) ?_
  refine lv_bipush (v := 8) hx hb dX6_init_29 (by decide) ?_
  refine lv_bipush (v := 40) hx hb dX6_init_31 (by decide) ?_
  refine newJJ hx hb hts hown m_t844 m_t139 hN hP hD hS hA 40 (by decide) (by decide) (by decide) (Nat.le_of_ble_eq_true rfl) (Nat.le_of_ble_eq_true rfl) (Nat.le_of_ble_eq_true rfl) (Nat.le_of_ble_eq_true rfl) dX6_init_33 (fun q_4 r_5 H => ?_)
  clear hP hD hS
  intro hP hD hS
  have hPD := pd_as [zzO qm 5 [.ref q_1, .ref q_2, .ref q_3, .null, .null, .null, .null, .null, .int 0, .null, .int 0, .null, .int 0, .null, .null, .int 0, .int 0, .int 0, .null, .null, .int 0, .int 0, .int 0, .long 0, .int 0, .null, .int 0, .int 0, .int 0, .null, .null, .null, .null, .null, .int 0], zzI cy q_1 8 (fun _ => 0), zzI cy q_2 8 (fun _ => 0), zzI cy q_3 8 (fun _ => 0), zzG cy 4 q_4 r_5, zzJ cy (r_5 0) 40 (fun _ => 0), zzJ cy (r_5 1) 40 (fun _ => 0), zzJ cy (r_5 2) 40 (fun _ => 0), zzJ cy (r_5 3) 40 (fun _ => 0), zzJ cy (r_5 4) 40 (fun _ => 0), zzJ cy (r_5 5) 40 (fun _ => 0), zzJ cy (r_5 6) 40 (fun _ => 0), zzJ cy (r_5 7) 40 (fun _ => 0)] hP hD rfl
  clear hP hD
  obtain ⟨hP, hD⟩ := hPD
  refine W.widen (k := 12) (n := 352) (Nat.le_of_ble_eq_true rfl) (Nat.le_of_ble_eq_true rfl) ?_
  refine va_putF (D := G) (ci := 5) (v := .ref q_4) (ty := (.array (.array .long))) (C := RX6) (T := TX6) (N := 35) hx hb hts iX_X6 tyX6 tyX6_ok nmX6 hown hK hP hD hS 0 rfl rfl 3 (by decide) (hts _ m_t853) (fun _ h9 => h9) rfl hin rfl (by decide +kernel) rfl rfl (Nat.le_of_ble_eq_true rfl) dX6_init_37 (fun H locs => ?_)
  clear hP hD hS
  intro hP hD hS
  have hPD := pd_as [zzO qm 5 [.ref q_1, .ref q_2, .ref q_3, .ref q_4, .null, .null, .null, .null, .int 0, .null, .int 0, .null, .int 0, .null, .null, .int 0, .int 0, .int 0, .null, .null, .int 0, .int 0, .int 0, .long 0, .int 0, .null, .int 0, .int 0, .int 0, .null, .null, .null, .null, .null, .int 0], zzI cy q_1 8 (fun _ => 0), zzI cy q_2 8 (fun _ => 0), zzI cy q_3 8 (fun _ => 0), zzG cy 4 q_4 r_5, zzJ cy (r_5 0) 40 (fun _ => 0), zzJ cy (r_5 1) 40 (fun _ => 0), zzJ cy (r_5 2) 40 (fun _ => 0), zzJ cy (r_5 3) 40 (fun _ => 0), zzJ cy (r_5 4) 40 (fun _ => 0), zzJ cy (r_5 5) 40 (fun _ => 0), zzJ cy (r_5 6) 40 (fun _ => 0), zzJ cy (r_5 7) 40 (fun _ => 0)] hP hD rfl
  clear hP hD
  obtain ⟨hP, hD⟩ := hPD
  refine lv_aload_n hx hb dX6_init_40 rfl (lv_at hl 0 rfl) ?_
  refine lv_bipush (v := 40) hx hb dX6_init_41 (by decide) ?_
  refine newJ hx hb hts m_t139 hN hP hD hS hA 40 (by decide) (by decide) (Nat.le_of_ble_eq_true rfl) (Nat.le_of_ble_eq_true rfl) (Nat.le_of_ble_eq_true rfl) dX6_init_43 (fun q_6 H => ?_)
  clear hP hD hS
  intro hP hD hS
  have hPD := pd_as [zzO qm 5 [.ref q_1, .ref q_2, .ref q_3, .ref q_4, .null, .null, .null, .null, .int 0, .null, .int 0, .null, .int 0, .null, .null, .int 0, .int 0, .int 0, .null, .null, .int 0, .int 0, .int 0, .long 0, .int 0, .null, .int 0, .int 0, .int 0, .null, .null, .null, .null, .null, .int 0], zzI cy q_1 8 (fun _ => 0), zzI cy q_2 8 (fun _ => 0), zzI cy q_3 8 (fun _ => 0), zzG cy 4 q_4 r_5, zzJ cy (r_5 0) 40 (fun _ => 0), zzJ cy (r_5 1) 40 (fun _ => 0), zzJ cy (r_5 2) 40 (fun _ => 0), zzJ cy (r_5 3) 40 (fun _ => 0), zzJ cy (r_5 4) 40 (fun _ => 0), zzJ cy (r_5 5) 40 (fun _ => 0), zzJ cy (r_5 6) 40 (fun _ => 0), zzJ cy (r_5 7) 40 (fun _ => 0), zzJ cy q_6 40 (fun _ => 0)] hP hD rfl
  clear hP hD
  obtain ⟨hP, hD⟩ := hPD
  refine W.widen (k := 13) (n := 392) (Nat.le_of_ble_eq_true rfl) (Nat.le_of_ble_eq_true rfl) ?_
  refine va_putF (D := G) (ci := 5) (v := .ref q_6) (ty := (.array .long)) (C := RX6) (T := TX6) (N := 35) hx hb hts iX_X6 tyX6 tyX6_ok nmX6 hown hK hP hD hS 0 rfl rfl 4 (by decide) (hts _ m_t854) (fun _ h9 => h9) rfl hin rfl (by decide +kernel) rfl rfl (Nat.le_of_ble_eq_true rfl) dX6_init_45 (fun H locs => ?_)
  clear hP hD hS
  intro hP hD hS
  have hPD := pd_as [zzO qm 5 [.ref q_1, .ref q_2, .ref q_3, .ref q_4, .ref q_6, .null, .null, .null, .int 0, .null, .int 0, .null, .int 0, .null, .null, .int 0, .int 0, .int 0, .null, .null, .int 0, .int 0, .int 0, .long 0, .int 0, .null, .int 0, .int 0, .int 0, .null, .null, .null, .null, .null, .int 0], zzI cy q_1 8 (fun _ => 0), zzI cy q_2 8 (fun _ => 0), zzI cy q_3 8 (fun _ => 0), zzG cy 4 q_4 r_5, zzJ cy (r_5 0) 40 (fun _ => 0), zzJ cy (r_5 1) 40 (fun _ => 0), zzJ cy (r_5 2) 40 (fun _ => 0), zzJ cy (r_5 3) 40 (fun _ => 0), zzJ cy (r_5 4) 40 (fun _ => 0), zzJ cy (r_5 5) 40 (fun _ => 0), zzJ cy (r_5 6) 40 (fun _ => 0), zzJ cy (r_5 7) 40 (fun _ => 0), zzJ cy q_6 40 (fun _ => 0)] hP hD rfl
  clear hP hD
  obtain ⟨hP, hD⟩ := hPD
  refine lv_aload_n hx hb dX6_init_48 rfl (lv_at hl 0 rfl) ?_
  refine lv_bipush (v := 8) hx hb dX6_init_49 (by decide) ?_
  refine newI hx hb hts m_t92 hN hP hD hS hA 8 (by decide) (by decide) (Nat.le_of_ble_eq_true rfl) (Nat.le_of_ble_eq_true rfl) (Nat.le_of_ble_eq_true rfl) dX6_init_51 (fun q_7 H => ?_)
  clear hP hD hS
  intro hP hD hS
  have hPD := pd_as [zzO qm 5 [.ref q_1, .ref q_2, .ref q_3, .ref q_4, .ref q_6, .null, .null, .null, .int 0, .null, .int 0, .null, .int 0, .null, .null, .int 0, .int 0, .int 0, .null, .null, .int 0, .int 0, .int 0, .long 0, .int 0, .null, .int 0, .int 0, .int 0, .null, .null, .null, .null, .null, .int 0], zzI cy q_1 8 (fun _ => 0), zzI cy q_2 8 (fun _ => 0), zzI cy q_3 8 (fun _ => 0), zzG cy 4 q_4 r_5, zzJ cy (r_5 0) 40 (fun _ => 0), zzJ cy (r_5 1) 40 (fun _ => 0), zzJ cy (r_5 2) 40 (fun _ => 0), zzJ cy (r_5 3) 40 (fun _ => 0), zzJ cy (r_5 4) 40 (fun _ => 0), zzJ cy (r_5 5) 40 (fun _ => 0), zzJ cy (r_5 6) 40 (fun _ => 0), zzJ cy (r_5 7) 40 (fun _ => 0), zzJ cy q_6 40 (fun _ => 0), zzI cy q_7 8 (fun _ => 0)] hP hD rfl
  clear hP hD
  obtain ⟨hP, hD⟩ := hPD
  refine W.widen (k := 14) (n := 400) (Nat.le_of_ble_eq_true rfl) (Nat.le_of_ble_eq_true rfl) ?_
  refine va_putF (D := G) (ci := 5) (v := .ref q_7) (ty := (.array .int)) (C := RX6) (T := TX6) (N := 35) hx hb hts iX_X6 tyX6 tyX6_ok nmX6 hown hK hP hD hS 0 rfl rfl 5 (by decide) (hts _ m_t855) (fun _ h9 => h9) rfl hin rfl (by decide +kernel) rfl rfl (Nat.le_of_ble_eq_true rfl) dX6_init_53 (fun H locs => ?_)
  clear hP hD hS
  intro hP hD hS
  have hPD := pd_as [zzO qm 5 [.ref q_1, .ref q_2, .ref q_3, .ref q_4, .ref q_6, .ref q_7, .null, .null, .int 0, .null, .int 0, .null, .int 0, .null, .null, .int 0, .int 0, .int 0, .null, .null, .int 0, .int 0, .int 0, .long 0, .int 0, .null, .int 0, .int 0, .int 0, .null, .null, .null, .null, .null, .int 0], zzI cy q_1 8 (fun _ => 0), zzI cy q_2 8 (fun _ => 0), zzI cy q_3 8 (fun _ => 0), zzG cy 4 q_4 r_5, zzJ cy (r_5 0) 40 (fun _ => 0), zzJ cy (r_5 1) 40 (fun _ => 0), zzJ cy (r_5 2) 40 (fun _ => 0), zzJ cy (r_5 3) 40 (fun _ => 0), zzJ cy (r_5 4) 40 (fun _ => 0), zzJ cy (r_5 5) 40 (fun _ => 0), zzJ cy (r_5 6) 40 (fun _ => 0), zzJ cy (r_5 7) 40 (fun _ => 0), zzJ cy q_6 40 (fun _ => 0), zzI cy q_7 8 (fun _ => 0)] hP hD rfl
  clear hP hD
  obtain ⟨hP, hD⟩ := hPD
  refine lv_aload_n hx hb dX6_init_56 rfl (lv_at hl 0 rfl) ?_
  refine lv_bipush (v := 8) hx hb dX6_init_57 (by decide) ?_
  refine newI hx hb hts m_t92 hN hP hD hS hA 8 (by decide) (by decide) (Nat.le_of_ble_eq_true rfl) (Nat.le_of_ble_eq_true rfl) (Nat.le_of_ble_eq_true rfl) dX6_init_59 (fun q_8 H => ?_)
  clear hP hD hS
  intro hP hD hS
  have hPD := pd_as [zzO qm 5 [.ref q_1, .ref q_2, .ref q_3, .ref q_4, .ref q_6, .ref q_7, .null, .null, .int 0, .null, .int 0, .null, .int 0, .null, .null, .int 0, .int 0, .int 0, .null, .null, .int 0, .int 0, .int 0, .long 0, .int 0, .null, .int 0, .int 0, .int 0, .null, .null, .null, .null, .null, .int 0], zzI cy q_1 8 (fun _ => 0), zzI cy q_2 8 (fun _ => 0), zzI cy q_3 8 (fun _ => 0), zzG cy 4 q_4 r_5, zzJ cy (r_5 0) 40 (fun _ => 0), zzJ cy (r_5 1) 40 (fun _ => 0), zzJ cy (r_5 2) 40 (fun _ => 0), zzJ cy (r_5 3) 40 (fun _ => 0), zzJ cy (r_5 4) 40 (fun _ => 0), zzJ cy (r_5 5) 40 (fun _ => 0), zzJ cy (r_5 6) 40 (fun _ => 0), zzJ cy (r_5 7) 40 (fun _ => 0), zzJ cy q_6 40 (fun _ => 0), zzI cy q_7 8 (fun _ => 0), zzI cy q_8 8 (fun _ => 0)] hP hD rfl
  clear hP hD
  obtain ⟨hP, hD⟩ := hPD
  refine W.widen (k := 15) (n := 408) (Nat.le_of_ble_eq_true rfl) (Nat.le_of_ble_eq_true rfl) ?_
  refine va_putF (D := G) (ci := 5) (v := .ref q_8) (ty := (.array .int)) (C := RX6) (T := TX6) (N := 35) hx hb hts iX_X6 tyX6 tyX6_ok nmX6 hown hK hP hD hS 0 rfl rfl 6 (by decide) (hts _ m_t856) (fun _ h9 => h9) rfl hin rfl (by decide +kernel) rfl rfl (Nat.le_of_ble_eq_true rfl) dX6_init_61 (fun H locs => ?_)
  clear hP hD hS
  intro hP hD hS
  have hPD := pd_as [zzO qm 5 [.ref q_1, .ref q_2, .ref q_3, .ref q_4, .ref q_6, .ref q_7, .ref q_8, .null, .int 0, .null, .int 0, .null, .int 0, .null, .null, .int 0, .int 0, .int 0, .null, .null, .int 0, .int 0, .int 0, .long 0, .int 0, .null, .int 0, .int 0, .int 0, .null, .null, .null, .null, .null, .int 0], zzI cy q_1 8 (fun _ => 0), zzI cy q_2 8 (fun _ => 0), zzI cy q_3 8 (fun _ => 0), zzG cy 4 q_4 r_5, zzJ cy (r_5 0) 40 (fun _ => 0), zzJ cy (r_5 1) 40 (fun _ => 0), zzJ cy (r_5 2) 40 (fun _ => 0), zzJ cy (r_5 3) 40 (fun _ => 0), zzJ cy (r_5 4) 40 (fun _ => 0), zzJ cy (r_5 5) 40 (fun _ => 0), zzJ cy (r_5 6) 40 (fun _ => 0), zzJ cy (r_5 7) 40 (fun _ => 0), zzJ cy q_6 40 (fun _ => 0), zzI cy q_7 8 (fun _ => 0), zzI cy q_8 8 (fun _ => 0)] hP hD rfl
  clear hP hD
  obtain ⟨hP, hD⟩ := hPD
  refine lv_aload_n hx hb dX6_init_64 rfl (lv_at hl 0 rfl) ?_
  refine lv_sipush (v := 250) hx hb dX6_init_65 (by decide) ?_
  refine newI hx hb hts m_t92 hN hP hD hS hA 250 (by decide) (by decide) (Nat.le_of_ble_eq_true rfl) (Nat.le_of_ble_eq_true rfl) (Nat.le_of_ble_eq_true rfl) dX6_init_68 (fun q_9 H => ?_)
  clear hP hD hS
  intro hP hD hS
  have hPD := pd_as [zzO qm 5 [.ref q_1, .ref q_2, .ref q_3, .ref q_4, .ref q_6, .ref q_7, .ref q_8, .null, .int 0, .null, .int 0, .null, .int 0, .null, .null, .int 0, .int 0, .int 0, .null, .null, .int 0, .int 0, .int 0, .long 0, .int 0, .null, .int 0, .int 0, .int 0, .null, .null, .null, .null, .null, .int 0], zzI cy q_1 8 (fun _ => 0), zzI cy q_2 8 (fun _ => 0), zzI cy q_3 8 (fun _ => 0), zzG cy 4 q_4 r_5, zzJ cy (r_5 0) 40 (fun _ => 0), zzJ cy (r_5 1) 40 (fun _ => 0), zzJ cy (r_5 2) 40 (fun _ => 0), zzJ cy (r_5 3) 40 (fun _ => 0), zzJ cy (r_5 4) 40 (fun _ => 0), zzJ cy (r_5 5) 40 (fun _ => 0), zzJ cy (r_5 6) 40 (fun _ => 0), zzJ cy (r_5 7) 40 (fun _ => 0), zzJ cy q_6 40 (fun _ => 0), zzI cy q_7 8 (fun _ => 0), zzI cy q_8 8 (fun _ => 0), zzI cy q_9 250 (fun _ => 0)] hP hD rfl
  clear hP hD
  obtain ⟨hP, hD⟩ := hPD
  refine W.widen (k := 16) (n := 658) (Nat.le_of_ble_eq_true rfl) (Nat.le_of_ble_eq_true rfl) ?_
  refine va_putF (D := G) (ci := 5) (v := .ref q_9) (ty := (.array .int)) (C := RX6) (T := TX6) (N := 35) hx hb hts iX_X6 tyX6 tyX6_ok nmX6 hown hK hP hD hS 0 rfl rfl 7 (by decide) (hts _ m_t857) (fun _ h9 => h9) rfl hin rfl (by decide +kernel) rfl rfl (Nat.le_of_ble_eq_true rfl) dX6_init_70 (fun H locs => ?_)
  clear hP hD hS
  intro hP hD hS
  have hPD := pd_as [zzO qm 5 [.ref q_1, .ref q_2, .ref q_3, .ref q_4, .ref q_6, .ref q_7, .ref q_8, .ref q_9, .int 0, .null, .int 0, .null, .int 0, .null, .null, .int 0, .int 0, .int 0, .null, .null, .int 0, .int 0, .int 0, .long 0, .int 0, .null, .int 0, .int 0, .int 0, .null, .null, .null, .null, .null, .int 0], zzI cy q_1 8 (fun _ => 0), zzI cy q_2 8 (fun _ => 0), zzI cy q_3 8 (fun _ => 0), zzG cy 4 q_4 r_5, zzJ cy (r_5 0) 40 (fun _ => 0), zzJ cy (r_5 1) 40 (fun _ => 0), zzJ cy (r_5 2) 40 (fun _ => 0), zzJ cy (r_5 3) 40 (fun _ => 0), zzJ cy (r_5 4) 40 (fun _ => 0), zzJ cy (r_5 5) 40 (fun _ => 0), zzJ cy (r_5 6) 40 (fun _ => 0), zzJ cy (r_5 7) 40 (fun _ => 0), zzJ cy q_6 40 (fun _ => 0), zzI cy q_7 8 (fun _ => 0), zzI cy q_8 8 (fun _ => 0), zzI cy q_9 250 (fun _ => 0)] hP hD rfl
  clear hP hD
  obtain ⟨hP, hD⟩ := hPD
  refine lv_aload_n hx hb dX6_init_73 rfl (lv_at hl 0 rfl) ?_
  refine lv_bipush (v := 8) hx hb dX6_init_74 (by decide) ?_
  refine newI hx hb hts m_t92 hN hP hD hS hA 8 (by decide) (by decide) (Nat.le_of_ble_eq_true rfl) (Nat.le_of_ble_eq_true rfl) (Nat.le_of_ble_eq_true rfl) dX6_init_76 (fun q_10 H => ?_)
  clear hP hD hS
  intro hP hD hS
  have hPD := pd_as [zzO qm 5 [.ref q_1, .ref q_2, .ref q_3, .ref q_4, .ref q_6, .ref q_7, .ref q_8, .ref q_9, .int 0, .null, .int 0, .null, .int 0, .null, .null, .int 0, .int 0, .int 0, .null, .null, .int 0, .int 0, .int 0, .long 0, .int 0, .null, .int 0, .int 0, .int 0, .null, .null, .null, .null, .null, .int 0], zzI cy q_1 8 (fun _ => 0), zzI cy q_2 8 (fun _ => 0), zzI cy q_3 8 (fun _ => 0), zzG cy 4 q_4 r_5, zzJ cy (r_5 0) 40 (fun _ => 0), zzJ cy (r_5 1) 40 (fun _ => 0), zzJ cy (r_5 2) 40 (fun _ => 0), zzJ cy (r_5 3) 40 (fun _ => 0), zzJ cy (r_5 4) 40 (fun _ => 0), zzJ cy (r_5 5) 40 (fun _ => 0), zzJ cy (r_5 6) 40 (fun _ => 0), zzJ cy (r_5 7) 40 (fun _ => 0), zzJ cy q_6 40 (fun _ => 0), zzI cy q_7 8 (fun _ => 0), zzI cy q_8 8 (fun _ => 0), zzI cy q_9 250 (fun _ => 0), zzI cy q_10 8 (fun _ => 0)] hP hD rfl
  clear hP hD
  obtain ⟨hP, hD⟩ := hPD
  refine W.widen (k := 17) (n := 666) (Nat.le_of_ble_eq_true rfl) (Nat.le_of_ble_eq_true rfl) ?_
  refine va_putF (D := G) (ci := 5) (v := .ref q_10) (ty := (.array .int)) (C := RX6) (T := TX6) (N := 35) hx hb hts iX_X6 tyX6 tyX6_ok nmX6 hown hK hP hD hS 0 rfl rfl 9 (by decide) (hts _ m_t859) (fun _ h9 => h9) rfl hin rfl (by decide +kernel) rfl rfl (Nat.le_of_ble_eq_true rfl) dX6_init_78 (fun H locs => ?_)
  clear hP hD hS
  intro hP hD hS
  have hPD := pd_as [zzO qm 5 [.ref q_1, .ref q_2, .ref q_3, .ref q_4, .ref q_6, .ref q_7, .ref q_8, .ref q_9, .int 0, .ref q_10, .int 0, .null, .int 0, .null, .null, .int 0, .int 0, .int 0, .null, .null, .int 0, .int 0, .int 0, .long 0, .int 0, .null, .int 0, .int 0, .int 0, .null, .null, .null, .null, .null, .int 0], zzI cy q_1 8 (fun _ => 0), zzI cy q_2 8 (fun _ => 0), zzI cy q_3 8 (fun _ => 0), zzG cy 4 q_4 r_5, zzJ cy (r_5 0) 40 (fun _ => 0), zzJ cy (r_5 1) 40 (fun _ => 0), zzJ cy (r_5 2) 40 (fun _ => 0), zzJ cy (r_5 3) 40 (fun _ => 0), zzJ cy (r_5 4) 40 (fun _ => 0), zzJ cy (r_5 5) 40 (fun _ => 0), zzJ cy (r_5 6) 40 (fun _ => 0), zzJ cy (r_5 7) 40 (fun _ => 0), zzJ cy q_6 40 (fun _ => 0), zzI cy q_7 8 (fun _ => 0), zzI cy q_8 8 (fun _ => 0), zzI cy q_9 250 (fun _ => 0), zzI cy q_10 8 (fun _ => 0)] hP hD rfl
  clear hP hD
  obtain ⟨hP, hD⟩ := hPD
  refine lv_aload_n hx hb dX6_init_81 rfl (lv_at hl 0 rfl) ?_
  refine lv_bipush (v := 8) hx hb dX6_init_82 (by decide) ?_
  refine lv_iconst (v := 4) hx hb dX6_init_84 (by decide) ?_
  refine newII hx hb hts hown m_t846 m_t92 hN hP hD hS hA 4 (by decide) (by decide) (by decide) (Nat.le_of_ble_eq_true rfl) (Nat.le_of_ble_eq_true rfl) (Nat.le_of_ble_eq_true rfl) (Nat.le_of_ble_eq_true rfl) dX6_init_85 (fun q_11 r_12 H => ?_)
  clear hP hD hS
  intro hP hD hS
  have hPD := pd_as [zzO qm 5 [.ref q_1, .ref q_2, .ref q_3, .ref q_4, .ref q_6, .ref q_7, .ref q_8, .ref q_9, .int 0, .ref q_10, .int 0, .null, .int 0, .null, .null, .int 0, .int 0, .int 0, .null, .null, .int 0, .int 0, .int 0, .long 0, .int 0, .null, .int 0, .int 0, .int 0, .null, .null, .null, .null, .null, .int 0], zzI cy q_1 8 (fun _ => 0), zzI cy q_2 8 (fun _ => 0), zzI cy q_3 8 (fun _ => 0), zzG cy 4 q_4 r_5, zzJ cy (r_5 0) 40 (fun _ => 0), zzJ cy (r_5 1) 40 (fun _ => 0), zzJ cy (r_5 2) 40 (fun _ => 0), zzJ cy (r_5 3) 40 (fun _ => 0), zzJ cy (r_5 4) 40 (fun _ => 0), zzJ cy (r_5 5) 40 (fun _ => 0), zzJ cy (r_5 6) 40 (fun _ => 0), zzJ cy (r_5 7) 40 (fun _ => 0), zzJ cy q_6 40 (fun _ => 0), zzI cy q_7 8 (fun _ => 0), zzI cy q_8 8 (fun _ => 0), zzI cy q_9 250 (fun _ => 0), zzI cy q_10 8 (fun _ => 0), zzG cy 3 q_11 r_12, zzI cy (r_12 0) 4 (fun _ => 0), zzI cy (r_12 1) 4 (fun _ => 0), zzI cy (r_12 2) 4 (fun _ => 0), zzI cy (r_12 3) 4 (fun _ => 0), zzI cy (r_12 4) 4 (fun _ => 0), zzI cy (r_12 5) 4 (fun _ => 0), zzI cy (r_12 6) 4 (fun _ => 0), zzI cy (r_12 7) 4 (fun _ => 0)] hP hD rfl
  clear hP hD
  obtain ⟨hP, hD⟩ := hPD
  refine W.widen (k := 26) (n := 706) (Nat.le_of_ble_eq_true rfl) (Nat.le_of_ble_eq_true rfl) ?_
  refine va_putF (D := G) (ci := 5) (v := .ref q_11) (ty := (.array (.array .int))) (C := RX6) (T := TX6) (N := 35) hx hb hts iX_X6 tyX6 tyX6_ok nmX6 hown hK hP hD hS 0 rfl rfl 11 (by decide) (hts _ m_t861) (fun _ h9 => h9) rfl hin rfl (by decide +kernel) rfl rfl (Nat.le_of_ble_eq_true rfl) dX6_init_89 (fun H locs => ?_)
  clear hP hD hS
  intro hP hD hS
  have hPD := pd_as [zzO qm 5 [.ref q_1, .ref q_2, .ref q_3, .ref q_4, .ref q_6, .ref q_7, .ref q_8, .ref q_9, .int 0, .ref q_10, .int 0, .ref q_11, .int 0, .null, .null, .int 0, .int 0, .int 0, .null, .null, .int 0, .int 0, .int 0, .long 0, .int 0, .null, .int 0, .int 0, .int 0, .null, .null, .null, .null, .null, .int 0], zzI cy q_1 8 (fun _ => 0), zzI cy q_2 8 (fun _ => 0), zzI cy q_3 8 (fun _ => 0), zzG cy 4 q_4 r_5, zzJ cy (r_5 0) 40 (fun _ => 0), zzJ cy (r_5 1) 40 (fun _ => 0), zzJ cy (r_5 2) 40 (fun _ => 0), zzJ cy (r_5 3) 40 (fun _ => 0), zzJ cy (r_5 4) 40 (fun _ => 0), zzJ cy (r_5 5) 40 (fun _ => 0), zzJ cy (r_5 6) 40 (fun _ => 0), zzJ cy (r_5 7) 40 (fun _ => 0), zzJ cy q_6 40 (fun _ => 0), zzI cy q_7 8 (fun _ => 0), zzI cy q_8 8 (fun _ => 0), zzI cy q_9 250 (fun _ => 0), zzI cy q_10 8 (fun _ => 0), zzG cy 3 q_11 r_12, zzI cy (r_12 0) 4 (fun _ => 0), zzI cy (r_12 1) 4 (fun _ => 0), zzI cy (r_12 2) 4 (fun _ => 0), zzI cy (r_12 3) 4 (fun _ => 0), zzI cy (r_12 4) 4 (fun _ => 0), zzI cy (r_12 5) 4 (fun _ => 0), zzI cy (r_12 6) 4 (fun _ => 0), zzI cy (r_12 7) 4 (fun _ => 0)] hP hD rfl
  clear hP hD
  obtain ⟨hP, hD⟩ := hPD
  refine lv_aload_n hx hb dX6_init_92 rfl (lv_at hl 0 rfl) ?_
  refine lv_bipush (v := 8) hx hb dX6_init_93 (by decide) ?_
  refine lv_iconst (v := 5) hx hb dX6_init_95 (by decide) ?_
  refine newII hx hb hts hown m_t846 m_t92 hN hP hD hS hA 5 (by decide) (by decide) (by decide) (Nat.le_of_ble_eq_true rfl) (Nat.le_of_ble_eq_true rfl) (Nat.le_of_ble_eq_true rfl) (Nat.le_of_ble_eq_true rfl) dX6_init_96 (fun q_13 r_14 H => ?_)
  clear hP hD hS
  intro hP hD hS
  have hPD := pd_as [zzO qm 5 [.ref q_1, .ref q_2, .ref q_3, .ref q_4, .ref q_6, .ref q_7, .ref q_8, .ref q_9, .int 0, .ref q_10, .int 0, .ref q_11, .int 0, .null, .null, .int 0, .int 0, .int 0, .null, .null, .int 0, .int 0, .int 0, .long 0, .int 0, .null, .int 0, .int 0, .int 0, .null, .null, .null, .null, .null, .int 0], zzI cy q_1 8 (fun _ => 0), zzI cy q_2 8 (fun _ => 0), zzI cy q_3 8 (fun _ => 0), zzG cy 4 q_4 r_5, zzJ cy (r_5 0) 40 (fun _ => 0), zzJ cy (r_5 1) 40 (fun _ => 0), zzJ cy (r_5 2) 40 (fun _ => 0), zzJ cy (r_5 3) 40 (fun _ => 0), zzJ cy (r_5 4) 40 (fun _ => 0), zzJ cy (r_5 5) 40 (fun _ => 0), zzJ cy (r_5 6) 40 (fun _ => 0), zzJ cy (r_5 7) 40 (fun _ => 0), zzJ cy q_6 40 (fun _ => 0), zzI cy q_7 8 (fun _ => 0), zzI cy q_8 8 (fun _ => 0), zzI cy q_9 250 (fun _ => 0), zzI cy q_10 8 (fun _ => 0), zzG cy 3 q_11 r_12, zzI cy (r_12 0) 4 (fun _ => 0), zzI cy (r_12 1) 4 (fun _ => 0), zzI cy (r_12 2) 4 (fun _ => 0), zzI cy (r_12 3) 4 (fun _ => 0), zzI cy (r_12 4) 4 (fun _ => 0), zzI cy (r_12 5) 4 (fun _ => 0), zzI cy (r_12 6) 4 (fun _ => 0), zzI cy (r_12 7) 4 (fun _ => 0), zzG cy 3 q_13 r_14, zzI cy (r_14 0) 5 (fun _ => 0), zzI cy (r_14 1) 5 (fun _ => 0), zzI cy (r_14 2) 5 (fun _ => 0), zzI cy (r_14 3) 5 (fun _ => 0), zzI cy (r_14 4) 5 (fun _ => 0), zzI cy (r_14 5) 5 (fun _ => 0), zzI cy (r_14 6) 5 (fun _ => 0), zzI cy (r_14 7) 5 (fun _ => 0)] hP hD rfl
  clear hP hD
  obtain ⟨hP, hD⟩ := hPD
  refine W.widen (k := 35) (n := 754) (Nat.le_of_ble_eq_true rfl) (Nat.le_of_ble_eq_true rfl) ?_
  refine va_putF (D := G) (ci := 5) (v := .ref q_13) (ty := (.array (.array .int))) (C := RX6) (T := TX6) (N := 35) hx hb hts iX_X6 tyX6 tyX6_ok nmX6 hown hK hP hD hS 0 rfl rfl 13 (by decide) (hts _ m_t863) (fun _ h9 => h9) rfl hin rfl (by decide +kernel) rfl rfl (Nat.le_of_ble_eq_true rfl) dX6_init_100 (fun H locs => ?_)
  clear hP hD hS
  intro hP hD hS
  have hPD := pd_as [zzO qm 5 [.ref q_1, .ref q_2, .ref q_3, .ref q_4, .ref q_6, .ref q_7, .ref q_8, .ref q_9, .int 0, .ref q_10, .int 0, .ref q_11, .int 0, .ref q_13, .null, .int 0, .int 0, .int 0, .null, .null, .int 0, .int 0, .int 0, .long 0, .int 0, .null, .int 0, .int 0, .int 0, .null, .null, .null, .null, .null, .int 0], zzI cy q_1 8 (fun _ => 0), zzI cy q_2 8 (fun _ => 0), zzI cy q_3 8 (fun _ => 0), zzG cy 4 q_4 r_5, zzJ cy (r_5 0) 40 (fun _ => 0), zzJ cy (r_5 1) 40 (fun _ => 0), zzJ cy (r_5 2) 40 (fun _ => 0), zzJ cy (r_5 3) 40 (fun _ => 0), zzJ cy (r_5 4) 40 (fun _ => 0), zzJ cy (r_5 5) 40 (fun _ => 0), zzJ cy (r_5 6) 40 (fun _ => 0), zzJ cy (r_5 7) 40 (fun _ => 0), zzJ cy q_6 40 (fun _ => 0), zzI cy q_7 8 (fun _ => 0), zzI cy q_8 8 (fun _ => 0), zzI cy q_9 250 (fun _ => 0), zzI cy q_10 8 (fun _ => 0), zzG cy 3 q_11 r_12, zzI cy (r_12 0) 4 (fun _ => 0), zzI cy (r_12 1) 4 (fun _ => 0), zzI cy (r_12 2) 4 (fun _ => 0), zzI cy (r_12 3) 4 (fun _ => 0), zzI cy (r_12 4) 4 (fun _ => 0), zzI cy (r_12 5) 4 (fun _ => 0), zzI cy (r_12 6) 4 (fun _ => 0), zzI cy (r_12 7) 4 (fun _ => 0), zzG cy 3 q_13 r_14, zzI cy (r_14 0) 5 (fun _ => 0), zzI cy (r_14 1) 5 (fun _ => 0), zzI cy (r_14 2) 5 (fun _ => 0), zzI cy (r_14 3) 5 (fun _ => 0), zzI cy (r_14 4) 5 (fun _ => 0), zzI cy (r_14 5) 5 (fun _ => 0), zzI cy (r_14 6) 5 (fun _ => 0), zzI cy (r_14 7) 5 (fun _ => 0)] hP hD rfl
  clear hP hD
  obtain ⟨hP, hD⟩ := hPD
  refine lv_aload_n hx hb dX6_init_103 rfl (lv_at hl 0 rfl) ?_
  refine lv_bipush (v := 8) hx hb dX6_init_104 (by decide) ?_
  refine lv_bipush (v := 8) hx hb dX6_init_106 (by decide) ?_
  refine newII hx hb hts hown m_t846 m_t92 hN hP hD hS hA 8 (by decide) (by decide) (by decide) (Nat.le_of_ble_eq_true rfl) (Nat.le_of_ble_eq_true rfl) (Nat.le_of_ble_eq_true rfl) (Nat.le_of_ble_eq_true rfl) dX6_init_108 (fun q_15 r_16 H => ?_)
  clear hP hD hS
  intro hP hD hS
  have hPD := pd_as [zzO qm 5 [.ref q_1, .ref q_2, .ref q_3, .ref q_4, .ref q_6, .ref q_7, .ref q_8, .ref q_9, .int 0, .ref q_10, .int 0, .ref q_11, .int 0, .ref q_13, .null, .int 0, .int 0, .int 0, .null, .null, .int 0, .int 0, .int 0, .long 0, .int 0, .null, .int 0, .int 0, .int 0, .null, .null, .null, .null, .null, .int 0], zzI cy q_1 8 (fun _ => 0), zzI cy q_2 8 (fun _ => 0), zzI cy q_3 8 (fun _ => 0), zzG cy 4 q_4 r_5, zzJ cy (r_5 0) 40 (fun _ => 0), zzJ cy (r_5 1) 40 (fun _ => 0), zzJ cy (r_5 2) 40 (fun _ => 0), zzJ cy (r_5 3) 40 (fun _ => 0), zzJ cy (r_5 4) 40 (fun _ => 0), zzJ cy (r_5 5) 40 (fun _ => 0), zzJ cy (r_5 6) 40 (fun _ => 0), zzJ cy (r_5 7) 40 (fun _ => 0), zzJ cy q_6 40 (fun _ => 0), zzI cy q_7 8 (fun _ => 0), zzI cy q_8 8 (fun _ => 0), zzI cy q_9 250 (fun _ => 0), zzI cy q_10 8 (fun _ => 0), zzG cy 3 q_11 r_12, zzI cy (r_12 0) 4 (fun _ => 0), zzI cy (r_12 1) 4 (fun _ => 0), zzI cy (r_12 2) 4 (fun _ => 0), zzI cy (r_12 3) 4 (fun _ => 0), zzI cy (r_12 4) 4 (fun _ => 0), zzI cy (r_12 5) 4 (fun _ => 0), zzI cy (r_12 6) 4 (fun _ => 0), zzI cy (r_12 7) 4 (fun _ => 0), zzG cy 3 q_13 r_14, zzI cy (r_14 0) 5 (fun _ => 0), zzI cy (r_14 1) 5 (fun _ => 0), zzI cy (r_14 2) 5 (fun _ => 0), zzI cy (r_14 3) 5 (fun _ => 0), zzI cy (r_14 4) 5 (fun _ => 0), zzI cy (r_14 5) 5 (fun _ => 0), zzI cy (r_14 6) 5 (fun _ => 0), zzI cy (r_14 7) 5 (fun _ => 0), zzG cy 3 q_15 r_16, zzI cy (r_16 0) 8 (fun _ => 0), zzI cy (r_16 1) 8 (fun _ => 0), zzI cy (r_16 2) 8 (fun _ => 0), zzI cy (r_16 3) 8 (fun _ => 0), zzI cy (r_16 4) 8 (fun _ => 0), zzI cy (r_16 5) 8 (fun _ => 0), zzI cy (r_16 6) 8 (fun _ => 0), zzI cy (r_16 7) 8 (fun _ => 0)] hP hD rfl
  clear hP hD
  obtain ⟨hP, hD⟩ := hPD
  refine W.widen (k := 44) (n := 826) (Nat.le_of_ble_eq_true rfl) (Nat.le_of_ble_eq_true rfl) ?_
  refine va_putF (D := G) (ci := 5) (v := .ref q_15) (ty := (.array (.array .int))) (C := RX6) (T := TX6) (N := 35) hx hb hts iX_X6 tyX6 tyX6_ok nmX6 hown hK hP hD hS 0 rfl rfl 14 (by decide) (hts _ m_t864) (fun _ h9 => h9) rfl hin rfl (by decide +kernel) rfl rfl (Nat.le_of_ble_eq_true rfl) dX6_init_112 (fun H locs => ?_)
  clear hP hD hS
  intro hP hD hS
  have hPD := pd_as [zzO qm 5 [.ref q_1, .ref q_2, .ref q_3, .ref q_4, .ref q_6, .ref q_7, .ref q_8, .ref q_9, .int 0, .ref q_10, .int 0, .ref q_11, .int 0, .ref q_13, .ref q_15, .int 0, .int 0, .int 0, .null, .null, .int 0, .int 0, .int 0, .long 0, .int 0, .null, .int 0, .int 0, .int 0, .null, .null, .null, .null, .null, .int 0], zzI cy q_1 8 (fun _ => 0), zzI cy q_2 8 (fun _ => 0), zzI cy q_3 8 (fun _ => 0), zzG cy 4 q_4 r_5, zzJ cy (r_5 0) 40 (fun _ => 0), zzJ cy (r_5 1) 40 (fun _ => 0), zzJ cy (r_5 2) 40 (fun _ => 0), zzJ cy (r_5 3) 40 (fun _ => 0), zzJ cy (r_5 4) 40 (fun _ => 0), zzJ cy (r_5 5) 40 (fun _ => 0), zzJ cy (r_5 6) 40 (fun _ => 0), zzJ cy (r_5 7) 40 (fun _ => 0), zzJ cy q_6 40 (fun _ => 0), zzI cy q_7 8 (fun _ => 0), zzI cy q_8 8 (fun _ => 0), zzI cy q_9 250 (fun _ => 0), zzI cy q_10 8 (fun _ => 0), zzG cy 3 q_11 r_12, zzI cy (r_12 0) 4 (fun _ => 0), zzI cy (r_12 1) 4 (fun _ => 0), zzI cy (r_12 2) 4 (fun _ => 0), zzI cy (r_12 3) 4 (fun _ => 0), zzI cy (r_12 4) 4 (fun _ => 0), zzI cy (r_12 5) 4 (fun _ => 0), zzI cy (r_12 6) 4 (fun _ => 0), zzI cy (r_12 7) 4 (fun _ => 0), zzG cy 3 q_13 r_14, zzI cy (r_14 0) 5 (fun _ => 0), zzI cy (r_14 1) 5 (fun _ => 0), zzI cy (r_14 2) 5 (fun _ => 0), zzI cy (r_14 3) 5 (fun _ => 0), zzI cy (r_14 4) 5 (fun _ => 0), zzI cy (r_14 5) 5 (fun _ => 0), zzI cy (r_14 6) 5 (fun _ => 0), zzI cy (r_14 7) 5 (fun _ => 0), zzG cy 3 q_15 r_16, zzI cy (r_16 0) 8 (fun _ => 0), zzI cy (r_16 1) 8 (fun _ => 0), zzI cy (r_16 2) 8 (fun _ => 0), zzI cy (r_16 3) 8 (fun _ => 0), zzI cy (r_16 4) 8 (fun _ => 0), zzI cy (r_16 5) 8 (fun _ => 0), zzI cy (r_16 6) 8 (fun _ => 0), zzI cy (r_16 7) 8 (fun _ => 0)] hP hD rfl
  clear hP hD
  obtain ⟨hP, hD⟩ := hPD
  refine lv_aload_n hx hb dX6_init_115 rfl (lv_at hl 0 rfl) ?_
  refine lv_iconst (v := 1) hx hb dX6_init_116 (by decide) ?_
  refine va_put (D := G) (ci := 5) (v := .int 1) (ty := .int) (C := RX6) (T := TX6) (N := 35) hx hb hts iX_X6 tyX6 tyX6_ok nmX6 hown hK hP hD hS 0 rfl rfl 17 (by decide) (hts _ m_t867) (fun _ h9 => h9) rfl (by decide +kernel) rfl rfl (Nat.le_of_ble_eq_true rfl) dX6_init_117 (fun H locs => ?_)
  clear hP hD hS
  intro hP hD hS
  have hPD := pd_as [zzO qm 5 [.ref q_1, .ref q_2, .ref q_3, .ref q_4, .ref q_6, .ref q_7, .ref q_8, .ref q_9, .int 0, .ref q_10, .int 0, .ref q_11, .int 0, .ref q_13, .ref q_15, .int 0, .int 0, .int 1, .null, .null, .int 0, .int 0, .int 0, .long 0, .int 0, .null, .int 0, .int 0, .int 0, .null, .null, .null, .null, .null, .int 0], zzI cy q_1 8 (fun _ => 0), zzI cy q_2 8 (fun _ => 0), zzI cy q_3 8 (fun _ => 0), zzG cy 4 q_4 r_5, zzJ cy (r_5 0) 40 (fun _ => 0), zzJ cy (r_5 1) 40 (fun _ => 0), zzJ cy (r_5 2) 40 (fun _ => 0), zzJ cy (r_5 3) 40 (fun _ => 0), zzJ cy (r_5 4) 40 (fun _ => 0), zzJ cy (r_5 5) 40 (fun _ => 0), zzJ cy (r_5 6) 40 (fun _ => 0), zzJ cy (r_5 7) 40 (fun _ => 0), zzJ cy q_6 40 (fun _ => 0), zzI cy q_7 8 (fun _ => 0), zzI cy q_8 8 (fun _ => 0), zzI cy q_9 250 (fun _ => 0), zzI cy q_10 8 (fun _ => 0), zzG cy 3 q_11 r_12, zzI cy (r_12 0) 4 (fun _ => 0), zzI cy (r_12 1) 4 (fun _ => 0), zzI cy (r_12 2) 4 (fun _ => 0), zzI cy (r_12 3) 4 (fun _ => 0), zzI cy (r_12 4) 4 (fun _ => 0), zzI cy (r_12 5) 4 (fun _ => 0), zzI cy (r_12 6) 4 (fun _ => 0), zzI cy (r_12 7) 4 (fun _ => 0), zzG cy 3 q_13 r_14, zzI cy (r_14 0) 5 (fun _ => 0), zzI cy (r_14 1) 5 (fun _ => 0), zzI cy (r_14 2) 5 (fun _ => 0), zzI cy (r_14 3) 5 (fun _ => 0), zzI cy (r_14 4) 5 (fun _ => 0), zzI cy (r_14 5) 5 (fun _ => 0), zzI cy (r_14 6) 5 (fun _ => 0), zzI cy (r_14 7) 5 (fun _ => 0), zzG cy 3 q_15 r_16, zzI cy (r_16 0) 8 (fun _ => 0), zzI cy (r_16 1) 8 (fun _ => 0), zzI cy (r_16 2) 8 (fun _ => 0), zzI cy (r_16 3) 8 (fun _ => 0), zzI cy (r_16 4) 8 (fun _ => 0), zzI cy (r_16 5) 8 (fun _ => 0), zzI cy (r_16 6) 8 (fun _ => 0), zzI cy (r_16 7) 8 (fun _ => 0)] hP hD rfl
  clear hP hD
  obtain ⟨hP, hD⟩ := hPD
  refine lv_aload_n hx hb dX6_init_120 rfl (lv_at hl 0 rfl) ?_
  refine lv_iconst (v := 3) hx hb dX6_init_121 (by decide) ?_
  refine newI hx hb hts m_t92 hN hP hD hS hA 3 (by decide) (by decide) (Nat.le_of_ble_eq_true rfl) (Nat.le_of_ble_eq_true rfl) (Nat.le_of_ble_eq_true rfl) dX6_init_122 (fun q_17 H => ?_)
  clear hP hD hS
  intro hP hD hS
  have hPD := pd_as [zzO qm 5 [.ref q_1, .ref q_2, .ref q_3, .ref q_4, .ref q_6, .ref q_7, .ref q_8, .ref q_9, .int 0, .ref q_10, .int 0, .ref q_11, .int 0, .ref q_13, .ref q_15, .int 0, .int 0, .int 1, .null, .null, .int 0, .int 0, .int 0, .long 0, .int 0, .null, .int 0, .int 0, .int 0, .null, .null, .null, .null, .null, .int 0], zzI cy q_1 8 (fun _ => 0), zzI cy q_2 8 (fun _ => 0), zzI cy q_3 8 (fun _ => 0), zzG cy 4 q_4 r_5, zzJ cy (r_5 0) 40 (fun _ => 0), zzJ cy (r_5 1) 40 (fun _ => 0), zzJ cy (r_5 2) 40 (fun _ => 0), zzJ cy (r_5 3) 40 (fun _ => 0), zzJ cy (r_5 4) 40 (fun _ => 0), zzJ cy (r_5 5) 40 (fun _ => 0), zzJ cy (r_5 6) 40 (fun _ => 0), zzJ cy (r_5 7) 40 (fun _ => 0), zzJ cy q_6 40 (fun _ => 0), zzI cy q_7 8 (fun _ => 0), zzI cy q_8 8 (fun _ => 0), zzI cy q_9 250 (fun _ => 0), zzI cy q_10 8 (fun _ => 0), zzG cy 3 q_11 r_12, zzI cy (r_12 0) 4 (fun _ => 0), zzI cy (r_12 1) 4 (fun _ => 0), zzI cy (r_12 2) 4 (fun _ => 0), zzI cy (r_12 3) 4 (fun _ => 0), zzI cy (r_12 4) 4 (fun _ => 0), zzI cy (r_12 5) 4 (fun _ => 0), zzI cy (r_12 6) 4 (fun _ => 0), zzI cy (r_12 7) 4 (fun _ => 0), zzG cy 3 q_13 r_14, zzI cy (r_14 0) 5 (fun _ => 0), zzI cy (r_14 1) 5 (fun _ => 0), zzI cy (r_14 2) 5 (fun _ => 0), zzI cy (r_14 3) 5 (fun _ => 0), zzI cy (r_14 4) 5 (fun _ => 0), zzI cy (r_14 5) 5 (fun _ => 0), zzI cy (r_14 6) 5 (fun _ => 0), zzI cy (r_14 7) 5 (fun _ => 0), zzG cy 3 q_15 r_16, zzI cy (r_16 0) 8 (fun _ => 0), zzI cy (r_16 1) 8 (fun _ => 0), zzI cy (r_16 2) 8 (fun _ => 0), zzI cy (r_16 3) 8 (fun _ => 0), zzI cy (r_16 4) 8 (fun _ => 0), zzI cy (r_16 5) 8 (fun _ => 0), zzI cy (r_16 6) 8 (fun _ => 0), zzI cy (r_16 7) 8 (fun _ => 0), zzI cy q_17 3 (fun _ => 0)] hP hD rfl
  clear hP hD
  obtain ⟨hP, hD⟩ := hPD
  refine W.widen (k := 45) (n := 829) (Nat.le_of_ble_eq_true rfl) (Nat.le_of_ble_eq_true rfl) ?_
  refine va_putF (D := G) (ci := 5) (v := .ref q_17) (ty := (.array .int)) (C := RX6) (T := TX6) (N := 35) hx hb hts iX_X6 tyX6 tyX6_ok nmX6 hown hK hP hD hS 0 rfl rfl 25 (by decide) (hts _ m_t875) (fun _ h9 => h9) rfl hin rfl (by decide +kernel) rfl rfl (Nat.le_of_ble_eq_true rfl) dX6_init_124 (fun H locs => ?_)
  clear hP hD hS
  intro hP hD hS
  have hPD := pd_as [zzO qm 5 [.ref q_1, .ref q_2, .ref q_3, .ref q_4, .ref q_6, .ref q_7, .ref q_8, .ref q_9, .int 0, .ref q_10, .int 0, .ref q_11, .int 0, .ref q_13, .ref q_15, .int 0, .int 0, .int 1, .null, .null, .int 0, .int 0, .int 0, .long 0, .int 0, .ref q_17, .int 0, .int 0, .int 0, .null, .null, .null, .null, .null, .int 0], zzI cy q_1 8 (fun _ => 0), zzI cy q_2 8 (fun _ => 0), zzI cy q_3 8 (fun _ => 0), zzG cy 4 q_4 r_5, zzJ cy (r_5 0) 40 (fun _ => 0), zzJ cy (r_5 1) 40 (fun _ => 0), zzJ cy (r_5 2) 40 (fun _ => 0), zzJ cy (r_5 3) 40 (fun _ => 0), zzJ cy (r_5 4) 40 (fun _ => 0), zzJ cy (r_5 5) 40 (fun _ => 0), zzJ cy (r_5 6) 40 (fun _ => 0), zzJ cy (r_5 7) 40 (fun _ => 0), zzJ cy q_6 40 (fun _ => 0), zzI cy q_7 8 (fun _ => 0), zzI cy q_8 8 (fun _ => 0), zzI cy q_9 250 (fun _ => 0), zzI cy q_10 8 (fun _ => 0), zzG cy 3 q_11 r_12, zzI cy (r_12 0) 4 (fun _ => 0), zzI cy (r_12 1) 4 (fun _ => 0), zzI cy (r_12 2) 4 (fun _ => 0), zzI cy (r_12 3) 4 (fun _ => 0), zzI cy (r_12 4) 4 (fun _ => 0), zzI cy (r_12 5) 4 (fun _ => 0), zzI cy (r_12 6) 4 (fun _ => 0), zzI cy (r_12 7) 4 (fun _ => 0), zzG cy 3 q_13 r_14, zzI cy (r_14 0) 5 (fun _ => 0), zzI cy (r_14 1) 5 (fun _ => 0), zzI cy (r_14 2) 5 (fun _ => 0), zzI cy (r_14 3) 5 (fun _ => 0), zzI cy (r_14 4) 5 (fun _ => 0), zzI cy (r_14 5) 5 (fun _ => 0), zzI cy (r_14 6) 5 (fun _ => 0), zzI cy (r_14 7) 5 (fun _ => 0), zzG cy 3 q_15 r_16, zzI cy (r_16 0) 8 (fun _ => 0), zzI cy (r_16 1) 8 (fun _ => 0), zzI cy (r_16 2) 8 (fun _ => 0), zzI cy (r_16 3) 8 (fun _ => 0), zzI cy (r_16 4) 8 (fun _ => 0), zzI cy (r_16 5) 8 (fun _ => 0), zzI cy (r_16 6) 8 (fun _ => 0), zzI cy (r_16 7) 8 (fun _ => 0), zzI cy q_17 3 (fun _ => 0)] hP hD rfl
  clear hP hD
  obtain ⟨hP, hD⟩ := hPD
  refine lv_aload_n hx hb dX6_init_127 rfl (lv_at hl 0 rfl) ?_
  refine lv_bipush (v := 8) hx hb dX6_init_128 (by decide) ?_
  refine newI hx hb hts m_t92 hN hP hD hS hA 8 (by decide) (by decide) (Nat.le_of_ble_eq_true rfl) (Nat.le_of_ble_eq_true rfl) (Nat.le_of_ble_eq_true rfl) dX6_init_130 (fun q_18 H => ?_)
  clear hP hD hS
  intro hP hD hS
  have hPD := pd_as [zzO qm 5 [.ref q_1, .ref q_2, .ref q_3, .ref q_4, .ref q_6, .ref q_7, .ref q_8, .ref q_9, .int 0, .ref q_10, .int 0, .ref q_11, .int 0, .ref q_13, .ref q_15, .int 0, .int 0, .int 1, .null, .null, .int 0, .int 0, .int 0, .long 0, .int 0, .ref q_17, .int 0, .int 0, .int 0, .null, .null, .null, .null, .null, .int 0], zzI cy q_1 8 (fun _ => 0), zzI cy q_2 8 (fun _ => 0), zzI cy q_3 8 (fun _ => 0), zzG cy 4 q_4 r_5, zzJ cy (r_5 0) 40 (fun _ => 0), zzJ cy (r_5 1) 40 (fun _ => 0), zzJ cy (r_5 2) 40 (fun _ => 0), zzJ cy (r_5 3) 40 (fun _ => 0), zzJ cy (r_5 4) 40 (fun _ => 0), zzJ cy (r_5 5) 40 (fun _ => 0), zzJ cy (r_5 6) 40 (fun _ => 0), zzJ cy (r_5 7) 40 (fun _ => 0), zzJ cy q_6 40 (fun _ => 0), zzI cy q_7 8 (fun _ => 0), zzI cy q_8 8 (fun _ => 0), zzI cy q_9 250 (fun _ => 0), zzI cy q_10 8 (fun _ => 0), zzG cy 3 q_11 r_12, zzI cy (r_12 0) 4 (fun _ => 0), zzI cy (r_12 1) 4 (fun _ => 0), zzI cy (r_12 2) 4 (fun _ => 0), zzI cy (r_12 3) 4 (fun _ => 0), zzI cy (r_12 4) 4 (fun _ => 0), zzI cy (r_12 5) 4 (fun _ => 0), zzI cy (r_12 6) 4 (fun _ => 0), zzI cy (r_12 7) 4 (fun _ => 0), zzG cy 3 q_13 r_14, zzI cy (r_14 0) 5 (fun _ => 0), zzI cy (r_14 1) 5 (fun _ => 0), zzI cy (r_14 2) 5 (fun _ => 0), zzI cy (r_14 3) 5 (fun _ => 0), zzI cy (r_14 4) 5 (fun _ => 0), zzI cy (r_14 5) 5 (fun _ => 0), zzI cy (r_14 6) 5 (fun _ => 0), zzI cy (r_14 7) 5 (fun _ => 0), zzG cy 3 q_15 r_16, zzI cy (r_16 0) 8 (fun _ => 0), zzI cy (r_16 1) 8 (fun _ => 0), zzI cy (r_16 2) 8 (fun _ => 0), zzI cy (r_16 3) 8 (fun _ => 0), zzI cy (r_16 4) 8 (fun _ => 0), zzI cy (r_16 5) 8 (fun _ => 0), zzI cy (r_16 6) 8 (fun _ => 0), zzI cy (r_16 7) 8 (fun _ => 0), zzI cy q_17 3 (fun _ => 0), zzI cy q_18 8 (fun _ => 0)] hP hD rfl
  clear hP hD
  obtain ⟨hP, hD⟩ := hPD
  refine W.widen (k := 46) (n := 837) (Nat.le_of_ble_eq_true rfl) (Nat.le_of_ble_eq_true rfl) ?_
  refine va_putF (D := G) (ci := 5) (v := .ref q_18) (ty := (.array .int)) (C := RX6) (T := TX6) (N := 35) hx hb hts iX_X6 tyX6 tyX6_ok nmX6 hown hK hP hD hS 0 rfl rfl 30 (by decide) (hts _ m_t880) (fun _ h9 => h9) rfl hin rfl (by decide +kernel) rfl rfl (Nat.le_of_ble_eq_true rfl) dX6_init_132 (fun H locs => ?_)
  clear hP hD hS
  intro hP hD hS
  have hPD := pd_as [zzO qm 5 [.ref q_1, .ref q_2, .ref q_3, .ref q_4, .ref q_6, .ref q_7, .ref q_8, .ref q_9, .int 0, .ref q_10, .int 0, .ref q_11, .int 0, .ref q_13, .ref q_15, .int 0, .int 0, .int 1, .null, .null, .int 0, .int 0, .int 0, .long 0, .int 0, .ref q_17, .int 0, .int 0, .int 0, .null, .ref q_18, .null, .null, .null, .int 0], zzI cy q_1 8 (fun _ => 0), zzI cy q_2 8 (fun _ => 0), zzI cy q_3 8 (fun _ => 0), zzG cy 4 q_4 r_5, zzJ cy (r_5 0) 40 (fun _ => 0), zzJ cy (r_5 1) 40 (fun _ => 0), zzJ cy (r_5 2) 40 (fun _ => 0), zzJ cy (r_5 3) 40 (fun _ => 0), zzJ cy (r_5 4) 40 (fun _ => 0), zzJ cy (r_5 5) 40 (fun _ => 0), zzJ cy (r_5 6) 40 (fun _ => 0), zzJ cy (r_5 7) 40 (fun _ => 0), zzJ cy q_6 40 (fun _ => 0), zzI cy q_7 8 (fun _ => 0), zzI cy q_8 8 (fun _ => 0), zzI cy q_9 250 (fun _ => 0), zzI cy q_10 8 (fun _ => 0), zzG cy 3 q_11 r_12, zzI cy (r_12 0) 4 (fun _ => 0), zzI cy (r_12 1) 4 (fun _ => 0), zzI cy (r_12 2) 4 (fun _ => 0), zzI cy (r_12 3) 4 (fun _ => 0), zzI cy (r_12 4) 4 (fun _ => 0), zzI cy (r_12 5) 4 (fun _ => 0), zzI cy (r_12 6) 4 (fun _ => 0), zzI cy (r_12 7) 4 (fun _ => 0), zzG cy 3 q_13 r_14, zzI cy (r_14 0) 5 (fun _ => 0), zzI cy (r_14 1) 5 (fun _ => 0), zzI cy (r_14 2) 5 (fun _ => 0), zzI cy (r_14 3) 5 (fun _ => 0), zzI cy (r_14 4) 5 (fun _ => 0), zzI cy (r_14 5) 5 (fun _ => 0), zzI cy (r_14 6) 5 (fun _ => 0), zzI cy (r_14 7) 5 (fun _ => 0), zzG cy 3 q_15 r_16, zzI cy (r_16 0) 8 (fun _ => 0), zzI cy (r_16 1) 8 (fun _ => 0), zzI cy (r_16 2) 8 (fun _ => 0), zzI cy (r_16 3) 8 (fun _ => 0), zzI cy (r_16 4) 8 (fun _ => 0), zzI cy (r_16 5) 8 (fun _ => 0), zzI cy (r_16 6) 8 (fun _ => 0), zzI cy (r_16 7) 8 (fun _ => 0), zzI cy q_17 3 (fun _ => 0), zzI cy q_18 8 (fun _ => 0)] hP hD rfl
  clear hP hD
  obtain ⟨hP, hD⟩ := hPD
  refine lv_aload_n hx hb dX6_init_135 rfl (lv_at hl 0 rfl) ?_
  refine lv_iconst (v := 5) hx hb dX6_init_136 (by decide) ?_
  refine newI hx hb hts m_t92 hN hP hD hS hA 5 (by decide) (by decide) (Nat.le_of_ble_eq_true rfl) (Nat.le_of_ble_eq_true rfl) (Nat.le_of_ble_eq_true rfl) dX6_init_137 (fun q_19 H => ?_)
  clear hP hD hS
  intro hP hD hS
  have hPD := pd_as [zzO qm 5 [.ref q_1, .ref q_2, .ref q_3, .ref q_4, .ref q_6, .ref q_7, .ref q_8, .ref q_9, .int 0, .ref q_10, .int 0, .ref q_11, .int 0, .ref q_13, .ref q_15, .int 0, .int 0, .int 1, .null, .null, .int 0, .int 0, .int 0, .long 0, .int 0, .ref q_17, .int 0, .int 0, .int 0, .null, .ref q_18, .null, .null, .null, .int 0], zzI cy q_1 8 (fun _ => 0), zzI cy q_2 8 (fun _ => 0), zzI cy q_3 8 (fun _ => 0), zzG cy 4 q_4 r_5, zzJ cy (r_5 0) 40 (fun _ => 0), zzJ cy (r_5 1) 40 (fun _ => 0), zzJ cy (r_5 2) 40 (fun _ => 0), zzJ cy (r_5 3) 40 (fun _ => 0), zzJ cy (r_5 4) 40 (fun _ => 0), zzJ cy (r_5 5) 40 (fun _ => 0), zzJ cy (r_5 6) 40 (fun _ => 0), zzJ cy (r_5 7) 40 (fun _ => 0), zzJ cy q_6 40 (fun _ => 0), zzI cy q_7 8 (fun _ => 0), zzI cy q_8 8 (fun _ => 0), zzI cy q_9 250 (fun _ => 0), zzI cy q_10 8 (fun _ => 0), zzG cy 3 q_11 r_12, zzI cy (r_12 0) 4 (fun _ => 0), zzI cy (r_12 1) 4 (fun _ => 0), zzI cy (r_12 2) 4 (fun _ => 0), zzI cy (r_12 3) 4 (fun _ => 0), zzI cy (r_12 4) 4 (fun _ => 0), zzI cy (r_12 5) 4 (fun _ => 0), zzI cy (r_12 6) 4 (fun _ => 0), zzI cy (r_12 7) 4 (fun _ => 0), zzG cy 3 q_13 r_14, zzI cy (r_14 0) 5 (fun _ => 0), zzI cy (r_14 1) 5 (fun _ => 0), zzI cy (r_14 2) 5 (fun _ => 0), zzI cy (r_14 3) 5 (fun _ => 0), zzI cy (r_14 4) 5 (fun _ => 0), zzI cy (r_14 5) 5 (fun _ => 0), zzI cy (r_14 6) 5 (fun _ => 0), zzI cy (r_14 7) 5 (fun _ => 0), zzG cy 3 q_15 r_16, zzI cy (r_16 0) 8 (fun _ => 0), zzI cy (r_16 1) 8 (fun _ => 0), zzI cy (r_16 2) 8 (fun _ => 0), zzI cy (r_16 3) 8 (fun _ => 0), zzI cy (r_16 4) 8 (fun _ => 0), zzI cy (r_16 5) 8 (fun _ => 0), zzI cy (r_16 6) 8 (fun _ => 0), zzI cy (r_16 7) 8 (fun _ => 0), zzI cy q_17 3 (fun _ => 0), zzI cy q_18 8 (fun _ => 0), zzI cy q_19 5 (fun _ => 0)] hP hD rfl
  clear hP hD
  obtain ⟨hP, hD⟩ := hPD
  refine W.widen (k := 47) (n := 842) (Nat.le_of_ble_eq_true rfl) (Nat.le_of_ble_eq_true rfl) ?_
  refine va_putF (D := G) (ci := 5) (v := .ref q_19) (ty := (.array .int)) (C := RX6) (T := TX6) (N := 35) hx hb hts iX_X6 tyX6 tyX6_ok nmX6 hown hK hP hD hS 0 rfl rfl 31 (by decide) (hts _ m_t881) (fun _ h9 => h9) rfl hin rfl (by decide +kernel) rfl rfl (Nat.le_of_ble_eq_true rfl) dX6_init_139 (fun H locs => ?_)
  clear hP hD hS
  intro hP hD hS
  have hPD := pd_as [zzO qm 5 [.ref q_1, .ref q_2, .ref q_3, .ref q_4, .ref q_6, .ref q_7, .ref q_8, .ref q_9, .int 0, .ref q_10, .int 0, .ref q_11, .int 0, .ref q_13, .ref q_15, .int 0, .int 0, .int 1, .null, .null, .int 0, .int 0, .int 0, .long 0, .int 0, .ref q_17, .int 0, .int 0, .int 0, .null, .ref q_18, .ref q_19, .null, .null, .int 0], zzI cy q_1 8 (fun _ => 0), zzI cy q_2 8 (fun _ => 0), zzI cy q_3 8 (fun _ => 0), zzG cy 4 q_4 r_5, zzJ cy (r_5 0) 40 (fun _ => 0), zzJ cy (r_5 1) 40 (fun _ => 0), zzJ cy (r_5 2) 40 (fun _ => 0), zzJ cy (r_5 3) 40 (fun _ => 0), zzJ cy (r_5 4) 40 (fun _ => 0), zzJ cy (r_5 5) 40 (fun _ => 0), zzJ cy (r_5 6) 40 (fun _ => 0), zzJ cy (r_5 7) 40 (fun _ => 0), zzJ cy q_6 40 (fun _ => 0), zzI cy q_7 8 (fun _ => 0), zzI cy q_8 8 (fun _ => 0), zzI cy q_9 250 (fun _ => 0), zzI cy q_10 8 (fun _ => 0), zzG cy 3 q_11 r_12, zzI cy (r_12 0) 4 (fun _ => 0), zzI cy (r_12 1) 4 (fun _ => 0), zzI cy (r_12 2) 4 (fun _ => 0), zzI cy (r_12 3) 4 (fun _ => 0), zzI cy (r_12 4) 4 (fun _ => 0), zzI cy (r_12 5) 4 (fun _ => 0), zzI cy (r_12 6) 4 (fun _ => 0), zzI cy (r_12 7) 4 (fun _ => 0), zzG cy 3 q_13 r_14, zzI cy (r_14 0) 5 (fun _ => 0), zzI cy (r_14 1) 5 (fun _ => 0), zzI cy (r_14 2) 5 (fun _ => 0), zzI cy (r_14 3) 5 (fun _ => 0), zzI cy (r_14 4) 5 (fun _ => 0), zzI cy (r_14 5) 5 (fun _ => 0), zzI cy (r_14 6) 5 (fun _ => 0), zzI cy (r_14 7) 5 (fun _ => 0), zzG cy 3 q_15 r_16, zzI cy (r_16 0) 8 (fun _ => 0), zzI cy (r_16 1) 8 (fun _ => 0), zzI cy (r_16 2) 8 (fun _ => 0), zzI cy (r_16 3) 8 (fun _ => 0), zzI cy (r_16 4) 8 (fun _ => 0), zzI cy (r_16 5) 8 (fun _ => 0), zzI cy (r_16 6) 8 (fun _ => 0), zzI cy (r_16 7) 8 (fun _ => 0), zzI cy q_17 3 (fun _ => 0), zzI cy q_18 8 (fun _ => 0), zzI cy q_19 5 (fun _ => 0)] hP hD rfl
  clear hP hD
  obtain ⟨hP, hD⟩ := hPD
  refine lv_aload_n hx hb dX6_init_142 rfl (lv_at hl 0 rfl) ?_
  refine lv_iconst (v := 5) hx hb dX6_init_143 (by decide) ?_
  refine newI hx hb hts m_t92 hN hP hD hS hA 5 (by decide) (by decide) (Nat.le_of_ble_eq_true rfl) (Nat.le_of_ble_eq_true rfl) (Nat.le_of_ble_eq_true rfl) dX6_init_144 (fun q_20 H => ?_)
  clear hP hD hS
  intro hP hD hS
  have hPD := pd_as [zzO qm 5 [.ref q_1, .ref q_2, .ref q_3, .ref q_4, .ref q_6, .ref q_7, .ref q_8, .ref q_9, .int 0, .ref q_10, .int 0, .ref q_11, .int 0, .ref q_13, .ref q_15, .int 0, .int 0, .int 1, .null, .null, .int 0, .int 0, .int 0, .long 0, .int 0, .ref q_17, .int 0, .int 0, .int 0, .null, .ref q_18, .ref q_19, .null, .null, .int 0], zzI cy q_1 8 (fun _ => 0), zzI cy q_2 8 (fun _ => 0), zzI cy q_3 8 (fun _ => 0), zzG cy 4 q_4 r_5, zzJ cy (r_5 0) 40 (fun _ => 0), zzJ cy (r_5 1) 40 (fun _ => 0), zzJ cy (r_5 2) 40 (fun _ => 0), zzJ cy (r_5 3) 40 (fun _ => 0), zzJ cy (r_5 4) 40 (fun _ => 0), zzJ cy (r_5 5) 40 (fun _ => 0), zzJ cy (r_5 6) 40 (fun _ => 0), zzJ cy (r_5 7) 40 (fun _ => 0), zzJ cy q_6 40 (fun _ => 0), zzI cy q_7 8 (fun _ => 0), zzI cy q_8 8 (fun _ => 0), zzI cy q_9 250 (fun _ => 0), zzI cy q_10 8 (fun _ => 0), zzG cy 3 q_11 r_12, zzI cy (r_12 0) 4 (fun _ => 0), zzI cy (r_12 1) 4 (fun _ => 0), zzI cy (r_12 2) 4 (fun _ => 0), zzI cy (r_12 3) 4 (fun _ => 0), zzI cy (r_12 4) 4 (fun _ => 0), zzI cy (r_12 5) 4 (fun _ => 0), zzI cy (r_12 6) 4 (fun _ => 0), zzI cy (r_12 7) 4 (fun _ => 0), zzG cy 3 q_13 r_14, zzI cy (r_14 0) 5 (fun _ => 0), zzI cy (r_14 1) 5 (fun _ => 0), zzI cy (r_14 2) 5 (fun _ => 0), zzI cy (r_14 3) 5 (fun _ => 0), zzI cy (r_14 4) 5 (fun _ => 0), zzI cy (r_14 5) 5 (fun _ => 0), zzI cy (r_14 6) 5 (fun _ => 0), zzI cy (r_14 7) 5 (fun _ => 0), zzG cy 3 q_15 r_16, zzI cy (r_16 0) 8 (fun _ => 0), zzI cy (r_16 1) 8 (fun _ => 0), zzI cy (r_16 2) 8 (fun _ => 0), zzI cy (r_16 3) 8 (fun _ => 0), zzI cy (r_16 4) 8 (fun _ => 0), zzI cy (r_16 5) 8 (fun _ => 0), zzI cy (r_16 6) 8 (fun _ => 0), zzI cy (r_16 7) 8 (fun _ => 0), zzI cy q_17 3 (fun _ => 0), zzI cy q_18 8 (fun _ => 0), zzI cy q_19 5 (fun _ => 0), zzI cy q_20 5 (fun _ => 0)] hP hD rfl
  clear hP hD
  obtain ⟨hP, hD⟩ := hPD
  refine W.widen (k := 48) (n := 847) (Nat.le_of_ble_eq_true rfl) (Nat.le_of_ble_eq_true rfl) ?_
  refine va_putF (D := G) (ci := 5) (v := .ref q_20) (ty := (.array .int)) (C := RX6) (T := TX6) (N := 35) hx hb hts iX_X6 tyX6 tyX6_ok nmX6 hown hK hP hD hS 0 rfl rfl 32 (by decide) (hts _ m_t882) (fun _ h9 => h9) rfl hin rfl (by decide +kernel) rfl rfl (Nat.le_of_ble_eq_true rfl) dX6_init_146 (fun H locs => ?_)
  clear hP hD hS
  intro hP hD hS
  have hPD := pd_as [zzO qm 5 [.ref q_1, .ref q_2, .ref q_3, .ref q_4, .ref q_6, .ref q_7, .ref q_8, .ref q_9, .int 0, .ref q_10, .int 0, .ref q_11, .int 0, .ref q_13, .ref q_15, .int 0, .int 0, .int 1, .null, .null, .int 0, .int 0, .int 0, .long 0, .int 0, .ref q_17, .int 0, .int 0, .int 0, .null, .ref q_18, .ref q_19, .ref q_20, .null, .int 0], zzI cy q_1 8 (fun _ => 0), zzI cy q_2 8 (fun _ => 0), zzI cy q_3 8 (fun _ => 0), zzG cy 4 q_4 r_5, zzJ cy (r_5 0) 40 (fun _ => 0), zzJ cy (r_5 1) 40 (fun _ => 0), zzJ cy (r_5 2) 40 (fun _ => 0), zzJ cy (r_5 3) 40 (fun _ => 0), zzJ cy (r_5 4) 40 (fun _ => 0), zzJ cy (r_5 5) 40 (fun _ => 0), zzJ cy (r_5 6) 40 (fun _ => 0), zzJ cy (r_5 7) 40 (fun _ => 0), zzJ cy q_6 40 (fun _ => 0), zzI cy q_7 8 (fun _ => 0), zzI cy q_8 8 (fun _ => 0), zzI cy q_9 250 (fun _ => 0), zzI cy q_10 8 (fun _ => 0), zzG cy 3 q_11 r_12, zzI cy (r_12 0) 4 (fun _ => 0), zzI cy (r_12 1) 4 (fun _ => 0), zzI cy (r_12 2) 4 (fun _ => 0), zzI cy (r_12 3) 4 (fun _ => 0), zzI cy (r_12 4) 4 (fun _ => 0), zzI cy (r_12 5) 4 (fun _ => 0), zzI cy (r_12 6) 4 (fun _ => 0), zzI cy (r_12 7) 4 (fun _ => 0), zzG cy 3 q_13 r_14, zzI cy (r_14 0) 5 (fun _ => 0), zzI cy (r_14 1) 5 (fun _ => 0), zzI cy (r_14 2) 5 (fun _ => 0), zzI cy (r_14 3) 5 (fun _ => 0), zzI cy (r_14 4) 5 (fun _ => 0), zzI cy (r_14 5) 5 (fun _ => 0), zzI cy (r_14 6) 5 (fun _ => 0), zzI cy (r_14 7) 5 (fun _ => 0), zzG cy 3 q_15 r_16, zzI cy (r_16 0) 8 (fun _ => 0), zzI cy (r_16 1) 8 (fun _ => 0), zzI cy (r_16 2) 8 (fun _ => 0), zzI cy (r_16 3) 8 (fun _ => 0), zzI cy (r_16 4) 8 (fun _ => 0), zzI cy (r_16 5) 8 (fun _ => 0), zzI cy (r_16 6) 8 (fun _ => 0), zzI cy (r_16 7) 8 (fun _ => 0), zzI cy q_17 3 (fun _ => 0), zzI cy q_18 8 (fun _ => 0), zzI cy q_19 5 (fun _ => 0), zzI cy q_20 5 (fun _ => 0)] hP hD rfl
  clear hP hD
  obtain ⟨hP, hD⟩ := hPD
  refine lv_aload_n hx hb dX6_init_149 rfl (lv_at hl 0 rfl) ?_
  refine lv_bipush (v := 6) hx hb dX6_init_150 (by decide) ?_
  refine newM hx hb hts hown m_t848 hN hP hD hS hA 6 (by decide) (by decide) (Nat.le_of_ble_eq_true rfl) (Nat.le_of_ble_eq_true rfl) (Nat.le_of_ble_eq_true rfl) dX6_init_152 (fun q_21 H => ?_)
  clear hP hD hS
  intro hP hD hS
  have hPD := pd_as [zzO qm 5 [.ref q_1, .ref q_2, .ref q_3, .ref q_4, .ref q_6, .ref q_7, .ref q_8, .ref q_9, .int 0, .ref q_10, .int 0, .ref q_11, .int 0, .ref q_13, .ref q_15, .int 0, .int 0, .int 1, .null, .null, .int 0, .int 0, .int 0, .long 0, .int 0, .ref q_17, .int 0, .int 0, .int 0, .null, .ref q_18, .ref q_19, .ref q_20, .null, .int 0], zzI cy q_1 8 (fun _ => 0), zzI cy q_2 8 (fun _ => 0), zzI cy q_3 8 (fun _ => 0), zzG cy 4 q_4 r_5, zzJ cy (r_5 0) 40 (fun _ => 0), zzJ cy (r_5 1) 40 (fun _ => 0), zzJ cy (r_5 2) 40 (fun _ => 0), zzJ cy (r_5 3) 40 (fun _ => 0), zzJ cy (r_5 4) 40 (fun _ => 0), zzJ cy (r_5 5) 40 (fun _ => 0), zzJ cy (r_5 6) 40 (fun _ => 0), zzJ cy (r_5 7) 40 (fun _ => 0), zzJ cy q_6 40 (fun _ => 0), zzI cy q_7 8 (fun _ => 0), zzI cy q_8 8 (fun _ => 0), zzI cy q_9 250 (fun _ => 0), zzI cy q_10 8 (fun _ => 0), zzG cy 3 q_11 r_12, zzI cy (r_12 0) 4 (fun _ => 0), zzI cy (r_12 1) 4 (fun _ => 0), zzI cy (r_12 2) 4 (fun _ => 0), zzI cy (r_12 3) 4 (fun _ => 0), zzI cy (r_12 4) 4 (fun _ => 0), zzI cy (r_12 5) 4 (fun _ => 0), zzI cy (r_12 6) 4 (fun _ => 0), zzI cy (r_12 7) 4 (fun _ => 0), zzG cy 3 q_13 r_14, zzI cy (r_14 0) 5 (fun _ => 0), zzI cy (r_14 1) 5 (fun _ => 0), zzI cy (r_14 2) 5 (fun _ => 0), zzI cy (r_14 3) 5 (fun _ => 0), zzI cy (r_14 4) 5 (fun _ => 0), zzI cy (r_14 5) 5 (fun _ => 0), zzI cy (r_14 6) 5 (fun _ => 0), zzI cy (r_14 7) 5 (fun _ => 0), zzG cy 3 q_15 r_16, zzI cy (r_16 0) 8 (fun _ => 0), zzI cy (r_16 1) 8 (fun _ => 0), zzI cy (r_16 2) 8 (fun _ => 0), zzI cy (r_16 3) 8 (fun _ => 0), zzI cy (r_16 4) 8 (fun _ => 0), zzI cy (r_16 5) 8 (fun _ => 0), zzI cy (r_16 6) 8 (fun _ => 0), zzI cy (r_16 7) 8 (fun _ => 0), zzI cy q_17 3 (fun _ => 0), zzI cy q_18 8 (fun _ => 0), zzI cy q_19 5 (fun _ => 0), zzI cy q_20 5 (fun _ => 0), zzQ cy 5 q_21 6 (fun _ => none)] hP hD rfl
  clear hP hD
  obtain ⟨hP, hD⟩ := hPD
  refine W.widen (k := 49) (n := 853) (Nat.le_of_ble_eq_true rfl) (Nat.le_of_ble_eq_true rfl) ?_
  refine va_putF (D := G) (ci := 5) (v := .ref q_21) (ty := (.array (.object "EachBookOnceModel"))) (C := RX6) (T := TX6) (N := 35) hx hb hts iX_X6 tyX6 tyX6_ok nmX6 hown hK hP hD hS 0 rfl rfl 33 (by decide) (hts _ m_t883) (fun _ h9 => h9) rfl hin rfl (by decide +kernel) rfl rfl (Nat.le_of_ble_eq_true rfl) dX6_init_155 (fun H locs => ?_)
  clear hP hD hS
  intro hP hD hS
  have hPD := pd_as [zzO qm 5 [.ref q_1, .ref q_2, .ref q_3, .ref q_4, .ref q_6, .ref q_7, .ref q_8, .ref q_9, .int 0, .ref q_10, .int 0, .ref q_11, .int 0, .ref q_13, .ref q_15, .int 0, .int 0, .int 1, .null, .null, .int 0, .int 0, .int 0, .long 0, .int 0, .ref q_17, .int 0, .int 0, .int 0, .null, .ref q_18, .ref q_19, .ref q_20, .ref q_21, .int 0], zzI cy q_1 8 (fun _ => 0), zzI cy q_2 8 (fun _ => 0), zzI cy q_3 8 (fun _ => 0), zzG cy 4 q_4 r_5, zzJ cy (r_5 0) 40 (fun _ => 0), zzJ cy (r_5 1) 40 (fun _ => 0), zzJ cy (r_5 2) 40 (fun _ => 0), zzJ cy (r_5 3) 40 (fun _ => 0), zzJ cy (r_5 4) 40 (fun _ => 0), zzJ cy (r_5 5) 40 (fun _ => 0), zzJ cy (r_5 6) 40 (fun _ => 0), zzJ cy (r_5 7) 40 (fun _ => 0), zzJ cy q_6 40 (fun _ => 0), zzI cy q_7 8 (fun _ => 0), zzI cy q_8 8 (fun _ => 0), zzI cy q_9 250 (fun _ => 0), zzI cy q_10 8 (fun _ => 0), zzG cy 3 q_11 r_12, zzI cy (r_12 0) 4 (fun _ => 0), zzI cy (r_12 1) 4 (fun _ => 0), zzI cy (r_12 2) 4 (fun _ => 0), zzI cy (r_12 3) 4 (fun _ => 0), zzI cy (r_12 4) 4 (fun _ => 0), zzI cy (r_12 5) 4 (fun _ => 0), zzI cy (r_12 6) 4 (fun _ => 0), zzI cy (r_12 7) 4 (fun _ => 0), zzG cy 3 q_13 r_14, zzI cy (r_14 0) 5 (fun _ => 0), zzI cy (r_14 1) 5 (fun _ => 0), zzI cy (r_14 2) 5 (fun _ => 0), zzI cy (r_14 3) 5 (fun _ => 0), zzI cy (r_14 4) 5 (fun _ => 0), zzI cy (r_14 5) 5 (fun _ => 0), zzI cy (r_14 6) 5 (fun _ => 0), zzI cy (r_14 7) 5 (fun _ => 0), zzG cy 3 q_15 r_16, zzI cy (r_16 0) 8 (fun _ => 0), zzI cy (r_16 1) 8 (fun _ => 0), zzI cy (r_16 2) 8 (fun _ => 0), zzI cy (r_16 3) 8 (fun _ => 0), zzI cy (r_16 4) 8 (fun _ => 0), zzI cy (r_16 5) 8 (fun _ => 0), zzI cy (r_16 6) 8 (fun _ => 0), zzI cy (r_16 7) 8 (fun _ => 0), zzI cy q_17 3 (fun _ => 0), zzI cy q_18 8 (fun _ => 0), zzI cy q_19 5 (fun _ => 0), zzI cy q_20 5 (fun _ => 0), zzQ cy 5 q_21 6 (fun _ => none)] hP hD rfl
  clear hP hD
  obtain ⟨hP, hD⟩ := hPD
  exact endV (u := [zzO qm 5 [.ref q_1, .ref q_2, .ref q_3, .ref q_4, .ref q_6, .ref q_7, .ref q_8, .ref q_9, .int 0, .ref q_10, .int 0, .ref q_11, .int 0, .ref q_13, .ref q_15, .int 0, .int 0, .int 1, .null, .null, .int 0, .int 0, .int 0, .long 0, .int 0, .ref q_17, .int 0, .int 0, .int 0, .null, .ref q_18, .ref q_19, .ref q_20, .ref q_21, .int 0], zzI cy q_1 8 (fun _ => 0), zzI cy q_2 8 (fun _ => 0), zzI cy q_3 8 (fun _ => 0), zzJ cy q_6 40 (fun _ => 0), zzI cy q_7 8 (fun _ => 0), zzI cy q_8 8 (fun _ => 0), zzI cy q_9 250 (fun _ => 0), zzI cy q_10 8 (fun _ => 0), zzI cy q_17 3 (fun _ => 0), zzI cy q_18 8 (fun _ => 0), zzI cy q_19 5 (fun _ => 0), zzI cy q_20 5 (fun _ => 0), zzG cy 4 q_4 r_5, zzJ cy (r_5 0) 40 (fun _ => 0), zzJ cy (r_5 1) 40 (fun _ => 0), zzJ cy (r_5 2) 40 (fun _ => 0), zzJ cy (r_5 3) 40 (fun _ => 0), zzJ cy (r_5 4) 40 (fun _ => 0), zzJ cy (r_5 5) 40 (fun _ => 0), zzJ cy (r_5 6) 40 (fun _ => 0), zzJ cy (r_5 7) 40 (fun _ => 0), zzG cy 3 q_11 r_12, zzI cy (r_12 0) 4 (fun _ => 0), zzI cy (r_12 1) 4 (fun _ => 0), zzI cy (r_12 2) 4 (fun _ => 0), zzI cy (r_12 3) 4 (fun _ => 0), zzI cy (r_12 4) 4 (fun _ => 0), zzI cy (r_12 5) 4 (fun _ => 0), zzI cy (r_12 6) 4 (fun _ => 0), zzI cy (r_12 7) 4 (fun _ => 0), zzG cy 3 q_13 r_14, zzI cy (r_14 0) 5 (fun _ => 0), zzI cy (r_14 1) 5 (fun _ => 0), zzI cy (r_14 2) 5 (fun _ => 0), zzI cy (r_14 3) 5 (fun _ => 0), zzI cy (r_14 4) 5 (fun _ => 0), zzI cy (r_14 5) 5 (fun _ => 0), zzI cy (r_14 6) 5 (fun _ => 0), zzI cy (r_14 7) 5 (fun _ => 0), zzG cy 3 q_15 r_16, zzI cy (r_16 0) 8 (fun _ => 0), zzI cy (r_16 1) 8 (fun _ => 0), zzI cy (r_16 2) 8 (fun _ => 0), zzI cy (r_16 3) 8 (fun _ => 0), zzI cy (r_16 4) 8 (fun _ => 0), zzI cy (r_16 5) 8 (fun _ => 0), zzI cy (r_16 6) 8 (fun _ => 0), zzI cy (r_16 7) 8 (fun _ => 0), zzQ cy 5 q_21 6 (fun _ => none)]) hx hb hr hlocks (hP.sub [0, 1, 2, 3, 13, 14, 15, 16, 17, 45, 46, 47, 48, 4, 5, 6, 7, 8, 9, 10, 11, 12, 18, 19, 20, 21, 22, 23, 24, 25, 26, 27, 28, 29, 30, 31, 32, 33, 34, 35, 36, 37, 38, 39, 40, 41, 42, 43, 44, 49] rfl) (hD.sub [0, 1, 2, 3, 13, 14, 15, 16, 17, 45, 46, 47, 48, 4, 5, 6, 7, 8, 9, 10, 11, 12, 18, 19, 20, 21, 22, 23, 24, 25, 26, 27, 28, 29, 30, 31, 32, 33, 34, 35, 36, 37, 38, 39, 40, 41, 42, 43, 44, 49] (by decide +kernel) rfl) hS ⟨q_1, q_2, q_3, q_6, q_7, q_8, q_9, q_10, q_17, q_18, q_19, q_20, q_4, q_11, q_13, q_15, r_5, r_12, r_14, r_16, q_21, rfl⟩ dX6_init_158
