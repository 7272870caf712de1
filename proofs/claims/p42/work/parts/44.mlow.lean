theorem cp_step {f g : Nat → Int32} {j : Nat} (h : ∀ x, x < j → f x = g x) : ∀ x, x < j + 1 → upd f j (g j) x = g x := fun x hx => by
  show (if x = j then g j else f x) = g x
  split
  · next e => rw [e]
  · next e => exact h x (by omega)
set_option maxHeartbeats 4000000 in
set_option maxRecDepth 100000 in
theorem c_X6_initS (l : Launch) (G : va_G) (cy : Nat → ClassId) (sz : Nat) (qm : Nat)   : MW l yX6_init cX6_init 1 none 1 49 853 G cy [zzO qm 5 (.null :: .null :: .null :: .null :: .null :: .null :: .null :: .null :: .int 0 :: .null :: .int 0 :: .null :: .int 0 :: .null :: .null :: .int 0 :: .int 0 :: .int 0 :: .null :: .null :: .int 0 :: .int 0 :: .int 0 :: .long 0 :: .int 0 :: .null :: .int 0 :: .int 0 :: .int 0 :: .null :: .null :: .null :: .null :: .null :: .int 0 :: [])] sz [.ref qm] (Wv G (fun u => ∃ (qmB : Nat) (qmO : Nat) (qmK : Nat) (rB : Nat → Nat) (rO : Nat → Nat) (rK : Nat → Nat) (xF : Nat → Value), u = [zzO qm 5 (xF 0 :: xF 1 :: xF 2 :: xF 3 :: xF 4 :: xF 5 :: xF 6 :: xF 7 :: xF 8 :: xF 9 :: .int (nI (T_nb T0)) :: .ref qmB :: .int (nI (T_np T0)) :: .ref qmO :: .ref qmK :: .int 0 :: .int 0 :: .int (T_sd T0) :: xF 18 :: xF 19 :: xF 20 :: xF 21 :: xF 22 :: xF 23 :: xF 24 :: xF 25 :: xF 26 :: .int 0 :: .int 0 :: xF 29 :: xF 30 :: xF 31 :: xF 32 :: xF 33 :: xF 34 :: []), zzG cy 3 qmB rB, zzI cy (rB 0) 4 (bkR T0 0), zzI cy (rB 1) 4 (bkR T0 1), zzI cy (rB 2) 4 (bkR T0 2), zzI cy (rB 3) 4 (bkR T0 3), zzI cy (rB 4) 4 (bkR T0 4), zzI cy (rB 5) 4 (bkR T0 5), zzI cy (rB 6) 4 (bkR T0 6), zzI cy (rB 7) 4 (bkR T0 7), zzG cy 3 qmO rO, zzI cy (rO 0) 5 (onR T0 0), zzI cy (rO 1) 5 (onR T0 1), zzI cy (rO 2) 5 (onR T0 2), zzI cy (rO 3) 5 (onR T0 3), zzI cy (rO 4) 5 (onR T0 4), zzI cy (rO 5) 5 (onR T0 5), zzI cy (rO 6) 5 (onR T0 6), zzI cy (rO 7) 5 (onR T0 7), zzG cy 3 qmK rK, zzI cy (rK 0) 8 (T_kn T0 0), zzI cy (rK 1) 8 (T_kn T0 1), zzI cy (rK 2) 8 (T_kn T0 2), zzI cy (rK 3) 8 (T_kn T0 3), zzI cy (rK 4) 8 (T_kn T0 4), zzI cy (rK 5) 8 (T_kn T0 5), zzI cy (rK 6) 8 (T_kn T0 6), zzI cy (rK 7) 8 (T_kn T0 7)])) := by
  refine enW RX6 (by decide +kernel) rfl (Nat.le_of_ble_eq_true rfl) (fun p e s m below meth c ls A hx hb hml hown hts hr hlocks hP hN hl hin hD hA hS => ?_)
  have hin : meth.name = _ := hin
  have hK := hN.1
  replace hl : lv_has ls 1 [(0, .ref qm)] := hl
  refine lv_aload_n hx hb (g_42 bX6_init rfl) rfl (lv_at hl 0 rfl) ?_
  refine W.objInit hx hb hown (hts _ m_t843) (hts _ m_t21) (hts _ m_t22) rfl (by rw [hml]; exact hl.1) rfl dX6_init_1 (Nat.le_of_ble_eq_true rfl) (Nat.le_of_ble_eq_true rfl) ?_
  refine W.eq (g2 := F0 m 4 ls []) rfl ?_
  refine lv_aload_n hx hb (g_42 bX6_init rfl) rfl (lv_at hl 0 rfl) ?_
  refine lv_bipush (v := 8) hx hb dX6_init_5 (by decide +kernel) ?_
  refine newI hx hb hts m_t92 hN hP hD hS hA 8 (by decide +kernel) (by decide +kernel) (Nat.le_of_ble_eq_true rfl) (Nat.le_of_ble_eq_true rfl) (Nat.le_of_ble_eq_true rfl) (g_na10 bX6_init rfl) (fun q_1 H => ?_)
  clear hP hD hS
  intro hP hD hS
  have hPD := pd_as [_, zzI cy q_1 8 (fun _ => 0)] hP hD rfl
  clear hP hD
  obtain ⟨hP, hD⟩ := hPD
  refine W.widen (k := 1) (n := 8) (Nat.le_of_ble_eq_true rfl) (Nat.le_of_ble_eq_true rfl) ?_
  refine va_putF (D := G) (ci := 5) (v := .ref q_1) (ty := (.array .int)) (C := RX6) (T := TX6) (N := 35) hx hb hts iX_X6 tyX6 tyX6_ok nmX6 hown hK hP hD hS 0 rfl rfl 0 (by decide +kernel) (hts _ m_t850) (fun _ h9 => h9) rfl hin rfl (by decide +kernel) rfl rfl (Nat.le_of_ble_eq_true rfl) (g_181 (v := 7) bX6_init rfl) (fun H locs => ?_)
  clear hP hD hS
  intro hP hD hS
  have hPD := pd_as [zzO qm 5 (.ref q_1 :: .null :: .null :: .null :: .null :: .null :: .null :: .null :: .int 0 :: .null :: .int 0 :: .null :: .int 0 :: .null :: .null :: .int 0 :: .int 0 :: .int 0 :: .null :: .null :: .int 0 :: .int 0 :: .int 0 :: .long 0 :: .int 0 :: .null :: .int 0 :: .int 0 :: .int 0 :: .null :: .null :: .null :: .null :: .null :: .int 0 :: []), _] hP hD rfl
  clear hP hD
  obtain ⟨hP, hD⟩ := hPD
  refine lv_aload_n hx hb (g_42 bX6_init rfl) rfl (lv_at hl 0 rfl) ?_
  refine lv_bipush (v := 8) hx hb dX6_init_13 (by decide +kernel) ?_
  refine newI hx hb hts m_t92 hN hP hD hS hA 8 (by decide +kernel) (by decide +kernel) (Nat.le_of_ble_eq_true rfl) (Nat.le_of_ble_eq_true rfl) (Nat.le_of_ble_eq_true rfl) (g_na10 bX6_init rfl) (fun q_2 H => ?_)
  clear hP hD hS
  intro hP hD hS
  have hPD := pd_as [_, _, zzI cy q_2 8 (fun _ => 0)] hP hD rfl
  clear hP hD
  obtain ⟨hP, hD⟩ := hPD
  refine W.widen (k := 2) (n := 16) (Nat.le_of_ble_eq_true rfl) (Nat.le_of_ble_eq_true rfl) ?_
  refine va_putF (D := G) (ci := 5) (v := .ref q_2) (ty := (.array .int)) (C := RX6) (T := TX6) (N := 35) hx hb hts iX_X6 tyX6 tyX6_ok nmX6 hown hK hP hD hS 0 rfl rfl 1 (by decide +kernel) (hts _ m_t851) (fun _ h9 => h9) rfl hin rfl (by decide +kernel) rfl rfl (Nat.le_of_ble_eq_true rfl) (g_181 (v := 13) bX6_init rfl) (fun H locs => ?_)
  clear hP hD hS
  intro hP hD hS
  have hPD := pd_as [zzO qm 5 (.ref q_1 :: .ref q_2 :: .null :: .null :: .null :: .null :: .null :: .null :: .int 0 :: .null :: .int 0 :: .null :: .int 0 :: .null :: .null :: .int 0 :: .int 0 :: .int 0 :: .null :: .null :: .int 0 :: .int 0 :: .int 0 :: .long 0 :: .int 0 :: .null :: .int 0 :: .int 0 :: .int 0 :: .null :: .null :: .null :: .null :: .null :: .int 0 :: []), _, _] hP hD rfl
  clear hP hD
  obtain ⟨hP, hD⟩ := hPD
  refine lv_aload_n hx hb (g_42 bX6_init rfl) rfl (lv_at hl 0 rfl) ?_
  refine lv_bipush (v := 8) hx hb dX6_init_21 (by decide +kernel) ?_
  refine newI hx hb hts m_t92 hN hP hD hS hA 8 (by decide +kernel) (by decide +kernel) (Nat.le_of_ble_eq_true rfl) (Nat.le_of_ble_eq_true rfl) (Nat.le_of_ble_eq_true rfl) (g_na10 bX6_init rfl) (fun q_3 H => ?_)
  clear hP hD hS
  intro hP hD hS
  have hPD := pd_as [_, _, _, zzI cy q_3 8 (fun _ => 0)] hP hD rfl
  clear hP hD
  obtain ⟨hP, hD⟩ := hPD
  refine W.widen (k := 3) (n := 24) (Nat.le_of_ble_eq_true rfl) (Nat.le_of_ble_eq_true rfl) ?_
  refine va_putF (D := G) (ci := 5) (v := .ref q_3) (ty := (.array .int)) (C := RX6) (T := TX6) (N := 35) hx hb hts iX_X6 tyX6 tyX6_ok nmX6 hown hK hP hD hS 0 rfl rfl 2 (by decide +kernel) (hts _ m_t852) (fun _ h9 => h9) rfl hin rfl (by decide +kernel) rfl rfl (Nat.le_of_ble_eq_true rfl) (g_181 (v := 16) bX6_init rfl) (fun H locs => ?_)
  clear hP hD hS
  intro hP hD hS
  have hPD := pd_as [zzO qm 5 (.ref q_1 :: .ref q_2 :: .ref q_3 :: .null :: .null :: .null :: .null :: .null :: .int 0 :: .null :: .int 0 :: .null :: .int 0 :: .null :: .null :: .int 0 :: .int 0 :: .int 0 :: .null :: .null :: .int 0 :: .int 0 :: .int 0 :: .long 0 :: .int 0 :: .null :: .int 0 :: .int 0 :: .int 0 :: .null :: .null :: .null :: .null :: .null :: .int 0 :: []), _, _, _] hP hD rfl
  clear hP hD
  obtain ⟨hP, hD⟩ := hPD
  refine lv_aload_n hx hb (g_42 bX6_init rfl) rfl (lv_at hl 0 rfl) ?_
  refine lv_bipush (v := 8) hx hb dX6_init_29 (by decide +kernel) ?_
  refine lv_bipush (v := 40) hx hb dX6_init_31 (by decide +kernel) ?_
  refine newJJ hx hb hts hown m_t844 m_t139 hN hP hD hS hA 40 (by decide +kernel) (by decide +kernel) (by decide +kernel) (Nat.le_of_ble_eq_true rfl) (Nat.le_of_ble_eq_true rfl) (Nat.le_of_ble_eq_true rfl) (Nat.le_of_ble_eq_true rfl) dX6_init_33 (fun q_4 r_5 H => ?_)
  clear hP hD hS
  intro hP hD hS
  have hPD := pd_as [_, _, _, _, zzG cy 4 q_4 r_5, zzJ cy (r_5 0) 40 (fun _ => 0), zzJ cy (r_5 1) 40 (fun _ => 0), zzJ cy (r_5 2) 40 (fun _ => 0), zzJ cy (r_5 3) 40 (fun _ => 0), zzJ cy (r_5 4) 40 (fun _ => 0), zzJ cy (r_5 5) 40 (fun _ => 0), zzJ cy (r_5 6) 40 (fun _ => 0), zzJ cy (r_5 7) 40 (fun _ => 0)] hP hD rfl
  clear hP hD
  obtain ⟨hP, hD⟩ := hPD
  refine W.widen (k := 12) (n := 352) (Nat.le_of_ble_eq_true rfl) (Nat.le_of_ble_eq_true rfl) ?_
  refine va_putF (D := G) (ci := 5) (v := .ref q_4) (ty := (.array (.array .long))) (C := RX6) (T := TX6) (N := 35) hx hb hts iX_X6 tyX6 tyX6_ok nmX6 hown hK hP hD hS 0 rfl rfl 3 (by decide +kernel) (hts _ m_t853) (fun _ h9 => h9) rfl hin rfl (by decide +kernel) rfl rfl (Nat.le_of_ble_eq_true rfl) (g_181 (v := 21) bX6_init rfl) (fun H locs => ?_)
  clear hP hD hS
  intro hP hD hS
  have hPD := pd_as [zzO qm 5 (.ref q_1 :: .ref q_2 :: .ref q_3 :: .ref q_4 :: .null :: .null :: .null :: .null :: .int 0 :: .null :: .int 0 :: .null :: .int 0 :: .null :: .null :: .int 0 :: .int 0 :: .int 0 :: .null :: .null :: .int 0 :: .int 0 :: .int 0 :: .long 0 :: .int 0 :: .null :: .int 0 :: .int 0 :: .int 0 :: .null :: .null :: .null :: .null :: .null :: .int 0 :: []), _, _, _, _, _, _, _, _, _, _, _, _] hP hD rfl
  clear hP hD
  obtain ⟨hP, hD⟩ := hPD
  refine lv_aload_n hx hb (g_42 bX6_init rfl) rfl (lv_at hl 0 rfl) ?_
  refine lv_bipush (v := 40) hx hb dX6_init_41 (by decide +kernel) ?_
  refine newJ hx hb hts m_t139 hN hP hD hS hA 40 (by decide +kernel) (by decide +kernel) (Nat.le_of_ble_eq_true rfl) (Nat.le_of_ble_eq_true rfl) (Nat.le_of_ble_eq_true rfl) (g_na11 bX6_init rfl) (fun q_6 H => ?_)
  clear hP hD hS
  intro hP hD hS
  have hPD := pd_as [_, _, _, _, _, _, _, _, _, _, _, _, _, zzJ cy q_6 40 (fun _ => 0)] hP hD rfl
  clear hP hD
  obtain ⟨hP, hD⟩ := hPD
  refine W.widen (k := 13) (n := 392) (Nat.le_of_ble_eq_true rfl) (Nat.le_of_ble_eq_true rfl) ?_
  refine va_putF (D := G) (ci := 5) (v := .ref q_6) (ty := (.array .long)) (C := RX6) (T := TX6) (N := 35) hx hb hts iX_X6 tyX6 tyX6_ok nmX6 hown hK hP hD hS 0 rfl rfl 4 (by decide +kernel) (hts _ m_t854) (fun _ h9 => h9) rfl hin rfl (by decide +kernel) rfl rfl (Nat.le_of_ble_eq_true rfl) (g_181 (v := 24) bX6_init rfl) (fun H locs => ?_)
  clear hP hD hS
  intro hP hD hS
  have hPD := pd_as [zzO qm 5 (.ref q_1 :: .ref q_2 :: .ref q_3 :: .ref q_4 :: .ref q_6 :: .null :: .null :: .null :: .int 0 :: .null :: .int 0 :: .null :: .int 0 :: .null :: .null :: .int 0 :: .int 0 :: .int 0 :: .null :: .null :: .int 0 :: .int 0 :: .int 0 :: .long 0 :: .int 0 :: .null :: .int 0 :: .int 0 :: .int 0 :: .null :: .null :: .null :: .null :: .null :: .int 0 :: []), _, _, _, _, _, _, _, _, _, _, _, _, _] hP hD rfl
  clear hP hD
  obtain ⟨hP, hD⟩ := hPD
  refine lv_aload_n hx hb (g_42 bX6_init rfl) rfl (lv_at hl 0 rfl) ?_
  refine lv_bipush (v := 8) hx hb dX6_init_49 (by decide +kernel) ?_
  refine newI hx hb hts m_t92 hN hP hD hS hA 8 (by decide +kernel) (by decide +kernel) (Nat.le_of_ble_eq_true rfl) (Nat.le_of_ble_eq_true rfl) (Nat.le_of_ble_eq_true rfl) (g_na10 bX6_init rfl) (fun q_7 H => ?_)
  clear hP hD hS
  intro hP hD hS
  have hPD := pd_as [_, _, _, _, _, _, _, _, _, _, _, _, _, _, zzI cy q_7 8 (fun _ => 0)] hP hD rfl
  clear hP hD
  obtain ⟨hP, hD⟩ := hPD
  refine W.widen (k := 14) (n := 400) (Nat.le_of_ble_eq_true rfl) (Nat.le_of_ble_eq_true rfl) ?_
  refine va_putF (D := G) (ci := 5) (v := .ref q_7) (ty := (.array .int)) (C := RX6) (T := TX6) (N := 35) hx hb hts iX_X6 tyX6 tyX6_ok nmX6 hown hK hP hD hS 0 rfl rfl 5 (by decide +kernel) (hts _ m_t855) (fun _ h9 => h9) rfl hin rfl (by decide +kernel) rfl rfl (Nat.le_of_ble_eq_true rfl) (g_181 (v := 28) bX6_init rfl) (fun H locs => ?_)
  clear hP hD hS
  intro hP hD hS
  have hPD := pd_as [zzO qm 5 (.ref q_1 :: .ref q_2 :: .ref q_3 :: .ref q_4 :: .ref q_6 :: .ref q_7 :: .null :: .null :: .int 0 :: .null :: .int 0 :: .null :: .int 0 :: .null :: .null :: .int 0 :: .int 0 :: .int 0 :: .null :: .null :: .int 0 :: .int 0 :: .int 0 :: .long 0 :: .int 0 :: .null :: .int 0 :: .int 0 :: .int 0 :: .null :: .null :: .null :: .null :: .null :: .int 0 :: []), _, _, _, _, _, _, _, _, _, _, _, _, _, _] hP hD rfl
  clear hP hD
  obtain ⟨hP, hD⟩ := hPD
  refine lv_aload_n hx hb (g_42 bX6_init rfl) rfl (lv_at hl 0 rfl) ?_
  refine lv_bipush (v := 8) hx hb dX6_init_57 (by decide +kernel) ?_
  refine newI hx hb hts m_t92 hN hP hD hS hA 8 (by decide +kernel) (by decide +kernel) (Nat.le_of_ble_eq_true rfl) (Nat.le_of_ble_eq_true rfl) (Nat.le_of_ble_eq_true rfl) (g_na10 bX6_init rfl) (fun q_8 H => ?_)
  clear hP hD hS
  intro hP hD hS
  have hPD := pd_as [_, _, _, _, _, _, _, _, _, _, _, _, _, _, _, zzI cy q_8 8 (fun _ => 0)] hP hD rfl
  clear hP hD
  obtain ⟨hP, hD⟩ := hPD
  refine W.widen (k := 15) (n := 408) (Nat.le_of_ble_eq_true rfl) (Nat.le_of_ble_eq_true rfl) ?_
  refine va_putF (D := G) (ci := 5) (v := .ref q_8) (ty := (.array .int)) (C := RX6) (T := TX6) (N := 35) hx hb hts iX_X6 tyX6 tyX6_ok nmX6 hown hK hP hD hS 0 rfl rfl 6 (by decide +kernel) (hts _ m_t856) (fun _ h9 => h9) rfl hin rfl (by decide +kernel) rfl rfl (Nat.le_of_ble_eq_true rfl) (g_181 (v := 31) bX6_init rfl) (fun H locs => ?_)
  clear hP hD hS
  intro hP hD hS
  have hPD := pd_as [zzO qm 5 (.ref q_1 :: .ref q_2 :: .ref q_3 :: .ref q_4 :: .ref q_6 :: .ref q_7 :: .ref q_8 :: .null :: .int 0 :: .null :: .int 0 :: .null :: .int 0 :: .null :: .null :: .int 0 :: .int 0 :: .int 0 :: .null :: .null :: .int 0 :: .int 0 :: .int 0 :: .long 0 :: .int 0 :: .null :: .int 0 :: .int 0 :: .int 0 :: .null :: .null :: .null :: .null :: .null :: .int 0 :: []), _, _, _, _, _, _, _, _, _, _, _, _, _, _, _] hP hD rfl
  clear hP hD
  obtain ⟨hP, hD⟩ := hPD
  refine lv_aload_n hx hb (g_42 bX6_init rfl) rfl (lv_at hl 0 rfl) ?_
  refine lv_sipush (v := 250) hx hb dX6_init_65 (by decide +kernel) ?_
  refine newI hx hb hts m_t92 hN hP hD hS hA 250 (by decide +kernel) (by decide +kernel) (Nat.le_of_ble_eq_true rfl) (Nat.le_of_ble_eq_true rfl) (Nat.le_of_ble_eq_true rfl) (g_na10 bX6_init rfl) (fun q_9 H => ?_)
  clear hP hD hS
  intro hP hD hS
  have hPD := pd_as [_, _, _, _, _, _, _, _, _, _, _, _, _, _, _, _, zzI cy q_9 250 (fun _ => 0)] hP hD rfl
  clear hP hD
  obtain ⟨hP, hD⟩ := hPD
  refine W.widen (k := 16) (n := 658) (Nat.le_of_ble_eq_true rfl) (Nat.le_of_ble_eq_true rfl) ?_
  refine va_putF (D := G) (ci := 5) (v := .ref q_9) (ty := (.array .int)) (C := RX6) (T := TX6) (N := 35) hx hb hts iX_X6 tyX6 tyX6_ok nmX6 hown hK hP hD hS 0 rfl rfl 7 (by decide +kernel) (hts _ m_t857) (fun _ h9 => h9) rfl hin rfl (by decide +kernel) rfl rfl (Nat.le_of_ble_eq_true rfl) (g_181 (v := 34) bX6_init rfl) (fun H locs => ?_)
  clear hP hD hS
  intro hP hD hS
  have hPD := pd_as [zzO qm 5 (.ref q_1 :: .ref q_2 :: .ref q_3 :: .ref q_4 :: .ref q_6 :: .ref q_7 :: .ref q_8 :: .ref q_9 :: .int 0 :: .null :: .int 0 :: .null :: .int 0 :: .null :: .null :: .int 0 :: .int 0 :: .int 0 :: .null :: .null :: .int 0 :: .int 0 :: .int 0 :: .long 0 :: .int 0 :: .null :: .int 0 :: .int 0 :: .int 0 :: .null :: .null :: .null :: .null :: .null :: .int 0 :: []), _, _, _, _, _, _, _, _, _, _, _, _, _, _, _, _] hP hD rfl
  clear hP hD
  obtain ⟨hP, hD⟩ := hPD
  refine lv_aload_n hx hb (g_42 bX6_init rfl) rfl (lv_at hl 0 rfl) ?_
  refine lv_bipush (v := 8) hx hb dX6_init_74 (by decide +kernel) ?_
  refine newI hx hb hts m_t92 hN hP hD hS hA 8 (by decide +kernel) (by decide +kernel) (Nat.le_of_ble_eq_true rfl) (Nat.le_of_ble_eq_true rfl) (Nat.le_of_ble_eq_true rfl) (g_na10 bX6_init rfl) (fun q_10 H => ?_)
  clear hP hD hS
  intro hP hD hS
  have hPD := pd_as [_, _, _, _, _, _, _, _, _, _, _, _, _, _, _, _, _, zzI cy q_10 8 (fun _ => 0)] hP hD rfl
  clear hP hD
  obtain ⟨hP, hD⟩ := hPD
  refine W.widen (k := 17) (n := 666) (Nat.le_of_ble_eq_true rfl) (Nat.le_of_ble_eq_true rfl) ?_
  refine va_putF (D := G) (ci := 5) (v := .ref q_10) (ty := (.array .int)) (C := RX6) (T := TX6) (N := 35) hx hb hts iX_X6 tyX6 tyX6_ok nmX6 hown hK hP hD hS 0 rfl rfl 9 (by decide +kernel) (hts _ m_t859) (fun _ h9 => h9) rfl hin rfl (by decide +kernel) rfl rfl (Nat.le_of_ble_eq_true rfl) (g_181 (v := 37) bX6_init rfl) (fun H locs => ?_)
  clear hP hD hS
  intro hP hD hS
  have hPD := pd_as [zzO qm 5 (.ref q_1 :: .ref q_2 :: .ref q_3 :: .ref q_4 :: .ref q_6 :: .ref q_7 :: .ref q_8 :: .ref q_9 :: .int 0 :: .ref q_10 :: .int 0 :: .null :: .int 0 :: .null :: .null :: .int 0 :: .int 0 :: .int 0 :: .null :: .null :: .int 0 :: .int 0 :: .int 0 :: .long 0 :: .int 0 :: .null :: .int 0 :: .int 0 :: .int 0 :: .null :: .null :: .null :: .null :: .null :: .int 0 :: []), _, _, _, _, _, _, _, _, _, _, _, _, _, _, _, _, _] hP hD rfl
  clear hP hD
  obtain ⟨hP, hD⟩ := hPD
  refine lv_aload_n hx hb (g_42 bX6_init rfl) rfl (lv_at hl 0 rfl) ?_
  refine lv_bipush (v := 8) hx hb dX6_init_82 (by decide +kernel) ?_
  refine lv_iconst (v := 4) hx hb (g_7 bX6_init rfl) (by decide +kernel) ?_
  refine newII hx hb hts hown m_t846 m_t92 hN hP hD hS hA 4 (by decide +kernel) (by decide +kernel) (by decide +kernel) (Nat.le_of_ble_eq_true rfl) (Nat.le_of_ble_eq_true rfl) (Nat.le_of_ble_eq_true rfl) (Nat.le_of_ble_eq_true rfl) dX6_init_85 (fun q_11 r_12 H => ?_)
  clear hP hD hS
  intro hP hD hS
  have hPD := pd_as [_, _, _, _, _, _, _, _, _, _, _, _, _, _, _, _, _, _, zzG cy 3 q_11 r_12, zzI cy (r_12 0) 4 (fun _ => 0), zzI cy (r_12 1) 4 (fun _ => 0), zzI cy (r_12 2) 4 (fun _ => 0), zzI cy (r_12 3) 4 (fun _ => 0), zzI cy (r_12 4) 4 (fun _ => 0), zzI cy (r_12 5) 4 (fun _ => 0), zzI cy (r_12 6) 4 (fun _ => 0), zzI cy (r_12 7) 4 (fun _ => 0)] hP hD rfl
  clear hP hD
  obtain ⟨hP, hD⟩ := hPD
  refine W.widen (k := 26) (n := 706) (Nat.le_of_ble_eq_true rfl) (Nat.le_of_ble_eq_true rfl) ?_
  refine va_putF (D := G) (ci := 5) (v := .ref q_11) (ty := (.array (.array .int))) (C := RX6) (T := TX6) (N := 35) hx hb hts iX_X6 tyX6 tyX6_ok nmX6 hown hK hP hD hS 0 rfl rfl 11 (by decide +kernel) (hts _ m_t861) (fun _ h9 => h9) rfl hin rfl (by decide +kernel) rfl rfl (Nat.le_of_ble_eq_true rfl) (g_181 (v := 42) bX6_init rfl) (fun H locs => ?_)
  clear hP hD hS
  intro hP hD hS
  have hPD := pd_as [zzO qm 5 (.ref q_1 :: .ref q_2 :: .ref q_3 :: .ref q_4 :: .ref q_6 :: .ref q_7 :: .ref q_8 :: .ref q_9 :: .int 0 :: .ref q_10 :: .int 0 :: .ref q_11 :: .int 0 :: .null :: .null :: .int 0 :: .int 0 :: .int 0 :: .null :: .null :: .int 0 :: .int 0 :: .int 0 :: .long 0 :: .int 0 :: .null :: .int 0 :: .int 0 :: .int 0 :: .null :: .null :: .null :: .null :: .null :: .int 0 :: []), _, _, _, _, _, _, _, _, _, _, _, _, _, _, _, _, _, _, _, _, _, _, _, _, _, _] hP hD rfl
  clear hP hD
  obtain ⟨hP, hD⟩ := hPD
  refine lv_aload_n hx hb (g_42 bX6_init rfl) rfl (lv_at hl 0 rfl) ?_
  refine lv_bipush (v := 8) hx hb dX6_init_93 (by decide +kernel) ?_
  refine lv_iconst (v := 5) hx hb (g_8 bX6_init rfl) (by decide +kernel) ?_
  refine newII hx hb hts hown m_t846 m_t92 hN hP hD hS hA 5 (by decide +kernel) (by decide +kernel) (by decide +kernel) (Nat.le_of_ble_eq_true rfl) (Nat.le_of_ble_eq_true rfl) (Nat.le_of_ble_eq_true rfl) (Nat.le_of_ble_eq_true rfl) dX6_init_96 (fun q_13 r_14 H => ?_)
  clear hP hD hS
  intro hP hD hS
  have hPD := pd_as (_ :: _ :: _ :: _ :: _ :: _ :: _ :: _ :: _ :: _ :: _ :: _ :: _ :: _ :: _ :: _ :: _ :: _ :: _ :: _ :: _ :: _ :: _ :: _ :: _ :: _ :: _ :: zzG cy 3 q_13 r_14 :: zzI cy (r_14 0) 5 (fun _ => 0) :: zzI cy (r_14 1) 5 (fun _ => 0) :: zzI cy (r_14 2) 5 (fun _ => 0) :: zzI cy (r_14 3) 5 (fun _ => 0) :: zzI cy (r_14 4) 5 (fun _ => 0) :: zzI cy (r_14 5) 5 (fun _ => 0) :: zzI cy (r_14 6) 5 (fun _ => 0) :: zzI cy (r_14 7) 5 (fun _ => 0) :: []) hP hD rfl
  clear hP hD
  obtain ⟨hP, hD⟩ := hPD
  refine W.widen (k := 35) (n := 754) (Nat.le_of_ble_eq_true rfl) (Nat.le_of_ble_eq_true rfl) ?_
  refine va_putF (D := G) (ci := 5) (v := .ref q_13) (ty := (.array (.array .int))) (C := RX6) (T := TX6) (N := 35) hx hb hts iX_X6 tyX6 tyX6_ok nmX6 hown hK hP hD hS 0 rfl rfl 13 (by decide +kernel) (hts _ m_t863) (fun _ h9 => h9) rfl hin rfl (by decide +kernel) rfl rfl (Nat.le_of_ble_eq_true rfl) (g_181 (v := 45) bX6_init rfl) (fun H locs => ?_)
  clear hP hD hS
  intro hP hD hS
  have hPD := pd_as (zzO qm 5 (.ref q_1 :: .ref q_2 :: .ref q_3 :: .ref q_4 :: .ref q_6 :: .ref q_7 :: .ref q_8 :: .ref q_9 :: .int 0 :: .ref q_10 :: .int 0 :: .ref q_11 :: .int 0 :: .ref q_13 :: .null :: .int 0 :: .int 0 :: .int 0 :: .null :: .null :: .int 0 :: .int 0 :: .int 0 :: .long 0 :: .int 0 :: .null :: .int 0 :: .int 0 :: .int 0 :: .null :: .null :: .null :: .null :: .null :: .int 0 :: []) :: _ :: _ :: _ :: _ :: _ :: _ :: _ :: _ :: _ :: _ :: _ :: _ :: _ :: _ :: _ :: _ :: _ :: _ :: _ :: _ :: _ :: _ :: _ :: _ :: _ :: _ :: _ :: _ :: _ :: _ :: _ :: _ :: _ :: _ :: _ :: []) hP hD rfl
  clear hP hD
  obtain ⟨hP, hD⟩ := hPD
  refine lv_aload_n hx hb (g_42 bX6_init rfl) rfl (lv_at hl 0 rfl) ?_
  refine lv_bipush (v := 8) hx hb dX6_init_104 (by decide +kernel) ?_
  refine lv_bipush (v := 8) hx hb dX6_init_106 (by decide +kernel) ?_
  refine newII hx hb hts hown m_t846 m_t92 hN hP hD hS hA 8 (by decide +kernel) (by decide +kernel) (by decide +kernel) (Nat.le_of_ble_eq_true rfl) (Nat.le_of_ble_eq_true rfl) (Nat.le_of_ble_eq_true rfl) (Nat.le_of_ble_eq_true rfl) dX6_init_108 (fun q_15 r_16 H => ?_)
  clear hP hD hS
  intro hP hD hS
  have hPD := pd_as (_ :: _ :: _ :: _ :: _ :: _ :: _ :: _ :: _ :: _ :: _ :: _ :: _ :: _ :: _ :: _ :: _ :: _ :: _ :: _ :: _ :: _ :: _ :: _ :: _ :: _ :: _ :: _ :: _ :: _ :: _ :: _ :: _ :: _ :: _ :: _ :: zzG cy 3 q_15 r_16 :: zzI cy (r_16 0) 8 (fun _ => 0) :: zzI cy (r_16 1) 8 (fun _ => 0) :: zzI cy (r_16 2) 8 (fun _ => 0) :: zzI cy (r_16 3) 8 (fun _ => 0) :: zzI cy (r_16 4) 8 (fun _ => 0) :: zzI cy (r_16 5) 8 (fun _ => 0) :: zzI cy (r_16 6) 8 (fun _ => 0) :: zzI cy (r_16 7) 8 (fun _ => 0) :: []) hP hD rfl
  clear hP hD
  obtain ⟨hP, hD⟩ := hPD
  refine W.widen (k := 44) (n := 826) (Nat.le_of_ble_eq_true rfl) (Nat.le_of_ble_eq_true rfl) ?_
  refine va_putF (D := G) (ci := 5) (v := .ref q_15) (ty := (.array (.array .int))) (C := RX6) (T := TX6) (N := 35) hx hb hts iX_X6 tyX6 tyX6_ok nmX6 hown hK hP hD hS 0 rfl rfl 14 (by decide +kernel) (hts _ m_t864) (fun _ h9 => h9) rfl hin rfl (by decide +kernel) rfl rfl (Nat.le_of_ble_eq_true rfl) (g_181 (v := 48) bX6_init rfl) (fun H locs => ?_)
  clear hP hD hS
  intro hP hD hS
  have hPD := pd_as (zzO qm 5 (.ref q_1 :: .ref q_2 :: .ref q_3 :: .ref q_4 :: .ref q_6 :: .ref q_7 :: .ref q_8 :: .ref q_9 :: .int 0 :: .ref q_10 :: .int 0 :: .ref q_11 :: .int 0 :: .ref q_13 :: .ref q_15 :: .int 0 :: .int 0 :: .int 0 :: .null :: .null :: .int 0 :: .int 0 :: .int 0 :: .long 0 :: .int 0 :: .null :: .int 0 :: .int 0 :: .int 0 :: .null :: .null :: .null :: .null :: .null :: .int 0 :: []) :: _ :: _ :: _ :: _ :: _ :: _ :: _ :: _ :: _ :: _ :: _ :: _ :: _ :: _ :: _ :: _ :: _ :: _ :: _ :: _ :: _ :: _ :: _ :: _ :: _ :: _ :: _ :: _ :: _ :: _ :: _ :: _ :: _ :: _ :: _ :: _ :: _ :: _ :: _ :: _ :: _ :: _ :: _ :: _ :: []) hP hD rfl
  clear hP hD
  obtain ⟨hP, hD⟩ := hPD
  refine lv_aload_n hx hb (g_42 bX6_init rfl) rfl (lv_at hl 0 rfl) ?_
  refine lv_iconst (v := 1) hx hb (g_4 bX6_init rfl) (by decide +kernel) ?_
  refine va_put (D := G) (ci := 5) (v := .int 1) (ty := .int) (C := RX6) (T := TX6) (N := 35) hx hb hts iX_X6 tyX6 tyX6_ok nmX6 hown hK hP hD hS 0 rfl rfl 17 (by decide +kernel) (hts _ m_t867) (fun _ h9 => h9) rfl (by decide +kernel) rfl rfl (Nat.le_of_ble_eq_true rfl) (g_181 (v := 51) bX6_init rfl) (fun H locs => ?_)
  clear hP hD hS
  intro hP hD hS
  have hPD := pd_as (zzO qm 5 (.ref q_1 :: .ref q_2 :: .ref q_3 :: .ref q_4 :: .ref q_6 :: .ref q_7 :: .ref q_8 :: .ref q_9 :: .int 0 :: .ref q_10 :: .int 0 :: .ref q_11 :: .int 0 :: .ref q_13 :: .ref q_15 :: .int 0 :: .int 0 :: .int 1 :: .null :: .null :: .int 0 :: .int 0 :: .int 0 :: .long 0 :: .int 0 :: .null :: .int 0 :: .int 0 :: .int 0 :: .null :: .null :: .null :: .null :: .null :: .int 0 :: []) :: _ :: _ :: _ :: _ :: _ :: _ :: _ :: _ :: _ :: _ :: _ :: _ :: _ :: _ :: _ :: _ :: _ :: _ :: _ :: _ :: _ :: _ :: _ :: _ :: _ :: _ :: _ :: _ :: _ :: _ :: _ :: _ :: _ :: _ :: _ :: _ :: _ :: _ :: _ :: _ :: _ :: _ :: _ :: _ :: []) hP hD rfl
  clear hP hD
  obtain ⟨hP, hD⟩ := hPD
  refine lv_aload_n hx hb (g_42 bX6_init rfl) rfl (lv_at hl 0 rfl) ?_
  refine lv_iconst (v := 3) hx hb (g_6 bX6_init rfl) (by decide +kernel) ?_
  refine newI hx hb hts m_t92 hN hP hD hS hA 3 (by decide +kernel) (by decide +kernel) (Nat.le_of_ble_eq_true rfl) (Nat.le_of_ble_eq_true rfl) (Nat.le_of_ble_eq_true rfl) (g_na10 bX6_init rfl) (fun q_17 H => ?_)
  clear hP hD hS
  intro hP hD hS
  have hPD := pd_as (_ :: _ :: _ :: _ :: _ :: _ :: _ :: _ :: _ :: _ :: _ :: _ :: _ :: _ :: _ :: _ :: _ :: _ :: _ :: _ :: _ :: _ :: _ :: _ :: _ :: _ :: _ :: _ :: _ :: _ :: _ :: _ :: _ :: _ :: _ :: _ :: _ :: _ :: _ :: _ :: _ :: _ :: _ :: _ :: _ :: zzI cy q_17 3 (fun _ => 0) :: []) hP hD rfl
  clear hP hD
  obtain ⟨hP, hD⟩ := hPD
  refine W.widen (k := 45) (n := 829) (Nat.le_of_ble_eq_true rfl) (Nat.le_of_ble_eq_true rfl) ?_
  refine va_putF (D := G) (ci := 5) (v := .ref q_17) (ty := (.array .int)) (C := RX6) (T := TX6) (N := 35) hx hb hts iX_X6 tyX6 tyX6_ok nmX6 hown hK hP hD hS 0 rfl rfl 25 (by decide +kernel) (hts _ m_t875) (fun _ h9 => h9) rfl hin rfl (by decide +kernel) rfl rfl (Nat.le_of_ble_eq_true rfl) (g_181 (v := 55) bX6_init rfl) (fun H locs => ?_)
  clear hP hD hS
  intro hP hD hS
  have hPD := pd_as (zzO qm 5 (.ref q_1 :: .ref q_2 :: .ref q_3 :: .ref q_4 :: .ref q_6 :: .ref q_7 :: .ref q_8 :: .ref q_9 :: .int 0 :: .ref q_10 :: .int 0 :: .ref q_11 :: .int 0 :: .ref q_13 :: .ref q_15 :: .int 0 :: .int 0 :: .int 1 :: .null :: .null :: .int 0 :: .int 0 :: .int 0 :: .long 0 :: .int 0 :: .ref q_17 :: .int 0 :: .int 0 :: .int 0 :: .null :: .null :: .null :: .null :: .null :: .int 0 :: []) :: _ :: _ :: _ :: _ :: _ :: _ :: _ :: _ :: _ :: _ :: _ :: _ :: _ :: _ :: _ :: _ :: _ :: _ :: _ :: _ :: _ :: _ :: _ :: _ :: _ :: _ :: _ :: _ :: _ :: _ :: _ :: _ :: _ :: _ :: _ :: _ :: _ :: _ :: _ :: _ :: _ :: _ :: _ :: _ :: _ :: []) hP hD rfl
  clear hP hD
  obtain ⟨hP, hD⟩ := hPD
  refine lv_aload_n hx hb (g_42 bX6_init rfl) rfl (lv_at hl 0 rfl) ?_
  refine lv_bipush (v := 8) hx hb dX6_init_128 (by decide +kernel) ?_
  refine newI hx hb hts m_t92 hN hP hD hS hA 8 (by decide +kernel) (by decide +kernel) (Nat.le_of_ble_eq_true rfl) (Nat.le_of_ble_eq_true rfl) (Nat.le_of_ble_eq_true rfl) (g_na10 bX6_init rfl) (fun q_18 H => ?_)
  clear hP hD hS
  intro hP hD hS
  have hPD := pd_as (_ :: _ :: _ :: _ :: _ :: _ :: _ :: _ :: _ :: _ :: _ :: _ :: _ :: _ :: _ :: _ :: _ :: _ :: _ :: _ :: _ :: _ :: _ :: _ :: _ :: _ :: _ :: _ :: _ :: _ :: _ :: _ :: _ :: _ :: _ :: _ :: _ :: _ :: _ :: _ :: _ :: _ :: _ :: _ :: _ :: _ :: zzI cy q_18 8 (fun _ => 0) :: []) hP hD rfl
  clear hP hD
  obtain ⟨hP, hD⟩ := hPD
  refine W.widen (k := 46) (n := 837) (Nat.le_of_ble_eq_true rfl) (Nat.le_of_ble_eq_true rfl) ?_
  refine va_putF (D := G) (ci := 5) (v := .ref q_18) (ty := (.array .int)) (C := RX6) (T := TX6) (N := 35) hx hb hts iX_X6 tyX6 tyX6_ok nmX6 hown hK hP hD hS 0 rfl rfl 30 (by decide +kernel) (hts _ m_t880) (fun _ h9 => h9) rfl hin rfl (by decide +kernel) rfl rfl (Nat.le_of_ble_eq_true rfl) (g_181 (v := 58) bX6_init rfl) (fun H locs => ?_)
  clear hP hD hS
  intro hP hD hS
  have hPD := pd_as (zzO qm 5 (.ref q_1 :: .ref q_2 :: .ref q_3 :: .ref q_4 :: .ref q_6 :: .ref q_7 :: .ref q_8 :: .ref q_9 :: .int 0 :: .ref q_10 :: .int 0 :: .ref q_11 :: .int 0 :: .ref q_13 :: .ref q_15 :: .int 0 :: .int 0 :: .int 1 :: .null :: .null :: .int 0 :: .int 0 :: .int 0 :: .long 0 :: .int 0 :: .ref q_17 :: .int 0 :: .int 0 :: .int 0 :: .null :: .ref q_18 :: .null :: .null :: .null :: .int 0 :: []) :: _ :: _ :: _ :: _ :: _ :: _ :: _ :: _ :: _ :: _ :: _ :: _ :: _ :: _ :: _ :: _ :: _ :: _ :: _ :: _ :: _ :: _ :: _ :: _ :: _ :: _ :: _ :: _ :: _ :: _ :: _ :: _ :: _ :: _ :: _ :: _ :: _ :: _ :: _ :: _ :: _ :: _ :: _ :: _ :: _ :: _ :: []) hP hD rfl
  clear hP hD
  obtain ⟨hP, hD⟩ := hPD
  refine lv_aload_n hx hb (g_42 bX6_init rfl) rfl (lv_at hl 0 rfl) ?_
  refine lv_iconst (v := 5) hx hb (g_8 bX6_init rfl) (by decide +kernel) ?_
  refine newI hx hb hts m_t92 hN hP hD hS hA 5 (by decide +kernel) (by decide +kernel) (Nat.le_of_ble_eq_true rfl) (Nat.le_of_ble_eq_true rfl) (Nat.le_of_ble_eq_true rfl) (g_na10 bX6_init rfl) (fun q_19 H => ?_)
  clear hP hD hS
  intro hP hD hS
  have hPD := pd_as (_ :: _ :: _ :: _ :: _ :: _ :: _ :: _ :: _ :: _ :: _ :: _ :: _ :: _ :: _ :: _ :: _ :: _ :: _ :: _ :: _ :: _ :: _ :: _ :: _ :: _ :: _ :: _ :: _ :: _ :: _ :: _ :: _ :: _ :: _ :: _ :: _ :: _ :: _ :: _ :: _ :: _ :: _ :: _ :: _ :: _ :: _ :: zzI cy q_19 5 (fun _ => 0) :: []) hP hD rfl
  clear hP hD
  obtain ⟨hP, hD⟩ := hPD
  refine W.widen (k := 47) (n := 842) (Nat.le_of_ble_eq_true rfl) (Nat.le_of_ble_eq_true rfl) ?_
  refine va_putF (D := G) (ci := 5) (v := .ref q_19) (ty := (.array .int)) (C := RX6) (T := TX6) (N := 35) hx hb hts iX_X6 tyX6 tyX6_ok nmX6 hown hK hP hD hS 0 rfl rfl 31 (by decide +kernel) (hts _ m_t881) (fun _ h9 => h9) rfl hin rfl (by decide +kernel) rfl rfl (Nat.le_of_ble_eq_true rfl) (g_181 (v := 61) bX6_init rfl) (fun H locs => ?_)
  clear hP hD hS
  intro hP hD hS
  have hPD := pd_as (zzO qm 5 (.ref q_1 :: .ref q_2 :: .ref q_3 :: .ref q_4 :: .ref q_6 :: .ref q_7 :: .ref q_8 :: .ref q_9 :: .int 0 :: .ref q_10 :: .int 0 :: .ref q_11 :: .int 0 :: .ref q_13 :: .ref q_15 :: .int 0 :: .int 0 :: .int 1 :: .null :: .null :: .int 0 :: .int 0 :: .int 0 :: .long 0 :: .int 0 :: .ref q_17 :: .int 0 :: .int 0 :: .int 0 :: .null :: .ref q_18 :: .ref q_19 :: .null :: .null :: .int 0 :: []) :: _ :: _ :: _ :: _ :: _ :: _ :: _ :: _ :: _ :: _ :: _ :: _ :: _ :: _ :: _ :: _ :: _ :: _ :: _ :: _ :: _ :: _ :: _ :: _ :: _ :: _ :: _ :: _ :: _ :: _ :: _ :: _ :: _ :: _ :: _ :: _ :: _ :: _ :: _ :: _ :: _ :: _ :: _ :: _ :: _ :: _ :: _ :: []) hP hD rfl
  clear hP hD
  obtain ⟨hP, hD⟩ := hPD
  refine lv_aload_n hx hb (g_42 bX6_init rfl) rfl (lv_at hl 0 rfl) ?_
  refine lv_iconst (v := 5) hx hb (g_8 bX6_init rfl) (by decide +kernel) ?_
  refine newI hx hb hts m_t92 hN hP hD hS hA 5 (by decide +kernel) (by decide +kernel) (Nat.le_of_ble_eq_true rfl) (Nat.le_of_ble_eq_true rfl) (Nat.le_of_ble_eq_true rfl) (g_na10 bX6_init rfl) (fun q_20 H => ?_)
  clear hP hD hS
  intro hP hD hS
  have hPD := pd_as (_ :: _ :: _ :: _ :: _ :: _ :: _ :: _ :: _ :: _ :: _ :: _ :: _ :: _ :: _ :: _ :: _ :: _ :: _ :: _ :: _ :: _ :: _ :: _ :: _ :: _ :: _ :: _ :: _ :: _ :: _ :: _ :: _ :: _ :: _ :: _ :: _ :: _ :: _ :: _ :: _ :: _ :: _ :: _ :: _ :: _ :: _ :: _ :: zzI cy q_20 5 (fun _ => 0) :: []) hP hD rfl
  clear hP hD
  obtain ⟨hP, hD⟩ := hPD
  refine W.widen (k := 48) (n := 847) (Nat.le_of_ble_eq_true rfl) (Nat.le_of_ble_eq_true rfl) ?_
  refine va_putF (D := G) (ci := 5) (v := .ref q_20) (ty := (.array .int)) (C := RX6) (T := TX6) (N := 35) hx hb hts iX_X6 tyX6 tyX6_ok nmX6 hown hK hP hD hS 0 rfl rfl 32 (by decide +kernel) (hts _ m_t882) (fun _ h9 => h9) rfl hin rfl (by decide +kernel) rfl rfl (Nat.le_of_ble_eq_true rfl) (g_181 (v := 64) bX6_init rfl) (fun H locs => ?_)
  clear hP hD hS
  intro hP hD hS
  have hPD := pd_as (zzO qm 5 (.ref q_1 :: .ref q_2 :: .ref q_3 :: .ref q_4 :: .ref q_6 :: .ref q_7 :: .ref q_8 :: .ref q_9 :: .int 0 :: .ref q_10 :: .int 0 :: .ref q_11 :: .int 0 :: .ref q_13 :: .ref q_15 :: .int 0 :: .int 0 :: .int 1 :: .null :: .null :: .int 0 :: .int 0 :: .int 0 :: .long 0 :: .int 0 :: .ref q_17 :: .int 0 :: .int 0 :: .int 0 :: .null :: .ref q_18 :: .ref q_19 :: .ref q_20 :: .null :: .int 0 :: []) :: _ :: _ :: _ :: _ :: _ :: _ :: _ :: _ :: _ :: _ :: _ :: _ :: _ :: _ :: _ :: _ :: _ :: _ :: _ :: _ :: _ :: _ :: _ :: _ :: _ :: _ :: _ :: _ :: _ :: _ :: _ :: _ :: _ :: _ :: _ :: _ :: _ :: _ :: _ :: _ :: _ :: _ :: _ :: _ :: _ :: _ :: _ :: _ :: []) hP hD rfl
  clear hP hD
  obtain ⟨hP, hD⟩ := hPD
  refine lv_aload_n hx hb (g_42 bX6_init rfl) rfl (lv_at hl 0 rfl) ?_
  refine lv_bipush (v := 6) hx hb dX6_init_150 (by decide +kernel) ?_
  refine newM hx hb hts hown m_t848 hN hP hD hS hA 6 (by decide +kernel) (by decide +kernel) (Nat.le_of_ble_eq_true rfl) (Nat.le_of_ble_eq_true rfl) (Nat.le_of_ble_eq_true rfl) (g_189 (v := 8) bX6_init rfl) (fun q_21 H => ?_)
  clear hP hD hS
  intro hP hD hS
  have hPD := pd_as (_ :: _ :: _ :: _ :: _ :: _ :: _ :: _ :: _ :: _ :: _ :: _ :: _ :: _ :: _ :: _ :: _ :: _ :: _ :: _ :: _ :: _ :: _ :: _ :: _ :: _ :: _ :: _ :: _ :: _ :: _ :: _ :: _ :: _ :: _ :: _ :: _ :: _ :: _ :: _ :: _ :: _ :: _ :: _ :: _ :: _ :: _ :: _ :: _ :: zzQ cy 5 q_21 6 (fun _ => none) :: []) hP hD rfl
  clear hP hD
  obtain ⟨hP, hD⟩ := hPD
  refine W.widen (k := 49) (n := 853) (Nat.le_of_ble_eq_true rfl) (Nat.le_of_ble_eq_true rfl) ?_
  refine va_putF (D := G) (ci := 5) (v := .ref q_21) (ty := (.array (.object "EachBookOnceModel"))) (C := RX6) (T := TX6) (N := 35) hx hb hts iX_X6 tyX6 tyX6_ok nmX6 hown hK hP hD hS 0 rfl rfl 33 (by decide +kernel) (hts _ m_t883) (fun _ h9 => h9) rfl hin rfl (by decide +kernel) rfl rfl (Nat.le_of_ble_eq_true rfl) (g_181 (v := 67) bX6_init rfl) (fun H locs => ?_)
  clear hP hD hS
  intro hP hD hS
  have hPD := pd_as (zzO qm 5 (.ref q_1 :: .ref q_2 :: .ref q_3 :: .ref q_4 :: .ref q_6 :: .ref q_7 :: .ref q_8 :: .ref q_9 :: .int 0 :: .ref q_10 :: .int 0 :: .ref q_11 :: .int 0 :: .ref q_13 :: .ref q_15 :: .int 0 :: .int 0 :: .int 1 :: .null :: .null :: .int 0 :: .int 0 :: .int 0 :: .long 0 :: .int 0 :: .ref q_17 :: .int 0 :: .int 0 :: .int 0 :: .null :: .ref q_18 :: .ref q_19 :: .ref q_20 :: .ref q_21 :: .int 0 :: []) :: _ :: _ :: _ :: _ :: _ :: _ :: _ :: _ :: _ :: _ :: _ :: _ :: _ :: _ :: _ :: _ :: _ :: _ :: _ :: _ :: _ :: _ :: _ :: _ :: _ :: _ :: _ :: _ :: _ :: _ :: _ :: _ :: _ :: _ :: _ :: _ :: _ :: _ :: _ :: _ :: _ :: _ :: _ :: _ :: _ :: _ :: _ :: _ :: _ :: []) hP hD rfl
  clear hP hD
  obtain ⟨hP, hD⟩ := hPD
  exact endV (u := [zzO qm 5 (.ref q_1 :: .ref q_2 :: .ref q_3 :: .ref q_4 :: .ref q_6 :: .ref q_7 :: .ref q_8 :: .ref q_9 :: .int 0 :: .ref q_10 :: .int 0 :: .ref q_11 :: .int 0 :: .ref q_13 :: .ref q_15 :: .int 0 :: .int 0 :: .int 1 :: .null :: .null :: .int 0 :: .int 0 :: .int 0 :: .long 0 :: .int 0 :: .ref q_17 :: .int 0 :: .int 0 :: .int 0 :: .null :: .ref q_18 :: .ref q_19 :: .ref q_20 :: .ref q_21 :: .int 0 :: []), zzG cy 3 q_11 r_12, zzI cy (r_12 0) 4 (fun _ => 0), zzI cy (r_12 1) 4 (fun _ => 0), zzI cy (r_12 2) 4 (fun _ => 0), zzI cy (r_12 3) 4 (fun _ => 0), zzI cy (r_12 4) 4 (fun _ => 0), zzI cy (r_12 5) 4 (fun _ => 0), zzI cy (r_12 6) 4 (fun _ => 0), zzI cy (r_12 7) 4 (fun _ => 0), zzG cy 3 q_13 r_14, zzI cy (r_14 0) 5 (fun _ => 0), zzI cy (r_14 1) 5 (fun _ => 0), zzI cy (r_14 2) 5 (fun _ => 0), zzI cy (r_14 3) 5 (fun _ => 0), zzI cy (r_14 4) 5 (fun _ => 0), zzI cy (r_14 5) 5 (fun _ => 0), zzI cy (r_14 6) 5 (fun _ => 0), zzI cy (r_14 7) 5 (fun _ => 0), zzG cy 3 q_15 r_16, zzI cy (r_16 0) 8 (fun _ => 0), zzI cy (r_16 1) 8 (fun _ => 0), zzI cy (r_16 2) 8 (fun _ => 0), zzI cy (r_16 3) 8 (fun _ => 0), zzI cy (r_16 4) 8 (fun _ => 0), zzI cy (r_16 5) 8 (fun _ => 0), zzI cy (r_16 6) 8 (fun _ => 0), zzI cy (r_16 7) 8 (fun _ => 0)]) hx hb hr hlocks (pSb hP [(true :: false :: false :: false :: false :: false :: false :: false :: false :: false :: false :: false :: false :: false :: false :: false :: false :: false :: true :: true :: true :: true :: true :: true :: true :: true :: true :: true :: true :: true :: true :: true :: true :: true :: true :: true :: true :: true :: true :: true :: true :: true :: true :: true :: true :: [])] rfl rfl) (dSb hD [(true :: false :: false :: false :: false :: false :: false :: false :: false :: false :: false :: false :: false :: false :: false :: false :: false :: false :: true :: true :: true :: true :: true :: true :: true :: true :: true :: true :: true :: true :: true :: true :: true :: true :: true :: true :: true :: true :: true :: true :: true :: true :: true :: true :: true :: [])] (by decide +kernel) rfl rfl) hS ⟨q_11, q_13, q_15, r_12, r_14, r_16, (fvL (.ref q_1 :: .ref q_2 :: .ref q_3 :: .ref q_4 :: .ref q_6 :: .ref q_7 :: .ref q_8 :: .ref q_9 :: .int 0 :: .ref q_10 :: .null :: .null :: .null :: .null :: .null :: .null :: .null :: .null :: .null :: .null :: .int 0 :: .int 0 :: .int 0 :: .long 0 :: .int 0 :: .ref q_17 :: .int 0 :: .null :: .null :: .null :: .ref q_18 :: .ref q_19 :: .ref q_20 :: .ref q_21 :: .int 0 :: [])), (by rw [bk_T0 0, bk_T0 1, bk_T0 2, bk_T0 3, bk_T0 4, bk_T0 5, bk_T0 6, bk_T0 7, on_T0 0, on_T0 1, on_T0 2, on_T0 3, on_T0 4, on_T0 5, on_T0 6, on_T0 7]; rfl)⟩ (g_177 bX6_init rfl)
set_option maxHeartbeats 4000000 in
set_option maxRecDepth 100000 in
theorem c_X6_overAll4 (l : Launch) (G : va_G) (cy : Nat → ClassId) (sz : Nat) (qF : Nat) (rF : Nat → Nat) (cF : Nat → Nat → Int32) (qG : Nat) (rG : Nat → Nat) (cG : Nat → Nat → Int32)   : MW l yX6_overAll cX6_overAll 4 none 1 0 0 G cy [zzG cy 3 qF rF, zzI cy (rF 0) 4 (cF 0), zzI cy (rF 1) 4 (cF 1), zzI cy (rF 2) 4 (cF 2), zzI cy (rF 3) 4 (cF 3), zzI cy (rF 4) 4 (cF 4), zzI cy (rF 5) 4 (cF 5), zzI cy (rF 6) 4 (cF 6), zzI cy (rF 7) 4 (cF 7), zzG cy 3 qG rG, zzI cy (rG 0) 4 (cG 0), zzI cy (rG 1) 4 (cG 1), zzI cy (rG 2) 4 (cG 2), zzI cy (rG 3) 4 (cG 3), zzI cy (rG 4) 4 (cG 4), zzI cy (rG 5) 4 (cG 5), zzI cy (rG 6) 4 (cG 6), zzI cy (rG 7) 4 (cG 7)] sz [.ref qF, .ref qG] (Wv G (fun u => u = [zzG cy 3 qF rF, zzI cy (rF 0) 4 (cF 0), zzI cy (rF 1) 4 (cF 1), zzI cy (rF 2) 4 (cF 2), zzI cy (rF 3) 4 (cF 3), zzI cy (rF 4) 4 (cF 4), zzI cy (rF 5) 4 (cF 5), zzI cy (rF 6) 4 (cF 6), zzI cy (rF 7) 4 (cF 7), zzG cy 3 qG rG, zzI cy (rG 0) 4 (cF 0), zzI cy (rG 1) 4 (cF 1), zzI cy (rG 2) 4 (cF 2), zzI cy (rG 3) 4 (cF 3), zzI cy (rG 4) 4 (cF 4), zzI cy (rG 5) 4 (cF 5), zzI cy (rG 6) 4 (cF 6), zzI cy (rG 7) 4 (cF 7)])) := by
  refine enW RX6 (by decide +kernel) rfl (Nat.le_of_ble_eq_true rfl) (fun p e s m below meth c ls A hx hb hml hown hts hr hlocks hP hN hl hin hD hA hS => ?_)
  have hin : meth.name = _ := hin
  have hK := hN.1
  replace hl : lv_has ls 4 [(0, .ref qF), (1, .ref qG)] := hl
  refine lv_iconst (v := 0) hx hb (g_3 bX6_overAll rfl) (by decide +kernel) ?_
  refine lv_istore_n (lv' := [(2, .int 0), (0, .ref qF), (1, .ref qG)]) hx hb (g_61 bX6_overAll rfl) rfl hl (by decide +kernel) rfl (fun ls => ?_)
  clear hl
  intro hl
  refine lv_iload_n hx hb (g_28 bX6_overAll rfl) rfl (lv_at hl 0 rfl) ?_
  refine lv_aload_n hx hb (g_42 bX6_overAll rfl) rfl (lv_at hl 1 rfl) ?_
  refine va_alen hx hb hK hP 0 3 rfl rfl (v := 8) rfl (g_190 bX6_overAll rfl) ?_
  refine lv_icmp_ge (tgt := 40) hx hb dX6_overAll_5 (by decide +kernel) (fun h9 => absurd h9 (by decide +kernel)) (fun _ => ?_)
  refine lv_iconst (v := 0) hx hb (g_3 bX6_overAll rfl) (by decide +kernel) ?_
  refine lv_istore_n (lv' := [(3, .int 0), (2, .int 0), (0, .ref qF), (1, .ref qG)]) hx hb (g_62 bX6_overAll rfl) rfl hl (by decide +kernel) rfl (fun ls => ?_)
  clear hl
  intro hl
  have lp_2 : ∀ (n_3 : Nat) (j_5 : Nat) (fT_6 : Nat → Int32), 4 - j_5 < n_3 → j_5 ≤ 4 → (∀ x, x < j_5 → fT_6 x = cF 0 x) → ∀ (H : Heap) (locs : List Loc) (ls : Array Slot), va_P G CL [zzG cy 3 qF rF, zzI cy (rF 0) 4 (cF 0), zzI cy (rF 1) 4 (cF 1), zzI cy (rF 2) 4 (cF 2), zzI cy (rF 3) 4 (cF 3), zzI cy (rF 4) 4 (cF 4), zzI cy (rF 5) 4 (cF 5), zzI cy (rF 6) 4 (cF 6), zzI cy (rF 7) 4 (cF 7), zzG cy 3 qG rG, zzI cy (rG 0) 4 fT_6, zzI cy (rG 1) 4 (cG 1), zzI cy (rG 2) 4 (cG 2), zzI cy (rG 3) 4 (cG 3), zzI cy (rG 4) 4 (cG 4), zzI cy (rG 5) 4 (cG 5), zzI cy (rG 6) 4 (cG 6), zzI cy (rG 7) 4 (cG 7)] H → va_D A [zzG cy 3 qF rF, zzI cy (rF 0) 4 (cF 0), zzI cy (rF 1) 4 (cF 1), zzI cy (rF 2) 4 (cF 2), zzI cy (rF 3) 4 (cF 3), zzI cy (rF 4) 4 (cF 4), zzI cy (rF 5) 4 (cF 5), zzI cy (rF 6) 4 (cF 6), zzI cy (rF 7) 4 (cF 7), zzG cy 3 qG rG, zzI cy (rG 0) 4 fT_6, zzI cy (rG 1) 4 (cG 1), zzI cy (rG 2) 4 (cG 2), zzI cy (rG 3) 4 (cG 3), zzI cy (rG 4) 4 (cG 4), zzI cy (rG 5) 4 (cG 5), zzI cy (rG 6) 4 (cG 6), zzI cy (rG 7) 4 (cG 7)] → va_S A s.heap H locs → lv_has ls 4 [(3, .int (nI j_5)), (2, .int 0), (0, .ref qF), (1, .ref qG)] → W p l e (Rm 1 0 0) s m (List.toArray (α := Value) [.ref qF, .ref qG]) below meth c H locs 0 0 (MQ below ((Wv G (fun u => u = [zzG cy 3 qF rF, zzI cy (rF 0) 4 (cF 0), zzI cy (rF 1) 4 (cF 1), zzI cy (rF 2) 4 (cF 2), zzI cy (rF 3) 4 (cF 3), zzI cy (rF 4) 4 (cF 4), zzI cy (rF 5) 4 (cF 5), zzI cy (rF 6) 4 (cF 6), zzI cy (rF 7) 4 (cF 7), zzG cy 3 qG rG, zzI cy (rG 0) 4 (cF 0), zzI cy (rG 1) 4 (cF 1), zzI cy (rG 2) 4 (cF 2), zzI cy (rG 3) 4 (cF 3), zzI cy (rG 4) 4 (cF 4), zzI cy (rG 5) 4 (cF 5), zzI cy (rG 6) 4 (cF 6), zzI cy (rG 7) 4 (cF 7)])) A) (List.toArray (α := Value) [.ref qF, .ref qG]) s 0 0 A) (F0 m 10 ls []) := by
    intro n_3
    induction n_3 with
    | zero => intro j_5 fT_6 hm9; exact absurd hm9 (Nat.not_lt_zero _)
    | succ n_3 ih_4 =>
      intro j_5 fT_6 hm_9 hj_7 hc_8 H locs ls hP hD hS hl
      refine lv_iload_n hx hb (g_29 bX6_overAll rfl) rfl (lv_at hl 0 rfl) ?_
      refine lv_aload_n hx hb (g_42 bX6_overAll rfl) rfl (lv_at hl 2 rfl) ?_
      refine lv_iload_n hx hb (g_28 bX6_overAll rfl) rfl (lv_at hl 1 rfl) ?_
      refine va_alda hx hb hK hP 0 3 rfl rfl (in_c rfl) (g_50 bX6_overAll rfl) ?_
      refine lv_setv (v := .ref (rF 0)) (rfl) ?_
      refine va_alen hx hb hK hP 1 0 rfl rfl (v := 4) rfl (g_190 bX6_overAll rfl) ?_
      refine lv_icmp_ge (tgt := 34) hx hb dX6_overAll_15 (by decide +kernel) (fun c_10 => ?_) (fun c_10 => ?_)
      · have hlt_11 : j_5 = 4 := Nat.le_antisymm (by omega) (lp_ge rfl (rfl : (4 : Int32) = nI 4) (by omega) (by omega) c_10)
        rw [hlt_11] at hc_8
        replace hP : va_P G CL [zzG cy 3 qF rF, zzI cy (rF 0) 4 (cF 0), zzI cy (rF 1) 4 (cF 1), zzI cy (rF 2) 4 (cF 2), zzI cy (rF 3) 4 (cF 3), zzI cy (rF 4) 4 (cF 4), zzI cy (rF 5) 4 (cF 5), zzI cy (rF 6) 4 (cF 6), zzI cy (rF 7) 4 (cF 7), zzG cy 3 qG rG, zzI cy (rG 0) 4 (cF 0), zzI cy (rG 1) 4 (cG 1), zzI cy (rG 2) 4 (cG 2), zzI cy (rG 3) 4 (cG 3), zzI cy (rG 4) 4 (cG 4), zzI cy (rG 5) 4 (cG 5), zzI cy (rG 6) 4 (cG 6), zzI cy (rG 7) 4 (cG 7)] H := arr_at hP (n0 := 10) rfl hc_8
        replace hD : va_D A [zzG cy 3 qF rF, zzI cy (rF 0) 4 (cF 0), zzI cy (rF 1) 4 (cF 1), zzI cy (rF 2) 4 (cF 2), zzI cy (rF 3) 4 (cF 3), zzI cy (rF 4) 4 (cF 4), zzI cy (rF 5) 4 (cF 5), zzI cy (rF 6) 4 (cF 6), zzI cy (rF 7) 4 (cF 7), zzG cy 3 qG rG, zzI cy (rG 0) 4 (cF 0), zzI cy (rG 1) 4 (cG 1), zzI cy (rG 2) 4 (cG 2), zzI cy (rG 3) 4 (cG 3), zzI cy (rG 4) 4 (cG 4), zzI cy (rG 5) 4 (cG 5), zzI cy (rG 6) 4 (cG 6), zzI cy (rG 7) 4 (cG 7)] := arr_dt hD (n0 := 10) rfl
        refine lv_iinc (v := 1) (lv' := [(2, .int 1), (3, .int (nI j_5)), (0, .ref qF), (1, .ref qG)]) hx hb dX6_overAll_34 hl (k := 1) rfl (by decide +kernel) (by decide +kernel) rfl (fun ls => ?_)
        clear hl
        intro hl
        refine lv_goto (tgt := 2) hx hb dX6_overAll_37 (by decide +kernel) ?_
        refine lv_iload_n hx hb (g_28 bX6_overAll rfl) rfl (lv_at hl 0 rfl) ?_
        refine lv_aload_n hx hb (g_42 bX6_overAll rfl) rfl (lv_at hl 2 rfl) ?_
        refine va_alen hx hb hK hP 0 3 rfl rfl (v := 8) rfl (g_190 bX6_overAll rfl) ?_
        refine lv_icmp_ge (tgt := 40) hx hb dX6_overAll_5 (by decide +kernel) (fun h9 => absurd h9 (by decide +kernel)) (fun _ => ?_)
        refine lv_iconst (v := 0) hx hb (g_3 bX6_overAll rfl) (by decide +kernel) ?_
        refine lv_istore_n (lv' := [(3, .int 0), (2, .int 1), (0, .ref qF), (1, .ref qG)]) hx hb (g_62 bX6_overAll rfl) rfl hl (by decide +kernel) rfl (fun ls => ?_)
        clear hl
        intro hl
        have lp_13 : ∀ (n_14 : Nat) (j_16 : Nat) (fT_17 : Nat → Int32), 4 - j_16 < n_14 → j_16 ≤ 4 → (∀ x, x < j_16 → fT_17 x = cF 1 x) → ∀ (H : Heap) (locs : List Loc) (ls : Array Slot), va_P G CL [zzG cy 3 qF rF, zzI cy (rF 0) 4 (cF 0), zzI cy (rF 1) 4 (cF 1), zzI cy (rF 2) 4 (cF 2), zzI cy (rF 3) 4 (cF 3), zzI cy (rF 4) 4 (cF 4), zzI cy (rF 5) 4 (cF 5), zzI cy (rF 6) 4 (cF 6), zzI cy (rF 7) 4 (cF 7), zzG cy 3 qG rG, zzI cy (rG 0) 4 (cF 0), zzI cy (rG 1) 4 fT_17, zzI cy (rG 2) 4 (cG 2), zzI cy (rG 3) 4 (cG 3), zzI cy (rG 4) 4 (cG 4), zzI cy (rG 5) 4 (cG 5), zzI cy (rG 6) 4 (cG 6), zzI cy (rG 7) 4 (cG 7)] H → va_D A [zzG cy 3 qF rF, zzI cy (rF 0) 4 (cF 0), zzI cy (rF 1) 4 (cF 1), zzI cy (rF 2) 4 (cF 2), zzI cy (rF 3) 4 (cF 3), zzI cy (rF 4) 4 (cF 4), zzI cy (rF 5) 4 (cF 5), zzI cy (rF 6) 4 (cF 6), zzI cy (rF 7) 4 (cF 7), zzG cy 3 qG rG, zzI cy (rG 0) 4 (cF 0), zzI cy (rG 1) 4 fT_17, zzI cy (rG 2) 4 (cG 2), zzI cy (rG 3) 4 (cG 3), zzI cy (rG 4) 4 (cG 4), zzI cy (rG 5) 4 (cG 5), zzI cy (rG 6) 4 (cG 6), zzI cy (rG 7) 4 (cG 7)] → va_S A s.heap H locs → lv_has ls 4 [(3, .int (nI j_16)), (2, .int 1), (0, .ref qF), (1, .ref qG)] → W p l e (Rm 1 0 0) s m (List.toArray (α := Value) [.ref qF, .ref qG]) below meth c H locs 0 0 (MQ below ((Wv G (fun u => u = [zzG cy 3 qF rF, zzI cy (rF 0) 4 (cF 0), zzI cy (rF 1) 4 (cF 1), zzI cy (rF 2) 4 (cF 2), zzI cy (rF 3) 4 (cF 3), zzI cy (rF 4) 4 (cF 4), zzI cy (rF 5) 4 (cF 5), zzI cy (rF 6) 4 (cF 6), zzI cy (rF 7) 4 (cF 7), zzG cy 3 qG rG, zzI cy (rG 0) 4 (cF 0), zzI cy (rG 1) 4 (cF 1), zzI cy (rG 2) 4 (cF 2), zzI cy (rG 3) 4 (cF 3), zzI cy (rG 4) 4 (cF 4), zzI cy (rG 5) 4 (cF 5), zzI cy (rG 6) 4 (cF 6), zzI cy (rG 7) 4 (cF 7)])) A) (List.toArray (α := Value) [.ref qF, .ref qG]) s 0 0 A) (F0 m 10 ls []) := by
          intro n_14
          induction n_14 with
          | zero => intro j_16 fT_17 hm9; exact absurd hm9 (Nat.not_lt_zero _)
          | succ n_14 ih_15 =>
            intro j_16 fT_17 hm_20 hj_18 hc_19 H locs ls hP hD hS hl
            refine lv_iload_n hx hb (g_29 bX6_overAll rfl) rfl (lv_at hl 0 rfl) ?_
            refine lv_aload_n hx hb (g_42 bX6_overAll rfl) rfl (lv_at hl 2 rfl) ?_
            refine lv_iload_n hx hb (g_28 bX6_overAll rfl) rfl (lv_at hl 1 rfl) ?_
            refine va_alda hx hb hK hP 0 3 rfl rfl (in_c rfl) (g_50 bX6_overAll rfl) ?_
            refine lv_setv (v := .ref (rF 1)) (rfl) ?_
            refine va_alen hx hb hK hP 2 0 rfl rfl (v := 4) rfl (g_190 bX6_overAll rfl) ?_
            refine lv_icmp_ge (tgt := 34) hx hb dX6_overAll_15 (by decide +kernel) (fun c_21 => ?_) (fun c_21 => ?_)
            · have hlt_22 : j_16 = 4 := Nat.le_antisymm (by omega) (lp_ge rfl (rfl : (4 : Int32) = nI 4) (by omega) (by omega) c_21)
              rw [hlt_22] at hc_19
              replace hP : va_P G CL [zzG cy 3 qF rF, zzI cy (rF 0) 4 (cF 0), zzI cy (rF 1) 4 (cF 1), zzI cy (rF 2) 4 (cF 2), zzI cy (rF 3) 4 (cF 3), zzI cy (rF 4) 4 (cF 4), zzI cy (rF 5) 4 (cF 5), zzI cy (rF 6) 4 (cF 6), zzI cy (rF 7) 4 (cF 7), zzG cy 3 qG rG, zzI cy (rG 0) 4 (cF 0), zzI cy (rG 1) 4 (cF 1), zzI cy (rG 2) 4 (cG 2), zzI cy (rG 3) 4 (cG 3), zzI cy (rG 4) 4 (cG 4), zzI cy (rG 5) 4 (cG 5), zzI cy (rG 6) 4 (cG 6), zzI cy (rG 7) 4 (cG 7)] H := arr_at hP (n0 := 11) rfl hc_19
              replace hD : va_D A [zzG cy 3 qF rF, zzI cy (rF 0) 4 (cF 0), zzI cy (rF 1) 4 (cF 1), zzI cy (rF 2) 4 (cF 2), zzI cy (rF 3) 4 (cF 3), zzI cy (rF 4) 4 (cF 4), zzI cy (rF 5) 4 (cF 5), zzI cy (rF 6) 4 (cF 6), zzI cy (rF 7) 4 (cF 7), zzG cy 3 qG rG, zzI cy (rG 0) 4 (cF 0), zzI cy (rG 1) 4 (cF 1), zzI cy (rG 2) 4 (cG 2), zzI cy (rG 3) 4 (cG 3), zzI cy (rG 4) 4 (cG 4), zzI cy (rG 5) 4 (cG 5), zzI cy (rG 6) 4 (cG 6), zzI cy (rG 7) 4 (cG 7)] := arr_dt hD (n0 := 11) rfl
              refine lv_iinc (v := 2) (lv' := [(2, .int 2), (3, .int (nI j_16)), (0, .ref qF), (1, .ref qG)]) hx hb dX6_overAll_34 hl (k := 1) rfl (by decide +kernel) (by decide +kernel) rfl (fun ls => ?_)
              clear hl
              intro hl
              refine lv_goto (tgt := 2) hx hb dX6_overAll_37 (by decide +kernel) ?_
              refine lv_iload_n hx hb (g_28 bX6_overAll rfl) rfl (lv_at hl 0 rfl) ?_
              refine lv_aload_n hx hb (g_42 bX6_overAll rfl) rfl (lv_at hl 2 rfl) ?_
              refine va_alen hx hb hK hP 0 3 rfl rfl (v := 8) rfl (g_190 bX6_overAll rfl) ?_
              refine lv_icmp_ge (tgt := 40) hx hb dX6_overAll_5 (by decide +kernel) (fun h9 => absurd h9 (by decide +kernel)) (fun _ => ?_)
              refine lv_iconst (v := 0) hx hb (g_3 bX6_overAll rfl) (by decide +kernel) ?_
              refine lv_istore_n (lv' := [(3, .int 0), (2, .int 2), (0, .ref qF), (1, .ref qG)]) hx hb (g_62 bX6_overAll rfl) rfl hl (by decide +kernel) rfl (fun ls => ?_)
              clear hl
              intro hl
              have lp_24 : ∀ (n_25 : Nat) (j_27 : Nat) (fT_28 : Nat → Int32), 4 - j_27 < n_25 → j_27 ≤ 4 → (∀ x, x < j_27 → fT_28 x = cF 2 x) → ∀ (H : Heap) (locs : List Loc) (ls : Array Slot), va_P G CL [zzG cy 3 qF rF, zzI cy (rF 0) 4 (cF 0), zzI cy (rF 1) 4 (cF 1), zzI cy (rF 2) 4 (cF 2), zzI cy (rF 3) 4 (cF 3), zzI cy (rF 4) 4 (cF 4), zzI cy (rF 5) 4 (cF 5), zzI cy (rF 6) 4 (cF 6), zzI cy (rF 7) 4 (cF 7), zzG cy 3 qG rG, zzI cy (rG 0) 4 (cF 0), zzI cy (rG 1) 4 (cF 1), zzI cy (rG 2) 4 fT_28, zzI cy (rG 3) 4 (cG 3), zzI cy (rG 4) 4 (cG 4), zzI cy (rG 5) 4 (cG 5), zzI cy (rG 6) 4 (cG 6), zzI cy (rG 7) 4 (cG 7)] H → va_D A [zzG cy 3 qF rF, zzI cy (rF 0) 4 (cF 0), zzI cy (rF 1) 4 (cF 1), zzI cy (rF 2) 4 (cF 2), zzI cy (rF 3) 4 (cF 3), zzI cy (rF 4) 4 (cF 4), zzI cy (rF 5) 4 (cF 5), zzI cy (rF 6) 4 (cF 6), zzI cy (rF 7) 4 (cF 7), zzG cy 3 qG rG, zzI cy (rG 0) 4 (cF 0), zzI cy (rG 1) 4 (cF 1), zzI cy (rG 2) 4 fT_28, zzI cy (rG 3) 4 (cG 3), zzI cy (rG 4) 4 (cG 4), zzI cy (rG 5) 4 (cG 5), zzI cy (rG 6) 4 (cG 6), zzI cy (rG 7) 4 (cG 7)] → va_S A s.heap H locs → lv_has ls 4 [(3, .int (nI j_27)), (2, .int 2), (0, .ref qF), (1, .ref qG)] → W p l e (Rm 1 0 0) s m (List.toArray (α := Value) [.ref qF, .ref qG]) below meth c H locs 0 0 (MQ below ((Wv G (fun u => u = [zzG cy 3 qF rF, zzI cy (rF 0) 4 (cF 0), zzI cy (rF 1) 4 (cF 1), zzI cy (rF 2) 4 (cF 2), zzI cy (rF 3) 4 (cF 3), zzI cy (rF 4) 4 (cF 4), zzI cy (rF 5) 4 (cF 5), zzI cy (rF 6) 4 (cF 6), zzI cy (rF 7) 4 (cF 7), zzG cy 3 qG rG, zzI cy (rG 0) 4 (cF 0), zzI cy (rG 1) 4 (cF 1), zzI cy (rG 2) 4 (cF 2), zzI cy (rG 3) 4 (cF 3), zzI cy (rG 4) 4 (cF 4), zzI cy (rG 5) 4 (cF 5), zzI cy (rG 6) 4 (cF 6), zzI cy (rG 7) 4 (cF 7)])) A) (List.toArray (α := Value) [.ref qF, .ref qG]) s 0 0 A) (F0 m 10 ls []) := by
                intro n_25
                induction n_25 with
                | zero => intro j_27 fT_28 hm9; exact absurd hm9 (Nat.not_lt_zero _)
                | succ n_25 ih_26 =>
                  intro j_27 fT_28 hm_31 hj_29 hc_30 H locs ls hP hD hS hl
                  refine lv_iload_n hx hb (g_29 bX6_overAll rfl) rfl (lv_at hl 0 rfl) ?_
                  refine lv_aload_n hx hb (g_42 bX6_overAll rfl) rfl (lv_at hl 2 rfl) ?_
                  refine lv_iload_n hx hb (g_28 bX6_overAll rfl) rfl (lv_at hl 1 rfl) ?_
                  refine va_alda hx hb hK hP 0 3 rfl rfl (in_c rfl) (g_50 bX6_overAll rfl) ?_
                  refine lv_setv (v := .ref (rF 2)) (rfl) ?_
                  refine va_alen hx hb hK hP 3 0 rfl rfl (v := 4) rfl (g_190 bX6_overAll rfl) ?_
                  refine lv_icmp_ge (tgt := 34) hx hb dX6_overAll_15 (by decide +kernel) (fun c_32 => ?_) (fun c_32 => ?_)
                  · have hlt_33 : j_27 = 4 := Nat.le_antisymm (by omega) (lp_ge rfl (rfl : (4 : Int32) = nI 4) (by omega) (by omega) c_32)
                    rw [hlt_33] at hc_30
                    replace hP : va_P G CL [zzG cy 3 qF rF, zzI cy (rF 0) 4 (cF 0), zzI cy (rF 1) 4 (cF 1), zzI cy (rF 2) 4 (cF 2), zzI cy (rF 3) 4 (cF 3), zzI cy (rF 4) 4 (cF 4), zzI cy (rF 5) 4 (cF 5), zzI cy (rF 6) 4 (cF 6), zzI cy (rF 7) 4 (cF 7), zzG cy 3 qG rG, zzI cy (rG 0) 4 (cF 0), zzI cy (rG 1) 4 (cF 1), zzI cy (rG 2) 4 (cF 2), zzI cy (rG 3) 4 (cG 3), zzI cy (rG 4) 4 (cG 4), zzI cy (rG 5) 4 (cG 5), zzI cy (rG 6) 4 (cG 6), zzI cy (rG 7) 4 (cG 7)] H := arr_at hP (n0 := 12) rfl hc_30
                    replace hD : va_D A [zzG cy 3 qF rF, zzI cy (rF 0) 4 (cF 0), zzI cy (rF 1) 4 (cF 1), zzI cy (rF 2) 4 (cF 2), zzI cy (rF 3) 4 (cF 3), zzI cy (rF 4) 4 (cF 4), zzI cy (rF 5) 4 (cF 5), zzI cy (rF 6) 4 (cF 6), zzI cy (rF 7) 4 (cF 7), zzG cy 3 qG rG, zzI cy (rG 0) 4 (cF 0), zzI cy (rG 1) 4 (cF 1), zzI cy (rG 2) 4 (cF 2), zzI cy (rG 3) 4 (cG 3), zzI cy (rG 4) 4 (cG 4), zzI cy (rG 5) 4 (cG 5), zzI cy (rG 6) 4 (cG 6), zzI cy (rG 7) 4 (cG 7)] := arr_dt hD (n0 := 12) rfl
                    refine lv_iinc (v := 3) (lv' := [(2, .int 3), (3, .int (nI j_27)), (0, .ref qF), (1, .ref qG)]) hx hb dX6_overAll_34 hl (k := 1) rfl (by decide +kernel) (by decide +kernel) rfl (fun ls => ?_)
                    clear hl
                    intro hl
                    refine lv_goto (tgt := 2) hx hb dX6_overAll_37 (by decide +kernel) ?_
                    refine lv_iload_n hx hb (g_28 bX6_overAll rfl) rfl (lv_at hl 0 rfl) ?_
                    refine lv_aload_n hx hb (g_42 bX6_overAll rfl) rfl (lv_at hl 2 rfl) ?_
                    refine va_alen hx hb hK hP 0 3 rfl rfl (v := 8) rfl (g_190 bX6_overAll rfl) ?_
                    refine lv_icmp_ge (tgt := 40) hx hb dX6_overAll_5 (by decide +kernel) (fun h9 => absurd h9 (by decide +kernel)) (fun _ => ?_)
                    refine lv_iconst (v := 0) hx hb (g_3 bX6_overAll rfl) (by decide +kernel) ?_
                    refine lv_istore_n (lv' := [(3, .int 0), (2, .int 3), (0, .ref qF), (1, .ref qG)]) hx hb (g_62 bX6_overAll rfl) rfl hl (by decide +kernel) rfl (fun ls => ?_)
                    clear hl
                    intro hl
                    have lp_35 : ∀ (n_36 : Nat) (j_38 : Nat) (fT_39 : Nat → Int32), 4 - j_38 < n_36 → j_38 ≤ 4 → (∀ x, x < j_38 → fT_39 x = cF 3 x) → ∀ (H : Heap) (locs : List Loc) (ls : Array Slot), va_P G CL [zzG cy 3 qF rF, zzI cy (rF 0) 4 (cF 0), zzI cy (rF 1) 4 (cF 1), zzI cy (rF 2) 4 (cF 2), zzI cy (rF 3) 4 (cF 3), zzI cy (rF 4) 4 (cF 4), zzI cy (rF 5) 4 (cF 5), zzI cy (rF 6) 4 (cF 6), zzI cy (rF 7) 4 (cF 7), zzG cy 3 qG rG, zzI cy (rG 0) 4 (cF 0), zzI cy (rG 1) 4 (cF 1), zzI cy (rG 2) 4 (cF 2), zzI cy (rG 3) 4 fT_39, zzI cy (rG 4) 4 (cG 4), zzI cy (rG 5) 4 (cG 5), zzI cy (rG 6) 4 (cG 6), zzI cy (rG 7) 4 (cG 7)] H → va_D A [zzG cy 3 qF rF, zzI cy (rF 0) 4 (cF 0), zzI cy (rF 1) 4 (cF 1), zzI cy (rF 2) 4 (cF 2), zzI cy (rF 3) 4 (cF 3), zzI cy (rF 4) 4 (cF 4), zzI cy (rF 5) 4 (cF 5), zzI cy (rF 6) 4 (cF 6), zzI cy (rF 7) 4 (cF 7), zzG cy 3 qG rG, zzI cy (rG 0) 4 (cF 0), zzI cy (rG 1) 4 (cF 1), zzI cy (rG 2) 4 (cF 2), zzI cy (rG 3) 4 fT_39, zzI cy (rG 4) 4 (cG 4), zzI cy (rG 5) 4 (cG 5), zzI cy (rG 6) 4 (cG 6), zzI cy (rG 7) 4 (cG 7)] → va_S A s.heap H locs → lv_has ls 4 [(3, .int (nI j_38)), (2, .int 3), (0, .ref qF), (1, .ref qG)] → W p l e (Rm 1 0 0) s m (List.toArray (α := Value) [.ref qF, .ref qG]) below meth c H locs 0 0 (MQ below ((Wv G (fun u => u = [zzG cy 3 qF rF, zzI cy (rF 0) 4 (cF 0), zzI cy (rF 1) 4 (cF 1), zzI cy (rF 2) 4 (cF 2), zzI cy (rF 3) 4 (cF 3), zzI cy (rF 4) 4 (cF 4), zzI cy (rF 5) 4 (cF 5), zzI cy (rF 6) 4 (cF 6), zzI cy (rF 7) 4 (cF 7), zzG cy 3 qG rG, zzI cy (rG 0) 4 (cF 0), zzI cy (rG 1) 4 (cF 1), zzI cy (rG 2) 4 (cF 2), zzI cy (rG 3) 4 (cF 3), zzI cy (rG 4) 4 (cF 4), zzI cy (rG 5) 4 (cF 5), zzI cy (rG 6) 4 (cF 6), zzI cy (rG 7) 4 (cF 7)])) A) (List.toArray (α := Value) [.ref qF, .ref qG]) s 0 0 A) (F0 m 10 ls []) := by
                      intro n_36
                      induction n_36 with
                      | zero => intro j_38 fT_39 hm9; exact absurd hm9 (Nat.not_lt_zero _)
                      | succ n_36 ih_37 =>
                        intro j_38 fT_39 hm_42 hj_40 hc_41 H locs ls hP hD hS hl
                        refine lv_iload_n hx hb (g_29 bX6_overAll rfl) rfl (lv_at hl 0 rfl) ?_
                        refine lv_aload_n hx hb (g_42 bX6_overAll rfl) rfl (lv_at hl 2 rfl) ?_
                        refine lv_iload_n hx hb (g_28 bX6_overAll rfl) rfl (lv_at hl 1 rfl) ?_
                        refine va_alda hx hb hK hP 0 3 rfl rfl (in_c rfl) (g_50 bX6_overAll rfl) ?_
                        refine lv_setv (v := .ref (rF 3)) (rfl) ?_
                        refine va_alen hx hb hK hP 4 0 rfl rfl (v := 4) rfl (g_190 bX6_overAll rfl) ?_
                        refine lv_icmp_ge (tgt := 34) hx hb dX6_overAll_15 (by decide +kernel) (fun c_43 => ?_) (fun c_43 => ?_)
                        · have hlt_44 : j_38 = 4 := Nat.le_antisymm (by omega) (lp_ge rfl (rfl : (4 : Int32) = nI 4) (by omega) (by omega) c_43)
                          rw [hlt_44] at hc_41
                          replace hP : va_P G CL [zzG cy 3 qF rF, zzI cy (rF 0) 4 (cF 0), zzI cy (rF 1) 4 (cF 1), zzI cy (rF 2) 4 (cF 2), zzI cy (rF 3) 4 (cF 3), zzI cy (rF 4) 4 (cF 4), zzI cy (rF 5) 4 (cF 5), zzI cy (rF 6) 4 (cF 6), zzI cy (rF 7) 4 (cF 7), zzG cy 3 qG rG, zzI cy (rG 0) 4 (cF 0), zzI cy (rG 1) 4 (cF 1), zzI cy (rG 2) 4 (cF 2), zzI cy (rG 3) 4 (cF 3), zzI cy (rG 4) 4 (cG 4), zzI cy (rG 5) 4 (cG 5), zzI cy (rG 6) 4 (cG 6), zzI cy (rG 7) 4 (cG 7)] H := arr_at hP (n0 := 13) rfl hc_41
                          replace hD : va_D A [zzG cy 3 qF rF, zzI cy (rF 0) 4 (cF 0), zzI cy (rF 1) 4 (cF 1), zzI cy (rF 2) 4 (cF 2), zzI cy (rF 3) 4 (cF 3), zzI cy (rF 4) 4 (cF 4), zzI cy (rF 5) 4 (cF 5), zzI cy (rF 6) 4 (cF 6), zzI cy (rF 7) 4 (cF 7), zzG cy 3 qG rG, zzI cy (rG 0) 4 (cF 0), zzI cy (rG 1) 4 (cF 1), zzI cy (rG 2) 4 (cF 2), zzI cy (rG 3) 4 (cF 3), zzI cy (rG 4) 4 (cG 4), zzI cy (rG 5) 4 (cG 5), zzI cy (rG 6) 4 (cG 6), zzI cy (rG 7) 4 (cG 7)] := arr_dt hD (n0 := 13) rfl
                          refine lv_iinc (v := 4) (lv' := [(2, .int 4), (3, .int (nI j_38)), (0, .ref qF), (1, .ref qG)]) hx hb dX6_overAll_34 hl (k := 1) rfl (by decide +kernel) (by decide +kernel) rfl (fun ls => ?_)
                          clear hl
                          intro hl
                          refine lv_goto (tgt := 2) hx hb dX6_overAll_37 (by decide +kernel) ?_
                          refine lv_iload_n hx hb (g_28 bX6_overAll rfl) rfl (lv_at hl 0 rfl) ?_
                          refine lv_aload_n hx hb (g_42 bX6_overAll rfl) rfl (lv_at hl 2 rfl) ?_
                          refine va_alen hx hb hK hP 0 3 rfl rfl (v := 8) rfl (g_190 bX6_overAll rfl) ?_
                          refine lv_icmp_ge (tgt := 40) hx hb dX6_overAll_5 (by decide +kernel) (fun h9 => absurd h9 (by decide +kernel)) (fun _ => ?_)
                          refine lv_iconst (v := 0) hx hb (g_3 bX6_overAll rfl) (by decide +kernel) ?_
                          refine lv_istore_n (lv' := [(3, .int 0), (2, .int 4), (0, .ref qF), (1, .ref qG)]) hx hb (g_62 bX6_overAll rfl) rfl hl (by decide +kernel) rfl (fun ls => ?_)
                          clear hl
                          intro hl
                          have lp_46 : ∀ (n_47 : Nat) (j_49 : Nat) (fT_50 : Nat → Int32), 4 - j_49 < n_47 → j_49 ≤ 4 → (∀ x, x < j_49 → fT_50 x = cF 4 x) → ∀ (H : Heap) (locs : List Loc) (ls : Array Slot), va_P G CL [zzG cy 3 qF rF, zzI cy (rF 0) 4 (cF 0), zzI cy (rF 1) 4 (cF 1), zzI cy (rF 2) 4 (cF 2), zzI cy (rF 3) 4 (cF 3), zzI cy (rF 4) 4 (cF 4), zzI cy (rF 5) 4 (cF 5), zzI cy (rF 6) 4 (cF 6), zzI cy (rF 7) 4 (cF 7), zzG cy 3 qG rG, zzI cy (rG 0) 4 (cF 0), zzI cy (rG 1) 4 (cF 1), zzI cy (rG 2) 4 (cF 2), zzI cy (rG 3) 4 (cF 3), zzI cy (rG 4) 4 fT_50, zzI cy (rG 5) 4 (cG 5), zzI cy (rG 6) 4 (cG 6), zzI cy (rG 7) 4 (cG 7)] H → va_D A [zzG cy 3 qF rF, zzI cy (rF 0) 4 (cF 0), zzI cy (rF 1) 4 (cF 1), zzI cy (rF 2) 4 (cF 2), zzI cy (rF 3) 4 (cF 3), zzI cy (rF 4) 4 (cF 4), zzI cy (rF 5) 4 (cF 5), zzI cy (rF 6) 4 (cF 6), zzI cy (rF 7) 4 (cF 7), zzG cy 3 qG rG, zzI cy (rG 0) 4 (cF 0), zzI cy (rG 1) 4 (cF 1), zzI cy (rG 2) 4 (cF 2), zzI cy (rG 3) 4 (cF 3), zzI cy (rG 4) 4 fT_50, zzI cy (rG 5) 4 (cG 5), zzI cy (rG 6) 4 (cG 6), zzI cy (rG 7) 4 (cG 7)] → va_S A s.heap H locs → lv_has ls 4 [(3, .int (nI j_49)), (2, .int 4), (0, .ref qF), (1, .ref qG)] → W p l e (Rm 1 0 0) s m (List.toArray (α := Value) [.ref qF, .ref qG]) below meth c H locs 0 0 (MQ below ((Wv G (fun u => u = [zzG cy 3 qF rF, zzI cy (rF 0) 4 (cF 0), zzI cy (rF 1) 4 (cF 1), zzI cy (rF 2) 4 (cF 2), zzI cy (rF 3) 4 (cF 3), zzI cy (rF 4) 4 (cF 4), zzI cy (rF 5) 4 (cF 5), zzI cy (rF 6) 4 (cF 6), zzI cy (rF 7) 4 (cF 7), zzG cy 3 qG rG, zzI cy (rG 0) 4 (cF 0), zzI cy (rG 1) 4 (cF 1), zzI cy (rG 2) 4 (cF 2), zzI cy (rG 3) 4 (cF 3), zzI cy (rG 4) 4 (cF 4), zzI cy (rG 5) 4 (cF 5), zzI cy (rG 6) 4 (cF 6), zzI cy (rG 7) 4 (cF 7)])) A) (List.toArray (α := Value) [.ref qF, .ref qG]) s 0 0 A) (F0 m 10 ls []) := by
                            intro n_47
                            induction n_47 with
                            | zero => intro j_49 fT_50 hm9; exact absurd hm9 (Nat.not_lt_zero _)
                            | succ n_47 ih_48 =>
                              intro j_49 fT_50 hm_53 hj_51 hc_52 H locs ls hP hD hS hl
                              refine lv_iload_n hx hb (g_29 bX6_overAll rfl) rfl (lv_at hl 0 rfl) ?_
                              refine lv_aload_n hx hb (g_42 bX6_overAll rfl) rfl (lv_at hl 2 rfl) ?_
                              refine lv_iload_n hx hb (g_28 bX6_overAll rfl) rfl (lv_at hl 1 rfl) ?_
                              refine va_alda hx hb hK hP 0 3 rfl rfl (in_c rfl) (g_50 bX6_overAll rfl) ?_
                              refine lv_setv (v := .ref (rF 4)) (rfl) ?_
                              refine va_alen hx hb hK hP 5 0 rfl rfl (v := 4) rfl (g_190 bX6_overAll rfl) ?_
                              refine lv_icmp_ge (tgt := 34) hx hb dX6_overAll_15 (by decide +kernel) (fun c_54 => ?_) (fun c_54 => ?_)
                              · have hlt_55 : j_49 = 4 := Nat.le_antisymm (by omega) (lp_ge rfl (rfl : (4 : Int32) = nI 4) (by omega) (by omega) c_54)
                                rw [hlt_55] at hc_52
                                replace hP : va_P G CL [zzG cy 3 qF rF, zzI cy (rF 0) 4 (cF 0), zzI cy (rF 1) 4 (cF 1), zzI cy (rF 2) 4 (cF 2), zzI cy (rF 3) 4 (cF 3), zzI cy (rF 4) 4 (cF 4), zzI cy (rF 5) 4 (cF 5), zzI cy (rF 6) 4 (cF 6), zzI cy (rF 7) 4 (cF 7), zzG cy 3 qG rG, zzI cy (rG 0) 4 (cF 0), zzI cy (rG 1) 4 (cF 1), zzI cy (rG 2) 4 (cF 2), zzI cy (rG 3) 4 (cF 3), zzI cy (rG 4) 4 (cF 4), zzI cy (rG 5) 4 (cG 5), zzI cy (rG 6) 4 (cG 6), zzI cy (rG 7) 4 (cG 7)] H := arr_at hP (n0 := 14) rfl hc_52
                                replace hD : va_D A [zzG cy 3 qF rF, zzI cy (rF 0) 4 (cF 0), zzI cy (rF 1) 4 (cF 1), zzI cy (rF 2) 4 (cF 2), zzI cy (rF 3) 4 (cF 3), zzI cy (rF 4) 4 (cF 4), zzI cy (rF 5) 4 (cF 5), zzI cy (rF 6) 4 (cF 6), zzI cy (rF 7) 4 (cF 7), zzG cy 3 qG rG, zzI cy (rG 0) 4 (cF 0), zzI cy (rG 1) 4 (cF 1), zzI cy (rG 2) 4 (cF 2), zzI cy (rG 3) 4 (cF 3), zzI cy (rG 4) 4 (cF 4), zzI cy (rG 5) 4 (cG 5), zzI cy (rG 6) 4 (cG 6), zzI cy (rG 7) 4 (cG 7)] := arr_dt hD (n0 := 14) rfl
                                refine lv_iinc (v := 5) (lv' := [(2, .int 5), (3, .int (nI j_49)), (0, .ref qF), (1, .ref qG)]) hx hb dX6_overAll_34 hl (k := 1) rfl (by decide +kernel) (by decide +kernel) rfl (fun ls => ?_)
                                clear hl
                                intro hl
                                refine lv_goto (tgt := 2) hx hb dX6_overAll_37 (by decide +kernel) ?_
                                refine lv_iload_n hx hb (g_28 bX6_overAll rfl) rfl (lv_at hl 0 rfl) ?_
                                refine lv_aload_n hx hb (g_42 bX6_overAll rfl) rfl (lv_at hl 2 rfl) ?_
                                refine va_alen hx hb hK hP 0 3 rfl rfl (v := 8) rfl (g_190 bX6_overAll rfl) ?_
                                refine lv_icmp_ge (tgt := 40) hx hb dX6_overAll_5 (by decide +kernel) (fun h9 => absurd h9 (by decide +kernel)) (fun _ => ?_)
                                refine lv_iconst (v := 0) hx hb (g_3 bX6_overAll rfl) (by decide +kernel) ?_
                                refine lv_istore_n (lv' := [(3, .int 0), (2, .int 5), (0, .ref qF), (1, .ref qG)]) hx hb (g_62 bX6_overAll rfl) rfl hl (by decide +kernel) rfl (fun ls => ?_)
                                clear hl
                                intro hl
                                have lp_57 : ∀ (n_58 : Nat) (j_60 : Nat) (fT_61 : Nat → Int32), 4 - j_60 < n_58 → j_60 ≤ 4 → (∀ x, x < j_60 → fT_61 x = cF 5 x) → ∀ (H : Heap) (locs : List Loc) (ls : Array Slot), va_P G CL [zzG cy 3 qF rF, zzI cy (rF 0) 4 (cF 0), zzI cy (rF 1) 4 (cF 1), zzI cy (rF 2) 4 (cF 2), zzI cy (rF 3) 4 (cF 3), zzI cy (rF 4) 4 (cF 4), zzI cy (rF 5) 4 (cF 5), zzI cy (rF 6) 4 (cF 6), zzI cy (rF 7) 4 (cF 7), zzG cy 3 qG rG, zzI cy (rG 0) 4 (cF 0), zzI cy (rG 1) 4 (cF 1), zzI cy (rG 2) 4 (cF 2), zzI cy (rG 3) 4 (cF 3), zzI cy (rG 4) 4 (cF 4), zzI cy (rG 5) 4 fT_61, zzI cy (rG 6) 4 (cG 6), zzI cy (rG 7) 4 (cG 7)] H → va_D A [zzG cy 3 qF rF, zzI cy (rF 0) 4 (cF 0), zzI cy (rF 1) 4 (cF 1), zzI cy (rF 2) 4 (cF 2), zzI cy (rF 3) 4 (cF 3), zzI cy (rF 4) 4 (cF 4), zzI cy (rF 5) 4 (cF 5), zzI cy (rF 6) 4 (cF 6), zzI cy (rF 7) 4 (cF 7), zzG cy 3 qG rG, zzI cy (rG 0) 4 (cF 0), zzI cy (rG 1) 4 (cF 1), zzI cy (rG 2) 4 (cF 2), zzI cy (rG 3) 4 (cF 3), zzI cy (rG 4) 4 (cF 4), zzI cy (rG 5) 4 fT_61, zzI cy (rG 6) 4 (cG 6), zzI cy (rG 7) 4 (cG 7)] → va_S A s.heap H locs → lv_has ls 4 [(3, .int (nI j_60)), (2, .int 5), (0, .ref qF), (1, .ref qG)] → W p l e (Rm 1 0 0) s m (List.toArray (α := Value) [.ref qF, .ref qG]) below meth c H locs 0 0 (MQ below ((Wv G (fun u => u = [zzG cy 3 qF rF, zzI cy (rF 0) 4 (cF 0), zzI cy (rF 1) 4 (cF 1), zzI cy (rF 2) 4 (cF 2), zzI cy (rF 3) 4 (cF 3), zzI cy (rF 4) 4 (cF 4), zzI cy (rF 5) 4 (cF 5), zzI cy (rF 6) 4 (cF 6), zzI cy (rF 7) 4 (cF 7), zzG cy 3 qG rG, zzI cy (rG 0) 4 (cF 0), zzI cy (rG 1) 4 (cF 1), zzI cy (rG 2) 4 (cF 2), zzI cy (rG 3) 4 (cF 3), zzI cy (rG 4) 4 (cF 4), zzI cy (rG 5) 4 (cF 5), zzI cy (rG 6) 4 (cF 6), zzI cy (rG 7) 4 (cF 7)])) A) (List.toArray (α := Value) [.ref qF, .ref qG]) s 0 0 A) (F0 m 10 ls []) := by
                                  intro n_58
                                  induction n_58 with
                                  | zero => intro j_60 fT_61 hm9; exact absurd hm9 (Nat.not_lt_zero _)
                                  | succ n_58 ih_59 =>
                                    intro j_60 fT_61 hm_64 hj_62 hc_63 H locs ls hP hD hS hl
                                    refine lv_iload_n hx hb (g_29 bX6_overAll rfl) rfl (lv_at hl 0 rfl) ?_
                                    refine lv_aload_n hx hb (g_42 bX6_overAll rfl) rfl (lv_at hl 2 rfl) ?_
                                    refine lv_iload_n hx hb (g_28 bX6_overAll rfl) rfl (lv_at hl 1 rfl) ?_
                                    refine va_alda hx hb hK hP 0 3 rfl rfl (in_c rfl) (g_50 bX6_overAll rfl) ?_
                                    refine lv_setv (v := .ref (rF 5)) (rfl) ?_
                                    refine va_alen hx hb hK hP 6 0 rfl rfl (v := 4) rfl (g_190 bX6_overAll rfl) ?_
                                    refine lv_icmp_ge (tgt := 34) hx hb dX6_overAll_15 (by decide +kernel) (fun c_65 => ?_) (fun c_65 => ?_)
                                    · have hlt_66 : j_60 = 4 := Nat.le_antisymm (by omega) (lp_ge rfl (rfl : (4 : Int32) = nI 4) (by omega) (by omega) c_65)
                                      rw [hlt_66] at hc_63
                                      replace hP : va_P G CL [zzG cy 3 qF rF, zzI cy (rF 0) 4 (cF 0), zzI cy (rF 1) 4 (cF 1), zzI cy (rF 2) 4 (cF 2), zzI cy (rF 3) 4 (cF 3), zzI cy (rF 4) 4 (cF 4), zzI cy (rF 5) 4 (cF 5), zzI cy (rF 6) 4 (cF 6), zzI cy (rF 7) 4 (cF 7), zzG cy 3 qG rG, zzI cy (rG 0) 4 (cF 0), zzI cy (rG 1) 4 (cF 1), zzI cy (rG 2) 4 (cF 2), zzI cy (rG 3) 4 (cF 3), zzI cy (rG 4) 4 (cF 4), zzI cy (rG 5) 4 (cF 5), zzI cy (rG 6) 4 (cG 6), zzI cy (rG 7) 4 (cG 7)] H := arr_at hP (n0 := 15) rfl hc_63
                                      replace hD : va_D A [zzG cy 3 qF rF, zzI cy (rF 0) 4 (cF 0), zzI cy (rF 1) 4 (cF 1), zzI cy (rF 2) 4 (cF 2), zzI cy (rF 3) 4 (cF 3), zzI cy (rF 4) 4 (cF 4), zzI cy (rF 5) 4 (cF 5), zzI cy (rF 6) 4 (cF 6), zzI cy (rF 7) 4 (cF 7), zzG cy 3 qG rG, zzI cy (rG 0) 4 (cF 0), zzI cy (rG 1) 4 (cF 1), zzI cy (rG 2) 4 (cF 2), zzI cy (rG 3) 4 (cF 3), zzI cy (rG 4) 4 (cF 4), zzI cy (rG 5) 4 (cF 5), zzI cy (rG 6) 4 (cG 6), zzI cy (rG 7) 4 (cG 7)] := arr_dt hD (n0 := 15) rfl
                                      refine lv_iinc (v := 6) (lv' := [(2, .int 6), (3, .int (nI j_60)), (0, .ref qF), (1, .ref qG)]) hx hb dX6_overAll_34 hl (k := 1) rfl (by decide +kernel) (by decide +kernel) rfl (fun ls => ?_)
                                      clear hl
                                      intro hl
                                      refine lv_goto (tgt := 2) hx hb dX6_overAll_37 (by decide +kernel) ?_
                                      refine lv_iload_n hx hb (g_28 bX6_overAll rfl) rfl (lv_at hl 0 rfl) ?_
                                      refine lv_aload_n hx hb (g_42 bX6_overAll rfl) rfl (lv_at hl 2 rfl) ?_
                                      refine va_alen hx hb hK hP 0 3 rfl rfl (v := 8) rfl (g_190 bX6_overAll rfl) ?_
                                      refine lv_icmp_ge (tgt := 40) hx hb dX6_overAll_5 (by decide +kernel) (fun h9 => absurd h9 (by decide +kernel)) (fun _ => ?_)
                                      refine lv_iconst (v := 0) hx hb (g_3 bX6_overAll rfl) (by decide +kernel) ?_
                                      refine lv_istore_n (lv' := [(3, .int 0), (2, .int 6), (0, .ref qF), (1, .ref qG)]) hx hb (g_62 bX6_overAll rfl) rfl hl (by decide +kernel) rfl (fun ls => ?_)
                                      clear hl
                                      intro hl
                                      have lp_68 : ∀ (n_69 : Nat) (j_71 : Nat) (fT_72 : Nat → Int32), 4 - j_71 < n_69 → j_71 ≤ 4 → (∀ x, x < j_71 → fT_72 x = cF 6 x) → ∀ (H : Heap) (locs : List Loc) (ls : Array Slot), va_P G CL [zzG cy 3 qF rF, zzI cy (rF 0) 4 (cF 0), zzI cy (rF 1) 4 (cF 1), zzI cy (rF 2) 4 (cF 2), zzI cy (rF 3) 4 (cF 3), zzI cy (rF 4) 4 (cF 4), zzI cy (rF 5) 4 (cF 5), zzI cy (rF 6) 4 (cF 6), zzI cy (rF 7) 4 (cF 7), zzG cy 3 qG rG, zzI cy (rG 0) 4 (cF 0), zzI cy (rG 1) 4 (cF 1), zzI cy (rG 2) 4 (cF 2), zzI cy (rG 3) 4 (cF 3), zzI cy (rG 4) 4 (cF 4), zzI cy (rG 5) 4 (cF 5), zzI cy (rG 6) 4 fT_72, zzI cy (rG 7) 4 (cG 7)] H → va_D A [zzG cy 3 qF rF, zzI cy (rF 0) 4 (cF 0), zzI cy (rF 1) 4 (cF 1), zzI cy (rF 2) 4 (cF 2), zzI cy (rF 3) 4 (cF 3), zzI cy (rF 4) 4 (cF 4), zzI cy (rF 5) 4 (cF 5), zzI cy (rF 6) 4 (cF 6), zzI cy (rF 7) 4 (cF 7), zzG cy 3 qG rG, zzI cy (rG 0) 4 (cF 0), zzI cy (rG 1) 4 (cF 1), zzI cy (rG 2) 4 (cF 2), zzI cy (rG 3) 4 (cF 3), zzI cy (rG 4) 4 (cF 4), zzI cy (rG 5) 4 (cF 5), zzI cy (rG 6) 4 fT_72, zzI cy (rG 7) 4 (cG 7)] → va_S A s.heap H locs → lv_has ls 4 [(3, .int (nI j_71)), (2, .int 6), (0, .ref qF), (1, .ref qG)] → W p l e (Rm 1 0 0) s m (List.toArray (α := Value) [.ref qF, .ref qG]) below meth c H locs 0 0 (MQ below ((Wv G (fun u => u = [zzG cy 3 qF rF, zzI cy (rF 0) 4 (cF 0), zzI cy (rF 1) 4 (cF 1), zzI cy (rF 2) 4 (cF 2), zzI cy (rF 3) 4 (cF 3), zzI cy (rF 4) 4 (cF 4), zzI cy (rF 5) 4 (cF 5), zzI cy (rF 6) 4 (cF 6), zzI cy (rF 7) 4 (cF 7), zzG cy 3 qG rG, zzI cy (rG 0) 4 (cF 0), zzI cy (rG 1) 4 (cF 1), zzI cy (rG 2) 4 (cF 2), zzI cy (rG 3) 4 (cF 3), zzI cy (rG 4) 4 (cF 4), zzI cy (rG 5) 4 (cF 5), zzI cy (rG 6) 4 (cF 6), zzI cy (rG 7) 4 (cF 7)])) A) (List.toArray (α := Value) [.ref qF, .ref qG]) s 0 0 A) (F0 m 10 ls []) := by
                                        intro n_69
                                        induction n_69 with
                                        | zero => intro j_71 fT_72 hm9; exact absurd hm9 (Nat.not_lt_zero _)
                                        | succ n_69 ih_70 =>
                                          intro j_71 fT_72 hm_75 hj_73 hc_74 H locs ls hP hD hS hl
                                          refine lv_iload_n hx hb (g_29 bX6_overAll rfl) rfl (lv_at hl 0 rfl) ?_
                                          refine lv_aload_n hx hb (g_42 bX6_overAll rfl) rfl (lv_at hl 2 rfl) ?_
                                          refine lv_iload_n hx hb (g_28 bX6_overAll rfl) rfl (lv_at hl 1 rfl) ?_
                                          refine va_alda hx hb hK hP 0 3 rfl rfl (in_c rfl) (g_50 bX6_overAll rfl) ?_
                                          refine lv_setv (v := .ref (rF 6)) (rfl) ?_
                                          refine va_alen hx hb hK hP 7 0 rfl rfl (v := 4) rfl (g_190 bX6_overAll rfl) ?_
                                          refine lv_icmp_ge (tgt := 34) hx hb dX6_overAll_15 (by decide +kernel) (fun c_76 => ?_) (fun c_76 => ?_)
                                          · have hlt_77 : j_71 = 4 := Nat.le_antisymm (by omega) (lp_ge rfl (rfl : (4 : Int32) = nI 4) (by omega) (by omega) c_76)
                                            rw [hlt_77] at hc_74
                                            replace hP : va_P G CL [zzG cy 3 qF rF, zzI cy (rF 0) 4 (cF 0), zzI cy (rF 1) 4 (cF 1), zzI cy (rF 2) 4 (cF 2), zzI cy (rF 3) 4 (cF 3), zzI cy (rF 4) 4 (cF 4), zzI cy (rF 5) 4 (cF 5), zzI cy (rF 6) 4 (cF 6), zzI cy (rF 7) 4 (cF 7), zzG cy 3 qG rG, zzI cy (rG 0) 4 (cF 0), zzI cy (rG 1) 4 (cF 1), zzI cy (rG 2) 4 (cF 2), zzI cy (rG 3) 4 (cF 3), zzI cy (rG 4) 4 (cF 4), zzI cy (rG 5) 4 (cF 5), zzI cy (rG 6) 4 (cF 6), zzI cy (rG 7) 4 (cG 7)] H := arr_at hP (n0 := 16) rfl hc_74
                                            replace hD : va_D A [zzG cy 3 qF rF, zzI cy (rF 0) 4 (cF 0), zzI cy (rF 1) 4 (cF 1), zzI cy (rF 2) 4 (cF 2), zzI cy (rF 3) 4 (cF 3), zzI cy (rF 4) 4 (cF 4), zzI cy (rF 5) 4 (cF 5), zzI cy (rF 6) 4 (cF 6), zzI cy (rF 7) 4 (cF 7), zzG cy 3 qG rG, zzI cy (rG 0) 4 (cF 0), zzI cy (rG 1) 4 (cF 1), zzI cy (rG 2) 4 (cF 2), zzI cy (rG 3) 4 (cF 3), zzI cy (rG 4) 4 (cF 4), zzI cy (rG 5) 4 (cF 5), zzI cy (rG 6) 4 (cF 6), zzI cy (rG 7) 4 (cG 7)] := arr_dt hD (n0 := 16) rfl
                                            refine lv_iinc (v := 7) (lv' := [(2, .int 7), (3, .int (nI j_71)), (0, .ref qF), (1, .ref qG)]) hx hb dX6_overAll_34 hl (k := 1) rfl (by decide +kernel) (by decide +kernel) rfl (fun ls => ?_)
                                            clear hl
                                            intro hl
                                            refine lv_goto (tgt := 2) hx hb dX6_overAll_37 (by decide +kernel) ?_
                                            refine lv_iload_n hx hb (g_28 bX6_overAll rfl) rfl (lv_at hl 0 rfl) ?_
                                            refine lv_aload_n hx hb (g_42 bX6_overAll rfl) rfl (lv_at hl 2 rfl) ?_
                                            refine va_alen hx hb hK hP 0 3 rfl rfl (v := 8) rfl (g_190 bX6_overAll rfl) ?_
                                            refine lv_icmp_ge (tgt := 40) hx hb dX6_overAll_5 (by decide +kernel) (fun h9 => absurd h9 (by decide +kernel)) (fun _ => ?_)
                                            refine lv_iconst (v := 0) hx hb (g_3 bX6_overAll rfl) (by decide +kernel) ?_
                                            refine lv_istore_n (lv' := [(3, .int 0), (2, .int 7), (0, .ref qF), (1, .ref qG)]) hx hb (g_62 bX6_overAll rfl) rfl hl (by decide +kernel) rfl (fun ls => ?_)
                                            clear hl
                                            intro hl
                                            have lp_79 : ∀ (n_80 : Nat) (j_82 : Nat) (fT_83 : Nat → Int32), 4 - j_82 < n_80 → j_82 ≤ 4 → (∀ x, x < j_82 → fT_83 x = cF 7 x) → ∀ (H : Heap) (locs : List Loc) (ls : Array Slot), va_P G CL [zzG cy 3 qF rF, zzI cy (rF 0) 4 (cF 0), zzI cy (rF 1) 4 (cF 1), zzI cy (rF 2) 4 (cF 2), zzI cy (rF 3) 4 (cF 3), zzI cy (rF 4) 4 (cF 4), zzI cy (rF 5) 4 (cF 5), zzI cy (rF 6) 4 (cF 6), zzI cy (rF 7) 4 (cF 7), zzG cy 3 qG rG, zzI cy (rG 0) 4 (cF 0), zzI cy (rG 1) 4 (cF 1), zzI cy (rG 2) 4 (cF 2), zzI cy (rG 3) 4 (cF 3), zzI cy (rG 4) 4 (cF 4), zzI cy (rG 5) 4 (cF 5), zzI cy (rG 6) 4 (cF 6), zzI cy (rG 7) 4 fT_83] H → va_D A [zzG cy 3 qF rF, zzI cy (rF 0) 4 (cF 0), zzI cy (rF 1) 4 (cF 1), zzI cy (rF 2) 4 (cF 2), zzI cy (rF 3) 4 (cF 3), zzI cy (rF 4) 4 (cF 4), zzI cy (rF 5) 4 (cF 5), zzI cy (rF 6) 4 (cF 6), zzI cy (rF 7) 4 (cF 7), zzG cy 3 qG rG, zzI cy (rG 0) 4 (cF 0), zzI cy (rG 1) 4 (cF 1), zzI cy (rG 2) 4 (cF 2), zzI cy (rG 3) 4 (cF 3), zzI cy (rG 4) 4 (cF 4), zzI cy (rG 5) 4 (cF 5), zzI cy (rG 6) 4 (cF 6), zzI cy (rG 7) 4 fT_83] → va_S A s.heap H locs → lv_has ls 4 [(3, .int (nI j_82)), (2, .int 7), (0, .ref qF), (1, .ref qG)] → W p l e (Rm 1 0 0) s m (List.toArray (α := Value) [.ref qF, .ref qG]) below meth c H locs 0 0 (MQ below ((Wv G (fun u => u = [zzG cy 3 qF rF, zzI cy (rF 0) 4 (cF 0), zzI cy (rF 1) 4 (cF 1), zzI cy (rF 2) 4 (cF 2), zzI cy (rF 3) 4 (cF 3), zzI cy (rF 4) 4 (cF 4), zzI cy (rF 5) 4 (cF 5), zzI cy (rF 6) 4 (cF 6), zzI cy (rF 7) 4 (cF 7), zzG cy 3 qG rG, zzI cy (rG 0) 4 (cF 0), zzI cy (rG 1) 4 (cF 1), zzI cy (rG 2) 4 (cF 2), zzI cy (rG 3) 4 (cF 3), zzI cy (rG 4) 4 (cF 4), zzI cy (rG 5) 4 (cF 5), zzI cy (rG 6) 4 (cF 6), zzI cy (rG 7) 4 (cF 7)])) A) (List.toArray (α := Value) [.ref qF, .ref qG]) s 0 0 A) (F0 m 10 ls []) := by
                                              intro n_80
                                              induction n_80 with
                                              | zero => intro j_82 fT_83 hm9; exact absurd hm9 (Nat.not_lt_zero _)
                                              | succ n_80 ih_81 =>
                                                intro j_82 fT_83 hm_86 hj_84 hc_85 H locs ls hP hD hS hl
                                                refine lv_iload_n hx hb (g_29 bX6_overAll rfl) rfl (lv_at hl 0 rfl) ?_
                                                refine lv_aload_n hx hb (g_42 bX6_overAll rfl) rfl (lv_at hl 2 rfl) ?_
                                                refine lv_iload_n hx hb (g_28 bX6_overAll rfl) rfl (lv_at hl 1 rfl) ?_
                                                refine va_alda hx hb hK hP 0 3 rfl rfl (in_c rfl) (g_50 bX6_overAll rfl) ?_
                                                refine lv_setv (v := .ref (rF 7)) (rfl) ?_
                                                refine va_alen hx hb hK hP 8 0 rfl rfl (v := 4) rfl (g_190 bX6_overAll rfl) ?_
                                                refine lv_icmp_ge (tgt := 34) hx hb dX6_overAll_15 (by decide +kernel) (fun c_87 => ?_) (fun c_87 => ?_)
                                                · have hlt_88 : j_82 = 4 := Nat.le_antisymm (by omega) (lp_ge rfl (rfl : (4 : Int32) = nI 4) (by omega) (by omega) c_87)
                                                  rw [hlt_88] at hc_85
                                                  replace hP : va_P G CL [zzG cy 3 qF rF, zzI cy (rF 0) 4 (cF 0), zzI cy (rF 1) 4 (cF 1), zzI cy (rF 2) 4 (cF 2), zzI cy (rF 3) 4 (cF 3), zzI cy (rF 4) 4 (cF 4), zzI cy (rF 5) 4 (cF 5), zzI cy (rF 6) 4 (cF 6), zzI cy (rF 7) 4 (cF 7), zzG cy 3 qG rG, zzI cy (rG 0) 4 (cF 0), zzI cy (rG 1) 4 (cF 1), zzI cy (rG 2) 4 (cF 2), zzI cy (rG 3) 4 (cF 3), zzI cy (rG 4) 4 (cF 4), zzI cy (rG 5) 4 (cF 5), zzI cy (rG 6) 4 (cF 6), zzI cy (rG 7) 4 (cF 7)] H := arr_at hP (n0 := 17) rfl hc_85
                                                  replace hD : va_D A [zzG cy 3 qF rF, zzI cy (rF 0) 4 (cF 0), zzI cy (rF 1) 4 (cF 1), zzI cy (rF 2) 4 (cF 2), zzI cy (rF 3) 4 (cF 3), zzI cy (rF 4) 4 (cF 4), zzI cy (rF 5) 4 (cF 5), zzI cy (rF 6) 4 (cF 6), zzI cy (rF 7) 4 (cF 7), zzG cy 3 qG rG, zzI cy (rG 0) 4 (cF 0), zzI cy (rG 1) 4 (cF 1), zzI cy (rG 2) 4 (cF 2), zzI cy (rG 3) 4 (cF 3), zzI cy (rG 4) 4 (cF 4), zzI cy (rG 5) 4 (cF 5), zzI cy (rG 6) 4 (cF 6), zzI cy (rG 7) 4 (cF 7)] := arr_dt hD (n0 := 17) rfl
                                                  refine lv_iinc (v := 8) (lv' := [(2, .int 8), (3, .int (nI j_82)), (0, .ref qF), (1, .ref qG)]) hx hb dX6_overAll_34 hl (k := 1) rfl (by decide +kernel) (by decide +kernel) rfl (fun ls => ?_)
                                                  clear hl
                                                  intro hl
                                                  refine lv_goto (tgt := 2) hx hb dX6_overAll_37 (by decide +kernel) ?_
                                                  refine lv_iload_n hx hb (g_28 bX6_overAll rfl) rfl (lv_at hl 0 rfl) ?_
                                                  refine lv_aload_n hx hb (g_42 bX6_overAll rfl) rfl (lv_at hl 2 rfl) ?_
                                                  refine va_alen hx hb hK hP 0 3 rfl rfl (v := 8) rfl (g_190 bX6_overAll rfl) ?_
                                                  refine lv_icmp_ge (tgt := 40) hx hb dX6_overAll_5 (by decide +kernel) (fun _ => ?_) (fun h9 => absurd (by decide +kernel) h9)
                                                  exact endVs [[true, true, true, true, true, true, true, true, true, true, true, true, true, true, true, true, true, true]] hx hb hr hlocks hP hD rfl (by decide +kernel) hS rfl (g_177 bX6_overAll rfl)
                                                · have hlt_90 : j_82 < 4 := lp_lt rfl (rfl : (4 : Int32) = nI 4) (by omega) (by omega) c_87
                                                  refine lv_aload_n hx hb (g_43 bX6_overAll rfl) rfl (lv_at hl 3 rfl) ?_
                                                  refine lv_iload_n hx hb (g_28 bX6_overAll rfl) rfl (lv_at hl 1 rfl) ?_
                                                  refine va_alda hx hb hK hP 9 3 rfl rfl (in_c rfl) (g_50 bX6_overAll rfl) ?_
                                                  refine lv_setv (v := .ref (rG 7)) (rfl) ?_
                                                  refine lv_iload_n hx hb (g_29 bX6_overAll rfl) rfl (lv_at hl 0 rfl) ?_
                                                  refine lv_aload_n hx hb (g_42 bX6_overAll rfl) rfl (lv_at hl 2 rfl) ?_
                                                  refine lv_iload_n hx hb (g_28 bX6_overAll rfl) rfl (lv_at hl 1 rfl) ?_
                                                  refine va_alda hx hb hK hP 0 3 rfl rfl (in_c rfl) (g_50 bX6_overAll rfl) ?_
                                                  refine lv_setv (v := .ref (rF 7)) (rfl) ?_
                                                  refine lv_iload_n hx hb (g_29 bX6_overAll rfl) rfl (lv_at hl 0 rfl) ?_
                                                  refine va_iald hx hb hK hP 8 0 rfl rfl (vp_in_nI (by omega) (by omega)) (g_46 bX6_overAll rfl) ?_
                                                  refine lv_seti (v := (cF 7) j_82) (congrArg (cF 7) (nI_clamp (by omega))) ?_
                                                  refine va_iast hx hb hK hP hD hS 17 0 rfl rfl (vp_in_nI (by omega) (by omega)) (g_79 bX6_overAll rfl) (fun H locs => ?_)
                                                  clear hP hD hS
                                                  intro hP hD hS
                                                  rw [nI_clamp (n := j_82) (by omega)] at hP hD
                                                  have hPD := pd_as [_, _, _, _, _, _, _, _, _, _, _, _, _, _, _, _, _, zzI cy (rG 7) 4 (upd fT_83 j_82 ((cF 7) j_82))] hP hD rfl
                                                  clear hP hD
                                                  obtain ⟨hP, hD⟩ := hPD
                                                  refine lv_iinc (v := nI (j_82 + 1)) (lv' := [(3, .int (nI (j_82 + 1))), (2, .int 7), (0, .ref qF), (1, .ref qG)]) hx hb dX6_overAll_28 hl (k := 0) rfl (nI_1 _) (by decide +kernel) rfl (fun ls => ?_)
                                                  clear hl
                                                  intro hl
                                                  refine lv_goto (tgt := 10) hx hb dX6_overAll_31 (by decide +kernel) ?_
                                                  exact ih_81 (j_82 + 1) (upd fT_83 j_82 ((cF 7) j_82)) (by omega) (by omega) (cp_step hc_85) _ _ _ hP hD hS (lv_sub hl [0, 1, 2, 3] rfl)
                                            exact lp_79 ((4 - 0) + 1) 0 (cG 7) (Nat.lt_succ_self _) (Nat.zero_le _) (fun x h => absurd h (Nat.not_lt_zero _)) _ _ ls hP hD hS (lv_sub hl [0, 1, 2, 3] rfl)
                                          · have hlt_91 : j_71 < 4 := lp_lt rfl (rfl : (4 : Int32) = nI 4) (by omega) (by omega) c_76
                                            refine lv_aload_n hx hb (g_43 bX6_overAll rfl) rfl (lv_at hl 3 rfl) ?_
                                            refine lv_iload_n hx hb (g_28 bX6_overAll rfl) rfl (lv_at hl 1 rfl) ?_
                                            refine va_alda hx hb hK hP 9 3 rfl rfl (in_c rfl) (g_50 bX6_overAll rfl) ?_
                                            refine lv_setv (v := .ref (rG 6)) (rfl) ?_
                                            refine lv_iload_n hx hb (g_29 bX6_overAll rfl) rfl (lv_at hl 0 rfl) ?_
                                            refine lv_aload_n hx hb (g_42 bX6_overAll rfl) rfl (lv_at hl 2 rfl) ?_
                                            refine lv_iload_n hx hb (g_28 bX6_overAll rfl) rfl (lv_at hl 1 rfl) ?_
                                            refine va_alda hx hb hK hP 0 3 rfl rfl (in_c rfl) (g_50 bX6_overAll rfl) ?_
                                            refine lv_setv (v := .ref (rF 6)) (rfl) ?_
                                            refine lv_iload_n hx hb (g_29 bX6_overAll rfl) rfl (lv_at hl 0 rfl) ?_
                                            refine va_iald hx hb hK hP 7 0 rfl rfl (vp_in_nI (by omega) (by omega)) (g_46 bX6_overAll rfl) ?_
                                            refine lv_seti (v := (cF 6) j_71) (congrArg (cF 6) (nI_clamp (by omega))) ?_
                                            refine va_iast hx hb hK hP hD hS 16 0 rfl rfl (vp_in_nI (by omega) (by omega)) (g_79 bX6_overAll rfl) (fun H locs => ?_)
                                            clear hP hD hS
                                            intro hP hD hS
                                            rw [nI_clamp (n := j_71) (by omega)] at hP hD
                                            have hPD := pd_as [_, _, _, _, _, _, _, _, _, _, _, _, _, _, _, _, zzI cy (rG 6) 4 (upd fT_72 j_71 ((cF 6) j_71)), _] hP hD rfl
                                            clear hP hD
                                            obtain ⟨hP, hD⟩ := hPD
                                            refine lv_iinc (v := nI (j_71 + 1)) (lv' := [(3, .int (nI (j_71 + 1))), (2, .int 6), (0, .ref qF), (1, .ref qG)]) hx hb dX6_overAll_28 hl (k := 0) rfl (nI_1 _) (by decide +kernel) rfl (fun ls => ?_)
                                            clear hl
                                            intro hl
                                            refine lv_goto (tgt := 10) hx hb dX6_overAll_31 (by decide +kernel) ?_
                                            exact ih_70 (j_71 + 1) (upd fT_72 j_71 ((cF 6) j_71)) (by omega) (by omega) (cp_step hc_74) _ _ _ hP hD hS (lv_sub hl [0, 1, 2, 3] rfl)
                                      exact lp_68 ((4 - 0) + 1) 0 (cG 6) (Nat.lt_succ_self _) (Nat.zero_le _) (fun x h => absurd h (Nat.not_lt_zero _)) _ _ ls hP hD hS (lv_sub hl [0, 1, 2, 3] rfl)
                                    · have hlt_92 : j_60 < 4 := lp_lt rfl (rfl : (4 : Int32) = nI 4) (by omega) (by omega) c_65
                                      refine lv_aload_n hx hb (g_43 bX6_overAll rfl) rfl (lv_at hl 3 rfl) ?_
                                      refine lv_iload_n hx hb (g_28 bX6_overAll rfl) rfl (lv_at hl 1 rfl) ?_
                                      refine va_alda hx hb hK hP 9 3 rfl rfl (in_c rfl) (g_50 bX6_overAll rfl) ?_
                                      refine lv_setv (v := .ref (rG 5)) (rfl) ?_
                                      refine lv_iload_n hx hb (g_29 bX6_overAll rfl) rfl (lv_at hl 0 rfl) ?_
                                      refine lv_aload_n hx hb (g_42 bX6_overAll rfl) rfl (lv_at hl 2 rfl) ?_
                                      refine lv_iload_n hx hb (g_28 bX6_overAll rfl) rfl (lv_at hl 1 rfl) ?_
                                      refine va_alda hx hb hK hP 0 3 rfl rfl (in_c rfl) (g_50 bX6_overAll rfl) ?_
                                      refine lv_setv (v := .ref (rF 5)) (rfl) ?_
                                      refine lv_iload_n hx hb (g_29 bX6_overAll rfl) rfl (lv_at hl 0 rfl) ?_
                                      refine va_iald hx hb hK hP 6 0 rfl rfl (vp_in_nI (by omega) (by omega)) (g_46 bX6_overAll rfl) ?_
                                      refine lv_seti (v := (cF 5) j_60) (congrArg (cF 5) (nI_clamp (by omega))) ?_
                                      refine va_iast hx hb hK hP hD hS 15 0 rfl rfl (vp_in_nI (by omega) (by omega)) (g_79 bX6_overAll rfl) (fun H locs => ?_)
                                      clear hP hD hS
                                      intro hP hD hS
                                      rw [nI_clamp (n := j_60) (by omega)] at hP hD
                                      have hPD := pd_as [_, _, _, _, _, _, _, _, _, _, _, _, _, _, _, zzI cy (rG 5) 4 (upd fT_61 j_60 ((cF 5) j_60)), _, _] hP hD rfl
                                      clear hP hD
                                      obtain ⟨hP, hD⟩ := hPD
                                      refine lv_iinc (v := nI (j_60 + 1)) (lv' := [(3, .int (nI (j_60 + 1))), (2, .int 5), (0, .ref qF), (1, .ref qG)]) hx hb dX6_overAll_28 hl (k := 0) rfl (nI_1 _) (by decide +kernel) rfl (fun ls => ?_)
                                      clear hl
                                      intro hl
                                      refine lv_goto (tgt := 10) hx hb dX6_overAll_31 (by decide +kernel) ?_
                                      exact ih_59 (j_60 + 1) (upd fT_61 j_60 ((cF 5) j_60)) (by omega) (by omega) (cp_step hc_63) _ _ _ hP hD hS (lv_sub hl [0, 1, 2, 3] rfl)
                                exact lp_57 ((4 - 0) + 1) 0 (cG 5) (Nat.lt_succ_self _) (Nat.zero_le _) (fun x h => absurd h (Nat.not_lt_zero _)) _ _ ls hP hD hS (lv_sub hl [0, 1, 2, 3] rfl)
                              · have hlt_93 : j_49 < 4 := lp_lt rfl (rfl : (4 : Int32) = nI 4) (by omega) (by omega) c_54
                                refine lv_aload_n hx hb (g_43 bX6_overAll rfl) rfl (lv_at hl 3 rfl) ?_
                                refine lv_iload_n hx hb (g_28 bX6_overAll rfl) rfl (lv_at hl 1 rfl) ?_
                                refine va_alda hx hb hK hP 9 3 rfl rfl (in_c rfl) (g_50 bX6_overAll rfl) ?_
                                refine lv_setv (v := .ref (rG 4)) (rfl) ?_
                                refine lv_iload_n hx hb (g_29 bX6_overAll rfl) rfl (lv_at hl 0 rfl) ?_
                                refine lv_aload_n hx hb (g_42 bX6_overAll rfl) rfl (lv_at hl 2 rfl) ?_
                                refine lv_iload_n hx hb (g_28 bX6_overAll rfl) rfl (lv_at hl 1 rfl) ?_
                                refine va_alda hx hb hK hP 0 3 rfl rfl (in_c rfl) (g_50 bX6_overAll rfl) ?_
                                refine lv_setv (v := .ref (rF 4)) (rfl) ?_
                                refine lv_iload_n hx hb (g_29 bX6_overAll rfl) rfl (lv_at hl 0 rfl) ?_
                                refine va_iald hx hb hK hP 5 0 rfl rfl (vp_in_nI (by omega) (by omega)) (g_46 bX6_overAll rfl) ?_
                                refine lv_seti (v := (cF 4) j_49) (congrArg (cF 4) (nI_clamp (by omega))) ?_
                                refine va_iast hx hb hK hP hD hS 14 0 rfl rfl (vp_in_nI (by omega) (by omega)) (g_79 bX6_overAll rfl) (fun H locs => ?_)
                                clear hP hD hS
                                intro hP hD hS
                                rw [nI_clamp (n := j_49) (by omega)] at hP hD
                                have hPD := pd_as [_, _, _, _, _, _, _, _, _, _, _, _, _, _, zzI cy (rG 4) 4 (upd fT_50 j_49 ((cF 4) j_49)), _, _, _] hP hD rfl
                                clear hP hD
                                obtain ⟨hP, hD⟩ := hPD
                                refine lv_iinc (v := nI (j_49 + 1)) (lv' := [(3, .int (nI (j_49 + 1))), (2, .int 4), (0, .ref qF), (1, .ref qG)]) hx hb dX6_overAll_28 hl (k := 0) rfl (nI_1 _) (by decide +kernel) rfl (fun ls => ?_)
                                clear hl
                                intro hl
                                refine lv_goto (tgt := 10) hx hb dX6_overAll_31 (by decide +kernel) ?_
                                exact ih_48 (j_49 + 1) (upd fT_50 j_49 ((cF 4) j_49)) (by omega) (by omega) (cp_step hc_52) _ _ _ hP hD hS (lv_sub hl [0, 1, 2, 3] rfl)
                          exact lp_46 ((4 - 0) + 1) 0 (cG 4) (Nat.lt_succ_self _) (Nat.zero_le _) (fun x h => absurd h (Nat.not_lt_zero _)) _ _ ls hP hD hS (lv_sub hl [0, 1, 2, 3] rfl)
                        · have hlt_94 : j_38 < 4 := lp_lt rfl (rfl : (4 : Int32) = nI 4) (by omega) (by omega) c_43
                          refine lv_aload_n hx hb (g_43 bX6_overAll rfl) rfl (lv_at hl 3 rfl) ?_
                          refine lv_iload_n hx hb (g_28 bX6_overAll rfl) rfl (lv_at hl 1 rfl) ?_
                          refine va_alda hx hb hK hP 9 3 rfl rfl (in_c rfl) (g_50 bX6_overAll rfl) ?_
                          refine lv_setv (v := .ref (rG 3)) (rfl) ?_
                          refine lv_iload_n hx hb (g_29 bX6_overAll rfl) rfl (lv_at hl 0 rfl) ?_
                          refine lv_aload_n hx hb (g_42 bX6_overAll rfl) rfl (lv_at hl 2 rfl) ?_
                          refine lv_iload_n hx hb (g_28 bX6_overAll rfl) rfl (lv_at hl 1 rfl) ?_
                          refine va_alda hx hb hK hP 0 3 rfl rfl (in_c rfl) (g_50 bX6_overAll rfl) ?_
                          refine lv_setv (v := .ref (rF 3)) (rfl) ?_
                          refine lv_iload_n hx hb (g_29 bX6_overAll rfl) rfl (lv_at hl 0 rfl) ?_
                          refine va_iald hx hb hK hP 4 0 rfl rfl (vp_in_nI (by omega) (by omega)) (g_46 bX6_overAll rfl) ?_
                          refine lv_seti (v := (cF 3) j_38) (congrArg (cF 3) (nI_clamp (by omega))) ?_
                          refine va_iast hx hb hK hP hD hS 13 0 rfl rfl (vp_in_nI (by omega) (by omega)) (g_79 bX6_overAll rfl) (fun H locs => ?_)
                          clear hP hD hS
                          intro hP hD hS
                          rw [nI_clamp (n := j_38) (by omega)] at hP hD
                          have hPD := pd_as [_, _, _, _, _, _, _, _, _, _, _, _, _, zzI cy (rG 3) 4 (upd fT_39 j_38 ((cF 3) j_38)), _, _, _, _] hP hD rfl
                          clear hP hD
                          obtain ⟨hP, hD⟩ := hPD
                          refine lv_iinc (v := nI (j_38 + 1)) (lv' := [(3, .int (nI (j_38 + 1))), (2, .int 3), (0, .ref qF), (1, .ref qG)]) hx hb dX6_overAll_28 hl (k := 0) rfl (nI_1 _) (by decide +kernel) rfl (fun ls => ?_)
                          clear hl
                          intro hl
                          refine lv_goto (tgt := 10) hx hb dX6_overAll_31 (by decide +kernel) ?_
                          exact ih_37 (j_38 + 1) (upd fT_39 j_38 ((cF 3) j_38)) (by omega) (by omega) (cp_step hc_41) _ _ _ hP hD hS (lv_sub hl [0, 1, 2, 3] rfl)
                    exact lp_35 ((4 - 0) + 1) 0 (cG 3) (Nat.lt_succ_self _) (Nat.zero_le _) (fun x h => absurd h (Nat.not_lt_zero _)) _ _ ls hP hD hS (lv_sub hl [0, 1, 2, 3] rfl)
                  · have hlt_95 : j_27 < 4 := lp_lt rfl (rfl : (4 : Int32) = nI 4) (by omega) (by omega) c_32
                    refine lv_aload_n hx hb (g_43 bX6_overAll rfl) rfl (lv_at hl 3 rfl) ?_
                    refine lv_iload_n hx hb (g_28 bX6_overAll rfl) rfl (lv_at hl 1 rfl) ?_
                    refine va_alda hx hb hK hP 9 3 rfl rfl (in_c rfl) (g_50 bX6_overAll rfl) ?_
                    refine lv_setv (v := .ref (rG 2)) (rfl) ?_
                    refine lv_iload_n hx hb (g_29 bX6_overAll rfl) rfl (lv_at hl 0 rfl) ?_
                    refine lv_aload_n hx hb (g_42 bX6_overAll rfl) rfl (lv_at hl 2 rfl) ?_
                    refine lv_iload_n hx hb (g_28 bX6_overAll rfl) rfl (lv_at hl 1 rfl) ?_
                    refine va_alda hx hb hK hP 0 3 rfl rfl (in_c rfl) (g_50 bX6_overAll rfl) ?_
                    refine lv_setv (v := .ref (rF 2)) (rfl) ?_
                    refine lv_iload_n hx hb (g_29 bX6_overAll rfl) rfl (lv_at hl 0 rfl) ?_
                    refine va_iald hx hb hK hP 3 0 rfl rfl (vp_in_nI (by omega) (by omega)) (g_46 bX6_overAll rfl) ?_
                    refine lv_seti (v := (cF 2) j_27) (congrArg (cF 2) (nI_clamp (by omega))) ?_
                    refine va_iast hx hb hK hP hD hS 12 0 rfl rfl (vp_in_nI (by omega) (by omega)) (g_79 bX6_overAll rfl) (fun H locs => ?_)
                    clear hP hD hS
                    intro hP hD hS
                    rw [nI_clamp (n := j_27) (by omega)] at hP hD
                    have hPD := pd_as [_, _, _, _, _, _, _, _, _, _, _, _, zzI cy (rG 2) 4 (upd fT_28 j_27 ((cF 2) j_27)), _, _, _, _, _] hP hD rfl
                    clear hP hD
                    obtain ⟨hP, hD⟩ := hPD
                    refine lv_iinc (v := nI (j_27 + 1)) (lv' := [(3, .int (nI (j_27 + 1))), (2, .int 2), (0, .ref qF), (1, .ref qG)]) hx hb dX6_overAll_28 hl (k := 0) rfl (nI_1 _) (by decide +kernel) rfl (fun ls => ?_)
                    clear hl
                    intro hl
                    refine lv_goto (tgt := 10) hx hb dX6_overAll_31 (by decide +kernel) ?_
                    exact ih_26 (j_27 + 1) (upd fT_28 j_27 ((cF 2) j_27)) (by omega) (by omega) (cp_step hc_30) _ _ _ hP hD hS (lv_sub hl [0, 1, 2, 3] rfl)
              exact lp_24 ((4 - 0) + 1) 0 (cG 2) (Nat.lt_succ_self _) (Nat.zero_le _) (fun x h => absurd h (Nat.not_lt_zero _)) _ _ ls hP hD hS (lv_sub hl [0, 1, 2, 3] rfl)
            · have hlt_96 : j_16 < 4 := lp_lt rfl (rfl : (4 : Int32) = nI 4) (by omega) (by omega) c_21
              refine lv_aload_n hx hb (g_43 bX6_overAll rfl) rfl (lv_at hl 3 rfl) ?_
              refine lv_iload_n hx hb (g_28 bX6_overAll rfl) rfl (lv_at hl 1 rfl) ?_
              refine va_alda hx hb hK hP 9 3 rfl rfl (in_c rfl) (g_50 bX6_overAll rfl) ?_
              refine lv_setv (v := .ref (rG 1)) (rfl) ?_
              refine lv_iload_n hx hb (g_29 bX6_overAll rfl) rfl (lv_at hl 0 rfl) ?_
              refine lv_aload_n hx hb (g_42 bX6_overAll rfl) rfl (lv_at hl 2 rfl) ?_
              refine lv_iload_n hx hb (g_28 bX6_overAll rfl) rfl (lv_at hl 1 rfl) ?_
              refine va_alda hx hb hK hP 0 3 rfl rfl (in_c rfl) (g_50 bX6_overAll rfl) ?_
              refine lv_setv (v := .ref (rF 1)) (rfl) ?_
              refine lv_iload_n hx hb (g_29 bX6_overAll rfl) rfl (lv_at hl 0 rfl) ?_
              refine va_iald hx hb hK hP 2 0 rfl rfl (vp_in_nI (by omega) (by omega)) (g_46 bX6_overAll rfl) ?_
              refine lv_seti (v := (cF 1) j_16) (congrArg (cF 1) (nI_clamp (by omega))) ?_
              refine va_iast hx hb hK hP hD hS 11 0 rfl rfl (vp_in_nI (by omega) (by omega)) (g_79 bX6_overAll rfl) (fun H locs => ?_)
              clear hP hD hS
              intro hP hD hS
              rw [nI_clamp (n := j_16) (by omega)] at hP hD
              have hPD := pd_as [_, _, _, _, _, _, _, _, _, _, _, zzI cy (rG 1) 4 (upd fT_17 j_16 ((cF 1) j_16)), _, _, _, _, _, _] hP hD rfl
              clear hP hD
              obtain ⟨hP, hD⟩ := hPD
              refine lv_iinc (v := nI (j_16 + 1)) (lv' := [(3, .int (nI (j_16 + 1))), (2, .int 1), (0, .ref qF), (1, .ref qG)]) hx hb dX6_overAll_28 hl (k := 0) rfl (nI_1 _) (by decide +kernel) rfl (fun ls => ?_)
              clear hl
              intro hl
              refine lv_goto (tgt := 10) hx hb dX6_overAll_31 (by decide +kernel) ?_
              exact ih_15 (j_16 + 1) (upd fT_17 j_16 ((cF 1) j_16)) (by omega) (by omega) (cp_step hc_19) _ _ _ hP hD hS (lv_sub hl [0, 1, 2, 3] rfl)
        exact lp_13 ((4 - 0) + 1) 0 (cG 1) (Nat.lt_succ_self _) (Nat.zero_le _) (fun x h => absurd h (Nat.not_lt_zero _)) _ _ ls hP hD hS (lv_sub hl [0, 1, 2, 3] rfl)
      · have hlt_97 : j_5 < 4 := lp_lt rfl (rfl : (4 : Int32) = nI 4) (by omega) (by omega) c_10
        refine lv_aload_n hx hb (g_43 bX6_overAll rfl) rfl (lv_at hl 3 rfl) ?_
        refine lv_iload_n hx hb (g_28 bX6_overAll rfl) rfl (lv_at hl 1 rfl) ?_
        refine va_alda hx hb hK hP 9 3 rfl rfl (in_c rfl) (g_50 bX6_overAll rfl) ?_
        refine lv_setv (v := .ref (rG 0)) (rfl) ?_
        refine lv_iload_n hx hb (g_29 bX6_overAll rfl) rfl (lv_at hl 0 rfl) ?_
        refine lv_aload_n hx hb (g_42 bX6_overAll rfl) rfl (lv_at hl 2 rfl) ?_
        refine lv_iload_n hx hb (g_28 bX6_overAll rfl) rfl (lv_at hl 1 rfl) ?_
        refine va_alda hx hb hK hP 0 3 rfl rfl (in_c rfl) (g_50 bX6_overAll rfl) ?_
        refine lv_setv (v := .ref (rF 0)) (rfl) ?_
        refine lv_iload_n hx hb (g_29 bX6_overAll rfl) rfl (lv_at hl 0 rfl) ?_
        refine va_iald hx hb hK hP 1 0 rfl rfl (vp_in_nI (by omega) (by omega)) (g_46 bX6_overAll rfl) ?_
        refine lv_seti (v := (cF 0) j_5) (congrArg (cF 0) (nI_clamp (by omega))) ?_
        refine va_iast hx hb hK hP hD hS 10 0 rfl rfl (vp_in_nI (by omega) (by omega)) (g_79 bX6_overAll rfl) (fun H locs => ?_)
        clear hP hD hS
        intro hP hD hS
        rw [nI_clamp (n := j_5) (by omega)] at hP hD
        have hPD := pd_as [_, _, _, _, _, _, _, _, _, _, zzI cy (rG 0) 4 (upd fT_6 j_5 ((cF 0) j_5)), _, _, _, _, _, _, _] hP hD rfl
        clear hP hD
        obtain ⟨hP, hD⟩ := hPD
        refine lv_iinc (v := nI (j_5 + 1)) (lv' := [(3, .int (nI (j_5 + 1))), (2, .int 0), (0, .ref qF), (1, .ref qG)]) hx hb dX6_overAll_28 hl (k := 0) rfl (nI_1 _) (by decide +kernel) rfl (fun ls => ?_)
        clear hl
        intro hl
        refine lv_goto (tgt := 10) hx hb dX6_overAll_31 (by decide +kernel) ?_
        exact ih_4 (j_5 + 1) (upd fT_6 j_5 ((cF 0) j_5)) (by omega) (by omega) (cp_step hc_8) _ _ _ hP hD hS (lv_sub hl [0, 1, 2, 3] rfl)
  exact lp_2 ((4 - 0) + 1) 0 (cG 0) (Nat.lt_succ_self _) (Nat.zero_le _) (fun x h => absurd h (Nat.not_lt_zero _)) _ _ ls hP hD hS (lv_sub hl [0, 1, 2, 3] rfl)
set_option maxHeartbeats 4000000 in
set_option maxRecDepth 100000 in
theorem c_X6_overAll5 (l : Launch) (G : va_G) (cy : Nat → ClassId) (sz : Nat) (qF : Nat) (rF : Nat → Nat) (cF : Nat → Nat → Int32) (qG : Nat) (rG : Nat → Nat) (cG : Nat → Nat → Int32)   : MW l yX6_overAll cX6_overAll 4 none 1 0 0 G cy [zzG cy 3 qF rF, zzI cy (rF 0) 5 (cF 0), zzI cy (rF 1) 5 (cF 1), zzI cy (rF 2) 5 (cF 2), zzI cy (rF 3) 5 (cF 3), zzI cy (rF 4) 5 (cF 4), zzI cy (rF 5) 5 (cF 5), zzI cy (rF 6) 5 (cF 6), zzI cy (rF 7) 5 (cF 7), zzG cy 3 qG rG, zzI cy (rG 0) 5 (cG 0), zzI cy (rG 1) 5 (cG 1), zzI cy (rG 2) 5 (cG 2), zzI cy (rG 3) 5 (cG 3), zzI cy (rG 4) 5 (cG 4), zzI cy (rG 5) 5 (cG 5), zzI cy (rG 6) 5 (cG 6), zzI cy (rG 7) 5 (cG 7)] sz [.ref qF, .ref qG] (Wv G (fun u => u = [zzG cy 3 qF rF, zzI cy (rF 0) 5 (cF 0), zzI cy (rF 1) 5 (cF 1), zzI cy (rF 2) 5 (cF 2), zzI cy (rF 3) 5 (cF 3), zzI cy (rF 4) 5 (cF 4), zzI cy (rF 5) 5 (cF 5), zzI cy (rF 6) 5 (cF 6), zzI cy (rF 7) 5 (cF 7), zzG cy 3 qG rG, zzI cy (rG 0) 5 (cF 0), zzI cy (rG 1) 5 (cF 1), zzI cy (rG 2) 5 (cF 2), zzI cy (rG 3) 5 (cF 3), zzI cy (rG 4) 5 (cF 4), zzI cy (rG 5) 5 (cF 5), zzI cy (rG 6) 5 (cF 6), zzI cy (rG 7) 5 (cF 7)])) := by
  refine enW RX6 (by decide +kernel) rfl (Nat.le_of_ble_eq_true rfl) (fun p e s m below meth c ls A hx hb hml hown hts hr hlocks hP hN hl hin hD hA hS => ?_)
  have hin : meth.name = _ := hin
  have hK := hN.1
  replace hl : lv_has ls 4 [(0, .ref qF), (1, .ref qG)] := hl
  refine lv_iconst (v := 0) hx hb (g_3 bX6_overAll rfl) (by decide +kernel) ?_
  refine lv_istore_n (lv' := [(2, .int 0), (0, .ref qF), (1, .ref qG)]) hx hb (g_61 bX6_overAll rfl) rfl hl (by decide +kernel) rfl (fun ls => ?_)
  clear hl
  intro hl
  refine lv_iload_n hx hb (g_28 bX6_overAll rfl) rfl (lv_at hl 0 rfl) ?_
  refine lv_aload_n hx hb (g_42 bX6_overAll rfl) rfl (lv_at hl 1 rfl) ?_
  refine va_alen hx hb hK hP 0 3 rfl rfl (v := 8) rfl (g_190 bX6_overAll rfl) ?_
  refine lv_icmp_ge (tgt := 40) hx hb dX6_overAll_5 (by decide +kernel) (fun h9 => absurd h9 (by decide +kernel)) (fun _ => ?_)
  refine lv_iconst (v := 0) hx hb (g_3 bX6_overAll rfl) (by decide +kernel) ?_
  refine lv_istore_n (lv' := [(3, .int 0), (2, .int 0), (0, .ref qF), (1, .ref qG)]) hx hb (g_62 bX6_overAll rfl) rfl hl (by decide +kernel) rfl (fun ls => ?_)
  clear hl
  intro hl
  have lp_2 : ∀ (n_3 : Nat) (j_5 : Nat) (fT_6 : Nat → Int32), 5 - j_5 < n_3 → j_5 ≤ 5 → (∀ x, x < j_5 → fT_6 x = cF 0 x) → ∀ (H : Heap) (locs : List Loc) (ls : Array Slot), va_P G CL [zzG cy 3 qF rF, zzI cy (rF 0) 5 (cF 0), zzI cy (rF 1) 5 (cF 1), zzI cy (rF 2) 5 (cF 2), zzI cy (rF 3) 5 (cF 3), zzI cy (rF 4) 5 (cF 4), zzI cy (rF 5) 5 (cF 5), zzI cy (rF 6) 5 (cF 6), zzI cy (rF 7) 5 (cF 7), zzG cy 3 qG rG, zzI cy (rG 0) 5 fT_6, zzI cy (rG 1) 5 (cG 1), zzI cy (rG 2) 5 (cG 2), zzI cy (rG 3) 5 (cG 3), zzI cy (rG 4) 5 (cG 4), zzI cy (rG 5) 5 (cG 5), zzI cy (rG 6) 5 (cG 6), zzI cy (rG 7) 5 (cG 7)] H → va_D A [zzG cy 3 qF rF, zzI cy (rF 0) 5 (cF 0), zzI cy (rF 1) 5 (cF 1), zzI cy (rF 2) 5 (cF 2), zzI cy (rF 3) 5 (cF 3), zzI cy (rF 4) 5 (cF 4), zzI cy (rF 5) 5 (cF 5), zzI cy (rF 6) 5 (cF 6), zzI cy (rF 7) 5 (cF 7), zzG cy 3 qG rG, zzI cy (rG 0) 5 fT_6, zzI cy (rG 1) 5 (cG 1), zzI cy (rG 2) 5 (cG 2), zzI cy (rG 3) 5 (cG 3), zzI cy (rG 4) 5 (cG 4), zzI cy (rG 5) 5 (cG 5), zzI cy (rG 6) 5 (cG 6), zzI cy (rG 7) 5 (cG 7)] → va_S A s.heap H locs → lv_has ls 4 [(3, .int (nI j_5)), (2, .int 0), (0, .ref qF), (1, .ref qG)] → W p l e (Rm 1 0 0) s m (List.toArray (α := Value) [.ref qF, .ref qG]) below meth c H locs 0 0 (MQ below ((Wv G (fun u => u = [zzG cy 3 qF rF, zzI cy (rF 0) 5 (cF 0), zzI cy (rF 1) 5 (cF 1), zzI cy (rF 2) 5 (cF 2), zzI cy (rF 3) 5 (cF 3), zzI cy (rF 4) 5 (cF 4), zzI cy (rF 5) 5 (cF 5), zzI cy (rF 6) 5 (cF 6), zzI cy (rF 7) 5 (cF 7), zzG cy 3 qG rG, zzI cy (rG 0) 5 (cF 0), zzI cy (rG 1) 5 (cF 1), zzI cy (rG 2) 5 (cF 2), zzI cy (rG 3) 5 (cF 3), zzI cy (rG 4) 5 (cF 4), zzI cy (rG 5) 5 (cF 5), zzI cy (rG 6) 5 (cF 6), zzI cy (rG 7) 5 (cF 7)])) A) (List.toArray (α := Value) [.ref qF, .ref qG]) s 0 0 A) (F0 m 10 ls []) := by
    intro n_3
    induction n_3 with
    | zero => intro j_5 fT_6 hm9; exact absurd hm9 (Nat.not_lt_zero _)
    | succ n_3 ih_4 =>
      intro j_5 fT_6 hm_9 hj_7 hc_8 H locs ls hP hD hS hl
      refine lv_iload_n hx hb (g_29 bX6_overAll rfl) rfl (lv_at hl 0 rfl) ?_
      refine lv_aload_n hx hb (g_42 bX6_overAll rfl) rfl (lv_at hl 2 rfl) ?_
      refine lv_iload_n hx hb (g_28 bX6_overAll rfl) rfl (lv_at hl 1 rfl) ?_
      refine va_alda hx hb hK hP 0 3 rfl rfl (in_c rfl) (g_50 bX6_overAll rfl) ?_
      refine lv_setv (v := .ref (rF 0)) (rfl) ?_
      refine va_alen hx hb hK hP 1 0 rfl rfl (v := 5) rfl (g_190 bX6_overAll rfl) ?_
      refine lv_icmp_ge (tgt := 34) hx hb dX6_overAll_15 (by decide +kernel) (fun c_10 => ?_) (fun c_10 => ?_)
      · have hlt_11 : j_5 = 5 := Nat.le_antisymm (by omega) (lp_ge rfl (rfl : (5 : Int32) = nI 5) (by omega) (by omega) c_10)
        rw [hlt_11] at hc_8
        replace hP : va_P G CL [zzG cy 3 qF rF, zzI cy (rF 0) 5 (cF 0), zzI cy (rF 1) 5 (cF 1), zzI cy (rF 2) 5 (cF 2), zzI cy (rF 3) 5 (cF 3), zzI cy (rF 4) 5 (cF 4), zzI cy (rF 5) 5 (cF 5), zzI cy (rF 6) 5 (cF 6), zzI cy (rF 7) 5 (cF 7), zzG cy 3 qG rG, zzI cy (rG 0) 5 (cF 0), zzI cy (rG 1) 5 (cG 1), zzI cy (rG 2) 5 (cG 2), zzI cy (rG 3) 5 (cG 3), zzI cy (rG 4) 5 (cG 4), zzI cy (rG 5) 5 (cG 5), zzI cy (rG 6) 5 (cG 6), zzI cy (rG 7) 5 (cG 7)] H := arr_at hP (n0 := 10) rfl hc_8
        replace hD : va_D A [zzG cy 3 qF rF, zzI cy (rF 0) 5 (cF 0), zzI cy (rF 1) 5 (cF 1), zzI cy (rF 2) 5 (cF 2), zzI cy (rF 3) 5 (cF 3), zzI cy (rF 4) 5 (cF 4), zzI cy (rF 5) 5 (cF 5), zzI cy (rF 6) 5 (cF 6), zzI cy (rF 7) 5 (cF 7), zzG cy 3 qG rG, zzI cy (rG 0) 5 (cF 0), zzI cy (rG 1) 5 (cG 1), zzI cy (rG 2) 5 (cG 2), zzI cy (rG 3) 5 (cG 3), zzI cy (rG 4) 5 (cG 4), zzI cy (rG 5) 5 (cG 5), zzI cy (rG 6) 5 (cG 6), zzI cy (rG 7) 5 (cG 7)] := arr_dt hD (n0 := 10) rfl
        refine lv_iinc (v := 1) (lv' := [(2, .int 1), (3, .int (nI j_5)), (0, .ref qF), (1, .ref qG)]) hx hb dX6_overAll_34 hl (k := 1) rfl (by decide +kernel) (by decide +kernel) rfl (fun ls => ?_)
        clear hl
        intro hl
        refine lv_goto (tgt := 2) hx hb dX6_overAll_37 (by decide +kernel) ?_
        refine lv_iload_n hx hb (g_28 bX6_overAll rfl) rfl (lv_at hl 0 rfl) ?_
        refine lv_aload_n hx hb (g_42 bX6_overAll rfl) rfl (lv_at hl 2 rfl) ?_
        refine va_alen hx hb hK hP 0 3 rfl rfl (v := 8) rfl (g_190 bX6_overAll rfl) ?_
        refine lv_icmp_ge (tgt := 40) hx hb dX6_overAll_5 (by decide +kernel) (fun h9 => absurd h9 (by decide +kernel)) (fun _ => ?_)
        refine lv_iconst (v := 0) hx hb (g_3 bX6_overAll rfl) (by decide +kernel) ?_
        refine lv_istore_n (lv' := [(3, .int 0), (2, .int 1), (0, .ref qF), (1, .ref qG)]) hx hb (g_62 bX6_overAll rfl) rfl hl (by decide +kernel) rfl (fun ls => ?_)
        clear hl
        intro hl
        have lp_13 : ∀ (n_14 : Nat) (j_16 : Nat) (fT_17 : Nat → Int32), 5 - j_16 < n_14 → j_16 ≤ 5 → (∀ x, x < j_16 → fT_17 x = cF 1 x) → ∀ (H : Heap) (locs : List Loc) (ls : Array Slot), va_P G CL [zzG cy 3 qF rF, zzI cy (rF 0) 5 (cF 0), zzI cy (rF 1) 5 (cF 1), zzI cy (rF 2) 5 (cF 2), zzI cy (rF 3) 5 (cF 3), zzI cy (rF 4) 5 (cF 4), zzI cy (rF 5) 5 (cF 5), zzI cy (rF 6) 5 (cF 6), zzI cy (rF 7) 5 (cF 7), zzG cy 3 qG rG, zzI cy (rG 0) 5 (cF 0), zzI cy (rG 1) 5 fT_17, zzI cy (rG 2) 5 (cG 2), zzI cy (rG 3) 5 (cG 3), zzI cy (rG 4) 5 (cG 4), zzI cy (rG 5) 5 (cG 5), zzI cy (rG 6) 5 (cG 6), zzI cy (rG 7) 5 (cG 7)] H → va_D A [zzG cy 3 qF rF, zzI cy (rF 0) 5 (cF 0), zzI cy (rF 1) 5 (cF 1), zzI cy (rF 2) 5 (cF 2), zzI cy (rF 3) 5 (cF 3), zzI cy (rF 4) 5 (cF 4), zzI cy (rF 5) 5 (cF 5), zzI cy (rF 6) 5 (cF 6), zzI cy (rF 7) 5 (cF 7), zzG cy 3 qG rG, zzI cy (rG 0) 5 (cF 0), zzI cy (rG 1) 5 fT_17, zzI cy (rG 2) 5 (cG 2), zzI cy (rG 3) 5 (cG 3), zzI cy (rG 4) 5 (cG 4), zzI cy (rG 5) 5 (cG 5), zzI cy (rG 6) 5 (cG 6), zzI cy (rG 7) 5 (cG 7)] → va_S A s.heap H locs → lv_has ls 4 [(3, .int (nI j_16)), (2, .int 1), (0, .ref qF), (1, .ref qG)] → W p l e (Rm 1 0 0) s m (List.toArray (α := Value) [.ref qF, .ref qG]) below meth c H locs 0 0 (MQ below ((Wv G (fun u => u = [zzG cy 3 qF rF, zzI cy (rF 0) 5 (cF 0), zzI cy (rF 1) 5 (cF 1), zzI cy (rF 2) 5 (cF 2), zzI cy (rF 3) 5 (cF 3), zzI cy (rF 4) 5 (cF 4), zzI cy (rF 5) 5 (cF 5), zzI cy (rF 6) 5 (cF 6), zzI cy (rF 7) 5 (cF 7), zzG cy 3 qG rG, zzI cy (rG 0) 5 (cF 0), zzI cy (rG 1) 5 (cF 1), zzI cy (rG 2) 5 (cF 2), zzI cy (rG 3) 5 (cF 3), zzI cy (rG 4) 5 (cF 4), zzI cy (rG 5) 5 (cF 5), zzI cy (rG 6) 5 (cF 6), zzI cy (rG 7) 5 (cF 7)])) A) (List.toArray (α := Value) [.ref qF, .ref qG]) s 0 0 A) (F0 m 10 ls []) := by
          intro n_14
          induction n_14 with
          | zero => intro j_16 fT_17 hm9; exact absurd hm9 (Nat.not_lt_zero _)
          | succ n_14 ih_15 =>
            intro j_16 fT_17 hm_20 hj_18 hc_19 H locs ls hP hD hS hl
            refine lv_iload_n hx hb (g_29 bX6_overAll rfl) rfl (lv_at hl 0 rfl) ?_
            refine lv_aload_n hx hb (g_42 bX6_overAll rfl) rfl (lv_at hl 2 rfl) ?_
            refine lv_iload_n hx hb (g_28 bX6_overAll rfl) rfl (lv_at hl 1 rfl) ?_
            refine va_alda hx hb hK hP 0 3 rfl rfl (in_c rfl) (g_50 bX6_overAll rfl) ?_
            refine lv_setv (v := .ref (rF 1)) (rfl) ?_
            refine va_alen hx hb hK hP 2 0 rfl rfl (v := 5) rfl (g_190 bX6_overAll rfl) ?_
            refine lv_icmp_ge (tgt := 34) hx hb dX6_overAll_15 (by decide +kernel) (fun c_21 => ?_) (fun c_21 => ?_)
            · have hlt_22 : j_16 = 5 := Nat.le_antisymm (by omega) (lp_ge rfl (rfl : (5 : Int32) = nI 5) (by omega) (by omega) c_21)
              rw [hlt_22] at hc_19
              replace hP : va_P G CL [zzG cy 3 qF rF, zzI cy (rF 0) 5 (cF 0), zzI cy (rF 1) 5 (cF 1), zzI cy (rF 2) 5 (cF 2), zzI cy (rF 3) 5 (cF 3), zzI cy (rF 4) 5 (cF 4), zzI cy (rF 5) 5 (cF 5), zzI cy (rF 6) 5 (cF 6), zzI cy (rF 7) 5 (cF 7), zzG cy 3 qG rG, zzI cy (rG 0) 5 (cF 0), zzI cy (rG 1) 5 (cF 1), zzI cy (rG 2) 5 (cG 2), zzI cy (rG 3) 5 (cG 3), zzI cy (rG 4) 5 (cG 4), zzI cy (rG 5) 5 (cG 5), zzI cy (rG 6) 5 (cG 6), zzI cy (rG 7) 5 (cG 7)] H := arr_at hP (n0 := 11) rfl hc_19
              replace hD : va_D A [zzG cy 3 qF rF, zzI cy (rF 0) 5 (cF 0), zzI cy (rF 1) 5 (cF 1), zzI cy (rF 2) 5 (cF 2), zzI cy (rF 3) 5 (cF 3), zzI cy (rF 4) 5 (cF 4), zzI cy (rF 5) 5 (cF 5), zzI cy (rF 6) 5 (cF 6), zzI cy (rF 7) 5 (cF 7), zzG cy 3 qG rG, zzI cy (rG 0) 5 (cF 0), zzI cy (rG 1) 5 (cF 1), zzI cy (rG 2) 5 (cG 2), zzI cy (rG 3) 5 (cG 3), zzI cy (rG 4) 5 (cG 4), zzI cy (rG 5) 5 (cG 5), zzI cy (rG 6) 5 (cG 6), zzI cy (rG 7) 5 (cG 7)] := arr_dt hD (n0 := 11) rfl
              refine lv_iinc (v := 2) (lv' := [(2, .int 2), (3, .int (nI j_16)), (0, .ref qF), (1, .ref qG)]) hx hb dX6_overAll_34 hl (k := 1) rfl (by decide +kernel) (by decide +kernel) rfl (fun ls => ?_)
              clear hl
              intro hl
              refine lv_goto (tgt := 2) hx hb dX6_overAll_37 (by decide +kernel) ?_
              refine lv_iload_n hx hb (g_28 bX6_overAll rfl) rfl (lv_at hl 0 rfl) ?_
              refine lv_aload_n hx hb (g_42 bX6_overAll rfl) rfl (lv_at hl 2 rfl) ?_
              refine va_alen hx hb hK hP 0 3 rfl rfl (v := 8) rfl (g_190 bX6_overAll rfl) ?_
              refine lv_icmp_ge (tgt := 40) hx hb dX6_overAll_5 (by decide +kernel) (fun h9 => absurd h9 (by decide +kernel)) (fun _ => ?_)
              refine lv_iconst (v := 0) hx hb (g_3 bX6_overAll rfl) (by decide +kernel) ?_
              refine lv_istore_n (lv' := [(3, .int 0), (2, .int 2), (0, .ref qF), (1, .ref qG)]) hx hb (g_62 bX6_overAll rfl) rfl hl (by decide +kernel) rfl (fun ls => ?_)
              clear hl
              intro hl
              have lp_24 : ∀ (n_25 : Nat) (j_27 : Nat) (fT_28 : Nat → Int32), 5 - j_27 < n_25 → j_27 ≤ 5 → (∀ x, x < j_27 → fT_28 x = cF 2 x) → ∀ (H : Heap) (locs : List Loc) (ls : Array Slot), va_P G CL [zzG cy 3 qF rF, zzI cy (rF 0) 5 (cF 0), zzI cy (rF 1) 5 (cF 1), zzI cy (rF 2) 5 (cF 2), zzI cy (rF 3) 5 (cF 3), zzI cy (rF 4) 5 (cF 4), zzI cy (rF 5) 5 (cF 5), zzI cy (rF 6) 5 (cF 6), zzI cy (rF 7) 5 (cF 7), zzG cy 3 qG rG, zzI cy (rG 0) 5 (cF 0), zzI cy (rG 1) 5 (cF 1), zzI cy (rG 2) 5 fT_28, zzI cy (rG 3) 5 (cG 3), zzI cy (rG 4) 5 (cG 4), zzI cy (rG 5) 5 (cG 5), zzI cy (rG 6) 5 (cG 6), zzI cy (rG 7) 5 (cG 7)] H → va_D A [zzG cy 3 qF rF, zzI cy (rF 0) 5 (cF 0), zzI cy (rF 1) 5 (cF 1), zzI cy (rF 2) 5 (cF 2), zzI cy (rF 3) 5 (cF 3), zzI cy (rF 4) 5 (cF 4), zzI cy (rF 5) 5 (cF 5), zzI cy (rF 6) 5 (cF 6), zzI cy (rF 7) 5 (cF 7), zzG cy 3 qG rG, zzI cy (rG 0) 5 (cF 0), zzI cy (rG 1) 5 (cF 1), zzI cy (rG 2) 5 fT_28, zzI cy (rG 3) 5 (cG 3), zzI cy (rG 4) 5 (cG 4), zzI cy (rG 5) 5 (cG 5), zzI cy (rG 6) 5 (cG 6), zzI cy (rG 7) 5 (cG 7)] → va_S A s.heap H locs → lv_has ls 4 [(3, .int (nI j_27)), (2, .int 2), (0, .ref qF), (1, .ref qG)] → W p l e (Rm 1 0 0) s m (List.toArray (α := Value) [.ref qF, .ref qG]) below meth c H locs 0 0 (MQ below ((Wv G (fun u => u = [zzG cy 3 qF rF, zzI cy (rF 0) 5 (cF 0), zzI cy (rF 1) 5 (cF 1), zzI cy (rF 2) 5 (cF 2), zzI cy (rF 3) 5 (cF 3), zzI cy (rF 4) 5 (cF 4), zzI cy (rF 5) 5 (cF 5), zzI cy (rF 6) 5 (cF 6), zzI cy (rF 7) 5 (cF 7), zzG cy 3 qG rG, zzI cy (rG 0) 5 (cF 0), zzI cy (rG 1) 5 (cF 1), zzI cy (rG 2) 5 (cF 2), zzI cy (rG 3) 5 (cF 3), zzI cy (rG 4) 5 (cF 4), zzI cy (rG 5) 5 (cF 5), zzI cy (rG 6) 5 (cF 6), zzI cy (rG 7) 5 (cF 7)])) A) (List.toArray (α := Value) [.ref qF, .ref qG]) s 0 0 A) (F0 m 10 ls []) := by
                intro n_25
                induction n_25 with
                | zero => intro j_27 fT_28 hm9; exact absurd hm9 (Nat.not_lt_zero _)
                | succ n_25 ih_26 =>
                  intro j_27 fT_28 hm_31 hj_29 hc_30 H locs ls hP hD hS hl
                  refine lv_iload_n hx hb (g_29 bX6_overAll rfl) rfl (lv_at hl 0 rfl) ?_
                  refine lv_aload_n hx hb (g_42 bX6_overAll rfl) rfl (lv_at hl 2 rfl) ?_
                  refine lv_iload_n hx hb (g_28 bX6_overAll rfl) rfl (lv_at hl 1 rfl) ?_
                  refine va_alda hx hb hK hP 0 3 rfl rfl (in_c rfl) (g_50 bX6_overAll rfl) ?_
                  refine lv_setv (v := .ref (rF 2)) (rfl) ?_
                  refine va_alen hx hb hK hP 3 0 rfl rfl (v := 5) rfl (g_190 bX6_overAll rfl) ?_
                  refine lv_icmp_ge (tgt := 34) hx hb dX6_overAll_15 (by decide +kernel) (fun c_32 => ?_) (fun c_32 => ?_)
                  · have hlt_33 : j_27 = 5 := Nat.le_antisymm (by omega) (lp_ge rfl (rfl : (5 : Int32) = nI 5) (by omega) (by omega) c_32)
                    rw [hlt_33] at hc_30
                    replace hP : va_P G CL [zzG cy 3 qF rF, zzI cy (rF 0) 5 (cF 0), zzI cy (rF 1) 5 (cF 1), zzI cy (rF 2) 5 (cF 2), zzI cy (rF 3) 5 (cF 3), zzI cy (rF 4) 5 (cF 4), zzI cy (rF 5) 5 (cF 5), zzI cy (rF 6) 5 (cF 6), zzI cy (rF 7) 5 (cF 7), zzG cy 3 qG rG, zzI cy (rG 0) 5 (cF 0), zzI cy (rG 1) 5 (cF 1), zzI cy (rG 2) 5 (cF 2), zzI cy (rG 3) 5 (cG 3), zzI cy (rG 4) 5 (cG 4), zzI cy (rG 5) 5 (cG 5), zzI cy (rG 6) 5 (cG 6), zzI cy (rG 7) 5 (cG 7)] H := arr_at hP (n0 := 12) rfl hc_30
                    replace hD : va_D A [zzG cy 3 qF rF, zzI cy (rF 0) 5 (cF 0), zzI cy (rF 1) 5 (cF 1), zzI cy (rF 2) 5 (cF 2), zzI cy (rF 3) 5 (cF 3), zzI cy (rF 4) 5 (cF 4), zzI cy (rF 5) 5 (cF 5), zzI cy (rF 6) 5 (cF 6), zzI cy (rF 7) 5 (cF 7), zzG cy 3 qG rG, zzI cy (rG 0) 5 (cF 0), zzI cy (rG 1) 5 (cF 1), zzI cy (rG 2) 5 (cF 2), zzI cy (rG 3) 5 (cG 3), zzI cy (rG 4) 5 (cG 4), zzI cy (rG 5) 5 (cG 5), zzI cy (rG 6) 5 (cG 6), zzI cy (rG 7) 5 (cG 7)] := arr_dt hD (n0 := 12) rfl
                    refine lv_iinc (v := 3) (lv' := [(2, .int 3), (3, .int (nI j_27)), (0, .ref qF), (1, .ref qG)]) hx hb dX6_overAll_34 hl (k := 1) rfl (by decide +kernel) (by decide +kernel) rfl (fun ls => ?_)
                    clear hl
                    intro hl
                    refine lv_goto (tgt := 2) hx hb dX6_overAll_37 (by decide +kernel) ?_
                    refine lv_iload_n hx hb (g_28 bX6_overAll rfl) rfl (lv_at hl 0 rfl) ?_
                    refine lv_aload_n hx hb (g_42 bX6_overAll rfl) rfl (lv_at hl 2 rfl) ?_
                    refine va_alen hx hb hK hP 0 3 rfl rfl (v := 8) rfl (g_190 bX6_overAll rfl) ?_
                    refine lv_icmp_ge (tgt := 40) hx hb dX6_overAll_5 (by decide +kernel) (fun h9 => absurd h9 (by decide +kernel)) (fun _ => ?_)
                    refine lv_iconst (v := 0) hx hb (g_3 bX6_overAll rfl) (by decide +kernel) ?_
                    refine lv_istore_n (lv' := [(3, .int 0), (2, .int 3), (0, .ref qF), (1, .ref qG)]) hx hb (g_62 bX6_overAll rfl) rfl hl (by decide +kernel) rfl (fun ls => ?_)
                    clear hl
                    intro hl
                    have lp_35 : ∀ (n_36 : Nat) (j_38 : Nat) (fT_39 : Nat → Int32), 5 - j_38 < n_36 → j_38 ≤ 5 → (∀ x, x < j_38 → fT_39 x = cF 3 x) → ∀ (H : Heap) (locs : List Loc) (ls : Array Slot), va_P G CL [zzG cy 3 qF rF, zzI cy (rF 0) 5 (cF 0), zzI cy (rF 1) 5 (cF 1), zzI cy (rF 2) 5 (cF 2), zzI cy (rF 3) 5 (cF 3), zzI cy (rF 4) 5 (cF 4), zzI cy (rF 5) 5 (cF 5), zzI cy (rF 6) 5 (cF 6), zzI cy (rF 7) 5 (cF 7), zzG cy 3 qG rG, zzI cy (rG 0) 5 (cF 0), zzI cy (rG 1) 5 (cF 1), zzI cy (rG 2) 5 (cF 2), zzI cy (rG 3) 5 fT_39, zzI cy (rG 4) 5 (cG 4), zzI cy (rG 5) 5 (cG 5), zzI cy (rG 6) 5 (cG 6), zzI cy (rG 7) 5 (cG 7)] H → va_D A [zzG cy 3 qF rF, zzI cy (rF 0) 5 (cF 0), zzI cy (rF 1) 5 (cF 1), zzI cy (rF 2) 5 (cF 2), zzI cy (rF 3) 5 (cF 3), zzI cy (rF 4) 5 (cF 4), zzI cy (rF 5) 5 (cF 5), zzI cy (rF 6) 5 (cF 6), zzI cy (rF 7) 5 (cF 7), zzG cy 3 qG rG, zzI cy (rG 0) 5 (cF 0), zzI cy (rG 1) 5 (cF 1), zzI cy (rG 2) 5 (cF 2), zzI cy (rG 3) 5 fT_39, zzI cy (rG 4) 5 (cG 4), zzI cy (rG 5) 5 (cG 5), zzI cy (rG 6) 5 (cG 6), zzI cy (rG 7) 5 (cG 7)] → va_S A s.heap H locs → lv_has ls 4 [(3, .int (nI j_38)), (2, .int 3), (0, .ref qF), (1, .ref qG)] → W p l e (Rm 1 0 0) s m (List.toArray (α := Value) [.ref qF, .ref qG]) below meth c H locs 0 0 (MQ below ((Wv G (fun u => u = [zzG cy 3 qF rF, zzI cy (rF 0) 5 (cF 0), zzI cy (rF 1) 5 (cF 1), zzI cy (rF 2) 5 (cF 2), zzI cy (rF 3) 5 (cF 3), zzI cy (rF 4) 5 (cF 4), zzI cy (rF 5) 5 (cF 5), zzI cy (rF 6) 5 (cF 6), zzI cy (rF 7) 5 (cF 7), zzG cy 3 qG rG, zzI cy (rG 0) 5 (cF 0), zzI cy (rG 1) 5 (cF 1), zzI cy (rG 2) 5 (cF 2), zzI cy (rG 3) 5 (cF 3), zzI cy (rG 4) 5 (cF 4), zzI cy (rG 5) 5 (cF 5), zzI cy (rG 6) 5 (cF 6), zzI cy (rG 7) 5 (cF 7)])) A) (List.toArray (α := Value) [.ref qF, .ref qG]) s 0 0 A) (F0 m 10 ls []) := by
                      intro n_36
                      induction n_36 with
                      | zero => intro j_38 fT_39 hm9; exact absurd hm9 (Nat.not_lt_zero _)
                      | succ n_36 ih_37 =>
                        intro j_38 fT_39 hm_42 hj_40 hc_41 H locs ls hP hD hS hl
                        refine lv_iload_n hx hb (g_29 bX6_overAll rfl) rfl (lv_at hl 0 rfl) ?_
                        refine lv_aload_n hx hb (g_42 bX6_overAll rfl) rfl (lv_at hl 2 rfl) ?_
                        refine lv_iload_n hx hb (g_28 bX6_overAll rfl) rfl (lv_at hl 1 rfl) ?_
                        refine va_alda hx hb hK hP 0 3 rfl rfl (in_c rfl) (g_50 bX6_overAll rfl) ?_
                        refine lv_setv (v := .ref (rF 3)) (rfl) ?_
                        refine va_alen hx hb hK hP 4 0 rfl rfl (v := 5) rfl (g_190 bX6_overAll rfl) ?_
                        refine lv_icmp_ge (tgt := 34) hx hb dX6_overAll_15 (by decide +kernel) (fun c_43 => ?_) (fun c_43 => ?_)
                        · have hlt_44 : j_38 = 5 := Nat.le_antisymm (by omega) (lp_ge rfl (rfl : (5 : Int32) = nI 5) (by omega) (by omega) c_43)
                          rw [hlt_44] at hc_41
                          replace hP : va_P G CL [zzG cy 3 qF rF, zzI cy (rF 0) 5 (cF 0), zzI cy (rF 1) 5 (cF 1), zzI cy (rF 2) 5 (cF 2), zzI cy (rF 3) 5 (cF 3), zzI cy (rF 4) 5 (cF 4), zzI cy (rF 5) 5 (cF 5), zzI cy (rF 6) 5 (cF 6), zzI cy (rF 7) 5 (cF 7), zzG cy 3 qG rG, zzI cy (rG 0) 5 (cF 0), zzI cy (rG 1) 5 (cF 1), zzI cy (rG 2) 5 (cF 2), zzI cy (rG 3) 5 (cF 3), zzI cy (rG 4) 5 (cG 4), zzI cy (rG 5) 5 (cG 5), zzI cy (rG 6) 5 (cG 6), zzI cy (rG 7) 5 (cG 7)] H := arr_at hP (n0 := 13) rfl hc_41
                          replace hD : va_D A [zzG cy 3 qF rF, zzI cy (rF 0) 5 (cF 0), zzI cy (rF 1) 5 (cF 1), zzI cy (rF 2) 5 (cF 2), zzI cy (rF 3) 5 (cF 3), zzI cy (rF 4) 5 (cF 4), zzI cy (rF 5) 5 (cF 5), zzI cy (rF 6) 5 (cF 6), zzI cy (rF 7) 5 (cF 7), zzG cy 3 qG rG, zzI cy (rG 0) 5 (cF 0), zzI cy (rG 1) 5 (cF 1), zzI cy (rG 2) 5 (cF 2), zzI cy (rG 3) 5 (cF 3), zzI cy (rG 4) 5 (cG 4), zzI cy (rG 5) 5 (cG 5), zzI cy (rG 6) 5 (cG 6), zzI cy (rG 7) 5 (cG 7)] := arr_dt hD (n0 := 13) rfl
                          refine lv_iinc (v := 4) (lv' := [(2, .int 4), (3, .int (nI j_38)), (0, .ref qF), (1, .ref qG)]) hx hb dX6_overAll_34 hl (k := 1) rfl (by decide +kernel) (by decide +kernel) rfl (fun ls => ?_)
                          clear hl
                          intro hl
                          refine lv_goto (tgt := 2) hx hb dX6_overAll_37 (by decide +kernel) ?_
                          refine lv_iload_n hx hb (g_28 bX6_overAll rfl) rfl (lv_at hl 0 rfl) ?_
                          refine lv_aload_n hx hb (g_42 bX6_overAll rfl) rfl (lv_at hl 2 rfl) ?_
                          refine va_alen hx hb hK hP 0 3 rfl rfl (v := 8) rfl (g_190 bX6_overAll rfl) ?_
                          refine lv_icmp_ge (tgt := 40) hx hb dX6_overAll_5 (by decide +kernel) (fun h9 => absurd h9 (by decide +kernel)) (fun _ => ?_)
                          refine lv_iconst (v := 0) hx hb (g_3 bX6_overAll rfl) (by decide +kernel) ?_
                          refine lv_istore_n (lv' := [(3, .int 0), (2, .int 4), (0, .ref qF), (1, .ref qG)]) hx hb (g_62 bX6_overAll rfl) rfl hl (by decide +kernel) rfl (fun ls => ?_)
                          clear hl
                          intro hl
                          have lp_46 : ∀ (n_47 : Nat) (j_49 : Nat) (fT_50 : Nat → Int32), 5 - j_49 < n_47 → j_49 ≤ 5 → (∀ x, x < j_49 → fT_50 x = cF 4 x) → ∀ (H : Heap) (locs : List Loc) (ls : Array Slot), va_P G CL [zzG cy 3 qF rF, zzI cy (rF 0) 5 (cF 0), zzI cy (rF 1) 5 (cF 1), zzI cy (rF 2) 5 (cF 2), zzI cy (rF 3) 5 (cF 3), zzI cy (rF 4) 5 (cF 4), zzI cy (rF 5) 5 (cF 5), zzI cy (rF 6) 5 (cF 6), zzI cy (rF 7) 5 (cF 7), zzG cy 3 qG rG, zzI cy (rG 0) 5 (cF 0), zzI cy (rG 1) 5 (cF 1), zzI cy (rG 2) 5 (cF 2), zzI cy (rG 3) 5 (cF 3), zzI cy (rG 4) 5 fT_50, zzI cy (rG 5) 5 (cG 5), zzI cy (rG 6) 5 (cG 6), zzI cy (rG 7) 5 (cG 7)] H → va_D A [zzG cy 3 qF rF, zzI cy (rF 0) 5 (cF 0), zzI cy (rF 1) 5 (cF 1), zzI cy (rF 2) 5 (cF 2), zzI cy (rF 3) 5 (cF 3), zzI cy (rF 4) 5 (cF 4), zzI cy (rF 5) 5 (cF 5), zzI cy (rF 6) 5 (cF 6), zzI cy (rF 7) 5 (cF 7), zzG cy 3 qG rG, zzI cy (rG 0) 5 (cF 0), zzI cy (rG 1) 5 (cF 1), zzI cy (rG 2) 5 (cF 2), zzI cy (rG 3) 5 (cF 3), zzI cy (rG 4) 5 fT_50, zzI cy (rG 5) 5 (cG 5), zzI cy (rG 6) 5 (cG 6), zzI cy (rG 7) 5 (cG 7)] → va_S A s.heap H locs → lv_has ls 4 [(3, .int (nI j_49)), (2, .int 4), (0, .ref qF), (1, .ref qG)] → W p l e (Rm 1 0 0) s m (List.toArray (α := Value) [.ref qF, .ref qG]) below meth c H locs 0 0 (MQ below ((Wv G (fun u => u = [zzG cy 3 qF rF, zzI cy (rF 0) 5 (cF 0), zzI cy (rF 1) 5 (cF 1), zzI cy (rF 2) 5 (cF 2), zzI cy (rF 3) 5 (cF 3), zzI cy (rF 4) 5 (cF 4), zzI cy (rF 5) 5 (cF 5), zzI cy (rF 6) 5 (cF 6), zzI cy (rF 7) 5 (cF 7), zzG cy 3 qG rG, zzI cy (rG 0) 5 (cF 0), zzI cy (rG 1) 5 (cF 1), zzI cy (rG 2) 5 (cF 2), zzI cy (rG 3) 5 (cF 3), zzI cy (rG 4) 5 (cF 4), zzI cy (rG 5) 5 (cF 5), zzI cy (rG 6) 5 (cF 6), zzI cy (rG 7) 5 (cF 7)])) A) (List.toArray (α := Value) [.ref qF, .ref qG]) s 0 0 A) (F0 m 10 ls []) := by
                            intro n_47
                            induction n_47 with
                            | zero => intro j_49 fT_50 hm9; exact absurd hm9 (Nat.not_lt_zero _)
                            | succ n_47 ih_48 =>
                              intro j_49 fT_50 hm_53 hj_51 hc_52 H locs ls hP hD hS hl
                              refine lv_iload_n hx hb (g_29 bX6_overAll rfl) rfl (lv_at hl 0 rfl) ?_
                              refine lv_aload_n hx hb (g_42 bX6_overAll rfl) rfl (lv_at hl 2 rfl) ?_
                              refine lv_iload_n hx hb (g_28 bX6_overAll rfl) rfl (lv_at hl 1 rfl) ?_
                              refine va_alda hx hb hK hP 0 3 rfl rfl (in_c rfl) (g_50 bX6_overAll rfl) ?_
                              refine lv_setv (v := .ref (rF 4)) (rfl) ?_
                              refine va_alen hx hb hK hP 5 0 rfl rfl (v := 5) rfl (g_190 bX6_overAll rfl) ?_
                              refine lv_icmp_ge (tgt := 34) hx hb dX6_overAll_15 (by decide +kernel) (fun c_54 => ?_) (fun c_54 => ?_)
                              · have hlt_55 : j_49 = 5 := Nat.le_antisymm (by omega) (lp_ge rfl (rfl : (5 : Int32) = nI 5) (by omega) (by omega) c_54)
                                rw [hlt_55] at hc_52
                                replace hP : va_P G CL [zzG cy 3 qF rF, zzI cy (rF 0) 5 (cF 0), zzI cy (rF 1) 5 (cF 1), zzI cy (rF 2) 5 (cF 2), zzI cy (rF 3) 5 (cF 3), zzI cy (rF 4) 5 (cF 4), zzI cy (rF 5) 5 (cF 5), zzI cy (rF 6) 5 (cF 6), zzI cy (rF 7) 5 (cF 7), zzG cy 3 qG rG, zzI cy (rG 0) 5 (cF 0), zzI cy (rG 1) 5 (cF 1), zzI cy (rG 2) 5 (cF 2), zzI cy (rG 3) 5 (cF 3), zzI cy (rG 4) 5 (cF 4), zzI cy (rG 5) 5 (cG 5), zzI cy (rG 6) 5 (cG 6), zzI cy (rG 7) 5 (cG 7)] H := arr_at hP (n0 := 14) rfl hc_52
                                replace hD : va_D A [zzG cy 3 qF rF, zzI cy (rF 0) 5 (cF 0), zzI cy (rF 1) 5 (cF 1), zzI cy (rF 2) 5 (cF 2), zzI cy (rF 3) 5 (cF 3), zzI cy (rF 4) 5 (cF 4), zzI cy (rF 5) 5 (cF 5), zzI cy (rF 6) 5 (cF 6), zzI cy (rF 7) 5 (cF 7), zzG cy 3 qG rG, zzI cy (rG 0) 5 (cF 0), zzI cy (rG 1) 5 (cF 1), zzI cy (rG 2) 5 (cF 2), zzI cy (rG 3) 5 (cF 3), zzI cy (rG 4) 5 (cF 4), zzI cy (rG 5) 5 (cG 5), zzI cy (rG 6) 5 (cG 6), zzI cy (rG 7) 5 (cG 7)] := arr_dt hD (n0 := 14) rfl
                                refine lv_iinc (v := 5) (lv' := [(2, .int 5), (3, .int (nI j_49)), (0, .ref qF), (1, .ref qG)]) hx hb dX6_overAll_34 hl (k := 1) rfl (by decide +kernel) (by decide +kernel) rfl (fun ls => ?_)
                                clear hl
                                intro hl
                                refine lv_goto (tgt := 2) hx hb dX6_overAll_37 (by decide +kernel) ?_
                                refine lv_iload_n hx hb (g_28 bX6_overAll rfl) rfl (lv_at hl 0 rfl) ?_
                                refine lv_aload_n hx hb (g_42 bX6_overAll rfl) rfl (lv_at hl 2 rfl) ?_
                                refine va_alen hx hb hK hP 0 3 rfl rfl (v := 8) rfl (g_190 bX6_overAll rfl) ?_
                                refine lv_icmp_ge (tgt := 40) hx hb dX6_overAll_5 (by decide +kernel) (fun h9 => absurd h9 (by decide +kernel)) (fun _ => ?_)
                                refine lv_iconst (v := 0) hx hb (g_3 bX6_overAll rfl) (by decide +kernel) ?_
                                refine lv_istore_n (lv' := [(3, .int 0), (2, .int 5), (0, .ref qF), (1, .ref qG)]) hx hb (g_62 bX6_overAll rfl) rfl hl (by decide +kernel) rfl (fun ls => ?_)
                                clear hl
                                intro hl
                                have lp_57 : ∀ (n_58 : Nat) (j_60 : Nat) (fT_61 : Nat → Int32), 5 - j_60 < n_58 → j_60 ≤ 5 → (∀ x, x < j_60 → fT_61 x = cF 5 x) → ∀ (H : Heap) (locs : List Loc) (ls : Array Slot), va_P G CL [zzG cy 3 qF rF, zzI cy (rF 0) 5 (cF 0), zzI cy (rF 1) 5 (cF 1), zzI cy (rF 2) 5 (cF 2), zzI cy (rF 3) 5 (cF 3), zzI cy (rF 4) 5 (cF 4), zzI cy (rF 5) 5 (cF 5), zzI cy (rF 6) 5 (cF 6), zzI cy (rF 7) 5 (cF 7), zzG cy 3 qG rG, zzI cy (rG 0) 5 (cF 0), zzI cy (rG 1) 5 (cF 1), zzI cy (rG 2) 5 (cF 2), zzI cy (rG 3) 5 (cF 3), zzI cy (rG 4) 5 (cF 4), zzI cy (rG 5) 5 fT_61, zzI cy (rG 6) 5 (cG 6), zzI cy (rG 7) 5 (cG 7)] H → va_D A [zzG cy 3 qF rF, zzI cy (rF 0) 5 (cF 0), zzI cy (rF 1) 5 (cF 1), zzI cy (rF 2) 5 (cF 2), zzI cy (rF 3) 5 (cF 3), zzI cy (rF 4) 5 (cF 4), zzI cy (rF 5) 5 (cF 5), zzI cy (rF 6) 5 (cF 6), zzI cy (rF 7) 5 (cF 7), zzG cy 3 qG rG, zzI cy (rG 0) 5 (cF 0), zzI cy (rG 1) 5 (cF 1), zzI cy (rG 2) 5 (cF 2), zzI cy (rG 3) 5 (cF 3), zzI cy (rG 4) 5 (cF 4), zzI cy (rG 5) 5 fT_61, zzI cy (rG 6) 5 (cG 6), zzI cy (rG 7) 5 (cG 7)] → va_S A s.heap H locs → lv_has ls 4 [(3, .int (nI j_60)), (2, .int 5), (0, .ref qF), (1, .ref qG)] → W p l e (Rm 1 0 0) s m (List.toArray (α := Value) [.ref qF, .ref qG]) below meth c H locs 0 0 (MQ below ((Wv G (fun u => u = [zzG cy 3 qF rF, zzI cy (rF 0) 5 (cF 0), zzI cy (rF 1) 5 (cF 1), zzI cy (rF 2) 5 (cF 2), zzI cy (rF 3) 5 (cF 3), zzI cy (rF 4) 5 (cF 4), zzI cy (rF 5) 5 (cF 5), zzI cy (rF 6) 5 (cF 6), zzI cy (rF 7) 5 (cF 7), zzG cy 3 qG rG, zzI cy (rG 0) 5 (cF 0), zzI cy (rG 1) 5 (cF 1), zzI cy (rG 2) 5 (cF 2), zzI cy (rG 3) 5 (cF 3), zzI cy (rG 4) 5 (cF 4), zzI cy (rG 5) 5 (cF 5), zzI cy (rG 6) 5 (cF 6), zzI cy (rG 7) 5 (cF 7)])) A) (List.toArray (α := Value) [.ref qF, .ref qG]) s 0 0 A) (F0 m 10 ls []) := by
                                  intro n_58
                                  induction n_58 with
                                  | zero => intro j_60 fT_61 hm9; exact absurd hm9 (Nat.not_lt_zero _)
                                  | succ n_58 ih_59 =>
                                    intro j_60 fT_61 hm_64 hj_62 hc_63 H locs ls hP hD hS hl
                                    refine lv_iload_n hx hb (g_29 bX6_overAll rfl) rfl (lv_at hl 0 rfl) ?_
                                    refine lv_aload_n hx hb (g_42 bX6_overAll rfl) rfl (lv_at hl 2 rfl) ?_
                                    refine lv_iload_n hx hb (g_28 bX6_overAll rfl) rfl (lv_at hl 1 rfl) ?_
                                    refine va_alda hx hb hK hP 0 3 rfl rfl (in_c rfl) (g_50 bX6_overAll rfl) ?_
                                    refine lv_setv (v := .ref (rF 5)) (rfl) ?_
                                    refine va_alen hx hb hK hP 6 0 rfl rfl (v := 5) rfl (g_190 bX6_overAll rfl) ?_
                                    refine lv_icmp_ge (tgt := 34) hx hb dX6_overAll_15 (by decide +kernel) (fun c_65 => ?_) (fun c_65 => ?_)
                                    · have hlt_66 : j_60 = 5 := Nat.le_antisymm (by omega) (lp_ge rfl (rfl : (5 : Int32) = nI 5) (by omega) (by omega) c_65)
                                      rw [hlt_66] at hc_63
                                      replace hP : va_P G CL [zzG cy 3 qF rF, zzI cy (rF 0) 5 (cF 0), zzI cy (rF 1) 5 (cF 1), zzI cy (rF 2) 5 (cF 2), zzI cy (rF 3) 5 (cF 3), zzI cy (rF 4) 5 (cF 4), zzI cy (rF 5) 5 (cF 5), zzI cy (rF 6) 5 (cF 6), zzI cy (rF 7) 5 (cF 7), zzG cy 3 qG rG, zzI cy (rG 0) 5 (cF 0), zzI cy (rG 1) 5 (cF 1), zzI cy (rG 2) 5 (cF 2), zzI cy (rG 3) 5 (cF 3), zzI cy (rG 4) 5 (cF 4), zzI cy (rG 5) 5 (cF 5), zzI cy (rG 6) 5 (cG 6), zzI cy (rG 7) 5 (cG 7)] H := arr_at hP (n0 := 15) rfl hc_63
                                      replace hD : va_D A [zzG cy 3 qF rF, zzI cy (rF 0) 5 (cF 0), zzI cy (rF 1) 5 (cF 1), zzI cy (rF 2) 5 (cF 2), zzI cy (rF 3) 5 (cF 3), zzI cy (rF 4) 5 (cF 4), zzI cy (rF 5) 5 (cF 5), zzI cy (rF 6) 5 (cF 6), zzI cy (rF 7) 5 (cF 7), zzG cy 3 qG rG, zzI cy (rG 0) 5 (cF 0), zzI cy (rG 1) 5 (cF 1), zzI cy (rG 2) 5 (cF 2), zzI cy (rG 3) 5 (cF 3), zzI cy (rG 4) 5 (cF 4), zzI cy (rG 5) 5 (cF 5), zzI cy (rG 6) 5 (cG 6), zzI cy (rG 7) 5 (cG 7)] := arr_dt hD (n0 := 15) rfl
                                      refine lv_iinc (v := 6) (lv' := [(2, .int 6), (3, .int (nI j_60)), (0, .ref qF), (1, .ref qG)]) hx hb dX6_overAll_34 hl (k := 1) rfl (by decide +kernel) (by decide +kernel) rfl (fun ls => ?_)
                                      clear hl
                                      intro hl
                                      refine lv_goto (tgt := 2) hx hb dX6_overAll_37 (by decide +kernel) ?_
                                      refine lv_iload_n hx hb (g_28 bX6_overAll rfl) rfl (lv_at hl 0 rfl) ?_
                                      refine lv_aload_n hx hb (g_42 bX6_overAll rfl) rfl (lv_at hl 2 rfl) ?_
                                      refine va_alen hx hb hK hP 0 3 rfl rfl (v := 8) rfl (g_190 bX6_overAll rfl) ?_
                                      refine lv_icmp_ge (tgt := 40) hx hb dX6_overAll_5 (by decide +kernel) (fun h9 => absurd h9 (by decide +kernel)) (fun _ => ?_)
                                      refine lv_iconst (v := 0) hx hb (g_3 bX6_overAll rfl) (by decide +kernel) ?_
                                      refine lv_istore_n (lv' := [(3, .int 0), (2, .int 6), (0, .ref qF), (1, .ref qG)]) hx hb (g_62 bX6_overAll rfl) rfl hl (by decide +kernel) rfl (fun ls => ?_)
                                      clear hl
                                      intro hl
                                      have lp_68 : ∀ (n_69 : Nat) (j_71 : Nat) (fT_72 : Nat → Int32), 5 - j_71 < n_69 → j_71 ≤ 5 → (∀ x, x < j_71 → fT_72 x = cF 6 x) → ∀ (H : Heap) (locs : List Loc) (ls : Array Slot), va_P G CL [zzG cy 3 qF rF, zzI cy (rF 0) 5 (cF 0), zzI cy (rF 1) 5 (cF 1), zzI cy (rF 2) 5 (cF 2), zzI cy (rF 3) 5 (cF 3), zzI cy (rF 4) 5 (cF 4), zzI cy (rF 5) 5 (cF 5), zzI cy (rF 6) 5 (cF 6), zzI cy (rF 7) 5 (cF 7), zzG cy 3 qG rG, zzI cy (rG 0) 5 (cF 0), zzI cy (rG 1) 5 (cF 1), zzI cy (rG 2) 5 (cF 2), zzI cy (rG 3) 5 (cF 3), zzI cy (rG 4) 5 (cF 4), zzI cy (rG 5) 5 (cF 5), zzI cy (rG 6) 5 fT_72, zzI cy (rG 7) 5 (cG 7)] H → va_D A [zzG cy 3 qF rF, zzI cy (rF 0) 5 (cF 0), zzI cy (rF 1) 5 (cF 1), zzI cy (rF 2) 5 (cF 2), zzI cy (rF 3) 5 (cF 3), zzI cy (rF 4) 5 (cF 4), zzI cy (rF 5) 5 (cF 5), zzI cy (rF 6) 5 (cF 6), zzI cy (rF 7) 5 (cF 7), zzG cy 3 qG rG, zzI cy (rG 0) 5 (cF 0), zzI cy (rG 1) 5 (cF 1), zzI cy (rG 2) 5 (cF 2), zzI cy (rG 3) 5 (cF 3), zzI cy (rG 4) 5 (cF 4), zzI cy (rG 5) 5 (cF 5), zzI cy (rG 6) 5 fT_72, zzI cy (rG 7) 5 (cG 7)] → va_S A s.heap H locs → lv_has ls 4 [(3, .int (nI j_71)), (2, .int 6), (0, .ref qF), (1, .ref qG)] → W p l e (Rm 1 0 0) s m (List.toArray (α := Value) [.ref qF, .ref qG]) below meth c H locs 0 0 (MQ below ((Wv G (fun u => u = [zzG cy 3 qF rF, zzI cy (rF 0) 5 (cF 0), zzI cy (rF 1) 5 (cF 1), zzI cy (rF 2) 5 (cF 2), zzI cy (rF 3) 5 (cF 3), zzI cy (rF 4) 5 (cF 4), zzI cy (rF 5) 5 (cF 5), zzI cy (rF 6) 5 (cF 6), zzI cy (rF 7) 5 (cF 7), zzG cy 3 qG rG, zzI cy (rG 0) 5 (cF 0), zzI cy (rG 1) 5 (cF 1), zzI cy (rG 2) 5 (cF 2), zzI cy (rG 3) 5 (cF 3), zzI cy (rG 4) 5 (cF 4), zzI cy (rG 5) 5 (cF 5), zzI cy (rG 6) 5 (cF 6), zzI cy (rG 7) 5 (cF 7)])) A) (List.toArray (α := Value) [.ref qF, .ref qG]) s 0 0 A) (F0 m 10 ls []) := by
                                        intro n_69
                                        induction n_69 with
                                        | zero => intro j_71 fT_72 hm9; exact absurd hm9 (Nat.not_lt_zero _)
                                        | succ n_69 ih_70 =>
                                          intro j_71 fT_72 hm_75 hj_73 hc_74 H locs ls hP hD hS hl
                                          refine lv_iload_n hx hb (g_29 bX6_overAll rfl) rfl (lv_at hl 0 rfl) ?_
                                          refine lv_aload_n hx hb (g_42 bX6_overAll rfl) rfl (lv_at hl 2 rfl) ?_
                                          refine lv_iload_n hx hb (g_28 bX6_overAll rfl) rfl (lv_at hl 1 rfl) ?_
                                          refine va_alda hx hb hK hP 0 3 rfl rfl (in_c rfl) (g_50 bX6_overAll rfl) ?_
                                          refine lv_setv (v := .ref (rF 6)) (rfl) ?_
                                          refine va_alen hx hb hK hP 7 0 rfl rfl (v := 5) rfl (g_190 bX6_overAll rfl) ?_
                                          refine lv_icmp_ge (tgt := 34) hx hb dX6_overAll_15 (by decide +kernel) (fun c_76 => ?_) (fun c_76 => ?_)
                                          · have hlt_77 : j_71 = 5 := Nat.le_antisymm (by omega) (lp_ge rfl (rfl : (5 : Int32) = nI 5) (by omega) (by omega) c_76)
                                            rw [hlt_77] at hc_74
                                            replace hP : va_P G CL [zzG cy 3 qF rF, zzI cy (rF 0) 5 (cF 0), zzI cy (rF 1) 5 (cF 1), zzI cy (rF 2) 5 (cF 2), zzI cy (rF 3) 5 (cF 3), zzI cy (rF 4) 5 (cF 4), zzI cy (rF 5) 5 (cF 5), zzI cy (rF 6) 5 (cF 6), zzI cy (rF 7) 5 (cF 7), zzG cy 3 qG rG, zzI cy (rG 0) 5 (cF 0), zzI cy (rG 1) 5 (cF 1), zzI cy (rG 2) 5 (cF 2), zzI cy (rG 3) 5 (cF 3), zzI cy (rG 4) 5 (cF 4), zzI cy (rG 5) 5 (cF 5), zzI cy (rG 6) 5 (cF 6), zzI cy (rG 7) 5 (cG 7)] H := arr_at hP (n0 := 16) rfl hc_74
                                            replace hD : va_D A [zzG cy 3 qF rF, zzI cy (rF 0) 5 (cF 0), zzI cy (rF 1) 5 (cF 1), zzI cy (rF 2) 5 (cF 2), zzI cy (rF 3) 5 (cF 3), zzI cy (rF 4) 5 (cF 4), zzI cy (rF 5) 5 (cF 5), zzI cy (rF 6) 5 (cF 6), zzI cy (rF 7) 5 (cF 7), zzG cy 3 qG rG, zzI cy (rG 0) 5 (cF 0), zzI cy (rG 1) 5 (cF 1), zzI cy (rG 2) 5 (cF 2), zzI cy (rG 3) 5 (cF 3), zzI cy (rG 4) 5 (cF 4), zzI cy (rG 5) 5 (cF 5), zzI cy (rG 6) 5 (cF 6), zzI cy (rG 7) 5 (cG 7)] := arr_dt hD (n0 := 16) rfl
                                            refine lv_iinc (v := 7) (lv' := [(2, .int 7), (3, .int (nI j_71)), (0, .ref qF), (1, .ref qG)]) hx hb dX6_overAll_34 hl (k := 1) rfl (by decide +kernel) (by decide +kernel) rfl (fun ls => ?_)
                                            clear hl
                                            intro hl
                                            refine lv_goto (tgt := 2) hx hb dX6_overAll_37 (by decide +kernel) ?_
                                            refine lv_iload_n hx hb (g_28 bX6_overAll rfl) rfl (lv_at hl 0 rfl) ?_
                                            refine lv_aload_n hx hb (g_42 bX6_overAll rfl) rfl (lv_at hl 2 rfl) ?_
                                            refine va_alen hx hb hK hP 0 3 rfl rfl (v := 8) rfl (g_190 bX6_overAll rfl) ?_
                                            refine lv_icmp_ge (tgt := 40) hx hb dX6_overAll_5 (by decide +kernel) (fun h9 => absurd h9 (by decide +kernel)) (fun _ => ?_)
                                            refine lv_iconst (v := 0) hx hb (g_3 bX6_overAll rfl) (by decide +kernel) ?_
                                            refine lv_istore_n (lv' := [(3, .int 0), (2, .int 7), (0, .ref qF), (1, .ref qG)]) hx hb (g_62 bX6_overAll rfl) rfl hl (by decide +kernel) rfl (fun ls => ?_)
                                            clear hl
                                            intro hl
                                            have lp_79 : ∀ (n_80 : Nat) (j_82 : Nat) (fT_83 : Nat → Int32), 5 - j_82 < n_80 → j_82 ≤ 5 → (∀ x, x < j_82 → fT_83 x = cF 7 x) → ∀ (H : Heap) (locs : List Loc) (ls : Array Slot), va_P G CL [zzG cy 3 qF rF, zzI cy (rF 0) 5 (cF 0), zzI cy (rF 1) 5 (cF 1), zzI cy (rF 2) 5 (cF 2), zzI cy (rF 3) 5 (cF 3), zzI cy (rF 4) 5 (cF 4), zzI cy (rF 5) 5 (cF 5), zzI cy (rF 6) 5 (cF 6), zzI cy (rF 7) 5 (cF 7), zzG cy 3 qG rG, zzI cy (rG 0) 5 (cF 0), zzI cy (rG 1) 5 (cF 1), zzI cy (rG 2) 5 (cF 2), zzI cy (rG 3) 5 (cF 3), zzI cy (rG 4) 5 (cF 4), zzI cy (rG 5) 5 (cF 5), zzI cy (rG 6) 5 (cF 6), zzI cy (rG 7) 5 fT_83] H → va_D A [zzG cy 3 qF rF, zzI cy (rF 0) 5 (cF 0), zzI cy (rF 1) 5 (cF 1), zzI cy (rF 2) 5 (cF 2), zzI cy (rF 3) 5 (cF 3), zzI cy (rF 4) 5 (cF 4), zzI cy (rF 5) 5 (cF 5), zzI cy (rF 6) 5 (cF 6), zzI cy (rF 7) 5 (cF 7), zzG cy 3 qG rG, zzI cy (rG 0) 5 (cF 0), zzI cy (rG 1) 5 (cF 1), zzI cy (rG 2) 5 (cF 2), zzI cy (rG 3) 5 (cF 3), zzI cy (rG 4) 5 (cF 4), zzI cy (rG 5) 5 (cF 5), zzI cy (rG 6) 5 (cF 6), zzI cy (rG 7) 5 fT_83] → va_S A s.heap H locs → lv_has ls 4 [(3, .int (nI j_82)), (2, .int 7), (0, .ref qF), (1, .ref qG)] → W p l e (Rm 1 0 0) s m (List.toArray (α := Value) [.ref qF, .ref qG]) below meth c H locs 0 0 (MQ below ((Wv G (fun u => u = [zzG cy 3 qF rF, zzI cy (rF 0) 5 (cF 0), zzI cy (rF 1) 5 (cF 1), zzI cy (rF 2) 5 (cF 2), zzI cy (rF 3) 5 (cF 3), zzI cy (rF 4) 5 (cF 4), zzI cy (rF 5) 5 (cF 5), zzI cy (rF 6) 5 (cF 6), zzI cy (rF 7) 5 (cF 7), zzG cy 3 qG rG, zzI cy (rG 0) 5 (cF 0), zzI cy (rG 1) 5 (cF 1), zzI cy (rG 2) 5 (cF 2), zzI cy (rG 3) 5 (cF 3), zzI cy (rG 4) 5 (cF 4), zzI cy (rG 5) 5 (cF 5), zzI cy (rG 6) 5 (cF 6), zzI cy (rG 7) 5 (cF 7)])) A) (List.toArray (α := Value) [.ref qF, .ref qG]) s 0 0 A) (F0 m 10 ls []) := by
                                              intro n_80
                                              induction n_80 with
                                              | zero => intro j_82 fT_83 hm9; exact absurd hm9 (Nat.not_lt_zero _)
                                              | succ n_80 ih_81 =>
                                                intro j_82 fT_83 hm_86 hj_84 hc_85 H locs ls hP hD hS hl
                                                refine lv_iload_n hx hb (g_29 bX6_overAll rfl) rfl (lv_at hl 0 rfl) ?_
                                                refine lv_aload_n hx hb (g_42 bX6_overAll rfl) rfl (lv_at hl 2 rfl) ?_
                                                refine lv_iload_n hx hb (g_28 bX6_overAll rfl) rfl (lv_at hl 1 rfl) ?_
                                                refine va_alda hx hb hK hP 0 3 rfl rfl (in_c rfl) (g_50 bX6_overAll rfl) ?_
                                                refine lv_setv (v := .ref (rF 7)) (rfl) ?_
                                                refine va_alen hx hb hK hP 8 0 rfl rfl (v := 5) rfl (g_190 bX6_overAll rfl) ?_
                                                refine lv_icmp_ge (tgt := 34) hx hb dX6_overAll_15 (by decide +kernel) (fun c_87 => ?_) (fun c_87 => ?_)
                                                · have hlt_88 : j_82 = 5 := Nat.le_antisymm (by omega) (lp_ge rfl (rfl : (5 : Int32) = nI 5) (by omega) (by omega) c_87)
                                                  rw [hlt_88] at hc_85
                                                  replace hP : va_P G CL [zzG cy 3 qF rF, zzI cy (rF 0) 5 (cF 0), zzI cy (rF 1) 5 (cF 1), zzI cy (rF 2) 5 (cF 2), zzI cy (rF 3) 5 (cF 3), zzI cy (rF 4) 5 (cF 4), zzI cy (rF 5) 5 (cF 5), zzI cy (rF 6) 5 (cF 6), zzI cy (rF 7) 5 (cF 7), zzG cy 3 qG rG, zzI cy (rG 0) 5 (cF 0), zzI cy (rG 1) 5 (cF 1), zzI cy (rG 2) 5 (cF 2), zzI cy (rG 3) 5 (cF 3), zzI cy (rG 4) 5 (cF 4), zzI cy (rG 5) 5 (cF 5), zzI cy (rG 6) 5 (cF 6), zzI cy (rG 7) 5 (cF 7)] H := arr_at hP (n0 := 17) rfl hc_85
                                                  replace hD : va_D A [zzG cy 3 qF rF, zzI cy (rF 0) 5 (cF 0), zzI cy (rF 1) 5 (cF 1), zzI cy (rF 2) 5 (cF 2), zzI cy (rF 3) 5 (cF 3), zzI cy (rF 4) 5 (cF 4), zzI cy (rF 5) 5 (cF 5), zzI cy (rF 6) 5 (cF 6), zzI cy (rF 7) 5 (cF 7), zzG cy 3 qG rG, zzI cy (rG 0) 5 (cF 0), zzI cy (rG 1) 5 (cF 1), zzI cy (rG 2) 5 (cF 2), zzI cy (rG 3) 5 (cF 3), zzI cy (rG 4) 5 (cF 4), zzI cy (rG 5) 5 (cF 5), zzI cy (rG 6) 5 (cF 6), zzI cy (rG 7) 5 (cF 7)] := arr_dt hD (n0 := 17) rfl
                                                  refine lv_iinc (v := 8) (lv' := [(2, .int 8), (3, .int (nI j_82)), (0, .ref qF), (1, .ref qG)]) hx hb dX6_overAll_34 hl (k := 1) rfl (by decide +kernel) (by decide +kernel) rfl (fun ls => ?_)
                                                  clear hl
                                                  intro hl
                                                  refine lv_goto (tgt := 2) hx hb dX6_overAll_37 (by decide +kernel) ?_
                                                  refine lv_iload_n hx hb (g_28 bX6_overAll rfl) rfl (lv_at hl 0 rfl) ?_
                                                  refine lv_aload_n hx hb (g_42 bX6_overAll rfl) rfl (lv_at hl 2 rfl) ?_
                                                  refine va_alen hx hb hK hP 0 3 rfl rfl (v := 8) rfl (g_190 bX6_overAll rfl) ?_
                                                  refine lv_icmp_ge (tgt := 40) hx hb dX6_overAll_5 (by decide +kernel) (fun _ => ?_) (fun h9 => absurd (by decide +kernel) h9)
                                                  exact endVs [[true, true, true, true, true, true, true, true, true, true, true, true, true, true, true, true, true, true]] hx hb hr hlocks hP hD rfl (by decide +kernel) hS rfl (g_177 bX6_overAll rfl)
                                                · have hlt_90 : j_82 < 5 := lp_lt rfl (rfl : (5 : Int32) = nI 5) (by omega) (by omega) c_87
                                                  refine lv_aload_n hx hb (g_43 bX6_overAll rfl) rfl (lv_at hl 3 rfl) ?_
                                                  refine lv_iload_n hx hb (g_28 bX6_overAll rfl) rfl (lv_at hl 1 rfl) ?_
                                                  refine va_alda hx hb hK hP 9 3 rfl rfl (in_c rfl) (g_50 bX6_overAll rfl) ?_
                                                  refine lv_setv (v := .ref (rG 7)) (rfl) ?_
                                                  refine lv_iload_n hx hb (g_29 bX6_overAll rfl) rfl (lv_at hl 0 rfl) ?_
                                                  refine lv_aload_n hx hb (g_42 bX6_overAll rfl) rfl (lv_at hl 2 rfl) ?_
                                                  refine lv_iload_n hx hb (g_28 bX6_overAll rfl) rfl (lv_at hl 1 rfl) ?_
                                                  refine va_alda hx hb hK hP 0 3 rfl rfl (in_c rfl) (g_50 bX6_overAll rfl) ?_
                                                  refine lv_setv (v := .ref (rF 7)) (rfl) ?_
                                                  refine lv_iload_n hx hb (g_29 bX6_overAll rfl) rfl (lv_at hl 0 rfl) ?_
                                                  refine va_iald hx hb hK hP 8 0 rfl rfl (vp_in_nI (by omega) (by omega)) (g_46 bX6_overAll rfl) ?_
                                                  refine lv_seti (v := (cF 7) j_82) (congrArg (cF 7) (nI_clamp (by omega))) ?_
                                                  refine va_iast hx hb hK hP hD hS 17 0 rfl rfl (vp_in_nI (by omega) (by omega)) (g_79 bX6_overAll rfl) (fun H locs => ?_)
                                                  clear hP hD hS
                                                  intro hP hD hS
                                                  rw [nI_clamp (n := j_82) (by omega)] at hP hD
                                                  have hPD := pd_as [_, _, _, _, _, _, _, _, _, _, _, _, _, _, _, _, _, zzI cy (rG 7) 5 (upd fT_83 j_82 ((cF 7) j_82))] hP hD rfl
                                                  clear hP hD
                                                  obtain ⟨hP, hD⟩ := hPD
                                                  refine lv_iinc (v := nI (j_82 + 1)) (lv' := [(3, .int (nI (j_82 + 1))), (2, .int 7), (0, .ref qF), (1, .ref qG)]) hx hb dX6_overAll_28 hl (k := 0) rfl (nI_1 _) (by decide +kernel) rfl (fun ls => ?_)
                                                  clear hl
                                                  intro hl
                                                  refine lv_goto (tgt := 10) hx hb dX6_overAll_31 (by decide +kernel) ?_
                                                  exact ih_81 (j_82 + 1) (upd fT_83 j_82 ((cF 7) j_82)) (by omega) (by omega) (cp_step hc_85) _ _ _ hP hD hS (lv_sub hl [0, 1, 2, 3] rfl)
                                            exact lp_79 ((5 - 0) + 1) 0 (cG 7) (Nat.lt_succ_self _) (Nat.zero_le _) (fun x h => absurd h (Nat.not_lt_zero _)) _ _ ls hP hD hS (lv_sub hl [0, 1, 2, 3] rfl)
                                          · have hlt_91 : j_71 < 5 := lp_lt rfl (rfl : (5 : Int32) = nI 5) (by omega) (by omega) c_76
                                            refine lv_aload_n hx hb (g_43 bX6_overAll rfl) rfl (lv_at hl 3 rfl) ?_
                                            refine lv_iload_n hx hb (g_28 bX6_overAll rfl) rfl (lv_at hl 1 rfl) ?_
                                            refine va_alda hx hb hK hP 9 3 rfl rfl (in_c rfl) (g_50 bX6_overAll rfl) ?_
                                            refine lv_setv (v := .ref (rG 6)) (rfl) ?_
                                            refine lv_iload_n hx hb (g_29 bX6_overAll rfl) rfl (lv_at hl 0 rfl) ?_
                                            refine lv_aload_n hx hb (g_42 bX6_overAll rfl) rfl (lv_at hl 2 rfl) ?_
                                            refine lv_iload_n hx hb (g_28 bX6_overAll rfl) rfl (lv_at hl 1 rfl) ?_
                                            refine va_alda hx hb hK hP 0 3 rfl rfl (in_c rfl) (g_50 bX6_overAll rfl) ?_
                                            refine lv_setv (v := .ref (rF 6)) (rfl) ?_
                                            refine lv_iload_n hx hb (g_29 bX6_overAll rfl) rfl (lv_at hl 0 rfl) ?_
                                            refine va_iald hx hb hK hP 7 0 rfl rfl (vp_in_nI (by omega) (by omega)) (g_46 bX6_overAll rfl) ?_
                                            refine lv_seti (v := (cF 6) j_71) (congrArg (cF 6) (nI_clamp (by omega))) ?_
                                            refine va_iast hx hb hK hP hD hS 16 0 rfl rfl (vp_in_nI (by omega) (by omega)) (g_79 bX6_overAll rfl) (fun H locs => ?_)
                                            clear hP hD hS
                                            intro hP hD hS
                                            rw [nI_clamp (n := j_71) (by omega)] at hP hD
                                            have hPD := pd_as [_, _, _, _, _, _, _, _, _, _, _, _, _, _, _, _, zzI cy (rG 6) 5 (upd fT_72 j_71 ((cF 6) j_71)), _] hP hD rfl
                                            clear hP hD
                                            obtain ⟨hP, hD⟩ := hPD
                                            refine lv_iinc (v := nI (j_71 + 1)) (lv' := [(3, .int (nI (j_71 + 1))), (2, .int 6), (0, .ref qF), (1, .ref qG)]) hx hb dX6_overAll_28 hl (k := 0) rfl (nI_1 _) (by decide +kernel) rfl (fun ls => ?_)
                                            clear hl
                                            intro hl
                                            refine lv_goto (tgt := 10) hx hb dX6_overAll_31 (by decide +kernel) ?_
                                            exact ih_70 (j_71 + 1) (upd fT_72 j_71 ((cF 6) j_71)) (by omega) (by omega) (cp_step hc_74) _ _ _ hP hD hS (lv_sub hl [0, 1, 2, 3] rfl)
                                      exact lp_68 ((5 - 0) + 1) 0 (cG 6) (Nat.lt_succ_self _) (Nat.zero_le _) (fun x h => absurd h (Nat.not_lt_zero _)) _ _ ls hP hD hS (lv_sub hl [0, 1, 2, 3] rfl)
                                    · have hlt_92 : j_60 < 5 := lp_lt rfl (rfl : (5 : Int32) = nI 5) (by omega) (by omega) c_65
                                      refine lv_aload_n hx hb (g_43 bX6_overAll rfl) rfl (lv_at hl 3 rfl) ?_
                                      refine lv_iload_n hx hb (g_28 bX6_overAll rfl) rfl (lv_at hl 1 rfl) ?_
                                      refine va_alda hx hb hK hP 9 3 rfl rfl (in_c rfl) (g_50 bX6_overAll rfl) ?_
                                      refine lv_setv (v := .ref (rG 5)) (rfl) ?_
                                      refine lv_iload_n hx hb (g_29 bX6_overAll rfl) rfl (lv_at hl 0 rfl) ?_
                                      refine lv_aload_n hx hb (g_42 bX6_overAll rfl) rfl (lv_at hl 2 rfl) ?_
                                      refine lv_iload_n hx hb (g_28 bX6_overAll rfl) rfl (lv_at hl 1 rfl) ?_
                                      refine va_alda hx hb hK hP 0 3 rfl rfl (in_c rfl) (g_50 bX6_overAll rfl) ?_
                                      refine lv_setv (v := .ref (rF 5)) (rfl) ?_
                                      refine lv_iload_n hx hb (g_29 bX6_overAll rfl) rfl (lv_at hl 0 rfl) ?_
                                      refine va_iald hx hb hK hP 6 0 rfl rfl (vp_in_nI (by omega) (by omega)) (g_46 bX6_overAll rfl) ?_
                                      refine lv_seti (v := (cF 5) j_60) (congrArg (cF 5) (nI_clamp (by omega))) ?_
                                      refine va_iast hx hb hK hP hD hS 15 0 rfl rfl (vp_in_nI (by omega) (by omega)) (g_79 bX6_overAll rfl) (fun H locs => ?_)
                                      clear hP hD hS
                                      intro hP hD hS
                                      rw [nI_clamp (n := j_60) (by omega)] at hP hD
                                      have hPD := pd_as [_, _, _, _, _, _, _, _, _, _, _, _, _, _, _, zzI cy (rG 5) 5 (upd fT_61 j_60 ((cF 5) j_60)), _, _] hP hD rfl
                                      clear hP hD
                                      obtain ⟨hP, hD⟩ := hPD
                                      refine lv_iinc (v := nI (j_60 + 1)) (lv' := [(3, .int (nI (j_60 + 1))), (2, .int 5), (0, .ref qF), (1, .ref qG)]) hx hb dX6_overAll_28 hl (k := 0) rfl (nI_1 _) (by decide +kernel) rfl (fun ls => ?_)
                                      clear hl
                                      intro hl
                                      refine lv_goto (tgt := 10) hx hb dX6_overAll_31 (by decide +kernel) ?_
                                      exact ih_59 (j_60 + 1) (upd fT_61 j_60 ((cF 5) j_60)) (by omega) (by omega) (cp_step hc_63) _ _ _ hP hD hS (lv_sub hl [0, 1, 2, 3] rfl)
                                exact lp_57 ((5 - 0) + 1) 0 (cG 5) (Nat.lt_succ_self _) (Nat.zero_le _) (fun x h => absurd h (Nat.not_lt_zero _)) _ _ ls hP hD hS (lv_sub hl [0, 1, 2, 3] rfl)
                              · have hlt_93 : j_49 < 5 := lp_lt rfl (rfl : (5 : Int32) = nI 5) (by omega) (by omega) c_54
                                refine lv_aload_n hx hb (g_43 bX6_overAll rfl) rfl (lv_at hl 3 rfl) ?_
                                refine lv_iload_n hx hb (g_28 bX6_overAll rfl) rfl (lv_at hl 1 rfl) ?_
                                refine va_alda hx hb hK hP 9 3 rfl rfl (in_c rfl) (g_50 bX6_overAll rfl) ?_
                                refine lv_setv (v := .ref (rG 4)) (rfl) ?_
                                refine lv_iload_n hx hb (g_29 bX6_overAll rfl) rfl (lv_at hl 0 rfl) ?_
                                refine lv_aload_n hx hb (g_42 bX6_overAll rfl) rfl (lv_at hl 2 rfl) ?_
                                refine lv_iload_n hx hb (g_28 bX6_overAll rfl) rfl (lv_at hl 1 rfl) ?_
                                refine va_alda hx hb hK hP 0 3 rfl rfl (in_c rfl) (g_50 bX6_overAll rfl) ?_
                                refine lv_setv (v := .ref (rF 4)) (rfl) ?_
                                refine lv_iload_n hx hb (g_29 bX6_overAll rfl) rfl (lv_at hl 0 rfl) ?_
                                refine va_iald hx hb hK hP 5 0 rfl rfl (vp_in_nI (by omega) (by omega)) (g_46 bX6_overAll rfl) ?_
                                refine lv_seti (v := (cF 4) j_49) (congrArg (cF 4) (nI_clamp (by omega))) ?_
                                refine va_iast hx hb hK hP hD hS 14 0 rfl rfl (vp_in_nI (by omega) (by omega)) (g_79 bX6_overAll rfl) (fun H locs => ?_)
                                clear hP hD hS
                                intro hP hD hS
                                rw [nI_clamp (n := j_49) (by omega)] at hP hD
                                have hPD := pd_as [_, _, _, _, _, _, _, _, _, _, _, _, _, _, zzI cy (rG 4) 5 (upd fT_50 j_49 ((cF 4) j_49)), _, _, _] hP hD rfl
                                clear hP hD
                                obtain ⟨hP, hD⟩ := hPD
                                refine lv_iinc (v := nI (j_49 + 1)) (lv' := [(3, .int (nI (j_49 + 1))), (2, .int 4), (0, .ref qF), (1, .ref qG)]) hx hb dX6_overAll_28 hl (k := 0) rfl (nI_1 _) (by decide +kernel) rfl (fun ls => ?_)
                                clear hl
                                intro hl
                                refine lv_goto (tgt := 10) hx hb dX6_overAll_31 (by decide +kernel) ?_
                                exact ih_48 (j_49 + 1) (upd fT_50 j_49 ((cF 4) j_49)) (by omega) (by omega) (cp_step hc_52) _ _ _ hP hD hS (lv_sub hl [0, 1, 2, 3] rfl)
                          exact lp_46 ((5 - 0) + 1) 0 (cG 4) (Nat.lt_succ_self _) (Nat.zero_le _) (fun x h => absurd h (Nat.not_lt_zero _)) _ _ ls hP hD hS (lv_sub hl [0, 1, 2, 3] rfl)
                        · have hlt_94 : j_38 < 5 := lp_lt rfl (rfl : (5 : Int32) = nI 5) (by omega) (by omega) c_43
                          refine lv_aload_n hx hb (g_43 bX6_overAll rfl) rfl (lv_at hl 3 rfl) ?_
                          refine lv_iload_n hx hb (g_28 bX6_overAll rfl) rfl (lv_at hl 1 rfl) ?_
                          refine va_alda hx hb hK hP 9 3 rfl rfl (in_c rfl) (g_50 bX6_overAll rfl) ?_
                          refine lv_setv (v := .ref (rG 3)) (rfl) ?_
                          refine lv_iload_n hx hb (g_29 bX6_overAll rfl) rfl (lv_at hl 0 rfl) ?_
                          refine lv_aload_n hx hb (g_42 bX6_overAll rfl) rfl (lv_at hl 2 rfl) ?_
                          refine lv_iload_n hx hb (g_28 bX6_overAll rfl) rfl (lv_at hl 1 rfl) ?_
                          refine va_alda hx hb hK hP 0 3 rfl rfl (in_c rfl) (g_50 bX6_overAll rfl) ?_
                          refine lv_setv (v := .ref (rF 3)) (rfl) ?_
                          refine lv_iload_n hx hb (g_29 bX6_overAll rfl) rfl (lv_at hl 0 rfl) ?_
                          refine va_iald hx hb hK hP 4 0 rfl rfl (vp_in_nI (by omega) (by omega)) (g_46 bX6_overAll rfl) ?_
                          refine lv_seti (v := (cF 3) j_38) (congrArg (cF 3) (nI_clamp (by omega))) ?_
                          refine va_iast hx hb hK hP hD hS 13 0 rfl rfl (vp_in_nI (by omega) (by omega)) (g_79 bX6_overAll rfl) (fun H locs => ?_)
                          clear hP hD hS
                          intro hP hD hS
                          rw [nI_clamp (n := j_38) (by omega)] at hP hD
                          have hPD := pd_as [_, _, _, _, _, _, _, _, _, _, _, _, _, zzI cy (rG 3) 5 (upd fT_39 j_38 ((cF 3) j_38)), _, _, _, _] hP hD rfl
                          clear hP hD
                          obtain ⟨hP, hD⟩ := hPD
                          refine lv_iinc (v := nI (j_38 + 1)) (lv' := [(3, .int (nI (j_38 + 1))), (2, .int 3), (0, .ref qF), (1, .ref qG)]) hx hb dX6_overAll_28 hl (k := 0) rfl (nI_1 _) (by decide +kernel) rfl (fun ls => ?_)
                          clear hl
                          intro hl
                          refine lv_goto (tgt := 10) hx hb dX6_overAll_31 (by decide +kernel) ?_
                          exact ih_37 (j_38 + 1) (upd fT_39 j_38 ((cF 3) j_38)) (by omega) (by omega) (cp_step hc_41) _ _ _ hP hD hS (lv_sub hl [0, 1, 2, 3] rfl)
                    exact lp_35 ((5 - 0) + 1) 0 (cG 3) (Nat.lt_succ_self _) (Nat.zero_le _) (fun x h => absurd h (Nat.not_lt_zero _)) _ _ ls hP hD hS (lv_sub hl [0, 1, 2, 3] rfl)
                  · have hlt_95 : j_27 < 5 := lp_lt rfl (rfl : (5 : Int32) = nI 5) (by omega) (by omega) c_32
                    refine lv_aload_n hx hb (g_43 bX6_overAll rfl) rfl (lv_at hl 3 rfl) ?_
                    refine lv_iload_n hx hb (g_28 bX6_overAll rfl) rfl (lv_at hl 1 rfl) ?_
                    refine va_alda hx hb hK hP 9 3 rfl rfl (in_c rfl) (g_50 bX6_overAll rfl) ?_
                    refine lv_setv (v := .ref (rG 2)) (rfl) ?_
                    refine lv_iload_n hx hb (g_29 bX6_overAll rfl) rfl (lv_at hl 0 rfl) ?_
                    refine lv_aload_n hx hb (g_42 bX6_overAll rfl) rfl (lv_at hl 2 rfl) ?_
                    refine lv_iload_n hx hb (g_28 bX6_overAll rfl) rfl (lv_at hl 1 rfl) ?_
                    refine va_alda hx hb hK hP 0 3 rfl rfl (in_c rfl) (g_50 bX6_overAll rfl) ?_
                    refine lv_setv (v := .ref (rF 2)) (rfl) ?_
                    refine lv_iload_n hx hb (g_29 bX6_overAll rfl) rfl (lv_at hl 0 rfl) ?_
                    refine va_iald hx hb hK hP 3 0 rfl rfl (vp_in_nI (by omega) (by omega)) (g_46 bX6_overAll rfl) ?_
                    refine lv_seti (v := (cF 2) j_27) (congrArg (cF 2) (nI_clamp (by omega))) ?_
                    refine va_iast hx hb hK hP hD hS 12 0 rfl rfl (vp_in_nI (by omega) (by omega)) (g_79 bX6_overAll rfl) (fun H locs => ?_)
                    clear hP hD hS
                    intro hP hD hS
                    rw [nI_clamp (n := j_27) (by omega)] at hP hD
                    have hPD := pd_as [_, _, _, _, _, _, _, _, _, _, _, _, zzI cy (rG 2) 5 (upd fT_28 j_27 ((cF 2) j_27)), _, _, _, _, _] hP hD rfl
                    clear hP hD
                    obtain ⟨hP, hD⟩ := hPD
                    refine lv_iinc (v := nI (j_27 + 1)) (lv' := [(3, .int (nI (j_27 + 1))), (2, .int 2), (0, .ref qF), (1, .ref qG)]) hx hb dX6_overAll_28 hl (k := 0) rfl (nI_1 _) (by decide +kernel) rfl (fun ls => ?_)
                    clear hl
                    intro hl
                    refine lv_goto (tgt := 10) hx hb dX6_overAll_31 (by decide +kernel) ?_
                    exact ih_26 (j_27 + 1) (upd fT_28 j_27 ((cF 2) j_27)) (by omega) (by omega) (cp_step hc_30) _ _ _ hP hD hS (lv_sub hl [0, 1, 2, 3] rfl)
              exact lp_24 ((5 - 0) + 1) 0 (cG 2) (Nat.lt_succ_self _) (Nat.zero_le _) (fun x h => absurd h (Nat.not_lt_zero _)) _ _ ls hP hD hS (lv_sub hl [0, 1, 2, 3] rfl)
            · have hlt_96 : j_16 < 5 := lp_lt rfl (rfl : (5 : Int32) = nI 5) (by omega) (by omega) c_21
              refine lv_aload_n hx hb (g_43 bX6_overAll rfl) rfl (lv_at hl 3 rfl) ?_
              refine lv_iload_n hx hb (g_28 bX6_overAll rfl) rfl (lv_at hl 1 rfl) ?_
              refine va_alda hx hb hK hP 9 3 rfl rfl (in_c rfl) (g_50 bX6_overAll rfl) ?_
              refine lv_setv (v := .ref (rG 1)) (rfl) ?_
              refine lv_iload_n hx hb (g_29 bX6_overAll rfl) rfl (lv_at hl 0 rfl) ?_
              refine lv_aload_n hx hb (g_42 bX6_overAll rfl) rfl (lv_at hl 2 rfl) ?_
              refine lv_iload_n hx hb (g_28 bX6_overAll rfl) rfl (lv_at hl 1 rfl) ?_
              refine va_alda hx hb hK hP 0 3 rfl rfl (in_c rfl) (g_50 bX6_overAll rfl) ?_
              refine lv_setv (v := .ref (rF 1)) (rfl) ?_
              refine lv_iload_n hx hb (g_29 bX6_overAll rfl) rfl (lv_at hl 0 rfl) ?_
              refine va_iald hx hb hK hP 2 0 rfl rfl (vp_in_nI (by omega) (by omega)) (g_46 bX6_overAll rfl) ?_
              refine lv_seti (v := (cF 1) j_16) (congrArg (cF 1) (nI_clamp (by omega))) ?_
              refine va_iast hx hb hK hP hD hS 11 0 rfl rfl (vp_in_nI (by omega) (by omega)) (g_79 bX6_overAll rfl) (fun H locs => ?_)
              clear hP hD hS
              intro hP hD hS
              rw [nI_clamp (n := j_16) (by omega)] at hP hD
              have hPD := pd_as [_, _, _, _, _, _, _, _, _, _, _, zzI cy (rG 1) 5 (upd fT_17 j_16 ((cF 1) j_16)), _, _, _, _, _, _] hP hD rfl
              clear hP hD
              obtain ⟨hP, hD⟩ := hPD
              refine lv_iinc (v := nI (j_16 + 1)) (lv' := [(3, .int (nI (j_16 + 1))), (2, .int 1), (0, .ref qF), (1, .ref qG)]) hx hb dX6_overAll_28 hl (k := 0) rfl (nI_1 _) (by decide +kernel) rfl (fun ls => ?_)
              clear hl
              intro hl
              refine lv_goto (tgt := 10) hx hb dX6_overAll_31 (by decide +kernel) ?_
              exact ih_15 (j_16 + 1) (upd fT_17 j_16 ((cF 1) j_16)) (by omega) (by omega) (cp_step hc_19) _ _ _ hP hD hS (lv_sub hl [0, 1, 2, 3] rfl)
        exact lp_13 ((5 - 0) + 1) 0 (cG 1) (Nat.lt_succ_self _) (Nat.zero_le _) (fun x h => absurd h (Nat.not_lt_zero _)) _ _ ls hP hD hS (lv_sub hl [0, 1, 2, 3] rfl)
      · have hlt_97 : j_5 < 5 := lp_lt rfl (rfl : (5 : Int32) = nI 5) (by omega) (by omega) c_10
        refine lv_aload_n hx hb (g_43 bX6_overAll rfl) rfl (lv_at hl 3 rfl) ?_
        refine lv_iload_n hx hb (g_28 bX6_overAll rfl) rfl (lv_at hl 1 rfl) ?_
        refine va_alda hx hb hK hP 9 3 rfl rfl (in_c rfl) (g_50 bX6_overAll rfl) ?_
        refine lv_setv (v := .ref (rG 0)) (rfl) ?_
        refine lv_iload_n hx hb (g_29 bX6_overAll rfl) rfl (lv_at hl 0 rfl) ?_
        refine lv_aload_n hx hb (g_42 bX6_overAll rfl) rfl (lv_at hl 2 rfl) ?_
        refine lv_iload_n hx hb (g_28 bX6_overAll rfl) rfl (lv_at hl 1 rfl) ?_
        refine va_alda hx hb hK hP 0 3 rfl rfl (in_c rfl) (g_50 bX6_overAll rfl) ?_
        refine lv_setv (v := .ref (rF 0)) (rfl) ?_
        refine lv_iload_n hx hb (g_29 bX6_overAll rfl) rfl (lv_at hl 0 rfl) ?_
        refine va_iald hx hb hK hP 1 0 rfl rfl (vp_in_nI (by omega) (by omega)) (g_46 bX6_overAll rfl) ?_
        refine lv_seti (v := (cF 0) j_5) (congrArg (cF 0) (nI_clamp (by omega))) ?_
        refine va_iast hx hb hK hP hD hS 10 0 rfl rfl (vp_in_nI (by omega) (by omega)) (g_79 bX6_overAll rfl) (fun H locs => ?_)
        clear hP hD hS
        intro hP hD hS
        rw [nI_clamp (n := j_5) (by omega)] at hP hD
        have hPD := pd_as [_, _, _, _, _, _, _, _, _, _, zzI cy (rG 0) 5 (upd fT_6 j_5 ((cF 0) j_5)), _, _, _, _, _, _, _] hP hD rfl
        clear hP hD
        obtain ⟨hP, hD⟩ := hPD
        refine lv_iinc (v := nI (j_5 + 1)) (lv' := [(3, .int (nI (j_5 + 1))), (2, .int 0), (0, .ref qF), (1, .ref qG)]) hx hb dX6_overAll_28 hl (k := 0) rfl (nI_1 _) (by decide +kernel) rfl (fun ls => ?_)
        clear hl
        intro hl
        refine lv_goto (tgt := 10) hx hb dX6_overAll_31 (by decide +kernel) ?_
        exact ih_4 (j_5 + 1) (upd fT_6 j_5 ((cF 0) j_5)) (by omega) (by omega) (cp_step hc_8) _ _ _ hP hD hS (lv_sub hl [0, 1, 2, 3] rfl)
  exact lp_2 ((5 - 0) + 1) 0 (cG 0) (Nat.lt_succ_self _) (Nat.zero_le _) (fun x h => absurd h (Nat.not_lt_zero _)) _ _ ls hP hD hS (lv_sub hl [0, 1, 2, 3] rfl)
set_option maxHeartbeats 4000000 in
set_option maxRecDepth 100000 in
theorem c_X6_overAll8 (l : Launch) (G : va_G) (cy : Nat → ClassId) (sz : Nat) (qF : Nat) (rF : Nat → Nat) (cF : Nat → Nat → Int32) (qG : Nat) (rG : Nat → Nat) (cG : Nat → Nat → Int32)   : MW l yX6_overAll cX6_overAll 4 none 1 0 0 G cy [zzG cy 3 qF rF, zzI cy (rF 0) 8 (cF 0), zzI cy (rF 1) 8 (cF 1), zzI cy (rF 2) 8 (cF 2), zzI cy (rF 3) 8 (cF 3), zzI cy (rF 4) 8 (cF 4), zzI cy (rF 5) 8 (cF 5), zzI cy (rF 6) 8 (cF 6), zzI cy (rF 7) 8 (cF 7), zzG cy 3 qG rG, zzI cy (rG 0) 8 (cG 0), zzI cy (rG 1) 8 (cG 1), zzI cy (rG 2) 8 (cG 2), zzI cy (rG 3) 8 (cG 3), zzI cy (rG 4) 8 (cG 4), zzI cy (rG 5) 8 (cG 5), zzI cy (rG 6) 8 (cG 6), zzI cy (rG 7) 8 (cG 7)] sz [.ref qF, .ref qG] (Wv G (fun u => u = [zzG cy 3 qF rF, zzI cy (rF 0) 8 (cF 0), zzI cy (rF 1) 8 (cF 1), zzI cy (rF 2) 8 (cF 2), zzI cy (rF 3) 8 (cF 3), zzI cy (rF 4) 8 (cF 4), zzI cy (rF 5) 8 (cF 5), zzI cy (rF 6) 8 (cF 6), zzI cy (rF 7) 8 (cF 7), zzG cy 3 qG rG, zzI cy (rG 0) 8 (cF 0), zzI cy (rG 1) 8 (cF 1), zzI cy (rG 2) 8 (cF 2), zzI cy (rG 3) 8 (cF 3), zzI cy (rG 4) 8 (cF 4), zzI cy (rG 5) 8 (cF 5), zzI cy (rG 6) 8 (cF 6), zzI cy (rG 7) 8 (cF 7)])) := by
  refine enW RX6 (by decide +kernel) rfl (Nat.le_of_ble_eq_true rfl) (fun p e s m below meth c ls A hx hb hml hown hts hr hlocks hP hN hl hin hD hA hS => ?_)
  have hin : meth.name = _ := hin
  have hK := hN.1
  replace hl : lv_has ls 4 [(0, .ref qF), (1, .ref qG)] := hl
  refine lv_iconst (v := 0) hx hb (g_3 bX6_overAll rfl) (by decide +kernel) ?_
  refine lv_istore_n (lv' := [(2, .int 0), (0, .ref qF), (1, .ref qG)]) hx hb (g_61 bX6_overAll rfl) rfl hl (by decide +kernel) rfl (fun ls => ?_)
  clear hl
  intro hl
  refine lv_iload_n hx hb (g_28 bX6_overAll rfl) rfl (lv_at hl 0 rfl) ?_
  refine lv_aload_n hx hb (g_42 bX6_overAll rfl) rfl (lv_at hl 1 rfl) ?_
  refine va_alen hx hb hK hP 0 3 rfl rfl (v := 8) rfl (g_190 bX6_overAll rfl) ?_
  refine lv_icmp_ge (tgt := 40) hx hb dX6_overAll_5 (by decide +kernel) (fun h9 => absurd h9 (by decide +kernel)) (fun _ => ?_)
  refine lv_iconst (v := 0) hx hb (g_3 bX6_overAll rfl) (by decide +kernel) ?_
  refine lv_istore_n (lv' := [(3, .int 0), (2, .int 0), (0, .ref qF), (1, .ref qG)]) hx hb (g_62 bX6_overAll rfl) rfl hl (by decide +kernel) rfl (fun ls => ?_)
  clear hl
  intro hl
  have lp_2 : ∀ (n_3 : Nat) (j_5 : Nat) (fT_6 : Nat → Int32), 8 - j_5 < n_3 → j_5 ≤ 8 → (∀ x, x < j_5 → fT_6 x = cF 0 x) → ∀ (H : Heap) (locs : List Loc) (ls : Array Slot), va_P G CL [zzG cy 3 qF rF, zzI cy (rF 0) 8 (cF 0), zzI cy (rF 1) 8 (cF 1), zzI cy (rF 2) 8 (cF 2), zzI cy (rF 3) 8 (cF 3), zzI cy (rF 4) 8 (cF 4), zzI cy (rF 5) 8 (cF 5), zzI cy (rF 6) 8 (cF 6), zzI cy (rF 7) 8 (cF 7), zzG cy 3 qG rG, zzI cy (rG 0) 8 fT_6, zzI cy (rG 1) 8 (cG 1), zzI cy (rG 2) 8 (cG 2), zzI cy (rG 3) 8 (cG 3), zzI cy (rG 4) 8 (cG 4), zzI cy (rG 5) 8 (cG 5), zzI cy (rG 6) 8 (cG 6), zzI cy (rG 7) 8 (cG 7)] H → va_D A [zzG cy 3 qF rF, zzI cy (rF 0) 8 (cF 0), zzI cy (rF 1) 8 (cF 1), zzI cy (rF 2) 8 (cF 2), zzI cy (rF 3) 8 (cF 3), zzI cy (rF 4) 8 (cF 4), zzI cy (rF 5) 8 (cF 5), zzI cy (rF 6) 8 (cF 6), zzI cy (rF 7) 8 (cF 7), zzG cy 3 qG rG, zzI cy (rG 0) 8 fT_6, zzI cy (rG 1) 8 (cG 1), zzI cy (rG 2) 8 (cG 2), zzI cy (rG 3) 8 (cG 3), zzI cy (rG 4) 8 (cG 4), zzI cy (rG 5) 8 (cG 5), zzI cy (rG 6) 8 (cG 6), zzI cy (rG 7) 8 (cG 7)] → va_S A s.heap H locs → lv_has ls 4 [(3, .int (nI j_5)), (2, .int 0), (0, .ref qF), (1, .ref qG)] → W p l e (Rm 1 0 0) s m (List.toArray (α := Value) [.ref qF, .ref qG]) below meth c H locs 0 0 (MQ below ((Wv G (fun u => u = [zzG cy 3 qF rF, zzI cy (rF 0) 8 (cF 0), zzI cy (rF 1) 8 (cF 1), zzI cy (rF 2) 8 (cF 2), zzI cy (rF 3) 8 (cF 3), zzI cy (rF 4) 8 (cF 4), zzI cy (rF 5) 8 (cF 5), zzI cy (rF 6) 8 (cF 6), zzI cy (rF 7) 8 (cF 7), zzG cy 3 qG rG, zzI cy (rG 0) 8 (cF 0), zzI cy (rG 1) 8 (cF 1), zzI cy (rG 2) 8 (cF 2), zzI cy (rG 3) 8 (cF 3), zzI cy (rG 4) 8 (cF 4), zzI cy (rG 5) 8 (cF 5), zzI cy (rG 6) 8 (cF 6), zzI cy (rG 7) 8 (cF 7)])) A) (List.toArray (α := Value) [.ref qF, .ref qG]) s 0 0 A) (F0 m 10 ls []) := by
    intro n_3
    induction n_3 with
    | zero => intro j_5 fT_6 hm9; exact absurd hm9 (Nat.not_lt_zero _)
    | succ n_3 ih_4 =>
      intro j_5 fT_6 hm_9 hj_7 hc_8 H locs ls hP hD hS hl
      refine lv_iload_n hx hb (g_29 bX6_overAll rfl) rfl (lv_at hl 0 rfl) ?_
      refine lv_aload_n hx hb (g_42 bX6_overAll rfl) rfl (lv_at hl 2 rfl) ?_
      refine lv_iload_n hx hb (g_28 bX6_overAll rfl) rfl (lv_at hl 1 rfl) ?_
      refine va_alda hx hb hK hP 0 3 rfl rfl (in_c rfl) (g_50 bX6_overAll rfl) ?_
      refine lv_setv (v := .ref (rF 0)) (rfl) ?_
      refine va_alen hx hb hK hP 1 0 rfl rfl (v := 8) rfl (g_190 bX6_overAll rfl) ?_
      refine lv_icmp_ge (tgt := 34) hx hb dX6_overAll_15 (by decide +kernel) (fun c_10 => ?_) (fun c_10 => ?_)
      · have hlt_11 : j_5 = 8 := Nat.le_antisymm (by omega) (lp_ge rfl (rfl : (8 : Int32) = nI 8) (by omega) (by omega) c_10)
        rw [hlt_11] at hc_8
        replace hP : va_P G CL [zzG cy 3 qF rF, zzI cy (rF 0) 8 (cF 0), zzI cy (rF 1) 8 (cF 1), zzI cy (rF 2) 8 (cF 2), zzI cy (rF 3) 8 (cF 3), zzI cy (rF 4) 8 (cF 4), zzI cy (rF 5) 8 (cF 5), zzI cy (rF 6) 8 (cF 6), zzI cy (rF 7) 8 (cF 7), zzG cy 3 qG rG, zzI cy (rG 0) 8 (cF 0), zzI cy (rG 1) 8 (cG 1), zzI cy (rG 2) 8 (cG 2), zzI cy (rG 3) 8 (cG 3), zzI cy (rG 4) 8 (cG 4), zzI cy (rG 5) 8 (cG 5), zzI cy (rG 6) 8 (cG 6), zzI cy (rG 7) 8 (cG 7)] H := arr_at hP (n0 := 10) rfl hc_8
        replace hD : va_D A [zzG cy 3 qF rF, zzI cy (rF 0) 8 (cF 0), zzI cy (rF 1) 8 (cF 1), zzI cy (rF 2) 8 (cF 2), zzI cy (rF 3) 8 (cF 3), zzI cy (rF 4) 8 (cF 4), zzI cy (rF 5) 8 (cF 5), zzI cy (rF 6) 8 (cF 6), zzI cy (rF 7) 8 (cF 7), zzG cy 3 qG rG, zzI cy (rG 0) 8 (cF 0), zzI cy (rG 1) 8 (cG 1), zzI cy (rG 2) 8 (cG 2), zzI cy (rG 3) 8 (cG 3), zzI cy (rG 4) 8 (cG 4), zzI cy (rG 5) 8 (cG 5), zzI cy (rG 6) 8 (cG 6), zzI cy (rG 7) 8 (cG 7)] := arr_dt hD (n0 := 10) rfl
        refine lv_iinc (v := 1) (lv' := [(2, .int 1), (3, .int (nI j_5)), (0, .ref qF), (1, .ref qG)]) hx hb dX6_overAll_34 hl (k := 1) rfl (by decide +kernel) (by decide +kernel) rfl (fun ls => ?_)
        clear hl
        intro hl
        refine lv_goto (tgt := 2) hx hb dX6_overAll_37 (by decide +kernel) ?_
        refine lv_iload_n hx hb (g_28 bX6_overAll rfl) rfl (lv_at hl 0 rfl) ?_
        refine lv_aload_n hx hb (g_42 bX6_overAll rfl) rfl (lv_at hl 2 rfl) ?_
        refine va_alen hx hb hK hP 0 3 rfl rfl (v := 8) rfl (g_190 bX6_overAll rfl) ?_
        refine lv_icmp_ge (tgt := 40) hx hb dX6_overAll_5 (by decide +kernel) (fun h9 => absurd h9 (by decide +kernel)) (fun _ => ?_)
        refine lv_iconst (v := 0) hx hb (g_3 bX6_overAll rfl) (by decide +kernel) ?_
        refine lv_istore_n (lv' := [(3, .int 0), (2, .int 1), (0, .ref qF), (1, .ref qG)]) hx hb (g_62 bX6_overAll rfl) rfl hl (by decide +kernel) rfl (fun ls => ?_)
        clear hl
        intro hl
        have lp_13 : ∀ (n_14 : Nat) (j_16 : Nat) (fT_17 : Nat → Int32), 8 - j_16 < n_14 → j_16 ≤ 8 → (∀ x, x < j_16 → fT_17 x = cF 1 x) → ∀ (H : Heap) (locs : List Loc) (ls : Array Slot), va_P G CL [zzG cy 3 qF rF, zzI cy (rF 0) 8 (cF 0), zzI cy (rF 1) 8 (cF 1), zzI cy (rF 2) 8 (cF 2), zzI cy (rF 3) 8 (cF 3), zzI cy (rF 4) 8 (cF 4), zzI cy (rF 5) 8 (cF 5), zzI cy (rF 6) 8 (cF 6), zzI cy (rF 7) 8 (cF 7), zzG cy 3 qG rG, zzI cy (rG 0) 8 (cF 0), zzI cy (rG 1) 8 fT_17, zzI cy (rG 2) 8 (cG 2), zzI cy (rG 3) 8 (cG 3), zzI cy (rG 4) 8 (cG 4), zzI cy (rG 5) 8 (cG 5), zzI cy (rG 6) 8 (cG 6), zzI cy (rG 7) 8 (cG 7)] H → va_D A [zzG cy 3 qF rF, zzI cy (rF 0) 8 (cF 0), zzI cy (rF 1) 8 (cF 1), zzI cy (rF 2) 8 (cF 2), zzI cy (rF 3) 8 (cF 3), zzI cy (rF 4) 8 (cF 4), zzI cy (rF 5) 8 (cF 5), zzI cy (rF 6) 8 (cF 6), zzI cy (rF 7) 8 (cF 7), zzG cy 3 qG rG, zzI cy (rG 0) 8 (cF 0), zzI cy (rG 1) 8 fT_17, zzI cy (rG 2) 8 (cG 2), zzI cy (rG 3) 8 (cG 3), zzI cy (rG 4) 8 (cG 4), zzI cy (rG 5) 8 (cG 5), zzI cy (rG 6) 8 (cG 6), zzI cy (rG 7) 8 (cG 7)] → va_S A s.heap H locs → lv_has ls 4 [(3, .int (nI j_16)), (2, .int 1), (0, .ref qF), (1, .ref qG)] → W p l e (Rm 1 0 0) s m (List.toArray (α := Value) [.ref qF, .ref qG]) below meth c H locs 0 0 (MQ below ((Wv G (fun u => u = [zzG cy 3 qF rF, zzI cy (rF 0) 8 (cF 0), zzI cy (rF 1) 8 (cF 1), zzI cy (rF 2) 8 (cF 2), zzI cy (rF 3) 8 (cF 3), zzI cy (rF 4) 8 (cF 4), zzI cy (rF 5) 8 (cF 5), zzI cy (rF 6) 8 (cF 6), zzI cy (rF 7) 8 (cF 7), zzG cy 3 qG rG, zzI cy (rG 0) 8 (cF 0), zzI cy (rG 1) 8 (cF 1), zzI cy (rG 2) 8 (cF 2), zzI cy (rG 3) 8 (cF 3), zzI cy (rG 4) 8 (cF 4), zzI cy (rG 5) 8 (cF 5), zzI cy (rG 6) 8 (cF 6), zzI cy (rG 7) 8 (cF 7)])) A) (List.toArray (α := Value) [.ref qF, .ref qG]) s 0 0 A) (F0 m 10 ls []) := by
          intro n_14
          induction n_14 with
          | zero => intro j_16 fT_17 hm9; exact absurd hm9 (Nat.not_lt_zero _)
          | succ n_14 ih_15 =>
            intro j_16 fT_17 hm_20 hj_18 hc_19 H locs ls hP hD hS hl
            refine lv_iload_n hx hb (g_29 bX6_overAll rfl) rfl (lv_at hl 0 rfl) ?_
            refine lv_aload_n hx hb (g_42 bX6_overAll rfl) rfl (lv_at hl 2 rfl) ?_
            refine lv_iload_n hx hb (g_28 bX6_overAll rfl) rfl (lv_at hl 1 rfl) ?_
            refine va_alda hx hb hK hP 0 3 rfl rfl (in_c rfl) (g_50 bX6_overAll rfl) ?_
            refine lv_setv (v := .ref (rF 1)) (rfl) ?_
            refine va_alen hx hb hK hP 2 0 rfl rfl (v := 8) rfl (g_190 bX6_overAll rfl) ?_
            refine lv_icmp_ge (tgt := 34) hx hb dX6_overAll_15 (by decide +kernel) (fun c_21 => ?_) (fun c_21 => ?_)
            · have hlt_22 : j_16 = 8 := Nat.le_antisymm (by omega) (lp_ge rfl (rfl : (8 : Int32) = nI 8) (by omega) (by omega) c_21)
              rw [hlt_22] at hc_19
              replace hP : va_P G CL [zzG cy 3 qF rF, zzI cy (rF 0) 8 (cF 0), zzI cy (rF 1) 8 (cF 1), zzI cy (rF 2) 8 (cF 2), zzI cy (rF 3) 8 (cF 3), zzI cy (rF 4) 8 (cF 4), zzI cy (rF 5) 8 (cF 5), zzI cy (rF 6) 8 (cF 6), zzI cy (rF 7) 8 (cF 7), zzG cy 3 qG rG, zzI cy (rG 0) 8 (cF 0), zzI cy (rG 1) 8 (cF 1), zzI cy (rG 2) 8 (cG 2), zzI cy (rG 3) 8 (cG 3), zzI cy (rG 4) 8 (cG 4), zzI cy (rG 5) 8 (cG 5), zzI cy (rG 6) 8 (cG 6), zzI cy (rG 7) 8 (cG 7)] H := arr_at hP (n0 := 11) rfl hc_19
              replace hD : va_D A [zzG cy 3 qF rF, zzI cy (rF 0) 8 (cF 0), zzI cy (rF 1) 8 (cF 1), zzI cy (rF 2) 8 (cF 2), zzI cy (rF 3) 8 (cF 3), zzI cy (rF 4) 8 (cF 4), zzI cy (rF 5) 8 (cF 5), zzI cy (rF 6) 8 (cF 6), zzI cy (rF 7) 8 (cF 7), zzG cy 3 qG rG, zzI cy (rG 0) 8 (cF 0), zzI cy (rG 1) 8 (cF 1), zzI cy (rG 2) 8 (cG 2), zzI cy (rG 3) 8 (cG 3), zzI cy (rG 4) 8 (cG 4), zzI cy (rG 5) 8 (cG 5), zzI cy (rG 6) 8 (cG 6), zzI cy (rG 7) 8 (cG 7)] := arr_dt hD (n0 := 11) rfl
              refine lv_iinc (v := 2) (lv' := [(2, .int 2), (3, .int (nI j_16)), (0, .ref qF), (1, .ref qG)]) hx hb dX6_overAll_34 hl (k := 1) rfl (by decide +kernel) (by decide +kernel) rfl (fun ls => ?_)
              clear hl
              intro hl
              refine lv_goto (tgt := 2) hx hb dX6_overAll_37 (by decide +kernel) ?_
              refine lv_iload_n hx hb (g_28 bX6_overAll rfl) rfl (lv_at hl 0 rfl) ?_
              refine lv_aload_n hx hb (g_42 bX6_overAll rfl) rfl (lv_at hl 2 rfl) ?_
              refine va_alen hx hb hK hP 0 3 rfl rfl (v := 8) rfl (g_190 bX6_overAll rfl) ?_
              refine lv_icmp_ge (tgt := 40) hx hb dX6_overAll_5 (by decide +kernel) (fun h9 => absurd h9 (by decide +kernel)) (fun _ => ?_)
              refine lv_iconst (v := 0) hx hb (g_3 bX6_overAll rfl) (by decide +kernel) ?_
              refine lv_istore_n (lv' := [(3, .int 0), (2, .int 2), (0, .ref qF), (1, .ref qG)]) hx hb (g_62 bX6_overAll rfl) rfl hl (by decide +kernel) rfl (fun ls => ?_)
              clear hl
              intro hl
              have lp_24 : ∀ (n_25 : Nat) (j_27 : Nat) (fT_28 : Nat → Int32), 8 - j_27 < n_25 → j_27 ≤ 8 → (∀ x, x < j_27 → fT_28 x = cF 2 x) → ∀ (H : Heap) (locs : List Loc) (ls : Array Slot), va_P G CL [zzG cy 3 qF rF, zzI cy (rF 0) 8 (cF 0), zzI cy (rF 1) 8 (cF 1), zzI cy (rF 2) 8 (cF 2), zzI cy (rF 3) 8 (cF 3), zzI cy (rF 4) 8 (cF 4), zzI cy (rF 5) 8 (cF 5), zzI cy (rF 6) 8 (cF 6), zzI cy (rF 7) 8 (cF 7), zzG cy 3 qG rG, zzI cy (rG 0) 8 (cF 0), zzI cy (rG 1) 8 (cF 1), zzI cy (rG 2) 8 fT_28, zzI cy (rG 3) 8 (cG 3), zzI cy (rG 4) 8 (cG 4), zzI cy (rG 5) 8 (cG 5), zzI cy (rG 6) 8 (cG 6), zzI cy (rG 7) 8 (cG 7)] H → va_D A [zzG cy 3 qF rF, zzI cy (rF 0) 8 (cF 0), zzI cy (rF 1) 8 (cF 1), zzI cy (rF 2) 8 (cF 2), zzI cy (rF 3) 8 (cF 3), zzI cy (rF 4) 8 (cF 4), zzI cy (rF 5) 8 (cF 5), zzI cy (rF 6) 8 (cF 6), zzI cy (rF 7) 8 (cF 7), zzG cy 3 qG rG, zzI cy (rG 0) 8 (cF 0), zzI cy (rG 1) 8 (cF 1), zzI cy (rG 2) 8 fT_28, zzI cy (rG 3) 8 (cG 3), zzI cy (rG 4) 8 (cG 4), zzI cy (rG 5) 8 (cG 5), zzI cy (rG 6) 8 (cG 6), zzI cy (rG 7) 8 (cG 7)] → va_S A s.heap H locs → lv_has ls 4 [(3, .int (nI j_27)), (2, .int 2), (0, .ref qF), (1, .ref qG)] → W p l e (Rm 1 0 0) s m (List.toArray (α := Value) [.ref qF, .ref qG]) below meth c H locs 0 0 (MQ below ((Wv G (fun u => u = [zzG cy 3 qF rF, zzI cy (rF 0) 8 (cF 0), zzI cy (rF 1) 8 (cF 1), zzI cy (rF 2) 8 (cF 2), zzI cy (rF 3) 8 (cF 3), zzI cy (rF 4) 8 (cF 4), zzI cy (rF 5) 8 (cF 5), zzI cy (rF 6) 8 (cF 6), zzI cy (rF 7) 8 (cF 7), zzG cy 3 qG rG, zzI cy (rG 0) 8 (cF 0), zzI cy (rG 1) 8 (cF 1), zzI cy (rG 2) 8 (cF 2), zzI cy (rG 3) 8 (cF 3), zzI cy (rG 4) 8 (cF 4), zzI cy (rG 5) 8 (cF 5), zzI cy (rG 6) 8 (cF 6), zzI cy (rG 7) 8 (cF 7)])) A) (List.toArray (α := Value) [.ref qF, .ref qG]) s 0 0 A) (F0 m 10 ls []) := by
                intro n_25
                induction n_25 with
                | zero => intro j_27 fT_28 hm9; exact absurd hm9 (Nat.not_lt_zero _)
                | succ n_25 ih_26 =>
                  intro j_27 fT_28 hm_31 hj_29 hc_30 H locs ls hP hD hS hl
                  refine lv_iload_n hx hb (g_29 bX6_overAll rfl) rfl (lv_at hl 0 rfl) ?_
                  refine lv_aload_n hx hb (g_42 bX6_overAll rfl) rfl (lv_at hl 2 rfl) ?_
                  refine lv_iload_n hx hb (g_28 bX6_overAll rfl) rfl (lv_at hl 1 rfl) ?_
                  refine va_alda hx hb hK hP 0 3 rfl rfl (in_c rfl) (g_50 bX6_overAll rfl) ?_
                  refine lv_setv (v := .ref (rF 2)) (rfl) ?_
                  refine va_alen hx hb hK hP 3 0 rfl rfl (v := 8) rfl (g_190 bX6_overAll rfl) ?_
                  refine lv_icmp_ge (tgt := 34) hx hb dX6_overAll_15 (by decide +kernel) (fun c_32 => ?_) (fun c_32 => ?_)
                  · have hlt_33 : j_27 = 8 := Nat.le_antisymm (by omega) (lp_ge rfl (rfl : (8 : Int32) = nI 8) (by omega) (by omega) c_32)
                    rw [hlt_33] at hc_30
                    replace hP : va_P G CL [zzG cy 3 qF rF, zzI cy (rF 0) 8 (cF 0), zzI cy (rF 1) 8 (cF 1), zzI cy (rF 2) 8 (cF 2), zzI cy (rF 3) 8 (cF 3), zzI cy (rF 4) 8 (cF 4), zzI cy (rF 5) 8 (cF 5), zzI cy (rF 6) 8 (cF 6), zzI cy (rF 7) 8 (cF 7), zzG cy 3 qG rG, zzI cy (rG 0) 8 (cF 0), zzI cy (rG 1) 8 (cF 1), zzI cy (rG 2) 8 (cF 2), zzI cy (rG 3) 8 (cG 3), zzI cy (rG 4) 8 (cG 4), zzI cy (rG 5) 8 (cG 5), zzI cy (rG 6) 8 (cG 6), zzI cy (rG 7) 8 (cG 7)] H := arr_at hP (n0 := 12) rfl hc_30
                    replace hD : va_D A [zzG cy 3 qF rF, zzI cy (rF 0) 8 (cF 0), zzI cy (rF 1) 8 (cF 1), zzI cy (rF 2) 8 (cF 2), zzI cy (rF 3) 8 (cF 3), zzI cy (rF 4) 8 (cF 4), zzI cy (rF 5) 8 (cF 5), zzI cy (rF 6) 8 (cF 6), zzI cy (rF 7) 8 (cF 7), zzG cy 3 qG rG, zzI cy (rG 0) 8 (cF 0), zzI cy (rG 1) 8 (cF 1), zzI cy (rG 2) 8 (cF 2), zzI cy (rG 3) 8 (cG 3), zzI cy (rG 4) 8 (cG 4), zzI cy (rG 5) 8 (cG 5), zzI cy (rG 6) 8 (cG 6), zzI cy (rG 7) 8 (cG 7)] := arr_dt hD (n0 := 12) rfl
                    refine lv_iinc (v := 3) (lv' := [(2, .int 3), (3, .int (nI j_27)), (0, .ref qF), (1, .ref qG)]) hx hb dX6_overAll_34 hl (k := 1) rfl (by decide +kernel) (by decide +kernel) rfl (fun ls => ?_)
                    clear hl
                    intro hl
                    refine lv_goto (tgt := 2) hx hb dX6_overAll_37 (by decide +kernel) ?_
                    refine lv_iload_n hx hb (g_28 bX6_overAll rfl) rfl (lv_at hl 0 rfl) ?_
                    refine lv_aload_n hx hb (g_42 bX6_overAll rfl) rfl (lv_at hl 2 rfl) ?_
                    refine va_alen hx hb hK hP 0 3 rfl rfl (v := 8) rfl (g_190 bX6_overAll rfl) ?_
                    refine lv_icmp_ge (tgt := 40) hx hb dX6_overAll_5 (by decide +kernel) (fun h9 => absurd h9 (by decide +kernel)) (fun _ => ?_)
                    refine lv_iconst (v := 0) hx hb (g_3 bX6_overAll rfl) (by decide +kernel) ?_
                    refine lv_istore_n (lv' := [(3, .int 0), (2, .int 3), (0, .ref qF), (1, .ref qG)]) hx hb (g_62 bX6_overAll rfl) rfl hl (by decide +kernel) rfl (fun ls => ?_)
                    clear hl
                    intro hl
                    have lp_35 : ∀ (n_36 : Nat) (j_38 : Nat) (fT_39 : Nat → Int32), 8 - j_38 < n_36 → j_38 ≤ 8 → (∀ x, x < j_38 → fT_39 x = cF 3 x) → ∀ (H : Heap) (locs : List Loc) (ls : Array Slot), va_P G CL [zzG cy 3 qF rF, zzI cy (rF 0) 8 (cF 0), zzI cy (rF 1) 8 (cF 1), zzI cy (rF 2) 8 (cF 2), zzI cy (rF 3) 8 (cF 3), zzI cy (rF 4) 8 (cF 4), zzI cy (rF 5) 8 (cF 5), zzI cy (rF 6) 8 (cF 6), zzI cy (rF 7) 8 (cF 7), zzG cy 3 qG rG, zzI cy (rG 0) 8 (cF 0), zzI cy (rG 1) 8 (cF 1), zzI cy (rG 2) 8 (cF 2), zzI cy (rG 3) 8 fT_39, zzI cy (rG 4) 8 (cG 4), zzI cy (rG 5) 8 (cG 5), zzI cy (rG 6) 8 (cG 6), zzI cy (rG 7) 8 (cG 7)] H → va_D A [zzG cy 3 qF rF, zzI cy (rF 0) 8 (cF 0), zzI cy (rF 1) 8 (cF 1), zzI cy (rF 2) 8 (cF 2), zzI cy (rF 3) 8 (cF 3), zzI cy (rF 4) 8 (cF 4), zzI cy (rF 5) 8 (cF 5), zzI cy (rF 6) 8 (cF 6), zzI cy (rF 7) 8 (cF 7), zzG cy 3 qG rG, zzI cy (rG 0) 8 (cF 0), zzI cy (rG 1) 8 (cF 1), zzI cy (rG 2) 8 (cF 2), zzI cy (rG 3) 8 fT_39, zzI cy (rG 4) 8 (cG 4), zzI cy (rG 5) 8 (cG 5), zzI cy (rG 6) 8 (cG 6), zzI cy (rG 7) 8 (cG 7)] → va_S A s.heap H locs → lv_has ls 4 [(3, .int (nI j_38)), (2, .int 3), (0, .ref qF), (1, .ref qG)] → W p l e (Rm 1 0 0) s m (List.toArray (α := Value) [.ref qF, .ref qG]) below meth c H locs 0 0 (MQ below ((Wv G (fun u => u = [zzG cy 3 qF rF, zzI cy (rF 0) 8 (cF 0), zzI cy (rF 1) 8 (cF 1), zzI cy (rF 2) 8 (cF 2), zzI cy (rF 3) 8 (cF 3), zzI cy (rF 4) 8 (cF 4), zzI cy (rF 5) 8 (cF 5), zzI cy (rF 6) 8 (cF 6), zzI cy (rF 7) 8 (cF 7), zzG cy 3 qG rG, zzI cy (rG 0) 8 (cF 0), zzI cy (rG 1) 8 (cF 1), zzI cy (rG 2) 8 (cF 2), zzI cy (rG 3) 8 (cF 3), zzI cy (rG 4) 8 (cF 4), zzI cy (rG 5) 8 (cF 5), zzI cy (rG 6) 8 (cF 6), zzI cy (rG 7) 8 (cF 7)])) A) (List.toArray (α := Value) [.ref qF, .ref qG]) s 0 0 A) (F0 m 10 ls []) := by
                      intro n_36
                      induction n_36 with
                      | zero => intro j_38 fT_39 hm9; exact absurd hm9 (Nat.not_lt_zero _)
                      | succ n_36 ih_37 =>
                        intro j_38 fT_39 hm_42 hj_40 hc_41 H locs ls hP hD hS hl
                        refine lv_iload_n hx hb (g_29 bX6_overAll rfl) rfl (lv_at hl 0 rfl) ?_
                        refine lv_aload_n hx hb (g_42 bX6_overAll rfl) rfl (lv_at hl 2 rfl) ?_
                        refine lv_iload_n hx hb (g_28 bX6_overAll rfl) rfl (lv_at hl 1 rfl) ?_
                        refine va_alda hx hb hK hP 0 3 rfl rfl (in_c rfl) (g_50 bX6_overAll rfl) ?_
                        refine lv_setv (v := .ref (rF 3)) (rfl) ?_
                        refine va_alen hx hb hK hP 4 0 rfl rfl (v := 8) rfl (g_190 bX6_overAll rfl) ?_
                        refine lv_icmp_ge (tgt := 34) hx hb dX6_overAll_15 (by decide +kernel) (fun c_43 => ?_) (fun c_43 => ?_)
                        · have hlt_44 : j_38 = 8 := Nat.le_antisymm (by omega) (lp_ge rfl (rfl : (8 : Int32) = nI 8) (by omega) (by omega) c_43)
                          rw [hlt_44] at hc_41
                          replace hP : va_P G CL [zzG cy 3 qF rF, zzI cy (rF 0) 8 (cF 0), zzI cy (rF 1) 8 (cF 1), zzI cy (rF 2) 8 (cF 2), zzI cy (rF 3) 8 (cF 3), zzI cy (rF 4) 8 (cF 4), zzI cy (rF 5) 8 (cF 5), zzI cy (rF 6) 8 (cF 6), zzI cy (rF 7) 8 (cF 7), zzG cy 3 qG rG, zzI cy (rG 0) 8 (cF 0), zzI cy (rG 1) 8 (cF 1), zzI cy (rG 2) 8 (cF 2), zzI cy (rG 3) 8 (cF 3), zzI cy (rG 4) 8 (cG 4), zzI cy (rG 5) 8 (cG 5), zzI cy (rG 6) 8 (cG 6), zzI cy (rG 7) 8 (cG 7)] H := arr_at hP (n0 := 13) rfl hc_41
                          replace hD : va_D A [zzG cy 3 qF rF, zzI cy (rF 0) 8 (cF 0), zzI cy (rF 1) 8 (cF 1), zzI cy (rF 2) 8 (cF 2), zzI cy (rF 3) 8 (cF 3), zzI cy (rF 4) 8 (cF 4), zzI cy (rF 5) 8 (cF 5), zzI cy (rF 6) 8 (cF 6), zzI cy (rF 7) 8 (cF 7), zzG cy 3 qG rG, zzI cy (rG 0) 8 (cF 0), zzI cy (rG 1) 8 (cF 1), zzI cy (rG 2) 8 (cF 2), zzI cy (rG 3) 8 (cF 3), zzI cy (rG 4) 8 (cG 4), zzI cy (rG 5) 8 (cG 5), zzI cy (rG 6) 8 (cG 6), zzI cy (rG 7) 8 (cG 7)] := arr_dt hD (n0 := 13) rfl
                          refine lv_iinc (v := 4) (lv' := [(2, .int 4), (3, .int (nI j_38)), (0, .ref qF), (1, .ref qG)]) hx hb dX6_overAll_34 hl (k := 1) rfl (by decide +kernel) (by decide +kernel) rfl (fun ls => ?_)
                          clear hl
                          intro hl
                          refine lv_goto (tgt := 2) hx hb dX6_overAll_37 (by decide +kernel) ?_
                          refine lv_iload_n hx hb (g_28 bX6_overAll rfl) rfl (lv_at hl 0 rfl) ?_
                          refine lv_aload_n hx hb (g_42 bX6_overAll rfl) rfl (lv_at hl 2 rfl) ?_
                          refine va_alen hx hb hK hP 0 3 rfl rfl (v := 8) rfl (g_190 bX6_overAll rfl) ?_
                          refine lv_icmp_ge (tgt := 40) hx hb dX6_overAll_5 (by decide +kernel) (fun h9 => absurd h9 (by decide +kernel)) (fun _ => ?_)
                          refine lv_iconst (v := 0) hx hb (g_3 bX6_overAll rfl) (by decide +kernel) ?_
                          refine lv_istore_n (lv' := [(3, .int 0), (2, .int 4), (0, .ref qF), (1, .ref qG)]) hx hb (g_62 bX6_overAll rfl) rfl hl (by decide +kernel) rfl (fun ls => ?_)
                          clear hl
                          intro hl
                          have lp_46 : ∀ (n_47 : Nat) (j_49 : Nat) (fT_50 : Nat → Int32), 8 - j_49 < n_47 → j_49 ≤ 8 → (∀ x, x < j_49 → fT_50 x = cF 4 x) → ∀ (H : Heap) (locs : List Loc) (ls : Array Slot), va_P G CL [zzG cy 3 qF rF, zzI cy (rF 0) 8 (cF 0), zzI cy (rF 1) 8 (cF 1), zzI cy (rF 2) 8 (cF 2), zzI cy (rF 3) 8 (cF 3), zzI cy (rF 4) 8 (cF 4), zzI cy (rF 5) 8 (cF 5), zzI cy (rF 6) 8 (cF 6), zzI cy (rF 7) 8 (cF 7), zzG cy 3 qG rG, zzI cy (rG 0) 8 (cF 0), zzI cy (rG 1) 8 (cF 1), zzI cy (rG 2) 8 (cF 2), zzI cy (rG 3) 8 (cF 3), zzI cy (rG 4) 8 fT_50, zzI cy (rG 5) 8 (cG 5), zzI cy (rG 6) 8 (cG 6), zzI cy (rG 7) 8 (cG 7)] H → va_D A [zzG cy 3 qF rF, zzI cy (rF 0) 8 (cF 0), zzI cy (rF 1) 8 (cF 1), zzI cy (rF 2) 8 (cF 2), zzI cy (rF 3) 8 (cF 3), zzI cy (rF 4) 8 (cF 4), zzI cy (rF 5) 8 (cF 5), zzI cy (rF 6) 8 (cF 6), zzI cy (rF 7) 8 (cF 7), zzG cy 3 qG rG, zzI cy (rG 0) 8 (cF 0), zzI cy (rG 1) 8 (cF 1), zzI cy (rG 2) 8 (cF 2), zzI cy (rG 3) 8 (cF 3), zzI cy (rG 4) 8 fT_50, zzI cy (rG 5) 8 (cG 5), zzI cy (rG 6) 8 (cG 6), zzI cy (rG 7) 8 (cG 7)] → va_S A s.heap H locs → lv_has ls 4 [(3, .int (nI j_49)), (2, .int 4), (0, .ref qF), (1, .ref qG)] → W p l e (Rm 1 0 0) s m (List.toArray (α := Value) [.ref qF, .ref qG]) below meth c H locs 0 0 (MQ below ((Wv G (fun u => u = [zzG cy 3 qF rF, zzI cy (rF 0) 8 (cF 0), zzI cy (rF 1) 8 (cF 1), zzI cy (rF 2) 8 (cF 2), zzI cy (rF 3) 8 (cF 3), zzI cy (rF 4) 8 (cF 4), zzI cy (rF 5) 8 (cF 5), zzI cy (rF 6) 8 (cF 6), zzI cy (rF 7) 8 (cF 7), zzG cy 3 qG rG, zzI cy (rG 0) 8 (cF 0), zzI cy (rG 1) 8 (cF 1), zzI cy (rG 2) 8 (cF 2), zzI cy (rG 3) 8 (cF 3), zzI cy (rG 4) 8 (cF 4), zzI cy (rG 5) 8 (cF 5), zzI cy (rG 6) 8 (cF 6), zzI cy (rG 7) 8 (cF 7)])) A) (List.toArray (α := Value) [.ref qF, .ref qG]) s 0 0 A) (F0 m 10 ls []) := by
                            intro n_47
                            induction n_47 with
                            | zero => intro j_49 fT_50 hm9; exact absurd hm9 (Nat.not_lt_zero _)
                            | succ n_47 ih_48 =>
                              intro j_49 fT_50 hm_53 hj_51 hc_52 H locs ls hP hD hS hl
                              refine lv_iload_n hx hb (g_29 bX6_overAll rfl) rfl (lv_at hl 0 rfl) ?_
                              refine lv_aload_n hx hb (g_42 bX6_overAll rfl) rfl (lv_at hl 2 rfl) ?_
                              refine lv_iload_n hx hb (g_28 bX6_overAll rfl) rfl (lv_at hl 1 rfl) ?_
                              refine va_alda hx hb hK hP 0 3 rfl rfl (in_c rfl) (g_50 bX6_overAll rfl) ?_
                              refine lv_setv (v := .ref (rF 4)) (rfl) ?_
                              refine va_alen hx hb hK hP 5 0 rfl rfl (v := 8) rfl (g_190 bX6_overAll rfl) ?_
                              refine lv_icmp_ge (tgt := 34) hx hb dX6_overAll_15 (by decide +kernel) (fun c_54 => ?_) (fun c_54 => ?_)
                              · have hlt_55 : j_49 = 8 := Nat.le_antisymm (by omega) (lp_ge rfl (rfl : (8 : Int32) = nI 8) (by omega) (by omega) c_54)
                                rw [hlt_55] at hc_52
                                replace hP : va_P G CL [zzG cy 3 qF rF, zzI cy (rF 0) 8 (cF 0), zzI cy (rF 1) 8 (cF 1), zzI cy (rF 2) 8 (cF 2), zzI cy (rF 3) 8 (cF 3), zzI cy (rF 4) 8 (cF 4), zzI cy (rF 5) 8 (cF 5), zzI cy (rF 6) 8 (cF 6), zzI cy (rF 7) 8 (cF 7), zzG cy 3 qG rG, zzI cy (rG 0) 8 (cF 0), zzI cy (rG 1) 8 (cF 1), zzI cy (rG 2) 8 (cF 2), zzI cy (rG 3) 8 (cF 3), zzI cy (rG 4) 8 (cF 4), zzI cy (rG 5) 8 (cG 5), zzI cy (rG 6) 8 (cG 6), zzI cy (rG 7) 8 (cG 7)] H := arr_at hP (n0 := 14) rfl hc_52
                                replace hD : va_D A [zzG cy 3 qF rF, zzI cy (rF 0) 8 (cF 0), zzI cy (rF 1) 8 (cF 1), zzI cy (rF 2) 8 (cF 2), zzI cy (rF 3) 8 (cF 3), zzI cy (rF 4) 8 (cF 4), zzI cy (rF 5) 8 (cF 5), zzI cy (rF 6) 8 (cF 6), zzI cy (rF 7) 8 (cF 7), zzG cy 3 qG rG, zzI cy (rG 0) 8 (cF 0), zzI cy (rG 1) 8 (cF 1), zzI cy (rG 2) 8 (cF 2), zzI cy (rG 3) 8 (cF 3), zzI cy (rG 4) 8 (cF 4), zzI cy (rG 5) 8 (cG 5), zzI cy (rG 6) 8 (cG 6), zzI cy (rG 7) 8 (cG 7)] := arr_dt hD (n0 := 14) rfl
                                refine lv_iinc (v := 5) (lv' := [(2, .int 5), (3, .int (nI j_49)), (0, .ref qF), (1, .ref qG)]) hx hb dX6_overAll_34 hl (k := 1) rfl (by decide +kernel) (by decide +kernel) rfl (fun ls => ?_)
                                clear hl
                                intro hl
                                refine lv_goto (tgt := 2) hx hb dX6_overAll_37 (by decide +kernel) ?_
                                refine lv_iload_n hx hb (g_28 bX6_overAll rfl) rfl (lv_at hl 0 rfl) ?_
                                refine lv_aload_n hx hb (g_42 bX6_overAll rfl) rfl (lv_at hl 2 rfl) ?_
                                refine va_alen hx hb hK hP 0 3 rfl rfl (v := 8) rfl (g_190 bX6_overAll rfl) ?_
                                refine lv_icmp_ge (tgt := 40) hx hb dX6_overAll_5 (by decide +kernel) (fun h9 => absurd h9 (by decide +kernel)) (fun _ => ?_)
                                refine lv_iconst (v := 0) hx hb (g_3 bX6_overAll rfl) (by decide +kernel) ?_
                                refine lv_istore_n (lv' := [(3, .int 0), (2, .int 5), (0, .ref qF), (1, .ref qG)]) hx hb (g_62 bX6_overAll rfl) rfl hl (by decide +kernel) rfl (fun ls => ?_)
                                clear hl
                                intro hl
                                have lp_57 : ∀ (n_58 : Nat) (j_60 : Nat) (fT_61 : Nat → Int32), 8 - j_60 < n_58 → j_60 ≤ 8 → (∀ x, x < j_60 → fT_61 x = cF 5 x) → ∀ (H : Heap) (locs : List Loc) (ls : Array Slot), va_P G CL [zzG cy 3 qF rF, zzI cy (rF 0) 8 (cF 0), zzI cy (rF 1) 8 (cF 1), zzI cy (rF 2) 8 (cF 2), zzI cy (rF 3) 8 (cF 3), zzI cy (rF 4) 8 (cF 4), zzI cy (rF 5) 8 (cF 5), zzI cy (rF 6) 8 (cF 6), zzI cy (rF 7) 8 (cF 7), zzG cy 3 qG rG, zzI cy (rG 0) 8 (cF 0), zzI cy (rG 1) 8 (cF 1), zzI cy (rG 2) 8 (cF 2), zzI cy (rG 3) 8 (cF 3), zzI cy (rG 4) 8 (cF 4), zzI cy (rG 5) 8 fT_61, zzI cy (rG 6) 8 (cG 6), zzI cy (rG 7) 8 (cG 7)] H → va_D A [zzG cy 3 qF rF, zzI cy (rF 0) 8 (cF 0), zzI cy (rF 1) 8 (cF 1), zzI cy (rF 2) 8 (cF 2), zzI cy (rF 3) 8 (cF 3), zzI cy (rF 4) 8 (cF 4), zzI cy (rF 5) 8 (cF 5), zzI cy (rF 6) 8 (cF 6), zzI cy (rF 7) 8 (cF 7), zzG cy 3 qG rG, zzI cy (rG 0) 8 (cF 0), zzI cy (rG 1) 8 (cF 1), zzI cy (rG 2) 8 (cF 2), zzI cy (rG 3) 8 (cF 3), zzI cy (rG 4) 8 (cF 4), zzI cy (rG 5) 8 fT_61, zzI cy (rG 6) 8 (cG 6), zzI cy (rG 7) 8 (cG 7)] → va_S A s.heap H locs → lv_has ls 4 [(3, .int (nI j_60)), (2, .int 5), (0, .ref qF), (1, .ref qG)] → W p l e (Rm 1 0 0) s m (List.toArray (α := Value) [.ref qF, .ref qG]) below meth c H locs 0 0 (MQ below ((Wv G (fun u => u = [zzG cy 3 qF rF, zzI cy (rF 0) 8 (cF 0), zzI cy (rF 1) 8 (cF 1), zzI cy (rF 2) 8 (cF 2), zzI cy (rF 3) 8 (cF 3), zzI cy (rF 4) 8 (cF 4), zzI cy (rF 5) 8 (cF 5), zzI cy (rF 6) 8 (cF 6), zzI cy (rF 7) 8 (cF 7), zzG cy 3 qG rG, zzI cy (rG 0) 8 (cF 0), zzI cy (rG 1) 8 (cF 1), zzI cy (rG 2) 8 (cF 2), zzI cy (rG 3) 8 (cF 3), zzI cy (rG 4) 8 (cF 4), zzI cy (rG 5) 8 (cF 5), zzI cy (rG 6) 8 (cF 6), zzI cy (rG 7) 8 (cF 7)])) A) (List.toArray (α := Value) [.ref qF, .ref qG]) s 0 0 A) (F0 m 10 ls []) := by
                                  intro n_58
                                  induction n_58 with
                                  | zero => intro j_60 fT_61 hm9; exact absurd hm9 (Nat.not_lt_zero _)
                                  | succ n_58 ih_59 =>
                                    intro j_60 fT_61 hm_64 hj_62 hc_63 H locs ls hP hD hS hl
                                    refine lv_iload_n hx hb (g_29 bX6_overAll rfl) rfl (lv_at hl 0 rfl) ?_
                                    refine lv_aload_n hx hb (g_42 bX6_overAll rfl) rfl (lv_at hl 2 rfl) ?_
                                    refine lv_iload_n hx hb (g_28 bX6_overAll rfl) rfl (lv_at hl 1 rfl) ?_
                                    refine va_alda hx hb hK hP 0 3 rfl rfl (in_c rfl) (g_50 bX6_overAll rfl) ?_
                                    refine lv_setv (v := .ref (rF 5)) (rfl) ?_
                                    refine va_alen hx hb hK hP 6 0 rfl rfl (v := 8) rfl (g_190 bX6_overAll rfl) ?_
                                    refine lv_icmp_ge (tgt := 34) hx hb dX6_overAll_15 (by decide +kernel) (fun c_65 => ?_) (fun c_65 => ?_)
                                    · have hlt_66 : j_60 = 8 := Nat.le_antisymm (by omega) (lp_ge rfl (rfl : (8 : Int32) = nI 8) (by omega) (by omega) c_65)
                                      rw [hlt_66] at hc_63
                                      replace hP : va_P G CL [zzG cy 3 qF rF, zzI cy (rF 0) 8 (cF 0), zzI cy (rF 1) 8 (cF 1), zzI cy (rF 2) 8 (cF 2), zzI cy (rF 3) 8 (cF 3), zzI cy (rF 4) 8 (cF 4), zzI cy (rF 5) 8 (cF 5), zzI cy (rF 6) 8 (cF 6), zzI cy (rF 7) 8 (cF 7), zzG cy 3 qG rG, zzI cy (rG 0) 8 (cF 0), zzI cy (rG 1) 8 (cF 1), zzI cy (rG 2) 8 (cF 2), zzI cy (rG 3) 8 (cF 3), zzI cy (rG 4) 8 (cF 4), zzI cy (rG 5) 8 (cF 5), zzI cy (rG 6) 8 (cG 6), zzI cy (rG 7) 8 (cG 7)] H := arr_at hP (n0 := 15) rfl hc_63
                                      replace hD : va_D A [zzG cy 3 qF rF, zzI cy (rF 0) 8 (cF 0), zzI cy (rF 1) 8 (cF 1), zzI cy (rF 2) 8 (cF 2), zzI cy (rF 3) 8 (cF 3), zzI cy (rF 4) 8 (cF 4), zzI cy (rF 5) 8 (cF 5), zzI cy (rF 6) 8 (cF 6), zzI cy (rF 7) 8 (cF 7), zzG cy 3 qG rG, zzI cy (rG 0) 8 (cF 0), zzI cy (rG 1) 8 (cF 1), zzI cy (rG 2) 8 (cF 2), zzI cy (rG 3) 8 (cF 3), zzI cy (rG 4) 8 (cF 4), zzI cy (rG 5) 8 (cF 5), zzI cy (rG 6) 8 (cG 6), zzI cy (rG 7) 8 (cG 7)] := arr_dt hD (n0 := 15) rfl
                                      refine lv_iinc (v := 6) (lv' := [(2, .int 6), (3, .int (nI j_60)), (0, .ref qF), (1, .ref qG)]) hx hb dX6_overAll_34 hl (k := 1) rfl (by decide +kernel) (by decide +kernel) rfl (fun ls => ?_)
                                      clear hl
                                      intro hl
                                      refine lv_goto (tgt := 2) hx hb dX6_overAll_37 (by decide +kernel) ?_
                                      refine lv_iload_n hx hb (g_28 bX6_overAll rfl) rfl (lv_at hl 0 rfl) ?_
                                      refine lv_aload_n hx hb (g_42 bX6_overAll rfl) rfl (lv_at hl 2 rfl) ?_
                                      refine va_alen hx hb hK hP 0 3 rfl rfl (v := 8) rfl (g_190 bX6_overAll rfl) ?_
                                      refine lv_icmp_ge (tgt := 40) hx hb dX6_overAll_5 (by decide +kernel) (fun h9 => absurd h9 (by decide +kernel)) (fun _ => ?_)
                                      refine lv_iconst (v := 0) hx hb (g_3 bX6_overAll rfl) (by decide +kernel) ?_
                                      refine lv_istore_n (lv' := [(3, .int 0), (2, .int 6), (0, .ref qF), (1, .ref qG)]) hx hb (g_62 bX6_overAll rfl) rfl hl (by decide +kernel) rfl (fun ls => ?_)
                                      clear hl
                                      intro hl
                                      have lp_68 : ∀ (n_69 : Nat) (j_71 : Nat) (fT_72 : Nat → Int32), 8 - j_71 < n_69 → j_71 ≤ 8 → (∀ x, x < j_71 → fT_72 x = cF 6 x) → ∀ (H : Heap) (locs : List Loc) (ls : Array Slot), va_P G CL [zzG cy 3 qF rF, zzI cy (rF 0) 8 (cF 0), zzI cy (rF 1) 8 (cF 1), zzI cy (rF 2) 8 (cF 2), zzI cy (rF 3) 8 (cF 3), zzI cy (rF 4) 8 (cF 4), zzI cy (rF 5) 8 (cF 5), zzI cy (rF 6) 8 (cF 6), zzI cy (rF 7) 8 (cF 7), zzG cy 3 qG rG, zzI cy (rG 0) 8 (cF 0), zzI cy (rG 1) 8 (cF 1), zzI cy (rG 2) 8 (cF 2), zzI cy (rG 3) 8 (cF 3), zzI cy (rG 4) 8 (cF 4), zzI cy (rG 5) 8 (cF 5), zzI cy (rG 6) 8 fT_72, zzI cy (rG 7) 8 (cG 7)] H → va_D A [zzG cy 3 qF rF, zzI cy (rF 0) 8 (cF 0), zzI cy (rF 1) 8 (cF 1), zzI cy (rF 2) 8 (cF 2), zzI cy (rF 3) 8 (cF 3), zzI cy (rF 4) 8 (cF 4), zzI cy (rF 5) 8 (cF 5), zzI cy (rF 6) 8 (cF 6), zzI cy (rF 7) 8 (cF 7), zzG cy 3 qG rG, zzI cy (rG 0) 8 (cF 0), zzI cy (rG 1) 8 (cF 1), zzI cy (rG 2) 8 (cF 2), zzI cy (rG 3) 8 (cF 3), zzI cy (rG 4) 8 (cF 4), zzI cy (rG 5) 8 (cF 5), zzI cy (rG 6) 8 fT_72, zzI cy (rG 7) 8 (cG 7)] → va_S A s.heap H locs → lv_has ls 4 [(3, .int (nI j_71)), (2, .int 6), (0, .ref qF), (1, .ref qG)] → W p l e (Rm 1 0 0) s m (List.toArray (α := Value) [.ref qF, .ref qG]) below meth c H locs 0 0 (MQ below ((Wv G (fun u => u = [zzG cy 3 qF rF, zzI cy (rF 0) 8 (cF 0), zzI cy (rF 1) 8 (cF 1), zzI cy (rF 2) 8 (cF 2), zzI cy (rF 3) 8 (cF 3), zzI cy (rF 4) 8 (cF 4), zzI cy (rF 5) 8 (cF 5), zzI cy (rF 6) 8 (cF 6), zzI cy (rF 7) 8 (cF 7), zzG cy 3 qG rG, zzI cy (rG 0) 8 (cF 0), zzI cy (rG 1) 8 (cF 1), zzI cy (rG 2) 8 (cF 2), zzI cy (rG 3) 8 (cF 3), zzI cy (rG 4) 8 (cF 4), zzI cy (rG 5) 8 (cF 5), zzI cy (rG 6) 8 (cF 6), zzI cy (rG 7) 8 (cF 7)])) A) (List.toArray (α := Value) [.ref qF, .ref qG]) s 0 0 A) (F0 m 10 ls []) := by
                                        intro n_69
                                        induction n_69 with
                                        | zero => intro j_71 fT_72 hm9; exact absurd hm9 (Nat.not_lt_zero _)
                                        | succ n_69 ih_70 =>
                                          intro j_71 fT_72 hm_75 hj_73 hc_74 H locs ls hP hD hS hl
                                          refine lv_iload_n hx hb (g_29 bX6_overAll rfl) rfl (lv_at hl 0 rfl) ?_
                                          refine lv_aload_n hx hb (g_42 bX6_overAll rfl) rfl (lv_at hl 2 rfl) ?_
                                          refine lv_iload_n hx hb (g_28 bX6_overAll rfl) rfl (lv_at hl 1 rfl) ?_
                                          refine va_alda hx hb hK hP 0 3 rfl rfl (in_c rfl) (g_50 bX6_overAll rfl) ?_
                                          refine lv_setv (v := .ref (rF 6)) (rfl) ?_
                                          refine va_alen hx hb hK hP 7 0 rfl rfl (v := 8) rfl (g_190 bX6_overAll rfl) ?_
                                          refine lv_icmp_ge (tgt := 34) hx hb dX6_overAll_15 (by decide +kernel) (fun c_76 => ?_) (fun c_76 => ?_)
                                          · have hlt_77 : j_71 = 8 := Nat.le_antisymm (by omega) (lp_ge rfl (rfl : (8 : Int32) = nI 8) (by omega) (by omega) c_76)
                                            rw [hlt_77] at hc_74
                                            replace hP : va_P G CL [zzG cy 3 qF rF, zzI cy (rF 0) 8 (cF 0), zzI cy (rF 1) 8 (cF 1), zzI cy (rF 2) 8 (cF 2), zzI cy (rF 3) 8 (cF 3), zzI cy (rF 4) 8 (cF 4), zzI cy (rF 5) 8 (cF 5), zzI cy (rF 6) 8 (cF 6), zzI cy (rF 7) 8 (cF 7), zzG cy 3 qG rG, zzI cy (rG 0) 8 (cF 0), zzI cy (rG 1) 8 (cF 1), zzI cy (rG 2) 8 (cF 2), zzI cy (rG 3) 8 (cF 3), zzI cy (rG 4) 8 (cF 4), zzI cy (rG 5) 8 (cF 5), zzI cy (rG 6) 8 (cF 6), zzI cy (rG 7) 8 (cG 7)] H := arr_at hP (n0 := 16) rfl hc_74
                                            replace hD : va_D A [zzG cy 3 qF rF, zzI cy (rF 0) 8 (cF 0), zzI cy (rF 1) 8 (cF 1), zzI cy (rF 2) 8 (cF 2), zzI cy (rF 3) 8 (cF 3), zzI cy (rF 4) 8 (cF 4), zzI cy (rF 5) 8 (cF 5), zzI cy (rF 6) 8 (cF 6), zzI cy (rF 7) 8 (cF 7), zzG cy 3 qG rG, zzI cy (rG 0) 8 (cF 0), zzI cy (rG 1) 8 (cF 1), zzI cy (rG 2) 8 (cF 2), zzI cy (rG 3) 8 (cF 3), zzI cy (rG 4) 8 (cF 4), zzI cy (rG 5) 8 (cF 5), zzI cy (rG 6) 8 (cF 6), zzI cy (rG 7) 8 (cG 7)] := arr_dt hD (n0 := 16) rfl
                                            refine lv_iinc (v := 7) (lv' := [(2, .int 7), (3, .int (nI j_71)), (0, .ref qF), (1, .ref qG)]) hx hb dX6_overAll_34 hl (k := 1) rfl (by decide +kernel) (by decide +kernel) rfl (fun ls => ?_)
                                            clear hl
                                            intro hl
                                            refine lv_goto (tgt := 2) hx hb dX6_overAll_37 (by decide +kernel) ?_
                                            refine lv_iload_n hx hb (g_28 bX6_overAll rfl) rfl (lv_at hl 0 rfl) ?_
                                            refine lv_aload_n hx hb (g_42 bX6_overAll rfl) rfl (lv_at hl 2 rfl) ?_
                                            refine va_alen hx hb hK hP 0 3 rfl rfl (v := 8) rfl (g_190 bX6_overAll rfl) ?_
                                            refine lv_icmp_ge (tgt := 40) hx hb dX6_overAll_5 (by decide +kernel) (fun h9 => absurd h9 (by decide +kernel)) (fun _ => ?_)
                                            refine lv_iconst (v := 0) hx hb (g_3 bX6_overAll rfl) (by decide +kernel) ?_
                                            refine lv_istore_n (lv' := [(3, .int 0), (2, .int 7), (0, .ref qF), (1, .ref qG)]) hx hb (g_62 bX6_overAll rfl) rfl hl (by decide +kernel) rfl (fun ls => ?_)
                                            clear hl
                                            intro hl
                                            have lp_79 : ∀ (n_80 : Nat) (j_82 : Nat) (fT_83 : Nat → Int32), 8 - j_82 < n_80 → j_82 ≤ 8 → (∀ x, x < j_82 → fT_83 x = cF 7 x) → ∀ (H : Heap) (locs : List Loc) (ls : Array Slot), va_P G CL [zzG cy 3 qF rF, zzI cy (rF 0) 8 (cF 0), zzI cy (rF 1) 8 (cF 1), zzI cy (rF 2) 8 (cF 2), zzI cy (rF 3) 8 (cF 3), zzI cy (rF 4) 8 (cF 4), zzI cy (rF 5) 8 (cF 5), zzI cy (rF 6) 8 (cF 6), zzI cy (rF 7) 8 (cF 7), zzG cy 3 qG rG, zzI cy (rG 0) 8 (cF 0), zzI cy (rG 1) 8 (cF 1), zzI cy (rG 2) 8 (cF 2), zzI cy (rG 3) 8 (cF 3), zzI cy (rG 4) 8 (cF 4), zzI cy (rG 5) 8 (cF 5), zzI cy (rG 6) 8 (cF 6), zzI cy (rG 7) 8 fT_83] H → va_D A [zzG cy 3 qF rF, zzI cy (rF 0) 8 (cF 0), zzI cy (rF 1) 8 (cF 1), zzI cy (rF 2) 8 (cF 2), zzI cy (rF 3) 8 (cF 3), zzI cy (rF 4) 8 (cF 4), zzI cy (rF 5) 8 (cF 5), zzI cy (rF 6) 8 (cF 6), zzI cy (rF 7) 8 (cF 7), zzG cy 3 qG rG, zzI cy (rG 0) 8 (cF 0), zzI cy (rG 1) 8 (cF 1), zzI cy (rG 2) 8 (cF 2), zzI cy (rG 3) 8 (cF 3), zzI cy (rG 4) 8 (cF 4), zzI cy (rG 5) 8 (cF 5), zzI cy (rG 6) 8 (cF 6), zzI cy (rG 7) 8 fT_83] → va_S A s.heap H locs → lv_has ls 4 [(3, .int (nI j_82)), (2, .int 7), (0, .ref qF), (1, .ref qG)] → W p l e (Rm 1 0 0) s m (List.toArray (α := Value) [.ref qF, .ref qG]) below meth c H locs 0 0 (MQ below ((Wv G (fun u => u = [zzG cy 3 qF rF, zzI cy (rF 0) 8 (cF 0), zzI cy (rF 1) 8 (cF 1), zzI cy (rF 2) 8 (cF 2), zzI cy (rF 3) 8 (cF 3), zzI cy (rF 4) 8 (cF 4), zzI cy (rF 5) 8 (cF 5), zzI cy (rF 6) 8 (cF 6), zzI cy (rF 7) 8 (cF 7), zzG cy 3 qG rG, zzI cy (rG 0) 8 (cF 0), zzI cy (rG 1) 8 (cF 1), zzI cy (rG 2) 8 (cF 2), zzI cy (rG 3) 8 (cF 3), zzI cy (rG 4) 8 (cF 4), zzI cy (rG 5) 8 (cF 5), zzI cy (rG 6) 8 (cF 6), zzI cy (rG 7) 8 (cF 7)])) A) (List.toArray (α := Value) [.ref qF, .ref qG]) s 0 0 A) (F0 m 10 ls []) := by
                                              intro n_80
                                              induction n_80 with
                                              | zero => intro j_82 fT_83 hm9; exact absurd hm9 (Nat.not_lt_zero _)
                                              | succ n_80 ih_81 =>
                                                intro j_82 fT_83 hm_86 hj_84 hc_85 H locs ls hP hD hS hl
                                                refine lv_iload_n hx hb (g_29 bX6_overAll rfl) rfl (lv_at hl 0 rfl) ?_
                                                refine lv_aload_n hx hb (g_42 bX6_overAll rfl) rfl (lv_at hl 2 rfl) ?_
                                                refine lv_iload_n hx hb (g_28 bX6_overAll rfl) rfl (lv_at hl 1 rfl) ?_
                                                refine va_alda hx hb hK hP 0 3 rfl rfl (in_c rfl) (g_50 bX6_overAll rfl) ?_
                                                refine lv_setv (v := .ref (rF 7)) (rfl) ?_
                                                refine va_alen hx hb hK hP 8 0 rfl rfl (v := 8) rfl (g_190 bX6_overAll rfl) ?_
                                                refine lv_icmp_ge (tgt := 34) hx hb dX6_overAll_15 (by decide +kernel) (fun c_87 => ?_) (fun c_87 => ?_)
                                                · have hlt_88 : j_82 = 8 := Nat.le_antisymm (by omega) (lp_ge rfl (rfl : (8 : Int32) = nI 8) (by omega) (by omega) c_87)
                                                  rw [hlt_88] at hc_85
                                                  replace hP : va_P G CL [zzG cy 3 qF rF, zzI cy (rF 0) 8 (cF 0), zzI cy (rF 1) 8 (cF 1), zzI cy (rF 2) 8 (cF 2), zzI cy (rF 3) 8 (cF 3), zzI cy (rF 4) 8 (cF 4), zzI cy (rF 5) 8 (cF 5), zzI cy (rF 6) 8 (cF 6), zzI cy (rF 7) 8 (cF 7), zzG cy 3 qG rG, zzI cy (rG 0) 8 (cF 0), zzI cy (rG 1) 8 (cF 1), zzI cy (rG 2) 8 (cF 2), zzI cy (rG 3) 8 (cF 3), zzI cy (rG 4) 8 (cF 4), zzI cy (rG 5) 8 (cF 5), zzI cy (rG 6) 8 (cF 6), zzI cy (rG 7) 8 (cF 7)] H := arr_at hP (n0 := 17) rfl hc_85
                                                  replace hD : va_D A [zzG cy 3 qF rF, zzI cy (rF 0) 8 (cF 0), zzI cy (rF 1) 8 (cF 1), zzI cy (rF 2) 8 (cF 2), zzI cy (rF 3) 8 (cF 3), zzI cy (rF 4) 8 (cF 4), zzI cy (rF 5) 8 (cF 5), zzI cy (rF 6) 8 (cF 6), zzI cy (rF 7) 8 (cF 7), zzG cy 3 qG rG, zzI cy (rG 0) 8 (cF 0), zzI cy (rG 1) 8 (cF 1), zzI cy (rG 2) 8 (cF 2), zzI cy (rG 3) 8 (cF 3), zzI cy (rG 4) 8 (cF 4), zzI cy (rG 5) 8 (cF 5), zzI cy (rG 6) 8 (cF 6), zzI cy (rG 7) 8 (cF 7)] := arr_dt hD (n0 := 17) rfl
                                                  refine lv_iinc (v := 8) (lv' := [(2, .int 8), (3, .int (nI j_82)), (0, .ref qF), (1, .ref qG)]) hx hb dX6_overAll_34 hl (k := 1) rfl (by decide +kernel) (by decide +kernel) rfl (fun ls => ?_)
                                                  clear hl
                                                  intro hl
                                                  refine lv_goto (tgt := 2) hx hb dX6_overAll_37 (by decide +kernel) ?_
                                                  refine lv_iload_n hx hb (g_28 bX6_overAll rfl) rfl (lv_at hl 0 rfl) ?_
                                                  refine lv_aload_n hx hb (g_42 bX6_overAll rfl) rfl (lv_at hl 2 rfl) ?_
                                                  refine va_alen hx hb hK hP 0 3 rfl rfl (v := 8) rfl (g_190 bX6_overAll rfl) ?_
                                                  refine lv_icmp_ge (tgt := 40) hx hb dX6_overAll_5 (by decide +kernel) (fun _ => ?_) (fun h9 => absurd (by decide +kernel) h9)
                                                  exact endVs [[true, true, true, true, true, true, true, true, true, true, true, true, true, true, true, true, true, true]] hx hb hr hlocks hP hD rfl (by decide +kernel) hS rfl (g_177 bX6_overAll rfl)
                                                · have hlt_90 : j_82 < 8 := lp_lt rfl (rfl : (8 : Int32) = nI 8) (by omega) (by omega) c_87
                                                  refine lv_aload_n hx hb (g_43 bX6_overAll rfl) rfl (lv_at hl 3 rfl) ?_
                                                  refine lv_iload_n hx hb (g_28 bX6_overAll rfl) rfl (lv_at hl 1 rfl) ?_
                                                  refine va_alda hx hb hK hP 9 3 rfl rfl (in_c rfl) (g_50 bX6_overAll rfl) ?_
                                                  refine lv_setv (v := .ref (rG 7)) (rfl) ?_
                                                  refine lv_iload_n hx hb (g_29 bX6_overAll rfl) rfl (lv_at hl 0 rfl) ?_
                                                  refine lv_aload_n hx hb (g_42 bX6_overAll rfl) rfl (lv_at hl 2 rfl) ?_
                                                  refine lv_iload_n hx hb (g_28 bX6_overAll rfl) rfl (lv_at hl 1 rfl) ?_
                                                  refine va_alda hx hb hK hP 0 3 rfl rfl (in_c rfl) (g_50 bX6_overAll rfl) ?_
                                                  refine lv_setv (v := .ref (rF 7)) (rfl) ?_
                                                  refine lv_iload_n hx hb (g_29 bX6_overAll rfl) rfl (lv_at hl 0 rfl) ?_
                                                  refine va_iald hx hb hK hP 8 0 rfl rfl (in8 (by omega)) (g_46 bX6_overAll rfl) ?_
                                                  refine lv_seti (v := (cF 7) j_82) (congrArg (cF 7) (cl8 (by omega))) ?_
                                                  refine va_iast hx hb hK hP hD hS 17 0 rfl rfl (in8 (by omega)) (g_79 bX6_overAll rfl) (fun H locs => ?_)
                                                  clear hP hD hS
                                                  intro hP hD hS
                                                  rw [cl8 (k := j_82) (by omega)] at hP hD
                                                  have hPD := pd_as [_, _, _, _, _, _, _, _, _, _, _, _, _, _, _, _, _, zzI cy (rG 7) 8 (upd fT_83 j_82 ((cF 7) j_82))] hP hD rfl
                                                  clear hP hD
                                                  obtain ⟨hP, hD⟩ := hPD
                                                  refine lv_iinc (v := nI (j_82 + 1)) (lv' := [(3, .int (nI (j_82 + 1))), (2, .int 7), (0, .ref qF), (1, .ref qG)]) hx hb dX6_overAll_28 hl (k := 0) rfl (nI_1 _) (by decide +kernel) rfl (fun ls => ?_)
                                                  clear hl
                                                  intro hl
                                                  refine lv_goto (tgt := 10) hx hb dX6_overAll_31 (by decide +kernel) ?_
                                                  exact ih_81 (j_82 + 1) (upd fT_83 j_82 ((cF 7) j_82)) (by omega) (by omega) (cp_step hc_85) _ _ _ hP hD hS (lv_sub hl [0, 1, 2, 3] rfl)
                                            exact lp_79 ((8 - 0) + 1) 0 (cG 7) (Nat.lt_succ_self _) (Nat.zero_le _) (fun x h => absurd h (Nat.not_lt_zero _)) _ _ ls hP hD hS (lv_sub hl [0, 1, 2, 3] rfl)
                                          · have hlt_91 : j_71 < 8 := lp_lt rfl (rfl : (8 : Int32) = nI 8) (by omega) (by omega) c_76
                                            refine lv_aload_n hx hb (g_43 bX6_overAll rfl) rfl (lv_at hl 3 rfl) ?_
                                            refine lv_iload_n hx hb (g_28 bX6_overAll rfl) rfl (lv_at hl 1 rfl) ?_
                                            refine va_alda hx hb hK hP 9 3 rfl rfl (in_c rfl) (g_50 bX6_overAll rfl) ?_
                                            refine lv_setv (v := .ref (rG 6)) (rfl) ?_
                                            refine lv_iload_n hx hb (g_29 bX6_overAll rfl) rfl (lv_at hl 0 rfl) ?_
                                            refine lv_aload_n hx hb (g_42 bX6_overAll rfl) rfl (lv_at hl 2 rfl) ?_
                                            refine lv_iload_n hx hb (g_28 bX6_overAll rfl) rfl (lv_at hl 1 rfl) ?_
                                            refine va_alda hx hb hK hP 0 3 rfl rfl (in_c rfl) (g_50 bX6_overAll rfl) ?_
                                            refine lv_setv (v := .ref (rF 6)) (rfl) ?_
                                            refine lv_iload_n hx hb (g_29 bX6_overAll rfl) rfl (lv_at hl 0 rfl) ?_
                                            refine va_iald hx hb hK hP 7 0 rfl rfl (in8 (by omega)) (g_46 bX6_overAll rfl) ?_
                                            refine lv_seti (v := (cF 6) j_71) (congrArg (cF 6) (cl8 (by omega))) ?_
                                            refine va_iast hx hb hK hP hD hS 16 0 rfl rfl (in8 (by omega)) (g_79 bX6_overAll rfl) (fun H locs => ?_)
                                            clear hP hD hS
                                            intro hP hD hS
                                            rw [cl8 (k := j_71) (by omega)] at hP hD
                                            have hPD := pd_as [_, _, _, _, _, _, _, _, _, _, _, _, _, _, _, _, zzI cy (rG 6) 8 (upd fT_72 j_71 ((cF 6) j_71)), _] hP hD rfl
                                            clear hP hD
                                            obtain ⟨hP, hD⟩ := hPD
                                            refine lv_iinc (v := nI (j_71 + 1)) (lv' := [(3, .int (nI (j_71 + 1))), (2, .int 6), (0, .ref qF), (1, .ref qG)]) hx hb dX6_overAll_28 hl (k := 0) rfl (nI_1 _) (by decide +kernel) rfl (fun ls => ?_)
                                            clear hl
                                            intro hl
                                            refine lv_goto (tgt := 10) hx hb dX6_overAll_31 (by decide +kernel) ?_
                                            exact ih_70 (j_71 + 1) (upd fT_72 j_71 ((cF 6) j_71)) (by omega) (by omega) (cp_step hc_74) _ _ _ hP hD hS (lv_sub hl [0, 1, 2, 3] rfl)
                                      exact lp_68 ((8 - 0) + 1) 0 (cG 6) (Nat.lt_succ_self _) (Nat.zero_le _) (fun x h => absurd h (Nat.not_lt_zero _)) _ _ ls hP hD hS (lv_sub hl [0, 1, 2, 3] rfl)
                                    · have hlt_92 : j_60 < 8 := lp_lt rfl (rfl : (8 : Int32) = nI 8) (by omega) (by omega) c_65
                                      refine lv_aload_n hx hb (g_43 bX6_overAll rfl) rfl (lv_at hl 3 rfl) ?_
                                      refine lv_iload_n hx hb (g_28 bX6_overAll rfl) rfl (lv_at hl 1 rfl) ?_
                                      refine va_alda hx hb hK hP 9 3 rfl rfl (in_c rfl) (g_50 bX6_overAll rfl) ?_
                                      refine lv_setv (v := .ref (rG 5)) (rfl) ?_
                                      refine lv_iload_n hx hb (g_29 bX6_overAll rfl) rfl (lv_at hl 0 rfl) ?_
                                      refine lv_aload_n hx hb (g_42 bX6_overAll rfl) rfl (lv_at hl 2 rfl) ?_
                                      refine lv_iload_n hx hb (g_28 bX6_overAll rfl) rfl (lv_at hl 1 rfl) ?_
                                      refine va_alda hx hb hK hP 0 3 rfl rfl (in_c rfl) (g_50 bX6_overAll rfl) ?_
                                      refine lv_setv (v := .ref (rF 5)) (rfl) ?_
                                      refine lv_iload_n hx hb (g_29 bX6_overAll rfl) rfl (lv_at hl 0 rfl) ?_
                                      refine va_iald hx hb hK hP 6 0 rfl rfl (in8 (by omega)) (g_46 bX6_overAll rfl) ?_
                                      refine lv_seti (v := (cF 5) j_60) (congrArg (cF 5) (cl8 (by omega))) ?_
                                      refine va_iast hx hb hK hP hD hS 15 0 rfl rfl (in8 (by omega)) (g_79 bX6_overAll rfl) (fun H locs => ?_)
                                      clear hP hD hS
                                      intro hP hD hS
                                      rw [cl8 (k := j_60) (by omega)] at hP hD
                                      have hPD := pd_as [_, _, _, _, _, _, _, _, _, _, _, _, _, _, _, zzI cy (rG 5) 8 (upd fT_61 j_60 ((cF 5) j_60)), _, _] hP hD rfl
                                      clear hP hD
                                      obtain ⟨hP, hD⟩ := hPD
                                      refine lv_iinc (v := nI (j_60 + 1)) (lv' := [(3, .int (nI (j_60 + 1))), (2, .int 5), (0, .ref qF), (1, .ref qG)]) hx hb dX6_overAll_28 hl (k := 0) rfl (nI_1 _) (by decide +kernel) rfl (fun ls => ?_)
                                      clear hl
                                      intro hl
                                      refine lv_goto (tgt := 10) hx hb dX6_overAll_31 (by decide +kernel) ?_
                                      exact ih_59 (j_60 + 1) (upd fT_61 j_60 ((cF 5) j_60)) (by omega) (by omega) (cp_step hc_63) _ _ _ hP hD hS (lv_sub hl [0, 1, 2, 3] rfl)
                                exact lp_57 ((8 - 0) + 1) 0 (cG 5) (Nat.lt_succ_self _) (Nat.zero_le _) (fun x h => absurd h (Nat.not_lt_zero _)) _ _ ls hP hD hS (lv_sub hl [0, 1, 2, 3] rfl)
                              · have hlt_93 : j_49 < 8 := lp_lt rfl (rfl : (8 : Int32) = nI 8) (by omega) (by omega) c_54
                                refine lv_aload_n hx hb (g_43 bX6_overAll rfl) rfl (lv_at hl 3 rfl) ?_
                                refine lv_iload_n hx hb (g_28 bX6_overAll rfl) rfl (lv_at hl 1 rfl) ?_
                                refine va_alda hx hb hK hP 9 3 rfl rfl (in_c rfl) (g_50 bX6_overAll rfl) ?_
                                refine lv_setv (v := .ref (rG 4)) (rfl) ?_
                                refine lv_iload_n hx hb (g_29 bX6_overAll rfl) rfl (lv_at hl 0 rfl) ?_
                                refine lv_aload_n hx hb (g_42 bX6_overAll rfl) rfl (lv_at hl 2 rfl) ?_
                                refine lv_iload_n hx hb (g_28 bX6_overAll rfl) rfl (lv_at hl 1 rfl) ?_
                                refine va_alda hx hb hK hP 0 3 rfl rfl (in_c rfl) (g_50 bX6_overAll rfl) ?_
                                refine lv_setv (v := .ref (rF 4)) (rfl) ?_
                                refine lv_iload_n hx hb (g_29 bX6_overAll rfl) rfl (lv_at hl 0 rfl) ?_
                                refine va_iald hx hb hK hP 5 0 rfl rfl (in8 (by omega)) (g_46 bX6_overAll rfl) ?_
                                refine lv_seti (v := (cF 4) j_49) (congrArg (cF 4) (cl8 (by omega))) ?_
                                refine va_iast hx hb hK hP hD hS 14 0 rfl rfl (in8 (by omega)) (g_79 bX6_overAll rfl) (fun H locs => ?_)
                                clear hP hD hS
                                intro hP hD hS
                                rw [cl8 (k := j_49) (by omega)] at hP hD
                                have hPD := pd_as [_, _, _, _, _, _, _, _, _, _, _, _, _, _, zzI cy (rG 4) 8 (upd fT_50 j_49 ((cF 4) j_49)), _, _, _] hP hD rfl
                                clear hP hD
                                obtain ⟨hP, hD⟩ := hPD
                                refine lv_iinc (v := nI (j_49 + 1)) (lv' := [(3, .int (nI (j_49 + 1))), (2, .int 4), (0, .ref qF), (1, .ref qG)]) hx hb dX6_overAll_28 hl (k := 0) rfl (nI_1 _) (by decide +kernel) rfl (fun ls => ?_)
                                clear hl
                                intro hl
                                refine lv_goto (tgt := 10) hx hb dX6_overAll_31 (by decide +kernel) ?_
                                exact ih_48 (j_49 + 1) (upd fT_50 j_49 ((cF 4) j_49)) (by omega) (by omega) (cp_step hc_52) _ _ _ hP hD hS (lv_sub hl [0, 1, 2, 3] rfl)
                          exact lp_46 ((8 - 0) + 1) 0 (cG 4) (Nat.lt_succ_self _) (Nat.zero_le _) (fun x h => absurd h (Nat.not_lt_zero _)) _ _ ls hP hD hS (lv_sub hl [0, 1, 2, 3] rfl)
                        · have hlt_94 : j_38 < 8 := lp_lt rfl (rfl : (8 : Int32) = nI 8) (by omega) (by omega) c_43
                          refine lv_aload_n hx hb (g_43 bX6_overAll rfl) rfl (lv_at hl 3 rfl) ?_
                          refine lv_iload_n hx hb (g_28 bX6_overAll rfl) rfl (lv_at hl 1 rfl) ?_
                          refine va_alda hx hb hK hP 9 3 rfl rfl (in_c rfl) (g_50 bX6_overAll rfl) ?_
                          refine lv_setv (v := .ref (rG 3)) (rfl) ?_
                          refine lv_iload_n hx hb (g_29 bX6_overAll rfl) rfl (lv_at hl 0 rfl) ?_
                          refine lv_aload_n hx hb (g_42 bX6_overAll rfl) rfl (lv_at hl 2 rfl) ?_
                          refine lv_iload_n hx hb (g_28 bX6_overAll rfl) rfl (lv_at hl 1 rfl) ?_
                          refine va_alda hx hb hK hP 0 3 rfl rfl (in_c rfl) (g_50 bX6_overAll rfl) ?_
                          refine lv_setv (v := .ref (rF 3)) (rfl) ?_
                          refine lv_iload_n hx hb (g_29 bX6_overAll rfl) rfl (lv_at hl 0 rfl) ?_
                          refine va_iald hx hb hK hP 4 0 rfl rfl (in8 (by omega)) (g_46 bX6_overAll rfl) ?_
                          refine lv_seti (v := (cF 3) j_38) (congrArg (cF 3) (cl8 (by omega))) ?_
                          refine va_iast hx hb hK hP hD hS 13 0 rfl rfl (in8 (by omega)) (g_79 bX6_overAll rfl) (fun H locs => ?_)
                          clear hP hD hS
                          intro hP hD hS
                          rw [cl8 (k := j_38) (by omega)] at hP hD
                          have hPD := pd_as [_, _, _, _, _, _, _, _, _, _, _, _, _, zzI cy (rG 3) 8 (upd fT_39 j_38 ((cF 3) j_38)), _, _, _, _] hP hD rfl
                          clear hP hD
                          obtain ⟨hP, hD⟩ := hPD
                          refine lv_iinc (v := nI (j_38 + 1)) (lv' := [(3, .int (nI (j_38 + 1))), (2, .int 3), (0, .ref qF), (1, .ref qG)]) hx hb dX6_overAll_28 hl (k := 0) rfl (nI_1 _) (by decide +kernel) rfl (fun ls => ?_)
                          clear hl
                          intro hl
                          refine lv_goto (tgt := 10) hx hb dX6_overAll_31 (by decide +kernel) ?_
                          exact ih_37 (j_38 + 1) (upd fT_39 j_38 ((cF 3) j_38)) (by omega) (by omega) (cp_step hc_41) _ _ _ hP hD hS (lv_sub hl [0, 1, 2, 3] rfl)
                    exact lp_35 ((8 - 0) + 1) 0 (cG 3) (Nat.lt_succ_self _) (Nat.zero_le _) (fun x h => absurd h (Nat.not_lt_zero _)) _ _ ls hP hD hS (lv_sub hl [0, 1, 2, 3] rfl)
                  · have hlt_95 : j_27 < 8 := lp_lt rfl (rfl : (8 : Int32) = nI 8) (by omega) (by omega) c_32
                    refine lv_aload_n hx hb (g_43 bX6_overAll rfl) rfl (lv_at hl 3 rfl) ?_
                    refine lv_iload_n hx hb (g_28 bX6_overAll rfl) rfl (lv_at hl 1 rfl) ?_
                    refine va_alda hx hb hK hP 9 3 rfl rfl (in_c rfl) (g_50 bX6_overAll rfl) ?_
                    refine lv_setv (v := .ref (rG 2)) (rfl) ?_
                    refine lv_iload_n hx hb (g_29 bX6_overAll rfl) rfl (lv_at hl 0 rfl) ?_
                    refine lv_aload_n hx hb (g_42 bX6_overAll rfl) rfl (lv_at hl 2 rfl) ?_
                    refine lv_iload_n hx hb (g_28 bX6_overAll rfl) rfl (lv_at hl 1 rfl) ?_
                    refine va_alda hx hb hK hP 0 3 rfl rfl (in_c rfl) (g_50 bX6_overAll rfl) ?_
                    refine lv_setv (v := .ref (rF 2)) (rfl) ?_
                    refine lv_iload_n hx hb (g_29 bX6_overAll rfl) rfl (lv_at hl 0 rfl) ?_
                    refine va_iald hx hb hK hP 3 0 rfl rfl (in8 (by omega)) (g_46 bX6_overAll rfl) ?_
                    refine lv_seti (v := (cF 2) j_27) (congrArg (cF 2) (cl8 (by omega))) ?_
                    refine va_iast hx hb hK hP hD hS 12 0 rfl rfl (in8 (by omega)) (g_79 bX6_overAll rfl) (fun H locs => ?_)
                    clear hP hD hS
                    intro hP hD hS
                    rw [cl8 (k := j_27) (by omega)] at hP hD
                    have hPD := pd_as [_, _, _, _, _, _, _, _, _, _, _, _, zzI cy (rG 2) 8 (upd fT_28 j_27 ((cF 2) j_27)), _, _, _, _, _] hP hD rfl
                    clear hP hD
                    obtain ⟨hP, hD⟩ := hPD
                    refine lv_iinc (v := nI (j_27 + 1)) (lv' := [(3, .int (nI (j_27 + 1))), (2, .int 2), (0, .ref qF), (1, .ref qG)]) hx hb dX6_overAll_28 hl (k := 0) rfl (nI_1 _) (by decide +kernel) rfl (fun ls => ?_)
                    clear hl
                    intro hl
                    refine lv_goto (tgt := 10) hx hb dX6_overAll_31 (by decide +kernel) ?_
                    exact ih_26 (j_27 + 1) (upd fT_28 j_27 ((cF 2) j_27)) (by omega) (by omega) (cp_step hc_30) _ _ _ hP hD hS (lv_sub hl [0, 1, 2, 3] rfl)
              exact lp_24 ((8 - 0) + 1) 0 (cG 2) (Nat.lt_succ_self _) (Nat.zero_le _) (fun x h => absurd h (Nat.not_lt_zero _)) _ _ ls hP hD hS (lv_sub hl [0, 1, 2, 3] rfl)
            · have hlt_96 : j_16 < 8 := lp_lt rfl (rfl : (8 : Int32) = nI 8) (by omega) (by omega) c_21
              refine lv_aload_n hx hb (g_43 bX6_overAll rfl) rfl (lv_at hl 3 rfl) ?_
              refine lv_iload_n hx hb (g_28 bX6_overAll rfl) rfl (lv_at hl 1 rfl) ?_
              refine va_alda hx hb hK hP 9 3 rfl rfl (in_c rfl) (g_50 bX6_overAll rfl) ?_
              refine lv_setv (v := .ref (rG 1)) (rfl) ?_
              refine lv_iload_n hx hb (g_29 bX6_overAll rfl) rfl (lv_at hl 0 rfl) ?_
              refine lv_aload_n hx hb (g_42 bX6_overAll rfl) rfl (lv_at hl 2 rfl) ?_
              refine lv_iload_n hx hb (g_28 bX6_overAll rfl) rfl (lv_at hl 1 rfl) ?_
              refine va_alda hx hb hK hP 0 3 rfl rfl (in_c rfl) (g_50 bX6_overAll rfl) ?_
              refine lv_setv (v := .ref (rF 1)) (rfl) ?_
              refine lv_iload_n hx hb (g_29 bX6_overAll rfl) rfl (lv_at hl 0 rfl) ?_
              refine va_iald hx hb hK hP 2 0 rfl rfl (in8 (by omega)) (g_46 bX6_overAll rfl) ?_
              refine lv_seti (v := (cF 1) j_16) (congrArg (cF 1) (cl8 (by omega))) ?_
              refine va_iast hx hb hK hP hD hS 11 0 rfl rfl (in8 (by omega)) (g_79 bX6_overAll rfl) (fun H locs => ?_)
              clear hP hD hS
              intro hP hD hS
              rw [cl8 (k := j_16) (by omega)] at hP hD
              have hPD := pd_as [_, _, _, _, _, _, _, _, _, _, _, zzI cy (rG 1) 8 (upd fT_17 j_16 ((cF 1) j_16)), _, _, _, _, _, _] hP hD rfl
              clear hP hD
              obtain ⟨hP, hD⟩ := hPD
              refine lv_iinc (v := nI (j_16 + 1)) (lv' := [(3, .int (nI (j_16 + 1))), (2, .int 1), (0, .ref qF), (1, .ref qG)]) hx hb dX6_overAll_28 hl (k := 0) rfl (nI_1 _) (by decide +kernel) rfl (fun ls => ?_)
              clear hl
              intro hl
              refine lv_goto (tgt := 10) hx hb dX6_overAll_31 (by decide +kernel) ?_
              exact ih_15 (j_16 + 1) (upd fT_17 j_16 ((cF 1) j_16)) (by omega) (by omega) (cp_step hc_19) _ _ _ hP hD hS (lv_sub hl [0, 1, 2, 3] rfl)
        exact lp_13 ((8 - 0) + 1) 0 (cG 1) (Nat.lt_succ_self _) (Nat.zero_le _) (fun x h => absurd h (Nat.not_lt_zero _)) _ _ ls hP hD hS (lv_sub hl [0, 1, 2, 3] rfl)
      · have hlt_97 : j_5 < 8 := lp_lt rfl (rfl : (8 : Int32) = nI 8) (by omega) (by omega) c_10
        refine lv_aload_n hx hb (g_43 bX6_overAll rfl) rfl (lv_at hl 3 rfl) ?_
        refine lv_iload_n hx hb (g_28 bX6_overAll rfl) rfl (lv_at hl 1 rfl) ?_
        refine va_alda hx hb hK hP 9 3 rfl rfl (in_c rfl) (g_50 bX6_overAll rfl) ?_
        refine lv_setv (v := .ref (rG 0)) (rfl) ?_
        refine lv_iload_n hx hb (g_29 bX6_overAll rfl) rfl (lv_at hl 0 rfl) ?_
        refine lv_aload_n hx hb (g_42 bX6_overAll rfl) rfl (lv_at hl 2 rfl) ?_
        refine lv_iload_n hx hb (g_28 bX6_overAll rfl) rfl (lv_at hl 1 rfl) ?_
        refine va_alda hx hb hK hP 0 3 rfl rfl (in_c rfl) (g_50 bX6_overAll rfl) ?_
        refine lv_setv (v := .ref (rF 0)) (rfl) ?_
        refine lv_iload_n hx hb (g_29 bX6_overAll rfl) rfl (lv_at hl 0 rfl) ?_
        refine va_iald hx hb hK hP 1 0 rfl rfl (in8 (by omega)) (g_46 bX6_overAll rfl) ?_
        refine lv_seti (v := (cF 0) j_5) (congrArg (cF 0) (cl8 (by omega))) ?_
        refine va_iast hx hb hK hP hD hS 10 0 rfl rfl (in8 (by omega)) (g_79 bX6_overAll rfl) (fun H locs => ?_)
        clear hP hD hS
        intro hP hD hS
        rw [cl8 (k := j_5) (by omega)] at hP hD
        have hPD := pd_as [_, _, _, _, _, _, _, _, _, _, zzI cy (rG 0) 8 (upd fT_6 j_5 ((cF 0) j_5)), _, _, _, _, _, _, _] hP hD rfl
        clear hP hD
        obtain ⟨hP, hD⟩ := hPD
        refine lv_iinc (v := nI (j_5 + 1)) (lv' := [(3, .int (nI (j_5 + 1))), (2, .int 0), (0, .ref qF), (1, .ref qG)]) hx hb dX6_overAll_28 hl (k := 0) rfl (nI_1 _) (by decide +kernel) rfl (fun ls => ?_)
        clear hl
        intro hl
        refine lv_goto (tgt := 10) hx hb dX6_overAll_31 (by decide +kernel) ?_
        exact ih_4 (j_5 + 1) (upd fT_6 j_5 ((cF 0) j_5)) (by omega) (by omega) (cp_step hc_8) _ _ _ hP hD hS (lv_sub hl [0, 1, 2, 3] rfl)
  exact lp_2 ((8 - 0) + 1) 0 (cG 0) (Nat.lt_succ_self _) (Nat.zero_le _) (fun x h => absurd h (Nat.not_lt_zero _)) _ _ ls hP hD hS (lv_sub hl [0, 1, 2, 3] rfl)
set_option maxHeartbeats 4000000 in
set_option maxRecDepth 100000 in
theorem c_X6_takeFrom (l : Launch) (G : va_G) (cy : Nat → ClassId) (sz : Nat) (qm : Nat) (v0 : Value) (v1 : Value) (v2 : Value) (v3 : Value) (v4 : Value) (v5 : Value) (v6 : Value) (v7 : Value) (v8 : Value) (v9 : Value) (tA : TA) (qmB : Nat) (qmO : Nat) (qmK : Nat) (iEn : Int32) (iTk : Int32) (v18 : Value) (v19 : Value) (v20 : Value) (v21 : Value) (v22 : Value) (v23 : Value) (v24 : Value) (v25 : Value) (v26 : Value) (iLv : Int32) (iWs : Int32) (v29 : Value) (v30 : Value) (v31 : Value) (v32 : Value) (v33 : Value) (v34 : Value) (rB : Nat → Nat) (rO : Nat → Nat) (rK : Nat → Nat) (qn : Nat) (vN0 : Value) (vN1 : Value) (vN2 : Value) (vN3 : Value) (vN4 : Value) (vN5 : Value) (vN6 : Value) (vN7 : Value) (vN8 : Value) (vN9 : Value) (tB : TA) (qnB : Nat) (qnO : Nat) (qnK : Nat) (iEnVN : Int32) (iTkVN : Int32) (vN18 : Value) (vN19 : Value) (vN20 : Value) (vN21 : Value) (vN22 : Value) (vN23 : Value) (vN24 : Value) (vN25 : Value) (vN26 : Value) (iLvVN : Int32) (iWsVN : Int32) (vN29 : Value) (vN30 : Value) (vN31 : Value) (vN32 : Value) (vN33 : Value) (vN34 : Value) (rNB : Nat → Nat) (rNO : Nat → Nat) (rNK : Nat → Nat)   : MW l yX6_takeFrom cX6_takeFrom 2 none 2 0 0 G cy (zzO qm 5 (v0 :: v1 :: v2 :: v3 :: v4 :: v5 :: v6 :: v7 :: v8 :: v9 :: .int (nI (T_nb tA)) :: .ref qmB :: .int (nI (T_np tA)) :: .ref qmO :: .ref qmK :: .int iEn :: .int iTk :: .int (T_sd tA) :: v18 :: v19 :: v20 :: v21 :: v22 :: v23 :: v24 :: v25 :: v26 :: .int iLv :: .int iWs :: v29 :: v30 :: v31 :: v32 :: v33 :: v34 :: []) :: zzG cy 3 qmB rB :: zzI cy (rB 0) 4 (bkR tA 0) :: zzI cy (rB 1) 4 (bkR tA 1) :: zzI cy (rB 2) 4 (bkR tA 2) :: zzI cy (rB 3) 4 (bkR tA 3) :: zzI cy (rB 4) 4 (bkR tA 4) :: zzI cy (rB 5) 4 (bkR tA 5) :: zzI cy (rB 6) 4 (bkR tA 6) :: zzI cy (rB 7) 4 (bkR tA 7) :: zzG cy 3 qmO rO :: zzI cy (rO 0) 5 (onR tA 0) :: zzI cy (rO 1) 5 (onR tA 1) :: zzI cy (rO 2) 5 (onR tA 2) :: zzI cy (rO 3) 5 (onR tA 3) :: zzI cy (rO 4) 5 (onR tA 4) :: zzI cy (rO 5) 5 (onR tA 5) :: zzI cy (rO 6) 5 (onR tA 6) :: zzI cy (rO 7) 5 (onR tA 7) :: zzG cy 3 qmK rK :: zzI cy (rK 0) 8 (T_kn tA 0) :: zzI cy (rK 1) 8 (T_kn tA 1) :: zzI cy (rK 2) 8 (T_kn tA 2) :: zzI cy (rK 3) 8 (T_kn tA 3) :: zzI cy (rK 4) 8 (T_kn tA 4) :: zzI cy (rK 5) 8 (T_kn tA 5) :: zzI cy (rK 6) 8 (T_kn tA 6) :: zzI cy (rK 7) 8 (T_kn tA 7) :: zzO qn 5 (vN0 :: vN1 :: vN2 :: vN3 :: vN4 :: vN5 :: vN6 :: vN7 :: vN8 :: vN9 :: .int (nI (T_nb tB)) :: .ref qnB :: .int (nI (T_np tB)) :: .ref qnO :: .ref qnK :: .int iEnVN :: .int iTkVN :: .int (T_sd tB) :: vN18 :: vN19 :: vN20 :: vN21 :: vN22 :: vN23 :: vN24 :: vN25 :: vN26 :: .int iLvVN :: .int iWsVN :: vN29 :: vN30 :: vN31 :: vN32 :: vN33 :: vN34 :: []) :: zzG cy 3 qnB rNB :: zzI cy (rNB 0) 4 (bkR tB 0) :: zzI cy (rNB 1) 4 (bkR tB 1) :: zzI cy (rNB 2) 4 (bkR tB 2) :: zzI cy (rNB 3) 4 (bkR tB 3) :: zzI cy (rNB 4) 4 (bkR tB 4) :: zzI cy (rNB 5) 4 (bkR tB 5) :: zzI cy (rNB 6) 4 (bkR tB 6) :: zzI cy (rNB 7) 4 (bkR tB 7) :: zzG cy 3 qnO rNO :: zzI cy (rNO 0) 5 (onR tB 0) :: zzI cy (rNO 1) 5 (onR tB 1) :: zzI cy (rNO 2) 5 (onR tB 2) :: zzI cy (rNO 3) 5 (onR tB 3) :: zzI cy (rNO 4) 5 (onR tB 4) :: zzI cy (rNO 5) 5 (onR tB 5) :: zzI cy (rNO 6) 5 (onR tB 6) :: zzI cy (rNO 7) 5 (onR tB 7) :: zzG cy 3 qnK rNK :: zzI cy (rNK 0) 8 (T_kn tB 0) :: zzI cy (rNK 1) 8 (T_kn tB 1) :: zzI cy (rNK 2) 8 (T_kn tB 2) :: zzI cy (rNK 3) 8 (T_kn tB 3) :: zzI cy (rNK 4) 8 (T_kn tB 4) :: zzI cy (rNK 5) 8 (T_kn tB 5) :: zzI cy (rNK 6) 8 (T_kn tB 6) :: zzI cy (rNK 7) 8 (T_kn tB 7) :: []) sz [.ref qm, .ref qn] (Wv G (fun u => u = (zzO qm 5 (v0 :: v1 :: v2 :: v3 :: v4 :: v5 :: v6 :: v7 :: v8 :: v9 :: .int (nI (T_nb tB)) :: .ref qmB :: .int (nI (T_np tB)) :: .ref qmO :: .ref qmK :: .int iEnVN :: .int iTkVN :: .int (T_sd tB) :: v18 :: v19 :: v20 :: v21 :: v22 :: v23 :: v24 :: v25 :: v26 :: .int iLv :: .int iWs :: v29 :: v30 :: v31 :: v32 :: v33 :: v34 :: []) :: zzG cy 3 qmB rB :: zzI cy (rB 0) 4 (bkR tB 0) :: zzI cy (rB 1) 4 (bkR tB 1) :: zzI cy (rB 2) 4 (bkR tB 2) :: zzI cy (rB 3) 4 (bkR tB 3) :: zzI cy (rB 4) 4 (bkR tB 4) :: zzI cy (rB 5) 4 (bkR tB 5) :: zzI cy (rB 6) 4 (bkR tB 6) :: zzI cy (rB 7) 4 (bkR tB 7) :: zzG cy 3 qmO rO :: zzI cy (rO 0) 5 (onR tB 0) :: zzI cy (rO 1) 5 (onR tB 1) :: zzI cy (rO 2) 5 (onR tB 2) :: zzI cy (rO 3) 5 (onR tB 3) :: zzI cy (rO 4) 5 (onR tB 4) :: zzI cy (rO 5) 5 (onR tB 5) :: zzI cy (rO 6) 5 (onR tB 6) :: zzI cy (rO 7) 5 (onR tB 7) :: zzG cy 3 qmK rK :: zzI cy (rK 0) 8 (T_kn tB 0) :: zzI cy (rK 1) 8 (T_kn tB 1) :: zzI cy (rK 2) 8 (T_kn tB 2) :: zzI cy (rK 3) 8 (T_kn tB 3) :: zzI cy (rK 4) 8 (T_kn tB 4) :: zzI cy (rK 5) 8 (T_kn tB 5) :: zzI cy (rK 6) 8 (T_kn tB 6) :: zzI cy (rK 7) 8 (T_kn tB 7) :: zzO qn 5 (vN0 :: vN1 :: vN2 :: vN3 :: vN4 :: vN5 :: vN6 :: vN7 :: vN8 :: vN9 :: .int (nI (T_nb tB)) :: .ref qnB :: .int (nI (T_np tB)) :: .ref qnO :: .ref qnK :: .int iEnVN :: .int iTkVN :: .int (T_sd tB) :: vN18 :: vN19 :: vN20 :: vN21 :: vN22 :: vN23 :: vN24 :: vN25 :: vN26 :: .int iLvVN :: .int iWsVN :: vN29 :: vN30 :: vN31 :: vN32 :: vN33 :: vN34 :: []) :: zzG cy 3 qnB rNB :: zzI cy (rNB 0) 4 (bkR tB 0) :: zzI cy (rNB 1) 4 (bkR tB 1) :: zzI cy (rNB 2) 4 (bkR tB 2) :: zzI cy (rNB 3) 4 (bkR tB 3) :: zzI cy (rNB 4) 4 (bkR tB 4) :: zzI cy (rNB 5) 4 (bkR tB 5) :: zzI cy (rNB 6) 4 (bkR tB 6) :: zzI cy (rNB 7) 4 (bkR tB 7) :: zzG cy 3 qnO rNO :: zzI cy (rNO 0) 5 (onR tB 0) :: zzI cy (rNO 1) 5 (onR tB 1) :: zzI cy (rNO 2) 5 (onR tB 2) :: zzI cy (rNO 3) 5 (onR tB 3) :: zzI cy (rNO 4) 5 (onR tB 4) :: zzI cy (rNO 5) 5 (onR tB 5) :: zzI cy (rNO 6) 5 (onR tB 6) :: zzI cy (rNO 7) 5 (onR tB 7) :: zzG cy 3 qnK rNK :: zzI cy (rNK 0) 8 (T_kn tB 0) :: zzI cy (rNK 1) 8 (T_kn tB 1) :: zzI cy (rNK 2) 8 (T_kn tB 2) :: zzI cy (rNK 3) 8 (T_kn tB 3) :: zzI cy (rNK 4) 8 (T_kn tB 4) :: zzI cy (rNK 5) 8 (T_kn tB 5) :: zzI cy (rNK 6) 8 (T_kn tB 6) :: zzI cy (rNK 7) 8 (T_kn tB 7) :: []))) := by
  refine enW RX6 (by decide +kernel) rfl (Nat.le_of_ble_eq_true rfl) (fun p e s m below meth c ls A hx hb hml hown hts hr hlocks hP hN hl hin hD hA hS => ?_)
  have hin : meth.name = _ := hin
  have hK := hN.1
  replace hl : lv_has ls 2 [(0, .ref qm), (1, .ref qn)] := hl
  refine lv_aload_n hx hb (g_42 bX6_takeFrom rfl) rfl (lv_at hl 0 rfl) ?_
  refine lv_aload_n hx hb (g_43 bX6_takeFrom rfl) rfl (lv_at hl 1 rfl) ?_
  refine va_get (D := G) (ci := 5) (v := .int (nI (T_nb tB))) (C := RX6) (T := TX6) (N := 35) hx hb hts iX_X6 hown hK hP 28 rfl rfl 10 (by decide +kernel) (hts _ m_t860) (fun _ h9 => h9) rfl (g_180 (v := 71) bX6_takeFrom rfl) ?_
  refine va_put (D := G) (ci := 5) (v := .int (nI (T_nb tB))) (ty := .int) (C := RX6) (T := TX6) (N := 35) hx hb hts iX_X6 tyX6 tyX6_ok nmX6 hown hK hP hD hS 0 rfl rfl 10 (by decide +kernel) (hts _ m_t860) (fun _ h9 => h9) rfl (by decide +kernel) rfl rfl (Nat.le_of_ble_eq_true rfl) (g_181 (v := 71) bX6_takeFrom rfl) (fun H locs => ?_)
  clear hP hD hS
  intro hP hD hS
  have hPD := pd_as (zzO qm 5 (v0 :: v1 :: v2 :: v3 :: v4 :: v5 :: v6 :: v7 :: v8 :: v9 :: .int (nI (T_nb tB)) :: .ref qmB :: .int (nI (T_np tA)) :: .ref qmO :: .ref qmK :: .int iEn :: .int iTk :: .int (T_sd tA) :: v18 :: v19 :: v20 :: v21 :: v22 :: v23 :: v24 :: v25 :: v26 :: .int iLv :: .int iWs :: v29 :: v30 :: v31 :: v32 :: v33 :: v34 :: []) :: _ :: _ :: _ :: _ :: _ :: _ :: _ :: _ :: _ :: _ :: _ :: _ :: _ :: _ :: _ :: _ :: _ :: _ :: _ :: _ :: _ :: _ :: _ :: _ :: _ :: _ :: _ :: _ :: _ :: _ :: _ :: _ :: _ :: _ :: _ :: _ :: _ :: _ :: _ :: _ :: _ :: _ :: _ :: _ :: _ :: _ :: _ :: _ :: _ :: _ :: _ :: _ :: _ :: _ :: _ :: []) hP hD rfl
  clear hP hD
  obtain ⟨hP, hD⟩ := hPD
  refine lv_aload_n hx hb (g_43 bX6_takeFrom rfl) rfl (lv_at hl 1 rfl) ?_
  refine va_get (D := G) (ci := 5) (v := .ref qnB) (C := RX6) (T := TX6) (N := 35) hx hb hts iX_X6 hown hK hP 28 rfl rfl 11 (by decide +kernel) (hts _ m_t861) (fun _ h9 => h9) rfl (g_180 (v := 42) bX6_takeFrom rfl) ?_
  refine lv_aload_n hx hb (g_42 bX6_takeFrom rfl) rfl (lv_at hl 0 rfl) ?_
  refine va_get (D := G) (ci := 5) (v := .ref qmB) (C := RX6) (T := TX6) (N := 35) hx hb hts iX_X6 hown hK hP 0 rfl rfl 11 (by decide +kernel) (hts _ m_t861) (fun _ h9 => h9) rfl (g_180 (v := 42) bX6_takeFrom rfl) ?_
  refine cSv (As := [.ref qnB, .ref qmB]) (rest := []) ⟨hx, hb, hml, hown, hts⟩ (c_X6_overAll4 l G cy (H).size qnB rNB (bkR tB) qmB rB (bkR tA)) L_X6_358 hN hP hD hS hA (trueIxs [(false :: false :: false :: false :: false :: false :: false :: false :: false :: false :: false :: false :: false :: false :: false :: false :: false :: false :: false :: false :: false :: false :: false :: false :: false :: false :: false :: false :: false :: true :: true :: true :: true :: true :: true :: true :: true :: true :: []), [false, true, true, true, true, true, true, true, true, true]]) (true :: false :: false :: false :: false :: false :: false :: false :: false :: false :: true :: true :: true :: true :: true :: true :: true :: true :: true :: true :: true :: true :: true :: true :: true :: true :: true :: true :: true :: false :: false :: false :: false :: false :: false :: false :: false :: false :: true :: true :: true :: true :: true :: true :: true :: true :: true :: true :: true :: true :: true :: true :: true :: true :: true :: true :: []) (sels_eq rfl rfl) (by decide +kernel) rfl rfl ⟨Nat.le_of_ble_eq_true rfl, Nat.le_of_ble_eq_true rfl⟩ hl.1 (Nat.le_of_ble_eq_true rfl) (g_184 (v := 358) bX6_takeFrom rfl) ⟨Nat.le_of_ble_eq_true rfl, Nat.le_of_ble_eq_true rfl⟩ (fun u_3 H locs h_2 => ?_)
  clear hP hD hS
  intro hP hD hS
  have hPD := pd_eq (_ :: _ :: _ :: _ :: _ :: _ :: _ :: _ :: _ :: _ :: _ :: _ :: _ :: _ :: _ :: _ :: _ :: _ :: _ :: _ :: _ :: _ :: _ :: _ :: _ :: _ :: _ :: _ :: _ :: _ :: _ :: _ :: _ :: _ :: _ :: _ :: _ :: _ :: _ :: _ :: _ :: _ :: _ :: _ :: _ :: _ :: _ :: _ :: _ :: _ :: _ :: _ :: _ :: _ :: _ :: _ :: []) hP hD h_2 rfl
  clear hP hD h_2
  obtain ⟨hP, hD⟩ := hPD
  refine lv_aload_n hx hb (g_42 bX6_takeFrom rfl) rfl (lv_at hl 0 rfl) ?_
  refine lv_aload_n hx hb (g_43 bX6_takeFrom rfl) rfl (lv_at hl 1 rfl) ?_
  refine va_get (D := G) (ci := 5) (v := .int (nI (T_np tB))) (C := RX6) (T := TX6) (N := 35) hx hb hts iX_X6 hown hK hP 19 rfl rfl 12 (by decide +kernel) (hts _ m_t862) (fun _ h9 => h9) rfl (g_180 (v := 78) bX6_takeFrom rfl) ?_
  refine va_put (D := G) (ci := 5) (v := .int (nI (T_np tB))) (ty := .int) (C := RX6) (T := TX6) (N := 35) hx hb hts iX_X6 tyX6 tyX6_ok nmX6 hown hK hP hD hS 0 rfl rfl 12 (by decide +kernel) (hts _ m_t862) (fun _ h9 => h9) rfl (by decide +kernel) rfl rfl (Nat.le_of_ble_eq_true rfl) (g_181 (v := 78) bX6_takeFrom rfl) (fun H locs => ?_)
  clear hP hD hS
  intro hP hD hS
  have hPD := pd_as (zzO qm 5 (v0 :: v1 :: v2 :: v3 :: v4 :: v5 :: v6 :: v7 :: v8 :: v9 :: .int (nI (T_nb tB)) :: .ref qmB :: .int (nI (T_np tB)) :: .ref qmO :: .ref qmK :: .int iEn :: .int iTk :: .int (T_sd tA) :: v18 :: v19 :: v20 :: v21 :: v22 :: v23 :: v24 :: v25 :: v26 :: .int iLv :: .int iWs :: v29 :: v30 :: v31 :: v32 :: v33 :: v34 :: []) :: _ :: _ :: _ :: _ :: _ :: _ :: _ :: _ :: _ :: _ :: _ :: _ :: _ :: _ :: _ :: _ :: _ :: _ :: _ :: _ :: _ :: _ :: _ :: _ :: _ :: _ :: _ :: _ :: _ :: _ :: _ :: _ :: _ :: _ :: _ :: _ :: _ :: _ :: _ :: _ :: _ :: _ :: _ :: _ :: _ :: _ :: _ :: _ :: _ :: _ :: _ :: _ :: _ :: _ :: _ :: []) hP hD rfl
  clear hP hD
  obtain ⟨hP, hD⟩ := hPD
  refine lv_aload_n hx hb (g_43 bX6_takeFrom rfl) rfl (lv_at hl 1 rfl) ?_
  refine va_get (D := G) (ci := 5) (v := .ref qnO) (C := RX6) (T := TX6) (N := 35) hx hb hts iX_X6 hown hK hP 19 rfl rfl 13 (by decide +kernel) (hts _ m_t863) (fun _ h9 => h9) rfl (g_180 (v := 45) bX6_takeFrom rfl) ?_
  refine lv_aload_n hx hb (g_42 bX6_takeFrom rfl) rfl (lv_at hl 0 rfl) ?_
  refine va_get (D := G) (ci := 5) (v := .ref qmO) (C := RX6) (T := TX6) (N := 35) hx hb hts iX_X6 hown hK hP 0 rfl rfl 13 (by decide +kernel) (hts _ m_t863) (fun _ h9 => h9) rfl (g_180 (v := 45) bX6_takeFrom rfl) ?_
  refine cSv (As := [.ref qnO, .ref qmO]) (rest := []) ⟨hx, hb, hml, hown, hts⟩ (c_X6_overAll5 l G cy (H).size qnO rNO (onR tB) qmO rO (onR tA)) L_X6_358 hN hP hD hS hA (trueIxs [[false, false, false, false, false, false, false, false, false, false, false, false, false, false, false, false, false, false, false, false, true, true, true, true, true, true, true, true, true], [false, true, true, true, true, true, true, true, true, true]]) (true :: false :: false :: false :: false :: false :: false :: false :: false :: false :: true :: true :: true :: true :: true :: true :: true :: true :: true :: true :: false :: false :: false :: false :: false :: false :: false :: false :: false :: true :: true :: true :: true :: true :: true :: true :: true :: true :: true :: true :: true :: true :: true :: true :: true :: true :: true :: true :: true :: true :: true :: true :: true :: true :: true :: true :: []) (sels_eq rfl rfl) (by decide +kernel) rfl rfl ⟨Nat.le_of_ble_eq_true rfl, Nat.le_of_ble_eq_true rfl⟩ hl.1 (Nat.le_of_ble_eq_true rfl) (g_184 (v := 358) bX6_takeFrom rfl) ⟨Nat.le_of_ble_eq_true rfl, Nat.le_of_ble_eq_true rfl⟩ (fun u_6 H locs h_5 => ?_)
  clear hP hD hS
  intro hP hD hS
  have hPD := pd_eq (_ :: _ :: _ :: _ :: _ :: _ :: _ :: _ :: _ :: _ :: _ :: _ :: _ :: _ :: _ :: _ :: _ :: _ :: _ :: _ :: _ :: _ :: _ :: _ :: _ :: _ :: _ :: _ :: _ :: _ :: _ :: _ :: _ :: _ :: _ :: _ :: _ :: _ :: _ :: _ :: _ :: _ :: _ :: _ :: _ :: _ :: _ :: _ :: _ :: _ :: _ :: _ :: _ :: _ :: _ :: _ :: []) hP hD h_5 rfl
  clear hP hD h_5
  obtain ⟨hP, hD⟩ := hPD
  refine lv_aload_n hx hb (g_43 bX6_takeFrom rfl) rfl (lv_at hl 1 rfl) ?_
  refine va_get (D := G) (ci := 5) (v := .ref qnK) (C := RX6) (T := TX6) (N := 35) hx hb hts iX_X6 hown hK hP 10 rfl rfl 14 (by decide +kernel) (hts _ m_t864) (fun _ h9 => h9) rfl (g_180 (v := 48) bX6_takeFrom rfl) ?_
  refine lv_aload_n hx hb (g_42 bX6_takeFrom rfl) rfl (lv_at hl 0 rfl) ?_
  refine va_get (D := G) (ci := 5) (v := .ref qmK) (C := RX6) (T := TX6) (N := 35) hx hb hts iX_X6 hown hK hP 0 rfl rfl 14 (by decide +kernel) (hts _ m_t864) (fun _ h9 => h9) rfl (g_180 (v := 48) bX6_takeFrom rfl) ?_
  refine cSv (As := [.ref qnK, .ref qmK]) (rest := []) ⟨hx, hb, hml, hown, hts⟩ (c_X6_overAll8 l G cy (H).size qnK rNK (T_kn tB) qmK rK (T_kn tA)) L_X6_358 hN hP hD hS hA (trueIxs [[false, false, false, false, false, false, false, false, false, false, false, true, true, true, true, true, true, true, true, true], [false, true, true, true, true, true, true, true, true, true]]) (true :: false :: false :: false :: false :: false :: false :: false :: false :: false :: true :: false :: false :: false :: false :: false :: false :: false :: false :: false :: true :: true :: true :: true :: true :: true :: true :: true :: true :: true :: true :: true :: true :: true :: true :: true :: true :: true :: true :: true :: true :: true :: true :: true :: true :: true :: true :: true :: true :: true :: true :: true :: true :: true :: true :: true :: []) (sels_eq rfl rfl) (by decide +kernel) rfl rfl ⟨Nat.le_of_ble_eq_true rfl, Nat.le_of_ble_eq_true rfl⟩ hl.1 (Nat.le_of_ble_eq_true rfl) (g_184 (v := 358) bX6_takeFrom rfl) ⟨Nat.le_of_ble_eq_true rfl, Nat.le_of_ble_eq_true rfl⟩ (fun u_9 H locs h_8 => ?_)
  clear hP hD hS
  intro hP hD hS
  have hPD := pd_eq (_ :: _ :: _ :: _ :: _ :: _ :: _ :: _ :: _ :: _ :: _ :: _ :: _ :: _ :: _ :: _ :: _ :: _ :: _ :: _ :: _ :: _ :: _ :: _ :: _ :: _ :: _ :: _ :: _ :: _ :: _ :: _ :: _ :: _ :: _ :: _ :: _ :: _ :: _ :: _ :: _ :: _ :: _ :: _ :: _ :: _ :: _ :: _ :: _ :: _ :: _ :: _ :: _ :: _ :: _ :: _ :: []) hP hD h_8 rfl
  clear hP hD h_8
  obtain ⟨hP, hD⟩ := hPD
  refine lv_aload_n hx hb (g_42 bX6_takeFrom rfl) rfl (lv_at hl 0 rfl) ?_
  refine lv_aload_n hx hb (g_43 bX6_takeFrom rfl) rfl (lv_at hl 1 rfl) ?_
  refine va_get (D := G) (ci := 5) (v := .int iEnVN) (C := RX6) (T := TX6) (N := 35) hx hb hts iX_X6 hown hK hP 1 rfl rfl 15 (by decide +kernel) (hts _ m_t865) (fun _ h9 => h9) rfl (g_180 (v := 285) bX6_takeFrom rfl) ?_
  refine va_put (D := G) (ci := 5) (v := .int iEnVN) (ty := .int) (C := RX6) (T := TX6) (N := 35) hx hb hts iX_X6 tyX6 tyX6_ok nmX6 hown hK hP hD hS 0 rfl rfl 15 (by decide +kernel) (hts _ m_t865) (fun _ h9 => h9) rfl (by decide +kernel) rfl rfl (Nat.le_of_ble_eq_true rfl) (g_181 (v := 285) bX6_takeFrom rfl) (fun H locs => ?_)
  clear hP hD hS
  intro hP hD hS
  have hPD := pd_as (zzO qm 5 (v0 :: v1 :: v2 :: v3 :: v4 :: v5 :: v6 :: v7 :: v8 :: v9 :: .int (nI (T_nb tB)) :: .ref qmB :: .int (nI (T_np tB)) :: .ref qmO :: .ref qmK :: .int iEnVN :: .int iTk :: .int (T_sd tA) :: v18 :: v19 :: v20 :: v21 :: v22 :: v23 :: v24 :: v25 :: v26 :: .int iLv :: .int iWs :: v29 :: v30 :: v31 :: v32 :: v33 :: v34 :: []) :: _ :: _ :: _ :: _ :: _ :: _ :: _ :: _ :: _ :: _ :: _ :: _ :: _ :: _ :: _ :: _ :: _ :: _ :: _ :: _ :: _ :: _ :: _ :: _ :: _ :: _ :: _ :: _ :: _ :: _ :: _ :: _ :: _ :: _ :: _ :: _ :: _ :: _ :: _ :: _ :: _ :: _ :: _ :: _ :: _ :: _ :: _ :: _ :: _ :: _ :: _ :: _ :: _ :: _ :: _ :: []) hP hD rfl
  clear hP hD
  obtain ⟨hP, hD⟩ := hPD
  refine lv_aload_n hx hb (g_42 bX6_takeFrom rfl) rfl (lv_at hl 0 rfl) ?_
  refine lv_aload_n hx hb (g_43 bX6_takeFrom rfl) rfl (lv_at hl 1 rfl) ?_
  refine va_get (D := G) (ci := 5) (v := .int iTkVN) (C := RX6) (T := TX6) (N := 35) hx hb hts iX_X6 hown hK hP 1 rfl rfl 16 (by decide +kernel) (hts _ m_t866) (fun _ h9 => h9) rfl (g_180 (v := 355) bX6_takeFrom rfl) ?_
  refine va_put (D := G) (ci := 5) (v := .int iTkVN) (ty := .int) (C := RX6) (T := TX6) (N := 35) hx hb hts iX_X6 tyX6 tyX6_ok nmX6 hown hK hP hD hS 0 rfl rfl 16 (by decide +kernel) (hts _ m_t866) (fun _ h9 => h9) rfl (by decide +kernel) rfl rfl (Nat.le_of_ble_eq_true rfl) (g_181 (v := 355) bX6_takeFrom rfl) (fun H locs => ?_)
  clear hP hD hS
  intro hP hD hS
  have hPD := pd_as (zzO qm 5 (v0 :: v1 :: v2 :: v3 :: v4 :: v5 :: v6 :: v7 :: v8 :: v9 :: .int (nI (T_nb tB)) :: .ref qmB :: .int (nI (T_np tB)) :: .ref qmO :: .ref qmK :: .int iEnVN :: .int iTkVN :: .int (T_sd tA) :: v18 :: v19 :: v20 :: v21 :: v22 :: v23 :: v24 :: v25 :: v26 :: .int iLv :: .int iWs :: v29 :: v30 :: v31 :: v32 :: v33 :: v34 :: []) :: _ :: _ :: _ :: _ :: _ :: _ :: _ :: _ :: _ :: _ :: _ :: _ :: _ :: _ :: _ :: _ :: _ :: _ :: _ :: _ :: _ :: _ :: _ :: _ :: _ :: _ :: _ :: _ :: _ :: _ :: _ :: _ :: _ :: _ :: _ :: _ :: _ :: _ :: _ :: _ :: _ :: _ :: _ :: _ :: _ :: _ :: _ :: _ :: _ :: _ :: _ :: _ :: _ :: _ :: _ :: []) hP hD rfl
  clear hP hD
  obtain ⟨hP, hD⟩ := hPD
  refine lv_aload_n hx hb (g_42 bX6_takeFrom rfl) rfl (lv_at hl 0 rfl) ?_
  refine lv_aload_n hx hb (g_43 bX6_takeFrom rfl) rfl (lv_at hl 1 rfl) ?_
  refine va_get (D := G) (ci := 5) (v := .int (T_sd tB)) (C := RX6) (T := TX6) (N := 35) hx hb hts iX_X6 hown hK hP 1 rfl rfl 17 (by decide +kernel) (hts _ m_t867) (fun _ h9 => h9) rfl (g_180 (v := 51) bX6_takeFrom rfl) ?_
  refine va_put (D := G) (ci := 5) (v := .int (T_sd tB)) (ty := .int) (C := RX6) (T := TX6) (N := 35) hx hb hts iX_X6 tyX6 tyX6_ok nmX6 hown hK hP hD hS 0 rfl rfl 17 (by decide +kernel) (hts _ m_t867) (fun _ h9 => h9) rfl (by decide +kernel) rfl rfl (Nat.le_of_ble_eq_true rfl) (g_181 (v := 51) bX6_takeFrom rfl) (fun H locs => ?_)
  clear hP hD hS
  intro hP hD hS
  have hPD := pd_as (_ :: _ :: _ :: _ :: _ :: _ :: _ :: _ :: _ :: _ :: _ :: _ :: _ :: _ :: _ :: _ :: _ :: _ :: _ :: _ :: _ :: _ :: _ :: _ :: _ :: _ :: _ :: _ :: _ :: _ :: _ :: _ :: _ :: _ :: _ :: _ :: _ :: _ :: _ :: _ :: _ :: _ :: _ :: _ :: _ :: _ :: _ :: _ :: _ :: _ :: _ :: _ :: _ :: _ :: _ :: _ :: []) hP hD rfl
  clear hP hD
  obtain ⟨hP, hD⟩ := hPD
  exact endVs [(true :: false :: false :: false :: false :: false :: false :: false :: false :: false :: false :: true :: true :: true :: true :: true :: true :: true :: true :: true :: false :: false :: false :: false :: false :: false :: false :: false :: false :: true :: true :: true :: true :: true :: true :: true :: true :: true :: false :: false :: false :: false :: false :: false :: false :: false :: false :: true :: true :: true :: true :: true :: true :: true :: true :: true :: []), (false :: true :: true :: true :: true :: true :: true :: true :: true :: true :: true :: false :: false :: false :: false :: false :: false :: false :: false :: false :: true :: true :: true :: true :: true :: true :: true :: true :: true :: false :: false :: false :: false :: false :: false :: false :: false :: false :: true :: true :: true :: true :: true :: true :: true :: true :: true :: [])] hx hb hr hlocks hP hD rfl (by decide +kernel) hS rfl (g_177 bX6_takeFrom rfl)
set_option maxHeartbeats 4000000 in
set_option maxRecDepth 100000 in
theorem c_X6_fresh (l : Launch) (G : va_G) (cy : Nat → ClassId) (sz : Nat) (qm : Nat) (v0 : Value) (v1 : Value) (v2 : Value) (v3 : Value) (v4 : Value) (v5 : Value) (v6 : Value) (v7 : Value) (v8 : Value) (v9 : Value) (tA : TA) (qmB : Nat) (qmO : Nat) (qmK : Nat) (iEn : Int32) (iTk : Int32) (v18 : Value) (uU : UM) (v20 : Value) (v21 : Value) (v22 : Value) (v23 : Value) (v24 : Value) (v25 : Value) (v26 : Value) (iLv : Int32) (iWs : Int32) (v29 : Value) (v30 : Value) (v31 : Value) (v32 : Value) (v33 : Value) (v34 : Value) (rB : Nat → Nat) (rO : Nat → Nat) (rK : Nat → Nat)   : MW l yX6_fresh cX6_fresh 1 (some (.object "EachBookOnceModel")) 4 50 888 G cy ([zzO qm 5 (v0 :: v1 :: v2 :: v3 :: v4 :: v5 :: v6 :: v7 :: v8 :: v9 :: .int (nI (T_nb tA)) :: .ref qmB :: .int (nI (T_np tA)) :: .ref qmO :: .ref qmK :: .int iEn :: .int iTk :: .int (T_sd tA) :: v18 :: ov uU :: v20 :: v21 :: v22 :: v23 :: v24 :: v25 :: v26 :: .int iLv :: .int iWs :: v29 :: v30 :: v31 :: v32 :: v33 :: v34 :: []), zzG cy 3 qmB rB, zzI cy (rB 0) 4 (bkR tA 0), zzI cy (rB 1) 4 (bkR tA 1), zzI cy (rB 2) 4 (bkR tA 2), zzI cy (rB 3) 4 (bkR tA 3), zzI cy (rB 4) 4 (bkR tA 4), zzI cy (rB 5) 4 (bkR tA 5), zzI cy (rB 6) 4 (bkR tA 6), zzI cy (rB 7) 4 (bkR tA 7), zzG cy 3 qmO rO, zzI cy (rO 0) 5 (onR tA 0), zzI cy (rO 1) 5 (onR tA 1), zzI cy (rO 2) 5 (onR tA 2), zzI cy (rO 3) 5 (onR tA 3), zzI cy (rO 4) 5 (onR tA 4), zzI cy (rO 5) 5 (onR tA 5), zzI cy (rO 6) 5 (onR tA 6), zzI cy (rO 7) 5 (onR tA 7), zzG cy 3 qmK rK, zzI cy (rK 0) 8 (T_kn tA 0), zzI cy (rK 1) 8 (T_kn tA 1), zzI cy (rK 2) 8 (T_kn tA 2), zzI cy (rK 3) 8 (T_kn tA 3), zzI cy (rK 4) 8 (T_kn tA 4), zzI cy (rK 5) 8 (T_kn tA 5), zzI cy (rK 6) 8 (T_kn tA 6), zzI cy (rK 7) 8 (T_kn tA 7)] ++ oM cy uU) sz [.ref qm] (Wq G (fun r u => ∃ (qU : Nat) (qUB : Nat) (qUO : Nat) (qUK : Nat) (rUB : Nat → Nat) (rUO : Nat → Nat) (rUK : Nat → Nat) (xU : Nat → Value) (iLvU : Int32) (iWsU : Int32), u = (zzO qm 5 (v0 :: v1 :: v2 :: v3 :: v4 :: v5 :: v6 :: v7 :: v8 :: v9 :: .int (nI (T_nb tA)) :: .ref qmB :: .int (nI (T_np tA)) :: .ref qmO :: .ref qmK :: .int iEn :: .int iTk :: .int (T_sd tA) :: v18 :: .ref qU :: v20 :: v21 :: v22 :: v23 :: v24 :: v25 :: v26 :: .int iLv :: .int iWs :: v29 :: v30 :: v31 :: v32 :: v33 :: v34 :: []) :: zzG cy 3 qmB rB :: zzI cy (rB 0) 4 (bkR tA 0) :: zzI cy (rB 1) 4 (bkR tA 1) :: zzI cy (rB 2) 4 (bkR tA 2) :: zzI cy (rB 3) 4 (bkR tA 3) :: zzI cy (rB 4) 4 (bkR tA 4) :: zzI cy (rB 5) 4 (bkR tA 5) :: zzI cy (rB 6) 4 (bkR tA 6) :: zzI cy (rB 7) 4 (bkR tA 7) :: zzG cy 3 qmO rO :: zzI cy (rO 0) 5 (onR tA 0) :: zzI cy (rO 1) 5 (onR tA 1) :: zzI cy (rO 2) 5 (onR tA 2) :: zzI cy (rO 3) 5 (onR tA 3) :: zzI cy (rO 4) 5 (onR tA 4) :: zzI cy (rO 5) 5 (onR tA 5) :: zzI cy (rO 6) 5 (onR tA 6) :: zzI cy (rO 7) 5 (onR tA 7) :: zzG cy 3 qmK rK :: zzI cy (rK 0) 8 (T_kn tA 0) :: zzI cy (rK 1) 8 (T_kn tA 1) :: zzI cy (rK 2) 8 (T_kn tA 2) :: zzI cy (rK 3) 8 (T_kn tA 3) :: zzI cy (rK 4) 8 (T_kn tA 4) :: zzI cy (rK 5) 8 (T_kn tA 5) :: zzI cy (rK 6) 8 (T_kn tA 6) :: zzI cy (rK 7) 8 (T_kn tA 7) :: zzO qU 5 (xU 0 :: xU 1 :: xU 2 :: xU 3 :: xU 4 :: xU 5 :: xU 6 :: xU 7 :: xU 8 :: xU 9 :: .int (nI (T_nb tA)) :: .ref qUB :: .int (nI (T_np tA)) :: .ref qUO :: .ref qUK :: .int iEn :: .int iTk :: .int (T_sd tA) :: xU 18 :: xU 19 :: xU 20 :: xU 21 :: xU 22 :: xU 23 :: xU 24 :: xU 25 :: xU 26 :: .int iLvU :: .int iWsU :: xU 29 :: xU 30 :: xU 31 :: xU 32 :: xU 33 :: xU 34 :: []) :: zzG cy 3 qUB rUB :: zzI cy (rUB 0) 4 (bkR tA 0) :: zzI cy (rUB 1) 4 (bkR tA 1) :: zzI cy (rUB 2) 4 (bkR tA 2) :: zzI cy (rUB 3) 4 (bkR tA 3) :: zzI cy (rUB 4) 4 (bkR tA 4) :: zzI cy (rUB 5) 4 (bkR tA 5) :: zzI cy (rUB 6) 4 (bkR tA 6) :: zzI cy (rUB 7) 4 (bkR tA 7) :: zzG cy 3 qUO rUO :: zzI cy (rUO 0) 5 (onR tA 0) :: zzI cy (rUO 1) 5 (onR tA 1) :: zzI cy (rUO 2) 5 (onR tA 2) :: zzI cy (rUO 3) 5 (onR tA 3) :: zzI cy (rUO 4) 5 (onR tA 4) :: zzI cy (rUO 5) 5 (onR tA 5) :: zzI cy (rUO 6) 5 (onR tA 6) :: zzI cy (rUO 7) 5 (onR tA 7) :: zzG cy 3 qUK rUK :: zzI cy (rUK 0) 8 (T_kn tA 0) :: zzI cy (rUK 1) 8 (T_kn tA 1) :: zzI cy (rUK 2) 8 (T_kn tA 2) :: zzI cy (rUK 3) 8 (T_kn tA 3) :: zzI cy (rUK 4) 8 (T_kn tA 4) :: zzI cy (rUK 5) 8 (T_kn tA 5) :: zzI cy (rUK 6) 8 (T_kn tA 6) :: zzI cy (rUK 7) 8 (T_kn tA 7) :: []) ∧ ((r = qU)))) := by
  refine enW RX6 (by decide +kernel) rfl (Nat.le_of_ble_eq_true rfl) (fun p e s m below meth c ls A hx hb hml hown hts hr hlocks hP hN hl hin hD hA hS => ?_)
  have hin : meth.name = _ := hin
  have hK := hN.1
  replace hl : lv_has ls 1 [(0, .ref qm)] := hl
  refine lv_aload_n hx hb (g_42 bX6_fresh rfl) rfl (lv_at hl 0 rfl) ?_
  refine va_get (D := G) (ci := 5) (v := ov uU) (C := RX6) (T := TX6) (N := 35) hx hb hts iX_X6 hown hK hP 0 rfl rfl 19 (by decide +kernel) (hts _ m_t869) (fun _ h9 => h9) rfl (g_180 (v := 118) bX6_fresh rfl) ?_
  rcases uU with _ | ⟨qU_1, qUB_2, qUO_3, qUK_4, rUB_5, rUO_6, rUK_7, tU_8, xU_9, iEnU_10, iTkU_11, iLvU_12, iWsU_13⟩
  · have hPD := pd_as [zzO qm 5 (v0 :: v1 :: v2 :: v3 :: v4 :: v5 :: v6 :: v7 :: v8 :: v9 :: .int (nI (T_nb tA)) :: .ref qmB :: .int (nI (T_np tA)) :: .ref qmO :: .ref qmK :: .int iEn :: .int iTk :: .int (T_sd tA) :: v18 :: .null :: v20 :: v21 :: v22 :: v23 :: v24 :: v25 :: v26 :: .int iLv :: .int iWs :: v29 :: v30 :: v31 :: v32 :: v33 :: v34 :: []), _, _, _, _, _, _, _, _, _, _, _, _, _, _, _, _, _, _, _, _, _, _, _, _, _, _, _] hP hD rfl
    clear hP hD
    obtain ⟨hP, hD⟩ := hPD
    refine lv_setv (v := .null) rfl ?_
    refine lv_ifnonnullN hx hb dX6_fresh_4 ?_
    refine lv_aload_n hx hb (g_42 bX6_fresh rfl) rfl (lv_at hl 0 rfl) ?_
    refine va_new (ci := 5) (fs := (.null :: .null :: .null :: .null :: .null :: .null :: .null :: .null :: .int 0 :: .null :: .int 0 :: .null :: .int 0 :: .null :: .null :: .int 0 :: .int 0 :: .int 0 :: .null :: .null :: .int 0 :: .int 0 :: .int 0 :: .long 0 :: .int 0 :: .null :: .int 0 :: .int 0 :: .int 0 :: .null :: .null :: .null :: .null :: .null :: .int 0 :: [])) (C := RX6) (T := TX6) (N := 35) hx hb hts iX_X6 tyX6 tyX6_ok hown (hts _ m_t848) (hts _ m_t839) (hts _ m_t6) hK hP hD hS hA rfl df_X6 (Nat.le_of_ble_eq_true rfl) (Nat.le_of_ble_eq_true rfl) (g_187 (v := 8) bX6_fresh rfl) (fun q_14 H => ?_)
    clear hP hD hS
    intro hP hD hS
    have hPD := pd_as [_, _, _, _, _, _, _, _, _, _, _, _, _, _, _, _, _, _, _, _, _, _, _, _, _, _, _, _, zzO q_14 5 (.null :: .null :: .null :: .null :: .null :: .null :: .null :: .null :: .int 0 :: .null :: .int 0 :: .null :: .int 0 :: .null :: .null :: .int 0 :: .int 0 :: .int 0 :: .null :: .null :: .int 0 :: .int 0 :: .int 0 :: .long 0 :: .int 0 :: .null :: .int 0 :: .int 0 :: .int 0 :: .null :: .null :: .null :: .null :: .null :: .int 0 :: [])] hP hD rfl
    clear hP hD
    obtain ⟨hP, hD⟩ := hPD
    refine W.widen (k := 1) (n := 35) (Nat.le_of_ble_eq_true rfl) (Nat.le_of_ble_eq_true rfl) ?_
    refine lv_dup hx hb (g_89 bX6_fresh rfl) rfl ?_
    refine cIv (As := []) (rest := [.ref q_14, .ref qm]) (b := q_14) ⟨hx, hb, hml, hown, hts⟩ (c_X6_initS l G cy (H).size q_14) L_X6_291 hN hP hD hS hA [28] [true, true, true, true, true, true, true, true, true, true, true, true, true, true, true, true, true, true, true, true, true, true, true, true, true, true, true, true, false] rfl (by decide +kernel) rfl rfl ⟨Nat.le_of_ble_eq_true rfl, Nat.le_of_ble_eq_true rfl⟩ hl.1 (Nat.le_of_ble_eq_true rfl) (g_183 (v := 291) bX6_fresh rfl) ⟨Nat.le_of_ble_eq_true rfl, Nat.le_of_ble_eq_true rfl⟩ (fun u_17 H locs h_16 => ?_)
    clear hP hD hS
    intro hP hD hS
    obtain ⟨qmB_18, qmO_19, qmK_20, rB_21, rO_22, rK_23, xF_24, hu9⟩ := h_16
    have hPD := pd_eq (_ :: _ :: _ :: _ :: _ :: _ :: _ :: _ :: _ :: _ :: _ :: _ :: _ :: _ :: _ :: _ :: _ :: _ :: _ :: _ :: _ :: _ :: _ :: _ :: _ :: _ :: _ :: _ :: zzO q_14 5 (xF_24 0 :: xF_24 1 :: xF_24 2 :: xF_24 3 :: xF_24 4 :: xF_24 5 :: xF_24 6 :: xF_24 7 :: xF_24 8 :: xF_24 9 :: .int (nI (T_nb T0)) :: .ref qmB_18 :: .int (nI (T_np T0)) :: .ref qmO_19 :: .ref qmK_20 :: .int 0 :: .int 0 :: .int (T_sd T0) :: xF_24 18 :: xF_24 19 :: xF_24 20 :: xF_24 21 :: xF_24 22 :: xF_24 23 :: xF_24 24 :: xF_24 25 :: xF_24 26 :: .int 0 :: .int 0 :: xF_24 29 :: xF_24 30 :: xF_24 31 :: xF_24 32 :: xF_24 33 :: xF_24 34 :: []) :: zzG cy 3 qmB_18 rB_21 :: zzI cy (rB_21 0) 4 (bkR T0 0) :: zzI cy (rB_21 1) 4 (bkR T0 1) :: zzI cy (rB_21 2) 4 (bkR T0 2) :: zzI cy (rB_21 3) 4 (bkR T0 3) :: zzI cy (rB_21 4) 4 (bkR T0 4) :: zzI cy (rB_21 5) 4 (bkR T0 5) :: zzI cy (rB_21 6) 4 (bkR T0 6) :: zzI cy (rB_21 7) 4 (bkR T0 7) :: zzG cy 3 qmO_19 rO_22 :: zzI cy (rO_22 0) 5 (onR T0 0) :: zzI cy (rO_22 1) 5 (onR T0 1) :: zzI cy (rO_22 2) 5 (onR T0 2) :: zzI cy (rO_22 3) 5 (onR T0 3) :: zzI cy (rO_22 4) 5 (onR T0 4) :: zzI cy (rO_22 5) 5 (onR T0 5) :: zzI cy (rO_22 6) 5 (onR T0 6) :: zzI cy (rO_22 7) 5 (onR T0 7) :: zzG cy 3 qmK_20 rK_23 :: zzI cy (rK_23 0) 8 (T_kn T0 0) :: zzI cy (rK_23 1) 8 (T_kn T0 1) :: zzI cy (rK_23 2) 8 (T_kn T0 2) :: zzI cy (rK_23 3) 8 (T_kn T0 3) :: zzI cy (rK_23 4) 8 (T_kn T0 4) :: zzI cy (rK_23 5) 8 (T_kn T0 5) :: zzI cy (rK_23 6) 8 (T_kn T0 6) :: zzI cy (rK_23 7) 8 (T_kn T0 7) :: []) hP hD hu9 rfl
    clear hP hD hu9
    obtain ⟨hP, hD⟩ := hPD
    refine W.widen (k := 50) (n := 888) (Nat.le_of_ble_eq_true rfl) (Nat.le_of_ble_eq_true rfl) ?_
    refine va_put (D := G) (ci := 5) (v := .ref q_14) (ty := (.object "EachBookOnceModel")) (C := RX6) (T := TX6) (N := 35) hx hb hts iX_X6 tyX6 tyX6_ok nmX6 hown hK hP hD hS 0 rfl rfl 19 (by decide +kernel) (hts _ m_t869) (fun _ h9 => h9) rfl (by decide +kernel) rfl rfl (Nat.le_of_ble_eq_true rfl) (g_181 (v := 118) bX6_fresh rfl) (fun H locs => ?_)
    clear hP hD hS
    intro hP hD hS
    have hPD := pd_as (zzO qm 5 (v0 :: v1 :: v2 :: v3 :: v4 :: v5 :: v6 :: v7 :: v8 :: v9 :: .int (nI (T_nb tA)) :: .ref qmB :: .int (nI (T_np tA)) :: .ref qmO :: .ref qmK :: .int iEn :: .int iTk :: .int (T_sd tA) :: v18 :: .ref q_14 :: v20 :: v21 :: v22 :: v23 :: v24 :: v25 :: v26 :: .int iLv :: .int iWs :: v29 :: v30 :: v31 :: v32 :: v33 :: v34 :: []) :: _ :: _ :: _ :: _ :: _ :: _ :: _ :: _ :: _ :: _ :: _ :: _ :: _ :: _ :: _ :: _ :: _ :: _ :: _ :: _ :: _ :: _ :: _ :: _ :: _ :: _ :: _ :: _ :: _ :: _ :: _ :: _ :: _ :: _ :: _ :: _ :: _ :: _ :: _ :: _ :: _ :: _ :: _ :: _ :: _ :: _ :: _ :: _ :: _ :: _ :: _ :: _ :: _ :: _ :: _ :: []) hP hD rfl
    clear hP hD
    obtain ⟨hP, hD⟩ := hPD
    refine lv_aload_n hx hb (g_42 bX6_fresh rfl) rfl (lv_at hl 0 rfl) ?_
    refine va_get (D := G) (ci := 5) (v := .ref q_14) (C := RX6) (T := TX6) (N := 35) hx hb hts iX_X6 hown hK hP 0 rfl rfl 19 (by decide +kernel) (hts _ m_t869) (fun _ h9 => h9) rfl (g_180 (v := 118) bX6_fresh rfl) ?_
    refine lv_aload_n hx hb (g_42 bX6_fresh rfl) rfl (lv_at hl 0 rfl) ?_
    refine cVv (As := [.ref qm]) (rest := []) (b := q_14) (q := (RX6, TX6, 35)) ⟨hx, hb, hml, hown, hts⟩ (c_X6_takeFrom l G cy (H).size q_14 (xF_24 0) (xF_24 1) (xF_24 2) (xF_24 3) (xF_24 4) (xF_24 5) (xF_24 6) (xF_24 7) (xF_24 8) (xF_24 9) T0 qmB_18 qmO_19 qmK_20 0 0 (xF_24 18) (xF_24 19) (xF_24 20) (xF_24 21) (xF_24 22) (xF_24 23) (xF_24 24) (xF_24 25) (xF_24 26) 0 0 (xF_24 29) (xF_24 30) (xF_24 31) (xF_24 32) (xF_24 33) (xF_24 34) rB_21 rO_22 rK_23 qm v0 v1 v2 v3 v4 v5 v6 v7 v8 v9 tA qmB qmO qmK iEn iTk v18 (.ref q_14) v20 v21 v22 v23 v24 v25 v26 iLv iWs v29 v30 v31 v32 v33 v34 rB rO rK) L_X6_225 hN hP hD hS hA (trueIxs [(false :: false :: false :: false :: false :: false :: false :: false :: false :: false :: false :: false :: false :: false :: false :: false :: false :: false :: false :: false :: false :: false :: false :: false :: false :: false :: false :: false :: true :: true :: true :: true :: true :: true :: true :: true :: true :: true :: true :: true :: true :: true :: true :: true :: true :: true :: true :: true :: true :: true :: true :: true :: true :: true :: true :: true :: []), [true, true, true, true, true, true, true, true, true, true, true, true, true, true, true, true, true, true, true, true, true, true, true, true, true, true, true, true]]) (false :: false :: false :: false :: false :: false :: false :: false :: false :: false :: false :: false :: false :: false :: false :: false :: false :: false :: false :: false :: false :: false :: false :: false :: false :: false :: false :: false :: false :: false :: false :: false :: false :: false :: false :: false :: false :: false :: false :: false :: false :: false :: false :: false :: false :: false :: false :: false :: false :: false :: false :: false :: false :: false :: false :: false :: []) (sels_eq rfl rfl) (by decide +kernel) rfl 28 5 rfl rfl rfl ⟨Nat.le_of_ble_eq_true rfl, Nat.le_of_ble_eq_true rfl⟩ hl.1 (Nat.le_of_ble_eq_true rfl) (g_182 (v := 225) bX6_fresh rfl) ⟨Nat.le_of_ble_eq_true rfl, Nat.le_of_ble_eq_true rfl⟩ (fun u_27 H locs h_26 => ?_)
    clear hP hD hS
    intro hP hD hS
    have hPD := pd_eq (zzO q_14 5 (xF_24 0 :: xF_24 1 :: xF_24 2 :: xF_24 3 :: xF_24 4 :: xF_24 5 :: xF_24 6 :: xF_24 7 :: xF_24 8 :: xF_24 9 :: .int (nI (T_nb tA)) :: .ref qmB_18 :: .int (nI (T_np tA)) :: .ref qmO_19 :: .ref qmK_20 :: .int iEn :: .int iTk :: .int (T_sd tA) :: xF_24 18 :: xF_24 19 :: xF_24 20 :: xF_24 21 :: xF_24 22 :: xF_24 23 :: xF_24 24 :: xF_24 25 :: xF_24 26 :: .int 0 :: .int 0 :: xF_24 29 :: xF_24 30 :: xF_24 31 :: xF_24 32 :: xF_24 33 :: xF_24 34 :: []) :: _ :: zzI cy (rB_21 0) 4 (bkR tA 0) :: zzI cy (rB_21 1) 4 (bkR tA 1) :: zzI cy (rB_21 2) 4 (bkR tA 2) :: zzI cy (rB_21 3) 4 (bkR tA 3) :: zzI cy (rB_21 4) 4 (bkR tA 4) :: zzI cy (rB_21 5) 4 (bkR tA 5) :: zzI cy (rB_21 6) 4 (bkR tA 6) :: zzI cy (rB_21 7) 4 (bkR tA 7) :: _ :: zzI cy (rO_22 0) 5 (onR tA 0) :: zzI cy (rO_22 1) 5 (onR tA 1) :: zzI cy (rO_22 2) 5 (onR tA 2) :: zzI cy (rO_22 3) 5 (onR tA 3) :: zzI cy (rO_22 4) 5 (onR tA 4) :: zzI cy (rO_22 5) 5 (onR tA 5) :: zzI cy (rO_22 6) 5 (onR tA 6) :: zzI cy (rO_22 7) 5 (onR tA 7) :: _ :: zzI cy (rK_23 0) 8 (T_kn tA 0) :: zzI cy (rK_23 1) 8 (T_kn tA 1) :: zzI cy (rK_23 2) 8 (T_kn tA 2) :: zzI cy (rK_23 3) 8 (T_kn tA 3) :: zzI cy (rK_23 4) 8 (T_kn tA 4) :: zzI cy (rK_23 5) 8 (T_kn tA 5) :: zzI cy (rK_23 6) 8 (T_kn tA 6) :: zzI cy (rK_23 7) 8 (T_kn tA 7) :: _ :: _ :: _ :: _ :: _ :: _ :: _ :: _ :: _ :: _ :: _ :: _ :: _ :: _ :: _ :: _ :: _ :: _ :: _ :: _ :: _ :: _ :: _ :: _ :: _ :: _ :: _ :: _ :: []) hP hD h_26 rfl
    clear hP hD h_26
    obtain ⟨hP, hD⟩ := hPD
    refine lv_aload_n hx hb (g_42 bX6_fresh rfl) rfl (lv_at hl 0 rfl) ?_
    refine va_get (D := G) (ci := 5) (v := .ref q_14) (C := RX6) (T := TX6) (N := 35) hx hb hts iX_X6 hown hK hP 28 rfl rfl 19 (by decide +kernel) (hts _ m_t869) (fun _ h9 => h9) rfl (g_180 (v := 118) bX6_fresh rfl) ?_
    exact endQ (u := (zzO qm 5 (v0 :: v1 :: v2 :: v3 :: v4 :: v5 :: v6 :: v7 :: v8 :: v9 :: .int (nI (T_nb tA)) :: .ref qmB :: .int (nI (T_np tA)) :: .ref qmO :: .ref qmK :: .int iEn :: .int iTk :: .int (T_sd tA) :: v18 :: .ref q_14 :: v20 :: v21 :: v22 :: v23 :: v24 :: v25 :: v26 :: .int iLv :: .int iWs :: v29 :: v30 :: v31 :: v32 :: v33 :: v34 :: []) :: zzG cy 3 qmB rB :: zzI cy (rB 0) 4 (bkR tA 0) :: zzI cy (rB 1) 4 (bkR tA 1) :: zzI cy (rB 2) 4 (bkR tA 2) :: zzI cy (rB 3) 4 (bkR tA 3) :: zzI cy (rB 4) 4 (bkR tA 4) :: zzI cy (rB 5) 4 (bkR tA 5) :: zzI cy (rB 6) 4 (bkR tA 6) :: zzI cy (rB 7) 4 (bkR tA 7) :: zzG cy 3 qmO rO :: zzI cy (rO 0) 5 (onR tA 0) :: zzI cy (rO 1) 5 (onR tA 1) :: zzI cy (rO 2) 5 (onR tA 2) :: zzI cy (rO 3) 5 (onR tA 3) :: zzI cy (rO 4) 5 (onR tA 4) :: zzI cy (rO 5) 5 (onR tA 5) :: zzI cy (rO 6) 5 (onR tA 6) :: zzI cy (rO 7) 5 (onR tA 7) :: zzG cy 3 qmK rK :: zzI cy (rK 0) 8 (T_kn tA 0) :: zzI cy (rK 1) 8 (T_kn tA 1) :: zzI cy (rK 2) 8 (T_kn tA 2) :: zzI cy (rK 3) 8 (T_kn tA 3) :: zzI cy (rK 4) 8 (T_kn tA 4) :: zzI cy (rK 5) 8 (T_kn tA 5) :: zzI cy (rK 6) 8 (T_kn tA 6) :: zzI cy (rK 7) 8 (T_kn tA 7) :: zzO q_14 5 (xF_24 0 :: xF_24 1 :: xF_24 2 :: xF_24 3 :: xF_24 4 :: xF_24 5 :: xF_24 6 :: xF_24 7 :: xF_24 8 :: xF_24 9 :: .int (nI (T_nb tA)) :: .ref qmB_18 :: .int (nI (T_np tA)) :: .ref qmO_19 :: .ref qmK_20 :: .int iEn :: .int iTk :: .int (T_sd tA) :: xF_24 18 :: xF_24 19 :: xF_24 20 :: xF_24 21 :: xF_24 22 :: xF_24 23 :: xF_24 24 :: xF_24 25 :: xF_24 26 :: .int 0 :: .int 0 :: xF_24 29 :: xF_24 30 :: xF_24 31 :: xF_24 32 :: xF_24 33 :: xF_24 34 :: []) :: zzG cy 3 qmB_18 rB_21 :: zzI cy (rB_21 0) 4 (bkR tA 0) :: zzI cy (rB_21 1) 4 (bkR tA 1) :: zzI cy (rB_21 2) 4 (bkR tA 2) :: zzI cy (rB_21 3) 4 (bkR tA 3) :: zzI cy (rB_21 4) 4 (bkR tA 4) :: zzI cy (rB_21 5) 4 (bkR tA 5) :: zzI cy (rB_21 6) 4 (bkR tA 6) :: zzI cy (rB_21 7) 4 (bkR tA 7) :: zzG cy 3 qmO_19 rO_22 :: zzI cy (rO_22 0) 5 (onR tA 0) :: zzI cy (rO_22 1) 5 (onR tA 1) :: zzI cy (rO_22 2) 5 (onR tA 2) :: zzI cy (rO_22 3) 5 (onR tA 3) :: zzI cy (rO_22 4) 5 (onR tA 4) :: zzI cy (rO_22 5) 5 (onR tA 5) :: zzI cy (rO_22 6) 5 (onR tA 6) :: zzI cy (rO_22 7) 5 (onR tA 7) :: zzG cy 3 qmK_20 rK_23 :: zzI cy (rK_23 0) 8 (T_kn tA 0) :: zzI cy (rK_23 1) 8 (T_kn tA 1) :: zzI cy (rK_23 2) 8 (T_kn tA 2) :: zzI cy (rK_23 3) 8 (T_kn tA 3) :: zzI cy (rK_23 4) 8 (T_kn tA 4) :: zzI cy (rK_23 5) 8 (T_kn tA 5) :: zzI cy (rK_23 6) 8 (T_kn tA 6) :: zzI cy (rK_23 7) 8 (T_kn tA 7) :: [])) hx hb hr hlocks (pSb hP [(false :: false :: false :: false :: false :: false :: false :: false :: false :: false :: false :: false :: false :: false :: false :: false :: false :: false :: false :: false :: false :: false :: false :: false :: false :: false :: false :: false :: true :: true :: true :: true :: true :: true :: true :: true :: true :: true :: true :: true :: true :: true :: true :: true :: true :: true :: true :: true :: true :: true :: true :: true :: true :: true :: true :: true :: []), [true, true, true, true, true, true, true, true, true, true, true, true, true, true, true, true, true, true, true, true, true, true, true, true, true, true, true, true]] rfl rfl) (dSb hD [(false :: false :: false :: false :: false :: false :: false :: false :: false :: false :: false :: false :: false :: false :: false :: false :: false :: false :: false :: false :: false :: false :: false :: false :: false :: false :: false :: false :: true :: true :: true :: true :: true :: true :: true :: true :: true :: true :: true :: true :: true :: true :: true :: true :: true :: true :: true :: true :: true :: true :: true :: true :: true :: true :: true :: true :: []), [true, true, true, true, true, true, true, true, true, true, true, true, true, true, true, true, true, true, true, true, true, true, true, true, true, true, true, true]] (by decide +kernel) rfl rfl) hS ⟨q_14, qmB_18, qmO_19, qmK_20, rB_21, rO_22, rK_23, xF_24, 0, 0, rfl, rfl⟩ (g_176 bX6_fresh rfl)
  · have hPD := pd_as (zzO qm 5 (v0 :: v1 :: v2 :: v3 :: v4 :: v5 :: v6 :: v7 :: v8 :: v9 :: .int (nI (T_nb tA)) :: .ref qmB :: .int (nI (T_np tA)) :: .ref qmO :: .ref qmK :: .int iEn :: .int iTk :: .int (T_sd tA) :: v18 :: .ref qU_1 :: v20 :: v21 :: v22 :: v23 :: v24 :: v25 :: v26 :: .int iLv :: .int iWs :: v29 :: v30 :: v31 :: v32 :: v33 :: v34 :: []) :: _ :: _ :: _ :: _ :: _ :: _ :: _ :: _ :: _ :: _ :: _ :: _ :: _ :: _ :: _ :: _ :: _ :: _ :: _ :: _ :: _ :: _ :: _ :: _ :: _ :: _ :: _ :: zzO qU_1 5 (xU_9 0 :: xU_9 1 :: xU_9 2 :: xU_9 3 :: xU_9 4 :: xU_9 5 :: xU_9 6 :: xU_9 7 :: xU_9 8 :: xU_9 9 :: .int (nI (T_nb tU_8)) :: .ref qUB_2 :: .int (nI (T_np tU_8)) :: .ref qUO_3 :: .ref qUK_4 :: .int iEnU_10 :: .int iTkU_11 :: .int (T_sd tU_8) :: xU_9 18 :: xU_9 19 :: xU_9 20 :: xU_9 21 :: xU_9 22 :: xU_9 23 :: xU_9 24 :: xU_9 25 :: xU_9 26 :: .int iLvU_12 :: .int iWsU_13 :: xU_9 29 :: xU_9 30 :: xU_9 31 :: xU_9 32 :: xU_9 33 :: xU_9 34 :: []) :: zzG cy 3 qUB_2 rUB_5 :: zzI cy (rUB_5 0) 4 (bkR tU_8 0) :: zzI cy (rUB_5 1) 4 (bkR tU_8 1) :: zzI cy (rUB_5 2) 4 (bkR tU_8 2) :: zzI cy (rUB_5 3) 4 (bkR tU_8 3) :: zzI cy (rUB_5 4) 4 (bkR tU_8 4) :: zzI cy (rUB_5 5) 4 (bkR tU_8 5) :: zzI cy (rUB_5 6) 4 (bkR tU_8 6) :: zzI cy (rUB_5 7) 4 (bkR tU_8 7) :: zzG cy 3 qUO_3 rUO_6 :: zzI cy (rUO_6 0) 5 (onR tU_8 0) :: zzI cy (rUO_6 1) 5 (onR tU_8 1) :: zzI cy (rUO_6 2) 5 (onR tU_8 2) :: zzI cy (rUO_6 3) 5 (onR tU_8 3) :: zzI cy (rUO_6 4) 5 (onR tU_8 4) :: zzI cy (rUO_6 5) 5 (onR tU_8 5) :: zzI cy (rUO_6 6) 5 (onR tU_8 6) :: zzI cy (rUO_6 7) 5 (onR tU_8 7) :: zzG cy 3 qUK_4 rUK_7 :: zzI cy (rUK_7 0) 8 (T_kn tU_8 0) :: zzI cy (rUK_7 1) 8 (T_kn tU_8 1) :: zzI cy (rUK_7 2) 8 (T_kn tU_8 2) :: zzI cy (rUK_7 3) 8 (T_kn tU_8 3) :: zzI cy (rUK_7 4) 8 (T_kn tU_8 4) :: zzI cy (rUK_7 5) 8 (T_kn tU_8 5) :: zzI cy (rUK_7 6) 8 (T_kn tU_8 6) :: zzI cy (rUK_7 7) 8 (T_kn tU_8 7) :: []) hP hD rfl
    clear hP hD
    obtain ⟨hP, hD⟩ := hPD
    refine lv_setv (v := .ref qU_1) rfl ?_
    refine lv_ifnonnull (tgt := 18) hx hb dX6_fresh_4 (by decide +kernel) ?_
    refine lv_aload_n hx hb (g_42 bX6_fresh rfl) rfl (lv_at hl 0 rfl) ?_
    refine va_get (D := G) (ci := 5) (v := .ref qU_1) (C := RX6) (T := TX6) (N := 35) hx hb hts iX_X6 hown hK hP 0 rfl rfl 19 (by decide +kernel) (hts _ m_t869) (fun _ h9 => h9) rfl (g_180 (v := 118) bX6_fresh rfl) ?_
    refine lv_aload_n hx hb (g_42 bX6_fresh rfl) rfl (lv_at hl 0 rfl) ?_
    refine cVv (As := [.ref qm]) (rest := []) (b := qU_1) (q := (RX6, TX6, 35)) ⟨hx, hb, hml, hown, hts⟩ (c_X6_takeFrom l G cy (s.heap).size qU_1 (xU_9 0) (xU_9 1) (xU_9 2) (xU_9 3) (xU_9 4) (xU_9 5) (xU_9 6) (xU_9 7) (xU_9 8) (xU_9 9) tU_8 qUB_2 qUO_3 qUK_4 iEnU_10 iTkU_11 (xU_9 18) (xU_9 19) (xU_9 20) (xU_9 21) (xU_9 22) (xU_9 23) (xU_9 24) (xU_9 25) (xU_9 26) iLvU_12 iWsU_13 (xU_9 29) (xU_9 30) (xU_9 31) (xU_9 32) (xU_9 33) (xU_9 34) rUB_5 rUO_6 rUK_7 qm v0 v1 v2 v3 v4 v5 v6 v7 v8 v9 tA qmB qmO qmK iEn iTk v18 (.ref qU_1) v20 v21 v22 v23 v24 v25 v26 iLv iWs v29 v30 v31 v32 v33 v34 rB rO rK) L_X6_225 hN hP hD hS hA (trueIxs [(false :: false :: false :: false :: false :: false :: false :: false :: false :: false :: false :: false :: false :: false :: false :: false :: false :: false :: false :: false :: false :: false :: false :: false :: false :: false :: false :: false :: true :: true :: true :: true :: true :: true :: true :: true :: true :: true :: true :: true :: true :: true :: true :: true :: true :: true :: true :: true :: true :: true :: true :: true :: true :: true :: true :: true :: []), [true, true, true, true, true, true, true, true, true, true, true, true, true, true, true, true, true, true, true, true, true, true, true, true, true, true, true, true]]) (false :: false :: false :: false :: false :: false :: false :: false :: false :: false :: false :: false :: false :: false :: false :: false :: false :: false :: false :: false :: false :: false :: false :: false :: false :: false :: false :: false :: false :: false :: false :: false :: false :: false :: false :: false :: false :: false :: false :: false :: false :: false :: false :: false :: false :: false :: false :: false :: false :: false :: false :: false :: false :: false :: false :: false :: []) (sels_eq rfl rfl) (by decide +kernel) rfl 28 5 rfl rfl rfl ⟨Nat.le_of_ble_eq_true rfl, Nat.le_of_ble_eq_true rfl⟩ hl.1 (Nat.le_of_ble_eq_true rfl) (g_182 (v := 225) bX6_fresh rfl) ⟨Nat.le_of_ble_eq_true rfl, Nat.le_of_ble_eq_true rfl⟩ (fun u_30 H locs h_29 => ?_)
    clear hP hD hS
    intro hP hD hS
    have hPD := pd_eq (zzO qU_1 5 (xU_9 0 :: xU_9 1 :: xU_9 2 :: xU_9 3 :: xU_9 4 :: xU_9 5 :: xU_9 6 :: xU_9 7 :: xU_9 8 :: xU_9 9 :: .int (nI (T_nb tA)) :: .ref qUB_2 :: .int (nI (T_np tA)) :: .ref qUO_3 :: .ref qUK_4 :: .int iEn :: .int iTk :: .int (T_sd tA) :: xU_9 18 :: xU_9 19 :: xU_9 20 :: xU_9 21 :: xU_9 22 :: xU_9 23 :: xU_9 24 :: xU_9 25 :: xU_9 26 :: .int iLvU_12 :: .int iWsU_13 :: xU_9 29 :: xU_9 30 :: xU_9 31 :: xU_9 32 :: xU_9 33 :: xU_9 34 :: []) :: _ :: zzI cy (rUB_5 0) 4 (bkR tA 0) :: zzI cy (rUB_5 1) 4 (bkR tA 1) :: zzI cy (rUB_5 2) 4 (bkR tA 2) :: zzI cy (rUB_5 3) 4 (bkR tA 3) :: zzI cy (rUB_5 4) 4 (bkR tA 4) :: zzI cy (rUB_5 5) 4 (bkR tA 5) :: zzI cy (rUB_5 6) 4 (bkR tA 6) :: zzI cy (rUB_5 7) 4 (bkR tA 7) :: _ :: zzI cy (rUO_6 0) 5 (onR tA 0) :: zzI cy (rUO_6 1) 5 (onR tA 1) :: zzI cy (rUO_6 2) 5 (onR tA 2) :: zzI cy (rUO_6 3) 5 (onR tA 3) :: zzI cy (rUO_6 4) 5 (onR tA 4) :: zzI cy (rUO_6 5) 5 (onR tA 5) :: zzI cy (rUO_6 6) 5 (onR tA 6) :: zzI cy (rUO_6 7) 5 (onR tA 7) :: _ :: zzI cy (rUK_7 0) 8 (T_kn tA 0) :: zzI cy (rUK_7 1) 8 (T_kn tA 1) :: zzI cy (rUK_7 2) 8 (T_kn tA 2) :: zzI cy (rUK_7 3) 8 (T_kn tA 3) :: zzI cy (rUK_7 4) 8 (T_kn tA 4) :: zzI cy (rUK_7 5) 8 (T_kn tA 5) :: zzI cy (rUK_7 6) 8 (T_kn tA 6) :: zzI cy (rUK_7 7) 8 (T_kn tA 7) :: _ :: _ :: _ :: _ :: _ :: _ :: _ :: _ :: _ :: _ :: _ :: _ :: _ :: _ :: _ :: _ :: _ :: _ :: _ :: _ :: _ :: _ :: _ :: _ :: _ :: _ :: _ :: _ :: []) hP hD h_29 rfl
    clear hP hD h_29
    obtain ⟨hP, hD⟩ := hPD
    refine lv_aload_n hx hb (g_42 bX6_fresh rfl) rfl (lv_at hl 0 rfl) ?_
    refine va_get (D := G) (ci := 5) (v := .ref qU_1) (C := RX6) (T := TX6) (N := 35) hx hb hts iX_X6 hown hK hP 28 rfl rfl 19 (by decide +kernel) (hts _ m_t869) (fun _ h9 => h9) rfl (g_180 (v := 118) bX6_fresh rfl) ?_
    refine W.widen (k := 50) (n := 888) (Nat.le_of_ble_eq_true rfl) (Nat.le_of_ble_eq_true rfl) ?_
    exact endQ (u := (zzO qm 5 (v0 :: v1 :: v2 :: v3 :: v4 :: v5 :: v6 :: v7 :: v8 :: v9 :: .int (nI (T_nb tA)) :: .ref qmB :: .int (nI (T_np tA)) :: .ref qmO :: .ref qmK :: .int iEn :: .int iTk :: .int (T_sd tA) :: v18 :: .ref qU_1 :: v20 :: v21 :: v22 :: v23 :: v24 :: v25 :: v26 :: .int iLv :: .int iWs :: v29 :: v30 :: v31 :: v32 :: v33 :: v34 :: []) :: zzG cy 3 qmB rB :: zzI cy (rB 0) 4 (bkR tA 0) :: zzI cy (rB 1) 4 (bkR tA 1) :: zzI cy (rB 2) 4 (bkR tA 2) :: zzI cy (rB 3) 4 (bkR tA 3) :: zzI cy (rB 4) 4 (bkR tA 4) :: zzI cy (rB 5) 4 (bkR tA 5) :: zzI cy (rB 6) 4 (bkR tA 6) :: zzI cy (rB 7) 4 (bkR tA 7) :: zzG cy 3 qmO rO :: zzI cy (rO 0) 5 (onR tA 0) :: zzI cy (rO 1) 5 (onR tA 1) :: zzI cy (rO 2) 5 (onR tA 2) :: zzI cy (rO 3) 5 (onR tA 3) :: zzI cy (rO 4) 5 (onR tA 4) :: zzI cy (rO 5) 5 (onR tA 5) :: zzI cy (rO 6) 5 (onR tA 6) :: zzI cy (rO 7) 5 (onR tA 7) :: zzG cy 3 qmK rK :: zzI cy (rK 0) 8 (T_kn tA 0) :: zzI cy (rK 1) 8 (T_kn tA 1) :: zzI cy (rK 2) 8 (T_kn tA 2) :: zzI cy (rK 3) 8 (T_kn tA 3) :: zzI cy (rK 4) 8 (T_kn tA 4) :: zzI cy (rK 5) 8 (T_kn tA 5) :: zzI cy (rK 6) 8 (T_kn tA 6) :: zzI cy (rK 7) 8 (T_kn tA 7) :: zzO qU_1 5 (xU_9 0 :: xU_9 1 :: xU_9 2 :: xU_9 3 :: xU_9 4 :: xU_9 5 :: xU_9 6 :: xU_9 7 :: xU_9 8 :: xU_9 9 :: .int (nI (T_nb tA)) :: .ref qUB_2 :: .int (nI (T_np tA)) :: .ref qUO_3 :: .ref qUK_4 :: .int iEn :: .int iTk :: .int (T_sd tA) :: xU_9 18 :: xU_9 19 :: xU_9 20 :: xU_9 21 :: xU_9 22 :: xU_9 23 :: xU_9 24 :: xU_9 25 :: xU_9 26 :: .int iLvU_12 :: .int iWsU_13 :: xU_9 29 :: xU_9 30 :: xU_9 31 :: xU_9 32 :: xU_9 33 :: xU_9 34 :: []) :: zzG cy 3 qUB_2 rUB_5 :: zzI cy (rUB_5 0) 4 (bkR tA 0) :: zzI cy (rUB_5 1) 4 (bkR tA 1) :: zzI cy (rUB_5 2) 4 (bkR tA 2) :: zzI cy (rUB_5 3) 4 (bkR tA 3) :: zzI cy (rUB_5 4) 4 (bkR tA 4) :: zzI cy (rUB_5 5) 4 (bkR tA 5) :: zzI cy (rUB_5 6) 4 (bkR tA 6) :: zzI cy (rUB_5 7) 4 (bkR tA 7) :: zzG cy 3 qUO_3 rUO_6 :: zzI cy (rUO_6 0) 5 (onR tA 0) :: zzI cy (rUO_6 1) 5 (onR tA 1) :: zzI cy (rUO_6 2) 5 (onR tA 2) :: zzI cy (rUO_6 3) 5 (onR tA 3) :: zzI cy (rUO_6 4) 5 (onR tA 4) :: zzI cy (rUO_6 5) 5 (onR tA 5) :: zzI cy (rUO_6 6) 5 (onR tA 6) :: zzI cy (rUO_6 7) 5 (onR tA 7) :: zzG cy 3 qUK_4 rUK_7 :: zzI cy (rUK_7 0) 8 (T_kn tA 0) :: zzI cy (rUK_7 1) 8 (T_kn tA 1) :: zzI cy (rUK_7 2) 8 (T_kn tA 2) :: zzI cy (rUK_7 3) 8 (T_kn tA 3) :: zzI cy (rUK_7 4) 8 (T_kn tA 4) :: zzI cy (rUK_7 5) 8 (T_kn tA 5) :: zzI cy (rUK_7 6) 8 (T_kn tA 6) :: zzI cy (rUK_7 7) 8 (T_kn tA 7) :: [])) hx hb hr hlocks (pSb hP [(false :: false :: false :: false :: false :: false :: false :: false :: false :: false :: false :: false :: false :: false :: false :: false :: false :: false :: false :: false :: false :: false :: false :: false :: false :: false :: false :: false :: true :: true :: true :: true :: true :: true :: true :: true :: true :: true :: true :: true :: true :: true :: true :: true :: true :: true :: true :: true :: true :: true :: true :: true :: true :: true :: true :: true :: []), [true, true, true, true, true, true, true, true, true, true, true, true, true, true, true, true, true, true, true, true, true, true, true, true, true, true, true, true]] rfl rfl) (dSb hD [(false :: false :: false :: false :: false :: false :: false :: false :: false :: false :: false :: false :: false :: false :: false :: false :: false :: false :: false :: false :: false :: false :: false :: false :: false :: false :: false :: false :: true :: true :: true :: true :: true :: true :: true :: true :: true :: true :: true :: true :: true :: true :: true :: true :: true :: true :: true :: true :: true :: true :: true :: true :: true :: true :: true :: true :: []), [true, true, true, true, true, true, true, true, true, true, true, true, true, true, true, true, true, true, true, true, true, true, true, true, true, true, true, true]] (by decide +kernel) rfl rfl) hS ⟨qU_1, qUB_2, qUO_3, qUK_4, rUB_5, rUO_6, rUK_7, xU_9, iLvU_12, iWsU_13, rfl, rfl⟩ (g_176 bX6_fresh rfl)
