set_option maxHeartbeats 4000000 in
set_option maxRecDepth 100000 in
theorem c_X3_append (l : Launch) (G : va_G) (cy : Nat → ClassId) (sz : Nat) (qa : Nat) (qab : Nat) (kZ : Nat) (v0 : Value) (v1 : Value) (v2 : Value) (v3 : Value) (v4 : Value) (fB : Nat → Int32) (iA : Int32)  (hZ : kZ < 250) : MW l yX3_append cX3_append 2 none 1 0 0 G cy [zzO qa 2 [.ref qab, .int (nI kZ), v0, v1, v2, v3, v4], zzB cy qab 250 fB] sz [.ref qa, .int iA] (Wv G (fun u => u = [zzO qa 2 [.ref qab, .int (nI (kZ + 1)), v0, v1, v2, v3, v4], zzB cy qab 250 (upd fB kZ (vp_nar .byte iA))])) := by
  refine enW RX3 (by decide +kernel) rfl (Nat.le_of_ble_eq_true rfl) (fun p e s m below meth c ls A hx hb hml hown hts hr hlocks hP hN hl hin hD hA hS => ?_)
  have hin : meth.name = _ := hin
  have hK := hN.1
  replace hl : lv_has ls 2 [(0, .ref qa), (1, .int iA)] := hl
  refine lv_aload_n hx hb (g_42 bX3_append rfl) rfl (lv_at hl 0 rfl) ?_
  refine va_get (D := G) (ci := 2) (v := .ref qab) (C := RX3) (T := TX3) (N := 7) hx hb hts iX_X3 hown hK hP 0 rfl rfl 0 (by decide +kernel) (hts _ m_t148) (fun _ h9 => h9) rfl (g_180 (v := 11) bX3_append rfl) ?_
  refine lv_aload_n hx hb (g_42 bX3_append rfl) rfl (lv_at hl 0 rfl) ?_
  refine va_get (D := G) (ci := 2) (v := .int (nI kZ)) (C := RX3) (T := TX3) (N := 7) hx hb hts iX_X3 hown hK hP 0 rfl rfl 1 (by decide +kernel) (hts _ m_t149) (fun _ h9 => h9) rfl (g_180 (v := 22) bX3_append rfl) ?_
  refine lv_iload_n hx hb (g_27 bX3_append rfl) rfl (lv_at hl 1 rfl) ?_
  refine va_bast hx hb hK hP hD hS 1 2 rfl rfl (vp_in_nI (by omega) (by omega)) (g_84 bX3_append rfl) (fun H locs => ?_)
  clear hP hD hS
  intro hP hD hS
  rw [nI_clamp (n := kZ) (by omega)] at hP hD
  have hPD := pd_as [_, _] hP hD rfl
  clear hP hD
  obtain ⟨hP, hD⟩ := hPD
  refine lv_aload_n hx hb (g_42 bX3_append rfl) rfl (lv_at hl 0 rfl) ?_
  refine lv_dup hx hb (g_89 bX3_append rfl) rfl ?_
  refine va_get (D := G) (ci := 2) (v := .int (nI kZ)) (C := RX3) (T := TX3) (N := 7) hx hb hts iX_X3 hown hK hP 0 rfl rfl 1 (by decide +kernel) (hts _ m_t149) (fun _ h9 => h9) rfl (g_180 (v := 22) bX3_append rfl) ?_
  refine lv_iconst (v := 1) hx hb (g_4 bX3_append rfl) (by decide +kernel) ?_
  refine lv_iadd hx hb (g_96 bX3_append rfl) ?_
  refine lv_seti (v := nI (kZ + 1)) (nI_1 _) ?_
  refine va_put (D := G) (ci := 2) (v := .int (nI (kZ + 1))) (ty := .int) (C := RX3) (T := TX3) (N := 7) hx hb hts iX_X3 tyX3 tyX3_ok nmX3 hown hK hP hD hS 0 rfl rfl 1 (by decide +kernel) (hts _ m_t149) (fun _ h9 => h9) rfl (by decide +kernel) rfl rfl (Nat.le_of_ble_eq_true rfl) (g_181 (v := 22) bX3_append rfl) (fun H locs => ?_)
  clear hP hD hS
  intro hP hD hS
  have hPD := pd_as [_, _] hP hD rfl
  clear hP hD
  obtain ⟨hP, hD⟩ := hPD
  exact endVs [[true, true]] hx hb hr hlocks hP hD rfl (by decide +kernel) hS rfl (g_177 bX3_append rfl)
set_option maxHeartbeats 4000000 in
set_option maxRecDepth 100000 in
theorem p_X5_row (l : Launch) (G : va_G) (cy : Nat → ClassId) (sz : Nat) (qx : Nat) (qt : Nat) (qk : Nat) (qp : Nat) (qs : Nat) (qa : Nat) (qr : Nat) (iKp : Int32) (iYe : Int32) (iTv : Int32) (fR : Nat → Int32) (qsh : Nat) (qss : Nat) (qsa : Nat) (qse : Nat) (fH : Nat → Int32) (fS : Nat → Int32) (gE : Nat → Int64) (iA : Int32) (iB : Int32) (iC : Int32)  (hSz : ∀ s, s < 8 → ∃ n : Nat, n ≤ 40 ∧ fS s = nI n) : MW l yX5_row cX5_row 4 (some .int) 12 0 0 G cy [zzO qx 4 [.ref qt, .ref qk, .ref qp, .ref qs, .ref qa, .ref qr, .int iKp, .int iYe, .int iTv], zzI cy qr 5 fR, zzO qs 1 [.ref qsh, .ref qss, .ref qsa, .ref qse], zzI cy qsh 8 fH, zzI cy qss 8 fS, zzJ cy qse 320 gE] sz [.ref qx, .int iA, .int iB, .int iC] (Wi G (fun r u => ∃ (fX : Nat → Int32) (fY : Nat → Int32) (fZ : Nat → Int32) (gX : Nat → Int64), u = [zzO qx 4 [.ref qt, .ref qk, .ref qp, .ref qs, .ref qa, .ref qr, .int iKp, .int iYe, .int iTv], zzI cy qr 5 fX, zzO qs 1 [.ref qsh, .ref qss, .ref qsa, .ref qse], zzI cy qsh 8 fY, zzI cy qss 8 fZ, zzJ cy qse 320 gX] ∧ (PXrow fH fS gE iA iB iC r fY fZ gX) ∧ (True))) := by
  refine enW RX5 (by decide +kernel) rfl (Nat.le_of_ble_eq_true rfl) (fun p e s m below meth c ls A hx hb hml hown hts hr hlocks hP hN hl hin hD hA hS => ?_)
  have hin : meth.name = _ := hin
  have hK := hN.1
  replace hl : lv_has ls 4 [(0, .ref qx), (1, .int iA), (2, .int iB), (3, .int iC)] := hl
  refine lv_iload_n hx hb (g_27 bX5_row rfl) rfl (lv_at hl 1 rfl) ?_
  refine kRi (rS (As := [.int iA]) (rest := []) ⟨hx, hb, hml, hown, hts⟩ (c_X5_isShelf l G cy iA) L_X5_44 (preRS hN hP [] rfl) rfl ⟨Nat.le_of_ble_eq_true rfl, Nat.le_of_ble_eq_true rfl⟩ hl.1 (Nat.le_of_ble_eq_true rfl) (g_184 (v := 44) bX5_row rfl) ⟨Nat.le_of_ble_eq_true rfl, Nat.le_of_ble_eq_true rfl⟩) (fun r_1 h_2 => ?_)
  rcases h_2 with ⟨rfl, h_3⟩ | ⟨rfl, h_3⟩
  · obtain ⟨k_4, hk_5, rfl⟩ := h_3
    refine lv_if_eq (tgt := 31) hx hb dX5_row_4 (by decide +kernel) (fun h9 => absurd h9 (by decide +kernel)) (fun _ => ?_)
    refine lv_iload_n hx hb (g_28 bX5_row rfl) rfl (lv_at hl 2 rfl) ?_
    refine lv_i2l (v := iB.toInt64) hx hb (g_133 bX5_row rfl) rfl ?_
    refine lv_lconst (v := 0) hx hb (g_9 bX5_row rfl) (by decide +kernel) ?_
    refine lv_ldc2 hx hb hown (hts _ m_t213) (g_20 (v := 48) bX5_row rfl) ?_
    refine kRi (rS (As := [.long iB.toInt64, .long 0, .long 4]) (rest := []) ⟨hx, hb, hml, hown, hts⟩ (c_X5_within l G cy iB.toInt64 0 4) L_X5_50 (preRS hN hP [] rfl) rfl ⟨Nat.le_of_ble_eq_true rfl, Nat.le_of_ble_eq_true rfl⟩ hl.1 (Nat.le_of_ble_eq_true rfl) (g_184 (v := 50) bX5_row rfl) ⟨Nat.le_of_ble_eq_true rfl, Nat.le_of_ble_eq_true rfl⟩) (fun r_7 h_8 => ?_)
    rcases h_8 with ⟨rfl, h_9⟩ | ⟨rfl, h_9⟩
    · obtain ⟨k_10, hk_11, hk_12, rfl⟩ := iv_nI 0 4 (by decide +kernel) (by decide +kernel) h_9
      refine lv_if_eq (tgt := 31) hx hb dX5_row_16 (by decide +kernel) (fun h9 => absurd h9 (by decide +kernel)) (fun _ => ?_)
      refine lv_iload_n hx hb (g_29 bX5_row rfl) rfl (lv_at hl 3 rfl) ?_
      refine lv_i2l (v := iC.toInt64) hx hb (g_133 bX5_row rfl) rfl ?_
      refine lv_lconst (v := 0) hx hb (g_9 bX5_row rfl) (by decide +kernel) ?_
      refine lv_ldc2 hx hb hown (hts _ m_t214) (g_20 (v := 54) bX5_row rfl) ?_
      refine kRi (rS (As := [.long iC.toInt64, .long 0, .long 40]) (rest := []) ⟨hx, hb, hml, hown, hts⟩ (c_X5_within l G cy iC.toInt64 0 40) L_X5_50 (preRS hN hP [] rfl) rfl ⟨Nat.le_of_ble_eq_true rfl, Nat.le_of_ble_eq_true rfl⟩ hl.1 (Nat.le_of_ble_eq_true rfl) (g_184 (v := 50) bX5_row rfl) ⟨Nat.le_of_ble_eq_true rfl, Nat.le_of_ble_eq_true rfl⟩) (fun r_14 h_15 => ?_)
      rcases h_15 with ⟨rfl, h_16⟩ | ⟨rfl, h_16⟩
      · obtain ⟨k_17, hk_18, hk_19, rfl⟩ := iv_nI 0 40 (by decide +kernel) (by decide +kernel) h_16
        refine lv_if_ne (tgt := 38) hx hb dX5_row_28 (by decide +kernel) (fun _ => ?_) (fun h9 => absurd h9 (by decide +kernel))
        refine lv_aload_n hx hb (g_42 bX5_row rfl) rfl (lv_at hl 0 rfl) ?_
        refine va_get (D := G) (ci := 4) (v := .ref qs) (C := RX5) (T := TX5) (N := 9) hx hb hts iX_X5 hown hK hP 0 rfl rfl 3 (by decide +kernel) (hts _ m_t177) (fun _ h9 => h9) rfl (g_180 (v := 29) bX5_row rfl) ?_
        refine lv_iload_n hx hb (g_27 bX5_row rfl) rfl (lv_at hl 1 rfl) ?_
        refine lv_iload_n hx hb (g_28 bX5_row rfl) rfl (lv_at hl 2 rfl) ?_
        refine lv_iload_n hx hb (g_29 bX5_row rfl) rfl (lv_at hl 3 rfl) ?_
        refine cVv (As := [.int (nI k_4), .int (nI k_10), .int (nI k_17)]) (rest := []) (b := qs) (q := (RX2, TX2, 4)) ⟨hx, hb, hml, hown, hts⟩ (c_X2_putRow l G cy (s.heap).size qs qsh qss qsa qse fH fS gE k_4 (nI k_10) k_17 (by first | omega | (simp only [nb_sr, np_sr, nb_wr, np_wr, nb_rd, np_rd, nb_ch, np_ch, nb_zr, np_zr, nb_za, np_za, nb_ey, np_ey, nb_hf, np_hf, nb_dd, np_dd, nb_so, np_so, nb_skn, np_skn, nb_swh, np_swh, nb_sgn, np_sgn, nb_ssd, np_ssd, nb_sgo, np_sgo, nb_sag, np_sag]; omega)) (by first | omega | (simp only [nb_sr, np_sr, nb_wr, np_wr, nb_rd, np_rd, nb_ch, np_ch, nb_zr, np_zr, nb_za, np_za, nb_ey, np_ey, nb_hf, np_hf, nb_dd, np_dd, nb_so, np_so, nb_skn, np_skn, nb_swh, np_swh, nb_sgn, np_sgn, nb_ssd, np_ssd, nb_sgo, np_sgo, nb_sag, np_sag]; omega))) L_X5_60 hN hP hD hS hA (trueIx 0 [false, false, true, true, true, true]) [true, true, false, false, false, false] (sel_eq rfl rfl) (by decide +kernel) rfl 2 1 rfl rfl rfl ⟨Nat.le_of_ble_eq_true rfl, Nat.le_of_ble_eq_true rfl⟩ hl.1 (Nat.le_of_ble_eq_true rfl) (g_182 (v := 60) bX5_row rfl) ⟨Nat.le_of_ble_eq_true rfl, Nat.le_of_ble_eq_true rfl⟩ (fun u_23 H locs h_22 => ?_)
        clear hP hD hS
        intro hP hD hS
        have hPD := pd_eq [_, _, _, zzI cy qsh 8 (upd fH k_4 (nI k_10)), zzI cy qss 8 (upd fS k_4 (nI k_17)), zzJ cy qse 320 (zrF gE k_4 k_17)] hP hD h_22 rfl
        clear hP hD h_22
        obtain ⟨hP, hD⟩ := hPD
        refine lv_iconst (v := 1) hx hb (g_4 bX5_row rfl) (by decide +kernel) ?_
        exact endWs [[true, true, true, true, true, true]] hx hb hr hlocks rfl hP hD rfl (by decide +kernel) hS ⟨fR, upd fH k_4 (nI k_10), upd fS k_4 (nI k_17), zrF gE k_4 k_17, rfl, Or.inr ⟨rfl, k_4, k_17, hk_5, hk_19, rfl, rfl, h_9, rfl, rfl, rfl⟩, trivial⟩ (g_172 bX5_row rfl)
      · refine lv_if_ne (tgt := 38) hx hb dX5_row_28 (by decide +kernel) (fun h9 => absurd (by decide +kernel) h9) (fun _ => ?_)
        refine lv_aload_n hx hb (g_42 bX5_row rfl) rfl (lv_at hl 0 rfl) ?_
        refine lv_bipush (v := (-2)) hx hb dX5_row_32 (by decide +kernel) ?_
        refine cVi (As := [.int (-2)]) (rest := []) (b := qx) (q := (RX5, TX5, 9)) ⟨hx, hb, hml, hown, hts⟩ (c_X5_refuse2 l G cy (s.heap).size qx qt qk qp qs qa qr iKp iYe iTv fR) L_X5_56 hN hP hD hS hA [0, 1] [false, false, true, true, true, true] rfl (by decide +kernel) rfl 0 4 rfl rfl rfl ⟨Nat.le_of_ble_eq_true rfl, Nat.le_of_ble_eq_true rfl⟩ hl.1 (Nat.le_of_ble_eq_true rfl) (g_182 (v := 56) bX5_row rfl) ⟨Nat.le_of_ble_eq_true rfl, Nat.le_of_ble_eq_true rfl⟩ (fun r_25 u_27 H locs h_26 => ?_)
        clear hP hD hS
        intro hP hD hS
        obtain ⟨fX_28, hu9, h_26⟩ := h_26
        have hPD := pd_eq [_, _, _, _, _, zzI cy qr 5 fX_28] hP hD hu9 rfl
        clear hP hD hu9
        obtain ⟨hP, hD⟩ := hPD
        subst h_26
        exact endWs [[false, false, false, false, true, true], [true, true, true, true]] hx hb hr hlocks rfl hP hD rfl (by decide +kernel) hS ⟨fX_28, fH, fS, gE, rfl, Or.inl ⟨rfl, (fun q => h_16 (q.2.2)), rfl, rfl, rfl⟩, trivial⟩ (g_172 bX5_row rfl)
    · refine lv_if_eq (tgt := 31) hx hb dX5_row_16 (by decide +kernel) (fun _ => ?_) (fun h9 => absurd (by decide +kernel) h9)
      refine lv_aload_n hx hb (g_42 bX5_row rfl) rfl (lv_at hl 0 rfl) ?_
      refine lv_bipush (v := (-2)) hx hb dX5_row_32 (by decide +kernel) ?_
      refine cVi (As := [.int (-2)]) (rest := []) (b := qx) (q := (RX5, TX5, 9)) ⟨hx, hb, hml, hown, hts⟩ (c_X5_refuse2 l G cy (s.heap).size qx qt qk qp qs qa qr iKp iYe iTv fR) L_X5_56 hN hP hD hS hA [0, 1] [false, false, true, true, true, true] rfl (by decide +kernel) rfl 0 4 rfl rfl rfl ⟨Nat.le_of_ble_eq_true rfl, Nat.le_of_ble_eq_true rfl⟩ hl.1 (Nat.le_of_ble_eq_true rfl) (g_182 (v := 56) bX5_row rfl) ⟨Nat.le_of_ble_eq_true rfl, Nat.le_of_ble_eq_true rfl⟩ (fun r_30 u_32 H locs h_31 => ?_)
      clear hP hD hS
      intro hP hD hS
      obtain ⟨fX_33, hu9, h_31⟩ := h_31
      have hPD := pd_eq [_, _, _, _, _, zzI cy qr 5 fX_33] hP hD hu9 rfl
      clear hP hD hu9
      obtain ⟨hP, hD⟩ := hPD
      subst h_31
      exact endWs [[false, false, false, false, true, true], [true, true, true, true]] hx hb hr hlocks rfl hP hD rfl (by decide +kernel) hS ⟨fX_33, fH, fS, gE, rfl, Or.inl ⟨rfl, (fun q => h_9 (q.2.1)), rfl, rfl, rfl⟩, trivial⟩ (g_172 bX5_row rfl)
  · refine lv_if_eq (tgt := 31) hx hb dX5_row_4 (by decide +kernel) (fun _ => ?_) (fun h9 => absurd (by decide +kernel) h9)
    refine lv_aload_n hx hb (g_42 bX5_row rfl) rfl (lv_at hl 0 rfl) ?_
    refine lv_bipush (v := (-2)) hx hb dX5_row_32 (by decide +kernel) ?_
    refine cVi (As := [.int (-2)]) (rest := []) (b := qx) (q := (RX5, TX5, 9)) ⟨hx, hb, hml, hown, hts⟩ (c_X5_refuse2 l G cy (s.heap).size qx qt qk qp qs qa qr iKp iYe iTv fR) L_X5_56 hN hP hD hS hA [0, 1] [false, false, true, true, true, true] rfl (by decide +kernel) rfl 0 4 rfl rfl rfl ⟨Nat.le_of_ble_eq_true rfl, Nat.le_of_ble_eq_true rfl⟩ hl.1 (Nat.le_of_ble_eq_true rfl) (g_182 (v := 56) bX5_row rfl) ⟨Nat.le_of_ble_eq_true rfl, Nat.le_of_ble_eq_true rfl⟩ (fun r_35 u_37 H locs h_36 => ?_)
    clear hP hD hS
    intro hP hD hS
    obtain ⟨fX_38, hu9, h_36⟩ := h_36
    have hPD := pd_eq [_, _, _, _, _, zzI cy qr 5 fX_38] hP hD hu9 rfl
    clear hP hD hu9
    obtain ⟨hP, hD⟩ := hPD
    subst h_36
    exact endWs [[false, false, false, false, true, true], [true, true, true, true]] hx hb hr hlocks rfl hP hD rfl (by decide +kernel) hS ⟨fX_38, fH, fS, gE, rfl, Or.inl ⟨rfl, (fun q => h_3 (q.1)), rfl, rfl, rfl⟩, trivial⟩ (g_172 bX5_row rfl)
set_option maxHeartbeats 4000000 in
set_option maxRecDepth 100000 in
theorem p_X5_set (l : Launch) (G : va_G) (cy : Nat → ClassId) (sz : Nat) (qx : Nat) (qt : Nat) (qk : Nat) (qp : Nat) (qs : Nat) (qa : Nat) (qr : Nat) (iKp : Int32) (iYe : Int32) (iTv : Int32) (fR : Nat → Int32) (qsh : Nat) (qss : Nat) (qsa : Nat) (qse : Nat) (fH : Nat → Int32) (fS : Nat → Int32) (gE : Nat → Int64) (iA : Int32) (iB : Int32) (J1 : Int64)  (hSz : ∀ s, s < 8 → ∃ n : Nat, n ≤ 40 ∧ fS s = nI n) : MW l yX5_set cX5_set 6 (some .int) 12 0 0 G cy [zzO qx 4 [.ref qt, .ref qk, .ref qp, .ref qs, .ref qa, .ref qr, .int iKp, .int iYe, .int iTv], zzI cy qr 5 fR, zzO qs 1 [.ref qsh, .ref qss, .ref qsa, .ref qse], zzI cy qsh 8 fH, zzI cy qss 8 fS, zzJ cy qse 320 gE] sz [.ref qx, .int iA, .int iB, .long J1] (Wi G (fun r u => ∃ (fX : Nat → Int32) (gX : Nat → Int64), u = [zzO qx 4 [.ref qt, .ref qk, .ref qp, .ref qs, .ref qa, .ref qr, .int iKp, .int iYe, .int iTv], zzI cy qr 5 fX, zzO qs 1 [.ref qsh, .ref qss, .ref qsa, .ref qse], zzI cy qsh 8 fH, zzI cy qss 8 fS, zzJ cy qse 320 gX] ∧ (PXset fH fS gE iA iB J1 r gX) ∧ (True))) := by
  refine enW RX5 (by decide +kernel) rfl (Nat.le_of_ble_eq_true rfl) (fun p e s m below meth c ls A hx hb hml hown hts hr hlocks hP hN hl hin hD hA hS => ?_)
  have hin : meth.name = _ := hin
  have hK := hN.1
  replace hl : lv_has ls 6 [(0, .ref qx), (1, .int iA), (2, .int iB), (3, .long J1)] := hl
  refine lv_aload_n hx hb (g_42 bX5_set rfl) rfl (lv_at hl 0 rfl) ?_
  refine lv_iload_n hx hb (g_27 bX5_set rfl) rfl (lv_at hl 1 rfl) ?_
  refine kRi (rV (As := [.int iA]) (rest := []) (b := qx) ⟨hx, hb, hml, hown, hts⟩ (c_X5_rowFit l G cy qx qt qk qp qs qa qr iKp iYe iTv qsh qss qsa qse fH iA) L_X5_64 (preRV (q := (RX5, TX5, 9)) hN hP (trueIx 0 [true, false, true, true]) (sel_fm rfl rfl) 0 4 rfl rfl) rfl ⟨Nat.le_of_ble_eq_true rfl, Nat.le_of_ble_eq_true rfl⟩ hl.1 (Nat.le_of_ble_eq_true rfl) (g_182 (v := 64) bX5_set rfl) ⟨Nat.le_of_ble_eq_true rfl, Nat.le_of_ble_eq_true rfl⟩) (fun r_1 h_2 => ?_)
  rcases h_2 with ⟨rfl, h_3⟩ | ⟨rfl, h_3⟩ | ⟨rfl, h_3⟩ | ⟨rfl, h_3⟩
  · refine lv_istore (lv' := [(5, .int (-2)), (0, .ref qx), (1, .int iA), (2, .int iB), (3, .long J1)]) hx hb (g_54 (v := 5) bX5_set rfl) hl (by decide +kernel) rfl (fun ls => ?_)
    clear hl
    intro hl
    refine lv_iload hx hb (g_21 (v := 5) bX5_set rfl) (lv_at hl 0 rfl) ?_
    refine lv_if_ne (tgt := 37) hx hb dX5_set_9 (by decide +kernel) (fun _ => ?_) (fun h9 => absurd h9 (by decide +kernel))
    refine lv_iload hx hb (g_21 (v := 5) bX5_set rfl) (lv_at hl 0 rfl) ?_
    refine lv_if_eq (tgt := 49) hx hb dX5_set_39 (by decide +kernel) (fun h9 => absurd h9 (by decide +kernel)) (fun _ => ?_)
    refine lv_aload_n hx hb (g_42 bX5_set rfl) rfl (lv_at hl 1 rfl) ?_
    refine lv_iload hx hb (g_21 (v := 5) bX5_set rfl) (lv_at hl 0 rfl) ?_
    refine cVi (As := [.int (-2)]) (rest := []) (b := qx) (q := (RX5, TX5, 9)) ⟨hx, hb, hml, hown, hts⟩ (c_X5_refuse2 l G cy (s.heap).size qx qt qk qp qs qa qr iKp iYe iTv fR) L_X5_56 hN hP hD hS hA [0, 1] [false, false, true, true, true, true] rfl (by decide +kernel) rfl 0 4 rfl rfl rfl ⟨Nat.le_of_ble_eq_true rfl, Nat.le_of_ble_eq_true rfl⟩ hl.1 (Nat.le_of_ble_eq_true rfl) (g_182 (v := 56) bX5_set rfl) ⟨Nat.le_of_ble_eq_true rfl, Nat.le_of_ble_eq_true rfl⟩ (fun r_6 u_8 H locs h_7 => ?_)
    clear hP hD hS
    intro hP hD hS
    obtain ⟨fX_9, hu9, h_7⟩ := h_7
    have hPD := pd_eq [_, _, _, _, _, zzI cy qr 5 fX_9] hP hD hu9 rfl
    clear hP hD hu9
    obtain ⟨hP, hD⟩ := hPD
    subst h_7
    exact endWs [[false, false, false, false, true, true], [true, true, true, true]] hx hb hr hlocks rfl hP hD rfl (by decide +kernel) hS ⟨fX_9, gE, rfl, Or.inl ⟨rfl, Or.inl h_3, rfl⟩, trivial⟩ (g_172 bX5_set rfl)
  · obtain ⟨k_10, hk_11, rfl, h_12⟩ := h_3
    refine lv_istore (lv' := [(5, .int (-3)), (0, .ref qx), (1, .int (nI k_10)), (2, .int iB), (3, .long J1)]) hx hb (g_54 (v := 5) bX5_set rfl) hl (by decide +kernel) rfl (fun ls => ?_)
    clear hl
    intro hl
    refine lv_iload hx hb (g_21 (v := 5) bX5_set rfl) (lv_at hl 0 rfl) ?_
    refine lv_if_ne (tgt := 37) hx hb dX5_set_9 (by decide +kernel) (fun _ => ?_) (fun h9 => absurd h9 (by decide +kernel))
    refine lv_iload hx hb (g_21 (v := 5) bX5_set rfl) (lv_at hl 0 rfl) ?_
    refine lv_if_eq (tgt := 49) hx hb dX5_set_39 (by decide +kernel) (fun h9 => absurd h9 (by decide +kernel)) (fun _ => ?_)
    refine lv_aload_n hx hb (g_42 bX5_set rfl) rfl (lv_at hl 1 rfl) ?_
    refine lv_iload hx hb (g_21 (v := 5) bX5_set rfl) (lv_at hl 0 rfl) ?_
    refine cVi (As := [.int (-3)]) (rest := []) (b := qx) (q := (RX5, TX5, 9)) ⟨hx, hb, hml, hown, hts⟩ (c_X5_refuse3 l G cy (s.heap).size qx qt qk qp qs qa qr iKp iYe iTv fR) L_X5_56 hN hP hD hS hA [0, 1] [false, false, true, true, true, true] rfl (by decide +kernel) rfl 0 4 rfl rfl rfl ⟨Nat.le_of_ble_eq_true rfl, Nat.le_of_ble_eq_true rfl⟩ hl.1 (Nat.le_of_ble_eq_true rfl) (g_182 (v := 56) bX5_set rfl) ⟨Nat.le_of_ble_eq_true rfl, Nat.le_of_ble_eq_true rfl⟩ (fun r_15 u_17 H locs h_16 => ?_)
    clear hP hD hS
    intro hP hD hS
    obtain ⟨fX_18, hu9, h_16⟩ := h_16
    have hPD := pd_eq [_, _, _, _, _, zzI cy qr 5 fX_18] hP hD hu9 rfl
    clear hP hD hu9
    obtain ⟨hP, hD⟩ := hPD
    subst h_16
    exact endWs [[false, false, false, false, true, true], [true, true, true, true]] hx hb hr hlocks rfl hP hD rfl (by decide +kernel) hS ⟨fX_18, gE, rfl, Or.inr (Or.inl ⟨rfl, ⟨k_10, hk_11, rfl, h_12⟩, rfl⟩), trivial⟩ (g_172 bX5_set rfl)
  · obtain ⟨k_19, hk_20, rfl, h_21, h_22⟩ := h_3
    refine lv_istore (lv' := [(5, .int 0), (0, .ref qx), (1, .int (nI k_19)), (2, .int iB), (3, .long J1)]) hx hb (g_54 (v := 5) bX5_set rfl) hl (by decide +kernel) rfl (fun ls => ?_)
    clear hl
    intro hl
    refine lv_iload hx hb (g_21 (v := 5) bX5_set rfl) (lv_at hl 0 rfl) ?_
    refine lv_if_ne (tgt := 37) hx hb dX5_set_9 (by decide +kernel) (fun h9 => absurd (by decide +kernel) h9) (fun _ => ?_)
    refine lv_iload_n hx hb (g_28 bX5_set rfl) rfl (lv_at hl 3 rfl) ?_
    refine lv_i2l (v := iB.toInt64) hx hb (g_133 bX5_set rfl) rfl ?_
    refine lv_lconst (v := 0) hx hb (g_9 bX5_set rfl) (by decide +kernel) ?_
    refine lv_aload_n hx hb (g_42 bX5_set rfl) rfl (lv_at hl 1 rfl) ?_
    refine va_get (D := G) (ci := 4) (v := .ref qs) (C := RX5) (T := TX5) (N := 9) hx hb hts iX_X5 hown hK hP 0 rfl rfl 3 (by decide +kernel) (hts _ m_t177) (fun _ h9 => h9) rfl (g_180 (v := 29) bX5_set rfl) ?_
    refine va_getN (D := G) (ci := 1) (v := .ref qss) (C := RX2) (T := TX2) (N := 4) hx hb hts iX_X2 hown hK hP 2 rfl rfl 1 (by decide +kernel) (va_Nw.use rfl (hN.2.1 (RX5, 67, "EachBookOnce$Shelves", "size", "[I") (List.mem_of_getElem? (i := 27) rfl))) (fun _ h9 => h9) rfl (g_180 (v := 67) bX5_set rfl) ?_
    refine lv_iload_n hx hb (g_27 bX5_set rfl) rfl (lv_at hl 2 rfl) ?_
    refine va_iald hx hb hK hP 4 0 rfl rfl (in8 (by omega)) (g_46 bX5_set rfl) ?_
    refine lv_seti (v := fS k_19) (congrArg fS (cl8 (by omega))) ?_
    refine lv_iconst (v := 1) hx hb (g_4 bX5_set rfl) (by decide +kernel) ?_
    refine lv_isub hx hb (g_100 bX5_set rfl) ?_
    refine lv_i2l (v := ((fS k_19) - 1).toInt64) hx hb (g_133 bX5_set rfl) rfl ?_
    refine kRi (rS (As := [.long iB.toInt64, .long 0, .long (((fS k_19) - 1).toInt64)]) (rest := []) ⟨hx, hb, hml, hown, hts⟩ (c_X5_within l G cy iB.toInt64 0 (((fS k_19) - 1).toInt64)) L_X5_50 (preRS hN hP [] rfl) rfl ⟨Nat.le_of_ble_eq_true rfl, Nat.le_of_ble_eq_true rfl⟩ hl.1 (Nat.le_of_ble_eq_true rfl) (g_184 (v := 50) bX5_set rfl) ⟨Nat.le_of_ble_eq_true rfl, Nat.le_of_ble_eq_true rfl⟩) (fun r_24 h_25 => ?_)
    rcases h_25 with ⟨rfl, h_26⟩ | ⟨rfl, h_26⟩
    · refine lv_if_ne (tgt := 37) hx hb dX5_set_30 (by decide +kernel) (fun _ => ?_) (fun h9 => absurd h9 (by decide +kernel))
      refine lv_iload hx hb (g_21 (v := 5) bX5_set rfl) (lv_at hl 0 rfl) ?_
      refine lv_if_eq (tgt := 49) hx hb dX5_set_39 (by decide +kernel) (fun _ => ?_) (fun h9 => absurd (by decide +kernel) h9)
      refine lv_aload_n hx hb (g_42 bX5_set rfl) rfl (lv_at hl 1 rfl) ?_
      refine va_get (D := G) (ci := 4) (v := .ref qs) (C := RX5) (T := TX5) (N := 9) hx hb hts iX_X5 hown hK hP 0 rfl rfl 3 (by decide +kernel) (hts _ m_t177) (fun _ h9 => h9) rfl (g_180 (v := 29) bX5_set rfl) ?_
      refine lv_iload_n hx hb (g_27 bX5_set rfl) rfl (lv_at hl 2 rfl) ?_
      refine lv_iload_n hx hb (g_28 bX5_set rfl) rfl (lv_at hl 3 rfl) ?_
      refine lv_lload_n hx hb (g_33 bX5_set rfl) rfl (lv_at hl 4 rfl) ?_
      obtain ⟨n_29, hn_30, en_31⟩ := hSz k_19 hk_20
      obtain ⟨k_32, hk_33, rfl⟩ := sz_in en_31 hn_30 h_26
      refine cVv (As := [.int (nI k_19), .int (nI k_32), .long J1]) (rest := []) (b := qs) (q := (RX2, TX2, 4)) ⟨hx, hb, hml, hown, hts⟩ (c_X2_put l G cy (s.heap).size qs qsh qss qsa qse fH gE k_19 k_32 J1 (by first | omega | (simp only [nb_sr, np_sr, nb_wr, np_wr, nb_rd, np_rd, nb_ch, np_ch, nb_zr, np_zr, nb_za, np_za, nb_ey, np_ey, nb_hf, np_hf, nb_dd, np_dd, nb_so, np_so, nb_skn, np_skn, nb_swh, np_swh, nb_sgn, np_sgn, nb_ssd, np_ssd, nb_sgo, np_sgo, nb_sag, np_sag]; omega)) (by first | omega | (simp only [nb_sr, np_sr, nb_wr, np_wr, nb_rd, np_rd, nb_ch, np_ch, nb_zr, np_zr, nb_za, np_za, nb_ey, np_ey, nb_hf, np_hf, nb_dd, np_dd, nb_so, np_so, nb_skn, np_skn, nb_swh, np_swh, nb_sgn, np_sgn, nb_ssd, np_ssd, nb_sgo, np_sgo, nb_sag, np_sag]; omega))) L_X5_70 hN hP hD hS hA (trueIx 0 [false, false, true, true, false, true]) [true, true, false, false, true, false] (sel_eq rfl rfl) (by decide +kernel) rfl 2 1 rfl rfl rfl ⟨Nat.le_of_ble_eq_true rfl, Nat.le_of_ble_eq_true rfl⟩ hl.1 (Nat.le_of_ble_eq_true rfl) (g_182 (v := 70) bX5_set rfl) ⟨Nat.le_of_ble_eq_true rfl, Nat.le_of_ble_eq_true rfl⟩ (fun u_36 H locs h_35 => ?_)
      clear hP hD hS
      intro hP hD hS
      have hPD := pd_eq [_, _, _, _, _, zzJ cy qse 320 (vp_updL gE (k_19 * 40 + k_32) (zlb (fH k_19) J1))] hP hD h_35 rfl
      clear hP hD h_35
      obtain ⟨hP, hD⟩ := hPD
      refine lv_iconst (v := 1) hx hb (g_4 bX5_set rfl) (by decide +kernel) ?_
      exact endWs [[true, true, false, true, true], [false, false, true, false, false, true]] hx hb hr hlocks rfl hP hD rfl (by decide +kernel) hS ⟨fR, vp_updL gE (k_19 * 40 + k_32) (zlb (fH k_19) J1), rfl, Or.inr (Or.inr (Or.inr ⟨rfl, k_19, k_32, hk_20, rfl, h_21, h_22, by omega, rfl, h_26, rfl⟩)), trivial⟩ (g_172 bX5_set rfl)
    · refine lv_if_ne (tgt := 37) hx hb dX5_set_30 (by decide +kernel) (fun h9 => absurd (by decide +kernel) h9) (fun _ => ?_)
      refine lv_bipush (v := (-2)) hx hb dX5_set_33 (by decide +kernel) ?_
      refine lv_istore (lv' := [(5, .int (-2)), (0, .ref qx), (1, .int (nI k_19)), (2, .int iB), (3, .long J1)]) hx hb (g_54 (v := 5) bX5_set rfl) hl (by decide +kernel) rfl (fun ls => ?_)
      clear hl
      intro hl
      refine lv_iload hx hb (g_21 (v := 5) bX5_set rfl) (lv_at hl 0 rfl) ?_
      refine lv_if_eq (tgt := 49) hx hb dX5_set_39 (by decide +kernel) (fun h9 => absurd h9 (by decide +kernel)) (fun _ => ?_)
      refine lv_aload_n hx hb (g_42 bX5_set rfl) rfl (lv_at hl 1 rfl) ?_
      refine lv_iload hx hb (g_21 (v := 5) bX5_set rfl) (lv_at hl 0 rfl) ?_
      refine cVi (As := [.int (-2)]) (rest := []) (b := qx) (q := (RX5, TX5, 9)) ⟨hx, hb, hml, hown, hts⟩ (c_X5_refuse2 l G cy (s.heap).size qx qt qk qp qs qa qr iKp iYe iTv fR) L_X5_56 hN hP hD hS hA [0, 1] [false, false, true, true, true, true] rfl (by decide +kernel) rfl 0 4 rfl rfl rfl ⟨Nat.le_of_ble_eq_true rfl, Nat.le_of_ble_eq_true rfl⟩ hl.1 (Nat.le_of_ble_eq_true rfl) (g_182 (v := 56) bX5_set rfl) ⟨Nat.le_of_ble_eq_true rfl, Nat.le_of_ble_eq_true rfl⟩ (fun r_39 u_41 H locs h_40 => ?_)
      clear hP hD hS
      intro hP hD hS
      obtain ⟨fX_42, hu9, h_40⟩ := h_40
      have hPD := pd_eq [_, _, _, _, _, zzI cy qr 5 fX_42] hP hD hu9 rfl
      clear hP hD hu9
      obtain ⟨hP, hD⟩ := hPD
      subst h_40
      exact endWs [[false, false, false, false, true, true], [true, true, true, true]] hx hb hr hlocks rfl hP hD rfl (by decide +kernel) hS ⟨fX_42, gE, rfl, Or.inl ⟨rfl, Or.inr ⟨k_19, hk_20, rfl, h_21, h_22, h_26⟩, rfl⟩, trivial⟩ (g_172 bX5_set rfl)
  · obtain ⟨k_43, hk_44, rfl, h_45, h_46⟩ := h_3
    refine lv_istore (lv' := [(5, .int (-4)), (0, .ref qx), (1, .int (nI k_43)), (2, .int iB), (3, .long J1)]) hx hb (g_54 (v := 5) bX5_set rfl) hl (by decide +kernel) rfl (fun ls => ?_)
    clear hl
    intro hl
    refine lv_iload hx hb (g_21 (v := 5) bX5_set rfl) (lv_at hl 0 rfl) ?_
    refine lv_if_ne (tgt := 37) hx hb dX5_set_9 (by decide +kernel) (fun _ => ?_) (fun h9 => absurd h9 (by decide +kernel))
    refine lv_iload hx hb (g_21 (v := 5) bX5_set rfl) (lv_at hl 0 rfl) ?_
    refine lv_if_eq (tgt := 49) hx hb dX5_set_39 (by decide +kernel) (fun h9 => absurd h9 (by decide +kernel)) (fun _ => ?_)
    refine lv_aload_n hx hb (g_42 bX5_set rfl) rfl (lv_at hl 1 rfl) ?_
    refine lv_iload hx hb (g_21 (v := 5) bX5_set rfl) (lv_at hl 0 rfl) ?_
    refine cVi (As := [.int (-4)]) (rest := []) (b := qx) (q := (RX5, TX5, 9)) ⟨hx, hb, hml, hown, hts⟩ (c_X5_refuse4 l G cy (s.heap).size qx qt qk qp qs qa qr iKp iYe iTv fR) L_X5_56 hN hP hD hS hA [0, 1] [false, false, true, true, true, true] rfl (by decide +kernel) rfl 0 4 rfl rfl rfl ⟨Nat.le_of_ble_eq_true rfl, Nat.le_of_ble_eq_true rfl⟩ hl.1 (Nat.le_of_ble_eq_true rfl) (g_182 (v := 56) bX5_set rfl) ⟨Nat.le_of_ble_eq_true rfl, Nat.le_of_ble_eq_true rfl⟩ (fun r_49 u_51 H locs h_50 => ?_)
    clear hP hD hS
    intro hP hD hS
    obtain ⟨fX_52, hu9, h_50⟩ := h_50
    have hPD := pd_eq [_, _, _, _, _, zzI cy qr 5 fX_52] hP hD hu9 rfl
    clear hP hD hu9
    obtain ⟨hP, hD⟩ := hPD
    subst h_50
    exact endWs [[false, false, false, false, true, true], [true, true, true, true]] hx hb hr hlocks rfl hP hD rfl (by decide +kernel) hS ⟨fX_52, gE, rfl, Or.inr (Or.inr (Or.inl ⟨rfl, ⟨k_43, hk_44, rfl, h_45, h_46⟩, rfl⟩)), trivial⟩ (g_172 bX5_set rfl)
set_option maxHeartbeats 4000000 in
set_option maxRecDepth 100000 in
theorem p_X5_copy (l : Launch) (G : va_G) (cy : Nat → ClassId) (sz : Nat) (qx : Nat) (qt : Nat) (qk : Nat) (qp : Nat) (qs : Nat) (qa : Nat) (qr : Nat) (iKp : Int32) (iYe : Int32) (iTv : Int32) (fR : Nat → Int32) (qsh : Nat) (qss : Nat) (qsa : Nat) (qse : Nat) (fH : Nat → Int32) (fS : Nat → Int32) (gE : Nat → Int64) (iA : Int32) (iB : Int32) (iC : Int32) (iD : Int32) (iE : Int32)  (hSz : ∀ s, s < 8 → ∃ n : Nat, n ≤ 40 ∧ fS s = nI n) : MW l yX5_copy cX5_copy 7 (some .int) 12 0 0 G cy [zzO qx 4 [.ref qt, .ref qk, .ref qp, .ref qs, .ref qa, .ref qr, .int iKp, .int iYe, .int iTv], zzI cy qr 5 fR, zzO qs 1 [.ref qsh, .ref qss, .ref qsa, .ref qse], zzI cy qsh 8 fH, zzI cy qss 8 fS, zzJ cy qse 320 gE] sz [.ref qx, .int iA, .int iB, .int iC, .int iD, .int iE] (Wi G (fun r u => ∃ (fX : Nat → Int32) (gX : Nat → Int64), u = [zzO qx 4 [.ref qt, .ref qk, .ref qp, .ref qs, .ref qa, .ref qr, .int iKp, .int iYe, .int iTv], zzI cy qr 5 fX, zzO qs 1 [.ref qsh, .ref qss, .ref qsa, .ref qse], zzI cy qsh 8 fH, zzI cy qss 8 fS, zzJ cy qse 320 gX] ∧ (PXcopy fH fS gE iA iB iC iD iE r gX) ∧ (True))) := by
  refine enW RX5 (by decide +kernel) rfl (Nat.le_of_ble_eq_true rfl) (fun p e s m below meth c ls A hx hb hml hown hts hr hlocks hP hN hl hin hD hA hS => ?_)
  have hin : meth.name = _ := hin
  have hK := hN.1
  replace hl : lv_has ls 7 [(0, .ref qx), (1, .int iA), (2, .int iB), (3, .int iC), (4, .int iD), (5, .int iE)] := hl
  refine lv_aload_n hx hb (g_42 bX5_copy rfl) rfl (lv_at hl 0 rfl) ?_
  refine lv_iload_n hx hb (g_27 bX5_copy rfl) rfl (lv_at hl 1 rfl) ?_
  refine lv_iload_n hx hb (g_28 bX5_copy rfl) rfl (lv_at hl 2 rfl) ?_
  refine kRi (rV (As := [.int iA, .int iB]) (rest := []) (b := qx) ⟨hx, hb, hml, hown, hts⟩ (c_X5_copyFit l G cy qx qt qk qp qs qa qr iKp iYe iTv qsh qss qsa qse fH iA iB) L_X5_74 (preRV (q := (RX5, TX5, 9)) hN hP (trueIx 0 [true, false, true, true]) (sel_fm rfl rfl) 0 4 rfl rfl) rfl ⟨Nat.le_of_ble_eq_true rfl, Nat.le_of_ble_eq_true rfl⟩ hl.1 (Nat.le_of_ble_eq_true rfl) (g_182 (v := 74) bX5_copy rfl) ⟨Nat.le_of_ble_eq_true rfl, Nat.le_of_ble_eq_true rfl⟩) (fun r_1 h_2 => ?_)
  rcases h_2 with ⟨rfl, h_3⟩ | ⟨rfl, h_3⟩ | ⟨rfl, h_3⟩ | ⟨rfl, h_3⟩
  · refine lv_istore (lv' := [(6, .int (-2)), (0, .ref qx), (1, .int iA), (2, .int iB), (3, .int iC), (4, .int iD), (5, .int iE)]) hx hb (g_54 (v := 6) bX5_copy rfl) hl (by decide +kernel) rfl (fun ls => ?_)
    clear hl
    intro hl
    refine lv_iload hx hb (g_21 (v := 6) bX5_copy rfl) (lv_at hl 0 rfl) ?_
    refine lv_if_ne (tgt := 40) hx hb dX5_copy_10 (by decide +kernel) (fun _ => ?_) (fun h9 => absurd h9 (by decide +kernel))
    refine lv_iload hx hb (g_21 (v := 6) bX5_copy rfl) (lv_at hl 0 rfl) ?_
    refine lv_if_eq (tgt := 52) hx hb dX5_copy_42 (by decide +kernel) (fun h9 => absurd h9 (by decide +kernel)) (fun _ => ?_)
    refine lv_aload_n hx hb (g_42 bX5_copy rfl) rfl (lv_at hl 1 rfl) ?_
    refine lv_iload hx hb (g_21 (v := 6) bX5_copy rfl) (lv_at hl 0 rfl) ?_
    refine cVi (As := [.int (-2)]) (rest := []) (b := qx) (q := (RX5, TX5, 9)) ⟨hx, hb, hml, hown, hts⟩ (c_X5_refuse2 l G cy (s.heap).size qx qt qk qp qs qa qr iKp iYe iTv fR) L_X5_56 hN hP hD hS hA [0, 1] [false, false, true, true, true, true] rfl (by decide +kernel) rfl 0 4 rfl rfl rfl ⟨Nat.le_of_ble_eq_true rfl, Nat.le_of_ble_eq_true rfl⟩ hl.1 (Nat.le_of_ble_eq_true rfl) (g_182 (v := 56) bX5_copy rfl) ⟨Nat.le_of_ble_eq_true rfl, Nat.le_of_ble_eq_true rfl⟩ (fun r_6 u_8 H locs h_7 => ?_)
    clear hP hD hS
    intro hP hD hS
    obtain ⟨fX_9, hu9, h_7⟩ := h_7
    have hPD := pd_eq [_, _, _, _, _, zzI cy qr 5 fX_9] hP hD hu9 rfl
    clear hP hD hu9
    obtain ⟨hP, hD⟩ := hPD
    subst h_7
    exact endWs [[false, false, false, false, true, true], [true, true, true, true]] hx hb hr hlocks rfl hP hD rfl (by decide +kernel) hS ⟨fX_9, gE, rfl, Or.inl ⟨rfl, Or.inl h_3, rfl⟩, trivial⟩ (g_172 bX5_copy rfl)
  · refine lv_istore (lv' := [(6, .int 0), (0, .ref qx), (1, .int iA), (2, .int iB), (3, .int iC), (4, .int iD), (5, .int iE)]) hx hb (g_54 (v := 6) bX5_copy rfl) hl (by decide +kernel) rfl (fun ls => ?_)
    clear hl
    intro hl
    refine lv_iload hx hb (g_21 (v := 6) bX5_copy rfl) (lv_at hl 0 rfl) ?_
    refine lv_if_ne (tgt := 40) hx hb dX5_copy_10 (by decide +kernel) (fun h9 => absurd (by decide +kernel) h9) (fun _ => ?_)
    obtain ⟨k_11, k_12, hk_13, hk_14, rfl, rfl, h_15, h_16, h_17⟩ := h_3
    refine lv_aload_n hx hb (g_42 bX5_copy rfl) rfl (lv_at hl 1 rfl) ?_
    refine lv_iload_n hx hb (g_27 bX5_copy rfl) rfl (lv_at hl 2 rfl) ?_
    refine lv_iload_n hx hb (g_29 bX5_copy rfl) rfl (lv_at hl 4 rfl) ?_
    refine lv_iload hx hb (g_21 (v := 5) bX5_copy rfl) (lv_at hl 6 rfl) ?_
    refine kRi (rV (As := [.int (nI k_11), .int iC, .int iE]) (rest := []) (b := qx) ⟨hx, hb, hml, hown, hts⟩ (c_X5_hasSpan l G cy qx qt qk qp qs qa qr iKp iYe iTv qsh qss qsa qse fS k_11 iC iE (by first | omega | (simp only [nb_sr, np_sr, nb_wr, np_wr, nb_rd, np_rd, nb_ch, np_ch, nb_zr, np_zr, nb_za, np_za, nb_ey, np_ey, nb_hf, np_hf, nb_dd, np_dd, nb_so, np_so, nb_skn, np_skn, nb_swh, np_swh, nb_sgn, np_sgn, nb_ssd, np_ssd, nb_sgo, np_sgo, nb_sag, np_sag]; omega))) L_X5_78 (preRV (q := (RX5, TX5, 9)) hN hP (trueIx 0 [true, false, true, false, true]) (sel_fm rfl rfl) 0 4 rfl rfl) rfl ⟨Nat.le_of_ble_eq_true rfl, Nat.le_of_ble_eq_true rfl⟩ hl.1 (Nat.le_of_ble_eq_true rfl) (g_182 (v := 78) bX5_copy rfl) ⟨Nat.le_of_ble_eq_true rfl, Nat.le_of_ble_eq_true rfl⟩) (fun r_18 h_19 => ?_)
    rcases h_19 with ⟨rfl, h_20⟩ | ⟨rfl, h_20⟩
    · refine lv_if_eq (tgt := 36) hx hb dX5_copy_21 (by decide +kernel) (fun h9 => absurd h9 (by decide +kernel)) (fun _ => ?_)
      refine lv_aload_n hx hb (g_42 bX5_copy rfl) rfl (lv_at hl 1 rfl) ?_
      refine lv_iload_n hx hb (g_28 bX5_copy rfl) rfl (lv_at hl 3 rfl) ?_
      refine lv_iload hx hb (g_21 (v := 4) bX5_copy rfl) (lv_at hl 5 rfl) ?_
      refine lv_iload hx hb (g_21 (v := 5) bX5_copy rfl) (lv_at hl 6 rfl) ?_
      refine kRi (rV (As := [.int (nI k_12), .int iD, .int iE]) (rest := []) (b := qx) ⟨hx, hb, hml, hown, hts⟩ (c_X5_hasSpan l G cy qx qt qk qp qs qa qr iKp iYe iTv qsh qss qsa qse fS k_12 iD iE (by first | omega | (simp only [nb_sr, np_sr, nb_wr, np_wr, nb_rd, np_rd, nb_ch, np_ch, nb_zr, np_zr, nb_za, np_za, nb_ey, np_ey, nb_hf, np_hf, nb_dd, np_dd, nb_so, np_so, nb_skn, np_skn, nb_swh, np_swh, nb_sgn, np_sgn, nb_ssd, np_ssd, nb_sgo, np_sgo, nb_sag, np_sag]; omega))) L_X5_78 (preRV (q := (RX5, TX5, 9)) hN hP (trueIx 0 [true, false, true, false, true]) (sel_fm rfl rfl) 0 4 rfl rfl) rfl ⟨Nat.le_of_ble_eq_true rfl, Nat.le_of_ble_eq_true rfl⟩ hl.1 (Nat.le_of_ble_eq_true rfl) (g_182 (v := 78) bX5_copy rfl) ⟨Nat.le_of_ble_eq_true rfl, Nat.le_of_ble_eq_true rfl⟩) (fun r_22 h_23 => ?_)
      rcases h_23 with ⟨rfl, h_24⟩ | ⟨rfl, h_24⟩
      · refine lv_if_ne (tgt := 40) hx hb dX5_copy_33 (by decide +kernel) (fun _ => ?_) (fun h9 => absurd h9 (by decide +kernel))
        refine lv_iload hx hb (g_21 (v := 6) bX5_copy rfl) (lv_at hl 0 rfl) ?_
        refine lv_if_eq (tgt := 52) hx hb dX5_copy_42 (by decide +kernel) (fun _ => ?_) (fun h9 => absurd (by decide +kernel) h9)
        refine lv_aload_n hx hb (g_42 bX5_copy rfl) rfl (lv_at hl 1 rfl) ?_
        refine va_get (D := G) (ci := 4) (v := .ref qs) (C := RX5) (T := TX5) (N := 9) hx hb hts iX_X5 hown hK hP 0 rfl rfl 3 (by decide +kernel) (hts _ m_t177) (fun _ h9 => h9) rfl (g_180 (v := 29) bX5_copy rfl) ?_
        refine lv_iload_n hx hb (g_27 bX5_copy rfl) rfl (lv_at hl 2 rfl) ?_
        refine lv_iload_n hx hb (g_28 bX5_copy rfl) rfl (lv_at hl 3 rfl) ?_
        refine lv_iload_n hx hb (g_29 bX5_copy rfl) rfl (lv_at hl 4 rfl) ?_
        refine lv_iload hx hb (g_21 (v := 4) bX5_copy rfl) (lv_at hl 5 rfl) ?_
        refine lv_iload hx hb (g_21 (v := 5) bX5_copy rfl) (lv_at hl 6 rfl) ?_
        obtain ⟨n_27, hn_28, en_29⟩ := hSz k_11 hk_13
        obtain ⟨n_30, hn_31, en_32⟩ := hSz k_12 hk_14
        obtain ⟨k_33, k_34, hk_35, rfl, rfl⟩ := spn_of en_29 hn_28 h_20
        obtain ⟨k_36, k_37, hk_38, rfl, e_39⟩ := spn_of en_32 hn_31 h_24
        have e_40 : k_34 = k_37 := nI_inj (by omega) (by omega) e_39
        subst e_40
        refine cVv (As := [.int (nI k_11), .int (nI k_12), .int (nI k_33), .int (nI k_36), .int (nI k_34)]) (rest := []) (b := qs) (q := (RX2, TX2, 4)) ⟨hx, hb, hml, hown, hts⟩ (c_X2_move l G cy (s.heap).size qs qsh qss qsa qse gE k_11 k_12 k_33 k_36 k_34 (by first | omega | (simp only [nb_sr, np_sr, nb_wr, np_wr, nb_rd, np_rd, nb_ch, np_ch, nb_zr, np_zr, nb_za, np_za, nb_ey, np_ey, nb_hf, np_hf, nb_dd, np_dd, nb_so, np_so, nb_skn, np_skn, nb_swh, np_swh, nb_sgn, np_sgn, nb_ssd, np_ssd, nb_sgo, np_sgo, nb_sag, np_sag]; omega)) (by first | omega | (simp only [nb_sr, np_sr, nb_wr, np_wr, nb_rd, np_rd, nb_ch, np_ch, nb_zr, np_zr, nb_za, np_za, nb_ey, np_ey, nb_hf, np_hf, nb_dd, np_dd, nb_so, np_so, nb_skn, np_skn, nb_swh, np_swh, nb_sgn, np_sgn, nb_ssd, np_ssd, nb_sgo, np_sgo, nb_sag, np_sag]; omega)) (by first | omega | (simp only [nb_sr, np_sr, nb_wr, np_wr, nb_rd, np_rd, nb_ch, np_ch, nb_zr, np_zr, nb_za, np_za, nb_ey, np_ey, nb_hf, np_hf, nb_dd, np_dd, nb_so, np_so, nb_skn, np_skn, nb_swh, np_swh, nb_sgn, np_sgn, nb_ssd, np_ssd, nb_sgo, np_sgo, nb_sag, np_sag]; omega)) (by first | omega | (simp only [nb_sr, np_sr, nb_wr, np_wr, nb_rd, np_rd, nb_ch, np_ch, nb_zr, np_zr, nb_za, np_za, nb_ey, np_ey, nb_hf, np_hf, nb_dd, np_dd, nb_so, np_so, nb_skn, np_skn, nb_swh, np_swh, nb_sgn, np_sgn, nb_ssd, np_ssd, nb_sgo, np_sgo, nb_sag, np_sag]; omega))) L_X5_82 hN hP hD hS hA [2, 5] [true, true, false, true, true, false] rfl (by decide +kernel) rfl 2 1 rfl rfl rfl ⟨Nat.le_of_ble_eq_true rfl, Nat.le_of_ble_eq_true rfl⟩ hl.1 (Nat.le_of_ble_eq_true rfl) (g_182 (v := 82) bX5_copy rfl) ⟨Nat.le_of_ble_eq_true rfl, Nat.le_of_ble_eq_true rfl⟩ (fun u_43 H locs h_42 => ?_)
        clear hP hD hS
        intro hP hD hS
        have hPD := pd_eq [_, _, _, _, _, zzJ cy qse 320 (va_cpy gE gE (k_11 * 40 + k_33) (k_12 * 40 + k_36) k_34)] hP hD h_42 rfl
        clear hP hD h_42
        obtain ⟨hP, hD⟩ := hPD
        refine lv_iload hx hb (g_21 (v := 5) bX5_copy rfl) (lv_at hl 6 rfl) ?_
        exact endWs [[true, true, false, false, true], [false, false, true, true, false, true]] hx hb hr hlocks rfl hP hD rfl (by decide +kernel) hS ⟨fR, va_cpy gE gE (k_11 * 40 + k_33) (k_12 * 40 + k_36) k_34, rfl, Or.inr (Or.inr (Or.inr ⟨rfl, k_11, k_12, k_33, k_36, k_34, hk_13, hk_14, rfl, rfl, h_15, h_16, h_17, h_20, h_24, rfl, rfl, rfl, by omega, by omega, rfl⟩)), trivial⟩ (g_172 bX5_copy rfl)
      · refine lv_if_ne (tgt := 40) hx hb dX5_copy_33 (by decide +kernel) (fun h9 => absurd (by decide +kernel) h9) (fun _ => ?_)
        refine lv_bipush (v := (-2)) hx hb dX5_copy_36 (by decide +kernel) ?_
        refine lv_istore (lv' := [(6, .int (-2)), (0, .ref qx), (1, .int (nI k_11)), (2, .int (nI k_12)), (3, .int iC), (4, .int iD), (5, .int iE)]) hx hb (g_54 (v := 6) bX5_copy rfl) hl (by decide +kernel) rfl (fun ls => ?_)
        clear hl
        intro hl
        refine lv_iload hx hb (g_21 (v := 6) bX5_copy rfl) (lv_at hl 0 rfl) ?_
        refine lv_if_eq (tgt := 52) hx hb dX5_copy_42 (by decide +kernel) (fun h9 => absurd h9 (by decide +kernel)) (fun _ => ?_)
        refine lv_aload_n hx hb (g_42 bX5_copy rfl) rfl (lv_at hl 1 rfl) ?_
        refine lv_iload hx hb (g_21 (v := 6) bX5_copy rfl) (lv_at hl 0 rfl) ?_
        refine cVi (As := [.int (-2)]) (rest := []) (b := qx) (q := (RX5, TX5, 9)) ⟨hx, hb, hml, hown, hts⟩ (c_X5_refuse2 l G cy (s.heap).size qx qt qk qp qs qa qr iKp iYe iTv fR) L_X5_56 hN hP hD hS hA [0, 1] [false, false, true, true, true, true] rfl (by decide +kernel) rfl 0 4 rfl rfl rfl ⟨Nat.le_of_ble_eq_true rfl, Nat.le_of_ble_eq_true rfl⟩ hl.1 (Nat.le_of_ble_eq_true rfl) (g_182 (v := 56) bX5_copy rfl) ⟨Nat.le_of_ble_eq_true rfl, Nat.le_of_ble_eq_true rfl⟩ (fun r_46 u_48 H locs h_47 => ?_)
        clear hP hD hS
        intro hP hD hS
        obtain ⟨fX_49, hu9, h_47⟩ := h_47
        have hPD := pd_eq [_, _, _, _, _, zzI cy qr 5 fX_49] hP hD hu9 rfl
        clear hP hD hu9
        obtain ⟨hP, hD⟩ := hPD
        subst h_47
        exact endWs [[false, false, false, false, true, true], [true, true, true, true]] hx hb hr hlocks rfl hP hD rfl (by decide +kernel) hS ⟨fX_49, gE, rfl, Or.inl ⟨rfl, Or.inr ⟨k_11, k_12, hk_13, hk_14, rfl, rfl, h_15, h_16, h_17, (fun q => h_24 q.2)⟩, rfl⟩, trivial⟩ (g_172 bX5_copy rfl)
    · refine lv_if_eq (tgt := 36) hx hb dX5_copy_21 (by decide +kernel) (fun _ => ?_) (fun h9 => absurd (by decide +kernel) h9)
      refine lv_bipush (v := (-2)) hx hb dX5_copy_36 (by decide +kernel) ?_
      refine lv_istore (lv' := [(6, .int (-2)), (0, .ref qx), (1, .int (nI k_11)), (2, .int (nI k_12)), (3, .int iC), (4, .int iD), (5, .int iE)]) hx hb (g_54 (v := 6) bX5_copy rfl) hl (by decide +kernel) rfl (fun ls => ?_)
      clear hl
      intro hl
      refine lv_iload hx hb (g_21 (v := 6) bX5_copy rfl) (lv_at hl 0 rfl) ?_
      refine lv_if_eq (tgt := 52) hx hb dX5_copy_42 (by decide +kernel) (fun h9 => absurd h9 (by decide +kernel)) (fun _ => ?_)
      refine lv_aload_n hx hb (g_42 bX5_copy rfl) rfl (lv_at hl 1 rfl) ?_
      refine lv_iload hx hb (g_21 (v := 6) bX5_copy rfl) (lv_at hl 0 rfl) ?_
      refine cVi (As := [.int (-2)]) (rest := []) (b := qx) (q := (RX5, TX5, 9)) ⟨hx, hb, hml, hown, hts⟩ (c_X5_refuse2 l G cy (s.heap).size qx qt qk qp qs qa qr iKp iYe iTv fR) L_X5_56 hN hP hD hS hA [0, 1] [false, false, true, true, true, true] rfl (by decide +kernel) rfl 0 4 rfl rfl rfl ⟨Nat.le_of_ble_eq_true rfl, Nat.le_of_ble_eq_true rfl⟩ hl.1 (Nat.le_of_ble_eq_true rfl) (g_182 (v := 56) bX5_copy rfl) ⟨Nat.le_of_ble_eq_true rfl, Nat.le_of_ble_eq_true rfl⟩ (fun r_52 u_54 H locs h_53 => ?_)
      clear hP hD hS
      intro hP hD hS
      obtain ⟨fX_55, hu9, h_53⟩ := h_53
      have hPD := pd_eq [_, _, _, _, _, zzI cy qr 5 fX_55] hP hD hu9 rfl
      clear hP hD hu9
      obtain ⟨hP, hD⟩ := hPD
      subst h_53
      exact endWs [[false, false, false, false, true, true], [true, true, true, true]] hx hb hr hlocks rfl hP hD rfl (by decide +kernel) hS ⟨fX_55, gE, rfl, Or.inl ⟨rfl, Or.inr ⟨k_11, k_12, hk_13, hk_14, rfl, rfl, h_15, h_16, h_17, (fun q => h_20 q.1)⟩, rfl⟩, trivial⟩ (g_172 bX5_copy rfl)
  · refine lv_istore (lv' := [(6, .int (-4)), (0, .ref qx), (1, .int iA), (2, .int iB), (3, .int iC), (4, .int iD), (5, .int iE)]) hx hb (g_54 (v := 6) bX5_copy rfl) hl (by decide +kernel) rfl (fun ls => ?_)
    clear hl
    intro hl
    refine lv_iload hx hb (g_21 (v := 6) bX5_copy rfl) (lv_at hl 0 rfl) ?_
    refine lv_if_ne (tgt := 40) hx hb dX5_copy_10 (by decide +kernel) (fun _ => ?_) (fun h9 => absurd h9 (by decide +kernel))
    refine lv_iload hx hb (g_21 (v := 6) bX5_copy rfl) (lv_at hl 0 rfl) ?_
    refine lv_if_eq (tgt := 52) hx hb dX5_copy_42 (by decide +kernel) (fun h9 => absurd h9 (by decide +kernel)) (fun _ => ?_)
    refine lv_aload_n hx hb (g_42 bX5_copy rfl) rfl (lv_at hl 1 rfl) ?_
    refine lv_iload hx hb (g_21 (v := 6) bX5_copy rfl) (lv_at hl 0 rfl) ?_
    refine cVi (As := [.int (-4)]) (rest := []) (b := qx) (q := (RX5, TX5, 9)) ⟨hx, hb, hml, hown, hts⟩ (c_X5_refuse4 l G cy (s.heap).size qx qt qk qp qs qa qr iKp iYe iTv fR) L_X5_56 hN hP hD hS hA [0, 1] [false, false, true, true, true, true] rfl (by decide +kernel) rfl 0 4 rfl rfl rfl ⟨Nat.le_of_ble_eq_true rfl, Nat.le_of_ble_eq_true rfl⟩ hl.1 (Nat.le_of_ble_eq_true rfl) (g_182 (v := 56) bX5_copy rfl) ⟨Nat.le_of_ble_eq_true rfl, Nat.le_of_ble_eq_true rfl⟩ (fun r_58 u_60 H locs h_59 => ?_)
    clear hP hD hS
    intro hP hD hS
    obtain ⟨fX_61, hu9, h_59⟩ := h_59
    have hPD := pd_eq [_, _, _, _, _, zzI cy qr 5 fX_61] hP hD hu9 rfl
    clear hP hD hu9
    obtain ⟨hP, hD⟩ := hPD
    subst h_59
    exact endWs [[false, false, false, false, true, true], [true, true, true, true]] hx hb hr hlocks rfl hP hD rfl (by decide +kernel) hS ⟨fX_61, gE, rfl, Or.inr (Or.inr (Or.inl ⟨rfl, h_3, rfl⟩)), trivial⟩ (g_172 bX5_copy rfl)
  · refine lv_istore (lv' := [(6, .int (-3)), (0, .ref qx), (1, .int iA), (2, .int iB), (3, .int iC), (4, .int iD), (5, .int iE)]) hx hb (g_54 (v := 6) bX5_copy rfl) hl (by decide +kernel) rfl (fun ls => ?_)
    clear hl
    intro hl
    refine lv_iload hx hb (g_21 (v := 6) bX5_copy rfl) (lv_at hl 0 rfl) ?_
    refine lv_if_ne (tgt := 40) hx hb dX5_copy_10 (by decide +kernel) (fun _ => ?_) (fun h9 => absurd h9 (by decide +kernel))
    refine lv_iload hx hb (g_21 (v := 6) bX5_copy rfl) (lv_at hl 0 rfl) ?_
    refine lv_if_eq (tgt := 52) hx hb dX5_copy_42 (by decide +kernel) (fun h9 => absurd h9 (by decide +kernel)) (fun _ => ?_)
    refine lv_aload_n hx hb (g_42 bX5_copy rfl) rfl (lv_at hl 1 rfl) ?_
    refine lv_iload hx hb (g_21 (v := 6) bX5_copy rfl) (lv_at hl 0 rfl) ?_
    refine cVi (As := [.int (-3)]) (rest := []) (b := qx) (q := (RX5, TX5, 9)) ⟨hx, hb, hml, hown, hts⟩ (c_X5_refuse3 l G cy (s.heap).size qx qt qk qp qs qa qr iKp iYe iTv fR) L_X5_56 hN hP hD hS hA [0, 1] [false, false, true, true, true, true] rfl (by decide +kernel) rfl 0 4 rfl rfl rfl ⟨Nat.le_of_ble_eq_true rfl, Nat.le_of_ble_eq_true rfl⟩ hl.1 (Nat.le_of_ble_eq_true rfl) (g_182 (v := 56) bX5_copy rfl) ⟨Nat.le_of_ble_eq_true rfl, Nat.le_of_ble_eq_true rfl⟩ (fun r_64 u_66 H locs h_65 => ?_)
    clear hP hD hS
    intro hP hD hS
    obtain ⟨fX_67, hu9, h_65⟩ := h_65
    have hPD := pd_eq [_, _, _, _, _, zzI cy qr 5 fX_67] hP hD hu9 rfl
    clear hP hD hu9
    obtain ⟨hP, hD⟩ := hPD
    subst h_65
    exact endWs [[false, false, false, false, true, true], [true, true, true, true]] hx hb hr hlocks rfl hP hD rfl (by decide +kernel) hS ⟨fX_67, gE, rfl, Or.inr (Or.inl ⟨rfl, h_3, rfl⟩), trivial⟩ (g_172 bX5_copy rfl)
set_option maxHeartbeats 4000000 in
set_option maxRecDepth 100000 in
theorem p_X5_element (l : Launch) (G : va_G) (cy : Nat → ClassId) (qx : Nat) (qt : Nat) (qk : Nat) (qp : Nat) (qs : Nat) (qa : Nat) (qr : Nat) (iKp : Int32) (iYe : Int32) (iTv : Int32) (qsh : Nat) (qss : Nat) (qsa : Nat) (qse : Nat) (fH : Nat → Int32) (fS : Nat → Int32) (gE : Nat → Int64) (iA : Int32) (iB : Int32)  (hSz : ∀ s, s < 8 → ∃ n : Nat, n ≤ 40 ∧ fS s = nI n) : MR l yX5_element cX5_element 3 (some .long) 6 G cy [zzO qx 4 [.ref qt, .ref qk, .ref qp, .ref qs, .ref qa, .ref qr, .int iKp, .int iYe, .int iTv], zzO qs 1 [.ref qsh, .ref qss, .ref qsa, .ref qse], zzI cy qsh 8 fH, zzI cy qss 8 fS, zzJ cy qse 320 gE] [.ref qx, .int iA, .int iB] (vp_Sl (fun r => PXelem fH fS gE iA iB r)) := by
  refine enR RX5 (by decide +kernel) rfl (Nat.le_of_ble_eq_true rfl) (fun p e s m below meth c ls hx hb hml hown hts hr hlocks hP hN hl => ?_)
  have hK := hN.1
  replace hl : lv_has ls 3 [(0, .ref qx), (1, .int iA), (2, .int iB)] := hl
  refine lv_aload_n hx hb (g_42 bX5_element rfl) rfl (lv_at hl 0 rfl) ?_
  refine lv_iload_n hx hb (g_27 bX5_element rfl) rfl (lv_at hl 1 rfl) ?_
  refine kRi (rV (As := [.int iA]) (rest := []) (b := qx) ⟨hx, hb, hml, hown, hts⟩ (c_X5_rowFit l G cy qx qt qk qp qs qa qr iKp iYe iTv qsh qss qsa qse fH iA) L_X5_64 (preRV (q := (RX5, TX5, 9)) hN hP (trueIx 0 [true, true, true]) (sel_fm rfl rfl) 0 4 rfl rfl) rfl ⟨Nat.le_of_ble_eq_true rfl, Nat.le_of_ble_eq_true rfl⟩ hl.1 (Nat.le_of_ble_eq_true rfl) (g_182 (v := 64) bX5_element rfl) ⟨Nat.le_of_ble_eq_true rfl, Nat.le_of_ble_eq_true rfl⟩) (fun r_1 h_2 => ?_)
  rcases h_2 with ⟨rfl, h_3⟩ | ⟨rfl, h_3⟩ | ⟨rfl, h_3⟩ | ⟨rfl, h_3⟩
  · refine lv_if_ne (tgt := 29) hx hb dX5_element_5 (by decide +kernel) (fun _ => ?_) (fun h9 => absurd h9 (by decide +kernel))
    refine lv_lconst (v := 0) hx hb (g_9 bX5_element rfl) (by decide +kernel) ?_
    exact endRl hx hb hr hlocks (Or.inl ⟨rfl, fun ⟨k, h1, h2, _⟩ => h_3 ⟨k, h1, h2⟩⟩) (g_173 bX5_element rfl)
  · obtain ⟨k_5, hk_6, rfl, h_7⟩ := h_3
    refine lv_if_ne (tgt := 29) hx hb dX5_element_5 (by decide +kernel) (fun _ => ?_) (fun h9 => absurd h9 (by decide +kernel))
    refine lv_lconst (v := 0) hx hb (g_9 bX5_element rfl) (by decide +kernel) ?_
    exact endRl hx hb hr hlocks (Or.inl ⟨rfl, (fun ⟨k, h1, h2, h3, h4, h5⟩ => by have e := nI_inj (by omega) (by omega) h2; subst e; exact h3 h_7)⟩) (g_173 bX5_element rfl)
  · obtain ⟨k_9, hk_10, rfl, h_11, h_12⟩ := h_3
    refine lv_if_ne (tgt := 29) hx hb dX5_element_5 (by decide +kernel) (fun h9 => absurd (by decide +kernel) h9) (fun _ => ?_)
    refine lv_iload_n hx hb (g_28 bX5_element rfl) rfl (lv_at hl 2 rfl) ?_
    refine lv_i2l (v := iB.toInt64) hx hb (g_133 bX5_element rfl) rfl ?_
    refine lv_lconst (v := 0) hx hb (g_9 bX5_element rfl) (by decide +kernel) ?_
    refine lv_aload_n hx hb (g_42 bX5_element rfl) rfl (lv_at hl 0 rfl) ?_
    refine va_get (D := G) (ci := 4) (v := .ref qs) (C := RX5) (T := TX5) (N := 9) hx hb hts iX_X5 hown hK hP 0 rfl rfl 3 (by decide +kernel) (hts _ m_t177) (fun _ h9 => h9) rfl (g_180 (v := 29) bX5_element rfl) ?_
    refine va_getN (D := G) (ci := 1) (v := .ref qss) (C := RX2) (T := TX2) (N := 4) hx hb hts iX_X2 hown hK hP 1 rfl rfl 1 (by decide +kernel) (va_Nw.use rfl (hN.2.1 (RX5, 67, "EachBookOnce$Shelves", "size", "[I") (List.mem_of_getElem? (i := 27) rfl))) (fun _ h9 => h9) rfl (g_180 (v := 67) bX5_element rfl) ?_
    refine lv_iload_n hx hb (g_27 bX5_element rfl) rfl (lv_at hl 1 rfl) ?_
    refine va_iald hx hb hK hP 3 0 rfl rfl (in8 (by omega)) (g_46 bX5_element rfl) ?_
    refine lv_seti (v := fS k_9) (congrArg fS (cl8 (by omega))) ?_
    refine lv_iconst (v := 1) hx hb (g_4 bX5_element rfl) (by decide +kernel) ?_
    refine lv_isub hx hb (g_100 bX5_element rfl) ?_
    refine lv_i2l (v := ((fS k_9) - 1).toInt64) hx hb (g_133 bX5_element rfl) rfl ?_
    refine kRi (rS (As := [.long iB.toInt64, .long 0, .long (((fS k_9) - 1).toInt64)]) (rest := []) ⟨hx, hb, hml, hown, hts⟩ (c_X5_within l G cy iB.toInt64 0 (((fS k_9) - 1).toInt64)) L_X5_50 (preRS hN hP [] rfl) rfl ⟨Nat.le_of_ble_eq_true rfl, Nat.le_of_ble_eq_true rfl⟩ hl.1 (Nat.le_of_ble_eq_true rfl) (g_184 (v := 50) bX5_element rfl) ⟨Nat.le_of_ble_eq_true rfl, Nat.le_of_ble_eq_true rfl⟩) (fun r_14 h_15 => ?_)
    rcases h_15 with ⟨rfl, h_16⟩ | ⟨rfl, h_16⟩
    · refine lv_if_ne (tgt := 31) hx hb dX5_element_26 (by decide +kernel) (fun _ => ?_) (fun h9 => absurd h9 (by decide +kernel))
      refine lv_aload_n hx hb (g_42 bX5_element rfl) rfl (lv_at hl 0 rfl) ?_
      refine va_get (D := G) (ci := 4) (v := .ref qs) (C := RX5) (T := TX5) (N := 9) hx hb hts iX_X5 hown hK hP 0 rfl rfl 3 (by decide +kernel) (hts _ m_t177) (fun _ h9 => h9) rfl (g_180 (v := 29) bX5_element rfl) ?_
      refine lv_iload_n hx hb (g_27 bX5_element rfl) rfl (lv_at hl 1 rfl) ?_
      refine lv_iload_n hx hb (g_28 bX5_element rfl) rfl (lv_at hl 2 rfl) ?_
      obtain ⟨n_18, hn_19, en_20⟩ := hSz k_9 hk_10
      obtain ⟨k_21, hk_22, rfl⟩ := sz_in en_20 hn_19 h_16
      refine kRl (rV (As := [.int (nI k_9), .int (nI k_21)]) (rest := []) (b := qs) ⟨hx, hb, hml, hown, hts⟩ (c_X2_at l G cy qs qsh qss qsa qse gE k_9 k_21 (by first | omega | (simp only [nb_sr, np_sr, nb_wr, np_wr, nb_rd, np_rd, nb_ch, np_ch, nb_zr, np_zr, nb_za, np_za, nb_ey, np_ey, nb_hf, np_hf, nb_dd, np_dd, nb_so, np_so, nb_skn, np_skn, nb_swh, np_swh, nb_sgn, np_sgn, nb_ssd, np_ssd, nb_sgo, np_sgo, nb_sag, np_sag]; omega)) (by first | omega | (simp only [nb_sr, np_sr, nb_wr, np_wr, nb_rd, np_rd, nb_ch, np_ch, nb_zr, np_zr, nb_za, np_za, nb_ey, np_ey, nb_hf, np_hf, nb_dd, np_dd, nb_so, np_so, nb_skn, np_skn, nb_swh, np_swh, nb_sgn, np_sgn, nb_ssd, np_ssd, nb_sgo, np_sgo, nb_sag, np_sag]; omega))) L_X5_86 (preRV (q := (RX2, TX2, 4)) hN hP [1, 4] rfl 1 1 rfl rfl) rfl ⟨Nat.le_of_ble_eq_true rfl, Nat.le_of_ble_eq_true rfl⟩ hl.1 (Nat.le_of_ble_eq_true rfl) (g_182 (v := 86) bX5_element rfl) ⟨Nat.le_of_ble_eq_true rfl, Nat.le_of_ble_eq_true rfl⟩) (fun r_23 h_24 => ?_)
      subst h_24
      exact endRl hx hb hr hlocks (Or.inr ⟨k_9, k_21, hk_10, rfl, h_11, h_12, by omega, rfl, h_16, rfl⟩) (g_173 bX5_element rfl)
    · refine lv_if_ne (tgt := 31) hx hb dX5_element_26 (by decide +kernel) (fun h9 => absurd (by decide +kernel) h9) (fun _ => ?_)
      refine lv_lconst (v := 0) hx hb (g_9 bX5_element rfl) (by decide +kernel) ?_
      exact endRl hx hb hr hlocks (Or.inl ⟨rfl, (fun ⟨k, h1, h2, h3, h4, h5⟩ => by have e := nI_inj (by omega) (by omega) h2; subst e; exact h_16 h5)⟩) (g_173 bX5_element rfl)
  · obtain ⟨k_26, hk_27, rfl, h_28, h_29⟩ := h_3
    refine lv_if_ne (tgt := 29) hx hb dX5_element_5 (by decide +kernel) (fun _ => ?_) (fun h9 => absurd h9 (by decide +kernel))
    refine lv_lconst (v := 0) hx hb (g_9 bX5_element rfl) (by decide +kernel) ?_
    exact endRl hx hb hr hlocks (Or.inl ⟨rfl, (fun ⟨k, h1, h2, h3, h4, h5⟩ => by have e := nI_inj (by omega) (by omega) h2; subst e; exact h_29 h4)⟩) (g_173 bX5_element rfl)
set_option maxHeartbeats 4000000 in
set_option maxRecDepth 100000 in
theorem p_X5_holds (l : Launch) (G : va_G) (cy : Nat → ClassId) (qx : Nat) (qt : Nat) (qk : Nat) (qp : Nat) (qs : Nat) (qa : Nat) (qr : Nat) (iKp : Int32) (iYe : Int32) (iTv : Int32) (qsh : Nat) (qss : Nat) (qsa : Nat) (qse : Nat) (fH : Nat → Int32) (iA : Int32)   : MR l yX5_holds cX5_holds 2 (some .int) 6 G cy [zzO qx 4 [.ref qt, .ref qk, .ref qp, .ref qs, .ref qa, .ref qr, .int iKp, .int iYe, .int iTv], zzO qs 1 [.ref qsh, .ref qss, .ref qsa, .ref qse], zzI cy qsh 8 fH] [.ref qx, .int iA] (vp_Si (fun r => PXholds fH iA r)) := by
  refine enR RX5 (by decide +kernel) rfl (Nat.le_of_ble_eq_true rfl) (fun p e s m below meth c ls hx hb hml hown hts hr hlocks hP hN hl => ?_)
  have hK := hN.1
  replace hl : lv_has ls 2 [(0, .ref qx), (1, .int iA)] := hl
  refine lv_iload_n hx hb (g_27 bX5_holds rfl) rfl (lv_at hl 1 rfl) ?_
  refine kRi (rS (As := [.int iA]) (rest := []) ⟨hx, hb, hml, hown, hts⟩ (c_X5_isShelf l G cy iA) L_X5_44 (preRS hN hP [] rfl) rfl ⟨Nat.le_of_ble_eq_true rfl, Nat.le_of_ble_eq_true rfl⟩ hl.1 (Nat.le_of_ble_eq_true rfl) (g_184 (v := 44) bX5_holds rfl) ⟨Nat.le_of_ble_eq_true rfl, Nat.le_of_ble_eq_true rfl⟩) (fun r_1 h_2 => ?_)
  rcases h_2 with ⟨rfl, h_3⟩ | ⟨rfl, h_3⟩
  · obtain ⟨k_4, hk_5, rfl⟩ := h_3
    refine lv_if_eq (tgt := 19) hx hb dX5_holds_4 (by decide +kernel) (fun h9 => absurd h9 (by decide +kernel)) (fun _ => ?_)
    refine lv_aload_n hx hb (g_42 bX5_holds rfl) rfl (lv_at hl 0 rfl) ?_
    refine va_get (D := G) (ci := 4) (v := .ref qs) (C := RX5) (T := TX5) (N := 9) hx hb hts iX_X5 hown hK hP 0 rfl rfl 3 (by decide +kernel) (hts _ m_t177) (fun _ h9 => h9) rfl (g_180 (v := 29) bX5_holds rfl) ?_
    refine va_getN (D := G) (ci := 1) (v := .ref qsh) (C := RX2) (T := TX2) (N := 4) hx hb hts iX_X2 hown hK hP 1 rfl rfl 0 (by decide +kernel) (va_Nw.use rfl (hN.2.1 (RX5, 90, "EachBookOnce$Shelves", "holding", "[I") (List.mem_of_getElem? (i := 26) rfl))) (fun _ h9 => h9) rfl (g_180 (v := 90) bX5_holds rfl) ?_
    refine lv_iload_n hx hb (g_27 bX5_holds rfl) rfl (lv_at hl 1 rfl) ?_
    refine va_iald hx hb hK hP 2 0 rfl rfl (in8 (by omega)) (g_46 bX5_holds rfl) ?_
    refine lv_seti (v := fH k_4) (congrArg fH (cl8 (by omega))) ?_
    refine lv_goto (tgt := 20) hx hb dX5_holds_16 (by decide +kernel) ?_
    exact endR hx hb hr hlocks rfl (Or.inr ⟨k_4, hk_5, rfl, rfl⟩) (g_172 bX5_holds rfl)
  · refine lv_if_eq (tgt := 19) hx hb dX5_holds_4 (by decide +kernel) (fun _ => ?_) (fun h9 => absurd (by decide +kernel) h9)
    refine lv_iconst (v := (-1)) hx hb (g_2 bX5_holds rfl) (by decide +kernel) ?_
    exact endR hx hb hr hlocks rfl (Or.inl ⟨rfl, h_3⟩) (g_172 bX5_holds rfl)
set_option maxHeartbeats 4000000 in
set_option maxRecDepth 100000 in
theorem p_X5_rule (l : Launch) (G : va_G) (cy : Nat → ClassId) (sz : Nat) (qx : Nat) (qt : Nat) (qk : Nat) (qp : Nat) (qs : Nat) (qa : Nat) (qr : Nat) (iKp : Int32) (iYe : Int32) (iTv : Int32) (fR : Nat → Int32) (qsh : Nat) (qss : Nat) (qsa : Nat) (qse : Nat) (fH : Nat → Int32) (fA : Nat → Int32) (iA : Int32) (iB : Int32) (iC : Int32)   : MW l yX5_rule cX5_rule 4 (some .int) 12 0 0 G cy [zzO qx 4 [.ref qt, .ref qk, .ref qp, .ref qs, .ref qa, .ref qr, .int iKp, .int iYe, .int iTv], zzI cy qr 5 fR, zzO qs 1 [.ref qsh, .ref qss, .ref qsa, .ref qse], zzI cy qsh 8 fH, zzI cy qsa 8 fA] sz [.ref qx, .int iA, .int iB, .int iC] (Wi G (fun r u => ∃ (fX : Nat → Int32) (fY : Nat → Int32) (fW : Nat → Int32), u = [zzO qx 4 [.ref qt, .ref qk, .ref qp, .ref qs, .ref qa, .ref qr, .int iKp, .int iYe, .int iTv], zzI cy qr 5 fX, zzO qs 1 [.ref qsh, .ref qss, .ref qsa, .ref qse], zzI cy qsh 8 fY, zzI cy qsa 8 fW] ∧ (PXrule fH fA iA iB iC r fY fW) ∧ (True))) := by
  refine enW RX5 (by decide +kernel) rfl (Nat.le_of_ble_eq_true rfl) (fun p e s m below meth c ls A hx hb hml hown hts hr hlocks hP hN hl hin hD hA hS => ?_)
  have hin : meth.name = _ := hin
  have hK := hN.1
  replace hl : lv_has ls 4 [(0, .ref qx), (1, .int iA), (2, .int iB), (3, .int iC)] := hl
  refine lv_iload_n hx hb (g_27 bX5_rule rfl) rfl (lv_at hl 1 rfl) ?_
  refine kRi (rS (As := [.int iA]) (rest := []) ⟨hx, hb, hml, hown, hts⟩ (c_X5_isShelf l G cy iA) L_X5_44 (preRS hN hP [] rfl) rfl ⟨Nat.le_of_ble_eq_true rfl, Nat.le_of_ble_eq_true rfl⟩ hl.1 (Nat.le_of_ble_eq_true rfl) (g_184 (v := 44) bX5_rule rfl) ⟨Nat.le_of_ble_eq_true rfl, Nat.le_of_ble_eq_true rfl⟩) (fun r_1 h_2 => ?_)
  rcases h_2 with ⟨rfl, h_3⟩ | ⟨rfl, h_3⟩
  · obtain ⟨k_4, hk_5, rfl⟩ := h_3
    refine lv_if_eq (tgt := 31) hx hb dX5_rule_4 (by decide +kernel) (fun h9 => absurd h9 (by decide +kernel)) (fun _ => ?_)
    refine lv_iload_n hx hb (g_28 bX5_rule rfl) rfl (lv_at hl 2 rfl) ?_
    refine lv_i2l (v := iB.toInt64) hx hb (g_133 bX5_rule rfl) rfl ?_
    refine lv_lconst (v := 1) hx hb (g_10 bX5_rule rfl) (by decide +kernel) ?_
    refine lv_ldc2 hx hb hown (hts _ m_t281) (g_20 (v := 93) bX5_rule rfl) ?_
    refine kRi (rS (As := [.long iB.toInt64, .long 1, .long 6]) (rest := []) ⟨hx, hb, hml, hown, hts⟩ (c_X5_within l G cy iB.toInt64 1 6) L_X5_50 (preRS hN hP [] rfl) rfl ⟨Nat.le_of_ble_eq_true rfl, Nat.le_of_ble_eq_true rfl⟩ hl.1 (Nat.le_of_ble_eq_true rfl) (g_184 (v := 50) bX5_rule rfl) ⟨Nat.le_of_ble_eq_true rfl, Nat.le_of_ble_eq_true rfl⟩) (fun r_7 h_8 => ?_)
    rcases h_8 with ⟨rfl, h_9⟩ | ⟨rfl, h_9⟩
    · obtain ⟨k_10, hk_11, hk_12, rfl⟩ := iv_nI 1 6 (by decide +kernel) (by decide +kernel) h_9
      refine lv_if_eq (tgt := 31) hx hb dX5_rule_16 (by decide +kernel) (fun h9 => absurd h9 (by decide +kernel)) (fun _ => ?_)
      refine lv_iload_n hx hb (g_29 bX5_rule rfl) rfl (lv_at hl 3 rfl) ?_
      refine lv_i2l (v := iC.toInt64) hx hb (g_133 bX5_rule rfl) rfl ?_
      refine lv_lconst (v := 0) hx hb (g_9 bX5_rule rfl) (by decide +kernel) ?_
      refine lv_ldc2 hx hb hown (hts _ m_t282) (g_20 (v := 95) bX5_rule rfl) ?_
      refine kRi (rS (As := [.long iC.toInt64, .long 0, .long 99]) (rest := []) ⟨hx, hb, hml, hown, hts⟩ (c_X5_within l G cy iC.toInt64 0 99) L_X5_50 (preRS hN hP [] rfl) rfl ⟨Nat.le_of_ble_eq_true rfl, Nat.le_of_ble_eq_true rfl⟩ hl.1 (Nat.le_of_ble_eq_true rfl) (g_184 (v := 50) bX5_rule rfl) ⟨Nat.le_of_ble_eq_true rfl, Nat.le_of_ble_eq_true rfl⟩) (fun r_14 h_15 => ?_)
      rcases h_15 with ⟨rfl, h_16⟩ | ⟨rfl, h_16⟩
      · obtain ⟨k_17, hk_18, hk_19, rfl⟩ := iv_nI 0 99 (by decide +kernel) (by decide +kernel) h_16
        refine lv_if_ne (tgt := 38) hx hb dX5_rule_28 (by decide +kernel) (fun _ => ?_) (fun h9 => absurd h9 (by decide +kernel))
        refine lv_aload_n hx hb (g_42 bX5_rule rfl) rfl (lv_at hl 0 rfl) ?_
        refine va_get (D := G) (ci := 4) (v := .ref qs) (C := RX5) (T := TX5) (N := 9) hx hb hts iX_X5 hown hK hP 0 rfl rfl 3 (by decide +kernel) (hts _ m_t177) (fun _ h9 => h9) rfl (g_180 (v := 29) bX5_rule rfl) ?_
        refine lv_iload_n hx hb (g_27 bX5_rule rfl) rfl (lv_at hl 1 rfl) ?_
        refine lv_iload_n hx hb (g_28 bX5_rule rfl) rfl (lv_at hl 2 rfl) ?_
        refine lv_iload_n hx hb (g_29 bX5_rule rfl) rfl (lv_at hl 3 rfl) ?_
        refine cVv (As := [.int (nI k_4), .int (nI k_10), .int (nI k_17)]) (rest := []) (b := qs) (q := (RX2, TX2, 4)) ⟨hx, hb, hml, hown, hts⟩ (c_X2_putRule l G cy (s.heap).size qs qsh qss qsa qse fH fA k_4 (nI k_10) (nI k_17) (by first | omega | (simp only [nb_sr, np_sr, nb_wr, np_wr, nb_rd, np_rd, nb_ch, np_ch, nb_zr, np_zr, nb_za, np_za, nb_ey, np_ey, nb_hf, np_hf, nb_dd, np_dd, nb_so, np_so, nb_skn, np_skn, nb_swh, np_swh, nb_sgn, np_sgn, nb_ssd, np_ssd, nb_sgo, np_sgo, nb_sag, np_sag]; omega))) L_X5_97 hN hP hD hS hA (trueIx 0 [false, false, true, true, true]) [true, true, false, false, false] (sel_eq rfl rfl) (by decide +kernel) rfl 2 1 rfl rfl rfl ⟨Nat.le_of_ble_eq_true rfl, Nat.le_of_ble_eq_true rfl⟩ hl.1 (Nat.le_of_ble_eq_true rfl) (g_182 (v := 97) bX5_rule rfl) ⟨Nat.le_of_ble_eq_true rfl, Nat.le_of_ble_eq_true rfl⟩ (fun u_23 H locs h_22 => ?_)
        clear hP hD hS
        intro hP hD hS
        have hPD := pd_eq [_, _, _, zzI cy qsh 8 (upd fH k_4 (10 + (nI k_10))), zzI cy qsa 8 (upd fA k_4 (nI k_17))] hP hD h_22 rfl
        clear hP hD h_22
        obtain ⟨hP, hD⟩ := hPD
        refine lv_iconst (v := 1) hx hb (g_4 bX5_rule rfl) (by decide +kernel) ?_
        exact endWs [[true, true, true, true, true]] hx hb hr hlocks rfl hP hD rfl (by decide +kernel) hS ⟨fR, upd fH k_4 (10 + (nI k_10)), upd fA k_4 (nI k_17), rfl, Or.inr ⟨rfl, k_4, hk_5, rfl, h_9, h_16, rfl, rfl⟩, trivial⟩ (g_172 bX5_rule rfl)
      · refine lv_if_ne (tgt := 38) hx hb dX5_rule_28 (by decide +kernel) (fun h9 => absurd (by decide +kernel) h9) (fun _ => ?_)
        refine lv_aload_n hx hb (g_42 bX5_rule rfl) rfl (lv_at hl 0 rfl) ?_
        refine lv_bipush (v := (-2)) hx hb dX5_rule_32 (by decide +kernel) ?_
        refine cVi (As := [.int (-2)]) (rest := []) (b := qx) (q := (RX5, TX5, 9)) ⟨hx, hb, hml, hown, hts⟩ (c_X5_refuse2 l G cy (s.heap).size qx qt qk qp qs qa qr iKp iYe iTv fR) L_X5_56 hN hP hD hS hA [0, 1] [false, false, true, true, true] rfl (by decide +kernel) rfl 0 4 rfl rfl rfl ⟨Nat.le_of_ble_eq_true rfl, Nat.le_of_ble_eq_true rfl⟩ hl.1 (Nat.le_of_ble_eq_true rfl) (g_182 (v := 56) bX5_rule rfl) ⟨Nat.le_of_ble_eq_true rfl, Nat.le_of_ble_eq_true rfl⟩ (fun r_25 u_27 H locs h_26 => ?_)
        clear hP hD hS
        intro hP hD hS
        obtain ⟨fX_28, hu9, h_26⟩ := h_26
        have hPD := pd_eq [_, _, _, _, zzI cy qr 5 fX_28] hP hD hu9 rfl
        clear hP hD hu9
        obtain ⟨hP, hD⟩ := hPD
        subst h_26
        exact endWs [[false, false, false, true, true], [true, true, true]] hx hb hr hlocks rfl hP hD rfl (by decide +kernel) hS ⟨fX_28, fH, fA, rfl, Or.inl ⟨rfl, (fun q => h_16 (q.2.2)), rfl, rfl⟩, trivial⟩ (g_172 bX5_rule rfl)
    · refine lv_if_eq (tgt := 31) hx hb dX5_rule_16 (by decide +kernel) (fun _ => ?_) (fun h9 => absurd (by decide +kernel) h9)
      refine lv_aload_n hx hb (g_42 bX5_rule rfl) rfl (lv_at hl 0 rfl) ?_
      refine lv_bipush (v := (-2)) hx hb dX5_rule_32 (by decide +kernel) ?_
      refine cVi (As := [.int (-2)]) (rest := []) (b := qx) (q := (RX5, TX5, 9)) ⟨hx, hb, hml, hown, hts⟩ (c_X5_refuse2 l G cy (s.heap).size qx qt qk qp qs qa qr iKp iYe iTv fR) L_X5_56 hN hP hD hS hA [0, 1] [false, false, true, true, true] rfl (by decide +kernel) rfl 0 4 rfl rfl rfl ⟨Nat.le_of_ble_eq_true rfl, Nat.le_of_ble_eq_true rfl⟩ hl.1 (Nat.le_of_ble_eq_true rfl) (g_182 (v := 56) bX5_rule rfl) ⟨Nat.le_of_ble_eq_true rfl, Nat.le_of_ble_eq_true rfl⟩ (fun r_30 u_32 H locs h_31 => ?_)
      clear hP hD hS
      intro hP hD hS
      obtain ⟨fX_33, hu9, h_31⟩ := h_31
      have hPD := pd_eq [_, _, _, _, zzI cy qr 5 fX_33] hP hD hu9 rfl
      clear hP hD hu9
      obtain ⟨hP, hD⟩ := hPD
      subst h_31
      exact endWs [[false, false, false, true, true], [true, true, true]] hx hb hr hlocks rfl hP hD rfl (by decide +kernel) hS ⟨fX_33, fH, fA, rfl, Or.inl ⟨rfl, (fun q => h_9 (q.2.1)), rfl, rfl⟩, trivial⟩ (g_172 bX5_rule rfl)
  · refine lv_if_eq (tgt := 31) hx hb dX5_rule_4 (by decide +kernel) (fun _ => ?_) (fun h9 => absurd (by decide +kernel) h9)
    refine lv_aload_n hx hb (g_42 bX5_rule rfl) rfl (lv_at hl 0 rfl) ?_
    refine lv_bipush (v := (-2)) hx hb dX5_rule_32 (by decide +kernel) ?_
    refine cVi (As := [.int (-2)]) (rest := []) (b := qx) (q := (RX5, TX5, 9)) ⟨hx, hb, hml, hown, hts⟩ (c_X5_refuse2 l G cy (s.heap).size qx qt qk qp qs qa qr iKp iYe iTv fR) L_X5_56 hN hP hD hS hA [0, 1] [false, false, true, true, true] rfl (by decide +kernel) rfl 0 4 rfl rfl rfl ⟨Nat.le_of_ble_eq_true rfl, Nat.le_of_ble_eq_true rfl⟩ hl.1 (Nat.le_of_ble_eq_true rfl) (g_182 (v := 56) bX5_rule rfl) ⟨Nat.le_of_ble_eq_true rfl, Nat.le_of_ble_eq_true rfl⟩ (fun r_35 u_37 H locs h_36 => ?_)
    clear hP hD hS
    intro hP hD hS
    obtain ⟨fX_38, hu9, h_36⟩ := h_36
    have hPD := pd_eq [_, _, _, _, zzI cy qr 5 fX_38] hP hD hu9 rfl
    clear hP hD hu9
    obtain ⟨hP, hD⟩ := hPD
    subst h_36
    exact endWs [[false, false, false, true, true], [true, true, true]] hx hb hr hlocks rfl hP hD rfl (by decide +kernel) hS ⟨fX_38, fH, fA, rfl, Or.inl ⟨rfl, (fun q => h_3 (q.1)), rfl, rfl⟩, trivial⟩ (g_172 bX5_rule rfl)
set_option maxHeartbeats 4000000 in
set_option maxRecDepth 100000 in
theorem p_X5_says (l : Launch) (G : va_G) (cy : Nat → ClassId) (sz : Nat) (qx : Nat) (qt : Nat) (qk : Nat) (qp : Nat) (qs : Nat) (qa : Nat) (qr : Nat) (iKp : Int32) (iYe : Int32) (iTv : Int32) (fR : Nat → Int32) (qsh : Nat) (qss : Nat) (qsa : Nat) (qse : Nat) (fH : Nat → Int32) (fA : Nat → Int32) (tA : TA) (qtw : Nat) (qtn : Nat) (qtg : Nat) (qta : Nat) (qtr : Nat) (qtm : Nat) (qtt : Nat) (qts : Nat) (qu : Nat) (qv : Nat) (iL : Int32) (iBs : Int32) (tU : TA) (quw : Nat) (qun : Nat) (qug : Nat) (qua : Nat) (qur : Nat) (qum : Nat) (qut : Nat) (qus : Nat) (iA : Int32) (iB : Int32)  (hB : T_nb tA ≤ 8) (hPp : T_np tA ≤ 8) : MW l yX5_says cX5_says 6 (some .int) 12 0 0 G cy [zzO qx 4 [.ref qt, .ref qk, .ref qp, .ref qs, .ref qa, .ref qr, .int iKp, .int iYe, .int iTv], zzI cy qr 5 fR, zzO qs 1 [.ref qsh, .ref qss, .ref qsa, .ref qse], zzI cy qsh 8 fH, zzI cy qsa 8 fA, zzO qt 3 [.int (nI (T_nb tA)), .int (nI (T_np tA)), .int (wb (T_wh tA)), .int (wb (T_gn tA)), .int (T_sd tA), .ref qtw, .ref qtn, .ref qtg, .ref qta, .ref qtr, .ref qtm, .ref qtt, .ref qts], zzI cy qtw 8 (T_wo tA), zzI cy qtn 8 (T_ne tA), zzI cy qtg 8 (T_go tA), zzI cy qta 8 (T_ag tA), zzI cy qtr 8 (T_re tA), zzI cy qtm 8 (T_me tA), zzI cy qtt 8 (T_te tA), zzI cy qts 64 (shF (T_kn tA)), zzO qp 0 [.ref qu, .ref qv, .int iL, .int iBs], zzO qu 3 [.int (nI (T_nb tU)), .int (nI (T_np tU)), .int (wb (T_wh tU)), .int (wb (T_gn tU)), .int (T_sd tU), .ref quw, .ref qun, .ref qug, .ref qua, .ref qur, .ref qum, .ref qut, .ref qus], zzI cy quw 8 (T_wo tU), zzI cy qun 8 (T_ne tU), zzI cy qug 8 (T_go tU), zzI cy qua 8 (T_ag tU), zzI cy qur 8 (T_re tU), zzI cy qum 8 (T_me tU), zzI cy qut 8 (T_te tU), zzI cy qus 64 (shF (T_kn tU))] sz [.ref qx, .int iA, .int iB] (Wi G (fun r u => ∃ (fX : Nat → Int32) (iX : Int32) (iY : Int32) (tX : TA), u = [zzO qx 4 [.ref qt, .ref qk, .ref qp, .ref qs, .ref qa, .ref qr, .int iKp, .int iYe, .int iTv], zzI cy qr 5 fX, zzO qs 1 [.ref qsh, .ref qss, .ref qsa, .ref qse], zzI cy qsh 8 fH, zzI cy qsa 8 fA, zzO qt 3 [.int (nI (T_nb tA)), .int (nI (T_np tA)), .int (wb (T_wh tA)), .int (wb (T_gn tA)), .int (T_sd tA), .ref qtw, .ref qtn, .ref qtg, .ref qta, .ref qtr, .ref qtm, .ref qtt, .ref qts], zzI cy qtw 8 (T_wo tA), zzI cy qtn 8 (T_ne tA), zzI cy qtg 8 (T_go tA), zzI cy qta 8 (T_ag tA), zzI cy qtr 8 (T_re tA), zzI cy qtm 8 (T_me tA), zzI cy qtt 8 (T_te tA), zzI cy qts 64 (shF (T_kn tA)), zzO qp 0 [.ref qu, .ref qv, .int iX, .int iY], zzO qu 3 [.int (nI (T_nb tX)), .int (nI (T_np tX)), .int (wb (T_wh tX)), .int (wb (T_gn tX)), .int (T_sd tX), .ref quw, .ref qun, .ref qug, .ref qua, .ref qur, .ref qum, .ref qut, .ref qus], zzI cy quw 8 (T_wo tX), zzI cy qun 8 (T_ne tX), zzI cy qug 8 (T_go tX), zzI cy qua 8 (T_ag tX), zzI cy qur 8 (T_re tX), zzI cy qum 8 (T_me tX), zzI cy qut 8 (T_te tX), zzI cy qus 64 (shF (T_kn tX))] ∧ (True))) := by
  refine enW RX5 (by decide +kernel) rfl (Nat.le_of_ble_eq_true rfl) (fun p e s m below meth c ls A hx hb hml hown hts hr hlocks hP hN hl hin hD hA hS => ?_)
  have hin : meth.name = _ := hin
  have hK := hN.1
  replace hl : lv_has ls 6 [(0, .ref qx), (1, .int iA), (2, .int iB)] := hl
  refine lv_iload_n hx hb (g_28 bX5_says rfl) rfl (lv_at hl 2 rfl) ?_
  refine lv_i2l (v := iB.toInt64) hx hb (g_133 bX5_says rfl) rfl ?_
  refine lv_lconst (v := 0) hx hb (g_9 bX5_says rfl) (by decide +kernel) ?_
  refine lv_ldc2 hx hb hown (hts _ m_t281) (g_20 (v := 93) bX5_says rfl) ?_
  refine kRi (rS (As := [.long iB.toInt64, .long 0, .long 6]) (rest := []) ⟨hx, hb, hml, hown, hts⟩ (c_X5_within l G cy iB.toInt64 0 6) L_X5_50 (preRS hN hP [] rfl) rfl ⟨Nat.le_of_ble_eq_true rfl, Nat.le_of_ble_eq_true rfl⟩ hl.1 (Nat.le_of_ble_eq_true rfl) (g_184 (v := 50) bX5_says rfl) ⟨Nat.le_of_ble_eq_true rfl, Nat.le_of_ble_eq_true rfl⟩) (fun r_1 h_2 => ?_)
  rcases h_2 with ⟨rfl, h_3⟩ | ⟨rfl, h_3⟩
  · obtain ⟨k_4, hk_5, hk_6, rfl⟩ := iv_nI 0 6 (by decide +kernel) (by decide +kernel) h_3
    refine lv_if_eq (tgt := 20) hx hb dX5_says_9 (by decide +kernel) (fun h9 => absurd h9 (by decide +kernel)) (fun _ => ?_)
    refine lv_aload_n hx hb (g_42 bX5_says rfl) rfl (lv_at hl 0 rfl) ?_
    refine lv_iload_n hx hb (g_27 bX5_says rfl) rfl (lv_at hl 1 rfl) ?_
    refine kRi (rV (As := [.int iA]) (rest := []) (b := qx) ⟨hx, hb, hml, hown, hts⟩ (c_X5_ruleFit l G cy qx qt qk qp qs qa qr iKp iYe iTv qsh qss qsa qse fH iA) L_X5_100 (preRV (q := (RX5, TX5, 9)) hN hP (trueIx 0 [true, false, true, true]) (sel_fm rfl rfl) 0 4 rfl rfl) rfl ⟨Nat.le_of_ble_eq_true rfl, Nat.le_of_ble_eq_true rfl⟩ hl.1 (Nat.le_of_ble_eq_true rfl) (g_182 (v := 100) bX5_says rfl) ⟨Nat.le_of_ble_eq_true rfl, Nat.le_of_ble_eq_true rfl⟩) (fun r_8 h_9 => ?_)
    rcases h_9 with ⟨rfl, h_10⟩ | ⟨rfl, h_10⟩ | ⟨rfl, h_10⟩ | ⟨rfl, h_10⟩
    · refine lv_goto (tgt := 22) hx hb dX5_says_17 (by decide +kernel) ?_
      refine lv_istore_n (lv' := [(3, .int (-2)), (0, .ref qx), (1, .int iA), (2, .int (nI k_4))]) hx hb (g_62 bX5_says rfl) rfl hl (by decide +kernel) rfl (fun ls => ?_)
      clear hl
      intro hl
      refine lv_iload_n hx hb (g_29 bX5_says rfl) rfl (lv_at hl 0 rfl) ?_
      refine lv_if_ne (tgt := 45) hx hb dX5_says_24 (by decide +kernel) (fun _ => ?_) (fun h9 => absurd h9 (by decide +kernel))
      refine lv_iload_n hx hb (g_29 bX5_says rfl) rfl (lv_at hl 0 rfl) ?_
      refine lv_if_eq (tgt := 55) hx hb dX5_says_46 (by decide +kernel) (fun h9 => absurd h9 (by decide +kernel)) (fun _ => ?_)
      refine lv_aload_n hx hb (g_42 bX5_says rfl) rfl (lv_at hl 1 rfl) ?_
      refine lv_iload_n hx hb (g_29 bX5_says rfl) rfl (lv_at hl 0 rfl) ?_
      refine cVi (As := [.int (-2)]) (rest := []) (b := qx) (q := (RX5, TX5, 9)) ⟨hx, hb, hml, hown, hts⟩ (c_X5_refuse2 l G cy (s.heap).size qx qt qk qp qs qa qr iKp iYe iTv fR) L_X5_56 hN hP hD hS hA [0, 1] [false, false, true, true, true, true, true, true, true, true, true, true, true, true, true, true, true, true, true, true, true, true, true, true] rfl (by decide +kernel) rfl 0 4 rfl rfl rfl ⟨Nat.le_of_ble_eq_true rfl, Nat.le_of_ble_eq_true rfl⟩ hl.1 (Nat.le_of_ble_eq_true rfl) (g_182 (v := 56) bX5_says rfl) ⟨Nat.le_of_ble_eq_true rfl, Nat.le_of_ble_eq_true rfl⟩ (fun r_13 u_15 H locs h_14 => ?_)
      clear hP hD hS
      intro hP hD hS
      obtain ⟨fX_16, hu9, h_14⟩ := h_14
      have hPD := pd_eq [_, _, _, _, _, _, _, _, _, _, _, _, _, _, _, _, _, _, _, _, _, _, _, zzI cy qr 5 fX_16] hP hD hu9 rfl
      clear hP hD hu9
      obtain ⟨hP, hD⟩ := hPD
      subst h_14
      exact endWs [[false, false, false, false, false, false, false, false, false, false, false, false, false, false, false, false, false, false, false, false, false, false, true, true], [true, true, true, true, true, true, true, true, true, true, true, true, true, true, true, true, true, true, true, true, true, true]] hx hb hr hlocks rfl hP hD rfl (by decide +kernel) hS ⟨fX_16, iL, iBs, tU, rfl, trivial⟩ (g_172 bX5_says rfl)
    · obtain ⟨k_17, hk_18, rfl, h_19⟩ := h_10
      refine lv_goto (tgt := 22) hx hb dX5_says_17 (by decide +kernel) ?_
      refine lv_istore_n (lv' := [(3, .int (-3)), (0, .ref qx), (1, .int (nI k_17)), (2, .int (nI k_4))]) hx hb (g_62 bX5_says rfl) rfl hl (by decide +kernel) rfl (fun ls => ?_)
      clear hl
      intro hl
      refine lv_iload_n hx hb (g_29 bX5_says rfl) rfl (lv_at hl 0 rfl) ?_
      refine lv_if_ne (tgt := 45) hx hb dX5_says_24 (by decide +kernel) (fun _ => ?_) (fun h9 => absurd h9 (by decide +kernel))
      refine lv_iload_n hx hb (g_29 bX5_says rfl) rfl (lv_at hl 0 rfl) ?_
      refine lv_if_eq (tgt := 55) hx hb dX5_says_46 (by decide +kernel) (fun h9 => absurd h9 (by decide +kernel)) (fun _ => ?_)
      refine lv_aload_n hx hb (g_42 bX5_says rfl) rfl (lv_at hl 1 rfl) ?_
      refine lv_iload_n hx hb (g_29 bX5_says rfl) rfl (lv_at hl 0 rfl) ?_
      refine cVi (As := [.int (-3)]) (rest := []) (b := qx) (q := (RX5, TX5, 9)) ⟨hx, hb, hml, hown, hts⟩ (c_X5_refuse3 l G cy (s.heap).size qx qt qk qp qs qa qr iKp iYe iTv fR) L_X5_56 hN hP hD hS hA [0, 1] [false, false, true, true, true, true, true, true, true, true, true, true, true, true, true, true, true, true, true, true, true, true, true, true] rfl (by decide +kernel) rfl 0 4 rfl rfl rfl ⟨Nat.le_of_ble_eq_true rfl, Nat.le_of_ble_eq_true rfl⟩ hl.1 (Nat.le_of_ble_eq_true rfl) (g_182 (v := 56) bX5_says rfl) ⟨Nat.le_of_ble_eq_true rfl, Nat.le_of_ble_eq_true rfl⟩ (fun r_22 u_24 H locs h_23 => ?_)
      clear hP hD hS
      intro hP hD hS
      obtain ⟨fX_25, hu9, h_23⟩ := h_23
      have hPD := pd_eq [_, _, _, _, _, _, _, _, _, _, _, _, _, _, _, _, _, _, _, _, _, _, _, zzI cy qr 5 fX_25] hP hD hu9 rfl
      clear hP hD hu9
      obtain ⟨hP, hD⟩ := hPD
      subst h_23
      exact endWs [[false, false, false, false, false, false, false, false, false, false, false, false, false, false, false, false, false, false, false, false, false, false, true, true], [true, true, true, true, true, true, true, true, true, true, true, true, true, true, true, true, true, true, true, true, true, true]] hx hb hr hlocks rfl hP hD rfl (by decide +kernel) hS ⟨fX_25, iL, iBs, tU, rfl, trivial⟩ (g_172 bX5_says rfl)
    · obtain ⟨k_26, hk_27, rfl, h_28, h_29⟩ := h_10
      refine lv_goto (tgt := 22) hx hb dX5_says_17 (by decide +kernel) ?_
      refine lv_istore_n (lv' := [(3, .int 0), (0, .ref qx), (1, .int (nI k_26)), (2, .int (nI k_4))]) hx hb (g_62 bX5_says rfl) rfl hl (by decide +kernel) rfl (fun ls => ?_)
      clear hl
      intro hl
      refine lv_iload_n hx hb (g_29 bX5_says rfl) rfl (lv_at hl 0 rfl) ?_
      refine lv_if_ne (tgt := 45) hx hb dX5_says_24 (by decide +kernel) (fun h9 => absurd (by decide +kernel) h9) (fun _ => ?_)
      refine lv_aload_n hx hb (g_42 bX5_says rfl) rfl (lv_at hl 1 rfl) ?_
      refine va_get (D := G) (ci := 4) (v := .ref qs) (C := RX5) (T := TX5) (N := 9) hx hb hts iX_X5 hown hK hP 0 rfl rfl 3 (by decide +kernel) (hts _ m_t177) (fun _ h9 => h9) rfl (g_180 (v := 29) bX5_says rfl) ?_
      refine lv_iload_n hx hb (g_27 bX5_says rfl) rfl (lv_at hl 2 rfl) ?_
      refine kRi (rV (As := [.int (nI k_26)]) (rest := []) (b := qs) ⟨hx, hb, hml, hown, hts⟩ (c_X2_kindIn l G cy qs qsh qss qsa qse fH k_26 (by first | omega | (simp only [nb_sr, np_sr, nb_wr, np_wr, nb_rd, np_rd, nb_ch, np_ch, nb_zr, np_zr, nb_za, np_za, nb_ey, np_ey, nb_hf, np_hf, nb_dd, np_dd, nb_so, np_so, nb_skn, np_skn, nb_swh, np_swh, nb_sgn, np_sgn, nb_ssd, np_ssd, nb_sgo, np_sgo, nb_sag, np_sag]; omega))) L_X5_103 (preRV (q := (RX2, TX2, 4)) hN hP [2, 3] rfl 2 1 rfl rfl) rfl ⟨Nat.le_of_ble_eq_true rfl, Nat.le_of_ble_eq_true rfl⟩ hl.1 (Nat.le_of_ble_eq_true rfl) (g_182 (v := 103) bX5_says rfl) ⟨Nat.le_of_ble_eq_true rfl, Nat.le_of_ble_eq_true rfl⟩) (fun r_31 h_32 => ?_)
      subst h_32
      refine lv_iload_n hx hb (g_28 bX5_says rfl) rfl (lv_at hl 3 rfl) ?_
      refine kRi (rS (As := [.int ((fH k_26) - 10), .int (nI k_4)]) (rest := []) ⟨hx, hb, hml, hown, hts⟩ (c_X1_isUnder l G cy ((fH k_26) - 10) (nI k_4)) L_X5_106 (preRS hN hP [] rfl) rfl ⟨Nat.le_of_ble_eq_true rfl, Nat.le_of_ble_eq_true rfl⟩ hl.1 (Nat.le_of_ble_eq_true rfl) (g_184 (v := 106) bX5_says rfl) ⟨Nat.le_of_ble_eq_true rfl, Nat.le_of_ble_eq_true rfl⟩) (fun r_33 h_34 => ?_)
      rcases h_34 with ⟨rfl, h_35⟩ | ⟨rfl, h_35⟩
      · refine lv_if_ne (tgt := 45) hx hb dX5_says_39 (by decide +kernel) (fun _ => ?_) (fun h9 => absurd h9 (by decide +kernel))
        refine lv_iload_n hx hb (g_29 bX5_says rfl) rfl (lv_at hl 0 rfl) ?_
        refine lv_if_eq (tgt := 55) hx hb dX5_says_46 (by decide +kernel) (fun _ => ?_) (fun h9 => absurd (by decide +kernel) h9)
        refine lv_iload_n hx hb (g_28 bX5_says rfl) rfl (lv_at hl 3 rfl) ?_
        refine lv_if_ne (tgt := 69) hx hb dX5_says_56 (by decide +kernel) (fun c_38 => ?_) (fun c_38 => ?_)
        · refine lv_aload_n hx hb (g_42 bX5_says rfl) rfl (lv_at hl 1 rfl) ?_
          refine va_get (D := G) (ci := 4) (v := .ref qp) (C := RX5) (T := TX5) (N := 9) hx hb hts iX_X5 hown hK hP 0 rfl rfl 2 (by decide +kernel) (hts _ m_t176) (fun _ h9 => h9) rfl (g_180 (v := 22) bX5_says rfl) ?_
          refine lv_aload_n hx hb (g_42 bX5_says rfl) rfl (lv_at hl 1 rfl) ?_
          refine va_get (D := G) (ci := 4) (v := .ref qt) (C := RX5) (T := TX5) (N := 9) hx hb hts iX_X5 hown hK hP 0 rfl rfl 0 (by decide +kernel) (hts _ m_t174) (fun _ h9 => h9) rfl (g_180 (v := 10) bX5_says rfl) ?_
          refine cVq (As := [.ref qt]) (rest := []) (b := qp) (q := (RX0, TX0, 4)) ⟨hx, hb, hml, hown, hts⟩ (c_X0_trialOf l G cy (s.heap).size qp qu (.ref qv) (.int iL) (.int iBs) tU quw qun qug qua qur qum qut qus qt tA qtw qtn qtg qta qtr qtm qtt qts) L_X5_115 hN hP hD hS hA (trueIxs [[false, false, false, false, false, false, false, false, false, false, false, false, false, false, true, true, true, true, true, true, true, true, true, true], [false, false, false, false, false, true, true, true, true, true, true, true, true, true]]) [true, true, true, true, true, false, false, false, false, false, false, false, false, false, false, false, false, false, false, false, false, false, false, false] (sels_eq rfl rfl) (by decide +kernel) rfl 14 0 rfl rfl rfl ⟨Nat.le_of_ble_eq_true rfl, Nat.le_of_ble_eq_true rfl⟩ hl.1 (Nat.le_of_ble_eq_true rfl) (g_182 (v := 115) bX5_says rfl) ⟨Nat.le_of_ble_eq_true rfl, Nat.le_of_ble_eq_true rfl⟩ (fun r_39 u_41 H locs h_40 => ?_)
          clear hP hD hS
          intro hP hD hS
          obtain ⟨hu9, h_40⟩ := h_40
          have hPD := pd_eq [_, _, _, _, _, _, zzO qu 3 [.int (nI (T_nb tA)), .int (nI (T_np tA)), .int (wb (T_wh tA)), .int (wb (T_gn tA)), .int (T_sd tA), .ref quw, .ref qun, .ref qug, .ref qua, .ref qur, .ref qum, .ref qut, .ref qus], zzI cy quw 8 (T_wo tA), zzI cy qun 8 (T_ne tA), zzI cy qug 8 (T_go tA), zzI cy qua 8 (T_ag tA), zzI cy qur 8 (T_re tA), zzI cy qum 8 (T_me tA), zzI cy qut 8 (T_te tA), zzI cy qus 64 (shF (T_kn tA)), _, _, _, _, _, _, _, _, _] hP hD hu9 rfl
          clear hP hD hu9
          obtain ⟨hP, hD⟩ := hPD
          have h_40 := h_40.symm
          subst h_40
          refine lv_astore (lv' := [(4, .ref qu), (3, .int 0), (0, .ref qx), (1, .int (nI k_26)), (2, .int (nI k_4))]) hx hb (g_58 (v := 4) bX5_says rfl) hl (by decide +kernel) rfl (fun ls => ?_)
          clear hl
          intro hl
          refine lv_aload hx hb (g_25 (v := 4) bX5_says rfl) (lv_at hl 0 rfl) ?_
          refine lv_aload_n hx hb (g_42 bX5_says rfl) rfl (lv_at hl 2 rfl) ?_
          refine va_get (D := G) (ci := 4) (v := .ref qs) (C := RX5) (T := TX5) (N := 9) hx hb hts iX_X5 hown hK hP 0 rfl rfl 3 (by decide +kernel) (hts _ m_t177) (fun _ h9 => h9) rfl (g_180 (v := 29) bX5_says rfl) ?_
          refine lv_iload_n hx hb (g_27 bX5_says rfl) rfl (lv_at hl 3 rfl) ?_
          refine kRi (rV (As := [.int (nI k_26)]) (rest := [.ref qu]) (b := qs) ⟨hx, hb, hml, hown, hts⟩ (c_X2_kindIn l G cy qs qsh qss qsa qse fH k_26 (by first | omega | (simp only [nb_sr, np_sr, nb_wr, np_wr, nb_rd, np_rd, nb_ch, np_ch, nb_zr, np_zr, nb_za, np_za, nb_ey, np_ey, nb_hf, np_hf, nb_dd, np_dd, nb_so, np_so, nb_skn, np_skn, nb_swh, np_swh, nb_sgn, np_sgn, nb_ssd, np_ssd, nb_sgo, np_sgo, nb_sag, np_sag]; omega))) L_X5_103 (preRV (q := (RX2, TX2, 4)) hN hP [2, 3] rfl 2 1 rfl rfl) rfl ⟨Nat.le_of_ble_eq_true rfl, Nat.le_of_ble_eq_true rfl⟩ hl.1 (Nat.le_of_ble_eq_true rfl) (g_182 (v := 103) bX5_says rfl) ⟨Nat.le_of_ble_eq_true rfl, Nat.le_of_ble_eq_true rfl⟩) (fun r_42 h_43 => ?_)
          subst h_43
          refine lv_aload_n hx hb (g_42 bX5_says rfl) rfl (lv_at hl 2 rfl) ?_
          refine va_get (D := G) (ci := 4) (v := .ref qs) (C := RX5) (T := TX5) (N := 9) hx hb hts iX_X5 hown hK hP 0 rfl rfl 3 (by decide +kernel) (hts _ m_t177) (fun _ h9 => h9) rfl (g_180 (v := 29) bX5_says rfl) ?_
          refine va_getN (D := G) (ci := 1) (v := .ref qsa) (C := RX2) (T := TX2) (N := 4) hx hb hts iX_X2 hown hK hP 2 rfl rfl 2 (by decide +kernel) (va_Nw.use rfl (hN.2.1 (RX5, 112, "EachBookOnce$Shelves", "amount", "[I") (List.mem_of_getElem? (i := 28) rfl))) (fun _ h9 => h9) rfl (g_180 (v := 112) bX5_says rfl) ?_
          refine lv_iload_n hx hb (g_27 bX5_says rfl) rfl (lv_at hl 3 rfl) ?_
          refine va_iald hx hb hK hP 4 0 rfl rfl (in8 (by omega)) (g_46 bX5_says rfl) ?_
          refine lv_seti (v := fA k_26) (congrArg fA (cl8 (by omega))) ?_
          refine cSi (As := [.ref qu, .int ((fH k_26) - 10), .int (fA k_26)]) (rest := []) ⟨hx, hb, hml, hown, hts⟩ (c_X1_act l G cy (H).size qu tA quw qun qug qua qur qum qut qus ((fH k_26) - 10) (fA k_26) hB hPp) L_X5_119 hN hP hD hS hA (trueIx 0 [false, false, false, false, false, false, true, true, true, true, true, true, true, true, true]) [true, true, true, true, true, true, false, false, false, false, false, false, false, false, false, true, true, true, true, true, true, true, true, true] (sel_eq rfl rfl) (by decide +kernel) rfl rfl ⟨Nat.le_of_ble_eq_true rfl, Nat.le_of_ble_eq_true rfl⟩ hl.1 (Nat.le_of_ble_eq_true rfl) (g_184 (v := 119) bX5_says rfl) ⟨Nat.le_of_ble_eq_true rfl, Nat.le_of_ble_eq_true rfl⟩ (fun r_44 u_46 H locs h_45 => ?_)
          clear hP hD hS
          intro hP hD hS
          obtain ⟨hu9, h_45⟩ := h_45
          have hPD := pd_eq [_, _, _, _, _, _, _, _, _, _, _, _, _, _, _, zzO qu 3 [.int (nI (T_nb ((zact tA ((fH k_26) - 10) (fA k_26)).1))), .int (nI (T_np ((zact tA ((fH k_26) - 10) (fA k_26)).1))), .int (wb (T_wh ((zact tA ((fH k_26) - 10) (fA k_26)).1))), .int (wb (T_gn ((zact tA ((fH k_26) - 10) (fA k_26)).1))), .int (T_sd ((zact tA ((fH k_26) - 10) (fA k_26)).1)), .ref quw, .ref qun, .ref qug, .ref qua, .ref qur, .ref qum, .ref qut, .ref qus], zzI cy quw 8 (T_wo ((zact tA ((fH k_26) - 10) (fA k_26)).1)), zzI cy qun 8 (T_ne ((zact tA ((fH k_26) - 10) (fA k_26)).1)), zzI cy qug 8 (T_go ((zact tA ((fH k_26) - 10) (fA k_26)).1)), zzI cy qua 8 (T_ag ((zact tA ((fH k_26) - 10) (fA k_26)).1)), zzI cy qur 8 (T_re ((zact tA ((fH k_26) - 10) (fA k_26)).1)), zzI cy qum 8 (T_me ((zact tA ((fH k_26) - 10) (fA k_26)).1)), zzI cy qut 8 (T_te ((zact tA ((fH k_26) - 10) (fA k_26)).1)), zzI cy qus 64 (shF (T_kn ((zact tA ((fH k_26) - 10) (fA k_26)).1)))] hP hD hu9 rfl
          clear hP hD hu9
          obtain ⟨hP, hD⟩ := hPD
          subst h_45
          refine lv_istore (lv' := [(5, .int ((zact tA ((fH k_26) - 10) (fA k_26)).2)), (4, .ref qu), (3, .int 0), (0, .ref qx), (1, .int (nI k_26)), (2, .int (nI k_4))]) hx hb (g_54 (v := 5) bX5_says rfl) hl (by decide +kernel) rfl (fun ls => ?_)
          clear hl
          intro hl
          refine lv_iload_n hx hb (g_28 bX5_says rfl) rfl (lv_at hl 5 rfl) ?_
          refine lv_iconst (v := 3) hx hb (g_6 bX5_says rfl) (by decide +kernel) ?_
          refine lv_icmp_gt (tgt := 116) hx hb dX5_says_108 (by decide +kernel) (fun c_47 => ?_) (fun c_47 => ?_)
          · refine lv_aload hx hb (g_25 (v := 4) bX5_says rfl) (lv_at hl 1 rfl) ?_
            refine kRi (rV (As := []) (rest := []) (b := qu) ⟨hx, hb, hml, hown, hts⟩ (c_X4_worthNow l G cy qu ((zact tA ((fH k_26) - 10) (fA k_26)).1) quw qun qug qua qur qum qut qus (by first | omega | (simp only [nb_sr, np_sr, nb_wr, np_wr, nb_rd, np_rd, nb_ch, np_ch, nb_zr, np_zr, nb_za, np_za, nb_ey, np_ey, nb_hf, np_hf, nb_dd, np_dd, nb_so, np_so, nb_skn, np_skn, nb_swh, np_swh, nb_sgn, np_sgn, nb_ssd, np_ssd, nb_sgo, np_sgo, nb_sag, np_sag]; omega)) (by first | omega | (simp only [nb_sr, np_sr, nb_wr, np_wr, nb_rd, np_rd, nb_ch, np_ch, nb_zr, np_zr, nb_za, np_za, nb_ey, np_ey, nb_hf, np_hf, nb_dd, np_dd, nb_so, np_so, nb_skn, np_skn, nb_swh, np_swh, nb_sgn, np_sgn, nb_ssd, np_ssd, nb_sgo, np_sgo, nb_sag, np_sag]; omega))) L_X5_123 (preRV (q := (RX4, TX4, 13)) hN hP (trueIx 0 [false, false, false, false, false, false, false, false, false, false, false, false, false, false, false, true, true, false, false, false, false, false, false, true]) (sel_fm rfl rfl) 15 3 rfl rfl) rfl ⟨Nat.le_of_ble_eq_true rfl, Nat.le_of_ble_eq_true rfl⟩ hl.1 (Nat.le_of_ble_eq_true rfl) (g_182 (v := 123) bX5_says rfl) ⟨Nat.le_of_ble_eq_true rfl, Nat.le_of_ble_eq_true rfl⟩) (fun r_48 h_49 => ?_)
            subst h_49
            exact endWs [[true, true, true, true, true, false, true, true, true, true, true, true, true, true, true], [false, false, false, false, false, true, false, false, false, false, false, false, false, false, false, true, true, true, true, true, true, true, true, true]] hx hb hr hlocks rfl hP hD rfl (by decide +kernel) hS ⟨fR, iL, iBs, ((zact tA ((fH k_26) - 10) (fA k_26)).1), rfl, trivial⟩ (g_172 bX5_says rfl)
          · refine lv_iload hx hb (g_21 (v := 5) bX5_says rfl) (lv_at hl 0 rfl) ?_
            refine lv_goto (tgt := 121) hx hb dX5_says_113 (by decide +kernel) ?_
            exact endWs [[true, true, true, true, true, false, true, true, true, true, true, true, true, true, true], [false, false, false, false, false, true, false, false, false, false, false, false, false, false, false, true, true, true, true, true, true, true, true, true]] hx hb hr hlocks rfl hP hD rfl (by decide +kernel) hS ⟨fR, iL, iBs, ((zact tA ((fH k_26) - 10) (fA k_26)).1), rfl, trivial⟩ (g_172 bX5_says rfl)
        · refine lv_aload_n hx hb (g_42 bX5_says rfl) rfl (lv_at hl 1 rfl) ?_
          refine va_get (D := G) (ci := 4) (v := .ref qs) (C := RX5) (T := TX5) (N := 9) hx hb hts iX_X5 hown hK hP 0 rfl rfl 3 (by decide +kernel) (hts _ m_t177) (fun _ h9 => h9) rfl (g_180 (v := 29) bX5_says rfl) ?_
          refine va_getN (D := G) (ci := 1) (v := .ref qsa) (C := RX2) (T := TX2) (N := 4) hx hb hts iX_X2 hown hK hP 2 rfl rfl 2 (by decide +kernel) (va_Nw.use rfl (hN.2.1 (RX5, 112, "EachBookOnce$Shelves", "amount", "[I") (List.mem_of_getElem? (i := 28) rfl))) (fun _ h9 => h9) rfl (g_180 (v := 112) bX5_says rfl) ?_
          refine lv_iload_n hx hb (g_27 bX5_says rfl) rfl (lv_at hl 2 rfl) ?_
          refine va_iald hx hb hK hP 4 0 rfl rfl (in8 (by omega)) (g_46 bX5_says rfl) ?_
          refine lv_seti (v := fA k_26) (congrArg fA (cl8 (by omega))) ?_
          exact endWs [[true, true, true, true, true, true, true, true, true, true, true, true, true, true, true, true, true, true, true, true, true, true, true, true]] hx hb hr hlocks rfl hP hD rfl (by decide +kernel) hS ⟨fR, iL, iBs, tU, rfl, trivial⟩ (g_172 bX5_says rfl)
      · refine lv_if_ne (tgt := 45) hx hb dX5_says_39 (by decide +kernel) (fun h9 => absurd (by decide +kernel) h9) (fun _ => ?_)
        refine lv_bipush (v := (-3)) hx hb dX5_says_42 (by decide +kernel) ?_
        refine lv_istore_n (lv' := [(3, .int (-3)), (0, .ref qx), (1, .int (nI k_26)), (2, .int (nI k_4))]) hx hb (g_62 bX5_says rfl) rfl hl (by decide +kernel) rfl (fun ls => ?_)
        clear hl
        intro hl
        refine lv_iload_n hx hb (g_29 bX5_says rfl) rfl (lv_at hl 0 rfl) ?_
        refine lv_if_eq (tgt := 55) hx hb dX5_says_46 (by decide +kernel) (fun h9 => absurd h9 (by decide +kernel)) (fun _ => ?_)
        refine lv_aload_n hx hb (g_42 bX5_says rfl) rfl (lv_at hl 1 rfl) ?_
        refine lv_iload_n hx hb (g_29 bX5_says rfl) rfl (lv_at hl 0 rfl) ?_
        refine cVi (As := [.int (-3)]) (rest := []) (b := qx) (q := (RX5, TX5, 9)) ⟨hx, hb, hml, hown, hts⟩ (c_X5_refuse3 l G cy (s.heap).size qx qt qk qp qs qa qr iKp iYe iTv fR) L_X5_56 hN hP hD hS hA [0, 1] [false, false, true, true, true, true, true, true, true, true, true, true, true, true, true, true, true, true, true, true, true, true, true, true] rfl (by decide +kernel) rfl 0 4 rfl rfl rfl ⟨Nat.le_of_ble_eq_true rfl, Nat.le_of_ble_eq_true rfl⟩ hl.1 (Nat.le_of_ble_eq_true rfl) (g_182 (v := 56) bX5_says rfl) ⟨Nat.le_of_ble_eq_true rfl, Nat.le_of_ble_eq_true rfl⟩ (fun r_52 u_54 H locs h_53 => ?_)
        clear hP hD hS
        intro hP hD hS
        obtain ⟨fX_55, hu9, h_53⟩ := h_53
        have hPD := pd_eq [_, _, _, _, _, _, _, _, _, _, _, _, _, _, _, _, _, _, _, _, _, _, _, zzI cy qr 5 fX_55] hP hD hu9 rfl
        clear hP hD hu9
        obtain ⟨hP, hD⟩ := hPD
        subst h_53
        exact endWs [[false, false, false, false, false, false, false, false, false, false, false, false, false, false, false, false, false, false, false, false, false, false, true, true], [true, true, true, true, true, true, true, true, true, true, true, true, true, true, true, true, true, true, true, true, true, true]] hx hb hr hlocks rfl hP hD rfl (by decide +kernel) hS ⟨fX_55, iL, iBs, tU, rfl, trivial⟩ (g_172 bX5_says rfl)
    · obtain ⟨k_56, hk_57, rfl, h_58, h_59⟩ := h_10
      refine lv_goto (tgt := 22) hx hb dX5_says_17 (by decide +kernel) ?_
      refine lv_istore_n (lv' := [(3, .int (-4)), (0, .ref qx), (1, .int (nI k_56)), (2, .int (nI k_4))]) hx hb (g_62 bX5_says rfl) rfl hl (by decide +kernel) rfl (fun ls => ?_)
      clear hl
      intro hl
      refine lv_iload_n hx hb (g_29 bX5_says rfl) rfl (lv_at hl 0 rfl) ?_
      refine lv_if_ne (tgt := 45) hx hb dX5_says_24 (by decide +kernel) (fun _ => ?_) (fun h9 => absurd h9 (by decide +kernel))
      refine lv_iload_n hx hb (g_29 bX5_says rfl) rfl (lv_at hl 0 rfl) ?_
      refine lv_if_eq (tgt := 55) hx hb dX5_says_46 (by decide +kernel) (fun h9 => absurd h9 (by decide +kernel)) (fun _ => ?_)
      refine lv_aload_n hx hb (g_42 bX5_says rfl) rfl (lv_at hl 1 rfl) ?_
      refine lv_iload_n hx hb (g_29 bX5_says rfl) rfl (lv_at hl 0 rfl) ?_
      refine cVi (As := [.int (-4)]) (rest := []) (b := qx) (q := (RX5, TX5, 9)) ⟨hx, hb, hml, hown, hts⟩ (c_X5_refuse4 l G cy (s.heap).size qx qt qk qp qs qa qr iKp iYe iTv fR) L_X5_56 hN hP hD hS hA [0, 1] [false, false, true, true, true, true, true, true, true, true, true, true, true, true, true, true, true, true, true, true, true, true, true, true] rfl (by decide +kernel) rfl 0 4 rfl rfl rfl ⟨Nat.le_of_ble_eq_true rfl, Nat.le_of_ble_eq_true rfl⟩ hl.1 (Nat.le_of_ble_eq_true rfl) (g_182 (v := 56) bX5_says rfl) ⟨Nat.le_of_ble_eq_true rfl, Nat.le_of_ble_eq_true rfl⟩ (fun r_62 u_64 H locs h_63 => ?_)
      clear hP hD hS
      intro hP hD hS
      obtain ⟨fX_65, hu9, h_63⟩ := h_63
      have hPD := pd_eq [_, _, _, _, _, _, _, _, _, _, _, _, _, _, _, _, _, _, _, _, _, _, _, zzI cy qr 5 fX_65] hP hD hu9 rfl
      clear hP hD hu9
      obtain ⟨hP, hD⟩ := hPD
      subst h_63
      exact endWs [[false, false, false, false, false, false, false, false, false, false, false, false, false, false, false, false, false, false, false, false, false, false, true, true], [true, true, true, true, true, true, true, true, true, true, true, true, true, true, true, true, true, true, true, true, true, true]] hx hb hr hlocks rfl hP hD rfl (by decide +kernel) hS ⟨fX_65, iL, iBs, tU, rfl, trivial⟩ (g_172 bX5_says rfl)
  · refine lv_if_eq (tgt := 20) hx hb dX5_says_9 (by decide +kernel) (fun _ => ?_) (fun h9 => absurd (by decide +kernel) h9)
    refine lv_bipush (v := (-2)) hx hb dX5_says_20 (by decide +kernel) ?_
    refine lv_istore_n (lv' := [(3, .int (-2)), (0, .ref qx), (1, .int iA), (2, .int iB)]) hx hb (g_62 bX5_says rfl) rfl hl (by decide +kernel) rfl (fun ls => ?_)
    clear hl
    intro hl
    refine lv_iload_n hx hb (g_29 bX5_says rfl) rfl (lv_at hl 0 rfl) ?_
    refine lv_if_ne (tgt := 45) hx hb dX5_says_24 (by decide +kernel) (fun _ => ?_) (fun h9 => absurd h9 (by decide +kernel))
    refine lv_iload_n hx hb (g_29 bX5_says rfl) rfl (lv_at hl 0 rfl) ?_
    refine lv_if_eq (tgt := 55) hx hb dX5_says_46 (by decide +kernel) (fun h9 => absurd h9 (by decide +kernel)) (fun _ => ?_)
    refine lv_aload_n hx hb (g_42 bX5_says rfl) rfl (lv_at hl 1 rfl) ?_
    refine lv_iload_n hx hb (g_29 bX5_says rfl) rfl (lv_at hl 0 rfl) ?_
    refine cVi (As := [.int (-2)]) (rest := []) (b := qx) (q := (RX5, TX5, 9)) ⟨hx, hb, hml, hown, hts⟩ (c_X5_refuse2 l G cy (s.heap).size qx qt qk qp qs qa qr iKp iYe iTv fR) L_X5_56 hN hP hD hS hA [0, 1] [false, false, true, true, true, true, true, true, true, true, true, true, true, true, true, true, true, true, true, true, true, true, true, true] rfl (by decide +kernel) rfl 0 4 rfl rfl rfl ⟨Nat.le_of_ble_eq_true rfl, Nat.le_of_ble_eq_true rfl⟩ hl.1 (Nat.le_of_ble_eq_true rfl) (g_182 (v := 56) bX5_says rfl) ⟨Nat.le_of_ble_eq_true rfl, Nat.le_of_ble_eq_true rfl⟩ (fun r_69 u_71 H locs h_70 => ?_)
    clear hP hD hS
    intro hP hD hS
    obtain ⟨fX_72, hu9, h_70⟩ := h_70
    have hPD := pd_eq [_, _, _, _, _, _, _, _, _, _, _, _, _, _, _, _, _, _, _, _, _, _, _, zzI cy qr 5 fX_72] hP hD hu9 rfl
    clear hP hD hu9
    obtain ⟨hP, hD⟩ := hPD
    subst h_70
    exact endWs [[false, false, false, false, false, false, false, false, false, false, false, false, false, false, false, false, false, false, false, false, false, false, true, true], [true, true, true, true, true, true, true, true, true, true, true, true, true, true, true, true, true, true, true, true, true, true]] hx hb hr hlocks rfl hP hD rfl (by decide +kernel) hS ⟨fX_72, iL, iBs, tU, rfl, trivial⟩ (g_172 bX5_says rfl)
set_option maxHeartbeats 4000000 in
set_option maxRecDepth 100000 in
theorem p_X5_book (l : Launch) (G : va_G) (cy : Nat → ClassId) (sz : Nat) (qx : Nat) (qt : Nat) (qk : Nat) (qp : Nat) (qs : Nat) (qa : Nat) (qr : Nat) (iKp : Int32) (iYe : Int32) (iTv : Int32) (fR : Nat → Int32) (tA : TA) (qtw : Nat) (qtn : Nat) (qtg : Nat) (qta : Nat) (qtr : Nat) (qtm : Nat) (qtt : Nat) (qts : Nat) (iA : Int32) (iB : Int32)  (hB : T_nb tA ≤ 8) (hPp : T_np tA ≤ 8) : MW l yX5_book cX5_book 3 (some .int) 12 0 0 G cy [zzO qx 4 [.ref qt, .ref qk, .ref qp, .ref qs, .ref qa, .ref qr, .int iKp, .int iYe, .int iTv], zzI cy qr 5 fR, zzO qt 3 [.int (nI (T_nb tA)), .int (nI (T_np tA)), .int (wb (T_wh tA)), .int (wb (T_gn tA)), .int (T_sd tA), .ref qtw, .ref qtn, .ref qtg, .ref qta, .ref qtr, .ref qtm, .ref qtt, .ref qts], zzI cy qtw 8 (T_wo tA), zzI cy qtn 8 (T_ne tA), zzI cy qtg 8 (T_go tA), zzI cy qta 8 (T_ag tA), zzI cy qtr 8 (T_re tA), zzI cy qtm 8 (T_me tA), zzI cy qtt 8 (T_te tA), zzI cy qts 64 (shF (T_kn tA))] sz [.ref qx, .int iA, .int iB] (Wi G (fun r u => ∃ (fX : Nat → Int32) (tN : TA), u = [zzO qx 4 [.ref qt, .ref qk, .ref qp, .ref qs, .ref qa, .ref qr, .int iKp, .int iYe, .int iTv], zzI cy qr 5 fX, zzO qt 3 [.int (nI (T_nb tN)), .int (nI (T_np tN)), .int (wb (T_wh tN)), .int (wb (T_gn tN)), .int (T_sd tN), .ref qtw, .ref qtn, .ref qtg, .ref qta, .ref qtr, .ref qtm, .ref qtt, .ref qts], zzI cy qtw 8 (T_wo tN), zzI cy qtn 8 (T_ne tN), zzI cy qtg 8 (T_go tN), zzI cy qta 8 (T_ag tN), zzI cy qtr 8 (T_re tN), zzI cy qtm 8 (T_me tN), zzI cy qtt 8 (T_te tN), zzI cy qts 64 (shF (T_kn tN))] ∧ (PXbook tA iA iB r tN) ∧ (True))) := by
  refine enW RX5 (by decide +kernel) rfl (Nat.le_of_ble_eq_true rfl) (fun p e s m below meth c ls A hx hb hml hown hts hr hlocks hP hN hl hin hD hA hS => ?_)
  have hin : meth.name = _ := hin
  have hK := hN.1
  replace hl : lv_has ls 3 [(0, .ref qx), (1, .int iA), (2, .int iB)] := hl
  refine lv_iload_n hx hb (g_27 bX5_book rfl) rfl (lv_at hl 1 rfl) ?_
  refine lv_i2l (v := iA.toInt64) hx hb (g_133 bX5_book rfl) rfl ?_
  refine lv_lconst (v := 1) hx hb (g_10 bX5_book rfl) (by decide +kernel) ?_
  refine lv_ldc2 hx hb hown (hts _ m_t282) (g_20 (v := 95) bX5_book rfl) ?_
  refine kRi (rS (As := [.long iA.toInt64, .long 1, .long 99]) (rest := []) ⟨hx, hb, hml, hown, hts⟩ (c_X5_within l G cy iA.toInt64 1 99) L_X5_50 (preRS hN hP [] rfl) rfl ⟨Nat.le_of_ble_eq_true rfl, Nat.le_of_ble_eq_true rfl⟩ hl.1 (Nat.le_of_ble_eq_true rfl) (g_184 (v := 50) bX5_book rfl) ⟨Nat.le_of_ble_eq_true rfl, Nat.le_of_ble_eq_true rfl⟩) (fun r_1 h_2 => ?_)
  rcases h_2 with ⟨rfl, h_3⟩ | ⟨rfl, h_3⟩
  · obtain ⟨k_4, hk_5, hk_6, rfl⟩ := iv_nI 1 99 (by decide +kernel) (by decide +kernel) h_3
    refine lv_if_eq (tgt := 26) hx hb dX5_book_9 (by decide +kernel) (fun h9 => absurd h9 (by decide +kernel)) (fun _ => ?_)
    refine lv_iload_n hx hb (g_28 bX5_book rfl) rfl (lv_at hl 2 rfl) ?_
    refine lv_aload_n hx hb (g_42 bX5_book rfl) rfl (lv_at hl 0 rfl) ?_
    refine va_get (D := G) (ci := 4) (v := .ref qt) (C := RX5) (T := TX5) (N := 9) hx hb hts iX_X5 hown hK hP 0 rfl rfl 0 (by decide +kernel) (hts _ m_t174) (fun _ h9 => h9) rfl (g_180 (v := 10) bX5_book rfl) ?_
    refine va_getN (D := G) (ci := 3) (v := .int (nI (T_nb tA))) (C := RX4) (T := TX4) (N := 13) hx hb hts iX_X4 hown hK hP 2 rfl rfl 0 (by decide +kernel) (va_Nw.use rfl (hN.2.1 (RX5, 127, "EachBookOnce$Town", "books", "I") (List.mem_of_getElem? (i := 3) rfl))) (fun _ h9 => h9) rfl (g_180 (v := 127) bX5_book rfl) ?_
    refine kRi (rS (As := [.int iB, .int (nI (T_nb tA))]) (rest := []) ⟨hx, hb, hml, hown, hts⟩ (c_X5_isSetOf l G cy iB (nI (T_nb tA))) L_X5_131 (preRS hN hP [] rfl) rfl ⟨Nat.le_of_ble_eq_true rfl, Nat.le_of_ble_eq_true rfl⟩ hl.1 (Nat.le_of_ble_eq_true rfl) (g_184 (v := 131) bX5_book rfl) ⟨Nat.le_of_ble_eq_true rfl, Nat.le_of_ble_eq_true rfl⟩) (fun r_8 h_9 => ?_)
    rcases h_9 with ⟨rfl, h_10⟩ | ⟨rfl, h_10⟩
    · refine lv_if_ne (tgt := 33) hx hb dX5_book_23 (by decide +kernel) (fun _ => ?_) (fun h9 => absurd h9 (by decide +kernel))
      refine lv_aload_n hx hb (g_42 bX5_book rfl) rfl (lv_at hl 0 rfl) ?_
      refine va_get (D := G) (ci := 4) (v := .ref qt) (C := RX5) (T := TX5) (N := 9) hx hb hts iX_X5 hown hK hP 0 rfl rfl 0 (by decide +kernel) (hts _ m_t174) (fun _ h9 => h9) rfl (g_180 (v := 10) bX5_book rfl) ?_
      refine va_getN (D := G) (ci := 3) (v := .int (nI (T_nb tA))) (C := RX4) (T := TX4) (N := 13) hx hb hts iX_X4 hown hK hP 2 rfl rfl 0 (by decide +kernel) (va_Nw.use rfl (hN.2.1 (RX5, 127, "EachBookOnce$Town", "books", "I") (List.mem_of_getElem? (i := 3) rfl))) (fun _ h9 => h9) rfl (g_180 (v := 127) bX5_book rfl) ?_
      refine lv_bipush (v := 8) hx hb dX5_book_40 (by decide +kernel) ?_
      refine lv_icmp_lt (tgt := 52) hx hb dX5_book_42 (by decide +kernel) (fun c_12 => ?_) (fun c_12 => ?_)
      · have hfull : T_nb tA < 8 := lt_of8 (by omega) c_12
        refine lv_aload_n hx hb (g_42 bX5_book rfl) rfl (lv_at hl 0 rfl) ?_
        refine va_get (D := G) (ci := 4) (v := .ref qt) (C := RX5) (T := TX5) (N := 9) hx hb hts iX_X5 hown hK hP 0 rfl rfl 0 (by decide +kernel) (hts _ m_t174) (fun _ h9 => h9) rfl (g_180 (v := 10) bX5_book rfl) ?_
        refine lv_iload_n hx hb (g_27 bX5_book rfl) rfl (lv_at hl 1 rfl) ?_
        refine lv_iload_n hx hb (g_28 bX5_book rfl) rfl (lv_at hl 2 rfl) ?_
        refine cVi (As := [.int (nI k_4), .int iB]) (rest := []) (b := qt) (q := (RX4, TX4, 13)) ⟨hx, hb, hml, hown, hts⟩ (c_X4_addBook l G cy (s.heap).size qt tA qtw qtn qtg qta qtr qtm qtt qts (nI k_4) iB (by first | omega | (simp only [nb_sr, np_sr, nb_wr, np_wr, nb_rd, np_rd, nb_ch, np_ch, nb_zr, np_zr, nb_za, np_za, nb_ey, np_ey, nb_hf, np_hf, nb_dd, np_dd, nb_so, np_so, nb_skn, np_skn, nb_swh, np_swh, nb_sgn, np_sgn, nb_ssd, np_ssd, nb_sgo, np_sgo, nb_sag, np_sag]; omega))) L_X5_134 hN hP hD hS hA (trueIx 0 [false, false, true, true, true, true, true, true, true, true, true]) [true, true, false, false, false, false, false, false, false, false, false] (sel_eq rfl rfl) (by decide +kernel) rfl 2 3 rfl rfl rfl ⟨Nat.le_of_ble_eq_true rfl, Nat.le_of_ble_eq_true rfl⟩ hl.1 (Nat.le_of_ble_eq_true rfl) (g_182 (v := 134) bX5_book rfl) ⟨Nat.le_of_ble_eq_true rfl, Nat.le_of_ble_eq_true rfl⟩ (fun r_13 u_15 H locs h_14 => ?_)
        clear hP hD hS
        intro hP hD hS
        obtain ⟨hu9, h_14⟩ := h_14
        have hPD := pd_eq [_, _, zzO qt 3 [.int (nI (T_nb (zab tA (nI k_4) iB))), .int (nI (T_np (zab tA (nI k_4) iB))), .int (wb (T_wh (zab tA (nI k_4) iB))), .int (wb (T_gn (zab tA (nI k_4) iB))), .int (T_sd (zab tA (nI k_4) iB)), .ref qtw, .ref qtn, .ref qtg, .ref qta, .ref qtr, .ref qtm, .ref qtt, .ref qts], zzI cy qtw 8 (T_wo (zab tA (nI k_4) iB)), zzI cy qtn 8 (T_ne (zab tA (nI k_4) iB)), zzI cy qtg 8 (T_go (zab tA (nI k_4) iB)), zzI cy qta 8 (T_ag (zab tA (nI k_4) iB)), zzI cy qtr 8 (T_re (zab tA (nI k_4) iB)), zzI cy qtm 8 (T_me (zab tA (nI k_4) iB)), zzI cy qtt 8 (T_te (zab tA (nI k_4) iB)), zzI cy qts 64 (shF (T_kn (zab tA (nI k_4) iB)))] hP hD hu9 rfl
        clear hP hD hu9
        obtain ⟨hP, hD⟩ := hPD
        subst h_14
        exact endWs [[true, true, true, true, true, true, true, true, true, true, true]] hx hb hr hlocks rfl hP hD rfl (by decide +kernel) hS ⟨fR, (zab tA (nI k_4) iB), rfl, Or.inr (Or.inr ⟨rfl, h_3, h_10, lt_of8 (by omega) c_12, rfl⟩), trivial⟩ (g_172 bX5_book rfl)
      · refine lv_aload_n hx hb (g_42 bX5_book rfl) rfl (lv_at hl 0 rfl) ?_
        refine lv_bipush (v := (-6)) hx hb dX5_book_46 (by decide +kernel) ?_
        refine cVi (As := [.int (-6)]) (rest := []) (b := qx) (q := (RX5, TX5, 9)) ⟨hx, hb, hml, hown, hts⟩ (c_X5_refuse6 l G cy (s.heap).size qx qt qk qp qs qa qr iKp iYe iTv fR) L_X5_56 hN hP hD hS hA [0, 1] [false, false, true, true, true, true, true, true, true, true, true] rfl (by decide +kernel) rfl 0 4 rfl rfl rfl ⟨Nat.le_of_ble_eq_true rfl, Nat.le_of_ble_eq_true rfl⟩ hl.1 (Nat.le_of_ble_eq_true rfl) (g_182 (v := 56) bX5_book rfl) ⟨Nat.le_of_ble_eq_true rfl, Nat.le_of_ble_eq_true rfl⟩ (fun r_16 u_18 H locs h_17 => ?_)
        clear hP hD hS
        intro hP hD hS
        obtain ⟨fX_19, hu9, h_17⟩ := h_17
        have hPD := pd_eq [_, _, _, _, _, _, _, _, _, _, zzI cy qr 5 fX_19] hP hD hu9 rfl
        clear hP hD hu9
        obtain ⟨hP, hD⟩ := hPD
        subst h_17
        exact endWs [[false, false, false, false, false, false, false, false, false, true, true], [true, true, true, true, true, true, true, true, true]] hx hb hr hlocks rfl hP hD rfl (by decide +kernel) hS ⟨fX_19, tA, rfl, Or.inr (Or.inl ⟨rfl, h_3, h_10, nlt_of8 (by omega) c_12, rfl⟩), trivial⟩ (g_172 bX5_book rfl)
    · refine lv_if_ne (tgt := 33) hx hb dX5_book_23 (by decide +kernel) (fun h9 => absurd (by decide +kernel) h9) (fun _ => ?_)
      refine lv_aload_n hx hb (g_42 bX5_book rfl) rfl (lv_at hl 0 rfl) ?_
      refine lv_bipush (v := (-2)) hx hb dX5_book_27 (by decide +kernel) ?_
      refine cVi (As := [.int (-2)]) (rest := []) (b := qx) (q := (RX5, TX5, 9)) ⟨hx, hb, hml, hown, hts⟩ (c_X5_refuse2 l G cy (s.heap).size qx qt qk qp qs qa qr iKp iYe iTv fR) L_X5_56 hN hP hD hS hA [0, 1] [false, false, true, true, true, true, true, true, true, true, true] rfl (by decide +kernel) rfl 0 4 rfl rfl rfl ⟨Nat.le_of_ble_eq_true rfl, Nat.le_of_ble_eq_true rfl⟩ hl.1 (Nat.le_of_ble_eq_true rfl) (g_182 (v := 56) bX5_book rfl) ⟨Nat.le_of_ble_eq_true rfl, Nat.le_of_ble_eq_true rfl⟩ (fun r_21 u_23 H locs h_22 => ?_)
      clear hP hD hS
      intro hP hD hS
      obtain ⟨fX_24, hu9, h_22⟩ := h_22
      have hPD := pd_eq [_, _, _, _, _, _, _, _, _, _, zzI cy qr 5 fX_24] hP hD hu9 rfl
      clear hP hD hu9
      obtain ⟨hP, hD⟩ := hPD
      subst h_22
      exact endWs [[false, false, false, false, false, false, false, false, false, true, true], [true, true, true, true, true, true, true, true, true]] hx hb hr hlocks rfl hP hD rfl (by decide +kernel) hS ⟨fX_24, tA, rfl, Or.inl ⟨rfl, (fun q => h_10 (q.2)), rfl⟩, trivial⟩ (g_172 bX5_book rfl)
  · refine lv_if_eq (tgt := 26) hx hb dX5_book_9 (by decide +kernel) (fun _ => ?_) (fun h9 => absurd (by decide +kernel) h9)
    refine lv_aload_n hx hb (g_42 bX5_book rfl) rfl (lv_at hl 0 rfl) ?_
    refine lv_bipush (v := (-2)) hx hb dX5_book_27 (by decide +kernel) ?_
    refine cVi (As := [.int (-2)]) (rest := []) (b := qx) (q := (RX5, TX5, 9)) ⟨hx, hb, hml, hown, hts⟩ (c_X5_refuse2 l G cy (s.heap).size qx qt qk qp qs qa qr iKp iYe iTv fR) L_X5_56 hN hP hD hS hA [0, 1] [false, false, true, true, true, true, true, true, true, true, true] rfl (by decide +kernel) rfl 0 4 rfl rfl rfl ⟨Nat.le_of_ble_eq_true rfl, Nat.le_of_ble_eq_true rfl⟩ hl.1 (Nat.le_of_ble_eq_true rfl) (g_182 (v := 56) bX5_book rfl) ⟨Nat.le_of_ble_eq_true rfl, Nat.le_of_ble_eq_true rfl⟩ (fun r_26 u_28 H locs h_27 => ?_)
    clear hP hD hS
    intro hP hD hS
    obtain ⟨fX_29, hu9, h_27⟩ := h_27
    have hPD := pd_eq [_, _, _, _, _, _, _, _, _, _, zzI cy qr 5 fX_29] hP hD hu9 rfl
    clear hP hD hu9
    obtain ⟨hP, hD⟩ := hPD
    subst h_27
    exact endWs [[false, false, false, false, false, false, false, false, false, true, true], [true, true, true, true, true, true, true, true, true]] hx hb hr hlocks rfl hP hD rfl (by decide +kernel) hS ⟨fX_29, tA, rfl, Or.inl ⟨rfl, (fun q => h_3 (q.1)), rfl⟩, trivial⟩ (g_172 bX5_book rfl)
set_option maxHeartbeats 4000000 in
set_option maxRecDepth 100000 in
theorem p_X5_one (l : Launch) (G : va_G) (cy : Nat → ClassId) (sz : Nat) (qx : Nat) (qt : Nat) (qk : Nat) (qp : Nat) (qs : Nat) (qa : Nat) (qr : Nat) (iKp : Int32) (iYe : Int32) (iTv : Int32) (fR : Nat → Int32) (tA : TA) (qtw : Nat) (qtn : Nat) (qtg : Nat) (qta : Nat) (qtr : Nat) (qtm : Nat) (qtt : Nat) (qts : Nat) (iA : Int32) (iB : Int32) (iC : Int32) (iD : Int32)  (hB : T_nb tA ≤ 8) (hPp : T_np tA ≤ 8) : MW l yX5_one cX5_one 5 (some .int) 12 0 0 G cy [zzO qx 4 [.ref qt, .ref qk, .ref qp, .ref qs, .ref qa, .ref qr, .int iKp, .int iYe, .int iTv], zzI cy qr 5 fR, zzO qt 3 [.int (nI (T_nb tA)), .int (nI (T_np tA)), .int (wb (T_wh tA)), .int (wb (T_gn tA)), .int (T_sd tA), .ref qtw, .ref qtn, .ref qtg, .ref qta, .ref qtr, .ref qtm, .ref qtt, .ref qts], zzI cy qtw 8 (T_wo tA), zzI cy qtn 8 (T_ne tA), zzI cy qtg 8 (T_go tA), zzI cy qta 8 (T_ag tA), zzI cy qtr 8 (T_re tA), zzI cy qtm 8 (T_me tA), zzI cy qtt 8 (T_te tA), zzI cy qts 64 (shF (T_kn tA))] sz [.ref qx, .int iA, .int iB, .int iC, .int iD] (Wi G (fun r u => ∃ (fX : Nat → Int32) (tN : TA), u = [zzO qx 4 [.ref qt, .ref qk, .ref qp, .ref qs, .ref qa, .ref qr, .int iKp, .int iYe, .int iTv], zzI cy qr 5 fX, zzO qt 3 [.int (nI (T_nb tN)), .int (nI (T_np tN)), .int (wb (T_wh tN)), .int (wb (T_gn tN)), .int (T_sd tN), .ref qtw, .ref qtn, .ref qtg, .ref qta, .ref qtr, .ref qtm, .ref qtt, .ref qts], zzI cy qtw 8 (T_wo tN), zzI cy qtn 8 (T_ne tN), zzI cy qtg 8 (T_go tN), zzI cy qta 8 (T_ag tN), zzI cy qtr 8 (T_re tN), zzI cy qtm 8 (T_me tN), zzI cy qtt 8 (T_te tN), zzI cy qts 64 (shF (T_kn tN))] ∧ (PXone tA iA iB iC iD r tN) ∧ (True))) := by
  refine enW RX5 (by decide +kernel) rfl (Nat.le_of_ble_eq_true rfl) (fun p e s m below meth c ls A hx hb hml hown hts hr hlocks hP hN hl hin hD hA hS => ?_)
  have hin : meth.name = _ := hin
  have hK := hN.1
  replace hl : lv_has ls 5 [(0, .ref qx), (1, .int iA), (2, .int iB), (3, .int iC), (4, .int iD)] := hl
  refine lv_iload_n hx hb (g_27 bX5_one rfl) rfl (lv_at hl 1 rfl) ?_
  refine lv_i2l (v := iA.toInt64) hx hb (g_133 bX5_one rfl) rfl ?_
  refine lv_iload_n hx hb (g_28 bX5_one rfl) rfl (lv_at hl 2 rfl) ?_
  refine lv_i2l (v := iB.toInt64) hx hb (g_133 bX5_one rfl) rfl ?_
  refine lv_iload_n hx hb (g_29 bX5_one rfl) rfl (lv_at hl 3 rfl) ?_
  refine lv_i2l (v := iC.toInt64) hx hb (g_133 bX5_one rfl) rfl ?_
  refine lv_iload hx hb (g_21 (v := 4) bX5_one rfl) (lv_at hl 4 rfl) ?_
  refine lv_i2l (v := iD.toInt64) hx hb (g_133 bX5_one rfl) rfl ?_
  refine kRi (rS (As := [.long iA.toInt64, .long iB.toInt64, .long iC.toInt64, .long iD.toInt64]) (rest := []) ⟨hx, hb, hml, hown, hts⟩ (c_X5_canBeOne l G cy iA.toInt64 iB.toInt64 iC.toInt64 iD.toInt64) L_X5_137 (preRS hN hP [] rfl) rfl ⟨Nat.le_of_ble_eq_true rfl, Nat.le_of_ble_eq_true rfl⟩ hl.1 (Nat.le_of_ble_eq_true rfl) (g_184 (v := 137) bX5_one rfl) ⟨Nat.le_of_ble_eq_true rfl, Nat.le_of_ble_eq_true rfl⟩) (fun r_1 h_2 => ?_)
  rcases h_2 with ⟨rfl, h_3⟩ | ⟨rfl, h_3⟩
  · refine lv_if_ne (tgt := 22) hx hb dX5_one_12 (by decide +kernel) (fun _ => ?_) (fun h9 => absurd h9 (by decide +kernel))
    refine lv_aload_n hx hb (g_42 bX5_one rfl) rfl (lv_at hl 0 rfl) ?_
    refine va_get (D := G) (ci := 4) (v := .ref qt) (C := RX5) (T := TX5) (N := 9) hx hb hts iX_X5 hown hK hP 0 rfl rfl 0 (by decide +kernel) (hts _ m_t174) (fun _ h9 => h9) rfl (g_180 (v := 10) bX5_one rfl) ?_
    refine va_getN (D := G) (ci := 3) (v := .int (nI (T_np tA))) (C := RX4) (T := TX4) (N := 13) hx hb hts iX_X4 hown hK hP 2 rfl rfl 1 (by decide +kernel) (va_Nw.use rfl (hN.2.1 (RX5, 141, "EachBookOnce$Town", "people", "I") (List.mem_of_getElem? (i := 7) rfl))) (fun _ h9 => h9) rfl (g_180 (v := 141) bX5_one rfl) ?_
    refine lv_bipush (v := 8) hx hb dX5_one_29 (by decide +kernel) ?_
    refine lv_icmp_lt (tgt := 41) hx hb dX5_one_31 (by decide +kernel) (fun c_5 => ?_) (fun c_5 => ?_)
    · have hfull : T_np tA < 8 := lt_of8 (by omega) c_5
      refine lv_aload_n hx hb (g_42 bX5_one rfl) rfl (lv_at hl 0 rfl) ?_
      refine va_get (D := G) (ci := 4) (v := .ref qt) (C := RX5) (T := TX5) (N := 9) hx hb hts iX_X5 hown hK hP 0 rfl rfl 0 (by decide +kernel) (hts _ m_t174) (fun _ h9 => h9) rfl (g_180 (v := 10) bX5_one rfl) ?_
      refine lv_iload_n hx hb (g_27 bX5_one rfl) rfl (lv_at hl 1 rfl) ?_
      refine lv_iload_n hx hb (g_28 bX5_one rfl) rfl (lv_at hl 2 rfl) ?_
      refine lv_iload_n hx hb (g_29 bX5_one rfl) rfl (lv_at hl 3 rfl) ?_
      refine lv_iload hx hb (g_21 (v := 4) bX5_one rfl) (lv_at hl 4 rfl) ?_
      refine cVi (As := [.int iA, .int iB, .int iC, .int iD]) (rest := []) (b := qt) (q := (RX4, TX4, 13)) ⟨hx, hb, hml, hown, hts⟩ (c_X4_addOne l G cy (s.heap).size qt tA qtw qtn qtg qta qtr qtm qtt qts iA iB iC iD (by first | omega | (simp only [nb_sr, np_sr, nb_wr, np_wr, nb_rd, np_rd, nb_ch, np_ch, nb_zr, np_zr, nb_za, np_za, nb_ey, np_ey, nb_hf, np_hf, nb_dd, np_dd, nb_so, np_so, nb_skn, np_skn, nb_swh, np_swh, nb_sgn, np_sgn, nb_ssd, np_ssd, nb_sgo, np_sgo, nb_sag, np_sag]; omega))) L_X5_144 hN hP hD hS hA (trueIx 0 [false, false, true, true, true, true, true, true, true, true, true]) [true, true, false, false, false, false, false, false, false, false, false] (sel_eq rfl rfl) (by decide +kernel) rfl 2 3 rfl rfl rfl ⟨Nat.le_of_ble_eq_true rfl, Nat.le_of_ble_eq_true rfl⟩ hl.1 (Nat.le_of_ble_eq_true rfl) (g_182 (v := 144) bX5_one rfl) ⟨Nat.le_of_ble_eq_true rfl, Nat.le_of_ble_eq_true rfl⟩ (fun r_6 u_8 H locs h_7 => ?_)
      clear hP hD hS
      intro hP hD hS
      obtain ⟨hu9, h_7⟩ := h_7
      have hPD := pd_eq [_, _, zzO qt 3 [.int (nI (T_nb (zao tA iA iB iC iD))), .int (nI (T_np (zao tA iA iB iC iD))), .int (wb (T_wh (zao tA iA iB iC iD))), .int (wb (T_gn (zao tA iA iB iC iD))), .int (T_sd (zao tA iA iB iC iD)), .ref qtw, .ref qtn, .ref qtg, .ref qta, .ref qtr, .ref qtm, .ref qtt, .ref qts], zzI cy qtw 8 (T_wo (zao tA iA iB iC iD)), zzI cy qtn 8 (T_ne (zao tA iA iB iC iD)), zzI cy qtg 8 (T_go (zao tA iA iB iC iD)), zzI cy qta 8 (T_ag (zao tA iA iB iC iD)), zzI cy qtr 8 (T_re (zao tA iA iB iC iD)), zzI cy qtm 8 (T_me (zao tA iA iB iC iD)), zzI cy qtt 8 (T_te (zao tA iA iB iC iD)), zzI cy qts 64 (shF (T_kn (zao tA iA iB iC iD)))] hP hD hu9 rfl
      clear hP hD hu9
      obtain ⟨hP, hD⟩ := hPD
      subst h_7
      exact endWs [[true, true, true, true, true, true, true, true, true, true, true]] hx hb hr hlocks rfl hP hD rfl (by decide +kernel) hS ⟨fR, (zao tA iA iB iC iD), rfl, Or.inr (Or.inr ⟨rfl, h_3, lt_of8 (by omega) c_5, rfl⟩), trivial⟩ (g_172 bX5_one rfl)
    · refine lv_aload_n hx hb (g_42 bX5_one rfl) rfl (lv_at hl 0 rfl) ?_
      refine lv_bipush (v := (-6)) hx hb dX5_one_35 (by decide +kernel) ?_
      refine cVi (As := [.int (-6)]) (rest := []) (b := qx) (q := (RX5, TX5, 9)) ⟨hx, hb, hml, hown, hts⟩ (c_X5_refuse6 l G cy (s.heap).size qx qt qk qp qs qa qr iKp iYe iTv fR) L_X5_56 hN hP hD hS hA [0, 1] [false, false, true, true, true, true, true, true, true, true, true] rfl (by decide +kernel) rfl 0 4 rfl rfl rfl ⟨Nat.le_of_ble_eq_true rfl, Nat.le_of_ble_eq_true rfl⟩ hl.1 (Nat.le_of_ble_eq_true rfl) (g_182 (v := 56) bX5_one rfl) ⟨Nat.le_of_ble_eq_true rfl, Nat.le_of_ble_eq_true rfl⟩ (fun r_9 u_11 H locs h_10 => ?_)
      clear hP hD hS
      intro hP hD hS
      obtain ⟨fX_12, hu9, h_10⟩ := h_10
      have hPD := pd_eq [_, _, _, _, _, _, _, _, _, _, zzI cy qr 5 fX_12] hP hD hu9 rfl
      clear hP hD hu9
      obtain ⟨hP, hD⟩ := hPD
      subst h_10
      exact endWs [[false, false, false, false, false, false, false, false, false, true, true], [true, true, true, true, true, true, true, true, true]] hx hb hr hlocks rfl hP hD rfl (by decide +kernel) hS ⟨fX_12, tA, rfl, Or.inr (Or.inl ⟨rfl, h_3, nlt_of8 (by omega) c_5, rfl⟩), trivial⟩ (g_172 bX5_one rfl)
  · refine lv_if_ne (tgt := 22) hx hb dX5_one_12 (by decide +kernel) (fun h9 => absurd (by decide +kernel) h9) (fun _ => ?_)
    refine lv_aload_n hx hb (g_42 bX5_one rfl) rfl (lv_at hl 0 rfl) ?_
    refine lv_bipush (v := (-2)) hx hb dX5_one_16 (by decide +kernel) ?_
    refine cVi (As := [.int (-2)]) (rest := []) (b := qx) (q := (RX5, TX5, 9)) ⟨hx, hb, hml, hown, hts⟩ (c_X5_refuse2 l G cy (s.heap).size qx qt qk qp qs qa qr iKp iYe iTv fR) L_X5_56 hN hP hD hS hA [0, 1] [false, false, true, true, true, true, true, true, true, true, true] rfl (by decide +kernel) rfl 0 4 rfl rfl rfl ⟨Nat.le_of_ble_eq_true rfl, Nat.le_of_ble_eq_true rfl⟩ hl.1 (Nat.le_of_ble_eq_true rfl) (g_182 (v := 56) bX5_one rfl) ⟨Nat.le_of_ble_eq_true rfl, Nat.le_of_ble_eq_true rfl⟩ (fun r_14 u_16 H locs h_15 => ?_)
    clear hP hD hS
    intro hP hD hS
    obtain ⟨fX_17, hu9, h_15⟩ := h_15
    have hPD := pd_eq [_, _, _, _, _, _, _, _, _, _, zzI cy qr 5 fX_17] hP hD hu9 rfl
    clear hP hD hu9
    obtain ⟨hP, hD⟩ := hPD
    subst h_15
    exact endWs [[false, false, false, false, false, false, false, false, false, true, true], [true, true, true, true, true, true, true, true, true]] hx hb hr hlocks rfl hP hD rfl (by decide +kernel) hS ⟨fX_17, tA, rfl, Or.inl ⟨rfl, h_3, rfl⟩, trivial⟩ (g_172 bX5_one rfl)
set_option maxHeartbeats 4000000 in
set_option maxRecDepth 100000 in
theorem p_X5_ones (l : Launch) (G : va_G) (cy : Nat → ClassId) (sz : Nat) (qx : Nat) (qt : Nat) (qk : Nat) (qp : Nat) (qs : Nat) (qa : Nat) (qr : Nat) (iKp : Int32) (iYe : Int32) (iTv : Int32) (fR : Nat → Int32) (qsh : Nat) (qss : Nat) (qsa : Nat) (qse : Nat) (fH : Nat → Int32) (fS : Nat → Int32) (gE : Nat → Int64) (tA : TA) (qtw : Nat) (qtn : Nat) (qtg : Nat) (qta : Nat) (qtr : Nat) (qtm : Nat) (qtt : Nat) (qts : Nat) (iA : Int32) (iB : Int32)  (hB : T_nb tA ≤ 8) (hPp : T_np tA ≤ 8) (hSz : ∀ s, s < 8 → ∃ n : Nat, n ≤ 40 ∧ fS s = nI n) : MW l yX5_ones cX5_ones 14 (some .int) 12 0 0 G cy [zzO qx 4 [.ref qt, .ref qk, .ref qp, .ref qs, .ref qa, .ref qr, .int iKp, .int iYe, .int iTv], zzI cy qr 5 fR, zzO qs 1 [.ref qsh, .ref qss, .ref qsa, .ref qse], zzI cy qsh 8 fH, zzI cy qss 8 fS, zzJ cy qse 320 gE, zzO qt 3 [.int (nI (T_nb tA)), .int (nI (T_np tA)), .int (wb (T_wh tA)), .int (wb (T_gn tA)), .int (T_sd tA), .ref qtw, .ref qtn, .ref qtg, .ref qta, .ref qtr, .ref qtm, .ref qtt, .ref qts], zzI cy qtw 8 (T_wo tA), zzI cy qtn 8 (T_ne tA), zzI cy qtg 8 (T_go tA), zzI cy qta 8 (T_ag tA), zzI cy qtr 8 (T_re tA), zzI cy qtm 8 (T_me tA), zzI cy qtt 8 (T_te tA), zzI cy qts 64 (shF (T_kn tA))] sz [.ref qx, .int iA, .int iB] (Wi G (fun r u => ∃ (fX : Nat → Int32) (tN : TA), u = [zzO qx 4 [.ref qt, .ref qk, .ref qp, .ref qs, .ref qa, .ref qr, .int iKp, .int iYe, .int iTv], zzI cy qr 5 fX, zzO qs 1 [.ref qsh, .ref qss, .ref qsa, .ref qse], zzI cy qsh 8 fH, zzI cy qss 8 fS, zzJ cy qse 320 gE, zzO qt 3 [.int (nI (T_nb tN)), .int (nI (T_np tN)), .int (wb (T_wh tN)), .int (wb (T_gn tN)), .int (T_sd tN), .ref qtw, .ref qtn, .ref qtg, .ref qta, .ref qtr, .ref qtm, .ref qtt, .ref qts], zzI cy qtw 8 (T_wo tN), zzI cy qtn 8 (T_ne tN), zzI cy qtg 8 (T_go tN), zzI cy qta 8 (T_ag tN), zzI cy qtr 8 (T_re tN), zzI cy qtm 8 (T_me tN), zzI cy qtt 8 (T_te tN), zzI cy qts 64 (shF (T_kn tN))] ∧ (PXones fH fS gE tA iA iB r tN) ∧ (True))) := by
  refine enW RX5 (by decide +kernel) rfl (Nat.le_of_ble_eq_true rfl) (fun p e s m below meth c ls A hx hb hml hown hts hr hlocks hP hN hl hin hD hA hS => ?_)
  have hin : meth.name = _ := hin
  have hK := hN.1
  replace hl : lv_has ls 14 [(0, .ref qx), (1, .int iA), (2, .int iB)] := hl
  refine lv_aload_n hx hb (g_42 bX5_ones rfl) rfl (lv_at hl 0 rfl) ?_
  refine lv_iload_n hx hb (g_27 bX5_ones rfl) rfl (lv_at hl 1 rfl) ?_
  refine kRi (rV (As := [.int iA]) (rest := []) (b := qx) ⟨hx, hb, hml, hown, hts⟩ (c_X5_rowFit l G cy qx qt qk qp qs qa qr iKp iYe iTv qsh qss qsa qse fH iA) L_X5_64 (preRV (q := (RX5, TX5, 9)) hN hP (trueIx 0 [true, false, true, true]) (sel_fm rfl rfl) 0 4 rfl rfl) rfl ⟨Nat.le_of_ble_eq_true rfl, Nat.le_of_ble_eq_true rfl⟩ hl.1 (Nat.le_of_ble_eq_true rfl) (g_182 (v := 64) bX5_ones rfl) ⟨Nat.le_of_ble_eq_true rfl, Nat.le_of_ble_eq_true rfl⟩) (fun r_1 h_2 => ?_)
  rcases h_2 with ⟨rfl, h_3⟩ | ⟨rfl, h_3⟩ | ⟨rfl, h_3⟩ | ⟨rfl, h_3⟩
  · refine lv_istore_n (lv' := [(3, .int (-2)), (0, .ref qx), (1, .int iA), (2, .int iB)]) hx hb (g_62 bX5_ones rfl) rfl hl (by decide +kernel) rfl (fun ls => ?_)
    clear hl
    intro hl
    refine lv_iload_n hx hb (g_29 bX5_ones rfl) rfl (lv_at hl 0 rfl) ?_
    refine lv_if_ne (tgt := 38) hx hb dX5_ones_7 (by decide +kernel) (fun _ => ?_) (fun h9 => absurd h9 (by decide +kernel))
    refine lv_iload_n hx hb (g_29 bX5_ones rfl) rfl (lv_at hl 0 rfl) ?_
    refine lv_if_eq (tgt := 48) hx hb dX5_ones_39 (by decide +kernel) (fun h9 => absurd h9 (by decide +kernel)) (fun _ => ?_)
    refine lv_aload_n hx hb (g_42 bX5_ones rfl) rfl (lv_at hl 1 rfl) ?_
    refine lv_iload_n hx hb (g_29 bX5_ones rfl) rfl (lv_at hl 0 rfl) ?_
    refine cVi (As := [.int (-2)]) (rest := []) (b := qx) (q := (RX5, TX5, 9)) ⟨hx, hb, hml, hown, hts⟩ (c_X5_refuse2 l G cy (s.heap).size qx qt qk qp qs qa qr iKp iYe iTv fR) L_X5_56 hN hP hD hS hA [0, 1] [false, false, true, true, true, true, true, true, true, true, true, true, true, true, true] rfl (by decide +kernel) rfl 0 4 rfl rfl rfl ⟨Nat.le_of_ble_eq_true rfl, Nat.le_of_ble_eq_true rfl⟩ hl.1 (Nat.le_of_ble_eq_true rfl) (g_182 (v := 56) bX5_ones rfl) ⟨Nat.le_of_ble_eq_true rfl, Nat.le_of_ble_eq_true rfl⟩ (fun r_6 u_8 H locs h_7 => ?_)
    clear hP hD hS
    intro hP hD hS
    obtain ⟨fX_9, hu9, h_7⟩ := h_7
    have hPD := pd_eq [_, _, _, _, _, _, _, _, _, _, _, _, _, _, zzI cy qr 5 fX_9] hP hD hu9 rfl
    clear hP hD hu9
    obtain ⟨hP, hD⟩ := hPD
    subst h_7
    exact endWs [[false, false, false, false, false, false, false, false, false, false, false, false, false, true, true], [true, true, true, true, true, true, true, true, true, true, true, true, true]] hx hb hr hlocks rfl hP hD rfl (by decide +kernel) hS ⟨fX_9, tA, rfl, Or.inl ⟨rfl, Or.inl h_3, rfl⟩, trivial⟩ (g_172 bX5_ones rfl)
  · obtain ⟨k_10, hk_11, rfl, h_12⟩ := h_3
    refine lv_istore_n (lv' := [(3, .int (-3)), (0, .ref qx), (1, .int (nI k_10)), (2, .int iB)]) hx hb (g_62 bX5_ones rfl) rfl hl (by decide +kernel) rfl (fun ls => ?_)
    clear hl
    intro hl
    refine lv_iload_n hx hb (g_29 bX5_ones rfl) rfl (lv_at hl 0 rfl) ?_
    refine lv_if_ne (tgt := 38) hx hb dX5_ones_7 (by decide +kernel) (fun _ => ?_) (fun h9 => absurd h9 (by decide +kernel))
    refine lv_iload_n hx hb (g_29 bX5_ones rfl) rfl (lv_at hl 0 rfl) ?_
    refine lv_if_eq (tgt := 48) hx hb dX5_ones_39 (by decide +kernel) (fun h9 => absurd h9 (by decide +kernel)) (fun _ => ?_)
    refine lv_aload_n hx hb (g_42 bX5_ones rfl) rfl (lv_at hl 1 rfl) ?_
    refine lv_iload_n hx hb (g_29 bX5_ones rfl) rfl (lv_at hl 0 rfl) ?_
    refine cVi (As := [.int (-3)]) (rest := []) (b := qx) (q := (RX5, TX5, 9)) ⟨hx, hb, hml, hown, hts⟩ (c_X5_refuse3 l G cy (s.heap).size qx qt qk qp qs qa qr iKp iYe iTv fR) L_X5_56 hN hP hD hS hA [0, 1] [false, false, true, true, true, true, true, true, true, true, true, true, true, true, true] rfl (by decide +kernel) rfl 0 4 rfl rfl rfl ⟨Nat.le_of_ble_eq_true rfl, Nat.le_of_ble_eq_true rfl⟩ hl.1 (Nat.le_of_ble_eq_true rfl) (g_182 (v := 56) bX5_ones rfl) ⟨Nat.le_of_ble_eq_true rfl, Nat.le_of_ble_eq_true rfl⟩ (fun r_15 u_17 H locs h_16 => ?_)
    clear hP hD hS
    intro hP hD hS
    obtain ⟨fX_18, hu9, h_16⟩ := h_16
    have hPD := pd_eq [_, _, _, _, _, _, _, _, _, _, _, _, _, _, zzI cy qr 5 fX_18] hP hD hu9 rfl
    clear hP hD hu9
    obtain ⟨hP, hD⟩ := hPD
    subst h_16
    exact endWs [[false, false, false, false, false, false, false, false, false, false, false, false, false, true, true], [true, true, true, true, true, true, true, true, true, true, true, true, true]] hx hb hr hlocks rfl hP hD rfl (by decide +kernel) hS ⟨fX_18, tA, rfl, Or.inr (Or.inl ⟨rfl, ⟨k_10, hk_11, rfl, h_12⟩, rfl⟩), trivial⟩ (g_172 bX5_ones rfl)
  · obtain ⟨k_19, hk_20, rfl, h_21, h_22⟩ := h_3
    refine lv_istore_n (lv' := [(3, .int 0), (0, .ref qx), (1, .int (nI k_19)), (2, .int iB)]) hx hb (g_62 bX5_ones rfl) rfl hl (by decide +kernel) rfl (fun ls => ?_)
    clear hl
    intro hl
    refine lv_iload_n hx hb (g_29 bX5_ones rfl) rfl (lv_at hl 0 rfl) ?_
    refine lv_if_ne (tgt := 38) hx hb dX5_ones_7 (by decide +kernel) (fun h9 => absurd (by decide +kernel) h9) (fun _ => ?_)
    refine lv_iload_n hx hb (g_28 bX5_ones rfl) rfl (lv_at hl 3 rfl) ?_
    refine lv_i2l (v := iB.toInt64) hx hb (g_133 bX5_ones rfl) rfl ?_
    refine lv_lconst (v := 0) hx hb (g_9 bX5_ones rfl) (by decide +kernel) ?_
    refine lv_aload_n hx hb (g_42 bX5_ones rfl) rfl (lv_at hl 1 rfl) ?_
    refine va_get (D := G) (ci := 4) (v := .ref qs) (C := RX5) (T := TX5) (N := 9) hx hb hts iX_X5 hown hK hP 0 rfl rfl 3 (by decide +kernel) (hts _ m_t177) (fun _ h9 => h9) rfl (g_180 (v := 29) bX5_ones rfl) ?_
    refine va_getN (D := G) (ci := 1) (v := .ref qss) (C := RX2) (T := TX2) (N := 4) hx hb hts iX_X2 hown hK hP 2 rfl rfl 1 (by decide +kernel) (va_Nw.use rfl (hN.2.1 (RX5, 67, "EachBookOnce$Shelves", "size", "[I") (List.mem_of_getElem? (i := 27) rfl))) (fun _ h9 => h9) rfl (g_180 (v := 67) bX5_ones rfl) ?_
    refine lv_iload_n hx hb (g_27 bX5_ones rfl) rfl (lv_at hl 2 rfl) ?_
    refine va_iald hx hb hK hP 4 0 rfl rfl (in8 (by omega)) (g_46 bX5_ones rfl) ?_
    refine lv_seti (v := fS k_19) (congrArg fS (cl8 (by omega))) ?_
    refine lv_i2l (v := (fS k_19).toInt64) hx hb (g_133 bX5_ones rfl) rfl ?_
    refine kRi (rS (As := [.long iB.toInt64, .long 0, .long ((fS k_19).toInt64)]) (rest := []) ⟨hx, hb, hml, hown, hts⟩ (c_X5_within l G cy iB.toInt64 0 ((fS k_19).toInt64)) L_X5_50 (preRS hN hP [] rfl) rfl ⟨Nat.le_of_ble_eq_true rfl, Nat.le_of_ble_eq_true rfl⟩ hl.1 (Nat.le_of_ble_eq_true rfl) (g_184 (v := 50) bX5_ones rfl) ⟨Nat.le_of_ble_eq_true rfl, Nat.le_of_ble_eq_true rfl⟩) (fun r_24 h_25 => ?_)
    rcases h_25 with ⟨rfl, h_26⟩ | ⟨rfl, h_26⟩
    · refine lv_if_eq (tgt := 35) hx hb dX5_ones_26 (by decide +kernel) (fun h9 => absurd h9 (by decide +kernel)) (fun _ => ?_)
      refine lv_iload_n hx hb (g_28 bX5_ones rfl) rfl (lv_at hl 3 rfl) ?_
      refine lv_iconst (v := 4) hx hb (g_7 bX5_ones rfl) (by decide +kernel) ?_
      refine lv_irem hx hb (g_112 bX5_ones rfl) (by decide +kernel) ?_
      refine lv_if_eq (tgt := 38) hx hb dX5_ones_32 (by decide +kernel) (fun c_28 => ?_) (fun c_28 => ?_)
      · refine lv_iload_n hx hb (g_29 bX5_ones rfl) rfl (lv_at hl 0 rfl) ?_
        refine lv_if_eq (tgt := 48) hx hb dX5_ones_39 (by decide +kernel) (fun _ => ?_) (fun h9 => absurd (by decide +kernel) h9)
        obtain ⟨n_30, hn_31, en_32⟩ := hSz k_19 hk_20
        obtain ⟨k_33, hk_34, rfl⟩ := sz4 en_32 hn_31 h_26 c_28
        refine lv_iconst (v := 0) hx hb (g_3 bX5_ones rfl) (by decide +kernel) ?_
        refine lv_istore (lv' := [(4, .int 0), (3, .int 0), (0, .ref qx), (1, .int (nI k_19)), (2, .int (nI (4 * k_33)))]) hx hb (g_54 (v := 4) bX5_ones rfl) hl (by decide +kernel) rfl (fun ls => ?_)
        clear hl
        intro hl
        refine lv_iconst (v := 0) hx hb (g_3 bX5_ones rfl) (by decide +kernel) ?_
        refine lv_istore (lv' := [(5, .int 0), (4, .int 0), (3, .int 0), (0, .ref qx), (1, .int (nI k_19)), (2, .int (nI (4 * k_33)))]) hx hb (g_54 (v := 5) bX5_ones rfl) hl (by decide +kernel) rfl (fun ls => ?_)
        clear hl
        intro hl
        have lp_36 : ∀ (n_37 : Nat) (j_39 : Nat) (tJ_40 : TA) (xC_41 : Int32), 10 - j_39 < n_37 → j_39 ≤ k_33 → onG (fun i => gE (k_19 * 40 + i)) (k_33 - j_39) (4 * j_39) tJ_40 xC_41 = onG (fun i => gE (k_19 * 40 + i)) k_33 0 tA 0 → T_nb tJ_40 = T_nb tA ∧ T_np tJ_40 ≤ 8 → ∀ (H : Heap) (locs : List Loc) (ls : Array Slot), va_P G CL [zzO qx 4 [.ref qt, .ref qk, .ref qp, .ref qs, .ref qa, .ref qr, .int iKp, .int iYe, .int iTv], zzI cy qr 5 fR, zzO qs 1 [.ref qsh, .ref qss, .ref qsa, .ref qse], zzI cy qsh 8 fH, zzI cy qss 8 fS, zzJ cy qse 320 gE, zzO qt 3 [.int (nI (T_nb tJ_40)), .int (nI (T_np tJ_40)), .int (wb (T_wh tJ_40)), .int (wb (T_gn tJ_40)), .int (T_sd tJ_40), .ref qtw, .ref qtn, .ref qtg, .ref qta, .ref qtr, .ref qtm, .ref qtt, .ref qts], zzI cy qtw 8 (T_wo tJ_40), zzI cy qtn 8 (T_ne tJ_40), zzI cy qtg 8 (T_go tJ_40), zzI cy qta 8 (T_ag tJ_40), zzI cy qtr 8 (T_re tJ_40), zzI cy qtm 8 (T_me tJ_40), zzI cy qtt 8 (T_te tJ_40), zzI cy qts 64 (shF (T_kn tJ_40))] H → va_D A [zzO qx 4 [.ref qt, .ref qk, .ref qp, .ref qs, .ref qa, .ref qr, .int iKp, .int iYe, .int iTv], zzI cy qr 5 fR, zzO qs 1 [.ref qsh, .ref qss, .ref qsa, .ref qse], zzI cy qsh 8 fH, zzI cy qss 8 fS, zzJ cy qse 320 gE, zzO qt 3 [.int (nI (T_nb tJ_40)), .int (nI (T_np tJ_40)), .int (wb (T_wh tJ_40)), .int (wb (T_gn tJ_40)), .int (T_sd tJ_40), .ref qtw, .ref qtn, .ref qtg, .ref qta, .ref qtr, .ref qtm, .ref qtt, .ref qts], zzI cy qtw 8 (T_wo tJ_40), zzI cy qtn 8 (T_ne tJ_40), zzI cy qtg 8 (T_go tJ_40), zzI cy qta 8 (T_ag tJ_40), zzI cy qtr 8 (T_re tJ_40), zzI cy qtm 8 (T_me tJ_40), zzI cy qtt 8 (T_te tJ_40), zzI cy qts 64 (shF (T_kn tJ_40))] → va_S A s.heap H locs → lv_has ls 14 [(5, .int (nI (4 * j_39))), (4, .int xC_41), (3, .int 0), (0, .ref qx), (1, .int (nI k_19)), (2, .int (nI (4 * k_33)))] → W p l e (Rm 12 0 0) s m (List.toArray (α := Value) [.ref qx, .int (nI k_19), .int (nI (4 * k_33))]) below meth c H locs 0 0 (MQ below ((Wi G (fun r u => ∃ (fX : Nat → Int32) (tN : TA), u = [zzO qx 4 [.ref qt, .ref qk, .ref qp, .ref qs, .ref qa, .ref qr, .int iKp, .int iYe, .int iTv], zzI cy qr 5 fX, zzO qs 1 [.ref qsh, .ref qss, .ref qsa, .ref qse], zzI cy qsh 8 fH, zzI cy qss 8 fS, zzJ cy qse 320 gE, zzO qt 3 [.int (nI (T_nb tN)), .int (nI (T_np tN)), .int (wb (T_wh tN)), .int (wb (T_gn tN)), .int (T_sd tN), .ref qtw, .ref qtn, .ref qtg, .ref qta, .ref qtr, .ref qtm, .ref qtt, .ref qts], zzI cy qtw 8 (T_wo tN), zzI cy qtn 8 (T_ne tN), zzI cy qtg 8 (T_go tN), zzI cy qta 8 (T_ag tN), zzI cy qtr 8 (T_re tN), zzI cy qtm 8 (T_me tN), zzI cy qtt 8 (T_te tN), zzI cy qts 64 (shF (T_kn tN))] ∧ (PXones fH fS gE tA (nI k_19) (nI (4 * k_33)) r tN) ∧ (True))) A) (List.toArray (α := Value) [.ref qx, .int (nI k_19), .int (nI (4 * k_33))]) s 0 0 A) (F0 m 54 ls []) := by
          intro n_37
          induction n_37 with
          | zero => intro j_39 tJ_40 xC_41 hm9; exact absurd hm9 (Nat.not_lt_zero _)
          | succ n_37 ih_38 =>
            intro j_39 tJ_40 xC_41 hm_45 hj_42 hT_43 hn_44 H locs ls hP hD hS hl
            refine lv_iload hx hb (g_21 (v := 5) bX5_ones rfl) (lv_at hl 0 rfl) ?_
            refine lv_iload_n hx hb (g_28 bX5_ones rfl) rfl (lv_at hl 5 rfl) ?_
            refine lv_icmp_ge (tgt := 172) hx hb dX5_ones_57 (by decide +kernel) (fun c_46 => ?_) (fun c_46 => ?_)
            · have hlt_47 : j_39 = k_33 := by have := lp_ge rfl rfl (by omega) (by omega) c_46; omega
              have hlt_47r : onG (fun i => gE (k_19 * 40 + i)) k_33 0 tA 0 = (tJ_40, xC_41) := by rw [← hT_43, hlt_47, Nat.sub_self]; rfl
              refine lv_iload hx hb (g_21 (v := 4) bX5_ones rfl) (lv_at hl 1 rfl) ?_
              exact endWs [[true, true, true, true, true, true, true, true, true, true, true, true, true, true, true]] hx hb hr hlocks rfl hP hD rfl (by decide +kernel) hS ⟨fR, tJ_40, rfl, Or.inr (Or.inr (Or.inr ⟨k_19, k_33, hk_20, rfl, h_21, h_22, rfl, by omega, h_26, hlt_47r.symm⟩)), trivial⟩ (g_172 bX5_ones rfl)
            · have hlt_48 : j_39 < k_33 := by have := lp_lt rfl rfl (by omega) (by omega) c_46; omega
              obtain ⟨hlt_48b, hlt_48p⟩ := id hn_44
              refine lv_aload_n hx hb (g_42 bX5_ones rfl) rfl (lv_at hl 3 rfl) ?_
              refine va_get (D := G) (ci := 4) (v := .ref qt) (C := RX5) (T := TX5) (N := 9) hx hb hts iX_X5 hown hK hP 0 rfl rfl 0 (by decide +kernel) (hts _ m_t174) (fun _ h9 => h9) rfl (g_180 (v := 10) bX5_ones rfl) ?_
              refine va_getN (D := G) (ci := 3) (v := .int (nI (T_np tJ_40))) (C := RX4) (T := TX4) (N := 13) hx hb hts iX_X4 hown hK hP 6 rfl rfl 1 (by decide +kernel) (va_Nw.use rfl (hN.2.1 (RX5, 141, "EachBookOnce$Town", "people", "I") (List.mem_of_getElem? (i := 7) rfl))) (fun _ h9 => h9) rfl (g_180 (v := 141) bX5_ones rfl) ?_
              refine lv_bipush (v := 8) hx hb dX5_ones_67 (by decide +kernel) ?_
              refine lv_icmp_ge (tgt := 172) hx hb dX5_ones_69 (by decide +kernel) (fun c_49 => ?_) (fun c_49 => ?_)
              · have hz_50 : onG (fun i => gE (k_19 * 40 + i)) k_33 0 tA 0 = (tJ_40, xC_41) := by rw [← hT_43, on_1 (nlt_of8 (by omega) (Int32.not_lt.mpr c_49))]
                refine lv_iload hx hb (g_21 (v := 4) bX5_ones rfl) (lv_at hl 1 rfl) ?_
                exact endWs [[true, true, true, true, true, true, true, true, true, true, true, true, true, true, true]] hx hb hr hlocks rfl hP hD rfl (by decide +kernel) hS ⟨fR, tJ_40, rfl, Or.inr (Or.inr (Or.inr ⟨k_19, k_33, hk_20, rfl, h_21, h_22, rfl, by omega, h_26, hz_50.symm⟩)), trivial⟩ (g_172 bX5_ones rfl)
              · have hz_51 : T_np tJ_40 < 8 := lt_of8 (by omega) (Int32.not_le.mp c_49)
                refine lv_aload_n hx hb (g_42 bX5_ones rfl) rfl (lv_at hl 3 rfl) ?_
                refine va_get (D := G) (ci := 4) (v := .ref qs) (C := RX5) (T := TX5) (N := 9) hx hb hts iX_X5 hown hK hP 0 rfl rfl 3 (by decide +kernel) (hts _ m_t177) (fun _ h9 => h9) rfl (g_180 (v := 29) bX5_ones rfl) ?_
                refine lv_iload_n hx hb (g_27 bX5_ones rfl) rfl (lv_at hl 4 rfl) ?_
                refine lv_iload hx hb (g_21 (v := 5) bX5_ones rfl) (lv_at hl 0 rfl) ?_
                refine kRl (rV (As := [.int (nI k_19), .int (nI (4 * j_39))]) (rest := []) (b := qs) ⟨hx, hb, hml, hown, hts⟩ (c_X2_at l G cy qs qsh qss qsa qse gE k_19 (4 * j_39) (by first | omega | (simp only [nb_sr, np_sr, nb_wr, np_wr, nb_rd, np_rd, nb_ch, np_ch, nb_zr, np_zr, nb_za, np_za, nb_ey, np_ey, nb_hf, np_hf, nb_dd, np_dd, nb_so, np_so, nb_skn, np_skn, nb_swh, np_swh, nb_sgn, np_sgn, nb_ssd, np_ssd, nb_sgo, np_sgo, nb_sag, np_sag]; omega)) (by first | omega | (simp only [nb_sr, np_sr, nb_wr, np_wr, nb_rd, np_rd, nb_ch, np_ch, nb_zr, np_zr, nb_za, np_za, nb_ey, np_ey, nb_hf, np_hf, nb_dd, np_dd, nb_so, np_so, nb_skn, np_skn, nb_swh, np_swh, nb_sgn, np_sgn, nb_ssd, np_ssd, nb_sgo, np_sgo, nb_sag, np_sag]; omega))) L_X5_86 (preRV (q := (RX2, TX2, 4)) hN hP [2, 5] rfl 2 1 rfl rfl) rfl ⟨Nat.le_of_ble_eq_true rfl, Nat.le_of_ble_eq_true rfl⟩ hl.1 (Nat.le_of_ble_eq_true rfl) (g_182 (v := 86) bX5_ones rfl) ⟨Nat.le_of_ble_eq_true rfl, Nat.le_of_ble_eq_true rfl⟩) (fun r_52 h_53 => ?_)
                subst h_53
                refine lv_lstore (lv' := [(6, .long (gE (k_19 * 40 + (4 * j_39)))), (5, .int (nI (4 * j_39))), (4, .int xC_41), (3, .int 0), (0, .ref qx), (1, .int (nI k_19)), (2, .int (nI (4 * k_33)))]) hx hb (g_55 (v := 6) bX5_ones rfl) hl (by decide +kernel) rfl (fun ls => ?_)
                clear hl
                intro hl
                refine lv_aload_n hx hb (g_42 bX5_ones rfl) rfl (lv_at hl 4 rfl) ?_
                refine va_get (D := G) (ci := 4) (v := .ref qs) (C := RX5) (T := TX5) (N := 9) hx hb hts iX_X5 hown hK hP 0 rfl rfl 3 (by decide +kernel) (hts _ m_t177) (fun _ h9 => h9) rfl (g_180 (v := 29) bX5_ones rfl) ?_
                refine lv_iload_n hx hb (g_27 bX5_ones rfl) rfl (lv_at hl 5 rfl) ?_
                refine lv_iload hx hb (g_21 (v := 5) bX5_ones rfl) (lv_at hl 1 rfl) ?_
                refine lv_iconst (v := 1) hx hb (g_4 bX5_ones rfl) (by decide +kernel) ?_
                refine lv_iadd hx hb (g_96 bX5_ones rfl) ?_
                refine lv_seti (v := nI ((4 * j_39) + 1)) (nI_1 _) ?_
                refine kRl (rV (As := [.int (nI k_19), .int (nI ((4 * j_39) + 1))]) (rest := []) (b := qs) ⟨hx, hb, hml, hown, hts⟩ (c_X2_at l G cy qs qsh qss qsa qse gE k_19 ((4 * j_39) + 1) (by first | omega | (simp only [nb_sr, np_sr, nb_wr, np_wr, nb_rd, np_rd, nb_ch, np_ch, nb_zr, np_zr, nb_za, np_za, nb_ey, np_ey, nb_hf, np_hf, nb_dd, np_dd, nb_so, np_so, nb_skn, np_skn, nb_swh, np_swh, nb_sgn, np_sgn, nb_ssd, np_ssd, nb_sgo, np_sgo, nb_sag, np_sag]; omega)) (by first | omega | (simp only [nb_sr, np_sr, nb_wr, np_wr, nb_rd, np_rd, nb_ch, np_ch, nb_zr, np_zr, nb_za, np_za, nb_ey, np_ey, nb_hf, np_hf, nb_dd, np_dd, nb_so, np_so, nb_skn, np_skn, nb_swh, np_swh, nb_sgn, np_sgn, nb_ssd, np_ssd, nb_sgo, np_sgo, nb_sag, np_sag]; omega))) L_X5_86 (preRV (q := (RX2, TX2, 4)) hN hP [2, 5] rfl 2 1 rfl rfl) rfl ⟨Nat.le_of_ble_eq_true rfl, Nat.le_of_ble_eq_true rfl⟩ hl.1 (Nat.le_of_ble_eq_true rfl) (g_182 (v := 86) bX5_ones rfl) ⟨Nat.le_of_ble_eq_true rfl, Nat.le_of_ble_eq_true rfl⟩) (fun r_54 h_55 => ?_)
                subst h_55
                refine lv_lstore (lv' := [(8, .long (gE (k_19 * 40 + ((4 * j_39) + 1)))), (6, .long (gE (k_19 * 40 + (4 * j_39)))), (5, .int (nI (4 * j_39))), (4, .int xC_41), (3, .int 0), (0, .ref qx), (1, .int (nI k_19)), (2, .int (nI (4 * k_33)))]) hx hb (g_55 (v := 8) bX5_ones rfl) hl (by decide +kernel) rfl (fun ls => ?_)
                clear hl
                intro hl
                refine lv_aload_n hx hb (g_42 bX5_ones rfl) rfl (lv_at hl 5 rfl) ?_
                refine va_get (D := G) (ci := 4) (v := .ref qs) (C := RX5) (T := TX5) (N := 9) hx hb hts iX_X5 hown hK hP 0 rfl rfl 3 (by decide +kernel) (hts _ m_t177) (fun _ h9 => h9) rfl (g_180 (v := 29) bX5_ones rfl) ?_
                refine lv_iload_n hx hb (g_27 bX5_ones rfl) rfl (lv_at hl 6 rfl) ?_
                refine lv_iload hx hb (g_21 (v := 5) bX5_ones rfl) (lv_at hl 2 rfl) ?_
                refine lv_iconst (v := 2) hx hb (g_5 bX5_ones rfl) (by decide +kernel) ?_
                refine lv_iadd hx hb (g_96 bX5_ones rfl) ?_
                refine lv_seti (v := nI (4 * j_39 + 2)) (nI_add _ _) ?_
                refine kRl (rV (As := [.int (nI k_19), .int (nI (4 * j_39 + 2))]) (rest := []) (b := qs) ⟨hx, hb, hml, hown, hts⟩ (c_X2_at l G cy qs qsh qss qsa qse gE k_19 (4 * j_39 + 2) (by first | omega | (simp only [nb_sr, np_sr, nb_wr, np_wr, nb_rd, np_rd, nb_ch, np_ch, nb_zr, np_zr, nb_za, np_za, nb_ey, np_ey, nb_hf, np_hf, nb_dd, np_dd, nb_so, np_so, nb_skn, np_skn, nb_swh, np_swh, nb_sgn, np_sgn, nb_ssd, np_ssd, nb_sgo, np_sgo, nb_sag, np_sag]; omega)) (by first | omega | (simp only [nb_sr, np_sr, nb_wr, np_wr, nb_rd, np_rd, nb_ch, np_ch, nb_zr, np_zr, nb_za, np_za, nb_ey, np_ey, nb_hf, np_hf, nb_dd, np_dd, nb_so, np_so, nb_skn, np_skn, nb_swh, np_swh, nb_sgn, np_sgn, nb_ssd, np_ssd, nb_sgo, np_sgo, nb_sag, np_sag]; omega))) L_X5_86 (preRV (q := (RX2, TX2, 4)) hN hP [2, 5] rfl 2 1 rfl rfl) rfl ⟨Nat.le_of_ble_eq_true rfl, Nat.le_of_ble_eq_true rfl⟩ hl.1 (Nat.le_of_ble_eq_true rfl) (g_182 (v := 86) bX5_ones rfl) ⟨Nat.le_of_ble_eq_true rfl, Nat.le_of_ble_eq_true rfl⟩) (fun r_56 h_57 => ?_)
                subst h_57
                refine lv_lstore (lv' := [(10, .long (gE (k_19 * 40 + (4 * j_39 + 2)))), (8, .long (gE (k_19 * 40 + ((4 * j_39) + 1)))), (6, .long (gE (k_19 * 40 + (4 * j_39)))), (5, .int (nI (4 * j_39))), (4, .int xC_41), (3, .int 0), (0, .ref qx), (1, .int (nI k_19)), (2, .int (nI (4 * k_33)))]) hx hb (g_55 (v := 10) bX5_ones rfl) hl (by decide +kernel) rfl (fun ls => ?_)
                clear hl
                intro hl
                refine lv_aload_n hx hb (g_42 bX5_ones rfl) rfl (lv_at hl 6 rfl) ?_
                refine va_get (D := G) (ci := 4) (v := .ref qs) (C := RX5) (T := TX5) (N := 9) hx hb hts iX_X5 hown hK hP 0 rfl rfl 3 (by decide +kernel) (hts _ m_t177) (fun _ h9 => h9) rfl (g_180 (v := 29) bX5_ones rfl) ?_
                refine lv_iload_n hx hb (g_27 bX5_ones rfl) rfl (lv_at hl 7 rfl) ?_
                refine lv_iload hx hb (g_21 (v := 5) bX5_ones rfl) (lv_at hl 3 rfl) ?_
                refine lv_iconst (v := 3) hx hb (g_6 bX5_ones rfl) (by decide +kernel) ?_
                refine lv_iadd hx hb (g_96 bX5_ones rfl) ?_
                refine lv_seti (v := nI (4 * j_39 + 3)) (nI_add _ _) ?_
                refine kRl (rV (As := [.int (nI k_19), .int (nI (4 * j_39 + 3))]) (rest := []) (b := qs) ⟨hx, hb, hml, hown, hts⟩ (c_X2_at l G cy qs qsh qss qsa qse gE k_19 (4 * j_39 + 3) (by first | omega | (simp only [nb_sr, np_sr, nb_wr, np_wr, nb_rd, np_rd, nb_ch, np_ch, nb_zr, np_zr, nb_za, np_za, nb_ey, np_ey, nb_hf, np_hf, nb_dd, np_dd, nb_so, np_so, nb_skn, np_skn, nb_swh, np_swh, nb_sgn, np_sgn, nb_ssd, np_ssd, nb_sgo, np_sgo, nb_sag, np_sag]; omega)) (by first | omega | (simp only [nb_sr, np_sr, nb_wr, np_wr, nb_rd, np_rd, nb_ch, np_ch, nb_zr, np_zr, nb_za, np_za, nb_ey, np_ey, nb_hf, np_hf, nb_dd, np_dd, nb_so, np_so, nb_skn, np_skn, nb_swh, np_swh, nb_sgn, np_sgn, nb_ssd, np_ssd, nb_sgo, np_sgo, nb_sag, np_sag]; omega))) L_X5_86 (preRV (q := (RX2, TX2, 4)) hN hP [2, 5] rfl 2 1 rfl rfl) rfl ⟨Nat.le_of_ble_eq_true rfl, Nat.le_of_ble_eq_true rfl⟩ hl.1 (Nat.le_of_ble_eq_true rfl) (g_182 (v := 86) bX5_ones rfl) ⟨Nat.le_of_ble_eq_true rfl, Nat.le_of_ble_eq_true rfl⟩) (fun r_58 h_59 => ?_)
                subst h_59
                refine lv_lstore (lv' := [(12, .long (gE (k_19 * 40 + (4 * j_39 + 3)))), (10, .long (gE (k_19 * 40 + (4 * j_39 + 2)))), (8, .long (gE (k_19 * 40 + ((4 * j_39) + 1)))), (6, .long (gE (k_19 * 40 + (4 * j_39)))), (5, .int (nI (4 * j_39))), (4, .int xC_41), (3, .int 0), (0, .ref qx), (1, .int (nI k_19)), (2, .int (nI (4 * k_33)))]) hx hb (g_55 (v := 12) bX5_ones rfl) hl (by decide +kernel) rfl (fun ls => ?_)
                clear hl
                intro hl
                refine lv_lload hx hb (g_22 (v := 6) bX5_ones rfl) (lv_at hl 3 rfl) ?_
                refine lv_lload hx hb (g_22 (v := 8) bX5_ones rfl) (lv_at hl 2 rfl) ?_
                refine lv_lload hx hb (g_22 (v := 10) bX5_ones rfl) (lv_at hl 1 rfl) ?_
                refine lv_lload hx hb (g_22 (v := 12) bX5_ones rfl) (lv_at hl 0 rfl) ?_
                refine kRi (rS (As := [.long (gE (k_19 * 40 + (4 * j_39))), .long (gE (k_19 * 40 + ((4 * j_39) + 1))), .long (gE (k_19 * 40 + (4 * j_39 + 2))), .long (gE (k_19 * 40 + (4 * j_39 + 3)))]) (rest := []) ⟨hx, hb, hml, hown, hts⟩ (c_X5_canBeOne l G cy (gE (k_19 * 40 + (4 * j_39))) (gE (k_19 * 40 + ((4 * j_39) + 1))) (gE (k_19 * 40 + (4 * j_39 + 2))) (gE (k_19 * 40 + (4 * j_39 + 3)))) L_X5_137 (preRS hN hP [] rfl) rfl ⟨Nat.le_of_ble_eq_true rfl, Nat.le_of_ble_eq_true rfl⟩ hl.1 (Nat.le_of_ble_eq_true rfl) (g_184 (v := 137) bX5_ones rfl) ⟨Nat.le_of_ble_eq_true rfl, Nat.le_of_ble_eq_true rfl⟩) (fun r_60 h_61 => ?_)
                rcases h_61 with ⟨rfl, h_62⟩ | ⟨rfl, h_62⟩
                · refine lv_if_ne (tgt := 143) hx hb dX5_ones_137 (by decide +kernel) (fun _ => ?_) (fun h9 => absurd h9 (by decide +kernel))
                  refine lv_aload_n hx hb (g_42 bX5_ones rfl) rfl (lv_at hl 7 rfl) ?_
                  refine va_get (D := G) (ci := 4) (v := .ref qt) (C := RX5) (T := TX5) (N := 9) hx hb hts iX_X5 hown hK hP 0 rfl rfl 0 (by decide +kernel) (hts _ m_t174) (fun _ h9 => h9) rfl (g_180 (v := 10) bX5_ones rfl) ?_
                  refine lv_lload hx hb (g_22 (v := 6) bX5_ones rfl) (lv_at hl 3 rfl) ?_
                  refine lv_l2i (v := (gE (k_19 * 40 + (4 * j_39))).toInt32) hx hb (g_136 bX5_ones rfl) rfl ?_
                  refine lv_lload hx hb (g_22 (v := 8) bX5_ones rfl) (lv_at hl 2 rfl) ?_
                  refine lv_l2i (v := (gE (k_19 * 40 + ((4 * j_39) + 1))).toInt32) hx hb (g_136 bX5_ones rfl) rfl ?_
                  refine lv_lload hx hb (g_22 (v := 10) bX5_ones rfl) (lv_at hl 1 rfl) ?_
                  refine lv_l2i (v := (gE (k_19 * 40 + (4 * j_39 + 2))).toInt32) hx hb (g_136 bX5_ones rfl) rfl ?_
                  refine lv_lload hx hb (g_22 (v := 12) bX5_ones rfl) (lv_at hl 0 rfl) ?_
                  refine lv_l2i (v := (gE (k_19 * 40 + (4 * j_39 + 3))).toInt32) hx hb (g_136 bX5_ones rfl) rfl ?_
                  refine cVi (As := [.int ((gE (k_19 * 40 + (4 * j_39))).toInt32), .int ((gE (k_19 * 40 + ((4 * j_39) + 1))).toInt32), .int ((gE (k_19 * 40 + (4 * j_39 + 2))).toInt32), .int ((gE (k_19 * 40 + (4 * j_39 + 3))).toInt32)]) (rest := []) (b := qt) (q := (RX4, TX4, 13)) ⟨hx, hb, hml, hown, hts⟩ (c_X4_addOne l G cy (H).size qt tJ_40 qtw qtn qtg qta qtr qtm qtt qts ((gE (k_19 * 40 + (4 * j_39))).toInt32) ((gE (k_19 * 40 + ((4 * j_39) + 1))).toInt32) ((gE (k_19 * 40 + (4 * j_39 + 2))).toInt32) ((gE (k_19 * 40 + (4 * j_39 + 3))).toInt32) (by first | omega | (simp only [nb_sr, np_sr, nb_wr, np_wr, nb_rd, np_rd, nb_ch, np_ch, nb_zr, np_zr, nb_za, np_za, nb_ey, np_ey, nb_hf, np_hf, nb_dd, np_dd, nb_so, np_so, nb_skn, np_skn, nb_swh, np_swh, nb_sgn, np_sgn, nb_ssd, np_ssd, nb_sgo, np_sgo, nb_sag, np_sag]; omega))) L_X5_144 hN hP hD hS hA (trueIx 0 [false, false, false, false, false, false, true, true, true, true, true, true, true, true, true]) [true, true, true, true, true, true, false, false, false, false, false, false, false, false, false] (sel_eq rfl rfl) (by decide +kernel) rfl 6 3 rfl rfl rfl ⟨Nat.le_of_ble_eq_true rfl, Nat.le_of_ble_eq_true rfl⟩ hl.1 (Nat.le_of_ble_eq_true rfl) (g_182 (v := 144) bX5_ones rfl) ⟨Nat.le_of_ble_eq_true rfl, Nat.le_of_ble_eq_true rfl⟩ (fun r_64 u_66 H locs h_65 => ?_)
                  clear hP hD hS
                  intro hP hD hS
                  obtain ⟨hu9, h_65⟩ := h_65
                  have hPD := pd_eq [_, _, _, _, _, _, zzO qt 3 [.int (nI (T_nb (zao tJ_40 ((gE (k_19 * 40 + (4 * j_39))).toInt32) ((gE (k_19 * 40 + ((4 * j_39) + 1))).toInt32) ((gE (k_19 * 40 + (4 * j_39 + 2))).toInt32) ((gE (k_19 * 40 + (4 * j_39 + 3))).toInt32)))), .int (nI (T_np (zao tJ_40 ((gE (k_19 * 40 + (4 * j_39))).toInt32) ((gE (k_19 * 40 + ((4 * j_39) + 1))).toInt32) ((gE (k_19 * 40 + (4 * j_39 + 2))).toInt32) ((gE (k_19 * 40 + (4 * j_39 + 3))).toInt32)))), .int (wb (T_wh (zao tJ_40 ((gE (k_19 * 40 + (4 * j_39))).toInt32) ((gE (k_19 * 40 + ((4 * j_39) + 1))).toInt32) ((gE (k_19 * 40 + (4 * j_39 + 2))).toInt32) ((gE (k_19 * 40 + (4 * j_39 + 3))).toInt32)))), .int (wb (T_gn (zao tJ_40 ((gE (k_19 * 40 + (4 * j_39))).toInt32) ((gE (k_19 * 40 + ((4 * j_39) + 1))).toInt32) ((gE (k_19 * 40 + (4 * j_39 + 2))).toInt32) ((gE (k_19 * 40 + (4 * j_39 + 3))).toInt32)))), .int (T_sd (zao tJ_40 ((gE (k_19 * 40 + (4 * j_39))).toInt32) ((gE (k_19 * 40 + ((4 * j_39) + 1))).toInt32) ((gE (k_19 * 40 + (4 * j_39 + 2))).toInt32) ((gE (k_19 * 40 + (4 * j_39 + 3))).toInt32))), .ref qtw, .ref qtn, .ref qtg, .ref qta, .ref qtr, .ref qtm, .ref qtt, .ref qts], zzI cy qtw 8 (T_wo (zao tJ_40 ((gE (k_19 * 40 + (4 * j_39))).toInt32) ((gE (k_19 * 40 + ((4 * j_39) + 1))).toInt32) ((gE (k_19 * 40 + (4 * j_39 + 2))).toInt32) ((gE (k_19 * 40 + (4 * j_39 + 3))).toInt32))), zzI cy qtn 8 (T_ne (zao tJ_40 ((gE (k_19 * 40 + (4 * j_39))).toInt32) ((gE (k_19 * 40 + ((4 * j_39) + 1))).toInt32) ((gE (k_19 * 40 + (4 * j_39 + 2))).toInt32) ((gE (k_19 * 40 + (4 * j_39 + 3))).toInt32))), zzI cy qtg 8 (T_go (zao tJ_40 ((gE (k_19 * 40 + (4 * j_39))).toInt32) ((gE (k_19 * 40 + ((4 * j_39) + 1))).toInt32) ((gE (k_19 * 40 + (4 * j_39 + 2))).toInt32) ((gE (k_19 * 40 + (4 * j_39 + 3))).toInt32))), zzI cy qta 8 (T_ag (zao tJ_40 ((gE (k_19 * 40 + (4 * j_39))).toInt32) ((gE (k_19 * 40 + ((4 * j_39) + 1))).toInt32) ((gE (k_19 * 40 + (4 * j_39 + 2))).toInt32) ((gE (k_19 * 40 + (4 * j_39 + 3))).toInt32))), zzI cy qtr 8 (T_re (zao tJ_40 ((gE (k_19 * 40 + (4 * j_39))).toInt32) ((gE (k_19 * 40 + ((4 * j_39) + 1))).toInt32) ((gE (k_19 * 40 + (4 * j_39 + 2))).toInt32) ((gE (k_19 * 40 + (4 * j_39 + 3))).toInt32))), zzI cy qtm 8 (T_me (zao tJ_40 ((gE (k_19 * 40 + (4 * j_39))).toInt32) ((gE (k_19 * 40 + ((4 * j_39) + 1))).toInt32) ((gE (k_19 * 40 + (4 * j_39 + 2))).toInt32) ((gE (k_19 * 40 + (4 * j_39 + 3))).toInt32))), zzI cy qtt 8 (T_te (zao tJ_40 ((gE (k_19 * 40 + (4 * j_39))).toInt32) ((gE (k_19 * 40 + ((4 * j_39) + 1))).toInt32) ((gE (k_19 * 40 + (4 * j_39 + 2))).toInt32) ((gE (k_19 * 40 + (4 * j_39 + 3))).toInt32))), zzI cy qts 64 (shF (T_kn (zao tJ_40 ((gE (k_19 * 40 + (4 * j_39))).toInt32) ((gE (k_19 * 40 + ((4 * j_39) + 1))).toInt32) ((gE (k_19 * 40 + (4 * j_39 + 2))).toInt32) ((gE (k_19 * 40 + (4 * j_39 + 3))).toInt32))))] hP hD hu9 rfl
                  clear hP hD hu9
                  obtain ⟨hP, hD⟩ := hPD
                  subst h_65
                  refine lv_pop hx hb (g_87 bX5_ones rfl) rfl ?_
                  refine lv_iinc (v := xC_41 + 1) (lv' := [(4, .int (xC_41 + 1)), (12, .long (gE (k_19 * 40 + (4 * j_39 + 3)))), (10, .long (gE (k_19 * 40 + (4 * j_39 + 2)))), (8, .long (gE (k_19 * 40 + ((4 * j_39) + 1)))), (6, .long (gE (k_19 * 40 + (4 * j_39)))), (5, .int (nI (4 * j_39))), (3, .int 0), (0, .ref qx), (1, .int (nI k_19)), (2, .int (nI (4 * k_33)))]) hx hb dX5_ones_163 hl (k := 5) rfl (rfl) (by decide +kernel) rfl (fun ls => ?_)
                  clear hl
                  intro hl
                  refine lv_iinc (v := (nI (4 * j_39)) + 4) (lv' := [(5, .int ((nI (4 * j_39)) + 4)), (4, .int (xC_41 + 1)), (12, .long (gE (k_19 * 40 + (4 * j_39 + 3)))), (10, .long (gE (k_19 * 40 + (4 * j_39 + 2)))), (8, .long (gE (k_19 * 40 + ((4 * j_39) + 1)))), (6, .long (gE (k_19 * 40 + (4 * j_39)))), (3, .int 0), (0, .ref qx), (1, .int (nI k_19)), (2, .int (nI (4 * k_33)))]) hx hb dX5_ones_166 hl (k := 5) rfl (rfl) (by decide +kernel) rfl (fun ls => ?_)
                  clear hl
                  intro hl
                  rw [show (nI (4 * j_39)) + 4 = nI (4 * (j_39 + 1)) from (nI_add (4 * j_39) 4).trans (congrArg nI (by omega))] at hl
                  refine lv_goto (tgt := 54) hx hb dX5_ones_169 (by decide +kernel) ?_
                  exact ih_38 (j_39 + 1) (zao tJ_40 ((gE (k_19 * 40 + (4 * j_39))).toInt32) ((gE (k_19 * 40 + ((4 * j_39) + 1))).toInt32) ((gE (k_19 * 40 + (4 * j_39 + 2))).toInt32) ((gE (k_19 * 40 + (4 * j_39 + 3))).toInt32)) (xC_41 + 1) (by omega) (by omega) (by rw [← hT_43, show k_33 - j_39 = k_33 - (j_39 + 1) + 1 by omega, on_go (e := fun i => gE (k_19 * 40 + i)) (i := 4 * j_39) hz_51 h_62]; rfl) (⟨hn_44.1, by show T_np tJ_40 + 1 ≤ 8; omega⟩) _ _ _ hP hD hS (lv_sub hl [0, 1, 6, 7, 8, 9] rfl)
                · refine lv_if_ne (tgt := 143) hx hb dX5_ones_137 (by decide +kernel) (fun h9 => absurd (by decide +kernel) h9) (fun _ => ?_)
                  have hz_68 : onG (fun i => gE (k_19 * 40 + i)) k_33 0 tA 0 = (tJ_40, xC_41) := by rw [← hT_43, on_2 (e := fun i => gE (k_19 * 40 + i)) (i := 4 * j_39) h_62]
                  refine lv_goto (tgt := 172) hx hb dX5_ones_140 (by decide +kernel) ?_
                  refine lv_iload hx hb (g_21 (v := 4) bX5_ones rfl) (lv_at hl 5 rfl) ?_
                  exact endWs [[true, true, true, true, true, true, true, true, true, true, true, true, true, true, true]] hx hb hr hlocks rfl hP hD rfl (by decide +kernel) hS ⟨fR, tJ_40, rfl, Or.inr (Or.inr (Or.inr ⟨k_19, k_33, hk_20, rfl, h_21, h_22, rfl, by omega, h_26, hz_68.symm⟩)), trivial⟩ (g_172 bX5_ones rfl)
        exact lp_36 ((10 - 0) + 1) 0 tA 0 (Nat.lt_succ_self _) (Nat.zero_le _) rfl (⟨rfl, hPp⟩) _ _ ls hP hD hS (lv_sub hl [0, 1, 2, 3, 4, 5] rfl)
      · refine lv_bipush (v := (-2)) hx hb dX5_ones_35 (by decide +kernel) ?_
        refine lv_istore_n (lv' := [(3, .int (-2)), (0, .ref qx), (1, .int (nI k_19)), (2, .int iB)]) hx hb (g_62 bX5_ones rfl) rfl hl (by decide +kernel) rfl (fun ls => ?_)
        clear hl
        intro hl
        refine lv_iload_n hx hb (g_29 bX5_ones rfl) rfl (lv_at hl 0 rfl) ?_
        refine lv_if_eq (tgt := 48) hx hb dX5_ones_39 (by decide +kernel) (fun h9 => absurd h9 (by decide +kernel)) (fun _ => ?_)
        refine lv_aload_n hx hb (g_42 bX5_ones rfl) rfl (lv_at hl 1 rfl) ?_
        refine lv_iload_n hx hb (g_29 bX5_ones rfl) rfl (lv_at hl 0 rfl) ?_
        refine cVi (As := [.int (-2)]) (rest := []) (b := qx) (q := (RX5, TX5, 9)) ⟨hx, hb, hml, hown, hts⟩ (c_X5_refuse2 l G cy (s.heap).size qx qt qk qp qs qa qr iKp iYe iTv fR) L_X5_56 hN hP hD hS hA [0, 1] [false, false, true, true, true, true, true, true, true, true, true, true, true, true, true] rfl (by decide +kernel) rfl 0 4 rfl rfl rfl ⟨Nat.le_of_ble_eq_true rfl, Nat.le_of_ble_eq_true rfl⟩ hl.1 (Nat.le_of_ble_eq_true rfl) (g_182 (v := 56) bX5_ones rfl) ⟨Nat.le_of_ble_eq_true rfl, Nat.le_of_ble_eq_true rfl⟩ (fun r_70 u_72 H locs h_71 => ?_)
        clear hP hD hS
        intro hP hD hS
        obtain ⟨fX_73, hu9, h_71⟩ := h_71
        have hPD := pd_eq [_, _, _, _, _, _, _, _, _, _, _, _, _, _, zzI cy qr 5 fX_73] hP hD hu9 rfl
        clear hP hD hu9
        obtain ⟨hP, hD⟩ := hPD
        subst h_71
        exact endWs [[false, false, false, false, false, false, false, false, false, false, false, false, false, true, true], [true, true, true, true, true, true, true, true, true, true, true, true, true]] hx hb hr hlocks rfl hP hD rfl (by decide +kernel) hS ⟨fX_73, tA, rfl, Or.inl ⟨rfl, Or.inr ⟨k_19, hk_20, rfl, h_21, h_22, Or.inr c_28⟩, rfl⟩, trivial⟩ (g_172 bX5_ones rfl)
    · refine lv_if_eq (tgt := 35) hx hb dX5_ones_26 (by decide +kernel) (fun _ => ?_) (fun h9 => absurd (by decide +kernel) h9)
      refine lv_bipush (v := (-2)) hx hb dX5_ones_35 (by decide +kernel) ?_
      refine lv_istore_n (lv' := [(3, .int (-2)), (0, .ref qx), (1, .int (nI k_19)), (2, .int iB)]) hx hb (g_62 bX5_ones rfl) rfl hl (by decide +kernel) rfl (fun ls => ?_)
      clear hl
      intro hl
      refine lv_iload_n hx hb (g_29 bX5_ones rfl) rfl (lv_at hl 0 rfl) ?_
      refine lv_if_eq (tgt := 48) hx hb dX5_ones_39 (by decide +kernel) (fun h9 => absurd h9 (by decide +kernel)) (fun _ => ?_)
      refine lv_aload_n hx hb (g_42 bX5_ones rfl) rfl (lv_at hl 1 rfl) ?_
      refine lv_iload_n hx hb (g_29 bX5_ones rfl) rfl (lv_at hl 0 rfl) ?_
      refine cVi (As := [.int (-2)]) (rest := []) (b := qx) (q := (RX5, TX5, 9)) ⟨hx, hb, hml, hown, hts⟩ (c_X5_refuse2 l G cy (s.heap).size qx qt qk qp qs qa qr iKp iYe iTv fR) L_X5_56 hN hP hD hS hA [0, 1] [false, false, true, true, true, true, true, true, true, true, true, true, true, true, true] rfl (by decide +kernel) rfl 0 4 rfl rfl rfl ⟨Nat.le_of_ble_eq_true rfl, Nat.le_of_ble_eq_true rfl⟩ hl.1 (Nat.le_of_ble_eq_true rfl) (g_182 (v := 56) bX5_ones rfl) ⟨Nat.le_of_ble_eq_true rfl, Nat.le_of_ble_eq_true rfl⟩ (fun r_76 u_78 H locs h_77 => ?_)
      clear hP hD hS
      intro hP hD hS
      obtain ⟨fX_79, hu9, h_77⟩ := h_77
      have hPD := pd_eq [_, _, _, _, _, _, _, _, _, _, _, _, _, _, zzI cy qr 5 fX_79] hP hD hu9 rfl
      clear hP hD hu9
      obtain ⟨hP, hD⟩ := hPD
      subst h_77
      exact endWs [[false, false, false, false, false, false, false, false, false, false, false, false, false, true, true], [true, true, true, true, true, true, true, true, true, true, true, true, true]] hx hb hr hlocks rfl hP hD rfl (by decide +kernel) hS ⟨fX_79, tA, rfl, Or.inl ⟨rfl, Or.inr ⟨k_19, hk_20, rfl, h_21, h_22, Or.inl h_26⟩, rfl⟩, trivial⟩ (g_172 bX5_ones rfl)
  · obtain ⟨k_80, hk_81, rfl, h_82, h_83⟩ := h_3
    refine lv_istore_n (lv' := [(3, .int (-4)), (0, .ref qx), (1, .int (nI k_80)), (2, .int iB)]) hx hb (g_62 bX5_ones rfl) rfl hl (by decide +kernel) rfl (fun ls => ?_)
    clear hl
    intro hl
    refine lv_iload_n hx hb (g_29 bX5_ones rfl) rfl (lv_at hl 0 rfl) ?_
    refine lv_if_ne (tgt := 38) hx hb dX5_ones_7 (by decide +kernel) (fun _ => ?_) (fun h9 => absurd h9 (by decide +kernel))
    refine lv_iload_n hx hb (g_29 bX5_ones rfl) rfl (lv_at hl 0 rfl) ?_
    refine lv_if_eq (tgt := 48) hx hb dX5_ones_39 (by decide +kernel) (fun h9 => absurd h9 (by decide +kernel)) (fun _ => ?_)
    refine lv_aload_n hx hb (g_42 bX5_ones rfl) rfl (lv_at hl 1 rfl) ?_
    refine lv_iload_n hx hb (g_29 bX5_ones rfl) rfl (lv_at hl 0 rfl) ?_
    refine cVi (As := [.int (-4)]) (rest := []) (b := qx) (q := (RX5, TX5, 9)) ⟨hx, hb, hml, hown, hts⟩ (c_X5_refuse4 l G cy (s.heap).size qx qt qk qp qs qa qr iKp iYe iTv fR) L_X5_56 hN hP hD hS hA [0, 1] [false, false, true, true, true, true, true, true, true, true, true, true, true, true, true] rfl (by decide +kernel) rfl 0 4 rfl rfl rfl ⟨Nat.le_of_ble_eq_true rfl, Nat.le_of_ble_eq_true rfl⟩ hl.1 (Nat.le_of_ble_eq_true rfl) (g_182 (v := 56) bX5_ones rfl) ⟨Nat.le_of_ble_eq_true rfl, Nat.le_of_ble_eq_true rfl⟩ (fun r_86 u_88 H locs h_87 => ?_)
    clear hP hD hS
    intro hP hD hS
    obtain ⟨fX_89, hu9, h_87⟩ := h_87
    have hPD := pd_eq [_, _, _, _, _, _, _, _, _, _, _, _, _, _, zzI cy qr 5 fX_89] hP hD hu9 rfl
    clear hP hD hu9
    obtain ⟨hP, hD⟩ := hPD
    subst h_87
    exact endWs [[false, false, false, false, false, false, false, false, false, false, false, false, false, true, true], [true, true, true, true, true, true, true, true, true, true, true, true, true]] hx hb hr hlocks rfl hP hD rfl (by decide +kernel) hS ⟨fX_89, tA, rfl, Or.inr (Or.inr (Or.inl ⟨rfl, ⟨k_80, hk_81, rfl, h_82, h_83⟩, rfl⟩)), trivial⟩ (g_172 bX5_ones rfl)
set_option maxHeartbeats 4000000 in
set_option maxRecDepth 100000 in
theorem p_X5_wipe (l : Launch) (G : va_G) (cy : Nat → ClassId) (sz : Nat) (qx : Nat) (qt : Nat) (qk : Nat) (qp : Nat) (qs : Nat) (qa : Nat) (qr : Nat) (iKp : Int32) (iYe : Int32) (iTv : Int32) (qab : Nat) (kZ : Nat) (iT1 : Int32) (iT2 : Int32) (iT3 : Int32) (iT4 : Int32) (qd : Nat)  (hZ : kZ ≤ 250) : MW l yX5_wipe cX5_wipe 2 (some .int) 12 0 0 G cy [zzO qx 4 [.ref qt, .ref qk, .ref qp, .ref qs, .ref qa, .ref qr, .int iKp, .int iYe, .int iTv], zzO qa 2 [.ref qab, .int (nI kZ), .int iT1, .int iT2, .int iT3, .int iT4, .ref qd]] sz [.ref qx] (Wi G (fun r u => ∃ (kY : Nat) (iX4 : Int32) (iX5 : Int32) (iX6 : Int32) (iX7 : Int32), u = [zzO qx 4 [.ref qt, .ref qk, .ref qp, .ref qs, .ref qa, .ref qr, .int iKp, .int iYe, .int iTv], zzO qa 2 [.ref qab, .int (nI kY), .int iX4, .int iX5, .int iX6, .int iX7, .ref qd]] ∧ (r = nI kZ ∧ kY = 0) ∧ (True))) := by
  refine enW RX5 (by decide +kernel) rfl (Nat.le_of_ble_eq_true rfl) (fun p e s m below meth c ls A hx hb hml hown hts hr hlocks hP hN hl hin hD hA hS => ?_)
  have hin : meth.name = _ := hin
  have hK := hN.1
  replace hl : lv_has ls 2 [(0, .ref qx)] := hl
  refine lv_aload_n hx hb (g_42 bX5_wipe rfl) rfl (lv_at hl 0 rfl) ?_
  refine va_get (D := G) (ci := 4) (v := .ref qa) (C := RX5) (T := TX5) (N := 9) hx hb hts iX_X5 hown hK hP 0 rfl rfl 4 (by decide +kernel) (hts _ m_t178) (fun _ h9 => h9) rfl (g_180 (v := 36) bX5_wipe rfl) ?_
  refine va_getN (D := G) (ci := 2) (v := .int (nI kZ)) (C := RX3) (T := TX3) (N := 7) hx hb hts iX_X3 hown hK hP 1 rfl rfl 1 (by decide +kernel) (va_Nw.use rfl (hN.2.1 (RX5, 148, "EachBookOnce$Tape", "size", "I") (List.mem_of_getElem? (i := 29) rfl))) (fun _ h9 => h9) rfl (g_180 (v := 148) bX5_wipe rfl) ?_
  refine lv_istore_n (lv' := [(1, .int (nI kZ)), (0, .ref qx)]) hx hb (g_60 bX5_wipe rfl) rfl hl (by decide +kernel) rfl (fun ls => ?_)
  clear hl
  intro hl
  refine lv_aload_n hx hb (g_42 bX5_wipe rfl) rfl (lv_at hl 1 rfl) ?_
  refine va_get (D := G) (ci := 4) (v := .ref qa) (C := RX5) (T := TX5) (N := 9) hx hb hts iX_X5 hown hK hP 0 rfl rfl 4 (by decide +kernel) (hts _ m_t178) (fun _ h9 => h9) rfl (g_180 (v := 36) bX5_wipe rfl) ?_
  refine lv_iconst (v := 0) hx hb (g_3 bX5_wipe rfl) (by decide +kernel) ?_
  refine va_putN (D := G) (ci := 2) (v := .int 0) (ty := .int) (C := RX3) (T := TX3) (N := 7) hx hb hts iX_X3 tyX3 tyX3_ok nmX3 hown hK hP hD hS 1 rfl rfl 1 (by decide +kernel) (va_Nw.use rfl (hN.2.1 (RX5, 148, "EachBookOnce$Tape", "size", "I") (List.mem_of_getElem? (i := 29) rfl))) (fun _ h9 => h9) rfl (by decide +kernel) rfl rfl (Nat.le_of_ble_eq_true rfl) (g_181 (v := 148) bX5_wipe rfl) (fun H locs => ?_)
  clear hP hD hS
  intro hP hD hS
  have hPD := pd_as [_, zzO qa 2 [.ref qab, .int 0, .int iT1, .int iT2, .int iT3, .int iT4, .ref qd]] hP hD rfl
  clear hP hD
  obtain ⟨hP, hD⟩ := hPD
  refine lv_iload_n hx hb (g_27 bX5_wipe rfl) rfl (lv_at hl 0 rfl) ?_
  exact endWs [[true, true]] hx hb hr hlocks rfl hP hD rfl (by decide +kernel) hS ⟨0, iT1, iT2, iT3, iT4, rfl, ⟨rfl, rfl⟩, trivial⟩ (g_172 bX5_wipe rfl)
set_option maxHeartbeats 4000000 in
set_option maxRecDepth 100000 in
theorem p_X5_bookOf (l : Launch) (G : va_G) (cy : Nat → ClassId) (sz : Nat) (qx : Nat) (qt : Nat) (qk : Nat) (qp : Nat) (qs : Nat) (qa : Nat) (qr : Nat) (iKp : Int32) (iYe : Int32) (iTv : Int32) (fR : Nat → Int32) (tA : TA) (qtw : Nat) (qtn : Nat) (qtg : Nat) (qta : Nat) (qtr : Nat) (qtm : Nat) (qtt : Nat) (qts : Nat) (iA : Int32) (iB : Int32)  (hB : T_nb tA ≤ 8) (hPp : T_np tA ≤ 8) : MW l yX5_bookOf cX5_bookOf 3 (some .int) 12 0 0 G cy [zzO qx 4 [.ref qt, .ref qk, .ref qp, .ref qs, .ref qa, .ref qr, .int iKp, .int iYe, .int iTv], zzI cy qr 5 fR, zzO qt 3 [.int (nI (T_nb tA)), .int (nI (T_np tA)), .int (wb (T_wh tA)), .int (wb (T_gn tA)), .int (T_sd tA), .ref qtw, .ref qtn, .ref qtg, .ref qta, .ref qtr, .ref qtm, .ref qtt, .ref qts], zzI cy qtw 8 (T_wo tA), zzI cy qtn 8 (T_ne tA), zzI cy qtg 8 (T_go tA), zzI cy qta 8 (T_ag tA), zzI cy qtr 8 (T_re tA), zzI cy qtm 8 (T_me tA), zzI cy qtt 8 (T_te tA), zzI cy qts 64 (shF (T_kn tA))] sz [.ref qx, .int iA, .int iB] (Wi G (fun r u => ∃ (fX : Nat → Int32), u = [zzO qx 4 [.ref qt, .ref qk, .ref qp, .ref qs, .ref qa, .ref qr, .int iKp, .int iYe, .int iTv], zzI cy qr 5 fX, zzO qt 3 [.int (nI (T_nb tA)), .int (nI (T_np tA)), .int (wb (T_wh tA)), .int (wb (T_gn tA)), .int (T_sd tA), .ref qtw, .ref qtn, .ref qtg, .ref qta, .ref qtr, .ref qtm, .ref qtt, .ref qts], zzI cy qtw 8 (T_wo tA), zzI cy qtn 8 (T_ne tA), zzI cy qtg 8 (T_go tA), zzI cy qta 8 (T_ag tA), zzI cy qtr 8 (T_re tA), zzI cy qtm 8 (T_me tA), zzI cy qtt 8 (T_te tA), zzI cy qts 64 (shF (T_kn tA))] ∧ (True))) := by
  refine enW RX5 (by decide +kernel) rfl (Nat.le_of_ble_eq_true rfl) (fun p e s m below meth c ls A hx hb hml hown hts hr hlocks hP hN hl hin hD hA hS => ?_)
  have hin : meth.name = _ := hin
  have hK := hN.1
  replace hl : lv_has ls 3 [(0, .ref qx), (1, .int iA), (2, .int iB)] := hl
  refine lv_aload_n hx hb (g_42 bX5_bookOf rfl) rfl (lv_at hl 0 rfl) ?_
  refine va_get (D := G) (ci := 4) (v := .ref qt) (C := RX5) (T := TX5) (N := 9) hx hb hts iX_X5 hown hK hP 0 rfl rfl 0 (by decide +kernel) (hts _ m_t174) (fun _ h9 => h9) rfl (g_180 (v := 10) bX5_bookOf rfl) ?_
  refine lv_iload_n hx hb (g_27 bX5_bookOf rfl) rfl (lv_at hl 1 rfl) ?_
  refine kRi (rV (As := [.int iA]) (rest := []) (b := qt) ⟨hx, hb, hml, hown, hts⟩ (c_X4_isBook l G cy qt tA qtw qtn qtg qta qtr qtm qtt qts iA hB) L_X5_168 (preRV (q := (RX4, TX4, 13)) hN hP [2] rfl 2 3 rfl rfl) rfl ⟨Nat.le_of_ble_eq_true rfl, Nat.le_of_ble_eq_true rfl⟩ hl.1 (Nat.le_of_ble_eq_true rfl) (g_182 (v := 168) bX5_bookOf rfl) ⟨Nat.le_of_ble_eq_true rfl, Nat.le_of_ble_eq_true rfl⟩) (fun r_1 h_2 => ?_)
  rcases h_2 with ⟨rfl, h_3⟩ | ⟨rfl, h_3⟩
  · obtain ⟨k_4, hk_5, rfl⟩ := h_3
    refine lv_if_ne (tgt := 18) hx hb dX5_bookOf_8 (by decide +kernel) (fun _ => ?_) (fun h9 => absurd h9 (by decide +kernel))
    refine lv_iload_n hx hb (g_28 bX5_bookOf rfl) rfl (lv_at hl 2 rfl) ?_
    rcases sw_0_4 iB with rfl | rfl | rfl | rfl | rfl | h_7
    · refine lv_tableIn (tgt := 52) (off := 33) hx hb dX5_bookOf_19 (by decide +kernel) (by decide +kernel) (by decide +kernel) (by decide +kernel) ?_
      refine lv_aload_n hx hb (g_42 bX5_bookOf rfl) rfl (lv_at hl 0 rfl) ?_
      refine va_get (D := G) (ci := 4) (v := .ref qt) (C := RX5) (T := TX5) (N := 9) hx hb hts iX_X5 hown hK hP 0 rfl rfl 0 (by decide +kernel) (hts _ m_t174) (fun _ h9 => h9) rfl (g_180 (v := 10) bX5_bookOf rfl) ?_
      refine va_getN (D := G) (ci := 3) (v := .ref qtw) (C := RX4) (T := TX4) (N := 13) hx hb hts iX_X4 hown hK hP 2 rfl rfl 5 (by decide +kernel) (va_Nw.use rfl (hN.2.1 (RX5, 171, "EachBookOnce$Town", "worth", "[I") (List.mem_of_getElem? (i := 14) rfl))) (fun _ h9 => h9) rfl (g_180 (v := 171) bX5_bookOf rfl) ?_
      refine lv_iload_n hx hb (g_27 bX5_bookOf rfl) rfl (lv_at hl 1 rfl) ?_
      refine va_iald hx hb hK hP 3 0 rfl rfl (in8 (by omega)) (g_46 bX5_bookOf rfl) ?_
      refine lv_seti (v := (T_wo tA) k_4) (congrArg (T_wo tA) (cl8 (by omega))) ?_
      exact endWs [[true, true, true, true, true, true, true, true, true, true, true]] hx hb hr hlocks rfl hP hD rfl (by decide +kernel) hS ⟨fR, rfl, trivial⟩ (g_172 bX5_bookOf rfl)
    · refine lv_tableIn (tgt := 62) (off := 43) hx hb dX5_bookOf_19 (by decide +kernel) (by decide +kernel) (by decide +kernel) (by decide +kernel) ?_
      refine lv_aload_n hx hb (g_42 bX5_bookOf rfl) rfl (lv_at hl 0 rfl) ?_
      refine va_get (D := G) (ci := 4) (v := .ref qt) (C := RX5) (T := TX5) (N := 9) hx hb hts iX_X5 hown hK hP 0 rfl rfl 0 (by decide +kernel) (hts _ m_t174) (fun _ h9 => h9) rfl (g_180 (v := 10) bX5_bookOf rfl) ?_
      refine va_getN (D := G) (ci := 3) (v := .ref qtn) (C := RX4) (T := TX4) (N := 13) hx hb hts iX_X4 hown hK hP 2 rfl rfl 6 (by decide +kernel) (va_Nw.use rfl (hN.2.1 (RX5, 174, "EachBookOnce$Town", "needed", "[I") (List.mem_of_getElem? (i := 16) rfl))) (fun _ h9 => h9) rfl (g_180 (v := 174) bX5_bookOf rfl) ?_
      refine lv_iload_n hx hb (g_27 bX5_bookOf rfl) rfl (lv_at hl 1 rfl) ?_
      refine va_iald hx hb hK hP 4 0 rfl rfl (in8 (by omega)) (g_46 bX5_bookOf rfl) ?_
      refine lv_seti (v := (T_ne tA) k_4) (congrArg (T_ne tA) (cl8 (by omega))) ?_
      exact endWs [[true, true, true, true, true, true, true, true, true, true, true]] hx hb hr hlocks rfl hP hD rfl (by decide +kernel) hS ⟨fR, rfl, trivial⟩ (g_172 bX5_bookOf rfl)
    · refine lv_tableIn (tgt := 72) (off := 53) hx hb dX5_bookOf_19 (by decide +kernel) (by decide +kernel) (by decide +kernel) (by decide +kernel) ?_
      refine lv_aload_n hx hb (g_42 bX5_bookOf rfl) rfl (lv_at hl 0 rfl) ?_
      refine va_get (D := G) (ci := 4) (v := .ref qt) (C := RX5) (T := TX5) (N := 9) hx hb hts iX_X5 hown hK hP 0 rfl rfl 0 (by decide +kernel) (hts _ m_t174) (fun _ h9 => h9) rfl (g_180 (v := 10) bX5_bookOf rfl) ?_
      refine va_getN (D := G) (ci := 3) (v := .ref qtg) (C := RX4) (T := TX4) (N := 13) hx hb hts iX_X4 hown hK hP 2 rfl rfl 7 (by decide +kernel) (va_Nw.use rfl (hN.2.1 (RX5, 177, "EachBookOnce$Town", "good", "[I") (List.mem_of_getElem? (i := 18) rfl))) (fun _ h9 => h9) rfl (g_180 (v := 177) bX5_bookOf rfl) ?_
      refine lv_iload_n hx hb (g_27 bX5_bookOf rfl) rfl (lv_at hl 1 rfl) ?_
      refine va_iald hx hb hK hP 5 0 rfl rfl (in8 (by omega)) (g_46 bX5_bookOf rfl) ?_
      refine lv_seti (v := (T_go tA) k_4) (congrArg (T_go tA) (cl8 (by omega))) ?_
      exact endWs [[true, true, true, true, true, true, true, true, true, true, true]] hx hb hr hlocks rfl hP hD rfl (by decide +kernel) hS ⟨fR, rfl, trivial⟩ (g_172 bX5_bookOf rfl)
    · refine lv_tableIn (tgt := 82) (off := 63) hx hb dX5_bookOf_19 (by decide +kernel) (by decide +kernel) (by decide +kernel) (by decide +kernel) ?_
      refine lv_aload_n hx hb (g_42 bX5_bookOf rfl) rfl (lv_at hl 0 rfl) ?_
      refine va_get (D := G) (ci := 4) (v := .ref qt) (C := RX5) (T := TX5) (N := 9) hx hb hts iX_X5 hown hK hP 0 rfl rfl 0 (by decide +kernel) (hts _ m_t174) (fun _ h9 => h9) rfl (g_180 (v := 10) bX5_bookOf rfl) ?_
      refine va_getN (D := G) (ci := 3) (v := .int (wb (T_wh tA))) (C := RX4) (T := TX4) (N := 13) hx hb hts iX_X4 hown hK hP 2 rfl rfl 2 (by decide +kernel) (va_Nw.use rfl (hN.2.1 (RX5, 180, "EachBookOnce$Town", "white", "I") (List.mem_of_getElem? (i := 10) rfl))) (fun _ h9 => h9) rfl (g_180 (v := 180) bX5_bookOf rfl) ?_
      refine lv_iload_n hx hb (g_27 bX5_bookOf rfl) rfl (lv_at hl 1 rfl) ?_
      refine kRi (rS (As := [.int (wb (T_wh tA)), .int (nI k_4)]) (rest := []) ⟨hx, hb, hml, hown, hts⟩ (c_X5_has l G cy (wb (T_wh tA)) k_4) L_X5_183 (preRS hN hP [] rfl) rfl ⟨Nat.le_of_ble_eq_true rfl, Nat.le_of_ble_eq_true rfl⟩ hl.1 (Nat.le_of_ble_eq_true rfl) (g_184 (v := 183) bX5_bookOf rfl) ⟨Nat.le_of_ble_eq_true rfl, Nat.le_of_ble_eq_true rfl⟩) (fun r_8 h_9 => ?_)
      rcases h_9 with ⟨rfl, h_10⟩ | ⟨rfl, h_10⟩
      · rw [bit_wb _ (by omega)] at h_10
        refine lv_if_eq (tgt := 100) hx hb dX5_bookOf_93 (by decide +kernel) (fun h9 => absurd h9 (by decide +kernel)) (fun _ => ?_)
        refine lv_iconst (v := 1) hx hb (g_4 bX5_bookOf rfl) (by decide +kernel) ?_
        refine lv_goto (tgt := 101) hx hb dX5_bookOf_97 (by decide +kernel) ?_
        exact endWs [[true, true, true, true, true, true, true, true, true, true, true]] hx hb hr hlocks rfl hP hD rfl (by decide +kernel) hS ⟨fR, rfl, trivial⟩ (g_172 bX5_bookOf rfl)
      · rw [bit_wb _ (by omega)] at h_10
        refine lv_if_eq (tgt := 100) hx hb dX5_bookOf_93 (by decide +kernel) (fun _ => ?_) (fun h9 => absurd (by decide +kernel) h9)
        refine lv_iconst (v := 0) hx hb (g_3 bX5_bookOf rfl) (by decide +kernel) ?_
        exact endWs [[true, true, true, true, true, true, true, true, true, true, true]] hx hb hr hlocks rfl hP hD rfl (by decide +kernel) hS ⟨fR, rfl, trivial⟩ (g_172 bX5_bookOf rfl)
    · refine lv_tableIn (tgt := 102) (off := 83) hx hb dX5_bookOf_19 (by decide +kernel) (by decide +kernel) (by decide +kernel) (by decide +kernel) ?_
      refine lv_aload_n hx hb (g_42 bX5_bookOf rfl) rfl (lv_at hl 0 rfl) ?_
      refine va_get (D := G) (ci := 4) (v := .ref qt) (C := RX5) (T := TX5) (N := 9) hx hb hts iX_X5 hown hK hP 0 rfl rfl 0 (by decide +kernel) (hts _ m_t174) (fun _ h9 => h9) rfl (g_180 (v := 10) bX5_bookOf rfl) ?_
      refine lv_iload_n hx hb (g_27 bX5_bookOf rfl) rfl (lv_at hl 1 rfl) ?_
      refine lv_aload_n hx hb (g_42 bX5_bookOf rfl) rfl (lv_at hl 0 rfl) ?_
      refine va_get (D := G) (ci := 4) (v := .ref qt) (C := RX5) (T := TX5) (N := 9) hx hb hts iX_X5 hown hK hP 0 rfl rfl 0 (by decide +kernel) (hts _ m_t174) (fun _ h9 => h9) rfl (g_180 (v := 10) bX5_bookOf rfl) ?_
      refine va_getN (D := G) (ci := 3) (v := .int (nI (T_np tA))) (C := RX4) (T := TX4) (N := 13) hx hb hts iX_X4 hown hK hP 2 rfl rfl 1 (by decide +kernel) (va_Nw.use rfl (hN.2.1 (RX5, 141, "EachBookOnce$Town", "people", "I") (List.mem_of_getElem? (i := 7) rfl))) (fun _ h9 => h9) rfl (g_180 (v := 141) bX5_bookOf rfl) ?_
      refine kRi (rS (As := [.int (nI (T_np tA))]) (rest := [.int (nI k_4), .ref qt]) ⟨hx, hb, hml, hown, hts⟩ (c_X5_setOfAll l G cy (nI (T_np tA))) L_X5_186 (preRS hN hP [] rfl) rfl ⟨Nat.le_of_ble_eq_true rfl, Nat.le_of_ble_eq_true rfl⟩ hl.1 (Nat.le_of_ble_eq_true rfl) (g_184 (v := 186) bX5_bookOf rfl) ⟨Nat.le_of_ble_eq_true rfl, Nat.le_of_ble_eq_true rfl⟩) (fun r_13 h_14 => ?_)
      subst h_14
      refine kRi (rV (As := [.int (nI k_4), .int ((1 <<< ((nI (T_np tA)) &&& 31)) - 1)]) (rest := []) (b := qt) ⟨hx, hb, hml, hown, hts⟩ (c_X4_mostKnown l G cy qt tA qtw qtn qtg qta qtr qtm qtt qts k_4 ((1 <<< ((nI (T_np tA)) &&& 31)) - 1) hPp (by first | omega | (simp only [nb_sr, np_sr, nb_wr, np_wr, nb_rd, np_rd, nb_ch, np_ch, nb_zr, np_zr, nb_za, np_za, nb_ey, np_ey, nb_hf, np_hf, nb_dd, np_dd, nb_so, np_so, nb_skn, np_skn, nb_swh, np_swh, nb_sgn, np_sgn, nb_ssd, np_ssd, nb_sgo, np_sgo, nb_sag, np_sag]; omega))) L_X5_189 (preRV (q := (RX4, TX4, 13)) hN hP [2, 10] rfl 2 3 rfl rfl) rfl ⟨Nat.le_of_ble_eq_true rfl, Nat.le_of_ble_eq_true rfl⟩ hl.1 (Nat.le_of_ble_eq_true rfl) (g_182 (v := 189) bX5_bookOf rfl) ⟨Nat.le_of_ble_eq_true rfl, Nat.le_of_ble_eq_true rfl⟩) (fun r_15 h_16 => ?_)
      subst h_16
      exact endWs [[true, true, true, true, true, true, true, true, true, true, true]] hx hb hr hlocks rfl hP hD rfl (by decide +kernel) hS ⟨fR, rfl, trivial⟩ (g_172 bX5_bookOf rfl)
    · refine lv_tableOut (tgt := 121) hx hb dX5_bookOf_19 h_7 (by decide +kernel) ?_
      refine lv_aload_n hx hb (g_42 bX5_bookOf rfl) rfl (lv_at hl 0 rfl) ?_
      refine lv_bipush (v := (-2)) hx hb dX5_bookOf_122 (by decide +kernel) ?_
      refine cVi (As := [.int (-2)]) (rest := []) (b := qx) (q := (RX5, TX5, 9)) ⟨hx, hb, hml, hown, hts⟩ (c_X5_refuse2 l G cy (s.heap).size qx qt qk qp qs qa qr iKp iYe iTv fR) L_X5_56 hN hP hD hS hA [0, 1] [false, false, true, true, true, true, true, true, true, true, true] rfl (by decide +kernel) rfl 0 4 rfl rfl rfl ⟨Nat.le_of_ble_eq_true rfl, Nat.le_of_ble_eq_true rfl⟩ hl.1 (Nat.le_of_ble_eq_true rfl) (g_182 (v := 56) bX5_bookOf rfl) ⟨Nat.le_of_ble_eq_true rfl, Nat.le_of_ble_eq_true rfl⟩ (fun r_17 u_19 H locs h_18 => ?_)
      clear hP hD hS
      intro hP hD hS
      obtain ⟨fX_20, hu9, h_18⟩ := h_18
      have hPD := pd_eq [_, _, _, _, _, _, _, _, _, _, zzI cy qr 5 fX_20] hP hD hu9 rfl
      clear hP hD hu9
      obtain ⟨hP, hD⟩ := hPD
      subst h_18
      exact endWs [[false, false, false, false, false, false, false, false, false, true, true], [true, true, true, true, true, true, true, true, true]] hx hb hr hlocks rfl hP hD rfl (by decide +kernel) hS ⟨fX_20, rfl, trivial⟩ (g_172 bX5_bookOf rfl)
  · refine lv_if_ne (tgt := 18) hx hb dX5_bookOf_8 (by decide +kernel) (fun h9 => absurd (by decide +kernel) h9) (fun _ => ?_)
    refine lv_aload_n hx hb (g_42 bX5_bookOf rfl) rfl (lv_at hl 0 rfl) ?_
    refine lv_bipush (v := (-2)) hx hb dX5_bookOf_12 (by decide +kernel) ?_
    refine cVi (As := [.int (-2)]) (rest := []) (b := qx) (q := (RX5, TX5, 9)) ⟨hx, hb, hml, hown, hts⟩ (c_X5_refuse2 l G cy (s.heap).size qx qt qk qp qs qa qr iKp iYe iTv fR) L_X5_56 hN hP hD hS hA [0, 1] [false, false, true, true, true, true, true, true, true, true, true] rfl (by decide +kernel) rfl 0 4 rfl rfl rfl ⟨Nat.le_of_ble_eq_true rfl, Nat.le_of_ble_eq_true rfl⟩ hl.1 (Nat.le_of_ble_eq_true rfl) (g_182 (v := 56) bX5_bookOf rfl) ⟨Nat.le_of_ble_eq_true rfl, Nat.le_of_ble_eq_true rfl⟩ (fun r_22 u_24 H locs h_23 => ?_)
    clear hP hD hS
    intro hP hD hS
    obtain ⟨fX_25, hu9, h_23⟩ := h_23
    have hPD := pd_eq [_, _, _, _, _, _, _, _, _, _, zzI cy qr 5 fX_25] hP hD hu9 rfl
    clear hP hD hu9
    obtain ⟨hP, hD⟩ := hPD
    subst h_23
    exact endWs [[false, false, false, false, false, false, false, false, false, true, true], [true, true, true, true, true, true, true, true, true]] hx hb hr hlocks rfl hP hD rfl (by decide +kernel) hS ⟨fX_25, rfl, trivial⟩ (g_172 bX5_bookOf rfl)
set_option maxHeartbeats 4000000 in
set_option maxRecDepth 100000 in
theorem p_X5_oneOf (l : Launch) (G : va_G) (cy : Nat → ClassId) (sz : Nat) (qx : Nat) (qt : Nat) (qk : Nat) (qp : Nat) (qs : Nat) (qa : Nat) (qr : Nat) (iKp : Int32) (iYe : Int32) (iTv : Int32) (fR : Nat → Int32) (tA : TA) (qtw : Nat) (qtn : Nat) (qtg : Nat) (qta : Nat) (qtr : Nat) (qtm : Nat) (qtt : Nat) (qts : Nat) (iA : Int32) (iB : Int32)  (hB : T_nb tA ≤ 8) (hPp : T_np tA ≤ 8) : MW l yX5_oneOf cX5_oneOf 3 (some .int) 12 0 0 G cy [zzO qx 4 [.ref qt, .ref qk, .ref qp, .ref qs, .ref qa, .ref qr, .int iKp, .int iYe, .int iTv], zzI cy qr 5 fR, zzO qt 3 [.int (nI (T_nb tA)), .int (nI (T_np tA)), .int (wb (T_wh tA)), .int (wb (T_gn tA)), .int (T_sd tA), .ref qtw, .ref qtn, .ref qtg, .ref qta, .ref qtr, .ref qtm, .ref qtt, .ref qts], zzI cy qtw 8 (T_wo tA), zzI cy qtn 8 (T_ne tA), zzI cy qtg 8 (T_go tA), zzI cy qta 8 (T_ag tA), zzI cy qtr 8 (T_re tA), zzI cy qtm 8 (T_me tA), zzI cy qtt 8 (T_te tA), zzI cy qts 64 (shF (T_kn tA))] sz [.ref qx, .int iA, .int iB] (Wi G (fun r u => ∃ (fX : Nat → Int32), u = [zzO qx 4 [.ref qt, .ref qk, .ref qp, .ref qs, .ref qa, .ref qr, .int iKp, .int iYe, .int iTv], zzI cy qr 5 fX, zzO qt 3 [.int (nI (T_nb tA)), .int (nI (T_np tA)), .int (wb (T_wh tA)), .int (wb (T_gn tA)), .int (T_sd tA), .ref qtw, .ref qtn, .ref qtg, .ref qta, .ref qtr, .ref qtm, .ref qtt, .ref qts], zzI cy qtw 8 (T_wo tA), zzI cy qtn 8 (T_ne tA), zzI cy qtg 8 (T_go tA), zzI cy qta 8 (T_ag tA), zzI cy qtr 8 (T_re tA), zzI cy qtm 8 (T_me tA), zzI cy qtt 8 (T_te tA), zzI cy qts 64 (shF (T_kn tA))] ∧ (True))) := by
  refine enW RX5 (by decide +kernel) rfl (Nat.le_of_ble_eq_true rfl) (fun p e s m below meth c ls A hx hb hml hown hts hr hlocks hP hN hl hin hD hA hS => ?_)
  have hin : meth.name = _ := hin
  have hK := hN.1
  replace hl : lv_has ls 3 [(0, .ref qx), (1, .int iA), (2, .int iB)] := hl
  refine lv_aload_n hx hb (g_42 bX5_oneOf rfl) rfl (lv_at hl 0 rfl) ?_
  refine va_get (D := G) (ci := 4) (v := .ref qt) (C := RX5) (T := TX5) (N := 9) hx hb hts iX_X5 hown hK hP 0 rfl rfl 0 (by decide +kernel) (hts _ m_t174) (fun _ h9 => h9) rfl (g_180 (v := 10) bX5_oneOf rfl) ?_
  refine lv_iload_n hx hb (g_27 bX5_oneOf rfl) rfl (lv_at hl 1 rfl) ?_
  refine kRi (rV (As := [.int iA]) (rest := []) (b := qt) ⟨hx, hb, hml, hown, hts⟩ (c_X4_isOne l G cy qt tA qtw qtn qtg qta qtr qtm qtt qts iA hPp) L_X5_192 (preRV (q := (RX4, TX4, 13)) hN hP [2] rfl 2 3 rfl rfl) rfl ⟨Nat.le_of_ble_eq_true rfl, Nat.le_of_ble_eq_true rfl⟩ hl.1 (Nat.le_of_ble_eq_true rfl) (g_182 (v := 192) bX5_oneOf rfl) ⟨Nat.le_of_ble_eq_true rfl, Nat.le_of_ble_eq_true rfl⟩) (fun r_1 h_2 => ?_)
  rcases h_2 with ⟨rfl, h_3⟩ | ⟨rfl, h_3⟩
  · obtain ⟨k_4, hk_5, rfl⟩ := h_3
    refine lv_if_ne (tgt := 18) hx hb dX5_oneOf_8 (by decide +kernel) (fun _ => ?_) (fun h9 => absurd h9 (by decide +kernel))
    refine lv_iload_n hx hb (g_28 bX5_oneOf rfl) rfl (lv_at hl 2 rfl) ?_
    rcases sw_0_4 iB with rfl | rfl | rfl | rfl | rfl | h_7
    · refine lv_tableIn (tgt := 52) (off := 33) hx hb dX5_oneOf_19 (by decide +kernel) (by decide +kernel) (by decide +kernel) (by decide +kernel) ?_
      refine lv_aload_n hx hb (g_42 bX5_oneOf rfl) rfl (lv_at hl 0 rfl) ?_
      refine va_get (D := G) (ci := 4) (v := .ref qt) (C := RX5) (T := TX5) (N := 9) hx hb hts iX_X5 hown hK hP 0 rfl rfl 0 (by decide +kernel) (hts _ m_t174) (fun _ h9 => h9) rfl (g_180 (v := 10) bX5_oneOf rfl) ?_
      refine va_getN (D := G) (ci := 3) (v := .ref qta) (C := RX4) (T := TX4) (N := 13) hx hb hts iX_X4 hown hK hP 2 rfl rfl 8 (by decide +kernel) (va_Nw.use rfl (hN.2.1 (RX5, 195, "EachBookOnce$Town", "age", "[I") (List.mem_of_getElem? (i := 19) rfl))) (fun _ h9 => h9) rfl (g_180 (v := 195) bX5_oneOf rfl) ?_
      refine lv_iload_n hx hb (g_27 bX5_oneOf rfl) rfl (lv_at hl 1 rfl) ?_
      refine va_iald hx hb hK hP 6 0 rfl rfl (in8 (by omega)) (g_46 bX5_oneOf rfl) ?_
      refine lv_seti (v := (T_ag tA) k_4) (congrArg (T_ag tA) (cl8 (by omega))) ?_
      exact endWs [[true, true, true, true, true, true, true, true, true, true, true]] hx hb hr hlocks rfl hP hD rfl (by decide +kernel) hS ⟨fR, rfl, trivial⟩ (g_172 bX5_oneOf rfl)
    · refine lv_tableIn (tgt := 62) (off := 43) hx hb dX5_oneOf_19 (by decide +kernel) (by decide +kernel) (by decide +kernel) (by decide +kernel) ?_
      refine lv_aload_n hx hb (g_42 bX5_oneOf rfl) rfl (lv_at hl 0 rfl) ?_
      refine va_get (D := G) (ci := 4) (v := .ref qt) (C := RX5) (T := TX5) (N := 9) hx hb hts iX_X5 hown hK hP 0 rfl rfl 0 (by decide +kernel) (hts _ m_t174) (fun _ h9 => h9) rfl (g_180 (v := 10) bX5_oneOf rfl) ?_
      refine va_getN (D := G) (ci := 3) (v := .ref qtr) (C := RX4) (T := TX4) (N := 13) hx hb hts iX_X4 hown hK hP 2 rfl rfl 9 (by decide +kernel) (va_Nw.use rfl (hN.2.1 (RX5, 198, "EachBookOnce$Town", "reading", "[I") (List.mem_of_getElem? (i := 20) rfl))) (fun _ h9 => h9) rfl (g_180 (v := 198) bX5_oneOf rfl) ?_
      refine lv_iload_n hx hb (g_27 bX5_oneOf rfl) rfl (lv_at hl 1 rfl) ?_
      refine va_iald hx hb hK hP 7 0 rfl rfl (in8 (by omega)) (g_46 bX5_oneOf rfl) ?_
      refine lv_seti (v := (T_re tA) k_4) (congrArg (T_re tA) (cl8 (by omega))) ?_
      exact endWs [[true, true, true, true, true, true, true, true, true, true, true]] hx hb hr hlocks rfl hP hD rfl (by decide +kernel) hS ⟨fR, rfl, trivial⟩ (g_172 bX5_oneOf rfl)
    · refine lv_tableIn (tgt := 72) (off := 53) hx hb dX5_oneOf_19 (by decide +kernel) (by decide +kernel) (by decide +kernel) (by decide +kernel) ?_
      refine lv_aload_n hx hb (g_42 bX5_oneOf rfl) rfl (lv_at hl 0 rfl) ?_
      refine va_get (D := G) (ci := 4) (v := .ref qt) (C := RX5) (T := TX5) (N := 9) hx hb hts iX_X5 hown hK hP 0 rfl rfl 0 (by decide +kernel) (hts _ m_t174) (fun _ h9 => h9) rfl (g_180 (v := 10) bX5_oneOf rfl) ?_
      refine va_getN (D := G) (ci := 3) (v := .ref qtm) (C := RX4) (T := TX4) (N := 13) hx hb hts iX_X4 hown hK hP 2 rfl rfl 10 (by decide +kernel) (va_Nw.use rfl (hN.2.1 (RX5, 201, "EachBookOnce$Town", "memory", "[I") (List.mem_of_getElem? (i := 21) rfl))) (fun _ h9 => h9) rfl (g_180 (v := 201) bX5_oneOf rfl) ?_
      refine lv_iload_n hx hb (g_27 bX5_oneOf rfl) rfl (lv_at hl 1 rfl) ?_
      refine va_iald hx hb hK hP 8 0 rfl rfl (in8 (by omega)) (g_46 bX5_oneOf rfl) ?_
      refine lv_seti (v := (T_me tA) k_4) (congrArg (T_me tA) (cl8 (by omega))) ?_
      exact endWs [[true, true, true, true, true, true, true, true, true, true, true]] hx hb hr hlocks rfl hP hD rfl (by decide +kernel) hS ⟨fR, rfl, trivial⟩ (g_172 bX5_oneOf rfl)
    · refine lv_tableIn (tgt := 82) (off := 63) hx hb dX5_oneOf_19 (by decide +kernel) (by decide +kernel) (by decide +kernel) (by decide +kernel) ?_
      refine lv_aload_n hx hb (g_42 bX5_oneOf rfl) rfl (lv_at hl 0 rfl) ?_
      refine va_get (D := G) (ci := 4) (v := .ref qt) (C := RX5) (T := TX5) (N := 9) hx hb hts iX_X5 hown hK hP 0 rfl rfl 0 (by decide +kernel) (hts _ m_t174) (fun _ h9 => h9) rfl (g_180 (v := 10) bX5_oneOf rfl) ?_
      refine va_getN (D := G) (ci := 3) (v := .ref qtt) (C := RX4) (T := TX4) (N := 13) hx hb hts iX_X4 hown hK hP 2 rfl rfl 11 (by decide +kernel) (va_Nw.use rfl (hN.2.1 (RX5, 204, "EachBookOnce$Town", "telling", "[I") (List.mem_of_getElem? (i := 22) rfl))) (fun _ h9 => h9) rfl (g_180 (v := 204) bX5_oneOf rfl) ?_
      refine lv_iload_n hx hb (g_27 bX5_oneOf rfl) rfl (lv_at hl 1 rfl) ?_
      refine va_iald hx hb hK hP 9 0 rfl rfl (in8 (by omega)) (g_46 bX5_oneOf rfl) ?_
      refine lv_seti (v := (T_te tA) k_4) (congrArg (T_te tA) (cl8 (by omega))) ?_
      exact endWs [[true, true, true, true, true, true, true, true, true, true, true]] hx hb hr hlocks rfl hP hD rfl (by decide +kernel) hS ⟨fR, rfl, trivial⟩ (g_172 bX5_oneOf rfl)
    · refine lv_tableIn (tgt := 92) (off := 73) hx hb dX5_oneOf_19 (by decide +kernel) (by decide +kernel) (by decide +kernel) (by decide +kernel) ?_
      refine lv_aload_n hx hb (g_42 bX5_oneOf rfl) rfl (lv_at hl 0 rfl) ?_
      refine va_get (D := G) (ci := 4) (v := .ref qt) (C := RX5) (T := TX5) (N := 9) hx hb hts iX_X5 hown hK hP 0 rfl rfl 0 (by decide +kernel) (hts _ m_t174) (fun _ h9 => h9) rfl (g_180 (v := 10) bX5_oneOf rfl) ?_
      refine va_getN (D := G) (ci := 3) (v := .int (wb (T_gn tA))) (C := RX4) (T := TX4) (N := 13) hx hb hts iX_X4 hown hK hP 2 rfl rfl 3 (by decide +kernel) (va_Nw.use rfl (hN.2.1 (RX5, 207, "EachBookOnce$Town", "gone", "I") (List.mem_of_getElem? (i := 12) rfl))) (fun _ h9 => h9) rfl (g_180 (v := 207) bX5_oneOf rfl) ?_
      refine lv_iload_n hx hb (g_27 bX5_oneOf rfl) rfl (lv_at hl 1 rfl) ?_
      refine kRi (rS (As := [.int (wb (T_gn tA)), .int (nI k_4)]) (rest := []) ⟨hx, hb, hml, hown, hts⟩ (c_X5_has l G cy (wb (T_gn tA)) k_4) L_X5_183 (preRS hN hP [] rfl) rfl ⟨Nat.le_of_ble_eq_true rfl, Nat.le_of_ble_eq_true rfl⟩ hl.1 (Nat.le_of_ble_eq_true rfl) (g_184 (v := 183) bX5_oneOf rfl) ⟨Nat.le_of_ble_eq_true rfl, Nat.le_of_ble_eq_true rfl⟩) (fun r_8 h_9 => ?_)
      rcases h_9 with ⟨rfl, h_10⟩ | ⟨rfl, h_10⟩
      · rw [bit_wb _ (by omega)] at h_10
        refine lv_if_eq (tgt := 110) hx hb dX5_oneOf_103 (by decide +kernel) (fun h9 => absurd h9 (by decide +kernel)) (fun _ => ?_)
        refine lv_iconst (v := 1) hx hb (g_4 bX5_oneOf rfl) (by decide +kernel) ?_
        refine lv_goto (tgt := 111) hx hb dX5_oneOf_107 (by decide +kernel) ?_
        exact endWs [[true, true, true, true, true, true, true, true, true, true, true]] hx hb hr hlocks rfl hP hD rfl (by decide +kernel) hS ⟨fR, rfl, trivial⟩ (g_172 bX5_oneOf rfl)
      · rw [bit_wb _ (by omega)] at h_10
        refine lv_if_eq (tgt := 110) hx hb dX5_oneOf_103 (by decide +kernel) (fun _ => ?_) (fun h9 => absurd (by decide +kernel) h9)
        refine lv_iconst (v := 0) hx hb (g_3 bX5_oneOf rfl) (by decide +kernel) ?_
        exact endWs [[true, true, true, true, true, true, true, true, true, true, true]] hx hb hr hlocks rfl hP hD rfl (by decide +kernel) hS ⟨fR, rfl, trivial⟩ (g_172 bX5_oneOf rfl)
    · refine lv_tableOut (tgt := 112) hx hb dX5_oneOf_19 h_7 (by decide +kernel) ?_
      refine lv_aload_n hx hb (g_42 bX5_oneOf rfl) rfl (lv_at hl 0 rfl) ?_
      refine lv_bipush (v := (-2)) hx hb dX5_oneOf_113 (by decide +kernel) ?_
      refine cVi (As := [.int (-2)]) (rest := []) (b := qx) (q := (RX5, TX5, 9)) ⟨hx, hb, hml, hown, hts⟩ (c_X5_refuse2 l G cy (s.heap).size qx qt qk qp qs qa qr iKp iYe iTv fR) L_X5_56 hN hP hD hS hA [0, 1] [false, false, true, true, true, true, true, true, true, true, true] rfl (by decide +kernel) rfl 0 4 rfl rfl rfl ⟨Nat.le_of_ble_eq_true rfl, Nat.le_of_ble_eq_true rfl⟩ hl.1 (Nat.le_of_ble_eq_true rfl) (g_182 (v := 56) bX5_oneOf rfl) ⟨Nat.le_of_ble_eq_true rfl, Nat.le_of_ble_eq_true rfl⟩ (fun r_13 u_15 H locs h_14 => ?_)
      clear hP hD hS
      intro hP hD hS
      obtain ⟨fX_16, hu9, h_14⟩ := h_14
      have hPD := pd_eq [_, _, _, _, _, _, _, _, _, _, zzI cy qr 5 fX_16] hP hD hu9 rfl
      clear hP hD hu9
      obtain ⟨hP, hD⟩ := hPD
      subst h_14
      exact endWs [[false, false, false, false, false, false, false, false, false, true, true], [true, true, true, true, true, true, true, true, true]] hx hb hr hlocks rfl hP hD rfl (by decide +kernel) hS ⟨fX_16, rfl, trivial⟩ (g_172 bX5_oneOf rfl)
  · refine lv_if_ne (tgt := 18) hx hb dX5_oneOf_8 (by decide +kernel) (fun h9 => absurd (by decide +kernel) h9) (fun _ => ?_)
    refine lv_aload_n hx hb (g_42 bX5_oneOf rfl) rfl (lv_at hl 0 rfl) ?_
    refine lv_bipush (v := (-2)) hx hb dX5_oneOf_12 (by decide +kernel) ?_
    refine cVi (As := [.int (-2)]) (rest := []) (b := qx) (q := (RX5, TX5, 9)) ⟨hx, hb, hml, hown, hts⟩ (c_X5_refuse2 l G cy (s.heap).size qx qt qk qp qs qa qr iKp iYe iTv fR) L_X5_56 hN hP hD hS hA [0, 1] [false, false, true, true, true, true, true, true, true, true, true] rfl (by decide +kernel) rfl 0 4 rfl rfl rfl ⟨Nat.le_of_ble_eq_true rfl, Nat.le_of_ble_eq_true rfl⟩ hl.1 (Nat.le_of_ble_eq_true rfl) (g_182 (v := 56) bX5_oneOf rfl) ⟨Nat.le_of_ble_eq_true rfl, Nat.le_of_ble_eq_true rfl⟩ (fun r_18 u_20 H locs h_19 => ?_)
    clear hP hD hS
    intro hP hD hS
    obtain ⟨fX_21, hu9, h_19⟩ := h_19
    have hPD := pd_eq [_, _, _, _, _, _, _, _, _, _, zzI cy qr 5 fX_21] hP hD hu9 rfl
    clear hP hD hu9
    obtain ⟨hP, hD⟩ := hPD
    subst h_19
    exact endWs [[false, false, false, false, false, false, false, false, false, true, true], [true, true, true, true, true, true, true, true, true]] hx hb hr hlocks rfl hP hD rfl (by decide +kernel) hS ⟨fX_21, rfl, trivial⟩ (g_172 bX5_oneOf rfl)
set_option maxHeartbeats 4000000 in
set_option maxRecDepth 100000 in
theorem p_X5_known (l : Launch) (G : va_G) (cy : Nat → ClassId) (sz : Nat) (qx : Nat) (qt : Nat) (qk : Nat) (qp : Nat) (qs : Nat) (qa : Nat) (qr : Nat) (iKp : Int32) (iYe : Int32) (iTv : Int32) (fR : Nat → Int32) (tA : TA) (qtw : Nat) (qtn : Nat) (qtg : Nat) (qta : Nat) (qtr : Nat) (qtm : Nat) (qtt : Nat) (qts : Nat) (iA : Int32) (iB : Int32)  (hB : T_nb tA ≤ 8) (hPp : T_np tA ≤ 8) : MW l yX5_known cX5_known 3 (some .int) 12 0 0 G cy [zzO qx 4 [.ref qt, .ref qk, .ref qp, .ref qs, .ref qa, .ref qr, .int iKp, .int iYe, .int iTv], zzI cy qr 5 fR, zzO qt 3 [.int (nI (T_nb tA)), .int (nI (T_np tA)), .int (wb (T_wh tA)), .int (wb (T_gn tA)), .int (T_sd tA), .ref qtw, .ref qtn, .ref qtg, .ref qta, .ref qtr, .ref qtm, .ref qtt, .ref qts], zzI cy qtw 8 (T_wo tA), zzI cy qtn 8 (T_ne tA), zzI cy qtg 8 (T_go tA), zzI cy qta 8 (T_ag tA), zzI cy qtr 8 (T_re tA), zzI cy qtm 8 (T_me tA), zzI cy qtt 8 (T_te tA), zzI cy qts 64 (shF (T_kn tA))] sz [.ref qx, .int iA, .int iB] (Wi G (fun r u => ∃ (fX : Nat → Int32), u = [zzO qx 4 [.ref qt, .ref qk, .ref qp, .ref qs, .ref qa, .ref qr, .int iKp, .int iYe, .int iTv], zzI cy qr 5 fX, zzO qt 3 [.int (nI (T_nb tA)), .int (nI (T_np tA)), .int (wb (T_wh tA)), .int (wb (T_gn tA)), .int (T_sd tA), .ref qtw, .ref qtn, .ref qtg, .ref qta, .ref qtr, .ref qtm, .ref qtt, .ref qts], zzI cy qtw 8 (T_wo tA), zzI cy qtn 8 (T_ne tA), zzI cy qtg 8 (T_go tA), zzI cy qta 8 (T_ag tA), zzI cy qtr 8 (T_re tA), zzI cy qtm 8 (T_me tA), zzI cy qtt 8 (T_te tA), zzI cy qts 64 (shF (T_kn tA))] ∧ (True))) := by
  refine enW RX5 (by decide +kernel) rfl (Nat.le_of_ble_eq_true rfl) (fun p e s m below meth c ls A hx hb hml hown hts hr hlocks hP hN hl hin hD hA hS => ?_)
  have hin : meth.name = _ := hin
  have hK := hN.1
  replace hl : lv_has ls 3 [(0, .ref qx), (1, .int iA), (2, .int iB)] := hl
  refine lv_aload_n hx hb (g_42 bX5_known rfl) rfl (lv_at hl 0 rfl) ?_
  refine lv_iload_n hx hb (g_27 bX5_known rfl) rfl (lv_at hl 1 rfl) ?_
  refine lv_iload_n hx hb (g_28 bX5_known rfl) rfl (lv_at hl 2 rfl) ?_
  refine kRi (rV (As := [.int iA, .int iB]) (rest := []) (b := qx) ⟨hx, hb, hml, hown, hts⟩ (c_X5_isPair l G cy qx qt qk qp qs qa qr iKp iYe iTv tA qtw qtn qtg qta qtr qtm qtt qts iA iB hB hPp) L_X5_210 (preRV (q := (RX5, TX5, 9)) hN hP [0, 2] rfl 0 4 rfl rfl) rfl ⟨Nat.le_of_ble_eq_true rfl, Nat.le_of_ble_eq_true rfl⟩ hl.1 (Nat.le_of_ble_eq_true rfl) (g_182 (v := 210) bX5_known rfl) ⟨Nat.le_of_ble_eq_true rfl, Nat.le_of_ble_eq_true rfl⟩) (fun r_1 h_2 => ?_)
  rcases h_2 with ⟨rfl, h_3⟩ | ⟨rfl, h_3⟩
  · obtain ⟨⟨k_4, hk_6, rfl⟩, ⟨k_5, hk_7, rfl⟩⟩ := h_3
    refine lv_if_eq (tgt := 21) hx hb dX5_known_6 (by decide +kernel) (fun h9 => absurd h9 (by decide +kernel)) (fun _ => ?_)
    refine lv_aload_n hx hb (g_42 bX5_known rfl) rfl (lv_at hl 0 rfl) ?_
    refine va_get (D := G) (ci := 4) (v := .ref qt) (C := RX5) (T := TX5) (N := 9) hx hb hts iX_X5 hown hK hP 0 rfl rfl 0 (by decide +kernel) (hts _ m_t174) (fun _ h9 => h9) rfl (g_180 (v := 10) bX5_known rfl) ?_
    refine lv_iload_n hx hb (g_27 bX5_known rfl) rfl (lv_at hl 1 rfl) ?_
    refine lv_iload_n hx hb (g_28 bX5_known rfl) rfl (lv_at hl 2 rfl) ?_
    refine kRi (rV (As := [.int (nI k_4), .int (nI k_5)]) (rest := []) (b := qt) ⟨hx, hb, hml, hown, hts⟩ (c_X4_knows l G cy qt tA qtw qtn qtg qta qtr qtm qtt qts k_4 k_5 (by first | omega | (simp only [nb_sr, np_sr, nb_wr, np_wr, nb_rd, np_rd, nb_ch, np_ch, nb_zr, np_zr, nb_za, np_za, nb_ey, np_ey, nb_hf, np_hf, nb_dd, np_dd, nb_so, np_so, nb_skn, np_skn, nb_swh, np_swh, nb_sgn, np_sgn, nb_ssd, np_ssd, nb_sgo, np_sgo, nb_sag, np_sag]; omega)) (by first | omega | (simp only [nb_sr, np_sr, nb_wr, np_wr, nb_rd, np_rd, nb_ch, np_ch, nb_zr, np_zr, nb_za, np_za, nb_ey, np_ey, nb_hf, np_hf, nb_dd, np_dd, nb_so, np_so, nb_skn, np_skn, nb_swh, np_swh, nb_sgn, np_sgn, nb_ssd, np_ssd, nb_sgo, np_sgo, nb_sag, np_sag]; omega))) L_X5_213 (preRV (q := (RX4, TX4, 13)) hN hP [2, 10] rfl 2 3 rfl rfl) rfl ⟨Nat.le_of_ble_eq_true rfl, Nat.le_of_ble_eq_true rfl⟩ hl.1 (Nat.le_of_ble_eq_true rfl) (g_182 (v := 213) bX5_known rfl) ⟨Nat.le_of_ble_eq_true rfl, Nat.le_of_ble_eq_true rfl⟩) (fun r_9 h_10 => ?_)
    subst h_10
    refine lv_goto (tgt := 27) hx hb dX5_known_18 (by decide +kernel) ?_
    exact endWs [[true, true, true, true, true, true, true, true, true, true, true]] hx hb hr hlocks rfl hP hD rfl (by decide +kernel) hS ⟨fR, rfl, trivial⟩ (g_172 bX5_known rfl)
  · refine lv_if_eq (tgt := 21) hx hb dX5_known_6 (by decide +kernel) (fun _ => ?_) (fun h9 => absurd (by decide +kernel) h9)
    refine lv_aload_n hx hb (g_42 bX5_known rfl) rfl (lv_at hl 0 rfl) ?_
    refine lv_bipush (v := (-2)) hx hb dX5_known_22 (by decide +kernel) ?_
    refine cVi (As := [.int (-2)]) (rest := []) (b := qx) (q := (RX5, TX5, 9)) ⟨hx, hb, hml, hown, hts⟩ (c_X5_refuse2 l G cy (s.heap).size qx qt qk qp qs qa qr iKp iYe iTv fR) L_X5_56 hN hP hD hS hA [0, 1] [false, false, true, true, true, true, true, true, true, true, true] rfl (by decide +kernel) rfl 0 4 rfl rfl rfl ⟨Nat.le_of_ble_eq_true rfl, Nat.le_of_ble_eq_true rfl⟩ hl.1 (Nat.le_of_ble_eq_true rfl) (g_182 (v := 56) bX5_known rfl) ⟨Nat.le_of_ble_eq_true rfl, Nat.le_of_ble_eq_true rfl⟩ (fun r_12 u_14 H locs h_13 => ?_)
    clear hP hD hS
    intro hP hD hS
    obtain ⟨fX_15, hu9, h_13⟩ := h_13
    have hPD := pd_eq [_, _, _, _, _, _, _, _, _, _, zzI cy qr 5 fX_15] hP hD hu9 rfl
    clear hP hD hu9
    obtain ⟨hP, hD⟩ := hPD
    subst h_13
    exact endWs [[false, false, false, false, false, false, false, false, false, true, true], [true, true, true, true, true, true, true, true, true]] hx hb hr hlocks rfl hP hD rfl (by decide +kernel) hS ⟨fX_15, rfl, trivial⟩ (g_172 bX5_known rfl)
set_option maxHeartbeats 4000000 in
set_option maxRecDepth 100000 in
theorem p_X5_alter (l : Launch) (G : va_G) (cy : Nat → ClassId) (sz : Nat) (qx : Nat) (qt : Nat) (qk : Nat) (qp : Nat) (qs : Nat) (qa : Nat) (qr : Nat) (iKp : Int32) (iYe : Int32) (iTv : Int32) (fR : Nat → Int32) (tA : TA) (qtw : Nat) (qtn : Nat) (qtg : Nat) (qta : Nat) (qtr : Nat) (qtm : Nat) (qtt : Nat) (qts : Nat) (iA : Int32) (iB : Int32) (iC : Int32)  (hB : T_nb tA ≤ 8) (hPp : T_np tA ≤ 8) : MW l yX5_alter cX5_alter 5 (some .int) 12 0 0 G cy [zzO qx 4 [.ref qt, .ref qk, .ref qp, .ref qs, .ref qa, .ref qr, .int iKp, .int iYe, .int iTv], zzI cy qr 5 fR, zzO qt 3 [.int (nI (T_nb tA)), .int (nI (T_np tA)), .int (wb (T_wh tA)), .int (wb (T_gn tA)), .int (T_sd tA), .ref qtw, .ref qtn, .ref qtg, .ref qta, .ref qtr, .ref qtm, .ref qtt, .ref qts], zzI cy qtw 8 (T_wo tA), zzI cy qtn 8 (T_ne tA), zzI cy qtg 8 (T_go tA), zzI cy qta 8 (T_ag tA), zzI cy qtr 8 (T_re tA), zzI cy qtm 8 (T_me tA), zzI cy qtt 8 (T_te tA), zzI cy qts 64 (shF (T_kn tA))] sz [.ref qx, .int iA, .int iB, .int iC] (Wi G (fun r u => ∃ (fX : Nat → Int32) (tN : TA), u = [zzO qx 4 [.ref qt, .ref qk, .ref qp, .ref qs, .ref qa, .ref qr, .int iKp, .int iYe, .int iTv], zzI cy qr 5 fX, zzO qt 3 [.int (nI (T_nb tN)), .int (nI (T_np tN)), .int (wb (T_wh tN)), .int (wb (T_gn tN)), .int (T_sd tN), .ref qtw, .ref qtn, .ref qtg, .ref qta, .ref qtr, .ref qtm, .ref qtt, .ref qts], zzI cy qtw 8 (T_wo tN), zzI cy qtn 8 (T_ne tN), zzI cy qtg 8 (T_go tN), zzI cy qta 8 (T_ag tN), zzI cy qtr 8 (T_re tN), zzI cy qtm 8 (T_me tN), zzI cy qtt 8 (T_te tN), zzI cy qts 64 (shF (T_kn tN))] ∧ (PXalter tA iA iB iC r tN) ∧ (True))) := by
  refine enW RX5 (by decide +kernel) rfl (Nat.le_of_ble_eq_true rfl) (fun p e s m below meth c ls A hx hb hml hown hts hr hlocks hP hN hl hin hD hA hS => ?_)
  have hin : meth.name = _ := hin
  have hK := hN.1
  replace hl : lv_has ls 5 [(0, .ref qx), (1, .int iA), (2, .int iB), (3, .int iC)] := hl
  refine lv_aload_n hx hb (g_42 bX5_alter rfl) rfl (lv_at hl 0 rfl) ?_
  refine lv_iload_n hx hb (g_27 bX5_alter rfl) rfl (lv_at hl 1 rfl) ?_
  refine lv_iload_n hx hb (g_28 bX5_alter rfl) rfl (lv_at hl 2 rfl) ?_
  refine kRi (rV (As := [.int iA, .int iB]) (rest := []) (b := qx) ⟨hx, hb, hml, hown, hts⟩ (c_X5_isPair l G cy qx qt qk qp qs qa qr iKp iYe iTv tA qtw qtn qtg qta qtr qtm qtt qts iA iB hB hPp) L_X5_210 (preRV (q := (RX5, TX5, 9)) hN hP [0, 2] rfl 0 4 rfl rfl) rfl ⟨Nat.le_of_ble_eq_true rfl, Nat.le_of_ble_eq_true rfl⟩ hl.1 (Nat.le_of_ble_eq_true rfl) (g_182 (v := 210) bX5_alter rfl) ⟨Nat.le_of_ble_eq_true rfl, Nat.le_of_ble_eq_true rfl⟩) (fun r_1 h_2 => ?_)
  rcases h_2 with ⟨rfl, h_3⟩ | ⟨rfl, h_3⟩
  · obtain ⟨⟨k_4, hk_6, rfl⟩, ⟨k_5, hk_7, rfl⟩⟩ := h_3
    refine lv_if_eq (tgt := 21) hx hb dX5_alter_6 (by decide +kernel) (fun h9 => absurd h9 (by decide +kernel)) (fun _ => ?_)
    refine lv_iload_n hx hb (g_29 bX5_alter rfl) rfl (lv_at hl 3 rfl) ?_
    refine lv_i2l (v := iC.toInt64) hx hb (g_133 bX5_alter rfl) rfl ?_
    refine lv_lconst (v := 0) hx hb (g_9 bX5_alter rfl) (by decide +kernel) ?_
    refine lv_ldc2 hx hb hown (hts _ m_t591) (g_20 (v := 216) bX5_alter rfl) ?_
    refine kRi (rS (As := [.long iC.toInt64, .long 0, .long 1000]) (rest := []) ⟨hx, hb, hml, hown, hts⟩ (c_X5_within l G cy iC.toInt64 0 1000) L_X5_50 (preRS hN hP [] rfl) rfl ⟨Nat.le_of_ble_eq_true rfl, Nat.le_of_ble_eq_true rfl⟩ hl.1 (Nat.le_of_ble_eq_true rfl) (g_184 (v := 50) bX5_alter rfl) ⟨Nat.le_of_ble_eq_true rfl, Nat.le_of_ble_eq_true rfl⟩) (fun r_9 h_10 => ?_)
    rcases h_10 with ⟨rfl, h_11⟩ | ⟨rfl, h_11⟩
    · obtain ⟨k_12, hk_13, hk_14, rfl⟩ := iv_nI 0 1000 (by decide +kernel) (by decide +kernel) h_11
      refine lv_if_ne (tgt := 28) hx hb dX5_alter_18 (by decide +kernel) (fun _ => ?_) (fun h9 => absurd h9 (by decide +kernel))
      refine lv_aload_n hx hb (g_42 bX5_alter rfl) rfl (lv_at hl 0 rfl) ?_
      refine va_get (D := G) (ci := 4) (v := .ref qt) (C := RX5) (T := TX5) (N := 9) hx hb hts iX_X5 hown hK hP 0 rfl rfl 0 (by decide +kernel) (hts _ m_t174) (fun _ h9 => h9) rfl (g_180 (v := 10) bX5_alter rfl) ?_
      refine va_getN (D := G) (ci := 3) (v := .int (wb (T_gn tA))) (C := RX4) (T := TX4) (N := 13) hx hb hts iX_X4 hown hK hP 2 rfl rfl 3 (by decide +kernel) (va_Nw.use rfl (hN.2.1 (RX5, 207, "EachBookOnce$Town", "gone", "I") (List.mem_of_getElem? (i := 12) rfl))) (fun _ h9 => h9) rfl (g_180 (v := 207) bX5_alter rfl) ?_
      refine lv_iload_n hx hb (g_27 bX5_alter rfl) rfl (lv_at hl 1 rfl) ?_
      refine kRi (rS (As := [.int (wb (T_gn tA)), .int (nI k_4)]) (rest := []) ⟨hx, hb, hml, hown, hts⟩ (c_X5_has l G cy (wb (T_gn tA)) k_4) L_X5_183 (preRS hN hP [] rfl) rfl ⟨Nat.le_of_ble_eq_true rfl, Nat.le_of_ble_eq_true rfl⟩ hl.1 (Nat.le_of_ble_eq_true rfl) (g_184 (v := 183) bX5_alter rfl) ⟨Nat.le_of_ble_eq_true rfl, Nat.le_of_ble_eq_true rfl⟩) (fun r_16 h_17 => ?_)
      rcases h_17 with ⟨rfl, h_18⟩ | ⟨rfl, h_18⟩
      · rw [bit_wb _ (by omega)] at h_18
        refine lv_if_eq (tgt := 49) hx hb dX5_alter_39 (by decide +kernel) (fun h9 => absurd h9 (by decide +kernel)) (fun _ => ?_)
        refine lv_aload_n hx hb (g_42 bX5_alter rfl) rfl (lv_at hl 0 rfl) ?_
        refine lv_bipush (v := (-5)) hx hb dX5_alter_43 (by decide +kernel) ?_
        refine cVi (As := [.int (-5)]) (rest := []) (b := qx) (q := (RX5, TX5, 9)) ⟨hx, hb, hml, hown, hts⟩ (c_X5_refuse5 l G cy (s.heap).size qx qt qk qp qs qa qr iKp iYe iTv fR) L_X5_56 hN hP hD hS hA [0, 1] [false, false, true, true, true, true, true, true, true, true, true] rfl (by decide +kernel) rfl 0 4 rfl rfl rfl ⟨Nat.le_of_ble_eq_true rfl, Nat.le_of_ble_eq_true rfl⟩ hl.1 (Nat.le_of_ble_eq_true rfl) (g_182 (v := 56) bX5_alter rfl) ⟨Nat.le_of_ble_eq_true rfl, Nat.le_of_ble_eq_true rfl⟩ (fun r_20 u_22 H locs h_21 => ?_)
        clear hP hD hS
        intro hP hD hS
        obtain ⟨fX_23, hu9, h_21⟩ := h_21
        have hPD := pd_eq [_, _, _, _, _, _, _, _, _, _, zzI cy qr 5 fX_23] hP hD hu9 rfl
        clear hP hD hu9
        obtain ⟨hP, hD⟩ := hPD
        subst h_21
        exact endWs [[false, false, false, false, false, false, false, false, false, true, true], [true, true, true, true, true, true, true, true, true]] hx hb hr hlocks rfl hP hD rfl (by decide +kernel) hS ⟨fX_23, tA, rfl, Or.inr ⟨k_4, k_5, hk_6, hk_7, rfl, rfl, h_11, Or.inl ⟨rfl, h_18, rfl⟩⟩, trivial⟩ (g_172 bX5_alter rfl)
      · rw [bit_wb _ (by omega)] at h_18
        refine lv_if_eq (tgt := 49) hx hb dX5_alter_39 (by decide +kernel) (fun _ => ?_) (fun h9 => absurd (by decide +kernel) h9)
        refine lv_aload_n hx hb (g_42 bX5_alter rfl) rfl (lv_at hl 0 rfl) ?_
        refine va_get (D := G) (ci := 4) (v := .ref qt) (C := RX5) (T := TX5) (N := 9) hx hb hts iX_X5 hown hK hP 0 rfl rfl 0 (by decide +kernel) (hts _ m_t174) (fun _ h9 => h9) rfl (g_180 (v := 10) bX5_alter rfl) ?_
        refine lv_iload_n hx hb (g_27 bX5_alter rfl) rfl (lv_at hl 1 rfl) ?_
        refine lv_iload_n hx hb (g_28 bX5_alter rfl) rfl (lv_at hl 2 rfl) ?_
        refine kRi (rV (As := [.int (nI k_4), .int (nI k_5)]) (rest := []) (b := qt) ⟨hx, hb, hml, hown, hts⟩ (c_X4_knows l G cy qt tA qtw qtn qtg qta qtr qtm qtt qts k_4 k_5 (by first | omega | (simp only [nb_sr, np_sr, nb_wr, np_wr, nb_rd, np_rd, nb_ch, np_ch, nb_zr, np_zr, nb_za, np_za, nb_ey, np_ey, nb_hf, np_hf, nb_dd, np_dd, nb_so, np_so, nb_skn, np_skn, nb_swh, np_swh, nb_sgn, np_sgn, nb_ssd, np_ssd, nb_sgo, np_sgo, nb_sag, np_sag]; omega)) (by first | omega | (simp only [nb_sr, np_sr, nb_wr, np_wr, nb_rd, np_rd, nb_ch, np_ch, nb_zr, np_zr, nb_za, np_za, nb_ey, np_ey, nb_hf, np_hf, nb_dd, np_dd, nb_so, np_so, nb_skn, np_skn, nb_swh, np_swh, nb_sgn, np_sgn, nb_ssd, np_ssd, nb_sgo, np_sgo, nb_sag, np_sag]; omega))) L_X5_213 (preRV (q := (RX4, TX4, 13)) hN hP [2, 10] rfl 2 3 rfl rfl) rfl ⟨Nat.le_of_ble_eq_true rfl, Nat.le_of_ble_eq_true rfl⟩ hl.1 (Nat.le_of_ble_eq_true rfl) (g_182 (v := 213) bX5_alter rfl) ⟨Nat.le_of_ble_eq_true rfl, Nat.le_of_ble_eq_true rfl⟩) (fun r_25 h_26 => ?_)
        subst h_26
        refine lv_istore (lv' := [(4, .int (T_kn tA k_4 k_5)), (0, .ref qx), (1, .int (nI k_4)), (2, .int (nI k_5)), (3, .int (nI k_12))]) hx hb (g_54 (v := 4) bX5_alter rfl) hl (by decide +kernel) rfl (fun ls => ?_)
        clear hl
        intro hl
        refine lv_aload_n hx hb (g_42 bX5_alter rfl) rfl (lv_at hl 1 rfl) ?_
        refine va_get (D := G) (ci := 4) (v := .ref qt) (C := RX5) (T := TX5) (N := 9) hx hb hts iX_X5 hown hK hP 0 rfl rfl 0 (by decide +kernel) (hts _ m_t174) (fun _ h9 => h9) rfl (g_180 (v := 10) bX5_alter rfl) ?_
        refine lv_iload_n hx hb (g_27 bX5_alter rfl) rfl (lv_at hl 2 rfl) ?_
        refine lv_iload_n hx hb (g_28 bX5_alter rfl) rfl (lv_at hl 3 rfl) ?_
        refine lv_iload_n hx hb (g_29 bX5_alter rfl) rfl (lv_at hl 4 rfl) ?_
        refine cVv (As := [.int (nI k_4), .int (nI k_5), .int (nI k_12)]) (rest := []) (b := qt) (q := (RX4, TX4, 13)) ⟨hx, hb, hml, hown, hts⟩ (c_X4_learn l G cy (s.heap).size qt tA qtw qtn qtg qta qtr qtm qtt qts k_4 k_5 (nI k_12) (by first | omega | (simp only [nb_sr, np_sr, nb_wr, np_wr, nb_rd, np_rd, nb_ch, np_ch, nb_zr, np_zr, nb_za, np_za, nb_ey, np_ey, nb_hf, np_hf, nb_dd, np_dd, nb_so, np_so, nb_skn, np_skn, nb_swh, np_swh, nb_sgn, np_sgn, nb_ssd, np_ssd, nb_sgo, np_sgo, nb_sag, np_sag]; omega)) (by first | omega | (simp only [nb_sr, np_sr, nb_wr, np_wr, nb_rd, np_rd, nb_ch, np_ch, nb_zr, np_zr, nb_za, np_za, nb_ey, np_ey, nb_hf, np_hf, nb_dd, np_dd, nb_so, np_so, nb_skn, np_skn, nb_swh, np_swh, nb_sgn, np_sgn, nb_ssd, np_ssd, nb_sgo, np_sgo, nb_sag, np_sag]; omega))) L_X5_218 hN hP hD hS hA [2, 10] [true, true, false, true, true, true, true, true, true, true, false] rfl (by decide +kernel) rfl 2 3 rfl rfl rfl ⟨Nat.le_of_ble_eq_true rfl, Nat.le_of_ble_eq_true rfl⟩ hl.1 (Nat.le_of_ble_eq_true rfl) (g_182 (v := 218) bX5_alter rfl) ⟨Nat.le_of_ble_eq_true rfl, Nat.le_of_ble_eq_true rfl⟩ (fun u_29 H locs h_28 => ?_)
        clear hP hD hS
        intro hP hD hS
        have hPD := pd_eq [_, _, zzI cy qtw 8 (T_wo (T_setkn tA (updM (T_kn tA) k_4 k_5 (nI k_12)))), zzI cy qtn 8 (T_ne (T_setkn tA (updM (T_kn tA) k_4 k_5 (nI k_12)))), zzI cy qtg 8 (T_go (T_setkn tA (updM (T_kn tA) k_4 k_5 (nI k_12)))), zzI cy qta 8 (T_ag (T_setkn tA (updM (T_kn tA) k_4 k_5 (nI k_12)))), zzI cy qtr 8 (T_re (T_setkn tA (updM (T_kn tA) k_4 k_5 (nI k_12)))), zzI cy qtm 8 (T_me (T_setkn tA (updM (T_kn tA) k_4 k_5 (nI k_12)))), zzI cy qtt 8 (T_te (T_setkn tA (updM (T_kn tA) k_4 k_5 (nI k_12)))), zzO qt 3 [.int (nI (T_nb (T_setkn tA (updM (T_kn tA) k_4 k_5 (nI k_12))))), .int (nI (T_np (T_setkn tA (updM (T_kn tA) k_4 k_5 (nI k_12))))), .int (wb (T_wh (T_setkn tA (updM (T_kn tA) k_4 k_5 (nI k_12))))), .int (wb (T_gn (T_setkn tA (updM (T_kn tA) k_4 k_5 (nI k_12))))), .int (T_sd (T_setkn tA (updM (T_kn tA) k_4 k_5 (nI k_12)))), .ref qtw, .ref qtn, .ref qtg, .ref qta, .ref qtr, .ref qtm, .ref qtt, .ref qts], zzI cy qts 64 (shF (T_kn (T_setkn tA (updM (T_kn tA) k_4 k_5 (nI k_12)))))] hP hD h_28 rfl
        clear hP hD h_28
        obtain ⟨hP, hD⟩ := hPD
        refine lv_iload hx hb (g_21 (v := 4) bX5_alter rfl) (lv_at hl 0 rfl) ?_
        exact endWs [[true, true, false, false, false, false, false, false, false, true], [false, false, true, true, true, true, true, true, true, false, true]] hx hb hr hlocks rfl hP hD rfl (by decide +kernel) hS ⟨fR, (T_setkn tA (updM (T_kn tA) k_4 k_5 (nI k_12))), rfl, Or.inr ⟨k_4, k_5, hk_6, hk_7, rfl, rfl, h_11, Or.inr ⟨rfl, h_18, rfl⟩⟩, trivial⟩ (g_172 bX5_alter rfl)
    · refine lv_if_ne (tgt := 28) hx hb dX5_alter_18 (by decide +kernel) (fun h9 => absurd (by decide +kernel) h9) (fun _ => ?_)
      refine lv_aload_n hx hb (g_42 bX5_alter rfl) rfl (lv_at hl 0 rfl) ?_
      refine lv_bipush (v := (-2)) hx hb dX5_alter_22 (by decide +kernel) ?_
      refine cVi (As := [.int (-2)]) (rest := []) (b := qx) (q := (RX5, TX5, 9)) ⟨hx, hb, hml, hown, hts⟩ (c_X5_refuse2 l G cy (s.heap).size qx qt qk qp qs qa qr iKp iYe iTv fR) L_X5_56 hN hP hD hS hA [0, 1] [false, false, true, true, true, true, true, true, true, true, true] rfl (by decide +kernel) rfl 0 4 rfl rfl rfl ⟨Nat.le_of_ble_eq_true rfl, Nat.le_of_ble_eq_true rfl⟩ hl.1 (Nat.le_of_ble_eq_true rfl) (g_182 (v := 56) bX5_alter rfl) ⟨Nat.le_of_ble_eq_true rfl, Nat.le_of_ble_eq_true rfl⟩ (fun r_31 u_33 H locs h_32 => ?_)
      clear hP hD hS
      intro hP hD hS
      obtain ⟨fX_34, hu9, h_32⟩ := h_32
      have hPD := pd_eq [_, _, _, _, _, _, _, _, _, _, zzI cy qr 5 fX_34] hP hD hu9 rfl
      clear hP hD hu9
      obtain ⟨hP, hD⟩ := hPD
      subst h_32
      exact endWs [[false, false, false, false, false, false, false, false, false, true, true], [true, true, true, true, true, true, true, true, true]] hx hb hr hlocks rfl hP hD rfl (by decide +kernel) hS ⟨fX_34, tA, rfl, Or.inl ⟨rfl, fun q => h_11 q.2, rfl⟩, trivial⟩ (g_172 bX5_alter rfl)
  · refine lv_if_eq (tgt := 21) hx hb dX5_alter_6 (by decide +kernel) (fun _ => ?_) (fun h9 => absurd (by decide +kernel) h9)
    refine lv_aload_n hx hb (g_42 bX5_alter rfl) rfl (lv_at hl 0 rfl) ?_
    refine lv_bipush (v := (-2)) hx hb dX5_alter_22 (by decide +kernel) ?_
    refine cVi (As := [.int (-2)]) (rest := []) (b := qx) (q := (RX5, TX5, 9)) ⟨hx, hb, hml, hown, hts⟩ (c_X5_refuse2 l G cy (s.heap).size qx qt qk qp qs qa qr iKp iYe iTv fR) L_X5_56 hN hP hD hS hA [0, 1] [false, false, true, true, true, true, true, true, true, true, true] rfl (by decide +kernel) rfl 0 4 rfl rfl rfl ⟨Nat.le_of_ble_eq_true rfl, Nat.le_of_ble_eq_true rfl⟩ hl.1 (Nat.le_of_ble_eq_true rfl) (g_182 (v := 56) bX5_alter rfl) ⟨Nat.le_of_ble_eq_true rfl, Nat.le_of_ble_eq_true rfl⟩ (fun r_36 u_38 H locs h_37 => ?_)
    clear hP hD hS
    intro hP hD hS
    obtain ⟨fX_39, hu9, h_37⟩ := h_37
    have hPD := pd_eq [_, _, _, _, _, _, _, _, _, _, zzI cy qr 5 fX_39] hP hD hu9 rfl
    clear hP hD hu9
    obtain ⟨hP, hD⟩ := hPD
    subst h_37
    exact endWs [[false, false, false, false, false, false, false, false, false, true, true], [true, true, true, true, true, true, true, true, true]] hx hb hr hlocks rfl hP hD rfl (by decide +kernel) hS ⟨fX_39, tA, rfl, Or.inl ⟨rfl, fun q => h_3 q.1, rfl⟩, trivial⟩ (g_172 bX5_alter rfl)
set_option maxHeartbeats 4000000 in
set_option maxRecDepth 100000 in
theorem p_X5_ground (l : Launch) (G : va_G) (cy : Nat → ClassId) (sz : Nat) (qx : Nat) (qt : Nat) (qk : Nat) (qp : Nat) (qs : Nat) (qa : Nat) (qr : Nat) (iKp : Int32) (iYe : Int32) (iTv : Int32) (fR : Nat → Int32) (tA : TA) (qtw : Nat) (qtn : Nat) (qtg : Nat) (qta : Nat) (qtr : Nat) (qtm : Nat) (qtt : Nat) (qts : Nat) (iA : Int32) (iB : Int32)  (hB : T_nb tA ≤ 8) (hPp : T_np tA ≤ 8) : MW l yX5_ground cX5_ground 3 (some .int) 12 0 0 G cy [zzO qx 4 [.ref qt, .ref qk, .ref qp, .ref qs, .ref qa, .ref qr, .int iKp, .int iYe, .int iTv], zzI cy qr 5 fR, zzO qt 3 [.int (nI (T_nb tA)), .int (nI (T_np tA)), .int (wb (T_wh tA)), .int (wb (T_gn tA)), .int (T_sd tA), .ref qtw, .ref qtn, .ref qtg, .ref qta, .ref qtr, .ref qtm, .ref qtt, .ref qts], zzI cy qtw 8 (T_wo tA), zzI cy qtn 8 (T_ne tA), zzI cy qtg 8 (T_go tA), zzI cy qta 8 (T_ag tA), zzI cy qtr 8 (T_re tA), zzI cy qtm 8 (T_me tA), zzI cy qtt 8 (T_te tA), zzI cy qts 64 (shF (T_kn tA))] sz [.ref qx, .int iA, .int iB] (Wi G (fun r u => ∃ (fX : Nat → Int32), u = [zzO qx 4 [.ref qt, .ref qk, .ref qp, .ref qs, .ref qa, .ref qr, .int iKp, .int iYe, .int iTv], zzI cy qr 5 fX, zzO qt 3 [.int (nI (T_nb tA)), .int (nI (T_np tA)), .int (wb (T_wh tA)), .int (wb (T_gn tA)), .int (T_sd tA), .ref qtw, .ref qtn, .ref qtg, .ref qta, .ref qtr, .ref qtm, .ref qtt, .ref qts], zzI cy qtw 8 (T_wo tA), zzI cy qtn 8 (T_ne tA), zzI cy qtg 8 (T_go tA), zzI cy qta 8 (T_ag tA), zzI cy qtr 8 (T_re tA), zzI cy qtm 8 (T_me tA), zzI cy qtt 8 (T_te tA), zzI cy qts 64 (shF (T_kn tA))] ∧ (True))) := by
  refine enW RX5 (by decide +kernel) rfl (Nat.le_of_ble_eq_true rfl) (fun p e s m below meth c ls A hx hb hml hown hts hr hlocks hP hN hl hin hD hA hS => ?_)
  have hin : meth.name = _ := hin
  have hK := hN.1
  replace hl : lv_has ls 3 [(0, .ref qx), (1, .int iA), (2, .int iB)] := hl
  refine lv_aload_n hx hb (g_42 bX5_ground rfl) rfl (lv_at hl 0 rfl) ?_
  refine lv_iload_n hx hb (g_27 bX5_ground rfl) rfl (lv_at hl 1 rfl) ?_
  refine lv_iload_n hx hb (g_28 bX5_ground rfl) rfl (lv_at hl 2 rfl) ?_
  refine kRi (rV (As := [.int iA, .int iB]) (rest := []) (b := qx) ⟨hx, hb, hml, hown, hts⟩ (c_X5_isPair l G cy qx qt qk qp qs qa qr iKp iYe iTv tA qtw qtn qtg qta qtr qtm qtt qts iA iB hB hPp) L_X5_210 (preRV (q := (RX5, TX5, 9)) hN hP [0, 2] rfl 0 4 rfl rfl) rfl ⟨Nat.le_of_ble_eq_true rfl, Nat.le_of_ble_eq_true rfl⟩ hl.1 (Nat.le_of_ble_eq_true rfl) (g_182 (v := 210) bX5_ground rfl) ⟨Nat.le_of_ble_eq_true rfl, Nat.le_of_ble_eq_true rfl⟩) (fun r_1 h_2 => ?_)
  rcases h_2 with ⟨rfl, h_3⟩ | ⟨rfl, h_3⟩
  · obtain ⟨⟨k_4, hk_6, rfl⟩, ⟨k_5, hk_7, rfl⟩⟩ := h_3
    refine lv_if_eq (tgt := 21) hx hb dX5_ground_6 (by decide +kernel) (fun h9 => absurd h9 (by decide +kernel)) (fun _ => ?_)
    refine lv_aload_n hx hb (g_42 bX5_ground rfl) rfl (lv_at hl 0 rfl) ?_
    refine va_get (D := G) (ci := 4) (v := .ref qt) (C := RX5) (T := TX5) (N := 9) hx hb hts iX_X5 hown hK hP 0 rfl rfl 0 (by decide +kernel) (hts _ m_t174) (fun _ h9 => h9) rfl (g_180 (v := 10) bX5_ground rfl) ?_
    refine lv_iload_n hx hb (g_27 bX5_ground rfl) rfl (lv_at hl 1 rfl) ?_
    refine lv_iload_n hx hb (g_28 bX5_ground rfl) rfl (lv_at hl 2 rfl) ?_
    refine kRi (rV (As := [.int (nI k_4), .int (nI k_5)]) (rest := []) (b := qt) ⟨hx, hb, hml, hown, hts⟩ (c_X4_groundOf l G cy qt tA qtw qtn qtg qta qtr qtm qtt qts k_4 k_5 (by first | omega | (simp only [nb_sr, np_sr, nb_wr, np_wr, nb_rd, np_rd, nb_ch, np_ch, nb_zr, np_zr, nb_za, np_za, nb_ey, np_ey, nb_hf, np_hf, nb_dd, np_dd, nb_so, np_so, nb_skn, np_skn, nb_swh, np_swh, nb_sgn, np_sgn, nb_ssd, np_ssd, nb_sgo, np_sgo, nb_sag, np_sag]; omega)) (by first | omega | (simp only [nb_sr, np_sr, nb_wr, np_wr, nb_rd, np_rd, nb_ch, np_ch, nb_zr, np_zr, nb_za, np_za, nb_ey, np_ey, nb_hf, np_hf, nb_dd, np_dd, nb_so, np_so, nb_skn, np_skn, nb_swh, np_swh, nb_sgn, np_sgn, nb_ssd, np_ssd, nb_sgo, np_sgo, nb_sag, np_sag]; omega))) L_X5_221 (preRV (q := (RX4, TX4, 13)) hN hP (trueIx 0 [false, false, true, false, true, false, false, false, false, false, true]) (sel_fm rfl rfl) 2 3 rfl rfl) rfl ⟨Nat.le_of_ble_eq_true rfl, Nat.le_of_ble_eq_true rfl⟩ hl.1 (Nat.le_of_ble_eq_true rfl) (g_182 (v := 221) bX5_ground rfl) ⟨Nat.le_of_ble_eq_true rfl, Nat.le_of_ble_eq_true rfl⟩) (fun r_9 h_10 => ?_)
    subst h_10
    refine lv_goto (tgt := 27) hx hb dX5_ground_18 (by decide +kernel) ?_
    exact endWs [[true, true, true, true, true, true, true, true, true, true, true]] hx hb hr hlocks rfl hP hD rfl (by decide +kernel) hS ⟨fR, rfl, trivial⟩ (g_172 bX5_ground rfl)
  · refine lv_if_eq (tgt := 21) hx hb dX5_ground_6 (by decide +kernel) (fun _ => ?_) (fun h9 => absurd (by decide +kernel) h9)
    refine lv_aload_n hx hb (g_42 bX5_ground rfl) rfl (lv_at hl 0 rfl) ?_
    refine lv_bipush (v := (-2)) hx hb dX5_ground_22 (by decide +kernel) ?_
    refine cVi (As := [.int (-2)]) (rest := []) (b := qx) (q := (RX5, TX5, 9)) ⟨hx, hb, hml, hown, hts⟩ (c_X5_refuse2 l G cy (s.heap).size qx qt qk qp qs qa qr iKp iYe iTv fR) L_X5_56 hN hP hD hS hA [0, 1] [false, false, true, true, true, true, true, true, true, true, true] rfl (by decide +kernel) rfl 0 4 rfl rfl rfl ⟨Nat.le_of_ble_eq_true rfl, Nat.le_of_ble_eq_true rfl⟩ hl.1 (Nat.le_of_ble_eq_true rfl) (g_182 (v := 56) bX5_ground rfl) ⟨Nat.le_of_ble_eq_true rfl, Nat.le_of_ble_eq_true rfl⟩ (fun r_12 u_14 H locs h_13 => ?_)
    clear hP hD hS
    intro hP hD hS
    obtain ⟨fX_15, hu9, h_13⟩ := h_13
    have hPD := pd_eq [_, _, _, _, _, _, _, _, _, _, zzI cy qr 5 fX_15] hP hD hu9 rfl
    clear hP hD hu9
    obtain ⟨hP, hD⟩ := hPD
    subst h_13
    exact endWs [[false, false, false, false, false, false, false, false, false, true, true], [true, true, true, true, true, true, true, true, true]] hx hb hr hlocks rfl hP hD rfl (by decide +kernel) hS ⟨fX_15, rfl, trivial⟩ (g_172 bX5_ground rfl)
set_option maxHeartbeats 4000000 in
set_option maxRecDepth 100000 in
theorem p_X5_would (l : Launch) (G : va_G) (cy : Nat → ClassId) (sz : Nat) (qx : Nat) (qt : Nat) (qk : Nat) (qp : Nat) (qs : Nat) (qa : Nat) (qr : Nat) (iKp : Int32) (iYe : Int32) (iTv : Int32) (fR : Nat → Int32) (tA : TA) (qtw : Nat) (qtn : Nat) (qtg : Nat) (qta : Nat) (qtr : Nat) (qtm : Nat) (qtt : Nat) (qts : Nat) (iA : Int32) (iB : Int32)  (hB : T_nb tA ≤ 8) (hPp : T_np tA ≤ 8) : MW l yX5_would cX5_would 4 (some .int) 12 0 0 G cy [zzO qx 4 [.ref qt, .ref qk, .ref qp, .ref qs, .ref qa, .ref qr, .int iKp, .int iYe, .int iTv], zzI cy qr 5 fR, zzO qt 3 [.int (nI (T_nb tA)), .int (nI (T_np tA)), .int (wb (T_wh tA)), .int (wb (T_gn tA)), .int (T_sd tA), .ref qtw, .ref qtn, .ref qtg, .ref qta, .ref qtr, .ref qtm, .ref qtt, .ref qts], zzI cy qtw 8 (T_wo tA), zzI cy qtn 8 (T_ne tA), zzI cy qtg 8 (T_go tA), zzI cy qta 8 (T_ag tA), zzI cy qtr 8 (T_re tA), zzI cy qtm 8 (T_me tA), zzI cy qtt 8 (T_te tA), zzI cy qts 64 (shF (T_kn tA))] sz [.ref qx, .int iA, .int iB] (Wi G (fun r u => ∃ (fX : Nat → Int32), u = [zzO qx 4 [.ref qt, .ref qk, .ref qp, .ref qs, .ref qa, .ref qr, .int iKp, .int iYe, .int iTv], zzI cy qr 5 fX, zzO qt 3 [.int (nI (T_nb tA)), .int (nI (T_np tA)), .int (wb (T_wh tA)), .int (wb (T_gn tA)), .int (T_sd tA), .ref qtw, .ref qtn, .ref qtg, .ref qta, .ref qtr, .ref qtm, .ref qtt, .ref qts], zzI cy qtw 8 (T_wo tA), zzI cy qtn 8 (T_ne tA), zzI cy qtg 8 (T_go tA), zzI cy qta 8 (T_ag tA), zzI cy qtr 8 (T_re tA), zzI cy qtm 8 (T_me tA), zzI cy qtt 8 (T_te tA), zzI cy qts 64 (shF (T_kn tA))] ∧ (True))) := by
  refine enW RX5 (by decide +kernel) rfl (Nat.le_of_ble_eq_true rfl) (fun p e s m below meth c ls A hx hb hml hown hts hr hlocks hP hN hl hin hD hA hS => ?_)
  have hin : meth.name = _ := hin
  have hK := hN.1
  replace hl : lv_has ls 4 [(0, .ref qx), (1, .int iA), (2, .int iB)] := hl
  refine lv_aload_n hx hb (g_42 bX5_would rfl) rfl (lv_at hl 0 rfl) ?_
  refine lv_iload_n hx hb (g_27 bX5_would rfl) rfl (lv_at hl 1 rfl) ?_
  refine lv_iload_n hx hb (g_28 bX5_would rfl) rfl (lv_at hl 2 rfl) ?_
  refine kRi (rV (As := [.int iA, .int iB]) (rest := []) (b := qx) ⟨hx, hb, hml, hown, hts⟩ (c_X5_readFit l G cy qx qt qk qp qs qa qr iKp iYe iTv tA qtw qtn qtg qta qtr qtm qtt qts iA iB hB hPp) L_X5_224 (preRV (q := (RX5, TX5, 9)) hN hP [0, 2] rfl 0 4 rfl rfl) rfl ⟨Nat.le_of_ble_eq_true rfl, Nat.le_of_ble_eq_true rfl⟩ hl.1 (Nat.le_of_ble_eq_true rfl) (g_182 (v := 224) bX5_would rfl) ⟨Nat.le_of_ble_eq_true rfl, Nat.le_of_ble_eq_true rfl⟩) (fun r_1 h_2 => ?_)
  rcases h_2 with ⟨rfl, h_3⟩ | ⟨rfl, h_3⟩ | ⟨rfl, h_3⟩
  · refine lv_istore_n (lv' := [(3, .int (-2)), (0, .ref qx), (1, .int iA), (2, .int iB)]) hx hb (g_62 bX5_would rfl) rfl hl (by decide +kernel) rfl (fun ls => ?_)
    clear hl
    intro hl
    refine lv_iload_n hx hb (g_29 bX5_would rfl) rfl (lv_at hl 0 rfl) ?_
    refine lv_if_ne (tgt := 23) hx hb dX5_would_8 (by decide +kernel) (fun _ => ?_) (fun h9 => absurd h9 (by decide +kernel))
    refine lv_aload_n hx hb (g_42 bX5_would rfl) rfl (lv_at hl 1 rfl) ?_
    refine lv_iload_n hx hb (g_29 bX5_would rfl) rfl (lv_at hl 0 rfl) ?_
    refine cVi (As := [.int (-2)]) (rest := []) (b := qx) (q := (RX5, TX5, 9)) ⟨hx, hb, hml, hown, hts⟩ (c_X5_refuse2 l G cy (s.heap).size qx qt qk qp qs qa qr iKp iYe iTv fR) L_X5_56 hN hP hD hS hA [0, 1] [false, false, true, true, true, true, true, true, true, true, true] rfl (by decide +kernel) rfl 0 4 rfl rfl rfl ⟨Nat.le_of_ble_eq_true rfl, Nat.le_of_ble_eq_true rfl⟩ hl.1 (Nat.le_of_ble_eq_true rfl) (g_182 (v := 56) bX5_would rfl) ⟨Nat.le_of_ble_eq_true rfl, Nat.le_of_ble_eq_true rfl⟩ (fun r_5 u_7 H locs h_6 => ?_)
    clear hP hD hS
    intro hP hD hS
    obtain ⟨fX_8, hu9, h_6⟩ := h_6
    have hPD := pd_eq [_, _, _, _, _, _, _, _, _, _, zzI cy qr 5 fX_8] hP hD hu9 rfl
    clear hP hD hu9
    obtain ⟨hP, hD⟩ := hPD
    subst h_6
    exact endWs [[false, false, false, false, false, false, false, false, false, true, true], [true, true, true, true, true, true, true, true, true]] hx hb hr hlocks rfl hP hD rfl (by decide +kernel) hS ⟨fX_8, rfl, trivial⟩ (g_172 bX5_would rfl)
  · obtain ⟨k_9, k_10, hk_11, hk_12, rfl, rfl, h_13⟩ := h_3
    refine lv_istore_n (lv' := [(3, .int (-5)), (0, .ref qx), (1, .int (nI k_9)), (2, .int (nI k_10))]) hx hb (g_62 bX5_would rfl) rfl hl (by decide +kernel) rfl (fun ls => ?_)
    clear hl
    intro hl
    refine lv_iload_n hx hb (g_29 bX5_would rfl) rfl (lv_at hl 0 rfl) ?_
    refine lv_if_ne (tgt := 23) hx hb dX5_would_8 (by decide +kernel) (fun _ => ?_) (fun h9 => absurd h9 (by decide +kernel))
    refine lv_aload_n hx hb (g_42 bX5_would rfl) rfl (lv_at hl 1 rfl) ?_
    refine lv_iload_n hx hb (g_29 bX5_would rfl) rfl (lv_at hl 0 rfl) ?_
    refine cVi (As := [.int (-5)]) (rest := []) (b := qx) (q := (RX5, TX5, 9)) ⟨hx, hb, hml, hown, hts⟩ (c_X5_refuse5 l G cy (s.heap).size qx qt qk qp qs qa qr iKp iYe iTv fR) L_X5_56 hN hP hD hS hA [0, 1] [false, false, true, true, true, true, true, true, true, true, true] rfl (by decide +kernel) rfl 0 4 rfl rfl rfl ⟨Nat.le_of_ble_eq_true rfl, Nat.le_of_ble_eq_true rfl⟩ hl.1 (Nat.le_of_ble_eq_true rfl) (g_182 (v := 56) bX5_would rfl) ⟨Nat.le_of_ble_eq_true rfl, Nat.le_of_ble_eq_true rfl⟩ (fun r_15 u_17 H locs h_16 => ?_)
    clear hP hD hS
    intro hP hD hS
    obtain ⟨fX_18, hu9, h_16⟩ := h_16
    have hPD := pd_eq [_, _, _, _, _, _, _, _, _, _, zzI cy qr 5 fX_18] hP hD hu9 rfl
    clear hP hD hu9
    obtain ⟨hP, hD⟩ := hPD
    subst h_16
    exact endWs [[false, false, false, false, false, false, false, false, false, true, true], [true, true, true, true, true, true, true, true, true]] hx hb hr hlocks rfl hP hD rfl (by decide +kernel) hS ⟨fX_18, rfl, trivial⟩ (g_172 bX5_would rfl)
  · obtain ⟨k_19, k_20, hk_21, hk_22, rfl, rfl, h_23, h_24⟩ := h_3
    refine lv_istore_n (lv' := [(3, .int 0), (0, .ref qx), (1, .int (nI k_19)), (2, .int (nI k_20))]) hx hb (g_62 bX5_would rfl) rfl hl (by decide +kernel) rfl (fun ls => ?_)
    clear hl
    intro hl
    refine lv_iload_n hx hb (g_29 bX5_would rfl) rfl (lv_at hl 0 rfl) ?_
    refine lv_if_ne (tgt := 23) hx hb dX5_would_8 (by decide +kernel) (fun h9 => absurd (by decide +kernel) h9) (fun _ => ?_)
    refine lv_aload_n hx hb (g_42 bX5_would rfl) rfl (lv_at hl 1 rfl) ?_
    refine va_get (D := G) (ci := 4) (v := .ref qt) (C := RX5) (T := TX5) (N := 9) hx hb hts iX_X5 hown hK hP 0 rfl rfl 0 (by decide +kernel) (hts _ m_t174) (fun _ h9 => h9) rfl (g_180 (v := 10) bX5_would rfl) ?_
    refine lv_iload_n hx hb (g_27 bX5_would rfl) rfl (lv_at hl 2 rfl) ?_
    refine lv_iload_n hx hb (g_28 bX5_would rfl) rfl (lv_at hl 3 rfl) ?_
    refine kRi (rV (As := [.int (nI k_19), .int (nI k_20)]) (rest := []) (b := qt) ⟨hx, hb, hml, hown, hts⟩ (c_X4_wouldKnow l G cy qt tA qtw qtn qtg qta qtr qtm qtt qts k_19 k_20 (by first | omega | (simp only [nb_sr, np_sr, nb_wr, np_wr, nb_rd, np_rd, nb_ch, np_ch, nb_zr, np_zr, nb_za, np_za, nb_ey, np_ey, nb_hf, np_hf, nb_dd, np_dd, nb_so, np_so, nb_skn, np_skn, nb_swh, np_swh, nb_sgn, np_sgn, nb_ssd, np_ssd, nb_sgo, np_sgo, nb_sag, np_sag]; omega)) (by first | omega | (simp only [nb_sr, np_sr, nb_wr, np_wr, nb_rd, np_rd, nb_ch, np_ch, nb_zr, np_zr, nb_za, np_za, nb_ey, np_ey, nb_hf, np_hf, nb_dd, np_dd, nb_so, np_so, nb_skn, np_skn, nb_swh, np_swh, nb_sgn, np_sgn, nb_ssd, np_ssd, nb_sgo, np_sgo, nb_sag, np_sag]; omega))) L_X5_227 (preRV (q := (RX4, TX4, 13)) hN hP (trueIx 0 [false, false, true, false, true, true, false, true, false, false, true]) (sel_fm rfl rfl) 2 3 rfl rfl) rfl ⟨Nat.le_of_ble_eq_true rfl, Nat.le_of_ble_eq_true rfl⟩ hl.1 (Nat.le_of_ble_eq_true rfl) (g_182 (v := 227) bX5_would rfl) ⟨Nat.le_of_ble_eq_true rfl, Nat.le_of_ble_eq_true rfl⟩) (fun r_26 h_27 => ?_)
    subst h_27
    refine lv_goto (tgt := 28) hx hb dX5_would_20 (by decide +kernel) ?_
    exact endWs [[true, true, true, true, true, true, true, true, true, true, true]] hx hb hr hlocks rfl hP hD rfl (by decide +kernel) hS ⟨fR, rfl, trivial⟩ (g_172 bX5_would rfl)
set_option maxHeartbeats 4000000 in
set_option maxRecDepth 100000 in
theorem p_X5_read (l : Launch) (G : va_G) (cy : Nat → ClassId) (sz : Nat) (qx : Nat) (qt : Nat) (qk : Nat) (qp : Nat) (qs : Nat) (qa : Nat) (qr : Nat) (iKp : Int32) (iYe : Int32) (iTv : Int32) (fR : Nat → Int32) (tA : TA) (qtw : Nat) (qtn : Nat) (qtg : Nat) (qta : Nat) (qtr : Nat) (qtm : Nat) (qtt : Nat) (qts : Nat) (iA : Int32) (iB : Int32)  (hB : T_nb tA ≤ 8) (hPp : T_np tA ≤ 8) : MW l yX5_read cX5_read 4 (some .int) 12 0 0 G cy [zzO qx 4 [.ref qt, .ref qk, .ref qp, .ref qs, .ref qa, .ref qr, .int iKp, .int iYe, .int iTv], zzI cy qr 5 fR, zzO qt 3 [.int (nI (T_nb tA)), .int (nI (T_np tA)), .int (wb (T_wh tA)), .int (wb (T_gn tA)), .int (T_sd tA), .ref qtw, .ref qtn, .ref qtg, .ref qta, .ref qtr, .ref qtm, .ref qtt, .ref qts], zzI cy qtw 8 (T_wo tA), zzI cy qtn 8 (T_ne tA), zzI cy qtg 8 (T_go tA), zzI cy qta 8 (T_ag tA), zzI cy qtr 8 (T_re tA), zzI cy qtm 8 (T_me tA), zzI cy qtt 8 (T_te tA), zzI cy qts 64 (shF (T_kn tA))] sz [.ref qx, .int iA, .int iB] (Wi G (fun r u => ∃ (fX : Nat → Int32) (tN : TA), u = [zzO qx 4 [.ref qt, .ref qk, .ref qp, .ref qs, .ref qa, .ref qr, .int iKp, .int iYe, .int iTv], zzI cy qr 5 fX, zzO qt 3 [.int (nI (T_nb tN)), .int (nI (T_np tN)), .int (wb (T_wh tN)), .int (wb (T_gn tN)), .int (T_sd tN), .ref qtw, .ref qtn, .ref qtg, .ref qta, .ref qtr, .ref qtm, .ref qtt, .ref qts], zzI cy qtw 8 (T_wo tN), zzI cy qtn 8 (T_ne tN), zzI cy qtg 8 (T_go tN), zzI cy qta 8 (T_ag tN), zzI cy qtr 8 (T_re tN), zzI cy qtm 8 (T_me tN), zzI cy qtt 8 (T_te tN), zzI cy qts 64 (shF (T_kn tN))] ∧ (PXread tA iA iB r tN) ∧ (True))) := by
  refine enW RX5 (by decide +kernel) rfl (Nat.le_of_ble_eq_true rfl) (fun p e s m below meth c ls A hx hb hml hown hts hr hlocks hP hN hl hin hD hA hS => ?_)
  have hin : meth.name = _ := hin
  have hK := hN.1
  replace hl : lv_has ls 4 [(0, .ref qx), (1, .int iA), (2, .int iB)] := hl
  refine lv_aload_n hx hb (g_42 bX5_read rfl) rfl (lv_at hl 0 rfl) ?_
  refine lv_iload_n hx hb (g_27 bX5_read rfl) rfl (lv_at hl 1 rfl) ?_
  refine lv_iload_n hx hb (g_28 bX5_read rfl) rfl (lv_at hl 2 rfl) ?_
  refine kRi (rV (As := [.int iA, .int iB]) (rest := []) (b := qx) ⟨hx, hb, hml, hown, hts⟩ (c_X5_readFit l G cy qx qt qk qp qs qa qr iKp iYe iTv tA qtw qtn qtg qta qtr qtm qtt qts iA iB hB hPp) L_X5_224 (preRV (q := (RX5, TX5, 9)) hN hP [0, 2] rfl 0 4 rfl rfl) rfl ⟨Nat.le_of_ble_eq_true rfl, Nat.le_of_ble_eq_true rfl⟩ hl.1 (Nat.le_of_ble_eq_true rfl) (g_182 (v := 224) bX5_read rfl) ⟨Nat.le_of_ble_eq_true rfl, Nat.le_of_ble_eq_true rfl⟩) (fun r_1 h_2 => ?_)
  rcases h_2 with ⟨rfl, h_3⟩ | ⟨rfl, h_3⟩ | ⟨rfl, h_3⟩
  · refine lv_istore_n (lv' := [(3, .int (-2)), (0, .ref qx), (1, .int iA), (2, .int iB)]) hx hb (g_62 bX5_read rfl) rfl hl (by decide +kernel) rfl (fun ls => ?_)
    clear hl
    intro hl
    refine lv_iload_n hx hb (g_29 bX5_read rfl) rfl (lv_at hl 0 rfl) ?_
    refine lv_if_eq (tgt := 17) hx hb dX5_read_8 (by decide +kernel) (fun h9 => absurd h9 (by decide +kernel)) (fun _ => ?_)
    refine lv_aload_n hx hb (g_42 bX5_read rfl) rfl (lv_at hl 1 rfl) ?_
    refine lv_iload_n hx hb (g_29 bX5_read rfl) rfl (lv_at hl 0 rfl) ?_
    refine cVi (As := [.int (-2)]) (rest := []) (b := qx) (q := (RX5, TX5, 9)) ⟨hx, hb, hml, hown, hts⟩ (c_X5_refuse2 l G cy (s.heap).size qx qt qk qp qs qa qr iKp iYe iTv fR) L_X5_56 hN hP hD hS hA [0, 1] [false, false, true, true, true, true, true, true, true, true, true] rfl (by decide +kernel) rfl 0 4 rfl rfl rfl ⟨Nat.le_of_ble_eq_true rfl, Nat.le_of_ble_eq_true rfl⟩ hl.1 (Nat.le_of_ble_eq_true rfl) (g_182 (v := 56) bX5_read rfl) ⟨Nat.le_of_ble_eq_true rfl, Nat.le_of_ble_eq_true rfl⟩ (fun r_5 u_7 H locs h_6 => ?_)
    clear hP hD hS
    intro hP hD hS
    obtain ⟨fX_8, hu9, h_6⟩ := h_6
    have hPD := pd_eq [_, _, _, _, _, _, _, _, _, _, zzI cy qr 5 fX_8] hP hD hu9 rfl
    clear hP hD hu9
    obtain ⟨hP, hD⟩ := hPD
    subst h_6
    exact endWs [[false, false, false, false, false, false, false, false, false, true, true], [true, true, true, true, true, true, true, true, true]] hx hb hr hlocks rfl hP hD rfl (by decide +kernel) hS ⟨fX_8, tA, rfl, Or.inl ⟨rfl, h_3, rfl⟩, trivial⟩ (g_172 bX5_read rfl)
  · obtain ⟨k_9, k_10, hk_11, hk_12, rfl, rfl, h_13⟩ := h_3
    refine lv_istore_n (lv' := [(3, .int (-5)), (0, .ref qx), (1, .int (nI k_9)), (2, .int (nI k_10))]) hx hb (g_62 bX5_read rfl) rfl hl (by decide +kernel) rfl (fun ls => ?_)
    clear hl
    intro hl
    refine lv_iload_n hx hb (g_29 bX5_read rfl) rfl (lv_at hl 0 rfl) ?_
    refine lv_if_eq (tgt := 17) hx hb dX5_read_8 (by decide +kernel) (fun h9 => absurd h9 (by decide +kernel)) (fun _ => ?_)
    refine lv_aload_n hx hb (g_42 bX5_read rfl) rfl (lv_at hl 1 rfl) ?_
    refine lv_iload_n hx hb (g_29 bX5_read rfl) rfl (lv_at hl 0 rfl) ?_
    refine cVi (As := [.int (-5)]) (rest := []) (b := qx) (q := (RX5, TX5, 9)) ⟨hx, hb, hml, hown, hts⟩ (c_X5_refuse5 l G cy (s.heap).size qx qt qk qp qs qa qr iKp iYe iTv fR) L_X5_56 hN hP hD hS hA [0, 1] [false, false, true, true, true, true, true, true, true, true, true] rfl (by decide +kernel) rfl 0 4 rfl rfl rfl ⟨Nat.le_of_ble_eq_true rfl, Nat.le_of_ble_eq_true rfl⟩ hl.1 (Nat.le_of_ble_eq_true rfl) (g_182 (v := 56) bX5_read rfl) ⟨Nat.le_of_ble_eq_true rfl, Nat.le_of_ble_eq_true rfl⟩ (fun r_15 u_17 H locs h_16 => ?_)
    clear hP hD hS
    intro hP hD hS
    obtain ⟨fX_18, hu9, h_16⟩ := h_16
    have hPD := pd_eq [_, _, _, _, _, _, _, _, _, _, zzI cy qr 5 fX_18] hP hD hu9 rfl
    clear hP hD hu9
    obtain ⟨hP, hD⟩ := hPD
    subst h_16
    exact endWs [[false, false, false, false, false, false, false, false, false, true, true], [true, true, true, true, true, true, true, true, true]] hx hb hr hlocks rfl hP hD rfl (by decide +kernel) hS ⟨fX_18, tA, rfl, Or.inr ⟨k_9, k_10, hk_11, hk_12, rfl, rfl, Or.inl ⟨rfl, h_13, rfl⟩⟩, trivial⟩ (g_172 bX5_read rfl)
  · obtain ⟨k_19, k_20, hk_21, hk_22, rfl, rfl, h_23, h_24⟩ := h_3
    refine lv_istore_n (lv' := [(3, .int 0), (0, .ref qx), (1, .int (nI k_19)), (2, .int (nI k_20))]) hx hb (g_62 bX5_read rfl) rfl hl (by decide +kernel) rfl (fun ls => ?_)
    clear hl
    intro hl
    refine lv_iload_n hx hb (g_29 bX5_read rfl) rfl (lv_at hl 0 rfl) ?_
    refine lv_if_eq (tgt := 17) hx hb dX5_read_8 (by decide +kernel) (fun _ => ?_) (fun h9 => absurd (by decide +kernel) h9)
    refine lv_aload_n hx hb (g_42 bX5_read rfl) rfl (lv_at hl 1 rfl) ?_
    refine va_get (D := G) (ci := 4) (v := .ref qt) (C := RX5) (T := TX5) (N := 9) hx hb hts iX_X5 hown hK hP 0 rfl rfl 0 (by decide +kernel) (hts _ m_t174) (fun _ h9 => h9) rfl (g_180 (v := 10) bX5_read rfl) ?_
    refine lv_iload_n hx hb (g_27 bX5_read rfl) rfl (lv_at hl 2 rfl) ?_
    refine lv_iload_n hx hb (g_28 bX5_read rfl) rfl (lv_at hl 3 rfl) ?_
    refine cVv (As := [.int (nI k_19), .int (nI k_20)]) (rest := []) (b := qt) (q := (RX4, TX4, 13)) ⟨hx, hb, hml, hown, hts⟩ (c_X4_readBy l G cy (s.heap).size qt tA qtw qtn qtg qta qtr qtm qtt qts k_19 k_20 (by first | omega | (simp only [nb_sr, np_sr, nb_wr, np_wr, nb_rd, np_rd, nb_ch, np_ch, nb_zr, np_zr, nb_za, np_za, nb_ey, np_ey, nb_hf, np_hf, nb_dd, np_dd, nb_so, np_so, nb_skn, np_skn, nb_swh, np_swh, nb_sgn, np_sgn, nb_ssd, np_ssd, nb_sgo, np_sgo, nb_sag, np_sag]; omega)) (by first | omega | (simp only [nb_sr, np_sr, nb_wr, np_wr, nb_rd, np_rd, nb_ch, np_ch, nb_zr, np_zr, nb_za, np_za, nb_ey, np_ey, nb_hf, np_hf, nb_dd, np_dd, nb_so, np_so, nb_skn, np_skn, nb_swh, np_swh, nb_sgn, np_sgn, nb_ssd, np_ssd, nb_sgo, np_sgo, nb_sag, np_sag]; omega))) L_X5_230 hN hP hD hS hA (trueIx 0 [false, false, true, true, true, true, true, true, true, true, true]) [true, true, false, false, false, false, false, false, false, false, false] (sel_eq rfl rfl) (by decide +kernel) rfl 2 3 rfl rfl rfl ⟨Nat.le_of_ble_eq_true rfl, Nat.le_of_ble_eq_true rfl⟩ hl.1 (Nat.le_of_ble_eq_true rfl) (g_182 (v := 230) bX5_read rfl) ⟨Nat.le_of_ble_eq_true rfl, Nat.le_of_ble_eq_true rfl⟩ (fun u_28 H locs h_27 => ?_)
    clear hP hD hS
    intro hP hD hS
    have hPD := pd_eq [_, _, zzO qt 3 [.int (nI (T_nb (rdT tA k_19 k_20))), .int (nI (T_np (rdT tA k_19 k_20))), .int (wb (T_wh (rdT tA k_19 k_20))), .int (wb (T_gn (rdT tA k_19 k_20))), .int (T_sd (rdT tA k_19 k_20)), .ref qtw, .ref qtn, .ref qtg, .ref qta, .ref qtr, .ref qtm, .ref qtt, .ref qts], zzI cy qtw 8 (T_wo (rdT tA k_19 k_20)), zzI cy qtn 8 (T_ne (rdT tA k_19 k_20)), zzI cy qtg 8 (T_go (rdT tA k_19 k_20)), zzI cy qta 8 (T_ag (rdT tA k_19 k_20)), zzI cy qtr 8 (T_re (rdT tA k_19 k_20)), zzI cy qtm 8 (T_me (rdT tA k_19 k_20)), zzI cy qtt 8 (T_te (rdT tA k_19 k_20)), zzI cy qts 64 (shF (T_kn (rdT tA k_19 k_20)))] hP hD h_27 rfl
    clear hP hD h_27
    obtain ⟨hP, hD⟩ := hPD
    refine lv_aload_n hx hb (g_42 bX5_read rfl) rfl (lv_at hl 1 rfl) ?_
    refine va_get (D := G) (ci := 4) (v := .ref qt) (C := RX5) (T := TX5) (N := 9) hx hb hts iX_X5 hown hK hP 0 rfl rfl 0 (by decide +kernel) (hts _ m_t174) (fun _ h9 => h9) rfl (g_180 (v := 10) bX5_read rfl) ?_
    refine lv_iload_n hx hb (g_27 bX5_read rfl) rfl (lv_at hl 2 rfl) ?_
    refine lv_iload_n hx hb (g_28 bX5_read rfl) rfl (lv_at hl 3 rfl) ?_
    refine kRi (rV (As := [.int (nI k_19), .int (nI k_20)]) (rest := []) (b := qt) ⟨hx, hb, hml, hown, hts⟩ (c_X4_knows l G cy qt (rdT tA k_19 k_20) qtw qtn qtg qta qtr qtm qtt qts k_19 k_20 (by first | omega | (simp only [nb_sr, np_sr, nb_wr, np_wr, nb_rd, np_rd, nb_ch, np_ch, nb_zr, np_zr, nb_za, np_za, nb_ey, np_ey, nb_hf, np_hf, nb_dd, np_dd, nb_so, np_so, nb_skn, np_skn, nb_swh, np_swh, nb_sgn, np_sgn, nb_ssd, np_ssd, nb_sgo, np_sgo, nb_sag, np_sag]; omega)) (by first | omega | (simp only [nb_sr, np_sr, nb_wr, np_wr, nb_rd, np_rd, nb_ch, np_ch, nb_zr, np_zr, nb_za, np_za, nb_ey, np_ey, nb_hf, np_hf, nb_dd, np_dd, nb_so, np_so, nb_skn, np_skn, nb_swh, np_swh, nb_sgn, np_sgn, nb_ssd, np_ssd, nb_sgo, np_sgo, nb_sag, np_sag]; omega))) L_X5_213 (preRV (q := (RX4, TX4, 13)) hN hP [2, 10] rfl 2 3 rfl rfl) rfl ⟨Nat.le_of_ble_eq_true rfl, Nat.le_of_ble_eq_true rfl⟩ hl.1 (Nat.le_of_ble_eq_true rfl) (g_182 (v := 213) bX5_read rfl) ⟨Nat.le_of_ble_eq_true rfl, Nat.le_of_ble_eq_true rfl⟩) (fun r_29 h_30 => ?_)
    subst h_30
    exact endWs [[true, true, true, true, true, true, true, true, true, true, true]] hx hb hr hlocks rfl hP hD rfl (by decide +kernel) hS ⟨fR, (rdT tA k_19 k_20), rfl, Or.inr ⟨k_19, k_20, hk_21, hk_22, rfl, rfl, Or.inr ⟨rfl, h_23, h_24, rfl⟩⟩, trivial⟩ (g_172 bX5_read rfl)
set_option maxHeartbeats 4000000 in
set_option maxRecDepth 100000 in
theorem p_X5_aloud (l : Launch) (G : va_G) (cy : Nat → ClassId) (sz : Nat) (qx : Nat) (qt : Nat) (qk : Nat) (qp : Nat) (qs : Nat) (qa : Nat) (qr : Nat) (iKp : Int32) (iYe : Int32) (iTv : Int32) (fR : Nat → Int32) (tA : TA) (qtw : Nat) (qtn : Nat) (qtg : Nat) (qta : Nat) (qtr : Nat) (qtm : Nat) (qtt : Nat) (qts : Nat) (iA : Int32) (iB : Int32) (iC : Int32)  (hB : T_nb tA ≤ 8) (hPp : T_np tA ≤ 8) : MW l yX5_aloud cX5_aloud 5 (some .int) 12 0 0 G cy [zzO qx 4 [.ref qt, .ref qk, .ref qp, .ref qs, .ref qa, .ref qr, .int iKp, .int iYe, .int iTv], zzI cy qr 5 fR, zzO qt 3 [.int (nI (T_nb tA)), .int (nI (T_np tA)), .int (wb (T_wh tA)), .int (wb (T_gn tA)), .int (T_sd tA), .ref qtw, .ref qtn, .ref qtg, .ref qta, .ref qtr, .ref qtm, .ref qtt, .ref qts], zzI cy qtw 8 (T_wo tA), zzI cy qtn 8 (T_ne tA), zzI cy qtg 8 (T_go tA), zzI cy qta 8 (T_ag tA), zzI cy qtr 8 (T_re tA), zzI cy qtm 8 (T_me tA), zzI cy qtt 8 (T_te tA), zzI cy qts 64 (shF (T_kn tA))] sz [.ref qx, .int iA, .int iB, .int iC] (Wi G (fun r u => ∃ (fX : Nat → Int32) (tN : TA), u = [zzO qx 4 [.ref qt, .ref qk, .ref qp, .ref qs, .ref qa, .ref qr, .int iKp, .int iYe, .int iTv], zzI cy qr 5 fX, zzO qt 3 [.int (nI (T_nb tN)), .int (nI (T_np tN)), .int (wb (T_wh tN)), .int (wb (T_gn tN)), .int (T_sd tN), .ref qtw, .ref qtn, .ref qtg, .ref qta, .ref qtr, .ref qtm, .ref qtt, .ref qts], zzI cy qtw 8 (T_wo tN), zzI cy qtn 8 (T_ne tN), zzI cy qtg 8 (T_go tN), zzI cy qta 8 (T_ag tN), zzI cy qtr 8 (T_re tN), zzI cy qtm 8 (T_me tN), zzI cy qtt 8 (T_te tN), zzI cy qts 64 (shF (T_kn tN))] ∧ (PXaloud tA iA iB iC r tN) ∧ (True))) := by
  refine enW RX5 (by decide +kernel) rfl (Nat.le_of_ble_eq_true rfl) (fun p e s m below meth c ls A hx hb hml hown hts hr hlocks hP hN hl hin hD hA hS => ?_)
  have hin : meth.name = _ := hin
  have hK := hN.1
  replace hl : lv_has ls 5 [(0, .ref qx), (1, .int iA), (2, .int iB), (3, .int iC)] := hl
  refine lv_iload_n hx hb (g_29 bX5_aloud rfl) rfl (lv_at hl 3 rfl) ?_
  refine lv_aload_n hx hb (g_42 bX5_aloud rfl) rfl (lv_at hl 0 rfl) ?_
  refine va_get (D := G) (ci := 4) (v := .ref qt) (C := RX5) (T := TX5) (N := 9) hx hb hts iX_X5 hown hK hP 0 rfl rfl 0 (by decide +kernel) (hts _ m_t174) (fun _ h9 => h9) rfl (g_180 (v := 10) bX5_aloud rfl) ?_
  refine va_getN (D := G) (ci := 3) (v := .int (nI (T_np tA))) (C := RX4) (T := TX4) (N := 13) hx hb hts iX_X4 hown hK hP 2 rfl rfl 1 (by decide +kernel) (va_Nw.use rfl (hN.2.1 (RX5, 141, "EachBookOnce$Town", "people", "I") (List.mem_of_getElem? (i := 7) rfl))) (fun _ h9 => h9) rfl (g_180 (v := 141) bX5_aloud rfl) ?_
  refine kRi (rS (As := [.int iC, .int (nI (T_np tA))]) (rest := []) ⟨hx, hb, hml, hown, hts⟩ (c_X5_isSetOf l G cy iC (nI (T_np tA))) L_X5_131 (preRS hN hP [] rfl) rfl ⟨Nat.le_of_ble_eq_true rfl, Nat.le_of_ble_eq_true rfl⟩ hl.1 (Nat.le_of_ble_eq_true rfl) (g_184 (v := 131) bX5_aloud rfl) ⟨Nat.le_of_ble_eq_true rfl, Nat.le_of_ble_eq_true rfl⟩) (fun r_1 h_2 => ?_)
  rcases h_2 with ⟨rfl, h_3⟩ | ⟨rfl, h_3⟩
  · refine lv_if_eq (tgt := 23) hx hb dX5_aloud_11 (by decide +kernel) (fun h9 => absurd h9 (by decide +kernel)) (fun _ => ?_)
    refine lv_aload_n hx hb (g_42 bX5_aloud rfl) rfl (lv_at hl 0 rfl) ?_
    refine lv_iload_n hx hb (g_27 bX5_aloud rfl) rfl (lv_at hl 1 rfl) ?_
    refine lv_iload_n hx hb (g_28 bX5_aloud rfl) rfl (lv_at hl 2 rfl) ?_
    refine kRi (rV (As := [.int iA, .int iB]) (rest := []) (b := qx) ⟨hx, hb, hml, hown, hts⟩ (c_X5_readFit l G cy qx qt qk qp qs qa qr iKp iYe iTv tA qtw qtn qtg qta qtr qtm qtt qts iA iB hB hPp) L_X5_224 (preRV (q := (RX5, TX5, 9)) hN hP [0, 2] rfl 0 4 rfl rfl) rfl ⟨Nat.le_of_ble_eq_true rfl, Nat.le_of_ble_eq_true rfl⟩ hl.1 (Nat.le_of_ble_eq_true rfl) (g_182 (v := 224) bX5_aloud rfl) ⟨Nat.le_of_ble_eq_true rfl, Nat.le_of_ble_eq_true rfl⟩) (fun r_5 h_6 => ?_)
    rcases h_6 with ⟨rfl, h_7⟩ | ⟨rfl, h_7⟩ | ⟨rfl, h_7⟩
    · refine lv_goto (tgt := 25) hx hb dX5_aloud_20 (by decide +kernel) ?_
      refine lv_istore (lv' := [(4, .int (-2)), (0, .ref qx), (1, .int iA), (2, .int iB), (3, .int iC)]) hx hb (g_54 (v := 4) bX5_aloud rfl) hl (by decide +kernel) rfl (fun ls => ?_)
      clear hl
      intro hl
      refine lv_iload hx hb (g_21 (v := 4) bX5_aloud rfl) (lv_at hl 0 rfl) ?_
      refine lv_if_eq (tgt := 39) hx hb dX5_aloud_29 (by decide +kernel) (fun h9 => absurd h9 (by decide +kernel)) (fun _ => ?_)
      refine lv_aload_n hx hb (g_42 bX5_aloud rfl) rfl (lv_at hl 1 rfl) ?_
      refine lv_iload hx hb (g_21 (v := 4) bX5_aloud rfl) (lv_at hl 0 rfl) ?_
      refine cVi (As := [.int (-2)]) (rest := []) (b := qx) (q := (RX5, TX5, 9)) ⟨hx, hb, hml, hown, hts⟩ (c_X5_refuse2 l G cy (s.heap).size qx qt qk qp qs qa qr iKp iYe iTv fR) L_X5_56 hN hP hD hS hA [0, 1] [false, false, true, true, true, true, true, true, true, true, true] rfl (by decide +kernel) rfl 0 4 rfl rfl rfl ⟨Nat.le_of_ble_eq_true rfl, Nat.le_of_ble_eq_true rfl⟩ hl.1 (Nat.le_of_ble_eq_true rfl) (g_182 (v := 56) bX5_aloud rfl) ⟨Nat.le_of_ble_eq_true rfl, Nat.le_of_ble_eq_true rfl⟩ (fun r_9 u_11 H locs h_10 => ?_)
      clear hP hD hS
      intro hP hD hS
      obtain ⟨fX_12, hu9, h_10⟩ := h_10
      have hPD := pd_eq [_, _, _, _, _, _, _, _, _, _, zzI cy qr 5 fX_12] hP hD hu9 rfl
      clear hP hD hu9
      obtain ⟨hP, hD⟩ := hPD
      subst h_10
      exact endWs [[false, false, false, false, false, false, false, false, false, true, true], [true, true, true, true, true, true, true, true, true]] hx hb hr hlocks rfl hP hD rfl (by decide +kernel) hS ⟨fX_12, tA, rfl, Or.inl ⟨rfl, fun q => h_7 q.2, rfl⟩, trivial⟩ (g_172 bX5_aloud rfl)
    · obtain ⟨k_13, k_14, hk_15, hk_16, rfl, rfl, h_17⟩ := h_7
      refine lv_goto (tgt := 25) hx hb dX5_aloud_20 (by decide +kernel) ?_
      refine lv_istore (lv' := [(4, .int (-5)), (0, .ref qx), (1, .int (nI k_13)), (2, .int (nI k_14)), (3, .int iC)]) hx hb (g_54 (v := 4) bX5_aloud rfl) hl (by decide +kernel) rfl (fun ls => ?_)
      clear hl
      intro hl
      refine lv_iload hx hb (g_21 (v := 4) bX5_aloud rfl) (lv_at hl 0 rfl) ?_
      refine lv_if_eq (tgt := 39) hx hb dX5_aloud_29 (by decide +kernel) (fun h9 => absurd h9 (by decide +kernel)) (fun _ => ?_)
      refine lv_aload_n hx hb (g_42 bX5_aloud rfl) rfl (lv_at hl 1 rfl) ?_
      refine lv_iload hx hb (g_21 (v := 4) bX5_aloud rfl) (lv_at hl 0 rfl) ?_
      refine cVi (As := [.int (-5)]) (rest := []) (b := qx) (q := (RX5, TX5, 9)) ⟨hx, hb, hml, hown, hts⟩ (c_X5_refuse5 l G cy (s.heap).size qx qt qk qp qs qa qr iKp iYe iTv fR) L_X5_56 hN hP hD hS hA [0, 1] [false, false, true, true, true, true, true, true, true, true, true] rfl (by decide +kernel) rfl 0 4 rfl rfl rfl ⟨Nat.le_of_ble_eq_true rfl, Nat.le_of_ble_eq_true rfl⟩ hl.1 (Nat.le_of_ble_eq_true rfl) (g_182 (v := 56) bX5_aloud rfl) ⟨Nat.le_of_ble_eq_true rfl, Nat.le_of_ble_eq_true rfl⟩ (fun r_19 u_21 H locs h_20 => ?_)
      clear hP hD hS
      intro hP hD hS
      obtain ⟨fX_22, hu9, h_20⟩ := h_20
      have hPD := pd_eq [_, _, _, _, _, _, _, _, _, _, zzI cy qr 5 fX_22] hP hD hu9 rfl
      clear hP hD hu9
      obtain ⟨hP, hD⟩ := hPD
      subst h_20
      exact endWs [[false, false, false, false, false, false, false, false, false, true, true], [true, true, true, true, true, true, true, true, true]] hx hb hr hlocks rfl hP hD rfl (by decide +kernel) hS ⟨fX_22, tA, rfl, Or.inr ⟨k_13, k_14, hk_15, hk_16, rfl, rfl, h_3, Or.inl ⟨rfl, h_17, rfl⟩⟩, trivial⟩ (g_172 bX5_aloud rfl)
    · obtain ⟨k_23, k_24, hk_25, hk_26, rfl, rfl, h_27, h_28⟩ := h_7
      refine lv_goto (tgt := 25) hx hb dX5_aloud_20 (by decide +kernel) ?_
      refine lv_istore (lv' := [(4, .int 0), (0, .ref qx), (1, .int (nI k_23)), (2, .int (nI k_24)), (3, .int iC)]) hx hb (g_54 (v := 4) bX5_aloud rfl) hl (by decide +kernel) rfl (fun ls => ?_)
      clear hl
      intro hl
      refine lv_iload hx hb (g_21 (v := 4) bX5_aloud rfl) (lv_at hl 0 rfl) ?_
      refine lv_if_eq (tgt := 39) hx hb dX5_aloud_29 (by decide +kernel) (fun _ => ?_) (fun h9 => absurd (by decide +kernel) h9)
      refine lv_aload_n hx hb (g_42 bX5_aloud rfl) rfl (lv_at hl 1 rfl) ?_
      refine va_get (D := G) (ci := 4) (v := .ref qt) (C := RX5) (T := TX5) (N := 9) hx hb hts iX_X5 hown hK hP 0 rfl rfl 0 (by decide +kernel) (hts _ m_t174) (fun _ h9 => h9) rfl (g_180 (v := 10) bX5_aloud rfl) ?_
      refine lv_iload_n hx hb (g_27 bX5_aloud rfl) rfl (lv_at hl 2 rfl) ?_
      refine lv_iload_n hx hb (g_28 bX5_aloud rfl) rfl (lv_at hl 3 rfl) ?_
      refine cVv (As := [.int (nI k_23), .int (nI k_24)]) (rest := []) (b := qt) (q := (RX4, TX4, 13)) ⟨hx, hb, hml, hown, hts⟩ (c_X4_readBy l G cy (s.heap).size qt tA qtw qtn qtg qta qtr qtm qtt qts k_23 k_24 (by first | omega | (simp only [nb_sr, np_sr, nb_wr, np_wr, nb_rd, np_rd, nb_ch, np_ch, nb_zr, np_zr, nb_za, np_za, nb_ey, np_ey, nb_hf, np_hf, nb_dd, np_dd, nb_so, np_so, nb_skn, np_skn, nb_swh, np_swh, nb_sgn, np_sgn, nb_ssd, np_ssd, nb_sgo, np_sgo, nb_sag, np_sag]; omega)) (by first | omega | (simp only [nb_sr, np_sr, nb_wr, np_wr, nb_rd, np_rd, nb_ch, np_ch, nb_zr, np_zr, nb_za, np_za, nb_ey, np_ey, nb_hf, np_hf, nb_dd, np_dd, nb_so, np_so, nb_skn, np_skn, nb_swh, np_swh, nb_sgn, np_sgn, nb_ssd, np_ssd, nb_sgo, np_sgo, nb_sag, np_sag]; omega))) L_X5_230 hN hP hD hS hA (trueIx 0 [false, false, true, true, true, true, true, true, true, true, true]) [true, true, false, false, false, false, false, false, false, false, false] (sel_eq rfl rfl) (by decide +kernel) rfl 2 3 rfl rfl rfl ⟨Nat.le_of_ble_eq_true rfl, Nat.le_of_ble_eq_true rfl⟩ hl.1 (Nat.le_of_ble_eq_true rfl) (g_182 (v := 230) bX5_aloud rfl) ⟨Nat.le_of_ble_eq_true rfl, Nat.le_of_ble_eq_true rfl⟩ (fun u_32 H locs h_31 => ?_)
      clear hP hD hS
      intro hP hD hS
      have hPD := pd_eq [_, _, zzO qt 3 [.int (nI (T_nb (rdT tA k_23 k_24))), .int (nI (T_np (rdT tA k_23 k_24))), .int (wb (T_wh (rdT tA k_23 k_24))), .int (wb (T_gn (rdT tA k_23 k_24))), .int (T_sd (rdT tA k_23 k_24)), .ref qtw, .ref qtn, .ref qtg, .ref qta, .ref qtr, .ref qtm, .ref qtt, .ref qts], zzI cy qtw 8 (T_wo (rdT tA k_23 k_24)), zzI cy qtn 8 (T_ne (rdT tA k_23 k_24)), zzI cy qtg 8 (T_go (rdT tA k_23 k_24)), zzI cy qta 8 (T_ag (rdT tA k_23 k_24)), zzI cy qtr 8 (T_re (rdT tA k_23 k_24)), zzI cy qtm 8 (T_me (rdT tA k_23 k_24)), zzI cy qtt 8 (T_te (rdT tA k_23 k_24)), zzI cy qts 64 (shF (T_kn (rdT tA k_23 k_24)))] hP hD h_31 rfl
      clear hP hD h_31
      obtain ⟨hP, hD⟩ := hPD
      refine lv_aload_n hx hb (g_42 bX5_aloud rfl) rfl (lv_at hl 1 rfl) ?_
      refine va_get (D := G) (ci := 4) (v := .ref qt) (C := RX5) (T := TX5) (N := 9) hx hb hts iX_X5 hown hK hP 0 rfl rfl 0 (by decide +kernel) (hts _ m_t174) (fun _ h9 => h9) rfl (g_180 (v := 10) bX5_aloud rfl) ?_
      refine lv_iload_n hx hb (g_27 bX5_aloud rfl) rfl (lv_at hl 2 rfl) ?_
      refine lv_iload_n hx hb (g_28 bX5_aloud rfl) rfl (lv_at hl 3 rfl) ?_
      refine lv_iload_n hx hb (g_29 bX5_aloud rfl) rfl (lv_at hl 4 rfl) ?_
      refine cVi (As := [.int (nI k_23), .int (nI k_24), .int iC]) (rest := []) (b := qt) (q := (RX4, TX4, 13)) ⟨hx, hb, hml, hown, hts⟩ (c_X4_hearFrom l G cy (H).size qt (rdT tA k_23 k_24) qtw qtn qtg qta qtr qtm qtt qts k_23 k_24 iC (by first | omega | (simp only [nb_sr, np_sr, nb_wr, np_wr, nb_rd, np_rd, nb_ch, np_ch, nb_zr, np_zr, nb_za, np_za, nb_ey, np_ey, nb_hf, np_hf, nb_dd, np_dd, nb_so, np_so, nb_skn, np_skn, nb_swh, np_swh, nb_sgn, np_sgn, nb_ssd, np_ssd, nb_sgo, np_sgo, nb_sag, np_sag]; omega)) (by first | omega | (simp only [nb_sr, np_sr, nb_wr, np_wr, nb_rd, np_rd, nb_ch, np_ch, nb_zr, np_zr, nb_za, np_za, nb_ey, np_ey, nb_hf, np_hf, nb_dd, np_dd, nb_so, np_so, nb_skn, np_skn, nb_swh, np_swh, nb_sgn, np_sgn, nb_ssd, np_ssd, nb_sgo, np_sgo, nb_sag, np_sag]; omega)) (by first | omega | (simp only [nb_sr, np_sr, nb_wr, np_wr, nb_rd, np_rd, nb_ch, np_ch, nb_zr, np_zr, nb_za, np_za, nb_ey, np_ey, nb_hf, np_hf, nb_dd, np_dd, nb_so, np_so, nb_skn, np_skn, nb_swh, np_swh, nb_sgn, np_sgn, nb_ssd, np_ssd, nb_sgo, np_sgo, nb_sag, np_sag]; omega))) L_X5_234 hN hP hD hS hA (trueIx 0 [false, false, true, true, true, true, true, true, true, true, true]) [true, true, false, false, false, false, false, false, false, false, false] (sel_eq rfl rfl) (by decide +kernel) rfl 2 3 rfl rfl rfl ⟨Nat.le_of_ble_eq_true rfl, Nat.le_of_ble_eq_true rfl⟩ hl.1 (Nat.le_of_ble_eq_true rfl) (g_182 (v := 234) bX5_aloud rfl) ⟨Nat.le_of_ble_eq_true rfl, Nat.le_of_ble_eq_true rfl⟩ (fun r_33 u_35 H locs h_34 => ?_)
      clear hP hD hS
      intro hP hD hS
      obtain ⟨hu9, h_34⟩ := h_34
      have hPD := pd_eq [_, _, zzO qt 3 [.int (nI (T_nb ((zhf (rdT tA k_23 k_24) k_23 k_24 iC).1))), .int (nI (T_np ((zhf (rdT tA k_23 k_24) k_23 k_24 iC).1))), .int (wb (T_wh ((zhf (rdT tA k_23 k_24) k_23 k_24 iC).1))), .int (wb (T_gn ((zhf (rdT tA k_23 k_24) k_23 k_24 iC).1))), .int (T_sd ((zhf (rdT tA k_23 k_24) k_23 k_24 iC).1)), .ref qtw, .ref qtn, .ref qtg, .ref qta, .ref qtr, .ref qtm, .ref qtt, .ref qts], zzI cy qtw 8 (T_wo ((zhf (rdT tA k_23 k_24) k_23 k_24 iC).1)), zzI cy qtn 8 (T_ne ((zhf (rdT tA k_23 k_24) k_23 k_24 iC).1)), zzI cy qtg 8 (T_go ((zhf (rdT tA k_23 k_24) k_23 k_24 iC).1)), zzI cy qta 8 (T_ag ((zhf (rdT tA k_23 k_24) k_23 k_24 iC).1)), zzI cy qtr 8 (T_re ((zhf (rdT tA k_23 k_24) k_23 k_24 iC).1)), zzI cy qtm 8 (T_me ((zhf (rdT tA k_23 k_24) k_23 k_24 iC).1)), zzI cy qtt 8 (T_te ((zhf (rdT tA k_23 k_24) k_23 k_24 iC).1)), zzI cy qts 64 (shF (T_kn ((zhf (rdT tA k_23 k_24) k_23 k_24 iC).1)))] hP hD hu9 rfl
      clear hP hD hu9
      obtain ⟨hP, hD⟩ := hPD
      subst h_34
      exact endWs [[true, true, true, true, true, true, true, true, true, true, true]] hx hb hr hlocks rfl hP hD rfl (by decide +kernel) hS ⟨fR, ((zhf (rdT tA k_23 k_24) k_23 k_24 iC).1), rfl, Or.inr ⟨k_23, k_24, hk_25, hk_26, rfl, rfl, h_3, Or.inr ⟨rfl, h_27, h_28, rfl⟩⟩, trivial⟩ (g_172 bX5_aloud rfl)
  · refine lv_if_eq (tgt := 23) hx hb dX5_aloud_11 (by decide +kernel) (fun _ => ?_) (fun h9 => absurd (by decide +kernel) h9)
    refine lv_bipush (v := (-2)) hx hb dX5_aloud_23 (by decide +kernel) ?_
    refine lv_istore (lv' := [(4, .int (-2)), (0, .ref qx), (1, .int iA), (2, .int iB), (3, .int iC)]) hx hb (g_54 (v := 4) bX5_aloud rfl) hl (by decide +kernel) rfl (fun ls => ?_)
    clear hl
    intro hl
    refine lv_iload hx hb (g_21 (v := 4) bX5_aloud rfl) (lv_at hl 0 rfl) ?_
    refine lv_if_eq (tgt := 39) hx hb dX5_aloud_29 (by decide +kernel) (fun h9 => absurd h9 (by decide +kernel)) (fun _ => ?_)
    refine lv_aload_n hx hb (g_42 bX5_aloud rfl) rfl (lv_at hl 1 rfl) ?_
    refine lv_iload hx hb (g_21 (v := 4) bX5_aloud rfl) (lv_at hl 0 rfl) ?_
    refine cVi (As := [.int (-2)]) (rest := []) (b := qx) (q := (RX5, TX5, 9)) ⟨hx, hb, hml, hown, hts⟩ (c_X5_refuse2 l G cy (s.heap).size qx qt qk qp qs qa qr iKp iYe iTv fR) L_X5_56 hN hP hD hS hA [0, 1] [false, false, true, true, true, true, true, true, true, true, true] rfl (by decide +kernel) rfl 0 4 rfl rfl rfl ⟨Nat.le_of_ble_eq_true rfl, Nat.le_of_ble_eq_true rfl⟩ hl.1 (Nat.le_of_ble_eq_true rfl) (g_182 (v := 56) bX5_aloud rfl) ⟨Nat.le_of_ble_eq_true rfl, Nat.le_of_ble_eq_true rfl⟩ (fun r_38 u_40 H locs h_39 => ?_)
    clear hP hD hS
    intro hP hD hS
    obtain ⟨fX_41, hu9, h_39⟩ := h_39
    have hPD := pd_eq [_, _, _, _, _, _, _, _, _, _, zzI cy qr 5 fX_41] hP hD hu9 rfl
    clear hP hD hu9
    obtain ⟨hP, hD⟩ := hPD
    subst h_39
    exact endWs [[false, false, false, false, false, false, false, false, false, true, true], [true, true, true, true, true, true, true, true, true]] hx hb hr hlocks rfl hP hD rfl (by decide +kernel) hS ⟨fX_41, tA, rfl, Or.inl ⟨rfl, fun q => h_3 q.1, rfl⟩, trivial⟩ (g_172 bX5_aloud rfl)
set_option maxHeartbeats 4000000 in
set_option maxRecDepth 100000 in
theorem p_X5_tell (l : Launch) (G : va_G) (cy : Nat → ClassId) (sz : Nat) (qx : Nat) (qt : Nat) (qk : Nat) (qp : Nat) (qs : Nat) (qa : Nat) (qr : Nat) (iKp : Int32) (iYe : Int32) (iTv : Int32) (fR : Nat → Int32) (tA : TA) (qtw : Nat) (qtn : Nat) (qtg : Nat) (qta : Nat) (qtr : Nat) (qtm : Nat) (qtt : Nat) (qts : Nat) (iA : Int32) (iB : Int32) (iC : Int32)  (hB : T_nb tA ≤ 8) (hPp : T_np tA ≤ 8) : MW l yX5_tell cX5_tell 5 (some .int) 12 0 0 G cy [zzO qx 4 [.ref qt, .ref qk, .ref qp, .ref qs, .ref qa, .ref qr, .int iKp, .int iYe, .int iTv], zzI cy qr 5 fR, zzO qt 3 [.int (nI (T_nb tA)), .int (nI (T_np tA)), .int (wb (T_wh tA)), .int (wb (T_gn tA)), .int (T_sd tA), .ref qtw, .ref qtn, .ref qtg, .ref qta, .ref qtr, .ref qtm, .ref qtt, .ref qts], zzI cy qtw 8 (T_wo tA), zzI cy qtn 8 (T_ne tA), zzI cy qtg 8 (T_go tA), zzI cy qta 8 (T_ag tA), zzI cy qtr 8 (T_re tA), zzI cy qtm 8 (T_me tA), zzI cy qtt 8 (T_te tA), zzI cy qts 64 (shF (T_kn tA))] sz [.ref qx, .int iA, .int iB, .int iC] (Wi G (fun r u => ∃ (fX : Nat → Int32) (tN : TA), u = [zzO qx 4 [.ref qt, .ref qk, .ref qp, .ref qs, .ref qa, .ref qr, .int iKp, .int iYe, .int iTv], zzI cy qr 5 fX, zzO qt 3 [.int (nI (T_nb tN)), .int (nI (T_np tN)), .int (wb (T_wh tN)), .int (wb (T_gn tN)), .int (T_sd tN), .ref qtw, .ref qtn, .ref qtg, .ref qta, .ref qtr, .ref qtm, .ref qtt, .ref qts], zzI cy qtw 8 (T_wo tN), zzI cy qtn 8 (T_ne tN), zzI cy qtg 8 (T_go tN), zzI cy qta 8 (T_ag tN), zzI cy qtr 8 (T_re tN), zzI cy qtm 8 (T_me tN), zzI cy qtt 8 (T_te tN), zzI cy qts 64 (shF (T_kn tN))] ∧ (PXtell tA iA iB iC r tN) ∧ (True))) := by
  refine enW RX5 (by decide +kernel) rfl (Nat.le_of_ble_eq_true rfl) (fun p e s m below meth c ls A hx hb hml hown hts hr hlocks hP hN hl hin hD hA hS => ?_)
  have hin : meth.name = _ := hin
  have hK := hN.1
  replace hl : lv_has ls 5 [(0, .ref qx), (1, .int iA), (2, .int iB), (3, .int iC)] := hl
  refine lv_aload_n hx hb (g_42 bX5_tell rfl) rfl (lv_at hl 0 rfl) ?_
  refine lv_iload_n hx hb (g_27 bX5_tell rfl) rfl (lv_at hl 1 rfl) ?_
  refine lv_iload_n hx hb (g_29 bX5_tell rfl) rfl (lv_at hl 3 rfl) ?_
  refine kRi (rV (As := [.int iA, .int iC]) (rest := []) (b := qx) ⟨hx, hb, hml, hown, hts⟩ (c_X5_isPair l G cy qx qt qk qp qs qa qr iKp iYe iTv tA qtw qtn qtg qta qtr qtm qtt qts iA iC hB hPp) L_X5_210 (preRV (q := (RX5, TX5, 9)) hN hP [0, 2] rfl 0 4 rfl rfl) rfl ⟨Nat.le_of_ble_eq_true rfl, Nat.le_of_ble_eq_true rfl⟩ hl.1 (Nat.le_of_ble_eq_true rfl) (g_182 (v := 210) bX5_tell rfl) ⟨Nat.le_of_ble_eq_true rfl, Nat.le_of_ble_eq_true rfl⟩) (fun r_1 h_2 => ?_)
  rcases h_2 with ⟨rfl, h_3⟩ | ⟨rfl, h_3⟩
  · obtain ⟨⟨k_4, hk_6, rfl⟩, ⟨k_5, hk_7, rfl⟩⟩ := h_3
    refine lv_if_eq (tgt := 25) hx hb dX5_tell_6 (by decide +kernel) (fun h9 => absurd h9 (by decide +kernel)) (fun _ => ?_)
    refine lv_aload_n hx hb (g_42 bX5_tell rfl) rfl (lv_at hl 0 rfl) ?_
    refine va_get (D := G) (ci := 4) (v := .ref qt) (C := RX5) (T := TX5) (N := 9) hx hb hts iX_X5 hown hK hP 0 rfl rfl 0 (by decide +kernel) (hts _ m_t174) (fun _ h9 => h9) rfl (g_180 (v := 10) bX5_tell rfl) ?_
    refine lv_iload_n hx hb (g_28 bX5_tell rfl) rfl (lv_at hl 2 rfl) ?_
    refine kRi (rV (As := [.int iB]) (rest := []) (b := qt) ⟨hx, hb, hml, hown, hts⟩ (c_X4_isOne l G cy qt tA qtw qtn qtg qta qtr qtm qtt qts iB hPp) L_X5_192 (preRV (q := (RX4, TX4, 13)) hN hP [2] rfl 2 3 rfl rfl) rfl ⟨Nat.le_of_ble_eq_true rfl, Nat.le_of_ble_eq_true rfl⟩ hl.1 (Nat.le_of_ble_eq_true rfl) (g_182 (v := 192) bX5_tell rfl) ⟨Nat.le_of_ble_eq_true rfl, Nat.le_of_ble_eq_true rfl⟩) (fun r_9 h_10 => ?_)
    rcases h_10 with ⟨rfl, h_11⟩ | ⟨rfl, h_11⟩
    · obtain ⟨k_12, hk_13, rfl⟩ := h_11
      refine lv_if_eq (tgt := 25) hx hb dX5_tell_17 (by decide +kernel) (fun h9 => absurd h9 (by decide +kernel)) (fun _ => ?_)
      refine lv_iload_n hx hb (g_27 bX5_tell rfl) rfl (lv_at hl 1 rfl) ?_
      refine lv_iload_n hx hb (g_28 bX5_tell rfl) rfl (lv_at hl 2 rfl) ?_
      refine lv_icmp_ne (tgt := 32) hx hb dX5_tell_22 (by decide +kernel) (fun c_15 => ?_) (fun c_15 => ?_)
      · refine lv_aload_n hx hb (g_42 bX5_tell rfl) rfl (lv_at hl 0 rfl) ?_
        refine va_get (D := G) (ci := 4) (v := .ref qt) (C := RX5) (T := TX5) (N := 9) hx hb hts iX_X5 hown hK hP 0 rfl rfl 0 (by decide +kernel) (hts _ m_t174) (fun _ h9 => h9) rfl (g_180 (v := 10) bX5_tell rfl) ?_
        refine va_getN (D := G) (ci := 3) (v := .int (wb (T_gn tA))) (C := RX4) (T := TX4) (N := 13) hx hb hts iX_X4 hown hK hP 2 rfl rfl 3 (by decide +kernel) (va_Nw.use rfl (hN.2.1 (RX5, 207, "EachBookOnce$Town", "gone", "I") (List.mem_of_getElem? (i := 12) rfl))) (fun _ h9 => h9) rfl (g_180 (v := 207) bX5_tell rfl) ?_
        refine lv_iload_n hx hb (g_27 bX5_tell rfl) rfl (lv_at hl 1 rfl) ?_
        refine kRi (rS (As := [.int (wb (T_gn tA)), .int (nI k_4)]) (rest := []) ⟨hx, hb, hml, hown, hts⟩ (c_X5_has l G cy (wb (T_gn tA)) k_4) L_X5_183 (preRS hN hP [] rfl) rfl ⟨Nat.le_of_ble_eq_true rfl, Nat.le_of_ble_eq_true rfl⟩ hl.1 (Nat.le_of_ble_eq_true rfl) (g_184 (v := 183) bX5_tell rfl) ⟨Nat.le_of_ble_eq_true rfl, Nat.le_of_ble_eq_true rfl⟩) (fun r_16 h_17 => ?_)
        rcases h_17 with ⟨rfl, h_18⟩ | ⟨rfl, h_18⟩
        · rw [bit_wb _ (by omega)] at h_18
          refine lv_if_ne (tgt := 60) hx hb dX5_tell_43 (by decide +kernel) (fun _ => ?_) (fun h9 => absurd h9 (by decide +kernel))
          refine lv_aload_n hx hb (g_42 bX5_tell rfl) rfl (lv_at hl 0 rfl) ?_
          refine lv_bipush (v := (-5)) hx hb dX5_tell_61 (by decide +kernel) ?_
          refine cVi (As := [.int (-5)]) (rest := []) (b := qx) (q := (RX5, TX5, 9)) ⟨hx, hb, hml, hown, hts⟩ (c_X5_refuse5 l G cy (s.heap).size qx qt qk qp qs qa qr iKp iYe iTv fR) L_X5_56 hN hP hD hS hA [0, 1] [false, false, true, true, true, true, true, true, true, true, true] rfl (by decide +kernel) rfl 0 4 rfl rfl rfl ⟨Nat.le_of_ble_eq_true rfl, Nat.le_of_ble_eq_true rfl⟩ hl.1 (Nat.le_of_ble_eq_true rfl) (g_182 (v := 56) bX5_tell rfl) ⟨Nat.le_of_ble_eq_true rfl, Nat.le_of_ble_eq_true rfl⟩ (fun r_20 u_22 H locs h_21 => ?_)
          clear hP hD hS
          intro hP hD hS
          obtain ⟨fX_23, hu9, h_21⟩ := h_21
          have hPD := pd_eq [_, _, _, _, _, _, _, _, _, _, zzI cy qr 5 fX_23] hP hD hu9 rfl
          clear hP hD hu9
          obtain ⟨hP, hD⟩ := hPD
          subst h_21
          exact endWs [[false, false, false, false, false, false, false, false, false, true, true], [true, true, true, true, true, true, true, true, true]] hx hb hr hlocks rfl hP hD rfl (by decide +kernel) hS ⟨fX_23, tA, rfl, Or.inr ⟨k_4, k_12, k_5, hk_6, hk_13, hk_7, rfl, rfl, rfl, (fun q => c_15 (congrArg nI q)), Or.inl ⟨rfl, Or.inl h_18, rfl⟩⟩, trivial⟩ (g_172 bX5_tell rfl)
        · rw [bit_wb _ (by omega)] at h_18
          refine lv_if_ne (tgt := 60) hx hb dX5_tell_43 (by decide +kernel) (fun h9 => absurd (by decide +kernel) h9) (fun _ => ?_)
          refine lv_aload_n hx hb (g_42 bX5_tell rfl) rfl (lv_at hl 0 rfl) ?_
          refine va_get (D := G) (ci := 4) (v := .ref qt) (C := RX5) (T := TX5) (N := 9) hx hb hts iX_X5 hown hK hP 0 rfl rfl 0 (by decide +kernel) (hts _ m_t174) (fun _ h9 => h9) rfl (g_180 (v := 10) bX5_tell rfl) ?_
          refine va_getN (D := G) (ci := 3) (v := .int (wb (T_gn tA))) (C := RX4) (T := TX4) (N := 13) hx hb hts iX_X4 hown hK hP 2 rfl rfl 3 (by decide +kernel) (va_Nw.use rfl (hN.2.1 (RX5, 207, "EachBookOnce$Town", "gone", "I") (List.mem_of_getElem? (i := 12) rfl))) (fun _ h9 => h9) rfl (g_180 (v := 207) bX5_tell rfl) ?_
          refine lv_iload_n hx hb (g_28 bX5_tell rfl) rfl (lv_at hl 2 rfl) ?_
          refine kRi (rS (As := [.int (wb (T_gn tA)), .int (nI k_12)]) (rest := []) ⟨hx, hb, hml, hown, hts⟩ (c_X5_has l G cy (wb (T_gn tA)) k_12) L_X5_183 (preRS hN hP [] rfl) rfl ⟨Nat.le_of_ble_eq_true rfl, Nat.le_of_ble_eq_true rfl⟩ hl.1 (Nat.le_of_ble_eq_true rfl) (g_184 (v := 183) bX5_tell rfl) ⟨Nat.le_of_ble_eq_true rfl, Nat.le_of_ble_eq_true rfl⟩) (fun r_25 h_26 => ?_)
          rcases h_26 with ⟨rfl, h_27⟩ | ⟨rfl, h_27⟩
          · rw [bit_wb _ (by omega)] at h_27
            refine lv_if_eq (tgt := 67) hx hb dX5_tell_57 (by decide +kernel) (fun h9 => absurd h9 (by decide +kernel)) (fun _ => ?_)
            refine lv_aload_n hx hb (g_42 bX5_tell rfl) rfl (lv_at hl 0 rfl) ?_
            refine lv_bipush (v := (-5)) hx hb dX5_tell_61 (by decide +kernel) ?_
            refine cVi (As := [.int (-5)]) (rest := []) (b := qx) (q := (RX5, TX5, 9)) ⟨hx, hb, hml, hown, hts⟩ (c_X5_refuse5 l G cy (s.heap).size qx qt qk qp qs qa qr iKp iYe iTv fR) L_X5_56 hN hP hD hS hA [0, 1] [false, false, true, true, true, true, true, true, true, true, true] rfl (by decide +kernel) rfl 0 4 rfl rfl rfl ⟨Nat.le_of_ble_eq_true rfl, Nat.le_of_ble_eq_true rfl⟩ hl.1 (Nat.le_of_ble_eq_true rfl) (g_182 (v := 56) bX5_tell rfl) ⟨Nat.le_of_ble_eq_true rfl, Nat.le_of_ble_eq_true rfl⟩ (fun r_29 u_31 H locs h_30 => ?_)
            clear hP hD hS
            intro hP hD hS
            obtain ⟨fX_32, hu9, h_30⟩ := h_30
            have hPD := pd_eq [_, _, _, _, _, _, _, _, _, _, zzI cy qr 5 fX_32] hP hD hu9 rfl
            clear hP hD hu9
            obtain ⟨hP, hD⟩ := hPD
            subst h_30
            exact endWs [[false, false, false, false, false, false, false, false, false, true, true], [true, true, true, true, true, true, true, true, true]] hx hb hr hlocks rfl hP hD rfl (by decide +kernel) hS ⟨fX_32, tA, rfl, Or.inr ⟨k_4, k_12, k_5, hk_6, hk_13, hk_7, rfl, rfl, rfl, (fun q => c_15 (congrArg nI q)), Or.inl ⟨rfl, Or.inr h_27, rfl⟩⟩, trivial⟩ (g_172 bX5_tell rfl)
          · rw [bit_wb _ (by omega)] at h_27
            refine lv_if_eq (tgt := 67) hx hb dX5_tell_57 (by decide +kernel) (fun _ => ?_) (fun h9 => absurd (by decide +kernel) h9)
            refine lv_aload_n hx hb (g_42 bX5_tell rfl) rfl (lv_at hl 0 rfl) ?_
            refine va_get (D := G) (ci := 4) (v := .ref qt) (C := RX5) (T := TX5) (N := 9) hx hb hts iX_X5 hown hK hP 0 rfl rfl 0 (by decide +kernel) (hts _ m_t174) (fun _ h9 => h9) rfl (g_180 (v := 10) bX5_tell rfl) ?_
            refine lv_iload_n hx hb (g_27 bX5_tell rfl) rfl (lv_at hl 1 rfl) ?_
            refine lv_iload_n hx hb (g_28 bX5_tell rfl) rfl (lv_at hl 2 rfl) ?_
            refine lv_iload_n hx hb (g_29 bX5_tell rfl) rfl (lv_at hl 3 rfl) ?_
            refine kRi (rV (As := [.int (nI k_4), .int (nI k_12), .int (nI k_5)]) (rest := []) (b := qt) ⟨hx, hb, hml, hown, hts⟩ (c_X4_gainByTelling l G cy qt tA qtw qtn qtg qta qtr qtm qtt qts k_4 k_12 k_5 (by first | omega | (simp only [nb_sr, np_sr, nb_wr, np_wr, nb_rd, np_rd, nb_ch, np_ch, nb_zr, np_zr, nb_za, np_za, nb_ey, np_ey, nb_hf, np_hf, nb_dd, np_dd, nb_so, np_so, nb_skn, np_skn, nb_swh, np_swh, nb_sgn, np_sgn, nb_ssd, np_ssd, nb_sgo, np_sgo, nb_sag, np_sag]; omega)) (by first | omega | (simp only [nb_sr, np_sr, nb_wr, np_wr, nb_rd, np_rd, nb_ch, np_ch, nb_zr, np_zr, nb_za, np_za, nb_ey, np_ey, nb_hf, np_hf, nb_dd, np_dd, nb_so, np_so, nb_skn, np_skn, nb_swh, np_swh, nb_sgn, np_sgn, nb_ssd, np_ssd, nb_sgo, np_sgo, nb_sag, np_sag]; omega)) (by first | omega | (simp only [nb_sr, np_sr, nb_wr, np_wr, nb_rd, np_rd, nb_ch, np_ch, nb_zr, np_zr, nb_za, np_za, nb_ey, np_ey, nb_hf, np_hf, nb_dd, np_dd, nb_so, np_so, nb_skn, np_skn, nb_swh, np_swh, nb_sgn, np_sgn, nb_ssd, np_ssd, nb_sgo, np_sgo, nb_sag, np_sag]; omega))) L_X5_238 (preRV (q := (RX4, TX4, 13)) hN hP (trueIx 0 [false, false, true, false, false, false, false, false, false, true, true]) (sel_fm rfl rfl) 2 3 rfl rfl) rfl ⟨Nat.le_of_ble_eq_true rfl, Nat.le_of_ble_eq_true rfl⟩ hl.1 (Nat.le_of_ble_eq_true rfl) (g_182 (v := 238) bX5_tell rfl) ⟨Nat.le_of_ble_eq_true rfl, Nat.le_of_ble_eq_true rfl⟩) (fun r_34 h_35 => ?_)
            subst h_35
            refine lv_istore (lv' := [(4, .int (zgt tA k_4 k_12 k_5)), (0, .ref qx), (1, .int (nI k_4)), (2, .int (nI k_12)), (3, .int (nI k_5))]) hx hb (g_54 (v := 4) bX5_tell rfl) hl (by decide +kernel) rfl (fun ls => ?_)
            clear hl
            intro hl
            refine lv_aload_n hx hb (g_42 bX5_tell rfl) rfl (lv_at hl 1 rfl) ?_
            refine va_get (D := G) (ci := 4) (v := .ref qt) (C := RX5) (T := TX5) (N := 9) hx hb hts iX_X5 hown hK hP 0 rfl rfl 0 (by decide +kernel) (hts _ m_t174) (fun _ h9 => h9) rfl (g_180 (v := 10) bX5_tell rfl) ?_
            refine lv_iload_n hx hb (g_27 bX5_tell rfl) rfl (lv_at hl 2 rfl) ?_
            refine lv_iload_n hx hb (g_28 bX5_tell rfl) rfl (lv_at hl 3 rfl) ?_
            refine lv_iload_n hx hb (g_29 bX5_tell rfl) rfl (lv_at hl 4 rfl) ?_
            refine cVv (As := [.int (nI k_4), .int (nI k_12), .int (nI k_5)]) (rest := []) (b := qt) (q := (RX4, TX4, 13)) ⟨hx, hb, hml, hown, hts⟩ (c_X4_tellTo l G cy (s.heap).size qt tA qtw qtn qtg qta qtr qtm qtt qts k_4 k_12 k_5 (by first | omega | (simp only [nb_sr, np_sr, nb_wr, np_wr, nb_rd, np_rd, nb_ch, np_ch, nb_zr, np_zr, nb_za, np_za, nb_ey, np_ey, nb_hf, np_hf, nb_dd, np_dd, nb_so, np_so, nb_skn, np_skn, nb_swh, np_swh, nb_sgn, np_sgn, nb_ssd, np_ssd, nb_sgo, np_sgo, nb_sag, np_sag]; omega)) (by first | omega | (simp only [nb_sr, np_sr, nb_wr, np_wr, nb_rd, np_rd, nb_ch, np_ch, nb_zr, np_zr, nb_za, np_za, nb_ey, np_ey, nb_hf, np_hf, nb_dd, np_dd, nb_so, np_so, nb_skn, np_skn, nb_swh, np_swh, nb_sgn, np_sgn, nb_ssd, np_ssd, nb_sgo, np_sgo, nb_sag, np_sag]; omega)) (by first | omega | (simp only [nb_sr, np_sr, nb_wr, np_wr, nb_rd, np_rd, nb_ch, np_ch, nb_zr, np_zr, nb_za, np_za, nb_ey, np_ey, nb_hf, np_hf, nb_dd, np_dd, nb_so, np_so, nb_skn, np_skn, nb_swh, np_swh, nb_sgn, np_sgn, nb_ssd, np_ssd, nb_sgo, np_sgo, nb_sag, np_sag]; omega))) L_X5_241 hN hP hD hS hA (trueIx 0 [false, false, true, false, false, false, false, false, false, true, true]) [true, true, false, true, true, true, true, true, true, false, false] (sel_eq rfl rfl) (by decide +kernel) rfl 2 3 rfl rfl rfl ⟨Nat.le_of_ble_eq_true rfl, Nat.le_of_ble_eq_true rfl⟩ hl.1 (Nat.le_of_ble_eq_true rfl) (g_182 (v := 241) bX5_tell rfl) ⟨Nat.le_of_ble_eq_true rfl, Nat.le_of_ble_eq_true rfl⟩ (fun u_38 H locs h_37 => ?_)
            clear hP hD hS
            intro hP hD hS
            have hPD := pd_eq [_, _, zzI cy qtw 8 (T_wo (T_setkn tA (updM (T_kn tA) k_12 k_5 (T_kn tA k_12 k_5 + zgt tA k_4 k_12 k_5)))), zzI cy qtn 8 (T_ne (T_setkn tA (updM (T_kn tA) k_12 k_5 (T_kn tA k_12 k_5 + zgt tA k_4 k_12 k_5)))), zzI cy qtg 8 (T_go (T_setkn tA (updM (T_kn tA) k_12 k_5 (T_kn tA k_12 k_5 + zgt tA k_4 k_12 k_5)))), zzI cy qta 8 (T_ag (T_setkn tA (updM (T_kn tA) k_12 k_5 (T_kn tA k_12 k_5 + zgt tA k_4 k_12 k_5)))), zzI cy qtr 8 (T_re (T_setkn tA (updM (T_kn tA) k_12 k_5 (T_kn tA k_12 k_5 + zgt tA k_4 k_12 k_5)))), zzI cy qtm 8 (T_me (T_setkn tA (updM (T_kn tA) k_12 k_5 (T_kn tA k_12 k_5 + zgt tA k_4 k_12 k_5)))), zzO qt 3 [.int (nI (T_nb (T_setkn tA (updM (T_kn tA) k_12 k_5 (T_kn tA k_12 k_5 + zgt tA k_4 k_12 k_5))))), .int (nI (T_np (T_setkn tA (updM (T_kn tA) k_12 k_5 (T_kn tA k_12 k_5 + zgt tA k_4 k_12 k_5))))), .int (wb (T_wh (T_setkn tA (updM (T_kn tA) k_12 k_5 (T_kn tA k_12 k_5 + zgt tA k_4 k_12 k_5))))), .int (wb (T_gn (T_setkn tA (updM (T_kn tA) k_12 k_5 (T_kn tA k_12 k_5 + zgt tA k_4 k_12 k_5))))), .int (T_sd (T_setkn tA (updM (T_kn tA) k_12 k_5 (T_kn tA k_12 k_5 + zgt tA k_4 k_12 k_5)))), .ref qtw, .ref qtn, .ref qtg, .ref qta, .ref qtr, .ref qtm, .ref qtt, .ref qts], zzI cy qtt 8 (T_te (T_setkn tA (updM (T_kn tA) k_12 k_5 (T_kn tA k_12 k_5 + zgt tA k_4 k_12 k_5)))), zzI cy qts 64 (shF (T_kn (T_setkn tA (updM (T_kn tA) k_12 k_5 (T_kn tA k_12 k_5 + zgt tA k_4 k_12 k_5)))))] hP hD h_37 rfl
            clear hP hD h_37
            obtain ⟨hP, hD⟩ := hPD
            refine lv_iload hx hb (g_21 (v := 4) bX5_tell rfl) (lv_at hl 0 rfl) ?_
            exact endWs [[true, true, false, false, false, false, false, false, true], [false, false, true, true, true, true, true, true, false, true, true]] hx hb hr hlocks rfl hP hD rfl (by decide +kernel) hS ⟨fR, (T_setkn tA (updM (T_kn tA) k_12 k_5 (T_kn tA k_12 k_5 + zgt tA k_4 k_12 k_5))), rfl, Or.inr ⟨k_4, k_12, k_5, hk_6, hk_13, hk_7, rfl, rfl, rfl, (fun q => c_15 (congrArg nI q)), Or.inr ⟨rfl, h_18, h_27, rfl⟩⟩, trivial⟩ (g_172 bX5_tell rfl)
      · refine lv_aload_n hx hb (g_42 bX5_tell rfl) rfl (lv_at hl 0 rfl) ?_
        refine lv_bipush (v := (-2)) hx hb dX5_tell_26 (by decide +kernel) ?_
        refine cVi (As := [.int (-2)]) (rest := []) (b := qx) (q := (RX5, TX5, 9)) ⟨hx, hb, hml, hown, hts⟩ (c_X5_refuse2 l G cy (s.heap).size qx qt qk qp qs qa qr iKp iYe iTv fR) L_X5_56 hN hP hD hS hA [0, 1] [false, false, true, true, true, true, true, true, true, true, true] rfl (by decide +kernel) rfl 0 4 rfl rfl rfl ⟨Nat.le_of_ble_eq_true rfl, Nat.le_of_ble_eq_true rfl⟩ hl.1 (Nat.le_of_ble_eq_true rfl) (g_182 (v := 56) bX5_tell rfl) ⟨Nat.le_of_ble_eq_true rfl, Nat.le_of_ble_eq_true rfl⟩ (fun r_39 u_41 H locs h_40 => ?_)
        clear hP hD hS
        intro hP hD hS
        obtain ⟨fX_42, hu9, h_40⟩ := h_40
        have hPD := pd_eq [_, _, _, _, _, _, _, _, _, _, zzI cy qr 5 fX_42] hP hD hu9 rfl
        clear hP hD hu9
        obtain ⟨hP, hD⟩ := hPD
        subst h_40
        exact endWs [[false, false, false, false, false, false, false, false, false, true, true], [true, true, true, true, true, true, true, true, true]] hx hb hr hlocks rfl hP hD rfl (by decide +kernel) hS ⟨fX_42, tA, rfl, Or.inl ⟨rfl, fun q => q.2.2 c_15, rfl⟩, trivial⟩ (g_172 bX5_tell rfl)
    · refine lv_if_eq (tgt := 25) hx hb dX5_tell_17 (by decide +kernel) (fun _ => ?_) (fun h9 => absurd (by decide +kernel) h9)
      refine lv_aload_n hx hb (g_42 bX5_tell rfl) rfl (lv_at hl 0 rfl) ?_
      refine lv_bipush (v := (-2)) hx hb dX5_tell_26 (by decide +kernel) ?_
      refine cVi (As := [.int (-2)]) (rest := []) (b := qx) (q := (RX5, TX5, 9)) ⟨hx, hb, hml, hown, hts⟩ (c_X5_refuse2 l G cy (s.heap).size qx qt qk qp qs qa qr iKp iYe iTv fR) L_X5_56 hN hP hD hS hA [0, 1] [false, false, true, true, true, true, true, true, true, true, true] rfl (by decide +kernel) rfl 0 4 rfl rfl rfl ⟨Nat.le_of_ble_eq_true rfl, Nat.le_of_ble_eq_true rfl⟩ hl.1 (Nat.le_of_ble_eq_true rfl) (g_182 (v := 56) bX5_tell rfl) ⟨Nat.le_of_ble_eq_true rfl, Nat.le_of_ble_eq_true rfl⟩ (fun r_44 u_46 H locs h_45 => ?_)
      clear hP hD hS
      intro hP hD hS
      obtain ⟨fX_47, hu9, h_45⟩ := h_45
      have hPD := pd_eq [_, _, _, _, _, _, _, _, _, _, zzI cy qr 5 fX_47] hP hD hu9 rfl
      clear hP hD hu9
      obtain ⟨hP, hD⟩ := hPD
      subst h_45
      exact endWs [[false, false, false, false, false, false, false, false, false, true, true], [true, true, true, true, true, true, true, true, true]] hx hb hr hlocks rfl hP hD rfl (by decide +kernel) hS ⟨fX_47, tA, rfl, Or.inl ⟨rfl, fun q => h_11 q.2.1, rfl⟩, trivial⟩ (g_172 bX5_tell rfl)
  · refine lv_if_eq (tgt := 25) hx hb dX5_tell_6 (by decide +kernel) (fun _ => ?_) (fun h9 => absurd (by decide +kernel) h9)
    refine lv_aload_n hx hb (g_42 bX5_tell rfl) rfl (lv_at hl 0 rfl) ?_
    refine lv_bipush (v := (-2)) hx hb dX5_tell_26 (by decide +kernel) ?_
    refine cVi (As := [.int (-2)]) (rest := []) (b := qx) (q := (RX5, TX5, 9)) ⟨hx, hb, hml, hown, hts⟩ (c_X5_refuse2 l G cy (s.heap).size qx qt qk qp qs qa qr iKp iYe iTv fR) L_X5_56 hN hP hD hS hA [0, 1] [false, false, true, true, true, true, true, true, true, true, true] rfl (by decide +kernel) rfl 0 4 rfl rfl rfl ⟨Nat.le_of_ble_eq_true rfl, Nat.le_of_ble_eq_true rfl⟩ hl.1 (Nat.le_of_ble_eq_true rfl) (g_182 (v := 56) bX5_tell rfl) ⟨Nat.le_of_ble_eq_true rfl, Nat.le_of_ble_eq_true rfl⟩ (fun r_49 u_51 H locs h_50 => ?_)
    clear hP hD hS
    intro hP hD hS
    obtain ⟨fX_52, hu9, h_50⟩ := h_50
    have hPD := pd_eq [_, _, _, _, _, _, _, _, _, _, zzI cy qr 5 fX_52] hP hD hu9 rfl
    clear hP hD hu9
    obtain ⟨hP, hD⟩ := hPD
    subst h_50
    exact endWs [[false, false, false, false, false, false, false, false, false, true, true], [true, true, true, true, true, true, true, true, true]] hx hb hr hlocks rfl hP hD rfl (by decide +kernel) hS ⟨fX_52, tA, rfl, Or.inl ⟨rfl, fun q => h_3 q.1, rfl⟩, trivial⟩ (g_172 bX5_tell rfl)
set_option maxHeartbeats 4000000 in
set_option maxRecDepth 100000 in
theorem p_X5_write (l : Launch) (G : va_G) (cy : Nat → ClassId) (sz : Nat) (qx : Nat) (qt : Nat) (qk : Nat) (qp : Nat) (qs : Nat) (qa : Nat) (qr : Nat) (iKp : Int32) (iYe : Int32) (iTv : Int32) (fR : Nat → Int32) (tA : TA) (qtw : Nat) (qtn : Nat) (qtg : Nat) (qta : Nat) (qtr : Nat) (qtm : Nat) (qtt : Nat) (qts : Nat) (iA : Int32) (iB : Int32)  (hB : T_nb tA ≤ 8) (hPp : T_np tA ≤ 8) : MW l yX5_write cX5_write 3 (some .int) 12 0 0 G cy [zzO qx 4 [.ref qt, .ref qk, .ref qp, .ref qs, .ref qa, .ref qr, .int iKp, .int iYe, .int iTv], zzI cy qr 5 fR, zzO qt 3 [.int (nI (T_nb tA)), .int (nI (T_np tA)), .int (wb (T_wh tA)), .int (wb (T_gn tA)), .int (T_sd tA), .ref qtw, .ref qtn, .ref qtg, .ref qta, .ref qtr, .ref qtm, .ref qtt, .ref qts], zzI cy qtw 8 (T_wo tA), zzI cy qtn 8 (T_ne tA), zzI cy qtg 8 (T_go tA), zzI cy qta 8 (T_ag tA), zzI cy qtr 8 (T_re tA), zzI cy qtm 8 (T_me tA), zzI cy qtt 8 (T_te tA), zzI cy qts 64 (shF (T_kn tA))] sz [.ref qx, .int iA, .int iB] (Wi G (fun r u => ∃ (fX : Nat → Int32) (tN : TA), u = [zzO qx 4 [.ref qt, .ref qk, .ref qp, .ref qs, .ref qa, .ref qr, .int iKp, .int iYe, .int iTv], zzI cy qr 5 fX, zzO qt 3 [.int (nI (T_nb tN)), .int (nI (T_np tN)), .int (wb (T_wh tN)), .int (wb (T_gn tN)), .int (T_sd tN), .ref qtw, .ref qtn, .ref qtg, .ref qta, .ref qtr, .ref qtm, .ref qtt, .ref qts], zzI cy qtw 8 (T_wo tN), zzI cy qtn 8 (T_ne tN), zzI cy qtg 8 (T_go tN), zzI cy qta 8 (T_ag tN), zzI cy qtr 8 (T_re tN), zzI cy qtm 8 (T_me tN), zzI cy qtt 8 (T_te tN), zzI cy qts 64 (shF (T_kn tN))] ∧ (PXwrite tA iA iB r tN) ∧ (True))) := by
  refine enW RX5 (by decide +kernel) rfl (Nat.le_of_ble_eq_true rfl) (fun p e s m below meth c ls A hx hb hml hown hts hr hlocks hP hN hl hin hD hA hS => ?_)
  have hin : meth.name = _ := hin
  have hK := hN.1
  replace hl : lv_has ls 3 [(0, .ref qx), (1, .int iA), (2, .int iB)] := hl
  refine lv_aload_n hx hb (g_42 bX5_write rfl) rfl (lv_at hl 0 rfl) ?_
  refine lv_iload_n hx hb (g_27 bX5_write rfl) rfl (lv_at hl 1 rfl) ?_
  refine lv_iload_n hx hb (g_28 bX5_write rfl) rfl (lv_at hl 2 rfl) ?_
  refine kRi (rV (As := [.int iA, .int iB]) (rest := []) (b := qx) ⟨hx, hb, hml, hown, hts⟩ (c_X5_isPair l G cy qx qt qk qp qs qa qr iKp iYe iTv tA qtw qtn qtg qta qtr qtm qtt qts iA iB hB hPp) L_X5_210 (preRV (q := (RX5, TX5, 9)) hN hP [0, 2] rfl 0 4 rfl rfl) rfl ⟨Nat.le_of_ble_eq_true rfl, Nat.le_of_ble_eq_true rfl⟩ hl.1 (Nat.le_of_ble_eq_true rfl) (g_182 (v := 210) bX5_write rfl) ⟨Nat.le_of_ble_eq_true rfl, Nat.le_of_ble_eq_true rfl⟩) (fun r_1 h_2 => ?_)
  rcases h_2 with ⟨rfl, h_3⟩ | ⟨rfl, h_3⟩
  · obtain ⟨⟨k_4, hk_6, rfl⟩, ⟨k_5, hk_7, rfl⟩⟩ := h_3
    refine lv_if_ne (tgt := 16) hx hb dX5_write_6 (by decide +kernel) (fun _ => ?_) (fun h9 => absurd h9 (by decide +kernel))
    refine lv_aload_n hx hb (g_42 bX5_write rfl) rfl (lv_at hl 0 rfl) ?_
    refine va_get (D := G) (ci := 4) (v := .ref qt) (C := RX5) (T := TX5) (N := 9) hx hb hts iX_X5 hown hK hP 0 rfl rfl 0 (by decide +kernel) (hts _ m_t174) (fun _ h9 => h9) rfl (g_180 (v := 10) bX5_write rfl) ?_
    refine va_getN (D := G) (ci := 3) (v := .int (wb (T_wh tA))) (C := RX4) (T := TX4) (N := 13) hx hb hts iX_X4 hown hK hP 2 rfl rfl 2 (by decide +kernel) (va_Nw.use rfl (hN.2.1 (RX5, 180, "EachBookOnce$Town", "white", "I") (List.mem_of_getElem? (i := 10) rfl))) (fun _ h9 => h9) rfl (g_180 (v := 180) bX5_write rfl) ?_
    refine lv_iload_n hx hb (g_28 bX5_write rfl) rfl (lv_at hl 2 rfl) ?_
    refine kRi (rS (As := [.int (wb (T_wh tA)), .int (nI k_5)]) (rest := []) ⟨hx, hb, hml, hown, hts⟩ (c_X5_has l G cy (wb (T_wh tA)) k_5) L_X5_183 (preRS hN hP [] rfl) rfl ⟨Nat.le_of_ble_eq_true rfl, Nat.le_of_ble_eq_true rfl⟩ hl.1 (Nat.le_of_ble_eq_true rfl) (g_184 (v := 183) bX5_write rfl) ⟨Nat.le_of_ble_eq_true rfl, Nat.le_of_ble_eq_true rfl⟩) (fun r_9 h_10 => ?_)
    rcases h_10 with ⟨rfl, h_11⟩ | ⟨rfl, h_11⟩
    · rw [bit_wb _ (by omega)] at h_11
      refine lv_if_eq (tgt := 57) hx hb dX5_write_27 (by decide +kernel) (fun h9 => absurd h9 (by decide +kernel)) (fun _ => ?_)
      refine lv_aload_n hx hb (g_42 bX5_write rfl) rfl (lv_at hl 0 rfl) ?_
      refine va_get (D := G) (ci := 4) (v := .ref qt) (C := RX5) (T := TX5) (N := 9) hx hb hts iX_X5 hown hK hP 0 rfl rfl 0 (by decide +kernel) (hts _ m_t174) (fun _ h9 => h9) rfl (g_180 (v := 10) bX5_write rfl) ?_
      refine va_getN (D := G) (ci := 3) (v := .int (wb (T_gn tA))) (C := RX4) (T := TX4) (N := 13) hx hb hts iX_X4 hown hK hP 2 rfl rfl 3 (by decide +kernel) (va_Nw.use rfl (hN.2.1 (RX5, 207, "EachBookOnce$Town", "gone", "I") (List.mem_of_getElem? (i := 12) rfl))) (fun _ h9 => h9) rfl (g_180 (v := 207) bX5_write rfl) ?_
      refine lv_iload_n hx hb (g_27 bX5_write rfl) rfl (lv_at hl 1 rfl) ?_
      refine kRi (rS (As := [.int (wb (T_gn tA)), .int (nI k_4)]) (rest := []) ⟨hx, hb, hml, hown, hts⟩ (c_X5_has l G cy (wb (T_gn tA)) k_4) L_X5_183 (preRS hN hP [] rfl) rfl ⟨Nat.le_of_ble_eq_true rfl, Nat.le_of_ble_eq_true rfl⟩ hl.1 (Nat.le_of_ble_eq_true rfl) (g_184 (v := 183) bX5_write rfl) ⟨Nat.le_of_ble_eq_true rfl, Nat.le_of_ble_eq_true rfl⟩) (fun r_13 h_14 => ?_)
      rcases h_14 with ⟨rfl, h_15⟩ | ⟨rfl, h_15⟩
      · rw [bit_wb _ (by omega)] at h_15
        refine lv_if_ne (tgt := 57) hx hb dX5_write_41 (by decide +kernel) (fun _ => ?_) (fun h9 => absurd h9 (by decide +kernel))
        refine lv_aload_n hx hb (g_42 bX5_write rfl) rfl (lv_at hl 0 rfl) ?_
        refine lv_bipush (v := (-5)) hx hb dX5_write_58 (by decide +kernel) ?_
        refine cVi (As := [.int (-5)]) (rest := []) (b := qx) (q := (RX5, TX5, 9)) ⟨hx, hb, hml, hown, hts⟩ (c_X5_refuse5 l G cy (s.heap).size qx qt qk qp qs qa qr iKp iYe iTv fR) L_X5_56 hN hP hD hS hA [0, 1] [false, false, true, true, true, true, true, true, true, true, true] rfl (by decide +kernel) rfl 0 4 rfl rfl rfl ⟨Nat.le_of_ble_eq_true rfl, Nat.le_of_ble_eq_true rfl⟩ hl.1 (Nat.le_of_ble_eq_true rfl) (g_182 (v := 56) bX5_write rfl) ⟨Nat.le_of_ble_eq_true rfl, Nat.le_of_ble_eq_true rfl⟩ (fun r_17 u_19 H locs h_18 => ?_)
        clear hP hD hS
        intro hP hD hS
        obtain ⟨fX_20, hu9, h_18⟩ := h_18
        have hPD := pd_eq [_, _, _, _, _, _, _, _, _, _, zzI cy qr 5 fX_20] hP hD hu9 rfl
        clear hP hD hu9
        obtain ⟨hP, hD⟩ := hPD
        subst h_18
        exact endWs [[false, false, false, false, false, false, false, false, false, true, true], [true, true, true, true, true, true, true, true, true]] hx hb hr hlocks rfl hP hD rfl (by decide +kernel) hS ⟨fX_20, tA, rfl, Or.inr ⟨k_4, k_5, hk_6, hk_7, rfl, rfl, Or.inl ⟨rfl, Or.inr (Or.inl h_15), rfl⟩⟩, trivial⟩ (g_172 bX5_write rfl)
      · rw [bit_wb _ (by omega)] at h_15
        refine lv_if_ne (tgt := 57) hx hb dX5_write_41 (by decide +kernel) (fun h9 => absurd (by decide +kernel) h9) (fun _ => ?_)
        refine lv_aload_n hx hb (g_42 bX5_write rfl) rfl (lv_at hl 0 rfl) ?_
        refine va_get (D := G) (ci := 4) (v := .ref qt) (C := RX5) (T := TX5) (N := 9) hx hb hts iX_X5 hown hK hP 0 rfl rfl 0 (by decide +kernel) (hts _ m_t174) (fun _ h9 => h9) rfl (g_180 (v := 10) bX5_write rfl) ?_
        refine lv_iload_n hx hb (g_27 bX5_write rfl) rfl (lv_at hl 1 rfl) ?_
        refine lv_iload_n hx hb (g_28 bX5_write rfl) rfl (lv_at hl 2 rfl) ?_
        refine kRi (rV (As := [.int (nI k_4), .int (nI k_5)]) (rest := []) (b := qt) ⟨hx, hb, hml, hown, hts⟩ (c_X4_knows l G cy qt tA qtw qtn qtg qta qtr qtm qtt qts k_4 k_5 (by first | omega | (simp only [nb_sr, np_sr, nb_wr, np_wr, nb_rd, np_rd, nb_ch, np_ch, nb_zr, np_zr, nb_za, np_za, nb_ey, np_ey, nb_hf, np_hf, nb_dd, np_dd, nb_so, np_so, nb_skn, np_skn, nb_swh, np_swh, nb_sgn, np_sgn, nb_ssd, np_ssd, nb_sgo, np_sgo, nb_sag, np_sag]; omega)) (by first | omega | (simp only [nb_sr, np_sr, nb_wr, np_wr, nb_rd, np_rd, nb_ch, np_ch, nb_zr, np_zr, nb_za, np_za, nb_ey, np_ey, nb_hf, np_hf, nb_dd, np_dd, nb_so, np_so, nb_skn, np_skn, nb_swh, np_swh, nb_sgn, np_sgn, nb_ssd, np_ssd, nb_sgo, np_sgo, nb_sag, np_sag]; omega))) L_X5_213 (preRV (q := (RX4, TX4, 13)) hN hP [2, 10] rfl 2 3 rfl rfl) rfl ⟨Nat.le_of_ble_eq_true rfl, Nat.le_of_ble_eq_true rfl⟩ hl.1 (Nat.le_of_ble_eq_true rfl) (g_182 (v := 213) bX5_write rfl) ⟨Nat.le_of_ble_eq_true rfl, Nat.le_of_ble_eq_true rfl⟩) (fun r_22 h_23 => ?_)
        subst h_23
        refine lv_iconst (v := 1) hx hb (g_4 bX5_write rfl) (by decide +kernel) ?_
        refine lv_icmp_ge (tgt := 64) hx hb dX5_write_54 (by decide +kernel) (fun c_24 => ?_) (fun c_24 => ?_)
        · refine lv_aload_n hx hb (g_42 bX5_write rfl) rfl (lv_at hl 0 rfl) ?_
          refine va_get (D := G) (ci := 4) (v := .ref qt) (C := RX5) (T := TX5) (N := 9) hx hb hts iX_X5 hown hK hP 0 rfl rfl 0 (by decide +kernel) (hts _ m_t174) (fun _ h9 => h9) rfl (g_180 (v := 10) bX5_write rfl) ?_
          refine lv_iload_n hx hb (g_27 bX5_write rfl) rfl (lv_at hl 1 rfl) ?_
          refine lv_iload_n hx hb (g_28 bX5_write rfl) rfl (lv_at hl 2 rfl) ?_
          refine cVi (As := [.int (nI k_4), .int (nI k_5)]) (rest := []) (b := qt) (q := (RX4, TX4, 13)) ⟨hx, hb, hml, hown, hts⟩ (c_X4_writeBy l G cy (s.heap).size qt tA qtw qtn qtg qta qtr qtm qtt qts k_4 k_5 (by first | omega | (simp only [nb_sr, np_sr, nb_wr, np_wr, nb_rd, np_rd, nb_ch, np_ch, nb_zr, np_zr, nb_za, np_za, nb_ey, np_ey, nb_hf, np_hf, nb_dd, np_dd, nb_so, np_so, nb_skn, np_skn, nb_swh, np_swh, nb_sgn, np_sgn, nb_ssd, np_ssd, nb_sgo, np_sgo, nb_sag, np_sag]; omega)) (by first | omega | (simp only [nb_sr, np_sr, nb_wr, np_wr, nb_rd, np_rd, nb_ch, np_ch, nb_zr, np_zr, nb_za, np_za, nb_ey, np_ey, nb_hf, np_hf, nb_dd, np_dd, nb_so, np_so, nb_skn, np_skn, nb_swh, np_swh, nb_sgn, np_sgn, nb_ssd, np_ssd, nb_sgo, np_sgo, nb_sag, np_sag]; omega))) L_X5_244 hN hP hD hS hA (trueIx 0 [false, false, true, true, true, true, true, true, true, true, true]) [true, true, false, false, false, false, false, false, false, false, false] (sel_eq rfl rfl) (by decide +kernel) rfl 2 3 rfl rfl rfl ⟨Nat.le_of_ble_eq_true rfl, Nat.le_of_ble_eq_true rfl⟩ hl.1 (Nat.le_of_ble_eq_true rfl) (g_182 (v := 244) bX5_write rfl) ⟨Nat.le_of_ble_eq_true rfl, Nat.le_of_ble_eq_true rfl⟩ (fun r_25 u_27 H locs h_26 => ?_)
          clear hP hD hS
          intro hP hD hS
          obtain ⟨hu9, h_26⟩ := h_26
          have hPD := pd_eq [_, _, zzO qt 3 [.int (nI (T_nb (T_setgo (T_setwh tA (updB (T_wh tA) k_5 false)) (upd (T_go tA) k_5 (T_kn tA k_4 k_5))))), .int (nI (T_np (T_setgo (T_setwh tA (updB (T_wh tA) k_5 false)) (upd (T_go tA) k_5 (T_kn tA k_4 k_5))))), .int (wb (T_wh (T_setgo (T_setwh tA (updB (T_wh tA) k_5 false)) (upd (T_go tA) k_5 (T_kn tA k_4 k_5))))), .int (wb (T_gn (T_setgo (T_setwh tA (updB (T_wh tA) k_5 false)) (upd (T_go tA) k_5 (T_kn tA k_4 k_5))))), .int (T_sd (T_setgo (T_setwh tA (updB (T_wh tA) k_5 false)) (upd (T_go tA) k_5 (T_kn tA k_4 k_5)))), .ref qtw, .ref qtn, .ref qtg, .ref qta, .ref qtr, .ref qtm, .ref qtt, .ref qts], zzI cy qtw 8 (T_wo (T_setgo (T_setwh tA (updB (T_wh tA) k_5 false)) (upd (T_go tA) k_5 (T_kn tA k_4 k_5)))), zzI cy qtn 8 (T_ne (T_setgo (T_setwh tA (updB (T_wh tA) k_5 false)) (upd (T_go tA) k_5 (T_kn tA k_4 k_5)))), zzI cy qtg 8 (T_go (T_setgo (T_setwh tA (updB (T_wh tA) k_5 false)) (upd (T_go tA) k_5 (T_kn tA k_4 k_5)))), zzI cy qta 8 (T_ag (T_setgo (T_setwh tA (updB (T_wh tA) k_5 false)) (upd (T_go tA) k_5 (T_kn tA k_4 k_5)))), zzI cy qtr 8 (T_re (T_setgo (T_setwh tA (updB (T_wh tA) k_5 false)) (upd (T_go tA) k_5 (T_kn tA k_4 k_5)))), zzI cy qtm 8 (T_me (T_setgo (T_setwh tA (updB (T_wh tA) k_5 false)) (upd (T_go tA) k_5 (T_kn tA k_4 k_5)))), zzI cy qtt 8 (T_te (T_setgo (T_setwh tA (updB (T_wh tA) k_5 false)) (upd (T_go tA) k_5 (T_kn tA k_4 k_5)))), zzI cy qts 64 (shF (T_kn (T_setgo (T_setwh tA (updB (T_wh tA) k_5 false)) (upd (T_go tA) k_5 (T_kn tA k_4 k_5)))))] hP hD hu9 rfl
          clear hP hD hu9
          obtain ⟨hP, hD⟩ := hPD
          subst h_26
          exact endWs [[true, true, true, true, true, true, true, true, true, true, true]] hx hb hr hlocks rfl hP hD rfl (by decide +kernel) hS ⟨fR, (T_setgo (T_setwh tA (updB (T_wh tA) k_5 false)) (upd (T_go tA) k_5 (T_kn tA k_4 k_5))), rfl, Or.inr ⟨k_4, k_5, hk_6, hk_7, rfl, rfl, Or.inr ⟨rfl, h_11, h_15, Int32.not_lt.mpr c_24, rfl⟩⟩, trivial⟩ (g_172 bX5_write rfl)
        · refine lv_aload_n hx hb (g_42 bX5_write rfl) rfl (lv_at hl 0 rfl) ?_
          refine lv_bipush (v := (-5)) hx hb dX5_write_58 (by decide +kernel) ?_
          refine cVi (As := [.int (-5)]) (rest := []) (b := qx) (q := (RX5, TX5, 9)) ⟨hx, hb, hml, hown, hts⟩ (c_X5_refuse5 l G cy (s.heap).size qx qt qk qp qs qa qr iKp iYe iTv fR) L_X5_56 hN hP hD hS hA [0, 1] [false, false, true, true, true, true, true, true, true, true, true] rfl (by decide +kernel) rfl 0 4 rfl rfl rfl ⟨Nat.le_of_ble_eq_true rfl, Nat.le_of_ble_eq_true rfl⟩ hl.1 (Nat.le_of_ble_eq_true rfl) (g_182 (v := 56) bX5_write rfl) ⟨Nat.le_of_ble_eq_true rfl, Nat.le_of_ble_eq_true rfl⟩ (fun r_28 u_30 H locs h_29 => ?_)
          clear hP hD hS
          intro hP hD hS
          obtain ⟨fX_31, hu9, h_29⟩ := h_29
          have hPD := pd_eq [_, _, _, _, _, _, _, _, _, _, zzI cy qr 5 fX_31] hP hD hu9 rfl
          clear hP hD hu9
          obtain ⟨hP, hD⟩ := hPD
          subst h_29
          exact endWs [[false, false, false, false, false, false, false, false, false, true, true], [true, true, true, true, true, true, true, true, true]] hx hb hr hlocks rfl hP hD rfl (by decide +kernel) hS ⟨fX_31, tA, rfl, Or.inr ⟨k_4, k_5, hk_6, hk_7, rfl, rfl, Or.inl ⟨rfl, Or.inr (Or.inr (Int32.not_le.mp c_24)), rfl⟩⟩, trivial⟩ (g_172 bX5_write rfl)
    · rw [bit_wb _ (by omega)] at h_11
      refine lv_if_eq (tgt := 57) hx hb dX5_write_27 (by decide +kernel) (fun _ => ?_) (fun h9 => absurd (by decide +kernel) h9)
      refine lv_aload_n hx hb (g_42 bX5_write rfl) rfl (lv_at hl 0 rfl) ?_
      refine lv_bipush (v := (-5)) hx hb dX5_write_58 (by decide +kernel) ?_
      refine cVi (As := [.int (-5)]) (rest := []) (b := qx) (q := (RX5, TX5, 9)) ⟨hx, hb, hml, hown, hts⟩ (c_X5_refuse5 l G cy (s.heap).size qx qt qk qp qs qa qr iKp iYe iTv fR) L_X5_56 hN hP hD hS hA [0, 1] [false, false, true, true, true, true, true, true, true, true, true] rfl (by decide +kernel) rfl 0 4 rfl rfl rfl ⟨Nat.le_of_ble_eq_true rfl, Nat.le_of_ble_eq_true rfl⟩ hl.1 (Nat.le_of_ble_eq_true rfl) (g_182 (v := 56) bX5_write rfl) ⟨Nat.le_of_ble_eq_true rfl, Nat.le_of_ble_eq_true rfl⟩ (fun r_33 u_35 H locs h_34 => ?_)
      clear hP hD hS
      intro hP hD hS
      obtain ⟨fX_36, hu9, h_34⟩ := h_34
      have hPD := pd_eq [_, _, _, _, _, _, _, _, _, _, zzI cy qr 5 fX_36] hP hD hu9 rfl
      clear hP hD hu9
      obtain ⟨hP, hD⟩ := hPD
      subst h_34
      exact endWs [[false, false, false, false, false, false, false, false, false, true, true], [true, true, true, true, true, true, true, true, true]] hx hb hr hlocks rfl hP hD rfl (by decide +kernel) hS ⟨fX_36, tA, rfl, Or.inr ⟨k_4, k_5, hk_6, hk_7, rfl, rfl, Or.inl ⟨rfl, Or.inl h_11, rfl⟩⟩, trivial⟩ (g_172 bX5_write rfl)
  · refine lv_if_ne (tgt := 16) hx hb dX5_write_6 (by decide +kernel) (fun h9 => absurd (by decide +kernel) h9) (fun _ => ?_)
    refine lv_aload_n hx hb (g_42 bX5_write rfl) rfl (lv_at hl 0 rfl) ?_
    refine lv_bipush (v := (-2)) hx hb dX5_write_10 (by decide +kernel) ?_
    refine cVi (As := [.int (-2)]) (rest := []) (b := qx) (q := (RX5, TX5, 9)) ⟨hx, hb, hml, hown, hts⟩ (c_X5_refuse2 l G cy (s.heap).size qx qt qk qp qs qa qr iKp iYe iTv fR) L_X5_56 hN hP hD hS hA [0, 1] [false, false, true, true, true, true, true, true, true, true, true] rfl (by decide +kernel) rfl 0 4 rfl rfl rfl ⟨Nat.le_of_ble_eq_true rfl, Nat.le_of_ble_eq_true rfl⟩ hl.1 (Nat.le_of_ble_eq_true rfl) (g_182 (v := 56) bX5_write rfl) ⟨Nat.le_of_ble_eq_true rfl, Nat.le_of_ble_eq_true rfl⟩ (fun r_38 u_40 H locs h_39 => ?_)
    clear hP hD hS
    intro hP hD hS
    obtain ⟨fX_41, hu9, h_39⟩ := h_39
    have hPD := pd_eq [_, _, _, _, _, _, _, _, _, _, zzI cy qr 5 fX_41] hP hD hu9 rfl
    clear hP hD hu9
    obtain ⟨hP, hD⟩ := hPD
    subst h_39
    exact endWs [[false, false, false, false, false, false, false, false, false, true, true], [true, true, true, true, true, true, true, true, true]] hx hb hr hlocks rfl hP hD rfl (by decide +kernel) hS ⟨fX_41, tA, rfl, Or.inl ⟨rfl, h_3, rfl⟩, trivial⟩ (g_172 bX5_write rfl)
set_option maxHeartbeats 4000000 in
set_option maxRecDepth 100000 in
theorem p_X5_value (l : Launch) (G : va_G) (cy : Nat → ClassId) (qx : Nat) (qt : Nat) (qk : Nat) (qp : Nat) (qs : Nat) (qa : Nat) (qr : Nat) (iKp : Int32) (iYe : Int32) (iTv : Int32) (tA : TA) (qtw : Nat) (qtn : Nat) (qtg : Nat) (qta : Nat) (qtr : Nat) (qtm : Nat) (qtt : Nat) (qts : Nat)  (hB : T_nb tA ≤ 8) (hPp : T_np tA ≤ 8) : MR l yX5_value cX5_value 1 (some .int) 6 G cy [zzO qx 4 [.ref qt, .ref qk, .ref qp, .ref qs, .ref qa, .ref qr, .int iKp, .int iYe, .int iTv], zzO qt 3 [.int (nI (T_nb tA)), .int (nI (T_np tA)), .int (wb (T_wh tA)), .int (wb (T_gn tA)), .int (T_sd tA), .ref qtw, .ref qtn, .ref qtg, .ref qta, .ref qtr, .ref qtm, .ref qtt, .ref qts], zzI cy qtw 8 (T_wo tA), zzI cy qtn 8 (T_ne tA), zzI cy qtg 8 (T_go tA), zzI cy qta 8 (T_ag tA), zzI cy qtr 8 (T_re tA), zzI cy qtm 8 (T_me tA), zzI cy qtt 8 (T_te tA), zzI cy qts 64 (shF (T_kn tA))] [.ref qx] (vp_Si (fun r => r = zval tA)) := by
  refine enR RX5 (by decide +kernel) rfl (Nat.le_of_ble_eq_true rfl) (fun p e s m below meth c ls hx hb hml hown hts hr hlocks hP hN hl => ?_)
  have hK := hN.1
  replace hl : lv_has ls 1 [(0, .ref qx)] := hl
  refine lv_aload_n hx hb (g_42 bX5_value rfl) rfl (lv_at hl 0 rfl) ?_
  refine va_get (D := G) (ci := 4) (v := .ref qt) (C := RX5) (T := TX5) (N := 9) hx hb hts iX_X5 hown hK hP 0 rfl rfl 0 (by decide +kernel) (hts _ m_t174) (fun _ h9 => h9) rfl (g_180 (v := 10) bX5_value rfl) ?_
  refine kRi (rV (As := []) (rest := []) (b := qt) ⟨hx, hb, hml, hown, hts⟩ (c_X4_worthNow l G cy qt tA qtw qtn qtg qta qtr qtm qtt qts hB hPp) L_X5_123 (preRV (q := (RX4, TX4, 13)) hN hP (trueIx 0 [false, true, true, false, false, false, false, false, false, true]) (sel_fm rfl rfl) 1 3 rfl rfl) rfl ⟨Nat.le_of_ble_eq_true rfl, Nat.le_of_ble_eq_true rfl⟩ hl.1 (Nat.le_of_ble_eq_true rfl) (g_182 (v := 123) bX5_value rfl) ⟨Nat.le_of_ble_eq_true rfl, Nat.le_of_ble_eq_true rfl⟩) (fun r_1 h_2 => ?_)
  subst h_2
  exact endR hx hb hr hlocks rfl (rfl) (g_172 bX5_value rfl)
set_option maxHeartbeats 4000000 in
set_option maxRecDepth 100000 in
theorem p_X5_reader (l : Launch) (G : va_G) (cy : Nat → ClassId) (sz : Nat) (qx : Nat) (qt : Nat) (qk : Nat) (qp : Nat) (qs : Nat) (qa : Nat) (qr : Nat) (iKp : Int32) (iYe : Int32) (iTv : Int32) (fR : Nat → Int32) (tA : TA) (qtw : Nat) (qtn : Nat) (qtg : Nat) (qta : Nat) (qtr : Nat) (qtm : Nat) (qtt : Nat) (qts : Nat) (iA : Int32)  (hB : T_nb tA ≤ 8) (hPp : T_np tA ≤ 8) : MW l yX5_reader cX5_reader 2 (some .int) 12 0 0 G cy [zzO qx 4 [.ref qt, .ref qk, .ref qp, .ref qs, .ref qa, .ref qr, .int iKp, .int iYe, .int iTv], zzI cy qr 5 fR, zzO qt 3 [.int (nI (T_nb tA)), .int (nI (T_np tA)), .int (wb (T_wh tA)), .int (wb (T_gn tA)), .int (T_sd tA), .ref qtw, .ref qtn, .ref qtg, .ref qta, .ref qtr, .ref qtm, .ref qtt, .ref qts], zzI cy qtw 8 (T_wo tA), zzI cy qtn 8 (T_ne tA), zzI cy qtg 8 (T_go tA), zzI cy qta 8 (T_ag tA), zzI cy qtr 8 (T_re tA), zzI cy qtm 8 (T_me tA), zzI cy qtt 8 (T_te tA), zzI cy qts 64 (shF (T_kn tA))] sz [.ref qx, .int iA] (Wi G (fun r u => ∃ (fX : Nat → Int32), u = [zzO qx 4 [.ref qt, .ref qk, .ref qp, .ref qs, .ref qa, .ref qr, .int iKp, .int iYe, .int iTv], zzI cy qr 5 fX, zzO qt 3 [.int (nI (T_nb tA)), .int (nI (T_np tA)), .int (wb (T_wh tA)), .int (wb (T_gn tA)), .int (T_sd tA), .ref qtw, .ref qtn, .ref qtg, .ref qta, .ref qtr, .ref qtm, .ref qtt, .ref qts], zzI cy qtw 8 (T_wo tA), zzI cy qtn 8 (T_ne tA), zzI cy qtg 8 (T_go tA), zzI cy qta 8 (T_ag tA), zzI cy qtr 8 (T_re tA), zzI cy qtm 8 (T_me tA), zzI cy qtt 8 (T_te tA), zzI cy qts 64 (shF (T_kn tA))] ∧ (True))) := by
  refine enW RX5 (by decide +kernel) rfl (Nat.le_of_ble_eq_true rfl) (fun p e s m below meth c ls A hx hb hml hown hts hr hlocks hP hN hl hin hD hA hS => ?_)
  have hin : meth.name = _ := hin
  have hK := hN.1
  replace hl : lv_has ls 2 [(0, .ref qx), (1, .int iA)] := hl
  refine lv_aload_n hx hb (g_42 bX5_reader rfl) rfl (lv_at hl 0 rfl) ?_
  refine va_get (D := G) (ci := 4) (v := .ref qt) (C := RX5) (T := TX5) (N := 9) hx hb hts iX_X5 hown hK hP 0 rfl rfl 0 (by decide +kernel) (hts _ m_t174) (fun _ h9 => h9) rfl (g_180 (v := 10) bX5_reader rfl) ?_
  refine lv_iload_n hx hb (g_27 bX5_reader rfl) rfl (lv_at hl 1 rfl) ?_
  refine kRi (rV (As := [.int iA]) (rest := []) (b := qt) ⟨hx, hb, hml, hown, hts⟩ (c_X4_isBook l G cy qt tA qtw qtn qtg qta qtr qtm qtt qts iA hB) L_X5_168 (preRV (q := (RX4, TX4, 13)) hN hP [2] rfl 2 3 rfl rfl) rfl ⟨Nat.le_of_ble_eq_true rfl, Nat.le_of_ble_eq_true rfl⟩ hl.1 (Nat.le_of_ble_eq_true rfl) (g_182 (v := 168) bX5_reader rfl) ⟨Nat.le_of_ble_eq_true rfl, Nat.le_of_ble_eq_true rfl⟩) (fun r_1 h_2 => ?_)
  rcases h_2 with ⟨rfl, h_3⟩ | ⟨rfl, h_3⟩
  · obtain ⟨k_4, hk_5, rfl⟩ := h_3
    refine lv_if_ne (tgt := 18) hx hb dX5_reader_8 (by decide +kernel) (fun _ => ?_) (fun h9 => absurd h9 (by decide +kernel))
    refine lv_aload_n hx hb (g_42 bX5_reader rfl) rfl (lv_at hl 0 rfl) ?_
    refine va_get (D := G) (ci := 4) (v := .ref qt) (C := RX5) (T := TX5) (N := 9) hx hb hts iX_X5 hown hK hP 0 rfl rfl 0 (by decide +kernel) (hts _ m_t174) (fun _ h9 => h9) rfl (g_180 (v := 10) bX5_reader rfl) ?_
    refine va_getN (D := G) (ci := 3) (v := .int (wb (T_wh tA))) (C := RX4) (T := TX4) (N := 13) hx hb hts iX_X4 hown hK hP 2 rfl rfl 2 (by decide +kernel) (va_Nw.use rfl (hN.2.1 (RX5, 180, "EachBookOnce$Town", "white", "I") (List.mem_of_getElem? (i := 10) rfl))) (fun _ h9 => h9) rfl (g_180 (v := 180) bX5_reader rfl) ?_
    refine lv_iload_n hx hb (g_27 bX5_reader rfl) rfl (lv_at hl 1 rfl) ?_
    refine kRi (rS (As := [.int (wb (T_wh tA)), .int (nI k_4)]) (rest := []) ⟨hx, hb, hml, hown, hts⟩ (c_X5_has l G cy (wb (T_wh tA)) k_4) L_X5_183 (preRS hN hP [] rfl) rfl ⟨Nat.le_of_ble_eq_true rfl, Nat.le_of_ble_eq_true rfl⟩ hl.1 (Nat.le_of_ble_eq_true rfl) (g_184 (v := 183) bX5_reader rfl) ⟨Nat.le_of_ble_eq_true rfl, Nat.le_of_ble_eq_true rfl⟩) (fun r_7 h_8 => ?_)
    rcases h_8 with ⟨rfl, h_9⟩ | ⟨rfl, h_9⟩
    · rw [bit_wb _ (by omega)] at h_9
      refine lv_if_eq (tgt := 41) hx hb dX5_reader_29 (by decide +kernel) (fun h9 => absurd h9 (by decide +kernel)) (fun _ => ?_)
      refine lv_aload_n hx hb (g_42 bX5_reader rfl) rfl (lv_at hl 0 rfl) ?_
      refine lv_bipush (v := (-5)) hx hb dX5_reader_33 (by decide +kernel) ?_
      refine cVi (As := [.int (-5)]) (rest := []) (b := qx) (q := (RX5, TX5, 9)) ⟨hx, hb, hml, hown, hts⟩ (c_X5_refuse5 l G cy (s.heap).size qx qt qk qp qs qa qr iKp iYe iTv fR) L_X5_56 hN hP hD hS hA [0, 1] [false, false, true, true, true, true, true, true, true, true, true] rfl (by decide +kernel) rfl 0 4 rfl rfl rfl ⟨Nat.le_of_ble_eq_true rfl, Nat.le_of_ble_eq_true rfl⟩ hl.1 (Nat.le_of_ble_eq_true rfl) (g_182 (v := 56) bX5_reader rfl) ⟨Nat.le_of_ble_eq_true rfl, Nat.le_of_ble_eq_true rfl⟩ (fun r_11 u_13 H locs h_12 => ?_)
      clear hP hD hS
      intro hP hD hS
      obtain ⟨fX_14, hu9, h_12⟩ := h_12
      have hPD := pd_eq [_, _, _, _, _, _, _, _, _, _, zzI cy qr 5 fX_14] hP hD hu9 rfl
      clear hP hD hu9
      obtain ⟨hP, hD⟩ := hPD
      subst h_12
      refine lv_goto (tgt := 49) hx hb dX5_reader_38 (by decide +kernel) ?_
      exact endWs [[false, false, false, false, false, false, false, false, false, true, true], [true, true, true, true, true, true, true, true, true]] hx hb hr hlocks rfl hP hD rfl (by decide +kernel) hS ⟨fX_14, rfl, trivial⟩ (g_172 bX5_reader rfl)
    · rw [bit_wb _ (by omega)] at h_9
      refine lv_if_eq (tgt := 41) hx hb dX5_reader_29 (by decide +kernel) (fun _ => ?_) (fun h9 => absurd (by decide +kernel) h9)
      refine lv_aload_n hx hb (g_42 bX5_reader rfl) rfl (lv_at hl 0 rfl) ?_
      refine va_get (D := G) (ci := 4) (v := .ref qt) (C := RX5) (T := TX5) (N := 9) hx hb hts iX_X5 hown hK hP 0 rfl rfl 0 (by decide +kernel) (hts _ m_t174) (fun _ h9 => h9) rfl (g_180 (v := 10) bX5_reader rfl) ?_
      refine lv_iload_n hx hb (g_27 bX5_reader rfl) rfl (lv_at hl 1 rfl) ?_
      refine kRi (rV (As := [.int (nI k_4)]) (rest := []) (b := qt) ⟨hx, hb, hml, hown, hts⟩ (c_X4_bestReader l G cy qt tA qtw qtn qtg qta qtr qtm qtt qts k_4 hPp (by first | omega | (simp only [nb_sr, np_sr, nb_wr, np_wr, nb_rd, np_rd, nb_ch, np_ch, nb_zr, np_zr, nb_za, np_za, nb_ey, np_ey, nb_hf, np_hf, nb_dd, np_dd, nb_so, np_so, nb_skn, np_skn, nb_swh, np_swh, nb_sgn, np_sgn, nb_ssd, np_ssd, nb_sgo, np_sgo, nb_sag, np_sag]; omega))) L_X5_247 (preRV (q := (RX4, TX4, 13)) hN hP (trueIx 0 [false, false, true, true, true, true, true, true, true, true, true]) (sel_fm rfl rfl) 2 3 rfl rfl) rfl ⟨Nat.le_of_ble_eq_true rfl, Nat.le_of_ble_eq_true rfl⟩ hl.1 (Nat.le_of_ble_eq_true rfl) (g_182 (v := 247) bX5_reader rfl) ⟨Nat.le_of_ble_eq_true rfl, Nat.le_of_ble_eq_true rfl⟩) (fun r_16 h_17 => ?_)
      subst h_17
      exact endWs [[true, true, true, true, true, true, true, true, true, true, true]] hx hb hr hlocks rfl hP hD rfl (by decide +kernel) hS ⟨fR, rfl, trivial⟩ (g_172 bX5_reader rfl)
  · refine lv_if_ne (tgt := 18) hx hb dX5_reader_8 (by decide +kernel) (fun h9 => absurd (by decide +kernel) h9) (fun _ => ?_)
    refine lv_aload_n hx hb (g_42 bX5_reader rfl) rfl (lv_at hl 0 rfl) ?_
    refine lv_bipush (v := (-2)) hx hb dX5_reader_12 (by decide +kernel) ?_
    refine cVi (As := [.int (-2)]) (rest := []) (b := qx) (q := (RX5, TX5, 9)) ⟨hx, hb, hml, hown, hts⟩ (c_X5_refuse2 l G cy (s.heap).size qx qt qk qp qs qa qr iKp iYe iTv fR) L_X5_56 hN hP hD hS hA [0, 1] [false, false, true, true, true, true, true, true, true, true, true] rfl (by decide +kernel) rfl 0 4 rfl rfl rfl ⟨Nat.le_of_ble_eq_true rfl, Nat.le_of_ble_eq_true rfl⟩ hl.1 (Nat.le_of_ble_eq_true rfl) (g_182 (v := 56) bX5_reader rfl) ⟨Nat.le_of_ble_eq_true rfl, Nat.le_of_ble_eq_true rfl⟩ (fun r_19 u_21 H locs h_20 => ?_)
    clear hP hD hS
    intro hP hD hS
    obtain ⟨fX_22, hu9, h_20⟩ := h_20
    have hPD := pd_eq [_, _, _, _, _, _, _, _, _, _, zzI cy qr 5 fX_22] hP hD hu9 rfl
    clear hP hD hu9
    obtain ⟨hP, hD⟩ := hPD
    subst h_20
    exact endWs [[false, false, false, false, false, false, false, false, false, true, true], [true, true, true, true, true, true, true, true, true]] hx hb hr hlocks rfl hP hD rfl (by decide +kernel) hS ⟨fX_22, rfl, trivial⟩ (g_172 bX5_reader rfl)
