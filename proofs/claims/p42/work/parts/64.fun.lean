set_option maxHeartbeats 4000000 in
set_option maxRecDepth 100000 in
theorem x_X3_sortAt (l : Launch) (G : va_G) (cy : Nat → ClassId) (qa : Nat) (qab : Nat) (kZ : Nat) (kS : Nat) (kE : Nat) (iT : Int32) (iF : Int32) (qd : Nat) (fB : Nat → Int32) (kP : Nat)  (hZ : kZ ≤ 250) (hPl : kP ≤ 250) : MR l yX3_sortAt cX3_sortAt 3 (some .int) 1 G cy [zzO qa 2 [.ref qab, .int (nI kZ), .int (nI kS), .int (nI kE), .int iT, .int iF, .ref qd], zzB cy qab 250 fB] [.ref qa, .int (nI kP)] (vp_Si (fun r => r = srt fB kZ kP)) := by
  refine enR RX3 (by decide +kernel) rfl (Nat.le_of_ble_eq_true rfl) (fun p e s m below meth c ls hx hb hml hown hts hr hlocks hP hN hl => ?_)
  have hK := hN.1
  replace hl : lv_has ls 3 [(0, .ref qa), (1, .int (nI kP))] := hl
  refine lv_iload_n hx hb (g_27 bX3_sortAt rfl) rfl (lv_at hl 1 rfl) ?_
  refine lv_aload_n hx hb (g_42 bX3_sortAt rfl) rfl (lv_at hl 0 rfl) ?_
  refine va_get (D := G) (ci := 2) (v := .int (nI kZ)) (C := RX3) (T := TX3) (N := 7) hx hb hts iX_X3 hown hK hP 0 rfl rfl 1 (by decide +kernel) (hts _ m_t149) (fun _ h9 => h9) rfl (g_180 (v := 22) bX3_sortAt rfl) ?_
  refine lv_icmp_lt (tgt := 10) hx hb dX3_sortAt_5 (by decide +kernel) (fun c_1 => ?_) (fun c_1 => ?_)
  · have hlt : kP < kZ := lp_lt0 (by omega) (by omega) c_1
    refine lv_aload_n hx hb (g_42 bX3_sortAt rfl) rfl (lv_at hl 0 rfl) ?_
    refine va_get (D := G) (ci := 2) (v := .ref qab) (C := RX3) (T := TX3) (N := 7) hx hb hts iX_X3 hown hK hP 0 rfl rfl 0 (by decide +kernel) (hts _ m_t148) (fun _ h9 => h9) rfl (g_180 (v := 11) bX3_sortAt rfl) ?_
    refine lv_iload_n hx hb (g_27 bX3_sortAt rfl) rfl (lv_at hl 1 rfl) ?_
    refine va_bald hx hb hK hP 1 2 rfl rfl (vp_in_nI (by omega) (by omega)) (g_51 bX3_sortAt rfl) ?_
    refine lv_seti (v := fB kP) (congrArg fB (nI_clamp (by omega))) ?_
    refine lv_istore_n (lv' := [(2, .int (fB kP)), (0, .ref qa), (1, .int (nI kP))]) hx hb (g_61 bX3_sortAt rfl) rfl hl (by decide +kernel) rfl (fun ls => ?_)
    clear hl
    intro hl
    refine lv_iload_n hx hb (g_28 bX3_sortAt rfl) rfl (lv_at hl 0 rfl) ?_
    refine lv_bipush (v := 97) hx hb dX3_sortAt_18 (by decide +kernel) ?_
    refine lv_icmp_lt (tgt := 31) hx hb dX3_sortAt_20 (by decide +kernel) (fun c_2 => ?_) (fun c_2 => ?_)
    · refine lv_iload_n hx hb (g_28 bX3_sortAt rfl) rfl (lv_at hl 0 rfl) ?_
      refine lv_bipush (v := 48) hx hb dX3_sortAt_32 (by decide +kernel) ?_
      refine lv_icmp_lt (tgt := 45) hx hb dX3_sortAt_34 (by decide +kernel) (fun c_3 => ?_) (fun c_3 => ?_)
      · refine lv_iload_n hx hb (g_28 bX3_sortAt rfl) rfl (lv_at hl 0 rfl) ?_
        refine lv_bipush (v := 59) hx hb dX3_sortAt_46 (by decide +kernel) ?_
        refine lv_icmp_ne (tgt := 55) hx hb dX3_sortAt_48 (by decide +kernel) (fun c_4 => ?_) (fun c_4 => ?_)
        · refine lv_iconst (v := 4) hx hb (g_7 bX3_sortAt rfl) (by decide +kernel) ?_
          exact endR hx hb hr hlocks rfl ((srt4 hlt (zlt_n1 c_2) (zdg_n1 c_3) c_4).symm) (g_172 bX3_sortAt rfl)
        · refine lv_iconst (v := 3) hx hb (g_6 bX3_sortAt rfl) (by decide +kernel) ?_
          refine lv_goto (tgt := 56) hx hb dX3_sortAt_52 (by decide +kernel) ?_
          exact endR hx hb hr hlocks rfl ((srt3 hlt (zlt_n1 c_2) (zdg_n1 c_3) c_4).symm) (g_172 bX3_sortAt rfl)
      · refine lv_iload_n hx hb (g_28 bX3_sortAt rfl) rfl (lv_at hl 0 rfl) ?_
        refine lv_bipush (v := 57) hx hb dX3_sortAt_38 (by decide +kernel) ?_
        refine lv_icmp_gt (tgt := 45) hx hb dX3_sortAt_40 (by decide +kernel) (fun c_5 => ?_) (fun c_5 => ?_)
        · refine lv_iload_n hx hb (g_28 bX3_sortAt rfl) rfl (lv_at hl 0 rfl) ?_
          refine lv_bipush (v := 59) hx hb dX3_sortAt_46 (by decide +kernel) ?_
          refine lv_icmp_ne (tgt := 55) hx hb dX3_sortAt_48 (by decide +kernel) (fun c_6 => ?_) (fun c_6 => ?_)
          · refine lv_iconst (v := 4) hx hb (g_7 bX3_sortAt rfl) (by decide +kernel) ?_
            exact endR hx hb hr hlocks rfl ((srt4 hlt (zlt_n1 c_2) (zdg_n2 c_5) c_6).symm) (g_172 bX3_sortAt rfl)
          · refine lv_iconst (v := 3) hx hb (g_6 bX3_sortAt rfl) (by decide +kernel) ?_
            refine lv_goto (tgt := 56) hx hb dX3_sortAt_52 (by decide +kernel) ?_
            exact endR hx hb hr hlocks rfl ((srt3 hlt (zlt_n1 c_2) (zdg_n2 c_5) c_6).symm) (g_172 bX3_sortAt rfl)
        · refine lv_iconst (v := 2) hx hb (g_5 bX3_sortAt rfl) (by decide +kernel) ?_
          exact endR hx hb hr hlocks rfl ((srt2 hlt (zlt_n1 c_2) (zdg_y c_3 c_5)).symm) (g_172 bX3_sortAt rfl)
    · refine lv_iload_n hx hb (g_28 bX3_sortAt rfl) rfl (lv_at hl 0 rfl) ?_
      refine lv_bipush (v := 122) hx hb dX3_sortAt_24 (by decide +kernel) ?_
      refine lv_icmp_gt (tgt := 31) hx hb dX3_sortAt_26 (by decide +kernel) (fun c_7 => ?_) (fun c_7 => ?_)
      · refine lv_iload_n hx hb (g_28 bX3_sortAt rfl) rfl (lv_at hl 0 rfl) ?_
        refine lv_bipush (v := 48) hx hb dX3_sortAt_32 (by decide +kernel) ?_
        refine lv_icmp_lt (tgt := 45) hx hb dX3_sortAt_34 (by decide +kernel) (fun c_8 => ?_) (fun c_8 => ?_)
        · refine lv_iload_n hx hb (g_28 bX3_sortAt rfl) rfl (lv_at hl 0 rfl) ?_
          refine lv_bipush (v := 59) hx hb dX3_sortAt_46 (by decide +kernel) ?_
          refine lv_icmp_ne (tgt := 55) hx hb dX3_sortAt_48 (by decide +kernel) (fun c_9 => ?_) (fun c_9 => ?_)
          · refine lv_iconst (v := 4) hx hb (g_7 bX3_sortAt rfl) (by decide +kernel) ?_
            exact endR hx hb hr hlocks rfl ((srt4 hlt (zlt_n2 c_7) (zdg_n1 c_8) c_9).symm) (g_172 bX3_sortAt rfl)
          · refine lv_iconst (v := 3) hx hb (g_6 bX3_sortAt rfl) (by decide +kernel) ?_
            refine lv_goto (tgt := 56) hx hb dX3_sortAt_52 (by decide +kernel) ?_
            exact endR hx hb hr hlocks rfl ((srt3 hlt (zlt_n2 c_7) (zdg_n1 c_8) c_9).symm) (g_172 bX3_sortAt rfl)
        · refine lv_iload_n hx hb (g_28 bX3_sortAt rfl) rfl (lv_at hl 0 rfl) ?_
          refine lv_bipush (v := 57) hx hb dX3_sortAt_38 (by decide +kernel) ?_
          refine lv_icmp_gt (tgt := 45) hx hb dX3_sortAt_40 (by decide +kernel) (fun c_10 => ?_) (fun c_10 => ?_)
          · refine lv_iload_n hx hb (g_28 bX3_sortAt rfl) rfl (lv_at hl 0 rfl) ?_
            refine lv_bipush (v := 59) hx hb dX3_sortAt_46 (by decide +kernel) ?_
            refine lv_icmp_ne (tgt := 55) hx hb dX3_sortAt_48 (by decide +kernel) (fun c_11 => ?_) (fun c_11 => ?_)
            · refine lv_iconst (v := 4) hx hb (g_7 bX3_sortAt rfl) (by decide +kernel) ?_
              exact endR hx hb hr hlocks rfl ((srt4 hlt (zlt_n2 c_7) (zdg_n2 c_10) c_11).symm) (g_172 bX3_sortAt rfl)
            · refine lv_iconst (v := 3) hx hb (g_6 bX3_sortAt rfl) (by decide +kernel) ?_
              refine lv_goto (tgt := 56) hx hb dX3_sortAt_52 (by decide +kernel) ?_
              exact endR hx hb hr hlocks rfl ((srt3 hlt (zlt_n2 c_7) (zdg_n2 c_10) c_11).symm) (g_172 bX3_sortAt rfl)
          · refine lv_iconst (v := 2) hx hb (g_5 bX3_sortAt rfl) (by decide +kernel) ?_
            exact endR hx hb hr hlocks rfl ((srt2 hlt (zlt_n2 c_7) (zdg_y c_8 c_10)).symm) (g_172 bX3_sortAt rfl)
      · refine lv_iconst (v := 1) hx hb (g_4 bX3_sortAt rfl) (by decide +kernel) ?_
        exact endR hx hb hr hlocks rfl ((srt1 hlt (zlt_y c_2 c_7)).symm) (g_172 bX3_sortAt rfl)
  · refine lv_iconst (v := 0) hx hb (g_3 bX3_sortAt rfl) (by decide +kernel) ?_
    exact endR hx hb hr hlocks rfl ((srt0 (fun q => c_1 (nI_lt' (by omega) q))).symm) (g_172 bX3_sortAt rfl)
set_option maxHeartbeats 4000000 in
set_option maxRecDepth 100000 in
theorem x_X3_step (l : Launch) (G : va_G) (cy : Nat → ClassId) (sz : Nat) (qa : Nat) (qab : Nat) (kZ : Nat) (iS0 : Int32) (kE : Nat) (iT : Int32) (iF : Int32) (qd : Nat) (fB : Nat → Int32)  (hZ : kZ ≤ 250) (hE : kE ≤ kZ) : MW l yX3_step cX3_step 2 none 2 0 0 G cy [zzO qa 2 [.ref qab, .int (nI kZ), .int iS0, .int (nI kE), .int iT, .int iF, .ref qd], zzB cy qab 250 fB] sz [.ref qa] (Wv G (fun u => ∃ (kX : Nat) (kY : Nat) (iX : Int32), u = [zzO qa 2 [.ref qab, .int (nI kZ), .int (nI kX), .int (nI kY), .int iX, .int iF, .ref qd], zzB cy qab 250 fB] ∧ (kX ≤ kY ∧ kY ≤ kZ) ∧ lx (nbf fB kZ) kZ kE = (kX, iX, kY) ∧ Lx fB kZ kX iX kY)) := by
  refine enW RX3 (by decide +kernel) rfl (Nat.le_of_ble_eq_true rfl) (fun p e s m below meth c ls A hx hb hml hown hts hr hlocks hP hN hl hin hD hA hS => ?_)
  have hin : meth.name = _ := hin
  have hK := hN.1
  replace hl : lv_has ls 2 [(0, .ref qa)] := hl
  refine lv_aload_n hx hb (g_42 bX3_step rfl) rfl (lv_at hl 0 rfl) ?_
  refine lv_aload_n hx hb (g_42 bX3_step rfl) rfl (lv_at hl 0 rfl) ?_
  refine va_get (D := G) (ci := 2) (v := .int (nI kE)) (C := RX3) (T := TX3) (N := 7) hx hb hts iX_X3 hown hK hP 0 rfl rfl 3 (by decide +kernel) (hts _ m_t152) (fun _ h9 => h9) rfl (g_180 (v := 33) bX3_step rfl) ?_
  refine va_put (D := G) (ci := 2) (v := .int (nI kE)) (ty := .int) (C := RX3) (T := TX3) (N := 7) hx hb hts iX_X3 tyX3 tyX3_ok nmX3 hown hK hP hD hS 0 rfl rfl 2 (by decide +kernel) (hts _ m_t151) (fun _ h9 => h9) rfl (by decide +kernel) rfl rfl (Nat.le_of_ble_eq_true rfl) (g_181 (v := 121) bX3_step rfl) (fun H locs => ?_)
  clear hP hD hS
  intro hP hD hS
  have hPD := pd_as [zzO qa 2 [.ref qab, .int (nI kZ), .int (nI kE), .int (nI kE), .int iT, .int iF, .ref qd], _] hP hD rfl
  clear hP hD
  obtain ⟨hP, hD⟩ := hPD
  have lp_1 : ∀ (n_2 : Nat) (j_4 : Nat), 250 - j_4 < n_2 → kE ≤ j_4 ∧ j_4 ≤ kZ → skF fB (kZ - j_4) j_4 = skF fB (kZ - kE) kE → ∀ (H : Heap) (locs : List Loc) (ls : Array Slot), va_P G CL [zzO qa 2 [.ref qab, .int (nI kZ), .int (nI j_4), .int (nI kE), .int iT, .int iF, .ref qd], zzB cy qab 250 fB] H → va_D A [zzO qa 2 [.ref qab, .int (nI kZ), .int (nI j_4), .int (nI kE), .int iT, .int iF, .ref qd], zzB cy qab 250 fB] → va_S A s.heap H locs → lv_has ls 2 [(0, .ref qa)] → W p l e (Rm 2 0 0) s m (List.toArray (α := Value) [.ref qa]) below meth c H locs 0 0 (MQ below ((Wv G (fun u => ∃ (kX : Nat) (kY : Nat) (iX : Int32), u = [zzO qa 2 [.ref qab, .int (nI kZ), .int (nI kX), .int (nI kY), .int iX, .int iF, .ref qd], zzB cy qab 250 fB] ∧ (kX ≤ kY ∧ kY ≤ kZ) ∧ lx (nbf fB kZ) kZ kE = (kX, iX, kY) ∧ Lx fB kZ kX iX kY)) A) (List.toArray (α := Value) [.ref qa]) s 0 0 A) (F0 m 8 ls []) := by
    intro n_2
    induction n_2 with
    | zero => intro j_4 hm9; exact absurd hm9 (Nat.not_lt_zero _)
    | succ n_2 ih_3 =>
      intro j_4 hm_7 hj_5 hT_6 H locs ls hP hD hS hl
      refine lv_aload_n hx hb (g_42 bX3_step rfl) rfl (lv_at hl 0 rfl) ?_
      refine va_get (D := G) (ci := 2) (v := .int (nI j_4)) (C := RX3) (T := TX3) (N := 7) hx hb hts iX_X3 hown hK hP 0 rfl rfl 2 (by decide +kernel) (hts _ m_t151) (fun _ h9 => h9) rfl (g_180 (v := 121) bX3_step rfl) ?_
      refine lv_aload_n hx hb (g_42 bX3_step rfl) rfl (lv_at hl 0 rfl) ?_
      refine va_get (D := G) (ci := 2) (v := .int (nI kZ)) (C := RX3) (T := TX3) (N := 7) hx hb hts iX_X3 hown hK hP 0 rfl rfl 1 (by decide +kernel) (hts _ m_t149) (fun _ h9 => h9) rfl (g_180 (v := 22) bX3_step rfl) ?_
      refine lv_icmp_ge (tgt := 46) hx hb dX3_step_16 (by decide +kernel) (fun c_8 => ?_) (fun c_8 => ?_)
      · have hlt_9 : j_4 = kZ := Nat.le_antisymm (by omega) (lp_ge rfl rfl (by omega) (by omega) c_8)
        have hlt_9f : j_4 = skF fB (kZ - kE) kE := by rw [← hT_6, hlt_9, Nat.sub_self]; rfl
        refine lv_aload_n hx hb (g_42 bX3_step rfl) rfl (lv_at hl 0 rfl) ?_
        refine lv_aload_n hx hb (g_42 bX3_step rfl) rfl (lv_at hl 0 rfl) ?_
        refine lv_aload_n hx hb (g_42 bX3_step rfl) rfl (lv_at hl 0 rfl) ?_
        refine va_get (D := G) (ci := 2) (v := .int (nI j_4)) (C := RX3) (T := TX3) (N := 7) hx hb hts iX_X3 hown hK hP 0 rfl rfl 2 (by decide +kernel) (hts _ m_t151) (fun _ h9 => h9) rfl (g_180 (v := 121) bX3_step rfl) ?_
        refine kRi (rV (As := [.int (nI j_4)]) (rest := [.ref qa]) (b := qa) ⟨hx, hb, hml, hown, hts⟩ (x_X3_sortAt l G cy qa qab kZ j_4 kE iT iF qd fB j_4 hZ (by omega)) L_X3_133 (preRV (q := (RX3, TX3, 7)) hN hP [0, 1] rfl 0 2 rfl rfl) rfl ⟨Nat.le_of_ble_eq_true rfl, Nat.le_of_ble_eq_true rfl⟩ hl.1 (Nat.le_of_ble_eq_true rfl) (g_182 (v := 133) bX3_step rfl) ⟨Nat.le_of_ble_eq_true rfl, Nat.le_of_ble_eq_true rfl⟩) (fun r_10 h_11 => ?_)
        refine va_put (D := G) (ci := 2) (v := .int r_10) (ty := .int) (C := RX3) (T := TX3) (N := 7) hx hb hts iX_X3 tyX3 tyX3_ok nmX3 hown hK hP hD hS 0 rfl rfl 4 (by decide +kernel) (hts _ m_t153) (fun _ h9 => h9) rfl (by decide +kernel) rfl rfl (Nat.le_of_ble_eq_true rfl) (g_181 (v := 42) bX3_step rfl) (fun H locs => ?_)
        clear hP hD hS
        intro hP hD hS
        have hPD := pd_as [zzO qa 2 [.ref qab, .int (nI kZ), .int (nI j_4), .int (nI kE), .int r_10, .int iF, .ref qd], _] hP hD rfl
        clear hP hD
        obtain ⟨hP, hD⟩ := hPD
        refine lv_aload_n hx hb (g_42 bX3_step rfl) rfl (lv_at hl 0 rfl) ?_
        refine lv_aload_n hx hb (g_42 bX3_step rfl) rfl (lv_at hl 0 rfl) ?_
        refine va_get (D := G) (ci := 2) (v := .int r_10) (C := RX3) (T := TX3) (N := 7) hx hb hts iX_X3 hown hK hP 0 rfl rfl 4 (by decide +kernel) (hts _ m_t153) (fun _ h9 => h9) rfl (g_180 (v := 42) bX3_step rfl) ?_
        refine lv_if_ne (tgt := 73) hx hb dX3_step_63 (by decide +kernel) (fun c_12 => ?_) (fun c_12 => ?_)
        · have hlt_13 : j_4 < kZ := by rcases Nat.lt_or_ge j_4 kZ with q | q; exact q; exact absurd (h_11.trans (srt0 (by omega))) c_12
          refine lv_aload_n hx hb (g_42 bX3_step rfl) rfl (lv_at hl 0 rfl) ?_
          refine va_get (D := G) (ci := 2) (v := .int (nI j_4)) (C := RX3) (T := TX3) (N := 7) hx hb hts iX_X3 hown hK hP 0 rfl rfl 2 (by decide +kernel) (hts _ m_t151) (fun _ h9 => h9) rfl (g_180 (v := 121) bX3_step rfl) ?_
          refine lv_iconst (v := 1) hx hb (g_4 bX3_step rfl) (by decide +kernel) ?_
          refine lv_iadd hx hb (g_96 bX3_step rfl) ?_
          refine lv_seti (v := nI (j_4 + 1)) (nI_1 _) ?_
          refine va_put (D := G) (ci := 2) (v := .int (nI (j_4 + 1))) (ty := .int) (C := RX3) (T := TX3) (N := 7) hx hb hts iX_X3 tyX3 tyX3_ok nmX3 hown hK hP hD hS 0 rfl rfl 3 (by decide +kernel) (hts _ m_t152) (fun _ h9 => h9) rfl (by decide +kernel) rfl rfl (Nat.le_of_ble_eq_true rfl) (g_181 (v := 33) bX3_step rfl) (fun H locs => ?_)
          clear hP hD hS
          intro hP hD hS
          have hPD := pd_as [zzO qa 2 [.ref qab, .int (nI kZ), .int (nI j_4), .int (nI (j_4 + 1)), .int r_10, .int iF, .ref qd], _] hP hD rfl
          clear hP hD
          obtain ⟨hP, hD⟩ := hPD
          refine lv_aload_n hx hb (g_42 bX3_step rfl) rfl (lv_at hl 0 rfl) ?_
          refine va_get (D := G) (ci := 2) (v := .int r_10) (C := RX3) (T := TX3) (N := 7) hx hb hts iX_X3 hown hK hP 0 rfl rfl 4 (by decide +kernel) (hts _ m_t153) (fun _ h9 => h9) rfl (g_180 (v := 42) bX3_step rfl) ?_
          refine lv_iconst (v := 1) hx hb (g_4 bX3_step rfl) (by decide +kernel) ?_
          refine lv_icmp_eq (tgt := 98) hx hb dX3_step_87 (by decide +kernel) (fun c_14 => ?_) (fun c_14 => ?_)
          · refine lv_iconst (v := 1) hx hb (g_4 bX3_step rfl) (by decide +kernel) ?_
            refine lv_goto (tgt := 103) hx hb dX3_step_99 (by decide +kernel) ?_
            refine lv_istore_n (lv' := [(1, .int 1), (0, .ref qa)]) hx hb (g_60 bX3_step rfl) rfl hl (by decide +kernel) rfl (fun ls => ?_)
            clear hl
            intro hl
            have lp_15 : ∀ (n_16 : Nat) (m_18 : Nat), 250 - m_18 < n_16 → j_4 < m_18 → m_18 ≤ kZ → wdF zlt fB (kZ - m_18) m_18 = wdF zlt fB (kZ - (j_4 + 1)) (j_4 + 1) → ∀ (H : Heap) (locs : List Loc) (ls : Array Slot), va_P G CL [zzO qa 2 [.ref qab, .int (nI kZ), .int (nI j_4), .int (nI m_18), .int r_10, .int iF, .ref qd], zzB cy qab 250 fB] H → va_D A [zzO qa 2 [.ref qab, .int (nI kZ), .int (nI j_4), .int (nI m_18), .int r_10, .int iF, .ref qd], zzB cy qab 250 fB] → va_S A s.heap H locs → lv_has ls 2 [(1, .int 1), (0, .ref qa)] → W p l e (Rm 2 0 0) s m (List.toArray (α := Value) [.ref qa]) below meth c H locs 0 0 (MQ below ((Wv G (fun u => ∃ (kX : Nat) (kY : Nat) (iX : Int32), u = [zzO qa 2 [.ref qab, .int (nI kZ), .int (nI kX), .int (nI kY), .int iX, .int iF, .ref qd], zzB cy qab 250 fB] ∧ (kX ≤ kY ∧ kY ≤ kZ) ∧ lx (nbf fB kZ) kZ kE = (kX, iX, kY) ∧ Lx fB kZ kX iX kY)) A) (List.toArray (α := Value) [.ref qa]) s 0 0 A) (F0 m 104 ls []) := by
              intro n_16
              induction n_16 with
              | zero => intro m_18 hm9; exact absurd hm9 (Nat.not_lt_zero _)
              | succ n_16 ih_17 =>
                intro m_18 hm_22 hm1_19 hm2_20 hU_21 H locs ls hP hD hS hl
                refine lv_iload_n hx hb (g_27 bX3_step rfl) rfl (lv_at hl 0 rfl) ?_
                refine lv_if_eq (tgt := 147) hx hb dX3_step_105 (by decide +kernel) (fun h9 => absurd h9 (by decide +kernel)) (fun _ => ?_)
                refine lv_aload_n hx hb (g_42 bX3_step rfl) rfl (lv_at hl 1 rfl) ?_
                refine va_get (D := G) (ci := 2) (v := .int (nI m_18)) (C := RX3) (T := TX3) (N := 7) hx hb hts iX_X3 hown hK hP 0 rfl rfl 3 (by decide +kernel) (hts _ m_t152) (fun _ h9 => h9) rfl (g_180 (v := 33) bX3_step rfl) ?_
                refine lv_aload_n hx hb (g_42 bX3_step rfl) rfl (lv_at hl 1 rfl) ?_
                refine va_get (D := G) (ci := 2) (v := .int (nI kZ)) (C := RX3) (T := TX3) (N := 7) hx hb hts iX_X3 hown hK hP 0 rfl rfl 1 (by decide +kernel) (hts _ m_t149) (fun _ h9 => h9) rfl (g_180 (v := 22) bX3_step rfl) ?_
                refine lv_icmp_ge (tgt := 147) hx hb dX3_step_116 (by decide +kernel) (fun c_24 => ?_) (fun c_24 => ?_)
                · have hlt_25 : m_18 = kZ := Nat.le_antisymm (by omega) (lp_ge rfl rfl (by omega) (by omega) c_24)
                  have hlt_25w : wdF zlt fB (kZ - (j_4 + 1)) (j_4 + 1) = m_18 := by rw [← hU_21, show kZ - m_18 = 0 by omega]; rfl
                  exact endVs [[true, true]] hx hb hr hlocks hP hD rfl (by decide +kernel) hS ⟨j_4, m_18, r_10, rfl, ⟨by omega, by omega⟩, (sp_1 hE hlt_9f h_11 c_14 hlt_25w), (Lx_of hE (sp_1 hE hlt_9f h_11 c_14 hlt_25w))⟩ (g_177 bX3_step rfl)
                · have hlt_26 : m_18 < kZ := lp_lt rfl rfl (by omega) (by omega) c_24
                  refine lv_aload_n hx hb (g_42 bX3_step rfl) rfl (lv_at hl 1 rfl) ?_
                  refine lv_aload_n hx hb (g_42 bX3_step rfl) rfl (lv_at hl 1 rfl) ?_
                  refine va_get (D := G) (ci := 2) (v := .int (nI m_18)) (C := RX3) (T := TX3) (N := 7) hx hb hts iX_X3 hown hK hP 0 rfl rfl 3 (by decide +kernel) (hts _ m_t152) (fun _ h9 => h9) rfl (g_180 (v := 33) bX3_step rfl) ?_
                  refine kRi (rV (As := [.int (nI m_18)]) (rest := []) (b := qa) ⟨hx, hb, hml, hown, hts⟩ (x_X3_sortAt l G cy qa qab kZ j_4 m_18 r_10 iF qd fB m_18 hZ (by omega)) L_X3_133 (preRV (q := (RX3, TX3, 7)) hN hP [0, 1] rfl 0 2 rfl rfl) rfl ⟨Nat.le_of_ble_eq_true rfl, Nat.le_of_ble_eq_true rfl⟩ hl.1 (Nat.le_of_ble_eq_true rfl) (g_182 (v := 133) bX3_step rfl) ⟨Nat.le_of_ble_eq_true rfl, Nat.le_of_ble_eq_true rfl⟩) (fun r_27 h_28 => ?_)
                  refine lv_aload_n hx hb (g_42 bX3_step rfl) rfl (lv_at hl 1 rfl) ?_
                  refine va_get (D := G) (ci := 2) (v := .int r_10) (C := RX3) (T := TX3) (N := 7) hx hb hts iX_X3 hown hK hP 0 rfl rfl 4 (by decide +kernel) (hts _ m_t153) (fun _ h9 => h9) rfl (g_180 (v := 42) bX3_step rfl) ?_
                  refine lv_icmp_ne (tgt := 147) hx hb dX3_step_131 (by decide +kernel) (fun c_29 => ?_) (fun c_29 => ?_)
                  · have hz_30w : wdF zlt fB (kZ - (j_4 + 1)) (j_4 + 1) = m_18 := by rw [← hU_21, show kZ - m_18 = kZ - (m_18 + 1) + 1 by omega, wd_no (srt_n1 h_28 hlt_26 (fun q => c_29 (q.trans c_14.symm)))]
                    exact endVs [[true, true]] hx hb hr hlocks hP hD rfl (by decide +kernel) hS ⟨j_4, m_18, r_10, rfl, ⟨by omega, by omega⟩, (sp_1 hE hlt_9f h_11 c_14 hz_30w), (Lx_of hE (sp_1 hE hlt_9f h_11 c_14 hz_30w))⟩ (g_177 bX3_step rfl)
                  · refine lv_aload_n hx hb (g_42 bX3_step rfl) rfl (lv_at hl 1 rfl) ?_
                    refine lv_dup hx hb (g_89 bX3_step rfl) rfl ?_
                    refine va_get (D := G) (ci := 2) (v := .int (nI m_18)) (C := RX3) (T := TX3) (N := 7) hx hb hts iX_X3 hown hK hP 0 rfl rfl 3 (by decide +kernel) (hts _ m_t152) (fun _ h9 => h9) rfl (g_180 (v := 33) bX3_step rfl) ?_
                    refine lv_iconst (v := 1) hx hb (g_4 bX3_step rfl) (by decide +kernel) ?_
                    refine lv_iadd hx hb (g_96 bX3_step rfl) ?_
                    refine lv_seti (v := nI (m_18 + 1)) (nI_1 _) ?_
                    refine va_put (D := G) (ci := 2) (v := .int (nI (m_18 + 1))) (ty := .int) (C := RX3) (T := TX3) (N := 7) hx hb hts iX_X3 tyX3 tyX3_ok nmX3 hown hK hP hD hS 0 rfl rfl 3 (by decide +kernel) (hts _ m_t152) (fun _ h9 => h9) rfl (by decide +kernel) rfl rfl (Nat.le_of_ble_eq_true rfl) (g_181 (v := 33) bX3_step rfl) (fun H locs => ?_)
                    clear hP hD hS
                    intro hP hD hS
                    have hPD := pd_as [zzO qa 2 [.ref qab, .int (nI kZ), .int (nI j_4), .int (nI (m_18 + 1)), .int r_10, .int iF, .ref qd], _] hP hD rfl
                    clear hP hD
                    obtain ⟨hP, hD⟩ := hPD
                    refine lv_goto (tgt := 104) hx hb dX3_step_144 (by decide +kernel) ?_
                    exact ih_17 (m_18 + 1) (by omega) (by omega) (by omega) (by rw [← hU_21, show kZ - m_18 = kZ - (m_18 + 1) + 1 by omega, wd_go ((srt_1 h_28 (c_29.trans c_14)).2)]) _ _ _ hP hD hS (lv_sub hl [0, 1] rfl)
            exact lp_15 ((250 - (j_4 + 1)) + 1) (j_4 + 1) (Nat.lt_succ_self _) (by omega) (by omega) rfl _ _ ls hP hD hS (lv_sub hl [0, 1] rfl)
          · refine lv_aload_n hx hb (g_42 bX3_step rfl) rfl (lv_at hl 0 rfl) ?_
            refine va_get (D := G) (ci := 2) (v := .int r_10) (C := RX3) (T := TX3) (N := 7) hx hb hts iX_X3 hown hK hP 0 rfl rfl 4 (by decide +kernel) (hts _ m_t153) (fun _ h9 => h9) rfl (g_180 (v := 42) bX3_step rfl) ?_
            refine lv_iconst (v := 2) hx hb (g_5 bX3_step rfl) (by decide +kernel) ?_
            refine lv_icmp_ne (tgt := 102) hx hb dX3_step_95 (by decide +kernel) (fun c_31 => ?_) (fun c_31 => ?_)
            · refine lv_iconst (v := 0) hx hb (g_3 bX3_step rfl) (by decide +kernel) ?_
              refine lv_istore_n (lv' := [(1, .int 0), (0, .ref qa)]) hx hb (g_60 bX3_step rfl) rfl hl (by decide +kernel) rfl (fun ls => ?_)
              clear hl
              intro hl
              refine lv_iload_n hx hb (g_27 bX3_step rfl) rfl (lv_at hl 0 rfl) ?_
              refine lv_if_eq (tgt := 147) hx hb dX3_step_105 (by decide +kernel) (fun _ => ?_) (fun h9 => absurd (by decide +kernel) h9)
              exact endVs [[true, true]] hx hb hr hlocks hP hD rfl (by decide +kernel) hS ⟨j_4, (j_4 + 1), r_10, rfl, ⟨by omega, by omega⟩, (sp_3 hE hlt_9f h_11 c_12 c_14 c_31), (Lx_of hE (sp_3 hE hlt_9f h_11 c_12 c_14 c_31))⟩ (g_177 bX3_step rfl)
            · refine lv_iconst (v := 1) hx hb (g_4 bX3_step rfl) (by decide +kernel) ?_
              refine lv_goto (tgt := 103) hx hb dX3_step_99 (by decide +kernel) ?_
              refine lv_istore_n (lv' := [(1, .int 1), (0, .ref qa)]) hx hb (g_60 bX3_step rfl) rfl hl (by decide +kernel) rfl (fun ls => ?_)
              clear hl
              intro hl
              have lp_33 : ∀ (n_34 : Nat) (m_36 : Nat), 250 - m_36 < n_34 → j_4 < m_36 → m_36 ≤ kZ → wdF zdg fB (kZ - m_36) m_36 = wdF zdg fB (kZ - (j_4 + 1)) (j_4 + 1) → ∀ (H : Heap) (locs : List Loc) (ls : Array Slot), va_P G CL [zzO qa 2 [.ref qab, .int (nI kZ), .int (nI j_4), .int (nI m_36), .int r_10, .int iF, .ref qd], zzB cy qab 250 fB] H → va_D A [zzO qa 2 [.ref qab, .int (nI kZ), .int (nI j_4), .int (nI m_36), .int r_10, .int iF, .ref qd], zzB cy qab 250 fB] → va_S A s.heap H locs → lv_has ls 2 [(1, .int 1), (0, .ref qa)] → W p l e (Rm 2 0 0) s m (List.toArray (α := Value) [.ref qa]) below meth c H locs 0 0 (MQ below ((Wv G (fun u => ∃ (kX : Nat) (kY : Nat) (iX : Int32), u = [zzO qa 2 [.ref qab, .int (nI kZ), .int (nI kX), .int (nI kY), .int iX, .int iF, .ref qd], zzB cy qab 250 fB] ∧ (kX ≤ kY ∧ kY ≤ kZ) ∧ lx (nbf fB kZ) kZ kE = (kX, iX, kY) ∧ Lx fB kZ kX iX kY)) A) (List.toArray (α := Value) [.ref qa]) s 0 0 A) (F0 m 104 ls []) := by
                intro n_34
                induction n_34 with
                | zero => intro m_36 hm9; exact absurd hm9 (Nat.not_lt_zero _)
                | succ n_34 ih_35 =>
                  intro m_36 hm_40 hm1_37 hm2_38 hU_39 H locs ls hP hD hS hl
                  refine lv_iload_n hx hb (g_27 bX3_step rfl) rfl (lv_at hl 0 rfl) ?_
                  refine lv_if_eq (tgt := 147) hx hb dX3_step_105 (by decide +kernel) (fun h9 => absurd h9 (by decide +kernel)) (fun _ => ?_)
                  refine lv_aload_n hx hb (g_42 bX3_step rfl) rfl (lv_at hl 1 rfl) ?_
                  refine va_get (D := G) (ci := 2) (v := .int (nI m_36)) (C := RX3) (T := TX3) (N := 7) hx hb hts iX_X3 hown hK hP 0 rfl rfl 3 (by decide +kernel) (hts _ m_t152) (fun _ h9 => h9) rfl (g_180 (v := 33) bX3_step rfl) ?_
                  refine lv_aload_n hx hb (g_42 bX3_step rfl) rfl (lv_at hl 1 rfl) ?_
                  refine va_get (D := G) (ci := 2) (v := .int (nI kZ)) (C := RX3) (T := TX3) (N := 7) hx hb hts iX_X3 hown hK hP 0 rfl rfl 1 (by decide +kernel) (hts _ m_t149) (fun _ h9 => h9) rfl (g_180 (v := 22) bX3_step rfl) ?_
                  refine lv_icmp_ge (tgt := 147) hx hb dX3_step_116 (by decide +kernel) (fun c_42 => ?_) (fun c_42 => ?_)
                  · have hlt_43 : m_36 = kZ := Nat.le_antisymm (by omega) (lp_ge rfl rfl (by omega) (by omega) c_42)
                    have hlt_43w : wdF zdg fB (kZ - (j_4 + 1)) (j_4 + 1) = m_36 := by rw [← hU_39, show kZ - m_36 = 0 by omega]; rfl
                    exact endVs [[true, true]] hx hb hr hlocks hP hD rfl (by decide +kernel) hS ⟨j_4, m_36, r_10, rfl, ⟨by omega, by omega⟩, (sp_2 hE hlt_9f h_11 c_31 hlt_43w), (Lx_of hE (sp_2 hE hlt_9f h_11 c_31 hlt_43w))⟩ (g_177 bX3_step rfl)
                  · have hlt_44 : m_36 < kZ := lp_lt rfl rfl (by omega) (by omega) c_42
                    refine lv_aload_n hx hb (g_42 bX3_step rfl) rfl (lv_at hl 1 rfl) ?_
                    refine lv_aload_n hx hb (g_42 bX3_step rfl) rfl (lv_at hl 1 rfl) ?_
                    refine va_get (D := G) (ci := 2) (v := .int (nI m_36)) (C := RX3) (T := TX3) (N := 7) hx hb hts iX_X3 hown hK hP 0 rfl rfl 3 (by decide +kernel) (hts _ m_t152) (fun _ h9 => h9) rfl (g_180 (v := 33) bX3_step rfl) ?_
                    refine kRi (rV (As := [.int (nI m_36)]) (rest := []) (b := qa) ⟨hx, hb, hml, hown, hts⟩ (x_X3_sortAt l G cy qa qab kZ j_4 m_36 r_10 iF qd fB m_36 hZ (by omega)) L_X3_133 (preRV (q := (RX3, TX3, 7)) hN hP [0, 1] rfl 0 2 rfl rfl) rfl ⟨Nat.le_of_ble_eq_true rfl, Nat.le_of_ble_eq_true rfl⟩ hl.1 (Nat.le_of_ble_eq_true rfl) (g_182 (v := 133) bX3_step rfl) ⟨Nat.le_of_ble_eq_true rfl, Nat.le_of_ble_eq_true rfl⟩) (fun r_45 h_46 => ?_)
                    refine lv_aload_n hx hb (g_42 bX3_step rfl) rfl (lv_at hl 1 rfl) ?_
                    refine va_get (D := G) (ci := 2) (v := .int r_10) (C := RX3) (T := TX3) (N := 7) hx hb hts iX_X3 hown hK hP 0 rfl rfl 4 (by decide +kernel) (hts _ m_t153) (fun _ h9 => h9) rfl (g_180 (v := 42) bX3_step rfl) ?_
                    refine lv_icmp_ne (tgt := 147) hx hb dX3_step_131 (by decide +kernel) (fun c_47 => ?_) (fun c_47 => ?_)
                    · have hz_48w : wdF zdg fB (kZ - (j_4 + 1)) (j_4 + 1) = m_36 := by rw [← hU_39, show kZ - m_36 = kZ - (m_36 + 1) + 1 by omega, wd_no (srt_n2 h_46 hlt_44 (fun q => c_47 (q.trans c_31.symm)))]
                      exact endVs [[true, true]] hx hb hr hlocks hP hD rfl (by decide +kernel) hS ⟨j_4, m_36, r_10, rfl, ⟨by omega, by omega⟩, (sp_2 hE hlt_9f h_11 c_31 hz_48w), (Lx_of hE (sp_2 hE hlt_9f h_11 c_31 hz_48w))⟩ (g_177 bX3_step rfl)
                    · refine lv_aload_n hx hb (g_42 bX3_step rfl) rfl (lv_at hl 1 rfl) ?_
                      refine lv_dup hx hb (g_89 bX3_step rfl) rfl ?_
                      refine va_get (D := G) (ci := 2) (v := .int (nI m_36)) (C := RX3) (T := TX3) (N := 7) hx hb hts iX_X3 hown hK hP 0 rfl rfl 3 (by decide +kernel) (hts _ m_t152) (fun _ h9 => h9) rfl (g_180 (v := 33) bX3_step rfl) ?_
                      refine lv_iconst (v := 1) hx hb (g_4 bX3_step rfl) (by decide +kernel) ?_
                      refine lv_iadd hx hb (g_96 bX3_step rfl) ?_
                      refine lv_seti (v := nI (m_36 + 1)) (nI_1 _) ?_
                      refine va_put (D := G) (ci := 2) (v := .int (nI (m_36 + 1))) (ty := .int) (C := RX3) (T := TX3) (N := 7) hx hb hts iX_X3 tyX3 tyX3_ok nmX3 hown hK hP hD hS 0 rfl rfl 3 (by decide +kernel) (hts _ m_t152) (fun _ h9 => h9) rfl (by decide +kernel) rfl rfl (Nat.le_of_ble_eq_true rfl) (g_181 (v := 33) bX3_step rfl) (fun H locs => ?_)
                      clear hP hD hS
                      intro hP hD hS
                      have hPD := pd_as [zzO qa 2 [.ref qab, .int (nI kZ), .int (nI j_4), .int (nI (m_36 + 1)), .int r_10, .int iF, .ref qd], _] hP hD rfl
                      clear hP hD
                      obtain ⟨hP, hD⟩ := hPD
                      refine lv_goto (tgt := 104) hx hb dX3_step_144 (by decide +kernel) ?_
                      exact ih_35 (m_36 + 1) (by omega) (by omega) (by omega) (by rw [← hU_39, show kZ - m_36 = kZ - (m_36 + 1) + 1 by omega, wd_go ((srt_2 h_46 (c_47.trans c_31)).2.2)]) _ _ _ hP hD hS (lv_sub hl [0, 1] rfl)
              exact lp_33 ((250 - (j_4 + 1)) + 1) (j_4 + 1) (Nat.lt_succ_self _) (by omega) (by omega) rfl _ _ ls hP hD hS (lv_sub hl [0, 1] rfl)
        · refine lv_aload_n hx hb (g_42 bX3_step rfl) rfl (lv_at hl 0 rfl) ?_
          refine va_get (D := G) (ci := 2) (v := .int (nI j_4)) (C := RX3) (T := TX3) (N := 7) hx hb hts iX_X3 hown hK hP 0 rfl rfl 2 (by decide +kernel) (hts _ m_t151) (fun _ h9 => h9) rfl (g_180 (v := 121) bX3_step rfl) ?_
          refine lv_goto (tgt := 79) hx hb dX3_step_70 (by decide +kernel) ?_
          refine va_put (D := G) (ci := 2) (v := .int (nI j_4)) (ty := .int) (C := RX3) (T := TX3) (N := 7) hx hb hts iX_X3 tyX3 tyX3_ok nmX3 hown hK hP hD hS 0 rfl rfl 3 (by decide +kernel) (hts _ m_t152) (fun _ h9 => h9) rfl (by decide +kernel) rfl rfl (Nat.le_of_ble_eq_true rfl) (g_181 (v := 33) bX3_step rfl) (fun H locs => ?_)
          clear hP hD hS
          intro hP hD hS
          have hPD := pd_as [zzO qa 2 [.ref qab, .int (nI kZ), .int (nI j_4), .int (nI j_4), .int r_10, .int iF, .ref qd], _] hP hD rfl
          clear hP hD
          obtain ⟨hP, hD⟩ := hPD
          refine lv_aload_n hx hb (g_42 bX3_step rfl) rfl (lv_at hl 0 rfl) ?_
          refine va_get (D := G) (ci := 2) (v := .int r_10) (C := RX3) (T := TX3) (N := 7) hx hb hts iX_X3 hown hK hP 0 rfl rfl 4 (by decide +kernel) (hts _ m_t153) (fun _ h9 => h9) rfl (g_180 (v := 42) bX3_step rfl) ?_
          refine lv_iconst (v := 1) hx hb (g_4 bX3_step rfl) (by decide +kernel) ?_
          refine lv_icmp_eq (tgt := 98) hx hb dX3_step_87 (by decide +kernel) (fun c_49 => ?_) (fun c_49 => ?_)
          · exact absurd (c_12.symm.trans c_49) (by decide +kernel)
          · refine lv_aload_n hx hb (g_42 bX3_step rfl) rfl (lv_at hl 0 rfl) ?_
            refine va_get (D := G) (ci := 2) (v := .int r_10) (C := RX3) (T := TX3) (N := 7) hx hb hts iX_X3 hown hK hP 0 rfl rfl 4 (by decide +kernel) (hts _ m_t153) (fun _ h9 => h9) rfl (g_180 (v := 42) bX3_step rfl) ?_
            refine lv_iconst (v := 2) hx hb (g_5 bX3_step rfl) (by decide +kernel) ?_
            refine lv_icmp_ne (tgt := 102) hx hb dX3_step_95 (by decide +kernel) (fun c_50 => ?_) (fun c_50 => ?_)
            · refine lv_iconst (v := 0) hx hb (g_3 bX3_step rfl) (by decide +kernel) ?_
              refine lv_istore_n (lv' := [(1, .int 0), (0, .ref qa)]) hx hb (g_60 bX3_step rfl) rfl hl (by decide +kernel) rfl (fun ls => ?_)
              clear hl
              intro hl
              refine lv_iload_n hx hb (g_27 bX3_step rfl) rfl (lv_at hl 0 rfl) ?_
              refine lv_if_eq (tgt := 147) hx hb dX3_step_105 (by decide +kernel) (fun _ => ?_) (fun h9 => absurd (by decide +kernel) h9)
              exact endVs [[true, true]] hx hb hr hlocks hP hD rfl (by decide +kernel) hS ⟨j_4, j_4, r_10, rfl, ⟨by omega, by omega⟩, (sp_0 hE hlt_9f (by omega) h_11 c_12), (Lx_of hE (sp_0 hE hlt_9f (by omega) h_11 c_12))⟩ (g_177 bX3_step rfl)
            · exact absurd (c_12.symm.trans c_50) (by decide +kernel)
      · have hlt_52 : j_4 < kZ := lp_lt rfl rfl (by omega) (by omega) c_8
        refine lv_aload_n hx hb (g_42 bX3_step rfl) rfl (lv_at hl 0 rfl) ?_
        refine va_get (D := G) (ci := 2) (v := .ref qab) (C := RX3) (T := TX3) (N := 7) hx hb hts iX_X3 hown hK hP 0 rfl rfl 0 (by decide +kernel) (hts _ m_t148) (fun _ h9 => h9) rfl (g_180 (v := 11) bX3_step rfl) ?_
        refine lv_aload_n hx hb (g_42 bX3_step rfl) rfl (lv_at hl 0 rfl) ?_
        refine va_get (D := G) (ci := 2) (v := .int (nI j_4)) (C := RX3) (T := TX3) (N := 7) hx hb hts iX_X3 hown hK hP 0 rfl rfl 2 (by decide +kernel) (hts _ m_t151) (fun _ h9 => h9) rfl (g_180 (v := 121) bX3_step rfl) ?_
        refine va_bald hx hb hK hP 1 2 rfl rfl (vp_in_nI (by omega) (by omega)) (g_51 bX3_step rfl) ?_
        refine lv_seti (v := fB j_4) (congrArg fB (nI_clamp (by omega))) ?_
        refine lv_bipush (v := 32) hx hb dX3_step_28 (by decide +kernel) ?_
        refine lv_icmp_ne (tgt := 46) hx hb dX3_step_30 (by decide +kernel) (fun c_53 => ?_) (fun c_53 => ?_)
        · have hlt_54f : j_4 = skF fB (kZ - kE) kE := by rw [← hT_6, show kZ - j_4 = kZ - (j_4 + 1) + 1 by omega, sk_no c_53]
          refine lv_aload_n hx hb (g_42 bX3_step rfl) rfl (lv_at hl 0 rfl) ?_
          refine lv_aload_n hx hb (g_42 bX3_step rfl) rfl (lv_at hl 0 rfl) ?_
          refine lv_aload_n hx hb (g_42 bX3_step rfl) rfl (lv_at hl 0 rfl) ?_
          refine va_get (D := G) (ci := 2) (v := .int (nI j_4)) (C := RX3) (T := TX3) (N := 7) hx hb hts iX_X3 hown hK hP 0 rfl rfl 2 (by decide +kernel) (hts _ m_t151) (fun _ h9 => h9) rfl (g_180 (v := 121) bX3_step rfl) ?_
          refine kRi (rV (As := [.int (nI j_4)]) (rest := [.ref qa]) (b := qa) ⟨hx, hb, hml, hown, hts⟩ (x_X3_sortAt l G cy qa qab kZ j_4 kE iT iF qd fB j_4 hZ (by omega)) L_X3_133 (preRV (q := (RX3, TX3, 7)) hN hP [0, 1] rfl 0 2 rfl rfl) rfl ⟨Nat.le_of_ble_eq_true rfl, Nat.le_of_ble_eq_true rfl⟩ hl.1 (Nat.le_of_ble_eq_true rfl) (g_182 (v := 133) bX3_step rfl) ⟨Nat.le_of_ble_eq_true rfl, Nat.le_of_ble_eq_true rfl⟩) (fun r_55 h_56 => ?_)
          refine va_put (D := G) (ci := 2) (v := .int r_55) (ty := .int) (C := RX3) (T := TX3) (N := 7) hx hb hts iX_X3 tyX3 tyX3_ok nmX3 hown hK hP hD hS 0 rfl rfl 4 (by decide +kernel) (hts _ m_t153) (fun _ h9 => h9) rfl (by decide +kernel) rfl rfl (Nat.le_of_ble_eq_true rfl) (g_181 (v := 42) bX3_step rfl) (fun H locs => ?_)
          clear hP hD hS
          intro hP hD hS
          have hPD := pd_as [zzO qa 2 [.ref qab, .int (nI kZ), .int (nI j_4), .int (nI kE), .int r_55, .int iF, .ref qd], _] hP hD rfl
          clear hP hD
          obtain ⟨hP, hD⟩ := hPD
          refine lv_aload_n hx hb (g_42 bX3_step rfl) rfl (lv_at hl 0 rfl) ?_
          refine lv_aload_n hx hb (g_42 bX3_step rfl) rfl (lv_at hl 0 rfl) ?_
          refine va_get (D := G) (ci := 2) (v := .int r_55) (C := RX3) (T := TX3) (N := 7) hx hb hts iX_X3 hown hK hP 0 rfl rfl 4 (by decide +kernel) (hts _ m_t153) (fun _ h9 => h9) rfl (g_180 (v := 42) bX3_step rfl) ?_
          refine lv_if_ne (tgt := 73) hx hb dX3_step_63 (by decide +kernel) (fun c_57 => ?_) (fun c_57 => ?_)
          · have hlt_58 : j_4 < kZ := by rcases Nat.lt_or_ge j_4 kZ with q | q; exact q; exact absurd (h_56.trans (srt0 (by omega))) c_57
            refine lv_aload_n hx hb (g_42 bX3_step rfl) rfl (lv_at hl 0 rfl) ?_
            refine va_get (D := G) (ci := 2) (v := .int (nI j_4)) (C := RX3) (T := TX3) (N := 7) hx hb hts iX_X3 hown hK hP 0 rfl rfl 2 (by decide +kernel) (hts _ m_t151) (fun _ h9 => h9) rfl (g_180 (v := 121) bX3_step rfl) ?_
            refine lv_iconst (v := 1) hx hb (g_4 bX3_step rfl) (by decide +kernel) ?_
            refine lv_iadd hx hb (g_96 bX3_step rfl) ?_
            refine lv_seti (v := nI (j_4 + 1)) (nI_1 _) ?_
            refine va_put (D := G) (ci := 2) (v := .int (nI (j_4 + 1))) (ty := .int) (C := RX3) (T := TX3) (N := 7) hx hb hts iX_X3 tyX3 tyX3_ok nmX3 hown hK hP hD hS 0 rfl rfl 3 (by decide +kernel) (hts _ m_t152) (fun _ h9 => h9) rfl (by decide +kernel) rfl rfl (Nat.le_of_ble_eq_true rfl) (g_181 (v := 33) bX3_step rfl) (fun H locs => ?_)
            clear hP hD hS
            intro hP hD hS
            have hPD := pd_as [zzO qa 2 [.ref qab, .int (nI kZ), .int (nI j_4), .int (nI (j_4 + 1)), .int r_55, .int iF, .ref qd], _] hP hD rfl
            clear hP hD
            obtain ⟨hP, hD⟩ := hPD
            refine lv_aload_n hx hb (g_42 bX3_step rfl) rfl (lv_at hl 0 rfl) ?_
            refine va_get (D := G) (ci := 2) (v := .int r_55) (C := RX3) (T := TX3) (N := 7) hx hb hts iX_X3 hown hK hP 0 rfl rfl 4 (by decide +kernel) (hts _ m_t153) (fun _ h9 => h9) rfl (g_180 (v := 42) bX3_step rfl) ?_
            refine lv_iconst (v := 1) hx hb (g_4 bX3_step rfl) (by decide +kernel) ?_
            refine lv_icmp_eq (tgt := 98) hx hb dX3_step_87 (by decide +kernel) (fun c_59 => ?_) (fun c_59 => ?_)
            · refine lv_iconst (v := 1) hx hb (g_4 bX3_step rfl) (by decide +kernel) ?_
              refine lv_goto (tgt := 103) hx hb dX3_step_99 (by decide +kernel) ?_
              refine lv_istore_n (lv' := [(1, .int 1), (0, .ref qa)]) hx hb (g_60 bX3_step rfl) rfl hl (by decide +kernel) rfl (fun ls => ?_)
              clear hl
              intro hl
              have lp_60 : ∀ (n_61 : Nat) (m_63 : Nat), 250 - m_63 < n_61 → j_4 < m_63 → m_63 ≤ kZ → wdF zlt fB (kZ - m_63) m_63 = wdF zlt fB (kZ - (j_4 + 1)) (j_4 + 1) → ∀ (H : Heap) (locs : List Loc) (ls : Array Slot), va_P G CL [zzO qa 2 [.ref qab, .int (nI kZ), .int (nI j_4), .int (nI m_63), .int r_55, .int iF, .ref qd], zzB cy qab 250 fB] H → va_D A [zzO qa 2 [.ref qab, .int (nI kZ), .int (nI j_4), .int (nI m_63), .int r_55, .int iF, .ref qd], zzB cy qab 250 fB] → va_S A s.heap H locs → lv_has ls 2 [(1, .int 1), (0, .ref qa)] → W p l e (Rm 2 0 0) s m (List.toArray (α := Value) [.ref qa]) below meth c H locs 0 0 (MQ below ((Wv G (fun u => ∃ (kX : Nat) (kY : Nat) (iX : Int32), u = [zzO qa 2 [.ref qab, .int (nI kZ), .int (nI kX), .int (nI kY), .int iX, .int iF, .ref qd], zzB cy qab 250 fB] ∧ (kX ≤ kY ∧ kY ≤ kZ) ∧ lx (nbf fB kZ) kZ kE = (kX, iX, kY) ∧ Lx fB kZ kX iX kY)) A) (List.toArray (α := Value) [.ref qa]) s 0 0 A) (F0 m 104 ls []) := by
                intro n_61
                induction n_61 with
                | zero => intro m_63 hm9; exact absurd hm9 (Nat.not_lt_zero _)
                | succ n_61 ih_62 =>
                  intro m_63 hm_67 hm1_64 hm2_65 hU_66 H locs ls hP hD hS hl
                  refine lv_iload_n hx hb (g_27 bX3_step rfl) rfl (lv_at hl 0 rfl) ?_
                  refine lv_if_eq (tgt := 147) hx hb dX3_step_105 (by decide +kernel) (fun h9 => absurd h9 (by decide +kernel)) (fun _ => ?_)
                  refine lv_aload_n hx hb (g_42 bX3_step rfl) rfl (lv_at hl 1 rfl) ?_
                  refine va_get (D := G) (ci := 2) (v := .int (nI m_63)) (C := RX3) (T := TX3) (N := 7) hx hb hts iX_X3 hown hK hP 0 rfl rfl 3 (by decide +kernel) (hts _ m_t152) (fun _ h9 => h9) rfl (g_180 (v := 33) bX3_step rfl) ?_
                  refine lv_aload_n hx hb (g_42 bX3_step rfl) rfl (lv_at hl 1 rfl) ?_
                  refine va_get (D := G) (ci := 2) (v := .int (nI kZ)) (C := RX3) (T := TX3) (N := 7) hx hb hts iX_X3 hown hK hP 0 rfl rfl 1 (by decide +kernel) (hts _ m_t149) (fun _ h9 => h9) rfl (g_180 (v := 22) bX3_step rfl) ?_
                  refine lv_icmp_ge (tgt := 147) hx hb dX3_step_116 (by decide +kernel) (fun c_69 => ?_) (fun c_69 => ?_)
                  · have hlt_70 : m_63 = kZ := Nat.le_antisymm (by omega) (lp_ge rfl rfl (by omega) (by omega) c_69)
                    have hlt_70w : wdF zlt fB (kZ - (j_4 + 1)) (j_4 + 1) = m_63 := by rw [← hU_66, show kZ - m_63 = 0 by omega]; rfl
                    exact endVs [[true, true]] hx hb hr hlocks hP hD rfl (by decide +kernel) hS ⟨j_4, m_63, r_55, rfl, ⟨by omega, by omega⟩, (sp_1 hE hlt_54f h_56 c_59 hlt_70w), (Lx_of hE (sp_1 hE hlt_54f h_56 c_59 hlt_70w))⟩ (g_177 bX3_step rfl)
                  · have hlt_71 : m_63 < kZ := lp_lt rfl rfl (by omega) (by omega) c_69
                    refine lv_aload_n hx hb (g_42 bX3_step rfl) rfl (lv_at hl 1 rfl) ?_
                    refine lv_aload_n hx hb (g_42 bX3_step rfl) rfl (lv_at hl 1 rfl) ?_
                    refine va_get (D := G) (ci := 2) (v := .int (nI m_63)) (C := RX3) (T := TX3) (N := 7) hx hb hts iX_X3 hown hK hP 0 rfl rfl 3 (by decide +kernel) (hts _ m_t152) (fun _ h9 => h9) rfl (g_180 (v := 33) bX3_step rfl) ?_
                    refine kRi (rV (As := [.int (nI m_63)]) (rest := []) (b := qa) ⟨hx, hb, hml, hown, hts⟩ (x_X3_sortAt l G cy qa qab kZ j_4 m_63 r_55 iF qd fB m_63 hZ (by omega)) L_X3_133 (preRV (q := (RX3, TX3, 7)) hN hP [0, 1] rfl 0 2 rfl rfl) rfl ⟨Nat.le_of_ble_eq_true rfl, Nat.le_of_ble_eq_true rfl⟩ hl.1 (Nat.le_of_ble_eq_true rfl) (g_182 (v := 133) bX3_step rfl) ⟨Nat.le_of_ble_eq_true rfl, Nat.le_of_ble_eq_true rfl⟩) (fun r_72 h_73 => ?_)
                    refine lv_aload_n hx hb (g_42 bX3_step rfl) rfl (lv_at hl 1 rfl) ?_
                    refine va_get (D := G) (ci := 2) (v := .int r_55) (C := RX3) (T := TX3) (N := 7) hx hb hts iX_X3 hown hK hP 0 rfl rfl 4 (by decide +kernel) (hts _ m_t153) (fun _ h9 => h9) rfl (g_180 (v := 42) bX3_step rfl) ?_
                    refine lv_icmp_ne (tgt := 147) hx hb dX3_step_131 (by decide +kernel) (fun c_74 => ?_) (fun c_74 => ?_)
                    · have hz_75w : wdF zlt fB (kZ - (j_4 + 1)) (j_4 + 1) = m_63 := by rw [← hU_66, show kZ - m_63 = kZ - (m_63 + 1) + 1 by omega, wd_no (srt_n1 h_73 hlt_71 (fun q => c_74 (q.trans c_59.symm)))]
                      exact endVs [[true, true]] hx hb hr hlocks hP hD rfl (by decide +kernel) hS ⟨j_4, m_63, r_55, rfl, ⟨by omega, by omega⟩, (sp_1 hE hlt_54f h_56 c_59 hz_75w), (Lx_of hE (sp_1 hE hlt_54f h_56 c_59 hz_75w))⟩ (g_177 bX3_step rfl)
                    · refine lv_aload_n hx hb (g_42 bX3_step rfl) rfl (lv_at hl 1 rfl) ?_
                      refine lv_dup hx hb (g_89 bX3_step rfl) rfl ?_
                      refine va_get (D := G) (ci := 2) (v := .int (nI m_63)) (C := RX3) (T := TX3) (N := 7) hx hb hts iX_X3 hown hK hP 0 rfl rfl 3 (by decide +kernel) (hts _ m_t152) (fun _ h9 => h9) rfl (g_180 (v := 33) bX3_step rfl) ?_
                      refine lv_iconst (v := 1) hx hb (g_4 bX3_step rfl) (by decide +kernel) ?_
                      refine lv_iadd hx hb (g_96 bX3_step rfl) ?_
                      refine lv_seti (v := nI (m_63 + 1)) (nI_1 _) ?_
                      refine va_put (D := G) (ci := 2) (v := .int (nI (m_63 + 1))) (ty := .int) (C := RX3) (T := TX3) (N := 7) hx hb hts iX_X3 tyX3 tyX3_ok nmX3 hown hK hP hD hS 0 rfl rfl 3 (by decide +kernel) (hts _ m_t152) (fun _ h9 => h9) rfl (by decide +kernel) rfl rfl (Nat.le_of_ble_eq_true rfl) (g_181 (v := 33) bX3_step rfl) (fun H locs => ?_)
                      clear hP hD hS
                      intro hP hD hS
                      have hPD := pd_as [zzO qa 2 [.ref qab, .int (nI kZ), .int (nI j_4), .int (nI (m_63 + 1)), .int r_55, .int iF, .ref qd], _] hP hD rfl
                      clear hP hD
                      obtain ⟨hP, hD⟩ := hPD
                      refine lv_goto (tgt := 104) hx hb dX3_step_144 (by decide +kernel) ?_
                      exact ih_62 (m_63 + 1) (by omega) (by omega) (by omega) (by rw [← hU_66, show kZ - m_63 = kZ - (m_63 + 1) + 1 by omega, wd_go ((srt_1 h_73 (c_74.trans c_59)).2)]) _ _ _ hP hD hS (lv_sub hl [0, 1] rfl)
              exact lp_60 ((250 - (j_4 + 1)) + 1) (j_4 + 1) (Nat.lt_succ_self _) (by omega) (by omega) rfl _ _ ls hP hD hS (lv_sub hl [0, 1] rfl)
            · refine lv_aload_n hx hb (g_42 bX3_step rfl) rfl (lv_at hl 0 rfl) ?_
              refine va_get (D := G) (ci := 2) (v := .int r_55) (C := RX3) (T := TX3) (N := 7) hx hb hts iX_X3 hown hK hP 0 rfl rfl 4 (by decide +kernel) (hts _ m_t153) (fun _ h9 => h9) rfl (g_180 (v := 42) bX3_step rfl) ?_
              refine lv_iconst (v := 2) hx hb (g_5 bX3_step rfl) (by decide +kernel) ?_
              refine lv_icmp_ne (tgt := 102) hx hb dX3_step_95 (by decide +kernel) (fun c_76 => ?_) (fun c_76 => ?_)
              · refine lv_iconst (v := 0) hx hb (g_3 bX3_step rfl) (by decide +kernel) ?_
                refine lv_istore_n (lv' := [(1, .int 0), (0, .ref qa)]) hx hb (g_60 bX3_step rfl) rfl hl (by decide +kernel) rfl (fun ls => ?_)
                clear hl
                intro hl
                refine lv_iload_n hx hb (g_27 bX3_step rfl) rfl (lv_at hl 0 rfl) ?_
                refine lv_if_eq (tgt := 147) hx hb dX3_step_105 (by decide +kernel) (fun _ => ?_) (fun h9 => absurd (by decide +kernel) h9)
                exact endVs [[true, true]] hx hb hr hlocks hP hD rfl (by decide +kernel) hS ⟨j_4, (j_4 + 1), r_55, rfl, ⟨by omega, by omega⟩, (sp_3 hE hlt_54f h_56 c_57 c_59 c_76), (Lx_of hE (sp_3 hE hlt_54f h_56 c_57 c_59 c_76))⟩ (g_177 bX3_step rfl)
              · refine lv_iconst (v := 1) hx hb (g_4 bX3_step rfl) (by decide +kernel) ?_
                refine lv_goto (tgt := 103) hx hb dX3_step_99 (by decide +kernel) ?_
                refine lv_istore_n (lv' := [(1, .int 1), (0, .ref qa)]) hx hb (g_60 bX3_step rfl) rfl hl (by decide +kernel) rfl (fun ls => ?_)
                clear hl
                intro hl
                have lp_78 : ∀ (n_79 : Nat) (m_81 : Nat), 250 - m_81 < n_79 → j_4 < m_81 → m_81 ≤ kZ → wdF zdg fB (kZ - m_81) m_81 = wdF zdg fB (kZ - (j_4 + 1)) (j_4 + 1) → ∀ (H : Heap) (locs : List Loc) (ls : Array Slot), va_P G CL [zzO qa 2 [.ref qab, .int (nI kZ), .int (nI j_4), .int (nI m_81), .int r_55, .int iF, .ref qd], zzB cy qab 250 fB] H → va_D A [zzO qa 2 [.ref qab, .int (nI kZ), .int (nI j_4), .int (nI m_81), .int r_55, .int iF, .ref qd], zzB cy qab 250 fB] → va_S A s.heap H locs → lv_has ls 2 [(1, .int 1), (0, .ref qa)] → W p l e (Rm 2 0 0) s m (List.toArray (α := Value) [.ref qa]) below meth c H locs 0 0 (MQ below ((Wv G (fun u => ∃ (kX : Nat) (kY : Nat) (iX : Int32), u = [zzO qa 2 [.ref qab, .int (nI kZ), .int (nI kX), .int (nI kY), .int iX, .int iF, .ref qd], zzB cy qab 250 fB] ∧ (kX ≤ kY ∧ kY ≤ kZ) ∧ lx (nbf fB kZ) kZ kE = (kX, iX, kY) ∧ Lx fB kZ kX iX kY)) A) (List.toArray (α := Value) [.ref qa]) s 0 0 A) (F0 m 104 ls []) := by
                  intro n_79
                  induction n_79 with
                  | zero => intro m_81 hm9; exact absurd hm9 (Nat.not_lt_zero _)
                  | succ n_79 ih_80 =>
                    intro m_81 hm_85 hm1_82 hm2_83 hU_84 H locs ls hP hD hS hl
                    refine lv_iload_n hx hb (g_27 bX3_step rfl) rfl (lv_at hl 0 rfl) ?_
                    refine lv_if_eq (tgt := 147) hx hb dX3_step_105 (by decide +kernel) (fun h9 => absurd h9 (by decide +kernel)) (fun _ => ?_)
                    refine lv_aload_n hx hb (g_42 bX3_step rfl) rfl (lv_at hl 1 rfl) ?_
                    refine va_get (D := G) (ci := 2) (v := .int (nI m_81)) (C := RX3) (T := TX3) (N := 7) hx hb hts iX_X3 hown hK hP 0 rfl rfl 3 (by decide +kernel) (hts _ m_t152) (fun _ h9 => h9) rfl (g_180 (v := 33) bX3_step rfl) ?_
                    refine lv_aload_n hx hb (g_42 bX3_step rfl) rfl (lv_at hl 1 rfl) ?_
                    refine va_get (D := G) (ci := 2) (v := .int (nI kZ)) (C := RX3) (T := TX3) (N := 7) hx hb hts iX_X3 hown hK hP 0 rfl rfl 1 (by decide +kernel) (hts _ m_t149) (fun _ h9 => h9) rfl (g_180 (v := 22) bX3_step rfl) ?_
                    refine lv_icmp_ge (tgt := 147) hx hb dX3_step_116 (by decide +kernel) (fun c_87 => ?_) (fun c_87 => ?_)
                    · have hlt_88 : m_81 = kZ := Nat.le_antisymm (by omega) (lp_ge rfl rfl (by omega) (by omega) c_87)
                      have hlt_88w : wdF zdg fB (kZ - (j_4 + 1)) (j_4 + 1) = m_81 := by rw [← hU_84, show kZ - m_81 = 0 by omega]; rfl
                      exact endVs [[true, true]] hx hb hr hlocks hP hD rfl (by decide +kernel) hS ⟨j_4, m_81, r_55, rfl, ⟨by omega, by omega⟩, (sp_2 hE hlt_54f h_56 c_76 hlt_88w), (Lx_of hE (sp_2 hE hlt_54f h_56 c_76 hlt_88w))⟩ (g_177 bX3_step rfl)
                    · have hlt_89 : m_81 < kZ := lp_lt rfl rfl (by omega) (by omega) c_87
                      refine lv_aload_n hx hb (g_42 bX3_step rfl) rfl (lv_at hl 1 rfl) ?_
                      refine lv_aload_n hx hb (g_42 bX3_step rfl) rfl (lv_at hl 1 rfl) ?_
                      refine va_get (D := G) (ci := 2) (v := .int (nI m_81)) (C := RX3) (T := TX3) (N := 7) hx hb hts iX_X3 hown hK hP 0 rfl rfl 3 (by decide +kernel) (hts _ m_t152) (fun _ h9 => h9) rfl (g_180 (v := 33) bX3_step rfl) ?_
                      refine kRi (rV (As := [.int (nI m_81)]) (rest := []) (b := qa) ⟨hx, hb, hml, hown, hts⟩ (x_X3_sortAt l G cy qa qab kZ j_4 m_81 r_55 iF qd fB m_81 hZ (by omega)) L_X3_133 (preRV (q := (RX3, TX3, 7)) hN hP [0, 1] rfl 0 2 rfl rfl) rfl ⟨Nat.le_of_ble_eq_true rfl, Nat.le_of_ble_eq_true rfl⟩ hl.1 (Nat.le_of_ble_eq_true rfl) (g_182 (v := 133) bX3_step rfl) ⟨Nat.le_of_ble_eq_true rfl, Nat.le_of_ble_eq_true rfl⟩) (fun r_90 h_91 => ?_)
                      refine lv_aload_n hx hb (g_42 bX3_step rfl) rfl (lv_at hl 1 rfl) ?_
                      refine va_get (D := G) (ci := 2) (v := .int r_55) (C := RX3) (T := TX3) (N := 7) hx hb hts iX_X3 hown hK hP 0 rfl rfl 4 (by decide +kernel) (hts _ m_t153) (fun _ h9 => h9) rfl (g_180 (v := 42) bX3_step rfl) ?_
                      refine lv_icmp_ne (tgt := 147) hx hb dX3_step_131 (by decide +kernel) (fun c_92 => ?_) (fun c_92 => ?_)
                      · have hz_93w : wdF zdg fB (kZ - (j_4 + 1)) (j_4 + 1) = m_81 := by rw [← hU_84, show kZ - m_81 = kZ - (m_81 + 1) + 1 by omega, wd_no (srt_n2 h_91 hlt_89 (fun q => c_92 (q.trans c_76.symm)))]
                        exact endVs [[true, true]] hx hb hr hlocks hP hD rfl (by decide +kernel) hS ⟨j_4, m_81, r_55, rfl, ⟨by omega, by omega⟩, (sp_2 hE hlt_54f h_56 c_76 hz_93w), (Lx_of hE (sp_2 hE hlt_54f h_56 c_76 hz_93w))⟩ (g_177 bX3_step rfl)
                      · refine lv_aload_n hx hb (g_42 bX3_step rfl) rfl (lv_at hl 1 rfl) ?_
                        refine lv_dup hx hb (g_89 bX3_step rfl) rfl ?_
                        refine va_get (D := G) (ci := 2) (v := .int (nI m_81)) (C := RX3) (T := TX3) (N := 7) hx hb hts iX_X3 hown hK hP 0 rfl rfl 3 (by decide +kernel) (hts _ m_t152) (fun _ h9 => h9) rfl (g_180 (v := 33) bX3_step rfl) ?_
                        refine lv_iconst (v := 1) hx hb (g_4 bX3_step rfl) (by decide +kernel) ?_
                        refine lv_iadd hx hb (g_96 bX3_step rfl) ?_
                        refine lv_seti (v := nI (m_81 + 1)) (nI_1 _) ?_
                        refine va_put (D := G) (ci := 2) (v := .int (nI (m_81 + 1))) (ty := .int) (C := RX3) (T := TX3) (N := 7) hx hb hts iX_X3 tyX3 tyX3_ok nmX3 hown hK hP hD hS 0 rfl rfl 3 (by decide +kernel) (hts _ m_t152) (fun _ h9 => h9) rfl (by decide +kernel) rfl rfl (Nat.le_of_ble_eq_true rfl) (g_181 (v := 33) bX3_step rfl) (fun H locs => ?_)
                        clear hP hD hS
                        intro hP hD hS
                        have hPD := pd_as [zzO qa 2 [.ref qab, .int (nI kZ), .int (nI j_4), .int (nI (m_81 + 1)), .int r_55, .int iF, .ref qd], _] hP hD rfl
                        clear hP hD
                        obtain ⟨hP, hD⟩ := hPD
                        refine lv_goto (tgt := 104) hx hb dX3_step_144 (by decide +kernel) ?_
                        exact ih_80 (m_81 + 1) (by omega) (by omega) (by omega) (by rw [← hU_84, show kZ - m_81 = kZ - (m_81 + 1) + 1 by omega, wd_go ((srt_2 h_91 (c_92.trans c_76)).2.2)]) _ _ _ hP hD hS (lv_sub hl [0, 1] rfl)
                exact lp_78 ((250 - (j_4 + 1)) + 1) (j_4 + 1) (Nat.lt_succ_self _) (by omega) (by omega) rfl _ _ ls hP hD hS (lv_sub hl [0, 1] rfl)
          · refine lv_aload_n hx hb (g_42 bX3_step rfl) rfl (lv_at hl 0 rfl) ?_
            refine va_get (D := G) (ci := 2) (v := .int (nI j_4)) (C := RX3) (T := TX3) (N := 7) hx hb hts iX_X3 hown hK hP 0 rfl rfl 2 (by decide +kernel) (hts _ m_t151) (fun _ h9 => h9) rfl (g_180 (v := 121) bX3_step rfl) ?_
            refine lv_goto (tgt := 79) hx hb dX3_step_70 (by decide +kernel) ?_
            refine va_put (D := G) (ci := 2) (v := .int (nI j_4)) (ty := .int) (C := RX3) (T := TX3) (N := 7) hx hb hts iX_X3 tyX3 tyX3_ok nmX3 hown hK hP hD hS 0 rfl rfl 3 (by decide +kernel) (hts _ m_t152) (fun _ h9 => h9) rfl (by decide +kernel) rfl rfl (Nat.le_of_ble_eq_true rfl) (g_181 (v := 33) bX3_step rfl) (fun H locs => ?_)
            clear hP hD hS
            intro hP hD hS
            have hPD := pd_as [zzO qa 2 [.ref qab, .int (nI kZ), .int (nI j_4), .int (nI j_4), .int r_55, .int iF, .ref qd], _] hP hD rfl
            clear hP hD
            obtain ⟨hP, hD⟩ := hPD
            refine lv_aload_n hx hb (g_42 bX3_step rfl) rfl (lv_at hl 0 rfl) ?_
            refine va_get (D := G) (ci := 2) (v := .int r_55) (C := RX3) (T := TX3) (N := 7) hx hb hts iX_X3 hown hK hP 0 rfl rfl 4 (by decide +kernel) (hts _ m_t153) (fun _ h9 => h9) rfl (g_180 (v := 42) bX3_step rfl) ?_
            refine lv_iconst (v := 1) hx hb (g_4 bX3_step rfl) (by decide +kernel) ?_
            refine lv_icmp_eq (tgt := 98) hx hb dX3_step_87 (by decide +kernel) (fun c_94 => ?_) (fun c_94 => ?_)
            · exact absurd (c_57.symm.trans c_94) (by decide +kernel)
            · refine lv_aload_n hx hb (g_42 bX3_step rfl) rfl (lv_at hl 0 rfl) ?_
              refine va_get (D := G) (ci := 2) (v := .int r_55) (C := RX3) (T := TX3) (N := 7) hx hb hts iX_X3 hown hK hP 0 rfl rfl 4 (by decide +kernel) (hts _ m_t153) (fun _ h9 => h9) rfl (g_180 (v := 42) bX3_step rfl) ?_
              refine lv_iconst (v := 2) hx hb (g_5 bX3_step rfl) (by decide +kernel) ?_
              refine lv_icmp_ne (tgt := 102) hx hb dX3_step_95 (by decide +kernel) (fun c_95 => ?_) (fun c_95 => ?_)
              · refine lv_iconst (v := 0) hx hb (g_3 bX3_step rfl) (by decide +kernel) ?_
                refine lv_istore_n (lv' := [(1, .int 0), (0, .ref qa)]) hx hb (g_60 bX3_step rfl) rfl hl (by decide +kernel) rfl (fun ls => ?_)
                clear hl
                intro hl
                refine lv_iload_n hx hb (g_27 bX3_step rfl) rfl (lv_at hl 0 rfl) ?_
                refine lv_if_eq (tgt := 147) hx hb dX3_step_105 (by decide +kernel) (fun _ => ?_) (fun h9 => absurd (by decide +kernel) h9)
                exact endVs [[true, true]] hx hb hr hlocks hP hD rfl (by decide +kernel) hS ⟨j_4, j_4, r_55, rfl, ⟨by omega, by omega⟩, (sp_0 hE hlt_54f (by omega) h_56 c_57), (Lx_of hE (sp_0 hE hlt_54f (by omega) h_56 c_57))⟩ (g_177 bX3_step rfl)
              · exact absurd (c_57.symm.trans c_95) (by decide +kernel)
        · refine lv_aload_n hx hb (g_42 bX3_step rfl) rfl (lv_at hl 0 rfl) ?_
          refine lv_dup hx hb (g_89 bX3_step rfl) rfl ?_
          refine va_get (D := G) (ci := 2) (v := .int (nI j_4)) (C := RX3) (T := TX3) (N := 7) hx hb hts iX_X3 hown hK hP 0 rfl rfl 2 (by decide +kernel) (hts _ m_t151) (fun _ h9 => h9) rfl (g_180 (v := 121) bX3_step rfl) ?_
          refine lv_iconst (v := 1) hx hb (g_4 bX3_step rfl) (by decide +kernel) ?_
          refine lv_iadd hx hb (g_96 bX3_step rfl) ?_
          refine lv_seti (v := nI (j_4 + 1)) (nI_1 _) ?_
          refine va_put (D := G) (ci := 2) (v := .int (nI (j_4 + 1))) (ty := .int) (C := RX3) (T := TX3) (N := 7) hx hb hts iX_X3 tyX3 tyX3_ok nmX3 hown hK hP hD hS 0 rfl rfl 2 (by decide +kernel) (hts _ m_t151) (fun _ h9 => h9) rfl (by decide +kernel) rfl rfl (Nat.le_of_ble_eq_true rfl) (g_181 (v := 121) bX3_step rfl) (fun H locs => ?_)
          clear hP hD hS
          intro hP hD hS
          have hPD := pd_as [zzO qa 2 [.ref qab, .int (nI kZ), .int (nI (j_4 + 1)), .int (nI kE), .int iT, .int iF, .ref qd], _] hP hD rfl
          clear hP hD
          obtain ⟨hP, hD⟩ := hPD
          refine lv_goto (tgt := 8) hx hb dX3_step_43 (by decide +kernel) ?_
          exact ih_3 (j_4 + 1) (by omega) (⟨by omega, by omega⟩) (by rw [← hT_6, show kZ - j_4 = kZ - (j_4 + 1) + 1 by omega, sk_go c_53]) _ _ _ hP hD hS (lv_sub hl [0] rfl)
  exact lp_1 ((250 - kE) + 1) kE (Nat.lt_succ_self _) (⟨Nat.le_refl _, hE⟩) rfl _ _ ls hP hD hS (lv_sub hl [0] rfl)
set_option maxHeartbeats 4000000 in
set_option maxRecDepth 100000 in
theorem x_X3_fail (l : Launch) (G : va_G) (cy : Nat → ClassId) (sz : Nat) (qa : Nat) (qab : Nat) (kZ : Nat) (kS : Nat) (kE : Nat) (iT : Int32) (iF : Int32) (qd : Nat)  (hZ : kZ ≤ 250) (hE : kS ≤ kE ∧ kE ≤ kZ) : MW l yX3_fail cX3_fail 1 none 1 0 0 G cy [zzO qa 2 [.ref qab, .int (nI kZ), .int (nI kS), .int (nI kE), .int iT, .int iF, .ref qd]] sz [.ref qa] (Wv G (fun u => ∃ (iX : Int32), u = [zzO qa 2 [.ref qab, .int (nI kZ), .int (nI kS), .int (nI kE), .int iT, .int iX, .ref qd]] ∧ (¬ iX = -1) ∧ iX = fal iF kS)) := by
  refine enW RX3 (by decide +kernel) rfl (Nat.le_of_ble_eq_true rfl) (fun p e s m below meth c ls A hx hb hml hown hts hr hlocks hP hN hl hin hD hA hS => ?_)
  have hin : meth.name = _ := hin
  have hK := hN.1
  replace hl : lv_has ls 1 [(0, .ref qa)] := hl
  refine lv_aload_n hx hb (g_42 bX3_fail rfl) rfl (lv_at hl 0 rfl) ?_
  refine va_get (D := G) (ci := 2) (v := .int iF) (C := RX3) (T := TX3) (N := 7) hx hb hts iX_X3 hown hK hP 0 rfl rfl 5 (by decide +kernel) (hts _ m_t154) (fun _ h9 => h9) rfl (g_180 (v := 30) bX3_fail rfl) ?_
  refine lv_iconst (v := (-1)) hx hb (g_2 bX3_fail rfl) (by decide +kernel) ?_
  refine lv_icmp_ne (tgt := 16) hx hb dX3_fail_5 (by decide +kernel) (fun c_1 => ?_) (fun c_1 => ?_)
  · exact endVs [[true]] hx hb hr hlocks hP hD rfl (by decide +kernel) hS ⟨iF, rfl, c_1, (fal_0 c_1).symm⟩ (g_177 bX3_fail rfl)
  · refine lv_aload_n hx hb (g_42 bX3_fail rfl) rfl (lv_at hl 0 rfl) ?_
    refine lv_aload_n hx hb (g_42 bX3_fail rfl) rfl (lv_at hl 0 rfl) ?_
    refine va_get (D := G) (ci := 2) (v := .int (nI kS)) (C := RX3) (T := TX3) (N := 7) hx hb hts iX_X3 hown hK hP 0 rfl rfl 2 (by decide +kernel) (hts _ m_t151) (fun _ h9 => h9) rfl (g_180 (v := 121) bX3_fail rfl) ?_
    refine va_put (D := G) (ci := 2) (v := .int (nI kS)) (ty := .int) (C := RX3) (T := TX3) (N := 7) hx hb hts iX_X3 tyX3 tyX3_ok nmX3 hown hK hP hD hS 0 rfl rfl 5 (by decide +kernel) (hts _ m_t154) (fun _ h9 => h9) rfl (by decide +kernel) rfl rfl (Nat.le_of_ble_eq_true rfl) (g_181 (v := 30) bX3_fail rfl) (fun H locs => ?_)
    clear hP hD hS
    intro hP hD hS
    have hPD := pd_as [zzO qa 2 [.ref qab, .int (nI kZ), .int (nI kS), .int (nI kE), .int iT, .int (nI kS), .ref qd]] hP hD rfl
    clear hP hD
    obtain ⟨hP, hD⟩ := hPD
    exact endVs [[true]] hx hb hr hlocks hP hD rfl (by decide +kernel) hS ⟨nI kS, rfl, (nI_ne1' (by omega)), (fal_1 c_1).symm⟩ (g_177 bX3_fail rfl)
set_option maxHeartbeats 4000000 in
set_option maxRecDepth 100000 in
theorem x_X3_numberThere (l : Launch) (G : va_G) (cy : Nat → ClassId) (qa : Nat) (qab : Nat) (kZ : Nat) (kS : Nat) (kE : Nat) (iT : Int32) (iF : Int32) (qd : Nat) (fB : Nat → Int32)  (hZ : kZ ≤ 250) (hE : kS ≤ kE ∧ kE ≤ kZ) : MR l yX3_numberThere cX3_numberThere 3 (some .int) 1 G cy [zzO qa 2 [.ref qab, .int (nI kZ), .int (nI kS), .int (nI kE), .int iT, .int iF, .ref qd], zzB cy qab 250 fB] [.ref qa] (vp_Si (fun r => r = zNT fB kS kE iT)) := by
  refine enR RX3 (by decide +kernel) rfl (Nat.le_of_ble_eq_true rfl) (fun p e s m below meth c ls hx hb hml hown hts hr hlocks hP hN hl => ?_)
  have hK := hN.1
  replace hl : lv_has ls 3 [(0, .ref qa)] := hl
  refine lv_aload_n hx hb (g_42 bX3_numberThere rfl) rfl (lv_at hl 0 rfl) ?_
  refine va_get (D := G) (ci := 2) (v := .int iT) (C := RX3) (T := TX3) (N := 7) hx hb hts iX_X3 hown hK hP 0 rfl rfl 4 (by decide +kernel) (hts _ m_t153) (fun _ h9 => h9) rfl (g_180 (v := 42) bX3_numberThere rfl) ?_
  refine lv_iconst (v := 2) hx hb (g_5 bX3_numberThere rfl) (by decide +kernel) ?_
  refine lv_icmp_ne (tgt := 21) hx hb dX3_numberThere_5 (by decide +kernel) (fun c_1 => ?_) (fun c_1 => ?_)
  · refine lv_iconst (v := (-1)) hx hb (g_2 bX3_numberThere rfl) (by decide +kernel) ?_
    exact endR hx hb hr hlocks rfl ((nt_no1 c_1).symm) (g_172 bX3_numberThere rfl)
  · refine lv_aload_n hx hb (g_42 bX3_numberThere rfl) rfl (lv_at hl 0 rfl) ?_
    refine va_get (D := G) (ci := 2) (v := .int (nI kE)) (C := RX3) (T := TX3) (N := 7) hx hb hts iX_X3 hown hK hP 0 rfl rfl 3 (by decide +kernel) (hts _ m_t152) (fun _ h9 => h9) rfl (g_180 (v := 33) bX3_numberThere rfl) ?_
    refine lv_aload_n hx hb (g_42 bX3_numberThere rfl) rfl (lv_at hl 0 rfl) ?_
    refine va_get (D := G) (ci := 2) (v := .int (nI kS)) (C := RX3) (T := TX3) (N := 7) hx hb hts iX_X3 hown hK hP 0 rfl rfl 2 (by decide +kernel) (hts _ m_t151) (fun _ h9 => h9) rfl (g_180 (v := 121) bX3_numberThere rfl) ?_
    refine lv_isub hx hb (g_100 bX3_numberThere rfl) ?_
    refine lv_iconst (v := 3) hx hb (g_6 bX3_numberThere rfl) (by decide +kernel) ?_
    refine lv_icmp_le (tgt := 23) hx hb dX3_numberThere_18 (by decide +kernel) (fun c_2 => ?_) (fun c_2 => ?_)
    · have h3_3 := n3_le (by omega) (by omega) c_2
      refine lv_iconst (v := 0) hx hb (g_3 bX3_numberThere rfl) (by decide +kernel) ?_
      refine lv_istore_n (lv' := [(1, .int 0), (0, .ref qa)]) hx hb (g_60 bX3_numberThere rfl) rfl hl (by decide +kernel) rfl (fun ls => ?_)
      clear hl
      intro hl
      refine lv_aload_n hx hb (g_42 bX3_numberThere rfl) rfl (lv_at hl 1 rfl) ?_
      refine va_get (D := G) (ci := 2) (v := .int (nI kS)) (C := RX3) (T := TX3) (N := 7) hx hb hts iX_X3 hown hK hP 0 rfl rfl 2 (by decide +kernel) (hts _ m_t151) (fun _ h9 => h9) rfl (g_180 (v := 121) bX3_numberThere rfl) ?_
      refine lv_istore_n (lv' := [(2, .int (nI kS)), (1, .int 0), (0, .ref qa)]) hx hb (g_61 bX3_numberThere rfl) rfl hl (by decide +kernel) rfl (fun ls => ?_)
      clear hl
      intro hl
      have lp_4 : ∀ (n_5 : Nat) (j_7 : Nat) (xV_8 : Int32), 250 - j_7 < n_5 → kS ≤ j_7 → j_7 ≤ kE → nvF fB (kE - j_7) j_7 xV_8 = nvF fB (kE - kS) kS 0 → ∀ (ls : Array Slot), lv_has ls 3 [(2, .int (nI j_7)), (1, .int xV_8), (0, .ref qa)] → W p l e (Rm 1 0 0) s m (List.toArray (α := Value) [.ref qa]) below meth c s.heap [] 0 0 (MQ below (vp_Si (fun r => r = zNT fB kS kE iT)) (List.toArray (α := Value) [.ref qa]) s 0 0 (fun _ => False)) (F0 m 30 ls []) := by
        intro n_5
        induction n_5 with
        | zero => intro j_7 xV_8 hm9; exact absurd hm9 (Nat.not_lt_zero _)
        | succ n_5 ih_6 =>
          intro j_7 xV_8 hm_12 hj1_9 hj2_10 hT_11 ls hl
          refine lv_iload_n hx hb (g_28 bX3_numberThere rfl) rfl (lv_at hl 0 rfl) ?_
          refine lv_aload_n hx hb (g_42 bX3_numberThere rfl) rfl (lv_at hl 2 rfl) ?_
          refine va_get (D := G) (ci := 2) (v := .int (nI kE)) (C := RX3) (T := TX3) (N := 7) hx hb hts iX_X3 hown hK hP 0 rfl rfl 3 (by decide +kernel) (hts _ m_t152) (fun _ h9 => h9) rfl (g_180 (v := 33) bX3_numberThere rfl) ?_
          refine lv_icmp_ge (tgt := 59) hx hb dX3_numberThere_35 (by decide +kernel) (fun c_13 => ?_) (fun c_13 => ?_)
          · have hlt_14 : j_7 = kE := Nat.le_antisymm (by omega) (lp_ge rfl rfl (by omega) (by omega) c_13)
            refine lv_iload_n hx hb (g_27 bX3_numberThere rfl) rfl (lv_at hl 1 rfl) ?_
            exact endR hx hb hr hlocks rfl ((by rw [nt_y c_1 h3_3, ← hT_11, hlt_14, Nat.sub_self]; rfl)) (g_172 bX3_numberThere rfl)
          · have hlt_15 : j_7 < kE := lp_lt rfl rfl (by omega) (by omega) c_13
            refine lv_bipush (v := 10) hx hb dX3_numberThere_38 (by decide +kernel) ?_
            refine lv_iload_n hx hb (g_27 bX3_numberThere rfl) rfl (lv_at hl 1 rfl) ?_
            refine lv_imul hx hb (g_104 bX3_numberThere rfl) ?_
            refine lv_aload_n hx hb (g_42 bX3_numberThere rfl) rfl (lv_at hl 2 rfl) ?_
            refine va_get (D := G) (ci := 2) (v := .ref qab) (C := RX3) (T := TX3) (N := 7) hx hb hts iX_X3 hown hK hP 0 rfl rfl 0 (by decide +kernel) (hts _ m_t148) (fun _ h9 => h9) rfl (g_180 (v := 11) bX3_numberThere rfl) ?_
            refine lv_iload_n hx hb (g_28 bX3_numberThere rfl) rfl (lv_at hl 0 rfl) ?_
            refine va_bald hx hb hK hP 1 2 rfl rfl (vp_in_nI (by omega) (by omega)) (g_51 bX3_numberThere rfl) ?_
            refine lv_seti (v := fB j_7) (congrArg fB (nI_clamp (by omega))) ?_
            refine lv_iadd hx hb (g_96 bX3_numberThere rfl) ?_
            refine lv_bipush (v := 48) hx hb dX3_numberThere_49 (by decide +kernel) ?_
            refine lv_isub hx hb (g_100 bX3_numberThere rfl) ?_
            refine lv_istore_n (lv' := [(1, .int (((10 * xV_8) + (fB j_7)) - 48)), (2, .int (nI j_7)), (0, .ref qa)]) hx hb (g_60 bX3_numberThere rfl) rfl hl (by decide +kernel) rfl (fun ls => ?_)
            clear hl
            intro hl
            refine lv_iinc (v := nI (j_7 + 1)) (lv' := [(2, .int (nI (j_7 + 1))), (1, .int (((10 * xV_8) + (fB j_7)) - 48)), (0, .ref qa)]) hx hb dX3_numberThere_53 hl (k := 1) rfl (nI_1 _) (by decide +kernel) rfl (fun ls => ?_)
            clear hl
            intro hl
            refine lv_goto (tgt := 30) hx hb dX3_numberThere_56 (by decide +kernel) ?_
            exact ih_6 (j_7 + 1) (((10 * xV_8) + (fB j_7)) - 48) (by omega) (by omega) (by omega) (by rw [← hT_11, show kE - j_7 = kE - (j_7 + 1) + 1 by omega]; rfl) _ (lv_sub hl [0, 1, 2] rfl)
      exact lp_4 ((250 - kS) + 1) kS 0 (Nat.lt_succ_self _) (Nat.le_refl _) hE.1 rfl ls (lv_sub hl [0, 1, 2] rfl)
    · have h3_16 := n3_gt (by omega) (by omega) c_2
      refine lv_iconst (v := (-1)) hx hb (g_2 bX3_numberThere rfl) (by decide +kernel) ?_
      exact endR hx hb hr hlocks rfl ((nt_no2 h3_16).symm) (g_172 bX3_numberThere rfl)
set_option maxHeartbeats 4000000 in
set_option maxRecDepth 100000 in
theorem x_X3_isWord (l : Launch) (G : va_G) (cy : Nat → ClassId) (qa : Nat) (qab : Nat) (kZ : Nat) (kS : Nat) (kE : Nat) (iT : Int32) (iF : Int32) (qd : Nat) (fB : Nat → Int32) (qw : Nat) (lB : List Int32) (qvv : Nat)  (hZ : kZ ≤ 250) (hE : kS ≤ kE ∧ kE ≤ kZ) (hbs : lB.length ≤ 5) (hAs : ∀ k, k < lB.length → ∃ n : Nat, n < 128 ∧ lB.getD k 0 = nI n) : MRX l yX3_isWord cX3_isWord 3 (some .boolean) 5 G cy (SF lB qw qvv) [zzO qa 2 [.ref qab, .int (nI kZ), .int (nI kS), .int (nI kE), .int iT, .int iF, .ref qd], zzB cy qab 250 fB] [.ref qa, .ref qw] (vp_Si (fun r => (r = 1 ∧ isW (nbf fB kZ) kS kE iT lB = true) ∨ (r = 0 ∧ isW (nbf fB kZ) kS kE iT lB = false))) := by
  refine enRX RX3 (by decide +kernel) rfl (Nat.le_of_ble_eq_true rfl) (fun p e s m below meth c ls hx hb hml hown hts hr hlocks hP hN hl hX => ?_)
  have hK := hN.1
  replace hl : lv_has ls 3 [(0, .ref qa), (1, .ref qw)] := hl
  refine lv_aload_n hx hb (g_42 bX3_isWord rfl) rfl (lv_at hl 0 rfl) ?_
  refine va_get (D := G) (ci := 2) (v := .int iT) (C := RX3) (T := TX3) (N := 7) hx hb hts iX_X3 hown hK hP 0 rfl rfl 4 (by decide +kernel) (hts _ m_t153) (fun _ h9 => h9) rfl (g_180 (v := 42) bX3_isWord rfl) ?_
  refine lv_iconst (v := 1) hx hb (g_4 bX3_isWord rfl) (by decide +kernel) ?_
  refine lv_icmp_ne (tgt := 24) hx hb dX3_isWord_5 (by decide +kernel) (fun c_1 => ?_) (fun c_1 => ?_)
  · refine lv_iconst (v := 0) hx hb (g_3 bX3_isWord rfl) (by decide +kernel) ?_
    exact endR hx hb hr hlocks rfl (Or.inr (⟨rfl, ((isW_nb hAs (by omega)).trans (isw_n1 c_1))⟩)) (g_172 bX3_isWord rfl)
  · refine lv_aload_n hx hb (g_42 bX3_isWord rfl) rfl (lv_at hl 0 rfl) ?_
    refine va_get (D := G) (ci := 2) (v := .int (nI kE)) (C := RX3) (T := TX3) (N := 7) hx hb hts iX_X3 hown hK hP 0 rfl rfl 3 (by decide +kernel) (hts _ m_t152) (fun _ h9 => h9) rfl (g_180 (v := 33) bX3_isWord rfl) ?_
    refine lv_aload_n hx hb (g_42 bX3_isWord rfl) rfl (lv_at hl 0 rfl) ?_
    refine va_get (D := G) (ci := 2) (v := .int (nI kS)) (C := RX3) (T := TX3) (N := 7) hx hb hts iX_X3 hown hK hP 0 rfl rfl 2 (by decide +kernel) (hts _ m_t151) (fun _ h9 => h9) rfl (g_180 (v := 121) bX3_isWord rfl) ?_
    refine lv_isub hx hb (g_100 bX3_isWord rfl) ?_
    refine lv_aload_n hx hb (g_43 bX3_isWord rfl) rfl (lv_at hl 1 rfl) ?_
    refine kRi (rV (As := []) (rest := [.int ((nI kE) - (nI kS))]) (b := qw) ⟨hx, hb, hml, hown, hts⟩ (j_length l G cy lB qw qvv) L_X3_124 (preRVS hN hX va_S.rf) rfl ⟨Nat.le_of_ble_eq_true rfl, Nat.le_of_ble_eq_true rfl⟩ hl.1 (Nat.le_of_ble_eq_true rfl) (g_182 (v := 124) bX3_isWord rfl) ⟨Nat.le_of_ble_eq_true rfl, Nat.le_of_ble_eq_true rfl⟩) (fun r_2 h_3 => ?_)
    subst h_3
    refine lv_icmp_eq (tgt := 26) hx hb dX3_isWord_21 (by decide +kernel) (fun c_4 => ?_) (fun c_4 => ?_)
    · have hEn : kE = kS + lB.length := wd_len (by omega) (by omega) (by omega) c_4
      refine lv_iconst (v := 0) hx hb (g_3 bX3_isWord rfl) (by decide +kernel) ?_
      refine lv_istore_n (lv' := [(2, .int 0), (0, .ref qa), (1, .ref qw)]) hx hb (g_61 bX3_isWord rfl) rfl hl (by decide +kernel) rfl (fun ls => ?_)
      clear hl
      intro hl
      have lp_5 : ∀ (n_6 : Nat) (j_8 : Nat), 250 - j_8 < n_6 → j_8 ≤ lB.length → weF fB kS lB (lB.length - j_8) j_8 = weF fB kS lB lB.length 0 → ∀ (ls : Array Slot), lv_has ls 3 [(2, .int (nI j_8)), (0, .ref qa), (1, .ref qw)] → W p l e (Rm 5 0 0) s m (List.toArray (α := Value) [.ref qa, .ref qw]) below meth c s.heap [] 0 0 (MQ below (vp_Si (fun r => (r = 1 ∧ isW (nbf fB kZ) kS kE iT lB = true) ∨ (r = 0 ∧ isW (nbf fB kZ) kS kE iT lB = false))) (List.toArray (α := Value) [.ref qa, .ref qw]) s 0 0 (fun _ => False)) (F0 m 28 ls []) := by
        intro n_6
        induction n_6 with
        | zero => intro j_8 hm9; exact absurd hm9 (Nat.not_lt_zero _)
        | succ n_6 ih_7 =>
          intro j_8 hm_11 hj_9 hT_10 ls hl
          refine lv_iload_n hx hb (g_28 bX3_isWord rfl) rfl (lv_at hl 0 rfl) ?_
          refine lv_aload_n hx hb (g_43 bX3_isWord rfl) rfl (lv_at hl 2 rfl) ?_
          refine kRi (rV (As := []) (rest := [.int (nI j_8)]) (b := qw) ⟨hx, hb, hml, hown, hts⟩ (j_length l G cy lB qw qvv) L_X3_124 (preRVS hN hX va_S.rf) rfl ⟨Nat.le_of_ble_eq_true rfl, Nat.le_of_ble_eq_true rfl⟩ hl.1 (Nat.le_of_ble_eq_true rfl) (g_182 (v := 124) bX3_isWord rfl) ⟨Nat.le_of_ble_eq_true rfl, Nat.le_of_ble_eq_true rfl⟩) (fun r_12 h_13 => ?_)
          subst h_13
          refine lv_icmp_ge (tgt := 63) hx hb dX3_isWord_33 (by decide +kernel) (fun c_14 => ?_) (fun c_14 => ?_)
          · have hlt_15 : j_8 = lB.length := Nat.le_antisymm (by omega) (lp_ge rfl rfl (by omega) (by omega) c_14)
            refine lv_iconst (v := 1) hx hb (g_4 bX3_isWord rfl) (by decide +kernel) ?_
            exact endR hx hb hr hlocks rfl (Or.inl (⟨rfl, ((isW_nb hAs (by omega)).trans (isw_y c_1 hEn (by rw [← hT_10, hlt_15, Nat.sub_self]; rfl)))⟩)) (g_172 bX3_isWord rfl)
          · have hlt_16 : j_8 < lB.length := lp_lt rfl rfl (by omega) (by omega) c_14
            refine lv_aload_n hx hb (g_42 bX3_isWord rfl) rfl (lv_at hl 1 rfl) ?_
            refine va_get (D := G) (ci := 2) (v := .ref qab) (C := RX3) (T := TX3) (N := 7) hx hb hts iX_X3 hown hK hP 0 rfl rfl 0 (by decide +kernel) (hts _ m_t148) (fun _ h9 => h9) rfl (g_180 (v := 11) bX3_isWord rfl) ?_
            refine lv_aload_n hx hb (g_42 bX3_isWord rfl) rfl (lv_at hl 1 rfl) ?_
            refine va_get (D := G) (ci := 2) (v := .int (nI kS)) (C := RX3) (T := TX3) (N := 7) hx hb hts iX_X3 hown hK hP 0 rfl rfl 2 (by decide +kernel) (hts _ m_t151) (fun _ h9 => h9) rfl (g_180 (v := 121) bX3_isWord rfl) ?_
            refine lv_iload_n hx hb (g_28 bX3_isWord rfl) rfl (lv_at hl 0 rfl) ?_
            refine lv_iadd hx hb (g_96 bX3_isWord rfl) ?_
            refine lv_seti (v := nI (kS + j_8)) (nI_add _ _) ?_
            refine va_bald hx hb hK hP 1 2 rfl rfl (vp_in_nI (by omega) (by omega)) (g_51 bX3_isWord rfl) ?_
            refine lv_seti (v := fB (kS + j_8)) (congrArg fB (nI_clamp (by omega))) ?_
            refine lv_aload_n hx hb (g_43 bX3_isWord rfl) rfl (lv_at hl 2 rfl) ?_
            refine lv_iload_n hx hb (g_28 bX3_isWord rfl) rfl (lv_at hl 0 rfl) ?_
            refine kRi (rV (As := [.int (nI j_8)]) (rest := [.int (fB (kS + j_8))]) (b := qw) ⟨hx, hb, hml, hown, hts⟩ (j_charAt l G cy lB qw qvv j_8 (by omega) (by omega) (hAs _ (by omega))) L_X3_129 (preRVS hN hX va_S.rf) rfl ⟨Nat.le_of_ble_eq_true rfl, Nat.le_of_ble_eq_true rfl⟩ hl.1 (Nat.le_of_ble_eq_true rfl) (g_182 (v := 129) bX3_isWord rfl) ⟨Nat.le_of_ble_eq_true rfl, Nat.le_of_ble_eq_true rfl⟩) (fun r_17 h_18 => ?_)
            subst h_18
            refine lv_icmp_eq (tgt := 57) hx hb dX3_isWord_52 (by decide +kernel) (fun c_19 => ?_) (fun c_19 => ?_)
            · refine lv_iinc (v := nI (j_8 + 1)) (lv' := [(2, .int (nI (j_8 + 1))), (0, .ref qa), (1, .ref qw)]) hx hb dX3_isWord_57 hl (k := 0) rfl (nI_1 _) (by decide +kernel) rfl (fun ls => ?_)
              clear hl
              intro hl
              refine lv_goto (tgt := 28) hx hb dX3_isWord_60 (by decide +kernel) ?_
              exact ih_7 (j_8 + 1) (by omega) (by omega) (by rw [← hT_10, show lB.length - j_8 = lB.length - (j_8 + 1) + 1 by omega, we_go c_19]) _ (lv_sub hl [0, 1, 2] rfl)
            · refine lv_iconst (v := 0) hx hb (g_3 bX3_isWord rfl) (by decide +kernel) ?_
              exact endR hx hb hr hlocks rfl (Or.inr (⟨rfl, ((isW_nb hAs (by omega)).trans (isw_n3 (by rw [← hT_10, show lB.length - j_8 = lB.length - (j_8 + 1) + 1 by omega, we_no c_19])))⟩)) (g_172 bX3_isWord rfl)
      exact lp_5 ((250 - 0) + 1) 0 (Nat.lt_succ_self _) (Nat.zero_le _) rfl ls (lv_sub hl [0, 1, 2] rfl)
    · refine lv_iconst (v := 0) hx hb (g_3 bX3_isWord rfl) (by decide +kernel) ?_
      exact endR hx hb hr hlocks rfl (Or.inr (⟨rfl, ((isW_nb hAs (by omega)).trans (isw_n2 (by omega) (by omega) c_4))⟩)) (g_172 bX3_isWord rfl)
set_option maxHeartbeats 4000000 in
set_option maxRecDepth 100000 in
theorem x_X3_passes (l : Launch) (G : va_G) (cy : Nat → ClassId) (sz : Nat) (qa : Nat) (qab : Nat) (kZ : Nat) (kS : Nat) (kE : Nat) (iT : Int32) (iF : Int32) (qd : Nat) (fB : Nat → Int32) (qw : Nat) (lB : List Int32) (qvv : Nat)  (hZ : kZ ≤ 250) (hE : kS ≤ kE ∧ kE ≤ kZ) (hLx : Lx fB kZ kS iT kE) (hbs : lB.length ≤ 5) (hAs : ∀ k, k < lB.length → ∃ n : Nat, n < 128 ∧ lB.getD k 0 = nI n) : MWX l yX3_passes cX3_passes 2 (some .boolean) 6 0 0 G cy (SF lB qw qvv) [zzO qa 2 [.ref qab, .int (nI kZ), .int (nI kS), .int (nI kE), .int iT, .int iF, .ref qd], zzB cy qab 250 fB] sz [.ref qa, .ref qw] (Wi G (fun r u => ∃ (kX : Nat) (kY : Nat) (iX : Int32), u = [zzO qa 2 [.ref qab, .int (nI kZ), .int (nI kX), .int (nI kY), .int iX, .int iF, .ref qd], zzB cy qab 250 fB] ∧ (kX ≤ kY ∧ kY ≤ kZ) ∧ Lx fB kZ kX iX kY ∧ ((r = 1 ∧ iF = -1 ∧ isW (nbf fB kZ) kS kE iT lB = true ∧ lx (nbf fB kZ) kZ kE = (kX, iX, kY)) ∨ (r = 0 ∧ (¬ iF = -1 ∨ isW (nbf fB kZ) kS kE iT lB = false) ∧ kX = kS ∧ iX = iT ∧ kY = kE)))) := by
  refine enWX RX3 (by decide +kernel) rfl (Nat.le_of_ble_eq_true rfl) (fun p e s m below meth c ls A hx hb hml hown hts hr hlocks hP hN hl hin hD hA hS hX => ?_)
  have hin : meth.name = _ := hin
  have hK := hN.1
  replace hl : lv_has ls 2 [(0, .ref qa), (1, .ref qw)] := hl
  refine lv_aload_n hx hb (g_42 bX3_passes rfl) rfl (lv_at hl 0 rfl) ?_
  refine va_get (D := G) (ci := 2) (v := .int iF) (C := RX3) (T := TX3) (N := 7) hx hb hts iX_X3 hown hK hP 0 rfl rfl 5 (by decide +kernel) (hts _ m_t154) (fun _ h9 => h9) rfl (g_180 (v := 30) bX3_passes rfl) ?_
  refine lv_iconst (v := (-1)) hx hb (g_2 bX3_passes rfl) (by decide +kernel) ?_
  refine lv_icmp_ne (tgt := 16) hx hb dX3_passes_5 (by decide +kernel) (fun c_1 => ?_) (fun c_1 => ?_)
  · refine lv_iconst (v := 0) hx hb (g_3 bX3_passes rfl) (by decide +kernel) ?_
    exact endWs [[true, true]] hx hb hr hlocks rfl hP hD rfl (by decide +kernel) hS ⟨kS, kE, iT, rfl, ⟨by omega, by omega⟩, hLx, (Or.inr (⟨rfl, ⟨Or.inl c_1, rfl, rfl, rfl⟩⟩))⟩ (g_172 bX3_passes rfl)
  · refine lv_aload_n hx hb (g_42 bX3_passes rfl) rfl (lv_at hl 0 rfl) ?_
    refine lv_aload_n hx hb (g_43 bX3_passes rfl) rfl (lv_at hl 1 rfl) ?_
    refine kRi (rV (As := [.ref qw]) (rest := []) (b := qa) ⟨hx, hb, hml, hown, hts⟩ (x_X3_isWord l G cy qa qab kZ kS kE iT iF qd fB qw lB qvv hZ hE hbs hAs) L_X3_50 (preRVX (q := (RX3, TX3, 7)) hN hP [0, 1] rfl 0 2 rfl rfl SF_ok hX hS) rfl ⟨Nat.le_of_ble_eq_true rfl, Nat.le_of_ble_eq_true rfl⟩ hl.1 (Nat.le_of_ble_eq_true rfl) (g_182 (v := 50) bX3_passes rfl) ⟨Nat.le_of_ble_eq_true rfl, Nat.le_of_ble_eq_true rfl⟩) (fun r_2 h_3 => ?_)
    rcases h_3 with ⟨rfl, h_4⟩ | ⟨rfl, h_4⟩
    · refine lv_if_ne (tgt := 18) hx hb dX3_passes_13 (by decide +kernel) (fun _ => ?_) (fun h9 => absurd h9 (by decide +kernel))
      refine lv_aload_n hx hb (g_42 bX3_passes rfl) rfl (lv_at hl 0 rfl) ?_
      refine cVv (As := []) (rest := []) (b := qa) (q := (RX3, TX3, 7)) ⟨hx, hb, hml, hown, hts⟩ (x_X3_step l G cy (s.heap).size qa qab kZ (nI kS) kE iT iF qd fB hZ (by omega)) L_X3_36 hN hP hD hS hA [0, 1] [false, false] rfl (by decide +kernel) rfl 0 2 rfl rfl rfl ⟨Nat.le_of_ble_eq_true rfl, Nat.le_of_ble_eq_true rfl⟩ hl.1 (Nat.le_of_ble_eq_true rfl) (g_182 (v := 36) bX3_passes rfl) ⟨Nat.le_of_ble_eq_true rfl, Nat.le_of_ble_eq_true rfl⟩ (fun u_8 H locs h_7 => ?_)
      clear hP hD hS
      intro hP hD hS
      obtain ⟨kX_9, kY_10, iX_11, hu9, h_12, h_13, h_14⟩ := h_7
      have hPD := pd_eq [zzO qa 2 [.ref qab, .int (nI kZ), .int (nI kX_9), .int (nI kY_10), .int iX_11, .int iF, .ref qd], _] hP hD hu9 rfl
      clear hP hD hu9
      obtain ⟨hP, hD⟩ := hPD
      refine lv_iconst (v := 1) hx hb (g_4 bX3_passes rfl) (by decide +kernel) ?_
      exact endWs [[true, true]] hx hb hr hlocks rfl hP hD rfl (by decide +kernel) hS ⟨kX_9, kY_10, iX_11, rfl, ⟨by omega, by omega⟩, h_14, (Or.inl (⟨rfl, ⟨c_1, h_4, h_13⟩⟩))⟩ (g_172 bX3_passes rfl)
    · refine lv_if_ne (tgt := 18) hx hb dX3_passes_13 (by decide +kernel) (fun h9 => absurd (by decide +kernel) h9) (fun _ => ?_)
      refine lv_iconst (v := 0) hx hb (g_3 bX3_passes rfl) (by decide +kernel) ?_
      exact endWs [[true, true]] hx hb hr hlocks rfl hP hD rfl (by decide +kernel) hS ⟨kS, kE, iT, rfl, ⟨by omega, by omega⟩, hLx, (Or.inr (⟨rfl, ⟨Or.inr h_4, rfl, rfl, rfl⟩⟩))⟩ (g_172 bX3_passes rfl)
set_option maxHeartbeats 4000000 in
set_option maxRecDepth 100000 in
theorem x_X3_takeNumber (l : Launch) (G : va_G) (cy : Nat → ClassId) (sz : Nat) (qa : Nat) (qab : Nat) (kZ : Nat) (kS : Nat) (kE : Nat) (iT : Int32) (iF : Int32) (qd : Nat) (fB : Nat → Int32) (iA : Int32) (iB : Int32)  (hZ : kZ ≤ 250) (hE : kS ≤ kE ∧ kE ≤ kZ) (hLx : Lx fB kZ kS iT kE) (hLo : Ge0 iA) : MW l yX3_takeNumber cX3_takeNumber 4 (some .int) 3 0 0 G cy [zzO qa 2 [.ref qab, .int (nI kZ), .int (nI kS), .int (nI kE), .int iT, .int iF, .ref qd], zzB cy qab 250 fB] sz [.ref qa, .int iA, .int iB] (Wi G (fun r u => ∃ (kX : Nat) (kY : Nat) (iX : Int32) (iY : Int32), u = [zzO qa 2 [.ref qab, .int (nI kZ), .int (nI kX), .int (nI kY), .int iX, .int iY, .ref qd], zzB cy qab 250 fB] ∧ (kX ≤ kY ∧ kY ≤ kZ ∧ (iY = -1 → iF = -1 ∧ iA ≤ r ∧ r ≤ iB)) ∧ Lx fB kZ kX iX kY ∧ TKN fB kZ kS iT kE iF iA iB r kX iX kY iY ∧ (True))) := by
  refine enW RX3 (by decide +kernel) rfl (Nat.le_of_ble_eq_true rfl) (fun p e s m below meth c ls A hx hb hml hown hts hr hlocks hP hN hl hin hD hA hS => ?_)
  have hin : meth.name = _ := hin
  have hK := hN.1
  replace hl : lv_has ls 4 [(0, .ref qa), (1, .int iA), (2, .int iB)] := hl
  refine lv_aload_n hx hb (g_42 bX3_takeNumber rfl) rfl (lv_at hl 0 rfl) ?_
  refine kRi (rV (As := []) (rest := []) (b := qa) ⟨hx, hb, hml, hown, hts⟩ (x_X3_numberThere l G cy qa qab kZ kS kE iT iF qd fB hZ hE) L_X3_117 (preRV (q := (RX3, TX3, 7)) hN hP [0, 1] rfl 0 2 rfl rfl) rfl ⟨Nat.le_of_ble_eq_true rfl, Nat.le_of_ble_eq_true rfl⟩ hl.1 (Nat.le_of_ble_eq_true rfl) (g_182 (v := 117) bX3_takeNumber rfl) ⟨Nat.le_of_ble_eq_true rfl, Nat.le_of_ble_eq_true rfl⟩) (fun r_1 h_2 => ?_)
  refine lv_istore_n (lv' := [(3, .int r_1), (0, .ref qa), (1, .int iA), (2, .int iB)]) hx hb (g_62 bX3_takeNumber rfl) rfl hl (by decide +kernel) rfl (fun ls => ?_)
  clear hl
  intro hl
  refine lv_aload_n hx hb (g_42 bX3_takeNumber rfl) rfl (lv_at hl 1 rfl) ?_
  refine va_get (D := G) (ci := 2) (v := .int iF) (C := RX3) (T := TX3) (N := 7) hx hb hts iX_X3 hown hK hP 0 rfl rfl 5 (by decide +kernel) (hts _ m_t154) (fun _ h9 => h9) rfl (g_180 (v := 30) bX3_takeNumber rfl) ?_
  refine lv_iconst (v := (-1)) hx hb (g_2 bX3_takeNumber rfl) (by decide +kernel) ?_
  refine lv_icmp_ne (tgt := 23) hx hb dX3_takeNumber_10 (by decide +kernel) (fun c_3 => ?_) (fun c_3 => ?_)
  · refine lv_aload_n hx hb (g_42 bX3_takeNumber rfl) rfl (lv_at hl 1 rfl) ?_
    refine cVv (As := []) (rest := []) (b := qa) (q := (RX3, TX3, 7)) ⟨hx, hb, hml, hown, hts⟩ (x_X3_fail l G cy (s.heap).size qa qab kZ kS kE iT iF qd hZ hE) L_X3_45 hN hP hD hS hA [0] [false, true] rfl (by decide +kernel) rfl 0 2 rfl rfl rfl ⟨Nat.le_of_ble_eq_true rfl, Nat.le_of_ble_eq_true rfl⟩ hl.1 (Nat.le_of_ble_eq_true rfl) (g_182 (v := 45) bX3_takeNumber rfl) ⟨Nat.le_of_ble_eq_true rfl, Nat.le_of_ble_eq_true rfl⟩ (fun u_6 H locs h_5 => ?_)
    clear hP hD hS
    intro hP hD hS
    obtain ⟨iX_7, hu9, h_8, h_9⟩ := h_5
    have hPD := pd_eq [_, zzO qa 2 [.ref qab, .int (nI kZ), .int (nI kS), .int (nI kE), .int iT, .int iX_7, .ref qd]] hP hD hu9 rfl
    clear hP hD hu9
    obtain ⟨hP, hD⟩ := hPD
    refine lv_iconst (v := (-1)) hx hb (g_2 bX3_takeNumber rfl) (by decide +kernel) ?_
    exact endWs [[false, true], [true]] hx hb hr hlocks rfl hP hD rfl (by decide +kernel) hS ⟨kS, kE, iT, iX_7, rfl, ⟨by omega, by omega, fun q => absurd q h_8⟩, hLx, (tk_no hLx hZ (Or.inl c_3) h_9), trivial⟩ (g_172 bX3_takeNumber rfl)
  · refine lv_iload_n hx hb (g_29 bX3_takeNumber rfl) rfl (lv_at hl 0 rfl) ?_
    refine lv_iload_n hx hb (g_27 bX3_takeNumber rfl) rfl (lv_at hl 2 rfl) ?_
    refine lv_icmp_lt (tgt := 23) hx hb dX3_takeNumber_15 (by decide +kernel) (fun c_10 => ?_) (fun c_10 => ?_)
    · refine lv_aload_n hx hb (g_42 bX3_takeNumber rfl) rfl (lv_at hl 1 rfl) ?_
      refine cVv (As := []) (rest := []) (b := qa) (q := (RX3, TX3, 7)) ⟨hx, hb, hml, hown, hts⟩ (x_X3_fail l G cy (s.heap).size qa qab kZ kS kE iT iF qd hZ hE) L_X3_45 hN hP hD hS hA [0] [false, true] rfl (by decide +kernel) rfl 0 2 rfl rfl rfl ⟨Nat.le_of_ble_eq_true rfl, Nat.le_of_ble_eq_true rfl⟩ hl.1 (Nat.le_of_ble_eq_true rfl) (g_182 (v := 45) bX3_takeNumber rfl) ⟨Nat.le_of_ble_eq_true rfl, Nat.le_of_ble_eq_true rfl⟩ (fun u_13 H locs h_12 => ?_)
      clear hP hD hS
      intro hP hD hS
      obtain ⟨iX_14, hu9, h_15, h_16⟩ := h_12
      have hPD := pd_eq [_, zzO qa 2 [.ref qab, .int (nI kZ), .int (nI kS), .int (nI kE), .int iT, .int iX_14, .ref qd]] hP hD hu9 rfl
      clear hP hD hu9
      obtain ⟨hP, hD⟩ := hPD
      refine lv_iconst (v := (-1)) hx hb (g_2 bX3_takeNumber rfl) (by decide +kernel) ?_
      exact endW (u := [zzO qa 2 [.ref qab, .int (nI kZ), .int (nI kS), .int (nI kE), .int iT, .int iX_14, .ref qd], zzB cy qab 250 fB]) hx hb hr hlocks rfl (hP.sub [1, 0] rfl) (hD.sub [1, 0] (by decide +kernel) rfl) hS ⟨kS, kE, iT, iX_14, rfl, ⟨by omega, by omega, fun q => absurd q h_15⟩, hLx, (tk_no hLx hZ (Or.inr (Or.inl (by rw [← h_2]; exact c_10))) h_16), trivial⟩ (g_172 bX3_takeNumber rfl)
    · refine lv_iload_n hx hb (g_29 bX3_takeNumber rfl) rfl (lv_at hl 0 rfl) ?_
      refine lv_iload_n hx hb (g_28 bX3_takeNumber rfl) rfl (lv_at hl 3 rfl) ?_
      refine lv_icmp_le (tgt := 29) hx hb dX3_takeNumber_20 (by decide +kernel) (fun c_17 => ?_) (fun c_17 => ?_)
      · refine lv_aload_n hx hb (g_42 bX3_takeNumber rfl) rfl (lv_at hl 1 rfl) ?_
        refine cVv (As := []) (rest := []) (b := qa) (q := (RX3, TX3, 7)) ⟨hx, hb, hml, hown, hts⟩ (x_X3_step l G cy (s.heap).size qa qab kZ (nI kS) kE iT iF qd fB hZ (by omega)) L_X3_36 hN hP hD hS hA [0, 1] [false, false] rfl (by decide +kernel) rfl 0 2 rfl rfl rfl ⟨Nat.le_of_ble_eq_true rfl, Nat.le_of_ble_eq_true rfl⟩ hl.1 (Nat.le_of_ble_eq_true rfl) (g_182 (v := 36) bX3_takeNumber rfl) ⟨Nat.le_of_ble_eq_true rfl, Nat.le_of_ble_eq_true rfl⟩ (fun u_20 H locs h_19 => ?_)
        clear hP hD hS
        intro hP hD hS
        obtain ⟨kX_21, kY_22, iX_23, hu9, h_24, h_25, h_26⟩ := h_19
        have hPD := pd_eq [zzO qa 2 [.ref qab, .int (nI kZ), .int (nI kX_21), .int (nI kY_22), .int iX_23, .int iF, .ref qd], _] hP hD hu9 rfl
        clear hP hD hu9
        obtain ⟨hP, hD⟩ := hPD
        refine lv_iload_n hx hb (g_29 bX3_takeNumber rfl) rfl (lv_at hl 0 rfl) ?_
        exact endWs [[true, true]] hx hb hr hlocks rfl hP hD rfl (by decide +kernel) hS ⟨kX_21, kY_22, iX_23, iF, rfl, ⟨by omega, by omega, fun q => ⟨q, Int32.not_lt.mp c_10, c_17⟩⟩, h_26, (tk_ok hLx hLo c_3 h_2 c_10 c_17 h_25), trivial⟩ (g_172 bX3_takeNumber rfl)
      · refine lv_aload_n hx hb (g_42 bX3_takeNumber rfl) rfl (lv_at hl 1 rfl) ?_
        refine cVv (As := []) (rest := []) (b := qa) (q := (RX3, TX3, 7)) ⟨hx, hb, hml, hown, hts⟩ (x_X3_fail l G cy (s.heap).size qa qab kZ kS kE iT iF qd hZ hE) L_X3_45 hN hP hD hS hA [0] [false, true] rfl (by decide +kernel) rfl 0 2 rfl rfl rfl ⟨Nat.le_of_ble_eq_true rfl, Nat.le_of_ble_eq_true rfl⟩ hl.1 (Nat.le_of_ble_eq_true rfl) (g_182 (v := 45) bX3_takeNumber rfl) ⟨Nat.le_of_ble_eq_true rfl, Nat.le_of_ble_eq_true rfl⟩ (fun u_29 H locs h_28 => ?_)
        clear hP hD hS
        intro hP hD hS
        obtain ⟨iX_30, hu9, h_31, h_32⟩ := h_28
        have hPD := pd_eq [_, zzO qa 2 [.ref qab, .int (nI kZ), .int (nI kS), .int (nI kE), .int iT, .int iX_30, .ref qd]] hP hD hu9 rfl
        clear hP hD hu9
        obtain ⟨hP, hD⟩ := hPD
        refine lv_iconst (v := (-1)) hx hb (g_2 bX3_takeNumber rfl) (by decide +kernel) ?_
        exact endW (u := [zzO qa 2 [.ref qab, .int (nI kZ), .int (nI kS), .int (nI kE), .int iT, .int iX_30, .ref qd], zzB cy qab 250 fB]) hx hb hr hlocks rfl (hP.sub [1, 0] rfl) (hD.sub [1, 0] (by decide +kernel) rfl) hS ⟨kS, kE, iT, iX_30, rfl, ⟨by omega, by omega, fun q => absurd q h_31⟩, hLx, (tk_no hLx hZ (Or.inr (Or.inr (by rw [← h_2]; exact c_17))) h_32), trivial⟩ (g_172 bX3_takeNumber rfl)
set_option maxHeartbeats 4000000 in
set_option maxRecDepth 100000 in
theorem x_X3_readBook (l : Launch) (G : va_G) (cy : Nat → ClassId) (sz : Nat) (qa : Nat) (qab : Nat) (kZ : Nat) (kS : Nat) (kE : Nat) (iT : Int32) (iF : Int32) (qd : Nat) (fB : Nat → Int32) (tD : TA) (qdw : Nat) (qdn : Nat) (qdg : Nat) (qda : Nat) (qdr : Nat) (qdm : Nat) (qdt : Nat) (qds : Nat)  (hZ : kZ ≤ 250) (hE : kS ≤ kE ∧ kE ≤ kZ) (hLx : Lx fB kZ kS iT kE) (hF : iF = -1) (hDb : T_nb tD ≤ 8) (hDp : T_np tD ≤ 8) : MWX l yX3_readBook cX3_readBook 3 none 8 0 0 G cy SO [zzO qa 2 [.ref qab, .int (nI kZ), .int (nI kS), .int (nI kE), .int iT, .int iF, .ref qd], zzB cy qab 250 fB, zzO qd 3 [.int (nI (T_nb tD)), .int (nI (T_np tD)), .int (wb (T_wh tD)), .int (wb (T_gn tD)), .int (T_sd tD), .ref qdw, .ref qdn, .ref qdg, .ref qda, .ref qdr, .ref qdm, .ref qdt, .ref qds], zzI cy qdw 8 (T_wo tD), zzI cy qdn 8 (T_ne tD), zzI cy qdg 8 (T_go tD), zzI cy qda 8 (T_ag tD), zzI cy qdr 8 (T_re tD), zzI cy qdm 8 (T_me tD), zzI cy qdt 8 (T_te tD), zzI cy qds 64 (shF (T_kn tD))] sz [.ref qa] (Wv G (fun u => ∃ (kX : Nat) (kY : Nat) (iX : Int32) (iY : Int32) (tX : TA), u = [zzO qa 2 [.ref qab, .int (nI kZ), .int (nI kX), .int (nI kY), .int iX, .int iY, .ref qd], zzB cy qab 250 fB, zzO qd 3 [.int (nI (T_nb tX)), .int (nI (T_np tX)), .int (wb (T_wh tX)), .int (wb (T_gn tX)), .int (T_sd tX), .ref qdw, .ref qdn, .ref qdg, .ref qda, .ref qdr, .ref qdm, .ref qdt, .ref qds], zzI cy qdw 8 (T_wo tX), zzI cy qdn 8 (T_ne tX), zzI cy qdg 8 (T_go tX), zzI cy qda 8 (T_ag tX), zzI cy qdr 8 (T_re tX), zzI cy qdm 8 (T_me tX), zzI cy qdt 8 (T_te tX), zzI cy qds 64 (shF (T_kn tX))] ∧ (kX ≤ kY ∧ kY ≤ kZ ∧ T_nb tX ≤ 8 ∧ T_np tX ≤ 8) ∧ Lx fB kZ kX iX kY ∧ CH iY (pBook (nbf fB kZ) kZ (kS, iT, kE) tD) ((kX, iX, kY), tX))) := by
  refine enWX RX3 (by decide +kernel) rfl (Nat.le_of_ble_eq_true rfl) (fun p e s m below meth c ls A hx hb hml hown hts hr hlocks hP hN hl hin hD hA hS hX => ?_)
  have hin : meth.name = _ := hin
  have hK := hN.1
  replace hl : lv_has ls 3 [(0, .ref qa)] := hl
  refine lv_aload_n hx hb (g_42 bX3_readBook rfl) rfl (lv_at hl 0 rfl) ?_
  refine va_get (D := G) (ci := 2) (v := .ref qd) (C := RX3) (T := TX3) (N := 7) hx hb hts iX_X3 hown hK hP 0 rfl rfl 6 (by decide +kernel) (hts _ m_t156) (fun _ h9 => h9) rfl (g_180 (v := 18) bX3_readBook rfl) ?_
  refine va_getN (D := G) (ci := 3) (v := .int (nI (T_nb tD))) (C := RX4) (T := TX4) (N := 13) hx hb hts iX_X4 hown hK hP 2 rfl rfl 0 (by decide +kernel) (va_Nw.use rfl (hN.2.1 (RX3, 77, "EachBookOnce$Town", "books", "I") (List.mem_of_getElem? (i := 0) rfl))) (fun _ h9 => h9) rfl (g_180 (v := 77) bX3_readBook rfl) ?_
  refine lv_bipush (v := 8) hx hb dX3_readBook_7 (by decide +kernel) ?_
  refine lv_icmp_lt (tgt := 17) hx hb dX3_readBook_9 (by decide +kernel) (fun c_1 => ?_) (fun c_1 => ?_)
  · have hlt8 : T_nb tD < 8 := lt_of8 (by omega) c_1
    refine lv_aload_n hx hb (g_42 bX3_readBook rfl) rfl (lv_at hl 0 rfl) ?_
    refine cVv (As := []) (rest := []) (b := qa) (q := (RX3, TX3, 7)) ⟨hx, hb, hml, hown, hts⟩ (x_X3_step l G cy (s.heap).size qa qab kZ (nI kS) kE iT iF qd fB hZ (by omega)) L_X3_36 hN hP hD hS hA [0, 1] [false, false, true, true, true, true, true, true, true, true, true] rfl (by decide +kernel) rfl 0 2 rfl rfl rfl ⟨Nat.le_of_ble_eq_true rfl, Nat.le_of_ble_eq_true rfl⟩ hl.1 (Nat.le_of_ble_eq_true rfl) (g_182 (v := 36) bX3_readBook rfl) ⟨Nat.le_of_ble_eq_true rfl, Nat.le_of_ble_eq_true rfl⟩ (fun u_4 H locs h_3 => ?_)
    clear hP hD hS
    intro hP hD hS
    obtain ⟨kX_5, kY_6, iX_7, hu9, h_8, h_9, h_10⟩ := h_3
    have hPD := pd_eq [_, _, _, _, _, _, _, _, _, zzO qa 2 [.ref qab, .int (nI kZ), .int (nI kX_5), .int (nI kY_6), .int iX_7, .int iF, .ref qd], _] hP hD hu9 rfl
    clear hP hD hu9
    obtain ⟨hP, hD⟩ := hPD
    refine lv_aload_n hx hb (g_42 bX3_readBook rfl) rfl (lv_at hl 0 rfl) ?_
    refine lv_iconst (v := 1) hx hb (g_4 bX3_readBook rfl) (by decide +kernel) ?_
    refine lv_bipush (v := 99) hx hb dX3_readBook_23 (by decide +kernel) ?_
    refine cVi (As := [.int 1, .int 99]) (rest := []) (b := qa) (q := (RX3, TX3, 7)) ⟨hx, hb, hml, hown, hts⟩ (x_X3_takeNumber l G cy (H).size qa qab kZ kX_5 kY_6 iX_7 iF qd fB 1 99 hZ (by omega) h_10 (by decide +kernel)) L_X3_80 hN hP hD hS hA [9, 10] [true, true, true, true, true, true, true, true, true, false, false] rfl (by decide +kernel) rfl 9 2 rfl rfl rfl ⟨Nat.le_of_ble_eq_true rfl, Nat.le_of_ble_eq_true rfl⟩ hl.1 (Nat.le_of_ble_eq_true rfl) (g_182 (v := 80) bX3_readBook rfl) ⟨Nat.le_of_ble_eq_true rfl, Nat.le_of_ble_eq_true rfl⟩ (fun r_11 u_13 H locs h_12 => ?_)
    clear hP hD hS
    intro hP hD hS
    obtain ⟨kX_14, kY_15, iX_16, iY_17, hu9, h_18, h_19, h_20, h_12⟩ := h_12
    have hPD := pd_eq [_, _, _, _, _, _, _, _, _, zzO qa 2 [.ref qab, .int (nI kZ), .int (nI kX_14), .int (nI kY_15), .int iX_16, .int iY_17, .ref qd], _] hP hD hu9 rfl
    clear hP hD hu9
    obtain ⟨hP, hD⟩ := hPD
    refine lv_istore_n (lv' := [(1, .int r_11), (0, .ref qa)]) hx hb (g_60 bX3_readBook rfl) rfl hl (by decide +kernel) rfl (fun ls => ?_)
    clear hl
    intro hl
    refine lv_aload_n hx hb (g_42 bX3_readBook rfl) rfl (lv_at hl 1 rfl) ?_
    obtain ⟨qs_21, qv_23, hs_22, hf_24⟩ := hX (RX3, 84, "good", [103, 111, 111, 100]) (List.mem_of_getElem? (i := 1) rfl)
    refine va_ldcS hx hb hown hs_22 (g_18 (v := 84) bX3_readBook rfl) ?_
    refine cVXi (As := [.ref qs_21]) (rest := []) (b := qa) (q := (RX3, TX3, 7)) ⟨hx, hb, hml, hown, hts⟩ (x_X3_passes l G cy (H).size qa qab kZ kX_14 kY_15 iX_16 iY_17 qd fB qs_21 ([103, 111, 111, 100]) qv_23 hZ (by omega) h_19 (by decide +kernel) as_good) L_X3_86 hN hP hD hS hA [9, 10] [true, true, true, true, true, true, true, true, true, false, false] rfl (by decide +kernel) rfl 9 2 rfl rfl SF_ok hf_24 rfl ⟨Nat.le_of_ble_eq_true rfl, Nat.le_of_ble_eq_true rfl⟩ hl.1 (Nat.le_of_ble_eq_true rfl) (g_182 (v := 86) bX3_readBook rfl) ⟨Nat.le_of_ble_eq_true rfl, Nat.le_of_ble_eq_true rfl⟩ (fun r_25 u_27 H locs h_26 => ?_)
    clear hP hD hS
    intro hP hD hS
    obtain ⟨kX_28, kY_29, iX_30, hu9, h_31, h_32, h_26⟩ := h_26
    have hPD := pd_eq [_, _, _, _, _, _, _, _, _, zzO qa 2 [.ref qab, .int (nI kZ), .int (nI kX_28), .int (nI kY_29), .int iX_30, .int iY_17, .ref qd], _] hP hD hu9 rfl
    clear hP hD hu9
    obtain ⟨hP, hD⟩ := hPD
    rcases h_26 with ⟨rfl, h_33⟩ | ⟨rfl, h_33⟩
    · refine lv_if_eq (tgt := 49) hx hb dX3_readBook_35 (by decide +kernel) (fun h9 => absurd h9 (by decide +kernel)) (fun _ => ?_)
      refine lv_aload_n hx hb (g_42 bX3_readBook rfl) rfl (lv_at hl 1 rfl) ?_
      refine lv_iconst (v := 0) hx hb (g_3 bX3_readBook rfl) (by decide +kernel) ?_
      refine lv_sipush (v := 1000) hx hb dX3_readBook_40 (by decide +kernel) ?_
      refine cVi (As := [.int 0, .int 1000]) (rest := []) (b := qa) (q := (RX3, TX3, 7)) ⟨hx, hb, hml, hown, hts⟩ (x_X3_takeNumber l G cy (H).size qa qab kZ kX_28 kY_29 iX_30 iY_17 qd fB 0 1000 hZ (by omega) h_32 (by decide +kernel)) L_X3_80 hN hP hD hS hA [9, 10] [true, true, true, true, true, true, true, true, true, false, false] rfl (by decide +kernel) rfl 9 2 rfl rfl rfl ⟨Nat.le_of_ble_eq_true rfl, Nat.le_of_ble_eq_true rfl⟩ hl.1 (Nat.le_of_ble_eq_true rfl) (g_182 (v := 80) bX3_readBook rfl) ⟨Nat.le_of_ble_eq_true rfl, Nat.le_of_ble_eq_true rfl⟩ (fun r_35 u_37 H locs h_36 => ?_)
      clear hP hD hS
      intro hP hD hS
      obtain ⟨kX_38, kY_39, iX_40, iY_41, hu9, h_42, h_43, h_44, h_36⟩ := h_36
      have hPD := pd_eq [_, _, _, _, _, _, _, _, _, zzO qa 2 [.ref qab, .int (nI kZ), .int (nI kX_38), .int (nI kY_39), .int iX_40, .int iY_41, .ref qd], _] hP hD hu9 rfl
      clear hP hD hu9
      obtain ⟨hP, hD⟩ := hPD
      refine lv_goto (tgt := 52) hx hb dX3_readBook_46 (by decide +kernel) ?_
      refine lv_istore_n (lv' := [(2, .int r_35), (1, .int r_11), (0, .ref qa)]) hx hb (g_61 bX3_readBook rfl) rfl hl (by decide +kernel) rfl (fun ls => ?_)
      clear hl
      intro hl
      refine lv_aload_n hx hb (g_42 bX3_readBook rfl) rfl (lv_at hl 2 rfl) ?_
      refine va_get (D := G) (ci := 2) (v := .int iY_41) (C := RX3) (T := TX3) (N := 7) hx hb hts iX_X3 hown hK hP 9 rfl rfl 5 (by decide +kernel) (hts _ m_t154) (fun _ h9 => h9) rfl (g_180 (v := 30) bX3_readBook rfl) ?_
      refine lv_iconst (v := (-1)) hx hb (g_2 bX3_readBook rfl) (by decide +kernel) ?_
      refine lv_icmp_ne (tgt := 79) hx hb dX3_readBook_58 (by decide +kernel) (fun c_45 => ?_) (fun c_45 => ?_)
      · exact endV (u := [zzO qa 2 [.ref qab, .int (nI kZ), .int (nI kX_38), .int (nI kY_39), .int iX_40, .int iY_41, .ref qd], zzB cy qab 250 fB, zzO qd 3 [.int (nI (T_nb tD)), .int (nI (T_np tD)), .int (wb (T_wh tD)), .int (wb (T_gn tD)), .int (T_sd tD), .ref qdw, .ref qdn, .ref qdg, .ref qda, .ref qdr, .ref qdm, .ref qdt, .ref qds], zzI cy qdw 8 (T_wo tD), zzI cy qdn 8 (T_ne tD), zzI cy qdg 8 (T_go tD), zzI cy qda 8 (T_ag tD), zzI cy qdr 8 (T_re tD), zzI cy qdm 8 (T_me tD), zzI cy qdt 8 (T_te tD), zzI cy qds 64 (shF (T_kn tD))]) hx hb hr hlocks (pSb hP [[false, false, false, false, false, false, false, false, false, true, true], [true, true, true, true, true, true, true, true, true]] rfl rfl) (dSb hD [[false, false, false, false, false, false, false, false, false, true, true], [true, true, true, true, true, true, true, true, true]] (by decide +kernel) rfl rfl) hS ⟨kX_38, kY_39, iX_40, iY_41, tD, rfl, ⟨by omega, by omega, by first | omega | (show T_nb tD + 1 ≤ 8; omega) | (show T_nb tD ≤ 8; omega), by first | omega | (show T_np tD + 1 ≤ 8; omega) | (show T_np tD ≤ 8; omega)⟩, h_43, (ch_swap _ (st_book hlt8 h_9 hF h_20 (opt_y h_33 h_44)) c_45)⟩ (g_177 bX3_readBook rfl)
      · refine lv_aload_n hx hb (g_42 bX3_readBook rfl) rfl (lv_at hl 2 rfl) ?_
        refine va_get (D := G) (ci := 2) (v := .ref qd) (C := RX3) (T := TX3) (N := 7) hx hb hts iX_X3 hown hK hP 9 rfl rfl 6 (by decide +kernel) (hts _ m_t156) (fun _ h9 => h9) rfl (g_180 (v := 18) bX3_readBook rfl) ?_
        refine va_getN (D := G) (ci := 3) (v := .ref qdg) (C := RX4) (T := TX4) (N := 13) hx hb hts iX_X4 hown hK hP 0 rfl rfl 7 (by decide +kernel) (va_Nw.use rfl (hN.2.1 (RX3, 89, "EachBookOnce$Town", "good", "[I") (List.mem_of_getElem? (i := 17) rfl))) (fun _ h9 => h9) rfl (g_180 (v := 89) bX3_readBook rfl) ?_
        refine lv_aload_n hx hb (g_42 bX3_readBook rfl) rfl (lv_at hl 2 rfl) ?_
        refine va_get (D := G) (ci := 2) (v := .ref qd) (C := RX3) (T := TX3) (N := 7) hx hb hts iX_X3 hown hK hP 9 rfl rfl 6 (by decide +kernel) (hts _ m_t156) (fun _ h9 => h9) rfl (g_180 (v := 18) bX3_readBook rfl) ?_
        refine lv_iload_n hx hb (g_27 bX3_readBook rfl) rfl (lv_at hl 1 rfl) ?_
        refine lv_iconst (v := 0) hx hb (g_3 bX3_readBook rfl) (by decide +kernel) ?_
        refine cVi (As := [.int r_11, .int 0]) (rest := [.ref qdg]) (b := qd) (q := (RX4, TX4, 13)) ⟨hx, hb, hml, hown, hts⟩ (c_X4_addBook l G cy (H).size qd tD qdw qdn qdg qda qdr qdm qdt qds r_11 0 (by omega)) L_X3_92 hN hP hD hS hA (trueIx 0 [true, true, true, true, true, true, true, true, true]) [false, false, false, false, false, false, false, false, false, true, true] (sel_eq rfl rfl) (by decide +kernel) rfl 0 3 rfl rfl rfl ⟨Nat.le_of_ble_eq_true rfl, Nat.le_of_ble_eq_true rfl⟩ hl.1 (Nat.le_of_ble_eq_true rfl) (g_182 (v := 92) bX3_readBook rfl) ⟨Nat.le_of_ble_eq_true rfl, Nat.le_of_ble_eq_true rfl⟩ (fun r_46 u_48 H locs h_47 => ?_)
        clear hP hD hS
        intro hP hD hS
        obtain ⟨hu9, h_47⟩ := h_47
        have hPD := pd_eq [_, _, zzO qd 3 [.int (nI (T_nb (zab tD r_11 0))), .int (nI (T_np (zab tD r_11 0))), .int (wb (T_wh (zab tD r_11 0))), .int (wb (T_gn (zab tD r_11 0))), .int (T_sd (zab tD r_11 0)), .ref qdw, .ref qdn, .ref qdg, .ref qda, .ref qdr, .ref qdm, .ref qdt, .ref qds], zzI cy qdw 8 (T_wo (zab tD r_11 0)), zzI cy qdn 8 (T_ne (zab tD r_11 0)), zzI cy qdg 8 (T_go (zab tD r_11 0)), zzI cy qda 8 (T_ag (zab tD r_11 0)), zzI cy qdr 8 (T_re (zab tD r_11 0)), zzI cy qdm 8 (T_me (zab tD r_11 0)), zzI cy qdt 8 (T_te (zab tD r_11 0)), zzI cy qds 64 (shF (T_kn (zab tD r_11 0)))] hP hD hu9 rfl
        clear hP hD hu9
        obtain ⟨hP, hD⟩ := hPD
        subst h_47
        refine lv_iload_n hx hb (g_28 bX3_readBook rfl) rfl (lv_at hl 0 rfl) ?_
        refine va_iast hx hb hK hP hD hS 5 0 rfl rfl (in8 (by omega)) (g_79 bX3_readBook rfl) (fun H locs => ?_)
        clear hP hD hS
        intro hP hD hS
        rw [cl8 (k := (T_nb tD)) (by omega)] at hP hD
        have hPD := pd_as [_, _, _, _, _, zzI cy qdg 8 (upd (T_go (zab tD r_11 0)) (T_nb tD) r_35), _, _, _, _, _] hP hD rfl
        clear hP hD
        obtain ⟨hP, hD⟩ := hPD
        have hPD := pd_as [_, _, zzO qd 3 [.int (nI (T_nb (T_setgo (zab tD r_11 0) (upd (T_go (zab tD r_11 0)) (T_nb tD) r_35)))), .int (nI (T_np (T_setgo (zab tD r_11 0) (upd (T_go (zab tD r_11 0)) (T_nb tD) r_35)))), .int (wb (T_wh (T_setgo (zab tD r_11 0) (upd (T_go (zab tD r_11 0)) (T_nb tD) r_35)))), .int (wb (T_gn (T_setgo (zab tD r_11 0) (upd (T_go (zab tD r_11 0)) (T_nb tD) r_35)))), .int (T_sd (T_setgo (zab tD r_11 0) (upd (T_go (zab tD r_11 0)) (T_nb tD) r_35))), .ref qdw, .ref qdn, .ref qdg, .ref qda, .ref qdr, .ref qdm, .ref qdt, .ref qds], zzI cy qdw 8 (T_wo (T_setgo (zab tD r_11 0) (upd (T_go (zab tD r_11 0)) (T_nb tD) r_35))), zzI cy qdn 8 (T_ne (T_setgo (zab tD r_11 0) (upd (T_go (zab tD r_11 0)) (T_nb tD) r_35))), zzI cy qdg 8 (T_go (T_setgo (zab tD r_11 0) (upd (T_go (zab tD r_11 0)) (T_nb tD) r_35))), zzI cy qda 8 (T_ag (T_setgo (zab tD r_11 0) (upd (T_go (zab tD r_11 0)) (T_nb tD) r_35))), zzI cy qdr 8 (T_re (T_setgo (zab tD r_11 0) (upd (T_go (zab tD r_11 0)) (T_nb tD) r_35))), zzI cy qdm 8 (T_me (T_setgo (zab tD r_11 0) (upd (T_go (zab tD r_11 0)) (T_nb tD) r_35))), zzI cy qdt 8 (T_te (T_setgo (zab tD r_11 0) (upd (T_go (zab tD r_11 0)) (T_nb tD) r_35))), zzI cy qds 64 (shF (T_kn (T_setgo (zab tD r_11 0) (upd (T_go (zab tD r_11 0)) (T_nb tD) r_35))))] hP hD rfl
        clear hP hD
        obtain ⟨hP, hD⟩ := hPD
        exact endV (u := [zzO qa 2 [.ref qab, .int (nI kZ), .int (nI kX_38), .int (nI kY_39), .int iX_40, .int iY_41, .ref qd], zzB cy qab 250 fB, zzO qd 3 [.int (nI (T_nb (T_setgo (zab tD r_11 0) (upd (T_go (zab tD r_11 0)) (T_nb tD) r_35)))), .int (nI (T_np (T_setgo (zab tD r_11 0) (upd (T_go (zab tD r_11 0)) (T_nb tD) r_35)))), .int (wb (T_wh (T_setgo (zab tD r_11 0) (upd (T_go (zab tD r_11 0)) (T_nb tD) r_35)))), .int (wb (T_gn (T_setgo (zab tD r_11 0) (upd (T_go (zab tD r_11 0)) (T_nb tD) r_35)))), .int (T_sd (T_setgo (zab tD r_11 0) (upd (T_go (zab tD r_11 0)) (T_nb tD) r_35))), .ref qdw, .ref qdn, .ref qdg, .ref qda, .ref qdr, .ref qdm, .ref qdt, .ref qds], zzI cy qdw 8 (T_wo (T_setgo (zab tD r_11 0) (upd (T_go (zab tD r_11 0)) (T_nb tD) r_35))), zzI cy qdn 8 (T_ne (T_setgo (zab tD r_11 0) (upd (T_go (zab tD r_11 0)) (T_nb tD) r_35))), zzI cy qdg 8 (T_go (T_setgo (zab tD r_11 0) (upd (T_go (zab tD r_11 0)) (T_nb tD) r_35))), zzI cy qda 8 (T_ag (T_setgo (zab tD r_11 0) (upd (T_go (zab tD r_11 0)) (T_nb tD) r_35))), zzI cy qdr 8 (T_re (T_setgo (zab tD r_11 0) (upd (T_go (zab tD r_11 0)) (T_nb tD) r_35))), zzI cy qdm 8 (T_me (T_setgo (zab tD r_11 0) (upd (T_go (zab tD r_11 0)) (T_nb tD) r_35))), zzI cy qdt 8 (T_te (T_setgo (zab tD r_11 0) (upd (T_go (zab tD r_11 0)) (T_nb tD) r_35))), zzI cy qds 64 (shF (T_kn (T_setgo (zab tD r_11 0) (upd (T_go (zab tD r_11 0)) (T_nb tD) r_35))))]) hx hb hr hlocks (pSb hP [[true, true, true, true, true, true, true, true, true, true, true]] rfl rfl) (dSb hD [[true, true, true, true, true, true, true, true, true, true, true]] (by decide +kernel) rfl rfl) hS ⟨kX_38, kY_39, iX_40, iY_41, (T_setgo (zab tD r_11 0) (upd (T_go (zab tD r_11 0)) (T_nb tD) r_35)), rfl, ⟨by omega, by omega, by first | omega | (show T_nb tD + 1 ≤ 8; omega) | (show T_nb tD ≤ 8; omega), by first | omega | (show T_np tD + 1 ≤ 8; omega) | (show T_np tD ≤ 8; omega)⟩, h_43, (st_book hlt8 h_9 hF h_20 (opt_y h_33 h_44))⟩ (g_177 bX3_readBook rfl)
    · refine lv_if_eq (tgt := 49) hx hb dX3_readBook_35 (by decide +kernel) (fun _ => ?_) (fun h9 => absurd (by decide +kernel) h9)
      refine lv_sipush (v := 1000) hx hb dX3_readBook_49 (by decide +kernel) ?_
      refine lv_istore_n (lv' := [(2, .int 1000), (1, .int r_11), (0, .ref qa)]) hx hb (g_61 bX3_readBook rfl) rfl hl (by decide +kernel) rfl (fun ls => ?_)
      clear hl
      intro hl
      refine lv_aload_n hx hb (g_42 bX3_readBook rfl) rfl (lv_at hl 2 rfl) ?_
      refine va_get (D := G) (ci := 2) (v := .int iY_17) (C := RX3) (T := TX3) (N := 7) hx hb hts iX_X3 hown hK hP 9 rfl rfl 5 (by decide +kernel) (hts _ m_t154) (fun _ h9 => h9) rfl (g_180 (v := 30) bX3_readBook rfl) ?_
      refine lv_iconst (v := (-1)) hx hb (g_2 bX3_readBook rfl) (by decide +kernel) ?_
      refine lv_icmp_ne (tgt := 79) hx hb dX3_readBook_58 (by decide +kernel) (fun c_50 => ?_) (fun c_50 => ?_)
      · exact endV (u := [zzO qa 2 [.ref qab, .int (nI kZ), .int (nI kX_28), .int (nI kY_29), .int iX_30, .int iY_17, .ref qd], zzB cy qab 250 fB, zzO qd 3 [.int (nI (T_nb tD)), .int (nI (T_np tD)), .int (wb (T_wh tD)), .int (wb (T_gn tD)), .int (T_sd tD), .ref qdw, .ref qdn, .ref qdg, .ref qda, .ref qdr, .ref qdm, .ref qdt, .ref qds], zzI cy qdw 8 (T_wo tD), zzI cy qdn 8 (T_ne tD), zzI cy qdg 8 (T_go tD), zzI cy qda 8 (T_ag tD), zzI cy qdr 8 (T_re tD), zzI cy qdm 8 (T_me tD), zzI cy qdt 8 (T_te tD), zzI cy qds 64 (shF (T_kn tD))]) hx hb hr hlocks (pSb hP [[false, false, false, false, false, false, false, false, false, true, true], [true, true, true, true, true, true, true, true, true]] rfl rfl) (dSb hD [[false, false, false, false, false, false, false, false, false, true, true], [true, true, true, true, true, true, true, true, true]] (by decide +kernel) rfl rfl) hS ⟨kX_28, kY_29, iX_30, iY_17, tD, rfl, ⟨by omega, by omega, by first | omega | (show T_nb tD + 1 ≤ 8; omega) | (show T_nb tD ≤ 8; omega), by first | omega | (show T_np tD + 1 ≤ 8; omega) | (show T_np tD ≤ 8; omega)⟩, h_32, (ch_swap _ (st_book hlt8 h_9 hF h_20 (opt_n h_33)) c_50)⟩ (g_177 bX3_readBook rfl)
      · refine lv_aload_n hx hb (g_42 bX3_readBook rfl) rfl (lv_at hl 2 rfl) ?_
        refine va_get (D := G) (ci := 2) (v := .ref qd) (C := RX3) (T := TX3) (N := 7) hx hb hts iX_X3 hown hK hP 9 rfl rfl 6 (by decide +kernel) (hts _ m_t156) (fun _ h9 => h9) rfl (g_180 (v := 18) bX3_readBook rfl) ?_
        refine va_getN (D := G) (ci := 3) (v := .ref qdg) (C := RX4) (T := TX4) (N := 13) hx hb hts iX_X4 hown hK hP 0 rfl rfl 7 (by decide +kernel) (va_Nw.use rfl (hN.2.1 (RX3, 89, "EachBookOnce$Town", "good", "[I") (List.mem_of_getElem? (i := 17) rfl))) (fun _ h9 => h9) rfl (g_180 (v := 89) bX3_readBook rfl) ?_
        refine lv_aload_n hx hb (g_42 bX3_readBook rfl) rfl (lv_at hl 2 rfl) ?_
        refine va_get (D := G) (ci := 2) (v := .ref qd) (C := RX3) (T := TX3) (N := 7) hx hb hts iX_X3 hown hK hP 9 rfl rfl 6 (by decide +kernel) (hts _ m_t156) (fun _ h9 => h9) rfl (g_180 (v := 18) bX3_readBook rfl) ?_
        refine lv_iload_n hx hb (g_27 bX3_readBook rfl) rfl (lv_at hl 1 rfl) ?_
        refine lv_iconst (v := 0) hx hb (g_3 bX3_readBook rfl) (by decide +kernel) ?_
        refine cVi (As := [.int r_11, .int 0]) (rest := [.ref qdg]) (b := qd) (q := (RX4, TX4, 13)) ⟨hx, hb, hml, hown, hts⟩ (c_X4_addBook l G cy (H).size qd tD qdw qdn qdg qda qdr qdm qdt qds r_11 0 (by omega)) L_X3_92 hN hP hD hS hA (trueIx 0 [true, true, true, true, true, true, true, true, true]) [false, false, false, false, false, false, false, false, false, true, true] (sel_eq rfl rfl) (by decide +kernel) rfl 0 3 rfl rfl rfl ⟨Nat.le_of_ble_eq_true rfl, Nat.le_of_ble_eq_true rfl⟩ hl.1 (Nat.le_of_ble_eq_true rfl) (g_182 (v := 92) bX3_readBook rfl) ⟨Nat.le_of_ble_eq_true rfl, Nat.le_of_ble_eq_true rfl⟩ (fun r_51 u_53 H locs h_52 => ?_)
        clear hP hD hS
        intro hP hD hS
        obtain ⟨hu9, h_52⟩ := h_52
        have hPD := pd_eq [_, _, _, _, _, _, _, _, _, _, _] hP hD hu9 rfl
        clear hP hD hu9
        obtain ⟨hP, hD⟩ := hPD
        subst h_52
        refine lv_iload_n hx hb (g_28 bX3_readBook rfl) rfl (lv_at hl 0 rfl) ?_
        refine va_iast hx hb hK hP hD hS 5 0 rfl rfl (in8 (by omega)) (g_79 bX3_readBook rfl) (fun H locs => ?_)
        clear hP hD hS
        intro hP hD hS
        rw [cl8 (k := (T_nb tD)) (by omega)] at hP hD
        have hPD := pd_as [_, _, _, _, _, zzI cy qdg 8 (upd (T_go (zab tD r_11 0)) (T_nb tD) 1000), _, _, _, _, _] hP hD rfl
        clear hP hD
        obtain ⟨hP, hD⟩ := hPD
        have hPD := pd_as [_, _, zzO qd 3 [.int (nI (T_nb (T_setgo (zab tD r_11 0) (upd (T_go (zab tD r_11 0)) (T_nb tD) 1000)))), .int (nI (T_np (T_setgo (zab tD r_11 0) (upd (T_go (zab tD r_11 0)) (T_nb tD) 1000)))), .int (wb (T_wh (T_setgo (zab tD r_11 0) (upd (T_go (zab tD r_11 0)) (T_nb tD) 1000)))), .int (wb (T_gn (T_setgo (zab tD r_11 0) (upd (T_go (zab tD r_11 0)) (T_nb tD) 1000)))), .int (T_sd (T_setgo (zab tD r_11 0) (upd (T_go (zab tD r_11 0)) (T_nb tD) 1000))), .ref qdw, .ref qdn, .ref qdg, .ref qda, .ref qdr, .ref qdm, .ref qdt, .ref qds], zzI cy qdw 8 (T_wo (T_setgo (zab tD r_11 0) (upd (T_go (zab tD r_11 0)) (T_nb tD) 1000))), zzI cy qdn 8 (T_ne (T_setgo (zab tD r_11 0) (upd (T_go (zab tD r_11 0)) (T_nb tD) 1000))), zzI cy qdg 8 (T_go (T_setgo (zab tD r_11 0) (upd (T_go (zab tD r_11 0)) (T_nb tD) 1000))), zzI cy qda 8 (T_ag (T_setgo (zab tD r_11 0) (upd (T_go (zab tD r_11 0)) (T_nb tD) 1000))), zzI cy qdr 8 (T_re (T_setgo (zab tD r_11 0) (upd (T_go (zab tD r_11 0)) (T_nb tD) 1000))), zzI cy qdm 8 (T_me (T_setgo (zab tD r_11 0) (upd (T_go (zab tD r_11 0)) (T_nb tD) 1000))), zzI cy qdt 8 (T_te (T_setgo (zab tD r_11 0) (upd (T_go (zab tD r_11 0)) (T_nb tD) 1000))), zzI cy qds 64 (shF (T_kn (T_setgo (zab tD r_11 0) (upd (T_go (zab tD r_11 0)) (T_nb tD) 1000))))] hP hD rfl
        clear hP hD
        obtain ⟨hP, hD⟩ := hPD
        exact endV (u := [zzO qa 2 [.ref qab, .int (nI kZ), .int (nI kX_28), .int (nI kY_29), .int iX_30, .int iY_17, .ref qd], zzB cy qab 250 fB, zzO qd 3 [.int (nI (T_nb (T_setgo (zab tD r_11 0) (upd (T_go (zab tD r_11 0)) (T_nb tD) 1000)))), .int (nI (T_np (T_setgo (zab tD r_11 0) (upd (T_go (zab tD r_11 0)) (T_nb tD) 1000)))), .int (wb (T_wh (T_setgo (zab tD r_11 0) (upd (T_go (zab tD r_11 0)) (T_nb tD) 1000)))), .int (wb (T_gn (T_setgo (zab tD r_11 0) (upd (T_go (zab tD r_11 0)) (T_nb tD) 1000)))), .int (T_sd (T_setgo (zab tD r_11 0) (upd (T_go (zab tD r_11 0)) (T_nb tD) 1000))), .ref qdw, .ref qdn, .ref qdg, .ref qda, .ref qdr, .ref qdm, .ref qdt, .ref qds], zzI cy qdw 8 (T_wo (T_setgo (zab tD r_11 0) (upd (T_go (zab tD r_11 0)) (T_nb tD) 1000))), zzI cy qdn 8 (T_ne (T_setgo (zab tD r_11 0) (upd (T_go (zab tD r_11 0)) (T_nb tD) 1000))), zzI cy qdg 8 (T_go (T_setgo (zab tD r_11 0) (upd (T_go (zab tD r_11 0)) (T_nb tD) 1000))), zzI cy qda 8 (T_ag (T_setgo (zab tD r_11 0) (upd (T_go (zab tD r_11 0)) (T_nb tD) 1000))), zzI cy qdr 8 (T_re (T_setgo (zab tD r_11 0) (upd (T_go (zab tD r_11 0)) (T_nb tD) 1000))), zzI cy qdm 8 (T_me (T_setgo (zab tD r_11 0) (upd (T_go (zab tD r_11 0)) (T_nb tD) 1000))), zzI cy qdt 8 (T_te (T_setgo (zab tD r_11 0) (upd (T_go (zab tD r_11 0)) (T_nb tD) 1000))), zzI cy qds 64 (shF (T_kn (T_setgo (zab tD r_11 0) (upd (T_go (zab tD r_11 0)) (T_nb tD) 1000))))]) hx hb hr hlocks (pSb hP [[true, true, true, true, true, true, true, true, true, true, true]] rfl rfl) (dSb hD [[true, true, true, true, true, true, true, true, true, true, true]] (by decide +kernel) rfl rfl) hS ⟨kX_28, kY_29, iX_30, iY_17, (T_setgo (zab tD r_11 0) (upd (T_go (zab tD r_11 0)) (T_nb tD) 1000)), rfl, ⟨by omega, by omega, by first | omega | (show T_nb tD + 1 ≤ 8; omega) | (show T_nb tD ≤ 8; omega), by first | omega | (show T_np tD + 1 ≤ 8; omega) | (show T_np tD ≤ 8; omega)⟩, h_32, (st_book hlt8 h_9 hF h_20 (opt_n h_33))⟩ (g_177 bX3_readBook rfl)
  · refine lv_aload_n hx hb (g_42 bX3_readBook rfl) rfl (lv_at hl 0 rfl) ?_
    refine cVv (As := []) (rest := []) (b := qa) (q := (RX3, TX3, 7)) ⟨hx, hb, hml, hown, hts⟩ (x_X3_fail l G cy (s.heap).size qa qab kZ kS kE iT iF qd hZ hE) L_X3_45 hN hP hD hS hA [0] [false, true, true, true, true, true, true, true, true, true, true] rfl (by decide +kernel) rfl 0 2 rfl rfl rfl ⟨Nat.le_of_ble_eq_true rfl, Nat.le_of_ble_eq_true rfl⟩ hl.1 (Nat.le_of_ble_eq_true rfl) (g_182 (v := 45) bX3_readBook rfl) ⟨Nat.le_of_ble_eq_true rfl, Nat.le_of_ble_eq_true rfl⟩ (fun u_56 H locs h_55 => ?_)
    clear hP hD hS
    intro hP hD hS
    obtain ⟨iX_57, hu9, h_58, h_59⟩ := h_55
    have hPD := pd_eq [_, _, _, _, _, _, _, _, _, _, zzO qa 2 [.ref qab, .int (nI kZ), .int (nI kS), .int (nI kE), .int iT, .int iX_57, .ref qd]] hP hD hu9 rfl
    clear hP hD hu9
    obtain ⟨hP, hD⟩ := hPD
    exact endV (u := [zzO qa 2 [.ref qab, .int (nI kZ), .int (nI kS), .int (nI kE), .int iT, .int iX_57, .ref qd], zzB cy qab 250 fB, zzO qd 3 [.int (nI (T_nb tD)), .int (nI (T_np tD)), .int (wb (T_wh tD)), .int (wb (T_gn tD)), .int (T_sd tD), .ref qdw, .ref qdn, .ref qdg, .ref qda, .ref qdr, .ref qdm, .ref qdt, .ref qds], zzI cy qdw 8 (T_wo tD), zzI cy qdn 8 (T_ne tD), zzI cy qdg 8 (T_go tD), zzI cy qda 8 (T_ag tD), zzI cy qdr 8 (T_re tD), zzI cy qdm 8 (T_me tD), zzI cy qdt 8 (T_te tD), zzI cy qds 64 (shF (T_kn tD))]) hx hb hr hlocks (pSb hP [[false, false, false, false, false, false, false, false, false, false, true], [true, true, true, true, true, true, true, true, true, true]] rfl rfl) (dSb hD [[false, false, false, false, false, false, false, false, false, false, true], [true, true, true, true, true, true, true, true, true, true]] (by decide +kernel) rfl rfl) hS ⟨kS, kE, iT, iX_57, tD, rfl, ⟨by omega, by omega, by first | omega | (show T_nb tD + 1 ≤ 8; omega) | (show T_nb tD ≤ 8; omega), by first | omega | (show T_np tD + 1 ≤ 8; omega) | (show T_np tD ≤ 8; omega)⟩, hLx, (st_full1 (nlt_of8 (by omega) c_1) (by omega) (by rw [h_59, fal_1 hF]))⟩ (g_177 bX3_readBook rfl)
set_option maxHeartbeats 4000000 in
set_option maxRecDepth 100000 in
theorem x_X3_readNeed (l : Launch) (G : va_G) (cy : Nat → ClassId) (sz : Nat) (qa : Nat) (qab : Nat) (kZ : Nat) (kS : Nat) (kE : Nat) (iT : Int32) (iF : Int32) (qd : Nat) (fB : Nat → Int32) (tD : TA) (qdw : Nat) (qdn : Nat) (qdg : Nat) (qda : Nat) (qdr : Nat) (qdm : Nat) (qdt : Nat) (qds : Nat)  (hZ : kZ ≤ 250) (hE : kS ≤ kE ∧ kE ≤ kZ) (hLx : Lx fB kZ kS iT kE) (hF : iF = -1) (hDb : T_nb tD ≤ 8) (hDp : T_np tD ≤ 8) : MW l yX3_readNeed cX3_readNeed 3 none 8 0 0 G cy [zzO qa 2 [.ref qab, .int (nI kZ), .int (nI kS), .int (nI kE), .int iT, .int iF, .ref qd], zzB cy qab 250 fB, zzO qd 3 [.int (nI (T_nb tD)), .int (nI (T_np tD)), .int (wb (T_wh tD)), .int (wb (T_gn tD)), .int (T_sd tD), .ref qdw, .ref qdn, .ref qdg, .ref qda, .ref qdr, .ref qdm, .ref qdt, .ref qds], zzI cy qdw 8 (T_wo tD), zzI cy qdn 8 (T_ne tD), zzI cy qdg 8 (T_go tD), zzI cy qda 8 (T_ag tD), zzI cy qdr 8 (T_re tD), zzI cy qdm 8 (T_me tD), zzI cy qdt 8 (T_te tD), zzI cy qds 64 (shF (T_kn tD))] sz [.ref qa] (Wv G (fun u => ∃ (kX : Nat) (kY : Nat) (iX : Int32) (iY : Int32) (tX : TA), u = [zzO qa 2 [.ref qab, .int (nI kZ), .int (nI kX), .int (nI kY), .int iX, .int iY, .ref qd], zzB cy qab 250 fB, zzO qd 3 [.int (nI (T_nb tX)), .int (nI (T_np tX)), .int (wb (T_wh tX)), .int (wb (T_gn tX)), .int (T_sd tX), .ref qdw, .ref qdn, .ref qdg, .ref qda, .ref qdr, .ref qdm, .ref qdt, .ref qds], zzI cy qdw 8 (T_wo tX), zzI cy qdn 8 (T_ne tX), zzI cy qdg 8 (T_go tX), zzI cy qda 8 (T_ag tX), zzI cy qdr 8 (T_re tX), zzI cy qdm 8 (T_me tX), zzI cy qdt 8 (T_te tX), zzI cy qds 64 (shF (T_kn tX))] ∧ (kX ≤ kY ∧ kY ≤ kZ ∧ T_nb tX ≤ 8 ∧ T_np tX ≤ 8) ∧ Lx fB kZ kX iX kY ∧ CH iY (pNeed (nbf fB kZ) kZ (kS, iT, kE) tD) ((kX, iX, kY), tX))) := by
  refine enW RX3 (by decide +kernel) rfl (Nat.le_of_ble_eq_true rfl) (fun p e s m below meth c ls A hx hb hml hown hts hr hlocks hP hN hl hin hD hA hS => ?_)
  have hin : meth.name = _ := hin
  have hK := hN.1
  replace hl : lv_has ls 3 [(0, .ref qa)] := hl
  refine lv_aload_n hx hb (g_42 bX3_readNeed rfl) rfl (lv_at hl 0 rfl) ?_
  refine cVv (As := []) (rest := []) (b := qa) (q := (RX3, TX3, 7)) ⟨hx, hb, hml, hown, hts⟩ (x_X3_step l G cy (s.heap).size qa qab kZ (nI kS) kE iT iF qd fB hZ (by omega)) L_X3_36 hN hP hD hS hA [0, 1] [false, false, true, true, true, true, true, true, true, true, true] rfl (by decide +kernel) rfl 0 2 rfl rfl rfl ⟨Nat.le_of_ble_eq_true rfl, Nat.le_of_ble_eq_true rfl⟩ hl.1 (Nat.le_of_ble_eq_true rfl) (g_182 (v := 36) bX3_readNeed rfl) ⟨Nat.le_of_ble_eq_true rfl, Nat.le_of_ble_eq_true rfl⟩ (fun u_3 H locs h_2 => ?_)
  clear hP hD hS
  intro hP hD hS
  obtain ⟨kX_4, kY_5, iX_6, hu9, h_7, h_8, h_9⟩ := h_2
  have hPD := pd_eq [_, _, _, _, _, _, _, _, _, zzO qa 2 [.ref qab, .int (nI kZ), .int (nI kX_4), .int (nI kY_5), .int iX_6, .int iF, .ref qd], _] hP hD hu9 rfl
  clear hP hD hu9
  obtain ⟨hP, hD⟩ := hPD
  refine lv_aload_n hx hb (g_42 bX3_readNeed rfl) rfl (lv_at hl 0 rfl) ?_
  refine lv_iconst (v := 0) hx hb (g_3 bX3_readNeed rfl) (by decide +kernel) ?_
  refine lv_aload_n hx hb (g_42 bX3_readNeed rfl) rfl (lv_at hl 0 rfl) ?_
  refine va_get (D := G) (ci := 2) (v := .ref qd) (C := RX3) (T := TX3) (N := 7) hx hb hts iX_X3 hown hK hP 9 rfl rfl 6 (by decide +kernel) (hts _ m_t156) (fun _ h9 => h9) rfl (g_180 (v := 18) bX3_readNeed rfl) ?_
  refine va_getN (D := G) (ci := 3) (v := .int (nI (T_nb tD))) (C := RX4) (T := TX4) (N := 13) hx hb hts iX_X4 hown hK hP 0 rfl rfl 0 (by decide +kernel) (va_Nw.use rfl (hN.2.1 (RX3, 77, "EachBookOnce$Town", "books", "I") (List.mem_of_getElem? (i := 0) rfl))) (fun _ h9 => h9) rfl (g_180 (v := 77) bX3_readNeed rfl) ?_
  refine lv_iconst (v := 1) hx hb (g_4 bX3_readNeed rfl) (by decide +kernel) ?_
  refine lv_isub hx hb (g_100 bX3_readNeed rfl) ?_
  refine cVi (As := [.int 0, .int ((nI (T_nb tD)) - 1)]) (rest := []) (b := qa) (q := (RX3, TX3, 7)) ⟨hx, hb, hml, hown, hts⟩ (x_X3_takeNumber l G cy (H).size qa qab kZ kX_4 kY_5 iX_6 iF qd fB 0 ((nI (T_nb tD)) - 1) hZ (by omega) h_9 (by decide +kernel)) L_X3_80 hN hP hD hS hA [9, 10] [true, true, true, true, true, true, true, true, true, false, false] rfl (by decide +kernel) rfl 9 2 rfl rfl rfl ⟨Nat.le_of_ble_eq_true rfl, Nat.le_of_ble_eq_true rfl⟩ hl.1 (Nat.le_of_ble_eq_true rfl) (g_182 (v := 80) bX3_readNeed rfl) ⟨Nat.le_of_ble_eq_true rfl, Nat.le_of_ble_eq_true rfl⟩ (fun r_10 u_12 H locs h_11 => ?_)
  clear hP hD hS
  intro hP hD hS
  obtain ⟨kX_13, kY_14, iX_15, iY_16, hu9, h_17, h_18, h_19, h_11⟩ := h_11
  have hPD := pd_eq [_, _, _, _, _, _, _, _, _, zzO qa 2 [.ref qab, .int (nI kZ), .int (nI kX_13), .int (nI kY_14), .int iX_15, .int iY_16, .ref qd], _] hP hD hu9 rfl
  clear hP hD hu9
  obtain ⟨hP, hD⟩ := hPD
  refine lv_istore_n (lv' := [(1, .int r_10), (0, .ref qa)]) hx hb (g_60 bX3_readNeed rfl) rfl hl (by decide +kernel) rfl (fun ls => ?_)
  clear hl
  intro hl
  refine lv_aload_n hx hb (g_42 bX3_readNeed rfl) rfl (lv_at hl 1 rfl) ?_
  refine lv_iconst (v := 0) hx hb (g_3 bX3_readNeed rfl) (by decide +kernel) ?_
  refine lv_iload_n hx hb (g_27 bX3_readNeed rfl) rfl (lv_at hl 0 rfl) ?_
  refine lv_iconst (v := 1) hx hb (g_4 bX3_readNeed rfl) (by decide +kernel) ?_
  refine lv_isub hx hb (g_100 bX3_readNeed rfl) ?_
  refine cVi (As := [.int 0, .int (r_10 - 1)]) (rest := []) (b := qa) (q := (RX3, TX3, 7)) ⟨hx, hb, hml, hown, hts⟩ (x_X3_takeNumber l G cy (H).size qa qab kZ kX_13 kY_14 iX_15 iY_16 qd fB 0 (r_10 - 1) hZ (by omega) h_18 (by decide +kernel)) L_X3_80 hN hP hD hS hA [9, 10] [true, true, true, true, true, true, true, true, true, false, false] rfl (by decide +kernel) rfl 9 2 rfl rfl rfl ⟨Nat.le_of_ble_eq_true rfl, Nat.le_of_ble_eq_true rfl⟩ hl.1 (Nat.le_of_ble_eq_true rfl) (g_182 (v := 80) bX3_readNeed rfl) ⟨Nat.le_of_ble_eq_true rfl, Nat.le_of_ble_eq_true rfl⟩ (fun r_20 u_22 H locs h_21 => ?_)
  clear hP hD hS
  intro hP hD hS
  obtain ⟨kX_23, kY_24, iX_25, iY_26, hu9, h_27, h_28, h_29, h_21⟩ := h_21
  have hPD := pd_eq [_, _, _, _, _, _, _, _, _, zzO qa 2 [.ref qab, .int (nI kZ), .int (nI kX_23), .int (nI kY_24), .int iX_25, .int iY_26, .ref qd], _] hP hD hu9 rfl
  clear hP hD hu9
  obtain ⟨hP, hD⟩ := hPD
  refine lv_istore_n (lv' := [(2, .int r_20), (1, .int r_10), (0, .ref qa)]) hx hb (g_61 bX3_readNeed rfl) rfl hl (by decide +kernel) rfl (fun ls => ?_)
  clear hl
  intro hl
  refine lv_aload_n hx hb (g_42 bX3_readNeed rfl) rfl (lv_at hl 2 rfl) ?_
  refine va_get (D := G) (ci := 2) (v := .int iY_26) (C := RX3) (T := TX3) (N := 7) hx hb hts iX_X3 hown hK hP 9 rfl rfl 5 (by decide +kernel) (hts _ m_t154) (fun _ h9 => h9) rfl (g_180 (v := 30) bX3_readNeed rfl) ?_
  refine lv_iconst (v := (-1)) hx hb (g_2 bX3_readNeed rfl) (by decide +kernel) ?_
  refine lv_icmp_ne (tgt := 51) hx hb dX3_readNeed_33 (by decide +kernel) (fun c_30 => ?_) (fun c_30 => ?_)
  · exact endV (u := [zzO qa 2 [.ref qab, .int (nI kZ), .int (nI kX_23), .int (nI kY_24), .int iX_25, .int iY_26, .ref qd], zzB cy qab 250 fB, zzO qd 3 [.int (nI (T_nb tD)), .int (nI (T_np tD)), .int (wb (T_wh tD)), .int (wb (T_gn tD)), .int (T_sd tD), .ref qdw, .ref qdn, .ref qdg, .ref qda, .ref qdr, .ref qdm, .ref qdt, .ref qds], zzI cy qdw 8 (T_wo tD), zzI cy qdn 8 (T_ne tD), zzI cy qdg 8 (T_go tD), zzI cy qda 8 (T_ag tD), zzI cy qdr 8 (T_re tD), zzI cy qdm 8 (T_me tD), zzI cy qdt 8 (T_te tD), zzI cy qds 64 (shF (T_kn tD))]) hx hb hr hlocks (pSb hP [[false, false, false, false, false, false, false, false, false, true, true], [true, true, true, true, true, true, true, true, true]] rfl rfl) (dSb hD [[false, false, false, false, false, false, false, false, false, true, true], [true, true, true, true, true, true, true, true, true]] (by decide +kernel) rfl rfl) hS ⟨kX_23, kY_24, iX_25, iY_26, tD, rfl, ⟨by omega, by omega, by first | omega | (show T_nb tD + 1 ≤ 8; omega) | (show T_nb tD ≤ 8; omega), by first | omega | (show T_np tD + 1 ≤ 8; omega) | (show T_np tD ≤ 8; omega)⟩, h_28, (ch_swap _ (st_need h_8 hF h_19 h_29) c_30)⟩ (g_177 bX3_readNeed rfl)
  · have hq_31 := h_27.2.2 c_30
    have hq_32 := h_17.2.2 hq_31.1
    obtain ⟨k_33, hk_34, ek_35⟩ := tk_in (n := T_nb tD) (by omega) hq_32.2.1 hq_32.2.2
    rw [ek_35] at hq_31
    obtain ⟨k_36, hk_37, ek_38⟩ := tk_in (n := k_33) (by omega) hq_31.2.1 hq_31.2.2
    rw [ek_38, ek_35] at hl
    refine lv_aload_n hx hb (g_42 bX3_readNeed rfl) rfl (lv_at hl 2 rfl) ?_
    refine va_get (D := G) (ci := 2) (v := .ref qd) (C := RX3) (T := TX3) (N := 7) hx hb hts iX_X3 hown hK hP 9 rfl rfl 6 (by decide +kernel) (hts _ m_t156) (fun _ h9 => h9) rfl (g_180 (v := 18) bX3_readNeed rfl) ?_
    refine va_getN (D := G) (ci := 3) (v := .ref qdn) (C := RX4) (T := TX4) (N := 13) hx hb hts iX_X4 hown hK hP 0 rfl rfl 6 (by decide +kernel) (va_Nw.use rfl (hN.2.1 (RX3, 95, "EachBookOnce$Town", "needed", "[I") (List.mem_of_getElem? (i := 15) rfl))) (fun _ h9 => h9) rfl (g_180 (v := 95) bX3_readNeed rfl) ?_
    refine lv_iload_n hx hb (g_27 bX3_readNeed rfl) rfl (lv_at hl 1 rfl) ?_
    refine lv_dup2_11 hx hb (g_92 bX3_readNeed rfl) rfl rfl ?_
    refine va_iald hx hb hK hP 2 0 rfl rfl (in8 (by omega)) (g_46 bX3_readNeed rfl) ?_
    refine lv_seti (v := (T_ne tD) k_33) (congrArg (T_ne tD) (cl8 (by omega))) ?_
    refine lv_iconst (v := 1) hx hb (g_4 bX3_readNeed rfl) (by decide +kernel) ?_
    refine lv_iload_n hx hb (g_28 bX3_readNeed rfl) rfl (lv_at hl 0 rfl) ?_
    refine lv_ishl hx hb (g_120 bX3_readNeed rfl) ?_
    refine lv_ior hx hb (g_128 bX3_readNeed rfl) ?_
    refine va_iast hx hb hK hP hD hS 2 0 rfl rfl (in8 (by omega)) (g_79 bX3_readNeed rfl) (fun H locs => ?_)
    clear hP hD hS
    intro hP hD hS
    rw [cl8 (k := k_33) (by omega)] at hP hD
    have hPD := pd_as [_, _, zzI cy qdn 8 (upd (T_ne tD) k_33 (((T_ne tD) k_33) ||| (1 <<< ((nI k_36) &&& 31)))), _, _, _, _, _, _, _, _] hP hD rfl
    clear hP hD
    obtain ⟨hP, hD⟩ := hPD
    have hPD := pd_as [zzO qd 3 [.int (nI (T_nb (T_setne tD (upd (T_ne tD) k_33 (((T_ne tD) k_33) ||| (1 <<< ((nI k_36) &&& 31))))))), .int (nI (T_np (T_setne tD (upd (T_ne tD) k_33 (((T_ne tD) k_33) ||| (1 <<< ((nI k_36) &&& 31))))))), .int (wb (T_wh (T_setne tD (upd (T_ne tD) k_33 (((T_ne tD) k_33) ||| (1 <<< ((nI k_36) &&& 31))))))), .int (wb (T_gn (T_setne tD (upd (T_ne tD) k_33 (((T_ne tD) k_33) ||| (1 <<< ((nI k_36) &&& 31))))))), .int (T_sd (T_setne tD (upd (T_ne tD) k_33 (((T_ne tD) k_33) ||| (1 <<< ((nI k_36) &&& 31)))))), .ref qdw, .ref qdn, .ref qdg, .ref qda, .ref qdr, .ref qdm, .ref qdt, .ref qds], zzI cy qdw 8 (T_wo (T_setne tD (upd (T_ne tD) k_33 (((T_ne tD) k_33) ||| (1 <<< ((nI k_36) &&& 31)))))), zzI cy qdn 8 (T_ne (T_setne tD (upd (T_ne tD) k_33 (((T_ne tD) k_33) ||| (1 <<< ((nI k_36) &&& 31)))))), zzI cy qdg 8 (T_go (T_setne tD (upd (T_ne tD) k_33 (((T_ne tD) k_33) ||| (1 <<< ((nI k_36) &&& 31)))))), zzI cy qda 8 (T_ag (T_setne tD (upd (T_ne tD) k_33 (((T_ne tD) k_33) ||| (1 <<< ((nI k_36) &&& 31)))))), zzI cy qdr 8 (T_re (T_setne tD (upd (T_ne tD) k_33 (((T_ne tD) k_33) ||| (1 <<< ((nI k_36) &&& 31)))))), zzI cy qdm 8 (T_me (T_setne tD (upd (T_ne tD) k_33 (((T_ne tD) k_33) ||| (1 <<< ((nI k_36) &&& 31)))))), zzI cy qdt 8 (T_te (T_setne tD (upd (T_ne tD) k_33 (((T_ne tD) k_33) ||| (1 <<< ((nI k_36) &&& 31)))))), zzI cy qds 64 (shF (T_kn (T_setne tD (upd (T_ne tD) k_33 (((T_ne tD) k_33) ||| (1 <<< ((nI k_36) &&& 31))))))), _, _] hP hD rfl
    clear hP hD
    obtain ⟨hP, hD⟩ := hPD
    exact endV (u := [zzO qa 2 [.ref qab, .int (nI kZ), .int (nI kX_23), .int (nI kY_24), .int iX_25, .int iY_26, .ref qd], zzB cy qab 250 fB, zzO qd 3 [.int (nI (T_nb (T_setne tD (upd (T_ne tD) k_33 (((T_ne tD) k_33) ||| (1 <<< ((nI k_36) &&& 31))))))), .int (nI (T_np (T_setne tD (upd (T_ne tD) k_33 (((T_ne tD) k_33) ||| (1 <<< ((nI k_36) &&& 31))))))), .int (wb (T_wh (T_setne tD (upd (T_ne tD) k_33 (((T_ne tD) k_33) ||| (1 <<< ((nI k_36) &&& 31))))))), .int (wb (T_gn (T_setne tD (upd (T_ne tD) k_33 (((T_ne tD) k_33) ||| (1 <<< ((nI k_36) &&& 31))))))), .int (T_sd (T_setne tD (upd (T_ne tD) k_33 (((T_ne tD) k_33) ||| (1 <<< ((nI k_36) &&& 31)))))), .ref qdw, .ref qdn, .ref qdg, .ref qda, .ref qdr, .ref qdm, .ref qdt, .ref qds], zzI cy qdw 8 (T_wo (T_setne tD (upd (T_ne tD) k_33 (((T_ne tD) k_33) ||| (1 <<< ((nI k_36) &&& 31)))))), zzI cy qdn 8 (T_ne (T_setne tD (upd (T_ne tD) k_33 (((T_ne tD) k_33) ||| (1 <<< ((nI k_36) &&& 31)))))), zzI cy qdg 8 (T_go (T_setne tD (upd (T_ne tD) k_33 (((T_ne tD) k_33) ||| (1 <<< ((nI k_36) &&& 31)))))), zzI cy qda 8 (T_ag (T_setne tD (upd (T_ne tD) k_33 (((T_ne tD) k_33) ||| (1 <<< ((nI k_36) &&& 31)))))), zzI cy qdr 8 (T_re (T_setne tD (upd (T_ne tD) k_33 (((T_ne tD) k_33) ||| (1 <<< ((nI k_36) &&& 31)))))), zzI cy qdm 8 (T_me (T_setne tD (upd (T_ne tD) k_33 (((T_ne tD) k_33) ||| (1 <<< ((nI k_36) &&& 31)))))), zzI cy qdt 8 (T_te (T_setne tD (upd (T_ne tD) k_33 (((T_ne tD) k_33) ||| (1 <<< ((nI k_36) &&& 31)))))), zzI cy qds 64 (shF (T_kn (T_setne tD (upd (T_ne tD) k_33 (((T_ne tD) k_33) ||| (1 <<< ((nI k_36) &&& 31)))))))]) hx hb hr hlocks (pSb hP [[false, false, false, false, false, false, false, false, false, true, true], [true, true, true, true, true, true, true, true, true]] rfl rfl) (dSb hD [[false, false, false, false, false, false, false, false, false, true, true], [true, true, true, true, true, true, true, true, true]] (by decide +kernel) rfl rfl) hS ⟨kX_23, kY_24, iX_25, iY_26, (T_setne tD (upd (T_ne tD) k_33 (((T_ne tD) k_33) ||| (1 <<< ((nI k_36) &&& 31))))), rfl, ⟨by omega, by omega, by first | omega | (show T_nb tD + 1 ≤ 8; omega) | (show T_nb tD ≤ 8; omega), by first | omega | (show T_np tD + 1 ≤ 8; omega) | (show T_np tD ≤ 8; omega)⟩, h_28, (by have q9 := st_need (a := kS) (t := iT) h_8 hF h_19 h_29; rw [ek_35, ek_38, neT_nI (by omega)] at q9; exact q9)⟩ (g_177 bX3_readNeed rfl)
set_option maxHeartbeats 4000000 in
set_option maxRecDepth 100000 in
theorem x_X3_readOne (l : Launch) (G : va_G) (cy : Nat → ClassId) (sz : Nat) (qa : Nat) (qab : Nat) (kZ : Nat) (kS : Nat) (kE : Nat) (iT : Int32) (iF : Int32) (qd : Nat) (fB : Nat → Int32) (tD : TA) (qdw : Nat) (qdn : Nat) (qdg : Nat) (qda : Nat) (qdr : Nat) (qdm : Nat) (qdt : Nat) (qds : Nat)  (hZ : kZ ≤ 250) (hE : kS ≤ kE ∧ kE ≤ kZ) (hLx : Lx fB kZ kS iT kE) (hF : iF = -1) (hDb : T_nb tD ≤ 8) (hDp : T_np tD ≤ 8) : MWX l yX3_readOne cX3_readOne 5 none 8 0 0 G cy SO [zzO qa 2 [.ref qab, .int (nI kZ), .int (nI kS), .int (nI kE), .int iT, .int iF, .ref qd], zzB cy qab 250 fB, zzO qd 3 [.int (nI (T_nb tD)), .int (nI (T_np tD)), .int (wb (T_wh tD)), .int (wb (T_gn tD)), .int (T_sd tD), .ref qdw, .ref qdn, .ref qdg, .ref qda, .ref qdr, .ref qdm, .ref qdt, .ref qds], zzI cy qdw 8 (T_wo tD), zzI cy qdn 8 (T_ne tD), zzI cy qdg 8 (T_go tD), zzI cy qda 8 (T_ag tD), zzI cy qdr 8 (T_re tD), zzI cy qdm 8 (T_me tD), zzI cy qdt 8 (T_te tD), zzI cy qds 64 (shF (T_kn tD))] sz [.ref qa] (Wv G (fun u => ∃ (kX : Nat) (kY : Nat) (iX : Int32) (iY : Int32) (tX : TA), u = [zzO qa 2 [.ref qab, .int (nI kZ), .int (nI kX), .int (nI kY), .int iX, .int iY, .ref qd], zzB cy qab 250 fB, zzO qd 3 [.int (nI (T_nb tX)), .int (nI (T_np tX)), .int (wb (T_wh tX)), .int (wb (T_gn tX)), .int (T_sd tX), .ref qdw, .ref qdn, .ref qdg, .ref qda, .ref qdr, .ref qdm, .ref qdt, .ref qds], zzI cy qdw 8 (T_wo tX), zzI cy qdn 8 (T_ne tX), zzI cy qdg 8 (T_go tX), zzI cy qda 8 (T_ag tX), zzI cy qdr 8 (T_re tX), zzI cy qdm 8 (T_me tX), zzI cy qdt 8 (T_te tX), zzI cy qds 64 (shF (T_kn tX))] ∧ (kX ≤ kY ∧ kY ≤ kZ ∧ T_nb tX ≤ 8 ∧ T_np tX ≤ 8) ∧ Lx fB kZ kX iX kY ∧ CH iY (pOne (nbf fB kZ) kZ (kS, iT, kE) tD) ((kX, iX, kY), tX))) := by
  refine enWX RX3 (by decide +kernel) rfl (Nat.le_of_ble_eq_true rfl) (fun p e s m below meth c ls A hx hb hml hown hts hr hlocks hP hN hl hin hD hA hS hX => ?_)
  have hin : meth.name = _ := hin
  have hK := hN.1
  replace hl : lv_has ls 5 [(0, .ref qa)] := hl
  refine lv_aload_n hx hb (g_42 bX3_readOne rfl) rfl (lv_at hl 0 rfl) ?_
  refine va_get (D := G) (ci := 2) (v := .ref qd) (C := RX3) (T := TX3) (N := 7) hx hb hts iX_X3 hown hK hP 0 rfl rfl 6 (by decide +kernel) (hts _ m_t156) (fun _ h9 => h9) rfl (g_180 (v := 18) bX3_readOne rfl) ?_
  refine va_getN (D := G) (ci := 3) (v := .int (nI (T_np tD))) (C := RX4) (T := TX4) (N := 13) hx hb hts iX_X4 hown hK hP 2 rfl rfl 1 (by decide +kernel) (va_Nw.use rfl (hN.2.1 (RX3, 98, "EachBookOnce$Town", "people", "I") (List.mem_of_getElem? (i := 6) rfl))) (fun _ h9 => h9) rfl (g_180 (v := 98) bX3_readOne rfl) ?_
  refine lv_bipush (v := 8) hx hb dX3_readOne_7 (by decide +kernel) ?_
  refine lv_icmp_lt (tgt := 17) hx hb dX3_readOne_9 (by decide +kernel) (fun c_1 => ?_) (fun c_1 => ?_)
  · have hlt8 : T_np tD < 8 := lt_of8 (by omega) c_1
    refine lv_aload_n hx hb (g_42 bX3_readOne rfl) rfl (lv_at hl 0 rfl) ?_
    refine cVv (As := []) (rest := []) (b := qa) (q := (RX3, TX3, 7)) ⟨hx, hb, hml, hown, hts⟩ (x_X3_step l G cy (s.heap).size qa qab kZ (nI kS) kE iT iF qd fB hZ (by omega)) L_X3_36 hN hP hD hS hA [0, 1] [false, false, true, true, true, true, true, true, true, true, true] rfl (by decide +kernel) rfl 0 2 rfl rfl rfl ⟨Nat.le_of_ble_eq_true rfl, Nat.le_of_ble_eq_true rfl⟩ hl.1 (Nat.le_of_ble_eq_true rfl) (g_182 (v := 36) bX3_readOne rfl) ⟨Nat.le_of_ble_eq_true rfl, Nat.le_of_ble_eq_true rfl⟩ (fun u_4 H locs h_3 => ?_)
    clear hP hD hS
    intro hP hD hS
    obtain ⟨kX_5, kY_6, iX_7, hu9, h_8, h_9, h_10⟩ := h_3
    have hPD := pd_eq [_, _, _, _, _, _, _, _, _, zzO qa 2 [.ref qab, .int (nI kZ), .int (nI kX_5), .int (nI kY_6), .int iX_7, .int iF, .ref qd], _] hP hD hu9 rfl
    clear hP hD hu9
    obtain ⟨hP, hD⟩ := hPD
    refine lv_aload_n hx hb (g_42 bX3_readOne rfl) rfl (lv_at hl 0 rfl) ?_
    refine lv_iconst (v := 0) hx hb (g_3 bX3_readOne rfl) (by decide +kernel) ?_
    refine lv_bipush (v := 9) hx hb dX3_readOne_23 (by decide +kernel) ?_
    refine cVi (As := [.int 0, .int 9]) (rest := []) (b := qa) (q := (RX3, TX3, 7)) ⟨hx, hb, hml, hown, hts⟩ (x_X3_takeNumber l G cy (H).size qa qab kZ kX_5 kY_6 iX_7 iF qd fB 0 9 hZ (by omega) h_10 (by decide +kernel)) L_X3_80 hN hP hD hS hA [9, 10] [true, true, true, true, true, true, true, true, true, false, false] rfl (by decide +kernel) rfl 9 2 rfl rfl rfl ⟨Nat.le_of_ble_eq_true rfl, Nat.le_of_ble_eq_true rfl⟩ hl.1 (Nat.le_of_ble_eq_true rfl) (g_182 (v := 80) bX3_readOne rfl) ⟨Nat.le_of_ble_eq_true rfl, Nat.le_of_ble_eq_true rfl⟩ (fun r_11 u_13 H locs h_12 => ?_)
    clear hP hD hS
    intro hP hD hS
    obtain ⟨kX_14, kY_15, iX_16, iY_17, hu9, h_18, h_19, h_20, h_12⟩ := h_12
    have hPD := pd_eq [_, _, _, _, _, _, _, _, _, zzO qa 2 [.ref qab, .int (nI kZ), .int (nI kX_14), .int (nI kY_15), .int iX_16, .int iY_17, .ref qd], _] hP hD hu9 rfl
    clear hP hD hu9
    obtain ⟨hP, hD⟩ := hPD
    refine lv_istore_n (lv' := [(1, .int r_11), (0, .ref qa)]) hx hb (g_60 bX3_readOne rfl) rfl hl (by decide +kernel) rfl (fun ls => ?_)
    clear hl
    intro hl
    refine lv_aload_n hx hb (g_42 bX3_readOne rfl) rfl (lv_at hl 1 rfl) ?_
    obtain ⟨qs_21, qv_23, hs_22, hf_24⟩ := hX (RX3, 101, "reads", [114, 101, 97, 100, 115]) (List.mem_of_getElem? (i := 4) rfl)
    refine va_ldcS hx hb hown hs_22 (g_18 (v := 101) bX3_readOne rfl) ?_
    refine cVXi (As := [.ref qs_21]) (rest := []) (b := qa) (q := (RX3, TX3, 7)) ⟨hx, hb, hml, hown, hts⟩ (x_X3_passes l G cy (H).size qa qab kZ kX_14 kY_15 iX_16 iY_17 qd fB qs_21 ([114, 101, 97, 100, 115]) qv_23 hZ (by omega) h_19 (by decide +kernel) as_reads) L_X3_86 hN hP hD hS hA [9, 10] [true, true, true, true, true, true, true, true, true, false, false] rfl (by decide +kernel) rfl 9 2 rfl rfl SF_ok hf_24 rfl ⟨Nat.le_of_ble_eq_true rfl, Nat.le_of_ble_eq_true rfl⟩ hl.1 (Nat.le_of_ble_eq_true rfl) (g_182 (v := 86) bX3_readOne rfl) ⟨Nat.le_of_ble_eq_true rfl, Nat.le_of_ble_eq_true rfl⟩ (fun r_25 u_27 H locs h_26 => ?_)
    clear hP hD hS
    intro hP hD hS
    obtain ⟨kX_28, kY_29, iX_30, hu9, h_31, h_32, h_26⟩ := h_26
    have hPD := pd_eq [_, _, _, _, _, _, _, _, _, zzO qa 2 [.ref qab, .int (nI kZ), .int (nI kX_28), .int (nI kY_29), .int iX_30, .int iY_17, .ref qd], _] hP hD hu9 rfl
    clear hP hD hu9
    obtain ⟨hP, hD⟩ := hPD
    rcases h_26 with ⟨rfl, h_33⟩ | ⟨rfl, h_33⟩
    · refine lv_if_eq (tgt := 48) hx hb dX3_readOne_35 (by decide +kernel) (fun h9 => absurd h9 (by decide +kernel)) (fun _ => ?_)
      refine lv_aload_n hx hb (g_42 bX3_readOne rfl) rfl (lv_at hl 1 rfl) ?_
      refine lv_iconst (v := 0) hx hb (g_3 bX3_readOne rfl) (by decide +kernel) ?_
      refine lv_bipush (v := 10) hx hb dX3_readOne_40 (by decide +kernel) ?_
      refine cVi (As := [.int 0, .int 10]) (rest := []) (b := qa) (q := (RX3, TX3, 7)) ⟨hx, hb, hml, hown, hts⟩ (x_X3_takeNumber l G cy (H).size qa qab kZ kX_28 kY_29 iX_30 iY_17 qd fB 0 10 hZ (by omega) h_32 (by decide +kernel)) L_X3_80 hN hP hD hS hA [9, 10] [true, true, true, true, true, true, true, true, true, false, false] rfl (by decide +kernel) rfl 9 2 rfl rfl rfl ⟨Nat.le_of_ble_eq_true rfl, Nat.le_of_ble_eq_true rfl⟩ hl.1 (Nat.le_of_ble_eq_true rfl) (g_182 (v := 80) bX3_readOne rfl) ⟨Nat.le_of_ble_eq_true rfl, Nat.le_of_ble_eq_true rfl⟩ (fun r_35 u_37 H locs h_36 => ?_)
      clear hP hD hS
      intro hP hD hS
      obtain ⟨kX_38, kY_39, iX_40, iY_41, hu9, h_42, h_43, h_44, h_36⟩ := h_36
      have hPD := pd_eq [_, _, _, _, _, _, _, _, _, zzO qa 2 [.ref qab, .int (nI kZ), .int (nI kX_38), .int (nI kY_39), .int iX_40, .int iY_41, .ref qd], _] hP hD hu9 rfl
      clear hP hD hu9
      obtain ⟨hP, hD⟩ := hPD
      refine lv_goto (tgt := 49) hx hb dX3_readOne_45 (by decide +kernel) ?_
      refine lv_istore_n (lv' := [(2, .int r_35), (1, .int r_11), (0, .ref qa)]) hx hb (g_61 bX3_readOne rfl) rfl hl (by decide +kernel) rfl (fun ls => ?_)
      clear hl
      intro hl
      refine lv_aload_n hx hb (g_42 bX3_readOne rfl) rfl (lv_at hl 2 rfl) ?_
      obtain ⟨qs_45, qv_47, hs_46, hf_48⟩ := hX (RX3, 103, "keeps", [107, 101, 101, 112, 115]) (List.mem_of_getElem? (i := 5) rfl)
      refine va_ldcS hx hb hown hs_46 (g_18 (v := 103) bX3_readOne rfl) ?_
      refine cVXi (As := [.ref qs_45]) (rest := []) (b := qa) (q := (RX3, TX3, 7)) ⟨hx, hb, hml, hown, hts⟩ (x_X3_passes l G cy (H).size qa qab kZ kX_38 kY_39 iX_40 iY_41 qd fB qs_45 ([107, 101, 101, 112, 115]) qv_47 hZ (by omega) h_43 (by decide +kernel) as_keeps) L_X3_86 hN hP hD hS hA [9, 10] [true, true, true, true, true, true, true, true, true, false, false] rfl (by decide +kernel) rfl 9 2 rfl rfl SF_ok hf_48 rfl ⟨Nat.le_of_ble_eq_true rfl, Nat.le_of_ble_eq_true rfl⟩ hl.1 (Nat.le_of_ble_eq_true rfl) (g_182 (v := 86) bX3_readOne rfl) ⟨Nat.le_of_ble_eq_true rfl, Nat.le_of_ble_eq_true rfl⟩ (fun r_49 u_51 H locs h_50 => ?_)
      clear hP hD hS
      intro hP hD hS
      obtain ⟨kX_52, kY_53, iX_54, hu9, h_55, h_56, h_50⟩ := h_50
      have hPD := pd_eq [_, _, _, _, _, _, _, _, _, zzO qa 2 [.ref qab, .int (nI kZ), .int (nI kX_52), .int (nI kY_53), .int iX_54, .int iY_41, .ref qd], _] hP hD hu9 rfl
      clear hP hD hu9
      obtain ⟨hP, hD⟩ := hPD
      rcases h_50 with ⟨rfl, h_57⟩ | ⟨rfl, h_57⟩
      · refine lv_if_eq (tgt := 69) hx hb dX3_readOne_56 (by decide +kernel) (fun h9 => absurd h9 (by decide +kernel)) (fun _ => ?_)
        refine lv_aload_n hx hb (g_42 bX3_readOne rfl) rfl (lv_at hl 2 rfl) ?_
        refine lv_iconst (v := 0) hx hb (g_3 bX3_readOne rfl) (by decide +kernel) ?_
        refine lv_bipush (v := 10) hx hb dX3_readOne_61 (by decide +kernel) ?_
        refine cVi (As := [.int 0, .int 10]) (rest := []) (b := qa) (q := (RX3, TX3, 7)) ⟨hx, hb, hml, hown, hts⟩ (x_X3_takeNumber l G cy (H).size qa qab kZ kX_52 kY_53 iX_54 iY_41 qd fB 0 10 hZ (by omega) h_56 (by decide +kernel)) L_X3_80 hN hP hD hS hA [9, 10] [true, true, true, true, true, true, true, true, true, false, false] rfl (by decide +kernel) rfl 9 2 rfl rfl rfl ⟨Nat.le_of_ble_eq_true rfl, Nat.le_of_ble_eq_true rfl⟩ hl.1 (Nat.le_of_ble_eq_true rfl) (g_182 (v := 80) bX3_readOne rfl) ⟨Nat.le_of_ble_eq_true rfl, Nat.le_of_ble_eq_true rfl⟩ (fun r_59 u_61 H locs h_60 => ?_)
        clear hP hD hS
        intro hP hD hS
        obtain ⟨kX_62, kY_63, iX_64, iY_65, hu9, h_66, h_67, h_68, h_60⟩ := h_60
        have hPD := pd_eq [_, _, _, _, _, _, _, _, _, zzO qa 2 [.ref qab, .int (nI kZ), .int (nI kX_62), .int (nI kY_63), .int iX_64, .int iY_65, .ref qd], _] hP hD hu9 rfl
        clear hP hD hu9
        obtain ⟨hP, hD⟩ := hPD
        refine lv_goto (tgt := 70) hx hb dX3_readOne_66 (by decide +kernel) ?_
        refine lv_istore_n (lv' := [(3, .int r_59), (2, .int r_35), (1, .int r_11), (0, .ref qa)]) hx hb (g_62 bX3_readOne rfl) rfl hl (by decide +kernel) rfl (fun ls => ?_)
        clear hl
        intro hl
        refine lv_aload_n hx hb (g_42 bX3_readOne rfl) rfl (lv_at hl 3 rfl) ?_
        obtain ⟨qs_69, qv_71, hs_70, hf_72⟩ := hX (RX3, 105, "tells", [116, 101, 108, 108, 115]) (List.mem_of_getElem? (i := 6) rfl)
        refine va_ldcS hx hb hown hs_70 (g_18 (v := 105) bX3_readOne rfl) ?_
        refine cVXi (As := [.ref qs_69]) (rest := []) (b := qa) (q := (RX3, TX3, 7)) ⟨hx, hb, hml, hown, hts⟩ (x_X3_passes l G cy (H).size qa qab kZ kX_62 kY_63 iX_64 iY_65 qd fB qs_69 ([116, 101, 108, 108, 115]) qv_71 hZ (by omega) h_67 (by decide +kernel) as_tells) L_X3_86 hN hP hD hS hA [9, 10] [true, true, true, true, true, true, true, true, true, false, false] rfl (by decide +kernel) rfl 9 2 rfl rfl SF_ok hf_72 rfl ⟨Nat.le_of_ble_eq_true rfl, Nat.le_of_ble_eq_true rfl⟩ hl.1 (Nat.le_of_ble_eq_true rfl) (g_182 (v := 86) bX3_readOne rfl) ⟨Nat.le_of_ble_eq_true rfl, Nat.le_of_ble_eq_true rfl⟩ (fun r_73 u_75 H locs h_74 => ?_)
        clear hP hD hS
        intro hP hD hS
        obtain ⟨kX_76, kY_77, iX_78, hu9, h_79, h_80, h_74⟩ := h_74
        have hPD := pd_eq [_, _, _, _, _, _, _, _, _, zzO qa 2 [.ref qab, .int (nI kZ), .int (nI kX_76), .int (nI kY_77), .int iX_78, .int iY_65, .ref qd], _] hP hD hu9 rfl
        clear hP hD hu9
        obtain ⟨hP, hD⟩ := hPD
        rcases h_74 with ⟨rfl, h_81⟩ | ⟨rfl, h_81⟩
        · refine lv_if_eq (tgt := 90) hx hb dX3_readOne_77 (by decide +kernel) (fun h9 => absurd h9 (by decide +kernel)) (fun _ => ?_)
          refine lv_aload_n hx hb (g_42 bX3_readOne rfl) rfl (lv_at hl 3 rfl) ?_
          refine lv_iconst (v := 0) hx hb (g_3 bX3_readOne rfl) (by decide +kernel) ?_
          refine lv_bipush (v := 10) hx hb dX3_readOne_82 (by decide +kernel) ?_
          refine cVi (As := [.int 0, .int 10]) (rest := []) (b := qa) (q := (RX3, TX3, 7)) ⟨hx, hb, hml, hown, hts⟩ (x_X3_takeNumber l G cy (H).size qa qab kZ kX_76 kY_77 iX_78 iY_65 qd fB 0 10 hZ (by omega) h_80 (by decide +kernel)) L_X3_80 hN hP hD hS hA [9, 10] [true, true, true, true, true, true, true, true, true, false, false] rfl (by decide +kernel) rfl 9 2 rfl rfl rfl ⟨Nat.le_of_ble_eq_true rfl, Nat.le_of_ble_eq_true rfl⟩ hl.1 (Nat.le_of_ble_eq_true rfl) (g_182 (v := 80) bX3_readOne rfl) ⟨Nat.le_of_ble_eq_true rfl, Nat.le_of_ble_eq_true rfl⟩ (fun r_83 u_85 H locs h_84 => ?_)
          clear hP hD hS
          intro hP hD hS
          obtain ⟨kX_86, kY_87, iX_88, iY_89, hu9, h_90, h_91, h_92, h_84⟩ := h_84
          have hPD := pd_eq [_, _, _, _, _, _, _, _, _, zzO qa 2 [.ref qab, .int (nI kZ), .int (nI kX_86), .int (nI kY_87), .int iX_88, .int iY_89, .ref qd], _] hP hD hu9 rfl
          clear hP hD hu9
          obtain ⟨hP, hD⟩ := hPD
          refine lv_goto (tgt := 91) hx hb dX3_readOne_87 (by decide +kernel) ?_
          refine lv_istore (lv' := [(4, .int r_83), (3, .int r_59), (2, .int r_35), (1, .int r_11), (0, .ref qa)]) hx hb (g_54 (v := 4) bX3_readOne rfl) hl (by decide +kernel) rfl (fun ls => ?_)
          clear hl
          intro hl
          refine lv_aload_n hx hb (g_42 bX3_readOne rfl) rfl (lv_at hl 4 rfl) ?_
          refine va_get (D := G) (ci := 2) (v := .int iY_89) (C := RX3) (T := TX3) (N := 7) hx hb hts iX_X3 hown hK hP 9 rfl rfl 5 (by decide +kernel) (hts _ m_t154) (fun _ h9 => h9) rfl (g_180 (v := 30) bX3_readOne rfl) ?_
          refine lv_iconst (v := (-1)) hx hb (g_2 bX3_readOne rfl) (by decide +kernel) ?_
          refine lv_icmp_ne (tgt := 114) hx hb dX3_readOne_98 (by decide +kernel) (fun c_93 => ?_) (fun c_93 => ?_)
          · exact endV (u := [zzO qa 2 [.ref qab, .int (nI kZ), .int (nI kX_86), .int (nI kY_87), .int iX_88, .int iY_89, .ref qd], zzB cy qab 250 fB, zzO qd 3 [.int (nI (T_nb tD)), .int (nI (T_np tD)), .int (wb (T_wh tD)), .int (wb (T_gn tD)), .int (T_sd tD), .ref qdw, .ref qdn, .ref qdg, .ref qda, .ref qdr, .ref qdm, .ref qdt, .ref qds], zzI cy qdw 8 (T_wo tD), zzI cy qdn 8 (T_ne tD), zzI cy qdg 8 (T_go tD), zzI cy qda 8 (T_ag tD), zzI cy qdr 8 (T_re tD), zzI cy qdm 8 (T_me tD), zzI cy qdt 8 (T_te tD), zzI cy qds 64 (shF (T_kn tD))]) hx hb hr hlocks (pSb hP [[false, false, false, false, false, false, false, false, false, true, true], [true, true, true, true, true, true, true, true, true]] rfl rfl) (dSb hD [[false, false, false, false, false, false, false, false, false, true, true], [true, true, true, true, true, true, true, true, true]] (by decide +kernel) rfl rfl) hS ⟨kX_86, kY_87, iX_88, iY_89, tD, rfl, ⟨by omega, by omega, by first | omega | (show T_nb tD + 1 ≤ 8; omega) | (show T_nb tD ≤ 8; omega), by first | omega | (show T_np tD + 1 ≤ 8; omega) | (show T_np tD ≤ 8; omega)⟩, h_91, (ch_swap _ (st_one hlt8 h_9 hF h_20 (opt_y h_33 h_44) (opt_y h_57 h_68) (opt_y h_81 h_92)) c_93)⟩ (g_177 bX3_readOne rfl)
          · refine lv_aload_n hx hb (g_42 bX3_readOne rfl) rfl (lv_at hl 4 rfl) ?_
            refine va_get (D := G) (ci := 2) (v := .ref qd) (C := RX3) (T := TX3) (N := 7) hx hb hts iX_X3 hown hK hP 9 rfl rfl 6 (by decide +kernel) (hts _ m_t156) (fun _ h9 => h9) rfl (g_180 (v := 18) bX3_readOne rfl) ?_
            refine lv_iload_n hx hb (g_27 bX3_readOne rfl) rfl (lv_at hl 3 rfl) ?_
            refine lv_iload_n hx hb (g_28 bX3_readOne rfl) rfl (lv_at hl 2 rfl) ?_
            refine lv_iload_n hx hb (g_29 bX3_readOne rfl) rfl (lv_at hl 1 rfl) ?_
            refine lv_iload hx hb (g_21 (v := 4) bX3_readOne rfl) (lv_at hl 0 rfl) ?_
            refine cVi (As := [.int r_11, .int r_35, .int r_59, .int r_83]) (rest := []) (b := qd) (q := (RX4, TX4, 13)) ⟨hx, hb, hml, hown, hts⟩ (c_X4_addOne l G cy (H).size qd tD qdw qdn qdg qda qdr qdm qdt qds r_11 r_35 r_59 r_83 (by omega)) L_X3_107 hN hP hD hS hA (trueIx 0 [true, true, true, true, true, true, true, true, true]) [false, false, false, false, false, false, false, false, false, true, true] (sel_eq rfl rfl) (by decide +kernel) rfl 0 3 rfl rfl rfl ⟨Nat.le_of_ble_eq_true rfl, Nat.le_of_ble_eq_true rfl⟩ hl.1 (Nat.le_of_ble_eq_true rfl) (g_182 (v := 107) bX3_readOne rfl) ⟨Nat.le_of_ble_eq_true rfl, Nat.le_of_ble_eq_true rfl⟩ (fun r_94 u_96 H locs h_95 => ?_)
            clear hP hD hS
            intro hP hD hS
            obtain ⟨hu9, h_95⟩ := h_95
            have hPD := pd_eq [_, _, zzO qd 3 [.int (nI (T_nb (zao tD r_11 r_35 r_59 r_83))), .int (nI (T_np (zao tD r_11 r_35 r_59 r_83))), .int (wb (T_wh (zao tD r_11 r_35 r_59 r_83))), .int (wb (T_gn (zao tD r_11 r_35 r_59 r_83))), .int (T_sd (zao tD r_11 r_35 r_59 r_83)), .ref qdw, .ref qdn, .ref qdg, .ref qda, .ref qdr, .ref qdm, .ref qdt, .ref qds], zzI cy qdw 8 (T_wo (zao tD r_11 r_35 r_59 r_83)), zzI cy qdn 8 (T_ne (zao tD r_11 r_35 r_59 r_83)), zzI cy qdg 8 (T_go (zao tD r_11 r_35 r_59 r_83)), zzI cy qda 8 (T_ag (zao tD r_11 r_35 r_59 r_83)), zzI cy qdr 8 (T_re (zao tD r_11 r_35 r_59 r_83)), zzI cy qdm 8 (T_me (zao tD r_11 r_35 r_59 r_83)), zzI cy qdt 8 (T_te (zao tD r_11 r_35 r_59 r_83)), zzI cy qds 64 (shF (T_kn (zao tD r_11 r_35 r_59 r_83)))] hP hD hu9 rfl
            clear hP hD hu9
            obtain ⟨hP, hD⟩ := hPD
            subst h_95
            refine lv_pop hx hb (g_87 bX3_readOne rfl) rfl ?_
            exact endV (u := [zzO qa 2 [.ref qab, .int (nI kZ), .int (nI kX_86), .int (nI kY_87), .int iX_88, .int iY_89, .ref qd], zzB cy qab 250 fB, zzO qd 3 [.int (nI (T_nb (zao tD r_11 r_35 r_59 r_83))), .int (nI (T_np (zao tD r_11 r_35 r_59 r_83))), .int (wb (T_wh (zao tD r_11 r_35 r_59 r_83))), .int (wb (T_gn (zao tD r_11 r_35 r_59 r_83))), .int (T_sd (zao tD r_11 r_35 r_59 r_83)), .ref qdw, .ref qdn, .ref qdg, .ref qda, .ref qdr, .ref qdm, .ref qdt, .ref qds], zzI cy qdw 8 (T_wo (zao tD r_11 r_35 r_59 r_83)), zzI cy qdn 8 (T_ne (zao tD r_11 r_35 r_59 r_83)), zzI cy qdg 8 (T_go (zao tD r_11 r_35 r_59 r_83)), zzI cy qda 8 (T_ag (zao tD r_11 r_35 r_59 r_83)), zzI cy qdr 8 (T_re (zao tD r_11 r_35 r_59 r_83)), zzI cy qdm 8 (T_me (zao tD r_11 r_35 r_59 r_83)), zzI cy qdt 8 (T_te (zao tD r_11 r_35 r_59 r_83)), zzI cy qds 64 (shF (T_kn (zao tD r_11 r_35 r_59 r_83)))]) hx hb hr hlocks (pSb hP [[true, true, true, true, true, true, true, true, true, true, true]] rfl rfl) (dSb hD [[true, true, true, true, true, true, true, true, true, true, true]] (by decide +kernel) rfl rfl) hS ⟨kX_86, kY_87, iX_88, iY_89, (zao tD r_11 r_35 r_59 r_83), rfl, ⟨by omega, by omega, by first | omega | (show T_nb tD + 1 ≤ 8; omega) | (show T_nb tD ≤ 8; omega), by first | omega | (show T_np tD + 1 ≤ 8; omega) | (show T_np tD ≤ 8; omega)⟩, h_91, (st_one hlt8 h_9 hF h_20 (opt_y h_33 h_44) (opt_y h_57 h_68) (opt_y h_81 h_92))⟩ (g_177 bX3_readOne rfl)
        · refine lv_if_eq (tgt := 90) hx hb dX3_readOne_77 (by decide +kernel) (fun _ => ?_) (fun h9 => absurd (by decide +kernel) h9)
          refine lv_iconst (v := 5) hx hb (g_8 bX3_readOne rfl) (by decide +kernel) ?_
          refine lv_istore (lv' := [(4, .int 5), (3, .int r_59), (2, .int r_35), (1, .int r_11), (0, .ref qa)]) hx hb (g_54 (v := 4) bX3_readOne rfl) hl (by decide +kernel) rfl (fun ls => ?_)
          clear hl
          intro hl
          refine lv_aload_n hx hb (g_42 bX3_readOne rfl) rfl (lv_at hl 4 rfl) ?_
          refine va_get (D := G) (ci := 2) (v := .int iY_65) (C := RX3) (T := TX3) (N := 7) hx hb hts iX_X3 hown hK hP 9 rfl rfl 5 (by decide +kernel) (hts _ m_t154) (fun _ h9 => h9) rfl (g_180 (v := 30) bX3_readOne rfl) ?_
          refine lv_iconst (v := (-1)) hx hb (g_2 bX3_readOne rfl) (by decide +kernel) ?_
          refine lv_icmp_ne (tgt := 114) hx hb dX3_readOne_98 (by decide +kernel) (fun c_98 => ?_) (fun c_98 => ?_)
          · exact endV (u := [zzO qa 2 [.ref qab, .int (nI kZ), .int (nI kX_76), .int (nI kY_77), .int iX_78, .int iY_65, .ref qd], zzB cy qab 250 fB, zzO qd 3 [.int (nI (T_nb tD)), .int (nI (T_np tD)), .int (wb (T_wh tD)), .int (wb (T_gn tD)), .int (T_sd tD), .ref qdw, .ref qdn, .ref qdg, .ref qda, .ref qdr, .ref qdm, .ref qdt, .ref qds], zzI cy qdw 8 (T_wo tD), zzI cy qdn 8 (T_ne tD), zzI cy qdg 8 (T_go tD), zzI cy qda 8 (T_ag tD), zzI cy qdr 8 (T_re tD), zzI cy qdm 8 (T_me tD), zzI cy qdt 8 (T_te tD), zzI cy qds 64 (shF (T_kn tD))]) hx hb hr hlocks (pSb hP [[false, false, false, false, false, false, false, false, false, true, true], [true, true, true, true, true, true, true, true, true]] rfl rfl) (dSb hD [[false, false, false, false, false, false, false, false, false, true, true], [true, true, true, true, true, true, true, true, true]] (by decide +kernel) rfl rfl) hS ⟨kX_76, kY_77, iX_78, iY_65, tD, rfl, ⟨by omega, by omega, by first | omega | (show T_nb tD + 1 ≤ 8; omega) | (show T_nb tD ≤ 8; omega), by first | omega | (show T_np tD + 1 ≤ 8; omega) | (show T_np tD ≤ 8; omega)⟩, h_80, (ch_swap _ (st_one hlt8 h_9 hF h_20 (opt_y h_33 h_44) (opt_y h_57 h_68) (opt_n h_81)) c_98)⟩ (g_177 bX3_readOne rfl)
          · refine lv_aload_n hx hb (g_42 bX3_readOne rfl) rfl (lv_at hl 4 rfl) ?_
            refine va_get (D := G) (ci := 2) (v := .ref qd) (C := RX3) (T := TX3) (N := 7) hx hb hts iX_X3 hown hK hP 9 rfl rfl 6 (by decide +kernel) (hts _ m_t156) (fun _ h9 => h9) rfl (g_180 (v := 18) bX3_readOne rfl) ?_
            refine lv_iload_n hx hb (g_27 bX3_readOne rfl) rfl (lv_at hl 3 rfl) ?_
            refine lv_iload_n hx hb (g_28 bX3_readOne rfl) rfl (lv_at hl 2 rfl) ?_
            refine lv_iload_n hx hb (g_29 bX3_readOne rfl) rfl (lv_at hl 1 rfl) ?_
            refine lv_iload hx hb (g_21 (v := 4) bX3_readOne rfl) (lv_at hl 0 rfl) ?_
            refine cVi (As := [.int r_11, .int r_35, .int r_59, .int 5]) (rest := []) (b := qd) (q := (RX4, TX4, 13)) ⟨hx, hb, hml, hown, hts⟩ (c_X4_addOne l G cy (H).size qd tD qdw qdn qdg qda qdr qdm qdt qds r_11 r_35 r_59 5 (by omega)) L_X3_107 hN hP hD hS hA (trueIx 0 [true, true, true, true, true, true, true, true, true]) [false, false, false, false, false, false, false, false, false, true, true] (sel_eq rfl rfl) (by decide +kernel) rfl 0 3 rfl rfl rfl ⟨Nat.le_of_ble_eq_true rfl, Nat.le_of_ble_eq_true rfl⟩ hl.1 (Nat.le_of_ble_eq_true rfl) (g_182 (v := 107) bX3_readOne rfl) ⟨Nat.le_of_ble_eq_true rfl, Nat.le_of_ble_eq_true rfl⟩ (fun r_99 u_101 H locs h_100 => ?_)
            clear hP hD hS
            intro hP hD hS
            obtain ⟨hu9, h_100⟩ := h_100
            have hPD := pd_eq [_, _, zzO qd 3 [.int (nI (T_nb (zao tD r_11 r_35 r_59 5))), .int (nI (T_np (zao tD r_11 r_35 r_59 5))), .int (wb (T_wh (zao tD r_11 r_35 r_59 5))), .int (wb (T_gn (zao tD r_11 r_35 r_59 5))), .int (T_sd (zao tD r_11 r_35 r_59 5)), .ref qdw, .ref qdn, .ref qdg, .ref qda, .ref qdr, .ref qdm, .ref qdt, .ref qds], zzI cy qdw 8 (T_wo (zao tD r_11 r_35 r_59 5)), zzI cy qdn 8 (T_ne (zao tD r_11 r_35 r_59 5)), zzI cy qdg 8 (T_go (zao tD r_11 r_35 r_59 5)), zzI cy qda 8 (T_ag (zao tD r_11 r_35 r_59 5)), zzI cy qdr 8 (T_re (zao tD r_11 r_35 r_59 5)), zzI cy qdm 8 (T_me (zao tD r_11 r_35 r_59 5)), zzI cy qdt 8 (T_te (zao tD r_11 r_35 r_59 5)), zzI cy qds 64 (shF (T_kn (zao tD r_11 r_35 r_59 5)))] hP hD hu9 rfl
            clear hP hD hu9
            obtain ⟨hP, hD⟩ := hPD
            subst h_100
            refine lv_pop hx hb (g_87 bX3_readOne rfl) rfl ?_
            exact endV (u := [zzO qa 2 [.ref qab, .int (nI kZ), .int (nI kX_76), .int (nI kY_77), .int iX_78, .int iY_65, .ref qd], zzB cy qab 250 fB, zzO qd 3 [.int (nI (T_nb (zao tD r_11 r_35 r_59 5))), .int (nI (T_np (zao tD r_11 r_35 r_59 5))), .int (wb (T_wh (zao tD r_11 r_35 r_59 5))), .int (wb (T_gn (zao tD r_11 r_35 r_59 5))), .int (T_sd (zao tD r_11 r_35 r_59 5)), .ref qdw, .ref qdn, .ref qdg, .ref qda, .ref qdr, .ref qdm, .ref qdt, .ref qds], zzI cy qdw 8 (T_wo (zao tD r_11 r_35 r_59 5)), zzI cy qdn 8 (T_ne (zao tD r_11 r_35 r_59 5)), zzI cy qdg 8 (T_go (zao tD r_11 r_35 r_59 5)), zzI cy qda 8 (T_ag (zao tD r_11 r_35 r_59 5)), zzI cy qdr 8 (T_re (zao tD r_11 r_35 r_59 5)), zzI cy qdm 8 (T_me (zao tD r_11 r_35 r_59 5)), zzI cy qdt 8 (T_te (zao tD r_11 r_35 r_59 5)), zzI cy qds 64 (shF (T_kn (zao tD r_11 r_35 r_59 5)))]) hx hb hr hlocks (pSb hP [[true, true, true, true, true, true, true, true, true, true, true]] rfl rfl) (dSb hD [[true, true, true, true, true, true, true, true, true, true, true]] (by decide +kernel) rfl rfl) hS ⟨kX_76, kY_77, iX_78, iY_65, (zao tD r_11 r_35 r_59 5), rfl, ⟨by omega, by omega, by first | omega | (show T_nb tD + 1 ≤ 8; omega) | (show T_nb tD ≤ 8; omega), by first | omega | (show T_np tD + 1 ≤ 8; omega) | (show T_np tD ≤ 8; omega)⟩, h_80, (st_one hlt8 h_9 hF h_20 (opt_y h_33 h_44) (opt_y h_57 h_68) (opt_n h_81))⟩ (g_177 bX3_readOne rfl)
      · refine lv_if_eq (tgt := 69) hx hb dX3_readOne_56 (by decide +kernel) (fun _ => ?_) (fun h9 => absurd (by decide +kernel) h9)
        refine lv_iconst (v := 5) hx hb (g_8 bX3_readOne rfl) (by decide +kernel) ?_
        refine lv_istore_n (lv' := [(3, .int 5), (2, .int r_35), (1, .int r_11), (0, .ref qa)]) hx hb (g_62 bX3_readOne rfl) rfl hl (by decide +kernel) rfl (fun ls => ?_)
        clear hl
        intro hl
        refine lv_aload_n hx hb (g_42 bX3_readOne rfl) rfl (lv_at hl 3 rfl) ?_
        obtain ⟨qs_103, qv_105, hs_104, hf_106⟩ := hX (RX3, 105, "tells", [116, 101, 108, 108, 115]) (List.mem_of_getElem? (i := 6) rfl)
        refine va_ldcS hx hb hown hs_104 (g_18 (v := 105) bX3_readOne rfl) ?_
        refine cVXi (As := [.ref qs_103]) (rest := []) (b := qa) (q := (RX3, TX3, 7)) ⟨hx, hb, hml, hown, hts⟩ (x_X3_passes l G cy (H).size qa qab kZ kX_52 kY_53 iX_54 iY_41 qd fB qs_103 ([116, 101, 108, 108, 115]) qv_105 hZ (by omega) h_56 (by decide +kernel) as_tells) L_X3_86 hN hP hD hS hA [9, 10] [true, true, true, true, true, true, true, true, true, false, false] rfl (by decide +kernel) rfl 9 2 rfl rfl SF_ok hf_106 rfl ⟨Nat.le_of_ble_eq_true rfl, Nat.le_of_ble_eq_true rfl⟩ hl.1 (Nat.le_of_ble_eq_true rfl) (g_182 (v := 86) bX3_readOne rfl) ⟨Nat.le_of_ble_eq_true rfl, Nat.le_of_ble_eq_true rfl⟩ (fun r_107 u_109 H locs h_108 => ?_)
        clear hP hD hS
        intro hP hD hS
        obtain ⟨kX_110, kY_111, iX_112, hu9, h_113, h_114, h_108⟩ := h_108
        have hPD := pd_eq [_, _, _, _, _, _, _, _, _, zzO qa 2 [.ref qab, .int (nI kZ), .int (nI kX_110), .int (nI kY_111), .int iX_112, .int iY_41, .ref qd], _] hP hD hu9 rfl
        clear hP hD hu9
        obtain ⟨hP, hD⟩ := hPD
        rcases h_108 with ⟨rfl, h_115⟩ | ⟨rfl, h_115⟩
        · refine lv_if_eq (tgt := 90) hx hb dX3_readOne_77 (by decide +kernel) (fun h9 => absurd h9 (by decide +kernel)) (fun _ => ?_)
          refine lv_aload_n hx hb (g_42 bX3_readOne rfl) rfl (lv_at hl 3 rfl) ?_
          refine lv_iconst (v := 0) hx hb (g_3 bX3_readOne rfl) (by decide +kernel) ?_
          refine lv_bipush (v := 10) hx hb dX3_readOne_82 (by decide +kernel) ?_
          refine cVi (As := [.int 0, .int 10]) (rest := []) (b := qa) (q := (RX3, TX3, 7)) ⟨hx, hb, hml, hown, hts⟩ (x_X3_takeNumber l G cy (H).size qa qab kZ kX_110 kY_111 iX_112 iY_41 qd fB 0 10 hZ (by omega) h_114 (by decide +kernel)) L_X3_80 hN hP hD hS hA [9, 10] [true, true, true, true, true, true, true, true, true, false, false] rfl (by decide +kernel) rfl 9 2 rfl rfl rfl ⟨Nat.le_of_ble_eq_true rfl, Nat.le_of_ble_eq_true rfl⟩ hl.1 (Nat.le_of_ble_eq_true rfl) (g_182 (v := 80) bX3_readOne rfl) ⟨Nat.le_of_ble_eq_true rfl, Nat.le_of_ble_eq_true rfl⟩ (fun r_117 u_119 H locs h_118 => ?_)
          clear hP hD hS
          intro hP hD hS
          obtain ⟨kX_120, kY_121, iX_122, iY_123, hu9, h_124, h_125, h_126, h_118⟩ := h_118
          have hPD := pd_eq [_, _, _, _, _, _, _, _, _, zzO qa 2 [.ref qab, .int (nI kZ), .int (nI kX_120), .int (nI kY_121), .int iX_122, .int iY_123, .ref qd], _] hP hD hu9 rfl
          clear hP hD hu9
          obtain ⟨hP, hD⟩ := hPD
          refine lv_goto (tgt := 91) hx hb dX3_readOne_87 (by decide +kernel) ?_
          refine lv_istore (lv' := [(4, .int r_117), (3, .int 5), (2, .int r_35), (1, .int r_11), (0, .ref qa)]) hx hb (g_54 (v := 4) bX3_readOne rfl) hl (by decide +kernel) rfl (fun ls => ?_)
          clear hl
          intro hl
          refine lv_aload_n hx hb (g_42 bX3_readOne rfl) rfl (lv_at hl 4 rfl) ?_
          refine va_get (D := G) (ci := 2) (v := .int iY_123) (C := RX3) (T := TX3) (N := 7) hx hb hts iX_X3 hown hK hP 9 rfl rfl 5 (by decide +kernel) (hts _ m_t154) (fun _ h9 => h9) rfl (g_180 (v := 30) bX3_readOne rfl) ?_
          refine lv_iconst (v := (-1)) hx hb (g_2 bX3_readOne rfl) (by decide +kernel) ?_
          refine lv_icmp_ne (tgt := 114) hx hb dX3_readOne_98 (by decide +kernel) (fun c_127 => ?_) (fun c_127 => ?_)
          · exact endV (u := [zzO qa 2 [.ref qab, .int (nI kZ), .int (nI kX_120), .int (nI kY_121), .int iX_122, .int iY_123, .ref qd], zzB cy qab 250 fB, zzO qd 3 [.int (nI (T_nb tD)), .int (nI (T_np tD)), .int (wb (T_wh tD)), .int (wb (T_gn tD)), .int (T_sd tD), .ref qdw, .ref qdn, .ref qdg, .ref qda, .ref qdr, .ref qdm, .ref qdt, .ref qds], zzI cy qdw 8 (T_wo tD), zzI cy qdn 8 (T_ne tD), zzI cy qdg 8 (T_go tD), zzI cy qda 8 (T_ag tD), zzI cy qdr 8 (T_re tD), zzI cy qdm 8 (T_me tD), zzI cy qdt 8 (T_te tD), zzI cy qds 64 (shF (T_kn tD))]) hx hb hr hlocks (pSb hP [[false, false, false, false, false, false, false, false, false, true, true], [true, true, true, true, true, true, true, true, true]] rfl rfl) (dSb hD [[false, false, false, false, false, false, false, false, false, true, true], [true, true, true, true, true, true, true, true, true]] (by decide +kernel) rfl rfl) hS ⟨kX_120, kY_121, iX_122, iY_123, tD, rfl, ⟨by omega, by omega, by first | omega | (show T_nb tD + 1 ≤ 8; omega) | (show T_nb tD ≤ 8; omega), by first | omega | (show T_np tD + 1 ≤ 8; omega) | (show T_np tD ≤ 8; omega)⟩, h_125, (ch_swap _ (st_one hlt8 h_9 hF h_20 (opt_y h_33 h_44) (opt_n h_57) (opt_y h_115 h_126)) c_127)⟩ (g_177 bX3_readOne rfl)
          · refine lv_aload_n hx hb (g_42 bX3_readOne rfl) rfl (lv_at hl 4 rfl) ?_
            refine va_get (D := G) (ci := 2) (v := .ref qd) (C := RX3) (T := TX3) (N := 7) hx hb hts iX_X3 hown hK hP 9 rfl rfl 6 (by decide +kernel) (hts _ m_t156) (fun _ h9 => h9) rfl (g_180 (v := 18) bX3_readOne rfl) ?_
            refine lv_iload_n hx hb (g_27 bX3_readOne rfl) rfl (lv_at hl 3 rfl) ?_
            refine lv_iload_n hx hb (g_28 bX3_readOne rfl) rfl (lv_at hl 2 rfl) ?_
            refine lv_iload_n hx hb (g_29 bX3_readOne rfl) rfl (lv_at hl 1 rfl) ?_
            refine lv_iload hx hb (g_21 (v := 4) bX3_readOne rfl) (lv_at hl 0 rfl) ?_
            refine cVi (As := [.int r_11, .int r_35, .int 5, .int r_117]) (rest := []) (b := qd) (q := (RX4, TX4, 13)) ⟨hx, hb, hml, hown, hts⟩ (c_X4_addOne l G cy (H).size qd tD qdw qdn qdg qda qdr qdm qdt qds r_11 r_35 5 r_117 (by omega)) L_X3_107 hN hP hD hS hA (trueIx 0 [true, true, true, true, true, true, true, true, true]) [false, false, false, false, false, false, false, false, false, true, true] (sel_eq rfl rfl) (by decide +kernel) rfl 0 3 rfl rfl rfl ⟨Nat.le_of_ble_eq_true rfl, Nat.le_of_ble_eq_true rfl⟩ hl.1 (Nat.le_of_ble_eq_true rfl) (g_182 (v := 107) bX3_readOne rfl) ⟨Nat.le_of_ble_eq_true rfl, Nat.le_of_ble_eq_true rfl⟩ (fun r_128 u_130 H locs h_129 => ?_)
            clear hP hD hS
            intro hP hD hS
            obtain ⟨hu9, h_129⟩ := h_129
            have hPD := pd_eq [_, _, zzO qd 3 [.int (nI (T_nb (zao tD r_11 r_35 5 r_117))), .int (nI (T_np (zao tD r_11 r_35 5 r_117))), .int (wb (T_wh (zao tD r_11 r_35 5 r_117))), .int (wb (T_gn (zao tD r_11 r_35 5 r_117))), .int (T_sd (zao tD r_11 r_35 5 r_117)), .ref qdw, .ref qdn, .ref qdg, .ref qda, .ref qdr, .ref qdm, .ref qdt, .ref qds], zzI cy qdw 8 (T_wo (zao tD r_11 r_35 5 r_117)), zzI cy qdn 8 (T_ne (zao tD r_11 r_35 5 r_117)), zzI cy qdg 8 (T_go (zao tD r_11 r_35 5 r_117)), zzI cy qda 8 (T_ag (zao tD r_11 r_35 5 r_117)), zzI cy qdr 8 (T_re (zao tD r_11 r_35 5 r_117)), zzI cy qdm 8 (T_me (zao tD r_11 r_35 5 r_117)), zzI cy qdt 8 (T_te (zao tD r_11 r_35 5 r_117)), zzI cy qds 64 (shF (T_kn (zao tD r_11 r_35 5 r_117)))] hP hD hu9 rfl
            clear hP hD hu9
            obtain ⟨hP, hD⟩ := hPD
            subst h_129
            refine lv_pop hx hb (g_87 bX3_readOne rfl) rfl ?_
            exact endV (u := [zzO qa 2 [.ref qab, .int (nI kZ), .int (nI kX_120), .int (nI kY_121), .int iX_122, .int iY_123, .ref qd], zzB cy qab 250 fB, zzO qd 3 [.int (nI (T_nb (zao tD r_11 r_35 5 r_117))), .int (nI (T_np (zao tD r_11 r_35 5 r_117))), .int (wb (T_wh (zao tD r_11 r_35 5 r_117))), .int (wb (T_gn (zao tD r_11 r_35 5 r_117))), .int (T_sd (zao tD r_11 r_35 5 r_117)), .ref qdw, .ref qdn, .ref qdg, .ref qda, .ref qdr, .ref qdm, .ref qdt, .ref qds], zzI cy qdw 8 (T_wo (zao tD r_11 r_35 5 r_117)), zzI cy qdn 8 (T_ne (zao tD r_11 r_35 5 r_117)), zzI cy qdg 8 (T_go (zao tD r_11 r_35 5 r_117)), zzI cy qda 8 (T_ag (zao tD r_11 r_35 5 r_117)), zzI cy qdr 8 (T_re (zao tD r_11 r_35 5 r_117)), zzI cy qdm 8 (T_me (zao tD r_11 r_35 5 r_117)), zzI cy qdt 8 (T_te (zao tD r_11 r_35 5 r_117)), zzI cy qds 64 (shF (T_kn (zao tD r_11 r_35 5 r_117)))]) hx hb hr hlocks (pSb hP [[true, true, true, true, true, true, true, true, true, true, true]] rfl rfl) (dSb hD [[true, true, true, true, true, true, true, true, true, true, true]] (by decide +kernel) rfl rfl) hS ⟨kX_120, kY_121, iX_122, iY_123, (zao tD r_11 r_35 5 r_117), rfl, ⟨by omega, by omega, by first | omega | (show T_nb tD + 1 ≤ 8; omega) | (show T_nb tD ≤ 8; omega), by first | omega | (show T_np tD + 1 ≤ 8; omega) | (show T_np tD ≤ 8; omega)⟩, h_125, (st_one hlt8 h_9 hF h_20 (opt_y h_33 h_44) (opt_n h_57) (opt_y h_115 h_126))⟩ (g_177 bX3_readOne rfl)
        · refine lv_if_eq (tgt := 90) hx hb dX3_readOne_77 (by decide +kernel) (fun _ => ?_) (fun h9 => absurd (by decide +kernel) h9)
          refine lv_iconst (v := 5) hx hb (g_8 bX3_readOne rfl) (by decide +kernel) ?_
          refine lv_istore (lv' := [(4, .int 5), (3, .int 5), (2, .int r_35), (1, .int r_11), (0, .ref qa)]) hx hb (g_54 (v := 4) bX3_readOne rfl) hl (by decide +kernel) rfl (fun ls => ?_)
          clear hl
          intro hl
          refine lv_aload_n hx hb (g_42 bX3_readOne rfl) rfl (lv_at hl 4 rfl) ?_
          refine va_get (D := G) (ci := 2) (v := .int iY_41) (C := RX3) (T := TX3) (N := 7) hx hb hts iX_X3 hown hK hP 9 rfl rfl 5 (by decide +kernel) (hts _ m_t154) (fun _ h9 => h9) rfl (g_180 (v := 30) bX3_readOne rfl) ?_
          refine lv_iconst (v := (-1)) hx hb (g_2 bX3_readOne rfl) (by decide +kernel) ?_
          refine lv_icmp_ne (tgt := 114) hx hb dX3_readOne_98 (by decide +kernel) (fun c_132 => ?_) (fun c_132 => ?_)
          · exact endV (u := [zzO qa 2 [.ref qab, .int (nI kZ), .int (nI kX_110), .int (nI kY_111), .int iX_112, .int iY_41, .ref qd], zzB cy qab 250 fB, zzO qd 3 [.int (nI (T_nb tD)), .int (nI (T_np tD)), .int (wb (T_wh tD)), .int (wb (T_gn tD)), .int (T_sd tD), .ref qdw, .ref qdn, .ref qdg, .ref qda, .ref qdr, .ref qdm, .ref qdt, .ref qds], zzI cy qdw 8 (T_wo tD), zzI cy qdn 8 (T_ne tD), zzI cy qdg 8 (T_go tD), zzI cy qda 8 (T_ag tD), zzI cy qdr 8 (T_re tD), zzI cy qdm 8 (T_me tD), zzI cy qdt 8 (T_te tD), zzI cy qds 64 (shF (T_kn tD))]) hx hb hr hlocks (pSb hP [[false, false, false, false, false, false, false, false, false, true, true], [true, true, true, true, true, true, true, true, true]] rfl rfl) (dSb hD [[false, false, false, false, false, false, false, false, false, true, true], [true, true, true, true, true, true, true, true, true]] (by decide +kernel) rfl rfl) hS ⟨kX_110, kY_111, iX_112, iY_41, tD, rfl, ⟨by omega, by omega, by first | omega | (show T_nb tD + 1 ≤ 8; omega) | (show T_nb tD ≤ 8; omega), by first | omega | (show T_np tD + 1 ≤ 8; omega) | (show T_np tD ≤ 8; omega)⟩, h_114, (ch_swap _ (st_one hlt8 h_9 hF h_20 (opt_y h_33 h_44) (opt_n h_57) (opt_n h_115)) c_132)⟩ (g_177 bX3_readOne rfl)
          · refine lv_aload_n hx hb (g_42 bX3_readOne rfl) rfl (lv_at hl 4 rfl) ?_
            refine va_get (D := G) (ci := 2) (v := .ref qd) (C := RX3) (T := TX3) (N := 7) hx hb hts iX_X3 hown hK hP 9 rfl rfl 6 (by decide +kernel) (hts _ m_t156) (fun _ h9 => h9) rfl (g_180 (v := 18) bX3_readOne rfl) ?_
            refine lv_iload_n hx hb (g_27 bX3_readOne rfl) rfl (lv_at hl 3 rfl) ?_
            refine lv_iload_n hx hb (g_28 bX3_readOne rfl) rfl (lv_at hl 2 rfl) ?_
            refine lv_iload_n hx hb (g_29 bX3_readOne rfl) rfl (lv_at hl 1 rfl) ?_
            refine lv_iload hx hb (g_21 (v := 4) bX3_readOne rfl) (lv_at hl 0 rfl) ?_
            refine cVi (As := [.int r_11, .int r_35, .int 5, .int 5]) (rest := []) (b := qd) (q := (RX4, TX4, 13)) ⟨hx, hb, hml, hown, hts⟩ (c_X4_addOne l G cy (H).size qd tD qdw qdn qdg qda qdr qdm qdt qds r_11 r_35 5 5 (by omega)) L_X3_107 hN hP hD hS hA (trueIx 0 [true, true, true, true, true, true, true, true, true]) [false, false, false, false, false, false, false, false, false, true, true] (sel_eq rfl rfl) (by decide +kernel) rfl 0 3 rfl rfl rfl ⟨Nat.le_of_ble_eq_true rfl, Nat.le_of_ble_eq_true rfl⟩ hl.1 (Nat.le_of_ble_eq_true rfl) (g_182 (v := 107) bX3_readOne rfl) ⟨Nat.le_of_ble_eq_true rfl, Nat.le_of_ble_eq_true rfl⟩ (fun r_133 u_135 H locs h_134 => ?_)
            clear hP hD hS
            intro hP hD hS
            obtain ⟨hu9, h_134⟩ := h_134
            have hPD := pd_eq [_, _, zzO qd 3 [.int (nI (T_nb (zao tD r_11 r_35 5 5))), .int (nI (T_np (zao tD r_11 r_35 5 5))), .int (wb (T_wh (zao tD r_11 r_35 5 5))), .int (wb (T_gn (zao tD r_11 r_35 5 5))), .int (T_sd (zao tD r_11 r_35 5 5)), .ref qdw, .ref qdn, .ref qdg, .ref qda, .ref qdr, .ref qdm, .ref qdt, .ref qds], zzI cy qdw 8 (T_wo (zao tD r_11 r_35 5 5)), zzI cy qdn 8 (T_ne (zao tD r_11 r_35 5 5)), zzI cy qdg 8 (T_go (zao tD r_11 r_35 5 5)), zzI cy qda 8 (T_ag (zao tD r_11 r_35 5 5)), zzI cy qdr 8 (T_re (zao tD r_11 r_35 5 5)), zzI cy qdm 8 (T_me (zao tD r_11 r_35 5 5)), zzI cy qdt 8 (T_te (zao tD r_11 r_35 5 5)), zzI cy qds 64 (shF (T_kn (zao tD r_11 r_35 5 5)))] hP hD hu9 rfl
            clear hP hD hu9
            obtain ⟨hP, hD⟩ := hPD
            subst h_134
            refine lv_pop hx hb (g_87 bX3_readOne rfl) rfl ?_
            exact endV (u := [zzO qa 2 [.ref qab, .int (nI kZ), .int (nI kX_110), .int (nI kY_111), .int iX_112, .int iY_41, .ref qd], zzB cy qab 250 fB, zzO qd 3 [.int (nI (T_nb (zao tD r_11 r_35 5 5))), .int (nI (T_np (zao tD r_11 r_35 5 5))), .int (wb (T_wh (zao tD r_11 r_35 5 5))), .int (wb (T_gn (zao tD r_11 r_35 5 5))), .int (T_sd (zao tD r_11 r_35 5 5)), .ref qdw, .ref qdn, .ref qdg, .ref qda, .ref qdr, .ref qdm, .ref qdt, .ref qds], zzI cy qdw 8 (T_wo (zao tD r_11 r_35 5 5)), zzI cy qdn 8 (T_ne (zao tD r_11 r_35 5 5)), zzI cy qdg 8 (T_go (zao tD r_11 r_35 5 5)), zzI cy qda 8 (T_ag (zao tD r_11 r_35 5 5)), zzI cy qdr 8 (T_re (zao tD r_11 r_35 5 5)), zzI cy qdm 8 (T_me (zao tD r_11 r_35 5 5)), zzI cy qdt 8 (T_te (zao tD r_11 r_35 5 5)), zzI cy qds 64 (shF (T_kn (zao tD r_11 r_35 5 5)))]) hx hb hr hlocks (pSb hP [[true, true, true, true, true, true, true, true, true, true, true]] rfl rfl) (dSb hD [[true, true, true, true, true, true, true, true, true, true, true]] (by decide +kernel) rfl rfl) hS ⟨kX_110, kY_111, iX_112, iY_41, (zao tD r_11 r_35 5 5), rfl, ⟨by omega, by omega, by first | omega | (show T_nb tD + 1 ≤ 8; omega) | (show T_nb tD ≤ 8; omega), by first | omega | (show T_np tD + 1 ≤ 8; omega) | (show T_np tD ≤ 8; omega)⟩, h_114, (st_one hlt8 h_9 hF h_20 (opt_y h_33 h_44) (opt_n h_57) (opt_n h_115))⟩ (g_177 bX3_readOne rfl)
    · refine lv_if_eq (tgt := 48) hx hb dX3_readOne_35 (by decide +kernel) (fun _ => ?_) (fun h9 => absurd (by decide +kernel) h9)
      refine lv_iconst (v := 5) hx hb (g_8 bX3_readOne rfl) (by decide +kernel) ?_
      refine lv_istore_n (lv' := [(2, .int 5), (1, .int r_11), (0, .ref qa)]) hx hb (g_61 bX3_readOne rfl) rfl hl (by decide +kernel) rfl (fun ls => ?_)
      clear hl
      intro hl
      refine lv_aload_n hx hb (g_42 bX3_readOne rfl) rfl (lv_at hl 2 rfl) ?_
      obtain ⟨qs_137, qv_139, hs_138, hf_140⟩ := hX (RX3, 103, "keeps", [107, 101, 101, 112, 115]) (List.mem_of_getElem? (i := 5) rfl)
      refine va_ldcS hx hb hown hs_138 (g_18 (v := 103) bX3_readOne rfl) ?_
      refine cVXi (As := [.ref qs_137]) (rest := []) (b := qa) (q := (RX3, TX3, 7)) ⟨hx, hb, hml, hown, hts⟩ (x_X3_passes l G cy (H).size qa qab kZ kX_28 kY_29 iX_30 iY_17 qd fB qs_137 ([107, 101, 101, 112, 115]) qv_139 hZ (by omega) h_32 (by decide +kernel) as_keeps) L_X3_86 hN hP hD hS hA [9, 10] [true, true, true, true, true, true, true, true, true, false, false] rfl (by decide +kernel) rfl 9 2 rfl rfl SF_ok hf_140 rfl ⟨Nat.le_of_ble_eq_true rfl, Nat.le_of_ble_eq_true rfl⟩ hl.1 (Nat.le_of_ble_eq_true rfl) (g_182 (v := 86) bX3_readOne rfl) ⟨Nat.le_of_ble_eq_true rfl, Nat.le_of_ble_eq_true rfl⟩ (fun r_141 u_143 H locs h_142 => ?_)
      clear hP hD hS
      intro hP hD hS
      obtain ⟨kX_144, kY_145, iX_146, hu9, h_147, h_148, h_142⟩ := h_142
      have hPD := pd_eq [_, _, _, _, _, _, _, _, _, zzO qa 2 [.ref qab, .int (nI kZ), .int (nI kX_144), .int (nI kY_145), .int iX_146, .int iY_17, .ref qd], _] hP hD hu9 rfl
      clear hP hD hu9
      obtain ⟨hP, hD⟩ := hPD
      rcases h_142 with ⟨rfl, h_149⟩ | ⟨rfl, h_149⟩
      · refine lv_if_eq (tgt := 69) hx hb dX3_readOne_56 (by decide +kernel) (fun h9 => absurd h9 (by decide +kernel)) (fun _ => ?_)
        refine lv_aload_n hx hb (g_42 bX3_readOne rfl) rfl (lv_at hl 2 rfl) ?_
        refine lv_iconst (v := 0) hx hb (g_3 bX3_readOne rfl) (by decide +kernel) ?_
        refine lv_bipush (v := 10) hx hb dX3_readOne_61 (by decide +kernel) ?_
        refine cVi (As := [.int 0, .int 10]) (rest := []) (b := qa) (q := (RX3, TX3, 7)) ⟨hx, hb, hml, hown, hts⟩ (x_X3_takeNumber l G cy (H).size qa qab kZ kX_144 kY_145 iX_146 iY_17 qd fB 0 10 hZ (by omega) h_148 (by decide +kernel)) L_X3_80 hN hP hD hS hA [9, 10] [true, true, true, true, true, true, true, true, true, false, false] rfl (by decide +kernel) rfl 9 2 rfl rfl rfl ⟨Nat.le_of_ble_eq_true rfl, Nat.le_of_ble_eq_true rfl⟩ hl.1 (Nat.le_of_ble_eq_true rfl) (g_182 (v := 80) bX3_readOne rfl) ⟨Nat.le_of_ble_eq_true rfl, Nat.le_of_ble_eq_true rfl⟩ (fun r_151 u_153 H locs h_152 => ?_)
        clear hP hD hS
        intro hP hD hS
        obtain ⟨kX_154, kY_155, iX_156, iY_157, hu9, h_158, h_159, h_160, h_152⟩ := h_152
        have hPD := pd_eq [_, _, _, _, _, _, _, _, _, zzO qa 2 [.ref qab, .int (nI kZ), .int (nI kX_154), .int (nI kY_155), .int iX_156, .int iY_157, .ref qd], _] hP hD hu9 rfl
        clear hP hD hu9
        obtain ⟨hP, hD⟩ := hPD
        refine lv_goto (tgt := 70) hx hb dX3_readOne_66 (by decide +kernel) ?_
        refine lv_istore_n (lv' := [(3, .int r_151), (2, .int 5), (1, .int r_11), (0, .ref qa)]) hx hb (g_62 bX3_readOne rfl) rfl hl (by decide +kernel) rfl (fun ls => ?_)
        clear hl
        intro hl
        refine lv_aload_n hx hb (g_42 bX3_readOne rfl) rfl (lv_at hl 3 rfl) ?_
        obtain ⟨qs_161, qv_163, hs_162, hf_164⟩ := hX (RX3, 105, "tells", [116, 101, 108, 108, 115]) (List.mem_of_getElem? (i := 6) rfl)
        refine va_ldcS hx hb hown hs_162 (g_18 (v := 105) bX3_readOne rfl) ?_
        refine cVXi (As := [.ref qs_161]) (rest := []) (b := qa) (q := (RX3, TX3, 7)) ⟨hx, hb, hml, hown, hts⟩ (x_X3_passes l G cy (H).size qa qab kZ kX_154 kY_155 iX_156 iY_157 qd fB qs_161 ([116, 101, 108, 108, 115]) qv_163 hZ (by omega) h_159 (by decide +kernel) as_tells) L_X3_86 hN hP hD hS hA [9, 10] [true, true, true, true, true, true, true, true, true, false, false] rfl (by decide +kernel) rfl 9 2 rfl rfl SF_ok hf_164 rfl ⟨Nat.le_of_ble_eq_true rfl, Nat.le_of_ble_eq_true rfl⟩ hl.1 (Nat.le_of_ble_eq_true rfl) (g_182 (v := 86) bX3_readOne rfl) ⟨Nat.le_of_ble_eq_true rfl, Nat.le_of_ble_eq_true rfl⟩ (fun r_165 u_167 H locs h_166 => ?_)
        clear hP hD hS
        intro hP hD hS
        obtain ⟨kX_168, kY_169, iX_170, hu9, h_171, h_172, h_166⟩ := h_166
        have hPD := pd_eq [_, _, _, _, _, _, _, _, _, zzO qa 2 [.ref qab, .int (nI kZ), .int (nI kX_168), .int (nI kY_169), .int iX_170, .int iY_157, .ref qd], _] hP hD hu9 rfl
        clear hP hD hu9
        obtain ⟨hP, hD⟩ := hPD
        rcases h_166 with ⟨rfl, h_173⟩ | ⟨rfl, h_173⟩
        · refine lv_if_eq (tgt := 90) hx hb dX3_readOne_77 (by decide +kernel) (fun h9 => absurd h9 (by decide +kernel)) (fun _ => ?_)
          refine lv_aload_n hx hb (g_42 bX3_readOne rfl) rfl (lv_at hl 3 rfl) ?_
          refine lv_iconst (v := 0) hx hb (g_3 bX3_readOne rfl) (by decide +kernel) ?_
          refine lv_bipush (v := 10) hx hb dX3_readOne_82 (by decide +kernel) ?_
          refine cVi (As := [.int 0, .int 10]) (rest := []) (b := qa) (q := (RX3, TX3, 7)) ⟨hx, hb, hml, hown, hts⟩ (x_X3_takeNumber l G cy (H).size qa qab kZ kX_168 kY_169 iX_170 iY_157 qd fB 0 10 hZ (by omega) h_172 (by decide +kernel)) L_X3_80 hN hP hD hS hA [9, 10] [true, true, true, true, true, true, true, true, true, false, false] rfl (by decide +kernel) rfl 9 2 rfl rfl rfl ⟨Nat.le_of_ble_eq_true rfl, Nat.le_of_ble_eq_true rfl⟩ hl.1 (Nat.le_of_ble_eq_true rfl) (g_182 (v := 80) bX3_readOne rfl) ⟨Nat.le_of_ble_eq_true rfl, Nat.le_of_ble_eq_true rfl⟩ (fun r_175 u_177 H locs h_176 => ?_)
          clear hP hD hS
          intro hP hD hS
          obtain ⟨kX_178, kY_179, iX_180, iY_181, hu9, h_182, h_183, h_184, h_176⟩ := h_176
          have hPD := pd_eq [_, _, _, _, _, _, _, _, _, zzO qa 2 [.ref qab, .int (nI kZ), .int (nI kX_178), .int (nI kY_179), .int iX_180, .int iY_181, .ref qd], _] hP hD hu9 rfl
          clear hP hD hu9
          obtain ⟨hP, hD⟩ := hPD
          refine lv_goto (tgt := 91) hx hb dX3_readOne_87 (by decide +kernel) ?_
          refine lv_istore (lv' := [(4, .int r_175), (3, .int r_151), (2, .int 5), (1, .int r_11), (0, .ref qa)]) hx hb (g_54 (v := 4) bX3_readOne rfl) hl (by decide +kernel) rfl (fun ls => ?_)
          clear hl
          intro hl
          refine lv_aload_n hx hb (g_42 bX3_readOne rfl) rfl (lv_at hl 4 rfl) ?_
          refine va_get (D := G) (ci := 2) (v := .int iY_181) (C := RX3) (T := TX3) (N := 7) hx hb hts iX_X3 hown hK hP 9 rfl rfl 5 (by decide +kernel) (hts _ m_t154) (fun _ h9 => h9) rfl (g_180 (v := 30) bX3_readOne rfl) ?_
          refine lv_iconst (v := (-1)) hx hb (g_2 bX3_readOne rfl) (by decide +kernel) ?_
          refine lv_icmp_ne (tgt := 114) hx hb dX3_readOne_98 (by decide +kernel) (fun c_185 => ?_) (fun c_185 => ?_)
          · exact endV (u := [zzO qa 2 [.ref qab, .int (nI kZ), .int (nI kX_178), .int (nI kY_179), .int iX_180, .int iY_181, .ref qd], zzB cy qab 250 fB, zzO qd 3 [.int (nI (T_nb tD)), .int (nI (T_np tD)), .int (wb (T_wh tD)), .int (wb (T_gn tD)), .int (T_sd tD), .ref qdw, .ref qdn, .ref qdg, .ref qda, .ref qdr, .ref qdm, .ref qdt, .ref qds], zzI cy qdw 8 (T_wo tD), zzI cy qdn 8 (T_ne tD), zzI cy qdg 8 (T_go tD), zzI cy qda 8 (T_ag tD), zzI cy qdr 8 (T_re tD), zzI cy qdm 8 (T_me tD), zzI cy qdt 8 (T_te tD), zzI cy qds 64 (shF (T_kn tD))]) hx hb hr hlocks (pSb hP [[false, false, false, false, false, false, false, false, false, true, true], [true, true, true, true, true, true, true, true, true]] rfl rfl) (dSb hD [[false, false, false, false, false, false, false, false, false, true, true], [true, true, true, true, true, true, true, true, true]] (by decide +kernel) rfl rfl) hS ⟨kX_178, kY_179, iX_180, iY_181, tD, rfl, ⟨by omega, by omega, by first | omega | (show T_nb tD + 1 ≤ 8; omega) | (show T_nb tD ≤ 8; omega), by first | omega | (show T_np tD + 1 ≤ 8; omega) | (show T_np tD ≤ 8; omega)⟩, h_183, (ch_swap _ (st_one hlt8 h_9 hF h_20 (opt_n h_33) (opt_y h_149 h_160) (opt_y h_173 h_184)) c_185)⟩ (g_177 bX3_readOne rfl)
          · refine lv_aload_n hx hb (g_42 bX3_readOne rfl) rfl (lv_at hl 4 rfl) ?_
            refine va_get (D := G) (ci := 2) (v := .ref qd) (C := RX3) (T := TX3) (N := 7) hx hb hts iX_X3 hown hK hP 9 rfl rfl 6 (by decide +kernel) (hts _ m_t156) (fun _ h9 => h9) rfl (g_180 (v := 18) bX3_readOne rfl) ?_
            refine lv_iload_n hx hb (g_27 bX3_readOne rfl) rfl (lv_at hl 3 rfl) ?_
            refine lv_iload_n hx hb (g_28 bX3_readOne rfl) rfl (lv_at hl 2 rfl) ?_
            refine lv_iload_n hx hb (g_29 bX3_readOne rfl) rfl (lv_at hl 1 rfl) ?_
            refine lv_iload hx hb (g_21 (v := 4) bX3_readOne rfl) (lv_at hl 0 rfl) ?_
            refine cVi (As := [.int r_11, .int 5, .int r_151, .int r_175]) (rest := []) (b := qd) (q := (RX4, TX4, 13)) ⟨hx, hb, hml, hown, hts⟩ (c_X4_addOne l G cy (H).size qd tD qdw qdn qdg qda qdr qdm qdt qds r_11 5 r_151 r_175 (by omega)) L_X3_107 hN hP hD hS hA (trueIx 0 [true, true, true, true, true, true, true, true, true]) [false, false, false, false, false, false, false, false, false, true, true] (sel_eq rfl rfl) (by decide +kernel) rfl 0 3 rfl rfl rfl ⟨Nat.le_of_ble_eq_true rfl, Nat.le_of_ble_eq_true rfl⟩ hl.1 (Nat.le_of_ble_eq_true rfl) (g_182 (v := 107) bX3_readOne rfl) ⟨Nat.le_of_ble_eq_true rfl, Nat.le_of_ble_eq_true rfl⟩ (fun r_186 u_188 H locs h_187 => ?_)
            clear hP hD hS
            intro hP hD hS
            obtain ⟨hu9, h_187⟩ := h_187
            have hPD := pd_eq [_, _, zzO qd 3 [.int (nI (T_nb (zao tD r_11 5 r_151 r_175))), .int (nI (T_np (zao tD r_11 5 r_151 r_175))), .int (wb (T_wh (zao tD r_11 5 r_151 r_175))), .int (wb (T_gn (zao tD r_11 5 r_151 r_175))), .int (T_sd (zao tD r_11 5 r_151 r_175)), .ref qdw, .ref qdn, .ref qdg, .ref qda, .ref qdr, .ref qdm, .ref qdt, .ref qds], zzI cy qdw 8 (T_wo (zao tD r_11 5 r_151 r_175)), zzI cy qdn 8 (T_ne (zao tD r_11 5 r_151 r_175)), zzI cy qdg 8 (T_go (zao tD r_11 5 r_151 r_175)), zzI cy qda 8 (T_ag (zao tD r_11 5 r_151 r_175)), zzI cy qdr 8 (T_re (zao tD r_11 5 r_151 r_175)), zzI cy qdm 8 (T_me (zao tD r_11 5 r_151 r_175)), zzI cy qdt 8 (T_te (zao tD r_11 5 r_151 r_175)), zzI cy qds 64 (shF (T_kn (zao tD r_11 5 r_151 r_175)))] hP hD hu9 rfl
            clear hP hD hu9
            obtain ⟨hP, hD⟩ := hPD
            subst h_187
            refine lv_pop hx hb (g_87 bX3_readOne rfl) rfl ?_
            exact endV (u := [zzO qa 2 [.ref qab, .int (nI kZ), .int (nI kX_178), .int (nI kY_179), .int iX_180, .int iY_181, .ref qd], zzB cy qab 250 fB, zzO qd 3 [.int (nI (T_nb (zao tD r_11 5 r_151 r_175))), .int (nI (T_np (zao tD r_11 5 r_151 r_175))), .int (wb (T_wh (zao tD r_11 5 r_151 r_175))), .int (wb (T_gn (zao tD r_11 5 r_151 r_175))), .int (T_sd (zao tD r_11 5 r_151 r_175)), .ref qdw, .ref qdn, .ref qdg, .ref qda, .ref qdr, .ref qdm, .ref qdt, .ref qds], zzI cy qdw 8 (T_wo (zao tD r_11 5 r_151 r_175)), zzI cy qdn 8 (T_ne (zao tD r_11 5 r_151 r_175)), zzI cy qdg 8 (T_go (zao tD r_11 5 r_151 r_175)), zzI cy qda 8 (T_ag (zao tD r_11 5 r_151 r_175)), zzI cy qdr 8 (T_re (zao tD r_11 5 r_151 r_175)), zzI cy qdm 8 (T_me (zao tD r_11 5 r_151 r_175)), zzI cy qdt 8 (T_te (zao tD r_11 5 r_151 r_175)), zzI cy qds 64 (shF (T_kn (zao tD r_11 5 r_151 r_175)))]) hx hb hr hlocks (pSb hP [[true, true, true, true, true, true, true, true, true, true, true]] rfl rfl) (dSb hD [[true, true, true, true, true, true, true, true, true, true, true]] (by decide +kernel) rfl rfl) hS ⟨kX_178, kY_179, iX_180, iY_181, (zao tD r_11 5 r_151 r_175), rfl, ⟨by omega, by omega, by first | omega | (show T_nb tD + 1 ≤ 8; omega) | (show T_nb tD ≤ 8; omega), by first | omega | (show T_np tD + 1 ≤ 8; omega) | (show T_np tD ≤ 8; omega)⟩, h_183, (st_one hlt8 h_9 hF h_20 (opt_n h_33) (opt_y h_149 h_160) (opt_y h_173 h_184))⟩ (g_177 bX3_readOne rfl)
        · refine lv_if_eq (tgt := 90) hx hb dX3_readOne_77 (by decide +kernel) (fun _ => ?_) (fun h9 => absurd (by decide +kernel) h9)
          refine lv_iconst (v := 5) hx hb (g_8 bX3_readOne rfl) (by decide +kernel) ?_
          refine lv_istore (lv' := [(4, .int 5), (3, .int r_151), (2, .int 5), (1, .int r_11), (0, .ref qa)]) hx hb (g_54 (v := 4) bX3_readOne rfl) hl (by decide +kernel) rfl (fun ls => ?_)
          clear hl
          intro hl
          refine lv_aload_n hx hb (g_42 bX3_readOne rfl) rfl (lv_at hl 4 rfl) ?_
          refine va_get (D := G) (ci := 2) (v := .int iY_157) (C := RX3) (T := TX3) (N := 7) hx hb hts iX_X3 hown hK hP 9 rfl rfl 5 (by decide +kernel) (hts _ m_t154) (fun _ h9 => h9) rfl (g_180 (v := 30) bX3_readOne rfl) ?_
          refine lv_iconst (v := (-1)) hx hb (g_2 bX3_readOne rfl) (by decide +kernel) ?_
          refine lv_icmp_ne (tgt := 114) hx hb dX3_readOne_98 (by decide +kernel) (fun c_190 => ?_) (fun c_190 => ?_)
          · exact endV (u := [zzO qa 2 [.ref qab, .int (nI kZ), .int (nI kX_168), .int (nI kY_169), .int iX_170, .int iY_157, .ref qd], zzB cy qab 250 fB, zzO qd 3 [.int (nI (T_nb tD)), .int (nI (T_np tD)), .int (wb (T_wh tD)), .int (wb (T_gn tD)), .int (T_sd tD), .ref qdw, .ref qdn, .ref qdg, .ref qda, .ref qdr, .ref qdm, .ref qdt, .ref qds], zzI cy qdw 8 (T_wo tD), zzI cy qdn 8 (T_ne tD), zzI cy qdg 8 (T_go tD), zzI cy qda 8 (T_ag tD), zzI cy qdr 8 (T_re tD), zzI cy qdm 8 (T_me tD), zzI cy qdt 8 (T_te tD), zzI cy qds 64 (shF (T_kn tD))]) hx hb hr hlocks (pSb hP [[false, false, false, false, false, false, false, false, false, true, true], [true, true, true, true, true, true, true, true, true]] rfl rfl) (dSb hD [[false, false, false, false, false, false, false, false, false, true, true], [true, true, true, true, true, true, true, true, true]] (by decide +kernel) rfl rfl) hS ⟨kX_168, kY_169, iX_170, iY_157, tD, rfl, ⟨by omega, by omega, by first | omega | (show T_nb tD + 1 ≤ 8; omega) | (show T_nb tD ≤ 8; omega), by first | omega | (show T_np tD + 1 ≤ 8; omega) | (show T_np tD ≤ 8; omega)⟩, h_172, (ch_swap _ (st_one hlt8 h_9 hF h_20 (opt_n h_33) (opt_y h_149 h_160) (opt_n h_173)) c_190)⟩ (g_177 bX3_readOne rfl)
          · refine lv_aload_n hx hb (g_42 bX3_readOne rfl) rfl (lv_at hl 4 rfl) ?_
            refine va_get (D := G) (ci := 2) (v := .ref qd) (C := RX3) (T := TX3) (N := 7) hx hb hts iX_X3 hown hK hP 9 rfl rfl 6 (by decide +kernel) (hts _ m_t156) (fun _ h9 => h9) rfl (g_180 (v := 18) bX3_readOne rfl) ?_
            refine lv_iload_n hx hb (g_27 bX3_readOne rfl) rfl (lv_at hl 3 rfl) ?_
            refine lv_iload_n hx hb (g_28 bX3_readOne rfl) rfl (lv_at hl 2 rfl) ?_
            refine lv_iload_n hx hb (g_29 bX3_readOne rfl) rfl (lv_at hl 1 rfl) ?_
            refine lv_iload hx hb (g_21 (v := 4) bX3_readOne rfl) (lv_at hl 0 rfl) ?_
            refine cVi (As := [.int r_11, .int 5, .int r_151, .int 5]) (rest := []) (b := qd) (q := (RX4, TX4, 13)) ⟨hx, hb, hml, hown, hts⟩ (c_X4_addOne l G cy (H).size qd tD qdw qdn qdg qda qdr qdm qdt qds r_11 5 r_151 5 (by omega)) L_X3_107 hN hP hD hS hA (trueIx 0 [true, true, true, true, true, true, true, true, true]) [false, false, false, false, false, false, false, false, false, true, true] (sel_eq rfl rfl) (by decide +kernel) rfl 0 3 rfl rfl rfl ⟨Nat.le_of_ble_eq_true rfl, Nat.le_of_ble_eq_true rfl⟩ hl.1 (Nat.le_of_ble_eq_true rfl) (g_182 (v := 107) bX3_readOne rfl) ⟨Nat.le_of_ble_eq_true rfl, Nat.le_of_ble_eq_true rfl⟩ (fun r_191 u_193 H locs h_192 => ?_)
            clear hP hD hS
            intro hP hD hS
            obtain ⟨hu9, h_192⟩ := h_192
            have hPD := pd_eq [_, _, zzO qd 3 [.int (nI (T_nb (zao tD r_11 5 r_151 5))), .int (nI (T_np (zao tD r_11 5 r_151 5))), .int (wb (T_wh (zao tD r_11 5 r_151 5))), .int (wb (T_gn (zao tD r_11 5 r_151 5))), .int (T_sd (zao tD r_11 5 r_151 5)), .ref qdw, .ref qdn, .ref qdg, .ref qda, .ref qdr, .ref qdm, .ref qdt, .ref qds], zzI cy qdw 8 (T_wo (zao tD r_11 5 r_151 5)), zzI cy qdn 8 (T_ne (zao tD r_11 5 r_151 5)), zzI cy qdg 8 (T_go (zao tD r_11 5 r_151 5)), zzI cy qda 8 (T_ag (zao tD r_11 5 r_151 5)), zzI cy qdr 8 (T_re (zao tD r_11 5 r_151 5)), zzI cy qdm 8 (T_me (zao tD r_11 5 r_151 5)), zzI cy qdt 8 (T_te (zao tD r_11 5 r_151 5)), zzI cy qds 64 (shF (T_kn (zao tD r_11 5 r_151 5)))] hP hD hu9 rfl
            clear hP hD hu9
            obtain ⟨hP, hD⟩ := hPD
            subst h_192
            refine lv_pop hx hb (g_87 bX3_readOne rfl) rfl ?_
            exact endV (u := [zzO qa 2 [.ref qab, .int (nI kZ), .int (nI kX_168), .int (nI kY_169), .int iX_170, .int iY_157, .ref qd], zzB cy qab 250 fB, zzO qd 3 [.int (nI (T_nb (zao tD r_11 5 r_151 5))), .int (nI (T_np (zao tD r_11 5 r_151 5))), .int (wb (T_wh (zao tD r_11 5 r_151 5))), .int (wb (T_gn (zao tD r_11 5 r_151 5))), .int (T_sd (zao tD r_11 5 r_151 5)), .ref qdw, .ref qdn, .ref qdg, .ref qda, .ref qdr, .ref qdm, .ref qdt, .ref qds], zzI cy qdw 8 (T_wo (zao tD r_11 5 r_151 5)), zzI cy qdn 8 (T_ne (zao tD r_11 5 r_151 5)), zzI cy qdg 8 (T_go (zao tD r_11 5 r_151 5)), zzI cy qda 8 (T_ag (zao tD r_11 5 r_151 5)), zzI cy qdr 8 (T_re (zao tD r_11 5 r_151 5)), zzI cy qdm 8 (T_me (zao tD r_11 5 r_151 5)), zzI cy qdt 8 (T_te (zao tD r_11 5 r_151 5)), zzI cy qds 64 (shF (T_kn (zao tD r_11 5 r_151 5)))]) hx hb hr hlocks (pSb hP [[true, true, true, true, true, true, true, true, true, true, true]] rfl rfl) (dSb hD [[true, true, true, true, true, true, true, true, true, true, true]] (by decide +kernel) rfl rfl) hS ⟨kX_168, kY_169, iX_170, iY_157, (zao tD r_11 5 r_151 5), rfl, ⟨by omega, by omega, by first | omega | (show T_nb tD + 1 ≤ 8; omega) | (show T_nb tD ≤ 8; omega), by first | omega | (show T_np tD + 1 ≤ 8; omega) | (show T_np tD ≤ 8; omega)⟩, h_172, (st_one hlt8 h_9 hF h_20 (opt_n h_33) (opt_y h_149 h_160) (opt_n h_173))⟩ (g_177 bX3_readOne rfl)
      · refine lv_if_eq (tgt := 69) hx hb dX3_readOne_56 (by decide +kernel) (fun _ => ?_) (fun h9 => absurd (by decide +kernel) h9)
        refine lv_iconst (v := 5) hx hb (g_8 bX3_readOne rfl) (by decide +kernel) ?_
        refine lv_istore_n (lv' := [(3, .int 5), (2, .int 5), (1, .int r_11), (0, .ref qa)]) hx hb (g_62 bX3_readOne rfl) rfl hl (by decide +kernel) rfl (fun ls => ?_)
        clear hl
        intro hl
        refine lv_aload_n hx hb (g_42 bX3_readOne rfl) rfl (lv_at hl 3 rfl) ?_
        obtain ⟨qs_195, qv_197, hs_196, hf_198⟩ := hX (RX3, 105, "tells", [116, 101, 108, 108, 115]) (List.mem_of_getElem? (i := 6) rfl)
        refine va_ldcS hx hb hown hs_196 (g_18 (v := 105) bX3_readOne rfl) ?_
        refine cVXi (As := [.ref qs_195]) (rest := []) (b := qa) (q := (RX3, TX3, 7)) ⟨hx, hb, hml, hown, hts⟩ (x_X3_passes l G cy (H).size qa qab kZ kX_144 kY_145 iX_146 iY_17 qd fB qs_195 ([116, 101, 108, 108, 115]) qv_197 hZ (by omega) h_148 (by decide +kernel) as_tells) L_X3_86 hN hP hD hS hA [9, 10] [true, true, true, true, true, true, true, true, true, false, false] rfl (by decide +kernel) rfl 9 2 rfl rfl SF_ok hf_198 rfl ⟨Nat.le_of_ble_eq_true rfl, Nat.le_of_ble_eq_true rfl⟩ hl.1 (Nat.le_of_ble_eq_true rfl) (g_182 (v := 86) bX3_readOne rfl) ⟨Nat.le_of_ble_eq_true rfl, Nat.le_of_ble_eq_true rfl⟩ (fun r_199 u_201 H locs h_200 => ?_)
        clear hP hD hS
        intro hP hD hS
        obtain ⟨kX_202, kY_203, iX_204, hu9, h_205, h_206, h_200⟩ := h_200
        have hPD := pd_eq [_, _, _, _, _, _, _, _, _, zzO qa 2 [.ref qab, .int (nI kZ), .int (nI kX_202), .int (nI kY_203), .int iX_204, .int iY_17, .ref qd], _] hP hD hu9 rfl
        clear hP hD hu9
        obtain ⟨hP, hD⟩ := hPD
        rcases h_200 with ⟨rfl, h_207⟩ | ⟨rfl, h_207⟩
        · refine lv_if_eq (tgt := 90) hx hb dX3_readOne_77 (by decide +kernel) (fun h9 => absurd h9 (by decide +kernel)) (fun _ => ?_)
          refine lv_aload_n hx hb (g_42 bX3_readOne rfl) rfl (lv_at hl 3 rfl) ?_
          refine lv_iconst (v := 0) hx hb (g_3 bX3_readOne rfl) (by decide +kernel) ?_
          refine lv_bipush (v := 10) hx hb dX3_readOne_82 (by decide +kernel) ?_
          refine cVi (As := [.int 0, .int 10]) (rest := []) (b := qa) (q := (RX3, TX3, 7)) ⟨hx, hb, hml, hown, hts⟩ (x_X3_takeNumber l G cy (H).size qa qab kZ kX_202 kY_203 iX_204 iY_17 qd fB 0 10 hZ (by omega) h_206 (by decide +kernel)) L_X3_80 hN hP hD hS hA [9, 10] [true, true, true, true, true, true, true, true, true, false, false] rfl (by decide +kernel) rfl 9 2 rfl rfl rfl ⟨Nat.le_of_ble_eq_true rfl, Nat.le_of_ble_eq_true rfl⟩ hl.1 (Nat.le_of_ble_eq_true rfl) (g_182 (v := 80) bX3_readOne rfl) ⟨Nat.le_of_ble_eq_true rfl, Nat.le_of_ble_eq_true rfl⟩ (fun r_209 u_211 H locs h_210 => ?_)
          clear hP hD hS
          intro hP hD hS
          obtain ⟨kX_212, kY_213, iX_214, iY_215, hu9, h_216, h_217, h_218, h_210⟩ := h_210
          have hPD := pd_eq [_, _, _, _, _, _, _, _, _, zzO qa 2 [.ref qab, .int (nI kZ), .int (nI kX_212), .int (nI kY_213), .int iX_214, .int iY_215, .ref qd], _] hP hD hu9 rfl
          clear hP hD hu9
          obtain ⟨hP, hD⟩ := hPD
          refine lv_goto (tgt := 91) hx hb dX3_readOne_87 (by decide +kernel) ?_
          refine lv_istore (lv' := [(4, .int r_209), (3, .int 5), (2, .int 5), (1, .int r_11), (0, .ref qa)]) hx hb (g_54 (v := 4) bX3_readOne rfl) hl (by decide +kernel) rfl (fun ls => ?_)
          clear hl
          intro hl
          refine lv_aload_n hx hb (g_42 bX3_readOne rfl) rfl (lv_at hl 4 rfl) ?_
          refine va_get (D := G) (ci := 2) (v := .int iY_215) (C := RX3) (T := TX3) (N := 7) hx hb hts iX_X3 hown hK hP 9 rfl rfl 5 (by decide +kernel) (hts _ m_t154) (fun _ h9 => h9) rfl (g_180 (v := 30) bX3_readOne rfl) ?_
          refine lv_iconst (v := (-1)) hx hb (g_2 bX3_readOne rfl) (by decide +kernel) ?_
          refine lv_icmp_ne (tgt := 114) hx hb dX3_readOne_98 (by decide +kernel) (fun c_219 => ?_) (fun c_219 => ?_)
          · exact endV (u := [zzO qa 2 [.ref qab, .int (nI kZ), .int (nI kX_212), .int (nI kY_213), .int iX_214, .int iY_215, .ref qd], zzB cy qab 250 fB, zzO qd 3 [.int (nI (T_nb tD)), .int (nI (T_np tD)), .int (wb (T_wh tD)), .int (wb (T_gn tD)), .int (T_sd tD), .ref qdw, .ref qdn, .ref qdg, .ref qda, .ref qdr, .ref qdm, .ref qdt, .ref qds], zzI cy qdw 8 (T_wo tD), zzI cy qdn 8 (T_ne tD), zzI cy qdg 8 (T_go tD), zzI cy qda 8 (T_ag tD), zzI cy qdr 8 (T_re tD), zzI cy qdm 8 (T_me tD), zzI cy qdt 8 (T_te tD), zzI cy qds 64 (shF (T_kn tD))]) hx hb hr hlocks (pSb hP [[false, false, false, false, false, false, false, false, false, true, true], [true, true, true, true, true, true, true, true, true]] rfl rfl) (dSb hD [[false, false, false, false, false, false, false, false, false, true, true], [true, true, true, true, true, true, true, true, true]] (by decide +kernel) rfl rfl) hS ⟨kX_212, kY_213, iX_214, iY_215, tD, rfl, ⟨by omega, by omega, by first | omega | (show T_nb tD + 1 ≤ 8; omega) | (show T_nb tD ≤ 8; omega), by first | omega | (show T_np tD + 1 ≤ 8; omega) | (show T_np tD ≤ 8; omega)⟩, h_217, (ch_swap _ (st_one hlt8 h_9 hF h_20 (opt_n h_33) (opt_n h_149) (opt_y h_207 h_218)) c_219)⟩ (g_177 bX3_readOne rfl)
          · refine lv_aload_n hx hb (g_42 bX3_readOne rfl) rfl (lv_at hl 4 rfl) ?_
            refine va_get (D := G) (ci := 2) (v := .ref qd) (C := RX3) (T := TX3) (N := 7) hx hb hts iX_X3 hown hK hP 9 rfl rfl 6 (by decide +kernel) (hts _ m_t156) (fun _ h9 => h9) rfl (g_180 (v := 18) bX3_readOne rfl) ?_
            refine lv_iload_n hx hb (g_27 bX3_readOne rfl) rfl (lv_at hl 3 rfl) ?_
            refine lv_iload_n hx hb (g_28 bX3_readOne rfl) rfl (lv_at hl 2 rfl) ?_
            refine lv_iload_n hx hb (g_29 bX3_readOne rfl) rfl (lv_at hl 1 rfl) ?_
            refine lv_iload hx hb (g_21 (v := 4) bX3_readOne rfl) (lv_at hl 0 rfl) ?_
            refine cVi (As := [.int r_11, .int 5, .int 5, .int r_209]) (rest := []) (b := qd) (q := (RX4, TX4, 13)) ⟨hx, hb, hml, hown, hts⟩ (c_X4_addOne l G cy (H).size qd tD qdw qdn qdg qda qdr qdm qdt qds r_11 5 5 r_209 (by omega)) L_X3_107 hN hP hD hS hA (trueIx 0 [true, true, true, true, true, true, true, true, true]) [false, false, false, false, false, false, false, false, false, true, true] (sel_eq rfl rfl) (by decide +kernel) rfl 0 3 rfl rfl rfl ⟨Nat.le_of_ble_eq_true rfl, Nat.le_of_ble_eq_true rfl⟩ hl.1 (Nat.le_of_ble_eq_true rfl) (g_182 (v := 107) bX3_readOne rfl) ⟨Nat.le_of_ble_eq_true rfl, Nat.le_of_ble_eq_true rfl⟩ (fun r_220 u_222 H locs h_221 => ?_)
            clear hP hD hS
            intro hP hD hS
            obtain ⟨hu9, h_221⟩ := h_221
            have hPD := pd_eq [_, _, zzO qd 3 [.int (nI (T_nb (zao tD r_11 5 5 r_209))), .int (nI (T_np (zao tD r_11 5 5 r_209))), .int (wb (T_wh (zao tD r_11 5 5 r_209))), .int (wb (T_gn (zao tD r_11 5 5 r_209))), .int (T_sd (zao tD r_11 5 5 r_209)), .ref qdw, .ref qdn, .ref qdg, .ref qda, .ref qdr, .ref qdm, .ref qdt, .ref qds], zzI cy qdw 8 (T_wo (zao tD r_11 5 5 r_209)), zzI cy qdn 8 (T_ne (zao tD r_11 5 5 r_209)), zzI cy qdg 8 (T_go (zao tD r_11 5 5 r_209)), zzI cy qda 8 (T_ag (zao tD r_11 5 5 r_209)), zzI cy qdr 8 (T_re (zao tD r_11 5 5 r_209)), zzI cy qdm 8 (T_me (zao tD r_11 5 5 r_209)), zzI cy qdt 8 (T_te (zao tD r_11 5 5 r_209)), zzI cy qds 64 (shF (T_kn (zao tD r_11 5 5 r_209)))] hP hD hu9 rfl
            clear hP hD hu9
            obtain ⟨hP, hD⟩ := hPD
            subst h_221
            refine lv_pop hx hb (g_87 bX3_readOne rfl) rfl ?_
            exact endV (u := [zzO qa 2 [.ref qab, .int (nI kZ), .int (nI kX_212), .int (nI kY_213), .int iX_214, .int iY_215, .ref qd], zzB cy qab 250 fB, zzO qd 3 [.int (nI (T_nb (zao tD r_11 5 5 r_209))), .int (nI (T_np (zao tD r_11 5 5 r_209))), .int (wb (T_wh (zao tD r_11 5 5 r_209))), .int (wb (T_gn (zao tD r_11 5 5 r_209))), .int (T_sd (zao tD r_11 5 5 r_209)), .ref qdw, .ref qdn, .ref qdg, .ref qda, .ref qdr, .ref qdm, .ref qdt, .ref qds], zzI cy qdw 8 (T_wo (zao tD r_11 5 5 r_209)), zzI cy qdn 8 (T_ne (zao tD r_11 5 5 r_209)), zzI cy qdg 8 (T_go (zao tD r_11 5 5 r_209)), zzI cy qda 8 (T_ag (zao tD r_11 5 5 r_209)), zzI cy qdr 8 (T_re (zao tD r_11 5 5 r_209)), zzI cy qdm 8 (T_me (zao tD r_11 5 5 r_209)), zzI cy qdt 8 (T_te (zao tD r_11 5 5 r_209)), zzI cy qds 64 (shF (T_kn (zao tD r_11 5 5 r_209)))]) hx hb hr hlocks (pSb hP [[true, true, true, true, true, true, true, true, true, true, true]] rfl rfl) (dSb hD [[true, true, true, true, true, true, true, true, true, true, true]] (by decide +kernel) rfl rfl) hS ⟨kX_212, kY_213, iX_214, iY_215, (zao tD r_11 5 5 r_209), rfl, ⟨by omega, by omega, by first | omega | (show T_nb tD + 1 ≤ 8; omega) | (show T_nb tD ≤ 8; omega), by first | omega | (show T_np tD + 1 ≤ 8; omega) | (show T_np tD ≤ 8; omega)⟩, h_217, (st_one hlt8 h_9 hF h_20 (opt_n h_33) (opt_n h_149) (opt_y h_207 h_218))⟩ (g_177 bX3_readOne rfl)
        · refine lv_if_eq (tgt := 90) hx hb dX3_readOne_77 (by decide +kernel) (fun _ => ?_) (fun h9 => absurd (by decide +kernel) h9)
          refine lv_iconst (v := 5) hx hb (g_8 bX3_readOne rfl) (by decide +kernel) ?_
          refine lv_istore (lv' := [(4, .int 5), (3, .int 5), (2, .int 5), (1, .int r_11), (0, .ref qa)]) hx hb (g_54 (v := 4) bX3_readOne rfl) hl (by decide +kernel) rfl (fun ls => ?_)
          clear hl
          intro hl
          refine lv_aload_n hx hb (g_42 bX3_readOne rfl) rfl (lv_at hl 4 rfl) ?_
          refine va_get (D := G) (ci := 2) (v := .int iY_17) (C := RX3) (T := TX3) (N := 7) hx hb hts iX_X3 hown hK hP 9 rfl rfl 5 (by decide +kernel) (hts _ m_t154) (fun _ h9 => h9) rfl (g_180 (v := 30) bX3_readOne rfl) ?_
          refine lv_iconst (v := (-1)) hx hb (g_2 bX3_readOne rfl) (by decide +kernel) ?_
          refine lv_icmp_ne (tgt := 114) hx hb dX3_readOne_98 (by decide +kernel) (fun c_224 => ?_) (fun c_224 => ?_)
          · exact endV (u := [zzO qa 2 [.ref qab, .int (nI kZ), .int (nI kX_202), .int (nI kY_203), .int iX_204, .int iY_17, .ref qd], zzB cy qab 250 fB, zzO qd 3 [.int (nI (T_nb tD)), .int (nI (T_np tD)), .int (wb (T_wh tD)), .int (wb (T_gn tD)), .int (T_sd tD), .ref qdw, .ref qdn, .ref qdg, .ref qda, .ref qdr, .ref qdm, .ref qdt, .ref qds], zzI cy qdw 8 (T_wo tD), zzI cy qdn 8 (T_ne tD), zzI cy qdg 8 (T_go tD), zzI cy qda 8 (T_ag tD), zzI cy qdr 8 (T_re tD), zzI cy qdm 8 (T_me tD), zzI cy qdt 8 (T_te tD), zzI cy qds 64 (shF (T_kn tD))]) hx hb hr hlocks (pSb hP [[false, false, false, false, false, false, false, false, false, true, true], [true, true, true, true, true, true, true, true, true]] rfl rfl) (dSb hD [[false, false, false, false, false, false, false, false, false, true, true], [true, true, true, true, true, true, true, true, true]] (by decide +kernel) rfl rfl) hS ⟨kX_202, kY_203, iX_204, iY_17, tD, rfl, ⟨by omega, by omega, by first | omega | (show T_nb tD + 1 ≤ 8; omega) | (show T_nb tD ≤ 8; omega), by first | omega | (show T_np tD + 1 ≤ 8; omega) | (show T_np tD ≤ 8; omega)⟩, h_206, (ch_swap _ (st_one hlt8 h_9 hF h_20 (opt_n h_33) (opt_n h_149) (opt_n h_207)) c_224)⟩ (g_177 bX3_readOne rfl)
          · refine lv_aload_n hx hb (g_42 bX3_readOne rfl) rfl (lv_at hl 4 rfl) ?_
            refine va_get (D := G) (ci := 2) (v := .ref qd) (C := RX3) (T := TX3) (N := 7) hx hb hts iX_X3 hown hK hP 9 rfl rfl 6 (by decide +kernel) (hts _ m_t156) (fun _ h9 => h9) rfl (g_180 (v := 18) bX3_readOne rfl) ?_
            refine lv_iload_n hx hb (g_27 bX3_readOne rfl) rfl (lv_at hl 3 rfl) ?_
            refine lv_iload_n hx hb (g_28 bX3_readOne rfl) rfl (lv_at hl 2 rfl) ?_
            refine lv_iload_n hx hb (g_29 bX3_readOne rfl) rfl (lv_at hl 1 rfl) ?_
            refine lv_iload hx hb (g_21 (v := 4) bX3_readOne rfl) (lv_at hl 0 rfl) ?_
            refine cVi (As := [.int r_11, .int 5, .int 5, .int 5]) (rest := []) (b := qd) (q := (RX4, TX4, 13)) ⟨hx, hb, hml, hown, hts⟩ (c_X4_addOne l G cy (H).size qd tD qdw qdn qdg qda qdr qdm qdt qds r_11 5 5 5 (by omega)) L_X3_107 hN hP hD hS hA (trueIx 0 [true, true, true, true, true, true, true, true, true]) [false, false, false, false, false, false, false, false, false, true, true] (sel_eq rfl rfl) (by decide +kernel) rfl 0 3 rfl rfl rfl ⟨Nat.le_of_ble_eq_true rfl, Nat.le_of_ble_eq_true rfl⟩ hl.1 (Nat.le_of_ble_eq_true rfl) (g_182 (v := 107) bX3_readOne rfl) ⟨Nat.le_of_ble_eq_true rfl, Nat.le_of_ble_eq_true rfl⟩ (fun r_225 u_227 H locs h_226 => ?_)
            clear hP hD hS
            intro hP hD hS
            obtain ⟨hu9, h_226⟩ := h_226
            have hPD := pd_eq [_, _, zzO qd 3 [.int (nI (T_nb (zao tD r_11 5 5 5))), .int (nI (T_np (zao tD r_11 5 5 5))), .int (wb (T_wh (zao tD r_11 5 5 5))), .int (wb (T_gn (zao tD r_11 5 5 5))), .int (T_sd (zao tD r_11 5 5 5)), .ref qdw, .ref qdn, .ref qdg, .ref qda, .ref qdr, .ref qdm, .ref qdt, .ref qds], zzI cy qdw 8 (T_wo (zao tD r_11 5 5 5)), zzI cy qdn 8 (T_ne (zao tD r_11 5 5 5)), zzI cy qdg 8 (T_go (zao tD r_11 5 5 5)), zzI cy qda 8 (T_ag (zao tD r_11 5 5 5)), zzI cy qdr 8 (T_re (zao tD r_11 5 5 5)), zzI cy qdm 8 (T_me (zao tD r_11 5 5 5)), zzI cy qdt 8 (T_te (zao tD r_11 5 5 5)), zzI cy qds 64 (shF (T_kn (zao tD r_11 5 5 5)))] hP hD hu9 rfl
            clear hP hD hu9
            obtain ⟨hP, hD⟩ := hPD
            subst h_226
            refine lv_pop hx hb (g_87 bX3_readOne rfl) rfl ?_
            exact endV (u := [zzO qa 2 [.ref qab, .int (nI kZ), .int (nI kX_202), .int (nI kY_203), .int iX_204, .int iY_17, .ref qd], zzB cy qab 250 fB, zzO qd 3 [.int (nI (T_nb (zao tD r_11 5 5 5))), .int (nI (T_np (zao tD r_11 5 5 5))), .int (wb (T_wh (zao tD r_11 5 5 5))), .int (wb (T_gn (zao tD r_11 5 5 5))), .int (T_sd (zao tD r_11 5 5 5)), .ref qdw, .ref qdn, .ref qdg, .ref qda, .ref qdr, .ref qdm, .ref qdt, .ref qds], zzI cy qdw 8 (T_wo (zao tD r_11 5 5 5)), zzI cy qdn 8 (T_ne (zao tD r_11 5 5 5)), zzI cy qdg 8 (T_go (zao tD r_11 5 5 5)), zzI cy qda 8 (T_ag (zao tD r_11 5 5 5)), zzI cy qdr 8 (T_re (zao tD r_11 5 5 5)), zzI cy qdm 8 (T_me (zao tD r_11 5 5 5)), zzI cy qdt 8 (T_te (zao tD r_11 5 5 5)), zzI cy qds 64 (shF (T_kn (zao tD r_11 5 5 5)))]) hx hb hr hlocks (pSb hP [[true, true, true, true, true, true, true, true, true, true, true]] rfl rfl) (dSb hD [[true, true, true, true, true, true, true, true, true, true, true]] (by decide +kernel) rfl rfl) hS ⟨kX_202, kY_203, iX_204, iY_17, (zao tD r_11 5 5 5), rfl, ⟨by omega, by omega, by first | omega | (show T_nb tD + 1 ≤ 8; omega) | (show T_nb tD ≤ 8; omega), by first | omega | (show T_np tD + 1 ≤ 8; omega) | (show T_np tD ≤ 8; omega)⟩, h_206, (st_one hlt8 h_9 hF h_20 (opt_n h_33) (opt_n h_149) (opt_n h_207))⟩ (g_177 bX3_readOne rfl)
  · refine lv_aload_n hx hb (g_42 bX3_readOne rfl) rfl (lv_at hl 0 rfl) ?_
    refine cVv (As := []) (rest := []) (b := qa) (q := (RX3, TX3, 7)) ⟨hx, hb, hml, hown, hts⟩ (x_X3_fail l G cy (s.heap).size qa qab kZ kS kE iT iF qd hZ hE) L_X3_45 hN hP hD hS hA [0] [false, true, true, true, true, true, true, true, true, true, true] rfl (by decide +kernel) rfl 0 2 rfl rfl rfl ⟨Nat.le_of_ble_eq_true rfl, Nat.le_of_ble_eq_true rfl⟩ hl.1 (Nat.le_of_ble_eq_true rfl) (g_182 (v := 45) bX3_readOne rfl) ⟨Nat.le_of_ble_eq_true rfl, Nat.le_of_ble_eq_true rfl⟩ (fun u_230 H locs h_229 => ?_)
    clear hP hD hS
    intro hP hD hS
    obtain ⟨iX_231, hu9, h_232, h_233⟩ := h_229
    have hPD := pd_eq [_, _, _, _, _, _, _, _, _, _, zzO qa 2 [.ref qab, .int (nI kZ), .int (nI kS), .int (nI kE), .int iT, .int iX_231, .ref qd]] hP hD hu9 rfl
    clear hP hD hu9
    obtain ⟨hP, hD⟩ := hPD
    exact endV (u := [zzO qa 2 [.ref qab, .int (nI kZ), .int (nI kS), .int (nI kE), .int iT, .int iX_231, .ref qd], zzB cy qab 250 fB, zzO qd 3 [.int (nI (T_nb tD)), .int (nI (T_np tD)), .int (wb (T_wh tD)), .int (wb (T_gn tD)), .int (T_sd tD), .ref qdw, .ref qdn, .ref qdg, .ref qda, .ref qdr, .ref qdm, .ref qdt, .ref qds], zzI cy qdw 8 (T_wo tD), zzI cy qdn 8 (T_ne tD), zzI cy qdg 8 (T_go tD), zzI cy qda 8 (T_ag tD), zzI cy qdr 8 (T_re tD), zzI cy qdm 8 (T_me tD), zzI cy qdt 8 (T_te tD), zzI cy qds 64 (shF (T_kn tD))]) hx hb hr hlocks (pSb hP [[false, false, false, false, false, false, false, false, false, false, true], [true, true, true, true, true, true, true, true, true, true]] rfl rfl) (dSb hD [[false, false, false, false, false, false, false, false, false, false, true], [true, true, true, true, true, true, true, true, true, true]] (by decide +kernel) rfl rfl) hS ⟨kS, kE, iT, iX_231, tD, rfl, ⟨by omega, by omega, by first | omega | (show T_nb tD + 1 ≤ 8; omega) | (show T_nb tD ≤ 8; omega), by first | omega | (show T_np tD + 1 ≤ 8; omega) | (show T_np tD ≤ 8; omega)⟩, hLx, (st_full2 (nlt_of8 (by omega) c_1) (by omega) (by rw [h_233, fal_1 hF]))⟩ (g_177 bX3_readOne rfl)
set_option maxHeartbeats 4000000 in
set_option maxRecDepth 100000 in
theorem x_X3_readKnows (l : Launch) (G : va_G) (cy : Nat → ClassId) (sz : Nat) (qa : Nat) (qab : Nat) (kZ : Nat) (kS : Nat) (kE : Nat) (iT : Int32) (iF : Int32) (qd : Nat) (fB : Nat → Int32) (tD : TA) (qdw : Nat) (qdn : Nat) (qdg : Nat) (qda : Nat) (qdr : Nat) (qdm : Nat) (qdt : Nat) (qds : Nat)  (hZ : kZ ≤ 250) (hE : kS ≤ kE ∧ kE ≤ kZ) (hLx : Lx fB kZ kS iT kE) (hF : iF = -1) (hDb : T_nb tD ≤ 8) (hDp : T_np tD ≤ 8) : MW l yX3_readKnows cX3_readKnows 4 none 8 0 0 G cy [zzO qa 2 [.ref qab, .int (nI kZ), .int (nI kS), .int (nI kE), .int iT, .int iF, .ref qd], zzB cy qab 250 fB, zzO qd 3 [.int (nI (T_nb tD)), .int (nI (T_np tD)), .int (wb (T_wh tD)), .int (wb (T_gn tD)), .int (T_sd tD), .ref qdw, .ref qdn, .ref qdg, .ref qda, .ref qdr, .ref qdm, .ref qdt, .ref qds], zzI cy qdw 8 (T_wo tD), zzI cy qdn 8 (T_ne tD), zzI cy qdg 8 (T_go tD), zzI cy qda 8 (T_ag tD), zzI cy qdr 8 (T_re tD), zzI cy qdm 8 (T_me tD), zzI cy qdt 8 (T_te tD), zzI cy qds 64 (shF (T_kn tD))] sz [.ref qa] (Wv G (fun u => ∃ (kX : Nat) (kY : Nat) (iX : Int32) (iY : Int32) (tX : TA), u = [zzO qa 2 [.ref qab, .int (nI kZ), .int (nI kX), .int (nI kY), .int iX, .int iY, .ref qd], zzB cy qab 250 fB, zzO qd 3 [.int (nI (T_nb tX)), .int (nI (T_np tX)), .int (wb (T_wh tX)), .int (wb (T_gn tX)), .int (T_sd tX), .ref qdw, .ref qdn, .ref qdg, .ref qda, .ref qdr, .ref qdm, .ref qdt, .ref qds], zzI cy qdw 8 (T_wo tX), zzI cy qdn 8 (T_ne tX), zzI cy qdg 8 (T_go tX), zzI cy qda 8 (T_ag tX), zzI cy qdr 8 (T_re tX), zzI cy qdm 8 (T_me tX), zzI cy qdt 8 (T_te tX), zzI cy qds 64 (shF (T_kn tX))] ∧ (kX ≤ kY ∧ kY ≤ kZ ∧ T_nb tX ≤ 8 ∧ T_np tX ≤ 8) ∧ Lx fB kZ kX iX kY ∧ CH iY (pKnow (nbf fB kZ) kZ (kS, iT, kE) tD) ((kX, iX, kY), tX))) := by
  refine enW RX3 (by decide +kernel) rfl (Nat.le_of_ble_eq_true rfl) (fun p e s m below meth c ls A hx hb hml hown hts hr hlocks hP hN hl hin hD hA hS => ?_)
  have hin : meth.name = _ := hin
  have hK := hN.1
  replace hl : lv_has ls 4 [(0, .ref qa)] := hl
  refine lv_aload_n hx hb (g_42 bX3_readKnows rfl) rfl (lv_at hl 0 rfl) ?_
  refine cVv (As := []) (rest := []) (b := qa) (q := (RX3, TX3, 7)) ⟨hx, hb, hml, hown, hts⟩ (x_X3_step l G cy (s.heap).size qa qab kZ (nI kS) kE iT iF qd fB hZ (by omega)) L_X3_36 hN hP hD hS hA [0, 1] [false, false, true, true, true, true, true, true, true, true, true] rfl (by decide +kernel) rfl 0 2 rfl rfl rfl ⟨Nat.le_of_ble_eq_true rfl, Nat.le_of_ble_eq_true rfl⟩ hl.1 (Nat.le_of_ble_eq_true rfl) (g_182 (v := 36) bX3_readKnows rfl) ⟨Nat.le_of_ble_eq_true rfl, Nat.le_of_ble_eq_true rfl⟩ (fun u_3 H locs h_2 => ?_)
  clear hP hD hS
  intro hP hD hS
  obtain ⟨kX_4, kY_5, iX_6, hu9, h_7, h_8, h_9⟩ := h_2
  have hPD := pd_eq [_, _, _, _, _, _, _, _, _, zzO qa 2 [.ref qab, .int (nI kZ), .int (nI kX_4), .int (nI kY_5), .int iX_6, .int iF, .ref qd], _] hP hD hu9 rfl
  clear hP hD hu9
  obtain ⟨hP, hD⟩ := hPD
  refine lv_aload_n hx hb (g_42 bX3_readKnows rfl) rfl (lv_at hl 0 rfl) ?_
  refine lv_iconst (v := 0) hx hb (g_3 bX3_readKnows rfl) (by decide +kernel) ?_
  refine lv_aload_n hx hb (g_42 bX3_readKnows rfl) rfl (lv_at hl 0 rfl) ?_
  refine va_get (D := G) (ci := 2) (v := .ref qd) (C := RX3) (T := TX3) (N := 7) hx hb hts iX_X3 hown hK hP 9 rfl rfl 6 (by decide +kernel) (hts _ m_t156) (fun _ h9 => h9) rfl (g_180 (v := 18) bX3_readKnows rfl) ?_
  refine va_getN (D := G) (ci := 3) (v := .int (nI (T_np tD))) (C := RX4) (T := TX4) (N := 13) hx hb hts iX_X4 hown hK hP 0 rfl rfl 1 (by decide +kernel) (va_Nw.use rfl (hN.2.1 (RX3, 98, "EachBookOnce$Town", "people", "I") (List.mem_of_getElem? (i := 6) rfl))) (fun _ h9 => h9) rfl (g_180 (v := 98) bX3_readKnows rfl) ?_
  refine lv_iconst (v := 1) hx hb (g_4 bX3_readKnows rfl) (by decide +kernel) ?_
  refine lv_isub hx hb (g_100 bX3_readKnows rfl) ?_
  refine cVi (As := [.int 0, .int ((nI (T_np tD)) - 1)]) (rest := []) (b := qa) (q := (RX3, TX3, 7)) ⟨hx, hb, hml, hown, hts⟩ (x_X3_takeNumber l G cy (H).size qa qab kZ kX_4 kY_5 iX_6 iF qd fB 0 ((nI (T_np tD)) - 1) hZ (by omega) h_9 (by decide +kernel)) L_X3_80 hN hP hD hS hA [9, 10] [true, true, true, true, true, true, true, true, true, false, false] rfl (by decide +kernel) rfl 9 2 rfl rfl rfl ⟨Nat.le_of_ble_eq_true rfl, Nat.le_of_ble_eq_true rfl⟩ hl.1 (Nat.le_of_ble_eq_true rfl) (g_182 (v := 80) bX3_readKnows rfl) ⟨Nat.le_of_ble_eq_true rfl, Nat.le_of_ble_eq_true rfl⟩ (fun r_10 u_12 H locs h_11 => ?_)
  clear hP hD hS
  intro hP hD hS
  obtain ⟨kX_13, kY_14, iX_15, iY_16, hu9, h_17, h_18, h_19, h_11⟩ := h_11
  have hPD := pd_eq [_, _, _, _, _, _, _, _, _, zzO qa 2 [.ref qab, .int (nI kZ), .int (nI kX_13), .int (nI kY_14), .int iX_15, .int iY_16, .ref qd], _] hP hD hu9 rfl
  clear hP hD hu9
  obtain ⟨hP, hD⟩ := hPD
  refine lv_istore_n (lv' := [(1, .int r_10), (0, .ref qa)]) hx hb (g_60 bX3_readKnows rfl) rfl hl (by decide +kernel) rfl (fun ls => ?_)
  clear hl
  intro hl
  refine lv_aload_n hx hb (g_42 bX3_readKnows rfl) rfl (lv_at hl 1 rfl) ?_
  refine lv_iconst (v := 0) hx hb (g_3 bX3_readKnows rfl) (by decide +kernel) ?_
  refine lv_aload_n hx hb (g_42 bX3_readKnows rfl) rfl (lv_at hl 1 rfl) ?_
  refine va_get (D := G) (ci := 2) (v := .ref qd) (C := RX3) (T := TX3) (N := 7) hx hb hts iX_X3 hown hK hP 9 rfl rfl 6 (by decide +kernel) (hts _ m_t156) (fun _ h9 => h9) rfl (g_180 (v := 18) bX3_readKnows rfl) ?_
  refine va_getN (D := G) (ci := 3) (v := .int (nI (T_nb tD))) (C := RX4) (T := TX4) (N := 13) hx hb hts iX_X4 hown hK hP 0 rfl rfl 0 (by decide +kernel) (va_Nw.use rfl (hN.2.1 (RX3, 77, "EachBookOnce$Town", "books", "I") (List.mem_of_getElem? (i := 0) rfl))) (fun _ h9 => h9) rfl (g_180 (v := 77) bX3_readKnows rfl) ?_
  refine lv_iconst (v := 1) hx hb (g_4 bX3_readKnows rfl) (by decide +kernel) ?_
  refine lv_isub hx hb (g_100 bX3_readKnows rfl) ?_
  refine cVi (As := [.int 0, .int ((nI (T_nb tD)) - 1)]) (rest := []) (b := qa) (q := (RX3, TX3, 7)) ⟨hx, hb, hml, hown, hts⟩ (x_X3_takeNumber l G cy (H).size qa qab kZ kX_13 kY_14 iX_15 iY_16 qd fB 0 ((nI (T_nb tD)) - 1) hZ (by omega) h_18 (by decide +kernel)) L_X3_80 hN hP hD hS hA [9, 10] [true, true, true, true, true, true, true, true, true, false, false] rfl (by decide +kernel) rfl 9 2 rfl rfl rfl ⟨Nat.le_of_ble_eq_true rfl, Nat.le_of_ble_eq_true rfl⟩ hl.1 (Nat.le_of_ble_eq_true rfl) (g_182 (v := 80) bX3_readKnows rfl) ⟨Nat.le_of_ble_eq_true rfl, Nat.le_of_ble_eq_true rfl⟩ (fun r_20 u_22 H locs h_21 => ?_)
  clear hP hD hS
  intro hP hD hS
  obtain ⟨kX_23, kY_24, iX_25, iY_26, hu9, h_27, h_28, h_29, h_21⟩ := h_21
  have hPD := pd_eq [_, _, _, _, _, _, _, _, _, zzO qa 2 [.ref qab, .int (nI kZ), .int (nI kX_23), .int (nI kY_24), .int iX_25, .int iY_26, .ref qd], _] hP hD hu9 rfl
  clear hP hD hu9
  obtain ⟨hP, hD⟩ := hPD
  refine lv_istore_n (lv' := [(2, .int r_20), (1, .int r_10), (0, .ref qa)]) hx hb (g_61 bX3_readKnows rfl) rfl hl (by decide +kernel) rfl (fun ls => ?_)
  clear hl
  intro hl
  refine lv_aload_n hx hb (g_42 bX3_readKnows rfl) rfl (lv_at hl 2 rfl) ?_
  refine lv_iconst (v := 0) hx hb (g_3 bX3_readKnows rfl) (by decide +kernel) ?_
  refine lv_sipush (v := 1000) hx hb dX3_readKnows_36 (by decide +kernel) ?_
  refine cVi (As := [.int 0, .int 1000]) (rest := []) (b := qa) (q := (RX3, TX3, 7)) ⟨hx, hb, hml, hown, hts⟩ (x_X3_takeNumber l G cy (H).size qa qab kZ kX_23 kY_24 iX_25 iY_26 qd fB 0 1000 hZ (by omega) h_28 (by decide +kernel)) L_X3_80 hN hP hD hS hA [9, 10] [true, true, true, true, true, true, true, true, true, false, false] rfl (by decide +kernel) rfl 9 2 rfl rfl rfl ⟨Nat.le_of_ble_eq_true rfl, Nat.le_of_ble_eq_true rfl⟩ hl.1 (Nat.le_of_ble_eq_true rfl) (g_182 (v := 80) bX3_readKnows rfl) ⟨Nat.le_of_ble_eq_true rfl, Nat.le_of_ble_eq_true rfl⟩ (fun r_30 u_32 H locs h_31 => ?_)
  clear hP hD hS
  intro hP hD hS
  obtain ⟨kX_33, kY_34, iX_35, iY_36, hu9, h_37, h_38, h_39, h_31⟩ := h_31
  have hPD := pd_eq [_, _, _, _, _, _, _, _, _, zzO qa 2 [.ref qab, .int (nI kZ), .int (nI kX_33), .int (nI kY_34), .int iX_35, .int iY_36, .ref qd], _] hP hD hu9 rfl
  clear hP hD hu9
  obtain ⟨hP, hD⟩ := hPD
  refine lv_istore_n (lv' := [(3, .int r_30), (2, .int r_20), (1, .int r_10), (0, .ref qa)]) hx hb (g_62 bX3_readKnows rfl) rfl hl (by decide +kernel) rfl (fun ls => ?_)
  clear hl
  intro hl
  refine lv_aload_n hx hb (g_42 bX3_readKnows rfl) rfl (lv_at hl 3 rfl) ?_
  refine va_get (D := G) (ci := 2) (v := .int iY_36) (C := RX3) (T := TX3) (N := 7) hx hb hts iX_X3 hown hK hP 9 rfl rfl 5 (by decide +kernel) (hts _ m_t154) (fun _ h9 => h9) rfl (g_180 (v := 30) bX3_readKnows rfl) ?_
  refine lv_iconst (v := (-1)) hx hb (g_2 bX3_readKnows rfl) (by decide +kernel) ?_
  refine lv_icmp_ne (tgt := 61) hx hb dX3_readKnows_48 (by decide +kernel) (fun c_40 => ?_) (fun c_40 => ?_)
  · exact endV (u := [zzO qa 2 [.ref qab, .int (nI kZ), .int (nI kX_33), .int (nI kY_34), .int iX_35, .int iY_36, .ref qd], zzB cy qab 250 fB, zzO qd 3 [.int (nI (T_nb tD)), .int (nI (T_np tD)), .int (wb (T_wh tD)), .int (wb (T_gn tD)), .int (T_sd tD), .ref qdw, .ref qdn, .ref qdg, .ref qda, .ref qdr, .ref qdm, .ref qdt, .ref qds], zzI cy qdw 8 (T_wo tD), zzI cy qdn 8 (T_ne tD), zzI cy qdg 8 (T_go tD), zzI cy qda 8 (T_ag tD), zzI cy qdr 8 (T_re tD), zzI cy qdm 8 (T_me tD), zzI cy qdt 8 (T_te tD), zzI cy qds 64 (shF (T_kn tD))]) hx hb hr hlocks (pSb hP [[false, false, false, false, false, false, false, false, false, true, true], [true, true, true, true, true, true, true, true, true]] rfl rfl) (dSb hD [[false, false, false, false, false, false, false, false, false, true, true], [true, true, true, true, true, true, true, true, true]] (by decide +kernel) rfl rfl) hS ⟨kX_33, kY_34, iX_35, iY_36, tD, rfl, ⟨by omega, by omega, by first | omega | (show T_nb tD + 1 ≤ 8; omega) | (show T_nb tD ≤ 8; omega), by first | omega | (show T_np tD + 1 ≤ 8; omega) | (show T_np tD ≤ 8; omega)⟩, h_38, (ch_swap _ (st_know h_8 hF h_19 h_29 h_39) c_40)⟩ (g_177 bX3_readKnows rfl)
  · have hq_41 := h_37.2.2 c_40
    have hq_42 := h_27.2.2 hq_41.1
    have hq_43 := h_17.2.2 hq_42.1
    obtain ⟨k_44, hk_45, ek_46⟩ := tk_in (n := T_np tD) (by omega) hq_43.2.1 hq_43.2.2
    obtain ⟨k_47, hk_48, ek_49⟩ := tk_in (n := T_nb tD) (by omega) hq_42.2.1 hq_42.2.2
    rw [ek_49, ek_46] at hl
    refine lv_aload_n hx hb (g_42 bX3_readKnows rfl) rfl (lv_at hl 3 rfl) ?_
    refine va_get (D := G) (ci := 2) (v := .ref qd) (C := RX3) (T := TX3) (N := 7) hx hb hts iX_X3 hown hK hP 9 rfl rfl 6 (by decide +kernel) (hts _ m_t156) (fun _ h9 => h9) rfl (g_180 (v := 18) bX3_readKnows rfl) ?_
    refine lv_iload_n hx hb (g_27 bX3_readKnows rfl) rfl (lv_at hl 2 rfl) ?_
    refine lv_iload_n hx hb (g_28 bX3_readKnows rfl) rfl (lv_at hl 1 rfl) ?_
    refine lv_iload_n hx hb (g_29 bX3_readKnows rfl) rfl (lv_at hl 0 rfl) ?_
    refine cVv (As := [.int (nI k_44), .int (nI k_47), .int r_30]) (rest := []) (b := qd) (q := (RX4, TX4, 13)) ⟨hx, hb, hml, hown, hts⟩ (c_X4_learn l G cy (H).size qd tD qdw qdn qdg qda qdr qdm qdt qds k_44 k_47 r_30 (by omega) (by omega)) L_X3_111 hN hP hD hS hA [0, 8] [false, true, true, true, true, true, true, true, false, true, true] rfl (by decide +kernel) rfl 0 3 rfl rfl rfl ⟨Nat.le_of_ble_eq_true rfl, Nat.le_of_ble_eq_true rfl⟩ hl.1 (Nat.le_of_ble_eq_true rfl) (g_182 (v := 111) bX3_readKnows rfl) ⟨Nat.le_of_ble_eq_true rfl, Nat.le_of_ble_eq_true rfl⟩ (fun u_52 H locs h_51 => ?_)
    clear hP hD hS
    intro hP hD hS
    have hPD := pd_eq [zzI cy qdw 8 (T_wo (T_setkn tD (updM (T_kn tD) k_44 k_47 r_30))), zzI cy qdn 8 (T_ne (T_setkn tD (updM (T_kn tD) k_44 k_47 r_30))), zzI cy qdg 8 (T_go (T_setkn tD (updM (T_kn tD) k_44 k_47 r_30))), zzI cy qda 8 (T_ag (T_setkn tD (updM (T_kn tD) k_44 k_47 r_30))), zzI cy qdr 8 (T_re (T_setkn tD (updM (T_kn tD) k_44 k_47 r_30))), zzI cy qdm 8 (T_me (T_setkn tD (updM (T_kn tD) k_44 k_47 r_30))), zzI cy qdt 8 (T_te (T_setkn tD (updM (T_kn tD) k_44 k_47 r_30))), _, _, zzO qd 3 [.int (nI (T_nb (T_setkn tD (updM (T_kn tD) k_44 k_47 r_30)))), .int (nI (T_np (T_setkn tD (updM (T_kn tD) k_44 k_47 r_30)))), .int (wb (T_wh (T_setkn tD (updM (T_kn tD) k_44 k_47 r_30)))), .int (wb (T_gn (T_setkn tD (updM (T_kn tD) k_44 k_47 r_30)))), .int (T_sd (T_setkn tD (updM (T_kn tD) k_44 k_47 r_30))), .ref qdw, .ref qdn, .ref qdg, .ref qda, .ref qdr, .ref qdm, .ref qdt, .ref qds], zzI cy qds 64 (shF (T_kn (T_setkn tD (updM (T_kn tD) k_44 k_47 r_30))))] hP hD h_51 rfl
    clear hP hD h_51
    obtain ⟨hP, hD⟩ := hPD
    exact endV (u := [zzO qa 2 [.ref qab, .int (nI kZ), .int (nI kX_33), .int (nI kY_34), .int iX_35, .int iY_36, .ref qd], zzB cy qab 250 fB, zzO qd 3 [.int (nI (T_nb (T_setkn tD (updM (T_kn tD) k_44 k_47 r_30)))), .int (nI (T_np (T_setkn tD (updM (T_kn tD) k_44 k_47 r_30)))), .int (wb (T_wh (T_setkn tD (updM (T_kn tD) k_44 k_47 r_30)))), .int (wb (T_gn (T_setkn tD (updM (T_kn tD) k_44 k_47 r_30)))), .int (T_sd (T_setkn tD (updM (T_kn tD) k_44 k_47 r_30))), .ref qdw, .ref qdn, .ref qdg, .ref qda, .ref qdr, .ref qdm, .ref qdt, .ref qds], zzI cy qdw 8 (T_wo (T_setkn tD (updM (T_kn tD) k_44 k_47 r_30))), zzI cy qdn 8 (T_ne (T_setkn tD (updM (T_kn tD) k_44 k_47 r_30))), zzI cy qdg 8 (T_go (T_setkn tD (updM (T_kn tD) k_44 k_47 r_30))), zzI cy qda 8 (T_ag (T_setkn tD (updM (T_kn tD) k_44 k_47 r_30))), zzI cy qdr 8 (T_re (T_setkn tD (updM (T_kn tD) k_44 k_47 r_30))), zzI cy qdm 8 (T_me (T_setkn tD (updM (T_kn tD) k_44 k_47 r_30))), zzI cy qdt 8 (T_te (T_setkn tD (updM (T_kn tD) k_44 k_47 r_30))), zzI cy qds 64 (shF (T_kn (T_setkn tD (updM (T_kn tD) k_44 k_47 r_30))))]) hx hb hr hlocks (pSb hP [[false, false, false, false, false, false, false, true, true, true], [true, true, true, true, true, true, true, false, false, false, true]] rfl rfl) (dSb hD [[false, false, false, false, false, false, false, true, true, true], [true, true, true, true, true, true, true, false, false, false, true]] (by decide +kernel) rfl rfl) hS ⟨kX_33, kY_34, iX_35, iY_36, (T_setkn tD (updM (T_kn tD) k_44 k_47 r_30)), rfl, ⟨by omega, by omega, by first | omega | (show T_nb tD + 1 ≤ 8; omega) | (show T_nb tD ≤ 8; omega), by first | omega | (show T_np tD + 1 ≤ 8; omega) | (show T_np tD ≤ 8; omega)⟩, h_38, (by have q9 := st_know (a := kS) (t := iT) h_8 hF h_19 h_29 h_39; rw [ek_46, ek_49, knT_nI (by omega) (by omega)] at q9; exact q9)⟩ (g_177 bX3_readKnows rfl)
set_option maxHeartbeats 4000000 in
set_option maxRecDepth 100000 in
theorem x_X3_readWhite (l : Launch) (G : va_G) (cy : Nat → ClassId) (sz : Nat) (qa : Nat) (qab : Nat) (kZ : Nat) (kS : Nat) (kE : Nat) (iT : Int32) (iF : Int32) (qd : Nat) (fB : Nat → Int32) (tD : TA) (qdw : Nat) (qdn : Nat) (qdg : Nat) (qda : Nat) (qdr : Nat) (qdm : Nat) (qdt : Nat) (qds : Nat)  (hZ : kZ ≤ 250) (hE : kS ≤ kE ∧ kE ≤ kZ) (hLx : Lx fB kZ kS iT kE) (hF : iF = -1) (hDb : T_nb tD ≤ 8) (hDp : T_np tD ≤ 8) : MW l yX3_readWhite cX3_readWhite 2 none 8 0 0 G cy [zzO qa 2 [.ref qab, .int (nI kZ), .int (nI kS), .int (nI kE), .int iT, .int iF, .ref qd], zzB cy qab 250 fB, zzO qd 3 [.int (nI (T_nb tD)), .int (nI (T_np tD)), .int (wb (T_wh tD)), .int (wb (T_gn tD)), .int (T_sd tD), .ref qdw, .ref qdn, .ref qdg, .ref qda, .ref qdr, .ref qdm, .ref qdt, .ref qds], zzI cy qdw 8 (T_wo tD), zzI cy qdn 8 (T_ne tD), zzI cy qdg 8 (T_go tD), zzI cy qda 8 (T_ag tD), zzI cy qdr 8 (T_re tD), zzI cy qdm 8 (T_me tD), zzI cy qdt 8 (T_te tD), zzI cy qds 64 (shF (T_kn tD))] sz [.ref qa] (Wv G (fun u => ∃ (kX : Nat) (kY : Nat) (iX : Int32) (iY : Int32) (tX : TA), u = [zzO qa 2 [.ref qab, .int (nI kZ), .int (nI kX), .int (nI kY), .int iX, .int iY, .ref qd], zzB cy qab 250 fB, zzO qd 3 [.int (nI (T_nb tX)), .int (nI (T_np tX)), .int (wb (T_wh tX)), .int (wb (T_gn tX)), .int (T_sd tX), .ref qdw, .ref qdn, .ref qdg, .ref qda, .ref qdr, .ref qdm, .ref qdt, .ref qds], zzI cy qdw 8 (T_wo tX), zzI cy qdn 8 (T_ne tX), zzI cy qdg 8 (T_go tX), zzI cy qda 8 (T_ag tX), zzI cy qdr 8 (T_re tX), zzI cy qdm 8 (T_me tX), zzI cy qdt 8 (T_te tX), zzI cy qds 64 (shF (T_kn tX))] ∧ (kX ≤ kY ∧ kY ≤ kZ ∧ T_nb tX ≤ 8 ∧ T_np tX ≤ 8) ∧ Lx fB kZ kX iX kY ∧ CH iY (pWhite (nbf fB kZ) kZ (kS, iT, kE) tD) ((kX, iX, kY), tX))) := by
  refine enW RX3 (by decide +kernel) rfl (Nat.le_of_ble_eq_true rfl) (fun p e s m below meth c ls A hx hb hml hown hts hr hlocks hP hN hl hin hD hA hS => ?_)
  have hin : meth.name = _ := hin
  have hK := hN.1
  replace hl : lv_has ls 2 [(0, .ref qa)] := hl
  refine lv_aload_n hx hb (g_42 bX3_readWhite rfl) rfl (lv_at hl 0 rfl) ?_
  refine cVv (As := []) (rest := []) (b := qa) (q := (RX3, TX3, 7)) ⟨hx, hb, hml, hown, hts⟩ (x_X3_step l G cy (s.heap).size qa qab kZ (nI kS) kE iT iF qd fB hZ (by omega)) L_X3_36 hN hP hD hS hA [0, 1] [false, false, true, true, true, true, true, true, true, true, true] rfl (by decide +kernel) rfl 0 2 rfl rfl rfl ⟨Nat.le_of_ble_eq_true rfl, Nat.le_of_ble_eq_true rfl⟩ hl.1 (Nat.le_of_ble_eq_true rfl) (g_182 (v := 36) bX3_readWhite rfl) ⟨Nat.le_of_ble_eq_true rfl, Nat.le_of_ble_eq_true rfl⟩ (fun u_3 H locs h_2 => ?_)
  clear hP hD hS
  intro hP hD hS
  obtain ⟨kX_4, kY_5, iX_6, hu9, h_7, h_8, h_9⟩ := h_2
  have hPD := pd_eq [_, _, _, _, _, _, _, _, _, zzO qa 2 [.ref qab, .int (nI kZ), .int (nI kX_4), .int (nI kY_5), .int iX_6, .int iF, .ref qd], _] hP hD hu9 rfl
  clear hP hD hu9
  obtain ⟨hP, hD⟩ := hPD
  refine lv_aload_n hx hb (g_42 bX3_readWhite rfl) rfl (lv_at hl 0 rfl) ?_
  refine lv_iconst (v := 0) hx hb (g_3 bX3_readWhite rfl) (by decide +kernel) ?_
  refine lv_aload_n hx hb (g_42 bX3_readWhite rfl) rfl (lv_at hl 0 rfl) ?_
  refine va_get (D := G) (ci := 2) (v := .ref qd) (C := RX3) (T := TX3) (N := 7) hx hb hts iX_X3 hown hK hP 9 rfl rfl 6 (by decide +kernel) (hts _ m_t156) (fun _ h9 => h9) rfl (g_180 (v := 18) bX3_readWhite rfl) ?_
  refine va_getN (D := G) (ci := 3) (v := .int (nI (T_nb tD))) (C := RX4) (T := TX4) (N := 13) hx hb hts iX_X4 hown hK hP 0 rfl rfl 0 (by decide +kernel) (va_Nw.use rfl (hN.2.1 (RX3, 77, "EachBookOnce$Town", "books", "I") (List.mem_of_getElem? (i := 0) rfl))) (fun _ h9 => h9) rfl (g_180 (v := 77) bX3_readWhite rfl) ?_
  refine lv_iconst (v := 1) hx hb (g_4 bX3_readWhite rfl) (by decide +kernel) ?_
  refine lv_isub hx hb (g_100 bX3_readWhite rfl) ?_
  refine cVi (As := [.int 0, .int ((nI (T_nb tD)) - 1)]) (rest := []) (b := qa) (q := (RX3, TX3, 7)) ⟨hx, hb, hml, hown, hts⟩ (x_X3_takeNumber l G cy (H).size qa qab kZ kX_4 kY_5 iX_6 iF qd fB 0 ((nI (T_nb tD)) - 1) hZ (by omega) h_9 (by decide +kernel)) L_X3_80 hN hP hD hS hA [9, 10] [true, true, true, true, true, true, true, true, true, false, false] rfl (by decide +kernel) rfl 9 2 rfl rfl rfl ⟨Nat.le_of_ble_eq_true rfl, Nat.le_of_ble_eq_true rfl⟩ hl.1 (Nat.le_of_ble_eq_true rfl) (g_182 (v := 80) bX3_readWhite rfl) ⟨Nat.le_of_ble_eq_true rfl, Nat.le_of_ble_eq_true rfl⟩ (fun r_10 u_12 H locs h_11 => ?_)
  clear hP hD hS
  intro hP hD hS
  obtain ⟨kX_13, kY_14, iX_15, iY_16, hu9, h_17, h_18, h_19, h_11⟩ := h_11
  have hPD := pd_eq [_, _, _, _, _, _, _, _, _, zzO qa 2 [.ref qab, .int (nI kZ), .int (nI kX_13), .int (nI kY_14), .int iX_15, .int iY_16, .ref qd], _] hP hD hu9 rfl
  clear hP hD hu9
  obtain ⟨hP, hD⟩ := hPD
  refine lv_istore_n (lv' := [(1, .int r_10), (0, .ref qa)]) hx hb (g_60 bX3_readWhite rfl) rfl hl (by decide +kernel) rfl (fun ls => ?_)
  clear hl
  intro hl
  refine lv_aload_n hx hb (g_42 bX3_readWhite rfl) rfl (lv_at hl 1 rfl) ?_
  refine va_get (D := G) (ci := 2) (v := .int iY_16) (C := RX3) (T := TX3) (N := 7) hx hb hts iX_X3 hown hK hP 9 rfl rfl 5 (by decide +kernel) (hts _ m_t154) (fun _ h9 => h9) rfl (g_180 (v := 30) bX3_readWhite rfl) ?_
  refine lv_iconst (v := (-1)) hx hb (g_2 bX3_readWhite rfl) (by decide +kernel) ?_
  refine lv_icmp_ne (tgt := 42) hx hb dX3_readWhite_24 (by decide +kernel) (fun c_20 => ?_) (fun c_20 => ?_)
  · exact endV (u := [zzO qa 2 [.ref qab, .int (nI kZ), .int (nI kX_13), .int (nI kY_14), .int iX_15, .int iY_16, .ref qd], zzB cy qab 250 fB, zzO qd 3 [.int (nI (T_nb tD)), .int (nI (T_np tD)), .int (wb (T_wh tD)), .int (wb (T_gn tD)), .int (T_sd tD), .ref qdw, .ref qdn, .ref qdg, .ref qda, .ref qdr, .ref qdm, .ref qdt, .ref qds], zzI cy qdw 8 (T_wo tD), zzI cy qdn 8 (T_ne tD), zzI cy qdg 8 (T_go tD), zzI cy qda 8 (T_ag tD), zzI cy qdr 8 (T_re tD), zzI cy qdm 8 (T_me tD), zzI cy qdt 8 (T_te tD), zzI cy qds 64 (shF (T_kn tD))]) hx hb hr hlocks (pSb hP [[false, false, false, false, false, false, false, false, false, true, true], [true, true, true, true, true, true, true, true, true]] rfl rfl) (dSb hD [[false, false, false, false, false, false, false, false, false, true, true], [true, true, true, true, true, true, true, true, true]] (by decide +kernel) rfl rfl) hS ⟨kX_13, kY_14, iX_15, iY_16, tD, rfl, ⟨by omega, by omega, by first | omega | (show T_nb tD + 1 ≤ 8; omega) | (show T_nb tD ≤ 8; omega), by first | omega | (show T_np tD + 1 ≤ 8; omega) | (show T_np tD ≤ 8; omega)⟩, h_18, (ch_swap _ (st_white h_8 hF h_19) c_20)⟩ (g_177 bX3_readWhite rfl)
  · have hq_21 := h_17.2.2 c_20
    obtain ⟨k_22, hk_23, ek_24⟩ := tk_in (n := T_nb tD) (by omega) hq_21.2.1 hq_21.2.2
    rw [ek_24] at hl
    refine lv_aload_n hx hb (g_42 bX3_readWhite rfl) rfl (lv_at hl 1 rfl) ?_
    refine va_get (D := G) (ci := 2) (v := .ref qd) (C := RX3) (T := TX3) (N := 7) hx hb hts iX_X3 hown hK hP 9 rfl rfl 6 (by decide +kernel) (hts _ m_t156) (fun _ h9 => h9) rfl (g_180 (v := 18) bX3_readWhite rfl) ?_
    refine lv_dup hx hb (g_89 bX3_readWhite rfl) rfl ?_
    refine va_getN (D := G) (ci := 3) (v := .int (wb (T_wh tD))) (C := RX4) (T := TX4) (N := 13) hx hb hts iX_X4 hown hK hP 0 rfl rfl 2 (by decide +kernel) (va_Nw.use rfl (hN.2.1 (RX3, 115, "EachBookOnce$Town", "white", "I") (List.mem_of_getElem? (i := 9) rfl))) (fun _ h9 => h9) rfl (g_180 (v := 115) bX3_readWhite rfl) ?_
    refine lv_iconst (v := 1) hx hb (g_4 bX3_readWhite rfl) (by decide +kernel) ?_
    refine lv_iload_n hx hb (g_27 bX3_readWhite rfl) rfl (lv_at hl 0 rfl) ?_
    refine lv_ishl hx hb (g_120 bX3_readWhite rfl) ?_
    refine lv_ior hx hb (g_128 bX3_readWhite rfl) ?_
    refine lv_seti (v := wb (updB (T_wh tD) k_22 true)) (wb_on _ (by omega)) ?_
    refine va_putN (D := G) (ci := 3) (v := .int (wb (updB (T_wh tD) k_22 true))) (ty := .int) (C := RX4) (T := TX4) (N := 13) hx hb hts iX_X4 tyX4 tyX4_ok nmX4 hown hK hP hD hS 0 rfl rfl 2 (by decide +kernel) (va_Nw.use rfl (hN.2.1 (RX3, 115, "EachBookOnce$Town", "white", "I") (List.mem_of_getElem? (i := 9) rfl))) (fun _ h9 => h9) rfl (by decide +kernel) rfl rfl (Nat.le_of_ble_eq_true rfl) (g_181 (v := 115) bX3_readWhite rfl) (fun H locs => ?_)
    clear hP hD hS
    intro hP hD hS
    have hPD := pd_as [zzO qd 3 [.int (nI (T_nb tD)), .int (nI (T_np tD)), .int (wb (updB (T_wh tD) k_22 true)), .int (wb (T_gn tD)), .int (T_sd tD), .ref qdw, .ref qdn, .ref qdg, .ref qda, .ref qdr, .ref qdm, .ref qdt, .ref qds], _, _, _, _, _, _, _, _, _, _] hP hD rfl
    clear hP hD
    obtain ⟨hP, hD⟩ := hPD
    have hPD := pd_as [zzO qd 3 [.int (nI (T_nb (T_setwh tD (updB (T_wh tD) k_22 true)))), .int (nI (T_np (T_setwh tD (updB (T_wh tD) k_22 true)))), .int (wb (T_wh (T_setwh tD (updB (T_wh tD) k_22 true)))), .int (wb (T_gn (T_setwh tD (updB (T_wh tD) k_22 true)))), .int (T_sd (T_setwh tD (updB (T_wh tD) k_22 true))), .ref qdw, .ref qdn, .ref qdg, .ref qda, .ref qdr, .ref qdm, .ref qdt, .ref qds], zzI cy qdw 8 (T_wo (T_setwh tD (updB (T_wh tD) k_22 true))), zzI cy qdn 8 (T_ne (T_setwh tD (updB (T_wh tD) k_22 true))), zzI cy qdg 8 (T_go (T_setwh tD (updB (T_wh tD) k_22 true))), zzI cy qda 8 (T_ag (T_setwh tD (updB (T_wh tD) k_22 true))), zzI cy qdr 8 (T_re (T_setwh tD (updB (T_wh tD) k_22 true))), zzI cy qdm 8 (T_me (T_setwh tD (updB (T_wh tD) k_22 true))), zzI cy qdt 8 (T_te (T_setwh tD (updB (T_wh tD) k_22 true))), zzI cy qds 64 (shF (T_kn (T_setwh tD (updB (T_wh tD) k_22 true)))), _, _] hP hD rfl
    clear hP hD
    obtain ⟨hP, hD⟩ := hPD
    exact endV (u := [zzO qa 2 [.ref qab, .int (nI kZ), .int (nI kX_13), .int (nI kY_14), .int iX_15, .int iY_16, .ref qd], zzB cy qab 250 fB, zzO qd 3 [.int (nI (T_nb (T_setwh tD (updB (T_wh tD) k_22 true)))), .int (nI (T_np (T_setwh tD (updB (T_wh tD) k_22 true)))), .int (wb (T_wh (T_setwh tD (updB (T_wh tD) k_22 true)))), .int (wb (T_gn (T_setwh tD (updB (T_wh tD) k_22 true)))), .int (T_sd (T_setwh tD (updB (T_wh tD) k_22 true))), .ref qdw, .ref qdn, .ref qdg, .ref qda, .ref qdr, .ref qdm, .ref qdt, .ref qds], zzI cy qdw 8 (T_wo (T_setwh tD (updB (T_wh tD) k_22 true))), zzI cy qdn 8 (T_ne (T_setwh tD (updB (T_wh tD) k_22 true))), zzI cy qdg 8 (T_go (T_setwh tD (updB (T_wh tD) k_22 true))), zzI cy qda 8 (T_ag (T_setwh tD (updB (T_wh tD) k_22 true))), zzI cy qdr 8 (T_re (T_setwh tD (updB (T_wh tD) k_22 true))), zzI cy qdm 8 (T_me (T_setwh tD (updB (T_wh tD) k_22 true))), zzI cy qdt 8 (T_te (T_setwh tD (updB (T_wh tD) k_22 true))), zzI cy qds 64 (shF (T_kn (T_setwh tD (updB (T_wh tD) k_22 true))))]) hx hb hr hlocks (pSb hP [[false, false, false, false, false, false, false, false, false, true, true], [true, true, true, true, true, true, true, true, true]] rfl rfl) (dSb hD [[false, false, false, false, false, false, false, false, false, true, true], [true, true, true, true, true, true, true, true, true]] (by decide +kernel) rfl rfl) hS ⟨kX_13, kY_14, iX_15, iY_16, (T_setwh tD (updB (T_wh tD) k_22 true)), rfl, ⟨by omega, by omega, by first | omega | (show T_nb tD + 1 ≤ 8; omega) | (show T_nb tD ≤ 8; omega), by first | omega | (show T_np tD + 1 ≤ 8; omega) | (show T_np tD ≤ 8; omega)⟩, h_18, (by have q9 := st_white (a := kS) (t := iT) h_8 hF h_19; rw [ek_24, whT_nI (by omega)] at q9; exact q9)⟩ (g_177 bX3_readWhite rfl)
set_option maxHeartbeats 4000000 in
set_option maxRecDepth 100000 in
theorem x_X3_readStatement (l : Launch) (G : va_G) (cy : Nat → ClassId) (sz : Nat) (qa : Nat) (qab : Nat) (kZ : Nat) (kS : Nat) (kE : Nat) (iT : Int32) (iF : Int32) (qd : Nat) (fB : Nat → Int32) (tD : TA) (qdw : Nat) (qdn : Nat) (qdg : Nat) (qda : Nat) (qdr : Nat) (qdm : Nat) (qdt : Nat) (qds : Nat)  (hZ : kZ ≤ 250) (hE : kS ≤ kE ∧ kE ≤ kZ) (hLx : Lx fB kZ kS iT kE) (hF : iF = -1) (hDb : T_nb tD ≤ 8) (hDp : T_np tD ≤ 8) : MWX l yX3_readStatement cX3_readStatement 1 none 9 0 0 G cy SO [zzO qa 2 [.ref qab, .int (nI kZ), .int (nI kS), .int (nI kE), .int iT, .int iF, .ref qd], zzB cy qab 250 fB, zzO qd 3 [.int (nI (T_nb tD)), .int (nI (T_np tD)), .int (wb (T_wh tD)), .int (wb (T_gn tD)), .int (T_sd tD), .ref qdw, .ref qdn, .ref qdg, .ref qda, .ref qdr, .ref qdm, .ref qdt, .ref qds], zzI cy qdw 8 (T_wo tD), zzI cy qdn 8 (T_ne tD), zzI cy qdg 8 (T_go tD), zzI cy qda 8 (T_ag tD), zzI cy qdr 8 (T_re tD), zzI cy qdm 8 (T_me tD), zzI cy qdt 8 (T_te tD), zzI cy qds 64 (shF (T_kn tD))] sz [.ref qa] (Wv G (fun u => ∃ (kX : Nat) (kY : Nat) (iX : Int32) (iY : Int32) (tX : TA), u = [zzO qa 2 [.ref qab, .int (nI kZ), .int (nI kX), .int (nI kY), .int iX, .int iY, .ref qd], zzB cy qab 250 fB, zzO qd 3 [.int (nI (T_nb tX)), .int (nI (T_np tX)), .int (wb (T_wh tX)), .int (wb (T_gn tX)), .int (T_sd tX), .ref qdw, .ref qdn, .ref qdg, .ref qda, .ref qdr, .ref qdm, .ref qdt, .ref qds], zzI cy qdw 8 (T_wo tX), zzI cy qdn 8 (T_ne tX), zzI cy qdg 8 (T_go tX), zzI cy qda 8 (T_ag tX), zzI cy qdr 8 (T_re tX), zzI cy qdm 8 (T_me tX), zzI cy qdt 8 (T_te tX), zzI cy qds 64 (shF (T_kn tX))] ∧ (kX ≤ kY ∧ kY ≤ kZ ∧ T_nb tX ≤ 8 ∧ T_np tX ≤ 8) ∧ Lx fB kZ kX iX kY ∧ CH iY (pstm (nbf fB kZ) kZ (kS, iT, kE) tD) ((kX, iX, kY), tX))) := by
  refine enWX RX3 (by decide +kernel) rfl (Nat.le_of_ble_eq_true rfl) (fun p e s m below meth c ls A hx hb hml hown hts hr hlocks hP hN hl hin hD hA hS hX => ?_)
  have hin : meth.name = _ := hin
  have hK := hN.1
  replace hl : lv_has ls 1 [(0, .ref qa)] := hl
  refine lv_aload_n hx hb (g_42 bX3_readStatement rfl) rfl (lv_at hl 0 rfl) ?_
  obtain ⟨qs_1, qv_3, hs_2, hf_4⟩ := hX (RX3, 48, "book", [98, 111, 111, 107]) (List.mem_of_getElem? (i := 0) rfl)
  refine va_ldcS hx hb hown hs_2 (g_18 (v := 48) bX3_readStatement rfl) ?_
  refine kRi (rV (As := [.ref qs_1]) (rest := []) (b := qa) ⟨hx, hb, hml, hown, hts⟩ (x_X3_isWord l G cy qa qab kZ kS kE iT iF qd fB qs_1 ([98, 111, 111, 107]) qv_3 hZ hE (by decide +kernel) as_book) L_X3_50 (preRVX (q := (RX3, TX3, 7)) hN hP [0, 1] rfl 0 2 rfl rfl SF_ok hf_4 hS) rfl ⟨Nat.le_of_ble_eq_true rfl, Nat.le_of_ble_eq_true rfl⟩ hl.1 (Nat.le_of_ble_eq_true rfl) (g_182 (v := 50) bX3_readStatement rfl) ⟨Nat.le_of_ble_eq_true rfl, Nat.le_of_ble_eq_true rfl⟩) (fun r_5 h_6 => ?_)
  rcases h_6 with ⟨rfl, h_7⟩ | ⟨rfl, h_7⟩
  · refine lv_if_eq (tgt := 16) hx hb dX3_readStatement_6 (by decide +kernel) (fun h9 => absurd h9 (by decide +kernel)) (fun _ => ?_)
    refine lv_aload_n hx hb (g_42 bX3_readStatement rfl) rfl (lv_at hl 0 rfl) ?_
    refine cVXv (As := []) (rest := []) (b := qa) (q := (RX3, TX3, 7)) ⟨hx, hb, hml, hown, hts⟩ (x_X3_readBook l G cy (s.heap).size qa qab kZ kS kE iT iF qd fB tD qdw qdn qdg qda qdr qdm qdt qds hZ hE hLx hF hDb hDp) L_X3_54 hN hP hD hS hA (trueIx 0 [true, true, true, true, true, true, true, true, true, true, true]) [false, false, false, false, false, false, false, false, false, false, false] (sel_eq rfl rfl) (by decide +kernel) rfl 0 2 rfl rfl SO_ok hX rfl ⟨Nat.le_of_ble_eq_true rfl, Nat.le_of_ble_eq_true rfl⟩ hl.1 (Nat.le_of_ble_eq_true rfl) (g_182 (v := 54) bX3_readStatement rfl) ⟨Nat.le_of_ble_eq_true rfl, Nat.le_of_ble_eq_true rfl⟩ (fun u_11 H locs h_10 => ?_)
    clear hP hD hS
    intro hP hD hS
    obtain ⟨kX_12, kY_13, iX_14, iY_15, tX_16, hu9, h_17, h_18, h_19⟩ := h_10
    have hPD := pd_eq [zzO qa 2 [.ref qab, .int (nI kZ), .int (nI kX_12), .int (nI kY_13), .int iX_14, .int iY_15, .ref qd], _, zzO qd 3 [.int (nI (T_nb tX_16)), .int (nI (T_np tX_16)), .int (wb (T_wh tX_16)), .int (wb (T_gn tX_16)), .int (T_sd tX_16), .ref qdw, .ref qdn, .ref qdg, .ref qda, .ref qdr, .ref qdm, .ref qdt, .ref qds], zzI cy qdw 8 (T_wo tX_16), zzI cy qdn 8 (T_ne tX_16), zzI cy qdg 8 (T_go tX_16), zzI cy qda 8 (T_ag tX_16), zzI cy qdr 8 (T_re tX_16), zzI cy qdm 8 (T_me tX_16), zzI cy qdt 8 (T_te tX_16), zzI cy qds 64 (shF (T_kn tX_16))] hP hD hu9 rfl
    clear hP hD hu9
    obtain ⟨hP, hD⟩ := hPD
    refine lv_goto (tgt := 84) hx hb dX3_readStatement_13 (by decide +kernel) ?_
    exact endV (u := [zzO qa 2 [.ref qab, .int (nI kZ), .int (nI kX_12), .int (nI kY_13), .int iX_14, .int iY_15, .ref qd], zzB cy qab 250 fB, zzO qd 3 [.int (nI (T_nb tX_16)), .int (nI (T_np tX_16)), .int (wb (T_wh tX_16)), .int (wb (T_gn tX_16)), .int (T_sd tX_16), .ref qdw, .ref qdn, .ref qdg, .ref qda, .ref qdr, .ref qdm, .ref qdt, .ref qds], zzI cy qdw 8 (T_wo tX_16), zzI cy qdn 8 (T_ne tX_16), zzI cy qdg 8 (T_go tX_16), zzI cy qda 8 (T_ag tX_16), zzI cy qdr 8 (T_re tX_16), zzI cy qdm 8 (T_me tX_16), zzI cy qdt 8 (T_te tX_16), zzI cy qds 64 (shF (T_kn tX_16))]) hx hb hr hlocks (pSb hP [[true, true, true, true, true, true, true, true, true, true, true]] rfl rfl) (dSb hD [[true, true, true, true, true, true, true, true, true, true, true]] (by decide +kernel) rfl rfl) hS ⟨kX_12, kY_13, iX_14, iY_15, tX_16, rfl, ⟨by omega, by omega, by omega, by omega⟩, h_18, (by rw [ps_1 h_7]; exact h_19)⟩ (g_177 bX3_readStatement rfl)
  · refine lv_if_eq (tgt := 16) hx hb dX3_readStatement_6 (by decide +kernel) (fun _ => ?_) (fun h9 => absurd (by decide +kernel) h9)
    refine lv_aload_n hx hb (g_42 bX3_readStatement rfl) rfl (lv_at hl 0 rfl) ?_
    obtain ⟨qs_21, qv_23, hs_22, hf_24⟩ := hX (RX3, 57, "need", [110, 101, 101, 100]) (List.mem_of_getElem? (i := 2) rfl)
    refine va_ldcS hx hb hown hs_22 (g_18 (v := 57) bX3_readStatement rfl) ?_
    refine kRi (rV (As := [.ref qs_21]) (rest := []) (b := qa) ⟨hx, hb, hml, hown, hts⟩ (x_X3_isWord l G cy qa qab kZ kS kE iT iF qd fB qs_21 ([110, 101, 101, 100]) qv_23 hZ hE (by decide +kernel) as_need) L_X3_50 (preRVX (q := (RX3, TX3, 7)) hN hP [0, 1] rfl 0 2 rfl rfl SF_ok hf_24 hS) rfl ⟨Nat.le_of_ble_eq_true rfl, Nat.le_of_ble_eq_true rfl⟩ hl.1 (Nat.le_of_ble_eq_true rfl) (g_182 (v := 50) bX3_readStatement rfl) ⟨Nat.le_of_ble_eq_true rfl, Nat.le_of_ble_eq_true rfl⟩) (fun r_25 h_26 => ?_)
    rcases h_26 with ⟨rfl, h_27⟩ | ⟨rfl, h_27⟩
    · refine lv_if_eq (tgt := 32) hx hb dX3_readStatement_22 (by decide +kernel) (fun h9 => absurd h9 (by decide +kernel)) (fun _ => ?_)
      refine lv_aload_n hx hb (g_42 bX3_readStatement rfl) rfl (lv_at hl 0 rfl) ?_
      refine cVv (As := []) (rest := []) (b := qa) (q := (RX3, TX3, 7)) ⟨hx, hb, hml, hown, hts⟩ (x_X3_readNeed l G cy (s.heap).size qa qab kZ kS kE iT iF qd fB tD qdw qdn qdg qda qdr qdm qdt qds hZ hE hLx hF hDb hDp) L_X3_59 hN hP hD hS hA (trueIx 0 [true, true, true, true, true, true, true, true, true, true, true]) [false, false, false, false, false, false, false, false, false, false, false] (sel_eq rfl rfl) (by decide +kernel) rfl 0 2 rfl rfl rfl ⟨Nat.le_of_ble_eq_true rfl, Nat.le_of_ble_eq_true rfl⟩ hl.1 (Nat.le_of_ble_eq_true rfl) (g_182 (v := 59) bX3_readStatement rfl) ⟨Nat.le_of_ble_eq_true rfl, Nat.le_of_ble_eq_true rfl⟩ (fun u_31 H locs h_30 => ?_)
      clear hP hD hS
      intro hP hD hS
      obtain ⟨kX_32, kY_33, iX_34, iY_35, tX_36, hu9, h_37, h_38, h_39⟩ := h_30
      have hPD := pd_eq [zzO qa 2 [.ref qab, .int (nI kZ), .int (nI kX_32), .int (nI kY_33), .int iX_34, .int iY_35, .ref qd], _, zzO qd 3 [.int (nI (T_nb tX_36)), .int (nI (T_np tX_36)), .int (wb (T_wh tX_36)), .int (wb (T_gn tX_36)), .int (T_sd tX_36), .ref qdw, .ref qdn, .ref qdg, .ref qda, .ref qdr, .ref qdm, .ref qdt, .ref qds], zzI cy qdw 8 (T_wo tX_36), zzI cy qdn 8 (T_ne tX_36), zzI cy qdg 8 (T_go tX_36), zzI cy qda 8 (T_ag tX_36), zzI cy qdr 8 (T_re tX_36), zzI cy qdm 8 (T_me tX_36), zzI cy qdt 8 (T_te tX_36), zzI cy qds 64 (shF (T_kn tX_36))] hP hD hu9 rfl
      clear hP hD hu9
      obtain ⟨hP, hD⟩ := hPD
      refine lv_goto (tgt := 84) hx hb dX3_readStatement_29 (by decide +kernel) ?_
      exact endV (u := [zzO qa 2 [.ref qab, .int (nI kZ), .int (nI kX_32), .int (nI kY_33), .int iX_34, .int iY_35, .ref qd], zzB cy qab 250 fB, zzO qd 3 [.int (nI (T_nb tX_36)), .int (nI (T_np tX_36)), .int (wb (T_wh tX_36)), .int (wb (T_gn tX_36)), .int (T_sd tX_36), .ref qdw, .ref qdn, .ref qdg, .ref qda, .ref qdr, .ref qdm, .ref qdt, .ref qds], zzI cy qdw 8 (T_wo tX_36), zzI cy qdn 8 (T_ne tX_36), zzI cy qdg 8 (T_go tX_36), zzI cy qda 8 (T_ag tX_36), zzI cy qdr 8 (T_re tX_36), zzI cy qdm 8 (T_me tX_36), zzI cy qdt 8 (T_te tX_36), zzI cy qds 64 (shF (T_kn tX_36))]) hx hb hr hlocks (pSb hP [[true, true, true, true, true, true, true, true, true, true, true]] rfl rfl) (dSb hD [[true, true, true, true, true, true, true, true, true, true, true]] (by decide +kernel) rfl rfl) hS ⟨kX_32, kY_33, iX_34, iY_35, tX_36, rfl, ⟨by omega, by omega, by omega, by omega⟩, h_38, (by rw [ps_2 h_7 h_27]; exact h_39)⟩ (g_177 bX3_readStatement rfl)
    · refine lv_if_eq (tgt := 32) hx hb dX3_readStatement_22 (by decide +kernel) (fun _ => ?_) (fun h9 => absurd (by decide +kernel) h9)
      refine lv_aload_n hx hb (g_42 bX3_readStatement rfl) rfl (lv_at hl 0 rfl) ?_
      obtain ⟨qs_41, qv_43, hs_42, hf_44⟩ := hX (RX3, 62, "one", [111, 110, 101]) (List.mem_of_getElem? (i := 3) rfl)
      refine va_ldcS hx hb hown hs_42 (g_18 (v := 62) bX3_readStatement rfl) ?_
      refine kRi (rV (As := [.ref qs_41]) (rest := []) (b := qa) ⟨hx, hb, hml, hown, hts⟩ (x_X3_isWord l G cy qa qab kZ kS kE iT iF qd fB qs_41 ([111, 110, 101]) qv_43 hZ hE (by decide +kernel) as_one) L_X3_50 (preRVX (q := (RX3, TX3, 7)) hN hP [0, 1] rfl 0 2 rfl rfl SF_ok hf_44 hS) rfl ⟨Nat.le_of_ble_eq_true rfl, Nat.le_of_ble_eq_true rfl⟩ hl.1 (Nat.le_of_ble_eq_true rfl) (g_182 (v := 50) bX3_readStatement rfl) ⟨Nat.le_of_ble_eq_true rfl, Nat.le_of_ble_eq_true rfl⟩) (fun r_45 h_46 => ?_)
      rcases h_46 with ⟨rfl, h_47⟩ | ⟨rfl, h_47⟩
      · refine lv_if_eq (tgt := 48) hx hb dX3_readStatement_38 (by decide +kernel) (fun h9 => absurd h9 (by decide +kernel)) (fun _ => ?_)
        refine lv_aload_n hx hb (g_42 bX3_readStatement rfl) rfl (lv_at hl 0 rfl) ?_
        refine cVXv (As := []) (rest := []) (b := qa) (q := (RX3, TX3, 7)) ⟨hx, hb, hml, hown, hts⟩ (x_X3_readOne l G cy (s.heap).size qa qab kZ kS kE iT iF qd fB tD qdw qdn qdg qda qdr qdm qdt qds hZ hE hLx hF hDb hDp) L_X3_64 hN hP hD hS hA (trueIx 0 [true, true, true, true, true, true, true, true, true, true, true]) [false, false, false, false, false, false, false, false, false, false, false] (sel_eq rfl rfl) (by decide +kernel) rfl 0 2 rfl rfl SO_ok hX rfl ⟨Nat.le_of_ble_eq_true rfl, Nat.le_of_ble_eq_true rfl⟩ hl.1 (Nat.le_of_ble_eq_true rfl) (g_182 (v := 64) bX3_readStatement rfl) ⟨Nat.le_of_ble_eq_true rfl, Nat.le_of_ble_eq_true rfl⟩ (fun u_51 H locs h_50 => ?_)
        clear hP hD hS
        intro hP hD hS
        obtain ⟨kX_52, kY_53, iX_54, iY_55, tX_56, hu9, h_57, h_58, h_59⟩ := h_50
        have hPD := pd_eq [zzO qa 2 [.ref qab, .int (nI kZ), .int (nI kX_52), .int (nI kY_53), .int iX_54, .int iY_55, .ref qd], _, zzO qd 3 [.int (nI (T_nb tX_56)), .int (nI (T_np tX_56)), .int (wb (T_wh tX_56)), .int (wb (T_gn tX_56)), .int (T_sd tX_56), .ref qdw, .ref qdn, .ref qdg, .ref qda, .ref qdr, .ref qdm, .ref qdt, .ref qds], zzI cy qdw 8 (T_wo tX_56), zzI cy qdn 8 (T_ne tX_56), zzI cy qdg 8 (T_go tX_56), zzI cy qda 8 (T_ag tX_56), zzI cy qdr 8 (T_re tX_56), zzI cy qdm 8 (T_me tX_56), zzI cy qdt 8 (T_te tX_56), zzI cy qds 64 (shF (T_kn tX_56))] hP hD hu9 rfl
        clear hP hD hu9
        obtain ⟨hP, hD⟩ := hPD
        refine lv_goto (tgt := 84) hx hb dX3_readStatement_45 (by decide +kernel) ?_
        exact endV (u := [zzO qa 2 [.ref qab, .int (nI kZ), .int (nI kX_52), .int (nI kY_53), .int iX_54, .int iY_55, .ref qd], zzB cy qab 250 fB, zzO qd 3 [.int (nI (T_nb tX_56)), .int (nI (T_np tX_56)), .int (wb (T_wh tX_56)), .int (wb (T_gn tX_56)), .int (T_sd tX_56), .ref qdw, .ref qdn, .ref qdg, .ref qda, .ref qdr, .ref qdm, .ref qdt, .ref qds], zzI cy qdw 8 (T_wo tX_56), zzI cy qdn 8 (T_ne tX_56), zzI cy qdg 8 (T_go tX_56), zzI cy qda 8 (T_ag tX_56), zzI cy qdr 8 (T_re tX_56), zzI cy qdm 8 (T_me tX_56), zzI cy qdt 8 (T_te tX_56), zzI cy qds 64 (shF (T_kn tX_56))]) hx hb hr hlocks (pSb hP [[true, true, true, true, true, true, true, true, true, true, true]] rfl rfl) (dSb hD [[true, true, true, true, true, true, true, true, true, true, true]] (by decide +kernel) rfl rfl) hS ⟨kX_52, kY_53, iX_54, iY_55, tX_56, rfl, ⟨by omega, by omega, by omega, by omega⟩, h_58, (by rw [ps_3 h_7 h_27 h_47]; exact h_59)⟩ (g_177 bX3_readStatement rfl)
      · refine lv_if_eq (tgt := 48) hx hb dX3_readStatement_38 (by decide +kernel) (fun _ => ?_) (fun h9 => absurd (by decide +kernel) h9)
        refine lv_aload_n hx hb (g_42 bX3_readStatement rfl) rfl (lv_at hl 0 rfl) ?_
        obtain ⟨qs_61, qv_63, hs_62, hf_64⟩ := hX (RX3, 67, "knows", [107, 110, 111, 119, 115]) (List.mem_of_getElem? (i := 7) rfl)
        refine va_ldcS hx hb hown hs_62 (g_18 (v := 67) bX3_readStatement rfl) ?_
        refine kRi (rV (As := [.ref qs_61]) (rest := []) (b := qa) ⟨hx, hb, hml, hown, hts⟩ (x_X3_isWord l G cy qa qab kZ kS kE iT iF qd fB qs_61 ([107, 110, 111, 119, 115]) qv_63 hZ hE (by decide +kernel) as_knows) L_X3_50 (preRVX (q := (RX3, TX3, 7)) hN hP [0, 1] rfl 0 2 rfl rfl SF_ok hf_64 hS) rfl ⟨Nat.le_of_ble_eq_true rfl, Nat.le_of_ble_eq_true rfl⟩ hl.1 (Nat.le_of_ble_eq_true rfl) (g_182 (v := 50) bX3_readStatement rfl) ⟨Nat.le_of_ble_eq_true rfl, Nat.le_of_ble_eq_true rfl⟩) (fun r_65 h_66 => ?_)
        rcases h_66 with ⟨rfl, h_67⟩ | ⟨rfl, h_67⟩
        · refine lv_if_eq (tgt := 64) hx hb dX3_readStatement_54 (by decide +kernel) (fun h9 => absurd h9 (by decide +kernel)) (fun _ => ?_)
          refine lv_aload_n hx hb (g_42 bX3_readStatement rfl) rfl (lv_at hl 0 rfl) ?_
          refine cVv (As := []) (rest := []) (b := qa) (q := (RX3, TX3, 7)) ⟨hx, hb, hml, hown, hts⟩ (x_X3_readKnows l G cy (s.heap).size qa qab kZ kS kE iT iF qd fB tD qdw qdn qdg qda qdr qdm qdt qds hZ hE hLx hF hDb hDp) L_X3_69 hN hP hD hS hA (trueIx 0 [true, true, true, true, true, true, true, true, true, true, true]) [false, false, false, false, false, false, false, false, false, false, false] (sel_eq rfl rfl) (by decide +kernel) rfl 0 2 rfl rfl rfl ⟨Nat.le_of_ble_eq_true rfl, Nat.le_of_ble_eq_true rfl⟩ hl.1 (Nat.le_of_ble_eq_true rfl) (g_182 (v := 69) bX3_readStatement rfl) ⟨Nat.le_of_ble_eq_true rfl, Nat.le_of_ble_eq_true rfl⟩ (fun u_71 H locs h_70 => ?_)
          clear hP hD hS
          intro hP hD hS
          obtain ⟨kX_72, kY_73, iX_74, iY_75, tX_76, hu9, h_77, h_78, h_79⟩ := h_70
          have hPD := pd_eq [zzO qa 2 [.ref qab, .int (nI kZ), .int (nI kX_72), .int (nI kY_73), .int iX_74, .int iY_75, .ref qd], _, zzO qd 3 [.int (nI (T_nb tX_76)), .int (nI (T_np tX_76)), .int (wb (T_wh tX_76)), .int (wb (T_gn tX_76)), .int (T_sd tX_76), .ref qdw, .ref qdn, .ref qdg, .ref qda, .ref qdr, .ref qdm, .ref qdt, .ref qds], zzI cy qdw 8 (T_wo tX_76), zzI cy qdn 8 (T_ne tX_76), zzI cy qdg 8 (T_go tX_76), zzI cy qda 8 (T_ag tX_76), zzI cy qdr 8 (T_re tX_76), zzI cy qdm 8 (T_me tX_76), zzI cy qdt 8 (T_te tX_76), zzI cy qds 64 (shF (T_kn tX_76))] hP hD hu9 rfl
          clear hP hD hu9
          obtain ⟨hP, hD⟩ := hPD
          refine lv_goto (tgt := 84) hx hb dX3_readStatement_61 (by decide +kernel) ?_
          exact endV (u := [zzO qa 2 [.ref qab, .int (nI kZ), .int (nI kX_72), .int (nI kY_73), .int iX_74, .int iY_75, .ref qd], zzB cy qab 250 fB, zzO qd 3 [.int (nI (T_nb tX_76)), .int (nI (T_np tX_76)), .int (wb (T_wh tX_76)), .int (wb (T_gn tX_76)), .int (T_sd tX_76), .ref qdw, .ref qdn, .ref qdg, .ref qda, .ref qdr, .ref qdm, .ref qdt, .ref qds], zzI cy qdw 8 (T_wo tX_76), zzI cy qdn 8 (T_ne tX_76), zzI cy qdg 8 (T_go tX_76), zzI cy qda 8 (T_ag tX_76), zzI cy qdr 8 (T_re tX_76), zzI cy qdm 8 (T_me tX_76), zzI cy qdt 8 (T_te tX_76), zzI cy qds 64 (shF (T_kn tX_76))]) hx hb hr hlocks (pSb hP [[true, true, true, true, true, true, true, true, true, true, true]] rfl rfl) (dSb hD [[true, true, true, true, true, true, true, true, true, true, true]] (by decide +kernel) rfl rfl) hS ⟨kX_72, kY_73, iX_74, iY_75, tX_76, rfl, ⟨by omega, by omega, by omega, by omega⟩, h_78, (by rw [ps_4 h_7 h_27 h_47 h_67]; exact h_79)⟩ (g_177 bX3_readStatement rfl)
        · refine lv_if_eq (tgt := 64) hx hb dX3_readStatement_54 (by decide +kernel) (fun _ => ?_) (fun h9 => absurd (by decide +kernel) h9)
          refine lv_aload_n hx hb (g_42 bX3_readStatement rfl) rfl (lv_at hl 0 rfl) ?_
          obtain ⟨qs_81, qv_83, hs_82, hf_84⟩ := hX (RX3, 72, "white", [119, 104, 105, 116, 101]) (List.mem_of_getElem? (i := 8) rfl)
          refine va_ldcS hx hb hown hs_82 (g_18 (v := 72) bX3_readStatement rfl) ?_
          refine kRi (rV (As := [.ref qs_81]) (rest := []) (b := qa) ⟨hx, hb, hml, hown, hts⟩ (x_X3_isWord l G cy qa qab kZ kS kE iT iF qd fB qs_81 ([119, 104, 105, 116, 101]) qv_83 hZ hE (by decide +kernel) as_white) L_X3_50 (preRVX (q := (RX3, TX3, 7)) hN hP [0, 1] rfl 0 2 rfl rfl SF_ok hf_84 hS) rfl ⟨Nat.le_of_ble_eq_true rfl, Nat.le_of_ble_eq_true rfl⟩ hl.1 (Nat.le_of_ble_eq_true rfl) (g_182 (v := 50) bX3_readStatement rfl) ⟨Nat.le_of_ble_eq_true rfl, Nat.le_of_ble_eq_true rfl⟩) (fun r_85 h_86 => ?_)
          rcases h_86 with ⟨rfl, h_87⟩ | ⟨rfl, h_87⟩
          · refine lv_if_eq (tgt := 80) hx hb dX3_readStatement_70 (by decide +kernel) (fun h9 => absurd h9 (by decide +kernel)) (fun _ => ?_)
            refine lv_aload_n hx hb (g_42 bX3_readStatement rfl) rfl (lv_at hl 0 rfl) ?_
            refine cVv (As := []) (rest := []) (b := qa) (q := (RX3, TX3, 7)) ⟨hx, hb, hml, hown, hts⟩ (x_X3_readWhite l G cy (s.heap).size qa qab kZ kS kE iT iF qd fB tD qdw qdn qdg qda qdr qdm qdt qds hZ hE hLx hF hDb hDp) L_X3_74 hN hP hD hS hA (trueIx 0 [true, true, true, true, true, true, true, true, true, true, true]) [false, false, false, false, false, false, false, false, false, false, false] (sel_eq rfl rfl) (by decide +kernel) rfl 0 2 rfl rfl rfl ⟨Nat.le_of_ble_eq_true rfl, Nat.le_of_ble_eq_true rfl⟩ hl.1 (Nat.le_of_ble_eq_true rfl) (g_182 (v := 74) bX3_readStatement rfl) ⟨Nat.le_of_ble_eq_true rfl, Nat.le_of_ble_eq_true rfl⟩ (fun u_91 H locs h_90 => ?_)
            clear hP hD hS
            intro hP hD hS
            obtain ⟨kX_92, kY_93, iX_94, iY_95, tX_96, hu9, h_97, h_98, h_99⟩ := h_90
            have hPD := pd_eq [zzO qa 2 [.ref qab, .int (nI kZ), .int (nI kX_92), .int (nI kY_93), .int iX_94, .int iY_95, .ref qd], _, zzO qd 3 [.int (nI (T_nb tX_96)), .int (nI (T_np tX_96)), .int (wb (T_wh tX_96)), .int (wb (T_gn tX_96)), .int (T_sd tX_96), .ref qdw, .ref qdn, .ref qdg, .ref qda, .ref qdr, .ref qdm, .ref qdt, .ref qds], zzI cy qdw 8 (T_wo tX_96), zzI cy qdn 8 (T_ne tX_96), zzI cy qdg 8 (T_go tX_96), zzI cy qda 8 (T_ag tX_96), zzI cy qdr 8 (T_re tX_96), zzI cy qdm 8 (T_me tX_96), zzI cy qdt 8 (T_te tX_96), zzI cy qds 64 (shF (T_kn tX_96))] hP hD hu9 rfl
            clear hP hD hu9
            obtain ⟨hP, hD⟩ := hPD
            refine lv_goto (tgt := 84) hx hb dX3_readStatement_77 (by decide +kernel) ?_
            exact endV (u := [zzO qa 2 [.ref qab, .int (nI kZ), .int (nI kX_92), .int (nI kY_93), .int iX_94, .int iY_95, .ref qd], zzB cy qab 250 fB, zzO qd 3 [.int (nI (T_nb tX_96)), .int (nI (T_np tX_96)), .int (wb (T_wh tX_96)), .int (wb (T_gn tX_96)), .int (T_sd tX_96), .ref qdw, .ref qdn, .ref qdg, .ref qda, .ref qdr, .ref qdm, .ref qdt, .ref qds], zzI cy qdw 8 (T_wo tX_96), zzI cy qdn 8 (T_ne tX_96), zzI cy qdg 8 (T_go tX_96), zzI cy qda 8 (T_ag tX_96), zzI cy qdr 8 (T_re tX_96), zzI cy qdm 8 (T_me tX_96), zzI cy qdt 8 (T_te tX_96), zzI cy qds 64 (shF (T_kn tX_96))]) hx hb hr hlocks (pSb hP [[true, true, true, true, true, true, true, true, true, true, true]] rfl rfl) (dSb hD [[true, true, true, true, true, true, true, true, true, true, true]] (by decide +kernel) rfl rfl) hS ⟨kX_92, kY_93, iX_94, iY_95, tX_96, rfl, ⟨by omega, by omega, by omega, by omega⟩, h_98, (by rw [ps_5 h_7 h_27 h_47 h_67 h_87]; exact h_99)⟩ (g_177 bX3_readStatement rfl)
          · refine lv_if_eq (tgt := 80) hx hb dX3_readStatement_70 (by decide +kernel) (fun _ => ?_) (fun h9 => absurd (by decide +kernel) h9)
            refine lv_aload_n hx hb (g_42 bX3_readStatement rfl) rfl (lv_at hl 0 rfl) ?_
            refine cVv (As := []) (rest := []) (b := qa) (q := (RX3, TX3, 7)) ⟨hx, hb, hml, hown, hts⟩ (x_X3_fail l G cy (s.heap).size qa qab kZ kS kE iT iF qd hZ hE) L_X3_45 hN hP hD hS hA [0] [false, true, true, true, true, true, true, true, true, true, true] rfl (by decide +kernel) rfl 0 2 rfl rfl rfl ⟨Nat.le_of_ble_eq_true rfl, Nat.le_of_ble_eq_true rfl⟩ hl.1 (Nat.le_of_ble_eq_true rfl) (g_182 (v := 45) bX3_readStatement rfl) ⟨Nat.le_of_ble_eq_true rfl, Nat.le_of_ble_eq_true rfl⟩ (fun u_103 H locs h_102 => ?_)
            clear hP hD hS
            intro hP hD hS
            obtain ⟨iX_104, hu9, h_105, h_106⟩ := h_102
            have hPD := pd_eq [_, _, _, _, _, _, _, _, _, _, zzO qa 2 [.ref qab, .int (nI kZ), .int (nI kS), .int (nI kE), .int iT, .int iX_104, .ref qd]] hP hD hu9 rfl
            clear hP hD hu9
            obtain ⟨hP, hD⟩ := hPD
            exact endV (u := [zzO qa 2 [.ref qab, .int (nI kZ), .int (nI kS), .int (nI kE), .int iT, .int iX_104, .ref qd], zzB cy qab 250 fB, zzO qd 3 [.int (nI (T_nb tD)), .int (nI (T_np tD)), .int (wb (T_wh tD)), .int (wb (T_gn tD)), .int (T_sd tD), .ref qdw, .ref qdn, .ref qdg, .ref qda, .ref qdr, .ref qdm, .ref qdt, .ref qds], zzI cy qdw 8 (T_wo tD), zzI cy qdn 8 (T_ne tD), zzI cy qdg 8 (T_go tD), zzI cy qda 8 (T_ag tD), zzI cy qdr 8 (T_re tD), zzI cy qdm 8 (T_me tD), zzI cy qdt 8 (T_te tD), zzI cy qds 64 (shF (T_kn tD))]) hx hb hr hlocks (pSb hP [[false, false, false, false, false, false, false, false, false, false, true], [true, true, true, true, true, true, true, true, true, true]] rfl rfl) (dSb hD [[false, false, false, false, false, false, false, false, false, false, true], [true, true, true, true, true, true, true, true, true, true]] (by decide +kernel) rfl rfl) hS ⟨kS, kE, iT, iX_104, tD, rfl, ⟨by omega, by omega, by omega, by omega⟩, hLx, (Or.inl ⟨kS, ps_6 h_7 h_27 h_47 h_67 h_87, by rw [h_106, fal_1 hF], by omega⟩)⟩ (g_177 bX3_readStatement rfl)
set_option maxHeartbeats 4000000 in
set_option maxRecDepth 100000 in
theorem x_X3_readFrom (l : Launch) (G : va_G) (cy : Nat → ClassId) (sz : Nat) (qa : Nat) (qab : Nat) (kZ : Nat) (iT1 : Int32) (iT2 : Int32) (iT : Int32) (iF : Int32) (qd : Nat) (fB : Nat → Int32) (tD : TA) (qdw : Nat) (qdn : Nat) (qdg : Nat) (qda : Nat) (qdr : Nat) (qdm : Nat) (qdt : Nat) (qds : Nat) (qt : Nat) (tA : TA) (qtw : Nat) (qtn : Nat) (qtg : Nat) (qta : Nat) (qtr : Nat) (qtm : Nat) (qtt : Nat) (qts : Nat)  (hZ : kZ ≤ 250) (hB : T_nb tA ≤ 8) (hPp : T_np tA ≤ 8) : MWX l yX3_readFrom cX3_readFrom 3 (some .int) 10 0 0 G cy SO [zzO qa 2 [.ref qab, .int (nI kZ), .int iT1, .int iT2, .int iT, .int iF, .ref qd], zzB cy qab 250 fB, zzO qd 3 [.int (nI (T_nb tD)), .int (nI (T_np tD)), .int (wb (T_wh tD)), .int (wb (T_gn tD)), .int (T_sd tD), .ref qdw, .ref qdn, .ref qdg, .ref qda, .ref qdr, .ref qdm, .ref qdt, .ref qds], zzI cy qdw 8 (T_wo tD), zzI cy qdn 8 (T_ne tD), zzI cy qdg 8 (T_go tD), zzI cy qda 8 (T_ag tD), zzI cy qdr 8 (T_re tD), zzI cy qdm 8 (T_me tD), zzI cy qdt 8 (T_te tD), zzI cy qds 64 (shF (T_kn tD)), zzO qt 3 [.int (nI (T_nb tA)), .int (nI (T_np tA)), .int (wb (T_wh tA)), .int (wb (T_gn tA)), .int (T_sd tA), .ref qtw, .ref qtn, .ref qtg, .ref qta, .ref qtr, .ref qtm, .ref qtt, .ref qts], zzI cy qtw 8 (T_wo tA), zzI cy qtn 8 (T_ne tA), zzI cy qtg 8 (T_go tA), zzI cy qta 8 (T_ag tA), zzI cy qtr 8 (T_re tA), zzI cy qtm 8 (T_me tA), zzI cy qtt 8 (T_te tA), zzI cy qts 64 (shF (T_kn tA))] sz [.ref qa, .ref qt] (Wi G (fun r u => ∃ (iX1 : Int32) (iX2 : Int32) (iX : Int32) (iY : Int32) (tX : TA), u = [zzO qa 2 [.ref qab, .int (nI kZ), .int iX1, .int iX2, .int iX, .int iY, .ref qd], zzB cy qab 250 fB, zzO qd 3 [.int (nI (T_nb tX)), .int (nI (T_np tX)), .int (wb (T_wh tX)), .int (wb (T_gn tX)), .int (T_sd tX), .ref qdw, .ref qdn, .ref qdg, .ref qda, .ref qdr, .ref qdm, .ref qdt, .ref qds], zzI cy qdw 8 (T_wo tX), zzI cy qdn 8 (T_ne tX), zzI cy qdg 8 (T_go tX), zzI cy qda 8 (T_ag tX), zzI cy qdr 8 (T_re tX), zzI cy qdm 8 (T_me tX), zzI cy qdt 8 (T_te tX), zzI cy qds 64 (shF (T_kn tX)), zzO qt 3 [.int (nI (T_nb tA)), .int (nI (T_np tA)), .int (wb (T_wh tA)), .int (wb (T_gn tA)), .int (T_sd tA), .ref qtw, .ref qtn, .ref qtg, .ref qta, .ref qtr, .ref qtm, .ref qtt, .ref qts], zzI cy qtw 8 (T_wo tA), zzI cy qtn 8 (T_ne tA), zzI cy qtg 8 (T_go tA), zzI cy qta 8 (T_ag tA), zzI cy qtr 8 (T_re tA), zzI cy qtm 8 (T_me tA), zzI cy qtt 8 (T_te tA), zzI cy qts 64 (shF (T_kn tA))] ∧ (T_nb tX ≤ 8 ∧ T_np tX ≤ 8) ∧ RFP (pall (nbf fB kZ) kZ tA) r iY tX ∧ (True))) := by
  refine enWX RX3 (by decide +kernel) rfl (Nat.le_of_ble_eq_true rfl) (fun p e s m below meth c ls A hx hb hml hown hts hr hlocks hP hN hl hin hD hA hS hX => ?_)
  have hin : meth.name = _ := hin
  have hK := hN.1
  replace hl : lv_has ls 3 [(0, .ref qa), (1, .ref qt)] := hl
  refine lv_aload_n hx hb (g_42 bX3_readFrom rfl) rfl (lv_at hl 0 rfl) ?_
  refine va_get (D := G) (ci := 2) (v := .ref qd) (C := RX3) (T := TX3) (N := 7) hx hb hts iX_X3 hown hK hP 0 rfl rfl 6 (by decide +kernel) (hts _ m_t156) (fun _ h9 => h9) rfl (g_180 (v := 18) bX3_readFrom rfl) ?_
  refine lv_aload_n hx hb (g_43 bX3_readFrom rfl) rfl (lv_at hl 1 rfl) ?_
  refine cVv (As := [.ref qt]) (rest := []) (b := qd) (q := (RX4, TX4, 13)) ⟨hx, hb, hml, hown, hts⟩ (c_X4_become l G cy (s.heap).size qd tD qdw qdn qdg qda qdr qdm qdt qds qt tA qtw qtn qtg qta qtr qtm qtt qts) L_X3_26 hN hP hD hS hA (trueIx 0 [false, false, true, true, true, true, true, true, true, true, true, true, true, true, true, true, true, true, true, true]) [true, true, false, false, false, false, false, false, false, false, false, false, false, false, false, false, false, false, false, false] (sel_eq rfl rfl) (by decide +kernel) rfl 2 3 rfl rfl rfl ⟨Nat.le_of_ble_eq_true rfl, Nat.le_of_ble_eq_true rfl⟩ hl.1 (Nat.le_of_ble_eq_true rfl) (g_182 (v := 26) bX3_readFrom rfl) ⟨Nat.le_of_ble_eq_true rfl, Nat.le_of_ble_eq_true rfl⟩ (fun u_3 H locs h_2 => ?_)
  clear hP hD hS
  intro hP hD hS
  have hPD := pd_eq [_, _, zzO qd 3 [.int (nI (T_nb tA)), .int (nI (T_np tA)), .int (wb (T_wh tA)), .int (wb (T_gn tA)), .int (T_sd tA), .ref qdw, .ref qdn, .ref qdg, .ref qda, .ref qdr, .ref qdm, .ref qdt, .ref qds], zzI cy qdw 8 (T_wo tA), zzI cy qdn 8 (T_ne tA), zzI cy qdg 8 (T_go tA), zzI cy qda 8 (T_ag tA), zzI cy qdr 8 (T_re tA), zzI cy qdm 8 (T_me tA), zzI cy qdt 8 (T_te tA), zzI cy qds 64 (shF (T_kn tA)), _, _, _, _, _, _, _, _, _] hP hD h_2 rfl
  clear hP hD h_2
  obtain ⟨hP, hD⟩ := hPD
  refine lv_aload_n hx hb (g_42 bX3_readFrom rfl) rfl (lv_at hl 0 rfl) ?_
  refine lv_iconst (v := (-1)) hx hb (g_2 bX3_readFrom rfl) (by decide +kernel) ?_
  refine va_put (D := G) (ci := 2) (v := .int (-1)) (ty := .int) (C := RX3) (T := TX3) (N := 7) hx hb hts iX_X3 tyX3 tyX3_ok nmX3 hown hK hP hD hS 0 rfl rfl 5 (by decide +kernel) (hts _ m_t154) (fun _ h9 => h9) rfl (by decide +kernel) rfl rfl (Nat.le_of_ble_eq_true rfl) (g_181 (v := 30) bX3_readFrom rfl) (fun H locs => ?_)
  clear hP hD hS
  intro hP hD hS
  have hPD := pd_as [zzO qa 2 [.ref qab, .int (nI kZ), .int iT1, .int iT2, .int iT, .int (-1), .ref qd], _, _, _, _, _, _, _, _, _, _, _, _, _, _, _, _, _, _, _] hP hD rfl
  clear hP hD
  obtain ⟨hP, hD⟩ := hPD
  refine lv_aload_n hx hb (g_42 bX3_readFrom rfl) rfl (lv_at hl 0 rfl) ?_
  refine lv_iconst (v := 0) hx hb (g_3 bX3_readFrom rfl) (by decide +kernel) ?_
  refine va_put (D := G) (ci := 2) (v := .int 0) (ty := .int) (C := RX3) (T := TX3) (N := 7) hx hb hts iX_X3 tyX3 tyX3_ok nmX3 hown hK hP hD hS 0 rfl rfl 3 (by decide +kernel) (hts _ m_t152) (fun _ h9 => h9) rfl (by decide +kernel) rfl rfl (Nat.le_of_ble_eq_true rfl) (g_181 (v := 33) bX3_readFrom rfl) (fun H locs => ?_)
  clear hP hD hS
  intro hP hD hS
  have hPD := pd_as [zzO qa 2 [.ref qab, .int (nI kZ), .int iT1, .int 0, .int iT, .int (-1), .ref qd], _, _, _, _, _, _, _, _, _, _, _, _, _, _, _, _, _, _, _] hP hD rfl
  clear hP hD
  obtain ⟨hP, hD⟩ := hPD
  have hPD := pd_as [zzO qa 2 [.ref qab, .int (nI kZ), .int iT1, .int (nI 0), .int iT, .int (-1), .ref qd], _, _, _, _, _, _, _, _, _, _, _, _, _, _, _, _, _, _, _] hP hD rfl
  clear hP hD
  obtain ⟨hP, hD⟩ := hPD
  refine lv_aload_n hx hb (g_42 bX3_readFrom rfl) rfl (lv_at hl 0 rfl) ?_
  refine cVv (As := []) (rest := []) (b := qa) (q := (RX3, TX3, 7)) ⟨hx, hb, hml, hown, hts⟩ (x_X3_step l G cy (H).size qa qab kZ iT1 0 iT (-1) qd fB hZ (by omega)) L_X3_36 hN hP hD hS hA [0, 1] [false, false, true, true, true, true, true, true, true, true, true, true, true, true, true, true, true, true, true, true] rfl (by decide +kernel) rfl 0 2 rfl rfl rfl ⟨Nat.le_of_ble_eq_true rfl, Nat.le_of_ble_eq_true rfl⟩ hl.1 (Nat.le_of_ble_eq_true rfl) (g_182 (v := 36) bX3_readFrom rfl) ⟨Nat.le_of_ble_eq_true rfl, Nat.le_of_ble_eq_true rfl⟩ (fun u_6 H locs h_5 => ?_)
  clear hP hD hS
  intro hP hD hS
  obtain ⟨kX_7, kY_8, iX_9, hu9, h_10, h_11, h_12⟩ := h_5
  have hPD := pd_eq [_, _, _, _, _, _, _, _, _, _, _, _, _, _, _, _, _, _, zzO qa 2 [.ref qab, .int (nI kZ), .int (nI kX_7), .int (nI kY_8), .int iX_9, .int (-1), .ref qd], _] hP hD hu9 rfl
  clear hP hD hu9
  obtain ⟨hP, hD⟩ := hPD
  refine lv_iconst (v := 1) hx hb (g_4 bX3_readFrom rfl) (by decide +kernel) ?_
  refine lv_istore_n (lv' := [(2, .int 1), (0, .ref qa), (1, .ref qt)]) hx hb (g_61 bX3_readFrom rfl) rfl hl (by decide +kernel) rfl (fun ls => ?_)
  clear hl
  intro hl
  replace hl : lv_has ls 3 [(2, .int (nI 1)), (0, .ref qa), (1, .ref qt)] := hl
  have lp_13 : ∀ (n_14 : Nat) (j_16 : Nat) (kS1_17 : Nat) (kE1_18 : Nat) (xT_19 : Int32) (xF_20 : Int32) (tJ_21 : TA), 251 - j_16 < n_14 → j_16 ≤ 251 ∧ 1 ≤ j_16 → kS1_17 ≤ kE1_18 ∧ kE1_18 ≤ kZ → T_nb tJ_21 ≤ 8 ∧ T_np tJ_21 ≤ 8 → Lx fB kZ kS1_17 xT_19 kE1_18 → xF_20 = -1 → plp (nbf fB kZ) kZ (251 - j_16) (kS1_17, xT_19, kE1_18) tJ_21 j_16 = pall (nbf fB kZ) kZ tA → 2 * j_16 ≤ kS1_17 + 2 → ∀ (H : Heap) (locs : List Loc) (ls : Array Slot), va_P G CL [zzO qd 3 [.int (nI (T_nb tJ_21)), .int (nI (T_np tJ_21)), .int (wb (T_wh tJ_21)), .int (wb (T_gn tJ_21)), .int (T_sd tJ_21), .ref qdw, .ref qdn, .ref qdg, .ref qda, .ref qdr, .ref qdm, .ref qdt, .ref qds], zzI cy qdw 8 (T_wo tJ_21), zzI cy qdn 8 (T_ne tJ_21), zzI cy qdg 8 (T_go tJ_21), zzI cy qda 8 (T_ag tJ_21), zzI cy qdr 8 (T_re tJ_21), zzI cy qdm 8 (T_me tJ_21), zzI cy qdt 8 (T_te tJ_21), zzI cy qds 64 (shF (T_kn tJ_21)), zzO qt 3 [.int (nI (T_nb tA)), .int (nI (T_np tA)), .int (wb (T_wh tA)), .int (wb (T_gn tA)), .int (T_sd tA), .ref qtw, .ref qtn, .ref qtg, .ref qta, .ref qtr, .ref qtm, .ref qtt, .ref qts], zzI cy qtw 8 (T_wo tA), zzI cy qtn 8 (T_ne tA), zzI cy qtg 8 (T_go tA), zzI cy qta 8 (T_ag tA), zzI cy qtr 8 (T_re tA), zzI cy qtm 8 (T_me tA), zzI cy qtt 8 (T_te tA), zzI cy qts 64 (shF (T_kn tA)), zzO qa 2 [.ref qab, .int (nI kZ), .int (nI kS1_17), .int (nI kE1_18), .int xT_19, .int xF_20, .ref qd], zzB cy qab 250 fB] H → va_D A [zzO qd 3 [.int (nI (T_nb tJ_21)), .int (nI (T_np tJ_21)), .int (wb (T_wh tJ_21)), .int (wb (T_gn tJ_21)), .int (T_sd tJ_21), .ref qdw, .ref qdn, .ref qdg, .ref qda, .ref qdr, .ref qdm, .ref qdt, .ref qds], zzI cy qdw 8 (T_wo tJ_21), zzI cy qdn 8 (T_ne tJ_21), zzI cy qdg 8 (T_go tJ_21), zzI cy qda 8 (T_ag tJ_21), zzI cy qdr 8 (T_re tJ_21), zzI cy qdm 8 (T_me tJ_21), zzI cy qdt 8 (T_te tJ_21), zzI cy qds 64 (shF (T_kn tJ_21)), zzO qt 3 [.int (nI (T_nb tA)), .int (nI (T_np tA)), .int (wb (T_wh tA)), .int (wb (T_gn tA)), .int (T_sd tA), .ref qtw, .ref qtn, .ref qtg, .ref qta, .ref qtr, .ref qtm, .ref qtt, .ref qts], zzI cy qtw 8 (T_wo tA), zzI cy qtn 8 (T_ne tA), zzI cy qtg 8 (T_go tA), zzI cy qta 8 (T_ag tA), zzI cy qtr 8 (T_re tA), zzI cy qtm 8 (T_me tA), zzI cy qtt 8 (T_te tA), zzI cy qts 64 (shF (T_kn tA)), zzO qa 2 [.ref qab, .int (nI kZ), .int (nI kS1_17), .int (nI kE1_18), .int xT_19, .int xF_20, .ref qd], zzB cy qab 250 fB] → va_S A s.heap H locs → lv_has ls 3 [(2, .int (nI j_16)), (0, .ref qa), (1, .ref qt)] → W p l e (Rm 10 0 0) s m (List.toArray (α := Value) [.ref qa, .ref qt]) below meth c H locs 0 0 (MQ below ((Wi G (fun r u => ∃ (iX1 : Int32) (iX2 : Int32) (iX : Int32) (iY : Int32) (tX : TA), u = [zzO qa 2 [.ref qab, .int (nI kZ), .int iX1, .int iX2, .int iX, .int iY, .ref qd], zzB cy qab 250 fB, zzO qd 3 [.int (nI (T_nb tX)), .int (nI (T_np tX)), .int (wb (T_wh tX)), .int (wb (T_gn tX)), .int (T_sd tX), .ref qdw, .ref qdn, .ref qdg, .ref qda, .ref qdr, .ref qdm, .ref qdt, .ref qds], zzI cy qdw 8 (T_wo tX), zzI cy qdn 8 (T_ne tX), zzI cy qdg 8 (T_go tX), zzI cy qda 8 (T_ag tX), zzI cy qdr 8 (T_re tX), zzI cy qdm 8 (T_me tX), zzI cy qdt 8 (T_te tX), zzI cy qds 64 (shF (T_kn tX)), zzO qt 3 [.int (nI (T_nb tA)), .int (nI (T_np tA)), .int (wb (T_wh tA)), .int (wb (T_gn tA)), .int (T_sd tA), .ref qtw, .ref qtn, .ref qtg, .ref qta, .ref qtr, .ref qtm, .ref qtt, .ref qts], zzI cy qtw 8 (T_wo tA), zzI cy qtn 8 (T_ne tA), zzI cy qtg 8 (T_go tA), zzI cy qta 8 (T_ag tA), zzI cy qtr 8 (T_re tA), zzI cy qtm 8 (T_me tA), zzI cy qtt 8 (T_te tA), zzI cy qts 64 (shF (T_kn tA))] ∧ (T_nb tX ≤ 8 ∧ T_np tX ≤ 8) ∧ RFP (pall (nbf fB kZ) kZ tA) r iY tX ∧ (True))) A) (List.toArray (α := Value) [.ref qa, .ref qt]) s 0 0 A) (F0 m 24 ls []) := by
    intro n_14
    induction n_14 with
    | zero => intro j_16 kS1_17 kE1_18 xT_19 xF_20 tJ_21 hm9; exact absurd hm9 (Nat.not_lt_zero _)
    | succ n_14 ih_15 =>
      intro j_16 kS1_17 kE1_18 xT_19 xF_20 tJ_21 hm_29 hj_22 hSE_23 hn_24 hLx_25 hF_26 hR_27 hQ_28 H locs ls hP hD hS hl
      refine lv_iload_n hx hb (g_28 bX3_readFrom rfl) rfl (lv_at hl 0 rfl) ?_
      refine lv_sipush (v := 250) hx hb dX3_readFrom_25 (by decide +kernel) ?_
      refine lv_icmp_gt (tgt := 76) hx hb dX3_readFrom_28 (by decide +kernel) (fun c_30 => ?_) (fun c_30 => ?_)
      · exact absurd (lp_lt0 (j := 250) (by omega) (by omega) (show nI 250 < nI j_16 from c_30)) (by omega)
      · have hlt_31 : j_16 < 251 := cnt250 (by omega) c_30
        refine lv_aload_n hx hb (g_42 bX3_readFrom rfl) rfl (lv_at hl 1 rfl) ?_
        refine cVXv (As := []) (rest := []) (b := qa) (q := (RX3, TX3, 7)) ⟨hx, hb, hml, hown, hts⟩ (x_X3_readStatement l G cy (H).size qa qab kZ kS1_17 kE1_18 xT_19 xF_20 qd fB tJ_21 qdw qdn qdg qda qdr qdm qdt qds hZ hSE_23 hLx_25 hF_26 (by omega) (by omega)) L_X3_39 hN hP hD hS hA (trueIxs [[false, false, false, false, false, false, false, false, false, false, false, false, false, false, false, false, false, false, true, true], [true, true, true, true, true, true, true, true, true]]) [false, false, false, false, false, false, false, false, false, true, true, true, true, true, true, true, true, true, false, false] (sels_eq rfl rfl) (by decide +kernel) rfl 18 2 rfl rfl SO_ok hX rfl ⟨Nat.le_of_ble_eq_true rfl, Nat.le_of_ble_eq_true rfl⟩ hl.1 (Nat.le_of_ble_eq_true rfl) (g_182 (v := 39) bX3_readFrom rfl) ⟨Nat.le_of_ble_eq_true rfl, Nat.le_of_ble_eq_true rfl⟩ (fun u_34 H locs h_33 => ?_)
        clear hP hD hS
        intro hP hD hS
        obtain ⟨kX_35, kY_36, iX_37, iY_38, tX_39, hu9, h_40, h_41, h_42⟩ := h_33
        have hPD := pd_eq [_, _, _, _, _, _, _, _, _, zzO qa 2 [.ref qab, .int (nI kZ), .int (nI kX_35), .int (nI kY_36), .int iX_37, .int iY_38, .ref qd], _, zzO qd 3 [.int (nI (T_nb tX_39)), .int (nI (T_np tX_39)), .int (wb (T_wh tX_39)), .int (wb (T_gn tX_39)), .int (T_sd tX_39), .ref qdw, .ref qdn, .ref qdg, .ref qda, .ref qdr, .ref qdm, .ref qdt, .ref qds], zzI cy qdw 8 (T_wo tX_39), zzI cy qdn 8 (T_ne tX_39), zzI cy qdg 8 (T_go tX_39), zzI cy qda 8 (T_ag tX_39), zzI cy qdr 8 (T_re tX_39), zzI cy qdm 8 (T_me tX_39), zzI cy qdt 8 (T_te tX_39), zzI cy qds 64 (shF (T_kn tX_39))] hP hD hu9 rfl
        clear hP hD hu9
        obtain ⟨hP, hD⟩ := hPD
        refine lv_aload_n hx hb (g_42 bX3_readFrom rfl) rfl (lv_at hl 1 rfl) ?_
        refine va_get (D := G) (ci := 2) (v := .int iY_38) (C := RX3) (T := TX3) (N := 7) hx hb hts iX_X3 hown hK hP 9 rfl rfl 5 (by decide +kernel) (hts _ m_t154) (fun _ h9 => h9) rfl (g_180 (v := 30) bX3_readFrom rfl) ?_
        refine lv_iconst (v := (-1)) hx hb (g_2 bX3_readFrom rfl) (by decide +kernel) ?_
        refine lv_icmp_ne (tgt := 50) hx hb dX3_readFrom_40 (by decide +kernel) (fun c_43 => ?_) (fun c_43 => ?_)
        · refine lv_iload_n hx hb (g_28 bX3_readFrom rfl) rfl (lv_at hl 0 rfl) ?_
          exact endW (u := [zzO qa 2 [.ref qab, .int (nI kZ), .int (nI kX_35), .int (nI kY_36), .int iX_37, .int iY_38, .ref qd], zzB cy qab 250 fB, zzO qd 3 [.int (nI (T_nb tX_39)), .int (nI (T_np tX_39)), .int (wb (T_wh tX_39)), .int (wb (T_gn tX_39)), .int (T_sd tX_39), .ref qdw, .ref qdn, .ref qdg, .ref qda, .ref qdr, .ref qdm, .ref qdt, .ref qds], zzI cy qdw 8 (T_wo tX_39), zzI cy qdn 8 (T_ne tX_39), zzI cy qdg 8 (T_go tX_39), zzI cy qda 8 (T_ag tX_39), zzI cy qdr 8 (T_re tX_39), zzI cy qdm 8 (T_me tX_39), zzI cy qdt 8 (T_te tX_39), zzI cy qds 64 (shF (T_kn tX_39)), zzO qt 3 [.int (nI (T_nb tA)), .int (nI (T_np tA)), .int (wb (T_wh tA)), .int (wb (T_gn tA)), .int (T_sd tA), .ref qtw, .ref qtn, .ref qtg, .ref qta, .ref qtr, .ref qtm, .ref qtt, .ref qts], zzI cy qtw 8 (T_wo tA), zzI cy qtn 8 (T_ne tA), zzI cy qtg 8 (T_go tA), zzI cy qta 8 (T_ag tA), zzI cy qtr 8 (T_re tA), zzI cy qtm 8 (T_me tA), zzI cy qtt 8 (T_te tA), zzI cy qts 64 (shF (T_kn tA))]) hx hb hr hlocks rfl (pSb hP [[false, false, false, false, false, false, false, false, false, true, true, true, true, true, true, true, true, true, true, true], [true, true, true, true, true, true, true, true, true]] rfl rfl) (dSb hD [[false, false, false, false, false, false, false, false, false, true, true, true, true, true, true, true, true, true, true, true], [true, true, true, true, true, true, true, true, true]] (by decide +kernel) rfl rfl) hS ⟨nI kX_35, nI kY_36, iX_37, iY_38, tX_39, rfl, ⟨by omega, by omega⟩, (rf_e (n := 250 - j_16) (by rw [show 250 - j_16 + 1 = 251 - j_16 by omega]; exact hR_27) h_42 c_43), trivial⟩ (g_172 bX3_readFrom rfl)
        · refine lv_aload_n hx hb (g_42 bX3_readFrom rfl) rfl (lv_at hl 1 rfl) ?_
          refine va_get (D := G) (ci := 2) (v := .int iX_37) (C := RX3) (T := TX3) (N := 7) hx hb hts iX_X3 hown hK hP 9 rfl rfl 4 (by decide +kernel) (hts _ m_t153) (fun _ h9 => h9) rfl (g_180 (v := 42) bX3_readFrom rfl) ?_
          refine lv_if_ne (tgt := 52) hx hb dX3_readFrom_47 (by decide +kernel) (fun c_44 => ?_) (fun c_44 => ?_)
          · refine lv_aload_n hx hb (g_42 bX3_readFrom rfl) rfl (lv_at hl 1 rfl) ?_
            refine va_get (D := G) (ci := 2) (v := .int iX_37) (C := RX3) (T := TX3) (N := 7) hx hb hts iX_X3 hown hK hP 9 rfl rfl 4 (by decide +kernel) (hts _ m_t153) (fun _ h9 => h9) rfl (g_180 (v := 42) bX3_readFrom rfl) ?_
            refine lv_iconst (v := 3) hx hb (g_6 bX3_readFrom rfl) (by decide +kernel) ?_
            refine lv_icmp_eq (tgt := 66) hx hb dX3_readFrom_57 (by decide +kernel) (fun c_45 => ?_) (fun c_45 => ?_)
            · refine lv_aload_n hx hb (g_42 bX3_readFrom rfl) rfl (lv_at hl 1 rfl) ?_
              refine cVv (As := []) (rest := []) (b := qa) (q := (RX3, TX3, 7)) ⟨hx, hb, hml, hown, hts⟩ (x_X3_step l G cy (H).size qa qab kZ (nI kX_35) kY_36 iX_37 iY_38 qd fB hZ (by omega)) L_X3_36 hN hP hD hS hA [9, 10] [true, true, true, true, true, true, true, true, true, false, false, true, true, true, true, true, true, true, true, true] rfl (by decide +kernel) rfl 9 2 rfl rfl rfl ⟨Nat.le_of_ble_eq_true rfl, Nat.le_of_ble_eq_true rfl⟩ hl.1 (Nat.le_of_ble_eq_true rfl) (g_182 (v := 36) bX3_readFrom rfl) ⟨Nat.le_of_ble_eq_true rfl, Nat.le_of_ble_eq_true rfl⟩ (fun u_48 H locs h_47 => ?_)
              clear hP hD hS
              intro hP hD hS
              obtain ⟨kX_49, kY_50, iX_51, hu9, h_52, h_53, h_54⟩ := h_47
              have hPD := pd_eq [_, _, _, _, _, _, _, _, _, _, _, _, _, _, _, _, _, _, zzO qa 2 [.ref qab, .int (nI kZ), .int (nI kX_49), .int (nI kY_50), .int iX_51, .int iY_38, .ref qd], _] hP hD hu9 rfl
              clear hP hD hu9
              obtain ⟨hP, hD⟩ := hPD
              refine lv_iinc (v := nI (j_16 + 1)) (lv' := [(2, .int (nI (j_16 + 1))), (0, .ref qa), (1, .ref qt)]) hx hb dX3_readFrom_70 hl (k := 0) rfl (nI_1 _) (by decide +kernel) rfl (fun ls => ?_)
              clear hl
              intro hl
              refine lv_goto (tgt := 24) hx hb dX3_readFrom_73 (by decide +kernel) ?_
              exact ih_15 (j_16 + 1) kX_49 kY_50 iX_51 iY_38 tX_39 (by omega) (⟨by omega, by omega⟩) (⟨by omega, by omega⟩) (⟨by omega, by omega⟩) h_54 c_43 (by rw [show 251 - (j_16 + 1) = 250 - j_16 by omega]; exact rf_go (n := 250 - j_16) (by rw [show 250 - j_16 + 1 = 251 - j_16 by omega]; exact hR_27) h_42 c_43 c_45 h_53) (by have := rf_adv hLx_25 h_42 c_43 h_53; omega) _ _ _ (pSb hP [[false, false, false, false, false, false, false, false, false, true, true, true, true, true, true, true, true, true], [true, true, true, true, true, true, true, true, true, false, false, false, false, false, false, false, false, false, true, true]] rfl rfl) (dSb hD [[false, false, false, false, false, false, false, false, false, true, true, true, true, true, true, true, true, true], [true, true, true, true, true, true, true, true, true, false, false, false, false, false, false, false, false, false, true, true]] (by decide +kernel) rfl rfl) hS (lv_sub hl [0, 1, 2] rfl)
            · refine lv_aload_n hx hb (g_42 bX3_readFrom rfl) rfl (lv_at hl 1 rfl) ?_
              refine cVv (As := []) (rest := []) (b := qa) (q := (RX3, TX3, 7)) ⟨hx, hb, hml, hown, hts⟩ (x_X3_fail l G cy (H).size qa qab kZ kX_35 kY_36 iX_37 iY_38 qd hZ (by omega)) L_X3_45 hN hP hD hS hA [9] [true, true, true, true, true, true, true, true, true, false, true, true, true, true, true, true, true, true, true, true] rfl (by decide +kernel) rfl 9 2 rfl rfl rfl ⟨Nat.le_of_ble_eq_true rfl, Nat.le_of_ble_eq_true rfl⟩ hl.1 (Nat.le_of_ble_eq_true rfl) (g_182 (v := 45) bX3_readFrom rfl) ⟨Nat.le_of_ble_eq_true rfl, Nat.le_of_ble_eq_true rfl⟩ (fun u_57 H locs h_56 => ?_)
              clear hP hD hS
              intro hP hD hS
              obtain ⟨iX_58, hu9, h_59, h_60⟩ := h_56
              have hPD := pd_eq [_, _, _, _, _, _, _, _, _, _, _, _, _, _, _, _, _, _, _, zzO qa 2 [.ref qab, .int (nI kZ), .int (nI kX_35), .int (nI kY_36), .int iX_37, .int iX_58, .ref qd]] hP hD hu9 rfl
              clear hP hD hu9
              obtain ⟨hP, hD⟩ := hPD
              refine lv_iload_n hx hb (g_28 bX3_readFrom rfl) rfl (lv_at hl 0 rfl) ?_
              exact endW (u := [zzO qa 2 [.ref qab, .int (nI kZ), .int (nI kX_35), .int (nI kY_36), .int iX_37, .int iX_58, .ref qd], zzB cy qab 250 fB, zzO qd 3 [.int (nI (T_nb tX_39)), .int (nI (T_np tX_39)), .int (wb (T_wh tX_39)), .int (wb (T_gn tX_39)), .int (T_sd tX_39), .ref qdw, .ref qdn, .ref qdg, .ref qda, .ref qdr, .ref qdm, .ref qdt, .ref qds], zzI cy qdw 8 (T_wo tX_39), zzI cy qdn 8 (T_ne tX_39), zzI cy qdg 8 (T_go tX_39), zzI cy qda 8 (T_ag tX_39), zzI cy qdr 8 (T_re tX_39), zzI cy qdm 8 (T_me tX_39), zzI cy qdt 8 (T_te tX_39), zzI cy qds 64 (shF (T_kn tX_39)), zzO qt 3 [.int (nI (T_nb tA)), .int (nI (T_np tA)), .int (wb (T_wh tA)), .int (wb (T_gn tA)), .int (T_sd tA), .ref qtw, .ref qtn, .ref qtg, .ref qta, .ref qtr, .ref qtm, .ref qtt, .ref qts], zzI cy qtw 8 (T_wo tA), zzI cy qtn 8 (T_ne tA), zzI cy qtg 8 (T_go tA), zzI cy qta 8 (T_ag tA), zzI cy qtr 8 (T_re tA), zzI cy qtm 8 (T_me tA), zzI cy qtt 8 (T_te tA), zzI cy qts 64 (shF (T_kn tA))]) hx hb hr hlocks rfl (pSb hP [[false, false, false, false, false, false, false, false, false, false, false, false, false, false, false, false, false, false, false, true], [false, false, false, false, false, false, false, false, false, true, true, true, true, true, true, true, true, true, true], [true, true, true, true, true, true, true, true, true]] rfl rfl) (dSb hD [[false, false, false, false, false, false, false, false, false, false, false, false, false, false, false, false, false, false, false, true], [false, false, false, false, false, false, false, false, false, true, true, true, true, true, true, true, true, true, true], [true, true, true, true, true, true, true, true, true]] (by decide +kernel) rfl rfl) hS ⟨nI kX_35, nI kY_36, iX_37, iX_58, tX_39, rfl, ⟨by omega, by omega⟩, (rf_w (n := 250 - j_16) (by rw [show 250 - j_16 + 1 = 251 - j_16 by omega]; exact hR_27) h_42 c_43 c_44 c_45 (by omega) h_60), trivial⟩ (g_172 bX3_readFrom rfl)
          · refine lv_iload_n hx hb (g_28 bX3_readFrom rfl) rfl (lv_at hl 0 rfl) ?_
            exact endW (u := [zzO qa 2 [.ref qab, .int (nI kZ), .int (nI kX_35), .int (nI kY_36), .int iX_37, .int iY_38, .ref qd], zzB cy qab 250 fB, zzO qd 3 [.int (nI (T_nb tX_39)), .int (nI (T_np tX_39)), .int (wb (T_wh tX_39)), .int (wb (T_gn tX_39)), .int (T_sd tX_39), .ref qdw, .ref qdn, .ref qdg, .ref qda, .ref qdr, .ref qdm, .ref qdt, .ref qds], zzI cy qdw 8 (T_wo tX_39), zzI cy qdn 8 (T_ne tX_39), zzI cy qdg 8 (T_go tX_39), zzI cy qda 8 (T_ag tX_39), zzI cy qdr 8 (T_re tX_39), zzI cy qdm 8 (T_me tX_39), zzI cy qdt 8 (T_te tX_39), zzI cy qds 64 (shF (T_kn tX_39)), zzO qt 3 [.int (nI (T_nb tA)), .int (nI (T_np tA)), .int (wb (T_wh tA)), .int (wb (T_gn tA)), .int (T_sd tA), .ref qtw, .ref qtn, .ref qtg, .ref qta, .ref qtr, .ref qtm, .ref qtt, .ref qts], zzI cy qtw 8 (T_wo tA), zzI cy qtn 8 (T_ne tA), zzI cy qtg 8 (T_go tA), zzI cy qta 8 (T_ag tA), zzI cy qtr 8 (T_re tA), zzI cy qtm 8 (T_me tA), zzI cy qtt 8 (T_te tA), zzI cy qts 64 (shF (T_kn tA))]) hx hb hr hlocks rfl (pSb hP [[false, false, false, false, false, false, false, false, false, true, true, true, true, true, true, true, true, true, true, true], [true, true, true, true, true, true, true, true, true]] rfl rfl) (dSb hD [[false, false, false, false, false, false, false, false, false, true, true, true, true, true, true, true, true, true, true, true], [true, true, true, true, true, true, true, true, true]] (by decide +kernel) rfl rfl) hS ⟨nI kX_35, nI kY_36, iX_37, iY_38, tX_39, rfl, ⟨by omega, by omega⟩, (rf_0 (n := 250 - j_16) (by rw [show 250 - j_16 + 1 = 251 - j_16 by omega]; exact hR_27) h_42 c_43 c_44), trivial⟩ (g_172 bX3_readFrom rfl)
  exact lp_13 ((251 - 1) + 1) 1 kX_7 kY_8 iX_9 (-1) tA (Nat.lt_succ_self _) (⟨by omega, by omega⟩) (⟨by omega, by omega⟩) (⟨by omega, by omega⟩) h_12 rfl (show plp (nbf fB kZ) kZ 250 (kX_7, iX_9, kY_8) tA 1 = pall (nbf fB kZ) kZ tA by unfold pall; rw [h_11]) (by omega) _ _ ls hP hD hS (lv_sub hl [0, 1, 2] rfl)
set_option maxHeartbeats 4000000 in
set_option maxRecDepth 100000 in
theorem x_X5_town (l : Launch) (G : va_G) (cy : Nat → ClassId) (sz : Nat) (qx : Nat) (qt : Nat) (qk : Nat) (qp : Nat) (qs : Nat) (qa : Nat) (qr : Nat) (iKp : Int32) (iYe : Int32) (iTv : Int32) (fR : Nat → Int32) (tA : TA) (qtw : Nat) (qtn : Nat) (qtg : Nat) (qta : Nat) (qtr : Nat) (qtm : Nat) (qtt : Nat) (qts : Nat) (qab : Nat) (kZ : Nat) (iT1 : Int32) (iT2 : Int32) (iT3 : Int32) (iT4 : Int32) (qd : Nat) (fB : Nat → Int32) (tD : TA) (qdw : Nat) (qdn : Nat) (qdg : Nat) (qda : Nat) (qdr : Nat) (qdm : Nat) (qdt : Nat) (qds : Nat)  (hDb : T_nb tD ≤ 8) (hB : T_nb tA ≤ 8) (hPp : T_np tA ≤ 8) (hZ : kZ ≤ 250) : MWX l yX5_town cX5_town 2 (some .int) 14 0 0 G cy SO [zzO qx 4 [.ref qt, .ref qk, .ref qp, .ref qs, .ref qa, .ref qr, .int iKp, .int iYe, .int iTv], zzI cy qr 5 fR, zzO qt 3 [.int (nI (T_nb tA)), .int (nI (T_np tA)), .int (wb (T_wh tA)), .int (wb (T_gn tA)), .int (T_sd tA), .ref qtw, .ref qtn, .ref qtg, .ref qta, .ref qtr, .ref qtm, .ref qtt, .ref qts], zzI cy qtw 8 (T_wo tA), zzI cy qtn 8 (T_ne tA), zzI cy qtg 8 (T_go tA), zzI cy qta 8 (T_ag tA), zzI cy qtr 8 (T_re tA), zzI cy qtm 8 (T_me tA), zzI cy qtt 8 (T_te tA), zzI cy qts 64 (shF (T_kn tA)), zzO qa 2 [.ref qab, .int (nI kZ), .int iT1, .int iT2, .int iT3, .int iT4, .ref qd], zzB cy qab 250 fB, zzO qd 3 [.int (nI (T_nb tD)), .int (nI (T_np tD)), .int (wb (T_wh tD)), .int (wb (T_gn tD)), .int (T_sd tD), .ref qdw, .ref qdn, .ref qdg, .ref qda, .ref qdr, .ref qdm, .ref qdt, .ref qds], zzI cy qdw 8 (T_wo tD), zzI cy qdn 8 (T_ne tD), zzI cy qdg 8 (T_go tD), zzI cy qda 8 (T_ag tD), zzI cy qdr 8 (T_re tD), zzI cy qdm 8 (T_me tD), zzI cy qdt 8 (T_te tD), zzI cy qds 64 (shF (T_kn tD))] sz [.ref qx] (Wi G (fun r u => ∃ (fX : Nat → Int32) (tN : TA) (kY : Nat) (iX4 : Int32) (iX5 : Int32) (iX6 : Int32) (iX7 : Int32) (tO : TA), u = [zzO qx 4 [.ref qt, .ref qk, .ref qp, .ref qs, .ref qa, .ref qr, .int iKp, .int iYe, .int iTv], zzI cy qr 5 fX, zzO qt 3 [.int (nI (T_nb tN)), .int (nI (T_np tN)), .int (wb (T_wh tN)), .int (wb (T_gn tN)), .int (T_sd tN), .ref qtw, .ref qtn, .ref qtg, .ref qta, .ref qtr, .ref qtm, .ref qtt, .ref qts], zzI cy qtw 8 (T_wo tN), zzI cy qtn 8 (T_ne tN), zzI cy qtg 8 (T_go tN), zzI cy qta 8 (T_ag tN), zzI cy qtr 8 (T_re tN), zzI cy qtm 8 (T_me tN), zzI cy qtt 8 (T_te tN), zzI cy qts 64 (shF (T_kn tN)), zzO qa 2 [.ref qab, .int (nI kY), .int iX4, .int iX5, .int iX6, .int iX7, .ref qd], zzB cy qab 250 fB, zzO qd 3 [.int (nI (T_nb tO)), .int (nI (T_np tO)), .int (wb (T_wh tO)), .int (wb (T_gn tO)), .int (T_sd tO), .ref qdw, .ref qdn, .ref qdg, .ref qda, .ref qdr, .ref qdm, .ref qdt, .ref qds], zzI cy qdw 8 (T_wo tO), zzI cy qdn 8 (T_ne tO), zzI cy qdg 8 (T_go tO), zzI cy qda 8 (T_ag tO), zzI cy qdr 8 (T_re tO), zzI cy qdm 8 (T_me tO), zzI cy qdt 8 (T_te tO), zzI cy qds 64 (shF (T_kn tO))] ∧ (T_nb tN ≤ 8 ∧ T_np tN ≤ 8 ∧ kY = 0 ∧ T_nb tO ≤ 8 ∧ PXtown (pall (nbf fB kZ) kZ tA) tA r tN) ∧ (True))) := by
  refine enWX RX5 (by decide +kernel) rfl (Nat.le_of_ble_eq_true rfl) (fun p e s m below meth c ls A hx hb hml hown hts hr hlocks hP hN hl hin hD hA hS hX => ?_)
  have hin : meth.name = _ := hin
  have hK := hN.1
  replace hl : lv_has ls 2 [(0, .ref qx)] := hl
  refine lv_aload_n hx hb (g_42 bX5_town rfl) rfl (lv_at hl 0 rfl) ?_
  refine va_get (D := G) (ci := 4) (v := .ref qa) (C := RX5) (T := TX5) (N := 9) hx hb hts iX_X5 hown hK hP 0 rfl rfl 4 (by decide +kernel) (hts _ m_t178) (fun _ h9 => h9) rfl (g_180 (v := 36) bX5_town rfl) ?_
  refine lv_aload_n hx hb (g_42 bX5_town rfl) rfl (lv_at hl 0 rfl) ?_
  refine va_get (D := G) (ci := 4) (v := .ref qt) (C := RX5) (T := TX5) (N := 9) hx hb hts iX_X5 hown hK hP 0 rfl rfl 0 (by decide +kernel) (hts _ m_t174) (fun _ h9 => h9) rfl (g_180 (v := 10) bX5_town rfl) ?_
  refine cVXi (As := [.ref qt]) (rest := []) (b := qa) (q := (RX3, TX3, 7)) ⟨hx, hb, hml, hown, hts⟩ (x_X3_readFrom l G cy (s.heap).size qa qab kZ iT1 iT2 iT3 iT4 qd fB tD qdw qdn qdg qda qdr qdm qdt qds qt tA qtw qtn qtg qta qtr qtm qtt qts hZ hB hPp) L_X5_154 hN hP hD hS hA (trueIxs [[false, false, false, false, false, false, false, false, false, false, false, true, true, true, true, true, true, true, true, true, true, true], [false, false, true, true, true, true, true, true, true, true, true]]) [true, true, false, false, false, false, false, false, false, false, false, false, false, false, false, false, false, false, false, false, false, false] (sels_eq rfl rfl) (by decide +kernel) rfl 11 2 rfl rfl SO_ok hX rfl ⟨Nat.le_of_ble_eq_true rfl, Nat.le_of_ble_eq_true rfl⟩ hl.1 (Nat.le_of_ble_eq_true rfl) (g_182 (v := 154) bX5_town rfl) ⟨Nat.le_of_ble_eq_true rfl, Nat.le_of_ble_eq_true rfl⟩ (fun r_1 u_3 H locs h_2 => ?_)
  clear hP hD hS
  intro hP hD hS
  obtain ⟨iX_4, iX_5, iX_6, iY_7, tX_8, hu9, h_9, h_10, h_2⟩ := h_2
  have hPD := pd_eq [_, _, zzO qa 2 [.ref qab, .int (nI kZ), .int iX_4, .int iX_5, .int iX_6, .int iY_7, .ref qd], _, zzO qd 3 [.int (nI (T_nb tX_8)), .int (nI (T_np tX_8)), .int (wb (T_wh tX_8)), .int (wb (T_gn tX_8)), .int (T_sd tX_8), .ref qdw, .ref qdn, .ref qdg, .ref qda, .ref qdr, .ref qdm, .ref qdt, .ref qds], zzI cy qdw 8 (T_wo tX_8), zzI cy qdn 8 (T_ne tX_8), zzI cy qdg 8 (T_go tX_8), zzI cy qda 8 (T_ag tX_8), zzI cy qdr 8 (T_re tX_8), zzI cy qdm 8 (T_me tX_8), zzI cy qdt 8 (T_te tX_8), zzI cy qds 64 (shF (T_kn tX_8)), _, _, _, _, _, _, _, _, _] hP hD hu9 rfl
  clear hP hD hu9
  obtain ⟨hP, hD⟩ := hPD
  refine lv_istore_n (lv' := [(1, .int r_1), (0, .ref qx)]) hx hb (g_60 bX5_town rfl) rfl hl (by decide +kernel) rfl (fun ls => ?_)
  clear hl
  intro hl
  refine lv_aload_n hx hb (g_42 bX5_town rfl) rfl (lv_at hl 1 rfl) ?_
  refine va_get (D := G) (ci := 4) (v := .ref qa) (C := RX5) (T := TX5) (N := 9) hx hb hts iX_X5 hown hK hP 0 rfl rfl 4 (by decide +kernel) (hts _ m_t178) (fun _ h9 => h9) rfl (g_180 (v := 36) bX5_town rfl) ?_
  refine lv_iconst (v := 0) hx hb (g_3 bX5_town rfl) (by decide +kernel) ?_
  refine va_putN (D := G) (ci := 2) (v := .int 0) (ty := .int) (C := RX3) (T := TX3) (N := 7) hx hb hts iX_X3 tyX3 tyX3_ok nmX3 hown hK hP hD hS 2 rfl rfl 1 (by decide +kernel) (va_Nw.use rfl (hN.2.1 (RX5, 148, "EachBookOnce$Tape", "size", "I") (List.mem_of_getElem? (i := 29) rfl))) (fun _ h9 => h9) rfl (by decide +kernel) rfl rfl (Nat.le_of_ble_eq_true rfl) (g_181 (v := 148) bX5_town rfl) (fun H locs => ?_)
  clear hP hD hS
  intro hP hD hS
  have hPD := pd_as [_, _, zzO qa 2 [.ref qab, .int 0, .int iX_4, .int iX_5, .int iX_6, .int iY_7, .ref qd], _, _, _, _, _, _, _, _, _, _, _, _, _, _, _, _, _, _, _] hP hD rfl
  clear hP hD
  obtain ⟨hP, hD⟩ := hPD
  refine lv_aload_n hx hb (g_42 bX5_town rfl) rfl (lv_at hl 1 rfl) ?_
  refine va_get (D := G) (ci := 4) (v := .ref qa) (C := RX5) (T := TX5) (N := 9) hx hb hts iX_X5 hown hK hP 0 rfl rfl 4 (by decide +kernel) (hts _ m_t178) (fun _ h9 => h9) rfl (g_180 (v := 36) bX5_town rfl) ?_
  refine va_getN (D := G) (ci := 2) (v := .int iY_7) (C := RX3) (T := TX3) (N := 7) hx hb hts iX_X3 hown hK hP 2 rfl rfl 5 (by decide +kernel) (va_Nw.use rfl (hN.2.1 (RX5, 158, "EachBookOnce$Tape", "fault", "I") (List.mem_of_getElem? (i := 30) rfl))) (fun _ h9 => h9) rfl (g_180 (v := 158) bX5_town rfl) ?_
  refine lv_iconst (v := (-1)) hx hb (g_2 bX5_town rfl) (by decide +kernel) ?_
  refine lv_icmp_eq (tgt := 49) hx hb dX5_town_28 (by decide +kernel) (fun c_11 => ?_) (fun c_11 => ?_)
  · refine lv_aload_n hx hb (g_42 bX5_town rfl) rfl (lv_at hl 1 rfl) ?_
    refine va_get (D := G) (ci := 4) (v := .ref qt) (C := RX5) (T := TX5) (N := 9) hx hb hts iX_X5 hown hK hP 0 rfl rfl 0 (by decide +kernel) (hts _ m_t174) (fun _ h9 => h9) rfl (g_180 (v := 10) bX5_town rfl) ?_
    refine lv_aload_n hx hb (g_42 bX5_town rfl) rfl (lv_at hl 1 rfl) ?_
    refine va_get (D := G) (ci := 4) (v := .ref qa) (C := RX5) (T := TX5) (N := 9) hx hb hts iX_X5 hown hK hP 0 rfl rfl 4 (by decide +kernel) (hts _ m_t178) (fun _ h9 => h9) rfl (g_180 (v := 36) bX5_town rfl) ?_
    refine va_getN (D := G) (ci := 2) (v := .ref qd) (C := RX3) (T := TX3) (N := 7) hx hb hts iX_X3 hown hK hP 2 rfl rfl 6 (by decide +kernel) (va_Nw.use rfl (hN.2.1 (RX5, 161, "EachBookOnce$Tape", "draft", "LEachBookOnce$Town;") (List.mem_of_getElem? (i := 31) rfl))) (fun _ h9 => h9) rfl (g_180 (v := 161) bX5_town rfl) ?_
    refine cVv (As := [.ref qd]) (rest := []) (b := qt) (q := (RX4, TX4, 13)) ⟨hx, hb, hml, hown, hts⟩ (c_X4_become l G cy (H).size qt tA qtw qtn qtg qta qtr qtm qtt qts qd tX_8 qdw qdn qdg qda qdr qdm qdt qds) L_X5_164 hN hP hD hS hA (trueIxs [[false, false, false, false, false, false, false, false, false, false, false, false, false, true, true, true, true, true, true, true, true, true], [false, false, false, false, true, true, true, true, true, true, true, true, true]]) [true, true, true, true, false, false, false, false, false, false, false, false, false, false, false, false, false, false, false, false, false, false] (sels_eq rfl rfl) (by decide +kernel) rfl 13 3 rfl rfl rfl ⟨Nat.le_of_ble_eq_true rfl, Nat.le_of_ble_eq_true rfl⟩ hl.1 (Nat.le_of_ble_eq_true rfl) (g_182 (v := 164) bX5_town rfl) ⟨Nat.le_of_ble_eq_true rfl, Nat.le_of_ble_eq_true rfl⟩ (fun u_14 H locs h_13 => ?_)
    clear hP hD hS
    intro hP hD hS
    have hPD := pd_eq [_, _, _, _, zzO qt 3 [.int (nI (T_nb tX_8)), .int (nI (T_np tX_8)), .int (wb (T_wh tX_8)), .int (wb (T_gn tX_8)), .int (T_sd tX_8), .ref qtw, .ref qtn, .ref qtg, .ref qta, .ref qtr, .ref qtm, .ref qtt, .ref qts], zzI cy qtw 8 (T_wo tX_8), zzI cy qtn 8 (T_ne tX_8), zzI cy qtg 8 (T_go tX_8), zzI cy qta 8 (T_ag tX_8), zzI cy qtr 8 (T_re tX_8), zzI cy qtm 8 (T_me tX_8), zzI cy qtt 8 (T_te tX_8), zzI cy qts 64 (shF (T_kn tX_8)), _, _, _, _, _, _, _, _, _] hP hD h_13 rfl
    clear hP hD h_13
    obtain ⟨hP, hD⟩ := hPD
    refine lv_iload_n hx hb (g_27 bX5_town rfl) rfl (lv_at hl 0 rfl) ?_
    exact endWs [[true, true, false, false, true, true, true, true, true, true, true, true, true], [false, false, true, true, false, false, false, false, false, false, false, false, false, true, true, true, true, true, true, true, true, true]] hx hb hr hlocks rfl hP hD rfl (by decide +kernel) hS ⟨fR, tX_8, 0, iX_4, iX_5, iX_6, iY_7, tX_8, rfl, ⟨by omega, by omega, rfl, by omega, twn_i h_10 c_11⟩, trivial⟩ (g_172 bX5_town rfl)
  · refine lv_aload_n hx hb (g_42 bX5_town rfl) rfl (lv_at hl 1 rfl) ?_
    refine lv_bipush (v := (-2)) hx hb dX5_town_32 (by decide +kernel) ?_
    refine cVi (As := [.int (-2)]) (rest := []) (b := qx) (q := (RX5, TX5, 9)) ⟨hx, hb, hml, hown, hts⟩ (c_X5_refuse2 l G cy (H).size qx qt qk qp qs qa qr iKp iYe iTv fR) L_X5_56 hN hP hD hS hA [0, 1] [false, false, true, true, true, true, true, true, true, true, true, true, true, true, true, true, true, true, true, true, true, true] rfl (by decide +kernel) rfl 0 4 rfl rfl rfl ⟨Nat.le_of_ble_eq_true rfl, Nat.le_of_ble_eq_true rfl⟩ hl.1 (Nat.le_of_ble_eq_true rfl) (g_182 (v := 56) bX5_town rfl) ⟨Nat.le_of_ble_eq_true rfl, Nat.le_of_ble_eq_true rfl⟩ (fun r_15 u_17 H locs h_16 => ?_)
    clear hP hD hS
    intro hP hD hS
    obtain ⟨fX_18, hu9, h_16⟩ := h_16
    have hPD := pd_eq [_, _, _, _, _, _, _, _, _, _, _, _, _, _, _, _, _, _, _, _, _, zzI cy qr 5 fX_18] hP hD hu9 rfl
    clear hP hD hu9
    obtain ⟨hP, hD⟩ := hPD
    subst h_16
    refine lv_pop hx hb (g_87 bX5_town rfl) rfl ?_
    refine lv_bipush (v := (-20)) hx hb dX5_town_38 (by decide +kernel) ?_
    refine lv_aload_n hx hb (g_42 bX5_town rfl) rfl (lv_at hl 1 rfl) ?_
    refine va_get (D := G) (ci := 4) (v := .ref qa) (C := RX5) (T := TX5) (N := 9) hx hb hts iX_X5 hown hK hP 20 rfl rfl 4 (by decide +kernel) (hts _ m_t178) (fun _ h9 => h9) rfl (g_180 (v := 36) bX5_town rfl) ?_
    refine va_getN (D := G) (ci := 2) (v := .int iY_7) (C := RX3) (T := TX3) (N := 7) hx hb hts iX_X3 hown hK hP 0 rfl rfl 5 (by decide +kernel) (va_Nw.use rfl (hN.2.1 (RX5, 158, "EachBookOnce$Tape", "fault", "I") (List.mem_of_getElem? (i := 30) rfl))) (fun _ h9 => h9) rfl (g_180 (v := 158) bX5_town rfl) ?_
    refine lv_isub hx hb (g_100 bX5_town rfl) ?_
    exact endWs [[false, false, false, false, false, false, false, false, false, false, false, false, false, false, false, false, false, false, false, false, true, true], [false, false, false, false, false, false, false, false, false, false, false, true, true, true, true, true, true, true, true, true], [true, true, true, true, true, true, true, true, true, true, true]] hx hb hr hlocks rfl hP hD rfl (by decide +kernel) hS ⟨fX_18, tA, 0, iX_4, iX_5, iX_6, iY_7, tX_8, rfl, ⟨by omega, by omega, rfl, by omega, twn_e h_10 c_11⟩, trivial⟩ (g_172 bX5_town rfl)
