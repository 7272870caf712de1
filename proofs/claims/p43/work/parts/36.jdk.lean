theorem dJ0_charAt_5068e_0 : decode cJ0_charAt_5068e 0 = .ok (.aload_n 0, 1) := by decide +kernel
theorem dJ0_charAt_5068e_1 : decode cJ0_charAt_5068e 1 = .ok (.invokevirtual 492, 3) := by decide +kernel
theorem dJ0_charAt_5068e_4 : decode cJ0_charAt_5068e 4 = .ok (.ifCond .eq 12, 3) := by decide +kernel
theorem dJ0_charAt_5068e_7 : decode cJ0_charAt_5068e 7 = .ok (.aload_n 0, 1) := by decide +kernel
theorem dJ0_charAt_5068e_8 : decode cJ0_charAt_5068e 8 = .ok (.getfield 9, 3) := by decide +kernel
theorem dJ0_charAt_5068e_11 : decode cJ0_charAt_5068e 11 = .ok (.iload_n 1, 1) := by decide +kernel
theorem dJ0_charAt_5068e_12 : decode cJ0_charAt_5068e 12 = .ok (.invokestatic 495, 3) := by decide +kernel
theorem dJ0_charAt_5068e_15 : decode cJ0_charAt_5068e 15 = .ok (.ireturn, 1) := by decide +kernel
theorem dJ0_checkIndex_df160_0 : decode cJ0_checkIndex_df160 0 = .ok (.iload_n 0, 1) := by decide +kernel
theorem dJ0_checkIndex_df160_1 : decode cJ0_checkIndex_df160 1 = .ok (.iload_n 1, 1) := by decide +kernel
theorem dJ0_checkIndex_df160_2 : decode cJ0_checkIndex_df160 2 = .ok (.getstatic 1053, 3) := by decide +kernel
theorem dJ0_checkIndex_df160_5 : decode cJ0_checkIndex_df160 5 = .ok (.invokestatic 1059, 3) := by decide +kernel
theorem dJ0_checkIndex_df160_8 : decode cJ0_checkIndex_df160 8 = .ok (.pop, 1) := by decide +kernel
theorem dJ0_checkIndex_df160_9 : decode cJ0_checkIndex_df160 9 = .ok (.return_, 1) := by decide +kernel
theorem dJ0_coder_7d493_0 : decode cJ0_coder_7d493 0 = .ok (.getstatic 38, 3) := by decide +kernel
theorem dJ0_coder_7d493_3 : decode cJ0_coder_7d493 3 = .ok (.ifCond .eq 10, 3) := by decide +kernel
theorem dJ0_coder_7d493_6 : decode cJ0_coder_7d493 6 = .ok (.aload_n 0, 1) := by decide +kernel
theorem dJ0_coder_7d493_7 : decode cJ0_coder_7d493 7 = .ok (.getfield 15, 3) := by decide +kernel
theorem dJ0_coder_7d493_10 : decode cJ0_coder_7d493 10 = .ok (.goto 4, 3) := by decide +kernel
theorem dJ0_coder_7d493_14 : decode cJ0_coder_7d493 14 = .ok (.ireturn, 1) := by decide +kernel
theorem dJ0_isLatin1_aae02_0 : decode cJ0_isLatin1_aae02 0 = .ok (.getstatic 38, 3) := by decide +kernel
theorem dJ0_isLatin1_aae02_3 : decode cJ0_isLatin1_aae02 3 = .ok (.ifCond .eq 14, 3) := by decide +kernel
theorem dJ0_isLatin1_aae02_6 : decode cJ0_isLatin1_aae02 6 = .ok (.aload_n 0, 1) := by decide +kernel
theorem dJ0_isLatin1_aae02_7 : decode cJ0_isLatin1_aae02 7 = .ok (.getfield 15, 3) := by decide +kernel
theorem dJ0_isLatin1_aae02_10 : decode cJ0_isLatin1_aae02 10 = .ok (.ifCond .ne 7, 3) := by decide +kernel
theorem dJ0_isLatin1_aae02_13 : decode cJ0_isLatin1_aae02 13 = .ok (.iconst 1, 1) := by decide +kernel
theorem dJ0_isLatin1_aae02_14 : decode cJ0_isLatin1_aae02 14 = .ok (.goto 4, 3) := by decide +kernel
theorem dJ0_isLatin1_aae02_18 : decode cJ0_isLatin1_aae02 18 = .ok (.ireturn, 1) := by decide +kernel
theorem dJ0_length_8abf5_0 : decode cJ0_length_8abf5 0 = .ok (.aload_n 0, 1) := by decide +kernel
theorem dJ0_length_8abf5_1 : decode cJ0_length_8abf5 1 = .ok (.getfield 9, 3) := by decide +kernel
theorem dJ0_length_8abf5_4 : decode cJ0_length_8abf5 4 = .ok (.arraylength, 1) := by decide +kernel
theorem dJ0_length_8abf5_5 : decode cJ0_length_8abf5 5 = .ok (.aload_n 0, 1) := by decide +kernel
theorem dJ0_length_8abf5_6 : decode cJ0_length_8abf5 6 = .ok (.invokevirtual 335, 3) := by decide +kernel
theorem dJ0_length_8abf5_9 : decode cJ0_length_8abf5 9 = .ok (.ishr, 1) := by decide +kernel
theorem dJ0_length_8abf5_10 : decode cJ0_length_8abf5 10 = .ok (.ireturn, 1) := by decide +kernel
theorem dJ1_charAt_3b067_0 : decode cJ1_charAt_3b067 0 = .ok (.iload_n 1, 1) := by decide +kernel
theorem dJ1_charAt_3b067_1 : decode cJ1_charAt_3b067 1 = .ok (.aload_n 0, 1) := by decide +kernel
theorem dJ1_charAt_3b067_2 : decode cJ1_charAt_3b067 2 = .ok (.arraylength, 1) := by decide +kernel
theorem dJ1_charAt_3b067_3 : decode cJ1_charAt_3b067 3 = .ok (.invokestatic 9, 3) := by decide +kernel
theorem dJ1_charAt_3b067_6 : decode cJ1_charAt_3b067 6 = .ok (.aload_n 0, 1) := by decide +kernel
theorem dJ1_charAt_3b067_7 : decode cJ1_charAt_3b067 7 = .ok (.iload_n 1, 1) := by decide +kernel
theorem dJ1_charAt_3b067_8 : decode cJ1_charAt_3b067 8 = .ok (.baload, 1) := by decide +kernel
theorem dJ1_charAt_3b067_9 : decode cJ1_charAt_3b067 9 = .ok (.sipush 255, 3) := by decide +kernel
theorem dJ1_charAt_3b067_12 : decode cJ1_charAt_3b067 12 = .ok (.iand, 1) := by decide +kernel
theorem dJ1_charAt_3b067_13 : decode cJ1_charAt_3b067 13 = .ok (.i2c, 1) := by decide +kernel
theorem dJ1_charAt_3b067_14 : decode cJ1_charAt_3b067 14 = .ok (.ireturn, 1) := by decide +kernel
theorem dJ3_checkIndex_8e157_0 : decode cJ3_checkIndex_8e157 0 = .ok (.iload_n 0, 1) := by decide +kernel
theorem dJ3_checkIndex_8e157_1 : decode cJ3_checkIndex_8e157 1 = .ok (.ifCond .lt 8, 3) := by decide +kernel
theorem dJ3_checkIndex_8e157_4 : decode cJ3_checkIndex_8e157 4 = .ok (.iload_n 0, 1) := by decide +kernel
theorem dJ3_checkIndex_8e157_5 : decode cJ3_checkIndex_8e157 5 = .ok (.iload_n 1, 1) := by decide +kernel
theorem dJ3_checkIndex_8e157_6 : decode cJ3_checkIndex_8e157 6 = .ok (.if_icmp .lt 10, 3) := by decide +kernel
theorem dJ3_checkIndex_8e157_16 : decode cJ3_checkIndex_8e157 16 = .ok (.iload_n 0, 1) := by decide +kernel
theorem dJ3_checkIndex_8e157_17 : decode cJ3_checkIndex_8e157 17 = .ok (.ireturn, 1) := by decide +kernel
theorem L_J0_335 : LkV RJ0 335 RJ0 yJ0_coder_7d493 cJ0_coder_7d493 1 (some .byte) 0 := ⟨m_t468, m_t10, m_t471, ⟨by decide +kernel, by decide +kernel, by decide +kernel⟩, m_t469, m_t470⟩
theorem L_J0_492 : LkV RJ0 492 RJ0 yJ0_isLatin1_aae02 cJ0_isLatin1_aae02 1 (some .boolean) 0 := ⟨m_t478, m_t10, m_t481, ⟨by decide +kernel, by decide +kernel, by decide +kernel⟩, m_t479, m_t480⟩
theorem L_J0_495 : LkS RJ0 495 yJ1_charAt_3b067 cJ1_charAt_3b067 2 (some .char) 2 := ⟨m_t482, m_t11, m_t484, ⟨by decide +kernel, by decide +kernel, by decide +kernel⟩, m_t483⟩
theorem L_J1_9 : LkS RJ1 9 yJ0_checkIndex_df160 cJ0_checkIndex_df160 2 none 2 := ⟨m_t485, m_t10, m_t487, ⟨by decide +kernel, by decide +kernel, by decide +kernel⟩, m_t486⟩
theorem L_J0_1059 : LkS RJ0 1059 yJ3_checkIndex_8e157 cJ3_checkIndex_8e157 3 (some .int) 3 := ⟨m_t490, m_t12, m_t492, ⟨by decide +kernel, by decide +kernel, by decide +kernel⟩, m_t491⟩
set_option maxHeartbeats 4000000 in
theorem j_coder (l : Launch) (G : va_G) (cy : Nat → ClassId)  (lB : List Int32) (qw qv : Nat) : MRX l yJ0_coder_7d493 cJ0_coder_7d493 1 (some .byte) 1 G cy (SF lB qw qv) [] [.ref qw] (vp_Si (fun r => r = 0)) := by
  refine enRX RJ0 (by decide) rfl (Nat.le_of_ble_eq_true rfl) (fun p e s m below meth c ls hx hb hml hown hts hr hlocks hP hN hl hX => ?_)
  have hl : lv_has ls 1 [(0, .ref qw)] := hl
  refine va_gets hx hb (v := .int 1) hX.2.2.2.2.1 va_S.rf hown (hts _ m_t472) (fun _ h => h) dJ0_coder_7d493_0 ?_
  refine lv_if_eq (tgt := 13) hx hb dJ0_coder_7d493_3 (by decide) (fun h9 => absurd h9 (by decide)) (fun _ => ?_)
  refine lv_aload_n hx hb dJ0_coder_7d493_6 rfl (lv_at hl 0 rfl) ?_
  refine vk_getf hx hb hX.2.1 va_S.rf hown (hts _ m_t1394) (fun _ h => h) dJ0_coder_7d493_7 ?_
  refine lv_goto (tgt := 14) hx hb dJ0_coder_7d493_10 (by decide) ?_
  exact endR hx hb hr hlocks rfl rfl dJ0_coder_7d493_14
set_option maxHeartbeats 4000000 in
theorem j_isLatin1 (l : Launch) (G : va_G) (cy : Nat → ClassId)  (lB : List Int32) (qw qv : Nat) : MRX l yJ0_isLatin1_aae02 cJ0_isLatin1_aae02 1 (some .boolean) 1 G cy (SF lB qw qv) [] [.ref qw] (vp_Si (fun r => r = 1)) := by
  refine enRX RJ0 (by decide) rfl (Nat.le_of_ble_eq_true rfl) (fun p e s m below meth c ls hx hb hml hown hts hr hlocks hP hN hl hX => ?_)
  have hl : lv_has ls 1 [(0, .ref qw)] := hl
  refine va_gets hx hb (v := .int 1) hX.2.2.2.2.1 va_S.rf hown (hts _ m_t472) (fun _ h => h) dJ0_isLatin1_aae02_0 ?_
  refine lv_if_eq (tgt := 17) hx hb dJ0_isLatin1_aae02_3 (by decide) (fun h9 => absurd h9 (by decide)) (fun _ => ?_)
  refine lv_aload_n hx hb dJ0_isLatin1_aae02_6 rfl (lv_at hl 0 rfl) ?_
  refine vk_getf hx hb hX.2.1 va_S.rf hown (hts _ m_t1394) (fun _ h => h) dJ0_isLatin1_aae02_7 ?_
  refine lv_if_ne (tgt := 17) hx hb dJ0_isLatin1_aae02_10 (by decide) (fun h9 => absurd rfl h9) (fun _ => ?_)
  refine lv_iconst (v := 1) hx hb dJ0_isLatin1_aae02_13 (by decide) ?_
  refine lv_goto (tgt := 18) hx hb dJ0_isLatin1_aae02_14 (by decide) ?_
  exact endR hx hb hr hlocks rfl rfl dJ0_isLatin1_aae02_18
set_option maxHeartbeats 4000000 in
theorem j_length (l : Launch) (G : va_G) (cy : Nat → ClassId)  (lB : List Int32) (qw qv : Nat) : MRX l yJ0_length_8abf5 cJ0_length_8abf5 1 (some .int) 2 G cy (SF lB qw qv) [] [.ref qw] (vp_Si (fun r => r = nI lB.length)) := by
  refine enRX RJ0 (by decide) rfl (Nat.le_of_ble_eq_true rfl) (fun p e s m below meth c ls hx hb hml hown hts hr hlocks hP hN hl hX => ?_)
  have hl : lv_has ls 1 [(0, .ref qw)] := hl
  refine lv_aload_n hx hb dJ0_length_8abf5_0 rfl (lv_at hl 0 rfl) ?_
  refine vk_getf hx hb hX.2.2.1 va_S.rf hown (hts _ m_t1393) (fun _ h => h) dJ0_length_8abf5_1 ?_
  refine va_tlen hx hb hX.2.2.2.1 va_S.rf (v := nI lB.length) rfl dJ0_length_8abf5_4 ?_
  refine lv_aload_n hx hb dJ0_length_8abf5_5 rfl (lv_at hl 0 rfl) ?_
  refine kRi (rV (As := []) (rest := [.int (nI lB.length)]) (b := qw) ⟨hx, hb, hml, hown, hts⟩ (j_coder l G cy lB qw qv) L_J0_335 (preRVS hN hX va_S.rf) rfl ⟨Nat.le_of_ble_eq_true rfl, Nat.le_of_ble_eq_true rfl⟩ hl.1 (Nat.le_of_ble_eq_true rfl) dJ0_length_8abf5_6 ⟨Nat.le_of_ble_eq_true rfl, Nat.le_of_ble_eq_true rfl⟩) (fun r h => ?_)
  subst h
  refine lv_ishr hx hb dJ0_length_8abf5_9 ?_
  refine lv_seti (sh0 _) ?_
  exact endR hx hb hr hlocks rfl rfl dJ0_length_8abf5_10
set_option maxHeartbeats 4000000 in
theorem j_pcheck (l : Launch) (G : va_G) (cy : Nat → ClassId)  (qF : Nat) (kI kN : Nat) (hI : kI < kN) (hN0 : kN < 2 ^ 31) : MR l yJ3_checkIndex_8e157 cJ3_checkIndex_8e157 3 (some .int) 1 G cy [] [.int (nI kI), .int (nI kN), .ref qF] (vp_Si (fun r => r = nI kI)) := by
  refine enR RJ3 (by decide) rfl (Nat.le_of_ble_eq_true rfl) (fun p e s m below meth c ls hx hb hml hown hts hr hlocks hP hN hl => ?_)
  have hl : lv_has ls 3 [(0, .int (nI kI)), (1, .int (nI kN)), (2, .ref qF)] := hl
  refine lv_iload_n hx hb dJ3_checkIndex_8e157_0 rfl (lv_at hl 0 rfl) ?_
  refine lv_if_lt (tgt := 9) hx hb dJ3_checkIndex_8e157_1 (by decide) (fun h9 => absurd h9 (nI_pos (by omega))) (fun _ => ?_)
  refine lv_iload_n hx hb dJ3_checkIndex_8e157_4 rfl (lv_at hl 0 rfl) ?_
  refine lv_iload_n hx hb dJ3_checkIndex_8e157_5 rfl (lv_at hl 1 rfl) ?_
  refine lv_icmp_lt (tgt := 16) hx hb dJ3_checkIndex_8e157_6 (by decide) (fun _ => ?_) (fun h9 => absurd (Int32.not_le.mp (nI_ge hI (by omega))) h9)
  refine lv_iload_n hx hb dJ3_checkIndex_8e157_16 rfl (lv_at hl 0 rfl) ?_
  exact endR hx hb hr hlocks rfl rfl dJ3_checkIndex_8e157_17
set_option maxHeartbeats 4000000 in
theorem j_pcheckN (l : Launch) (G : va_G) (cy : Nat → ClassId)  (kI kN : Nat) (hI : kI < kN) (hN0 : kN < 2 ^ 31) : MR l yJ3_checkIndex_8e157 cJ3_checkIndex_8e157 3 (some .int) 1 G cy [] [.int (nI kI), .int (nI kN), .null] (vp_Si (fun r => r = nI kI)) := by
  refine enR RJ3 (by decide) rfl (Nat.le_of_ble_eq_true rfl) (fun p e s m below meth c ls hx hb hml hown hts hr hlocks hP hN hl => ?_)
  have hl : lv_has ls 3 [(0, .int (nI kI)), (1, .int (nI kN)), (2, .null)] := hl
  refine lv_iload_n hx hb dJ3_checkIndex_8e157_0 rfl (lv_at hl 0 rfl) ?_
  refine lv_if_lt (tgt := 9) hx hb dJ3_checkIndex_8e157_1 (by decide) (fun h9 => absurd h9 (nI_pos (by omega))) (fun _ => ?_)
  refine lv_iload_n hx hb dJ3_checkIndex_8e157_4 rfl (lv_at hl 0 rfl) ?_
  refine lv_iload_n hx hb dJ3_checkIndex_8e157_5 rfl (lv_at hl 1 rfl) ?_
  refine lv_icmp_lt (tgt := 16) hx hb dJ3_checkIndex_8e157_6 (by decide) (fun _ => ?_) (fun h9 => absurd (Int32.not_le.mp (nI_ge hI (by omega))) h9)
  refine lv_iload_n hx hb dJ3_checkIndex_8e157_16 rfl (lv_at hl 0 rfl) ?_
  exact endR hx hb hr hlocks rfl rfl dJ3_checkIndex_8e157_17
set_option maxHeartbeats 4000000 in
theorem j_check (l : Launch) (G : va_G) (cy : Nat → ClassId)  (lB : List Int32) (qw qv kI kN : Nat) (hI : kI < kN) (hN0 : kN < 2 ^ 31) : MRX l yJ0_checkIndex_df160 cJ0_checkIndex_df160 2 none 2 G cy (SF lB qw qv) [] [.int (nI kI), .int (nI kN)] vp_S0 := by
  refine enRX RJ0 (by decide) rfl (Nat.le_of_ble_eq_true rfl) (fun p e s m below meth c ls hx hb hml hown hts hr hlocks hP hN hl hX => ?_)
  have hl : lv_has ls 2 [(0, .int (nI kI)), (1, .int (nI kN))] := hl
  rcases hX.2.2.2.2.2 with hf | ⟨qf, hf⟩
  · refine lv_iload_n hx hb dJ0_checkIndex_df160_0 rfl (lv_at hl 0 rfl) ?_
    refine lv_iload_n hx hb dJ0_checkIndex_df160_1 rfl (lv_at hl 1 rfl) ?_
    refine va_gets hx hb (v := .null) hf va_S.rf hown (hts _ m_t488) (fun _ h => h) dJ0_checkIndex_df160_2 ?_
    refine kRi (rS (As := [.int (nI kI), .int (nI kN), .null]) (rest := []) ⟨hx, hb, hml, hown, hts⟩ (j_pcheckN l G cy kI kN hI hN0) L_J0_1059 (preRS hN hP [] rfl) rfl ⟨Nat.le_of_ble_eq_true rfl, Nat.le_of_ble_eq_true rfl⟩ hl.1 (Nat.le_of_ble_eq_true rfl) dJ0_checkIndex_df160_5 ⟨Nat.le_of_ble_eq_true rfl, Nat.le_of_ble_eq_true rfl⟩) (fun r h => ?_)
    subst h
    refine lv_pop hx hb dJ0_checkIndex_df160_8 rfl ?_
    exact endR0 hx hb hr hlocks dJ0_checkIndex_df160_9
  · refine lv_iload_n hx hb dJ0_checkIndex_df160_0 rfl (lv_at hl 0 rfl) ?_
    refine lv_iload_n hx hb dJ0_checkIndex_df160_1 rfl (lv_at hl 1 rfl) ?_
    refine va_gets hx hb (v := .ref qf) hf va_S.rf hown (hts _ m_t488) (fun _ h => h) dJ0_checkIndex_df160_2 ?_
    refine kRi (rS (As := [.int (nI kI), .int (nI kN), .ref qf]) (rest := []) ⟨hx, hb, hml, hown, hts⟩ (j_pcheck l G cy qf kI kN hI hN0) L_J0_1059 (preRS hN hP [] rfl) rfl ⟨Nat.le_of_ble_eq_true rfl, Nat.le_of_ble_eq_true rfl⟩ hl.1 (Nat.le_of_ble_eq_true rfl) dJ0_checkIndex_df160_5 ⟨Nat.le_of_ble_eq_true rfl, Nat.le_of_ble_eq_true rfl⟩) (fun r h => ?_)
    subst h
    refine lv_pop hx hb dJ0_checkIndex_df160_8 rfl ?_
    exact endR0 hx hb hr hlocks dJ0_checkIndex_df160_9
theorem ch_n {x : Int32} (h : ∃ n : Nat, n < 128 ∧ x = nI n) : ((x &&& 255).toUInt32 % 65536).toInt32 = x ∧ narrow .char (.int x) = .int x := by
  obtain ⟨n, hn, rfl⟩ := h
  refine ⟨?_, (pk_charN (by omega)).1⟩
  rw [ch8 n hn, pk_char, pk_tn (by omega), Nat.mod_eq_of_lt (by omega)]
set_option maxHeartbeats 4000000 in
theorem j_charAt1 (l : Launch) (G : va_G) (cy : Nat → ClassId)  (lB : List Int32) (qw qv kI : Nat) (hI : kI < lB.length) (hN0 : lB.length < 2 ^ 31) (hA : ∃ n : Nat, n < 128 ∧ lB.getD kI 0 = nI n) : MRX l yJ1_charAt_3b067 cJ1_charAt_3b067 2 (some .char) 3 G cy (SF lB qw qv) [] [.ref qv, .int (nI kI)] (vp_Si (fun r => r = lB.getD kI 0)) := by
  refine enRX RJ1 (by decide) rfl (Nat.le_of_ble_eq_true rfl) (fun p e s m below meth c ls hx hb hml hown hts hr hlocks hP hN hl hX => ?_)
  have hl : lv_has ls 2 [(0, .ref qv), (1, .int (nI kI))] := hl
  refine lv_iload_n hx hb dJ1_charAt_3b067_0 rfl (lv_at hl 1 rfl) ?_
  refine lv_aload_n hx hb dJ1_charAt_3b067_1 rfl (lv_at hl 0 rfl) ?_
  refine va_tlen hx hb hX.2.2.2.1 va_S.rf (v := nI lB.length) rfl dJ1_charAt_3b067_2 ?_
  refine kR0 (rS (As := [.int (nI kI), .int (nI lB.length)]) (rest := []) ⟨hx, hb, hml, hown, hts⟩ (j_check l G cy lB qw qv kI lB.length hI hN0) L_J1_9 (preRSX hN hP [] rfl SF_ok hX va_S.rf) rfl ⟨Nat.le_of_ble_eq_true rfl, Nat.le_of_ble_eq_true rfl⟩ hl.1 (Nat.le_of_ble_eq_true rfl) dJ1_charAt_3b067_3 ⟨Nat.le_of_ble_eq_true rfl, Nat.le_of_ble_eq_true rfl⟩) ?_
  refine lv_aload_n hx hb dJ1_charAt_3b067_6 rfl (lv_at hl 0 rfl) ?_
  refine lv_iload_n hx hb dJ1_charAt_3b067_7 rfl (lv_at hl 1 rfl) ?_
  refine va_tb hx hb hX.2.2.2.1 va_S.rf (vp_in_nI hI hN0) (v := .int (lB.getD kI 0)) (by rw [nI_clamp (by omega)]) dJ1_charAt_3b067_8 ?_
  refine lv_sipush (v := 255) hx hb dJ1_charAt_3b067_9 (by decide) ?_
  refine lv_iand hx hb dJ1_charAt_3b067_12 ?_
  refine lv_i2c (v := lB.getD kI 0) hx hb dJ1_charAt_3b067_13 (ch_n hA).1 ?_
  exact endR hx hb hr hlocks (ch_n hA).2 rfl dJ1_charAt_3b067_14
set_option maxHeartbeats 4000000 in
theorem j_charAt (l : Launch) (G : va_G) (cy : Nat → ClassId)  (lB : List Int32) (qw qv kI : Nat) (hI : kI < lB.length) (hN0 : lB.length < 2 ^ 31) (hA : ∃ n : Nat, n < 128 ∧ lB.getD kI 0 = nI n) : MRX l yJ0_charAt_5068e cJ0_charAt_5068e 2 (some .char) 4 G cy (SF lB qw qv) [] [.ref qw, .int (nI kI)] (vp_Si (fun r => r = lB.getD kI 0)) := by
  refine enRX RJ0 (by decide) rfl (Nat.le_of_ble_eq_true rfl) (fun p e s m below meth c ls hx hb hml hown hts hr hlocks hP hN hl hX => ?_)
  have hl : lv_has ls 2 [(0, .ref qw), (1, .int (nI kI))] := hl
  refine lv_aload_n hx hb dJ0_charAt_5068e_0 rfl (lv_at hl 0 rfl) ?_
  refine kRi (rV (As := []) (rest := []) (b := qw) ⟨hx, hb, hml, hown, hts⟩ (j_isLatin1 l G cy lB qw qv) L_J0_492 (preRVS hN hX va_S.rf) rfl ⟨Nat.le_of_ble_eq_true rfl, Nat.le_of_ble_eq_true rfl⟩ hl.1 (Nat.le_of_ble_eq_true rfl) dJ0_charAt_5068e_1 ⟨Nat.le_of_ble_eq_true rfl, Nat.le_of_ble_eq_true rfl⟩) (fun r h => ?_)
  subst h
  refine lv_if_eq (tgt := 16) hx hb dJ0_charAt_5068e_4 (by decide) (fun h9 => absurd h9 (by decide)) (fun _ => ?_)
  refine lv_aload_n hx hb dJ0_charAt_5068e_7 rfl (lv_at hl 0 rfl) ?_
  refine vk_getf hx hb hX.2.2.1 va_S.rf hown (hts _ m_t1393) (fun _ h => h) dJ0_charAt_5068e_8 ?_
  refine lv_iload_n hx hb dJ0_charAt_5068e_11 rfl (lv_at hl 1 rfl) ?_
  refine kRi (rS (As := [.ref qv, .int (nI kI)]) (rest := []) ⟨hx, hb, hml, hown, hts⟩ (j_charAt1 l G cy lB qw qv kI hI hN0 hA) L_J0_495 (preRSX hN hP [] rfl SF_ok hX va_S.rf) rfl ⟨Nat.le_of_ble_eq_true rfl, Nat.le_of_ble_eq_true rfl⟩ hl.1 (Nat.le_of_ble_eq_true rfl) dJ0_charAt_5068e_12 ⟨Nat.le_of_ble_eq_true rfl, Nat.le_of_ble_eq_true rfl⟩) (fun r h => ?_)
  subst h
  exact endR hx hb hr hlocks (ch_n hA).2 rfl dJ0_charAt_5068e_15
