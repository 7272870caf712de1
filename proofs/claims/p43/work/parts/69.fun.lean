/-! feed: the bytes as both see them -/
def byv (v : Int32) (s : Nat) : Int32 := (v >>> (nI s &&& 31)) &&& 255
theorem by_tab : ∀ j, j < 256 → nrm (nI j).toInt8.toInt32 = nrm (nI j) := by decide +kernel
theorem nrm_byte (x : Int32) : nrm (vp_nar .byte (x.toInt8.toInt32)) = nrm (x &&& 255) := by
  have e1 : vp_nar .byte (x.toInt8.toInt32) = (x.toInt8.toInt32).toInt8.toInt32 := rfl
  have e2 : (x.toInt8.toInt32).toInt8 = x.toInt8 := by simp
  obtain ⟨j, hj, ej⟩ := pk_andE x (m := 255) 8 (by decide)
  have e3 : x.toInt8 = (x &&& 255).toInt8 := by
    rw [Int32.toInt8_and, show (255 : Int32).toInt8 = -1 by decide]
    simp
  rw [e1, e2, e3, ej]
  exact by_tab j hj
theorem upd_n {f : Nat → Int32} {k i : Nat} {v : Int32} (h : i ≠ k) : upd f k v i = f i := if_neg h
def FDs (f : Nat → Int32) (z : Nat) (v : Int32) (k : Nat) (f' : Nat → Int32) : Prop := ∀ i, i < z + k → nrm (f' i) = if i < z then nrm (f i) else nrm (byv v (8 * (k - 1 - (i - z))))
def FD (f : Nat → Int32) (z : Nat) (v n : Int32) (z' : Nat) (f' : Nat → Int32) : Prop := (z' = z ∧ f' = f) ∨ ∃ k, 1 ≤ k ∧ k ≤ 4 ∧ n = nI k ∧ z' = z + k ∧ FDs f z v k f'
theorem fd_s1 {f : Nat → Int32} {z : Nat} {v a : Int32} (ha : nrm a = nrm (byv v 0)) : FDs f z v 1 (upd f z a) := by
  intro i hi
  by_cases c : i < z
  · rw [if_pos c, upd_n (by omega)]
  · have e : i = z := by omega
    subst e
    rw [if_neg c, upd_sJ, ha, show 8 * (1 - 1 - (i - i)) = 0 by omega]
theorem fd_s2 {f : Nat → Int32} {z : Nat} {v a b : Int32} (ha : nrm a = nrm (byv v 8)) (hb : nrm b = nrm (byv v 0)) : FDs f z v 2 (upd (upd f z a) (z + 1) b) := by
  intro i hi
  by_cases c : i < z
  · rw [if_pos c, upd_n (by omega), upd_n (by omega)]
  · rw [if_neg c]
    by_cases e : i = z
    · rw [upd_n (by omega), e, upd_sJ, ha, show 8 * (2 - 1 - (z - z)) = 8 by omega]
    · have e : i = z + 1 := by omega
      rw [e, upd_sJ, hb, show 8 * (2 - 1 - (z + 1 - z)) = 0 by omega]
theorem fd_s3 {f : Nat → Int32} {z : Nat} {v a b d : Int32} (ha : nrm a = nrm (byv v 16)) (hb : nrm b = nrm (byv v 8)) (hd : nrm d = nrm (byv v 0)) : FDs f z v 3 (upd (upd (upd f z a) (z + 1) b) (z + 1 + 1) d) := by
  intro i hi
  by_cases c : i < z
  · rw [if_pos c, upd_n (by omega), upd_n (by omega), upd_n (by omega)]
  · rw [if_neg c]
    by_cases e : i = z
    · rw [upd_n (by omega), upd_n (by omega), e, upd_sJ, ha, show 8 * (3 - 1 - (z - z)) = 16 by omega]
    · by_cases e2 : i = z + 1
      · rw [upd_n (by omega), e2, upd_sJ, hb, show 8 * (3 - 1 - (z + 1 - z)) = 8 by omega]
      · have e3 : i = z + 1 + 1 := by omega
        rw [e3, upd_sJ, hd, show 8 * (3 - 1 - (z + 1 + 1 - z)) = 0 by omega]
theorem fd_s4 {f : Nat → Int32} {z : Nat} {v a b d g : Int32} (ha : nrm a = nrm (byv v 24)) (hb : nrm b = nrm (byv v 16)) (hd : nrm d = nrm (byv v 8)) (hg : nrm g = nrm (byv v 0)) : FDs f z v 4 (upd (upd (upd (upd f z a) (z + 1) b) (z + 1 + 1) d) (z + 1 + 1 + 1) g) := by
  intro i hi
  by_cases c : i < z
  · rw [if_pos c, upd_n (by omega), upd_n (by omega), upd_n (by omega), upd_n (by omega)]
  · rw [if_neg c]
    by_cases e : i = z
    · rw [upd_n (by omega), upd_n (by omega), upd_n (by omega), e, upd_sJ, ha, show 8 * (4 - 1 - (z - z)) = 24 by omega]
    · by_cases e2 : i = z + 1
      · rw [upd_n (by omega), upd_n (by omega), e2, upd_sJ, hb, show 8 * (4 - 1 - (z + 1 - z)) = 16 by omega]
      · by_cases e3 : i = z + 1 + 1
        · rw [upd_n (by omega), e3, upd_sJ, hd, show 8 * (4 - 1 - (z + 1 + 1 - z)) = 8 by omega]
        · have e4 : i = z + 1 + 1 + 1 := by omega
          rw [e4, upd_sJ, hg, show 8 * (4 - 1 - (z + 1 + 1 + 1 - z)) = 0 by omega]
theorem fd_rel {fB fM fB' fM' : Nat → Int32} {z z1 : Nat} {v n : Int32} (h1 : FD fB z v n z1 fB') (h2 : FD fM z v n z1 fM') (h : nbf fB z = nbf fM z) : nbf fB' z1 = nbf fM' z1 := by
  rcases h1 with ⟨e1, rfl⟩ | ⟨k, k1, k2, ek, ez, hs⟩
  · rcases h2 with ⟨_, rfl⟩ | ⟨k, k1, _, _, ez, _⟩
    · rw [e1]; exact h
    · omega
  · rcases h2 with ⟨e2, _⟩ | ⟨m, m1, m2, em, ez2, hs2⟩
    · omega
    · have e : k = m := by omega
      subst e
      rw [ez]
      funext i
      by_cases c : i < z + k
      · rw [nbf_in c, nbf_in c, hs i c, hs2 i c]
        by_cases c2 : i < z
        · have q := congrFun h i
          rw [nbf_in c2, nbf_in c2] at q
          rw [if_pos c2, if_pos c2, q]
        · rw [if_neg c2, if_neg c2]
      · show (if i < z + k then nrm (fB' i) else 128) = if i < z + k then nrm (fM' i) else 128
        rw [if_neg c, if_neg c]
set_option maxHeartbeats 4000000 in
set_option maxRecDepth 100000 in
theorem x_X5_feed (l : Launch) (G : va_G) (cy : Nat → ClassId) (sz : Nat) (qx : Nat) (qt : Nat) (qk : Nat) (qp : Nat) (qs : Nat) (qa : Nat) (qr : Nat) (iKp : Int32) (iYe : Int32) (iTv : Int32) (fR : Nat → Int32) (qab : Nat) (kZ : Nat) (iT1 : Int32) (iT2 : Int32) (iT3 : Int32) (iT4 : Int32) (qd : Nat) (fB : Nat → Int32) (iA : Int32) (iB : Int32)  (hZ : kZ ≤ 250) : MW l yX5_feed cX5_feed 4 (some .int) 12 0 0 G cy [zzO qx 4 [.ref qt, .ref qk, .ref qp, .ref qs, .ref qa, .ref qr, .int iKp, .int iYe, .int iTv], zzI cy qr 5 fR, zzO qa 2 [.ref qab, .int (nI kZ), .int iT1, .int iT2, .int iT3, .int iT4, .ref qd], zzB cy qab 250 fB] sz [.ref qx, .int iA, .int iB] (Wi G (fun r u => ∃ (fX : Nat → Int32) (kY : Nat) (iX4 : Int32) (iX5 : Int32) (iX6 : Int32) (iX7 : Int32) (fV : Nat → Int32), u = [zzO qx 4 [.ref qt, .ref qk, .ref qp, .ref qs, .ref qa, .ref qr, .int iKp, .int iYe, .int iTv], zzI cy qr 5 fX, zzO qa 2 [.ref qab, .int (nI kY), .int iX4, .int iX5, .int iX6, .int iX7, .ref qd], zzB cy qab 250 fV] ∧ (PXfeed kZ iB r kY ∧ FD fB kZ iA iB kY fV) ∧ (True))) := by
  refine enW RX5 (by decide) rfl (Nat.le_of_ble_eq_true rfl) (fun p e s m below meth c ls A hx hb hml hown hts hr hlocks hP hN hl hin hD hA hS => ?_)
  have hin : meth.name = _ := hin
  have hK := hN.1
  replace hl : lv_has ls 4 [(0, .ref qx), (1, .int iA), (2, .int iB)] := hl
  refine lv_iload_n hx hb dX5_feed_0 rfl (lv_at hl 2 rfl) ?_
  refine lv_i2l (v := iB.toInt64) hx hb dX5_feed_1 rfl ?_
  refine lv_lconst (v := 1) hx hb dX5_feed_2 (by decide) ?_
  refine lv_ldc2 hx hb hown (hts _ m_t213) dX5_feed_3 ?_
  refine kRi (rS (As := [.long iB.toInt64, .long 1, .long 4]) (rest := []) ⟨hx, hb, hml, hown, hts⟩ (c_X5_within l G cy iB.toInt64 1 4) L_X5_50 (preRS hN hP [] rfl) rfl ⟨Nat.le_of_ble_eq_true rfl, Nat.le_of_ble_eq_true rfl⟩ hl.1 (Nat.le_of_ble_eq_true rfl) dX5_feed_6 ⟨Nat.le_of_ble_eq_true rfl, Nat.le_of_ble_eq_true rfl⟩) (fun r_1 h_2 => ?_)
  rcases h_2 with ⟨rfl, h_3⟩ | ⟨rfl, h_3⟩
  · refine lv_if_ne (tgt := 19) hx hb dX5_feed_9 (by decide) (fun _ => ?_) (fun h9 => absurd h9 (by decide))
    rcases in14 h_3 with rfl | rfl | rfl | rfl
    · refine lv_aload_n hx hb dX5_feed_19 rfl (lv_at hl 0 rfl) ?_
      refine va_get (D := G) (ci := 4) (v := .ref qa) (C := RX5) (T := TX5) (N := 9) hx hb hts iX_X5 hown hK hP 0 rfl rfl 4 (by decide) (hts _ m_t178) (fun _ h9 => h9) rfl dX5_feed_20 ?_
      refine va_getN (D := G) (ci := 2) (v := .int (nI kZ)) (C := RX3) (T := TX3) (N := 7) hx hb hts iX_X3 hown hK hP 2 rfl rfl 1 (by decide) (va_Nw.use rfl (hN.2.1 (RX5, 148, "EachBookOnce$Tape", "size", "I") (List.mem_of_getElem? (i := 29) rfl))) (fun _ h9 => h9) rfl dX5_feed_23 ?_
      refine lv_sipush (v := 250) hx hb dX5_feed_26 (by decide) ?_
      refine lv_iload_n hx hb dX5_feed_29 rfl (lv_at hl 2 rfl) ?_
      refine lv_isub hx hb dX5_feed_30 ?_
      refine lv_seti (v := 249) (by decide) ?_
      refine lv_icmp_le (tgt := 41) hx hb dX5_feed_31 (by decide) (fun c_5 => ?_) (fun c_5 => ?_)
      · have hfd : kZ + 1 ≤ 250 := fd_yes (k := 1) (by omega) (by omega) c_5
        refine lv_bipush (v := 8) hx hb dX5_feed_41 (by decide) ?_
        refine lv_iload_n hx hb dX5_feed_43 rfl (lv_at hl 2 rfl) ?_
        refine lv_iconst (v := 1) hx hb dX5_feed_44 (by decide) ?_
        refine lv_isub hx hb dX5_feed_45 ?_
        refine lv_seti (v := 0) (by decide) ?_
        refine lv_imul hx hb dX5_feed_46 ?_
        refine lv_seti (v := 0) (by decide) ?_
        refine lv_istore_n (lv' := [(3, .int 0), (0, .ref qx), (1, .int iA), (2, .int 1)]) hx hb dX5_feed_47 rfl hl (by decide) rfl (fun ls => ?_)
        clear hl
        intro hl
        refine lv_iload_n hx hb dX5_feed_48 rfl (lv_at hl 0 rfl) ?_
        refine lv_if_lt (tgt := 69) hx hb dX5_feed_49 (by decide) (fun h9 => absurd h9 (by decide)) (fun _ => ?_)
        refine lv_aload_n hx hb dX5_feed_52 rfl (lv_at hl 1 rfl) ?_
        refine va_get (D := G) (ci := 4) (v := .ref qa) (C := RX5) (T := TX5) (N := 9) hx hb hts iX_X5 hown hK hP 0 rfl rfl 4 (by decide) (hts _ m_t178) (fun _ h9 => h9) rfl dX5_feed_53 ?_
        refine lv_iload_n hx hb dX5_feed_56 rfl (lv_at hl 2 rfl) ?_
        refine lv_iload_n hx hb dX5_feed_57 rfl (lv_at hl 0 rfl) ?_
        refine lv_ishr hx hb dX5_feed_58 ?_
        refine lv_i2b (v := (iA >>> (0 &&& 31)).toInt8.toInt32) hx hb dX5_feed_59 rfl ?_
        refine cVv (As := [.int ((iA >>> (0 &&& 31)).toInt8.toInt32)]) (rest := []) (b := qa) (q := (RX3, TX3, 7)) ⟨hx, hb, hml, hown, hts⟩ (c_X3_append l G cy (s.heap).size qa qab kZ (.int iT1) (.int iT2) (.int iT3) (.int iT4) (.ref qd) fB ((iA >>> (0 &&& 31)).toInt8.toInt32) (by omega)) L_X5_150 hN hP hD hS hA [2, 3] [true, true, false, false] rfl (by decide +kernel) rfl 2 2 rfl rfl rfl ⟨Nat.le_of_ble_eq_true rfl, Nat.le_of_ble_eq_true rfl⟩ hl.1 (Nat.le_of_ble_eq_true rfl) dX5_feed_60 ⟨Nat.le_of_ble_eq_true rfl, Nat.le_of_ble_eq_true rfl⟩ (fun u_9 H locs h_8 => ?_)
        clear hP hD hS
        intro hP hD hS
        subst h_8
        have hPD := pd_as [zzO qx 4 [.ref qt, .ref qk, .ref qp, .ref qs, .ref qa, .ref qr, .int iKp, .int iYe, .int iTv], zzI cy qr 5 fR, zzO qa 2 [.ref qab, .int (nI (kZ + 1)), .int iT1, .int iT2, .int iT3, .int iT4, .ref qd], zzB cy qab 250 (upd fB kZ (vp_nar .byte ((iA >>> (0 &&& 31)).toInt8.toInt32)))] hP hD rfl
        clear hP hD
        obtain ⟨hP, hD⟩ := hPD
        refine lv_iinc (v := (-8)) (lv' := [(3, .int (-8)), (0, .ref qx), (1, .int iA), (2, .int 1)]) hx hb dX5_feed_63 hl (k := 0) rfl (by decide) (by decide) rfl (fun ls => ?_)
        clear hl
        intro hl
        refine lv_goto (tgt := 48) hx hb dX5_feed_66 (by decide) ?_
        refine lv_iload_n hx hb dX5_feed_48 rfl (lv_at hl 0 rfl) ?_
        refine lv_if_lt (tgt := 69) hx hb dX5_feed_49 (by decide) (fun _ => ?_) (fun h9 => absurd (by decide) h9)
        refine lv_aload_n hx hb dX5_feed_69 rfl (lv_at hl 1 rfl) ?_
        refine va_get (D := G) (ci := 4) (v := .ref qa) (C := RX5) (T := TX5) (N := 9) hx hb hts iX_X5 hown hK hP 0 rfl rfl 4 (by decide) (hts _ m_t178) (fun _ h9 => h9) rfl dX5_feed_70 ?_
        refine va_getN (D := G) (ci := 2) (v := .int (nI (kZ + 1))) (C := RX3) (T := TX3) (N := 7) hx hb hts iX_X3 hown hK hP 2 rfl rfl 1 (by decide) (va_Nw.use rfl (hN.2.1 (RX5, 148, "EachBookOnce$Tape", "size", "I") (List.mem_of_getElem? (i := 29) rfl))) (fun _ h9 => h9) rfl dX5_feed_73 ?_
        exact endW (u := [zzO qx 4 [.ref qt, .ref qk, .ref qp, .ref qs, .ref qa, .ref qr, .int iKp, .int iYe, .int iTv], zzI cy qr 5 fR, zzO qa 2 [.ref qab, .int (nI (kZ + 1)), .int iT1, .int iT2, .int iT3, .int iT4, .ref qd], zzB cy qab 250 (upd fB kZ (vp_nar .byte ((iA >>> (0 &&& 31)).toInt8.toInt32)))]) hx hb hr hlocks rfl (hP.sub [0, 1, 2, 3] rfl) (hD.sub [0, 1, 2, 3] (by decide +kernel) rfl) hS ⟨fR, (kZ + 1), iT1, iT2, iT3, iT4, upd fB kZ (vp_nar .byte ((iA >>> (0 &&& 31)).toInt8.toInt32)), rfl, ⟨Or.inr ⟨1, by omega, by omega, rfl, Or.inr ⟨rfl, fd_yes (k := 1) (by omega) (by omega) c_5, rfl⟩⟩, Or.inr ⟨1, by omega, by omega, rfl, rfl, fd_s1 (nrm_byte _)⟩⟩, trivial⟩ dX5_feed_76
      · refine lv_aload_n hx hb dX5_feed_34 rfl (lv_at hl 0 rfl) ?_
        refine lv_bipush (v := (-6)) hx hb dX5_feed_35 (by decide) ?_
        refine cVi (As := [.int (-6)]) (rest := []) (b := qx) (q := (RX5, TX5, 9)) ⟨hx, hb, hml, hown, hts⟩ (c_X5_refuse6 l G cy (s.heap).size qx qt qk qp qs qa qr iKp iYe iTv fR) L_X5_56 hN hP hD hS hA [0, 1] [false, false, true, true] rfl (by decide +kernel) rfl 0 4 rfl rfl rfl ⟨Nat.le_of_ble_eq_true rfl, Nat.le_of_ble_eq_true rfl⟩ hl.1 (Nat.le_of_ble_eq_true rfl) dX5_feed_37 ⟨Nat.le_of_ble_eq_true rfl, Nat.le_of_ble_eq_true rfl⟩ (fun r_11 u_13 H locs h_12 => ?_)
        clear hP hD hS
        intro hP hD hS
        obtain ⟨fX_14, rfl, h_12⟩ := h_12
        have hPD := pd_as [zzO qa 2 [.ref qab, .int (nI kZ), .int iT1, .int iT2, .int iT3, .int iT4, .ref qd], zzB cy qab 250 fB, zzO qx 4 [.ref qt, .ref qk, .ref qp, .ref qs, .ref qa, .ref qr, .int iKp, .int iYe, .int iTv], zzI cy qr 5 fX_14] hP hD rfl
        clear hP hD
        obtain ⟨hP, hD⟩ := hPD
        subst h_12
        exact endW (u := [zzO qx 4 [.ref qt, .ref qk, .ref qp, .ref qs, .ref qa, .ref qr, .int iKp, .int iYe, .int iTv], zzI cy qr 5 fX_14, zzO qa 2 [.ref qab, .int (nI kZ), .int iT1, .int iT2, .int iT3, .int iT4, .ref qd], zzB cy qab 250 fB]) hx hb hr hlocks rfl (hP.sub [2, 3, 0, 1] rfl) (hD.sub [2, 3, 0, 1] (by decide +kernel) rfl) hS ⟨fX_14, kZ, iT1, iT2, iT3, iT4, fB, rfl, ⟨Or.inr ⟨1, by omega, by omega, rfl, Or.inl ⟨rfl, fd_no (k := 1) (by omega) (by omega) c_5, rfl⟩⟩, Or.inl ⟨rfl, rfl⟩⟩, trivial⟩ dX5_feed_40
    · refine lv_aload_n hx hb dX5_feed_19 rfl (lv_at hl 0 rfl) ?_
      refine va_get (D := G) (ci := 4) (v := .ref qa) (C := RX5) (T := TX5) (N := 9) hx hb hts iX_X5 hown hK hP 0 rfl rfl 4 (by decide) (hts _ m_t178) (fun _ h9 => h9) rfl dX5_feed_20 ?_
      refine va_getN (D := G) (ci := 2) (v := .int (nI kZ)) (C := RX3) (T := TX3) (N := 7) hx hb hts iX_X3 hown hK hP 2 rfl rfl 1 (by decide) (va_Nw.use rfl (hN.2.1 (RX5, 148, "EachBookOnce$Tape", "size", "I") (List.mem_of_getElem? (i := 29) rfl))) (fun _ h9 => h9) rfl dX5_feed_23 ?_
      refine lv_sipush (v := 250) hx hb dX5_feed_26 (by decide) ?_
      refine lv_iload_n hx hb dX5_feed_29 rfl (lv_at hl 2 rfl) ?_
      refine lv_isub hx hb dX5_feed_30 ?_
      refine lv_seti (v := 248) (by decide) ?_
      refine lv_icmp_le (tgt := 41) hx hb dX5_feed_31 (by decide) (fun c_15 => ?_) (fun c_15 => ?_)
      · have hfd : kZ + 2 ≤ 250 := fd_yes (k := 2) (by omega) (by omega) c_15
        refine lv_bipush (v := 8) hx hb dX5_feed_41 (by decide) ?_
        refine lv_iload_n hx hb dX5_feed_43 rfl (lv_at hl 2 rfl) ?_
        refine lv_iconst (v := 1) hx hb dX5_feed_44 (by decide) ?_
        refine lv_isub hx hb dX5_feed_45 ?_
        refine lv_seti (v := 1) (by decide) ?_
        refine lv_imul hx hb dX5_feed_46 ?_
        refine lv_seti (v := 8) (by decide) ?_
        refine lv_istore_n (lv' := [(3, .int 8), (0, .ref qx), (1, .int iA), (2, .int 2)]) hx hb dX5_feed_47 rfl hl (by decide) rfl (fun ls => ?_)
        clear hl
        intro hl
        refine lv_iload_n hx hb dX5_feed_48 rfl (lv_at hl 0 rfl) ?_
        refine lv_if_lt (tgt := 69) hx hb dX5_feed_49 (by decide) (fun h9 => absurd h9 (by decide)) (fun _ => ?_)
        refine lv_aload_n hx hb dX5_feed_52 rfl (lv_at hl 1 rfl) ?_
        refine va_get (D := G) (ci := 4) (v := .ref qa) (C := RX5) (T := TX5) (N := 9) hx hb hts iX_X5 hown hK hP 0 rfl rfl 4 (by decide) (hts _ m_t178) (fun _ h9 => h9) rfl dX5_feed_53 ?_
        refine lv_iload_n hx hb dX5_feed_56 rfl (lv_at hl 2 rfl) ?_
        refine lv_iload_n hx hb dX5_feed_57 rfl (lv_at hl 0 rfl) ?_
        refine lv_ishr hx hb dX5_feed_58 ?_
        refine lv_i2b (v := (iA >>> (8 &&& 31)).toInt8.toInt32) hx hb dX5_feed_59 rfl ?_
        refine cVv (As := [.int ((iA >>> (8 &&& 31)).toInt8.toInt32)]) (rest := []) (b := qa) (q := (RX3, TX3, 7)) ⟨hx, hb, hml, hown, hts⟩ (c_X3_append l G cy (s.heap).size qa qab kZ (.int iT1) (.int iT2) (.int iT3) (.int iT4) (.ref qd) fB ((iA >>> (8 &&& 31)).toInt8.toInt32) (by omega)) L_X5_150 hN hP hD hS hA [2, 3] [true, true, false, false] rfl (by decide +kernel) rfl 2 2 rfl rfl rfl ⟨Nat.le_of_ble_eq_true rfl, Nat.le_of_ble_eq_true rfl⟩ hl.1 (Nat.le_of_ble_eq_true rfl) dX5_feed_60 ⟨Nat.le_of_ble_eq_true rfl, Nat.le_of_ble_eq_true rfl⟩ (fun u_19 H locs h_18 => ?_)
        clear hP hD hS
        intro hP hD hS
        subst h_18
        have hPD := pd_as [zzO qx 4 [.ref qt, .ref qk, .ref qp, .ref qs, .ref qa, .ref qr, .int iKp, .int iYe, .int iTv], zzI cy qr 5 fR, zzO qa 2 [.ref qab, .int (nI (kZ + 1)), .int iT1, .int iT2, .int iT3, .int iT4, .ref qd], zzB cy qab 250 (upd fB kZ (vp_nar .byte ((iA >>> (8 &&& 31)).toInt8.toInt32)))] hP hD rfl
        clear hP hD
        obtain ⟨hP, hD⟩ := hPD
        refine lv_iinc (v := 0) (lv' := [(3, .int 0), (0, .ref qx), (1, .int iA), (2, .int 2)]) hx hb dX5_feed_63 hl (k := 0) rfl (by decide) (by decide) rfl (fun ls => ?_)
        clear hl
        intro hl
        refine lv_goto (tgt := 48) hx hb dX5_feed_66 (by decide) ?_
        refine lv_iload_n hx hb dX5_feed_48 rfl (lv_at hl 0 rfl) ?_
        refine lv_if_lt (tgt := 69) hx hb dX5_feed_49 (by decide) (fun h9 => absurd h9 (by decide)) (fun _ => ?_)
        refine lv_aload_n hx hb dX5_feed_52 rfl (lv_at hl 1 rfl) ?_
        refine va_get (D := G) (ci := 4) (v := .ref qa) (C := RX5) (T := TX5) (N := 9) hx hb hts iX_X5 hown hK hP 0 rfl rfl 4 (by decide) (hts _ m_t178) (fun _ h9 => h9) rfl dX5_feed_53 ?_
        refine lv_iload_n hx hb dX5_feed_56 rfl (lv_at hl 2 rfl) ?_
        refine lv_iload_n hx hb dX5_feed_57 rfl (lv_at hl 0 rfl) ?_
        refine lv_ishr hx hb dX5_feed_58 ?_
        refine lv_i2b (v := (iA >>> (0 &&& 31)).toInt8.toInt32) hx hb dX5_feed_59 rfl ?_
        refine cVv (As := [.int ((iA >>> (0 &&& 31)).toInt8.toInt32)]) (rest := []) (b := qa) (q := (RX3, TX3, 7)) ⟨hx, hb, hml, hown, hts⟩ (c_X3_append l G cy (H).size qa qab (kZ + 1) (.int iT1) (.int iT2) (.int iT3) (.int iT4) (.ref qd) (upd fB kZ (vp_nar .byte ((iA >>> (8 &&& 31)).toInt8.toInt32))) ((iA >>> (0 &&& 31)).toInt8.toInt32) (by omega)) L_X5_150 hN hP hD hS hA [2, 3] [true, true, false, false] rfl (by decide +kernel) rfl 2 2 rfl rfl rfl ⟨Nat.le_of_ble_eq_true rfl, Nat.le_of_ble_eq_true rfl⟩ hl.1 (Nat.le_of_ble_eq_true rfl) dX5_feed_60 ⟨Nat.le_of_ble_eq_true rfl, Nat.le_of_ble_eq_true rfl⟩ (fun u_23 H locs h_22 => ?_)
        clear hP hD hS
        intro hP hD hS
        subst h_22
        have hPD := pd_as [zzO qx 4 [.ref qt, .ref qk, .ref qp, .ref qs, .ref qa, .ref qr, .int iKp, .int iYe, .int iTv], zzI cy qr 5 fR, zzO qa 2 [.ref qab, .int (nI ((kZ + 1) + 1)), .int iT1, .int iT2, .int iT3, .int iT4, .ref qd], zzB cy qab 250 (upd (upd fB kZ (vp_nar .byte ((iA >>> (8 &&& 31)).toInt8.toInt32))) (kZ + 1) (vp_nar .byte ((iA >>> (0 &&& 31)).toInt8.toInt32)))] hP hD rfl
        clear hP hD
        obtain ⟨hP, hD⟩ := hPD
        refine lv_iinc (v := (-8)) (lv' := [(3, .int (-8)), (0, .ref qx), (1, .int iA), (2, .int 2)]) hx hb dX5_feed_63 hl (k := 0) rfl (by decide) (by decide) rfl (fun ls => ?_)
        clear hl
        intro hl
        refine lv_goto (tgt := 48) hx hb dX5_feed_66 (by decide) ?_
        refine lv_iload_n hx hb dX5_feed_48 rfl (lv_at hl 0 rfl) ?_
        refine lv_if_lt (tgt := 69) hx hb dX5_feed_49 (by decide) (fun _ => ?_) (fun h9 => absurd (by decide) h9)
        refine lv_aload_n hx hb dX5_feed_69 rfl (lv_at hl 1 rfl) ?_
        refine va_get (D := G) (ci := 4) (v := .ref qa) (C := RX5) (T := TX5) (N := 9) hx hb hts iX_X5 hown hK hP 0 rfl rfl 4 (by decide) (hts _ m_t178) (fun _ h9 => h9) rfl dX5_feed_70 ?_
        refine va_getN (D := G) (ci := 2) (v := .int (nI ((kZ + 1) + 1))) (C := RX3) (T := TX3) (N := 7) hx hb hts iX_X3 hown hK hP 2 rfl rfl 1 (by decide) (va_Nw.use rfl (hN.2.1 (RX5, 148, "EachBookOnce$Tape", "size", "I") (List.mem_of_getElem? (i := 29) rfl))) (fun _ h9 => h9) rfl dX5_feed_73 ?_
        exact endW (u := [zzO qx 4 [.ref qt, .ref qk, .ref qp, .ref qs, .ref qa, .ref qr, .int iKp, .int iYe, .int iTv], zzI cy qr 5 fR, zzO qa 2 [.ref qab, .int (nI ((kZ + 1) + 1)), .int iT1, .int iT2, .int iT3, .int iT4, .ref qd], zzB cy qab 250 (upd (upd fB kZ (vp_nar .byte ((iA >>> (8 &&& 31)).toInt8.toInt32))) (kZ + 1) (vp_nar .byte ((iA >>> (0 &&& 31)).toInt8.toInt32)))]) hx hb hr hlocks rfl (hP.sub [0, 1, 2, 3] rfl) (hD.sub [0, 1, 2, 3] (by decide +kernel) rfl) hS ⟨fR, ((kZ + 1) + 1), iT1, iT2, iT3, iT4, upd (upd fB kZ (vp_nar .byte ((iA >>> (8 &&& 31)).toInt8.toInt32))) (kZ + 1) (vp_nar .byte ((iA >>> (0 &&& 31)).toInt8.toInt32)), rfl, ⟨Or.inr ⟨2, by omega, by omega, rfl, Or.inr ⟨rfl, fd_yes (k := 2) (by omega) (by omega) c_15, rfl⟩⟩, Or.inr ⟨2, by omega, by omega, rfl, rfl, fd_s2 (nrm_byte _) (nrm_byte _)⟩⟩, trivial⟩ dX5_feed_76
      · refine lv_aload_n hx hb dX5_feed_34 rfl (lv_at hl 0 rfl) ?_
        refine lv_bipush (v := (-6)) hx hb dX5_feed_35 (by decide) ?_
        refine cVi (As := [.int (-6)]) (rest := []) (b := qx) (q := (RX5, TX5, 9)) ⟨hx, hb, hml, hown, hts⟩ (c_X5_refuse6 l G cy (s.heap).size qx qt qk qp qs qa qr iKp iYe iTv fR) L_X5_56 hN hP hD hS hA [0, 1] [false, false, true, true] rfl (by decide +kernel) rfl 0 4 rfl rfl rfl ⟨Nat.le_of_ble_eq_true rfl, Nat.le_of_ble_eq_true rfl⟩ hl.1 (Nat.le_of_ble_eq_true rfl) dX5_feed_37 ⟨Nat.le_of_ble_eq_true rfl, Nat.le_of_ble_eq_true rfl⟩ (fun r_25 u_27 H locs h_26 => ?_)
        clear hP hD hS
        intro hP hD hS
        obtain ⟨fX_28, rfl, h_26⟩ := h_26
        have hPD := pd_as [zzO qa 2 [.ref qab, .int (nI kZ), .int iT1, .int iT2, .int iT3, .int iT4, .ref qd], zzB cy qab 250 fB, zzO qx 4 [.ref qt, .ref qk, .ref qp, .ref qs, .ref qa, .ref qr, .int iKp, .int iYe, .int iTv], zzI cy qr 5 fX_28] hP hD rfl
        clear hP hD
        obtain ⟨hP, hD⟩ := hPD
        subst h_26
        exact endW (u := [zzO qx 4 [.ref qt, .ref qk, .ref qp, .ref qs, .ref qa, .ref qr, .int iKp, .int iYe, .int iTv], zzI cy qr 5 fX_28, zzO qa 2 [.ref qab, .int (nI kZ), .int iT1, .int iT2, .int iT3, .int iT4, .ref qd], zzB cy qab 250 fB]) hx hb hr hlocks rfl (hP.sub [2, 3, 0, 1] rfl) (hD.sub [2, 3, 0, 1] (by decide +kernel) rfl) hS ⟨fX_28, kZ, iT1, iT2, iT3, iT4, fB, rfl, ⟨Or.inr ⟨2, by omega, by omega, rfl, Or.inl ⟨rfl, fd_no (k := 2) (by omega) (by omega) c_15, rfl⟩⟩, Or.inl ⟨rfl, rfl⟩⟩, trivial⟩ dX5_feed_40
    · refine lv_aload_n hx hb dX5_feed_19 rfl (lv_at hl 0 rfl) ?_
      refine va_get (D := G) (ci := 4) (v := .ref qa) (C := RX5) (T := TX5) (N := 9) hx hb hts iX_X5 hown hK hP 0 rfl rfl 4 (by decide) (hts _ m_t178) (fun _ h9 => h9) rfl dX5_feed_20 ?_
      refine va_getN (D := G) (ci := 2) (v := .int (nI kZ)) (C := RX3) (T := TX3) (N := 7) hx hb hts iX_X3 hown hK hP 2 rfl rfl 1 (by decide) (va_Nw.use rfl (hN.2.1 (RX5, 148, "EachBookOnce$Tape", "size", "I") (List.mem_of_getElem? (i := 29) rfl))) (fun _ h9 => h9) rfl dX5_feed_23 ?_
      refine lv_sipush (v := 250) hx hb dX5_feed_26 (by decide) ?_
      refine lv_iload_n hx hb dX5_feed_29 rfl (lv_at hl 2 rfl) ?_
      refine lv_isub hx hb dX5_feed_30 ?_
      refine lv_seti (v := 247) (by decide) ?_
      refine lv_icmp_le (tgt := 41) hx hb dX5_feed_31 (by decide) (fun c_29 => ?_) (fun c_29 => ?_)
      · have hfd : kZ + 3 ≤ 250 := fd_yes (k := 3) (by omega) (by omega) c_29
        refine lv_bipush (v := 8) hx hb dX5_feed_41 (by decide) ?_
        refine lv_iload_n hx hb dX5_feed_43 rfl (lv_at hl 2 rfl) ?_
        refine lv_iconst (v := 1) hx hb dX5_feed_44 (by decide) ?_
        refine lv_isub hx hb dX5_feed_45 ?_
        refine lv_seti (v := 2) (by decide) ?_
        refine lv_imul hx hb dX5_feed_46 ?_
        refine lv_seti (v := 16) (by decide) ?_
        refine lv_istore_n (lv' := [(3, .int 16), (0, .ref qx), (1, .int iA), (2, .int 3)]) hx hb dX5_feed_47 rfl hl (by decide) rfl (fun ls => ?_)
        clear hl
        intro hl
        refine lv_iload_n hx hb dX5_feed_48 rfl (lv_at hl 0 rfl) ?_
        refine lv_if_lt (tgt := 69) hx hb dX5_feed_49 (by decide) (fun h9 => absurd h9 (by decide)) (fun _ => ?_)
        refine lv_aload_n hx hb dX5_feed_52 rfl (lv_at hl 1 rfl) ?_
        refine va_get (D := G) (ci := 4) (v := .ref qa) (C := RX5) (T := TX5) (N := 9) hx hb hts iX_X5 hown hK hP 0 rfl rfl 4 (by decide) (hts _ m_t178) (fun _ h9 => h9) rfl dX5_feed_53 ?_
        refine lv_iload_n hx hb dX5_feed_56 rfl (lv_at hl 2 rfl) ?_
        refine lv_iload_n hx hb dX5_feed_57 rfl (lv_at hl 0 rfl) ?_
        refine lv_ishr hx hb dX5_feed_58 ?_
        refine lv_i2b (v := (iA >>> (16 &&& 31)).toInt8.toInt32) hx hb dX5_feed_59 rfl ?_
        refine cVv (As := [.int ((iA >>> (16 &&& 31)).toInt8.toInt32)]) (rest := []) (b := qa) (q := (RX3, TX3, 7)) ⟨hx, hb, hml, hown, hts⟩ (c_X3_append l G cy (s.heap).size qa qab kZ (.int iT1) (.int iT2) (.int iT3) (.int iT4) (.ref qd) fB ((iA >>> (16 &&& 31)).toInt8.toInt32) (by omega)) L_X5_150 hN hP hD hS hA [2, 3] [true, true, false, false] rfl (by decide +kernel) rfl 2 2 rfl rfl rfl ⟨Nat.le_of_ble_eq_true rfl, Nat.le_of_ble_eq_true rfl⟩ hl.1 (Nat.le_of_ble_eq_true rfl) dX5_feed_60 ⟨Nat.le_of_ble_eq_true rfl, Nat.le_of_ble_eq_true rfl⟩ (fun u_33 H locs h_32 => ?_)
        clear hP hD hS
        intro hP hD hS
        subst h_32
        have hPD := pd_as [zzO qx 4 [.ref qt, .ref qk, .ref qp, .ref qs, .ref qa, .ref qr, .int iKp, .int iYe, .int iTv], zzI cy qr 5 fR, zzO qa 2 [.ref qab, .int (nI (kZ + 1)), .int iT1, .int iT2, .int iT3, .int iT4, .ref qd], zzB cy qab 250 (upd fB kZ (vp_nar .byte ((iA >>> (16 &&& 31)).toInt8.toInt32)))] hP hD rfl
        clear hP hD
        obtain ⟨hP, hD⟩ := hPD
        refine lv_iinc (v := 8) (lv' := [(3, .int 8), (0, .ref qx), (1, .int iA), (2, .int 3)]) hx hb dX5_feed_63 hl (k := 0) rfl (by decide) (by decide) rfl (fun ls => ?_)
        clear hl
        intro hl
        refine lv_goto (tgt := 48) hx hb dX5_feed_66 (by decide) ?_
        refine lv_iload_n hx hb dX5_feed_48 rfl (lv_at hl 0 rfl) ?_
        refine lv_if_lt (tgt := 69) hx hb dX5_feed_49 (by decide) (fun h9 => absurd h9 (by decide)) (fun _ => ?_)
        refine lv_aload_n hx hb dX5_feed_52 rfl (lv_at hl 1 rfl) ?_
        refine va_get (D := G) (ci := 4) (v := .ref qa) (C := RX5) (T := TX5) (N := 9) hx hb hts iX_X5 hown hK hP 0 rfl rfl 4 (by decide) (hts _ m_t178) (fun _ h9 => h9) rfl dX5_feed_53 ?_
        refine lv_iload_n hx hb dX5_feed_56 rfl (lv_at hl 2 rfl) ?_
        refine lv_iload_n hx hb dX5_feed_57 rfl (lv_at hl 0 rfl) ?_
        refine lv_ishr hx hb dX5_feed_58 ?_
        refine lv_i2b (v := (iA >>> (8 &&& 31)).toInt8.toInt32) hx hb dX5_feed_59 rfl ?_
        refine cVv (As := [.int ((iA >>> (8 &&& 31)).toInt8.toInt32)]) (rest := []) (b := qa) (q := (RX3, TX3, 7)) ⟨hx, hb, hml, hown, hts⟩ (c_X3_append l G cy (H).size qa qab (kZ + 1) (.int iT1) (.int iT2) (.int iT3) (.int iT4) (.ref qd) (upd fB kZ (vp_nar .byte ((iA >>> (16 &&& 31)).toInt8.toInt32))) ((iA >>> (8 &&& 31)).toInt8.toInt32) (by omega)) L_X5_150 hN hP hD hS hA [2, 3] [true, true, false, false] rfl (by decide +kernel) rfl 2 2 rfl rfl rfl ⟨Nat.le_of_ble_eq_true rfl, Nat.le_of_ble_eq_true rfl⟩ hl.1 (Nat.le_of_ble_eq_true rfl) dX5_feed_60 ⟨Nat.le_of_ble_eq_true rfl, Nat.le_of_ble_eq_true rfl⟩ (fun u_37 H locs h_36 => ?_)
        clear hP hD hS
        intro hP hD hS
        subst h_36
        have hPD := pd_as [zzO qx 4 [.ref qt, .ref qk, .ref qp, .ref qs, .ref qa, .ref qr, .int iKp, .int iYe, .int iTv], zzI cy qr 5 fR, zzO qa 2 [.ref qab, .int (nI ((kZ + 1) + 1)), .int iT1, .int iT2, .int iT3, .int iT4, .ref qd], zzB cy qab 250 (upd (upd fB kZ (vp_nar .byte ((iA >>> (16 &&& 31)).toInt8.toInt32))) (kZ + 1) (vp_nar .byte ((iA >>> (8 &&& 31)).toInt8.toInt32)))] hP hD rfl
        clear hP hD
        obtain ⟨hP, hD⟩ := hPD
        refine lv_iinc (v := 0) (lv' := [(3, .int 0), (0, .ref qx), (1, .int iA), (2, .int 3)]) hx hb dX5_feed_63 hl (k := 0) rfl (by decide) (by decide) rfl (fun ls => ?_)
        clear hl
        intro hl
        refine lv_goto (tgt := 48) hx hb dX5_feed_66 (by decide) ?_
        refine lv_iload_n hx hb dX5_feed_48 rfl (lv_at hl 0 rfl) ?_
        refine lv_if_lt (tgt := 69) hx hb dX5_feed_49 (by decide) (fun h9 => absurd h9 (by decide)) (fun _ => ?_)
        refine lv_aload_n hx hb dX5_feed_52 rfl (lv_at hl 1 rfl) ?_
        refine va_get (D := G) (ci := 4) (v := .ref qa) (C := RX5) (T := TX5) (N := 9) hx hb hts iX_X5 hown hK hP 0 rfl rfl 4 (by decide) (hts _ m_t178) (fun _ h9 => h9) rfl dX5_feed_53 ?_
        refine lv_iload_n hx hb dX5_feed_56 rfl (lv_at hl 2 rfl) ?_
        refine lv_iload_n hx hb dX5_feed_57 rfl (lv_at hl 0 rfl) ?_
        refine lv_ishr hx hb dX5_feed_58 ?_
        refine lv_i2b (v := (iA >>> (0 &&& 31)).toInt8.toInt32) hx hb dX5_feed_59 rfl ?_
        refine cVv (As := [.int ((iA >>> (0 &&& 31)).toInt8.toInt32)]) (rest := []) (b := qa) (q := (RX3, TX3, 7)) ⟨hx, hb, hml, hown, hts⟩ (c_X3_append l G cy (H).size qa qab ((kZ + 1) + 1) (.int iT1) (.int iT2) (.int iT3) (.int iT4) (.ref qd) (upd (upd fB kZ (vp_nar .byte ((iA >>> (16 &&& 31)).toInt8.toInt32))) (kZ + 1) (vp_nar .byte ((iA >>> (8 &&& 31)).toInt8.toInt32))) ((iA >>> (0 &&& 31)).toInt8.toInt32) (by omega)) L_X5_150 hN hP hD hS hA [2, 3] [true, true, false, false] rfl (by decide +kernel) rfl 2 2 rfl rfl rfl ⟨Nat.le_of_ble_eq_true rfl, Nat.le_of_ble_eq_true rfl⟩ hl.1 (Nat.le_of_ble_eq_true rfl) dX5_feed_60 ⟨Nat.le_of_ble_eq_true rfl, Nat.le_of_ble_eq_true rfl⟩ (fun u_41 H locs h_40 => ?_)
        clear hP hD hS
        intro hP hD hS
        subst h_40
        have hPD := pd_as [zzO qx 4 [.ref qt, .ref qk, .ref qp, .ref qs, .ref qa, .ref qr, .int iKp, .int iYe, .int iTv], zzI cy qr 5 fR, zzO qa 2 [.ref qab, .int (nI (((kZ + 1) + 1) + 1)), .int iT1, .int iT2, .int iT3, .int iT4, .ref qd], zzB cy qab 250 (upd (upd (upd fB kZ (vp_nar .byte ((iA >>> (16 &&& 31)).toInt8.toInt32))) (kZ + 1) (vp_nar .byte ((iA >>> (8 &&& 31)).toInt8.toInt32))) ((kZ + 1) + 1) (vp_nar .byte ((iA >>> (0 &&& 31)).toInt8.toInt32)))] hP hD rfl
        clear hP hD
        obtain ⟨hP, hD⟩ := hPD
        refine lv_iinc (v := (-8)) (lv' := [(3, .int (-8)), (0, .ref qx), (1, .int iA), (2, .int 3)]) hx hb dX5_feed_63 hl (k := 0) rfl (by decide) (by decide) rfl (fun ls => ?_)
        clear hl
        intro hl
        refine lv_goto (tgt := 48) hx hb dX5_feed_66 (by decide) ?_
        refine lv_iload_n hx hb dX5_feed_48 rfl (lv_at hl 0 rfl) ?_
        refine lv_if_lt (tgt := 69) hx hb dX5_feed_49 (by decide) (fun _ => ?_) (fun h9 => absurd (by decide) h9)
        refine lv_aload_n hx hb dX5_feed_69 rfl (lv_at hl 1 rfl) ?_
        refine va_get (D := G) (ci := 4) (v := .ref qa) (C := RX5) (T := TX5) (N := 9) hx hb hts iX_X5 hown hK hP 0 rfl rfl 4 (by decide) (hts _ m_t178) (fun _ h9 => h9) rfl dX5_feed_70 ?_
        refine va_getN (D := G) (ci := 2) (v := .int (nI (((kZ + 1) + 1) + 1))) (C := RX3) (T := TX3) (N := 7) hx hb hts iX_X3 hown hK hP 2 rfl rfl 1 (by decide) (va_Nw.use rfl (hN.2.1 (RX5, 148, "EachBookOnce$Tape", "size", "I") (List.mem_of_getElem? (i := 29) rfl))) (fun _ h9 => h9) rfl dX5_feed_73 ?_
        exact endW (u := [zzO qx 4 [.ref qt, .ref qk, .ref qp, .ref qs, .ref qa, .ref qr, .int iKp, .int iYe, .int iTv], zzI cy qr 5 fR, zzO qa 2 [.ref qab, .int (nI (((kZ + 1) + 1) + 1)), .int iT1, .int iT2, .int iT3, .int iT4, .ref qd], zzB cy qab 250 (upd (upd (upd fB kZ (vp_nar .byte ((iA >>> (16 &&& 31)).toInt8.toInt32))) (kZ + 1) (vp_nar .byte ((iA >>> (8 &&& 31)).toInt8.toInt32))) ((kZ + 1) + 1) (vp_nar .byte ((iA >>> (0 &&& 31)).toInt8.toInt32)))]) hx hb hr hlocks rfl (hP.sub [0, 1, 2, 3] rfl) (hD.sub [0, 1, 2, 3] (by decide +kernel) rfl) hS ⟨fR, (((kZ + 1) + 1) + 1), iT1, iT2, iT3, iT4, upd (upd (upd fB kZ (vp_nar .byte ((iA >>> (16 &&& 31)).toInt8.toInt32))) (kZ + 1) (vp_nar .byte ((iA >>> (8 &&& 31)).toInt8.toInt32))) ((kZ + 1) + 1) (vp_nar .byte ((iA >>> (0 &&& 31)).toInt8.toInt32)), rfl, ⟨Or.inr ⟨3, by omega, by omega, rfl, Or.inr ⟨rfl, fd_yes (k := 3) (by omega) (by omega) c_29, rfl⟩⟩, Or.inr ⟨3, by omega, by omega, rfl, rfl, fd_s3 (nrm_byte _) (nrm_byte _) (nrm_byte _)⟩⟩, trivial⟩ dX5_feed_76
      · refine lv_aload_n hx hb dX5_feed_34 rfl (lv_at hl 0 rfl) ?_
        refine lv_bipush (v := (-6)) hx hb dX5_feed_35 (by decide) ?_
        refine cVi (As := [.int (-6)]) (rest := []) (b := qx) (q := (RX5, TX5, 9)) ⟨hx, hb, hml, hown, hts⟩ (c_X5_refuse6 l G cy (s.heap).size qx qt qk qp qs qa qr iKp iYe iTv fR) L_X5_56 hN hP hD hS hA [0, 1] [false, false, true, true] rfl (by decide +kernel) rfl 0 4 rfl rfl rfl ⟨Nat.le_of_ble_eq_true rfl, Nat.le_of_ble_eq_true rfl⟩ hl.1 (Nat.le_of_ble_eq_true rfl) dX5_feed_37 ⟨Nat.le_of_ble_eq_true rfl, Nat.le_of_ble_eq_true rfl⟩ (fun r_43 u_45 H locs h_44 => ?_)
        clear hP hD hS
        intro hP hD hS
        obtain ⟨fX_46, rfl, h_44⟩ := h_44
        have hPD := pd_as [zzO qa 2 [.ref qab, .int (nI kZ), .int iT1, .int iT2, .int iT3, .int iT4, .ref qd], zzB cy qab 250 fB, zzO qx 4 [.ref qt, .ref qk, .ref qp, .ref qs, .ref qa, .ref qr, .int iKp, .int iYe, .int iTv], zzI cy qr 5 fX_46] hP hD rfl
        clear hP hD
        obtain ⟨hP, hD⟩ := hPD
        subst h_44
        exact endW (u := [zzO qx 4 [.ref qt, .ref qk, .ref qp, .ref qs, .ref qa, .ref qr, .int iKp, .int iYe, .int iTv], zzI cy qr 5 fX_46, zzO qa 2 [.ref qab, .int (nI kZ), .int iT1, .int iT2, .int iT3, .int iT4, .ref qd], zzB cy qab 250 fB]) hx hb hr hlocks rfl (hP.sub [2, 3, 0, 1] rfl) (hD.sub [2, 3, 0, 1] (by decide +kernel) rfl) hS ⟨fX_46, kZ, iT1, iT2, iT3, iT4, fB, rfl, ⟨Or.inr ⟨3, by omega, by omega, rfl, Or.inl ⟨rfl, fd_no (k := 3) (by omega) (by omega) c_29, rfl⟩⟩, Or.inl ⟨rfl, rfl⟩⟩, trivial⟩ dX5_feed_40
    · refine lv_aload_n hx hb dX5_feed_19 rfl (lv_at hl 0 rfl) ?_
      refine va_get (D := G) (ci := 4) (v := .ref qa) (C := RX5) (T := TX5) (N := 9) hx hb hts iX_X5 hown hK hP 0 rfl rfl 4 (by decide) (hts _ m_t178) (fun _ h9 => h9) rfl dX5_feed_20 ?_
      refine va_getN (D := G) (ci := 2) (v := .int (nI kZ)) (C := RX3) (T := TX3) (N := 7) hx hb hts iX_X3 hown hK hP 2 rfl rfl 1 (by decide) (va_Nw.use rfl (hN.2.1 (RX5, 148, "EachBookOnce$Tape", "size", "I") (List.mem_of_getElem? (i := 29) rfl))) (fun _ h9 => h9) rfl dX5_feed_23 ?_
      refine lv_sipush (v := 250) hx hb dX5_feed_26 (by decide) ?_
      refine lv_iload_n hx hb dX5_feed_29 rfl (lv_at hl 2 rfl) ?_
      refine lv_isub hx hb dX5_feed_30 ?_
      refine lv_seti (v := 246) (by decide) ?_
      refine lv_icmp_le (tgt := 41) hx hb dX5_feed_31 (by decide) (fun c_47 => ?_) (fun c_47 => ?_)
      · have hfd : kZ + 4 ≤ 250 := fd_yes (k := 4) (by omega) (by omega) c_47
        refine lv_bipush (v := 8) hx hb dX5_feed_41 (by decide) ?_
        refine lv_iload_n hx hb dX5_feed_43 rfl (lv_at hl 2 rfl) ?_
        refine lv_iconst (v := 1) hx hb dX5_feed_44 (by decide) ?_
        refine lv_isub hx hb dX5_feed_45 ?_
        refine lv_seti (v := 3) (by decide) ?_
        refine lv_imul hx hb dX5_feed_46 ?_
        refine lv_seti (v := 24) (by decide) ?_
        refine lv_istore_n (lv' := [(3, .int 24), (0, .ref qx), (1, .int iA), (2, .int 4)]) hx hb dX5_feed_47 rfl hl (by decide) rfl (fun ls => ?_)
        clear hl
        intro hl
        refine lv_iload_n hx hb dX5_feed_48 rfl (lv_at hl 0 rfl) ?_
        refine lv_if_lt (tgt := 69) hx hb dX5_feed_49 (by decide) (fun h9 => absurd h9 (by decide)) (fun _ => ?_)
        refine lv_aload_n hx hb dX5_feed_52 rfl (lv_at hl 1 rfl) ?_
        refine va_get (D := G) (ci := 4) (v := .ref qa) (C := RX5) (T := TX5) (N := 9) hx hb hts iX_X5 hown hK hP 0 rfl rfl 4 (by decide) (hts _ m_t178) (fun _ h9 => h9) rfl dX5_feed_53 ?_
        refine lv_iload_n hx hb dX5_feed_56 rfl (lv_at hl 2 rfl) ?_
        refine lv_iload_n hx hb dX5_feed_57 rfl (lv_at hl 0 rfl) ?_
        refine lv_ishr hx hb dX5_feed_58 ?_
        refine lv_i2b (v := (iA >>> (24 &&& 31)).toInt8.toInt32) hx hb dX5_feed_59 rfl ?_
        refine cVv (As := [.int ((iA >>> (24 &&& 31)).toInt8.toInt32)]) (rest := []) (b := qa) (q := (RX3, TX3, 7)) ⟨hx, hb, hml, hown, hts⟩ (c_X3_append l G cy (s.heap).size qa qab kZ (.int iT1) (.int iT2) (.int iT3) (.int iT4) (.ref qd) fB ((iA >>> (24 &&& 31)).toInt8.toInt32) (by omega)) L_X5_150 hN hP hD hS hA [2, 3] [true, true, false, false] rfl (by decide +kernel) rfl 2 2 rfl rfl rfl ⟨Nat.le_of_ble_eq_true rfl, Nat.le_of_ble_eq_true rfl⟩ hl.1 (Nat.le_of_ble_eq_true rfl) dX5_feed_60 ⟨Nat.le_of_ble_eq_true rfl, Nat.le_of_ble_eq_true rfl⟩ (fun u_51 H locs h_50 => ?_)
        clear hP hD hS
        intro hP hD hS
        subst h_50
        have hPD := pd_as [zzO qx 4 [.ref qt, .ref qk, .ref qp, .ref qs, .ref qa, .ref qr, .int iKp, .int iYe, .int iTv], zzI cy qr 5 fR, zzO qa 2 [.ref qab, .int (nI (kZ + 1)), .int iT1, .int iT2, .int iT3, .int iT4, .ref qd], zzB cy qab 250 (upd fB kZ (vp_nar .byte ((iA >>> (24 &&& 31)).toInt8.toInt32)))] hP hD rfl
        clear hP hD
        obtain ⟨hP, hD⟩ := hPD
        refine lv_iinc (v := 16) (lv' := [(3, .int 16), (0, .ref qx), (1, .int iA), (2, .int 4)]) hx hb dX5_feed_63 hl (k := 0) rfl (by decide) (by decide) rfl (fun ls => ?_)
        clear hl
        intro hl
        refine lv_goto (tgt := 48) hx hb dX5_feed_66 (by decide) ?_
        refine lv_iload_n hx hb dX5_feed_48 rfl (lv_at hl 0 rfl) ?_
        refine lv_if_lt (tgt := 69) hx hb dX5_feed_49 (by decide) (fun h9 => absurd h9 (by decide)) (fun _ => ?_)
        refine lv_aload_n hx hb dX5_feed_52 rfl (lv_at hl 1 rfl) ?_
        refine va_get (D := G) (ci := 4) (v := .ref qa) (C := RX5) (T := TX5) (N := 9) hx hb hts iX_X5 hown hK hP 0 rfl rfl 4 (by decide) (hts _ m_t178) (fun _ h9 => h9) rfl dX5_feed_53 ?_
        refine lv_iload_n hx hb dX5_feed_56 rfl (lv_at hl 2 rfl) ?_
        refine lv_iload_n hx hb dX5_feed_57 rfl (lv_at hl 0 rfl) ?_
        refine lv_ishr hx hb dX5_feed_58 ?_
        refine lv_i2b (v := (iA >>> (16 &&& 31)).toInt8.toInt32) hx hb dX5_feed_59 rfl ?_
        refine cVv (As := [.int ((iA >>> (16 &&& 31)).toInt8.toInt32)]) (rest := []) (b := qa) (q := (RX3, TX3, 7)) ⟨hx, hb, hml, hown, hts⟩ (c_X3_append l G cy (H).size qa qab (kZ + 1) (.int iT1) (.int iT2) (.int iT3) (.int iT4) (.ref qd) (upd fB kZ (vp_nar .byte ((iA >>> (24 &&& 31)).toInt8.toInt32))) ((iA >>> (16 &&& 31)).toInt8.toInt32) (by omega)) L_X5_150 hN hP hD hS hA [2, 3] [true, true, false, false] rfl (by decide +kernel) rfl 2 2 rfl rfl rfl ⟨Nat.le_of_ble_eq_true rfl, Nat.le_of_ble_eq_true rfl⟩ hl.1 (Nat.le_of_ble_eq_true rfl) dX5_feed_60 ⟨Nat.le_of_ble_eq_true rfl, Nat.le_of_ble_eq_true rfl⟩ (fun u_55 H locs h_54 => ?_)
        clear hP hD hS
        intro hP hD hS
        subst h_54
        have hPD := pd_as [zzO qx 4 [.ref qt, .ref qk, .ref qp, .ref qs, .ref qa, .ref qr, .int iKp, .int iYe, .int iTv], zzI cy qr 5 fR, zzO qa 2 [.ref qab, .int (nI ((kZ + 1) + 1)), .int iT1, .int iT2, .int iT3, .int iT4, .ref qd], zzB cy qab 250 (upd (upd fB kZ (vp_nar .byte ((iA >>> (24 &&& 31)).toInt8.toInt32))) (kZ + 1) (vp_nar .byte ((iA >>> (16 &&& 31)).toInt8.toInt32)))] hP hD rfl
        clear hP hD
        obtain ⟨hP, hD⟩ := hPD
        refine lv_iinc (v := 8) (lv' := [(3, .int 8), (0, .ref qx), (1, .int iA), (2, .int 4)]) hx hb dX5_feed_63 hl (k := 0) rfl (by decide) (by decide) rfl (fun ls => ?_)
        clear hl
        intro hl
        refine lv_goto (tgt := 48) hx hb dX5_feed_66 (by decide) ?_
        refine lv_iload_n hx hb dX5_feed_48 rfl (lv_at hl 0 rfl) ?_
        refine lv_if_lt (tgt := 69) hx hb dX5_feed_49 (by decide) (fun h9 => absurd h9 (by decide)) (fun _ => ?_)
        refine lv_aload_n hx hb dX5_feed_52 rfl (lv_at hl 1 rfl) ?_
        refine va_get (D := G) (ci := 4) (v := .ref qa) (C := RX5) (T := TX5) (N := 9) hx hb hts iX_X5 hown hK hP 0 rfl rfl 4 (by decide) (hts _ m_t178) (fun _ h9 => h9) rfl dX5_feed_53 ?_
        refine lv_iload_n hx hb dX5_feed_56 rfl (lv_at hl 2 rfl) ?_
        refine lv_iload_n hx hb dX5_feed_57 rfl (lv_at hl 0 rfl) ?_
        refine lv_ishr hx hb dX5_feed_58 ?_
        refine lv_i2b (v := (iA >>> (8 &&& 31)).toInt8.toInt32) hx hb dX5_feed_59 rfl ?_
        refine cVv (As := [.int ((iA >>> (8 &&& 31)).toInt8.toInt32)]) (rest := []) (b := qa) (q := (RX3, TX3, 7)) ⟨hx, hb, hml, hown, hts⟩ (c_X3_append l G cy (H).size qa qab ((kZ + 1) + 1) (.int iT1) (.int iT2) (.int iT3) (.int iT4) (.ref qd) (upd (upd fB kZ (vp_nar .byte ((iA >>> (24 &&& 31)).toInt8.toInt32))) (kZ + 1) (vp_nar .byte ((iA >>> (16 &&& 31)).toInt8.toInt32))) ((iA >>> (8 &&& 31)).toInt8.toInt32) (by omega)) L_X5_150 hN hP hD hS hA [2, 3] [true, true, false, false] rfl (by decide +kernel) rfl 2 2 rfl rfl rfl ⟨Nat.le_of_ble_eq_true rfl, Nat.le_of_ble_eq_true rfl⟩ hl.1 (Nat.le_of_ble_eq_true rfl) dX5_feed_60 ⟨Nat.le_of_ble_eq_true rfl, Nat.le_of_ble_eq_true rfl⟩ (fun u_59 H locs h_58 => ?_)
        clear hP hD hS
        intro hP hD hS
        subst h_58
        have hPD := pd_as [zzO qx 4 [.ref qt, .ref qk, .ref qp, .ref qs, .ref qa, .ref qr, .int iKp, .int iYe, .int iTv], zzI cy qr 5 fR, zzO qa 2 [.ref qab, .int (nI (((kZ + 1) + 1) + 1)), .int iT1, .int iT2, .int iT3, .int iT4, .ref qd], zzB cy qab 250 (upd (upd (upd fB kZ (vp_nar .byte ((iA >>> (24 &&& 31)).toInt8.toInt32))) (kZ + 1) (vp_nar .byte ((iA >>> (16 &&& 31)).toInt8.toInt32))) ((kZ + 1) + 1) (vp_nar .byte ((iA >>> (8 &&& 31)).toInt8.toInt32)))] hP hD rfl
        clear hP hD
        obtain ⟨hP, hD⟩ := hPD
        refine lv_iinc (v := 0) (lv' := [(3, .int 0), (0, .ref qx), (1, .int iA), (2, .int 4)]) hx hb dX5_feed_63 hl (k := 0) rfl (by decide) (by decide) rfl (fun ls => ?_)
        clear hl
        intro hl
        refine lv_goto (tgt := 48) hx hb dX5_feed_66 (by decide) ?_
        refine lv_iload_n hx hb dX5_feed_48 rfl (lv_at hl 0 rfl) ?_
        refine lv_if_lt (tgt := 69) hx hb dX5_feed_49 (by decide) (fun h9 => absurd h9 (by decide)) (fun _ => ?_)
        refine lv_aload_n hx hb dX5_feed_52 rfl (lv_at hl 1 rfl) ?_
        refine va_get (D := G) (ci := 4) (v := .ref qa) (C := RX5) (T := TX5) (N := 9) hx hb hts iX_X5 hown hK hP 0 rfl rfl 4 (by decide) (hts _ m_t178) (fun _ h9 => h9) rfl dX5_feed_53 ?_
        refine lv_iload_n hx hb dX5_feed_56 rfl (lv_at hl 2 rfl) ?_
        refine lv_iload_n hx hb dX5_feed_57 rfl (lv_at hl 0 rfl) ?_
        refine lv_ishr hx hb dX5_feed_58 ?_
        refine lv_i2b (v := (iA >>> (0 &&& 31)).toInt8.toInt32) hx hb dX5_feed_59 rfl ?_
        refine cVv (As := [.int ((iA >>> (0 &&& 31)).toInt8.toInt32)]) (rest := []) (b := qa) (q := (RX3, TX3, 7)) ⟨hx, hb, hml, hown, hts⟩ (c_X3_append l G cy (H).size qa qab (((kZ + 1) + 1) + 1) (.int iT1) (.int iT2) (.int iT3) (.int iT4) (.ref qd) (upd (upd (upd fB kZ (vp_nar .byte ((iA >>> (24 &&& 31)).toInt8.toInt32))) (kZ + 1) (vp_nar .byte ((iA >>> (16 &&& 31)).toInt8.toInt32))) ((kZ + 1) + 1) (vp_nar .byte ((iA >>> (8 &&& 31)).toInt8.toInt32))) ((iA >>> (0 &&& 31)).toInt8.toInt32) (by omega)) L_X5_150 hN hP hD hS hA [2, 3] [true, true, false, false] rfl (by decide +kernel) rfl 2 2 rfl rfl rfl ⟨Nat.le_of_ble_eq_true rfl, Nat.le_of_ble_eq_true rfl⟩ hl.1 (Nat.le_of_ble_eq_true rfl) dX5_feed_60 ⟨Nat.le_of_ble_eq_true rfl, Nat.le_of_ble_eq_true rfl⟩ (fun u_63 H locs h_62 => ?_)
        clear hP hD hS
        intro hP hD hS
        subst h_62
        have hPD := pd_as [zzO qx 4 [.ref qt, .ref qk, .ref qp, .ref qs, .ref qa, .ref qr, .int iKp, .int iYe, .int iTv], zzI cy qr 5 fR, zzO qa 2 [.ref qab, .int (nI ((((kZ + 1) + 1) + 1) + 1)), .int iT1, .int iT2, .int iT3, .int iT4, .ref qd], zzB cy qab 250 (upd (upd (upd (upd fB kZ (vp_nar .byte ((iA >>> (24 &&& 31)).toInt8.toInt32))) (kZ + 1) (vp_nar .byte ((iA >>> (16 &&& 31)).toInt8.toInt32))) ((kZ + 1) + 1) (vp_nar .byte ((iA >>> (8 &&& 31)).toInt8.toInt32))) (((kZ + 1) + 1) + 1) (vp_nar .byte ((iA >>> (0 &&& 31)).toInt8.toInt32)))] hP hD rfl
        clear hP hD
        obtain ⟨hP, hD⟩ := hPD
        refine lv_iinc (v := (-8)) (lv' := [(3, .int (-8)), (0, .ref qx), (1, .int iA), (2, .int 4)]) hx hb dX5_feed_63 hl (k := 0) rfl (by decide) (by decide) rfl (fun ls => ?_)
        clear hl
        intro hl
        refine lv_goto (tgt := 48) hx hb dX5_feed_66 (by decide) ?_
        refine lv_iload_n hx hb dX5_feed_48 rfl (lv_at hl 0 rfl) ?_
        refine lv_if_lt (tgt := 69) hx hb dX5_feed_49 (by decide) (fun _ => ?_) (fun h9 => absurd (by decide) h9)
        refine lv_aload_n hx hb dX5_feed_69 rfl (lv_at hl 1 rfl) ?_
        refine va_get (D := G) (ci := 4) (v := .ref qa) (C := RX5) (T := TX5) (N := 9) hx hb hts iX_X5 hown hK hP 0 rfl rfl 4 (by decide) (hts _ m_t178) (fun _ h9 => h9) rfl dX5_feed_70 ?_
        refine va_getN (D := G) (ci := 2) (v := .int (nI ((((kZ + 1) + 1) + 1) + 1))) (C := RX3) (T := TX3) (N := 7) hx hb hts iX_X3 hown hK hP 2 rfl rfl 1 (by decide) (va_Nw.use rfl (hN.2.1 (RX5, 148, "EachBookOnce$Tape", "size", "I") (List.mem_of_getElem? (i := 29) rfl))) (fun _ h9 => h9) rfl dX5_feed_73 ?_
        exact endW (u := [zzO qx 4 [.ref qt, .ref qk, .ref qp, .ref qs, .ref qa, .ref qr, .int iKp, .int iYe, .int iTv], zzI cy qr 5 fR, zzO qa 2 [.ref qab, .int (nI ((((kZ + 1) + 1) + 1) + 1)), .int iT1, .int iT2, .int iT3, .int iT4, .ref qd], zzB cy qab 250 (upd (upd (upd (upd fB kZ (vp_nar .byte ((iA >>> (24 &&& 31)).toInt8.toInt32))) (kZ + 1) (vp_nar .byte ((iA >>> (16 &&& 31)).toInt8.toInt32))) ((kZ + 1) + 1) (vp_nar .byte ((iA >>> (8 &&& 31)).toInt8.toInt32))) (((kZ + 1) + 1) + 1) (vp_nar .byte ((iA >>> (0 &&& 31)).toInt8.toInt32)))]) hx hb hr hlocks rfl (hP.sub [0, 1, 2, 3] rfl) (hD.sub [0, 1, 2, 3] (by decide +kernel) rfl) hS ⟨fR, ((((kZ + 1) + 1) + 1) + 1), iT1, iT2, iT3, iT4, upd (upd (upd (upd fB kZ (vp_nar .byte ((iA >>> (24 &&& 31)).toInt8.toInt32))) (kZ + 1) (vp_nar .byte ((iA >>> (16 &&& 31)).toInt8.toInt32))) ((kZ + 1) + 1) (vp_nar .byte ((iA >>> (8 &&& 31)).toInt8.toInt32))) (((kZ + 1) + 1) + 1) (vp_nar .byte ((iA >>> (0 &&& 31)).toInt8.toInt32)), rfl, ⟨Or.inr ⟨4, by omega, by omega, rfl, Or.inr ⟨rfl, fd_yes (k := 4) (by omega) (by omega) c_47, rfl⟩⟩, Or.inr ⟨4, by omega, by omega, rfl, rfl, fd_s4 (nrm_byte _) (nrm_byte _) (nrm_byte _) (nrm_byte _)⟩⟩, trivial⟩ dX5_feed_76
      · refine lv_aload_n hx hb dX5_feed_34 rfl (lv_at hl 0 rfl) ?_
        refine lv_bipush (v := (-6)) hx hb dX5_feed_35 (by decide) ?_
        refine cVi (As := [.int (-6)]) (rest := []) (b := qx) (q := (RX5, TX5, 9)) ⟨hx, hb, hml, hown, hts⟩ (c_X5_refuse6 l G cy (s.heap).size qx qt qk qp qs qa qr iKp iYe iTv fR) L_X5_56 hN hP hD hS hA [0, 1] [false, false, true, true] rfl (by decide +kernel) rfl 0 4 rfl rfl rfl ⟨Nat.le_of_ble_eq_true rfl, Nat.le_of_ble_eq_true rfl⟩ hl.1 (Nat.le_of_ble_eq_true rfl) dX5_feed_37 ⟨Nat.le_of_ble_eq_true rfl, Nat.le_of_ble_eq_true rfl⟩ (fun r_65 u_67 H locs h_66 => ?_)
        clear hP hD hS
        intro hP hD hS
        obtain ⟨fX_68, rfl, h_66⟩ := h_66
        have hPD := pd_as [zzO qa 2 [.ref qab, .int (nI kZ), .int iT1, .int iT2, .int iT3, .int iT4, .ref qd], zzB cy qab 250 fB, zzO qx 4 [.ref qt, .ref qk, .ref qp, .ref qs, .ref qa, .ref qr, .int iKp, .int iYe, .int iTv], zzI cy qr 5 fX_68] hP hD rfl
        clear hP hD
        obtain ⟨hP, hD⟩ := hPD
        subst h_66
        exact endW (u := [zzO qx 4 [.ref qt, .ref qk, .ref qp, .ref qs, .ref qa, .ref qr, .int iKp, .int iYe, .int iTv], zzI cy qr 5 fX_68, zzO qa 2 [.ref qab, .int (nI kZ), .int iT1, .int iT2, .int iT3, .int iT4, .ref qd], zzB cy qab 250 fB]) hx hb hr hlocks rfl (hP.sub [2, 3, 0, 1] rfl) (hD.sub [2, 3, 0, 1] (by decide +kernel) rfl) hS ⟨fX_68, kZ, iT1, iT2, iT3, iT4, fB, rfl, ⟨Or.inr ⟨4, by omega, by omega, rfl, Or.inl ⟨rfl, fd_no (k := 4) (by omega) (by omega) c_47, rfl⟩⟩, Or.inl ⟨rfl, rfl⟩⟩, trivial⟩ dX5_feed_40
  · refine lv_if_ne (tgt := 19) hx hb dX5_feed_9 (by decide) (fun h9 => absurd (by decide) h9) (fun _ => ?_)
    refine lv_aload_n hx hb dX5_feed_12 rfl (lv_at hl 0 rfl) ?_
    refine lv_bipush (v := (-2)) hx hb dX5_feed_13 (by decide) ?_
    refine cVi (As := [.int (-2)]) (rest := []) (b := qx) (q := (RX5, TX5, 9)) ⟨hx, hb, hml, hown, hts⟩ (c_X5_refuse2 l G cy (s.heap).size qx qt qk qp qs qa qr iKp iYe iTv fR) L_X5_56 hN hP hD hS hA [0, 1] [false, false, true, true] rfl (by decide +kernel) rfl 0 4 rfl rfl rfl ⟨Nat.le_of_ble_eq_true rfl, Nat.le_of_ble_eq_true rfl⟩ hl.1 (Nat.le_of_ble_eq_true rfl) dX5_feed_15 ⟨Nat.le_of_ble_eq_true rfl, Nat.le_of_ble_eq_true rfl⟩ (fun r_70 u_72 H locs h_71 => ?_)
    clear hP hD hS
    intro hP hD hS
    obtain ⟨fX_73, rfl, h_71⟩ := h_71
    have hPD := pd_as [zzO qa 2 [.ref qab, .int (nI kZ), .int iT1, .int iT2, .int iT3, .int iT4, .ref qd], zzB cy qab 250 fB, zzO qx 4 [.ref qt, .ref qk, .ref qp, .ref qs, .ref qa, .ref qr, .int iKp, .int iYe, .int iTv], zzI cy qr 5 fX_73] hP hD rfl
    clear hP hD
    obtain ⟨hP, hD⟩ := hPD
    subst h_71
    exact endW (u := [zzO qx 4 [.ref qt, .ref qk, .ref qp, .ref qs, .ref qa, .ref qr, .int iKp, .int iYe, .int iTv], zzI cy qr 5 fX_73, zzO qa 2 [.ref qab, .int (nI kZ), .int iT1, .int iT2, .int iT3, .int iT4, .ref qd], zzB cy qab 250 fB]) hx hb hr hlocks rfl (hP.sub [2, 3, 0, 1] rfl) (hD.sub [2, 3, 0, 1] (by decide +kernel) rfl) hS ⟨fX_73, kZ, iT1, iT2, iT3, iT4, fB, rfl, ⟨Or.inl ⟨rfl, h_3, rfl⟩, Or.inl ⟨rfl, rfl⟩⟩, trivial⟩ dX5_feed_18
set_option maxHeartbeats 4000000 in
set_option maxRecDepth 100000 in
theorem x_X6_feed (l : Launch) (G : va_G) (cy : Nat → ClassId) (sz : Nat) (qm : Nat) (qmh : Nat) (qmo : Nat) (qmz : Nat) (qmR : Nat) (qmv : Nat) (qmk : Nat) (qma : Nat) (qmt : Nat) (kZ : Nat) (qmr : Nat) (tA : TA) (qmB : Nat) (qmO : Nat) (qmK : Nat) (iEn : Int32) (iTk : Int32) (uP : UM) (uU : UM) (kAt : Nat) (iTo : Int32) (iFr : Int32) (JFi : Int64) (iFa : Int32) (qm3 : Nat) (iSt : Int32) (iLv : Int32) (iWs : Int32) (vLa : Value) (qmu : Nat) (qmy : Nat) (qmb : Nat) (qms : Nat) (iOm : Int32) (fMt : Nat → Int32) (fMr : Nat → Int32) (iA : Int32) (iB : Int32)  (hZ : kZ ≤ 250) : MW l yX6_feed cX6_feed 4 (some .int) 16 0 0 G cy [zzO qm 5 [.ref qmh, .ref qmo, .ref qmz, .ref qmR, .ref qmv, .ref qmk, .ref qma, .ref qmt, .int (nI kZ), .ref qmr, .int (nI (T_nb tA)), .ref qmB, .int (nI (T_np tA)), .ref qmO, .ref qmK, .int iEn, .int iTk, .int (T_sd tA), ov uP, ov uU, .int (nI kAt), .int iTo, .int iFr, .long JFi, .int iFa, .ref qm3, .int iSt, .int iLv, .int iWs, vLa, .ref qmu, .ref qmy, .ref qmb, .ref qms, .int iOm], zzI cy qmt 250 fMt, zzI cy qmr 8 fMr] sz [.ref qm, .int iA, .int iB] (Wi G (fun r u => ∃ (kNz : Nat) (fNt : Nat → Int32) (fNr : Nat → Int32), u = [zzO qm 5 [.ref qmh, .ref qmo, .ref qmz, .ref qmR, .ref qmv, .ref qmk, .ref qma, .ref qmt, .int (nI kNz), .ref qmr, .int (nI (T_nb tA)), .ref qmB, .int (nI (T_np tA)), .ref qmO, .ref qmK, .int iEn, .int iTk, .int (T_sd tA), ov uP, ov uU, .int (nI kAt), .int iTo, .int iFr, .long JFi, .int iFa, .ref qm3, .int iSt, .int iLv, .int iWs, vLa, .ref qmu, .ref qmy, .ref qmb, .ref qms, .int iOm], zzI cy qmt 250 fNt, zzI cy qmr 8 fNr] ∧ (PXfeed kZ iB r kNz ∧ FD fMt kZ iA iB kNz fNt) ∧ (True))) := by
  refine enW RX6 (by decide) rfl (Nat.le_of_ble_eq_true rfl) (fun p e s m below meth c ls A hx hb hml hown hts hr hlocks hP hN hl hin hD hA hS => ?_)
  have hin : meth.name = _ := hin
  have hK := hN.1
  replace hl : lv_has ls 4 [(0, .ref qm), (1, .int iA), (2, .int iB)] := hl
  refine lv_iload_n hx hb dX6_feed_0 rfl (lv_at hl 2 rfl) ?_
  refine lv_i2l (v := iB.toInt64) hx hb dX6_feed_1 rfl ?_
  refine lv_lconst (v := 1) hx hb dX6_feed_2 (by decide) ?_
  refine lv_ldc2 hx hb hown (hts _ m_t964) dX6_feed_3 ?_
  refine kRi (rS (As := [.long iB.toInt64, .long 1, .long 4]) (rest := []) ⟨hx, hb, hml, hown, hts⟩ (c_X6_in l G cy iB.toInt64 1 4) L_X6_74 (preRS hN hP [] rfl) rfl ⟨Nat.le_of_ble_eq_true rfl, Nat.le_of_ble_eq_true rfl⟩ hl.1 (Nat.le_of_ble_eq_true rfl) dX6_feed_6 ⟨Nat.le_of_ble_eq_true rfl, Nat.le_of_ble_eq_true rfl⟩) (fun r_1 h_2 => ?_)
  rcases h_2 with ⟨rfl, h_3⟩ | ⟨rfl, h_3⟩
  · refine lv_if_ne (tgt := 19) hx hb dX6_feed_9 (by decide) (fun _ => ?_) (fun h9 => absurd h9 (by decide))
    rcases in14 h_3 with rfl | rfl | rfl | rfl
    · refine lv_iload_n hx hb dX6_feed_19 rfl (lv_at hl 2 rfl) ?_
      refine lv_sipush (v := 250) hx hb dX6_feed_20 (by decide) ?_
      refine lv_aload_n hx hb dX6_feed_23 rfl (lv_at hl 0 rfl) ?_
      refine va_get (D := G) (ci := 5) (v := .int (nI kZ)) (C := RX6) (T := TX6) (N := 35) hx hb hts iX_X6 hown hK hP 0 rfl rfl 8 (by decide) (hts _ m_t858) (fun _ h9 => h9) rfl dX6_feed_24 ?_
      refine lv_isub hx hb dX6_feed_27 ?_
      refine lv_icmp_le (tgt := 38) hx hb dX6_feed_28 (by decide) (fun c_5 => ?_) (fun c_5 => ?_)
      · have hfd : kZ + 1 ≤ 250 := fm_yes (k := 1) (by omega) (by omega) c_5
        refine lv_iload_n hx hb dX6_feed_38 rfl (lv_at hl 2 rfl) ?_
        refine lv_iconst (v := 1) hx hb dX6_feed_39 (by decide) ?_
        refine lv_isub hx hb dX6_feed_40 ?_
        refine lv_seti (v := 0) (by decide) ?_
        refine lv_istore_n (lv' := [(3, .int 0), (0, .ref qm), (1, .int iA), (2, .int 1)]) hx hb dX6_feed_41 rfl hl (by decide) rfl (fun ls => ?_)
        clear hl
        intro hl
        refine lv_iload_n hx hb dX6_feed_42 rfl (lv_at hl 0 rfl) ?_
        refine lv_if_lt (tgt := 78) hx hb dX6_feed_43 (by decide) (fun h9 => absurd h9 (by decide)) (fun _ => ?_)
        refine lv_aload_n hx hb dX6_feed_46 rfl (lv_at hl 1 rfl) ?_
        refine va_get (D := G) (ci := 5) (v := .ref qmt) (C := RX6) (T := TX6) (N := 35) hx hb hts iX_X6 hown hK hP 0 rfl rfl 7 (by decide) (hts _ m_t857) (fun _ h9 => h9) rfl dX6_feed_47 ?_
        refine lv_aload_n hx hb dX6_feed_50 rfl (lv_at hl 1 rfl) ?_
        refine lv_dup hx hb dX6_feed_51 rfl ?_
        refine va_get (D := G) (ci := 5) (v := .int (nI kZ)) (C := RX6) (T := TX6) (N := 35) hx hb hts iX_X6 hown hK hP 0 rfl rfl 8 (by decide) (hts _ m_t858) (fun _ h9 => h9) rfl dX6_feed_52 ?_
        refine lv_dup_x1 hx hb dX6_feed_55 rfl rfl ?_
        refine lv_iconst (v := 1) hx hb dX6_feed_56 (by decide) ?_
        refine lv_iadd hx hb dX6_feed_57 ?_
        refine lv_seti (v := nI (kZ + 1)) (nI_1 _) ?_
        refine va_put (D := G) (ci := 5) (v := .int (nI (kZ + 1))) (ty := .int) (C := RX6) (T := TX6) (N := 35) hx hb hts iX_X6 tyX6 tyX6_ok nmX6 hown hK hP hD hS 0 rfl rfl 8 (by decide) (hts _ m_t858) (fun _ h9 => h9) rfl (by decide +kernel) rfl rfl (Nat.le_of_ble_eq_true rfl) dX6_feed_58 (fun H locs => ?_)
        clear hP hD hS
        intro hP hD hS
        have hPD := pd_as [zzO qm 5 [.ref qmh, .ref qmo, .ref qmz, .ref qmR, .ref qmv, .ref qmk, .ref qma, .ref qmt, .int (nI (kZ + 1)), .ref qmr, .int (nI (T_nb tA)), .ref qmB, .int (nI (T_np tA)), .ref qmO, .ref qmK, .int iEn, .int iTk, .int (T_sd tA), ov uP, ov uU, .int (nI kAt), .int iTo, .int iFr, .long JFi, .int iFa, .ref qm3, .int iSt, .int iLv, .int iWs, vLa, .ref qmu, .ref qmy, .ref qmb, .ref qms, .int iOm], zzI cy qmt 250 fMt, zzI cy qmr 8 fMr] hP hD rfl
        clear hP hD
        obtain ⟨hP, hD⟩ := hPD
        refine lv_iload_n hx hb dX6_feed_61 rfl (lv_at hl 2 rfl) ?_
        refine lv_bipush (v := 8) hx hb dX6_feed_62 (by decide) ?_
        refine lv_iload_n hx hb dX6_feed_64 rfl (lv_at hl 0 rfl) ?_
        refine lv_imul hx hb dX6_feed_65 ?_
        refine lv_seti (v := 0) (by decide) ?_
        refine lv_ishr hx hb dX6_feed_66 ?_
        refine lv_sipush (v := 255) hx hb dX6_feed_67 (by decide) ?_
        refine lv_iand hx hb dX6_feed_70 ?_
        refine va_iast hx hb hK hP hD hS 1 0 rfl rfl (vp_in_nI (by omega) (by omega)) dX6_feed_71 (fun H locs => ?_)
        clear hP hD hS
        intro hP hD hS
        rw [nI_clamp (n := kZ) (by omega)] at hP hD
        have hPD := pd_as [zzO qm 5 [.ref qmh, .ref qmo, .ref qmz, .ref qmR, .ref qmv, .ref qmk, .ref qma, .ref qmt, .int (nI (kZ + 1)), .ref qmr, .int (nI (T_nb tA)), .ref qmB, .int (nI (T_np tA)), .ref qmO, .ref qmK, .int iEn, .int iTk, .int (T_sd tA), ov uP, ov uU, .int (nI kAt), .int iTo, .int iFr, .long JFi, .int iFa, .ref qm3, .int iSt, .int iLv, .int iWs, vLa, .ref qmu, .ref qmy, .ref qmb, .ref qms, .int iOm], zzI cy qmt 250 (upd fMt kZ ((iA >>> (0 &&& 31)) &&& 255)), zzI cy qmr 8 fMr] hP hD rfl
        clear hP hD
        obtain ⟨hP, hD⟩ := hPD
        refine lv_iinc (v := (-1)) (lv' := [(3, .int (-1)), (0, .ref qm), (1, .int iA), (2, .int 1)]) hx hb dX6_feed_72 hl (k := 0) rfl (by decide) (by decide) rfl (fun ls => ?_)
        clear hl
        intro hl
        refine lv_goto (tgt := 42) hx hb dX6_feed_75 (by decide) ?_
        refine lv_iload_n hx hb dX6_feed_42 rfl (lv_at hl 0 rfl) ?_
        refine lv_if_lt (tgt := 78) hx hb dX6_feed_43 (by decide) (fun _ => ?_) (fun h9 => absurd (by decide) h9)
        refine lv_aload_n hx hb dX6_feed_78 rfl (lv_at hl 1 rfl) ?_
        refine va_get (D := G) (ci := 5) (v := .int (nI (kZ + 1))) (C := RX6) (T := TX6) (N := 35) hx hb hts iX_X6 hown hK hP 0 rfl rfl 8 (by decide) (hts _ m_t858) (fun _ h9 => h9) rfl dX6_feed_79 ?_
        exact endW (u := [zzO qm 5 [.ref qmh, .ref qmo, .ref qmz, .ref qmR, .ref qmv, .ref qmk, .ref qma, .ref qmt, .int (nI (kZ + 1)), .ref qmr, .int (nI (T_nb tA)), .ref qmB, .int (nI (T_np tA)), .ref qmO, .ref qmK, .int iEn, .int iTk, .int (T_sd tA), ov uP, ov uU, .int (nI kAt), .int iTo, .int iFr, .long JFi, .int iFa, .ref qm3, .int iSt, .int iLv, .int iWs, vLa, .ref qmu, .ref qmy, .ref qmb, .ref qms, .int iOm], zzI cy qmt 250 (upd fMt kZ ((iA >>> (0 &&& 31)) &&& 255)), zzI cy qmr 8 fMr]) hx hb hr hlocks rfl (hP.sub [0, 1, 2] rfl) (hD.sub [0, 1, 2] (by decide +kernel) rfl) hS ⟨(kZ + 1), (upd fMt kZ ((iA >>> (0 &&& 31)) &&& 255)), fMr, rfl, ⟨Or.inr ⟨1, by omega, by omega, rfl, Or.inr ⟨rfl, fm_yes (k := 1) (by omega) (by omega) c_5, rfl⟩⟩, Or.inr ⟨1, by omega, by omega, rfl, rfl, fd_s1 rfl⟩⟩, trivial⟩ dX6_feed_82
      · refine lv_aload_n hx hb dX6_feed_31 rfl (lv_at hl 0 rfl) ?_
        refine lv_bipush (v := (-6)) hx hb dX6_feed_32 (by decide) ?_
        refine cVi (As := [.int (-6)]) (rest := []) (b := qm) (q := (RX6, TX6, 35)) ⟨hx, hb, hml, hown, hts⟩ (c_X6_refuse6 l G cy (s.heap).size qm (.ref qmh) (.ref qmo) (.ref qmz) (.ref qmR) (.ref qmv) (.ref qmk) (.ref qma) (.ref qmt) (.int (nI kZ)) qmr tA qmB qmO qmK iEn iTk (ov uP) (ov uU) (.int (nI kAt)) (.int iTo) (.int iFr) (.long JFi) (.int iFa) (.ref qm3) (.int iSt) iLv iWs vLa (.ref qmu) (.ref qmy) (.ref qmb) (.ref qms) (.int iOm) fMr) L_X6_91 hN hP hD hS hA [0, 2] [false, true, false] rfl (by decide +kernel) rfl 0 5 rfl rfl rfl ⟨Nat.le_of_ble_eq_true rfl, Nat.le_of_ble_eq_true rfl⟩ hl.1 (Nat.le_of_ble_eq_true rfl) dX6_feed_34 ⟨Nat.le_of_ble_eq_true rfl, Nat.le_of_ble_eq_true rfl⟩ (fun r_8 u_10 H locs h_9 => ?_)
        clear hP hD hS
        intro hP hD hS
        obtain ⟨fX_11, rfl, h_9⟩ := h_9
        have hPD := pd_as [zzI cy qmt 250 fMt, zzO qm 5 [.ref qmh, .ref qmo, .ref qmz, .ref qmR, .ref qmv, .ref qmk, .ref qma, .ref qmt, .int (nI kZ), .ref qmr, .int (nI (T_nb tA)), .ref qmB, .int (nI (T_np tA)), .ref qmO, .ref qmK, .int iEn, .int iTk, .int (T_sd tA), ov uP, ov uU, .int (nI kAt), .int iTo, .int iFr, .long JFi, .int iFa, .ref qm3, .int iSt, .int iLv, .int iWs, vLa, .ref qmu, .ref qmy, .ref qmb, .ref qms, .int iOm], zzI cy qmr 8 fX_11] hP hD rfl
        clear hP hD
        obtain ⟨hP, hD⟩ := hPD
        subst h_9
        exact endW (u := [zzO qm 5 [.ref qmh, .ref qmo, .ref qmz, .ref qmR, .ref qmv, .ref qmk, .ref qma, .ref qmt, .int (nI kZ), .ref qmr, .int (nI (T_nb tA)), .ref qmB, .int (nI (T_np tA)), .ref qmO, .ref qmK, .int iEn, .int iTk, .int (T_sd tA), ov uP, ov uU, .int (nI kAt), .int iTo, .int iFr, .long JFi, .int iFa, .ref qm3, .int iSt, .int iLv, .int iWs, vLa, .ref qmu, .ref qmy, .ref qmb, .ref qms, .int iOm], zzI cy qmt 250 fMt, zzI cy qmr 8 fX_11]) hx hb hr hlocks rfl (hP.sub [1, 0, 2] rfl) (hD.sub [1, 0, 2] (by decide +kernel) rfl) hS ⟨kZ, fMt, fX_11, rfl, ⟨Or.inr ⟨1, by omega, by omega, rfl, Or.inl ⟨rfl, fm_no (k := 1) (by omega) (by omega) c_5, rfl⟩⟩, Or.inl ⟨rfl, rfl⟩⟩, trivial⟩ dX6_feed_37
    · refine lv_iload_n hx hb dX6_feed_19 rfl (lv_at hl 2 rfl) ?_
      refine lv_sipush (v := 250) hx hb dX6_feed_20 (by decide) ?_
      refine lv_aload_n hx hb dX6_feed_23 rfl (lv_at hl 0 rfl) ?_
      refine va_get (D := G) (ci := 5) (v := .int (nI kZ)) (C := RX6) (T := TX6) (N := 35) hx hb hts iX_X6 hown hK hP 0 rfl rfl 8 (by decide) (hts _ m_t858) (fun _ h9 => h9) rfl dX6_feed_24 ?_
      refine lv_isub hx hb dX6_feed_27 ?_
      refine lv_icmp_le (tgt := 38) hx hb dX6_feed_28 (by decide) (fun c_12 => ?_) (fun c_12 => ?_)
      · have hfd : kZ + 2 ≤ 250 := fm_yes (k := 2) (by omega) (by omega) c_12
        refine lv_iload_n hx hb dX6_feed_38 rfl (lv_at hl 2 rfl) ?_
        refine lv_iconst (v := 1) hx hb dX6_feed_39 (by decide) ?_
        refine lv_isub hx hb dX6_feed_40 ?_
        refine lv_seti (v := 1) (by decide) ?_
        refine lv_istore_n (lv' := [(3, .int 1), (0, .ref qm), (1, .int iA), (2, .int 2)]) hx hb dX6_feed_41 rfl hl (by decide) rfl (fun ls => ?_)
        clear hl
        intro hl
        refine lv_iload_n hx hb dX6_feed_42 rfl (lv_at hl 0 rfl) ?_
        refine lv_if_lt (tgt := 78) hx hb dX6_feed_43 (by decide) (fun h9 => absurd h9 (by decide)) (fun _ => ?_)
        refine lv_aload_n hx hb dX6_feed_46 rfl (lv_at hl 1 rfl) ?_
        refine va_get (D := G) (ci := 5) (v := .ref qmt) (C := RX6) (T := TX6) (N := 35) hx hb hts iX_X6 hown hK hP 0 rfl rfl 7 (by decide) (hts _ m_t857) (fun _ h9 => h9) rfl dX6_feed_47 ?_
        refine lv_aload_n hx hb dX6_feed_50 rfl (lv_at hl 1 rfl) ?_
        refine lv_dup hx hb dX6_feed_51 rfl ?_
        refine va_get (D := G) (ci := 5) (v := .int (nI kZ)) (C := RX6) (T := TX6) (N := 35) hx hb hts iX_X6 hown hK hP 0 rfl rfl 8 (by decide) (hts _ m_t858) (fun _ h9 => h9) rfl dX6_feed_52 ?_
        refine lv_dup_x1 hx hb dX6_feed_55 rfl rfl ?_
        refine lv_iconst (v := 1) hx hb dX6_feed_56 (by decide) ?_
        refine lv_iadd hx hb dX6_feed_57 ?_
        refine lv_seti (v := nI (kZ + 1)) (nI_1 _) ?_
        refine va_put (D := G) (ci := 5) (v := .int (nI (kZ + 1))) (ty := .int) (C := RX6) (T := TX6) (N := 35) hx hb hts iX_X6 tyX6 tyX6_ok nmX6 hown hK hP hD hS 0 rfl rfl 8 (by decide) (hts _ m_t858) (fun _ h9 => h9) rfl (by decide +kernel) rfl rfl (Nat.le_of_ble_eq_true rfl) dX6_feed_58 (fun H locs => ?_)
        clear hP hD hS
        intro hP hD hS
        have hPD := pd_as [zzO qm 5 [.ref qmh, .ref qmo, .ref qmz, .ref qmR, .ref qmv, .ref qmk, .ref qma, .ref qmt, .int (nI (kZ + 1)), .ref qmr, .int (nI (T_nb tA)), .ref qmB, .int (nI (T_np tA)), .ref qmO, .ref qmK, .int iEn, .int iTk, .int (T_sd tA), ov uP, ov uU, .int (nI kAt), .int iTo, .int iFr, .long JFi, .int iFa, .ref qm3, .int iSt, .int iLv, .int iWs, vLa, .ref qmu, .ref qmy, .ref qmb, .ref qms, .int iOm], zzI cy qmt 250 fMt, zzI cy qmr 8 fMr] hP hD rfl
        clear hP hD
        obtain ⟨hP, hD⟩ := hPD
        refine lv_iload_n hx hb dX6_feed_61 rfl (lv_at hl 2 rfl) ?_
        refine lv_bipush (v := 8) hx hb dX6_feed_62 (by decide) ?_
        refine lv_iload_n hx hb dX6_feed_64 rfl (lv_at hl 0 rfl) ?_
        refine lv_imul hx hb dX6_feed_65 ?_
        refine lv_seti (v := 8) (by decide) ?_
        refine lv_ishr hx hb dX6_feed_66 ?_
        refine lv_sipush (v := 255) hx hb dX6_feed_67 (by decide) ?_
        refine lv_iand hx hb dX6_feed_70 ?_
        refine va_iast hx hb hK hP hD hS 1 0 rfl rfl (vp_in_nI (by omega) (by omega)) dX6_feed_71 (fun H locs => ?_)
        clear hP hD hS
        intro hP hD hS
        rw [nI_clamp (n := kZ) (by omega)] at hP hD
        have hPD := pd_as [zzO qm 5 [.ref qmh, .ref qmo, .ref qmz, .ref qmR, .ref qmv, .ref qmk, .ref qma, .ref qmt, .int (nI (kZ + 1)), .ref qmr, .int (nI (T_nb tA)), .ref qmB, .int (nI (T_np tA)), .ref qmO, .ref qmK, .int iEn, .int iTk, .int (T_sd tA), ov uP, ov uU, .int (nI kAt), .int iTo, .int iFr, .long JFi, .int iFa, .ref qm3, .int iSt, .int iLv, .int iWs, vLa, .ref qmu, .ref qmy, .ref qmb, .ref qms, .int iOm], zzI cy qmt 250 (upd fMt kZ ((iA >>> (8 &&& 31)) &&& 255)), zzI cy qmr 8 fMr] hP hD rfl
        clear hP hD
        obtain ⟨hP, hD⟩ := hPD
        refine lv_iinc (v := 0) (lv' := [(3, .int 0), (0, .ref qm), (1, .int iA), (2, .int 2)]) hx hb dX6_feed_72 hl (k := 0) rfl (by decide) (by decide) rfl (fun ls => ?_)
        clear hl
        intro hl
        refine lv_goto (tgt := 42) hx hb dX6_feed_75 (by decide) ?_
        refine lv_iload_n hx hb dX6_feed_42 rfl (lv_at hl 0 rfl) ?_
        refine lv_if_lt (tgt := 78) hx hb dX6_feed_43 (by decide) (fun h9 => absurd h9 (by decide)) (fun _ => ?_)
        refine lv_aload_n hx hb dX6_feed_46 rfl (lv_at hl 1 rfl) ?_
        refine va_get (D := G) (ci := 5) (v := .ref qmt) (C := RX6) (T := TX6) (N := 35) hx hb hts iX_X6 hown hK hP 0 rfl rfl 7 (by decide) (hts _ m_t857) (fun _ h9 => h9) rfl dX6_feed_47 ?_
        refine lv_aload_n hx hb dX6_feed_50 rfl (lv_at hl 1 rfl) ?_
        refine lv_dup hx hb dX6_feed_51 rfl ?_
        refine va_get (D := G) (ci := 5) (v := .int (nI (kZ + 1))) (C := RX6) (T := TX6) (N := 35) hx hb hts iX_X6 hown hK hP 0 rfl rfl 8 (by decide) (hts _ m_t858) (fun _ h9 => h9) rfl dX6_feed_52 ?_
        refine lv_dup_x1 hx hb dX6_feed_55 rfl rfl ?_
        refine lv_iconst (v := 1) hx hb dX6_feed_56 (by decide) ?_
        refine lv_iadd hx hb dX6_feed_57 ?_
        refine lv_seti (v := nI ((kZ + 1) + 1)) (nI_1 _) ?_
        refine va_put (D := G) (ci := 5) (v := .int (nI ((kZ + 1) + 1))) (ty := .int) (C := RX6) (T := TX6) (N := 35) hx hb hts iX_X6 tyX6 tyX6_ok nmX6 hown hK hP hD hS 0 rfl rfl 8 (by decide) (hts _ m_t858) (fun _ h9 => h9) rfl (by decide +kernel) rfl rfl (Nat.le_of_ble_eq_true rfl) dX6_feed_58 (fun H locs => ?_)
        clear hP hD hS
        intro hP hD hS
        have hPD := pd_as [zzO qm 5 [.ref qmh, .ref qmo, .ref qmz, .ref qmR, .ref qmv, .ref qmk, .ref qma, .ref qmt, .int (nI ((kZ + 1) + 1)), .ref qmr, .int (nI (T_nb tA)), .ref qmB, .int (nI (T_np tA)), .ref qmO, .ref qmK, .int iEn, .int iTk, .int (T_sd tA), ov uP, ov uU, .int (nI kAt), .int iTo, .int iFr, .long JFi, .int iFa, .ref qm3, .int iSt, .int iLv, .int iWs, vLa, .ref qmu, .ref qmy, .ref qmb, .ref qms, .int iOm], zzI cy qmt 250 (upd fMt kZ ((iA >>> (8 &&& 31)) &&& 255)), zzI cy qmr 8 fMr] hP hD rfl
        clear hP hD
        obtain ⟨hP, hD⟩ := hPD
        refine lv_iload_n hx hb dX6_feed_61 rfl (lv_at hl 2 rfl) ?_
        refine lv_bipush (v := 8) hx hb dX6_feed_62 (by decide) ?_
        refine lv_iload_n hx hb dX6_feed_64 rfl (lv_at hl 0 rfl) ?_
        refine lv_imul hx hb dX6_feed_65 ?_
        refine lv_seti (v := 0) (by decide) ?_
        refine lv_ishr hx hb dX6_feed_66 ?_
        refine lv_sipush (v := 255) hx hb dX6_feed_67 (by decide) ?_
        refine lv_iand hx hb dX6_feed_70 ?_
        refine va_iast hx hb hK hP hD hS 1 0 rfl rfl (vp_in_nI (by omega) (by omega)) dX6_feed_71 (fun H locs => ?_)
        clear hP hD hS
        intro hP hD hS
        rw [nI_clamp (n := (kZ + 1)) (by omega)] at hP hD
        have hPD := pd_as [zzO qm 5 [.ref qmh, .ref qmo, .ref qmz, .ref qmR, .ref qmv, .ref qmk, .ref qma, .ref qmt, .int (nI ((kZ + 1) + 1)), .ref qmr, .int (nI (T_nb tA)), .ref qmB, .int (nI (T_np tA)), .ref qmO, .ref qmK, .int iEn, .int iTk, .int (T_sd tA), ov uP, ov uU, .int (nI kAt), .int iTo, .int iFr, .long JFi, .int iFa, .ref qm3, .int iSt, .int iLv, .int iWs, vLa, .ref qmu, .ref qmy, .ref qmb, .ref qms, .int iOm], zzI cy qmt 250 (upd (upd fMt kZ ((iA >>> (8 &&& 31)) &&& 255)) (kZ + 1) ((iA >>> (0 &&& 31)) &&& 255)), zzI cy qmr 8 fMr] hP hD rfl
        clear hP hD
        obtain ⟨hP, hD⟩ := hPD
        refine lv_iinc (v := (-1)) (lv' := [(3, .int (-1)), (0, .ref qm), (1, .int iA), (2, .int 2)]) hx hb dX6_feed_72 hl (k := 0) rfl (by decide) (by decide) rfl (fun ls => ?_)
        clear hl
        intro hl
        refine lv_goto (tgt := 42) hx hb dX6_feed_75 (by decide) ?_
        refine lv_iload_n hx hb dX6_feed_42 rfl (lv_at hl 0 rfl) ?_
        refine lv_if_lt (tgt := 78) hx hb dX6_feed_43 (by decide) (fun _ => ?_) (fun h9 => absurd (by decide) h9)
        refine lv_aload_n hx hb dX6_feed_78 rfl (lv_at hl 1 rfl) ?_
        refine va_get (D := G) (ci := 5) (v := .int (nI ((kZ + 1) + 1))) (C := RX6) (T := TX6) (N := 35) hx hb hts iX_X6 hown hK hP 0 rfl rfl 8 (by decide) (hts _ m_t858) (fun _ h9 => h9) rfl dX6_feed_79 ?_
        exact endW (u := [zzO qm 5 [.ref qmh, .ref qmo, .ref qmz, .ref qmR, .ref qmv, .ref qmk, .ref qma, .ref qmt, .int (nI ((kZ + 1) + 1)), .ref qmr, .int (nI (T_nb tA)), .ref qmB, .int (nI (T_np tA)), .ref qmO, .ref qmK, .int iEn, .int iTk, .int (T_sd tA), ov uP, ov uU, .int (nI kAt), .int iTo, .int iFr, .long JFi, .int iFa, .ref qm3, .int iSt, .int iLv, .int iWs, vLa, .ref qmu, .ref qmy, .ref qmb, .ref qms, .int iOm], zzI cy qmt 250 (upd (upd fMt kZ ((iA >>> (8 &&& 31)) &&& 255)) (kZ + 1) ((iA >>> (0 &&& 31)) &&& 255)), zzI cy qmr 8 fMr]) hx hb hr hlocks rfl (hP.sub [0, 1, 2] rfl) (hD.sub [0, 1, 2] (by decide +kernel) rfl) hS ⟨((kZ + 1) + 1), (upd (upd fMt kZ ((iA >>> (8 &&& 31)) &&& 255)) (kZ + 1) ((iA >>> (0 &&& 31)) &&& 255)), fMr, rfl, ⟨Or.inr ⟨2, by omega, by omega, rfl, Or.inr ⟨rfl, fm_yes (k := 2) (by omega) (by omega) c_12, rfl⟩⟩, Or.inr ⟨2, by omega, by omega, rfl, rfl, fd_s2 rfl rfl⟩⟩, trivial⟩ dX6_feed_82
      · refine lv_aload_n hx hb dX6_feed_31 rfl (lv_at hl 0 rfl) ?_
        refine lv_bipush (v := (-6)) hx hb dX6_feed_32 (by decide) ?_
        refine cVi (As := [.int (-6)]) (rest := []) (b := qm) (q := (RX6, TX6, 35)) ⟨hx, hb, hml, hown, hts⟩ (c_X6_refuse6 l G cy (s.heap).size qm (.ref qmh) (.ref qmo) (.ref qmz) (.ref qmR) (.ref qmv) (.ref qmk) (.ref qma) (.ref qmt) (.int (nI kZ)) qmr tA qmB qmO qmK iEn iTk (ov uP) (ov uU) (.int (nI kAt)) (.int iTo) (.int iFr) (.long JFi) (.int iFa) (.ref qm3) (.int iSt) iLv iWs vLa (.ref qmu) (.ref qmy) (.ref qmb) (.ref qms) (.int iOm) fMr) L_X6_91 hN hP hD hS hA [0, 2] [false, true, false] rfl (by decide +kernel) rfl 0 5 rfl rfl rfl ⟨Nat.le_of_ble_eq_true rfl, Nat.le_of_ble_eq_true rfl⟩ hl.1 (Nat.le_of_ble_eq_true rfl) dX6_feed_34 ⟨Nat.le_of_ble_eq_true rfl, Nat.le_of_ble_eq_true rfl⟩ (fun r_16 u_18 H locs h_17 => ?_)
        clear hP hD hS
        intro hP hD hS
        obtain ⟨fX_19, rfl, h_17⟩ := h_17
        have hPD := pd_as [zzI cy qmt 250 fMt, zzO qm 5 [.ref qmh, .ref qmo, .ref qmz, .ref qmR, .ref qmv, .ref qmk, .ref qma, .ref qmt, .int (nI kZ), .ref qmr, .int (nI (T_nb tA)), .ref qmB, .int (nI (T_np tA)), .ref qmO, .ref qmK, .int iEn, .int iTk, .int (T_sd tA), ov uP, ov uU, .int (nI kAt), .int iTo, .int iFr, .long JFi, .int iFa, .ref qm3, .int iSt, .int iLv, .int iWs, vLa, .ref qmu, .ref qmy, .ref qmb, .ref qms, .int iOm], zzI cy qmr 8 fX_19] hP hD rfl
        clear hP hD
        obtain ⟨hP, hD⟩ := hPD
        subst h_17
        exact endW (u := [zzO qm 5 [.ref qmh, .ref qmo, .ref qmz, .ref qmR, .ref qmv, .ref qmk, .ref qma, .ref qmt, .int (nI kZ), .ref qmr, .int (nI (T_nb tA)), .ref qmB, .int (nI (T_np tA)), .ref qmO, .ref qmK, .int iEn, .int iTk, .int (T_sd tA), ov uP, ov uU, .int (nI kAt), .int iTo, .int iFr, .long JFi, .int iFa, .ref qm3, .int iSt, .int iLv, .int iWs, vLa, .ref qmu, .ref qmy, .ref qmb, .ref qms, .int iOm], zzI cy qmt 250 fMt, zzI cy qmr 8 fX_19]) hx hb hr hlocks rfl (hP.sub [1, 0, 2] rfl) (hD.sub [1, 0, 2] (by decide +kernel) rfl) hS ⟨kZ, fMt, fX_19, rfl, ⟨Or.inr ⟨2, by omega, by omega, rfl, Or.inl ⟨rfl, fm_no (k := 2) (by omega) (by omega) c_12, rfl⟩⟩, Or.inl ⟨rfl, rfl⟩⟩, trivial⟩ dX6_feed_37
    · refine lv_iload_n hx hb dX6_feed_19 rfl (lv_at hl 2 rfl) ?_
      refine lv_sipush (v := 250) hx hb dX6_feed_20 (by decide) ?_
      refine lv_aload_n hx hb dX6_feed_23 rfl (lv_at hl 0 rfl) ?_
      refine va_get (D := G) (ci := 5) (v := .int (nI kZ)) (C := RX6) (T := TX6) (N := 35) hx hb hts iX_X6 hown hK hP 0 rfl rfl 8 (by decide) (hts _ m_t858) (fun _ h9 => h9) rfl dX6_feed_24 ?_
      refine lv_isub hx hb dX6_feed_27 ?_
      refine lv_icmp_le (tgt := 38) hx hb dX6_feed_28 (by decide) (fun c_20 => ?_) (fun c_20 => ?_)
      · have hfd : kZ + 3 ≤ 250 := fm_yes (k := 3) (by omega) (by omega) c_20
        refine lv_iload_n hx hb dX6_feed_38 rfl (lv_at hl 2 rfl) ?_
        refine lv_iconst (v := 1) hx hb dX6_feed_39 (by decide) ?_
        refine lv_isub hx hb dX6_feed_40 ?_
        refine lv_seti (v := 2) (by decide) ?_
        refine lv_istore_n (lv' := [(3, .int 2), (0, .ref qm), (1, .int iA), (2, .int 3)]) hx hb dX6_feed_41 rfl hl (by decide) rfl (fun ls => ?_)
        clear hl
        intro hl
        refine lv_iload_n hx hb dX6_feed_42 rfl (lv_at hl 0 rfl) ?_
        refine lv_if_lt (tgt := 78) hx hb dX6_feed_43 (by decide) (fun h9 => absurd h9 (by decide)) (fun _ => ?_)
        refine lv_aload_n hx hb dX6_feed_46 rfl (lv_at hl 1 rfl) ?_
        refine va_get (D := G) (ci := 5) (v := .ref qmt) (C := RX6) (T := TX6) (N := 35) hx hb hts iX_X6 hown hK hP 0 rfl rfl 7 (by decide) (hts _ m_t857) (fun _ h9 => h9) rfl dX6_feed_47 ?_
        refine lv_aload_n hx hb dX6_feed_50 rfl (lv_at hl 1 rfl) ?_
        refine lv_dup hx hb dX6_feed_51 rfl ?_
        refine va_get (D := G) (ci := 5) (v := .int (nI kZ)) (C := RX6) (T := TX6) (N := 35) hx hb hts iX_X6 hown hK hP 0 rfl rfl 8 (by decide) (hts _ m_t858) (fun _ h9 => h9) rfl dX6_feed_52 ?_
        refine lv_dup_x1 hx hb dX6_feed_55 rfl rfl ?_
        refine lv_iconst (v := 1) hx hb dX6_feed_56 (by decide) ?_
        refine lv_iadd hx hb dX6_feed_57 ?_
        refine lv_seti (v := nI (kZ + 1)) (nI_1 _) ?_
        refine va_put (D := G) (ci := 5) (v := .int (nI (kZ + 1))) (ty := .int) (C := RX6) (T := TX6) (N := 35) hx hb hts iX_X6 tyX6 tyX6_ok nmX6 hown hK hP hD hS 0 rfl rfl 8 (by decide) (hts _ m_t858) (fun _ h9 => h9) rfl (by decide +kernel) rfl rfl (Nat.le_of_ble_eq_true rfl) dX6_feed_58 (fun H locs => ?_)
        clear hP hD hS
        intro hP hD hS
        have hPD := pd_as [zzO qm 5 [.ref qmh, .ref qmo, .ref qmz, .ref qmR, .ref qmv, .ref qmk, .ref qma, .ref qmt, .int (nI (kZ + 1)), .ref qmr, .int (nI (T_nb tA)), .ref qmB, .int (nI (T_np tA)), .ref qmO, .ref qmK, .int iEn, .int iTk, .int (T_sd tA), ov uP, ov uU, .int (nI kAt), .int iTo, .int iFr, .long JFi, .int iFa, .ref qm3, .int iSt, .int iLv, .int iWs, vLa, .ref qmu, .ref qmy, .ref qmb, .ref qms, .int iOm], zzI cy qmt 250 fMt, zzI cy qmr 8 fMr] hP hD rfl
        clear hP hD
        obtain ⟨hP, hD⟩ := hPD
        refine lv_iload_n hx hb dX6_feed_61 rfl (lv_at hl 2 rfl) ?_
        refine lv_bipush (v := 8) hx hb dX6_feed_62 (by decide) ?_
        refine lv_iload_n hx hb dX6_feed_64 rfl (lv_at hl 0 rfl) ?_
        refine lv_imul hx hb dX6_feed_65 ?_
        refine lv_seti (v := 16) (by decide) ?_
        refine lv_ishr hx hb dX6_feed_66 ?_
        refine lv_sipush (v := 255) hx hb dX6_feed_67 (by decide) ?_
        refine lv_iand hx hb dX6_feed_70 ?_
        refine va_iast hx hb hK hP hD hS 1 0 rfl rfl (vp_in_nI (by omega) (by omega)) dX6_feed_71 (fun H locs => ?_)
        clear hP hD hS
        intro hP hD hS
        rw [nI_clamp (n := kZ) (by omega)] at hP hD
        have hPD := pd_as [zzO qm 5 [.ref qmh, .ref qmo, .ref qmz, .ref qmR, .ref qmv, .ref qmk, .ref qma, .ref qmt, .int (nI (kZ + 1)), .ref qmr, .int (nI (T_nb tA)), .ref qmB, .int (nI (T_np tA)), .ref qmO, .ref qmK, .int iEn, .int iTk, .int (T_sd tA), ov uP, ov uU, .int (nI kAt), .int iTo, .int iFr, .long JFi, .int iFa, .ref qm3, .int iSt, .int iLv, .int iWs, vLa, .ref qmu, .ref qmy, .ref qmb, .ref qms, .int iOm], zzI cy qmt 250 (upd fMt kZ ((iA >>> (16 &&& 31)) &&& 255)), zzI cy qmr 8 fMr] hP hD rfl
        clear hP hD
        obtain ⟨hP, hD⟩ := hPD
        refine lv_iinc (v := 1) (lv' := [(3, .int 1), (0, .ref qm), (1, .int iA), (2, .int 3)]) hx hb dX6_feed_72 hl (k := 0) rfl (by decide) (by decide) rfl (fun ls => ?_)
        clear hl
        intro hl
        refine lv_goto (tgt := 42) hx hb dX6_feed_75 (by decide) ?_
        refine lv_iload_n hx hb dX6_feed_42 rfl (lv_at hl 0 rfl) ?_
        refine lv_if_lt (tgt := 78) hx hb dX6_feed_43 (by decide) (fun h9 => absurd h9 (by decide)) (fun _ => ?_)
        refine lv_aload_n hx hb dX6_feed_46 rfl (lv_at hl 1 rfl) ?_
        refine va_get (D := G) (ci := 5) (v := .ref qmt) (C := RX6) (T := TX6) (N := 35) hx hb hts iX_X6 hown hK hP 0 rfl rfl 7 (by decide) (hts _ m_t857) (fun _ h9 => h9) rfl dX6_feed_47 ?_
        refine lv_aload_n hx hb dX6_feed_50 rfl (lv_at hl 1 rfl) ?_
        refine lv_dup hx hb dX6_feed_51 rfl ?_
        refine va_get (D := G) (ci := 5) (v := .int (nI (kZ + 1))) (C := RX6) (T := TX6) (N := 35) hx hb hts iX_X6 hown hK hP 0 rfl rfl 8 (by decide) (hts _ m_t858) (fun _ h9 => h9) rfl dX6_feed_52 ?_
        refine lv_dup_x1 hx hb dX6_feed_55 rfl rfl ?_
        refine lv_iconst (v := 1) hx hb dX6_feed_56 (by decide) ?_
        refine lv_iadd hx hb dX6_feed_57 ?_
        refine lv_seti (v := nI ((kZ + 1) + 1)) (nI_1 _) ?_
        refine va_put (D := G) (ci := 5) (v := .int (nI ((kZ + 1) + 1))) (ty := .int) (C := RX6) (T := TX6) (N := 35) hx hb hts iX_X6 tyX6 tyX6_ok nmX6 hown hK hP hD hS 0 rfl rfl 8 (by decide) (hts _ m_t858) (fun _ h9 => h9) rfl (by decide +kernel) rfl rfl (Nat.le_of_ble_eq_true rfl) dX6_feed_58 (fun H locs => ?_)
        clear hP hD hS
        intro hP hD hS
        have hPD := pd_as [zzO qm 5 [.ref qmh, .ref qmo, .ref qmz, .ref qmR, .ref qmv, .ref qmk, .ref qma, .ref qmt, .int (nI ((kZ + 1) + 1)), .ref qmr, .int (nI (T_nb tA)), .ref qmB, .int (nI (T_np tA)), .ref qmO, .ref qmK, .int iEn, .int iTk, .int (T_sd tA), ov uP, ov uU, .int (nI kAt), .int iTo, .int iFr, .long JFi, .int iFa, .ref qm3, .int iSt, .int iLv, .int iWs, vLa, .ref qmu, .ref qmy, .ref qmb, .ref qms, .int iOm], zzI cy qmt 250 (upd fMt kZ ((iA >>> (16 &&& 31)) &&& 255)), zzI cy qmr 8 fMr] hP hD rfl
        clear hP hD
        obtain ⟨hP, hD⟩ := hPD
        refine lv_iload_n hx hb dX6_feed_61 rfl (lv_at hl 2 rfl) ?_
        refine lv_bipush (v := 8) hx hb dX6_feed_62 (by decide) ?_
        refine lv_iload_n hx hb dX6_feed_64 rfl (lv_at hl 0 rfl) ?_
        refine lv_imul hx hb dX6_feed_65 ?_
        refine lv_seti (v := 8) (by decide) ?_
        refine lv_ishr hx hb dX6_feed_66 ?_
        refine lv_sipush (v := 255) hx hb dX6_feed_67 (by decide) ?_
        refine lv_iand hx hb dX6_feed_70 ?_
        refine va_iast hx hb hK hP hD hS 1 0 rfl rfl (vp_in_nI (by omega) (by omega)) dX6_feed_71 (fun H locs => ?_)
        clear hP hD hS
        intro hP hD hS
        rw [nI_clamp (n := (kZ + 1)) (by omega)] at hP hD
        have hPD := pd_as [zzO qm 5 [.ref qmh, .ref qmo, .ref qmz, .ref qmR, .ref qmv, .ref qmk, .ref qma, .ref qmt, .int (nI ((kZ + 1) + 1)), .ref qmr, .int (nI (T_nb tA)), .ref qmB, .int (nI (T_np tA)), .ref qmO, .ref qmK, .int iEn, .int iTk, .int (T_sd tA), ov uP, ov uU, .int (nI kAt), .int iTo, .int iFr, .long JFi, .int iFa, .ref qm3, .int iSt, .int iLv, .int iWs, vLa, .ref qmu, .ref qmy, .ref qmb, .ref qms, .int iOm], zzI cy qmt 250 (upd (upd fMt kZ ((iA >>> (16 &&& 31)) &&& 255)) (kZ + 1) ((iA >>> (8 &&& 31)) &&& 255)), zzI cy qmr 8 fMr] hP hD rfl
        clear hP hD
        obtain ⟨hP, hD⟩ := hPD
        refine lv_iinc (v := 0) (lv' := [(3, .int 0), (0, .ref qm), (1, .int iA), (2, .int 3)]) hx hb dX6_feed_72 hl (k := 0) rfl (by decide) (by decide) rfl (fun ls => ?_)
        clear hl
        intro hl
        refine lv_goto (tgt := 42) hx hb dX6_feed_75 (by decide) ?_
        refine lv_iload_n hx hb dX6_feed_42 rfl (lv_at hl 0 rfl) ?_
        refine lv_if_lt (tgt := 78) hx hb dX6_feed_43 (by decide) (fun h9 => absurd h9 (by decide)) (fun _ => ?_)
        refine lv_aload_n hx hb dX6_feed_46 rfl (lv_at hl 1 rfl) ?_
        refine va_get (D := G) (ci := 5) (v := .ref qmt) (C := RX6) (T := TX6) (N := 35) hx hb hts iX_X6 hown hK hP 0 rfl rfl 7 (by decide) (hts _ m_t857) (fun _ h9 => h9) rfl dX6_feed_47 ?_
        refine lv_aload_n hx hb dX6_feed_50 rfl (lv_at hl 1 rfl) ?_
        refine lv_dup hx hb dX6_feed_51 rfl ?_
        refine va_get (D := G) (ci := 5) (v := .int (nI ((kZ + 1) + 1))) (C := RX6) (T := TX6) (N := 35) hx hb hts iX_X6 hown hK hP 0 rfl rfl 8 (by decide) (hts _ m_t858) (fun _ h9 => h9) rfl dX6_feed_52 ?_
        refine lv_dup_x1 hx hb dX6_feed_55 rfl rfl ?_
        refine lv_iconst (v := 1) hx hb dX6_feed_56 (by decide) ?_
        refine lv_iadd hx hb dX6_feed_57 ?_
        refine lv_seti (v := nI (((kZ + 1) + 1) + 1)) (nI_1 _) ?_
        refine va_put (D := G) (ci := 5) (v := .int (nI (((kZ + 1) + 1) + 1))) (ty := .int) (C := RX6) (T := TX6) (N := 35) hx hb hts iX_X6 tyX6 tyX6_ok nmX6 hown hK hP hD hS 0 rfl rfl 8 (by decide) (hts _ m_t858) (fun _ h9 => h9) rfl (by decide +kernel) rfl rfl (Nat.le_of_ble_eq_true rfl) dX6_feed_58 (fun H locs => ?_)
        clear hP hD hS
        intro hP hD hS
        have hPD := pd_as [zzO qm 5 [.ref qmh, .ref qmo, .ref qmz, .ref qmR, .ref qmv, .ref qmk, .ref qma, .ref qmt, .int (nI (((kZ + 1) + 1) + 1)), .ref qmr, .int (nI (T_nb tA)), .ref qmB, .int (nI (T_np tA)), .ref qmO, .ref qmK, .int iEn, .int iTk, .int (T_sd tA), ov uP, ov uU, .int (nI kAt), .int iTo, .int iFr, .long JFi, .int iFa, .ref qm3, .int iSt, .int iLv, .int iWs, vLa, .ref qmu, .ref qmy, .ref qmb, .ref qms, .int iOm], zzI cy qmt 250 (upd (upd fMt kZ ((iA >>> (16 &&& 31)) &&& 255)) (kZ + 1) ((iA >>> (8 &&& 31)) &&& 255)), zzI cy qmr 8 fMr] hP hD rfl
        clear hP hD
        obtain ⟨hP, hD⟩ := hPD
        refine lv_iload_n hx hb dX6_feed_61 rfl (lv_at hl 2 rfl) ?_
        refine lv_bipush (v := 8) hx hb dX6_feed_62 (by decide) ?_
        refine lv_iload_n hx hb dX6_feed_64 rfl (lv_at hl 0 rfl) ?_
        refine lv_imul hx hb dX6_feed_65 ?_
        refine lv_seti (v := 0) (by decide) ?_
        refine lv_ishr hx hb dX6_feed_66 ?_
        refine lv_sipush (v := 255) hx hb dX6_feed_67 (by decide) ?_
        refine lv_iand hx hb dX6_feed_70 ?_
        refine va_iast hx hb hK hP hD hS 1 0 rfl rfl (vp_in_nI (by omega) (by omega)) dX6_feed_71 (fun H locs => ?_)
        clear hP hD hS
        intro hP hD hS
        rw [nI_clamp (n := ((kZ + 1) + 1)) (by omega)] at hP hD
        have hPD := pd_as [zzO qm 5 [.ref qmh, .ref qmo, .ref qmz, .ref qmR, .ref qmv, .ref qmk, .ref qma, .ref qmt, .int (nI (((kZ + 1) + 1) + 1)), .ref qmr, .int (nI (T_nb tA)), .ref qmB, .int (nI (T_np tA)), .ref qmO, .ref qmK, .int iEn, .int iTk, .int (T_sd tA), ov uP, ov uU, .int (nI kAt), .int iTo, .int iFr, .long JFi, .int iFa, .ref qm3, .int iSt, .int iLv, .int iWs, vLa, .ref qmu, .ref qmy, .ref qmb, .ref qms, .int iOm], zzI cy qmt 250 (upd (upd (upd fMt kZ ((iA >>> (16 &&& 31)) &&& 255)) (kZ + 1) ((iA >>> (8 &&& 31)) &&& 255)) ((kZ + 1) + 1) ((iA >>> (0 &&& 31)) &&& 255)), zzI cy qmr 8 fMr] hP hD rfl
        clear hP hD
        obtain ⟨hP, hD⟩ := hPD
        refine lv_iinc (v := (-1)) (lv' := [(3, .int (-1)), (0, .ref qm), (1, .int iA), (2, .int 3)]) hx hb dX6_feed_72 hl (k := 0) rfl (by decide) (by decide) rfl (fun ls => ?_)
        clear hl
        intro hl
        refine lv_goto (tgt := 42) hx hb dX6_feed_75 (by decide) ?_
        refine lv_iload_n hx hb dX6_feed_42 rfl (lv_at hl 0 rfl) ?_
        refine lv_if_lt (tgt := 78) hx hb dX6_feed_43 (by decide) (fun _ => ?_) (fun h9 => absurd (by decide) h9)
        refine lv_aload_n hx hb dX6_feed_78 rfl (lv_at hl 1 rfl) ?_
        refine va_get (D := G) (ci := 5) (v := .int (nI (((kZ + 1) + 1) + 1))) (C := RX6) (T := TX6) (N := 35) hx hb hts iX_X6 hown hK hP 0 rfl rfl 8 (by decide) (hts _ m_t858) (fun _ h9 => h9) rfl dX6_feed_79 ?_
        exact endW (u := [zzO qm 5 [.ref qmh, .ref qmo, .ref qmz, .ref qmR, .ref qmv, .ref qmk, .ref qma, .ref qmt, .int (nI (((kZ + 1) + 1) + 1)), .ref qmr, .int (nI (T_nb tA)), .ref qmB, .int (nI (T_np tA)), .ref qmO, .ref qmK, .int iEn, .int iTk, .int (T_sd tA), ov uP, ov uU, .int (nI kAt), .int iTo, .int iFr, .long JFi, .int iFa, .ref qm3, .int iSt, .int iLv, .int iWs, vLa, .ref qmu, .ref qmy, .ref qmb, .ref qms, .int iOm], zzI cy qmt 250 (upd (upd (upd fMt kZ ((iA >>> (16 &&& 31)) &&& 255)) (kZ + 1) ((iA >>> (8 &&& 31)) &&& 255)) ((kZ + 1) + 1) ((iA >>> (0 &&& 31)) &&& 255)), zzI cy qmr 8 fMr]) hx hb hr hlocks rfl (hP.sub [0, 1, 2] rfl) (hD.sub [0, 1, 2] (by decide +kernel) rfl) hS ⟨(((kZ + 1) + 1) + 1), (upd (upd (upd fMt kZ ((iA >>> (16 &&& 31)) &&& 255)) (kZ + 1) ((iA >>> (8 &&& 31)) &&& 255)) ((kZ + 1) + 1) ((iA >>> (0 &&& 31)) &&& 255)), fMr, rfl, ⟨Or.inr ⟨3, by omega, by omega, rfl, Or.inr ⟨rfl, fm_yes (k := 3) (by omega) (by omega) c_20, rfl⟩⟩, Or.inr ⟨3, by omega, by omega, rfl, rfl, fd_s3 rfl rfl rfl⟩⟩, trivial⟩ dX6_feed_82
      · refine lv_aload_n hx hb dX6_feed_31 rfl (lv_at hl 0 rfl) ?_
        refine lv_bipush (v := (-6)) hx hb dX6_feed_32 (by decide) ?_
        refine cVi (As := [.int (-6)]) (rest := []) (b := qm) (q := (RX6, TX6, 35)) ⟨hx, hb, hml, hown, hts⟩ (c_X6_refuse6 l G cy (s.heap).size qm (.ref qmh) (.ref qmo) (.ref qmz) (.ref qmR) (.ref qmv) (.ref qmk) (.ref qma) (.ref qmt) (.int (nI kZ)) qmr tA qmB qmO qmK iEn iTk (ov uP) (ov uU) (.int (nI kAt)) (.int iTo) (.int iFr) (.long JFi) (.int iFa) (.ref qm3) (.int iSt) iLv iWs vLa (.ref qmu) (.ref qmy) (.ref qmb) (.ref qms) (.int iOm) fMr) L_X6_91 hN hP hD hS hA [0, 2] [false, true, false] rfl (by decide +kernel) rfl 0 5 rfl rfl rfl ⟨Nat.le_of_ble_eq_true rfl, Nat.le_of_ble_eq_true rfl⟩ hl.1 (Nat.le_of_ble_eq_true rfl) dX6_feed_34 ⟨Nat.le_of_ble_eq_true rfl, Nat.le_of_ble_eq_true rfl⟩ (fun r_25 u_27 H locs h_26 => ?_)
        clear hP hD hS
        intro hP hD hS
        obtain ⟨fX_28, rfl, h_26⟩ := h_26
        have hPD := pd_as [zzI cy qmt 250 fMt, zzO qm 5 [.ref qmh, .ref qmo, .ref qmz, .ref qmR, .ref qmv, .ref qmk, .ref qma, .ref qmt, .int (nI kZ), .ref qmr, .int (nI (T_nb tA)), .ref qmB, .int (nI (T_np tA)), .ref qmO, .ref qmK, .int iEn, .int iTk, .int (T_sd tA), ov uP, ov uU, .int (nI kAt), .int iTo, .int iFr, .long JFi, .int iFa, .ref qm3, .int iSt, .int iLv, .int iWs, vLa, .ref qmu, .ref qmy, .ref qmb, .ref qms, .int iOm], zzI cy qmr 8 fX_28] hP hD rfl
        clear hP hD
        obtain ⟨hP, hD⟩ := hPD
        subst h_26
        exact endW (u := [zzO qm 5 [.ref qmh, .ref qmo, .ref qmz, .ref qmR, .ref qmv, .ref qmk, .ref qma, .ref qmt, .int (nI kZ), .ref qmr, .int (nI (T_nb tA)), .ref qmB, .int (nI (T_np tA)), .ref qmO, .ref qmK, .int iEn, .int iTk, .int (T_sd tA), ov uP, ov uU, .int (nI kAt), .int iTo, .int iFr, .long JFi, .int iFa, .ref qm3, .int iSt, .int iLv, .int iWs, vLa, .ref qmu, .ref qmy, .ref qmb, .ref qms, .int iOm], zzI cy qmt 250 fMt, zzI cy qmr 8 fX_28]) hx hb hr hlocks rfl (hP.sub [1, 0, 2] rfl) (hD.sub [1, 0, 2] (by decide +kernel) rfl) hS ⟨kZ, fMt, fX_28, rfl, ⟨Or.inr ⟨3, by omega, by omega, rfl, Or.inl ⟨rfl, fm_no (k := 3) (by omega) (by omega) c_20, rfl⟩⟩, Or.inl ⟨rfl, rfl⟩⟩, trivial⟩ dX6_feed_37
    · refine lv_iload_n hx hb dX6_feed_19 rfl (lv_at hl 2 rfl) ?_
      refine lv_sipush (v := 250) hx hb dX6_feed_20 (by decide) ?_
      refine lv_aload_n hx hb dX6_feed_23 rfl (lv_at hl 0 rfl) ?_
      refine va_get (D := G) (ci := 5) (v := .int (nI kZ)) (C := RX6) (T := TX6) (N := 35) hx hb hts iX_X6 hown hK hP 0 rfl rfl 8 (by decide) (hts _ m_t858) (fun _ h9 => h9) rfl dX6_feed_24 ?_
      refine lv_isub hx hb dX6_feed_27 ?_
      refine lv_icmp_le (tgt := 38) hx hb dX6_feed_28 (by decide) (fun c_29 => ?_) (fun c_29 => ?_)
      · have hfd : kZ + 4 ≤ 250 := fm_yes (k := 4) (by omega) (by omega) c_29
        refine lv_iload_n hx hb dX6_feed_38 rfl (lv_at hl 2 rfl) ?_
        refine lv_iconst (v := 1) hx hb dX6_feed_39 (by decide) ?_
        refine lv_isub hx hb dX6_feed_40 ?_
        refine lv_seti (v := 3) (by decide) ?_
        refine lv_istore_n (lv' := [(3, .int 3), (0, .ref qm), (1, .int iA), (2, .int 4)]) hx hb dX6_feed_41 rfl hl (by decide) rfl (fun ls => ?_)
        clear hl
        intro hl
        refine lv_iload_n hx hb dX6_feed_42 rfl (lv_at hl 0 rfl) ?_
        refine lv_if_lt (tgt := 78) hx hb dX6_feed_43 (by decide) (fun h9 => absurd h9 (by decide)) (fun _ => ?_)
        refine lv_aload_n hx hb dX6_feed_46 rfl (lv_at hl 1 rfl) ?_
        refine va_get (D := G) (ci := 5) (v := .ref qmt) (C := RX6) (T := TX6) (N := 35) hx hb hts iX_X6 hown hK hP 0 rfl rfl 7 (by decide) (hts _ m_t857) (fun _ h9 => h9) rfl dX6_feed_47 ?_
        refine lv_aload_n hx hb dX6_feed_50 rfl (lv_at hl 1 rfl) ?_
        refine lv_dup hx hb dX6_feed_51 rfl ?_
        refine va_get (D := G) (ci := 5) (v := .int (nI kZ)) (C := RX6) (T := TX6) (N := 35) hx hb hts iX_X6 hown hK hP 0 rfl rfl 8 (by decide) (hts _ m_t858) (fun _ h9 => h9) rfl dX6_feed_52 ?_
        refine lv_dup_x1 hx hb dX6_feed_55 rfl rfl ?_
        refine lv_iconst (v := 1) hx hb dX6_feed_56 (by decide) ?_
        refine lv_iadd hx hb dX6_feed_57 ?_
        refine lv_seti (v := nI (kZ + 1)) (nI_1 _) ?_
        refine va_put (D := G) (ci := 5) (v := .int (nI (kZ + 1))) (ty := .int) (C := RX6) (T := TX6) (N := 35) hx hb hts iX_X6 tyX6 tyX6_ok nmX6 hown hK hP hD hS 0 rfl rfl 8 (by decide) (hts _ m_t858) (fun _ h9 => h9) rfl (by decide +kernel) rfl rfl (Nat.le_of_ble_eq_true rfl) dX6_feed_58 (fun H locs => ?_)
        clear hP hD hS
        intro hP hD hS
        have hPD := pd_as [zzO qm 5 [.ref qmh, .ref qmo, .ref qmz, .ref qmR, .ref qmv, .ref qmk, .ref qma, .ref qmt, .int (nI (kZ + 1)), .ref qmr, .int (nI (T_nb tA)), .ref qmB, .int (nI (T_np tA)), .ref qmO, .ref qmK, .int iEn, .int iTk, .int (T_sd tA), ov uP, ov uU, .int (nI kAt), .int iTo, .int iFr, .long JFi, .int iFa, .ref qm3, .int iSt, .int iLv, .int iWs, vLa, .ref qmu, .ref qmy, .ref qmb, .ref qms, .int iOm], zzI cy qmt 250 fMt, zzI cy qmr 8 fMr] hP hD rfl
        clear hP hD
        obtain ⟨hP, hD⟩ := hPD
        refine lv_iload_n hx hb dX6_feed_61 rfl (lv_at hl 2 rfl) ?_
        refine lv_bipush (v := 8) hx hb dX6_feed_62 (by decide) ?_
        refine lv_iload_n hx hb dX6_feed_64 rfl (lv_at hl 0 rfl) ?_
        refine lv_imul hx hb dX6_feed_65 ?_
        refine lv_seti (v := 24) (by decide) ?_
        refine lv_ishr hx hb dX6_feed_66 ?_
        refine lv_sipush (v := 255) hx hb dX6_feed_67 (by decide) ?_
        refine lv_iand hx hb dX6_feed_70 ?_
        refine va_iast hx hb hK hP hD hS 1 0 rfl rfl (vp_in_nI (by omega) (by omega)) dX6_feed_71 (fun H locs => ?_)
        clear hP hD hS
        intro hP hD hS
        rw [nI_clamp (n := kZ) (by omega)] at hP hD
        have hPD := pd_as [zzO qm 5 [.ref qmh, .ref qmo, .ref qmz, .ref qmR, .ref qmv, .ref qmk, .ref qma, .ref qmt, .int (nI (kZ + 1)), .ref qmr, .int (nI (T_nb tA)), .ref qmB, .int (nI (T_np tA)), .ref qmO, .ref qmK, .int iEn, .int iTk, .int (T_sd tA), ov uP, ov uU, .int (nI kAt), .int iTo, .int iFr, .long JFi, .int iFa, .ref qm3, .int iSt, .int iLv, .int iWs, vLa, .ref qmu, .ref qmy, .ref qmb, .ref qms, .int iOm], zzI cy qmt 250 (upd fMt kZ ((iA >>> (24 &&& 31)) &&& 255)), zzI cy qmr 8 fMr] hP hD rfl
        clear hP hD
        obtain ⟨hP, hD⟩ := hPD
        refine lv_iinc (v := 2) (lv' := [(3, .int 2), (0, .ref qm), (1, .int iA), (2, .int 4)]) hx hb dX6_feed_72 hl (k := 0) rfl (by decide) (by decide) rfl (fun ls => ?_)
        clear hl
        intro hl
        refine lv_goto (tgt := 42) hx hb dX6_feed_75 (by decide) ?_
        refine lv_iload_n hx hb dX6_feed_42 rfl (lv_at hl 0 rfl) ?_
        refine lv_if_lt (tgt := 78) hx hb dX6_feed_43 (by decide) (fun h9 => absurd h9 (by decide)) (fun _ => ?_)
        refine lv_aload_n hx hb dX6_feed_46 rfl (lv_at hl 1 rfl) ?_
        refine va_get (D := G) (ci := 5) (v := .ref qmt) (C := RX6) (T := TX6) (N := 35) hx hb hts iX_X6 hown hK hP 0 rfl rfl 7 (by decide) (hts _ m_t857) (fun _ h9 => h9) rfl dX6_feed_47 ?_
        refine lv_aload_n hx hb dX6_feed_50 rfl (lv_at hl 1 rfl) ?_
        refine lv_dup hx hb dX6_feed_51 rfl ?_
        refine va_get (D := G) (ci := 5) (v := .int (nI (kZ + 1))) (C := RX6) (T := TX6) (N := 35) hx hb hts iX_X6 hown hK hP 0 rfl rfl 8 (by decide) (hts _ m_t858) (fun _ h9 => h9) rfl dX6_feed_52 ?_
        refine lv_dup_x1 hx hb dX6_feed_55 rfl rfl ?_
        refine lv_iconst (v := 1) hx hb dX6_feed_56 (by decide) ?_
        refine lv_iadd hx hb dX6_feed_57 ?_
        refine lv_seti (v := nI ((kZ + 1) + 1)) (nI_1 _) ?_
        refine va_put (D := G) (ci := 5) (v := .int (nI ((kZ + 1) + 1))) (ty := .int) (C := RX6) (T := TX6) (N := 35) hx hb hts iX_X6 tyX6 tyX6_ok nmX6 hown hK hP hD hS 0 rfl rfl 8 (by decide) (hts _ m_t858) (fun _ h9 => h9) rfl (by decide +kernel) rfl rfl (Nat.le_of_ble_eq_true rfl) dX6_feed_58 (fun H locs => ?_)
        clear hP hD hS
        intro hP hD hS
        have hPD := pd_as [zzO qm 5 [.ref qmh, .ref qmo, .ref qmz, .ref qmR, .ref qmv, .ref qmk, .ref qma, .ref qmt, .int (nI ((kZ + 1) + 1)), .ref qmr, .int (nI (T_nb tA)), .ref qmB, .int (nI (T_np tA)), .ref qmO, .ref qmK, .int iEn, .int iTk, .int (T_sd tA), ov uP, ov uU, .int (nI kAt), .int iTo, .int iFr, .long JFi, .int iFa, .ref qm3, .int iSt, .int iLv, .int iWs, vLa, .ref qmu, .ref qmy, .ref qmb, .ref qms, .int iOm], zzI cy qmt 250 (upd fMt kZ ((iA >>> (24 &&& 31)) &&& 255)), zzI cy qmr 8 fMr] hP hD rfl
        clear hP hD
        obtain ⟨hP, hD⟩ := hPD
        refine lv_iload_n hx hb dX6_feed_61 rfl (lv_at hl 2 rfl) ?_
        refine lv_bipush (v := 8) hx hb dX6_feed_62 (by decide) ?_
        refine lv_iload_n hx hb dX6_feed_64 rfl (lv_at hl 0 rfl) ?_
        refine lv_imul hx hb dX6_feed_65 ?_
        refine lv_seti (v := 16) (by decide) ?_
        refine lv_ishr hx hb dX6_feed_66 ?_
        refine lv_sipush (v := 255) hx hb dX6_feed_67 (by decide) ?_
        refine lv_iand hx hb dX6_feed_70 ?_
        refine va_iast hx hb hK hP hD hS 1 0 rfl rfl (vp_in_nI (by omega) (by omega)) dX6_feed_71 (fun H locs => ?_)
        clear hP hD hS
        intro hP hD hS
        rw [nI_clamp (n := (kZ + 1)) (by omega)] at hP hD
        have hPD := pd_as [zzO qm 5 [.ref qmh, .ref qmo, .ref qmz, .ref qmR, .ref qmv, .ref qmk, .ref qma, .ref qmt, .int (nI ((kZ + 1) + 1)), .ref qmr, .int (nI (T_nb tA)), .ref qmB, .int (nI (T_np tA)), .ref qmO, .ref qmK, .int iEn, .int iTk, .int (T_sd tA), ov uP, ov uU, .int (nI kAt), .int iTo, .int iFr, .long JFi, .int iFa, .ref qm3, .int iSt, .int iLv, .int iWs, vLa, .ref qmu, .ref qmy, .ref qmb, .ref qms, .int iOm], zzI cy qmt 250 (upd (upd fMt kZ ((iA >>> (24 &&& 31)) &&& 255)) (kZ + 1) ((iA >>> (16 &&& 31)) &&& 255)), zzI cy qmr 8 fMr] hP hD rfl
        clear hP hD
        obtain ⟨hP, hD⟩ := hPD
        refine lv_iinc (v := 1) (lv' := [(3, .int 1), (0, .ref qm), (1, .int iA), (2, .int 4)]) hx hb dX6_feed_72 hl (k := 0) rfl (by decide) (by decide) rfl (fun ls => ?_)
        clear hl
        intro hl
        refine lv_goto (tgt := 42) hx hb dX6_feed_75 (by decide) ?_
        refine lv_iload_n hx hb dX6_feed_42 rfl (lv_at hl 0 rfl) ?_
        refine lv_if_lt (tgt := 78) hx hb dX6_feed_43 (by decide) (fun h9 => absurd h9 (by decide)) (fun _ => ?_)
        refine lv_aload_n hx hb dX6_feed_46 rfl (lv_at hl 1 rfl) ?_
        refine va_get (D := G) (ci := 5) (v := .ref qmt) (C := RX6) (T := TX6) (N := 35) hx hb hts iX_X6 hown hK hP 0 rfl rfl 7 (by decide) (hts _ m_t857) (fun _ h9 => h9) rfl dX6_feed_47 ?_
        refine lv_aload_n hx hb dX6_feed_50 rfl (lv_at hl 1 rfl) ?_
        refine lv_dup hx hb dX6_feed_51 rfl ?_
        refine va_get (D := G) (ci := 5) (v := .int (nI ((kZ + 1) + 1))) (C := RX6) (T := TX6) (N := 35) hx hb hts iX_X6 hown hK hP 0 rfl rfl 8 (by decide) (hts _ m_t858) (fun _ h9 => h9) rfl dX6_feed_52 ?_
        refine lv_dup_x1 hx hb dX6_feed_55 rfl rfl ?_
        refine lv_iconst (v := 1) hx hb dX6_feed_56 (by decide) ?_
        refine lv_iadd hx hb dX6_feed_57 ?_
        refine lv_seti (v := nI (((kZ + 1) + 1) + 1)) (nI_1 _) ?_
        refine va_put (D := G) (ci := 5) (v := .int (nI (((kZ + 1) + 1) + 1))) (ty := .int) (C := RX6) (T := TX6) (N := 35) hx hb hts iX_X6 tyX6 tyX6_ok nmX6 hown hK hP hD hS 0 rfl rfl 8 (by decide) (hts _ m_t858) (fun _ h9 => h9) rfl (by decide +kernel) rfl rfl (Nat.le_of_ble_eq_true rfl) dX6_feed_58 (fun H locs => ?_)
        clear hP hD hS
        intro hP hD hS
        have hPD := pd_as [zzO qm 5 [.ref qmh, .ref qmo, .ref qmz, .ref qmR, .ref qmv, .ref qmk, .ref qma, .ref qmt, .int (nI (((kZ + 1) + 1) + 1)), .ref qmr, .int (nI (T_nb tA)), .ref qmB, .int (nI (T_np tA)), .ref qmO, .ref qmK, .int iEn, .int iTk, .int (T_sd tA), ov uP, ov uU, .int (nI kAt), .int iTo, .int iFr, .long JFi, .int iFa, .ref qm3, .int iSt, .int iLv, .int iWs, vLa, .ref qmu, .ref qmy, .ref qmb, .ref qms, .int iOm], zzI cy qmt 250 (upd (upd fMt kZ ((iA >>> (24 &&& 31)) &&& 255)) (kZ + 1) ((iA >>> (16 &&& 31)) &&& 255)), zzI cy qmr 8 fMr] hP hD rfl
        clear hP hD
        obtain ⟨hP, hD⟩ := hPD
        refine lv_iload_n hx hb dX6_feed_61 rfl (lv_at hl 2 rfl) ?_
        refine lv_bipush (v := 8) hx hb dX6_feed_62 (by decide) ?_
        refine lv_iload_n hx hb dX6_feed_64 rfl (lv_at hl 0 rfl) ?_
        refine lv_imul hx hb dX6_feed_65 ?_
        refine lv_seti (v := 8) (by decide) ?_
        refine lv_ishr hx hb dX6_feed_66 ?_
        refine lv_sipush (v := 255) hx hb dX6_feed_67 (by decide) ?_
        refine lv_iand hx hb dX6_feed_70 ?_
        refine va_iast hx hb hK hP hD hS 1 0 rfl rfl (vp_in_nI (by omega) (by omega)) dX6_feed_71 (fun H locs => ?_)
        clear hP hD hS
        intro hP hD hS
        rw [nI_clamp (n := ((kZ + 1) + 1)) (by omega)] at hP hD
        have hPD := pd_as [zzO qm 5 [.ref qmh, .ref qmo, .ref qmz, .ref qmR, .ref qmv, .ref qmk, .ref qma, .ref qmt, .int (nI (((kZ + 1) + 1) + 1)), .ref qmr, .int (nI (T_nb tA)), .ref qmB, .int (nI (T_np tA)), .ref qmO, .ref qmK, .int iEn, .int iTk, .int (T_sd tA), ov uP, ov uU, .int (nI kAt), .int iTo, .int iFr, .long JFi, .int iFa, .ref qm3, .int iSt, .int iLv, .int iWs, vLa, .ref qmu, .ref qmy, .ref qmb, .ref qms, .int iOm], zzI cy qmt 250 (upd (upd (upd fMt kZ ((iA >>> (24 &&& 31)) &&& 255)) (kZ + 1) ((iA >>> (16 &&& 31)) &&& 255)) ((kZ + 1) + 1) ((iA >>> (8 &&& 31)) &&& 255)), zzI cy qmr 8 fMr] hP hD rfl
        clear hP hD
        obtain ⟨hP, hD⟩ := hPD
        refine lv_iinc (v := 0) (lv' := [(3, .int 0), (0, .ref qm), (1, .int iA), (2, .int 4)]) hx hb dX6_feed_72 hl (k := 0) rfl (by decide) (by decide) rfl (fun ls => ?_)
        clear hl
        intro hl
        refine lv_goto (tgt := 42) hx hb dX6_feed_75 (by decide) ?_
        refine lv_iload_n hx hb dX6_feed_42 rfl (lv_at hl 0 rfl) ?_
        refine lv_if_lt (tgt := 78) hx hb dX6_feed_43 (by decide) (fun h9 => absurd h9 (by decide)) (fun _ => ?_)
        refine lv_aload_n hx hb dX6_feed_46 rfl (lv_at hl 1 rfl) ?_
        refine va_get (D := G) (ci := 5) (v := .ref qmt) (C := RX6) (T := TX6) (N := 35) hx hb hts iX_X6 hown hK hP 0 rfl rfl 7 (by decide) (hts _ m_t857) (fun _ h9 => h9) rfl dX6_feed_47 ?_
        refine lv_aload_n hx hb dX6_feed_50 rfl (lv_at hl 1 rfl) ?_
        refine lv_dup hx hb dX6_feed_51 rfl ?_
        refine va_get (D := G) (ci := 5) (v := .int (nI (((kZ + 1) + 1) + 1))) (C := RX6) (T := TX6) (N := 35) hx hb hts iX_X6 hown hK hP 0 rfl rfl 8 (by decide) (hts _ m_t858) (fun _ h9 => h9) rfl dX6_feed_52 ?_
        refine lv_dup_x1 hx hb dX6_feed_55 rfl rfl ?_
        refine lv_iconst (v := 1) hx hb dX6_feed_56 (by decide) ?_
        refine lv_iadd hx hb dX6_feed_57 ?_
        refine lv_seti (v := nI ((((kZ + 1) + 1) + 1) + 1)) (nI_1 _) ?_
        refine va_put (D := G) (ci := 5) (v := .int (nI ((((kZ + 1) + 1) + 1) + 1))) (ty := .int) (C := RX6) (T := TX6) (N := 35) hx hb hts iX_X6 tyX6 tyX6_ok nmX6 hown hK hP hD hS 0 rfl rfl 8 (by decide) (hts _ m_t858) (fun _ h9 => h9) rfl (by decide +kernel) rfl rfl (Nat.le_of_ble_eq_true rfl) dX6_feed_58 (fun H locs => ?_)
        clear hP hD hS
        intro hP hD hS
        have hPD := pd_as [zzO qm 5 [.ref qmh, .ref qmo, .ref qmz, .ref qmR, .ref qmv, .ref qmk, .ref qma, .ref qmt, .int (nI ((((kZ + 1) + 1) + 1) + 1)), .ref qmr, .int (nI (T_nb tA)), .ref qmB, .int (nI (T_np tA)), .ref qmO, .ref qmK, .int iEn, .int iTk, .int (T_sd tA), ov uP, ov uU, .int (nI kAt), .int iTo, .int iFr, .long JFi, .int iFa, .ref qm3, .int iSt, .int iLv, .int iWs, vLa, .ref qmu, .ref qmy, .ref qmb, .ref qms, .int iOm], zzI cy qmt 250 (upd (upd (upd fMt kZ ((iA >>> (24 &&& 31)) &&& 255)) (kZ + 1) ((iA >>> (16 &&& 31)) &&& 255)) ((kZ + 1) + 1) ((iA >>> (8 &&& 31)) &&& 255)), zzI cy qmr 8 fMr] hP hD rfl
        clear hP hD
        obtain ⟨hP, hD⟩ := hPD
        refine lv_iload_n hx hb dX6_feed_61 rfl (lv_at hl 2 rfl) ?_
        refine lv_bipush (v := 8) hx hb dX6_feed_62 (by decide) ?_
        refine lv_iload_n hx hb dX6_feed_64 rfl (lv_at hl 0 rfl) ?_
        refine lv_imul hx hb dX6_feed_65 ?_
        refine lv_seti (v := 0) (by decide) ?_
        refine lv_ishr hx hb dX6_feed_66 ?_
        refine lv_sipush (v := 255) hx hb dX6_feed_67 (by decide) ?_
        refine lv_iand hx hb dX6_feed_70 ?_
        refine va_iast hx hb hK hP hD hS 1 0 rfl rfl (vp_in_nI (by omega) (by omega)) dX6_feed_71 (fun H locs => ?_)
        clear hP hD hS
        intro hP hD hS
        rw [nI_clamp (n := (((kZ + 1) + 1) + 1)) (by omega)] at hP hD
        have hPD := pd_as [zzO qm 5 [.ref qmh, .ref qmo, .ref qmz, .ref qmR, .ref qmv, .ref qmk, .ref qma, .ref qmt, .int (nI ((((kZ + 1) + 1) + 1) + 1)), .ref qmr, .int (nI (T_nb tA)), .ref qmB, .int (nI (T_np tA)), .ref qmO, .ref qmK, .int iEn, .int iTk, .int (T_sd tA), ov uP, ov uU, .int (nI kAt), .int iTo, .int iFr, .long JFi, .int iFa, .ref qm3, .int iSt, .int iLv, .int iWs, vLa, .ref qmu, .ref qmy, .ref qmb, .ref qms, .int iOm], zzI cy qmt 250 (upd (upd (upd (upd fMt kZ ((iA >>> (24 &&& 31)) &&& 255)) (kZ + 1) ((iA >>> (16 &&& 31)) &&& 255)) ((kZ + 1) + 1) ((iA >>> (8 &&& 31)) &&& 255)) (((kZ + 1) + 1) + 1) ((iA >>> (0 &&& 31)) &&& 255)), zzI cy qmr 8 fMr] hP hD rfl
        clear hP hD
        obtain ⟨hP, hD⟩ := hPD
        refine lv_iinc (v := (-1)) (lv' := [(3, .int (-1)), (0, .ref qm), (1, .int iA), (2, .int 4)]) hx hb dX6_feed_72 hl (k := 0) rfl (by decide) (by decide) rfl (fun ls => ?_)
        clear hl
        intro hl
        refine lv_goto (tgt := 42) hx hb dX6_feed_75 (by decide) ?_
        refine lv_iload_n hx hb dX6_feed_42 rfl (lv_at hl 0 rfl) ?_
        refine lv_if_lt (tgt := 78) hx hb dX6_feed_43 (by decide) (fun _ => ?_) (fun h9 => absurd (by decide) h9)
        refine lv_aload_n hx hb dX6_feed_78 rfl (lv_at hl 1 rfl) ?_
        refine va_get (D := G) (ci := 5) (v := .int (nI ((((kZ + 1) + 1) + 1) + 1))) (C := RX6) (T := TX6) (N := 35) hx hb hts iX_X6 hown hK hP 0 rfl rfl 8 (by decide) (hts _ m_t858) (fun _ h9 => h9) rfl dX6_feed_79 ?_
        exact endW (u := [zzO qm 5 [.ref qmh, .ref qmo, .ref qmz, .ref qmR, .ref qmv, .ref qmk, .ref qma, .ref qmt, .int (nI ((((kZ + 1) + 1) + 1) + 1)), .ref qmr, .int (nI (T_nb tA)), .ref qmB, .int (nI (T_np tA)), .ref qmO, .ref qmK, .int iEn, .int iTk, .int (T_sd tA), ov uP, ov uU, .int (nI kAt), .int iTo, .int iFr, .long JFi, .int iFa, .ref qm3, .int iSt, .int iLv, .int iWs, vLa, .ref qmu, .ref qmy, .ref qmb, .ref qms, .int iOm], zzI cy qmt 250 (upd (upd (upd (upd fMt kZ ((iA >>> (24 &&& 31)) &&& 255)) (kZ + 1) ((iA >>> (16 &&& 31)) &&& 255)) ((kZ + 1) + 1) ((iA >>> (8 &&& 31)) &&& 255)) (((kZ + 1) + 1) + 1) ((iA >>> (0 &&& 31)) &&& 255)), zzI cy qmr 8 fMr]) hx hb hr hlocks rfl (hP.sub [0, 1, 2] rfl) (hD.sub [0, 1, 2] (by decide +kernel) rfl) hS ⟨((((kZ + 1) + 1) + 1) + 1), (upd (upd (upd (upd fMt kZ ((iA >>> (24 &&& 31)) &&& 255)) (kZ + 1) ((iA >>> (16 &&& 31)) &&& 255)) ((kZ + 1) + 1) ((iA >>> (8 &&& 31)) &&& 255)) (((kZ + 1) + 1) + 1) ((iA >>> (0 &&& 31)) &&& 255)), fMr, rfl, ⟨Or.inr ⟨4, by omega, by omega, rfl, Or.inr ⟨rfl, fm_yes (k := 4) (by omega) (by omega) c_29, rfl⟩⟩, Or.inr ⟨4, by omega, by omega, rfl, rfl, fd_s4 rfl rfl rfl rfl⟩⟩, trivial⟩ dX6_feed_82
      · refine lv_aload_n hx hb dX6_feed_31 rfl (lv_at hl 0 rfl) ?_
        refine lv_bipush (v := (-6)) hx hb dX6_feed_32 (by decide) ?_
        refine cVi (As := [.int (-6)]) (rest := []) (b := qm) (q := (RX6, TX6, 35)) ⟨hx, hb, hml, hown, hts⟩ (c_X6_refuse6 l G cy (s.heap).size qm (.ref qmh) (.ref qmo) (.ref qmz) (.ref qmR) (.ref qmv) (.ref qmk) (.ref qma) (.ref qmt) (.int (nI kZ)) qmr tA qmB qmO qmK iEn iTk (ov uP) (ov uU) (.int (nI kAt)) (.int iTo) (.int iFr) (.long JFi) (.int iFa) (.ref qm3) (.int iSt) iLv iWs vLa (.ref qmu) (.ref qmy) (.ref qmb) (.ref qms) (.int iOm) fMr) L_X6_91 hN hP hD hS hA [0, 2] [false, true, false] rfl (by decide +kernel) rfl 0 5 rfl rfl rfl ⟨Nat.le_of_ble_eq_true rfl, Nat.le_of_ble_eq_true rfl⟩ hl.1 (Nat.le_of_ble_eq_true rfl) dX6_feed_34 ⟨Nat.le_of_ble_eq_true rfl, Nat.le_of_ble_eq_true rfl⟩ (fun r_35 u_37 H locs h_36 => ?_)
        clear hP hD hS
        intro hP hD hS
        obtain ⟨fX_38, rfl, h_36⟩ := h_36
        have hPD := pd_as [zzI cy qmt 250 fMt, zzO qm 5 [.ref qmh, .ref qmo, .ref qmz, .ref qmR, .ref qmv, .ref qmk, .ref qma, .ref qmt, .int (nI kZ), .ref qmr, .int (nI (T_nb tA)), .ref qmB, .int (nI (T_np tA)), .ref qmO, .ref qmK, .int iEn, .int iTk, .int (T_sd tA), ov uP, ov uU, .int (nI kAt), .int iTo, .int iFr, .long JFi, .int iFa, .ref qm3, .int iSt, .int iLv, .int iWs, vLa, .ref qmu, .ref qmy, .ref qmb, .ref qms, .int iOm], zzI cy qmr 8 fX_38] hP hD rfl
        clear hP hD
        obtain ⟨hP, hD⟩ := hPD
        subst h_36
        exact endW (u := [zzO qm 5 [.ref qmh, .ref qmo, .ref qmz, .ref qmR, .ref qmv, .ref qmk, .ref qma, .ref qmt, .int (nI kZ), .ref qmr, .int (nI (T_nb tA)), .ref qmB, .int (nI (T_np tA)), .ref qmO, .ref qmK, .int iEn, .int iTk, .int (T_sd tA), ov uP, ov uU, .int (nI kAt), .int iTo, .int iFr, .long JFi, .int iFa, .ref qm3, .int iSt, .int iLv, .int iWs, vLa, .ref qmu, .ref qmy, .ref qmb, .ref qms, .int iOm], zzI cy qmt 250 fMt, zzI cy qmr 8 fX_38]) hx hb hr hlocks rfl (hP.sub [1, 0, 2] rfl) (hD.sub [1, 0, 2] (by decide +kernel) rfl) hS ⟨kZ, fMt, fX_38, rfl, ⟨Or.inr ⟨4, by omega, by omega, rfl, Or.inl ⟨rfl, fm_no (k := 4) (by omega) (by omega) c_29, rfl⟩⟩, Or.inl ⟨rfl, rfl⟩⟩, trivial⟩ dX6_feed_37
  · refine lv_if_ne (tgt := 19) hx hb dX6_feed_9 (by decide) (fun h9 => absurd (by decide) h9) (fun _ => ?_)
    refine lv_aload_n hx hb dX6_feed_12 rfl (lv_at hl 0 rfl) ?_
    refine lv_bipush (v := (-2)) hx hb dX6_feed_13 (by decide) ?_
    refine cVi (As := [.int (-2)]) (rest := []) (b := qm) (q := (RX6, TX6, 35)) ⟨hx, hb, hml, hown, hts⟩ (c_X6_refuse2 l G cy (s.heap).size qm (.ref qmh) (.ref qmo) (.ref qmz) (.ref qmR) (.ref qmv) (.ref qmk) (.ref qma) (.ref qmt) (.int (nI kZ)) qmr tA qmB qmO qmK iEn iTk (ov uP) (ov uU) (.int (nI kAt)) (.int iTo) (.int iFr) (.long JFi) (.int iFa) (.ref qm3) (.int iSt) iLv iWs vLa (.ref qmu) (.ref qmy) (.ref qmb) (.ref qms) (.int iOm) fMr) L_X6_91 hN hP hD hS hA [0, 2] [false, true, false] rfl (by decide +kernel) rfl 0 5 rfl rfl rfl ⟨Nat.le_of_ble_eq_true rfl, Nat.le_of_ble_eq_true rfl⟩ hl.1 (Nat.le_of_ble_eq_true rfl) dX6_feed_15 ⟨Nat.le_of_ble_eq_true rfl, Nat.le_of_ble_eq_true rfl⟩ (fun r_40 u_42 H locs h_41 => ?_)
    clear hP hD hS
    intro hP hD hS
    obtain ⟨fX_43, rfl, h_41⟩ := h_41
    have hPD := pd_as [zzI cy qmt 250 fMt, zzO qm 5 [.ref qmh, .ref qmo, .ref qmz, .ref qmR, .ref qmv, .ref qmk, .ref qma, .ref qmt, .int (nI kZ), .ref qmr, .int (nI (T_nb tA)), .ref qmB, .int (nI (T_np tA)), .ref qmO, .ref qmK, .int iEn, .int iTk, .int (T_sd tA), ov uP, ov uU, .int (nI kAt), .int iTo, .int iFr, .long JFi, .int iFa, .ref qm3, .int iSt, .int iLv, .int iWs, vLa, .ref qmu, .ref qmy, .ref qmb, .ref qms, .int iOm], zzI cy qmr 8 fX_43] hP hD rfl
    clear hP hD
    obtain ⟨hP, hD⟩ := hPD
    subst h_41
    exact endW (u := [zzO qm 5 [.ref qmh, .ref qmo, .ref qmz, .ref qmR, .ref qmv, .ref qmk, .ref qma, .ref qmt, .int (nI kZ), .ref qmr, .int (nI (T_nb tA)), .ref qmB, .int (nI (T_np tA)), .ref qmO, .ref qmK, .int iEn, .int iTk, .int (T_sd tA), ov uP, ov uU, .int (nI kAt), .int iTo, .int iFr, .long JFi, .int iFa, .ref qm3, .int iSt, .int iLv, .int iWs, vLa, .ref qmu, .ref qmy, .ref qmb, .ref qms, .int iOm], zzI cy qmt 250 fMt, zzI cy qmr 8 fX_43]) hx hb hr hlocks rfl (hP.sub [1, 0, 2] rfl) (hD.sub [1, 0, 2] (by decide +kernel) rfl) hS ⟨kZ, fMt, fX_43, rfl, ⟨Or.inl ⟨rfl, h_3, rfl⟩, Or.inl ⟨rfl, rfl⟩⟩, trivial⟩ dX6_feed_18
