section
noncomputable def PMones (h z : Nat → Int32) (e : Nat → Nat → Int64) (t : TA) (a n r : Int32) (t' : TA) : Prop := (r = -2 ∧ (¬ Sh a ∨ ∃ k : Nat, k < 8 ∧ a = nI k ∧ ¬ h k = 2 ∧ ¬ h k = 0 ∧ (n < 0 ∨ ¬ n - n / 4 * 4 = 0 ∨ ¬ n ≤ z k)) ∧ t' = t) ∨ (r = -3 ∧ (∃ k : Nat, k < 8 ∧ a = nI k ∧ h k = 2) ∧ t' = t) ∨ (r = -4 ∧ (∃ k : Nat, k < 8 ∧ a = nI k ∧ ¬ h k = 2 ∧ h k = 0) ∧ t' = t) ∨ ∃ k m : Nat, k < 8 ∧ a = nI k ∧ ¬ h k = 2 ∧ ¬ h k = 0 ∧ n = nI (4 * m) ∧ 4 * m ≤ 40 ∧ n ≤ z k ∧ (t', r) = onG (e k) m 0 t 0
theorem on_cong {e f : Nat → Int64} : ∀ n i t c, (∀ j, i ≤ j → j < i + 4 * n → e j = f j) → onG e n i t c = onG f n i t c := by
  intro n
  induction n with
  | zero => intro i t c _; rfl
  | succ n ih =>
    intro i t c h
    unfold onG
    rw [h i (by omega) (by omega), h (i + 1) (by omega) (by omega), h (i + 2) (by omega) (by omega), h (i + 3) (by omega) (by omega), ih (i + 4) _ _ (fun j h1 h2 => h j (by omega) (by omega))]
theorem gA_cong {f g : Nat → Bool} {K : Nat → Int32} : ∀ n, (∀ p, p < n → f p = g p) → gA f K n = gA g K n := by
  intro n
  induction n with
  | zero => intro _; rfl
  | succ n ih =>
    intro h
    unfold gA
    rw [h n (by omega), ih (fun p hp => h p (by omega))]
theorem mgr_mkn {t : TA} {b : Nat} {s : Int32} (h8 : T_np t ≤ 8) : mgr t b s = mkn t b (s &&& zthere t) := by
  unfold mgr mkn
  refine gA_cong _ (fun p hp => ?_)
  rw [bitb_and (by omega), bitb_th (by omega), decide_eq_true hp, Bool.true_and]
theorem ws_cong {f g : Nat → Int32} : ∀ n, (∀ b, b < n → f b = g b) → wsum f n = wsum g n := by
  intro n
  induction n with
  | zero => intro _; rfl
  | succ n ih =>
    intro h
    unfold wsum
    rw [h n (by omega), ih (fun p hp => h p (by omega))]
theorem mvo_waF {t : TA} {s : Int32} (h8 : T_np t ≤ 8) : mvo t s = waF t (s &&& zthere t) := ws_cong _ (fun b _ => by rw [mgr_mkn h8])
theorem mvo_all {t : TA} (h8 : T_np t ≤ 8) : mvo t ((1 : Int32) <<< (nI (T_np t) &&& 31) - 1) = zval t := by rw [mvo_waF h8, all_there h8]; rfl
theorem WI_rdG {loud most : Int32} : ∀ n j t c, WI t → WI (rdG loud most n j t c).1 := by
  intro n
  induction n with
  | zero => intro j t c h; exact h
  | succ n ih =>
    intro j t c h
    have n1 := h.1.1.1
    have n2 := h.1.1.2
    by_cases c1 : most ≤ nI j
    · rw [rd_m c1]; exact h
    · rcases du_in t (T_nb t) with e | ⟨k, hk, e⟩
      · rw [rd_u e]; exact h
      · rcases br_in t k (T_np t) with e2 | ⟨p, hp, e2⟩
        · rw [rd_b (k := k) e (by omega) e2]; exact h
        · rw [rd_go c1 (k := k) e (by omega) (i := p) e2 (by omega)]
          exact ih _ _ _ (WI_rdS h hp hk)
theorem WI_act {t : TA} {k a : Int32} (h : WI t) : WI (zact t k a).1 := by
  unfold zact
  split
  · exact WI_rdG _ _ _ _ h
  · split
    · exact WI_rdG _ _ _ _ h
    · split
      · exact WI_rdG _ _ _ _ h
      · split
        · exact WI_ch h
        · split
          · exact WI_ch (WI_ch h)
          · split
            · exact WI_rdG _ _ _ _ (WI_ch h)
            · exact h
noncomputable def PMyears (h q am : Nat → Int32) (t : TA) (a n r : Int32) (t' : TA) : Prop := (r = -2 ∧ (¬ Sh a ∨ ¬ Iv n.toInt64 1 20) ∧ t' = t) ∨ (r = -3 ∧ Iv n.toInt64 1 20 ∧ (∃ k : Nat, k < 8 ∧ a = nI k ∧ h k = 1) ∧ t' = t) ∨ (r = -4 ∧ Iv n.toInt64 1 20 ∧ (∃ k : Nat, k < 8 ∧ a = nI k ∧ ¬ h k = 1 ∧ h k = 0) ∧ t' = t) ∨ ∃ k m : Nat, k < 8 ∧ a = nI k ∧ ¬ h k = 1 ∧ ¬ h k = 0 ∧ 1 ≤ m ∧ m ≤ 20 ∧ n = nI m ∧ (t', r) = yrG (q k) (am k) m t 0
theorem ex_k {f : Nat → Int32} {k1 : Nat} (h1 : k1 < 8) (h : ∃ k : Nat, k < 8 ∧ nI k1 = nI k ∧ ¬ f k = 1 ∧ ¬ f k = 0) : ¬ f k1 = 1 ∧ ¬ f k1 = 0 := by
  obtain ⟨k, hk, e, h2⟩ := h
  have e := nI_inj (by omega) (by omega) e
  subst e
  exact h2
theorem yr_st {K A0 xS v : Int32} {n : Nat} {tJ tX : TA} {R : TA × Int32} (hR : yrG K A0 (n + 1) tJ xS = R) (e : tX = zey (zdd (zact tJ K A0).1)) (ev : v = zval (zact tJ K A0).1) : yrG K A0 n tX (xS + v) = R := by
  rw [e, ev, ← hR]
  rfl
set_option maxHeartbeats 4000000 in
set_option maxRecDepth 100000 in
theorem x_X6_ones (l : Launch) (G : va_G) (cy : Nat → ClassId) (sz : Nat) (qm : Nat) (qmh : Nat) (qmo : Nat) (qmz : Nat) (qmR : Nat) (qmv : Nat) (qmk : Nat) (qma : Nat) (qmt : Nat) (kZ : Nat) (qmr : Nat) (tA : TA) (qmB : Nat) (qmO : Nat) (qmK : Nat) (iEn : Int32) (iTk : Int32) (uP : UM) (uU : UM) (kAt : Nat) (iTo : Int32) (iFr : Int32) (JFi : Int64) (iFa : Int32) (qm3 : Nat) (iSt : Int32) (iLv : Int32) (iWs : Int32) (vLa : Value) (qmu : Nat) (qmy : Nat) (qmb : Nat) (qms : Nat) (iOm : Int32) (fMh : Nat → Int32) (fMz : Nat → Int32) (rR : Nat → Nat) (eR : Nat → Nat → Int64) (rB : Nat → Nat) (rO : Nat → Nat) (rK : Nat → Nat) (fMr : Nat → Int32) (iA : Int32) (iB : Int32)  (hB : T_nb tA ≤ 8) (hPp : T_np tA ≤ 8) (hTI : TI tA) (hSz : ∀ s, s < 8 → ∃ n : Nat, n ≤ 40 ∧ fMz s = nI n) (hWI : WI tA) : MW l yX6_ones cX6_ones 6 (some .int) 16 0 0 G cy [zzO qm 5 [.ref qmh, .ref qmo, .ref qmz, .ref qmR, .ref qmv, .ref qmk, .ref qma, .ref qmt, .int (nI kZ), .ref qmr, .int (nI (T_nb tA)), .ref qmB, .int (nI (T_np tA)), .ref qmO, .ref qmK, .int iEn, .int iTk, .int (T_sd tA), ov uP, ov uU, .int (nI kAt), .int iTo, .int iFr, .long JFi, .int iFa, .ref qm3, .int iSt, .int iLv, .int iWs, vLa, .ref qmu, .ref qmy, .ref qmb, .ref qms, .int iOm], zzI cy qmh 8 fMh, zzI cy qmz 8 fMz, zzG cy 4 qmR rR, zzJ cy (rR 0) 40 (eR 0), zzJ cy (rR 1) 40 (eR 1), zzJ cy (rR 2) 40 (eR 2), zzJ cy (rR 3) 40 (eR 3), zzJ cy (rR 4) 40 (eR 4), zzJ cy (rR 5) 40 (eR 5), zzJ cy (rR 6) 40 (eR 6), zzJ cy (rR 7) 40 (eR 7), zzG cy 3 qmB rB, zzI cy (rB 0) 4 (bkR tA 0), zzI cy (rB 1) 4 (bkR tA 1), zzI cy (rB 2) 4 (bkR tA 2), zzI cy (rB 3) 4 (bkR tA 3), zzI cy (rB 4) 4 (bkR tA 4), zzI cy (rB 5) 4 (bkR tA 5), zzI cy (rB 6) 4 (bkR tA 6), zzI cy (rB 7) 4 (bkR tA 7), zzG cy 3 qmO rO, zzI cy (rO 0) 5 (onR tA 0), zzI cy (rO 1) 5 (onR tA 1), zzI cy (rO 2) 5 (onR tA 2), zzI cy (rO 3) 5 (onR tA 3), zzI cy (rO 4) 5 (onR tA 4), zzI cy (rO 5) 5 (onR tA 5), zzI cy (rO 6) 5 (onR tA 6), zzI cy (rO 7) 5 (onR tA 7), zzG cy 3 qmK rK, zzI cy (rK 0) 8 (T_kn tA 0), zzI cy (rK 1) 8 (T_kn tA 1), zzI cy (rK 2) 8 (T_kn tA 2), zzI cy (rK 3) 8 (T_kn tA 3), zzI cy (rK 4) 8 (T_kn tA 4), zzI cy (rK 5) 8 (T_kn tA 5), zzI cy (rK 6) 8 (T_kn tA 6), zzI cy (rK 7) 8 (T_kn tA 7), zzI cy qmr 8 fMr] sz [.ref qm, .int iA, .int iB] (Wi G (fun r u => ∃ (tN : TA) (fNr : Nat → Int32), u = [zzO qm 5 [.ref qmh, .ref qmo, .ref qmz, .ref qmR, .ref qmv, .ref qmk, .ref qma, .ref qmt, .int (nI kZ), .ref qmr, .int (nI (T_nb tN)), .ref qmB, .int (nI (T_np tN)), .ref qmO, .ref qmK, .int iEn, .int iTk, .int (T_sd tN), ov uP, ov uU, .int (nI kAt), .int iTo, .int iFr, .long JFi, .int iFa, .ref qm3, .int iSt, .int iLv, .int iWs, vLa, .ref qmu, .ref qmy, .ref qmb, .ref qms, .int iOm], zzI cy qmh 8 fMh, zzI cy qmz 8 fMz, zzG cy 4 qmR rR, zzJ cy (rR 0) 40 (eR 0), zzJ cy (rR 1) 40 (eR 1), zzJ cy (rR 2) 40 (eR 2), zzJ cy (rR 3) 40 (eR 3), zzJ cy (rR 4) 40 (eR 4), zzJ cy (rR 5) 40 (eR 5), zzJ cy (rR 6) 40 (eR 6), zzJ cy (rR 7) 40 (eR 7), zzG cy 3 qmB rB, zzI cy (rB 0) 4 (bkR tN 0), zzI cy (rB 1) 4 (bkR tN 1), zzI cy (rB 2) 4 (bkR tN 2), zzI cy (rB 3) 4 (bkR tN 3), zzI cy (rB 4) 4 (bkR tN 4), zzI cy (rB 5) 4 (bkR tN 5), zzI cy (rB 6) 4 (bkR tN 6), zzI cy (rB 7) 4 (bkR tN 7), zzG cy 3 qmO rO, zzI cy (rO 0) 5 (onR tN 0), zzI cy (rO 1) 5 (onR tN 1), zzI cy (rO 2) 5 (onR tN 2), zzI cy (rO 3) 5 (onR tN 3), zzI cy (rO 4) 5 (onR tN 4), zzI cy (rO 5) 5 (onR tN 5), zzI cy (rO 6) 5 (onR tN 6), zzI cy (rO 7) 5 (onR tN 7), zzG cy 3 qmK rK, zzI cy (rK 0) 8 (T_kn tN 0), zzI cy (rK 1) 8 (T_kn tN 1), zzI cy (rK 2) 8 (T_kn tN 2), zzI cy (rK 3) 8 (T_kn tN 3), zzI cy (rK 4) 8 (T_kn tN 4), zzI cy (rK 5) 8 (T_kn tN 5), zzI cy (rK 6) 8 (T_kn tN 6), zzI cy (rK 7) 8 (T_kn tN 7), zzI cy qmr 8 fNr] ∧ (WI tN ∧ PMones fMh fMz eR tA iA iB r tN) ∧ (True))) := by
  refine enW RX6 (by decide +kernel) rfl (Nat.le_of_ble_eq_true rfl) (fun p e s m below meth c ls A hx hb hml hown hts hr hlocks hP hN hl hin hD hA hS => ?_)
  have hin : meth.name = _ := hin
  have hK := hN.1
  replace hl : lv_has ls 6 [(0, .ref qm), (1, .int iA), (2, .int iB)] := hl
  refine lv_aload_n hx hb dX6_ones_0 rfl (lv_at hl 0 rfl) ?_
  refine lv_iload_n hx hb dX6_ones_1 rfl (lv_at hl 1 rfl) ?_
  refine cVi (As := [.int iA]) (rest := []) (b := qm) (q := (RX6, TX6, 35)) ⟨hx, hb, hml, hown, hts⟩ (c_X6_noRow l G cy (s.heap).size qm qmh (.ref qmo) (.ref qmz) (.ref qmR) (.ref qmv) (.ref qmk) (.ref qma) (.ref qmt) (.int (nI kZ)) qmr tA qmB qmO qmK iEn iTk (ov uP) (ov uU) (.int (nI kAt)) (.int iTo) (.int iFr) (.long JFi) (.int iFa) (.ref qm3) (.int iSt) iLv iWs vLa (.ref qmu) (.ref qmy) (.ref qmb) (.ref qms) (.int iOm) fMh fMr iA) L_X6_95 hN hP hD hS hA (trueIx 0 [true, true, false, false, false, false, false, false, false, false, false, false, false, false, false, false, false, false, false, false, false, false, false, false, false, false, false, false, false, false, false, false, false, false, false, false, false, false, false, true]) [false, false, true, true, true, true, true, true, true, true, true, true, true, true, true, true, true, true, true, true, true, true, true, true, true, true, true, true, true, true, true, true, true, true, true, true, true, true, true, false] (sel_eq rfl rfl) (by decide +kernel) rfl 0 5 rfl rfl rfl ⟨Nat.le_of_ble_eq_true rfl, Nat.le_of_ble_eq_true rfl⟩ hl.1 (Nat.le_of_ble_eq_true rfl) dX6_ones_2 ⟨Nat.le_of_ble_eq_true rfl, Nat.le_of_ble_eq_true rfl⟩ (fun r_1 u_3 H locs h_2 => ?_)
  clear hP hD hS
  intro hP hD hS
  obtain ⟨fX_4, rfl, h_2⟩ := h_2
  have hPD := pd_as [_, _, _, _, _, _, _, _, _, _, _, _, _, _, _, _, _, _, _, _, _, _, _, _, _, _, _, _, _, _, _, _, _, _, _, _, _, _, _, zzI cy qmr 8 fX_4] hP hD rfl
  clear hP hD
  obtain ⟨hP, hD⟩ := hPD
  rcases h_2 with ⟨rfl, h_5⟩ | ⟨rfl, h_5⟩ | ⟨rfl, h_5⟩ | ⟨rfl, h_5⟩
  · refine lv_istore_n (lv' := [(3, .int (-2)), (0, .ref qm), (1, .int iA), (2, .int iB)]) hx hb dX6_ones_5 rfl hl (by decide +kernel) rfl (fun ls => ?_)
    clear hl
    intro hl
    refine lv_iload_n hx hb dX6_ones_6 rfl (lv_at hl 0 rfl) ?_
    refine lv_if_eq (tgt := 12) hx hb dX6_ones_7 (by decide +kernel) (fun h9 => absurd h9 (by decide +kernel)) (fun _ => ?_)
    refine lv_iload_n hx hb dX6_ones_10 rfl (lv_at hl 0 rfl) ?_
    exact endWs [[false, false, false, false, false, false, false, false, false, false, false, false, false, false, false, false, false, false, false, false, false, false, false, false, false, false, false, false, false, false, false, false, false, false, false, false, false, true, true], [true, true, true, true, true, true, true, true, true, true, true, true, true, true, true, true, true, true, true, true, true, true, true, true, true, true, true, true, true, true, true, true, true, true, true, true, true, false, false, true]] hx hb hr hlocks rfl hP hD rfl (by decide +kernel) hS ⟨tA, fX_4, rfl, ⟨hWI, Or.inl ⟨rfl, Or.inl h_5, rfl⟩⟩, trivial⟩ dX6_ones_11
  · obtain ⟨k_7, hk_8, rfl, h_9⟩ := h_5
    refine lv_istore_n (lv' := [(3, .int (-3)), (0, .ref qm), (1, .int (nI k_7)), (2, .int iB)]) hx hb dX6_ones_5 rfl hl (by decide +kernel) rfl (fun ls => ?_)
    clear hl
    intro hl
    refine lv_iload_n hx hb dX6_ones_6 rfl (lv_at hl 0 rfl) ?_
    refine lv_if_eq (tgt := 12) hx hb dX6_ones_7 (by decide +kernel) (fun h9 => absurd h9 (by decide +kernel)) (fun _ => ?_)
    refine lv_iload_n hx hb dX6_ones_10 rfl (lv_at hl 0 rfl) ?_
    exact endWs [[false, false, false, false, false, false, false, false, false, false, false, false, false, false, false, false, false, false, false, false, false, false, false, false, false, false, false, false, false, false, false, false, false, false, false, false, false, true, true], [true, true, true, true, true, true, true, true, true, true, true, true, true, true, true, true, true, true, true, true, true, true, true, true, true, true, true, true, true, true, true, true, true, true, true, true, true, false, false, true]] hx hb hr hlocks rfl hP hD rfl (by decide +kernel) hS ⟨tA, fX_4, rfl, ⟨hWI, Or.inr (Or.inl ⟨rfl, ⟨k_7, hk_8, rfl, h_9⟩, rfl⟩)⟩, trivial⟩ dX6_ones_11
  · obtain ⟨k_11, hk_12, rfl, h_13, h_14⟩ := h_5
    refine lv_istore_n (lv' := [(3, .int (-4)), (0, .ref qm), (1, .int (nI k_11)), (2, .int iB)]) hx hb dX6_ones_5 rfl hl (by decide +kernel) rfl (fun ls => ?_)
    clear hl
    intro hl
    refine lv_iload_n hx hb dX6_ones_6 rfl (lv_at hl 0 rfl) ?_
    refine lv_if_eq (tgt := 12) hx hb dX6_ones_7 (by decide +kernel) (fun h9 => absurd h9 (by decide +kernel)) (fun _ => ?_)
    refine lv_iload_n hx hb dX6_ones_10 rfl (lv_at hl 0 rfl) ?_
    exact endWs [[false, false, false, false, false, false, false, false, false, false, false, false, false, false, false, false, false, false, false, false, false, false, false, false, false, false, false, false, false, false, false, false, false, false, false, false, false, true, true], [true, true, true, true, true, true, true, true, true, true, true, true, true, true, true, true, true, true, true, true, true, true, true, true, true, true, true, true, true, true, true, true, true, true, true, true, true, false, false, true]] hx hb hr hlocks rfl hP hD rfl (by decide +kernel) hS ⟨tA, fX_4, rfl, ⟨hWI, Or.inr (Or.inr (Or.inl ⟨rfl, ⟨k_11, hk_12, rfl, h_13, h_14⟩, rfl⟩))⟩, trivial⟩ dX6_ones_11
  · obtain ⟨k_16, hk_17, rfl, h_18, h_19⟩ := h_5
    refine lv_istore_n (lv' := [(3, .int 0), (0, .ref qm), (1, .int (nI k_16)), (2, .int iB)]) hx hb dX6_ones_5 rfl hl (by decide +kernel) rfl (fun ls => ?_)
    clear hl
    intro hl
    refine lv_iload_n hx hb dX6_ones_6 rfl (lv_at hl 0 rfl) ?_
    refine lv_if_eq (tgt := 12) hx hb dX6_ones_7 (by decide +kernel) (fun _ => ?_) (fun h9 => absurd (by decide +kernel) h9)
    refine lv_iload_n hx hb dX6_ones_12 rfl (lv_at hl 3 rfl) ?_
    refine lv_if_lt (tgt := 32) hx hb dX6_ones_13 (by decide +kernel) (fun c_21 => ?_) (fun c_21 => ?_)
    · refine lv_aload_n hx hb dX6_ones_32 rfl (lv_at hl 1 rfl) ?_
      refine lv_bipush (v := (-2)) hx hb dX6_ones_33 (by decide +kernel) ?_
      refine cVi (As := [.int (-2)]) (rest := []) (b := qm) (q := (RX6, TX6, 35)) ⟨hx, hb, hml, hown, hts⟩ (c_X6_refuse2 l G cy (H).size qm (.ref qmh) (.ref qmo) (.ref qmz) (.ref qmR) (.ref qmv) (.ref qmk) (.ref qma) (.ref qmt) (.int (nI kZ)) qmr tA qmB qmO qmK iEn iTk (ov uP) (ov uU) (.int (nI kAt)) (.int iTo) (.int iFr) (.long JFi) (.int iFa) (.ref qm3) (.int iSt) iLv iWs vLa (.ref qmu) (.ref qmy) (.ref qmb) (.ref qms) (.int iOm) fX_4) L_X6_91 hN hP hD hS hA [37, 39] [true, true, true, true, true, true, true, true, true, true, true, true, true, true, true, true, true, true, true, true, true, true, true, true, true, true, true, true, true, true, true, true, true, true, true, true, true, false, true, false] rfl (by decide +kernel) rfl 37 5 rfl rfl rfl ⟨Nat.le_of_ble_eq_true rfl, Nat.le_of_ble_eq_true rfl⟩ hl.1 (Nat.le_of_ble_eq_true rfl) dX6_ones_35 ⟨Nat.le_of_ble_eq_true rfl, Nat.le_of_ble_eq_true rfl⟩ (fun r_22 u_24 H locs h_23 => ?_)
      clear hP hD hS
      intro hP hD hS
      obtain ⟨fX_25, rfl, h_23⟩ := h_23
      have hPD := pd_as [_, _, _, _, _, _, _, _, _, _, _, _, _, _, _, _, _, _, _, _, _, _, _, _, _, _, _, _, _, _, _, _, _, _, _, _, _, _, _, zzI cy qmr 8 fX_25] hP hD rfl
      clear hP hD
      obtain ⟨hP, hD⟩ := hPD
      subst h_23
      exact endWs [[false, false, false, false, false, false, false, false, false, false, false, false, false, false, false, false, false, false, false, false, false, false, false, false, false, false, false, false, false, false, false, false, false, false, false, false, false, false, true], [false, false, false, false, false, false, false, false, false, false, false, false, false, false, false, false, false, false, false, false, false, false, false, false, false, false, false, false, false, false, false, false, false, false, false, false, false, true], [true, true, true, true, true, true, true, true, true, true, true, true, true, true, true, true, true, true, true, true, true, true, true, true, true, true, true, true, true, true, true, true, true, true, true, true, true, false, false, true]] hx hb hr hlocks rfl hP hD rfl (by decide +kernel) hS ⟨tA, fX_25, rfl, ⟨hWI, Or.inl ⟨rfl, Or.inr ⟨k_16, hk_17, rfl, h_18, h_19, Or.inl c_21⟩, rfl⟩⟩, trivial⟩ dX6_ones_38
    · refine lv_iload_n hx hb dX6_ones_16 rfl (lv_at hl 3 rfl) ?_
      refine lv_iconst (v := 4) hx hb dX6_ones_17 (by decide +kernel) ?_
      refine lv_irem hx hb dX6_ones_18 (by decide +kernel) ?_
      refine lv_if_ne (tgt := 32) hx hb dX6_ones_19 (by decide +kernel) (fun c_26 => ?_) (fun c_26 => ?_)
      · refine lv_aload_n hx hb dX6_ones_32 rfl (lv_at hl 1 rfl) ?_
        refine lv_bipush (v := (-2)) hx hb dX6_ones_33 (by decide +kernel) ?_
        refine cVi (As := [.int (-2)]) (rest := []) (b := qm) (q := (RX6, TX6, 35)) ⟨hx, hb, hml, hown, hts⟩ (c_X6_refuse2 l G cy (H).size qm (.ref qmh) (.ref qmo) (.ref qmz) (.ref qmR) (.ref qmv) (.ref qmk) (.ref qma) (.ref qmt) (.int (nI kZ)) qmr tA qmB qmO qmK iEn iTk (ov uP) (ov uU) (.int (nI kAt)) (.int iTo) (.int iFr) (.long JFi) (.int iFa) (.ref qm3) (.int iSt) iLv iWs vLa (.ref qmu) (.ref qmy) (.ref qmb) (.ref qms) (.int iOm) fX_4) L_X6_91 hN hP hD hS hA [37, 39] [true, true, true, true, true, true, true, true, true, true, true, true, true, true, true, true, true, true, true, true, true, true, true, true, true, true, true, true, true, true, true, true, true, true, true, true, true, false, true, false] rfl (by decide +kernel) rfl 37 5 rfl rfl rfl ⟨Nat.le_of_ble_eq_true rfl, Nat.le_of_ble_eq_true rfl⟩ hl.1 (Nat.le_of_ble_eq_true rfl) dX6_ones_35 ⟨Nat.le_of_ble_eq_true rfl, Nat.le_of_ble_eq_true rfl⟩ (fun r_27 u_29 H locs h_28 => ?_)
        clear hP hD hS
        intro hP hD hS
        obtain ⟨fX_30, rfl, h_28⟩ := h_28
        have hPD := pd_as [_, _, _, _, _, _, _, _, _, _, _, _, _, _, _, _, _, _, _, _, _, _, _, _, _, _, _, _, _, _, _, _, _, _, _, _, _, _, _, zzI cy qmr 8 fX_30] hP hD rfl
        clear hP hD
        obtain ⟨hP, hD⟩ := hPD
        subst h_28
        exact endWs [[false, false, false, false, false, false, false, false, false, false, false, false, false, false, false, false, false, false, false, false, false, false, false, false, false, false, false, false, false, false, false, false, false, false, false, false, false, false, true], [false, false, false, false, false, false, false, false, false, false, false, false, false, false, false, false, false, false, false, false, false, false, false, false, false, false, false, false, false, false, false, false, false, false, false, false, false, true], [true, true, true, true, true, true, true, true, true, true, true, true, true, true, true, true, true, true, true, true, true, true, true, true, true, true, true, true, true, true, true, true, true, true, true, true, true, false, false, true]] hx hb hr hlocks rfl hP hD rfl (by decide +kernel) hS ⟨tA, fX_30, rfl, ⟨hWI, Or.inl ⟨rfl, Or.inr ⟨k_16, hk_17, rfl, h_18, h_19, Or.inr (Or.inl c_26)⟩, rfl⟩⟩, trivial⟩ dX6_ones_38
      · refine lv_iload_n hx hb dX6_ones_22 rfl (lv_at hl 3 rfl) ?_
        refine lv_aload_n hx hb dX6_ones_23 rfl (lv_at hl 1 rfl) ?_
        refine va_get (D := G) (ci := 5) (v := .ref qmz) (C := RX6) (T := TX6) (N := 35) hx hb hts iX_X6 hown hK hP 37 rfl rfl 2 (by decide +kernel) (hts _ m_t852) (fun _ h9 => h9) rfl dX6_ones_24 ?_
        refine lv_iload_n hx hb dX6_ones_27 rfl (lv_at hl 2 rfl) ?_
        refine va_iald hx hb hK hP 0 0 rfl rfl (in8 (by omega)) dX6_ones_28 ?_
        refine lv_seti (v := fMz k_16) (congrArg fMz (cl8 (by omega))) ?_
        refine lv_icmp_le (tgt := 39) hx hb dX6_ones_29 (by decide +kernel) (fun c_31 => ?_) (fun c_31 => ?_)
        · obtain ⟨n_32, hn_33, en_34⟩ := hSz k_16 hk_17
          obtain ⟨k_35, hk_36, rfl⟩ := sz4m en_34 hn_33 c_21 c_26 c_31
          refine lv_iconst (v := 0) hx hb dX6_ones_39 (by decide +kernel) ?_
          refine lv_istore (lv' := [(4, .int 0), (3, .int 0), (0, .ref qm), (1, .int (nI k_16)), (2, .int (nI (4 * k_35)))]) hx hb dX6_ones_40 hl (by decide +kernel) rfl (fun ls => ?_)
          clear hl
          intro hl
          refine lv_iconst (v := 0) hx hb dX6_ones_42 (by decide +kernel) ?_
          refine lv_istore (lv' := [(5, .int 0), (4, .int 0), (3, .int 0), (0, .ref qm), (1, .int (nI k_16)), (2, .int (nI (4 * k_35)))]) hx hb dX6_ones_43 hl (by decide +kernel) rfl (fun ls => ?_)
          clear hl
          intro hl
          replace hl : lv_has ls 6 [(5, .int (nI (4 * 0))), (4, .int 0), (3, .int 0), (0, .ref qm), (1, .int (nI k_16)), (2, .int (nI (4 * k_35)))] := hl
          have lp_37 : ∀ (n_38 : Nat) (j_40 : Nat) (tJ_41 : TA) (xC_42 : Int32), 10 - j_40 < n_38 → j_40 ≤ k_35 → WI tJ_41 → onG (eR k_16) (k_35 - j_40) (4 * j_40) tJ_41 xC_42 = onG (eR k_16) k_35 0 tA 0 → ∀ (H : Heap) (locs : List Loc) (ls : Array Slot), va_P G CL [zzI cy qmz 8 fMz, zzG cy 4 qmR rR, zzJ cy (rR 0) 40 (eR 0), zzJ cy (rR 1) 40 (eR 1), zzJ cy (rR 2) 40 (eR 2), zzJ cy (rR 3) 40 (eR 3), zzJ cy (rR 4) 40 (eR 4), zzJ cy (rR 5) 40 (eR 5), zzJ cy (rR 6) 40 (eR 6), zzJ cy (rR 7) 40 (eR 7), zzG cy 3 qmB rB, zzI cy (rB 0) 4 (bkR tJ_41 0), zzI cy (rB 1) 4 (bkR tJ_41 1), zzI cy (rB 2) 4 (bkR tJ_41 2), zzI cy (rB 3) 4 (bkR tJ_41 3), zzI cy (rB 4) 4 (bkR tJ_41 4), zzI cy (rB 5) 4 (bkR tJ_41 5), zzI cy (rB 6) 4 (bkR tJ_41 6), zzI cy (rB 7) 4 (bkR tJ_41 7), zzG cy 3 qmO rO, zzI cy (rO 0) 5 (onR tJ_41 0), zzI cy (rO 1) 5 (onR tJ_41 1), zzI cy (rO 2) 5 (onR tJ_41 2), zzI cy (rO 3) 5 (onR tJ_41 3), zzI cy (rO 4) 5 (onR tJ_41 4), zzI cy (rO 5) 5 (onR tJ_41 5), zzI cy (rO 6) 5 (onR tJ_41 6), zzI cy (rO 7) 5 (onR tJ_41 7), zzG cy 3 qmK rK, zzI cy (rK 0) 8 (T_kn tJ_41 0), zzI cy (rK 1) 8 (T_kn tJ_41 1), zzI cy (rK 2) 8 (T_kn tJ_41 2), zzI cy (rK 3) 8 (T_kn tJ_41 3), zzI cy (rK 4) 8 (T_kn tJ_41 4), zzI cy (rK 5) 8 (T_kn tJ_41 5), zzI cy (rK 6) 8 (T_kn tJ_41 6), zzI cy (rK 7) 8 (T_kn tJ_41 7), zzO qm 5 [.ref qmh, .ref qmo, .ref qmz, .ref qmR, .ref qmv, .ref qmk, .ref qma, .ref qmt, .int (nI kZ), .ref qmr, .int (nI (T_nb tJ_41)), .ref qmB, .int (nI (T_np tJ_41)), .ref qmO, .ref qmK, .int iEn, .int iTk, .int (T_sd tJ_41), ov uP, ov uU, .int (nI kAt), .int iTo, .int iFr, .long JFi, .int iFa, .ref qm3, .int iSt, .int iLv, .int iWs, vLa, .ref qmu, .ref qmy, .ref qmb, .ref qms, .int iOm], zzI cy qmh 8 fMh, zzI cy qmr 8 fX_4] H → va_D A [zzI cy qmz 8 fMz, zzG cy 4 qmR rR, zzJ cy (rR 0) 40 (eR 0), zzJ cy (rR 1) 40 (eR 1), zzJ cy (rR 2) 40 (eR 2), zzJ cy (rR 3) 40 (eR 3), zzJ cy (rR 4) 40 (eR 4), zzJ cy (rR 5) 40 (eR 5), zzJ cy (rR 6) 40 (eR 6), zzJ cy (rR 7) 40 (eR 7), zzG cy 3 qmB rB, zzI cy (rB 0) 4 (bkR tJ_41 0), zzI cy (rB 1) 4 (bkR tJ_41 1), zzI cy (rB 2) 4 (bkR tJ_41 2), zzI cy (rB 3) 4 (bkR tJ_41 3), zzI cy (rB 4) 4 (bkR tJ_41 4), zzI cy (rB 5) 4 (bkR tJ_41 5), zzI cy (rB 6) 4 (bkR tJ_41 6), zzI cy (rB 7) 4 (bkR tJ_41 7), zzG cy 3 qmO rO, zzI cy (rO 0) 5 (onR tJ_41 0), zzI cy (rO 1) 5 (onR tJ_41 1), zzI cy (rO 2) 5 (onR tJ_41 2), zzI cy (rO 3) 5 (onR tJ_41 3), zzI cy (rO 4) 5 (onR tJ_41 4), zzI cy (rO 5) 5 (onR tJ_41 5), zzI cy (rO 6) 5 (onR tJ_41 6), zzI cy (rO 7) 5 (onR tJ_41 7), zzG cy 3 qmK rK, zzI cy (rK 0) 8 (T_kn tJ_41 0), zzI cy (rK 1) 8 (T_kn tJ_41 1), zzI cy (rK 2) 8 (T_kn tJ_41 2), zzI cy (rK 3) 8 (T_kn tJ_41 3), zzI cy (rK 4) 8 (T_kn tJ_41 4), zzI cy (rK 5) 8 (T_kn tJ_41 5), zzI cy (rK 6) 8 (T_kn tJ_41 6), zzI cy (rK 7) 8 (T_kn tJ_41 7), zzO qm 5 [.ref qmh, .ref qmo, .ref qmz, .ref qmR, .ref qmv, .ref qmk, .ref qma, .ref qmt, .int (nI kZ), .ref qmr, .int (nI (T_nb tJ_41)), .ref qmB, .int (nI (T_np tJ_41)), .ref qmO, .ref qmK, .int iEn, .int iTk, .int (T_sd tJ_41), ov uP, ov uU, .int (nI kAt), .int iTo, .int iFr, .long JFi, .int iFa, .ref qm3, .int iSt, .int iLv, .int iWs, vLa, .ref qmu, .ref qmy, .ref qmb, .ref qms, .int iOm], zzI cy qmh 8 fMh, zzI cy qmr 8 fX_4] → va_S A s.heap H locs → lv_has ls 6 [(5, .int (nI (4 * j_40))), (4, .int xC_42), (3, .int 0), (0, .ref qm), (1, .int (nI k_16)), (2, .int (nI (4 * k_35)))] → W p l e (Rm 16 0 0) s m (List.toArray (α := Value) [.ref qm, .int (nI k_16), .int (nI (4 * k_35))]) below meth c H locs 0 0 (MQ below ((Wi G (fun r u => ∃ (tN : TA) (fNr : Nat → Int32), u = [zzO qm 5 [.ref qmh, .ref qmo, .ref qmz, .ref qmR, .ref qmv, .ref qmk, .ref qma, .ref qmt, .int (nI kZ), .ref qmr, .int (nI (T_nb tN)), .ref qmB, .int (nI (T_np tN)), .ref qmO, .ref qmK, .int iEn, .int iTk, .int (T_sd tN), ov uP, ov uU, .int (nI kAt), .int iTo, .int iFr, .long JFi, .int iFa, .ref qm3, .int iSt, .int iLv, .int iWs, vLa, .ref qmu, .ref qmy, .ref qmb, .ref qms, .int iOm], zzI cy qmh 8 fMh, zzI cy qmz 8 fMz, zzG cy 4 qmR rR, zzJ cy (rR 0) 40 (eR 0), zzJ cy (rR 1) 40 (eR 1), zzJ cy (rR 2) 40 (eR 2), zzJ cy (rR 3) 40 (eR 3), zzJ cy (rR 4) 40 (eR 4), zzJ cy (rR 5) 40 (eR 5), zzJ cy (rR 6) 40 (eR 6), zzJ cy (rR 7) 40 (eR 7), zzG cy 3 qmB rB, zzI cy (rB 0) 4 (bkR tN 0), zzI cy (rB 1) 4 (bkR tN 1), zzI cy (rB 2) 4 (bkR tN 2), zzI cy (rB 3) 4 (bkR tN 3), zzI cy (rB 4) 4 (bkR tN 4), zzI cy (rB 5) 4 (bkR tN 5), zzI cy (rB 6) 4 (bkR tN 6), zzI cy (rB 7) 4 (bkR tN 7), zzG cy 3 qmO rO, zzI cy (rO 0) 5 (onR tN 0), zzI cy (rO 1) 5 (onR tN 1), zzI cy (rO 2) 5 (onR tN 2), zzI cy (rO 3) 5 (onR tN 3), zzI cy (rO 4) 5 (onR tN 4), zzI cy (rO 5) 5 (onR tN 5), zzI cy (rO 6) 5 (onR tN 6), zzI cy (rO 7) 5 (onR tN 7), zzG cy 3 qmK rK, zzI cy (rK 0) 8 (T_kn tN 0), zzI cy (rK 1) 8 (T_kn tN 1), zzI cy (rK 2) 8 (T_kn tN 2), zzI cy (rK 3) 8 (T_kn tN 3), zzI cy (rK 4) 8 (T_kn tN 4), zzI cy (rK 5) 8 (T_kn tN 5), zzI cy (rK 6) 8 (T_kn tN 6), zzI cy (rK 7) 8 (T_kn tN 7), zzI cy qmr 8 fNr] ∧ (WI tN ∧ PMones fMh fMz eR tA (nI k_16) (nI (4 * k_35)) r tN) ∧ (True))) A) (List.toArray (α := Value) [.ref qm, .int (nI k_16), .int (nI (4 * k_35))]) s 0 0 A) (F0 m 45 ls []) := by
            intro n_38
            induction n_38 with
            | zero => intro j_40 tJ_41 xC_42 hm9; exact absurd hm9 (Nat.not_lt_zero _)
            | succ n_38 ih_39 =>
              intro j_40 tJ_41 xC_42 hm_46 hj_43 hW_44 hT_45 H locs ls hP hD hS hl
              refine lv_iload hx hb dX6_ones_45 (lv_at hl 0 rfl) ?_
              refine lv_iload_n hx hb dX6_ones_47 rfl (lv_at hl 5 rfl) ?_
              refine lv_icmp_ge (tgt := 112) hx hb dX6_ones_48 (by decide +kernel) (fun c_47 => ?_) (fun c_47 => ?_)
              · have hlt_48 : j_40 = k_35 := by have := lp_ge rfl rfl (by omega) (by omega) c_47; omega
                have hlt_48r : onG (eR k_16) k_35 0 tA 0 = (tJ_41, xC_42) := by rw [← hT_45, hlt_48, Nat.sub_self]; rfl
                refine lv_iload hx hb dX6_ones_112 (lv_at hl 1 rfl) ?_
                exact endWs [[false, false, false, false, false, false, false, false, false, false, false, false, false, false, false, false, false, false, false, false, false, false, false, false, false, false, false, false, false, false, false, false, false, false, false, false, false, true, true], [true, true, true, true, true, true, true, true, true, true, true, true, true, true, true, true, true, true, true, true, true, true, true, true, true, true, true, true, true, true, true, true, true, true, true, true, true, false, false, true]] hx hb hr hlocks rfl hP hD rfl (by decide +kernel) hS ⟨tJ_41, fX_4, rfl, ⟨hW_44, Or.inr (Or.inr (Or.inr ⟨k_16, k_35, hk_17, rfl, h_18, h_19, rfl, by omega, c_31, hlt_48r.symm⟩))⟩, trivial⟩ dX6_ones_114
              · have hlt_49 : j_40 < k_35 := by have := lp_lt rfl rfl (by omega) (by omega) c_47; omega
                have hlt_49b := hW_44.1.1.1
                have hlt_49p := hW_44.1.1.2
                have hlt_49z := hW_44.2.1
                refine lv_aload_n hx hb dX6_ones_51 rfl (lv_at hl 3 rfl) ?_
                refine lv_aload_n hx hb dX6_ones_52 rfl (lv_at hl 3 rfl) ?_
                refine va_get (D := G) (ci := 5) (v := .ref qmR) (C := RX6) (T := TX6) (N := 35) hx hb hts iX_X6 hown hK hP 37 rfl rfl 3 (by decide +kernel) (hts _ m_t853) (fun _ h9 => h9) rfl dX6_ones_53 ?_
                refine lv_iload_n hx hb dX6_ones_56 rfl (lv_at hl 4 rfl) ?_
                refine va_alda hx hb hK hP 1 4 rfl rfl (in8 (by omega)) dX6_ones_57 ?_
                refine lv_setv (v := .ref (rR k_16)) (g_ref (by omega)) ?_
                refine lv_iload hx hb dX6_ones_58 (lv_at hl 0 rfl) ?_
                refine va_lald hx hb hK hP (2 + k_16) 1 (sg8 (n0 := 2) (f := (fun j => zzJ cy (rR j) 40 (eR j))) rfl rfl rfl rfl rfl rfl rfl rfl k_16 (by omega)) rfl (vp_in_nI (by omega) (by omega)) dX6_ones_60 ?_
                refine lv_setl (v := eR k_16 (4 * j_40)) (congrArg (eR k_16) (nI_clamp (by omega))) ?_
                refine lv_aload_n hx hb dX6_ones_61 rfl (lv_at hl 3 rfl) ?_
                refine va_get (D := G) (ci := 5) (v := .ref qmR) (C := RX6) (T := TX6) (N := 35) hx hb hts iX_X6 hown hK hP 37 rfl rfl 3 (by decide +kernel) (hts _ m_t853) (fun _ h9 => h9) rfl dX6_ones_62 ?_
                refine lv_iload_n hx hb dX6_ones_65 rfl (lv_at hl 4 rfl) ?_
                refine va_alda hx hb hK hP 1 4 rfl rfl (in8 (by omega)) dX6_ones_66 ?_
                refine lv_setv (v := .ref (rR k_16)) (g_ref (by omega)) ?_
                refine lv_iload hx hb dX6_ones_67 (lv_at hl 0 rfl) ?_
                refine lv_iconst (v := 1) hx hb dX6_ones_69 (by decide +kernel) ?_
                refine lv_iadd hx hb dX6_ones_70 ?_
                refine lv_seti (v := nI ((4 * j_40) + 1)) (nI_add _ _) ?_
                refine va_lald hx hb hK hP (2 + k_16) 1 (sg8 (n0 := 2) (f := (fun j => zzJ cy (rR j) 40 (eR j))) rfl rfl rfl rfl rfl rfl rfl rfl k_16 (by omega)) rfl (vp_in_nI (by omega) (by omega)) dX6_ones_71 ?_
                refine lv_setl (v := eR k_16 ((4 * j_40) + 1)) (congrArg (eR k_16) (nI_clamp (by omega))) ?_
                refine lv_aload_n hx hb dX6_ones_72 rfl (lv_at hl 3 rfl) ?_
                refine va_get (D := G) (ci := 5) (v := .ref qmR) (C := RX6) (T := TX6) (N := 35) hx hb hts iX_X6 hown hK hP 37 rfl rfl 3 (by decide +kernel) (hts _ m_t853) (fun _ h9 => h9) rfl dX6_ones_73 ?_
                refine lv_iload_n hx hb dX6_ones_76 rfl (lv_at hl 4 rfl) ?_
                refine va_alda hx hb hK hP 1 4 rfl rfl (in8 (by omega)) dX6_ones_77 ?_
                refine lv_setv (v := .ref (rR k_16)) (g_ref (by omega)) ?_
                refine lv_iload hx hb dX6_ones_78 (lv_at hl 0 rfl) ?_
                refine lv_iconst (v := 2) hx hb dX6_ones_80 (by decide +kernel) ?_
                refine lv_iadd hx hb dX6_ones_81 ?_
                refine lv_seti (v := nI ((4 * j_40) + 2)) (nI_add _ _) ?_
                refine va_lald hx hb hK hP (2 + k_16) 1 (sg8 (n0 := 2) (f := (fun j => zzJ cy (rR j) 40 (eR j))) rfl rfl rfl rfl rfl rfl rfl rfl k_16 (by omega)) rfl (vp_in_nI (by omega) (by omega)) dX6_ones_82 ?_
                refine lv_setl (v := eR k_16 ((4 * j_40) + 2)) (congrArg (eR k_16) (nI_clamp (by omega))) ?_
                refine lv_aload_n hx hb dX6_ones_83 rfl (lv_at hl 3 rfl) ?_
                refine va_get (D := G) (ci := 5) (v := .ref qmR) (C := RX6) (T := TX6) (N := 35) hx hb hts iX_X6 hown hK hP 37 rfl rfl 3 (by decide +kernel) (hts _ m_t853) (fun _ h9 => h9) rfl dX6_ones_84 ?_
                refine lv_iload_n hx hb dX6_ones_87 rfl (lv_at hl 4 rfl) ?_
                refine va_alda hx hb hK hP 1 4 rfl rfl (in8 (by omega)) dX6_ones_88 ?_
                refine lv_setv (v := .ref (rR k_16)) (g_ref (by omega)) ?_
                refine lv_iload hx hb dX6_ones_89 (lv_at hl 0 rfl) ?_
                refine lv_iconst (v := 3) hx hb dX6_ones_91 (by decide +kernel) ?_
                refine lv_iadd hx hb dX6_ones_92 ?_
                refine lv_seti (v := nI ((4 * j_40) + 3)) (nI_add _ _) ?_
                refine va_lald hx hb hK hP (2 + k_16) 1 (sg8 (n0 := 2) (f := (fun j => zzJ cy (rR j) 40 (eR j))) rfl rfl rfl rfl rfl rfl rfl rfl k_16 (by omega)) rfl (vp_in_nI (by omega) (by omega)) dX6_ones_93 ?_
                refine lv_setl (v := eR k_16 ((4 * j_40) + 3)) (congrArg (eR k_16) (nI_clamp (by omega))) ?_
                refine cVi (As := [.long (eR k_16 (4 * j_40)), .long (eR k_16 ((4 * j_40) + 1)), .long (eR k_16 ((4 * j_40) + 2)), .long (eR k_16 ((4 * j_40) + 3))]) (rest := []) (b := qm) (q := (RX6, TX6, 35)) ⟨hx, hb, hml, hown, hts⟩ (x_X6_add l G cy (H).size qm (.ref qmh) (.ref qmo) (.ref qmz) (.ref qmR) (.ref qmv) (.ref qmk) (.ref qma) (.ref qmt) (.int (nI kZ)) (.ref qmr) tJ_41 qmB qmO qmK iEn iTk (ov uP) (ov uU) (.int (nI kAt)) (.int iTo) (.int iFr) (.long JFi) (.int iFa) (.ref qm3) (.int iSt) iLv iWs vLa (.ref qmu) (.ref qmy) (.ref qmb) (.ref qms) (.int iOm) rB rO rK (eR k_16 (4 * j_40)) (eR k_16 ((4 * j_40) + 1)) (eR k_16 ((4 * j_40) + 2)) (eR k_16 ((4 * j_40) + 3)) (by omega) hlt_49z) L_X6_137 hN hP hD hS hA (trueIxs [[false, false, false, false, false, false, false, false, false, false, false, false, false, false, false, false, false, false, false, false, false, false, false, false, false, false, false, false, false, false, false, false, false, false, false, false, false, true], [false, false, false, false, false, false, false, false, false, false, true, true, true, true, true, true, true, true, true, true, true, true, true, true, true, true, true, true, true, true, true, true, true, true, true, true, true]]) [true, true, true, true, true, true, true, true, true, true, false, false, false, false, false, false, false, false, false, false, false, false, false, false, false, false, false, false, false, false, false, false, false, false, false, false, false, false, true, true] (sels_eq rfl rfl) (by decide +kernel) rfl 37 5 rfl rfl rfl ⟨Nat.le_of_ble_eq_true rfl, Nat.le_of_ble_eq_true rfl⟩ hl.1 (Nat.le_of_ble_eq_true rfl) dX6_ones_94 ⟨Nat.le_of_ble_eq_true rfl, Nat.le_of_ble_eq_true rfl⟩ (fun r_50 u_52 H locs h_51 => ?_)
                clear hP hD hS
                intro hP hD hS
                obtain ⟨tX_53, rfl, h_51⟩ := h_51
                have hPD := pd_as [_, _, _, _, _, _, _, _, _, _, _, _, zzO qm 5 [.ref qmh, .ref qmo, .ref qmz, .ref qmR, .ref qmv, .ref qmk, .ref qma, .ref qmt, .int (nI kZ), .ref qmr, .int (nI (T_nb tX_53)), .ref qmB, .int (nI (T_np tX_53)), .ref qmO, .ref qmK, .int iEn, .int iTk, .int (T_sd tX_53), ov uP, ov uU, .int (nI kAt), .int iTo, .int iFr, .long JFi, .int iFa, .ref qm3, .int iSt, .int iLv, .int iWs, vLa, .ref qmu, .ref qmy, .ref qmb, .ref qms, .int iOm], _, zzI cy (rB 0) 4 (bkR tX_53 0), zzI cy (rB 1) 4 (bkR tX_53 1), zzI cy (rB 2) 4 (bkR tX_53 2), zzI cy (rB 3) 4 (bkR tX_53 3), zzI cy (rB 4) 4 (bkR tX_53 4), zzI cy (rB 5) 4 (bkR tX_53 5), zzI cy (rB 6) 4 (bkR tX_53 6), zzI cy (rB 7) 4 (bkR tX_53 7), _, zzI cy (rO 0) 5 (onR tX_53 0), zzI cy (rO 1) 5 (onR tX_53 1), zzI cy (rO 2) 5 (onR tX_53 2), zzI cy (rO 3) 5 (onR tX_53 3), zzI cy (rO 4) 5 (onR tX_53 4), zzI cy (rO 5) 5 (onR tX_53 5), zzI cy (rO 6) 5 (onR tX_53 6), zzI cy (rO 7) 5 (onR tX_53 7), _, zzI cy (rK 0) 8 (T_kn tX_53 0), zzI cy (rK 1) 8 (T_kn tX_53 1), zzI cy (rK 2) 8 (T_kn tX_53 2), zzI cy (rK 3) 8 (T_kn tX_53 3), zzI cy (rK 4) 8 (T_kn tX_53 4), zzI cy (rK 5) 8 (T_kn tX_53 5), zzI cy (rK 6) 8 (T_kn tX_53 6), zzI cy (rK 7) 8 (T_kn tX_53 7)] hP hD rfl
                clear hP hD
                obtain ⟨hP, hD⟩ := hPD
                rcases h_51 with ⟨rfl, h_54⟩ | ⟨rfl, h_54⟩ | ⟨rfl, h_54⟩
                · refine lv_if_ge (tgt := 103) hx hb dX6_ones_97 (by decide +kernel) (fun h9 => absurd h9 (by decide +kernel)) (fun _ => ?_)
                  refine lv_iload hx hb dX6_ones_100 (lv_at hl 1 rfl) ?_
                  exact endW (u := [zzO qm 5 [.ref qmh, .ref qmo, .ref qmz, .ref qmR, .ref qmv, .ref qmk, .ref qma, .ref qmt, .int (nI kZ), .ref qmr, .int (nI (T_nb tX_53)), .ref qmB, .int (nI (T_np tX_53)), .ref qmO, .ref qmK, .int iEn, .int iTk, .int (T_sd tX_53), ov uP, ov uU, .int (nI kAt), .int iTo, .int iFr, .long JFi, .int iFa, .ref qm3, .int iSt, .int iLv, .int iWs, vLa, .ref qmu, .ref qmy, .ref qmb, .ref qms, .int iOm], zzI cy qmh 8 fMh, zzI cy qmz 8 fMz, zzG cy 4 qmR rR, zzJ cy (rR 0) 40 (eR 0), zzJ cy (rR 1) 40 (eR 1), zzJ cy (rR 2) 40 (eR 2), zzJ cy (rR 3) 40 (eR 3), zzJ cy (rR 4) 40 (eR 4), zzJ cy (rR 5) 40 (eR 5), zzJ cy (rR 6) 40 (eR 6), zzJ cy (rR 7) 40 (eR 7), zzG cy 3 qmB rB, zzI cy (rB 0) 4 (bkR tX_53 0), zzI cy (rB 1) 4 (bkR tX_53 1), zzI cy (rB 2) 4 (bkR tX_53 2), zzI cy (rB 3) 4 (bkR tX_53 3), zzI cy (rB 4) 4 (bkR tX_53 4), zzI cy (rB 5) 4 (bkR tX_53 5), zzI cy (rB 6) 4 (bkR tX_53 6), zzI cy (rB 7) 4 (bkR tX_53 7), zzG cy 3 qmO rO, zzI cy (rO 0) 5 (onR tX_53 0), zzI cy (rO 1) 5 (onR tX_53 1), zzI cy (rO 2) 5 (onR tX_53 2), zzI cy (rO 3) 5 (onR tX_53 3), zzI cy (rO 4) 5 (onR tX_53 4), zzI cy (rO 5) 5 (onR tX_53 5), zzI cy (rO 6) 5 (onR tX_53 6), zzI cy (rO 7) 5 (onR tX_53 7), zzG cy 3 qmK rK, zzI cy (rK 0) 8 (T_kn tX_53 0), zzI cy (rK 1) 8 (T_kn tX_53 1), zzI cy (rK 2) 8 (T_kn tX_53 2), zzI cy (rK 3) 8 (T_kn tX_53 3), zzI cy (rK 4) 8 (T_kn tX_53 4), zzI cy (rK 5) 8 (T_kn tX_53 5), zzI cy (rK 6) 8 (T_kn tX_53 6), zzI cy (rK 7) 8 (T_kn tX_53 7), zzI cy qmr 8 fX_4]) hx hb hr hlocks rfl (pSb hP [[false, false, false, false, false, false, false, false, false, false, false, false, true], [false, false, false, false, false, false, false, false, false, false, true], [true, true, true, true, true, true, true, true, true, true, false, false, false, true, true, true, true, true, true, true, true, true, true, true, true, true, true, true, true, true, true, true, true, true, true, true, true, true, true, true], [false, false, false, false, false, false, false, false, false, false, false, true]] rfl rfl) (dSb hD [[false, false, false, false, false, false, false, false, false, false, false, false, true], [false, false, false, false, false, false, false, false, false, false, true], [true, true, true, true, true, true, true, true, true, true, false, false, false, true, true, true, true, true, true, true, true, true, true, true, true, true, true, true, true, true, true, true, true, true, true, true, true, true, true, true], [false, false, false, false, false, false, false, false, false, false, false, true]] (by decide +kernel) rfl rfl) hS ⟨tX_53, fX_4, rfl, ⟨by rw [h_54.2]; exact hW_44, Or.inr (Or.inr (Or.inr ⟨k_16, k_35, hk_17, rfl, h_18, h_19, rfl, by omega, c_31, (by rw [← hT_45, on_2 (e := eR k_16) (i := 4 * j_40) h_54.1, h_54.2])⟩))⟩, trivial⟩ dX6_ones_102
                · refine lv_if_ge (tgt := 103) hx hb dX6_ones_97 (by decide +kernel) (fun h9 => absurd h9 (by decide +kernel)) (fun _ => ?_)
                  refine lv_iload hx hb dX6_ones_100 (lv_at hl 1 rfl) ?_
                  exact endW (u := [zzO qm 5 [.ref qmh, .ref qmo, .ref qmz, .ref qmR, .ref qmv, .ref qmk, .ref qma, .ref qmt, .int (nI kZ), .ref qmr, .int (nI (T_nb tX_53)), .ref qmB, .int (nI (T_np tX_53)), .ref qmO, .ref qmK, .int iEn, .int iTk, .int (T_sd tX_53), ov uP, ov uU, .int (nI kAt), .int iTo, .int iFr, .long JFi, .int iFa, .ref qm3, .int iSt, .int iLv, .int iWs, vLa, .ref qmu, .ref qmy, .ref qmb, .ref qms, .int iOm], zzI cy qmh 8 fMh, zzI cy qmz 8 fMz, zzG cy 4 qmR rR, zzJ cy (rR 0) 40 (eR 0), zzJ cy (rR 1) 40 (eR 1), zzJ cy (rR 2) 40 (eR 2), zzJ cy (rR 3) 40 (eR 3), zzJ cy (rR 4) 40 (eR 4), zzJ cy (rR 5) 40 (eR 5), zzJ cy (rR 6) 40 (eR 6), zzJ cy (rR 7) 40 (eR 7), zzG cy 3 qmB rB, zzI cy (rB 0) 4 (bkR tX_53 0), zzI cy (rB 1) 4 (bkR tX_53 1), zzI cy (rB 2) 4 (bkR tX_53 2), zzI cy (rB 3) 4 (bkR tX_53 3), zzI cy (rB 4) 4 (bkR tX_53 4), zzI cy (rB 5) 4 (bkR tX_53 5), zzI cy (rB 6) 4 (bkR tX_53 6), zzI cy (rB 7) 4 (bkR tX_53 7), zzG cy 3 qmO rO, zzI cy (rO 0) 5 (onR tX_53 0), zzI cy (rO 1) 5 (onR tX_53 1), zzI cy (rO 2) 5 (onR tX_53 2), zzI cy (rO 3) 5 (onR tX_53 3), zzI cy (rO 4) 5 (onR tX_53 4), zzI cy (rO 5) 5 (onR tX_53 5), zzI cy (rO 6) 5 (onR tX_53 6), zzI cy (rO 7) 5 (onR tX_53 7), zzG cy 3 qmK rK, zzI cy (rK 0) 8 (T_kn tX_53 0), zzI cy (rK 1) 8 (T_kn tX_53 1), zzI cy (rK 2) 8 (T_kn tX_53 2), zzI cy (rK 3) 8 (T_kn tX_53 3), zzI cy (rK 4) 8 (T_kn tX_53 4), zzI cy (rK 5) 8 (T_kn tX_53 5), zzI cy (rK 6) 8 (T_kn tX_53 6), zzI cy (rK 7) 8 (T_kn tX_53 7), zzI cy qmr 8 fX_4]) hx hb hr hlocks rfl (pSb hP [[false, false, false, false, false, false, false, false, false, false, false, false, true], [false, false, false, false, false, false, false, false, false, false, true], [true, true, true, true, true, true, true, true, true, true, false, false, false, true, true, true, true, true, true, true, true, true, true, true, true, true, true, true, true, true, true, true, true, true, true, true, true, true, true, true], [false, false, false, false, false, false, false, false, false, false, false, true]] rfl rfl) (dSb hD [[false, false, false, false, false, false, false, false, false, false, false, false, true], [false, false, false, false, false, false, false, false, false, false, true], [true, true, true, true, true, true, true, true, true, true, false, false, false, true, true, true, true, true, true, true, true, true, true, true, true, true, true, true, true, true, true, true, true, true, true, true, true, true, true, true], [false, false, false, false, false, false, false, false, false, false, false, true]] (by decide +kernel) rfl rfl) hS ⟨tX_53, fX_4, rfl, ⟨by rw [h_54.2.2]; exact hW_44, Or.inr (Or.inr (Or.inr ⟨k_16, k_35, hk_17, rfl, h_18, h_19, rfl, by omega, c_31, (by rw [← hT_45, on_1 h_54.2.1, h_54.2.2])⟩))⟩, trivial⟩ dX6_ones_102
                · refine lv_if_ge (tgt := 103) hx hb dX6_ones_97 (by decide +kernel) (fun c_57 => ?_) (fun c_57 => ?_)
                  · refine lv_iinc (v := xC_42 + 1) (lv' := [(4, .int (xC_42 + 1)), (5, .int (nI (4 * j_40))), (3, .int 0), (0, .ref qm), (1, .int (nI k_16)), (2, .int (nI (4 * k_35)))]) hx hb dX6_ones_103 hl (k := 1) rfl (rfl) (by decide +kernel) rfl (fun ls => ?_)
                    clear hl
                    intro hl
                    refine lv_iinc (v := (nI (4 * j_40)) + 4) (lv' := [(5, .int ((nI (4 * j_40)) + 4)), (4, .int (xC_42 + 1)), (3, .int 0), (0, .ref qm), (1, .int (nI k_16)), (2, .int (nI (4 * k_35)))]) hx hb dX6_ones_106 hl (k := 1) rfl (rfl) (by decide +kernel) rfl (fun ls => ?_)
                    clear hl
                    intro hl
                    rw [show (nI (4 * j_40)) + 4 = nI (4 * (j_40 + 1)) from (nI_add (4 * j_40) 4).trans (congrArg nI (by omega))] at hl
                    refine lv_goto (tgt := 45) hx hb dX6_ones_109 (by decide +kernel) ?_
                    exact ih_39 (j_40 + 1) tX_53 (xC_42 + 1) (by omega) (by omega) (by rw [h_54.2.2]; exact WI_zao hW_44 h_54.2.1 h_54.1) (by rw [← hT_45, show k_35 - j_40 = k_35 - (j_40 + 1) + 1 by omega, on_go (e := eR k_16) (i := 4 * j_40) h_54.2.1 h_54.1, h_54.2.2]; rfl) _ _ _ (pSb hP [[true, true, true, true, true, true, true, true, true, true, false, false, false, true, true, true, true, true, true, true, true, true, true, true, true, true, true, true, true, true, true, true, true, true, true, true, true, true, true, true], [false, false, false, false, false, false, false, false, false, false, false, false, true], [false, false, false, false, false, false, false, false, false, false, true, true]] rfl rfl) (dSb hD [[true, true, true, true, true, true, true, true, true, true, false, false, false, true, true, true, true, true, true, true, true, true, true, true, true, true, true, true, true, true, true, true, true, true, true, true, true, true, true, true], [false, false, false, false, false, false, false, false, false, false, false, false, true], [false, false, false, false, false, false, false, false, false, false, true, true]] (by decide +kernel) rfl rfl) hS (lv_sub hl [0, 1, 2, 3, 4, 5] rfl)
                  · exact absurd (Int32.not_lt.mp (nI_nn (by omega))) c_57
          exact lp_37 ((10 - 0) + 1) 0 tA 0 (Nat.lt_succ_self _) (Nat.zero_le _) hWI rfl _ _ ls hP hD hS (lv_sub hl [0, 1, 2, 3, 4, 5] rfl)
        · refine lv_aload_n hx hb dX6_ones_32 rfl (lv_at hl 1 rfl) ?_
          refine lv_bipush (v := (-2)) hx hb dX6_ones_33 (by decide +kernel) ?_
          refine cVi (As := [.int (-2)]) (rest := []) (b := qm) (q := (RX6, TX6, 35)) ⟨hx, hb, hml, hown, hts⟩ (c_X6_refuse2 l G cy (H).size qm (.ref qmh) (.ref qmo) (.ref qmz) (.ref qmR) (.ref qmv) (.ref qmk) (.ref qma) (.ref qmt) (.int (nI kZ)) qmr tA qmB qmO qmK iEn iTk (ov uP) (ov uU) (.int (nI kAt)) (.int iTo) (.int iFr) (.long JFi) (.int iFa) (.ref qm3) (.int iSt) iLv iWs vLa (.ref qmu) (.ref qmy) (.ref qmb) (.ref qms) (.int iOm) fX_4) L_X6_91 hN hP hD hS hA [37, 39] [true, true, true, true, true, true, true, true, true, true, true, true, true, true, true, true, true, true, true, true, true, true, true, true, true, true, true, true, true, true, true, true, true, true, true, true, true, false, true, false] rfl (by decide +kernel) rfl 37 5 rfl rfl rfl ⟨Nat.le_of_ble_eq_true rfl, Nat.le_of_ble_eq_true rfl⟩ hl.1 (Nat.le_of_ble_eq_true rfl) dX6_ones_35 ⟨Nat.le_of_ble_eq_true rfl, Nat.le_of_ble_eq_true rfl⟩ (fun r_58 u_60 H locs h_59 => ?_)
          clear hP hD hS
          intro hP hD hS
          obtain ⟨fX_61, rfl, h_59⟩ := h_59
          have hPD := pd_as [_, _, _, _, _, _, _, _, _, _, _, _, _, _, _, _, _, _, _, _, _, _, _, _, _, _, _, _, _, _, _, _, _, _, _, _, _, _, _, zzI cy qmr 8 fX_61] hP hD rfl
          clear hP hD
          obtain ⟨hP, hD⟩ := hPD
          subst h_59
          exact endWs [[false, false, false, false, false, false, false, false, false, false, false, false, false, false, false, false, false, false, false, false, false, false, false, false, false, false, false, false, false, false, false, false, false, false, false, false, false, false, true], [false, false, false, false, false, false, false, false, false, false, false, false, false, false, false, false, false, false, false, false, false, false, false, false, false, false, false, false, false, false, false, false, false, false, false, false, false, true], [true, true, true, true, true, true, true, true, true, true, true, true, true, true, true, true, true, true, true, true, true, true, true, true, true, true, true, true, true, true, true, true, true, true, true, true, true, false, false, true]] hx hb hr hlocks rfl hP hD rfl (by decide +kernel) hS ⟨tA, fX_61, rfl, ⟨hWI, Or.inl ⟨rfl, Or.inr ⟨k_16, hk_17, rfl, h_18, h_19, Or.inr (Or.inr c_31)⟩, rfl⟩⟩, trivial⟩ dX6_ones_38
set_option maxHeartbeats 4000000 in
set_option maxRecDepth 100000 in
theorem x_X6_seed (l : Launch) (G : va_G) (cy : Nat → ClassId) (sz : Nat) (qm : Nat) (qmh : Nat) (qmo : Nat) (qmz : Nat) (qmR : Nat) (qmv : Nat) (qmk : Nat) (qma : Nat) (qmt : Nat) (kZ : Nat) (qmr : Nat) (tA : TA) (qmB : Nat) (qmO : Nat) (qmK : Nat) (iEn : Int32) (iTk : Int32) (uP : UM) (uU : UM) (kAt : Nat) (iTo : Int32) (iFr : Int32) (JFi : Int64) (iFa : Int32) (qm3 : Nat) (iSt : Int32) (iLv : Int32) (iWs : Int32) (vLa : Value) (qmu : Nat) (qmy : Nat) (qmb : Nat) (qms : Nat) (iOm : Int32) (rB : Nat → Nat) (rO : Nat → Nat) (rK : Nat → Nat) (iA : Int32)  (hB : T_nb tA ≤ 8) (hPp : T_np tA ≤ 8) (hTI : TI tA) (hWI : WI tA) : MW l yX6_seed cX6_seed 3 (some .int) 16 0 0 G cy [zzO qm 5 [.ref qmh, .ref qmo, .ref qmz, .ref qmR, .ref qmv, .ref qmk, .ref qma, .ref qmt, .int (nI kZ), .ref qmr, .int (nI (T_nb tA)), .ref qmB, .int (nI (T_np tA)), .ref qmO, .ref qmK, .int iEn, .int iTk, .int (T_sd tA), ov uP, ov uU, .int (nI kAt), .int iTo, .int iFr, .long JFi, .int iFa, .ref qm3, .int iSt, .int iLv, .int iWs, vLa, .ref qmu, .ref qmy, .ref qmb, .ref qms, .int iOm], zzG cy 3 qmB rB, zzI cy (rB 0) 4 (bkR tA 0), zzI cy (rB 1) 4 (bkR tA 1), zzI cy (rB 2) 4 (bkR tA 2), zzI cy (rB 3) 4 (bkR tA 3), zzI cy (rB 4) 4 (bkR tA 4), zzI cy (rB 5) 4 (bkR tA 5), zzI cy (rB 6) 4 (bkR tA 6), zzI cy (rB 7) 4 (bkR tA 7), zzG cy 3 qmO rO, zzI cy (rO 0) 5 (onR tA 0), zzI cy (rO 1) 5 (onR tA 1), zzI cy (rO 2) 5 (onR tA 2), zzI cy (rO 3) 5 (onR tA 3), zzI cy (rO 4) 5 (onR tA 4), zzI cy (rO 5) 5 (onR tA 5), zzI cy (rO 6) 5 (onR tA 6), zzI cy (rO 7) 5 (onR tA 7), zzG cy 3 qmK rK, zzI cy (rK 0) 8 (T_kn tA 0), zzI cy (rK 1) 8 (T_kn tA 1), zzI cy (rK 2) 8 (T_kn tA 2), zzI cy (rK 3) 8 (T_kn tA 3), zzI cy (rK 4) 8 (T_kn tA 4), zzI cy (rK 5) 8 (T_kn tA 5), zzI cy (rK 6) 8 (T_kn tA 6), zzI cy (rK 7) 8 (T_kn tA 7)] sz [.ref qm, .int iA] (Wi G (fun r u => ∃ (tN : TA), u = [zzO qm 5 [.ref qmh, .ref qmo, .ref qmz, .ref qmR, .ref qmv, .ref qmk, .ref qma, .ref qmt, .int (nI kZ), .ref qmr, .int (nI (T_nb tN)), .ref qmB, .int (nI (T_np tN)), .ref qmO, .ref qmK, .int iEn, .int iTk, .int (T_sd tN), ov uP, ov uU, .int (nI kAt), .int iTo, .int iFr, .long JFi, .int iFa, .ref qm3, .int iSt, .int iLv, .int iWs, vLa, .ref qmu, .ref qmy, .ref qmb, .ref qms, .int iOm], zzG cy 3 qmB rB, zzI cy (rB 0) 4 (bkR tN 0), zzI cy (rB 1) 4 (bkR tN 1), zzI cy (rB 2) 4 (bkR tN 2), zzI cy (rB 3) 4 (bkR tN 3), zzI cy (rB 4) 4 (bkR tN 4), zzI cy (rB 5) 4 (bkR tN 5), zzI cy (rB 6) 4 (bkR tN 6), zzI cy (rB 7) 4 (bkR tN 7), zzG cy 3 qmO rO, zzI cy (rO 0) 5 (onR tN 0), zzI cy (rO 1) 5 (onR tN 1), zzI cy (rO 2) 5 (onR tN 2), zzI cy (rO 3) 5 (onR tN 3), zzI cy (rO 4) 5 (onR tN 4), zzI cy (rO 5) 5 (onR tN 5), zzI cy (rO 6) 5 (onR tN 6), zzI cy (rO 7) 5 (onR tN 7), zzG cy 3 qmK rK, zzI cy (rK 0) 8 (T_kn tN 0), zzI cy (rK 1) 8 (T_kn tN 1), zzI cy (rK 2) 8 (T_kn tN 2), zzI cy (rK 3) 8 (T_kn tN 3), zzI cy (rK 4) 8 (T_kn tN 4), zzI cy (rK 5) 8 (T_kn tN 5), zzI cy (rK 6) 8 (T_kn tN 6), zzI cy (rK 7) 8 (T_kn tN 7)] ∧ (WI tN ∧ tN = T_setsd tA iA ∧ r = T_sd tA) ∧ (True))) := by
  refine enW RX6 (by decide +kernel) rfl (Nat.le_of_ble_eq_true rfl) (fun p e s m below meth c ls A hx hb hml hown hts hr hlocks hP hN hl hin hD hA hS => ?_)
  have hin : meth.name = _ := hin
  have hK := hN.1
  replace hl : lv_has ls 3 [(0, .ref qm), (1, .int iA)] := hl
  refine lv_aload_n hx hb dX6_seed_0 rfl (lv_at hl 0 rfl) ?_
  refine va_get (D := G) (ci := 5) (v := .int (T_sd tA)) (C := RX6) (T := TX6) (N := 35) hx hb hts iX_X6 hown hK hP 0 rfl rfl 17 (by decide +kernel) (hts _ m_t867) (fun _ h9 => h9) rfl dX6_seed_1 ?_
  refine lv_istore_n (lv' := [(2, .int (T_sd tA)), (0, .ref qm), (1, .int iA)]) hx hb dX6_seed_4 rfl hl (by decide +kernel) rfl (fun ls => ?_)
  clear hl
  intro hl
  refine lv_aload_n hx hb dX6_seed_5 rfl (lv_at hl 1 rfl) ?_
  refine lv_iload_n hx hb dX6_seed_6 rfl (lv_at hl 2 rfl) ?_
  refine va_put (D := G) (ci := 5) (v := .int iA) (ty := .int) (C := RX6) (T := TX6) (N := 35) hx hb hts iX_X6 tyX6 tyX6_ok nmX6 hown hK hP hD hS 0 rfl rfl 17 (by decide +kernel) (hts _ m_t867) (fun _ h9 => h9) rfl (by decide +kernel) rfl rfl (Nat.le_of_ble_eq_true rfl) dX6_seed_7 (fun H locs => ?_)
  clear hP hD hS
  intro hP hD hS
  have hPD := pd_as [zzO qm 5 [.ref qmh, .ref qmo, .ref qmz, .ref qmR, .ref qmv, .ref qmk, .ref qma, .ref qmt, .int (nI kZ), .ref qmr, .int (nI (T_nb tA)), .ref qmB, .int (nI (T_np tA)), .ref qmO, .ref qmK, .int iEn, .int iTk, .int iA, ov uP, ov uU, .int (nI kAt), .int iTo, .int iFr, .long JFi, .int iFa, .ref qm3, .int iSt, .int iLv, .int iWs, vLa, .ref qmu, .ref qmy, .ref qmb, .ref qms, .int iOm], _, _, _, _, _, _, _, _, _, _, _, _, _, _, _, _, _, _, _, _, _, _, _, _, _, _, _] hP hD rfl
  clear hP hD
  obtain ⟨hP, hD⟩ := hPD
  have hPD := pd_as [zzO qm 5 [.ref qmh, .ref qmo, .ref qmz, .ref qmR, .ref qmv, .ref qmk, .ref qma, .ref qmt, .int (nI kZ), .ref qmr, .int (nI (T_nb (T_setsd tA iA))), .ref qmB, .int (nI (T_np (T_setsd tA iA))), .ref qmO, .ref qmK, .int iEn, .int iTk, .int (T_sd (T_setsd tA iA)), ov uP, ov uU, .int (nI kAt), .int iTo, .int iFr, .long JFi, .int iFa, .ref qm3, .int iSt, .int iLv, .int iWs, vLa, .ref qmu, .ref qmy, .ref qmb, .ref qms, .int iOm], _, zzI cy (rB 0) 4 (bkR (T_setsd tA iA) 0), zzI cy (rB 1) 4 (bkR (T_setsd tA iA) 1), zzI cy (rB 2) 4 (bkR (T_setsd tA iA) 2), zzI cy (rB 3) 4 (bkR (T_setsd tA iA) 3), zzI cy (rB 4) 4 (bkR (T_setsd tA iA) 4), zzI cy (rB 5) 4 (bkR (T_setsd tA iA) 5), zzI cy (rB 6) 4 (bkR (T_setsd tA iA) 6), zzI cy (rB 7) 4 (bkR (T_setsd tA iA) 7), _, zzI cy (rO 0) 5 (onR (T_setsd tA iA) 0), zzI cy (rO 1) 5 (onR (T_setsd tA iA) 1), zzI cy (rO 2) 5 (onR (T_setsd tA iA) 2), zzI cy (rO 3) 5 (onR (T_setsd tA iA) 3), zzI cy (rO 4) 5 (onR (T_setsd tA iA) 4), zzI cy (rO 5) 5 (onR (T_setsd tA iA) 5), zzI cy (rO 6) 5 (onR (T_setsd tA iA) 6), zzI cy (rO 7) 5 (onR (T_setsd tA iA) 7), _, zzI cy (rK 0) 8 (T_kn (T_setsd tA iA) 0), zzI cy (rK 1) 8 (T_kn (T_setsd tA iA) 1), zzI cy (rK 2) 8 (T_kn (T_setsd tA iA) 2), zzI cy (rK 3) 8 (T_kn (T_setsd tA iA) 3), zzI cy (rK 4) 8 (T_kn (T_setsd tA iA) 4), zzI cy (rK 5) 8 (T_kn (T_setsd tA iA) 5), zzI cy (rK 6) 8 (T_kn (T_setsd tA iA) 6), zzI cy (rK 7) 8 (T_kn (T_setsd tA iA) 7)] hP hD rfl
  clear hP hD
  obtain ⟨hP, hD⟩ := hPD
  refine lv_iload_n hx hb dX6_seed_10 rfl (lv_at hl 0 rfl) ?_
  exact endWs [[true, true, true, true, true, true, true, true, true, true, true, true, true, true, true, true, true, true, true, true, true, true, true, true, true, true, true, true]] hx hb hr hlocks rfl hP hD rfl (by decide +kernel) hS ⟨(T_setsd tA iA), rfl, ⟨WI_sd hWI, rfl, rfl⟩, trivial⟩ dX6_seed_11
set_option maxHeartbeats 4000000 in
set_option maxRecDepth 100000 in
theorem x_X6_ends (l : Launch) (G : va_G) (cy : Nat → ClassId) (sz : Nat) (qm : Nat) (qmh : Nat) (qmo : Nat) (qmz : Nat) (qmR : Nat) (qmv : Nat) (qmk : Nat) (qma : Nat) (qmt : Nat) (kZ : Nat) (qmr : Nat) (tA : TA) (qmB : Nat) (qmO : Nat) (qmK : Nat) (iEn : Int32) (iTk : Int32) (uP : UM) (uU : UM) (kAt : Nat) (iTo : Int32) (iFr : Int32) (JFi : Int64) (iFa : Int32) (qm3 : Nat) (iSt : Int32) (iLv : Int32) (iWs : Int32) (vLa : Value) (qmu : Nat) (qmy : Nat) (qmb : Nat) (qms : Nat) (iOm : Int32) (rB : Nat → Nat) (rO : Nat → Nat) (rK : Nat → Nat)  (hB : T_nb tA ≤ 8) (hPp : T_np tA ≤ 8) (hTI : TI tA) (hWI : WI tA) : MW l yX6_ends cX6_ends 1 (some .int) 16 0 0 G cy [zzO qm 5 [.ref qmh, .ref qmo, .ref qmz, .ref qmR, .ref qmv, .ref qmk, .ref qma, .ref qmt, .int (nI kZ), .ref qmr, .int (nI (T_nb tA)), .ref qmB, .int (nI (T_np tA)), .ref qmO, .ref qmK, .int iEn, .int iTk, .int (T_sd tA), ov uP, ov uU, .int (nI kAt), .int iTo, .int iFr, .long JFi, .int iFa, .ref qm3, .int iSt, .int iLv, .int iWs, vLa, .ref qmu, .ref qmy, .ref qmb, .ref qms, .int iOm], zzG cy 3 qmB rB, zzI cy (rB 0) 4 (bkR tA 0), zzI cy (rB 1) 4 (bkR tA 1), zzI cy (rB 2) 4 (bkR tA 2), zzI cy (rB 3) 4 (bkR tA 3), zzI cy (rB 4) 4 (bkR tA 4), zzI cy (rB 5) 4 (bkR tA 5), zzI cy (rB 6) 4 (bkR tA 6), zzI cy (rB 7) 4 (bkR tA 7), zzG cy 3 qmO rO, zzI cy (rO 0) 5 (onR tA 0), zzI cy (rO 1) 5 (onR tA 1), zzI cy (rO 2) 5 (onR tA 2), zzI cy (rO 3) 5 (onR tA 3), zzI cy (rO 4) 5 (onR tA 4), zzI cy (rO 5) 5 (onR tA 5), zzI cy (rO 6) 5 (onR tA 6), zzI cy (rO 7) 5 (onR tA 7), zzG cy 3 qmK rK, zzI cy (rK 0) 8 (T_kn tA 0), zzI cy (rK 1) 8 (T_kn tA 1), zzI cy (rK 2) 8 (T_kn tA 2), zzI cy (rK 3) 8 (T_kn tA 3), zzI cy (rK 4) 8 (T_kn tA 4), zzI cy (rK 5) 8 (T_kn tA 5), zzI cy (rK 6) 8 (T_kn tA 6), zzI cy (rK 7) 8 (T_kn tA 7)] sz [.ref qm] (Wi G (fun r u => ∃ (iNe : Int32) (tN : TA), u = [zzO qm 5 [.ref qmh, .ref qmo, .ref qmz, .ref qmR, .ref qmv, .ref qmk, .ref qma, .ref qmt, .int (nI kZ), .ref qmr, .int (nI (T_nb tN)), .ref qmB, .int (nI (T_np tN)), .ref qmO, .ref qmK, .int iNe, .int iTk, .int (T_sd tN), ov uP, ov uU, .int (nI kAt), .int iTo, .int iFr, .long JFi, .int iFa, .ref qm3, .int iSt, .int iLv, .int iWs, vLa, .ref qmu, .ref qmy, .ref qmb, .ref qms, .int iOm], zzG cy 3 qmB rB, zzI cy (rB 0) 4 (bkR tN 0), zzI cy (rB 1) 4 (bkR tN 1), zzI cy (rB 2) 4 (bkR tN 2), zzI cy (rB 3) 4 (bkR tN 3), zzI cy (rB 4) 4 (bkR tN 4), zzI cy (rB 5) 4 (bkR tN 5), zzI cy (rB 6) 4 (bkR tN 6), zzI cy (rB 7) 4 (bkR tN 7), zzG cy 3 qmO rO, zzI cy (rO 0) 5 (onR tN 0), zzI cy (rO 1) 5 (onR tN 1), zzI cy (rO 2) 5 (onR tN 2), zzI cy (rO 3) 5 (onR tN 3), zzI cy (rO 4) 5 (onR tN 4), zzI cy (rO 5) 5 (onR tN 5), zzI cy (rO 6) 5 (onR tN 6), zzI cy (rO 7) 5 (onR tN 7), zzG cy 3 qmK rK, zzI cy (rK 0) 8 (T_kn tN 0), zzI cy (rK 1) 8 (T_kn tN 1), zzI cy (rK 2) 8 (T_kn tN 2), zzI cy (rK 3) 8 (T_kn tN 3), zzI cy (rK 4) 8 (T_kn tN 4), zzI cy (rK 5) 8 (T_kn tN 5), zzI cy (rK 6) 8 (T_kn tN 6), zzI cy (rK 7) 8 (T_kn tN 7)] ∧ (WI tN ∧ tN = zey tA) ∧ (True))) := by
  refine enW RX6 (by decide +kernel) rfl (Nat.le_of_ble_eq_true rfl) (fun p e s m below meth c ls A hx hb hml hown hts hr hlocks hP hN hl hin hD hA hS => ?_)
  have hin : meth.name = _ := hin
  have hK := hN.1
  replace hl : lv_has ls 1 [(0, .ref qm)] := hl
  refine lv_aload_n hx hb dX6_ends_0 rfl (lv_at hl 0 rfl) ?_
  refine cVi (As := []) (rest := []) (b := qm) (q := (RX6, TX6, 35)) ⟨hx, hb, hml, hown, hts⟩ (x_X6_end l G cy (s.heap).size qm (.ref qmh) (.ref qmo) (.ref qmz) (.ref qmR) (.ref qmv) (.ref qmk) (.ref qma) (.ref qmt) (.int (nI kZ)) (.ref qmr) tA qmB qmO qmK iEn iTk (ov uP) (ov uU) (.int (nI kAt)) (.int iTo) (.int iFr) (.long JFi) (.int iFa) (.ref qm3) (.int iSt) iLv iWs vLa (.ref qmu) (.ref qmy) (.ref qmb) (.ref qms) (.int iOm) rB rO rK hB hPp hTI hWI.2.2) L_X6_288 hN hP hD hS hA (trueIx 0 [true, true, true, true, true, true, true, true, true, true, true, true, true, true, true, true, true, true, true, true, true, true, true, true, true, true, true, true]) [false, false, false, false, false, false, false, false, false, false, false, false, false, false, false, false, false, false, false, false, false, false, false, false, false, false, false, false] (sel_eq rfl rfl) (by decide +kernel) rfl 0 5 rfl rfl rfl ⟨Nat.le_of_ble_eq_true rfl, Nat.le_of_ble_eq_true rfl⟩ hl.1 (Nat.le_of_ble_eq_true rfl) dX6_ends_1 ⟨Nat.le_of_ble_eq_true rfl, Nat.le_of_ble_eq_true rfl⟩ (fun r_1 u_3 H locs h_2 => ?_)
  clear hP hD hS
  intro hP hD hS
  obtain ⟨tX_4, iX_5, rfl, h_6, h_7, h_2⟩ := h_2
  have hPD := pd_as [zzO qm 5 [.ref qmh, .ref qmo, .ref qmz, .ref qmR, .ref qmv, .ref qmk, .ref qma, .ref qmt, .int (nI kZ), .ref qmr, .int (nI (T_nb tX_4)), .ref qmB, .int (nI (T_np tX_4)), .ref qmO, .ref qmK, .int iX_5, .int iTk, .int (T_sd tX_4), ov uP, ov uU, .int (nI kAt), .int iTo, .int iFr, .long JFi, .int iFa, .ref qm3, .int iSt, .int iLv, .int iWs, vLa, .ref qmu, .ref qmy, .ref qmb, .ref qms, .int iOm], _, zzI cy (rB 0) 4 (bkR tX_4 0), zzI cy (rB 1) 4 (bkR tX_4 1), zzI cy (rB 2) 4 (bkR tX_4 2), zzI cy (rB 3) 4 (bkR tX_4 3), zzI cy (rB 4) 4 (bkR tX_4 4), zzI cy (rB 5) 4 (bkR tX_4 5), zzI cy (rB 6) 4 (bkR tX_4 6), zzI cy (rB 7) 4 (bkR tX_4 7), _, zzI cy (rO 0) 5 (onR tX_4 0), zzI cy (rO 1) 5 (onR tX_4 1), zzI cy (rO 2) 5 (onR tX_4 2), zzI cy (rO 3) 5 (onR tX_4 3), zzI cy (rO 4) 5 (onR tX_4 4), zzI cy (rO 5) 5 (onR tX_4 5), zzI cy (rO 6) 5 (onR tX_4 6), zzI cy (rO 7) 5 (onR tX_4 7), _, zzI cy (rK 0) 8 (T_kn tX_4 0), zzI cy (rK 1) 8 (T_kn tX_4 1), zzI cy (rK 2) 8 (T_kn tX_4 2), zzI cy (rK 3) 8 (T_kn tX_4 3), zzI cy (rK 4) 8 (T_kn tX_4 4), zzI cy (rK 5) 8 (T_kn tX_4 5), zzI cy (rK 6) 8 (T_kn tX_4 6), zzI cy (rK 7) 8 (T_kn tX_4 7)] hP hD rfl
  clear hP hD
  obtain ⟨hP, hD⟩ := hPD
  exact endW (u := [zzO qm 5 [.ref qmh, .ref qmo, .ref qmz, .ref qmR, .ref qmv, .ref qmk, .ref qma, .ref qmt, .int (nI kZ), .ref qmr, .int (nI (T_nb tX_4)), .ref qmB, .int (nI (T_np tX_4)), .ref qmO, .ref qmK, .int iX_5, .int iTk, .int (T_sd tX_4), ov uP, ov uU, .int (nI kAt), .int iTo, .int iFr, .long JFi, .int iFa, .ref qm3, .int iSt, .int iLv, .int iWs, vLa, .ref qmu, .ref qmy, .ref qmb, .ref qms, .int iOm], zzG cy 3 qmB rB, zzI cy (rB 0) 4 (bkR tX_4 0), zzI cy (rB 1) 4 (bkR tX_4 1), zzI cy (rB 2) 4 (bkR tX_4 2), zzI cy (rB 3) 4 (bkR tX_4 3), zzI cy (rB 4) 4 (bkR tX_4 4), zzI cy (rB 5) 4 (bkR tX_4 5), zzI cy (rB 6) 4 (bkR tX_4 6), zzI cy (rB 7) 4 (bkR tX_4 7), zzG cy 3 qmO rO, zzI cy (rO 0) 5 (onR tX_4 0), zzI cy (rO 1) 5 (onR tX_4 1), zzI cy (rO 2) 5 (onR tX_4 2), zzI cy (rO 3) 5 (onR tX_4 3), zzI cy (rO 4) 5 (onR tX_4 4), zzI cy (rO 5) 5 (onR tX_4 5), zzI cy (rO 6) 5 (onR tX_4 6), zzI cy (rO 7) 5 (onR tX_4 7), zzG cy 3 qmK rK, zzI cy (rK 0) 8 (T_kn tX_4 0), zzI cy (rK 1) 8 (T_kn tX_4 1), zzI cy (rK 2) 8 (T_kn tX_4 2), zzI cy (rK 3) 8 (T_kn tX_4 3), zzI cy (rK 4) 8 (T_kn tX_4 4), zzI cy (rK 5) 8 (T_kn tX_4 5), zzI cy (rK 6) 8 (T_kn tX_4 6), zzI cy (rK 7) 8 (T_kn tX_4 7)]) hx hb hr hlocks rfl (pSb hP [[true, true, true, true, true, true, true, true, true, true, true, true, true, true, true, true, true, true, true, true, true, true, true, true, true, true, true, true]] rfl rfl) (dSb hD [[true, true, true, true, true, true, true, true, true, true, true, true, true, true, true, true, true, true, true, true, true, true, true, true, true, true, true, true]] (by decide +kernel) rfl rfl) hS ⟨iX_5, tX_4, rfl, ⟨by rw [h_7]; exact WI_ey hWI, h_7⟩, trivial⟩ dX6_ends_4
set_option maxHeartbeats 4000000 in
set_option maxRecDepth 100000 in
theorem x_X6_years (l : Launch) (G : va_G) (cy : Nat → ClassId) (sz : Nat) (qm : Nat) (qmh : Nat) (qmo : Nat) (qmz : Nat) (qmR : Nat) (qmv : Nat) (qmk : Nat) (qma : Nat) (qmt : Nat) (kZ : Nat) (qmr : Nat) (tA : TA) (qmB : Nat) (qmO : Nat) (qmK : Nat) (iEn : Int32) (iTk : Int32) (uP : UM) (uU : UM) (kAt : Nat) (iTo : Int32) (iFr : Int32) (JFi : Int64) (iFa : Int32) (qm3 : Nat) (iSt : Int32) (iLv : Int32) (iWs : Int32) (vLa : Value) (qmu : Nat) (qmy : Nat) (qmb : Nat) (qms : Nat) (iOm : Int32) (fMh : Nat → Int32) (fMk : Nat → Int32) (fMa : Nat → Int32) (fMr : Nat → Int32) (rB : Nat → Nat) (rO : Nat → Nat) (rK : Nat → Nat) (iA : Int32) (iB : Int32)  (hMk : ∀ s, s < 8 → ¬ fMh s = 1 → ¬ fMh s = 0 → Iv (fMk s).toInt64 1 6) (hB : T_nb tA ≤ 8) (hPp : T_np tA ≤ 8) (hTI : TI tA) (hMa : ∀ s, s < 8 → ∃ n : Nat, n ≤ 99 ∧ fMa s = nI n) (hWI : WI tA) : MW l yX6_years cX6_years 7 (some .int) 16 0 0 G cy [zzO qm 5 [.ref qmh, .ref qmo, .ref qmz, .ref qmR, .ref qmv, .ref qmk, .ref qma, .ref qmt, .int (nI kZ), .ref qmr, .int (nI (T_nb tA)), .ref qmB, .int (nI (T_np tA)), .ref qmO, .ref qmK, .int iEn, .int iTk, .int (T_sd tA), ov uP, ov uU, .int (nI kAt), .int iTo, .int iFr, .long JFi, .int iFa, .ref qm3, .int iSt, .int iLv, .int iWs, vLa, .ref qmu, .ref qmy, .ref qmb, .ref qms, .int iOm], zzI cy qmh 8 fMh, zzI cy qmk 8 fMk, zzI cy qma 8 fMa, zzI cy qmr 8 fMr, zzG cy 3 qmB rB, zzI cy (rB 0) 4 (bkR tA 0), zzI cy (rB 1) 4 (bkR tA 1), zzI cy (rB 2) 4 (bkR tA 2), zzI cy (rB 3) 4 (bkR tA 3), zzI cy (rB 4) 4 (bkR tA 4), zzI cy (rB 5) 4 (bkR tA 5), zzI cy (rB 6) 4 (bkR tA 6), zzI cy (rB 7) 4 (bkR tA 7), zzG cy 3 qmO rO, zzI cy (rO 0) 5 (onR tA 0), zzI cy (rO 1) 5 (onR tA 1), zzI cy (rO 2) 5 (onR tA 2), zzI cy (rO 3) 5 (onR tA 3), zzI cy (rO 4) 5 (onR tA 4), zzI cy (rO 5) 5 (onR tA 5), zzI cy (rO 6) 5 (onR tA 6), zzI cy (rO 7) 5 (onR tA 7), zzG cy 3 qmK rK, zzI cy (rK 0) 8 (T_kn tA 0), zzI cy (rK 1) 8 (T_kn tA 1), zzI cy (rK 2) 8 (T_kn tA 2), zzI cy (rK 3) 8 (T_kn tA 3), zzI cy (rK 4) 8 (T_kn tA 4), zzI cy (rK 5) 8 (T_kn tA 5), zzI cy (rK 6) 8 (T_kn tA 6), zzI cy (rK 7) 8 (T_kn tA 7)] sz [.ref qm, .int iA, .int iB] (Wi G (fun r u => ∃ (iNe : Int32) (iNt : Int32) (fNr : Nat → Int32) (tN : TA), u = [zzO qm 5 [.ref qmh, .ref qmo, .ref qmz, .ref qmR, .ref qmv, .ref qmk, .ref qma, .ref qmt, .int (nI kZ), .ref qmr, .int (nI (T_nb tN)), .ref qmB, .int (nI (T_np tN)), .ref qmO, .ref qmK, .int iNe, .int iNt, .int (T_sd tN), ov uP, ov uU, .int (nI kAt), .int iTo, .int iFr, .long JFi, .int iFa, .ref qm3, .int iSt, .int iLv, .int iWs, vLa, .ref qmu, .ref qmy, .ref qmb, .ref qms, .int iOm], zzI cy qmh 8 fMh, zzI cy qmk 8 fMk, zzI cy qma 8 fMa, zzI cy qmr 8 fNr, zzG cy 3 qmB rB, zzI cy (rB 0) 4 (bkR tN 0), zzI cy (rB 1) 4 (bkR tN 1), zzI cy (rB 2) 4 (bkR tN 2), zzI cy (rB 3) 4 (bkR tN 3), zzI cy (rB 4) 4 (bkR tN 4), zzI cy (rB 5) 4 (bkR tN 5), zzI cy (rB 6) 4 (bkR tN 6), zzI cy (rB 7) 4 (bkR tN 7), zzG cy 3 qmO rO, zzI cy (rO 0) 5 (onR tN 0), zzI cy (rO 1) 5 (onR tN 1), zzI cy (rO 2) 5 (onR tN 2), zzI cy (rO 3) 5 (onR tN 3), zzI cy (rO 4) 5 (onR tN 4), zzI cy (rO 5) 5 (onR tN 5), zzI cy (rO 6) 5 (onR tN 6), zzI cy (rO 7) 5 (onR tN 7), zzG cy 3 qmK rK, zzI cy (rK 0) 8 (T_kn tN 0), zzI cy (rK 1) 8 (T_kn tN 1), zzI cy (rK 2) 8 (T_kn tN 2), zzI cy (rK 3) 8 (T_kn tN 3), zzI cy (rK 4) 8 (T_kn tN 4), zzI cy (rK 5) 8 (T_kn tN 5), zzI cy (rK 6) 8 (T_kn tN 6), zzI cy (rK 7) 8 (T_kn tN 7)] ∧ (WI tN ∧ PMyears fMh fMk fMa tA iA iB r tN) ∧ (True))) := by
  refine enW RX6 (by decide +kernel) rfl (Nat.le_of_ble_eq_true rfl) (fun p e s m below meth c ls A hx hb hml hown hts hr hlocks hP hN hl hin hD hA hS => ?_)
  have hin : meth.name = _ := hin
  have hK := hN.1
  replace hl : lv_has ls 7 [(0, .ref qm), (1, .int iA), (2, .int iB)] := hl
  refine lv_iload_n hx hb dX6_years_0 rfl (lv_at hl 1 rfl) ?_
  refine lv_i2l (v := iA.toInt64) hx hb dX6_years_1 rfl ?_
  refine lv_lconst (v := 0) hx hb dX6_years_2 (by decide +kernel) ?_
  refine lv_ldc2 hx hb hown (hts _ m_t960) dX6_years_3 ?_
  refine kRi (rS (As := [.long iA.toInt64, .long 0, .long 7]) (rest := []) ⟨hx, hb, hml, hown, hts⟩ (c_X6_in l G cy iA.toInt64 0 7) L_X6_74 (preRS hN hP [] rfl) rfl ⟨Nat.le_of_ble_eq_true rfl, Nat.le_of_ble_eq_true rfl⟩ hl.1 (Nat.le_of_ble_eq_true rfl) dX6_years_6 ⟨Nat.le_of_ble_eq_true rfl, Nat.le_of_ble_eq_true rfl⟩) (fun r_1 h_2 => ?_)
  rcases h_2 with ⟨rfl, h_3⟩ | ⟨rfl, h_3⟩
  · obtain ⟨k_4, hk_5, hk_6, rfl⟩ := iv_nI 0 7 (by decide +kernel) (by decide +kernel) h_3
    refine lv_if_eq (tgt := 24) hx hb dX6_years_9 (by decide +kernel) (fun h9 => absurd h9 (by decide +kernel)) (fun _ => ?_)
    refine lv_iload_n hx hb dX6_years_12 rfl (lv_at hl 2 rfl) ?_
    refine lv_i2l (v := iB.toInt64) hx hb dX6_years_13 rfl ?_
    refine lv_lconst (v := 1) hx hb dX6_years_14 (by decide +kernel) ?_
    refine lv_ldc2 hx hb hown (hts _ m_t1355) dX6_years_15 ?_
    refine kRi (rS (As := [.long iB.toInt64, .long 1, .long 20]) (rest := []) ⟨hx, hb, hml, hown, hts⟩ (c_X6_in l G cy iB.toInt64 1 20) L_X6_74 (preRS hN hP [] rfl) rfl ⟨Nat.le_of_ble_eq_true rfl, Nat.le_of_ble_eq_true rfl⟩ hl.1 (Nat.le_of_ble_eq_true rfl) dX6_years_18 ⟨Nat.le_of_ble_eq_true rfl, Nat.le_of_ble_eq_true rfl⟩) (fun r_8 h_9 => ?_)
    rcases h_9 with ⟨rfl, h_10⟩ | ⟨rfl, h_10⟩
    · obtain ⟨k_11, hk_12, hk_13, rfl⟩ := iv_nI 1 20 (by decide +kernel) (by decide +kernel) h_10
      refine lv_if_ne (tgt := 31) hx hb dX6_years_21 (by decide +kernel) (fun _ => ?_) (fun h9 => absurd h9 (by decide +kernel))
      refine lv_aload_n hx hb dX6_years_31 rfl (lv_at hl 0 rfl) ?_
      refine lv_iload_n hx hb dX6_years_32 rfl (lv_at hl 1 rfl) ?_
      refine cVi (As := [.int (nI k_4)]) (rest := []) (b := qm) (q := (RX6, TX6, 35)) ⟨hx, hb, hml, hown, hts⟩ (c_X6_noRule l G cy (s.heap).size qm qmh (.ref qmo) (.ref qmz) (.ref qmR) (.ref qmv) (.ref qmk) (.ref qma) (.ref qmt) (.int (nI kZ)) qmr tA qmB qmO qmK iEn iTk (ov uP) (ov uU) (.int (nI kAt)) (.int iTo) (.int iFr) (.long JFi) (.int iFa) (.ref qm3) (.int iSt) iLv iWs vLa (.ref qmu) (.ref qmy) (.ref qmb) (.ref qms) (.int iOm) fMh fMr (nI k_4)) L_X6_302 hN hP hD hS hA (trueIx 0 [true, true, false, false, true]) [false, false, true, true, false, true, true, true, true, true, true, true, true, true, true, true, true, true, true, true, true, true, true, true, true, true, true, true, true, true, true, true] (sel_eq rfl rfl) (by decide +kernel) rfl 0 5 rfl rfl rfl ⟨Nat.le_of_ble_eq_true rfl, Nat.le_of_ble_eq_true rfl⟩ hl.1 (Nat.le_of_ble_eq_true rfl) dX6_years_33 ⟨Nat.le_of_ble_eq_true rfl, Nat.le_of_ble_eq_true rfl⟩ (fun r_15 u_17 H locs h_16 => ?_)
      clear hP hD hS
      intro hP hD hS
      obtain ⟨fX_18, rfl, h_16⟩ := h_16
      have hPD := pd_as [_, _, _, _, _, _, _, _, _, _, _, _, _, _, _, _, _, _, _, _, _, _, _, _, _, _, _, _, _, _, _, zzI cy qmr 8 fX_18] hP hD rfl
      clear hP hD
      obtain ⟨hP, hD⟩ := hPD
      rcases h_16 with ⟨rfl, h_19⟩ | ⟨rfl, h_19⟩ | ⟨rfl, h_19⟩ | ⟨rfl, h_19⟩
      · refine lv_istore_n (lv' := [(3, .int (-2)), (0, .ref qm), (1, .int (nI k_4)), (2, .int (nI k_11))]) hx hb dX6_years_36 rfl hl (by decide +kernel) rfl (fun ls => ?_)
        clear hl
        intro hl
        refine lv_iload_n hx hb dX6_years_37 rfl (lv_at hl 0 rfl) ?_
        refine lv_if_eq (tgt := 43) hx hb dX6_years_38 (by decide +kernel) (fun h9 => absurd h9 (by decide +kernel)) (fun _ => ?_)
        refine lv_iload_n hx hb dX6_years_41 rfl (lv_at hl 0 rfl) ?_
        exact endWs [[false, false, false, false, false, false, false, false, false, false, false, false, false, false, false, false, false, false, false, false, false, false, false, false, false, false, false, false, false, true, true], [true, true, false, false, false, false, false, false, false, false, false, false, false, false, false, false, false, false, false, false, false, false, false, false, false, false, false, false, false, false, false, true], [false, false, true, true, true, true, true, true, true, true, true, true, true, true, true, true, true, true, true, true, true, true, true, true, true, true, true, true, true]] hx hb hr hlocks rfl hP hD rfl (by decide +kernel) hS ⟨iEn, iTk, fX_18, tA, rfl, (h_19 ⟨k_4, by omega, rfl⟩).elim, trivial⟩ dX6_years_42
      · refine lv_istore_n (lv' := [(3, .int (-3)), (0, .ref qm), (1, .int (nI k_4)), (2, .int (nI k_11))]) hx hb dX6_years_36 rfl hl (by decide +kernel) rfl (fun ls => ?_)
        clear hl
        intro hl
        refine lv_iload_n hx hb dX6_years_37 rfl (lv_at hl 0 rfl) ?_
        refine lv_if_eq (tgt := 43) hx hb dX6_years_38 (by decide +kernel) (fun h9 => absurd h9 (by decide +kernel)) (fun _ => ?_)
        refine lv_iload_n hx hb dX6_years_41 rfl (lv_at hl 0 rfl) ?_
        exact endWs [[false, false, false, false, false, false, false, false, false, false, false, false, false, false, false, false, false, false, false, false, false, false, false, false, false, false, false, false, false, true, true], [true, true, false, false, false, false, false, false, false, false, false, false, false, false, false, false, false, false, false, false, false, false, false, false, false, false, false, false, false, false, false, true], [false, false, true, true, true, true, true, true, true, true, true, true, true, true, true, true, true, true, true, true, true, true, true, true, true, true, true, true, true]] hx hb hr hlocks rfl hP hD rfl (by decide +kernel) hS ⟨iEn, iTk, fX_18, tA, rfl, ⟨hWI, Or.inr (Or.inl ⟨rfl, h_10, h_19, rfl⟩)⟩, trivial⟩ dX6_years_42
      · refine lv_istore_n (lv' := [(3, .int (-4)), (0, .ref qm), (1, .int (nI k_4)), (2, .int (nI k_11))]) hx hb dX6_years_36 rfl hl (by decide +kernel) rfl (fun ls => ?_)
        clear hl
        intro hl
        refine lv_iload_n hx hb dX6_years_37 rfl (lv_at hl 0 rfl) ?_
        refine lv_if_eq (tgt := 43) hx hb dX6_years_38 (by decide +kernel) (fun h9 => absurd h9 (by decide +kernel)) (fun _ => ?_)
        refine lv_iload_n hx hb dX6_years_41 rfl (lv_at hl 0 rfl) ?_
        exact endWs [[false, false, false, false, false, false, false, false, false, false, false, false, false, false, false, false, false, false, false, false, false, false, false, false, false, false, false, false, false, true, true], [true, true, false, false, false, false, false, false, false, false, false, false, false, false, false, false, false, false, false, false, false, false, false, false, false, false, false, false, false, false, false, true], [false, false, true, true, true, true, true, true, true, true, true, true, true, true, true, true, true, true, true, true, true, true, true, true, true, true, true, true, true]] hx hb hr hlocks rfl hP hD rfl (by decide +kernel) hS ⟨iEn, iTk, fX_18, tA, rfl, ⟨hWI, Or.inr (Or.inr (Or.inl ⟨rfl, h_10, h_19, rfl⟩))⟩, trivial⟩ dX6_years_42
      · refine lv_istore_n (lv' := [(3, .int 0), (0, .ref qm), (1, .int (nI k_4)), (2, .int (nI k_11))]) hx hb dX6_years_36 rfl hl (by decide +kernel) rfl (fun ls => ?_)
        clear hl
        intro hl
        refine lv_iload_n hx hb dX6_years_37 rfl (lv_at hl 0 rfl) ?_
        refine lv_if_eq (tgt := 43) hx hb dX6_years_38 (by decide +kernel) (fun _ => ?_) (fun h9 => absurd (by decide +kernel) h9)
        refine lv_iconst (v := 0) hx hb dX6_years_43 (by decide +kernel) ?_
        refine lv_istore (lv' := [(4, .int 0), (3, .int 0), (0, .ref qm), (1, .int (nI k_4)), (2, .int (nI k_11))]) hx hb dX6_years_44 hl (by decide +kernel) rfl (fun ls => ?_)
        clear hl
        intro hl
        refine lv_iconst (v := 0) hx hb dX6_years_46 (by decide +kernel) ?_
        refine lv_istore (lv' := [(5, .int 0), (4, .int 0), (3, .int 0), (0, .ref qm), (1, .int (nI k_4)), (2, .int (nI k_11))]) hx hb dX6_years_47 hl (by decide +kernel) rfl (fun ls => ?_)
        clear hl
        intro hl
        have lp_24 : ∀ (n_25 : Nat) (j_27 : Nat) (tJ_28 : TA) (xS_29 : Int32) (xE_30 : Int32), 20 - j_27 < n_25 → j_27 ≤ k_11 → TI tJ_28 ∧ T_nb tJ_28 = T_nb tA ∧ T_np tJ_28 = T_np tA → WI tJ_28 → yrG (fMk k_4) (fMa k_4) (k_11 - j_27) tJ_28 xS_29 = yrG (fMk k_4) (fMa k_4) k_11 tA 0 → ∀ (H : Heap) (locs : List Loc) (ls : Array Slot), va_P G CL [zzI cy qmk 8 fMk, zzI cy qma 8 fMa, zzG cy 3 qmB rB, zzI cy (rB 0) 4 (bkR tJ_28 0), zzI cy (rB 1) 4 (bkR tJ_28 1), zzI cy (rB 2) 4 (bkR tJ_28 2), zzI cy (rB 3) 4 (bkR tJ_28 3), zzI cy (rB 4) 4 (bkR tJ_28 4), zzI cy (rB 5) 4 (bkR tJ_28 5), zzI cy (rB 6) 4 (bkR tJ_28 6), zzI cy (rB 7) 4 (bkR tJ_28 7), zzG cy 3 qmO rO, zzI cy (rO 0) 5 (onR tJ_28 0), zzI cy (rO 1) 5 (onR tJ_28 1), zzI cy (rO 2) 5 (onR tJ_28 2), zzI cy (rO 3) 5 (onR tJ_28 3), zzI cy (rO 4) 5 (onR tJ_28 4), zzI cy (rO 5) 5 (onR tJ_28 5), zzI cy (rO 6) 5 (onR tJ_28 6), zzI cy (rO 7) 5 (onR tJ_28 7), zzG cy 3 qmK rK, zzI cy (rK 0) 8 (T_kn tJ_28 0), zzI cy (rK 1) 8 (T_kn tJ_28 1), zzI cy (rK 2) 8 (T_kn tJ_28 2), zzI cy (rK 3) 8 (T_kn tJ_28 3), zzI cy (rK 4) 8 (T_kn tJ_28 4), zzI cy (rK 5) 8 (T_kn tJ_28 5), zzI cy (rK 6) 8 (T_kn tJ_28 6), zzI cy (rK 7) 8 (T_kn tJ_28 7), zzO qm 5 [.ref qmh, .ref qmo, .ref qmz, .ref qmR, .ref qmv, .ref qmk, .ref qma, .ref qmt, .int (nI kZ), .ref qmr, .int (nI (T_nb tJ_28)), .ref qmB, .int (nI (T_np tJ_28)), .ref qmO, .ref qmK, .int xE_30, .int iTk, .int (T_sd tJ_28), ov uP, ov uU, .int (nI kAt), .int iTo, .int iFr, .long JFi, .int iFa, .ref qm3, .int iSt, .int iLv, .int iWs, vLa, .ref qmu, .ref qmy, .ref qmb, .ref qms, .int iOm], zzI cy qmh 8 fMh, zzI cy qmr 8 fX_18] H → va_D A [zzI cy qmk 8 fMk, zzI cy qma 8 fMa, zzG cy 3 qmB rB, zzI cy (rB 0) 4 (bkR tJ_28 0), zzI cy (rB 1) 4 (bkR tJ_28 1), zzI cy (rB 2) 4 (bkR tJ_28 2), zzI cy (rB 3) 4 (bkR tJ_28 3), zzI cy (rB 4) 4 (bkR tJ_28 4), zzI cy (rB 5) 4 (bkR tJ_28 5), zzI cy (rB 6) 4 (bkR tJ_28 6), zzI cy (rB 7) 4 (bkR tJ_28 7), zzG cy 3 qmO rO, zzI cy (rO 0) 5 (onR tJ_28 0), zzI cy (rO 1) 5 (onR tJ_28 1), zzI cy (rO 2) 5 (onR tJ_28 2), zzI cy (rO 3) 5 (onR tJ_28 3), zzI cy (rO 4) 5 (onR tJ_28 4), zzI cy (rO 5) 5 (onR tJ_28 5), zzI cy (rO 6) 5 (onR tJ_28 6), zzI cy (rO 7) 5 (onR tJ_28 7), zzG cy 3 qmK rK, zzI cy (rK 0) 8 (T_kn tJ_28 0), zzI cy (rK 1) 8 (T_kn tJ_28 1), zzI cy (rK 2) 8 (T_kn tJ_28 2), zzI cy (rK 3) 8 (T_kn tJ_28 3), zzI cy (rK 4) 8 (T_kn tJ_28 4), zzI cy (rK 5) 8 (T_kn tJ_28 5), zzI cy (rK 6) 8 (T_kn tJ_28 6), zzI cy (rK 7) 8 (T_kn tJ_28 7), zzO qm 5 [.ref qmh, .ref qmo, .ref qmz, .ref qmR, .ref qmv, .ref qmk, .ref qma, .ref qmt, .int (nI kZ), .ref qmr, .int (nI (T_nb tJ_28)), .ref qmB, .int (nI (T_np tJ_28)), .ref qmO, .ref qmK, .int xE_30, .int iTk, .int (T_sd tJ_28), ov uP, ov uU, .int (nI kAt), .int iTo, .int iFr, .long JFi, .int iFa, .ref qm3, .int iSt, .int iLv, .int iWs, vLa, .ref qmu, .ref qmy, .ref qmb, .ref qms, .int iOm], zzI cy qmh 8 fMh, zzI cy qmr 8 fX_18] → va_S A s.heap H locs → lv_has ls 7 [(5, .int (nI j_27)), (4, .int xS_29), (3, .int 0), (0, .ref qm), (1, .int (nI k_4)), (2, .int (nI k_11))] → W p l e (Rm 16 0 0) s m (List.toArray (α := Value) [.ref qm, .int (nI k_4), .int (nI k_11)]) below meth c H locs 0 0 (MQ below ((Wi G (fun r u => ∃ (iNe : Int32) (iNt : Int32) (fNr : Nat → Int32) (tN : TA), u = [zzO qm 5 [.ref qmh, .ref qmo, .ref qmz, .ref qmR, .ref qmv, .ref qmk, .ref qma, .ref qmt, .int (nI kZ), .ref qmr, .int (nI (T_nb tN)), .ref qmB, .int (nI (T_np tN)), .ref qmO, .ref qmK, .int iNe, .int iNt, .int (T_sd tN), ov uP, ov uU, .int (nI kAt), .int iTo, .int iFr, .long JFi, .int iFa, .ref qm3, .int iSt, .int iLv, .int iWs, vLa, .ref qmu, .ref qmy, .ref qmb, .ref qms, .int iOm], zzI cy qmh 8 fMh, zzI cy qmk 8 fMk, zzI cy qma 8 fMa, zzI cy qmr 8 fNr, zzG cy 3 qmB rB, zzI cy (rB 0) 4 (bkR tN 0), zzI cy (rB 1) 4 (bkR tN 1), zzI cy (rB 2) 4 (bkR tN 2), zzI cy (rB 3) 4 (bkR tN 3), zzI cy (rB 4) 4 (bkR tN 4), zzI cy (rB 5) 4 (bkR tN 5), zzI cy (rB 6) 4 (bkR tN 6), zzI cy (rB 7) 4 (bkR tN 7), zzG cy 3 qmO rO, zzI cy (rO 0) 5 (onR tN 0), zzI cy (rO 1) 5 (onR tN 1), zzI cy (rO 2) 5 (onR tN 2), zzI cy (rO 3) 5 (onR tN 3), zzI cy (rO 4) 5 (onR tN 4), zzI cy (rO 5) 5 (onR tN 5), zzI cy (rO 6) 5 (onR tN 6), zzI cy (rO 7) 5 (onR tN 7), zzG cy 3 qmK rK, zzI cy (rK 0) 8 (T_kn tN 0), zzI cy (rK 1) 8 (T_kn tN 1), zzI cy (rK 2) 8 (T_kn tN 2), zzI cy (rK 3) 8 (T_kn tN 3), zzI cy (rK 4) 8 (T_kn tN 4), zzI cy (rK 5) 8 (T_kn tN 5), zzI cy (rK 6) 8 (T_kn tN 6), zzI cy (rK 7) 8 (T_kn tN 7)] ∧ (WI tN ∧ PMyears fMh fMk fMa tA (nI k_4) (nI k_11) r tN) ∧ (True))) A) (List.toArray (α := Value) [.ref qm, .int (nI k_4), .int (nI k_11)]) s 0 0 A) (F0 m 49 ls []) := by
          intro n_25
          induction n_25 with
          | zero => intro j_27 tJ_28 xS_29 xE_30 hm9; exact absurd hm9 (Nat.not_lt_zero _)
          | succ n_25 ih_26 =>
            intro j_27 tJ_28 xS_29 xE_30 hm_35 hj_31 hT_32 hW_33 hY_34 H locs ls hP hD hS hl
            refine lv_iload hx hb dX6_years_49 (lv_at hl 0 rfl) ?_
            refine lv_iload_n hx hb dX6_years_51 rfl (lv_at hl 5 rfl) ?_
            refine lv_icmp_ge (tgt := 147) hx hb dX6_years_52 (by decide +kernel) (fun c_36 => ?_) (fun c_36 => ?_)
            · have hz_38 : j_27 = k_11 := Nat.le_antisymm (by omega) (lp_ge rfl rfl (by omega) (by omega) c_36)
              have hz_38r : yrG (fMk k_4) (fMa k_4) k_11 tA 0 = (tJ_28, xS_29) := by rw [← hY_34, hz_38, Nat.sub_self]; rfl
              refine lv_aload_n hx hb dX6_years_147 rfl (lv_at hl 3 rfl) ?_
              refine lv_dup hx hb dX6_years_148 rfl ?_
              refine va_get (D := G) (ci := 5) (v := .int iTk) (C := RX6) (T := TX6) (N := 35) hx hb hts iX_X6 hown hK hP 29 rfl rfl 16 (by decide +kernel) (hts _ m_t866) (fun _ h9 => h9) rfl dX6_years_149 ?_
              refine lv_iload hx hb dX6_years_152 (lv_at hl 1 rfl) ?_
              refine lv_iadd hx hb dX6_years_154 ?_
              refine va_put (D := G) (ci := 5) (v := .int (iTk + xS_29)) (ty := .int) (C := RX6) (T := TX6) (N := 35) hx hb hts iX_X6 tyX6 tyX6_ok nmX6 hown hK hP hD hS 29 rfl rfl 16 (by decide +kernel) (hts _ m_t866) (fun _ h9 => h9) rfl (by decide +kernel) rfl rfl (Nat.le_of_ble_eq_true rfl) dX6_years_155 (fun H locs => ?_)
              clear hP hD hS
              intro hP hD hS
              have hPD := pd_as [_, _, _, zzI cy (rB 0) 4 (bkR tJ_28 0), zzI cy (rB 1) 4 (bkR tJ_28 1), zzI cy (rB 2) 4 (bkR tJ_28 2), zzI cy (rB 3) 4 (bkR tJ_28 3), zzI cy (rB 4) 4 (bkR tJ_28 4), zzI cy (rB 5) 4 (bkR tJ_28 5), zzI cy (rB 6) 4 (bkR tJ_28 6), zzI cy (rB 7) 4 (bkR tJ_28 7), _, zzI cy (rO 0) 5 (onR tJ_28 0), zzI cy (rO 1) 5 (onR tJ_28 1), zzI cy (rO 2) 5 (onR tJ_28 2), zzI cy (rO 3) 5 (onR tJ_28 3), zzI cy (rO 4) 5 (onR tJ_28 4), zzI cy (rO 5) 5 (onR tJ_28 5), zzI cy (rO 6) 5 (onR tJ_28 6), zzI cy (rO 7) 5 (onR tJ_28 7), _, zzI cy (rK 0) 8 (T_kn tJ_28 0), zzI cy (rK 1) 8 (T_kn tJ_28 1), zzI cy (rK 2) 8 (T_kn tJ_28 2), zzI cy (rK 3) 8 (T_kn tJ_28 3), zzI cy (rK 4) 8 (T_kn tJ_28 4), zzI cy (rK 5) 8 (T_kn tJ_28 5), zzI cy (rK 6) 8 (T_kn tJ_28 6), zzI cy (rK 7) 8 (T_kn tJ_28 7), zzO qm 5 [.ref qmh, .ref qmo, .ref qmz, .ref qmR, .ref qmv, .ref qmk, .ref qma, .ref qmt, .int (nI kZ), .ref qmr, .int (nI (T_nb tJ_28)), .ref qmB, .int (nI (T_np tJ_28)), .ref qmO, .ref qmK, .int xE_30, .int (iTk + xS_29), .int (T_sd tJ_28), ov uP, ov uU, .int (nI kAt), .int iTo, .int iFr, .long JFi, .int iFa, .ref qm3, .int iSt, .int iLv, .int iWs, vLa, .ref qmu, .ref qmy, .ref qmb, .ref qms, .int iOm], _, _] hP hD rfl
              clear hP hD
              obtain ⟨hP, hD⟩ := hPD
              refine lv_iload hx hb dX6_years_158 (lv_at hl 1 rfl) ?_
              exact endWs [[false, false, false, false, false, false, false, false, false, false, false, false, false, false, false, false, false, false, false, false, false, false, false, false, false, false, false, false, false, true, true], [true, true, false, false, false, false, false, false, false, false, false, false, false, false, false, false, false, false, false, false, false, false, false, false, false, false, false, false, false, false, false, true], [false, false, true, true, true, true, true, true, true, true, true, true, true, true, true, true, true, true, true, true, true, true, true, true, true, true, true, true, true]] hx hb hr hlocks rfl hP hD rfl (by decide +kernel) hS ⟨xE_30, (iTk + xS_29), fX_18, tJ_28, rfl, ⟨hW_33, Or.inr (Or.inr (Or.inr ⟨k_4, k_11, by omega, rfl, (ex_k (by omega) h_19).1, (ex_k (by omega) h_19).2, by omega, by omega, rfl, hz_38r.symm⟩))⟩, trivial⟩ dX6_years_160
            · have hlt_39 : j_27 < k_11 := lp_lt rfl rfl (by omega) (by omega) c_36
              obtain ⟨hlt_39i, hlt_39b, hlt_39p⟩ := id hT_32
              refine lv_aload_n hx hb dX6_years_55 rfl (lv_at hl 3 rfl) ?_
              refine lv_aload_n hx hb dX6_years_56 rfl (lv_at hl 3 rfl) ?_
              refine va_get (D := G) (ci := 5) (v := .ref qmk) (C := RX6) (T := TX6) (N := 35) hx hb hts iX_X6 hown hK hP 29 rfl rfl 5 (by decide +kernel) (hts _ m_t855) (fun _ h9 => h9) rfl dX6_years_57 ?_
              refine lv_iload_n hx hb dX6_years_60 rfl (lv_at hl 4 rfl) ?_
              refine va_iald hx hb hK hP 0 0 rfl rfl (in_shelf h_3) dX6_years_61 ?_
              refine lv_seti (v := fMk k_4) (congrArg fMk (cl8 (by omega))) ?_
              refine lv_aload_n hx hb dX6_years_62 rfl (lv_at hl 3 rfl) ?_
              refine va_get (D := G) (ci := 5) (v := .ref qma) (C := RX6) (T := TX6) (N := 35) hx hb hts iX_X6 hown hK hP 29 rfl rfl 6 (by decide +kernel) (hts _ m_t856) (fun _ h9 => h9) rfl dX6_years_63 ?_
              refine lv_iload_n hx hb dX6_years_66 rfl (lv_at hl 4 rfl) ?_
              refine va_iald hx hb hK hP 1 0 rfl rfl (in_shelf h_3) dX6_years_67 ?_
              refine lv_seti (v := fMa k_4) (congrArg fMa (cl8 (by omega))) ?_
              obtain ⟨n_40, hn_41, en_42⟩ := hMa k_4 (by omega)
              refine lv_seti (v := nI n_40) en_42 ?_
              refine cVi (As := [.int (fMk k_4), .int (nI n_40)]) (rest := []) (b := qm) (q := (RX6, TX6, 35)) ⟨hx, hb, hml, hown, hts⟩ (x_X6_does l G cy (H).size qm (.ref qmh) (.ref qmo) (.ref qmz) (.ref qmR) (.ref qmv) (.ref qmk) (.ref qma) (.ref qmt) (.int (nI kZ)) (.ref qmr) tJ_28 qmB qmO qmK xE_30 iTk (ov uP) (ov uU) (.int (nI kAt)) (.int iTo) (.int iFr) (.long JFi) (.int iFa) (.ref qm3) (.int iSt) iLv iWs vLa (.ref qmu) (.ref qmy) (.ref qmb) (.ref qms) (.int iOm) rB rO rK (fMk k_4) n_40 (by omega) (by omega) hW_33 (by omega) (hMk k_4 (by omega) (ex_k (by omega) h_19).1 (ex_k (by omega) h_19).2)) L_X6_114 hN hP hD hS hA (trueIxs [[false, false, false, false, false, false, false, false, false, false, false, false, false, false, false, false, false, false, false, false, false, false, false, false, false, false, false, false, false, true], [false, false, true, true, true, true, true, true, true, true, true, true, true, true, true, true, true, true, true, true, true, true, true, true, true, true, true, true, true]]) [true, true, false, false, false, false, false, false, false, false, false, false, false, false, false, false, false, false, false, false, false, false, false, false, false, false, false, false, false, false, true, true] (sels_eq rfl rfl) (by decide +kernel) rfl 29 5 rfl rfl rfl ⟨Nat.le_of_ble_eq_true rfl, Nat.le_of_ble_eq_true rfl⟩ hl.1 (Nat.le_of_ble_eq_true rfl) dX6_years_68 ⟨Nat.le_of_ble_eq_true rfl, Nat.le_of_ble_eq_true rfl⟩ (fun r_43 u_45 H locs h_44 => ?_)
              clear hP hD hS
              intro hP hD hS
              obtain ⟨tX_46, rfl, h_47, h_48, h_44⟩ := h_44
              have hPD := pd_as [_, _, _, _, zzO qm 5 [.ref qmh, .ref qmo, .ref qmz, .ref qmR, .ref qmv, .ref qmk, .ref qma, .ref qmt, .int (nI kZ), .ref qmr, .int (nI (T_nb tX_46)), .ref qmB, .int (nI (T_np tX_46)), .ref qmO, .ref qmK, .int xE_30, .int iTk, .int (T_sd tX_46), ov uP, ov uU, .int (nI kAt), .int iTo, .int iFr, .long JFi, .int iFa, .ref qm3, .int iSt, .int iLv, .int iWs, vLa, .ref qmu, .ref qmy, .ref qmb, .ref qms, .int iOm], _, zzI cy (rB 0) 4 (bkR tX_46 0), zzI cy (rB 1) 4 (bkR tX_46 1), zzI cy (rB 2) 4 (bkR tX_46 2), zzI cy (rB 3) 4 (bkR tX_46 3), zzI cy (rB 4) 4 (bkR tX_46 4), zzI cy (rB 5) 4 (bkR tX_46 5), zzI cy (rB 6) 4 (bkR tX_46 6), zzI cy (rB 7) 4 (bkR tX_46 7), _, zzI cy (rO 0) 5 (onR tX_46 0), zzI cy (rO 1) 5 (onR tX_46 1), zzI cy (rO 2) 5 (onR tX_46 2), zzI cy (rO 3) 5 (onR tX_46 3), zzI cy (rO 4) 5 (onR tX_46 4), zzI cy (rO 5) 5 (onR tX_46 5), zzI cy (rO 6) 5 (onR tX_46 6), zzI cy (rO 7) 5 (onR tX_46 7), _, zzI cy (rK 0) 8 (T_kn tX_46 0), zzI cy (rK 1) 8 (T_kn tX_46 1), zzI cy (rK 2) 8 (T_kn tX_46 2), zzI cy (rK 3) 8 (T_kn tX_46 3), zzI cy (rK 4) 8 (T_kn tX_46 4), zzI cy (rK 5) 8 (T_kn tX_46 5), zzI cy (rK 6) 8 (T_kn tX_46 6), zzI cy (rK 7) 8 (T_kn tX_46 7)] hP hD rfl
              clear hP hD
              obtain ⟨hP, hD⟩ := hPD
              refine lv_pop hx hb dX6_years_71 rfl ?_
              refine lv_iload hx hb dX6_years_72 (lv_at hl 1 rfl) ?_
              refine lv_aload_n hx hb dX6_years_74 rfl (lv_at hl 3 rfl) ?_
              refine kRi (rV (As := []) (rest := [.int xS_29]) (b := qm) ⟨hx, hb, hml, hown, hts⟩ (c_X6_valueNow l G cy qm (.ref qmh) (.ref qmo) (.ref qmz) (.ref qmR) (.ref qmv) (.ref qmk) (.ref qma) (.ref qmt) (.int (nI kZ)) (.ref qmr) tX_46 qmB qmO qmK xE_30 iTk (ov uP) (ov uU) (.int (nI kAt)) (.int iTo) (.int iFr) (.long JFi) (.int iFa) (.ref qm3) (.int iSt) iLv iWs vLa (.ref qmu) (.ref qmy) (.ref qmb) (.ref qms) (.int iOm) rB rO rK (by omega) (by omega)) L_X6_122 (preRV (q := (RX6, TX6, 35)) hN hP (trueIx 0 [false, false, false, false, true, true, true, true, true, true, true, true, true, true, true, true, true, true, true, true, true, true, true, true, true, true, true, true, true, true, true, true]) (sel_fm rfl rfl) 4 5 rfl rfl) rfl ⟨Nat.le_of_ble_eq_true rfl, Nat.le_of_ble_eq_true rfl⟩ hl.1 (Nat.le_of_ble_eq_true rfl) dX6_years_75 ⟨Nat.le_of_ble_eq_true rfl, Nat.le_of_ble_eq_true rfl⟩) (fun r_49 h_50 => ?_)
              subst h_50
              refine lv_iadd hx hb dX6_years_78 ?_
              refine lv_istore (lv' := [(4, .int (xS_29 + (mvo tX_46 ((1 <<< (nI (T_np tX_46) &&& 31)) - 1)))), (5, .int (nI j_27)), (3, .int 0), (0, .ref qm), (1, .int (nI k_4)), (2, .int (nI k_11))]) hx hb dX6_years_79 hl (by decide +kernel) rfl (fun ls => ?_)
              clear hl
              intro hl
              refine lv_iconst (v := 0) hx hb dX6_years_81 (by decide +kernel) ?_
              refine lv_istore (lv' := [(6, .int 0), (4, .int (xS_29 + (mvo tX_46 ((1 <<< (nI (T_np tX_46) &&& 31)) - 1)))), (5, .int (nI j_27)), (3, .int 0), (0, .ref qm), (1, .int (nI k_4)), (2, .int (nI k_11))]) hx hb dX6_years_82 hl (by decide +kernel) rfl (fun ls => ?_)
              clear hl
              intro hl
              have lp_51 : ∀ (n_52 : Nat) (m_54 : Nat) (tK_55 : TA), 8 - m_54 < n_52 → m_54 ≤ T_np tA → TI tK_55 ∧ T_nb tK_55 = T_nb tA ∧ T_np tK_55 = T_np tA → tK_55 = ddF tX_46 m_54 → ∀ (H : Heap) (locs : List Loc) (ls : Array Slot), va_P G CL [zzI cy qmk 8 fMk, zzI cy qma 8 fMa, zzI cy qmh 8 fMh, zzI cy qmr 8 fX_18, zzO qm 5 [.ref qmh, .ref qmo, .ref qmz, .ref qmR, .ref qmv, .ref qmk, .ref qma, .ref qmt, .int (nI kZ), .ref qmr, .int (nI (T_nb tK_55)), .ref qmB, .int (nI (T_np tK_55)), .ref qmO, .ref qmK, .int xE_30, .int iTk, .int (T_sd tK_55), ov uP, ov uU, .int (nI kAt), .int iTo, .int iFr, .long JFi, .int iFa, .ref qm3, .int iSt, .int iLv, .int iWs, vLa, .ref qmu, .ref qmy, .ref qmb, .ref qms, .int iOm], zzG cy 3 qmB rB, zzI cy (rB 0) 4 (bkR tK_55 0), zzI cy (rB 1) 4 (bkR tK_55 1), zzI cy (rB 2) 4 (bkR tK_55 2), zzI cy (rB 3) 4 (bkR tK_55 3), zzI cy (rB 4) 4 (bkR tK_55 4), zzI cy (rB 5) 4 (bkR tK_55 5), zzI cy (rB 6) 4 (bkR tK_55 6), zzI cy (rB 7) 4 (bkR tK_55 7), zzG cy 3 qmO rO, zzI cy (rO 0) 5 (onR tK_55 0), zzI cy (rO 1) 5 (onR tK_55 1), zzI cy (rO 2) 5 (onR tK_55 2), zzI cy (rO 3) 5 (onR tK_55 3), zzI cy (rO 4) 5 (onR tK_55 4), zzI cy (rO 5) 5 (onR tK_55 5), zzI cy (rO 6) 5 (onR tK_55 6), zzI cy (rO 7) 5 (onR tK_55 7), zzG cy 3 qmK rK, zzI cy (rK 0) 8 (T_kn tK_55 0), zzI cy (rK 1) 8 (T_kn tK_55 1), zzI cy (rK 2) 8 (T_kn tK_55 2), zzI cy (rK 3) 8 (T_kn tK_55 3), zzI cy (rK 4) 8 (T_kn tK_55 4), zzI cy (rK 5) 8 (T_kn tK_55 5), zzI cy (rK 6) 8 (T_kn tK_55 6), zzI cy (rK 7) 8 (T_kn tK_55 7)] H → va_D A [zzI cy qmk 8 fMk, zzI cy qma 8 fMa, zzI cy qmh 8 fMh, zzI cy qmr 8 fX_18, zzO qm 5 [.ref qmh, .ref qmo, .ref qmz, .ref qmR, .ref qmv, .ref qmk, .ref qma, .ref qmt, .int (nI kZ), .ref qmr, .int (nI (T_nb tK_55)), .ref qmB, .int (nI (T_np tK_55)), .ref qmO, .ref qmK, .int xE_30, .int iTk, .int (T_sd tK_55), ov uP, ov uU, .int (nI kAt), .int iTo, .int iFr, .long JFi, .int iFa, .ref qm3, .int iSt, .int iLv, .int iWs, vLa, .ref qmu, .ref qmy, .ref qmb, .ref qms, .int iOm], zzG cy 3 qmB rB, zzI cy (rB 0) 4 (bkR tK_55 0), zzI cy (rB 1) 4 (bkR tK_55 1), zzI cy (rB 2) 4 (bkR tK_55 2), zzI cy (rB 3) 4 (bkR tK_55 3), zzI cy (rB 4) 4 (bkR tK_55 4), zzI cy (rB 5) 4 (bkR tK_55 5), zzI cy (rB 6) 4 (bkR tK_55 6), zzI cy (rB 7) 4 (bkR tK_55 7), zzG cy 3 qmO rO, zzI cy (rO 0) 5 (onR tK_55 0), zzI cy (rO 1) 5 (onR tK_55 1), zzI cy (rO 2) 5 (onR tK_55 2), zzI cy (rO 3) 5 (onR tK_55 3), zzI cy (rO 4) 5 (onR tK_55 4), zzI cy (rO 5) 5 (onR tK_55 5), zzI cy (rO 6) 5 (onR tK_55 6), zzI cy (rO 7) 5 (onR tK_55 7), zzG cy 3 qmK rK, zzI cy (rK 0) 8 (T_kn tK_55 0), zzI cy (rK 1) 8 (T_kn tK_55 1), zzI cy (rK 2) 8 (T_kn tK_55 2), zzI cy (rK 3) 8 (T_kn tK_55 3), zzI cy (rK 4) 8 (T_kn tK_55 4), zzI cy (rK 5) 8 (T_kn tK_55 5), zzI cy (rK 6) 8 (T_kn tK_55 6), zzI cy (rK 7) 8 (T_kn tK_55 7)] → va_S A s.heap H locs → lv_has ls 7 [(6, .int (nI m_54)), (4, .int (xS_29 + (mvo tX_46 ((1 <<< (nI (T_np tX_46) &&& 31)) - 1)))), (5, .int (nI j_27)), (3, .int 0), (0, .ref qm), (1, .int (nI k_4)), (2, .int (nI k_11))] → W p l e (Rm 16 0 0) s m (List.toArray (α := Value) [.ref qm, .int (nI k_4), .int (nI k_11)]) below meth c H locs 0 0 (MQ below ((Wi G (fun r u => ∃ (iNe : Int32) (iNt : Int32) (fNr : Nat → Int32) (tN : TA), u = [zzO qm 5 [.ref qmh, .ref qmo, .ref qmz, .ref qmR, .ref qmv, .ref qmk, .ref qma, .ref qmt, .int (nI kZ), .ref qmr, .int (nI (T_nb tN)), .ref qmB, .int (nI (T_np tN)), .ref qmO, .ref qmK, .int iNe, .int iNt, .int (T_sd tN), ov uP, ov uU, .int (nI kAt), .int iTo, .int iFr, .long JFi, .int iFa, .ref qm3, .int iSt, .int iLv, .int iWs, vLa, .ref qmu, .ref qmy, .ref qmb, .ref qms, .int iOm], zzI cy qmh 8 fMh, zzI cy qmk 8 fMk, zzI cy qma 8 fMa, zzI cy qmr 8 fNr, zzG cy 3 qmB rB, zzI cy (rB 0) 4 (bkR tN 0), zzI cy (rB 1) 4 (bkR tN 1), zzI cy (rB 2) 4 (bkR tN 2), zzI cy (rB 3) 4 (bkR tN 3), zzI cy (rB 4) 4 (bkR tN 4), zzI cy (rB 5) 4 (bkR tN 5), zzI cy (rB 6) 4 (bkR tN 6), zzI cy (rB 7) 4 (bkR tN 7), zzG cy 3 qmO rO, zzI cy (rO 0) 5 (onR tN 0), zzI cy (rO 1) 5 (onR tN 1), zzI cy (rO 2) 5 (onR tN 2), zzI cy (rO 3) 5 (onR tN 3), zzI cy (rO 4) 5 (onR tN 4), zzI cy (rO 5) 5 (onR tN 5), zzI cy (rO 6) 5 (onR tN 6), zzI cy (rO 7) 5 (onR tN 7), zzG cy 3 qmK rK, zzI cy (rK 0) 8 (T_kn tN 0), zzI cy (rK 1) 8 (T_kn tN 1), zzI cy (rK 2) 8 (T_kn tN 2), zzI cy (rK 3) 8 (T_kn tN 3), zzI cy (rK 4) 8 (T_kn tN 4), zzI cy (rK 5) 8 (T_kn tN 5), zzI cy (rK 6) 8 (T_kn tN 6), zzI cy (rK 7) 8 (T_kn tN 7)] ∧ (WI tN ∧ PMyears fMh fMk fMa tA (nI k_4) (nI k_11) r tN) ∧ (True))) A) (List.toArray (α := Value) [.ref qm, .int (nI k_4), .int (nI k_11)]) s 0 0 A) (F0 m 84 ls []) := by
                intro n_52
                induction n_52 with
                | zero => intro m_54 tK_55 hm9; exact absurd hm9 (Nat.not_lt_zero _)
                | succ n_52 ih_53 =>
                  intro m_54 tK_55 hm_59 hm_59 hTK_57 hD_58 H locs ls hP hD hS hl
                  refine lv_iload hx hb dX6_years_84 (lv_at hl 0 rfl) ?_
                  refine lv_aload_n hx hb dX6_years_86 rfl (lv_at hl 4 rfl) ?_
                  refine va_get (D := G) (ci := 5) (v := .int (nI (T_np tK_55))) (C := RX6) (T := TX6) (N := 35) hx hb hts iX_X6 hown hK hP 4 rfl rfl 12 (by decide +kernel) (hts _ m_t862) (fun _ h9 => h9) rfl dX6_years_87 ?_
                  refine lv_icmp_ge (tgt := 136) hx hb dX6_years_90 (by decide +kernel) (fun c_60 => ?_) (fun c_60 => ?_)
                  · have hlt_61e : T_np tK_55 = T_np tA := hTK_57.2.2
                    have hlt_61b : T_nb tK_55 = T_nb tA := hTK_57.2.1
                    have hw_62m : m_54 = T_np tA := Nat.le_antisymm (by omega) (by have h9 := c_60; rw [hTK_57.2.2] at h9; exact lp_ge rfl rfl (by omega) (by omega) h9)
                    have hw_62n : T_np tX_46 = T_np tA := by rw [h_48.1]; exact ((zact_nb _ _ _).2).trans hT_32.2.2
                    have hw_62z : tK_55 = zdd tX_46 := by rw [hD_58, hw_62m, ← hw_62n]; rfl
                    have hw_62W : WI tK_55 := by rw [hw_62z, h_48.1]; exact WI_dd (WI_act hW_33)
                    refine lv_aload_n hx hb dX6_years_136 rfl (lv_at hl 4 rfl) ?_
                    refine cVi (As := []) (rest := []) (b := qm) (q := (RX6, TX6, 35)) ⟨hx, hb, hml, hown, hts⟩ (x_X6_end l G cy (H).size qm (.ref qmh) (.ref qmo) (.ref qmz) (.ref qmR) (.ref qmv) (.ref qmk) (.ref qma) (.ref qmt) (.int (nI kZ)) (.ref qmr) tK_55 qmB qmO qmK xE_30 iTk (ov uP) (ov uU) (.int (nI kAt)) (.int iTo) (.int iFr) (.long JFi) (.int iFa) (.ref qm3) (.int iSt) iLv iWs vLa (.ref qmu) (.ref qmy) (.ref qmb) (.ref qms) (.int iOm) rB rO rK (by omega) (by omega) hTK_57.1 hw_62W.2.2) L_X6_288 hN hP hD hS hA (trueIx 0 [false, false, false, false, true, true, true, true, true, true, true, true, true, true, true, true, true, true, true, true, true, true, true, true, true, true, true, true, true, true, true, true]) [true, true, true, true, false, false, false, false, false, false, false, false, false, false, false, false, false, false, false, false, false, false, false, false, false, false, false, false, false, false, false, false] (sel_eq rfl rfl) (by decide +kernel) rfl 4 5 rfl rfl rfl ⟨Nat.le_of_ble_eq_true rfl, Nat.le_of_ble_eq_true rfl⟩ hl.1 (Nat.le_of_ble_eq_true rfl) dX6_years_137 ⟨Nat.le_of_ble_eq_true rfl, Nat.le_of_ble_eq_true rfl⟩ (fun r_63 u_65 H locs h_64 => ?_)
                    clear hP hD hS
                    intro hP hD hS
                    obtain ⟨tX_66, iX_67, rfl, h_68, h_69, h_64⟩ := h_64
                    have hPD := pd_as [_, _, _, _, zzO qm 5 [.ref qmh, .ref qmo, .ref qmz, .ref qmR, .ref qmv, .ref qmk, .ref qma, .ref qmt, .int (nI kZ), .ref qmr, .int (nI (T_nb tX_66)), .ref qmB, .int (nI (T_np tX_66)), .ref qmO, .ref qmK, .int iX_67, .int iTk, .int (T_sd tX_66), ov uP, ov uU, .int (nI kAt), .int iTo, .int iFr, .long JFi, .int iFa, .ref qm3, .int iSt, .int iLv, .int iWs, vLa, .ref qmu, .ref qmy, .ref qmb, .ref qms, .int iOm], _, zzI cy (rB 0) 4 (bkR tX_66 0), zzI cy (rB 1) 4 (bkR tX_66 1), zzI cy (rB 2) 4 (bkR tX_66 2), zzI cy (rB 3) 4 (bkR tX_66 3), zzI cy (rB 4) 4 (bkR tX_66 4), zzI cy (rB 5) 4 (bkR tX_66 5), zzI cy (rB 6) 4 (bkR tX_66 6), zzI cy (rB 7) 4 (bkR tX_66 7), _, zzI cy (rO 0) 5 (onR tX_66 0), zzI cy (rO 1) 5 (onR tX_66 1), zzI cy (rO 2) 5 (onR tX_66 2), zzI cy (rO 3) 5 (onR tX_66 3), zzI cy (rO 4) 5 (onR tX_66 4), zzI cy (rO 5) 5 (onR tX_66 5), zzI cy (rO 6) 5 (onR tX_66 6), zzI cy (rO 7) 5 (onR tX_66 7), _, zzI cy (rK 0) 8 (T_kn tX_66 0), zzI cy (rK 1) 8 (T_kn tX_66 1), zzI cy (rK 2) 8 (T_kn tX_66 2), zzI cy (rK 3) 8 (T_kn tX_66 3), zzI cy (rK 4) 8 (T_kn tX_66 4), zzI cy (rK 5) 8 (T_kn tX_66 5), zzI cy (rK 6) 8 (T_kn tX_66 6), zzI cy (rK 7) 8 (T_kn tX_66 7)] hP hD rfl
                    clear hP hD
                    obtain ⟨hP, hD⟩ := hPD
                    refine lv_pop hx hb dX6_years_140 rfl ?_
                    refine lv_iinc (v := nI (j_27 + 1)) (lv' := [(5, .int (nI (j_27 + 1))), (6, .int (nI m_54)), (4, .int (xS_29 + (mvo tX_46 ((1 <<< (nI (T_np tX_46) &&& 31)) - 1)))), (3, .int 0), (0, .ref qm), (1, .int (nI k_4)), (2, .int (nI k_11))]) hx hb dX6_years_141 hl (k := 2) rfl (nI_1 _) (by decide +kernel) rfl (fun ls => ?_)
                    clear hl
                    intro hl
                    refine lv_goto (tgt := 49) hx hb dX6_years_144 (by decide +kernel) ?_
                    exact ih_26 (j_27 + 1) tX_66 (xS_29 + (mvo tX_46 ((1 <<< (nI (T_np tX_46) &&& 31)) - 1))) iX_67 (by omega) (by omega) (⟨h_68.1, h_68.2.1.trans hTK_57.2.1, h_68.2.2.trans hTK_57.2.2⟩) (by rw [h_69]; exact WI_ey hw_62W) (by have q9 := hY_34; rw [show k_11 - j_27 = k_11 - (j_27 + 1) + 1 by omega] at q9; exact yr_st q9 (by rw [h_69, hw_62z, h_48.1, en_42]) (by rw [mvo_all (by omega), h_48.1, en_42])) _ _ _ (pSb hP [[true, true, false, false, false, true, true, true, true, true, true, true, true, true, true, true, true, true, true, true, true, true, true, true, true, true, true, true, true, true, true, true], [false, false, false, false, true], [false, false, true, true]] rfl rfl) (dSb hD [[true, true, false, false, false, true, true, true, true, true, true, true, true, true, true, true, true, true, true, true, true, true, true, true, true, true, true, true, true, true, true, true], [false, false, false, false, true], [false, false, true, true]] (by decide +kernel) rfl rfl) hS (lv_sub hl [0, 2, 3, 4, 5, 6] rfl)
                  · have hlt_70e : T_np tK_55 = T_np tA := hTK_57.2.2
                    have hlt_70b : T_nb tK_55 = T_nb tA := hTK_57.2.1
                    have hlt_70 : m_54 < T_np tA := by rw [hlt_70e] at c_60; exact lp_lt rfl rfl (by omega) (by omega) c_60
                    refine lv_aload_n hx hb dX6_years_93 rfl (lv_at hl 4 rfl) ?_
                    refine lv_iload hx hb dX6_years_94 (lv_at hl 0 rfl) ?_
                    refine kRi (rV (As := [.int (nI m_54)]) (rest := []) (b := qm) ⟨hx, hb, hml, hown, hts⟩ (c_X6_isThere l G cy qm (.ref qmh) (.ref qmo) (.ref qmz) (.ref qmR) (.ref qmv) (.ref qmk) (.ref qma) (.ref qmt) (.int (nI kZ)) (.ref qmr) tK_55 qmB qmO qmK xE_30 iTk (ov uP) (ov uU) (.int (nI kAt)) (.int iTo) (.int iFr) (.long JFi) (.int iFa) (.ref qm3) (.int iSt) iLv iWs vLa (.ref qmu) (.ref qmy) (.ref qmb) (.ref qms) (.int iOm) rO m_54 (by omega)) L_X6_81 (preRV (q := (RX6, TX6, 35)) hN hP (trueIx 0 [false, false, false, false, true, false, false, false, false, false, false, false, false, false, true, true, true, true, true, true, true, true, true]) (sel_fm rfl rfl) 4 5 rfl rfl) rfl ⟨Nat.le_of_ble_eq_true rfl, Nat.le_of_ble_eq_true rfl⟩ hl.1 (Nat.le_of_ble_eq_true rfl) dX6_years_96 ⟨Nat.le_of_ble_eq_true rfl, Nat.le_of_ble_eq_true rfl⟩) (fun r_71 h_72 => ?_)
                    rcases h_72 with ⟨rfl, h_73⟩ | ⟨rfl, h_73⟩
                    · refine lv_if_eq (tgt := 130) hx hb dX6_years_99 (by decide +kernel) (fun h9 => absurd h9 (by decide +kernel)) (fun _ => ?_)
                      refine lv_aload_n hx hb dX6_years_102 rfl (lv_at hl 4 rfl) ?_
                      refine lv_bipush (v := 20) hx hb dX6_years_103 (by decide +kernel) ?_
                      refine cVi (As := [.int 20]) (rest := []) (b := qm) (q := (RX6, TX6, 35)) ⟨hx, hb, hml, hown, hts⟩ (x_X6_draw l G cy (H).size qm (.ref qmh) (.ref qmo) (.ref qmz) (.ref qmR) (.ref qmv) (.ref qmk) (.ref qma) (.ref qmt) (.int (nI kZ)) (.ref qmr) tK_55 qmB qmO qmK xE_30 iTk (ov uP) (ov uU) (.int (nI kAt)) (.int iTo) (.int iFr) (.long JFi) (.int iFa) (.ref qm3) (.int iSt) iLv iWs vLa (.ref qmu) (.ref qmy) (.ref qmb) (.ref qms) (.int iOm) rB rO rK) L_X6_352 hN hP hD hS hA (trueIx 0 [false, false, false, false, true, true, true, true, true, true, true, true, true, true, true, true, true, true, true, true, true, true, true, true, true, true, true, true, true, true, true, true]) [true, true, true, true, false, false, false, false, false, false, false, false, false, false, false, false, false, false, false, false, false, false, false, false, false, false, false, false, false, false, false, false] (sel_eq rfl rfl) (by decide +kernel) rfl 4 5 rfl rfl rfl ⟨Nat.le_of_ble_eq_true rfl, Nat.le_of_ble_eq_true rfl⟩ hl.1 (Nat.le_of_ble_eq_true rfl) dX6_years_105 ⟨Nat.le_of_ble_eq_true rfl, Nat.le_of_ble_eq_true rfl⟩ (fun r_75 u_77 H locs h_76 => ?_)
                      clear hP hD hS
                      intro hP hD hS
                      obtain ⟨rfl, h_76⟩ := h_76
                      have hPD := pd_as [_, _, _, _, zzO qm 5 [.ref qmh, .ref qmo, .ref qmz, .ref qmR, .ref qmv, .ref qmk, .ref qma, .ref qmt, .int (nI kZ), .ref qmr, .int (nI (T_nb (T_setsd tK_55 (ltS (T_sd tK_55))))), .ref qmB, .int (nI (T_np (T_setsd tK_55 (ltS (T_sd tK_55))))), .ref qmO, .ref qmK, .int xE_30, .int iTk, .int (T_sd (T_setsd tK_55 (ltS (T_sd tK_55)))), ov uP, ov uU, .int (nI kAt), .int iTo, .int iFr, .long JFi, .int iFa, .ref qm3, .int iSt, .int iLv, .int iWs, vLa, .ref qmu, .ref qmy, .ref qmb, .ref qms, .int iOm], _, zzI cy (rB 0) 4 (bkR (T_setsd tK_55 (ltS (T_sd tK_55))) 0), zzI cy (rB 1) 4 (bkR (T_setsd tK_55 (ltS (T_sd tK_55))) 1), zzI cy (rB 2) 4 (bkR (T_setsd tK_55 (ltS (T_sd tK_55))) 2), zzI cy (rB 3) 4 (bkR (T_setsd tK_55 (ltS (T_sd tK_55))) 3), zzI cy (rB 4) 4 (bkR (T_setsd tK_55 (ltS (T_sd tK_55))) 4), zzI cy (rB 5) 4 (bkR (T_setsd tK_55 (ltS (T_sd tK_55))) 5), zzI cy (rB 6) 4 (bkR (T_setsd tK_55 (ltS (T_sd tK_55))) 6), zzI cy (rB 7) 4 (bkR (T_setsd tK_55 (ltS (T_sd tK_55))) 7), _, zzI cy (rO 0) 5 (onR (T_setsd tK_55 (ltS (T_sd tK_55))) 0), zzI cy (rO 1) 5 (onR (T_setsd tK_55 (ltS (T_sd tK_55))) 1), zzI cy (rO 2) 5 (onR (T_setsd tK_55 (ltS (T_sd tK_55))) 2), zzI cy (rO 3) 5 (onR (T_setsd tK_55 (ltS (T_sd tK_55))) 3), zzI cy (rO 4) 5 (onR (T_setsd tK_55 (ltS (T_sd tK_55))) 4), zzI cy (rO 5) 5 (onR (T_setsd tK_55 (ltS (T_sd tK_55))) 5), zzI cy (rO 6) 5 (onR (T_setsd tK_55 (ltS (T_sd tK_55))) 6), zzI cy (rO 7) 5 (onR (T_setsd tK_55 (ltS (T_sd tK_55))) 7), _, zzI cy (rK 0) 8 (T_kn (T_setsd tK_55 (ltS (T_sd tK_55))) 0), zzI cy (rK 1) 8 (T_kn (T_setsd tK_55 (ltS (T_sd tK_55))) 1), zzI cy (rK 2) 8 (T_kn (T_setsd tK_55 (ltS (T_sd tK_55))) 2), zzI cy (rK 3) 8 (T_kn (T_setsd tK_55 (ltS (T_sd tK_55))) 3), zzI cy (rK 4) 8 (T_kn (T_setsd tK_55 (ltS (T_sd tK_55))) 4), zzI cy (rK 5) 8 (T_kn (T_setsd tK_55 (ltS (T_sd tK_55))) 5), zzI cy (rK 6) 8 (T_kn (T_setsd tK_55 (ltS (T_sd tK_55))) 6), zzI cy (rK 7) 8 (T_kn (T_setsd tK_55 (ltS (T_sd tK_55))) 7)] hP hD rfl
                      clear hP hD
                      obtain ⟨hP, hD⟩ := hPD
                      subst h_76
                      refine lv_aload_n hx hb dX6_years_108 rfl (lv_at hl 4 rfl) ?_
                      refine va_get (D := G) (ci := 5) (v := .ref qmO) (C := RX6) (T := TX6) (N := 35) hx hb hts iX_X6 hown hK hP 4 rfl rfl 13 (by decide +kernel) (hts _ m_t863) (fun _ h9 => h9) rfl dX6_years_109 ?_
                      refine lv_iload hx hb dX6_years_112 (lv_at hl 0 rfl) ?_
                      refine va_alda hx hb hK hP 14 3 rfl rfl (in8 (by omega)) dX6_years_114 ?_
                      refine lv_setv (v := .ref (rO m_54)) (g_ref (by omega)) ?_
                      refine lv_iconst (v := 0) hx hb dX6_years_115 (by decide +kernel) ?_
                      refine va_iald hx hb hK hP (15 + m_54) 0 (sg8 (n0 := 15) (f := (fun j => zzI cy (rO j) 5 (onR (T_setsd tK_55 (ltS (T_sd tK_55))) j))) rfl rfl rfl rfl rfl rfl rfl rfl m_54 (by omega)) rfl (in_c rfl) dX6_years_116 ?_
                      refine lv_seti (v := T_ag (T_setsd tK_55 (ltS (T_sd tK_55))) m_54) (on_0 _ _) ?_
                      refine lv_icmp_ge (tgt := 130) hx hb dX6_years_117 (by decide +kernel) (fun c_78 => ?_) (fun c_78 => ?_)
                      · refine lv_iinc (v := nI (m_54 + 1)) (lv' := [(6, .int (nI (m_54 + 1))), (4, .int (xS_29 + (mvo tX_46 ((1 <<< (nI (T_np tX_46) &&& 31)) - 1)))), (5, .int (nI j_27)), (3, .int 0), (0, .ref qm), (1, .int (nI k_4)), (2, .int (nI k_11))]) hx hb dX6_years_130 hl (k := 0) rfl (nI_1 _) (by decide +kernel) rfl (fun ls => ?_)
                        clear hl
                        intro hl
                        refine lv_goto (tgt := 84) hx hb dX6_years_133 (by decide +kernel) ?_
                        exact ih_53 (m_54 + 1) (T_setsd tK_55 (ltS (T_sd tK_55))) (by omega) (by omega) (⟨hTK_57.1, hTK_57.2⟩) (by rw [dd_live (by rw [← hD_58]; exact h_73) (by rw [← hD_58]; exact Int32.not_lt.mpr c_78), ← hD_58]) _ _ _ hP hD hS (lv_sub hl [0, 1, 2, 3, 4, 5, 6] rfl)
                      · refine lv_aload_n hx hb dX6_years_120 rfl (lv_at hl 4 rfl) ?_
                        refine va_get (D := G) (ci := 5) (v := .ref qmO) (C := RX6) (T := TX6) (N := 35) hx hb hts iX_X6 hown hK hP 4 rfl rfl 13 (by decide +kernel) (hts _ m_t863) (fun _ h9 => h9) rfl dX6_years_121 ?_
                        refine lv_iload hx hb dX6_years_124 (lv_at hl 0 rfl) ?_
                        refine va_alda hx hb hK hP 14 3 rfl rfl (in8 (by omega)) dX6_years_126 ?_
                        refine lv_setv (v := .ref (rO m_54)) (g_ref (by omega)) ?_
                        refine lv_iconst (v := 4) hx hb dX6_years_127 (by decide +kernel) ?_
                        refine lv_iconst (v := 1) hx hb dX6_years_128 (by decide +kernel) ?_
                        refine va_iast hx hb hK hP hD hS (15 + m_54) 0 ((sg8 (n0 := 15) (f := (fun j => zzI cy (rO j) 5 (onR (T_setsd tK_55 (ltS (T_sd tK_55))) j))) rfl rfl rfl rfl rfl rfl rfl rfl) m_54 (by omega)) rfl (in_c rfl) dX6_years_129 (fun H locs => ?_)
                        clear hP hD hS
                        intro hP hD hS
                        have hPD := st8PD (ws' := [zzI cy qmk 8 fMk, zzI cy qma 8 fMa, zzI cy qmh 8 fMh, zzI cy qmr 8 fX_18, zzO qm 5 [.ref qmh, .ref qmo, .ref qmz, .ref qmR, .ref qmv, .ref qmk, .ref qma, .ref qmt, .int (nI kZ), .ref qmr, .int (nI (T_nb (T_setgn (T_setsd tK_55 (ltS (T_sd tK_55))) (updB (T_gn (T_setsd tK_55 (ltS (T_sd tK_55)))) m_54 true)))), .ref qmB, .int (nI (T_np (T_setgn (T_setsd tK_55 (ltS (T_sd tK_55))) (updB (T_gn (T_setsd tK_55 (ltS (T_sd tK_55)))) m_54 true)))), .ref qmO, .ref qmK, .int xE_30, .int iTk, .int (T_sd (T_setgn (T_setsd tK_55 (ltS (T_sd tK_55))) (updB (T_gn (T_setsd tK_55 (ltS (T_sd tK_55)))) m_54 true))), ov uP, ov uU, .int (nI kAt), .int iTo, .int iFr, .long JFi, .int iFa, .ref qm3, .int iSt, .int iLv, .int iWs, vLa, .ref qmu, .ref qmy, .ref qmb, .ref qms, .int iOm], zzG cy 3 qmB rB, zzI cy (rB 0) 4 (bkR (T_setgn (T_setsd tK_55 (ltS (T_sd tK_55))) (updB (T_gn (T_setsd tK_55 (ltS (T_sd tK_55)))) m_54 true)) 0), zzI cy (rB 1) 4 (bkR (T_setgn (T_setsd tK_55 (ltS (T_sd tK_55))) (updB (T_gn (T_setsd tK_55 (ltS (T_sd tK_55)))) m_54 true)) 1), zzI cy (rB 2) 4 (bkR (T_setgn (T_setsd tK_55 (ltS (T_sd tK_55))) (updB (T_gn (T_setsd tK_55 (ltS (T_sd tK_55)))) m_54 true)) 2), zzI cy (rB 3) 4 (bkR (T_setgn (T_setsd tK_55 (ltS (T_sd tK_55))) (updB (T_gn (T_setsd tK_55 (ltS (T_sd tK_55)))) m_54 true)) 3), zzI cy (rB 4) 4 (bkR (T_setgn (T_setsd tK_55 (ltS (T_sd tK_55))) (updB (T_gn (T_setsd tK_55 (ltS (T_sd tK_55)))) m_54 true)) 4), zzI cy (rB 5) 4 (bkR (T_setgn (T_setsd tK_55 (ltS (T_sd tK_55))) (updB (T_gn (T_setsd tK_55 (ltS (T_sd tK_55)))) m_54 true)) 5), zzI cy (rB 6) 4 (bkR (T_setgn (T_setsd tK_55 (ltS (T_sd tK_55))) (updB (T_gn (T_setsd tK_55 (ltS (T_sd tK_55)))) m_54 true)) 6), zzI cy (rB 7) 4 (bkR (T_setgn (T_setsd tK_55 (ltS (T_sd tK_55))) (updB (T_gn (T_setsd tK_55 (ltS (T_sd tK_55)))) m_54 true)) 7), zzG cy 3 qmO rO, zzI cy (rO 0) 5 (onR (T_setgn (T_setsd tK_55 (ltS (T_sd tK_55))) (updB (T_gn (T_setsd tK_55 (ltS (T_sd tK_55)))) m_54 true)) 0), zzI cy (rO 1) 5 (onR (T_setgn (T_setsd tK_55 (ltS (T_sd tK_55))) (updB (T_gn (T_setsd tK_55 (ltS (T_sd tK_55)))) m_54 true)) 1), zzI cy (rO 2) 5 (onR (T_setgn (T_setsd tK_55 (ltS (T_sd tK_55))) (updB (T_gn (T_setsd tK_55 (ltS (T_sd tK_55)))) m_54 true)) 2), zzI cy (rO 3) 5 (onR (T_setgn (T_setsd tK_55 (ltS (T_sd tK_55))) (updB (T_gn (T_setsd tK_55 (ltS (T_sd tK_55)))) m_54 true)) 3), zzI cy (rO 4) 5 (onR (T_setgn (T_setsd tK_55 (ltS (T_sd tK_55))) (updB (T_gn (T_setsd tK_55 (ltS (T_sd tK_55)))) m_54 true)) 4), zzI cy (rO 5) 5 (onR (T_setgn (T_setsd tK_55 (ltS (T_sd tK_55))) (updB (T_gn (T_setsd tK_55 (ltS (T_sd tK_55)))) m_54 true)) 5), zzI cy (rO 6) 5 (onR (T_setgn (T_setsd tK_55 (ltS (T_sd tK_55))) (updB (T_gn (T_setsd tK_55 (ltS (T_sd tK_55)))) m_54 true)) 6), zzI cy (rO 7) 5 (onR (T_setgn (T_setsd tK_55 (ltS (T_sd tK_55))) (updB (T_gn (T_setsd tK_55 (ltS (T_sd tK_55)))) m_54 true)) 7), zzG cy 3 qmK rK, zzI cy (rK 0) 8 (T_kn (T_setgn (T_setsd tK_55 (ltS (T_sd tK_55))) (updB (T_gn (T_setsd tK_55 (ltS (T_sd tK_55)))) m_54 true)) 0), zzI cy (rK 1) 8 (T_kn (T_setgn (T_setsd tK_55 (ltS (T_sd tK_55))) (updB (T_gn (T_setsd tK_55 (ltS (T_sd tK_55)))) m_54 true)) 1), zzI cy (rK 2) 8 (T_kn (T_setgn (T_setsd tK_55 (ltS (T_sd tK_55))) (updB (T_gn (T_setsd tK_55 (ltS (T_sd tK_55)))) m_54 true)) 2), zzI cy (rK 3) 8 (T_kn (T_setgn (T_setsd tK_55 (ltS (T_sd tK_55))) (updB (T_gn (T_setsd tK_55 (ltS (T_sd tK_55)))) m_54 true)) 3), zzI cy (rK 4) 8 (T_kn (T_setgn (T_setsd tK_55 (ltS (T_sd tK_55))) (updB (T_gn (T_setsd tK_55 (ltS (T_sd tK_55)))) m_54 true)) 4), zzI cy (rK 5) 8 (T_kn (T_setgn (T_setsd tK_55 (ltS (T_sd tK_55))) (updB (T_gn (T_setsd tK_55 (ltS (T_sd tK_55)))) m_54 true)) 5), zzI cy (rK 6) 8 (T_kn (T_setgn (T_setsd tK_55 (ltS (T_sd tK_55))) (updB (T_gn (T_setsd tK_55 (ltS (T_sd tK_55)))) m_54 true)) 6), zzI cy (rK 7) 8 (T_kn (T_setgn (T_setsd tK_55 (ltS (T_sd tK_55))) (updB (T_gn (T_setsd tK_55 (ltS (T_sd tK_55)))) m_54 true)) 7)]) (k := m_54) (g1 := onR (T_setgn (T_setsd tK_55 (ltS (T_sd tK_55))) (updB (T_gn (T_setsd tK_55 (ltS (T_sd tK_55)))) m_54 true)) m_54) hP hD (sg8 (n0 := 15) (f := (fun j => zzI cy (rO j) 5 (onR (T_setsd tK_55 (ltS (T_sd tK_55))) j))) rfl rfl rfl rfl rfl rfl rfl rfl) (sg8 (n0 := 15) (f := (fun j => zzI cy (rO j) 5 (onR (T_setgn (T_setsd tK_55 (ltS (T_sd tK_55))) (updB (T_gn (T_setsd tK_55 (ltS (T_sd tK_55)))) m_54 true)) j))) rfl rfl rfl rfl rfl rfl rfl rfl) rfl rfl (by omega) rfl (on_w4 (T_setsd tK_55 (ltS (T_sd tK_55))) m_54 true) (fun j hj => congrArg (zzI cy (rO j) 5) (on_n4 (T_setsd tK_55 (ltS (T_sd tK_55))) m_54 true hj))
                        clear hP hD
                        obtain ⟨hP, hD⟩ := hPD
                        refine lv_iinc (v := nI (m_54 + 1)) (lv' := [(6, .int (nI (m_54 + 1))), (4, .int (xS_29 + (mvo tX_46 ((1 <<< (nI (T_np tX_46) &&& 31)) - 1)))), (5, .int (nI j_27)), (3, .int 0), (0, .ref qm), (1, .int (nI k_4)), (2, .int (nI k_11))]) hx hb dX6_years_130 hl (k := 0) rfl (nI_1 _) (by decide +kernel) rfl (fun ls => ?_)
                        clear hl
                        intro hl
                        refine lv_goto (tgt := 84) hx hb dX6_years_133 (by decide +kernel) ?_
                        exact ih_53 (m_54 + 1) (T_setgn (T_setsd tK_55 (ltS (T_sd tK_55))) (updB (T_gn (T_setsd tK_55 (ltS (T_sd tK_55)))) m_54 true)) (by omega) (by omega) (⟨hTK_57.1, hTK_57.2⟩) (by rw [dd_die (by rw [← hD_58]; exact h_73) (by rw [← hD_58]; exact Int32.not_le.mp c_78), ← hD_58]) _ _ _ hP hD hS (lv_sub hl [0, 1, 2, 3, 4, 5, 6] rfl)
                    · refine lv_if_eq (tgt := 130) hx hb dX6_years_99 (by decide +kernel) (fun _ => ?_) (fun h9 => absurd (by decide +kernel) h9)
                      refine lv_iinc (v := nI (m_54 + 1)) (lv' := [(6, .int (nI (m_54 + 1))), (4, .int (xS_29 + (mvo tX_46 ((1 <<< (nI (T_np tX_46) &&& 31)) - 1)))), (5, .int (nI j_27)), (3, .int 0), (0, .ref qm), (1, .int (nI k_4)), (2, .int (nI k_11))]) hx hb dX6_years_130 hl (k := 0) rfl (nI_1 _) (by decide +kernel) rfl (fun ls => ?_)
                      clear hl
                      intro hl
                      refine lv_goto (tgt := 84) hx hb dX6_years_133 (by decide +kernel) ?_
                      exact ih_53 (m_54 + 1) tK_55 (by omega) (by omega) (⟨hTK_57.1, hTK_57.2⟩) (by rw [dd_g (by rw [← hD_58]; exact h_73)]; exact hD_58) _ _ _ hP hD hS (lv_sub hl [0, 1, 2, 3, 4, 5, 6] rfl)
              exact lp_51 ((8 - 0) + 1) 0 tX_46 (Nat.lt_succ_self _) (Nat.zero_le _) (⟨h_47.1, h_47.2.1.trans hT_32.2.1, h_47.2.2.trans hT_32.2.2⟩) rfl _ _ ls hP hD hS (lv_sub hl [0, 1, 2, 3, 4, 5, 6] rfl)
        exact lp_24 ((20 - 0) + 1) 0 tA 0 iEn (Nat.lt_succ_self _) (Nat.zero_le _) (⟨hWI.1, rfl, rfl⟩) hWI rfl _ _ ls hP hD hS (lv_sub hl [0, 1, 2, 3, 4, 5] rfl)
    · refine lv_if_ne (tgt := 31) hx hb dX6_years_21 (by decide +kernel) (fun h9 => absurd (by decide +kernel) h9) (fun _ => ?_)
      refine lv_aload_n hx hb dX6_years_24 rfl (lv_at hl 0 rfl) ?_
      refine lv_bipush (v := (-2)) hx hb dX6_years_25 (by decide +kernel) ?_
      refine cVi (As := [.int (-2)]) (rest := []) (b := qm) (q := (RX6, TX6, 35)) ⟨hx, hb, hml, hown, hts⟩ (c_X6_refuse2 l G cy (s.heap).size qm (.ref qmh) (.ref qmo) (.ref qmz) (.ref qmR) (.ref qmv) (.ref qmk) (.ref qma) (.ref qmt) (.int (nI kZ)) qmr tA qmB qmO qmK iEn iTk (ov uP) (ov uU) (.int (nI kAt)) (.int iTo) (.int iFr) (.long JFi) (.int iFa) (.ref qm3) (.int iSt) iLv iWs vLa (.ref qmu) (.ref qmy) (.ref qmb) (.ref qms) (.int iOm) fMr) L_X6_91 hN hP hD hS hA [0, 4] [false, true, true, true, false, true, true, true, true, true, true, true, true, true, true, true, true, true, true, true, true, true, true, true, true, true, true, true, true, true, true, true] rfl (by decide +kernel) rfl 0 5 rfl rfl rfl ⟨Nat.le_of_ble_eq_true rfl, Nat.le_of_ble_eq_true rfl⟩ hl.1 (Nat.le_of_ble_eq_true rfl) dX6_years_27 ⟨Nat.le_of_ble_eq_true rfl, Nat.le_of_ble_eq_true rfl⟩ (fun r_81 u_83 H locs h_82 => ?_)
      clear hP hD hS
      intro hP hD hS
      obtain ⟨fX_84, rfl, h_82⟩ := h_82
      have hPD := pd_as [_, _, _, _, _, _, _, _, _, _, _, _, _, _, _, _, _, _, _, _, _, _, _, _, _, _, _, _, _, _, _, zzI cy qmr 8 fX_84] hP hD rfl
      clear hP hD
      obtain ⟨hP, hD⟩ := hPD
      subst h_82
      exact endWs [[false, false, false, false, false, false, false, false, false, false, false, false, false, false, false, false, false, false, false, false, false, false, false, false, false, false, false, false, false, false, true], [true, true, true, false, false, false, false, false, false, false, false, false, false, false, false, false, false, false, false, false, false, false, false, false, false, false, false, false, false, false, false, true], [false, false, false, true, true, true, true, true, true, true, true, true, true, true, true, true, true, true, true, true, true, true, true, true, true, true, true, true, true, true]] hx hb hr hlocks rfl hP hD rfl (by decide +kernel) hS ⟨iEn, iTk, fX_84, tA, rfl, ⟨hWI, Or.inl ⟨rfl, Or.inr h_10, rfl⟩⟩, trivial⟩ dX6_years_30
  · refine lv_if_eq (tgt := 24) hx hb dX6_years_9 (by decide +kernel) (fun _ => ?_) (fun h9 => absurd (by decide +kernel) h9)
    refine lv_aload_n hx hb dX6_years_24 rfl (lv_at hl 0 rfl) ?_
    refine lv_bipush (v := (-2)) hx hb dX6_years_25 (by decide +kernel) ?_
    refine cVi (As := [.int (-2)]) (rest := []) (b := qm) (q := (RX6, TX6, 35)) ⟨hx, hb, hml, hown, hts⟩ (c_X6_refuse2 l G cy (s.heap).size qm (.ref qmh) (.ref qmo) (.ref qmz) (.ref qmR) (.ref qmv) (.ref qmk) (.ref qma) (.ref qmt) (.int (nI kZ)) qmr tA qmB qmO qmK iEn iTk (ov uP) (ov uU) (.int (nI kAt)) (.int iTo) (.int iFr) (.long JFi) (.int iFa) (.ref qm3) (.int iSt) iLv iWs vLa (.ref qmu) (.ref qmy) (.ref qmb) (.ref qms) (.int iOm) fMr) L_X6_91 hN hP hD hS hA [0, 4] [false, true, true, true, false, true, true, true, true, true, true, true, true, true, true, true, true, true, true, true, true, true, true, true, true, true, true, true, true, true, true, true] rfl (by decide +kernel) rfl 0 5 rfl rfl rfl ⟨Nat.le_of_ble_eq_true rfl, Nat.le_of_ble_eq_true rfl⟩ hl.1 (Nat.le_of_ble_eq_true rfl) dX6_years_27 ⟨Nat.le_of_ble_eq_true rfl, Nat.le_of_ble_eq_true rfl⟩ (fun r_86 u_88 H locs h_87 => ?_)
    clear hP hD hS
    intro hP hD hS
    obtain ⟨fX_89, rfl, h_87⟩ := h_87
    have hPD := pd_as [_, _, _, _, _, _, _, _, _, _, _, _, _, _, _, _, _, _, _, _, _, _, _, _, _, _, _, _, _, _, _, zzI cy qmr 8 fX_89] hP hD rfl
    clear hP hD
    obtain ⟨hP, hD⟩ := hPD
    subst h_87
    exact endWs [[false, false, false, false, false, false, false, false, false, false, false, false, false, false, false, false, false, false, false, false, false, false, false, false, false, false, false, false, false, false, true], [true, true, true, false, false, false, false, false, false, false, false, false, false, false, false, false, false, false, false, false, false, false, false, false, false, false, false, false, false, false, false, true], [false, false, false, true, true, true, true, true, true, true, true, true, true, true, true, true, true, true, true, true, true, true, true, true, true, true, true, true, true, true]] hx hb hr hlocks rfl hP hD rfl (by decide +kernel) hS ⟨iEn, iTk, fX_89, tA, rfl, ⟨hWI, Or.inl ⟨rfl, Or.inl (no_of7 h_3), rfl⟩⟩, trivial⟩ dX6_years_30
end
section
/-! feed: the bytes as both see them -/
noncomputable def byv (v : Int32) (s : Nat) : Int32 := (v >>> (nI s &&& 31)) &&& 255
theorem by_tab : ∀ j, j < 256 → nrm (nI j).toInt8.toInt32 = nrm (nI j) := by decide +kernel
theorem nrm_byte (x : Int32) : nrm (vp_nar .byte (x.toInt8.toInt32)) = nrm (x &&& 255) := by
  have e1 : vp_nar .byte (x.toInt8.toInt32) = (x.toInt8.toInt32).toInt8.toInt32 := rfl
  have e2 : (x.toInt8.toInt32).toInt8 = x.toInt8 := by simp
  obtain ⟨j, hj, ej⟩ := pk_andE x (m := 255) 8 (by decide +kernel)
  have e3 : x.toInt8 = (x &&& 255).toInt8 := by
    rw [Int32.toInt8_and, show (255 : Int32).toInt8 = -1 by decide +kernel]
    simp
  rw [e1, e2, e3, ej]
  exact by_tab j hj
theorem upd_n {f : Nat → Int32} {k i : Nat} {v : Int32} (h : i ≠ k) : upd f k v i = f i := if_neg h
noncomputable def FDs (f : Nat → Int32) (z : Nat) (v : Int32) (k : Nat) (f' : Nat → Int32) : Prop := ∀ i, i < z + k → nrm (f' i) = if i < z then nrm (f i) else nrm (byv v (8 * (k - 1 - (i - z))))
noncomputable def FD (f : Nat → Int32) (z : Nat) (v n : Int32) (z' : Nat) (f' : Nat → Int32) : Prop := (z' = z ∧ f' = f) ∨ ∃ k, 1 ≤ k ∧ k ≤ 4 ∧ n = nI k ∧ z' = z + k ∧ FDs f z v k f'
theorem fd_s1 {f : Nat → Int32} {z : Nat} {v a : Int32} (ha : nrm a = nrm (byv v 0)) : FDs f z v 1 (upd f z a) := by
  intro i hi
  by_cases c : i < z
  · rw [if_pos c, upd_n (by omega)]
  · have e : i = z := by omega
    subst e
    rw [if_neg c, upd_sJ, ha, show 8 * (1 - 1 - (i - i)) = 0 by omega]
theorem fd_s2 {f : Nat → Int32} {z : Nat} {v a b : Int32} (ha : nrm a = nrm (byv v 8)) (hb : nrm b = nrm (byv v 0)) : FDs f z v 2 (upd (upd f z a) (z + 1) b) := by
  intro i hi
  by_cases c : i < z
  · rw [if_pos c, upd_n (by omega), upd_n (by omega)]
  · rw [if_neg c]
    by_cases e : i = z
    · rw [upd_n (by omega), e, upd_sJ, ha, show 8 * (2 - 1 - (z - z)) = 8 by omega]
    · have e : i = z + 1 := by omega
      rw [e, upd_sJ, hb, show 8 * (2 - 1 - (z + 1 - z)) = 0 by omega]
theorem fd_s3 {f : Nat → Int32} {z : Nat} {v a b d : Int32} (ha : nrm a = nrm (byv v 16)) (hb : nrm b = nrm (byv v 8)) (hd : nrm d = nrm (byv v 0)) : FDs f z v 3 (upd (upd (upd f z a) (z + 1) b) (z + 1 + 1) d) := by
  intro i hi
  by_cases c : i < z
  · rw [if_pos c, upd_n (by omega), upd_n (by omega), upd_n (by omega)]
  · rw [if_neg c]
    by_cases e : i = z
    · rw [upd_n (by omega), upd_n (by omega), e, upd_sJ, ha, show 8 * (3 - 1 - (z - z)) = 16 by omega]
    · by_cases e2 : i = z + 1
      · rw [upd_n (by omega), e2, upd_sJ, hb, show 8 * (3 - 1 - (z + 1 - z)) = 8 by omega]
      · have e3 : i = z + 1 + 1 := by omega
        rw [e3, upd_sJ, hd, show 8 * (3 - 1 - (z + 1 + 1 - z)) = 0 by omega]
theorem fd_s4 {f : Nat → Int32} {z : Nat} {v a b d g : Int32} (ha : nrm a = nrm (byv v 24)) (hb : nrm b = nrm (byv v 16)) (hd : nrm d = nrm (byv v 8)) (hg : nrm g = nrm (byv v 0)) : FDs f z v 4 (upd (upd (upd (upd f z a) (z + 1) b) (z + 1 + 1) d) (z + 1 + 1 + 1) g) := by
  intro i hi
  by_cases c : i < z
  · rw [if_pos c, upd_n (by omega), upd_n (by omega), upd_n (by omega), upd_n (by omega)]
  · rw [if_neg c]
    by_cases e : i = z
    · rw [upd_n (by omega), upd_n (by omega), upd_n (by omega), e, upd_sJ, ha, show 8 * (4 - 1 - (z - z)) = 24 by omega]
    · by_cases e2 : i = z + 1
      · rw [upd_n (by omega), upd_n (by omega), e2, upd_sJ, hb, show 8 * (4 - 1 - (z + 1 - z)) = 16 by omega]
      · by_cases e3 : i = z + 1 + 1
        · rw [upd_n (by omega), e3, upd_sJ, hd, show 8 * (4 - 1 - (z + 1 + 1 - z)) = 8 by omega]
        · have e4 : i = z + 1 + 1 + 1 := by omega
          rw [e4, upd_sJ, hg, show 8 * (4 - 1 - (z + 1 + 1 + 1 - z)) = 0 by omega]
theorem fd_rel {fB fM fB' fM' : Nat → Int32} {z z1 : Nat} {v n : Int32} (h1 : FD fB z v n z1 fB') (h2 : FD fM z v n z1 fM') (h : nbf fB z = nbf fM z) : nbf fB' z1 = nbf fM' z1 := by
  rcases h1 with ⟨e1, rfl⟩ | ⟨k, k1, k2, ek, ez, hs⟩
  · rcases h2 with ⟨_, rfl⟩ | ⟨k, k1, _, _, ez, _⟩
    · rw [e1]; exact h
    · omega
  · rcases h2 with ⟨e2, _⟩ | ⟨m, m1, m2, em, ez2, hs2⟩
    · omega
    · have e : k = m := by omega
      subst e
      rw [ez]
      funext i
      by_cases c : i < z + k
      · rw [nbf_in c, nbf_in c, hs i c, hs2 i c]
        by_cases c2 : i < z
        · have q := congrFun h i
          rw [nbf_in c2, nbf_in c2] at q
          rw [if_pos c2, if_pos c2, q]
        · rw [if_neg c2, if_neg c2]
      · show (if i < z + k then nrm (fB' i) else 128) = if i < z + k then nrm (fM' i) else 128
        rw [if_neg c, if_neg c]
set_option maxHeartbeats 4000000 in
set_option maxRecDepth 100000 in
theorem x_X5_feed (l : Launch) (G : va_G) (cy : Nat → ClassId) (sz : Nat) (qx : Nat) (qt : Nat) (qk : Nat) (qp : Nat) (qs : Nat) (qa : Nat) (qr : Nat) (iKp : Int32) (iYe : Int32) (iTv : Int32) (fR : Nat → Int32) (qab : Nat) (kZ : Nat) (iT1 : Int32) (iT2 : Int32) (iT3 : Int32) (iT4 : Int32) (qd : Nat) (fB : Nat → Int32) (iA : Int32) (iB : Int32)  (hZ : kZ ≤ 250) : MW l yX5_feed cX5_feed 4 (some .int) 12 0 0 G cy [zzO qx 4 [.ref qt, .ref qk, .ref qp, .ref qs, .ref qa, .ref qr, .int iKp, .int iYe, .int iTv], zzI cy qr 5 fR, zzO qa 2 [.ref qab, .int (nI kZ), .int iT1, .int iT2, .int iT3, .int iT4, .ref qd], zzB cy qab 250 fB] sz [.ref qx, .int iA, .int iB] (Wi G (fun r u => ∃ (fX : Nat → Int32) (kY : Nat) (iX4 : Int32) (iX5 : Int32) (iX6 : Int32) (iX7 : Int32) (fV : Nat → Int32), u = [zzO qx 4 [.ref qt, .ref qk, .ref qp, .ref qs, .ref qa, .ref qr, .int iKp, .int iYe, .int iTv], zzI cy qr 5 fX, zzO qa 2 [.ref qab, .int (nI kY), .int iX4, .int iX5, .int iX6, .int iX7, .ref qd], zzB cy qab 250 fV] ∧ (PXfeed kZ iB r kY ∧ FD fB kZ iA iB kY fV) ∧ (True))) := by
  refine enW RX5 (by decide +kernel) rfl (Nat.le_of_ble_eq_true rfl) (fun p e s m below meth c ls A hx hb hml hown hts hr hlocks hP hN hl hin hD hA hS => ?_)
  have hin : meth.name = _ := hin
  have hK := hN.1
  replace hl : lv_has ls 4 [(0, .ref qx), (1, .int iA), (2, .int iB)] := hl
  refine lv_iload_n hx hb dX5_feed_0 rfl (lv_at hl 2 rfl) ?_
  refine lv_i2l (v := iB.toInt64) hx hb dX5_feed_1 rfl ?_
  refine lv_lconst (v := 1) hx hb dX5_feed_2 (by decide +kernel) ?_
  refine lv_ldc2 hx hb hown (hts _ m_t213) dX5_feed_3 ?_
  refine kRi (rS (As := [.long iB.toInt64, .long 1, .long 4]) (rest := []) ⟨hx, hb, hml, hown, hts⟩ (c_X5_within l G cy iB.toInt64 1 4) L_X5_50 (preRS hN hP [] rfl) rfl ⟨Nat.le_of_ble_eq_true rfl, Nat.le_of_ble_eq_true rfl⟩ hl.1 (Nat.le_of_ble_eq_true rfl) dX5_feed_6 ⟨Nat.le_of_ble_eq_true rfl, Nat.le_of_ble_eq_true rfl⟩) (fun r_1 h_2 => ?_)
  rcases h_2 with ⟨rfl, h_3⟩ | ⟨rfl, h_3⟩
  · refine lv_if_ne (tgt := 19) hx hb dX5_feed_9 (by decide +kernel) (fun _ => ?_) (fun h9 => absurd h9 (by decide +kernel))
    rcases in14 h_3 with rfl | rfl | rfl | rfl
    · refine lv_aload_n hx hb dX5_feed_19 rfl (lv_at hl 0 rfl) ?_
      refine va_get (D := G) (ci := 4) (v := .ref qa) (C := RX5) (T := TX5) (N := 9) hx hb hts iX_X5 hown hK hP 0 rfl rfl 4 (by decide +kernel) (hts _ m_t178) (fun _ h9 => h9) rfl dX5_feed_20 ?_
      refine va_getN (D := G) (ci := 2) (v := .int (nI kZ)) (C := RX3) (T := TX3) (N := 7) hx hb hts iX_X3 hown hK hP 2 rfl rfl 1 (by decide +kernel) (va_Nw.use rfl (hN.2.1 (RX5, 148, "EachBookOnce$Tape", "size", "I") (List.mem_of_getElem? (i := 29) rfl))) (fun _ h9 => h9) rfl dX5_feed_23 ?_
      refine lv_sipush (v := 250) hx hb dX5_feed_26 (by decide +kernel) ?_
      refine lv_iload_n hx hb dX5_feed_29 rfl (lv_at hl 2 rfl) ?_
      refine lv_isub hx hb dX5_feed_30 ?_
      refine lv_seti (v := 249) (by decide +kernel) ?_
      refine lv_icmp_le (tgt := 41) hx hb dX5_feed_31 (by decide +kernel) (fun c_5 => ?_) (fun c_5 => ?_)
      · have hfd : kZ + 1 ≤ 250 := fd_yes (k := 1) (by omega) (by omega) c_5
        refine lv_bipush (v := 8) hx hb dX5_feed_41 (by decide +kernel) ?_
        refine lv_iload_n hx hb dX5_feed_43 rfl (lv_at hl 2 rfl) ?_
        refine lv_iconst (v := 1) hx hb dX5_feed_44 (by decide +kernel) ?_
        refine lv_isub hx hb dX5_feed_45 ?_
        refine lv_seti (v := 0) (by decide +kernel) ?_
        refine lv_imul hx hb dX5_feed_46 ?_
        refine lv_seti (v := 0) (by decide +kernel) ?_
        refine lv_istore_n (lv' := [(3, .int 0), (0, .ref qx), (1, .int iA), (2, .int 1)]) hx hb dX5_feed_47 rfl hl (by decide +kernel) rfl (fun ls => ?_)
        clear hl
        intro hl
        refine lv_iload_n hx hb dX5_feed_48 rfl (lv_at hl 0 rfl) ?_
        refine lv_if_lt (tgt := 69) hx hb dX5_feed_49 (by decide +kernel) (fun h9 => absurd h9 (by decide +kernel)) (fun _ => ?_)
        refine lv_aload_n hx hb dX5_feed_52 rfl (lv_at hl 1 rfl) ?_
        refine va_get (D := G) (ci := 4) (v := .ref qa) (C := RX5) (T := TX5) (N := 9) hx hb hts iX_X5 hown hK hP 0 rfl rfl 4 (by decide +kernel) (hts _ m_t178) (fun _ h9 => h9) rfl dX5_feed_53 ?_
        refine lv_iload_n hx hb dX5_feed_56 rfl (lv_at hl 2 rfl) ?_
        refine lv_iload_n hx hb dX5_feed_57 rfl (lv_at hl 0 rfl) ?_
        refine lv_ishr hx hb dX5_feed_58 ?_
        refine lv_i2b (v := (iA >>> (0 &&& 31)).toInt8.toInt32) hx hb dX5_feed_59 rfl ?_
        refine cVv (As := [.int ((iA >>> (0 &&& 31)).toInt8.toInt32)]) (rest := []) (b := qa) (q := (RX3, TX3, 7)) ⟨hx, hb, hml, hown, hts⟩ (c_X3_append l G cy (s.heap).size qa qab kZ (.int iT1) (.int iT2) (.int iT3) (.int iT4) (.ref qd) fB ((iA >>> (0 &&& 31)).toInt8.toInt32) (by omega)) L_X5_150 hN hP hD hS hA [2, 3] [true, true, false, false] rfl (by decide +kernel) rfl 2 2 rfl rfl rfl ⟨Nat.le_of_ble_eq_true rfl, Nat.le_of_ble_eq_true rfl⟩ hl.1 (Nat.le_of_ble_eq_true rfl) dX5_feed_60 ⟨Nat.le_of_ble_eq_true rfl, Nat.le_of_ble_eq_true rfl⟩ (fun u_9 H locs h_8 => ?_)
        clear hP hD hS
        intro hP hD hS
        subst h_8
        have hPD := pd_as [_, _, zzO qa 2 [.ref qab, .int (nI (kZ + 1)), .int iT1, .int iT2, .int iT3, .int iT4, .ref qd], zzB cy qab 250 (upd fB kZ (vp_nar .byte ((iA >>> (0 &&& 31)).toInt8.toInt32)))] hP hD rfl
        clear hP hD
        obtain ⟨hP, hD⟩ := hPD
        refine lv_iinc (v := (-8)) (lv' := [(3, .int (-8)), (0, .ref qx), (1, .int iA), (2, .int 1)]) hx hb dX5_feed_63 hl (k := 0) rfl (by decide +kernel) (by decide +kernel) rfl (fun ls => ?_)
        clear hl
        intro hl
        refine lv_goto (tgt := 48) hx hb dX5_feed_66 (by decide +kernel) ?_
        refine lv_iload_n hx hb dX5_feed_48 rfl (lv_at hl 0 rfl) ?_
        refine lv_if_lt (tgt := 69) hx hb dX5_feed_49 (by decide +kernel) (fun _ => ?_) (fun h9 => absurd (by decide +kernel) h9)
        refine lv_aload_n hx hb dX5_feed_69 rfl (lv_at hl 1 rfl) ?_
        refine va_get (D := G) (ci := 4) (v := .ref qa) (C := RX5) (T := TX5) (N := 9) hx hb hts iX_X5 hown hK hP 0 rfl rfl 4 (by decide +kernel) (hts _ m_t178) (fun _ h9 => h9) rfl dX5_feed_70 ?_
        refine va_getN (D := G) (ci := 2) (v := .int (nI (kZ + 1))) (C := RX3) (T := TX3) (N := 7) hx hb hts iX_X3 hown hK hP 2 rfl rfl 1 (by decide +kernel) (va_Nw.use rfl (hN.2.1 (RX5, 148, "EachBookOnce$Tape", "size", "I") (List.mem_of_getElem? (i := 29) rfl))) (fun _ h9 => h9) rfl dX5_feed_73 ?_
        exact endWs [[true, true, true, true]] hx hb hr hlocks rfl hP hD rfl (by decide +kernel) hS ⟨fR, (kZ + 1), iT1, iT2, iT3, iT4, upd fB kZ (vp_nar .byte ((iA >>> (0 &&& 31)).toInt8.toInt32)), rfl, ⟨Or.inr ⟨1, by omega, by omega, rfl, Or.inr ⟨rfl, fd_yes (k := 1) (by omega) (by omega) c_5, rfl⟩⟩, Or.inr ⟨1, by omega, by omega, rfl, rfl, fd_s1 (nrm_byte _)⟩⟩, trivial⟩ dX5_feed_76
      · refine lv_aload_n hx hb dX5_feed_34 rfl (lv_at hl 0 rfl) ?_
        refine lv_bipush (v := (-6)) hx hb dX5_feed_35 (by decide +kernel) ?_
        refine cVi (As := [.int (-6)]) (rest := []) (b := qx) (q := (RX5, TX5, 9)) ⟨hx, hb, hml, hown, hts⟩ (c_X5_refuse6 l G cy (s.heap).size qx qt qk qp qs qa qr iKp iYe iTv fR) L_X5_56 hN hP hD hS hA [0, 1] [false, false, true, true] rfl (by decide +kernel) rfl 0 4 rfl rfl rfl ⟨Nat.le_of_ble_eq_true rfl, Nat.le_of_ble_eq_true rfl⟩ hl.1 (Nat.le_of_ble_eq_true rfl) dX5_feed_37 ⟨Nat.le_of_ble_eq_true rfl, Nat.le_of_ble_eq_true rfl⟩ (fun r_11 u_13 H locs h_12 => ?_)
        clear hP hD hS
        intro hP hD hS
        obtain ⟨fX_14, rfl, h_12⟩ := h_12
        have hPD := pd_as [_, _, _, zzI cy qr 5 fX_14] hP hD rfl
        clear hP hD
        obtain ⟨hP, hD⟩ := hPD
        subst h_12
        exact endWs [[false, false, true, true], [true, true]] hx hb hr hlocks rfl hP hD rfl (by decide +kernel) hS ⟨fX_14, kZ, iT1, iT2, iT3, iT4, fB, rfl, ⟨Or.inr ⟨1, by omega, by omega, rfl, Or.inl ⟨rfl, fd_no (k := 1) (by omega) (by omega) c_5, rfl⟩⟩, Or.inl ⟨rfl, rfl⟩⟩, trivial⟩ dX5_feed_40
    · refine lv_aload_n hx hb dX5_feed_19 rfl (lv_at hl 0 rfl) ?_
      refine va_get (D := G) (ci := 4) (v := .ref qa) (C := RX5) (T := TX5) (N := 9) hx hb hts iX_X5 hown hK hP 0 rfl rfl 4 (by decide +kernel) (hts _ m_t178) (fun _ h9 => h9) rfl dX5_feed_20 ?_
      refine va_getN (D := G) (ci := 2) (v := .int (nI kZ)) (C := RX3) (T := TX3) (N := 7) hx hb hts iX_X3 hown hK hP 2 rfl rfl 1 (by decide +kernel) (va_Nw.use rfl (hN.2.1 (RX5, 148, "EachBookOnce$Tape", "size", "I") (List.mem_of_getElem? (i := 29) rfl))) (fun _ h9 => h9) rfl dX5_feed_23 ?_
      refine lv_sipush (v := 250) hx hb dX5_feed_26 (by decide +kernel) ?_
      refine lv_iload_n hx hb dX5_feed_29 rfl (lv_at hl 2 rfl) ?_
      refine lv_isub hx hb dX5_feed_30 ?_
      refine lv_seti (v := 248) (by decide +kernel) ?_
      refine lv_icmp_le (tgt := 41) hx hb dX5_feed_31 (by decide +kernel) (fun c_15 => ?_) (fun c_15 => ?_)
      · have hfd : kZ + 2 ≤ 250 := fd_yes (k := 2) (by omega) (by omega) c_15
        refine lv_bipush (v := 8) hx hb dX5_feed_41 (by decide +kernel) ?_
        refine lv_iload_n hx hb dX5_feed_43 rfl (lv_at hl 2 rfl) ?_
        refine lv_iconst (v := 1) hx hb dX5_feed_44 (by decide +kernel) ?_
        refine lv_isub hx hb dX5_feed_45 ?_
        refine lv_seti (v := 1) (by decide +kernel) ?_
        refine lv_imul hx hb dX5_feed_46 ?_
        refine lv_seti (v := 8) (by decide +kernel) ?_
        refine lv_istore_n (lv' := [(3, .int 8), (0, .ref qx), (1, .int iA), (2, .int 2)]) hx hb dX5_feed_47 rfl hl (by decide +kernel) rfl (fun ls => ?_)
        clear hl
        intro hl
        refine lv_iload_n hx hb dX5_feed_48 rfl (lv_at hl 0 rfl) ?_
        refine lv_if_lt (tgt := 69) hx hb dX5_feed_49 (by decide +kernel) (fun h9 => absurd h9 (by decide +kernel)) (fun _ => ?_)
        refine lv_aload_n hx hb dX5_feed_52 rfl (lv_at hl 1 rfl) ?_
        refine va_get (D := G) (ci := 4) (v := .ref qa) (C := RX5) (T := TX5) (N := 9) hx hb hts iX_X5 hown hK hP 0 rfl rfl 4 (by decide +kernel) (hts _ m_t178) (fun _ h9 => h9) rfl dX5_feed_53 ?_
        refine lv_iload_n hx hb dX5_feed_56 rfl (lv_at hl 2 rfl) ?_
        refine lv_iload_n hx hb dX5_feed_57 rfl (lv_at hl 0 rfl) ?_
        refine lv_ishr hx hb dX5_feed_58 ?_
        refine lv_i2b (v := (iA >>> (8 &&& 31)).toInt8.toInt32) hx hb dX5_feed_59 rfl ?_
        refine cVv (As := [.int ((iA >>> (8 &&& 31)).toInt8.toInt32)]) (rest := []) (b := qa) (q := (RX3, TX3, 7)) ⟨hx, hb, hml, hown, hts⟩ (c_X3_append l G cy (s.heap).size qa qab kZ (.int iT1) (.int iT2) (.int iT3) (.int iT4) (.ref qd) fB ((iA >>> (8 &&& 31)).toInt8.toInt32) (by omega)) L_X5_150 hN hP hD hS hA [2, 3] [true, true, false, false] rfl (by decide +kernel) rfl 2 2 rfl rfl rfl ⟨Nat.le_of_ble_eq_true rfl, Nat.le_of_ble_eq_true rfl⟩ hl.1 (Nat.le_of_ble_eq_true rfl) dX5_feed_60 ⟨Nat.le_of_ble_eq_true rfl, Nat.le_of_ble_eq_true rfl⟩ (fun u_19 H locs h_18 => ?_)
        clear hP hD hS
        intro hP hD hS
        subst h_18
        have hPD := pd_as [_, _, _, zzB cy qab 250 (upd fB kZ (vp_nar .byte ((iA >>> (8 &&& 31)).toInt8.toInt32)))] hP hD rfl
        clear hP hD
        obtain ⟨hP, hD⟩ := hPD
        refine lv_iinc (v := 0) (lv' := [(3, .int 0), (0, .ref qx), (1, .int iA), (2, .int 2)]) hx hb dX5_feed_63 hl (k := 0) rfl (by decide +kernel) (by decide +kernel) rfl (fun ls => ?_)
        clear hl
        intro hl
        refine lv_goto (tgt := 48) hx hb dX5_feed_66 (by decide +kernel) ?_
        refine lv_iload_n hx hb dX5_feed_48 rfl (lv_at hl 0 rfl) ?_
        refine lv_if_lt (tgt := 69) hx hb dX5_feed_49 (by decide +kernel) (fun h9 => absurd h9 (by decide +kernel)) (fun _ => ?_)
        refine lv_aload_n hx hb dX5_feed_52 rfl (lv_at hl 1 rfl) ?_
        refine va_get (D := G) (ci := 4) (v := .ref qa) (C := RX5) (T := TX5) (N := 9) hx hb hts iX_X5 hown hK hP 0 rfl rfl 4 (by decide +kernel) (hts _ m_t178) (fun _ h9 => h9) rfl dX5_feed_53 ?_
        refine lv_iload_n hx hb dX5_feed_56 rfl (lv_at hl 2 rfl) ?_
        refine lv_iload_n hx hb dX5_feed_57 rfl (lv_at hl 0 rfl) ?_
        refine lv_ishr hx hb dX5_feed_58 ?_
        refine lv_i2b (v := (iA >>> (0 &&& 31)).toInt8.toInt32) hx hb dX5_feed_59 rfl ?_
        refine cVv (As := [.int ((iA >>> (0 &&& 31)).toInt8.toInt32)]) (rest := []) (b := qa) (q := (RX3, TX3, 7)) ⟨hx, hb, hml, hown, hts⟩ (c_X3_append l G cy (H).size qa qab (kZ + 1) (.int iT1) (.int iT2) (.int iT3) (.int iT4) (.ref qd) (upd fB kZ (vp_nar .byte ((iA >>> (8 &&& 31)).toInt8.toInt32))) ((iA >>> (0 &&& 31)).toInt8.toInt32) (by omega)) L_X5_150 hN hP hD hS hA [2, 3] [true, true, false, false] rfl (by decide +kernel) rfl 2 2 rfl rfl rfl ⟨Nat.le_of_ble_eq_true rfl, Nat.le_of_ble_eq_true rfl⟩ hl.1 (Nat.le_of_ble_eq_true rfl) dX5_feed_60 ⟨Nat.le_of_ble_eq_true rfl, Nat.le_of_ble_eq_true rfl⟩ (fun u_23 H locs h_22 => ?_)
        clear hP hD hS
        intro hP hD hS
        subst h_22
        have hPD := pd_as [_, _, zzO qa 2 [.ref qab, .int (nI ((kZ + 1) + 1)), .int iT1, .int iT2, .int iT3, .int iT4, .ref qd], zzB cy qab 250 (upd (upd fB kZ (vp_nar .byte ((iA >>> (8 &&& 31)).toInt8.toInt32))) (kZ + 1) (vp_nar .byte ((iA >>> (0 &&& 31)).toInt8.toInt32)))] hP hD rfl
        clear hP hD
        obtain ⟨hP, hD⟩ := hPD
        refine lv_iinc (v := (-8)) (lv' := [(3, .int (-8)), (0, .ref qx), (1, .int iA), (2, .int 2)]) hx hb dX5_feed_63 hl (k := 0) rfl (by decide +kernel) (by decide +kernel) rfl (fun ls => ?_)
        clear hl
        intro hl
        refine lv_goto (tgt := 48) hx hb dX5_feed_66 (by decide +kernel) ?_
        refine lv_iload_n hx hb dX5_feed_48 rfl (lv_at hl 0 rfl) ?_
        refine lv_if_lt (tgt := 69) hx hb dX5_feed_49 (by decide +kernel) (fun _ => ?_) (fun h9 => absurd (by decide +kernel) h9)
        refine lv_aload_n hx hb dX5_feed_69 rfl (lv_at hl 1 rfl) ?_
        refine va_get (D := G) (ci := 4) (v := .ref qa) (C := RX5) (T := TX5) (N := 9) hx hb hts iX_X5 hown hK hP 0 rfl rfl 4 (by decide +kernel) (hts _ m_t178) (fun _ h9 => h9) rfl dX5_feed_70 ?_
        refine va_getN (D := G) (ci := 2) (v := .int (nI ((kZ + 1) + 1))) (C := RX3) (T := TX3) (N := 7) hx hb hts iX_X3 hown hK hP 2 rfl rfl 1 (by decide +kernel) (va_Nw.use rfl (hN.2.1 (RX5, 148, "EachBookOnce$Tape", "size", "I") (List.mem_of_getElem? (i := 29) rfl))) (fun _ h9 => h9) rfl dX5_feed_73 ?_
        exact endWs [[true, true, true, true]] hx hb hr hlocks rfl hP hD rfl (by decide +kernel) hS ⟨fR, ((kZ + 1) + 1), iT1, iT2, iT3, iT4, upd (upd fB kZ (vp_nar .byte ((iA >>> (8 &&& 31)).toInt8.toInt32))) (kZ + 1) (vp_nar .byte ((iA >>> (0 &&& 31)).toInt8.toInt32)), rfl, ⟨Or.inr ⟨2, by omega, by omega, rfl, Or.inr ⟨rfl, fd_yes (k := 2) (by omega) (by omega) c_15, rfl⟩⟩, Or.inr ⟨2, by omega, by omega, rfl, rfl, fd_s2 (nrm_byte _) (nrm_byte _)⟩⟩, trivial⟩ dX5_feed_76
      · refine lv_aload_n hx hb dX5_feed_34 rfl (lv_at hl 0 rfl) ?_
        refine lv_bipush (v := (-6)) hx hb dX5_feed_35 (by decide +kernel) ?_
        refine cVi (As := [.int (-6)]) (rest := []) (b := qx) (q := (RX5, TX5, 9)) ⟨hx, hb, hml, hown, hts⟩ (c_X5_refuse6 l G cy (s.heap).size qx qt qk qp qs qa qr iKp iYe iTv fR) L_X5_56 hN hP hD hS hA [0, 1] [false, false, true, true] rfl (by decide +kernel) rfl 0 4 rfl rfl rfl ⟨Nat.le_of_ble_eq_true rfl, Nat.le_of_ble_eq_true rfl⟩ hl.1 (Nat.le_of_ble_eq_true rfl) dX5_feed_37 ⟨Nat.le_of_ble_eq_true rfl, Nat.le_of_ble_eq_true rfl⟩ (fun r_25 u_27 H locs h_26 => ?_)
        clear hP hD hS
        intro hP hD hS
        obtain ⟨fX_28, rfl, h_26⟩ := h_26
        have hPD := pd_as [_, _, _, zzI cy qr 5 fX_28] hP hD rfl
        clear hP hD
        obtain ⟨hP, hD⟩ := hPD
        subst h_26
        exact endWs [[false, false, true, true], [true, true]] hx hb hr hlocks rfl hP hD rfl (by decide +kernel) hS ⟨fX_28, kZ, iT1, iT2, iT3, iT4, fB, rfl, ⟨Or.inr ⟨2, by omega, by omega, rfl, Or.inl ⟨rfl, fd_no (k := 2) (by omega) (by omega) c_15, rfl⟩⟩, Or.inl ⟨rfl, rfl⟩⟩, trivial⟩ dX5_feed_40
    · refine lv_aload_n hx hb dX5_feed_19 rfl (lv_at hl 0 rfl) ?_
      refine va_get (D := G) (ci := 4) (v := .ref qa) (C := RX5) (T := TX5) (N := 9) hx hb hts iX_X5 hown hK hP 0 rfl rfl 4 (by decide +kernel) (hts _ m_t178) (fun _ h9 => h9) rfl dX5_feed_20 ?_
      refine va_getN (D := G) (ci := 2) (v := .int (nI kZ)) (C := RX3) (T := TX3) (N := 7) hx hb hts iX_X3 hown hK hP 2 rfl rfl 1 (by decide +kernel) (va_Nw.use rfl (hN.2.1 (RX5, 148, "EachBookOnce$Tape", "size", "I") (List.mem_of_getElem? (i := 29) rfl))) (fun _ h9 => h9) rfl dX5_feed_23 ?_
      refine lv_sipush (v := 250) hx hb dX5_feed_26 (by decide +kernel) ?_
      refine lv_iload_n hx hb dX5_feed_29 rfl (lv_at hl 2 rfl) ?_
      refine lv_isub hx hb dX5_feed_30 ?_
      refine lv_seti (v := 247) (by decide +kernel) ?_
      refine lv_icmp_le (tgt := 41) hx hb dX5_feed_31 (by decide +kernel) (fun c_29 => ?_) (fun c_29 => ?_)
      · have hfd : kZ + 3 ≤ 250 := fd_yes (k := 3) (by omega) (by omega) c_29
        refine lv_bipush (v := 8) hx hb dX5_feed_41 (by decide +kernel) ?_
        refine lv_iload_n hx hb dX5_feed_43 rfl (lv_at hl 2 rfl) ?_
        refine lv_iconst (v := 1) hx hb dX5_feed_44 (by decide +kernel) ?_
        refine lv_isub hx hb dX5_feed_45 ?_
        refine lv_seti (v := 2) (by decide +kernel) ?_
        refine lv_imul hx hb dX5_feed_46 ?_
        refine lv_seti (v := 16) (by decide +kernel) ?_
        refine lv_istore_n (lv' := [(3, .int 16), (0, .ref qx), (1, .int iA), (2, .int 3)]) hx hb dX5_feed_47 rfl hl (by decide +kernel) rfl (fun ls => ?_)
        clear hl
        intro hl
        refine lv_iload_n hx hb dX5_feed_48 rfl (lv_at hl 0 rfl) ?_
        refine lv_if_lt (tgt := 69) hx hb dX5_feed_49 (by decide +kernel) (fun h9 => absurd h9 (by decide +kernel)) (fun _ => ?_)
        refine lv_aload_n hx hb dX5_feed_52 rfl (lv_at hl 1 rfl) ?_
        refine va_get (D := G) (ci := 4) (v := .ref qa) (C := RX5) (T := TX5) (N := 9) hx hb hts iX_X5 hown hK hP 0 rfl rfl 4 (by decide +kernel) (hts _ m_t178) (fun _ h9 => h9) rfl dX5_feed_53 ?_
        refine lv_iload_n hx hb dX5_feed_56 rfl (lv_at hl 2 rfl) ?_
        refine lv_iload_n hx hb dX5_feed_57 rfl (lv_at hl 0 rfl) ?_
        refine lv_ishr hx hb dX5_feed_58 ?_
        refine lv_i2b (v := (iA >>> (16 &&& 31)).toInt8.toInt32) hx hb dX5_feed_59 rfl ?_
        refine cVv (As := [.int ((iA >>> (16 &&& 31)).toInt8.toInt32)]) (rest := []) (b := qa) (q := (RX3, TX3, 7)) ⟨hx, hb, hml, hown, hts⟩ (c_X3_append l G cy (s.heap).size qa qab kZ (.int iT1) (.int iT2) (.int iT3) (.int iT4) (.ref qd) fB ((iA >>> (16 &&& 31)).toInt8.toInt32) (by omega)) L_X5_150 hN hP hD hS hA [2, 3] [true, true, false, false] rfl (by decide +kernel) rfl 2 2 rfl rfl rfl ⟨Nat.le_of_ble_eq_true rfl, Nat.le_of_ble_eq_true rfl⟩ hl.1 (Nat.le_of_ble_eq_true rfl) dX5_feed_60 ⟨Nat.le_of_ble_eq_true rfl, Nat.le_of_ble_eq_true rfl⟩ (fun u_33 H locs h_32 => ?_)
        clear hP hD hS
        intro hP hD hS
        subst h_32
        have hPD := pd_as [_, _, _, zzB cy qab 250 (upd fB kZ (vp_nar .byte ((iA >>> (16 &&& 31)).toInt8.toInt32)))] hP hD rfl
        clear hP hD
        obtain ⟨hP, hD⟩ := hPD
        refine lv_iinc (v := 8) (lv' := [(3, .int 8), (0, .ref qx), (1, .int iA), (2, .int 3)]) hx hb dX5_feed_63 hl (k := 0) rfl (by decide +kernel) (by decide +kernel) rfl (fun ls => ?_)
        clear hl
        intro hl
        refine lv_goto (tgt := 48) hx hb dX5_feed_66 (by decide +kernel) ?_
        refine lv_iload_n hx hb dX5_feed_48 rfl (lv_at hl 0 rfl) ?_
        refine lv_if_lt (tgt := 69) hx hb dX5_feed_49 (by decide +kernel) (fun h9 => absurd h9 (by decide +kernel)) (fun _ => ?_)
        refine lv_aload_n hx hb dX5_feed_52 rfl (lv_at hl 1 rfl) ?_
        refine va_get (D := G) (ci := 4) (v := .ref qa) (C := RX5) (T := TX5) (N := 9) hx hb hts iX_X5 hown hK hP 0 rfl rfl 4 (by decide +kernel) (hts _ m_t178) (fun _ h9 => h9) rfl dX5_feed_53 ?_
        refine lv_iload_n hx hb dX5_feed_56 rfl (lv_at hl 2 rfl) ?_
        refine lv_iload_n hx hb dX5_feed_57 rfl (lv_at hl 0 rfl) ?_
        refine lv_ishr hx hb dX5_feed_58 ?_
        refine lv_i2b (v := (iA >>> (8 &&& 31)).toInt8.toInt32) hx hb dX5_feed_59 rfl ?_
        refine cVv (As := [.int ((iA >>> (8 &&& 31)).toInt8.toInt32)]) (rest := []) (b := qa) (q := (RX3, TX3, 7)) ⟨hx, hb, hml, hown, hts⟩ (c_X3_append l G cy (H).size qa qab (kZ + 1) (.int iT1) (.int iT2) (.int iT3) (.int iT4) (.ref qd) (upd fB kZ (vp_nar .byte ((iA >>> (16 &&& 31)).toInt8.toInt32))) ((iA >>> (8 &&& 31)).toInt8.toInt32) (by omega)) L_X5_150 hN hP hD hS hA [2, 3] [true, true, false, false] rfl (by decide +kernel) rfl 2 2 rfl rfl rfl ⟨Nat.le_of_ble_eq_true rfl, Nat.le_of_ble_eq_true rfl⟩ hl.1 (Nat.le_of_ble_eq_true rfl) dX5_feed_60 ⟨Nat.le_of_ble_eq_true rfl, Nat.le_of_ble_eq_true rfl⟩ (fun u_37 H locs h_36 => ?_)
        clear hP hD hS
        intro hP hD hS
        subst h_36
        have hPD := pd_as [_, _, _, zzB cy qab 250 (upd (upd fB kZ (vp_nar .byte ((iA >>> (16 &&& 31)).toInt8.toInt32))) (kZ + 1) (vp_nar .byte ((iA >>> (8 &&& 31)).toInt8.toInt32)))] hP hD rfl
        clear hP hD
        obtain ⟨hP, hD⟩ := hPD
        refine lv_iinc (v := 0) (lv' := [(3, .int 0), (0, .ref qx), (1, .int iA), (2, .int 3)]) hx hb dX5_feed_63 hl (k := 0) rfl (by decide +kernel) (by decide +kernel) rfl (fun ls => ?_)
        clear hl
        intro hl
        refine lv_goto (tgt := 48) hx hb dX5_feed_66 (by decide +kernel) ?_
        refine lv_iload_n hx hb dX5_feed_48 rfl (lv_at hl 0 rfl) ?_
        refine lv_if_lt (tgt := 69) hx hb dX5_feed_49 (by decide +kernel) (fun h9 => absurd h9 (by decide +kernel)) (fun _ => ?_)
        refine lv_aload_n hx hb dX5_feed_52 rfl (lv_at hl 1 rfl) ?_
        refine va_get (D := G) (ci := 4) (v := .ref qa) (C := RX5) (T := TX5) (N := 9) hx hb hts iX_X5 hown hK hP 0 rfl rfl 4 (by decide +kernel) (hts _ m_t178) (fun _ h9 => h9) rfl dX5_feed_53 ?_
        refine lv_iload_n hx hb dX5_feed_56 rfl (lv_at hl 2 rfl) ?_
        refine lv_iload_n hx hb dX5_feed_57 rfl (lv_at hl 0 rfl) ?_
        refine lv_ishr hx hb dX5_feed_58 ?_
        refine lv_i2b (v := (iA >>> (0 &&& 31)).toInt8.toInt32) hx hb dX5_feed_59 rfl ?_
        refine cVv (As := [.int ((iA >>> (0 &&& 31)).toInt8.toInt32)]) (rest := []) (b := qa) (q := (RX3, TX3, 7)) ⟨hx, hb, hml, hown, hts⟩ (c_X3_append l G cy (H).size qa qab ((kZ + 1) + 1) (.int iT1) (.int iT2) (.int iT3) (.int iT4) (.ref qd) (upd (upd fB kZ (vp_nar .byte ((iA >>> (16 &&& 31)).toInt8.toInt32))) (kZ + 1) (vp_nar .byte ((iA >>> (8 &&& 31)).toInt8.toInt32))) ((iA >>> (0 &&& 31)).toInt8.toInt32) (by omega)) L_X5_150 hN hP hD hS hA [2, 3] [true, true, false, false] rfl (by decide +kernel) rfl 2 2 rfl rfl rfl ⟨Nat.le_of_ble_eq_true rfl, Nat.le_of_ble_eq_true rfl⟩ hl.1 (Nat.le_of_ble_eq_true rfl) dX5_feed_60 ⟨Nat.le_of_ble_eq_true rfl, Nat.le_of_ble_eq_true rfl⟩ (fun u_41 H locs h_40 => ?_)
        clear hP hD hS
        intro hP hD hS
        subst h_40
        have hPD := pd_as [_, _, zzO qa 2 [.ref qab, .int (nI (((kZ + 1) + 1) + 1)), .int iT1, .int iT2, .int iT3, .int iT4, .ref qd], zzB cy qab 250 (upd (upd (upd fB kZ (vp_nar .byte ((iA >>> (16 &&& 31)).toInt8.toInt32))) (kZ + 1) (vp_nar .byte ((iA >>> (8 &&& 31)).toInt8.toInt32))) ((kZ + 1) + 1) (vp_nar .byte ((iA >>> (0 &&& 31)).toInt8.toInt32)))] hP hD rfl
        clear hP hD
        obtain ⟨hP, hD⟩ := hPD
        refine lv_iinc (v := (-8)) (lv' := [(3, .int (-8)), (0, .ref qx), (1, .int iA), (2, .int 3)]) hx hb dX5_feed_63 hl (k := 0) rfl (by decide +kernel) (by decide +kernel) rfl (fun ls => ?_)
        clear hl
        intro hl
        refine lv_goto (tgt := 48) hx hb dX5_feed_66 (by decide +kernel) ?_
        refine lv_iload_n hx hb dX5_feed_48 rfl (lv_at hl 0 rfl) ?_
        refine lv_if_lt (tgt := 69) hx hb dX5_feed_49 (by decide +kernel) (fun _ => ?_) (fun h9 => absurd (by decide +kernel) h9)
        refine lv_aload_n hx hb dX5_feed_69 rfl (lv_at hl 1 rfl) ?_
        refine va_get (D := G) (ci := 4) (v := .ref qa) (C := RX5) (T := TX5) (N := 9) hx hb hts iX_X5 hown hK hP 0 rfl rfl 4 (by decide +kernel) (hts _ m_t178) (fun _ h9 => h9) rfl dX5_feed_70 ?_
        refine va_getN (D := G) (ci := 2) (v := .int (nI (((kZ + 1) + 1) + 1))) (C := RX3) (T := TX3) (N := 7) hx hb hts iX_X3 hown hK hP 2 rfl rfl 1 (by decide +kernel) (va_Nw.use rfl (hN.2.1 (RX5, 148, "EachBookOnce$Tape", "size", "I") (List.mem_of_getElem? (i := 29) rfl))) (fun _ h9 => h9) rfl dX5_feed_73 ?_
        exact endWs [[true, true, true, true]] hx hb hr hlocks rfl hP hD rfl (by decide +kernel) hS ⟨fR, (((kZ + 1) + 1) + 1), iT1, iT2, iT3, iT4, upd (upd (upd fB kZ (vp_nar .byte ((iA >>> (16 &&& 31)).toInt8.toInt32))) (kZ + 1) (vp_nar .byte ((iA >>> (8 &&& 31)).toInt8.toInt32))) ((kZ + 1) + 1) (vp_nar .byte ((iA >>> (0 &&& 31)).toInt8.toInt32)), rfl, ⟨Or.inr ⟨3, by omega, by omega, rfl, Or.inr ⟨rfl, fd_yes (k := 3) (by omega) (by omega) c_29, rfl⟩⟩, Or.inr ⟨3, by omega, by omega, rfl, rfl, fd_s3 (nrm_byte _) (nrm_byte _) (nrm_byte _)⟩⟩, trivial⟩ dX5_feed_76
      · refine lv_aload_n hx hb dX5_feed_34 rfl (lv_at hl 0 rfl) ?_
        refine lv_bipush (v := (-6)) hx hb dX5_feed_35 (by decide +kernel) ?_
        refine cVi (As := [.int (-6)]) (rest := []) (b := qx) (q := (RX5, TX5, 9)) ⟨hx, hb, hml, hown, hts⟩ (c_X5_refuse6 l G cy (s.heap).size qx qt qk qp qs qa qr iKp iYe iTv fR) L_X5_56 hN hP hD hS hA [0, 1] [false, false, true, true] rfl (by decide +kernel) rfl 0 4 rfl rfl rfl ⟨Nat.le_of_ble_eq_true rfl, Nat.le_of_ble_eq_true rfl⟩ hl.1 (Nat.le_of_ble_eq_true rfl) dX5_feed_37 ⟨Nat.le_of_ble_eq_true rfl, Nat.le_of_ble_eq_true rfl⟩ (fun r_43 u_45 H locs h_44 => ?_)
        clear hP hD hS
        intro hP hD hS
        obtain ⟨fX_46, rfl, h_44⟩ := h_44
        have hPD := pd_as [_, _, _, zzI cy qr 5 fX_46] hP hD rfl
        clear hP hD
        obtain ⟨hP, hD⟩ := hPD
        subst h_44
        exact endWs [[false, false, true, true], [true, true]] hx hb hr hlocks rfl hP hD rfl (by decide +kernel) hS ⟨fX_46, kZ, iT1, iT2, iT3, iT4, fB, rfl, ⟨Or.inr ⟨3, by omega, by omega, rfl, Or.inl ⟨rfl, fd_no (k := 3) (by omega) (by omega) c_29, rfl⟩⟩, Or.inl ⟨rfl, rfl⟩⟩, trivial⟩ dX5_feed_40
    · refine lv_aload_n hx hb dX5_feed_19 rfl (lv_at hl 0 rfl) ?_
      refine va_get (D := G) (ci := 4) (v := .ref qa) (C := RX5) (T := TX5) (N := 9) hx hb hts iX_X5 hown hK hP 0 rfl rfl 4 (by decide +kernel) (hts _ m_t178) (fun _ h9 => h9) rfl dX5_feed_20 ?_
      refine va_getN (D := G) (ci := 2) (v := .int (nI kZ)) (C := RX3) (T := TX3) (N := 7) hx hb hts iX_X3 hown hK hP 2 rfl rfl 1 (by decide +kernel) (va_Nw.use rfl (hN.2.1 (RX5, 148, "EachBookOnce$Tape", "size", "I") (List.mem_of_getElem? (i := 29) rfl))) (fun _ h9 => h9) rfl dX5_feed_23 ?_
      refine lv_sipush (v := 250) hx hb dX5_feed_26 (by decide +kernel) ?_
      refine lv_iload_n hx hb dX5_feed_29 rfl (lv_at hl 2 rfl) ?_
      refine lv_isub hx hb dX5_feed_30 ?_
      refine lv_seti (v := 246) (by decide +kernel) ?_
      refine lv_icmp_le (tgt := 41) hx hb dX5_feed_31 (by decide +kernel) (fun c_47 => ?_) (fun c_47 => ?_)
      · have hfd : kZ + 4 ≤ 250 := fd_yes (k := 4) (by omega) (by omega) c_47
        refine lv_bipush (v := 8) hx hb dX5_feed_41 (by decide +kernel) ?_
        refine lv_iload_n hx hb dX5_feed_43 rfl (lv_at hl 2 rfl) ?_
        refine lv_iconst (v := 1) hx hb dX5_feed_44 (by decide +kernel) ?_
        refine lv_isub hx hb dX5_feed_45 ?_
        refine lv_seti (v := 3) (by decide +kernel) ?_
        refine lv_imul hx hb dX5_feed_46 ?_
        refine lv_seti (v := 24) (by decide +kernel) ?_
        refine lv_istore_n (lv' := [(3, .int 24), (0, .ref qx), (1, .int iA), (2, .int 4)]) hx hb dX5_feed_47 rfl hl (by decide +kernel) rfl (fun ls => ?_)
        clear hl
        intro hl
        refine lv_iload_n hx hb dX5_feed_48 rfl (lv_at hl 0 rfl) ?_
        refine lv_if_lt (tgt := 69) hx hb dX5_feed_49 (by decide +kernel) (fun h9 => absurd h9 (by decide +kernel)) (fun _ => ?_)
        refine lv_aload_n hx hb dX5_feed_52 rfl (lv_at hl 1 rfl) ?_
        refine va_get (D := G) (ci := 4) (v := .ref qa) (C := RX5) (T := TX5) (N := 9) hx hb hts iX_X5 hown hK hP 0 rfl rfl 4 (by decide +kernel) (hts _ m_t178) (fun _ h9 => h9) rfl dX5_feed_53 ?_
        refine lv_iload_n hx hb dX5_feed_56 rfl (lv_at hl 2 rfl) ?_
        refine lv_iload_n hx hb dX5_feed_57 rfl (lv_at hl 0 rfl) ?_
        refine lv_ishr hx hb dX5_feed_58 ?_
        refine lv_i2b (v := (iA >>> (24 &&& 31)).toInt8.toInt32) hx hb dX5_feed_59 rfl ?_
        refine cVv (As := [.int ((iA >>> (24 &&& 31)).toInt8.toInt32)]) (rest := []) (b := qa) (q := (RX3, TX3, 7)) ⟨hx, hb, hml, hown, hts⟩ (c_X3_append l G cy (s.heap).size qa qab kZ (.int iT1) (.int iT2) (.int iT3) (.int iT4) (.ref qd) fB ((iA >>> (24 &&& 31)).toInt8.toInt32) (by omega)) L_X5_150 hN hP hD hS hA [2, 3] [true, true, false, false] rfl (by decide +kernel) rfl 2 2 rfl rfl rfl ⟨Nat.le_of_ble_eq_true rfl, Nat.le_of_ble_eq_true rfl⟩ hl.1 (Nat.le_of_ble_eq_true rfl) dX5_feed_60 ⟨Nat.le_of_ble_eq_true rfl, Nat.le_of_ble_eq_true rfl⟩ (fun u_51 H locs h_50 => ?_)
        clear hP hD hS
        intro hP hD hS
        subst h_50
        have hPD := pd_as [_, _, _, zzB cy qab 250 (upd fB kZ (vp_nar .byte ((iA >>> (24 &&& 31)).toInt8.toInt32)))] hP hD rfl
        clear hP hD
        obtain ⟨hP, hD⟩ := hPD
        refine lv_iinc (v := 16) (lv' := [(3, .int 16), (0, .ref qx), (1, .int iA), (2, .int 4)]) hx hb dX5_feed_63 hl (k := 0) rfl (by decide +kernel) (by decide +kernel) rfl (fun ls => ?_)
        clear hl
        intro hl
        refine lv_goto (tgt := 48) hx hb dX5_feed_66 (by decide +kernel) ?_
        refine lv_iload_n hx hb dX5_feed_48 rfl (lv_at hl 0 rfl) ?_
        refine lv_if_lt (tgt := 69) hx hb dX5_feed_49 (by decide +kernel) (fun h9 => absurd h9 (by decide +kernel)) (fun _ => ?_)
        refine lv_aload_n hx hb dX5_feed_52 rfl (lv_at hl 1 rfl) ?_
        refine va_get (D := G) (ci := 4) (v := .ref qa) (C := RX5) (T := TX5) (N := 9) hx hb hts iX_X5 hown hK hP 0 rfl rfl 4 (by decide +kernel) (hts _ m_t178) (fun _ h9 => h9) rfl dX5_feed_53 ?_
        refine lv_iload_n hx hb dX5_feed_56 rfl (lv_at hl 2 rfl) ?_
        refine lv_iload_n hx hb dX5_feed_57 rfl (lv_at hl 0 rfl) ?_
        refine lv_ishr hx hb dX5_feed_58 ?_
        refine lv_i2b (v := (iA >>> (16 &&& 31)).toInt8.toInt32) hx hb dX5_feed_59 rfl ?_
        refine cVv (As := [.int ((iA >>> (16 &&& 31)).toInt8.toInt32)]) (rest := []) (b := qa) (q := (RX3, TX3, 7)) ⟨hx, hb, hml, hown, hts⟩ (c_X3_append l G cy (H).size qa qab (kZ + 1) (.int iT1) (.int iT2) (.int iT3) (.int iT4) (.ref qd) (upd fB kZ (vp_nar .byte ((iA >>> (24 &&& 31)).toInt8.toInt32))) ((iA >>> (16 &&& 31)).toInt8.toInt32) (by omega)) L_X5_150 hN hP hD hS hA [2, 3] [true, true, false, false] rfl (by decide +kernel) rfl 2 2 rfl rfl rfl ⟨Nat.le_of_ble_eq_true rfl, Nat.le_of_ble_eq_true rfl⟩ hl.1 (Nat.le_of_ble_eq_true rfl) dX5_feed_60 ⟨Nat.le_of_ble_eq_true rfl, Nat.le_of_ble_eq_true rfl⟩ (fun u_55 H locs h_54 => ?_)
        clear hP hD hS
        intro hP hD hS
        subst h_54
        have hPD := pd_as [_, _, _, zzB cy qab 250 (upd (upd fB kZ (vp_nar .byte ((iA >>> (24 &&& 31)).toInt8.toInt32))) (kZ + 1) (vp_nar .byte ((iA >>> (16 &&& 31)).toInt8.toInt32)))] hP hD rfl
        clear hP hD
        obtain ⟨hP, hD⟩ := hPD
        refine lv_iinc (v := 8) (lv' := [(3, .int 8), (0, .ref qx), (1, .int iA), (2, .int 4)]) hx hb dX5_feed_63 hl (k := 0) rfl (by decide +kernel) (by decide +kernel) rfl (fun ls => ?_)
        clear hl
        intro hl
        refine lv_goto (tgt := 48) hx hb dX5_feed_66 (by decide +kernel) ?_
        refine lv_iload_n hx hb dX5_feed_48 rfl (lv_at hl 0 rfl) ?_
        refine lv_if_lt (tgt := 69) hx hb dX5_feed_49 (by decide +kernel) (fun h9 => absurd h9 (by decide +kernel)) (fun _ => ?_)
        refine lv_aload_n hx hb dX5_feed_52 rfl (lv_at hl 1 rfl) ?_
        refine va_get (D := G) (ci := 4) (v := .ref qa) (C := RX5) (T := TX5) (N := 9) hx hb hts iX_X5 hown hK hP 0 rfl rfl 4 (by decide +kernel) (hts _ m_t178) (fun _ h9 => h9) rfl dX5_feed_53 ?_
        refine lv_iload_n hx hb dX5_feed_56 rfl (lv_at hl 2 rfl) ?_
        refine lv_iload_n hx hb dX5_feed_57 rfl (lv_at hl 0 rfl) ?_
        refine lv_ishr hx hb dX5_feed_58 ?_
        refine lv_i2b (v := (iA >>> (8 &&& 31)).toInt8.toInt32) hx hb dX5_feed_59 rfl ?_
        refine cVv (As := [.int ((iA >>> (8 &&& 31)).toInt8.toInt32)]) (rest := []) (b := qa) (q := (RX3, TX3, 7)) ⟨hx, hb, hml, hown, hts⟩ (c_X3_append l G cy (H).size qa qab ((kZ + 1) + 1) (.int iT1) (.int iT2) (.int iT3) (.int iT4) (.ref qd) (upd (upd fB kZ (vp_nar .byte ((iA >>> (24 &&& 31)).toInt8.toInt32))) (kZ + 1) (vp_nar .byte ((iA >>> (16 &&& 31)).toInt8.toInt32))) ((iA >>> (8 &&& 31)).toInt8.toInt32) (by omega)) L_X5_150 hN hP hD hS hA [2, 3] [true, true, false, false] rfl (by decide +kernel) rfl 2 2 rfl rfl rfl ⟨Nat.le_of_ble_eq_true rfl, Nat.le_of_ble_eq_true rfl⟩ hl.1 (Nat.le_of_ble_eq_true rfl) dX5_feed_60 ⟨Nat.le_of_ble_eq_true rfl, Nat.le_of_ble_eq_true rfl⟩ (fun u_59 H locs h_58 => ?_)
        clear hP hD hS
        intro hP hD hS
        subst h_58
        have hPD := pd_as [_, _, _, zzB cy qab 250 (upd (upd (upd fB kZ (vp_nar .byte ((iA >>> (24 &&& 31)).toInt8.toInt32))) (kZ + 1) (vp_nar .byte ((iA >>> (16 &&& 31)).toInt8.toInt32))) ((kZ + 1) + 1) (vp_nar .byte ((iA >>> (8 &&& 31)).toInt8.toInt32)))] hP hD rfl
        clear hP hD
        obtain ⟨hP, hD⟩ := hPD
        refine lv_iinc (v := 0) (lv' := [(3, .int 0), (0, .ref qx), (1, .int iA), (2, .int 4)]) hx hb dX5_feed_63 hl (k := 0) rfl (by decide +kernel) (by decide +kernel) rfl (fun ls => ?_)
        clear hl
        intro hl
        refine lv_goto (tgt := 48) hx hb dX5_feed_66 (by decide +kernel) ?_
        refine lv_iload_n hx hb dX5_feed_48 rfl (lv_at hl 0 rfl) ?_
        refine lv_if_lt (tgt := 69) hx hb dX5_feed_49 (by decide +kernel) (fun h9 => absurd h9 (by decide +kernel)) (fun _ => ?_)
        refine lv_aload_n hx hb dX5_feed_52 rfl (lv_at hl 1 rfl) ?_
        refine va_get (D := G) (ci := 4) (v := .ref qa) (C := RX5) (T := TX5) (N := 9) hx hb hts iX_X5 hown hK hP 0 rfl rfl 4 (by decide +kernel) (hts _ m_t178) (fun _ h9 => h9) rfl dX5_feed_53 ?_
        refine lv_iload_n hx hb dX5_feed_56 rfl (lv_at hl 2 rfl) ?_
        refine lv_iload_n hx hb dX5_feed_57 rfl (lv_at hl 0 rfl) ?_
        refine lv_ishr hx hb dX5_feed_58 ?_
        refine lv_i2b (v := (iA >>> (0 &&& 31)).toInt8.toInt32) hx hb dX5_feed_59 rfl ?_
        refine cVv (As := [.int ((iA >>> (0 &&& 31)).toInt8.toInt32)]) (rest := []) (b := qa) (q := (RX3, TX3, 7)) ⟨hx, hb, hml, hown, hts⟩ (c_X3_append l G cy (H).size qa qab (((kZ + 1) + 1) + 1) (.int iT1) (.int iT2) (.int iT3) (.int iT4) (.ref qd) (upd (upd (upd fB kZ (vp_nar .byte ((iA >>> (24 &&& 31)).toInt8.toInt32))) (kZ + 1) (vp_nar .byte ((iA >>> (16 &&& 31)).toInt8.toInt32))) ((kZ + 1) + 1) (vp_nar .byte ((iA >>> (8 &&& 31)).toInt8.toInt32))) ((iA >>> (0 &&& 31)).toInt8.toInt32) (by omega)) L_X5_150 hN hP hD hS hA [2, 3] [true, true, false, false] rfl (by decide +kernel) rfl 2 2 rfl rfl rfl ⟨Nat.le_of_ble_eq_true rfl, Nat.le_of_ble_eq_true rfl⟩ hl.1 (Nat.le_of_ble_eq_true rfl) dX5_feed_60 ⟨Nat.le_of_ble_eq_true rfl, Nat.le_of_ble_eq_true rfl⟩ (fun u_63 H locs h_62 => ?_)
        clear hP hD hS
        intro hP hD hS
        subst h_62
        have hPD := pd_as [_, _, zzO qa 2 [.ref qab, .int (nI ((((kZ + 1) + 1) + 1) + 1)), .int iT1, .int iT2, .int iT3, .int iT4, .ref qd], zzB cy qab 250 (upd (upd (upd (upd fB kZ (vp_nar .byte ((iA >>> (24 &&& 31)).toInt8.toInt32))) (kZ + 1) (vp_nar .byte ((iA >>> (16 &&& 31)).toInt8.toInt32))) ((kZ + 1) + 1) (vp_nar .byte ((iA >>> (8 &&& 31)).toInt8.toInt32))) (((kZ + 1) + 1) + 1) (vp_nar .byte ((iA >>> (0 &&& 31)).toInt8.toInt32)))] hP hD rfl
        clear hP hD
        obtain ⟨hP, hD⟩ := hPD
        refine lv_iinc (v := (-8)) (lv' := [(3, .int (-8)), (0, .ref qx), (1, .int iA), (2, .int 4)]) hx hb dX5_feed_63 hl (k := 0) rfl (by decide +kernel) (by decide +kernel) rfl (fun ls => ?_)
        clear hl
        intro hl
        refine lv_goto (tgt := 48) hx hb dX5_feed_66 (by decide +kernel) ?_
        refine lv_iload_n hx hb dX5_feed_48 rfl (lv_at hl 0 rfl) ?_
        refine lv_if_lt (tgt := 69) hx hb dX5_feed_49 (by decide +kernel) (fun _ => ?_) (fun h9 => absurd (by decide +kernel) h9)
        refine lv_aload_n hx hb dX5_feed_69 rfl (lv_at hl 1 rfl) ?_
        refine va_get (D := G) (ci := 4) (v := .ref qa) (C := RX5) (T := TX5) (N := 9) hx hb hts iX_X5 hown hK hP 0 rfl rfl 4 (by decide +kernel) (hts _ m_t178) (fun _ h9 => h9) rfl dX5_feed_70 ?_
        refine va_getN (D := G) (ci := 2) (v := .int (nI ((((kZ + 1) + 1) + 1) + 1))) (C := RX3) (T := TX3) (N := 7) hx hb hts iX_X3 hown hK hP 2 rfl rfl 1 (by decide +kernel) (va_Nw.use rfl (hN.2.1 (RX5, 148, "EachBookOnce$Tape", "size", "I") (List.mem_of_getElem? (i := 29) rfl))) (fun _ h9 => h9) rfl dX5_feed_73 ?_
        exact endWs [[true, true, true, true]] hx hb hr hlocks rfl hP hD rfl (by decide +kernel) hS ⟨fR, ((((kZ + 1) + 1) + 1) + 1), iT1, iT2, iT3, iT4, upd (upd (upd (upd fB kZ (vp_nar .byte ((iA >>> (24 &&& 31)).toInt8.toInt32))) (kZ + 1) (vp_nar .byte ((iA >>> (16 &&& 31)).toInt8.toInt32))) ((kZ + 1) + 1) (vp_nar .byte ((iA >>> (8 &&& 31)).toInt8.toInt32))) (((kZ + 1) + 1) + 1) (vp_nar .byte ((iA >>> (0 &&& 31)).toInt8.toInt32)), rfl, ⟨Or.inr ⟨4, by omega, by omega, rfl, Or.inr ⟨rfl, fd_yes (k := 4) (by omega) (by omega) c_47, rfl⟩⟩, Or.inr ⟨4, by omega, by omega, rfl, rfl, fd_s4 (nrm_byte _) (nrm_byte _) (nrm_byte _) (nrm_byte _)⟩⟩, trivial⟩ dX5_feed_76
      · refine lv_aload_n hx hb dX5_feed_34 rfl (lv_at hl 0 rfl) ?_
        refine lv_bipush (v := (-6)) hx hb dX5_feed_35 (by decide +kernel) ?_
        refine cVi (As := [.int (-6)]) (rest := []) (b := qx) (q := (RX5, TX5, 9)) ⟨hx, hb, hml, hown, hts⟩ (c_X5_refuse6 l G cy (s.heap).size qx qt qk qp qs qa qr iKp iYe iTv fR) L_X5_56 hN hP hD hS hA [0, 1] [false, false, true, true] rfl (by decide +kernel) rfl 0 4 rfl rfl rfl ⟨Nat.le_of_ble_eq_true rfl, Nat.le_of_ble_eq_true rfl⟩ hl.1 (Nat.le_of_ble_eq_true rfl) dX5_feed_37 ⟨Nat.le_of_ble_eq_true rfl, Nat.le_of_ble_eq_true rfl⟩ (fun r_65 u_67 H locs h_66 => ?_)
        clear hP hD hS
        intro hP hD hS
        obtain ⟨fX_68, rfl, h_66⟩ := h_66
        have hPD := pd_as [_, _, _, zzI cy qr 5 fX_68] hP hD rfl
        clear hP hD
        obtain ⟨hP, hD⟩ := hPD
        subst h_66
        exact endWs [[false, false, true, true], [true, true]] hx hb hr hlocks rfl hP hD rfl (by decide +kernel) hS ⟨fX_68, kZ, iT1, iT2, iT3, iT4, fB, rfl, ⟨Or.inr ⟨4, by omega, by omega, rfl, Or.inl ⟨rfl, fd_no (k := 4) (by omega) (by omega) c_47, rfl⟩⟩, Or.inl ⟨rfl, rfl⟩⟩, trivial⟩ dX5_feed_40
  · refine lv_if_ne (tgt := 19) hx hb dX5_feed_9 (by decide +kernel) (fun h9 => absurd (by decide +kernel) h9) (fun _ => ?_)
    refine lv_aload_n hx hb dX5_feed_12 rfl (lv_at hl 0 rfl) ?_
    refine lv_bipush (v := (-2)) hx hb dX5_feed_13 (by decide +kernel) ?_
    refine cVi (As := [.int (-2)]) (rest := []) (b := qx) (q := (RX5, TX5, 9)) ⟨hx, hb, hml, hown, hts⟩ (c_X5_refuse2 l G cy (s.heap).size qx qt qk qp qs qa qr iKp iYe iTv fR) L_X5_56 hN hP hD hS hA [0, 1] [false, false, true, true] rfl (by decide +kernel) rfl 0 4 rfl rfl rfl ⟨Nat.le_of_ble_eq_true rfl, Nat.le_of_ble_eq_true rfl⟩ hl.1 (Nat.le_of_ble_eq_true rfl) dX5_feed_15 ⟨Nat.le_of_ble_eq_true rfl, Nat.le_of_ble_eq_true rfl⟩ (fun r_70 u_72 H locs h_71 => ?_)
    clear hP hD hS
    intro hP hD hS
    obtain ⟨fX_73, rfl, h_71⟩ := h_71
    have hPD := pd_as [_, _, _, zzI cy qr 5 fX_73] hP hD rfl
    clear hP hD
    obtain ⟨hP, hD⟩ := hPD
    subst h_71
    exact endWs [[false, false, true, true], [true, true]] hx hb hr hlocks rfl hP hD rfl (by decide +kernel) hS ⟨fX_73, kZ, iT1, iT2, iT3, iT4, fB, rfl, ⟨Or.inl ⟨rfl, h_3, rfl⟩, Or.inl ⟨rfl, rfl⟩⟩, trivial⟩ dX5_feed_18
set_option maxHeartbeats 4000000 in
set_option maxRecDepth 100000 in
theorem x_X6_feed (l : Launch) (G : va_G) (cy : Nat → ClassId) (sz : Nat) (qm : Nat) (qmh : Nat) (qmo : Nat) (qmz : Nat) (qmR : Nat) (qmv : Nat) (qmk : Nat) (qma : Nat) (qmt : Nat) (kZ : Nat) (qmr : Nat) (tA : TA) (qmB : Nat) (qmO : Nat) (qmK : Nat) (iEn : Int32) (iTk : Int32) (uP : UM) (uU : UM) (kAt : Nat) (iTo : Int32) (iFr : Int32) (JFi : Int64) (iFa : Int32) (qm3 : Nat) (iSt : Int32) (iLv : Int32) (iWs : Int32) (vLa : Value) (qmu : Nat) (qmy : Nat) (qmb : Nat) (qms : Nat) (iOm : Int32) (fMt : Nat → Int32) (fMr : Nat → Int32) (iA : Int32) (iB : Int32)  (hZ : kZ ≤ 250) : MW l yX6_feed cX6_feed 4 (some .int) 16 0 0 G cy [zzO qm 5 [.ref qmh, .ref qmo, .ref qmz, .ref qmR, .ref qmv, .ref qmk, .ref qma, .ref qmt, .int (nI kZ), .ref qmr, .int (nI (T_nb tA)), .ref qmB, .int (nI (T_np tA)), .ref qmO, .ref qmK, .int iEn, .int iTk, .int (T_sd tA), ov uP, ov uU, .int (nI kAt), .int iTo, .int iFr, .long JFi, .int iFa, .ref qm3, .int iSt, .int iLv, .int iWs, vLa, .ref qmu, .ref qmy, .ref qmb, .ref qms, .int iOm], zzI cy qmt 250 fMt, zzI cy qmr 8 fMr] sz [.ref qm, .int iA, .int iB] (Wi G (fun r u => ∃ (kNz : Nat) (fNt : Nat → Int32) (fNr : Nat → Int32), u = [zzO qm 5 [.ref qmh, .ref qmo, .ref qmz, .ref qmR, .ref qmv, .ref qmk, .ref qma, .ref qmt, .int (nI kNz), .ref qmr, .int (nI (T_nb tA)), .ref qmB, .int (nI (T_np tA)), .ref qmO, .ref qmK, .int iEn, .int iTk, .int (T_sd tA), ov uP, ov uU, .int (nI kAt), .int iTo, .int iFr, .long JFi, .int iFa, .ref qm3, .int iSt, .int iLv, .int iWs, vLa, .ref qmu, .ref qmy, .ref qmb, .ref qms, .int iOm], zzI cy qmt 250 fNt, zzI cy qmr 8 fNr] ∧ (PXfeed kZ iB r kNz ∧ FD fMt kZ iA iB kNz fNt) ∧ (True))) := by
  refine enW RX6 (by decide +kernel) rfl (Nat.le_of_ble_eq_true rfl) (fun p e s m below meth c ls A hx hb hml hown hts hr hlocks hP hN hl hin hD hA hS => ?_)
  have hin : meth.name = _ := hin
  have hK := hN.1
  replace hl : lv_has ls 4 [(0, .ref qm), (1, .int iA), (2, .int iB)] := hl
  refine lv_iload_n hx hb dX6_feed_0 rfl (lv_at hl 2 rfl) ?_
  refine lv_i2l (v := iB.toInt64) hx hb dX6_feed_1 rfl ?_
  refine lv_lconst (v := 1) hx hb dX6_feed_2 (by decide +kernel) ?_
  refine lv_ldc2 hx hb hown (hts _ m_t964) dX6_feed_3 ?_
  refine kRi (rS (As := [.long iB.toInt64, .long 1, .long 4]) (rest := []) ⟨hx, hb, hml, hown, hts⟩ (c_X6_in l G cy iB.toInt64 1 4) L_X6_74 (preRS hN hP [] rfl) rfl ⟨Nat.le_of_ble_eq_true rfl, Nat.le_of_ble_eq_true rfl⟩ hl.1 (Nat.le_of_ble_eq_true rfl) dX6_feed_6 ⟨Nat.le_of_ble_eq_true rfl, Nat.le_of_ble_eq_true rfl⟩) (fun r_1 h_2 => ?_)
  rcases h_2 with ⟨rfl, h_3⟩ | ⟨rfl, h_3⟩
  · refine lv_if_ne (tgt := 19) hx hb dX6_feed_9 (by decide +kernel) (fun _ => ?_) (fun h9 => absurd h9 (by decide +kernel))
    rcases in14 h_3 with rfl | rfl | rfl | rfl
    · refine lv_iload_n hx hb dX6_feed_19 rfl (lv_at hl 2 rfl) ?_
      refine lv_sipush (v := 250) hx hb dX6_feed_20 (by decide +kernel) ?_
      refine lv_aload_n hx hb dX6_feed_23 rfl (lv_at hl 0 rfl) ?_
      refine va_get (D := G) (ci := 5) (v := .int (nI kZ)) (C := RX6) (T := TX6) (N := 35) hx hb hts iX_X6 hown hK hP 0 rfl rfl 8 (by decide +kernel) (hts _ m_t858) (fun _ h9 => h9) rfl dX6_feed_24 ?_
      refine lv_isub hx hb dX6_feed_27 ?_
      refine lv_icmp_le (tgt := 38) hx hb dX6_feed_28 (by decide +kernel) (fun c_5 => ?_) (fun c_5 => ?_)
      · have hfd : kZ + 1 ≤ 250 := fm_yes (k := 1) (by omega) (by omega) c_5
        refine lv_iload_n hx hb dX6_feed_38 rfl (lv_at hl 2 rfl) ?_
        refine lv_iconst (v := 1) hx hb dX6_feed_39 (by decide +kernel) ?_
        refine lv_isub hx hb dX6_feed_40 ?_
        refine lv_seti (v := 0) (by decide +kernel) ?_
        refine lv_istore_n (lv' := [(3, .int 0), (0, .ref qm), (1, .int iA), (2, .int 1)]) hx hb dX6_feed_41 rfl hl (by decide +kernel) rfl (fun ls => ?_)
        clear hl
        intro hl
        refine lv_iload_n hx hb dX6_feed_42 rfl (lv_at hl 0 rfl) ?_
        refine lv_if_lt (tgt := 78) hx hb dX6_feed_43 (by decide +kernel) (fun h9 => absurd h9 (by decide +kernel)) (fun _ => ?_)
        refine lv_aload_n hx hb dX6_feed_46 rfl (lv_at hl 1 rfl) ?_
        refine va_get (D := G) (ci := 5) (v := .ref qmt) (C := RX6) (T := TX6) (N := 35) hx hb hts iX_X6 hown hK hP 0 rfl rfl 7 (by decide +kernel) (hts _ m_t857) (fun _ h9 => h9) rfl dX6_feed_47 ?_
        refine lv_aload_n hx hb dX6_feed_50 rfl (lv_at hl 1 rfl) ?_
        refine lv_dup hx hb dX6_feed_51 rfl ?_
        refine va_get (D := G) (ci := 5) (v := .int (nI kZ)) (C := RX6) (T := TX6) (N := 35) hx hb hts iX_X6 hown hK hP 0 rfl rfl 8 (by decide +kernel) (hts _ m_t858) (fun _ h9 => h9) rfl dX6_feed_52 ?_
        refine lv_dup_x1 hx hb dX6_feed_55 rfl rfl ?_
        refine lv_iconst (v := 1) hx hb dX6_feed_56 (by decide +kernel) ?_
        refine lv_iadd hx hb dX6_feed_57 ?_
        refine lv_seti (v := nI (kZ + 1)) (nI_1 _) ?_
        refine va_put (D := G) (ci := 5) (v := .int (nI (kZ + 1))) (ty := .int) (C := RX6) (T := TX6) (N := 35) hx hb hts iX_X6 tyX6 tyX6_ok nmX6 hown hK hP hD hS 0 rfl rfl 8 (by decide +kernel) (hts _ m_t858) (fun _ h9 => h9) rfl (by decide +kernel) rfl rfl (Nat.le_of_ble_eq_true rfl) dX6_feed_58 (fun H locs => ?_)
        clear hP hD hS
        intro hP hD hS
        have hPD := pd_as [zzO qm 5 [.ref qmh, .ref qmo, .ref qmz, .ref qmR, .ref qmv, .ref qmk, .ref qma, .ref qmt, .int (nI (kZ + 1)), .ref qmr, .int (nI (T_nb tA)), .ref qmB, .int (nI (T_np tA)), .ref qmO, .ref qmK, .int iEn, .int iTk, .int (T_sd tA), ov uP, ov uU, .int (nI kAt), .int iTo, .int iFr, .long JFi, .int iFa, .ref qm3, .int iSt, .int iLv, .int iWs, vLa, .ref qmu, .ref qmy, .ref qmb, .ref qms, .int iOm], _, _] hP hD rfl
        clear hP hD
        obtain ⟨hP, hD⟩ := hPD
        refine lv_iload_n hx hb dX6_feed_61 rfl (lv_at hl 2 rfl) ?_
        refine lv_bipush (v := 8) hx hb dX6_feed_62 (by decide +kernel) ?_
        refine lv_iload_n hx hb dX6_feed_64 rfl (lv_at hl 0 rfl) ?_
        refine lv_imul hx hb dX6_feed_65 ?_
        refine lv_seti (v := 0) (by decide +kernel) ?_
        refine lv_ishr hx hb dX6_feed_66 ?_
        refine lv_sipush (v := 255) hx hb dX6_feed_67 (by decide +kernel) ?_
        refine lv_iand hx hb dX6_feed_70 ?_
        refine va_iast hx hb hK hP hD hS 1 0 rfl rfl (vp_in_nI (by omega) (by omega)) dX6_feed_71 (fun H locs => ?_)
        clear hP hD hS
        intro hP hD hS
        rw [nI_clamp (n := kZ) (by omega)] at hP hD
        have hPD := pd_as [_, zzI cy qmt 250 (upd fMt kZ ((iA >>> (0 &&& 31)) &&& 255)), _] hP hD rfl
        clear hP hD
        obtain ⟨hP, hD⟩ := hPD
        refine lv_iinc (v := (-1)) (lv' := [(3, .int (-1)), (0, .ref qm), (1, .int iA), (2, .int 1)]) hx hb dX6_feed_72 hl (k := 0) rfl (by decide +kernel) (by decide +kernel) rfl (fun ls => ?_)
        clear hl
        intro hl
        refine lv_goto (tgt := 42) hx hb dX6_feed_75 (by decide +kernel) ?_
        refine lv_iload_n hx hb dX6_feed_42 rfl (lv_at hl 0 rfl) ?_
        refine lv_if_lt (tgt := 78) hx hb dX6_feed_43 (by decide +kernel) (fun _ => ?_) (fun h9 => absurd (by decide +kernel) h9)
        refine lv_aload_n hx hb dX6_feed_78 rfl (lv_at hl 1 rfl) ?_
        refine va_get (D := G) (ci := 5) (v := .int (nI (kZ + 1))) (C := RX6) (T := TX6) (N := 35) hx hb hts iX_X6 hown hK hP 0 rfl rfl 8 (by decide +kernel) (hts _ m_t858) (fun _ h9 => h9) rfl dX6_feed_79 ?_
        exact endWs [[true, true, true]] hx hb hr hlocks rfl hP hD rfl (by decide +kernel) hS ⟨(kZ + 1), (upd fMt kZ ((iA >>> (0 &&& 31)) &&& 255)), fMr, rfl, ⟨Or.inr ⟨1, by omega, by omega, rfl, Or.inr ⟨rfl, fm_yes (k := 1) (by omega) (by omega) c_5, rfl⟩⟩, Or.inr ⟨1, by omega, by omega, rfl, rfl, fd_s1 rfl⟩⟩, trivial⟩ dX6_feed_82
      · refine lv_aload_n hx hb dX6_feed_31 rfl (lv_at hl 0 rfl) ?_
        refine lv_bipush (v := (-6)) hx hb dX6_feed_32 (by decide +kernel) ?_
        refine cVi (As := [.int (-6)]) (rest := []) (b := qm) (q := (RX6, TX6, 35)) ⟨hx, hb, hml, hown, hts⟩ (c_X6_refuse6 l G cy (s.heap).size qm (.ref qmh) (.ref qmo) (.ref qmz) (.ref qmR) (.ref qmv) (.ref qmk) (.ref qma) (.ref qmt) (.int (nI kZ)) qmr tA qmB qmO qmK iEn iTk (ov uP) (ov uU) (.int (nI kAt)) (.int iTo) (.int iFr) (.long JFi) (.int iFa) (.ref qm3) (.int iSt) iLv iWs vLa (.ref qmu) (.ref qmy) (.ref qmb) (.ref qms) (.int iOm) fMr) L_X6_91 hN hP hD hS hA [0, 2] [false, true, false] rfl (by decide +kernel) rfl 0 5 rfl rfl rfl ⟨Nat.le_of_ble_eq_true rfl, Nat.le_of_ble_eq_true rfl⟩ hl.1 (Nat.le_of_ble_eq_true rfl) dX6_feed_34 ⟨Nat.le_of_ble_eq_true rfl, Nat.le_of_ble_eq_true rfl⟩ (fun r_8 u_10 H locs h_9 => ?_)
        clear hP hD hS
        intro hP hD hS
        obtain ⟨fX_11, rfl, h_9⟩ := h_9
        have hPD := pd_as [_, _, zzI cy qmr 8 fX_11] hP hD rfl
        clear hP hD
        obtain ⟨hP, hD⟩ := hPD
        subst h_9
        exact endWs [[false, true], [true, false, true]] hx hb hr hlocks rfl hP hD rfl (by decide +kernel) hS ⟨kZ, fMt, fX_11, rfl, ⟨Or.inr ⟨1, by omega, by omega, rfl, Or.inl ⟨rfl, fm_no (k := 1) (by omega) (by omega) c_5, rfl⟩⟩, Or.inl ⟨rfl, rfl⟩⟩, trivial⟩ dX6_feed_37
    · refine lv_iload_n hx hb dX6_feed_19 rfl (lv_at hl 2 rfl) ?_
      refine lv_sipush (v := 250) hx hb dX6_feed_20 (by decide +kernel) ?_
      refine lv_aload_n hx hb dX6_feed_23 rfl (lv_at hl 0 rfl) ?_
      refine va_get (D := G) (ci := 5) (v := .int (nI kZ)) (C := RX6) (T := TX6) (N := 35) hx hb hts iX_X6 hown hK hP 0 rfl rfl 8 (by decide +kernel) (hts _ m_t858) (fun _ h9 => h9) rfl dX6_feed_24 ?_
      refine lv_isub hx hb dX6_feed_27 ?_
      refine lv_icmp_le (tgt := 38) hx hb dX6_feed_28 (by decide +kernel) (fun c_12 => ?_) (fun c_12 => ?_)
      · have hfd : kZ + 2 ≤ 250 := fm_yes (k := 2) (by omega) (by omega) c_12
        refine lv_iload_n hx hb dX6_feed_38 rfl (lv_at hl 2 rfl) ?_
        refine lv_iconst (v := 1) hx hb dX6_feed_39 (by decide +kernel) ?_
        refine lv_isub hx hb dX6_feed_40 ?_
        refine lv_seti (v := 1) (by decide +kernel) ?_
        refine lv_istore_n (lv' := [(3, .int 1), (0, .ref qm), (1, .int iA), (2, .int 2)]) hx hb dX6_feed_41 rfl hl (by decide +kernel) rfl (fun ls => ?_)
        clear hl
        intro hl
        refine lv_iload_n hx hb dX6_feed_42 rfl (lv_at hl 0 rfl) ?_
        refine lv_if_lt (tgt := 78) hx hb dX6_feed_43 (by decide +kernel) (fun h9 => absurd h9 (by decide +kernel)) (fun _ => ?_)
        refine lv_aload_n hx hb dX6_feed_46 rfl (lv_at hl 1 rfl) ?_
        refine va_get (D := G) (ci := 5) (v := .ref qmt) (C := RX6) (T := TX6) (N := 35) hx hb hts iX_X6 hown hK hP 0 rfl rfl 7 (by decide +kernel) (hts _ m_t857) (fun _ h9 => h9) rfl dX6_feed_47 ?_
        refine lv_aload_n hx hb dX6_feed_50 rfl (lv_at hl 1 rfl) ?_
        refine lv_dup hx hb dX6_feed_51 rfl ?_
        refine va_get (D := G) (ci := 5) (v := .int (nI kZ)) (C := RX6) (T := TX6) (N := 35) hx hb hts iX_X6 hown hK hP 0 rfl rfl 8 (by decide +kernel) (hts _ m_t858) (fun _ h9 => h9) rfl dX6_feed_52 ?_
        refine lv_dup_x1 hx hb dX6_feed_55 rfl rfl ?_
        refine lv_iconst (v := 1) hx hb dX6_feed_56 (by decide +kernel) ?_
        refine lv_iadd hx hb dX6_feed_57 ?_
        refine lv_seti (v := nI (kZ + 1)) (nI_1 _) ?_
        refine va_put (D := G) (ci := 5) (v := .int (nI (kZ + 1))) (ty := .int) (C := RX6) (T := TX6) (N := 35) hx hb hts iX_X6 tyX6 tyX6_ok nmX6 hown hK hP hD hS 0 rfl rfl 8 (by decide +kernel) (hts _ m_t858) (fun _ h9 => h9) rfl (by decide +kernel) rfl rfl (Nat.le_of_ble_eq_true rfl) dX6_feed_58 (fun H locs => ?_)
        clear hP hD hS
        intro hP hD hS
        have hPD := pd_as [_, _, _] hP hD rfl
        clear hP hD
        obtain ⟨hP, hD⟩ := hPD
        refine lv_iload_n hx hb dX6_feed_61 rfl (lv_at hl 2 rfl) ?_
        refine lv_bipush (v := 8) hx hb dX6_feed_62 (by decide +kernel) ?_
        refine lv_iload_n hx hb dX6_feed_64 rfl (lv_at hl 0 rfl) ?_
        refine lv_imul hx hb dX6_feed_65 ?_
        refine lv_seti (v := 8) (by decide +kernel) ?_
        refine lv_ishr hx hb dX6_feed_66 ?_
        refine lv_sipush (v := 255) hx hb dX6_feed_67 (by decide +kernel) ?_
        refine lv_iand hx hb dX6_feed_70 ?_
        refine va_iast hx hb hK hP hD hS 1 0 rfl rfl (vp_in_nI (by omega) (by omega)) dX6_feed_71 (fun H locs => ?_)
        clear hP hD hS
        intro hP hD hS
        rw [nI_clamp (n := kZ) (by omega)] at hP hD
        have hPD := pd_as [_, zzI cy qmt 250 (upd fMt kZ ((iA >>> (8 &&& 31)) &&& 255)), _] hP hD rfl
        clear hP hD
        obtain ⟨hP, hD⟩ := hPD
        refine lv_iinc (v := 0) (lv' := [(3, .int 0), (0, .ref qm), (1, .int iA), (2, .int 2)]) hx hb dX6_feed_72 hl (k := 0) rfl (by decide +kernel) (by decide +kernel) rfl (fun ls => ?_)
        clear hl
        intro hl
        refine lv_goto (tgt := 42) hx hb dX6_feed_75 (by decide +kernel) ?_
        refine lv_iload_n hx hb dX6_feed_42 rfl (lv_at hl 0 rfl) ?_
        refine lv_if_lt (tgt := 78) hx hb dX6_feed_43 (by decide +kernel) (fun h9 => absurd h9 (by decide +kernel)) (fun _ => ?_)
        refine lv_aload_n hx hb dX6_feed_46 rfl (lv_at hl 1 rfl) ?_
        refine va_get (D := G) (ci := 5) (v := .ref qmt) (C := RX6) (T := TX6) (N := 35) hx hb hts iX_X6 hown hK hP 0 rfl rfl 7 (by decide +kernel) (hts _ m_t857) (fun _ h9 => h9) rfl dX6_feed_47 ?_
        refine lv_aload_n hx hb dX6_feed_50 rfl (lv_at hl 1 rfl) ?_
        refine lv_dup hx hb dX6_feed_51 rfl ?_
        refine va_get (D := G) (ci := 5) (v := .int (nI (kZ + 1))) (C := RX6) (T := TX6) (N := 35) hx hb hts iX_X6 hown hK hP 0 rfl rfl 8 (by decide +kernel) (hts _ m_t858) (fun _ h9 => h9) rfl dX6_feed_52 ?_
        refine lv_dup_x1 hx hb dX6_feed_55 rfl rfl ?_
        refine lv_iconst (v := 1) hx hb dX6_feed_56 (by decide +kernel) ?_
        refine lv_iadd hx hb dX6_feed_57 ?_
        refine lv_seti (v := nI ((kZ + 1) + 1)) (nI_1 _) ?_
        refine va_put (D := G) (ci := 5) (v := .int (nI ((kZ + 1) + 1))) (ty := .int) (C := RX6) (T := TX6) (N := 35) hx hb hts iX_X6 tyX6 tyX6_ok nmX6 hown hK hP hD hS 0 rfl rfl 8 (by decide +kernel) (hts _ m_t858) (fun _ h9 => h9) rfl (by decide +kernel) rfl rfl (Nat.le_of_ble_eq_true rfl) dX6_feed_58 (fun H locs => ?_)
        clear hP hD hS
        intro hP hD hS
        have hPD := pd_as [zzO qm 5 [.ref qmh, .ref qmo, .ref qmz, .ref qmR, .ref qmv, .ref qmk, .ref qma, .ref qmt, .int (nI ((kZ + 1) + 1)), .ref qmr, .int (nI (T_nb tA)), .ref qmB, .int (nI (T_np tA)), .ref qmO, .ref qmK, .int iEn, .int iTk, .int (T_sd tA), ov uP, ov uU, .int (nI kAt), .int iTo, .int iFr, .long JFi, .int iFa, .ref qm3, .int iSt, .int iLv, .int iWs, vLa, .ref qmu, .ref qmy, .ref qmb, .ref qms, .int iOm], _, _] hP hD rfl
        clear hP hD
        obtain ⟨hP, hD⟩ := hPD
        refine lv_iload_n hx hb dX6_feed_61 rfl (lv_at hl 2 rfl) ?_
        refine lv_bipush (v := 8) hx hb dX6_feed_62 (by decide +kernel) ?_
        refine lv_iload_n hx hb dX6_feed_64 rfl (lv_at hl 0 rfl) ?_
        refine lv_imul hx hb dX6_feed_65 ?_
        refine lv_seti (v := 0) (by decide +kernel) ?_
        refine lv_ishr hx hb dX6_feed_66 ?_
        refine lv_sipush (v := 255) hx hb dX6_feed_67 (by decide +kernel) ?_
        refine lv_iand hx hb dX6_feed_70 ?_
        refine va_iast hx hb hK hP hD hS 1 0 rfl rfl (vp_in_nI (by omega) (by omega)) dX6_feed_71 (fun H locs => ?_)
        clear hP hD hS
        intro hP hD hS
        rw [nI_clamp (n := (kZ + 1)) (by omega)] at hP hD
        have hPD := pd_as [_, zzI cy qmt 250 (upd (upd fMt kZ ((iA >>> (8 &&& 31)) &&& 255)) (kZ + 1) ((iA >>> (0 &&& 31)) &&& 255)), _] hP hD rfl
        clear hP hD
        obtain ⟨hP, hD⟩ := hPD
        refine lv_iinc (v := (-1)) (lv' := [(3, .int (-1)), (0, .ref qm), (1, .int iA), (2, .int 2)]) hx hb dX6_feed_72 hl (k := 0) rfl (by decide +kernel) (by decide +kernel) rfl (fun ls => ?_)
        clear hl
        intro hl
        refine lv_goto (tgt := 42) hx hb dX6_feed_75 (by decide +kernel) ?_
        refine lv_iload_n hx hb dX6_feed_42 rfl (lv_at hl 0 rfl) ?_
        refine lv_if_lt (tgt := 78) hx hb dX6_feed_43 (by decide +kernel) (fun _ => ?_) (fun h9 => absurd (by decide +kernel) h9)
        refine lv_aload_n hx hb dX6_feed_78 rfl (lv_at hl 1 rfl) ?_
        refine va_get (D := G) (ci := 5) (v := .int (nI ((kZ + 1) + 1))) (C := RX6) (T := TX6) (N := 35) hx hb hts iX_X6 hown hK hP 0 rfl rfl 8 (by decide +kernel) (hts _ m_t858) (fun _ h9 => h9) rfl dX6_feed_79 ?_
        exact endWs [[true, true, true]] hx hb hr hlocks rfl hP hD rfl (by decide +kernel) hS ⟨((kZ + 1) + 1), (upd (upd fMt kZ ((iA >>> (8 &&& 31)) &&& 255)) (kZ + 1) ((iA >>> (0 &&& 31)) &&& 255)), fMr, rfl, ⟨Or.inr ⟨2, by omega, by omega, rfl, Or.inr ⟨rfl, fm_yes (k := 2) (by omega) (by omega) c_12, rfl⟩⟩, Or.inr ⟨2, by omega, by omega, rfl, rfl, fd_s2 rfl rfl⟩⟩, trivial⟩ dX6_feed_82
      · refine lv_aload_n hx hb dX6_feed_31 rfl (lv_at hl 0 rfl) ?_
        refine lv_bipush (v := (-6)) hx hb dX6_feed_32 (by decide +kernel) ?_
        refine cVi (As := [.int (-6)]) (rest := []) (b := qm) (q := (RX6, TX6, 35)) ⟨hx, hb, hml, hown, hts⟩ (c_X6_refuse6 l G cy (s.heap).size qm (.ref qmh) (.ref qmo) (.ref qmz) (.ref qmR) (.ref qmv) (.ref qmk) (.ref qma) (.ref qmt) (.int (nI kZ)) qmr tA qmB qmO qmK iEn iTk (ov uP) (ov uU) (.int (nI kAt)) (.int iTo) (.int iFr) (.long JFi) (.int iFa) (.ref qm3) (.int iSt) iLv iWs vLa (.ref qmu) (.ref qmy) (.ref qmb) (.ref qms) (.int iOm) fMr) L_X6_91 hN hP hD hS hA [0, 2] [false, true, false] rfl (by decide +kernel) rfl 0 5 rfl rfl rfl ⟨Nat.le_of_ble_eq_true rfl, Nat.le_of_ble_eq_true rfl⟩ hl.1 (Nat.le_of_ble_eq_true rfl) dX6_feed_34 ⟨Nat.le_of_ble_eq_true rfl, Nat.le_of_ble_eq_true rfl⟩ (fun r_16 u_18 H locs h_17 => ?_)
        clear hP hD hS
        intro hP hD hS
        obtain ⟨fX_19, rfl, h_17⟩ := h_17
        have hPD := pd_as [_, _, zzI cy qmr 8 fX_19] hP hD rfl
        clear hP hD
        obtain ⟨hP, hD⟩ := hPD
        subst h_17
        exact endWs [[false, true], [true, false, true]] hx hb hr hlocks rfl hP hD rfl (by decide +kernel) hS ⟨kZ, fMt, fX_19, rfl, ⟨Or.inr ⟨2, by omega, by omega, rfl, Or.inl ⟨rfl, fm_no (k := 2) (by omega) (by omega) c_12, rfl⟩⟩, Or.inl ⟨rfl, rfl⟩⟩, trivial⟩ dX6_feed_37
    · refine lv_iload_n hx hb dX6_feed_19 rfl (lv_at hl 2 rfl) ?_
      refine lv_sipush (v := 250) hx hb dX6_feed_20 (by decide +kernel) ?_
      refine lv_aload_n hx hb dX6_feed_23 rfl (lv_at hl 0 rfl) ?_
      refine va_get (D := G) (ci := 5) (v := .int (nI kZ)) (C := RX6) (T := TX6) (N := 35) hx hb hts iX_X6 hown hK hP 0 rfl rfl 8 (by decide +kernel) (hts _ m_t858) (fun _ h9 => h9) rfl dX6_feed_24 ?_
      refine lv_isub hx hb dX6_feed_27 ?_
      refine lv_icmp_le (tgt := 38) hx hb dX6_feed_28 (by decide +kernel) (fun c_20 => ?_) (fun c_20 => ?_)
      · have hfd : kZ + 3 ≤ 250 := fm_yes (k := 3) (by omega) (by omega) c_20
        refine lv_iload_n hx hb dX6_feed_38 rfl (lv_at hl 2 rfl) ?_
        refine lv_iconst (v := 1) hx hb dX6_feed_39 (by decide +kernel) ?_
        refine lv_isub hx hb dX6_feed_40 ?_
        refine lv_seti (v := 2) (by decide +kernel) ?_
        refine lv_istore_n (lv' := [(3, .int 2), (0, .ref qm), (1, .int iA), (2, .int 3)]) hx hb dX6_feed_41 rfl hl (by decide +kernel) rfl (fun ls => ?_)
        clear hl
        intro hl
        refine lv_iload_n hx hb dX6_feed_42 rfl (lv_at hl 0 rfl) ?_
        refine lv_if_lt (tgt := 78) hx hb dX6_feed_43 (by decide +kernel) (fun h9 => absurd h9 (by decide +kernel)) (fun _ => ?_)
        refine lv_aload_n hx hb dX6_feed_46 rfl (lv_at hl 1 rfl) ?_
        refine va_get (D := G) (ci := 5) (v := .ref qmt) (C := RX6) (T := TX6) (N := 35) hx hb hts iX_X6 hown hK hP 0 rfl rfl 7 (by decide +kernel) (hts _ m_t857) (fun _ h9 => h9) rfl dX6_feed_47 ?_
        refine lv_aload_n hx hb dX6_feed_50 rfl (lv_at hl 1 rfl) ?_
        refine lv_dup hx hb dX6_feed_51 rfl ?_
        refine va_get (D := G) (ci := 5) (v := .int (nI kZ)) (C := RX6) (T := TX6) (N := 35) hx hb hts iX_X6 hown hK hP 0 rfl rfl 8 (by decide +kernel) (hts _ m_t858) (fun _ h9 => h9) rfl dX6_feed_52 ?_
        refine lv_dup_x1 hx hb dX6_feed_55 rfl rfl ?_
        refine lv_iconst (v := 1) hx hb dX6_feed_56 (by decide +kernel) ?_
        refine lv_iadd hx hb dX6_feed_57 ?_
        refine lv_seti (v := nI (kZ + 1)) (nI_1 _) ?_
        refine va_put (D := G) (ci := 5) (v := .int (nI (kZ + 1))) (ty := .int) (C := RX6) (T := TX6) (N := 35) hx hb hts iX_X6 tyX6 tyX6_ok nmX6 hown hK hP hD hS 0 rfl rfl 8 (by decide +kernel) (hts _ m_t858) (fun _ h9 => h9) rfl (by decide +kernel) rfl rfl (Nat.le_of_ble_eq_true rfl) dX6_feed_58 (fun H locs => ?_)
        clear hP hD hS
        intro hP hD hS
        have hPD := pd_as [_, _, _] hP hD rfl
        clear hP hD
        obtain ⟨hP, hD⟩ := hPD
        refine lv_iload_n hx hb dX6_feed_61 rfl (lv_at hl 2 rfl) ?_
        refine lv_bipush (v := 8) hx hb dX6_feed_62 (by decide +kernel) ?_
        refine lv_iload_n hx hb dX6_feed_64 rfl (lv_at hl 0 rfl) ?_
        refine lv_imul hx hb dX6_feed_65 ?_
        refine lv_seti (v := 16) (by decide +kernel) ?_
        refine lv_ishr hx hb dX6_feed_66 ?_
        refine lv_sipush (v := 255) hx hb dX6_feed_67 (by decide +kernel) ?_
        refine lv_iand hx hb dX6_feed_70 ?_
        refine va_iast hx hb hK hP hD hS 1 0 rfl rfl (vp_in_nI (by omega) (by omega)) dX6_feed_71 (fun H locs => ?_)
        clear hP hD hS
        intro hP hD hS
        rw [nI_clamp (n := kZ) (by omega)] at hP hD
        have hPD := pd_as [_, zzI cy qmt 250 (upd fMt kZ ((iA >>> (16 &&& 31)) &&& 255)), _] hP hD rfl
        clear hP hD
        obtain ⟨hP, hD⟩ := hPD
        refine lv_iinc (v := 1) (lv' := [(3, .int 1), (0, .ref qm), (1, .int iA), (2, .int 3)]) hx hb dX6_feed_72 hl (k := 0) rfl (by decide +kernel) (by decide +kernel) rfl (fun ls => ?_)
        clear hl
        intro hl
        refine lv_goto (tgt := 42) hx hb dX6_feed_75 (by decide +kernel) ?_
        refine lv_iload_n hx hb dX6_feed_42 rfl (lv_at hl 0 rfl) ?_
        refine lv_if_lt (tgt := 78) hx hb dX6_feed_43 (by decide +kernel) (fun h9 => absurd h9 (by decide +kernel)) (fun _ => ?_)
        refine lv_aload_n hx hb dX6_feed_46 rfl (lv_at hl 1 rfl) ?_
        refine va_get (D := G) (ci := 5) (v := .ref qmt) (C := RX6) (T := TX6) (N := 35) hx hb hts iX_X6 hown hK hP 0 rfl rfl 7 (by decide +kernel) (hts _ m_t857) (fun _ h9 => h9) rfl dX6_feed_47 ?_
        refine lv_aload_n hx hb dX6_feed_50 rfl (lv_at hl 1 rfl) ?_
        refine lv_dup hx hb dX6_feed_51 rfl ?_
        refine va_get (D := G) (ci := 5) (v := .int (nI (kZ + 1))) (C := RX6) (T := TX6) (N := 35) hx hb hts iX_X6 hown hK hP 0 rfl rfl 8 (by decide +kernel) (hts _ m_t858) (fun _ h9 => h9) rfl dX6_feed_52 ?_
        refine lv_dup_x1 hx hb dX6_feed_55 rfl rfl ?_
        refine lv_iconst (v := 1) hx hb dX6_feed_56 (by decide +kernel) ?_
        refine lv_iadd hx hb dX6_feed_57 ?_
        refine lv_seti (v := nI ((kZ + 1) + 1)) (nI_1 _) ?_
        refine va_put (D := G) (ci := 5) (v := .int (nI ((kZ + 1) + 1))) (ty := .int) (C := RX6) (T := TX6) (N := 35) hx hb hts iX_X6 tyX6 tyX6_ok nmX6 hown hK hP hD hS 0 rfl rfl 8 (by decide +kernel) (hts _ m_t858) (fun _ h9 => h9) rfl (by decide +kernel) rfl rfl (Nat.le_of_ble_eq_true rfl) dX6_feed_58 (fun H locs => ?_)
        clear hP hD hS
        intro hP hD hS
        have hPD := pd_as [_, _, _] hP hD rfl
        clear hP hD
        obtain ⟨hP, hD⟩ := hPD
        refine lv_iload_n hx hb dX6_feed_61 rfl (lv_at hl 2 rfl) ?_
        refine lv_bipush (v := 8) hx hb dX6_feed_62 (by decide +kernel) ?_
        refine lv_iload_n hx hb dX6_feed_64 rfl (lv_at hl 0 rfl) ?_
        refine lv_imul hx hb dX6_feed_65 ?_
        refine lv_seti (v := 8) (by decide +kernel) ?_
        refine lv_ishr hx hb dX6_feed_66 ?_
        refine lv_sipush (v := 255) hx hb dX6_feed_67 (by decide +kernel) ?_
        refine lv_iand hx hb dX6_feed_70 ?_
        refine va_iast hx hb hK hP hD hS 1 0 rfl rfl (vp_in_nI (by omega) (by omega)) dX6_feed_71 (fun H locs => ?_)
        clear hP hD hS
        intro hP hD hS
        rw [nI_clamp (n := (kZ + 1)) (by omega)] at hP hD
        have hPD := pd_as [_, zzI cy qmt 250 (upd (upd fMt kZ ((iA >>> (16 &&& 31)) &&& 255)) (kZ + 1) ((iA >>> (8 &&& 31)) &&& 255)), _] hP hD rfl
        clear hP hD
        obtain ⟨hP, hD⟩ := hPD
        refine lv_iinc (v := 0) (lv' := [(3, .int 0), (0, .ref qm), (1, .int iA), (2, .int 3)]) hx hb dX6_feed_72 hl (k := 0) rfl (by decide +kernel) (by decide +kernel) rfl (fun ls => ?_)
        clear hl
        intro hl
        refine lv_goto (tgt := 42) hx hb dX6_feed_75 (by decide +kernel) ?_
        refine lv_iload_n hx hb dX6_feed_42 rfl (lv_at hl 0 rfl) ?_
        refine lv_if_lt (tgt := 78) hx hb dX6_feed_43 (by decide +kernel) (fun h9 => absurd h9 (by decide +kernel)) (fun _ => ?_)
        refine lv_aload_n hx hb dX6_feed_46 rfl (lv_at hl 1 rfl) ?_
        refine va_get (D := G) (ci := 5) (v := .ref qmt) (C := RX6) (T := TX6) (N := 35) hx hb hts iX_X6 hown hK hP 0 rfl rfl 7 (by decide +kernel) (hts _ m_t857) (fun _ h9 => h9) rfl dX6_feed_47 ?_
        refine lv_aload_n hx hb dX6_feed_50 rfl (lv_at hl 1 rfl) ?_
        refine lv_dup hx hb dX6_feed_51 rfl ?_
        refine va_get (D := G) (ci := 5) (v := .int (nI ((kZ + 1) + 1))) (C := RX6) (T := TX6) (N := 35) hx hb hts iX_X6 hown hK hP 0 rfl rfl 8 (by decide +kernel) (hts _ m_t858) (fun _ h9 => h9) rfl dX6_feed_52 ?_
        refine lv_dup_x1 hx hb dX6_feed_55 rfl rfl ?_
        refine lv_iconst (v := 1) hx hb dX6_feed_56 (by decide +kernel) ?_
        refine lv_iadd hx hb dX6_feed_57 ?_
        refine lv_seti (v := nI (((kZ + 1) + 1) + 1)) (nI_1 _) ?_
        refine va_put (D := G) (ci := 5) (v := .int (nI (((kZ + 1) + 1) + 1))) (ty := .int) (C := RX6) (T := TX6) (N := 35) hx hb hts iX_X6 tyX6 tyX6_ok nmX6 hown hK hP hD hS 0 rfl rfl 8 (by decide +kernel) (hts _ m_t858) (fun _ h9 => h9) rfl (by decide +kernel) rfl rfl (Nat.le_of_ble_eq_true rfl) dX6_feed_58 (fun H locs => ?_)
        clear hP hD hS
        intro hP hD hS
        have hPD := pd_as [zzO qm 5 [.ref qmh, .ref qmo, .ref qmz, .ref qmR, .ref qmv, .ref qmk, .ref qma, .ref qmt, .int (nI (((kZ + 1) + 1) + 1)), .ref qmr, .int (nI (T_nb tA)), .ref qmB, .int (nI (T_np tA)), .ref qmO, .ref qmK, .int iEn, .int iTk, .int (T_sd tA), ov uP, ov uU, .int (nI kAt), .int iTo, .int iFr, .long JFi, .int iFa, .ref qm3, .int iSt, .int iLv, .int iWs, vLa, .ref qmu, .ref qmy, .ref qmb, .ref qms, .int iOm], _, _] hP hD rfl
        clear hP hD
        obtain ⟨hP, hD⟩ := hPD
        refine lv_iload_n hx hb dX6_feed_61 rfl (lv_at hl 2 rfl) ?_
        refine lv_bipush (v := 8) hx hb dX6_feed_62 (by decide +kernel) ?_
        refine lv_iload_n hx hb dX6_feed_64 rfl (lv_at hl 0 rfl) ?_
        refine lv_imul hx hb dX6_feed_65 ?_
        refine lv_seti (v := 0) (by decide +kernel) ?_
        refine lv_ishr hx hb dX6_feed_66 ?_
        refine lv_sipush (v := 255) hx hb dX6_feed_67 (by decide +kernel) ?_
        refine lv_iand hx hb dX6_feed_70 ?_
        refine va_iast hx hb hK hP hD hS 1 0 rfl rfl (vp_in_nI (by omega) (by omega)) dX6_feed_71 (fun H locs => ?_)
        clear hP hD hS
        intro hP hD hS
        rw [nI_clamp (n := ((kZ + 1) + 1)) (by omega)] at hP hD
        have hPD := pd_as [_, zzI cy qmt 250 (upd (upd (upd fMt kZ ((iA >>> (16 &&& 31)) &&& 255)) (kZ + 1) ((iA >>> (8 &&& 31)) &&& 255)) ((kZ + 1) + 1) ((iA >>> (0 &&& 31)) &&& 255)), _] hP hD rfl
        clear hP hD
        obtain ⟨hP, hD⟩ := hPD
        refine lv_iinc (v := (-1)) (lv' := [(3, .int (-1)), (0, .ref qm), (1, .int iA), (2, .int 3)]) hx hb dX6_feed_72 hl (k := 0) rfl (by decide +kernel) (by decide +kernel) rfl (fun ls => ?_)
        clear hl
        intro hl
        refine lv_goto (tgt := 42) hx hb dX6_feed_75 (by decide +kernel) ?_
        refine lv_iload_n hx hb dX6_feed_42 rfl (lv_at hl 0 rfl) ?_
        refine lv_if_lt (tgt := 78) hx hb dX6_feed_43 (by decide +kernel) (fun _ => ?_) (fun h9 => absurd (by decide +kernel) h9)
        refine lv_aload_n hx hb dX6_feed_78 rfl (lv_at hl 1 rfl) ?_
        refine va_get (D := G) (ci := 5) (v := .int (nI (((kZ + 1) + 1) + 1))) (C := RX6) (T := TX6) (N := 35) hx hb hts iX_X6 hown hK hP 0 rfl rfl 8 (by decide +kernel) (hts _ m_t858) (fun _ h9 => h9) rfl dX6_feed_79 ?_
        exact endWs [[true, true, true]] hx hb hr hlocks rfl hP hD rfl (by decide +kernel) hS ⟨(((kZ + 1) + 1) + 1), (upd (upd (upd fMt kZ ((iA >>> (16 &&& 31)) &&& 255)) (kZ + 1) ((iA >>> (8 &&& 31)) &&& 255)) ((kZ + 1) + 1) ((iA >>> (0 &&& 31)) &&& 255)), fMr, rfl, ⟨Or.inr ⟨3, by omega, by omega, rfl, Or.inr ⟨rfl, fm_yes (k := 3) (by omega) (by omega) c_20, rfl⟩⟩, Or.inr ⟨3, by omega, by omega, rfl, rfl, fd_s3 rfl rfl rfl⟩⟩, trivial⟩ dX6_feed_82
      · refine lv_aload_n hx hb dX6_feed_31 rfl (lv_at hl 0 rfl) ?_
        refine lv_bipush (v := (-6)) hx hb dX6_feed_32 (by decide +kernel) ?_
        refine cVi (As := [.int (-6)]) (rest := []) (b := qm) (q := (RX6, TX6, 35)) ⟨hx, hb, hml, hown, hts⟩ (c_X6_refuse6 l G cy (s.heap).size qm (.ref qmh) (.ref qmo) (.ref qmz) (.ref qmR) (.ref qmv) (.ref qmk) (.ref qma) (.ref qmt) (.int (nI kZ)) qmr tA qmB qmO qmK iEn iTk (ov uP) (ov uU) (.int (nI kAt)) (.int iTo) (.int iFr) (.long JFi) (.int iFa) (.ref qm3) (.int iSt) iLv iWs vLa (.ref qmu) (.ref qmy) (.ref qmb) (.ref qms) (.int iOm) fMr) L_X6_91 hN hP hD hS hA [0, 2] [false, true, false] rfl (by decide +kernel) rfl 0 5 rfl rfl rfl ⟨Nat.le_of_ble_eq_true rfl, Nat.le_of_ble_eq_true rfl⟩ hl.1 (Nat.le_of_ble_eq_true rfl) dX6_feed_34 ⟨Nat.le_of_ble_eq_true rfl, Nat.le_of_ble_eq_true rfl⟩ (fun r_25 u_27 H locs h_26 => ?_)
        clear hP hD hS
        intro hP hD hS
        obtain ⟨fX_28, rfl, h_26⟩ := h_26
        have hPD := pd_as [_, _, zzI cy qmr 8 fX_28] hP hD rfl
        clear hP hD
        obtain ⟨hP, hD⟩ := hPD
        subst h_26
        exact endWs [[false, true], [true, false, true]] hx hb hr hlocks rfl hP hD rfl (by decide +kernel) hS ⟨kZ, fMt, fX_28, rfl, ⟨Or.inr ⟨3, by omega, by omega, rfl, Or.inl ⟨rfl, fm_no (k := 3) (by omega) (by omega) c_20, rfl⟩⟩, Or.inl ⟨rfl, rfl⟩⟩, trivial⟩ dX6_feed_37
    · refine lv_iload_n hx hb dX6_feed_19 rfl (lv_at hl 2 rfl) ?_
      refine lv_sipush (v := 250) hx hb dX6_feed_20 (by decide +kernel) ?_
      refine lv_aload_n hx hb dX6_feed_23 rfl (lv_at hl 0 rfl) ?_
      refine va_get (D := G) (ci := 5) (v := .int (nI kZ)) (C := RX6) (T := TX6) (N := 35) hx hb hts iX_X6 hown hK hP 0 rfl rfl 8 (by decide +kernel) (hts _ m_t858) (fun _ h9 => h9) rfl dX6_feed_24 ?_
      refine lv_isub hx hb dX6_feed_27 ?_
      refine lv_icmp_le (tgt := 38) hx hb dX6_feed_28 (by decide +kernel) (fun c_29 => ?_) (fun c_29 => ?_)
      · have hfd : kZ + 4 ≤ 250 := fm_yes (k := 4) (by omega) (by omega) c_29
        refine lv_iload_n hx hb dX6_feed_38 rfl (lv_at hl 2 rfl) ?_
        refine lv_iconst (v := 1) hx hb dX6_feed_39 (by decide +kernel) ?_
        refine lv_isub hx hb dX6_feed_40 ?_
        refine lv_seti (v := 3) (by decide +kernel) ?_
        refine lv_istore_n (lv' := [(3, .int 3), (0, .ref qm), (1, .int iA), (2, .int 4)]) hx hb dX6_feed_41 rfl hl (by decide +kernel) rfl (fun ls => ?_)
        clear hl
        intro hl
        refine lv_iload_n hx hb dX6_feed_42 rfl (lv_at hl 0 rfl) ?_
        refine lv_if_lt (tgt := 78) hx hb dX6_feed_43 (by decide +kernel) (fun h9 => absurd h9 (by decide +kernel)) (fun _ => ?_)
        refine lv_aload_n hx hb dX6_feed_46 rfl (lv_at hl 1 rfl) ?_
        refine va_get (D := G) (ci := 5) (v := .ref qmt) (C := RX6) (T := TX6) (N := 35) hx hb hts iX_X6 hown hK hP 0 rfl rfl 7 (by decide +kernel) (hts _ m_t857) (fun _ h9 => h9) rfl dX6_feed_47 ?_
        refine lv_aload_n hx hb dX6_feed_50 rfl (lv_at hl 1 rfl) ?_
        refine lv_dup hx hb dX6_feed_51 rfl ?_
        refine va_get (D := G) (ci := 5) (v := .int (nI kZ)) (C := RX6) (T := TX6) (N := 35) hx hb hts iX_X6 hown hK hP 0 rfl rfl 8 (by decide +kernel) (hts _ m_t858) (fun _ h9 => h9) rfl dX6_feed_52 ?_
        refine lv_dup_x1 hx hb dX6_feed_55 rfl rfl ?_
        refine lv_iconst (v := 1) hx hb dX6_feed_56 (by decide +kernel) ?_
        refine lv_iadd hx hb dX6_feed_57 ?_
        refine lv_seti (v := nI (kZ + 1)) (nI_1 _) ?_
        refine va_put (D := G) (ci := 5) (v := .int (nI (kZ + 1))) (ty := .int) (C := RX6) (T := TX6) (N := 35) hx hb hts iX_X6 tyX6 tyX6_ok nmX6 hown hK hP hD hS 0 rfl rfl 8 (by decide +kernel) (hts _ m_t858) (fun _ h9 => h9) rfl (by decide +kernel) rfl rfl (Nat.le_of_ble_eq_true rfl) dX6_feed_58 (fun H locs => ?_)
        clear hP hD hS
        intro hP hD hS
        have hPD := pd_as [_, _, _] hP hD rfl
        clear hP hD
        obtain ⟨hP, hD⟩ := hPD
        refine lv_iload_n hx hb dX6_feed_61 rfl (lv_at hl 2 rfl) ?_
        refine lv_bipush (v := 8) hx hb dX6_feed_62 (by decide +kernel) ?_
        refine lv_iload_n hx hb dX6_feed_64 rfl (lv_at hl 0 rfl) ?_
        refine lv_imul hx hb dX6_feed_65 ?_
        refine lv_seti (v := 24) (by decide +kernel) ?_
        refine lv_ishr hx hb dX6_feed_66 ?_
        refine lv_sipush (v := 255) hx hb dX6_feed_67 (by decide +kernel) ?_
        refine lv_iand hx hb dX6_feed_70 ?_
        refine va_iast hx hb hK hP hD hS 1 0 rfl rfl (vp_in_nI (by omega) (by omega)) dX6_feed_71 (fun H locs => ?_)
        clear hP hD hS
        intro hP hD hS
        rw [nI_clamp (n := kZ) (by omega)] at hP hD
        have hPD := pd_as [_, zzI cy qmt 250 (upd fMt kZ ((iA >>> (24 &&& 31)) &&& 255)), _] hP hD rfl
        clear hP hD
        obtain ⟨hP, hD⟩ := hPD
        refine lv_iinc (v := 2) (lv' := [(3, .int 2), (0, .ref qm), (1, .int iA), (2, .int 4)]) hx hb dX6_feed_72 hl (k := 0) rfl (by decide +kernel) (by decide +kernel) rfl (fun ls => ?_)
        clear hl
        intro hl
        refine lv_goto (tgt := 42) hx hb dX6_feed_75 (by decide +kernel) ?_
        refine lv_iload_n hx hb dX6_feed_42 rfl (lv_at hl 0 rfl) ?_
        refine lv_if_lt (tgt := 78) hx hb dX6_feed_43 (by decide +kernel) (fun h9 => absurd h9 (by decide +kernel)) (fun _ => ?_)
        refine lv_aload_n hx hb dX6_feed_46 rfl (lv_at hl 1 rfl) ?_
        refine va_get (D := G) (ci := 5) (v := .ref qmt) (C := RX6) (T := TX6) (N := 35) hx hb hts iX_X6 hown hK hP 0 rfl rfl 7 (by decide +kernel) (hts _ m_t857) (fun _ h9 => h9) rfl dX6_feed_47 ?_
        refine lv_aload_n hx hb dX6_feed_50 rfl (lv_at hl 1 rfl) ?_
        refine lv_dup hx hb dX6_feed_51 rfl ?_
        refine va_get (D := G) (ci := 5) (v := .int (nI (kZ + 1))) (C := RX6) (T := TX6) (N := 35) hx hb hts iX_X6 hown hK hP 0 rfl rfl 8 (by decide +kernel) (hts _ m_t858) (fun _ h9 => h9) rfl dX6_feed_52 ?_
        refine lv_dup_x1 hx hb dX6_feed_55 rfl rfl ?_
        refine lv_iconst (v := 1) hx hb dX6_feed_56 (by decide +kernel) ?_
        refine lv_iadd hx hb dX6_feed_57 ?_
        refine lv_seti (v := nI ((kZ + 1) + 1)) (nI_1 _) ?_
        refine va_put (D := G) (ci := 5) (v := .int (nI ((kZ + 1) + 1))) (ty := .int) (C := RX6) (T := TX6) (N := 35) hx hb hts iX_X6 tyX6 tyX6_ok nmX6 hown hK hP hD hS 0 rfl rfl 8 (by decide +kernel) (hts _ m_t858) (fun _ h9 => h9) rfl (by decide +kernel) rfl rfl (Nat.le_of_ble_eq_true rfl) dX6_feed_58 (fun H locs => ?_)
        clear hP hD hS
        intro hP hD hS
        have hPD := pd_as [_, _, _] hP hD rfl
        clear hP hD
        obtain ⟨hP, hD⟩ := hPD
        refine lv_iload_n hx hb dX6_feed_61 rfl (lv_at hl 2 rfl) ?_
        refine lv_bipush (v := 8) hx hb dX6_feed_62 (by decide +kernel) ?_
        refine lv_iload_n hx hb dX6_feed_64 rfl (lv_at hl 0 rfl) ?_
        refine lv_imul hx hb dX6_feed_65 ?_
        refine lv_seti (v := 16) (by decide +kernel) ?_
        refine lv_ishr hx hb dX6_feed_66 ?_
        refine lv_sipush (v := 255) hx hb dX6_feed_67 (by decide +kernel) ?_
        refine lv_iand hx hb dX6_feed_70 ?_
        refine va_iast hx hb hK hP hD hS 1 0 rfl rfl (vp_in_nI (by omega) (by omega)) dX6_feed_71 (fun H locs => ?_)
        clear hP hD hS
        intro hP hD hS
        rw [nI_clamp (n := (kZ + 1)) (by omega)] at hP hD
        have hPD := pd_as [_, zzI cy qmt 250 (upd (upd fMt kZ ((iA >>> (24 &&& 31)) &&& 255)) (kZ + 1) ((iA >>> (16 &&& 31)) &&& 255)), _] hP hD rfl
        clear hP hD
        obtain ⟨hP, hD⟩ := hPD
        refine lv_iinc (v := 1) (lv' := [(3, .int 1), (0, .ref qm), (1, .int iA), (2, .int 4)]) hx hb dX6_feed_72 hl (k := 0) rfl (by decide +kernel) (by decide +kernel) rfl (fun ls => ?_)
        clear hl
        intro hl
        refine lv_goto (tgt := 42) hx hb dX6_feed_75 (by decide +kernel) ?_
        refine lv_iload_n hx hb dX6_feed_42 rfl (lv_at hl 0 rfl) ?_
        refine lv_if_lt (tgt := 78) hx hb dX6_feed_43 (by decide +kernel) (fun h9 => absurd h9 (by decide +kernel)) (fun _ => ?_)
        refine lv_aload_n hx hb dX6_feed_46 rfl (lv_at hl 1 rfl) ?_
        refine va_get (D := G) (ci := 5) (v := .ref qmt) (C := RX6) (T := TX6) (N := 35) hx hb hts iX_X6 hown hK hP 0 rfl rfl 7 (by decide +kernel) (hts _ m_t857) (fun _ h9 => h9) rfl dX6_feed_47 ?_
        refine lv_aload_n hx hb dX6_feed_50 rfl (lv_at hl 1 rfl) ?_
        refine lv_dup hx hb dX6_feed_51 rfl ?_
        refine va_get (D := G) (ci := 5) (v := .int (nI ((kZ + 1) + 1))) (C := RX6) (T := TX6) (N := 35) hx hb hts iX_X6 hown hK hP 0 rfl rfl 8 (by decide +kernel) (hts _ m_t858) (fun _ h9 => h9) rfl dX6_feed_52 ?_
        refine lv_dup_x1 hx hb dX6_feed_55 rfl rfl ?_
        refine lv_iconst (v := 1) hx hb dX6_feed_56 (by decide +kernel) ?_
        refine lv_iadd hx hb dX6_feed_57 ?_
        refine lv_seti (v := nI (((kZ + 1) + 1) + 1)) (nI_1 _) ?_
        refine va_put (D := G) (ci := 5) (v := .int (nI (((kZ + 1) + 1) + 1))) (ty := .int) (C := RX6) (T := TX6) (N := 35) hx hb hts iX_X6 tyX6 tyX6_ok nmX6 hown hK hP hD hS 0 rfl rfl 8 (by decide +kernel) (hts _ m_t858) (fun _ h9 => h9) rfl (by decide +kernel) rfl rfl (Nat.le_of_ble_eq_true rfl) dX6_feed_58 (fun H locs => ?_)
        clear hP hD hS
        intro hP hD hS
        have hPD := pd_as [_, _, _] hP hD rfl
        clear hP hD
        obtain ⟨hP, hD⟩ := hPD
        refine lv_iload_n hx hb dX6_feed_61 rfl (lv_at hl 2 rfl) ?_
        refine lv_bipush (v := 8) hx hb dX6_feed_62 (by decide +kernel) ?_
        refine lv_iload_n hx hb dX6_feed_64 rfl (lv_at hl 0 rfl) ?_
        refine lv_imul hx hb dX6_feed_65 ?_
        refine lv_seti (v := 8) (by decide +kernel) ?_
        refine lv_ishr hx hb dX6_feed_66 ?_
        refine lv_sipush (v := 255) hx hb dX6_feed_67 (by decide +kernel) ?_
        refine lv_iand hx hb dX6_feed_70 ?_
        refine va_iast hx hb hK hP hD hS 1 0 rfl rfl (vp_in_nI (by omega) (by omega)) dX6_feed_71 (fun H locs => ?_)
        clear hP hD hS
        intro hP hD hS
        rw [nI_clamp (n := ((kZ + 1) + 1)) (by omega)] at hP hD
        have hPD := pd_as [_, zzI cy qmt 250 (upd (upd (upd fMt kZ ((iA >>> (24 &&& 31)) &&& 255)) (kZ + 1) ((iA >>> (16 &&& 31)) &&& 255)) ((kZ + 1) + 1) ((iA >>> (8 &&& 31)) &&& 255)), _] hP hD rfl
        clear hP hD
        obtain ⟨hP, hD⟩ := hPD
        refine lv_iinc (v := 0) (lv' := [(3, .int 0), (0, .ref qm), (1, .int iA), (2, .int 4)]) hx hb dX6_feed_72 hl (k := 0) rfl (by decide +kernel) (by decide +kernel) rfl (fun ls => ?_)
        clear hl
        intro hl
        refine lv_goto (tgt := 42) hx hb dX6_feed_75 (by decide +kernel) ?_
        refine lv_iload_n hx hb dX6_feed_42 rfl (lv_at hl 0 rfl) ?_
        refine lv_if_lt (tgt := 78) hx hb dX6_feed_43 (by decide +kernel) (fun h9 => absurd h9 (by decide +kernel)) (fun _ => ?_)
        refine lv_aload_n hx hb dX6_feed_46 rfl (lv_at hl 1 rfl) ?_
        refine va_get (D := G) (ci := 5) (v := .ref qmt) (C := RX6) (T := TX6) (N := 35) hx hb hts iX_X6 hown hK hP 0 rfl rfl 7 (by decide +kernel) (hts _ m_t857) (fun _ h9 => h9) rfl dX6_feed_47 ?_
        refine lv_aload_n hx hb dX6_feed_50 rfl (lv_at hl 1 rfl) ?_
        refine lv_dup hx hb dX6_feed_51 rfl ?_
        refine va_get (D := G) (ci := 5) (v := .int (nI (((kZ + 1) + 1) + 1))) (C := RX6) (T := TX6) (N := 35) hx hb hts iX_X6 hown hK hP 0 rfl rfl 8 (by decide +kernel) (hts _ m_t858) (fun _ h9 => h9) rfl dX6_feed_52 ?_
        refine lv_dup_x1 hx hb dX6_feed_55 rfl rfl ?_
        refine lv_iconst (v := 1) hx hb dX6_feed_56 (by decide +kernel) ?_
        refine lv_iadd hx hb dX6_feed_57 ?_
        refine lv_seti (v := nI ((((kZ + 1) + 1) + 1) + 1)) (nI_1 _) ?_
        refine va_put (D := G) (ci := 5) (v := .int (nI ((((kZ + 1) + 1) + 1) + 1))) (ty := .int) (C := RX6) (T := TX6) (N := 35) hx hb hts iX_X6 tyX6 tyX6_ok nmX6 hown hK hP hD hS 0 rfl rfl 8 (by decide +kernel) (hts _ m_t858) (fun _ h9 => h9) rfl (by decide +kernel) rfl rfl (Nat.le_of_ble_eq_true rfl) dX6_feed_58 (fun H locs => ?_)
        clear hP hD hS
        intro hP hD hS
        have hPD := pd_as [zzO qm 5 [.ref qmh, .ref qmo, .ref qmz, .ref qmR, .ref qmv, .ref qmk, .ref qma, .ref qmt, .int (nI ((((kZ + 1) + 1) + 1) + 1)), .ref qmr, .int (nI (T_nb tA)), .ref qmB, .int (nI (T_np tA)), .ref qmO, .ref qmK, .int iEn, .int iTk, .int (T_sd tA), ov uP, ov uU, .int (nI kAt), .int iTo, .int iFr, .long JFi, .int iFa, .ref qm3, .int iSt, .int iLv, .int iWs, vLa, .ref qmu, .ref qmy, .ref qmb, .ref qms, .int iOm], _, _] hP hD rfl
        clear hP hD
        obtain ⟨hP, hD⟩ := hPD
        refine lv_iload_n hx hb dX6_feed_61 rfl (lv_at hl 2 rfl) ?_
        refine lv_bipush (v := 8) hx hb dX6_feed_62 (by decide +kernel) ?_
        refine lv_iload_n hx hb dX6_feed_64 rfl (lv_at hl 0 rfl) ?_
        refine lv_imul hx hb dX6_feed_65 ?_
        refine lv_seti (v := 0) (by decide +kernel) ?_
        refine lv_ishr hx hb dX6_feed_66 ?_
        refine lv_sipush (v := 255) hx hb dX6_feed_67 (by decide +kernel) ?_
        refine lv_iand hx hb dX6_feed_70 ?_
        refine va_iast hx hb hK hP hD hS 1 0 rfl rfl (vp_in_nI (by omega) (by omega)) dX6_feed_71 (fun H locs => ?_)
        clear hP hD hS
        intro hP hD hS
        rw [nI_clamp (n := (((kZ + 1) + 1) + 1)) (by omega)] at hP hD
        have hPD := pd_as [_, zzI cy qmt 250 (upd (upd (upd (upd fMt kZ ((iA >>> (24 &&& 31)) &&& 255)) (kZ + 1) ((iA >>> (16 &&& 31)) &&& 255)) ((kZ + 1) + 1) ((iA >>> (8 &&& 31)) &&& 255)) (((kZ + 1) + 1) + 1) ((iA >>> (0 &&& 31)) &&& 255)), _] hP hD rfl
        clear hP hD
        obtain ⟨hP, hD⟩ := hPD
        refine lv_iinc (v := (-1)) (lv' := [(3, .int (-1)), (0, .ref qm), (1, .int iA), (2, .int 4)]) hx hb dX6_feed_72 hl (k := 0) rfl (by decide +kernel) (by decide +kernel) rfl (fun ls => ?_)
        clear hl
        intro hl
        refine lv_goto (tgt := 42) hx hb dX6_feed_75 (by decide +kernel) ?_
        refine lv_iload_n hx hb dX6_feed_42 rfl (lv_at hl 0 rfl) ?_
        refine lv_if_lt (tgt := 78) hx hb dX6_feed_43 (by decide +kernel) (fun _ => ?_) (fun h9 => absurd (by decide +kernel) h9)
        refine lv_aload_n hx hb dX6_feed_78 rfl (lv_at hl 1 rfl) ?_
        refine va_get (D := G) (ci := 5) (v := .int (nI ((((kZ + 1) + 1) + 1) + 1))) (C := RX6) (T := TX6) (N := 35) hx hb hts iX_X6 hown hK hP 0 rfl rfl 8 (by decide +kernel) (hts _ m_t858) (fun _ h9 => h9) rfl dX6_feed_79 ?_
        exact endWs [[true, true, true]] hx hb hr hlocks rfl hP hD rfl (by decide +kernel) hS ⟨((((kZ + 1) + 1) + 1) + 1), (upd (upd (upd (upd fMt kZ ((iA >>> (24 &&& 31)) &&& 255)) (kZ + 1) ((iA >>> (16 &&& 31)) &&& 255)) ((kZ + 1) + 1) ((iA >>> (8 &&& 31)) &&& 255)) (((kZ + 1) + 1) + 1) ((iA >>> (0 &&& 31)) &&& 255)), fMr, rfl, ⟨Or.inr ⟨4, by omega, by omega, rfl, Or.inr ⟨rfl, fm_yes (k := 4) (by omega) (by omega) c_29, rfl⟩⟩, Or.inr ⟨4, by omega, by omega, rfl, rfl, fd_s4 rfl rfl rfl rfl⟩⟩, trivial⟩ dX6_feed_82
      · refine lv_aload_n hx hb dX6_feed_31 rfl (lv_at hl 0 rfl) ?_
        refine lv_bipush (v := (-6)) hx hb dX6_feed_32 (by decide +kernel) ?_
        refine cVi (As := [.int (-6)]) (rest := []) (b := qm) (q := (RX6, TX6, 35)) ⟨hx, hb, hml, hown, hts⟩ (c_X6_refuse6 l G cy (s.heap).size qm (.ref qmh) (.ref qmo) (.ref qmz) (.ref qmR) (.ref qmv) (.ref qmk) (.ref qma) (.ref qmt) (.int (nI kZ)) qmr tA qmB qmO qmK iEn iTk (ov uP) (ov uU) (.int (nI kAt)) (.int iTo) (.int iFr) (.long JFi) (.int iFa) (.ref qm3) (.int iSt) iLv iWs vLa (.ref qmu) (.ref qmy) (.ref qmb) (.ref qms) (.int iOm) fMr) L_X6_91 hN hP hD hS hA [0, 2] [false, true, false] rfl (by decide +kernel) rfl 0 5 rfl rfl rfl ⟨Nat.le_of_ble_eq_true rfl, Nat.le_of_ble_eq_true rfl⟩ hl.1 (Nat.le_of_ble_eq_true rfl) dX6_feed_34 ⟨Nat.le_of_ble_eq_true rfl, Nat.le_of_ble_eq_true rfl⟩ (fun r_35 u_37 H locs h_36 => ?_)
        clear hP hD hS
        intro hP hD hS
        obtain ⟨fX_38, rfl, h_36⟩ := h_36
        have hPD := pd_as [_, _, zzI cy qmr 8 fX_38] hP hD rfl
        clear hP hD
        obtain ⟨hP, hD⟩ := hPD
        subst h_36
        exact endWs [[false, true], [true, false, true]] hx hb hr hlocks rfl hP hD rfl (by decide +kernel) hS ⟨kZ, fMt, fX_38, rfl, ⟨Or.inr ⟨4, by omega, by omega, rfl, Or.inl ⟨rfl, fm_no (k := 4) (by omega) (by omega) c_29, rfl⟩⟩, Or.inl ⟨rfl, rfl⟩⟩, trivial⟩ dX6_feed_37
  · refine lv_if_ne (tgt := 19) hx hb dX6_feed_9 (by decide +kernel) (fun h9 => absurd (by decide +kernel) h9) (fun _ => ?_)
    refine lv_aload_n hx hb dX6_feed_12 rfl (lv_at hl 0 rfl) ?_
    refine lv_bipush (v := (-2)) hx hb dX6_feed_13 (by decide +kernel) ?_
    refine cVi (As := [.int (-2)]) (rest := []) (b := qm) (q := (RX6, TX6, 35)) ⟨hx, hb, hml, hown, hts⟩ (c_X6_refuse2 l G cy (s.heap).size qm (.ref qmh) (.ref qmo) (.ref qmz) (.ref qmR) (.ref qmv) (.ref qmk) (.ref qma) (.ref qmt) (.int (nI kZ)) qmr tA qmB qmO qmK iEn iTk (ov uP) (ov uU) (.int (nI kAt)) (.int iTo) (.int iFr) (.long JFi) (.int iFa) (.ref qm3) (.int iSt) iLv iWs vLa (.ref qmu) (.ref qmy) (.ref qmb) (.ref qms) (.int iOm) fMr) L_X6_91 hN hP hD hS hA [0, 2] [false, true, false] rfl (by decide +kernel) rfl 0 5 rfl rfl rfl ⟨Nat.le_of_ble_eq_true rfl, Nat.le_of_ble_eq_true rfl⟩ hl.1 (Nat.le_of_ble_eq_true rfl) dX6_feed_15 ⟨Nat.le_of_ble_eq_true rfl, Nat.le_of_ble_eq_true rfl⟩ (fun r_40 u_42 H locs h_41 => ?_)
    clear hP hD hS
    intro hP hD hS
    obtain ⟨fX_43, rfl, h_41⟩ := h_41
    have hPD := pd_as [_, _, zzI cy qmr 8 fX_43] hP hD rfl
    clear hP hD
    obtain ⟨hP, hD⟩ := hPD
    subst h_41
    exact endWs [[false, true], [true, false, true]] hx hb hr hlocks rfl hP hD rfl (by decide +kernel) hS ⟨kZ, fMt, fX_43, rfl, ⟨Or.inl ⟨rfl, h_3, rfl⟩, Or.inl ⟨rfl, rfl⟩⟩, trivial⟩ dX6_feed_18
end
