section
noncomputable def PMones (h z : Nat → Int32) (e : Nat → Nat → Int64) (t : TA) (a n r : Int32) (t' : TA) : Prop := (r = -2 ∧ (¬ Sh a ∨ ∃ k : Nat, k < 8 ∧ a = nI k ∧ ¬ h k = 2 ∧ ¬ h k = 0 ∧ (n < 0 ∨ ¬ n - n / 4 * 4 = 0 ∨ ¬ n ≤ z k)) ∧ t' = t) ∨ (r = -3 ∧ (∃ k : Nat, k < 8 ∧ a = nI k ∧ h k = 2) ∧ t' = t) ∨ (r = -4 ∧ (∃ k : Nat, k < 8 ∧ a = nI k ∧ ¬ h k = 2 ∧ h k = 0) ∧ t' = t) ∨ ∃ k m : Nat, k < 8 ∧ a = nI k ∧ ¬ h k = 2 ∧ ¬ h k = 0 ∧ n = nI (4 * m) ∧ 4 * m ≤ 40 ∧ n ≤ z k ∧ (t', r) = onG (e k) m 0 t 0
theorem on_cong {e f : Nat → Int64} : ∀ n i t c, (∀ j, i ≤ j → j < i + 4 * n → e j = f j) → onG e n i t c = onG f n i t c := by
  intro n
  induction n with
  | zero => intro i t c _; rfl
  | succ n ih =>
    intro i t c h
    unfold onG
    rw [h i (by omega) (by omega), h (i + 1) (by omega) (by omega), h (i + 2) (by omega) (by omega), h (i + 3) (by omega) (by omega), ih (i + 4) _ _ (fun j h1 h2 => h j (by omega) (by omega))]
theorem gA_cong {f g : Nat → Bool} {K : Nat → Int32} : ∀ n, (∀ p, p < n → f p = g p) → gA f K n = gA g K n := by
  intro n
  induction n with
  | zero => intro _; rfl
  | succ n ih =>
    intro h
    unfold gA
    rw [h n (by omega), ih (fun p hp => h p (by omega))]
theorem mgr_mkn {t : TA} {b : Nat} {s : Int32} (h8 : T_np t ≤ 8) : mgr t b s = mkn t b (s &&& zthere t) := by
  unfold mgr mkn
  refine gA_cong _ (fun p hp => ?_)
  rw [bitb_and (by omega), bitb_th (by omega), decide_eq_true hp, Bool.true_and]
theorem ws_cong {f g : Nat → Int32} : ∀ n, (∀ b, b < n → f b = g b) → wsum f n = wsum g n := by
  intro n
  induction n with
  | zero => intro _; rfl
  | succ n ih =>
    intro h
    unfold wsum
    rw [h n (by omega), ih (fun p hp => h p (by omega))]
theorem mvo_waF {t : TA} {s : Int32} (h8 : T_np t ≤ 8) : mvo t s = waF t (s &&& zthere t) := ws_cong _ (fun b _ => by rw [mgr_mkn h8])
theorem mvo_all {t : TA} (h8 : T_np t ≤ 8) : mvo t ((1 : Int32) <<< (nI (T_np t) &&& 31) - 1) = zval t := by rw [mvo_waF h8, all_there h8]; rfl
theorem WI_rdG {loud most : Int32} : ∀ n j t c, WI t → WI (rdG loud most n j t c).1 := by
  intro n
  induction n with
  | zero => intro j t c h; exact h
  | succ n ih =>
    intro j t c h
    have n1 := h.1.1.1
    have n2 := h.1.1.2
    by_cases c1 : most ≤ nI j
    · rw [rd_m c1]; exact h
    · rcases du_in t (T_nb t) with e | ⟨k, hk, e⟩
      · rw [rd_u e]; exact h
      · rcases br_in t k (T_np t) with e2 | ⟨p, hp, e2⟩
        · rw [rd_b (k := k) e (by omega) e2]; exact h
        · rw [rd_go c1 (k := k) e (by omega) (i := p) e2 (by omega)]
          exact ih _ _ _ (WI_rdS h hp hk)
theorem WI_act {t : TA} {k a : Int32} (h : WI t) : WI (zact t k a).1 := by
  unfold zact
  split
  · exact WI_rdG _ _ _ _ h
  · split
    · exact WI_rdG _ _ _ _ h
    · split
      · exact WI_rdG _ _ _ _ h
      · split
        · exact WI_ch h
        · split
          · exact WI_ch (WI_ch h)
          · split
            · exact WI_rdG _ _ _ _ (WI_ch h)
            · exact h
noncomputable def PMyears (h q am : Nat → Int32) (t : TA) (a n r : Int32) (t' : TA) : Prop := (r = -2 ∧ (¬ Sh a ∨ ¬ Iv n.toInt64 1 20) ∧ t' = t) ∨ (r = -3 ∧ Iv n.toInt64 1 20 ∧ (∃ k : Nat, k < 8 ∧ a = nI k ∧ h k = 1) ∧ t' = t) ∨ (r = -4 ∧ Iv n.toInt64 1 20 ∧ (∃ k : Nat, k < 8 ∧ a = nI k ∧ ¬ h k = 1 ∧ h k = 0) ∧ t' = t) ∨ ∃ k m : Nat, k < 8 ∧ a = nI k ∧ ¬ h k = 1 ∧ ¬ h k = 0 ∧ 1 ≤ m ∧ m ≤ 20 ∧ n = nI m ∧ (t', r) = yrG (q k) (am k) m t 0
theorem ex_k {f : Nat → Int32} {k1 : Nat} (h1 : k1 < 8) (h : ∃ k : Nat, k < 8 ∧ nI k1 = nI k ∧ ¬ f k = 1 ∧ ¬ f k = 0) : ¬ f k1 = 1 ∧ ¬ f k1 = 0 := by
  obtain ⟨k, hk, e, h2⟩ := h
  have e := nI_inj (by omega) (by omega) e
  subst e
  exact h2
theorem yr_st {K A0 xS v : Int32} {n : Nat} {tJ tX : TA} {R : TA × Int32} (hR : yrG K A0 (n + 1) tJ xS = R) (e : tX = zey (zdd (zact tJ K A0).1)) (ev : v = zval (zact tJ K A0).1) : yrG K A0 n tX (xS + v) = R := by
  rw [e, ev, ← hR]
  rfl
set_option maxHeartbeats 4000000 in
set_option maxRecDepth 100000 in
theorem x_X6_ones (l : Launch) (G : va_G) (cy : Nat → ClassId) (sz : Nat) (qm : Nat) (qmh : Nat) (qmo : Nat) (qmz : Nat) (qmR : Nat) (qmv : Nat) (qmk : Nat) (qma : Nat) (qmt : Nat) (kZ : Nat) (qmr : Nat) (tA : TA) (qmB : Nat) (qmO : Nat) (qmK : Nat) (iEn : Int32) (iTk : Int32) (uP : UM) (uU : UM) (kAt : Nat) (iTo : Int32) (iFr : Int32) (JFi : Int64) (iFa : Int32) (qm3 : Nat) (iSt : Int32) (iLv : Int32) (iWs : Int32) (vLa : Value) (qmu : Nat) (qmy : Nat) (qmb : Nat) (qms : Nat) (iOm : Int32) (fMh : Nat → Int32) (fMz : Nat → Int32) (rR : Nat → Nat) (eR : Nat → Nat → Int64) (rB : Nat → Nat) (rO : Nat → Nat) (rK : Nat → Nat) (fMr : Nat → Int32) (iA : Int32) (iB : Int32)  (hB : T_nb tA ≤ 8) (hPp : T_np tA ≤ 8) (hTI : TI tA) (hSz : ∀ s, s < 8 → ∃ n : Nat, n ≤ 40 ∧ fMz s = nI n) (hWI : WI tA) : MW l yX6_ones cX6_ones 6 (some .int) 16 0 0 G cy (zzO qm 5 (.ref qmh :: .ref qmo :: .ref qmz :: .ref qmR :: .ref qmv :: .ref qmk :: .ref qma :: .ref qmt :: .int (nI kZ) :: .ref qmr :: .int (nI (T_nb tA)) :: .ref qmB :: .int (nI (T_np tA)) :: .ref qmO :: .ref qmK :: .int iEn :: .int iTk :: .int (T_sd tA) :: ov uP :: ov uU :: .int (nI kAt) :: .int iTo :: .int iFr :: .long JFi :: .int iFa :: .ref qm3 :: .int iSt :: .int iLv :: .int iWs :: vLa :: .ref qmu :: .ref qmy :: .ref qmb :: .ref qms :: .int iOm :: []) :: zzI cy qmh 8 fMh :: zzI cy qmz 8 fMz :: zzG cy 4 qmR rR :: zzJ cy (rR 0) 40 (eR 0) :: zzJ cy (rR 1) 40 (eR 1) :: zzJ cy (rR 2) 40 (eR 2) :: zzJ cy (rR 3) 40 (eR 3) :: zzJ cy (rR 4) 40 (eR 4) :: zzJ cy (rR 5) 40 (eR 5) :: zzJ cy (rR 6) 40 (eR 6) :: zzJ cy (rR 7) 40 (eR 7) :: zzG cy 3 qmB rB :: zzI cy (rB 0) 4 (bkR tA 0) :: zzI cy (rB 1) 4 (bkR tA 1) :: zzI cy (rB 2) 4 (bkR tA 2) :: zzI cy (rB 3) 4 (bkR tA 3) :: zzI cy (rB 4) 4 (bkR tA 4) :: zzI cy (rB 5) 4 (bkR tA 5) :: zzI cy (rB 6) 4 (bkR tA 6) :: zzI cy (rB 7) 4 (bkR tA 7) :: zzG cy 3 qmO rO :: zzI cy (rO 0) 5 (onR tA 0) :: zzI cy (rO 1) 5 (onR tA 1) :: zzI cy (rO 2) 5 (onR tA 2) :: zzI cy (rO 3) 5 (onR tA 3) :: zzI cy (rO 4) 5 (onR tA 4) :: zzI cy (rO 5) 5 (onR tA 5) :: zzI cy (rO 6) 5 (onR tA 6) :: zzI cy (rO 7) 5 (onR tA 7) :: zzG cy 3 qmK rK :: zzI cy (rK 0) 8 (T_kn tA 0) :: zzI cy (rK 1) 8 (T_kn tA 1) :: zzI cy (rK 2) 8 (T_kn tA 2) :: zzI cy (rK 3) 8 (T_kn tA 3) :: zzI cy (rK 4) 8 (T_kn tA 4) :: zzI cy (rK 5) 8 (T_kn tA 5) :: zzI cy (rK 6) 8 (T_kn tA 6) :: zzI cy (rK 7) 8 (T_kn tA 7) :: zzI cy qmr 8 fMr :: []) sz [.ref qm, .int iA, .int iB] (Wi G (fun r u => ∃ (tN : TA) (fNr : Nat → Int32), u = (zzO qm 5 (.ref qmh :: .ref qmo :: .ref qmz :: .ref qmR :: .ref qmv :: .ref qmk :: .ref qma :: .ref qmt :: .int (nI kZ) :: .ref qmr :: .int (nI (T_nb tN)) :: .ref qmB :: .int (nI (T_np tN)) :: .ref qmO :: .ref qmK :: .int iEn :: .int iTk :: .int (T_sd tN) :: ov uP :: ov uU :: .int (nI kAt) :: .int iTo :: .int iFr :: .long JFi :: .int iFa :: .ref qm3 :: .int iSt :: .int iLv :: .int iWs :: vLa :: .ref qmu :: .ref qmy :: .ref qmb :: .ref qms :: .int iOm :: []) :: zzI cy qmh 8 fMh :: zzI cy qmz 8 fMz :: zzG cy 4 qmR rR :: zzJ cy (rR 0) 40 (eR 0) :: zzJ cy (rR 1) 40 (eR 1) :: zzJ cy (rR 2) 40 (eR 2) :: zzJ cy (rR 3) 40 (eR 3) :: zzJ cy (rR 4) 40 (eR 4) :: zzJ cy (rR 5) 40 (eR 5) :: zzJ cy (rR 6) 40 (eR 6) :: zzJ cy (rR 7) 40 (eR 7) :: zzG cy 3 qmB rB :: zzI cy (rB 0) 4 (bkR tN 0) :: zzI cy (rB 1) 4 (bkR tN 1) :: zzI cy (rB 2) 4 (bkR tN 2) :: zzI cy (rB 3) 4 (bkR tN 3) :: zzI cy (rB 4) 4 (bkR tN 4) :: zzI cy (rB 5) 4 (bkR tN 5) :: zzI cy (rB 6) 4 (bkR tN 6) :: zzI cy (rB 7) 4 (bkR tN 7) :: zzG cy 3 qmO rO :: zzI cy (rO 0) 5 (onR tN 0) :: zzI cy (rO 1) 5 (onR tN 1) :: zzI cy (rO 2) 5 (onR tN 2) :: zzI cy (rO 3) 5 (onR tN 3) :: zzI cy (rO 4) 5 (onR tN 4) :: zzI cy (rO 5) 5 (onR tN 5) :: zzI cy (rO 6) 5 (onR tN 6) :: zzI cy (rO 7) 5 (onR tN 7) :: zzG cy 3 qmK rK :: zzI cy (rK 0) 8 (T_kn tN 0) :: zzI cy (rK 1) 8 (T_kn tN 1) :: zzI cy (rK 2) 8 (T_kn tN 2) :: zzI cy (rK 3) 8 (T_kn tN 3) :: zzI cy (rK 4) 8 (T_kn tN 4) :: zzI cy (rK 5) 8 (T_kn tN 5) :: zzI cy (rK 6) 8 (T_kn tN 6) :: zzI cy (rK 7) 8 (T_kn tN 7) :: zzI cy qmr 8 fNr :: []) ∧ (WI tN ∧ PMones fMh fMz eR tA iA iB r tN) ∧ (True))) := by
  refine enW RX6 (by decide +kernel) rfl (Nat.le_of_ble_eq_true rfl) (fun p e s m below meth c ls A hx hb hml hown hts hr hlocks hP hN hl hin hD hA hS => ?_)
  have hin : meth.name = _ := hin
  have hK := hN.1
  replace hl : lv_has ls 6 [(0, .ref qm), (1, .int iA), (2, .int iB)] := hl
  refine lv_aload_n hx hb (g_42 bX6_ones rfl) rfl (lv_at hl 0 rfl) ?_
  refine lv_iload_n hx hb (g_27 bX6_ones rfl) rfl (lv_at hl 1 rfl) ?_
  refine cVi (As := [.int iA]) (rest := []) (b := qm) (q := (RX6, TX6, 35)) ⟨hx, hb, hml, hown, hts⟩ (c_X6_noRow l G cy (s.heap).size qm qmh (.ref qmo) (.ref qmz) (.ref qmR) (.ref qmv) (.ref qmk) (.ref qma) (.ref qmt) (.int (nI kZ)) qmr tA qmB qmO qmK iEn iTk (ov uP) (ov uU) (.int (nI kAt)) (.int iTo) (.int iFr) (.long JFi) (.int iFa) (.ref qm3) (.int iSt) iLv iWs vLa (.ref qmu) (.ref qmy) (.ref qmb) (.ref qms) (.int iOm) fMh fMr iA) L_X6_95 hN hP hD hS hA (trueIx 0 (true :: true :: false :: false :: false :: false :: false :: false :: false :: false :: false :: false :: false :: false :: false :: false :: false :: false :: false :: false :: false :: false :: false :: false :: false :: false :: false :: false :: false :: false :: false :: false :: false :: false :: false :: false :: false :: false :: false :: true :: [])) (false :: false :: true :: true :: true :: true :: true :: true :: true :: true :: true :: true :: true :: true :: true :: true :: true :: true :: true :: true :: true :: true :: true :: true :: true :: true :: true :: true :: true :: true :: true :: true :: true :: true :: true :: true :: true :: true :: true :: false :: []) (sel_eq rfl rfl) (by decide +kernel) rfl 0 5 rfl rfl rfl ⟨Nat.le_of_ble_eq_true rfl, Nat.le_of_ble_eq_true rfl⟩ hl.1 (Nat.le_of_ble_eq_true rfl) (g_182 (v := 95) bX6_ones rfl) ⟨Nat.le_of_ble_eq_true rfl, Nat.le_of_ble_eq_true rfl⟩ (fun r_1 u_3 H locs h_2 => ?_)
  clear hP hD hS
  intro hP hD hS
  obtain ⟨fX_4, hu9, h_2⟩ := h_2
  have hPD := pd_eq (_ :: _ :: _ :: _ :: _ :: _ :: _ :: _ :: _ :: _ :: _ :: _ :: _ :: _ :: _ :: _ :: _ :: _ :: _ :: _ :: _ :: _ :: _ :: _ :: _ :: _ :: _ :: _ :: _ :: _ :: _ :: _ :: _ :: _ :: _ :: _ :: _ :: _ :: _ :: zzI cy qmr 8 fX_4 :: []) hP hD hu9 rfl
  clear hP hD hu9
  obtain ⟨hP, hD⟩ := hPD
  rcases h_2 with ⟨rfl, h_5⟩ | ⟨rfl, h_5⟩ | ⟨rfl, h_5⟩ | ⟨rfl, h_5⟩
  · refine lv_istore_n (lv' := [(3, .int (-2)), (0, .ref qm), (1, .int iA), (2, .int iB)]) hx hb (g_62 bX6_ones rfl) rfl hl (by decide +kernel) rfl (fun ls => ?_)
    clear hl
    intro hl
    refine lv_iload_n hx hb (g_29 bX6_ones rfl) rfl (lv_at hl 0 rfl) ?_
    refine lv_if_eq (tgt := 12) hx hb dX6_ones_7 (by decide +kernel) (fun h9 => absurd h9 (by decide +kernel)) (fun _ => ?_)
    refine lv_iload_n hx hb (g_29 bX6_ones rfl) rfl (lv_at hl 0 rfl) ?_
    exact endWs [(false :: false :: false :: false :: false :: false :: false :: false :: false :: false :: false :: false :: false :: false :: false :: false :: false :: false :: false :: false :: false :: false :: false :: false :: false :: false :: false :: false :: false :: false :: false :: false :: false :: false :: false :: false :: false :: true :: true :: []), (true :: true :: true :: true :: true :: true :: true :: true :: true :: true :: true :: true :: true :: true :: true :: true :: true :: true :: true :: true :: true :: true :: true :: true :: true :: true :: true :: true :: true :: true :: true :: true :: true :: true :: true :: true :: true :: false :: false :: true :: [])] hx hb hr hlocks rfl hP hD rfl (by decide +kernel) hS ⟨tA, fX_4, rfl, ⟨hWI, Or.inl ⟨rfl, Or.inl h_5, rfl⟩⟩, trivial⟩ (g_172 bX6_ones rfl)
  · obtain ⟨k_7, hk_8, rfl, h_9⟩ := h_5
    refine lv_istore_n (lv' := [(3, .int (-3)), (0, .ref qm), (1, .int (nI k_7)), (2, .int iB)]) hx hb (g_62 bX6_ones rfl) rfl hl (by decide +kernel) rfl (fun ls => ?_)
    clear hl
    intro hl
    refine lv_iload_n hx hb (g_29 bX6_ones rfl) rfl (lv_at hl 0 rfl) ?_
    refine lv_if_eq (tgt := 12) hx hb dX6_ones_7 (by decide +kernel) (fun h9 => absurd h9 (by decide +kernel)) (fun _ => ?_)
    refine lv_iload_n hx hb (g_29 bX6_ones rfl) rfl (lv_at hl 0 rfl) ?_
    exact endWs [(false :: false :: false :: false :: false :: false :: false :: false :: false :: false :: false :: false :: false :: false :: false :: false :: false :: false :: false :: false :: false :: false :: false :: false :: false :: false :: false :: false :: false :: false :: false :: false :: false :: false :: false :: false :: false :: true :: true :: []), (true :: true :: true :: true :: true :: true :: true :: true :: true :: true :: true :: true :: true :: true :: true :: true :: true :: true :: true :: true :: true :: true :: true :: true :: true :: true :: true :: true :: true :: true :: true :: true :: true :: true :: true :: true :: true :: false :: false :: true :: [])] hx hb hr hlocks rfl hP hD rfl (by decide +kernel) hS ⟨tA, fX_4, rfl, ⟨hWI, Or.inr (Or.inl ⟨rfl, ⟨k_7, hk_8, rfl, h_9⟩, rfl⟩)⟩, trivial⟩ (g_172 bX6_ones rfl)
  · obtain ⟨k_11, hk_12, rfl, h_13, h_14⟩ := h_5
    refine lv_istore_n (lv' := [(3, .int (-4)), (0, .ref qm), (1, .int (nI k_11)), (2, .int iB)]) hx hb (g_62 bX6_ones rfl) rfl hl (by decide +kernel) rfl (fun ls => ?_)
    clear hl
    intro hl
    refine lv_iload_n hx hb (g_29 bX6_ones rfl) rfl (lv_at hl 0 rfl) ?_
    refine lv_if_eq (tgt := 12) hx hb dX6_ones_7 (by decide +kernel) (fun h9 => absurd h9 (by decide +kernel)) (fun _ => ?_)
    refine lv_iload_n hx hb (g_29 bX6_ones rfl) rfl (lv_at hl 0 rfl) ?_
    exact endWs [(false :: false :: false :: false :: false :: false :: false :: false :: false :: false :: false :: false :: false :: false :: false :: false :: false :: false :: false :: false :: false :: false :: false :: false :: false :: false :: false :: false :: false :: false :: false :: false :: false :: false :: false :: false :: false :: true :: true :: []), (true :: true :: true :: true :: true :: true :: true :: true :: true :: true :: true :: true :: true :: true :: true :: true :: true :: true :: true :: true :: true :: true :: true :: true :: true :: true :: true :: true :: true :: true :: true :: true :: true :: true :: true :: true :: true :: false :: false :: true :: [])] hx hb hr hlocks rfl hP hD rfl (by decide +kernel) hS ⟨tA, fX_4, rfl, ⟨hWI, Or.inr (Or.inr (Or.inl ⟨rfl, ⟨k_11, hk_12, rfl, h_13, h_14⟩, rfl⟩))⟩, trivial⟩ (g_172 bX6_ones rfl)
  · obtain ⟨k_16, hk_17, rfl, h_18, h_19⟩ := h_5
    refine lv_istore_n (lv' := [(3, .int 0), (0, .ref qm), (1, .int (nI k_16)), (2, .int iB)]) hx hb (g_62 bX6_ones rfl) rfl hl (by decide +kernel) rfl (fun ls => ?_)
    clear hl
    intro hl
    refine lv_iload_n hx hb (g_29 bX6_ones rfl) rfl (lv_at hl 0 rfl) ?_
    refine lv_if_eq (tgt := 12) hx hb dX6_ones_7 (by decide +kernel) (fun _ => ?_) (fun h9 => absurd (by decide +kernel) h9)
    refine lv_iload_n hx hb (g_28 bX6_ones rfl) rfl (lv_at hl 3 rfl) ?_
    refine lv_if_lt (tgt := 32) hx hb dX6_ones_13 (by decide +kernel) (fun c_21 => ?_) (fun c_21 => ?_)
    · refine lv_aload_n hx hb (g_42 bX6_ones rfl) rfl (lv_at hl 1 rfl) ?_
      refine lv_bipush (v := (-2)) hx hb dX6_ones_33 (by decide +kernel) ?_
      refine cVi (As := [.int (-2)]) (rest := []) (b := qm) (q := (RX6, TX6, 35)) ⟨hx, hb, hml, hown, hts⟩ (c_X6_refuse2 l G cy (H).size qm (.ref qmh) (.ref qmo) (.ref qmz) (.ref qmR) (.ref qmv) (.ref qmk) (.ref qma) (.ref qmt) (.int (nI kZ)) qmr tA qmB qmO qmK iEn iTk (ov uP) (ov uU) (.int (nI kAt)) (.int iTo) (.int iFr) (.long JFi) (.int iFa) (.ref qm3) (.int iSt) iLv iWs vLa (.ref qmu) (.ref qmy) (.ref qmb) (.ref qms) (.int iOm) fX_4) L_X6_91 hN hP hD hS hA [37, 39] (true :: true :: true :: true :: true :: true :: true :: true :: true :: true :: true :: true :: true :: true :: true :: true :: true :: true :: true :: true :: true :: true :: true :: true :: true :: true :: true :: true :: true :: true :: true :: true :: true :: true :: true :: true :: true :: false :: true :: false :: []) rfl (by decide +kernel) rfl 37 5 rfl rfl rfl ⟨Nat.le_of_ble_eq_true rfl, Nat.le_of_ble_eq_true rfl⟩ hl.1 (Nat.le_of_ble_eq_true rfl) (g_182 (v := 91) bX6_ones rfl) ⟨Nat.le_of_ble_eq_true rfl, Nat.le_of_ble_eq_true rfl⟩ (fun r_22 u_24 H locs h_23 => ?_)
      clear hP hD hS
      intro hP hD hS
      obtain ⟨fX_25, hu9, h_23⟩ := h_23
      have hPD := pd_eq (_ :: _ :: _ :: _ :: _ :: _ :: _ :: _ :: _ :: _ :: _ :: _ :: _ :: _ :: _ :: _ :: _ :: _ :: _ :: _ :: _ :: _ :: _ :: _ :: _ :: _ :: _ :: _ :: _ :: _ :: _ :: _ :: _ :: _ :: _ :: _ :: _ :: _ :: _ :: zzI cy qmr 8 fX_25 :: []) hP hD hu9 rfl
      clear hP hD hu9
      obtain ⟨hP, hD⟩ := hPD
      subst h_23
      exact endWs [(false :: false :: false :: false :: false :: false :: false :: false :: false :: false :: false :: false :: false :: false :: false :: false :: false :: false :: false :: false :: false :: false :: false :: false :: false :: false :: false :: false :: false :: false :: false :: false :: false :: false :: false :: false :: false :: false :: true :: []), (false :: false :: false :: false :: false :: false :: false :: false :: false :: false :: false :: false :: false :: false :: false :: false :: false :: false :: false :: false :: false :: false :: false :: false :: false :: false :: false :: false :: false :: false :: false :: false :: false :: false :: false :: false :: false :: true :: []), (true :: true :: true :: true :: true :: true :: true :: true :: true :: true :: true :: true :: true :: true :: true :: true :: true :: true :: true :: true :: true :: true :: true :: true :: true :: true :: true :: true :: true :: true :: true :: true :: true :: true :: true :: true :: true :: false :: false :: true :: [])] hx hb hr hlocks rfl hP hD rfl (by decide +kernel) hS ⟨tA, fX_25, rfl, ⟨hWI, Or.inl ⟨rfl, Or.inr ⟨k_16, hk_17, rfl, h_18, h_19, Or.inl c_21⟩, rfl⟩⟩, trivial⟩ (g_172 bX6_ones rfl)
    · refine lv_iload_n hx hb (g_28 bX6_ones rfl) rfl (lv_at hl 3 rfl) ?_
      refine lv_iconst (v := 4) hx hb (g_7 bX6_ones rfl) (by decide +kernel) ?_
      refine lv_irem hx hb (g_112 bX6_ones rfl) (by decide +kernel) ?_
      refine lv_if_ne (tgt := 32) hx hb dX6_ones_19 (by decide +kernel) (fun c_26 => ?_) (fun c_26 => ?_)
      · refine lv_aload_n hx hb (g_42 bX6_ones rfl) rfl (lv_at hl 1 rfl) ?_
        refine lv_bipush (v := (-2)) hx hb dX6_ones_33 (by decide +kernel) ?_
        refine cVi (As := [.int (-2)]) (rest := []) (b := qm) (q := (RX6, TX6, 35)) ⟨hx, hb, hml, hown, hts⟩ (c_X6_refuse2 l G cy (H).size qm (.ref qmh) (.ref qmo) (.ref qmz) (.ref qmR) (.ref qmv) (.ref qmk) (.ref qma) (.ref qmt) (.int (nI kZ)) qmr tA qmB qmO qmK iEn iTk (ov uP) (ov uU) (.int (nI kAt)) (.int iTo) (.int iFr) (.long JFi) (.int iFa) (.ref qm3) (.int iSt) iLv iWs vLa (.ref qmu) (.ref qmy) (.ref qmb) (.ref qms) (.int iOm) fX_4) L_X6_91 hN hP hD hS hA [37, 39] (true :: true :: true :: true :: true :: true :: true :: true :: true :: true :: true :: true :: true :: true :: true :: true :: true :: true :: true :: true :: true :: true :: true :: true :: true :: true :: true :: true :: true :: true :: true :: true :: true :: true :: true :: true :: true :: false :: true :: false :: []) rfl (by decide +kernel) rfl 37 5 rfl rfl rfl ⟨Nat.le_of_ble_eq_true rfl, Nat.le_of_ble_eq_true rfl⟩ hl.1 (Nat.le_of_ble_eq_true rfl) (g_182 (v := 91) bX6_ones rfl) ⟨Nat.le_of_ble_eq_true rfl, Nat.le_of_ble_eq_true rfl⟩ (fun r_27 u_29 H locs h_28 => ?_)
        clear hP hD hS
        intro hP hD hS
        obtain ⟨fX_30, hu9, h_28⟩ := h_28
        have hPD := pd_eq (_ :: _ :: _ :: _ :: _ :: _ :: _ :: _ :: _ :: _ :: _ :: _ :: _ :: _ :: _ :: _ :: _ :: _ :: _ :: _ :: _ :: _ :: _ :: _ :: _ :: _ :: _ :: _ :: _ :: _ :: _ :: _ :: _ :: _ :: _ :: _ :: _ :: _ :: _ :: zzI cy qmr 8 fX_30 :: []) hP hD hu9 rfl
        clear hP hD hu9
        obtain ⟨hP, hD⟩ := hPD
        subst h_28
        exact endWs [(false :: false :: false :: false :: false :: false :: false :: false :: false :: false :: false :: false :: false :: false :: false :: false :: false :: false :: false :: false :: false :: false :: false :: false :: false :: false :: false :: false :: false :: false :: false :: false :: false :: false :: false :: false :: false :: false :: true :: []), (false :: false :: false :: false :: false :: false :: false :: false :: false :: false :: false :: false :: false :: false :: false :: false :: false :: false :: false :: false :: false :: false :: false :: false :: false :: false :: false :: false :: false :: false :: false :: false :: false :: false :: false :: false :: false :: true :: []), (true :: true :: true :: true :: true :: true :: true :: true :: true :: true :: true :: true :: true :: true :: true :: true :: true :: true :: true :: true :: true :: true :: true :: true :: true :: true :: true :: true :: true :: true :: true :: true :: true :: true :: true :: true :: true :: false :: false :: true :: [])] hx hb hr hlocks rfl hP hD rfl (by decide +kernel) hS ⟨tA, fX_30, rfl, ⟨hWI, Or.inl ⟨rfl, Or.inr ⟨k_16, hk_17, rfl, h_18, h_19, Or.inr (Or.inl c_26)⟩, rfl⟩⟩, trivial⟩ (g_172 bX6_ones rfl)
      · refine lv_iload_n hx hb (g_28 bX6_ones rfl) rfl (lv_at hl 3 rfl) ?_
        refine lv_aload_n hx hb (g_42 bX6_ones rfl) rfl (lv_at hl 1 rfl) ?_
        refine va_get (D := G) (ci := 5) (v := .ref qmz) (C := RX6) (T := TX6) (N := 35) hx hb hts iX_X6 hown hK hP 37 rfl rfl 2 (by decide +kernel) (hts _ m_t852) (fun _ h9 => h9) rfl (g_180 (v := 16) bX6_ones rfl) ?_
        refine lv_iload_n hx hb (g_27 bX6_ones rfl) rfl (lv_at hl 2 rfl) ?_
        refine va_iald hx hb hK hP 0 0 rfl rfl (in8 (by omega)) (g_46 bX6_ones rfl) ?_
        refine lv_seti (v := fMz k_16) (congrArg fMz (cl8 (by omega))) ?_
        refine lv_icmp_le (tgt := 39) hx hb dX6_ones_29 (by decide +kernel) (fun c_31 => ?_) (fun c_31 => ?_)
        · obtain ⟨n_32, hn_33, en_34⟩ := hSz k_16 hk_17
          obtain ⟨k_35, hk_36, rfl⟩ := sz4m en_34 hn_33 c_21 c_26 c_31
          refine lv_iconst (v := 0) hx hb (g_3 bX6_ones rfl) (by decide +kernel) ?_
          refine lv_istore (lv' := [(4, .int 0), (3, .int 0), (0, .ref qm), (1, .int (nI k_16)), (2, .int (nI (4 * k_35)))]) hx hb (g_54 (v := 4) bX6_ones rfl) hl (by decide +kernel) rfl (fun ls => ?_)
          clear hl
          intro hl
          refine lv_iconst (v := 0) hx hb (g_3 bX6_ones rfl) (by decide +kernel) ?_
          refine lv_istore (lv' := [(5, .int 0), (4, .int 0), (3, .int 0), (0, .ref qm), (1, .int (nI k_16)), (2, .int (nI (4 * k_35)))]) hx hb (g_54 (v := 5) bX6_ones rfl) hl (by decide +kernel) rfl (fun ls => ?_)
          clear hl
          intro hl
          replace hl : lv_has ls 6 [(5, .int (nI (4 * 0))), (4, .int 0), (3, .int 0), (0, .ref qm), (1, .int (nI k_16)), (2, .int (nI (4 * k_35)))] := hl
          have lp_37 : ∀ (n_38 : Nat) (j_40 : Nat) (tJ_41 : TA) (xC_42 : Int32), 10 - j_40 < n_38 → j_40 ≤ k_35 → WI tJ_41 → onG (eR k_16) (k_35 - j_40) (4 * j_40) tJ_41 xC_42 = onG (eR k_16) k_35 0 tA 0 → ∀ (H : Heap) (locs : List Loc) (ls : Array Slot), va_P G CL (zzI cy qmz 8 fMz :: zzG cy 4 qmR rR :: zzJ cy (rR 0) 40 (eR 0) :: zzJ cy (rR 1) 40 (eR 1) :: zzJ cy (rR 2) 40 (eR 2) :: zzJ cy (rR 3) 40 (eR 3) :: zzJ cy (rR 4) 40 (eR 4) :: zzJ cy (rR 5) 40 (eR 5) :: zzJ cy (rR 6) 40 (eR 6) :: zzJ cy (rR 7) 40 (eR 7) :: zzG cy 3 qmB rB :: zzI cy (rB 0) 4 (bkR tJ_41 0) :: zzI cy (rB 1) 4 (bkR tJ_41 1) :: zzI cy (rB 2) 4 (bkR tJ_41 2) :: zzI cy (rB 3) 4 (bkR tJ_41 3) :: zzI cy (rB 4) 4 (bkR tJ_41 4) :: zzI cy (rB 5) 4 (bkR tJ_41 5) :: zzI cy (rB 6) 4 (bkR tJ_41 6) :: zzI cy (rB 7) 4 (bkR tJ_41 7) :: zzG cy 3 qmO rO :: zzI cy (rO 0) 5 (onR tJ_41 0) :: zzI cy (rO 1) 5 (onR tJ_41 1) :: zzI cy (rO 2) 5 (onR tJ_41 2) :: zzI cy (rO 3) 5 (onR tJ_41 3) :: zzI cy (rO 4) 5 (onR tJ_41 4) :: zzI cy (rO 5) 5 (onR tJ_41 5) :: zzI cy (rO 6) 5 (onR tJ_41 6) :: zzI cy (rO 7) 5 (onR tJ_41 7) :: zzG cy 3 qmK rK :: zzI cy (rK 0) 8 (T_kn tJ_41 0) :: zzI cy (rK 1) 8 (T_kn tJ_41 1) :: zzI cy (rK 2) 8 (T_kn tJ_41 2) :: zzI cy (rK 3) 8 (T_kn tJ_41 3) :: zzI cy (rK 4) 8 (T_kn tJ_41 4) :: zzI cy (rK 5) 8 (T_kn tJ_41 5) :: zzI cy (rK 6) 8 (T_kn tJ_41 6) :: zzI cy (rK 7) 8 (T_kn tJ_41 7) :: zzO qm 5 (.ref qmh :: .ref qmo :: .ref qmz :: .ref qmR :: .ref qmv :: .ref qmk :: .ref qma :: .ref qmt :: .int (nI kZ) :: .ref qmr :: .int (nI (T_nb tJ_41)) :: .ref qmB :: .int (nI (T_np tJ_41)) :: .ref qmO :: .ref qmK :: .int iEn :: .int iTk :: .int (T_sd tJ_41) :: ov uP :: ov uU :: .int (nI kAt) :: .int iTo :: .int iFr :: .long JFi :: .int iFa :: .ref qm3 :: .int iSt :: .int iLv :: .int iWs :: vLa :: .ref qmu :: .ref qmy :: .ref qmb :: .ref qms :: .int iOm :: []) :: zzI cy qmh 8 fMh :: zzI cy qmr 8 fX_4 :: []) H → va_D A (zzI cy qmz 8 fMz :: zzG cy 4 qmR rR :: zzJ cy (rR 0) 40 (eR 0) :: zzJ cy (rR 1) 40 (eR 1) :: zzJ cy (rR 2) 40 (eR 2) :: zzJ cy (rR 3) 40 (eR 3) :: zzJ cy (rR 4) 40 (eR 4) :: zzJ cy (rR 5) 40 (eR 5) :: zzJ cy (rR 6) 40 (eR 6) :: zzJ cy (rR 7) 40 (eR 7) :: zzG cy 3 qmB rB :: zzI cy (rB 0) 4 (bkR tJ_41 0) :: zzI cy (rB 1) 4 (bkR tJ_41 1) :: zzI cy (rB 2) 4 (bkR tJ_41 2) :: zzI cy (rB 3) 4 (bkR tJ_41 3) :: zzI cy (rB 4) 4 (bkR tJ_41 4) :: zzI cy (rB 5) 4 (bkR tJ_41 5) :: zzI cy (rB 6) 4 (bkR tJ_41 6) :: zzI cy (rB 7) 4 (bkR tJ_41 7) :: zzG cy 3 qmO rO :: zzI cy (rO 0) 5 (onR tJ_41 0) :: zzI cy (rO 1) 5 (onR tJ_41 1) :: zzI cy (rO 2) 5 (onR tJ_41 2) :: zzI cy (rO 3) 5 (onR tJ_41 3) :: zzI cy (rO 4) 5 (onR tJ_41 4) :: zzI cy (rO 5) 5 (onR tJ_41 5) :: zzI cy (rO 6) 5 (onR tJ_41 6) :: zzI cy (rO 7) 5 (onR tJ_41 7) :: zzG cy 3 qmK rK :: zzI cy (rK 0) 8 (T_kn tJ_41 0) :: zzI cy (rK 1) 8 (T_kn tJ_41 1) :: zzI cy (rK 2) 8 (T_kn tJ_41 2) :: zzI cy (rK 3) 8 (T_kn tJ_41 3) :: zzI cy (rK 4) 8 (T_kn tJ_41 4) :: zzI cy (rK 5) 8 (T_kn tJ_41 5) :: zzI cy (rK 6) 8 (T_kn tJ_41 6) :: zzI cy (rK 7) 8 (T_kn tJ_41 7) :: zzO qm 5 (.ref qmh :: .ref qmo :: .ref qmz :: .ref qmR :: .ref qmv :: .ref qmk :: .ref qma :: .ref qmt :: .int (nI kZ) :: .ref qmr :: .int (nI (T_nb tJ_41)) :: .ref qmB :: .int (nI (T_np tJ_41)) :: .ref qmO :: .ref qmK :: .int iEn :: .int iTk :: .int (T_sd tJ_41) :: ov uP :: ov uU :: .int (nI kAt) :: .int iTo :: .int iFr :: .long JFi :: .int iFa :: .ref qm3 :: .int iSt :: .int iLv :: .int iWs :: vLa :: .ref qmu :: .ref qmy :: .ref qmb :: .ref qms :: .int iOm :: []) :: zzI cy qmh 8 fMh :: zzI cy qmr 8 fX_4 :: []) → va_S A s.heap H locs → lv_has ls 6 [(5, .int (nI (4 * j_40))), (4, .int xC_42), (3, .int 0), (0, .ref qm), (1, .int (nI k_16)), (2, .int (nI (4 * k_35)))] → W p l e (Rm 16 0 0) s m (List.toArray (α := Value) [.ref qm, .int (nI k_16), .int (nI (4 * k_35))]) below meth c H locs 0 0 (MQ below ((Wi G (fun r u => ∃ (tN : TA) (fNr : Nat → Int32), u = (zzO qm 5 (.ref qmh :: .ref qmo :: .ref qmz :: .ref qmR :: .ref qmv :: .ref qmk :: .ref qma :: .ref qmt :: .int (nI kZ) :: .ref qmr :: .int (nI (T_nb tN)) :: .ref qmB :: .int (nI (T_np tN)) :: .ref qmO :: .ref qmK :: .int iEn :: .int iTk :: .int (T_sd tN) :: ov uP :: ov uU :: .int (nI kAt) :: .int iTo :: .int iFr :: .long JFi :: .int iFa :: .ref qm3 :: .int iSt :: .int iLv :: .int iWs :: vLa :: .ref qmu :: .ref qmy :: .ref qmb :: .ref qms :: .int iOm :: []) :: zzI cy qmh 8 fMh :: zzI cy qmz 8 fMz :: zzG cy 4 qmR rR :: zzJ cy (rR 0) 40 (eR 0) :: zzJ cy (rR 1) 40 (eR 1) :: zzJ cy (rR 2) 40 (eR 2) :: zzJ cy (rR 3) 40 (eR 3) :: zzJ cy (rR 4) 40 (eR 4) :: zzJ cy (rR 5) 40 (eR 5) :: zzJ cy (rR 6) 40 (eR 6) :: zzJ cy (rR 7) 40 (eR 7) :: zzG cy 3 qmB rB :: zzI cy (rB 0) 4 (bkR tN 0) :: zzI cy (rB 1) 4 (bkR tN 1) :: zzI cy (rB 2) 4 (bkR tN 2) :: zzI cy (rB 3) 4 (bkR tN 3) :: zzI cy (rB 4) 4 (bkR tN 4) :: zzI cy (rB 5) 4 (bkR tN 5) :: zzI cy (rB 6) 4 (bkR tN 6) :: zzI cy (rB 7) 4 (bkR tN 7) :: zzG cy 3 qmO rO :: zzI cy (rO 0) 5 (onR tN 0) :: zzI cy (rO 1) 5 (onR tN 1) :: zzI cy (rO 2) 5 (onR tN 2) :: zzI cy (rO 3) 5 (onR tN 3) :: zzI cy (rO 4) 5 (onR tN 4) :: zzI cy (rO 5) 5 (onR tN 5) :: zzI cy (rO 6) 5 (onR tN 6) :: zzI cy (rO 7) 5 (onR tN 7) :: zzG cy 3 qmK rK :: zzI cy (rK 0) 8 (T_kn tN 0) :: zzI cy (rK 1) 8 (T_kn tN 1) :: zzI cy (rK 2) 8 (T_kn tN 2) :: zzI cy (rK 3) 8 (T_kn tN 3) :: zzI cy (rK 4) 8 (T_kn tN 4) :: zzI cy (rK 5) 8 (T_kn tN 5) :: zzI cy (rK 6) 8 (T_kn tN 6) :: zzI cy (rK 7) 8 (T_kn tN 7) :: zzI cy qmr 8 fNr :: []) ∧ (WI tN ∧ PMones fMh fMz eR tA (nI k_16) (nI (4 * k_35)) r tN) ∧ (True))) A) (List.toArray (α := Value) [.ref qm, .int (nI k_16), .int (nI (4 * k_35))]) s 0 0 A) (F0 m 45 ls []) := by
            intro n_38
            induction n_38 with
            | zero => intro j_40 tJ_41 xC_42 hm9; exact absurd hm9 (Nat.not_lt_zero _)
            | succ n_38 ih_39 =>
              intro j_40 tJ_41 xC_42 hm_46 hj_43 hW_44 hT_45 H locs ls hP hD hS hl
              refine lv_iload hx hb (g_21 (v := 5) bX6_ones rfl) (lv_at hl 0 rfl) ?_
              refine lv_iload_n hx hb (g_28 bX6_ones rfl) rfl (lv_at hl 5 rfl) ?_
              refine lv_icmp_ge (tgt := 112) hx hb dX6_ones_48 (by decide +kernel) (fun c_47 => ?_) (fun c_47 => ?_)
              · have hlt_48 : j_40 = k_35 := by have := lp_ge rfl rfl (by omega) (by omega) c_47; omega
                have hlt_48r : onG (eR k_16) k_35 0 tA 0 = (tJ_41, xC_42) := by rw [← hT_45, hlt_48, Nat.sub_self]; rfl
                refine lv_iload hx hb (g_21 (v := 4) bX6_ones rfl) (lv_at hl 1 rfl) ?_
                exact endWs [(false :: false :: false :: false :: false :: false :: false :: false :: false :: false :: false :: false :: false :: false :: false :: false :: false :: false :: false :: false :: false :: false :: false :: false :: false :: false :: false :: false :: false :: false :: false :: false :: false :: false :: false :: false :: false :: true :: true :: []), (true :: true :: true :: true :: true :: true :: true :: true :: true :: true :: true :: true :: true :: true :: true :: true :: true :: true :: true :: true :: true :: true :: true :: true :: true :: true :: true :: true :: true :: true :: true :: true :: true :: true :: true :: true :: true :: false :: false :: true :: [])] hx hb hr hlocks rfl hP hD rfl (by decide +kernel) hS ⟨tJ_41, fX_4, rfl, ⟨hW_44, Or.inr (Or.inr (Or.inr ⟨k_16, k_35, hk_17, rfl, h_18, h_19, rfl, by omega, c_31, hlt_48r.symm⟩))⟩, trivial⟩ (g_172 bX6_ones rfl)
              · have hlt_49 : j_40 < k_35 := by have := lp_lt rfl rfl (by omega) (by omega) c_47; omega
                have hlt_49b := hW_44.1.1.1
                have hlt_49p := hW_44.1.1.2
                have hlt_49z := hW_44.2.1
                refine lv_aload_n hx hb (g_42 bX6_ones rfl) rfl (lv_at hl 3 rfl) ?_
                refine lv_aload_n hx hb (g_42 bX6_ones rfl) rfl (lv_at hl 3 rfl) ?_
                refine va_get (D := G) (ci := 5) (v := .ref qmR) (C := RX6) (T := TX6) (N := 35) hx hb hts iX_X6 hown hK hP 37 rfl rfl 3 (by decide +kernel) (hts _ m_t853) (fun _ h9 => h9) rfl (g_180 (v := 21) bX6_ones rfl) ?_
                refine lv_iload_n hx hb (g_27 bX6_ones rfl) rfl (lv_at hl 4 rfl) ?_
                refine va_alda hx hb hK hP 1 4 rfl rfl (in8 (by omega)) (g_50 bX6_ones rfl) ?_
                refine lv_setv (v := .ref (rR k_16)) (g_ref (by omega)) ?_
                refine lv_iload hx hb (g_21 (v := 5) bX6_ones rfl) (lv_at hl 0 rfl) ?_
                refine va_lald hx hb hK hP (2 + k_16) 1 (sg8 (n0 := 2) (f := (fun j => zzJ cy (rR j) 40 (eR j))) rfl rfl rfl rfl rfl rfl rfl rfl k_16 (by omega)) rfl (vp_in_nI (by omega) (by omega)) (g_47 bX6_ones rfl) ?_
                refine lv_setl (v := eR k_16 (4 * j_40)) (congrArg (eR k_16) (nI_clamp (by omega))) ?_
                refine lv_aload_n hx hb (g_42 bX6_ones rfl) rfl (lv_at hl 3 rfl) ?_
                refine va_get (D := G) (ci := 5) (v := .ref qmR) (C := RX6) (T := TX6) (N := 35) hx hb hts iX_X6 hown hK hP 37 rfl rfl 3 (by decide +kernel) (hts _ m_t853) (fun _ h9 => h9) rfl (g_180 (v := 21) bX6_ones rfl) ?_
                refine lv_iload_n hx hb (g_27 bX6_ones rfl) rfl (lv_at hl 4 rfl) ?_
                refine va_alda hx hb hK hP 1 4 rfl rfl (in8 (by omega)) (g_50 bX6_ones rfl) ?_
                refine lv_setv (v := .ref (rR k_16)) (g_ref (by omega)) ?_
                refine lv_iload hx hb (g_21 (v := 5) bX6_ones rfl) (lv_at hl 0 rfl) ?_
                refine lv_iconst (v := 1) hx hb (g_4 bX6_ones rfl) (by decide +kernel) ?_
                refine lv_iadd hx hb (g_96 bX6_ones rfl) ?_
                refine lv_seti (v := nI ((4 * j_40) + 1)) (nI_add _ _) ?_
                refine va_lald hx hb hK hP (2 + k_16) 1 (sg8 (n0 := 2) (f := (fun j => zzJ cy (rR j) 40 (eR j))) rfl rfl rfl rfl rfl rfl rfl rfl k_16 (by omega)) rfl (vp_in_nI (by omega) (by omega)) (g_47 bX6_ones rfl) ?_
                refine lv_setl (v := eR k_16 ((4 * j_40) + 1)) (congrArg (eR k_16) (nI_clamp (by omega))) ?_
                refine lv_aload_n hx hb (g_42 bX6_ones rfl) rfl (lv_at hl 3 rfl) ?_
                refine va_get (D := G) (ci := 5) (v := .ref qmR) (C := RX6) (T := TX6) (N := 35) hx hb hts iX_X6 hown hK hP 37 rfl rfl 3 (by decide +kernel) (hts _ m_t853) (fun _ h9 => h9) rfl (g_180 (v := 21) bX6_ones rfl) ?_
                refine lv_iload_n hx hb (g_27 bX6_ones rfl) rfl (lv_at hl 4 rfl) ?_
                refine va_alda hx hb hK hP 1 4 rfl rfl (in8 (by omega)) (g_50 bX6_ones rfl) ?_
                refine lv_setv (v := .ref (rR k_16)) (g_ref (by omega)) ?_
                refine lv_iload hx hb (g_21 (v := 5) bX6_ones rfl) (lv_at hl 0 rfl) ?_
                refine lv_iconst (v := 2) hx hb (g_5 bX6_ones rfl) (by decide +kernel) ?_
                refine lv_iadd hx hb (g_96 bX6_ones rfl) ?_
                refine lv_seti (v := nI ((4 * j_40) + 2)) (nI_add _ _) ?_
                refine va_lald hx hb hK hP (2 + k_16) 1 (sg8 (n0 := 2) (f := (fun j => zzJ cy (rR j) 40 (eR j))) rfl rfl rfl rfl rfl rfl rfl rfl k_16 (by omega)) rfl (vp_in_nI (by omega) (by omega)) (g_47 bX6_ones rfl) ?_
                refine lv_setl (v := eR k_16 ((4 * j_40) + 2)) (congrArg (eR k_16) (nI_clamp (by omega))) ?_
                refine lv_aload_n hx hb (g_42 bX6_ones rfl) rfl (lv_at hl 3 rfl) ?_
                refine va_get (D := G) (ci := 5) (v := .ref qmR) (C := RX6) (T := TX6) (N := 35) hx hb hts iX_X6 hown hK hP 37 rfl rfl 3 (by decide +kernel) (hts _ m_t853) (fun _ h9 => h9) rfl (g_180 (v := 21) bX6_ones rfl) ?_
                refine lv_iload_n hx hb (g_27 bX6_ones rfl) rfl (lv_at hl 4 rfl) ?_
                refine va_alda hx hb hK hP 1 4 rfl rfl (in8 (by omega)) (g_50 bX6_ones rfl) ?_
                refine lv_setv (v := .ref (rR k_16)) (g_ref (by omega)) ?_
                refine lv_iload hx hb (g_21 (v := 5) bX6_ones rfl) (lv_at hl 0 rfl) ?_
                refine lv_iconst (v := 3) hx hb (g_6 bX6_ones rfl) (by decide +kernel) ?_
                refine lv_iadd hx hb (g_96 bX6_ones rfl) ?_
                refine lv_seti (v := nI ((4 * j_40) + 3)) (nI_add _ _) ?_
                refine va_lald hx hb hK hP (2 + k_16) 1 (sg8 (n0 := 2) (f := (fun j => zzJ cy (rR j) 40 (eR j))) rfl rfl rfl rfl rfl rfl rfl rfl k_16 (by omega)) rfl (vp_in_nI (by omega) (by omega)) (g_47 bX6_ones rfl) ?_
                refine lv_setl (v := eR k_16 ((4 * j_40) + 3)) (congrArg (eR k_16) (nI_clamp (by omega))) ?_
                refine cVi (As := [.long (eR k_16 (4 * j_40)), .long (eR k_16 ((4 * j_40) + 1)), .long (eR k_16 ((4 * j_40) + 2)), .long (eR k_16 ((4 * j_40) + 3))]) (rest := []) (b := qm) (q := (RX6, TX6, 35)) ⟨hx, hb, hml, hown, hts⟩ (x_X6_add l G cy (H).size qm (.ref qmh) (.ref qmo) (.ref qmz) (.ref qmR) (.ref qmv) (.ref qmk) (.ref qma) (.ref qmt) (.int (nI kZ)) (.ref qmr) tJ_41 qmB qmO qmK iEn iTk (ov uP) (ov uU) (.int (nI kAt)) (.int iTo) (.int iFr) (.long JFi) (.int iFa) (.ref qm3) (.int iSt) iLv iWs vLa (.ref qmu) (.ref qmy) (.ref qmb) (.ref qms) (.int iOm) rB rO rK (eR k_16 (4 * j_40)) (eR k_16 ((4 * j_40) + 1)) (eR k_16 ((4 * j_40) + 2)) (eR k_16 ((4 * j_40) + 3)) (by omega) hlt_49z) L_X6_137 hN hP hD hS hA (trueIxs [(false :: false :: false :: false :: false :: false :: false :: false :: false :: false :: false :: false :: false :: false :: false :: false :: false :: false :: false :: false :: false :: false :: false :: false :: false :: false :: false :: false :: false :: false :: false :: false :: false :: false :: false :: false :: false :: true :: []), (false :: false :: false :: false :: false :: false :: false :: false :: false :: false :: true :: true :: true :: true :: true :: true :: true :: true :: true :: true :: true :: true :: true :: true :: true :: true :: true :: true :: true :: true :: true :: true :: true :: true :: true :: true :: true :: [])]) (true :: true :: true :: true :: true :: true :: true :: true :: true :: true :: false :: false :: false :: false :: false :: false :: false :: false :: false :: false :: false :: false :: false :: false :: false :: false :: false :: false :: false :: false :: false :: false :: false :: false :: false :: false :: false :: false :: true :: true :: []) (sels_eq rfl rfl) (by decide +kernel) rfl 37 5 rfl rfl rfl ⟨Nat.le_of_ble_eq_true rfl, Nat.le_of_ble_eq_true rfl⟩ hl.1 (Nat.le_of_ble_eq_true rfl) (g_182 (v := 137) bX6_ones rfl) ⟨Nat.le_of_ble_eq_true rfl, Nat.le_of_ble_eq_true rfl⟩ (fun r_50 u_52 H locs h_51 => ?_)
                clear hP hD hS
                intro hP hD hS
                obtain ⟨tX_53, hu9, h_51⟩ := h_51
                have hPD := pd_eq (_ :: _ :: _ :: _ :: _ :: _ :: _ :: _ :: _ :: _ :: _ :: _ :: zzO qm 5 (.ref qmh :: .ref qmo :: .ref qmz :: .ref qmR :: .ref qmv :: .ref qmk :: .ref qma :: .ref qmt :: .int (nI kZ) :: .ref qmr :: .int (nI (T_nb tX_53)) :: .ref qmB :: .int (nI (T_np tX_53)) :: .ref qmO :: .ref qmK :: .int iEn :: .int iTk :: .int (T_sd tX_53) :: ov uP :: ov uU :: .int (nI kAt) :: .int iTo :: .int iFr :: .long JFi :: .int iFa :: .ref qm3 :: .int iSt :: .int iLv :: .int iWs :: vLa :: .ref qmu :: .ref qmy :: .ref qmb :: .ref qms :: .int iOm :: []) :: _ :: zzI cy (rB 0) 4 (bkR tX_53 0) :: zzI cy (rB 1) 4 (bkR tX_53 1) :: zzI cy (rB 2) 4 (bkR tX_53 2) :: zzI cy (rB 3) 4 (bkR tX_53 3) :: zzI cy (rB 4) 4 (bkR tX_53 4) :: zzI cy (rB 5) 4 (bkR tX_53 5) :: zzI cy (rB 6) 4 (bkR tX_53 6) :: zzI cy (rB 7) 4 (bkR tX_53 7) :: _ :: zzI cy (rO 0) 5 (onR tX_53 0) :: zzI cy (rO 1) 5 (onR tX_53 1) :: zzI cy (rO 2) 5 (onR tX_53 2) :: zzI cy (rO 3) 5 (onR tX_53 3) :: zzI cy (rO 4) 5 (onR tX_53 4) :: zzI cy (rO 5) 5 (onR tX_53 5) :: zzI cy (rO 6) 5 (onR tX_53 6) :: zzI cy (rO 7) 5 (onR tX_53 7) :: _ :: zzI cy (rK 0) 8 (T_kn tX_53 0) :: zzI cy (rK 1) 8 (T_kn tX_53 1) :: zzI cy (rK 2) 8 (T_kn tX_53 2) :: zzI cy (rK 3) 8 (T_kn tX_53 3) :: zzI cy (rK 4) 8 (T_kn tX_53 4) :: zzI cy (rK 5) 8 (T_kn tX_53 5) :: zzI cy (rK 6) 8 (T_kn tX_53 6) :: zzI cy (rK 7) 8 (T_kn tX_53 7) :: []) hP hD hu9 rfl
                clear hP hD hu9
                obtain ⟨hP, hD⟩ := hPD
                rcases h_51 with ⟨rfl, h_54⟩ | ⟨rfl, h_54⟩ | ⟨rfl, h_54⟩
                · refine lv_if_ge (tgt := 103) hx hb dX6_ones_97 (by decide +kernel) (fun h9 => absurd h9 (by decide +kernel)) (fun _ => ?_)
                  refine lv_iload hx hb (g_21 (v := 4) bX6_ones rfl) (lv_at hl 1 rfl) ?_
                  exact endW (u := (zzO qm 5 (.ref qmh :: .ref qmo :: .ref qmz :: .ref qmR :: .ref qmv :: .ref qmk :: .ref qma :: .ref qmt :: .int (nI kZ) :: .ref qmr :: .int (nI (T_nb tX_53)) :: .ref qmB :: .int (nI (T_np tX_53)) :: .ref qmO :: .ref qmK :: .int iEn :: .int iTk :: .int (T_sd tX_53) :: ov uP :: ov uU :: .int (nI kAt) :: .int iTo :: .int iFr :: .long JFi :: .int iFa :: .ref qm3 :: .int iSt :: .int iLv :: .int iWs :: vLa :: .ref qmu :: .ref qmy :: .ref qmb :: .ref qms :: .int iOm :: []) :: zzI cy qmh 8 fMh :: zzI cy qmz 8 fMz :: zzG cy 4 qmR rR :: zzJ cy (rR 0) 40 (eR 0) :: zzJ cy (rR 1) 40 (eR 1) :: zzJ cy (rR 2) 40 (eR 2) :: zzJ cy (rR 3) 40 (eR 3) :: zzJ cy (rR 4) 40 (eR 4) :: zzJ cy (rR 5) 40 (eR 5) :: zzJ cy (rR 6) 40 (eR 6) :: zzJ cy (rR 7) 40 (eR 7) :: zzG cy 3 qmB rB :: zzI cy (rB 0) 4 (bkR tX_53 0) :: zzI cy (rB 1) 4 (bkR tX_53 1) :: zzI cy (rB 2) 4 (bkR tX_53 2) :: zzI cy (rB 3) 4 (bkR tX_53 3) :: zzI cy (rB 4) 4 (bkR tX_53 4) :: zzI cy (rB 5) 4 (bkR tX_53 5) :: zzI cy (rB 6) 4 (bkR tX_53 6) :: zzI cy (rB 7) 4 (bkR tX_53 7) :: zzG cy 3 qmO rO :: zzI cy (rO 0) 5 (onR tX_53 0) :: zzI cy (rO 1) 5 (onR tX_53 1) :: zzI cy (rO 2) 5 (onR tX_53 2) :: zzI cy (rO 3) 5 (onR tX_53 3) :: zzI cy (rO 4) 5 (onR tX_53 4) :: zzI cy (rO 5) 5 (onR tX_53 5) :: zzI cy (rO 6) 5 (onR tX_53 6) :: zzI cy (rO 7) 5 (onR tX_53 7) :: zzG cy 3 qmK rK :: zzI cy (rK 0) 8 (T_kn tX_53 0) :: zzI cy (rK 1) 8 (T_kn tX_53 1) :: zzI cy (rK 2) 8 (T_kn tX_53 2) :: zzI cy (rK 3) 8 (T_kn tX_53 3) :: zzI cy (rK 4) 8 (T_kn tX_53 4) :: zzI cy (rK 5) 8 (T_kn tX_53 5) :: zzI cy (rK 6) 8 (T_kn tX_53 6) :: zzI cy (rK 7) 8 (T_kn tX_53 7) :: zzI cy qmr 8 fX_4 :: [])) hx hb hr hlocks rfl (pSb hP [[false, false, false, false, false, false, false, false, false, false, false, false, true], [false, false, false, false, false, false, false, false, false, false, true], (true :: true :: true :: true :: true :: true :: true :: true :: true :: true :: false :: false :: false :: true :: true :: true :: true :: true :: true :: true :: true :: true :: true :: true :: true :: true :: true :: true :: true :: true :: true :: true :: true :: true :: true :: true :: true :: true :: true :: true :: []), [false, false, false, false, false, false, false, false, false, false, false, true]] rfl rfl) (dSb hD [[false, false, false, false, false, false, false, false, false, false, false, false, true], [false, false, false, false, false, false, false, false, false, false, true], (true :: true :: true :: true :: true :: true :: true :: true :: true :: true :: false :: false :: false :: true :: true :: true :: true :: true :: true :: true :: true :: true :: true :: true :: true :: true :: true :: true :: true :: true :: true :: true :: true :: true :: true :: true :: true :: true :: true :: true :: []), [false, false, false, false, false, false, false, false, false, false, false, true]] (by decide +kernel) rfl rfl) hS ⟨tX_53, fX_4, rfl, ⟨by rw [h_54.2]; exact hW_44, Or.inr (Or.inr (Or.inr ⟨k_16, k_35, hk_17, rfl, h_18, h_19, rfl, by omega, c_31, (by rw [← hT_45, on_2 (e := eR k_16) (i := 4 * j_40) h_54.1, h_54.2])⟩))⟩, trivial⟩ (g_172 bX6_ones rfl)
                · refine lv_if_ge (tgt := 103) hx hb dX6_ones_97 (by decide +kernel) (fun h9 => absurd h9 (by decide +kernel)) (fun _ => ?_)
                  refine lv_iload hx hb (g_21 (v := 4) bX6_ones rfl) (lv_at hl 1 rfl) ?_
                  exact endW (u := (zzO qm 5 (.ref qmh :: .ref qmo :: .ref qmz :: .ref qmR :: .ref qmv :: .ref qmk :: .ref qma :: .ref qmt :: .int (nI kZ) :: .ref qmr :: .int (nI (T_nb tX_53)) :: .ref qmB :: .int (nI (T_np tX_53)) :: .ref qmO :: .ref qmK :: .int iEn :: .int iTk :: .int (T_sd tX_53) :: ov uP :: ov uU :: .int (nI kAt) :: .int iTo :: .int iFr :: .long JFi :: .int iFa :: .ref qm3 :: .int iSt :: .int iLv :: .int iWs :: vLa :: .ref qmu :: .ref qmy :: .ref qmb :: .ref qms :: .int iOm :: []) :: zzI cy qmh 8 fMh :: zzI cy qmz 8 fMz :: zzG cy 4 qmR rR :: zzJ cy (rR 0) 40 (eR 0) :: zzJ cy (rR 1) 40 (eR 1) :: zzJ cy (rR 2) 40 (eR 2) :: zzJ cy (rR 3) 40 (eR 3) :: zzJ cy (rR 4) 40 (eR 4) :: zzJ cy (rR 5) 40 (eR 5) :: zzJ cy (rR 6) 40 (eR 6) :: zzJ cy (rR 7) 40 (eR 7) :: zzG cy 3 qmB rB :: zzI cy (rB 0) 4 (bkR tX_53 0) :: zzI cy (rB 1) 4 (bkR tX_53 1) :: zzI cy (rB 2) 4 (bkR tX_53 2) :: zzI cy (rB 3) 4 (bkR tX_53 3) :: zzI cy (rB 4) 4 (bkR tX_53 4) :: zzI cy (rB 5) 4 (bkR tX_53 5) :: zzI cy (rB 6) 4 (bkR tX_53 6) :: zzI cy (rB 7) 4 (bkR tX_53 7) :: zzG cy 3 qmO rO :: zzI cy (rO 0) 5 (onR tX_53 0) :: zzI cy (rO 1) 5 (onR tX_53 1) :: zzI cy (rO 2) 5 (onR tX_53 2) :: zzI cy (rO 3) 5 (onR tX_53 3) :: zzI cy (rO 4) 5 (onR tX_53 4) :: zzI cy (rO 5) 5 (onR tX_53 5) :: zzI cy (rO 6) 5 (onR tX_53 6) :: zzI cy (rO 7) 5 (onR tX_53 7) :: zzG cy 3 qmK rK :: zzI cy (rK 0) 8 (T_kn tX_53 0) :: zzI cy (rK 1) 8 (T_kn tX_53 1) :: zzI cy (rK 2) 8 (T_kn tX_53 2) :: zzI cy (rK 3) 8 (T_kn tX_53 3) :: zzI cy (rK 4) 8 (T_kn tX_53 4) :: zzI cy (rK 5) 8 (T_kn tX_53 5) :: zzI cy (rK 6) 8 (T_kn tX_53 6) :: zzI cy (rK 7) 8 (T_kn tX_53 7) :: zzI cy qmr 8 fX_4 :: [])) hx hb hr hlocks rfl (pSb hP [[false, false, false, false, false, false, false, false, false, false, false, false, true], [false, false, false, false, false, false, false, false, false, false, true], (true :: true :: true :: true :: true :: true :: true :: true :: true :: true :: false :: false :: false :: true :: true :: true :: true :: true :: true :: true :: true :: true :: true :: true :: true :: true :: true :: true :: true :: true :: true :: true :: true :: true :: true :: true :: true :: true :: true :: true :: []), [false, false, false, false, false, false, false, false, false, false, false, true]] rfl rfl) (dSb hD [[false, false, false, false, false, false, false, false, false, false, false, false, true], [false, false, false, false, false, false, false, false, false, false, true], (true :: true :: true :: true :: true :: true :: true :: true :: true :: true :: false :: false :: false :: true :: true :: true :: true :: true :: true :: true :: true :: true :: true :: true :: true :: true :: true :: true :: true :: true :: true :: true :: true :: true :: true :: true :: true :: true :: true :: true :: []), [false, false, false, false, false, false, false, false, false, false, false, true]] (by decide +kernel) rfl rfl) hS ⟨tX_53, fX_4, rfl, ⟨by rw [h_54.2.2]; exact hW_44, Or.inr (Or.inr (Or.inr ⟨k_16, k_35, hk_17, rfl, h_18, h_19, rfl, by omega, c_31, (by rw [← hT_45, on_1 h_54.2.1, h_54.2.2])⟩))⟩, trivial⟩ (g_172 bX6_ones rfl)
                · refine lv_if_ge (tgt := 103) hx hb dX6_ones_97 (by decide +kernel) (fun c_57 => ?_) (fun c_57 => ?_)
                  · refine lv_iinc (v := xC_42 + 1) (lv' := [(4, .int (xC_42 + 1)), (5, .int (nI (4 * j_40))), (3, .int 0), (0, .ref qm), (1, .int (nI k_16)), (2, .int (nI (4 * k_35)))]) hx hb dX6_ones_103 hl (k := 1) rfl (rfl) (by decide +kernel) rfl (fun ls => ?_)
                    clear hl
                    intro hl
                    refine lv_iinc (v := (nI (4 * j_40)) + 4) (lv' := [(5, .int ((nI (4 * j_40)) + 4)), (4, .int (xC_42 + 1)), (3, .int 0), (0, .ref qm), (1, .int (nI k_16)), (2, .int (nI (4 * k_35)))]) hx hb dX6_ones_106 hl (k := 1) rfl (rfl) (by decide +kernel) rfl (fun ls => ?_)
                    clear hl
                    intro hl
                    rw [show (nI (4 * j_40)) + 4 = nI (4 * (j_40 + 1)) from (nI_add (4 * j_40) 4).trans (congrArg nI (by omega))] at hl
                    refine lv_goto (tgt := 45) hx hb dX6_ones_109 (by decide +kernel) ?_
                    exact ih_39 (j_40 + 1) tX_53 (xC_42 + 1) (by omega) (by omega) (by rw [h_54.2.2]; exact WI_zao hW_44 h_54.2.1 h_54.1) (by rw [← hT_45, show k_35 - j_40 = k_35 - (j_40 + 1) + 1 by omega, on_go (e := eR k_16) (i := 4 * j_40) h_54.2.1 h_54.1, h_54.2.2]; rfl) _ _ _ (pSb hP [(true :: true :: true :: true :: true :: true :: true :: true :: true :: true :: false :: false :: false :: true :: true :: true :: true :: true :: true :: true :: true :: true :: true :: true :: true :: true :: true :: true :: true :: true :: true :: true :: true :: true :: true :: true :: true :: true :: true :: true :: []), [false, false, false, false, false, false, false, false, false, false, false, false, true], [false, false, false, false, false, false, false, false, false, false, true, true]] rfl rfl) (dSb hD [(true :: true :: true :: true :: true :: true :: true :: true :: true :: true :: false :: false :: false :: true :: true :: true :: true :: true :: true :: true :: true :: true :: true :: true :: true :: true :: true :: true :: true :: true :: true :: true :: true :: true :: true :: true :: true :: true :: true :: true :: []), [false, false, false, false, false, false, false, false, false, false, false, false, true], [false, false, false, false, false, false, false, false, false, false, true, true]] (by decide +kernel) rfl rfl) hS (lv_sub hl [0, 1, 2, 3, 4, 5] rfl)
                  · exact absurd (Int32.not_lt.mp (nI_nn (by omega))) c_57
          exact lp_37 ((10 - 0) + 1) 0 tA 0 (Nat.lt_succ_self _) (Nat.zero_le _) hWI rfl _ _ ls hP hD hS (lv_sub hl [0, 1, 2, 3, 4, 5] rfl)
        · refine lv_aload_n hx hb (g_42 bX6_ones rfl) rfl (lv_at hl 1 rfl) ?_
          refine lv_bipush (v := (-2)) hx hb dX6_ones_33 (by decide +kernel) ?_
          refine cVi (As := [.int (-2)]) (rest := []) (b := qm) (q := (RX6, TX6, 35)) ⟨hx, hb, hml, hown, hts⟩ (c_X6_refuse2 l G cy (H).size qm (.ref qmh) (.ref qmo) (.ref qmz) (.ref qmR) (.ref qmv) (.ref qmk) (.ref qma) (.ref qmt) (.int (nI kZ)) qmr tA qmB qmO qmK iEn iTk (ov uP) (ov uU) (.int (nI kAt)) (.int iTo) (.int iFr) (.long JFi) (.int iFa) (.ref qm3) (.int iSt) iLv iWs vLa (.ref qmu) (.ref qmy) (.ref qmb) (.ref qms) (.int iOm) fX_4) L_X6_91 hN hP hD hS hA [37, 39] (true :: true :: true :: true :: true :: true :: true :: true :: true :: true :: true :: true :: true :: true :: true :: true :: true :: true :: true :: true :: true :: true :: true :: true :: true :: true :: true :: true :: true :: true :: true :: true :: true :: true :: true :: true :: true :: false :: true :: false :: []) rfl (by decide +kernel) rfl 37 5 rfl rfl rfl ⟨Nat.le_of_ble_eq_true rfl, Nat.le_of_ble_eq_true rfl⟩ hl.1 (Nat.le_of_ble_eq_true rfl) (g_182 (v := 91) bX6_ones rfl) ⟨Nat.le_of_ble_eq_true rfl, Nat.le_of_ble_eq_true rfl⟩ (fun r_58 u_60 H locs h_59 => ?_)
          clear hP hD hS
          intro hP hD hS
          obtain ⟨fX_61, hu9, h_59⟩ := h_59
          have hPD := pd_eq (_ :: _ :: _ :: _ :: _ :: _ :: _ :: _ :: _ :: _ :: _ :: _ :: _ :: _ :: _ :: _ :: _ :: _ :: _ :: _ :: _ :: _ :: _ :: _ :: _ :: _ :: _ :: _ :: _ :: _ :: _ :: _ :: _ :: _ :: _ :: _ :: _ :: _ :: _ :: zzI cy qmr 8 fX_61 :: []) hP hD hu9 rfl
          clear hP hD hu9
          obtain ⟨hP, hD⟩ := hPD
          subst h_59
          exact endWs [(false :: false :: false :: false :: false :: false :: false :: false :: false :: false :: false :: false :: false :: false :: false :: false :: false :: false :: false :: false :: false :: false :: false :: false :: false :: false :: false :: false :: false :: false :: false :: false :: false :: false :: false :: false :: false :: false :: true :: []), (false :: false :: false :: false :: false :: false :: false :: false :: false :: false :: false :: false :: false :: false :: false :: false :: false :: false :: false :: false :: false :: false :: false :: false :: false :: false :: false :: false :: false :: false :: false :: false :: false :: false :: false :: false :: false :: true :: []), (true :: true :: true :: true :: true :: true :: true :: true :: true :: true :: true :: true :: true :: true :: true :: true :: true :: true :: true :: true :: true :: true :: true :: true :: true :: true :: true :: true :: true :: true :: true :: true :: true :: true :: true :: true :: true :: false :: false :: true :: [])] hx hb hr hlocks rfl hP hD rfl (by decide +kernel) hS ⟨tA, fX_61, rfl, ⟨hWI, Or.inl ⟨rfl, Or.inr ⟨k_16, hk_17, rfl, h_18, h_19, Or.inr (Or.inr c_31)⟩, rfl⟩⟩, trivial⟩ (g_172 bX6_ones rfl)
set_option maxHeartbeats 4000000 in
set_option maxRecDepth 100000 in
theorem x_X6_seed (l : Launch) (G : va_G) (cy : Nat → ClassId) (sz : Nat) (qm : Nat) (qmh : Nat) (qmo : Nat) (qmz : Nat) (qmR : Nat) (qmv : Nat) (qmk : Nat) (qma : Nat) (qmt : Nat) (kZ : Nat) (qmr : Nat) (tA : TA) (qmB : Nat) (qmO : Nat) (qmK : Nat) (iEn : Int32) (iTk : Int32) (uP : UM) (uU : UM) (kAt : Nat) (iTo : Int32) (iFr : Int32) (JFi : Int64) (iFa : Int32) (qm3 : Nat) (iSt : Int32) (iLv : Int32) (iWs : Int32) (vLa : Value) (qmu : Nat) (qmy : Nat) (qmb : Nat) (qms : Nat) (iOm : Int32) (rB : Nat → Nat) (rO : Nat → Nat) (rK : Nat → Nat) (iA : Int32)  (hB : T_nb tA ≤ 8) (hPp : T_np tA ≤ 8) (hTI : TI tA) (hWI : WI tA) : MW l yX6_seed cX6_seed 3 (some .int) 16 0 0 G cy [zzO qm 5 (.ref qmh :: .ref qmo :: .ref qmz :: .ref qmR :: .ref qmv :: .ref qmk :: .ref qma :: .ref qmt :: .int (nI kZ) :: .ref qmr :: .int (nI (T_nb tA)) :: .ref qmB :: .int (nI (T_np tA)) :: .ref qmO :: .ref qmK :: .int iEn :: .int iTk :: .int (T_sd tA) :: ov uP :: ov uU :: .int (nI kAt) :: .int iTo :: .int iFr :: .long JFi :: .int iFa :: .ref qm3 :: .int iSt :: .int iLv :: .int iWs :: vLa :: .ref qmu :: .ref qmy :: .ref qmb :: .ref qms :: .int iOm :: []), zzG cy 3 qmB rB, zzI cy (rB 0) 4 (bkR tA 0), zzI cy (rB 1) 4 (bkR tA 1), zzI cy (rB 2) 4 (bkR tA 2), zzI cy (rB 3) 4 (bkR tA 3), zzI cy (rB 4) 4 (bkR tA 4), zzI cy (rB 5) 4 (bkR tA 5), zzI cy (rB 6) 4 (bkR tA 6), zzI cy (rB 7) 4 (bkR tA 7), zzG cy 3 qmO rO, zzI cy (rO 0) 5 (onR tA 0), zzI cy (rO 1) 5 (onR tA 1), zzI cy (rO 2) 5 (onR tA 2), zzI cy (rO 3) 5 (onR tA 3), zzI cy (rO 4) 5 (onR tA 4), zzI cy (rO 5) 5 (onR tA 5), zzI cy (rO 6) 5 (onR tA 6), zzI cy (rO 7) 5 (onR tA 7), zzG cy 3 qmK rK, zzI cy (rK 0) 8 (T_kn tA 0), zzI cy (rK 1) 8 (T_kn tA 1), zzI cy (rK 2) 8 (T_kn tA 2), zzI cy (rK 3) 8 (T_kn tA 3), zzI cy (rK 4) 8 (T_kn tA 4), zzI cy (rK 5) 8 (T_kn tA 5), zzI cy (rK 6) 8 (T_kn tA 6), zzI cy (rK 7) 8 (T_kn tA 7)] sz [.ref qm, .int iA] (Wi G (fun r u => ∃ (tN : TA), u = [zzO qm 5 (.ref qmh :: .ref qmo :: .ref qmz :: .ref qmR :: .ref qmv :: .ref qmk :: .ref qma :: .ref qmt :: .int (nI kZ) :: .ref qmr :: .int (nI (T_nb tN)) :: .ref qmB :: .int (nI (T_np tN)) :: .ref qmO :: .ref qmK :: .int iEn :: .int iTk :: .int (T_sd tN) :: ov uP :: ov uU :: .int (nI kAt) :: .int iTo :: .int iFr :: .long JFi :: .int iFa :: .ref qm3 :: .int iSt :: .int iLv :: .int iWs :: vLa :: .ref qmu :: .ref qmy :: .ref qmb :: .ref qms :: .int iOm :: []), zzG cy 3 qmB rB, zzI cy (rB 0) 4 (bkR tN 0), zzI cy (rB 1) 4 (bkR tN 1), zzI cy (rB 2) 4 (bkR tN 2), zzI cy (rB 3) 4 (bkR tN 3), zzI cy (rB 4) 4 (bkR tN 4), zzI cy (rB 5) 4 (bkR tN 5), zzI cy (rB 6) 4 (bkR tN 6), zzI cy (rB 7) 4 (bkR tN 7), zzG cy 3 qmO rO, zzI cy (rO 0) 5 (onR tN 0), zzI cy (rO 1) 5 (onR tN 1), zzI cy (rO 2) 5 (onR tN 2), zzI cy (rO 3) 5 (onR tN 3), zzI cy (rO 4) 5 (onR tN 4), zzI cy (rO 5) 5 (onR tN 5), zzI cy (rO 6) 5 (onR tN 6), zzI cy (rO 7) 5 (onR tN 7), zzG cy 3 qmK rK, zzI cy (rK 0) 8 (T_kn tN 0), zzI cy (rK 1) 8 (T_kn tN 1), zzI cy (rK 2) 8 (T_kn tN 2), zzI cy (rK 3) 8 (T_kn tN 3), zzI cy (rK 4) 8 (T_kn tN 4), zzI cy (rK 5) 8 (T_kn tN 5), zzI cy (rK 6) 8 (T_kn tN 6), zzI cy (rK 7) 8 (T_kn tN 7)] ∧ (WI tN ∧ tN = T_setsd tA iA ∧ r = T_sd tA) ∧ (True))) := by
  refine enW RX6 (by decide +kernel) rfl (Nat.le_of_ble_eq_true rfl) (fun p e s m below meth c ls A hx hb hml hown hts hr hlocks hP hN hl hin hD hA hS => ?_)
  have hin : meth.name = _ := hin
  have hK := hN.1
  replace hl : lv_has ls 3 [(0, .ref qm), (1, .int iA)] := hl
  refine lv_aload_n hx hb (g_42 bX6_seed rfl) rfl (lv_at hl 0 rfl) ?_
  refine va_get (D := G) (ci := 5) (v := .int (T_sd tA)) (C := RX6) (T := TX6) (N := 35) hx hb hts iX_X6 hown hK hP 0 rfl rfl 17 (by decide +kernel) (hts _ m_t867) (fun _ h9 => h9) rfl (g_180 (v := 51) bX6_seed rfl) ?_
  refine lv_istore_n (lv' := [(2, .int (T_sd tA)), (0, .ref qm), (1, .int iA)]) hx hb (g_61 bX6_seed rfl) rfl hl (by decide +kernel) rfl (fun ls => ?_)
  clear hl
  intro hl
  refine lv_aload_n hx hb (g_42 bX6_seed rfl) rfl (lv_at hl 1 rfl) ?_
  refine lv_iload_n hx hb (g_27 bX6_seed rfl) rfl (lv_at hl 2 rfl) ?_
  refine va_put (D := G) (ci := 5) (v := .int iA) (ty := .int) (C := RX6) (T := TX6) (N := 35) hx hb hts iX_X6 tyX6 tyX6_ok nmX6 hown hK hP hD hS 0 rfl rfl 17 (by decide +kernel) (hts _ m_t867) (fun _ h9 => h9) rfl (by decide +kernel) rfl rfl (Nat.le_of_ble_eq_true rfl) (g_181 (v := 51) bX6_seed rfl) (fun H locs => ?_)
  clear hP hD hS
  intro hP hD hS
  have hPD := pd_as [zzO qm 5 (.ref qmh :: .ref qmo :: .ref qmz :: .ref qmR :: .ref qmv :: .ref qmk :: .ref qma :: .ref qmt :: .int (nI kZ) :: .ref qmr :: .int (nI (T_nb tA)) :: .ref qmB :: .int (nI (T_np tA)) :: .ref qmO :: .ref qmK :: .int iEn :: .int iTk :: .int iA :: ov uP :: ov uU :: .int (nI kAt) :: .int iTo :: .int iFr :: .long JFi :: .int iFa :: .ref qm3 :: .int iSt :: .int iLv :: .int iWs :: vLa :: .ref qmu :: .ref qmy :: .ref qmb :: .ref qms :: .int iOm :: []), _, _, _, _, _, _, _, _, _, _, _, _, _, _, _, _, _, _, _, _, _, _, _, _, _, _, _] hP hD rfl
  clear hP hD
  obtain ⟨hP, hD⟩ := hPD
  have hPD := pd_as [zzO qm 5 (.ref qmh :: .ref qmo :: .ref qmz :: .ref qmR :: .ref qmv :: .ref qmk :: .ref qma :: .ref qmt :: .int (nI kZ) :: .ref qmr :: .int (nI (T_nb (T_setsd tA iA))) :: .ref qmB :: .int (nI (T_np (T_setsd tA iA))) :: .ref qmO :: .ref qmK :: .int iEn :: .int iTk :: .int (T_sd (T_setsd tA iA)) :: ov uP :: ov uU :: .int (nI kAt) :: .int iTo :: .int iFr :: .long JFi :: .int iFa :: .ref qm3 :: .int iSt :: .int iLv :: .int iWs :: vLa :: .ref qmu :: .ref qmy :: .ref qmb :: .ref qms :: .int iOm :: []), _, zzI cy (rB 0) 4 (bkR (T_setsd tA iA) 0), zzI cy (rB 1) 4 (bkR (T_setsd tA iA) 1), zzI cy (rB 2) 4 (bkR (T_setsd tA iA) 2), zzI cy (rB 3) 4 (bkR (T_setsd tA iA) 3), zzI cy (rB 4) 4 (bkR (T_setsd tA iA) 4), zzI cy (rB 5) 4 (bkR (T_setsd tA iA) 5), zzI cy (rB 6) 4 (bkR (T_setsd tA iA) 6), zzI cy (rB 7) 4 (bkR (T_setsd tA iA) 7), _, zzI cy (rO 0) 5 (onR (T_setsd tA iA) 0), zzI cy (rO 1) 5 (onR (T_setsd tA iA) 1), zzI cy (rO 2) 5 (onR (T_setsd tA iA) 2), zzI cy (rO 3) 5 (onR (T_setsd tA iA) 3), zzI cy (rO 4) 5 (onR (T_setsd tA iA) 4), zzI cy (rO 5) 5 (onR (T_setsd tA iA) 5), zzI cy (rO 6) 5 (onR (T_setsd tA iA) 6), zzI cy (rO 7) 5 (onR (T_setsd tA iA) 7), _, zzI cy (rK 0) 8 (T_kn (T_setsd tA iA) 0), zzI cy (rK 1) 8 (T_kn (T_setsd tA iA) 1), zzI cy (rK 2) 8 (T_kn (T_setsd tA iA) 2), zzI cy (rK 3) 8 (T_kn (T_setsd tA iA) 3), zzI cy (rK 4) 8 (T_kn (T_setsd tA iA) 4), zzI cy (rK 5) 8 (T_kn (T_setsd tA iA) 5), zzI cy (rK 6) 8 (T_kn (T_setsd tA iA) 6), zzI cy (rK 7) 8 (T_kn (T_setsd tA iA) 7)] hP hD rfl
  clear hP hD
  obtain ⟨hP, hD⟩ := hPD
  refine lv_iload_n hx hb (g_28 bX6_seed rfl) rfl (lv_at hl 0 rfl) ?_
  exact endWs [[true, true, true, true, true, true, true, true, true, true, true, true, true, true, true, true, true, true, true, true, true, true, true, true, true, true, true, true]] hx hb hr hlocks rfl hP hD rfl (by decide +kernel) hS ⟨(T_setsd tA iA), rfl, ⟨WI_sd hWI, rfl, rfl⟩, trivial⟩ (g_172 bX6_seed rfl)
set_option maxHeartbeats 4000000 in
set_option maxRecDepth 100000 in
theorem x_X6_ends (l : Launch) (G : va_G) (cy : Nat → ClassId) (sz : Nat) (qm : Nat) (qmh : Nat) (qmo : Nat) (qmz : Nat) (qmR : Nat) (qmv : Nat) (qmk : Nat) (qma : Nat) (qmt : Nat) (kZ : Nat) (qmr : Nat) (tA : TA) (qmB : Nat) (qmO : Nat) (qmK : Nat) (iEn : Int32) (iTk : Int32) (uP : UM) (uU : UM) (kAt : Nat) (iTo : Int32) (iFr : Int32) (JFi : Int64) (iFa : Int32) (qm3 : Nat) (iSt : Int32) (iLv : Int32) (iWs : Int32) (vLa : Value) (qmu : Nat) (qmy : Nat) (qmb : Nat) (qms : Nat) (iOm : Int32) (rB : Nat → Nat) (rO : Nat → Nat) (rK : Nat → Nat)  (hB : T_nb tA ≤ 8) (hPp : T_np tA ≤ 8) (hTI : TI tA) (hWI : WI tA) : MW l yX6_ends cX6_ends 1 (some .int) 16 0 0 G cy [zzO qm 5 (.ref qmh :: .ref qmo :: .ref qmz :: .ref qmR :: .ref qmv :: .ref qmk :: .ref qma :: .ref qmt :: .int (nI kZ) :: .ref qmr :: .int (nI (T_nb tA)) :: .ref qmB :: .int (nI (T_np tA)) :: .ref qmO :: .ref qmK :: .int iEn :: .int iTk :: .int (T_sd tA) :: ov uP :: ov uU :: .int (nI kAt) :: .int iTo :: .int iFr :: .long JFi :: .int iFa :: .ref qm3 :: .int iSt :: .int iLv :: .int iWs :: vLa :: .ref qmu :: .ref qmy :: .ref qmb :: .ref qms :: .int iOm :: []), zzG cy 3 qmB rB, zzI cy (rB 0) 4 (bkR tA 0), zzI cy (rB 1) 4 (bkR tA 1), zzI cy (rB 2) 4 (bkR tA 2), zzI cy (rB 3) 4 (bkR tA 3), zzI cy (rB 4) 4 (bkR tA 4), zzI cy (rB 5) 4 (bkR tA 5), zzI cy (rB 6) 4 (bkR tA 6), zzI cy (rB 7) 4 (bkR tA 7), zzG cy 3 qmO rO, zzI cy (rO 0) 5 (onR tA 0), zzI cy (rO 1) 5 (onR tA 1), zzI cy (rO 2) 5 (onR tA 2), zzI cy (rO 3) 5 (onR tA 3), zzI cy (rO 4) 5 (onR tA 4), zzI cy (rO 5) 5 (onR tA 5), zzI cy (rO 6) 5 (onR tA 6), zzI cy (rO 7) 5 (onR tA 7), zzG cy 3 qmK rK, zzI cy (rK 0) 8 (T_kn tA 0), zzI cy (rK 1) 8 (T_kn tA 1), zzI cy (rK 2) 8 (T_kn tA 2), zzI cy (rK 3) 8 (T_kn tA 3), zzI cy (rK 4) 8 (T_kn tA 4), zzI cy (rK 5) 8 (T_kn tA 5), zzI cy (rK 6) 8 (T_kn tA 6), zzI cy (rK 7) 8 (T_kn tA 7)] sz [.ref qm] (Wi G (fun r u => ∃ (iNe : Int32) (tN : TA), u = [zzO qm 5 (.ref qmh :: .ref qmo :: .ref qmz :: .ref qmR :: .ref qmv :: .ref qmk :: .ref qma :: .ref qmt :: .int (nI kZ) :: .ref qmr :: .int (nI (T_nb tN)) :: .ref qmB :: .int (nI (T_np tN)) :: .ref qmO :: .ref qmK :: .int iNe :: .int iTk :: .int (T_sd tN) :: ov uP :: ov uU :: .int (nI kAt) :: .int iTo :: .int iFr :: .long JFi :: .int iFa :: .ref qm3 :: .int iSt :: .int iLv :: .int iWs :: vLa :: .ref qmu :: .ref qmy :: .ref qmb :: .ref qms :: .int iOm :: []), zzG cy 3 qmB rB, zzI cy (rB 0) 4 (bkR tN 0), zzI cy (rB 1) 4 (bkR tN 1), zzI cy (rB 2) 4 (bkR tN 2), zzI cy (rB 3) 4 (bkR tN 3), zzI cy (rB 4) 4 (bkR tN 4), zzI cy (rB 5) 4 (bkR tN 5), zzI cy (rB 6) 4 (bkR tN 6), zzI cy (rB 7) 4 (bkR tN 7), zzG cy 3 qmO rO, zzI cy (rO 0) 5 (onR tN 0), zzI cy (rO 1) 5 (onR tN 1), zzI cy (rO 2) 5 (onR tN 2), zzI cy (rO 3) 5 (onR tN 3), zzI cy (rO 4) 5 (onR tN 4), zzI cy (rO 5) 5 (onR tN 5), zzI cy (rO 6) 5 (onR tN 6), zzI cy (rO 7) 5 (onR tN 7), zzG cy 3 qmK rK, zzI cy (rK 0) 8 (T_kn tN 0), zzI cy (rK 1) 8 (T_kn tN 1), zzI cy (rK 2) 8 (T_kn tN 2), zzI cy (rK 3) 8 (T_kn tN 3), zzI cy (rK 4) 8 (T_kn tN 4), zzI cy (rK 5) 8 (T_kn tN 5), zzI cy (rK 6) 8 (T_kn tN 6), zzI cy (rK 7) 8 (T_kn tN 7)] ∧ (WI tN ∧ tN = zey tA) ∧ (True))) := by
  refine enW RX6 (by decide +kernel) rfl (Nat.le_of_ble_eq_true rfl) (fun p e s m below meth c ls A hx hb hml hown hts hr hlocks hP hN hl hin hD hA hS => ?_)
  have hin : meth.name = _ := hin
  have hK := hN.1
  replace hl : lv_has ls 1 [(0, .ref qm)] := hl
  refine lv_aload_n hx hb (g_42 bX6_ends rfl) rfl (lv_at hl 0 rfl) ?_
  refine cVi (As := []) (rest := []) (b := qm) (q := (RX6, TX6, 35)) ⟨hx, hb, hml, hown, hts⟩ (x_X6_end l G cy (s.heap).size qm (.ref qmh) (.ref qmo) (.ref qmz) (.ref qmR) (.ref qmv) (.ref qmk) (.ref qma) (.ref qmt) (.int (nI kZ)) (.ref qmr) tA qmB qmO qmK iEn iTk (ov uP) (ov uU) (.int (nI kAt)) (.int iTo) (.int iFr) (.long JFi) (.int iFa) (.ref qm3) (.int iSt) iLv iWs vLa (.ref qmu) (.ref qmy) (.ref qmb) (.ref qms) (.int iOm) rB rO rK hB hPp hTI hWI.2.2) L_X6_288 hN hP hD hS hA (trueIx 0 [true, true, true, true, true, true, true, true, true, true, true, true, true, true, true, true, true, true, true, true, true, true, true, true, true, true, true, true]) [false, false, false, false, false, false, false, false, false, false, false, false, false, false, false, false, false, false, false, false, false, false, false, false, false, false, false, false] (sel_eq rfl rfl) (by decide +kernel) rfl 0 5 rfl rfl rfl ⟨Nat.le_of_ble_eq_true rfl, Nat.le_of_ble_eq_true rfl⟩ hl.1 (Nat.le_of_ble_eq_true rfl) (g_182 (v := 288) bX6_ends rfl) ⟨Nat.le_of_ble_eq_true rfl, Nat.le_of_ble_eq_true rfl⟩ (fun r_1 u_3 H locs h_2 => ?_)
  clear hP hD hS
  intro hP hD hS
  obtain ⟨tX_4, iX_5, hu9, h_6, h_7, h_2⟩ := h_2
  have hPD := pd_eq [zzO qm 5 (.ref qmh :: .ref qmo :: .ref qmz :: .ref qmR :: .ref qmv :: .ref qmk :: .ref qma :: .ref qmt :: .int (nI kZ) :: .ref qmr :: .int (nI (T_nb tX_4)) :: .ref qmB :: .int (nI (T_np tX_4)) :: .ref qmO :: .ref qmK :: .int iX_5 :: .int iTk :: .int (T_sd tX_4) :: ov uP :: ov uU :: .int (nI kAt) :: .int iTo :: .int iFr :: .long JFi :: .int iFa :: .ref qm3 :: .int iSt :: .int iLv :: .int iWs :: vLa :: .ref qmu :: .ref qmy :: .ref qmb :: .ref qms :: .int iOm :: []), _, zzI cy (rB 0) 4 (bkR tX_4 0), zzI cy (rB 1) 4 (bkR tX_4 1), zzI cy (rB 2) 4 (bkR tX_4 2), zzI cy (rB 3) 4 (bkR tX_4 3), zzI cy (rB 4) 4 (bkR tX_4 4), zzI cy (rB 5) 4 (bkR tX_4 5), zzI cy (rB 6) 4 (bkR tX_4 6), zzI cy (rB 7) 4 (bkR tX_4 7), _, zzI cy (rO 0) 5 (onR tX_4 0), zzI cy (rO 1) 5 (onR tX_4 1), zzI cy (rO 2) 5 (onR tX_4 2), zzI cy (rO 3) 5 (onR tX_4 3), zzI cy (rO 4) 5 (onR tX_4 4), zzI cy (rO 5) 5 (onR tX_4 5), zzI cy (rO 6) 5 (onR tX_4 6), zzI cy (rO 7) 5 (onR tX_4 7), _, zzI cy (rK 0) 8 (T_kn tX_4 0), zzI cy (rK 1) 8 (T_kn tX_4 1), zzI cy (rK 2) 8 (T_kn tX_4 2), zzI cy (rK 3) 8 (T_kn tX_4 3), zzI cy (rK 4) 8 (T_kn tX_4 4), zzI cy (rK 5) 8 (T_kn tX_4 5), zzI cy (rK 6) 8 (T_kn tX_4 6), zzI cy (rK 7) 8 (T_kn tX_4 7)] hP hD hu9 rfl
  clear hP hD hu9
  obtain ⟨hP, hD⟩ := hPD
  exact endW (u := [zzO qm 5 (.ref qmh :: .ref qmo :: .ref qmz :: .ref qmR :: .ref qmv :: .ref qmk :: .ref qma :: .ref qmt :: .int (nI kZ) :: .ref qmr :: .int (nI (T_nb tX_4)) :: .ref qmB :: .int (nI (T_np tX_4)) :: .ref qmO :: .ref qmK :: .int iX_5 :: .int iTk :: .int (T_sd tX_4) :: ov uP :: ov uU :: .int (nI kAt) :: .int iTo :: .int iFr :: .long JFi :: .int iFa :: .ref qm3 :: .int iSt :: .int iLv :: .int iWs :: vLa :: .ref qmu :: .ref qmy :: .ref qmb :: .ref qms :: .int iOm :: []), zzG cy 3 qmB rB, zzI cy (rB 0) 4 (bkR tX_4 0), zzI cy (rB 1) 4 (bkR tX_4 1), zzI cy (rB 2) 4 (bkR tX_4 2), zzI cy (rB 3) 4 (bkR tX_4 3), zzI cy (rB 4) 4 (bkR tX_4 4), zzI cy (rB 5) 4 (bkR tX_4 5), zzI cy (rB 6) 4 (bkR tX_4 6), zzI cy (rB 7) 4 (bkR tX_4 7), zzG cy 3 qmO rO, zzI cy (rO 0) 5 (onR tX_4 0), zzI cy (rO 1) 5 (onR tX_4 1), zzI cy (rO 2) 5 (onR tX_4 2), zzI cy (rO 3) 5 (onR tX_4 3), zzI cy (rO 4) 5 (onR tX_4 4), zzI cy (rO 5) 5 (onR tX_4 5), zzI cy (rO 6) 5 (onR tX_4 6), zzI cy (rO 7) 5 (onR tX_4 7), zzG cy 3 qmK rK, zzI cy (rK 0) 8 (T_kn tX_4 0), zzI cy (rK 1) 8 (T_kn tX_4 1), zzI cy (rK 2) 8 (T_kn tX_4 2), zzI cy (rK 3) 8 (T_kn tX_4 3), zzI cy (rK 4) 8 (T_kn tX_4 4), zzI cy (rK 5) 8 (T_kn tX_4 5), zzI cy (rK 6) 8 (T_kn tX_4 6), zzI cy (rK 7) 8 (T_kn tX_4 7)]) hx hb hr hlocks rfl (pSb hP [[true, true, true, true, true, true, true, true, true, true, true, true, true, true, true, true, true, true, true, true, true, true, true, true, true, true, true, true]] rfl rfl) (dSb hD [[true, true, true, true, true, true, true, true, true, true, true, true, true, true, true, true, true, true, true, true, true, true, true, true, true, true, true, true]] (by decide +kernel) rfl rfl) hS ⟨iX_5, tX_4, rfl, ⟨by rw [h_7]; exact WI_ey hWI, h_7⟩, trivial⟩ (g_172 bX6_ends rfl)
set_option maxHeartbeats 4000000 in
set_option maxRecDepth 100000 in
theorem x_X6_years (l : Launch) (G : va_G) (cy : Nat → ClassId) (sz : Nat) (qm : Nat) (qmh : Nat) (qmo : Nat) (qmz : Nat) (qmR : Nat) (qmv : Nat) (qmk : Nat) (qma : Nat) (qmt : Nat) (kZ : Nat) (qmr : Nat) (tA : TA) (qmB : Nat) (qmO : Nat) (qmK : Nat) (iEn : Int32) (iTk : Int32) (uP : UM) (uU : UM) (kAt : Nat) (iTo : Int32) (iFr : Int32) (JFi : Int64) (iFa : Int32) (qm3 : Nat) (iSt : Int32) (iLv : Int32) (iWs : Int32) (vLa : Value) (qmu : Nat) (qmy : Nat) (qmb : Nat) (qms : Nat) (iOm : Int32) (fMh : Nat → Int32) (fMk : Nat → Int32) (fMa : Nat → Int32) (fMr : Nat → Int32) (rB : Nat → Nat) (rO : Nat → Nat) (rK : Nat → Nat) (iA : Int32) (iB : Int32)  (hMk : ∀ s, s < 8 → ¬ fMh s = 1 → ¬ fMh s = 0 → Iv (fMk s).toInt64 1 6) (hB : T_nb tA ≤ 8) (hPp : T_np tA ≤ 8) (hTI : TI tA) (hMa : ∀ s, s < 8 → ∃ n : Nat, n ≤ 99 ∧ fMa s = nI n) (hWI : WI tA) : MW l yX6_years cX6_years 7 (some .int) 16 0 0 G cy [zzO qm 5 (.ref qmh :: .ref qmo :: .ref qmz :: .ref qmR :: .ref qmv :: .ref qmk :: .ref qma :: .ref qmt :: .int (nI kZ) :: .ref qmr :: .int (nI (T_nb tA)) :: .ref qmB :: .int (nI (T_np tA)) :: .ref qmO :: .ref qmK :: .int iEn :: .int iTk :: .int (T_sd tA) :: ov uP :: ov uU :: .int (nI kAt) :: .int iTo :: .int iFr :: .long JFi :: .int iFa :: .ref qm3 :: .int iSt :: .int iLv :: .int iWs :: vLa :: .ref qmu :: .ref qmy :: .ref qmb :: .ref qms :: .int iOm :: []), zzI cy qmh 8 fMh, zzI cy qmk 8 fMk, zzI cy qma 8 fMa, zzI cy qmr 8 fMr, zzG cy 3 qmB rB, zzI cy (rB 0) 4 (bkR tA 0), zzI cy (rB 1) 4 (bkR tA 1), zzI cy (rB 2) 4 (bkR tA 2), zzI cy (rB 3) 4 (bkR tA 3), zzI cy (rB 4) 4 (bkR tA 4), zzI cy (rB 5) 4 (bkR tA 5), zzI cy (rB 6) 4 (bkR tA 6), zzI cy (rB 7) 4 (bkR tA 7), zzG cy 3 qmO rO, zzI cy (rO 0) 5 (onR tA 0), zzI cy (rO 1) 5 (onR tA 1), zzI cy (rO 2) 5 (onR tA 2), zzI cy (rO 3) 5 (onR tA 3), zzI cy (rO 4) 5 (onR tA 4), zzI cy (rO 5) 5 (onR tA 5), zzI cy (rO 6) 5 (onR tA 6), zzI cy (rO 7) 5 (onR tA 7), zzG cy 3 qmK rK, zzI cy (rK 0) 8 (T_kn tA 0), zzI cy (rK 1) 8 (T_kn tA 1), zzI cy (rK 2) 8 (T_kn tA 2), zzI cy (rK 3) 8 (T_kn tA 3), zzI cy (rK 4) 8 (T_kn tA 4), zzI cy (rK 5) 8 (T_kn tA 5), zzI cy (rK 6) 8 (T_kn tA 6), zzI cy (rK 7) 8 (T_kn tA 7)] sz [.ref qm, .int iA, .int iB] (Wi G (fun r u => ∃ (iNe : Int32) (iNt : Int32) (fNr : Nat → Int32) (tN : TA), u = [zzO qm 5 (.ref qmh :: .ref qmo :: .ref qmz :: .ref qmR :: .ref qmv :: .ref qmk :: .ref qma :: .ref qmt :: .int (nI kZ) :: .ref qmr :: .int (nI (T_nb tN)) :: .ref qmB :: .int (nI (T_np tN)) :: .ref qmO :: .ref qmK :: .int iNe :: .int iNt :: .int (T_sd tN) :: ov uP :: ov uU :: .int (nI kAt) :: .int iTo :: .int iFr :: .long JFi :: .int iFa :: .ref qm3 :: .int iSt :: .int iLv :: .int iWs :: vLa :: .ref qmu :: .ref qmy :: .ref qmb :: .ref qms :: .int iOm :: []), zzI cy qmh 8 fMh, zzI cy qmk 8 fMk, zzI cy qma 8 fMa, zzI cy qmr 8 fNr, zzG cy 3 qmB rB, zzI cy (rB 0) 4 (bkR tN 0), zzI cy (rB 1) 4 (bkR tN 1), zzI cy (rB 2) 4 (bkR tN 2), zzI cy (rB 3) 4 (bkR tN 3), zzI cy (rB 4) 4 (bkR tN 4), zzI cy (rB 5) 4 (bkR tN 5), zzI cy (rB 6) 4 (bkR tN 6), zzI cy (rB 7) 4 (bkR tN 7), zzG cy 3 qmO rO, zzI cy (rO 0) 5 (onR tN 0), zzI cy (rO 1) 5 (onR tN 1), zzI cy (rO 2) 5 (onR tN 2), zzI cy (rO 3) 5 (onR tN 3), zzI cy (rO 4) 5 (onR tN 4), zzI cy (rO 5) 5 (onR tN 5), zzI cy (rO 6) 5 (onR tN 6), zzI cy (rO 7) 5 (onR tN 7), zzG cy 3 qmK rK, zzI cy (rK 0) 8 (T_kn tN 0), zzI cy (rK 1) 8 (T_kn tN 1), zzI cy (rK 2) 8 (T_kn tN 2), zzI cy (rK 3) 8 (T_kn tN 3), zzI cy (rK 4) 8 (T_kn tN 4), zzI cy (rK 5) 8 (T_kn tN 5), zzI cy (rK 6) 8 (T_kn tN 6), zzI cy (rK 7) 8 (T_kn tN 7)] ∧ (WI tN ∧ PMyears fMh fMk fMa tA iA iB r tN) ∧ (True))) := by
  refine enW RX6 (by decide +kernel) rfl (Nat.le_of_ble_eq_true rfl) (fun p e s m below meth c ls A hx hb hml hown hts hr hlocks hP hN hl hin hD hA hS => ?_)
  have hin : meth.name = _ := hin
  have hK := hN.1
  replace hl : lv_has ls 7 [(0, .ref qm), (1, .int iA), (2, .int iB)] := hl
  refine lv_iload_n hx hb (g_27 bX6_years rfl) rfl (lv_at hl 1 rfl) ?_
  refine lv_i2l (v := iA.toInt64) hx hb (g_133 bX6_years rfl) rfl ?_
  refine lv_lconst (v := 0) hx hb (g_9 bX6_years rfl) (by decide +kernel) ?_
  refine lv_ldc2 hx hb hown (hts _ m_t960) (g_20 (v := 85) bX6_years rfl) ?_
  refine kRi (rS (As := [.long iA.toInt64, .long 0, .long 7]) (rest := []) ⟨hx, hb, hml, hown, hts⟩ (c_X6_in l G cy iA.toInt64 0 7) L_X6_74 (preRS hN hP [] rfl) rfl ⟨Nat.le_of_ble_eq_true rfl, Nat.le_of_ble_eq_true rfl⟩ hl.1 (Nat.le_of_ble_eq_true rfl) (g_184 (v := 74) bX6_years rfl) ⟨Nat.le_of_ble_eq_true rfl, Nat.le_of_ble_eq_true rfl⟩) (fun r_1 h_2 => ?_)
  rcases h_2 with ⟨rfl, h_3⟩ | ⟨rfl, h_3⟩
  · obtain ⟨k_4, hk_5, hk_6, rfl⟩ := iv_nI 0 7 (by decide +kernel) (by decide +kernel) h_3
    refine lv_if_eq (tgt := 24) hx hb dX6_years_9 (by decide +kernel) (fun h9 => absurd h9 (by decide +kernel)) (fun _ => ?_)
    refine lv_iload_n hx hb (g_28 bX6_years rfl) rfl (lv_at hl 2 rfl) ?_
    refine lv_i2l (v := iB.toInt64) hx hb (g_133 bX6_years rfl) rfl ?_
    refine lv_lconst (v := 1) hx hb (g_10 bX6_years rfl) (by decide +kernel) ?_
    refine lv_ldc2 hx hb hown (hts _ m_t1355) (g_20 (v := 341) bX6_years rfl) ?_
    refine kRi (rS (As := [.long iB.toInt64, .long 1, .long 20]) (rest := []) ⟨hx, hb, hml, hown, hts⟩ (c_X6_in l G cy iB.toInt64 1 20) L_X6_74 (preRS hN hP [] rfl) rfl ⟨Nat.le_of_ble_eq_true rfl, Nat.le_of_ble_eq_true rfl⟩ hl.1 (Nat.le_of_ble_eq_true rfl) (g_184 (v := 74) bX6_years rfl) ⟨Nat.le_of_ble_eq_true rfl, Nat.le_of_ble_eq_true rfl⟩) (fun r_8 h_9 => ?_)
    rcases h_9 with ⟨rfl, h_10⟩ | ⟨rfl, h_10⟩
    · obtain ⟨k_11, hk_12, hk_13, rfl⟩ := iv_nI 1 20 (by decide +kernel) (by decide +kernel) h_10
      refine lv_if_ne (tgt := 31) hx hb dX6_years_21 (by decide +kernel) (fun _ => ?_) (fun h9 => absurd h9 (by decide +kernel))
      refine lv_aload_n hx hb (g_42 bX6_years rfl) rfl (lv_at hl 0 rfl) ?_
      refine lv_iload_n hx hb (g_27 bX6_years rfl) rfl (lv_at hl 1 rfl) ?_
      refine cVi (As := [.int (nI k_4)]) (rest := []) (b := qm) (q := (RX6, TX6, 35)) ⟨hx, hb, hml, hown, hts⟩ (c_X6_noRule l G cy (s.heap).size qm qmh (.ref qmo) (.ref qmz) (.ref qmR) (.ref qmv) (.ref qmk) (.ref qma) (.ref qmt) (.int (nI kZ)) qmr tA qmB qmO qmK iEn iTk (ov uP) (ov uU) (.int (nI kAt)) (.int iTo) (.int iFr) (.long JFi) (.int iFa) (.ref qm3) (.int iSt) iLv iWs vLa (.ref qmu) (.ref qmy) (.ref qmb) (.ref qms) (.int iOm) fMh fMr (nI k_4)) L_X6_302 hN hP hD hS hA (trueIx 0 [true, true, false, false, true]) [false, false, true, true, false, true, true, true, true, true, true, true, true, true, true, true, true, true, true, true, true, true, true, true, true, true, true, true, true, true, true, true] (sel_eq rfl rfl) (by decide +kernel) rfl 0 5 rfl rfl rfl ⟨Nat.le_of_ble_eq_true rfl, Nat.le_of_ble_eq_true rfl⟩ hl.1 (Nat.le_of_ble_eq_true rfl) (g_182 (v := 302) bX6_years rfl) ⟨Nat.le_of_ble_eq_true rfl, Nat.le_of_ble_eq_true rfl⟩ (fun r_15 u_17 H locs h_16 => ?_)
      clear hP hD hS
      intro hP hD hS
      obtain ⟨fX_18, hu9, h_16⟩ := h_16
      have hPD := pd_eq [_, _, _, _, _, _, _, _, _, _, _, _, _, _, _, _, _, _, _, _, _, _, _, _, _, _, _, _, _, _, _, zzI cy qmr 8 fX_18] hP hD hu9 rfl
      clear hP hD hu9
      obtain ⟨hP, hD⟩ := hPD
      rcases h_16 with ⟨rfl, h_19⟩ | ⟨rfl, h_19⟩ | ⟨rfl, h_19⟩ | ⟨rfl, h_19⟩
      · refine lv_istore_n (lv' := [(3, .int (-2)), (0, .ref qm), (1, .int (nI k_4)), (2, .int (nI k_11))]) hx hb (g_62 bX6_years rfl) rfl hl (by decide +kernel) rfl (fun ls => ?_)
        clear hl
        intro hl
        refine lv_iload_n hx hb (g_29 bX6_years rfl) rfl (lv_at hl 0 rfl) ?_
        refine lv_if_eq (tgt := 43) hx hb dX6_years_38 (by decide +kernel) (fun h9 => absurd h9 (by decide +kernel)) (fun _ => ?_)
        refine lv_iload_n hx hb (g_29 bX6_years rfl) rfl (lv_at hl 0 rfl) ?_
        exact endWs [[false, false, false, false, false, false, false, false, false, false, false, false, false, false, false, false, false, false, false, false, false, false, false, false, false, false, false, false, false, true, true], [true, true, false, false, false, false, false, false, false, false, false, false, false, false, false, false, false, false, false, false, false, false, false, false, false, false, false, false, false, false, false, true], [false, false, true, true, true, true, true, true, true, true, true, true, true, true, true, true, true, true, true, true, true, true, true, true, true, true, true, true, true]] hx hb hr hlocks rfl hP hD rfl (by decide +kernel) hS ⟨iEn, iTk, fX_18, tA, rfl, (h_19 ⟨k_4, by omega, rfl⟩).elim, trivial⟩ (g_172 bX6_years rfl)
      · refine lv_istore_n (lv' := [(3, .int (-3)), (0, .ref qm), (1, .int (nI k_4)), (2, .int (nI k_11))]) hx hb (g_62 bX6_years rfl) rfl hl (by decide +kernel) rfl (fun ls => ?_)
        clear hl
        intro hl
        refine lv_iload_n hx hb (g_29 bX6_years rfl) rfl (lv_at hl 0 rfl) ?_
        refine lv_if_eq (tgt := 43) hx hb dX6_years_38 (by decide +kernel) (fun h9 => absurd h9 (by decide +kernel)) (fun _ => ?_)
        refine lv_iload_n hx hb (g_29 bX6_years rfl) rfl (lv_at hl 0 rfl) ?_
        exact endWs [[false, false, false, false, false, false, false, false, false, false, false, false, false, false, false, false, false, false, false, false, false, false, false, false, false, false, false, false, false, true, true], [true, true, false, false, false, false, false, false, false, false, false, false, false, false, false, false, false, false, false, false, false, false, false, false, false, false, false, false, false, false, false, true], [false, false, true, true, true, true, true, true, true, true, true, true, true, true, true, true, true, true, true, true, true, true, true, true, true, true, true, true, true]] hx hb hr hlocks rfl hP hD rfl (by decide +kernel) hS ⟨iEn, iTk, fX_18, tA, rfl, ⟨hWI, Or.inr (Or.inl ⟨rfl, h_10, h_19, rfl⟩)⟩, trivial⟩ (g_172 bX6_years rfl)
      · refine lv_istore_n (lv' := [(3, .int (-4)), (0, .ref qm), (1, .int (nI k_4)), (2, .int (nI k_11))]) hx hb (g_62 bX6_years rfl) rfl hl (by decide +kernel) rfl (fun ls => ?_)
        clear hl
        intro hl
        refine lv_iload_n hx hb (g_29 bX6_years rfl) rfl (lv_at hl 0 rfl) ?_
        refine lv_if_eq (tgt := 43) hx hb dX6_years_38 (by decide +kernel) (fun h9 => absurd h9 (by decide +kernel)) (fun _ => ?_)
        refine lv_iload_n hx hb (g_29 bX6_years rfl) rfl (lv_at hl 0 rfl) ?_
        exact endWs [[false, false, false, false, false, false, false, false, false, false, false, false, false, false, false, false, false, false, false, false, false, false, false, false, false, false, false, false, false, true, true], [true, true, false, false, false, false, false, false, false, false, false, false, false, false, false, false, false, false, false, false, false, false, false, false, false, false, false, false, false, false, false, true], [false, false, true, true, true, true, true, true, true, true, true, true, true, true, true, true, true, true, true, true, true, true, true, true, true, true, true, true, true]] hx hb hr hlocks rfl hP hD rfl (by decide +kernel) hS ⟨iEn, iTk, fX_18, tA, rfl, ⟨hWI, Or.inr (Or.inr (Or.inl ⟨rfl, h_10, h_19, rfl⟩))⟩, trivial⟩ (g_172 bX6_years rfl)
      · refine lv_istore_n (lv' := [(3, .int 0), (0, .ref qm), (1, .int (nI k_4)), (2, .int (nI k_11))]) hx hb (g_62 bX6_years rfl) rfl hl (by decide +kernel) rfl (fun ls => ?_)
        clear hl
        intro hl
        refine lv_iload_n hx hb (g_29 bX6_years rfl) rfl (lv_at hl 0 rfl) ?_
        refine lv_if_eq (tgt := 43) hx hb dX6_years_38 (by decide +kernel) (fun _ => ?_) (fun h9 => absurd (by decide +kernel) h9)
        refine lv_iconst (v := 0) hx hb (g_3 bX6_years rfl) (by decide +kernel) ?_
        refine lv_istore (lv' := [(4, .int 0), (3, .int 0), (0, .ref qm), (1, .int (nI k_4)), (2, .int (nI k_11))]) hx hb (g_54 (v := 4) bX6_years rfl) hl (by decide +kernel) rfl (fun ls => ?_)
        clear hl
        intro hl
        refine lv_iconst (v := 0) hx hb (g_3 bX6_years rfl) (by decide +kernel) ?_
        refine lv_istore (lv' := [(5, .int 0), (4, .int 0), (3, .int 0), (0, .ref qm), (1, .int (nI k_4)), (2, .int (nI k_11))]) hx hb (g_54 (v := 5) bX6_years rfl) hl (by decide +kernel) rfl (fun ls => ?_)
        clear hl
        intro hl
        have lp_24 : ∀ (n_25 : Nat) (j_27 : Nat) (tJ_28 : TA) (xS_29 : Int32) (xE_30 : Int32), 20 - j_27 < n_25 → j_27 ≤ k_11 → TI tJ_28 ∧ T_nb tJ_28 = T_nb tA ∧ T_np tJ_28 = T_np tA → WI tJ_28 → yrG (fMk k_4) (fMa k_4) (k_11 - j_27) tJ_28 xS_29 = yrG (fMk k_4) (fMa k_4) k_11 tA 0 → ∀ (H : Heap) (locs : List Loc) (ls : Array Slot), va_P G CL [zzI cy qmk 8 fMk, zzI cy qma 8 fMa, zzG cy 3 qmB rB, zzI cy (rB 0) 4 (bkR tJ_28 0), zzI cy (rB 1) 4 (bkR tJ_28 1), zzI cy (rB 2) 4 (bkR tJ_28 2), zzI cy (rB 3) 4 (bkR tJ_28 3), zzI cy (rB 4) 4 (bkR tJ_28 4), zzI cy (rB 5) 4 (bkR tJ_28 5), zzI cy (rB 6) 4 (bkR tJ_28 6), zzI cy (rB 7) 4 (bkR tJ_28 7), zzG cy 3 qmO rO, zzI cy (rO 0) 5 (onR tJ_28 0), zzI cy (rO 1) 5 (onR tJ_28 1), zzI cy (rO 2) 5 (onR tJ_28 2), zzI cy (rO 3) 5 (onR tJ_28 3), zzI cy (rO 4) 5 (onR tJ_28 4), zzI cy (rO 5) 5 (onR tJ_28 5), zzI cy (rO 6) 5 (onR tJ_28 6), zzI cy (rO 7) 5 (onR tJ_28 7), zzG cy 3 qmK rK, zzI cy (rK 0) 8 (T_kn tJ_28 0), zzI cy (rK 1) 8 (T_kn tJ_28 1), zzI cy (rK 2) 8 (T_kn tJ_28 2), zzI cy (rK 3) 8 (T_kn tJ_28 3), zzI cy (rK 4) 8 (T_kn tJ_28 4), zzI cy (rK 5) 8 (T_kn tJ_28 5), zzI cy (rK 6) 8 (T_kn tJ_28 6), zzI cy (rK 7) 8 (T_kn tJ_28 7), zzO qm 5 (.ref qmh :: .ref qmo :: .ref qmz :: .ref qmR :: .ref qmv :: .ref qmk :: .ref qma :: .ref qmt :: .int (nI kZ) :: .ref qmr :: .int (nI (T_nb tJ_28)) :: .ref qmB :: .int (nI (T_np tJ_28)) :: .ref qmO :: .ref qmK :: .int xE_30 :: .int iTk :: .int (T_sd tJ_28) :: ov uP :: ov uU :: .int (nI kAt) :: .int iTo :: .int iFr :: .long JFi :: .int iFa :: .ref qm3 :: .int iSt :: .int iLv :: .int iWs :: vLa :: .ref qmu :: .ref qmy :: .ref qmb :: .ref qms :: .int iOm :: []), zzI cy qmh 8 fMh, zzI cy qmr 8 fX_18] H → va_D A [zzI cy qmk 8 fMk, zzI cy qma 8 fMa, zzG cy 3 qmB rB, zzI cy (rB 0) 4 (bkR tJ_28 0), zzI cy (rB 1) 4 (bkR tJ_28 1), zzI cy (rB 2) 4 (bkR tJ_28 2), zzI cy (rB 3) 4 (bkR tJ_28 3), zzI cy (rB 4) 4 (bkR tJ_28 4), zzI cy (rB 5) 4 (bkR tJ_28 5), zzI cy (rB 6) 4 (bkR tJ_28 6), zzI cy (rB 7) 4 (bkR tJ_28 7), zzG cy 3 qmO rO, zzI cy (rO 0) 5 (onR tJ_28 0), zzI cy (rO 1) 5 (onR tJ_28 1), zzI cy (rO 2) 5 (onR tJ_28 2), zzI cy (rO 3) 5 (onR tJ_28 3), zzI cy (rO 4) 5 (onR tJ_28 4), zzI cy (rO 5) 5 (onR tJ_28 5), zzI cy (rO 6) 5 (onR tJ_28 6), zzI cy (rO 7) 5 (onR tJ_28 7), zzG cy 3 qmK rK, zzI cy (rK 0) 8 (T_kn tJ_28 0), zzI cy (rK 1) 8 (T_kn tJ_28 1), zzI cy (rK 2) 8 (T_kn tJ_28 2), zzI cy (rK 3) 8 (T_kn tJ_28 3), zzI cy (rK 4) 8 (T_kn tJ_28 4), zzI cy (rK 5) 8 (T_kn tJ_28 5), zzI cy (rK 6) 8 (T_kn tJ_28 6), zzI cy (rK 7) 8 (T_kn tJ_28 7), zzO qm 5 (.ref qmh :: .ref qmo :: .ref qmz :: .ref qmR :: .ref qmv :: .ref qmk :: .ref qma :: .ref qmt :: .int (nI kZ) :: .ref qmr :: .int (nI (T_nb tJ_28)) :: .ref qmB :: .int (nI (T_np tJ_28)) :: .ref qmO :: .ref qmK :: .int xE_30 :: .int iTk :: .int (T_sd tJ_28) :: ov uP :: ov uU :: .int (nI kAt) :: .int iTo :: .int iFr :: .long JFi :: .int iFa :: .ref qm3 :: .int iSt :: .int iLv :: .int iWs :: vLa :: .ref qmu :: .ref qmy :: .ref qmb :: .ref qms :: .int iOm :: []), zzI cy qmh 8 fMh, zzI cy qmr 8 fX_18] → va_S A s.heap H locs → lv_has ls 7 [(5, .int (nI j_27)), (4, .int xS_29), (3, .int 0), (0, .ref qm), (1, .int (nI k_4)), (2, .int (nI k_11))] → W p l e (Rm 16 0 0) s m (List.toArray (α := Value) [.ref qm, .int (nI k_4), .int (nI k_11)]) below meth c H locs 0 0 (MQ below ((Wi G (fun r u => ∃ (iNe : Int32) (iNt : Int32) (fNr : Nat → Int32) (tN : TA), u = [zzO qm 5 (.ref qmh :: .ref qmo :: .ref qmz :: .ref qmR :: .ref qmv :: .ref qmk :: .ref qma :: .ref qmt :: .int (nI kZ) :: .ref qmr :: .int (nI (T_nb tN)) :: .ref qmB :: .int (nI (T_np tN)) :: .ref qmO :: .ref qmK :: .int iNe :: .int iNt :: .int (T_sd tN) :: ov uP :: ov uU :: .int (nI kAt) :: .int iTo :: .int iFr :: .long JFi :: .int iFa :: .ref qm3 :: .int iSt :: .int iLv :: .int iWs :: vLa :: .ref qmu :: .ref qmy :: .ref qmb :: .ref qms :: .int iOm :: []), zzI cy qmh 8 fMh, zzI cy qmk 8 fMk, zzI cy qma 8 fMa, zzI cy qmr 8 fNr, zzG cy 3 qmB rB, zzI cy (rB 0) 4 (bkR tN 0), zzI cy (rB 1) 4 (bkR tN 1), zzI cy (rB 2) 4 (bkR tN 2), zzI cy (rB 3) 4 (bkR tN 3), zzI cy (rB 4) 4 (bkR tN 4), zzI cy (rB 5) 4 (bkR tN 5), zzI cy (rB 6) 4 (bkR tN 6), zzI cy (rB 7) 4 (bkR tN 7), zzG cy 3 qmO rO, zzI cy (rO 0) 5 (onR tN 0), zzI cy (rO 1) 5 (onR tN 1), zzI cy (rO 2) 5 (onR tN 2), zzI cy (rO 3) 5 (onR tN 3), zzI cy (rO 4) 5 (onR tN 4), zzI cy (rO 5) 5 (onR tN 5), zzI cy (rO 6) 5 (onR tN 6), zzI cy (rO 7) 5 (onR tN 7), zzG cy 3 qmK rK, zzI cy (rK 0) 8 (T_kn tN 0), zzI cy (rK 1) 8 (T_kn tN 1), zzI cy (rK 2) 8 (T_kn tN 2), zzI cy (rK 3) 8 (T_kn tN 3), zzI cy (rK 4) 8 (T_kn tN 4), zzI cy (rK 5) 8 (T_kn tN 5), zzI cy (rK 6) 8 (T_kn tN 6), zzI cy (rK 7) 8 (T_kn tN 7)] ∧ (WI tN ∧ PMyears fMh fMk fMa tA (nI k_4) (nI k_11) r tN) ∧ (True))) A) (List.toArray (α := Value) [.ref qm, .int (nI k_4), .int (nI k_11)]) s 0 0 A) (F0 m 49 ls []) := by
          intro n_25
          induction n_25 with
          | zero => intro j_27 tJ_28 xS_29 xE_30 hm9; exact absurd hm9 (Nat.not_lt_zero _)
          | succ n_25 ih_26 =>
            intro j_27 tJ_28 xS_29 xE_30 hm_35 hj_31 hT_32 hW_33 hY_34 H locs ls hP hD hS hl
            refine lv_iload hx hb (g_21 (v := 5) bX6_years rfl) (lv_at hl 0 rfl) ?_
            refine lv_iload_n hx hb (g_28 bX6_years rfl) rfl (lv_at hl 5 rfl) ?_
            refine lv_icmp_ge (tgt := 147) hx hb dX6_years_52 (by decide +kernel) (fun c_36 => ?_) (fun c_36 => ?_)
            · have hz_38 : j_27 = k_11 := Nat.le_antisymm (by omega) (lp_ge rfl rfl (by omega) (by omega) c_36)
              have hz_38r : yrG (fMk k_4) (fMa k_4) k_11 tA 0 = (tJ_28, xS_29) := by rw [← hY_34, hz_38, Nat.sub_self]; rfl
              refine lv_aload_n hx hb (g_42 bX6_years rfl) rfl (lv_at hl 3 rfl) ?_
              refine lv_dup hx hb (g_89 bX6_years rfl) rfl ?_
              refine va_get (D := G) (ci := 5) (v := .int iTk) (C := RX6) (T := TX6) (N := 35) hx hb hts iX_X6 hown hK hP 29 rfl rfl 16 (by decide +kernel) (hts _ m_t866) (fun _ h9 => h9) rfl (g_180 (v := 355) bX6_years rfl) ?_
              refine lv_iload hx hb (g_21 (v := 4) bX6_years rfl) (lv_at hl 1 rfl) ?_
              refine lv_iadd hx hb (g_96 bX6_years rfl) ?_
              refine va_put (D := G) (ci := 5) (v := .int (iTk + xS_29)) (ty := .int) (C := RX6) (T := TX6) (N := 35) hx hb hts iX_X6 tyX6 tyX6_ok nmX6 hown hK hP hD hS 29 rfl rfl 16 (by decide +kernel) (hts _ m_t866) (fun _ h9 => h9) rfl (by decide +kernel) rfl rfl (Nat.le_of_ble_eq_true rfl) (g_181 (v := 355) bX6_years rfl) (fun H locs => ?_)
              clear hP hD hS
              intro hP hD hS
              have hPD := pd_as [_, _, _, zzI cy (rB 0) 4 (bkR tJ_28 0), zzI cy (rB 1) 4 (bkR tJ_28 1), zzI cy (rB 2) 4 (bkR tJ_28 2), zzI cy (rB 3) 4 (bkR tJ_28 3), zzI cy (rB 4) 4 (bkR tJ_28 4), zzI cy (rB 5) 4 (bkR tJ_28 5), zzI cy (rB 6) 4 (bkR tJ_28 6), zzI cy (rB 7) 4 (bkR tJ_28 7), _, zzI cy (rO 0) 5 (onR tJ_28 0), zzI cy (rO 1) 5 (onR tJ_28 1), zzI cy (rO 2) 5 (onR tJ_28 2), zzI cy (rO 3) 5 (onR tJ_28 3), zzI cy (rO 4) 5 (onR tJ_28 4), zzI cy (rO 5) 5 (onR tJ_28 5), zzI cy (rO 6) 5 (onR tJ_28 6), zzI cy (rO 7) 5 (onR tJ_28 7), _, zzI cy (rK 0) 8 (T_kn tJ_28 0), zzI cy (rK 1) 8 (T_kn tJ_28 1), zzI cy (rK 2) 8 (T_kn tJ_28 2), zzI cy (rK 3) 8 (T_kn tJ_28 3), zzI cy (rK 4) 8 (T_kn tJ_28 4), zzI cy (rK 5) 8 (T_kn tJ_28 5), zzI cy (rK 6) 8 (T_kn tJ_28 6), zzI cy (rK 7) 8 (T_kn tJ_28 7), zzO qm 5 (.ref qmh :: .ref qmo :: .ref qmz :: .ref qmR :: .ref qmv :: .ref qmk :: .ref qma :: .ref qmt :: .int (nI kZ) :: .ref qmr :: .int (nI (T_nb tJ_28)) :: .ref qmB :: .int (nI (T_np tJ_28)) :: .ref qmO :: .ref qmK :: .int xE_30 :: .int (iTk + xS_29) :: .int (T_sd tJ_28) :: ov uP :: ov uU :: .int (nI kAt) :: .int iTo :: .int iFr :: .long JFi :: .int iFa :: .ref qm3 :: .int iSt :: .int iLv :: .int iWs :: vLa :: .ref qmu :: .ref qmy :: .ref qmb :: .ref qms :: .int iOm :: []), _, _] hP hD rfl
              clear hP hD
              obtain ⟨hP, hD⟩ := hPD
              refine lv_iload hx hb (g_21 (v := 4) bX6_years rfl) (lv_at hl 1 rfl) ?_
              exact endWs [[false, false, false, false, false, false, false, false, false, false, false, false, false, false, false, false, false, false, false, false, false, false, false, false, false, false, false, false, false, true, true], [true, true, false, false, false, false, false, false, false, false, false, false, false, false, false, false, false, false, false, false, false, false, false, false, false, false, false, false, false, false, false, true], [false, false, true, true, true, true, true, true, true, true, true, true, true, true, true, true, true, true, true, true, true, true, true, true, true, true, true, true, true]] hx hb hr hlocks rfl hP hD rfl (by decide +kernel) hS ⟨xE_30, (iTk + xS_29), fX_18, tJ_28, rfl, ⟨hW_33, Or.inr (Or.inr (Or.inr ⟨k_4, k_11, by omega, rfl, (ex_k (by omega) h_19).1, (ex_k (by omega) h_19).2, by omega, by omega, rfl, hz_38r.symm⟩))⟩, trivial⟩ (g_172 bX6_years rfl)
            · have hlt_39 : j_27 < k_11 := lp_lt rfl rfl (by omega) (by omega) c_36
              obtain ⟨hlt_39i, hlt_39b, hlt_39p⟩ := id hT_32
              refine lv_aload_n hx hb (g_42 bX6_years rfl) rfl (lv_at hl 3 rfl) ?_
              refine lv_aload_n hx hb (g_42 bX6_years rfl) rfl (lv_at hl 3 rfl) ?_
              refine va_get (D := G) (ci := 5) (v := .ref qmk) (C := RX6) (T := TX6) (N := 35) hx hb hts iX_X6 hown hK hP 29 rfl rfl 5 (by decide +kernel) (hts _ m_t855) (fun _ h9 => h9) rfl (g_180 (v := 28) bX6_years rfl) ?_
              refine lv_iload_n hx hb (g_27 bX6_years rfl) rfl (lv_at hl 4 rfl) ?_
              refine va_iald hx hb hK hP 0 0 rfl rfl (in_shelf h_3) (g_46 bX6_years rfl) ?_
              refine lv_seti (v := fMk k_4) (congrArg fMk (cl8 (by omega))) ?_
              refine lv_aload_n hx hb (g_42 bX6_years rfl) rfl (lv_at hl 3 rfl) ?_
              refine va_get (D := G) (ci := 5) (v := .ref qma) (C := RX6) (T := TX6) (N := 35) hx hb hts iX_X6 hown hK hP 29 rfl rfl 6 (by decide +kernel) (hts _ m_t856) (fun _ h9 => h9) rfl (g_180 (v := 31) bX6_years rfl) ?_
              refine lv_iload_n hx hb (g_27 bX6_years rfl) rfl (lv_at hl 4 rfl) ?_
              refine va_iald hx hb hK hP 1 0 rfl rfl (in_shelf h_3) (g_46 bX6_years rfl) ?_
              refine lv_seti (v := fMa k_4) (congrArg fMa (cl8 (by omega))) ?_
              obtain ⟨n_40, hn_41, en_42⟩ := hMa k_4 (by omega)
              refine lv_seti (v := nI n_40) en_42 ?_
              refine cVi (As := [.int (fMk k_4), .int (nI n_40)]) (rest := []) (b := qm) (q := (RX6, TX6, 35)) ⟨hx, hb, hml, hown, hts⟩ (x_X6_does l G cy (H).size qm (.ref qmh) (.ref qmo) (.ref qmz) (.ref qmR) (.ref qmv) (.ref qmk) (.ref qma) (.ref qmt) (.int (nI kZ)) (.ref qmr) tJ_28 qmB qmO qmK xE_30 iTk (ov uP) (ov uU) (.int (nI kAt)) (.int iTo) (.int iFr) (.long JFi) (.int iFa) (.ref qm3) (.int iSt) iLv iWs vLa (.ref qmu) (.ref qmy) (.ref qmb) (.ref qms) (.int iOm) rB rO rK (fMk k_4) n_40 (by omega) (by omega) hW_33 (by omega) (hMk k_4 (by omega) (ex_k (by omega) h_19).1 (ex_k (by omega) h_19).2)) L_X6_114 hN hP hD hS hA (trueIxs [[false, false, false, false, false, false, false, false, false, false, false, false, false, false, false, false, false, false, false, false, false, false, false, false, false, false, false, false, false, true], [false, false, true, true, true, true, true, true, true, true, true, true, true, true, true, true, true, true, true, true, true, true, true, true, true, true, true, true, true]]) [true, true, false, false, false, false, false, false, false, false, false, false, false, false, false, false, false, false, false, false, false, false, false, false, false, false, false, false, false, false, true, true] (sels_eq rfl rfl) (by decide +kernel) rfl 29 5 rfl rfl rfl ⟨Nat.le_of_ble_eq_true rfl, Nat.le_of_ble_eq_true rfl⟩ hl.1 (Nat.le_of_ble_eq_true rfl) (g_182 (v := 114) bX6_years rfl) ⟨Nat.le_of_ble_eq_true rfl, Nat.le_of_ble_eq_true rfl⟩ (fun r_43 u_45 H locs h_44 => ?_)
              clear hP hD hS
              intro hP hD hS
              obtain ⟨tX_46, hu9, h_47, h_48, h_44⟩ := h_44
              have hPD := pd_eq [_, _, _, _, zzO qm 5 (.ref qmh :: .ref qmo :: .ref qmz :: .ref qmR :: .ref qmv :: .ref qmk :: .ref qma :: .ref qmt :: .int (nI kZ) :: .ref qmr :: .int (nI (T_nb tX_46)) :: .ref qmB :: .int (nI (T_np tX_46)) :: .ref qmO :: .ref qmK :: .int xE_30 :: .int iTk :: .int (T_sd tX_46) :: ov uP :: ov uU :: .int (nI kAt) :: .int iTo :: .int iFr :: .long JFi :: .int iFa :: .ref qm3 :: .int iSt :: .int iLv :: .int iWs :: vLa :: .ref qmu :: .ref qmy :: .ref qmb :: .ref qms :: .int iOm :: []), _, zzI cy (rB 0) 4 (bkR tX_46 0), zzI cy (rB 1) 4 (bkR tX_46 1), zzI cy (rB 2) 4 (bkR tX_46 2), zzI cy (rB 3) 4 (bkR tX_46 3), zzI cy (rB 4) 4 (bkR tX_46 4), zzI cy (rB 5) 4 (bkR tX_46 5), zzI cy (rB 6) 4 (bkR tX_46 6), zzI cy (rB 7) 4 (bkR tX_46 7), _, zzI cy (rO 0) 5 (onR tX_46 0), zzI cy (rO 1) 5 (onR tX_46 1), zzI cy (rO 2) 5 (onR tX_46 2), zzI cy (rO 3) 5 (onR tX_46 3), zzI cy (rO 4) 5 (onR tX_46 4), zzI cy (rO 5) 5 (onR tX_46 5), zzI cy (rO 6) 5 (onR tX_46 6), zzI cy (rO 7) 5 (onR tX_46 7), _, zzI cy (rK 0) 8 (T_kn tX_46 0), zzI cy (rK 1) 8 (T_kn tX_46 1), zzI cy (rK 2) 8 (T_kn tX_46 2), zzI cy (rK 3) 8 (T_kn tX_46 3), zzI cy (rK 4) 8 (T_kn tX_46 4), zzI cy (rK 5) 8 (T_kn tX_46 5), zzI cy (rK 6) 8 (T_kn tX_46 6), zzI cy (rK 7) 8 (T_kn tX_46 7)] hP hD hu9 rfl
              clear hP hD hu9
              obtain ⟨hP, hD⟩ := hPD
              refine lv_pop hx hb (g_87 bX6_years rfl) rfl ?_
              refine lv_iload hx hb (g_21 (v := 4) bX6_years rfl) (lv_at hl 1 rfl) ?_
              refine lv_aload_n hx hb (g_42 bX6_years rfl) rfl (lv_at hl 3 rfl) ?_
              refine kRi (rV (As := []) (rest := [.int xS_29]) (b := qm) ⟨hx, hb, hml, hown, hts⟩ (c_X6_valueNow l G cy qm (.ref qmh) (.ref qmo) (.ref qmz) (.ref qmR) (.ref qmv) (.ref qmk) (.ref qma) (.ref qmt) (.int (nI kZ)) (.ref qmr) tX_46 qmB qmO qmK xE_30 iTk (ov uP) (ov uU) (.int (nI kAt)) (.int iTo) (.int iFr) (.long JFi) (.int iFa) (.ref qm3) (.int iSt) iLv iWs vLa (.ref qmu) (.ref qmy) (.ref qmb) (.ref qms) (.int iOm) rB rO rK (by omega) (by omega)) L_X6_122 (preRV (q := (RX6, TX6, 35)) hN hP (trueIx 0 [false, false, false, false, true, true, true, true, true, true, true, true, true, true, true, true, true, true, true, true, true, true, true, true, true, true, true, true, true, true, true, true]) (sel_fm rfl rfl) 4 5 rfl rfl) rfl ⟨Nat.le_of_ble_eq_true rfl, Nat.le_of_ble_eq_true rfl⟩ hl.1 (Nat.le_of_ble_eq_true rfl) (g_182 (v := 122) bX6_years rfl) ⟨Nat.le_of_ble_eq_true rfl, Nat.le_of_ble_eq_true rfl⟩) (fun r_49 h_50 => ?_)
              subst h_50
              refine lv_iadd hx hb (g_96 bX6_years rfl) ?_
              refine lv_istore (lv' := [(4, .int (xS_29 + (mvo tX_46 ((1 <<< (nI (T_np tX_46) &&& 31)) - 1)))), (5, .int (nI j_27)), (3, .int 0), (0, .ref qm), (1, .int (nI k_4)), (2, .int (nI k_11))]) hx hb (g_54 (v := 4) bX6_years rfl) hl (by decide +kernel) rfl (fun ls => ?_)
              clear hl
              intro hl
              refine lv_iconst (v := 0) hx hb (g_3 bX6_years rfl) (by decide +kernel) ?_
              refine lv_istore (lv' := [(6, .int 0), (4, .int (xS_29 + (mvo tX_46 ((1 <<< (nI (T_np tX_46) &&& 31)) - 1)))), (5, .int (nI j_27)), (3, .int 0), (0, .ref qm), (1, .int (nI k_4)), (2, .int (nI k_11))]) hx hb (g_54 (v := 6) bX6_years rfl) hl (by decide +kernel) rfl (fun ls => ?_)
              clear hl
              intro hl
              have lp_51 : ∀ (n_52 : Nat) (m_54 : Nat) (tK_55 : TA), 8 - m_54 < n_52 → m_54 ≤ T_np tA → TI tK_55 ∧ T_nb tK_55 = T_nb tA ∧ T_np tK_55 = T_np tA → tK_55 = ddF tX_46 m_54 → ∀ (H : Heap) (locs : List Loc) (ls : Array Slot), va_P G CL [zzI cy qmk 8 fMk, zzI cy qma 8 fMa, zzI cy qmh 8 fMh, zzI cy qmr 8 fX_18, zzO qm 5 (.ref qmh :: .ref qmo :: .ref qmz :: .ref qmR :: .ref qmv :: .ref qmk :: .ref qma :: .ref qmt :: .int (nI kZ) :: .ref qmr :: .int (nI (T_nb tK_55)) :: .ref qmB :: .int (nI (T_np tK_55)) :: .ref qmO :: .ref qmK :: .int xE_30 :: .int iTk :: .int (T_sd tK_55) :: ov uP :: ov uU :: .int (nI kAt) :: .int iTo :: .int iFr :: .long JFi :: .int iFa :: .ref qm3 :: .int iSt :: .int iLv :: .int iWs :: vLa :: .ref qmu :: .ref qmy :: .ref qmb :: .ref qms :: .int iOm :: []), zzG cy 3 qmB rB, zzI cy (rB 0) 4 (bkR tK_55 0), zzI cy (rB 1) 4 (bkR tK_55 1), zzI cy (rB 2) 4 (bkR tK_55 2), zzI cy (rB 3) 4 (bkR tK_55 3), zzI cy (rB 4) 4 (bkR tK_55 4), zzI cy (rB 5) 4 (bkR tK_55 5), zzI cy (rB 6) 4 (bkR tK_55 6), zzI cy (rB 7) 4 (bkR tK_55 7), zzG cy 3 qmO rO, zzI cy (rO 0) 5 (onR tK_55 0), zzI cy (rO 1) 5 (onR tK_55 1), zzI cy (rO 2) 5 (onR tK_55 2), zzI cy (rO 3) 5 (onR tK_55 3), zzI cy (rO 4) 5 (onR tK_55 4), zzI cy (rO 5) 5 (onR tK_55 5), zzI cy (rO 6) 5 (onR tK_55 6), zzI cy (rO 7) 5 (onR tK_55 7), zzG cy 3 qmK rK, zzI cy (rK 0) 8 (T_kn tK_55 0), zzI cy (rK 1) 8 (T_kn tK_55 1), zzI cy (rK 2) 8 (T_kn tK_55 2), zzI cy (rK 3) 8 (T_kn tK_55 3), zzI cy (rK 4) 8 (T_kn tK_55 4), zzI cy (rK 5) 8 (T_kn tK_55 5), zzI cy (rK 6) 8 (T_kn tK_55 6), zzI cy (rK 7) 8 (T_kn tK_55 7)] H → va_D A [zzI cy qmk 8 fMk, zzI cy qma 8 fMa, zzI cy qmh 8 fMh, zzI cy qmr 8 fX_18, zzO qm 5 (.ref qmh :: .ref qmo :: .ref qmz :: .ref qmR :: .ref qmv :: .ref qmk :: .ref qma :: .ref qmt :: .int (nI kZ) :: .ref qmr :: .int (nI (T_nb tK_55)) :: .ref qmB :: .int (nI (T_np tK_55)) :: .ref qmO :: .ref qmK :: .int xE_30 :: .int iTk :: .int (T_sd tK_55) :: ov uP :: ov uU :: .int (nI kAt) :: .int iTo :: .int iFr :: .long JFi :: .int iFa :: .ref qm3 :: .int iSt :: .int iLv :: .int iWs :: vLa :: .ref qmu :: .ref qmy :: .ref qmb :: .ref qms :: .int iOm :: []), zzG cy 3 qmB rB, zzI cy (rB 0) 4 (bkR tK_55 0), zzI cy (rB 1) 4 (bkR tK_55 1), zzI cy (rB 2) 4 (bkR tK_55 2), zzI cy (rB 3) 4 (bkR tK_55 3), zzI cy (rB 4) 4 (bkR tK_55 4), zzI cy (rB 5) 4 (bkR tK_55 5), zzI cy (rB 6) 4 (bkR tK_55 6), zzI cy (rB 7) 4 (bkR tK_55 7), zzG cy 3 qmO rO, zzI cy (rO 0) 5 (onR tK_55 0), zzI cy (rO 1) 5 (onR tK_55 1), zzI cy (rO 2) 5 (onR tK_55 2), zzI cy (rO 3) 5 (onR tK_55 3), zzI cy (rO 4) 5 (onR tK_55 4), zzI cy (rO 5) 5 (onR tK_55 5), zzI cy (rO 6) 5 (onR tK_55 6), zzI cy (rO 7) 5 (onR tK_55 7), zzG cy 3 qmK rK, zzI cy (rK 0) 8 (T_kn tK_55 0), zzI cy (rK 1) 8 (T_kn tK_55 1), zzI cy (rK 2) 8 (T_kn tK_55 2), zzI cy (rK 3) 8 (T_kn tK_55 3), zzI cy (rK 4) 8 (T_kn tK_55 4), zzI cy (rK 5) 8 (T_kn tK_55 5), zzI cy (rK 6) 8 (T_kn tK_55 6), zzI cy (rK 7) 8 (T_kn tK_55 7)] → va_S A s.heap H locs → lv_has ls 7 [(6, .int (nI m_54)), (4, .int (xS_29 + (mvo tX_46 ((1 <<< (nI (T_np tX_46) &&& 31)) - 1)))), (5, .int (nI j_27)), (3, .int 0), (0, .ref qm), (1, .int (nI k_4)), (2, .int (nI k_11))] → W p l e (Rm 16 0 0) s m (List.toArray (α := Value) [.ref qm, .int (nI k_4), .int (nI k_11)]) below meth c H locs 0 0 (MQ below ((Wi G (fun r u => ∃ (iNe : Int32) (iNt : Int32) (fNr : Nat → Int32) (tN : TA), u = [zzO qm 5 (.ref qmh :: .ref qmo :: .ref qmz :: .ref qmR :: .ref qmv :: .ref qmk :: .ref qma :: .ref qmt :: .int (nI kZ) :: .ref qmr :: .int (nI (T_nb tN)) :: .ref qmB :: .int (nI (T_np tN)) :: .ref qmO :: .ref qmK :: .int iNe :: .int iNt :: .int (T_sd tN) :: ov uP :: ov uU :: .int (nI kAt) :: .int iTo :: .int iFr :: .long JFi :: .int iFa :: .ref qm3 :: .int iSt :: .int iLv :: .int iWs :: vLa :: .ref qmu :: .ref qmy :: .ref qmb :: .ref qms :: .int iOm :: []), zzI cy qmh 8 fMh, zzI cy qmk 8 fMk, zzI cy qma 8 fMa, zzI cy qmr 8 fNr, zzG cy 3 qmB rB, zzI cy (rB 0) 4 (bkR tN 0), zzI cy (rB 1) 4 (bkR tN 1), zzI cy (rB 2) 4 (bkR tN 2), zzI cy (rB 3) 4 (bkR tN 3), zzI cy (rB 4) 4 (bkR tN 4), zzI cy (rB 5) 4 (bkR tN 5), zzI cy (rB 6) 4 (bkR tN 6), zzI cy (rB 7) 4 (bkR tN 7), zzG cy 3 qmO rO, zzI cy (rO 0) 5 (onR tN 0), zzI cy (rO 1) 5 (onR tN 1), zzI cy (rO 2) 5 (onR tN 2), zzI cy (rO 3) 5 (onR tN 3), zzI cy (rO 4) 5 (onR tN 4), zzI cy (rO 5) 5 (onR tN 5), zzI cy (rO 6) 5 (onR tN 6), zzI cy (rO 7) 5 (onR tN 7), zzG cy 3 qmK rK, zzI cy (rK 0) 8 (T_kn tN 0), zzI cy (rK 1) 8 (T_kn tN 1), zzI cy (rK 2) 8 (T_kn tN 2), zzI cy (rK 3) 8 (T_kn tN 3), zzI cy (rK 4) 8 (T_kn tN 4), zzI cy (rK 5) 8 (T_kn tN 5), zzI cy (rK 6) 8 (T_kn tN 6), zzI cy (rK 7) 8 (T_kn tN 7)] ∧ (WI tN ∧ PMyears fMh fMk fMa tA (nI k_4) (nI k_11) r tN) ∧ (True))) A) (List.toArray (α := Value) [.ref qm, .int (nI k_4), .int (nI k_11)]) s 0 0 A) (F0 m 84 ls []) := by
                intro n_52
                induction n_52 with
                | zero => intro m_54 tK_55 hm9; exact absurd hm9 (Nat.not_lt_zero _)
                | succ n_52 ih_53 =>
                  intro m_54 tK_55 hm_59 hm_59 hTK_57 hD_58 H locs ls hP hD hS hl
                  refine lv_iload hx hb (g_21 (v := 6) bX6_years rfl) (lv_at hl 0 rfl) ?_
                  refine lv_aload_n hx hb (g_42 bX6_years rfl) rfl (lv_at hl 4 rfl) ?_
                  refine va_get (D := G) (ci := 5) (v := .int (nI (T_np tK_55))) (C := RX6) (T := TX6) (N := 35) hx hb hts iX_X6 hown hK hP 4 rfl rfl 12 (by decide +kernel) (hts _ m_t862) (fun _ h9 => h9) rfl (g_180 (v := 78) bX6_years rfl) ?_
                  refine lv_icmp_ge (tgt := 136) hx hb dX6_years_90 (by decide +kernel) (fun c_60 => ?_) (fun c_60 => ?_)
                  · have hlt_61e : T_np tK_55 = T_np tA := hTK_57.2.2
                    have hlt_61b : T_nb tK_55 = T_nb tA := hTK_57.2.1
                    have hw_62m : m_54 = T_np tA := Nat.le_antisymm (by omega) (by have h9 := c_60; rw [hTK_57.2.2] at h9; exact lp_ge rfl rfl (by omega) (by omega) h9)
                    have hw_62n : T_np tX_46 = T_np tA := by rw [h_48.1]; exact ((zact_nb _ _ _).2).trans hT_32.2.2
                    have hw_62z : tK_55 = zdd tX_46 := by rw [hD_58, hw_62m, ← hw_62n]; rfl
                    have hw_62W : WI tK_55 := by rw [hw_62z, h_48.1]; exact WI_dd (WI_act hW_33)
                    refine lv_aload_n hx hb (g_42 bX6_years rfl) rfl (lv_at hl 4 rfl) ?_
                    refine cVi (As := []) (rest := []) (b := qm) (q := (RX6, TX6, 35)) ⟨hx, hb, hml, hown, hts⟩ (x_X6_end l G cy (H).size qm (.ref qmh) (.ref qmo) (.ref qmz) (.ref qmR) (.ref qmv) (.ref qmk) (.ref qma) (.ref qmt) (.int (nI kZ)) (.ref qmr) tK_55 qmB qmO qmK xE_30 iTk (ov uP) (ov uU) (.int (nI kAt)) (.int iTo) (.int iFr) (.long JFi) (.int iFa) (.ref qm3) (.int iSt) iLv iWs vLa (.ref qmu) (.ref qmy) (.ref qmb) (.ref qms) (.int iOm) rB rO rK (by omega) (by omega) hTK_57.1 hw_62W.2.2) L_X6_288 hN hP hD hS hA (trueIx 0 [false, false, false, false, true, true, true, true, true, true, true, true, true, true, true, true, true, true, true, true, true, true, true, true, true, true, true, true, true, true, true, true]) [true, true, true, true, false, false, false, false, false, false, false, false, false, false, false, false, false, false, false, false, false, false, false, false, false, false, false, false, false, false, false, false] (sel_eq rfl rfl) (by decide +kernel) rfl 4 5 rfl rfl rfl ⟨Nat.le_of_ble_eq_true rfl, Nat.le_of_ble_eq_true rfl⟩ hl.1 (Nat.le_of_ble_eq_true rfl) (g_182 (v := 288) bX6_years rfl) ⟨Nat.le_of_ble_eq_true rfl, Nat.le_of_ble_eq_true rfl⟩ (fun r_63 u_65 H locs h_64 => ?_)
                    clear hP hD hS
                    intro hP hD hS
                    obtain ⟨tX_66, iX_67, hu9, h_68, h_69, h_64⟩ := h_64
                    have hPD := pd_eq [_, _, _, _, zzO qm 5 (.ref qmh :: .ref qmo :: .ref qmz :: .ref qmR :: .ref qmv :: .ref qmk :: .ref qma :: .ref qmt :: .int (nI kZ) :: .ref qmr :: .int (nI (T_nb tX_66)) :: .ref qmB :: .int (nI (T_np tX_66)) :: .ref qmO :: .ref qmK :: .int iX_67 :: .int iTk :: .int (T_sd tX_66) :: ov uP :: ov uU :: .int (nI kAt) :: .int iTo :: .int iFr :: .long JFi :: .int iFa :: .ref qm3 :: .int iSt :: .int iLv :: .int iWs :: vLa :: .ref qmu :: .ref qmy :: .ref qmb :: .ref qms :: .int iOm :: []), _, zzI cy (rB 0) 4 (bkR tX_66 0), zzI cy (rB 1) 4 (bkR tX_66 1), zzI cy (rB 2) 4 (bkR tX_66 2), zzI cy (rB 3) 4 (bkR tX_66 3), zzI cy (rB 4) 4 (bkR tX_66 4), zzI cy (rB 5) 4 (bkR tX_66 5), zzI cy (rB 6) 4 (bkR tX_66 6), zzI cy (rB 7) 4 (bkR tX_66 7), _, zzI cy (rO 0) 5 (onR tX_66 0), zzI cy (rO 1) 5 (onR tX_66 1), zzI cy (rO 2) 5 (onR tX_66 2), zzI cy (rO 3) 5 (onR tX_66 3), zzI cy (rO 4) 5 (onR tX_66 4), zzI cy (rO 5) 5 (onR tX_66 5), zzI cy (rO 6) 5 (onR tX_66 6), zzI cy (rO 7) 5 (onR tX_66 7), _, zzI cy (rK 0) 8 (T_kn tX_66 0), zzI cy (rK 1) 8 (T_kn tX_66 1), zzI cy (rK 2) 8 (T_kn tX_66 2), zzI cy (rK 3) 8 (T_kn tX_66 3), zzI cy (rK 4) 8 (T_kn tX_66 4), zzI cy (rK 5) 8 (T_kn tX_66 5), zzI cy (rK 6) 8 (T_kn tX_66 6), zzI cy (rK 7) 8 (T_kn tX_66 7)] hP hD hu9 rfl
                    clear hP hD hu9
                    obtain ⟨hP, hD⟩ := hPD
                    refine lv_pop hx hb (g_87 bX6_years rfl) rfl ?_
                    refine lv_iinc (v := nI (j_27 + 1)) (lv' := [(5, .int (nI (j_27 + 1))), (6, .int (nI m_54)), (4, .int (xS_29 + (mvo tX_46 ((1 <<< (nI (T_np tX_46) &&& 31)) - 1)))), (3, .int 0), (0, .ref qm), (1, .int (nI k_4)), (2, .int (nI k_11))]) hx hb dX6_years_141 hl (k := 2) rfl (nI_1 _) (by decide +kernel) rfl (fun ls => ?_)
                    clear hl
                    intro hl
                    refine lv_goto (tgt := 49) hx hb dX6_years_144 (by decide +kernel) ?_
                    exact ih_26 (j_27 + 1) tX_66 (xS_29 + (mvo tX_46 ((1 <<< (nI (T_np tX_46) &&& 31)) - 1))) iX_67 (by omega) (by omega) (⟨h_68.1, h_68.2.1.trans hTK_57.2.1, h_68.2.2.trans hTK_57.2.2⟩) (by rw [h_69]; exact WI_ey hw_62W) (by have q9 := hY_34; rw [show k_11 - j_27 = k_11 - (j_27 + 1) + 1 by omega] at q9; exact yr_st q9 (by rw [h_69, hw_62z, h_48.1, en_42]) (by rw [mvo_all (by omega), h_48.1, en_42])) _ _ _ (pSb hP [[true, true, false, false, false, true, true, true, true, true, true, true, true, true, true, true, true, true, true, true, true, true, true, true, true, true, true, true, true, true, true, true], [false, false, false, false, true], [false, false, true, true]] rfl rfl) (dSb hD [[true, true, false, false, false, true, true, true, true, true, true, true, true, true, true, true, true, true, true, true, true, true, true, true, true, true, true, true, true, true, true, true], [false, false, false, false, true], [false, false, true, true]] (by decide +kernel) rfl rfl) hS (lv_sub hl [0, 2, 3, 4, 5, 6] rfl)
                  · have hlt_70e : T_np tK_55 = T_np tA := hTK_57.2.2
                    have hlt_70b : T_nb tK_55 = T_nb tA := hTK_57.2.1
                    have hlt_70 : m_54 < T_np tA := by rw [hlt_70e] at c_60; exact lp_lt rfl rfl (by omega) (by omega) c_60
                    refine lv_aload_n hx hb (g_42 bX6_years rfl) rfl (lv_at hl 4 rfl) ?_
                    refine lv_iload hx hb (g_21 (v := 6) bX6_years rfl) (lv_at hl 0 rfl) ?_
                    refine kRi (rV (As := [.int (nI m_54)]) (rest := []) (b := qm) ⟨hx, hb, hml, hown, hts⟩ (c_X6_isThere l G cy qm (.ref qmh) (.ref qmo) (.ref qmz) (.ref qmR) (.ref qmv) (.ref qmk) (.ref qma) (.ref qmt) (.int (nI kZ)) (.ref qmr) tK_55 qmB qmO qmK xE_30 iTk (ov uP) (ov uU) (.int (nI kAt)) (.int iTo) (.int iFr) (.long JFi) (.int iFa) (.ref qm3) (.int iSt) iLv iWs vLa (.ref qmu) (.ref qmy) (.ref qmb) (.ref qms) (.int iOm) rO m_54 (by omega)) L_X6_81 (preRV (q := (RX6, TX6, 35)) hN hP (trueIx 0 [false, false, false, false, true, false, false, false, false, false, false, false, false, false, true, true, true, true, true, true, true, true, true]) (sel_fm rfl rfl) 4 5 rfl rfl) rfl ⟨Nat.le_of_ble_eq_true rfl, Nat.le_of_ble_eq_true rfl⟩ hl.1 (Nat.le_of_ble_eq_true rfl) (g_182 (v := 81) bX6_years rfl) ⟨Nat.le_of_ble_eq_true rfl, Nat.le_of_ble_eq_true rfl⟩) (fun r_71 h_72 => ?_)
                    rcases h_72 with ⟨rfl, h_73⟩ | ⟨rfl, h_73⟩
                    · refine lv_if_eq (tgt := 130) hx hb dX6_years_99 (by decide +kernel) (fun h9 => absurd h9 (by decide +kernel)) (fun _ => ?_)
                      refine lv_aload_n hx hb (g_42 bX6_years rfl) rfl (lv_at hl 4 rfl) ?_
                      refine lv_bipush (v := 20) hx hb dX6_years_103 (by decide +kernel) ?_
                      refine cVi (As := [.int 20]) (rest := []) (b := qm) (q := (RX6, TX6, 35)) ⟨hx, hb, hml, hown, hts⟩ (x_X6_draw l G cy (H).size qm (.ref qmh) (.ref qmo) (.ref qmz) (.ref qmR) (.ref qmv) (.ref qmk) (.ref qma) (.ref qmt) (.int (nI kZ)) (.ref qmr) tK_55 qmB qmO qmK xE_30 iTk (ov uP) (ov uU) (.int (nI kAt)) (.int iTo) (.int iFr) (.long JFi) (.int iFa) (.ref qm3) (.int iSt) iLv iWs vLa (.ref qmu) (.ref qmy) (.ref qmb) (.ref qms) (.int iOm) rB rO rK) L_X6_352 hN hP hD hS hA (trueIx 0 [false, false, false, false, true, true, true, true, true, true, true, true, true, true, true, true, true, true, true, true, true, true, true, true, true, true, true, true, true, true, true, true]) [true, true, true, true, false, false, false, false, false, false, false, false, false, false, false, false, false, false, false, false, false, false, false, false, false, false, false, false, false, false, false, false] (sel_eq rfl rfl) (by decide +kernel) rfl 4 5 rfl rfl rfl ⟨Nat.le_of_ble_eq_true rfl, Nat.le_of_ble_eq_true rfl⟩ hl.1 (Nat.le_of_ble_eq_true rfl) (g_182 (v := 352) bX6_years rfl) ⟨Nat.le_of_ble_eq_true rfl, Nat.le_of_ble_eq_true rfl⟩ (fun r_75 u_77 H locs h_76 => ?_)
                      clear hP hD hS
                      intro hP hD hS
                      obtain ⟨hu9, h_76⟩ := h_76
                      have hPD := pd_eq [_, _, _, _, zzO qm 5 (.ref qmh :: .ref qmo :: .ref qmz :: .ref qmR :: .ref qmv :: .ref qmk :: .ref qma :: .ref qmt :: .int (nI kZ) :: .ref qmr :: .int (nI (T_nb (T_setsd tK_55 (ltS (T_sd tK_55))))) :: .ref qmB :: .int (nI (T_np (T_setsd tK_55 (ltS (T_sd tK_55))))) :: .ref qmO :: .ref qmK :: .int xE_30 :: .int iTk :: .int (T_sd (T_setsd tK_55 (ltS (T_sd tK_55)))) :: ov uP :: ov uU :: .int (nI kAt) :: .int iTo :: .int iFr :: .long JFi :: .int iFa :: .ref qm3 :: .int iSt :: .int iLv :: .int iWs :: vLa :: .ref qmu :: .ref qmy :: .ref qmb :: .ref qms :: .int iOm :: []), _, zzI cy (rB 0) 4 (bkR (T_setsd tK_55 (ltS (T_sd tK_55))) 0), zzI cy (rB 1) 4 (bkR (T_setsd tK_55 (ltS (T_sd tK_55))) 1), zzI cy (rB 2) 4 (bkR (T_setsd tK_55 (ltS (T_sd tK_55))) 2), zzI cy (rB 3) 4 (bkR (T_setsd tK_55 (ltS (T_sd tK_55))) 3), zzI cy (rB 4) 4 (bkR (T_setsd tK_55 (ltS (T_sd tK_55))) 4), zzI cy (rB 5) 4 (bkR (T_setsd tK_55 (ltS (T_sd tK_55))) 5), zzI cy (rB 6) 4 (bkR (T_setsd tK_55 (ltS (T_sd tK_55))) 6), zzI cy (rB 7) 4 (bkR (T_setsd tK_55 (ltS (T_sd tK_55))) 7), _, zzI cy (rO 0) 5 (onR (T_setsd tK_55 (ltS (T_sd tK_55))) 0), zzI cy (rO 1) 5 (onR (T_setsd tK_55 (ltS (T_sd tK_55))) 1), zzI cy (rO 2) 5 (onR (T_setsd tK_55 (ltS (T_sd tK_55))) 2), zzI cy (rO 3) 5 (onR (T_setsd tK_55 (ltS (T_sd tK_55))) 3), zzI cy (rO 4) 5 (onR (T_setsd tK_55 (ltS (T_sd tK_55))) 4), zzI cy (rO 5) 5 (onR (T_setsd tK_55 (ltS (T_sd tK_55))) 5), zzI cy (rO 6) 5 (onR (T_setsd tK_55 (ltS (T_sd tK_55))) 6), zzI cy (rO 7) 5 (onR (T_setsd tK_55 (ltS (T_sd tK_55))) 7), _, zzI cy (rK 0) 8 (T_kn (T_setsd tK_55 (ltS (T_sd tK_55))) 0), zzI cy (rK 1) 8 (T_kn (T_setsd tK_55 (ltS (T_sd tK_55))) 1), zzI cy (rK 2) 8 (T_kn (T_setsd tK_55 (ltS (T_sd tK_55))) 2), zzI cy (rK 3) 8 (T_kn (T_setsd tK_55 (ltS (T_sd tK_55))) 3), zzI cy (rK 4) 8 (T_kn (T_setsd tK_55 (ltS (T_sd tK_55))) 4), zzI cy (rK 5) 8 (T_kn (T_setsd tK_55 (ltS (T_sd tK_55))) 5), zzI cy (rK 6) 8 (T_kn (T_setsd tK_55 (ltS (T_sd tK_55))) 6), zzI cy (rK 7) 8 (T_kn (T_setsd tK_55 (ltS (T_sd tK_55))) 7)] hP hD hu9 rfl
                      clear hP hD hu9
                      obtain ⟨hP, hD⟩ := hPD
                      subst h_76
                      refine lv_aload_n hx hb (g_42 bX6_years rfl) rfl (lv_at hl 4 rfl) ?_
                      refine va_get (D := G) (ci := 5) (v := .ref qmO) (C := RX6) (T := TX6) (N := 35) hx hb hts iX_X6 hown hK hP 4 rfl rfl 13 (by decide +kernel) (hts _ m_t863) (fun _ h9 => h9) rfl (g_180 (v := 45) bX6_years rfl) ?_
                      refine lv_iload hx hb (g_21 (v := 6) bX6_years rfl) (lv_at hl 0 rfl) ?_
                      refine va_alda hx hb hK hP 14 3 rfl rfl (in8 (by omega)) (g_50 bX6_years rfl) ?_
                      refine lv_setv (v := .ref (rO m_54)) (g_ref (by omega)) ?_
                      refine lv_iconst (v := 0) hx hb (g_3 bX6_years rfl) (by decide +kernel) ?_
                      refine va_iald hx hb hK hP (15 + m_54) 0 (sg8 (n0 := 15) (f := (fun j => zzI cy (rO j) 5 (onR (T_setsd tK_55 (ltS (T_sd tK_55))) j))) rfl rfl rfl rfl rfl rfl rfl rfl m_54 (by omega)) rfl (in_c rfl) (g_46 bX6_years rfl) ?_
                      refine lv_seti (v := T_ag (T_setsd tK_55 (ltS (T_sd tK_55))) m_54) (on_0 _ _) ?_
                      refine lv_icmp_ge (tgt := 130) hx hb dX6_years_117 (by decide +kernel) (fun c_78 => ?_) (fun c_78 => ?_)
                      · refine lv_iinc (v := nI (m_54 + 1)) (lv' := [(6, .int (nI (m_54 + 1))), (4, .int (xS_29 + (mvo tX_46 ((1 <<< (nI (T_np tX_46) &&& 31)) - 1)))), (5, .int (nI j_27)), (3, .int 0), (0, .ref qm), (1, .int (nI k_4)), (2, .int (nI k_11))]) hx hb dX6_years_130 hl (k := 0) rfl (nI_1 _) (by decide +kernel) rfl (fun ls => ?_)
                        clear hl
                        intro hl
                        refine lv_goto (tgt := 84) hx hb dX6_years_133 (by decide +kernel) ?_
                        exact ih_53 (m_54 + 1) (T_setsd tK_55 (ltS (T_sd tK_55))) (by omega) (by omega) (⟨hTK_57.1, hTK_57.2⟩) (by rw [dd_live (by rw [← hD_58]; exact h_73) (by rw [← hD_58]; exact Int32.not_lt.mpr c_78), ← hD_58]) _ _ _ hP hD hS (lv_sub hl [0, 1, 2, 3, 4, 5, 6] rfl)
                      · refine lv_aload_n hx hb (g_42 bX6_years rfl) rfl (lv_at hl 4 rfl) ?_
                        refine va_get (D := G) (ci := 5) (v := .ref qmO) (C := RX6) (T := TX6) (N := 35) hx hb hts iX_X6 hown hK hP 4 rfl rfl 13 (by decide +kernel) (hts _ m_t863) (fun _ h9 => h9) rfl (g_180 (v := 45) bX6_years rfl) ?_
                        refine lv_iload hx hb (g_21 (v := 6) bX6_years rfl) (lv_at hl 0 rfl) ?_
                        refine va_alda hx hb hK hP 14 3 rfl rfl (in8 (by omega)) (g_50 bX6_years rfl) ?_
                        refine lv_setv (v := .ref (rO m_54)) (g_ref (by omega)) ?_
                        refine lv_iconst (v := 4) hx hb (g_7 bX6_years rfl) (by decide +kernel) ?_
                        refine lv_iconst (v := 1) hx hb (g_4 bX6_years rfl) (by decide +kernel) ?_
                        refine va_iast hx hb hK hP hD hS (15 + m_54) 0 ((sg8 (n0 := 15) (f := (fun j => zzI cy (rO j) 5 (onR (T_setsd tK_55 (ltS (T_sd tK_55))) j))) rfl rfl rfl rfl rfl rfl rfl rfl) m_54 (by omega)) rfl (in_c rfl) (g_79 bX6_years rfl) (fun H locs => ?_)
                        clear hP hD hS
                        intro hP hD hS
                        have hPD := st8PD (ws' := [zzI cy qmk 8 fMk, zzI cy qma 8 fMa, zzI cy qmh 8 fMh, zzI cy qmr 8 fX_18, zzO qm 5 (.ref qmh :: .ref qmo :: .ref qmz :: .ref qmR :: .ref qmv :: .ref qmk :: .ref qma :: .ref qmt :: .int (nI kZ) :: .ref qmr :: .int (nI (T_nb (T_setgn (T_setsd tK_55 (ltS (T_sd tK_55))) (updB (T_gn (T_setsd tK_55 (ltS (T_sd tK_55)))) m_54 true)))) :: .ref qmB :: .int (nI (T_np (T_setgn (T_setsd tK_55 (ltS (T_sd tK_55))) (updB (T_gn (T_setsd tK_55 (ltS (T_sd tK_55)))) m_54 true)))) :: .ref qmO :: .ref qmK :: .int xE_30 :: .int iTk :: .int (T_sd (T_setgn (T_setsd tK_55 (ltS (T_sd tK_55))) (updB (T_gn (T_setsd tK_55 (ltS (T_sd tK_55)))) m_54 true))) :: ov uP :: ov uU :: .int (nI kAt) :: .int iTo :: .int iFr :: .long JFi :: .int iFa :: .ref qm3 :: .int iSt :: .int iLv :: .int iWs :: vLa :: .ref qmu :: .ref qmy :: .ref qmb :: .ref qms :: .int iOm :: []), zzG cy 3 qmB rB, zzI cy (rB 0) 4 (bkR (T_setgn (T_setsd tK_55 (ltS (T_sd tK_55))) (updB (T_gn (T_setsd tK_55 (ltS (T_sd tK_55)))) m_54 true)) 0), zzI cy (rB 1) 4 (bkR (T_setgn (T_setsd tK_55 (ltS (T_sd tK_55))) (updB (T_gn (T_setsd tK_55 (ltS (T_sd tK_55)))) m_54 true)) 1), zzI cy (rB 2) 4 (bkR (T_setgn (T_setsd tK_55 (ltS (T_sd tK_55))) (updB (T_gn (T_setsd tK_55 (ltS (T_sd tK_55)))) m_54 true)) 2), zzI cy (rB 3) 4 (bkR (T_setgn (T_setsd tK_55 (ltS (T_sd tK_55))) (updB (T_gn (T_setsd tK_55 (ltS (T_sd tK_55)))) m_54 true)) 3), zzI cy (rB 4) 4 (bkR (T_setgn (T_setsd tK_55 (ltS (T_sd tK_55))) (updB (T_gn (T_setsd tK_55 (ltS (T_sd tK_55)))) m_54 true)) 4), zzI cy (rB 5) 4 (bkR (T_setgn (T_setsd tK_55 (ltS (T_sd tK_55))) (updB (T_gn (T_setsd tK_55 (ltS (T_sd tK_55)))) m_54 true)) 5), zzI cy (rB 6) 4 (bkR (T_setgn (T_setsd tK_55 (ltS (T_sd tK_55))) (updB (T_gn (T_setsd tK_55 (ltS (T_sd tK_55)))) m_54 true)) 6), zzI cy (rB 7) 4 (bkR (T_setgn (T_setsd tK_55 (ltS (T_sd tK_55))) (updB (T_gn (T_setsd tK_55 (ltS (T_sd tK_55)))) m_54 true)) 7), zzG cy 3 qmO rO, zzI cy (rO 0) 5 (onR (T_setgn (T_setsd tK_55 (ltS (T_sd tK_55))) (updB (T_gn (T_setsd tK_55 (ltS (T_sd tK_55)))) m_54 true)) 0), zzI cy (rO 1) 5 (onR (T_setgn (T_setsd tK_55 (ltS (T_sd tK_55))) (updB (T_gn (T_setsd tK_55 (ltS (T_sd tK_55)))) m_54 true)) 1), zzI cy (rO 2) 5 (onR (T_setgn (T_setsd tK_55 (ltS (T_sd tK_55))) (updB (T_gn (T_setsd tK_55 (ltS (T_sd tK_55)))) m_54 true)) 2), zzI cy (rO 3) 5 (onR (T_setgn (T_setsd tK_55 (ltS (T_sd tK_55))) (updB (T_gn (T_setsd tK_55 (ltS (T_sd tK_55)))) m_54 true)) 3), zzI cy (rO 4) 5 (onR (T_setgn (T_setsd tK_55 (ltS (T_sd tK_55))) (updB (T_gn (T_setsd tK_55 (ltS (T_sd tK_55)))) m_54 true)) 4), zzI cy (rO 5) 5 (onR (T_setgn (T_setsd tK_55 (ltS (T_sd tK_55))) (updB (T_gn (T_setsd tK_55 (ltS (T_sd tK_55)))) m_54 true)) 5), zzI cy (rO 6) 5 (onR (T_setgn (T_setsd tK_55 (ltS (T_sd tK_55))) (updB (T_gn (T_setsd tK_55 (ltS (T_sd tK_55)))) m_54 true)) 6), zzI cy (rO 7) 5 (onR (T_setgn (T_setsd tK_55 (ltS (T_sd tK_55))) (updB (T_gn (T_setsd tK_55 (ltS (T_sd tK_55)))) m_54 true)) 7), zzG cy 3 qmK rK, zzI cy (rK 0) 8 (T_kn (T_setgn (T_setsd tK_55 (ltS (T_sd tK_55))) (updB (T_gn (T_setsd tK_55 (ltS (T_sd tK_55)))) m_54 true)) 0), zzI cy (rK 1) 8 (T_kn (T_setgn (T_setsd tK_55 (ltS (T_sd tK_55))) (updB (T_gn (T_setsd tK_55 (ltS (T_sd tK_55)))) m_54 true)) 1), zzI cy (rK 2) 8 (T_kn (T_setgn (T_setsd tK_55 (ltS (T_sd tK_55))) (updB (T_gn (T_setsd tK_55 (ltS (T_sd tK_55)))) m_54 true)) 2), zzI cy (rK 3) 8 (T_kn (T_setgn (T_setsd tK_55 (ltS (T_sd tK_55))) (updB (T_gn (T_setsd tK_55 (ltS (T_sd tK_55)))) m_54 true)) 3), zzI cy (rK 4) 8 (T_kn (T_setgn (T_setsd tK_55 (ltS (T_sd tK_55))) (updB (T_gn (T_setsd tK_55 (ltS (T_sd tK_55)))) m_54 true)) 4), zzI cy (rK 5) 8 (T_kn (T_setgn (T_setsd tK_55 (ltS (T_sd tK_55))) (updB (T_gn (T_setsd tK_55 (ltS (T_sd tK_55)))) m_54 true)) 5), zzI cy (rK 6) 8 (T_kn (T_setgn (T_setsd tK_55 (ltS (T_sd tK_55))) (updB (T_gn (T_setsd tK_55 (ltS (T_sd tK_55)))) m_54 true)) 6), zzI cy (rK 7) 8 (T_kn (T_setgn (T_setsd tK_55 (ltS (T_sd tK_55))) (updB (T_gn (T_setsd tK_55 (ltS (T_sd tK_55)))) m_54 true)) 7)]) (k := m_54) (g1 := onR (T_setgn (T_setsd tK_55 (ltS (T_sd tK_55))) (updB (T_gn (T_setsd tK_55 (ltS (T_sd tK_55)))) m_54 true)) m_54) hP hD (sg8 (n0 := 15) (f := (fun j => zzI cy (rO j) 5 (onR (T_setsd tK_55 (ltS (T_sd tK_55))) j))) rfl rfl rfl rfl rfl rfl rfl rfl) (sg8 (n0 := 15) (f := (fun j => zzI cy (rO j) 5 (onR (T_setgn (T_setsd tK_55 (ltS (T_sd tK_55))) (updB (T_gn (T_setsd tK_55 (ltS (T_sd tK_55)))) m_54 true)) j))) rfl rfl rfl rfl rfl rfl rfl rfl) rfl rfl (by omega) rfl (on_w4 (T_setsd tK_55 (ltS (T_sd tK_55))) m_54 true) (fun j hj => congrArg (zzI cy (rO j) 5) (on_n4 (T_setsd tK_55 (ltS (T_sd tK_55))) m_54 true hj))
                        clear hP hD
                        obtain ⟨hP, hD⟩ := hPD
                        refine lv_iinc (v := nI (m_54 + 1)) (lv' := [(6, .int (nI (m_54 + 1))), (4, .int (xS_29 + (mvo tX_46 ((1 <<< (nI (T_np tX_46) &&& 31)) - 1)))), (5, .int (nI j_27)), (3, .int 0), (0, .ref qm), (1, .int (nI k_4)), (2, .int (nI k_11))]) hx hb dX6_years_130 hl (k := 0) rfl (nI_1 _) (by decide +kernel) rfl (fun ls => ?_)
                        clear hl
                        intro hl
                        refine lv_goto (tgt := 84) hx hb dX6_years_133 (by decide +kernel) ?_
                        exact ih_53 (m_54 + 1) (T_setgn (T_setsd tK_55 (ltS (T_sd tK_55))) (updB (T_gn (T_setsd tK_55 (ltS (T_sd tK_55)))) m_54 true)) (by omega) (by omega) (⟨hTK_57.1, hTK_57.2⟩) (by rw [dd_die (by rw [← hD_58]; exact h_73) (by rw [← hD_58]; exact Int32.not_le.mp c_78), ← hD_58]) _ _ _ hP hD hS (lv_sub hl [0, 1, 2, 3, 4, 5, 6] rfl)
                    · refine lv_if_eq (tgt := 130) hx hb dX6_years_99 (by decide +kernel) (fun _ => ?_) (fun h9 => absurd (by decide +kernel) h9)
                      refine lv_iinc (v := nI (m_54 + 1)) (lv' := [(6, .int (nI (m_54 + 1))), (4, .int (xS_29 + (mvo tX_46 ((1 <<< (nI (T_np tX_46) &&& 31)) - 1)))), (5, .int (nI j_27)), (3, .int 0), (0, .ref qm), (1, .int (nI k_4)), (2, .int (nI k_11))]) hx hb dX6_years_130 hl (k := 0) rfl (nI_1 _) (by decide +kernel) rfl (fun ls => ?_)
                      clear hl
                      intro hl
                      refine lv_goto (tgt := 84) hx hb dX6_years_133 (by decide +kernel) ?_
                      exact ih_53 (m_54 + 1) tK_55 (by omega) (by omega) (⟨hTK_57.1, hTK_57.2⟩) (by rw [dd_g (by rw [← hD_58]; exact h_73)]; exact hD_58) _ _ _ hP hD hS (lv_sub hl [0, 1, 2, 3, 4, 5, 6] rfl)
              exact lp_51 ((8 - 0) + 1) 0 tX_46 (Nat.lt_succ_self _) (Nat.zero_le _) (⟨h_47.1, h_47.2.1.trans hT_32.2.1, h_47.2.2.trans hT_32.2.2⟩) rfl _ _ ls hP hD hS (lv_sub hl [0, 1, 2, 3, 4, 5, 6] rfl)
        exact lp_24 ((20 - 0) + 1) 0 tA 0 iEn (Nat.lt_succ_self _) (Nat.zero_le _) (⟨hWI.1, rfl, rfl⟩) hWI rfl _ _ ls hP hD hS (lv_sub hl [0, 1, 2, 3, 4, 5] rfl)
    · refine lv_if_ne (tgt := 31) hx hb dX6_years_21 (by decide +kernel) (fun h9 => absurd (by decide +kernel) h9) (fun _ => ?_)
      refine lv_aload_n hx hb (g_42 bX6_years rfl) rfl (lv_at hl 0 rfl) ?_
      refine lv_bipush (v := (-2)) hx hb dX6_years_25 (by decide +kernel) ?_
      refine cVi (As := [.int (-2)]) (rest := []) (b := qm) (q := (RX6, TX6, 35)) ⟨hx, hb, hml, hown, hts⟩ (c_X6_refuse2 l G cy (s.heap).size qm (.ref qmh) (.ref qmo) (.ref qmz) (.ref qmR) (.ref qmv) (.ref qmk) (.ref qma) (.ref qmt) (.int (nI kZ)) qmr tA qmB qmO qmK iEn iTk (ov uP) (ov uU) (.int (nI kAt)) (.int iTo) (.int iFr) (.long JFi) (.int iFa) (.ref qm3) (.int iSt) iLv iWs vLa (.ref qmu) (.ref qmy) (.ref qmb) (.ref qms) (.int iOm) fMr) L_X6_91 hN hP hD hS hA [0, 4] [false, true, true, true, false, true, true, true, true, true, true, true, true, true, true, true, true, true, true, true, true, true, true, true, true, true, true, true, true, true, true, true] rfl (by decide +kernel) rfl 0 5 rfl rfl rfl ⟨Nat.le_of_ble_eq_true rfl, Nat.le_of_ble_eq_true rfl⟩ hl.1 (Nat.le_of_ble_eq_true rfl) (g_182 (v := 91) bX6_years rfl) ⟨Nat.le_of_ble_eq_true rfl, Nat.le_of_ble_eq_true rfl⟩ (fun r_81 u_83 H locs h_82 => ?_)
      clear hP hD hS
      intro hP hD hS
      obtain ⟨fX_84, hu9, h_82⟩ := h_82
      have hPD := pd_eq [_, _, _, _, _, _, _, _, _, _, _, _, _, _, _, _, _, _, _, _, _, _, _, _, _, _, _, _, _, _, _, zzI cy qmr 8 fX_84] hP hD hu9 rfl
      clear hP hD hu9
      obtain ⟨hP, hD⟩ := hPD
      subst h_82
      exact endWs [[false, false, false, false, false, false, false, false, false, false, false, false, false, false, false, false, false, false, false, false, false, false, false, false, false, false, false, false, false, false, true], [true, true, true, false, false, false, false, false, false, false, false, false, false, false, false, false, false, false, false, false, false, false, false, false, false, false, false, false, false, false, false, true], [false, false, false, true, true, true, true, true, true, true, true, true, true, true, true, true, true, true, true, true, true, true, true, true, true, true, true, true, true, true]] hx hb hr hlocks rfl hP hD rfl (by decide +kernel) hS ⟨iEn, iTk, fX_84, tA, rfl, ⟨hWI, Or.inl ⟨rfl, Or.inr h_10, rfl⟩⟩, trivial⟩ (g_172 bX6_years rfl)
  · refine lv_if_eq (tgt := 24) hx hb dX6_years_9 (by decide +kernel) (fun _ => ?_) (fun h9 => absurd (by decide +kernel) h9)
    refine lv_aload_n hx hb (g_42 bX6_years rfl) rfl (lv_at hl 0 rfl) ?_
    refine lv_bipush (v := (-2)) hx hb dX6_years_25 (by decide +kernel) ?_
    refine cVi (As := [.int (-2)]) (rest := []) (b := qm) (q := (RX6, TX6, 35)) ⟨hx, hb, hml, hown, hts⟩ (c_X6_refuse2 l G cy (s.heap).size qm (.ref qmh) (.ref qmo) (.ref qmz) (.ref qmR) (.ref qmv) (.ref qmk) (.ref qma) (.ref qmt) (.int (nI kZ)) qmr tA qmB qmO qmK iEn iTk (ov uP) (ov uU) (.int (nI kAt)) (.int iTo) (.int iFr) (.long JFi) (.int iFa) (.ref qm3) (.int iSt) iLv iWs vLa (.ref qmu) (.ref qmy) (.ref qmb) (.ref qms) (.int iOm) fMr) L_X6_91 hN hP hD hS hA [0, 4] [false, true, true, true, false, true, true, true, true, true, true, true, true, true, true, true, true, true, true, true, true, true, true, true, true, true, true, true, true, true, true, true] rfl (by decide +kernel) rfl 0 5 rfl rfl rfl ⟨Nat.le_of_ble_eq_true rfl, Nat.le_of_ble_eq_true rfl⟩ hl.1 (Nat.le_of_ble_eq_true rfl) (g_182 (v := 91) bX6_years rfl) ⟨Nat.le_of_ble_eq_true rfl, Nat.le_of_ble_eq_true rfl⟩ (fun r_86 u_88 H locs h_87 => ?_)
    clear hP hD hS
    intro hP hD hS
    obtain ⟨fX_89, hu9, h_87⟩ := h_87
    have hPD := pd_eq [_, _, _, _, _, _, _, _, _, _, _, _, _, _, _, _, _, _, _, _, _, _, _, _, _, _, _, _, _, _, _, zzI cy qmr 8 fX_89] hP hD hu9 rfl
    clear hP hD hu9
    obtain ⟨hP, hD⟩ := hPD
    subst h_87
    exact endWs [[false, false, false, false, false, false, false, false, false, false, false, false, false, false, false, false, false, false, false, false, false, false, false, false, false, false, false, false, false, false, true], [true, true, true, false, false, false, false, false, false, false, false, false, false, false, false, false, false, false, false, false, false, false, false, false, false, false, false, false, false, false, false, true], [false, false, false, true, true, true, true, true, true, true, true, true, true, true, true, true, true, true, true, true, true, true, true, true, true, true, true, true, true, true]] hx hb hr hlocks rfl hP hD rfl (by decide +kernel) hS ⟨iEn, iTk, fX_89, tA, rfl, ⟨hWI, Or.inl ⟨rfl, Or.inl (no_of7 h_3), rfl⟩⟩, trivial⟩ (g_172 bX6_years rfl)
end
section
/-! feed: the bytes as both see them -/
noncomputable def byv (v : Int32) (s : Nat) : Int32 := (v >>> (nI s &&& 31)) &&& 255
theorem by_tab : ∀ j, j < 256 → nrm (nI j).toInt8.toInt32 = nrm (nI j) := by decide +kernel
theorem nrm_byte (x : Int32) : nrm (vp_nar .byte (x.toInt8.toInt32)) = nrm (x &&& 255) := by
  have e1 : vp_nar .byte (x.toInt8.toInt32) = (x.toInt8.toInt32).toInt8.toInt32 := rfl
  have e2 : (x.toInt8.toInt32).toInt8 = x.toInt8 := by simp
  obtain ⟨j, hj, ej⟩ := pk_andE x (m := 255) 8 (by decide +kernel)
  have e3 : x.toInt8 = (x &&& 255).toInt8 := by
    rw [Int32.toInt8_and, show (255 : Int32).toInt8 = -1 by decide +kernel]
    simp
  rw [e1, e2, e3, ej]
  exact by_tab j hj
theorem upd_n {f : Nat → Int32} {k i : Nat} {v : Int32} (h : i ≠ k) : upd f k v i = f i := if_neg h
noncomputable def FDs (f : Nat → Int32) (z : Nat) (v : Int32) (k : Nat) (f' : Nat → Int32) : Prop := ∀ i, i < z + k → nrm (f' i) = if i < z then nrm (f i) else nrm (byv v (8 * (k - 1 - (i - z))))
noncomputable def FD (f : Nat → Int32) (z : Nat) (v n : Int32) (z' : Nat) (f' : Nat → Int32) : Prop := (z' = z ∧ f' = f) ∨ ∃ k, 1 ≤ k ∧ k ≤ 4 ∧ n = nI k ∧ z' = z + k ∧ FDs f z v k f'
theorem fd_s1 {f : Nat → Int32} {z : Nat} {v a : Int32} (ha : nrm a = nrm (byv v 0)) : FDs f z v 1 (upd f z a) := by
  intro i hi
  by_cases c : i < z
  · rw [if_pos c, upd_n (by omega)]
  · have e : i = z := by omega
    subst e
    rw [if_neg c, upd_sJ, ha, show 8 * (1 - 1 - (i - i)) = 0 by omega]
theorem fd_s2 {f : Nat → Int32} {z : Nat} {v a b : Int32} (ha : nrm a = nrm (byv v 8)) (hb : nrm b = nrm (byv v 0)) : FDs f z v 2 (upd (upd f z a) (z + 1) b) := by
  intro i hi
  by_cases c : i < z
  · rw [if_pos c, upd_n (by omega), upd_n (by omega)]
  · rw [if_neg c]
    by_cases e : i = z
    · rw [upd_n (by omega), e, upd_sJ, ha, show 8 * (2 - 1 - (z - z)) = 8 by omega]
    · have e : i = z + 1 := by omega
      rw [e, upd_sJ, hb, show 8 * (2 - 1 - (z + 1 - z)) = 0 by omega]
theorem fd_s3 {f : Nat → Int32} {z : Nat} {v a b d : Int32} (ha : nrm a = nrm (byv v 16)) (hb : nrm b = nrm (byv v 8)) (hd : nrm d = nrm (byv v 0)) : FDs f z v 3 (upd (upd (upd f z a) (z + 1) b) (z + 1 + 1) d) := by
  intro i hi
  by_cases c : i < z
  · rw [if_pos c, upd_n (by omega), upd_n (by omega), upd_n (by omega)]
  · rw [if_neg c]
    by_cases e : i = z
    · rw [upd_n (by omega), upd_n (by omega), e, upd_sJ, ha, show 8 * (3 - 1 - (z - z)) = 16 by omega]
    · by_cases e2 : i = z + 1
      · rw [upd_n (by omega), e2, upd_sJ, hb, show 8 * (3 - 1 - (z + 1 - z)) = 8 by omega]
      · have e3 : i = z + 1 + 1 := by omega
        rw [e3, upd_sJ, hd, show 8 * (3 - 1 - (z + 1 + 1 - z)) = 0 by omega]
theorem fd_s4 {f : Nat → Int32} {z : Nat} {v a b d g : Int32} (ha : nrm a = nrm (byv v 24)) (hb : nrm b = nrm (byv v 16)) (hd : nrm d = nrm (byv v 8)) (hg : nrm g = nrm (byv v 0)) : FDs f z v 4 (upd (upd (upd (upd f z a) (z + 1) b) (z + 1 + 1) d) (z + 1 + 1 + 1) g) := by
  intro i hi
  by_cases c : i < z
  · rw [if_pos c, upd_n (by omega), upd_n (by omega), upd_n (by omega), upd_n (by omega)]
  · rw [if_neg c]
    by_cases e : i = z
    · rw [upd_n (by omega), upd_n (by omega), upd_n (by omega), e, upd_sJ, ha, show 8 * (4 - 1 - (z - z)) = 24 by omega]
    · by_cases e2 : i = z + 1
      · rw [upd_n (by omega), upd_n (by omega), e2, upd_sJ, hb, show 8 * (4 - 1 - (z + 1 - z)) = 16 by omega]
      · by_cases e3 : i = z + 1 + 1
        · rw [upd_n (by omega), e3, upd_sJ, hd, show 8 * (4 - 1 - (z + 1 + 1 - z)) = 8 by omega]
        · have e4 : i = z + 1 + 1 + 1 := by omega
          rw [e4, upd_sJ, hg, show 8 * (4 - 1 - (z + 1 + 1 + 1 - z)) = 0 by omega]
theorem fd_rel {fB fM fB' fM' : Nat → Int32} {z z1 : Nat} {v n : Int32} (h1 : FD fB z v n z1 fB') (h2 : FD fM z v n z1 fM') (h : nbf fB z = nbf fM z) : nbf fB' z1 = nbf fM' z1 := by
  rcases h1 with ⟨e1, rfl⟩ | ⟨k, k1, k2, ek, ez, hs⟩
  · rcases h2 with ⟨_, rfl⟩ | ⟨k, k1, _, _, ez, _⟩
    · rw [e1]; exact h
    · omega
  · rcases h2 with ⟨e2, _⟩ | ⟨m, m1, m2, em, ez2, hs2⟩
    · omega
    · have e : k = m := by omega
      subst e
      rw [ez]
      funext i
      by_cases c : i < z + k
      · rw [nbf_in c, nbf_in c, hs i c, hs2 i c]
        by_cases c2 : i < z
        · have q := congrFun h i
          rw [nbf_in c2, nbf_in c2] at q
          rw [if_pos c2, if_pos c2, q]
        · rw [if_neg c2, if_neg c2]
      · show (if i < z + k then nrm (fB' i) else 128) = if i < z + k then nrm (fM' i) else 128
        rw [if_neg c, if_neg c]
set_option maxHeartbeats 4000000 in
set_option maxRecDepth 100000 in
theorem x_X5_feed (l : Launch) (G : va_G) (cy : Nat → ClassId) (sz : Nat) (qx : Nat) (qt : Nat) (qk : Nat) (qp : Nat) (qs : Nat) (qa : Nat) (qr : Nat) (iKp : Int32) (iYe : Int32) (iTv : Int32) (fR : Nat → Int32) (qab : Nat) (kZ : Nat) (iT1 : Int32) (iT2 : Int32) (iT3 : Int32) (iT4 : Int32) (qd : Nat) (fB : Nat → Int32) (iA : Int32) (iB : Int32)  (hZ : kZ ≤ 250) : MW l yX5_feed cX5_feed 4 (some .int) 12 0 0 G cy [zzO qx 4 [.ref qt, .ref qk, .ref qp, .ref qs, .ref qa, .ref qr, .int iKp, .int iYe, .int iTv], zzI cy qr 5 fR, zzO qa 2 [.ref qab, .int (nI kZ), .int iT1, .int iT2, .int iT3, .int iT4, .ref qd], zzB cy qab 250 fB] sz [.ref qx, .int iA, .int iB] (Wi G (fun r u => ∃ (fX : Nat → Int32) (kY : Nat) (iX4 : Int32) (iX5 : Int32) (iX6 : Int32) (iX7 : Int32) (fV : Nat → Int32), u = [zzO qx 4 [.ref qt, .ref qk, .ref qp, .ref qs, .ref qa, .ref qr, .int iKp, .int iYe, .int iTv], zzI cy qr 5 fX, zzO qa 2 [.ref qab, .int (nI kY), .int iX4, .int iX5, .int iX6, .int iX7, .ref qd], zzB cy qab 250 fV] ∧ (PXfeed kZ iB r kY ∧ FD fB kZ iA iB kY fV) ∧ (True))) := by
  refine enW RX5 (by decide +kernel) rfl (Nat.le_of_ble_eq_true rfl) (fun p e s m below meth c ls A hx hb hml hown hts hr hlocks hP hN hl hin hD hA hS => ?_)
  have hin : meth.name = _ := hin
  have hK := hN.1
  replace hl : lv_has ls 4 [(0, .ref qx), (1, .int iA), (2, .int iB)] := hl
  refine lv_iload_n hx hb (g_28 bX5_feed rfl) rfl (lv_at hl 2 rfl) ?_
  refine lv_i2l (v := iB.toInt64) hx hb (g_133 bX5_feed rfl) rfl ?_
  refine lv_lconst (v := 1) hx hb (g_10 bX5_feed rfl) (by decide +kernel) ?_
  refine lv_ldc2 hx hb hown (hts _ m_t213) (g_20 (v := 48) bX5_feed rfl) ?_
  refine kRi (rS (As := [.long iB.toInt64, .long 1, .long 4]) (rest := []) ⟨hx, hb, hml, hown, hts⟩ (c_X5_within l G cy iB.toInt64 1 4) L_X5_50 (preRS hN hP [] rfl) rfl ⟨Nat.le_of_ble_eq_true rfl, Nat.le_of_ble_eq_true rfl⟩ hl.1 (Nat.le_of_ble_eq_true rfl) (g_184 (v := 50) bX5_feed rfl) ⟨Nat.le_of_ble_eq_true rfl, Nat.le_of_ble_eq_true rfl⟩) (fun r_1 h_2 => ?_)
  rcases h_2 with ⟨rfl, h_3⟩ | ⟨rfl, h_3⟩
  · refine lv_if_ne (tgt := 19) hx hb dX5_feed_9 (by decide +kernel) (fun _ => ?_) (fun h9 => absurd h9 (by decide +kernel))
    rcases in14 h_3 with rfl | rfl | rfl | rfl
    · refine lv_aload_n hx hb (g_42 bX5_feed rfl) rfl (lv_at hl 0 rfl) ?_
      refine va_get (D := G) (ci := 4) (v := .ref qa) (C := RX5) (T := TX5) (N := 9) hx hb hts iX_X5 hown hK hP 0 rfl rfl 4 (by decide +kernel) (hts _ m_t178) (fun _ h9 => h9) rfl (g_180 (v := 36) bX5_feed rfl) ?_
      refine va_getN (D := G) (ci := 2) (v := .int (nI kZ)) (C := RX3) (T := TX3) (N := 7) hx hb hts iX_X3 hown hK hP 2 rfl rfl 1 (by decide +kernel) (va_Nw.use rfl (hN.2.1 (RX5, 148, "EachBookOnce$Tape", "size", "I") (List.mem_of_getElem? (i := 29) rfl))) (fun _ h9 => h9) rfl (g_180 (v := 148) bX5_feed rfl) ?_
      refine lv_sipush (v := 250) hx hb dX5_feed_26 (by decide +kernel) ?_
      refine lv_iload_n hx hb (g_28 bX5_feed rfl) rfl (lv_at hl 2 rfl) ?_
      refine lv_isub hx hb (g_100 bX5_feed rfl) ?_
      refine lv_seti (v := 249) (by decide +kernel) ?_
      refine lv_icmp_le (tgt := 41) hx hb dX5_feed_31 (by decide +kernel) (fun c_5 => ?_) (fun c_5 => ?_)
      · have hfd : kZ + 1 ≤ 250 := fd_yes (k := 1) (by omega) (by omega) c_5
        refine lv_bipush (v := 8) hx hb dX5_feed_41 (by decide +kernel) ?_
        refine lv_iload_n hx hb (g_28 bX5_feed rfl) rfl (lv_at hl 2 rfl) ?_
        refine lv_iconst (v := 1) hx hb (g_4 bX5_feed rfl) (by decide +kernel) ?_
        refine lv_isub hx hb (g_100 bX5_feed rfl) ?_
        refine lv_seti (v := 0) (by decide +kernel) ?_
        refine lv_imul hx hb (g_104 bX5_feed rfl) ?_
        refine lv_seti (v := 0) (by decide +kernel) ?_
        refine lv_istore_n (lv' := [(3, .int 0), (0, .ref qx), (1, .int iA), (2, .int 1)]) hx hb (g_62 bX5_feed rfl) rfl hl (by decide +kernel) rfl (fun ls => ?_)
        clear hl
        intro hl
        refine lv_iload_n hx hb (g_29 bX5_feed rfl) rfl (lv_at hl 0 rfl) ?_
        refine lv_if_lt (tgt := 69) hx hb dX5_feed_49 (by decide +kernel) (fun h9 => absurd h9 (by decide +kernel)) (fun _ => ?_)
        refine lv_aload_n hx hb (g_42 bX5_feed rfl) rfl (lv_at hl 1 rfl) ?_
        refine va_get (D := G) (ci := 4) (v := .ref qa) (C := RX5) (T := TX5) (N := 9) hx hb hts iX_X5 hown hK hP 0 rfl rfl 4 (by decide +kernel) (hts _ m_t178) (fun _ h9 => h9) rfl (g_180 (v := 36) bX5_feed rfl) ?_
        refine lv_iload_n hx hb (g_27 bX5_feed rfl) rfl (lv_at hl 2 rfl) ?_
        refine lv_iload_n hx hb (g_29 bX5_feed rfl) rfl (lv_at hl 0 rfl) ?_
        refine lv_ishr hx hb (g_122 bX5_feed rfl) ?_
        refine lv_i2b (v := (iA >>> (0 &&& 31)).toInt8.toInt32) hx hb (g_145 bX5_feed rfl) rfl ?_
        refine cVv (As := [.int ((iA >>> (0 &&& 31)).toInt8.toInt32)]) (rest := []) (b := qa) (q := (RX3, TX3, 7)) ⟨hx, hb, hml, hown, hts⟩ (c_X3_append l G cy (s.heap).size qa qab kZ (.int iT1) (.int iT2) (.int iT3) (.int iT4) (.ref qd) fB ((iA >>> (0 &&& 31)).toInt8.toInt32) (by omega)) L_X5_150 hN hP hD hS hA [2, 3] [true, true, false, false] rfl (by decide +kernel) rfl 2 2 rfl rfl rfl ⟨Nat.le_of_ble_eq_true rfl, Nat.le_of_ble_eq_true rfl⟩ hl.1 (Nat.le_of_ble_eq_true rfl) (g_182 (v := 150) bX5_feed rfl) ⟨Nat.le_of_ble_eq_true rfl, Nat.le_of_ble_eq_true rfl⟩ (fun u_9 H locs h_8 => ?_)
        clear hP hD hS
        intro hP hD hS
        have hPD := pd_eq [_, _, zzO qa 2 [.ref qab, .int (nI (kZ + 1)), .int iT1, .int iT2, .int iT3, .int iT4, .ref qd], zzB cy qab 250 (upd fB kZ (vp_nar .byte ((iA >>> (0 &&& 31)).toInt8.toInt32)))] hP hD h_8 rfl
        clear hP hD h_8
        obtain ⟨hP, hD⟩ := hPD
        refine lv_iinc (v := (-8)) (lv' := [(3, .int (-8)), (0, .ref qx), (1, .int iA), (2, .int 1)]) hx hb dX5_feed_63 hl (k := 0) rfl (by decide +kernel) (by decide +kernel) rfl (fun ls => ?_)
        clear hl
        intro hl
        refine lv_goto (tgt := 48) hx hb dX5_feed_66 (by decide +kernel) ?_
        refine lv_iload_n hx hb (g_29 bX5_feed rfl) rfl (lv_at hl 0 rfl) ?_
        refine lv_if_lt (tgt := 69) hx hb dX5_feed_49 (by decide +kernel) (fun _ => ?_) (fun h9 => absurd (by decide +kernel) h9)
        refine lv_aload_n hx hb (g_42 bX5_feed rfl) rfl (lv_at hl 1 rfl) ?_
        refine va_get (D := G) (ci := 4) (v := .ref qa) (C := RX5) (T := TX5) (N := 9) hx hb hts iX_X5 hown hK hP 0 rfl rfl 4 (by decide +kernel) (hts _ m_t178) (fun _ h9 => h9) rfl (g_180 (v := 36) bX5_feed rfl) ?_
        refine va_getN (D := G) (ci := 2) (v := .int (nI (kZ + 1))) (C := RX3) (T := TX3) (N := 7) hx hb hts iX_X3 hown hK hP 2 rfl rfl 1 (by decide +kernel) (va_Nw.use rfl (hN.2.1 (RX5, 148, "EachBookOnce$Tape", "size", "I") (List.mem_of_getElem? (i := 29) rfl))) (fun _ h9 => h9) rfl (g_180 (v := 148) bX5_feed rfl) ?_
        exact endWs [[true, true, true, true]] hx hb hr hlocks rfl hP hD rfl (by decide +kernel) hS ⟨fR, (kZ + 1), iT1, iT2, iT3, iT4, upd fB kZ (vp_nar .byte ((iA >>> (0 &&& 31)).toInt8.toInt32)), rfl, ⟨Or.inr ⟨1, by omega, by omega, rfl, Or.inr ⟨rfl, fd_yes (k := 1) (by omega) (by omega) c_5, rfl⟩⟩, Or.inr ⟨1, by omega, by omega, rfl, rfl, fd_s1 (nrm_byte _)⟩⟩, trivial⟩ (g_172 bX5_feed rfl)
      · refine lv_aload_n hx hb (g_42 bX5_feed rfl) rfl (lv_at hl 0 rfl) ?_
        refine lv_bipush (v := (-6)) hx hb dX5_feed_35 (by decide +kernel) ?_
        refine cVi (As := [.int (-6)]) (rest := []) (b := qx) (q := (RX5, TX5, 9)) ⟨hx, hb, hml, hown, hts⟩ (c_X5_refuse6 l G cy (s.heap).size qx qt qk qp qs qa qr iKp iYe iTv fR) L_X5_56 hN hP hD hS hA [0, 1] [false, false, true, true] rfl (by decide +kernel) rfl 0 4 rfl rfl rfl ⟨Nat.le_of_ble_eq_true rfl, Nat.le_of_ble_eq_true rfl⟩ hl.1 (Nat.le_of_ble_eq_true rfl) (g_182 (v := 56) bX5_feed rfl) ⟨Nat.le_of_ble_eq_true rfl, Nat.le_of_ble_eq_true rfl⟩ (fun r_11 u_13 H locs h_12 => ?_)
        clear hP hD hS
        intro hP hD hS
        obtain ⟨fX_14, hu9, h_12⟩ := h_12
        have hPD := pd_eq [_, _, _, zzI cy qr 5 fX_14] hP hD hu9 rfl
        clear hP hD hu9
        obtain ⟨hP, hD⟩ := hPD
        subst h_12
        exact endWs [[false, false, true, true], [true, true]] hx hb hr hlocks rfl hP hD rfl (by decide +kernel) hS ⟨fX_14, kZ, iT1, iT2, iT3, iT4, fB, rfl, ⟨Or.inr ⟨1, by omega, by omega, rfl, Or.inl ⟨rfl, fd_no (k := 1) (by omega) (by omega) c_5, rfl⟩⟩, Or.inl ⟨rfl, rfl⟩⟩, trivial⟩ (g_172 bX5_feed rfl)
    · refine lv_aload_n hx hb (g_42 bX5_feed rfl) rfl (lv_at hl 0 rfl) ?_
      refine va_get (D := G) (ci := 4) (v := .ref qa) (C := RX5) (T := TX5) (N := 9) hx hb hts iX_X5 hown hK hP 0 rfl rfl 4 (by decide +kernel) (hts _ m_t178) (fun _ h9 => h9) rfl (g_180 (v := 36) bX5_feed rfl) ?_
      refine va_getN (D := G) (ci := 2) (v := .int (nI kZ)) (C := RX3) (T := TX3) (N := 7) hx hb hts iX_X3 hown hK hP 2 rfl rfl 1 (by decide +kernel) (va_Nw.use rfl (hN.2.1 (RX5, 148, "EachBookOnce$Tape", "size", "I") (List.mem_of_getElem? (i := 29) rfl))) (fun _ h9 => h9) rfl (g_180 (v := 148) bX5_feed rfl) ?_
      refine lv_sipush (v := 250) hx hb dX5_feed_26 (by decide +kernel) ?_
      refine lv_iload_n hx hb (g_28 bX5_feed rfl) rfl (lv_at hl 2 rfl) ?_
      refine lv_isub hx hb (g_100 bX5_feed rfl) ?_
      refine lv_seti (v := 248) (by decide +kernel) ?_
      refine lv_icmp_le (tgt := 41) hx hb dX5_feed_31 (by decide +kernel) (fun c_15 => ?_) (fun c_15 => ?_)
      · have hfd : kZ + 2 ≤ 250 := fd_yes (k := 2) (by omega) (by omega) c_15
        refine lv_bipush (v := 8) hx hb dX5_feed_41 (by decide +kernel) ?_
        refine lv_iload_n hx hb (g_28 bX5_feed rfl) rfl (lv_at hl 2 rfl) ?_
        refine lv_iconst (v := 1) hx hb (g_4 bX5_feed rfl) (by decide +kernel) ?_
        refine lv_isub hx hb (g_100 bX5_feed rfl) ?_
        refine lv_seti (v := 1) (by decide +kernel) ?_
        refine lv_imul hx hb (g_104 bX5_feed rfl) ?_
        refine lv_seti (v := 8) (by decide +kernel) ?_
        refine lv_istore_n (lv' := [(3, .int 8), (0, .ref qx), (1, .int iA), (2, .int 2)]) hx hb (g_62 bX5_feed rfl) rfl hl (by decide +kernel) rfl (fun ls => ?_)
        clear hl
        intro hl
        refine lv_iload_n hx hb (g_29 bX5_feed rfl) rfl (lv_at hl 0 rfl) ?_
        refine lv_if_lt (tgt := 69) hx hb dX5_feed_49 (by decide +kernel) (fun h9 => absurd h9 (by decide +kernel)) (fun _ => ?_)
        refine lv_aload_n hx hb (g_42 bX5_feed rfl) rfl (lv_at hl 1 rfl) ?_
        refine va_get (D := G) (ci := 4) (v := .ref qa) (C := RX5) (T := TX5) (N := 9) hx hb hts iX_X5 hown hK hP 0 rfl rfl 4 (by decide +kernel) (hts _ m_t178) (fun _ h9 => h9) rfl (g_180 (v := 36) bX5_feed rfl) ?_
        refine lv_iload_n hx hb (g_27 bX5_feed rfl) rfl (lv_at hl 2 rfl) ?_
        refine lv_iload_n hx hb (g_29 bX5_feed rfl) rfl (lv_at hl 0 rfl) ?_
        refine lv_ishr hx hb (g_122 bX5_feed rfl) ?_
        refine lv_i2b (v := (iA >>> (8 &&& 31)).toInt8.toInt32) hx hb (g_145 bX5_feed rfl) rfl ?_
        refine cVv (As := [.int ((iA >>> (8 &&& 31)).toInt8.toInt32)]) (rest := []) (b := qa) (q := (RX3, TX3, 7)) ⟨hx, hb, hml, hown, hts⟩ (c_X3_append l G cy (s.heap).size qa qab kZ (.int iT1) (.int iT2) (.int iT3) (.int iT4) (.ref qd) fB ((iA >>> (8 &&& 31)).toInt8.toInt32) (by omega)) L_X5_150 hN hP hD hS hA [2, 3] [true, true, false, false] rfl (by decide +kernel) rfl 2 2 rfl rfl rfl ⟨Nat.le_of_ble_eq_true rfl, Nat.le_of_ble_eq_true rfl⟩ hl.1 (Nat.le_of_ble_eq_true rfl) (g_182 (v := 150) bX5_feed rfl) ⟨Nat.le_of_ble_eq_true rfl, Nat.le_of_ble_eq_true rfl⟩ (fun u_19 H locs h_18 => ?_)
        clear hP hD hS
        intro hP hD hS
        have hPD := pd_eq [_, _, _, zzB cy qab 250 (upd fB kZ (vp_nar .byte ((iA >>> (8 &&& 31)).toInt8.toInt32)))] hP hD h_18 rfl
        clear hP hD h_18
        obtain ⟨hP, hD⟩ := hPD
        refine lv_iinc (v := 0) (lv' := [(3, .int 0), (0, .ref qx), (1, .int iA), (2, .int 2)]) hx hb dX5_feed_63 hl (k := 0) rfl (by decide +kernel) (by decide +kernel) rfl (fun ls => ?_)
        clear hl
        intro hl
        refine lv_goto (tgt := 48) hx hb dX5_feed_66 (by decide +kernel) ?_
        refine lv_iload_n hx hb (g_29 bX5_feed rfl) rfl (lv_at hl 0 rfl) ?_
        refine lv_if_lt (tgt := 69) hx hb dX5_feed_49 (by decide +kernel) (fun h9 => absurd h9 (by decide +kernel)) (fun _ => ?_)
        refine lv_aload_n hx hb (g_42 bX5_feed rfl) rfl (lv_at hl 1 rfl) ?_
        refine va_get (D := G) (ci := 4) (v := .ref qa) (C := RX5) (T := TX5) (N := 9) hx hb hts iX_X5 hown hK hP 0 rfl rfl 4 (by decide +kernel) (hts _ m_t178) (fun _ h9 => h9) rfl (g_180 (v := 36) bX5_feed rfl) ?_
        refine lv_iload_n hx hb (g_27 bX5_feed rfl) rfl (lv_at hl 2 rfl) ?_
        refine lv_iload_n hx hb (g_29 bX5_feed rfl) rfl (lv_at hl 0 rfl) ?_
        refine lv_ishr hx hb (g_122 bX5_feed rfl) ?_
        refine lv_i2b (v := (iA >>> (0 &&& 31)).toInt8.toInt32) hx hb (g_145 bX5_feed rfl) rfl ?_
        refine cVv (As := [.int ((iA >>> (0 &&& 31)).toInt8.toInt32)]) (rest := []) (b := qa) (q := (RX3, TX3, 7)) ⟨hx, hb, hml, hown, hts⟩ (c_X3_append l G cy (H).size qa qab (kZ + 1) (.int iT1) (.int iT2) (.int iT3) (.int iT4) (.ref qd) (upd fB kZ (vp_nar .byte ((iA >>> (8 &&& 31)).toInt8.toInt32))) ((iA >>> (0 &&& 31)).toInt8.toInt32) (by omega)) L_X5_150 hN hP hD hS hA [2, 3] [true, true, false, false] rfl (by decide +kernel) rfl 2 2 rfl rfl rfl ⟨Nat.le_of_ble_eq_true rfl, Nat.le_of_ble_eq_true rfl⟩ hl.1 (Nat.le_of_ble_eq_true rfl) (g_182 (v := 150) bX5_feed rfl) ⟨Nat.le_of_ble_eq_true rfl, Nat.le_of_ble_eq_true rfl⟩ (fun u_23 H locs h_22 => ?_)
        clear hP hD hS
        intro hP hD hS
        have hPD := pd_eq [_, _, zzO qa 2 [.ref qab, .int (nI ((kZ + 1) + 1)), .int iT1, .int iT2, .int iT3, .int iT4, .ref qd], zzB cy qab 250 (upd (upd fB kZ (vp_nar .byte ((iA >>> (8 &&& 31)).toInt8.toInt32))) (kZ + 1) (vp_nar .byte ((iA >>> (0 &&& 31)).toInt8.toInt32)))] hP hD h_22 rfl
        clear hP hD h_22
        obtain ⟨hP, hD⟩ := hPD
        refine lv_iinc (v := (-8)) (lv' := [(3, .int (-8)), (0, .ref qx), (1, .int iA), (2, .int 2)]) hx hb dX5_feed_63 hl (k := 0) rfl (by decide +kernel) (by decide +kernel) rfl (fun ls => ?_)
        clear hl
        intro hl
        refine lv_goto (tgt := 48) hx hb dX5_feed_66 (by decide +kernel) ?_
        refine lv_iload_n hx hb (g_29 bX5_feed rfl) rfl (lv_at hl 0 rfl) ?_
        refine lv_if_lt (tgt := 69) hx hb dX5_feed_49 (by decide +kernel) (fun _ => ?_) (fun h9 => absurd (by decide +kernel) h9)
        refine lv_aload_n hx hb (g_42 bX5_feed rfl) rfl (lv_at hl 1 rfl) ?_
        refine va_get (D := G) (ci := 4) (v := .ref qa) (C := RX5) (T := TX5) (N := 9) hx hb hts iX_X5 hown hK hP 0 rfl rfl 4 (by decide +kernel) (hts _ m_t178) (fun _ h9 => h9) rfl (g_180 (v := 36) bX5_feed rfl) ?_
        refine va_getN (D := G) (ci := 2) (v := .int (nI ((kZ + 1) + 1))) (C := RX3) (T := TX3) (N := 7) hx hb hts iX_X3 hown hK hP 2 rfl rfl 1 (by decide +kernel) (va_Nw.use rfl (hN.2.1 (RX5, 148, "EachBookOnce$Tape", "size", "I") (List.mem_of_getElem? (i := 29) rfl))) (fun _ h9 => h9) rfl (g_180 (v := 148) bX5_feed rfl) ?_
        exact endWs [[true, true, true, true]] hx hb hr hlocks rfl hP hD rfl (by decide +kernel) hS ⟨fR, ((kZ + 1) + 1), iT1, iT2, iT3, iT4, upd (upd fB kZ (vp_nar .byte ((iA >>> (8 &&& 31)).toInt8.toInt32))) (kZ + 1) (vp_nar .byte ((iA >>> (0 &&& 31)).toInt8.toInt32)), rfl, ⟨Or.inr ⟨2, by omega, by omega, rfl, Or.inr ⟨rfl, fd_yes (k := 2) (by omega) (by omega) c_15, rfl⟩⟩, Or.inr ⟨2, by omega, by omega, rfl, rfl, fd_s2 (nrm_byte _) (nrm_byte _)⟩⟩, trivial⟩ (g_172 bX5_feed rfl)
      · refine lv_aload_n hx hb (g_42 bX5_feed rfl) rfl (lv_at hl 0 rfl) ?_
        refine lv_bipush (v := (-6)) hx hb dX5_feed_35 (by decide +kernel) ?_
        refine cVi (As := [.int (-6)]) (rest := []) (b := qx) (q := (RX5, TX5, 9)) ⟨hx, hb, hml, hown, hts⟩ (c_X5_refuse6 l G cy (s.heap).size qx qt qk qp qs qa qr iKp iYe iTv fR) L_X5_56 hN hP hD hS hA [0, 1] [false, false, true, true] rfl (by decide +kernel) rfl 0 4 rfl rfl rfl ⟨Nat.le_of_ble_eq_true rfl, Nat.le_of_ble_eq_true rfl⟩ hl.1 (Nat.le_of_ble_eq_true rfl) (g_182 (v := 56) bX5_feed rfl) ⟨Nat.le_of_ble_eq_true rfl, Nat.le_of_ble_eq_true rfl⟩ (fun r_25 u_27 H locs h_26 => ?_)
        clear hP hD hS
        intro hP hD hS
        obtain ⟨fX_28, hu9, h_26⟩ := h_26
        have hPD := pd_eq [_, _, _, zzI cy qr 5 fX_28] hP hD hu9 rfl
        clear hP hD hu9
        obtain ⟨hP, hD⟩ := hPD
        subst h_26
        exact endWs [[false, false, true, true], [true, true]] hx hb hr hlocks rfl hP hD rfl (by decide +kernel) hS ⟨fX_28, kZ, iT1, iT2, iT3, iT4, fB, rfl, ⟨Or.inr ⟨2, by omega, by omega, rfl, Or.inl ⟨rfl, fd_no (k := 2) (by omega) (by omega) c_15, rfl⟩⟩, Or.inl ⟨rfl, rfl⟩⟩, trivial⟩ (g_172 bX5_feed rfl)
    · refine lv_aload_n hx hb (g_42 bX5_feed rfl) rfl (lv_at hl 0 rfl) ?_
      refine va_get (D := G) (ci := 4) (v := .ref qa) (C := RX5) (T := TX5) (N := 9) hx hb hts iX_X5 hown hK hP 0 rfl rfl 4 (by decide +kernel) (hts _ m_t178) (fun _ h9 => h9) rfl (g_180 (v := 36) bX5_feed rfl) ?_
      refine va_getN (D := G) (ci := 2) (v := .int (nI kZ)) (C := RX3) (T := TX3) (N := 7) hx hb hts iX_X3 hown hK hP 2 rfl rfl 1 (by decide +kernel) (va_Nw.use rfl (hN.2.1 (RX5, 148, "EachBookOnce$Tape", "size", "I") (List.mem_of_getElem? (i := 29) rfl))) (fun _ h9 => h9) rfl (g_180 (v := 148) bX5_feed rfl) ?_
      refine lv_sipush (v := 250) hx hb dX5_feed_26 (by decide +kernel) ?_
      refine lv_iload_n hx hb (g_28 bX5_feed rfl) rfl (lv_at hl 2 rfl) ?_
      refine lv_isub hx hb (g_100 bX5_feed rfl) ?_
      refine lv_seti (v := 247) (by decide +kernel) ?_
      refine lv_icmp_le (tgt := 41) hx hb dX5_feed_31 (by decide +kernel) (fun c_29 => ?_) (fun c_29 => ?_)
      · have hfd : kZ + 3 ≤ 250 := fd_yes (k := 3) (by omega) (by omega) c_29
        refine lv_bipush (v := 8) hx hb dX5_feed_41 (by decide +kernel) ?_
        refine lv_iload_n hx hb (g_28 bX5_feed rfl) rfl (lv_at hl 2 rfl) ?_
        refine lv_iconst (v := 1) hx hb (g_4 bX5_feed rfl) (by decide +kernel) ?_
        refine lv_isub hx hb (g_100 bX5_feed rfl) ?_
        refine lv_seti (v := 2) (by decide +kernel) ?_
        refine lv_imul hx hb (g_104 bX5_feed rfl) ?_
        refine lv_seti (v := 16) (by decide +kernel) ?_
        refine lv_istore_n (lv' := [(3, .int 16), (0, .ref qx), (1, .int iA), (2, .int 3)]) hx hb (g_62 bX5_feed rfl) rfl hl (by decide +kernel) rfl (fun ls => ?_)
        clear hl
        intro hl
        refine lv_iload_n hx hb (g_29 bX5_feed rfl) rfl (lv_at hl 0 rfl) ?_
        refine lv_if_lt (tgt := 69) hx hb dX5_feed_49 (by decide +kernel) (fun h9 => absurd h9 (by decide +kernel)) (fun _ => ?_)
        refine lv_aload_n hx hb (g_42 bX5_feed rfl) rfl (lv_at hl 1 rfl) ?_
        refine va_get (D := G) (ci := 4) (v := .ref qa) (C := RX5) (T := TX5) (N := 9) hx hb hts iX_X5 hown hK hP 0 rfl rfl 4 (by decide +kernel) (hts _ m_t178) (fun _ h9 => h9) rfl (g_180 (v := 36) bX5_feed rfl) ?_
        refine lv_iload_n hx hb (g_27 bX5_feed rfl) rfl (lv_at hl 2 rfl) ?_
        refine lv_iload_n hx hb (g_29 bX5_feed rfl) rfl (lv_at hl 0 rfl) ?_
        refine lv_ishr hx hb (g_122 bX5_feed rfl) ?_
        refine lv_i2b (v := (iA >>> (16 &&& 31)).toInt8.toInt32) hx hb (g_145 bX5_feed rfl) rfl ?_
        refine cVv (As := [.int ((iA >>> (16 &&& 31)).toInt8.toInt32)]) (rest := []) (b := qa) (q := (RX3, TX3, 7)) ⟨hx, hb, hml, hown, hts⟩ (c_X3_append l G cy (s.heap).size qa qab kZ (.int iT1) (.int iT2) (.int iT3) (.int iT4) (.ref qd) fB ((iA >>> (16 &&& 31)).toInt8.toInt32) (by omega)) L_X5_150 hN hP hD hS hA [2, 3] [true, true, false, false] rfl (by decide +kernel) rfl 2 2 rfl rfl rfl ⟨Nat.le_of_ble_eq_true rfl, Nat.le_of_ble_eq_true rfl⟩ hl.1 (Nat.le_of_ble_eq_true rfl) (g_182 (v := 150) bX5_feed rfl) ⟨Nat.le_of_ble_eq_true rfl, Nat.le_of_ble_eq_true rfl⟩ (fun u_33 H locs h_32 => ?_)
        clear hP hD hS
        intro hP hD hS
        have hPD := pd_eq [_, _, _, zzB cy qab 250 (upd fB kZ (vp_nar .byte ((iA >>> (16 &&& 31)).toInt8.toInt32)))] hP hD h_32 rfl
        clear hP hD h_32
        obtain ⟨hP, hD⟩ := hPD
        refine lv_iinc (v := 8) (lv' := [(3, .int 8), (0, .ref qx), (1, .int iA), (2, .int 3)]) hx hb dX5_feed_63 hl (k := 0) rfl (by decide +kernel) (by decide +kernel) rfl (fun ls => ?_)
        clear hl
        intro hl
        refine lv_goto (tgt := 48) hx hb dX5_feed_66 (by decide +kernel) ?_
        refine lv_iload_n hx hb (g_29 bX5_feed rfl) rfl (lv_at hl 0 rfl) ?_
        refine lv_if_lt (tgt := 69) hx hb dX5_feed_49 (by decide +kernel) (fun h9 => absurd h9 (by decide +kernel)) (fun _ => ?_)
        refine lv_aload_n hx hb (g_42 bX5_feed rfl) rfl (lv_at hl 1 rfl) ?_
        refine va_get (D := G) (ci := 4) (v := .ref qa) (C := RX5) (T := TX5) (N := 9) hx hb hts iX_X5 hown hK hP 0 rfl rfl 4 (by decide +kernel) (hts _ m_t178) (fun _ h9 => h9) rfl (g_180 (v := 36) bX5_feed rfl) ?_
        refine lv_iload_n hx hb (g_27 bX5_feed rfl) rfl (lv_at hl 2 rfl) ?_
        refine lv_iload_n hx hb (g_29 bX5_feed rfl) rfl (lv_at hl 0 rfl) ?_
        refine lv_ishr hx hb (g_122 bX5_feed rfl) ?_
        refine lv_i2b (v := (iA >>> (8 &&& 31)).toInt8.toInt32) hx hb (g_145 bX5_feed rfl) rfl ?_
        refine cVv (As := [.int ((iA >>> (8 &&& 31)).toInt8.toInt32)]) (rest := []) (b := qa) (q := (RX3, TX3, 7)) ⟨hx, hb, hml, hown, hts⟩ (c_X3_append l G cy (H).size qa qab (kZ + 1) (.int iT1) (.int iT2) (.int iT3) (.int iT4) (.ref qd) (upd fB kZ (vp_nar .byte ((iA >>> (16 &&& 31)).toInt8.toInt32))) ((iA >>> (8 &&& 31)).toInt8.toInt32) (by omega)) L_X5_150 hN hP hD hS hA [2, 3] [true, true, false, false] rfl (by decide +kernel) rfl 2 2 rfl rfl rfl ⟨Nat.le_of_ble_eq_true rfl, Nat.le_of_ble_eq_true rfl⟩ hl.1 (Nat.le_of_ble_eq_true rfl) (g_182 (v := 150) bX5_feed rfl) ⟨Nat.le_of_ble_eq_true rfl, Nat.le_of_ble_eq_true rfl⟩ (fun u_37 H locs h_36 => ?_)
        clear hP hD hS
        intro hP hD hS
        have hPD := pd_eq [_, _, _, zzB cy qab 250 (upd (upd fB kZ (vp_nar .byte ((iA >>> (16 &&& 31)).toInt8.toInt32))) (kZ + 1) (vp_nar .byte ((iA >>> (8 &&& 31)).toInt8.toInt32)))] hP hD h_36 rfl
        clear hP hD h_36
        obtain ⟨hP, hD⟩ := hPD
        refine lv_iinc (v := 0) (lv' := [(3, .int 0), (0, .ref qx), (1, .int iA), (2, .int 3)]) hx hb dX5_feed_63 hl (k := 0) rfl (by decide +kernel) (by decide +kernel) rfl (fun ls => ?_)
        clear hl
        intro hl
        refine lv_goto (tgt := 48) hx hb dX5_feed_66 (by decide +kernel) ?_
        refine lv_iload_n hx hb (g_29 bX5_feed rfl) rfl (lv_at hl 0 rfl) ?_
        refine lv_if_lt (tgt := 69) hx hb dX5_feed_49 (by decide +kernel) (fun h9 => absurd h9 (by decide +kernel)) (fun _ => ?_)
        refine lv_aload_n hx hb (g_42 bX5_feed rfl) rfl (lv_at hl 1 rfl) ?_
        refine va_get (D := G) (ci := 4) (v := .ref qa) (C := RX5) (T := TX5) (N := 9) hx hb hts iX_X5 hown hK hP 0 rfl rfl 4 (by decide +kernel) (hts _ m_t178) (fun _ h9 => h9) rfl (g_180 (v := 36) bX5_feed rfl) ?_
        refine lv_iload_n hx hb (g_27 bX5_feed rfl) rfl (lv_at hl 2 rfl) ?_
        refine lv_iload_n hx hb (g_29 bX5_feed rfl) rfl (lv_at hl 0 rfl) ?_
        refine lv_ishr hx hb (g_122 bX5_feed rfl) ?_
        refine lv_i2b (v := (iA >>> (0 &&& 31)).toInt8.toInt32) hx hb (g_145 bX5_feed rfl) rfl ?_
        refine cVv (As := [.int ((iA >>> (0 &&& 31)).toInt8.toInt32)]) (rest := []) (b := qa) (q := (RX3, TX3, 7)) ⟨hx, hb, hml, hown, hts⟩ (c_X3_append l G cy (H).size qa qab ((kZ + 1) + 1) (.int iT1) (.int iT2) (.int iT3) (.int iT4) (.ref qd) (upd (upd fB kZ (vp_nar .byte ((iA >>> (16 &&& 31)).toInt8.toInt32))) (kZ + 1) (vp_nar .byte ((iA >>> (8 &&& 31)).toInt8.toInt32))) ((iA >>> (0 &&& 31)).toInt8.toInt32) (by omega)) L_X5_150 hN hP hD hS hA [2, 3] [true, true, false, false] rfl (by decide +kernel) rfl 2 2 rfl rfl rfl ⟨Nat.le_of_ble_eq_true rfl, Nat.le_of_ble_eq_true rfl⟩ hl.1 (Nat.le_of_ble_eq_true rfl) (g_182 (v := 150) bX5_feed rfl) ⟨Nat.le_of_ble_eq_true rfl, Nat.le_of_ble_eq_true rfl⟩ (fun u_41 H locs h_40 => ?_)
        clear hP hD hS
        intro hP hD hS
        have hPD := pd_eq [_, _, zzO qa 2 [.ref qab, .int (nI (((kZ + 1) + 1) + 1)), .int iT1, .int iT2, .int iT3, .int iT4, .ref qd], zzB cy qab 250 (upd (upd (upd fB kZ (vp_nar .byte ((iA >>> (16 &&& 31)).toInt8.toInt32))) (kZ + 1) (vp_nar .byte ((iA >>> (8 &&& 31)).toInt8.toInt32))) ((kZ + 1) + 1) (vp_nar .byte ((iA >>> (0 &&& 31)).toInt8.toInt32)))] hP hD h_40 rfl
        clear hP hD h_40
        obtain ⟨hP, hD⟩ := hPD
        refine lv_iinc (v := (-8)) (lv' := [(3, .int (-8)), (0, .ref qx), (1, .int iA), (2, .int 3)]) hx hb dX5_feed_63 hl (k := 0) rfl (by decide +kernel) (by decide +kernel) rfl (fun ls => ?_)
        clear hl
        intro hl
        refine lv_goto (tgt := 48) hx hb dX5_feed_66 (by decide +kernel) ?_
        refine lv_iload_n hx hb (g_29 bX5_feed rfl) rfl (lv_at hl 0 rfl) ?_
        refine lv_if_lt (tgt := 69) hx hb dX5_feed_49 (by decide +kernel) (fun _ => ?_) (fun h9 => absurd (by decide +kernel) h9)
        refine lv_aload_n hx hb (g_42 bX5_feed rfl) rfl (lv_at hl 1 rfl) ?_
        refine va_get (D := G) (ci := 4) (v := .ref qa) (C := RX5) (T := TX5) (N := 9) hx hb hts iX_X5 hown hK hP 0 rfl rfl 4 (by decide +kernel) (hts _ m_t178) (fun _ h9 => h9) rfl (g_180 (v := 36) bX5_feed rfl) ?_
        refine va_getN (D := G) (ci := 2) (v := .int (nI (((kZ + 1) + 1) + 1))) (C := RX3) (T := TX3) (N := 7) hx hb hts iX_X3 hown hK hP 2 rfl rfl 1 (by decide +kernel) (va_Nw.use rfl (hN.2.1 (RX5, 148, "EachBookOnce$Tape", "size", "I") (List.mem_of_getElem? (i := 29) rfl))) (fun _ h9 => h9) rfl (g_180 (v := 148) bX5_feed rfl) ?_
        exact endWs [[true, true, true, true]] hx hb hr hlocks rfl hP hD rfl (by decide +kernel) hS ⟨fR, (((kZ + 1) + 1) + 1), iT1, iT2, iT3, iT4, upd (upd (upd fB kZ (vp_nar .byte ((iA >>> (16 &&& 31)).toInt8.toInt32))) (kZ + 1) (vp_nar .byte ((iA >>> (8 &&& 31)).toInt8.toInt32))) ((kZ + 1) + 1) (vp_nar .byte ((iA >>> (0 &&& 31)).toInt8.toInt32)), rfl, ⟨Or.inr ⟨3, by omega, by omega, rfl, Or.inr ⟨rfl, fd_yes (k := 3) (by omega) (by omega) c_29, rfl⟩⟩, Or.inr ⟨3, by omega, by omega, rfl, rfl, fd_s3 (nrm_byte _) (nrm_byte _) (nrm_byte _)⟩⟩, trivial⟩ (g_172 bX5_feed rfl)
      · refine lv_aload_n hx hb (g_42 bX5_feed rfl) rfl (lv_at hl 0 rfl) ?_
        refine lv_bipush (v := (-6)) hx hb dX5_feed_35 (by decide +kernel) ?_
        refine cVi (As := [.int (-6)]) (rest := []) (b := qx) (q := (RX5, TX5, 9)) ⟨hx, hb, hml, hown, hts⟩ (c_X5_refuse6 l G cy (s.heap).size qx qt qk qp qs qa qr iKp iYe iTv fR) L_X5_56 hN hP hD hS hA [0, 1] [false, false, true, true] rfl (by decide +kernel) rfl 0 4 rfl rfl rfl ⟨Nat.le_of_ble_eq_true rfl, Nat.le_of_ble_eq_true rfl⟩ hl.1 (Nat.le_of_ble_eq_true rfl) (g_182 (v := 56) bX5_feed rfl) ⟨Nat.le_of_ble_eq_true rfl, Nat.le_of_ble_eq_true rfl⟩ (fun r_43 u_45 H locs h_44 => ?_)
        clear hP hD hS
        intro hP hD hS
        obtain ⟨fX_46, hu9, h_44⟩ := h_44
        have hPD := pd_eq [_, _, _, zzI cy qr 5 fX_46] hP hD hu9 rfl
        clear hP hD hu9
        obtain ⟨hP, hD⟩ := hPD
        subst h_44
        exact endWs [[false, false, true, true], [true, true]] hx hb hr hlocks rfl hP hD rfl (by decide +kernel) hS ⟨fX_46, kZ, iT1, iT2, iT3, iT4, fB, rfl, ⟨Or.inr ⟨3, by omega, by omega, rfl, Or.inl ⟨rfl, fd_no (k := 3) (by omega) (by omega) c_29, rfl⟩⟩, Or.inl ⟨rfl, rfl⟩⟩, trivial⟩ (g_172 bX5_feed rfl)
    · refine lv_aload_n hx hb (g_42 bX5_feed rfl) rfl (lv_at hl 0 rfl) ?_
      refine va_get (D := G) (ci := 4) (v := .ref qa) (C := RX5) (T := TX5) (N := 9) hx hb hts iX_X5 hown hK hP 0 rfl rfl 4 (by decide +kernel) (hts _ m_t178) (fun _ h9 => h9) rfl (g_180 (v := 36) bX5_feed rfl) ?_
      refine va_getN (D := G) (ci := 2) (v := .int (nI kZ)) (C := RX3) (T := TX3) (N := 7) hx hb hts iX_X3 hown hK hP 2 rfl rfl 1 (by decide +kernel) (va_Nw.use rfl (hN.2.1 (RX5, 148, "EachBookOnce$Tape", "size", "I") (List.mem_of_getElem? (i := 29) rfl))) (fun _ h9 => h9) rfl (g_180 (v := 148) bX5_feed rfl) ?_
      refine lv_sipush (v := 250) hx hb dX5_feed_26 (by decide +kernel) ?_
      refine lv_iload_n hx hb (g_28 bX5_feed rfl) rfl (lv_at hl 2 rfl) ?_
      refine lv_isub hx hb (g_100 bX5_feed rfl) ?_
      refine lv_seti (v := 246) (by decide +kernel) ?_
      refine lv_icmp_le (tgt := 41) hx hb dX5_feed_31 (by decide +kernel) (fun c_47 => ?_) (fun c_47 => ?_)
      · have hfd : kZ + 4 ≤ 250 := fd_yes (k := 4) (by omega) (by omega) c_47
        refine lv_bipush (v := 8) hx hb dX5_feed_41 (by decide +kernel) ?_
        refine lv_iload_n hx hb (g_28 bX5_feed rfl) rfl (lv_at hl 2 rfl) ?_
        refine lv_iconst (v := 1) hx hb (g_4 bX5_feed rfl) (by decide +kernel) ?_
        refine lv_isub hx hb (g_100 bX5_feed rfl) ?_
        refine lv_seti (v := 3) (by decide +kernel) ?_
        refine lv_imul hx hb (g_104 bX5_feed rfl) ?_
        refine lv_seti (v := 24) (by decide +kernel) ?_
        refine lv_istore_n (lv' := [(3, .int 24), (0, .ref qx), (1, .int iA), (2, .int 4)]) hx hb (g_62 bX5_feed rfl) rfl hl (by decide +kernel) rfl (fun ls => ?_)
        clear hl
        intro hl
        refine lv_iload_n hx hb (g_29 bX5_feed rfl) rfl (lv_at hl 0 rfl) ?_
        refine lv_if_lt (tgt := 69) hx hb dX5_feed_49 (by decide +kernel) (fun h9 => absurd h9 (by decide +kernel)) (fun _ => ?_)
        refine lv_aload_n hx hb (g_42 bX5_feed rfl) rfl (lv_at hl 1 rfl) ?_
        refine va_get (D := G) (ci := 4) (v := .ref qa) (C := RX5) (T := TX5) (N := 9) hx hb hts iX_X5 hown hK hP 0 rfl rfl 4 (by decide +kernel) (hts _ m_t178) (fun _ h9 => h9) rfl (g_180 (v := 36) bX5_feed rfl) ?_
        refine lv_iload_n hx hb (g_27 bX5_feed rfl) rfl (lv_at hl 2 rfl) ?_
        refine lv_iload_n hx hb (g_29 bX5_feed rfl) rfl (lv_at hl 0 rfl) ?_
        refine lv_ishr hx hb (g_122 bX5_feed rfl) ?_
        refine lv_i2b (v := (iA >>> (24 &&& 31)).toInt8.toInt32) hx hb (g_145 bX5_feed rfl) rfl ?_
        refine cVv (As := [.int ((iA >>> (24 &&& 31)).toInt8.toInt32)]) (rest := []) (b := qa) (q := (RX3, TX3, 7)) ⟨hx, hb, hml, hown, hts⟩ (c_X3_append l G cy (s.heap).size qa qab kZ (.int iT1) (.int iT2) (.int iT3) (.int iT4) (.ref qd) fB ((iA >>> (24 &&& 31)).toInt8.toInt32) (by omega)) L_X5_150 hN hP hD hS hA [2, 3] [true, true, false, false] rfl (by decide +kernel) rfl 2 2 rfl rfl rfl ⟨Nat.le_of_ble_eq_true rfl, Nat.le_of_ble_eq_true rfl⟩ hl.1 (Nat.le_of_ble_eq_true rfl) (g_182 (v := 150) bX5_feed rfl) ⟨Nat.le_of_ble_eq_true rfl, Nat.le_of_ble_eq_true rfl⟩ (fun u_51 H locs h_50 => ?_)
        clear hP hD hS
        intro hP hD hS
        have hPD := pd_eq [_, _, _, zzB cy qab 250 (upd fB kZ (vp_nar .byte ((iA >>> (24 &&& 31)).toInt8.toInt32)))] hP hD h_50 rfl
        clear hP hD h_50
        obtain ⟨hP, hD⟩ := hPD
        refine lv_iinc (v := 16) (lv' := [(3, .int 16), (0, .ref qx), (1, .int iA), (2, .int 4)]) hx hb dX5_feed_63 hl (k := 0) rfl (by decide +kernel) (by decide +kernel) rfl (fun ls => ?_)
        clear hl
        intro hl
        refine lv_goto (tgt := 48) hx hb dX5_feed_66 (by decide +kernel) ?_
        refine lv_iload_n hx hb (g_29 bX5_feed rfl) rfl (lv_at hl 0 rfl) ?_
        refine lv_if_lt (tgt := 69) hx hb dX5_feed_49 (by decide +kernel) (fun h9 => absurd h9 (by decide +kernel)) (fun _ => ?_)
        refine lv_aload_n hx hb (g_42 bX5_feed rfl) rfl (lv_at hl 1 rfl) ?_
        refine va_get (D := G) (ci := 4) (v := .ref qa) (C := RX5) (T := TX5) (N := 9) hx hb hts iX_X5 hown hK hP 0 rfl rfl 4 (by decide +kernel) (hts _ m_t178) (fun _ h9 => h9) rfl (g_180 (v := 36) bX5_feed rfl) ?_
        refine lv_iload_n hx hb (g_27 bX5_feed rfl) rfl (lv_at hl 2 rfl) ?_
        refine lv_iload_n hx hb (g_29 bX5_feed rfl) rfl (lv_at hl 0 rfl) ?_
        refine lv_ishr hx hb (g_122 bX5_feed rfl) ?_
        refine lv_i2b (v := (iA >>> (16 &&& 31)).toInt8.toInt32) hx hb (g_145 bX5_feed rfl) rfl ?_
        refine cVv (As := [.int ((iA >>> (16 &&& 31)).toInt8.toInt32)]) (rest := []) (b := qa) (q := (RX3, TX3, 7)) ⟨hx, hb, hml, hown, hts⟩ (c_X3_append l G cy (H).size qa qab (kZ + 1) (.int iT1) (.int iT2) (.int iT3) (.int iT4) (.ref qd) (upd fB kZ (vp_nar .byte ((iA >>> (24 &&& 31)).toInt8.toInt32))) ((iA >>> (16 &&& 31)).toInt8.toInt32) (by omega)) L_X5_150 hN hP hD hS hA [2, 3] [true, true, false, false] rfl (by decide +kernel) rfl 2 2 rfl rfl rfl ⟨Nat.le_of_ble_eq_true rfl, Nat.le_of_ble_eq_true rfl⟩ hl.1 (Nat.le_of_ble_eq_true rfl) (g_182 (v := 150) bX5_feed rfl) ⟨Nat.le_of_ble_eq_true rfl, Nat.le_of_ble_eq_true rfl⟩ (fun u_55 H locs h_54 => ?_)
        clear hP hD hS
        intro hP hD hS
        have hPD := pd_eq [_, _, _, zzB cy qab 250 (upd (upd fB kZ (vp_nar .byte ((iA >>> (24 &&& 31)).toInt8.toInt32))) (kZ + 1) (vp_nar .byte ((iA >>> (16 &&& 31)).toInt8.toInt32)))] hP hD h_54 rfl
        clear hP hD h_54
        obtain ⟨hP, hD⟩ := hPD
        refine lv_iinc (v := 8) (lv' := [(3, .int 8), (0, .ref qx), (1, .int iA), (2, .int 4)]) hx hb dX5_feed_63 hl (k := 0) rfl (by decide +kernel) (by decide +kernel) rfl (fun ls => ?_)
        clear hl
        intro hl
        refine lv_goto (tgt := 48) hx hb dX5_feed_66 (by decide +kernel) ?_
        refine lv_iload_n hx hb (g_29 bX5_feed rfl) rfl (lv_at hl 0 rfl) ?_
        refine lv_if_lt (tgt := 69) hx hb dX5_feed_49 (by decide +kernel) (fun h9 => absurd h9 (by decide +kernel)) (fun _ => ?_)
        refine lv_aload_n hx hb (g_42 bX5_feed rfl) rfl (lv_at hl 1 rfl) ?_
        refine va_get (D := G) (ci := 4) (v := .ref qa) (C := RX5) (T := TX5) (N := 9) hx hb hts iX_X5 hown hK hP 0 rfl rfl 4 (by decide +kernel) (hts _ m_t178) (fun _ h9 => h9) rfl (g_180 (v := 36) bX5_feed rfl) ?_
        refine lv_iload_n hx hb (g_27 bX5_feed rfl) rfl (lv_at hl 2 rfl) ?_
        refine lv_iload_n hx hb (g_29 bX5_feed rfl) rfl (lv_at hl 0 rfl) ?_
        refine lv_ishr hx hb (g_122 bX5_feed rfl) ?_
        refine lv_i2b (v := (iA >>> (8 &&& 31)).toInt8.toInt32) hx hb (g_145 bX5_feed rfl) rfl ?_
        refine cVv (As := [.int ((iA >>> (8 &&& 31)).toInt8.toInt32)]) (rest := []) (b := qa) (q := (RX3, TX3, 7)) ⟨hx, hb, hml, hown, hts⟩ (c_X3_append l G cy (H).size qa qab ((kZ + 1) + 1) (.int iT1) (.int iT2) (.int iT3) (.int iT4) (.ref qd) (upd (upd fB kZ (vp_nar .byte ((iA >>> (24 &&& 31)).toInt8.toInt32))) (kZ + 1) (vp_nar .byte ((iA >>> (16 &&& 31)).toInt8.toInt32))) ((iA >>> (8 &&& 31)).toInt8.toInt32) (by omega)) L_X5_150 hN hP hD hS hA [2, 3] [true, true, false, false] rfl (by decide +kernel) rfl 2 2 rfl rfl rfl ⟨Nat.le_of_ble_eq_true rfl, Nat.le_of_ble_eq_true rfl⟩ hl.1 (Nat.le_of_ble_eq_true rfl) (g_182 (v := 150) bX5_feed rfl) ⟨Nat.le_of_ble_eq_true rfl, Nat.le_of_ble_eq_true rfl⟩ (fun u_59 H locs h_58 => ?_)
        clear hP hD hS
        intro hP hD hS
        have hPD := pd_eq [_, _, _, zzB cy qab 250 (upd (upd (upd fB kZ (vp_nar .byte ((iA >>> (24 &&& 31)).toInt8.toInt32))) (kZ + 1) (vp_nar .byte ((iA >>> (16 &&& 31)).toInt8.toInt32))) ((kZ + 1) + 1) (vp_nar .byte ((iA >>> (8 &&& 31)).toInt8.toInt32)))] hP hD h_58 rfl
        clear hP hD h_58
        obtain ⟨hP, hD⟩ := hPD
        refine lv_iinc (v := 0) (lv' := [(3, .int 0), (0, .ref qx), (1, .int iA), (2, .int 4)]) hx hb dX5_feed_63 hl (k := 0) rfl (by decide +kernel) (by decide +kernel) rfl (fun ls => ?_)
        clear hl
        intro hl
        refine lv_goto (tgt := 48) hx hb dX5_feed_66 (by decide +kernel) ?_
        refine lv_iload_n hx hb (g_29 bX5_feed rfl) rfl (lv_at hl 0 rfl) ?_
        refine lv_if_lt (tgt := 69) hx hb dX5_feed_49 (by decide +kernel) (fun h9 => absurd h9 (by decide +kernel)) (fun _ => ?_)
        refine lv_aload_n hx hb (g_42 bX5_feed rfl) rfl (lv_at hl 1 rfl) ?_
        refine va_get (D := G) (ci := 4) (v := .ref qa) (C := RX5) (T := TX5) (N := 9) hx hb hts iX_X5 hown hK hP 0 rfl rfl 4 (by decide +kernel) (hts _ m_t178) (fun _ h9 => h9) rfl (g_180 (v := 36) bX5_feed rfl) ?_
        refine lv_iload_n hx hb (g_27 bX5_feed rfl) rfl (lv_at hl 2 rfl) ?_
        refine lv_iload_n hx hb (g_29 bX5_feed rfl) rfl (lv_at hl 0 rfl) ?_
        refine lv_ishr hx hb (g_122 bX5_feed rfl) ?_
        refine lv_i2b (v := (iA >>> (0 &&& 31)).toInt8.toInt32) hx hb (g_145 bX5_feed rfl) rfl ?_
        refine cVv (As := [.int ((iA >>> (0 &&& 31)).toInt8.toInt32)]) (rest := []) (b := qa) (q := (RX3, TX3, 7)) ⟨hx, hb, hml, hown, hts⟩ (c_X3_append l G cy (H).size qa qab (((kZ + 1) + 1) + 1) (.int iT1) (.int iT2) (.int iT3) (.int iT4) (.ref qd) (upd (upd (upd fB kZ (vp_nar .byte ((iA >>> (24 &&& 31)).toInt8.toInt32))) (kZ + 1) (vp_nar .byte ((iA >>> (16 &&& 31)).toInt8.toInt32))) ((kZ + 1) + 1) (vp_nar .byte ((iA >>> (8 &&& 31)).toInt8.toInt32))) ((iA >>> (0 &&& 31)).toInt8.toInt32) (by omega)) L_X5_150 hN hP hD hS hA [2, 3] [true, true, false, false] rfl (by decide +kernel) rfl 2 2 rfl rfl rfl ⟨Nat.le_of_ble_eq_true rfl, Nat.le_of_ble_eq_true rfl⟩ hl.1 (Nat.le_of_ble_eq_true rfl) (g_182 (v := 150) bX5_feed rfl) ⟨Nat.le_of_ble_eq_true rfl, Nat.le_of_ble_eq_true rfl⟩ (fun u_63 H locs h_62 => ?_)
        clear hP hD hS
        intro hP hD hS
        have hPD := pd_eq [_, _, zzO qa 2 [.ref qab, .int (nI ((((kZ + 1) + 1) + 1) + 1)), .int iT1, .int iT2, .int iT3, .int iT4, .ref qd], zzB cy qab 250 (upd (upd (upd (upd fB kZ (vp_nar .byte ((iA >>> (24 &&& 31)).toInt8.toInt32))) (kZ + 1) (vp_nar .byte ((iA >>> (16 &&& 31)).toInt8.toInt32))) ((kZ + 1) + 1) (vp_nar .byte ((iA >>> (8 &&& 31)).toInt8.toInt32))) (((kZ + 1) + 1) + 1) (vp_nar .byte ((iA >>> (0 &&& 31)).toInt8.toInt32)))] hP hD h_62 rfl
        clear hP hD h_62
        obtain ⟨hP, hD⟩ := hPD
        refine lv_iinc (v := (-8)) (lv' := [(3, .int (-8)), (0, .ref qx), (1, .int iA), (2, .int 4)]) hx hb dX5_feed_63 hl (k := 0) rfl (by decide +kernel) (by decide +kernel) rfl (fun ls => ?_)
        clear hl
        intro hl
        refine lv_goto (tgt := 48) hx hb dX5_feed_66 (by decide +kernel) ?_
        refine lv_iload_n hx hb (g_29 bX5_feed rfl) rfl (lv_at hl 0 rfl) ?_
        refine lv_if_lt (tgt := 69) hx hb dX5_feed_49 (by decide +kernel) (fun _ => ?_) (fun h9 => absurd (by decide +kernel) h9)
        refine lv_aload_n hx hb (g_42 bX5_feed rfl) rfl (lv_at hl 1 rfl) ?_
        refine va_get (D := G) (ci := 4) (v := .ref qa) (C := RX5) (T := TX5) (N := 9) hx hb hts iX_X5 hown hK hP 0 rfl rfl 4 (by decide +kernel) (hts _ m_t178) (fun _ h9 => h9) rfl (g_180 (v := 36) bX5_feed rfl) ?_
        refine va_getN (D := G) (ci := 2) (v := .int (nI ((((kZ + 1) + 1) + 1) + 1))) (C := RX3) (T := TX3) (N := 7) hx hb hts iX_X3 hown hK hP 2 rfl rfl 1 (by decide +kernel) (va_Nw.use rfl (hN.2.1 (RX5, 148, "EachBookOnce$Tape", "size", "I") (List.mem_of_getElem? (i := 29) rfl))) (fun _ h9 => h9) rfl (g_180 (v := 148) bX5_feed rfl) ?_
        exact endWs [[true, true, true, true]] hx hb hr hlocks rfl hP hD rfl (by decide +kernel) hS ⟨fR, ((((kZ + 1) + 1) + 1) + 1), iT1, iT2, iT3, iT4, upd (upd (upd (upd fB kZ (vp_nar .byte ((iA >>> (24 &&& 31)).toInt8.toInt32))) (kZ + 1) (vp_nar .byte ((iA >>> (16 &&& 31)).toInt8.toInt32))) ((kZ + 1) + 1) (vp_nar .byte ((iA >>> (8 &&& 31)).toInt8.toInt32))) (((kZ + 1) + 1) + 1) (vp_nar .byte ((iA >>> (0 &&& 31)).toInt8.toInt32)), rfl, ⟨Or.inr ⟨4, by omega, by omega, rfl, Or.inr ⟨rfl, fd_yes (k := 4) (by omega) (by omega) c_47, rfl⟩⟩, Or.inr ⟨4, by omega, by omega, rfl, rfl, fd_s4 (nrm_byte _) (nrm_byte _) (nrm_byte _) (nrm_byte _)⟩⟩, trivial⟩ (g_172 bX5_feed rfl)
      · refine lv_aload_n hx hb (g_42 bX5_feed rfl) rfl (lv_at hl 0 rfl) ?_
        refine lv_bipush (v := (-6)) hx hb dX5_feed_35 (by decide +kernel) ?_
        refine cVi (As := [.int (-6)]) (rest := []) (b := qx) (q := (RX5, TX5, 9)) ⟨hx, hb, hml, hown, hts⟩ (c_X5_refuse6 l G cy (s.heap).size qx qt qk qp qs qa qr iKp iYe iTv fR) L_X5_56 hN hP hD hS hA [0, 1] [false, false, true, true] rfl (by decide +kernel) rfl 0 4 rfl rfl rfl ⟨Nat.le_of_ble_eq_true rfl, Nat.le_of_ble_eq_true rfl⟩ hl.1 (Nat.le_of_ble_eq_true rfl) (g_182 (v := 56) bX5_feed rfl) ⟨Nat.le_of_ble_eq_true rfl, Nat.le_of_ble_eq_true rfl⟩ (fun r_65 u_67 H locs h_66 => ?_)
        clear hP hD hS
        intro hP hD hS
        obtain ⟨fX_68, hu9, h_66⟩ := h_66
        have hPD := pd_eq [_, _, _, zzI cy qr 5 fX_68] hP hD hu9 rfl
        clear hP hD hu9
        obtain ⟨hP, hD⟩ := hPD
        subst h_66
        exact endWs [[false, false, true, true], [true, true]] hx hb hr hlocks rfl hP hD rfl (by decide +kernel) hS ⟨fX_68, kZ, iT1, iT2, iT3, iT4, fB, rfl, ⟨Or.inr ⟨4, by omega, by omega, rfl, Or.inl ⟨rfl, fd_no (k := 4) (by omega) (by omega) c_47, rfl⟩⟩, Or.inl ⟨rfl, rfl⟩⟩, trivial⟩ (g_172 bX5_feed rfl)
  · refine lv_if_ne (tgt := 19) hx hb dX5_feed_9 (by decide +kernel) (fun h9 => absurd (by decide +kernel) h9) (fun _ => ?_)
    refine lv_aload_n hx hb (g_42 bX5_feed rfl) rfl (lv_at hl 0 rfl) ?_
    refine lv_bipush (v := (-2)) hx hb dX5_feed_13 (by decide +kernel) ?_
    refine cVi (As := [.int (-2)]) (rest := []) (b := qx) (q := (RX5, TX5, 9)) ⟨hx, hb, hml, hown, hts⟩ (c_X5_refuse2 l G cy (s.heap).size qx qt qk qp qs qa qr iKp iYe iTv fR) L_X5_56 hN hP hD hS hA [0, 1] [false, false, true, true] rfl (by decide +kernel) rfl 0 4 rfl rfl rfl ⟨Nat.le_of_ble_eq_true rfl, Nat.le_of_ble_eq_true rfl⟩ hl.1 (Nat.le_of_ble_eq_true rfl) (g_182 (v := 56) bX5_feed rfl) ⟨Nat.le_of_ble_eq_true rfl, Nat.le_of_ble_eq_true rfl⟩ (fun r_70 u_72 H locs h_71 => ?_)
    clear hP hD hS
    intro hP hD hS
    obtain ⟨fX_73, hu9, h_71⟩ := h_71
    have hPD := pd_eq [_, _, _, zzI cy qr 5 fX_73] hP hD hu9 rfl
    clear hP hD hu9
    obtain ⟨hP, hD⟩ := hPD
    subst h_71
    exact endWs [[false, false, true, true], [true, true]] hx hb hr hlocks rfl hP hD rfl (by decide +kernel) hS ⟨fX_73, kZ, iT1, iT2, iT3, iT4, fB, rfl, ⟨Or.inl ⟨rfl, h_3, rfl⟩, Or.inl ⟨rfl, rfl⟩⟩, trivial⟩ (g_172 bX5_feed rfl)
set_option maxHeartbeats 4000000 in
set_option maxRecDepth 100000 in
theorem x_X6_feed (l : Launch) (G : va_G) (cy : Nat → ClassId) (sz : Nat) (qm : Nat) (qmh : Nat) (qmo : Nat) (qmz : Nat) (qmR : Nat) (qmv : Nat) (qmk : Nat) (qma : Nat) (qmt : Nat) (kZ : Nat) (qmr : Nat) (tA : TA) (qmB : Nat) (qmO : Nat) (qmK : Nat) (iEn : Int32) (iTk : Int32) (uP : UM) (uU : UM) (kAt : Nat) (iTo : Int32) (iFr : Int32) (JFi : Int64) (iFa : Int32) (qm3 : Nat) (iSt : Int32) (iLv : Int32) (iWs : Int32) (vLa : Value) (qmu : Nat) (qmy : Nat) (qmb : Nat) (qms : Nat) (iOm : Int32) (fMt : Nat → Int32) (fMr : Nat → Int32) (iA : Int32) (iB : Int32)  (hZ : kZ ≤ 250) : MW l yX6_feed cX6_feed 4 (some .int) 16 0 0 G cy [zzO qm 5 (.ref qmh :: .ref qmo :: .ref qmz :: .ref qmR :: .ref qmv :: .ref qmk :: .ref qma :: .ref qmt :: .int (nI kZ) :: .ref qmr :: .int (nI (T_nb tA)) :: .ref qmB :: .int (nI (T_np tA)) :: .ref qmO :: .ref qmK :: .int iEn :: .int iTk :: .int (T_sd tA) :: ov uP :: ov uU :: .int (nI kAt) :: .int iTo :: .int iFr :: .long JFi :: .int iFa :: .ref qm3 :: .int iSt :: .int iLv :: .int iWs :: vLa :: .ref qmu :: .ref qmy :: .ref qmb :: .ref qms :: .int iOm :: []), zzI cy qmt 250 fMt, zzI cy qmr 8 fMr] sz [.ref qm, .int iA, .int iB] (Wi G (fun r u => ∃ (kNz : Nat) (fNt : Nat → Int32) (fNr : Nat → Int32), u = [zzO qm 5 (.ref qmh :: .ref qmo :: .ref qmz :: .ref qmR :: .ref qmv :: .ref qmk :: .ref qma :: .ref qmt :: .int (nI kNz) :: .ref qmr :: .int (nI (T_nb tA)) :: .ref qmB :: .int (nI (T_np tA)) :: .ref qmO :: .ref qmK :: .int iEn :: .int iTk :: .int (T_sd tA) :: ov uP :: ov uU :: .int (nI kAt) :: .int iTo :: .int iFr :: .long JFi :: .int iFa :: .ref qm3 :: .int iSt :: .int iLv :: .int iWs :: vLa :: .ref qmu :: .ref qmy :: .ref qmb :: .ref qms :: .int iOm :: []), zzI cy qmt 250 fNt, zzI cy qmr 8 fNr] ∧ (PXfeed kZ iB r kNz ∧ FD fMt kZ iA iB kNz fNt) ∧ (True))) := by
  refine enW RX6 (by decide +kernel) rfl (Nat.le_of_ble_eq_true rfl) (fun p e s m below meth c ls A hx hb hml hown hts hr hlocks hP hN hl hin hD hA hS => ?_)
  have hin : meth.name = _ := hin
  have hK := hN.1
  replace hl : lv_has ls 4 [(0, .ref qm), (1, .int iA), (2, .int iB)] := hl
  refine lv_iload_n hx hb (g_28 bX6_feed rfl) rfl (lv_at hl 2 rfl) ?_
  refine lv_i2l (v := iB.toInt64) hx hb (g_133 bX6_feed rfl) rfl ?_
  refine lv_lconst (v := 1) hx hb (g_10 bX6_feed rfl) (by decide +kernel) ?_
  refine lv_ldc2 hx hb hown (hts _ m_t964) (g_20 (v := 87) bX6_feed rfl) ?_
  refine kRi (rS (As := [.long iB.toInt64, .long 1, .long 4]) (rest := []) ⟨hx, hb, hml, hown, hts⟩ (c_X6_in l G cy iB.toInt64 1 4) L_X6_74 (preRS hN hP [] rfl) rfl ⟨Nat.le_of_ble_eq_true rfl, Nat.le_of_ble_eq_true rfl⟩ hl.1 (Nat.le_of_ble_eq_true rfl) (g_184 (v := 74) bX6_feed rfl) ⟨Nat.le_of_ble_eq_true rfl, Nat.le_of_ble_eq_true rfl⟩) (fun r_1 h_2 => ?_)
  rcases h_2 with ⟨rfl, h_3⟩ | ⟨rfl, h_3⟩
  · refine lv_if_ne (tgt := 19) hx hb dX6_feed_9 (by decide +kernel) (fun _ => ?_) (fun h9 => absurd h9 (by decide +kernel))
    rcases in14 h_3 with rfl | rfl | rfl | rfl
    · refine lv_iload_n hx hb (g_28 bX6_feed rfl) rfl (lv_at hl 2 rfl) ?_
      refine lv_sipush (v := 250) hx hb dX6_feed_20 (by decide +kernel) ?_
      refine lv_aload_n hx hb (g_42 bX6_feed rfl) rfl (lv_at hl 0 rfl) ?_
      refine va_get (D := G) (ci := 5) (v := .int (nI kZ)) (C := RX6) (T := TX6) (N := 35) hx hb hts iX_X6 hown hK hP 0 rfl rfl 8 (by decide +kernel) (hts _ m_t858) (fun _ h9 => h9) rfl (g_180 (v := 141) bX6_feed rfl) ?_
      refine lv_isub hx hb (g_100 bX6_feed rfl) ?_
      refine lv_icmp_le (tgt := 38) hx hb dX6_feed_28 (by decide +kernel) (fun c_5 => ?_) (fun c_5 => ?_)
      · have hfd : kZ + 1 ≤ 250 := fm_yes (k := 1) (by omega) (by omega) c_5
        refine lv_iload_n hx hb (g_28 bX6_feed rfl) rfl (lv_at hl 2 rfl) ?_
        refine lv_iconst (v := 1) hx hb (g_4 bX6_feed rfl) (by decide +kernel) ?_
        refine lv_isub hx hb (g_100 bX6_feed rfl) ?_
        refine lv_seti (v := 0) (by decide +kernel) ?_
        refine lv_istore_n (lv' := [(3, .int 0), (0, .ref qm), (1, .int iA), (2, .int 1)]) hx hb (g_62 bX6_feed rfl) rfl hl (by decide +kernel) rfl (fun ls => ?_)
        clear hl
        intro hl
        refine lv_iload_n hx hb (g_29 bX6_feed rfl) rfl (lv_at hl 0 rfl) ?_
        refine lv_if_lt (tgt := 78) hx hb dX6_feed_43 (by decide +kernel) (fun h9 => absurd h9 (by decide +kernel)) (fun _ => ?_)
        refine lv_aload_n hx hb (g_42 bX6_feed rfl) rfl (lv_at hl 1 rfl) ?_
        refine va_get (D := G) (ci := 5) (v := .ref qmt) (C := RX6) (T := TX6) (N := 35) hx hb hts iX_X6 hown hK hP 0 rfl rfl 7 (by decide +kernel) (hts _ m_t857) (fun _ h9 => h9) rfl (g_180 (v := 34) bX6_feed rfl) ?_
        refine lv_aload_n hx hb (g_42 bX6_feed rfl) rfl (lv_at hl 1 rfl) ?_
        refine lv_dup hx hb (g_89 bX6_feed rfl) rfl ?_
        refine va_get (D := G) (ci := 5) (v := .int (nI kZ)) (C := RX6) (T := TX6) (N := 35) hx hb hts iX_X6 hown hK hP 0 rfl rfl 8 (by decide +kernel) (hts _ m_t858) (fun _ h9 => h9) rfl (g_180 (v := 141) bX6_feed rfl) ?_
        refine lv_dup_x1 hx hb (g_90 bX6_feed rfl) rfl rfl ?_
        refine lv_iconst (v := 1) hx hb (g_4 bX6_feed rfl) (by decide +kernel) ?_
        refine lv_iadd hx hb (g_96 bX6_feed rfl) ?_
        refine lv_seti (v := nI (kZ + 1)) (nI_1 _) ?_
        refine va_put (D := G) (ci := 5) (v := .int (nI (kZ + 1))) (ty := .int) (C := RX6) (T := TX6) (N := 35) hx hb hts iX_X6 tyX6 tyX6_ok nmX6 hown hK hP hD hS 0 rfl rfl 8 (by decide +kernel) (hts _ m_t858) (fun _ h9 => h9) rfl (by decide +kernel) rfl rfl (Nat.le_of_ble_eq_true rfl) (g_181 (v := 141) bX6_feed rfl) (fun H locs => ?_)
        clear hP hD hS
        intro hP hD hS
        have hPD := pd_as [zzO qm 5 (.ref qmh :: .ref qmo :: .ref qmz :: .ref qmR :: .ref qmv :: .ref qmk :: .ref qma :: .ref qmt :: .int (nI (kZ + 1)) :: .ref qmr :: .int (nI (T_nb tA)) :: .ref qmB :: .int (nI (T_np tA)) :: .ref qmO :: .ref qmK :: .int iEn :: .int iTk :: .int (T_sd tA) :: ov uP :: ov uU :: .int (nI kAt) :: .int iTo :: .int iFr :: .long JFi :: .int iFa :: .ref qm3 :: .int iSt :: .int iLv :: .int iWs :: vLa :: .ref qmu :: .ref qmy :: .ref qmb :: .ref qms :: .int iOm :: []), _, _] hP hD rfl
        clear hP hD
        obtain ⟨hP, hD⟩ := hPD
        refine lv_iload_n hx hb (g_27 bX6_feed rfl) rfl (lv_at hl 2 rfl) ?_
        refine lv_bipush (v := 8) hx hb dX6_feed_62 (by decide +kernel) ?_
        refine lv_iload_n hx hb (g_29 bX6_feed rfl) rfl (lv_at hl 0 rfl) ?_
        refine lv_imul hx hb (g_104 bX6_feed rfl) ?_
        refine lv_seti (v := 0) (by decide +kernel) ?_
        refine lv_ishr hx hb (g_122 bX6_feed rfl) ?_
        refine lv_sipush (v := 255) hx hb dX6_feed_67 (by decide +kernel) ?_
        refine lv_iand hx hb (g_126 bX6_feed rfl) ?_
        refine va_iast hx hb hK hP hD hS 1 0 rfl rfl (vp_in_nI (by omega) (by omega)) (g_79 bX6_feed rfl) (fun H locs => ?_)
        clear hP hD hS
        intro hP hD hS
        rw [nI_clamp (n := kZ) (by omega)] at hP hD
        have hPD := pd_as [_, zzI cy qmt 250 (upd fMt kZ ((iA >>> (0 &&& 31)) &&& 255)), _] hP hD rfl
        clear hP hD
        obtain ⟨hP, hD⟩ := hPD
        refine lv_iinc (v := (-1)) (lv' := [(3, .int (-1)), (0, .ref qm), (1, .int iA), (2, .int 1)]) hx hb dX6_feed_72 hl (k := 0) rfl (by decide +kernel) (by decide +kernel) rfl (fun ls => ?_)
        clear hl
        intro hl
        refine lv_goto (tgt := 42) hx hb dX6_feed_75 (by decide +kernel) ?_
        refine lv_iload_n hx hb (g_29 bX6_feed rfl) rfl (lv_at hl 0 rfl) ?_
        refine lv_if_lt (tgt := 78) hx hb dX6_feed_43 (by decide +kernel) (fun _ => ?_) (fun h9 => absurd (by decide +kernel) h9)
        refine lv_aload_n hx hb (g_42 bX6_feed rfl) rfl (lv_at hl 1 rfl) ?_
        refine va_get (D := G) (ci := 5) (v := .int (nI (kZ + 1))) (C := RX6) (T := TX6) (N := 35) hx hb hts iX_X6 hown hK hP 0 rfl rfl 8 (by decide +kernel) (hts _ m_t858) (fun _ h9 => h9) rfl (g_180 (v := 141) bX6_feed rfl) ?_
        exact endWs [[true, true, true]] hx hb hr hlocks rfl hP hD rfl (by decide +kernel) hS ⟨(kZ + 1), (upd fMt kZ ((iA >>> (0 &&& 31)) &&& 255)), fMr, rfl, ⟨Or.inr ⟨1, by omega, by omega, rfl, Or.inr ⟨rfl, fm_yes (k := 1) (by omega) (by omega) c_5, rfl⟩⟩, Or.inr ⟨1, by omega, by omega, rfl, rfl, fd_s1 rfl⟩⟩, trivial⟩ (g_172 bX6_feed rfl)
      · refine lv_aload_n hx hb (g_42 bX6_feed rfl) rfl (lv_at hl 0 rfl) ?_
        refine lv_bipush (v := (-6)) hx hb dX6_feed_32 (by decide +kernel) ?_
        refine cVi (As := [.int (-6)]) (rest := []) (b := qm) (q := (RX6, TX6, 35)) ⟨hx, hb, hml, hown, hts⟩ (c_X6_refuse6 l G cy (s.heap).size qm (.ref qmh) (.ref qmo) (.ref qmz) (.ref qmR) (.ref qmv) (.ref qmk) (.ref qma) (.ref qmt) (.int (nI kZ)) qmr tA qmB qmO qmK iEn iTk (ov uP) (ov uU) (.int (nI kAt)) (.int iTo) (.int iFr) (.long JFi) (.int iFa) (.ref qm3) (.int iSt) iLv iWs vLa (.ref qmu) (.ref qmy) (.ref qmb) (.ref qms) (.int iOm) fMr) L_X6_91 hN hP hD hS hA [0, 2] [false, true, false] rfl (by decide +kernel) rfl 0 5 rfl rfl rfl ⟨Nat.le_of_ble_eq_true rfl, Nat.le_of_ble_eq_true rfl⟩ hl.1 (Nat.le_of_ble_eq_true rfl) (g_182 (v := 91) bX6_feed rfl) ⟨Nat.le_of_ble_eq_true rfl, Nat.le_of_ble_eq_true rfl⟩ (fun r_8 u_10 H locs h_9 => ?_)
        clear hP hD hS
        intro hP hD hS
        obtain ⟨fX_11, hu9, h_9⟩ := h_9
        have hPD := pd_eq [_, _, zzI cy qmr 8 fX_11] hP hD hu9 rfl
        clear hP hD hu9
        obtain ⟨hP, hD⟩ := hPD
        subst h_9
        exact endWs [[false, true], [true, false, true]] hx hb hr hlocks rfl hP hD rfl (by decide +kernel) hS ⟨kZ, fMt, fX_11, rfl, ⟨Or.inr ⟨1, by omega, by omega, rfl, Or.inl ⟨rfl, fm_no (k := 1) (by omega) (by omega) c_5, rfl⟩⟩, Or.inl ⟨rfl, rfl⟩⟩, trivial⟩ (g_172 bX6_feed rfl)
    · refine lv_iload_n hx hb (g_28 bX6_feed rfl) rfl (lv_at hl 2 rfl) ?_
      refine lv_sipush (v := 250) hx hb dX6_feed_20 (by decide +kernel) ?_
      refine lv_aload_n hx hb (g_42 bX6_feed rfl) rfl (lv_at hl 0 rfl) ?_
      refine va_get (D := G) (ci := 5) (v := .int (nI kZ)) (C := RX6) (T := TX6) (N := 35) hx hb hts iX_X6 hown hK hP 0 rfl rfl 8 (by decide +kernel) (hts _ m_t858) (fun _ h9 => h9) rfl (g_180 (v := 141) bX6_feed rfl) ?_
      refine lv_isub hx hb (g_100 bX6_feed rfl) ?_
      refine lv_icmp_le (tgt := 38) hx hb dX6_feed_28 (by decide +kernel) (fun c_12 => ?_) (fun c_12 => ?_)
      · have hfd : kZ + 2 ≤ 250 := fm_yes (k := 2) (by omega) (by omega) c_12
        refine lv_iload_n hx hb (g_28 bX6_feed rfl) rfl (lv_at hl 2 rfl) ?_
        refine lv_iconst (v := 1) hx hb (g_4 bX6_feed rfl) (by decide +kernel) ?_
        refine lv_isub hx hb (g_100 bX6_feed rfl) ?_
        refine lv_seti (v := 1) (by decide +kernel) ?_
        refine lv_istore_n (lv' := [(3, .int 1), (0, .ref qm), (1, .int iA), (2, .int 2)]) hx hb (g_62 bX6_feed rfl) rfl hl (by decide +kernel) rfl (fun ls => ?_)
        clear hl
        intro hl
        refine lv_iload_n hx hb (g_29 bX6_feed rfl) rfl (lv_at hl 0 rfl) ?_
        refine lv_if_lt (tgt := 78) hx hb dX6_feed_43 (by decide +kernel) (fun h9 => absurd h9 (by decide +kernel)) (fun _ => ?_)
        refine lv_aload_n hx hb (g_42 bX6_feed rfl) rfl (lv_at hl 1 rfl) ?_
        refine va_get (D := G) (ci := 5) (v := .ref qmt) (C := RX6) (T := TX6) (N := 35) hx hb hts iX_X6 hown hK hP 0 rfl rfl 7 (by decide +kernel) (hts _ m_t857) (fun _ h9 => h9) rfl (g_180 (v := 34) bX6_feed rfl) ?_
        refine lv_aload_n hx hb (g_42 bX6_feed rfl) rfl (lv_at hl 1 rfl) ?_
        refine lv_dup hx hb (g_89 bX6_feed rfl) rfl ?_
        refine va_get (D := G) (ci := 5) (v := .int (nI kZ)) (C := RX6) (T := TX6) (N := 35) hx hb hts iX_X6 hown hK hP 0 rfl rfl 8 (by decide +kernel) (hts _ m_t858) (fun _ h9 => h9) rfl (g_180 (v := 141) bX6_feed rfl) ?_
        refine lv_dup_x1 hx hb (g_90 bX6_feed rfl) rfl rfl ?_
        refine lv_iconst (v := 1) hx hb (g_4 bX6_feed rfl) (by decide +kernel) ?_
        refine lv_iadd hx hb (g_96 bX6_feed rfl) ?_
        refine lv_seti (v := nI (kZ + 1)) (nI_1 _) ?_
        refine va_put (D := G) (ci := 5) (v := .int (nI (kZ + 1))) (ty := .int) (C := RX6) (T := TX6) (N := 35) hx hb hts iX_X6 tyX6 tyX6_ok nmX6 hown hK hP hD hS 0 rfl rfl 8 (by decide +kernel) (hts _ m_t858) (fun _ h9 => h9) rfl (by decide +kernel) rfl rfl (Nat.le_of_ble_eq_true rfl) (g_181 (v := 141) bX6_feed rfl) (fun H locs => ?_)
        clear hP hD hS
        intro hP hD hS
        have hPD := pd_as [_, _, _] hP hD rfl
        clear hP hD
        obtain ⟨hP, hD⟩ := hPD
        refine lv_iload_n hx hb (g_27 bX6_feed rfl) rfl (lv_at hl 2 rfl) ?_
        refine lv_bipush (v := 8) hx hb dX6_feed_62 (by decide +kernel) ?_
        refine lv_iload_n hx hb (g_29 bX6_feed rfl) rfl (lv_at hl 0 rfl) ?_
        refine lv_imul hx hb (g_104 bX6_feed rfl) ?_
        refine lv_seti (v := 8) (by decide +kernel) ?_
        refine lv_ishr hx hb (g_122 bX6_feed rfl) ?_
        refine lv_sipush (v := 255) hx hb dX6_feed_67 (by decide +kernel) ?_
        refine lv_iand hx hb (g_126 bX6_feed rfl) ?_
        refine va_iast hx hb hK hP hD hS 1 0 rfl rfl (vp_in_nI (by omega) (by omega)) (g_79 bX6_feed rfl) (fun H locs => ?_)
        clear hP hD hS
        intro hP hD hS
        rw [nI_clamp (n := kZ) (by omega)] at hP hD
        have hPD := pd_as [_, zzI cy qmt 250 (upd fMt kZ ((iA >>> (8 &&& 31)) &&& 255)), _] hP hD rfl
        clear hP hD
        obtain ⟨hP, hD⟩ := hPD
        refine lv_iinc (v := 0) (lv' := [(3, .int 0), (0, .ref qm), (1, .int iA), (2, .int 2)]) hx hb dX6_feed_72 hl (k := 0) rfl (by decide +kernel) (by decide +kernel) rfl (fun ls => ?_)
        clear hl
        intro hl
        refine lv_goto (tgt := 42) hx hb dX6_feed_75 (by decide +kernel) ?_
        refine lv_iload_n hx hb (g_29 bX6_feed rfl) rfl (lv_at hl 0 rfl) ?_
        refine lv_if_lt (tgt := 78) hx hb dX6_feed_43 (by decide +kernel) (fun h9 => absurd h9 (by decide +kernel)) (fun _ => ?_)
        refine lv_aload_n hx hb (g_42 bX6_feed rfl) rfl (lv_at hl 1 rfl) ?_
        refine va_get (D := G) (ci := 5) (v := .ref qmt) (C := RX6) (T := TX6) (N := 35) hx hb hts iX_X6 hown hK hP 0 rfl rfl 7 (by decide +kernel) (hts _ m_t857) (fun _ h9 => h9) rfl (g_180 (v := 34) bX6_feed rfl) ?_
        refine lv_aload_n hx hb (g_42 bX6_feed rfl) rfl (lv_at hl 1 rfl) ?_
        refine lv_dup hx hb (g_89 bX6_feed rfl) rfl ?_
        refine va_get (D := G) (ci := 5) (v := .int (nI (kZ + 1))) (C := RX6) (T := TX6) (N := 35) hx hb hts iX_X6 hown hK hP 0 rfl rfl 8 (by decide +kernel) (hts _ m_t858) (fun _ h9 => h9) rfl (g_180 (v := 141) bX6_feed rfl) ?_
        refine lv_dup_x1 hx hb (g_90 bX6_feed rfl) rfl rfl ?_
        refine lv_iconst (v := 1) hx hb (g_4 bX6_feed rfl) (by decide +kernel) ?_
        refine lv_iadd hx hb (g_96 bX6_feed rfl) ?_
        refine lv_seti (v := nI ((kZ + 1) + 1)) (nI_1 _) ?_
        refine va_put (D := G) (ci := 5) (v := .int (nI ((kZ + 1) + 1))) (ty := .int) (C := RX6) (T := TX6) (N := 35) hx hb hts iX_X6 tyX6 tyX6_ok nmX6 hown hK hP hD hS 0 rfl rfl 8 (by decide +kernel) (hts _ m_t858) (fun _ h9 => h9) rfl (by decide +kernel) rfl rfl (Nat.le_of_ble_eq_true rfl) (g_181 (v := 141) bX6_feed rfl) (fun H locs => ?_)
        clear hP hD hS
        intro hP hD hS
        have hPD := pd_as [zzO qm 5 (.ref qmh :: .ref qmo :: .ref qmz :: .ref qmR :: .ref qmv :: .ref qmk :: .ref qma :: .ref qmt :: .int (nI ((kZ + 1) + 1)) :: .ref qmr :: .int (nI (T_nb tA)) :: .ref qmB :: .int (nI (T_np tA)) :: .ref qmO :: .ref qmK :: .int iEn :: .int iTk :: .int (T_sd tA) :: ov uP :: ov uU :: .int (nI kAt) :: .int iTo :: .int iFr :: .long JFi :: .int iFa :: .ref qm3 :: .int iSt :: .int iLv :: .int iWs :: vLa :: .ref qmu :: .ref qmy :: .ref qmb :: .ref qms :: .int iOm :: []), _, _] hP hD rfl
        clear hP hD
        obtain ⟨hP, hD⟩ := hPD
        refine lv_iload_n hx hb (g_27 bX6_feed rfl) rfl (lv_at hl 2 rfl) ?_
        refine lv_bipush (v := 8) hx hb dX6_feed_62 (by decide +kernel) ?_
        refine lv_iload_n hx hb (g_29 bX6_feed rfl) rfl (lv_at hl 0 rfl) ?_
        refine lv_imul hx hb (g_104 bX6_feed rfl) ?_
        refine lv_seti (v := 0) (by decide +kernel) ?_
        refine lv_ishr hx hb (g_122 bX6_feed rfl) ?_
        refine lv_sipush (v := 255) hx hb dX6_feed_67 (by decide +kernel) ?_
        refine lv_iand hx hb (g_126 bX6_feed rfl) ?_
        refine va_iast hx hb hK hP hD hS 1 0 rfl rfl (vp_in_nI (by omega) (by omega)) (g_79 bX6_feed rfl) (fun H locs => ?_)
        clear hP hD hS
        intro hP hD hS
        rw [nI_clamp (n := (kZ + 1)) (by omega)] at hP hD
        have hPD := pd_as [_, zzI cy qmt 250 (upd (upd fMt kZ ((iA >>> (8 &&& 31)) &&& 255)) (kZ + 1) ((iA >>> (0 &&& 31)) &&& 255)), _] hP hD rfl
        clear hP hD
        obtain ⟨hP, hD⟩ := hPD
        refine lv_iinc (v := (-1)) (lv' := [(3, .int (-1)), (0, .ref qm), (1, .int iA), (2, .int 2)]) hx hb dX6_feed_72 hl (k := 0) rfl (by decide +kernel) (by decide +kernel) rfl (fun ls => ?_)
        clear hl
        intro hl
        refine lv_goto (tgt := 42) hx hb dX6_feed_75 (by decide +kernel) ?_
        refine lv_iload_n hx hb (g_29 bX6_feed rfl) rfl (lv_at hl 0 rfl) ?_
        refine lv_if_lt (tgt := 78) hx hb dX6_feed_43 (by decide +kernel) (fun _ => ?_) (fun h9 => absurd (by decide +kernel) h9)
        refine lv_aload_n hx hb (g_42 bX6_feed rfl) rfl (lv_at hl 1 rfl) ?_
        refine va_get (D := G) (ci := 5) (v := .int (nI ((kZ + 1) + 1))) (C := RX6) (T := TX6) (N := 35) hx hb hts iX_X6 hown hK hP 0 rfl rfl 8 (by decide +kernel) (hts _ m_t858) (fun _ h9 => h9) rfl (g_180 (v := 141) bX6_feed rfl) ?_
        exact endWs [[true, true, true]] hx hb hr hlocks rfl hP hD rfl (by decide +kernel) hS ⟨((kZ + 1) + 1), (upd (upd fMt kZ ((iA >>> (8 &&& 31)) &&& 255)) (kZ + 1) ((iA >>> (0 &&& 31)) &&& 255)), fMr, rfl, ⟨Or.inr ⟨2, by omega, by omega, rfl, Or.inr ⟨rfl, fm_yes (k := 2) (by omega) (by omega) c_12, rfl⟩⟩, Or.inr ⟨2, by omega, by omega, rfl, rfl, fd_s2 rfl rfl⟩⟩, trivial⟩ (g_172 bX6_feed rfl)
      · refine lv_aload_n hx hb (g_42 bX6_feed rfl) rfl (lv_at hl 0 rfl) ?_
        refine lv_bipush (v := (-6)) hx hb dX6_feed_32 (by decide +kernel) ?_
        refine cVi (As := [.int (-6)]) (rest := []) (b := qm) (q := (RX6, TX6, 35)) ⟨hx, hb, hml, hown, hts⟩ (c_X6_refuse6 l G cy (s.heap).size qm (.ref qmh) (.ref qmo) (.ref qmz) (.ref qmR) (.ref qmv) (.ref qmk) (.ref qma) (.ref qmt) (.int (nI kZ)) qmr tA qmB qmO qmK iEn iTk (ov uP) (ov uU) (.int (nI kAt)) (.int iTo) (.int iFr) (.long JFi) (.int iFa) (.ref qm3) (.int iSt) iLv iWs vLa (.ref qmu) (.ref qmy) (.ref qmb) (.ref qms) (.int iOm) fMr) L_X6_91 hN hP hD hS hA [0, 2] [false, true, false] rfl (by decide +kernel) rfl 0 5 rfl rfl rfl ⟨Nat.le_of_ble_eq_true rfl, Nat.le_of_ble_eq_true rfl⟩ hl.1 (Nat.le_of_ble_eq_true rfl) (g_182 (v := 91) bX6_feed rfl) ⟨Nat.le_of_ble_eq_true rfl, Nat.le_of_ble_eq_true rfl⟩ (fun r_16 u_18 H locs h_17 => ?_)
        clear hP hD hS
        intro hP hD hS
        obtain ⟨fX_19, hu9, h_17⟩ := h_17
        have hPD := pd_eq [_, _, zzI cy qmr 8 fX_19] hP hD hu9 rfl
        clear hP hD hu9
        obtain ⟨hP, hD⟩ := hPD
        subst h_17
        exact endWs [[false, true], [true, false, true]] hx hb hr hlocks rfl hP hD rfl (by decide +kernel) hS ⟨kZ, fMt, fX_19, rfl, ⟨Or.inr ⟨2, by omega, by omega, rfl, Or.inl ⟨rfl, fm_no (k := 2) (by omega) (by omega) c_12, rfl⟩⟩, Or.inl ⟨rfl, rfl⟩⟩, trivial⟩ (g_172 bX6_feed rfl)
    · refine lv_iload_n hx hb (g_28 bX6_feed rfl) rfl (lv_at hl 2 rfl) ?_
      refine lv_sipush (v := 250) hx hb dX6_feed_20 (by decide +kernel) ?_
      refine lv_aload_n hx hb (g_42 bX6_feed rfl) rfl (lv_at hl 0 rfl) ?_
      refine va_get (D := G) (ci := 5) (v := .int (nI kZ)) (C := RX6) (T := TX6) (N := 35) hx hb hts iX_X6 hown hK hP 0 rfl rfl 8 (by decide +kernel) (hts _ m_t858) (fun _ h9 => h9) rfl (g_180 (v := 141) bX6_feed rfl) ?_
      refine lv_isub hx hb (g_100 bX6_feed rfl) ?_
      refine lv_icmp_le (tgt := 38) hx hb dX6_feed_28 (by decide +kernel) (fun c_20 => ?_) (fun c_20 => ?_)
      · have hfd : kZ + 3 ≤ 250 := fm_yes (k := 3) (by omega) (by omega) c_20
        refine lv_iload_n hx hb (g_28 bX6_feed rfl) rfl (lv_at hl 2 rfl) ?_
        refine lv_iconst (v := 1) hx hb (g_4 bX6_feed rfl) (by decide +kernel) ?_
        refine lv_isub hx hb (g_100 bX6_feed rfl) ?_
        refine lv_seti (v := 2) (by decide +kernel) ?_
        refine lv_istore_n (lv' := [(3, .int 2), (0, .ref qm), (1, .int iA), (2, .int 3)]) hx hb (g_62 bX6_feed rfl) rfl hl (by decide +kernel) rfl (fun ls => ?_)
        clear hl
        intro hl
        refine lv_iload_n hx hb (g_29 bX6_feed rfl) rfl (lv_at hl 0 rfl) ?_
        refine lv_if_lt (tgt := 78) hx hb dX6_feed_43 (by decide +kernel) (fun h9 => absurd h9 (by decide +kernel)) (fun _ => ?_)
        refine lv_aload_n hx hb (g_42 bX6_feed rfl) rfl (lv_at hl 1 rfl) ?_
        refine va_get (D := G) (ci := 5) (v := .ref qmt) (C := RX6) (T := TX6) (N := 35) hx hb hts iX_X6 hown hK hP 0 rfl rfl 7 (by decide +kernel) (hts _ m_t857) (fun _ h9 => h9) rfl (g_180 (v := 34) bX6_feed rfl) ?_
        refine lv_aload_n hx hb (g_42 bX6_feed rfl) rfl (lv_at hl 1 rfl) ?_
        refine lv_dup hx hb (g_89 bX6_feed rfl) rfl ?_
        refine va_get (D := G) (ci := 5) (v := .int (nI kZ)) (C := RX6) (T := TX6) (N := 35) hx hb hts iX_X6 hown hK hP 0 rfl rfl 8 (by decide +kernel) (hts _ m_t858) (fun _ h9 => h9) rfl (g_180 (v := 141) bX6_feed rfl) ?_
        refine lv_dup_x1 hx hb (g_90 bX6_feed rfl) rfl rfl ?_
        refine lv_iconst (v := 1) hx hb (g_4 bX6_feed rfl) (by decide +kernel) ?_
        refine lv_iadd hx hb (g_96 bX6_feed rfl) ?_
        refine lv_seti (v := nI (kZ + 1)) (nI_1 _) ?_
        refine va_put (D := G) (ci := 5) (v := .int (nI (kZ + 1))) (ty := .int) (C := RX6) (T := TX6) (N := 35) hx hb hts iX_X6 tyX6 tyX6_ok nmX6 hown hK hP hD hS 0 rfl rfl 8 (by decide +kernel) (hts _ m_t858) (fun _ h9 => h9) rfl (by decide +kernel) rfl rfl (Nat.le_of_ble_eq_true rfl) (g_181 (v := 141) bX6_feed rfl) (fun H locs => ?_)
        clear hP hD hS
        intro hP hD hS
        have hPD := pd_as [_, _, _] hP hD rfl
        clear hP hD
        obtain ⟨hP, hD⟩ := hPD
        refine lv_iload_n hx hb (g_27 bX6_feed rfl) rfl (lv_at hl 2 rfl) ?_
        refine lv_bipush (v := 8) hx hb dX6_feed_62 (by decide +kernel) ?_
        refine lv_iload_n hx hb (g_29 bX6_feed rfl) rfl (lv_at hl 0 rfl) ?_
        refine lv_imul hx hb (g_104 bX6_feed rfl) ?_
        refine lv_seti (v := 16) (by decide +kernel) ?_
        refine lv_ishr hx hb (g_122 bX6_feed rfl) ?_
        refine lv_sipush (v := 255) hx hb dX6_feed_67 (by decide +kernel) ?_
        refine lv_iand hx hb (g_126 bX6_feed rfl) ?_
        refine va_iast hx hb hK hP hD hS 1 0 rfl rfl (vp_in_nI (by omega) (by omega)) (g_79 bX6_feed rfl) (fun H locs => ?_)
        clear hP hD hS
        intro hP hD hS
        rw [nI_clamp (n := kZ) (by omega)] at hP hD
        have hPD := pd_as [_, zzI cy qmt 250 (upd fMt kZ ((iA >>> (16 &&& 31)) &&& 255)), _] hP hD rfl
        clear hP hD
        obtain ⟨hP, hD⟩ := hPD
        refine lv_iinc (v := 1) (lv' := [(3, .int 1), (0, .ref qm), (1, .int iA), (2, .int 3)]) hx hb dX6_feed_72 hl (k := 0) rfl (by decide +kernel) (by decide +kernel) rfl (fun ls => ?_)
        clear hl
        intro hl
        refine lv_goto (tgt := 42) hx hb dX6_feed_75 (by decide +kernel) ?_
        refine lv_iload_n hx hb (g_29 bX6_feed rfl) rfl (lv_at hl 0 rfl) ?_
        refine lv_if_lt (tgt := 78) hx hb dX6_feed_43 (by decide +kernel) (fun h9 => absurd h9 (by decide +kernel)) (fun _ => ?_)
        refine lv_aload_n hx hb (g_42 bX6_feed rfl) rfl (lv_at hl 1 rfl) ?_
        refine va_get (D := G) (ci := 5) (v := .ref qmt) (C := RX6) (T := TX6) (N := 35) hx hb hts iX_X6 hown hK hP 0 rfl rfl 7 (by decide +kernel) (hts _ m_t857) (fun _ h9 => h9) rfl (g_180 (v := 34) bX6_feed rfl) ?_
        refine lv_aload_n hx hb (g_42 bX6_feed rfl) rfl (lv_at hl 1 rfl) ?_
        refine lv_dup hx hb (g_89 bX6_feed rfl) rfl ?_
        refine va_get (D := G) (ci := 5) (v := .int (nI (kZ + 1))) (C := RX6) (T := TX6) (N := 35) hx hb hts iX_X6 hown hK hP 0 rfl rfl 8 (by decide +kernel) (hts _ m_t858) (fun _ h9 => h9) rfl (g_180 (v := 141) bX6_feed rfl) ?_
        refine lv_dup_x1 hx hb (g_90 bX6_feed rfl) rfl rfl ?_
        refine lv_iconst (v := 1) hx hb (g_4 bX6_feed rfl) (by decide +kernel) ?_
        refine lv_iadd hx hb (g_96 bX6_feed rfl) ?_
        refine lv_seti (v := nI ((kZ + 1) + 1)) (nI_1 _) ?_
        refine va_put (D := G) (ci := 5) (v := .int (nI ((kZ + 1) + 1))) (ty := .int) (C := RX6) (T := TX6) (N := 35) hx hb hts iX_X6 tyX6 tyX6_ok nmX6 hown hK hP hD hS 0 rfl rfl 8 (by decide +kernel) (hts _ m_t858) (fun _ h9 => h9) rfl (by decide +kernel) rfl rfl (Nat.le_of_ble_eq_true rfl) (g_181 (v := 141) bX6_feed rfl) (fun H locs => ?_)
        clear hP hD hS
        intro hP hD hS
        have hPD := pd_as [_, _, _] hP hD rfl
        clear hP hD
        obtain ⟨hP, hD⟩ := hPD
        refine lv_iload_n hx hb (g_27 bX6_feed rfl) rfl (lv_at hl 2 rfl) ?_
        refine lv_bipush (v := 8) hx hb dX6_feed_62 (by decide +kernel) ?_
        refine lv_iload_n hx hb (g_29 bX6_feed rfl) rfl (lv_at hl 0 rfl) ?_
        refine lv_imul hx hb (g_104 bX6_feed rfl) ?_
        refine lv_seti (v := 8) (by decide +kernel) ?_
        refine lv_ishr hx hb (g_122 bX6_feed rfl) ?_
        refine lv_sipush (v := 255) hx hb dX6_feed_67 (by decide +kernel) ?_
        refine lv_iand hx hb (g_126 bX6_feed rfl) ?_
        refine va_iast hx hb hK hP hD hS 1 0 rfl rfl (vp_in_nI (by omega) (by omega)) (g_79 bX6_feed rfl) (fun H locs => ?_)
        clear hP hD hS
        intro hP hD hS
        rw [nI_clamp (n := (kZ + 1)) (by omega)] at hP hD
        have hPD := pd_as [_, zzI cy qmt 250 (upd (upd fMt kZ ((iA >>> (16 &&& 31)) &&& 255)) (kZ + 1) ((iA >>> (8 &&& 31)) &&& 255)), _] hP hD rfl
        clear hP hD
        obtain ⟨hP, hD⟩ := hPD
        refine lv_iinc (v := 0) (lv' := [(3, .int 0), (0, .ref qm), (1, .int iA), (2, .int 3)]) hx hb dX6_feed_72 hl (k := 0) rfl (by decide +kernel) (by decide +kernel) rfl (fun ls => ?_)
        clear hl
        intro hl
        refine lv_goto (tgt := 42) hx hb dX6_feed_75 (by decide +kernel) ?_
        refine lv_iload_n hx hb (g_29 bX6_feed rfl) rfl (lv_at hl 0 rfl) ?_
        refine lv_if_lt (tgt := 78) hx hb dX6_feed_43 (by decide +kernel) (fun h9 => absurd h9 (by decide +kernel)) (fun _ => ?_)
        refine lv_aload_n hx hb (g_42 bX6_feed rfl) rfl (lv_at hl 1 rfl) ?_
        refine va_get (D := G) (ci := 5) (v := .ref qmt) (C := RX6) (T := TX6) (N := 35) hx hb hts iX_X6 hown hK hP 0 rfl rfl 7 (by decide +kernel) (hts _ m_t857) (fun _ h9 => h9) rfl (g_180 (v := 34) bX6_feed rfl) ?_
        refine lv_aload_n hx hb (g_42 bX6_feed rfl) rfl (lv_at hl 1 rfl) ?_
        refine lv_dup hx hb (g_89 bX6_feed rfl) rfl ?_
        refine va_get (D := G) (ci := 5) (v := .int (nI ((kZ + 1) + 1))) (C := RX6) (T := TX6) (N := 35) hx hb hts iX_X6 hown hK hP 0 rfl rfl 8 (by decide +kernel) (hts _ m_t858) (fun _ h9 => h9) rfl (g_180 (v := 141) bX6_feed rfl) ?_
        refine lv_dup_x1 hx hb (g_90 bX6_feed rfl) rfl rfl ?_
        refine lv_iconst (v := 1) hx hb (g_4 bX6_feed rfl) (by decide +kernel) ?_
        refine lv_iadd hx hb (g_96 bX6_feed rfl) ?_
        refine lv_seti (v := nI (((kZ + 1) + 1) + 1)) (nI_1 _) ?_
        refine va_put (D := G) (ci := 5) (v := .int (nI (((kZ + 1) + 1) + 1))) (ty := .int) (C := RX6) (T := TX6) (N := 35) hx hb hts iX_X6 tyX6 tyX6_ok nmX6 hown hK hP hD hS 0 rfl rfl 8 (by decide +kernel) (hts _ m_t858) (fun _ h9 => h9) rfl (by decide +kernel) rfl rfl (Nat.le_of_ble_eq_true rfl) (g_181 (v := 141) bX6_feed rfl) (fun H locs => ?_)
        clear hP hD hS
        intro hP hD hS
        have hPD := pd_as [zzO qm 5 (.ref qmh :: .ref qmo :: .ref qmz :: .ref qmR :: .ref qmv :: .ref qmk :: .ref qma :: .ref qmt :: .int (nI (((kZ + 1) + 1) + 1)) :: .ref qmr :: .int (nI (T_nb tA)) :: .ref qmB :: .int (nI (T_np tA)) :: .ref qmO :: .ref qmK :: .int iEn :: .int iTk :: .int (T_sd tA) :: ov uP :: ov uU :: .int (nI kAt) :: .int iTo :: .int iFr :: .long JFi :: .int iFa :: .ref qm3 :: .int iSt :: .int iLv :: .int iWs :: vLa :: .ref qmu :: .ref qmy :: .ref qmb :: .ref qms :: .int iOm :: []), _, _] hP hD rfl
        clear hP hD
        obtain ⟨hP, hD⟩ := hPD
        refine lv_iload_n hx hb (g_27 bX6_feed rfl) rfl (lv_at hl 2 rfl) ?_
        refine lv_bipush (v := 8) hx hb dX6_feed_62 (by decide +kernel) ?_
        refine lv_iload_n hx hb (g_29 bX6_feed rfl) rfl (lv_at hl 0 rfl) ?_
        refine lv_imul hx hb (g_104 bX6_feed rfl) ?_
        refine lv_seti (v := 0) (by decide +kernel) ?_
        refine lv_ishr hx hb (g_122 bX6_feed rfl) ?_
        refine lv_sipush (v := 255) hx hb dX6_feed_67 (by decide +kernel) ?_
        refine lv_iand hx hb (g_126 bX6_feed rfl) ?_
        refine va_iast hx hb hK hP hD hS 1 0 rfl rfl (vp_in_nI (by omega) (by omega)) (g_79 bX6_feed rfl) (fun H locs => ?_)
        clear hP hD hS
        intro hP hD hS
        rw [nI_clamp (n := ((kZ + 1) + 1)) (by omega)] at hP hD
        have hPD := pd_as [_, zzI cy qmt 250 (upd (upd (upd fMt kZ ((iA >>> (16 &&& 31)) &&& 255)) (kZ + 1) ((iA >>> (8 &&& 31)) &&& 255)) ((kZ + 1) + 1) ((iA >>> (0 &&& 31)) &&& 255)), _] hP hD rfl
        clear hP hD
        obtain ⟨hP, hD⟩ := hPD
        refine lv_iinc (v := (-1)) (lv' := [(3, .int (-1)), (0, .ref qm), (1, .int iA), (2, .int 3)]) hx hb dX6_feed_72 hl (k := 0) rfl (by decide +kernel) (by decide +kernel) rfl (fun ls => ?_)
        clear hl
        intro hl
        refine lv_goto (tgt := 42) hx hb dX6_feed_75 (by decide +kernel) ?_
        refine lv_iload_n hx hb (g_29 bX6_feed rfl) rfl (lv_at hl 0 rfl) ?_
        refine lv_if_lt (tgt := 78) hx hb dX6_feed_43 (by decide +kernel) (fun _ => ?_) (fun h9 => absurd (by decide +kernel) h9)
        refine lv_aload_n hx hb (g_42 bX6_feed rfl) rfl (lv_at hl 1 rfl) ?_
        refine va_get (D := G) (ci := 5) (v := .int (nI (((kZ + 1) + 1) + 1))) (C := RX6) (T := TX6) (N := 35) hx hb hts iX_X6 hown hK hP 0 rfl rfl 8 (by decide +kernel) (hts _ m_t858) (fun _ h9 => h9) rfl (g_180 (v := 141) bX6_feed rfl) ?_
        exact endWs [[true, true, true]] hx hb hr hlocks rfl hP hD rfl (by decide +kernel) hS ⟨(((kZ + 1) + 1) + 1), (upd (upd (upd fMt kZ ((iA >>> (16 &&& 31)) &&& 255)) (kZ + 1) ((iA >>> (8 &&& 31)) &&& 255)) ((kZ + 1) + 1) ((iA >>> (0 &&& 31)) &&& 255)), fMr, rfl, ⟨Or.inr ⟨3, by omega, by omega, rfl, Or.inr ⟨rfl, fm_yes (k := 3) (by omega) (by omega) c_20, rfl⟩⟩, Or.inr ⟨3, by omega, by omega, rfl, rfl, fd_s3 rfl rfl rfl⟩⟩, trivial⟩ (g_172 bX6_feed rfl)
      · refine lv_aload_n hx hb (g_42 bX6_feed rfl) rfl (lv_at hl 0 rfl) ?_
        refine lv_bipush (v := (-6)) hx hb dX6_feed_32 (by decide +kernel) ?_
        refine cVi (As := [.int (-6)]) (rest := []) (b := qm) (q := (RX6, TX6, 35)) ⟨hx, hb, hml, hown, hts⟩ (c_X6_refuse6 l G cy (s.heap).size qm (.ref qmh) (.ref qmo) (.ref qmz) (.ref qmR) (.ref qmv) (.ref qmk) (.ref qma) (.ref qmt) (.int (nI kZ)) qmr tA qmB qmO qmK iEn iTk (ov uP) (ov uU) (.int (nI kAt)) (.int iTo) (.int iFr) (.long JFi) (.int iFa) (.ref qm3) (.int iSt) iLv iWs vLa (.ref qmu) (.ref qmy) (.ref qmb) (.ref qms) (.int iOm) fMr) L_X6_91 hN hP hD hS hA [0, 2] [false, true, false] rfl (by decide +kernel) rfl 0 5 rfl rfl rfl ⟨Nat.le_of_ble_eq_true rfl, Nat.le_of_ble_eq_true rfl⟩ hl.1 (Nat.le_of_ble_eq_true rfl) (g_182 (v := 91) bX6_feed rfl) ⟨Nat.le_of_ble_eq_true rfl, Nat.le_of_ble_eq_true rfl⟩ (fun r_25 u_27 H locs h_26 => ?_)
        clear hP hD hS
        intro hP hD hS
        obtain ⟨fX_28, hu9, h_26⟩ := h_26
        have hPD := pd_eq [_, _, zzI cy qmr 8 fX_28] hP hD hu9 rfl
        clear hP hD hu9
        obtain ⟨hP, hD⟩ := hPD
        subst h_26
        exact endWs [[false, true], [true, false, true]] hx hb hr hlocks rfl hP hD rfl (by decide +kernel) hS ⟨kZ, fMt, fX_28, rfl, ⟨Or.inr ⟨3, by omega, by omega, rfl, Or.inl ⟨rfl, fm_no (k := 3) (by omega) (by omega) c_20, rfl⟩⟩, Or.inl ⟨rfl, rfl⟩⟩, trivial⟩ (g_172 bX6_feed rfl)
    · refine lv_iload_n hx hb (g_28 bX6_feed rfl) rfl (lv_at hl 2 rfl) ?_
      refine lv_sipush (v := 250) hx hb dX6_feed_20 (by decide +kernel) ?_
      refine lv_aload_n hx hb (g_42 bX6_feed rfl) rfl (lv_at hl 0 rfl) ?_
      refine va_get (D := G) (ci := 5) (v := .int (nI kZ)) (C := RX6) (T := TX6) (N := 35) hx hb hts iX_X6 hown hK hP 0 rfl rfl 8 (by decide +kernel) (hts _ m_t858) (fun _ h9 => h9) rfl (g_180 (v := 141) bX6_feed rfl) ?_
      refine lv_isub hx hb (g_100 bX6_feed rfl) ?_
      refine lv_icmp_le (tgt := 38) hx hb dX6_feed_28 (by decide +kernel) (fun c_29 => ?_) (fun c_29 => ?_)
      · have hfd : kZ + 4 ≤ 250 := fm_yes (k := 4) (by omega) (by omega) c_29
        refine lv_iload_n hx hb (g_28 bX6_feed rfl) rfl (lv_at hl 2 rfl) ?_
        refine lv_iconst (v := 1) hx hb (g_4 bX6_feed rfl) (by decide +kernel) ?_
        refine lv_isub hx hb (g_100 bX6_feed rfl) ?_
        refine lv_seti (v := 3) (by decide +kernel) ?_
        refine lv_istore_n (lv' := [(3, .int 3), (0, .ref qm), (1, .int iA), (2, .int 4)]) hx hb (g_62 bX6_feed rfl) rfl hl (by decide +kernel) rfl (fun ls => ?_)
        clear hl
        intro hl
        refine lv_iload_n hx hb (g_29 bX6_feed rfl) rfl (lv_at hl 0 rfl) ?_
        refine lv_if_lt (tgt := 78) hx hb dX6_feed_43 (by decide +kernel) (fun h9 => absurd h9 (by decide +kernel)) (fun _ => ?_)
        refine lv_aload_n hx hb (g_42 bX6_feed rfl) rfl (lv_at hl 1 rfl) ?_
        refine va_get (D := G) (ci := 5) (v := .ref qmt) (C := RX6) (T := TX6) (N := 35) hx hb hts iX_X6 hown hK hP 0 rfl rfl 7 (by decide +kernel) (hts _ m_t857) (fun _ h9 => h9) rfl (g_180 (v := 34) bX6_feed rfl) ?_
        refine lv_aload_n hx hb (g_42 bX6_feed rfl) rfl (lv_at hl 1 rfl) ?_
        refine lv_dup hx hb (g_89 bX6_feed rfl) rfl ?_
        refine va_get (D := G) (ci := 5) (v := .int (nI kZ)) (C := RX6) (T := TX6) (N := 35) hx hb hts iX_X6 hown hK hP 0 rfl rfl 8 (by decide +kernel) (hts _ m_t858) (fun _ h9 => h9) rfl (g_180 (v := 141) bX6_feed rfl) ?_
        refine lv_dup_x1 hx hb (g_90 bX6_feed rfl) rfl rfl ?_
        refine lv_iconst (v := 1) hx hb (g_4 bX6_feed rfl) (by decide +kernel) ?_
        refine lv_iadd hx hb (g_96 bX6_feed rfl) ?_
        refine lv_seti (v := nI (kZ + 1)) (nI_1 _) ?_
        refine va_put (D := G) (ci := 5) (v := .int (nI (kZ + 1))) (ty := .int) (C := RX6) (T := TX6) (N := 35) hx hb hts iX_X6 tyX6 tyX6_ok nmX6 hown hK hP hD hS 0 rfl rfl 8 (by decide +kernel) (hts _ m_t858) (fun _ h9 => h9) rfl (by decide +kernel) rfl rfl (Nat.le_of_ble_eq_true rfl) (g_181 (v := 141) bX6_feed rfl) (fun H locs => ?_)
        clear hP hD hS
        intro hP hD hS
        have hPD := pd_as [_, _, _] hP hD rfl
        clear hP hD
        obtain ⟨hP, hD⟩ := hPD
        refine lv_iload_n hx hb (g_27 bX6_feed rfl) rfl (lv_at hl 2 rfl) ?_
        refine lv_bipush (v := 8) hx hb dX6_feed_62 (by decide +kernel) ?_
        refine lv_iload_n hx hb (g_29 bX6_feed rfl) rfl (lv_at hl 0 rfl) ?_
        refine lv_imul hx hb (g_104 bX6_feed rfl) ?_
        refine lv_seti (v := 24) (by decide +kernel) ?_
        refine lv_ishr hx hb (g_122 bX6_feed rfl) ?_
        refine lv_sipush (v := 255) hx hb dX6_feed_67 (by decide +kernel) ?_
        refine lv_iand hx hb (g_126 bX6_feed rfl) ?_
        refine va_iast hx hb hK hP hD hS 1 0 rfl rfl (vp_in_nI (by omega) (by omega)) (g_79 bX6_feed rfl) (fun H locs => ?_)
        clear hP hD hS
        intro hP hD hS
        rw [nI_clamp (n := kZ) (by omega)] at hP hD
        have hPD := pd_as [_, zzI cy qmt 250 (upd fMt kZ ((iA >>> (24 &&& 31)) &&& 255)), _] hP hD rfl
        clear hP hD
        obtain ⟨hP, hD⟩ := hPD
        refine lv_iinc (v := 2) (lv' := [(3, .int 2), (0, .ref qm), (1, .int iA), (2, .int 4)]) hx hb dX6_feed_72 hl (k := 0) rfl (by decide +kernel) (by decide +kernel) rfl (fun ls => ?_)
        clear hl
        intro hl
        refine lv_goto (tgt := 42) hx hb dX6_feed_75 (by decide +kernel) ?_
        refine lv_iload_n hx hb (g_29 bX6_feed rfl) rfl (lv_at hl 0 rfl) ?_
        refine lv_if_lt (tgt := 78) hx hb dX6_feed_43 (by decide +kernel) (fun h9 => absurd h9 (by decide +kernel)) (fun _ => ?_)
        refine lv_aload_n hx hb (g_42 bX6_feed rfl) rfl (lv_at hl 1 rfl) ?_
        refine va_get (D := G) (ci := 5) (v := .ref qmt) (C := RX6) (T := TX6) (N := 35) hx hb hts iX_X6 hown hK hP 0 rfl rfl 7 (by decide +kernel) (hts _ m_t857) (fun _ h9 => h9) rfl (g_180 (v := 34) bX6_feed rfl) ?_
        refine lv_aload_n hx hb (g_42 bX6_feed rfl) rfl (lv_at hl 1 rfl) ?_
        refine lv_dup hx hb (g_89 bX6_feed rfl) rfl ?_
        refine va_get (D := G) (ci := 5) (v := .int (nI (kZ + 1))) (C := RX6) (T := TX6) (N := 35) hx hb hts iX_X6 hown hK hP 0 rfl rfl 8 (by decide +kernel) (hts _ m_t858) (fun _ h9 => h9) rfl (g_180 (v := 141) bX6_feed rfl) ?_
        refine lv_dup_x1 hx hb (g_90 bX6_feed rfl) rfl rfl ?_
        refine lv_iconst (v := 1) hx hb (g_4 bX6_feed rfl) (by decide +kernel) ?_
        refine lv_iadd hx hb (g_96 bX6_feed rfl) ?_
        refine lv_seti (v := nI ((kZ + 1) + 1)) (nI_1 _) ?_
        refine va_put (D := G) (ci := 5) (v := .int (nI ((kZ + 1) + 1))) (ty := .int) (C := RX6) (T := TX6) (N := 35) hx hb hts iX_X6 tyX6 tyX6_ok nmX6 hown hK hP hD hS 0 rfl rfl 8 (by decide +kernel) (hts _ m_t858) (fun _ h9 => h9) rfl (by decide +kernel) rfl rfl (Nat.le_of_ble_eq_true rfl) (g_181 (v := 141) bX6_feed rfl) (fun H locs => ?_)
        clear hP hD hS
        intro hP hD hS
        have hPD := pd_as [_, _, _] hP hD rfl
        clear hP hD
        obtain ⟨hP, hD⟩ := hPD
        refine lv_iload_n hx hb (g_27 bX6_feed rfl) rfl (lv_at hl 2 rfl) ?_
        refine lv_bipush (v := 8) hx hb dX6_feed_62 (by decide +kernel) ?_
        refine lv_iload_n hx hb (g_29 bX6_feed rfl) rfl (lv_at hl 0 rfl) ?_
        refine lv_imul hx hb (g_104 bX6_feed rfl) ?_
        refine lv_seti (v := 16) (by decide +kernel) ?_
        refine lv_ishr hx hb (g_122 bX6_feed rfl) ?_
        refine lv_sipush (v := 255) hx hb dX6_feed_67 (by decide +kernel) ?_
        refine lv_iand hx hb (g_126 bX6_feed rfl) ?_
        refine va_iast hx hb hK hP hD hS 1 0 rfl rfl (vp_in_nI (by omega) (by omega)) (g_79 bX6_feed rfl) (fun H locs => ?_)
        clear hP hD hS
        intro hP hD hS
        rw [nI_clamp (n := (kZ + 1)) (by omega)] at hP hD
        have hPD := pd_as [_, zzI cy qmt 250 (upd (upd fMt kZ ((iA >>> (24 &&& 31)) &&& 255)) (kZ + 1) ((iA >>> (16 &&& 31)) &&& 255)), _] hP hD rfl
        clear hP hD
        obtain ⟨hP, hD⟩ := hPD
        refine lv_iinc (v := 1) (lv' := [(3, .int 1), (0, .ref qm), (1, .int iA), (2, .int 4)]) hx hb dX6_feed_72 hl (k := 0) rfl (by decide +kernel) (by decide +kernel) rfl (fun ls => ?_)
        clear hl
        intro hl
        refine lv_goto (tgt := 42) hx hb dX6_feed_75 (by decide +kernel) ?_
        refine lv_iload_n hx hb (g_29 bX6_feed rfl) rfl (lv_at hl 0 rfl) ?_
        refine lv_if_lt (tgt := 78) hx hb dX6_feed_43 (by decide +kernel) (fun h9 => absurd h9 (by decide +kernel)) (fun _ => ?_)
        refine lv_aload_n hx hb (g_42 bX6_feed rfl) rfl (lv_at hl 1 rfl) ?_
        refine va_get (D := G) (ci := 5) (v := .ref qmt) (C := RX6) (T := TX6) (N := 35) hx hb hts iX_X6 hown hK hP 0 rfl rfl 7 (by decide +kernel) (hts _ m_t857) (fun _ h9 => h9) rfl (g_180 (v := 34) bX6_feed rfl) ?_
        refine lv_aload_n hx hb (g_42 bX6_feed rfl) rfl (lv_at hl 1 rfl) ?_
        refine lv_dup hx hb (g_89 bX6_feed rfl) rfl ?_
        refine va_get (D := G) (ci := 5) (v := .int (nI ((kZ + 1) + 1))) (C := RX6) (T := TX6) (N := 35) hx hb hts iX_X6 hown hK hP 0 rfl rfl 8 (by decide +kernel) (hts _ m_t858) (fun _ h9 => h9) rfl (g_180 (v := 141) bX6_feed rfl) ?_
        refine lv_dup_x1 hx hb (g_90 bX6_feed rfl) rfl rfl ?_
        refine lv_iconst (v := 1) hx hb (g_4 bX6_feed rfl) (by decide +kernel) ?_
        refine lv_iadd hx hb (g_96 bX6_feed rfl) ?_
        refine lv_seti (v := nI (((kZ + 1) + 1) + 1)) (nI_1 _) ?_
        refine va_put (D := G) (ci := 5) (v := .int (nI (((kZ + 1) + 1) + 1))) (ty := .int) (C := RX6) (T := TX6) (N := 35) hx hb hts iX_X6 tyX6 tyX6_ok nmX6 hown hK hP hD hS 0 rfl rfl 8 (by decide +kernel) (hts _ m_t858) (fun _ h9 => h9) rfl (by decide +kernel) rfl rfl (Nat.le_of_ble_eq_true rfl) (g_181 (v := 141) bX6_feed rfl) (fun H locs => ?_)
        clear hP hD hS
        intro hP hD hS
        have hPD := pd_as [_, _, _] hP hD rfl
        clear hP hD
        obtain ⟨hP, hD⟩ := hPD
        refine lv_iload_n hx hb (g_27 bX6_feed rfl) rfl (lv_at hl 2 rfl) ?_
        refine lv_bipush (v := 8) hx hb dX6_feed_62 (by decide +kernel) ?_
        refine lv_iload_n hx hb (g_29 bX6_feed rfl) rfl (lv_at hl 0 rfl) ?_
        refine lv_imul hx hb (g_104 bX6_feed rfl) ?_
        refine lv_seti (v := 8) (by decide +kernel) ?_
        refine lv_ishr hx hb (g_122 bX6_feed rfl) ?_
        refine lv_sipush (v := 255) hx hb dX6_feed_67 (by decide +kernel) ?_
        refine lv_iand hx hb (g_126 bX6_feed rfl) ?_
        refine va_iast hx hb hK hP hD hS 1 0 rfl rfl (vp_in_nI (by omega) (by omega)) (g_79 bX6_feed rfl) (fun H locs => ?_)
        clear hP hD hS
        intro hP hD hS
        rw [nI_clamp (n := ((kZ + 1) + 1)) (by omega)] at hP hD
        have hPD := pd_as [_, zzI cy qmt 250 (upd (upd (upd fMt kZ ((iA >>> (24 &&& 31)) &&& 255)) (kZ + 1) ((iA >>> (16 &&& 31)) &&& 255)) ((kZ + 1) + 1) ((iA >>> (8 &&& 31)) &&& 255)), _] hP hD rfl
        clear hP hD
        obtain ⟨hP, hD⟩ := hPD
        refine lv_iinc (v := 0) (lv' := [(3, .int 0), (0, .ref qm), (1, .int iA), (2, .int 4)]) hx hb dX6_feed_72 hl (k := 0) rfl (by decide +kernel) (by decide +kernel) rfl (fun ls => ?_)
        clear hl
        intro hl
        refine lv_goto (tgt := 42) hx hb dX6_feed_75 (by decide +kernel) ?_
        refine lv_iload_n hx hb (g_29 bX6_feed rfl) rfl (lv_at hl 0 rfl) ?_
        refine lv_if_lt (tgt := 78) hx hb dX6_feed_43 (by decide +kernel) (fun h9 => absurd h9 (by decide +kernel)) (fun _ => ?_)
        refine lv_aload_n hx hb (g_42 bX6_feed rfl) rfl (lv_at hl 1 rfl) ?_
        refine va_get (D := G) (ci := 5) (v := .ref qmt) (C := RX6) (T := TX6) (N := 35) hx hb hts iX_X6 hown hK hP 0 rfl rfl 7 (by decide +kernel) (hts _ m_t857) (fun _ h9 => h9) rfl (g_180 (v := 34) bX6_feed rfl) ?_
        refine lv_aload_n hx hb (g_42 bX6_feed rfl) rfl (lv_at hl 1 rfl) ?_
        refine lv_dup hx hb (g_89 bX6_feed rfl) rfl ?_
        refine va_get (D := G) (ci := 5) (v := .int (nI (((kZ + 1) + 1) + 1))) (C := RX6) (T := TX6) (N := 35) hx hb hts iX_X6 hown hK hP 0 rfl rfl 8 (by decide +kernel) (hts _ m_t858) (fun _ h9 => h9) rfl (g_180 (v := 141) bX6_feed rfl) ?_
        refine lv_dup_x1 hx hb (g_90 bX6_feed rfl) rfl rfl ?_
        refine lv_iconst (v := 1) hx hb (g_4 bX6_feed rfl) (by decide +kernel) ?_
        refine lv_iadd hx hb (g_96 bX6_feed rfl) ?_
        refine lv_seti (v := nI ((((kZ + 1) + 1) + 1) + 1)) (nI_1 _) ?_
        refine va_put (D := G) (ci := 5) (v := .int (nI ((((kZ + 1) + 1) + 1) + 1))) (ty := .int) (C := RX6) (T := TX6) (N := 35) hx hb hts iX_X6 tyX6 tyX6_ok nmX6 hown hK hP hD hS 0 rfl rfl 8 (by decide +kernel) (hts _ m_t858) (fun _ h9 => h9) rfl (by decide +kernel) rfl rfl (Nat.le_of_ble_eq_true rfl) (g_181 (v := 141) bX6_feed rfl) (fun H locs => ?_)
        clear hP hD hS
        intro hP hD hS
        have hPD := pd_as [zzO qm 5 (.ref qmh :: .ref qmo :: .ref qmz :: .ref qmR :: .ref qmv :: .ref qmk :: .ref qma :: .ref qmt :: .int (nI ((((kZ + 1) + 1) + 1) + 1)) :: .ref qmr :: .int (nI (T_nb tA)) :: .ref qmB :: .int (nI (T_np tA)) :: .ref qmO :: .ref qmK :: .int iEn :: .int iTk :: .int (T_sd tA) :: ov uP :: ov uU :: .int (nI kAt) :: .int iTo :: .int iFr :: .long JFi :: .int iFa :: .ref qm3 :: .int iSt :: .int iLv :: .int iWs :: vLa :: .ref qmu :: .ref qmy :: .ref qmb :: .ref qms :: .int iOm :: []), _, _] hP hD rfl
        clear hP hD
        obtain ⟨hP, hD⟩ := hPD
        refine lv_iload_n hx hb (g_27 bX6_feed rfl) rfl (lv_at hl 2 rfl) ?_
        refine lv_bipush (v := 8) hx hb dX6_feed_62 (by decide +kernel) ?_
        refine lv_iload_n hx hb (g_29 bX6_feed rfl) rfl (lv_at hl 0 rfl) ?_
        refine lv_imul hx hb (g_104 bX6_feed rfl) ?_
        refine lv_seti (v := 0) (by decide +kernel) ?_
        refine lv_ishr hx hb (g_122 bX6_feed rfl) ?_
        refine lv_sipush (v := 255) hx hb dX6_feed_67 (by decide +kernel) ?_
        refine lv_iand hx hb (g_126 bX6_feed rfl) ?_
        refine va_iast hx hb hK hP hD hS 1 0 rfl rfl (vp_in_nI (by omega) (by omega)) (g_79 bX6_feed rfl) (fun H locs => ?_)
        clear hP hD hS
        intro hP hD hS
        rw [nI_clamp (n := (((kZ + 1) + 1) + 1)) (by omega)] at hP hD
        have hPD := pd_as [_, zzI cy qmt 250 (upd (upd (upd (upd fMt kZ ((iA >>> (24 &&& 31)) &&& 255)) (kZ + 1) ((iA >>> (16 &&& 31)) &&& 255)) ((kZ + 1) + 1) ((iA >>> (8 &&& 31)) &&& 255)) (((kZ + 1) + 1) + 1) ((iA >>> (0 &&& 31)) &&& 255)), _] hP hD rfl
        clear hP hD
        obtain ⟨hP, hD⟩ := hPD
        refine lv_iinc (v := (-1)) (lv' := [(3, .int (-1)), (0, .ref qm), (1, .int iA), (2, .int 4)]) hx hb dX6_feed_72 hl (k := 0) rfl (by decide +kernel) (by decide +kernel) rfl (fun ls => ?_)
        clear hl
        intro hl
        refine lv_goto (tgt := 42) hx hb dX6_feed_75 (by decide +kernel) ?_
        refine lv_iload_n hx hb (g_29 bX6_feed rfl) rfl (lv_at hl 0 rfl) ?_
        refine lv_if_lt (tgt := 78) hx hb dX6_feed_43 (by decide +kernel) (fun _ => ?_) (fun h9 => absurd (by decide +kernel) h9)
        refine lv_aload_n hx hb (g_42 bX6_feed rfl) rfl (lv_at hl 1 rfl) ?_
        refine va_get (D := G) (ci := 5) (v := .int (nI ((((kZ + 1) + 1) + 1) + 1))) (C := RX6) (T := TX6) (N := 35) hx hb hts iX_X6 hown hK hP 0 rfl rfl 8 (by decide +kernel) (hts _ m_t858) (fun _ h9 => h9) rfl (g_180 (v := 141) bX6_feed rfl) ?_
        exact endWs [[true, true, true]] hx hb hr hlocks rfl hP hD rfl (by decide +kernel) hS ⟨((((kZ + 1) + 1) + 1) + 1), (upd (upd (upd (upd fMt kZ ((iA >>> (24 &&& 31)) &&& 255)) (kZ + 1) ((iA >>> (16 &&& 31)) &&& 255)) ((kZ + 1) + 1) ((iA >>> (8 &&& 31)) &&& 255)) (((kZ + 1) + 1) + 1) ((iA >>> (0 &&& 31)) &&& 255)), fMr, rfl, ⟨Or.inr ⟨4, by omega, by omega, rfl, Or.inr ⟨rfl, fm_yes (k := 4) (by omega) (by omega) c_29, rfl⟩⟩, Or.inr ⟨4, by omega, by omega, rfl, rfl, fd_s4 rfl rfl rfl rfl⟩⟩, trivial⟩ (g_172 bX6_feed rfl)
      · refine lv_aload_n hx hb (g_42 bX6_feed rfl) rfl (lv_at hl 0 rfl) ?_
        refine lv_bipush (v := (-6)) hx hb dX6_feed_32 (by decide +kernel) ?_
        refine cVi (As := [.int (-6)]) (rest := []) (b := qm) (q := (RX6, TX6, 35)) ⟨hx, hb, hml, hown, hts⟩ (c_X6_refuse6 l G cy (s.heap).size qm (.ref qmh) (.ref qmo) (.ref qmz) (.ref qmR) (.ref qmv) (.ref qmk) (.ref qma) (.ref qmt) (.int (nI kZ)) qmr tA qmB qmO qmK iEn iTk (ov uP) (ov uU) (.int (nI kAt)) (.int iTo) (.int iFr) (.long JFi) (.int iFa) (.ref qm3) (.int iSt) iLv iWs vLa (.ref qmu) (.ref qmy) (.ref qmb) (.ref qms) (.int iOm) fMr) L_X6_91 hN hP hD hS hA [0, 2] [false, true, false] rfl (by decide +kernel) rfl 0 5 rfl rfl rfl ⟨Nat.le_of_ble_eq_true rfl, Nat.le_of_ble_eq_true rfl⟩ hl.1 (Nat.le_of_ble_eq_true rfl) (g_182 (v := 91) bX6_feed rfl) ⟨Nat.le_of_ble_eq_true rfl, Nat.le_of_ble_eq_true rfl⟩ (fun r_35 u_37 H locs h_36 => ?_)
        clear hP hD hS
        intro hP hD hS
        obtain ⟨fX_38, hu9, h_36⟩ := h_36
        have hPD := pd_eq [_, _, zzI cy qmr 8 fX_38] hP hD hu9 rfl
        clear hP hD hu9
        obtain ⟨hP, hD⟩ := hPD
        subst h_36
        exact endWs [[false, true], [true, false, true]] hx hb hr hlocks rfl hP hD rfl (by decide +kernel) hS ⟨kZ, fMt, fX_38, rfl, ⟨Or.inr ⟨4, by omega, by omega, rfl, Or.inl ⟨rfl, fm_no (k := 4) (by omega) (by omega) c_29, rfl⟩⟩, Or.inl ⟨rfl, rfl⟩⟩, trivial⟩ (g_172 bX6_feed rfl)
  · refine lv_if_ne (tgt := 19) hx hb dX6_feed_9 (by decide +kernel) (fun h9 => absurd (by decide +kernel) h9) (fun _ => ?_)
    refine lv_aload_n hx hb (g_42 bX6_feed rfl) rfl (lv_at hl 0 rfl) ?_
    refine lv_bipush (v := (-2)) hx hb dX6_feed_13 (by decide +kernel) ?_
    refine cVi (As := [.int (-2)]) (rest := []) (b := qm) (q := (RX6, TX6, 35)) ⟨hx, hb, hml, hown, hts⟩ (c_X6_refuse2 l G cy (s.heap).size qm (.ref qmh) (.ref qmo) (.ref qmz) (.ref qmR) (.ref qmv) (.ref qmk) (.ref qma) (.ref qmt) (.int (nI kZ)) qmr tA qmB qmO qmK iEn iTk (ov uP) (ov uU) (.int (nI kAt)) (.int iTo) (.int iFr) (.long JFi) (.int iFa) (.ref qm3) (.int iSt) iLv iWs vLa (.ref qmu) (.ref qmy) (.ref qmb) (.ref qms) (.int iOm) fMr) L_X6_91 hN hP hD hS hA [0, 2] [false, true, false] rfl (by decide +kernel) rfl 0 5 rfl rfl rfl ⟨Nat.le_of_ble_eq_true rfl, Nat.le_of_ble_eq_true rfl⟩ hl.1 (Nat.le_of_ble_eq_true rfl) (g_182 (v := 91) bX6_feed rfl) ⟨Nat.le_of_ble_eq_true rfl, Nat.le_of_ble_eq_true rfl⟩ (fun r_40 u_42 H locs h_41 => ?_)
    clear hP hD hS
    intro hP hD hS
    obtain ⟨fX_43, hu9, h_41⟩ := h_41
    have hPD := pd_eq [_, _, zzI cy qmr 8 fX_43] hP hD hu9 rfl
    clear hP hD hu9
    obtain ⟨hP, hD⟩ := hPD
    subst h_41
    exact endWs [[false, true], [true, false, true]] hx hb hr hlocks rfl hP hD rfl (by decide +kernel) hS ⟨kZ, fMt, fX_43, rfl, ⟨Or.inl ⟨rfl, h_3, rfl⟩, Or.inl ⟨rfl, rfl⟩⟩, trivial⟩ (g_172 bX6_feed rfl)
end
section
/-! what the questions answer, the same on both sides -/
/-! teach -/
section TCH
variable {t : TA} {k m j : Nat} {x y X : Int32}
end TCH
/-! hangs -/
section HG
variable {t : TA} {j : Nat} {x y X : Int32}
end HG
/-! lost -/
/-! nobody is there: nothing changes -/
/-! a rule on a shelf, and what is asked of it -/
theorem zbc_8 : ∀ a b c d e f g h : Bool, zbc (wb8 a b c d e f g h) = 0 + b01 a + b01 b + b01 c + b01 d + b01 e + b01 f + b01 g + b01 h := by decide +kernel
theorem zbc_wb (f : Nat → Bool) : zbc (wb f) = wsum (fun b => b01 (f b)) 8 := zbc_8 _ _ _ _ _ _ _ _
theorem ws_more {f : Nat → Int32} : ∀ d n, (∀ b, n ≤ b → b < n + d → f b = 0) → wsum f (n + d) = wsum f n := by
  intro d
  induction d with
  | zero => intro n _; rfl
  | succ d ih =>
    intro n h
    show wsum f (n + d) + f (n + d) = wsum f n
    rw [ih n (fun b h1 h2 => h b h1 (by omega)), h (n + d) (by omega) (by omega), Int32.add_zero]
theorem wh_many {t : TA} (h : WI t) : wsum (fun b => b01 (T_wh t b)) (T_nb t) = zbc (wb (T_wh t)) := by
  have h8 := h.1.1.1
  rw [zbc_wb, show (8 : Nat) = T_nb t + (8 - T_nb t) by omega]
  exact (ws_more _ _ (fun b h1 h2 => by rw [h.2.1.2.1 b (by omega) h1]; rfl)).symm
section RN
variable {q a r0 r1 x y l w : Int32} {t tX tY : TA} {m : Nat}
end RN
/-! sets below 256 as numbers; ends: how many go -/
section EN
variable {tA tJ : TA} {j : Nat} {x : Int32}
end EN
/-! bear: the least set that is enough -/
section BX
variable {t : TA} {v : Int32} {th j u : Nat}
end BX
section BM
variable {t : TA} {v : Int32} {th N m u : Nat}
end BM
theorem sh_all {n : Nat} (h : n ≤ 8) : (1 : Int32) <<< (nI n &&& 31) - 1 = nI (2 ^ n - 1) := by
  have : ∀ k, k < 9 → (1 : Int32) <<< (nI k &&& 31) - 1 = nI (2 ^ k - 1) := by decide +kernel
  exact this n (by omega)
/-! worth and needs of the books: what stays, and that they are in range -/
noncomputable def WN (t t' : TA) : Prop := T_wo t' = T_wo t ∧ T_ne t' = T_ne t
theorem wn_t {a b c : TA} (h : WN a b) (g : WN b c) : WN a c := ⟨g.1.trans h.1, g.2.trans h.2⟩
theorem wn_r (t : TA) : WN t t := ⟨rfl, rfl⟩
theorem wn_hf (t : TA) (h ls : Int32) (b : Nat) : ∀ n, WN t (hfF t h ls b n).1 := by
  intro n
  induction n with
  | zero => exact wn_r t
  | succ n ih =>
    unfold hfF
    split
    · exact ih
    · exact ih
theorem wn_rdS (t : TA) (p b : Nat) (l : Int32) : WN t (rdS t p b l) := by
  unfold rdS
  split
  · exact ⟨rfl, rfl⟩
  · exact wn_t (b := rdT t p b) ⟨rfl, rfl⟩ (wn_hf _ _ _ _ _)
theorem wn_rdG (l m : Int32) : ∀ n j t c, WN t (rdG l m n j t c).1 := by
  intro n
  induction n with
  | zero => intro j t c; exact wn_r t
  | succ n ih =>
    intro j t c
    rw [rdG]
    split
    · exact wn_r t
    · split
      · exact wn_r t
      · split
        · exact wn_r t
        · exact wn_t (wn_rdS _ _ _ _) (ih _ _ _)
theorem wn_tcI (t : TA) (p o : Nat) : ∀ n, WN t (tcI t p o n) := by
  intro n
  induction n with
  | zero => exact wn_r t
  | succ n ih => exact ih
theorem wn_tcF (t : TA) : ∀ n, WN t (tcF t n) := by
  intro n
  induction n with
  | zero => exact wn_r t
  | succ n ih =>
    show WN t (tcS (tcF t n) n)
    unfold tcS
    split
    · exact ih
    · split
      · exact ih
      · exact wn_t ih (wn_tcI _ _ _ _)
theorem wn_act (t : TA) (k a : Int32) : WN t (zact t k a).1 := by
  unfold zact
  split
  · exact wn_rdG _ _ _ _ _ _
  · split
    · exact wn_rdG _ _ _ _ _ _
    · split
      · exact wn_rdG _ _ _ _ _ _
      · split
        · exact wn_tcF _ _
        · split
          · exact wn_t (wn_tcF _ _) (wn_tcF _ _)
          · split
            · exact wn_t (wn_tcF _ _) (wn_rdG _ _ _ _ _ _)
            · exact wn_r t
theorem wn_dd (t : TA) : ∀ n, WN t (ddF t n) := by
  intro n
  induction n with
  | zero => exact wn_r t
  | succ n ih =>
    rw [ddF]
    split
    · exact ih
    · split
      · exact ih
      · exact ih
theorem wn_ey (th : Int32) (t : TA) : ∀ n, WN t (eyF th t n) := by
  intro n
  induction n with
  | zero => exact wn_r t
  | succ n ih =>
    cases hb : bitb th n with
    | false => rw [ey_no hb]; exact ih
    | true => rw [ey_on hb]; exact ih
theorem wn_on (e : Nat → Int64) : ∀ n i t c, WN t (onG e n i t c).1 := by
  intro n
  induction n with
  | zero => intro i t c; exact wn_r t
  | succ n ih =>
    intro i t c
    rw [onG]
    split
    · exact wn_t (b := zao t _ _ _ _) ⟨rfl, rfl⟩ (ih _ _ _)
    · exact wn_r t
theorem wn_yr (k a : Int32) : ∀ n t s, WN t (yrG k a n t s).1 := by
  intro n
  induction n with
  | zero => intro t s; exact wn_r t
  | succ n ih =>
    intro t s
    rw [yrG]
    exact wn_t (wn_t (wn_act _ _ _) (wn_dd _ _)) (wn_t (wn_ey _ _ _) (ih _ _))
noncomputable def NI (t : TA) : Prop := (∀ b, R0 99 (T_wo t b)) ∧ ∀ b, b < 8 → ∃ n, n < 2 ^ b ∧ T_ne t b = nI n
theorem NI_wn {t t' : TA} (h : WN t t') (g : NI t) : NI t' := ⟨by rw [h.1]; exact g.1, by rw [h.2]; exact g.2⟩
theorem NI_0 : NI T0 := ⟨fun _ => r_0 99, fun b _ => ⟨0, Nat.two_pow_pos b, rfl⟩⟩
theorem nI_or (a b : Nat) : nI a ||| nI b = nI (a ||| b) := by
  apply Int32.toBitVec_inj.mp
  exact BitVec.ofNat_or.symm
theorem sh_p8 : ∀ k, k < 8 → (1 : Int32) <<< (nI k &&& 31) = nI (2 ^ k) := by decide +kernel
theorem ni_of {x : Int32} {n : Nat} (hn : n ≤ 8) (h0 : 0 ≤ x) (h1 : x ≤ nI n - 1) : ∃ k : Nat, k < n ∧ x = nI k := by
  rw [Int32.le_iff_toInt_le] at h0 h1
  have e0 : (0 : Int32).toInt = 0 := by decide +kernel
  have e : (nI n - 1).toInt = (n : Int) - 1 := by
    rw [show (1 : Int32) = nI 1 from rfl, pk_sub_toInt (by omega) (by omega)]
    rfl
  rw [e0] at h0
  rw [e] at h1
  refine ⟨x.toInt.toNat, by omega, ?_⟩
  apply Int32.toInt_inj.mp
  rw [nI_toInt (by omega)]
  omega
theorem r_99 {w : Int32} (h1 : 1 ≤ w) (h2 : w ≤ 99) : R0 99 w := by
  rw [Int32.le_iff_toInt_le] at h1 h2
  have e1 : (1 : Int32).toInt = 1 := by decide +kernel
  have e2 : (99 : Int32).toInt = 99 := by decide +kernel
  rw [e1] at h1
  rw [e2] at h2
  refine ⟨w.toInt.toNat, by omega, ?_⟩
  apply Int32.toInt_inj.mp
  rw [nI_toInt (by omega)]
  omega
theorem NI_bk {t : TA} {w n : Int32} (h8 : T_nb t < 8) (g : NI t) (hw : R0 99 w) (hn : ∃ m, m < 2 ^ T_nb t ∧ n = nI m) : NI (zab t w n) := by
  refine ⟨r_upd g.1 hw, fun b hb => ?_⟩
  show ∃ m, m < 2 ^ b ∧ (if b = T_nb t then n else T_ne t b) = nI m
  by_cases e : b = T_nb t
  · rw [if_pos e, e]; exact hn
  · rw [if_neg e]; exact g.2 b hb
theorem NI_ne {t : TA} {b n : Int32} (h8 : T_nb t ≤ 8) (g : NI t) (hb : 0 ≤ b ∧ b ≤ nI (T_nb t) - 1) (hn : 0 ≤ n ∧ n ≤ b - 1) : NI (neT t b n) := by
  obtain ⟨k, hk, rfl⟩ := ni_of h8 hb.1 hb.2
  obtain ⟨m, hm, rfl⟩ := ni_of (by omega) hn.1 hn.2
  refine ⟨g.1, fun c hc => ?_⟩
  show ∃ z, z < 2 ^ c ∧ upd (T_ne t) (nI k).toNatClampNeg (T_ne t (nI k).toNatClampNeg ||| (1 <<< (nI m &&& 31))) c = nI z
  rw [nI_clamp (by omega)]
  show ∃ z, z < 2 ^ c ∧ (if c = k then T_ne t k ||| (1 <<< (nI m &&& 31)) else T_ne t c) = nI z
  by_cases e : c = k
  · rw [if_pos e]
    subst e
    obtain ⟨z, hz, ez⟩ := g.2 c hc
    refine ⟨z ||| 2 ^ m, Nat.or_lt_two_pow hz (Nat.pow_lt_pow_right (by decide +kernel) hm), ?_⟩
    rw [ez, sh_p8 m (by omega), nI_or]
  · rw [if_neg e]; exact g.2 c hc
theorem ps_ni {F : Nat → Int32} {z : Nat} {l s : TK} {t t' : TA} (h8 : T_nb t ≤ 8) (g : NI t) (h : pstm F z l t = .inr (s, t')) : NI t' ∧ T_nb t' ≤ 8 := by
  unfold pstm at h
  split at h
  · unfold pBook at h
    split at h
    · next h9 =>
      obtain ⟨⟨v, s1⟩, e1, h⟩ := pbd_in h
      obtain ⟨⟨w, s2⟩, e2, h⟩ := pbd_in h
      cases h
      exact ⟨NI_wn (t := zab t v 0) ⟨rfl, rfl⟩ (NI_bk h9 g (r_99 (pn_in e1).1 (pn_in e1).2.1) ⟨0, Nat.two_pow_pos _, rfl⟩), h9⟩
    · cases h
  · split at h
    · unfold pNeed at h
      obtain ⟨⟨v, s1⟩, e1, h⟩ := pbd_in h
      obtain ⟨⟨w, s2⟩, e2, h⟩ := pbd_in h
      cases h
      exact ⟨NI_ne h8 g ⟨(pn_in e1).1, (pn_in e1).2.1⟩ ⟨(pn_in e2).1, (pn_in e2).2.1⟩, h8⟩
    · split at h
      · unfold pOne at h
        split at h
        · obtain ⟨⟨v, s1⟩, e1, h⟩ := pbd_in h
          obtain ⟨⟨v2, s2⟩, e2, h⟩ := pbd_in h
          obtain ⟨⟨v3, s3⟩, e3, h⟩ := pbd_in h
          obtain ⟨⟨v4, s4⟩, e4, h⟩ := pbd_in h
          cases h
          exact ⟨NI_wn (t := t) ⟨rfl, rfl⟩ g, h8⟩
        · cases h
      · split at h
        · unfold pKnow at h
          obtain ⟨⟨v, s1⟩, e1, h⟩ := pbd_in h
          obtain ⟨⟨v2, s2⟩, e2, h⟩ := pbd_in h
          obtain ⟨⟨v3, s3⟩, e3, h⟩ := pbd_in h
          cases h
          exact ⟨NI_wn (t := t) ⟨rfl, rfl⟩ g, h8⟩
        · split at h
          · unfold pWhite at h
            obtain ⟨⟨v, s1⟩, e1, h⟩ := pbd_in h
            cases h
            exact ⟨NI_wn (t := t) ⟨rfl, rfl⟩ g, h8⟩
          · cases h
theorem plp_ni {F : Nat → Int32} {z : Nat} : ∀ (n : Nat) (l : TK) (t t' : TA) (c c' : Nat), T_nb t ≤ 8 → NI t → plp F z n l t c = .inr (t', c') → NI t' := by
  intro n
  induction n with
  | zero => intro l t t' c c' _ g h; rw [plp] at h; cases h; exact g
  | succ n ih =>
    intro l t t' c c' h8 g h
    rw [plp] at h
    obtain ⟨⟨s, t1⟩, e1, h⟩ := pbd_in h
    have q := ps_ni h8 g e1
    split at h
    · cases h; exact q.1
    · split at h
      · exact ih _ _ _ _ _ q.2 q.1 h
      · cases h
/-! what a call leaves of it -/
section NK
variable {t t' : TA} {a b c d r n : Int32}
theorem NI_book (g : NI t) (h : PXbook t a b r t') : NI t' := by
  rcases h with ⟨-, -, rfl⟩ | ⟨-, -, -, -, rfl⟩ | ⟨-, h1, h2, h3, rfl⟩
  · exact g
  · exact g
  · obtain ⟨k, q1, q2, rfl⟩ := iv_nI 1 99 (by decide +kernel) (by decide +kernel) h1
    refine NI_bk h3 g ⟨k, q2, rfl⟩ ?_
    have q := (seto_iv (by omega)).mpr h2
    rw [sh_all (by omega)] at q
    obtain ⟨q1, q2⟩ := Iv_iff.mp q
    rw [Int64.le_iff_toInt_le, Int32.toInt_toInt64] at q1 q2
    have hp : ∀ k, k < 8 → 2 ^ k ≤ 128 := by decide +kernel
    have := hp _ h3
    have := Nat.two_pow_pos (T_nb t)
    rw [Int32.toInt_toInt64, nI_toInt (by omega)] at q2
    have e0 : (0 : Int64).toInt = 0 := by decide +kernel
    rw [e0] at q1
    refine ⟨b.toInt.toNat, by omega, ?_⟩
    apply Int32.toInt_inj.mp
    rw [nI_toInt (by omega)]
    omega
theorem NI_one (g : NI t) (h : PXone t a b c d r t') : NI t' := by
  rcases h with ⟨-, -, rfl⟩ | ⟨-, -, -, rfl⟩ | ⟨-, -, -, rfl⟩
  · exact g
  · exact g
  · exact NI_wn (t := t) ⟨rfl, rfl⟩ g
theorem NI_alter (g : NI t) (h : PXalter t a b c r t') : NI t' := by
  rcases h with ⟨-, -, rfl⟩ | ⟨k, m, -, -, -, -, -, ⟨-, -, rfl⟩ | ⟨-, -, rfl⟩⟩
  · exact g
  · exact g
  · exact NI_wn (t := t) ⟨rfl, rfl⟩ g
theorem NI_read (g : NI t) (h : PXread t a b r t') : NI t' := by
  rcases h with ⟨-, -, rfl⟩ | ⟨k, m, -, -, -, -, ⟨-, -, rfl⟩ | ⟨-, -, -, rfl⟩⟩
  · exact g
  · exact g
  · exact NI_wn (t := t) ⟨rfl, rfl⟩ g
theorem NI_aloud (g : NI t) (h : PXaloud t a b c r t') : NI t' := by
  rcases h with ⟨-, -, rfl⟩ | ⟨k, m, -, -, -, -, -, ⟨-, -, rfl⟩ | ⟨-, -, -, rfl⟩⟩
  · exact g
  · exact g
  · exact NI_wn (wn_t (b := rdT t k m) ⟨rfl, rfl⟩ (wn_hf _ _ _ _ _)) g
theorem NI_tell (g : NI t) (h : PXtell t a b c r t') : NI t' := by
  rcases h with ⟨-, -, rfl⟩ | ⟨k, j, m, -, -, -, -, -, -, -, ⟨-, -, rfl⟩ | ⟨-, -, -, rfl⟩⟩
  · exact g
  · exact g
  · exact NI_wn (t := t) ⟨rfl, rfl⟩ g
theorem NI_write (g : NI t) (h : PXwrite t a b r t') : NI t' := by
  rcases h with ⟨-, -, rfl⟩ | ⟨k, m, -, -, -, -, ⟨-, -, rfl⟩ | ⟨-, -, -, -, rfl⟩⟩
  · exact g
  · exact g
  · exact NI_wn (t := t) ⟨rfl, rfl⟩ g
theorem NI_ones {h s : Nat → Int32} {e : Nat → Int64} (g : NI t) (q : PXones h s e t a n r t') : NI t' := by
  rcases q with ⟨-, -, rfl⟩ | ⟨-, -, rfl⟩ | ⟨-, -, rfl⟩ | ⟨k, m, -, -, -, -, -, -, -, q⟩
  · exact g
  · exact g
  · exact g
  · rw [show t' = (onG (fun i => e (k * 40 + i)) m 0 t 0).1 from congrArg Prod.fst q]
    exact NI_wn (wn_on _ _ _ _ _) g
theorem NI_years {h am : Nat → Int32} (g : NI t) (q : PXyears h am t a n r t') : NI t' := by
  rcases q with ⟨-, -, rfl⟩ | ⟨-, -, -, rfl⟩ | ⟨-, -, -, rfl⟩ | ⟨k, m, -, -, -, -, -, -, -, q⟩
  · exact g
  · exact g
  · exact g
  · rw [show t' = (yrG (h k - 10) (am k) m t 0).1 from congrArg Prod.fst q]
    exact NI_wn (wn_yr _ _ _ _ _) g
theorem NI_town {F : Nat → Int32} {z : Nat} (h8 : T_nb t ≤ 8) (g : NI t) (h : PXtown (pall F z t) t r t') : NI t' := by
  rcases h with ⟨e, -, -, rfl⟩ | ⟨c, h, -⟩
  · exact g
  · exact plp_ni _ _ _ _ _ _ h8 g h
theorem NI_ends (g : NI t) (h : t' = zey t) : NI t' := by rw [h]; exact NI_wn (wn_ey _ _ _) g
theorem NI_seed (g : NI t) (h : t' = T_setsd t n) : NI t' := by rw [h]; exact NI_wn (t := t) ⟨rfl, rfl⟩ g
end NK
/-! next: by how much VALUE grows -/
theorem nI_ltN {a b : Nat} (ha : a < 2 ^ 31) (hb : b < 2 ^ 31) : nI a < nI b ↔ a < b := by
  rw [Int32.lt_iff_toInt_lt, nI_toInt ha, nI_toInt hb]
  omega
theorem mx_nI {a b : Nat} (ha : a < 2 ^ 31) (hb : b < 2 ^ 31) : mx (nI a) (nI b) = nI (max a b) := by
  unfold mx
  by_cases c : a < b
  · rw [if_pos ((nI_ltN ha hb).mpr c), Nat.max_eq_right (by omega)]
  · rw [if_neg (fun q => c ((nI_ltN ha hb).mp q)), Nat.max_eq_left (by omega)]
noncomputable def wsN (f : Nat → Nat) : Nat → Nat
  | 0 => 0
  | n + 1 => wsN f n + f n
theorem ws_n {f : Nat → Int32} {g : Nat → Nat} : ∀ n, (∀ b, b < n → f b = nI (g b)) → wsum f n = nI (wsN g n) := by
  intro n
  induction n with
  | zero => intro _; rfl
  | succ n ih =>
    intro h
    show wsum f n + f n = nI (wsN g n + g n)
    rw [ih (fun b hb => h b (by omega)), h n (by omega), nI_add]
theorem wsN_le {g : Nat → Nat} (h : ∀ b, g b ≤ 99000) : ∀ n, wsN g n ≤ 99000 * n := by
  intro n
  induction n with
  | zero => exact Nat.zero_le _
  | succ n ih =>
    have := h n
    rw [wsN]
    omega
theorem r_cl {n : Nat} {x : Int32} (hn : n < 2 ^ 31) (h : R0 n x) : x = nI x.toNatClampNeg ∧ x.toNatClampNeg ≤ n := by
  obtain ⟨k, hk, rfl⟩ := h
  rw [nI_clamp (by omega)]
  exact ⟨rfl, hk⟩
section NX
variable {t : TA}
noncomputable def knN (t : TA) (c p : Nat) : Nat := (T_kn t p c).toNatClampNeg
noncomputable def woN (t : TA) (c : Nat) : Nat := (T_wo t c).toNatClampNeg
theorem kn_n' (hT : TI t) (c p : Nat) : T_kn t p c = nI (knN t c p) ∧ knN t c p ≤ 1000 := r_cl (by omega) (hT.2.1 p c)
theorem wo_n (hN : NI t) (c : Nat) : T_wo t c = nI (woN t c) ∧ woN t c ≤ 99 := r_cl (by omega) (hN.1 c)
theorem wm_le {w m : Nat} (hw : w ≤ 99) (hm : m ≤ 1000) : w * m ≤ 99000 := Nat.le_trans (Nat.mul_le_mul hw hm) (by decide +kernel)
end NX
section NXS
variable {t : TA} {j : Nat} {x y X : Int32}
end NXS
/-! order: no row is better than the rising one -/
noncomputable def unF (t : TA) : Nat → Nat × (Nat → Nat)
  | 0 => (0, fun _ => 0)
  | b + 1 => if T_wh t b = true then unF t b else ((unF t b).1 + 1, fun k => if k = (unF t b).1 then b else (unF t b).2 k)
theorem unf_w {t : TA} {b : Nat} (h : T_wh t b = true) : unF t (b + 1) = unF t b := by rw [unF, if_pos h]
theorem unf_n {t : TA} {b : Nat} (h : T_wh t b = false) : unF t (b + 1) = ((unF t b).1 + 1, fun k => if k = (unF t b).1 then b else (unF t b).2 k) := by rw [unF, if_neg (by rw [h]; decide)]
theorem un_in (t : TA) : ∀ n, (unF t n).1 ≤ n ∧ ∀ k, k < (unF t n).1 → (unF t n).2 k < n ∧ T_wh t ((unF t n).2 k) = false := by
  intro n
  induction n with
  | zero => exact ⟨Nat.le_refl _, fun k hk => absurd hk (Nat.not_lt_zero k)⟩
  | succ n ih =>
    cases h : T_wh t n with
    | true => rw [unf_w h]; exact ⟨by omega, fun k hk => ⟨by have := (ih.2 k hk).1; omega, (ih.2 k hk).2⟩⟩
    | false =>
      rw [unf_n h]
      refine ⟨by show (unF t n).1 + 1 ≤ n + 1; omega, fun k hk => ?_⟩
      have hk : k < (unF t n).1 + 1 := hk
      show (if k = (unF t n).1 then n else (unF t n).2 k) < n + 1 ∧ T_wh t (if k = (unF t n).1 then n else (unF t n).2 k) = false
      by_cases e : k = (unF t n).1
      · rw [if_pos e]; exact ⟨by omega, h⟩
      · rw [if_neg e]; have := ih.2 k (by omega); exact ⟨by omega, this.2⟩
noncomputable def rsT (t : TA) (p : Nat) (U : Nat → Nat) : Nat → TA
  | 0 => t
  | i + 1 => rdT (rsT t p U i) p (U i)
theorem rs_cong {t : TA} {p : Nat} {U V : Nat → Nat} : ∀ n, (∀ k, k < n → U k = V k) → rsT t p U n = rsT t p V n := by
  intro n
  induction n with
  | zero => intro _; rfl
  | succ n ih =>
    intro h
    rw [rsT, rsT, ih (fun k hk => h k (by omega)), h n (by omega)]
theorem wr_wh (t : TA) (p : Nat) : ∀ n c, n ≤ c → T_wh (wrF t p n) c = T_wh t c := by
  intro n
  induction n with
  | zero => intro c _; rfl
  | succ n ih =>
    intro c hc
    rw [wrF]
    split
    · exact ih c (by omega)
    · show updB (T_wh (wrF t p n)) n true c = _
      show (if c = n then true else T_wh (wrF t p n) c) = _
      rw [if_neg (by omega)]
      exact ih c (by omega)
theorem wr_rs (t : TA) (p : Nat) : ∀ n, wrF t p n = rsT t p (unF t n).2 (unF t n).1 := by
  intro n
  induction n with
  | zero => rfl
  | succ n ih =>
    have e := wr_wh t p n n (Nat.le_refl _)
    cases h : T_wh t n with
    | true => rw [wr_no (by rw [e]; exact h), unf_w h]; exact ih
    | false =>
      rw [wr_go (by rw [e]; exact h), unf_n h, ih]
      show rdT (rsT t p (unF t n).2 (unF t n).1) p n = rdT (rsT t p (fun k => if k = (unF t n).1 then n else (unF t n).2 k) (unF t n).1) p (if (unF t n).1 = (unF t n).1 then n else (unF t n).2 (unF t n).1)
      rw [if_pos rfl, rs_cong (U := fun k => if k = (unF t n).1 then n else (unF t n).2 k) (V := (unF t n).2) _ (fun k hk => if_neg (by omega))]
/-! what one knows, as numbers -/
noncomputable def gdN (need : Int32) (k : Nat → Nat) : Nat → Nat
  | 0 => 1000
  | n + 1 => if bitb need n = true then min (k n) (gdN need k n) else gdN need k n
theorem gdN_le {need : Int32} {k : Nat → Nat} : ∀ n, gdN need k n ≤ 1000 := by
  intro n
  induction n with
  | zero => exact Nat.le_refl _
  | succ n ih =>
    rw [gdN]
    split
    · omega
    · exact ih
theorem gdN_mono {need : Int32} {k l : Nat → Nat} : ∀ n, (∀ i, i < n → k i ≤ l i) → gdN need k n ≤ gdN need l n := by
  intro n
  induction n with
  | zero => intro _; exact Nat.le_refl _
  | succ n ih =>
    intro h
    have i := ih (fun i hi => h i (by omega))
    have q := h n (by omega)
    rw [gdN, gdN]
    split
    · omega
    · exact i
theorem gdN_cong {need : Int32} {k l : Nat → Nat} (n : Nat) (h : ∀ i, i < n → k i = l i) : gdN need k n = gdN need l n := Nat.le_antisymm (gdN_mono n (fun i hi => Nat.le_of_eq (h i hi))) (gdN_mono n (fun i hi => Nat.le_of_eq (h i hi).symm))
theorem gd_n {need : Int32} {K : Nat → Int32} {k : Nat → Nat} (h : ∀ p, k p ≤ 1000) (e : ∀ p, K p = nI (k p)) : ∀ n, gdF need K n = nI (gdN need k n) := by
  intro n
  induction n with
  | zero => rfl
  | succ n ih =>
    have g := gdN_le (need := need) (k := k) n
    have hn := h n
    show (if bitb need n = true ∧ K n < gdF need K n then K n else gdF need K n) = _
    rw [gdN, ih, e n]
    by_cases c : bitb need n = true
    · rw [if_pos c]
      by_cases l : k n < gdN need k n
      · rw [if_pos ⟨c, (nI_ltN (by omega) (by omega)).mpr l⟩, Nat.min_eq_left (by omega)]
      · rw [if_neg (fun q => l ((nI_ltN (by omega) (by omega)).mp q.2)), Nat.min_eq_right (by omega)]
    · rw [if_neg c, if_neg (fun q => c q.1)]
/-- what a reading gives, from what is known -/
noncomputable def grN (t : TA) (p b g : Nat) : Nat := (T_go t b).toNatClampNeg * (T_re t p).toNatClampNeg / 10 * (g + 1000) / 2000
noncomputable def wkN (t : TA) (p b : Nat) (k : Nat → Nat) : Nat := max (grN t p b (gdN (T_ne t b) k b)) (k b)
theorem wk_k {t : TA} (hT : TI t) (p b : Nat) : zwk t p b = nI (wkN t p b (fun c => knN t c p)) := by
  obtain ⟨eo, ho⟩ := r_cl (by omega) (hT.2.2.1 b)
  obtain ⟨er, hr⟩ := r_cl (by omega) (hT.2.2.2.1 p)
  have hg := gdN_le (need := T_ne t b) (k := fun c => knN t c p) b
  have hm : (T_go t b).toNatClampNeg * (T_re t p).toNatClampNeg ≤ 10000 := Nat.le_trans (Nat.mul_le_mul ho hr) (by decide +kernel)
  have hq : (T_go t b).toNatClampNeg * (T_re t p).toNatClampNeg / 10 ≤ 1000 := by omega
  have hh : (T_go t b).toNatClampNeg * (T_re t p).toNatClampNeg / 10 * (gdN (T_ne t b) (fun c => knN t c p) b + 1000) ≤ 1000 * 2000 := Nat.mul_le_mul hq (by omega)
  have hk := (kn_n' hT b p).2
  unfold zwk zgr zgd
  rw [gd_n (fun c => (kn_n' hT c p).2) (fun c => (kn_n' hT c p).1) b, eo, er, pk_mul, show (10 : Int32) = nI 10 from rfl, pk_div (by omega) (by omega) (by omega), show (1000 : Int32) = nI 1000 from rfl, nI_add, pk_mul, show (2000 : Int32) = nI 2000 from rfl, pk_div (by omega) (by omega) (by omega), (kn_n' hT b p).1, mx_nI (by omega) (by omega)]
  rfl
theorem wkN_mono {t : TA} {p b : Nat} {k l : Nat → Nat} (h : ∀ i, i < b → k i ≤ l i) (hb : k b ≤ l b) : wkN t p b k ≤ wkN t p b l := by
  have g := gdN_mono (need := T_ne t b) b h
  unfold wkN grN
  have q : (T_go t b).toNatClampNeg * (T_re t p).toNatClampNeg / 10 * (gdN (T_ne t b) k b + 1000) / 2000 ≤ (T_go t b).toNatClampNeg * (T_re t p).toNatClampNeg / 10 * (gdN (T_ne t b) l b + 1000) / 2000 := Nat.div_le_div_right (Nat.mul_le_mul_left _ (by omega))
  omega
/-- from t on only p has read: what stays the same, and that all is in range -/
noncomputable def SMT (t t' : TA) : Prop := TI t' ∧ T_ne t' = T_ne t ∧ T_go t' = T_go t ∧ T_re t' = T_re t ∧ T_nb t' = T_nb t ∧ T_np t' = T_np t ∧ T_wo t' = T_wo t
theorem smt_0 {t : TA} (h : TI t) : SMT t t := ⟨h, rfl, rfl, rfl, rfl, rfl, rfl⟩
theorem smt_rd {t t' : TA} (h : SMT t t') (p b : Nat) : SMT t (rdT t' p b) := ⟨TI_kn h.1 (r_wk h.1 p b), h.2⟩
theorem wkN_s {t t' : TA} (h : SMT t t') (p b : Nat) (k : Nat → Nat) : wkN t' p b k = wkN t p b k := by
  unfold wkN grN
  rw [h.2.1, h.2.2.1, h.2.2.2.1]
theorem rd_kn {t t' : TA} (h : SMT t t') (p b c : Nat) : knN (rdT t' p b) c p = if c = b then wkN t p b (fun c => knN t' c p) else knN t' c p := by
  show (updM (T_kn t') p b (zwk t' p b) p c).toNatClampNeg = _
  show ((if p = p then upd (T_kn t' p) b (zwk t' p b) else T_kn t' p) c).toNatClampNeg = _
  rw [if_pos rfl]
  show (if c = b then zwk t' p b else T_kn t' p c).toNatClampNeg = _
  by_cases e : c = b
  · rw [if_pos e, if_pos e, wk_k h.1, wkN_s h, nI_clamp]
    have q := r_wk h.1 p b
    rw [wk_k h.1, wkN_s h] at q
    obtain ⟨k, hk, ek⟩ := q
    have g : wkN t p b (fun c => knN t' c p) ≤ 2000000 := by
      show max ((T_go t b).toNatClampNeg * (T_re t p).toNatClampNeg / 10 * (gdN (T_ne t b) (fun c => knN t' c p) b + 1000) / 2000) (knN t' b p) ≤ 2000000
      obtain ⟨eo, ho⟩ := r_cl (by omega) (h.1.2.2.1 b)
      obtain ⟨er, hr⟩ := r_cl (by omega) (h.1.2.2.2.1 p)
      rw [h.2.2.1] at ho
      rw [h.2.2.2.1] at hr
      have hg := gdN_le (need := T_ne t b) (k := fun c => knN t' c p) b
      have hm : (T_go t b).toNatClampNeg * (T_re t p).toNatClampNeg ≤ 10000 := Nat.le_trans (Nat.mul_le_mul ho hr) (by decide +kernel)
      have hh : (T_go t b).toNatClampNeg * (T_re t p).toNatClampNeg / 10 * (gdN (T_ne t b) (fun c => knN t' c p) b + 1000) ≤ 1000 * 2000 := Nat.mul_le_mul (by omega) (by omega)
      have hk := (kn_n' h.1 b p).2
      omega
    omega
  · rw [if_neg e, if_neg e]
    rfl
theorem wr_smt {t : TA} (h : TI t) (p : Nat) : ∀ n, SMT t (wrF t p n) := by
  intro n
  induction n with
  | zero => exact smt_0 h
  | succ n ih =>
    rw [wrF]
    split
    · exact ih
    · exact smt_rd ih p n
theorem wr_fin {t : TA} (h : TI t) (p c : Nat) : ∀ n, c < n → knN (wrF t p n) c p = knN (wrF t p (c + 1)) c p := by
  intro n
  induction n with
  | zero => intro hc; omega
  | succ n ih =>
    intro hc
    by_cases e : c = n
    · subst e; rfl
    · rw [← ih (by omega), wrF]
      split
      · rfl
      · rw [rd_kn (wr_smt h p n), if_neg e]
theorem wr_beh {t : TA} (h : TI t) (p c : Nat) : ∀ n, n ≤ c → knN (wrF t p n) c p = knN t c p := by
  intro n
  induction n with
  | zero => intro _; rfl
  | succ n ih =>
    intro hc
    rw [wrF]
    split
    · exact ih (by omega)
    · rw [rd_kn (wr_smt h p n), if_neg (by omega)]
      exact ih (by omega)
noncomputable def kzN (t : TA) (p c : Nat) : Nat := knN (zwr t p) c p
theorem kz_un {t : TA} (h : TI t) {p b : Nat} (hb : b < T_nb t) (hw : T_wh t b = false) : kzN t p b = wkN t p b (fun c => if c = b then knN t b p else kzN t p c) := by
  unfold kzN zwr
  rw [wr_fin h p b _ hb, wr_go (by rw [wr_wh t p b b (Nat.le_refl _)]; exact hw), rd_kn (wr_smt h p b), if_pos rfl]
  have e : ∀ i, i < b → knN (wrF t p b) i p = (if i = b then knN t b p else knN (wrF t p (T_nb t)) i p) := fun i hi => by
    rw [if_neg (by omega), wr_fin h p i b hi, wr_fin h p i (T_nb t) (by omega)]
  have e2 : knN (wrF t p b) b p = (if b = b then knN t b p else knN (wrF t p (T_nb t)) b p) := by rw [if_pos rfl]; exact wr_beh h p b b (Nat.le_refl _)
  exact Nat.le_antisymm (wkN_mono (fun i hi => Nat.le_of_eq (e i hi)) (Nat.le_of_eq e2)) (wkN_mono (fun i hi => Nat.le_of_eq (e i hi).symm) (Nat.le_of_eq e2.symm))
theorem wk_ge {t : TA} {p b : Nat} {k : Nat → Nat} : k b ≤ wkN t p b k := Nat.le_max_right _ _
theorem kz_ge {t : TA} (h : TI t) (p c : Nat) : knN t c p ≤ kzN t p c := by
  by_cases hc : c < T_nb t
  · cases hw : T_wh t c with
    | false =>
      rw [kz_un h hc hw]
      have q := wk_ge (t := t) (p := p) (b := c) (k := fun i => if i = c then knN t c p else kzN t p i)
      have q : (if c = c then knN t c p else kzN t p c) ≤ wkN t p c (fun i => if i = c then knN t c p else kzN t p i) := q
      rw [if_pos rfl] at q
      exact q
    | true =>
      unfold kzN zwr
      rw [wr_fin h p c _ hc, wr_no (by rw [wr_wh t p c c (Nat.le_refl _)]; exact hw), wr_beh h p c c (Nat.le_refl _)]
      exact Nat.le_refl _
  · unfold kzN zwr
    rw [wr_beh h p c _ (by omega)]
    exact Nat.le_refl _
/-- a town in which p has read some of what t has unread -/
noncomputable def LEq (t : TA) (p : Nat) (t' : TA) : Prop := SMT t t' ∧ ∀ c, knN t' c p ≤ kzN t p c
theorem le_0 {t : TA} (h : TI t) (p : Nat) : LEq t p t := ⟨smt_0 h, kz_ge h p⟩
theorem le_rd {t t' : TA} {p b : Nat} (h0 : TI t) (h : LEq t p t') (hb : b < T_nb t) (hw : T_wh t b = false) : LEq t p (rdT t' p b) := by
  refine ⟨smt_rd h.1 p b, fun c => ?_⟩
  rw [rd_kn h.1]
  by_cases e : c = b
  · rw [if_pos e, e]
    have q1 : wkN t p b (fun c => knN t' c p) ≤ wkN t p b (fun c => kzN t p c) := wkN_mono (fun i _ => h.2 i) (h.2 b)
    have q2 := kz_un h0 (p := p) hb hw
    have g : gdN (T_ne t b) (fun c => if c = b then knN t b p else kzN t p c) b = gdN (T_ne t b) (fun c => kzN t p c) b := gdN_cong b (fun i hi => if_neg (by omega))
    have q3 : wkN t p b (fun c => kzN t p c) ≤ kzN t p b := by
      have z : kzN t p b = max (grN t p b (gdN (T_ne t b) (fun c => if c = b then knN t b p else kzN t p c) b)) (if b = b then knN t b p else kzN t p b) := q2
      rw [g, if_pos rfl] at z
      show max (grN t p b (gdN (T_ne t b) (fun c => kzN t p c) b)) (kzN t p b) ≤ kzN t p b
      omega
    omega
  · rw [if_neg e]; exact h.2 c
noncomputable def osN (t : TA) (p : Nat) : Nat := wsN (fun b => woN t b * kzN t p b) (T_nb t)
theorem wsN_mono {f g : Nat → Nat} (h : ∀ b, f b ≤ g b) : ∀ n, wsN f n ≤ wsN g n := by
  intro n
  induction n with
  | zero => exact Nat.le_refl _
  | succ n ih => have := h n; rw [wsN, wsN]; omega
section OS
variable {t t' : TA} {p : Nat}
theorem os_le (hT : TI t) (hN : NI t) (h8 : T_nb t ≤ 8) : osN t p ≤ 792000 := by
  have := wsN_le (g := fun c => woN t c * kzN t p c) (fun c => wm_le (wo_n hN c).2 (kn_n' (wr_smt hT p _).1 c p).2) (T_nb t)
  unfold osN
  omega
theorem os_sum (hN : NI t) (h : SMT t t') : wsum (fun b => T_wo t b * T_kn t' p b) (T_nb t) = nI (wsN (fun b => woN t b * knN t' b p) (T_nb t)) := ws_n _ (fun b _ => by rw [(wo_n hN b).1, (kn_n' h.1 b p).1, pk_mul])
theorem os_no (hT : TI t) (hN : NI t) (h : LEq t p t') : ¬ nI (osN t p) < wsum (fun b => T_wo t b * T_kn t' p b) (T_nb t) := by
  rw [os_sum hN h.1]
  have m : wsN (fun b => woN t b * knN t' b p) (T_nb t) ≤ osN t p := wsN_mono (fun b => Nat.mul_le_mul_left _ (h.2 b)) _
  have := os_le (p := p) hT hN hT.1.1
  rw [nI_ltN (by omega) (by omega)]
  omega
theorem os_at (hN : NI t) (hT : TI t) (e : t' = zwr t p) : wsum (fun b => T_wo t b * T_kn t' p b) (T_nb t) = nI (osN t p) := by
  rw [e]
  show wsum (fun b => T_wo t b * T_kn (wrF t p (T_nb t)) p b) (T_nb t) = _
  rw [os_sum hN (wr_smt hT p _)]
  rfl
theorem one_bit (K : Nat → Int32) {k : Nat} (hp : p < 8) (hk : K p = nI k) (h1000 : k ≤ 1000) : ∀ n, n ≤ 8 → gA (bitb (1 <<< (nI p &&& 31))) K n = if p < n then nI k else 0 := by
  intro n
  induction n with
  | zero => intro _; rw [if_neg (by omega)]; rfl
  | succ n ih =>
    intro hn
    show (if bitb (1 <<< (nI p &&& 31)) n = true then mx (gA (bitb (1 <<< (nI p &&& 31))) K n) (K n) else gA (bitb (1 <<< (nI p &&& 31))) K n) = _
    rw [ih (by omega), bitb_one p hp n (by omega)]
    by_cases e : n = p
    · subst e
      rw [if_pos (by rw [decide_eq_true rfl]), if_neg (Nat.lt_irrefl n), if_pos (by omega), hk, show (0 : Int32) = nI 0 from rfl, mx_nI (by omega) (by omega)]
      exact congrArg nI (by omega)
    · rw [if_neg (by rw [decide_eq_false e]; decide)]
      by_cases l : p < n
      · rw [if_pos l, if_pos (by omega)]
      · rw [if_neg l, if_neg (by omega)]
theorem os_x (hT : TI t) (hN : NI t) (hp : p < T_np t) : waF (zwr t p) (1 <<< (nI p &&& 31)) = nI (osN t p) := by
  have S := wr_smt hT p (T_nb t)
  show wsum (fun b => T_wo (zwr t p) b * mkn (zwr t p) b (1 <<< (nI p &&& 31))) (T_nb (zwr t p)) = _
  rw [nb_wr]
  refine ws_n _ (fun b _ => ?_)
  have e := kn_n' S.1 b p
  show T_wo (zwr t p) b * gA (bitb (1 <<< (nI p &&& 31))) (fun q => T_kn (zwr t p) q b) (T_np (zwr t p)) = _
  rw [np_wr, one_bit (fun q => T_kn (zwr t p) q b) (by have := hT.1.2; omega) e.1 e.2 _ hT.1.2, if_pos hp, show T_wo (zwr t p) = T_wo t from S.2.2.2.2.2.2, (wo_n hN b).1, pk_mul]
  rfl
end OS
/-! order: the rows gone through -/
noncomputable abbrev unU (t : TA) : Nat → Nat := (unF t (T_nb t)).2
noncomputable def ROW (i : Nat) (tA : TA) (p : Nat) (tm : TA) (kM kU : Nat) (fU fY fB : Nat → Int32) (iO : Int32) (fY' fB' : Nat → Int32) (iO' : Int32) : Prop :=
  (iO = nI (osN tA p) → iO' = nI (osN tA p) ∧ ∀ k, k < kM → fB' k = fB k) ∧ (iO = -1 → kU = 2 ^ i - 1 → tm = rsT tA p (unU tA) i → (∀ k, k < i → fY k = fU k) → iO' = nI (osN tA p) ∧ ∀ k, k < kM → fB' k = fU k) ∧ ∀ k, k < i → fY' k = fY k
noncomputable def LRW (i : Nat) (tA : TA) (p : Nat) (tm : TA) (kM kU : Nat) (fU fY0 fB0 : Nat → Int32) (iO : Int32) (kk : Nat) (fY fB : Nat → Int32) (x : Int32) : Prop :=
  (iO = nI (osN tA p) → x = nI (osN tA p) ∧ ∀ k, k < kM → fB k = fB0 k) ∧ (iO = -1 → kU = 2 ^ i - 1 → tm = rsT tA p (unU tA) i → (∀ k, k < i → fY0 k = fU k) → if i < kk then (x = nI (osN tA p) ∧ ∀ k, k < kM → fB k = fU k) else x = -1) ∧ ∀ k, k < i → fY k = fY0 k
theorem bt_1 : ∀ i, i < 5 → (nI (2 ^ i - 1) >>> (nI i &&& 31)) &&& 1 = 0 := by decide +kernel
theorem bt_2 : ∀ i, i < 6 → ∀ k, k < i → ¬ (nI (2 ^ i - 1) >>> (nI k &&& 31)) &&& 1 = 0 := by decide +kernel
theorem bt_3 : ∀ i, i < 6 → (2 ^ i - 1) ||| 2 ^ i = 2 ^ (i + 1) - 1 := by decide +kernel
section RW
variable {i p kM kU kk : Nat} {tA tm : TA} {fU fY fB fY0 fB0 fY' fB' : Nat → Int32} {iO x x' : Int32}
theorem lr_0' : LRW i tA p tm kM kU fU fY fB iO 0 fY fB iO := ⟨fun h => ⟨h, fun _ _ => rfl⟩, fun h _ _ _ => by rw [if_neg (by omega)]; exact h, fun _ _ => rfl⟩
theorem lr_skip (hk : kk < 5) (h : LRW i tA p tm kM kU fU fY0 fB0 iO kk fY fB x) (c : ¬ (nI kU >>> (nI kk &&& 31)) &&& 1 = 0) : LRW i tA p tm kM kU fU fY0 fB0 iO (kk + 1) fY fB x := by
  refine ⟨h.1, fun h1 h2 h3 h4 => ?_, h.2.2⟩
  have q := h.2.1 h1 h2 h3 h4
  by_cases e : kk = i
  · exfalso
    subst e
    rw [h2] at c
    exact c (bt_1 kk hk)
  · by_cases l : i < kk
    · rw [if_pos l] at q
      rw [if_pos (by omega)]
      exact q
    · rw [if_neg l] at q
      rw [if_neg (by omega)]
      exact q
theorem lr_call (hi : i < 5) (hk : kk < 5) (h : LRW i tA p tm kM kU fU fY0 fB0 iO kk fY fB x) (c : (nI kU >>> (nI kk &&& 31)) &&& 1 = 0) (r : ROW (i + 1) tA p (rdT tm p (unU tA kk)) kM (kU ||| 2 ^ kk) fU (upd fY i (fU kk)) fB x fY' fB' x') : LRW i tA p tm kM kU fU fY0 fB0 iO (kk + 1) fY' fB' x' := by
  refine ⟨fun h1 => ?_, fun h1 h2 h3 h4 => ?_, fun k hk' => ?_⟩
  · obtain ⟨q1, q2⟩ := h.1 h1
    obtain ⟨r1, r2⟩ := r.1 q1
    exact ⟨r1, fun k hk => (r2 k hk).trans (q2 k hk)⟩
  · have q := h.2.1 h1 h2 h3 h4
    by_cases l : i < kk
    · rw [if_pos l] at q
      rw [if_pos (by omega)]
      obtain ⟨r1, r2⟩ := r.1 q.1
      exact ⟨r1, fun k hk => (r2 k hk).trans (q.2 k hk)⟩
    · rw [if_neg l] at q
      by_cases e : kk = i
      · subst e
        rw [if_pos (by omega)]
        refine r.2.1 q (by rw [h2, bt_3 kk (by omega)]) (by rw [h3]; rfl) (fun k hk2 => ?_)
        show (if k = kk then fU kk else fY k) = fU k
        by_cases ek : k = kk
        · rw [if_pos ek, ek]
        · rw [if_neg ek, h.2.2 k (by omega), h4 k (by omega)]
      · exfalso
        rw [h2] at c
        exact bt_2 i (by omega) kk (by omega) c
  · rw [r.2.2 k (by omega)]
    show (if k = i then fU kk else fY k) = fY0 k
    rw [if_neg (by omega), h.2.2 k hk']
theorem lr_end (hi : i < kM) (e : kk = kM) (h : LRW i tA p tm kM kU fU fY0 fB0 iO kk fY fB x) : ROW i tA p tm kM kU fU fY0 fB0 iO fY fB x := by
  subst e
  exact ⟨h.1, fun a b c d => by have q := h.2.1 a b c d; rw [if_pos hi] at q; exact q, h.2.2⟩
theorem rs_zwr (hM : kM = (unF tA (T_nb tA)).1) (hi : kM = i) (h3 : tm = rsT tA p (unU tA) i) : tm = zwr tA p := by
  rw [h3, ← hi, hM]
  exact (wr_rs tA p (T_nb tA)).symm
theorem rw_le (hT : TI tA) (hN : NI tA) (hM : kM = (unF tA (T_nb tA)).1) (hi : kM = i) (c : wsum (fun b => T_wo tA b * T_kn tm p b) (T_nb tA) ≤ iO) : ROW i tA p tm kM kU fU fY fB iO fY fB iO := by
  refine ⟨fun h => ⟨h, fun _ _ => rfl⟩, fun h1 _ h3 _ => ?_, fun _ _ => rfl⟩
  exfalso
  rw [os_at hN hT (rs_zwr hM hi h3), h1] at c
  have := os_le (p := p) hT hN hT.1.1
  exact absurd (Int32.lt_of_le_of_lt c (by decide +kernel : (-1 : Int32) < 0)) (nI_nn (by omega))
theorem rw_gt (hT : TI tA) (hN : NI tA) (hL : LEq tA p tm) (hM : kM = (unF tA (T_nb tA)).1) (hi : kM = i) (c : ¬ wsum (fun b => T_wo tA b * T_kn tm p b) (T_nb tA) ≤ iO) (hB : ∀ k, k < kM → fB' k = fY k) : ROW i tA p tm kM kU fU fY fB iO fY fB' (wsum (fun b => T_wo tA b * T_kn tm p b) (T_nb tA)) := by
  refine ⟨fun h => ?_, fun _ _ h3 h4 => ⟨os_at hN hT (rs_zwr hM hi h3), fun k hk => (hB k hk).trans (h4 k (by omega))⟩, fun _ _ => rfl⟩
  exfalso
  rw [h] at c
  exact c (Int32.not_lt.mp (os_no hT hN hL))
theorem bc_step {j : Nat} {fJ : Nat → Int32} (h : ∀ k, k < j → fJ k = fY k) : ∀ k, k < j + 1 → upd fJ j (fY j) k = fY k := fun k hk => by
  show (if k = j then fY j else fJ k) = fY k
  by_cases e : k = j
  · rw [if_pos e, e]
  · rw [if_neg e]; exact h k (by omega)
end RW
/-! the unread ones, as each side finds them -/
theorem un_fill {t : TA} {j : Nat} {f : Nat → Int32} (w : T_wh t j = false) (h : ∀ k, k < (unF t j).1 → f k = nI ((unF t j).2 k)) : ∀ k, k < (unF t (j + 1)).1 → upd f (unF t j).1 (nI j) k = nI ((unF t (j + 1)).2 k) := by
  rw [unf_n w]
  intro k hk
  show (if k = (unF t j).1 then nI j else f k) = nI (if k = (unF t j).1 then j else (unF t j).2 k)
  by_cases e : k = (unF t j).1
  · rw [if_pos e, if_pos e]
  · rw [if_neg e, if_neg e]
    have hk : k < (unF t j).1 + 1 := hk
    exact h k (by omega)
theorem un_keep (t : TA) : ∀ d j k, k < (unF t j).1 → (unF t (j + d)).2 k = (unF t j).2 k ∧ k < (unF t (j + d)).1 := by
  intro d
  induction d with
  | zero => intro j k h; exact ⟨rfl, h⟩
  | succ d ih =>
    intro j k h
    obtain ⟨e, l⟩ := ih j k h
    rw [show j + (d + 1) = (j + d) + 1 by omega]
    cases w : T_wh t (j + d) with
    | true => rw [unf_w w]; exact ⟨e, l⟩
    | false =>
      rw [unf_n w]
      refine ⟨?_, by show k < (unF t (j + d)).1 + 1; omega⟩
      show (if k = (unF t (j + d)).1 then j + d else (unF t (j + d)).2 k) = _
      rw [if_neg (by omega)]
      exact e
theorem ua_un (t : TA) {w : Nat} (hw8 : w < 8) : ∀ n j, j + n ≤ 8 → (unF t j).1 ≤ w → w < (unF t (j + n)).1 → uaG t (nI w) n j (nI (unF t j).1) = nI ((unF t (j + n)).2 w) := by
  intro n
  induction n with
  | zero => intro j _ h1 h2; exact absurd h2 (by rw [Nat.add_zero]; omega)
  | succ n ih =>
    intro j h8 h1 h2
    have hl := (un_in t j).1
    rw [uaG]
    cases h : T_wh t j with
    | true =>
      rw [if_neg (by decide +kernel), show j + (n + 1) = (j + 1) + n by omega]
      have e := unf_w h
      rw [← e]
      refine ih (j + 1) (by omega) (by rw [e]; exact h1) (by rw [show (j + 1) + n = j + (n + 1) by omega]; exact h2)
    | false =>
      rw [if_pos rfl]
      have e := unf_n h
      by_cases c : (unF t j).1 = w
      · rw [if_pos (by rw [c])]
        have k := un_keep t n (j + 1) w (by rw [e, c]; exact Nat.lt_succ_self w)
        rw [show j + (n + 1) = (j + 1) + n by omega, k.1, e]
        show nI j = nI (if w = (unF t j).1 then j else (unF t j).2 w)
        rw [if_pos c.symm]
      · rw [if_neg (fun q => c (nI_inj (by omega) (by omega) q)), nI_1, show j + (n + 1) = (j + 1) + n by omega, show (unF t j).1 + 1 = (unF t (j + 1)).1 by rw [e]]
        exact ih (j + 1) (by omega) (by rw [e]; show (unF t j).1 + 1 ≤ w; omega) (by rw [show (j + 1) + n = j + (n + 1) by omega]; exact h2)
theorem un_cnt (t : TA) : ∀ n, wsum (fun b => b01 (T_wh t b)) n = nI (n - (unF t n).1) := by
  intro n
  induction n with
  | zero => rfl
  | succ n ih =>
    have hl := (un_in t n).1
    show wsum (fun b => b01 (T_wh t b)) n + b01 (T_wh t n) = _
    rw [ih]
    cases h : T_wh t n with
    | true =>
      rw [unf_w h]
      show nI (n - (unF t n).1) + nI 1 = _
      rw [nI_add]
      exact congrArg nI (by omega)
    | false =>
      rw [unf_n h]
      show nI (n - (unF t n).1) + nI 0 = nI (n + 1 - ((unF t n).1 + 1))
      rw [nI_add]
      exact congrArg nI (by omega)
theorem un_x {t : TA} (h : WI t) : nI (T_nb t) - zbc (wb (T_wh t)) = nI (unF t (T_nb t)).1 := by
  have hl := (un_in t (T_nb t)).1
  rw [← wh_many h, un_cnt, pk_sub (by omega)]
  exact congrArg nI (by omega)
noncomputable def PXo (t : TA) (a b r : Int32) : Prop := (r = -2 ∧ ¬ ((∃ k : Nat, k < T_np t ∧ a = nI k) ∧ Iv b.toInt64 (-1) (nI (T_nb t) - zbc (wb (T_wh t)) - 1).toInt64)) ∨ ∃ k : Nat, k < T_np t ∧ a = nI k ∧ Iv b.toInt64 (-1) (nI (T_nb t) - zbc (wb (T_wh t)) - 1).toInt64 ∧ ((r = -5 ∧ (T_gn t k = true ∨ ¬ nI (T_nb t) - zbc (wb (T_wh t)) ≤ 5)) ∨ (T_gn t k = false ∧ nI (T_nb t) - zbc (wb (T_wh t)) ≤ 5 ∧ r = if b = -1 then waF (zwr t k) (1 <<< (nI k &&& 31)) else zua t b))
noncomputable def PMo (t : TA) (a b r : Int32) : Prop := (r = -2 ∧ ¬ ((∃ k : Nat, k < T_np t ∧ a = nI k) ∧ Iv b.toInt64 (-1) (nI (unF t (T_nb t)).1 - 1).toInt64)) ∨ ∃ k : Nat, k < T_np t ∧ a = nI k ∧ Iv b.toInt64 (-1) (nI (unF t (T_nb t)).1 - 1).toInt64 ∧ ((r = -5 ∧ (T_gn t k = true ∨ ¬ nI (unF t (T_nb t)).1 ≤ 5)) ∨ (T_gn t k = false ∧ nI (unF t (T_nb t)).1 ≤ 5 ∧ ((b = -1 ∧ r = nI (osN t k)) ∨ ∃ w : Nat, w < (unF t (T_nb t)).1 ∧ b = nI w ∧ r = nI (unU t w))))
theorem ord_eq {t : TA} {a b r r' : Int32} (hW : WI t) (hN : NI t) (h1 : PXo t a b r) (h2 : PMo t a b r') : r = r' := by
  unfold PXo at h1
  rw [un_x hW] at h1
  have h8 := hW.1.1
  rcases h1 with ⟨e1, c1⟩ | ⟨k, hk, ek, iv, c1⟩
  · rcases h2 with ⟨e2, c2⟩ | ⟨k, hk, ek, iv, c2⟩
    · exact e1.trans e2.symm
    · exact absurd ⟨⟨k, hk, ek⟩, iv⟩ c1
  · rcases h2 with ⟨e2, c2⟩ | ⟨k', hk', ek', iv', c2⟩
    · exact absurd ⟨⟨k, hk, ek⟩, iv⟩ c2
    · have q : k = k' := nI_inj (by omega) (by omega) (ek.symm.trans ek')
      subst q
      rcases c1 with ⟨e1, g1⟩ | ⟨g1, l1, e1⟩
      · rcases c2 with ⟨e2, g2⟩ | ⟨g2, l2, e2⟩
        · exact e1.trans e2.symm
        · exact absurd g1 (fun q => q.elim (fun q => by rw [g2] at q; cases q) (fun q => q l2))
      · rcases c2 with ⟨e2, g2⟩ | ⟨g2, l2, e2⟩
        · exact absurd g2 (fun q => q.elim (fun q => by rw [g1] at q; cases q) (fun q => q l1))
        · rcases e2 with ⟨eb, e2⟩ | ⟨w, hw, eb, e2⟩
          · rw [if_pos eb, os_x hW.1 hN hk] at e1
            exact e1.trans e2.symm
          · have hm := (un_in t (T_nb t)).1
            have hn : ¬ b = -1 := fun q => by rw [eb] at q; exact nI_ne1 (by omega) q
            rw [if_neg hn, eb] at e1
            have z := ua_un t (w := w) (by omega) (T_nb t) 0 (by omega) (Nat.zero_le _) (by rw [Nat.zero_add]; exact hw)
            rw [Nat.zero_add] at z
            exact (e1.trans z).trans e2.symm
theorem ord_w {t : TA} {m : Nat} {b : Int32} {fU fB : Nat → Int32} {iO : Int32} {p : Nat} (hm : m = (unF t (T_nb t)).1) (iv : Iv b.toInt64 (-1) (nI m - 1).toInt64) (c : ¬ b = -1) (rr : iO = nI (osN t p) ∧ ∀ k, k < m → fB k = fU k) (hu : ∀ k, k < m → fU k = nI (unU t k)) (hm8 : m ≤ 8 := by omega) : ∃ w : Nat, w < (unF t (T_nb t)).1 ∧ b = nI w ∧ fB b.toNatClampNeg = nI (unU t w) := by
  have e : (nI m - 1).toInt = (m : Int) - 1 := by
    rw [show (1 : Int32) = nI 1 from rfl, pk_sub_toInt (by omega) (by omega)]
    rfl
  have h1 := toI iv (m := -1) (n := (m : Int) - 1) (by decide +kernel) (by rw [Int32.toInt_toInt64]; exact e)
  have h3 : b.toInt ≠ -1 := fun q => c (eqI (by decide +kernel) q)
  obtain ⟨k, hk, rfl⟩ := nI_of (x := b) (by rw [Int32.lt_iff_toInt_lt]; show ¬ b.toInt < 0; omega)
  rw [nI_toInt hk] at h1
  rw [nI_clamp (by omega)]
  exact ⟨k, by omega, rfl, (rr.2 k (by omega)).trans (hu k (by omega))⟩
end
