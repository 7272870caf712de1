section
noncomputable def PMones (h z : Nat → Int32) (e : Nat → Nat → Int64) (t : TA) (a n r : Int32) (t' : TA) : Prop := (r = -2 ∧ (¬ Sh a ∨ ∃ k : Nat, k < 8 ∧ a = nI k ∧ ¬ h k = 2 ∧ ¬ h k = 0 ∧ (n < 0 ∨ ¬ n - n / 4 * 4 = 0 ∨ ¬ n ≤ z k)) ∧ t' = t) ∨ (r = -3 ∧ (∃ k : Nat, k < 8 ∧ a = nI k ∧ h k = 2) ∧ t' = t) ∨ (r = -4 ∧ (∃ k : Nat, k < 8 ∧ a = nI k ∧ ¬ h k = 2 ∧ h k = 0) ∧ t' = t) ∨ ∃ k m : Nat, k < 8 ∧ a = nI k ∧ ¬ h k = 2 ∧ ¬ h k = 0 ∧ n = nI (4 * m) ∧ 4 * m ≤ 40 ∧ n ≤ z k ∧ (t', r) = onG (e k) m 0 t 0
theorem on_cong {e f : Nat → Int64} : ∀ n i t c, (∀ j, i ≤ j → j < i + 4 * n → e j = f j) → onG e n i t c = onG f n i t c := by
  intro n
  induction n with
  | zero => intro i t c _; rfl
  | succ n ih =>
    intro i t c h
    unfold onG
    rw [h i (by omega) (by omega), h (i + 1) (by omega) (by omega), h (i + 2) (by omega) (by omega), h (i + 3) (by omega) (by omega), ih (i + 4) _ _ (fun j h1 h2 => h j (by omega) (by omega))]
theorem gA_cong {f g : Nat → Bool} {K : Nat → Int32} : ∀ n, (∀ p, p < n → f p = g p) → gA f K n = gA g K n := by
  intro n
  induction n with
  | zero => intro _; rfl
  | succ n ih =>
    intro h
    unfold gA
    rw [h n (by omega), ih (fun p hp => h p (by omega))]
theorem mgr_mkn {t : TA} {b : Nat} {s : Int32} (h8 : T_np t ≤ 8) : mgr t b s = mkn t b (s &&& zthere t) := by
  unfold mgr mkn
  refine gA_cong _ (fun p hp => ?_)
  rw [bitb_and (by omega), bitb_th (by omega), decide_eq_true hp, Bool.true_and]
theorem ws_cong {f g : Nat → Int32} : ∀ n, (∀ b, b < n → f b = g b) → wsum f n = wsum g n := by
  intro n
  induction n with
  | zero => intro _; rfl
  | succ n ih =>
    intro h
    unfold wsum
    rw [h n (by omega), ih (fun p hp => h p (by omega))]
theorem mvo_waF {t : TA} {s : Int32} (h8 : T_np t ≤ 8) : mvo t s = waF t (s &&& zthere t) := ws_cong _ (fun b _ => by rw [mgr_mkn h8])
theorem mvo_all {t : TA} (h8 : T_np t ≤ 8) : mvo t ((1 : Int32) <<< (nI (T_np t) &&& 31) - 1) = zval t := by rw [mvo_waF h8, all_there h8]; rfl
theorem WI_rdG {loud most : Int32} : ∀ n j t c, WI t → WI (rdG loud most n j t c).1 := by
  intro n
  induction n with
  | zero => intro j t c h; exact h
  | succ n ih =>
    intro j t c h
    have n1 := h.1.1.1
    have n2 := h.1.1.2
    by_cases c1 : most ≤ nI j
    · rw [rd_m c1]; exact h
    · rcases du_in t (T_nb t) with e | ⟨k, hk, e⟩
      · rw [rd_u e]; exact h
      · rcases br_in t k (T_np t) with e2 | ⟨p, hp, e2⟩
        · rw [rd_b (k := k) e (by omega) e2]; exact h
        · rw [rd_go c1 (k := k) e (by omega) (i := p) e2 (by omega)]
          exact ih _ _ _ (WI_rdS h hp hk)
theorem WI_act {t : TA} {k a : Int32} (h : WI t) : WI (zact t k a).1 := by
  unfold zact
  split
  · exact WI_rdG _ _ _ _ h
  · split
    · exact WI_rdG _ _ _ _ h
    · split
      · exact WI_rdG _ _ _ _ h
      · split
        · exact WI_ch h
        · split
          · exact WI_ch (WI_ch h)
          · split
            · exact WI_rdG _ _ _ _ (WI_ch h)
            · exact h
noncomputable def PMyears (h q am : Nat → Int32) (t : TA) (a n r : Int32) (t' : TA) : Prop := (r = -2 ∧ (¬ Sh a ∨ ¬ Iv n.toInt64 1 20) ∧ t' = t) ∨ (r = -3 ∧ Iv n.toInt64 1 20 ∧ (∃ k : Nat, k < 8 ∧ a = nI k ∧ h k = 1) ∧ t' = t) ∨ (r = -4 ∧ Iv n.toInt64 1 20 ∧ (∃ k : Nat, k < 8 ∧ a = nI k ∧ ¬ h k = 1 ∧ h k = 0) ∧ t' = t) ∨ ∃ k m : Nat, k < 8 ∧ a = nI k ∧ ¬ h k = 1 ∧ ¬ h k = 0 ∧ 1 ≤ m ∧ m ≤ 20 ∧ n = nI m ∧ (t', r) = yrG (q k) (am k) m t 0
theorem ex_k {f : Nat → Int32} {k1 : Nat} (h1 : k1 < 8) (h : ∃ k : Nat, k < 8 ∧ nI k1 = nI k ∧ ¬ f k = 1 ∧ ¬ f k = 0) : ¬ f k1 = 1 ∧ ¬ f k1 = 0 := by
  obtain ⟨k, hk, e, h2⟩ := h
  have e := nI_inj (by omega) (by omega) e
  subst e
  exact h2
theorem yr_st {K A0 xS v : Int32} {n : Nat} {tJ tX : TA} {R : TA × Int32} (hR : yrG K A0 (n + 1) tJ xS = R) (e : tX = zey (zdd (zact tJ K A0).1)) (ev : v = zval (zact tJ K A0).1) : yrG K A0 n tX (xS + v) = R := by
  rw [e, ev, ← hR]
  rfl
set_option maxHeartbeats 4000000 in
set_option maxRecDepth 100000 in
theorem x_X6_ones (l : Launch) (G : va_G) (cy : Nat → ClassId) (sz : Nat) (qm : Nat) (qmh : Nat) (qmo : Nat) (qmz : Nat) (qmR : Nat) (qmv : Nat) (qmk : Nat) (qma : Nat) (qmt : Nat) (kZ : Nat) (qmr : Nat) (tA : TA) (qmB : Nat) (qmO : Nat) (qmK : Nat) (iEn : Int32) (iTk : Int32) (uP : UM) (uU : UM) (kAt : Nat) (iTo : Int32) (iFr : Int32) (JFi : Int64) (iFa : Int32) (qm3 : Nat) (iSt : Int32) (iLv : Int32) (iWs : Int32) (vLa : Value) (qmu : Nat) (qmy : Nat) (qmb : Nat) (qms : Nat) (iOm : Int32) (fMh : Nat → Int32) (fMz : Nat → Int32) (rR : Nat → Nat) (eR : Nat → Nat → Int64) (rB : Nat → Nat) (rO : Nat → Nat) (rK : Nat → Nat) (fMr : Nat → Int32) (iA : Int32) (iB : Int32)  (hB : T_nb tA ≤ 8) (hPp : T_np tA ≤ 8) (hTI : TI tA) (hSz : ∀ s, s < 8 → ∃ n : Nat, n ≤ 40 ∧ fMz s = nI n) (hWI : WI tA) : MW l yX6_ones cX6_ones 6 (some .int) 16 0 0 G cy (zzO qm 5 (.ref qmh :: .ref qmo :: .ref qmz :: .ref qmR :: .ref qmv :: .ref qmk :: .ref qma :: .ref qmt :: .int (nI kZ) :: .ref qmr :: .int (nI (T_nb tA)) :: .ref qmB :: .int (nI (T_np tA)) :: .ref qmO :: .ref qmK :: .int iEn :: .int iTk :: .int (T_sd tA) :: ov uP :: ov uU :: .int (nI kAt) :: .int iTo :: .int iFr :: .long JFi :: .int iFa :: .ref qm3 :: .int iSt :: .int iLv :: .int iWs :: vLa :: .ref qmu :: .ref qmy :: .ref qmb :: .ref qms :: .int iOm :: []) :: zzI cy qmh 8 fMh :: zzI cy qmz 8 fMz :: zzG cy 4 qmR rR :: zzJ cy (rR 0) 40 (eR 0) :: zzJ cy (rR 1) 40 (eR 1) :: zzJ cy (rR 2) 40 (eR 2) :: zzJ cy (rR 3) 40 (eR 3) :: zzJ cy (rR 4) 40 (eR 4) :: zzJ cy (rR 5) 40 (eR 5) :: zzJ cy (rR 6) 40 (eR 6) :: zzJ cy (rR 7) 40 (eR 7) :: zzG cy 3 qmB rB :: zzI cy (rB 0) 4 (bkR tA 0) :: zzI cy (rB 1) 4 (bkR tA 1) :: zzI cy (rB 2) 4 (bkR tA 2) :: zzI cy (rB 3) 4 (bkR tA 3) :: zzI cy (rB 4) 4 (bkR tA 4) :: zzI cy (rB 5) 4 (bkR tA 5) :: zzI cy (rB 6) 4 (bkR tA 6) :: zzI cy (rB 7) 4 (bkR tA 7) :: zzG cy 3 qmO rO :: zzI cy (rO 0) 5 (onR tA 0) :: zzI cy (rO 1) 5 (onR tA 1) :: zzI cy (rO 2) 5 (onR tA 2) :: zzI cy (rO 3) 5 (onR tA 3) :: zzI cy (rO 4) 5 (onR tA 4) :: zzI cy (rO 5) 5 (onR tA 5) :: zzI cy (rO 6) 5 (onR tA 6) :: zzI cy (rO 7) 5 (onR tA 7) :: zzG cy 3 qmK rK :: zzI cy (rK 0) 8 (T_kn tA 0) :: zzI cy (rK 1) 8 (T_kn tA 1) :: zzI cy (rK 2) 8 (T_kn tA 2) :: zzI cy (rK 3) 8 (T_kn tA 3) :: zzI cy (rK 4) 8 (T_kn tA 4) :: zzI cy (rK 5) 8 (T_kn tA 5) :: zzI cy (rK 6) 8 (T_kn tA 6) :: zzI cy (rK 7) 8 (T_kn tA 7) :: zzI cy qmr 8 fMr :: []) sz [.ref qm, .int iA, .int iB] (Wi G (fun r u => ∃ (tN : TA) (fNr : Nat → Int32), u = (zzO qm 5 (.ref qmh :: .ref qmo :: .ref qmz :: .ref qmR :: .ref qmv :: .ref qmk :: .ref qma :: .ref qmt :: .int (nI kZ) :: .ref qmr :: .int (nI (T_nb tN)) :: .ref qmB :: .int (nI (T_np tN)) :: .ref qmO :: .ref qmK :: .int iEn :: .int iTk :: .int (T_sd tN) :: ov uP :: ov uU :: .int (nI kAt) :: .int iTo :: .int iFr :: .long JFi :: .int iFa :: .ref qm3 :: .int iSt :: .int iLv :: .int iWs :: vLa :: .ref qmu :: .ref qmy :: .ref qmb :: .ref qms :: .int iOm :: []) :: zzI cy qmh 8 fMh :: zzI cy qmz 8 fMz :: zzG cy 4 qmR rR :: zzJ cy (rR 0) 40 (eR 0) :: zzJ cy (rR 1) 40 (eR 1) :: zzJ cy (rR 2) 40 (eR 2) :: zzJ cy (rR 3) 40 (eR 3) :: zzJ cy (rR 4) 40 (eR 4) :: zzJ cy (rR 5) 40 (eR 5) :: zzJ cy (rR 6) 40 (eR 6) :: zzJ cy (rR 7) 40 (eR 7) :: zzG cy 3 qmB rB :: zzI cy (rB 0) 4 (bkR tN 0) :: zzI cy (rB 1) 4 (bkR tN 1) :: zzI cy (rB 2) 4 (bkR tN 2) :: zzI cy (rB 3) 4 (bkR tN 3) :: zzI cy (rB 4) 4 (bkR tN 4) :: zzI cy (rB 5) 4 (bkR tN 5) :: zzI cy (rB 6) 4 (bkR tN 6) :: zzI cy (rB 7) 4 (bkR tN 7) :: zzG cy 3 qmO rO :: zzI cy (rO 0) 5 (onR tN 0) :: zzI cy (rO 1) 5 (onR tN 1) :: zzI cy (rO 2) 5 (onR tN 2) :: zzI cy (rO 3) 5 (onR tN 3) :: zzI cy (rO 4) 5 (onR tN 4) :: zzI cy (rO 5) 5 (onR tN 5) :: zzI cy (rO 6) 5 (onR tN 6) :: zzI cy (rO 7) 5 (onR tN 7) :: zzG cy 3 qmK rK :: zzI cy (rK 0) 8 (T_kn tN 0) :: zzI cy (rK 1) 8 (T_kn tN 1) :: zzI cy (rK 2) 8 (T_kn tN 2) :: zzI cy (rK 3) 8 (T_kn tN 3) :: zzI cy (rK 4) 8 (T_kn tN 4) :: zzI cy (rK 5) 8 (T_kn tN 5) :: zzI cy (rK 6) 8 (T_kn tN 6) :: zzI cy (rK 7) 8 (T_kn tN 7) :: zzI cy qmr 8 fNr :: []) ∧ (WI tN ∧ PMones fMh fMz eR tA iA iB r tN) ∧ (True))) := by
  refine enW RX6 (by decide +kernel) rfl (Nat.le_of_ble_eq_true rfl) (fun p e s m below meth c ls A hx hb hml hown hts hr hlocks hP hN hl hin hD hA hS => ?_)
  have hin : meth.name = _ := hin
  have hK := hN.1
  replace hl : lv_has ls 6 [(0, .ref qm), (1, .int iA), (2, .int iB)] := hl
  refine lv_aload_n hx hb (g_42 bX6_ones rfl) rfl (lv_at hl 0 rfl) ?_
  refine lv_iload_n hx hb (g_27 bX6_ones rfl) rfl (lv_at hl 1 rfl) ?_
  refine cVi (As := [.int iA]) (rest := []) (b := qm) (q := (RX6, TX6, 35)) ⟨hx, hb, hml, hown, hts⟩ (c_X6_noRow l G cy (s.heap).size qm qmh (.ref qmo) (.ref qmz) (.ref qmR) (.ref qmv) (.ref qmk) (.ref qma) (.ref qmt) (.int (nI kZ)) qmr tA qmB qmO qmK iEn iTk (ov uP) (ov uU) (.int (nI kAt)) (.int iTo) (.int iFr) (.long JFi) (.int iFa) (.ref qm3) (.int iSt) iLv iWs vLa (.ref qmu) (.ref qmy) (.ref qmb) (.ref qms) (.int iOm) fMh fMr iA) L_X6_95 hN hP hD hS hA (trueIx 0 (true :: true :: false :: false :: false :: false :: false :: false :: false :: false :: false :: false :: false :: false :: false :: false :: false :: false :: false :: false :: false :: false :: false :: false :: false :: false :: false :: false :: false :: false :: false :: false :: false :: false :: false :: false :: false :: false :: false :: true :: [])) (false :: false :: true :: true :: true :: true :: true :: true :: true :: true :: true :: true :: true :: true :: true :: true :: true :: true :: true :: true :: true :: true :: true :: true :: true :: true :: true :: true :: true :: true :: true :: true :: true :: true :: true :: true :: true :: true :: true :: false :: []) (sel_eq rfl rfl) (by decide +kernel) rfl 0 5 rfl rfl rfl ⟨Nat.le_of_ble_eq_true rfl, Nat.le_of_ble_eq_true rfl⟩ hl.1 (Nat.le_of_ble_eq_true rfl) (g_182 (v := 95) bX6_ones rfl) ⟨Nat.le_of_ble_eq_true rfl, Nat.le_of_ble_eq_true rfl⟩ (fun r_1 u_3 H locs h_2 => ?_)
  clear hP hD hS
  intro hP hD hS
  obtain ⟨fX_4, hu9, h_2⟩ := h_2
  have hPD := pd_eq (_ :: _ :: _ :: _ :: _ :: _ :: _ :: _ :: _ :: _ :: _ :: _ :: _ :: _ :: _ :: _ :: _ :: _ :: _ :: _ :: _ :: _ :: _ :: _ :: _ :: _ :: _ :: _ :: _ :: _ :: _ :: _ :: _ :: _ :: _ :: _ :: _ :: _ :: _ :: zzI cy qmr 8 fX_4 :: []) hP hD hu9 rfl
  clear hP hD hu9
  obtain ⟨hP, hD⟩ := hPD
  rcases h_2 with ⟨rfl, h_5⟩ | ⟨rfl, h_5⟩ | ⟨rfl, h_5⟩ | ⟨rfl, h_5⟩
  · refine lv_istore_n (lv' := [(3, .int (-2)), (0, .ref qm), (1, .int iA), (2, .int iB)]) hx hb (g_62 bX6_ones rfl) rfl hl (by decide +kernel) rfl (fun ls => ?_)
    clear hl
    intro hl
    refine lv_iload_n hx hb (g_29 bX6_ones rfl) rfl (lv_at hl 0 rfl) ?_
    refine lv_if_eq (tgt := 12) hx hb dX6_ones_7 (by decide +kernel) (fun h9 => absurd h9 (by decide +kernel)) (fun _ => ?_)
    refine lv_iload_n hx hb (g_29 bX6_ones rfl) rfl (lv_at hl 0 rfl) ?_
    exact endWs [(false :: false :: false :: false :: false :: false :: false :: false :: false :: false :: false :: false :: false :: false :: false :: false :: false :: false :: false :: false :: false :: false :: false :: false :: false :: false :: false :: false :: false :: false :: false :: false :: false :: false :: false :: false :: false :: true :: true :: []), (true :: true :: true :: true :: true :: true :: true :: true :: true :: true :: true :: true :: true :: true :: true :: true :: true :: true :: true :: true :: true :: true :: true :: true :: true :: true :: true :: true :: true :: true :: true :: true :: true :: true :: true :: true :: true :: false :: false :: true :: [])] hx hb hr hlocks rfl hP hD rfl (by decide +kernel) hS ⟨tA, fX_4, rfl, ⟨hWI, Or.inl ⟨rfl, Or.inl h_5, rfl⟩⟩, trivial⟩ (g_172 bX6_ones rfl)
  · obtain ⟨k_7, hk_8, rfl, h_9⟩ := h_5
    refine lv_istore_n (lv' := [(3, .int (-3)), (0, .ref qm), (1, .int (nI k_7)), (2, .int iB)]) hx hb (g_62 bX6_ones rfl) rfl hl (by decide +kernel) rfl (fun ls => ?_)
    clear hl
    intro hl
    refine lv_iload_n hx hb (g_29 bX6_ones rfl) rfl (lv_at hl 0 rfl) ?_
    refine lv_if_eq (tgt := 12) hx hb dX6_ones_7 (by decide +kernel) (fun h9 => absurd h9 (by decide +kernel)) (fun _ => ?_)
    refine lv_iload_n hx hb (g_29 bX6_ones rfl) rfl (lv_at hl 0 rfl) ?_
    exact endWs [(false :: false :: false :: false :: false :: false :: false :: false :: false :: false :: false :: false :: false :: false :: false :: false :: false :: false :: false :: false :: false :: false :: false :: false :: false :: false :: false :: false :: false :: false :: false :: false :: false :: false :: false :: false :: false :: true :: true :: []), (true :: true :: true :: true :: true :: true :: true :: true :: true :: true :: true :: true :: true :: true :: true :: true :: true :: true :: true :: true :: true :: true :: true :: true :: true :: true :: true :: true :: true :: true :: true :: true :: true :: true :: true :: true :: true :: false :: false :: true :: [])] hx hb hr hlocks rfl hP hD rfl (by decide +kernel) hS ⟨tA, fX_4, rfl, ⟨hWI, Or.inr (Or.inl ⟨rfl, ⟨k_7, hk_8, rfl, h_9⟩, rfl⟩)⟩, trivial⟩ (g_172 bX6_ones rfl)
  · obtain ⟨k_11, hk_12, rfl, h_13, h_14⟩ := h_5
    refine lv_istore_n (lv' := [(3, .int (-4)), (0, .ref qm), (1, .int (nI k_11)), (2, .int iB)]) hx hb (g_62 bX6_ones rfl) rfl hl (by decide +kernel) rfl (fun ls => ?_)
    clear hl
    intro hl
    refine lv_iload_n hx hb (g_29 bX6_ones rfl) rfl (lv_at hl 0 rfl) ?_
    refine lv_if_eq (tgt := 12) hx hb dX6_ones_7 (by decide +kernel) (fun h9 => absurd h9 (by decide +kernel)) (fun _ => ?_)
    refine lv_iload_n hx hb (g_29 bX6_ones rfl) rfl (lv_at hl 0 rfl) ?_
    exact endWs [(false :: false :: false :: false :: false :: false :: false :: false :: false :: false :: false :: false :: false :: false :: false :: false :: false :: false :: false :: false :: false :: false :: false :: false :: false :: false :: false :: false :: false :: false :: false :: false :: false :: false :: false :: false :: false :: true :: true :: []), (true :: true :: true :: true :: true :: true :: true :: true :: true :: true :: true :: true :: true :: true :: true :: true :: true :: true :: true :: true :: true :: true :: true :: true :: true :: true :: true :: true :: true :: true :: true :: true :: true :: true :: true :: true :: true :: false :: false :: true :: [])] hx hb hr hlocks rfl hP hD rfl (by decide +kernel) hS ⟨tA, fX_4, rfl, ⟨hWI, Or.inr (Or.inr (Or.inl ⟨rfl, ⟨k_11, hk_12, rfl, h_13, h_14⟩, rfl⟩))⟩, trivial⟩ (g_172 bX6_ones rfl)
  · obtain ⟨k_16, hk_17, rfl, h_18, h_19⟩ := h_5
    refine lv_istore_n (lv' := [(3, .int 0), (0, .ref qm), (1, .int (nI k_16)), (2, .int iB)]) hx hb (g_62 bX6_ones rfl) rfl hl (by decide +kernel) rfl (fun ls => ?_)
    clear hl
    intro hl
    refine lv_iload_n hx hb (g_29 bX6_ones rfl) rfl (lv_at hl 0 rfl) ?_
    refine lv_if_eq (tgt := 12) hx hb dX6_ones_7 (by decide +kernel) (fun _ => ?_) (fun h9 => absurd (by decide +kernel) h9)
    refine lv_iload_n hx hb (g_28 bX6_ones rfl) rfl (lv_at hl 3 rfl) ?_
    refine lv_if_lt (tgt := 32) hx hb dX6_ones_13 (by decide +kernel) (fun c_21 => ?_) (fun c_21 => ?_)
    · refine lv_aload_n hx hb (g_42 bX6_ones rfl) rfl (lv_at hl 1 rfl) ?_
      refine lv_bipush (v := (-2)) hx hb dX6_ones_33 (by decide +kernel) ?_
      refine cVi (As := [.int (-2)]) (rest := []) (b := qm) (q := (RX6, TX6, 35)) ⟨hx, hb, hml, hown, hts⟩ (c_X6_refuse2 l G cy (H).size qm (.ref qmh) (.ref qmo) (.ref qmz) (.ref qmR) (.ref qmv) (.ref qmk) (.ref qma) (.ref qmt) (.int (nI kZ)) qmr tA qmB qmO qmK iEn iTk (ov uP) (ov uU) (.int (nI kAt)) (.int iTo) (.int iFr) (.long JFi) (.int iFa) (.ref qm3) (.int iSt) iLv iWs vLa (.ref qmu) (.ref qmy) (.ref qmb) (.ref qms) (.int iOm) fX_4) L_X6_91 hN hP hD hS hA [37, 39] (true :: true :: true :: true :: true :: true :: true :: true :: true :: true :: true :: true :: true :: true :: true :: true :: true :: true :: true :: true :: true :: true :: true :: true :: true :: true :: true :: true :: true :: true :: true :: true :: true :: true :: true :: true :: true :: false :: true :: false :: []) rfl (by decide +kernel) rfl 37 5 rfl rfl rfl ⟨Nat.le_of_ble_eq_true rfl, Nat.le_of_ble_eq_true rfl⟩ hl.1 (Nat.le_of_ble_eq_true rfl) (g_182 (v := 91) bX6_ones rfl) ⟨Nat.le_of_ble_eq_true rfl, Nat.le_of_ble_eq_true rfl⟩ (fun r_22 u_24 H locs h_23 => ?_)
      clear hP hD hS
      intro hP hD hS
      obtain ⟨fX_25, hu9, h_23⟩ := h_23
      have hPD := pd_eq (_ :: _ :: _ :: _ :: _ :: _ :: _ :: _ :: _ :: _ :: _ :: _ :: _ :: _ :: _ :: _ :: _ :: _ :: _ :: _ :: _ :: _ :: _ :: _ :: _ :: _ :: _ :: _ :: _ :: _ :: _ :: _ :: _ :: _ :: _ :: _ :: _ :: _ :: _ :: zzI cy qmr 8 fX_25 :: []) hP hD hu9 rfl
      clear hP hD hu9
      obtain ⟨hP, hD⟩ := hPD
      subst h_23
      exact endWs [(false :: false :: false :: false :: false :: false :: false :: false :: false :: false :: false :: false :: false :: false :: false :: false :: false :: false :: false :: false :: false :: false :: false :: false :: false :: false :: false :: false :: false :: false :: false :: false :: false :: false :: false :: false :: false :: false :: true :: []), (false :: false :: false :: false :: false :: false :: false :: false :: false :: false :: false :: false :: false :: false :: false :: false :: false :: false :: false :: false :: false :: false :: false :: false :: false :: false :: false :: false :: false :: false :: false :: false :: false :: false :: false :: false :: false :: true :: []), (true :: true :: true :: true :: true :: true :: true :: true :: true :: true :: true :: true :: true :: true :: true :: true :: true :: true :: true :: true :: true :: true :: true :: true :: true :: true :: true :: true :: true :: true :: true :: true :: true :: true :: true :: true :: true :: false :: false :: true :: [])] hx hb hr hlocks rfl hP hD rfl (by decide +kernel) hS ⟨tA, fX_25, rfl, ⟨hWI, Or.inl ⟨rfl, Or.inr ⟨k_16, hk_17, rfl, h_18, h_19, Or.inl c_21⟩, rfl⟩⟩, trivial⟩ (g_172 bX6_ones rfl)
    · refine lv_iload_n hx hb (g_28 bX6_ones rfl) rfl (lv_at hl 3 rfl) ?_
      refine lv_iconst (v := 4) hx hb (g_7 bX6_ones rfl) (by decide +kernel) ?_
      refine lv_irem hx hb (g_112 bX6_ones rfl) (by decide +kernel) ?_
      refine lv_if_ne (tgt := 32) hx hb dX6_ones_19 (by decide +kernel) (fun c_26 => ?_) (fun c_26 => ?_)
      · refine lv_aload_n hx hb (g_42 bX6_ones rfl) rfl (lv_at hl 1 rfl) ?_
        refine lv_bipush (v := (-2)) hx hb dX6_ones_33 (by decide +kernel) ?_
        refine cVi (As := [.int (-2)]) (rest := []) (b := qm) (q := (RX6, TX6, 35)) ⟨hx, hb, hml, hown, hts⟩ (c_X6_refuse2 l G cy (H).size qm (.ref qmh) (.ref qmo) (.ref qmz) (.ref qmR) (.ref qmv) (.ref qmk) (.ref qma) (.ref qmt) (.int (nI kZ)) qmr tA qmB qmO qmK iEn iTk (ov uP) (ov uU) (.int (nI kAt)) (.int iTo) (.int iFr) (.long JFi) (.int iFa) (.ref qm3) (.int iSt) iLv iWs vLa (.ref qmu) (.ref qmy) (.ref qmb) (.ref qms) (.int iOm) fX_4) L_X6_91 hN hP hD hS hA [37, 39] (true :: true :: true :: true :: true :: true :: true :: true :: true :: true :: true :: true :: true :: true :: true :: true :: true :: true :: true :: true :: true :: true :: true :: true :: true :: true :: true :: true :: true :: true :: true :: true :: true :: true :: true :: true :: true :: false :: true :: false :: []) rfl (by decide +kernel) rfl 37 5 rfl rfl rfl ⟨Nat.le_of_ble_eq_true rfl, Nat.le_of_ble_eq_true rfl⟩ hl.1 (Nat.le_of_ble_eq_true rfl) (g_182 (v := 91) bX6_ones rfl) ⟨Nat.le_of_ble_eq_true rfl, Nat.le_of_ble_eq_true rfl⟩ (fun r_27 u_29 H locs h_28 => ?_)
        clear hP hD hS
        intro hP hD hS
        obtain ⟨fX_30, hu9, h_28⟩ := h_28
        have hPD := pd_eq (_ :: _ :: _ :: _ :: _ :: _ :: _ :: _ :: _ :: _ :: _ :: _ :: _ :: _ :: _ :: _ :: _ :: _ :: _ :: _ :: _ :: _ :: _ :: _ :: _ :: _ :: _ :: _ :: _ :: _ :: _ :: _ :: _ :: _ :: _ :: _ :: _ :: _ :: _ :: zzI cy qmr 8 fX_30 :: []) hP hD hu9 rfl
        clear hP hD hu9
        obtain ⟨hP, hD⟩ := hPD
        subst h_28
        exact endWs [(false :: false :: false :: false :: false :: false :: false :: false :: false :: false :: false :: false :: false :: false :: false :: false :: false :: false :: false :: false :: false :: false :: false :: false :: false :: false :: false :: false :: false :: false :: false :: false :: false :: false :: false :: false :: false :: false :: true :: []), (false :: false :: false :: false :: false :: false :: false :: false :: false :: false :: false :: false :: false :: false :: false :: false :: false :: false :: false :: false :: false :: false :: false :: false :: false :: false :: false :: false :: false :: false :: false :: false :: false :: false :: false :: false :: false :: true :: []), (true :: true :: true :: true :: true :: true :: true :: true :: true :: true :: true :: true :: true :: true :: true :: true :: true :: true :: true :: true :: true :: true :: true :: true :: true :: true :: true :: true :: true :: true :: true :: true :: true :: true :: true :: true :: true :: false :: false :: true :: [])] hx hb hr hlocks rfl hP hD rfl (by decide +kernel) hS ⟨tA, fX_30, rfl, ⟨hWI, Or.inl ⟨rfl, Or.inr ⟨k_16, hk_17, rfl, h_18, h_19, Or.inr (Or.inl c_26)⟩, rfl⟩⟩, trivial⟩ (g_172 bX6_ones rfl)
      · refine lv_iload_n hx hb (g_28 bX6_ones rfl) rfl (lv_at hl 3 rfl) ?_
        refine lv_aload_n hx hb (g_42 bX6_ones rfl) rfl (lv_at hl 1 rfl) ?_
        refine va_get (D := G) (ci := 5) (v := .ref qmz) (C := RX6) (T := TX6) (N := 35) hx hb hts iX_X6 hown hK hP 37 rfl rfl 2 (by decide +kernel) (hts _ m_t852) (fun _ h9 => h9) rfl (g_180 (v := 16) bX6_ones rfl) ?_
        refine lv_iload_n hx hb (g_27 bX6_ones rfl) rfl (lv_at hl 2 rfl) ?_
        refine va_iald hx hb hK hP 0 0 rfl rfl (in8 (by omega)) (g_46 bX6_ones rfl) ?_
        refine lv_seti (v := fMz k_16) (congrArg fMz (cl8 (by omega))) ?_
        refine lv_icmp_le (tgt := 39) hx hb dX6_ones_29 (by decide +kernel) (fun c_31 => ?_) (fun c_31 => ?_)
        · obtain ⟨n_32, hn_33, en_34⟩ := hSz k_16 hk_17
          obtain ⟨k_35, hk_36, rfl⟩ := sz4m en_34 hn_33 c_21 c_26 c_31
          refine lv_iconst (v := 0) hx hb (g_3 bX6_ones rfl) (by decide +kernel) ?_
          refine lv_istore (lv' := [(4, .int 0), (3, .int 0), (0, .ref qm), (1, .int (nI k_16)), (2, .int (nI (4 * k_35)))]) hx hb (g_54 (v := 4) bX6_ones rfl) hl (by decide +kernel) rfl (fun ls => ?_)
          clear hl
          intro hl
          refine lv_iconst (v := 0) hx hb (g_3 bX6_ones rfl) (by decide +kernel) ?_
          refine lv_istore (lv' := [(5, .int 0), (4, .int 0), (3, .int 0), (0, .ref qm), (1, .int (nI k_16)), (2, .int (nI (4 * k_35)))]) hx hb (g_54 (v := 5) bX6_ones rfl) hl (by decide +kernel) rfl (fun ls => ?_)
          clear hl
          intro hl
          replace hl : lv_has ls 6 [(5, .int (nI (4 * 0))), (4, .int 0), (3, .int 0), (0, .ref qm), (1, .int (nI k_16)), (2, .int (nI (4 * k_35)))] := hl
          have lp_37 : ∀ (n_38 : Nat) (j_40 : Nat) (tJ_41 : TA) (xC_42 : Int32), 10 - j_40 < n_38 → j_40 ≤ k_35 → WI tJ_41 → onG (eR k_16) (k_35 - j_40) (4 * j_40) tJ_41 xC_42 = onG (eR k_16) k_35 0 tA 0 → ∀ (H : Heap) (locs : List Loc) (ls : Array Slot), va_P G CL (zzI cy qmz 8 fMz :: zzG cy 4 qmR rR :: zzJ cy (rR 0) 40 (eR 0) :: zzJ cy (rR 1) 40 (eR 1) :: zzJ cy (rR 2) 40 (eR 2) :: zzJ cy (rR 3) 40 (eR 3) :: zzJ cy (rR 4) 40 (eR 4) :: zzJ cy (rR 5) 40 (eR 5) :: zzJ cy (rR 6) 40 (eR 6) :: zzJ cy (rR 7) 40 (eR 7) :: zzG cy 3 qmB rB :: zzI cy (rB 0) 4 (bkR tJ_41 0) :: zzI cy (rB 1) 4 (bkR tJ_41 1) :: zzI cy (rB 2) 4 (bkR tJ_41 2) :: zzI cy (rB 3) 4 (bkR tJ_41 3) :: zzI cy (rB 4) 4 (bkR tJ_41 4) :: zzI cy (rB 5) 4 (bkR tJ_41 5) :: zzI cy (rB 6) 4 (bkR tJ_41 6) :: zzI cy (rB 7) 4 (bkR tJ_41 7) :: zzG cy 3 qmO rO :: zzI cy (rO 0) 5 (onR tJ_41 0) :: zzI cy (rO 1) 5 (onR tJ_41 1) :: zzI cy (rO 2) 5 (onR tJ_41 2) :: zzI cy (rO 3) 5 (onR tJ_41 3) :: zzI cy (rO 4) 5 (onR tJ_41 4) :: zzI cy (rO 5) 5 (onR tJ_41 5) :: zzI cy (rO 6) 5 (onR tJ_41 6) :: zzI cy (rO 7) 5 (onR tJ_41 7) :: zzG cy 3 qmK rK :: zzI cy (rK 0) 8 (T_kn tJ_41 0) :: zzI cy (rK 1) 8 (T_kn tJ_41 1) :: zzI cy (rK 2) 8 (T_kn tJ_41 2) :: zzI cy (rK 3) 8 (T_kn tJ_41 3) :: zzI cy (rK 4) 8 (T_kn tJ_41 4) :: zzI cy (rK 5) 8 (T_kn tJ_41 5) :: zzI cy (rK 6) 8 (T_kn tJ_41 6) :: zzI cy (rK 7) 8 (T_kn tJ_41 7) :: zzO qm 5 (.ref qmh :: .ref qmo :: .ref qmz :: .ref qmR :: .ref qmv :: .ref qmk :: .ref qma :: .ref qmt :: .int (nI kZ) :: .ref qmr :: .int (nI (T_nb tJ_41)) :: .ref qmB :: .int (nI (T_np tJ_41)) :: .ref qmO :: .ref qmK :: .int iEn :: .int iTk :: .int (T_sd tJ_41) :: ov uP :: ov uU :: .int (nI kAt) :: .int iTo :: .int iFr :: .long JFi :: .int iFa :: .ref qm3 :: .int iSt :: .int iLv :: .int iWs :: vLa :: .ref qmu :: .ref qmy :: .ref qmb :: .ref qms :: .int iOm :: []) :: zzI cy qmh 8 fMh :: zzI cy qmr 8 fX_4 :: []) H → va_D A (zzI cy qmz 8 fMz :: zzG cy 4 qmR rR :: zzJ cy (rR 0) 40 (eR 0) :: zzJ cy (rR 1) 40 (eR 1) :: zzJ cy (rR 2) 40 (eR 2) :: zzJ cy (rR 3) 40 (eR 3) :: zzJ cy (rR 4) 40 (eR 4) :: zzJ cy (rR 5) 40 (eR 5) :: zzJ cy (rR 6) 40 (eR 6) :: zzJ cy (rR 7) 40 (eR 7) :: zzG cy 3 qmB rB :: zzI cy (rB 0) 4 (bkR tJ_41 0) :: zzI cy (rB 1) 4 (bkR tJ_41 1) :: zzI cy (rB 2) 4 (bkR tJ_41 2) :: zzI cy (rB 3) 4 (bkR tJ_41 3) :: zzI cy (rB 4) 4 (bkR tJ_41 4) :: zzI cy (rB 5) 4 (bkR tJ_41 5) :: zzI cy (rB 6) 4 (bkR tJ_41 6) :: zzI cy (rB 7) 4 (bkR tJ_41 7) :: zzG cy 3 qmO rO :: zzI cy (rO 0) 5 (onR tJ_41 0) :: zzI cy (rO 1) 5 (onR tJ_41 1) :: zzI cy (rO 2) 5 (onR tJ_41 2) :: zzI cy (rO 3) 5 (onR tJ_41 3) :: zzI cy (rO 4) 5 (onR tJ_41 4) :: zzI cy (rO 5) 5 (onR tJ_41 5) :: zzI cy (rO 6) 5 (onR tJ_41 6) :: zzI cy (rO 7) 5 (onR tJ_41 7) :: zzG cy 3 qmK rK :: zzI cy (rK 0) 8 (T_kn tJ_41 0) :: zzI cy (rK 1) 8 (T_kn tJ_41 1) :: zzI cy (rK 2) 8 (T_kn tJ_41 2) :: zzI cy (rK 3) 8 (T_kn tJ_41 3) :: zzI cy (rK 4) 8 (T_kn tJ_41 4) :: zzI cy (rK 5) 8 (T_kn tJ_41 5) :: zzI cy (rK 6) 8 (T_kn tJ_41 6) :: zzI cy (rK 7) 8 (T_kn tJ_41 7) :: zzO qm 5 (.ref qmh :: .ref qmo :: .ref qmz :: .ref qmR :: .ref qmv :: .ref qmk :: .ref qma :: .ref qmt :: .int (nI kZ) :: .ref qmr :: .int (nI (T_nb tJ_41)) :: .ref qmB :: .int (nI (T_np tJ_41)) :: .ref qmO :: .ref qmK :: .int iEn :: .int iTk :: .int (T_sd tJ_41) :: ov uP :: ov uU :: .int (nI kAt) :: .int iTo :: .int iFr :: .long JFi :: .int iFa :: .ref qm3 :: .int iSt :: .int iLv :: .int iWs :: vLa :: .ref qmu :: .ref qmy :: .ref qmb :: .ref qms :: .int iOm :: []) :: zzI cy qmh 8 fMh :: zzI cy qmr 8 fX_4 :: []) → va_S A s.heap H locs → lv_has ls 6 [(5, .int (nI (4 * j_40))), (4, .int xC_42), (3, .int 0), (0, .ref qm), (1, .int (nI k_16)), (2, .int (nI (4 * k_35)))] → W p l e (Rm 16 0 0) s m (List.toArray (α := Value) [.ref qm, .int (nI k_16), .int (nI (4 * k_35))]) below meth c H locs 0 0 (MQ below ((Wi G (fun r u => ∃ (tN : TA) (fNr : Nat → Int32), u = (zzO qm 5 (.ref qmh :: .ref qmo :: .ref qmz :: .ref qmR :: .ref qmv :: .ref qmk :: .ref qma :: .ref qmt :: .int (nI kZ) :: .ref qmr :: .int (nI (T_nb tN)) :: .ref qmB :: .int (nI (T_np tN)) :: .ref qmO :: .ref qmK :: .int iEn :: .int iTk :: .int (T_sd tN) :: ov uP :: ov uU :: .int (nI kAt) :: .int iTo :: .int iFr :: .long JFi :: .int iFa :: .ref qm3 :: .int iSt :: .int iLv :: .int iWs :: vLa :: .ref qmu :: .ref qmy :: .ref qmb :: .ref qms :: .int iOm :: []) :: zzI cy qmh 8 fMh :: zzI cy qmz 8 fMz :: zzG cy 4 qmR rR :: zzJ cy (rR 0) 40 (eR 0) :: zzJ cy (rR 1) 40 (eR 1) :: zzJ cy (rR 2) 40 (eR 2) :: zzJ cy (rR 3) 40 (eR 3) :: zzJ cy (rR 4) 40 (eR 4) :: zzJ cy (rR 5) 40 (eR 5) :: zzJ cy (rR 6) 40 (eR 6) :: zzJ cy (rR 7) 40 (eR 7) :: zzG cy 3 qmB rB :: zzI cy (rB 0) 4 (bkR tN 0) :: zzI cy (rB 1) 4 (bkR tN 1) :: zzI cy (rB 2) 4 (bkR tN 2) :: zzI cy (rB 3) 4 (bkR tN 3) :: zzI cy (rB 4) 4 (bkR tN 4) :: zzI cy (rB 5) 4 (bkR tN 5) :: zzI cy (rB 6) 4 (bkR tN 6) :: zzI cy (rB 7) 4 (bkR tN 7) :: zzG cy 3 qmO rO :: zzI cy (rO 0) 5 (onR tN 0) :: zzI cy (rO 1) 5 (onR tN 1) :: zzI cy (rO 2) 5 (onR tN 2) :: zzI cy (rO 3) 5 (onR tN 3) :: zzI cy (rO 4) 5 (onR tN 4) :: zzI cy (rO 5) 5 (onR tN 5) :: zzI cy (rO 6) 5 (onR tN 6) :: zzI cy (rO 7) 5 (onR tN 7) :: zzG cy 3 qmK rK :: zzI cy (rK 0) 8 (T_kn tN 0) :: zzI cy (rK 1) 8 (T_kn tN 1) :: zzI cy (rK 2) 8 (T_kn tN 2) :: zzI cy (rK 3) 8 (T_kn tN 3) :: zzI cy (rK 4) 8 (T_kn tN 4) :: zzI cy (rK 5) 8 (T_kn tN 5) :: zzI cy (rK 6) 8 (T_kn tN 6) :: zzI cy (rK 7) 8 (T_kn tN 7) :: zzI cy qmr 8 fNr :: []) ∧ (WI tN ∧ PMones fMh fMz eR tA (nI k_16) (nI (4 * k_35)) r tN) ∧ (True))) A) (List.toArray (α := Value) [.ref qm, .int (nI k_16), .int (nI (4 * k_35))]) s 0 0 A) (F0 m 45 ls []) := by
            intro n_38
            induction n_38 with
            | zero => intro j_40 tJ_41 xC_42 hm9; exact absurd hm9 (Nat.not_lt_zero _)
            | succ n_38 ih_39 =>
              intro j_40 tJ_41 xC_42 hm_46 hj_43 hW_44 hT_45 H locs ls hP hD hS hl
              refine lv_iload hx hb (g_21 (v := 5) bX6_ones rfl) (lv_at hl 0 rfl) ?_
              refine lv_iload_n hx hb (g_28 bX6_ones rfl) rfl (lv_at hl 5 rfl) ?_
              refine lv_icmp_ge (tgt := 112) hx hb dX6_ones_48 (by decide +kernel) (fun c_47 => ?_) (fun c_47 => ?_)
              · have hlt_48 : j_40 = k_35 := by have := lp_ge rfl rfl (by omega) (by omega) c_47; omega
                have hlt_48r : onG (eR k_16) k_35 0 tA 0 = (tJ_41, xC_42) := by rw [← hT_45, hlt_48, Nat.sub_self]; rfl
                refine lv_iload hx hb (g_21 (v := 4) bX6_ones rfl) (lv_at hl 1 rfl) ?_
                exact endWs [(false :: false :: false :: false :: false :: false :: false :: false :: false :: false :: false :: false :: false :: false :: false :: false :: false :: false :: false :: false :: false :: false :: false :: false :: false :: false :: false :: false :: false :: false :: false :: false :: false :: false :: false :: false :: false :: true :: true :: []), (true :: true :: true :: true :: true :: true :: true :: true :: true :: true :: true :: true :: true :: true :: true :: true :: true :: true :: true :: true :: true :: true :: true :: true :: true :: true :: true :: true :: true :: true :: true :: true :: true :: true :: true :: true :: true :: false :: false :: true :: [])] hx hb hr hlocks rfl hP hD rfl (by decide +kernel) hS ⟨tJ_41, fX_4, rfl, ⟨hW_44, Or.inr (Or.inr (Or.inr ⟨k_16, k_35, hk_17, rfl, h_18, h_19, rfl, by omega, c_31, hlt_48r.symm⟩))⟩, trivial⟩ (g_172 bX6_ones rfl)
              · have hlt_49 : j_40 < k_35 := by have := lp_lt rfl rfl (by omega) (by omega) c_47; omega
                have hlt_49b := hW_44.1.1.1
                have hlt_49p := hW_44.1.1.2
                have hlt_49z := hW_44.2.1
                refine lv_aload_n hx hb (g_42 bX6_ones rfl) rfl (lv_at hl 3 rfl) ?_
                refine lv_aload_n hx hb (g_42 bX6_ones rfl) rfl (lv_at hl 3 rfl) ?_
                refine va_get (D := G) (ci := 5) (v := .ref qmR) (C := RX6) (T := TX6) (N := 35) hx hb hts iX_X6 hown hK hP 37 rfl rfl 3 (by decide +kernel) (hts _ m_t853) (fun _ h9 => h9) rfl (g_180 (v := 21) bX6_ones rfl) ?_
                refine lv_iload_n hx hb (g_27 bX6_ones rfl) rfl (lv_at hl 4 rfl) ?_
                refine va_alda hx hb hK hP 1 4 rfl rfl (in8 (by omega)) (g_50 bX6_ones rfl) ?_
                refine lv_setv (v := .ref (rR k_16)) (g_ref (by omega)) ?_
                refine lv_iload hx hb (g_21 (v := 5) bX6_ones rfl) (lv_at hl 0 rfl) ?_
                refine va_lald hx hb hK hP (2 + k_16) 1 (sg8 (n0 := 2) (f := (fun j => zzJ cy (rR j) 40 (eR j))) rfl rfl rfl rfl rfl rfl rfl rfl k_16 (by omega)) rfl (vp_in_nI (by omega) (by omega)) (g_47 bX6_ones rfl) ?_
                refine lv_setl (v := eR k_16 (4 * j_40)) (congrArg (eR k_16) (nI_clamp (by omega))) ?_
                refine lv_aload_n hx hb (g_42 bX6_ones rfl) rfl (lv_at hl 3 rfl) ?_
                refine va_get (D := G) (ci := 5) (v := .ref qmR) (C := RX6) (T := TX6) (N := 35) hx hb hts iX_X6 hown hK hP 37 rfl rfl 3 (by decide +kernel) (hts _ m_t853) (fun _ h9 => h9) rfl (g_180 (v := 21) bX6_ones rfl) ?_
                refine lv_iload_n hx hb (g_27 bX6_ones rfl) rfl (lv_at hl 4 rfl) ?_
                refine va_alda hx hb hK hP 1 4 rfl rfl (in8 (by omega)) (g_50 bX6_ones rfl) ?_
                refine lv_setv (v := .ref (rR k_16)) (g_ref (by omega)) ?_
                refine lv_iload hx hb (g_21 (v := 5) bX6_ones rfl) (lv_at hl 0 rfl) ?_
                refine lv_iconst (v := 1) hx hb (g_4 bX6_ones rfl) (by decide +kernel) ?_
                refine lv_iadd hx hb (g_96 bX6_ones rfl) ?_
                refine lv_seti (v := nI ((4 * j_40) + 1)) (nI_add _ _) ?_
                refine va_lald hx hb hK hP (2 + k_16) 1 (sg8 (n0 := 2) (f := (fun j => zzJ cy (rR j) 40 (eR j))) rfl rfl rfl rfl rfl rfl rfl rfl k_16 (by omega)) rfl (vp_in_nI (by omega) (by omega)) (g_47 bX6_ones rfl) ?_
                refine lv_setl (v := eR k_16 ((4 * j_40) + 1)) (congrArg (eR k_16) (nI_clamp (by omega))) ?_
                refine lv_aload_n hx hb (g_42 bX6_ones rfl) rfl (lv_at hl 3 rfl) ?_
                refine va_get (D := G) (ci := 5) (v := .ref qmR) (C := RX6) (T := TX6) (N := 35) hx hb hts iX_X6 hown hK hP 37 rfl rfl 3 (by decide +kernel) (hts _ m_t853) (fun _ h9 => h9) rfl (g_180 (v := 21) bX6_ones rfl) ?_
                refine lv_iload_n hx hb (g_27 bX6_ones rfl) rfl (lv_at hl 4 rfl) ?_
                refine va_alda hx hb hK hP 1 4 rfl rfl (in8 (by omega)) (g_50 bX6_ones rfl) ?_
                refine lv_setv (v := .ref (rR k_16)) (g_ref (by omega)) ?_
                refine lv_iload hx hb (g_21 (v := 5) bX6_ones rfl) (lv_at hl 0 rfl) ?_
                refine lv_iconst (v := 2) hx hb (g_5 bX6_ones rfl) (by decide +kernel) ?_
                refine lv_iadd hx hb (g_96 bX6_ones rfl) ?_
                refine lv_seti (v := nI ((4 * j_40) + 2)) (nI_add _ _) ?_
                refine va_lald hx hb hK hP (2 + k_16) 1 (sg8 (n0 := 2) (f := (fun j => zzJ cy (rR j) 40 (eR j))) rfl rfl rfl rfl rfl rfl rfl rfl k_16 (by omega)) rfl (vp_in_nI (by omega) (by omega)) (g_47 bX6_ones rfl) ?_
                refine lv_setl (v := eR k_16 ((4 * j_40) + 2)) (congrArg (eR k_16) (nI_clamp (by omega))) ?_
                refine lv_aload_n hx hb (g_42 bX6_ones rfl) rfl (lv_at hl 3 rfl) ?_
                refine va_get (D := G) (ci := 5) (v := .ref qmR) (C := RX6) (T := TX6) (N := 35) hx hb hts iX_X6 hown hK hP 37 rfl rfl 3 (by decide +kernel) (hts _ m_t853) (fun _ h9 => h9) rfl (g_180 (v := 21) bX6_ones rfl) ?_
                refine lv_iload_n hx hb (g_27 bX6_ones rfl) rfl (lv_at hl 4 rfl) ?_
                refine va_alda hx hb hK hP 1 4 rfl rfl (in8 (by omega)) (g_50 bX6_ones rfl) ?_
                refine lv_setv (v := .ref (rR k_16)) (g_ref (by omega)) ?_
                refine lv_iload hx hb (g_21 (v := 5) bX6_ones rfl) (lv_at hl 0 rfl) ?_
                refine lv_iconst (v := 3) hx hb (g_6 bX6_ones rfl) (by decide +kernel) ?_
                refine lv_iadd hx hb (g_96 bX6_ones rfl) ?_
                refine lv_seti (v := nI ((4 * j_40) + 3)) (nI_add _ _) ?_
                refine va_lald hx hb hK hP (2 + k_16) 1 (sg8 (n0 := 2) (f := (fun j => zzJ cy (rR j) 40 (eR j))) rfl rfl rfl rfl rfl rfl rfl rfl k_16 (by omega)) rfl (vp_in_nI (by omega) (by omega)) (g_47 bX6_ones rfl) ?_
                refine lv_setl (v := eR k_16 ((4 * j_40) + 3)) (congrArg (eR k_16) (nI_clamp (by omega))) ?_
                refine cVi (As := [.long (eR k_16 (4 * j_40)), .long (eR k_16 ((4 * j_40) + 1)), .long (eR k_16 ((4 * j_40) + 2)), .long (eR k_16 ((4 * j_40) + 3))]) (rest := []) (b := qm) (q := (RX6, TX6, 35)) ⟨hx, hb, hml, hown, hts⟩ (x_X6_add l G cy (H).size qm (.ref qmh) (.ref qmo) (.ref qmz) (.ref qmR) (.ref qmv) (.ref qmk) (.ref qma) (.ref qmt) (.int (nI kZ)) (.ref qmr) tJ_41 qmB qmO qmK iEn iTk (ov uP) (ov uU) (.int (nI kAt)) (.int iTo) (.int iFr) (.long JFi) (.int iFa) (.ref qm3) (.int iSt) iLv iWs vLa (.ref qmu) (.ref qmy) (.ref qmb) (.ref qms) (.int iOm) rB rO rK (eR k_16 (4 * j_40)) (eR k_16 ((4 * j_40) + 1)) (eR k_16 ((4 * j_40) + 2)) (eR k_16 ((4 * j_40) + 3)) (by omega) hlt_49z) L_X6_137 hN hP hD hS hA (trueIxs [(false :: false :: false :: false :: false :: false :: false :: false :: false :: false :: false :: false :: false :: false :: false :: false :: false :: false :: false :: false :: false :: false :: false :: false :: false :: false :: false :: false :: false :: false :: false :: false :: false :: false :: false :: false :: false :: true :: []), (false :: false :: false :: false :: false :: false :: false :: false :: false :: false :: true :: true :: true :: true :: true :: true :: true :: true :: true :: true :: true :: true :: true :: true :: true :: true :: true :: true :: true :: true :: true :: true :: true :: true :: true :: true :: true :: [])]) (true :: true :: true :: true :: true :: true :: true :: true :: true :: true :: false :: false :: false :: false :: false :: false :: false :: false :: false :: false :: false :: false :: false :: false :: false :: false :: false :: false :: false :: false :: false :: false :: false :: false :: false :: false :: false :: false :: true :: true :: []) (sels_eq rfl rfl) (by decide +kernel) rfl 37 5 rfl rfl rfl ⟨Nat.le_of_ble_eq_true rfl, Nat.le_of_ble_eq_true rfl⟩ hl.1 (Nat.le_of_ble_eq_true rfl) (g_182 (v := 137) bX6_ones rfl) ⟨Nat.le_of_ble_eq_true rfl, Nat.le_of_ble_eq_true rfl⟩ (fun r_50 u_52 H locs h_51 => ?_)
                clear hP hD hS
                intro hP hD hS
                obtain ⟨tX_53, hu9, h_51⟩ := h_51
                have hPD := pd_eq (_ :: _ :: _ :: _ :: _ :: _ :: _ :: _ :: _ :: _ :: _ :: _ :: zzO qm 5 (.ref qmh :: .ref qmo :: .ref qmz :: .ref qmR :: .ref qmv :: .ref qmk :: .ref qma :: .ref qmt :: .int (nI kZ) :: .ref qmr :: .int (nI (T_nb tX_53)) :: .ref qmB :: .int (nI (T_np tX_53)) :: .ref qmO :: .ref qmK :: .int iEn :: .int iTk :: .int (T_sd tX_53) :: ov uP :: ov uU :: .int (nI kAt) :: .int iTo :: .int iFr :: .long JFi :: .int iFa :: .ref qm3 :: .int iSt :: .int iLv :: .int iWs :: vLa :: .ref qmu :: .ref qmy :: .ref qmb :: .ref qms :: .int iOm :: []) :: _ :: zzI cy (rB 0) 4 (bkR tX_53 0) :: zzI cy (rB 1) 4 (bkR tX_53 1) :: zzI cy (rB 2) 4 (bkR tX_53 2) :: zzI cy (rB 3) 4 (bkR tX_53 3) :: zzI cy (rB 4) 4 (bkR tX_53 4) :: zzI cy (rB 5) 4 (bkR tX_53 5) :: zzI cy (rB 6) 4 (bkR tX_53 6) :: zzI cy (rB 7) 4 (bkR tX_53 7) :: _ :: zzI cy (rO 0) 5 (onR tX_53 0) :: zzI cy (rO 1) 5 (onR tX_53 1) :: zzI cy (rO 2) 5 (onR tX_53 2) :: zzI cy (rO 3) 5 (onR tX_53 3) :: zzI cy (rO 4) 5 (onR tX_53 4) :: zzI cy (rO 5) 5 (onR tX_53 5) :: zzI cy (rO 6) 5 (onR tX_53 6) :: zzI cy (rO 7) 5 (onR tX_53 7) :: _ :: zzI cy (rK 0) 8 (T_kn tX_53 0) :: zzI cy (rK 1) 8 (T_kn tX_53 1) :: zzI cy (rK 2) 8 (T_kn tX_53 2) :: zzI cy (rK 3) 8 (T_kn tX_53 3) :: zzI cy (rK 4) 8 (T_kn tX_53 4) :: zzI cy (rK 5) 8 (T_kn tX_53 5) :: zzI cy (rK 6) 8 (T_kn tX_53 6) :: zzI cy (rK 7) 8 (T_kn tX_53 7) :: []) hP hD hu9 rfl
                clear hP hD hu9
                obtain ⟨hP, hD⟩ := hPD
                rcases h_51 with ⟨rfl, h_54⟩ | ⟨rfl, h_54⟩ | ⟨rfl, h_54⟩
                · refine lv_if_ge (tgt := 103) hx hb dX6_ones_97 (by decide +kernel) (fun h9 => absurd h9 (by decide +kernel)) (fun _ => ?_)
                  refine lv_iload hx hb (g_21 (v := 4) bX6_ones rfl) (lv_at hl 1 rfl) ?_
                  exact endW (u := (zzO qm 5 (.ref qmh :: .ref qmo :: .ref qmz :: .ref qmR :: .ref qmv :: .ref qmk :: .ref qma :: .ref qmt :: .int (nI kZ) :: .ref qmr :: .int (nI (T_nb tX_53)) :: .ref qmB :: .int (nI (T_np tX_53)) :: .ref qmO :: .ref qmK :: .int iEn :: .int iTk :: .int (T_sd tX_53) :: ov uP :: ov uU :: .int (nI kAt) :: .int iTo :: .int iFr :: .long JFi :: .int iFa :: .ref qm3 :: .int iSt :: .int iLv :: .int iWs :: vLa :: .ref qmu :: .ref qmy :: .ref qmb :: .ref qms :: .int iOm :: []) :: zzI cy qmh 8 fMh :: zzI cy qmz 8 fMz :: zzG cy 4 qmR rR :: zzJ cy (rR 0) 40 (eR 0) :: zzJ cy (rR 1) 40 (eR 1) :: zzJ cy (rR 2) 40 (eR 2) :: zzJ cy (rR 3) 40 (eR 3) :: zzJ cy (rR 4) 40 (eR 4) :: zzJ cy (rR 5) 40 (eR 5) :: zzJ cy (rR 6) 40 (eR 6) :: zzJ cy (rR 7) 40 (eR 7) :: zzG cy 3 qmB rB :: zzI cy (rB 0) 4 (bkR tX_53 0) :: zzI cy (rB 1) 4 (bkR tX_53 1) :: zzI cy (rB 2) 4 (bkR tX_53 2) :: zzI cy (rB 3) 4 (bkR tX_53 3) :: zzI cy (rB 4) 4 (bkR tX_53 4) :: zzI cy (rB 5) 4 (bkR tX_53 5) :: zzI cy (rB 6) 4 (bkR tX_53 6) :: zzI cy (rB 7) 4 (bkR tX_53 7) :: zzG cy 3 qmO rO :: zzI cy (rO 0) 5 (onR tX_53 0) :: zzI cy (rO 1) 5 (onR tX_53 1) :: zzI cy (rO 2) 5 (onR tX_53 2) :: zzI cy (rO 3) 5 (onR tX_53 3) :: zzI cy (rO 4) 5 (onR tX_53 4) :: zzI cy (rO 5) 5 (onR tX_53 5) :: zzI cy (rO 6) 5 (onR tX_53 6) :: zzI cy (rO 7) 5 (onR tX_53 7) :: zzG cy 3 qmK rK :: zzI cy (rK 0) 8 (T_kn tX_53 0) :: zzI cy (rK 1) 8 (T_kn tX_53 1) :: zzI cy (rK 2) 8 (T_kn tX_53 2) :: zzI cy (rK 3) 8 (T_kn tX_53 3) :: zzI cy (rK 4) 8 (T_kn tX_53 4) :: zzI cy (rK 5) 8 (T_kn tX_53 5) :: zzI cy (rK 6) 8 (T_kn tX_53 6) :: zzI cy (rK 7) 8 (T_kn tX_53 7) :: zzI cy qmr 8 fX_4 :: [])) hx hb hr hlocks rfl (pSb hP [[false, false, false, false, false, false, false, false, false, false, false, false, true], [false, false, false, false, false, false, false, false, false, false, true], (true :: true :: true :: true :: true :: true :: true :: true :: true :: true :: false :: false :: false :: true :: true :: true :: true :: true :: true :: true :: true :: true :: true :: true :: true :: true :: true :: true :: true :: true :: true :: true :: true :: true :: true :: true :: true :: true :: true :: true :: []), [false, false, false, false, false, false, false, false, false, false, false, true]] rfl rfl) (dSb hD [[false, false, false, false, false, false, false, false, false, false, false, false, true], [false, false, false, false, false, false, false, false, false, false, true], (true :: true :: true :: true :: true :: true :: true :: true :: true :: true :: false :: false :: false :: true :: true :: true :: true :: true :: true :: true :: true :: true :: true :: true :: true :: true :: true :: true :: true :: true :: true :: true :: true :: true :: true :: true :: true :: true :: true :: true :: []), [false, false, false, false, false, false, false, false, false, false, false, true]] (by decide +kernel) rfl rfl) hS ⟨tX_53, fX_4, rfl, ⟨by rw [h_54.2]; exact hW_44, Or.inr (Or.inr (Or.inr ⟨k_16, k_35, hk_17, rfl, h_18, h_19, rfl, by omega, c_31, (by rw [← hT_45, on_2 (e := eR k_16) (i := 4 * j_40) h_54.1, h_54.2])⟩))⟩, trivial⟩ (g_172 bX6_ones rfl)
                · refine lv_if_ge (tgt := 103) hx hb dX6_ones_97 (by decide +kernel) (fun h9 => absurd h9 (by decide +kernel)) (fun _ => ?_)
                  refine lv_iload hx hb (g_21 (v := 4) bX6_ones rfl) (lv_at hl 1 rfl) ?_
                  exact endW (u := (zzO qm 5 (.ref qmh :: .ref qmo :: .ref qmz :: .ref qmR :: .ref qmv :: .ref qmk :: .ref qma :: .ref qmt :: .int (nI kZ) :: .ref qmr :: .int (nI (T_nb tX_53)) :: .ref qmB :: .int (nI (T_np tX_53)) :: .ref qmO :: .ref qmK :: .int iEn :: .int iTk :: .int (T_sd tX_53) :: ov uP :: ov uU :: .int (nI kAt) :: .int iTo :: .int iFr :: .long JFi :: .int iFa :: .ref qm3 :: .int iSt :: .int iLv :: .int iWs :: vLa :: .ref qmu :: .ref qmy :: .ref qmb :: .ref qms :: .int iOm :: []) :: zzI cy qmh 8 fMh :: zzI cy qmz 8 fMz :: zzG cy 4 qmR rR :: zzJ cy (rR 0) 40 (eR 0) :: zzJ cy (rR 1) 40 (eR 1) :: zzJ cy (rR 2) 40 (eR 2) :: zzJ cy (rR 3) 40 (eR 3) :: zzJ cy (rR 4) 40 (eR 4) :: zzJ cy (rR 5) 40 (eR 5) :: zzJ cy (rR 6) 40 (eR 6) :: zzJ cy (rR 7) 40 (eR 7) :: zzG cy 3 qmB rB :: zzI cy (rB 0) 4 (bkR tX_53 0) :: zzI cy (rB 1) 4 (bkR tX_53 1) :: zzI cy (rB 2) 4 (bkR tX_53 2) :: zzI cy (rB 3) 4 (bkR tX_53 3) :: zzI cy (rB 4) 4 (bkR tX_53 4) :: zzI cy (rB 5) 4 (bkR tX_53 5) :: zzI cy (rB 6) 4 (bkR tX_53 6) :: zzI cy (rB 7) 4 (bkR tX_53 7) :: zzG cy 3 qmO rO :: zzI cy (rO 0) 5 (onR tX_53 0) :: zzI cy (rO 1) 5 (onR tX_53 1) :: zzI cy (rO 2) 5 (onR tX_53 2) :: zzI cy (rO 3) 5 (onR tX_53 3) :: zzI cy (rO 4) 5 (onR tX_53 4) :: zzI cy (rO 5) 5 (onR tX_53 5) :: zzI cy (rO 6) 5 (onR tX_53 6) :: zzI cy (rO 7) 5 (onR tX_53 7) :: zzG cy 3 qmK rK :: zzI cy (rK 0) 8 (T_kn tX_53 0) :: zzI cy (rK 1) 8 (T_kn tX_53 1) :: zzI cy (rK 2) 8 (T_kn tX_53 2) :: zzI cy (rK 3) 8 (T_kn tX_53 3) :: zzI cy (rK 4) 8 (T_kn tX_53 4) :: zzI cy (rK 5) 8 (T_kn tX_53 5) :: zzI cy (rK 6) 8 (T_kn tX_53 6) :: zzI cy (rK 7) 8 (T_kn tX_53 7) :: zzI cy qmr 8 fX_4 :: [])) hx hb hr hlocks rfl (pSb hP [[false, false, false, false, false, false, false, false, false, false, false, false, true], [false, false, false, false, false, false, false, false, false, false, true], (true :: true :: true :: true :: true :: true :: true :: true :: true :: true :: false :: false :: false :: true :: true :: true :: true :: true :: true :: true :: true :: true :: true :: true :: true :: true :: true :: true :: true :: true :: true :: true :: true :: true :: true :: true :: true :: true :: true :: true :: []), [false, false, false, false, false, false, false, false, false, false, false, true]] rfl rfl) (dSb hD [[false, false, false, false, false, false, false, false, false, false, false, false, true], [false, false, false, false, false, false, false, false, false, false, true], (true :: true :: true :: true :: true :: true :: true :: true :: true :: true :: false :: false :: false :: true :: true :: true :: true :: true :: true :: true :: true :: true :: true :: true :: true :: true :: true :: true :: true :: true :: true :: true :: true :: true :: true :: true :: true :: true :: true :: true :: []), [false, false, false, false, false, false, false, false, false, false, false, true]] (by decide +kernel) rfl rfl) hS ⟨tX_53, fX_4, rfl, ⟨by rw [h_54.2.2]; exact hW_44, Or.inr (Or.inr (Or.inr ⟨k_16, k_35, hk_17, rfl, h_18, h_19, rfl, by omega, c_31, (by rw [← hT_45, on_1 h_54.2.1, h_54.2.2])⟩))⟩, trivial⟩ (g_172 bX6_ones rfl)
                · refine lv_if_ge (tgt := 103) hx hb dX6_ones_97 (by decide +kernel) (fun c_57 => ?_) (fun c_57 => ?_)
                  · refine lv_iinc (v := xC_42 + 1) (lv' := [(4, .int (xC_42 + 1)), (5, .int (nI (4 * j_40))), (3, .int 0), (0, .ref qm), (1, .int (nI k_16)), (2, .int (nI (4 * k_35)))]) hx hb dX6_ones_103 hl (k := 1) rfl (rfl) (by decide +kernel) rfl (fun ls => ?_)
                    clear hl
                    intro hl
                    refine lv_iinc (v := (nI (4 * j_40)) + 4) (lv' := [(5, .int ((nI (4 * j_40)) + 4)), (4, .int (xC_42 + 1)), (3, .int 0), (0, .ref qm), (1, .int (nI k_16)), (2, .int (nI (4 * k_35)))]) hx hb dX6_ones_106 hl (k := 1) rfl (rfl) (by decide +kernel) rfl (fun ls => ?_)
                    clear hl
                    intro hl
                    rw [show (nI (4 * j_40)) + 4 = nI (4 * (j_40 + 1)) from (nI_add (4 * j_40) 4).trans (congrArg nI (by omega))] at hl
                    refine lv_goto (tgt := 45) hx hb dX6_ones_109 (by decide +kernel) ?_
                    exact ih_39 (j_40 + 1) tX_53 (xC_42 + 1) (by omega) (by omega) (by rw [h_54.2.2]; exact WI_zao hW_44 h_54.2.1 h_54.1) (by rw [← hT_45, show k_35 - j_40 = k_35 - (j_40 + 1) + 1 by omega, on_go (e := eR k_16) (i := 4 * j_40) h_54.2.1 h_54.1, h_54.2.2]; rfl) _ _ _ (pSb hP [(true :: true :: true :: true :: true :: true :: true :: true :: true :: true :: false :: false :: false :: true :: true :: true :: true :: true :: true :: true :: true :: true :: true :: true :: true :: true :: true :: true :: true :: true :: true :: true :: true :: true :: true :: true :: true :: true :: true :: true :: []), [false, false, false, false, false, false, false, false, false, false, false, false, true], [false, false, false, false, false, false, false, false, false, false, true, true]] rfl rfl) (dSb hD [(true :: true :: true :: true :: true :: true :: true :: true :: true :: true :: false :: false :: false :: true :: true :: true :: true :: true :: true :: true :: true :: true :: true :: true :: true :: true :: true :: true :: true :: true :: true :: true :: true :: true :: true :: true :: true :: true :: true :: true :: []), [false, false, false, false, false, false, false, false, false, false, false, false, true], [false, false, false, false, false, false, false, false, false, false, true, true]] (by decide +kernel) rfl rfl) hS (lv_sub hl [0, 1, 2, 3, 4, 5] rfl)
                  · exact absurd (Int32.not_lt.mp (nI_nn (by omega))) c_57
          exact lp_37 ((10 - 0) + 1) 0 tA 0 (Nat.lt_succ_self _) (Nat.zero_le _) hWI rfl _ _ ls hP hD hS (lv_sub hl [0, 1, 2, 3, 4, 5] rfl)
        · refine lv_aload_n hx hb (g_42 bX6_ones rfl) rfl (lv_at hl 1 rfl) ?_
          refine lv_bipush (v := (-2)) hx hb dX6_ones_33 (by decide +kernel) ?_
          refine cVi (As := [.int (-2)]) (rest := []) (b := qm) (q := (RX6, TX6, 35)) ⟨hx, hb, hml, hown, hts⟩ (c_X6_refuse2 l G cy (H).size qm (.ref qmh) (.ref qmo) (.ref qmz) (.ref qmR) (.ref qmv) (.ref qmk) (.ref qma) (.ref qmt) (.int (nI kZ)) qmr tA qmB qmO qmK iEn iTk (ov uP) (ov uU) (.int (nI kAt)) (.int iTo) (.int iFr) (.long JFi) (.int iFa) (.ref qm3) (.int iSt) iLv iWs vLa (.ref qmu) (.ref qmy) (.ref qmb) (.ref qms) (.int iOm) fX_4) L_X6_91 hN hP hD hS hA [37, 39] (true :: true :: true :: true :: true :: true :: true :: true :: true :: true :: true :: true :: true :: true :: true :: true :: true :: true :: true :: true :: true :: true :: true :: true :: true :: true :: true :: true :: true :: true :: true :: true :: true :: true :: true :: true :: true :: false :: true :: false :: []) rfl (by decide +kernel) rfl 37 5 rfl rfl rfl ⟨Nat.le_of_ble_eq_true rfl, Nat.le_of_ble_eq_true rfl⟩ hl.1 (Nat.le_of_ble_eq_true rfl) (g_182 (v := 91) bX6_ones rfl) ⟨Nat.le_of_ble_eq_true rfl, Nat.le_of_ble_eq_true rfl⟩ (fun r_58 u_60 H locs h_59 => ?_)
          clear hP hD hS
          intro hP hD hS
          obtain ⟨fX_61, hu9, h_59⟩ := h_59
          have hPD := pd_eq (_ :: _ :: _ :: _ :: _ :: _ :: _ :: _ :: _ :: _ :: _ :: _ :: _ :: _ :: _ :: _ :: _ :: _ :: _ :: _ :: _ :: _ :: _ :: _ :: _ :: _ :: _ :: _ :: _ :: _ :: _ :: _ :: _ :: _ :: _ :: _ :: _ :: _ :: _ :: zzI cy qmr 8 fX_61 :: []) hP hD hu9 rfl
          clear hP hD hu9
          obtain ⟨hP, hD⟩ := hPD
          subst h_59
          exact endWs [(false :: false :: false :: false :: false :: false :: false :: false :: false :: false :: false :: false :: false :: false :: false :: false :: false :: false :: false :: false :: false :: false :: false :: false :: false :: false :: false :: false :: false :: false :: false :: false :: false :: false :: false :: false :: false :: false :: true :: []), (false :: false :: false :: false :: false :: false :: false :: false :: false :: false :: false :: false :: false :: false :: false :: false :: false :: false :: false :: false :: false :: false :: false :: false :: false :: false :: false :: false :: false :: false :: false :: false :: false :: false :: false :: false :: false :: true :: []), (true :: true :: true :: true :: true :: true :: true :: true :: true :: true :: true :: true :: true :: true :: true :: true :: true :: true :: true :: true :: true :: true :: true :: true :: true :: true :: true :: true :: true :: true :: true :: true :: true :: true :: true :: true :: true :: false :: false :: true :: [])] hx hb hr hlocks rfl hP hD rfl (by decide +kernel) hS ⟨tA, fX_61, rfl, ⟨hWI, Or.inl ⟨rfl, Or.inr ⟨k_16, hk_17, rfl, h_18, h_19, Or.inr (Or.inr c_31)⟩, rfl⟩⟩, trivial⟩ (g_172 bX6_ones rfl)
set_option maxHeartbeats 4000000 in
set_option maxRecDepth 100000 in
theorem x_X6_seed (l : Launch) (G : va_G) (cy : Nat → ClassId) (sz : Nat) (qm : Nat) (qmh : Nat) (qmo : Nat) (qmz : Nat) (qmR : Nat) (qmv : Nat) (qmk : Nat) (qma : Nat) (qmt : Nat) (kZ : Nat) (qmr : Nat) (tA : TA) (qmB : Nat) (qmO : Nat) (qmK : Nat) (iEn : Int32) (iTk : Int32) (uP : UM) (uU : UM) (kAt : Nat) (iTo : Int32) (iFr : Int32) (JFi : Int64) (iFa : Int32) (qm3 : Nat) (iSt : Int32) (iLv : Int32) (iWs : Int32) (vLa : Value) (qmu : Nat) (qmy : Nat) (qmb : Nat) (qms : Nat) (iOm : Int32) (rB : Nat → Nat) (rO : Nat → Nat) (rK : Nat → Nat) (iA : Int32)  (hB : T_nb tA ≤ 8) (hPp : T_np tA ≤ 8) (hTI : TI tA) (hWI : WI tA) : MW l yX6_seed cX6_seed 3 (some .int) 16 0 0 G cy [zzO qm 5 (.ref qmh :: .ref qmo :: .ref qmz :: .ref qmR :: .ref qmv :: .ref qmk :: .ref qma :: .ref qmt :: .int (nI kZ) :: .ref qmr :: .int (nI (T_nb tA)) :: .ref qmB :: .int (nI (T_np tA)) :: .ref qmO :: .ref qmK :: .int iEn :: .int iTk :: .int (T_sd tA) :: ov uP :: ov uU :: .int (nI kAt) :: .int iTo :: .int iFr :: .long JFi :: .int iFa :: .ref qm3 :: .int iSt :: .int iLv :: .int iWs :: vLa :: .ref qmu :: .ref qmy :: .ref qmb :: .ref qms :: .int iOm :: []), zzG cy 3 qmB rB, zzI cy (rB 0) 4 (bkR tA 0), zzI cy (rB 1) 4 (bkR tA 1), zzI cy (rB 2) 4 (bkR tA 2), zzI cy (rB 3) 4 (bkR tA 3), zzI cy (rB 4) 4 (bkR tA 4), zzI cy (rB 5) 4 (bkR tA 5), zzI cy (rB 6) 4 (bkR tA 6), zzI cy (rB 7) 4 (bkR tA 7), zzG cy 3 qmO rO, zzI cy (rO 0) 5 (onR tA 0), zzI cy (rO 1) 5 (onR tA 1), zzI cy (rO 2) 5 (onR tA 2), zzI cy (rO 3) 5 (onR tA 3), zzI cy (rO 4) 5 (onR tA 4), zzI cy (rO 5) 5 (onR tA 5), zzI cy (rO 6) 5 (onR tA 6), zzI cy (rO 7) 5 (onR tA 7), zzG cy 3 qmK rK, zzI cy (rK 0) 8 (T_kn tA 0), zzI cy (rK 1) 8 (T_kn tA 1), zzI cy (rK 2) 8 (T_kn tA 2), zzI cy (rK 3) 8 (T_kn tA 3), zzI cy (rK 4) 8 (T_kn tA 4), zzI cy (rK 5) 8 (T_kn tA 5), zzI cy (rK 6) 8 (T_kn tA 6), zzI cy (rK 7) 8 (T_kn tA 7)] sz [.ref qm, .int iA] (Wi G (fun r u => ∃ (tN : TA), u = [zzO qm 5 (.ref qmh :: .ref qmo :: .ref qmz :: .ref qmR :: .ref qmv :: .ref qmk :: .ref qma :: .ref qmt :: .int (nI kZ) :: .ref qmr :: .int (nI (T_nb tN)) :: .ref qmB :: .int (nI (T_np tN)) :: .ref qmO :: .ref qmK :: .int iEn :: .int iTk :: .int (T_sd tN) :: ov uP :: ov uU :: .int (nI kAt) :: .int iTo :: .int iFr :: .long JFi :: .int iFa :: .ref qm3 :: .int iSt :: .int iLv :: .int iWs :: vLa :: .ref qmu :: .ref qmy :: .ref qmb :: .ref qms :: .int iOm :: []), zzG cy 3 qmB rB, zzI cy (rB 0) 4 (bkR tN 0), zzI cy (rB 1) 4 (bkR tN 1), zzI cy (rB 2) 4 (bkR tN 2), zzI cy (rB 3) 4 (bkR tN 3), zzI cy (rB 4) 4 (bkR tN 4), zzI cy (rB 5) 4 (bkR tN 5), zzI cy (rB 6) 4 (bkR tN 6), zzI cy (rB 7) 4 (bkR tN 7), zzG cy 3 qmO rO, zzI cy (rO 0) 5 (onR tN 0), zzI cy (rO 1) 5 (onR tN 1), zzI cy (rO 2) 5 (onR tN 2), zzI cy (rO 3) 5 (onR tN 3), zzI cy (rO 4) 5 (onR tN 4), zzI cy (rO 5) 5 (onR tN 5), zzI cy (rO 6) 5 (onR tN 6), zzI cy (rO 7) 5 (onR tN 7), zzG cy 3 qmK rK, zzI cy (rK 0) 8 (T_kn tN 0), zzI cy (rK 1) 8 (T_kn tN 1), zzI cy (rK 2) 8 (T_kn tN 2), zzI cy (rK 3) 8 (T_kn tN 3), zzI cy (rK 4) 8 (T_kn tN 4), zzI cy (rK 5) 8 (T_kn tN 5), zzI cy (rK 6) 8 (T_kn tN 6), zzI cy (rK 7) 8 (T_kn tN 7)] ∧ (WI tN ∧ tN = T_setsd tA iA ∧ r = T_sd tA) ∧ (True))) := by
  refine enW RX6 (by decide +kernel) rfl (Nat.le_of_ble_eq_true rfl) (fun p e s m below meth c ls A hx hb hml hown hts hr hlocks hP hN hl hin hD hA hS => ?_)
  have hin : meth.name = _ := hin
  have hK := hN.1
  replace hl : lv_has ls 3 [(0, .ref qm), (1, .int iA)] := hl
  refine lv_aload_n hx hb (g_42 bX6_seed rfl) rfl (lv_at hl 0 rfl) ?_
  refine va_get (D := G) (ci := 5) (v := .int (T_sd tA)) (C := RX6) (T := TX6) (N := 35) hx hb hts iX_X6 hown hK hP 0 rfl rfl 17 (by decide +kernel) (hts _ m_t867) (fun _ h9 => h9) rfl (g_180 (v := 51) bX6_seed rfl) ?_
  refine lv_istore_n (lv' := [(2, .int (T_sd tA)), (0, .ref qm), (1, .int iA)]) hx hb (g_61 bX6_seed rfl) rfl hl (by decide +kernel) rfl (fun ls => ?_)
  clear hl
  intro hl
  refine lv_aload_n hx hb (g_42 bX6_seed rfl) rfl (lv_at hl 1 rfl) ?_
  refine lv_iload_n hx hb (g_27 bX6_seed rfl) rfl (lv_at hl 2 rfl) ?_
  refine va_put (D := G) (ci := 5) (v := .int iA) (ty := .int) (C := RX6) (T := TX6) (N := 35) hx hb hts iX_X6 tyX6 tyX6_ok nmX6 hown hK hP hD hS 0 rfl rfl 17 (by decide +kernel) (hts _ m_t867) (fun _ h9 => h9) rfl (by decide +kernel) rfl rfl (Nat.le_of_ble_eq_true rfl) (g_181 (v := 51) bX6_seed rfl) (fun H locs => ?_)
  clear hP hD hS
  intro hP hD hS
  have hPD := pd_as [zzO qm 5 (.ref qmh :: .ref qmo :: .ref qmz :: .ref qmR :: .ref qmv :: .ref qmk :: .ref qma :: .ref qmt :: .int (nI kZ) :: .ref qmr :: .int (nI (T_nb tA)) :: .ref qmB :: .int (nI (T_np tA)) :: .ref qmO :: .ref qmK :: .int iEn :: .int iTk :: .int iA :: ov uP :: ov uU :: .int (nI kAt) :: .int iTo :: .int iFr :: .long JFi :: .int iFa :: .ref qm3 :: .int iSt :: .int iLv :: .int iWs :: vLa :: .ref qmu :: .ref qmy :: .ref qmb :: .ref qms :: .int iOm :: []), _, _, _, _, _, _, _, _, _, _, _, _, _, _, _, _, _, _, _, _, _, _, _, _, _, _, _] hP hD rfl
  clear hP hD
  obtain ⟨hP, hD⟩ := hPD
  have hPD := pd_as [zzO qm 5 (.ref qmh :: .ref qmo :: .ref qmz :: .ref qmR :: .ref qmv :: .ref qmk :: .ref qma :: .ref qmt :: .int (nI kZ) :: .ref qmr :: .int (nI (T_nb (T_setsd tA iA))) :: .ref qmB :: .int (nI (T_np (T_setsd tA iA))) :: .ref qmO :: .ref qmK :: .int iEn :: .int iTk :: .int (T_sd (T_setsd tA iA)) :: ov uP :: ov uU :: .int (nI kAt) :: .int iTo :: .int iFr :: .long JFi :: .int iFa :: .ref qm3 :: .int iSt :: .int iLv :: .int iWs :: vLa :: .ref qmu :: .ref qmy :: .ref qmb :: .ref qms :: .int iOm :: []), _, zzI cy (rB 0) 4 (bkR (T_setsd tA iA) 0), zzI cy (rB 1) 4 (bkR (T_setsd tA iA) 1), zzI cy (rB 2) 4 (bkR (T_setsd tA iA) 2), zzI cy (rB 3) 4 (bkR (T_setsd tA iA) 3), zzI cy (rB 4) 4 (bkR (T_setsd tA iA) 4), zzI cy (rB 5) 4 (bkR (T_setsd tA iA) 5), zzI cy (rB 6) 4 (bkR (T_setsd tA iA) 6), zzI cy (rB 7) 4 (bkR (T_setsd tA iA) 7), _, zzI cy (rO 0) 5 (onR (T_setsd tA iA) 0), zzI cy (rO 1) 5 (onR (T_setsd tA iA) 1), zzI cy (rO 2) 5 (onR (T_setsd tA iA) 2), zzI cy (rO 3) 5 (onR (T_setsd tA iA) 3), zzI cy (rO 4) 5 (onR (T_setsd tA iA) 4), zzI cy (rO 5) 5 (onR (T_setsd tA iA) 5), zzI cy (rO 6) 5 (onR (T_setsd tA iA) 6), zzI cy (rO 7) 5 (onR (T_setsd tA iA) 7), _, zzI cy (rK 0) 8 (T_kn (T_setsd tA iA) 0), zzI cy (rK 1) 8 (T_kn (T_setsd tA iA) 1), zzI cy (rK 2) 8 (T_kn (T_setsd tA iA) 2), zzI cy (rK 3) 8 (T_kn (T_setsd tA iA) 3), zzI cy (rK 4) 8 (T_kn (T_setsd tA iA) 4), zzI cy (rK 5) 8 (T_kn (T_setsd tA iA) 5), zzI cy (rK 6) 8 (T_kn (T_setsd tA iA) 6), zzI cy (rK 7) 8 (T_kn (T_setsd tA iA) 7)] hP hD rfl
  clear hP hD
  obtain ⟨hP, hD⟩ := hPD
  refine lv_iload_n hx hb (g_28 bX6_seed rfl) rfl (lv_at hl 0 rfl) ?_
  exact endWs [[true, true, true, true, true, true, true, true, true, true, true, true, true, true, true, true, true, true, true, true, true, true, true, true, true, true, true, true]] hx hb hr hlocks rfl hP hD rfl (by decide +kernel) hS ⟨(T_setsd tA iA), rfl, ⟨WI_sd hWI, rfl, rfl⟩, trivial⟩ (g_172 bX6_seed rfl)
set_option maxHeartbeats 4000000 in
set_option maxRecDepth 100000 in
theorem x_X6_ends (l : Launch) (G : va_G) (cy : Nat → ClassId) (sz : Nat) (qm : Nat) (qmh : Nat) (qmo : Nat) (qmz : Nat) (qmR : Nat) (qmv : Nat) (qmk : Nat) (qma : Nat) (qmt : Nat) (kZ : Nat) (qmr : Nat) (tA : TA) (qmB : Nat) (qmO : Nat) (qmK : Nat) (iEn : Int32) (iTk : Int32) (uP : UM) (uU : UM) (kAt : Nat) (iTo : Int32) (iFr : Int32) (JFi : Int64) (iFa : Int32) (qm3 : Nat) (iSt : Int32) (iLv : Int32) (iWs : Int32) (vLa : Value) (qmu : Nat) (qmy : Nat) (qmb : Nat) (qms : Nat) (iOm : Int32) (rB : Nat → Nat) (rO : Nat → Nat) (rK : Nat → Nat)  (hB : T_nb tA ≤ 8) (hPp : T_np tA ≤ 8) (hTI : TI tA) (hWI : WI tA) : MW l yX6_ends cX6_ends 1 (some .int) 16 0 0 G cy [zzO qm 5 (.ref qmh :: .ref qmo :: .ref qmz :: .ref qmR :: .ref qmv :: .ref qmk :: .ref qma :: .ref qmt :: .int (nI kZ) :: .ref qmr :: .int (nI (T_nb tA)) :: .ref qmB :: .int (nI (T_np tA)) :: .ref qmO :: .ref qmK :: .int iEn :: .int iTk :: .int (T_sd tA) :: ov uP :: ov uU :: .int (nI kAt) :: .int iTo :: .int iFr :: .long JFi :: .int iFa :: .ref qm3 :: .int iSt :: .int iLv :: .int iWs :: vLa :: .ref qmu :: .ref qmy :: .ref qmb :: .ref qms :: .int iOm :: []), zzG cy 3 qmB rB, zzI cy (rB 0) 4 (bkR tA 0), zzI cy (rB 1) 4 (bkR tA 1), zzI cy (rB 2) 4 (bkR tA 2), zzI cy (rB 3) 4 (bkR tA 3), zzI cy (rB 4) 4 (bkR tA 4), zzI cy (rB 5) 4 (bkR tA 5), zzI cy (rB 6) 4 (bkR tA 6), zzI cy (rB 7) 4 (bkR tA 7), zzG cy 3 qmO rO, zzI cy (rO 0) 5 (onR tA 0), zzI cy (rO 1) 5 (onR tA 1), zzI cy (rO 2) 5 (onR tA 2), zzI cy (rO 3) 5 (onR tA 3), zzI cy (rO 4) 5 (onR tA 4), zzI cy (rO 5) 5 (onR tA 5), zzI cy (rO 6) 5 (onR tA 6), zzI cy (rO 7) 5 (onR tA 7), zzG cy 3 qmK rK, zzI cy (rK 0) 8 (T_kn tA 0), zzI cy (rK 1) 8 (T_kn tA 1), zzI cy (rK 2) 8 (T_kn tA 2), zzI cy (rK 3) 8 (T_kn tA 3), zzI cy (rK 4) 8 (T_kn tA 4), zzI cy (rK 5) 8 (T_kn tA 5), zzI cy (rK 6) 8 (T_kn tA 6), zzI cy (rK 7) 8 (T_kn tA 7)] sz [.ref qm] (Wi G (fun r u => ∃ (iNe : Int32) (tN : TA), u = [zzO qm 5 (.ref qmh :: .ref qmo :: .ref qmz :: .ref qmR :: .ref qmv :: .ref qmk :: .ref qma :: .ref qmt :: .int (nI kZ) :: .ref qmr :: .int (nI (T_nb tN)) :: .ref qmB :: .int (nI (T_np tN)) :: .ref qmO :: .ref qmK :: .int iNe :: .int iTk :: .int (T_sd tN) :: ov uP :: ov uU :: .int (nI kAt) :: .int iTo :: .int iFr :: .long JFi :: .int iFa :: .ref qm3 :: .int iSt :: .int iLv :: .int iWs :: vLa :: .ref qmu :: .ref qmy :: .ref qmb :: .ref qms :: .int iOm :: []), zzG cy 3 qmB rB, zzI cy (rB 0) 4 (bkR tN 0), zzI cy (rB 1) 4 (bkR tN 1), zzI cy (rB 2) 4 (bkR tN 2), zzI cy (rB 3) 4 (bkR tN 3), zzI cy (rB 4) 4 (bkR tN 4), zzI cy (rB 5) 4 (bkR tN 5), zzI cy (rB 6) 4 (bkR tN 6), zzI cy (rB 7) 4 (bkR tN 7), zzG cy 3 qmO rO, zzI cy (rO 0) 5 (onR tN 0), zzI cy (rO 1) 5 (onR tN 1), zzI cy (rO 2) 5 (onR tN 2), zzI cy (rO 3) 5 (onR tN 3), zzI cy (rO 4) 5 (onR tN 4), zzI cy (rO 5) 5 (onR tN 5), zzI cy (rO 6) 5 (onR tN 6), zzI cy (rO 7) 5 (onR tN 7), zzG cy 3 qmK rK, zzI cy (rK 0) 8 (T_kn tN 0), zzI cy (rK 1) 8 (T_kn tN 1), zzI cy (rK 2) 8 (T_kn tN 2), zzI cy (rK 3) 8 (T_kn tN 3), zzI cy (rK 4) 8 (T_kn tN 4), zzI cy (rK 5) 8 (T_kn tN 5), zzI cy (rK 6) 8 (T_kn tN 6), zzI cy (rK 7) 8 (T_kn tN 7)] ∧ (WI tN ∧ tN = zey tA) ∧ (True))) := by
  refine enW RX6 (by decide +kernel) rfl (Nat.le_of_ble_eq_true rfl) (fun p e s m below meth c ls A hx hb hml hown hts hr hlocks hP hN hl hin hD hA hS => ?_)
  have hin : meth.name = _ := hin
  have hK := hN.1
  replace hl : lv_has ls 1 [(0, .ref qm)] := hl
  refine lv_aload_n hx hb (g_42 bX6_ends rfl) rfl (lv_at hl 0 rfl) ?_
  refine cVi (As := []) (rest := []) (b := qm) (q := (RX6, TX6, 35)) ⟨hx, hb, hml, hown, hts⟩ (x_X6_end l G cy (s.heap).size qm (.ref qmh) (.ref qmo) (.ref qmz) (.ref qmR) (.ref qmv) (.ref qmk) (.ref qma) (.ref qmt) (.int (nI kZ)) (.ref qmr) tA qmB qmO qmK iEn iTk (ov uP) (ov uU) (.int (nI kAt)) (.int iTo) (.int iFr) (.long JFi) (.int iFa) (.ref qm3) (.int iSt) iLv iWs vLa (.ref qmu) (.ref qmy) (.ref qmb) (.ref qms) (.int iOm) rB rO rK hB hPp hTI hWI.2.2) L_X6_288 hN hP hD hS hA (trueIx 0 [true, true, true, true, true, true, true, true, true, true, true, true, true, true, true, true, true, true, true, true, true, true, true, true, true, true, true, true]) [false, false, false, false, false, false, false, false, false, false, false, false, false, false, false, false, false, false, false, false, false, false, false, false, false, false, false, false] (sel_eq rfl rfl) (by decide +kernel) rfl 0 5 rfl rfl rfl ⟨Nat.le_of_ble_eq_true rfl, Nat.le_of_ble_eq_true rfl⟩ hl.1 (Nat.le_of_ble_eq_true rfl) (g_182 (v := 288) bX6_ends rfl) ⟨Nat.le_of_ble_eq_true rfl, Nat.le_of_ble_eq_true rfl⟩ (fun r_1 u_3 H locs h_2 => ?_)
  clear hP hD hS
  intro hP hD hS
  obtain ⟨tX_4, iX_5, hu9, h_6, h_7, h_2⟩ := h_2
  have hPD := pd_eq [zzO qm 5 (.ref qmh :: .ref qmo :: .ref qmz :: .ref qmR :: .ref qmv :: .ref qmk :: .ref qma :: .ref qmt :: .int (nI kZ) :: .ref qmr :: .int (nI (T_nb tX_4)) :: .ref qmB :: .int (nI (T_np tX_4)) :: .ref qmO :: .ref qmK :: .int iX_5 :: .int iTk :: .int (T_sd tX_4) :: ov uP :: ov uU :: .int (nI kAt) :: .int iTo :: .int iFr :: .long JFi :: .int iFa :: .ref qm3 :: .int iSt :: .int iLv :: .int iWs :: vLa :: .ref qmu :: .ref qmy :: .ref qmb :: .ref qms :: .int iOm :: []), _, zzI cy (rB 0) 4 (bkR tX_4 0), zzI cy (rB 1) 4 (bkR tX_4 1), zzI cy (rB 2) 4 (bkR tX_4 2), zzI cy (rB 3) 4 (bkR tX_4 3), zzI cy (rB 4) 4 (bkR tX_4 4), zzI cy (rB 5) 4 (bkR tX_4 5), zzI cy (rB 6) 4 (bkR tX_4 6), zzI cy (rB 7) 4 (bkR tX_4 7), _, zzI cy (rO 0) 5 (onR tX_4 0), zzI cy (rO 1) 5 (onR tX_4 1), zzI cy (rO 2) 5 (onR tX_4 2), zzI cy (rO 3) 5 (onR tX_4 3), zzI cy (rO 4) 5 (onR tX_4 4), zzI cy (rO 5) 5 (onR tX_4 5), zzI cy (rO 6) 5 (onR tX_4 6), zzI cy (rO 7) 5 (onR tX_4 7), _, zzI cy (rK 0) 8 (T_kn tX_4 0), zzI cy (rK 1) 8 (T_kn tX_4 1), zzI cy (rK 2) 8 (T_kn tX_4 2), zzI cy (rK 3) 8 (T_kn tX_4 3), zzI cy (rK 4) 8 (T_kn tX_4 4), zzI cy (rK 5) 8 (T_kn tX_4 5), zzI cy (rK 6) 8 (T_kn tX_4 6), zzI cy (rK 7) 8 (T_kn tX_4 7)] hP hD hu9 rfl
  clear hP hD hu9
  obtain ⟨hP, hD⟩ := hPD
  exact endW (u := [zzO qm 5 (.ref qmh :: .ref qmo :: .ref qmz :: .ref qmR :: .ref qmv :: .ref qmk :: .ref qma :: .ref qmt :: .int (nI kZ) :: .ref qmr :: .int (nI (T_nb tX_4)) :: .ref qmB :: .int (nI (T_np tX_4)) :: .ref qmO :: .ref qmK :: .int iX_5 :: .int iTk :: .int (T_sd tX_4) :: ov uP :: ov uU :: .int (nI kAt) :: .int iTo :: .int iFr :: .long JFi :: .int iFa :: .ref qm3 :: .int iSt :: .int iLv :: .int iWs :: vLa :: .ref qmu :: .ref qmy :: .ref qmb :: .ref qms :: .int iOm :: []), zzG cy 3 qmB rB, zzI cy (rB 0) 4 (bkR tX_4 0), zzI cy (rB 1) 4 (bkR tX_4 1), zzI cy (rB 2) 4 (bkR tX_4 2), zzI cy (rB 3) 4 (bkR tX_4 3), zzI cy (rB 4) 4 (bkR tX_4 4), zzI cy (rB 5) 4 (bkR tX_4 5), zzI cy (rB 6) 4 (bkR tX_4 6), zzI cy (rB 7) 4 (bkR tX_4 7), zzG cy 3 qmO rO, zzI cy (rO 0) 5 (onR tX_4 0), zzI cy (rO 1) 5 (onR tX_4 1), zzI cy (rO 2) 5 (onR tX_4 2), zzI cy (rO 3) 5 (onR tX_4 3), zzI cy (rO 4) 5 (onR tX_4 4), zzI cy (rO 5) 5 (onR tX_4 5), zzI cy (rO 6) 5 (onR tX_4 6), zzI cy (rO 7) 5 (onR tX_4 7), zzG cy 3 qmK rK, zzI cy (rK 0) 8 (T_kn tX_4 0), zzI cy (rK 1) 8 (T_kn tX_4 1), zzI cy (rK 2) 8 (T_kn tX_4 2), zzI cy (rK 3) 8 (T_kn tX_4 3), zzI cy (rK 4) 8 (T_kn tX_4 4), zzI cy (rK 5) 8 (T_kn tX_4 5), zzI cy (rK 6) 8 (T_kn tX_4 6), zzI cy (rK 7) 8 (T_kn tX_4 7)]) hx hb hr hlocks rfl (pSb hP [[true, true, true, true, true, true, true, true, true, true, true, true, true, true, true, true, true, true, true, true, true, true, true, true, true, true, true, true]] rfl rfl) (dSb hD [[true, true, true, true, true, true, true, true, true, true, true, true, true, true, true, true, true, true, true, true, true, true, true, true, true, true, true, true]] (by decide +kernel) rfl rfl) hS ⟨iX_5, tX_4, rfl, ⟨by rw [h_7]; exact WI_ey hWI, h_7⟩, trivial⟩ (g_172 bX6_ends rfl)
set_option maxHeartbeats 4000000 in
set_option maxRecDepth 100000 in
theorem x_X6_years (l : Launch) (G : va_G) (cy : Nat → ClassId) (sz : Nat) (qm : Nat) (qmh : Nat) (qmo : Nat) (qmz : Nat) (qmR : Nat) (qmv : Nat) (qmk : Nat) (qma : Nat) (qmt : Nat) (kZ : Nat) (qmr : Nat) (tA : TA) (qmB : Nat) (qmO : Nat) (qmK : Nat) (iEn : Int32) (iTk : Int32) (uP : UM) (uU : UM) (kAt : Nat) (iTo : Int32) (iFr : Int32) (JFi : Int64) (iFa : Int32) (qm3 : Nat) (iSt : Int32) (iLv : Int32) (iWs : Int32) (vLa : Value) (qmu : Nat) (qmy : Nat) (qmb : Nat) (qms : Nat) (iOm : Int32) (fMh : Nat → Int32) (fMk : Nat → Int32) (fMa : Nat → Int32) (fMr : Nat → Int32) (rB : Nat → Nat) (rO : Nat → Nat) (rK : Nat → Nat) (iA : Int32) (iB : Int32)  (hMk : ∀ s, s < 8 → ¬ fMh s = 1 → ¬ fMh s = 0 → Iv (fMk s).toInt64 1 6) (hB : T_nb tA ≤ 8) (hPp : T_np tA ≤ 8) (hTI : TI tA) (hMa : ∀ s, s < 8 → ∃ n : Nat, n ≤ 99 ∧ fMa s = nI n) (hWI : WI tA) : MW l yX6_years cX6_years 7 (some .int) 16 0 0 G cy [zzO qm 5 (.ref qmh :: .ref qmo :: .ref qmz :: .ref qmR :: .ref qmv :: .ref qmk :: .ref qma :: .ref qmt :: .int (nI kZ) :: .ref qmr :: .int (nI (T_nb tA)) :: .ref qmB :: .int (nI (T_np tA)) :: .ref qmO :: .ref qmK :: .int iEn :: .int iTk :: .int (T_sd tA) :: ov uP :: ov uU :: .int (nI kAt) :: .int iTo :: .int iFr :: .long JFi :: .int iFa :: .ref qm3 :: .int iSt :: .int iLv :: .int iWs :: vLa :: .ref qmu :: .ref qmy :: .ref qmb :: .ref qms :: .int iOm :: []), zzI cy qmh 8 fMh, zzI cy qmk 8 fMk, zzI cy qma 8 fMa, zzI cy qmr 8 fMr, zzG cy 3 qmB rB, zzI cy (rB 0) 4 (bkR tA 0), zzI cy (rB 1) 4 (bkR tA 1), zzI cy (rB 2) 4 (bkR tA 2), zzI cy (rB 3) 4 (bkR tA 3), zzI cy (rB 4) 4 (bkR tA 4), zzI cy (rB 5) 4 (bkR tA 5), zzI cy (rB 6) 4 (bkR tA 6), zzI cy (rB 7) 4 (bkR tA 7), zzG cy 3 qmO rO, zzI cy (rO 0) 5 (onR tA 0), zzI cy (rO 1) 5 (onR tA 1), zzI cy (rO 2) 5 (onR tA 2), zzI cy (rO 3) 5 (onR tA 3), zzI cy (rO 4) 5 (onR tA 4), zzI cy (rO 5) 5 (onR tA 5), zzI cy (rO 6) 5 (onR tA 6), zzI cy (rO 7) 5 (onR tA 7), zzG cy 3 qmK rK, zzI cy (rK 0) 8 (T_kn tA 0), zzI cy (rK 1) 8 (T_kn tA 1), zzI cy (rK 2) 8 (T_kn tA 2), zzI cy (rK 3) 8 (T_kn tA 3), zzI cy (rK 4) 8 (T_kn tA 4), zzI cy (rK 5) 8 (T_kn tA 5), zzI cy (rK 6) 8 (T_kn tA 6), zzI cy (rK 7) 8 (T_kn tA 7)] sz [.ref qm, .int iA, .int iB] (Wi G (fun r u => ∃ (iNe : Int32) (iNt : Int32) (fNr : Nat → Int32) (tN : TA), u = [zzO qm 5 (.ref qmh :: .ref qmo :: .ref qmz :: .ref qmR :: .ref qmv :: .ref qmk :: .ref qma :: .ref qmt :: .int (nI kZ) :: .ref qmr :: .int (nI (T_nb tN)) :: .ref qmB :: .int (nI (T_np tN)) :: .ref qmO :: .ref qmK :: .int iNe :: .int iNt :: .int (T_sd tN) :: ov uP :: ov uU :: .int (nI kAt) :: .int iTo :: .int iFr :: .long JFi :: .int iFa :: .ref qm3 :: .int iSt :: .int iLv :: .int iWs :: vLa :: .ref qmu :: .ref qmy :: .ref qmb :: .ref qms :: .int iOm :: []), zzI cy qmh 8 fMh, zzI cy qmk 8 fMk, zzI cy qma 8 fMa, zzI cy qmr 8 fNr, zzG cy 3 qmB rB, zzI cy (rB 0) 4 (bkR tN 0), zzI cy (rB 1) 4 (bkR tN 1), zzI cy (rB 2) 4 (bkR tN 2), zzI cy (rB 3) 4 (bkR tN 3), zzI cy (rB 4) 4 (bkR tN 4), zzI cy (rB 5) 4 (bkR tN 5), zzI cy (rB 6) 4 (bkR tN 6), zzI cy (rB 7) 4 (bkR tN 7), zzG cy 3 qmO rO, zzI cy (rO 0) 5 (onR tN 0), zzI cy (rO 1) 5 (onR tN 1), zzI cy (rO 2) 5 (onR tN 2), zzI cy (rO 3) 5 (onR tN 3), zzI cy (rO 4) 5 (onR tN 4), zzI cy (rO 5) 5 (onR tN 5), zzI cy (rO 6) 5 (onR tN 6), zzI cy (rO 7) 5 (onR tN 7), zzG cy 3 qmK rK, zzI cy (rK 0) 8 (T_kn tN 0), zzI cy (rK 1) 8 (T_kn tN 1), zzI cy (rK 2) 8 (T_kn tN 2), zzI cy (rK 3) 8 (T_kn tN 3), zzI cy (rK 4) 8 (T_kn tN 4), zzI cy (rK 5) 8 (T_kn tN 5), zzI cy (rK 6) 8 (T_kn tN 6), zzI cy (rK 7) 8 (T_kn tN 7)] ∧ (WI tN ∧ PMyears fMh fMk fMa tA iA iB r tN) ∧ (True))) := by
  refine enW RX6 (by decide +kernel) rfl (Nat.le_of_ble_eq_true rfl) (fun p e s m below meth c ls A hx hb hml hown hts hr hlocks hP hN hl hin hD hA hS => ?_)
  have hin : meth.name = _ := hin
  have hK := hN.1
  replace hl : lv_has ls 7 [(0, .ref qm), (1, .int iA), (2, .int iB)] := hl
  refine lv_iload_n hx hb (g_27 bX6_years rfl) rfl (lv_at hl 1 rfl) ?_
  refine lv_i2l (v := iA.toInt64) hx hb (g_133 bX6_years rfl) rfl ?_
  refine lv_lconst (v := 0) hx hb (g_9 bX6_years rfl) (by decide +kernel) ?_
  refine lv_ldc2 hx hb hown (hts _ m_t960) (g_20 (v := 85) bX6_years rfl) ?_
  refine kRi (rS (As := [.long iA.toInt64, .long 0, .long 7]) (rest := []) ⟨hx, hb, hml, hown, hts⟩ (c_X6_in l G cy iA.toInt64 0 7) L_X6_74 (preRS hN hP [] rfl) rfl ⟨Nat.le_of_ble_eq_true rfl, Nat.le_of_ble_eq_true rfl⟩ hl.1 (Nat.le_of_ble_eq_true rfl) (g_184 (v := 74) bX6_years rfl) ⟨Nat.le_of_ble_eq_true rfl, Nat.le_of_ble_eq_true rfl⟩) (fun r_1 h_2 => ?_)
  rcases h_2 with ⟨rfl, h_3⟩ | ⟨rfl, h_3⟩
  · obtain ⟨k_4, hk_5, hk_6, rfl⟩ := iv_nI 0 7 (by decide +kernel) (by decide +kernel) h_3
    refine lv_if_eq (tgt := 24) hx hb dX6_years_9 (by decide +kernel) (fun h9 => absurd h9 (by decide +kernel)) (fun _ => ?_)
    refine lv_iload_n hx hb (g_28 bX6_years rfl) rfl (lv_at hl 2 rfl) ?_
    refine lv_i2l (v := iB.toInt64) hx hb (g_133 bX6_years rfl) rfl ?_
    refine lv_lconst (v := 1) hx hb (g_10 bX6_years rfl) (by decide +kernel) ?_
    refine lv_ldc2 hx hb hown (hts _ m_t1355) (g_20 (v := 341) bX6_years rfl) ?_
    refine kRi (rS (As := [.long iB.toInt64, .long 1, .long 20]) (rest := []) ⟨hx, hb, hml, hown, hts⟩ (c_X6_in l G cy iB.toInt64 1 20) L_X6_74 (preRS hN hP [] rfl) rfl ⟨Nat.le_of_ble_eq_true rfl, Nat.le_of_ble_eq_true rfl⟩ hl.1 (Nat.le_of_ble_eq_true rfl) (g_184 (v := 74) bX6_years rfl) ⟨Nat.le_of_ble_eq_true rfl, Nat.le_of_ble_eq_true rfl⟩) (fun r_8 h_9 => ?_)
    rcases h_9 with ⟨rfl, h_10⟩ | ⟨rfl, h_10⟩
    · obtain ⟨k_11, hk_12, hk_13, rfl⟩ := iv_nI 1 20 (by decide +kernel) (by decide +kernel) h_10
      refine lv_if_ne (tgt := 31) hx hb dX6_years_21 (by decide +kernel) (fun _ => ?_) (fun h9 => absurd h9 (by decide +kernel))
      refine lv_aload_n hx hb (g_42 bX6_years rfl) rfl (lv_at hl 0 rfl) ?_
      refine lv_iload_n hx hb (g_27 bX6_years rfl) rfl (lv_at hl 1 rfl) ?_
      refine cVi (As := [.int (nI k_4)]) (rest := []) (b := qm) (q := (RX6, TX6, 35)) ⟨hx, hb, hml, hown, hts⟩ (c_X6_noRule l G cy (s.heap).size qm qmh (.ref qmo) (.ref qmz) (.ref qmR) (.ref qmv) (.ref qmk) (.ref qma) (.ref qmt) (.int (nI kZ)) qmr tA qmB qmO qmK iEn iTk (ov uP) (ov uU) (.int (nI kAt)) (.int iTo) (.int iFr) (.long JFi) (.int iFa) (.ref qm3) (.int iSt) iLv iWs vLa (.ref qmu) (.ref qmy) (.ref qmb) (.ref qms) (.int iOm) fMh fMr (nI k_4)) L_X6_302 hN hP hD hS hA (trueIx 0 [true, true, false, false, true]) [false, false, true, true, false, true, true, true, true, true, true, true, true, true, true, true, true, true, true, true, true, true, true, true, true, true, true, true, true, true, true, true] (sel_eq rfl rfl) (by decide +kernel) rfl 0 5 rfl rfl rfl ⟨Nat.le_of_ble_eq_true rfl, Nat.le_of_ble_eq_true rfl⟩ hl.1 (Nat.le_of_ble_eq_true rfl) (g_182 (v := 302) bX6_years rfl) ⟨Nat.le_of_ble_eq_true rfl, Nat.le_of_ble_eq_true rfl⟩ (fun r_15 u_17 H locs h_16 => ?_)
      clear hP hD hS
      intro hP hD hS
      obtain ⟨fX_18, hu9, h_16⟩ := h_16
      have hPD := pd_eq [_, _, _, _, _, _, _, _, _, _, _, _, _, _, _, _, _, _, _, _, _, _, _, _, _, _, _, _, _, _, _, zzI cy qmr 8 fX_18] hP hD hu9 rfl
      clear hP hD hu9
      obtain ⟨hP, hD⟩ := hPD
      rcases h_16 with ⟨rfl, h_19⟩ | ⟨rfl, h_19⟩ | ⟨rfl, h_19⟩ | ⟨rfl, h_19⟩
      · refine lv_istore_n (lv' := [(3, .int (-2)), (0, .ref qm), (1, .int (nI k_4)), (2, .int (nI k_11))]) hx hb (g_62 bX6_years rfl) rfl hl (by decide +kernel) rfl (fun ls => ?_)
        clear hl
        intro hl
        refine lv_iload_n hx hb (g_29 bX6_years rfl) rfl (lv_at hl 0 rfl) ?_
        refine lv_if_eq (tgt := 43) hx hb dX6_years_38 (by decide +kernel) (fun h9 => absurd h9 (by decide +kernel)) (fun _ => ?_)
        refine lv_iload_n hx hb (g_29 bX6_years rfl) rfl (lv_at hl 0 rfl) ?_
        exact endWs [[false, false, false, false, false, false, false, false, false, false, false, false, false, false, false, false, false, false, false, false, false, false, false, false, false, false, false, false, false, true, true], [true, true, false, false, false, false, false, false, false, false, false, false, false, false, false, false, false, false, false, false, false, false, false, false, false, false, false, false, false, false, false, true], [false, false, true, true, true, true, true, true, true, true, true, true, true, true, true, true, true, true, true, true, true, true, true, true, true, true, true, true, true]] hx hb hr hlocks rfl hP hD rfl (by decide +kernel) hS ⟨iEn, iTk, fX_18, tA, rfl, (h_19 ⟨k_4, by omega, rfl⟩).elim, trivial⟩ (g_172 bX6_years rfl)
      · refine lv_istore_n (lv' := [(3, .int (-3)), (0, .ref qm), (1, .int (nI k_4)), (2, .int (nI k_11))]) hx hb (g_62 bX6_years rfl) rfl hl (by decide +kernel) rfl (fun ls => ?_)
        clear hl
        intro hl
        refine lv_iload_n hx hb (g_29 bX6_years rfl) rfl (lv_at hl 0 rfl) ?_
        refine lv_if_eq (tgt := 43) hx hb dX6_years_38 (by decide +kernel) (fun h9 => absurd h9 (by decide +kernel)) (fun _ => ?_)
        refine lv_iload_n hx hb (g_29 bX6_years rfl) rfl (lv_at hl 0 rfl) ?_
        exact endWs [[false, false, false, false, false, false, false, false, false, false, false, false, false, false, false, false, false, false, false, false, false, false, false, false, false, false, false, false, false, true, true], [true, true, false, false, false, false, false, false, false, false, false, false, false, false, false, false, false, false, false, false, false, false, false, false, false, false, false, false, false, false, false, true], [false, false, true, true, true, true, true, true, true, true, true, true, true, true, true, true, true, true, true, true, true, true, true, true, true, true, true, true, true]] hx hb hr hlocks rfl hP hD rfl (by decide +kernel) hS ⟨iEn, iTk, fX_18, tA, rfl, ⟨hWI, Or.inr (Or.inl ⟨rfl, h_10, h_19, rfl⟩)⟩, trivial⟩ (g_172 bX6_years rfl)
      · refine lv_istore_n (lv' := [(3, .int (-4)), (0, .ref qm), (1, .int (nI k_4)), (2, .int (nI k_11))]) hx hb (g_62 bX6_years rfl) rfl hl (by decide +kernel) rfl (fun ls => ?_)
        clear hl
        intro hl
        refine lv_iload_n hx hb (g_29 bX6_years rfl) rfl (lv_at hl 0 rfl) ?_
        refine lv_if_eq (tgt := 43) hx hb dX6_years_38 (by decide +kernel) (fun h9 => absurd h9 (by decide +kernel)) (fun _ => ?_)
        refine lv_iload_n hx hb (g_29 bX6_years rfl) rfl (lv_at hl 0 rfl) ?_
        exact endWs [[false, false, false, false, false, false, false, false, false, false, false, false, false, false, false, false, false, false, false, false, false, false, false, false, false, false, false, false, false, true, true], [true, true, false, false, false, false, false, false, false, false, false, false, false, false, false, false, false, false, false, false, false, false, false, false, false, false, false, false, false, false, false, true], [false, false, true, true, true, true, true, true, true, true, true, true, true, true, true, true, true, true, true, true, true, true, true, true, true, true, true, true, true]] hx hb hr hlocks rfl hP hD rfl (by decide +kernel) hS ⟨iEn, iTk, fX_18, tA, rfl, ⟨hWI, Or.inr (Or.inr (Or.inl ⟨rfl, h_10, h_19, rfl⟩))⟩, trivial⟩ (g_172 bX6_years rfl)
      · refine lv_istore_n (lv' := [(3, .int 0), (0, .ref qm), (1, .int (nI k_4)), (2, .int (nI k_11))]) hx hb (g_62 bX6_years rfl) rfl hl (by decide +kernel) rfl (fun ls => ?_)
        clear hl
        intro hl
        refine lv_iload_n hx hb (g_29 bX6_years rfl) rfl (lv_at hl 0 rfl) ?_
        refine lv_if_eq (tgt := 43) hx hb dX6_years_38 (by decide +kernel) (fun _ => ?_) (fun h9 => absurd (by decide +kernel) h9)
        refine lv_iconst (v := 0) hx hb (g_3 bX6_years rfl) (by decide +kernel) ?_
        refine lv_istore (lv' := [(4, .int 0), (3, .int 0), (0, .ref qm), (1, .int (nI k_4)), (2, .int (nI k_11))]) hx hb (g_54 (v := 4) bX6_years rfl) hl (by decide +kernel) rfl (fun ls => ?_)
        clear hl
        intro hl
        refine lv_iconst (v := 0) hx hb (g_3 bX6_years rfl) (by decide +kernel) ?_
        refine lv_istore (lv' := [(5, .int 0), (4, .int 0), (3, .int 0), (0, .ref qm), (1, .int (nI k_4)), (2, .int (nI k_11))]) hx hb (g_54 (v := 5) bX6_years rfl) hl (by decide +kernel) rfl (fun ls => ?_)
        clear hl
        intro hl
        have lp_24 : ∀ (n_25 : Nat) (j_27 : Nat) (tJ_28 : TA) (xS_29 : Int32) (xE_30 : Int32), 20 - j_27 < n_25 → j_27 ≤ k_11 → TI tJ_28 ∧ T_nb tJ_28 = T_nb tA ∧ T_np tJ_28 = T_np tA → WI tJ_28 → yrG (fMk k_4) (fMa k_4) (k_11 - j_27) tJ_28 xS_29 = yrG (fMk k_4) (fMa k_4) k_11 tA 0 → ∀ (H : Heap) (locs : List Loc) (ls : Array Slot), va_P G CL [zzI cy qmk 8 fMk, zzI cy qma 8 fMa, zzG cy 3 qmB rB, zzI cy (rB 0) 4 (bkR tJ_28 0), zzI cy (rB 1) 4 (bkR tJ_28 1), zzI cy (rB 2) 4 (bkR tJ_28 2), zzI cy (rB 3) 4 (bkR tJ_28 3), zzI cy (rB 4) 4 (bkR tJ_28 4), zzI cy (rB 5) 4 (bkR tJ_28 5), zzI cy (rB 6) 4 (bkR tJ_28 6), zzI cy (rB 7) 4 (bkR tJ_28 7), zzG cy 3 qmO rO, zzI cy (rO 0) 5 (onR tJ_28 0), zzI cy (rO 1) 5 (onR tJ_28 1), zzI cy (rO 2) 5 (onR tJ_28 2), zzI cy (rO 3) 5 (onR tJ_28 3), zzI cy (rO 4) 5 (onR tJ_28 4), zzI cy (rO 5) 5 (onR tJ_28 5), zzI cy (rO 6) 5 (onR tJ_28 6), zzI cy (rO 7) 5 (onR tJ_28 7), zzG cy 3 qmK rK, zzI cy (rK 0) 8 (T_kn tJ_28 0), zzI cy (rK 1) 8 (T_kn tJ_28 1), zzI cy (rK 2) 8 (T_kn tJ_28 2), zzI cy (rK 3) 8 (T_kn tJ_28 3), zzI cy (rK 4) 8 (T_kn tJ_28 4), zzI cy (rK 5) 8 (T_kn tJ_28 5), zzI cy (rK 6) 8 (T_kn tJ_28 6), zzI cy (rK 7) 8 (T_kn tJ_28 7), zzO qm 5 (.ref qmh :: .ref qmo :: .ref qmz :: .ref qmR :: .ref qmv :: .ref qmk :: .ref qma :: .ref qmt :: .int (nI kZ) :: .ref qmr :: .int (nI (T_nb tJ_28)) :: .ref qmB :: .int (nI (T_np tJ_28)) :: .ref qmO :: .ref qmK :: .int xE_30 :: .int iTk :: .int (T_sd tJ_28) :: ov uP :: ov uU :: .int (nI kAt) :: .int iTo :: .int iFr :: .long JFi :: .int iFa :: .ref qm3 :: .int iSt :: .int iLv :: .int iWs :: vLa :: .ref qmu :: .ref qmy :: .ref qmb :: .ref qms :: .int iOm :: []), zzI cy qmh 8 fMh, zzI cy qmr 8 fX_18] H → va_D A [zzI cy qmk 8 fMk, zzI cy qma 8 fMa, zzG cy 3 qmB rB, zzI cy (rB 0) 4 (bkR tJ_28 0), zzI cy (rB 1) 4 (bkR tJ_28 1), zzI cy (rB 2) 4 (bkR tJ_28 2), zzI cy (rB 3) 4 (bkR tJ_28 3), zzI cy (rB 4) 4 (bkR tJ_28 4), zzI cy (rB 5) 4 (bkR tJ_28 5), zzI cy (rB 6) 4 (bkR tJ_28 6), zzI cy (rB 7) 4 (bkR tJ_28 7), zzG cy 3 qmO rO, zzI cy (rO 0) 5 (onR tJ_28 0), zzI cy (rO 1) 5 (onR tJ_28 1), zzI cy (rO 2) 5 (onR tJ_28 2), zzI cy (rO 3) 5 (onR tJ_28 3), zzI cy (rO 4) 5 (onR tJ_28 4), zzI cy (rO 5) 5 (onR tJ_28 5), zzI cy (rO 6) 5 (onR tJ_28 6), zzI cy (rO 7) 5 (onR tJ_28 7), zzG cy 3 qmK rK, zzI cy (rK 0) 8 (T_kn tJ_28 0), zzI cy (rK 1) 8 (T_kn tJ_28 1), zzI cy (rK 2) 8 (T_kn tJ_28 2), zzI cy (rK 3) 8 (T_kn tJ_28 3), zzI cy (rK 4) 8 (T_kn tJ_28 4), zzI cy (rK 5) 8 (T_kn tJ_28 5), zzI cy (rK 6) 8 (T_kn tJ_28 6), zzI cy (rK 7) 8 (T_kn tJ_28 7), zzO qm 5 (.ref qmh :: .ref qmo :: .ref qmz :: .ref qmR :: .ref qmv :: .ref qmk :: .ref qma :: .ref qmt :: .int (nI kZ) :: .ref qmr :: .int (nI (T_nb tJ_28)) :: .ref qmB :: .int (nI (T_np tJ_28)) :: .ref qmO :: .ref qmK :: .int xE_30 :: .int iTk :: .int (T_sd tJ_28) :: ov uP :: ov uU :: .int (nI kAt) :: .int iTo :: .int iFr :: .long JFi :: .int iFa :: .ref qm3 :: .int iSt :: .int iLv :: .int iWs :: vLa :: .ref qmu :: .ref qmy :: .ref qmb :: .ref qms :: .int iOm :: []), zzI cy qmh 8 fMh, zzI cy qmr 8 fX_18] → va_S A s.heap H locs → lv_has ls 7 [(5, .int (nI j_27)), (4, .int xS_29), (3, .int 0), (0, .ref qm), (1, .int (nI k_4)), (2, .int (nI k_11))] → W p l e (Rm 16 0 0) s m (List.toArray (α := Value) [.ref qm, .int (nI k_4), .int (nI k_11)]) below meth c H locs 0 0 (MQ below ((Wi G (fun r u => ∃ (iNe : Int32) (iNt : Int32) (fNr : Nat → Int32) (tN : TA), u = [zzO qm 5 (.ref qmh :: .ref qmo :: .ref qmz :: .ref qmR :: .ref qmv :: .ref qmk :: .ref qma :: .ref qmt :: .int (nI kZ) :: .ref qmr :: .int (nI (T_nb tN)) :: .ref qmB :: .int (nI (T_np tN)) :: .ref qmO :: .ref qmK :: .int iNe :: .int iNt :: .int (T_sd tN) :: ov uP :: ov uU :: .int (nI kAt) :: .int iTo :: .int iFr :: .long JFi :: .int iFa :: .ref qm3 :: .int iSt :: .int iLv :: .int iWs :: vLa :: .ref qmu :: .ref qmy :: .ref qmb :: .ref qms :: .int iOm :: []), zzI cy qmh 8 fMh, zzI cy qmk 8 fMk, zzI cy qma 8 fMa, zzI cy qmr 8 fNr, zzG cy 3 qmB rB, zzI cy (rB 0) 4 (bkR tN 0), zzI cy (rB 1) 4 (bkR tN 1), zzI cy (rB 2) 4 (bkR tN 2), zzI cy (rB 3) 4 (bkR tN 3), zzI cy (rB 4) 4 (bkR tN 4), zzI cy (rB 5) 4 (bkR tN 5), zzI cy (rB 6) 4 (bkR tN 6), zzI cy (rB 7) 4 (bkR tN 7), zzG cy 3 qmO rO, zzI cy (rO 0) 5 (onR tN 0), zzI cy (rO 1) 5 (onR tN 1), zzI cy (rO 2) 5 (onR tN 2), zzI cy (rO 3) 5 (onR tN 3), zzI cy (rO 4) 5 (onR tN 4), zzI cy (rO 5) 5 (onR tN 5), zzI cy (rO 6) 5 (onR tN 6), zzI cy (rO 7) 5 (onR tN 7), zzG cy 3 qmK rK, zzI cy (rK 0) 8 (T_kn tN 0), zzI cy (rK 1) 8 (T_kn tN 1), zzI cy (rK 2) 8 (T_kn tN 2), zzI cy (rK 3) 8 (T_kn tN 3), zzI cy (rK 4) 8 (T_kn tN 4), zzI cy (rK 5) 8 (T_kn tN 5), zzI cy (rK 6) 8 (T_kn tN 6), zzI cy (rK 7) 8 (T_kn tN 7)] ∧ (WI tN ∧ PMyears fMh fMk fMa tA (nI k_4) (nI k_11) r tN) ∧ (True))) A) (List.toArray (α := Value) [.ref qm, .int (nI k_4), .int (nI k_11)]) s 0 0 A) (F0 m 49 ls []) := by
          intro n_25
          induction n_25 with
          | zero => intro j_27 tJ_28 xS_29 xE_30 hm9; exact absurd hm9 (Nat.not_lt_zero _)
          | succ n_25 ih_26 =>
            intro j_27 tJ_28 xS_29 xE_30 hm_35 hj_31 hT_32 hW_33 hY_34 H locs ls hP hD hS hl
            refine lv_iload hx hb (g_21 (v := 5) bX6_years rfl) (lv_at hl 0 rfl) ?_
            refine lv_iload_n hx hb (g_28 bX6_years rfl) rfl (lv_at hl 5 rfl) ?_
            refine lv_icmp_ge (tgt := 147) hx hb dX6_years_52 (by decide +kernel) (fun c_36 => ?_) (fun c_36 => ?_)
            · have hz_38 : j_27 = k_11 := Nat.le_antisymm (by omega) (lp_ge rfl rfl (by omega) (by omega) c_36)
              have hz_38r : yrG (fMk k_4) (fMa k_4) k_11 tA 0 = (tJ_28, xS_29) := by rw [← hY_34, hz_38, Nat.sub_self]; rfl
              refine lv_aload_n hx hb (g_42 bX6_years rfl) rfl (lv_at hl 3 rfl) ?_
              refine lv_dup hx hb (g_89 bX6_years rfl) rfl ?_
              refine va_get (D := G) (ci := 5) (v := .int iTk) (C := RX6) (T := TX6) (N := 35) hx hb hts iX_X6 hown hK hP 29 rfl rfl 16 (by decide +kernel) (hts _ m_t866) (fun _ h9 => h9) rfl (g_180 (v := 355) bX6_years rfl) ?_
              refine lv_iload hx hb (g_21 (v := 4) bX6_years rfl) (lv_at hl 1 rfl) ?_
              refine lv_iadd hx hb (g_96 bX6_years rfl) ?_
              refine va_put (D := G) (ci := 5) (v := .int (iTk + xS_29)) (ty := .int) (C := RX6) (T := TX6) (N := 35) hx hb hts iX_X6 tyX6 tyX6_ok nmX6 hown hK hP hD hS 29 rfl rfl 16 (by decide +kernel) (hts _ m_t866) (fun _ h9 => h9) rfl (by decide +kernel) rfl rfl (Nat.le_of_ble_eq_true rfl) (g_181 (v := 355) bX6_years rfl) (fun H locs => ?_)
              clear hP hD hS
              intro hP hD hS
              have hPD := pd_as [_, _, _, zzI cy (rB 0) 4 (bkR tJ_28 0), zzI cy (rB 1) 4 (bkR tJ_28 1), zzI cy (rB 2) 4 (bkR tJ_28 2), zzI cy (rB 3) 4 (bkR tJ_28 3), zzI cy (rB 4) 4 (bkR tJ_28 4), zzI cy (rB 5) 4 (bkR tJ_28 5), zzI cy (rB 6) 4 (bkR tJ_28 6), zzI cy (rB 7) 4 (bkR tJ_28 7), _, zzI cy (rO 0) 5 (onR tJ_28 0), zzI cy (rO 1) 5 (onR tJ_28 1), zzI cy (rO 2) 5 (onR tJ_28 2), zzI cy (rO 3) 5 (onR tJ_28 3), zzI cy (rO 4) 5 (onR tJ_28 4), zzI cy (rO 5) 5 (onR tJ_28 5), zzI cy (rO 6) 5 (onR tJ_28 6), zzI cy (rO 7) 5 (onR tJ_28 7), _, zzI cy (rK 0) 8 (T_kn tJ_28 0), zzI cy (rK 1) 8 (T_kn tJ_28 1), zzI cy (rK 2) 8 (T_kn tJ_28 2), zzI cy (rK 3) 8 (T_kn tJ_28 3), zzI cy (rK 4) 8 (T_kn tJ_28 4), zzI cy (rK 5) 8 (T_kn tJ_28 5), zzI cy (rK 6) 8 (T_kn tJ_28 6), zzI cy (rK 7) 8 (T_kn tJ_28 7), zzO qm 5 (.ref qmh :: .ref qmo :: .ref qmz :: .ref qmR :: .ref qmv :: .ref qmk :: .ref qma :: .ref qmt :: .int (nI kZ) :: .ref qmr :: .int (nI (T_nb tJ_28)) :: .ref qmB :: .int (nI (T_np tJ_28)) :: .ref qmO :: .ref qmK :: .int xE_30 :: .int (iTk + xS_29) :: .int (T_sd tJ_28) :: ov uP :: ov uU :: .int (nI kAt) :: .int iTo :: .int iFr :: .long JFi :: .int iFa :: .ref qm3 :: .int iSt :: .int iLv :: .int iWs :: vLa :: .ref qmu :: .ref qmy :: .ref qmb :: .ref qms :: .int iOm :: []), _, _] hP hD rfl
              clear hP hD
              obtain ⟨hP, hD⟩ := hPD
              refine lv_iload hx hb (g_21 (v := 4) bX6_years rfl) (lv_at hl 1 rfl) ?_
              exact endWs [[false, false, false, false, false, false, false, false, false, false, false, false, false, false, false, false, false, false, false, false, false, false, false, false, false, false, false, false, false, true, true], [true, true, false, false, false, false, false, false, false, false, false, false, false, false, false, false, false, false, false, false, false, false, false, false, false, false, false, false, false, false, false, true], [false, false, true, true, true, true, true, true, true, true, true, true, true, true, true, true, true, true, true, true, true, true, true, true, true, true, true, true, true]] hx hb hr hlocks rfl hP hD rfl (by decide +kernel) hS ⟨xE_30, (iTk + xS_29), fX_18, tJ_28, rfl, ⟨hW_33, Or.inr (Or.inr (Or.inr ⟨k_4, k_11, by omega, rfl, (ex_k (by omega) h_19).1, (ex_k (by omega) h_19).2, by omega, by omega, rfl, hz_38r.symm⟩))⟩, trivial⟩ (g_172 bX6_years rfl)
            · have hlt_39 : j_27 < k_11 := lp_lt rfl rfl (by omega) (by omega) c_36
              obtain ⟨hlt_39i, hlt_39b, hlt_39p⟩ := id hT_32
              refine lv_aload_n hx hb (g_42 bX6_years rfl) rfl (lv_at hl 3 rfl) ?_
              refine lv_aload_n hx hb (g_42 bX6_years rfl) rfl (lv_at hl 3 rfl) ?_
              refine va_get (D := G) (ci := 5) (v := .ref qmk) (C := RX6) (T := TX6) (N := 35) hx hb hts iX_X6 hown hK hP 29 rfl rfl 5 (by decide +kernel) (hts _ m_t855) (fun _ h9 => h9) rfl (g_180 (v := 28) bX6_years rfl) ?_
              refine lv_iload_n hx hb (g_27 bX6_years rfl) rfl (lv_at hl 4 rfl) ?_
              refine va_iald hx hb hK hP 0 0 rfl rfl (in_shelf h_3) (g_46 bX6_years rfl) ?_
              refine lv_seti (v := fMk k_4) (congrArg fMk (cl8 (by omega))) ?_
              refine lv_aload_n hx hb (g_42 bX6_years rfl) rfl (lv_at hl 3 rfl) ?_
              refine va_get (D := G) (ci := 5) (v := .ref qma) (C := RX6) (T := TX6) (N := 35) hx hb hts iX_X6 hown hK hP 29 rfl rfl 6 (by decide +kernel) (hts _ m_t856) (fun _ h9 => h9) rfl (g_180 (v := 31) bX6_years rfl) ?_
              refine lv_iload_n hx hb (g_27 bX6_years rfl) rfl (lv_at hl 4 rfl) ?_
              refine va_iald hx hb hK hP 1 0 rfl rfl (in_shelf h_3) (g_46 bX6_years rfl) ?_
              refine lv_seti (v := fMa k_4) (congrArg fMa (cl8 (by omega))) ?_
              obtain ⟨n_40, hn_41, en_42⟩ := hMa k_4 (by omega)
              refine lv_seti (v := nI n_40) en_42 ?_
              refine cVi (As := [.int (fMk k_4), .int (nI n_40)]) (rest := []) (b := qm) (q := (RX6, TX6, 35)) ⟨hx, hb, hml, hown, hts⟩ (x_X6_does l G cy (H).size qm (.ref qmh) (.ref qmo) (.ref qmz) (.ref qmR) (.ref qmv) (.ref qmk) (.ref qma) (.ref qmt) (.int (nI kZ)) (.ref qmr) tJ_28 qmB qmO qmK xE_30 iTk (ov uP) (ov uU) (.int (nI kAt)) (.int iTo) (.int iFr) (.long JFi) (.int iFa) (.ref qm3) (.int iSt) iLv iWs vLa (.ref qmu) (.ref qmy) (.ref qmb) (.ref qms) (.int iOm) rB rO rK (fMk k_4) n_40 (by omega) (by omega) hW_33 (by omega) (hMk k_4 (by omega) (ex_k (by omega) h_19).1 (ex_k (by omega) h_19).2)) L_X6_114 hN hP hD hS hA (trueIxs [[false, false, false, false, false, false, false, false, false, false, false, false, false, false, false, false, false, false, false, false, false, false, false, false, false, false, false, false, false, true], [false, false, true, true, true, true, true, true, true, true, true, true, true, true, true, true, true, true, true, true, true, true, true, true, true, true, true, true, true]]) [true, true, false, false, false, false, false, false, false, false, false, false, false, false, false, false, false, false, false, false, false, false, false, false, false, false, false, false, false, false, true, true] (sels_eq rfl rfl) (by decide +kernel) rfl 29 5 rfl rfl rfl ⟨Nat.le_of_ble_eq_true rfl, Nat.le_of_ble_eq_true rfl⟩ hl.1 (Nat.le_of_ble_eq_true rfl) (g_182 (v := 114) bX6_years rfl) ⟨Nat.le_of_ble_eq_true rfl, Nat.le_of_ble_eq_true rfl⟩ (fun r_43 u_45 H locs h_44 => ?_)
              clear hP hD hS
              intro hP hD hS
              obtain ⟨tX_46, hu9, h_47, h_48, h_44⟩ := h_44
              have hPD := pd_eq [_, _, _, _, zzO qm 5 (.ref qmh :: .ref qmo :: .ref qmz :: .ref qmR :: .ref qmv :: .ref qmk :: .ref qma :: .ref qmt :: .int (nI kZ) :: .ref qmr :: .int (nI (T_nb tX_46)) :: .ref qmB :: .int (nI (T_np tX_46)) :: .ref qmO :: .ref qmK :: .int xE_30 :: .int iTk :: .int (T_sd tX_46) :: ov uP :: ov uU :: .int (nI kAt) :: .int iTo :: .int iFr :: .long JFi :: .int iFa :: .ref qm3 :: .int iSt :: .int iLv :: .int iWs :: vLa :: .ref qmu :: .ref qmy :: .ref qmb :: .ref qms :: .int iOm :: []), _, zzI cy (rB 0) 4 (bkR tX_46 0), zzI cy (rB 1) 4 (bkR tX_46 1), zzI cy (rB 2) 4 (bkR tX_46 2), zzI cy (rB 3) 4 (bkR tX_46 3), zzI cy (rB 4) 4 (bkR tX_46 4), zzI cy (rB 5) 4 (bkR tX_46 5), zzI cy (rB 6) 4 (bkR tX_46 6), zzI cy (rB 7) 4 (bkR tX_46 7), _, zzI cy (rO 0) 5 (onR tX_46 0), zzI cy (rO 1) 5 (onR tX_46 1), zzI cy (rO 2) 5 (onR tX_46 2), zzI cy (rO 3) 5 (onR tX_46 3), zzI cy (rO 4) 5 (onR tX_46 4), zzI cy (rO 5) 5 (onR tX_46 5), zzI cy (rO 6) 5 (onR tX_46 6), zzI cy (rO 7) 5 (onR tX_46 7), _, zzI cy (rK 0) 8 (T_kn tX_46 0), zzI cy (rK 1) 8 (T_kn tX_46 1), zzI cy (rK 2) 8 (T_kn tX_46 2), zzI cy (rK 3) 8 (T_kn tX_46 3), zzI cy (rK 4) 8 (T_kn tX_46 4), zzI cy (rK 5) 8 (T_kn tX_46 5), zzI cy (rK 6) 8 (T_kn tX_46 6), zzI cy (rK 7) 8 (T_kn tX_46 7)] hP hD hu9 rfl
              clear hP hD hu9
              obtain ⟨hP, hD⟩ := hPD
              refine lv_pop hx hb (g_87 bX6_years rfl) rfl ?_
              refine lv_iload hx hb (g_21 (v := 4) bX6_years rfl) (lv_at hl 1 rfl) ?_
              refine lv_aload_n hx hb (g_42 bX6_years rfl) rfl (lv_at hl 3 rfl) ?_
              refine kRi (rV (As := []) (rest := [.int xS_29]) (b := qm) ⟨hx, hb, hml, hown, hts⟩ (c_X6_valueNow l G cy qm (.ref qmh) (.ref qmo) (.ref qmz) (.ref qmR) (.ref qmv) (.ref qmk) (.ref qma) (.ref qmt) (.int (nI kZ)) (.ref qmr) tX_46 qmB qmO qmK xE_30 iTk (ov uP) (ov uU) (.int (nI kAt)) (.int iTo) (.int iFr) (.long JFi) (.int iFa) (.ref qm3) (.int iSt) iLv iWs vLa (.ref qmu) (.ref qmy) (.ref qmb) (.ref qms) (.int iOm) rB rO rK (by omega) (by omega)) L_X6_122 (preRV (q := (RX6, TX6, 35)) hN hP (trueIx 0 [false, false, false, false, true, true, true, true, true, true, true, true, true, true, true, true, true, true, true, true, true, true, true, true, true, true, true, true, true, true, true, true]) (sel_fm rfl rfl) 4 5 rfl rfl) rfl ⟨Nat.le_of_ble_eq_true rfl, Nat.le_of_ble_eq_true rfl⟩ hl.1 (Nat.le_of_ble_eq_true rfl) (g_182 (v := 122) bX6_years rfl) ⟨Nat.le_of_ble_eq_true rfl, Nat.le_of_ble_eq_true rfl⟩) (fun r_49 h_50 => ?_)
              subst h_50
              refine lv_iadd hx hb (g_96 bX6_years rfl) ?_
              refine lv_istore (lv' := [(4, .int (xS_29 + (mvo tX_46 ((1 <<< (nI (T_np tX_46) &&& 31)) - 1)))), (5, .int (nI j_27)), (3, .int 0), (0, .ref qm), (1, .int (nI k_4)), (2, .int (nI k_11))]) hx hb (g_54 (v := 4) bX6_years rfl) hl (by decide +kernel) rfl (fun ls => ?_)
              clear hl
              intro hl
              refine lv_iconst (v := 0) hx hb (g_3 bX6_years rfl) (by decide +kernel) ?_
              refine lv_istore (lv' := [(6, .int 0), (4, .int (xS_29 + (mvo tX_46 ((1 <<< (nI (T_np tX_46) &&& 31)) - 1)))), (5, .int (nI j_27)), (3, .int 0), (0, .ref qm), (1, .int (nI k_4)), (2, .int (nI k_11))]) hx hb (g_54 (v := 6) bX6_years rfl) hl (by decide +kernel) rfl (fun ls => ?_)
              clear hl
              intro hl
              have lp_51 : ∀ (n_52 : Nat) (m_54 : Nat) (tK_55 : TA), 8 - m_54 < n_52 → m_54 ≤ T_np tA → TI tK_55 ∧ T_nb tK_55 = T_nb tA ∧ T_np tK_55 = T_np tA → tK_55 = ddF tX_46 m_54 → ∀ (H : Heap) (locs : List Loc) (ls : Array Slot), va_P G CL [zzI cy qmk 8 fMk, zzI cy qma 8 fMa, zzI cy qmh 8 fMh, zzI cy qmr 8 fX_18, zzO qm 5 (.ref qmh :: .ref qmo :: .ref qmz :: .ref qmR :: .ref qmv :: .ref qmk :: .ref qma :: .ref qmt :: .int (nI kZ) :: .ref qmr :: .int (nI (T_nb tK_55)) :: .ref qmB :: .int (nI (T_np tK_55)) :: .ref qmO :: .ref qmK :: .int xE_30 :: .int iTk :: .int (T_sd tK_55) :: ov uP :: ov uU :: .int (nI kAt) :: .int iTo :: .int iFr :: .long JFi :: .int iFa :: .ref qm3 :: .int iSt :: .int iLv :: .int iWs :: vLa :: .ref qmu :: .ref qmy :: .ref qmb :: .ref qms :: .int iOm :: []), zzG cy 3 qmB rB, zzI cy (rB 0) 4 (bkR tK_55 0), zzI cy (rB 1) 4 (bkR tK_55 1), zzI cy (rB 2) 4 (bkR tK_55 2), zzI cy (rB 3) 4 (bkR tK_55 3), zzI cy (rB 4) 4 (bkR tK_55 4), zzI cy (rB 5) 4 (bkR tK_55 5), zzI cy (rB 6) 4 (bkR tK_55 6), zzI cy (rB 7) 4 (bkR tK_55 7), zzG cy 3 qmO rO, zzI cy (rO 0) 5 (onR tK_55 0), zzI cy (rO 1) 5 (onR tK_55 1), zzI cy (rO 2) 5 (onR tK_55 2), zzI cy (rO 3) 5 (onR tK_55 3), zzI cy (rO 4) 5 (onR tK_55 4), zzI cy (rO 5) 5 (onR tK_55 5), zzI cy (rO 6) 5 (onR tK_55 6), zzI cy (rO 7) 5 (onR tK_55 7), zzG cy 3 qmK rK, zzI cy (rK 0) 8 (T_kn tK_55 0), zzI cy (rK 1) 8 (T_kn tK_55 1), zzI cy (rK 2) 8 (T_kn tK_55 2), zzI cy (rK 3) 8 (T_kn tK_55 3), zzI cy (rK 4) 8 (T_kn tK_55 4), zzI cy (rK 5) 8 (T_kn tK_55 5), zzI cy (rK 6) 8 (T_kn tK_55 6), zzI cy (rK 7) 8 (T_kn tK_55 7)] H → va_D A [zzI cy qmk 8 fMk, zzI cy qma 8 fMa, zzI cy qmh 8 fMh, zzI cy qmr 8 fX_18, zzO qm 5 (.ref qmh :: .ref qmo :: .ref qmz :: .ref qmR :: .ref qmv :: .ref qmk :: .ref qma :: .ref qmt :: .int (nI kZ) :: .ref qmr :: .int (nI (T_nb tK_55)) :: .ref qmB :: .int (nI (T_np tK_55)) :: .ref qmO :: .ref qmK :: .int xE_30 :: .int iTk :: .int (T_sd tK_55) :: ov uP :: ov uU :: .int (nI kAt) :: .int iTo :: .int iFr :: .long JFi :: .int iFa :: .ref qm3 :: .int iSt :: .int iLv :: .int iWs :: vLa :: .ref qmu :: .ref qmy :: .ref qmb :: .ref qms :: .int iOm :: []), zzG cy 3 qmB rB, zzI cy (rB 0) 4 (bkR tK_55 0), zzI cy (rB 1) 4 (bkR tK_55 1), zzI cy (rB 2) 4 (bkR tK_55 2), zzI cy (rB 3) 4 (bkR tK_55 3), zzI cy (rB 4) 4 (bkR tK_55 4), zzI cy (rB 5) 4 (bkR tK_55 5), zzI cy (rB 6) 4 (bkR tK_55 6), zzI cy (rB 7) 4 (bkR tK_55 7), zzG cy 3 qmO rO, zzI cy (rO 0) 5 (onR tK_55 0), zzI cy (rO 1) 5 (onR tK_55 1), zzI cy (rO 2) 5 (onR tK_55 2), zzI cy (rO 3) 5 (onR tK_55 3), zzI cy (rO 4) 5 (onR tK_55 4), zzI cy (rO 5) 5 (onR tK_55 5), zzI cy (rO 6) 5 (onR tK_55 6), zzI cy (rO 7) 5 (onR tK_55 7), zzG cy 3 qmK rK, zzI cy (rK 0) 8 (T_kn tK_55 0), zzI cy (rK 1) 8 (T_kn tK_55 1), zzI cy (rK 2) 8 (T_kn tK_55 2), zzI cy (rK 3) 8 (T_kn tK_55 3), zzI cy (rK 4) 8 (T_kn tK_55 4), zzI cy (rK 5) 8 (T_kn tK_55 5), zzI cy (rK 6) 8 (T_kn tK_55 6), zzI cy (rK 7) 8 (T_kn tK_55 7)] → va_S A s.heap H locs → lv_has ls 7 [(6, .int (nI m_54)), (4, .int (xS_29 + (mvo tX_46 ((1 <<< (nI (T_np tX_46) &&& 31)) - 1)))), (5, .int (nI j_27)), (3, .int 0), (0, .ref qm), (1, .int (nI k_4)), (2, .int (nI k_11))] → W p l e (Rm 16 0 0) s m (List.toArray (α := Value) [.ref qm, .int (nI k_4), .int (nI k_11)]) below meth c H locs 0 0 (MQ below ((Wi G (fun r u => ∃ (iNe : Int32) (iNt : Int32) (fNr : Nat → Int32) (tN : TA), u = [zzO qm 5 (.ref qmh :: .ref qmo :: .ref qmz :: .ref qmR :: .ref qmv :: .ref qmk :: .ref qma :: .ref qmt :: .int (nI kZ) :: .ref qmr :: .int (nI (T_nb tN)) :: .ref qmB :: .int (nI (T_np tN)) :: .ref qmO :: .ref qmK :: .int iNe :: .int iNt :: .int (T_sd tN) :: ov uP :: ov uU :: .int (nI kAt) :: .int iTo :: .int iFr :: .long JFi :: .int iFa :: .ref qm3 :: .int iSt :: .int iLv :: .int iWs :: vLa :: .ref qmu :: .ref qmy :: .ref qmb :: .ref qms :: .int iOm :: []), zzI cy qmh 8 fMh, zzI cy qmk 8 fMk, zzI cy qma 8 fMa, zzI cy qmr 8 fNr, zzG cy 3 qmB rB, zzI cy (rB 0) 4 (bkR tN 0), zzI cy (rB 1) 4 (bkR tN 1), zzI cy (rB 2) 4 (bkR tN 2), zzI cy (rB 3) 4 (bkR tN 3), zzI cy (rB 4) 4 (bkR tN 4), zzI cy (rB 5) 4 (bkR tN 5), zzI cy (rB 6) 4 (bkR tN 6), zzI cy (rB 7) 4 (bkR tN 7), zzG cy 3 qmO rO, zzI cy (rO 0) 5 (onR tN 0), zzI cy (rO 1) 5 (onR tN 1), zzI cy (rO 2) 5 (onR tN 2), zzI cy (rO 3) 5 (onR tN 3), zzI cy (rO 4) 5 (onR tN 4), zzI cy (rO 5) 5 (onR tN 5), zzI cy (rO 6) 5 (onR tN 6), zzI cy (rO 7) 5 (onR tN 7), zzG cy 3 qmK rK, zzI cy (rK 0) 8 (T_kn tN 0), zzI cy (rK 1) 8 (T_kn tN 1), zzI cy (rK 2) 8 (T_kn tN 2), zzI cy (rK 3) 8 (T_kn tN 3), zzI cy (rK 4) 8 (T_kn tN 4), zzI cy (rK 5) 8 (T_kn tN 5), zzI cy (rK 6) 8 (T_kn tN 6), zzI cy (rK 7) 8 (T_kn tN 7)] ∧ (WI tN ∧ PMyears fMh fMk fMa tA (nI k_4) (nI k_11) r tN) ∧ (True))) A) (List.toArray (α := Value) [.ref qm, .int (nI k_4), .int (nI k_11)]) s 0 0 A) (F0 m 84 ls []) := by
                intro n_52
                induction n_52 with
                | zero => intro m_54 tK_55 hm9; exact absurd hm9 (Nat.not_lt_zero _)
                | succ n_52 ih_53 =>
                  intro m_54 tK_55 hm_59 hm_59 hTK_57 hD_58 H locs ls hP hD hS hl
                  refine lv_iload hx hb (g_21 (v := 6) bX6_years rfl) (lv_at hl 0 rfl) ?_
                  refine lv_aload_n hx hb (g_42 bX6_years rfl) rfl (lv_at hl 4 rfl) ?_
                  refine va_get (D := G) (ci := 5) (v := .int (nI (T_np tK_55))) (C := RX6) (T := TX6) (N := 35) hx hb hts iX_X6 hown hK hP 4 rfl rfl 12 (by decide +kernel) (hts _ m_t862) (fun _ h9 => h9) rfl (g_180 (v := 78) bX6_years rfl) ?_
                  refine lv_icmp_ge (tgt := 136) hx hb dX6_years_90 (by decide +kernel) (fun c_60 => ?_) (fun c_60 => ?_)
                  · have hlt_61e : T_np tK_55 = T_np tA := hTK_57.2.2
                    have hlt_61b : T_nb tK_55 = T_nb tA := hTK_57.2.1
                    have hw_62m : m_54 = T_np tA := Nat.le_antisymm (by omega) (by have h9 := c_60; rw [hTK_57.2.2] at h9; exact lp_ge rfl rfl (by omega) (by omega) h9)
                    have hw_62n : T_np tX_46 = T_np tA := by rw [h_48.1]; exact ((zact_nb _ _ _).2).trans hT_32.2.2
                    have hw_62z : tK_55 = zdd tX_46 := by rw [hD_58, hw_62m, ← hw_62n]; rfl
                    have hw_62W : WI tK_55 := by rw [hw_62z, h_48.1]; exact WI_dd (WI_act hW_33)
                    refine lv_aload_n hx hb (g_42 bX6_years rfl) rfl (lv_at hl 4 rfl) ?_
                    refine cVi (As := []) (rest := []) (b := qm) (q := (RX6, TX6, 35)) ⟨hx, hb, hml, hown, hts⟩ (x_X6_end l G cy (H).size qm (.ref qmh) (.ref qmo) (.ref qmz) (.ref qmR) (.ref qmv) (.ref qmk) (.ref qma) (.ref qmt) (.int (nI kZ)) (.ref qmr) tK_55 qmB qmO qmK xE_30 iTk (ov uP) (ov uU) (.int (nI kAt)) (.int iTo) (.int iFr) (.long JFi) (.int iFa) (.ref qm3) (.int iSt) iLv iWs vLa (.ref qmu) (.ref qmy) (.ref qmb) (.ref qms) (.int iOm) rB rO rK (by omega) (by omega) hTK_57.1 hw_62W.2.2) L_X6_288 hN hP hD hS hA (trueIx 0 [false, false, false, false, true, true, true, true, true, true, true, true, true, true, true, true, true, true, true, true, true, true, true, true, true, true, true, true, true, true, true, true]) [true, true, true, true, false, false, false, false, false, false, false, false, false, false, false, false, false, false, false, false, false, false, false, false, false, false, false, false, false, false, false, false] (sel_eq rfl rfl) (by decide +kernel) rfl 4 5 rfl rfl rfl ⟨Nat.le_of_ble_eq_true rfl, Nat.le_of_ble_eq_true rfl⟩ hl.1 (Nat.le_of_ble_eq_true rfl) (g_182 (v := 288) bX6_years rfl) ⟨Nat.le_of_ble_eq_true rfl, Nat.le_of_ble_eq_true rfl⟩ (fun r_63 u_65 H locs h_64 => ?_)
                    clear hP hD hS
                    intro hP hD hS
                    obtain ⟨tX_66, iX_67, hu9, h_68, h_69, h_64⟩ := h_64
                    have hPD := pd_eq [_, _, _, _, zzO qm 5 (.ref qmh :: .ref qmo :: .ref qmz :: .ref qmR :: .ref qmv :: .ref qmk :: .ref qma :: .ref qmt :: .int (nI kZ) :: .ref qmr :: .int (nI (T_nb tX_66)) :: .ref qmB :: .int (nI (T_np tX_66)) :: .ref qmO :: .ref qmK :: .int iX_67 :: .int iTk :: .int (T_sd tX_66) :: ov uP :: ov uU :: .int (nI kAt) :: .int iTo :: .int iFr :: .long JFi :: .int iFa :: .ref qm3 :: .int iSt :: .int iLv :: .int iWs :: vLa :: .ref qmu :: .ref qmy :: .ref qmb :: .ref qms :: .int iOm :: []), _, zzI cy (rB 0) 4 (bkR tX_66 0), zzI cy (rB 1) 4 (bkR tX_66 1), zzI cy (rB 2) 4 (bkR tX_66 2), zzI cy (rB 3) 4 (bkR tX_66 3), zzI cy (rB 4) 4 (bkR tX_66 4), zzI cy (rB 5) 4 (bkR tX_66 5), zzI cy (rB 6) 4 (bkR tX_66 6), zzI cy (rB 7) 4 (bkR tX_66 7), _, zzI cy (rO 0) 5 (onR tX_66 0), zzI cy (rO 1) 5 (onR tX_66 1), zzI cy (rO 2) 5 (onR tX_66 2), zzI cy (rO 3) 5 (onR tX_66 3), zzI cy (rO 4) 5 (onR tX_66 4), zzI cy (rO 5) 5 (onR tX_66 5), zzI cy (rO 6) 5 (onR tX_66 6), zzI cy (rO 7) 5 (onR tX_66 7), _, zzI cy (rK 0) 8 (T_kn tX_66 0), zzI cy (rK 1) 8 (T_kn tX_66 1), zzI cy (rK 2) 8 (T_kn tX_66 2), zzI cy (rK 3) 8 (T_kn tX_66 3), zzI cy (rK 4) 8 (T_kn tX_66 4), zzI cy (rK 5) 8 (T_kn tX_66 5), zzI cy (rK 6) 8 (T_kn tX_66 6), zzI cy (rK 7) 8 (T_kn tX_66 7)] hP hD hu9 rfl
                    clear hP hD hu9
                    obtain ⟨hP, hD⟩ := hPD
                    refine lv_pop hx hb (g_87 bX6_years rfl) rfl ?_
                    refine lv_iinc (v := nI (j_27 + 1)) (lv' := [(5, .int (nI (j_27 + 1))), (6, .int (nI m_54)), (4, .int (xS_29 + (mvo tX_46 ((1 <<< (nI (T_np tX_46) &&& 31)) - 1)))), (3, .int 0), (0, .ref qm), (1, .int (nI k_4)), (2, .int (nI k_11))]) hx hb dX6_years_141 hl (k := 2) rfl (nI_1 _) (by decide +kernel) rfl (fun ls => ?_)
                    clear hl
                    intro hl
                    refine lv_goto (tgt := 49) hx hb dX6_years_144 (by decide +kernel) ?_
                    exact ih_26 (j_27 + 1) tX_66 (xS_29 + (mvo tX_46 ((1 <<< (nI (T_np tX_46) &&& 31)) - 1))) iX_67 (by omega) (by omega) (⟨h_68.1, h_68.2.1.trans hTK_57.2.1, h_68.2.2.trans hTK_57.2.2⟩) (by rw [h_69]; exact WI_ey hw_62W) (by have q9 := hY_34; rw [show k_11 - j_27 = k_11 - (j_27 + 1) + 1 by omega] at q9; exact yr_st q9 (by rw [h_69, hw_62z, h_48.1, en_42]) (by rw [mvo_all (by omega), h_48.1, en_42])) _ _ _ (pSb hP [[true, true, false, false, false, true, true, true, true, true, true, true, true, true, true, true, true, true, true, true, true, true, true, true, true, true, true, true, true, true, true, true], [false, false, false, false, true], [false, false, true, true]] rfl rfl) (dSb hD [[true, true, false, false, false, true, true, true, true, true, true, true, true, true, true, true, true, true, true, true, true, true, true, true, true, true, true, true, true, true, true, true], [false, false, false, false, true], [false, false, true, true]] (by decide +kernel) rfl rfl) hS (lv_sub hl [0, 2, 3, 4, 5, 6] rfl)
                  · have hlt_70e : T_np tK_55 = T_np tA := hTK_57.2.2
                    have hlt_70b : T_nb tK_55 = T_nb tA := hTK_57.2.1
                    have hlt_70 : m_54 < T_np tA := by rw [hlt_70e] at c_60; exact lp_lt rfl rfl (by omega) (by omega) c_60
                    refine lv_aload_n hx hb (g_42 bX6_years rfl) rfl (lv_at hl 4 rfl) ?_
                    refine lv_iload hx hb (g_21 (v := 6) bX6_years rfl) (lv_at hl 0 rfl) ?_
                    refine kRi (rV (As := [.int (nI m_54)]) (rest := []) (b := qm) ⟨hx, hb, hml, hown, hts⟩ (c_X6_isThere l G cy qm (.ref qmh) (.ref qmo) (.ref qmz) (.ref qmR) (.ref qmv) (.ref qmk) (.ref qma) (.ref qmt) (.int (nI kZ)) (.ref qmr) tK_55 qmB qmO qmK xE_30 iTk (ov uP) (ov uU) (.int (nI kAt)) (.int iTo) (.int iFr) (.long JFi) (.int iFa) (.ref qm3) (.int iSt) iLv iWs vLa (.ref qmu) (.ref qmy) (.ref qmb) (.ref qms) (.int iOm) rO m_54 (by omega)) L_X6_81 (preRV (q := (RX6, TX6, 35)) hN hP (trueIx 0 [false, false, false, false, true, false, false, false, false, false, false, false, false, false, true, true, true, true, true, true, true, true, true]) (sel_fm rfl rfl) 4 5 rfl rfl) rfl ⟨Nat.le_of_ble_eq_true rfl, Nat.le_of_ble_eq_true rfl⟩ hl.1 (Nat.le_of_ble_eq_true rfl) (g_182 (v := 81) bX6_years rfl) ⟨Nat.le_of_ble_eq_true rfl, Nat.le_of_ble_eq_true rfl⟩) (fun r_71 h_72 => ?_)
                    rcases h_72 with ⟨rfl, h_73⟩ | ⟨rfl, h_73⟩
                    · refine lv_if_eq (tgt := 130) hx hb dX6_years_99 (by decide +kernel) (fun h9 => absurd h9 (by decide +kernel)) (fun _ => ?_)
                      refine lv_aload_n hx hb (g_42 bX6_years rfl) rfl (lv_at hl 4 rfl) ?_
                      refine lv_bipush (v := 20) hx hb dX6_years_103 (by decide +kernel) ?_
                      refine cVi (As := [.int 20]) (rest := []) (b := qm) (q := (RX6, TX6, 35)) ⟨hx, hb, hml, hown, hts⟩ (x_X6_draw l G cy (H).size qm (.ref qmh) (.ref qmo) (.ref qmz) (.ref qmR) (.ref qmv) (.ref qmk) (.ref qma) (.ref qmt) (.int (nI kZ)) (.ref qmr) tK_55 qmB qmO qmK xE_30 iTk (ov uP) (ov uU) (.int (nI kAt)) (.int iTo) (.int iFr) (.long JFi) (.int iFa) (.ref qm3) (.int iSt) iLv iWs vLa (.ref qmu) (.ref qmy) (.ref qmb) (.ref qms) (.int iOm) rB rO rK) L_X6_352 hN hP hD hS hA (trueIx 0 [false, false, false, false, true, true, true, true, true, true, true, true, true, true, true, true, true, true, true, true, true, true, true, true, true, true, true, true, true, true, true, true]) [true, true, true, true, false, false, false, false, false, false, false, false, false, false, false, false, false, false, false, false, false, false, false, false, false, false, false, false, false, false, false, false] (sel_eq rfl rfl) (by decide +kernel) rfl 4 5 rfl rfl rfl ⟨Nat.le_of_ble_eq_true rfl, Nat.le_of_ble_eq_true rfl⟩ hl.1 (Nat.le_of_ble_eq_true rfl) (g_182 (v := 352) bX6_years rfl) ⟨Nat.le_of_ble_eq_true rfl, Nat.le_of_ble_eq_true rfl⟩ (fun r_75 u_77 H locs h_76 => ?_)
                      clear hP hD hS
                      intro hP hD hS
                      obtain ⟨hu9, h_76⟩ := h_76
                      have hPD := pd_eq [_, _, _, _, zzO qm 5 (.ref qmh :: .ref qmo :: .ref qmz :: .ref qmR :: .ref qmv :: .ref qmk :: .ref qma :: .ref qmt :: .int (nI kZ) :: .ref qmr :: .int (nI (T_nb (T_setsd tK_55 (ltS (T_sd tK_55))))) :: .ref qmB :: .int (nI (T_np (T_setsd tK_55 (ltS (T_sd tK_55))))) :: .ref qmO :: .ref qmK :: .int xE_30 :: .int iTk :: .int (T_sd (T_setsd tK_55 (ltS (T_sd tK_55)))) :: ov uP :: ov uU :: .int (nI kAt) :: .int iTo :: .int iFr :: .long JFi :: .int iFa :: .ref qm3 :: .int iSt :: .int iLv :: .int iWs :: vLa :: .ref qmu :: .ref qmy :: .ref qmb :: .ref qms :: .int iOm :: []), _, zzI cy (rB 0) 4 (bkR (T_setsd tK_55 (ltS (T_sd tK_55))) 0), zzI cy (rB 1) 4 (bkR (T_setsd tK_55 (ltS (T_sd tK_55))) 1), zzI cy (rB 2) 4 (bkR (T_setsd tK_55 (ltS (T_sd tK_55))) 2), zzI cy (rB 3) 4 (bkR (T_setsd tK_55 (ltS (T_sd tK_55))) 3), zzI cy (rB 4) 4 (bkR (T_setsd tK_55 (ltS (T_sd tK_55))) 4), zzI cy (rB 5) 4 (bkR (T_setsd tK_55 (ltS (T_sd tK_55))) 5), zzI cy (rB 6) 4 (bkR (T_setsd tK_55 (ltS (T_sd tK_55))) 6), zzI cy (rB 7) 4 (bkR (T_setsd tK_55 (ltS (T_sd tK_55))) 7), _, zzI cy (rO 0) 5 (onR (T_setsd tK_55 (ltS (T_sd tK_55))) 0), zzI cy (rO 1) 5 (onR (T_setsd tK_55 (ltS (T_sd tK_55))) 1), zzI cy (rO 2) 5 (onR (T_setsd tK_55 (ltS (T_sd tK_55))) 2), zzI cy (rO 3) 5 (onR (T_setsd tK_55 (ltS (T_sd tK_55))) 3), zzI cy (rO 4) 5 (onR (T_setsd tK_55 (ltS (T_sd tK_55))) 4), zzI cy (rO 5) 5 (onR (T_setsd tK_55 (ltS (T_sd tK_55))) 5), zzI cy (rO 6) 5 (onR (T_setsd tK_55 (ltS (T_sd tK_55))) 6), zzI cy (rO 7) 5 (onR (T_setsd tK_55 (ltS (T_sd tK_55))) 7), _, zzI cy (rK 0) 8 (T_kn (T_setsd tK_55 (ltS (T_sd tK_55))) 0), zzI cy (rK 1) 8 (T_kn (T_setsd tK_55 (ltS (T_sd tK_55))) 1), zzI cy (rK 2) 8 (T_kn (T_setsd tK_55 (ltS (T_sd tK_55))) 2), zzI cy (rK 3) 8 (T_kn (T_setsd tK_55 (ltS (T_sd tK_55))) 3), zzI cy (rK 4) 8 (T_kn (T_setsd tK_55 (ltS (T_sd tK_55))) 4), zzI cy (rK 5) 8 (T_kn (T_setsd tK_55 (ltS (T_sd tK_55))) 5), zzI cy (rK 6) 8 (T_kn (T_setsd tK_55 (ltS (T_sd tK_55))) 6), zzI cy (rK 7) 8 (T_kn (T_setsd tK_55 (ltS (T_sd tK_55))) 7)] hP hD hu9 rfl
                      clear hP hD hu9
                      obtain ⟨hP, hD⟩ := hPD
                      subst h_76
                      refine lv_aload_n hx hb (g_42 bX6_years rfl) rfl (lv_at hl 4 rfl) ?_
                      refine va_get (D := G) (ci := 5) (v := .ref qmO) (C := RX6) (T := TX6) (N := 35) hx hb hts iX_X6 hown hK hP 4 rfl rfl 13 (by decide +kernel) (hts _ m_t863) (fun _ h9 => h9) rfl (g_180 (v := 45) bX6_years rfl) ?_
                      refine lv_iload hx hb (g_21 (v := 6) bX6_years rfl) (lv_at hl 0 rfl) ?_
                      refine va_alda hx hb hK hP 14 3 rfl rfl (in8 (by omega)) (g_50 bX6_years rfl) ?_
                      refine lv_setv (v := .ref (rO m_54)) (g_ref (by omega)) ?_
                      refine lv_iconst (v := 0) hx hb (g_3 bX6_years rfl) (by decide +kernel) ?_
                      refine va_iald hx hb hK hP (15 + m_54) 0 (sg8 (n0 := 15) (f := (fun j => zzI cy (rO j) 5 (onR (T_setsd tK_55 (ltS (T_sd tK_55))) j))) rfl rfl rfl rfl rfl rfl rfl rfl m_54 (by omega)) rfl (in_c rfl) (g_46 bX6_years rfl) ?_
                      refine lv_seti (v := T_ag (T_setsd tK_55 (ltS (T_sd tK_55))) m_54) (on_0 _ _) ?_
                      refine lv_icmp_ge (tgt := 130) hx hb dX6_years_117 (by decide +kernel) (fun c_78 => ?_) (fun c_78 => ?_)
                      · refine lv_iinc (v := nI (m_54 + 1)) (lv' := [(6, .int (nI (m_54 + 1))), (4, .int (xS_29 + (mvo tX_46 ((1 <<< (nI (T_np tX_46) &&& 31)) - 1)))), (5, .int (nI j_27)), (3, .int 0), (0, .ref qm), (1, .int (nI k_4)), (2, .int (nI k_11))]) hx hb dX6_years_130 hl (k := 0) rfl (nI_1 _) (by decide +kernel) rfl (fun ls => ?_)
                        clear hl
                        intro hl
                        refine lv_goto (tgt := 84) hx hb dX6_years_133 (by decide +kernel) ?_
                        exact ih_53 (m_54 + 1) (T_setsd tK_55 (ltS (T_sd tK_55))) (by omega) (by omega) (⟨hTK_57.1, hTK_57.2⟩) (by rw [dd_live (by rw [← hD_58]; exact h_73) (by rw [← hD_58]; exact Int32.not_lt.mpr c_78), ← hD_58]) _ _ _ hP hD hS (lv_sub hl [0, 1, 2, 3, 4, 5, 6] rfl)
                      · refine lv_aload_n hx hb (g_42 bX6_years rfl) rfl (lv_at hl 4 rfl) ?_
                        refine va_get (D := G) (ci := 5) (v := .ref qmO) (C := RX6) (T := TX6) (N := 35) hx hb hts iX_X6 hown hK hP 4 rfl rfl 13 (by decide +kernel) (hts _ m_t863) (fun _ h9 => h9) rfl (g_180 (v := 45) bX6_years rfl) ?_
                        refine lv_iload hx hb (g_21 (v := 6) bX6_years rfl) (lv_at hl 0 rfl) ?_
                        refine va_alda hx hb hK hP 14 3 rfl rfl (in8 (by omega)) (g_50 bX6_years rfl) ?_
                        refine lv_setv (v := .ref (rO m_54)) (g_ref (by omega)) ?_
                        refine lv_iconst (v := 4) hx hb (g_7 bX6_years rfl) (by decide +kernel) ?_
                        refine lv_iconst (v := 1) hx hb (g_4 bX6_years rfl) (by decide +kernel) ?_
                        refine va_iast hx hb hK hP hD hS (15 + m_54) 0 ((sg8 (n0 := 15) (f := (fun j => zzI cy (rO j) 5 (onR (T_setsd tK_55 (ltS (T_sd tK_55))) j))) rfl rfl rfl rfl rfl rfl rfl rfl) m_54 (by omega)) rfl (in_c rfl) (g_79 bX6_years rfl) (fun H locs => ?_)
                        clear hP hD hS
                        intro hP hD hS
                        have hPD := st8PD (ws' := [zzI cy qmk 8 fMk, zzI cy qma 8 fMa, zzI cy qmh 8 fMh, zzI cy qmr 8 fX_18, zzO qm 5 (.ref qmh :: .ref qmo :: .ref qmz :: .ref qmR :: .ref qmv :: .ref qmk :: .ref qma :: .ref qmt :: .int (nI kZ) :: .ref qmr :: .int (nI (T_nb (T_setgn (T_setsd tK_55 (ltS (T_sd tK_55))) (updB (T_gn (T_setsd tK_55 (ltS (T_sd tK_55)))) m_54 true)))) :: .ref qmB :: .int (nI (T_np (T_setgn (T_setsd tK_55 (ltS (T_sd tK_55))) (updB (T_gn (T_setsd tK_55 (ltS (T_sd tK_55)))) m_54 true)))) :: .ref qmO :: .ref qmK :: .int xE_30 :: .int iTk :: .int (T_sd (T_setgn (T_setsd tK_55 (ltS (T_sd tK_55))) (updB (T_gn (T_setsd tK_55 (ltS (T_sd tK_55)))) m_54 true))) :: ov uP :: ov uU :: .int (nI kAt) :: .int iTo :: .int iFr :: .long JFi :: .int iFa :: .ref qm3 :: .int iSt :: .int iLv :: .int iWs :: vLa :: .ref qmu :: .ref qmy :: .ref qmb :: .ref qms :: .int iOm :: []), zzG cy 3 qmB rB, zzI cy (rB 0) 4 (bkR (T_setgn (T_setsd tK_55 (ltS (T_sd tK_55))) (updB (T_gn (T_setsd tK_55 (ltS (T_sd tK_55)))) m_54 true)) 0), zzI cy (rB 1) 4 (bkR (T_setgn (T_setsd tK_55 (ltS (T_sd tK_55))) (updB (T_gn (T_setsd tK_55 (ltS (T_sd tK_55)))) m_54 true)) 1), zzI cy (rB 2) 4 (bkR (T_setgn (T_setsd tK_55 (ltS (T_sd tK_55))) (updB (T_gn (T_setsd tK_55 (ltS (T_sd tK_55)))) m_54 true)) 2), zzI cy (rB 3) 4 (bkR (T_setgn (T_setsd tK_55 (ltS (T_sd tK_55))) (updB (T_gn (T_setsd tK_55 (ltS (T_sd tK_55)))) m_54 true)) 3), zzI cy (rB 4) 4 (bkR (T_setgn (T_setsd tK_55 (ltS (T_sd tK_55))) (updB (T_gn (T_setsd tK_55 (ltS (T_sd tK_55)))) m_54 true)) 4), zzI cy (rB 5) 4 (bkR (T_setgn (T_setsd tK_55 (ltS (T_sd tK_55))) (updB (T_gn (T_setsd tK_55 (ltS (T_sd tK_55)))) m_54 true)) 5), zzI cy (rB 6) 4 (bkR (T_setgn (T_setsd tK_55 (ltS (T_sd tK_55))) (updB (T_gn (T_setsd tK_55 (ltS (T_sd tK_55)))) m_54 true)) 6), zzI cy (rB 7) 4 (bkR (T_setgn (T_setsd tK_55 (ltS (T_sd tK_55))) (updB (T_gn (T_setsd tK_55 (ltS (T_sd tK_55)))) m_54 true)) 7), zzG cy 3 qmO rO, zzI cy (rO 0) 5 (onR (T_setgn (T_setsd tK_55 (ltS (T_sd tK_55))) (updB (T_gn (T_setsd tK_55 (ltS (T_sd tK_55)))) m_54 true)) 0), zzI cy (rO 1) 5 (onR (T_setgn (T_setsd tK_55 (ltS (T_sd tK_55))) (updB (T_gn (T_setsd tK_55 (ltS (T_sd tK_55)))) m_54 true)) 1), zzI cy (rO 2) 5 (onR (T_setgn (T_setsd tK_55 (ltS (T_sd tK_55))) (updB (T_gn (T_setsd tK_55 (ltS (T_sd tK_55)))) m_54 true)) 2), zzI cy (rO 3) 5 (onR (T_setgn (T_setsd tK_55 (ltS (T_sd tK_55))) (updB (T_gn (T_setsd tK_55 (ltS (T_sd tK_55)))) m_54 true)) 3), zzI cy (rO 4) 5 (onR (T_setgn (T_setsd tK_55 (ltS (T_sd tK_55))) (updB (T_gn (T_setsd tK_55 (ltS (T_sd tK_55)))) m_54 true)) 4), zzI cy (rO 5) 5 (onR (T_setgn (T_setsd tK_55 (ltS (T_sd tK_55))) (updB (T_gn (T_setsd tK_55 (ltS (T_sd tK_55)))) m_54 true)) 5), zzI cy (rO 6) 5 (onR (T_setgn (T_setsd tK_55 (ltS (T_sd tK_55))) (updB (T_gn (T_setsd tK_55 (ltS (T_sd tK_55)))) m_54 true)) 6), zzI cy (rO 7) 5 (onR (T_setgn (T_setsd tK_55 (ltS (T_sd tK_55))) (updB (T_gn (T_setsd tK_55 (ltS (T_sd tK_55)))) m_54 true)) 7), zzG cy 3 qmK rK, zzI cy (rK 0) 8 (T_kn (T_setgn (T_setsd tK_55 (ltS (T_sd tK_55))) (updB (T_gn (T_setsd tK_55 (ltS (T_sd tK_55)))) m_54 true)) 0), zzI cy (rK 1) 8 (T_kn (T_setgn (T_setsd tK_55 (ltS (T_sd tK_55))) (updB (T_gn (T_setsd tK_55 (ltS (T_sd tK_55)))) m_54 true)) 1), zzI cy (rK 2) 8 (T_kn (T_setgn (T_setsd tK_55 (ltS (T_sd tK_55))) (updB (T_gn (T_setsd tK_55 (ltS (T_sd tK_55)))) m_54 true)) 2), zzI cy (rK 3) 8 (T_kn (T_setgn (T_setsd tK_55 (ltS (T_sd tK_55))) (updB (T_gn (T_setsd tK_55 (ltS (T_sd tK_55)))) m_54 true)) 3), zzI cy (rK 4) 8 (T_kn (T_setgn (T_setsd tK_55 (ltS (T_sd tK_55))) (updB (T_gn (T_setsd tK_55 (ltS (T_sd tK_55)))) m_54 true)) 4), zzI cy (rK 5) 8 (T_kn (T_setgn (T_setsd tK_55 (ltS (T_sd tK_55))) (updB (T_gn (T_setsd tK_55 (ltS (T_sd tK_55)))) m_54 true)) 5), zzI cy (rK 6) 8 (T_kn (T_setgn (T_setsd tK_55 (ltS (T_sd tK_55))) (updB (T_gn (T_setsd tK_55 (ltS (T_sd tK_55)))) m_54 true)) 6), zzI cy (rK 7) 8 (T_kn (T_setgn (T_setsd tK_55 (ltS (T_sd tK_55))) (updB (T_gn (T_setsd tK_55 (ltS (T_sd tK_55)))) m_54 true)) 7)]) (k := m_54) (g1 := onR (T_setgn (T_setsd tK_55 (ltS (T_sd tK_55))) (updB (T_gn (T_setsd tK_55 (ltS (T_sd tK_55)))) m_54 true)) m_54) hP hD (sg8 (n0 := 15) (f := (fun j => zzI cy (rO j) 5 (onR (T_setsd tK_55 (ltS (T_sd tK_55))) j))) rfl rfl rfl rfl rfl rfl rfl rfl) (sg8 (n0 := 15) (f := (fun j => zzI cy (rO j) 5 (onR (T_setgn (T_setsd tK_55 (ltS (T_sd tK_55))) (updB (T_gn (T_setsd tK_55 (ltS (T_sd tK_55)))) m_54 true)) j))) rfl rfl rfl rfl rfl rfl rfl rfl) rfl rfl (by omega) rfl (on_w4 (T_setsd tK_55 (ltS (T_sd tK_55))) m_54 true) (fun j hj => congrArg (zzI cy (rO j) 5) (on_n4 (T_setsd tK_55 (ltS (T_sd tK_55))) m_54 true hj))
                        clear hP hD
                        obtain ⟨hP, hD⟩ := hPD
                        refine lv_iinc (v := nI (m_54 + 1)) (lv' := [(6, .int (nI (m_54 + 1))), (4, .int (xS_29 + (mvo tX_46 ((1 <<< (nI (T_np tX_46) &&& 31)) - 1)))), (5, .int (nI j_27)), (3, .int 0), (0, .ref qm), (1, .int (nI k_4)), (2, .int (nI k_11))]) hx hb dX6_years_130 hl (k := 0) rfl (nI_1 _) (by decide +kernel) rfl (fun ls => ?_)
                        clear hl
                        intro hl
                        refine lv_goto (tgt := 84) hx hb dX6_years_133 (by decide +kernel) ?_
                        exact ih_53 (m_54 + 1) (T_setgn (T_setsd tK_55 (ltS (T_sd tK_55))) (updB (T_gn (T_setsd tK_55 (ltS (T_sd tK_55)))) m_54 true)) (by omega) (by omega) (⟨hTK_57.1, hTK_57.2⟩) (by rw [dd_die (by rw [← hD_58]; exact h_73) (by rw [← hD_58]; exact Int32.not_le.mp c_78), ← hD_58]) _ _ _ hP hD hS (lv_sub hl [0, 1, 2, 3, 4, 5, 6] rfl)
                    · refine lv_if_eq (tgt := 130) hx hb dX6_years_99 (by decide +kernel) (fun _ => ?_) (fun h9 => absurd (by decide +kernel) h9)
                      refine lv_iinc (v := nI (m_54 + 1)) (lv' := [(6, .int (nI (m_54 + 1))), (4, .int (xS_29 + (mvo tX_46 ((1 <<< (nI (T_np tX_46) &&& 31)) - 1)))), (5, .int (nI j_27)), (3, .int 0), (0, .ref qm), (1, .int (nI k_4)), (2, .int (nI k_11))]) hx hb dX6_years_130 hl (k := 0) rfl (nI_1 _) (by decide +kernel) rfl (fun ls => ?_)
                      clear hl
                      intro hl
                      refine lv_goto (tgt := 84) hx hb dX6_years_133 (by decide +kernel) ?_
                      exact ih_53 (m_54 + 1) tK_55 (by omega) (by omega) (⟨hTK_57.1, hTK_57.2⟩) (by rw [dd_g (by rw [← hD_58]; exact h_73)]; exact hD_58) _ _ _ hP hD hS (lv_sub hl [0, 1, 2, 3, 4, 5, 6] rfl)
              exact lp_51 ((8 - 0) + 1) 0 tX_46 (Nat.lt_succ_self _) (Nat.zero_le _) (⟨h_47.1, h_47.2.1.trans hT_32.2.1, h_47.2.2.trans hT_32.2.2⟩) rfl _ _ ls hP hD hS (lv_sub hl [0, 1, 2, 3, 4, 5, 6] rfl)
        exact lp_24 ((20 - 0) + 1) 0 tA 0 iEn (Nat.lt_succ_self _) (Nat.zero_le _) (⟨hWI.1, rfl, rfl⟩) hWI rfl _ _ ls hP hD hS (lv_sub hl [0, 1, 2, 3, 4, 5] rfl)
    · refine lv_if_ne (tgt := 31) hx hb dX6_years_21 (by decide +kernel) (fun h9 => absurd (by decide +kernel) h9) (fun _ => ?_)
      refine lv_aload_n hx hb (g_42 bX6_years rfl) rfl (lv_at hl 0 rfl) ?_
      refine lv_bipush (v := (-2)) hx hb dX6_years_25 (by decide +kernel) ?_
      refine cVi (As := [.int (-2)]) (rest := []) (b := qm) (q := (RX6, TX6, 35)) ⟨hx, hb, hml, hown, hts⟩ (c_X6_refuse2 l G cy (s.heap).size qm (.ref qmh) (.ref qmo) (.ref qmz) (.ref qmR) (.ref qmv) (.ref qmk) (.ref qma) (.ref qmt) (.int (nI kZ)) qmr tA qmB qmO qmK iEn iTk (ov uP) (ov uU) (.int (nI kAt)) (.int iTo) (.int iFr) (.long JFi) (.int iFa) (.ref qm3) (.int iSt) iLv iWs vLa (.ref qmu) (.ref qmy) (.ref qmb) (.ref qms) (.int iOm) fMr) L_X6_91 hN hP hD hS hA [0, 4] [false, true, true, true, false, true, true, true, true, true, true, true, true, true, true, true, true, true, true, true, true, true, true, true, true, true, true, true, true, true, true, true] rfl (by decide +kernel) rfl 0 5 rfl rfl rfl ⟨Nat.le_of_ble_eq_true rfl, Nat.le_of_ble_eq_true rfl⟩ hl.1 (Nat.le_of_ble_eq_true rfl) (g_182 (v := 91) bX6_years rfl) ⟨Nat.le_of_ble_eq_true rfl, Nat.le_of_ble_eq_true rfl⟩ (fun r_81 u_83 H locs h_82 => ?_)
      clear hP hD hS
      intro hP hD hS
      obtain ⟨fX_84, hu9, h_82⟩ := h_82
      have hPD := pd_eq [_, _, _, _, _, _, _, _, _, _, _, _, _, _, _, _, _, _, _, _, _, _, _, _, _, _, _, _, _, _, _, zzI cy qmr 8 fX_84] hP hD hu9 rfl
      clear hP hD hu9
      obtain ⟨hP, hD⟩ := hPD
      subst h_82
      exact endWs [[false, false, false, false, false, false, false, false, false, false, false, false, false, false, false, false, false, false, false, false, false, false, false, false, false, false, false, false, false, false, true], [true, true, true, false, false, false, false, false, false, false, false, false, false, false, false, false, false, false, false, false, false, false, false, false, false, false, false, false, false, false, false, true], [false, false, false, true, true, true, true, true, true, true, true, true, true, true, true, true, true, true, true, true, true, true, true, true, true, true, true, true, true, true]] hx hb hr hlocks rfl hP hD rfl (by decide +kernel) hS ⟨iEn, iTk, fX_84, tA, rfl, ⟨hWI, Or.inl ⟨rfl, Or.inr h_10, rfl⟩⟩, trivial⟩ (g_172 bX6_years rfl)
  · refine lv_if_eq (tgt := 24) hx hb dX6_years_9 (by decide +kernel) (fun _ => ?_) (fun h9 => absurd (by decide +kernel) h9)
    refine lv_aload_n hx hb (g_42 bX6_years rfl) rfl (lv_at hl 0 rfl) ?_
    refine lv_bipush (v := (-2)) hx hb dX6_years_25 (by decide +kernel) ?_
    refine cVi (As := [.int (-2)]) (rest := []) (b := qm) (q := (RX6, TX6, 35)) ⟨hx, hb, hml, hown, hts⟩ (c_X6_refuse2 l G cy (s.heap).size qm (.ref qmh) (.ref qmo) (.ref qmz) (.ref qmR) (.ref qmv) (.ref qmk) (.ref qma) (.ref qmt) (.int (nI kZ)) qmr tA qmB qmO qmK iEn iTk (ov uP) (ov uU) (.int (nI kAt)) (.int iTo) (.int iFr) (.long JFi) (.int iFa) (.ref qm3) (.int iSt) iLv iWs vLa (.ref qmu) (.ref qmy) (.ref qmb) (.ref qms) (.int iOm) fMr) L_X6_91 hN hP hD hS hA [0, 4] [false, true, true, true, false, true, true, true, true, true, true, true, true, true, true, true, true, true, true, true, true, true, true, true, true, true, true, true, true, true, true, true] rfl (by decide +kernel) rfl 0 5 rfl rfl rfl ⟨Nat.le_of_ble_eq_true rfl, Nat.le_of_ble_eq_true rfl⟩ hl.1 (Nat.le_of_ble_eq_true rfl) (g_182 (v := 91) bX6_years rfl) ⟨Nat.le_of_ble_eq_true rfl, Nat.le_of_ble_eq_true rfl⟩ (fun r_86 u_88 H locs h_87 => ?_)
    clear hP hD hS
    intro hP hD hS
    obtain ⟨fX_89, hu9, h_87⟩ := h_87
    have hPD := pd_eq [_, _, _, _, _, _, _, _, _, _, _, _, _, _, _, _, _, _, _, _, _, _, _, _, _, _, _, _, _, _, _, zzI cy qmr 8 fX_89] hP hD hu9 rfl
    clear hP hD hu9
    obtain ⟨hP, hD⟩ := hPD
    subst h_87
    exact endWs [[false, false, false, false, false, false, false, false, false, false, false, false, false, false, false, false, false, false, false, false, false, false, false, false, false, false, false, false, false, false, true], [true, true, true, false, false, false, false, false, false, false, false, false, false, false, false, false, false, false, false, false, false, false, false, false, false, false, false, false, false, false, false, true], [false, false, false, true, true, true, true, true, true, true, true, true, true, true, true, true, true, true, true, true, true, true, true, true, true, true, true, true, true, true]] hx hb hr hlocks rfl hP hD rfl (by decide +kernel) hS ⟨iEn, iTk, fX_89, tA, rfl, ⟨hWI, Or.inl ⟨rfl, Or.inl (no_of7 h_3), rfl⟩⟩, trivial⟩ (g_172 bX6_years rfl)
end
section
/-! feed: the bytes as both see them -/
noncomputable def byv (v : Int32) (s : Nat) : Int32 := (v >>> (nI s &&& 31)) &&& 255
theorem by_tab : ∀ j, j < 256 → nrm (nI j).toInt8.toInt32 = nrm (nI j) := by decide +kernel
theorem nrm_byte (x : Int32) : nrm (vp_nar .byte (x.toInt8.toInt32)) = nrm (x &&& 255) := by
  have e1 : vp_nar .byte (x.toInt8.toInt32) = (x.toInt8.toInt32).toInt8.toInt32 := rfl
  have e2 : (x.toInt8.toInt32).toInt8 = x.toInt8 := by simp
  obtain ⟨j, hj, ej⟩ := pk_andE x (m := 255) 8 (by decide +kernel)
  have e3 : x.toInt8 = (x &&& 255).toInt8 := by
    rw [Int32.toInt8_and, show (255 : Int32).toInt8 = -1 by decide +kernel]
    simp
  rw [e1, e2, e3, ej]
  exact by_tab j hj
theorem upd_n {f : Nat → Int32} {k i : Nat} {v : Int32} (h : i ≠ k) : upd f k v i = f i := if_neg h
noncomputable def FDs (f : Nat → Int32) (z : Nat) (v : Int32) (k : Nat) (f' : Nat → Int32) : Prop := ∀ i, i < z + k → nrm (f' i) = if i < z then nrm (f i) else nrm (byv v (8 * (k - 1 - (i - z))))
noncomputable def FD (f : Nat → Int32) (z : Nat) (v n : Int32) (z' : Nat) (f' : Nat → Int32) : Prop := (z' = z ∧ f' = f) ∨ ∃ k, 1 ≤ k ∧ k ≤ 4 ∧ n = nI k ∧ z' = z + k ∧ FDs f z v k f'
theorem fd_s1 {f : Nat → Int32} {z : Nat} {v a : Int32} (ha : nrm a = nrm (byv v 0)) : FDs f z v 1 (upd f z a) := by
  intro i hi
  by_cases c : i < z
  · rw [if_pos c, upd_n (by omega)]
  · have e : i = z := by omega
    subst e
    rw [if_neg c, upd_sJ, ha, show 8 * (1 - 1 - (i - i)) = 0 by omega]
theorem fd_s2 {f : Nat → Int32} {z : Nat} {v a b : Int32} (ha : nrm a = nrm (byv v 8)) (hb : nrm b = nrm (byv v 0)) : FDs f z v 2 (upd (upd f z a) (z + 1) b) := by
  intro i hi
  by_cases c : i < z
  · rw [if_pos c, upd_n (by omega), upd_n (by omega)]
  · rw [if_neg c]
    by_cases e : i = z
    · rw [upd_n (by omega), e, upd_sJ, ha, show 8 * (2 - 1 - (z - z)) = 8 by omega]
    · have e : i = z + 1 := by omega
      rw [e, upd_sJ, hb, show 8 * (2 - 1 - (z + 1 - z)) = 0 by omega]
theorem fd_s3 {f : Nat → Int32} {z : Nat} {v a b d : Int32} (ha : nrm a = nrm (byv v 16)) (hb : nrm b = nrm (byv v 8)) (hd : nrm d = nrm (byv v 0)) : FDs f z v 3 (upd (upd (upd f z a) (z + 1) b) (z + 1 + 1) d) := by
  intro i hi
  by_cases c : i < z
  · rw [if_pos c, upd_n (by omega), upd_n (by omega), upd_n (by omega)]
  · rw [if_neg c]
    by_cases e : i = z
    · rw [upd_n (by omega), upd_n (by omega), e, upd_sJ, ha, show 8 * (3 - 1 - (z - z)) = 16 by omega]
    · by_cases e2 : i = z + 1
      · rw [upd_n (by omega), e2, upd_sJ, hb, show 8 * (3 - 1 - (z + 1 - z)) = 8 by omega]
      · have e3 : i = z + 1 + 1 := by omega
        rw [e3, upd_sJ, hd, show 8 * (3 - 1 - (z + 1 + 1 - z)) = 0 by omega]
theorem fd_s4 {f : Nat → Int32} {z : Nat} {v a b d g : Int32} (ha : nrm a = nrm (byv v 24)) (hb : nrm b = nrm (byv v 16)) (hd : nrm d = nrm (byv v 8)) (hg : nrm g = nrm (byv v 0)) : FDs f z v 4 (upd (upd (upd (upd f z a) (z + 1) b) (z + 1 + 1) d) (z + 1 + 1 + 1) g) := by
  intro i hi
  by_cases c : i < z
  · rw [if_pos c, upd_n (by omega), upd_n (by omega), upd_n (by omega), upd_n (by omega)]
  · rw [if_neg c]
    by_cases e : i = z
    · rw [upd_n (by omega), upd_n (by omega), upd_n (by omega), e, upd_sJ, ha, show 8 * (4 - 1 - (z - z)) = 24 by omega]
    · by_cases e2 : i = z + 1
      · rw [upd_n (by omega), upd_n (by omega), e2, upd_sJ, hb, show 8 * (4 - 1 - (z + 1 - z)) = 16 by omega]
      · by_cases e3 : i = z + 1 + 1
        · rw [upd_n (by omega), e3, upd_sJ, hd, show 8 * (4 - 1 - (z + 1 + 1 - z)) = 8 by omega]
        · have e4 : i = z + 1 + 1 + 1 := by omega
          rw [e4, upd_sJ, hg, show 8 * (4 - 1 - (z + 1 + 1 + 1 - z)) = 0 by omega]
theorem fd_rel {fB fM fB' fM' : Nat → Int32} {z z1 : Nat} {v n : Int32} (h1 : FD fB z v n z1 fB') (h2 : FD fM z v n z1 fM') (h : nbf fB z = nbf fM z) : nbf fB' z1 = nbf fM' z1 := by
  rcases h1 with ⟨e1, rfl⟩ | ⟨k, k1, k2, ek, ez, hs⟩
  · rcases h2 with ⟨_, rfl⟩ | ⟨k, k1, _, _, ez, _⟩
    · rw [e1]; exact h
    · omega
  · rcases h2 with ⟨e2, _⟩ | ⟨m, m1, m2, em, ez2, hs2⟩
    · omega
    · have e : k = m := by omega
      subst e
      rw [ez]
      funext i
      by_cases c : i < z + k
      · rw [nbf_in c, nbf_in c, hs i c, hs2 i c]
        by_cases c2 : i < z
        · have q := congrFun h i
          rw [nbf_in c2, nbf_in c2] at q
          rw [if_pos c2, if_pos c2, q]
        · rw [if_neg c2, if_neg c2]
      · show (if i < z + k then nrm (fB' i) else 128) = if i < z + k then nrm (fM' i) else 128
        rw [if_neg c, if_neg c]
set_option maxHeartbeats 4000000 in
set_option maxRecDepth 100000 in
theorem x_X5_feed (l : Launch) (G : va_G) (cy : Nat → ClassId) (sz : Nat) (qx : Nat) (qt : Nat) (qk : Nat) (qp : Nat) (qs : Nat) (qa : Nat) (qr : Nat) (iKp : Int32) (iYe : Int32) (iTv : Int32) (fR : Nat → Int32) (qab : Nat) (kZ : Nat) (iT1 : Int32) (iT2 : Int32) (iT3 : Int32) (iT4 : Int32) (qd : Nat) (fB : Nat → Int32) (iA : Int32) (iB : Int32)  (hZ : kZ ≤ 250) : MW l yX5_feed cX5_feed 4 (some .int) 12 0 0 G cy [zzO qx 4 [.ref qt, .ref qk, .ref qp, .ref qs, .ref qa, .ref qr, .int iKp, .int iYe, .int iTv], zzI cy qr 5 fR, zzO qa 2 [.ref qab, .int (nI kZ), .int iT1, .int iT2, .int iT3, .int iT4, .ref qd], zzB cy qab 250 fB] sz [.ref qx, .int iA, .int iB] (Wi G (fun r u => ∃ (fX : Nat → Int32) (kY : Nat) (iX4 : Int32) (iX5 : Int32) (iX6 : Int32) (iX7 : Int32) (fV : Nat → Int32), u = [zzO qx 4 [.ref qt, .ref qk, .ref qp, .ref qs, .ref qa, .ref qr, .int iKp, .int iYe, .int iTv], zzI cy qr 5 fX, zzO qa 2 [.ref qab, .int (nI kY), .int iX4, .int iX5, .int iX6, .int iX7, .ref qd], zzB cy qab 250 fV] ∧ (PXfeed kZ iB r kY ∧ FD fB kZ iA iB kY fV) ∧ (True))) := by
  refine enW RX5 (by decide +kernel) rfl (Nat.le_of_ble_eq_true rfl) (fun p e s m below meth c ls A hx hb hml hown hts hr hlocks hP hN hl hin hD hA hS => ?_)
  have hin : meth.name = _ := hin
  have hK := hN.1
  replace hl : lv_has ls 4 [(0, .ref qx), (1, .int iA), (2, .int iB)] := hl
  refine lv_iload_n hx hb (g_28 bX5_feed rfl) rfl (lv_at hl 2 rfl) ?_
  refine lv_i2l (v := iB.toInt64) hx hb (g_133 bX5_feed rfl) rfl ?_
  refine lv_lconst (v := 1) hx hb (g_10 bX5_feed rfl) (by decide +kernel) ?_
  refine lv_ldc2 hx hb hown (hts _ m_t213) (g_20 (v := 48) bX5_feed rfl) ?_
  refine kRi (rS (As := [.long iB.toInt64, .long 1, .long 4]) (rest := []) ⟨hx, hb, hml, hown, hts⟩ (c_X5_within l G cy iB.toInt64 1 4) L_X5_50 (preRS hN hP [] rfl) rfl ⟨Nat.le_of_ble_eq_true rfl, Nat.le_of_ble_eq_true rfl⟩ hl.1 (Nat.le_of_ble_eq_true rfl) (g_184 (v := 50) bX5_feed rfl) ⟨Nat.le_of_ble_eq_true rfl, Nat.le_of_ble_eq_true rfl⟩) (fun r_1 h_2 => ?_)
  rcases h_2 with ⟨rfl, h_3⟩ | ⟨rfl, h_3⟩
  · refine lv_if_ne (tgt := 19) hx hb dX5_feed_9 (by decide +kernel) (fun _ => ?_) (fun h9 => absurd h9 (by decide +kernel))
    rcases in14 h_3 with rfl | rfl | rfl | rfl
    · refine lv_aload_n hx hb (g_42 bX5_feed rfl) rfl (lv_at hl 0 rfl) ?_
      refine va_get (D := G) (ci := 4) (v := .ref qa) (C := RX5) (T := TX5) (N := 9) hx hb hts iX_X5 hown hK hP 0 rfl rfl 4 (by decide +kernel) (hts _ m_t178) (fun _ h9 => h9) rfl (g_180 (v := 36) bX5_feed rfl) ?_
      refine va_getN (D := G) (ci := 2) (v := .int (nI kZ)) (C := RX3) (T := TX3) (N := 7) hx hb hts iX_X3 hown hK hP 2 rfl rfl 1 (by decide +kernel) (va_Nw.use rfl (hN.2.1 (RX5, 148, "EachBookOnce$Tape", "size", "I") (List.mem_of_getElem? (i := 29) rfl))) (fun _ h9 => h9) rfl (g_180 (v := 148) bX5_feed rfl) ?_
      refine lv_sipush (v := 250) hx hb dX5_feed_26 (by decide +kernel) ?_
      refine lv_iload_n hx hb (g_28 bX5_feed rfl) rfl (lv_at hl 2 rfl) ?_
      refine lv_isub hx hb (g_100 bX5_feed rfl) ?_
      refine lv_seti (v := 249) (by decide +kernel) ?_
      refine lv_icmp_le (tgt := 41) hx hb dX5_feed_31 (by decide +kernel) (fun c_5 => ?_) (fun c_5 => ?_)
      · have hfd : kZ + 1 ≤ 250 := fd_yes (k := 1) (by omega) (by omega) c_5
        refine lv_bipush (v := 8) hx hb dX5_feed_41 (by decide +kernel) ?_
        refine lv_iload_n hx hb (g_28 bX5_feed rfl) rfl (lv_at hl 2 rfl) ?_
        refine lv_iconst (v := 1) hx hb (g_4 bX5_feed rfl) (by decide +kernel) ?_
        refine lv_isub hx hb (g_100 bX5_feed rfl) ?_
        refine lv_seti (v := 0) (by decide +kernel) ?_
        refine lv_imul hx hb (g_104 bX5_feed rfl) ?_
        refine lv_seti (v := 0) (by decide +kernel) ?_
        refine lv_istore_n (lv' := [(3, .int 0), (0, .ref qx), (1, .int iA), (2, .int 1)]) hx hb (g_62 bX5_feed rfl) rfl hl (by decide +kernel) rfl (fun ls => ?_)
        clear hl
        intro hl
        refine lv_iload_n hx hb (g_29 bX5_feed rfl) rfl (lv_at hl 0 rfl) ?_
        refine lv_if_lt (tgt := 69) hx hb dX5_feed_49 (by decide +kernel) (fun h9 => absurd h9 (by decide +kernel)) (fun _ => ?_)
        refine lv_aload_n hx hb (g_42 bX5_feed rfl) rfl (lv_at hl 1 rfl) ?_
        refine va_get (D := G) (ci := 4) (v := .ref qa) (C := RX5) (T := TX5) (N := 9) hx hb hts iX_X5 hown hK hP 0 rfl rfl 4 (by decide +kernel) (hts _ m_t178) (fun _ h9 => h9) rfl (g_180 (v := 36) bX5_feed rfl) ?_
        refine lv_iload_n hx hb (g_27 bX5_feed rfl) rfl (lv_at hl 2 rfl) ?_
        refine lv_iload_n hx hb (g_29 bX5_feed rfl) rfl (lv_at hl 0 rfl) ?_
        refine lv_ishr hx hb (g_122 bX5_feed rfl) ?_
        refine lv_i2b (v := (iA >>> (0 &&& 31)).toInt8.toInt32) hx hb (g_145 bX5_feed rfl) rfl ?_
        refine cVv (As := [.int ((iA >>> (0 &&& 31)).toInt8.toInt32)]) (rest := []) (b := qa) (q := (RX3, TX3, 7)) ⟨hx, hb, hml, hown, hts⟩ (c_X3_append l G cy (s.heap).size qa qab kZ (.int iT1) (.int iT2) (.int iT3) (.int iT4) (.ref qd) fB ((iA >>> (0 &&& 31)).toInt8.toInt32) (by omega)) L_X5_150 hN hP hD hS hA [2, 3] [true, true, false, false] rfl (by decide +kernel) rfl 2 2 rfl rfl rfl ⟨Nat.le_of_ble_eq_true rfl, Nat.le_of_ble_eq_true rfl⟩ hl.1 (Nat.le_of_ble_eq_true rfl) (g_182 (v := 150) bX5_feed rfl) ⟨Nat.le_of_ble_eq_true rfl, Nat.le_of_ble_eq_true rfl⟩ (fun u_9 H locs h_8 => ?_)
        clear hP hD hS
        intro hP hD hS
        have hPD := pd_eq [_, _, zzO qa 2 [.ref qab, .int (nI (kZ + 1)), .int iT1, .int iT2, .int iT3, .int iT4, .ref qd], zzB cy qab 250 (upd fB kZ (vp_nar .byte ((iA >>> (0 &&& 31)).toInt8.toInt32)))] hP hD h_8 rfl
        clear hP hD h_8
        obtain ⟨hP, hD⟩ := hPD
        refine lv_iinc (v := (-8)) (lv' := [(3, .int (-8)), (0, .ref qx), (1, .int iA), (2, .int 1)]) hx hb dX5_feed_63 hl (k := 0) rfl (by decide +kernel) (by decide +kernel) rfl (fun ls => ?_)
        clear hl
        intro hl
        refine lv_goto (tgt := 48) hx hb dX5_feed_66 (by decide +kernel) ?_
        refine lv_iload_n hx hb (g_29 bX5_feed rfl) rfl (lv_at hl 0 rfl) ?_
        refine lv_if_lt (tgt := 69) hx hb dX5_feed_49 (by decide +kernel) (fun _ => ?_) (fun h9 => absurd (by decide +kernel) h9)
        refine lv_aload_n hx hb (g_42 bX5_feed rfl) rfl (lv_at hl 1 rfl) ?_
        refine va_get (D := G) (ci := 4) (v := .ref qa) (C := RX5) (T := TX5) (N := 9) hx hb hts iX_X5 hown hK hP 0 rfl rfl 4 (by decide +kernel) (hts _ m_t178) (fun _ h9 => h9) rfl (g_180 (v := 36) bX5_feed rfl) ?_
        refine va_getN (D := G) (ci := 2) (v := .int (nI (kZ + 1))) (C := RX3) (T := TX3) (N := 7) hx hb hts iX_X3 hown hK hP 2 rfl rfl 1 (by decide +kernel) (va_Nw.use rfl (hN.2.1 (RX5, 148, "EachBookOnce$Tape", "size", "I") (List.mem_of_getElem? (i := 29) rfl))) (fun _ h9 => h9) rfl (g_180 (v := 148) bX5_feed rfl) ?_
        exact endWs [[true, true, true, true]] hx hb hr hlocks rfl hP hD rfl (by decide +kernel) hS ⟨fR, (kZ + 1), iT1, iT2, iT3, iT4, upd fB kZ (vp_nar .byte ((iA >>> (0 &&& 31)).toInt8.toInt32)), rfl, ⟨Or.inr ⟨1, by omega, by omega, rfl, Or.inr ⟨rfl, fd_yes (k := 1) (by omega) (by omega) c_5, rfl⟩⟩, Or.inr ⟨1, by omega, by omega, rfl, rfl, fd_s1 (nrm_byte _)⟩⟩, trivial⟩ (g_172 bX5_feed rfl)
      · refine lv_aload_n hx hb (g_42 bX5_feed rfl) rfl (lv_at hl 0 rfl) ?_
        refine lv_bipush (v := (-6)) hx hb dX5_feed_35 (by decide +kernel) ?_
        refine cVi (As := [.int (-6)]) (rest := []) (b := qx) (q := (RX5, TX5, 9)) ⟨hx, hb, hml, hown, hts⟩ (c_X5_refuse6 l G cy (s.heap).size qx qt qk qp qs qa qr iKp iYe iTv fR) L_X5_56 hN hP hD hS hA [0, 1] [false, false, true, true] rfl (by decide +kernel) rfl 0 4 rfl rfl rfl ⟨Nat.le_of_ble_eq_true rfl, Nat.le_of_ble_eq_true rfl⟩ hl.1 (Nat.le_of_ble_eq_true rfl) (g_182 (v := 56) bX5_feed rfl) ⟨Nat.le_of_ble_eq_true rfl, Nat.le_of_ble_eq_true rfl⟩ (fun r_11 u_13 H locs h_12 => ?_)
        clear hP hD hS
        intro hP hD hS
        obtain ⟨fX_14, hu9, h_12⟩ := h_12
        have hPD := pd_eq [_, _, _, zzI cy qr 5 fX_14] hP hD hu9 rfl
        clear hP hD hu9
        obtain ⟨hP, hD⟩ := hPD
        subst h_12
        exact endWs [[false, false, true, true], [true, true]] hx hb hr hlocks rfl hP hD rfl (by decide +kernel) hS ⟨fX_14, kZ, iT1, iT2, iT3, iT4, fB, rfl, ⟨Or.inr ⟨1, by omega, by omega, rfl, Or.inl ⟨rfl, fd_no (k := 1) (by omega) (by omega) c_5, rfl⟩⟩, Or.inl ⟨rfl, rfl⟩⟩, trivial⟩ (g_172 bX5_feed rfl)
    · refine lv_aload_n hx hb (g_42 bX5_feed rfl) rfl (lv_at hl 0 rfl) ?_
      refine va_get (D := G) (ci := 4) (v := .ref qa) (C := RX5) (T := TX5) (N := 9) hx hb hts iX_X5 hown hK hP 0 rfl rfl 4 (by decide +kernel) (hts _ m_t178) (fun _ h9 => h9) rfl (g_180 (v := 36) bX5_feed rfl) ?_
      refine va_getN (D := G) (ci := 2) (v := .int (nI kZ)) (C := RX3) (T := TX3) (N := 7) hx hb hts iX_X3 hown hK hP 2 rfl rfl 1 (by decide +kernel) (va_Nw.use rfl (hN.2.1 (RX5, 148, "EachBookOnce$Tape", "size", "I") (List.mem_of_getElem? (i := 29) rfl))) (fun _ h9 => h9) rfl (g_180 (v := 148) bX5_feed rfl) ?_
      refine lv_sipush (v := 250) hx hb dX5_feed_26 (by decide +kernel) ?_
      refine lv_iload_n hx hb (g_28 bX5_feed rfl) rfl (lv_at hl 2 rfl) ?_
      refine lv_isub hx hb (g_100 bX5_feed rfl) ?_
      refine lv_seti (v := 248) (by decide +kernel) ?_
      refine lv_icmp_le (tgt := 41) hx hb dX5_feed_31 (by decide +kernel) (fun c_15 => ?_) (fun c_15 => ?_)
      · have hfd : kZ + 2 ≤ 250 := fd_yes (k := 2) (by omega) (by omega) c_15
        refine lv_bipush (v := 8) hx hb dX5_feed_41 (by decide +kernel) ?_
        refine lv_iload_n hx hb (g_28 bX5_feed rfl) rfl (lv_at hl 2 rfl) ?_
        refine lv_iconst (v := 1) hx hb (g_4 bX5_feed rfl) (by decide +kernel) ?_
        refine lv_isub hx hb (g_100 bX5_feed rfl) ?_
        refine lv_seti (v := 1) (by decide +kernel) ?_
        refine lv_imul hx hb (g_104 bX5_feed rfl) ?_
        refine lv_seti (v := 8) (by decide +kernel) ?_
        refine lv_istore_n (lv' := [(3, .int 8), (0, .ref qx), (1, .int iA), (2, .int 2)]) hx hb (g_62 bX5_feed rfl) rfl hl (by decide +kernel) rfl (fun ls => ?_)
        clear hl
        intro hl
        refine lv_iload_n hx hb (g_29 bX5_feed rfl) rfl (lv_at hl 0 rfl) ?_
        refine lv_if_lt (tgt := 69) hx hb dX5_feed_49 (by decide +kernel) (fun h9 => absurd h9 (by decide +kernel)) (fun _ => ?_)
        refine lv_aload_n hx hb (g_42 bX5_feed rfl) rfl (lv_at hl 1 rfl) ?_
        refine va_get (D := G) (ci := 4) (v := .ref qa) (C := RX5) (T := TX5) (N := 9) hx hb hts iX_X5 hown hK hP 0 rfl rfl 4 (by decide +kernel) (hts _ m_t178) (fun _ h9 => h9) rfl (g_180 (v := 36) bX5_feed rfl) ?_
        refine lv_iload_n hx hb (g_27 bX5_feed rfl) rfl (lv_at hl 2 rfl) ?_
        refine lv_iload_n hx hb (g_29 bX5_feed rfl) rfl (lv_at hl 0 rfl) ?_
        refine lv_ishr hx hb (g_122 bX5_feed rfl) ?_
        refine lv_i2b (v := (iA >>> (8 &&& 31)).toInt8.toInt32) hx hb (g_145 bX5_feed rfl) rfl ?_
        refine cVv (As := [.int ((iA >>> (8 &&& 31)).toInt8.toInt32)]) (rest := []) (b := qa) (q := (RX3, TX3, 7)) ⟨hx, hb, hml, hown, hts⟩ (c_X3_append l G cy (s.heap).size qa qab kZ (.int iT1) (.int iT2) (.int iT3) (.int iT4) (.ref qd) fB ((iA >>> (8 &&& 31)).toInt8.toInt32) (by omega)) L_X5_150 hN hP hD hS hA [2, 3] [true, true, false, false] rfl (by decide +kernel) rfl 2 2 rfl rfl rfl ⟨Nat.le_of_ble_eq_true rfl, Nat.le_of_ble_eq_true rfl⟩ hl.1 (Nat.le_of_ble_eq_true rfl) (g_182 (v := 150) bX5_feed rfl) ⟨Nat.le_of_ble_eq_true rfl, Nat.le_of_ble_eq_true rfl⟩ (fun u_19 H locs h_18 => ?_)
        clear hP hD hS
        intro hP hD hS
        have hPD := pd_eq [_, _, _, zzB cy qab 250 (upd fB kZ (vp_nar .byte ((iA >>> (8 &&& 31)).toInt8.toInt32)))] hP hD h_18 rfl
        clear hP hD h_18
        obtain ⟨hP, hD⟩ := hPD
        refine lv_iinc (v := 0) (lv' := [(3, .int 0), (0, .ref qx), (1, .int iA), (2, .int 2)]) hx hb dX5_feed_63 hl (k := 0) rfl (by decide +kernel) (by decide +kernel) rfl (fun ls => ?_)
        clear hl
        intro hl
        refine lv_goto (tgt := 48) hx hb dX5_feed_66 (by decide +kernel) ?_
        refine lv_iload_n hx hb (g_29 bX5_feed rfl) rfl (lv_at hl 0 rfl) ?_
        refine lv_if_lt (tgt := 69) hx hb dX5_feed_49 (by decide +kernel) (fun h9 => absurd h9 (by decide +kernel)) (fun _ => ?_)
        refine lv_aload_n hx hb (g_42 bX5_feed rfl) rfl (lv_at hl 1 rfl) ?_
        refine va_get (D := G) (ci := 4) (v := .ref qa) (C := RX5) (T := TX5) (N := 9) hx hb hts iX_X5 hown hK hP 0 rfl rfl 4 (by decide +kernel) (hts _ m_t178) (fun _ h9 => h9) rfl (g_180 (v := 36) bX5_feed rfl) ?_
        refine lv_iload_n hx hb (g_27 bX5_feed rfl) rfl (lv_at hl 2 rfl) ?_
        refine lv_iload_n hx hb (g_29 bX5_feed rfl) rfl (lv_at hl 0 rfl) ?_
        refine lv_ishr hx hb (g_122 bX5_feed rfl) ?_
        refine lv_i2b (v := (iA >>> (0 &&& 31)).toInt8.toInt32) hx hb (g_145 bX5_feed rfl) rfl ?_
        refine cVv (As := [.int ((iA >>> (0 &&& 31)).toInt8.toInt32)]) (rest := []) (b := qa) (q := (RX3, TX3, 7)) ⟨hx, hb, hml, hown, hts⟩ (c_X3_append l G cy (H).size qa qab (kZ + 1) (.int iT1) (.int iT2) (.int iT3) (.int iT4) (.ref qd) (upd fB kZ (vp_nar .byte ((iA >>> (8 &&& 31)).toInt8.toInt32))) ((iA >>> (0 &&& 31)).toInt8.toInt32) (by omega)) L_X5_150 hN hP hD hS hA [2, 3] [true, true, false, false] rfl (by decide +kernel) rfl 2 2 rfl rfl rfl ⟨Nat.le_of_ble_eq_true rfl, Nat.le_of_ble_eq_true rfl⟩ hl.1 (Nat.le_of_ble_eq_true rfl) (g_182 (v := 150) bX5_feed rfl) ⟨Nat.le_of_ble_eq_true rfl, Nat.le_of_ble_eq_true rfl⟩ (fun u_23 H locs h_22 => ?_)
        clear hP hD hS
        intro hP hD hS
        have hPD := pd_eq [_, _, zzO qa 2 [.ref qab, .int (nI ((kZ + 1) + 1)), .int iT1, .int iT2, .int iT3, .int iT4, .ref qd], zzB cy qab 250 (upd (upd fB kZ (vp_nar .byte ((iA >>> (8 &&& 31)).toInt8.toInt32))) (kZ + 1) (vp_nar .byte ((iA >>> (0 &&& 31)).toInt8.toInt32)))] hP hD h_22 rfl
        clear hP hD h_22
        obtain ⟨hP, hD⟩ := hPD
        refine lv_iinc (v := (-8)) (lv' := [(3, .int (-8)), (0, .ref qx), (1, .int iA), (2, .int 2)]) hx hb dX5_feed_63 hl (k := 0) rfl (by decide +kernel) (by decide +kernel) rfl (fun ls => ?_)
        clear hl
        intro hl
        refine lv_goto (tgt := 48) hx hb dX5_feed_66 (by decide +kernel) ?_
        refine lv_iload_n hx hb (g_29 bX5_feed rfl) rfl (lv_at hl 0 rfl) ?_
        refine lv_if_lt (tgt := 69) hx hb dX5_feed_49 (by decide +kernel) (fun _ => ?_) (fun h9 => absurd (by decide +kernel) h9)
        refine lv_aload_n hx hb (g_42 bX5_feed rfl) rfl (lv_at hl 1 rfl) ?_
        refine va_get (D := G) (ci := 4) (v := .ref qa) (C := RX5) (T := TX5) (N := 9) hx hb hts iX_X5 hown hK hP 0 rfl rfl 4 (by decide +kernel) (hts _ m_t178) (fun _ h9 => h9) rfl (g_180 (v := 36) bX5_feed rfl) ?_
        refine va_getN (D := G) (ci := 2) (v := .int (nI ((kZ + 1) + 1))) (C := RX3) (T := TX3) (N := 7) hx hb hts iX_X3 hown hK hP 2 rfl rfl 1 (by decide +kernel) (va_Nw.use rfl (hN.2.1 (RX5, 148, "EachBookOnce$Tape", "size", "I") (List.mem_of_getElem? (i := 29) rfl))) (fun _ h9 => h9) rfl (g_180 (v := 148) bX5_feed rfl) ?_
        exact endWs [[true, true, true, true]] hx hb hr hlocks rfl hP hD rfl (by decide +kernel) hS ⟨fR, ((kZ + 1) + 1), iT1, iT2, iT3, iT4, upd (upd fB kZ (vp_nar .byte ((iA >>> (8 &&& 31)).toInt8.toInt32))) (kZ + 1) (vp_nar .byte ((iA >>> (0 &&& 31)).toInt8.toInt32)), rfl, ⟨Or.inr ⟨2, by omega, by omega, rfl, Or.inr ⟨rfl, fd_yes (k := 2) (by omega) (by omega) c_15, rfl⟩⟩, Or.inr ⟨2, by omega, by omega, rfl, rfl, fd_s2 (nrm_byte _) (nrm_byte _)⟩⟩, trivial⟩ (g_172 bX5_feed rfl)
      · refine lv_aload_n hx hb (g_42 bX5_feed rfl) rfl (lv_at hl 0 rfl) ?_
        refine lv_bipush (v := (-6)) hx hb dX5_feed_35 (by decide +kernel) ?_
        refine cVi (As := [.int (-6)]) (rest := []) (b := qx) (q := (RX5, TX5, 9)) ⟨hx, hb, hml, hown, hts⟩ (c_X5_refuse6 l G cy (s.heap).size qx qt qk qp qs qa qr iKp iYe iTv fR) L_X5_56 hN hP hD hS hA [0, 1] [false, false, true, true] rfl (by decide +kernel) rfl 0 4 rfl rfl rfl ⟨Nat.le_of_ble_eq_true rfl, Nat.le_of_ble_eq_true rfl⟩ hl.1 (Nat.le_of_ble_eq_true rfl) (g_182 (v := 56) bX5_feed rfl) ⟨Nat.le_of_ble_eq_true rfl, Nat.le_of_ble_eq_true rfl⟩ (fun r_25 u_27 H locs h_26 => ?_)
        clear hP hD hS
        intro hP hD hS
        obtain ⟨fX_28, hu9, h_26⟩ := h_26
        have hPD := pd_eq [_, _, _, zzI cy qr 5 fX_28] hP hD hu9 rfl
        clear hP hD hu9
        obtain ⟨hP, hD⟩ := hPD
        subst h_26
        exact endWs [[false, false, true, true], [true, true]] hx hb hr hlocks rfl hP hD rfl (by decide +kernel) hS ⟨fX_28, kZ, iT1, iT2, iT3, iT4, fB, rfl, ⟨Or.inr ⟨2, by omega, by omega, rfl, Or.inl ⟨rfl, fd_no (k := 2) (by omega) (by omega) c_15, rfl⟩⟩, Or.inl ⟨rfl, rfl⟩⟩, trivial⟩ (g_172 bX5_feed rfl)
    · refine lv_aload_n hx hb (g_42 bX5_feed rfl) rfl (lv_at hl 0 rfl) ?_
      refine va_get (D := G) (ci := 4) (v := .ref qa) (C := RX5) (T := TX5) (N := 9) hx hb hts iX_X5 hown hK hP 0 rfl rfl 4 (by decide +kernel) (hts _ m_t178) (fun _ h9 => h9) rfl (g_180 (v := 36) bX5_feed rfl) ?_
      refine va_getN (D := G) (ci := 2) (v := .int (nI kZ)) (C := RX3) (T := TX3) (N := 7) hx hb hts iX_X3 hown hK hP 2 rfl rfl 1 (by decide +kernel) (va_Nw.use rfl (hN.2.1 (RX5, 148, "EachBookOnce$Tape", "size", "I") (List.mem_of_getElem? (i := 29) rfl))) (fun _ h9 => h9) rfl (g_180 (v := 148) bX5_feed rfl) ?_
      refine lv_sipush (v := 250) hx hb dX5_feed_26 (by decide +kernel) ?_
      refine lv_iload_n hx hb (g_28 bX5_feed rfl) rfl (lv_at hl 2 rfl) ?_
      refine lv_isub hx hb (g_100 bX5_feed rfl) ?_
      refine lv_seti (v := 247) (by decide +kernel) ?_
      refine lv_icmp_le (tgt := 41) hx hb dX5_feed_31 (by decide +kernel) (fun c_29 => ?_) (fun c_29 => ?_)
      · have hfd : kZ + 3 ≤ 250 := fd_yes (k := 3) (by omega) (by omega) c_29
        refine lv_bipush (v := 8) hx hb dX5_feed_41 (by decide +kernel) ?_
        refine lv_iload_n hx hb (g_28 bX5_feed rfl) rfl (lv_at hl 2 rfl) ?_
        refine lv_iconst (v := 1) hx hb (g_4 bX5_feed rfl) (by decide +kernel) ?_
        refine lv_isub hx hb (g_100 bX5_feed rfl) ?_
        refine lv_seti (v := 2) (by decide +kernel) ?_
        refine lv_imul hx hb (g_104 bX5_feed rfl) ?_
        refine lv_seti (v := 16) (by decide +kernel) ?_
        refine lv_istore_n (lv' := [(3, .int 16), (0, .ref qx), (1, .int iA), (2, .int 3)]) hx hb (g_62 bX5_feed rfl) rfl hl (by decide +kernel) rfl (fun ls => ?_)
        clear hl
        intro hl
        refine lv_iload_n hx hb (g_29 bX5_feed rfl) rfl (lv_at hl 0 rfl) ?_
        refine lv_if_lt (tgt := 69) hx hb dX5_feed_49 (by decide +kernel) (fun h9 => absurd h9 (by decide +kernel)) (fun _ => ?_)
        refine lv_aload_n hx hb (g_42 bX5_feed rfl) rfl (lv_at hl 1 rfl) ?_
        refine va_get (D := G) (ci := 4) (v := .ref qa) (C := RX5) (T := TX5) (N := 9) hx hb hts iX_X5 hown hK hP 0 rfl rfl 4 (by decide +kernel) (hts _ m_t178) (fun _ h9 => h9) rfl (g_180 (v := 36) bX5_feed rfl) ?_
        refine lv_iload_n hx hb (g_27 bX5_feed rfl) rfl (lv_at hl 2 rfl) ?_
        refine lv_iload_n hx hb (g_29 bX5_feed rfl) rfl (lv_at hl 0 rfl) ?_
        refine lv_ishr hx hb (g_122 bX5_feed rfl) ?_
        refine lv_i2b (v := (iA >>> (16 &&& 31)).toInt8.toInt32) hx hb (g_145 bX5_feed rfl) rfl ?_
        refine cVv (As := [.int ((iA >>> (16 &&& 31)).toInt8.toInt32)]) (rest := []) (b := qa) (q := (RX3, TX3, 7)) ⟨hx, hb, hml, hown, hts⟩ (c_X3_append l G cy (s.heap).size qa qab kZ (.int iT1) (.int iT2) (.int iT3) (.int iT4) (.ref qd) fB ((iA >>> (16 &&& 31)).toInt8.toInt32) (by omega)) L_X5_150 hN hP hD hS hA [2, 3] [true, true, false, false] rfl (by decide +kernel) rfl 2 2 rfl rfl rfl ⟨Nat.le_of_ble_eq_true rfl, Nat.le_of_ble_eq_true rfl⟩ hl.1 (Nat.le_of_ble_eq_true rfl) (g_182 (v := 150) bX5_feed rfl) ⟨Nat.le_of_ble_eq_true rfl, Nat.le_of_ble_eq_true rfl⟩ (fun u_33 H locs h_32 => ?_)
        clear hP hD hS
        intro hP hD hS
        have hPD := pd_eq [_, _, _, zzB cy qab 250 (upd fB kZ (vp_nar .byte ((iA >>> (16 &&& 31)).toInt8.toInt32)))] hP hD h_32 rfl
        clear hP hD h_32
        obtain ⟨hP, hD⟩ := hPD
        refine lv_iinc (v := 8) (lv' := [(3, .int 8), (0, .ref qx), (1, .int iA), (2, .int 3)]) hx hb dX5_feed_63 hl (k := 0) rfl (by decide +kernel) (by decide +kernel) rfl (fun ls => ?_)
        clear hl
        intro hl
        refine lv_goto (tgt := 48) hx hb dX5_feed_66 (by decide +kernel) ?_
        refine lv_iload_n hx hb (g_29 bX5_feed rfl) rfl (lv_at hl 0 rfl) ?_
        refine lv_if_lt (tgt := 69) hx hb dX5_feed_49 (by decide +kernel) (fun h9 => absurd h9 (by decide +kernel)) (fun _ => ?_)
        refine lv_aload_n hx hb (g_42 bX5_feed rfl) rfl (lv_at hl 1 rfl) ?_
        refine va_get (D := G) (ci := 4) (v := .ref qa) (C := RX5) (T := TX5) (N := 9) hx hb hts iX_X5 hown hK hP 0 rfl rfl 4 (by decide +kernel) (hts _ m_t178) (fun _ h9 => h9) rfl (g_180 (v := 36) bX5_feed rfl) ?_
        refine lv_iload_n hx hb (g_27 bX5_feed rfl) rfl (lv_at hl 2 rfl) ?_
        refine lv_iload_n hx hb (g_29 bX5_feed rfl) rfl (lv_at hl 0 rfl) ?_
        refine lv_ishr hx hb (g_122 bX5_feed rfl) ?_
        refine lv_i2b (v := (iA >>> (8 &&& 31)).toInt8.toInt32) hx hb (g_145 bX5_feed rfl) rfl ?_
        refine cVv (As := [.int ((iA >>> (8 &&& 31)).toInt8.toInt32)]) (rest := []) (b := qa) (q := (RX3, TX3, 7)) ⟨hx, hb, hml, hown, hts⟩ (c_X3_append l G cy (H).size qa qab (kZ + 1) (.int iT1) (.int iT2) (.int iT3) (.int iT4) (.ref qd) (upd fB kZ (vp_nar .byte ((iA >>> (16 &&& 31)).toInt8.toInt32))) ((iA >>> (8 &&& 31)).toInt8.toInt32) (by omega)) L_X5_150 hN hP hD hS hA [2, 3] [true, true, false, false] rfl (by decide +kernel) rfl 2 2 rfl rfl rfl ⟨Nat.le_of_ble_eq_true rfl, Nat.le_of_ble_eq_true rfl⟩ hl.1 (Nat.le_of_ble_eq_true rfl) (g_182 (v := 150) bX5_feed rfl) ⟨Nat.le_of_ble_eq_true rfl, Nat.le_of_ble_eq_true rfl⟩ (fun u_37 H locs h_36 => ?_)
        clear hP hD hS
        intro hP hD hS
        have hPD := pd_eq [_, _, _, zzB cy qab 250 (upd (upd fB kZ (vp_nar .byte ((iA >>> (16 &&& 31)).toInt8.toInt32))) (kZ + 1) (vp_nar .byte ((iA >>> (8 &&& 31)).toInt8.toInt32)))] hP hD h_36 rfl
        clear hP hD h_36
        obtain ⟨hP, hD⟩ := hPD
        refine lv_iinc (v := 0) (lv' := [(3, .int 0), (0, .ref qx), (1, .int iA), (2, .int 3)]) hx hb dX5_feed_63 hl (k := 0) rfl (by decide +kernel) (by decide +kernel) rfl (fun ls => ?_)
        clear hl
        intro hl
        refine lv_goto (tgt := 48) hx hb dX5_feed_66 (by decide +kernel) ?_
        refine lv_iload_n hx hb (g_29 bX5_feed rfl) rfl (lv_at hl 0 rfl) ?_
        refine lv_if_lt (tgt := 69) hx hb dX5_feed_49 (by decide +kernel) (fun h9 => absurd h9 (by decide +kernel)) (fun _ => ?_)
        refine lv_aload_n hx hb (g_42 bX5_feed rfl) rfl (lv_at hl 1 rfl) ?_
        refine va_get (D := G) (ci := 4) (v := .ref qa) (C := RX5) (T := TX5) (N := 9) hx hb hts iX_X5 hown hK hP 0 rfl rfl 4 (by decide +kernel) (hts _ m_t178) (fun _ h9 => h9) rfl (g_180 (v := 36) bX5_feed rfl) ?_
        refine lv_iload_n hx hb (g_27 bX5_feed rfl) rfl (lv_at hl 2 rfl) ?_
        refine lv_iload_n hx hb (g_29 bX5_feed rfl) rfl (lv_at hl 0 rfl) ?_
        refine lv_ishr hx hb (g_122 bX5_feed rfl) ?_
        refine lv_i2b (v := (iA >>> (0 &&& 31)).toInt8.toInt32) hx hb (g_145 bX5_feed rfl) rfl ?_
        refine cVv (As := [.int ((iA >>> (0 &&& 31)).toInt8.toInt32)]) (rest := []) (b := qa) (q := (RX3, TX3, 7)) ⟨hx, hb, hml, hown, hts⟩ (c_X3_append l G cy (H).size qa qab ((kZ + 1) + 1) (.int iT1) (.int iT2) (.int iT3) (.int iT4) (.ref qd) (upd (upd fB kZ (vp_nar .byte ((iA >>> (16 &&& 31)).toInt8.toInt32))) (kZ + 1) (vp_nar .byte ((iA >>> (8 &&& 31)).toInt8.toInt32))) ((iA >>> (0 &&& 31)).toInt8.toInt32) (by omega)) L_X5_150 hN hP hD hS hA [2, 3] [true, true, false, false] rfl (by decide +kernel) rfl 2 2 rfl rfl rfl ⟨Nat.le_of_ble_eq_true rfl, Nat.le_of_ble_eq_true rfl⟩ hl.1 (Nat.le_of_ble_eq_true rfl) (g_182 (v := 150) bX5_feed rfl) ⟨Nat.le_of_ble_eq_true rfl, Nat.le_of_ble_eq_true rfl⟩ (fun u_41 H locs h_40 => ?_)
        clear hP hD hS
        intro hP hD hS
        have hPD := pd_eq [_, _, zzO qa 2 [.ref qab, .int (nI (((kZ + 1) + 1) + 1)), .int iT1, .int iT2, .int iT3, .int iT4, .ref qd], zzB cy qab 250 (upd (upd (upd fB kZ (vp_nar .byte ((iA >>> (16 &&& 31)).toInt8.toInt32))) (kZ + 1) (vp_nar .byte ((iA >>> (8 &&& 31)).toInt8.toInt32))) ((kZ + 1) + 1) (vp_nar .byte ((iA >>> (0 &&& 31)).toInt8.toInt32)))] hP hD h_40 rfl
        clear hP hD h_40
        obtain ⟨hP, hD⟩ := hPD
        refine lv_iinc (v := (-8)) (lv' := [(3, .int (-8)), (0, .ref qx), (1, .int iA), (2, .int 3)]) hx hb dX5_feed_63 hl (k := 0) rfl (by decide +kernel) (by decide +kernel) rfl (fun ls => ?_)
        clear hl
        intro hl
        refine lv_goto (tgt := 48) hx hb dX5_feed_66 (by decide +kernel) ?_
        refine lv_iload_n hx hb (g_29 bX5_feed rfl) rfl (lv_at hl 0 rfl) ?_
        refine lv_if_lt (tgt := 69) hx hb dX5_feed_49 (by decide +kernel) (fun _ => ?_) (fun h9 => absurd (by decide +kernel) h9)
        refine lv_aload_n hx hb (g_42 bX5_feed rfl) rfl (lv_at hl 1 rfl) ?_
        refine va_get (D := G) (ci := 4) (v := .ref qa) (C := RX5) (T := TX5) (N := 9) hx hb hts iX_X5 hown hK hP 0 rfl rfl 4 (by decide +kernel) (hts _ m_t178) (fun _ h9 => h9) rfl (g_180 (v := 36) bX5_feed rfl) ?_
        refine va_getN (D := G) (ci := 2) (v := .int (nI (((kZ + 1) + 1) + 1))) (C := RX3) (T := TX3) (N := 7) hx hb hts iX_X3 hown hK hP 2 rfl rfl 1 (by decide +kernel) (va_Nw.use rfl (hN.2.1 (RX5, 148, "EachBookOnce$Tape", "size", "I") (List.mem_of_getElem? (i := 29) rfl))) (fun _ h9 => h9) rfl (g_180 (v := 148) bX5_feed rfl) ?_
        exact endWs [[true, true, true, true]] hx hb hr hlocks rfl hP hD rfl (by decide +kernel) hS ⟨fR, (((kZ + 1) + 1) + 1), iT1, iT2, iT3, iT4, upd (upd (upd fB kZ (vp_nar .byte ((iA >>> (16 &&& 31)).toInt8.toInt32))) (kZ + 1) (vp_nar .byte ((iA >>> (8 &&& 31)).toInt8.toInt32))) ((kZ + 1) + 1) (vp_nar .byte ((iA >>> (0 &&& 31)).toInt8.toInt32)), rfl, ⟨Or.inr ⟨3, by omega, by omega, rfl, Or.inr ⟨rfl, fd_yes (k := 3) (by omega) (by omega) c_29, rfl⟩⟩, Or.inr ⟨3, by omega, by omega, rfl, rfl, fd_s3 (nrm_byte _) (nrm_byte _) (nrm_byte _)⟩⟩, trivial⟩ (g_172 bX5_feed rfl)
      · refine lv_aload_n hx hb (g_42 bX5_feed rfl) rfl (lv_at hl 0 rfl) ?_
        refine lv_bipush (v := (-6)) hx hb dX5_feed_35 (by decide +kernel) ?_
        refine cVi (As := [.int (-6)]) (rest := []) (b := qx) (q := (RX5, TX5, 9)) ⟨hx, hb, hml, hown, hts⟩ (c_X5_refuse6 l G cy (s.heap).size qx qt qk qp qs qa qr iKp iYe iTv fR) L_X5_56 hN hP hD hS hA [0, 1] [false, false, true, true] rfl (by decide +kernel) rfl 0 4 rfl rfl rfl ⟨Nat.le_of_ble_eq_true rfl, Nat.le_of_ble_eq_true rfl⟩ hl.1 (Nat.le_of_ble_eq_true rfl) (g_182 (v := 56) bX5_feed rfl) ⟨Nat.le_of_ble_eq_true rfl, Nat.le_of_ble_eq_true rfl⟩ (fun r_43 u_45 H locs h_44 => ?_)
        clear hP hD hS
        intro hP hD hS
        obtain ⟨fX_46, hu9, h_44⟩ := h_44
        have hPD := pd_eq [_, _, _, zzI cy qr 5 fX_46] hP hD hu9 rfl
        clear hP hD hu9
        obtain ⟨hP, hD⟩ := hPD
        subst h_44
        exact endWs [[false, false, true, true], [true, true]] hx hb hr hlocks rfl hP hD rfl (by decide +kernel) hS ⟨fX_46, kZ, iT1, iT2, iT3, iT4, fB, rfl, ⟨Or.inr ⟨3, by omega, by omega, rfl, Or.inl ⟨rfl, fd_no (k := 3) (by omega) (by omega) c_29, rfl⟩⟩, Or.inl ⟨rfl, rfl⟩⟩, trivial⟩ (g_172 bX5_feed rfl)
    · refine lv_aload_n hx hb (g_42 bX5_feed rfl) rfl (lv_at hl 0 rfl) ?_
      refine va_get (D := G) (ci := 4) (v := .ref qa) (C := RX5) (T := TX5) (N := 9) hx hb hts iX_X5 hown hK hP 0 rfl rfl 4 (by decide +kernel) (hts _ m_t178) (fun _ h9 => h9) rfl (g_180 (v := 36) bX5_feed rfl) ?_
      refine va_getN (D := G) (ci := 2) (v := .int (nI kZ)) (C := RX3) (T := TX3) (N := 7) hx hb hts iX_X3 hown hK hP 2 rfl rfl 1 (by decide +kernel) (va_Nw.use rfl (hN.2.1 (RX5, 148, "EachBookOnce$Tape", "size", "I") (List.mem_of_getElem? (i := 29) rfl))) (fun _ h9 => h9) rfl (g_180 (v := 148) bX5_feed rfl) ?_
      refine lv_sipush (v := 250) hx hb dX5_feed_26 (by decide +kernel) ?_
      refine lv_iload_n hx hb (g_28 bX5_feed rfl) rfl (lv_at hl 2 rfl) ?_
      refine lv_isub hx hb (g_100 bX5_feed rfl) ?_
      refine lv_seti (v := 246) (by decide +kernel) ?_
      refine lv_icmp_le (tgt := 41) hx hb dX5_feed_31 (by decide +kernel) (fun c_47 => ?_) (fun c_47 => ?_)
      · have hfd : kZ + 4 ≤ 250 := fd_yes (k := 4) (by omega) (by omega) c_47
        refine lv_bipush (v := 8) hx hb dX5_feed_41 (by decide +kernel) ?_
        refine lv_iload_n hx hb (g_28 bX5_feed rfl) rfl (lv_at hl 2 rfl) ?_
        refine lv_iconst (v := 1) hx hb (g_4 bX5_feed rfl) (by decide +kernel) ?_
        refine lv_isub hx hb (g_100 bX5_feed rfl) ?_
        refine lv_seti (v := 3) (by decide +kernel) ?_
        refine lv_imul hx hb (g_104 bX5_feed rfl) ?_
        refine lv_seti (v := 24) (by decide +kernel) ?_
        refine lv_istore_n (lv' := [(3, .int 24), (0, .ref qx), (1, .int iA), (2, .int 4)]) hx hb (g_62 bX5_feed rfl) rfl hl (by decide +kernel) rfl (fun ls => ?_)
        clear hl
        intro hl
        refine lv_iload_n hx hb (g_29 bX5_feed rfl) rfl (lv_at hl 0 rfl) ?_
        refine lv_if_lt (tgt := 69) hx hb dX5_feed_49 (by decide +kernel) (fun h9 => absurd h9 (by decide +kernel)) (fun _ => ?_)
        refine lv_aload_n hx hb (g_42 bX5_feed rfl) rfl (lv_at hl 1 rfl) ?_
        refine va_get (D := G) (ci := 4) (v := .ref qa) (C := RX5) (T := TX5) (N := 9) hx hb hts iX_X5 hown hK hP 0 rfl rfl 4 (by decide +kernel) (hts _ m_t178) (fun _ h9 => h9) rfl (g_180 (v := 36) bX5_feed rfl) ?_
        refine lv_iload_n hx hb (g_27 bX5_feed rfl) rfl (lv_at hl 2 rfl) ?_
        refine lv_iload_n hx hb (g_29 bX5_feed rfl) rfl (lv_at hl 0 rfl) ?_
        refine lv_ishr hx hb (g_122 bX5_feed rfl) ?_
        refine lv_i2b (v := (iA >>> (24 &&& 31)).toInt8.toInt32) hx hb (g_145 bX5_feed rfl) rfl ?_
        refine cVv (As := [.int ((iA >>> (24 &&& 31)).toInt8.toInt32)]) (rest := []) (b := qa) (q := (RX3, TX3, 7)) ⟨hx, hb, hml, hown, hts⟩ (c_X3_append l G cy (s.heap).size qa qab kZ (.int iT1) (.int iT2) (.int iT3) (.int iT4) (.ref qd) fB ((iA >>> (24 &&& 31)).toInt8.toInt32) (by omega)) L_X5_150 hN hP hD hS hA [2, 3] [true, true, false, false] rfl (by decide +kernel) rfl 2 2 rfl rfl rfl ⟨Nat.le_of_ble_eq_true rfl, Nat.le_of_ble_eq_true rfl⟩ hl.1 (Nat.le_of_ble_eq_true rfl) (g_182 (v := 150) bX5_feed rfl) ⟨Nat.le_of_ble_eq_true rfl, Nat.le_of_ble_eq_true rfl⟩ (fun u_51 H locs h_50 => ?_)
        clear hP hD hS
        intro hP hD hS
        have hPD := pd_eq [_, _, _, zzB cy qab 250 (upd fB kZ (vp_nar .byte ((iA >>> (24 &&& 31)).toInt8.toInt32)))] hP hD h_50 rfl
        clear hP hD h_50
        obtain ⟨hP, hD⟩ := hPD
        refine lv_iinc (v := 16) (lv' := [(3, .int 16), (0, .ref qx), (1, .int iA), (2, .int 4)]) hx hb dX5_feed_63 hl (k := 0) rfl (by decide +kernel) (by decide +kernel) rfl (fun ls => ?_)
        clear hl
        intro hl
        refine lv_goto (tgt := 48) hx hb dX5_feed_66 (by decide +kernel) ?_
        refine lv_iload_n hx hb (g_29 bX5_feed rfl) rfl (lv_at hl 0 rfl) ?_
        refine lv_if_lt (tgt := 69) hx hb dX5_feed_49 (by decide +kernel) (fun h9 => absurd h9 (by decide +kernel)) (fun _ => ?_)
        refine lv_aload_n hx hb (g_42 bX5_feed rfl) rfl (lv_at hl 1 rfl) ?_
        refine va_get (D := G) (ci := 4) (v := .ref qa) (C := RX5) (T := TX5) (N := 9) hx hb hts iX_X5 hown hK hP 0 rfl rfl 4 (by decide +kernel) (hts _ m_t178) (fun _ h9 => h9) rfl (g_180 (v := 36) bX5_feed rfl) ?_
        refine lv_iload_n hx hb (g_27 bX5_feed rfl) rfl (lv_at hl 2 rfl) ?_
        refine lv_iload_n hx hb (g_29 bX5_feed rfl) rfl (lv_at hl 0 rfl) ?_
        refine lv_ishr hx hb (g_122 bX5_feed rfl) ?_
        refine lv_i2b (v := (iA >>> (16 &&& 31)).toInt8.toInt32) hx hb (g_145 bX5_feed rfl) rfl ?_
        refine cVv (As := [.int ((iA >>> (16 &&& 31)).toInt8.toInt32)]) (rest := []) (b := qa) (q := (RX3, TX3, 7)) ⟨hx, hb, hml, hown, hts⟩ (c_X3_append l G cy (H).size qa qab (kZ + 1) (.int iT1) (.int iT2) (.int iT3) (.int iT4) (.ref qd) (upd fB kZ (vp_nar .byte ((iA >>> (24 &&& 31)).toInt8.toInt32))) ((iA >>> (16 &&& 31)).toInt8.toInt32) (by omega)) L_X5_150 hN hP hD hS hA [2, 3] [true, true, false, false] rfl (by decide +kernel) rfl 2 2 rfl rfl rfl ⟨Nat.le_of_ble_eq_true rfl, Nat.le_of_ble_eq_true rfl⟩ hl.1 (Nat.le_of_ble_eq_true rfl) (g_182 (v := 150) bX5_feed rfl) ⟨Nat.le_of_ble_eq_true rfl, Nat.le_of_ble_eq_true rfl⟩ (fun u_55 H locs h_54 => ?_)
        clear hP hD hS
        intro hP hD hS
        have hPD := pd_eq [_, _, _, zzB cy qab 250 (upd (upd fB kZ (vp_nar .byte ((iA >>> (24 &&& 31)).toInt8.toInt32))) (kZ + 1) (vp_nar .byte ((iA >>> (16 &&& 31)).toInt8.toInt32)))] hP hD h_54 rfl
        clear hP hD h_54
        obtain ⟨hP, hD⟩ := hPD
        refine lv_iinc (v := 8) (lv' := [(3, .int 8), (0, .ref qx), (1, .int iA), (2, .int 4)]) hx hb dX5_feed_63 hl (k := 0) rfl (by decide +kernel) (by decide +kernel) rfl (fun ls => ?_)
        clear hl
        intro hl
        refine lv_goto (tgt := 48) hx hb dX5_feed_66 (by decide +kernel) ?_
        refine lv_iload_n hx hb (g_29 bX5_feed rfl) rfl (lv_at hl 0 rfl) ?_
        refine lv_if_lt (tgt := 69) hx hb dX5_feed_49 (by decide +kernel) (fun h9 => absurd h9 (by decide +kernel)) (fun _ => ?_)
        refine lv_aload_n hx hb (g_42 bX5_feed rfl) rfl (lv_at hl 1 rfl) ?_
        refine va_get (D := G) (ci := 4) (v := .ref qa) (C := RX5) (T := TX5) (N := 9) hx hb hts iX_X5 hown hK hP 0 rfl rfl 4 (by decide +kernel) (hts _ m_t178) (fun _ h9 => h9) rfl (g_180 (v := 36) bX5_feed rfl) ?_
        refine lv_iload_n hx hb (g_27 bX5_feed rfl) rfl (lv_at hl 2 rfl) ?_
        refine lv_iload_n hx hb (g_29 bX5_feed rfl) rfl (lv_at hl 0 rfl) ?_
        refine lv_ishr hx hb (g_122 bX5_feed rfl) ?_
        refine lv_i2b (v := (iA >>> (8 &&& 31)).toInt8.toInt32) hx hb (g_145 bX5_feed rfl) rfl ?_
        refine cVv (As := [.int ((iA >>> (8 &&& 31)).toInt8.toInt32)]) (rest := []) (b := qa) (q := (RX3, TX3, 7)) ⟨hx, hb, hml, hown, hts⟩ (c_X3_append l G cy (H).size qa qab ((kZ + 1) + 1) (.int iT1) (.int iT2) (.int iT3) (.int iT4) (.ref qd) (upd (upd fB kZ (vp_nar .byte ((iA >>> (24 &&& 31)).toInt8.toInt32))) (kZ + 1) (vp_nar .byte ((iA >>> (16 &&& 31)).toInt8.toInt32))) ((iA >>> (8 &&& 31)).toInt8.toInt32) (by omega)) L_X5_150 hN hP hD hS hA [2, 3] [true, true, false, false] rfl (by decide +kernel) rfl 2 2 rfl rfl rfl ⟨Nat.le_of_ble_eq_true rfl, Nat.le_of_ble_eq_true rfl⟩ hl.1 (Nat.le_of_ble_eq_true rfl) (g_182 (v := 150) bX5_feed rfl) ⟨Nat.le_of_ble_eq_true rfl, Nat.le_of_ble_eq_true rfl⟩ (fun u_59 H locs h_58 => ?_)
        clear hP hD hS
        intro hP hD hS
        have hPD := pd_eq [_, _, _, zzB cy qab 250 (upd (upd (upd fB kZ (vp_nar .byte ((iA >>> (24 &&& 31)).toInt8.toInt32))) (kZ + 1) (vp_nar .byte ((iA >>> (16 &&& 31)).toInt8.toInt32))) ((kZ + 1) + 1) (vp_nar .byte ((iA >>> (8 &&& 31)).toInt8.toInt32)))] hP hD h_58 rfl
        clear hP hD h_58
        obtain ⟨hP, hD⟩ := hPD
        refine lv_iinc (v := 0) (lv' := [(3, .int 0), (0, .ref qx), (1, .int iA), (2, .int 4)]) hx hb dX5_feed_63 hl (k := 0) rfl (by decide +kernel) (by decide +kernel) rfl (fun ls => ?_)
        clear hl
        intro hl
        refine lv_goto (tgt := 48) hx hb dX5_feed_66 (by decide +kernel) ?_
        refine lv_iload_n hx hb (g_29 bX5_feed rfl) rfl (lv_at hl 0 rfl) ?_
        refine lv_if_lt (tgt := 69) hx hb dX5_feed_49 (by decide +kernel) (fun h9 => absurd h9 (by decide +kernel)) (fun _ => ?_)
        refine lv_aload_n hx hb (g_42 bX5_feed rfl) rfl (lv_at hl 1 rfl) ?_
        refine va_get (D := G) (ci := 4) (v := .ref qa) (C := RX5) (T := TX5) (N := 9) hx hb hts iX_X5 hown hK hP 0 rfl rfl 4 (by decide +kernel) (hts _ m_t178) (fun _ h9 => h9) rfl (g_180 (v := 36) bX5_feed rfl) ?_
        refine lv_iload_n hx hb (g_27 bX5_feed rfl) rfl (lv_at hl 2 rfl) ?_
        refine lv_iload_n hx hb (g_29 bX5_feed rfl) rfl (lv_at hl 0 rfl) ?_
        refine lv_ishr hx hb (g_122 bX5_feed rfl) ?_
        refine lv_i2b (v := (iA >>> (0 &&& 31)).toInt8.toInt32) hx hb (g_145 bX5_feed rfl) rfl ?_
        refine cVv (As := [.int ((iA >>> (0 &&& 31)).toInt8.toInt32)]) (rest := []) (b := qa) (q := (RX3, TX3, 7)) ⟨hx, hb, hml, hown, hts⟩ (c_X3_append l G cy (H).size qa qab (((kZ + 1) + 1) + 1) (.int iT1) (.int iT2) (.int iT3) (.int iT4) (.ref qd) (upd (upd (upd fB kZ (vp_nar .byte ((iA >>> (24 &&& 31)).toInt8.toInt32))) (kZ + 1) (vp_nar .byte ((iA >>> (16 &&& 31)).toInt8.toInt32))) ((kZ + 1) + 1) (vp_nar .byte ((iA >>> (8 &&& 31)).toInt8.toInt32))) ((iA >>> (0 &&& 31)).toInt8.toInt32) (by omega)) L_X5_150 hN hP hD hS hA [2, 3] [true, true, false, false] rfl (by decide +kernel) rfl 2 2 rfl rfl rfl ⟨Nat.le_of_ble_eq_true rfl, Nat.le_of_ble_eq_true rfl⟩ hl.1 (Nat.le_of_ble_eq_true rfl) (g_182 (v := 150) bX5_feed rfl) ⟨Nat.le_of_ble_eq_true rfl, Nat.le_of_ble_eq_true rfl⟩ (fun u_63 H locs h_62 => ?_)
        clear hP hD hS
        intro hP hD hS
        have hPD := pd_eq [_, _, zzO qa 2 [.ref qab, .int (nI ((((kZ + 1) + 1) + 1) + 1)), .int iT1, .int iT2, .int iT3, .int iT4, .ref qd], zzB cy qab 250 (upd (upd (upd (upd fB kZ (vp_nar .byte ((iA >>> (24 &&& 31)).toInt8.toInt32))) (kZ + 1) (vp_nar .byte ((iA >>> (16 &&& 31)).toInt8.toInt32))) ((kZ + 1) + 1) (vp_nar .byte ((iA >>> (8 &&& 31)).toInt8.toInt32))) (((kZ + 1) + 1) + 1) (vp_nar .byte ((iA >>> (0 &&& 31)).toInt8.toInt32)))] hP hD h_62 rfl
        clear hP hD h_62
        obtain ⟨hP, hD⟩ := hPD
        refine lv_iinc (v := (-8)) (lv' := [(3, .int (-8)), (0, .ref qx), (1, .int iA), (2, .int 4)]) hx hb dX5_feed_63 hl (k := 0) rfl (by decide +kernel) (by decide +kernel) rfl (fun ls => ?_)
        clear hl
        intro hl
        refine lv_goto (tgt := 48) hx hb dX5_feed_66 (by decide +kernel) ?_
        refine lv_iload_n hx hb (g_29 bX5_feed rfl) rfl (lv_at hl 0 rfl) ?_
        refine lv_if_lt (tgt := 69) hx hb dX5_feed_49 (by decide +kernel) (fun _ => ?_) (fun h9 => absurd (by decide +kernel) h9)
        refine lv_aload_n hx hb (g_42 bX5_feed rfl) rfl (lv_at hl 1 rfl) ?_
        refine va_get (D := G) (ci := 4) (v := .ref qa) (C := RX5) (T := TX5) (N := 9) hx hb hts iX_X5 hown hK hP 0 rfl rfl 4 (by decide +kernel) (hts _ m_t178) (fun _ h9 => h9) rfl (g_180 (v := 36) bX5_feed rfl) ?_
        refine va_getN (D := G) (ci := 2) (v := .int (nI ((((kZ + 1) + 1) + 1) + 1))) (C := RX3) (T := TX3) (N := 7) hx hb hts iX_X3 hown hK hP 2 rfl rfl 1 (by decide +kernel) (va_Nw.use rfl (hN.2.1 (RX5, 148, "EachBookOnce$Tape", "size", "I") (List.mem_of_getElem? (i := 29) rfl))) (fun _ h9 => h9) rfl (g_180 (v := 148) bX5_feed rfl) ?_
        exact endWs [[true, true, true, true]] hx hb hr hlocks rfl hP hD rfl (by decide +kernel) hS ⟨fR, ((((kZ + 1) + 1) + 1) + 1), iT1, iT2, iT3, iT4, upd (upd (upd (upd fB kZ (vp_nar .byte ((iA >>> (24 &&& 31)).toInt8.toInt32))) (kZ + 1) (vp_nar .byte ((iA >>> (16 &&& 31)).toInt8.toInt32))) ((kZ + 1) + 1) (vp_nar .byte ((iA >>> (8 &&& 31)).toInt8.toInt32))) (((kZ + 1) + 1) + 1) (vp_nar .byte ((iA >>> (0 &&& 31)).toInt8.toInt32)), rfl, ⟨Or.inr ⟨4, by omega, by omega, rfl, Or.inr ⟨rfl, fd_yes (k := 4) (by omega) (by omega) c_47, rfl⟩⟩, Or.inr ⟨4, by omega, by omega, rfl, rfl, fd_s4 (nrm_byte _) (nrm_byte _) (nrm_byte _) (nrm_byte _)⟩⟩, trivial⟩ (g_172 bX5_feed rfl)
      · refine lv_aload_n hx hb (g_42 bX5_feed rfl) rfl (lv_at hl 0 rfl) ?_
        refine lv_bipush (v := (-6)) hx hb dX5_feed_35 (by decide +kernel) ?_
        refine cVi (As := [.int (-6)]) (rest := []) (b := qx) (q := (RX5, TX5, 9)) ⟨hx, hb, hml, hown, hts⟩ (c_X5_refuse6 l G cy (s.heap).size qx qt qk qp qs qa qr iKp iYe iTv fR) L_X5_56 hN hP hD hS hA [0, 1] [false, false, true, true] rfl (by decide +kernel) rfl 0 4 rfl rfl rfl ⟨Nat.le_of_ble_eq_true rfl, Nat.le_of_ble_eq_true rfl⟩ hl.1 (Nat.le_of_ble_eq_true rfl) (g_182 (v := 56) bX5_feed rfl) ⟨Nat.le_of_ble_eq_true rfl, Nat.le_of_ble_eq_true rfl⟩ (fun r_65 u_67 H locs h_66 => ?_)
        clear hP hD hS
        intro hP hD hS
        obtain ⟨fX_68, hu9, h_66⟩ := h_66
        have hPD := pd_eq [_, _, _, zzI cy qr 5 fX_68] hP hD hu9 rfl
        clear hP hD hu9
        obtain ⟨hP, hD⟩ := hPD
        subst h_66
        exact endWs [[false, false, true, true], [true, true]] hx hb hr hlocks rfl hP hD rfl (by decide +kernel) hS ⟨fX_68, kZ, iT1, iT2, iT3, iT4, fB, rfl, ⟨Or.inr ⟨4, by omega, by omega, rfl, Or.inl ⟨rfl, fd_no (k := 4) (by omega) (by omega) c_47, rfl⟩⟩, Or.inl ⟨rfl, rfl⟩⟩, trivial⟩ (g_172 bX5_feed rfl)
  · refine lv_if_ne (tgt := 19) hx hb dX5_feed_9 (by decide +kernel) (fun h9 => absurd (by decide +kernel) h9) (fun _ => ?_)
    refine lv_aload_n hx hb (g_42 bX5_feed rfl) rfl (lv_at hl 0 rfl) ?_
    refine lv_bipush (v := (-2)) hx hb dX5_feed_13 (by decide +kernel) ?_
    refine cVi (As := [.int (-2)]) (rest := []) (b := qx) (q := (RX5, TX5, 9)) ⟨hx, hb, hml, hown, hts⟩ (c_X5_refuse2 l G cy (s.heap).size qx qt qk qp qs qa qr iKp iYe iTv fR) L_X5_56 hN hP hD hS hA [0, 1] [false, false, true, true] rfl (by decide +kernel) rfl 0 4 rfl rfl rfl ⟨Nat.le_of_ble_eq_true rfl, Nat.le_of_ble_eq_true rfl⟩ hl.1 (Nat.le_of_ble_eq_true rfl) (g_182 (v := 56) bX5_feed rfl) ⟨Nat.le_of_ble_eq_true rfl, Nat.le_of_ble_eq_true rfl⟩ (fun r_70 u_72 H locs h_71 => ?_)
    clear hP hD hS
    intro hP hD hS
    obtain ⟨fX_73, hu9, h_71⟩ := h_71
    have hPD := pd_eq [_, _, _, zzI cy qr 5 fX_73] hP hD hu9 rfl
    clear hP hD hu9
    obtain ⟨hP, hD⟩ := hPD
    subst h_71
    exact endWs [[false, false, true, true], [true, true]] hx hb hr hlocks rfl hP hD rfl (by decide +kernel) hS ⟨fX_73, kZ, iT1, iT2, iT3, iT4, fB, rfl, ⟨Or.inl ⟨rfl, h_3, rfl⟩, Or.inl ⟨rfl, rfl⟩⟩, trivial⟩ (g_172 bX5_feed rfl)
set_option maxHeartbeats 4000000 in
set_option maxRecDepth 100000 in
theorem x_X6_feed (l : Launch) (G : va_G) (cy : Nat → ClassId) (sz : Nat) (qm : Nat) (qmh : Nat) (qmo : Nat) (qmz : Nat) (qmR : Nat) (qmv : Nat) (qmk : Nat) (qma : Nat) (qmt : Nat) (kZ : Nat) (qmr : Nat) (tA : TA) (qmB : Nat) (qmO : Nat) (qmK : Nat) (iEn : Int32) (iTk : Int32) (uP : UM) (uU : UM) (kAt : Nat) (iTo : Int32) (iFr : Int32) (JFi : Int64) (iFa : Int32) (qm3 : Nat) (iSt : Int32) (iLv : Int32) (iWs : Int32) (vLa : Value) (qmu : Nat) (qmy : Nat) (qmb : Nat) (qms : Nat) (iOm : Int32) (fMt : Nat → Int32) (fMr : Nat → Int32) (iA : Int32) (iB : Int32)  (hZ : kZ ≤ 250) : MW l yX6_feed cX6_feed 4 (some .int) 16 0 0 G cy [zzO qm 5 (.ref qmh :: .ref qmo :: .ref qmz :: .ref qmR :: .ref qmv :: .ref qmk :: .ref qma :: .ref qmt :: .int (nI kZ) :: .ref qmr :: .int (nI (T_nb tA)) :: .ref qmB :: .int (nI (T_np tA)) :: .ref qmO :: .ref qmK :: .int iEn :: .int iTk :: .int (T_sd tA) :: ov uP :: ov uU :: .int (nI kAt) :: .int iTo :: .int iFr :: .long JFi :: .int iFa :: .ref qm3 :: .int iSt :: .int iLv :: .int iWs :: vLa :: .ref qmu :: .ref qmy :: .ref qmb :: .ref qms :: .int iOm :: []), zzI cy qmt 250 fMt, zzI cy qmr 8 fMr] sz [.ref qm, .int iA, .int iB] (Wi G (fun r u => ∃ (kNz : Nat) (fNt : Nat → Int32) (fNr : Nat → Int32), u = [zzO qm 5 (.ref qmh :: .ref qmo :: .ref qmz :: .ref qmR :: .ref qmv :: .ref qmk :: .ref qma :: .ref qmt :: .int (nI kNz) :: .ref qmr :: .int (nI (T_nb tA)) :: .ref qmB :: .int (nI (T_np tA)) :: .ref qmO :: .ref qmK :: .int iEn :: .int iTk :: .int (T_sd tA) :: ov uP :: ov uU :: .int (nI kAt) :: .int iTo :: .int iFr :: .long JFi :: .int iFa :: .ref qm3 :: .int iSt :: .int iLv :: .int iWs :: vLa :: .ref qmu :: .ref qmy :: .ref qmb :: .ref qms :: .int iOm :: []), zzI cy qmt 250 fNt, zzI cy qmr 8 fNr] ∧ (PXfeed kZ iB r kNz ∧ FD fMt kZ iA iB kNz fNt) ∧ (True))) := by
  refine enW RX6 (by decide +kernel) rfl (Nat.le_of_ble_eq_true rfl) (fun p e s m below meth c ls A hx hb hml hown hts hr hlocks hP hN hl hin hD hA hS => ?_)
  have hin : meth.name = _ := hin
  have hK := hN.1
  replace hl : lv_has ls 4 [(0, .ref qm), (1, .int iA), (2, .int iB)] := hl
  refine lv_iload_n hx hb (g_28 bX6_feed rfl) rfl (lv_at hl 2 rfl) ?_
  refine lv_i2l (v := iB.toInt64) hx hb (g_133 bX6_feed rfl) rfl ?_
  refine lv_lconst (v := 1) hx hb (g_10 bX6_feed rfl) (by decide +kernel) ?_
  refine lv_ldc2 hx hb hown (hts _ m_t964) (g_20 (v := 87) bX6_feed rfl) ?_
  refine kRi (rS (As := [.long iB.toInt64, .long 1, .long 4]) (rest := []) ⟨hx, hb, hml, hown, hts⟩ (c_X6_in l G cy iB.toInt64 1 4) L_X6_74 (preRS hN hP [] rfl) rfl ⟨Nat.le_of_ble_eq_true rfl, Nat.le_of_ble_eq_true rfl⟩ hl.1 (Nat.le_of_ble_eq_true rfl) (g_184 (v := 74) bX6_feed rfl) ⟨Nat.le_of_ble_eq_true rfl, Nat.le_of_ble_eq_true rfl⟩) (fun r_1 h_2 => ?_)
  rcases h_2 with ⟨rfl, h_3⟩ | ⟨rfl, h_3⟩
  · refine lv_if_ne (tgt := 19) hx hb dX6_feed_9 (by decide +kernel) (fun _ => ?_) (fun h9 => absurd h9 (by decide +kernel))
    rcases in14 h_3 with rfl | rfl | rfl | rfl
    · refine lv_iload_n hx hb (g_28 bX6_feed rfl) rfl (lv_at hl 2 rfl) ?_
      refine lv_sipush (v := 250) hx hb dX6_feed_20 (by decide +kernel) ?_
      refine lv_aload_n hx hb (g_42 bX6_feed rfl) rfl (lv_at hl 0 rfl) ?_
      refine va_get (D := G) (ci := 5) (v := .int (nI kZ)) (C := RX6) (T := TX6) (N := 35) hx hb hts iX_X6 hown hK hP 0 rfl rfl 8 (by decide +kernel) (hts _ m_t858) (fun _ h9 => h9) rfl (g_180 (v := 141) bX6_feed rfl) ?_
      refine lv_isub hx hb (g_100 bX6_feed rfl) ?_
      refine lv_icmp_le (tgt := 38) hx hb dX6_feed_28 (by decide +kernel) (fun c_5 => ?_) (fun c_5 => ?_)
      · have hfd : kZ + 1 ≤ 250 := fm_yes (k := 1) (by omega) (by omega) c_5
        refine lv_iload_n hx hb (g_28 bX6_feed rfl) rfl (lv_at hl 2 rfl) ?_
        refine lv_iconst (v := 1) hx hb (g_4 bX6_feed rfl) (by decide +kernel) ?_
        refine lv_isub hx hb (g_100 bX6_feed rfl) ?_
        refine lv_seti (v := 0) (by decide +kernel) ?_
        refine lv_istore_n (lv' := [(3, .int 0), (0, .ref qm), (1, .int iA), (2, .int 1)]) hx hb (g_62 bX6_feed rfl) rfl hl (by decide +kernel) rfl (fun ls => ?_)
        clear hl
        intro hl
        refine lv_iload_n hx hb (g_29 bX6_feed rfl) rfl (lv_at hl 0 rfl) ?_
        refine lv_if_lt (tgt := 78) hx hb dX6_feed_43 (by decide +kernel) (fun h9 => absurd h9 (by decide +kernel)) (fun _ => ?_)
        refine lv_aload_n hx hb (g_42 bX6_feed rfl) rfl (lv_at hl 1 rfl) ?_
        refine va_get (D := G) (ci := 5) (v := .ref qmt) (C := RX6) (T := TX6) (N := 35) hx hb hts iX_X6 hown hK hP 0 rfl rfl 7 (by decide +kernel) (hts _ m_t857) (fun _ h9 => h9) rfl (g_180 (v := 34) bX6_feed rfl) ?_
        refine lv_aload_n hx hb (g_42 bX6_feed rfl) rfl (lv_at hl 1 rfl) ?_
        refine lv_dup hx hb (g_89 bX6_feed rfl) rfl ?_
        refine va_get (D := G) (ci := 5) (v := .int (nI kZ)) (C := RX6) (T := TX6) (N := 35) hx hb hts iX_X6 hown hK hP 0 rfl rfl 8 (by decide +kernel) (hts _ m_t858) (fun _ h9 => h9) rfl (g_180 (v := 141) bX6_feed rfl) ?_
        refine lv_dup_x1 hx hb (g_90 bX6_feed rfl) rfl rfl ?_
        refine lv_iconst (v := 1) hx hb (g_4 bX6_feed rfl) (by decide +kernel) ?_
        refine lv_iadd hx hb (g_96 bX6_feed rfl) ?_
        refine lv_seti (v := nI (kZ + 1)) (nI_1 _) ?_
        refine va_put (D := G) (ci := 5) (v := .int (nI (kZ + 1))) (ty := .int) (C := RX6) (T := TX6) (N := 35) hx hb hts iX_X6 tyX6 tyX6_ok nmX6 hown hK hP hD hS 0 rfl rfl 8 (by decide +kernel) (hts _ m_t858) (fun _ h9 => h9) rfl (by decide +kernel) rfl rfl (Nat.le_of_ble_eq_true rfl) (g_181 (v := 141) bX6_feed rfl) (fun H locs => ?_)
        clear hP hD hS
        intro hP hD hS
        have hPD := pd_as [zzO qm 5 (.ref qmh :: .ref qmo :: .ref qmz :: .ref qmR :: .ref qmv :: .ref qmk :: .ref qma :: .ref qmt :: .int (nI (kZ + 1)) :: .ref qmr :: .int (nI (T_nb tA)) :: .ref qmB :: .int (nI (T_np tA)) :: .ref qmO :: .ref qmK :: .int iEn :: .int iTk :: .int (T_sd tA) :: ov uP :: ov uU :: .int (nI kAt) :: .int iTo :: .int iFr :: .long JFi :: .int iFa :: .ref qm3 :: .int iSt :: .int iLv :: .int iWs :: vLa :: .ref qmu :: .ref qmy :: .ref qmb :: .ref qms :: .int iOm :: []), _, _] hP hD rfl
        clear hP hD
        obtain ⟨hP, hD⟩ := hPD
        refine lv_iload_n hx hb (g_27 bX6_feed rfl) rfl (lv_at hl 2 rfl) ?_
        refine lv_bipush (v := 8) hx hb dX6_feed_62 (by decide +kernel) ?_
        refine lv_iload_n hx hb (g_29 bX6_feed rfl) rfl (lv_at hl 0 rfl) ?_
        refine lv_imul hx hb (g_104 bX6_feed rfl) ?_
        refine lv_seti (v := 0) (by decide +kernel) ?_
        refine lv_ishr hx hb (g_122 bX6_feed rfl) ?_
        refine lv_sipush (v := 255) hx hb dX6_feed_67 (by decide +kernel) ?_
        refine lv_iand hx hb (g_126 bX6_feed rfl) ?_
        refine va_iast hx hb hK hP hD hS 1 0 rfl rfl (vp_in_nI (by omega) (by omega)) (g_79 bX6_feed rfl) (fun H locs => ?_)
        clear hP hD hS
        intro hP hD hS
        rw [nI_clamp (n := kZ) (by omega)] at hP hD
        have hPD := pd_as [_, zzI cy qmt 250 (upd fMt kZ ((iA >>> (0 &&& 31)) &&& 255)), _] hP hD rfl
        clear hP hD
        obtain ⟨hP, hD⟩ := hPD
        refine lv_iinc (v := (-1)) (lv' := [(3, .int (-1)), (0, .ref qm), (1, .int iA), (2, .int 1)]) hx hb dX6_feed_72 hl (k := 0) rfl (by decide +kernel) (by decide +kernel) rfl (fun ls => ?_)
        clear hl
        intro hl
        refine lv_goto (tgt := 42) hx hb dX6_feed_75 (by decide +kernel) ?_
        refine lv_iload_n hx hb (g_29 bX6_feed rfl) rfl (lv_at hl 0 rfl) ?_
        refine lv_if_lt (tgt := 78) hx hb dX6_feed_43 (by decide +kernel) (fun _ => ?_) (fun h9 => absurd (by decide +kernel) h9)
        refine lv_aload_n hx hb (g_42 bX6_feed rfl) rfl (lv_at hl 1 rfl) ?_
        refine va_get (D := G) (ci := 5) (v := .int (nI (kZ + 1))) (C := RX6) (T := TX6) (N := 35) hx hb hts iX_X6 hown hK hP 0 rfl rfl 8 (by decide +kernel) (hts _ m_t858) (fun _ h9 => h9) rfl (g_180 (v := 141) bX6_feed rfl) ?_
        exact endWs [[true, true, true]] hx hb hr hlocks rfl hP hD rfl (by decide +kernel) hS ⟨(kZ + 1), (upd fMt kZ ((iA >>> (0 &&& 31)) &&& 255)), fMr, rfl, ⟨Or.inr ⟨1, by omega, by omega, rfl, Or.inr ⟨rfl, fm_yes (k := 1) (by omega) (by omega) c_5, rfl⟩⟩, Or.inr ⟨1, by omega, by omega, rfl, rfl, fd_s1 rfl⟩⟩, trivial⟩ (g_172 bX6_feed rfl)
      · refine lv_aload_n hx hb (g_42 bX6_feed rfl) rfl (lv_at hl 0 rfl) ?_
        refine lv_bipush (v := (-6)) hx hb dX6_feed_32 (by decide +kernel) ?_
        refine cVi (As := [.int (-6)]) (rest := []) (b := qm) (q := (RX6, TX6, 35)) ⟨hx, hb, hml, hown, hts⟩ (c_X6_refuse6 l G cy (s.heap).size qm (.ref qmh) (.ref qmo) (.ref qmz) (.ref qmR) (.ref qmv) (.ref qmk) (.ref qma) (.ref qmt) (.int (nI kZ)) qmr tA qmB qmO qmK iEn iTk (ov uP) (ov uU) (.int (nI kAt)) (.int iTo) (.int iFr) (.long JFi) (.int iFa) (.ref qm3) (.int iSt) iLv iWs vLa (.ref qmu) (.ref qmy) (.ref qmb) (.ref qms) (.int iOm) fMr) L_X6_91 hN hP hD hS hA [0, 2] [false, true, false] rfl (by decide +kernel) rfl 0 5 rfl rfl rfl ⟨Nat.le_of_ble_eq_true rfl, Nat.le_of_ble_eq_true rfl⟩ hl.1 (Nat.le_of_ble_eq_true rfl) (g_182 (v := 91) bX6_feed rfl) ⟨Nat.le_of_ble_eq_true rfl, Nat.le_of_ble_eq_true rfl⟩ (fun r_8 u_10 H locs h_9 => ?_)
        clear hP hD hS
        intro hP hD hS
        obtain ⟨fX_11, hu9, h_9⟩ := h_9
        have hPD := pd_eq [_, _, zzI cy qmr 8 fX_11] hP hD hu9 rfl
        clear hP hD hu9
        obtain ⟨hP, hD⟩ := hPD
        subst h_9
        exact endWs [[false, true], [true, false, true]] hx hb hr hlocks rfl hP hD rfl (by decide +kernel) hS ⟨kZ, fMt, fX_11, rfl, ⟨Or.inr ⟨1, by omega, by omega, rfl, Or.inl ⟨rfl, fm_no (k := 1) (by omega) (by omega) c_5, rfl⟩⟩, Or.inl ⟨rfl, rfl⟩⟩, trivial⟩ (g_172 bX6_feed rfl)
    · refine lv_iload_n hx hb (g_28 bX6_feed rfl) rfl (lv_at hl 2 rfl) ?_
      refine lv_sipush (v := 250) hx hb dX6_feed_20 (by decide +kernel) ?_
      refine lv_aload_n hx hb (g_42 bX6_feed rfl) rfl (lv_at hl 0 rfl) ?_
      refine va_get (D := G) (ci := 5) (v := .int (nI kZ)) (C := RX6) (T := TX6) (N := 35) hx hb hts iX_X6 hown hK hP 0 rfl rfl 8 (by decide +kernel) (hts _ m_t858) (fun _ h9 => h9) rfl (g_180 (v := 141) bX6_feed rfl) ?_
      refine lv_isub hx hb (g_100 bX6_feed rfl) ?_
      refine lv_icmp_le (tgt := 38) hx hb dX6_feed_28 (by decide +kernel) (fun c_12 => ?_) (fun c_12 => ?_)
      · have hfd : kZ + 2 ≤ 250 := fm_yes (k := 2) (by omega) (by omega) c_12
        refine lv_iload_n hx hb (g_28 bX6_feed rfl) rfl (lv_at hl 2 rfl) ?_
        refine lv_iconst (v := 1) hx hb (g_4 bX6_feed rfl) (by decide +kernel) ?_
        refine lv_isub hx hb (g_100 bX6_feed rfl) ?_
        refine lv_seti (v := 1) (by decide +kernel) ?_
        refine lv_istore_n (lv' := [(3, .int 1), (0, .ref qm), (1, .int iA), (2, .int 2)]) hx hb (g_62 bX6_feed rfl) rfl hl (by decide +kernel) rfl (fun ls => ?_)
        clear hl
        intro hl
        refine lv_iload_n hx hb (g_29 bX6_feed rfl) rfl (lv_at hl 0 rfl) ?_
        refine lv_if_lt (tgt := 78) hx hb dX6_feed_43 (by decide +kernel) (fun h9 => absurd h9 (by decide +kernel)) (fun _ => ?_)
        refine lv_aload_n hx hb (g_42 bX6_feed rfl) rfl (lv_at hl 1 rfl) ?_
        refine va_get (D := G) (ci := 5) (v := .ref qmt) (C := RX6) (T := TX6) (N := 35) hx hb hts iX_X6 hown hK hP 0 rfl rfl 7 (by decide +kernel) (hts _ m_t857) (fun _ h9 => h9) rfl (g_180 (v := 34) bX6_feed rfl) ?_
        refine lv_aload_n hx hb (g_42 bX6_feed rfl) rfl (lv_at hl 1 rfl) ?_
        refine lv_dup hx hb (g_89 bX6_feed rfl) rfl ?_
        refine va_get (D := G) (ci := 5) (v := .int (nI kZ)) (C := RX6) (T := TX6) (N := 35) hx hb hts iX_X6 hown hK hP 0 rfl rfl 8 (by decide +kernel) (hts _ m_t858) (fun _ h9 => h9) rfl (g_180 (v := 141) bX6_feed rfl) ?_
        refine lv_dup_x1 hx hb (g_90 bX6_feed rfl) rfl rfl ?_
        refine lv_iconst (v := 1) hx hb (g_4 bX6_feed rfl) (by decide +kernel) ?_
        refine lv_iadd hx hb (g_96 bX6_feed rfl) ?_
        refine lv_seti (v := nI (kZ + 1)) (nI_1 _) ?_
        refine va_put (D := G) (ci := 5) (v := .int (nI (kZ + 1))) (ty := .int) (C := RX6) (T := TX6) (N := 35) hx hb hts iX_X6 tyX6 tyX6_ok nmX6 hown hK hP hD hS 0 rfl rfl 8 (by decide +kernel) (hts _ m_t858) (fun _ h9 => h9) rfl (by decide +kernel) rfl rfl (Nat.le_of_ble_eq_true rfl) (g_181 (v := 141) bX6_feed rfl) (fun H locs => ?_)
        clear hP hD hS
        intro hP hD hS
        have hPD := pd_as [_, _, _] hP hD rfl
        clear hP hD
        obtain ⟨hP, hD⟩ := hPD
        refine lv_iload_n hx hb (g_27 bX6_feed rfl) rfl (lv_at hl 2 rfl) ?_
        refine lv_bipush (v := 8) hx hb dX6_feed_62 (by decide +kernel) ?_
        refine lv_iload_n hx hb (g_29 bX6_feed rfl) rfl (lv_at hl 0 rfl) ?_
        refine lv_imul hx hb (g_104 bX6_feed rfl) ?_
        refine lv_seti (v := 8) (by decide +kernel) ?_
        refine lv_ishr hx hb (g_122 bX6_feed rfl) ?_
        refine lv_sipush (v := 255) hx hb dX6_feed_67 (by decide +kernel) ?_
        refine lv_iand hx hb (g_126 bX6_feed rfl) ?_
        refine va_iast hx hb hK hP hD hS 1 0 rfl rfl (vp_in_nI (by omega) (by omega)) (g_79 bX6_feed rfl) (fun H locs => ?_)
        clear hP hD hS
        intro hP hD hS
        rw [nI_clamp (n := kZ) (by omega)] at hP hD
        have hPD := pd_as [_, zzI cy qmt 250 (upd fMt kZ ((iA >>> (8 &&& 31)) &&& 255)), _] hP hD rfl
        clear hP hD
        obtain ⟨hP, hD⟩ := hPD
        refine lv_iinc (v := 0) (lv' := [(3, .int 0), (0, .ref qm), (1, .int iA), (2, .int 2)]) hx hb dX6_feed_72 hl (k := 0) rfl (by decide +kernel) (by decide +kernel) rfl (fun ls => ?_)
        clear hl
        intro hl
        refine lv_goto (tgt := 42) hx hb dX6_feed_75 (by decide +kernel) ?_
        refine lv_iload_n hx hb (g_29 bX6_feed rfl) rfl (lv_at hl 0 rfl) ?_
        refine lv_if_lt (tgt := 78) hx hb dX6_feed_43 (by decide +kernel) (fun h9 => absurd h9 (by decide +kernel)) (fun _ => ?_)
        refine lv_aload_n hx hb (g_42 bX6_feed rfl) rfl (lv_at hl 1 rfl) ?_
        refine va_get (D := G) (ci := 5) (v := .ref qmt) (C := RX6) (T := TX6) (N := 35) hx hb hts iX_X6 hown hK hP 0 rfl rfl 7 (by decide +kernel) (hts _ m_t857) (fun _ h9 => h9) rfl (g_180 (v := 34) bX6_feed rfl) ?_
        refine lv_aload_n hx hb (g_42 bX6_feed rfl) rfl (lv_at hl 1 rfl) ?_
        refine lv_dup hx hb (g_89 bX6_feed rfl) rfl ?_
        refine va_get (D := G) (ci := 5) (v := .int (nI (kZ + 1))) (C := RX6) (T := TX6) (N := 35) hx hb hts iX_X6 hown hK hP 0 rfl rfl 8 (by decide +kernel) (hts _ m_t858) (fun _ h9 => h9) rfl (g_180 (v := 141) bX6_feed rfl) ?_
        refine lv_dup_x1 hx hb (g_90 bX6_feed rfl) rfl rfl ?_
        refine lv_iconst (v := 1) hx hb (g_4 bX6_feed rfl) (by decide +kernel) ?_
        refine lv_iadd hx hb (g_96 bX6_feed rfl) ?_
        refine lv_seti (v := nI ((kZ + 1) + 1)) (nI_1 _) ?_
        refine va_put (D := G) (ci := 5) (v := .int (nI ((kZ + 1) + 1))) (ty := .int) (C := RX6) (T := TX6) (N := 35) hx hb hts iX_X6 tyX6 tyX6_ok nmX6 hown hK hP hD hS 0 rfl rfl 8 (by decide +kernel) (hts _ m_t858) (fun _ h9 => h9) rfl (by decide +kernel) rfl rfl (Nat.le_of_ble_eq_true rfl) (g_181 (v := 141) bX6_feed rfl) (fun H locs => ?_)
        clear hP hD hS
        intro hP hD hS
        have hPD := pd_as [zzO qm 5 (.ref qmh :: .ref qmo :: .ref qmz :: .ref qmR :: .ref qmv :: .ref qmk :: .ref qma :: .ref qmt :: .int (nI ((kZ + 1) + 1)) :: .ref qmr :: .int (nI (T_nb tA)) :: .ref qmB :: .int (nI (T_np tA)) :: .ref qmO :: .ref qmK :: .int iEn :: .int iTk :: .int (T_sd tA) :: ov uP :: ov uU :: .int (nI kAt) :: .int iTo :: .int iFr :: .long JFi :: .int iFa :: .ref qm3 :: .int iSt :: .int iLv :: .int iWs :: vLa :: .ref qmu :: .ref qmy :: .ref qmb :: .ref qms :: .int iOm :: []), _, _] hP hD rfl
        clear hP hD
        obtain ⟨hP, hD⟩ := hPD
        refine lv_iload_n hx hb (g_27 bX6_feed rfl) rfl (lv_at hl 2 rfl) ?_
        refine lv_bipush (v := 8) hx hb dX6_feed_62 (by decide +kernel) ?_
        refine lv_iload_n hx hb (g_29 bX6_feed rfl) rfl (lv_at hl 0 rfl) ?_
        refine lv_imul hx hb (g_104 bX6_feed rfl) ?_
        refine lv_seti (v := 0) (by decide +kernel) ?_
        refine lv_ishr hx hb (g_122 bX6_feed rfl) ?_
        refine lv_sipush (v := 255) hx hb dX6_feed_67 (by decide +kernel) ?_
        refine lv_iand hx hb (g_126 bX6_feed rfl) ?_
        refine va_iast hx hb hK hP hD hS 1 0 rfl rfl (vp_in_nI (by omega) (by omega)) (g_79 bX6_feed rfl) (fun H locs => ?_)
        clear hP hD hS
        intro hP hD hS
        rw [nI_clamp (n := (kZ + 1)) (by omega)] at hP hD
        have hPD := pd_as [_, zzI cy qmt 250 (upd (upd fMt kZ ((iA >>> (8 &&& 31)) &&& 255)) (kZ + 1) ((iA >>> (0 &&& 31)) &&& 255)), _] hP hD rfl
        clear hP hD
        obtain ⟨hP, hD⟩ := hPD
        refine lv_iinc (v := (-1)) (lv' := [(3, .int (-1)), (0, .ref qm), (1, .int iA), (2, .int 2)]) hx hb dX6_feed_72 hl (k := 0) rfl (by decide +kernel) (by decide +kernel) rfl (fun ls => ?_)
        clear hl
        intro hl
        refine lv_goto (tgt := 42) hx hb dX6_feed_75 (by decide +kernel) ?_
        refine lv_iload_n hx hb (g_29 bX6_feed rfl) rfl (lv_at hl 0 rfl) ?_
        refine lv_if_lt (tgt := 78) hx hb dX6_feed_43 (by decide +kernel) (fun _ => ?_) (fun h9 => absurd (by decide +kernel) h9)
        refine lv_aload_n hx hb (g_42 bX6_feed rfl) rfl (lv_at hl 1 rfl) ?_
        refine va_get (D := G) (ci := 5) (v := .int (nI ((kZ + 1) + 1))) (C := RX6) (T := TX6) (N := 35) hx hb hts iX_X6 hown hK hP 0 rfl rfl 8 (by decide +kernel) (hts _ m_t858) (fun _ h9 => h9) rfl (g_180 (v := 141) bX6_feed rfl) ?_
        exact endWs [[true, true, true]] hx hb hr hlocks rfl hP hD rfl (by decide +kernel) hS ⟨((kZ + 1) + 1), (upd (upd fMt kZ ((iA >>> (8 &&& 31)) &&& 255)) (kZ + 1) ((iA >>> (0 &&& 31)) &&& 255)), fMr, rfl, ⟨Or.inr ⟨2, by omega, by omega, rfl, Or.inr ⟨rfl, fm_yes (k := 2) (by omega) (by omega) c_12, rfl⟩⟩, Or.inr ⟨2, by omega, by omega, rfl, rfl, fd_s2 rfl rfl⟩⟩, trivial⟩ (g_172 bX6_feed rfl)
      · refine lv_aload_n hx hb (g_42 bX6_feed rfl) rfl (lv_at hl 0 rfl) ?_
        refine lv_bipush (v := (-6)) hx hb dX6_feed_32 (by decide +kernel) ?_
        refine cVi (As := [.int (-6)]) (rest := []) (b := qm) (q := (RX6, TX6, 35)) ⟨hx, hb, hml, hown, hts⟩ (c_X6_refuse6 l G cy (s.heap).size qm (.ref qmh) (.ref qmo) (.ref qmz) (.ref qmR) (.ref qmv) (.ref qmk) (.ref qma) (.ref qmt) (.int (nI kZ)) qmr tA qmB qmO qmK iEn iTk (ov uP) (ov uU) (.int (nI kAt)) (.int iTo) (.int iFr) (.long JFi) (.int iFa) (.ref qm3) (.int iSt) iLv iWs vLa (.ref qmu) (.ref qmy) (.ref qmb) (.ref qms) (.int iOm) fMr) L_X6_91 hN hP hD hS hA [0, 2] [false, true, false] rfl (by decide +kernel) rfl 0 5 rfl rfl rfl ⟨Nat.le_of_ble_eq_true rfl, Nat.le_of_ble_eq_true rfl⟩ hl.1 (Nat.le_of_ble_eq_true rfl) (g_182 (v := 91) bX6_feed rfl) ⟨Nat.le_of_ble_eq_true rfl, Nat.le_of_ble_eq_true rfl⟩ (fun r_16 u_18 H locs h_17 => ?_)
        clear hP hD hS
        intro hP hD hS
        obtain ⟨fX_19, hu9, h_17⟩ := h_17
        have hPD := pd_eq [_, _, zzI cy qmr 8 fX_19] hP hD hu9 rfl
        clear hP hD hu9
        obtain ⟨hP, hD⟩ := hPD
        subst h_17
        exact endWs [[false, true], [true, false, true]] hx hb hr hlocks rfl hP hD rfl (by decide +kernel) hS ⟨kZ, fMt, fX_19, rfl, ⟨Or.inr ⟨2, by omega, by omega, rfl, Or.inl ⟨rfl, fm_no (k := 2) (by omega) (by omega) c_12, rfl⟩⟩, Or.inl ⟨rfl, rfl⟩⟩, trivial⟩ (g_172 bX6_feed rfl)
    · refine lv_iload_n hx hb (g_28 bX6_feed rfl) rfl (lv_at hl 2 rfl) ?_
      refine lv_sipush (v := 250) hx hb dX6_feed_20 (by decide +kernel) ?_
      refine lv_aload_n hx hb (g_42 bX6_feed rfl) rfl (lv_at hl 0 rfl) ?_
      refine va_get (D := G) (ci := 5) (v := .int (nI kZ)) (C := RX6) (T := TX6) (N := 35) hx hb hts iX_X6 hown hK hP 0 rfl rfl 8 (by decide +kernel) (hts _ m_t858) (fun _ h9 => h9) rfl (g_180 (v := 141) bX6_feed rfl) ?_
      refine lv_isub hx hb (g_100 bX6_feed rfl) ?_
      refine lv_icmp_le (tgt := 38) hx hb dX6_feed_28 (by decide +kernel) (fun c_20 => ?_) (fun c_20 => ?_)
      · have hfd : kZ + 3 ≤ 250 := fm_yes (k := 3) (by omega) (by omega) c_20
        refine lv_iload_n hx hb (g_28 bX6_feed rfl) rfl (lv_at hl 2 rfl) ?_
        refine lv_iconst (v := 1) hx hb (g_4 bX6_feed rfl) (by decide +kernel) ?_
        refine lv_isub hx hb (g_100 bX6_feed rfl) ?_
        refine lv_seti (v := 2) (by decide +kernel) ?_
        refine lv_istore_n (lv' := [(3, .int 2), (0, .ref qm), (1, .int iA), (2, .int 3)]) hx hb (g_62 bX6_feed rfl) rfl hl (by decide +kernel) rfl (fun ls => ?_)
        clear hl
        intro hl
        refine lv_iload_n hx hb (g_29 bX6_feed rfl) rfl (lv_at hl 0 rfl) ?_
        refine lv_if_lt (tgt := 78) hx hb dX6_feed_43 (by decide +kernel) (fun h9 => absurd h9 (by decide +kernel)) (fun _ => ?_)
        refine lv_aload_n hx hb (g_42 bX6_feed rfl) rfl (lv_at hl 1 rfl) ?_
        refine va_get (D := G) (ci := 5) (v := .ref qmt) (C := RX6) (T := TX6) (N := 35) hx hb hts iX_X6 hown hK hP 0 rfl rfl 7 (by decide +kernel) (hts _ m_t857) (fun _ h9 => h9) rfl (g_180 (v := 34) bX6_feed rfl) ?_
        refine lv_aload_n hx hb (g_42 bX6_feed rfl) rfl (lv_at hl 1 rfl) ?_
        refine lv_dup hx hb (g_89 bX6_feed rfl) rfl ?_
        refine va_get (D := G) (ci := 5) (v := .int (nI kZ)) (C := RX6) (T := TX6) (N := 35) hx hb hts iX_X6 hown hK hP 0 rfl rfl 8 (by decide +kernel) (hts _ m_t858) (fun _ h9 => h9) rfl (g_180 (v := 141) bX6_feed rfl) ?_
        refine lv_dup_x1 hx hb (g_90 bX6_feed rfl) rfl rfl ?_
        refine lv_iconst (v := 1) hx hb (g_4 bX6_feed rfl) (by decide +kernel) ?_
        refine lv_iadd hx hb (g_96 bX6_feed rfl) ?_
        refine lv_seti (v := nI (kZ + 1)) (nI_1 _) ?_
        refine va_put (D := G) (ci := 5) (v := .int (nI (kZ + 1))) (ty := .int) (C := RX6) (T := TX6) (N := 35) hx hb hts iX_X6 tyX6 tyX6_ok nmX6 hown hK hP hD hS 0 rfl rfl 8 (by decide +kernel) (hts _ m_t858) (fun _ h9 => h9) rfl (by decide +kernel) rfl rfl (Nat.le_of_ble_eq_true rfl) (g_181 (v := 141) bX6_feed rfl) (fun H locs => ?_)
        clear hP hD hS
        intro hP hD hS
        have hPD := pd_as [_, _, _] hP hD rfl
        clear hP hD
        obtain ⟨hP, hD⟩ := hPD
        refine lv_iload_n hx hb (g_27 bX6_feed rfl) rfl (lv_at hl 2 rfl) ?_
        refine lv_bipush (v := 8) hx hb dX6_feed_62 (by decide +kernel) ?_
        refine lv_iload_n hx hb (g_29 bX6_feed rfl) rfl (lv_at hl 0 rfl) ?_
        refine lv_imul hx hb (g_104 bX6_feed rfl) ?_
        refine lv_seti (v := 16) (by decide +kernel) ?_
        refine lv_ishr hx hb (g_122 bX6_feed rfl) ?_
        refine lv_sipush (v := 255) hx hb dX6_feed_67 (by decide +kernel) ?_
        refine lv_iand hx hb (g_126 bX6_feed rfl) ?_
        refine va_iast hx hb hK hP hD hS 1 0 rfl rfl (vp_in_nI (by omega) (by omega)) (g_79 bX6_feed rfl) (fun H locs => ?_)
        clear hP hD hS
        intro hP hD hS
        rw [nI_clamp (n := kZ) (by omega)] at hP hD
        have hPD := pd_as [_, zzI cy qmt 250 (upd fMt kZ ((iA >>> (16 &&& 31)) &&& 255)), _] hP hD rfl
        clear hP hD
        obtain ⟨hP, hD⟩ := hPD
        refine lv_iinc (v := 1) (lv' := [(3, .int 1), (0, .ref qm), (1, .int iA), (2, .int 3)]) hx hb dX6_feed_72 hl (k := 0) rfl (by decide +kernel) (by decide +kernel) rfl (fun ls => ?_)
        clear hl
        intro hl
        refine lv_goto (tgt := 42) hx hb dX6_feed_75 (by decide +kernel) ?_
        refine lv_iload_n hx hb (g_29 bX6_feed rfl) rfl (lv_at hl 0 rfl) ?_
        refine lv_if_lt (tgt := 78) hx hb dX6_feed_43 (by decide +kernel) (fun h9 => absurd h9 (by decide +kernel)) (fun _ => ?_)
        refine lv_aload_n hx hb (g_42 bX6_feed rfl) rfl (lv_at hl 1 rfl) ?_
        refine va_get (D := G) (ci := 5) (v := .ref qmt) (C := RX6) (T := TX6) (N := 35) hx hb hts iX_X6 hown hK hP 0 rfl rfl 7 (by decide +kernel) (hts _ m_t857) (fun _ h9 => h9) rfl (g_180 (v := 34) bX6_feed rfl) ?_
        refine lv_aload_n hx hb (g_42 bX6_feed rfl) rfl (lv_at hl 1 rfl) ?_
        refine lv_dup hx hb (g_89 bX6_feed rfl) rfl ?_
        refine va_get (D := G) (ci := 5) (v := .int (nI (kZ + 1))) (C := RX6) (T := TX6) (N := 35) hx hb hts iX_X6 hown hK hP 0 rfl rfl 8 (by decide +kernel) (hts _ m_t858) (fun _ h9 => h9) rfl (g_180 (v := 141) bX6_feed rfl) ?_
        refine lv_dup_x1 hx hb (g_90 bX6_feed rfl) rfl rfl ?_
        refine lv_iconst (v := 1) hx hb (g_4 bX6_feed rfl) (by decide +kernel) ?_
        refine lv_iadd hx hb (g_96 bX6_feed rfl) ?_
        refine lv_seti (v := nI ((kZ + 1) + 1)) (nI_1 _) ?_
        refine va_put (D := G) (ci := 5) (v := .int (nI ((kZ + 1) + 1))) (ty := .int) (C := RX6) (T := TX6) (N := 35) hx hb hts iX_X6 tyX6 tyX6_ok nmX6 hown hK hP hD hS 0 rfl rfl 8 (by decide +kernel) (hts _ m_t858) (fun _ h9 => h9) rfl (by decide +kernel) rfl rfl (Nat.le_of_ble_eq_true rfl) (g_181 (v := 141) bX6_feed rfl) (fun H locs => ?_)
        clear hP hD hS
        intro hP hD hS
        have hPD := pd_as [_, _, _] hP hD rfl
        clear hP hD
        obtain ⟨hP, hD⟩ := hPD
        refine lv_iload_n hx hb (g_27 bX6_feed rfl) rfl (lv_at hl 2 rfl) ?_
        refine lv_bipush (v := 8) hx hb dX6_feed_62 (by decide +kernel) ?_
        refine lv_iload_n hx hb (g_29 bX6_feed rfl) rfl (lv_at hl 0 rfl) ?_
        refine lv_imul hx hb (g_104 bX6_feed rfl) ?_
        refine lv_seti (v := 8) (by decide +kernel) ?_
        refine lv_ishr hx hb (g_122 bX6_feed rfl) ?_
        refine lv_sipush (v := 255) hx hb dX6_feed_67 (by decide +kernel) ?_
        refine lv_iand hx hb (g_126 bX6_feed rfl) ?_
        refine va_iast hx hb hK hP hD hS 1 0 rfl rfl (vp_in_nI (by omega) (by omega)) (g_79 bX6_feed rfl) (fun H locs => ?_)
        clear hP hD hS
        intro hP hD hS
        rw [nI_clamp (n := (kZ + 1)) (by omega)] at hP hD
        have hPD := pd_as [_, zzI cy qmt 250 (upd (upd fMt kZ ((iA >>> (16 &&& 31)) &&& 255)) (kZ + 1) ((iA >>> (8 &&& 31)) &&& 255)), _] hP hD rfl
        clear hP hD
        obtain ⟨hP, hD⟩ := hPD
        refine lv_iinc (v := 0) (lv' := [(3, .int 0), (0, .ref qm), (1, .int iA), (2, .int 3)]) hx hb dX6_feed_72 hl (k := 0) rfl (by decide +kernel) (by decide +kernel) rfl (fun ls => ?_)
        clear hl
        intro hl
        refine lv_goto (tgt := 42) hx hb dX6_feed_75 (by decide +kernel) ?_
        refine lv_iload_n hx hb (g_29 bX6_feed rfl) rfl (lv_at hl 0 rfl) ?_
        refine lv_if_lt (tgt := 78) hx hb dX6_feed_43 (by decide +kernel) (fun h9 => absurd h9 (by decide +kernel)) (fun _ => ?_)
        refine lv_aload_n hx hb (g_42 bX6_feed rfl) rfl (lv_at hl 1 rfl) ?_
        refine va_get (D := G) (ci := 5) (v := .ref qmt) (C := RX6) (T := TX6) (N := 35) hx hb hts iX_X6 hown hK hP 0 rfl rfl 7 (by decide +kernel) (hts _ m_t857) (fun _ h9 => h9) rfl (g_180 (v := 34) bX6_feed rfl) ?_
        refine lv_aload_n hx hb (g_42 bX6_feed rfl) rfl (lv_at hl 1 rfl) ?_
        refine lv_dup hx hb (g_89 bX6_feed rfl) rfl ?_
        refine va_get (D := G) (ci := 5) (v := .int (nI ((kZ + 1) + 1))) (C := RX6) (T := TX6) (N := 35) hx hb hts iX_X6 hown hK hP 0 rfl rfl 8 (by decide +kernel) (hts _ m_t858) (fun _ h9 => h9) rfl (g_180 (v := 141) bX6_feed rfl) ?_
        refine lv_dup_x1 hx hb (g_90 bX6_feed rfl) rfl rfl ?_
        refine lv_iconst (v := 1) hx hb (g_4 bX6_feed rfl) (by decide +kernel) ?_
        refine lv_iadd hx hb (g_96 bX6_feed rfl) ?_
        refine lv_seti (v := nI (((kZ + 1) + 1) + 1)) (nI_1 _) ?_
        refine va_put (D := G) (ci := 5) (v := .int (nI (((kZ + 1) + 1) + 1))) (ty := .int) (C := RX6) (T := TX6) (N := 35) hx hb hts iX_X6 tyX6 tyX6_ok nmX6 hown hK hP hD hS 0 rfl rfl 8 (by decide +kernel) (hts _ m_t858) (fun _ h9 => h9) rfl (by decide +kernel) rfl rfl (Nat.le_of_ble_eq_true rfl) (g_181 (v := 141) bX6_feed rfl) (fun H locs => ?_)
        clear hP hD hS
        intro hP hD hS
        have hPD := pd_as [zzO qm 5 (.ref qmh :: .ref qmo :: .ref qmz :: .ref qmR :: .ref qmv :: .ref qmk :: .ref qma :: .ref qmt :: .int (nI (((kZ + 1) + 1) + 1)) :: .ref qmr :: .int (nI (T_nb tA)) :: .ref qmB :: .int (nI (T_np tA)) :: .ref qmO :: .ref qmK :: .int iEn :: .int iTk :: .int (T_sd tA) :: ov uP :: ov uU :: .int (nI kAt) :: .int iTo :: .int iFr :: .long JFi :: .int iFa :: .ref qm3 :: .int iSt :: .int iLv :: .int iWs :: vLa :: .ref qmu :: .ref qmy :: .ref qmb :: .ref qms :: .int iOm :: []), _, _] hP hD rfl
        clear hP hD
        obtain ⟨hP, hD⟩ := hPD
        refine lv_iload_n hx hb (g_27 bX6_feed rfl) rfl (lv_at hl 2 rfl) ?_
        refine lv_bipush (v := 8) hx hb dX6_feed_62 (by decide +kernel) ?_
        refine lv_iload_n hx hb (g_29 bX6_feed rfl) rfl (lv_at hl 0 rfl) ?_
        refine lv_imul hx hb (g_104 bX6_feed rfl) ?_
        refine lv_seti (v := 0) (by decide +kernel) ?_
        refine lv_ishr hx hb (g_122 bX6_feed rfl) ?_
        refine lv_sipush (v := 255) hx hb dX6_feed_67 (by decide +kernel) ?_
        refine lv_iand hx hb (g_126 bX6_feed rfl) ?_
        refine va_iast hx hb hK hP hD hS 1 0 rfl rfl (vp_in_nI (by omega) (by omega)) (g_79 bX6_feed rfl) (fun H locs => ?_)
        clear hP hD hS
        intro hP hD hS
        rw [nI_clamp (n := ((kZ + 1) + 1)) (by omega)] at hP hD
        have hPD := pd_as [_, zzI cy qmt 250 (upd (upd (upd fMt kZ ((iA >>> (16 &&& 31)) &&& 255)) (kZ + 1) ((iA >>> (8 &&& 31)) &&& 255)) ((kZ + 1) + 1) ((iA >>> (0 &&& 31)) &&& 255)), _] hP hD rfl
        clear hP hD
        obtain ⟨hP, hD⟩ := hPD
        refine lv_iinc (v := (-1)) (lv' := [(3, .int (-1)), (0, .ref qm), (1, .int iA), (2, .int 3)]) hx hb dX6_feed_72 hl (k := 0) rfl (by decide +kernel) (by decide +kernel) rfl (fun ls => ?_)
        clear hl
        intro hl
        refine lv_goto (tgt := 42) hx hb dX6_feed_75 (by decide +kernel) ?_
        refine lv_iload_n hx hb (g_29 bX6_feed rfl) rfl (lv_at hl 0 rfl) ?_
        refine lv_if_lt (tgt := 78) hx hb dX6_feed_43 (by decide +kernel) (fun _ => ?_) (fun h9 => absurd (by decide +kernel) h9)
        refine lv_aload_n hx hb (g_42 bX6_feed rfl) rfl (lv_at hl 1 rfl) ?_
        refine va_get (D := G) (ci := 5) (v := .int (nI (((kZ + 1) + 1) + 1))) (C := RX6) (T := TX6) (N := 35) hx hb hts iX_X6 hown hK hP 0 rfl rfl 8 (by decide +kernel) (hts _ m_t858) (fun _ h9 => h9) rfl (g_180 (v := 141) bX6_feed rfl) ?_
        exact endWs [[true, true, true]] hx hb hr hlocks rfl hP hD rfl (by decide +kernel) hS ⟨(((kZ + 1) + 1) + 1), (upd (upd (upd fMt kZ ((iA >>> (16 &&& 31)) &&& 255)) (kZ + 1) ((iA >>> (8 &&& 31)) &&& 255)) ((kZ + 1) + 1) ((iA >>> (0 &&& 31)) &&& 255)), fMr, rfl, ⟨Or.inr ⟨3, by omega, by omega, rfl, Or.inr ⟨rfl, fm_yes (k := 3) (by omega) (by omega) c_20, rfl⟩⟩, Or.inr ⟨3, by omega, by omega, rfl, rfl, fd_s3 rfl rfl rfl⟩⟩, trivial⟩ (g_172 bX6_feed rfl)
      · refine lv_aload_n hx hb (g_42 bX6_feed rfl) rfl (lv_at hl 0 rfl) ?_
        refine lv_bipush (v := (-6)) hx hb dX6_feed_32 (by decide +kernel) ?_
        refine cVi (As := [.int (-6)]) (rest := []) (b := qm) (q := (RX6, TX6, 35)) ⟨hx, hb, hml, hown, hts⟩ (c_X6_refuse6 l G cy (s.heap).size qm (.ref qmh) (.ref qmo) (.ref qmz) (.ref qmR) (.ref qmv) (.ref qmk) (.ref qma) (.ref qmt) (.int (nI kZ)) qmr tA qmB qmO qmK iEn iTk (ov uP) (ov uU) (.int (nI kAt)) (.int iTo) (.int iFr) (.long JFi) (.int iFa) (.ref qm3) (.int iSt) iLv iWs vLa (.ref qmu) (.ref qmy) (.ref qmb) (.ref qms) (.int iOm) fMr) L_X6_91 hN hP hD hS hA [0, 2] [false, true, false] rfl (by decide +kernel) rfl 0 5 rfl rfl rfl ⟨Nat.le_of_ble_eq_true rfl, Nat.le_of_ble_eq_true rfl⟩ hl.1 (Nat.le_of_ble_eq_true rfl) (g_182 (v := 91) bX6_feed rfl) ⟨Nat.le_of_ble_eq_true rfl, Nat.le_of_ble_eq_true rfl⟩ (fun r_25 u_27 H locs h_26 => ?_)
        clear hP hD hS
        intro hP hD hS
        obtain ⟨fX_28, hu9, h_26⟩ := h_26
        have hPD := pd_eq [_, _, zzI cy qmr 8 fX_28] hP hD hu9 rfl
        clear hP hD hu9
        obtain ⟨hP, hD⟩ := hPD
        subst h_26
        exact endWs [[false, true], [true, false, true]] hx hb hr hlocks rfl hP hD rfl (by decide +kernel) hS ⟨kZ, fMt, fX_28, rfl, ⟨Or.inr ⟨3, by omega, by omega, rfl, Or.inl ⟨rfl, fm_no (k := 3) (by omega) (by omega) c_20, rfl⟩⟩, Or.inl ⟨rfl, rfl⟩⟩, trivial⟩ (g_172 bX6_feed rfl)
    · refine lv_iload_n hx hb (g_28 bX6_feed rfl) rfl (lv_at hl 2 rfl) ?_
      refine lv_sipush (v := 250) hx hb dX6_feed_20 (by decide +kernel) ?_
      refine lv_aload_n hx hb (g_42 bX6_feed rfl) rfl (lv_at hl 0 rfl) ?_
      refine va_get (D := G) (ci := 5) (v := .int (nI kZ)) (C := RX6) (T := TX6) (N := 35) hx hb hts iX_X6 hown hK hP 0 rfl rfl 8 (by decide +kernel) (hts _ m_t858) (fun _ h9 => h9) rfl (g_180 (v := 141) bX6_feed rfl) ?_
      refine lv_isub hx hb (g_100 bX6_feed rfl) ?_
      refine lv_icmp_le (tgt := 38) hx hb dX6_feed_28 (by decide +kernel) (fun c_29 => ?_) (fun c_29 => ?_)
      · have hfd : kZ + 4 ≤ 250 := fm_yes (k := 4) (by omega) (by omega) c_29
        refine lv_iload_n hx hb (g_28 bX6_feed rfl) rfl (lv_at hl 2 rfl) ?_
        refine lv_iconst (v := 1) hx hb (g_4 bX6_feed rfl) (by decide +kernel) ?_
        refine lv_isub hx hb (g_100 bX6_feed rfl) ?_
        refine lv_seti (v := 3) (by decide +kernel) ?_
        refine lv_istore_n (lv' := [(3, .int 3), (0, .ref qm), (1, .int iA), (2, .int 4)]) hx hb (g_62 bX6_feed rfl) rfl hl (by decide +kernel) rfl (fun ls => ?_)
        clear hl
        intro hl
        refine lv_iload_n hx hb (g_29 bX6_feed rfl) rfl (lv_at hl 0 rfl) ?_
        refine lv_if_lt (tgt := 78) hx hb dX6_feed_43 (by decide +kernel) (fun h9 => absurd h9 (by decide +kernel)) (fun _ => ?_)
        refine lv_aload_n hx hb (g_42 bX6_feed rfl) rfl (lv_at hl 1 rfl) ?_
        refine va_get (D := G) (ci := 5) (v := .ref qmt) (C := RX6) (T := TX6) (N := 35) hx hb hts iX_X6 hown hK hP 0 rfl rfl 7 (by decide +kernel) (hts _ m_t857) (fun _ h9 => h9) rfl (g_180 (v := 34) bX6_feed rfl) ?_
        refine lv_aload_n hx hb (g_42 bX6_feed rfl) rfl (lv_at hl 1 rfl) ?_
        refine lv_dup hx hb (g_89 bX6_feed rfl) rfl ?_
        refine va_get (D := G) (ci := 5) (v := .int (nI kZ)) (C := RX6) (T := TX6) (N := 35) hx hb hts iX_X6 hown hK hP 0 rfl rfl 8 (by decide +kernel) (hts _ m_t858) (fun _ h9 => h9) rfl (g_180 (v := 141) bX6_feed rfl) ?_
        refine lv_dup_x1 hx hb (g_90 bX6_feed rfl) rfl rfl ?_
        refine lv_iconst (v := 1) hx hb (g_4 bX6_feed rfl) (by decide +kernel) ?_
        refine lv_iadd hx hb (g_96 bX6_feed rfl) ?_
        refine lv_seti (v := nI (kZ + 1)) (nI_1 _) ?_
        refine va_put (D := G) (ci := 5) (v := .int (nI (kZ + 1))) (ty := .int) (C := RX6) (T := TX6) (N := 35) hx hb hts iX_X6 tyX6 tyX6_ok nmX6 hown hK hP hD hS 0 rfl rfl 8 (by decide +kernel) (hts _ m_t858) (fun _ h9 => h9) rfl (by decide +kernel) rfl rfl (Nat.le_of_ble_eq_true rfl) (g_181 (v := 141) bX6_feed rfl) (fun H locs => ?_)
        clear hP hD hS
        intro hP hD hS
        have hPD := pd_as [_, _, _] hP hD rfl
        clear hP hD
        obtain ⟨hP, hD⟩ := hPD
        refine lv_iload_n hx hb (g_27 bX6_feed rfl) rfl (lv_at hl 2 rfl) ?_
        refine lv_bipush (v := 8) hx hb dX6_feed_62 (by decide +kernel) ?_
        refine lv_iload_n hx hb (g_29 bX6_feed rfl) rfl (lv_at hl 0 rfl) ?_
        refine lv_imul hx hb (g_104 bX6_feed rfl) ?_
        refine lv_seti (v := 24) (by decide +kernel) ?_
        refine lv_ishr hx hb (g_122 bX6_feed rfl) ?_
        refine lv_sipush (v := 255) hx hb dX6_feed_67 (by decide +kernel) ?_
        refine lv_iand hx hb (g_126 bX6_feed rfl) ?_
        refine va_iast hx hb hK hP hD hS 1 0 rfl rfl (vp_in_nI (by omega) (by omega)) (g_79 bX6_feed rfl) (fun H locs => ?_)
        clear hP hD hS
        intro hP hD hS
        rw [nI_clamp (n := kZ) (by omega)] at hP hD
        have hPD := pd_as [_, zzI cy qmt 250 (upd fMt kZ ((iA >>> (24 &&& 31)) &&& 255)), _] hP hD rfl
        clear hP hD
        obtain ⟨hP, hD⟩ := hPD
        refine lv_iinc (v := 2) (lv' := [(3, .int 2), (0, .ref qm), (1, .int iA), (2, .int 4)]) hx hb dX6_feed_72 hl (k := 0) rfl (by decide +kernel) (by decide +kernel) rfl (fun ls => ?_)
        clear hl
        intro hl
        refine lv_goto (tgt := 42) hx hb dX6_feed_75 (by decide +kernel) ?_
        refine lv_iload_n hx hb (g_29 bX6_feed rfl) rfl (lv_at hl 0 rfl) ?_
        refine lv_if_lt (tgt := 78) hx hb dX6_feed_43 (by decide +kernel) (fun h9 => absurd h9 (by decide +kernel)) (fun _ => ?_)
        refine lv_aload_n hx hb (g_42 bX6_feed rfl) rfl (lv_at hl 1 rfl) ?_
        refine va_get (D := G) (ci := 5) (v := .ref qmt) (C := RX6) (T := TX6) (N := 35) hx hb hts iX_X6 hown hK hP 0 rfl rfl 7 (by decide +kernel) (hts _ m_t857) (fun _ h9 => h9) rfl (g_180 (v := 34) bX6_feed rfl) ?_
        refine lv_aload_n hx hb (g_42 bX6_feed rfl) rfl (lv_at hl 1 rfl) ?_
        refine lv_dup hx hb (g_89 bX6_feed rfl) rfl ?_
        refine va_get (D := G) (ci := 5) (v := .int (nI (kZ + 1))) (C := RX6) (T := TX6) (N := 35) hx hb hts iX_X6 hown hK hP 0 rfl rfl 8 (by decide +kernel) (hts _ m_t858) (fun _ h9 => h9) rfl (g_180 (v := 141) bX6_feed rfl) ?_
        refine lv_dup_x1 hx hb (g_90 bX6_feed rfl) rfl rfl ?_
        refine lv_iconst (v := 1) hx hb (g_4 bX6_feed rfl) (by decide +kernel) ?_
        refine lv_iadd hx hb (g_96 bX6_feed rfl) ?_
        refine lv_seti (v := nI ((kZ + 1) + 1)) (nI_1 _) ?_
        refine va_put (D := G) (ci := 5) (v := .int (nI ((kZ + 1) + 1))) (ty := .int) (C := RX6) (T := TX6) (N := 35) hx hb hts iX_X6 tyX6 tyX6_ok nmX6 hown hK hP hD hS 0 rfl rfl 8 (by decide +kernel) (hts _ m_t858) (fun _ h9 => h9) rfl (by decide +kernel) rfl rfl (Nat.le_of_ble_eq_true rfl) (g_181 (v := 141) bX6_feed rfl) (fun H locs => ?_)
        clear hP hD hS
        intro hP hD hS
        have hPD := pd_as [_, _, _] hP hD rfl
        clear hP hD
        obtain ⟨hP, hD⟩ := hPD
        refine lv_iload_n hx hb (g_27 bX6_feed rfl) rfl (lv_at hl 2 rfl) ?_
        refine lv_bipush (v := 8) hx hb dX6_feed_62 (by decide +kernel) ?_
        refine lv_iload_n hx hb (g_29 bX6_feed rfl) rfl (lv_at hl 0 rfl) ?_
        refine lv_imul hx hb (g_104 bX6_feed rfl) ?_
        refine lv_seti (v := 16) (by decide +kernel) ?_
        refine lv_ishr hx hb (g_122 bX6_feed rfl) ?_
        refine lv_sipush (v := 255) hx hb dX6_feed_67 (by decide +kernel) ?_
        refine lv_iand hx hb (g_126 bX6_feed rfl) ?_
        refine va_iast hx hb hK hP hD hS 1 0 rfl rfl (vp_in_nI (by omega) (by omega)) (g_79 bX6_feed rfl) (fun H locs => ?_)
        clear hP hD hS
        intro hP hD hS
        rw [nI_clamp (n := (kZ + 1)) (by omega)] at hP hD
        have hPD := pd_as [_, zzI cy qmt 250 (upd (upd fMt kZ ((iA >>> (24 &&& 31)) &&& 255)) (kZ + 1) ((iA >>> (16 &&& 31)) &&& 255)), _] hP hD rfl
        clear hP hD
        obtain ⟨hP, hD⟩ := hPD
        refine lv_iinc (v := 1) (lv' := [(3, .int 1), (0, .ref qm), (1, .int iA), (2, .int 4)]) hx hb dX6_feed_72 hl (k := 0) rfl (by decide +kernel) (by decide +kernel) rfl (fun ls => ?_)
        clear hl
        intro hl
        refine lv_goto (tgt := 42) hx hb dX6_feed_75 (by decide +kernel) ?_
        refine lv_iload_n hx hb (g_29 bX6_feed rfl) rfl (lv_at hl 0 rfl) ?_
        refine lv_if_lt (tgt := 78) hx hb dX6_feed_43 (by decide +kernel) (fun h9 => absurd h9 (by decide +kernel)) (fun _ => ?_)
        refine lv_aload_n hx hb (g_42 bX6_feed rfl) rfl (lv_at hl 1 rfl) ?_
        refine va_get (D := G) (ci := 5) (v := .ref qmt) (C := RX6) (T := TX6) (N := 35) hx hb hts iX_X6 hown hK hP 0 rfl rfl 7 (by decide +kernel) (hts _ m_t857) (fun _ h9 => h9) rfl (g_180 (v := 34) bX6_feed rfl) ?_
        refine lv_aload_n hx hb (g_42 bX6_feed rfl) rfl (lv_at hl 1 rfl) ?_
        refine lv_dup hx hb (g_89 bX6_feed rfl) rfl ?_
        refine va_get (D := G) (ci := 5) (v := .int (nI ((kZ + 1) + 1))) (C := RX6) (T := TX6) (N := 35) hx hb hts iX_X6 hown hK hP 0 rfl rfl 8 (by decide +kernel) (hts _ m_t858) (fun _ h9 => h9) rfl (g_180 (v := 141) bX6_feed rfl) ?_
        refine lv_dup_x1 hx hb (g_90 bX6_feed rfl) rfl rfl ?_
        refine lv_iconst (v := 1) hx hb (g_4 bX6_feed rfl) (by decide +kernel) ?_
        refine lv_iadd hx hb (g_96 bX6_feed rfl) ?_
        refine lv_seti (v := nI (((kZ + 1) + 1) + 1)) (nI_1 _) ?_
        refine va_put (D := G) (ci := 5) (v := .int (nI (((kZ + 1) + 1) + 1))) (ty := .int) (C := RX6) (T := TX6) (N := 35) hx hb hts iX_X6 tyX6 tyX6_ok nmX6 hown hK hP hD hS 0 rfl rfl 8 (by decide +kernel) (hts _ m_t858) (fun _ h9 => h9) rfl (by decide +kernel) rfl rfl (Nat.le_of_ble_eq_true rfl) (g_181 (v := 141) bX6_feed rfl) (fun H locs => ?_)
        clear hP hD hS
        intro hP hD hS
        have hPD := pd_as [_, _, _] hP hD rfl
        clear hP hD
        obtain ⟨hP, hD⟩ := hPD
        refine lv_iload_n hx hb (g_27 bX6_feed rfl) rfl (lv_at hl 2 rfl) ?_
        refine lv_bipush (v := 8) hx hb dX6_feed_62 (by decide +kernel) ?_
        refine lv_iload_n hx hb (g_29 bX6_feed rfl) rfl (lv_at hl 0 rfl) ?_
        refine lv_imul hx hb (g_104 bX6_feed rfl) ?_
        refine lv_seti (v := 8) (by decide +kernel) ?_
        refine lv_ishr hx hb (g_122 bX6_feed rfl) ?_
        refine lv_sipush (v := 255) hx hb dX6_feed_67 (by decide +kernel) ?_
        refine lv_iand hx hb (g_126 bX6_feed rfl) ?_
        refine va_iast hx hb hK hP hD hS 1 0 rfl rfl (vp_in_nI (by omega) (by omega)) (g_79 bX6_feed rfl) (fun H locs => ?_)
        clear hP hD hS
        intro hP hD hS
        rw [nI_clamp (n := ((kZ + 1) + 1)) (by omega)] at hP hD
        have hPD := pd_as [_, zzI cy qmt 250 (upd (upd (upd fMt kZ ((iA >>> (24 &&& 31)) &&& 255)) (kZ + 1) ((iA >>> (16 &&& 31)) &&& 255)) ((kZ + 1) + 1) ((iA >>> (8 &&& 31)) &&& 255)), _] hP hD rfl
        clear hP hD
        obtain ⟨hP, hD⟩ := hPD
        refine lv_iinc (v := 0) (lv' := [(3, .int 0), (0, .ref qm), (1, .int iA), (2, .int 4)]) hx hb dX6_feed_72 hl (k := 0) rfl (by decide +kernel) (by decide +kernel) rfl (fun ls => ?_)
        clear hl
        intro hl
        refine lv_goto (tgt := 42) hx hb dX6_feed_75 (by decide +kernel) ?_
        refine lv_iload_n hx hb (g_29 bX6_feed rfl) rfl (lv_at hl 0 rfl) ?_
        refine lv_if_lt (tgt := 78) hx hb dX6_feed_43 (by decide +kernel) (fun h9 => absurd h9 (by decide +kernel)) (fun _ => ?_)
        refine lv_aload_n hx hb (g_42 bX6_feed rfl) rfl (lv_at hl 1 rfl) ?_
        refine va_get (D := G) (ci := 5) (v := .ref qmt) (C := RX6) (T := TX6) (N := 35) hx hb hts iX_X6 hown hK hP 0 rfl rfl 7 (by decide +kernel) (hts _ m_t857) (fun _ h9 => h9) rfl (g_180 (v := 34) bX6_feed rfl) ?_
        refine lv_aload_n hx hb (g_42 bX6_feed rfl) rfl (lv_at hl 1 rfl) ?_
        refine lv_dup hx hb (g_89 bX6_feed rfl) rfl ?_
        refine va_get (D := G) (ci := 5) (v := .int (nI (((kZ + 1) + 1) + 1))) (C := RX6) (T := TX6) (N := 35) hx hb hts iX_X6 hown hK hP 0 rfl rfl 8 (by decide +kernel) (hts _ m_t858) (fun _ h9 => h9) rfl (g_180 (v := 141) bX6_feed rfl) ?_
        refine lv_dup_x1 hx hb (g_90 bX6_feed rfl) rfl rfl ?_
        refine lv_iconst (v := 1) hx hb (g_4 bX6_feed rfl) (by decide +kernel) ?_
        refine lv_iadd hx hb (g_96 bX6_feed rfl) ?_
        refine lv_seti (v := nI ((((kZ + 1) + 1) + 1) + 1)) (nI_1 _) ?_
        refine va_put (D := G) (ci := 5) (v := .int (nI ((((kZ + 1) + 1) + 1) + 1))) (ty := .int) (C := RX6) (T := TX6) (N := 35) hx hb hts iX_X6 tyX6 tyX6_ok nmX6 hown hK hP hD hS 0 rfl rfl 8 (by decide +kernel) (hts _ m_t858) (fun _ h9 => h9) rfl (by decide +kernel) rfl rfl (Nat.le_of_ble_eq_true rfl) (g_181 (v := 141) bX6_feed rfl) (fun H locs => ?_)
        clear hP hD hS
        intro hP hD hS
        have hPD := pd_as [zzO qm 5 (.ref qmh :: .ref qmo :: .ref qmz :: .ref qmR :: .ref qmv :: .ref qmk :: .ref qma :: .ref qmt :: .int (nI ((((kZ + 1) + 1) + 1) + 1)) :: .ref qmr :: .int (nI (T_nb tA)) :: .ref qmB :: .int (nI (T_np tA)) :: .ref qmO :: .ref qmK :: .int iEn :: .int iTk :: .int (T_sd tA) :: ov uP :: ov uU :: .int (nI kAt) :: .int iTo :: .int iFr :: .long JFi :: .int iFa :: .ref qm3 :: .int iSt :: .int iLv :: .int iWs :: vLa :: .ref qmu :: .ref qmy :: .ref qmb :: .ref qms :: .int iOm :: []), _, _] hP hD rfl
        clear hP hD
        obtain ⟨hP, hD⟩ := hPD
        refine lv_iload_n hx hb (g_27 bX6_feed rfl) rfl (lv_at hl 2 rfl) ?_
        refine lv_bipush (v := 8) hx hb dX6_feed_62 (by decide +kernel) ?_
        refine lv_iload_n hx hb (g_29 bX6_feed rfl) rfl (lv_at hl 0 rfl) ?_
        refine lv_imul hx hb (g_104 bX6_feed rfl) ?_
        refine lv_seti (v := 0) (by decide +kernel) ?_
        refine lv_ishr hx hb (g_122 bX6_feed rfl) ?_
        refine lv_sipush (v := 255) hx hb dX6_feed_67 (by decide +kernel) ?_
        refine lv_iand hx hb (g_126 bX6_feed rfl) ?_
        refine va_iast hx hb hK hP hD hS 1 0 rfl rfl (vp_in_nI (by omega) (by omega)) (g_79 bX6_feed rfl) (fun H locs => ?_)
        clear hP hD hS
        intro hP hD hS
        rw [nI_clamp (n := (((kZ + 1) + 1) + 1)) (by omega)] at hP hD
        have hPD := pd_as [_, zzI cy qmt 250 (upd (upd (upd (upd fMt kZ ((iA >>> (24 &&& 31)) &&& 255)) (kZ + 1) ((iA >>> (16 &&& 31)) &&& 255)) ((kZ + 1) + 1) ((iA >>> (8 &&& 31)) &&& 255)) (((kZ + 1) + 1) + 1) ((iA >>> (0 &&& 31)) &&& 255)), _] hP hD rfl
        clear hP hD
        obtain ⟨hP, hD⟩ := hPD
        refine lv_iinc (v := (-1)) (lv' := [(3, .int (-1)), (0, .ref qm), (1, .int iA), (2, .int 4)]) hx hb dX6_feed_72 hl (k := 0) rfl (by decide +kernel) (by decide +kernel) rfl (fun ls => ?_)
        clear hl
        intro hl
        refine lv_goto (tgt := 42) hx hb dX6_feed_75 (by decide +kernel) ?_
        refine lv_iload_n hx hb (g_29 bX6_feed rfl) rfl (lv_at hl 0 rfl) ?_
        refine lv_if_lt (tgt := 78) hx hb dX6_feed_43 (by decide +kernel) (fun _ => ?_) (fun h9 => absurd (by decide +kernel) h9)
        refine lv_aload_n hx hb (g_42 bX6_feed rfl) rfl (lv_at hl 1 rfl) ?_
        refine va_get (D := G) (ci := 5) (v := .int (nI ((((kZ + 1) + 1) + 1) + 1))) (C := RX6) (T := TX6) (N := 35) hx hb hts iX_X6 hown hK hP 0 rfl rfl 8 (by decide +kernel) (hts _ m_t858) (fun _ h9 => h9) rfl (g_180 (v := 141) bX6_feed rfl) ?_
        exact endWs [[true, true, true]] hx hb hr hlocks rfl hP hD rfl (by decide +kernel) hS ⟨((((kZ + 1) + 1) + 1) + 1), (upd (upd (upd (upd fMt kZ ((iA >>> (24 &&& 31)) &&& 255)) (kZ + 1) ((iA >>> (16 &&& 31)) &&& 255)) ((kZ + 1) + 1) ((iA >>> (8 &&& 31)) &&& 255)) (((kZ + 1) + 1) + 1) ((iA >>> (0 &&& 31)) &&& 255)), fMr, rfl, ⟨Or.inr ⟨4, by omega, by omega, rfl, Or.inr ⟨rfl, fm_yes (k := 4) (by omega) (by omega) c_29, rfl⟩⟩, Or.inr ⟨4, by omega, by omega, rfl, rfl, fd_s4 rfl rfl rfl rfl⟩⟩, trivial⟩ (g_172 bX6_feed rfl)
      · refine lv_aload_n hx hb (g_42 bX6_feed rfl) rfl (lv_at hl 0 rfl) ?_
        refine lv_bipush (v := (-6)) hx hb dX6_feed_32 (by decide +kernel) ?_
        refine cVi (As := [.int (-6)]) (rest := []) (b := qm) (q := (RX6, TX6, 35)) ⟨hx, hb, hml, hown, hts⟩ (c_X6_refuse6 l G cy (s.heap).size qm (.ref qmh) (.ref qmo) (.ref qmz) (.ref qmR) (.ref qmv) (.ref qmk) (.ref qma) (.ref qmt) (.int (nI kZ)) qmr tA qmB qmO qmK iEn iTk (ov uP) (ov uU) (.int (nI kAt)) (.int iTo) (.int iFr) (.long JFi) (.int iFa) (.ref qm3) (.int iSt) iLv iWs vLa (.ref qmu) (.ref qmy) (.ref qmb) (.ref qms) (.int iOm) fMr) L_X6_91 hN hP hD hS hA [0, 2] [false, true, false] rfl (by decide +kernel) rfl 0 5 rfl rfl rfl ⟨Nat.le_of_ble_eq_true rfl, Nat.le_of_ble_eq_true rfl⟩ hl.1 (Nat.le_of_ble_eq_true rfl) (g_182 (v := 91) bX6_feed rfl) ⟨Nat.le_of_ble_eq_true rfl, Nat.le_of_ble_eq_true rfl⟩ (fun r_35 u_37 H locs h_36 => ?_)
        clear hP hD hS
        intro hP hD hS
        obtain ⟨fX_38, hu9, h_36⟩ := h_36
        have hPD := pd_eq [_, _, zzI cy qmr 8 fX_38] hP hD hu9 rfl
        clear hP hD hu9
        obtain ⟨hP, hD⟩ := hPD
        subst h_36
        exact endWs [[false, true], [true, false, true]] hx hb hr hlocks rfl hP hD rfl (by decide +kernel) hS ⟨kZ, fMt, fX_38, rfl, ⟨Or.inr ⟨4, by omega, by omega, rfl, Or.inl ⟨rfl, fm_no (k := 4) (by omega) (by omega) c_29, rfl⟩⟩, Or.inl ⟨rfl, rfl⟩⟩, trivial⟩ (g_172 bX6_feed rfl)
  · refine lv_if_ne (tgt := 19) hx hb dX6_feed_9 (by decide +kernel) (fun h9 => absurd (by decide +kernel) h9) (fun _ => ?_)
    refine lv_aload_n hx hb (g_42 bX6_feed rfl) rfl (lv_at hl 0 rfl) ?_
    refine lv_bipush (v := (-2)) hx hb dX6_feed_13 (by decide +kernel) ?_
    refine cVi (As := [.int (-2)]) (rest := []) (b := qm) (q := (RX6, TX6, 35)) ⟨hx, hb, hml, hown, hts⟩ (c_X6_refuse2 l G cy (s.heap).size qm (.ref qmh) (.ref qmo) (.ref qmz) (.ref qmR) (.ref qmv) (.ref qmk) (.ref qma) (.ref qmt) (.int (nI kZ)) qmr tA qmB qmO qmK iEn iTk (ov uP) (ov uU) (.int (nI kAt)) (.int iTo) (.int iFr) (.long JFi) (.int iFa) (.ref qm3) (.int iSt) iLv iWs vLa (.ref qmu) (.ref qmy) (.ref qmb) (.ref qms) (.int iOm) fMr) L_X6_91 hN hP hD hS hA [0, 2] [false, true, false] rfl (by decide +kernel) rfl 0 5 rfl rfl rfl ⟨Nat.le_of_ble_eq_true rfl, Nat.le_of_ble_eq_true rfl⟩ hl.1 (Nat.le_of_ble_eq_true rfl) (g_182 (v := 91) bX6_feed rfl) ⟨Nat.le_of_ble_eq_true rfl, Nat.le_of_ble_eq_true rfl⟩ (fun r_40 u_42 H locs h_41 => ?_)
    clear hP hD hS
    intro hP hD hS
    obtain ⟨fX_43, hu9, h_41⟩ := h_41
    have hPD := pd_eq [_, _, zzI cy qmr 8 fX_43] hP hD hu9 rfl
    clear hP hD hu9
    obtain ⟨hP, hD⟩ := hPD
    subst h_41
    exact endWs [[false, true], [true, false, true]] hx hb hr hlocks rfl hP hD rfl (by decide +kernel) hS ⟨kZ, fMt, fX_43, rfl, ⟨Or.inl ⟨rfl, h_3, rfl⟩, Or.inl ⟨rfl, rfl⟩⟩, trivial⟩ (g_172 bX6_feed rfl)
end
section
/-! what the questions answer, the same on both sides -/
noncomputable def PQt (n : Nat) (f : Nat → Nat → Int32) (a b r : Int32) : Prop := (r = -2 ∧ ¬ ((∃ k : Nat, k < n ∧ a = nI k) ∧ ∃ k : Nat, k < n ∧ b = nI k)) ∨ ∃ k m : Nat, k < n ∧ m < n ∧ a = nI k ∧ b = nI m ∧ r = f k m
theorem pqt_eq {n : Nat} {f f' : Nat → Nat → Int32} {a b r r' : Int32} (hn : n ≤ 8) (ef : f = f') (h1 : PQt n f a b r) (h2 : PQt n f' a b r') : r = r' := by
  subst ef
  rcases h1 with ⟨e1, c1⟩ | ⟨k, m, hk, hm, ek, em, e1⟩
  · rcases h2 with ⟨e2, c2⟩ | ⟨k, m, hk, hm, ek, em, e2⟩
    · exact e1.trans e2.symm
    · exact absurd ⟨⟨k, hk, ek⟩, ⟨m, hm, em⟩⟩ c1
  · rcases h2 with ⟨e2, c2⟩ | ⟨k', m', hk', hm', ek', em', e2⟩
    · exact absurd ⟨⟨k, hk, ek⟩, ⟨m, hm, em⟩⟩ c2
    · have q1 : k = k' := nI_inj (by omega) (by omega) (ek.symm.trans ek')
      have q2 : m = m' := nI_inj (by omega) (by omega) (em.symm.trans em')
      subst q1
      subst q2
      exact e1.trans e2.symm
noncomputable def twF (t : TA) (k m : Nat) : Int32 := waF t (zthere t &&& (((1 : Int32) <<< (nI k &&& 31)) ||| ((1 : Int32) <<< (nI m &&& 31))))
theorem tw_m {t : TA} {k m : Nat} (h8 : T_np t ≤ 8) : mvo t (((1 : Int32) <<< (nI k &&& 31)) ||| ((1 : Int32) <<< (nI m &&& 31))) = twF t k m := by
  rw [mvo_waF h8, Int32.and_comm]
  rfl
/-! teach -/
section TCH
variable {t : TA} {k m j : Nat} {x y X : Int32}
end TCH
/-! hangs -/
section HG
variable {t : TA} {j : Nat} {x y X : Int32}
end HG
/-! lost -/
set_option maxHeartbeats 4000000 in
set_option maxRecDepth 100000 in
theorem x_X5_two (l : Launch) (G : va_G) (cy : Nat → ClassId) (sz : Nat) (qx : Nat) (qt : Nat) (qk : Nat) (qp : Nat) (qs : Nat) (qa : Nat) (qr : Nat) (iKp : Int32) (iYe : Int32) (iTv : Int32) (fR : Nat → Int32) (tA : TA) (qtw : Nat) (qtn : Nat) (qtg : Nat) (qta : Nat) (qtr : Nat) (qtm : Nat) (qtt : Nat) (qts : Nat) (iA : Int32) (iB : Int32)  (hB : T_nb tA ≤ 8) (hPp : T_np tA ≤ 8) : MW l yX5_two cX5_two 3 (some .int) 12 0 0 G cy [zzO qx 4 [.ref qt, .ref qk, .ref qp, .ref qs, .ref qa, .ref qr, .int iKp, .int iYe, .int iTv], zzI cy qr 5 fR, zzO qt 3 [.int (nI (T_nb tA)), .int (nI (T_np tA)), .int (wb (T_wh tA)), .int (wb (T_gn tA)), .int (T_sd tA), .ref qtw, .ref qtn, .ref qtg, .ref qta, .ref qtr, .ref qtm, .ref qtt, .ref qts], zzI cy qtw 8 (T_wo tA), zzI cy qtn 8 (T_ne tA), zzI cy qtg 8 (T_go tA), zzI cy qta 8 (T_ag tA), zzI cy qtr 8 (T_re tA), zzI cy qtm 8 (T_me tA), zzI cy qtt 8 (T_te tA), zzI cy qts 64 (shF (T_kn tA))] sz [.ref qx, .int iA, .int iB] (Wi G (fun r u => ∃ (fX : Nat → Int32), u = [zzO qx 4 [.ref qt, .ref qk, .ref qp, .ref qs, .ref qa, .ref qr, .int iKp, .int iYe, .int iTv], zzI cy qr 5 fX, zzO qt 3 [.int (nI (T_nb tA)), .int (nI (T_np tA)), .int (wb (T_wh tA)), .int (wb (T_gn tA)), .int (T_sd tA), .ref qtw, .ref qtn, .ref qtg, .ref qta, .ref qtr, .ref qtm, .ref qtt, .ref qts], zzI cy qtw 8 (T_wo tA), zzI cy qtn 8 (T_ne tA), zzI cy qtg 8 (T_go tA), zzI cy qta 8 (T_ag tA), zzI cy qtr 8 (T_re tA), zzI cy qtm 8 (T_me tA), zzI cy qtt 8 (T_te tA), zzI cy qts 64 (shF (T_kn tA))] ∧ (PQt (T_np tA) (twF tA) iA iB r) ∧ (True))) := by
  refine enW RX5 (by decide +kernel) rfl (Nat.le_of_ble_eq_true rfl) (fun p e s m below meth c ls A hx hb hml hown hts hr hlocks hP hN hl hin hD hA hS => ?_)
  have hin : meth.name = _ := hin
  have hK := hN.1
  replace hl : lv_has ls 3 [(0, .ref qx), (1, .int iA), (2, .int iB)] := hl
  refine lv_aload_n hx hb (g_42 bX5_two rfl) rfl (lv_at hl 0 rfl) ?_
  refine va_get (D := G) (ci := 4) (v := .ref qt) (C := RX5) (T := TX5) (N := 9) hx hb hts iX_X5 hown hK hP 0 rfl rfl 0 (by decide +kernel) (hts _ m_t174) (fun _ h9 => h9) rfl (g_180 (v := 10) bX5_two rfl) ?_
  refine lv_iload_n hx hb (g_27 bX5_two rfl) rfl (lv_at hl 1 rfl) ?_
  refine kRi (rV (As := [.int iA]) (rest := []) (b := qt) ⟨hx, hb, hml, hown, hts⟩ (c_X4_isOne l G cy qt tA qtw qtn qtg qta qtr qtm qtt qts iA hPp) L_X5_192 (preRV (q := (RX4, TX4, 13)) hN hP [2] rfl 2 3 rfl rfl) rfl ⟨Nat.le_of_ble_eq_true rfl, Nat.le_of_ble_eq_true rfl⟩ hl.1 (Nat.le_of_ble_eq_true rfl) (g_182 (v := 192) bX5_two rfl) ⟨Nat.le_of_ble_eq_true rfl, Nat.le_of_ble_eq_true rfl⟩) (fun r_1 h_2 => ?_)
  rcases h_2 with ⟨rfl, h_3⟩ | ⟨rfl, h_3⟩
  · obtain ⟨k_4, hk_5, rfl⟩ := h_3
    refine lv_if_eq (tgt := 22) hx hb dX5_two_8 (by decide +kernel) (fun h9 => absurd h9 (by decide +kernel)) (fun _ => ?_)
    refine lv_aload_n hx hb (g_42 bX5_two rfl) rfl (lv_at hl 0 rfl) ?_
    refine va_get (D := G) (ci := 4) (v := .ref qt) (C := RX5) (T := TX5) (N := 9) hx hb hts iX_X5 hown hK hP 0 rfl rfl 0 (by decide +kernel) (hts _ m_t174) (fun _ h9 => h9) rfl (g_180 (v := 10) bX5_two rfl) ?_
    refine lv_iload_n hx hb (g_28 bX5_two rfl) rfl (lv_at hl 2 rfl) ?_
    refine kRi (rV (As := [.int iB]) (rest := []) (b := qt) ⟨hx, hb, hml, hown, hts⟩ (c_X4_isOne l G cy qt tA qtw qtn qtg qta qtr qtm qtt qts iB hPp) L_X5_192 (preRV (q := (RX4, TX4, 13)) hN hP [2] rfl 2 3 rfl rfl) rfl ⟨Nat.le_of_ble_eq_true rfl, Nat.le_of_ble_eq_true rfl⟩ hl.1 (Nat.le_of_ble_eq_true rfl) (g_182 (v := 192) bX5_two rfl) ⟨Nat.le_of_ble_eq_true rfl, Nat.le_of_ble_eq_true rfl⟩) (fun r_7 h_8 => ?_)
    rcases h_8 with ⟨rfl, h_9⟩ | ⟨rfl, h_9⟩
    · obtain ⟨k_10, hk_11, rfl⟩ := h_9
      refine lv_if_ne (tgt := 29) hx hb dX5_two_19 (by decide +kernel) (fun _ => ?_) (fun h9 => absurd h9 (by decide +kernel))
      refine lv_aload_n hx hb (g_42 bX5_two rfl) rfl (lv_at hl 0 rfl) ?_
      refine va_get (D := G) (ci := 4) (v := .ref qt) (C := RX5) (T := TX5) (N := 9) hx hb hts iX_X5 hown hK hP 0 rfl rfl 0 (by decide +kernel) (hts _ m_t174) (fun _ h9 => h9) rfl (g_180 (v := 10) bX5_two rfl) ?_
      refine lv_aload_n hx hb (g_42 bX5_two rfl) rfl (lv_at hl 0 rfl) ?_
      refine va_get (D := G) (ci := 4) (v := .ref qt) (C := RX5) (T := TX5) (N := 9) hx hb hts iX_X5 hown hK hP 0 rfl rfl 0 (by decide +kernel) (hts _ m_t174) (fun _ h9 => h9) rfl (g_180 (v := 10) bX5_two rfl) ?_
      refine kRi (rV (As := []) (rest := [.ref qt]) (b := qt) ⟨hx, hb, hml, hown, hts⟩ (c_X4_setThere l G cy qt tA qtw qtn qtg qta qtr qtm qtt qts hPp) L_X5_269 (preRV (q := (RX4, TX4, 13)) hN hP [2] rfl 2 3 rfl rfl) rfl ⟨Nat.le_of_ble_eq_true rfl, Nat.le_of_ble_eq_true rfl⟩ hl.1 (Nat.le_of_ble_eq_true rfl) (g_182 (v := 269) bX5_two rfl) ⟨Nat.le_of_ble_eq_true rfl, Nat.le_of_ble_eq_true rfl⟩) (fun r_13 h_14 => ?_)
      subst h_14
      refine lv_iconst (v := 1) hx hb (g_4 bX5_two rfl) (by decide +kernel) ?_
      refine lv_iload_n hx hb (g_27 bX5_two rfl) rfl (lv_at hl 1 rfl) ?_
      refine lv_ishl hx hb (g_120 bX5_two rfl) ?_
      refine lv_iconst (v := 1) hx hb (g_4 bX5_two rfl) (by decide +kernel) ?_
      refine lv_iload_n hx hb (g_28 bX5_two rfl) rfl (lv_at hl 2 rfl) ?_
      refine lv_ishl hx hb (g_120 bX5_two rfl) ?_
      refine lv_ior hx hb (g_128 bX5_two rfl) ?_
      refine lv_iand hx hb (g_126 bX5_two rfl) ?_
      refine kRi (rV (As := [.int ((zthere tA) &&& ((1 <<< ((nI k_4) &&& 31)) ||| (1 <<< ((nI k_10) &&& 31))))]) (rest := []) (b := qt) ⟨hx, hb, hml, hown, hts⟩ (c_X4_worthAmong l G cy qt tA qtw qtn qtg qta qtr qtm qtt qts ((zthere tA) &&& ((1 <<< ((nI k_4) &&& 31)) ||| (1 <<< ((nI k_10) &&& 31)))) hB hPp) L_X5_300 (preRV (q := (RX4, TX4, 13)) hN hP (trueIx 0 [false, false, true, true, false, false, false, false, false, false, true]) (sel_fm rfl rfl) 2 3 rfl rfl) rfl ⟨Nat.le_of_ble_eq_true rfl, Nat.le_of_ble_eq_true rfl⟩ hl.1 (Nat.le_of_ble_eq_true rfl) (g_182 (v := 300) bX5_two rfl) ⟨Nat.le_of_ble_eq_true rfl, Nat.le_of_ble_eq_true rfl⟩) (fun r_15 h_16 => ?_)
      subst h_16
      exact endWs [[true, true, true, true, true, true, true, true, true, true, true]] hx hb hr hlocks rfl hP hD rfl (by decide +kernel) hS ⟨fR, rfl, Or.inr ⟨k_4, k_10, hk_5, hk_11, rfl, rfl, rfl⟩, trivial⟩ (g_172 bX5_two rfl)
    · refine lv_if_ne (tgt := 29) hx hb dX5_two_19 (by decide +kernel) (fun h9 => absurd (by decide +kernel) h9) (fun _ => ?_)
      refine lv_aload_n hx hb (g_42 bX5_two rfl) rfl (lv_at hl 0 rfl) ?_
      refine lv_bipush (v := (-2)) hx hb dX5_two_23 (by decide +kernel) ?_
      refine cVi (As := [.int (-2)]) (rest := []) (b := qx) (q := (RX5, TX5, 9)) ⟨hx, hb, hml, hown, hts⟩ (c_X5_refuse2 l G cy (s.heap).size qx qt qk qp qs qa qr iKp iYe iTv fR) L_X5_56 hN hP hD hS hA [0, 1] [false, false, true, true, true, true, true, true, true, true, true] rfl (by decide +kernel) rfl 0 4 rfl rfl rfl ⟨Nat.le_of_ble_eq_true rfl, Nat.le_of_ble_eq_true rfl⟩ hl.1 (Nat.le_of_ble_eq_true rfl) (g_182 (v := 56) bX5_two rfl) ⟨Nat.le_of_ble_eq_true rfl, Nat.le_of_ble_eq_true rfl⟩ (fun r_18 u_20 H locs h_19 => ?_)
      clear hP hD hS
      intro hP hD hS
      obtain ⟨fX_21, hu9, h_19⟩ := h_19
      have hPD := pd_eq [_, _, _, _, _, _, _, _, _, _, zzI cy qr 5 fX_21] hP hD hu9 rfl
      clear hP hD hu9
      obtain ⟨hP, hD⟩ := hPD
      subst h_19
      exact endWs [[false, false, false, false, false, false, false, false, false, true, true], [true, true, true, true, true, true, true, true, true]] hx hb hr hlocks rfl hP hD rfl (by decide +kernel) hS ⟨fX_21, rfl, Or.inl ⟨rfl, fun q => h_9 q.2⟩, trivial⟩ (g_172 bX5_two rfl)
  · refine lv_if_eq (tgt := 22) hx hb dX5_two_8 (by decide +kernel) (fun _ => ?_) (fun h9 => absurd (by decide +kernel) h9)
    refine lv_aload_n hx hb (g_42 bX5_two rfl) rfl (lv_at hl 0 rfl) ?_
    refine lv_bipush (v := (-2)) hx hb dX5_two_23 (by decide +kernel) ?_
    refine cVi (As := [.int (-2)]) (rest := []) (b := qx) (q := (RX5, TX5, 9)) ⟨hx, hb, hml, hown, hts⟩ (c_X5_refuse2 l G cy (s.heap).size qx qt qk qp qs qa qr iKp iYe iTv fR) L_X5_56 hN hP hD hS hA [0, 1] [false, false, true, true, true, true, true, true, true, true, true] rfl (by decide +kernel) rfl 0 4 rfl rfl rfl ⟨Nat.le_of_ble_eq_true rfl, Nat.le_of_ble_eq_true rfl⟩ hl.1 (Nat.le_of_ble_eq_true rfl) (g_182 (v := 56) bX5_two rfl) ⟨Nat.le_of_ble_eq_true rfl, Nat.le_of_ble_eq_true rfl⟩ (fun r_23 u_25 H locs h_24 => ?_)
    clear hP hD hS
    intro hP hD hS
    obtain ⟨fX_26, hu9, h_24⟩ := h_24
    have hPD := pd_eq [_, _, _, _, _, _, _, _, _, _, zzI cy qr 5 fX_26] hP hD hu9 rfl
    clear hP hD hu9
    obtain ⟨hP, hD⟩ := hPD
    subst h_24
    exact endWs [[false, false, false, false, false, false, false, false, false, true, true], [true, true, true, true, true, true, true, true, true]] hx hb hr hlocks rfl hP hD rfl (by decide +kernel) hS ⟨fX_26, rfl, Or.inl ⟨rfl, fun q => h_3 q.1⟩, trivial⟩ (g_172 bX5_two rfl)
set_option maxHeartbeats 4000000 in
set_option maxRecDepth 100000 in
theorem x_X6_two (l : Launch) (G : va_G) (cy : Nat → ClassId) (sz : Nat) (qm : Nat) (qmh : Nat) (qmo : Nat) (qmz : Nat) (qmR : Nat) (qmv : Nat) (qmk : Nat) (qma : Nat) (qmt : Nat) (kZ : Nat) (qmr : Nat) (tA : TA) (qmB : Nat) (qmO : Nat) (qmK : Nat) (iEn : Int32) (iTk : Int32) (uP : UM) (uU : UM) (kAt : Nat) (iTo : Int32) (iFr : Int32) (JFi : Int64) (iFa : Int32) (qm3 : Nat) (iSt : Int32) (iLv : Int32) (iWs : Int32) (vLa : Value) (qmu : Nat) (qmy : Nat) (qmb : Nat) (qms : Nat) (iOm : Int32) (rB : Nat → Nat) (rO : Nat → Nat) (rK : Nat → Nat) (fMr : Nat → Int32) (iA : Int32) (iB : Int32)  (hB : T_nb tA ≤ 8) (hPp : T_np tA ≤ 8) (hTI : TI tA) : MW l yX6_two cX6_two 3 (some .int) 16 0 0 G cy [zzO qm 5 (.ref qmh :: .ref qmo :: .ref qmz :: .ref qmR :: .ref qmv :: .ref qmk :: .ref qma :: .ref qmt :: .int (nI kZ) :: .ref qmr :: .int (nI (T_nb tA)) :: .ref qmB :: .int (nI (T_np tA)) :: .ref qmO :: .ref qmK :: .int iEn :: .int iTk :: .int (T_sd tA) :: ov uP :: ov uU :: .int (nI kAt) :: .int iTo :: .int iFr :: .long JFi :: .int iFa :: .ref qm3 :: .int iSt :: .int iLv :: .int iWs :: vLa :: .ref qmu :: .ref qmy :: .ref qmb :: .ref qms :: .int iOm :: []), zzG cy 3 qmB rB, zzI cy (rB 0) 4 (bkR tA 0), zzI cy (rB 1) 4 (bkR tA 1), zzI cy (rB 2) 4 (bkR tA 2), zzI cy (rB 3) 4 (bkR tA 3), zzI cy (rB 4) 4 (bkR tA 4), zzI cy (rB 5) 4 (bkR tA 5), zzI cy (rB 6) 4 (bkR tA 6), zzI cy (rB 7) 4 (bkR tA 7), zzG cy 3 qmO rO, zzI cy (rO 0) 5 (onR tA 0), zzI cy (rO 1) 5 (onR tA 1), zzI cy (rO 2) 5 (onR tA 2), zzI cy (rO 3) 5 (onR tA 3), zzI cy (rO 4) 5 (onR tA 4), zzI cy (rO 5) 5 (onR tA 5), zzI cy (rO 6) 5 (onR tA 6), zzI cy (rO 7) 5 (onR tA 7), zzG cy 3 qmK rK, zzI cy (rK 0) 8 (T_kn tA 0), zzI cy (rK 1) 8 (T_kn tA 1), zzI cy (rK 2) 8 (T_kn tA 2), zzI cy (rK 3) 8 (T_kn tA 3), zzI cy (rK 4) 8 (T_kn tA 4), zzI cy (rK 5) 8 (T_kn tA 5), zzI cy (rK 6) 8 (T_kn tA 6), zzI cy (rK 7) 8 (T_kn tA 7), zzI cy qmr 8 fMr] sz [.ref qm, .int iA, .int iB] (Wi G (fun r u => ∃ (fNr : Nat → Int32), u = [zzO qm 5 (.ref qmh :: .ref qmo :: .ref qmz :: .ref qmR :: .ref qmv :: .ref qmk :: .ref qma :: .ref qmt :: .int (nI kZ) :: .ref qmr :: .int (nI (T_nb tA)) :: .ref qmB :: .int (nI (T_np tA)) :: .ref qmO :: .ref qmK :: .int iEn :: .int iTk :: .int (T_sd tA) :: ov uP :: ov uU :: .int (nI kAt) :: .int iTo :: .int iFr :: .long JFi :: .int iFa :: .ref qm3 :: .int iSt :: .int iLv :: .int iWs :: vLa :: .ref qmu :: .ref qmy :: .ref qmb :: .ref qms :: .int iOm :: []), zzG cy 3 qmB rB, zzI cy (rB 0) 4 (bkR tA 0), zzI cy (rB 1) 4 (bkR tA 1), zzI cy (rB 2) 4 (bkR tA 2), zzI cy (rB 3) 4 (bkR tA 3), zzI cy (rB 4) 4 (bkR tA 4), zzI cy (rB 5) 4 (bkR tA 5), zzI cy (rB 6) 4 (bkR tA 6), zzI cy (rB 7) 4 (bkR tA 7), zzG cy 3 qmO rO, zzI cy (rO 0) 5 (onR tA 0), zzI cy (rO 1) 5 (onR tA 1), zzI cy (rO 2) 5 (onR tA 2), zzI cy (rO 3) 5 (onR tA 3), zzI cy (rO 4) 5 (onR tA 4), zzI cy (rO 5) 5 (onR tA 5), zzI cy (rO 6) 5 (onR tA 6), zzI cy (rO 7) 5 (onR tA 7), zzG cy 3 qmK rK, zzI cy (rK 0) 8 (T_kn tA 0), zzI cy (rK 1) 8 (T_kn tA 1), zzI cy (rK 2) 8 (T_kn tA 2), zzI cy (rK 3) 8 (T_kn tA 3), zzI cy (rK 4) 8 (T_kn tA 4), zzI cy (rK 5) 8 (T_kn tA 5), zzI cy (rK 6) 8 (T_kn tA 6), zzI cy (rK 7) 8 (T_kn tA 7), zzI cy qmr 8 fNr] ∧ (PQt (T_np tA) (twF tA) iA iB r) ∧ (True))) := by
  refine enW RX6 (by decide +kernel) rfl (Nat.le_of_ble_eq_true rfl) (fun p e s m below meth c ls A hx hb hml hown hts hr hlocks hP hN hl hin hD hA hS => ?_)
  have hin : meth.name = _ := hin
  have hK := hN.1
  replace hl : lv_has ls 3 [(0, .ref qm), (1, .int iA), (2, .int iB)] := hl
  refine lv_aload_n hx hb (g_42 bX6_two rfl) rfl (lv_at hl 0 rfl) ?_
  refine lv_iload_n hx hb (g_27 bX6_two rfl) rfl (lv_at hl 1 rfl) ?_
  refine lv_i2l (v := iA.toInt64) hx hb (g_133 bX6_two rfl) rfl ?_
  refine kRi (rV (As := [.long iA.toInt64]) (rest := []) (b := qm) ⟨hx, hb, hml, hown, hts⟩ (c_X6_isOne l G cy qm (.ref qmh) (.ref qmo) (.ref qmz) (.ref qmR) (.ref qmv) (.ref qmk) (.ref qma) (.ref qmt) (.int (nI kZ)) (.ref qmr) tA qmB qmO qmK iEn iTk (ov uP) (ov uU) (.int (nI kAt)) (.int iTo) (.int iFr) (.long JFi) (.int iFa) (.ref qm3) (.int iSt) iLv iWs vLa (.ref qmu) (.ref qmy) (.ref qmb) (.ref qms) (.int iOm) iA hPp) L_X6_236 (preRV (q := (RX6, TX6, 35)) hN hP [0] rfl 0 5 rfl rfl) rfl ⟨Nat.le_of_ble_eq_true rfl, Nat.le_of_ble_eq_true rfl⟩ hl.1 (Nat.le_of_ble_eq_true rfl) (g_182 (v := 236) bX6_two rfl) ⟨Nat.le_of_ble_eq_true rfl, Nat.le_of_ble_eq_true rfl⟩) (fun r_1 h_2 => ?_)
  rcases h_2 with ⟨rfl, h_3⟩ | ⟨rfl, h_3⟩
  · obtain ⟨k_4, hk_5, rfl⟩ := h_3
    refine lv_if_eq (tgt := 32) hx hb dX6_two_6 (by decide +kernel) (fun h9 => absurd h9 (by decide +kernel)) (fun _ => ?_)
    refine lv_aload_n hx hb (g_42 bX6_two rfl) rfl (lv_at hl 0 rfl) ?_
    refine lv_iload_n hx hb (g_28 bX6_two rfl) rfl (lv_at hl 2 rfl) ?_
    refine lv_i2l (v := iB.toInt64) hx hb (g_133 bX6_two rfl) rfl ?_
    refine kRi (rV (As := [.long iB.toInt64]) (rest := []) (b := qm) ⟨hx, hb, hml, hown, hts⟩ (c_X6_isOne l G cy qm (.ref qmh) (.ref qmo) (.ref qmz) (.ref qmR) (.ref qmv) (.ref qmk) (.ref qma) (.ref qmt) (.int (nI kZ)) (.ref qmr) tA qmB qmO qmK iEn iTk (ov uP) (ov uU) (.int (nI kAt)) (.int iTo) (.int iFr) (.long JFi) (.int iFa) (.ref qm3) (.int iSt) iLv iWs vLa (.ref qmu) (.ref qmy) (.ref qmb) (.ref qms) (.int iOm) iB hPp) L_X6_236 (preRV (q := (RX6, TX6, 35)) hN hP [0] rfl 0 5 rfl rfl) rfl ⟨Nat.le_of_ble_eq_true rfl, Nat.le_of_ble_eq_true rfl⟩ hl.1 (Nat.le_of_ble_eq_true rfl) (g_182 (v := 236) bX6_two rfl) ⟨Nat.le_of_ble_eq_true rfl, Nat.le_of_ble_eq_true rfl⟩) (fun r_7 h_8 => ?_)
    rcases h_8 with ⟨rfl, h_9⟩ | ⟨rfl, h_9⟩
    · obtain ⟨k_10, hk_11, rfl⟩ := h_9
      refine lv_if_eq (tgt := 32) hx hb dX6_two_15 (by decide +kernel) (fun h9 => absurd h9 (by decide +kernel)) (fun _ => ?_)
      refine lv_aload_n hx hb (g_42 bX6_two rfl) rfl (lv_at hl 0 rfl) ?_
      refine lv_iconst (v := 1) hx hb (g_4 bX6_two rfl) (by decide +kernel) ?_
      refine lv_iload_n hx hb (g_27 bX6_two rfl) rfl (lv_at hl 1 rfl) ?_
      refine lv_ishl hx hb (g_120 bX6_two rfl) ?_
      refine lv_iconst (v := 1) hx hb (g_4 bX6_two rfl) (by decide +kernel) ?_
      refine lv_iload_n hx hb (g_28 bX6_two rfl) rfl (lv_at hl 2 rfl) ?_
      refine lv_ishl hx hb (g_120 bX6_two rfl) ?_
      refine lv_ior hx hb (g_128 bX6_two rfl) ?_
      refine kRi (rV (As := [.int ((1 <<< ((nI k_4) &&& 31)) ||| (1 <<< ((nI k_10) &&& 31)))]) (rest := []) (b := qm) ⟨hx, hb, hml, hown, hts⟩ (c_X6_valueOf l G cy qm (.ref qmh) (.ref qmo) (.ref qmz) (.ref qmR) (.ref qmv) (.ref qmk) (.ref qma) (.ref qmt) (.int (nI kZ)) (.ref qmr) tA qmB qmO qmK iEn iTk (ov uP) (ov uU) (.int (nI kAt)) (.int iTo) (.int iFr) (.long JFi) (.int iFa) (.ref qm3) (.int iSt) iLv iWs vLa (.ref qmu) (.ref qmy) (.ref qmb) (.ref qms) (.int iOm) rB rO rK ((1 <<< ((nI k_4) &&& 31)) ||| (1 <<< ((nI k_10) &&& 31))) hB hPp) L_X6_266 (preRV (q := (RX6, TX6, 35)) hN hP (trueIx 0 [true, true, true, true, true, true, true, true, true, true, true, true, true, true, true, true, true, true, true, true, true, true, true, true, true, true, true, true]) (sel_fm rfl rfl) 0 5 rfl rfl) rfl ⟨Nat.le_of_ble_eq_true rfl, Nat.le_of_ble_eq_true rfl⟩ hl.1 (Nat.le_of_ble_eq_true rfl) (g_182 (v := 266) bX6_two rfl) ⟨Nat.le_of_ble_eq_true rfl, Nat.le_of_ble_eq_true rfl⟩) (fun r_13 h_14 => ?_)
      subst h_14
      refine lv_goto (tgt := 38) hx hb dX6_two_29 (by decide +kernel) ?_
      exact endWs [[true, true, true, true, true, true, true, true, true, true, true, true, true, true, true, true, true, true, true, true, true, true, true, true, true, true, true, true, true]] hx hb hr hlocks rfl hP hD rfl (by decide +kernel) hS ⟨fMr, rfl, Or.inr ⟨k_4, k_10, hk_5, hk_11, rfl, rfl, tw_m hPp⟩, trivial⟩ (g_172 bX6_two rfl)
    · refine lv_if_eq (tgt := 32) hx hb dX6_two_15 (by decide +kernel) (fun _ => ?_) (fun h9 => absurd (by decide +kernel) h9)
      refine lv_aload_n hx hb (g_42 bX6_two rfl) rfl (lv_at hl 0 rfl) ?_
      refine lv_bipush (v := (-2)) hx hb dX6_two_33 (by decide +kernel) ?_
      refine cVi (As := [.int (-2)]) (rest := []) (b := qm) (q := (RX6, TX6, 35)) ⟨hx, hb, hml, hown, hts⟩ (c_X6_refuse2 l G cy (s.heap).size qm (.ref qmh) (.ref qmo) (.ref qmz) (.ref qmR) (.ref qmv) (.ref qmk) (.ref qma) (.ref qmt) (.int (nI kZ)) qmr tA qmB qmO qmK iEn iTk (ov uP) (ov uU) (.int (nI kAt)) (.int iTo) (.int iFr) (.long JFi) (.int iFa) (.ref qm3) (.int iSt) iLv iWs vLa (.ref qmu) (.ref qmy) (.ref qmb) (.ref qms) (.int iOm) fMr) L_X6_91 hN hP hD hS hA [0, 28] [false, true, true, true, true, true, true, true, true, true, true, true, true, true, true, true, true, true, true, true, true, true, true, true, true, true, true, true, false] rfl (by decide +kernel) rfl 0 5 rfl rfl rfl ⟨Nat.le_of_ble_eq_true rfl, Nat.le_of_ble_eq_true rfl⟩ hl.1 (Nat.le_of_ble_eq_true rfl) (g_182 (v := 91) bX6_two rfl) ⟨Nat.le_of_ble_eq_true rfl, Nat.le_of_ble_eq_true rfl⟩ (fun r_16 u_18 H locs h_17 => ?_)
      clear hP hD hS
      intro hP hD hS
      obtain ⟨fX_19, hu9, h_17⟩ := h_17
      have hPD := pd_eq [_, _, _, _, _, _, _, _, _, _, _, _, _, _, _, _, _, _, _, _, _, _, _, _, _, _, _, _, zzI cy qmr 8 fX_19] hP hD hu9 rfl
      clear hP hD hu9
      obtain ⟨hP, hD⟩ := hPD
      subst h_17
      exact endWs [[false, false, false, false, false, false, false, false, false, false, false, false, false, false, false, false, false, false, false, false, false, false, false, false, false, false, false, true], [true, true, true, true, true, true, true, true, true, true, true, true, true, true, true, true, true, true, true, true, true, true, true, true, true, true, true, false, true]] hx hb hr hlocks rfl hP hD rfl (by decide +kernel) hS ⟨fX_19, rfl, Or.inl ⟨rfl, fun q => h_9 q.2⟩, trivial⟩ (g_172 bX6_two rfl)
  · refine lv_if_eq (tgt := 32) hx hb dX6_two_6 (by decide +kernel) (fun _ => ?_) (fun h9 => absurd (by decide +kernel) h9)
    refine lv_aload_n hx hb (g_42 bX6_two rfl) rfl (lv_at hl 0 rfl) ?_
    refine lv_bipush (v := (-2)) hx hb dX6_two_33 (by decide +kernel) ?_
    refine cVi (As := [.int (-2)]) (rest := []) (b := qm) (q := (RX6, TX6, 35)) ⟨hx, hb, hml, hown, hts⟩ (c_X6_refuse2 l G cy (s.heap).size qm (.ref qmh) (.ref qmo) (.ref qmz) (.ref qmR) (.ref qmv) (.ref qmk) (.ref qma) (.ref qmt) (.int (nI kZ)) qmr tA qmB qmO qmK iEn iTk (ov uP) (ov uU) (.int (nI kAt)) (.int iTo) (.int iFr) (.long JFi) (.int iFa) (.ref qm3) (.int iSt) iLv iWs vLa (.ref qmu) (.ref qmy) (.ref qmb) (.ref qms) (.int iOm) fMr) L_X6_91 hN hP hD hS hA [0, 28] [false, true, true, true, true, true, true, true, true, true, true, true, true, true, true, true, true, true, true, true, true, true, true, true, true, true, true, true, false] rfl (by decide +kernel) rfl 0 5 rfl rfl rfl ⟨Nat.le_of_ble_eq_true rfl, Nat.le_of_ble_eq_true rfl⟩ hl.1 (Nat.le_of_ble_eq_true rfl) (g_182 (v := 91) bX6_two rfl) ⟨Nat.le_of_ble_eq_true rfl, Nat.le_of_ble_eq_true rfl⟩ (fun r_21 u_23 H locs h_22 => ?_)
    clear hP hD hS
    intro hP hD hS
    obtain ⟨fX_24, hu9, h_22⟩ := h_22
    have hPD := pd_eq [_, _, _, _, _, _, _, _, _, _, _, _, _, _, _, _, _, _, _, _, _, _, _, _, _, _, _, _, zzI cy qmr 8 fX_24] hP hD hu9 rfl
    clear hP hD hu9
    obtain ⟨hP, hD⟩ := hPD
    subst h_22
    exact endWs [[false, false, false, false, false, false, false, false, false, false, false, false, false, false, false, false, false, false, false, false, false, false, false, false, false, false, false, true], [true, true, true, true, true, true, true, true, true, true, true, true, true, true, true, true, true, true, true, true, true, true, true, true, true, true, true, false, true]] hx hb hr hlocks rfl hP hD rfl (by decide +kernel) hS ⟨fX_24, rfl, Or.inl ⟨rfl, fun q => h_3 q.1⟩, trivial⟩ (g_172 bX6_two rfl)
end
section
noncomputable def XW (cy : Nat → ClassId) (aX : Nat → Nat) (iKp : Int32) (iYe : Int32) (iTv : Int32) (fR : Nat → Int32) (tA : TA) (tB : TA) (iL : Int32) (iBs : Int32) (tU : TA) (tV : TA) (fH : Nat → Int32) (fS : Nat → Int32) (fA : Nat → Int32) (gE : Nat → Int64) (kZ : Nat) (iT1 : Int32) (iT2 : Int32) (iT3 : Int32) (iT4 : Int32) (fB : Nat → Int32) (tD : TA) : va_W := (zzO (aX 0) 4 [.ref (aX 2), .ref (aX 11), .ref (aX 20), .ref (aX 39), .ref (aX 44), .ref (aX 1), .int iKp, .int iYe, .int iTv] :: zzI cy (aX 1) 5 fR :: zzO (aX 2) 3 [.int (nI (T_nb tA)), .int (nI (T_np tA)), .int (wb (T_wh tA)), .int (wb (T_gn tA)), .int (T_sd tA), .ref (aX 3), .ref (aX 4), .ref (aX 5), .ref (aX 6), .ref (aX 7), .ref (aX 8), .ref (aX 9), .ref (aX 10)] :: zzI cy (aX 3) 8 (T_wo tA) :: zzI cy (aX 4) 8 (T_ne tA) :: zzI cy (aX 5) 8 (T_go tA) :: zzI cy (aX 6) 8 (T_ag tA) :: zzI cy (aX 7) 8 (T_re tA) :: zzI cy (aX 8) 8 (T_me tA) :: zzI cy (aX 9) 8 (T_te tA) :: zzI cy (aX 10) 64 (shF (T_kn tA)) :: zzO (aX 11) 3 [.int (nI (T_nb tB)), .int (nI (T_np tB)), .int (wb (T_wh tB)), .int (wb (T_gn tB)), .int (T_sd tB), .ref (aX 12), .ref (aX 13), .ref (aX 14), .ref (aX 15), .ref (aX 16), .ref (aX 17), .ref (aX 18), .ref (aX 19)] :: zzI cy (aX 12) 8 (T_wo tB) :: zzI cy (aX 13) 8 (T_ne tB) :: zzI cy (aX 14) 8 (T_go tB) :: zzI cy (aX 15) 8 (T_ag tB) :: zzI cy (aX 16) 8 (T_re tB) :: zzI cy (aX 17) 8 (T_me tB) :: zzI cy (aX 18) 8 (T_te tB) :: zzI cy (aX 19) 64 (shF (T_kn tB)) :: zzO (aX 20) 0 [.ref (aX 21), .ref (aX 30), .int iL, .int iBs] :: zzO (aX 21) 3 [.int (nI (T_nb tU)), .int (nI (T_np tU)), .int (wb (T_wh tU)), .int (wb (T_gn tU)), .int (T_sd tU), .ref (aX 22), .ref (aX 23), .ref (aX 24), .ref (aX 25), .ref (aX 26), .ref (aX 27), .ref (aX 28), .ref (aX 29)] :: zzI cy (aX 22) 8 (T_wo tU) :: zzI cy (aX 23) 8 (T_ne tU) :: zzI cy (aX 24) 8 (T_go tU) :: zzI cy (aX 25) 8 (T_ag tU) :: zzI cy (aX 26) 8 (T_re tU) :: zzI cy (aX 27) 8 (T_me tU) :: zzI cy (aX 28) 8 (T_te tU) :: zzI cy (aX 29) 64 (shF (T_kn tU)) :: zzO (aX 30) 3 [.int (nI (T_nb tV)), .int (nI (T_np tV)), .int (wb (T_wh tV)), .int (wb (T_gn tV)), .int (T_sd tV), .ref (aX 31), .ref (aX 32), .ref (aX 33), .ref (aX 34), .ref (aX 35), .ref (aX 36), .ref (aX 37), .ref (aX 38)] :: zzI cy (aX 31) 8 (T_wo tV) :: zzI cy (aX 32) 8 (T_ne tV) :: zzI cy (aX 33) 8 (T_go tV) :: zzI cy (aX 34) 8 (T_ag tV) :: zzI cy (aX 35) 8 (T_re tV) :: zzI cy (aX 36) 8 (T_me tV) :: zzI cy (aX 37) 8 (T_te tV) :: zzI cy (aX 38) 64 (shF (T_kn tV)) :: zzO (aX 39) 1 [.ref (aX 40), .ref (aX 41), .ref (aX 42), .ref (aX 43)] :: zzI cy (aX 40) 8 fH :: zzI cy (aX 41) 8 fS :: zzI cy (aX 42) 8 fA :: zzJ cy (aX 43) 320 gE :: zzO (aX 44) 2 [.ref (aX 45), .int (nI kZ), .int iT1, .int iT2, .int iT3, .int iT4, .ref (aX 46)] :: zzB cy (aX 45) 250 fB :: zzO (aX 46) 3 [.int (nI (T_nb tD)), .int (nI (T_np tD)), .int (wb (T_wh tD)), .int (wb (T_gn tD)), .int (T_sd tD), .ref (aX 47), .ref (aX 48), .ref (aX 49), .ref (aX 50), .ref (aX 51), .ref (aX 52), .ref (aX 53), .ref (aX 54)] :: zzI cy (aX 47) 8 (T_wo tD) :: zzI cy (aX 48) 8 (T_ne tD) :: zzI cy (aX 49) 8 (T_go tD) :: zzI cy (aX 50) 8 (T_ag tD) :: zzI cy (aX 51) 8 (T_re tD) :: zzI cy (aX 52) 8 (T_me tD) :: zzI cy (aX 53) 8 (T_te tD) :: zzI cy (aX 54) 64 (shF (T_kn tD)) :: [])
noncomputable def MK (cy : Nat → ClassId) (aM : Nat → Nat) (rR rB rO rK : Nat → Nat) (fMh : Nat → Int32) (fMo : Nat → Int32) (fMz : Nat → Int32) (gMv : Nat → Int64) (fMk : Nat → Int32) (fMa : Nat → Int32) (fMt : Nat → Int32) (kY : Nat) (fMr : Nat → Int32) (fM3 : Nat → Int32) (fMu : Nat → Int32) (fMy : Nat → Int32) (fMb : Nat → Int32) (eR : Nat → Nat → Int64) (tM : TA) (iEn : Int32) (iTk : Int32) (uP : UM) (uU : UM) (kAt : Nat) (iTo : Int32) (iFr : Int32) (JFi : Int64) (iFa : Int32) (iSt : Int32) (iLv : Int32) (iWs : Int32) (wL : UL) (uS0 : UM) (uS1 : UM) (uS2 : UM) (uS3 : UM) (uS4 : UM) (iOm : Int32) : va_W := (zzO (aM 0) 5 (.ref (aM 1) :: .ref (aM 2) :: .ref (aM 3) :: .ref (aM 14) :: .ref (aM 4) :: .ref (aM 5) :: .ref (aM 6) :: .ref (aM 7) :: .int (nI kY) :: .ref (aM 8) :: .int (nI (T_nb tM)) :: .ref (aM 15) :: .int (nI (T_np tM)) :: .ref (aM 16) :: .ref (aM 17) :: .int iEn :: .int iTk :: .int (T_sd tM) :: ov uP :: ov uU :: .int (nI kAt) :: .int iTo :: .int iFr :: .long JFi :: .int iFa :: .ref (aM 9) :: .int iSt :: .int iLv :: .int iWs :: ovL wL :: .ref (aM 10) :: .ref (aM 11) :: .ref (aM 12) :: .ref (aM 13) :: .int iOm :: []) :: zzI cy (aM 1) 8 fMh :: zzI cy (aM 2) 8 fMo :: zzI cy (aM 3) 8 fMz :: zzJ cy (aM 4) 40 gMv :: zzI cy (aM 5) 8 fMk :: zzI cy (aM 6) 8 fMa :: zzI cy (aM 7) 250 fMt :: zzI cy (aM 8) 8 fMr :: zzI cy (aM 9) 3 fM3 :: zzI cy (aM 10) 8 fMu :: zzI cy (aM 11) 5 fMy :: zzI cy (aM 12) 5 fMb :: zzQ cy 5 (aM 13) 6 (sF (refU uS0) (refU uS1) (refU uS2) (refU uS3) (refU uS4)) :: zzG cy 4 (aM 14) rR :: zzJ cy (rR 0) 40 (eR 0) :: zzJ cy (rR 1) 40 (eR 1) :: zzJ cy (rR 2) 40 (eR 2) :: zzJ cy (rR 3) 40 (eR 3) :: zzJ cy (rR 4) 40 (eR 4) :: zzJ cy (rR 5) 40 (eR 5) :: zzJ cy (rR 6) 40 (eR 6) :: zzJ cy (rR 7) 40 (eR 7) :: zzG cy 3 (aM 15) rB :: zzI cy (rB 0) 4 (bkR tM 0) :: zzI cy (rB 1) 4 (bkR tM 1) :: zzI cy (rB 2) 4 (bkR tM 2) :: zzI cy (rB 3) 4 (bkR tM 3) :: zzI cy (rB 4) 4 (bkR tM 4) :: zzI cy (rB 5) 4 (bkR tM 5) :: zzI cy (rB 6) 4 (bkR tM 6) :: zzI cy (rB 7) 4 (bkR tM 7) :: zzG cy 3 (aM 16) rO :: zzI cy (rO 0) 5 (onR tM 0) :: zzI cy (rO 1) 5 (onR tM 1) :: zzI cy (rO 2) 5 (onR tM 2) :: zzI cy (rO 3) 5 (onR tM 3) :: zzI cy (rO 4) 5 (onR tM 4) :: zzI cy (rO 5) 5 (onR tM 5) :: zzI cy (rO 6) 5 (onR tM 6) :: zzI cy (rO 7) 5 (onR tM 7) :: zzG cy 3 (aM 17) rK :: zzI cy (rK 0) 8 (T_kn tM 0) :: zzI cy (rK 1) 8 (T_kn tM 1) :: zzI cy (rK 2) 8 (T_kn tM 2) :: zzI cy (rK 3) 8 (T_kn tM 3) :: zzI cy (rK 4) 8 (T_kn tM 4) :: zzI cy (rK 5) 8 (T_kn tM 5) :: zzI cy (rK 6) 8 (T_kn tM 6) :: zzI cy (rK 7) 8 (T_kn tM 7) :: [])
section PERM
variable {G : va_G} {H : Heap} {A : Nat → Prop} {a b c d k t x u l s p q w : va_W}
theorem rotP (h : va_P G CL (a ++ (b ++ (c ++ d))) H) : va_P G CL (a ++ (c ++ (b ++ d))) H := by
  have h1 : va_P G CL ((a ++ b) ++ (c ++ d)) H := by rw [List.append_assoc]; exact h
  have h2 := h1.swap
  have h3 : va_P G CL (((a ++ c) ++ d) ++ b) H := by rw [List.append_assoc a c d]; exact h2
  have h4 := h3.swap
  rw [List.append_assoc, List.append_assoc] at h4
  exact h4
theorem rotD (h : va_D A (a ++ (b ++ (c ++ d)))) : va_D A (a ++ (c ++ (b ++ d))) := by
  have h1 : va_D A ((a ++ b) ++ (c ++ d)) := by rw [List.append_assoc]; exact h
  have h2 := h1.swap
  have h3 : va_D A (((a ++ c) ++ d) ++ b) := by rw [List.append_assoc a c d]; exact h2
  have h4 := h3.swap
  rw [List.append_assoc, List.append_assoc] at h4
  exact h4
theorem toNP (h : va_P G CL (x ++ (k ++ t)) H) : va_P G CL (k ++ (t ++ x)) H := by
  have h0 := h
  have h1 : va_P G CL ([] ++ ((k ++ t) ++ (x ++ []))) H := rotP (a := []) (b := x) (c := (k ++ t)) (d := []) (by simpa only [List.append_assoc, List.nil_append, List.append_nil] using h0)
  simpa only [List.append_assoc, List.nil_append, List.append_nil] using h1
theorem toND (h : va_D A (x ++ (k ++ t))) : va_D A (k ++ (t ++ x)) := by
  have h0 := h
  have h1 : va_D A ([] ++ ((k ++ t) ++ (x ++ []))) := rotD (a := []) (b := x) (c := (k ++ t)) (d := []) (by simpa only [List.append_assoc, List.nil_append, List.append_nil] using h0)
  simpa only [List.append_assoc, List.nil_append, List.append_nil] using h1
theorem ofNP (h : va_P G CL (k ++ (t ++ x)) H) : va_P G CL (x ++ (k ++ t)) H := by
  have h0 := h
  have h1 : va_P G CL ([] ++ (x ++ ((k ++ t) ++ []))) H := rotP (a := []) (b := (k ++ t)) (c := x) (d := []) (by simpa only [List.append_assoc, List.nil_append, List.append_nil] using h0)
  simpa only [List.append_assoc, List.nil_append, List.append_nil] using h1
theorem ofND (h : va_D A (k ++ (t ++ x))) : va_D A (x ++ (k ++ t)) := by
  have h0 := h
  have h1 : va_D A ([] ++ (x ++ ((k ++ t) ++ []))) := rotD (a := []) (b := (k ++ t)) (c := x) (d := []) (by simpa only [List.append_assoc, List.nil_append, List.append_nil] using h0)
  simpa only [List.append_assoc, List.nil_append, List.append_nil] using h1
theorem toUP (h : va_P G CL (x ++ (k ++ (u ++ t))) H) : va_P G CL ((k ++ u) ++ (t ++ x)) H := by
  have h0 := h
  have h1 : va_P G CL ([] ++ ((k ++ (u ++ t)) ++ (x ++ []))) H := rotP (a := []) (b := x) (c := (k ++ (u ++ t))) (d := []) (by simpa only [List.append_assoc, List.nil_append, List.append_nil] using h0)
  simpa only [List.append_assoc, List.nil_append, List.append_nil] using h1
theorem toUD (h : va_D A (x ++ (k ++ (u ++ t)))) : va_D A ((k ++ u) ++ (t ++ x)) := by
  have h0 := h
  have h1 : va_D A ([] ++ ((k ++ (u ++ t)) ++ (x ++ []))) := rotD (a := []) (b := x) (c := (k ++ (u ++ t))) (d := []) (by simpa only [List.append_assoc, List.nil_append, List.append_nil] using h0)
  simpa only [List.append_assoc, List.nil_append, List.append_nil] using h1
theorem ofUP (h : va_P G CL (k ++ (u ++ (t ++ x))) H) : va_P G CL (x ++ (k ++ (u ++ t))) H := by
  have h0 := h
  have h1 : va_P G CL ([] ++ (x ++ ((k ++ (u ++ t)) ++ []))) H := rotP (a := []) (b := (k ++ (u ++ t))) (c := x) (d := []) (by simpa only [List.append_assoc, List.nil_append, List.append_nil] using h0)
  simpa only [List.append_assoc, List.nil_append, List.append_nil] using h1
theorem ofUD (h : va_D A (k ++ (u ++ (t ++ x)))) : va_D A (x ++ (k ++ (u ++ t))) := by
  have h0 := h
  have h1 : va_D A ([] ++ (x ++ ((k ++ (u ++ t)) ++ []))) := rotD (a := []) (b := (k ++ (u ++ t))) (c := x) (d := []) (by simpa only [List.append_assoc, List.nil_append, List.append_nil] using h0)
  simpa only [List.append_assoc, List.nil_append, List.append_nil] using h1
theorem toLP (h : va_P G CL (x ++ (k ++ (u ++ (l ++ t)))) H) : va_P G CL ((k ++ (u ++ l)) ++ (t ++ x)) H := by
  have h0 := h
  have h1 : va_P G CL ([] ++ ((k ++ (u ++ (l ++ t))) ++ (x ++ []))) H := rotP (a := []) (b := x) (c := (k ++ (u ++ (l ++ t)))) (d := []) (by simpa only [List.append_assoc, List.nil_append, List.append_nil] using h0)
  simpa only [List.append_assoc, List.nil_append, List.append_nil] using h1
theorem toLD (h : va_D A (x ++ (k ++ (u ++ (l ++ t))))) : va_D A ((k ++ (u ++ l)) ++ (t ++ x)) := by
  have h0 := h
  have h1 : va_D A ([] ++ ((k ++ (u ++ (l ++ t))) ++ (x ++ []))) := rotD (a := []) (b := x) (c := (k ++ (u ++ (l ++ t)))) (d := []) (by simpa only [List.append_assoc, List.nil_append, List.append_nil] using h0)
  simpa only [List.append_assoc, List.nil_append, List.append_nil] using h1
theorem ofLP (h : va_P G CL (k ++ ((u ++ l) ++ (t ++ x))) H) : va_P G CL (x ++ (k ++ (u ++ (l ++ t)))) H := by
  have h0 := h
  have h1 : va_P G CL ([] ++ (x ++ ((k ++ (u ++ (l ++ t))) ++ []))) H := rotP (a := []) (b := (k ++ (u ++ (l ++ t)))) (c := x) (d := []) (by simpa only [List.append_assoc, List.nil_append, List.append_nil] using h0)
  simpa only [List.append_assoc, List.nil_append, List.append_nil] using h1
theorem ofLD (h : va_D A (k ++ ((u ++ l) ++ (t ++ x)))) : va_D A (x ++ (k ++ (u ++ (l ++ t)))) := by
  have h0 := h
  have h1 : va_D A ([] ++ (x ++ ((k ++ (u ++ (l ++ t))) ++ []))) := rotD (a := []) (b := (k ++ (u ++ (l ++ t)))) (c := x) (d := []) (by simpa only [List.append_assoc, List.nil_append, List.append_nil] using h0)
  simpa only [List.append_assoc, List.nil_append, List.append_nil] using h1
theorem toPP (h : va_P G CL (x ++ (k ++ (u ++ (l ++ (p ++ s))))) H) : va_P G CL ((k ++ p) ++ (u ++ (l ++ (s ++ x)))) H := by
  have h0 := h
  have h1 : va_P G CL ([] ++ ((k ++ (u ++ (l ++ (p ++ s)))) ++ (x ++ []))) H := rotP (a := []) (b := x) (c := (k ++ (u ++ (l ++ (p ++ s))))) (d := []) (by simpa only [List.append_assoc, List.nil_append, List.append_nil] using h0)
  have h2 : va_P G CL (k ++ (p ++ ((u ++ l) ++ (s ++ x)))) H := rotP (a := k) (b := (u ++ l)) (c := p) (d := (s ++ x)) (by simpa only [List.append_assoc, List.nil_append, List.append_nil] using h1)
  simpa only [List.append_assoc, List.nil_append, List.append_nil] using h2
theorem toPD (h : va_D A (x ++ (k ++ (u ++ (l ++ (p ++ s)))))) : va_D A ((k ++ p) ++ (u ++ (l ++ (s ++ x)))) := by
  have h0 := h
  have h1 : va_D A ([] ++ ((k ++ (u ++ (l ++ (p ++ s)))) ++ (x ++ []))) := rotD (a := []) (b := x) (c := (k ++ (u ++ (l ++ (p ++ s))))) (d := []) (by simpa only [List.append_assoc, List.nil_append, List.append_nil] using h0)
  have h2 : va_D A (k ++ (p ++ ((u ++ l) ++ (s ++ x)))) := rotD (a := k) (b := (u ++ l)) (c := p) (d := (s ++ x)) (by simpa only [List.append_assoc, List.nil_append, List.append_nil] using h1)
  simpa only [List.append_assoc, List.nil_append, List.append_nil] using h2
theorem ofPP (h : va_P G CL (k ++ (p ++ (u ++ (l ++ (s ++ x))))) H) : va_P G CL (x ++ (k ++ (u ++ (l ++ (p ++ s))))) H := by
  have h0 := h
  have h1 : va_P G CL (k ++ ((u ++ l) ++ (p ++ (s ++ x)))) H := rotP (a := k) (b := p) (c := (u ++ l)) (d := (s ++ x)) (by simpa only [List.append_assoc, List.nil_append, List.append_nil] using h0)
  have h2 : va_P G CL ([] ++ (x ++ ((k ++ (u ++ (l ++ (p ++ s)))) ++ []))) H := rotP (a := []) (b := (k ++ (u ++ (l ++ (p ++ s))))) (c := x) (d := []) (by simpa only [List.append_assoc, List.nil_append, List.append_nil] using h1)
  simpa only [List.append_assoc, List.nil_append, List.append_nil] using h2
theorem ofPD (h : va_D A (k ++ (p ++ (u ++ (l ++ (s ++ x)))))) : va_D A (x ++ (k ++ (u ++ (l ++ (p ++ s))))) := by
  have h0 := h
  have h1 : va_D A (k ++ ((u ++ l) ++ (p ++ (s ++ x)))) := rotD (a := k) (b := p) (c := (u ++ l)) (d := (s ++ x)) (by simpa only [List.append_assoc, List.nil_append, List.append_nil] using h0)
  have h2 : va_D A ([] ++ (x ++ ((k ++ (u ++ (l ++ (p ++ s)))) ++ []))) := rotD (a := []) (b := (k ++ (u ++ (l ++ (p ++ s))))) (c := x) (d := []) (by simpa only [List.append_assoc, List.nil_append, List.append_nil] using h1)
  simpa only [List.append_assoc, List.nil_append, List.append_nil] using h2
theorem toSP (h : va_P G CL (x ++ (k ++ (u ++ (l ++ (p ++ s))))) H) : va_P G CL ((k ++ s) ++ (u ++ (l ++ (p ++ x)))) H := by
  have h0 := h
  have h1 : va_P G CL ([] ++ ((k ++ (u ++ (l ++ (p ++ s)))) ++ (x ++ []))) H := rotP (a := []) (b := x) (c := (k ++ (u ++ (l ++ (p ++ s))))) (d := []) (by simpa only [List.append_assoc, List.nil_append, List.append_nil] using h0)
  have h2 : va_P G CL (k ++ (s ++ ((u ++ (l ++ p)) ++ x))) H := rotP (a := k) (b := (u ++ (l ++ p))) (c := s) (d := x) (by simpa only [List.append_assoc, List.nil_append, List.append_nil] using h1)
  simpa only [List.append_assoc, List.nil_append, List.append_nil] using h2
theorem toSD (h : va_D A (x ++ (k ++ (u ++ (l ++ (p ++ s)))))) : va_D A ((k ++ s) ++ (u ++ (l ++ (p ++ x)))) := by
  have h0 := h
  have h1 : va_D A ([] ++ ((k ++ (u ++ (l ++ (p ++ s)))) ++ (x ++ []))) := rotD (a := []) (b := x) (c := (k ++ (u ++ (l ++ (p ++ s))))) (d := []) (by simpa only [List.append_assoc, List.nil_append, List.append_nil] using h0)
  have h2 : va_D A (k ++ (s ++ ((u ++ (l ++ p)) ++ x))) := rotD (a := k) (b := (u ++ (l ++ p))) (c := s) (d := x) (by simpa only [List.append_assoc, List.nil_append, List.append_nil] using h1)
  simpa only [List.append_assoc, List.nil_append, List.append_nil] using h2
theorem ofSP (h : va_P G CL (k ++ (s ++ (u ++ (l ++ (p ++ x))))) H) : va_P G CL (x ++ (k ++ (u ++ (l ++ (p ++ s))))) H := by
  have h0 := h
  have h1 : va_P G CL (k ++ ((u ++ (l ++ p)) ++ (s ++ x))) H := rotP (a := k) (b := s) (c := (u ++ (l ++ p))) (d := x) (by simpa only [List.append_assoc, List.nil_append, List.append_nil] using h0)
  have h2 : va_P G CL ([] ++ (x ++ ((k ++ (u ++ (l ++ (p ++ s)))) ++ []))) H := rotP (a := []) (b := (k ++ (u ++ (l ++ (p ++ s))))) (c := x) (d := []) (by simpa only [List.append_assoc, List.nil_append, List.append_nil] using h1)
  simpa only [List.append_assoc, List.nil_append, List.append_nil] using h2
theorem ofSD (h : va_D A (k ++ (s ++ (u ++ (l ++ (p ++ x)))))) : va_D A (x ++ (k ++ (u ++ (l ++ (p ++ s))))) := by
  have h0 := h
  have h1 : va_D A (k ++ ((u ++ (l ++ p)) ++ (s ++ x))) := rotD (a := k) (b := s) (c := (u ++ (l ++ p))) (d := x) (by simpa only [List.append_assoc, List.nil_append, List.append_nil] using h0)
  have h2 : va_D A ([] ++ (x ++ ((k ++ (u ++ (l ++ (p ++ s)))) ++ []))) := rotD (a := []) (b := (k ++ (u ++ (l ++ (p ++ s))))) (c := x) (d := []) (by simpa only [List.append_assoc, List.nil_append, List.append_nil] using h1)
  simpa only [List.append_assoc, List.nil_append, List.append_nil] using h2
end PERM
noncomputable def SX (tA tB tD : TA) (fS : Nat → Int32) (kZ : Nat) : Prop := (T_nb tA ≤ 8 ∧ T_np tA ≤ 8) ∧ (T_nb tB ≤ 8 ∧ T_np tB ≤ 8) ∧ T_nb tD ≤ 8 ∧ (∀ s, s < 8 → ∃ n : Nat, n ≤ 40 ∧ fS s = nI n) ∧ kZ ≤ 250
noncomputable def SM (tM : TA) (uP : UM) (fMz fMa : Nat → Int32) (kY : Nat) : Prop := TI tM ∧ (isS uP = true → TI (uT uP)) ∧ (∀ s, s < 8 → ∃ n : Nat, n ≤ 40 ∧ fMz s = nI n) ∧ (∀ s, s < 8 → ∃ n : Nat, n ≤ 99 ∧ fMa s = nI n) ∧ kY ≤ 250
/-! the towns are one town: what each call leaves of that -/
noncomputable def TWR (tA tB : TA) (fB : Nat → Int32) (kZ : Nat) (fMt : Nat → Int32) (kY : Nat) (tM : TA) (uP : UM) : Prop := tA = tM ∧ WI tM ∧ (isS uP = true → tB = uT uP ∧ WI (uT uP)) ∧ nbf fB kZ = nbf fMt kY
theorem k_eq {k k' n : Nat} {a : Int32} (hn : n ≤ 8) (hk : k < n) (hk' : k' < n) (e : a = nI k) (e' : a = nI k') : k' = k := nI_inj (by omega) (by omega) (e'.symm.trans e)
section TW
variable {tA tM t1 t2 : TA} {a b c d r r' : Int32}
theorem book_k (e : tA = tM) (h1 : PXbook tA a b r t1) (h2 : PXbook tM a b r' t2) : r = r' ∧ t1 = t2 := by
  subst e
  rcases h1 with ⟨e1, c1, f1⟩ | ⟨e1, c1, d1, g1, f1⟩ | ⟨e1, c1, d1, g1, f1⟩
  · rcases h2 with ⟨e2, c2, f2⟩ | ⟨e2, c2, d2, g2, f2⟩ | ⟨e2, c2, d2, g2, f2⟩
    · exact ⟨e1.trans e2.symm, f1.trans f2.symm⟩
    · exact absurd ⟨c2, d2⟩ c1
    · exact absurd ⟨c2, d2⟩ c1
  · rcases h2 with ⟨e2, c2, f2⟩ | ⟨e2, c2, d2, g2, f2⟩ | ⟨e2, c2, d2, g2, f2⟩
    · exact absurd ⟨c1, d1⟩ c2
    · exact ⟨e1.trans e2.symm, f1.trans f2.symm⟩
    · exact absurd g2 g1
  · rcases h2 with ⟨e2, c2, f2⟩ | ⟨e2, c2, d2, g2, f2⟩ | ⟨e2, c2, d2, g2, f2⟩
    · exact absurd ⟨c1, d1⟩ c2
    · exact absurd g1 g2
    · exact ⟨e1.trans e2.symm, f1.trans f2.symm⟩
theorem one_k (e : tA = tM) (h1 : PXone tA a b c d r t1) (h2 : PXone tM a b c d r' t2) : r = r' ∧ t1 = t2 := by
  subst e
  rcases h1 with ⟨e1, c1, f1⟩ | ⟨e1, c1, g1, f1⟩ | ⟨e1, c1, g1, f1⟩
  · rcases h2 with ⟨e2, c2, f2⟩ | ⟨e2, c2, g2, f2⟩ | ⟨e2, c2, g2, f2⟩
    · exact ⟨e1.trans e2.symm, f1.trans f2.symm⟩
    · exact absurd c2 c1
    · exact absurd c2 c1
  · rcases h2 with ⟨e2, c2, f2⟩ | ⟨e2, c2, g2, f2⟩ | ⟨e2, c2, g2, f2⟩
    · exact absurd c1 c2
    · exact ⟨e1.trans e2.symm, f1.trans f2.symm⟩
    · exact absurd g2 g1
  · rcases h2 with ⟨e2, c2, f2⟩ | ⟨e2, c2, g2, f2⟩ | ⟨e2, c2, g2, f2⟩
    · exact absurd c1 c2
    · exact absurd g1 g2
    · exact ⟨e1.trans e2.symm, f1.trans f2.symm⟩
theorem alter_k (e : tA = tM) (hn : T_nb tM ≤ 8 ∧ T_np tM ≤ 8) (h1 : PXalter tA a b c r t1) (h2 : PXalter tM a b c r' t2) : r = r' ∧ t1 = t2 := by
  subst e
  rcases h1 with ⟨e1, c1, f1⟩ | ⟨k, m, hk, hm, ek, em, iv, h1⟩
  · rcases h2 with ⟨e2, c2, f2⟩ | ⟨k, m, hk, hm, ek, em, iv, h2⟩
    · exact ⟨e1.trans e2.symm, f1.trans f2.symm⟩
    · exact absurd ⟨⟨⟨k, hk, ek⟩, ⟨m, hm, em⟩⟩, iv⟩ c1
  · rcases h2 with ⟨e2, c2, f2⟩ | ⟨k', m', hk', hm', ek', em', iv', h2⟩
    · exact absurd ⟨⟨⟨k, hk, ek⟩, ⟨m, hm, em⟩⟩, iv⟩ c2
    · have q1 := k_eq hn.2 hk hk' ek ek'
      have q2 := k_eq hn.1 hm hm' em em'
      subst q1
      subst q2
      rcases h1 with ⟨e1, g1, f1⟩ | ⟨e1, g1, f1⟩
      · rcases h2 with ⟨e2, g2, f2⟩ | ⟨e2, g2, f2⟩
        · exact ⟨e1.trans e2.symm, f1.trans f2.symm⟩
        · rw [g1] at g2; cases g2
      · rcases h2 with ⟨e2, g2, f2⟩ | ⟨e2, g2, f2⟩
        · rw [g1] at g2; cases g2
        · exact ⟨e1.trans e2.symm, f1.trans f2.symm⟩
theorem read_k (e : tA = tM) (hn : T_nb tM ≤ 8 ∧ T_np tM ≤ 8) (h1 : PXread tA a b r t1) (h2 : PXread tM a b r' t2) : r = r' ∧ t1 = t2 := by
  subst e
  rcases h1 with ⟨e1, c1, f1⟩ | ⟨k, m, hk, hm, ek, em, h1⟩
  · rcases h2 with ⟨e2, c2, f2⟩ | ⟨k, m, hk, hm, ek, em, h2⟩
    · exact ⟨e1.trans e2.symm, f1.trans f2.symm⟩
    · exact absurd ⟨⟨k, hk, ek⟩, ⟨m, hm, em⟩⟩ c1
  · rcases h2 with ⟨e2, c2, f2⟩ | ⟨k', m', hk', hm', ek', em', h2⟩
    · exact absurd ⟨⟨k, hk, ek⟩, ⟨m, hm, em⟩⟩ c2
    · have q1 := k_eq hn.2 hk hk' ek ek'
      have q2 := k_eq hn.1 hm hm' em em'
      subst q1
      subst q2
      rcases h1 with ⟨e1, g1, f1⟩ | ⟨e1, g1, p1, f1⟩
      · rcases h2 with ⟨e2, g2, f2⟩ | ⟨e2, g2, p2, f2⟩
        · exact ⟨e1.trans e2.symm, f1.trans f2.symm⟩
        · rw [g2, p2] at g1; exact absurd g1 (by decide +kernel)
      · rcases h2 with ⟨e2, g2, f2⟩ | ⟨e2, g2, p2, f2⟩
        · rw [g1, p1] at g2; exact absurd g2 (by decide +kernel)
        · exact ⟨e1.trans e2.symm, f1.trans f2.symm⟩
theorem aloud_k (e : tA = tM) (hn : T_nb tM ≤ 8 ∧ T_np tM ≤ 8) (h1 : PXaloud tA a b c r t1) (h2 : PXaloud tM a b c r' t2) : r = r' ∧ t1 = t2 := by
  subst e
  rcases h1 with ⟨e1, c1, f1⟩ | ⟨k, m, hk, hm, ek, em, iv, h1⟩
  · rcases h2 with ⟨e2, c2, f2⟩ | ⟨k, m, hk, hm, ek, em, iv, h2⟩
    · exact ⟨e1.trans e2.symm, f1.trans f2.symm⟩
    · exact absurd ⟨iv, ⟨⟨k, hk, ek⟩, ⟨m, hm, em⟩⟩⟩ c1
  · rcases h2 with ⟨e2, c2, f2⟩ | ⟨k', m', hk', hm', ek', em', iv', h2⟩
    · exact absurd ⟨iv, ⟨⟨k, hk, ek⟩, ⟨m, hm, em⟩⟩⟩ c2
    · have q1 := k_eq hn.2 hk hk' ek ek'
      have q2 := k_eq hn.1 hm hm' em em'
      subst q1
      subst q2
      rcases h1 with ⟨e1, g1, f1⟩ | ⟨e1, g1, p1, f1⟩
      · rcases h2 with ⟨e2, g2, f2⟩ | ⟨e2, g2, p2, f2⟩
        · exact ⟨e1.trans e2.symm, f1.trans f2.symm⟩
        · rw [g2, p2] at g1; exact absurd g1 (by decide +kernel)
      · rcases h2 with ⟨e2, g2, f2⟩ | ⟨e2, g2, p2, f2⟩
        · rw [g1, p1] at g2; exact absurd g2 (by decide +kernel)
        · exact ⟨e1.trans e2.symm, f1.trans f2.symm⟩
theorem tell_k (e : tA = tM) (hn : T_nb tM ≤ 8 ∧ T_np tM ≤ 8) (h1 : PXtell tA a b c r t1) (h2 : PXtell tM a b c r' t2) : r = r' ∧ t1 = t2 := by
  subst e
  rcases h1 with ⟨e1, c1, f1⟩ | ⟨k, j, m, hk, hj, hm, ek, ej, em, ne, h1⟩
  · rcases h2 with ⟨e2, c2, f2⟩ | ⟨k, j, m, hk, hj, hm, ek, ej, em, ne, h2⟩
    · exact ⟨e1.trans e2.symm, f1.trans f2.symm⟩
    · exact absurd ⟨⟨⟨k, hk, ek⟩, ⟨m, hm, em⟩⟩, ⟨j, hj, ej⟩, fun q => ne (nI_inj (by omega) (by omega) (ek.symm.trans (q.trans ej)))⟩ c1
  · rcases h2 with ⟨e2, c2, f2⟩ | ⟨k', j', m', hk', hj', hm', ek', ej', em', ne', h2⟩
    · exact absurd ⟨⟨⟨k, hk, ek⟩, ⟨m, hm, em⟩⟩, ⟨j, hj, ej⟩, fun q => ne (nI_inj (by omega) (by omega) (ek.symm.trans (q.trans ej)))⟩ c2
    · have q1 := k_eq hn.2 hk hk' ek ek'
      have q2 := k_eq hn.1 hm hm' em em'
      have q3 := k_eq hn.2 hj hj' ej ej'
      subst q1
      subst q2
      subst q3
      rcases h1 with ⟨e1, g1, f1⟩ | ⟨e1, g1, p1, f1⟩
      · rcases h2 with ⟨e2, g2, f2⟩ | ⟨e2, g2, p2, f2⟩
        · exact ⟨e1.trans e2.symm, f1.trans f2.symm⟩
        · rw [g2, p2] at g1; exact absurd g1 (by decide +kernel)
      · rcases h2 with ⟨e2, g2, f2⟩ | ⟨e2, g2, p2, f2⟩
        · rw [g1, p1] at g2; exact absurd g2 (by decide +kernel)
        · exact ⟨e1.trans e2.symm, f1.trans f2.symm⟩
theorem write_k (e : tA = tM) (hn : T_nb tM ≤ 8 ∧ T_np tM ≤ 8) (h1 : PXwrite tA a b r t1) (h2 : PXwrite tM a b r' t2) : r = r' ∧ t1 = t2 := by
  subst e
  rcases h1 with ⟨e1, c1, f1⟩ | ⟨k, m, hk, hm, ek, em, h1⟩
  · rcases h2 with ⟨e2, c2, f2⟩ | ⟨k, m, hk, hm, ek, em, h2⟩
    · exact ⟨e1.trans e2.symm, f1.trans f2.symm⟩
    · exact absurd ⟨⟨k, hk, ek⟩, ⟨m, hm, em⟩⟩ c1
  · rcases h2 with ⟨e2, c2, f2⟩ | ⟨k', m', hk', hm', ek', em', h2⟩
    · exact absurd ⟨⟨k, hk, ek⟩, ⟨m, hm, em⟩⟩ c2
    · have q1 := k_eq hn.2 hk hk' ek ek'
      have q2 := k_eq hn.1 hm hm' em em'
      subst q1
      subst q2
      rcases h1 with ⟨e1, g1, f1⟩ | ⟨e1, g1, p1, n1, f1⟩
      · rcases h2 with ⟨e2, g2, f2⟩ | ⟨e2, g2, p2, n2, f2⟩
        · exact ⟨e1.trans e2.symm, f1.trans f2.symm⟩
        · rw [g2, p2] at g1; rcases g1 with g | g | g
          · cases g
          · cases g
          · exact absurd g n2
      · rcases h2 with ⟨e2, g2, f2⟩ | ⟨e2, g2, p2, n2, f2⟩
        · rw [g1, p1] at g2; rcases g2 with g | g | g
          · cases g
          · cases g
          · exact absurd g n1
        · exact ⟨e1.trans e2.symm, f1.trans f2.symm⟩
theorem town_k {R : Nat ⊕ (TA × Nat)} (e : tA = tM) (h1 : PXtown R tA r t1) (h2 : PXtown R tM r' t2) : r = r' ∧ t1 = t2 := by
  subst e
  rcases h1 with ⟨x, e1, r1, f1⟩ | ⟨x, e1, r1⟩
  · rcases h2 with ⟨y, e2, r2, f2⟩ | ⟨y, e2, r2⟩
    · have q := Sum.inl.inj (e1.symm.trans e2)
      exact ⟨by rw [r1, r2, q], f1.trans f2.symm⟩
    · rw [e1] at e2; cases e2
  · rcases h2 with ⟨y, e2, r2, f2⟩ | ⟨y, e2, r2⟩
    · rw [e1] at e2; cases e2
    · have q := Prod.mk.inj (Sum.inr.inj (e1.symm.trans e2))
      exact ⟨by rw [r1, r2, q.2], q.1⟩
end TW
theorem nbf_0 {f g : Nat → Int32} : nbf f 0 = nbf g 0 := by
  funext i
  show (if i < 0 then nrm (f i) else 128) = if i < 0 then nrm (g i) else 128
  rw [if_neg (by omega), if_neg (by omega)]
noncomputable def SH1 (s : Nat) (fH fS fA : Nat → Int32) (gE : Nat → Int64) (fMh fMo fMz fMk fMa : Nat → Int32) (eR : Nat → Nat → Int64) : Prop := (fMh s = 0 ∧ fH s = -1) ∨ (fMh s = 1 ∧ fH s = fMo s ∧ Rw (fH s) ∧ fS s = fMz s ∧ ∀ n i : Nat, fS s = nI n → n ≤ 40 → i < n → gE (s * 40 + i) = eR s i) ∨ (fMh s = 2 ∧ fH s = 10 + fMk s ∧ Iv (fMk s).toInt64 1 6 ∧ fA s = fMa s)
noncomputable def SHR (fH fS fA : Nat → Int32) (gE : Nat → Int64) (fMh fMo fMz fMk fMa : Nat → Int32) (eR : Nat → Nat → Int64) : Prop := ∀ s, s < 8 → SH1 s fH fS fA gE fMh fMo fMz fMk fMa eR
noncomputable def LR (iKp : Int32) (tA tB : TA) (fH fS fA : Nat → Int32) (gE : Nat → Int64) (kZ : Nat) (fMh fMo fMz fMk fMa : Nat → Int32) (eR : Nat → Nat → Int64) (kY : Nat) (tM : TA) (uP : UM) (fB fMt : Nat → Int32) : Prop := (kZ = kY ∧ (iKp = 0 ↔ isS uP = false) ∧ SHR fH fS fA gE fMh fMo fMz fMk fMa eR) ∧ TWR tA tB fB kZ fMt kY tM uP
noncomputable def LINV (G : va_G) (cy : Nat → ClassId) (A : Nat → Prop) (H : Heap) (aX aM rR rB rO rK : Nat → Nat) : Prop := ∃ (iKp : Int32) (iYe : Int32) (iTv : Int32) (fR : Nat → Int32) (tA : TA) (tB : TA) (iL : Int32) (iBs : Int32) (tU : TA) (tV : TA) (fH : Nat → Int32) (fS : Nat → Int32) (fA : Nat → Int32) (gE : Nat → Int64) (kZ : Nat) (iT1 : Int32) (iT2 : Int32) (iT3 : Int32) (iT4 : Int32) (fB : Nat → Int32) (tD : TA) (fMh : Nat → Int32) (fMo : Nat → Int32) (fMz : Nat → Int32) (gMv : Nat → Int64) (fMk : Nat → Int32) (fMa : Nat → Int32) (fMt : Nat → Int32) (kY : Nat) (fMr : Nat → Int32) (fM3 : Nat → Int32) (fMu : Nat → Int32) (fMy : Nat → Int32) (fMb : Nat → Int32) (eR : Nat → Nat → Int64) (tM : TA) (iEn : Int32) (iTk : Int32) (uP : UM) (uU : UM) (kAt : Nat) (iTo : Int32) (iFr : Int32) (JFi : Int64) (iFa : Int32) (iSt : Int32) (iLv : Int32) (iWs : Int32) (wL : UL) (uS0 : UM) (uS1 : UM) (uS2 : UM) (uS3 : UM) (uS4 : UM) (iOm : Int32), va_P G CL ((XW cy aX iKp iYe iTv fR tA tB iL iBs tU tV fH fS fA gE kZ iT1 iT2 iT3 iT4 fB tD) ++ ((MK cy aM rR rB rO rK fMh fMo fMz gMv fMk fMa fMt kY fMr fM3 fMu fMy fMb eR tM iEn iTk uP uU kAt iTo iFr JFi iFa iSt iLv iWs wL uS0 uS1 uS2 uS3 uS4 iOm) ++ ((oM cy uU) ++ ((oL cy wL) ++ ((oM cy uP) ++ (oM cy uS0 ++ (oM cy uS1 ++ (oM cy uS2 ++ (oM cy uS3 ++ oM cy uS4))))))))) H ∧ va_D A ((XW cy aX iKp iYe iTv fR tA tB iL iBs tU tV fH fS fA gE kZ iT1 iT2 iT3 iT4 fB tD) ++ ((MK cy aM rR rB rO rK fMh fMo fMz gMv fMk fMa fMt kY fMr fM3 fMu fMy fMb eR tM iEn iTk uP uU kAt iTo iFr JFi iFa iSt iLv iWs wL uS0 uS1 uS2 uS3 uS4 iOm) ++ ((oM cy uU) ++ ((oL cy wL) ++ ((oM cy uP) ++ (oM cy uS0 ++ (oM cy uS1 ++ (oM cy uS2 ++ (oM cy uS3 ++ oM cy uS4))))))))) ∧ SX tA tB tD fS kZ ∧ SM tM uP fMz fMa kY ∧ LR iKp tA tB fH fS fA gE kZ fMh fMo fMz fMk fMa eR kY tM uP fB fMt
theorem linv_mk {G : va_G} {cy : Nat → ClassId} {A : Nat → Prop} {H : Heap} {aX aM rR rB rO rK : Nat → Nat} {iKp : Int32} {iYe : Int32} {iTv : Int32} {fR : Nat → Int32} {tA : TA} {tB : TA} {iL : Int32} {iBs : Int32} {tU : TA} {tV : TA} {fH : Nat → Int32} {fS : Nat → Int32} {fA : Nat → Int32} {gE : Nat → Int64} {kZ : Nat} {iT1 : Int32} {iT2 : Int32} {iT3 : Int32} {iT4 : Int32} {fB : Nat → Int32} {tD : TA} {fMh : Nat → Int32} {fMo : Nat → Int32} {fMz : Nat → Int32} {gMv : Nat → Int64} {fMk : Nat → Int32} {fMa : Nat → Int32} {fMt : Nat → Int32} {kY : Nat} {fMr : Nat → Int32} {fM3 : Nat → Int32} {fMu : Nat → Int32} {fMy : Nat → Int32} {fMb : Nat → Int32} {eR : Nat → Nat → Int64} {tM : TA} {iEn : Int32} {iTk : Int32} {uP : UM} {uU : UM} {kAt : Nat} {iTo : Int32} {iFr : Int32} {JFi : Int64} {iFa : Int32} {iSt : Int32} {iLv : Int32} {iWs : Int32} {wL : UL} {uS0 : UM} {uS1 : UM} {uS2 : UM} {uS3 : UM} {uS4 : UM} {iOm : Int32} (hP : va_P G CL ((XW cy aX iKp iYe iTv fR tA tB iL iBs tU tV fH fS fA gE kZ iT1 iT2 iT3 iT4 fB tD) ++ ((MK cy aM rR rB rO rK fMh fMo fMz gMv fMk fMa fMt kY fMr fM3 fMu fMy fMb eR tM iEn iTk uP uU kAt iTo iFr JFi iFa iSt iLv iWs wL uS0 uS1 uS2 uS3 uS4 iOm) ++ ((oM cy uU) ++ ((oL cy wL) ++ ((oM cy uP) ++ (oM cy uS0 ++ (oM cy uS1 ++ (oM cy uS2 ++ (oM cy uS3 ++ oM cy uS4))))))))) H) (hD : va_D A ((XW cy aX iKp iYe iTv fR tA tB iL iBs tU tV fH fS fA gE kZ iT1 iT2 iT3 iT4 fB tD) ++ ((MK cy aM rR rB rO rK fMh fMo fMz gMv fMk fMa fMt kY fMr fM3 fMu fMy fMb eR tM iEn iTk uP uU kAt iTo iFr JFi iFa iSt iLv iWs wL uS0 uS1 uS2 uS3 uS4 iOm) ++ ((oM cy uU) ++ ((oL cy wL) ++ ((oM cy uP) ++ (oM cy uS0 ++ (oM cy uS1 ++ (oM cy uS2 ++ (oM cy uS3 ++ oM cy uS4)))))))))) (hsX : SX tA tB tD fS kZ) (hsM : SM tM uP fMz fMa kY) (hLR : LR iKp tA tB fH fS fA gE kZ fMh fMo fMz fMk fMa eR kY tM uP fB fMt) : LINV G cy A H aX aM rR rB rO rK := ⟨iKp, iYe, iTv, fR, tA, tB, iL, iBs, tU, tV, fH, fS, fA, gE, kZ, iT1, iT2, iT3, iT4, fB, tD, fMh, fMo, fMz, gMv, fMk, fMa, fMt, kY, fMr, fM3, fMu, fMy, fMb, eR, tM, iEn, iTk, uP, uU, kAt, iTo, iFr, JFi, iFa, iSt, iLv, iWs, wL, uS0, uS1, uS2, uS3, uS4, iOm, hP, hD, hsX, hsM, hLR⟩
end
section
/-! what the calls keep: sizes in range -/
noncomputable abbrev NB8 (t : TA) : Prop := T_nb t ≤ 8 ∧ T_np t ≤ 8
theorem nb_book {t t' : TA} {a b r : Int32} (h : NB8 t) (q : PXbook t a b r t') : NB8 t' := by
  rcases q with ⟨-, -, rfl⟩ | ⟨-, -, -, -, rfl⟩ | ⟨-, -, -, h1, rfl⟩
  · exact h
  · exact h
  · exact ⟨h1, h.2⟩
theorem nb_one {t t' : TA} {a b c d r : Int32} (h : NB8 t) (q : PXone t a b c d r t') : NB8 t' := by
  rcases q with ⟨-, -, rfl⟩ | ⟨-, -, -, rfl⟩ | ⟨-, -, h1, rfl⟩
  · exact h
  · exact h
  · exact ⟨h.1, h1⟩
theorem nb_onG (e : Nat → Int64) : ∀ (n i : Nat) (t : TA) (c : Int32), NB8 t → NB8 (onG e n i t c).1 := by
  intro n
  induction n with
  | zero => intro i t c h; exact h
  | succ n ih =>
    intro i t c h
    by_cases h1 : T_np t < 8
    · by_cases h2 : Cbo (e i) (e (i + 1)) (e (i + 2)) (e (i + 3))
      · rw [on_go h1 h2]
        exact ih _ _ _ ⟨h.1, h1⟩
      · rw [on_2 h2]
        exact h
    · rw [on_1 h1]
      exact h
theorem nb_ones {f s : Nat → Int32} {e : Nat → Int64} {t t' : TA} {a n r : Int32} (h : NB8 t) (q : PXones f s e t a n r t') : NB8 t' := by
  rcases q with ⟨-, -, rfl⟩ | ⟨-, -, rfl⟩ | ⟨-, -, rfl⟩ | ⟨k, m, -, -, -, -, -, -, -, e1⟩
  · exact h
  · exact h
  · exact h
  · have := nb_onG (fun i => e (k * 40 + i)) m 0 t 0 h
    rw [← e1] at this
    exact this
theorem nb_alter {t t' : TA} {a b v r : Int32} (h : NB8 t) (q : PXalter t a b v r t') : NB8 t' := by
  rcases q with ⟨-, -, rfl⟩ | ⟨k, m, -, -, -, -, -, ⟨-, -, rfl⟩ | ⟨-, -, rfl⟩⟩ <;> exact h
theorem nb_read {t t' : TA} {a b r : Int32} (h : NB8 t) (q : PXread t a b r t') : NB8 t' := by
  rcases q with ⟨-, -, rfl⟩ | ⟨k, m, -, -, -, -, ⟨-, -, rfl⟩ | ⟨-, -, -, rfl⟩⟩
  · exact h
  · exact h
  · exact ⟨by rw [nb_rd]; exact h.1, by rw [np_rd]; exact h.2⟩
theorem nb_aloud {t t' : TA} {a b o r : Int32} (h : NB8 t) (q : PXaloud t a b o r t') : NB8 t' := by
  rcases q with ⟨-, -, rfl⟩ | ⟨k, m, -, -, -, -, -, ⟨-, -, rfl⟩ | ⟨-, -, -, rfl⟩⟩
  · exact h
  · exact h
  · exact ⟨by rw [nb_hf, nb_rd]; exact h.1, by rw [np_hf, np_rd]; exact h.2⟩
theorem nb_tell {t t' : TA} {a o b r : Int32} (h : NB8 t) (q : PXtell t a o b r t') : NB8 t' := by
  rcases q with ⟨-, -, rfl⟩ | ⟨k, j, m, -, -, -, -, -, -, -, ⟨-, -, rfl⟩ | ⟨-, -, -, rfl⟩⟩ <;> exact h
theorem nb_write {t t' : TA} {a b r : Int32} (h : NB8 t) (q : PXwrite t a b r t') : NB8 t' := by
  rcases q with ⟨-, -, rfl⟩ | ⟨k, m, -, -, -, -, ⟨-, -, rfl⟩ | ⟨-, -, -, -, rfl⟩⟩ <;> exact h
theorem nb_yrG (k a : Int32) : ∀ (n : Nat) (t : TA) (s : Int32), NB8 t → NB8 (yrG k a n t s).1 := by
  intro n
  induction n with
  | zero => intro t s h; exact h
  | succ n ih =>
    intro t s h
    refine ih _ _ ⟨?_, ?_⟩
    · rw [nb_ey, nb_dd, nb_za]; exact h.1
    · rw [np_ey, np_dd, np_za]; exact h.2
theorem nb_years {f am : Nat → Int32} {t t' : TA} {a n r : Int32} (h : NB8 t) (q : PXyears f am t a n r t') : NB8 t' := by
  rcases q with ⟨-, -, rfl⟩ | ⟨-, -, -, rfl⟩ | ⟨-, -, -, rfl⟩ | ⟨k, m, -, -, -, -, -, -, -, e1⟩
  · exact h
  · exact h
  · exact h
  · have := nb_yrG (f k - 10) (am k) m t 0 h
    rw [← e1] at this
    exact this
theorem nb_zey8 {t : TA} (h : NB8 t) : NB8 (zey t) := ⟨by rw [nb_ey]; exact h.1, by rw [np_ey]; exact h.2⟩
theorem sx_t {tA tB tD tN : TA} {fS : Nat → Int32} {kZ : Nat} (h : SX tA tB tD fS kZ) (q : NB8 tN) : SX tN tB tD fS kZ := ⟨q, h.2⟩
theorem sz_upd {f : Nat → Int32} {k n m : Nat} {v : Int32} (h : ∀ s, s < 8 → ∃ n : Nat, n ≤ m ∧ f s = nI n) (hn : n ≤ m) (hv : v = nI n) : ∀ s, s < 8 → ∃ n : Nat, n ≤ m ∧ upd f k v s = nI n := fun s hs => by
  show ∃ n : Nat, n ≤ m ∧ (if s = k then v else f s) = nI n
  by_cases e : s = k
  · rw [if_pos e]
    exact ⟨n, hn, hv⟩
  · rw [if_neg e]
    exact h s hs
theorem sx_row {tA tB tD : TA} {fH fS fY fZ : Nat → Int32} {gE gX : Nat → Int64} {kZ : Nat} {a b c r : Int32} (h : SX tA tB tD fS kZ) (q : PXrow fH fS gE a b c r fY fZ gX) : SX tA tB tD fZ kZ := by
  rcases q with ⟨-, -, -, rfl, -⟩ | ⟨-, k, n, -, h2, -, -, -, -, rfl, -⟩
  · exact h
  · exact ⟨h.1, h.2.1, h.2.2.1, sz_upd h.2.2.2.1 h2 rfl, h.2.2.2.2⟩
theorem fd_le {z z' : Nat} {n r : Int32} (h : z ≤ 250) (q : PXfeed z n r z') : z' ≤ 250 := by
  rcases q with ⟨-, -, rfl⟩ | ⟨k, -, -, -, ⟨-, -, rfl⟩ | ⟨-, h1, rfl⟩⟩
  · exact h
  · exact h
  · exact h1
theorem sx_z {tA tB tD : TA} {fS : Nat → Int32} {kZ kN : Nat} (h : SX tA tB tD fS kZ) (q : kN ≤ 250) : SX tA tB tD fS kN := ⟨h.1, h.2.1, h.2.2.1, h.2.2.2.1, q⟩
theorem sx_town {tA tB tD tN tO : TA} {fS : Nat → Int32} {kZ kN : Nat} (h : SX tA tB tD fS kZ) (q : T_nb tN ≤ 8 ∧ T_np tN ≤ 8 ∧ kN = 0 ∧ T_nb tO ≤ 8) : SX tN tB tO fS kN := ⟨⟨q.1, q.2.1⟩, h.2.1, q.2.2.2, h.2.2.2.1, by have := q.2.2.1; omega⟩
theorem sx_image {tA tB tD tN : TA} {fS : Nat → Int32} {kZ : Nat} (h : SX tA tB tD fS kZ) (q : tN = tA) : SX tA tN tD fS kZ := by
  subst q
  exact ⟨h.1, h.1, h.2.2⟩
theorem sx_back {tA tB tD tN : TA} {fS : Nat → Int32} {kZ : Nat} {i r : Int32} (h : SX tA tB tD fS kZ) (q : (i = 0 ∧ r = -5 ∧ tN = tA) ∨ (¬ i = 0 ∧ r = 1 ∧ tN = tB)) : SX tN tB tD fS kZ := by
  rcases q with ⟨-, -, rfl⟩ | ⟨-, -, rfl⟩
  · exact h
  · exact ⟨h.2.1, h.2⟩
theorem sm_row {tM : TA} {uP : UM} {h z a o h' o' z' : Nat → Int32} {e e' : Nat → Nat → Int64} {k : Nat} {x y c r : Int32} (q0 : SM tM uP z a k) (q : PMrow h o z e x y c r h' o' z' e') : SM tM uP z' a k := by
  rcases q with ⟨-, -, -, -, rfl, -⟩ | ⟨-, m, n, -, h2, -, -, -, -, -, rfl, -⟩
  · exact q0
  · exact ⟨q0.1, q0.2.1, sz_upd q0.2.2.1 h2 rfl, q0.2.2.2⟩
theorem sm_rule {tM : TA} {uP : UM} {h z a w h' w' a' : Nat → Int32} {k : Nat} {x y c r : Int32} (q0 : SM tM uP z a k) (q : PMrule h w a x y c r h' w' a') : SM tM uP z a' k := by
  rcases q with ⟨-, -, -, -, rfl⟩ | ⟨-, m, -, -, -, h5, -, -, rfl⟩
  · exact q0
  · obtain ⟨n, -, hn, rfl⟩ := iv_nI 0 99 (by decide +kernel) (by decide +kernel) h5
    exact ⟨q0.1, q0.2.1, q0.2.2.1, sz_upd q0.2.2.2.1 hn rfl, q0.2.2.2.2⟩
theorem sm_t {tM tN : TA} {uP : UM} {z a : Nat → Int32} {k : Nat} (q0 : SM tM uP z a k) (q : TI tN) : SM tN uP z a k := ⟨q, q0.2⟩
theorem sm_z {tM : TA} {uP : UM} {z a : Nat → Int32} {k n : Nat} (q0 : SM tM uP z a k) (q : n ≤ 250) : SM tM uP z a n := ⟨q0.1, q0.2.1, q0.2.2.1, q0.2.2.2.1, q⟩
theorem sm_town {tM tN : TA} {uP : UM} {z a : Nat → Int32} {k n : Nat} (q0 : SM tM uP z a k) (q : TI tN ∧ n = 0) : SM tN uP z a n := ⟨q.1, q0.2.1, q0.2.2.1, q0.2.2.2.1, by have := q.2; omega⟩
theorem sm_image {tM : TA} {uP uQ : UM} {z a : Nat → Int32} {k : Nat} {r : Int32} (q0 : SM tM uP z a k) (q : r = 1 ∧ isS uQ = true ∧ uT uQ = tM) : SM tM uQ z a k := ⟨q0.1, fun _ => by rw [q.2.2]; exact q0.1, q0.2.2⟩
theorem sm_back {tM tN : TA} {uP : UM} {z a : Nat → Int32} {k : Nat} {r : Int32} (q0 : SM tM uP z a k) (q : (isS uP = false ∧ r = -5 ∧ tN = tM) ∨ (isS uP = true ∧ r = 1 ∧ tN = uT uP)) : SM tN uP z a k := by
  rcases q with ⟨-, -, rfl⟩ | ⟨h1, -, rfl⟩
  · exact q0
  · exact ⟨q0.2.1 h1, q0.2⟩
theorem iv_n40 {n : Nat} (h : n ≤ 40) : Iv (nI n).toInt64 0 40 := ofI (m := 0) (n := 40) (by decide +kernel) (by decide +kernel) ⟨by rw [nI_toInt (by omega)]; omega, by rw [nI_toInt (by omega)]; omega⟩
theorem row_eq {h s h2 o z h' s' h2' o' z' : Nat → Int32} {e e' : Nat → Int64} {f f' : Nat → Nat → Int64} {a b c r r' : Int32} (q : PXrow h s e a b c r h' s' e') (q' : PMrow h2 o z f a b c r' h2' o' z' f') : r = r' := by
  rcases q with ⟨rfl, h1, -⟩ | ⟨rfl, k, n, h1, h2, rfl, rfl, h3, -⟩
  · rcases q' with ⟨rfl, -⟩ | ⟨-, k, n, g1, g2, rfl, rfl, g3, -⟩
    · rfl
    · exact absurd ⟨⟨k, g1, rfl⟩, g3, iv_n40 g2⟩ h1
  · rcases q' with ⟨-, g1, -⟩ | ⟨rfl, -⟩
    · exact absurd ⟨⟨k, h1, rfl⟩, h3, iv_n40 h2⟩ g1
    · rfl
/-! the shelves of both: what the calls on them answer and keep -/
theorem nI_eq8 {a b : Nat} (ha : a < 8) (hb : b < 8) (h : nI a = nI b) : a = b := nI_inj (by omega) (by omega) h
theorem rw_10 {x : Int32} (h : Rw x) : ¬ 10 ≤ x := fun q => h.2 (by
  rw [Int32.lt_iff_toInt_lt]
  rw [Int32.le_iff_toInt_le] at q
  have e1 : (10 : Int32).toInt = 10 := by decide +kernel
  have e2 : (4 : Int32).toInt = 4 := by decide +kernel
  omega)
theorem iv_16 {x : Int32} (h : Iv x.toInt64 1 6) : 10 ≤ 10 + x ∧ ¬ 10 + x = -1 := by
  rcases sw_1_6 x with rfl | rfl | rfl | rfl | rfl | rfl | h1
  · decide
  · decide
  · decide
  · decide
  · decide
  · decide
  · exfalso
    have := toI h (m := 1) (n := 6) (by decide +kernel) (by decide +kernel)
    omega
theorem iv_04 {x : Int32} (h : Iv x.toInt64 0 4) : Rw x := by
  have h1 := toI h (m := 0) (n := 4) (by decide +kernel) (by decide +kernel)
  have e2 : (4 : Int32).toInt = 4 := by decide +kernel
  have e0 : (0 : Int32).toInt = 0 := by decide +kernel
  exact ⟨fun q => by rw [Int32.lt_iff_toInt_lt] at q; omega, fun q => by rw [Int32.lt_iff_toInt_lt] at q; omega⟩
theorem sh_A {s : Nat} {fH fS fA : Nat → Int32} {gE : Nat → Int64} {fMh fMo fMz fMk fMa : Nat → Int32} {eR : Nat → Nat → Int64} (R : SH1 s fH fS fA gE fMh fMo fMz fMk fMa eR) : (10 ≤ fH s ↔ fMh s = 2) ∧ (Rw (fH s) ↔ fMh s = 1) ∧ (fH s = -1 ↔ fMh s = 0) ∧ (fMh s = 0 ∨ fMh s = 1 ∨ fMh s = 2) := by
  have n10 : ¬ (10 : Int32) ≤ -1 := by decide +kernel
  have nrw : ¬ Rw (-1) := fun q => q.1 (by decide +kernel)
  rcases R with ⟨h0, h1⟩ | ⟨h0, h1, h2, -⟩ | ⟨h0, h1, h2, -⟩
  · rw [h0, h1]
    exact ⟨⟨fun q => absurd q n10, fun q => absurd q (by decide +kernel)⟩, ⟨fun q => absurd q nrw, fun q => absurd q (by decide +kernel)⟩, ⟨fun _ => rfl, fun _ => rfl⟩, Or.inl rfl⟩
  · rw [h0]
    exact ⟨⟨fun q => absurd q (rw_10 h2), fun q => absurd q (by decide +kernel)⟩, ⟨fun _ => rfl, fun _ => h2⟩, ⟨fun q => by rw [q] at h2; exact absurd h2 nrw, fun q => absurd q (by decide +kernel)⟩, Or.inr (Or.inl rfl)⟩
  · rw [h0, h1]
    exact ⟨⟨fun _ => rfl, fun _ => (iv_16 h2).1⟩, ⟨fun q => absurd (iv_16 h2).1 (rw_10 q), fun q => absurd q (by decide +kernel)⟩, ⟨fun q => absurd q (iv_16 h2).2, fun q => absurd q (by decide +kernel)⟩, Or.inr (Or.inr rfl)⟩
theorem zr_hit (e : Nat → Int64) (k : Nat) : ∀ (n i : Nat), i < n → zrF e k n (k * 40 + i) = 0 := by
  intro n
  induction n with
  | zero => intro i h; exact absurd h (Nat.not_lt_zero _)
  | succ n ih =>
    intro i h
    show (if k * 40 + i = k * 40 + n then (0 : Int64) else zrF e k n (k * 40 + i)) = 0
    by_cases e1 : i = n
    · rw [if_pos (by omega)]
    · rw [if_neg (by omega)]
      exact ih i (by omega)
theorem zr_off (e : Nat → Int64) (k : Nat) : ∀ (n : Nat), n ≤ 40 → ∀ (s i : Nat), s ≠ k → i < 40 → zrF e k n (s * 40 + i) = e (s * 40 + i) := by
  intro n
  induction n with
  | zero => intro _ s i _ _; rfl
  | succ n ih =>
    intro hn s i hs hi
    show (if s * 40 + i = k * 40 + n then (0 : Int64) else zrF e k n (s * 40 + i)) = _
    rw [if_neg (by omega)]
    exact ih (by omega) s i hs hi
theorem zN_hit (e : Nat → Nat → Int64) (k : Nat) : ∀ (n i : Nat), i < n → zrN e k n k i = 0 := by
  intro n
  induction n with
  | zero => intro i h; exact absurd h (Nat.not_lt_zero _)
  | succ n ih =>
    intro i h
    show updN (zrN e k n) k n 0 k i = 0
    rw [un_u]
    show (if i = n then (0 : Int64) else zrN e k n k i) = 0
    by_cases e1 : i = n
    · rw [if_pos e1]
    · rw [if_neg e1]
      exact ih i (by omega)
theorem zN_off (e : Nat → Nat → Int64) (k : Nat) : ∀ (n s : Nat), s ≠ k → zrN e k n s = e s := by
  intro n
  induction n with
  | zero => intro s _; rfl
  | succ n ih =>
    intro s hs
    show updN (zrN e k n) k n 0 s = _
    rw [un_n hs]
    exact ih s hs
theorem up_s {f : Nat → Int32} {k : Nat} {v : Int32} : upd f k v k = v := if_pos rfl
theorem up_n {f : Nat → Int32} {k s : Nat} {v : Int32} (h : s ≠ k) : upd f k v s = f s := if_neg h
/-- an empty row, or a rule: at the shelf it is new, the others are as they were -/
theorem sh_off {s k : Nat} {fH fS fA : Nat → Int32} {gE gX : Nat → Int64} {fMh fMo fMz fMk fMa : Nat → Int32} {eR eN : Nat → Nat → Int64} {h1 h2 h3 m1 m2 m3 m4 m5 : Nat → Int32} (R : SH1 s fH fS fA gE fMh fMo fMz fMk fMa eR) (e1 : h1 s = fH s) (e2 : h2 s = fS s) (e3 : h3 s = fA s) (e4 : m1 s = fMh s) (e5 : m2 s = fMo s) (e6 : m3 s = fMz s) (e7 : m4 s = fMk s) (e8 : m5 s = fMa s) (e9 : ∀ i, i < 40 → gX (s * 40 + i) = gE (s * 40 + i)) (e10 : ∀ i, i < 40 → eN s i = eR s i) : SH1 s h1 h2 h3 gX m1 m2 m3 m4 m5 eN := by
  unfold SH1 at R ⊢
  rw [e1, e2, e3, e4, e5, e6, e7, e8]
  rcases R with h | ⟨a1, a2, a3, a4, a5⟩ | h
  · exact Or.inl h
  · refine Or.inr (Or.inl ⟨a1, a2, a3, a4, fun n i hn h40 hi => ?_⟩)
    rw [e9 i (by omega), e10 i (by omega)]
    exact a5 n i hn h40 hi
  · exact Or.inr (Or.inr h)
theorem row_k {fH fS fA fY fZ : Nat → Int32} {gE gX : Nat → Int64} {fMh fMo fMz fMk fMa fNh fNo fNz : Nat → Int32} {eR eN : Nat → Nat → Int64} {a b c r r' : Int32} (R : SHR fH fS fA gE fMh fMo fMz fMk fMa eR) (q : PXrow fH fS gE a b c r fY fZ gX) (q' : PMrow fMh fMo fMz eR a b c r' fNh fNo fNz eN) : SHR fY fZ fA gX fNh fNo fNz fMk fMa eN := by
  have e0 := row_eq q q'
  rcases q with ⟨rfl, -, rfl, rfl, rfl⟩ | ⟨rfl, k, n, h1, h2, rfl, rfl, h3, rfl, rfl, rfl⟩
  · rcases q' with ⟨-, -, rfl, rfl, rfl, rfl⟩ | ⟨rfl, -⟩
    · exact R
    · exact absurd e0 (by decide +kernel)
  · rcases q' with ⟨rfl, -⟩ | ⟨-, m, n', g1, g2, ea, en, -, rfl, rfl, rfl, rfl⟩
    · exact absurd e0 (by decide +kernel)
    · have := nI_eq8 h1 g1 ea
      subst this
      have := nI_inj (by omega) (by omega) en
      subst this
      intro s hs
      by_cases e : s = k
      · subst e
        refine Or.inr (Or.inl ⟨up_s, by rw [up_s, up_s], by rw [up_s]; exact iv_04 h3, by rw [up_s, up_s], fun n' i hn _ hi => ?_⟩)
        rw [up_s] at hn
        have := nI_inj (by omega) (by omega) hn
        subst this
        rw [zr_hit _ _ _ _ hi, zN_hit _ _ _ _ (by omega)]
      · exact sh_off (k := k) (R s hs) (up_n e) (up_n e) rfl (up_n e) (up_n e) (up_n e) rfl rfl (fun i hi => zr_off _ _ _ h2 _ _ e hi) (fun i _ => by rw [zN_off _ _ _ _ e])
theorem rule_k {fH fS fA fY fW : Nat → Int32} {gE : Nat → Int64} {fMh fMo fMz fMk fMa fNh fNk fNa : Nat → Int32} {eR : Nat → Nat → Int64} {a b c r r' : Int32} (R : SHR fH fS fA gE fMh fMo fMz fMk fMa eR) (q : PXrule fH fA a b c r fY fW) (q' : PMrule fMh fMk fMa a b c r' fNh fNk fNa) : r = r' ∧ SHR fY fS fW gE fNh fMo fMz fNk fNa eR := by
  rcases q with ⟨rfl, h0, rfl, rfl⟩ | ⟨rfl, k, h1, rfl, h2, h3, rfl, rfl⟩
  · rcases q' with ⟨rfl, -, rfl, rfl, rfl⟩ | ⟨-, k, h1, rfl, h2, h3, -⟩
    · exact ⟨rfl, R⟩
    · exact absurd ⟨⟨k, h1, rfl⟩, h2, h3⟩ h0
  · rcases q' with ⟨-, h0, -⟩ | ⟨rfl, m, g1, ea, -, -, rfl, rfl, rfl⟩
    · exact absurd ⟨⟨k, h1, rfl⟩, h2, h3⟩ h0
    · have := nI_eq8 h1 g1 ea
      subst this
      refine ⟨rfl, fun s hs => ?_⟩
      by_cases e : s = k
      · subst e
        exact Or.inr (Or.inr ⟨up_s, by rw [up_s, up_s], by rw [up_s]; exact h2, by rw [up_s, up_s]⟩)
      · exact sh_off (k := k) (R s hs) (up_n e) rfl (up_n e) (up_n e) rfl rfl (up_n e) (up_n e) (fun _ _ => rfl) (fun _ _ => rfl)
theorem lb_ft {x : Int32} (h : Rw x) (v : Int64) : zlb x v = zft x v := by
  rcases sw_0_4 x with rfl | rfl | rfl | rfl | rfl | h1
  · rfl
  · rfl
  · rfl
  · rfl
  · rfl
  · exfalso
    have e2 : (4 : Int32).toInt = 4 := by decide +kernel
    have e0 : (0 : Int32).toInt = 0 := by decide +kernel
    rcases h1 with h1 | h1
    · exact h.1 (by rw [Int32.lt_iff_toInt_lt]; omega)
    · exact h.2 (by rw [Int32.lt_iff_toInt_lt]; omega)
theorem set_k {fH fS fA : Nat → Int32} {gE gX : Nat → Int64} {fMh fMo fMz fMk fMa : Nat → Int32} {eR eN : Nat → Nat → Int64} {a b r r' : Int32} {v : Int64} (R : SHR fH fS fA gE fMh fMo fMz fMk fMa eR) (q : PXset fH fS gE a b v r gX) (q' : PMset fMh fMo fMz eR a b v r' eN) : r = r' ∧ SHR fH fS fA gX fMh fMo fMz fMk fMa eN := by
  by_cases hs : Sh a
  · obtain ⟨k, hk, rfl⟩ := hs
    obtain ⟨s1, s2, s3, s4⟩ := sh_A (R k hk)
    have hz : fMh k = 1 → fS k = fMz k := fun e => by
      rcases R k hk with ⟨h0, -⟩ | ⟨-, -, -, h1, -⟩ | ⟨h0, -⟩
      · rw [h0] at e; exact absurd e (by decide +kernel)
      · exact h1
      · rw [h0] at e; exact absurd e (by decide +kernel)
    rcases q with ⟨rfl, h0, rfl⟩ | ⟨rfl, ⟨m, hm, e, h0⟩, rfl⟩ | ⟨rfl, ⟨m, hm, e, h0, h1⟩, rfl⟩ | ⟨rfl, m, i, hm, e, h0, h1, hi, rfl, h2, rfl⟩
    · rcases h0 with h0 | ⟨m, hm, e, h0, h1, h2⟩
      · exact absurd ⟨k, hk, rfl⟩ h0
      · have := nI_eq8 hk hm e
        subst this
        have f1 := s2.mp h1
        rcases q' with ⟨rfl, -, rfl⟩ | ⟨rfl, ⟨m, hm, e, g0⟩, rfl⟩ | ⟨rfl, ⟨m, hm, e, g0, g1⟩, rfl⟩ | ⟨rfl, m, i, hm, e, g0, g1, hi, -, g2, -⟩
        · exact ⟨rfl, R⟩
        · have := nI_eq8 hk hm e
          subst this
          rw [f1] at g0; exact absurd g0 (by decide +kernel)
        · have := nI_eq8 hk hm e
          subst this
          rw [f1] at g1; exact absurd g1 (by decide +kernel)
        · have := nI_eq8 hk hm e
          subst this
          rw [← hz f1] at g2; exact absurd g2 h2
    · have := nI_eq8 hk hm e
      subst this
      have f1 := s1.mp h0
      rcases q' with ⟨rfl, g, rfl⟩ | ⟨rfl, -, rfl⟩ | ⟨rfl, ⟨m, hm, e, g0, g1⟩, rfl⟩ | ⟨rfl, m, i, hm, e, g0, g1, hi, -, g2, -⟩
      · rcases g with g | ⟨m, hm, e, g0, g1, g2⟩
        · exact absurd ⟨k, hk, rfl⟩ g
        · have := nI_eq8 hk hm e
          subst this
          exact absurd f1 g0
      · exact ⟨rfl, R⟩
      · have := nI_eq8 hk hm e
        subst this
        exact absurd f1 g0
      · have := nI_eq8 hk hm e
        subst this
        exact absurd f1 g0
    · have := nI_eq8 hk hm e
      subst this
      have f1 : fMh k = 0 := by
        rcases s4 with h | h | h
        · exact h
        · exact absurd (s2.mpr h) h1
        · exact absurd (s1.mpr h) h0
      rcases q' with ⟨rfl, g, rfl⟩ | ⟨rfl, ⟨m, hm, e, g0⟩, rfl⟩ | ⟨rfl, -, rfl⟩ | ⟨rfl, m, i, hm, e, g0, g1, hi, -, g2, -⟩
      · rcases g with g | ⟨m, hm, e, g0, g1, g2⟩
        · exact absurd ⟨k, hk, rfl⟩ g
        · have := nI_eq8 hk hm e
          subst this
          exact absurd f1 g1
      · have := nI_eq8 hk hm e
        subst this
        rw [f1] at g0; exact absurd g0 (by decide +kernel)
      · exact ⟨rfl, R⟩
      · have := nI_eq8 hk hm e
        subst this
        exact absurd f1 g1
    · have := nI_eq8 hk hm e
      subst this
      have f1 := s2.mp h1
      rcases q' with ⟨rfl, g, rfl⟩ | ⟨rfl, ⟨m, hm, e, g0⟩, rfl⟩ | ⟨rfl, ⟨m, hm, e, g0, g1⟩, rfl⟩ | ⟨rfl, m, j, hm, e, g0, g1, hj, ej, g2, rfl⟩
      · rcases g with g | ⟨m, hm, e, g0, g1, g2⟩
        · exact absurd ⟨k, hk, rfl⟩ g
        · have := nI_eq8 hk hm e
          subst this
          rw [← hz f1] at g2
          exact absurd h2 g2
      · have := nI_eq8 hk hm e
        subst this
        rw [f1] at g0; exact absurd g0 (by decide +kernel)
      · have := nI_eq8 hk hm e
        subst this
        rw [f1] at g1; exact absurd g1 (by decide +kernel)
      · have := nI_eq8 hk hm e
        subst this
        have := nI_inj (by omega) (by omega) ej
        subst this
        refine ⟨rfl, fun s hs => ?_⟩
        by_cases es : s = k
        · subst es
          rcases R s hs with ⟨x0, -⟩ | ⟨x1, x2, x3, x4, x5⟩ | ⟨x0, -⟩
          · rw [f1] at x0; exact absurd x0 (by decide +kernel)
          · refine Or.inr (Or.inl ⟨x1, x2, x3, x4, fun n y hn h40 hy => ?_⟩)
            rw [un_u]
            show (if s * 40 + y = s * 40 + i then zlb (fH s) v else gE (s * 40 + y)) = (if y = i then zft (fMo s) v else eR s y)
            by_cases ey : y = i
            · rw [if_pos (by omega), if_pos ey, ← x2]
              exact lb_ft x3 v
            · rw [if_neg (by omega), if_neg ey]
              exact x5 n y hn h40 hy
          · rw [f1] at x0; exact absurd x0 (by decide +kernel)
        · refine sh_off (k := k) (R s hs) rfl rfl rfl rfl rfl rfl rfl rfl (fun y hy => ?_) (fun y _ => by rw [un_n es])
          show (if s * 40 + y = k * 40 + i then zlb (fH k) v else gE (s * 40 + y)) = _
          rw [if_neg (by omega)]
  · rcases q with ⟨rfl, -, rfl⟩ | ⟨-, ⟨m, hm, e, -⟩, -⟩ | ⟨-, ⟨m, hm, e, -⟩, -⟩ | ⟨-, m, -, hm, e, -⟩
    · rcases q' with ⟨rfl, -, rfl⟩ | ⟨-, ⟨m, hm, e, -⟩, -⟩ | ⟨-, ⟨m, hm, e, -⟩, -⟩ | ⟨-, m, -, hm, e, -⟩
      · exact ⟨rfl, R⟩
      · exact absurd ⟨m, hm, e⟩ hs
      · exact absurd ⟨m, hm, e⟩ hs
      · exact absurd ⟨m, hm, e⟩ hs
    · exact absurd ⟨m, hm, e⟩ hs
    · exact absurd ⟨m, hm, e⟩ hs
    · exact absurd ⟨m, hm, e⟩ hs
theorem holds_eq {fH fS fA : Nat → Int32} {gE : Nat → Int64} {fMh fMo fMz fMk fMa : Nat → Int32} {eR : Nat → Nat → Int64} {a r r' : Int32} (R : SHR fH fS fA gE fMh fMo fMz fMk fMa eR) (q : PXholds fH a r) (q' : PMholds fMh fMo fMk a r') : r = r' := by
  rcases q with ⟨rfl, h0⟩ | ⟨k, hk, rfl, rfl⟩
  · rcases q' with ⟨rfl, -⟩ | ⟨m, hm, e, -⟩
    · rfl
    · exact absurd ⟨m, hm, e⟩ h0
  · rcases q' with ⟨-, h0⟩ | ⟨m, hm, e, h⟩
    · exact absurd ⟨k, hk, rfl⟩ h0
    · have := nI_eq8 hk hm e
      subst this
      rcases R k hk with ⟨x0, x1⟩ | ⟨x0, x1, -⟩ | ⟨x0, x1, -⟩ <;> rw [x0] at h <;> rcases h with ⟨y0, rfl⟩ | ⟨y0, rfl⟩ | ⟨y0, y1, rfl⟩
      · exact x1
      · exact absurd y0 (by decide +kernel)
      · exact absurd rfl y0
      · exact absurd y0 (by decide +kernel)
      · exact x1
      · exact absurd rfl y1
      · exact absurd y0 (by decide +kernel)
      · exact absurd y0 (by decide +kernel)
      · exact x1
theorem elem_eq {fH fS fA : Nat → Int32} {gE : Nat → Int64} {fMh fMo fMz fMk fMa : Nat → Int32} {eR : Nat → Nat → Int64} {a b : Int32} {r r' : Int64} (hSz : ∀ s, s < 8 → ∃ n : Nat, n ≤ 40 ∧ fS s = nI n) (R : SHR fH fS fA gE fMh fMo fMz fMk fMa eR) (q : PXelem fH fS gE a b r) (q' : PMelem fMh fMz eR a b r') : r = r' := by
  have key : ∀ k, k < 8 → (fMh k = 1 ↔ Rw (fH k)) ∧ (fMh k = 1 → fS k = fMz k) := fun k hk => by
    refine ⟨(sh_A (R k hk)).2.1.symm, fun e => ?_⟩
    rcases R k hk with ⟨h0, -⟩ | ⟨-, -, -, h1, -⟩ | ⟨h0, -⟩
    · rw [h0] at e; exact absurd e (by decide +kernel)
    · exact h1
    · rw [h0] at e; exact absurd e (by decide +kernel)
  rcases q with ⟨rfl, h0⟩ | ⟨k, i, hk, rfl, h0, h1, hi, rfl, h2, rfl⟩
  · rcases q' with ⟨rfl, -⟩ | ⟨k, i, hk, rfl, h1, hi, rfl, h2, rfl⟩
    · rfl
    · have f1 := (key k hk).1.mp h1
      exact absurd ⟨k, hk, rfl, rw_10 f1, f1, by rw [(key k hk).2 h1]; exact h2⟩ h0
  · have f1 := (key k hk).1.mpr h1
    rcases q' with ⟨rfl, h0⟩ | ⟨m, j, hm, e, h3, hj, ej, h4, rfl⟩
    · exact absurd ⟨k, hk, rfl, f1, by rw [← (key k hk).2 f1]; exact h2⟩ h0
    · have := nI_eq8 hk hm e
      subst this
      have := nI_inj (by omega) (by omega) ej
      subst this
      rcases R k hk with ⟨x0, -⟩ | ⟨x1, x2, x3, x4, x5⟩ | ⟨x0, -⟩
      · rw [f1] at x0; exact absurd x0 (by decide +kernel)
      · obtain ⟨n, hn, en⟩ := hSz k hk
        obtain ⟨i', hi', ei⟩ := sz_in en hn h2
        have := nI_inj (by omega) (by omega) ei
        subst this
        exact x5 n i en hn hi'
      · rw [f1] at x0; exact absurd x0 (by decide +kernel)
theorem feed_eq {z y z' w' : Nat} {n r r' : Int32} (hz : z = y) (q : PXfeed z n r z') (q' : PXfeed y n r' w') : r = r' ∧ z' = w' := by
  subst hz
  rcases q with ⟨rfl, h0, rfl⟩ | ⟨k, h1, h2, rfl, h3⟩
  · rcases q' with ⟨rfl, -, rfl⟩ | ⟨k, h1, h2, rfl, -⟩
    · exact ⟨rfl, rfl⟩
    · exact absurd (ofI (m := 1) (n := 4) (by decide +kernel) (by decide +kernel) ⟨by rw [nI_toInt (by omega)]; omega, by rw [nI_toInt (by omega)]; omega⟩) h0
  · rcases q' with ⟨rfl, h0, rfl⟩ | ⟨m, g1, g2, e, g3⟩
    · exact absurd (ofI (m := 1) (n := 4) (by decide +kernel) (by decide +kernel) ⟨by rw [nI_toInt (by omega)]; omega, by rw [nI_toInt (by omega)]; omega⟩) h0
    · have := nI_inj (by omega) (by omega) e
      subst this
      rcases h3 with ⟨rfl, a1, rfl⟩ | ⟨rfl, a1, rfl⟩ <;> rcases g3 with ⟨rfl, b1, rfl⟩ | ⟨rfl, b1, rfl⟩
      · exact ⟨rfl, rfl⟩
      · omega
      · omega
      · exact ⟨rfl, rfl⟩
theorem back_eq {iK r r' : Int32} {tA tB tN tM tN' : TA} {uP : UM} (h : iK = 0 ↔ isS uP = false) (q : (iK = 0 ∧ r = -5 ∧ tN = tA) ∨ (¬ iK = 0 ∧ r = 1 ∧ tN = tB)) (q' : (isS uP = false ∧ r' = -5 ∧ tN' = tM) ∨ (isS uP = true ∧ r' = 1 ∧ tN' = uT uP)) : r = r' := by
  rcases q with ⟨h1, rfl, -⟩ | ⟨h1, rfl, -⟩ <;> rcases q' with ⟨g1, rfl, -⟩ | ⟨g1, rfl, -⟩
  · rfl
  · rw [h.mp h1] at g1; cases g1
  · exact absurd (h.mpr g1) h1
  · rfl
theorem spn_to {i n m : Nat} (hm : m ≤ 40) (h : i + n ≤ m) : Spn (nI i) (nI n) (nI m) := by
  refine ⟨nI_pos (by omega), nI_pos (by omega), Int32.not_lt.mpr ((lg_cmp_le _ _).mpr ?_)⟩
  have e : (nI i).toInt64 + (nI n).toInt64 = (nI (i + n)).toInt64 := by
    apply Int64.toInt_inj.mp
    rw [Int64.toInt_add, Int32.toInt_toInt64, Int32.toInt_toInt64, Int32.toInt_toInt64, nI_toInt (by omega), nI_toInt (by omega), nI_toInt (by omega)]
    rw [Int.bmod_eq_of_le (by omega) (by omega)]
    omega
  rw [e, Int64.le_iff_toInt_le, Int32.toInt_toInt64, Int32.toInt_toInt64, nI_toInt (by omega), nI_toInt (by omega)]
  omega
theorem spm_iff {c d n : Int32} {a b : Nat} (ha : a ≤ 40) (hb : b ≤ 40) : SpM c d n (nI a) (nI b) ↔ (Spn c n (nI a) ∧ Spn d n (nI b)) := by
  constructor
  · rintro ⟨h1, h2, h3, h4, h5, h6, h7⟩
    obtain ⟨z, hz, rfl⟩ := nI_of h1
    obtain ⟨i, hi, rfl⟩ := nI_of h2
    obtain ⟨j, hj, rfl⟩ := nI_of h3
    rw [Int32.lt_iff_toInt_lt, nI_toInt (by omega), nI_toInt (by omega)] at h4 h5
    rw [Int32.lt_iff_toInt_lt, pk_sub_toInt (by omega) (by omega), nI_toInt (by omega)] at h6
    rw [Int32.le_iff_toInt_le, pk_sub_toInt (by omega) (by omega), nI_toInt (by omega)] at h7
    exact ⟨spn_to ha (by omega), spn_to hb (by omega)⟩
  · rintro ⟨h1, h2⟩
    obtain ⟨i, z, e1, rfl, rfl⟩ := spn_of rfl ha h1
    obtain ⟨j, w, e2, rfl, ew⟩ := spn_of rfl hb h2
    have := nI_inj (by omega) (by omega) ew
    subst this
    refine ⟨nI_pos (by omega), nI_pos (by omega), nI_pos (by omega), ?_, ?_, ?_, ?_⟩
    · rw [Int32.lt_iff_toInt_lt, nI_toInt (by omega), nI_toInt (by omega)]; omega
    · rw [Int32.lt_iff_toInt_lt, nI_toInt (by omega), nI_toInt (by omega)]; omega
    · rw [Int32.lt_iff_toInt_lt, pk_sub_toInt (by omega) (by omega), nI_toInt (by omega)]; omega
    · rw [Int32.le_iff_toInt_le, pk_sub_toInt (by omega) (by omega), nI_toInt (by omega)]; omega
theorem copy_k {fH fS fA : Nat → Int32} {gE gX : Nat → Int64} {fMh fMo fMz fMk fMa : Nat → Int32} {eR eN : Nat → Nat → Int64} {a b c d n r r' : Int32} (hSz : ∀ s, s < 8 → ∃ n : Nat, n ≤ 40 ∧ fS s = nI n) (R : SHR fH fS fA gE fMh fMo fMz fMk fMa eR) (q : PXcopy fH fS gE a b c d n r gX) (q' : PMcopy fMh fMo fMz eR a b c d n r' eN) : r = r' ∧ SHR fH fS fA gX fMh fMo fMz fMk fMa eN := by
  by_cases hs : ∃ k m : Nat, k < 8 ∧ m < 8 ∧ a = nI k ∧ b = nI m
  · obtain ⟨k, m, hk, hm, rfl, rfl⟩ := hs
    obtain ⟨s1, s2, s3, s4⟩ := sh_A (R k hk)
    obtain ⟨t1, t2, t3, t4⟩ := sh_A (R m hm)
    have row1 : ∀ s, s < 8 → fMh s = 1 → fH s = fMo s ∧ fS s = fMz s ∧ ∀ n i, fS s = nI n → n ≤ 40 → i < n → gE (s * 40 + i) = eR s i := fun s hs e => by
      rcases R s hs with ⟨h0, -⟩ | ⟨-, h1, -, h2, h3⟩ | ⟨h0, -⟩
      · rw [h0] at e; exact absurd e (by decide +kernel)
      · exact ⟨h1, h2, h3⟩
      · rw [h0] at e; exact absurd e (by decide +kernel)
    have un : ∀ {x y : Nat}, x < 8 → y < 8 → nI k = nI x → nI m = nI y → x = k ∧ y = m := fun hx hy e1 e2 => ⟨(nI_eq8 hk hx e1).symm, (nI_eq8 hm hy e2).symm⟩
    obtain ⟨zk, hzk, ezk⟩ := hSz k hk
    obtain ⟨zm, hzm, ezm⟩ := hSz m hm
    -- what the reference says, at these shelves
    have M : (r' = -2 ∧ fMh k = 1 ∧ fMh m = 1 ∧ fMo k = fMo m ∧ ¬ SpM c d n (fMz k) (fMz m) ∧ eN = eR) ∨ (r' = -3 ∧ (fMh k = 2 ∨ fMh m = 2 ∨ (fMh k = 1 ∧ fMh m = 1 ∧ ¬ fMo k = fMo m)) ∧ eN = eR) ∨ (r' = -4 ∧ ¬ fMh k = 2 ∧ ¬ fMh m = 2 ∧ (fMh k = 0 ∨ fMh m = 0) ∧ eN = eR) ∨ (r' = n ∧ fMh k = 1 ∧ fMh m = 1 ∧ fMo k = fMo m ∧ SpM c d n (fMz k) (fMz m) ∧ ∃ i j x : Nat, c = nI i ∧ d = nI j ∧ n = nI x ∧ i + x ≤ 40 ∧ j + x ≤ 40 ∧ ∀ s y, eN s y = if s = m ∧ j ≤ y ∧ y < j + x then eR k (i + (y - j)) else eR s y) := by
      have one : ∀ s, (fMh s = 0 ∨ fMh s = 1 ∨ fMh s = 2) → ¬ fMh s = 2 → ¬ fMh s = 0 → fMh s = 1 := fun s h g1 g2 => by
        rcases h with h | h | h
        · exact absurd h g2
        · exact h
        · exact absurd h g1
      rcases q' with ⟨e, g, e2⟩ | ⟨e, ⟨x, y, hx, hy, ex, ey, g⟩, e2⟩ | ⟨e, ⟨x, y, hx, hy, ex, ey, g⟩, e2⟩ | ⟨e, x, y, i, j, z, hx, hy, ex, ey, g1, g2, g3, g4, g5, g6, g7, g8, gb1, gb2, g9, g10⟩
      · rcases g with g | ⟨x, y, hx, hy, ex, ey, g1, g2, g3, g4, g5, g6⟩
        · exact absurd ⟨k, m, hk, hm, rfl, rfl⟩ g
        · obtain ⟨rfl, rfl⟩ := un hx hy ex ey
          have f1 := one _ s4 g1 g3
          have f2 := one _ t4 g2 g4
          exact Or.inl ⟨e, f1, f2, g5 f1 f2, g6, e2⟩
      · obtain ⟨rfl, rfl⟩ := un hx hy ex ey
        exact Or.inr (Or.inl ⟨e, g, e2⟩)
      · obtain ⟨rfl, rfl⟩ := un hx hy ex ey
        exact Or.inr (Or.inr (Or.inl ⟨e, g.1, g.2.1, g.2.2, e2⟩))
      · obtain ⟨rfl, rfl⟩ := un hx hy ex ey
        have f1 := one _ s4 g1 g3
        have f2 := one _ t4 g2 g4
        exact Or.inr (Or.inr (Or.inr ⟨e, f1, f2, g5 f1 f2, g9, i, j, z, g6, g7, g8, gb1, gb2, g10⟩))
    have X : (r = -2 ∧ fMh k = 1 ∧ fMh m = 1 ∧ fMo k = fMo m ∧ ¬ SpM c d n (fMz k) (fMz m) ∧ gX = gE) ∨ (r = -3 ∧ (fMh k = 2 ∨ fMh m = 2 ∨ (fMh k = 1 ∧ fMh m = 1 ∧ ¬ fMo k = fMo m)) ∧ gX = gE) ∨ (r = -4 ∧ ¬ fMh k = 2 ∧ ¬ fMh m = 2 ∧ (fMh k = 0 ∨ fMh m = 0) ∧ gX = gE) ∨ (r = n ∧ fMh k = 1 ∧ fMh m = 1 ∧ fMo k = fMo m ∧ SpM c d n (fMz k) (fMz m) ∧ ∃ i j x : Nat, c = nI i ∧ d = nI j ∧ n = nI x ∧ i + x ≤ 40 ∧ j + x ≤ 40 ∧ gX = va_cpy gE gE (k * 40 + i) (m * 40 + j) x) := by
      have zero : ∀ s, (fMh s = 0 ∨ fMh s = 1 ∨ fMh s = 2) → ¬ fMh s = 1 → ¬ fMh s = 2 → fMh s = 0 := fun s h g1 g2 => by
        rcases h with h | h | h
        · exact h
        · exact absurd h g1
        · exact absurd h g2
      have spe : fMh k = 1 → fMh m = 1 → (SpM c d n (fMz k) (fMz m) ↔ (Spn c n (fS k) ∧ Spn d n (fS m))) := fun f1 f2 => by
        rw [← (row1 k hk f1).2.1, ← (row1 m hm f2).2.1, ezk, ezm]
        exact spm_iff hzk hzm
      rcases q with ⟨e, g, e2⟩ | ⟨e, ⟨x, y, hx, hy, ex, ey, g⟩, e2⟩ | ⟨e, ⟨x, y, hx, hy, ex, ey, g⟩, e2⟩ | ⟨e, x, y, i, j, z, hx, hy, ex, ey, g1, g2, g3, g4, g5, g6, g7, g8, g9, g10, g11⟩
      · rcases g with g | ⟨x, y, hx, hy, ex, ey, g1, g2, g3, g4⟩
        · exact absurd ⟨k, m, hk, hm, rfl, rfl⟩ g
        · obtain ⟨rfl, rfl⟩ := un hx hy ex ey
          have f1 := s2.mp g1
          have f2 := t2.mp g2
          exact Or.inl ⟨e, f1, f2, by rw [← (row1 _ hk f1).1, ← (row1 _ hm f2).1]; exact g3, fun h => g4 ((spe f1 f2).mp h), e2⟩
      · obtain ⟨rfl, rfl⟩ := un hx hy ex ey
        refine Or.inr (Or.inl ⟨e, ?_, e2⟩)
        rcases g with g | g | ⟨g1, g2, g3⟩
        · exact Or.inl (s1.mp g)
        · exact Or.inr (Or.inl (t1.mp g))
        · have f1 := s2.mp g1
          have f2 := t2.mp g2
          exact Or.inr (Or.inr ⟨f1, f2, by rw [← (row1 _ hk f1).1, ← (row1 _ hm f2).1]; exact g3⟩)
      · obtain ⟨rfl, rfl⟩ := un hx hy ex ey
        have f1 : ¬ fMh x = 2 := fun h => g.1 (s1.mpr h)
        have f2 : ¬ fMh y = 2 := fun h => g.2.1 (t1.mpr h)
        refine Or.inr (Or.inr (Or.inl ⟨e, f1, f2, ?_, e2⟩))
        rcases g.2.2 with g3 | g3
        · exact Or.inl (zero _ s4 (fun h => g3 (s2.mpr h)) f1)
        · exact Or.inr (zero _ t4 (fun h => g3 (t2.mpr h)) f2)
      · obtain ⟨rfl, rfl⟩ := un hx hy ex ey
        have f1 := s2.mp g1
        have f2 := t2.mp g2
        exact Or.inr (Or.inr (Or.inr ⟨e, f1, f2, by rw [← (row1 _ hk f1).1, ← (row1 _ hm f2).1]; exact g3, (spe f1 f2).mpr ⟨g4, g5⟩, i, j, z, g6, g7, g8, g9, g10, g11⟩))
    rcases X with ⟨e, a1, a2, a3, a4, e2⟩ | ⟨e, a1, e2⟩ | ⟨e, a1, a2, a3, e2⟩ | ⟨e, a1, a2, a3, a4, i, j, x, ei, ej, ex, hi, hj, e2⟩ <;> rcases M with ⟨f, b1, b2, b3, b4, f2⟩ | ⟨f, b1, f2⟩ | ⟨f, b1, b2, b3, f2⟩ | ⟨f, b1, b2, b3, b4, i', j', x', fi, fj, fx, fb1, fb2, f2⟩
    · exact ⟨e.trans f.symm, by rw [e2, f2]; exact R⟩
    · exfalso
      rw [a1, a2] at b1
      rcases b1 with b1 | b1 | b1
      · exact absurd b1 (by decide +kernel)
      · exact absurd b1 (by decide +kernel)
      · exact b1.2.2 a3
    · exfalso
      rw [a1, a2] at b3
      rcases b3 with b3 | b3 <;> exact absurd b3 (by decide +kernel)
    · exact absurd b4 a4
    · exfalso
      rw [b1, b2] at a1
      rcases a1 with b | b | b
      · exact absurd b (by decide +kernel)
      · exact absurd b (by decide +kernel)
      · exact b.2.2 b3
    · exact ⟨e.trans f.symm, by rw [e2, f2]; exact R⟩
    · exfalso
      rcases a1 with b | b | b
      · exact b1 b
      · exact b2 b
      · rw [b.1, b.2.1] at b3
        rcases b3 with b3 | b3 <;> exact absurd b3 (by decide +kernel)
    · exfalso
      rw [b1, b2] at a1
      rcases a1 with b | b | b
      · exact absurd b (by decide +kernel)
      · exact absurd b (by decide +kernel)
      · exact b.2.2 b3
    · exfalso
      rw [b1, b2] at a3
      rcases a3 with b | b <;> exact absurd b (by decide +kernel)
    · exfalso
      rcases b1 with b | b | b
      · exact a1 b
      · exact a2 b
      · rw [b.1, b.2.1] at a3
        rcases a3 with b | b <;> exact absurd b (by decide +kernel)
    · exact ⟨e.trans f.symm, by rw [e2, f2]; exact R⟩
    · exfalso
      rw [b1, b2] at a3
      rcases a3 with b | b <;> exact absurd b (by decide +kernel)
    · exact absurd a4 b4
    · exfalso
      rw [a1, a2] at b1
      rcases b1 with b | b | b
      · exact absurd b (by decide +kernel)
      · exact absurd b (by decide +kernel)
      · exact b.2.2 a3
    · exfalso
      rw [a1, a2] at b3
      rcases b3 with b | b <;> exact absurd b (by decide +kernel)
    · refine ⟨e.trans f.symm, fun s hs => ?_⟩
      obtain ⟨sp1, sp2⟩ := (spm_iff hzk hzm).mp (by rw [← ezk, ← ezm, (row1 k hk a1).2.1, (row1 m hm a2).2.1]; exact a4)
      obtain ⟨u1, v1, w1, eu1, ev1⟩ := spn_of rfl hzk sp1
      obtain ⟨u2, v2, w2, eu2, ev2⟩ := spn_of rfl hzm sp2
      subst ei ej ex
      have q1 := nI_inj (by omega) (by omega) eu1
      have q2 := nI_inj (by omega) (by omega) ev1
      have q3 := nI_inj (by omega) (by omega) eu2
      have q4 := nI_inj (by omega) (by omega) ev2
      have q5 := nI_inj (by omega) (by omega) fi
      have q6 := nI_inj (by omega) (by omega) fj
      have q7 := nI_inj (by omega) (by omega) fx
      subst q1 q2 q3 q4 q5 q6 q7
      subst e2
      by_cases es : s = m
      · subst es
        rcases R s hs with ⟨x0, -⟩ | ⟨x1, x2, x3, x4, x5⟩ | ⟨x0, -⟩
        · rw [a2] at x0; exact absurd x0 (by decide +kernel)
        · refine Or.inr (Or.inl ⟨x1, x2, x3, x4, fun n' y hn' h40 hy => ?_⟩)
          have q8 : n' = zm := nI_inj (by omega) (by omega) (hn'.symm.trans ezm)
          subst q8
          rw [f2]
          show (if s * 40 + j ≤ s * 40 + y ∧ s * 40 + y < s * 40 + j + x then gE (k * 40 + i + (s * 40 + y - (s * 40 + j))) else gE (s * 40 + y)) = _
          by_cases c1 : j ≤ y ∧ y < j + x
          · rw [if_pos (by omega), if_pos ⟨rfl, c1⟩, show k * 40 + i + (s * 40 + y - (s * 40 + j)) = k * 40 + (i + (y - j)) by omega]
            exact (row1 k hk a1).2.2 zk (i + (y - j)) ezk hzk (by omega)
          · rw [if_neg (by omega), if_neg (fun q => c1 q.2)]
            exact x5 n' y hn' h40 hy
        · rw [a2] at x0; exact absurd x0 (by decide +kernel)
      · refine sh_off (k := k) (R s hs) rfl rfl rfl rfl rfl rfl rfl rfl (fun y hy => ?_) (fun y _ => ?_)
        · show (if m * 40 + j ≤ s * 40 + y ∧ s * 40 + y < m * 40 + j + x then gE (k * 40 + i + (s * 40 + y - (m * 40 + j))) else gE (s * 40 + y)) = _
          rw [if_neg (by omega)]
        · rw [f2, if_neg (fun q => es q.1)]
  · rcases q with ⟨rfl, -, rfl⟩ | ⟨-, ⟨x, y, hx, hy, ex, ey, -⟩, -⟩ | ⟨-, ⟨x, y, hx, hy, ex, ey, -⟩, -⟩ | ⟨-, x, y, i, j, z, hx, hy, ex, ey, -⟩
    · rcases q' with ⟨rfl, -, rfl⟩ | ⟨-, ⟨x, y, hx, hy, ex, ey, -⟩, -⟩ | ⟨-, ⟨x, y, hx, hy, ex, ey, -⟩, -⟩ | ⟨-, x, y, i, j, z, hx, hy, ex, ey, -⟩
      · exact ⟨rfl, R⟩
      · exact absurd ⟨x, y, hx, hy, ex, ey⟩ hs
      · exact absurd ⟨x, y, hx, hy, ex, ey⟩ hs
      · exact absurd ⟨x, y, hx, hy, ex, ey⟩ hs
    · exact absurd ⟨x, y, hx, hy, ex, ey⟩ hs
    · exact absurd ⟨x, y, hx, hy, ex, ey⟩ hs
    · exact absurd ⟨x, y, hx, hy, ex, ey⟩ hs
theorem lcmp_0 {x y : Int64} (h : x = y) : lg_cmp x y = 0 := by
  subst h
  have h1 := (lg_cmp_le x x).mpr (Int64.le_refl x)
  have h2 := (lg_cmp_ge x x).mpr (Int64.le_refl x)
  rw [Int32.le_iff_toInt_le] at h1 h2
  have e0 : (0 : Int32).toInt = 0 := by decide +kernel
  exact eqI (n := 0) (by decide +kernel) (by omega)
theorem exk {P : Nat → Prop} {k : Nat} (hk : k < 8) (h : ∃ k' : Nat, k' < 8 ∧ nI k = nI k' ∧ P k') : P k := by
  obtain ⟨k', h1, h2, h3⟩ := h
  rw [nI_eq8 hk h1 h2]
  exact h3
theorem rem4 : ∀ m, m < 11 → nI (4 * m) - nI (4 * m) / 4 * 4 = 0 := by decide +kernel
theorem iv0_of {x z : Int32} (h0 : ¬ x < 0) (h : x ≤ z) : Iv x.toInt64 0 z.toInt64 := by
  rw [Iv_iff, Int64.le_iff_toInt_le, Int64.le_iff_toInt_le, Int32.toInt_toInt64, Int32.toInt_toInt64]
  have h0 := Int32.not_lt.mp h0
  rw [Int32.le_iff_toInt_le] at h0 h
  exact ⟨h0, h⟩
theorem iv0_to {x z : Int32} (h : Iv x.toInt64 0 z.toInt64) : ¬ x < 0 ∧ x ≤ z := by
  obtain ⟨h1, h2⟩ := Iv_iff.mp h
  rw [Int64.le_iff_toInt_le, Int32.toInt_toInt64] at h1 h2
  rw [Int32.toInt_toInt64] at h2
  exact ⟨Int32.not_lt.mpr (Int32.le_iff_toInt_le.mpr h1), Int32.le_iff_toInt_le.mpr h2⟩
section SHK
variable {fH fS fA : Nat → Int32} {gE : Nat → Int64} {fMh fMo fMz fMk fMa : Nat → Int32} {eR : Nat → Nat → Int64}
theorem sh_0 {s : Nat} (R : SH1 s fH fS fA gE fMh fMo fMz fMk fMa eR) (h1 : ¬ fMh s = 1) (h2 : ¬ fMh s = 2) : fMh s = 0 := by
  rcases R with q | q | q
  · exact q.1
  · exact absurd q.1 h1
  · exact absurd q.1 h2
theorem sh_1 {s : Nat} (R : SH1 s fH fS fA gE fMh fMo fMz fMk fMa eR) (h : fMh s = 1) : fS s = fMz s ∧ ∀ n i : Nat, fS s = nI n → n ≤ 40 → i < n → gE (s * 40 + i) = eR s i := by
  rcases R with q | q | q
  · rw [q.1] at h; exact absurd h (by decide +kernel)
  · exact q.2.2.2
  · rw [q.1] at h; exact absurd h (by decide +kernel)
theorem sh_2 {s : Nat} (R : SH1 s fH fS fA gE fMh fMo fMz fMk fMa eR) (h : fMh s = 2) : fH s = 10 + fMk s ∧ Iv (fMk s).toInt64 1 6 ∧ fA s = fMa s := by
  rcases R with q | q | q
  · rw [q.1] at h; exact absurd h (by decide +kernel)
  · rw [q.1] at h; exact absurd h (by decide +kernel)
  · exact q.2
theorem sh_n {s : Nat} (R : SH1 s fH fS fA gE fMh fMo fMz fMk fMa eR) (h1 : ¬ fMh s = 1) (h0 : ¬ fMh s = 0) : fMh s = 2 := by
  rcases R with q | q | q
  · exact absurd q.1 h0
  · exact absurd q.1 h1
  · exact q.1
theorem shr_mk (R : SHR fH fS fA gE fMh fMo fMz fMk fMa eR) : ∀ s, s < 8 → ¬ fMh s = 1 → ¬ fMh s = 0 → Iv (fMk s).toInt64 1 6 := fun s hs h1 h0 => (sh_2 (R s hs) (sh_n (R s hs) h1 h0)).2.1
theorem ones_k {tA tM t1 t2 : TA} {a n r r' : Int32} (hSz : ∀ s, s < 8 → ∃ n : Nat, n ≤ 40 ∧ fS s = nI n) (R : SHR fH fS fA gE fMh fMo fMz fMk fMa eR) (e : tA = tM) (h1 : PXones fH fS gE tA a n r t1) (h2 : PMones fMh fMz eR tM a n r' t2) : r = r' ∧ t1 = t2 := by
  subst e
  by_cases hs : Sh a
  · obtain ⟨k, hk, rfl⟩ := hs
    have R1 := R k hk
    have s1 := (sh_A R1).1
    have s2 := (sh_A R1).2.1
    have A1 : ∀ {P : Prop}, fMh k = 1 → fMh k = 2 → P := fun h h' => absurd (h.symm.trans h') (by decide +kernel)
    have A2 : ∀ {P : Prop}, fMh k = 1 → fMh k = 0 → P := fun h h' => absurd (h.symm.trans h') (by decide +kernel)
    have A3 : ∀ {P : Prop}, fMh k = 2 → fMh k = 0 → P := fun h h' => absurd (h.symm.trans h') (by decide +kernel)
    rcases h1 with ⟨e1, c1, f1⟩ | ⟨e1, c1, f1⟩ | ⟨e1, c1, f1⟩ | ⟨k', m, hk', ek, n10, hr, en, hm, iv, eq1⟩
    · have c1 := exk (P := fun k => ¬ 10 ≤ fH k ∧ Rw (fH k) ∧ (¬ Iv n.toInt64 0 (fS k).toInt64 ∨ ¬ n - n / 4 * 4 = 0)) hk (c1.resolve_left (fun q => q ⟨k, hk, rfl⟩))
      have m1 := s2.mp c1.2.1
      rcases h2 with ⟨e2, c2, f2⟩ | ⟨e2, c2, f2⟩ | ⟨e2, c2, f2⟩ | ⟨k2, m2, hk2, ek2, p1, p2, en2, hm2, le2, eq2⟩
      · exact ⟨e1.trans e2.symm, f1.trans f2.symm⟩
      · exact A1 m1 (exk (P := fun k => fMh k = 2) hk c2)
      · exact A2 m1 (exk (P := fun k => ¬ fMh k = 2 ∧ fMh k = 0) hk c2).2
      · exfalso
        have q := nI_eq8 hk hk2 ek2
        subst q
        rcases c1.2.2 with q | q
        · exact q (by rw [(sh_1 R1 m1).1]; exact iv0_of (by rw [en2]; exact nI_pos (by omega)) le2)
        · exact q (by rw [en2]; exact rem4 m2 (by omega))
    · have m1 := s1.mp (exk (P := fun k => 10 ≤ fH k) hk c1)
      rcases h2 with ⟨e2, c2, f2⟩ | ⟨e2, c2, f2⟩ | ⟨e2, c2, f2⟩ | ⟨k2, m2, hk2, ek2, p1, p2, en2, hm2, le2, eq2⟩
      · have c2 := exk (P := fun k => ¬ fMh k = 2 ∧ ¬ fMh k = 0 ∧ (n < 0 ∨ ¬ n - n / 4 * 4 = 0 ∨ ¬ n ≤ fMz k)) hk (c2.resolve_left (fun q => q ⟨k, hk, rfl⟩))
        exact absurd m1 c2.1
      · exact ⟨e1.trans e2.symm, f1.trans f2.symm⟩
      · exact A3 m1 (exk (P := fun k => ¬ fMh k = 2 ∧ fMh k = 0) hk c2).2
      · have q := nI_eq8 hk hk2 ek2
        subst q
        exact absurd m1 p1
    · have c1 := exk (P := fun k => ¬ 10 ≤ fH k ∧ ¬ Rw (fH k)) hk c1
      have m1 := sh_0 R1 (fun q => c1.2 (s2.mpr q)) (fun q => c1.1 (s1.mpr q))
      rcases h2 with ⟨e2, c2, f2⟩ | ⟨e2, c2, f2⟩ | ⟨e2, c2, f2⟩ | ⟨k2, m2, hk2, ek2, p1, p2, en2, hm2, le2, eq2⟩
      · have c2 := exk (P := fun k => ¬ fMh k = 2 ∧ ¬ fMh k = 0 ∧ (n < 0 ∨ ¬ n - n / 4 * 4 = 0 ∨ ¬ n ≤ fMz k)) hk (c2.resolve_left (fun q => q ⟨k, hk, rfl⟩))
        exact absurd m1 c2.2.1
      · exact A3 (exk (P := fun k => fMh k = 2) hk c2) m1
      · exact ⟨e1.trans e2.symm, f1.trans f2.symm⟩
      · have q := nI_eq8 hk hk2 ek2
        subst q
        exact absurd m1 p2
    · have q := nI_eq8 hk hk' ek
      subst q
      have m1 := s2.mp hr
      obtain ⟨i1, i2⟩ := iv0_to iv
      rcases h2 with ⟨e2, c2, f2⟩ | ⟨e2, c2, f2⟩ | ⟨e2, c2, f2⟩ | ⟨k2, m2, hk2, ek2, p1, p2, en2, hm2, le2, eq2⟩
      · have c2 := exk (P := fun k => ¬ fMh k = 2 ∧ ¬ fMh k = 0 ∧ (n < 0 ∨ ¬ n - n / 4 * 4 = 0 ∨ ¬ n ≤ fMz k)) hk (c2.resolve_left (fun q => q ⟨k, hk, rfl⟩))
        exfalso
        rcases c2.2.2 with q | q | q
        · exact i1 q
        · exact q (by rw [en]; exact rem4 m (by omega))
        · exact q (by rw [← (sh_1 R1 m1).1]; exact i2)
      · exact A1 m1 (exk (P := fun k => fMh k = 2) hk c2)
      · exact A2 m1 (exk (P := fun k => ¬ fMh k = 2 ∧ fMh k = 0) hk c2).2
      · have q := nI_eq8 hk hk2 ek2
        subst q
        have q : 4 * m = 4 * m2 := nI_inj (by omega) (by omega) (en.symm.trans en2)
        have q : m = m2 := by omega
        subst q
        obtain ⟨z, hz, ez⟩ := hSz k hk
        have hzm : 4 * m ≤ z := by
          rw [en, ez, Int32.le_iff_toInt_le, nI_toInt (by omega), nI_toInt (by omega)] at i2
          omega
        have ec : onG (fun i => gE (k * 40 + i)) m 0 tA 0 = onG (eR k) m 0 tA 0 := on_cong m 0 tA 0 (fun j _ h2 => (sh_1 R1 m1).2 z j ez hz (by omega))
        have q := Prod.mk.inj (eq1.trans (ec.trans eq2.symm))
        exact ⟨q.2, q.1⟩
  · rcases h1 with ⟨e1, c1, f1⟩ | ⟨e1, ⟨k, h, ek, _⟩, f1⟩ | ⟨e1, ⟨k, h, ek, _⟩, f1⟩ | ⟨k, m, h, ek, _⟩
    · rcases h2 with ⟨e2, c2, f2⟩ | ⟨e2, ⟨k, h, ek, _⟩, f2⟩ | ⟨e2, ⟨k, h, ek, _⟩, f2⟩ | ⟨k, m, h, ek, _⟩
      · exact ⟨e1.trans e2.symm, f1.trans f2.symm⟩
      all_goals exact absurd ⟨k, h, ek⟩ hs
    all_goals exact absurd ⟨k, h, ek⟩ hs
theorem years_k {tA tM t1 t2 : TA} {a n r r' : Int32} (R : SHR fH fS fA gE fMh fMo fMz fMk fMa eR) (e : tA = tM) (h1 : PXyears fH fA tA a n r t1) (h2 : PMyears fMh fMk fMa tM a n r' t2) : r = r' ∧ t1 = t2 := by
  subst e
  by_cases hn : Iv n.toInt64 1 20
  · by_cases hs : Sh a
    · obtain ⟨k, hk, rfl⟩ := hs
      have R1 := R k hk
      have s1 := (sh_A R1).1
      have s2 := (sh_A R1).2.1
      have hsh : Sh (nI k) := ⟨k, hk, rfl⟩
      rcases h1 with ⟨e1, c1, f1⟩ | ⟨e1, _, c1, f1⟩ | ⟨e1, _, c1, f1⟩ | ⟨k', m, hk', ek, nr, h10, _, hm, en, eq1⟩
      · exact (c1.elim (fun q => absurd hn q) (fun q => absurd hsh q))
      · have m1 := s2.mp (exk (P := fun k => Rw (fH k)) hk c1)
        rcases h2 with ⟨e2, c2, f2⟩ | ⟨e2, _, c2, f2⟩ | ⟨e2, _, c2, f2⟩ | ⟨k2, m2, hk2, ek2, p1, p2, _, hm2, en2, eq2⟩
        · exact (c2.elim (fun q => absurd hsh q) (fun q => absurd hn q))
        · exact ⟨e1.trans e2.symm, f1.trans f2.symm⟩
        · exact absurd m1 (exk (P := fun k => ¬ fMh k = 1 ∧ fMh k = 0) hk c2).1
        · have q := nI_eq8 hk hk2 ek2
          subst q
          exact absurd m1 p1
      · have c1 := exk (P := fun k => ¬ Rw (fH k) ∧ ¬ 10 ≤ fH k) hk c1
        have m1 := sh_0 R1 (fun q => c1.1 (s2.mpr q)) (fun q => c1.2 (s1.mpr q))
        rcases h2 with ⟨e2, c2, f2⟩ | ⟨e2, _, c2, f2⟩ | ⟨e2, _, c2, f2⟩ | ⟨k2, m2, hk2, ek2, p1, p2, _, hm2, en2, eq2⟩
        · exact (c2.elim (fun q => absurd hsh q) (fun q => absurd hn q))
        · exact absurd (m1.symm.trans (exk (P := fun k => fMh k = 1) hk c2)) (by decide +kernel)
        · exact ⟨e1.trans e2.symm, f1.trans f2.symm⟩
        · have q := nI_eq8 hk hk2 ek2
          subst q
          exact absurd m1 p2
      · have q := nI_eq8 hk hk' ek
        subst q
        have m1 := s1.mp h10
        rcases h2 with ⟨e2, c2, f2⟩ | ⟨e2, _, c2, f2⟩ | ⟨e2, _, c2, f2⟩ | ⟨k2, m2, hk2, ek2, p1, p2, _, hm2, en2, eq2⟩
        · exact (c2.elim (fun q => absurd hsh q) (fun q => absurd hn q))
        · exact absurd (m1.symm.trans (exk (P := fun k => fMh k = 1) hk c2)) (by decide +kernel)
        · exact absurd (m1.symm.trans (exk (P := fun k => ¬ fMh k = 1 ∧ fMh k = 0) hk c2).2) (by decide +kernel)
        · have q := nI_eq8 hk hk2 ek2
          subst q
          have q : m = m2 := nI_inj (by omega) (by omega) (en.symm.trans en2)
          subst q
          obtain ⟨z1, _, z3⟩ := sh_2 R1 m1
          have ek : fH k - 10 = fMk k := by rw [z1, Int32.add_comm, Int32.add_sub_cancel]
          rw [ek, z3] at eq1
          have q := Prod.mk.inj (eq1.trans eq2.symm)
          exact ⟨q.2, q.1⟩
    · rcases h1 with ⟨e1, c1, f1⟩ | ⟨e1, _, ⟨k, h, ek, _⟩, f1⟩ | ⟨e1, _, ⟨k, h, ek, _⟩, f1⟩ | ⟨k, m, h, ek, _⟩
      · rcases h2 with ⟨e2, c2, f2⟩ | ⟨e2, _, ⟨k, h, ek, _⟩, f2⟩ | ⟨e2, _, ⟨k, h, ek, _⟩, f2⟩ | ⟨k, m, h, ek, _⟩
        · exact ⟨e1.trans e2.symm, f1.trans f2.symm⟩
        all_goals exact absurd ⟨k, h, ek⟩ hs
      all_goals exact absurd ⟨k, h, ek⟩ hs
  · have n20 : ∀ m : Nat, 1 ≤ m → m ≤ 20 → ¬ n = nI m := fun m h1 h2 q => hn (by
      rw [q]
      exact ofI (m := 1) (n := 20) (by decide +kernel) (by decide +kernel) ⟨by rw [nI_toInt (by omega)]; omega, by rw [nI_toInt (by omega)]; omega⟩)
    rcases h1 with ⟨e1, c1, f1⟩ | ⟨e1, q, _⟩ | ⟨e1, q, _⟩ | ⟨k, m, _, _, _, _, u1, u2, en, _⟩
    · rcases h2 with ⟨e2, c2, f2⟩ | ⟨e2, q, _⟩ | ⟨e2, q, _⟩ | ⟨k, m, _, _, _, _, u1, u2, en, _⟩
      · exact ⟨e1.trans e2.symm, f1.trans f2.symm⟩
      · exact absurd q hn
      · exact absurd q hn
      · exact absurd en (n20 m u1 u2)
    · exact absurd q hn
    · exact absurd q hn
    · exact absurd en (n20 m u1 u2)
end SHK
section TW2
variable {tA tB tM tN tN' : TA} {fB fMt fB' fM' : Nat → Int32} {kZ kY z1 y1 : Nat} {uP uQ : UM} {v n r r' iK : Int32}
theorem fd_rel2 (hz : kZ = kY) (hz1 : z1 = y1) (h1 : FD fB kZ v n z1 fB') (h2 : FD fMt kY v n y1 fM') (h : nbf fB kZ = nbf fMt kY) : nbf fB' z1 = nbf fM' y1 := by
  subst hz
  subst hz1
  exact fd_rel h1 h2 h
theorem town_k2 (hz : kZ = kY) (h : nbf fB kZ = nbf fMt kY) (e : tA = tM) (h1 : PXtown (pall (nbf fB kZ) kZ tA) tA r tN) (h2 : PXtown (pall (nbf fMt kY) kY tM) tM r' tN') : r = r' ∧ tN = tN' := by
  subst hz
  subst e
  rw [h] at h1
  exact town_k rfl h1 h2
theorem tw_town (hR : TWR tA tB fB kZ fMt kY tM uP) (e : tN = tN') (w : WI tN') (e1 : z1 = 0) (e2 : y1 = 0) : TWR tN tB fB z1 fMt y1 tN' uP := by
  subst e1
  subst e2
  exact ⟨e, w, hR.2.2.1, nbf_0⟩
theorem tw_wipe (hR : TWR tA tB fB kZ fMt kY tM uP) (e1 : z1 = 0) (e2 : y1 = 0) : TWR tA tB fB z1 fMt y1 tM uP := by
  subst e1
  subst e2
  exact ⟨hR.1, hR.2.1, hR.2.2.1, nbf_0⟩
theorem tw_image {tC : TA} (hR : TWR tA tB fB kZ fMt kY tM uP) (e1 : tC = tA) (e2 : uT uQ = tM) : TWR tA tC fB kZ fMt kY tM uQ :=
  ⟨hR.1, hR.2.1, fun _ => ⟨by rw [e1, e2]; exact hR.1, by rw [e2]; exact hR.2.1⟩, hR.2.2.2⟩
theorem tw_back (hR : TWR tA tB fB kZ fMt kY tM uP) (h : iK = 0 ↔ isS uP = false) (q : (iK = 0 ∧ r = -5 ∧ tN = tA) ∨ (¬ iK = 0 ∧ r = 1 ∧ tN = tB)) (q' : (isS uP = false ∧ r' = -5 ∧ tN' = tM) ∨ (isS uP = true ∧ r' = 1 ∧ tN' = uT uP)) : TWR tN tB fB kZ fMt kY tN' uP := by
  rcases q with ⟨c, -, e⟩ | ⟨c, -, e⟩
  · rcases q' with ⟨c', -, e'⟩ | ⟨c', -, e'⟩
    · rw [e, e']; exact hR
    · rw [h.mp c] at c'; cases c'
  · rcases q' with ⟨c', -, e'⟩ | ⟨c', -, e'⟩
    · exact absurd (h.mpr c') c
    · rw [e, e']; exact ⟨(hR.2.2.1 c').1, (hR.2.2.1 c').2, hR.2.2.1, hR.2.2.2⟩
theorem seed_k (e : tA = tM) (h1 : tN = T_setsd tA n ∧ r = T_sd tA) (h2 : tN' = T_setsd tM n ∧ r' = T_sd tM) : r = r' ∧ tN = tN' := by
  subst e
  exact ⟨h1.2.trans h2.2.symm, h1.1.trans h2.1.symm⟩
end TW2
theorem WI_0 : WI T0 := ⟨TI_0, ⟨fun _ _ _ _ _ => rfl, fun _ _ _ => rfl, fun _ _ _ => rfl⟩, fun p h _ => absurd h (Nat.not_lt_zero p)⟩
end
section
/-! THE CLAIM OUT OF ONE WALK OF THE LAW'S BODY. Your part is whole_start (and what it stands on); all else here is the same for every law, but numbers. -/
noncomputable def R_law : String := "EachBookOnceLaw"
noncomputable def lw_P (b : Addr) (xs : List Int32) (args : Array Value) (s : State) : Prop := args = #[.ref b] ∧ s.IntsAt b xs ∧ xs.length ≤ 384 ∧ (Jvm.Cond.and given_1 narrow_1).before args s = true
noncomputable def lw_Q (_ : Array Value) (s : State) (o : Outcome) (t : State) : Prop := o = .returned (some (.int 1)) ∧ Framed s o t [] 600000 7302250
noncomputable def lw_Z (below : List Frame) (a : Array Value) (s : State) : State → Prop := fun t => ∃ o, t.status = .running ∧ Ended t below o ∧ lw_Q a s o t
/-- the law's own end, with 1 on the stack, nothing written that was there before, its room as the claim has it -/
theorem lw_ret {p : Program} {l : Launch} {e : Env} {s : State} {m : MethodId} {below : List Frame} {meth : Method} {c : Code} {b : Nat} (hx : p.tables.exec = Jvm.exec) (hb : c.code = code) (hr : meth.sig.returnType = ret) (hlocks : meth.locks = false) {pc : Nat} {H : Heap} {ls : Array Slot} (hdg : decode code pc = .ok (.ireturn, 1)) : W p l e room_1 s m #[Value.ref b] below meth c H [] 600000 7302250 (lw_Z below #[Value.ref b] s) (F0 m pc ls [.int 1]) := by
  intro T hT X
  obtain ⟨fs, hret, hrun, hended, hW, hframe⟩ := X.leave (v := some (.int 1)) (hlocks := hlocks) (fun h => by rw [hr] at h; cases h)
  have hmeth' : T.vm.method? m = some meth := X.method'
  refine ⟨T.setFrames fs, ?_, .returned (some (.int 1)), hrun, hended, rfl, ⟨_, rfl⟩, hW, hframe⟩
  jvm_step X.here [X.here.top, hx, hb, hdg, hmeth', hr, ret, narrow_b1]
  (try refine ⟨rfl, ?_⟩); (try refine ⟨rfl, ?_⟩)
  first | (intro acts; rw [hret _ acts rfl rfl rfl]) | rw [hret _ _ rfl rfl rfl]
  exact Steps.refl _
/-- what holds at the law's entry: the machine, the code, the tables' words (any of lw_tbl by 'hts w (by decide +kernel)'), the script of L ints xs at the cell b, what the Statement gives of the start (any of its parts by flat_of_before) -/
noncomputable def lw_At (p : Program) (s : State) (m : MethodId) (meth : Method) (c : Code) (b L : Nat) (xs : Nat → Int32) : Prop :=
  p.tables.exec = Jvm.exec ∧ c.code = code ∧ meth.sig.returnType = ret ∧ c.maxLocals = 4 ∧ s.vm.findClass R_law = some m.cls ∧ (∀ w ∈ lw_tbl, w.before #[Value.ref b] s = true) ∧ va_X b L xs s s.heap ∧ b < s.heap.size ∧ meth.locks = false ∧ (Jvm.Cond.and given_1 narrow_1).before #[Value.ref b] s = true
theorem kn_nf {s : State} {b : Nat} (hts : ∀ w ∈ lw_tbl, w.before #[Value.ref b] s = true) : ∀ q ∈ nestF, va_Nw (.fieldLinkNest q.1 q.2.1 q.2.2.1 q.2.2.2.1 q.2.2.2.2 AO0) s := by
  unfold nestF
  exact List.forall_mem_cons.mpr ⟨va_Nw.of rfl (hts _ (List.mem_append_right _ n_t30)), List.forall_mem_cons.mpr ⟨va_Nw.of rfl (hts _ (List.mem_append_right _ n_t31)), List.forall_mem_cons.mpr ⟨va_Nw.of rfl (hts _ (List.mem_append_right _ n_t32)), List.forall_mem_cons.mpr ⟨va_Nw.of rfl (hts _ (List.mem_append_right _ n_t33)), List.forall_mem_cons.mpr ⟨va_Nw.of rfl (hts _ (List.mem_append_right _ n_t35)), List.forall_mem_cons.mpr ⟨va_Nw.of rfl (hts _ (List.mem_append_right _ n_t36)), List.forall_mem_cons.mpr ⟨va_Nw.of rfl (hts _ (List.mem_append_right _ n_t37)), List.forall_mem_cons.mpr ⟨va_Nw.of rfl (hts _ (List.mem_append_right _ n_t38)), List.forall_mem_cons.mpr ⟨va_Nw.of rfl (hts _ (List.mem_append_right _ n_t40)), List.forall_mem_cons.mpr ⟨va_Nw.of rfl (hts _ (List.mem_append_right _ n_t41)), List.forall_mem_cons.mpr ⟨va_Nw.of rfl (hts _ (List.mem_append_right _ n_t42)), List.forall_mem_cons.mpr ⟨va_Nw.of rfl (hts _ (List.mem_append_right _ n_t44)), List.forall_mem_cons.mpr ⟨va_Nw.of rfl (hts _ (List.mem_append_right _ n_t45)), List.forall_mem_cons.mpr ⟨va_Nw.of rfl (hts _ (List.mem_append_right _ n_t47)), List.forall_mem_cons.mpr ⟨va_Nw.of rfl (hts _ (List.mem_append_right _ n_t49)), List.forall_mem_cons.mpr ⟨va_Nw.of rfl (hts _ (List.mem_append_right _ n_t51)), List.forall_mem_cons.mpr ⟨va_Nw.of rfl (hts _ (List.mem_append_right _ n_t52)), List.forall_mem_cons.mpr ⟨va_Nw.of rfl (hts _ (List.mem_append_right _ n_t54)), List.forall_mem_cons.mpr ⟨va_Nw.of rfl (hts _ (List.mem_append_right _ n_t55)), List.forall_mem_cons.mpr ⟨va_Nw.of rfl (hts _ (List.mem_append_right _ n_t57)), List.forall_mem_cons.mpr ⟨va_Nw.of rfl (hts _ (List.mem_append_right _ n_t59)), List.forall_mem_cons.mpr ⟨va_Nw.of rfl (hts _ (List.mem_append_right _ n_t61)), List.forall_mem_cons.mpr ⟨va_Nw.of rfl (hts _ (List.mem_append_right _ n_t63)), List.forall_mem_cons.mpr ⟨va_Nw.of rfl (hts _ (List.mem_append_right _ n_t102)), List.forall_mem_cons.mpr ⟨va_Nw.of rfl (hts _ (List.mem_append_right _ n_t105)), List.forall_mem_cons.mpr ⟨va_Nw.of rfl (hts _ (List.mem_append_right _ n_t107)), List.forall_mem_cons.mpr ⟨va_Nw.of rfl (hts _ (List.mem_append_right _ n_t124)), List.forall_mem_cons.mpr ⟨va_Nw.of rfl (hts _ (List.mem_append_right _ n_t126)), List.forall_mem_cons.mpr ⟨va_Nw.of rfl (hts _ (List.mem_append_right _ n_t128)), List.forall_mem_cons.mpr ⟨va_Nw.of rfl (hts _ (List.mem_append_right _ n_t150)), List.forall_mem_cons.mpr ⟨va_Nw.of rfl (hts _ (List.mem_append_right _ n_t155)), List.forall_mem_cons.mpr ⟨va_Nw.of rfl (hts _ (List.mem_append_right _ n_t157)), fun _ h => absurd h List.not_mem_nil⟩⟩⟩⟩⟩⟩⟩⟩⟩⟩⟩⟩⟩⟩⟩⟩⟩⟩⟩⟩⟩⟩⟩⟩⟩⟩⟩⟩⟩⟩⟩⟩
theorem kn_nm {s : State} {b : Nat} (hts : ∀ w ∈ lw_tbl, w.before #[Value.ref b] s = true) : ∀ q ∈ nestM, va_Nw (.methodLinkNest q.1 q.2.1 q.2.2 AO0) s := by
  unfold nestM
  exact List.forall_mem_cons.mpr ⟨va_Nw.of rfl (hts _ (List.mem_append_right _ n_t25)), List.forall_mem_cons.mpr ⟨va_Nw.of rfl (hts _ (List.mem_append_right _ n_t95)), List.forall_mem_cons.mpr ⟨va_Nw.of rfl (hts _ (List.mem_append_right _ n_t100)), List.forall_mem_cons.mpr ⟨va_Nw.of rfl (hts _ (List.mem_append_right _ n_t142)), List.forall_mem_cons.mpr ⟨va_Nw.of rfl (hts _ (List.mem_append_right _ n_t147)), List.forall_mem_cons.mpr ⟨va_Nw.of rfl (hts _ (List.mem_append_right _ n_t321)), List.forall_mem_cons.mpr ⟨va_Nw.of rfl (hts _ (List.mem_append_right _ n_t358)), List.forall_mem_cons.mpr ⟨va_Nw.of rfl (hts _ (List.mem_append_right _ n_t369)), List.forall_mem_cons.mpr ⟨va_Nw.of rfl (hts _ (List.mem_append_right _ n_t681)), fun _ h => absurd h List.not_mem_nil⟩⟩⟩⟩⟩⟩⟩⟩⟩
theorem kn_one {s : State} {b k : Nat} {own tx : String} (h1 : (Cond.stringRef own k tx).before #[Value.ref b] s = true) (h2 : (Cond.exactly (Term.string own k) "java/lang/String").before #[Value.ref b] s = true) : ∃ a : Nat, vk_R own k tx a s := by
  obtain ⟨a, c, cA, kA, q1, -⟩ := Cond.exactly_spec (args := #[Value.ref b]) (first := s) (o := none) (s := s) (idx := []) (t := Term.string own k) (cls := "java/lang/String") h2
  exact ⟨a, vk_R.of h1 q1⟩
theorem kn_st {s : State} {b : Nat} (hts : ∀ w ∈ lw_tbl, w.before #[Value.ref b] s = true) (hgv : (Jvm.Cond.and given_1 narrow_1).before #[Value.ref b] s = true) : ∀ q ∈ strW, ∃ a : Nat, vk_R q.1 q.2.1 q.2.2 a s := by
  have hs := flat_of_before _ hgv
  unfold strW
  exact List.forall_mem_cons.mpr ⟨kn_one (hts _ (List.mem_append_right _ n_t459)) (cd_l (cd_r (cd_r (cd_r (cd_l (cd_l (cd_l (cd_l (cd_l (cd_r hgv)))))))))), List.forall_mem_cons.mpr ⟨kn_one (hts _ (List.mem_append_right _ n_t528)) (cd_r (cd_l (cd_r (cd_r (cd_l (cd_l (cd_l (cd_l (cd_r hgv))))))))), List.forall_mem_cons.mpr ⟨kn_one (hts _ (List.mem_append_right _ n_t534)) (cd_l (cd_l (cd_r (cd_l (cd_r (cd_l (cd_l (cd_l (cd_r hgv))))))))), List.forall_mem_cons.mpr ⟨kn_one (hts _ (List.mem_append_right _ n_t539)) (cd_l (cd_l (cd_r (cd_r (cd_r (cd_l (cd_l (cd_l (cd_r hgv))))))))), List.forall_mem_cons.mpr ⟨kn_one (hts _ (List.mem_append_right _ n_t544)) (cd_r (cd_l (cd_r (cd_l (cd_l (cd_r (cd_l (cd_l (cd_r hgv))))))))), List.forall_mem_cons.mpr ⟨kn_one (hts _ (List.mem_append_right _ n_t545)) (cd_r (cd_r (cd_r (cd_r (cd_r (cd_l (cd_r (cd_l (cd_l (cd_r hgv)))))))))), List.forall_mem_cons.mpr ⟨kn_one (hts _ (List.mem_append_right _ n_t546)) (cd_l (cd_r (cd_r (cd_l (cd_r (cd_r (cd_r (cd_l (cd_l (cd_r hgv)))))))))), List.forall_mem_cons.mpr ⟨kn_one (hts _ (List.mem_append_right _ n_t548)) (cd_r (cd_r (cd_r (cd_r (cd_l (cd_l (cd_l (cd_r (cd_l (cd_r hgv)))))))))), List.forall_mem_cons.mpr ⟨kn_one (hts _ (List.mem_append_right _ n_t554)) (cd_l (cd_l (cd_r (cd_l (cd_r (cd_l (cd_r (cd_l (cd_r hgv))))))))), List.forall_mem_cons.mpr ⟨kn_one (hts _ (List.mem_append_right _ n_t1144)) (cd_l (cd_r (cd_l (cd_l (cd_l (cd_r (cd_r (cd_l (cd_r hgv))))))))), List.forall_mem_cons.mpr ⟨kn_one (hts _ (List.mem_append_right _ n_t1163)) (cd_l (cd_l (cd_l (cd_l (cd_r (cd_r (cd_r (cd_l (cd_r hgv))))))))), List.forall_mem_cons.mpr ⟨kn_one (hts _ (List.mem_append_right _ n_t1168)) (cd_l (cd_r (cd_r (cd_r (cd_r (cd_r (cd_r (cd_r (cd_l (cd_r hgv)))))))))), List.forall_mem_cons.mpr ⟨kn_one (hts _ (List.mem_append_right _ n_t1169)) (cd_l (cd_r (cd_r (cd_r (cd_l (cd_l (cd_l (cd_r (cd_r hgv))))))))), List.forall_mem_cons.mpr ⟨kn_one (hts _ (List.mem_append_right _ n_t1170)) (cd_l (cd_r (cd_r (cd_r (cd_r (cd_r (cd_l (cd_l (cd_r (cd_r hgv)))))))))), List.forall_mem_cons.mpr ⟨kn_one (hts _ (List.mem_append_right _ n_t1171)) (cd_r (cd_l (cd_l (cd_l (cd_r (cd_r (cd_l (cd_r (cd_r hgv))))))))), List.forall_mem_cons.mpr ⟨kn_one (hts _ (List.mem_append_right _ n_t1172)) (cd_l (cd_l (cd_r (cd_l (cd_l (cd_l (cd_r (cd_r (cd_r hgv))))))))), List.forall_mem_cons.mpr ⟨kn_one (hts _ (List.mem_append_right _ n_t1173)) (cd_l (cd_r (cd_r (cd_r (cd_l (cd_r (cd_l (cd_r (cd_r (cd_r hgv)))))))))), List.forall_mem_cons.mpr ⟨kn_one (hts _ (List.mem_append_right _ n_t1174)) (cd_r (cd_r (cd_r (cd_l (cd_r (cd_l (cd_r (cd_r (cd_r (cd_r hgv)))))))))), fun _ h => absurd h List.not_mem_nil⟩⟩⟩⟩⟩⟩⟩⟩⟩⟩⟩⟩⟩⟩⟩⟩⟩⟩
theorem kn_big {s : State} {b : Nat} (hts : ∀ w ∈ lw_tbl, w.before #[Value.ref b] s = true) : ∀ w ∈ BIG, w.before #[Value.ref b] s = true := fun w h => hts w (List.mem_filter.mp h).1
theorem kn_arr {s : State} {cA : ClassId} {ty : FieldType} {k : Class} {comp : ClassId} (h1 : s.vm.classes[cA]? = some k) (h2 : k.kind = .array comp ty) : ArrOfT s cA ty := fun _ _ => ⟨(fun _ h => by cases h), k, h1, comp, h2⟩
theorem kn_start {s : State} {b : Nat} (hts : ∀ w ∈ lw_tbl, w.before #[Value.ref b] s = true) (hgv : (Jvm.Cond.and given_1 narrow_1).before #[Value.ref b] s = true) : ∃ (G : va_G) (cy : Nat → ClassId), KN G cy s := by
  have hB := kn_big hts
  obtain ⟨c0, i0, k0⟩ := u_known (C := RX0) (T := TX0) (N := 4) (n := 4) hB iX_X0 (hB _ m_t94)
  obtain ⟨c1, i1, k1⟩ := u_known (C := RX2) (T := TX2) (N := 4) (n := 4) hB iX_X2 (hB _ m_t118)
  obtain ⟨c2, i2, k2⟩ := u_known (C := RX3) (T := TX3) (N := 7) (n := 7) hB iX_X3 (hB _ m_t141)
  obtain ⟨c3, i3, k3⟩ := u_known (C := RX4) (T := TX4) (N := 13) (n := 13) hB iX_X4 (hB _ m_t24)
  obtain ⟨c4, i4, k4⟩ := u_known (C := RX5) (T := TX5) (N := 9) (n := 9) hB iX_X5 (hB _ m_t16)
  obtain ⟨c5, i5, k5⟩ := u_known (C := RX6) (T := TX6) (N := 35) (n := 35) hB iX_X6 (hB _ m_t839)
  obtain ⟨aI, aIk, aIc, aI1, aI2, aI3⟩ := Cond.arrayClass_spec (hB _ m_t92)
  obtain ⟨aJ, aJk, aJc, aJ1, aJ2, aJ3⟩ := Cond.arrayClass_spec (hB _ m_t139)
  obtain ⟨aB, aBk, aBc, aB1, aB2, aB3⟩ := Cond.arrayClass_spec (hB _ m_t173)
  have oP : (Cond.arrayOver (.array .int)).before #[Value.ref b] s = true := hts _ (List.mem_append_right _ n_t847)
  obtain ⟨gP, aP, aPk, gP1, gP2, gP3, gP4, gP5⟩ := Jvm.Stand.arrayOver_specB oP
  have oS : (Cond.arrayOver (.array .long)).before #[Value.ref b] s = true := hts _ (List.mem_append_right _ n_t845)
  obtain ⟨gS, aS, aSk, gS1, gS2, gS3, gS4, gS5⟩ := Jvm.Stand.arrayOver_specB oS
  have oM : (Cond.arrayOver (.object RX6)).before #[Value.ref b] s = true := hts _ (List.mem_append_right _ n_t849)
  obtain ⟨gM, aM, aMk, gM1, gM2, gM3, gM4, gM5⟩ := Cond.arrayOver_spec oM
  refine ⟨(fun k => match k with | 0 => c0 | 1 => c1 | 2 => c2 | 3 => c3 | 4 => c4 | _ => c5, fun k => match k with | 0 => i0 | 1 => i1 | 2 => i2 | 3 => i3 | 4 => i4 | _ => i5), (fun k => match k with | 0 => aI | 1 => aJ | 2 => aB | 3 => aP | 4 => aS | _ => aM), ⟨?_, ?_⟩, kn_nf hts, kn_nm hts, kn_st hts hgv, oM, oP, oS⟩
  · intro k q hq
    match k, hq with
    | 0, hq => cases hq; exact k0
    | 1, hq => cases hq; exact k1
    | 2, hq => cases hq; exact k2
    | 3, hq => cases hq; exact k3
    | 4, hq => cases hq; exact k4
    | 5, hq => cases hq; exact k5
    | k + 6, hq => simp [CL] at hq
  · intro k q hq
    match k, hq with
    | 0, hq => cases hq; exact ⟨kn_arr aI2 aI3, aI1⟩
    | 1, hq => cases hq; exact ⟨kn_arr aJ2 aJ3, aJ1⟩
    | 2, hq => cases hq; exact ⟨kn_arr aB2 aB3, aB1⟩
    | 3, hq => cases hq; exact ⟨kn_arr gP3 gP4, gP5⟩
    | 4, hq => cases hq; exact ⟨kn_arr gS3 gS4, gS5⟩
    | 5, hq => cases hq; exact ⟨kn_arr gM3 gM4, aMk, gM, gM3, gM4, gM1, gM5⟩
    | k + 6, hq => simp [tysA] at hq
theorem so_one {s : State} {b : Nat} {A : Nat → Prop} {own tx : String} {k : Nat} {lB : List Int32} (hlen : lB.length < 2 ^ 31) (hA : ∀ a : Nat, a < s.heap.size → ¬ A a) (hz1 : va_Z "java/lang/String" "COMPACT_STRINGS" "Z" (.int 1) A s s.heap) (hz2 : va_Zq "jdk/internal/util/Preconditions" "SIOOBE_FORMATTER" "Ljava/util/function/BiFunction;" A s s.heap)
    (h1 : (Cond.stringRef own k tx).before #[Value.ref b] s = true) (hex : (Cond.exactly (Term.string own k) "java/lang/String").before #[Value.ref b] s = true) (hco : (Cond.eq (.field (Term.string own k) "java/lang/String" "coder" "B") (.int 0)).before #[Value.ref b] s = true) (har : (Cond.arrayOf (.field (Term.string own k) "java/lang/String" "value" "[B") .byte).before #[Value.ref b] s = true)
    (hle : (Cond.eq (.length (.field (Term.string own k) "java/lang/String" "value" "[B")) (.int (Int32.ofNat lB.length))).before #[Value.ref b] s = true) (hel : ∀ j : Nat, j < lB.length → (Cond.eq (.elem (.field (Term.string own k) "java/lang/String" "value" "[B") (.int (Int32.ofNat j))) (.int (lB.getD j 0))).before #[Value.ref b] s = true) :
    ∃ a v : Nat, vk_R own k tx a s ∧ SF lB a v A s s.heap := by
  obtain ⟨a, c, cA, kA, q1, q2, q3, q4, q5, q6, -⟩ := Cond.exactly_spec (args := #[Value.ref b]) (first := s) (o := none) (s := s) (idx := []) (t := Term.string own k) (cls := "java/lang/String") hex
  obtain ⟨t, ht, hT⟩ := va_Tof (f := fun j => .int (lB.getD j 0)) (A := A) hlen har (va_eqt hle) (fun j hj => va_eqt (hel j hj)) hA
  exact ⟨a, t, vk_R.of h1 q1, ⟨cA, q3, q5, by rw [q6]; exact q2, hA a (Array.getElem?_eq_some_iff.mp q3).1⟩, vk_OFof q1 (va_eqt hco) hA, vk_OFof q1 ht hA, hT, hz1, hz2⟩
theorem so_start {s : State} {b : Nat} {A : Nat → Prop} (hts : ∀ w ∈ lw_tbl, w.before #[Value.ref b] s = true) (hgv : (Jvm.Cond.and given_1 narrow_1).before #[Value.ref b] s = true) (hA : ∀ a : Nat, a < s.heap.size → ¬ A a) : SO A s s.heap := by
  have hz1 : va_Z "java/lang/String" "COMPACT_STRINGS" "Z" (.int 1) A s s.heap := va_Zof (hts _ (List.mem_append_right _ n_t473)) (hts _ (List.mem_append_right _ n_t10)) (va_eqi (cd_l (cd_r (cd_l (cd_l (cd_l (cd_l (cd_l (cd_l (cd_r hgv)))))))))) hA
  have hz2 : va_Zq "jdk/internal/util/Preconditions" "SIOOBE_FORMATTER" "Ljava/util/function/BiFunction;" A s s.heap := va_Zqof (hts _ (List.mem_append_right _ n_t489)) (hts _ (List.mem_append_right _ n_t12)) (cd_r (cd_r (cd_l (cd_l (cd_l (cd_l (cd_l (cd_l (cd_r hgv))))))))) hA
  unfold SO strT
  exact List.forall_mem_cons.mpr ⟨so_one (by decide +kernel) hA hz1 hz2 (hts _ (List.mem_append_right _ n_t459)) (cd_l (cd_r (cd_r (cd_r (cd_l (cd_l (cd_l (cd_l (cd_l (cd_r hgv)))))))))) (cd_r (cd_r (cd_r (cd_r (cd_l (cd_l (cd_l (cd_l (cd_l (cd_r hgv)))))))))) (cd_l (cd_l (cd_l (cd_r (cd_l (cd_l (cd_l (cd_l (cd_r hgv))))))))) (cd_r (cd_l (cd_l (cd_r (cd_l (cd_l (cd_l (cd_l (cd_r hgv))))))))) (fun j hj => by match j, hj with | 0, _ => exact (cd_l (cd_r (cd_l (cd_r (cd_l (cd_l (cd_l (cd_l (cd_r hgv))))))))) | 1, _ => exact (cd_l (cd_r (cd_r (cd_l (cd_r (cd_l (cd_l (cd_l (cd_l (cd_r hgv)))))))))) | 2, _ => exact (cd_r (cd_r (cd_r (cd_l (cd_r (cd_l (cd_l (cd_l (cd_l (cd_r hgv)))))))))) | 3, _ => exact (cd_l (cd_l (cd_r (cd_r (cd_l (cd_l (cd_l (cd_l (cd_r hgv))))))))) | j + 4, hj => exact absurd hj (by simp)), List.forall_mem_cons.mpr ⟨so_one (by decide +kernel) hA hz1 hz2 (hts _ (List.mem_append_right _ n_t528)) (cd_r (cd_l (cd_r (cd_r (cd_l (cd_l (cd_l (cd_l (cd_r hgv))))))))) (cd_l (cd_r (cd_r (cd_r (cd_l (cd_l (cd_l (cd_l (cd_r hgv))))))))) (cd_l (cd_r (cd_r (cd_r (cd_r (cd_l (cd_l (cd_l (cd_l (cd_r hgv)))))))))) (cd_r (cd_r (cd_r (cd_r (cd_r (cd_l (cd_l (cd_l (cd_l (cd_r hgv)))))))))) (fun j hj => by match j, hj with | 0, _ => exact (cd_l (cd_l (cd_l (cd_l (cd_r (cd_l (cd_l (cd_l (cd_r hgv))))))))) | 1, _ => exact (cd_r (cd_l (cd_l (cd_l (cd_r (cd_l (cd_l (cd_l (cd_r hgv))))))))) | 2, _ => exact (cd_l (cd_r (cd_l (cd_l (cd_r (cd_l (cd_l (cd_l (cd_r hgv))))))))) | 3, _ => exact (cd_l (cd_r (cd_r (cd_l (cd_l (cd_r (cd_l (cd_l (cd_l (cd_r hgv)))))))))) | j + 4, hj => exact absurd hj (by simp)), List.forall_mem_cons.mpr ⟨so_one (by decide +kernel) hA hz1 hz2 (hts _ (List.mem_append_right _ n_t534)) (cd_l (cd_l (cd_r (cd_l (cd_r (cd_l (cd_l (cd_l (cd_r hgv))))))))) (cd_r (cd_l (cd_r (cd_l (cd_r (cd_l (cd_l (cd_l (cd_r hgv))))))))) (cd_l (cd_r (cd_r (cd_l (cd_r (cd_l (cd_l (cd_l (cd_r hgv))))))))) (cd_l (cd_r (cd_r (cd_r (cd_l (cd_r (cd_l (cd_l (cd_l (cd_r hgv)))))))))) (fun j hj => by match j, hj with | 0, _ => exact (cd_r (cd_r (cd_r (cd_r (cd_l (cd_r (cd_l (cd_l (cd_l (cd_r hgv)))))))))) | 1, _ => exact (cd_l (cd_l (cd_l (cd_r (cd_r (cd_l (cd_l (cd_l (cd_r hgv))))))))) | 2, _ => exact (cd_r (cd_l (cd_l (cd_r (cd_r (cd_l (cd_l (cd_l (cd_r hgv))))))))) | 3, _ => exact (cd_l (cd_r (cd_l (cd_r (cd_r (cd_l (cd_l (cd_l (cd_r hgv))))))))) | j + 4, hj => exact absurd hj (by simp)), List.forall_mem_cons.mpr ⟨so_one (by decide +kernel) hA hz1 hz2 (hts _ (List.mem_append_right _ n_t539)) (cd_l (cd_l (cd_r (cd_r (cd_r (cd_l (cd_l (cd_l (cd_r hgv))))))))) (cd_r (cd_l (cd_r (cd_r (cd_r (cd_l (cd_l (cd_l (cd_r hgv))))))))) (cd_l (cd_r (cd_r (cd_r (cd_r (cd_l (cd_l (cd_l (cd_r hgv))))))))) (cd_l (cd_r (cd_r (cd_r (cd_r (cd_r (cd_l (cd_l (cd_l (cd_r hgv)))))))))) (fun j hj => by match j, hj with | 0, _ => exact (cd_r (cd_r (cd_r (cd_r (cd_r (cd_r (cd_l (cd_l (cd_l (cd_r hgv)))))))))) | 1, _ => exact (cd_l (cd_l (cd_l (cd_l (cd_l (cd_r (cd_l (cd_l (cd_r hgv))))))))) | 2, _ => exact (cd_r (cd_l (cd_l (cd_l (cd_l (cd_r (cd_l (cd_l (cd_r hgv))))))))) | j + 3, hj => exact absurd hj (by simp)), List.forall_mem_cons.mpr ⟨so_one (by decide +kernel) hA hz1 hz2 (hts _ (List.mem_append_right _ n_t544)) (cd_r (cd_l (cd_r (cd_l (cd_l (cd_r (cd_l (cd_l (cd_r hgv))))))))) (cd_l (cd_r (cd_r (cd_l (cd_l (cd_r (cd_l (cd_l (cd_r hgv))))))))) (cd_l (cd_r (cd_r (cd_r (cd_l (cd_l (cd_r (cd_l (cd_l (cd_r hgv)))))))))) (cd_r (cd_r (cd_r (cd_r (cd_l (cd_l (cd_r (cd_l (cd_l (cd_r hgv)))))))))) (fun j hj => by match j, hj with | 0, _ => exact (cd_l (cd_l (cd_l (cd_r (cd_l (cd_r (cd_l (cd_l (cd_r hgv))))))))) | 1, _ => exact (cd_r (cd_l (cd_l (cd_r (cd_l (cd_r (cd_l (cd_l (cd_r hgv))))))))) | 2, _ => exact (cd_l (cd_r (cd_l (cd_r (cd_l (cd_r (cd_l (cd_l (cd_r hgv))))))))) | 3, _ => exact (cd_l (cd_r (cd_r (cd_l (cd_r (cd_l (cd_r (cd_l (cd_l (cd_r hgv)))))))))) | 4, _ => exact (cd_r (cd_r (cd_r (cd_l (cd_r (cd_l (cd_r (cd_l (cd_l (cd_r hgv)))))))))) | j + 5, hj => exact absurd hj (by simp)), List.forall_mem_cons.mpr ⟨so_one (by decide +kernel) hA hz1 hz2 (hts _ (List.mem_append_right _ n_t545)) (cd_r (cd_r (cd_r (cd_r (cd_r (cd_l (cd_r (cd_l (cd_l (cd_r hgv)))))))))) (cd_l (cd_l (cd_l (cd_l (cd_r (cd_r (cd_l (cd_l (cd_r hgv))))))))) (cd_r (cd_l (cd_l (cd_l (cd_r (cd_r (cd_l (cd_l (cd_r hgv))))))))) (cd_l (cd_r (cd_l (cd_l (cd_r (cd_r (cd_l (cd_l (cd_r hgv))))))))) (fun j hj => by match j, hj with | 0, _ => exact (cd_l (cd_r (cd_r (cd_l (cd_l (cd_r (cd_r (cd_l (cd_l (cd_r hgv)))))))))) | 1, _ => exact (cd_r (cd_r (cd_r (cd_l (cd_l (cd_r (cd_r (cd_l (cd_l (cd_r hgv)))))))))) | 2, _ => exact (cd_l (cd_l (cd_r (cd_l (cd_r (cd_r (cd_l (cd_l (cd_r hgv))))))))) | 3, _ => exact (cd_r (cd_l (cd_r (cd_l (cd_r (cd_r (cd_l (cd_l (cd_r hgv))))))))) | 4, _ => exact (cd_l (cd_r (cd_r (cd_l (cd_r (cd_r (cd_l (cd_l (cd_r hgv))))))))) | j + 5, hj => exact absurd hj (by simp)), List.forall_mem_cons.mpr ⟨so_one (by decide +kernel) hA hz1 hz2 (hts _ (List.mem_append_right _ n_t546)) (cd_l (cd_r (cd_r (cd_l (cd_r (cd_r (cd_r (cd_l (cd_l (cd_r hgv)))))))))) (cd_r (cd_r (cd_r (cd_l (cd_r (cd_r (cd_r (cd_l (cd_l (cd_r hgv)))))))))) (cd_l (cd_l (cd_r (cd_r (cd_r (cd_r (cd_l (cd_l (cd_r hgv))))))))) (cd_r (cd_l (cd_r (cd_r (cd_r (cd_r (cd_l (cd_l (cd_r hgv))))))))) (fun j hj => by match j, hj with | 0, _ => exact (cd_l (cd_r (cd_r (cd_r (cd_r (cd_r (cd_l (cd_l (cd_r hgv))))))))) | 1, _ => exact (cd_l (cd_r (cd_r (cd_r (cd_r (cd_r (cd_r (cd_l (cd_l (cd_r hgv)))))))))) | 2, _ => exact (cd_r (cd_r (cd_r (cd_r (cd_r (cd_r (cd_r (cd_l (cd_l (cd_r hgv)))))))))) | 3, _ => exact (cd_l (cd_l (cd_l (cd_l (cd_l (cd_l (cd_r (cd_l (cd_r hgv))))))))) | 4, _ => exact (cd_r (cd_l (cd_l (cd_l (cd_l (cd_l (cd_r (cd_l (cd_r hgv))))))))) | j + 5, hj => exact absurd hj (by simp)), List.forall_mem_cons.mpr ⟨so_one (by decide +kernel) hA hz1 hz2 (hts _ (List.mem_append_right _ n_t548)) (cd_r (cd_r (cd_r (cd_r (cd_l (cd_l (cd_l (cd_r (cd_l (cd_r hgv)))))))))) (cd_l (cd_l (cd_l (cd_r (cd_l (cd_l (cd_r (cd_l (cd_r hgv))))))))) (cd_r (cd_l (cd_l (cd_r (cd_l (cd_l (cd_r (cd_l (cd_r hgv))))))))) (cd_l (cd_r (cd_l (cd_r (cd_l (cd_l (cd_r (cd_l (cd_r hgv))))))))) (fun j hj => by match j, hj with | 0, _ => exact (cd_l (cd_r (cd_r (cd_l (cd_r (cd_l (cd_l (cd_r (cd_l (cd_r hgv)))))))))) | 1, _ => exact (cd_r (cd_r (cd_r (cd_l (cd_r (cd_l (cd_l (cd_r (cd_l (cd_r hgv)))))))))) | 2, _ => exact (cd_l (cd_l (cd_r (cd_r (cd_l (cd_l (cd_r (cd_l (cd_r hgv))))))))) | 3, _ => exact (cd_r (cd_l (cd_r (cd_r (cd_l (cd_l (cd_r (cd_l (cd_r hgv))))))))) | 4, _ => exact (cd_l (cd_r (cd_r (cd_r (cd_l (cd_l (cd_r (cd_l (cd_r hgv))))))))) | j + 5, hj => exact absurd hj (by simp)), List.forall_mem_cons.mpr ⟨so_one (by decide +kernel) hA hz1 hz2 (hts _ (List.mem_append_right _ n_t554)) (cd_l (cd_l (cd_r (cd_l (cd_r (cd_l (cd_r (cd_l (cd_r hgv))))))))) (cd_r (cd_l (cd_r (cd_l (cd_r (cd_l (cd_r (cd_l (cd_r hgv))))))))) (cd_l (cd_r (cd_r (cd_l (cd_r (cd_l (cd_r (cd_l (cd_r hgv))))))))) (cd_l (cd_r (cd_r (cd_r (cd_l (cd_r (cd_l (cd_r (cd_l (cd_r hgv)))))))))) (fun j hj => by match j, hj with | 0, _ => exact (cd_r (cd_r (cd_r (cd_r (cd_l (cd_r (cd_l (cd_r (cd_l (cd_r hgv)))))))))) | 1, _ => exact (cd_l (cd_l (cd_l (cd_r (cd_r (cd_l (cd_r (cd_l (cd_r hgv))))))))) | 2, _ => exact (cd_r (cd_l (cd_l (cd_r (cd_r (cd_l (cd_r (cd_l (cd_r hgv))))))))) | 3, _ => exact (cd_l (cd_r (cd_l (cd_r (cd_r (cd_l (cd_r (cd_l (cd_r hgv))))))))) | 4, _ => exact (cd_l (cd_r (cd_r (cd_l (cd_r (cd_r (cd_l (cd_r (cd_l (cd_r hgv)))))))))) | j + 5, hj => exact absurd hj (by simp)), List.forall_mem_cons.mpr ⟨so_one (by decide +kernel) hA hz1 hz2 (hts _ (List.mem_append_right _ n_t1144)) (cd_l (cd_r (cd_l (cd_l (cd_l (cd_r (cd_r (cd_l (cd_r hgv))))))))) (cd_r (cd_r (cd_l (cd_l (cd_l (cd_r (cd_r (cd_l (cd_r hgv))))))))) (cd_l (cd_l (cd_r (cd_l (cd_l (cd_r (cd_r (cd_l (cd_r hgv))))))))) (cd_r (cd_l (cd_r (cd_l (cd_l (cd_r (cd_r (cd_l (cd_r hgv))))))))) (fun j hj => by match j, hj with | 0, _ => exact (cd_l (cd_r (cd_r (cd_l (cd_l (cd_r (cd_r (cd_l (cd_r hgv))))))))) | 1, _ => exact (cd_l (cd_r (cd_r (cd_r (cd_l (cd_l (cd_r (cd_r (cd_l (cd_r hgv)))))))))) | 2, _ => exact (cd_r (cd_r (cd_r (cd_r (cd_l (cd_l (cd_r (cd_r (cd_l (cd_r hgv)))))))))) | 3, _ => exact (cd_l (cd_l (cd_l (cd_r (cd_l (cd_r (cd_r (cd_l (cd_r hgv))))))))) | j + 4, hj => exact absurd hj (by simp)), List.forall_mem_cons.mpr ⟨so_one (by decide +kernel) hA hz1 hz2 (hts _ (List.mem_append_right _ n_t1163)) (cd_l (cd_l (cd_l (cd_l (cd_r (cd_r (cd_r (cd_l (cd_r hgv))))))))) (cd_r (cd_l (cd_l (cd_l (cd_r (cd_r (cd_r (cd_l (cd_r hgv))))))))) (cd_l (cd_r (cd_l (cd_l (cd_r (cd_r (cd_r (cd_l (cd_r hgv))))))))) (cd_l (cd_r (cd_r (cd_l (cd_l (cd_r (cd_r (cd_r (cd_l (cd_r hgv)))))))))) (fun j hj => by match j, hj with | 0, _ => exact (cd_r (cd_r (cd_r (cd_l (cd_l (cd_r (cd_r (cd_r (cd_l (cd_r hgv)))))))))) | 1, _ => exact (cd_l (cd_l (cd_r (cd_l (cd_r (cd_r (cd_r (cd_l (cd_r hgv))))))))) | 2, _ => exact (cd_r (cd_l (cd_r (cd_l (cd_r (cd_r (cd_r (cd_l (cd_r hgv))))))))) | 3, _ => exact (cd_l (cd_r (cd_r (cd_l (cd_r (cd_r (cd_r (cd_l (cd_r hgv))))))))) | j + 4, hj => exact absurd hj (by simp)), List.forall_mem_cons.mpr ⟨so_one (by decide +kernel) hA hz1 hz2 (hts _ (List.mem_append_right _ n_t1168)) (cd_l (cd_r (cd_r (cd_r (cd_r (cd_r (cd_r (cd_r (cd_l (cd_r hgv)))))))))) (cd_r (cd_r (cd_r (cd_r (cd_r (cd_r (cd_r (cd_r (cd_l (cd_r hgv)))))))))) (cd_l (cd_l (cd_l (cd_l (cd_l (cd_l (cd_l (cd_r (cd_r hgv))))))))) (cd_r (cd_l (cd_l (cd_l (cd_l (cd_l (cd_l (cd_r (cd_r hgv))))))))) (fun j hj => by match j, hj with | 0, _ => exact (cd_l (cd_r (cd_l (cd_l (cd_l (cd_l (cd_l (cd_r (cd_r hgv))))))))) | 1, _ => exact (cd_r (cd_r (cd_l (cd_l (cd_l (cd_l (cd_l (cd_r (cd_r hgv))))))))) | 2, _ => exact (cd_l (cd_l (cd_r (cd_l (cd_l (cd_l (cd_l (cd_r (cd_r hgv))))))))) | j + 3, hj => exact absurd hj (by simp)), List.forall_mem_cons.mpr ⟨so_one (by decide +kernel) hA hz1 hz2 (hts _ (List.mem_append_right _ n_t1169)) (cd_l (cd_r (cd_r (cd_r (cd_l (cd_l (cd_l (cd_r (cd_r hgv))))))))) (cd_l (cd_r (cd_r (cd_r (cd_r (cd_l (cd_l (cd_l (cd_r (cd_r hgv)))))))))) (cd_r (cd_r (cd_r (cd_r (cd_r (cd_l (cd_l (cd_l (cd_r (cd_r hgv)))))))))) (cd_l (cd_l (cd_l (cd_l (cd_r (cd_l (cd_l (cd_r (cd_r hgv))))))))) (fun j hj => by match j, hj with | 0, _ => exact (cd_r (cd_l (cd_l (cd_l (cd_r (cd_l (cd_l (cd_r (cd_r hgv))))))))) | 1, _ => exact (cd_l (cd_r (cd_l (cd_l (cd_r (cd_l (cd_l (cd_r (cd_r hgv))))))))) | 2, _ => exact (cd_l (cd_r (cd_r (cd_l (cd_l (cd_r (cd_l (cd_l (cd_r (cd_r hgv)))))))))) | 3, _ => exact (cd_r (cd_r (cd_r (cd_l (cd_l (cd_r (cd_l (cd_l (cd_r (cd_r hgv)))))))))) | 4, _ => exact (cd_l (cd_l (cd_r (cd_l (cd_r (cd_l (cd_l (cd_r (cd_r hgv))))))))) | j + 5, hj => exact absurd hj (by simp)), List.forall_mem_cons.mpr ⟨so_one (by decide +kernel) hA hz1 hz2 (hts _ (List.mem_append_right _ n_t1170)) (cd_l (cd_r (cd_r (cd_r (cd_r (cd_r (cd_l (cd_l (cd_r (cd_r hgv)))))))))) (cd_r (cd_r (cd_r (cd_r (cd_r (cd_r (cd_l (cd_l (cd_r (cd_r hgv)))))))))) (cd_l (cd_l (cd_l (cd_l (cd_l (cd_r (cd_l (cd_r (cd_r hgv))))))))) (cd_r (cd_l (cd_l (cd_l (cd_l (cd_r (cd_l (cd_r (cd_r hgv))))))))) (fun j hj => by match j, hj with | 0, _ => exact (cd_l (cd_r (cd_l (cd_l (cd_l (cd_r (cd_l (cd_r (cd_r hgv))))))))) | 1, _ => exact (cd_r (cd_r (cd_l (cd_l (cd_l (cd_r (cd_l (cd_r (cd_r hgv))))))))) | 2, _ => exact (cd_l (cd_l (cd_r (cd_l (cd_l (cd_r (cd_l (cd_r (cd_r hgv))))))))) | 3, _ => exact (cd_r (cd_l (cd_r (cd_l (cd_l (cd_r (cd_l (cd_r (cd_r hgv))))))))) | 4, _ => exact (cd_l (cd_r (cd_r (cd_l (cd_l (cd_r (cd_l (cd_r (cd_r hgv))))))))) | j + 5, hj => exact absurd hj (by simp)), List.forall_mem_cons.mpr ⟨so_one (by decide +kernel) hA hz1 hz2 (hts _ (List.mem_append_right _ n_t1171)) (cd_r (cd_l (cd_l (cd_l (cd_r (cd_r (cd_l (cd_r (cd_r hgv))))))))) (cd_l (cd_r (cd_l (cd_l (cd_r (cd_r (cd_l (cd_r (cd_r hgv))))))))) (cd_l (cd_r (cd_r (cd_l (cd_l (cd_r (cd_r (cd_l (cd_r (cd_r hgv)))))))))) (cd_r (cd_r (cd_r (cd_l (cd_l (cd_r (cd_r (cd_l (cd_r (cd_r hgv)))))))))) (fun j hj => by match j, hj with | 0, _ => exact (cd_l (cd_l (cd_r (cd_l (cd_r (cd_r (cd_l (cd_r (cd_r hgv))))))))) | 1, _ => exact (cd_r (cd_l (cd_r (cd_l (cd_r (cd_r (cd_l (cd_r (cd_r hgv))))))))) | 2, _ => exact (cd_l (cd_r (cd_r (cd_l (cd_r (cd_r (cd_l (cd_r (cd_r hgv))))))))) | 3, _ => exact (cd_l (cd_r (cd_r (cd_r (cd_l (cd_r (cd_r (cd_l (cd_r (cd_r hgv)))))))))) | 4, _ => exact (cd_r (cd_r (cd_r (cd_r (cd_l (cd_r (cd_r (cd_l (cd_r (cd_r hgv)))))))))) | j + 5, hj => exact absurd hj (by simp)), List.forall_mem_cons.mpr ⟨so_one (by decide +kernel) hA hz1 hz2 (hts _ (List.mem_append_right _ n_t1172)) (cd_l (cd_l (cd_r (cd_l (cd_l (cd_l (cd_r (cd_r (cd_r hgv))))))))) (cd_r (cd_l (cd_r (cd_l (cd_l (cd_l (cd_r (cd_r (cd_r hgv))))))))) (cd_l (cd_r (cd_r (cd_l (cd_l (cd_l (cd_r (cd_r (cd_r hgv))))))))) (cd_l (cd_r (cd_r (cd_r (cd_l (cd_l (cd_l (cd_r (cd_r (cd_r hgv)))))))))) (fun j hj => by match j, hj with | 0, _ => exact (cd_r (cd_r (cd_r (cd_r (cd_l (cd_l (cd_l (cd_r (cd_r (cd_r hgv)))))))))) | 1, _ => exact (cd_l (cd_l (cd_l (cd_r (cd_l (cd_l (cd_r (cd_r (cd_r hgv))))))))) | 2, _ => exact (cd_r (cd_l (cd_l (cd_r (cd_l (cd_l (cd_r (cd_r (cd_r hgv))))))))) | 3, _ => exact (cd_l (cd_r (cd_l (cd_r (cd_l (cd_l (cd_r (cd_r (cd_r hgv))))))))) | j + 4, hj => exact absurd hj (by simp)), List.forall_mem_cons.mpr ⟨so_one (by decide +kernel) hA hz1 hz2 (hts _ (List.mem_append_right _ n_t1173)) (cd_l (cd_r (cd_r (cd_r (cd_l (cd_r (cd_l (cd_r (cd_r (cd_r hgv)))))))))) (cd_r (cd_r (cd_r (cd_r (cd_l (cd_r (cd_l (cd_r (cd_r (cd_r hgv)))))))))) (cd_l (cd_l (cd_l (cd_r (cd_r (cd_l (cd_r (cd_r (cd_r hgv))))))))) (cd_r (cd_l (cd_l (cd_r (cd_r (cd_l (cd_r (cd_r (cd_r hgv))))))))) (fun j hj => by match j, hj with | 0, _ => exact (cd_l (cd_r (cd_l (cd_r (cd_r (cd_l (cd_r (cd_r (cd_r hgv))))))))) | 1, _ => exact (cd_l (cd_r (cd_r (cd_l (cd_r (cd_r (cd_l (cd_r (cd_r (cd_r hgv)))))))))) | 2, _ => exact (cd_r (cd_r (cd_r (cd_l (cd_r (cd_r (cd_l (cd_r (cd_r (cd_r hgv)))))))))) | 3, _ => exact (cd_l (cd_l (cd_r (cd_r (cd_r (cd_l (cd_r (cd_r (cd_r hgv))))))))) | 4, _ => exact (cd_r (cd_l (cd_r (cd_r (cd_r (cd_l (cd_r (cd_r (cd_r hgv))))))))) | j + 5, hj => exact absurd hj (by simp)), List.forall_mem_cons.mpr ⟨so_one (by decide +kernel) hA hz1 hz2 (hts _ (List.mem_append_right _ n_t1174)) (cd_r (cd_r (cd_r (cd_l (cd_r (cd_l (cd_r (cd_r (cd_r (cd_r hgv)))))))))) (cd_l (cd_l (cd_r (cd_r (cd_l (cd_r (cd_r (cd_r (cd_r hgv))))))))) (cd_r (cd_l (cd_r (cd_r (cd_l (cd_r (cd_r (cd_r (cd_r hgv))))))))) (cd_l (cd_r (cd_r (cd_r (cd_l (cd_r (cd_r (cd_r (cd_r hgv))))))))) (fun j hj => by match j, hj with | 0, _ => exact (cd_l (cd_r (cd_r (cd_r (cd_r (cd_l (cd_r (cd_r (cd_r (cd_r hgv)))))))))) | 1, _ => exact (cd_r (cd_r (cd_r (cd_r (cd_r (cd_l (cd_r (cd_r (cd_r (cd_r hgv)))))))))) | 2, _ => exact (cd_l (cd_l (cd_l (cd_l (cd_r (cd_r (cd_r (cd_r (cd_r hgv))))))))) | 3, _ => exact (cd_r (cd_l (cd_l (cd_l (cd_r (cd_r (cd_r (cd_r (cd_r hgv))))))))) | 4, _ => exact (cd_l (cd_r (cd_l (cd_l (cd_r (cd_r (cd_r (cd_r (cd_r hgv))))))))) | j + 5, hj => exact absurd hj (by simp)), fun _ h => absurd h List.not_mem_nil⟩⟩⟩⟩⟩⟩⟩⟩⟩⟩⟩⟩⟩⟩⟩⟩⟩⟩
end
