section
noncomputable def PMones (h z : Nat → Int32) (e : Nat → Nat → Int64) (t : TA) (a n r : Int32) (t' : TA) : Prop := (r = -2 ∧ (¬ Sh a ∨ ∃ k : Nat, k < 8 ∧ a = nI k ∧ ¬ h k = 2 ∧ ¬ h k = 0 ∧ (n < 0 ∨ ¬ n - n / 4 * 4 = 0 ∨ ¬ n ≤ z k)) ∧ t' = t) ∨ (r = -3 ∧ (∃ k : Nat, k < 8 ∧ a = nI k ∧ h k = 2) ∧ t' = t) ∨ (r = -4 ∧ (∃ k : Nat, k < 8 ∧ a = nI k ∧ ¬ h k = 2 ∧ h k = 0) ∧ t' = t) ∨ ∃ k m : Nat, k < 8 ∧ a = nI k ∧ ¬ h k = 2 ∧ ¬ h k = 0 ∧ n = nI (4 * m) ∧ 4 * m ≤ 40 ∧ n ≤ z k ∧ (t', r) = onG (e k) m 0 t 0
theorem on_cong {e f : Nat → Int64} : ∀ n i t c, (∀ j, i ≤ j → j < i + 4 * n → e j = f j) → onG e n i t c = onG f n i t c := by
  intro n
  induction n with
  | zero => intro i t c _; rfl
  | succ n ih =>
    intro i t c h
    unfold onG
    rw [h i (by omega) (by omega), h (i + 1) (by omega) (by omega), h (i + 2) (by omega) (by omega), h (i + 3) (by omega) (by omega), ih (i + 4) _ _ (fun j h1 h2 => h j (by omega) (by omega))]
theorem gA_cong {f g : Nat → Bool} {K : Nat → Int32} : ∀ n, (∀ p, p < n → f p = g p) → gA f K n = gA g K n := by
  intro n
  induction n with
  | zero => intro _; rfl
  | succ n ih =>
    intro h
    unfold gA
    rw [h n (by omega), ih (fun p hp => h p (by omega))]
theorem mgr_mkn {t : TA} {b : Nat} {s : Int32} (h8 : T_np t ≤ 8) : mgr t b s = mkn t b (s &&& zthere t) := by
  unfold mgr mkn
  refine gA_cong _ (fun p hp => ?_)
  rw [bitb_and (by omega), bitb_th (by omega), decide_eq_true hp, Bool.true_and]
theorem ws_cong {f g : Nat → Int32} : ∀ n, (∀ b, b < n → f b = g b) → wsum f n = wsum g n := by
  intro n
  induction n with
  | zero => intro _; rfl
  | succ n ih =>
    intro h
    unfold wsum
    rw [h n (by omega), ih (fun p hp => h p (by omega))]
theorem mvo_waF {t : TA} {s : Int32} (h8 : T_np t ≤ 8) : mvo t s = waF t (s &&& zthere t) := ws_cong _ (fun b _ => by rw [mgr_mkn h8])
theorem mvo_all {t : TA} (h8 : T_np t ≤ 8) : mvo t ((1 : Int32) <<< (nI (T_np t) &&& 31) - 1) = zval t := by rw [mvo_waF h8, all_there h8]; rfl
theorem WI_rdG {loud most : Int32} : ∀ n j t c, WI t → WI (rdG loud most n j t c).1 := by
  intro n
  induction n with
  | zero => intro j t c h; exact h
  | succ n ih =>
    intro j t c h
    have n1 := h.1.1.1
    have n2 := h.1.1.2
    by_cases c1 : most ≤ nI j
    · rw [rd_m c1]; exact h
    · rcases du_in t (T_nb t) with e | ⟨k, hk, e⟩
      · rw [rd_u e]; exact h
      · rcases br_in t k (T_np t) with e2 | ⟨p, hp, e2⟩
        · rw [rd_b (k := k) e (by omega) e2]; exact h
        · rw [rd_go c1 (k := k) e (by omega) (i := p) e2 (by omega)]
          exact ih _ _ _ (WI_rdS h hp hk)
theorem WI_act {t : TA} {k a : Int32} (h : WI t) : WI (zact t k a).1 := by
  unfold zact
  split
  · exact WI_rdG _ _ _ _ h
  · split
    · exact WI_rdG _ _ _ _ h
    · split
      · exact WI_rdG _ _ _ _ h
      · split
        · exact WI_ch h
        · split
          · exact WI_ch (WI_ch h)
          · split
            · exact WI_rdG _ _ _ _ (WI_ch h)
            · exact h
noncomputable def PMyears (h q am : Nat → Int32) (t : TA) (a n r : Int32) (t' : TA) : Prop := (r = -2 ∧ (¬ Sh a ∨ ¬ Iv n.toInt64 1 20) ∧ t' = t) ∨ (r = -3 ∧ Iv n.toInt64 1 20 ∧ (∃ k : Nat, k < 8 ∧ a = nI k ∧ h k = 1) ∧ t' = t) ∨ (r = -4 ∧ Iv n.toInt64 1 20 ∧ (∃ k : Nat, k < 8 ∧ a = nI k ∧ ¬ h k = 1 ∧ h k = 0) ∧ t' = t) ∨ ∃ k m : Nat, k < 8 ∧ a = nI k ∧ ¬ h k = 1 ∧ ¬ h k = 0 ∧ 1 ≤ m ∧ m ≤ 20 ∧ n = nI m ∧ (t', r) = yrG (q k) (am k) m t 0
theorem ex_k {f : Nat → Int32} {k1 : Nat} (h1 : k1 < 8) (h : ∃ k : Nat, k < 8 ∧ nI k1 = nI k ∧ ¬ f k = 1 ∧ ¬ f k = 0) : ¬ f k1 = 1 ∧ ¬ f k1 = 0 := by
  obtain ⟨k, hk, e, h2⟩ := h
  have e := nI_inj (by omega) (by omega) e
  subst e
  exact h2
theorem yr_st {K A0 xS v : Int32} {n : Nat} {tJ tX : TA} {R : TA × Int32} (hR : yrG K A0 (n + 1) tJ xS = R) (e : tX = zey (zdd (zact tJ K A0).1)) (ev : v = zval (zact tJ K A0).1) : yrG K A0 n tX (xS + v) = R := by
  rw [e, ev, ← hR]
  rfl
set_option maxHeartbeats 4000000 in
set_option maxRecDepth 100000 in
theorem x_X6_ones (l : Launch) (G : va_G) (cy : Nat → ClassId) (sz : Nat) (qm : Nat) (qmh : Nat) (qmo : Nat) (qmz : Nat) (qmR : Nat) (qmv : Nat) (qmk : Nat) (qma : Nat) (qmt : Nat) (kZ : Nat) (qmr : Nat) (tA : TA) (qmB : Nat) (qmO : Nat) (qmK : Nat) (iEn : Int32) (iTk : Int32) (uP : UM) (uU : UM) (kAt : Nat) (iTo : Int32) (iFr : Int32) (JFi : Int64) (iFa : Int32) (qm3 : Nat) (iSt : Int32) (iLv : Int32) (iWs : Int32) (vLa : Value) (qmu : Nat) (qmy : Nat) (qmb : Nat) (qms : Nat) (iOm : Int32) (fMh : Nat → Int32) (fMz : Nat → Int32) (rR : Nat → Nat) (eR : Nat → Nat → Int64) (rB : Nat → Nat) (rO : Nat → Nat) (rK : Nat → Nat) (fMr : Nat → Int32) (iA : Int32) (iB : Int32)  (hB : T_nb tA ≤ 8) (hPp : T_np tA ≤ 8) (hTI : TI tA) (hSz : ∀ s, s < 8 → ∃ n : Nat, n ≤ 40 ∧ fMz s = nI n) (hWI : WI tA) : MW l yX6_ones cX6_ones 6 (some .int) 16 0 0 G cy (zzO qm 5 (.ref qmh :: .ref qmo :: .ref qmz :: .ref qmR :: .ref qmv :: .ref qmk :: .ref qma :: .ref qmt :: .int (nI kZ) :: .ref qmr :: .int (nI (T_nb tA)) :: .ref qmB :: .int (nI (T_np tA)) :: .ref qmO :: .ref qmK :: .int iEn :: .int iTk :: .int (T_sd tA) :: ov uP :: ov uU :: .int (nI kAt) :: .int iTo :: .int iFr :: .long JFi :: .int iFa :: .ref qm3 :: .int iSt :: .int iLv :: .int iWs :: vLa :: .ref qmu :: .ref qmy :: .ref qmb :: .ref qms :: .int iOm :: []) :: zzI cy qmh 8 fMh :: zzI cy qmz 8 fMz :: zzG cy 4 qmR rR :: zzJ cy (rR 0) 40 (eR 0) :: zzJ cy (rR 1) 40 (eR 1) :: zzJ cy (rR 2) 40 (eR 2) :: zzJ cy (rR 3) 40 (eR 3) :: zzJ cy (rR 4) 40 (eR 4) :: zzJ cy (rR 5) 40 (eR 5) :: zzJ cy (rR 6) 40 (eR 6) :: zzJ cy (rR 7) 40 (eR 7) :: zzG cy 3 qmB rB :: zzI cy (rB 0) 4 (bkR tA 0) :: zzI cy (rB 1) 4 (bkR tA 1) :: zzI cy (rB 2) 4 (bkR tA 2) :: zzI cy (rB 3) 4 (bkR tA 3) :: zzI cy (rB 4) 4 (bkR tA 4) :: zzI cy (rB 5) 4 (bkR tA 5) :: zzI cy (rB 6) 4 (bkR tA 6) :: zzI cy (rB 7) 4 (bkR tA 7) :: zzG cy 3 qmO rO :: zzI cy (rO 0) 5 (onR tA 0) :: zzI cy (rO 1) 5 (onR tA 1) :: zzI cy (rO 2) 5 (onR tA 2) :: zzI cy (rO 3) 5 (onR tA 3) :: zzI cy (rO 4) 5 (onR tA 4) :: zzI cy (rO 5) 5 (onR tA 5) :: zzI cy (rO 6) 5 (onR tA 6) :: zzI cy (rO 7) 5 (onR tA 7) :: zzG cy 3 qmK rK :: zzI cy (rK 0) 8 (T_kn tA 0) :: zzI cy (rK 1) 8 (T_kn tA 1) :: zzI cy (rK 2) 8 (T_kn tA 2) :: zzI cy (rK 3) 8 (T_kn tA 3) :: zzI cy (rK 4) 8 (T_kn tA 4) :: zzI cy (rK 5) 8 (T_kn tA 5) :: zzI cy (rK 6) 8 (T_kn tA 6) :: zzI cy (rK 7) 8 (T_kn tA 7) :: zzI cy qmr 8 fMr :: []) sz [.ref qm, .int iA, .int iB] (Wi G (fun r u => ∃ (tN : TA) (fNr : Nat → Int32), u = (zzO qm 5 (.ref qmh :: .ref qmo :: .ref qmz :: .ref qmR :: .ref qmv :: .ref qmk :: .ref qma :: .ref qmt :: .int (nI kZ) :: .ref qmr :: .int (nI (T_nb tN)) :: .ref qmB :: .int (nI (T_np tN)) :: .ref qmO :: .ref qmK :: .int iEn :: .int iTk :: .int (T_sd tN) :: ov uP :: ov uU :: .int (nI kAt) :: .int iTo :: .int iFr :: .long JFi :: .int iFa :: .ref qm3 :: .int iSt :: .int iLv :: .int iWs :: vLa :: .ref qmu :: .ref qmy :: .ref qmb :: .ref qms :: .int iOm :: []) :: zzI cy qmh 8 fMh :: zzI cy qmz 8 fMz :: zzG cy 4 qmR rR :: zzJ cy (rR 0) 40 (eR 0) :: zzJ cy (rR 1) 40 (eR 1) :: zzJ cy (rR 2) 40 (eR 2) :: zzJ cy (rR 3) 40 (eR 3) :: zzJ cy (rR 4) 40 (eR 4) :: zzJ cy (rR 5) 40 (eR 5) :: zzJ cy (rR 6) 40 (eR 6) :: zzJ cy (rR 7) 40 (eR 7) :: zzG cy 3 qmB rB :: zzI cy (rB 0) 4 (bkR tN 0) :: zzI cy (rB 1) 4 (bkR tN 1) :: zzI cy (rB 2) 4 (bkR tN 2) :: zzI cy (rB 3) 4 (bkR tN 3) :: zzI cy (rB 4) 4 (bkR tN 4) :: zzI cy (rB 5) 4 (bkR tN 5) :: zzI cy (rB 6) 4 (bkR tN 6) :: zzI cy (rB 7) 4 (bkR tN 7) :: zzG cy 3 qmO rO :: zzI cy (rO 0) 5 (onR tN 0) :: zzI cy (rO 1) 5 (onR tN 1) :: zzI cy (rO 2) 5 (onR tN 2) :: zzI cy (rO 3) 5 (onR tN 3) :: zzI cy (rO 4) 5 (onR tN 4) :: zzI cy (rO 5) 5 (onR tN 5) :: zzI cy (rO 6) 5 (onR tN 6) :: zzI cy (rO 7) 5 (onR tN 7) :: zzG cy 3 qmK rK :: zzI cy (rK 0) 8 (T_kn tN 0) :: zzI cy (rK 1) 8 (T_kn tN 1) :: zzI cy (rK 2) 8 (T_kn tN 2) :: zzI cy (rK 3) 8 (T_kn tN 3) :: zzI cy (rK 4) 8 (T_kn tN 4) :: zzI cy (rK 5) 8 (T_kn tN 5) :: zzI cy (rK 6) 8 (T_kn tN 6) :: zzI cy (rK 7) 8 (T_kn tN 7) :: zzI cy qmr 8 fNr :: []) ∧ (WI tN ∧ PMones fMh fMz eR tA iA iB r tN) ∧ (True))) := by
  refine enW RX6 (by decide +kernel) rfl (Nat.le_of_ble_eq_true rfl) (fun p e s m below meth c ls A hx hb hml hown hts hr hlocks hP hN hl hin hD hA hS => ?_)
  have hin : meth.name = _ := hin
  have hK := hN.1
  replace hl : lv_has ls 6 [(0, .ref qm), (1, .int iA), (2, .int iB)] := hl
  refine lv_aload_n hx hb (g_42 bX6_ones rfl) rfl (lv_at hl 0 rfl) ?_
  refine lv_iload_n hx hb (g_27 bX6_ones rfl) rfl (lv_at hl 1 rfl) ?_
  refine cVi (As := [.int iA]) (rest := []) (b := qm) (q := (RX6, TX6, 35)) ⟨hx, hb, hml, hown, hts⟩ (c_X6_noRow l G cy (s.heap).size qm qmh (.ref qmo) (.ref qmz) (.ref qmR) (.ref qmv) (.ref qmk) (.ref qma) (.ref qmt) (.int (nI kZ)) qmr tA qmB qmO qmK iEn iTk (ov uP) (ov uU) (.int (nI kAt)) (.int iTo) (.int iFr) (.long JFi) (.int iFa) (.ref qm3) (.int iSt) iLv iWs vLa (.ref qmu) (.ref qmy) (.ref qmb) (.ref qms) (.int iOm) fMh fMr iA) L_X6_95 hN hP hD hS hA (trueIx 0 (true :: true :: false :: false :: false :: false :: false :: false :: false :: false :: false :: false :: false :: false :: false :: false :: false :: false :: false :: false :: false :: false :: false :: false :: false :: false :: false :: false :: false :: false :: false :: false :: false :: false :: false :: false :: false :: false :: false :: true :: [])) (false :: false :: true :: true :: true :: true :: true :: true :: true :: true :: true :: true :: true :: true :: true :: true :: true :: true :: true :: true :: true :: true :: true :: true :: true :: true :: true :: true :: true :: true :: true :: true :: true :: true :: true :: true :: true :: true :: true :: false :: []) (sel_eq rfl rfl) (by decide +kernel) rfl 0 5 rfl rfl rfl ⟨Nat.le_of_ble_eq_true rfl, Nat.le_of_ble_eq_true rfl⟩ hl.1 (Nat.le_of_ble_eq_true rfl) (g_182 (v := 95) bX6_ones rfl) ⟨Nat.le_of_ble_eq_true rfl, Nat.le_of_ble_eq_true rfl⟩ (fun r_1 u_3 H locs h_2 => ?_)
  clear hP hD hS
  intro hP hD hS
  obtain ⟨fX_4, hu9, h_2⟩ := h_2
  have hPD := pd_eq (_ :: _ :: _ :: _ :: _ :: _ :: _ :: _ :: _ :: _ :: _ :: _ :: _ :: _ :: _ :: _ :: _ :: _ :: _ :: _ :: _ :: _ :: _ :: _ :: _ :: _ :: _ :: _ :: _ :: _ :: _ :: _ :: _ :: _ :: _ :: _ :: _ :: _ :: _ :: zzI cy qmr 8 fX_4 :: []) hP hD hu9 rfl
  clear hP hD hu9
  obtain ⟨hP, hD⟩ := hPD
  rcases h_2 with ⟨rfl, h_5⟩ | ⟨rfl, h_5⟩ | ⟨rfl, h_5⟩ | ⟨rfl, h_5⟩
  · refine lv_istore_n (lv' := [(3, .int (-2)), (0, .ref qm), (1, .int iA), (2, .int iB)]) hx hb (g_62 bX6_ones rfl) rfl hl (by decide +kernel) rfl (fun ls => ?_)
    clear hl
    intro hl
    refine lv_iload_n hx hb (g_29 bX6_ones rfl) rfl (lv_at hl 0 rfl) ?_
    refine lv_if_eq (tgt := 12) hx hb dX6_ones_7 (by decide +kernel) (fun h9 => absurd h9 (by decide +kernel)) (fun _ => ?_)
    refine lv_iload_n hx hb (g_29 bX6_ones rfl) rfl (lv_at hl 0 rfl) ?_
    exact endWs [(false :: false :: false :: false :: false :: false :: false :: false :: false :: false :: false :: false :: false :: false :: false :: false :: false :: false :: false :: false :: false :: false :: false :: false :: false :: false :: false :: false :: false :: false :: false :: false :: false :: false :: false :: false :: false :: true :: true :: []), (true :: true :: true :: true :: true :: true :: true :: true :: true :: true :: true :: true :: true :: true :: true :: true :: true :: true :: true :: true :: true :: true :: true :: true :: true :: true :: true :: true :: true :: true :: true :: true :: true :: true :: true :: true :: true :: false :: false :: true :: [])] hx hb hr hlocks rfl hP hD rfl (by decide +kernel) hS ⟨tA, fX_4, rfl, ⟨hWI, Or.inl ⟨rfl, Or.inl h_5, rfl⟩⟩, trivial⟩ (g_172 bX6_ones rfl)
  · obtain ⟨k_7, hk_8, rfl, h_9⟩ := h_5
    refine lv_istore_n (lv' := [(3, .int (-3)), (0, .ref qm), (1, .int (nI k_7)), (2, .int iB)]) hx hb (g_62 bX6_ones rfl) rfl hl (by decide +kernel) rfl (fun ls => ?_)
    clear hl
    intro hl
    refine lv_iload_n hx hb (g_29 bX6_ones rfl) rfl (lv_at hl 0 rfl) ?_
    refine lv_if_eq (tgt := 12) hx hb dX6_ones_7 (by decide +kernel) (fun h9 => absurd h9 (by decide +kernel)) (fun _ => ?_)
    refine lv_iload_n hx hb (g_29 bX6_ones rfl) rfl (lv_at hl 0 rfl) ?_
    exact endWs [(false :: false :: false :: false :: false :: false :: false :: false :: false :: false :: false :: false :: false :: false :: false :: false :: false :: false :: false :: false :: false :: false :: false :: false :: false :: false :: false :: false :: false :: false :: false :: false :: false :: false :: false :: false :: false :: true :: true :: []), (true :: true :: true :: true :: true :: true :: true :: true :: true :: true :: true :: true :: true :: true :: true :: true :: true :: true :: true :: true :: true :: true :: true :: true :: true :: true :: true :: true :: true :: true :: true :: true :: true :: true :: true :: true :: true :: false :: false :: true :: [])] hx hb hr hlocks rfl hP hD rfl (by decide +kernel) hS ⟨tA, fX_4, rfl, ⟨hWI, Or.inr (Or.inl ⟨rfl, ⟨k_7, hk_8, rfl, h_9⟩, rfl⟩)⟩, trivial⟩ (g_172 bX6_ones rfl)
  · obtain ⟨k_11, hk_12, rfl, h_13, h_14⟩ := h_5
    refine lv_istore_n (lv' := [(3, .int (-4)), (0, .ref qm), (1, .int (nI k_11)), (2, .int iB)]) hx hb (g_62 bX6_ones rfl) rfl hl (by decide +kernel) rfl (fun ls => ?_)
    clear hl
    intro hl
    refine lv_iload_n hx hb (g_29 bX6_ones rfl) rfl (lv_at hl 0 rfl) ?_
    refine lv_if_eq (tgt := 12) hx hb dX6_ones_7 (by decide +kernel) (fun h9 => absurd h9 (by decide +kernel)) (fun _ => ?_)
    refine lv_iload_n hx hb (g_29 bX6_ones rfl) rfl (lv_at hl 0 rfl) ?_
    exact endWs [(false :: false :: false :: false :: false :: false :: false :: false :: false :: false :: false :: false :: false :: false :: false :: false :: false :: false :: false :: false :: false :: false :: false :: false :: false :: false :: false :: false :: false :: false :: false :: false :: false :: false :: false :: false :: false :: true :: true :: []), (true :: true :: true :: true :: true :: true :: true :: true :: true :: true :: true :: true :: true :: true :: true :: true :: true :: true :: true :: true :: true :: true :: true :: true :: true :: true :: true :: true :: true :: true :: true :: true :: true :: true :: true :: true :: true :: false :: false :: true :: [])] hx hb hr hlocks rfl hP hD rfl (by decide +kernel) hS ⟨tA, fX_4, rfl, ⟨hWI, Or.inr (Or.inr (Or.inl ⟨rfl, ⟨k_11, hk_12, rfl, h_13, h_14⟩, rfl⟩))⟩, trivial⟩ (g_172 bX6_ones rfl)
  · obtain ⟨k_16, hk_17, rfl, h_18, h_19⟩ := h_5
    refine lv_istore_n (lv' := [(3, .int 0), (0, .ref qm), (1, .int (nI k_16)), (2, .int iB)]) hx hb (g_62 bX6_ones rfl) rfl hl (by decide +kernel) rfl (fun ls => ?_)
    clear hl
    intro hl
    refine lv_iload_n hx hb (g_29 bX6_ones rfl) rfl (lv_at hl 0 rfl) ?_
    refine lv_if_eq (tgt := 12) hx hb dX6_ones_7 (by decide +kernel) (fun _ => ?_) (fun h9 => absurd (by decide +kernel) h9)
    refine lv_iload_n hx hb (g_28 bX6_ones rfl) rfl (lv_at hl 3 rfl) ?_
    refine lv_if_lt (tgt := 32) hx hb dX6_ones_13 (by decide +kernel) (fun c_21 => ?_) (fun c_21 => ?_)
    · refine lv_aload_n hx hb (g_42 bX6_ones rfl) rfl (lv_at hl 1 rfl) ?_
      refine lv_bipush (v := (-2)) hx hb dX6_ones_33 (by decide +kernel) ?_
      refine cVi (As := [.int (-2)]) (rest := []) (b := qm) (q := (RX6, TX6, 35)) ⟨hx, hb, hml, hown, hts⟩ (c_X6_refuse2 l G cy (H).size qm (.ref qmh) (.ref qmo) (.ref qmz) (.ref qmR) (.ref qmv) (.ref qmk) (.ref qma) (.ref qmt) (.int (nI kZ)) qmr tA qmB qmO qmK iEn iTk (ov uP) (ov uU) (.int (nI kAt)) (.int iTo) (.int iFr) (.long JFi) (.int iFa) (.ref qm3) (.int iSt) iLv iWs vLa (.ref qmu) (.ref qmy) (.ref qmb) (.ref qms) (.int iOm) fX_4) L_X6_91 hN hP hD hS hA [37, 39] (true :: true :: true :: true :: true :: true :: true :: true :: true :: true :: true :: true :: true :: true :: true :: true :: true :: true :: true :: true :: true :: true :: true :: true :: true :: true :: true :: true :: true :: true :: true :: true :: true :: true :: true :: true :: true :: false :: true :: false :: []) rfl (by decide +kernel) rfl 37 5 rfl rfl rfl ⟨Nat.le_of_ble_eq_true rfl, Nat.le_of_ble_eq_true rfl⟩ hl.1 (Nat.le_of_ble_eq_true rfl) (g_182 (v := 91) bX6_ones rfl) ⟨Nat.le_of_ble_eq_true rfl, Nat.le_of_ble_eq_true rfl⟩ (fun r_22 u_24 H locs h_23 => ?_)
      clear hP hD hS
      intro hP hD hS
      obtain ⟨fX_25, hu9, h_23⟩ := h_23
      have hPD := pd_eq (_ :: _ :: _ :: _ :: _ :: _ :: _ :: _ :: _ :: _ :: _ :: _ :: _ :: _ :: _ :: _ :: _ :: _ :: _ :: _ :: _ :: _ :: _ :: _ :: _ :: _ :: _ :: _ :: _ :: _ :: _ :: _ :: _ :: _ :: _ :: _ :: _ :: _ :: _ :: zzI cy qmr 8 fX_25 :: []) hP hD hu9 rfl
      clear hP hD hu9
      obtain ⟨hP, hD⟩ := hPD
      subst h_23
      exact endWs [(false :: false :: false :: false :: false :: false :: false :: false :: false :: false :: false :: false :: false :: false :: false :: false :: false :: false :: false :: false :: false :: false :: false :: false :: false :: false :: false :: false :: false :: false :: false :: false :: false :: false :: false :: false :: false :: false :: true :: []), (false :: false :: false :: false :: false :: false :: false :: false :: false :: false :: false :: false :: false :: false :: false :: false :: false :: false :: false :: false :: false :: false :: false :: false :: false :: false :: false :: false :: false :: false :: false :: false :: false :: false :: false :: false :: false :: true :: []), (true :: true :: true :: true :: true :: true :: true :: true :: true :: true :: true :: true :: true :: true :: true :: true :: true :: true :: true :: true :: true :: true :: true :: true :: true :: true :: true :: true :: true :: true :: true :: true :: true :: true :: true :: true :: true :: false :: false :: true :: [])] hx hb hr hlocks rfl hP hD rfl (by decide +kernel) hS ⟨tA, fX_25, rfl, ⟨hWI, Or.inl ⟨rfl, Or.inr ⟨k_16, hk_17, rfl, h_18, h_19, Or.inl c_21⟩, rfl⟩⟩, trivial⟩ (g_172 bX6_ones rfl)
    · refine lv_iload_n hx hb (g_28 bX6_ones rfl) rfl (lv_at hl 3 rfl) ?_
      refine lv_iconst (v := 4) hx hb (g_7 bX6_ones rfl) (by decide +kernel) ?_
      refine lv_irem hx hb (g_112 bX6_ones rfl) (by decide +kernel) ?_
      refine lv_if_ne (tgt := 32) hx hb dX6_ones_19 (by decide +kernel) (fun c_26 => ?_) (fun c_26 => ?_)
      · refine lv_aload_n hx hb (g_42 bX6_ones rfl) rfl (lv_at hl 1 rfl) ?_
        refine lv_bipush (v := (-2)) hx hb dX6_ones_33 (by decide +kernel) ?_
        refine cVi (As := [.int (-2)]) (rest := []) (b := qm) (q := (RX6, TX6, 35)) ⟨hx, hb, hml, hown, hts⟩ (c_X6_refuse2 l G cy (H).size qm (.ref qmh) (.ref qmo) (.ref qmz) (.ref qmR) (.ref qmv) (.ref qmk) (.ref qma) (.ref qmt) (.int (nI kZ)) qmr tA qmB qmO qmK iEn iTk (ov uP) (ov uU) (.int (nI kAt)) (.int iTo) (.int iFr) (.long JFi) (.int iFa) (.ref qm3) (.int iSt) iLv iWs vLa (.ref qmu) (.ref qmy) (.ref qmb) (.ref qms) (.int iOm) fX_4) L_X6_91 hN hP hD hS hA [37, 39] (true :: true :: true :: true :: true :: true :: true :: true :: true :: true :: true :: true :: true :: true :: true :: true :: true :: true :: true :: true :: true :: true :: true :: true :: true :: true :: true :: true :: true :: true :: true :: true :: true :: true :: true :: true :: true :: false :: true :: false :: []) rfl (by decide +kernel) rfl 37 5 rfl rfl rfl ⟨Nat.le_of_ble_eq_true rfl, Nat.le_of_ble_eq_true rfl⟩ hl.1 (Nat.le_of_ble_eq_true rfl) (g_182 (v := 91) bX6_ones rfl) ⟨Nat.le_of_ble_eq_true rfl, Nat.le_of_ble_eq_true rfl⟩ (fun r_27 u_29 H locs h_28 => ?_)
        clear hP hD hS
        intro hP hD hS
        obtain ⟨fX_30, hu9, h_28⟩ := h_28
        have hPD := pd_eq (_ :: _ :: _ :: _ :: _ :: _ :: _ :: _ :: _ :: _ :: _ :: _ :: _ :: _ :: _ :: _ :: _ :: _ :: _ :: _ :: _ :: _ :: _ :: _ :: _ :: _ :: _ :: _ :: _ :: _ :: _ :: _ :: _ :: _ :: _ :: _ :: _ :: _ :: _ :: zzI cy qmr 8 fX_30 :: []) hP hD hu9 rfl
        clear hP hD hu9
        obtain ⟨hP, hD⟩ := hPD
        subst h_28
        exact endWs [(false :: false :: false :: false :: false :: false :: false :: false :: false :: false :: false :: false :: false :: false :: false :: false :: false :: false :: false :: false :: false :: false :: false :: false :: false :: false :: false :: false :: false :: false :: false :: false :: false :: false :: false :: false :: false :: false :: true :: []), (false :: false :: false :: false :: false :: false :: false :: false :: false :: false :: false :: false :: false :: false :: false :: false :: false :: false :: false :: false :: false :: false :: false :: false :: false :: false :: false :: false :: false :: false :: false :: false :: false :: false :: false :: false :: false :: true :: []), (true :: true :: true :: true :: true :: true :: true :: true :: true :: true :: true :: true :: true :: true :: true :: true :: true :: true :: true :: true :: true :: true :: true :: true :: true :: true :: true :: true :: true :: true :: true :: true :: true :: true :: true :: true :: true :: false :: false :: true :: [])] hx hb hr hlocks rfl hP hD rfl (by decide +kernel) hS ⟨tA, fX_30, rfl, ⟨hWI, Or.inl ⟨rfl, Or.inr ⟨k_16, hk_17, rfl, h_18, h_19, Or.inr (Or.inl c_26)⟩, rfl⟩⟩, trivial⟩ (g_172 bX6_ones rfl)
      · refine lv_iload_n hx hb (g_28 bX6_ones rfl) rfl (lv_at hl 3 rfl) ?_
        refine lv_aload_n hx hb (g_42 bX6_ones rfl) rfl (lv_at hl 1 rfl) ?_
        refine va_get (D := G) (ci := 5) (v := .ref qmz) (C := RX6) (T := TX6) (N := 35) hx hb hts iX_X6 hown hK hP 37 rfl rfl 2 (by decide +kernel) (hts _ m_t852) (fun _ h9 => h9) rfl (g_180 (v := 16) bX6_ones rfl) ?_
        refine lv_iload_n hx hb (g_27 bX6_ones rfl) rfl (lv_at hl 2 rfl) ?_
        refine va_iald hx hb hK hP 0 0 rfl rfl (in8 (by omega)) (g_46 bX6_ones rfl) ?_
        refine lv_seti (v := fMz k_16) (congrArg fMz (cl8 (by omega))) ?_
        refine lv_icmp_le (tgt := 39) hx hb dX6_ones_29 (by decide +kernel) (fun c_31 => ?_) (fun c_31 => ?_)
        · obtain ⟨n_32, hn_33, en_34⟩ := hSz k_16 hk_17
          obtain ⟨k_35, hk_36, rfl⟩ := sz4m en_34 hn_33 c_21 c_26 c_31
          refine lv_iconst (v := 0) hx hb (g_3 bX6_ones rfl) (by decide +kernel) ?_
          refine lv_istore (lv' := [(4, .int 0), (3, .int 0), (0, .ref qm), (1, .int (nI k_16)), (2, .int (nI (4 * k_35)))]) hx hb (g_54 (v := 4) bX6_ones rfl) hl (by decide +kernel) rfl (fun ls => ?_)
          clear hl
          intro hl
          refine lv_iconst (v := 0) hx hb (g_3 bX6_ones rfl) (by decide +kernel) ?_
          refine lv_istore (lv' := [(5, .int 0), (4, .int 0), (3, .int 0), (0, .ref qm), (1, .int (nI k_16)), (2, .int (nI (4 * k_35)))]) hx hb (g_54 (v := 5) bX6_ones rfl) hl (by decide +kernel) rfl (fun ls => ?_)
          clear hl
          intro hl
          replace hl : lv_has ls 6 [(5, .int (nI (4 * 0))), (4, .int 0), (3, .int 0), (0, .ref qm), (1, .int (nI k_16)), (2, .int (nI (4 * k_35)))] := hl
          have lp_37 : ∀ (n_38 : Nat) (j_40 : Nat) (tJ_41 : TA) (xC_42 : Int32), 10 - j_40 < n_38 → j_40 ≤ k_35 → WI tJ_41 → onG (eR k_16) (k_35 - j_40) (4 * j_40) tJ_41 xC_42 = onG (eR k_16) k_35 0 tA 0 → ∀ (H : Heap) (locs : List Loc) (ls : Array Slot), va_P G CL (zzI cy qmz 8 fMz :: zzG cy 4 qmR rR :: zzJ cy (rR 0) 40 (eR 0) :: zzJ cy (rR 1) 40 (eR 1) :: zzJ cy (rR 2) 40 (eR 2) :: zzJ cy (rR 3) 40 (eR 3) :: zzJ cy (rR 4) 40 (eR 4) :: zzJ cy (rR 5) 40 (eR 5) :: zzJ cy (rR 6) 40 (eR 6) :: zzJ cy (rR 7) 40 (eR 7) :: zzG cy 3 qmB rB :: zzI cy (rB 0) 4 (bkR tJ_41 0) :: zzI cy (rB 1) 4 (bkR tJ_41 1) :: zzI cy (rB 2) 4 (bkR tJ_41 2) :: zzI cy (rB 3) 4 (bkR tJ_41 3) :: zzI cy (rB 4) 4 (bkR tJ_41 4) :: zzI cy (rB 5) 4 (bkR tJ_41 5) :: zzI cy (rB 6) 4 (bkR tJ_41 6) :: zzI cy (rB 7) 4 (bkR tJ_41 7) :: zzG cy 3 qmO rO :: zzI cy (rO 0) 5 (onR tJ_41 0) :: zzI cy (rO 1) 5 (onR tJ_41 1) :: zzI cy (rO 2) 5 (onR tJ_41 2) :: zzI cy (rO 3) 5 (onR tJ_41 3) :: zzI cy (rO 4) 5 (onR tJ_41 4) :: zzI cy (rO 5) 5 (onR tJ_41 5) :: zzI cy (rO 6) 5 (onR tJ_41 6) :: zzI cy (rO 7) 5 (onR tJ_41 7) :: zzG cy 3 qmK rK :: zzI cy (rK 0) 8 (T_kn tJ_41 0) :: zzI cy (rK 1) 8 (T_kn tJ_41 1) :: zzI cy (rK 2) 8 (T_kn tJ_41 2) :: zzI cy (rK 3) 8 (T_kn tJ_41 3) :: zzI cy (rK 4) 8 (T_kn tJ_41 4) :: zzI cy (rK 5) 8 (T_kn tJ_41 5) :: zzI cy (rK 6) 8 (T_kn tJ_41 6) :: zzI cy (rK 7) 8 (T_kn tJ_41 7) :: zzO qm 5 (.ref qmh :: .ref qmo :: .ref qmz :: .ref qmR :: .ref qmv :: .ref qmk :: .ref qma :: .ref qmt :: .int (nI kZ) :: .ref qmr :: .int (nI (T_nb tJ_41)) :: .ref qmB :: .int (nI (T_np tJ_41)) :: .ref qmO :: .ref qmK :: .int iEn :: .int iTk :: .int (T_sd tJ_41) :: ov uP :: ov uU :: .int (nI kAt) :: .int iTo :: .int iFr :: .long JFi :: .int iFa :: .ref qm3 :: .int iSt :: .int iLv :: .int iWs :: vLa :: .ref qmu :: .ref qmy :: .ref qmb :: .ref qms :: .int iOm :: []) :: zzI cy qmh 8 fMh :: zzI cy qmr 8 fX_4 :: []) H → va_D A (zzI cy qmz 8 fMz :: zzG cy 4 qmR rR :: zzJ cy (rR 0) 40 (eR 0) :: zzJ cy (rR 1) 40 (eR 1) :: zzJ cy (rR 2) 40 (eR 2) :: zzJ cy (rR 3) 40 (eR 3) :: zzJ cy (rR 4) 40 (eR 4) :: zzJ cy (rR 5) 40 (eR 5) :: zzJ cy (rR 6) 40 (eR 6) :: zzJ cy (rR 7) 40 (eR 7) :: zzG cy 3 qmB rB :: zzI cy (rB 0) 4 (bkR tJ_41 0) :: zzI cy (rB 1) 4 (bkR tJ_41 1) :: zzI cy (rB 2) 4 (bkR tJ_41 2) :: zzI cy (rB 3) 4 (bkR tJ_41 3) :: zzI cy (rB 4) 4 (bkR tJ_41 4) :: zzI cy (rB 5) 4 (bkR tJ_41 5) :: zzI cy (rB 6) 4 (bkR tJ_41 6) :: zzI cy (rB 7) 4 (bkR tJ_41 7) :: zzG cy 3 qmO rO :: zzI cy (rO 0) 5 (onR tJ_41 0) :: zzI cy (rO 1) 5 (onR tJ_41 1) :: zzI cy (rO 2) 5 (onR tJ_41 2) :: zzI cy (rO 3) 5 (onR tJ_41 3) :: zzI cy (rO 4) 5 (onR tJ_41 4) :: zzI cy (rO 5) 5 (onR tJ_41 5) :: zzI cy (rO 6) 5 (onR tJ_41 6) :: zzI cy (rO 7) 5 (onR tJ_41 7) :: zzG cy 3 qmK rK :: zzI cy (rK 0) 8 (T_kn tJ_41 0) :: zzI cy (rK 1) 8 (T_kn tJ_41 1) :: zzI cy (rK 2) 8 (T_kn tJ_41 2) :: zzI cy (rK 3) 8 (T_kn tJ_41 3) :: zzI cy (rK 4) 8 (T_kn tJ_41 4) :: zzI cy (rK 5) 8 (T_kn tJ_41 5) :: zzI cy (rK 6) 8 (T_kn tJ_41 6) :: zzI cy (rK 7) 8 (T_kn tJ_41 7) :: zzO qm 5 (.ref qmh :: .ref qmo :: .ref qmz :: .ref qmR :: .ref qmv :: .ref qmk :: .ref qma :: .ref qmt :: .int (nI kZ) :: .ref qmr :: .int (nI (T_nb tJ_41)) :: .ref qmB :: .int (nI (T_np tJ_41)) :: .ref qmO :: .ref qmK :: .int iEn :: .int iTk :: .int (T_sd tJ_41) :: ov uP :: ov uU :: .int (nI kAt) :: .int iTo :: .int iFr :: .long JFi :: .int iFa :: .ref qm3 :: .int iSt :: .int iLv :: .int iWs :: vLa :: .ref qmu :: .ref qmy :: .ref qmb :: .ref qms :: .int iOm :: []) :: zzI cy qmh 8 fMh :: zzI cy qmr 8 fX_4 :: []) → va_S A s.heap H locs → lv_has ls 6 [(5, .int (nI (4 * j_40))), (4, .int xC_42), (3, .int 0), (0, .ref qm), (1, .int (nI k_16)), (2, .int (nI (4 * k_35)))] → W p l e (Rm 16 0 0) s m (List.toArray (α := Value) [.ref qm, .int (nI k_16), .int (nI (4 * k_35))]) below meth c H locs 0 0 (MQ below ((Wi G (fun r u => ∃ (tN : TA) (fNr : Nat → Int32), u = (zzO qm 5 (.ref qmh :: .ref qmo :: .ref qmz :: .ref qmR :: .ref qmv :: .ref qmk :: .ref qma :: .ref qmt :: .int (nI kZ) :: .ref qmr :: .int (nI (T_nb tN)) :: .ref qmB :: .int (nI (T_np tN)) :: .ref qmO :: .ref qmK :: .int iEn :: .int iTk :: .int (T_sd tN) :: ov uP :: ov uU :: .int (nI kAt) :: .int iTo :: .int iFr :: .long JFi :: .int iFa :: .ref qm3 :: .int iSt :: .int iLv :: .int iWs :: vLa :: .ref qmu :: .ref qmy :: .ref qmb :: .ref qms :: .int iOm :: []) :: zzI cy qmh 8 fMh :: zzI cy qmz 8 fMz :: zzG cy 4 qmR rR :: zzJ cy (rR 0) 40 (eR 0) :: zzJ cy (rR 1) 40 (eR 1) :: zzJ cy (rR 2) 40 (eR 2) :: zzJ cy (rR 3) 40 (eR 3) :: zzJ cy (rR 4) 40 (eR 4) :: zzJ cy (rR 5) 40 (eR 5) :: zzJ cy (rR 6) 40 (eR 6) :: zzJ cy (rR 7) 40 (eR 7) :: zzG cy 3 qmB rB :: zzI cy (rB 0) 4 (bkR tN 0) :: zzI cy (rB 1) 4 (bkR tN 1) :: zzI cy (rB 2) 4 (bkR tN 2) :: zzI cy (rB 3) 4 (bkR tN 3) :: zzI cy (rB 4) 4 (bkR tN 4) :: zzI cy (rB 5) 4 (bkR tN 5) :: zzI cy (rB 6) 4 (bkR tN 6) :: zzI cy (rB 7) 4 (bkR tN 7) :: zzG cy 3 qmO rO :: zzI cy (rO 0) 5 (onR tN 0) :: zzI cy (rO 1) 5 (onR tN 1) :: zzI cy (rO 2) 5 (onR tN 2) :: zzI cy (rO 3) 5 (onR tN 3) :: zzI cy (rO 4) 5 (onR tN 4) :: zzI cy (rO 5) 5 (onR tN 5) :: zzI cy (rO 6) 5 (onR tN 6) :: zzI cy (rO 7) 5 (onR tN 7) :: zzG cy 3 qmK rK :: zzI cy (rK 0) 8 (T_kn tN 0) :: zzI cy (rK 1) 8 (T_kn tN 1) :: zzI cy (rK 2) 8 (T_kn tN 2) :: zzI cy (rK 3) 8 (T_kn tN 3) :: zzI cy (rK 4) 8 (T_kn tN 4) :: zzI cy (rK 5) 8 (T_kn tN 5) :: zzI cy (rK 6) 8 (T_kn tN 6) :: zzI cy (rK 7) 8 (T_kn tN 7) :: zzI cy qmr 8 fNr :: []) ∧ (WI tN ∧ PMones fMh fMz eR tA (nI k_16) (nI (4 * k_35)) r tN) ∧ (True))) A) (List.toArray (α := Value) [.ref qm, .int (nI k_16), .int (nI (4 * k_35))]) s 0 0 A) (F0 m 45 ls []) := by
            intro n_38
            induction n_38 with
            | zero => intro j_40 tJ_41 xC_42 hm9; exact absurd hm9 (Nat.not_lt_zero _)
            | succ n_38 ih_39 =>
              intro j_40 tJ_41 xC_42 hm_46 hj_43 hW_44 hT_45 H locs ls hP hD hS hl
              refine lv_iload hx hb (g_21 (v := 5) bX6_ones rfl) (lv_at hl 0 rfl) ?_
              refine lv_iload_n hx hb (g_28 bX6_ones rfl) rfl (lv_at hl 5 rfl) ?_
              refine lv_icmp_ge (tgt := 112) hx hb dX6_ones_48 (by decide +kernel) (fun c_47 => ?_) (fun c_47 => ?_)
              · have hlt_48 : j_40 = k_35 := by have := lp_ge rfl rfl (by omega) (by omega) c_47; omega
                have hlt_48r : onG (eR k_16) k_35 0 tA 0 = (tJ_41, xC_42) := by rw [← hT_45, hlt_48, Nat.sub_self]; rfl
                refine lv_iload hx hb (g_21 (v := 4) bX6_ones rfl) (lv_at hl 1 rfl) ?_
                exact endWs [(false :: false :: false :: false :: false :: false :: false :: false :: false :: false :: false :: false :: false :: false :: false :: false :: false :: false :: false :: false :: false :: false :: false :: false :: false :: false :: false :: false :: false :: false :: false :: false :: false :: false :: false :: false :: false :: true :: true :: []), (true :: true :: true :: true :: true :: true :: true :: true :: true :: true :: true :: true :: true :: true :: true :: true :: true :: true :: true :: true :: true :: true :: true :: true :: true :: true :: true :: true :: true :: true :: true :: true :: true :: true :: true :: true :: true :: false :: false :: true :: [])] hx hb hr hlocks rfl hP hD rfl (by decide +kernel) hS ⟨tJ_41, fX_4, rfl, ⟨hW_44, Or.inr (Or.inr (Or.inr ⟨k_16, k_35, hk_17, rfl, h_18, h_19, rfl, by omega, c_31, hlt_48r.symm⟩))⟩, trivial⟩ (g_172 bX6_ones rfl)
              · have hlt_49 : j_40 < k_35 := by have := lp_lt rfl rfl (by omega) (by omega) c_47; omega
                have hlt_49b := hW_44.1.1.1
                have hlt_49p := hW_44.1.1.2
                have hlt_49z := hW_44.2.1
                refine lv_aload_n hx hb (g_42 bX6_ones rfl) rfl (lv_at hl 3 rfl) ?_
                refine lv_aload_n hx hb (g_42 bX6_ones rfl) rfl (lv_at hl 3 rfl) ?_
                refine va_get (D := G) (ci := 5) (v := .ref qmR) (C := RX6) (T := TX6) (N := 35) hx hb hts iX_X6 hown hK hP 37 rfl rfl 3 (by decide +kernel) (hts _ m_t853) (fun _ h9 => h9) rfl (g_180 (v := 21) bX6_ones rfl) ?_
                refine lv_iload_n hx hb (g_27 bX6_ones rfl) rfl (lv_at hl 4 rfl) ?_
                refine va_alda hx hb hK hP 1 4 rfl rfl (in8 (by omega)) (g_50 bX6_ones rfl) ?_
                refine lv_setv (v := .ref (rR k_16)) (g_ref (by omega)) ?_
                refine lv_iload hx hb (g_21 (v := 5) bX6_ones rfl) (lv_at hl 0 rfl) ?_
                refine va_lald hx hb hK hP (2 + k_16) 1 (sg8 (n0 := 2) (f := (fun j => zzJ cy (rR j) 40 (eR j))) rfl rfl rfl rfl rfl rfl rfl rfl k_16 (by omega)) rfl (vp_in_nI (by omega) (by omega)) (g_47 bX6_ones rfl) ?_
                refine lv_setl (v := eR k_16 (4 * j_40)) (congrArg (eR k_16) (nI_clamp (by omega))) ?_
                refine lv_aload_n hx hb (g_42 bX6_ones rfl) rfl (lv_at hl 3 rfl) ?_
                refine va_get (D := G) (ci := 5) (v := .ref qmR) (C := RX6) (T := TX6) (N := 35) hx hb hts iX_X6 hown hK hP 37 rfl rfl 3 (by decide +kernel) (hts _ m_t853) (fun _ h9 => h9) rfl (g_180 (v := 21) bX6_ones rfl) ?_
                refine lv_iload_n hx hb (g_27 bX6_ones rfl) rfl (lv_at hl 4 rfl) ?_
                refine va_alda hx hb hK hP 1 4 rfl rfl (in8 (by omega)) (g_50 bX6_ones rfl) ?_
                refine lv_setv (v := .ref (rR k_16)) (g_ref (by omega)) ?_
                refine lv_iload hx hb (g_21 (v := 5) bX6_ones rfl) (lv_at hl 0 rfl) ?_
                refine lv_iconst (v := 1) hx hb (g_4 bX6_ones rfl) (by decide +kernel) ?_
                refine lv_iadd hx hb (g_96 bX6_ones rfl) ?_
                refine lv_seti (v := nI ((4 * j_40) + 1)) (nI_add _ _) ?_
                refine va_lald hx hb hK hP (2 + k_16) 1 (sg8 (n0 := 2) (f := (fun j => zzJ cy (rR j) 40 (eR j))) rfl rfl rfl rfl rfl rfl rfl rfl k_16 (by omega)) rfl (vp_in_nI (by omega) (by omega)) (g_47 bX6_ones rfl) ?_
                refine lv_setl (v := eR k_16 ((4 * j_40) + 1)) (congrArg (eR k_16) (nI_clamp (by omega))) ?_
                refine lv_aload_n hx hb (g_42 bX6_ones rfl) rfl (lv_at hl 3 rfl) ?_
                refine va_get (D := G) (ci := 5) (v := .ref qmR) (C := RX6) (T := TX6) (N := 35) hx hb hts iX_X6 hown hK hP 37 rfl rfl 3 (by decide +kernel) (hts _ m_t853) (fun _ h9 => h9) rfl (g_180 (v := 21) bX6_ones rfl) ?_
                refine lv_iload_n hx hb (g_27 bX6_ones rfl) rfl (lv_at hl 4 rfl) ?_
                refine va_alda hx hb hK hP 1 4 rfl rfl (in8 (by omega)) (g_50 bX6_ones rfl) ?_
                refine lv_setv (v := .ref (rR k_16)) (g_ref (by omega)) ?_
                refine lv_iload hx hb (g_21 (v := 5) bX6_ones rfl) (lv_at hl 0 rfl) ?_
                refine lv_iconst (v := 2) hx hb (g_5 bX6_ones rfl) (by decide +kernel) ?_
                refine lv_iadd hx hb (g_96 bX6_ones rfl) ?_
                refine lv_seti (v := nI ((4 * j_40) + 2)) (nI_add _ _) ?_
                refine va_lald hx hb hK hP (2 + k_16) 1 (sg8 (n0 := 2) (f := (fun j => zzJ cy (rR j) 40 (eR j))) rfl rfl rfl rfl rfl rfl rfl rfl k_16 (by omega)) rfl (vp_in_nI (by omega) (by omega)) (g_47 bX6_ones rfl) ?_
                refine lv_setl (v := eR k_16 ((4 * j_40) + 2)) (congrArg (eR k_16) (nI_clamp (by omega))) ?_
                refine lv_aload_n hx hb (g_42 bX6_ones rfl) rfl (lv_at hl 3 rfl) ?_
                refine va_get (D := G) (ci := 5) (v := .ref qmR) (C := RX6) (T := TX6) (N := 35) hx hb hts iX_X6 hown hK hP 37 rfl rfl 3 (by decide +kernel) (hts _ m_t853) (fun _ h9 => h9) rfl (g_180 (v := 21) bX6_ones rfl) ?_
                refine lv_iload_n hx hb (g_27 bX6_ones rfl) rfl (lv_at hl 4 rfl) ?_
                refine va_alda hx hb hK hP 1 4 rfl rfl (in8 (by omega)) (g_50 bX6_ones rfl) ?_
                refine lv_setv (v := .ref (rR k_16)) (g_ref (by omega)) ?_
                refine lv_iload hx hb (g_21 (v := 5) bX6_ones rfl) (lv_at hl 0 rfl) ?_
                refine lv_iconst (v := 3) hx hb (g_6 bX6_ones rfl) (by decide +kernel) ?_
                refine lv_iadd hx hb (g_96 bX6_ones rfl) ?_
                refine lv_seti (v := nI ((4 * j_40) + 3)) (nI_add _ _) ?_
                refine va_lald hx hb hK hP (2 + k_16) 1 (sg8 (n0 := 2) (f := (fun j => zzJ cy (rR j) 40 (eR j))) rfl rfl rfl rfl rfl rfl rfl rfl k_16 (by omega)) rfl (vp_in_nI (by omega) (by omega)) (g_47 bX6_ones rfl) ?_
                refine lv_setl (v := eR k_16 ((4 * j_40) + 3)) (congrArg (eR k_16) (nI_clamp (by omega))) ?_
                refine cVi (As := [.long (eR k_16 (4 * j_40)), .long (eR k_16 ((4 * j_40) + 1)), .long (eR k_16 ((4 * j_40) + 2)), .long (eR k_16 ((4 * j_40) + 3))]) (rest := []) (b := qm) (q := (RX6, TX6, 35)) ⟨hx, hb, hml, hown, hts⟩ (x_X6_add l G cy (H).size qm (.ref qmh) (.ref qmo) (.ref qmz) (.ref qmR) (.ref qmv) (.ref qmk) (.ref qma) (.ref qmt) (.int (nI kZ)) (.ref qmr) tJ_41 qmB qmO qmK iEn iTk (ov uP) (ov uU) (.int (nI kAt)) (.int iTo) (.int iFr) (.long JFi) (.int iFa) (.ref qm3) (.int iSt) iLv iWs vLa (.ref qmu) (.ref qmy) (.ref qmb) (.ref qms) (.int iOm) rB rO rK (eR k_16 (4 * j_40)) (eR k_16 ((4 * j_40) + 1)) (eR k_16 ((4 * j_40) + 2)) (eR k_16 ((4 * j_40) + 3)) (by omega) hlt_49z) L_X6_137 hN hP hD hS hA (trueIxs [(false :: false :: false :: false :: false :: false :: false :: false :: false :: false :: false :: false :: false :: false :: false :: false :: false :: false :: false :: false :: false :: false :: false :: false :: false :: false :: false :: false :: false :: false :: false :: false :: false :: false :: false :: false :: false :: true :: []), (false :: false :: false :: false :: false :: false :: false :: false :: false :: false :: true :: true :: true :: true :: true :: true :: true :: true :: true :: true :: true :: true :: true :: true :: true :: true :: true :: true :: true :: true :: true :: true :: true :: true :: true :: true :: true :: [])]) (true :: true :: true :: true :: true :: true :: true :: true :: true :: true :: false :: false :: false :: false :: false :: false :: false :: false :: false :: false :: false :: false :: false :: false :: false :: false :: false :: false :: false :: false :: false :: false :: false :: false :: false :: false :: false :: false :: true :: true :: []) (sels_eq rfl rfl) (by decide +kernel) rfl 37 5 rfl rfl rfl ⟨Nat.le_of_ble_eq_true rfl, Nat.le_of_ble_eq_true rfl⟩ hl.1 (Nat.le_of_ble_eq_true rfl) (g_182 (v := 137) bX6_ones rfl) ⟨Nat.le_of_ble_eq_true rfl, Nat.le_of_ble_eq_true rfl⟩ (fun r_50 u_52 H locs h_51 => ?_)
                clear hP hD hS
                intro hP hD hS
                obtain ⟨tX_53, hu9, h_51⟩ := h_51
                have hPD := pd_eq (_ :: _ :: _ :: _ :: _ :: _ :: _ :: _ :: _ :: _ :: _ :: _ :: zzO qm 5 (.ref qmh :: .ref qmo :: .ref qmz :: .ref qmR :: .ref qmv :: .ref qmk :: .ref qma :: .ref qmt :: .int (nI kZ) :: .ref qmr :: .int (nI (T_nb tX_53)) :: .ref qmB :: .int (nI (T_np tX_53)) :: .ref qmO :: .ref qmK :: .int iEn :: .int iTk :: .int (T_sd tX_53) :: ov uP :: ov uU :: .int (nI kAt) :: .int iTo :: .int iFr :: .long JFi :: .int iFa :: .ref qm3 :: .int iSt :: .int iLv :: .int iWs :: vLa :: .ref qmu :: .ref qmy :: .ref qmb :: .ref qms :: .int iOm :: []) :: _ :: zzI cy (rB 0) 4 (bkR tX_53 0) :: zzI cy (rB 1) 4 (bkR tX_53 1) :: zzI cy (rB 2) 4 (bkR tX_53 2) :: zzI cy (rB 3) 4 (bkR tX_53 3) :: zzI cy (rB 4) 4 (bkR tX_53 4) :: zzI cy (rB 5) 4 (bkR tX_53 5) :: zzI cy (rB 6) 4 (bkR tX_53 6) :: zzI cy (rB 7) 4 (bkR tX_53 7) :: _ :: zzI cy (rO 0) 5 (onR tX_53 0) :: zzI cy (rO 1) 5 (onR tX_53 1) :: zzI cy (rO 2) 5 (onR tX_53 2) :: zzI cy (rO 3) 5 (onR tX_53 3) :: zzI cy (rO 4) 5 (onR tX_53 4) :: zzI cy (rO 5) 5 (onR tX_53 5) :: zzI cy (rO 6) 5 (onR tX_53 6) :: zzI cy (rO 7) 5 (onR tX_53 7) :: _ :: zzI cy (rK 0) 8 (T_kn tX_53 0) :: zzI cy (rK 1) 8 (T_kn tX_53 1) :: zzI cy (rK 2) 8 (T_kn tX_53 2) :: zzI cy (rK 3) 8 (T_kn tX_53 3) :: zzI cy (rK 4) 8 (T_kn tX_53 4) :: zzI cy (rK 5) 8 (T_kn tX_53 5) :: zzI cy (rK 6) 8 (T_kn tX_53 6) :: zzI cy (rK 7) 8 (T_kn tX_53 7) :: []) hP hD hu9 rfl
                clear hP hD hu9
                obtain ⟨hP, hD⟩ := hPD
                rcases h_51 with ⟨rfl, h_54⟩ | ⟨rfl, h_54⟩ | ⟨rfl, h_54⟩
                · refine lv_if_ge (tgt := 103) hx hb dX6_ones_97 (by decide +kernel) (fun h9 => absurd h9 (by decide +kernel)) (fun _ => ?_)
                  refine lv_iload hx hb (g_21 (v := 4) bX6_ones rfl) (lv_at hl 1 rfl) ?_
                  exact endW (u := (zzO qm 5 (.ref qmh :: .ref qmo :: .ref qmz :: .ref qmR :: .ref qmv :: .ref qmk :: .ref qma :: .ref qmt :: .int (nI kZ) :: .ref qmr :: .int (nI (T_nb tX_53)) :: .ref qmB :: .int (nI (T_np tX_53)) :: .ref qmO :: .ref qmK :: .int iEn :: .int iTk :: .int (T_sd tX_53) :: ov uP :: ov uU :: .int (nI kAt) :: .int iTo :: .int iFr :: .long JFi :: .int iFa :: .ref qm3 :: .int iSt :: .int iLv :: .int iWs :: vLa :: .ref qmu :: .ref qmy :: .ref qmb :: .ref qms :: .int iOm :: []) :: zzI cy qmh 8 fMh :: zzI cy qmz 8 fMz :: zzG cy 4 qmR rR :: zzJ cy (rR 0) 40 (eR 0) :: zzJ cy (rR 1) 40 (eR 1) :: zzJ cy (rR 2) 40 (eR 2) :: zzJ cy (rR 3) 40 (eR 3) :: zzJ cy (rR 4) 40 (eR 4) :: zzJ cy (rR 5) 40 (eR 5) :: zzJ cy (rR 6) 40 (eR 6) :: zzJ cy (rR 7) 40 (eR 7) :: zzG cy 3 qmB rB :: zzI cy (rB 0) 4 (bkR tX_53 0) :: zzI cy (rB 1) 4 (bkR tX_53 1) :: zzI cy (rB 2) 4 (bkR tX_53 2) :: zzI cy (rB 3) 4 (bkR tX_53 3) :: zzI cy (rB 4) 4 (bkR tX_53 4) :: zzI cy (rB 5) 4 (bkR tX_53 5) :: zzI cy (rB 6) 4 (bkR tX_53 6) :: zzI cy (rB 7) 4 (bkR tX_53 7) :: zzG cy 3 qmO rO :: zzI cy (rO 0) 5 (onR tX_53 0) :: zzI cy (rO 1) 5 (onR tX_53 1) :: zzI cy (rO 2) 5 (onR tX_53 2) :: zzI cy (rO 3) 5 (onR tX_53 3) :: zzI cy (rO 4) 5 (onR tX_53 4) :: zzI cy (rO 5) 5 (onR tX_53 5) :: zzI cy (rO 6) 5 (onR tX_53 6) :: zzI cy (rO 7) 5 (onR tX_53 7) :: zzG cy 3 qmK rK :: zzI cy (rK 0) 8 (T_kn tX_53 0) :: zzI cy (rK 1) 8 (T_kn tX_53 1) :: zzI cy (rK 2) 8 (T_kn tX_53 2) :: zzI cy (rK 3) 8 (T_kn tX_53 3) :: zzI cy (rK 4) 8 (T_kn tX_53 4) :: zzI cy (rK 5) 8 (T_kn tX_53 5) :: zzI cy (rK 6) 8 (T_kn tX_53 6) :: zzI cy (rK 7) 8 (T_kn tX_53 7) :: zzI cy qmr 8 fX_4 :: [])) hx hb hr hlocks rfl (pSb hP [[false, false, false, false, false, false, false, false, false, false, false, false, true], [false, false, false, false, false, false, false, false, false, false, true], (true :: true :: true :: true :: true :: true :: true :: true :: true :: true :: false :: false :: false :: true :: true :: true :: true :: true :: true :: true :: true :: true :: true :: true :: true :: true :: true :: true :: true :: true :: true :: true :: true :: true :: true :: true :: true :: true :: true :: true :: []), [false, false, false, false, false, false, false, false, false, false, false, true]] rfl rfl) (dSb hD [[false, false, false, false, false, false, false, false, false, false, false, false, true], [false, false, false, false, false, false, false, false, false, false, true], (true :: true :: true :: true :: true :: true :: true :: true :: true :: true :: false :: false :: false :: true :: true :: true :: true :: true :: true :: true :: true :: true :: true :: true :: true :: true :: true :: true :: true :: true :: true :: true :: true :: true :: true :: true :: true :: true :: true :: true :: []), [false, false, false, false, false, false, false, false, false, false, false, true]] (by decide +kernel) rfl rfl) hS ⟨tX_53, fX_4, rfl, ⟨by rw [h_54.2]; exact hW_44, Or.inr (Or.inr (Or.inr ⟨k_16, k_35, hk_17, rfl, h_18, h_19, rfl, by omega, c_31, (by rw [← hT_45, on_2 (e := eR k_16) (i := 4 * j_40) h_54.1, h_54.2])⟩))⟩, trivial⟩ (g_172 bX6_ones rfl)
                · refine lv_if_ge (tgt := 103) hx hb dX6_ones_97 (by decide +kernel) (fun h9 => absurd h9 (by decide +kernel)) (fun _ => ?_)
                  refine lv_iload hx hb (g_21 (v := 4) bX6_ones rfl) (lv_at hl 1 rfl) ?_
                  exact endW (u := (zzO qm 5 (.ref qmh :: .ref qmo :: .ref qmz :: .ref qmR :: .ref qmv :: .ref qmk :: .ref qma :: .ref qmt :: .int (nI kZ) :: .ref qmr :: .int (nI (T_nb tX_53)) :: .ref qmB :: .int (nI (T_np tX_53)) :: .ref qmO :: .ref qmK :: .int iEn :: .int iTk :: .int (T_sd tX_53) :: ov uP :: ov uU :: .int (nI kAt) :: .int iTo :: .int iFr :: .long JFi :: .int iFa :: .ref qm3 :: .int iSt :: .int iLv :: .int iWs :: vLa :: .ref qmu :: .ref qmy :: .ref qmb :: .ref qms :: .int iOm :: []) :: zzI cy qmh 8 fMh :: zzI cy qmz 8 fMz :: zzG cy 4 qmR rR :: zzJ cy (rR 0) 40 (eR 0) :: zzJ cy (rR 1) 40 (eR 1) :: zzJ cy (rR 2) 40 (eR 2) :: zzJ cy (rR 3) 40 (eR 3) :: zzJ cy (rR 4) 40 (eR 4) :: zzJ cy (rR 5) 40 (eR 5) :: zzJ cy (rR 6) 40 (eR 6) :: zzJ cy (rR 7) 40 (eR 7) :: zzG cy 3 qmB rB :: zzI cy (rB 0) 4 (bkR tX_53 0) :: zzI cy (rB 1) 4 (bkR tX_53 1) :: zzI cy (rB 2) 4 (bkR tX_53 2) :: zzI cy (rB 3) 4 (bkR tX_53 3) :: zzI cy (rB 4) 4 (bkR tX_53 4) :: zzI cy (rB 5) 4 (bkR tX_53 5) :: zzI cy (rB 6) 4 (bkR tX_53 6) :: zzI cy (rB 7) 4 (bkR tX_53 7) :: zzG cy 3 qmO rO :: zzI cy (rO 0) 5 (onR tX_53 0) :: zzI cy (rO 1) 5 (onR tX_53 1) :: zzI cy (rO 2) 5 (onR tX_53 2) :: zzI cy (rO 3) 5 (onR tX_53 3) :: zzI cy (rO 4) 5 (onR tX_53 4) :: zzI cy (rO 5) 5 (onR tX_53 5) :: zzI cy (rO 6) 5 (onR tX_53 6) :: zzI cy (rO 7) 5 (onR tX_53 7) :: zzG cy 3 qmK rK :: zzI cy (rK 0) 8 (T_kn tX_53 0) :: zzI cy (rK 1) 8 (T_kn tX_53 1) :: zzI cy (rK 2) 8 (T_kn tX_53 2) :: zzI cy (rK 3) 8 (T_kn tX_53 3) :: zzI cy (rK 4) 8 (T_kn tX_53 4) :: zzI cy (rK 5) 8 (T_kn tX_53 5) :: zzI cy (rK 6) 8 (T_kn tX_53 6) :: zzI cy (rK 7) 8 (T_kn tX_53 7) :: zzI cy qmr 8 fX_4 :: [])) hx hb hr hlocks rfl (pSb hP [[false, false, false, false, false, false, false, false, false, false, false, false, true], [false, false, false, false, false, false, false, false, false, false, true], (true :: true :: true :: true :: true :: true :: true :: true :: true :: true :: false :: false :: false :: true :: true :: true :: true :: true :: true :: true :: true :: true :: true :: true :: true :: true :: true :: true :: true :: true :: true :: true :: true :: true :: true :: true :: true :: true :: true :: true :: []), [false, false, false, false, false, false, false, false, false, false, false, true]] rfl rfl) (dSb hD [[false, false, false, false, false, false, false, false, false, false, false, false, true], [false, false, false, false, false, false, false, false, false, false, true], (true :: true :: true :: true :: true :: true :: true :: true :: true :: true :: false :: false :: false :: true :: true :: true :: true :: true :: true :: true :: true :: true :: true :: true :: true :: true :: true :: true :: true :: true :: true :: true :: true :: true :: true :: true :: true :: true :: true :: true :: []), [false, false, false, false, false, false, false, false, false, false, false, true]] (by decide +kernel) rfl rfl) hS ⟨tX_53, fX_4, rfl, ⟨by rw [h_54.2.2]; exact hW_44, Or.inr (Or.inr (Or.inr ⟨k_16, k_35, hk_17, rfl, h_18, h_19, rfl, by omega, c_31, (by rw [← hT_45, on_1 h_54.2.1, h_54.2.2])⟩))⟩, trivial⟩ (g_172 bX6_ones rfl)
                · refine lv_if_ge (tgt := 103) hx hb dX6_ones_97 (by decide +kernel) (fun c_57 => ?_) (fun c_57 => ?_)
                  · refine lv_iinc (v := xC_42 + 1) (lv' := [(4, .int (xC_42 + 1)), (5, .int (nI (4 * j_40))), (3, .int 0), (0, .ref qm), (1, .int (nI k_16)), (2, .int (nI (4 * k_35)))]) hx hb dX6_ones_103 hl (k := 1) rfl (rfl) (by decide +kernel) rfl (fun ls => ?_)
                    clear hl
                    intro hl
                    refine lv_iinc (v := (nI (4 * j_40)) + 4) (lv' := [(5, .int ((nI (4 * j_40)) + 4)), (4, .int (xC_42 + 1)), (3, .int 0), (0, .ref qm), (1, .int (nI k_16)), (2, .int (nI (4 * k_35)))]) hx hb dX6_ones_106 hl (k := 1) rfl (rfl) (by decide +kernel) rfl (fun ls => ?_)
                    clear hl
                    intro hl
                    rw [show (nI (4 * j_40)) + 4 = nI (4 * (j_40 + 1)) from (nI_add (4 * j_40) 4).trans (congrArg nI (by omega))] at hl
                    refine lv_goto (tgt := 45) hx hb dX6_ones_109 (by decide +kernel) ?_
                    exact ih_39 (j_40 + 1) tX_53 (xC_42 + 1) (by omega) (by omega) (by rw [h_54.2.2]; exact WI_zao hW_44 h_54.2.1 h_54.1) (by rw [← hT_45, show k_35 - j_40 = k_35 - (j_40 + 1) + 1 by omega, on_go (e := eR k_16) (i := 4 * j_40) h_54.2.1 h_54.1, h_54.2.2]; rfl) _ _ _ (pSb hP [(true :: true :: true :: true :: true :: true :: true :: true :: true :: true :: false :: false :: false :: true :: true :: true :: true :: true :: true :: true :: true :: true :: true :: true :: true :: true :: true :: true :: true :: true :: true :: true :: true :: true :: true :: true :: true :: true :: true :: true :: []), [false, false, false, false, false, false, false, false, false, false, false, false, true], [false, false, false, false, false, false, false, false, false, false, true, true]] rfl rfl) (dSb hD [(true :: true :: true :: true :: true :: true :: true :: true :: true :: true :: false :: false :: false :: true :: true :: true :: true :: true :: true :: true :: true :: true :: true :: true :: true :: true :: true :: true :: true :: true :: true :: true :: true :: true :: true :: true :: true :: true :: true :: true :: []), [false, false, false, false, false, false, false, false, false, false, false, false, true], [false, false, false, false, false, false, false, false, false, false, true, true]] (by decide +kernel) rfl rfl) hS (lv_sub hl [0, 1, 2, 3, 4, 5] rfl)
                  · exact absurd (Int32.not_lt.mp (nI_nn (by omega))) c_57
          exact lp_37 ((10 - 0) + 1) 0 tA 0 (Nat.lt_succ_self _) (Nat.zero_le _) hWI rfl _ _ ls hP hD hS (lv_sub hl [0, 1, 2, 3, 4, 5] rfl)
        · refine lv_aload_n hx hb (g_42 bX6_ones rfl) rfl (lv_at hl 1 rfl) ?_
          refine lv_bipush (v := (-2)) hx hb dX6_ones_33 (by decide +kernel) ?_
          refine cVi (As := [.int (-2)]) (rest := []) (b := qm) (q := (RX6, TX6, 35)) ⟨hx, hb, hml, hown, hts⟩ (c_X6_refuse2 l G cy (H).size qm (.ref qmh) (.ref qmo) (.ref qmz) (.ref qmR) (.ref qmv) (.ref qmk) (.ref qma) (.ref qmt) (.int (nI kZ)) qmr tA qmB qmO qmK iEn iTk (ov uP) (ov uU) (.int (nI kAt)) (.int iTo) (.int iFr) (.long JFi) (.int iFa) (.ref qm3) (.int iSt) iLv iWs vLa (.ref qmu) (.ref qmy) (.ref qmb) (.ref qms) (.int iOm) fX_4) L_X6_91 hN hP hD hS hA [37, 39] (true :: true :: true :: true :: true :: true :: true :: true :: true :: true :: true :: true :: true :: true :: true :: true :: true :: true :: true :: true :: true :: true :: true :: true :: true :: true :: true :: true :: true :: true :: true :: true :: true :: true :: true :: true :: true :: false :: true :: false :: []) rfl (by decide +kernel) rfl 37 5 rfl rfl rfl ⟨Nat.le_of_ble_eq_true rfl, Nat.le_of_ble_eq_true rfl⟩ hl.1 (Nat.le_of_ble_eq_true rfl) (g_182 (v := 91) bX6_ones rfl) ⟨Nat.le_of_ble_eq_true rfl, Nat.le_of_ble_eq_true rfl⟩ (fun r_58 u_60 H locs h_59 => ?_)
          clear hP hD hS
          intro hP hD hS
          obtain ⟨fX_61, hu9, h_59⟩ := h_59
          have hPD := pd_eq (_ :: _ :: _ :: _ :: _ :: _ :: _ :: _ :: _ :: _ :: _ :: _ :: _ :: _ :: _ :: _ :: _ :: _ :: _ :: _ :: _ :: _ :: _ :: _ :: _ :: _ :: _ :: _ :: _ :: _ :: _ :: _ :: _ :: _ :: _ :: _ :: _ :: _ :: _ :: zzI cy qmr 8 fX_61 :: []) hP hD hu9 rfl
          clear hP hD hu9
          obtain ⟨hP, hD⟩ := hPD
          subst h_59
          exact endWs [(false :: false :: false :: false :: false :: false :: false :: false :: false :: false :: false :: false :: false :: false :: false :: false :: false :: false :: false :: false :: false :: false :: false :: false :: false :: false :: false :: false :: false :: false :: false :: false :: false :: false :: false :: false :: false :: false :: true :: []), (false :: false :: false :: false :: false :: false :: false :: false :: false :: false :: false :: false :: false :: false :: false :: false :: false :: false :: false :: false :: false :: false :: false :: false :: false :: false :: false :: false :: false :: false :: false :: false :: false :: false :: false :: false :: false :: true :: []), (true :: true :: true :: true :: true :: true :: true :: true :: true :: true :: true :: true :: true :: true :: true :: true :: true :: true :: true :: true :: true :: true :: true :: true :: true :: true :: true :: true :: true :: true :: true :: true :: true :: true :: true :: true :: true :: false :: false :: true :: [])] hx hb hr hlocks rfl hP hD rfl (by decide +kernel) hS ⟨tA, fX_61, rfl, ⟨hWI, Or.inl ⟨rfl, Or.inr ⟨k_16, hk_17, rfl, h_18, h_19, Or.inr (Or.inr c_31)⟩, rfl⟩⟩, trivial⟩ (g_172 bX6_ones rfl)
set_option maxHeartbeats 4000000 in
set_option maxRecDepth 100000 in
theorem x_X6_seed (l : Launch) (G : va_G) (cy : Nat → ClassId) (sz : Nat) (qm : Nat) (qmh : Nat) (qmo : Nat) (qmz : Nat) (qmR : Nat) (qmv : Nat) (qmk : Nat) (qma : Nat) (qmt : Nat) (kZ : Nat) (qmr : Nat) (tA : TA) (qmB : Nat) (qmO : Nat) (qmK : Nat) (iEn : Int32) (iTk : Int32) (uP : UM) (uU : UM) (kAt : Nat) (iTo : Int32) (iFr : Int32) (JFi : Int64) (iFa : Int32) (qm3 : Nat) (iSt : Int32) (iLv : Int32) (iWs : Int32) (vLa : Value) (qmu : Nat) (qmy : Nat) (qmb : Nat) (qms : Nat) (iOm : Int32) (rB : Nat → Nat) (rO : Nat → Nat) (rK : Nat → Nat) (iA : Int32)  (hB : T_nb tA ≤ 8) (hPp : T_np tA ≤ 8) (hTI : TI tA) (hWI : WI tA) : MW l yX6_seed cX6_seed 3 (some .int) 16 0 0 G cy [zzO qm 5 (.ref qmh :: .ref qmo :: .ref qmz :: .ref qmR :: .ref qmv :: .ref qmk :: .ref qma :: .ref qmt :: .int (nI kZ) :: .ref qmr :: .int (nI (T_nb tA)) :: .ref qmB :: .int (nI (T_np tA)) :: .ref qmO :: .ref qmK :: .int iEn :: .int iTk :: .int (T_sd tA) :: ov uP :: ov uU :: .int (nI kAt) :: .int iTo :: .int iFr :: .long JFi :: .int iFa :: .ref qm3 :: .int iSt :: .int iLv :: .int iWs :: vLa :: .ref qmu :: .ref qmy :: .ref qmb :: .ref qms :: .int iOm :: []), zzG cy 3 qmB rB, zzI cy (rB 0) 4 (bkR tA 0), zzI cy (rB 1) 4 (bkR tA 1), zzI cy (rB 2) 4 (bkR tA 2), zzI cy (rB 3) 4 (bkR tA 3), zzI cy (rB 4) 4 (bkR tA 4), zzI cy (rB 5) 4 (bkR tA 5), zzI cy (rB 6) 4 (bkR tA 6), zzI cy (rB 7) 4 (bkR tA 7), zzG cy 3 qmO rO, zzI cy (rO 0) 5 (onR tA 0), zzI cy (rO 1) 5 (onR tA 1), zzI cy (rO 2) 5 (onR tA 2), zzI cy (rO 3) 5 (onR tA 3), zzI cy (rO 4) 5 (onR tA 4), zzI cy (rO 5) 5 (onR tA 5), zzI cy (rO 6) 5 (onR tA 6), zzI cy (rO 7) 5 (onR tA 7), zzG cy 3 qmK rK, zzI cy (rK 0) 8 (T_kn tA 0), zzI cy (rK 1) 8 (T_kn tA 1), zzI cy (rK 2) 8 (T_kn tA 2), zzI cy (rK 3) 8 (T_kn tA 3), zzI cy (rK 4) 8 (T_kn tA 4), zzI cy (rK 5) 8 (T_kn tA 5), zzI cy (rK 6) 8 (T_kn tA 6), zzI cy (rK 7) 8 (T_kn tA 7)] sz [.ref qm, .int iA] (Wi G (fun r u => ∃ (tN : TA), u = [zzO qm 5 (.ref qmh :: .ref qmo :: .ref qmz :: .ref qmR :: .ref qmv :: .ref qmk :: .ref qma :: .ref qmt :: .int (nI kZ) :: .ref qmr :: .int (nI (T_nb tN)) :: .ref qmB :: .int (nI (T_np tN)) :: .ref qmO :: .ref qmK :: .int iEn :: .int iTk :: .int (T_sd tN) :: ov uP :: ov uU :: .int (nI kAt) :: .int iTo :: .int iFr :: .long JFi :: .int iFa :: .ref qm3 :: .int iSt :: .int iLv :: .int iWs :: vLa :: .ref qmu :: .ref qmy :: .ref qmb :: .ref qms :: .int iOm :: []), zzG cy 3 qmB rB, zzI cy (rB 0) 4 (bkR tN 0), zzI cy (rB 1) 4 (bkR tN 1), zzI cy (rB 2) 4 (bkR tN 2), zzI cy (rB 3) 4 (bkR tN 3), zzI cy (rB 4) 4 (bkR tN 4), zzI cy (rB 5) 4 (bkR tN 5), zzI cy (rB 6) 4 (bkR tN 6), zzI cy (rB 7) 4 (bkR tN 7), zzG cy 3 qmO rO, zzI cy (rO 0) 5 (onR tN 0), zzI cy (rO 1) 5 (onR tN 1), zzI cy (rO 2) 5 (onR tN 2), zzI cy (rO 3) 5 (onR tN 3), zzI cy (rO 4) 5 (onR tN 4), zzI cy (rO 5) 5 (onR tN 5), zzI cy (rO 6) 5 (onR tN 6), zzI cy (rO 7) 5 (onR tN 7), zzG cy 3 qmK rK, zzI cy (rK 0) 8 (T_kn tN 0), zzI cy (rK 1) 8 (T_kn tN 1), zzI cy (rK 2) 8 (T_kn tN 2), zzI cy (rK 3) 8 (T_kn tN 3), zzI cy (rK 4) 8 (T_kn tN 4), zzI cy (rK 5) 8 (T_kn tN 5), zzI cy (rK 6) 8 (T_kn tN 6), zzI cy (rK 7) 8 (T_kn tN 7)] ∧ (WI tN ∧ tN = T_setsd tA iA ∧ r = T_sd tA) ∧ (True))) := by
  refine enW RX6 (by decide +kernel) rfl (Nat.le_of_ble_eq_true rfl) (fun p e s m below meth c ls A hx hb hml hown hts hr hlocks hP hN hl hin hD hA hS => ?_)
  have hin : meth.name = _ := hin
  have hK := hN.1
  replace hl : lv_has ls 3 [(0, .ref qm), (1, .int iA)] := hl
  refine lv_aload_n hx hb (g_42 bX6_seed rfl) rfl (lv_at hl 0 rfl) ?_
  refine va_get (D := G) (ci := 5) (v := .int (T_sd tA)) (C := RX6) (T := TX6) (N := 35) hx hb hts iX_X6 hown hK hP 0 rfl rfl 17 (by decide +kernel) (hts _ m_t867) (fun _ h9 => h9) rfl (g_180 (v := 51) bX6_seed rfl) ?_
  refine lv_istore_n (lv' := [(2, .int (T_sd tA)), (0, .ref qm), (1, .int iA)]) hx hb (g_61 bX6_seed rfl) rfl hl (by decide +kernel) rfl (fun ls => ?_)
  clear hl
  intro hl
  refine lv_aload_n hx hb (g_42 bX6_seed rfl) rfl (lv_at hl 1 rfl) ?_
  refine lv_iload_n hx hb (g_27 bX6_seed rfl) rfl (lv_at hl 2 rfl) ?_
  refine va_put (D := G) (ci := 5) (v := .int iA) (ty := .int) (C := RX6) (T := TX6) (N := 35) hx hb hts iX_X6 tyX6 tyX6_ok nmX6 hown hK hP hD hS 0 rfl rfl 17 (by decide +kernel) (hts _ m_t867) (fun _ h9 => h9) rfl (by decide +kernel) rfl rfl (Nat.le_of_ble_eq_true rfl) (g_181 (v := 51) bX6_seed rfl) (fun H locs => ?_)
  clear hP hD hS
  intro hP hD hS
  have hPD := pd_as [zzO qm 5 (.ref qmh :: .ref qmo :: .ref qmz :: .ref qmR :: .ref qmv :: .ref qmk :: .ref qma :: .ref qmt :: .int (nI kZ) :: .ref qmr :: .int (nI (T_nb tA)) :: .ref qmB :: .int (nI (T_np tA)) :: .ref qmO :: .ref qmK :: .int iEn :: .int iTk :: .int iA :: ov uP :: ov uU :: .int (nI kAt) :: .int iTo :: .int iFr :: .long JFi :: .int iFa :: .ref qm3 :: .int iSt :: .int iLv :: .int iWs :: vLa :: .ref qmu :: .ref qmy :: .ref qmb :: .ref qms :: .int iOm :: []), _, _, _, _, _, _, _, _, _, _, _, _, _, _, _, _, _, _, _, _, _, _, _, _, _, _, _] hP hD rfl
  clear hP hD
  obtain ⟨hP, hD⟩ := hPD
  have hPD := pd_as [zzO qm 5 (.ref qmh :: .ref qmo :: .ref qmz :: .ref qmR :: .ref qmv :: .ref qmk :: .ref qma :: .ref qmt :: .int (nI kZ) :: .ref qmr :: .int (nI (T_nb (T_setsd tA iA))) :: .ref qmB :: .int (nI (T_np (T_setsd tA iA))) :: .ref qmO :: .ref qmK :: .int iEn :: .int iTk :: .int (T_sd (T_setsd tA iA)) :: ov uP :: ov uU :: .int (nI kAt) :: .int iTo :: .int iFr :: .long JFi :: .int iFa :: .ref qm3 :: .int iSt :: .int iLv :: .int iWs :: vLa :: .ref qmu :: .ref qmy :: .ref qmb :: .ref qms :: .int iOm :: []), _, zzI cy (rB 0) 4 (bkR (T_setsd tA iA) 0), zzI cy (rB 1) 4 (bkR (T_setsd tA iA) 1), zzI cy (rB 2) 4 (bkR (T_setsd tA iA) 2), zzI cy (rB 3) 4 (bkR (T_setsd tA iA) 3), zzI cy (rB 4) 4 (bkR (T_setsd tA iA) 4), zzI cy (rB 5) 4 (bkR (T_setsd tA iA) 5), zzI cy (rB 6) 4 (bkR (T_setsd tA iA) 6), zzI cy (rB 7) 4 (bkR (T_setsd tA iA) 7), _, zzI cy (rO 0) 5 (onR (T_setsd tA iA) 0), zzI cy (rO 1) 5 (onR (T_setsd tA iA) 1), zzI cy (rO 2) 5 (onR (T_setsd tA iA) 2), zzI cy (rO 3) 5 (onR (T_setsd tA iA) 3), zzI cy (rO 4) 5 (onR (T_setsd tA iA) 4), zzI cy (rO 5) 5 (onR (T_setsd tA iA) 5), zzI cy (rO 6) 5 (onR (T_setsd tA iA) 6), zzI cy (rO 7) 5 (onR (T_setsd tA iA) 7), _, zzI cy (rK 0) 8 (T_kn (T_setsd tA iA) 0), zzI cy (rK 1) 8 (T_kn (T_setsd tA iA) 1), zzI cy (rK 2) 8 (T_kn (T_setsd tA iA) 2), zzI cy (rK 3) 8 (T_kn (T_setsd tA iA) 3), zzI cy (rK 4) 8 (T_kn (T_setsd tA iA) 4), zzI cy (rK 5) 8 (T_kn (T_setsd tA iA) 5), zzI cy (rK 6) 8 (T_kn (T_setsd tA iA) 6), zzI cy (rK 7) 8 (T_kn (T_setsd tA iA) 7)] hP hD rfl
  clear hP hD
  obtain ⟨hP, hD⟩ := hPD
  refine lv_iload_n hx hb (g_28 bX6_seed rfl) rfl (lv_at hl 0 rfl) ?_
  exact endWs [[true, true, true, true, true, true, true, true, true, true, true, true, true, true, true, true, true, true, true, true, true, true, true, true, true, true, true, true]] hx hb hr hlocks rfl hP hD rfl (by decide +kernel) hS ⟨(T_setsd tA iA), rfl, ⟨WI_sd hWI, rfl, rfl⟩, trivial⟩ (g_172 bX6_seed rfl)
set_option maxHeartbeats 4000000 in
set_option maxRecDepth 100000 in
theorem x_X6_ends (l : Launch) (G : va_G) (cy : Nat → ClassId) (sz : Nat) (qm : Nat) (qmh : Nat) (qmo : Nat) (qmz : Nat) (qmR : Nat) (qmv : Nat) (qmk : Nat) (qma : Nat) (qmt : Nat) (kZ : Nat) (qmr : Nat) (tA : TA) (qmB : Nat) (qmO : Nat) (qmK : Nat) (iEn : Int32) (iTk : Int32) (uP : UM) (uU : UM) (kAt : Nat) (iTo : Int32) (iFr : Int32) (JFi : Int64) (iFa : Int32) (qm3 : Nat) (iSt : Int32) (iLv : Int32) (iWs : Int32) (vLa : Value) (qmu : Nat) (qmy : Nat) (qmb : Nat) (qms : Nat) (iOm : Int32) (rB : Nat → Nat) (rO : Nat → Nat) (rK : Nat → Nat)  (hB : T_nb tA ≤ 8) (hPp : T_np tA ≤ 8) (hTI : TI tA) (hWI : WI tA) : MW l yX6_ends cX6_ends 1 (some .int) 16 0 0 G cy [zzO qm 5 (.ref qmh :: .ref qmo :: .ref qmz :: .ref qmR :: .ref qmv :: .ref qmk :: .ref qma :: .ref qmt :: .int (nI kZ) :: .ref qmr :: .int (nI (T_nb tA)) :: .ref qmB :: .int (nI (T_np tA)) :: .ref qmO :: .ref qmK :: .int iEn :: .int iTk :: .int (T_sd tA) :: ov uP :: ov uU :: .int (nI kAt) :: .int iTo :: .int iFr :: .long JFi :: .int iFa :: .ref qm3 :: .int iSt :: .int iLv :: .int iWs :: vLa :: .ref qmu :: .ref qmy :: .ref qmb :: .ref qms :: .int iOm :: []), zzG cy 3 qmB rB, zzI cy (rB 0) 4 (bkR tA 0), zzI cy (rB 1) 4 (bkR tA 1), zzI cy (rB 2) 4 (bkR tA 2), zzI cy (rB 3) 4 (bkR tA 3), zzI cy (rB 4) 4 (bkR tA 4), zzI cy (rB 5) 4 (bkR tA 5), zzI cy (rB 6) 4 (bkR tA 6), zzI cy (rB 7) 4 (bkR tA 7), zzG cy 3 qmO rO, zzI cy (rO 0) 5 (onR tA 0), zzI cy (rO 1) 5 (onR tA 1), zzI cy (rO 2) 5 (onR tA 2), zzI cy (rO 3) 5 (onR tA 3), zzI cy (rO 4) 5 (onR tA 4), zzI cy (rO 5) 5 (onR tA 5), zzI cy (rO 6) 5 (onR tA 6), zzI cy (rO 7) 5 (onR tA 7), zzG cy 3 qmK rK, zzI cy (rK 0) 8 (T_kn tA 0), zzI cy (rK 1) 8 (T_kn tA 1), zzI cy (rK 2) 8 (T_kn tA 2), zzI cy (rK 3) 8 (T_kn tA 3), zzI cy (rK 4) 8 (T_kn tA 4), zzI cy (rK 5) 8 (T_kn tA 5), zzI cy (rK 6) 8 (T_kn tA 6), zzI cy (rK 7) 8 (T_kn tA 7)] sz [.ref qm] (Wi G (fun r u => ∃ (iNe : Int32) (tN : TA), u = [zzO qm 5 (.ref qmh :: .ref qmo :: .ref qmz :: .ref qmR :: .ref qmv :: .ref qmk :: .ref qma :: .ref qmt :: .int (nI kZ) :: .ref qmr :: .int (nI (T_nb tN)) :: .ref qmB :: .int (nI (T_np tN)) :: .ref qmO :: .ref qmK :: .int iNe :: .int iTk :: .int (T_sd tN) :: ov uP :: ov uU :: .int (nI kAt) :: .int iTo :: .int iFr :: .long JFi :: .int iFa :: .ref qm3 :: .int iSt :: .int iLv :: .int iWs :: vLa :: .ref qmu :: .ref qmy :: .ref qmb :: .ref qms :: .int iOm :: []), zzG cy 3 qmB rB, zzI cy (rB 0) 4 (bkR tN 0), zzI cy (rB 1) 4 (bkR tN 1), zzI cy (rB 2) 4 (bkR tN 2), zzI cy (rB 3) 4 (bkR tN 3), zzI cy (rB 4) 4 (bkR tN 4), zzI cy (rB 5) 4 (bkR tN 5), zzI cy (rB 6) 4 (bkR tN 6), zzI cy (rB 7) 4 (bkR tN 7), zzG cy 3 qmO rO, zzI cy (rO 0) 5 (onR tN 0), zzI cy (rO 1) 5 (onR tN 1), zzI cy (rO 2) 5 (onR tN 2), zzI cy (rO 3) 5 (onR tN 3), zzI cy (rO 4) 5 (onR tN 4), zzI cy (rO 5) 5 (onR tN 5), zzI cy (rO 6) 5 (onR tN 6), zzI cy (rO 7) 5 (onR tN 7), zzG cy 3 qmK rK, zzI cy (rK 0) 8 (T_kn tN 0), zzI cy (rK 1) 8 (T_kn tN 1), zzI cy (rK 2) 8 (T_kn tN 2), zzI cy (rK 3) 8 (T_kn tN 3), zzI cy (rK 4) 8 (T_kn tN 4), zzI cy (rK 5) 8 (T_kn tN 5), zzI cy (rK 6) 8 (T_kn tN 6), zzI cy (rK 7) 8 (T_kn tN 7)] ∧ (WI tN ∧ tN = zey tA) ∧ (True))) := by
  refine enW RX6 (by decide +kernel) rfl (Nat.le_of_ble_eq_true rfl) (fun p e s m below meth c ls A hx hb hml hown hts hr hlocks hP hN hl hin hD hA hS => ?_)
  have hin : meth.name = _ := hin
  have hK := hN.1
  replace hl : lv_has ls 1 [(0, .ref qm)] := hl
  refine lv_aload_n hx hb (g_42 bX6_ends rfl) rfl (lv_at hl 0 rfl) ?_
  refine cVi (As := []) (rest := []) (b := qm) (q := (RX6, TX6, 35)) ⟨hx, hb, hml, hown, hts⟩ (x_X6_end l G cy (s.heap).size qm (.ref qmh) (.ref qmo) (.ref qmz) (.ref qmR) (.ref qmv) (.ref qmk) (.ref qma) (.ref qmt) (.int (nI kZ)) (.ref qmr) tA qmB qmO qmK iEn iTk (ov uP) (ov uU) (.int (nI kAt)) (.int iTo) (.int iFr) (.long JFi) (.int iFa) (.ref qm3) (.int iSt) iLv iWs vLa (.ref qmu) (.ref qmy) (.ref qmb) (.ref qms) (.int iOm) rB rO rK hB hPp hTI hWI.2.2) L_X6_288 hN hP hD hS hA (trueIx 0 [true, true, true, true, true, true, true, true, true, true, true, true, true, true, true, true, true, true, true, true, true, true, true, true, true, true, true, true]) [false, false, false, false, false, false, false, false, false, false, false, false, false, false, false, false, false, false, false, false, false, false, false, false, false, false, false, false] (sel_eq rfl rfl) (by decide +kernel) rfl 0 5 rfl rfl rfl ⟨Nat.le_of_ble_eq_true rfl, Nat.le_of_ble_eq_true rfl⟩ hl.1 (Nat.le_of_ble_eq_true rfl) (g_182 (v := 288) bX6_ends rfl) ⟨Nat.le_of_ble_eq_true rfl, Nat.le_of_ble_eq_true rfl⟩ (fun r_1 u_3 H locs h_2 => ?_)
  clear hP hD hS
  intro hP hD hS
  obtain ⟨tX_4, iX_5, hu9, h_6, h_7, h_2⟩ := h_2
  have hPD := pd_eq [zzO qm 5 (.ref qmh :: .ref qmo :: .ref qmz :: .ref qmR :: .ref qmv :: .ref qmk :: .ref qma :: .ref qmt :: .int (nI kZ) :: .ref qmr :: .int (nI (T_nb tX_4)) :: .ref qmB :: .int (nI (T_np tX_4)) :: .ref qmO :: .ref qmK :: .int iX_5 :: .int iTk :: .int (T_sd tX_4) :: ov uP :: ov uU :: .int (nI kAt) :: .int iTo :: .int iFr :: .long JFi :: .int iFa :: .ref qm3 :: .int iSt :: .int iLv :: .int iWs :: vLa :: .ref qmu :: .ref qmy :: .ref qmb :: .ref qms :: .int iOm :: []), _, zzI cy (rB 0) 4 (bkR tX_4 0), zzI cy (rB 1) 4 (bkR tX_4 1), zzI cy (rB 2) 4 (bkR tX_4 2), zzI cy (rB 3) 4 (bkR tX_4 3), zzI cy (rB 4) 4 (bkR tX_4 4), zzI cy (rB 5) 4 (bkR tX_4 5), zzI cy (rB 6) 4 (bkR tX_4 6), zzI cy (rB 7) 4 (bkR tX_4 7), _, zzI cy (rO 0) 5 (onR tX_4 0), zzI cy (rO 1) 5 (onR tX_4 1), zzI cy (rO 2) 5 (onR tX_4 2), zzI cy (rO 3) 5 (onR tX_4 3), zzI cy (rO 4) 5 (onR tX_4 4), zzI cy (rO 5) 5 (onR tX_4 5), zzI cy (rO 6) 5 (onR tX_4 6), zzI cy (rO 7) 5 (onR tX_4 7), _, zzI cy (rK 0) 8 (T_kn tX_4 0), zzI cy (rK 1) 8 (T_kn tX_4 1), zzI cy (rK 2) 8 (T_kn tX_4 2), zzI cy (rK 3) 8 (T_kn tX_4 3), zzI cy (rK 4) 8 (T_kn tX_4 4), zzI cy (rK 5) 8 (T_kn tX_4 5), zzI cy (rK 6) 8 (T_kn tX_4 6), zzI cy (rK 7) 8 (T_kn tX_4 7)] hP hD hu9 rfl
  clear hP hD hu9
  obtain ⟨hP, hD⟩ := hPD
  exact endW (u := [zzO qm 5 (.ref qmh :: .ref qmo :: .ref qmz :: .ref qmR :: .ref qmv :: .ref qmk :: .ref qma :: .ref qmt :: .int (nI kZ) :: .ref qmr :: .int (nI (T_nb tX_4)) :: .ref qmB :: .int (nI (T_np tX_4)) :: .ref qmO :: .ref qmK :: .int iX_5 :: .int iTk :: .int (T_sd tX_4) :: ov uP :: ov uU :: .int (nI kAt) :: .int iTo :: .int iFr :: .long JFi :: .int iFa :: .ref qm3 :: .int iSt :: .int iLv :: .int iWs :: vLa :: .ref qmu :: .ref qmy :: .ref qmb :: .ref qms :: .int iOm :: []), zzG cy 3 qmB rB, zzI cy (rB 0) 4 (bkR tX_4 0), zzI cy (rB 1) 4 (bkR tX_4 1), zzI cy (rB 2) 4 (bkR tX_4 2), zzI cy (rB 3) 4 (bkR tX_4 3), zzI cy (rB 4) 4 (bkR tX_4 4), zzI cy (rB 5) 4 (bkR tX_4 5), zzI cy (rB 6) 4 (bkR tX_4 6), zzI cy (rB 7) 4 (bkR tX_4 7), zzG cy 3 qmO rO, zzI cy (rO 0) 5 (onR tX_4 0), zzI cy (rO 1) 5 (onR tX_4 1), zzI cy (rO 2) 5 (onR tX_4 2), zzI cy (rO 3) 5 (onR tX_4 3), zzI cy (rO 4) 5 (onR tX_4 4), zzI cy (rO 5) 5 (onR tX_4 5), zzI cy (rO 6) 5 (onR tX_4 6), zzI cy (rO 7) 5 (onR tX_4 7), zzG cy 3 qmK rK, zzI cy (rK 0) 8 (T_kn tX_4 0), zzI cy (rK 1) 8 (T_kn tX_4 1), zzI cy (rK 2) 8 (T_kn tX_4 2), zzI cy (rK 3) 8 (T_kn tX_4 3), zzI cy (rK 4) 8 (T_kn tX_4 4), zzI cy (rK 5) 8 (T_kn tX_4 5), zzI cy (rK 6) 8 (T_kn tX_4 6), zzI cy (rK 7) 8 (T_kn tX_4 7)]) hx hb hr hlocks rfl (pSb hP [[true, true, true, true, true, true, true, true, true, true, true, true, true, true, true, true, true, true, true, true, true, true, true, true, true, true, true, true]] rfl rfl) (dSb hD [[true, true, true, true, true, true, true, true, true, true, true, true, true, true, true, true, true, true, true, true, true, true, true, true, true, true, true, true]] (by decide +kernel) rfl rfl) hS ⟨iX_5, tX_4, rfl, ⟨by rw [h_7]; exact WI_ey hWI, h_7⟩, trivial⟩ (g_172 bX6_ends rfl)
set_option maxHeartbeats 4000000 in
set_option maxRecDepth 100000 in
theorem x_X6_years (l : Launch) (G : va_G) (cy : Nat → ClassId) (sz : Nat) (qm : Nat) (qmh : Nat) (qmo : Nat) (qmz : Nat) (qmR : Nat) (qmv : Nat) (qmk : Nat) (qma : Nat) (qmt : Nat) (kZ : Nat) (qmr : Nat) (tA : TA) (qmB : Nat) (qmO : Nat) (qmK : Nat) (iEn : Int32) (iTk : Int32) (uP : UM) (uU : UM) (kAt : Nat) (iTo : Int32) (iFr : Int32) (JFi : Int64) (iFa : Int32) (qm3 : Nat) (iSt : Int32) (iLv : Int32) (iWs : Int32) (vLa : Value) (qmu : Nat) (qmy : Nat) (qmb : Nat) (qms : Nat) (iOm : Int32) (fMh : Nat → Int32) (fMk : Nat → Int32) (fMa : Nat → Int32) (fMr : Nat → Int32) (rB : Nat → Nat) (rO : Nat → Nat) (rK : Nat → Nat) (iA : Int32) (iB : Int32)  (hMk : ∀ s, s < 8 → ¬ fMh s = 1 → ¬ fMh s = 0 → Iv (fMk s).toInt64 1 6) (hB : T_nb tA ≤ 8) (hPp : T_np tA ≤ 8) (hTI : TI tA) (hMa : ∀ s, s < 8 → ∃ n : Nat, n ≤ 99 ∧ fMa s = nI n) (hWI : WI tA) : MW l yX6_years cX6_years 7 (some .int) 16 0 0 G cy [zzO qm 5 (.ref qmh :: .ref qmo :: .ref qmz :: .ref qmR :: .ref qmv :: .ref qmk :: .ref qma :: .ref qmt :: .int (nI kZ) :: .ref qmr :: .int (nI (T_nb tA)) :: .ref qmB :: .int (nI (T_np tA)) :: .ref qmO :: .ref qmK :: .int iEn :: .int iTk :: .int (T_sd tA) :: ov uP :: ov uU :: .int (nI kAt) :: .int iTo :: .int iFr :: .long JFi :: .int iFa :: .ref qm3 :: .int iSt :: .int iLv :: .int iWs :: vLa :: .ref qmu :: .ref qmy :: .ref qmb :: .ref qms :: .int iOm :: []), zzI cy qmh 8 fMh, zzI cy qmk 8 fMk, zzI cy qma 8 fMa, zzI cy qmr 8 fMr, zzG cy 3 qmB rB, zzI cy (rB 0) 4 (bkR tA 0), zzI cy (rB 1) 4 (bkR tA 1), zzI cy (rB 2) 4 (bkR tA 2), zzI cy (rB 3) 4 (bkR tA 3), zzI cy (rB 4) 4 (bkR tA 4), zzI cy (rB 5) 4 (bkR tA 5), zzI cy (rB 6) 4 (bkR tA 6), zzI cy (rB 7) 4 (bkR tA 7), zzG cy 3 qmO rO, zzI cy (rO 0) 5 (onR tA 0), zzI cy (rO 1) 5 (onR tA 1), zzI cy (rO 2) 5 (onR tA 2), zzI cy (rO 3) 5 (onR tA 3), zzI cy (rO 4) 5 (onR tA 4), zzI cy (rO 5) 5 (onR tA 5), zzI cy (rO 6) 5 (onR tA 6), zzI cy (rO 7) 5 (onR tA 7), zzG cy 3 qmK rK, zzI cy (rK 0) 8 (T_kn tA 0), zzI cy (rK 1) 8 (T_kn tA 1), zzI cy (rK 2) 8 (T_kn tA 2), zzI cy (rK 3) 8 (T_kn tA 3), zzI cy (rK 4) 8 (T_kn tA 4), zzI cy (rK 5) 8 (T_kn tA 5), zzI cy (rK 6) 8 (T_kn tA 6), zzI cy (rK 7) 8 (T_kn tA 7)] sz [.ref qm, .int iA, .int iB] (Wi G (fun r u => ∃ (iNe : Int32) (iNt : Int32) (fNr : Nat → Int32) (tN : TA), u = [zzO qm 5 (.ref qmh :: .ref qmo :: .ref qmz :: .ref qmR :: .ref qmv :: .ref qmk :: .ref qma :: .ref qmt :: .int (nI kZ) :: .ref qmr :: .int (nI (T_nb tN)) :: .ref qmB :: .int (nI (T_np tN)) :: .ref qmO :: .ref qmK :: .int iNe :: .int iNt :: .int (T_sd tN) :: ov uP :: ov uU :: .int (nI kAt) :: .int iTo :: .int iFr :: .long JFi :: .int iFa :: .ref qm3 :: .int iSt :: .int iLv :: .int iWs :: vLa :: .ref qmu :: .ref qmy :: .ref qmb :: .ref qms :: .int iOm :: []), zzI cy qmh 8 fMh, zzI cy qmk 8 fMk, zzI cy qma 8 fMa, zzI cy qmr 8 fNr, zzG cy 3 qmB rB, zzI cy (rB 0) 4 (bkR tN 0), zzI cy (rB 1) 4 (bkR tN 1), zzI cy (rB 2) 4 (bkR tN 2), zzI cy (rB 3) 4 (bkR tN 3), zzI cy (rB 4) 4 (bkR tN 4), zzI cy (rB 5) 4 (bkR tN 5), zzI cy (rB 6) 4 (bkR tN 6), zzI cy (rB 7) 4 (bkR tN 7), zzG cy 3 qmO rO, zzI cy (rO 0) 5 (onR tN 0), zzI cy (rO 1) 5 (onR tN 1), zzI cy (rO 2) 5 (onR tN 2), zzI cy (rO 3) 5 (onR tN 3), zzI cy (rO 4) 5 (onR tN 4), zzI cy (rO 5) 5 (onR tN 5), zzI cy (rO 6) 5 (onR tN 6), zzI cy (rO 7) 5 (onR tN 7), zzG cy 3 qmK rK, zzI cy (rK 0) 8 (T_kn tN 0), zzI cy (rK 1) 8 (T_kn tN 1), zzI cy (rK 2) 8 (T_kn tN 2), zzI cy (rK 3) 8 (T_kn tN 3), zzI cy (rK 4) 8 (T_kn tN 4), zzI cy (rK 5) 8 (T_kn tN 5), zzI cy (rK 6) 8 (T_kn tN 6), zzI cy (rK 7) 8 (T_kn tN 7)] ∧ (WI tN ∧ PMyears fMh fMk fMa tA iA iB r tN) ∧ (True))) := by
  refine enW RX6 (by decide +kernel) rfl (Nat.le_of_ble_eq_true rfl) (fun p e s m below meth c ls A hx hb hml hown hts hr hlocks hP hN hl hin hD hA hS => ?_)
  have hin : meth.name = _ := hin
  have hK := hN.1
  replace hl : lv_has ls 7 [(0, .ref qm), (1, .int iA), (2, .int iB)] := hl
  refine lv_iload_n hx hb (g_27 bX6_years rfl) rfl (lv_at hl 1 rfl) ?_
  refine lv_i2l (v := iA.toInt64) hx hb (g_133 bX6_years rfl) rfl ?_
  refine lv_lconst (v := 0) hx hb (g_9 bX6_years rfl) (by decide +kernel) ?_
  refine lv_ldc2 hx hb hown (hts _ m_t960) (g_20 (v := 85) bX6_years rfl) ?_
  refine kRi (rS (As := [.long iA.toInt64, .long 0, .long 7]) (rest := []) ⟨hx, hb, hml, hown, hts⟩ (c_X6_in l G cy iA.toInt64 0 7) L_X6_74 (preRS hN hP [] rfl) rfl ⟨Nat.le_of_ble_eq_true rfl, Nat.le_of_ble_eq_true rfl⟩ hl.1 (Nat.le_of_ble_eq_true rfl) (g_184 (v := 74) bX6_years rfl) ⟨Nat.le_of_ble_eq_true rfl, Nat.le_of_ble_eq_true rfl⟩) (fun r_1 h_2 => ?_)
  rcases h_2 with ⟨rfl, h_3⟩ | ⟨rfl, h_3⟩
  · obtain ⟨k_4, hk_5, hk_6, rfl⟩ := iv_nI 0 7 (by decide +kernel) (by decide +kernel) h_3
    refine lv_if_eq (tgt := 24) hx hb dX6_years_9 (by decide +kernel) (fun h9 => absurd h9 (by decide +kernel)) (fun _ => ?_)
    refine lv_iload_n hx hb (g_28 bX6_years rfl) rfl (lv_at hl 2 rfl) ?_
    refine lv_i2l (v := iB.toInt64) hx hb (g_133 bX6_years rfl) rfl ?_
    refine lv_lconst (v := 1) hx hb (g_10 bX6_years rfl) (by decide +kernel) ?_
    refine lv_ldc2 hx hb hown (hts _ m_t1355) (g_20 (v := 341) bX6_years rfl) ?_
    refine kRi (rS (As := [.long iB.toInt64, .long 1, .long 20]) (rest := []) ⟨hx, hb, hml, hown, hts⟩ (c_X6_in l G cy iB.toInt64 1 20) L_X6_74 (preRS hN hP [] rfl) rfl ⟨Nat.le_of_ble_eq_true rfl, Nat.le_of_ble_eq_true rfl⟩ hl.1 (Nat.le_of_ble_eq_true rfl) (g_184 (v := 74) bX6_years rfl) ⟨Nat.le_of_ble_eq_true rfl, Nat.le_of_ble_eq_true rfl⟩) (fun r_8 h_9 => ?_)
    rcases h_9 with ⟨rfl, h_10⟩ | ⟨rfl, h_10⟩
    · obtain ⟨k_11, hk_12, hk_13, rfl⟩ := iv_nI 1 20 (by decide +kernel) (by decide +kernel) h_10
      refine lv_if_ne (tgt := 31) hx hb dX6_years_21 (by decide +kernel) (fun _ => ?_) (fun h9 => absurd h9 (by decide +kernel))
      refine lv_aload_n hx hb (g_42 bX6_years rfl) rfl (lv_at hl 0 rfl) ?_
      refine lv_iload_n hx hb (g_27 bX6_years rfl) rfl (lv_at hl 1 rfl) ?_
      refine cVi (As := [.int (nI k_4)]) (rest := []) (b := qm) (q := (RX6, TX6, 35)) ⟨hx, hb, hml, hown, hts⟩ (c_X6_noRule l G cy (s.heap).size qm qmh (.ref qmo) (.ref qmz) (.ref qmR) (.ref qmv) (.ref qmk) (.ref qma) (.ref qmt) (.int (nI kZ)) qmr tA qmB qmO qmK iEn iTk (ov uP) (ov uU) (.int (nI kAt)) (.int iTo) (.int iFr) (.long JFi) (.int iFa) (.ref qm3) (.int iSt) iLv iWs vLa (.ref qmu) (.ref qmy) (.ref qmb) (.ref qms) (.int iOm) fMh fMr (nI k_4)) L_X6_302 hN hP hD hS hA (trueIx 0 [true, true, false, false, true]) [false, false, true, true, false, true, true, true, true, true, true, true, true, true, true, true, true, true, true, true, true, true, true, true, true, true, true, true, true, true, true, true] (sel_eq rfl rfl) (by decide +kernel) rfl 0 5 rfl rfl rfl ⟨Nat.le_of_ble_eq_true rfl, Nat.le_of_ble_eq_true rfl⟩ hl.1 (Nat.le_of_ble_eq_true rfl) (g_182 (v := 302) bX6_years rfl) ⟨Nat.le_of_ble_eq_true rfl, Nat.le_of_ble_eq_true rfl⟩ (fun r_15 u_17 H locs h_16 => ?_)
      clear hP hD hS
      intro hP hD hS
      obtain ⟨fX_18, hu9, h_16⟩ := h_16
      have hPD := pd_eq [_, _, _, _, _, _, _, _, _, _, _, _, _, _, _, _, _, _, _, _, _, _, _, _, _, _, _, _, _, _, _, zzI cy qmr 8 fX_18] hP hD hu9 rfl
      clear hP hD hu9
      obtain ⟨hP, hD⟩ := hPD
      rcases h_16 with ⟨rfl, h_19⟩ | ⟨rfl, h_19⟩ | ⟨rfl, h_19⟩ | ⟨rfl, h_19⟩
      · refine lv_istore_n (lv' := [(3, .int (-2)), (0, .ref qm), (1, .int (nI k_4)), (2, .int (nI k_11))]) hx hb (g_62 bX6_years rfl) rfl hl (by decide +kernel) rfl (fun ls => ?_)
        clear hl
        intro hl
        refine lv_iload_n hx hb (g_29 bX6_years rfl) rfl (lv_at hl 0 rfl) ?_
        refine lv_if_eq (tgt := 43) hx hb dX6_years_38 (by decide +kernel) (fun h9 => absurd h9 (by decide +kernel)) (fun _ => ?_)
        refine lv_iload_n hx hb (g_29 bX6_years rfl) rfl (lv_at hl 0 rfl) ?_
        exact endWs [[false, false, false, false, false, false, false, false, false, false, false, false, false, false, false, false, false, false, false, false, false, false, false, false, false, false, false, false, false, true, true], [true, true, false, false, false, false, false, false, false, false, false, false, false, false, false, false, false, false, false, false, false, false, false, false, false, false, false, false, false, false, false, true], [false, false, true, true, true, true, true, true, true, true, true, true, true, true, true, true, true, true, true, true, true, true, true, true, true, true, true, true, true]] hx hb hr hlocks rfl hP hD rfl (by decide +kernel) hS ⟨iEn, iTk, fX_18, tA, rfl, (h_19 ⟨k_4, by omega, rfl⟩).elim, trivial⟩ (g_172 bX6_years rfl)
      · refine lv_istore_n (lv' := [(3, .int (-3)), (0, .ref qm), (1, .int (nI k_4)), (2, .int (nI k_11))]) hx hb (g_62 bX6_years rfl) rfl hl (by decide +kernel) rfl (fun ls => ?_)
        clear hl
        intro hl
        refine lv_iload_n hx hb (g_29 bX6_years rfl) rfl (lv_at hl 0 rfl) ?_
        refine lv_if_eq (tgt := 43) hx hb dX6_years_38 (by decide +kernel) (fun h9 => absurd h9 (by decide +kernel)) (fun _ => ?_)
        refine lv_iload_n hx hb (g_29 bX6_years rfl) rfl (lv_at hl 0 rfl) ?_
        exact endWs [[false, false, false, false, false, false, false, false, false, false, false, false, false, false, false, false, false, false, false, false, false, false, false, false, false, false, false, false, false, true, true], [true, true, false, false, false, false, false, false, false, false, false, false, false, false, false, false, false, false, false, false, false, false, false, false, false, false, false, false, false, false, false, true], [false, false, true, true, true, true, true, true, true, true, true, true, true, true, true, true, true, true, true, true, true, true, true, true, true, true, true, true, true]] hx hb hr hlocks rfl hP hD rfl (by decide +kernel) hS ⟨iEn, iTk, fX_18, tA, rfl, ⟨hWI, Or.inr (Or.inl ⟨rfl, h_10, h_19, rfl⟩)⟩, trivial⟩ (g_172 bX6_years rfl)
      · refine lv_istore_n (lv' := [(3, .int (-4)), (0, .ref qm), (1, .int (nI k_4)), (2, .int (nI k_11))]) hx hb (g_62 bX6_years rfl) rfl hl (by decide +kernel) rfl (fun ls => ?_)
        clear hl
        intro hl
        refine lv_iload_n hx hb (g_29 bX6_years rfl) rfl (lv_at hl 0 rfl) ?_
        refine lv_if_eq (tgt := 43) hx hb dX6_years_38 (by decide +kernel) (fun h9 => absurd h9 (by decide +kernel)) (fun _ => ?_)
        refine lv_iload_n hx hb (g_29 bX6_years rfl) rfl (lv_at hl 0 rfl) ?_
        exact endWs [[false, false, false, false, false, false, false, false, false, false, false, false, false, false, false, false, false, false, false, false, false, false, false, false, false, false, false, false, false, true, true], [true, true, false, false, false, false, false, false, false, false, false, false, false, false, false, false, false, false, false, false, false, false, false, false, false, false, false, false, false, false, false, true], [false, false, true, true, true, true, true, true, true, true, true, true, true, true, true, true, true, true, true, true, true, true, true, true, true, true, true, true, true]] hx hb hr hlocks rfl hP hD rfl (by decide +kernel) hS ⟨iEn, iTk, fX_18, tA, rfl, ⟨hWI, Or.inr (Or.inr (Or.inl ⟨rfl, h_10, h_19, rfl⟩))⟩, trivial⟩ (g_172 bX6_years rfl)
      · refine lv_istore_n (lv' := [(3, .int 0), (0, .ref qm), (1, .int (nI k_4)), (2, .int (nI k_11))]) hx hb (g_62 bX6_years rfl) rfl hl (by decide +kernel) rfl (fun ls => ?_)
        clear hl
        intro hl
        refine lv_iload_n hx hb (g_29 bX6_years rfl) rfl (lv_at hl 0 rfl) ?_
        refine lv_if_eq (tgt := 43) hx hb dX6_years_38 (by decide +kernel) (fun _ => ?_) (fun h9 => absurd (by decide +kernel) h9)
        refine lv_iconst (v := 0) hx hb (g_3 bX6_years rfl) (by decide +kernel) ?_
        refine lv_istore (lv' := [(4, .int 0), (3, .int 0), (0, .ref qm), (1, .int (nI k_4)), (2, .int (nI k_11))]) hx hb (g_54 (v := 4) bX6_years rfl) hl (by decide +kernel) rfl (fun ls => ?_)
        clear hl
        intro hl
        refine lv_iconst (v := 0) hx hb (g_3 bX6_years rfl) (by decide +kernel) ?_
        refine lv_istore (lv' := [(5, .int 0), (4, .int 0), (3, .int 0), (0, .ref qm), (1, .int (nI k_4)), (2, .int (nI k_11))]) hx hb (g_54 (v := 5) bX6_years rfl) hl (by decide +kernel) rfl (fun ls => ?_)
        clear hl
        intro hl
        have lp_24 : ∀ (n_25 : Nat) (j_27 : Nat) (tJ_28 : TA) (xS_29 : Int32) (xE_30 : Int32), 20 - j_27 < n_25 → j_27 ≤ k_11 → TI tJ_28 ∧ T_nb tJ_28 = T_nb tA ∧ T_np tJ_28 = T_np tA → WI tJ_28 → yrG (fMk k_4) (fMa k_4) (k_11 - j_27) tJ_28 xS_29 = yrG (fMk k_4) (fMa k_4) k_11 tA 0 → ∀ (H : Heap) (locs : List Loc) (ls : Array Slot), va_P G CL [zzI cy qmk 8 fMk, zzI cy qma 8 fMa, zzG cy 3 qmB rB, zzI cy (rB 0) 4 (bkR tJ_28 0), zzI cy (rB 1) 4 (bkR tJ_28 1), zzI cy (rB 2) 4 (bkR tJ_28 2), zzI cy (rB 3) 4 (bkR tJ_28 3), zzI cy (rB 4) 4 (bkR tJ_28 4), zzI cy (rB 5) 4 (bkR tJ_28 5), zzI cy (rB 6) 4 (bkR tJ_28 6), zzI cy (rB 7) 4 (bkR tJ_28 7), zzG cy 3 qmO rO, zzI cy (rO 0) 5 (onR tJ_28 0), zzI cy (rO 1) 5 (onR tJ_28 1), zzI cy (rO 2) 5 (onR tJ_28 2), zzI cy (rO 3) 5 (onR tJ_28 3), zzI cy (rO 4) 5 (onR tJ_28 4), zzI cy (rO 5) 5 (onR tJ_28 5), zzI cy (rO 6) 5 (onR tJ_28 6), zzI cy (rO 7) 5 (onR tJ_28 7), zzG cy 3 qmK rK, zzI cy (rK 0) 8 (T_kn tJ_28 0), zzI cy (rK 1) 8 (T_kn tJ_28 1), zzI cy (rK 2) 8 (T_kn tJ_28 2), zzI cy (rK 3) 8 (T_kn tJ_28 3), zzI cy (rK 4) 8 (T_kn tJ_28 4), zzI cy (rK 5) 8 (T_kn tJ_28 5), zzI cy (rK 6) 8 (T_kn tJ_28 6), zzI cy (rK 7) 8 (T_kn tJ_28 7), zzO qm 5 (.ref qmh :: .ref qmo :: .ref qmz :: .ref qmR :: .ref qmv :: .ref qmk :: .ref qma :: .ref qmt :: .int (nI kZ) :: .ref qmr :: .int (nI (T_nb tJ_28)) :: .ref qmB :: .int (nI (T_np tJ_28)) :: .ref qmO :: .ref qmK :: .int xE_30 :: .int iTk :: .int (T_sd tJ_28) :: ov uP :: ov uU :: .int (nI kAt) :: .int iTo :: .int iFr :: .long JFi :: .int iFa :: .ref qm3 :: .int iSt :: .int iLv :: .int iWs :: vLa :: .ref qmu :: .ref qmy :: .ref qmb :: .ref qms :: .int iOm :: []), zzI cy qmh 8 fMh, zzI cy qmr 8 fX_18] H → va_D A [zzI cy qmk 8 fMk, zzI cy qma 8 fMa, zzG cy 3 qmB rB, zzI cy (rB 0) 4 (bkR tJ_28 0), zzI cy (rB 1) 4 (bkR tJ_28 1), zzI cy (rB 2) 4 (bkR tJ_28 2), zzI cy (rB 3) 4 (bkR tJ_28 3), zzI cy (rB 4) 4 (bkR tJ_28 4), zzI cy (rB 5) 4 (bkR tJ_28 5), zzI cy (rB 6) 4 (bkR tJ_28 6), zzI cy (rB 7) 4 (bkR tJ_28 7), zzG cy 3 qmO rO, zzI cy (rO 0) 5 (onR tJ_28 0), zzI cy (rO 1) 5 (onR tJ_28 1), zzI cy (rO 2) 5 (onR tJ_28 2), zzI cy (rO 3) 5 (onR tJ_28 3), zzI cy (rO 4) 5 (onR tJ_28 4), zzI cy (rO 5) 5 (onR tJ_28 5), zzI cy (rO 6) 5 (onR tJ_28 6), zzI cy (rO 7) 5 (onR tJ_28 7), zzG cy 3 qmK rK, zzI cy (rK 0) 8 (T_kn tJ_28 0), zzI cy (rK 1) 8 (T_kn tJ_28 1), zzI cy (rK 2) 8 (T_kn tJ_28 2), zzI cy (rK 3) 8 (T_kn tJ_28 3), zzI cy (rK 4) 8 (T_kn tJ_28 4), zzI cy (rK 5) 8 (T_kn tJ_28 5), zzI cy (rK 6) 8 (T_kn tJ_28 6), zzI cy (rK 7) 8 (T_kn tJ_28 7), zzO qm 5 (.ref qmh :: .ref qmo :: .ref qmz :: .ref qmR :: .ref qmv :: .ref qmk :: .ref qma :: .ref qmt :: .int (nI kZ) :: .ref qmr :: .int (nI (T_nb tJ_28)) :: .ref qmB :: .int (nI (T_np tJ_28)) :: .ref qmO :: .ref qmK :: .int xE_30 :: .int iTk :: .int (T_sd tJ_28) :: ov uP :: ov uU :: .int (nI kAt) :: .int iTo :: .int iFr :: .long JFi :: .int iFa :: .ref qm3 :: .int iSt :: .int iLv :: .int iWs :: vLa :: .ref qmu :: .ref qmy :: .ref qmb :: .ref qms :: .int iOm :: []), zzI cy qmh 8 fMh, zzI cy qmr 8 fX_18] → va_S A s.heap H locs → lv_has ls 7 [(5, .int (nI j_27)), (4, .int xS_29), (3, .int 0), (0, .ref qm), (1, .int (nI k_4)), (2, .int (nI k_11))] → W p l e (Rm 16 0 0) s m (List.toArray (α := Value) [.ref qm, .int (nI k_4), .int (nI k_11)]) below meth c H locs 0 0 (MQ below ((Wi G (fun r u => ∃ (iNe : Int32) (iNt : Int32) (fNr : Nat → Int32) (tN : TA), u = [zzO qm 5 (.ref qmh :: .ref qmo :: .ref qmz :: .ref qmR :: .ref qmv :: .ref qmk :: .ref qma :: .ref qmt :: .int (nI kZ) :: .ref qmr :: .int (nI (T_nb tN)) :: .ref qmB :: .int (nI (T_np tN)) :: .ref qmO :: .ref qmK :: .int iNe :: .int iNt :: .int (T_sd tN) :: ov uP :: ov uU :: .int (nI kAt) :: .int iTo :: .int iFr :: .long JFi :: .int iFa :: .ref qm3 :: .int iSt :: .int iLv :: .int iWs :: vLa :: .ref qmu :: .ref qmy :: .ref qmb :: .ref qms :: .int iOm :: []), zzI cy qmh 8 fMh, zzI cy qmk 8 fMk, zzI cy qma 8 fMa, zzI cy qmr 8 fNr, zzG cy 3 qmB rB, zzI cy (rB 0) 4 (bkR tN 0), zzI cy (rB 1) 4 (bkR tN 1), zzI cy (rB 2) 4 (bkR tN 2), zzI cy (rB 3) 4 (bkR tN 3), zzI cy (rB 4) 4 (bkR tN 4), zzI cy (rB 5) 4 (bkR tN 5), zzI cy (rB 6) 4 (bkR tN 6), zzI cy (rB 7) 4 (bkR tN 7), zzG cy 3 qmO rO, zzI cy (rO 0) 5 (onR tN 0), zzI cy (rO 1) 5 (onR tN 1), zzI cy (rO 2) 5 (onR tN 2), zzI cy (rO 3) 5 (onR tN 3), zzI cy (rO 4) 5 (onR tN 4), zzI cy (rO 5) 5 (onR tN 5), zzI cy (rO 6) 5 (onR tN 6), zzI cy (rO 7) 5 (onR tN 7), zzG cy 3 qmK rK, zzI cy (rK 0) 8 (T_kn tN 0), zzI cy (rK 1) 8 (T_kn tN 1), zzI cy (rK 2) 8 (T_kn tN 2), zzI cy (rK 3) 8 (T_kn tN 3), zzI cy (rK 4) 8 (T_kn tN 4), zzI cy (rK 5) 8 (T_kn tN 5), zzI cy (rK 6) 8 (T_kn tN 6), zzI cy (rK 7) 8 (T_kn tN 7)] ∧ (WI tN ∧ PMyears fMh fMk fMa tA (nI k_4) (nI k_11) r tN) ∧ (True))) A) (List.toArray (α := Value) [.ref qm, .int (nI k_4), .int (nI k_11)]) s 0 0 A) (F0 m 49 ls []) := by
          intro n_25
          induction n_25 with
          | zero => intro j_27 tJ_28 xS_29 xE_30 hm9; exact absurd hm9 (Nat.not_lt_zero _)
          | succ n_25 ih_26 =>
            intro j_27 tJ_28 xS_29 xE_30 hm_35 hj_31 hT_32 hW_33 hY_34 H locs ls hP hD hS hl
            refine lv_iload hx hb (g_21 (v := 5) bX6_years rfl) (lv_at hl 0 rfl) ?_
            refine lv_iload_n hx hb (g_28 bX6_years rfl) rfl (lv_at hl 5 rfl) ?_
            refine lv_icmp_ge (tgt := 147) hx hb dX6_years_52 (by decide +kernel) (fun c_36 => ?_) (fun c_36 => ?_)
            · have hz_38 : j_27 = k_11 := Nat.le_antisymm (by omega) (lp_ge rfl rfl (by omega) (by omega) c_36)
              have hz_38r : yrG (fMk k_4) (fMa k_4) k_11 tA 0 = (tJ_28, xS_29) := by rw [← hY_34, hz_38, Nat.sub_self]; rfl
              refine lv_aload_n hx hb (g_42 bX6_years rfl) rfl (lv_at hl 3 rfl) ?_
              refine lv_dup hx hb (g_89 bX6_years rfl) rfl ?_
              refine va_get (D := G) (ci := 5) (v := .int iTk) (C := RX6) (T := TX6) (N := 35) hx hb hts iX_X6 hown hK hP 29 rfl rfl 16 (by decide +kernel) (hts _ m_t866) (fun _ h9 => h9) rfl (g_180 (v := 355) bX6_years rfl) ?_
              refine lv_iload hx hb (g_21 (v := 4) bX6_years rfl) (lv_at hl 1 rfl) ?_
              refine lv_iadd hx hb (g_96 bX6_years rfl) ?_
              refine va_put (D := G) (ci := 5) (v := .int (iTk + xS_29)) (ty := .int) (C := RX6) (T := TX6) (N := 35) hx hb hts iX_X6 tyX6 tyX6_ok nmX6 hown hK hP hD hS 29 rfl rfl 16 (by decide +kernel) (hts _ m_t866) (fun _ h9 => h9) rfl (by decide +kernel) rfl rfl (Nat.le_of_ble_eq_true rfl) (g_181 (v := 355) bX6_years rfl) (fun H locs => ?_)
              clear hP hD hS
              intro hP hD hS
              have hPD := pd_as [_, _, _, zzI cy (rB 0) 4 (bkR tJ_28 0), zzI cy (rB 1) 4 (bkR tJ_28 1), zzI cy (rB 2) 4 (bkR tJ_28 2), zzI cy (rB 3) 4 (bkR tJ_28 3), zzI cy (rB 4) 4 (bkR tJ_28 4), zzI cy (rB 5) 4 (bkR tJ_28 5), zzI cy (rB 6) 4 (bkR tJ_28 6), zzI cy (rB 7) 4 (bkR tJ_28 7), _, zzI cy (rO 0) 5 (onR tJ_28 0), zzI cy (rO 1) 5 (onR tJ_28 1), zzI cy (rO 2) 5 (onR tJ_28 2), zzI cy (rO 3) 5 (onR tJ_28 3), zzI cy (rO 4) 5 (onR tJ_28 4), zzI cy (rO 5) 5 (onR tJ_28 5), zzI cy (rO 6) 5 (onR tJ_28 6), zzI cy (rO 7) 5 (onR tJ_28 7), _, zzI cy (rK 0) 8 (T_kn tJ_28 0), zzI cy (rK 1) 8 (T_kn tJ_28 1), zzI cy (rK 2) 8 (T_kn tJ_28 2), zzI cy (rK 3) 8 (T_kn tJ_28 3), zzI cy (rK 4) 8 (T_kn tJ_28 4), zzI cy (rK 5) 8 (T_kn tJ_28 5), zzI cy (rK 6) 8 (T_kn tJ_28 6), zzI cy (rK 7) 8 (T_kn tJ_28 7), zzO qm 5 (.ref qmh :: .ref qmo :: .ref qmz :: .ref qmR :: .ref qmv :: .ref qmk :: .ref qma :: .ref qmt :: .int (nI kZ) :: .ref qmr :: .int (nI (T_nb tJ_28)) :: .ref qmB :: .int (nI (T_np tJ_28)) :: .ref qmO :: .ref qmK :: .int xE_30 :: .int (iTk + xS_29) :: .int (T_sd tJ_28) :: ov uP :: ov uU :: .int (nI kAt) :: .int iTo :: .int iFr :: .long JFi :: .int iFa :: .ref qm3 :: .int iSt :: .int iLv :: .int iWs :: vLa :: .ref qmu :: .ref qmy :: .ref qmb :: .ref qms :: .int iOm :: []), _, _] hP hD rfl
              clear hP hD
              obtain ⟨hP, hD⟩ := hPD
              refine lv_iload hx hb (g_21 (v := 4) bX6_years rfl) (lv_at hl 1 rfl) ?_
              exact endWs [[false, false, false, false, false, false, false, false, false, false, false, false, false, false, false, false, false, false, false, false, false, false, false, false, false, false, false, false, false, true, true], [true, true, false, false, false, false, false, false, false, false, false, false, false, false, false, false, false, false, false, false, false, false, false, false, false, false, false, false, false, false, false, true], [false, false, true, true, true, true, true, true, true, true, true, true, true, true, true, true, true, true, true, true, true, true, true, true, true, true, true, true, true]] hx hb hr hlocks rfl hP hD rfl (by decide +kernel) hS ⟨xE_30, (iTk + xS_29), fX_18, tJ_28, rfl, ⟨hW_33, Or.inr (Or.inr (Or.inr ⟨k_4, k_11, by omega, rfl, (ex_k (by omega) h_19).1, (ex_k (by omega) h_19).2, by omega, by omega, rfl, hz_38r.symm⟩))⟩, trivial⟩ (g_172 bX6_years rfl)
            · have hlt_39 : j_27 < k_11 := lp_lt rfl rfl (by omega) (by omega) c_36
              obtain ⟨hlt_39i, hlt_39b, hlt_39p⟩ := id hT_32
              refine lv_aload_n hx hb (g_42 bX6_years rfl) rfl (lv_at hl 3 rfl) ?_
              refine lv_aload_n hx hb (g_42 bX6_years rfl) rfl (lv_at hl 3 rfl) ?_
              refine va_get (D := G) (ci := 5) (v := .ref qmk) (C := RX6) (T := TX6) (N := 35) hx hb hts iX_X6 hown hK hP 29 rfl rfl 5 (by decide +kernel) (hts _ m_t855) (fun _ h9 => h9) rfl (g_180 (v := 28) bX6_years rfl) ?_
              refine lv_iload_n hx hb (g_27 bX6_years rfl) rfl (lv_at hl 4 rfl) ?_
              refine va_iald hx hb hK hP 0 0 rfl rfl (in_shelf h_3) (g_46 bX6_years rfl) ?_
              refine lv_seti (v := fMk k_4) (congrArg fMk (cl8 (by omega))) ?_
              refine lv_aload_n hx hb (g_42 bX6_years rfl) rfl (lv_at hl 3 rfl) ?_
              refine va_get (D := G) (ci := 5) (v := .ref qma) (C := RX6) (T := TX6) (N := 35) hx hb hts iX_X6 hown hK hP 29 rfl rfl 6 (by decide +kernel) (hts _ m_t856) (fun _ h9 => h9) rfl (g_180 (v := 31) bX6_years rfl) ?_
              refine lv_iload_n hx hb (g_27 bX6_years rfl) rfl (lv_at hl 4 rfl) ?_
              refine va_iald hx hb hK hP 1 0 rfl rfl (in_shelf h_3) (g_46 bX6_years rfl) ?_
              refine lv_seti (v := fMa k_4) (congrArg fMa (cl8 (by omega))) ?_
              obtain ⟨n_40, hn_41, en_42⟩ := hMa k_4 (by omega)
              refine lv_seti (v := nI n_40) en_42 ?_
              refine cVi (As := [.int (fMk k_4), .int (nI n_40)]) (rest := []) (b := qm) (q := (RX6, TX6, 35)) ⟨hx, hb, hml, hown, hts⟩ (x_X6_does l G cy (H).size qm (.ref qmh) (.ref qmo) (.ref qmz) (.ref qmR) (.ref qmv) (.ref qmk) (.ref qma) (.ref qmt) (.int (nI kZ)) (.ref qmr) tJ_28 qmB qmO qmK xE_30 iTk (ov uP) (ov uU) (.int (nI kAt)) (.int iTo) (.int iFr) (.long JFi) (.int iFa) (.ref qm3) (.int iSt) iLv iWs vLa (.ref qmu) (.ref qmy) (.ref qmb) (.ref qms) (.int iOm) rB rO rK (fMk k_4) n_40 (by omega) (by omega) hW_33 (by omega) (hMk k_4 (by omega) (ex_k (by omega) h_19).1 (ex_k (by omega) h_19).2)) L_X6_114 hN hP hD hS hA (trueIxs [[false, false, false, false, false, false, false, false, false, false, false, false, false, false, false, false, false, false, false, false, false, false, false, false, false, false, false, false, false, true], [false, false, true, true, true, true, true, true, true, true, true, true, true, true, true, true, true, true, true, true, true, true, true, true, true, true, true, true, true]]) [true, true, false, false, false, false, false, false, false, false, false, false, false, false, false, false, false, false, false, false, false, false, false, false, false, false, false, false, false, false, true, true] (sels_eq rfl rfl) (by decide +kernel) rfl 29 5 rfl rfl rfl ⟨Nat.le_of_ble_eq_true rfl, Nat.le_of_ble_eq_true rfl⟩ hl.1 (Nat.le_of_ble_eq_true rfl) (g_182 (v := 114) bX6_years rfl) ⟨Nat.le_of_ble_eq_true rfl, Nat.le_of_ble_eq_true rfl⟩ (fun r_43 u_45 H locs h_44 => ?_)
              clear hP hD hS
              intro hP hD hS
              obtain ⟨tX_46, hu9, h_47, h_48, h_44⟩ := h_44
              have hPD := pd_eq [_, _, _, _, zzO qm 5 (.ref qmh :: .ref qmo :: .ref qmz :: .ref qmR :: .ref qmv :: .ref qmk :: .ref qma :: .ref qmt :: .int (nI kZ) :: .ref qmr :: .int (nI (T_nb tX_46)) :: .ref qmB :: .int (nI (T_np tX_46)) :: .ref qmO :: .ref qmK :: .int xE_30 :: .int iTk :: .int (T_sd tX_46) :: ov uP :: ov uU :: .int (nI kAt) :: .int iTo :: .int iFr :: .long JFi :: .int iFa :: .ref qm3 :: .int iSt :: .int iLv :: .int iWs :: vLa :: .ref qmu :: .ref qmy :: .ref qmb :: .ref qms :: .int iOm :: []), _, zzI cy (rB 0) 4 (bkR tX_46 0), zzI cy (rB 1) 4 (bkR tX_46 1), zzI cy (rB 2) 4 (bkR tX_46 2), zzI cy (rB 3) 4 (bkR tX_46 3), zzI cy (rB 4) 4 (bkR tX_46 4), zzI cy (rB 5) 4 (bkR tX_46 5), zzI cy (rB 6) 4 (bkR tX_46 6), zzI cy (rB 7) 4 (bkR tX_46 7), _, zzI cy (rO 0) 5 (onR tX_46 0), zzI cy (rO 1) 5 (onR tX_46 1), zzI cy (rO 2) 5 (onR tX_46 2), zzI cy (rO 3) 5 (onR tX_46 3), zzI cy (rO 4) 5 (onR tX_46 4), zzI cy (rO 5) 5 (onR tX_46 5), zzI cy (rO 6) 5 (onR tX_46 6), zzI cy (rO 7) 5 (onR tX_46 7), _, zzI cy (rK 0) 8 (T_kn tX_46 0), zzI cy (rK 1) 8 (T_kn tX_46 1), zzI cy (rK 2) 8 (T_kn tX_46 2), zzI cy (rK 3) 8 (T_kn tX_46 3), zzI cy (rK 4) 8 (T_kn tX_46 4), zzI cy (rK 5) 8 (T_kn tX_46 5), zzI cy (rK 6) 8 (T_kn tX_46 6), zzI cy (rK 7) 8 (T_kn tX_46 7)] hP hD hu9 rfl
              clear hP hD hu9
              obtain ⟨hP, hD⟩ := hPD
              refine lv_pop hx hb (g_87 bX6_years rfl) rfl ?_
              refine lv_iload hx hb (g_21 (v := 4) bX6_years rfl) (lv_at hl 1 rfl) ?_
              refine lv_aload_n hx hb (g_42 bX6_years rfl) rfl (lv_at hl 3 rfl) ?_
              refine kRi (rV (As := []) (rest := [.int xS_29]) (b := qm) ⟨hx, hb, hml, hown, hts⟩ (c_X6_valueNow l G cy qm (.ref qmh) (.ref qmo) (.ref qmz) (.ref qmR) (.ref qmv) (.ref qmk) (.ref qma) (.ref qmt) (.int (nI kZ)) (.ref qmr) tX_46 qmB qmO qmK xE_30 iTk (ov uP) (ov uU) (.int (nI kAt)) (.int iTo) (.int iFr) (.long JFi) (.int iFa) (.ref qm3) (.int iSt) iLv iWs vLa (.ref qmu) (.ref qmy) (.ref qmb) (.ref qms) (.int iOm) rB rO rK (by omega) (by omega)) L_X6_122 (preRV (q := (RX6, TX6, 35)) hN hP (trueIx 0 [false, false, false, false, true, true, true, true, true, true, true, true, true, true, true, true, true, true, true, true, true, true, true, true, true, true, true, true, true, true, true, true]) (sel_fm rfl rfl) 4 5 rfl rfl) rfl ⟨Nat.le_of_ble_eq_true rfl, Nat.le_of_ble_eq_true rfl⟩ hl.1 (Nat.le_of_ble_eq_true rfl) (g_182 (v := 122) bX6_years rfl) ⟨Nat.le_of_ble_eq_true rfl, Nat.le_of_ble_eq_true rfl⟩) (fun r_49 h_50 => ?_)
              subst h_50
              refine lv_iadd hx hb (g_96 bX6_years rfl) ?_
              refine lv_istore (lv' := [(4, .int (xS_29 + (mvo tX_46 ((1 <<< (nI (T_np tX_46) &&& 31)) - 1)))), (5, .int (nI j_27)), (3, .int 0), (0, .ref qm), (1, .int (nI k_4)), (2, .int (nI k_11))]) hx hb (g_54 (v := 4) bX6_years rfl) hl (by decide +kernel) rfl (fun ls => ?_)
              clear hl
              intro hl
              refine lv_iconst (v := 0) hx hb (g_3 bX6_years rfl) (by decide +kernel) ?_
              refine lv_istore (lv' := [(6, .int 0), (4, .int (xS_29 + (mvo tX_46 ((1 <<< (nI (T_np tX_46) &&& 31)) - 1)))), (5, .int (nI j_27)), (3, .int 0), (0, .ref qm), (1, .int (nI k_4)), (2, .int (nI k_11))]) hx hb (g_54 (v := 6) bX6_years rfl) hl (by decide +kernel) rfl (fun ls => ?_)
              clear hl
              intro hl
              have lp_51 : ∀ (n_52 : Nat) (m_54 : Nat) (tK_55 : TA), 8 - m_54 < n_52 → m_54 ≤ T_np tA → TI tK_55 ∧ T_nb tK_55 = T_nb tA ∧ T_np tK_55 = T_np tA → tK_55 = ddF tX_46 m_54 → ∀ (H : Heap) (locs : List Loc) (ls : Array Slot), va_P G CL [zzI cy qmk 8 fMk, zzI cy qma 8 fMa, zzI cy qmh 8 fMh, zzI cy qmr 8 fX_18, zzO qm 5 (.ref qmh :: .ref qmo :: .ref qmz :: .ref qmR :: .ref qmv :: .ref qmk :: .ref qma :: .ref qmt :: .int (nI kZ) :: .ref qmr :: .int (nI (T_nb tK_55)) :: .ref qmB :: .int (nI (T_np tK_55)) :: .ref qmO :: .ref qmK :: .int xE_30 :: .int iTk :: .int (T_sd tK_55) :: ov uP :: ov uU :: .int (nI kAt) :: .int iTo :: .int iFr :: .long JFi :: .int iFa :: .ref qm3 :: .int iSt :: .int iLv :: .int iWs :: vLa :: .ref qmu :: .ref qmy :: .ref qmb :: .ref qms :: .int iOm :: []), zzG cy 3 qmB rB, zzI cy (rB 0) 4 (bkR tK_55 0), zzI cy (rB 1) 4 (bkR tK_55 1), zzI cy (rB 2) 4 (bkR tK_55 2), zzI cy (rB 3) 4 (bkR tK_55 3), zzI cy (rB 4) 4 (bkR tK_55 4), zzI cy (rB 5) 4 (bkR tK_55 5), zzI cy (rB 6) 4 (bkR tK_55 6), zzI cy (rB 7) 4 (bkR tK_55 7), zzG cy 3 qmO rO, zzI cy (rO 0) 5 (onR tK_55 0), zzI cy (rO 1) 5 (onR tK_55 1), zzI cy (rO 2) 5 (onR tK_55 2), zzI cy (rO 3) 5 (onR tK_55 3), zzI cy (rO 4) 5 (onR tK_55 4), zzI cy (rO 5) 5 (onR tK_55 5), zzI cy (rO 6) 5 (onR tK_55 6), zzI cy (rO 7) 5 (onR tK_55 7), zzG cy 3 qmK rK, zzI cy (rK 0) 8 (T_kn tK_55 0), zzI cy (rK 1) 8 (T_kn tK_55 1), zzI cy (rK 2) 8 (T_kn tK_55 2), zzI cy (rK 3) 8 (T_kn tK_55 3), zzI cy (rK 4) 8 (T_kn tK_55 4), zzI cy (rK 5) 8 (T_kn tK_55 5), zzI cy (rK 6) 8 (T_kn tK_55 6), zzI cy (rK 7) 8 (T_kn tK_55 7)] H → va_D A [zzI cy qmk 8 fMk, zzI cy qma 8 fMa, zzI cy qmh 8 fMh, zzI cy qmr 8 fX_18, zzO qm 5 (.ref qmh :: .ref qmo :: .ref qmz :: .ref qmR :: .ref qmv :: .ref qmk :: .ref qma :: .ref qmt :: .int (nI kZ) :: .ref qmr :: .int (nI (T_nb tK_55)) :: .ref qmB :: .int (nI (T_np tK_55)) :: .ref qmO :: .ref qmK :: .int xE_30 :: .int iTk :: .int (T_sd tK_55) :: ov uP :: ov uU :: .int (nI kAt) :: .int iTo :: .int iFr :: .long JFi :: .int iFa :: .ref qm3 :: .int iSt :: .int iLv :: .int iWs :: vLa :: .ref qmu :: .ref qmy :: .ref qmb :: .ref qms :: .int iOm :: []), zzG cy 3 qmB rB, zzI cy (rB 0) 4 (bkR tK_55 0), zzI cy (rB 1) 4 (bkR tK_55 1), zzI cy (rB 2) 4 (bkR tK_55 2), zzI cy (rB 3) 4 (bkR tK_55 3), zzI cy (rB 4) 4 (bkR tK_55 4), zzI cy (rB 5) 4 (bkR tK_55 5), zzI cy (rB 6) 4 (bkR tK_55 6), zzI cy (rB 7) 4 (bkR tK_55 7), zzG cy 3 qmO rO, zzI cy (rO 0) 5 (onR tK_55 0), zzI cy (rO 1) 5 (onR tK_55 1), zzI cy (rO 2) 5 (onR tK_55 2), zzI cy (rO 3) 5 (onR tK_55 3), zzI cy (rO 4) 5 (onR tK_55 4), zzI cy (rO 5) 5 (onR tK_55 5), zzI cy (rO 6) 5 (onR tK_55 6), zzI cy (rO 7) 5 (onR tK_55 7), zzG cy 3 qmK rK, zzI cy (rK 0) 8 (T_kn tK_55 0), zzI cy (rK 1) 8 (T_kn tK_55 1), zzI cy (rK 2) 8 (T_kn tK_55 2), zzI cy (rK 3) 8 (T_kn tK_55 3), zzI cy (rK 4) 8 (T_kn tK_55 4), zzI cy (rK 5) 8 (T_kn tK_55 5), zzI cy (rK 6) 8 (T_kn tK_55 6), zzI cy (rK 7) 8 (T_kn tK_55 7)] → va_S A s.heap H locs → lv_has ls 7 [(6, .int (nI m_54)), (4, .int (xS_29 + (mvo tX_46 ((1 <<< (nI (T_np tX_46) &&& 31)) - 1)))), (5, .int (nI j_27)), (3, .int 0), (0, .ref qm), (1, .int (nI k_4)), (2, .int (nI k_11))] → W p l e (Rm 16 0 0) s m (List.toArray (α := Value) [.ref qm, .int (nI k_4), .int (nI k_11)]) below meth c H locs 0 0 (MQ below ((Wi G (fun r u => ∃ (iNe : Int32) (iNt : Int32) (fNr : Nat → Int32) (tN : TA), u = [zzO qm 5 (.ref qmh :: .ref qmo :: .ref qmz :: .ref qmR :: .ref qmv :: .ref qmk :: .ref qma :: .ref qmt :: .int (nI kZ) :: .ref qmr :: .int (nI (T_nb tN)) :: .ref qmB :: .int (nI (T_np tN)) :: .ref qmO :: .ref qmK :: .int iNe :: .int iNt :: .int (T_sd tN) :: ov uP :: ov uU :: .int (nI kAt) :: .int iTo :: .int iFr :: .long JFi :: .int iFa :: .ref qm3 :: .int iSt :: .int iLv :: .int iWs :: vLa :: .ref qmu :: .ref qmy :: .ref qmb :: .ref qms :: .int iOm :: []), zzI cy qmh 8 fMh, zzI cy qmk 8 fMk, zzI cy qma 8 fMa, zzI cy qmr 8 fNr, zzG cy 3 qmB rB, zzI cy (rB 0) 4 (bkR tN 0), zzI cy (rB 1) 4 (bkR tN 1), zzI cy (rB 2) 4 (bkR tN 2), zzI cy (rB 3) 4 (bkR tN 3), zzI cy (rB 4) 4 (bkR tN 4), zzI cy (rB 5) 4 (bkR tN 5), zzI cy (rB 6) 4 (bkR tN 6), zzI cy (rB 7) 4 (bkR tN 7), zzG cy 3 qmO rO, zzI cy (rO 0) 5 (onR tN 0), zzI cy (rO 1) 5 (onR tN 1), zzI cy (rO 2) 5 (onR tN 2), zzI cy (rO 3) 5 (onR tN 3), zzI cy (rO 4) 5 (onR tN 4), zzI cy (rO 5) 5 (onR tN 5), zzI cy (rO 6) 5 (onR tN 6), zzI cy (rO 7) 5 (onR tN 7), zzG cy 3 qmK rK, zzI cy (rK 0) 8 (T_kn tN 0), zzI cy (rK 1) 8 (T_kn tN 1), zzI cy (rK 2) 8 (T_kn tN 2), zzI cy (rK 3) 8 (T_kn tN 3), zzI cy (rK 4) 8 (T_kn tN 4), zzI cy (rK 5) 8 (T_kn tN 5), zzI cy (rK 6) 8 (T_kn tN 6), zzI cy (rK 7) 8 (T_kn tN 7)] ∧ (WI tN ∧ PMyears fMh fMk fMa tA (nI k_4) (nI k_11) r tN) ∧ (True))) A) (List.toArray (α := Value) [.ref qm, .int (nI k_4), .int (nI k_11)]) s 0 0 A) (F0 m 84 ls []) := by
                intro n_52
                induction n_52 with
                | zero => intro m_54 tK_55 hm9; exact absurd hm9 (Nat.not_lt_zero _)
                | succ n_52 ih_53 =>
                  intro m_54 tK_55 hm_59 hm_59 hTK_57 hD_58 H locs ls hP hD hS hl
                  refine lv_iload hx hb (g_21 (v := 6) bX6_years rfl) (lv_at hl 0 rfl) ?_
                  refine lv_aload_n hx hb (g_42 bX6_years rfl) rfl (lv_at hl 4 rfl) ?_
                  refine va_get (D := G) (ci := 5) (v := .int (nI (T_np tK_55))) (C := RX6) (T := TX6) (N := 35) hx hb hts iX_X6 hown hK hP 4 rfl rfl 12 (by decide +kernel) (hts _ m_t862) (fun _ h9 => h9) rfl (g_180 (v := 78) bX6_years rfl) ?_
                  refine lv_icmp_ge (tgt := 136) hx hb dX6_years_90 (by decide +kernel) (fun c_60 => ?_) (fun c_60 => ?_)
                  · have hlt_61e : T_np tK_55 = T_np tA := hTK_57.2.2
                    have hlt_61b : T_nb tK_55 = T_nb tA := hTK_57.2.1
                    have hw_62m : m_54 = T_np tA := Nat.le_antisymm (by omega) (by have h9 := c_60; rw [hTK_57.2.2] at h9; exact lp_ge rfl rfl (by omega) (by omega) h9)
                    have hw_62n : T_np tX_46 = T_np tA := by rw [h_48.1]; exact ((zact_nb _ _ _).2).trans hT_32.2.2
                    have hw_62z : tK_55 = zdd tX_46 := by rw [hD_58, hw_62m, ← hw_62n]; rfl
                    have hw_62W : WI tK_55 := by rw [hw_62z, h_48.1]; exact WI_dd (WI_act hW_33)
                    refine lv_aload_n hx hb (g_42 bX6_years rfl) rfl (lv_at hl 4 rfl) ?_
                    refine cVi (As := []) (rest := []) (b := qm) (q := (RX6, TX6, 35)) ⟨hx, hb, hml, hown, hts⟩ (x_X6_end l G cy (H).size qm (.ref qmh) (.ref qmo) (.ref qmz) (.ref qmR) (.ref qmv) (.ref qmk) (.ref qma) (.ref qmt) (.int (nI kZ)) (.ref qmr) tK_55 qmB qmO qmK xE_30 iTk (ov uP) (ov uU) (.int (nI kAt)) (.int iTo) (.int iFr) (.long JFi) (.int iFa) (.ref qm3) (.int iSt) iLv iWs vLa (.ref qmu) (.ref qmy) (.ref qmb) (.ref qms) (.int iOm) rB rO rK (by omega) (by omega) hTK_57.1 hw_62W.2.2) L_X6_288 hN hP hD hS hA (trueIx 0 [false, false, false, false, true, true, true, true, true, true, true, true, true, true, true, true, true, true, true, true, true, true, true, true, true, true, true, true, true, true, true, true]) [true, true, true, true, false, false, false, false, false, false, false, false, false, false, false, false, false, false, false, false, false, false, false, false, false, false, false, false, false, false, false, false] (sel_eq rfl rfl) (by decide +kernel) rfl 4 5 rfl rfl rfl ⟨Nat.le_of_ble_eq_true rfl, Nat.le_of_ble_eq_true rfl⟩ hl.1 (Nat.le_of_ble_eq_true rfl) (g_182 (v := 288) bX6_years rfl) ⟨Nat.le_of_ble_eq_true rfl, Nat.le_of_ble_eq_true rfl⟩ (fun r_63 u_65 H locs h_64 => ?_)
                    clear hP hD hS
                    intro hP hD hS
                    obtain ⟨tX_66, iX_67, hu9, h_68, h_69, h_64⟩ := h_64
                    have hPD := pd_eq [_, _, _, _, zzO qm 5 (.ref qmh :: .ref qmo :: .ref qmz :: .ref qmR :: .ref qmv :: .ref qmk :: .ref qma :: .ref qmt :: .int (nI kZ) :: .ref qmr :: .int (nI (T_nb tX_66)) :: .ref qmB :: .int (nI (T_np tX_66)) :: .ref qmO :: .ref qmK :: .int iX_67 :: .int iTk :: .int (T_sd tX_66) :: ov uP :: ov uU :: .int (nI kAt) :: .int iTo :: .int iFr :: .long JFi :: .int iFa :: .ref qm3 :: .int iSt :: .int iLv :: .int iWs :: vLa :: .ref qmu :: .ref qmy :: .ref qmb :: .ref qms :: .int iOm :: []), _, zzI cy (rB 0) 4 (bkR tX_66 0), zzI cy (rB 1) 4 (bkR tX_66 1), zzI cy (rB 2) 4 (bkR tX_66 2), zzI cy (rB 3) 4 (bkR tX_66 3), zzI cy (rB 4) 4 (bkR tX_66 4), zzI cy (rB 5) 4 (bkR tX_66 5), zzI cy (rB 6) 4 (bkR tX_66 6), zzI cy (rB 7) 4 (bkR tX_66 7), _, zzI cy (rO 0) 5 (onR tX_66 0), zzI cy (rO 1) 5 (onR tX_66 1), zzI cy (rO 2) 5 (onR tX_66 2), zzI cy (rO 3) 5 (onR tX_66 3), zzI cy (rO 4) 5 (onR tX_66 4), zzI cy (rO 5) 5 (onR tX_66 5), zzI cy (rO 6) 5 (onR tX_66 6), zzI cy (rO 7) 5 (onR tX_66 7), _, zzI cy (rK 0) 8 (T_kn tX_66 0), zzI cy (rK 1) 8 (T_kn tX_66 1), zzI cy (rK 2) 8 (T_kn tX_66 2), zzI cy (rK 3) 8 (T_kn tX_66 3), zzI cy (rK 4) 8 (T_kn tX_66 4), zzI cy (rK 5) 8 (T_kn tX_66 5), zzI cy (rK 6) 8 (T_kn tX_66 6), zzI cy (rK 7) 8 (T_kn tX_66 7)] hP hD hu9 rfl
                    clear hP hD hu9
                    obtain ⟨hP, hD⟩ := hPD
                    refine lv_pop hx hb (g_87 bX6_years rfl) rfl ?_
                    refine lv_iinc (v := nI (j_27 + 1)) (lv' := [(5, .int (nI (j_27 + 1))), (6, .int (nI m_54)), (4, .int (xS_29 + (mvo tX_46 ((1 <<< (nI (T_np tX_46) &&& 31)) - 1)))), (3, .int 0), (0, .ref qm), (1, .int (nI k_4)), (2, .int (nI k_11))]) hx hb dX6_years_141 hl (k := 2) rfl (nI_1 _) (by decide +kernel) rfl (fun ls => ?_)
                    clear hl
                    intro hl
                    refine lv_goto (tgt := 49) hx hb dX6_years_144 (by decide +kernel) ?_
                    exact ih_26 (j_27 + 1) tX_66 (xS_29 + (mvo tX_46 ((1 <<< (nI (T_np tX_46) &&& 31)) - 1))) iX_67 (by omega) (by omega) (⟨h_68.1, h_68.2.1.trans hTK_57.2.1, h_68.2.2.trans hTK_57.2.2⟩) (by rw [h_69]; exact WI_ey hw_62W) (by have q9 := hY_34; rw [show k_11 - j_27 = k_11 - (j_27 + 1) + 1 by omega] at q9; exact yr_st q9 (by rw [h_69, hw_62z, h_48.1, en_42]) (by rw [mvo_all (by omega), h_48.1, en_42])) _ _ _ (pSb hP [[true, true, false, false, false, true, true, true, true, true, true, true, true, true, true, true, true, true, true, true, true, true, true, true, true, true, true, true, true, true, true, true], [false, false, false, false, true], [false, false, true, true]] rfl rfl) (dSb hD [[true, true, false, false, false, true, true, true, true, true, true, true, true, true, true, true, true, true, true, true, true, true, true, true, true, true, true, true, true, true, true, true], [false, false, false, false, true], [false, false, true, true]] (by decide +kernel) rfl rfl) hS (lv_sub hl [0, 2, 3, 4, 5, 6] rfl)
                  · have hlt_70e : T_np tK_55 = T_np tA := hTK_57.2.2
                    have hlt_70b : T_nb tK_55 = T_nb tA := hTK_57.2.1
                    have hlt_70 : m_54 < T_np tA := by rw [hlt_70e] at c_60; exact lp_lt rfl rfl (by omega) (by omega) c_60
                    refine lv_aload_n hx hb (g_42 bX6_years rfl) rfl (lv_at hl 4 rfl) ?_
                    refine lv_iload hx hb (g_21 (v := 6) bX6_years rfl) (lv_at hl 0 rfl) ?_
                    refine kRi (rV (As := [.int (nI m_54)]) (rest := []) (b := qm) ⟨hx, hb, hml, hown, hts⟩ (c_X6_isThere l G cy qm (.ref qmh) (.ref qmo) (.ref qmz) (.ref qmR) (.ref qmv) (.ref qmk) (.ref qma) (.ref qmt) (.int (nI kZ)) (.ref qmr) tK_55 qmB qmO qmK xE_30 iTk (ov uP) (ov uU) (.int (nI kAt)) (.int iTo) (.int iFr) (.long JFi) (.int iFa) (.ref qm3) (.int iSt) iLv iWs vLa (.ref qmu) (.ref qmy) (.ref qmb) (.ref qms) (.int iOm) rO m_54 (by omega)) L_X6_81 (preRV (q := (RX6, TX6, 35)) hN hP (trueIx 0 [false, false, false, false, true, false, false, false, false, false, false, false, false, false, true, true, true, true, true, true, true, true, true]) (sel_fm rfl rfl) 4 5 rfl rfl) rfl ⟨Nat.le_of_ble_eq_true rfl, Nat.le_of_ble_eq_true rfl⟩ hl.1 (Nat.le_of_ble_eq_true rfl) (g_182 (v := 81) bX6_years rfl) ⟨Nat.le_of_ble_eq_true rfl, Nat.le_of_ble_eq_true rfl⟩) (fun r_71 h_72 => ?_)
                    rcases h_72 with ⟨rfl, h_73⟩ | ⟨rfl, h_73⟩
                    · refine lv_if_eq (tgt := 130) hx hb dX6_years_99 (by decide +kernel) (fun h9 => absurd h9 (by decide +kernel)) (fun _ => ?_)
                      refine lv_aload_n hx hb (g_42 bX6_years rfl) rfl (lv_at hl 4 rfl) ?_
                      refine lv_bipush (v := 20) hx hb dX6_years_103 (by decide +kernel) ?_
                      refine cVi (As := [.int 20]) (rest := []) (b := qm) (q := (RX6, TX6, 35)) ⟨hx, hb, hml, hown, hts⟩ (x_X6_draw l G cy (H).size qm (.ref qmh) (.ref qmo) (.ref qmz) (.ref qmR) (.ref qmv) (.ref qmk) (.ref qma) (.ref qmt) (.int (nI kZ)) (.ref qmr) tK_55 qmB qmO qmK xE_30 iTk (ov uP) (ov uU) (.int (nI kAt)) (.int iTo) (.int iFr) (.long JFi) (.int iFa) (.ref qm3) (.int iSt) iLv iWs vLa (.ref qmu) (.ref qmy) (.ref qmb) (.ref qms) (.int iOm) rB rO rK) L_X6_352 hN hP hD hS hA (trueIx 0 [false, false, false, false, true, true, true, true, true, true, true, true, true, true, true, true, true, true, true, true, true, true, true, true, true, true, true, true, true, true, true, true]) [true, true, true, true, false, false, false, false, false, false, false, false, false, false, false, false, false, false, false, false, false, false, false, false, false, false, false, false, false, false, false, false] (sel_eq rfl rfl) (by decide +kernel) rfl 4 5 rfl rfl rfl ⟨Nat.le_of_ble_eq_true rfl, Nat.le_of_ble_eq_true rfl⟩ hl.1 (Nat.le_of_ble_eq_true rfl) (g_182 (v := 352) bX6_years rfl) ⟨Nat.le_of_ble_eq_true rfl, Nat.le_of_ble_eq_true rfl⟩ (fun r_75 u_77 H locs h_76 => ?_)
                      clear hP hD hS
                      intro hP hD hS
                      obtain ⟨hu9, h_76⟩ := h_76
                      have hPD := pd_eq [_, _, _, _, zzO qm 5 (.ref qmh :: .ref qmo :: .ref qmz :: .ref qmR :: .ref qmv :: .ref qmk :: .ref qma :: .ref qmt :: .int (nI kZ) :: .ref qmr :: .int (nI (T_nb (T_setsd tK_55 (ltS (T_sd tK_55))))) :: .ref qmB :: .int (nI (T_np (T_setsd tK_55 (ltS (T_sd tK_55))))) :: .ref qmO :: .ref qmK :: .int xE_30 :: .int iTk :: .int (T_sd (T_setsd tK_55 (ltS (T_sd tK_55)))) :: ov uP :: ov uU :: .int (nI kAt) :: .int iTo :: .int iFr :: .long JFi :: .int iFa :: .ref qm3 :: .int iSt :: .int iLv :: .int iWs :: vLa :: .ref qmu :: .ref qmy :: .ref qmb :: .ref qms :: .int iOm :: []), _, zzI cy (rB 0) 4 (bkR (T_setsd tK_55 (ltS (T_sd tK_55))) 0), zzI cy (rB 1) 4 (bkR (T_setsd tK_55 (ltS (T_sd tK_55))) 1), zzI cy (rB 2) 4 (bkR (T_setsd tK_55 (ltS (T_sd tK_55))) 2), zzI cy (rB 3) 4 (bkR (T_setsd tK_55 (ltS (T_sd tK_55))) 3), zzI cy (rB 4) 4 (bkR (T_setsd tK_55 (ltS (T_sd tK_55))) 4), zzI cy (rB 5) 4 (bkR (T_setsd tK_55 (ltS (T_sd tK_55))) 5), zzI cy (rB 6) 4 (bkR (T_setsd tK_55 (ltS (T_sd tK_55))) 6), zzI cy (rB 7) 4 (bkR (T_setsd tK_55 (ltS (T_sd tK_55))) 7), _, zzI cy (rO 0) 5 (onR (T_setsd tK_55 (ltS (T_sd tK_55))) 0), zzI cy (rO 1) 5 (onR (T_setsd tK_55 (ltS (T_sd tK_55))) 1), zzI cy (rO 2) 5 (onR (T_setsd tK_55 (ltS (T_sd tK_55))) 2), zzI cy (rO 3) 5 (onR (T_setsd tK_55 (ltS (T_sd tK_55))) 3), zzI cy (rO 4) 5 (onR (T_setsd tK_55 (ltS (T_sd tK_55))) 4), zzI cy (rO 5) 5 (onR (T_setsd tK_55 (ltS (T_sd tK_55))) 5), zzI cy (rO 6) 5 (onR (T_setsd tK_55 (ltS (T_sd tK_55))) 6), zzI cy (rO 7) 5 (onR (T_setsd tK_55 (ltS (T_sd tK_55))) 7), _, zzI cy (rK 0) 8 (T_kn (T_setsd tK_55 (ltS (T_sd tK_55))) 0), zzI cy (rK 1) 8 (T_kn (T_setsd tK_55 (ltS (T_sd tK_55))) 1), zzI cy (rK 2) 8 (T_kn (T_setsd tK_55 (ltS (T_sd tK_55))) 2), zzI cy (rK 3) 8 (T_kn (T_setsd tK_55 (ltS (T_sd tK_55))) 3), zzI cy (rK 4) 8 (T_kn (T_setsd tK_55 (ltS (T_sd tK_55))) 4), zzI cy (rK 5) 8 (T_kn (T_setsd tK_55 (ltS (T_sd tK_55))) 5), zzI cy (rK 6) 8 (T_kn (T_setsd tK_55 (ltS (T_sd tK_55))) 6), zzI cy (rK 7) 8 (T_kn (T_setsd tK_55 (ltS (T_sd tK_55))) 7)] hP hD hu9 rfl
                      clear hP hD hu9
                      obtain ⟨hP, hD⟩ := hPD
                      subst h_76
                      refine lv_aload_n hx hb (g_42 bX6_years rfl) rfl (lv_at hl 4 rfl) ?_
                      refine va_get (D := G) (ci := 5) (v := .ref qmO) (C := RX6) (T := TX6) (N := 35) hx hb hts iX_X6 hown hK hP 4 rfl rfl 13 (by decide +kernel) (hts _ m_t863) (fun _ h9 => h9) rfl (g_180 (v := 45) bX6_years rfl) ?_
                      refine lv_iload hx hb (g_21 (v := 6) bX6_years rfl) (lv_at hl 0 rfl) ?_
                      refine va_alda hx hb hK hP 14 3 rfl rfl (in8 (by omega)) (g_50 bX6_years rfl) ?_
                      refine lv_setv (v := .ref (rO m_54)) (g_ref (by omega)) ?_
                      refine lv_iconst (v := 0) hx hb (g_3 bX6_years rfl) (by decide +kernel) ?_
                      refine va_iald hx hb hK hP (15 + m_54) 0 (sg8 (n0 := 15) (f := (fun j => zzI cy (rO j) 5 (onR (T_setsd tK_55 (ltS (T_sd tK_55))) j))) rfl rfl rfl rfl rfl rfl rfl rfl m_54 (by omega)) rfl (in_c rfl) (g_46 bX6_years rfl) ?_
                      refine lv_seti (v := T_ag (T_setsd tK_55 (ltS (T_sd tK_55))) m_54) (on_0 _ _) ?_
                      refine lv_icmp_ge (tgt := 130) hx hb dX6_years_117 (by decide +kernel) (fun c_78 => ?_) (fun c_78 => ?_)
                      · refine lv_iinc (v := nI (m_54 + 1)) (lv' := [(6, .int (nI (m_54 + 1))), (4, .int (xS_29 + (mvo tX_46 ((1 <<< (nI (T_np tX_46) &&& 31)) - 1)))), (5, .int (nI j_27)), (3, .int 0), (0, .ref qm), (1, .int (nI k_4)), (2, .int (nI k_11))]) hx hb dX6_years_130 hl (k := 0) rfl (nI_1 _) (by decide +kernel) rfl (fun ls => ?_)
                        clear hl
                        intro hl
                        refine lv_goto (tgt := 84) hx hb dX6_years_133 (by decide +kernel) ?_
                        exact ih_53 (m_54 + 1) (T_setsd tK_55 (ltS (T_sd tK_55))) (by omega) (by omega) (⟨hTK_57.1, hTK_57.2⟩) (by rw [dd_live (by rw [← hD_58]; exact h_73) (by rw [← hD_58]; exact Int32.not_lt.mpr c_78), ← hD_58]) _ _ _ hP hD hS (lv_sub hl [0, 1, 2, 3, 4, 5, 6] rfl)
                      · refine lv_aload_n hx hb (g_42 bX6_years rfl) rfl (lv_at hl 4 rfl) ?_
                        refine va_get (D := G) (ci := 5) (v := .ref qmO) (C := RX6) (T := TX6) (N := 35) hx hb hts iX_X6 hown hK hP 4 rfl rfl 13 (by decide +kernel) (hts _ m_t863) (fun _ h9 => h9) rfl (g_180 (v := 45) bX6_years rfl) ?_
                        refine lv_iload hx hb (g_21 (v := 6) bX6_years rfl) (lv_at hl 0 rfl) ?_
                        refine va_alda hx hb hK hP 14 3 rfl rfl (in8 (by omega)) (g_50 bX6_years rfl) ?_
                        refine lv_setv (v := .ref (rO m_54)) (g_ref (by omega)) ?_
                        refine lv_iconst (v := 4) hx hb (g_7 bX6_years rfl) (by decide +kernel) ?_
                        refine lv_iconst (v := 1) hx hb (g_4 bX6_years rfl) (by decide +kernel) ?_
                        refine va_iast hx hb hK hP hD hS (15 + m_54) 0 ((sg8 (n0 := 15) (f := (fun j => zzI cy (rO j) 5 (onR (T_setsd tK_55 (ltS (T_sd tK_55))) j))) rfl rfl rfl rfl rfl rfl rfl rfl) m_54 (by omega)) rfl (in_c rfl) (g_79 bX6_years rfl) (fun H locs => ?_)
                        clear hP hD hS
                        intro hP hD hS
                        have hPD := st8PD (ws' := [zzI cy qmk 8 fMk, zzI cy qma 8 fMa, zzI cy qmh 8 fMh, zzI cy qmr 8 fX_18, zzO qm 5 (.ref qmh :: .ref qmo :: .ref qmz :: .ref qmR :: .ref qmv :: .ref qmk :: .ref qma :: .ref qmt :: .int (nI kZ) :: .ref qmr :: .int (nI (T_nb (T_setgn (T_setsd tK_55 (ltS (T_sd tK_55))) (updB (T_gn (T_setsd tK_55 (ltS (T_sd tK_55)))) m_54 true)))) :: .ref qmB :: .int (nI (T_np (T_setgn (T_setsd tK_55 (ltS (T_sd tK_55))) (updB (T_gn (T_setsd tK_55 (ltS (T_sd tK_55)))) m_54 true)))) :: .ref qmO :: .ref qmK :: .int xE_30 :: .int iTk :: .int (T_sd (T_setgn (T_setsd tK_55 (ltS (T_sd tK_55))) (updB (T_gn (T_setsd tK_55 (ltS (T_sd tK_55)))) m_54 true))) :: ov uP :: ov uU :: .int (nI kAt) :: .int iTo :: .int iFr :: .long JFi :: .int iFa :: .ref qm3 :: .int iSt :: .int iLv :: .int iWs :: vLa :: .ref qmu :: .ref qmy :: .ref qmb :: .ref qms :: .int iOm :: []), zzG cy 3 qmB rB, zzI cy (rB 0) 4 (bkR (T_setgn (T_setsd tK_55 (ltS (T_sd tK_55))) (updB (T_gn (T_setsd tK_55 (ltS (T_sd tK_55)))) m_54 true)) 0), zzI cy (rB 1) 4 (bkR (T_setgn (T_setsd tK_55 (ltS (T_sd tK_55))) (updB (T_gn (T_setsd tK_55 (ltS (T_sd tK_55)))) m_54 true)) 1), zzI cy (rB 2) 4 (bkR (T_setgn (T_setsd tK_55 (ltS (T_sd tK_55))) (updB (T_gn (T_setsd tK_55 (ltS (T_sd tK_55)))) m_54 true)) 2), zzI cy (rB 3) 4 (bkR (T_setgn (T_setsd tK_55 (ltS (T_sd tK_55))) (updB (T_gn (T_setsd tK_55 (ltS (T_sd tK_55)))) m_54 true)) 3), zzI cy (rB 4) 4 (bkR (T_setgn (T_setsd tK_55 (ltS (T_sd tK_55))) (updB (T_gn (T_setsd tK_55 (ltS (T_sd tK_55)))) m_54 true)) 4), zzI cy (rB 5) 4 (bkR (T_setgn (T_setsd tK_55 (ltS (T_sd tK_55))) (updB (T_gn (T_setsd tK_55 (ltS (T_sd tK_55)))) m_54 true)) 5), zzI cy (rB 6) 4 (bkR (T_setgn (T_setsd tK_55 (ltS (T_sd tK_55))) (updB (T_gn (T_setsd tK_55 (ltS (T_sd tK_55)))) m_54 true)) 6), zzI cy (rB 7) 4 (bkR (T_setgn (T_setsd tK_55 (ltS (T_sd tK_55))) (updB (T_gn (T_setsd tK_55 (ltS (T_sd tK_55)))) m_54 true)) 7), zzG cy 3 qmO rO, zzI cy (rO 0) 5 (onR (T_setgn (T_setsd tK_55 (ltS (T_sd tK_55))) (updB (T_gn (T_setsd tK_55 (ltS (T_sd tK_55)))) m_54 true)) 0), zzI cy (rO 1) 5 (onR (T_setgn (T_setsd tK_55 (ltS (T_sd tK_55))) (updB (T_gn (T_setsd tK_55 (ltS (T_sd tK_55)))) m_54 true)) 1), zzI cy (rO 2) 5 (onR (T_setgn (T_setsd tK_55 (ltS (T_sd tK_55))) (updB (T_gn (T_setsd tK_55 (ltS (T_sd tK_55)))) m_54 true)) 2), zzI cy (rO 3) 5 (onR (T_setgn (T_setsd tK_55 (ltS (T_sd tK_55))) (updB (T_gn (T_setsd tK_55 (ltS (T_sd tK_55)))) m_54 true)) 3), zzI cy (rO 4) 5 (onR (T_setgn (T_setsd tK_55 (ltS (T_sd tK_55))) (updB (T_gn (T_setsd tK_55 (ltS (T_sd tK_55)))) m_54 true)) 4), zzI cy (rO 5) 5 (onR (T_setgn (T_setsd tK_55 (ltS (T_sd tK_55))) (updB (T_gn (T_setsd tK_55 (ltS (T_sd tK_55)))) m_54 true)) 5), zzI cy (rO 6) 5 (onR (T_setgn (T_setsd tK_55 (ltS (T_sd tK_55))) (updB (T_gn (T_setsd tK_55 (ltS (T_sd tK_55)))) m_54 true)) 6), zzI cy (rO 7) 5 (onR (T_setgn (T_setsd tK_55 (ltS (T_sd tK_55))) (updB (T_gn (T_setsd tK_55 (ltS (T_sd tK_55)))) m_54 true)) 7), zzG cy 3 qmK rK, zzI cy (rK 0) 8 (T_kn (T_setgn (T_setsd tK_55 (ltS (T_sd tK_55))) (updB (T_gn (T_setsd tK_55 (ltS (T_sd tK_55)))) m_54 true)) 0), zzI cy (rK 1) 8 (T_kn (T_setgn (T_setsd tK_55 (ltS (T_sd tK_55))) (updB (T_gn (T_setsd tK_55 (ltS (T_sd tK_55)))) m_54 true)) 1), zzI cy (rK 2) 8 (T_kn (T_setgn (T_setsd tK_55 (ltS (T_sd tK_55))) (updB (T_gn (T_setsd tK_55 (ltS (T_sd tK_55)))) m_54 true)) 2), zzI cy (rK 3) 8 (T_kn (T_setgn (T_setsd tK_55 (ltS (T_sd tK_55))) (updB (T_gn (T_setsd tK_55 (ltS (T_sd tK_55)))) m_54 true)) 3), zzI cy (rK 4) 8 (T_kn (T_setgn (T_setsd tK_55 (ltS (T_sd tK_55))) (updB (T_gn (T_setsd tK_55 (ltS (T_sd tK_55)))) m_54 true)) 4), zzI cy (rK 5) 8 (T_kn (T_setgn (T_setsd tK_55 (ltS (T_sd tK_55))) (updB (T_gn (T_setsd tK_55 (ltS (T_sd tK_55)))) m_54 true)) 5), zzI cy (rK 6) 8 (T_kn (T_setgn (T_setsd tK_55 (ltS (T_sd tK_55))) (updB (T_gn (T_setsd tK_55 (ltS (T_sd tK_55)))) m_54 true)) 6), zzI cy (rK 7) 8 (T_kn (T_setgn (T_setsd tK_55 (ltS (T_sd tK_55))) (updB (T_gn (T_setsd tK_55 (ltS (T_sd tK_55)))) m_54 true)) 7)]) (k := m_54) (g1 := onR (T_setgn (T_setsd tK_55 (ltS (T_sd tK_55))) (updB (T_gn (T_setsd tK_55 (ltS (T_sd tK_55)))) m_54 true)) m_54) hP hD (sg8 (n0 := 15) (f := (fun j => zzI cy (rO j) 5 (onR (T_setsd tK_55 (ltS (T_sd tK_55))) j))) rfl rfl rfl rfl rfl rfl rfl rfl) (sg8 (n0 := 15) (f := (fun j => zzI cy (rO j) 5 (onR (T_setgn (T_setsd tK_55 (ltS (T_sd tK_55))) (updB (T_gn (T_setsd tK_55 (ltS (T_sd tK_55)))) m_54 true)) j))) rfl rfl rfl rfl rfl rfl rfl rfl) rfl rfl (by omega) rfl (on_w4 (T_setsd tK_55 (ltS (T_sd tK_55))) m_54 true) (fun j hj => congrArg (zzI cy (rO j) 5) (on_n4 (T_setsd tK_55 (ltS (T_sd tK_55))) m_54 true hj))
                        clear hP hD
                        obtain ⟨hP, hD⟩ := hPD
                        refine lv_iinc (v := nI (m_54 + 1)) (lv' := [(6, .int (nI (m_54 + 1))), (4, .int (xS_29 + (mvo tX_46 ((1 <<< (nI (T_np tX_46) &&& 31)) - 1)))), (5, .int (nI j_27)), (3, .int 0), (0, .ref qm), (1, .int (nI k_4)), (2, .int (nI k_11))]) hx hb dX6_years_130 hl (k := 0) rfl (nI_1 _) (by decide +kernel) rfl (fun ls => ?_)
                        clear hl
                        intro hl
                        refine lv_goto (tgt := 84) hx hb dX6_years_133 (by decide +kernel) ?_
                        exact ih_53 (m_54 + 1) (T_setgn (T_setsd tK_55 (ltS (T_sd tK_55))) (updB (T_gn (T_setsd tK_55 (ltS (T_sd tK_55)))) m_54 true)) (by omega) (by omega) (⟨hTK_57.1, hTK_57.2⟩) (by rw [dd_die (by rw [← hD_58]; exact h_73) (by rw [← hD_58]; exact Int32.not_le.mp c_78), ← hD_58]) _ _ _ hP hD hS (lv_sub hl [0, 1, 2, 3, 4, 5, 6] rfl)
                    · refine lv_if_eq (tgt := 130) hx hb dX6_years_99 (by decide +kernel) (fun _ => ?_) (fun h9 => absurd (by decide +kernel) h9)
                      refine lv_iinc (v := nI (m_54 + 1)) (lv' := [(6, .int (nI (m_54 + 1))), (4, .int (xS_29 + (mvo tX_46 ((1 <<< (nI (T_np tX_46) &&& 31)) - 1)))), (5, .int (nI j_27)), (3, .int 0), (0, .ref qm), (1, .int (nI k_4)), (2, .int (nI k_11))]) hx hb dX6_years_130 hl (k := 0) rfl (nI_1 _) (by decide +kernel) rfl (fun ls => ?_)
                      clear hl
                      intro hl
                      refine lv_goto (tgt := 84) hx hb dX6_years_133 (by decide +kernel) ?_
                      exact ih_53 (m_54 + 1) tK_55 (by omega) (by omega) (⟨hTK_57.1, hTK_57.2⟩) (by rw [dd_g (by rw [← hD_58]; exact h_73)]; exact hD_58) _ _ _ hP hD hS (lv_sub hl [0, 1, 2, 3, 4, 5, 6] rfl)
              exact lp_51 ((8 - 0) + 1) 0 tX_46 (Nat.lt_succ_self _) (Nat.zero_le _) (⟨h_47.1, h_47.2.1.trans hT_32.2.1, h_47.2.2.trans hT_32.2.2⟩) rfl _ _ ls hP hD hS (lv_sub hl [0, 1, 2, 3, 4, 5, 6] rfl)
        exact lp_24 ((20 - 0) + 1) 0 tA 0 iEn (Nat.lt_succ_self _) (Nat.zero_le _) (⟨hWI.1, rfl, rfl⟩) hWI rfl _ _ ls hP hD hS (lv_sub hl [0, 1, 2, 3, 4, 5] rfl)
    · refine lv_if_ne (tgt := 31) hx hb dX6_years_21 (by decide +kernel) (fun h9 => absurd (by decide +kernel) h9) (fun _ => ?_)
      refine lv_aload_n hx hb (g_42 bX6_years rfl) rfl (lv_at hl 0 rfl) ?_
      refine lv_bipush (v := (-2)) hx hb dX6_years_25 (by decide +kernel) ?_
      refine cVi (As := [.int (-2)]) (rest := []) (b := qm) (q := (RX6, TX6, 35)) ⟨hx, hb, hml, hown, hts⟩ (c_X6_refuse2 l G cy (s.heap).size qm (.ref qmh) (.ref qmo) (.ref qmz) (.ref qmR) (.ref qmv) (.ref qmk) (.ref qma) (.ref qmt) (.int (nI kZ)) qmr tA qmB qmO qmK iEn iTk (ov uP) (ov uU) (.int (nI kAt)) (.int iTo) (.int iFr) (.long JFi) (.int iFa) (.ref qm3) (.int iSt) iLv iWs vLa (.ref qmu) (.ref qmy) (.ref qmb) (.ref qms) (.int iOm) fMr) L_X6_91 hN hP hD hS hA [0, 4] [false, true, true, true, false, true, true, true, true, true, true, true, true, true, true, true, true, true, true, true, true, true, true, true, true, true, true, true, true, true, true, true] rfl (by decide +kernel) rfl 0 5 rfl rfl rfl ⟨Nat.le_of_ble_eq_true rfl, Nat.le_of_ble_eq_true rfl⟩ hl.1 (Nat.le_of_ble_eq_true rfl) (g_182 (v := 91) bX6_years rfl) ⟨Nat.le_of_ble_eq_true rfl, Nat.le_of_ble_eq_true rfl⟩ (fun r_81 u_83 H locs h_82 => ?_)
      clear hP hD hS
      intro hP hD hS
      obtain ⟨fX_84, hu9, h_82⟩ := h_82
      have hPD := pd_eq [_, _, _, _, _, _, _, _, _, _, _, _, _, _, _, _, _, _, _, _, _, _, _, _, _, _, _, _, _, _, _, zzI cy qmr 8 fX_84] hP hD hu9 rfl
      clear hP hD hu9
      obtain ⟨hP, hD⟩ := hPD
      subst h_82
      exact endWs [[false, false, false, false, false, false, false, false, false, false, false, false, false, false, false, false, false, false, false, false, false, false, false, false, false, false, false, false, false, false, true], [true, true, true, false, false, false, false, false, false, false, false, false, false, false, false, false, false, false, false, false, false, false, false, false, false, false, false, false, false, false, false, true], [false, false, false, true, true, true, true, true, true, true, true, true, true, true, true, true, true, true, true, true, true, true, true, true, true, true, true, true, true, true]] hx hb hr hlocks rfl hP hD rfl (by decide +kernel) hS ⟨iEn, iTk, fX_84, tA, rfl, ⟨hWI, Or.inl ⟨rfl, Or.inr h_10, rfl⟩⟩, trivial⟩ (g_172 bX6_years rfl)
  · refine lv_if_eq (tgt := 24) hx hb dX6_years_9 (by decide +kernel) (fun _ => ?_) (fun h9 => absurd (by decide +kernel) h9)
    refine lv_aload_n hx hb (g_42 bX6_years rfl) rfl (lv_at hl 0 rfl) ?_
    refine lv_bipush (v := (-2)) hx hb dX6_years_25 (by decide +kernel) ?_
    refine cVi (As := [.int (-2)]) (rest := []) (b := qm) (q := (RX6, TX6, 35)) ⟨hx, hb, hml, hown, hts⟩ (c_X6_refuse2 l G cy (s.heap).size qm (.ref qmh) (.ref qmo) (.ref qmz) (.ref qmR) (.ref qmv) (.ref qmk) (.ref qma) (.ref qmt) (.int (nI kZ)) qmr tA qmB qmO qmK iEn iTk (ov uP) (ov uU) (.int (nI kAt)) (.int iTo) (.int iFr) (.long JFi) (.int iFa) (.ref qm3) (.int iSt) iLv iWs vLa (.ref qmu) (.ref qmy) (.ref qmb) (.ref qms) (.int iOm) fMr) L_X6_91 hN hP hD hS hA [0, 4] [false, true, true, true, false, true, true, true, true, true, true, true, true, true, true, true, true, true, true, true, true, true, true, true, true, true, true, true, true, true, true, true] rfl (by decide +kernel) rfl 0 5 rfl rfl rfl ⟨Nat.le_of_ble_eq_true rfl, Nat.le_of_ble_eq_true rfl⟩ hl.1 (Nat.le_of_ble_eq_true rfl) (g_182 (v := 91) bX6_years rfl) ⟨Nat.le_of_ble_eq_true rfl, Nat.le_of_ble_eq_true rfl⟩ (fun r_86 u_88 H locs h_87 => ?_)
    clear hP hD hS
    intro hP hD hS
    obtain ⟨fX_89, hu9, h_87⟩ := h_87
    have hPD := pd_eq [_, _, _, _, _, _, _, _, _, _, _, _, _, _, _, _, _, _, _, _, _, _, _, _, _, _, _, _, _, _, _, zzI cy qmr 8 fX_89] hP hD hu9 rfl
    clear hP hD hu9
    obtain ⟨hP, hD⟩ := hPD
    subst h_87
    exact endWs [[false, false, false, false, false, false, false, false, false, false, false, false, false, false, false, false, false, false, false, false, false, false, false, false, false, false, false, false, false, false, true], [true, true, true, false, false, false, false, false, false, false, false, false, false, false, false, false, false, false, false, false, false, false, false, false, false, false, false, false, false, false, false, true], [false, false, false, true, true, true, true, true, true, true, true, true, true, true, true, true, true, true, true, true, true, true, true, true, true, true, true, true, true, true]] hx hb hr hlocks rfl hP hD rfl (by decide +kernel) hS ⟨iEn, iTk, fX_89, tA, rfl, ⟨hWI, Or.inl ⟨rfl, Or.inl (no_of7 h_3), rfl⟩⟩, trivial⟩ (g_172 bX6_years rfl)
end
section
/-! feed: the bytes as both see them -/
noncomputable def byv (v : Int32) (s : Nat) : Int32 := (v >>> (nI s &&& 31)) &&& 255
theorem by_tab : ∀ j, j < 256 → nrm (nI j).toInt8.toInt32 = nrm (nI j) := by decide +kernel
theorem nrm_byte (x : Int32) : nrm (vp_nar .byte (x.toInt8.toInt32)) = nrm (x &&& 255) := by
  have e1 : vp_nar .byte (x.toInt8.toInt32) = (x.toInt8.toInt32).toInt8.toInt32 := rfl
  have e2 : (x.toInt8.toInt32).toInt8 = x.toInt8 := by simp
  obtain ⟨j, hj, ej⟩ := pk_andE x (m := 255) 8 (by decide +kernel)
  have e3 : x.toInt8 = (x &&& 255).toInt8 := by
    rw [Int32.toInt8_and, show (255 : Int32).toInt8 = -1 by decide +kernel]
    simp
  rw [e1, e2, e3, ej]
  exact by_tab j hj
theorem upd_n {f : Nat → Int32} {k i : Nat} {v : Int32} (h : i ≠ k) : upd f k v i = f i := if_neg h
noncomputable def FDs (f : Nat → Int32) (z : Nat) (v : Int32) (k : Nat) (f' : Nat → Int32) : Prop := ∀ i, i < z + k → nrm (f' i) = if i < z then nrm (f i) else nrm (byv v (8 * (k - 1 - (i - z))))
noncomputable def FD (f : Nat → Int32) (z : Nat) (v n : Int32) (z' : Nat) (f' : Nat → Int32) : Prop := (z' = z ∧ f' = f) ∨ ∃ k, 1 ≤ k ∧ k ≤ 4 ∧ n = nI k ∧ z' = z + k ∧ FDs f z v k f'
theorem fd_s1 {f : Nat → Int32} {z : Nat} {v a : Int32} (ha : nrm a = nrm (byv v 0)) : FDs f z v 1 (upd f z a) := by
  intro i hi
  by_cases c : i < z
  · rw [if_pos c, upd_n (by omega)]
  · have e : i = z := by omega
    subst e
    rw [if_neg c, upd_sJ, ha, show 8 * (1 - 1 - (i - i)) = 0 by omega]
theorem fd_s2 {f : Nat → Int32} {z : Nat} {v a b : Int32} (ha : nrm a = nrm (byv v 8)) (hb : nrm b = nrm (byv v 0)) : FDs f z v 2 (upd (upd f z a) (z + 1) b) := by
  intro i hi
  by_cases c : i < z
  · rw [if_pos c, upd_n (by omega), upd_n (by omega)]
  · rw [if_neg c]
    by_cases e : i = z
    · rw [upd_n (by omega), e, upd_sJ, ha, show 8 * (2 - 1 - (z - z)) = 8 by omega]
    · have e : i = z + 1 := by omega
      rw [e, upd_sJ, hb, show 8 * (2 - 1 - (z + 1 - z)) = 0 by omega]
theorem fd_s3 {f : Nat → Int32} {z : Nat} {v a b d : Int32} (ha : nrm a = nrm (byv v 16)) (hb : nrm b = nrm (byv v 8)) (hd : nrm d = nrm (byv v 0)) : FDs f z v 3 (upd (upd (upd f z a) (z + 1) b) (z + 1 + 1) d) := by
  intro i hi
  by_cases c : i < z
  · rw [if_pos c, upd_n (by omega), upd_n (by omega), upd_n (by omega)]
  · rw [if_neg c]
    by_cases e : i = z
    · rw [upd_n (by omega), upd_n (by omega), e, upd_sJ, ha, show 8 * (3 - 1 - (z - z)) = 16 by omega]
    · by_cases e2 : i = z + 1
      · rw [upd_n (by omega), e2, upd_sJ, hb, show 8 * (3 - 1 - (z + 1 - z)) = 8 by omega]
      · have e3 : i = z + 1 + 1 := by omega
        rw [e3, upd_sJ, hd, show 8 * (3 - 1 - (z + 1 + 1 - z)) = 0 by omega]
theorem fd_s4 {f : Nat → Int32} {z : Nat} {v a b d g : Int32} (ha : nrm a = nrm (byv v 24)) (hb : nrm b = nrm (byv v 16)) (hd : nrm d = nrm (byv v 8)) (hg : nrm g = nrm (byv v 0)) : FDs f z v 4 (upd (upd (upd (upd f z a) (z + 1) b) (z + 1 + 1) d) (z + 1 + 1 + 1) g) := by
  intro i hi
  by_cases c : i < z
  · rw [if_pos c, upd_n (by omega), upd_n (by omega), upd_n (by omega), upd_n (by omega)]
  · rw [if_neg c]
    by_cases e : i = z
    · rw [upd_n (by omega), upd_n (by omega), upd_n (by omega), e, upd_sJ, ha, show 8 * (4 - 1 - (z - z)) = 24 by omega]
    · by_cases e2 : i = z + 1
      · rw [upd_n (by omega), upd_n (by omega), e2, upd_sJ, hb, show 8 * (4 - 1 - (z + 1 - z)) = 16 by omega]
      · by_cases e3 : i = z + 1 + 1
        · rw [upd_n (by omega), e3, upd_sJ, hd, show 8 * (4 - 1 - (z + 1 + 1 - z)) = 8 by omega]
        · have e4 : i = z + 1 + 1 + 1 := by omega
          rw [e4, upd_sJ, hg, show 8 * (4 - 1 - (z + 1 + 1 + 1 - z)) = 0 by omega]
theorem fd_rel {fB fM fB' fM' : Nat → Int32} {z z1 : Nat} {v n : Int32} (h1 : FD fB z v n z1 fB') (h2 : FD fM z v n z1 fM') (h : nbf fB z = nbf fM z) : nbf fB' z1 = nbf fM' z1 := by
  rcases h1 with ⟨e1, rfl⟩ | ⟨k, k1, k2, ek, ez, hs⟩
  · rcases h2 with ⟨_, rfl⟩ | ⟨k, k1, _, _, ez, _⟩
    · rw [e1]; exact h
    · omega
  · rcases h2 with ⟨e2, _⟩ | ⟨m, m1, m2, em, ez2, hs2⟩
    · omega
    · have e : k = m := by omega
      subst e
      rw [ez]
      funext i
      by_cases c : i < z + k
      · rw [nbf_in c, nbf_in c, hs i c, hs2 i c]
        by_cases c2 : i < z
        · have q := congrFun h i
          rw [nbf_in c2, nbf_in c2] at q
          rw [if_pos c2, if_pos c2, q]
        · rw [if_neg c2, if_neg c2]
      · show (if i < z + k then nrm (fB' i) else 128) = if i < z + k then nrm (fM' i) else 128
        rw [if_neg c, if_neg c]
set_option maxHeartbeats 4000000 in
set_option maxRecDepth 100000 in
theorem x_X5_feed (l : Launch) (G : va_G) (cy : Nat → ClassId) (sz : Nat) (qx : Nat) (qt : Nat) (qk : Nat) (qp : Nat) (qs : Nat) (qa : Nat) (qr : Nat) (iKp : Int32) (iYe : Int32) (iTv : Int32) (fR : Nat → Int32) (qab : Nat) (kZ : Nat) (iT1 : Int32) (iT2 : Int32) (iT3 : Int32) (iT4 : Int32) (qd : Nat) (fB : Nat → Int32) (iA : Int32) (iB : Int32)  (hZ : kZ ≤ 250) : MW l yX5_feed cX5_feed 4 (some .int) 12 0 0 G cy [zzO qx 4 [.ref qt, .ref qk, .ref qp, .ref qs, .ref qa, .ref qr, .int iKp, .int iYe, .int iTv], zzI cy qr 5 fR, zzO qa 2 [.ref qab, .int (nI kZ), .int iT1, .int iT2, .int iT3, .int iT4, .ref qd], zzB cy qab 250 fB] sz [.ref qx, .int iA, .int iB] (Wi G (fun r u => ∃ (fX : Nat → Int32) (kY : Nat) (iX4 : Int32) (iX5 : Int32) (iX6 : Int32) (iX7 : Int32) (fV : Nat → Int32), u = [zzO qx 4 [.ref qt, .ref qk, .ref qp, .ref qs, .ref qa, .ref qr, .int iKp, .int iYe, .int iTv], zzI cy qr 5 fX, zzO qa 2 [.ref qab, .int (nI kY), .int iX4, .int iX5, .int iX6, .int iX7, .ref qd], zzB cy qab 250 fV] ∧ (PXfeed kZ iB r kY ∧ FD fB kZ iA iB kY fV) ∧ (True))) := by
  refine enW RX5 (by decide +kernel) rfl (Nat.le_of_ble_eq_true rfl) (fun p e s m below meth c ls A hx hb hml hown hts hr hlocks hP hN hl hin hD hA hS => ?_)
  have hin : meth.name = _ := hin
  have hK := hN.1
  replace hl : lv_has ls 4 [(0, .ref qx), (1, .int iA), (2, .int iB)] := hl
  refine lv_iload_n hx hb (g_28 bX5_feed rfl) rfl (lv_at hl 2 rfl) ?_
  refine lv_i2l (v := iB.toInt64) hx hb (g_133 bX5_feed rfl) rfl ?_
  refine lv_lconst (v := 1) hx hb (g_10 bX5_feed rfl) (by decide +kernel) ?_
  refine lv_ldc2 hx hb hown (hts _ m_t213) (g_20 (v := 48) bX5_feed rfl) ?_
  refine kRi (rS (As := [.long iB.toInt64, .long 1, .long 4]) (rest := []) ⟨hx, hb, hml, hown, hts⟩ (c_X5_within l G cy iB.toInt64 1 4) L_X5_50 (preRS hN hP [] rfl) rfl ⟨Nat.le_of_ble_eq_true rfl, Nat.le_of_ble_eq_true rfl⟩ hl.1 (Nat.le_of_ble_eq_true rfl) (g_184 (v := 50) bX5_feed rfl) ⟨Nat.le_of_ble_eq_true rfl, Nat.le_of_ble_eq_true rfl⟩) (fun r_1 h_2 => ?_)
  rcases h_2 with ⟨rfl, h_3⟩ | ⟨rfl, h_3⟩
  · refine lv_if_ne (tgt := 19) hx hb dX5_feed_9 (by decide +kernel) (fun _ => ?_) (fun h9 => absurd h9 (by decide +kernel))
    rcases in14 h_3 with rfl | rfl | rfl | rfl
    · refine lv_aload_n hx hb (g_42 bX5_feed rfl) rfl (lv_at hl 0 rfl) ?_
      refine va_get (D := G) (ci := 4) (v := .ref qa) (C := RX5) (T := TX5) (N := 9) hx hb hts iX_X5 hown hK hP 0 rfl rfl 4 (by decide +kernel) (hts _ m_t178) (fun _ h9 => h9) rfl (g_180 (v := 36) bX5_feed rfl) ?_
      refine va_getN (D := G) (ci := 2) (v := .int (nI kZ)) (C := RX3) (T := TX3) (N := 7) hx hb hts iX_X3 hown hK hP 2 rfl rfl 1 (by decide +kernel) (va_Nw.use rfl (hN.2.1 (RX5, 148, "EachBookOnce$Tape", "size", "I") (List.mem_of_getElem? (i := 29) rfl))) (fun _ h9 => h9) rfl (g_180 (v := 148) bX5_feed rfl) ?_
      refine lv_sipush (v := 250) hx hb dX5_feed_26 (by decide +kernel) ?_
      refine lv_iload_n hx hb (g_28 bX5_feed rfl) rfl (lv_at hl 2 rfl) ?_
      refine lv_isub hx hb (g_100 bX5_feed rfl) ?_
      refine lv_seti (v := 249) (by decide +kernel) ?_
      refine lv_icmp_le (tgt := 41) hx hb dX5_feed_31 (by decide +kernel) (fun c_5 => ?_) (fun c_5 => ?_)
      · have hfd : kZ + 1 ≤ 250 := fd_yes (k := 1) (by omega) (by omega) c_5
        refine lv_bipush (v := 8) hx hb dX5_feed_41 (by decide +kernel) ?_
        refine lv_iload_n hx hb (g_28 bX5_feed rfl) rfl (lv_at hl 2 rfl) ?_
        refine lv_iconst (v := 1) hx hb (g_4 bX5_feed rfl) (by decide +kernel) ?_
        refine lv_isub hx hb (g_100 bX5_feed rfl) ?_
        refine lv_seti (v := 0) (by decide +kernel) ?_
        refine lv_imul hx hb (g_104 bX5_feed rfl) ?_
        refine lv_seti (v := 0) (by decide +kernel) ?_
        refine lv_istore_n (lv' := [(3, .int 0), (0, .ref qx), (1, .int iA), (2, .int 1)]) hx hb (g_62 bX5_feed rfl) rfl hl (by decide +kernel) rfl (fun ls => ?_)
        clear hl
        intro hl
        refine lv_iload_n hx hb (g_29 bX5_feed rfl) rfl (lv_at hl 0 rfl) ?_
        refine lv_if_lt (tgt := 69) hx hb dX5_feed_49 (by decide +kernel) (fun h9 => absurd h9 (by decide +kernel)) (fun _ => ?_)
        refine lv_aload_n hx hb (g_42 bX5_feed rfl) rfl (lv_at hl 1 rfl) ?_
        refine va_get (D := G) (ci := 4) (v := .ref qa) (C := RX5) (T := TX5) (N := 9) hx hb hts iX_X5 hown hK hP 0 rfl rfl 4 (by decide +kernel) (hts _ m_t178) (fun _ h9 => h9) rfl (g_180 (v := 36) bX5_feed rfl) ?_
        refine lv_iload_n hx hb (g_27 bX5_feed rfl) rfl (lv_at hl 2 rfl) ?_
        refine lv_iload_n hx hb (g_29 bX5_feed rfl) rfl (lv_at hl 0 rfl) ?_
        refine lv_ishr hx hb (g_122 bX5_feed rfl) ?_
        refine lv_i2b (v := (iA >>> (0 &&& 31)).toInt8.toInt32) hx hb (g_145 bX5_feed rfl) rfl ?_
        refine cVv (As := [.int ((iA >>> (0 &&& 31)).toInt8.toInt32)]) (rest := []) (b := qa) (q := (RX3, TX3, 7)) ⟨hx, hb, hml, hown, hts⟩ (c_X3_append l G cy (s.heap).size qa qab kZ (.int iT1) (.int iT2) (.int iT3) (.int iT4) (.ref qd) fB ((iA >>> (0 &&& 31)).toInt8.toInt32) (by omega)) L_X5_150 hN hP hD hS hA [2, 3] [true, true, false, false] rfl (by decide +kernel) rfl 2 2 rfl rfl rfl ⟨Nat.le_of_ble_eq_true rfl, Nat.le_of_ble_eq_true rfl⟩ hl.1 (Nat.le_of_ble_eq_true rfl) (g_182 (v := 150) bX5_feed rfl) ⟨Nat.le_of_ble_eq_true rfl, Nat.le_of_ble_eq_true rfl⟩ (fun u_9 H locs h_8 => ?_)
        clear hP hD hS
        intro hP hD hS
        have hPD := pd_eq [_, _, zzO qa 2 [.ref qab, .int (nI (kZ + 1)), .int iT1, .int iT2, .int iT3, .int iT4, .ref qd], zzB cy qab 250 (upd fB kZ (vp_nar .byte ((iA >>> (0 &&& 31)).toInt8.toInt32)))] hP hD h_8 rfl
        clear hP hD h_8
        obtain ⟨hP, hD⟩ := hPD
        refine lv_iinc (v := (-8)) (lv' := [(3, .int (-8)), (0, .ref qx), (1, .int iA), (2, .int 1)]) hx hb dX5_feed_63 hl (k := 0) rfl (by decide +kernel) (by decide +kernel) rfl (fun ls => ?_)
        clear hl
        intro hl
        refine lv_goto (tgt := 48) hx hb dX5_feed_66 (by decide +kernel) ?_
        refine lv_iload_n hx hb (g_29 bX5_feed rfl) rfl (lv_at hl 0 rfl) ?_
        refine lv_if_lt (tgt := 69) hx hb dX5_feed_49 (by decide +kernel) (fun _ => ?_) (fun h9 => absurd (by decide +kernel) h9)
        refine lv_aload_n hx hb (g_42 bX5_feed rfl) rfl (lv_at hl 1 rfl) ?_
        refine va_get (D := G) (ci := 4) (v := .ref qa) (C := RX5) (T := TX5) (N := 9) hx hb hts iX_X5 hown hK hP 0 rfl rfl 4 (by decide +kernel) (hts _ m_t178) (fun _ h9 => h9) rfl (g_180 (v := 36) bX5_feed rfl) ?_
        refine va_getN (D := G) (ci := 2) (v := .int (nI (kZ + 1))) (C := RX3) (T := TX3) (N := 7) hx hb hts iX_X3 hown hK hP 2 rfl rfl 1 (by decide +kernel) (va_Nw.use rfl (hN.2.1 (RX5, 148, "EachBookOnce$Tape", "size", "I") (List.mem_of_getElem? (i := 29) rfl))) (fun _ h9 => h9) rfl (g_180 (v := 148) bX5_feed rfl) ?_
        exact endWs [[true, true, true, true]] hx hb hr hlocks rfl hP hD rfl (by decide +kernel) hS ⟨fR, (kZ + 1), iT1, iT2, iT3, iT4, upd fB kZ (vp_nar .byte ((iA >>> (0 &&& 31)).toInt8.toInt32)), rfl, ⟨Or.inr ⟨1, by omega, by omega, rfl, Or.inr ⟨rfl, fd_yes (k := 1) (by omega) (by omega) c_5, rfl⟩⟩, Or.inr ⟨1, by omega, by omega, rfl, rfl, fd_s1 (nrm_byte _)⟩⟩, trivial⟩ (g_172 bX5_feed rfl)
      · refine lv_aload_n hx hb (g_42 bX5_feed rfl) rfl (lv_at hl 0 rfl) ?_
        refine lv_bipush (v := (-6)) hx hb dX5_feed_35 (by decide +kernel) ?_
        refine cVi (As := [.int (-6)]) (rest := []) (b := qx) (q := (RX5, TX5, 9)) ⟨hx, hb, hml, hown, hts⟩ (c_X5_refuse6 l G cy (s.heap).size qx qt qk qp qs qa qr iKp iYe iTv fR) L_X5_56 hN hP hD hS hA [0, 1] [false, false, true, true] rfl (by decide +kernel) rfl 0 4 rfl rfl rfl ⟨Nat.le_of_ble_eq_true rfl, Nat.le_of_ble_eq_true rfl⟩ hl.1 (Nat.le_of_ble_eq_true rfl) (g_182 (v := 56) bX5_feed rfl) ⟨Nat.le_of_ble_eq_true rfl, Nat.le_of_ble_eq_true rfl⟩ (fun r_11 u_13 H locs h_12 => ?_)
        clear hP hD hS
        intro hP hD hS
        obtain ⟨fX_14, hu9, h_12⟩ := h_12
        have hPD := pd_eq [_, _, _, zzI cy qr 5 fX_14] hP hD hu9 rfl
        clear hP hD hu9
        obtain ⟨hP, hD⟩ := hPD
        subst h_12
        exact endWs [[false, false, true, true], [true, true]] hx hb hr hlocks rfl hP hD rfl (by decide +kernel) hS ⟨fX_14, kZ, iT1, iT2, iT3, iT4, fB, rfl, ⟨Or.inr ⟨1, by omega, by omega, rfl, Or.inl ⟨rfl, fd_no (k := 1) (by omega) (by omega) c_5, rfl⟩⟩, Or.inl ⟨rfl, rfl⟩⟩, trivial⟩ (g_172 bX5_feed rfl)
    · refine lv_aload_n hx hb (g_42 bX5_feed rfl) rfl (lv_at hl 0 rfl) ?_
      refine va_get (D := G) (ci := 4) (v := .ref qa) (C := RX5) (T := TX5) (N := 9) hx hb hts iX_X5 hown hK hP 0 rfl rfl 4 (by decide +kernel) (hts _ m_t178) (fun _ h9 => h9) rfl (g_180 (v := 36) bX5_feed rfl) ?_
      refine va_getN (D := G) (ci := 2) (v := .int (nI kZ)) (C := RX3) (T := TX3) (N := 7) hx hb hts iX_X3 hown hK hP 2 rfl rfl 1 (by decide +kernel) (va_Nw.use rfl (hN.2.1 (RX5, 148, "EachBookOnce$Tape", "size", "I") (List.mem_of_getElem? (i := 29) rfl))) (fun _ h9 => h9) rfl (g_180 (v := 148) bX5_feed rfl) ?_
      refine lv_sipush (v := 250) hx hb dX5_feed_26 (by decide +kernel) ?_
      refine lv_iload_n hx hb (g_28 bX5_feed rfl) rfl (lv_at hl 2 rfl) ?_
      refine lv_isub hx hb (g_100 bX5_feed rfl) ?_
      refine lv_seti (v := 248) (by decide +kernel) ?_
      refine lv_icmp_le (tgt := 41) hx hb dX5_feed_31 (by decide +kernel) (fun c_15 => ?_) (fun c_15 => ?_)
      · have hfd : kZ + 2 ≤ 250 := fd_yes (k := 2) (by omega) (by omega) c_15
        refine lv_bipush (v := 8) hx hb dX5_feed_41 (by decide +kernel) ?_
        refine lv_iload_n hx hb (g_28 bX5_feed rfl) rfl (lv_at hl 2 rfl) ?_
        refine lv_iconst (v := 1) hx hb (g_4 bX5_feed rfl) (by decide +kernel) ?_
        refine lv_isub hx hb (g_100 bX5_feed rfl) ?_
        refine lv_seti (v := 1) (by decide +kernel) ?_
        refine lv_imul hx hb (g_104 bX5_feed rfl) ?_
        refine lv_seti (v := 8) (by decide +kernel) ?_
        refine lv_istore_n (lv' := [(3, .int 8), (0, .ref qx), (1, .int iA), (2, .int 2)]) hx hb (g_62 bX5_feed rfl) rfl hl (by decide +kernel) rfl (fun ls => ?_)
        clear hl
        intro hl
        refine lv_iload_n hx hb (g_29 bX5_feed rfl) rfl (lv_at hl 0 rfl) ?_
        refine lv_if_lt (tgt := 69) hx hb dX5_feed_49 (by decide +kernel) (fun h9 => absurd h9 (by decide +kernel)) (fun _ => ?_)
        refine lv_aload_n hx hb (g_42 bX5_feed rfl) rfl (lv_at hl 1 rfl) ?_
        refine va_get (D := G) (ci := 4) (v := .ref qa) (C := RX5) (T := TX5) (N := 9) hx hb hts iX_X5 hown hK hP 0 rfl rfl 4 (by decide +kernel) (hts _ m_t178) (fun _ h9 => h9) rfl (g_180 (v := 36) bX5_feed rfl) ?_
        refine lv_iload_n hx hb (g_27 bX5_feed rfl) rfl (lv_at hl 2 rfl) ?_
        refine lv_iload_n hx hb (g_29 bX5_feed rfl) rfl (lv_at hl 0 rfl) ?_
        refine lv_ishr hx hb (g_122 bX5_feed rfl) ?_
        refine lv_i2b (v := (iA >>> (8 &&& 31)).toInt8.toInt32) hx hb (g_145 bX5_feed rfl) rfl ?_
        refine cVv (As := [.int ((iA >>> (8 &&& 31)).toInt8.toInt32)]) (rest := []) (b := qa) (q := (RX3, TX3, 7)) ⟨hx, hb, hml, hown, hts⟩ (c_X3_append l G cy (s.heap).size qa qab kZ (.int iT1) (.int iT2) (.int iT3) (.int iT4) (.ref qd) fB ((iA >>> (8 &&& 31)).toInt8.toInt32) (by omega)) L_X5_150 hN hP hD hS hA [2, 3] [true, true, false, false] rfl (by decide +kernel) rfl 2 2 rfl rfl rfl ⟨Nat.le_of_ble_eq_true rfl, Nat.le_of_ble_eq_true rfl⟩ hl.1 (Nat.le_of_ble_eq_true rfl) (g_182 (v := 150) bX5_feed rfl) ⟨Nat.le_of_ble_eq_true rfl, Nat.le_of_ble_eq_true rfl⟩ (fun u_19 H locs h_18 => ?_)
        clear hP hD hS
        intro hP hD hS
        have hPD := pd_eq [_, _, _, zzB cy qab 250 (upd fB kZ (vp_nar .byte ((iA >>> (8 &&& 31)).toInt8.toInt32)))] hP hD h_18 rfl
        clear hP hD h_18
        obtain ⟨hP, hD⟩ := hPD
        refine lv_iinc (v := 0) (lv' := [(3, .int 0), (0, .ref qx), (1, .int iA), (2, .int 2)]) hx hb dX5_feed_63 hl (k := 0) rfl (by decide +kernel) (by decide +kernel) rfl (fun ls => ?_)
        clear hl
        intro hl
        refine lv_goto (tgt := 48) hx hb dX5_feed_66 (by decide +kernel) ?_
        refine lv_iload_n hx hb (g_29 bX5_feed rfl) rfl (lv_at hl 0 rfl) ?_
        refine lv_if_lt (tgt := 69) hx hb dX5_feed_49 (by decide +kernel) (fun h9 => absurd h9 (by decide +kernel)) (fun _ => ?_)
        refine lv_aload_n hx hb (g_42 bX5_feed rfl) rfl (lv_at hl 1 rfl) ?_
        refine va_get (D := G) (ci := 4) (v := .ref qa) (C := RX5) (T := TX5) (N := 9) hx hb hts iX_X5 hown hK hP 0 rfl rfl 4 (by decide +kernel) (hts _ m_t178) (fun _ h9 => h9) rfl (g_180 (v := 36) bX5_feed rfl) ?_
        refine lv_iload_n hx hb (g_27 bX5_feed rfl) rfl (lv_at hl 2 rfl) ?_
        refine lv_iload_n hx hb (g_29 bX5_feed rfl) rfl (lv_at hl 0 rfl) ?_
        refine lv_ishr hx hb (g_122 bX5_feed rfl) ?_
        refine lv_i2b (v := (iA >>> (0 &&& 31)).toInt8.toInt32) hx hb (g_145 bX5_feed rfl) rfl ?_
        refine cVv (As := [.int ((iA >>> (0 &&& 31)).toInt8.toInt32)]) (rest := []) (b := qa) (q := (RX3, TX3, 7)) ⟨hx, hb, hml, hown, hts⟩ (c_X3_append l G cy (H).size qa qab (kZ + 1) (.int iT1) (.int iT2) (.int iT3) (.int iT4) (.ref qd) (upd fB kZ (vp_nar .byte ((iA >>> (8 &&& 31)).toInt8.toInt32))) ((iA >>> (0 &&& 31)).toInt8.toInt32) (by omega)) L_X5_150 hN hP hD hS hA [2, 3] [true, true, false, false] rfl (by decide +kernel) rfl 2 2 rfl rfl rfl ⟨Nat.le_of_ble_eq_true rfl, Nat.le_of_ble_eq_true rfl⟩ hl.1 (Nat.le_of_ble_eq_true rfl) (g_182 (v := 150) bX5_feed rfl) ⟨Nat.le_of_ble_eq_true rfl, Nat.le_of_ble_eq_true rfl⟩ (fun u_23 H locs h_22 => ?_)
        clear hP hD hS
        intro hP hD hS
        have hPD := pd_eq [_, _, zzO qa 2 [.ref qab, .int (nI ((kZ + 1) + 1)), .int iT1, .int iT2, .int iT3, .int iT4, .ref qd], zzB cy qab 250 (upd (upd fB kZ (vp_nar .byte ((iA >>> (8 &&& 31)).toInt8.toInt32))) (kZ + 1) (vp_nar .byte ((iA >>> (0 &&& 31)).toInt8.toInt32)))] hP hD h_22 rfl
        clear hP hD h_22
        obtain ⟨hP, hD⟩ := hPD
        refine lv_iinc (v := (-8)) (lv' := [(3, .int (-8)), (0, .ref qx), (1, .int iA), (2, .int 2)]) hx hb dX5_feed_63 hl (k := 0) rfl (by decide +kernel) (by decide +kernel) rfl (fun ls => ?_)
        clear hl
        intro hl
        refine lv_goto (tgt := 48) hx hb dX5_feed_66 (by decide +kernel) ?_
        refine lv_iload_n hx hb (g_29 bX5_feed rfl) rfl (lv_at hl 0 rfl) ?_
        refine lv_if_lt (tgt := 69) hx hb dX5_feed_49 (by decide +kernel) (fun _ => ?_) (fun h9 => absurd (by decide +kernel) h9)
        refine lv_aload_n hx hb (g_42 bX5_feed rfl) rfl (lv_at hl 1 rfl) ?_
        refine va_get (D := G) (ci := 4) (v := .ref qa) (C := RX5) (T := TX5) (N := 9) hx hb hts iX_X5 hown hK hP 0 rfl rfl 4 (by decide +kernel) (hts _ m_t178) (fun _ h9 => h9) rfl (g_180 (v := 36) bX5_feed rfl) ?_
        refine va_getN (D := G) (ci := 2) (v := .int (nI ((kZ + 1) + 1))) (C := RX3) (T := TX3) (N := 7) hx hb hts iX_X3 hown hK hP 2 rfl rfl 1 (by decide +kernel) (va_Nw.use rfl (hN.2.1 (RX5, 148, "EachBookOnce$Tape", "size", "I") (List.mem_of_getElem? (i := 29) rfl))) (fun _ h9 => h9) rfl (g_180 (v := 148) bX5_feed rfl) ?_
        exact endWs [[true, true, true, true]] hx hb hr hlocks rfl hP hD rfl (by decide +kernel) hS ⟨fR, ((kZ + 1) + 1), iT1, iT2, iT3, iT4, upd (upd fB kZ (vp_nar .byte ((iA >>> (8 &&& 31)).toInt8.toInt32))) (kZ + 1) (vp_nar .byte ((iA >>> (0 &&& 31)).toInt8.toInt32)), rfl, ⟨Or.inr ⟨2, by omega, by omega, rfl, Or.inr ⟨rfl, fd_yes (k := 2) (by omega) (by omega) c_15, rfl⟩⟩, Or.inr ⟨2, by omega, by omega, rfl, rfl, fd_s2 (nrm_byte _) (nrm_byte _)⟩⟩, trivial⟩ (g_172 bX5_feed rfl)
      · refine lv_aload_n hx hb (g_42 bX5_feed rfl) rfl (lv_at hl 0 rfl) ?_
        refine lv_bipush (v := (-6)) hx hb dX5_feed_35 (by decide +kernel) ?_
        refine cVi (As := [.int (-6)]) (rest := []) (b := qx) (q := (RX5, TX5, 9)) ⟨hx, hb, hml, hown, hts⟩ (c_X5_refuse6 l G cy (s.heap).size qx qt qk qp qs qa qr iKp iYe iTv fR) L_X5_56 hN hP hD hS hA [0, 1] [false, false, true, true] rfl (by decide +kernel) rfl 0 4 rfl rfl rfl ⟨Nat.le_of_ble_eq_true rfl, Nat.le_of_ble_eq_true rfl⟩ hl.1 (Nat.le_of_ble_eq_true rfl) (g_182 (v := 56) bX5_feed rfl) ⟨Nat.le_of_ble_eq_true rfl, Nat.le_of_ble_eq_true rfl⟩ (fun r_25 u_27 H locs h_26 => ?_)
        clear hP hD hS
        intro hP hD hS
        obtain ⟨fX_28, hu9, h_26⟩ := h_26
        have hPD := pd_eq [_, _, _, zzI cy qr 5 fX_28] hP hD hu9 rfl
        clear hP hD hu9
        obtain ⟨hP, hD⟩ := hPD
        subst h_26
        exact endWs [[false, false, true, true], [true, true]] hx hb hr hlocks rfl hP hD rfl (by decide +kernel) hS ⟨fX_28, kZ, iT1, iT2, iT3, iT4, fB, rfl, ⟨Or.inr ⟨2, by omega, by omega, rfl, Or.inl ⟨rfl, fd_no (k := 2) (by omega) (by omega) c_15, rfl⟩⟩, Or.inl ⟨rfl, rfl⟩⟩, trivial⟩ (g_172 bX5_feed rfl)
    · refine lv_aload_n hx hb (g_42 bX5_feed rfl) rfl (lv_at hl 0 rfl) ?_
      refine va_get (D := G) (ci := 4) (v := .ref qa) (C := RX5) (T := TX5) (N := 9) hx hb hts iX_X5 hown hK hP 0 rfl rfl 4 (by decide +kernel) (hts _ m_t178) (fun _ h9 => h9) rfl (g_180 (v := 36) bX5_feed rfl) ?_
      refine va_getN (D := G) (ci := 2) (v := .int (nI kZ)) (C := RX3) (T := TX3) (N := 7) hx hb hts iX_X3 hown hK hP 2 rfl rfl 1 (by decide +kernel) (va_Nw.use rfl (hN.2.1 (RX5, 148, "EachBookOnce$Tape", "size", "I") (List.mem_of_getElem? (i := 29) rfl))) (fun _ h9 => h9) rfl (g_180 (v := 148) bX5_feed rfl) ?_
      refine lv_sipush (v := 250) hx hb dX5_feed_26 (by decide +kernel) ?_
      refine lv_iload_n hx hb (g_28 bX5_feed rfl) rfl (lv_at hl 2 rfl) ?_
      refine lv_isub hx hb (g_100 bX5_feed rfl) ?_
      refine lv_seti (v := 247) (by decide +kernel) ?_
      refine lv_icmp_le (tgt := 41) hx hb dX5_feed_31 (by decide +kernel) (fun c_29 => ?_) (fun c_29 => ?_)
      · have hfd : kZ + 3 ≤ 250 := fd_yes (k := 3) (by omega) (by omega) c_29
        refine lv_bipush (v := 8) hx hb dX5_feed_41 (by decide +kernel) ?_
        refine lv_iload_n hx hb (g_28 bX5_feed rfl) rfl (lv_at hl 2 rfl) ?_
        refine lv_iconst (v := 1) hx hb (g_4 bX5_feed rfl) (by decide +kernel) ?_
        refine lv_isub hx hb (g_100 bX5_feed rfl) ?_
        refine lv_seti (v := 2) (by decide +kernel) ?_
        refine lv_imul hx hb (g_104 bX5_feed rfl) ?_
        refine lv_seti (v := 16) (by decide +kernel) ?_
        refine lv_istore_n (lv' := [(3, .int 16), (0, .ref qx), (1, .int iA), (2, .int 3)]) hx hb (g_62 bX5_feed rfl) rfl hl (by decide +kernel) rfl (fun ls => ?_)
        clear hl
        intro hl
        refine lv_iload_n hx hb (g_29 bX5_feed rfl) rfl (lv_at hl 0 rfl) ?_
        refine lv_if_lt (tgt := 69) hx hb dX5_feed_49 (by decide +kernel) (fun h9 => absurd h9 (by decide +kernel)) (fun _ => ?_)
        refine lv_aload_n hx hb (g_42 bX5_feed rfl) rfl (lv_at hl 1 rfl) ?_
        refine va_get (D := G) (ci := 4) (v := .ref qa) (C := RX5) (T := TX5) (N := 9) hx hb hts iX_X5 hown hK hP 0 rfl rfl 4 (by decide +kernel) (hts _ m_t178) (fun _ h9 => h9) rfl (g_180 (v := 36) bX5_feed rfl) ?_
        refine lv_iload_n hx hb (g_27 bX5_feed rfl) rfl (lv_at hl 2 rfl) ?_
        refine lv_iload_n hx hb (g_29 bX5_feed rfl) rfl (lv_at hl 0 rfl) ?_
        refine lv_ishr hx hb (g_122 bX5_feed rfl) ?_
        refine lv_i2b (v := (iA >>> (16 &&& 31)).toInt8.toInt32) hx hb (g_145 bX5_feed rfl) rfl ?_
        refine cVv (As := [.int ((iA >>> (16 &&& 31)).toInt8.toInt32)]) (rest := []) (b := qa) (q := (RX3, TX3, 7)) ⟨hx, hb, hml, hown, hts⟩ (c_X3_append l G cy (s.heap).size qa qab kZ (.int iT1) (.int iT2) (.int iT3) (.int iT4) (.ref qd) fB ((iA >>> (16 &&& 31)).toInt8.toInt32) (by omega)) L_X5_150 hN hP hD hS hA [2, 3] [true, true, false, false] rfl (by decide +kernel) rfl 2 2 rfl rfl rfl ⟨Nat.le_of_ble_eq_true rfl, Nat.le_of_ble_eq_true rfl⟩ hl.1 (Nat.le_of_ble_eq_true rfl) (g_182 (v := 150) bX5_feed rfl) ⟨Nat.le_of_ble_eq_true rfl, Nat.le_of_ble_eq_true rfl⟩ (fun u_33 H locs h_32 => ?_)
        clear hP hD hS
        intro hP hD hS
        have hPD := pd_eq [_, _, _, zzB cy qab 250 (upd fB kZ (vp_nar .byte ((iA >>> (16 &&& 31)).toInt8.toInt32)))] hP hD h_32 rfl
        clear hP hD h_32
        obtain ⟨hP, hD⟩ := hPD
        refine lv_iinc (v := 8) (lv' := [(3, .int 8), (0, .ref qx), (1, .int iA), (2, .int 3)]) hx hb dX5_feed_63 hl (k := 0) rfl (by decide +kernel) (by decide +kernel) rfl (fun ls => ?_)
        clear hl
        intro hl
        refine lv_goto (tgt := 48) hx hb dX5_feed_66 (by decide +kernel) ?_
        refine lv_iload_n hx hb (g_29 bX5_feed rfl) rfl (lv_at hl 0 rfl) ?_
        refine lv_if_lt (tgt := 69) hx hb dX5_feed_49 (by decide +kernel) (fun h9 => absurd h9 (by decide +kernel)) (fun _ => ?_)
        refine lv_aload_n hx hb (g_42 bX5_feed rfl) rfl (lv_at hl 1 rfl) ?_
        refine va_get (D := G) (ci := 4) (v := .ref qa) (C := RX5) (T := TX5) (N := 9) hx hb hts iX_X5 hown hK hP 0 rfl rfl 4 (by decide +kernel) (hts _ m_t178) (fun _ h9 => h9) rfl (g_180 (v := 36) bX5_feed rfl) ?_
        refine lv_iload_n hx hb (g_27 bX5_feed rfl) rfl (lv_at hl 2 rfl) ?_
        refine lv_iload_n hx hb (g_29 bX5_feed rfl) rfl (lv_at hl 0 rfl) ?_
        refine lv_ishr hx hb (g_122 bX5_feed rfl) ?_
        refine lv_i2b (v := (iA >>> (8 &&& 31)).toInt8.toInt32) hx hb (g_145 bX5_feed rfl) rfl ?_
        refine cVv (As := [.int ((iA >>> (8 &&& 31)).toInt8.toInt32)]) (rest := []) (b := qa) (q := (RX3, TX3, 7)) ⟨hx, hb, hml, hown, hts⟩ (c_X3_append l G cy (H).size qa qab (kZ + 1) (.int iT1) (.int iT2) (.int iT3) (.int iT4) (.ref qd) (upd fB kZ (vp_nar .byte ((iA >>> (16 &&& 31)).toInt8.toInt32))) ((iA >>> (8 &&& 31)).toInt8.toInt32) (by omega)) L_X5_150 hN hP hD hS hA [2, 3] [true, true, false, false] rfl (by decide +kernel) rfl 2 2 rfl rfl rfl ⟨Nat.le_of_ble_eq_true rfl, Nat.le_of_ble_eq_true rfl⟩ hl.1 (Nat.le_of_ble_eq_true rfl) (g_182 (v := 150) bX5_feed rfl) ⟨Nat.le_of_ble_eq_true rfl, Nat.le_of_ble_eq_true rfl⟩ (fun u_37 H locs h_36 => ?_)
        clear hP hD hS
        intro hP hD hS
        have hPD := pd_eq [_, _, _, zzB cy qab 250 (upd (upd fB kZ (vp_nar .byte ((iA >>> (16 &&& 31)).toInt8.toInt32))) (kZ + 1) (vp_nar .byte ((iA >>> (8 &&& 31)).toInt8.toInt32)))] hP hD h_36 rfl
        clear hP hD h_36
        obtain ⟨hP, hD⟩ := hPD
        refine lv_iinc (v := 0) (lv' := [(3, .int 0), (0, .ref qx), (1, .int iA), (2, .int 3)]) hx hb dX5_feed_63 hl (k := 0) rfl (by decide +kernel) (by decide +kernel) rfl (fun ls => ?_)
        clear hl
        intro hl
        refine lv_goto (tgt := 48) hx hb dX5_feed_66 (by decide +kernel) ?_
        refine lv_iload_n hx hb (g_29 bX5_feed rfl) rfl (lv_at hl 0 rfl) ?_
        refine lv_if_lt (tgt := 69) hx hb dX5_feed_49 (by decide +kernel) (fun h9 => absurd h9 (by decide +kernel)) (fun _ => ?_)
        refine lv_aload_n hx hb (g_42 bX5_feed rfl) rfl (lv_at hl 1 rfl) ?_
        refine va_get (D := G) (ci := 4) (v := .ref qa) (C := RX5) (T := TX5) (N := 9) hx hb hts iX_X5 hown hK hP 0 rfl rfl 4 (by decide +kernel) (hts _ m_t178) (fun _ h9 => h9) rfl (g_180 (v := 36) bX5_feed rfl) ?_
        refine lv_iload_n hx hb (g_27 bX5_feed rfl) rfl (lv_at hl 2 rfl) ?_
        refine lv_iload_n hx hb (g_29 bX5_feed rfl) rfl (lv_at hl 0 rfl) ?_
        refine lv_ishr hx hb (g_122 bX5_feed rfl) ?_
        refine lv_i2b (v := (iA >>> (0 &&& 31)).toInt8.toInt32) hx hb (g_145 bX5_feed rfl) rfl ?_
        refine cVv (As := [.int ((iA >>> (0 &&& 31)).toInt8.toInt32)]) (rest := []) (b := qa) (q := (RX3, TX3, 7)) ⟨hx, hb, hml, hown, hts⟩ (c_X3_append l G cy (H).size qa qab ((kZ + 1) + 1) (.int iT1) (.int iT2) (.int iT3) (.int iT4) (.ref qd) (upd (upd fB kZ (vp_nar .byte ((iA >>> (16 &&& 31)).toInt8.toInt32))) (kZ + 1) (vp_nar .byte ((iA >>> (8 &&& 31)).toInt8.toInt32))) ((iA >>> (0 &&& 31)).toInt8.toInt32) (by omega)) L_X5_150 hN hP hD hS hA [2, 3] [true, true, false, false] rfl (by decide +kernel) rfl 2 2 rfl rfl rfl ⟨Nat.le_of_ble_eq_true rfl, Nat.le_of_ble_eq_true rfl⟩ hl.1 (Nat.le_of_ble_eq_true rfl) (g_182 (v := 150) bX5_feed rfl) ⟨Nat.le_of_ble_eq_true rfl, Nat.le_of_ble_eq_true rfl⟩ (fun u_41 H locs h_40 => ?_)
        clear hP hD hS
        intro hP hD hS
        have hPD := pd_eq [_, _, zzO qa 2 [.ref qab, .int (nI (((kZ + 1) + 1) + 1)), .int iT1, .int iT2, .int iT3, .int iT4, .ref qd], zzB cy qab 250 (upd (upd (upd fB kZ (vp_nar .byte ((iA >>> (16 &&& 31)).toInt8.toInt32))) (kZ + 1) (vp_nar .byte ((iA >>> (8 &&& 31)).toInt8.toInt32))) ((kZ + 1) + 1) (vp_nar .byte ((iA >>> (0 &&& 31)).toInt8.toInt32)))] hP hD h_40 rfl
        clear hP hD h_40
        obtain ⟨hP, hD⟩ := hPD
        refine lv_iinc (v := (-8)) (lv' := [(3, .int (-8)), (0, .ref qx), (1, .int iA), (2, .int 3)]) hx hb dX5_feed_63 hl (k := 0) rfl (by decide +kernel) (by decide +kernel) rfl (fun ls => ?_)
        clear hl
        intro hl
        refine lv_goto (tgt := 48) hx hb dX5_feed_66 (by decide +kernel) ?_
        refine lv_iload_n hx hb (g_29 bX5_feed rfl) rfl (lv_at hl 0 rfl) ?_
        refine lv_if_lt (tgt := 69) hx hb dX5_feed_49 (by decide +kernel) (fun _ => ?_) (fun h9 => absurd (by decide +kernel) h9)
        refine lv_aload_n hx hb (g_42 bX5_feed rfl) rfl (lv_at hl 1 rfl) ?_
        refine va_get (D := G) (ci := 4) (v := .ref qa) (C := RX5) (T := TX5) (N := 9) hx hb hts iX_X5 hown hK hP 0 rfl rfl 4 (by decide +kernel) (hts _ m_t178) (fun _ h9 => h9) rfl (g_180 (v := 36) bX5_feed rfl) ?_
        refine va_getN (D := G) (ci := 2) (v := .int (nI (((kZ + 1) + 1) + 1))) (C := RX3) (T := TX3) (N := 7) hx hb hts iX_X3 hown hK hP 2 rfl rfl 1 (by decide +kernel) (va_Nw.use rfl (hN.2.1 (RX5, 148, "EachBookOnce$Tape", "size", "I") (List.mem_of_getElem? (i := 29) rfl))) (fun _ h9 => h9) rfl (g_180 (v := 148) bX5_feed rfl) ?_
        exact endWs [[true, true, true, true]] hx hb hr hlocks rfl hP hD rfl (by decide +kernel) hS ⟨fR, (((kZ + 1) + 1) + 1), iT1, iT2, iT3, iT4, upd (upd (upd fB kZ (vp_nar .byte ((iA >>> (16 &&& 31)).toInt8.toInt32))) (kZ + 1) (vp_nar .byte ((iA >>> (8 &&& 31)).toInt8.toInt32))) ((kZ + 1) + 1) (vp_nar .byte ((iA >>> (0 &&& 31)).toInt8.toInt32)), rfl, ⟨Or.inr ⟨3, by omega, by omega, rfl, Or.inr ⟨rfl, fd_yes (k := 3) (by omega) (by omega) c_29, rfl⟩⟩, Or.inr ⟨3, by omega, by omega, rfl, rfl, fd_s3 (nrm_byte _) (nrm_byte _) (nrm_byte _)⟩⟩, trivial⟩ (g_172 bX5_feed rfl)
      · refine lv_aload_n hx hb (g_42 bX5_feed rfl) rfl (lv_at hl 0 rfl) ?_
        refine lv_bipush (v := (-6)) hx hb dX5_feed_35 (by decide +kernel) ?_
        refine cVi (As := [.int (-6)]) (rest := []) (b := qx) (q := (RX5, TX5, 9)) ⟨hx, hb, hml, hown, hts⟩ (c_X5_refuse6 l G cy (s.heap).size qx qt qk qp qs qa qr iKp iYe iTv fR) L_X5_56 hN hP hD hS hA [0, 1] [false, false, true, true] rfl (by decide +kernel) rfl 0 4 rfl rfl rfl ⟨Nat.le_of_ble_eq_true rfl, Nat.le_of_ble_eq_true rfl⟩ hl.1 (Nat.le_of_ble_eq_true rfl) (g_182 (v := 56) bX5_feed rfl) ⟨Nat.le_of_ble_eq_true rfl, Nat.le_of_ble_eq_true rfl⟩ (fun r_43 u_45 H locs h_44 => ?_)
        clear hP hD hS
        intro hP hD hS
        obtain ⟨fX_46, hu9, h_44⟩ := h_44
        have hPD := pd_eq [_, _, _, zzI cy qr 5 fX_46] hP hD hu9 rfl
        clear hP hD hu9
        obtain ⟨hP, hD⟩ := hPD
        subst h_44
        exact endWs [[false, false, true, true], [true, true]] hx hb hr hlocks rfl hP hD rfl (by decide +kernel) hS ⟨fX_46, kZ, iT1, iT2, iT3, iT4, fB, rfl, ⟨Or.inr ⟨3, by omega, by omega, rfl, Or.inl ⟨rfl, fd_no (k := 3) (by omega) (by omega) c_29, rfl⟩⟩, Or.inl ⟨rfl, rfl⟩⟩, trivial⟩ (g_172 bX5_feed rfl)
    · refine lv_aload_n hx hb (g_42 bX5_feed rfl) rfl (lv_at hl 0 rfl) ?_
      refine va_get (D := G) (ci := 4) (v := .ref qa) (C := RX5) (T := TX5) (N := 9) hx hb hts iX_X5 hown hK hP 0 rfl rfl 4 (by decide +kernel) (hts _ m_t178) (fun _ h9 => h9) rfl (g_180 (v := 36) bX5_feed rfl) ?_
      refine va_getN (D := G) (ci := 2) (v := .int (nI kZ)) (C := RX3) (T := TX3) (N := 7) hx hb hts iX_X3 hown hK hP 2 rfl rfl 1 (by decide +kernel) (va_Nw.use rfl (hN.2.1 (RX5, 148, "EachBookOnce$Tape", "size", "I") (List.mem_of_getElem? (i := 29) rfl))) (fun _ h9 => h9) rfl (g_180 (v := 148) bX5_feed rfl) ?_
      refine lv_sipush (v := 250) hx hb dX5_feed_26 (by decide +kernel) ?_
      refine lv_iload_n hx hb (g_28 bX5_feed rfl) rfl (lv_at hl 2 rfl) ?_
      refine lv_isub hx hb (g_100 bX5_feed rfl) ?_
      refine lv_seti (v := 246) (by decide +kernel) ?_
      refine lv_icmp_le (tgt := 41) hx hb dX5_feed_31 (by decide +kernel) (fun c_47 => ?_) (fun c_47 => ?_)
      · have hfd : kZ + 4 ≤ 250 := fd_yes (k := 4) (by omega) (by omega) c_47
        refine lv_bipush (v := 8) hx hb dX5_feed_41 (by decide +kernel) ?_
        refine lv_iload_n hx hb (g_28 bX5_feed rfl) rfl (lv_at hl 2 rfl) ?_
        refine lv_iconst (v := 1) hx hb (g_4 bX5_feed rfl) (by decide +kernel) ?_
        refine lv_isub hx hb (g_100 bX5_feed rfl) ?_
        refine lv_seti (v := 3) (by decide +kernel) ?_
        refine lv_imul hx hb (g_104 bX5_feed rfl) ?_
        refine lv_seti (v := 24) (by decide +kernel) ?_
        refine lv_istore_n (lv' := [(3, .int 24), (0, .ref qx), (1, .int iA), (2, .int 4)]) hx hb (g_62 bX5_feed rfl) rfl hl (by decide +kernel) rfl (fun ls => ?_)
        clear hl
        intro hl
        refine lv_iload_n hx hb (g_29 bX5_feed rfl) rfl (lv_at hl 0 rfl) ?_
        refine lv_if_lt (tgt := 69) hx hb dX5_feed_49 (by decide +kernel) (fun h9 => absurd h9 (by decide +kernel)) (fun _ => ?_)
        refine lv_aload_n hx hb (g_42 bX5_feed rfl) rfl (lv_at hl 1 rfl) ?_
        refine va_get (D := G) (ci := 4) (v := .ref qa) (C := RX5) (T := TX5) (N := 9) hx hb hts iX_X5 hown hK hP 0 rfl rfl 4 (by decide +kernel) (hts _ m_t178) (fun _ h9 => h9) rfl (g_180 (v := 36) bX5_feed rfl) ?_
        refine lv_iload_n hx hb (g_27 bX5_feed rfl) rfl (lv_at hl 2 rfl) ?_
        refine lv_iload_n hx hb (g_29 bX5_feed rfl) rfl (lv_at hl 0 rfl) ?_
        refine lv_ishr hx hb (g_122 bX5_feed rfl) ?_
        refine lv_i2b (v := (iA >>> (24 &&& 31)).toInt8.toInt32) hx hb (g_145 bX5_feed rfl) rfl ?_
        refine cVv (As := [.int ((iA >>> (24 &&& 31)).toInt8.toInt32)]) (rest := []) (b := qa) (q := (RX3, TX3, 7)) ⟨hx, hb, hml, hown, hts⟩ (c_X3_append l G cy (s.heap).size qa qab kZ (.int iT1) (.int iT2) (.int iT3) (.int iT4) (.ref qd) fB ((iA >>> (24 &&& 31)).toInt8.toInt32) (by omega)) L_X5_150 hN hP hD hS hA [2, 3] [true, true, false, false] rfl (by decide +kernel) rfl 2 2 rfl rfl rfl ⟨Nat.le_of_ble_eq_true rfl, Nat.le_of_ble_eq_true rfl⟩ hl.1 (Nat.le_of_ble_eq_true rfl) (g_182 (v := 150) bX5_feed rfl) ⟨Nat.le_of_ble_eq_true rfl, Nat.le_of_ble_eq_true rfl⟩ (fun u_51 H locs h_50 => ?_)
        clear hP hD hS
        intro hP hD hS
        have hPD := pd_eq [_, _, _, zzB cy qab 250 (upd fB kZ (vp_nar .byte ((iA >>> (24 &&& 31)).toInt8.toInt32)))] hP hD h_50 rfl
        clear hP hD h_50
        obtain ⟨hP, hD⟩ := hPD
        refine lv_iinc (v := 16) (lv' := [(3, .int 16), (0, .ref qx), (1, .int iA), (2, .int 4)]) hx hb dX5_feed_63 hl (k := 0) rfl (by decide +kernel) (by decide +kernel) rfl (fun ls => ?_)
        clear hl
        intro hl
        refine lv_goto (tgt := 48) hx hb dX5_feed_66 (by decide +kernel) ?_
        refine lv_iload_n hx hb (g_29 bX5_feed rfl) rfl (lv_at hl 0 rfl) ?_
        refine lv_if_lt (tgt := 69) hx hb dX5_feed_49 (by decide +kernel) (fun h9 => absurd h9 (by decide +kernel)) (fun _ => ?_)
        refine lv_aload_n hx hb (g_42 bX5_feed rfl) rfl (lv_at hl 1 rfl) ?_
        refine va_get (D := G) (ci := 4) (v := .ref qa) (C := RX5) (T := TX5) (N := 9) hx hb hts iX_X5 hown hK hP 0 rfl rfl 4 (by decide +kernel) (hts _ m_t178) (fun _ h9 => h9) rfl (g_180 (v := 36) bX5_feed rfl) ?_
        refine lv_iload_n hx hb (g_27 bX5_feed rfl) rfl (lv_at hl 2 rfl) ?_
        refine lv_iload_n hx hb (g_29 bX5_feed rfl) rfl (lv_at hl 0 rfl) ?_
        refine lv_ishr hx hb (g_122 bX5_feed rfl) ?_
        refine lv_i2b (v := (iA >>> (16 &&& 31)).toInt8.toInt32) hx hb (g_145 bX5_feed rfl) rfl ?_
        refine cVv (As := [.int ((iA >>> (16 &&& 31)).toInt8.toInt32)]) (rest := []) (b := qa) (q := (RX3, TX3, 7)) ⟨hx, hb, hml, hown, hts⟩ (c_X3_append l G cy (H).size qa qab (kZ + 1) (.int iT1) (.int iT2) (.int iT3) (.int iT4) (.ref qd) (upd fB kZ (vp_nar .byte ((iA >>> (24 &&& 31)).toInt8.toInt32))) ((iA >>> (16 &&& 31)).toInt8.toInt32) (by omega)) L_X5_150 hN hP hD hS hA [2, 3] [true, true, false, false] rfl (by decide +kernel) rfl 2 2 rfl rfl rfl ⟨Nat.le_of_ble_eq_true rfl, Nat.le_of_ble_eq_true rfl⟩ hl.1 (Nat.le_of_ble_eq_true rfl) (g_182 (v := 150) bX5_feed rfl) ⟨Nat.le_of_ble_eq_true rfl, Nat.le_of_ble_eq_true rfl⟩ (fun u_55 H locs h_54 => ?_)
        clear hP hD hS
        intro hP hD hS
        have hPD := pd_eq [_, _, _, zzB cy qab 250 (upd (upd fB kZ (vp_nar .byte ((iA >>> (24 &&& 31)).toInt8.toInt32))) (kZ + 1) (vp_nar .byte ((iA >>> (16 &&& 31)).toInt8.toInt32)))] hP hD h_54 rfl
        clear hP hD h_54
        obtain ⟨hP, hD⟩ := hPD
        refine lv_iinc (v := 8) (lv' := [(3, .int 8), (0, .ref qx), (1, .int iA), (2, .int 4)]) hx hb dX5_feed_63 hl (k := 0) rfl (by decide +kernel) (by decide +kernel) rfl (fun ls => ?_)
        clear hl
        intro hl
        refine lv_goto (tgt := 48) hx hb dX5_feed_66 (by decide +kernel) ?_
        refine lv_iload_n hx hb (g_29 bX5_feed rfl) rfl (lv_at hl 0 rfl) ?_
        refine lv_if_lt (tgt := 69) hx hb dX5_feed_49 (by decide +kernel) (fun h9 => absurd h9 (by decide +kernel)) (fun _ => ?_)
        refine lv_aload_n hx hb (g_42 bX5_feed rfl) rfl (lv_at hl 1 rfl) ?_
        refine va_get (D := G) (ci := 4) (v := .ref qa) (C := RX5) (T := TX5) (N := 9) hx hb hts iX_X5 hown hK hP 0 rfl rfl 4 (by decide +kernel) (hts _ m_t178) (fun _ h9 => h9) rfl (g_180 (v := 36) bX5_feed rfl) ?_
        refine lv_iload_n hx hb (g_27 bX5_feed rfl) rfl (lv_at hl 2 rfl) ?_
        refine lv_iload_n hx hb (g_29 bX5_feed rfl) rfl (lv_at hl 0 rfl) ?_
        refine lv_ishr hx hb (g_122 bX5_feed rfl) ?_
        refine lv_i2b (v := (iA >>> (8 &&& 31)).toInt8.toInt32) hx hb (g_145 bX5_feed rfl) rfl ?_
        refine cVv (As := [.int ((iA >>> (8 &&& 31)).toInt8.toInt32)]) (rest := []) (b := qa) (q := (RX3, TX3, 7)) ⟨hx, hb, hml, hown, hts⟩ (c_X3_append l G cy (H).size qa qab ((kZ + 1) + 1) (.int iT1) (.int iT2) (.int iT3) (.int iT4) (.ref qd) (upd (upd fB kZ (vp_nar .byte ((iA >>> (24 &&& 31)).toInt8.toInt32))) (kZ + 1) (vp_nar .byte ((iA >>> (16 &&& 31)).toInt8.toInt32))) ((iA >>> (8 &&& 31)).toInt8.toInt32) (by omega)) L_X5_150 hN hP hD hS hA [2, 3] [true, true, false, false] rfl (by decide +kernel) rfl 2 2 rfl rfl rfl ⟨Nat.le_of_ble_eq_true rfl, Nat.le_of_ble_eq_true rfl⟩ hl.1 (Nat.le_of_ble_eq_true rfl) (g_182 (v := 150) bX5_feed rfl) ⟨Nat.le_of_ble_eq_true rfl, Nat.le_of_ble_eq_true rfl⟩ (fun u_59 H locs h_58 => ?_)
        clear hP hD hS
        intro hP hD hS
        have hPD := pd_eq [_, _, _, zzB cy qab 250 (upd (upd (upd fB kZ (vp_nar .byte ((iA >>> (24 &&& 31)).toInt8.toInt32))) (kZ + 1) (vp_nar .byte ((iA >>> (16 &&& 31)).toInt8.toInt32))) ((kZ + 1) + 1) (vp_nar .byte ((iA >>> (8 &&& 31)).toInt8.toInt32)))] hP hD h_58 rfl
        clear hP hD h_58
        obtain ⟨hP, hD⟩ := hPD
        refine lv_iinc (v := 0) (lv' := [(3, .int 0), (0, .ref qx), (1, .int iA), (2, .int 4)]) hx hb dX5_feed_63 hl (k := 0) rfl (by decide +kernel) (by decide +kernel) rfl (fun ls => ?_)
        clear hl
        intro hl
        refine lv_goto (tgt := 48) hx hb dX5_feed_66 (by decide +kernel) ?_
        refine lv_iload_n hx hb (g_29 bX5_feed rfl) rfl (lv_at hl 0 rfl) ?_
        refine lv_if_lt (tgt := 69) hx hb dX5_feed_49 (by decide +kernel) (fun h9 => absurd h9 (by decide +kernel)) (fun _ => ?_)
        refine lv_aload_n hx hb (g_42 bX5_feed rfl) rfl (lv_at hl 1 rfl) ?_
        refine va_get (D := G) (ci := 4) (v := .ref qa) (C := RX5) (T := TX5) (N := 9) hx hb hts iX_X5 hown hK hP 0 rfl rfl 4 (by decide +kernel) (hts _ m_t178) (fun _ h9 => h9) rfl (g_180 (v := 36) bX5_feed rfl) ?_
        refine lv_iload_n hx hb (g_27 bX5_feed rfl) rfl (lv_at hl 2 rfl) ?_
        refine lv_iload_n hx hb (g_29 bX5_feed rfl) rfl (lv_at hl 0 rfl) ?_
        refine lv_ishr hx hb (g_122 bX5_feed rfl) ?_
        refine lv_i2b (v := (iA >>> (0 &&& 31)).toInt8.toInt32) hx hb (g_145 bX5_feed rfl) rfl ?_
        refine cVv (As := [.int ((iA >>> (0 &&& 31)).toInt8.toInt32)]) (rest := []) (b := qa) (q := (RX3, TX3, 7)) ⟨hx, hb, hml, hown, hts⟩ (c_X3_append l G cy (H).size qa qab (((kZ + 1) + 1) + 1) (.int iT1) (.int iT2) (.int iT3) (.int iT4) (.ref qd) (upd (upd (upd fB kZ (vp_nar .byte ((iA >>> (24 &&& 31)).toInt8.toInt32))) (kZ + 1) (vp_nar .byte ((iA >>> (16 &&& 31)).toInt8.toInt32))) ((kZ + 1) + 1) (vp_nar .byte ((iA >>> (8 &&& 31)).toInt8.toInt32))) ((iA >>> (0 &&& 31)).toInt8.toInt32) (by omega)) L_X5_150 hN hP hD hS hA [2, 3] [true, true, false, false] rfl (by decide +kernel) rfl 2 2 rfl rfl rfl ⟨Nat.le_of_ble_eq_true rfl, Nat.le_of_ble_eq_true rfl⟩ hl.1 (Nat.le_of_ble_eq_true rfl) (g_182 (v := 150) bX5_feed rfl) ⟨Nat.le_of_ble_eq_true rfl, Nat.le_of_ble_eq_true rfl⟩ (fun u_63 H locs h_62 => ?_)
        clear hP hD hS
        intro hP hD hS
        have hPD := pd_eq [_, _, zzO qa 2 [.ref qab, .int (nI ((((kZ + 1) + 1) + 1) + 1)), .int iT1, .int iT2, .int iT3, .int iT4, .ref qd], zzB cy qab 250 (upd (upd (upd (upd fB kZ (vp_nar .byte ((iA >>> (24 &&& 31)).toInt8.toInt32))) (kZ + 1) (vp_nar .byte ((iA >>> (16 &&& 31)).toInt8.toInt32))) ((kZ + 1) + 1) (vp_nar .byte ((iA >>> (8 &&& 31)).toInt8.toInt32))) (((kZ + 1) + 1) + 1) (vp_nar .byte ((iA >>> (0 &&& 31)).toInt8.toInt32)))] hP hD h_62 rfl
        clear hP hD h_62
        obtain ⟨hP, hD⟩ := hPD
        refine lv_iinc (v := (-8)) (lv' := [(3, .int (-8)), (0, .ref qx), (1, .int iA), (2, .int 4)]) hx hb dX5_feed_63 hl (k := 0) rfl (by decide +kernel) (by decide +kernel) rfl (fun ls => ?_)
        clear hl
        intro hl
        refine lv_goto (tgt := 48) hx hb dX5_feed_66 (by decide +kernel) ?_
        refine lv_iload_n hx hb (g_29 bX5_feed rfl) rfl (lv_at hl 0 rfl) ?_
        refine lv_if_lt (tgt := 69) hx hb dX5_feed_49 (by decide +kernel) (fun _ => ?_) (fun h9 => absurd (by decide +kernel) h9)
        refine lv_aload_n hx hb (g_42 bX5_feed rfl) rfl (lv_at hl 1 rfl) ?_
        refine va_get (D := G) (ci := 4) (v := .ref qa) (C := RX5) (T := TX5) (N := 9) hx hb hts iX_X5 hown hK hP 0 rfl rfl 4 (by decide +kernel) (hts _ m_t178) (fun _ h9 => h9) rfl (g_180 (v := 36) bX5_feed rfl) ?_
        refine va_getN (D := G) (ci := 2) (v := .int (nI ((((kZ + 1) + 1) + 1) + 1))) (C := RX3) (T := TX3) (N := 7) hx hb hts iX_X3 hown hK hP 2 rfl rfl 1 (by decide +kernel) (va_Nw.use rfl (hN.2.1 (RX5, 148, "EachBookOnce$Tape", "size", "I") (List.mem_of_getElem? (i := 29) rfl))) (fun _ h9 => h9) rfl (g_180 (v := 148) bX5_feed rfl) ?_
        exact endWs [[true, true, true, true]] hx hb hr hlocks rfl hP hD rfl (by decide +kernel) hS ⟨fR, ((((kZ + 1) + 1) + 1) + 1), iT1, iT2, iT3, iT4, upd (upd (upd (upd fB kZ (vp_nar .byte ((iA >>> (24 &&& 31)).toInt8.toInt32))) (kZ + 1) (vp_nar .byte ((iA >>> (16 &&& 31)).toInt8.toInt32))) ((kZ + 1) + 1) (vp_nar .byte ((iA >>> (8 &&& 31)).toInt8.toInt32))) (((kZ + 1) + 1) + 1) (vp_nar .byte ((iA >>> (0 &&& 31)).toInt8.toInt32)), rfl, ⟨Or.inr ⟨4, by omega, by omega, rfl, Or.inr ⟨rfl, fd_yes (k := 4) (by omega) (by omega) c_47, rfl⟩⟩, Or.inr ⟨4, by omega, by omega, rfl, rfl, fd_s4 (nrm_byte _) (nrm_byte _) (nrm_byte _) (nrm_byte _)⟩⟩, trivial⟩ (g_172 bX5_feed rfl)
      · refine lv_aload_n hx hb (g_42 bX5_feed rfl) rfl (lv_at hl 0 rfl) ?_
        refine lv_bipush (v := (-6)) hx hb dX5_feed_35 (by decide +kernel) ?_
        refine cVi (As := [.int (-6)]) (rest := []) (b := qx) (q := (RX5, TX5, 9)) ⟨hx, hb, hml, hown, hts⟩ (c_X5_refuse6 l G cy (s.heap).size qx qt qk qp qs qa qr iKp iYe iTv fR) L_X5_56 hN hP hD hS hA [0, 1] [false, false, true, true] rfl (by decide +kernel) rfl 0 4 rfl rfl rfl ⟨Nat.le_of_ble_eq_true rfl, Nat.le_of_ble_eq_true rfl⟩ hl.1 (Nat.le_of_ble_eq_true rfl) (g_182 (v := 56) bX5_feed rfl) ⟨Nat.le_of_ble_eq_true rfl, Nat.le_of_ble_eq_true rfl⟩ (fun r_65 u_67 H locs h_66 => ?_)
        clear hP hD hS
        intro hP hD hS
        obtain ⟨fX_68, hu9, h_66⟩ := h_66
        have hPD := pd_eq [_, _, _, zzI cy qr 5 fX_68] hP hD hu9 rfl
        clear hP hD hu9
        obtain ⟨hP, hD⟩ := hPD
        subst h_66
        exact endWs [[false, false, true, true], [true, true]] hx hb hr hlocks rfl hP hD rfl (by decide +kernel) hS ⟨fX_68, kZ, iT1, iT2, iT3, iT4, fB, rfl, ⟨Or.inr ⟨4, by omega, by omega, rfl, Or.inl ⟨rfl, fd_no (k := 4) (by omega) (by omega) c_47, rfl⟩⟩, Or.inl ⟨rfl, rfl⟩⟩, trivial⟩ (g_172 bX5_feed rfl)
  · refine lv_if_ne (tgt := 19) hx hb dX5_feed_9 (by decide +kernel) (fun h9 => absurd (by decide +kernel) h9) (fun _ => ?_)
    refine lv_aload_n hx hb (g_42 bX5_feed rfl) rfl (lv_at hl 0 rfl) ?_
    refine lv_bipush (v := (-2)) hx hb dX5_feed_13 (by decide +kernel) ?_
    refine cVi (As := [.int (-2)]) (rest := []) (b := qx) (q := (RX5, TX5, 9)) ⟨hx, hb, hml, hown, hts⟩ (c_X5_refuse2 l G cy (s.heap).size qx qt qk qp qs qa qr iKp iYe iTv fR) L_X5_56 hN hP hD hS hA [0, 1] [false, false, true, true] rfl (by decide +kernel) rfl 0 4 rfl rfl rfl ⟨Nat.le_of_ble_eq_true rfl, Nat.le_of_ble_eq_true rfl⟩ hl.1 (Nat.le_of_ble_eq_true rfl) (g_182 (v := 56) bX5_feed rfl) ⟨Nat.le_of_ble_eq_true rfl, Nat.le_of_ble_eq_true rfl⟩ (fun r_70 u_72 H locs h_71 => ?_)
    clear hP hD hS
    intro hP hD hS
    obtain ⟨fX_73, hu9, h_71⟩ := h_71
    have hPD := pd_eq [_, _, _, zzI cy qr 5 fX_73] hP hD hu9 rfl
    clear hP hD hu9
    obtain ⟨hP, hD⟩ := hPD
    subst h_71
    exact endWs [[false, false, true, true], [true, true]] hx hb hr hlocks rfl hP hD rfl (by decide +kernel) hS ⟨fX_73, kZ, iT1, iT2, iT3, iT4, fB, rfl, ⟨Or.inl ⟨rfl, h_3, rfl⟩, Or.inl ⟨rfl, rfl⟩⟩, trivial⟩ (g_172 bX5_feed rfl)
set_option maxHeartbeats 4000000 in
set_option maxRecDepth 100000 in
theorem x_X6_feed (l : Launch) (G : va_G) (cy : Nat → ClassId) (sz : Nat) (qm : Nat) (qmh : Nat) (qmo : Nat) (qmz : Nat) (qmR : Nat) (qmv : Nat) (qmk : Nat) (qma : Nat) (qmt : Nat) (kZ : Nat) (qmr : Nat) (tA : TA) (qmB : Nat) (qmO : Nat) (qmK : Nat) (iEn : Int32) (iTk : Int32) (uP : UM) (uU : UM) (kAt : Nat) (iTo : Int32) (iFr : Int32) (JFi : Int64) (iFa : Int32) (qm3 : Nat) (iSt : Int32) (iLv : Int32) (iWs : Int32) (vLa : Value) (qmu : Nat) (qmy : Nat) (qmb : Nat) (qms : Nat) (iOm : Int32) (fMt : Nat → Int32) (fMr : Nat → Int32) (iA : Int32) (iB : Int32)  (hZ : kZ ≤ 250) : MW l yX6_feed cX6_feed 4 (some .int) 16 0 0 G cy [zzO qm 5 (.ref qmh :: .ref qmo :: .ref qmz :: .ref qmR :: .ref qmv :: .ref qmk :: .ref qma :: .ref qmt :: .int (nI kZ) :: .ref qmr :: .int (nI (T_nb tA)) :: .ref qmB :: .int (nI (T_np tA)) :: .ref qmO :: .ref qmK :: .int iEn :: .int iTk :: .int (T_sd tA) :: ov uP :: ov uU :: .int (nI kAt) :: .int iTo :: .int iFr :: .long JFi :: .int iFa :: .ref qm3 :: .int iSt :: .int iLv :: .int iWs :: vLa :: .ref qmu :: .ref qmy :: .ref qmb :: .ref qms :: .int iOm :: []), zzI cy qmt 250 fMt, zzI cy qmr 8 fMr] sz [.ref qm, .int iA, .int iB] (Wi G (fun r u => ∃ (kNz : Nat) (fNt : Nat → Int32) (fNr : Nat → Int32), u = [zzO qm 5 (.ref qmh :: .ref qmo :: .ref qmz :: .ref qmR :: .ref qmv :: .ref qmk :: .ref qma :: .ref qmt :: .int (nI kNz) :: .ref qmr :: .int (nI (T_nb tA)) :: .ref qmB :: .int (nI (T_np tA)) :: .ref qmO :: .ref qmK :: .int iEn :: .int iTk :: .int (T_sd tA) :: ov uP :: ov uU :: .int (nI kAt) :: .int iTo :: .int iFr :: .long JFi :: .int iFa :: .ref qm3 :: .int iSt :: .int iLv :: .int iWs :: vLa :: .ref qmu :: .ref qmy :: .ref qmb :: .ref qms :: .int iOm :: []), zzI cy qmt 250 fNt, zzI cy qmr 8 fNr] ∧ (PXfeed kZ iB r kNz ∧ FD fMt kZ iA iB kNz fNt) ∧ (True))) := by
  refine enW RX6 (by decide +kernel) rfl (Nat.le_of_ble_eq_true rfl) (fun p e s m below meth c ls A hx hb hml hown hts hr hlocks hP hN hl hin hD hA hS => ?_)
  have hin : meth.name = _ := hin
  have hK := hN.1
  replace hl : lv_has ls 4 [(0, .ref qm), (1, .int iA), (2, .int iB)] := hl
  refine lv_iload_n hx hb (g_28 bX6_feed rfl) rfl (lv_at hl 2 rfl) ?_
  refine lv_i2l (v := iB.toInt64) hx hb (g_133 bX6_feed rfl) rfl ?_
  refine lv_lconst (v := 1) hx hb (g_10 bX6_feed rfl) (by decide +kernel) ?_
  refine lv_ldc2 hx hb hown (hts _ m_t964) (g_20 (v := 87) bX6_feed rfl) ?_
  refine kRi (rS (As := [.long iB.toInt64, .long 1, .long 4]) (rest := []) ⟨hx, hb, hml, hown, hts⟩ (c_X6_in l G cy iB.toInt64 1 4) L_X6_74 (preRS hN hP [] rfl) rfl ⟨Nat.le_of_ble_eq_true rfl, Nat.le_of_ble_eq_true rfl⟩ hl.1 (Nat.le_of_ble_eq_true rfl) (g_184 (v := 74) bX6_feed rfl) ⟨Nat.le_of_ble_eq_true rfl, Nat.le_of_ble_eq_true rfl⟩) (fun r_1 h_2 => ?_)
  rcases h_2 with ⟨rfl, h_3⟩ | ⟨rfl, h_3⟩
  · refine lv_if_ne (tgt := 19) hx hb dX6_feed_9 (by decide +kernel) (fun _ => ?_) (fun h9 => absurd h9 (by decide +kernel))
    rcases in14 h_3 with rfl | rfl | rfl | rfl
    · refine lv_iload_n hx hb (g_28 bX6_feed rfl) rfl (lv_at hl 2 rfl) ?_
      refine lv_sipush (v := 250) hx hb dX6_feed_20 (by decide +kernel) ?_
      refine lv_aload_n hx hb (g_42 bX6_feed rfl) rfl (lv_at hl 0 rfl) ?_
      refine va_get (D := G) (ci := 5) (v := .int (nI kZ)) (C := RX6) (T := TX6) (N := 35) hx hb hts iX_X6 hown hK hP 0 rfl rfl 8 (by decide +kernel) (hts _ m_t858) (fun _ h9 => h9) rfl (g_180 (v := 141) bX6_feed rfl) ?_
      refine lv_isub hx hb (g_100 bX6_feed rfl) ?_
      refine lv_icmp_le (tgt := 38) hx hb dX6_feed_28 (by decide +kernel) (fun c_5 => ?_) (fun c_5 => ?_)
      · have hfd : kZ + 1 ≤ 250 := fm_yes (k := 1) (by omega) (by omega) c_5
        refine lv_iload_n hx hb (g_28 bX6_feed rfl) rfl (lv_at hl 2 rfl) ?_
        refine lv_iconst (v := 1) hx hb (g_4 bX6_feed rfl) (by decide +kernel) ?_
        refine lv_isub hx hb (g_100 bX6_feed rfl) ?_
        refine lv_seti (v := 0) (by decide +kernel) ?_
        refine lv_istore_n (lv' := [(3, .int 0), (0, .ref qm), (1, .int iA), (2, .int 1)]) hx hb (g_62 bX6_feed rfl) rfl hl (by decide +kernel) rfl (fun ls => ?_)
        clear hl
        intro hl
        refine lv_iload_n hx hb (g_29 bX6_feed rfl) rfl (lv_at hl 0 rfl) ?_
        refine lv_if_lt (tgt := 78) hx hb dX6_feed_43 (by decide +kernel) (fun h9 => absurd h9 (by decide +kernel)) (fun _ => ?_)
        refine lv_aload_n hx hb (g_42 bX6_feed rfl) rfl (lv_at hl 1 rfl) ?_
        refine va_get (D := G) (ci := 5) (v := .ref qmt) (C := RX6) (T := TX6) (N := 35) hx hb hts iX_X6 hown hK hP 0 rfl rfl 7 (by decide +kernel) (hts _ m_t857) (fun _ h9 => h9) rfl (g_180 (v := 34) bX6_feed rfl) ?_
        refine lv_aload_n hx hb (g_42 bX6_feed rfl) rfl (lv_at hl 1 rfl) ?_
        refine lv_dup hx hb (g_89 bX6_feed rfl) rfl ?_
        refine va_get (D := G) (ci := 5) (v := .int (nI kZ)) (C := RX6) (T := TX6) (N := 35) hx hb hts iX_X6 hown hK hP 0 rfl rfl 8 (by decide +kernel) (hts _ m_t858) (fun _ h9 => h9) rfl (g_180 (v := 141) bX6_feed rfl) ?_
        refine lv_dup_x1 hx hb (g_90 bX6_feed rfl) rfl rfl ?_
        refine lv_iconst (v := 1) hx hb (g_4 bX6_feed rfl) (by decide +kernel) ?_
        refine lv_iadd hx hb (g_96 bX6_feed rfl) ?_
        refine lv_seti (v := nI (kZ + 1)) (nI_1 _) ?_
        refine va_put (D := G) (ci := 5) (v := .int (nI (kZ + 1))) (ty := .int) (C := RX6) (T := TX6) (N := 35) hx hb hts iX_X6 tyX6 tyX6_ok nmX6 hown hK hP hD hS 0 rfl rfl 8 (by decide +kernel) (hts _ m_t858) (fun _ h9 => h9) rfl (by decide +kernel) rfl rfl (Nat.le_of_ble_eq_true rfl) (g_181 (v := 141) bX6_feed rfl) (fun H locs => ?_)
        clear hP hD hS
        intro hP hD hS
        have hPD := pd_as [zzO qm 5 (.ref qmh :: .ref qmo :: .ref qmz :: .ref qmR :: .ref qmv :: .ref qmk :: .ref qma :: .ref qmt :: .int (nI (kZ + 1)) :: .ref qmr :: .int (nI (T_nb tA)) :: .ref qmB :: .int (nI (T_np tA)) :: .ref qmO :: .ref qmK :: .int iEn :: .int iTk :: .int (T_sd tA) :: ov uP :: ov uU :: .int (nI kAt) :: .int iTo :: .int iFr :: .long JFi :: .int iFa :: .ref qm3 :: .int iSt :: .int iLv :: .int iWs :: vLa :: .ref qmu :: .ref qmy :: .ref qmb :: .ref qms :: .int iOm :: []), _, _] hP hD rfl
        clear hP hD
        obtain ⟨hP, hD⟩ := hPD
        refine lv_iload_n hx hb (g_27 bX6_feed rfl) rfl (lv_at hl 2 rfl) ?_
        refine lv_bipush (v := 8) hx hb dX6_feed_62 (by decide +kernel) ?_
        refine lv_iload_n hx hb (g_29 bX6_feed rfl) rfl (lv_at hl 0 rfl) ?_
        refine lv_imul hx hb (g_104 bX6_feed rfl) ?_
        refine lv_seti (v := 0) (by decide +kernel) ?_
        refine lv_ishr hx hb (g_122 bX6_feed rfl) ?_
        refine lv_sipush (v := 255) hx hb dX6_feed_67 (by decide +kernel) ?_
        refine lv_iand hx hb (g_126 bX6_feed rfl) ?_
        refine va_iast hx hb hK hP hD hS 1 0 rfl rfl (vp_in_nI (by omega) (by omega)) (g_79 bX6_feed rfl) (fun H locs => ?_)
        clear hP hD hS
        intro hP hD hS
        rw [nI_clamp (n := kZ) (by omega)] at hP hD
        have hPD := pd_as [_, zzI cy qmt 250 (upd fMt kZ ((iA >>> (0 &&& 31)) &&& 255)), _] hP hD rfl
        clear hP hD
        obtain ⟨hP, hD⟩ := hPD
        refine lv_iinc (v := (-1)) (lv' := [(3, .int (-1)), (0, .ref qm), (1, .int iA), (2, .int 1)]) hx hb dX6_feed_72 hl (k := 0) rfl (by decide +kernel) (by decide +kernel) rfl (fun ls => ?_)
        clear hl
        intro hl
        refine lv_goto (tgt := 42) hx hb dX6_feed_75 (by decide +kernel) ?_
        refine lv_iload_n hx hb (g_29 bX6_feed rfl) rfl (lv_at hl 0 rfl) ?_
        refine lv_if_lt (tgt := 78) hx hb dX6_feed_43 (by decide +kernel) (fun _ => ?_) (fun h9 => absurd (by decide +kernel) h9)
        refine lv_aload_n hx hb (g_42 bX6_feed rfl) rfl (lv_at hl 1 rfl) ?_
        refine va_get (D := G) (ci := 5) (v := .int (nI (kZ + 1))) (C := RX6) (T := TX6) (N := 35) hx hb hts iX_X6 hown hK hP 0 rfl rfl 8 (by decide +kernel) (hts _ m_t858) (fun _ h9 => h9) rfl (g_180 (v := 141) bX6_feed rfl) ?_
        exact endWs [[true, true, true]] hx hb hr hlocks rfl hP hD rfl (by decide +kernel) hS ⟨(kZ + 1), (upd fMt kZ ((iA >>> (0 &&& 31)) &&& 255)), fMr, rfl, ⟨Or.inr ⟨1, by omega, by omega, rfl, Or.inr ⟨rfl, fm_yes (k := 1) (by omega) (by omega) c_5, rfl⟩⟩, Or.inr ⟨1, by omega, by omega, rfl, rfl, fd_s1 rfl⟩⟩, trivial⟩ (g_172 bX6_feed rfl)
      · refine lv_aload_n hx hb (g_42 bX6_feed rfl) rfl (lv_at hl 0 rfl) ?_
        refine lv_bipush (v := (-6)) hx hb dX6_feed_32 (by decide +kernel) ?_
        refine cVi (As := [.int (-6)]) (rest := []) (b := qm) (q := (RX6, TX6, 35)) ⟨hx, hb, hml, hown, hts⟩ (c_X6_refuse6 l G cy (s.heap).size qm (.ref qmh) (.ref qmo) (.ref qmz) (.ref qmR) (.ref qmv) (.ref qmk) (.ref qma) (.ref qmt) (.int (nI kZ)) qmr tA qmB qmO qmK iEn iTk (ov uP) (ov uU) (.int (nI kAt)) (.int iTo) (.int iFr) (.long JFi) (.int iFa) (.ref qm3) (.int iSt) iLv iWs vLa (.ref qmu) (.ref qmy) (.ref qmb) (.ref qms) (.int iOm) fMr) L_X6_91 hN hP hD hS hA [0, 2] [false, true, false] rfl (by decide +kernel) rfl 0 5 rfl rfl rfl ⟨Nat.le_of_ble_eq_true rfl, Nat.le_of_ble_eq_true rfl⟩ hl.1 (Nat.le_of_ble_eq_true rfl) (g_182 (v := 91) bX6_feed rfl) ⟨Nat.le_of_ble_eq_true rfl, Nat.le_of_ble_eq_true rfl⟩ (fun r_8 u_10 H locs h_9 => ?_)
        clear hP hD hS
        intro hP hD hS
        obtain ⟨fX_11, hu9, h_9⟩ := h_9
        have hPD := pd_eq [_, _, zzI cy qmr 8 fX_11] hP hD hu9 rfl
        clear hP hD hu9
        obtain ⟨hP, hD⟩ := hPD
        subst h_9
        exact endWs [[false, true], [true, false, true]] hx hb hr hlocks rfl hP hD rfl (by decide +kernel) hS ⟨kZ, fMt, fX_11, rfl, ⟨Or.inr ⟨1, by omega, by omega, rfl, Or.inl ⟨rfl, fm_no (k := 1) (by omega) (by omega) c_5, rfl⟩⟩, Or.inl ⟨rfl, rfl⟩⟩, trivial⟩ (g_172 bX6_feed rfl)
    · refine lv_iload_n hx hb (g_28 bX6_feed rfl) rfl (lv_at hl 2 rfl) ?_
      refine lv_sipush (v := 250) hx hb dX6_feed_20 (by decide +kernel) ?_
      refine lv_aload_n hx hb (g_42 bX6_feed rfl) rfl (lv_at hl 0 rfl) ?_
      refine va_get (D := G) (ci := 5) (v := .int (nI kZ)) (C := RX6) (T := TX6) (N := 35) hx hb hts iX_X6 hown hK hP 0 rfl rfl 8 (by decide +kernel) (hts _ m_t858) (fun _ h9 => h9) rfl (g_180 (v := 141) bX6_feed rfl) ?_
      refine lv_isub hx hb (g_100 bX6_feed rfl) ?_
      refine lv_icmp_le (tgt := 38) hx hb dX6_feed_28 (by decide +kernel) (fun c_12 => ?_) (fun c_12 => ?_)
      · have hfd : kZ + 2 ≤ 250 := fm_yes (k := 2) (by omega) (by omega) c_12
        refine lv_iload_n hx hb (g_28 bX6_feed rfl) rfl (lv_at hl 2 rfl) ?_
        refine lv_iconst (v := 1) hx hb (g_4 bX6_feed rfl) (by decide +kernel) ?_
        refine lv_isub hx hb (g_100 bX6_feed rfl) ?_
        refine lv_seti (v := 1) (by decide +kernel) ?_
        refine lv_istore_n (lv' := [(3, .int 1), (0, .ref qm), (1, .int iA), (2, .int 2)]) hx hb (g_62 bX6_feed rfl) rfl hl (by decide +kernel) rfl (fun ls => ?_)
        clear hl
        intro hl
        refine lv_iload_n hx hb (g_29 bX6_feed rfl) rfl (lv_at hl 0 rfl) ?_
        refine lv_if_lt (tgt := 78) hx hb dX6_feed_43 (by decide +kernel) (fun h9 => absurd h9 (by decide +kernel)) (fun _ => ?_)
        refine lv_aload_n hx hb (g_42 bX6_feed rfl) rfl (lv_at hl 1 rfl) ?_
        refine va_get (D := G) (ci := 5) (v := .ref qmt) (C := RX6) (T := TX6) (N := 35) hx hb hts iX_X6 hown hK hP 0 rfl rfl 7 (by decide +kernel) (hts _ m_t857) (fun _ h9 => h9) rfl (g_180 (v := 34) bX6_feed rfl) ?_
        refine lv_aload_n hx hb (g_42 bX6_feed rfl) rfl (lv_at hl 1 rfl) ?_
        refine lv_dup hx hb (g_89 bX6_feed rfl) rfl ?_
        refine va_get (D := G) (ci := 5) (v := .int (nI kZ)) (C := RX6) (T := TX6) (N := 35) hx hb hts iX_X6 hown hK hP 0 rfl rfl 8 (by decide +kernel) (hts _ m_t858) (fun _ h9 => h9) rfl (g_180 (v := 141) bX6_feed rfl) ?_
        refine lv_dup_x1 hx hb (g_90 bX6_feed rfl) rfl rfl ?_
        refine lv_iconst (v := 1) hx hb (g_4 bX6_feed rfl) (by decide +kernel) ?_
        refine lv_iadd hx hb (g_96 bX6_feed rfl) ?_
        refine lv_seti (v := nI (kZ + 1)) (nI_1 _) ?_
        refine va_put (D := G) (ci := 5) (v := .int (nI (kZ + 1))) (ty := .int) (C := RX6) (T := TX6) (N := 35) hx hb hts iX_X6 tyX6 tyX6_ok nmX6 hown hK hP hD hS 0 rfl rfl 8 (by decide +kernel) (hts _ m_t858) (fun _ h9 => h9) rfl (by decide +kernel) rfl rfl (Nat.le_of_ble_eq_true rfl) (g_181 (v := 141) bX6_feed rfl) (fun H locs => ?_)
        clear hP hD hS
        intro hP hD hS
        have hPD := pd_as [_, _, _] hP hD rfl
        clear hP hD
        obtain ⟨hP, hD⟩ := hPD
        refine lv_iload_n hx hb (g_27 bX6_feed rfl) rfl (lv_at hl 2 rfl) ?_
        refine lv_bipush (v := 8) hx hb dX6_feed_62 (by decide +kernel) ?_
        refine lv_iload_n hx hb (g_29 bX6_feed rfl) rfl (lv_at hl 0 rfl) ?_
        refine lv_imul hx hb (g_104 bX6_feed rfl) ?_
        refine lv_seti (v := 8) (by decide +kernel) ?_
        refine lv_ishr hx hb (g_122 bX6_feed rfl) ?_
        refine lv_sipush (v := 255) hx hb dX6_feed_67 (by decide +kernel) ?_
        refine lv_iand hx hb (g_126 bX6_feed rfl) ?_
        refine va_iast hx hb hK hP hD hS 1 0 rfl rfl (vp_in_nI (by omega) (by omega)) (g_79 bX6_feed rfl) (fun H locs => ?_)
        clear hP hD hS
        intro hP hD hS
        rw [nI_clamp (n := kZ) (by omega)] at hP hD
        have hPD := pd_as [_, zzI cy qmt 250 (upd fMt kZ ((iA >>> (8 &&& 31)) &&& 255)), _] hP hD rfl
        clear hP hD
        obtain ⟨hP, hD⟩ := hPD
        refine lv_iinc (v := 0) (lv' := [(3, .int 0), (0, .ref qm), (1, .int iA), (2, .int 2)]) hx hb dX6_feed_72 hl (k := 0) rfl (by decide +kernel) (by decide +kernel) rfl (fun ls => ?_)
        clear hl
        intro hl
        refine lv_goto (tgt := 42) hx hb dX6_feed_75 (by decide +kernel) ?_
        refine lv_iload_n hx hb (g_29 bX6_feed rfl) rfl (lv_at hl 0 rfl) ?_
        refine lv_if_lt (tgt := 78) hx hb dX6_feed_43 (by decide +kernel) (fun h9 => absurd h9 (by decide +kernel)) (fun _ => ?_)
        refine lv_aload_n hx hb (g_42 bX6_feed rfl) rfl (lv_at hl 1 rfl) ?_
        refine va_get (D := G) (ci := 5) (v := .ref qmt) (C := RX6) (T := TX6) (N := 35) hx hb hts iX_X6 hown hK hP 0 rfl rfl 7 (by decide +kernel) (hts _ m_t857) (fun _ h9 => h9) rfl (g_180 (v := 34) bX6_feed rfl) ?_
        refine lv_aload_n hx hb (g_42 bX6_feed rfl) rfl (lv_at hl 1 rfl) ?_
        refine lv_dup hx hb (g_89 bX6_feed rfl) rfl ?_
        refine va_get (D := G) (ci := 5) (v := .int (nI (kZ + 1))) (C := RX6) (T := TX6) (N := 35) hx hb hts iX_X6 hown hK hP 0 rfl rfl 8 (by decide +kernel) (hts _ m_t858) (fun _ h9 => h9) rfl (g_180 (v := 141) bX6_feed rfl) ?_
        refine lv_dup_x1 hx hb (g_90 bX6_feed rfl) rfl rfl ?_
        refine lv_iconst (v := 1) hx hb (g_4 bX6_feed rfl) (by decide +kernel) ?_
        refine lv_iadd hx hb (g_96 bX6_feed rfl) ?_
        refine lv_seti (v := nI ((kZ + 1) + 1)) (nI_1 _) ?_
        refine va_put (D := G) (ci := 5) (v := .int (nI ((kZ + 1) + 1))) (ty := .int) (C := RX6) (T := TX6) (N := 35) hx hb hts iX_X6 tyX6 tyX6_ok nmX6 hown hK hP hD hS 0 rfl rfl 8 (by decide +kernel) (hts _ m_t858) (fun _ h9 => h9) rfl (by decide +kernel) rfl rfl (Nat.le_of_ble_eq_true rfl) (g_181 (v := 141) bX6_feed rfl) (fun H locs => ?_)
        clear hP hD hS
        intro hP hD hS
        have hPD := pd_as [zzO qm 5 (.ref qmh :: .ref qmo :: .ref qmz :: .ref qmR :: .ref qmv :: .ref qmk :: .ref qma :: .ref qmt :: .int (nI ((kZ + 1) + 1)) :: .ref qmr :: .int (nI (T_nb tA)) :: .ref qmB :: .int (nI (T_np tA)) :: .ref qmO :: .ref qmK :: .int iEn :: .int iTk :: .int (T_sd tA) :: ov uP :: ov uU :: .int (nI kAt) :: .int iTo :: .int iFr :: .long JFi :: .int iFa :: .ref qm3 :: .int iSt :: .int iLv :: .int iWs :: vLa :: .ref qmu :: .ref qmy :: .ref qmb :: .ref qms :: .int iOm :: []), _, _] hP hD rfl
        clear hP hD
        obtain ⟨hP, hD⟩ := hPD
        refine lv_iload_n hx hb (g_27 bX6_feed rfl) rfl (lv_at hl 2 rfl) ?_
        refine lv_bipush (v := 8) hx hb dX6_feed_62 (by decide +kernel) ?_
        refine lv_iload_n hx hb (g_29 bX6_feed rfl) rfl (lv_at hl 0 rfl) ?_
        refine lv_imul hx hb (g_104 bX6_feed rfl) ?_
        refine lv_seti (v := 0) (by decide +kernel) ?_
        refine lv_ishr hx hb (g_122 bX6_feed rfl) ?_
        refine lv_sipush (v := 255) hx hb dX6_feed_67 (by decide +kernel) ?_
        refine lv_iand hx hb (g_126 bX6_feed rfl) ?_
        refine va_iast hx hb hK hP hD hS 1 0 rfl rfl (vp_in_nI (by omega) (by omega)) (g_79 bX6_feed rfl) (fun H locs => ?_)
        clear hP hD hS
        intro hP hD hS
        rw [nI_clamp (n := (kZ + 1)) (by omega)] at hP hD
        have hPD := pd_as [_, zzI cy qmt 250 (upd (upd fMt kZ ((iA >>> (8 &&& 31)) &&& 255)) (kZ + 1) ((iA >>> (0 &&& 31)) &&& 255)), _] hP hD rfl
        clear hP hD
        obtain ⟨hP, hD⟩ := hPD
        refine lv_iinc (v := (-1)) (lv' := [(3, .int (-1)), (0, .ref qm), (1, .int iA), (2, .int 2)]) hx hb dX6_feed_72 hl (k := 0) rfl (by decide +kernel) (by decide +kernel) rfl (fun ls => ?_)
        clear hl
        intro hl
        refine lv_goto (tgt := 42) hx hb dX6_feed_75 (by decide +kernel) ?_
        refine lv_iload_n hx hb (g_29 bX6_feed rfl) rfl (lv_at hl 0 rfl) ?_
        refine lv_if_lt (tgt := 78) hx hb dX6_feed_43 (by decide +kernel) (fun _ => ?_) (fun h9 => absurd (by decide +kernel) h9)
        refine lv_aload_n hx hb (g_42 bX6_feed rfl) rfl (lv_at hl 1 rfl) ?_
        refine va_get (D := G) (ci := 5) (v := .int (nI ((kZ + 1) + 1))) (C := RX6) (T := TX6) (N := 35) hx hb hts iX_X6 hown hK hP 0 rfl rfl 8 (by decide +kernel) (hts _ m_t858) (fun _ h9 => h9) rfl (g_180 (v := 141) bX6_feed rfl) ?_
        exact endWs [[true, true, true]] hx hb hr hlocks rfl hP hD rfl (by decide +kernel) hS ⟨((kZ + 1) + 1), (upd (upd fMt kZ ((iA >>> (8 &&& 31)) &&& 255)) (kZ + 1) ((iA >>> (0 &&& 31)) &&& 255)), fMr, rfl, ⟨Or.inr ⟨2, by omega, by omega, rfl, Or.inr ⟨rfl, fm_yes (k := 2) (by omega) (by omega) c_12, rfl⟩⟩, Or.inr ⟨2, by omega, by omega, rfl, rfl, fd_s2 rfl rfl⟩⟩, trivial⟩ (g_172 bX6_feed rfl)
      · refine lv_aload_n hx hb (g_42 bX6_feed rfl) rfl (lv_at hl 0 rfl) ?_
        refine lv_bipush (v := (-6)) hx hb dX6_feed_32 (by decide +kernel) ?_
        refine cVi (As := [.int (-6)]) (rest := []) (b := qm) (q := (RX6, TX6, 35)) ⟨hx, hb, hml, hown, hts⟩ (c_X6_refuse6 l G cy (s.heap).size qm (.ref qmh) (.ref qmo) (.ref qmz) (.ref qmR) (.ref qmv) (.ref qmk) (.ref qma) (.ref qmt) (.int (nI kZ)) qmr tA qmB qmO qmK iEn iTk (ov uP) (ov uU) (.int (nI kAt)) (.int iTo) (.int iFr) (.long JFi) (.int iFa) (.ref qm3) (.int iSt) iLv iWs vLa (.ref qmu) (.ref qmy) (.ref qmb) (.ref qms) (.int iOm) fMr) L_X6_91 hN hP hD hS hA [0, 2] [false, true, false] rfl (by decide +kernel) rfl 0 5 rfl rfl rfl ⟨Nat.le_of_ble_eq_true rfl, Nat.le_of_ble_eq_true rfl⟩ hl.1 (Nat.le_of_ble_eq_true rfl) (g_182 (v := 91) bX6_feed rfl) ⟨Nat.le_of_ble_eq_true rfl, Nat.le_of_ble_eq_true rfl⟩ (fun r_16 u_18 H locs h_17 => ?_)
        clear hP hD hS
        intro hP hD hS
        obtain ⟨fX_19, hu9, h_17⟩ := h_17
        have hPD := pd_eq [_, _, zzI cy qmr 8 fX_19] hP hD hu9 rfl
        clear hP hD hu9
        obtain ⟨hP, hD⟩ := hPD
        subst h_17
        exact endWs [[false, true], [true, false, true]] hx hb hr hlocks rfl hP hD rfl (by decide +kernel) hS ⟨kZ, fMt, fX_19, rfl, ⟨Or.inr ⟨2, by omega, by omega, rfl, Or.inl ⟨rfl, fm_no (k := 2) (by omega) (by omega) c_12, rfl⟩⟩, Or.inl ⟨rfl, rfl⟩⟩, trivial⟩ (g_172 bX6_feed rfl)
    · refine lv_iload_n hx hb (g_28 bX6_feed rfl) rfl (lv_at hl 2 rfl) ?_
      refine lv_sipush (v := 250) hx hb dX6_feed_20 (by decide +kernel) ?_
      refine lv_aload_n hx hb (g_42 bX6_feed rfl) rfl (lv_at hl 0 rfl) ?_
      refine va_get (D := G) (ci := 5) (v := .int (nI kZ)) (C := RX6) (T := TX6) (N := 35) hx hb hts iX_X6 hown hK hP 0 rfl rfl 8 (by decide +kernel) (hts _ m_t858) (fun _ h9 => h9) rfl (g_180 (v := 141) bX6_feed rfl) ?_
      refine lv_isub hx hb (g_100 bX6_feed rfl) ?_
      refine lv_icmp_le (tgt := 38) hx hb dX6_feed_28 (by decide +kernel) (fun c_20 => ?_) (fun c_20 => ?_)
      · have hfd : kZ + 3 ≤ 250 := fm_yes (k := 3) (by omega) (by omega) c_20
        refine lv_iload_n hx hb (g_28 bX6_feed rfl) rfl (lv_at hl 2 rfl) ?_
        refine lv_iconst (v := 1) hx hb (g_4 bX6_feed rfl) (by decide +kernel) ?_
        refine lv_isub hx hb (g_100 bX6_feed rfl) ?_
        refine lv_seti (v := 2) (by decide +kernel) ?_
        refine lv_istore_n (lv' := [(3, .int 2), (0, .ref qm), (1, .int iA), (2, .int 3)]) hx hb (g_62 bX6_feed rfl) rfl hl (by decide +kernel) rfl (fun ls => ?_)
        clear hl
        intro hl
        refine lv_iload_n hx hb (g_29 bX6_feed rfl) rfl (lv_at hl 0 rfl) ?_
        refine lv_if_lt (tgt := 78) hx hb dX6_feed_43 (by decide +kernel) (fun h9 => absurd h9 (by decide +kernel)) (fun _ => ?_)
        refine lv_aload_n hx hb (g_42 bX6_feed rfl) rfl (lv_at hl 1 rfl) ?_
        refine va_get (D := G) (ci := 5) (v := .ref qmt) (C := RX6) (T := TX6) (N := 35) hx hb hts iX_X6 hown hK hP 0 rfl rfl 7 (by decide +kernel) (hts _ m_t857) (fun _ h9 => h9) rfl (g_180 (v := 34) bX6_feed rfl) ?_
        refine lv_aload_n hx hb (g_42 bX6_feed rfl) rfl (lv_at hl 1 rfl) ?_
        refine lv_dup hx hb (g_89 bX6_feed rfl) rfl ?_
        refine va_get (D := G) (ci := 5) (v := .int (nI kZ)) (C := RX6) (T := TX6) (N := 35) hx hb hts iX_X6 hown hK hP 0 rfl rfl 8 (by decide +kernel) (hts _ m_t858) (fun _ h9 => h9) rfl (g_180 (v := 141) bX6_feed rfl) ?_
        refine lv_dup_x1 hx hb (g_90 bX6_feed rfl) rfl rfl ?_
        refine lv_iconst (v := 1) hx hb (g_4 bX6_feed rfl) (by decide +kernel) ?_
        refine lv_iadd hx hb (g_96 bX6_feed rfl) ?_
        refine lv_seti (v := nI (kZ + 1)) (nI_1 _) ?_
        refine va_put (D := G) (ci := 5) (v := .int (nI (kZ + 1))) (ty := .int) (C := RX6) (T := TX6) (N := 35) hx hb hts iX_X6 tyX6 tyX6_ok nmX6 hown hK hP hD hS 0 rfl rfl 8 (by decide +kernel) (hts _ m_t858) (fun _ h9 => h9) rfl (by decide +kernel) rfl rfl (Nat.le_of_ble_eq_true rfl) (g_181 (v := 141) bX6_feed rfl) (fun H locs => ?_)
        clear hP hD hS
        intro hP hD hS
        have hPD := pd_as [_, _, _] hP hD rfl
        clear hP hD
        obtain ⟨hP, hD⟩ := hPD
        refine lv_iload_n hx hb (g_27 bX6_feed rfl) rfl (lv_at hl 2 rfl) ?_
        refine lv_bipush (v := 8) hx hb dX6_feed_62 (by decide +kernel) ?_
        refine lv_iload_n hx hb (g_29 bX6_feed rfl) rfl (lv_at hl 0 rfl) ?_
        refine lv_imul hx hb (g_104 bX6_feed rfl) ?_
        refine lv_seti (v := 16) (by decide +kernel) ?_
        refine lv_ishr hx hb (g_122 bX6_feed rfl) ?_
        refine lv_sipush (v := 255) hx hb dX6_feed_67 (by decide +kernel) ?_
        refine lv_iand hx hb (g_126 bX6_feed rfl) ?_
        refine va_iast hx hb hK hP hD hS 1 0 rfl rfl (vp_in_nI (by omega) (by omega)) (g_79 bX6_feed rfl) (fun H locs => ?_)
        clear hP hD hS
        intro hP hD hS
        rw [nI_clamp (n := kZ) (by omega)] at hP hD
        have hPD := pd_as [_, zzI cy qmt 250 (upd fMt kZ ((iA >>> (16 &&& 31)) &&& 255)), _] hP hD rfl
        clear hP hD
        obtain ⟨hP, hD⟩ := hPD
        refine lv_iinc (v := 1) (lv' := [(3, .int 1), (0, .ref qm), (1, .int iA), (2, .int 3)]) hx hb dX6_feed_72 hl (k := 0) rfl (by decide +kernel) (by decide +kernel) rfl (fun ls => ?_)
        clear hl
        intro hl
        refine lv_goto (tgt := 42) hx hb dX6_feed_75 (by decide +kernel) ?_
        refine lv_iload_n hx hb (g_29 bX6_feed rfl) rfl (lv_at hl 0 rfl) ?_
        refine lv_if_lt (tgt := 78) hx hb dX6_feed_43 (by decide +kernel) (fun h9 => absurd h9 (by decide +kernel)) (fun _ => ?_)
        refine lv_aload_n hx hb (g_42 bX6_feed rfl) rfl (lv_at hl 1 rfl) ?_
        refine va_get (D := G) (ci := 5) (v := .ref qmt) (C := RX6) (T := TX6) (N := 35) hx hb hts iX_X6 hown hK hP 0 rfl rfl 7 (by decide +kernel) (hts _ m_t857) (fun _ h9 => h9) rfl (g_180 (v := 34) bX6_feed rfl) ?_
        refine lv_aload_n hx hb (g_42 bX6_feed rfl) rfl (lv_at hl 1 rfl) ?_
        refine lv_dup hx hb (g_89 bX6_feed rfl) rfl ?_
        refine va_get (D := G) (ci := 5) (v := .int (nI (kZ + 1))) (C := RX6) (T := TX6) (N := 35) hx hb hts iX_X6 hown hK hP 0 rfl rfl 8 (by decide +kernel) (hts _ m_t858) (fun _ h9 => h9) rfl (g_180 (v := 141) bX6_feed rfl) ?_
        refine lv_dup_x1 hx hb (g_90 bX6_feed rfl) rfl rfl ?_
        refine lv_iconst (v := 1) hx hb (g_4 bX6_feed rfl) (by decide +kernel) ?_
        refine lv_iadd hx hb (g_96 bX6_feed rfl) ?_
        refine lv_seti (v := nI ((kZ + 1) + 1)) (nI_1 _) ?_
        refine va_put (D := G) (ci := 5) (v := .int (nI ((kZ + 1) + 1))) (ty := .int) (C := RX6) (T := TX6) (N := 35) hx hb hts iX_X6 tyX6 tyX6_ok nmX6 hown hK hP hD hS 0 rfl rfl 8 (by decide +kernel) (hts _ m_t858) (fun _ h9 => h9) rfl (by decide +kernel) rfl rfl (Nat.le_of_ble_eq_true rfl) (g_181 (v := 141) bX6_feed rfl) (fun H locs => ?_)
        clear hP hD hS
        intro hP hD hS
        have hPD := pd_as [_, _, _] hP hD rfl
        clear hP hD
        obtain ⟨hP, hD⟩ := hPD
        refine lv_iload_n hx hb (g_27 bX6_feed rfl) rfl (lv_at hl 2 rfl) ?_
        refine lv_bipush (v := 8) hx hb dX6_feed_62 (by decide +kernel) ?_
        refine lv_iload_n hx hb (g_29 bX6_feed rfl) rfl (lv_at hl 0 rfl) ?_
        refine lv_imul hx hb (g_104 bX6_feed rfl) ?_
        refine lv_seti (v := 8) (by decide +kernel) ?_
        refine lv_ishr hx hb (g_122 bX6_feed rfl) ?_
        refine lv_sipush (v := 255) hx hb dX6_feed_67 (by decide +kernel) ?_
        refine lv_iand hx hb (g_126 bX6_feed rfl) ?_
        refine va_iast hx hb hK hP hD hS 1 0 rfl rfl (vp_in_nI (by omega) (by omega)) (g_79 bX6_feed rfl) (fun H locs => ?_)
        clear hP hD hS
        intro hP hD hS
        rw [nI_clamp (n := (kZ + 1)) (by omega)] at hP hD
        have hPD := pd_as [_, zzI cy qmt 250 (upd (upd fMt kZ ((iA >>> (16 &&& 31)) &&& 255)) (kZ + 1) ((iA >>> (8 &&& 31)) &&& 255)), _] hP hD rfl
        clear hP hD
        obtain ⟨hP, hD⟩ := hPD
        refine lv_iinc (v := 0) (lv' := [(3, .int 0), (0, .ref qm), (1, .int iA), (2, .int 3)]) hx hb dX6_feed_72 hl (k := 0) rfl (by decide +kernel) (by decide +kernel) rfl (fun ls => ?_)
        clear hl
        intro hl
        refine lv_goto (tgt := 42) hx hb dX6_feed_75 (by decide +kernel) ?_
        refine lv_iload_n hx hb (g_29 bX6_feed rfl) rfl (lv_at hl 0 rfl) ?_
        refine lv_if_lt (tgt := 78) hx hb dX6_feed_43 (by decide +kernel) (fun h9 => absurd h9 (by decide +kernel)) (fun _ => ?_)
        refine lv_aload_n hx hb (g_42 bX6_feed rfl) rfl (lv_at hl 1 rfl) ?_
        refine va_get (D := G) (ci := 5) (v := .ref qmt) (C := RX6) (T := TX6) (N := 35) hx hb hts iX_X6 hown hK hP 0 rfl rfl 7 (by decide +kernel) (hts _ m_t857) (fun _ h9 => h9) rfl (g_180 (v := 34) bX6_feed rfl) ?_
        refine lv_aload_n hx hb (g_42 bX6_feed rfl) rfl (lv_at hl 1 rfl) ?_
        refine lv_dup hx hb (g_89 bX6_feed rfl) rfl ?_
        refine va_get (D := G) (ci := 5) (v := .int (nI ((kZ + 1) + 1))) (C := RX6) (T := TX6) (N := 35) hx hb hts iX_X6 hown hK hP 0 rfl rfl 8 (by decide +kernel) (hts _ m_t858) (fun _ h9 => h9) rfl (g_180 (v := 141) bX6_feed rfl) ?_
        refine lv_dup_x1 hx hb (g_90 bX6_feed rfl) rfl rfl ?_
        refine lv_iconst (v := 1) hx hb (g_4 bX6_feed rfl) (by decide +kernel) ?_
        refine lv_iadd hx hb (g_96 bX6_feed rfl) ?_
        refine lv_seti (v := nI (((kZ + 1) + 1) + 1)) (nI_1 _) ?_
        refine va_put (D := G) (ci := 5) (v := .int (nI (((kZ + 1) + 1) + 1))) (ty := .int) (C := RX6) (T := TX6) (N := 35) hx hb hts iX_X6 tyX6 tyX6_ok nmX6 hown hK hP hD hS 0 rfl rfl 8 (by decide +kernel) (hts _ m_t858) (fun _ h9 => h9) rfl (by decide +kernel) rfl rfl (Nat.le_of_ble_eq_true rfl) (g_181 (v := 141) bX6_feed rfl) (fun H locs => ?_)
        clear hP hD hS
        intro hP hD hS
        have hPD := pd_as [zzO qm 5 (.ref qmh :: .ref qmo :: .ref qmz :: .ref qmR :: .ref qmv :: .ref qmk :: .ref qma :: .ref qmt :: .int (nI (((kZ + 1) + 1) + 1)) :: .ref qmr :: .int (nI (T_nb tA)) :: .ref qmB :: .int (nI (T_np tA)) :: .ref qmO :: .ref qmK :: .int iEn :: .int iTk :: .int (T_sd tA) :: ov uP :: ov uU :: .int (nI kAt) :: .int iTo :: .int iFr :: .long JFi :: .int iFa :: .ref qm3 :: .int iSt :: .int iLv :: .int iWs :: vLa :: .ref qmu :: .ref qmy :: .ref qmb :: .ref qms :: .int iOm :: []), _, _] hP hD rfl
        clear hP hD
        obtain ⟨hP, hD⟩ := hPD
        refine lv_iload_n hx hb (g_27 bX6_feed rfl) rfl (lv_at hl 2 rfl) ?_
        refine lv_bipush (v := 8) hx hb dX6_feed_62 (by decide +kernel) ?_
        refine lv_iload_n hx hb (g_29 bX6_feed rfl) rfl (lv_at hl 0 rfl) ?_
        refine lv_imul hx hb (g_104 bX6_feed rfl) ?_
        refine lv_seti (v := 0) (by decide +kernel) ?_
        refine lv_ishr hx hb (g_122 bX6_feed rfl) ?_
        refine lv_sipush (v := 255) hx hb dX6_feed_67 (by decide +kernel) ?_
        refine lv_iand hx hb (g_126 bX6_feed rfl) ?_
        refine va_iast hx hb hK hP hD hS 1 0 rfl rfl (vp_in_nI (by omega) (by omega)) (g_79 bX6_feed rfl) (fun H locs => ?_)
        clear hP hD hS
        intro hP hD hS
        rw [nI_clamp (n := ((kZ + 1) + 1)) (by omega)] at hP hD
        have hPD := pd_as [_, zzI cy qmt 250 (upd (upd (upd fMt kZ ((iA >>> (16 &&& 31)) &&& 255)) (kZ + 1) ((iA >>> (8 &&& 31)) &&& 255)) ((kZ + 1) + 1) ((iA >>> (0 &&& 31)) &&& 255)), _] hP hD rfl
        clear hP hD
        obtain ⟨hP, hD⟩ := hPD
        refine lv_iinc (v := (-1)) (lv' := [(3, .int (-1)), (0, .ref qm), (1, .int iA), (2, .int 3)]) hx hb dX6_feed_72 hl (k := 0) rfl (by decide +kernel) (by decide +kernel) rfl (fun ls => ?_)
        clear hl
        intro hl
        refine lv_goto (tgt := 42) hx hb dX6_feed_75 (by decide +kernel) ?_
        refine lv_iload_n hx hb (g_29 bX6_feed rfl) rfl (lv_at hl 0 rfl) ?_
        refine lv_if_lt (tgt := 78) hx hb dX6_feed_43 (by decide +kernel) (fun _ => ?_) (fun h9 => absurd (by decide +kernel) h9)
        refine lv_aload_n hx hb (g_42 bX6_feed rfl) rfl (lv_at hl 1 rfl) ?_
        refine va_get (D := G) (ci := 5) (v := .int (nI (((kZ + 1) + 1) + 1))) (C := RX6) (T := TX6) (N := 35) hx hb hts iX_X6 hown hK hP 0 rfl rfl 8 (by decide +kernel) (hts _ m_t858) (fun _ h9 => h9) rfl (g_180 (v := 141) bX6_feed rfl) ?_
        exact endWs [[true, true, true]] hx hb hr hlocks rfl hP hD rfl (by decide +kernel) hS ⟨(((kZ + 1) + 1) + 1), (upd (upd (upd fMt kZ ((iA >>> (16 &&& 31)) &&& 255)) (kZ + 1) ((iA >>> (8 &&& 31)) &&& 255)) ((kZ + 1) + 1) ((iA >>> (0 &&& 31)) &&& 255)), fMr, rfl, ⟨Or.inr ⟨3, by omega, by omega, rfl, Or.inr ⟨rfl, fm_yes (k := 3) (by omega) (by omega) c_20, rfl⟩⟩, Or.inr ⟨3, by omega, by omega, rfl, rfl, fd_s3 rfl rfl rfl⟩⟩, trivial⟩ (g_172 bX6_feed rfl)
      · refine lv_aload_n hx hb (g_42 bX6_feed rfl) rfl (lv_at hl 0 rfl) ?_
        refine lv_bipush (v := (-6)) hx hb dX6_feed_32 (by decide +kernel) ?_
        refine cVi (As := [.int (-6)]) (rest := []) (b := qm) (q := (RX6, TX6, 35)) ⟨hx, hb, hml, hown, hts⟩ (c_X6_refuse6 l G cy (s.heap).size qm (.ref qmh) (.ref qmo) (.ref qmz) (.ref qmR) (.ref qmv) (.ref qmk) (.ref qma) (.ref qmt) (.int (nI kZ)) qmr tA qmB qmO qmK iEn iTk (ov uP) (ov uU) (.int (nI kAt)) (.int iTo) (.int iFr) (.long JFi) (.int iFa) (.ref qm3) (.int iSt) iLv iWs vLa (.ref qmu) (.ref qmy) (.ref qmb) (.ref qms) (.int iOm) fMr) L_X6_91 hN hP hD hS hA [0, 2] [false, true, false] rfl (by decide +kernel) rfl 0 5 rfl rfl rfl ⟨Nat.le_of_ble_eq_true rfl, Nat.le_of_ble_eq_true rfl⟩ hl.1 (Nat.le_of_ble_eq_true rfl) (g_182 (v := 91) bX6_feed rfl) ⟨Nat.le_of_ble_eq_true rfl, Nat.le_of_ble_eq_true rfl⟩ (fun r_25 u_27 H locs h_26 => ?_)
        clear hP hD hS
        intro hP hD hS
        obtain ⟨fX_28, hu9, h_26⟩ := h_26
        have hPD := pd_eq [_, _, zzI cy qmr 8 fX_28] hP hD hu9 rfl
        clear hP hD hu9
        obtain ⟨hP, hD⟩ := hPD
        subst h_26
        exact endWs [[false, true], [true, false, true]] hx hb hr hlocks rfl hP hD rfl (by decide +kernel) hS ⟨kZ, fMt, fX_28, rfl, ⟨Or.inr ⟨3, by omega, by omega, rfl, Or.inl ⟨rfl, fm_no (k := 3) (by omega) (by omega) c_20, rfl⟩⟩, Or.inl ⟨rfl, rfl⟩⟩, trivial⟩ (g_172 bX6_feed rfl)
    · refine lv_iload_n hx hb (g_28 bX6_feed rfl) rfl (lv_at hl 2 rfl) ?_
      refine lv_sipush (v := 250) hx hb dX6_feed_20 (by decide +kernel) ?_
      refine lv_aload_n hx hb (g_42 bX6_feed rfl) rfl (lv_at hl 0 rfl) ?_
      refine va_get (D := G) (ci := 5) (v := .int (nI kZ)) (C := RX6) (T := TX6) (N := 35) hx hb hts iX_X6 hown hK hP 0 rfl rfl 8 (by decide +kernel) (hts _ m_t858) (fun _ h9 => h9) rfl (g_180 (v := 141) bX6_feed rfl) ?_
      refine lv_isub hx hb (g_100 bX6_feed rfl) ?_
      refine lv_icmp_le (tgt := 38) hx hb dX6_feed_28 (by decide +kernel) (fun c_29 => ?_) (fun c_29 => ?_)
      · have hfd : kZ + 4 ≤ 250 := fm_yes (k := 4) (by omega) (by omega) c_29
        refine lv_iload_n hx hb (g_28 bX6_feed rfl) rfl (lv_at hl 2 rfl) ?_
        refine lv_iconst (v := 1) hx hb (g_4 bX6_feed rfl) (by decide +kernel) ?_
        refine lv_isub hx hb (g_100 bX6_feed rfl) ?_
        refine lv_seti (v := 3) (by decide +kernel) ?_
        refine lv_istore_n (lv' := [(3, .int 3), (0, .ref qm), (1, .int iA), (2, .int 4)]) hx hb (g_62 bX6_feed rfl) rfl hl (by decide +kernel) rfl (fun ls => ?_)
        clear hl
        intro hl
        refine lv_iload_n hx hb (g_29 bX6_feed rfl) rfl (lv_at hl 0 rfl) ?_
        refine lv_if_lt (tgt := 78) hx hb dX6_feed_43 (by decide +kernel) (fun h9 => absurd h9 (by decide +kernel)) (fun _ => ?_)
        refine lv_aload_n hx hb (g_42 bX6_feed rfl) rfl (lv_at hl 1 rfl) ?_
        refine va_get (D := G) (ci := 5) (v := .ref qmt) (C := RX6) (T := TX6) (N := 35) hx hb hts iX_X6 hown hK hP 0 rfl rfl 7 (by decide +kernel) (hts _ m_t857) (fun _ h9 => h9) rfl (g_180 (v := 34) bX6_feed rfl) ?_
        refine lv_aload_n hx hb (g_42 bX6_feed rfl) rfl (lv_at hl 1 rfl) ?_
        refine lv_dup hx hb (g_89 bX6_feed rfl) rfl ?_
        refine va_get (D := G) (ci := 5) (v := .int (nI kZ)) (C := RX6) (T := TX6) (N := 35) hx hb hts iX_X6 hown hK hP 0 rfl rfl 8 (by decide +kernel) (hts _ m_t858) (fun _ h9 => h9) rfl (g_180 (v := 141) bX6_feed rfl) ?_
        refine lv_dup_x1 hx hb (g_90 bX6_feed rfl) rfl rfl ?_
        refine lv_iconst (v := 1) hx hb (g_4 bX6_feed rfl) (by decide +kernel) ?_
        refine lv_iadd hx hb (g_96 bX6_feed rfl) ?_
        refine lv_seti (v := nI (kZ + 1)) (nI_1 _) ?_
        refine va_put (D := G) (ci := 5) (v := .int (nI (kZ + 1))) (ty := .int) (C := RX6) (T := TX6) (N := 35) hx hb hts iX_X6 tyX6 tyX6_ok nmX6 hown hK hP hD hS 0 rfl rfl 8 (by decide +kernel) (hts _ m_t858) (fun _ h9 => h9) rfl (by decide +kernel) rfl rfl (Nat.le_of_ble_eq_true rfl) (g_181 (v := 141) bX6_feed rfl) (fun H locs => ?_)
        clear hP hD hS
        intro hP hD hS
        have hPD := pd_as [_, _, _] hP hD rfl
        clear hP hD
        obtain ⟨hP, hD⟩ := hPD
        refine lv_iload_n hx hb (g_27 bX6_feed rfl) rfl (lv_at hl 2 rfl) ?_
        refine lv_bipush (v := 8) hx hb dX6_feed_62 (by decide +kernel) ?_
        refine lv_iload_n hx hb (g_29 bX6_feed rfl) rfl (lv_at hl 0 rfl) ?_
        refine lv_imul hx hb (g_104 bX6_feed rfl) ?_
        refine lv_seti (v := 24) (by decide +kernel) ?_
        refine lv_ishr hx hb (g_122 bX6_feed rfl) ?_
        refine lv_sipush (v := 255) hx hb dX6_feed_67 (by decide +kernel) ?_
        refine lv_iand hx hb (g_126 bX6_feed rfl) ?_
        refine va_iast hx hb hK hP hD hS 1 0 rfl rfl (vp_in_nI (by omega) (by omega)) (g_79 bX6_feed rfl) (fun H locs => ?_)
        clear hP hD hS
        intro hP hD hS
        rw [nI_clamp (n := kZ) (by omega)] at hP hD
        have hPD := pd_as [_, zzI cy qmt 250 (upd fMt kZ ((iA >>> (24 &&& 31)) &&& 255)), _] hP hD rfl
        clear hP hD
        obtain ⟨hP, hD⟩ := hPD
        refine lv_iinc (v := 2) (lv' := [(3, .int 2), (0, .ref qm), (1, .int iA), (2, .int 4)]) hx hb dX6_feed_72 hl (k := 0) rfl (by decide +kernel) (by decide +kernel) rfl (fun ls => ?_)
        clear hl
        intro hl
        refine lv_goto (tgt := 42) hx hb dX6_feed_75 (by decide +kernel) ?_
        refine lv_iload_n hx hb (g_29 bX6_feed rfl) rfl (lv_at hl 0 rfl) ?_
        refine lv_if_lt (tgt := 78) hx hb dX6_feed_43 (by decide +kernel) (fun h9 => absurd h9 (by decide +kernel)) (fun _ => ?_)
        refine lv_aload_n hx hb (g_42 bX6_feed rfl) rfl (lv_at hl 1 rfl) ?_
        refine va_get (D := G) (ci := 5) (v := .ref qmt) (C := RX6) (T := TX6) (N := 35) hx hb hts iX_X6 hown hK hP 0 rfl rfl 7 (by decide +kernel) (hts _ m_t857) (fun _ h9 => h9) rfl (g_180 (v := 34) bX6_feed rfl) ?_
        refine lv_aload_n hx hb (g_42 bX6_feed rfl) rfl (lv_at hl 1 rfl) ?_
        refine lv_dup hx hb (g_89 bX6_feed rfl) rfl ?_
        refine va_get (D := G) (ci := 5) (v := .int (nI (kZ + 1))) (C := RX6) (T := TX6) (N := 35) hx hb hts iX_X6 hown hK hP 0 rfl rfl 8 (by decide +kernel) (hts _ m_t858) (fun _ h9 => h9) rfl (g_180 (v := 141) bX6_feed rfl) ?_
        refine lv_dup_x1 hx hb (g_90 bX6_feed rfl) rfl rfl ?_
        refine lv_iconst (v := 1) hx hb (g_4 bX6_feed rfl) (by decide +kernel) ?_
        refine lv_iadd hx hb (g_96 bX6_feed rfl) ?_
        refine lv_seti (v := nI ((kZ + 1) + 1)) (nI_1 _) ?_
        refine va_put (D := G) (ci := 5) (v := .int (nI ((kZ + 1) + 1))) (ty := .int) (C := RX6) (T := TX6) (N := 35) hx hb hts iX_X6 tyX6 tyX6_ok nmX6 hown hK hP hD hS 0 rfl rfl 8 (by decide +kernel) (hts _ m_t858) (fun _ h9 => h9) rfl (by decide +kernel) rfl rfl (Nat.le_of_ble_eq_true rfl) (g_181 (v := 141) bX6_feed rfl) (fun H locs => ?_)
        clear hP hD hS
        intro hP hD hS
        have hPD := pd_as [_, _, _] hP hD rfl
        clear hP hD
        obtain ⟨hP, hD⟩ := hPD
        refine lv_iload_n hx hb (g_27 bX6_feed rfl) rfl (lv_at hl 2 rfl) ?_
        refine lv_bipush (v := 8) hx hb dX6_feed_62 (by decide +kernel) ?_
        refine lv_iload_n hx hb (g_29 bX6_feed rfl) rfl (lv_at hl 0 rfl) ?_
        refine lv_imul hx hb (g_104 bX6_feed rfl) ?_
        refine lv_seti (v := 16) (by decide +kernel) ?_
        refine lv_ishr hx hb (g_122 bX6_feed rfl) ?_
        refine lv_sipush (v := 255) hx hb dX6_feed_67 (by decide +kernel) ?_
        refine lv_iand hx hb (g_126 bX6_feed rfl) ?_
        refine va_iast hx hb hK hP hD hS 1 0 rfl rfl (vp_in_nI (by omega) (by omega)) (g_79 bX6_feed rfl) (fun H locs => ?_)
        clear hP hD hS
        intro hP hD hS
        rw [nI_clamp (n := (kZ + 1)) (by omega)] at hP hD
        have hPD := pd_as [_, zzI cy qmt 250 (upd (upd fMt kZ ((iA >>> (24 &&& 31)) &&& 255)) (kZ + 1) ((iA >>> (16 &&& 31)) &&& 255)), _] hP hD rfl
        clear hP hD
        obtain ⟨hP, hD⟩ := hPD
        refine lv_iinc (v := 1) (lv' := [(3, .int 1), (0, .ref qm), (1, .int iA), (2, .int 4)]) hx hb dX6_feed_72 hl (k := 0) rfl (by decide +kernel) (by decide +kernel) rfl (fun ls => ?_)
        clear hl
        intro hl
        refine lv_goto (tgt := 42) hx hb dX6_feed_75 (by decide +kernel) ?_
        refine lv_iload_n hx hb (g_29 bX6_feed rfl) rfl (lv_at hl 0 rfl) ?_
        refine lv_if_lt (tgt := 78) hx hb dX6_feed_43 (by decide +kernel) (fun h9 => absurd h9 (by decide +kernel)) (fun _ => ?_)
        refine lv_aload_n hx hb (g_42 bX6_feed rfl) rfl (lv_at hl 1 rfl) ?_
        refine va_get (D := G) (ci := 5) (v := .ref qmt) (C := RX6) (T := TX6) (N := 35) hx hb hts iX_X6 hown hK hP 0 rfl rfl 7 (by decide +kernel) (hts _ m_t857) (fun _ h9 => h9) rfl (g_180 (v := 34) bX6_feed rfl) ?_
        refine lv_aload_n hx hb (g_42 bX6_feed rfl) rfl (lv_at hl 1 rfl) ?_
        refine lv_dup hx hb (g_89 bX6_feed rfl) rfl ?_
        refine va_get (D := G) (ci := 5) (v := .int (nI ((kZ + 1) + 1))) (C := RX6) (T := TX6) (N := 35) hx hb hts iX_X6 hown hK hP 0 rfl rfl 8 (by decide +kernel) (hts _ m_t858) (fun _ h9 => h9) rfl (g_180 (v := 141) bX6_feed rfl) ?_
        refine lv_dup_x1 hx hb (g_90 bX6_feed rfl) rfl rfl ?_
        refine lv_iconst (v := 1) hx hb (g_4 bX6_feed rfl) (by decide +kernel) ?_
        refine lv_iadd hx hb (g_96 bX6_feed rfl) ?_
        refine lv_seti (v := nI (((kZ + 1) + 1) + 1)) (nI_1 _) ?_
        refine va_put (D := G) (ci := 5) (v := .int (nI (((kZ + 1) + 1) + 1))) (ty := .int) (C := RX6) (T := TX6) (N := 35) hx hb hts iX_X6 tyX6 tyX6_ok nmX6 hown hK hP hD hS 0 rfl rfl 8 (by decide +kernel) (hts _ m_t858) (fun _ h9 => h9) rfl (by decide +kernel) rfl rfl (Nat.le_of_ble_eq_true rfl) (g_181 (v := 141) bX6_feed rfl) (fun H locs => ?_)
        clear hP hD hS
        intro hP hD hS
        have hPD := pd_as [_, _, _] hP hD rfl
        clear hP hD
        obtain ⟨hP, hD⟩ := hPD
        refine lv_iload_n hx hb (g_27 bX6_feed rfl) rfl (lv_at hl 2 rfl) ?_
        refine lv_bipush (v := 8) hx hb dX6_feed_62 (by decide +kernel) ?_
        refine lv_iload_n hx hb (g_29 bX6_feed rfl) rfl (lv_at hl 0 rfl) ?_
        refine lv_imul hx hb (g_104 bX6_feed rfl) ?_
        refine lv_seti (v := 8) (by decide +kernel) ?_
        refine lv_ishr hx hb (g_122 bX6_feed rfl) ?_
        refine lv_sipush (v := 255) hx hb dX6_feed_67 (by decide +kernel) ?_
        refine lv_iand hx hb (g_126 bX6_feed rfl) ?_
        refine va_iast hx hb hK hP hD hS 1 0 rfl rfl (vp_in_nI (by omega) (by omega)) (g_79 bX6_feed rfl) (fun H locs => ?_)
        clear hP hD hS
        intro hP hD hS
        rw [nI_clamp (n := ((kZ + 1) + 1)) (by omega)] at hP hD
        have hPD := pd_as [_, zzI cy qmt 250 (upd (upd (upd fMt kZ ((iA >>> (24 &&& 31)) &&& 255)) (kZ + 1) ((iA >>> (16 &&& 31)) &&& 255)) ((kZ + 1) + 1) ((iA >>> (8 &&& 31)) &&& 255)), _] hP hD rfl
        clear hP hD
        obtain ⟨hP, hD⟩ := hPD
        refine lv_iinc (v := 0) (lv' := [(3, .int 0), (0, .ref qm), (1, .int iA), (2, .int 4)]) hx hb dX6_feed_72 hl (k := 0) rfl (by decide +kernel) (by decide +kernel) rfl (fun ls => ?_)
        clear hl
        intro hl
        refine lv_goto (tgt := 42) hx hb dX6_feed_75 (by decide +kernel) ?_
        refine lv_iload_n hx hb (g_29 bX6_feed rfl) rfl (lv_at hl 0 rfl) ?_
        refine lv_if_lt (tgt := 78) hx hb dX6_feed_43 (by decide +kernel) (fun h9 => absurd h9 (by decide +kernel)) (fun _ => ?_)
        refine lv_aload_n hx hb (g_42 bX6_feed rfl) rfl (lv_at hl 1 rfl) ?_
        refine va_get (D := G) (ci := 5) (v := .ref qmt) (C := RX6) (T := TX6) (N := 35) hx hb hts iX_X6 hown hK hP 0 rfl rfl 7 (by decide +kernel) (hts _ m_t857) (fun _ h9 => h9) rfl (g_180 (v := 34) bX6_feed rfl) ?_
        refine lv_aload_n hx hb (g_42 bX6_feed rfl) rfl (lv_at hl 1 rfl) ?_
        refine lv_dup hx hb (g_89 bX6_feed rfl) rfl ?_
        refine va_get (D := G) (ci := 5) (v := .int (nI (((kZ + 1) + 1) + 1))) (C := RX6) (T := TX6) (N := 35) hx hb hts iX_X6 hown hK hP 0 rfl rfl 8 (by decide +kernel) (hts _ m_t858) (fun _ h9 => h9) rfl (g_180 (v := 141) bX6_feed rfl) ?_
        refine lv_dup_x1 hx hb (g_90 bX6_feed rfl) rfl rfl ?_
        refine lv_iconst (v := 1) hx hb (g_4 bX6_feed rfl) (by decide +kernel) ?_
        refine lv_iadd hx hb (g_96 bX6_feed rfl) ?_
        refine lv_seti (v := nI ((((kZ + 1) + 1) + 1) + 1)) (nI_1 _) ?_
        refine va_put (D := G) (ci := 5) (v := .int (nI ((((kZ + 1) + 1) + 1) + 1))) (ty := .int) (C := RX6) (T := TX6) (N := 35) hx hb hts iX_X6 tyX6 tyX6_ok nmX6 hown hK hP hD hS 0 rfl rfl 8 (by decide +kernel) (hts _ m_t858) (fun _ h9 => h9) rfl (by decide +kernel) rfl rfl (Nat.le_of_ble_eq_true rfl) (g_181 (v := 141) bX6_feed rfl) (fun H locs => ?_)
        clear hP hD hS
        intro hP hD hS
        have hPD := pd_as [zzO qm 5 (.ref qmh :: .ref qmo :: .ref qmz :: .ref qmR :: .ref qmv :: .ref qmk :: .ref qma :: .ref qmt :: .int (nI ((((kZ + 1) + 1) + 1) + 1)) :: .ref qmr :: .int (nI (T_nb tA)) :: .ref qmB :: .int (nI (T_np tA)) :: .ref qmO :: .ref qmK :: .int iEn :: .int iTk :: .int (T_sd tA) :: ov uP :: ov uU :: .int (nI kAt) :: .int iTo :: .int iFr :: .long JFi :: .int iFa :: .ref qm3 :: .int iSt :: .int iLv :: .int iWs :: vLa :: .ref qmu :: .ref qmy :: .ref qmb :: .ref qms :: .int iOm :: []), _, _] hP hD rfl
        clear hP hD
        obtain ⟨hP, hD⟩ := hPD
        refine lv_iload_n hx hb (g_27 bX6_feed rfl) rfl (lv_at hl 2 rfl) ?_
        refine lv_bipush (v := 8) hx hb dX6_feed_62 (by decide +kernel) ?_
        refine lv_iload_n hx hb (g_29 bX6_feed rfl) rfl (lv_at hl 0 rfl) ?_
        refine lv_imul hx hb (g_104 bX6_feed rfl) ?_
        refine lv_seti (v := 0) (by decide +kernel) ?_
        refine lv_ishr hx hb (g_122 bX6_feed rfl) ?_
        refine lv_sipush (v := 255) hx hb dX6_feed_67 (by decide +kernel) ?_
        refine lv_iand hx hb (g_126 bX6_feed rfl) ?_
        refine va_iast hx hb hK hP hD hS 1 0 rfl rfl (vp_in_nI (by omega) (by omega)) (g_79 bX6_feed rfl) (fun H locs => ?_)
        clear hP hD hS
        intro hP hD hS
        rw [nI_clamp (n := (((kZ + 1) + 1) + 1)) (by omega)] at hP hD
        have hPD := pd_as [_, zzI cy qmt 250 (upd (upd (upd (upd fMt kZ ((iA >>> (24 &&& 31)) &&& 255)) (kZ + 1) ((iA >>> (16 &&& 31)) &&& 255)) ((kZ + 1) + 1) ((iA >>> (8 &&& 31)) &&& 255)) (((kZ + 1) + 1) + 1) ((iA >>> (0 &&& 31)) &&& 255)), _] hP hD rfl
        clear hP hD
        obtain ⟨hP, hD⟩ := hPD
        refine lv_iinc (v := (-1)) (lv' := [(3, .int (-1)), (0, .ref qm), (1, .int iA), (2, .int 4)]) hx hb dX6_feed_72 hl (k := 0) rfl (by decide +kernel) (by decide +kernel) rfl (fun ls => ?_)
        clear hl
        intro hl
        refine lv_goto (tgt := 42) hx hb dX6_feed_75 (by decide +kernel) ?_
        refine lv_iload_n hx hb (g_29 bX6_feed rfl) rfl (lv_at hl 0 rfl) ?_
        refine lv_if_lt (tgt := 78) hx hb dX6_feed_43 (by decide +kernel) (fun _ => ?_) (fun h9 => absurd (by decide +kernel) h9)
        refine lv_aload_n hx hb (g_42 bX6_feed rfl) rfl (lv_at hl 1 rfl) ?_
        refine va_get (D := G) (ci := 5) (v := .int (nI ((((kZ + 1) + 1) + 1) + 1))) (C := RX6) (T := TX6) (N := 35) hx hb hts iX_X6 hown hK hP 0 rfl rfl 8 (by decide +kernel) (hts _ m_t858) (fun _ h9 => h9) rfl (g_180 (v := 141) bX6_feed rfl) ?_
        exact endWs [[true, true, true]] hx hb hr hlocks rfl hP hD rfl (by decide +kernel) hS ⟨((((kZ + 1) + 1) + 1) + 1), (upd (upd (upd (upd fMt kZ ((iA >>> (24 &&& 31)) &&& 255)) (kZ + 1) ((iA >>> (16 &&& 31)) &&& 255)) ((kZ + 1) + 1) ((iA >>> (8 &&& 31)) &&& 255)) (((kZ + 1) + 1) + 1) ((iA >>> (0 &&& 31)) &&& 255)), fMr, rfl, ⟨Or.inr ⟨4, by omega, by omega, rfl, Or.inr ⟨rfl, fm_yes (k := 4) (by omega) (by omega) c_29, rfl⟩⟩, Or.inr ⟨4, by omega, by omega, rfl, rfl, fd_s4 rfl rfl rfl rfl⟩⟩, trivial⟩ (g_172 bX6_feed rfl)
      · refine lv_aload_n hx hb (g_42 bX6_feed rfl) rfl (lv_at hl 0 rfl) ?_
        refine lv_bipush (v := (-6)) hx hb dX6_feed_32 (by decide +kernel) ?_
        refine cVi (As := [.int (-6)]) (rest := []) (b := qm) (q := (RX6, TX6, 35)) ⟨hx, hb, hml, hown, hts⟩ (c_X6_refuse6 l G cy (s.heap).size qm (.ref qmh) (.ref qmo) (.ref qmz) (.ref qmR) (.ref qmv) (.ref qmk) (.ref qma) (.ref qmt) (.int (nI kZ)) qmr tA qmB qmO qmK iEn iTk (ov uP) (ov uU) (.int (nI kAt)) (.int iTo) (.int iFr) (.long JFi) (.int iFa) (.ref qm3) (.int iSt) iLv iWs vLa (.ref qmu) (.ref qmy) (.ref qmb) (.ref qms) (.int iOm) fMr) L_X6_91 hN hP hD hS hA [0, 2] [false, true, false] rfl (by decide +kernel) rfl 0 5 rfl rfl rfl ⟨Nat.le_of_ble_eq_true rfl, Nat.le_of_ble_eq_true rfl⟩ hl.1 (Nat.le_of_ble_eq_true rfl) (g_182 (v := 91) bX6_feed rfl) ⟨Nat.le_of_ble_eq_true rfl, Nat.le_of_ble_eq_true rfl⟩ (fun r_35 u_37 H locs h_36 => ?_)
        clear hP hD hS
        intro hP hD hS
        obtain ⟨fX_38, hu9, h_36⟩ := h_36
        have hPD := pd_eq [_, _, zzI cy qmr 8 fX_38] hP hD hu9 rfl
        clear hP hD hu9
        obtain ⟨hP, hD⟩ := hPD
        subst h_36
        exact endWs [[false, true], [true, false, true]] hx hb hr hlocks rfl hP hD rfl (by decide +kernel) hS ⟨kZ, fMt, fX_38, rfl, ⟨Or.inr ⟨4, by omega, by omega, rfl, Or.inl ⟨rfl, fm_no (k := 4) (by omega) (by omega) c_29, rfl⟩⟩, Or.inl ⟨rfl, rfl⟩⟩, trivial⟩ (g_172 bX6_feed rfl)
  · refine lv_if_ne (tgt := 19) hx hb dX6_feed_9 (by decide +kernel) (fun h9 => absurd (by decide +kernel) h9) (fun _ => ?_)
    refine lv_aload_n hx hb (g_42 bX6_feed rfl) rfl (lv_at hl 0 rfl) ?_
    refine lv_bipush (v := (-2)) hx hb dX6_feed_13 (by decide +kernel) ?_
    refine cVi (As := [.int (-2)]) (rest := []) (b := qm) (q := (RX6, TX6, 35)) ⟨hx, hb, hml, hown, hts⟩ (c_X6_refuse2 l G cy (s.heap).size qm (.ref qmh) (.ref qmo) (.ref qmz) (.ref qmR) (.ref qmv) (.ref qmk) (.ref qma) (.ref qmt) (.int (nI kZ)) qmr tA qmB qmO qmK iEn iTk (ov uP) (ov uU) (.int (nI kAt)) (.int iTo) (.int iFr) (.long JFi) (.int iFa) (.ref qm3) (.int iSt) iLv iWs vLa (.ref qmu) (.ref qmy) (.ref qmb) (.ref qms) (.int iOm) fMr) L_X6_91 hN hP hD hS hA [0, 2] [false, true, false] rfl (by decide +kernel) rfl 0 5 rfl rfl rfl ⟨Nat.le_of_ble_eq_true rfl, Nat.le_of_ble_eq_true rfl⟩ hl.1 (Nat.le_of_ble_eq_true rfl) (g_182 (v := 91) bX6_feed rfl) ⟨Nat.le_of_ble_eq_true rfl, Nat.le_of_ble_eq_true rfl⟩ (fun r_40 u_42 H locs h_41 => ?_)
    clear hP hD hS
    intro hP hD hS
    obtain ⟨fX_43, hu9, h_41⟩ := h_41
    have hPD := pd_eq [_, _, zzI cy qmr 8 fX_43] hP hD hu9 rfl
    clear hP hD hu9
    obtain ⟨hP, hD⟩ := hPD
    subst h_41
    exact endWs [[false, true], [true, false, true]] hx hb hr hlocks rfl hP hD rfl (by decide +kernel) hS ⟨kZ, fMt, fX_43, rfl, ⟨Or.inl ⟨rfl, h_3, rfl⟩, Or.inl ⟨rfl, rfl⟩⟩, trivial⟩ (g_172 bX6_feed rfl)
end
section
/-! what the questions answer, the same on both sides -/
/-! teach -/
section TCH
variable {t : TA} {k m j : Nat} {x y X : Int32}
end TCH
/-! hangs -/
section HG
variable {t : TA} {j : Nat} {x y X : Int32}
end HG
/-! lost -/
/-! nobody is there: nothing changes -/
theorem bitb0 (i : Nat) : bitb 0 i = false := by
  unfold bitb
  rw [Int32.zero_shiftRight, Int32.zero_and]
  rfl
theorem em_gn {t : TA} (h8 : T_np t ≤ 8) (h : zthere t = 0) {p : Nat} (hp : p < T_np t) : T_gn t p = true := by
  have q := bitb_th (t := t) (n := p) (by omega)
  rw [h, bitb0, decide_eq_true hp] at q
  cases e : T_gn t p with
  | true => rfl
  | false => rw [e] at q; cases q
theorem em_gA (k : Nat → Int32) : ∀ n, gA (bitb 0) k n = 0 := by
  intro n
  induction n with
  | zero => rfl
  | succ n ih =>
    show (if bitb 0 n = true then mx (gA (bitb 0) k n) (k n) else gA (bitb 0) k n) = 0
    rw [if_neg (by rw [bitb0]; decide), ih]
theorem em_ws {f : Nat → Int32} (h : ∀ b, f b = 0) : ∀ n, wsum f n = 0 := by
  intro n
  induction n with
  | zero => rfl
  | succ n ih =>
    show wsum f n + f n = 0
    rw [ih, h]; rfl
theorem em_val {t : TA} (h : zthere t = 0) : zval t = 0 := by
  unfold zval waF
  rw [h]
  exact em_ws (fun b => by show T_wo t b * mkn t b 0 = 0; rw [show mkn t b 0 = 0 from em_gA _ _, Int32.mul_zero]) _
theorem em_eyF (t : TA) : ∀ n, eyF 0 t n = t := by
  intro n
  induction n with
  | zero => rfl
  | succ n ih =>
    show (if bitb 0 n = true then eyS (eyF 0 t n) n else eyF 0 t n) = t
    rw [if_neg (by rw [bitb0]; decide), ih]
theorem em_ey {t : TA} (h : zthere t = 0) : zey t = t := by
  unfold zey
  rw [h]
  exact em_eyF t _
theorem em_brF {t : TA} {b : Nat} : ∀ n, (∀ p, p < n → T_gn t p = true) → brF t b n = (-1, 0) := by
  intro n
  induction n with
  | zero => intro _; rfl
  | succ n ih =>
    intro h
    rw [brF, if_neg (fun q => by rw [h n (by omega)] at q; exact absurd q.1 (by decide +kernel))]
    exact ih (fun p hp => h p (by omega))
theorem em_br {t : TA} {b : Nat} (h8 : T_np t ≤ 8) (h : zthere t = 0) : zbr t b = -1 := by
  unfold zbr
  rw [em_brF _ (fun p hp => em_gn h8 h hp)]
theorem em_rd {t : TA} {m l : Int32} (h8 : T_np t ≤ 8) (h : zthere t = 0) : zrd t m l = (t, 0) := by
  unfold zrd
  rw [rdG]
  split
  · rfl
  · split
    · rfl
    · rw [if_pos (em_br h8 h)]
theorem em_tc {t : TA} : ∀ n, (∀ p, p < n → T_gn t p = true) → tcF t n = t := by
  intro n
  induction n with
  | zero => intro _; rfl
  | succ n ih =>
    intro h
    show tcS (tcF t n) n = t
    rw [ih (fun p hp => h p (by omega)), tcS, if_pos (h n (by omega))]
theorem em_ch {t : TA} (h8 : T_np t ≤ 8) (h : zthere t = 0) : zch t = t := em_tc _ (fun p hp => em_gn h8 h hp)
theorem em_act {t : TA} {k a : Int32} (h8 : T_np t ≤ 8) (h : zthere t = 0) : (zact t k a).1 = t := by
  unfold zact
  rw [em_ch h8 h]
  split
  · rw [em_rd h8 h]
  · split
    · rw [em_rd h8 h]
    · split
      · rw [em_rd h8 h]
      · split
        · rfl
        · split
          · exact em_ch h8 h
          · split
            · rw [em_rd h8 h]
            · rfl
/-- years without a stop: the town, the last value, the sum -/
noncomputable def gG (k a : Int32) : Nat → TA → Int32 → Int32 → TA × Int32 × Int32
  | 0, t, l, s => (t, l, s)
  | n + 1, t, l, s => gG k a n (zey (zact t k a).1) (zval (zact t k a).1) (s + zval (zact t k a).1)
theorem gG_em {k a : Int32} {t : TA} {s : Int32} (h8 : T_np t ≤ 8) (h : zthere t = 0) : ∀ n, gG k a n t 0 s = (t, 0, s) := by
  intro n
  induction n with
  | zero => rfl
  | succ n ih =>
    rw [gG, em_act h8 h, em_ey h, em_val h, Int32.add_zero]
    exact ih
theorem gG_sr {k a : Int32} : ∀ (n : Nat) (t : TA) (l s : Int32), T_np t ≤ 8 → gG k a n t l s = srG k a n t l s := by
  intro n
  induction n with
  | zero => intro t l s _; rfl
  | succ n ih =>
    intro t l s h8
    by_cases h : zthere t = 0
    · rw [sr_0 h, gG, em_act h8 h, em_ey h, em_val h, Int32.add_zero]
      exact gG_em h8 h n
    · rw [sr_go h, gG]
      exact ih _ _ _ (by rw [(zey_nb _).2, (zact_nb _ _ _).2]; exact h8)
theorem act_m1 {t : TA} {a : Int32} : (zact t (-1) a).1 = t := rfl
theorem gG_so {a : Int32} : ∀ (n : Nat) (t : TA) (l s : Int32), T_np t ≤ 8 → (gG (-1) a n t l s).1 = (soG n t s).1 ∧ (gG (-1) a n t l s).2.2 = (soG n t s).2 := by
  intro n
  induction n with
  | zero => intro t l s _; exact ⟨rfl, rfl⟩
  | succ n ih =>
    intro t l s h8
    by_cases h : zthere t = 0
    · rw [so_0 h, gG, act_m1, em_ey h, em_val h, Int32.add_zero, gG_em h8 h n]
      exact ⟨rfl, rfl⟩
    · rw [so_go h, gG, act_m1]
      exact ih _ _ _ (by rw [(zey_nb _).2]; exact h8)
theorem gg_st {k a l s v : Int32} {n : Nat} {t t1 : TA} {R : TA × Int32 × Int32} (h : gG k a (n + 1) t l s = R) (ht : t1 = zey (zact t k a).1) (hv : v = zval (zact t k a).1) : gG k a n t1 v (s + v) = R := by
  subst ht
  subst hv
  exact h
/-! a rule on a shelf, and what is asked of it -/
noncomputable def PXk (h : Nat → Int32) (a : Int32) (P : Prop) (v2 v3 v4 : Int32) (F : Nat → Int32) (r : Int32) : Prop := (r = v2 ∧ ¬ (Sh a ∧ P)) ∨ (r = v3 ∧ P ∧ ∃ k : Nat, k < 8 ∧ a = nI k ∧ Rw (h k)) ∨ (r = v4 ∧ P ∧ ∃ k : Nat, k < 8 ∧ a = nI k ∧ ¬ Rw (h k) ∧ ¬ 10 ≤ h k) ∨ ∃ k : Nat, k < 8 ∧ a = nI k ∧ ¬ Rw (h k) ∧ 10 ≤ h k ∧ P ∧ r = F k
noncomputable def PMk (h : Nat → Int32) (a : Int32) (P : Prop) (v2 v3 v4 : Int32) (F : Nat → Int32) (r : Int32) : Prop := (r = v2 ∧ ¬ (Sh a ∧ P)) ∨ (r = v3 ∧ P ∧ ∃ k : Nat, k < 8 ∧ a = nI k ∧ h k = 1) ∨ (r = v4 ∧ P ∧ ∃ k : Nat, k < 8 ∧ a = nI k ∧ ¬ h k = 1 ∧ h k = 0) ∨ ∃ k : Nat, k < 8 ∧ a = nI k ∧ ¬ h k = 1 ∧ ¬ h k = 0 ∧ P ∧ r = F k
theorem gG_l {k a : Int32} {n : Nat} {t : TA} {l s : Int32} (h : 1 ≤ n) : gG k a n t l s = gG k a n t 0 s := by
  cases n with
  | zero => omega
  | succ n => rfl
theorem sr_l {k a : Int32} {n : Nat} {t : TA} {l s : Int32} (h : 1 ≤ n) : srG k a n t l s = srG k a n t 0 s := by
  cases n with
  | zero => omega
  | succ n =>
    by_cases q : zthere t = 0
    · rw [sr_0 q, sr_0 q]
    · rw [sr_go q, sr_go q]
noncomputable def gnK (q a : Int32) (t : TA) (n : Int32) : Int32 := (srG q a n.toNatClampNeg t 0 0).2.2 - (soG n.toNatClampNeg t 0).2
section RN
variable {q a r0 r1 x y l w : Int32} {t tX tY : TA} {m : Nat}
theorem gn_e (hm : m ≤ 60) (h8 : T_np t ≤ 8) (h1 : (tX, x, r0) = srG q a m t 0 0) (h2 : (tY, y, r1) = gG (-1) 0 m t l 0) : r0 - r1 = gnK q a t (nI m) := by
  unfold gnK; rw [nI_clamp (by omega), ← h1, ← (gG_so (a := 0) m t l 0 h8).2, ← h2]
theorem gx_e (h : 1 ≤ m) (hm : m ≤ 60) : (srG q a m t l 0).2.2 - (soG m t 0).2 = gnK q a t (nI m) := by
  unfold gnK; rw [nI_clamp (by omega), sr_l h]
end RN
/-! head: the best of the shelves -/
noncomputable def hdF (g : Nat → Bool) (v : Nat → Int32) : Nat → Int32 × Int32
  | 0 => (-1, 0)
  | j + 1 => if g j = true ∧ ((hdF g v j).1 = -1 ∨ (hdF g v j).2 < v j) then (nI j, v j) else hdF g v j
section HD
variable {g : Nat → Bool} {v : Nat → Int32} {j : Nat} {x y X : Int32}
end HD
noncomputable def hdA (g : Nat → Bool) (v : Nat → Int32) : Int32 := if (hdF g v 8).1 = -1 then -5 else (hdF g v 8).1
theorem hd_cong {g g' : Nat → Bool} {v v' : Nat → Int32} : ∀ n, (∀ k, k < n → g k = g' k ∧ (g k = true → v k = v' k)) → hdF g v n = hdF g' v' n := by
  intro n
  induction n with
  | zero => intro _; rfl
  | succ n ih =>
    intro h
    rw [hdF, hdF, ih (fun k hk => h k (by omega)), ← (h n (by omega)).1]
    cases q : g n with
    | true => rw [(h n (by omega)).2 q]
    | false => rw [if_neg (fun q => by cases q.1), if_neg (fun q => by cases q.1)]
theorem hdA_cong {g g' : Nat → Bool} {v v' : Nat → Int32} (h : ∀ k, k < 8 → g k = g' k ∧ (g k = true → v k = v' k)) : hdA g v = hdA g' v' := by
  unfold hdA; rw [hd_cong 8 h]
noncomputable def hdV (q a : Int32) (t : TA) (n : Nat) : Int32 := (srG q a n t 0 0).2.2
noncomputable def hdX (h am : Nat → Int32) (t : TA) (n : Nat) : Int32 := hdA (fun k => decide (10 ≤ h k)) (fun k => hdV (h k - 10) (am k) t n)
noncomputable def hdM (h q am : Nat → Int32) (t : TA) (n : Nat) : Int32 := hdA (fun k => decide (h k = 2)) (fun k => hdV (q k) (am k) t n)
/-! who: the first sum does not matter -/
section WH
variable {t : TA} {m n : Nat} {s : Int32}
end WH
section BW
variable {t : TA} {b n p : Nat} {x y r l i : Int32} {tX : TA}
end BW
set_option maxHeartbeats 4000000 in
set_option maxRecDepth 100000 in
theorem x_X6_goes (l : Launch) (G : va_G) (cy : Nat → ClassId) (sz : Nat) (qm : Nat) (v0 : Value) (v1 : Value) (v2 : Value) (v3 : Value) (v4 : Value) (v5 : Value) (v6 : Value) (v7 : Value) (v8 : Value) (v9 : Value) (tA : TA) (qmB : Nat) (qmO : Nat) (qmK : Nat) (iEn : Int32) (iTk : Int32) (v18 : Value) (v19 : Value) (v20 : Value) (v21 : Value) (v22 : Value) (v23 : Value) (v24 : Value) (v25 : Value) (v26 : Value) (iLv : Int32) (iWs : Int32) (v29 : Value) (v30 : Value) (v31 : Value) (v32 : Value) (v33 : Value) (v34 : Value) (rB : Nat → Nat) (rO : Nat → Nat) (rK : Nat → Nat) (iK : Int32) (kM : Nat) (kN : Nat)  (hB : T_nb tA ≤ 8) (hPp : T_np tA ≤ 8) (hWI : WI tA) (hM : kM ≤ 99) (hKn : iK = -1 ∨ Iv iK.toInt64 1 6) (hN60 : kN ≤ 60) : MW l yX6_goes cX6_goes 6 (some .int) 8 0 0 G cy [zzO qm 5 (v0 :: v1 :: v2 :: v3 :: v4 :: v5 :: v6 :: v7 :: v8 :: v9 :: .int (nI (T_nb tA)) :: .ref qmB :: .int (nI (T_np tA)) :: .ref qmO :: .ref qmK :: .int iEn :: .int iTk :: .int (T_sd tA) :: v18 :: v19 :: v20 :: v21 :: v22 :: v23 :: v24 :: v25 :: v26 :: .int iLv :: .int iWs :: v29 :: v30 :: v31 :: v32 :: v33 :: v34 :: []), zzG cy 3 qmB rB, zzI cy (rB 0) 4 (bkR tA 0), zzI cy (rB 1) 4 (bkR tA 1), zzI cy (rB 2) 4 (bkR tA 2), zzI cy (rB 3) 4 (bkR tA 3), zzI cy (rB 4) 4 (bkR tA 4), zzI cy (rB 5) 4 (bkR tA 5), zzI cy (rB 6) 4 (bkR tA 6), zzI cy (rB 7) 4 (bkR tA 7), zzG cy 3 qmO rO, zzI cy (rO 0) 5 (onR tA 0), zzI cy (rO 1) 5 (onR tA 1), zzI cy (rO 2) 5 (onR tA 2), zzI cy (rO 3) 5 (onR tA 3), zzI cy (rO 4) 5 (onR tA 4), zzI cy (rO 5) 5 (onR tA 5), zzI cy (rO 6) 5 (onR tA 6), zzI cy (rO 7) 5 (onR tA 7), zzG cy 3 qmK rK, zzI cy (rK 0) 8 (T_kn tA 0), zzI cy (rK 1) 8 (T_kn tA 1), zzI cy (rK 2) 8 (T_kn tA 2), zzI cy (rK 3) 8 (T_kn tA 3), zzI cy (rK 4) 8 (T_kn tA 4), zzI cy (rK 5) 8 (T_kn tA 5), zzI cy (rK 6) 8 (T_kn tA 6), zzI cy (rK 7) 8 (T_kn tA 7)] sz [.ref qm, .int iK, .int (nI kM), .int (nI kN)] (Wi G (fun r u => ∃ (tX : TA) (iX : Int32) (iY : Int32), u = [zzO qm 5 (v0 :: v1 :: v2 :: v3 :: v4 :: v5 :: v6 :: v7 :: v8 :: v9 :: .int (nI (T_nb tX)) :: .ref qmB :: .int (nI (T_np tX)) :: .ref qmO :: .ref qmK :: .int iX :: .int iTk :: .int (T_sd tX) :: v18 :: v19 :: v20 :: v21 :: v22 :: v23 :: v24 :: v25 :: v26 :: .int iY :: .int iWs :: v29 :: v30 :: v31 :: v32 :: v33 :: v34 :: []), zzG cy 3 qmB rB, zzI cy (rB 0) 4 (bkR tX 0), zzI cy (rB 1) 4 (bkR tX 1), zzI cy (rB 2) 4 (bkR tX 2), zzI cy (rB 3) 4 (bkR tX 3), zzI cy (rB 4) 4 (bkR tX 4), zzI cy (rB 5) 4 (bkR tX 5), zzI cy (rB 6) 4 (bkR tX 6), zzI cy (rB 7) 4 (bkR tX 7), zzG cy 3 qmO rO, zzI cy (rO 0) 5 (onR tX 0), zzI cy (rO 1) 5 (onR tX 1), zzI cy (rO 2) 5 (onR tX 2), zzI cy (rO 3) 5 (onR tX 3), zzI cy (rO 4) 5 (onR tX 4), zzI cy (rO 5) 5 (onR tX 5), zzI cy (rO 6) 5 (onR tX 6), zzI cy (rO 7) 5 (onR tX 7), zzG cy 3 qmK rK, zzI cy (rK 0) 8 (T_kn tX 0), zzI cy (rK 1) 8 (T_kn tX 1), zzI cy (rK 2) 8 (T_kn tX 2), zzI cy (rK 3) 8 (T_kn tX 3), zzI cy (rK 4) 8 (T_kn tX 4), zzI cy (rK 5) 8 (T_kn tX 5), zzI cy (rK 6) 8 (T_kn tX 6), zzI cy (rK 7) 8 (T_kn tX 7)] ∧ (TI tX ∧ T_nb tX = T_nb tA ∧ T_np tX = T_np tA) ∧ (WI tX ∧ (tX, iY, r) = gG iK (nI kM) kN tA iLv 0) ∧ (True))) := by
  refine enW RX6 (by decide +kernel) rfl (Nat.le_of_ble_eq_true rfl) (fun p e s m below meth c ls A hx hb hml hown hts hr hlocks hP hN hl hin hD hA hS => ?_)
  have hin : meth.name = _ := hin
  have hK := hN.1
  replace hl : lv_has ls 6 [(0, .ref qm), (1, .int iK), (2, .int (nI kM)), (3, .int (nI kN))] := hl
  refine lv_iconst (v := 0) hx hb (g_3 bX6_goes rfl) (by decide +kernel) ?_
  refine lv_istore (lv' := [(4, .int 0), (0, .ref qm), (1, .int iK), (2, .int (nI kM)), (3, .int (nI kN))]) hx hb (g_54 (v := 4) bX6_goes rfl) hl (by decide +kernel) rfl (fun ls => ?_)
  clear hl
  intro hl
  refine lv_iconst (v := 0) hx hb (g_3 bX6_goes rfl) (by decide +kernel) ?_
  refine lv_istore (lv' := [(5, .int 0), (4, .int 0), (0, .ref qm), (1, .int iK), (2, .int (nI kM)), (3, .int (nI kN))]) hx hb (g_54 (v := 5) bX6_goes rfl) hl (by decide +kernel) rfl (fun ls => ?_)
  clear hl
  intro hl
  have lp_1 : ∀ (n_2 : Nat) (j_4 : Nat) (tJ_5 : TA) (xS_6 : Int32) (xE_7 : Int32) (xL_8 : Int32), 60 - j_4 < n_2 → j_4 ≤ kN → TI tJ_5 ∧ T_nb tJ_5 = T_nb tA ∧ T_np tJ_5 = T_np tA → WI tJ_5 → gG iK (nI kM) (kN - j_4) tJ_5 xL_8 xS_6 = gG iK (nI kM) kN tA iLv 0 → ∀ (H : Heap) (locs : List Loc) (ls : Array Slot), va_P G CL [zzO qm 5 (v0 :: v1 :: v2 :: v3 :: v4 :: v5 :: v6 :: v7 :: v8 :: v9 :: .int (nI (T_nb tJ_5)) :: .ref qmB :: .int (nI (T_np tJ_5)) :: .ref qmO :: .ref qmK :: .int xE_7 :: .int iTk :: .int (T_sd tJ_5) :: v18 :: v19 :: v20 :: v21 :: v22 :: v23 :: v24 :: v25 :: v26 :: .int xL_8 :: .int iWs :: v29 :: v30 :: v31 :: v32 :: v33 :: v34 :: []), zzG cy 3 qmB rB, zzI cy (rB 0) 4 (bkR tJ_5 0), zzI cy (rB 1) 4 (bkR tJ_5 1), zzI cy (rB 2) 4 (bkR tJ_5 2), zzI cy (rB 3) 4 (bkR tJ_5 3), zzI cy (rB 4) 4 (bkR tJ_5 4), zzI cy (rB 5) 4 (bkR tJ_5 5), zzI cy (rB 6) 4 (bkR tJ_5 6), zzI cy (rB 7) 4 (bkR tJ_5 7), zzG cy 3 qmO rO, zzI cy (rO 0) 5 (onR tJ_5 0), zzI cy (rO 1) 5 (onR tJ_5 1), zzI cy (rO 2) 5 (onR tJ_5 2), zzI cy (rO 3) 5 (onR tJ_5 3), zzI cy (rO 4) 5 (onR tJ_5 4), zzI cy (rO 5) 5 (onR tJ_5 5), zzI cy (rO 6) 5 (onR tJ_5 6), zzI cy (rO 7) 5 (onR tJ_5 7), zzG cy 3 qmK rK, zzI cy (rK 0) 8 (T_kn tJ_5 0), zzI cy (rK 1) 8 (T_kn tJ_5 1), zzI cy (rK 2) 8 (T_kn tJ_5 2), zzI cy (rK 3) 8 (T_kn tJ_5 3), zzI cy (rK 4) 8 (T_kn tJ_5 4), zzI cy (rK 5) 8 (T_kn tJ_5 5), zzI cy (rK 6) 8 (T_kn tJ_5 6), zzI cy (rK 7) 8 (T_kn tJ_5 7)] H → va_D A [zzO qm 5 (v0 :: v1 :: v2 :: v3 :: v4 :: v5 :: v6 :: v7 :: v8 :: v9 :: .int (nI (T_nb tJ_5)) :: .ref qmB :: .int (nI (T_np tJ_5)) :: .ref qmO :: .ref qmK :: .int xE_7 :: .int iTk :: .int (T_sd tJ_5) :: v18 :: v19 :: v20 :: v21 :: v22 :: v23 :: v24 :: v25 :: v26 :: .int xL_8 :: .int iWs :: v29 :: v30 :: v31 :: v32 :: v33 :: v34 :: []), zzG cy 3 qmB rB, zzI cy (rB 0) 4 (bkR tJ_5 0), zzI cy (rB 1) 4 (bkR tJ_5 1), zzI cy (rB 2) 4 (bkR tJ_5 2), zzI cy (rB 3) 4 (bkR tJ_5 3), zzI cy (rB 4) 4 (bkR tJ_5 4), zzI cy (rB 5) 4 (bkR tJ_5 5), zzI cy (rB 6) 4 (bkR tJ_5 6), zzI cy (rB 7) 4 (bkR tJ_5 7), zzG cy 3 qmO rO, zzI cy (rO 0) 5 (onR tJ_5 0), zzI cy (rO 1) 5 (onR tJ_5 1), zzI cy (rO 2) 5 (onR tJ_5 2), zzI cy (rO 3) 5 (onR tJ_5 3), zzI cy (rO 4) 5 (onR tJ_5 4), zzI cy (rO 5) 5 (onR tJ_5 5), zzI cy (rO 6) 5 (onR tJ_5 6), zzI cy (rO 7) 5 (onR tJ_5 7), zzG cy 3 qmK rK, zzI cy (rK 0) 8 (T_kn tJ_5 0), zzI cy (rK 1) 8 (T_kn tJ_5 1), zzI cy (rK 2) 8 (T_kn tJ_5 2), zzI cy (rK 3) 8 (T_kn tJ_5 3), zzI cy (rK 4) 8 (T_kn tJ_5 4), zzI cy (rK 5) 8 (T_kn tJ_5 5), zzI cy (rK 6) 8 (T_kn tJ_5 6), zzI cy (rK 7) 8 (T_kn tJ_5 7)] → va_S A s.heap H locs → lv_has ls 6 [(5, .int (nI j_4)), (4, .int xS_6), (0, .ref qm), (1, .int iK), (2, .int (nI kM)), (3, .int (nI kN))] → W p l e (Rm 8 0 0) s m (List.toArray (α := Value) [.ref qm, .int iK, .int (nI kM), .int (nI kN)]) below meth c H locs 0 0 (MQ below ((Wi G (fun r u => ∃ (tX : TA) (iX : Int32) (iY : Int32), u = [zzO qm 5 (v0 :: v1 :: v2 :: v3 :: v4 :: v5 :: v6 :: v7 :: v8 :: v9 :: .int (nI (T_nb tX)) :: .ref qmB :: .int (nI (T_np tX)) :: .ref qmO :: .ref qmK :: .int iX :: .int iTk :: .int (T_sd tX) :: v18 :: v19 :: v20 :: v21 :: v22 :: v23 :: v24 :: v25 :: v26 :: .int iY :: .int iWs :: v29 :: v30 :: v31 :: v32 :: v33 :: v34 :: []), zzG cy 3 qmB rB, zzI cy (rB 0) 4 (bkR tX 0), zzI cy (rB 1) 4 (bkR tX 1), zzI cy (rB 2) 4 (bkR tX 2), zzI cy (rB 3) 4 (bkR tX 3), zzI cy (rB 4) 4 (bkR tX 4), zzI cy (rB 5) 4 (bkR tX 5), zzI cy (rB 6) 4 (bkR tX 6), zzI cy (rB 7) 4 (bkR tX 7), zzG cy 3 qmO rO, zzI cy (rO 0) 5 (onR tX 0), zzI cy (rO 1) 5 (onR tX 1), zzI cy (rO 2) 5 (onR tX 2), zzI cy (rO 3) 5 (onR tX 3), zzI cy (rO 4) 5 (onR tX 4), zzI cy (rO 5) 5 (onR tX 5), zzI cy (rO 6) 5 (onR tX 6), zzI cy (rO 7) 5 (onR tX 7), zzG cy 3 qmK rK, zzI cy (rK 0) 8 (T_kn tX 0), zzI cy (rK 1) 8 (T_kn tX 1), zzI cy (rK 2) 8 (T_kn tX 2), zzI cy (rK 3) 8 (T_kn tX 3), zzI cy (rK 4) 8 (T_kn tX 4), zzI cy (rK 5) 8 (T_kn tX 5), zzI cy (rK 6) 8 (T_kn tX 6), zzI cy (rK 7) 8 (T_kn tX 7)] ∧ (TI tX ∧ T_nb tX = T_nb tA ∧ T_np tX = T_np tA) ∧ (WI tX ∧ (tX, iY, r) = gG iK (nI kM) kN tA iLv 0) ∧ (True))) A) (List.toArray (α := Value) [.ref qm, .int iK, .int (nI kM), .int (nI kN)]) s 0 0 A) (F0 m 6 ls []) := by
    intro n_2
    induction n_2 with
    | zero => intro j_4 tJ_5 xS_6 xE_7 xL_8 hm9; exact absurd hm9 (Nat.not_lt_zero _)
    | succ n_2 ih_3 =>
      intro j_4 tJ_5 xS_6 xE_7 xL_8 hm_13 hj_9 hT_10 hW_11 hG_12 H locs ls hP hD hS hl
      refine lv_iload hx hb (g_21 (v := 5) bX6_goes rfl) (lv_at hl 0 rfl) ?_
      refine lv_iload_n hx hb (g_29 bX6_goes rfl) rfl (lv_at hl 5 rfl) ?_
      refine lv_icmp_ge (tgt := 52) hx hb dX6_goes_9 (by decide +kernel) (fun c_14 => ?_) (fun c_14 => ?_)
      · have hlt_15 : j_4 = kN := Nat.le_antisymm (by omega) (lp_ge rfl rfl (by omega) (by omega) c_14)
        refine lv_iload hx hb (g_21 (v := 4) bX6_goes rfl) (lv_at hl 1 rfl) ?_
        exact endW (u := [zzO qm 5 (v0 :: v1 :: v2 :: v3 :: v4 :: v5 :: v6 :: v7 :: v8 :: v9 :: .int (nI (T_nb tJ_5)) :: .ref qmB :: .int (nI (T_np tJ_5)) :: .ref qmO :: .ref qmK :: .int xE_7 :: .int iTk :: .int (T_sd tJ_5) :: v18 :: v19 :: v20 :: v21 :: v22 :: v23 :: v24 :: v25 :: v26 :: .int xL_8 :: .int iWs :: v29 :: v30 :: v31 :: v32 :: v33 :: v34 :: []), zzG cy 3 qmB rB, zzI cy (rB 0) 4 (bkR tJ_5 0), zzI cy (rB 1) 4 (bkR tJ_5 1), zzI cy (rB 2) 4 (bkR tJ_5 2), zzI cy (rB 3) 4 (bkR tJ_5 3), zzI cy (rB 4) 4 (bkR tJ_5 4), zzI cy (rB 5) 4 (bkR tJ_5 5), zzI cy (rB 6) 4 (bkR tJ_5 6), zzI cy (rB 7) 4 (bkR tJ_5 7), zzG cy 3 qmO rO, zzI cy (rO 0) 5 (onR tJ_5 0), zzI cy (rO 1) 5 (onR tJ_5 1), zzI cy (rO 2) 5 (onR tJ_5 2), zzI cy (rO 3) 5 (onR tJ_5 3), zzI cy (rO 4) 5 (onR tJ_5 4), zzI cy (rO 5) 5 (onR tJ_5 5), zzI cy (rO 6) 5 (onR tJ_5 6), zzI cy (rO 7) 5 (onR tJ_5 7), zzG cy 3 qmK rK, zzI cy (rK 0) 8 (T_kn tJ_5 0), zzI cy (rK 1) 8 (T_kn tJ_5 1), zzI cy (rK 2) 8 (T_kn tJ_5 2), zzI cy (rK 3) 8 (T_kn tJ_5 3), zzI cy (rK 4) 8 (T_kn tJ_5 4), zzI cy (rK 5) 8 (T_kn tJ_5 5), zzI cy (rK 6) 8 (T_kn tJ_5 6), zzI cy (rK 7) 8 (T_kn tJ_5 7)]) hx hb hr hlocks rfl (pSb hP [[true, true, true, true, true, true, true, true, true, true, true, true, true, true, true, true, true, true, true, true, true, true, true, true, true, true, true, true]] rfl rfl) (dSb hD [[true, true, true, true, true, true, true, true, true, true, true, true, true, true, true, true, true, true, true, true, true, true, true, true, true, true, true, true]] (by decide +kernel) rfl rfl) hS ⟨tJ_5, xE_7, xL_8, rfl, hT_10, ⟨hW_11, by have h9 := hG_12; rw [hlt_15, Nat.sub_self] at h9; exact h9⟩, trivial⟩ (g_172 bX6_goes rfl)
      · have hlt_16 : j_4 < kN := lp_lt rfl rfl (by omega) (by omega) c_14
        obtain ⟨hlt_16i, hlt_16b, hlt_16p⟩ := id hT_10
        refine lv_iload_n hx hb (g_27 bX6_goes rfl) rfl (lv_at hl 3 rfl) ?_
        refine lv_iconst (v := (-1)) hx hb (g_2 bX6_goes rfl) (by decide +kernel) ?_
        refine lv_icmp_eq (tgt := 24) hx hb dX6_goes_14 (by decide +kernel) (fun c_17 => ?_) (fun c_17 => ?_)
        · refine lv_aload_n hx hb (g_42 bX6_goes rfl) rfl (lv_at hl 2 rfl) ?_
          refine lv_aload_n hx hb (g_42 bX6_goes rfl) rfl (lv_at hl 2 rfl) ?_
          refine kRi (rV (As := []) (rest := [.ref qm]) (b := qm) ⟨hx, hb, hml, hown, hts⟩ (c_X6_valueNow l G cy qm v0 v1 v2 v3 v4 v5 v6 v7 v8 v9 tJ_5 qmB qmO qmK xE_7 iTk v18 v19 v20 v21 v22 v23 v24 v25 v26 xL_8 iWs v29 v30 v31 v32 v33 v34 rB rO rK (by omega) (by omega)) L_X6_122 (preRV (q := (RX6, TX6, 35)) hN hP (trueIx 0 [true, true, true, true, true, true, true, true, true, true, true, true, true, true, true, true, true, true, true, true, true, true, true, true, true, true, true, true]) (sel_fm rfl rfl) 0 5 rfl rfl) rfl ⟨Nat.le_of_ble_eq_true rfl, Nat.le_of_ble_eq_true rfl⟩ hl.1 (Nat.le_of_ble_eq_true rfl) (g_182 (v := 122) bX6_goes rfl) ⟨Nat.le_of_ble_eq_true rfl, Nat.le_of_ble_eq_true rfl⟩) (fun r_18 h_19 => ?_)
          subst h_19
          refine va_put (D := G) (ci := 5) (v := .int (mvo tJ_5 ((1 <<< (nI (T_np tJ_5) &&& 31)) - 1))) (ty := .int) (C := RX6) (T := TX6) (N := 35) hx hb hts iX_X6 tyX6 tyX6_ok nmX6 hown hK hP hD hS 0 rfl rfl 27 (by decide +kernel) (hts _ m_t877) (fun _ h9 => h9) rfl (by decide +kernel) rfl rfl (Nat.le_of_ble_eq_true rfl) (g_181 (v := 292) bX6_goes rfl) (fun H locs => ?_)
          clear hP hD hS
          intro hP hD hS
          have hPD := pd_as [zzO qm 5 (v0 :: v1 :: v2 :: v3 :: v4 :: v5 :: v6 :: v7 :: v8 :: v9 :: .int (nI (T_nb tJ_5)) :: .ref qmB :: .int (nI (T_np tJ_5)) :: .ref qmO :: .ref qmK :: .int xE_7 :: .int iTk :: .int (T_sd tJ_5) :: v18 :: v19 :: v20 :: v21 :: v22 :: v23 :: v24 :: v25 :: v26 :: .int (mvo tJ_5 ((1 <<< (nI (T_np tJ_5) &&& 31)) - 1)) :: .int iWs :: v29 :: v30 :: v31 :: v32 :: v33 :: v34 :: []), _, zzI cy (rB 0) 4 (bkR tJ_5 0), zzI cy (rB 1) 4 (bkR tJ_5 1), zzI cy (rB 2) 4 (bkR tJ_5 2), zzI cy (rB 3) 4 (bkR tJ_5 3), zzI cy (rB 4) 4 (bkR tJ_5 4), zzI cy (rB 5) 4 (bkR tJ_5 5), zzI cy (rB 6) 4 (bkR tJ_5 6), zzI cy (rB 7) 4 (bkR tJ_5 7), _, zzI cy (rO 0) 5 (onR tJ_5 0), zzI cy (rO 1) 5 (onR tJ_5 1), zzI cy (rO 2) 5 (onR tJ_5 2), zzI cy (rO 3) 5 (onR tJ_5 3), zzI cy (rO 4) 5 (onR tJ_5 4), zzI cy (rO 5) 5 (onR tJ_5 5), zzI cy (rO 6) 5 (onR tJ_5 6), zzI cy (rO 7) 5 (onR tJ_5 7), _, zzI cy (rK 0) 8 (T_kn tJ_5 0), zzI cy (rK 1) 8 (T_kn tJ_5 1), zzI cy (rK 2) 8 (T_kn tJ_5 2), zzI cy (rK 3) 8 (T_kn tJ_5 3), zzI cy (rK 4) 8 (T_kn tJ_5 4), zzI cy (rK 5) 8 (T_kn tJ_5 5), zzI cy (rK 6) 8 (T_kn tJ_5 6), zzI cy (rK 7) 8 (T_kn tJ_5 7)] hP hD rfl
          clear hP hD
          obtain ⟨hP, hD⟩ := hPD
          refine lv_iload hx hb (g_21 (v := 4) bX6_goes rfl) (lv_at hl 1 rfl) ?_
          refine lv_aload_n hx hb (g_42 bX6_goes rfl) rfl (lv_at hl 2 rfl) ?_
          refine va_get (D := G) (ci := 5) (v := .int (mvo tJ_5 ((1 <<< (nI (T_np tJ_5) &&& 31)) - 1))) (C := RX6) (T := TX6) (N := 35) hx hb hts iX_X6 hown hK hP 0 rfl rfl 27 (by decide +kernel) (hts _ m_t877) (fun _ h9 => h9) rfl (g_180 (v := 292) bX6_goes rfl) ?_
          refine lv_iadd hx hb (g_96 bX6_goes rfl) ?_
          refine lv_istore (lv' := [(4, .int (xS_6 + (mvo tJ_5 ((1 <<< (nI (T_np tJ_5) &&& 31)) - 1)))), (5, .int (nI j_4)), (0, .ref qm), (1, .int iK), (2, .int (nI kM)), (3, .int (nI kN))]) hx hb (g_54 (v := 4) bX6_goes rfl) hl (by decide +kernel) rfl (fun ls => ?_)
          clear hl
          intro hl
          refine lv_aload_n hx hb (g_42 bX6_goes rfl) rfl (lv_at hl 2 rfl) ?_
          refine cVi (As := []) (rest := []) (b := qm) (q := (RX6, TX6, 35)) ⟨hx, hb, hml, hown, hts⟩ (x_X6_end l G cy (H).size qm v0 v1 v2 v3 v4 v5 v6 v7 v8 v9 tJ_5 qmB qmO qmK xE_7 iTk v18 v19 v20 v21 v22 v23 v24 v25 v26 (mvo tJ_5 ((1 <<< (nI (T_np tJ_5) &&& 31)) - 1)) iWs v29 v30 v31 v32 v33 v34 rB rO rK (by omega) (by omega) hlt_16i hW_11.2.2) L_X6_288 hN hP hD hS hA (trueIx 0 [true, true, true, true, true, true, true, true, true, true, true, true, true, true, true, true, true, true, true, true, true, true, true, true, true, true, true, true]) [false, false, false, false, false, false, false, false, false, false, false, false, false, false, false, false, false, false, false, false, false, false, false, false, false, false, false, false] (sel_eq rfl rfl) (by decide +kernel) rfl 0 5 rfl rfl rfl ⟨Nat.le_of_ble_eq_true rfl, Nat.le_of_ble_eq_true rfl⟩ hl.1 (Nat.le_of_ble_eq_true rfl) (g_182 (v := 288) bX6_goes rfl) ⟨Nat.le_of_ble_eq_true rfl, Nat.le_of_ble_eq_true rfl⟩ (fun r_20 u_22 H locs h_21 => ?_)
          clear hP hD hS
          intro hP hD hS
          obtain ⟨tX_23, iX_24, hu9, h_25, h_26, h_21⟩ := h_21
          have hPD := pd_eq [zzO qm 5 (v0 :: v1 :: v2 :: v3 :: v4 :: v5 :: v6 :: v7 :: v8 :: v9 :: .int (nI (T_nb tX_23)) :: .ref qmB :: .int (nI (T_np tX_23)) :: .ref qmO :: .ref qmK :: .int iX_24 :: .int iTk :: .int (T_sd tX_23) :: v18 :: v19 :: v20 :: v21 :: v22 :: v23 :: v24 :: v25 :: v26 :: .int (mvo tJ_5 ((1 <<< (nI (T_np tJ_5) &&& 31)) - 1)) :: .int iWs :: v29 :: v30 :: v31 :: v32 :: v33 :: v34 :: []), _, zzI cy (rB 0) 4 (bkR tX_23 0), zzI cy (rB 1) 4 (bkR tX_23 1), zzI cy (rB 2) 4 (bkR tX_23 2), zzI cy (rB 3) 4 (bkR tX_23 3), zzI cy (rB 4) 4 (bkR tX_23 4), zzI cy (rB 5) 4 (bkR tX_23 5), zzI cy (rB 6) 4 (bkR tX_23 6), zzI cy (rB 7) 4 (bkR tX_23 7), _, zzI cy (rO 0) 5 (onR tX_23 0), zzI cy (rO 1) 5 (onR tX_23 1), zzI cy (rO 2) 5 (onR tX_23 2), zzI cy (rO 3) 5 (onR tX_23 3), zzI cy (rO 4) 5 (onR tX_23 4), zzI cy (rO 5) 5 (onR tX_23 5), zzI cy (rO 6) 5 (onR tX_23 6), zzI cy (rO 7) 5 (onR tX_23 7), _, zzI cy (rK 0) 8 (T_kn tX_23 0), zzI cy (rK 1) 8 (T_kn tX_23 1), zzI cy (rK 2) 8 (T_kn tX_23 2), zzI cy (rK 3) 8 (T_kn tX_23 3), zzI cy (rK 4) 8 (T_kn tX_23 4), zzI cy (rK 5) 8 (T_kn tX_23 5), zzI cy (rK 6) 8 (T_kn tX_23 6), zzI cy (rK 7) 8 (T_kn tX_23 7)] hP hD hu9 rfl
          clear hP hD hu9
          obtain ⟨hP, hD⟩ := hPD
          refine lv_pop hx hb (g_87 bX6_goes rfl) rfl ?_
          refine lv_iinc (v := nI (j_4 + 1)) (lv' := [(5, .int (nI (j_4 + 1))), (4, .int (xS_6 + (mvo tJ_5 ((1 <<< (nI (T_np tJ_5) &&& 31)) - 1)))), (0, .ref qm), (1, .int iK), (2, .int (nI kM)), (3, .int (nI kN))]) hx hb dX6_goes_46 hl (k := 1) rfl (nI_1 _) (by decide +kernel) rfl (fun ls => ?_)
          clear hl
          intro hl
          refine lv_goto (tgt := 6) hx hb dX6_goes_49 (by decide +kernel) ?_
          exact ih_3 (j_4 + 1) tX_23 (xS_6 + (mvo tJ_5 ((1 <<< (nI (T_np tJ_5) &&& 31)) - 1))) iX_24 (mvo tJ_5 ((1 <<< (nI (T_np tJ_5) &&& 31)) - 1)) (by omega) (by omega) (⟨h_25.1, h_25.2.1.trans hT_10.2.1, h_25.2.2.trans hT_10.2.2⟩) (by rw [h_26]; exact WI_ey hW_11) (by have q9 := hG_12; rw [show kN - j_4 = kN - (j_4 + 1) + 1 by omega] at q9; exact gg_st q9 (by rw [h_26, c_17]; rfl) (by rw [mvo_all (by omega), c_17]; rfl)) _ _ _ hP hD hS (lv_sub hl [0, 1, 2, 3, 4, 5] rfl)
        · refine lv_aload_n hx hb (g_42 bX6_goes rfl) rfl (lv_at hl 2 rfl) ?_
          refine lv_iload_n hx hb (g_27 bX6_goes rfl) rfl (lv_at hl 3 rfl) ?_
          refine lv_iload_n hx hb (g_28 bX6_goes rfl) rfl (lv_at hl 4 rfl) ?_
          refine cVi (As := [.int iK, .int (nI kM)]) (rest := []) (b := qm) (q := (RX6, TX6, 35)) ⟨hx, hb, hml, hown, hts⟩ (x_X6_does l G cy (H).size qm v0 v1 v2 v3 v4 v5 v6 v7 v8 v9 tJ_5 qmB qmO qmK xE_7 iTk v18 v19 v20 v21 v22 v23 v24 v25 v26 xL_8 iWs v29 v30 v31 v32 v33 v34 rB rO rK iK kM (by omega) (by omega) hW_11 hM (hKn.resolve_left c_17)) L_X6_114 hN hP hD hS hA (trueIx 0 [true, true, true, true, true, true, true, true, true, true, true, true, true, true, true, true, true, true, true, true, true, true, true, true, true, true, true, true]) [false, false, false, false, false, false, false, false, false, false, false, false, false, false, false, false, false, false, false, false, false, false, false, false, false, false, false, false] (sel_eq rfl rfl) (by decide +kernel) rfl 0 5 rfl rfl rfl ⟨Nat.le_of_ble_eq_true rfl, Nat.le_of_ble_eq_true rfl⟩ hl.1 (Nat.le_of_ble_eq_true rfl) (g_182 (v := 114) bX6_goes rfl) ⟨Nat.le_of_ble_eq_true rfl, Nat.le_of_ble_eq_true rfl⟩ (fun r_27 u_29 H locs h_28 => ?_)
          clear hP hD hS
          intro hP hD hS
          obtain ⟨tX_30, hu9, h_31, h_32, h_28⟩ := h_28
          have hPD := pd_eq [zzO qm 5 (v0 :: v1 :: v2 :: v3 :: v4 :: v5 :: v6 :: v7 :: v8 :: v9 :: .int (nI (T_nb tX_30)) :: .ref qmB :: .int (nI (T_np tX_30)) :: .ref qmO :: .ref qmK :: .int xE_7 :: .int iTk :: .int (T_sd tX_30) :: v18 :: v19 :: v20 :: v21 :: v22 :: v23 :: v24 :: v25 :: v26 :: .int xL_8 :: .int iWs :: v29 :: v30 :: v31 :: v32 :: v33 :: v34 :: []), _, zzI cy (rB 0) 4 (bkR tX_30 0), zzI cy (rB 1) 4 (bkR tX_30 1), zzI cy (rB 2) 4 (bkR tX_30 2), zzI cy (rB 3) 4 (bkR tX_30 3), zzI cy (rB 4) 4 (bkR tX_30 4), zzI cy (rB 5) 4 (bkR tX_30 5), zzI cy (rB 6) 4 (bkR tX_30 6), zzI cy (rB 7) 4 (bkR tX_30 7), _, zzI cy (rO 0) 5 (onR tX_30 0), zzI cy (rO 1) 5 (onR tX_30 1), zzI cy (rO 2) 5 (onR tX_30 2), zzI cy (rO 3) 5 (onR tX_30 3), zzI cy (rO 4) 5 (onR tX_30 4), zzI cy (rO 5) 5 (onR tX_30 5), zzI cy (rO 6) 5 (onR tX_30 6), zzI cy (rO 7) 5 (onR tX_30 7), _, zzI cy (rK 0) 8 (T_kn tX_30 0), zzI cy (rK 1) 8 (T_kn tX_30 1), zzI cy (rK 2) 8 (T_kn tX_30 2), zzI cy (rK 3) 8 (T_kn tX_30 3), zzI cy (rK 4) 8 (T_kn tX_30 4), zzI cy (rK 5) 8 (T_kn tX_30 5), zzI cy (rK 6) 8 (T_kn tX_30 6), zzI cy (rK 7) 8 (T_kn tX_30 7)] hP hD hu9 rfl
          clear hP hD hu9
          obtain ⟨hP, hD⟩ := hPD
          have hw_33 : WI tX_30 := by rw [h_32.1]; exact WI_act hW_11
          refine lv_pop hx hb (g_87 bX6_goes rfl) rfl ?_
          refine lv_aload_n hx hb (g_42 bX6_goes rfl) rfl (lv_at hl 2 rfl) ?_
          refine lv_aload_n hx hb (g_42 bX6_goes rfl) rfl (lv_at hl 2 rfl) ?_
          refine kRi (rV (As := []) (rest := [.ref qm]) (b := qm) ⟨hx, hb, hml, hown, hts⟩ (c_X6_valueNow l G cy qm v0 v1 v2 v3 v4 v5 v6 v7 v8 v9 tX_30 qmB qmO qmK xE_7 iTk v18 v19 v20 v21 v22 v23 v24 v25 v26 xL_8 iWs v29 v30 v31 v32 v33 v34 rB rO rK (by omega) (by omega)) L_X6_122 (preRV (q := (RX6, TX6, 35)) hN hP (trueIx 0 [true, true, true, true, true, true, true, true, true, true, true, true, true, true, true, true, true, true, true, true, true, true, true, true, true, true, true, true]) (sel_fm rfl rfl) 0 5 rfl rfl) rfl ⟨Nat.le_of_ble_eq_true rfl, Nat.le_of_ble_eq_true rfl⟩ hl.1 (Nat.le_of_ble_eq_true rfl) (g_182 (v := 122) bX6_goes rfl) ⟨Nat.le_of_ble_eq_true rfl, Nat.le_of_ble_eq_true rfl⟩) (fun r_34 h_35 => ?_)
          subst h_35
          refine va_put (D := G) (ci := 5) (v := .int (mvo tX_30 ((1 <<< (nI (T_np tX_30) &&& 31)) - 1))) (ty := .int) (C := RX6) (T := TX6) (N := 35) hx hb hts iX_X6 tyX6 tyX6_ok nmX6 hown hK hP hD hS 0 rfl rfl 27 (by decide +kernel) (hts _ m_t877) (fun _ h9 => h9) rfl (by decide +kernel) rfl rfl (Nat.le_of_ble_eq_true rfl) (g_181 (v := 292) bX6_goes rfl) (fun H locs => ?_)
          clear hP hD hS
          intro hP hD hS
          have hPD := pd_as [zzO qm 5 (v0 :: v1 :: v2 :: v3 :: v4 :: v5 :: v6 :: v7 :: v8 :: v9 :: .int (nI (T_nb tX_30)) :: .ref qmB :: .int (nI (T_np tX_30)) :: .ref qmO :: .ref qmK :: .int xE_7 :: .int iTk :: .int (T_sd tX_30) :: v18 :: v19 :: v20 :: v21 :: v22 :: v23 :: v24 :: v25 :: v26 :: .int (mvo tX_30 ((1 <<< (nI (T_np tX_30) &&& 31)) - 1)) :: .int iWs :: v29 :: v30 :: v31 :: v32 :: v33 :: v34 :: []), _, _, _, _, _, _, _, _, _, _, _, _, _, _, _, _, _, _, _, _, _, _, _, _, _, _, _] hP hD rfl
          clear hP hD
          obtain ⟨hP, hD⟩ := hPD
          refine lv_iload hx hb (g_21 (v := 4) bX6_goes rfl) (lv_at hl 1 rfl) ?_
          refine lv_aload_n hx hb (g_42 bX6_goes rfl) rfl (lv_at hl 2 rfl) ?_
          refine va_get (D := G) (ci := 5) (v := .int (mvo tX_30 ((1 <<< (nI (T_np tX_30) &&& 31)) - 1))) (C := RX6) (T := TX6) (N := 35) hx hb hts iX_X6 hown hK hP 0 rfl rfl 27 (by decide +kernel) (hts _ m_t877) (fun _ h9 => h9) rfl (g_180 (v := 292) bX6_goes rfl) ?_
          refine lv_iadd hx hb (g_96 bX6_goes rfl) ?_
          refine lv_istore (lv' := [(4, .int (xS_6 + (mvo tX_30 ((1 <<< (nI (T_np tX_30) &&& 31)) - 1)))), (5, .int (nI j_4)), (0, .ref qm), (1, .int iK), (2, .int (nI kM)), (3, .int (nI kN))]) hx hb (g_54 (v := 4) bX6_goes rfl) hl (by decide +kernel) rfl (fun ls => ?_)
          clear hl
          intro hl
          refine lv_aload_n hx hb (g_42 bX6_goes rfl) rfl (lv_at hl 2 rfl) ?_
          refine cVi (As := []) (rest := []) (b := qm) (q := (RX6, TX6, 35)) ⟨hx, hb, hml, hown, hts⟩ (x_X6_end l G cy (H).size qm v0 v1 v2 v3 v4 v5 v6 v7 v8 v9 tX_30 qmB qmO qmK xE_7 iTk v18 v19 v20 v21 v22 v23 v24 v25 v26 (mvo tX_30 ((1 <<< (nI (T_np tX_30) &&& 31)) - 1)) iWs v29 v30 v31 v32 v33 v34 rB rO rK (by omega) (by omega) h_31.1 hw_33.2.2) L_X6_288 hN hP hD hS hA (trueIx 0 [true, true, true, true, true, true, true, true, true, true, true, true, true, true, true, true, true, true, true, true, true, true, true, true, true, true, true, true]) [false, false, false, false, false, false, false, false, false, false, false, false, false, false, false, false, false, false, false, false, false, false, false, false, false, false, false, false] (sel_eq rfl rfl) (by decide +kernel) rfl 0 5 rfl rfl rfl ⟨Nat.le_of_ble_eq_true rfl, Nat.le_of_ble_eq_true rfl⟩ hl.1 (Nat.le_of_ble_eq_true rfl) (g_182 (v := 288) bX6_goes rfl) ⟨Nat.le_of_ble_eq_true rfl, Nat.le_of_ble_eq_true rfl⟩ (fun r_36 u_38 H locs h_37 => ?_)
          clear hP hD hS
          intro hP hD hS
          obtain ⟨tX_39, iX_40, hu9, h_41, h_42, h_37⟩ := h_37
          have hPD := pd_eq [zzO qm 5 (v0 :: v1 :: v2 :: v3 :: v4 :: v5 :: v6 :: v7 :: v8 :: v9 :: .int (nI (T_nb tX_39)) :: .ref qmB :: .int (nI (T_np tX_39)) :: .ref qmO :: .ref qmK :: .int iX_40 :: .int iTk :: .int (T_sd tX_39) :: v18 :: v19 :: v20 :: v21 :: v22 :: v23 :: v24 :: v25 :: v26 :: .int (mvo tX_30 ((1 <<< (nI (T_np tX_30) &&& 31)) - 1)) :: .int iWs :: v29 :: v30 :: v31 :: v32 :: v33 :: v34 :: []), _, zzI cy (rB 0) 4 (bkR tX_39 0), zzI cy (rB 1) 4 (bkR tX_39 1), zzI cy (rB 2) 4 (bkR tX_39 2), zzI cy (rB 3) 4 (bkR tX_39 3), zzI cy (rB 4) 4 (bkR tX_39 4), zzI cy (rB 5) 4 (bkR tX_39 5), zzI cy (rB 6) 4 (bkR tX_39 6), zzI cy (rB 7) 4 (bkR tX_39 7), _, zzI cy (rO 0) 5 (onR tX_39 0), zzI cy (rO 1) 5 (onR tX_39 1), zzI cy (rO 2) 5 (onR tX_39 2), zzI cy (rO 3) 5 (onR tX_39 3), zzI cy (rO 4) 5 (onR tX_39 4), zzI cy (rO 5) 5 (onR tX_39 5), zzI cy (rO 6) 5 (onR tX_39 6), zzI cy (rO 7) 5 (onR tX_39 7), _, zzI cy (rK 0) 8 (T_kn tX_39 0), zzI cy (rK 1) 8 (T_kn tX_39 1), zzI cy (rK 2) 8 (T_kn tX_39 2), zzI cy (rK 3) 8 (T_kn tX_39 3), zzI cy (rK 4) 8 (T_kn tX_39 4), zzI cy (rK 5) 8 (T_kn tX_39 5), zzI cy (rK 6) 8 (T_kn tX_39 6), zzI cy (rK 7) 8 (T_kn tX_39 7)] hP hD hu9 rfl
          clear hP hD hu9
          obtain ⟨hP, hD⟩ := hPD
          refine lv_pop hx hb (g_87 bX6_goes rfl) rfl ?_
          refine lv_iinc (v := nI (j_4 + 1)) (lv' := [(5, .int (nI (j_4 + 1))), (4, .int (xS_6 + (mvo tX_30 ((1 <<< (nI (T_np tX_30) &&& 31)) - 1)))), (0, .ref qm), (1, .int iK), (2, .int (nI kM)), (3, .int (nI kN))]) hx hb dX6_goes_46 hl (k := 1) rfl (nI_1 _) (by decide +kernel) rfl (fun ls => ?_)
          clear hl
          intro hl
          refine lv_goto (tgt := 6) hx hb dX6_goes_49 (by decide +kernel) ?_
          exact ih_3 (j_4 + 1) tX_39 (xS_6 + (mvo tX_30 ((1 <<< (nI (T_np tX_30) &&& 31)) - 1))) iX_40 (mvo tX_30 ((1 <<< (nI (T_np tX_30) &&& 31)) - 1)) (by omega) (by omega) (⟨h_41.1, h_41.2.1.trans (h_31.2.1.trans hT_10.2.1), h_41.2.2.trans (h_31.2.2.trans hT_10.2.2)⟩) (by rw [h_42]; exact WI_ey hw_33) (by have q9 := hG_12; rw [show kN - j_4 = kN - (j_4 + 1) + 1 by omega] at q9; exact gg_st q9 (by rw [h_42, h_32.1]) (by rw [mvo_all (by omega), h_32.1])) _ _ _ hP hD hS (lv_sub hl [0, 1, 2, 3, 4, 5] rfl)
  exact lp_1 ((60 - 0) + 1) 0 tA 0 iEn iLv (Nat.lt_succ_self _) (Nat.zero_le _) (⟨hWI.1, rfl, rfl⟩) hWI rfl _ _ ls hP hD hS (lv_sub hl [0, 1, 2, 3, 4, 5] rfl)
theorem x_X6_goes0 (l : Launch) (G : va_G) (cy : Nat → ClassId) (sz : Nat) (qm : Nat) (v0 : Value) (v1 : Value) (v2 : Value) (v3 : Value) (v4 : Value) (v5 : Value) (v6 : Value) (v7 : Value) (v8 : Value) (v9 : Value) (tA : TA) (qmB : Nat) (qmO : Nat) (qmK : Nat) (iEn : Int32) (iTk : Int32) (v18 : Value) (v19 : Value) (v20 : Value) (v21 : Value) (v22 : Value) (v23 : Value) (v24 : Value) (v25 : Value) (v26 : Value) (iLv : Int32) (iWs : Int32) (v29 : Value) (v30 : Value) (v31 : Value) (v32 : Value) (v33 : Value) (v34 : Value) (rB : Nat → Nat) (rO : Nat → Nat) (rK : Nat → Nat) (kN : Nat)  (hB : T_nb tA ≤ 8) (hPp : T_np tA ≤ 8) (hWI : WI tA) (hN60 : kN ≤ 60) : MW l yX6_goes cX6_goes 6 (some .int) 8 0 0 G cy [zzO qm 5 (v0 :: v1 :: v2 :: v3 :: v4 :: v5 :: v6 :: v7 :: v8 :: v9 :: .int (nI (T_nb tA)) :: .ref qmB :: .int (nI (T_np tA)) :: .ref qmO :: .ref qmK :: .int iEn :: .int iTk :: .int (T_sd tA) :: v18 :: v19 :: v20 :: v21 :: v22 :: v23 :: v24 :: v25 :: v26 :: .int iLv :: .int iWs :: v29 :: v30 :: v31 :: v32 :: v33 :: v34 :: []), zzG cy 3 qmB rB, zzI cy (rB 0) 4 (bkR tA 0), zzI cy (rB 1) 4 (bkR tA 1), zzI cy (rB 2) 4 (bkR tA 2), zzI cy (rB 3) 4 (bkR tA 3), zzI cy (rB 4) 4 (bkR tA 4), zzI cy (rB 5) 4 (bkR tA 5), zzI cy (rB 6) 4 (bkR tA 6), zzI cy (rB 7) 4 (bkR tA 7), zzG cy 3 qmO rO, zzI cy (rO 0) 5 (onR tA 0), zzI cy (rO 1) 5 (onR tA 1), zzI cy (rO 2) 5 (onR tA 2), zzI cy (rO 3) 5 (onR tA 3), zzI cy (rO 4) 5 (onR tA 4), zzI cy (rO 5) 5 (onR tA 5), zzI cy (rO 6) 5 (onR tA 6), zzI cy (rO 7) 5 (onR tA 7), zzG cy 3 qmK rK, zzI cy (rK 0) 8 (T_kn tA 0), zzI cy (rK 1) 8 (T_kn tA 1), zzI cy (rK 2) 8 (T_kn tA 2), zzI cy (rK 3) 8 (T_kn tA 3), zzI cy (rK 4) 8 (T_kn tA 4), zzI cy (rK 5) 8 (T_kn tA 5), zzI cy (rK 6) 8 (T_kn tA 6), zzI cy (rK 7) 8 (T_kn tA 7)] sz [.ref qm, .int (-1), .int 0, .int (nI kN)] (Wi G (fun r u => ∃ (tX : TA) (iX : Int32) (iY : Int32), u = [zzO qm 5 (v0 :: v1 :: v2 :: v3 :: v4 :: v5 :: v6 :: v7 :: v8 :: v9 :: .int (nI (T_nb tX)) :: .ref qmB :: .int (nI (T_np tX)) :: .ref qmO :: .ref qmK :: .int iX :: .int iTk :: .int (T_sd tX) :: v18 :: v19 :: v20 :: v21 :: v22 :: v23 :: v24 :: v25 :: v26 :: .int iY :: .int iWs :: v29 :: v30 :: v31 :: v32 :: v33 :: v34 :: []), zzG cy 3 qmB rB, zzI cy (rB 0) 4 (bkR tX 0), zzI cy (rB 1) 4 (bkR tX 1), zzI cy (rB 2) 4 (bkR tX 2), zzI cy (rB 3) 4 (bkR tX 3), zzI cy (rB 4) 4 (bkR tX 4), zzI cy (rB 5) 4 (bkR tX 5), zzI cy (rB 6) 4 (bkR tX 6), zzI cy (rB 7) 4 (bkR tX 7), zzG cy 3 qmO rO, zzI cy (rO 0) 5 (onR tX 0), zzI cy (rO 1) 5 (onR tX 1), zzI cy (rO 2) 5 (onR tX 2), zzI cy (rO 3) 5 (onR tX 3), zzI cy (rO 4) 5 (onR tX 4), zzI cy (rO 5) 5 (onR tX 5), zzI cy (rO 6) 5 (onR tX 6), zzI cy (rO 7) 5 (onR tX 7), zzG cy 3 qmK rK, zzI cy (rK 0) 8 (T_kn tX 0), zzI cy (rK 1) 8 (T_kn tX 1), zzI cy (rK 2) 8 (T_kn tX 2), zzI cy (rK 3) 8 (T_kn tX 3), zzI cy (rK 4) 8 (T_kn tX 4), zzI cy (rK 5) 8 (T_kn tX 5), zzI cy (rK 6) 8 (T_kn tX 6), zzI cy (rK 7) 8 (T_kn tX 7)] ∧ (TI tX ∧ T_nb tX = T_nb tA ∧ T_np tX = T_np tA) ∧ (WI tX ∧ (tX, iY, r) = gG (-1) 0 kN tA iLv 0) ∧ (True))) := x_X6_goes l G cy sz qm v0 v1 v2 v3 v4 v5 v6 v7 v8 v9 tA qmB qmO qmK iEn iTk v18 v19 v20 v21 v22 v23 v24 v25 v26 iLv iWs v29 v30 v31 v32 v33 v34 rB rO rK (-1) 0 kN hB hPp hWI (by omega) (Or.inl rfl) hN60
set_option maxHeartbeats 4000000 in
set_option maxRecDepth 100000 in
theorem x_X6_sumOf (l : Launch) (G : va_G) (cy : Nat → ClassId) (sz : Nat) (qm : Nat) (qmh : Nat) (qmo : Nat) (qmz : Nat) (qmR : Nat) (qmv : Nat) (qmk : Nat) (qma : Nat) (qmt : Nat) (kZ : Nat) (qmr : Nat) (tA : TA) (qmB : Nat) (qmO : Nat) (qmK : Nat) (iEn : Int32) (iTk : Int32) (uP : UM) (uU : UM) (kAt : Nat) (iTo : Int32) (iFr : Int32) (JFi : Int64) (iFa : Int32) (qm3 : Nat) (iSt : Int32) (iLv : Int32) (iWs : Int32) (vLa : Value) (qmu : Nat) (qmy : Nat) (qmb : Nat) (qms : Nat) (iOm : Int32) (fMk : Nat → Int32) (fMa : Nat → Int32) (rB : Nat → Nat) (rO : Nat → Nat) (rK : Nat → Nat) (kS : Nat) (kN : Nat)  (hS8 : kS < 8) (hN60 : kN ≤ 60) (hB : T_nb tA ≤ 8) (hPp : T_np tA ≤ 8) (hWI : WI tA) (hMa : ∀ s, s < 8 → ∃ n : Nat, n ≤ 99 ∧ fMa s = nI n) (hKs : Iv (fMk kS).toInt64 1 6) : MW l yX6_sumOf cX6_sumOf 3 (some .int) 9 50 888 G cy ([zzO qm 5 (.ref qmh :: .ref qmo :: .ref qmz :: .ref qmR :: .ref qmv :: .ref qmk :: .ref qma :: .ref qmt :: .int (nI kZ) :: .ref qmr :: .int (nI (T_nb tA)) :: .ref qmB :: .int (nI (T_np tA)) :: .ref qmO :: .ref qmK :: .int iEn :: .int iTk :: .int (T_sd tA) :: ov uP :: ov uU :: .int (nI kAt) :: .int iTo :: .int iFr :: .long JFi :: .int iFa :: .ref qm3 :: .int iSt :: .int iLv :: .int iWs :: vLa :: .ref qmu :: .ref qmy :: .ref qmb :: .ref qms :: .int iOm :: []), zzI cy qmk 8 fMk, zzI cy qma 8 fMa, zzG cy 3 qmB rB, zzI cy (rB 0) 4 (bkR tA 0), zzI cy (rB 1) 4 (bkR tA 1), zzI cy (rB 2) 4 (bkR tA 2), zzI cy (rB 3) 4 (bkR tA 3), zzI cy (rB 4) 4 (bkR tA 4), zzI cy (rB 5) 4 (bkR tA 5), zzI cy (rB 6) 4 (bkR tA 6), zzI cy (rB 7) 4 (bkR tA 7), zzG cy 3 qmO rO, zzI cy (rO 0) 5 (onR tA 0), zzI cy (rO 1) 5 (onR tA 1), zzI cy (rO 2) 5 (onR tA 2), zzI cy (rO 3) 5 (onR tA 3), zzI cy (rO 4) 5 (onR tA 4), zzI cy (rO 5) 5 (onR tA 5), zzI cy (rO 6) 5 (onR tA 6), zzI cy (rO 7) 5 (onR tA 7), zzG cy 3 qmK rK, zzI cy (rK 0) 8 (T_kn tA 0), zzI cy (rK 1) 8 (T_kn tA 1), zzI cy (rK 2) 8 (T_kn tA 2), zzI cy (rK 3) 8 (T_kn tA 3), zzI cy (rK 4) 8 (T_kn tA 4), zzI cy (rK 5) 8 (T_kn tA 5), zzI cy (rK 6) 8 (T_kn tA 6), zzI cy (rK 7) 8 (T_kn tA 7)] ++ oM cy uU) sz [.ref qm, .int (nI kS), .int (nI kN)] (Wi G (fun r u => ∃ (qU : Nat) (qUB : Nat) (qUO : Nat) (qUK : Nat) (rUB : Nat → Nat) (rUO : Nat → Nat) (rUK : Nat → Nat) (xU : Nat → Value) (tX : TA) (iXe : Int32) (iXt : Int32) (iXl : Int32) (iXw : Int32), u = (zzO qm 5 (.ref qmh :: .ref qmo :: .ref qmz :: .ref qmR :: .ref qmv :: .ref qmk :: .ref qma :: .ref qmt :: .int (nI kZ) :: .ref qmr :: .int (nI (T_nb tA)) :: .ref qmB :: .int (nI (T_np tA)) :: .ref qmO :: .ref qmK :: .int iEn :: .int iTk :: .int (T_sd tA) :: ov uP :: .ref qU :: .int (nI kAt) :: .int iTo :: .int iFr :: .long JFi :: .int iFa :: .ref qm3 :: .int iSt :: .int iLv :: .int iWs :: vLa :: .ref qmu :: .ref qmy :: .ref qmb :: .ref qms :: .int iOm :: []) :: zzI cy qmk 8 fMk :: zzI cy qma 8 fMa :: zzG cy 3 qmB rB :: zzI cy (rB 0) 4 (bkR tA 0) :: zzI cy (rB 1) 4 (bkR tA 1) :: zzI cy (rB 2) 4 (bkR tA 2) :: zzI cy (rB 3) 4 (bkR tA 3) :: zzI cy (rB 4) 4 (bkR tA 4) :: zzI cy (rB 5) 4 (bkR tA 5) :: zzI cy (rB 6) 4 (bkR tA 6) :: zzI cy (rB 7) 4 (bkR tA 7) :: zzG cy 3 qmO rO :: zzI cy (rO 0) 5 (onR tA 0) :: zzI cy (rO 1) 5 (onR tA 1) :: zzI cy (rO 2) 5 (onR tA 2) :: zzI cy (rO 3) 5 (onR tA 3) :: zzI cy (rO 4) 5 (onR tA 4) :: zzI cy (rO 5) 5 (onR tA 5) :: zzI cy (rO 6) 5 (onR tA 6) :: zzI cy (rO 7) 5 (onR tA 7) :: zzG cy 3 qmK rK :: zzI cy (rK 0) 8 (T_kn tA 0) :: zzI cy (rK 1) 8 (T_kn tA 1) :: zzI cy (rK 2) 8 (T_kn tA 2) :: zzI cy (rK 3) 8 (T_kn tA 3) :: zzI cy (rK 4) 8 (T_kn tA 4) :: zzI cy (rK 5) 8 (T_kn tA 5) :: zzI cy (rK 6) 8 (T_kn tA 6) :: zzI cy (rK 7) 8 (T_kn tA 7) :: zzO qU 5 (xU 0 :: xU 1 :: xU 2 :: xU 3 :: xU 4 :: xU 5 :: xU 6 :: xU 7 :: xU 8 :: xU 9 :: .int (nI (T_nb tX)) :: .ref qUB :: .int (nI (T_np tX)) :: .ref qUO :: .ref qUK :: .int iXe :: .int iXt :: .int (T_sd tX) :: xU 18 :: xU 19 :: xU 20 :: xU 21 :: xU 22 :: xU 23 :: xU 24 :: xU 25 :: xU 26 :: .int iXl :: .int iXw :: xU 29 :: xU 30 :: xU 31 :: xU 32 :: xU 33 :: xU 34 :: []) :: zzG cy 3 qUB rUB :: zzI cy (rUB 0) 4 (bkR tX 0) :: zzI cy (rUB 1) 4 (bkR tX 1) :: zzI cy (rUB 2) 4 (bkR tX 2) :: zzI cy (rUB 3) 4 (bkR tX 3) :: zzI cy (rUB 4) 4 (bkR tX 4) :: zzI cy (rUB 5) 4 (bkR tX 5) :: zzI cy (rUB 6) 4 (bkR tX 6) :: zzI cy (rUB 7) 4 (bkR tX 7) :: zzG cy 3 qUO rUO :: zzI cy (rUO 0) 5 (onR tX 0) :: zzI cy (rUO 1) 5 (onR tX 1) :: zzI cy (rUO 2) 5 (onR tX 2) :: zzI cy (rUO 3) 5 (onR tX 3) :: zzI cy (rUO 4) 5 (onR tX 4) :: zzI cy (rUO 5) 5 (onR tX 5) :: zzI cy (rUO 6) 5 (onR tX 6) :: zzI cy (rUO 7) 5 (onR tX 7) :: zzG cy 3 qUK rUK :: zzI cy (rUK 0) 8 (T_kn tX 0) :: zzI cy (rUK 1) 8 (T_kn tX 1) :: zzI cy (rUK 2) 8 (T_kn tX 2) :: zzI cy (rUK 3) 8 (T_kn tX 3) :: zzI cy (rUK 4) 8 (T_kn tX 4) :: zzI cy (rUK 5) 8 (T_kn tX 5) :: zzI cy (rUK 6) 8 (T_kn tX 6) :: zzI cy (rUK 7) 8 (T_kn tX 7) :: []) ∧ (T_nb tX ≤ 8 ∧ T_np tX ≤ 8) ∧ (1 ≤ kN → (tX, iXl, r) = srG (fMk kS) (fMa kS) kN tA 0 0) ∧ (WI tX) ∧ (True))) := by
  refine enW RX6 (by decide +kernel) rfl (Nat.le_of_ble_eq_true rfl) (fun p e s m below meth c ls A hx hb hml hown hts hr hlocks hP hN hl hin hD hA hS => ?_)
  have hin : meth.name = _ := hin
  have hK := hN.1
  replace hl : lv_has ls 3 [(0, .ref qm), (1, .int (nI kS)), (2, .int (nI kN))] := hl
  refine lv_aload_n hx hb (g_42 bX6_sumOf rfl) rfl (lv_at hl 0 rfl) ?_
  refine cVqP (As := []) (rest := []) (b := qm) (q := (RX6, TX6, 35)) ⟨hx, hb, hml, hown, hts⟩ (c_X6_fresh l G cy (s.heap).size qm (.ref qmh) (.ref qmo) (.ref qmz) (.ref qmR) (.ref qmv) (.ref qmk) (.ref qma) (.ref qmt) (.int (nI kZ)) (.ref qmr) tA qmB qmO qmK iEn iTk (ov uP) uU (.int (nI kAt)) (.int iTo) (.int iFr) (.long JFi) (.int iFa) (.ref qm3) (.int iSt) iLv iWs vLa (.ref qmu) (.ref qmy) (.ref qmb) (.ref qms) (.int iOm) rB rO rK) L_X6_110 hN hP hD hS hA (trueIx 0 [true, false, false, true, true, true, true, true, true, true, true, true, true, true, true, true, true, true, true, true, true, true, true, true, true, true, true, true, true, true]) [false, true, true, false, false, false, false, false, false, false, false, false, false, false, false, false, false, false, false, false, false, false, false, false, false, false, false, false, false, false] (sel_eq rfl rfl) (by decide +kernel) rfl 0 5 rfl rfl rfl ⟨Nat.le_of_ble_eq_true rfl, Nat.le_of_ble_eq_true rfl⟩ hl.1 (Nat.le_of_ble_eq_true rfl) (g_182 (v := 110) bX6_sumOf rfl) ⟨Nat.le_of_ble_eq_true rfl, Nat.le_of_ble_eq_true rfl⟩ (fun r_1 u_3 H locs h_2 => ?_)
  clear hP hD hS
  intro hP hD hS
  obtain ⟨qU_4, qUB_5, qUO_6, qUK_7, rUB_8, rUO_9, rUK_10, xU_11, iLvU_12, iWsU_13, rfl, h_2⟩ := h_2
  have hPD := pd_as (_ :: _ :: zzO qm 5 (.ref qmh :: .ref qmo :: .ref qmz :: .ref qmR :: .ref qmv :: .ref qmk :: .ref qma :: .ref qmt :: .int (nI kZ) :: .ref qmr :: .int (nI (T_nb tA)) :: .ref qmB :: .int (nI (T_np tA)) :: .ref qmO :: .ref qmK :: .int iEn :: .int iTk :: .int (T_sd tA) :: ov uP :: .ref qU_4 :: .int (nI kAt) :: .int iTo :: .int iFr :: .long JFi :: .int iFa :: .ref qm3 :: .int iSt :: .int iLv :: .int iWs :: vLa :: .ref qmu :: .ref qmy :: .ref qmb :: .ref qms :: .int iOm :: []) :: _ :: _ :: _ :: _ :: _ :: _ :: _ :: _ :: _ :: _ :: _ :: _ :: _ :: _ :: _ :: _ :: _ :: _ :: _ :: _ :: _ :: _ :: _ :: _ :: _ :: _ :: _ :: zzO qU_4 5 (xU_11 0 :: xU_11 1 :: xU_11 2 :: xU_11 3 :: xU_11 4 :: xU_11 5 :: xU_11 6 :: xU_11 7 :: xU_11 8 :: xU_11 9 :: .int (nI (T_nb tA)) :: .ref qUB_5 :: .int (nI (T_np tA)) :: .ref qUO_6 :: .ref qUK_7 :: .int iEn :: .int iTk :: .int (T_sd tA) :: xU_11 18 :: xU_11 19 :: xU_11 20 :: xU_11 21 :: xU_11 22 :: xU_11 23 :: xU_11 24 :: xU_11 25 :: xU_11 26 :: .int iLvU_12 :: .int iWsU_13 :: xU_11 29 :: xU_11 30 :: xU_11 31 :: xU_11 32 :: xU_11 33 :: xU_11 34 :: []) :: zzG cy 3 qUB_5 rUB_8 :: zzI cy (rUB_8 0) 4 (bkR tA 0) :: zzI cy (rUB_8 1) 4 (bkR tA 1) :: zzI cy (rUB_8 2) 4 (bkR tA 2) :: zzI cy (rUB_8 3) 4 (bkR tA 3) :: zzI cy (rUB_8 4) 4 (bkR tA 4) :: zzI cy (rUB_8 5) 4 (bkR tA 5) :: zzI cy (rUB_8 6) 4 (bkR tA 6) :: zzI cy (rUB_8 7) 4 (bkR tA 7) :: zzG cy 3 qUO_6 rUO_9 :: zzI cy (rUO_9 0) 5 (onR tA 0) :: zzI cy (rUO_9 1) 5 (onR tA 1) :: zzI cy (rUO_9 2) 5 (onR tA 2) :: zzI cy (rUO_9 3) 5 (onR tA 3) :: zzI cy (rUO_9 4) 5 (onR tA 4) :: zzI cy (rUO_9 5) 5 (onR tA 5) :: zzI cy (rUO_9 6) 5 (onR tA 6) :: zzI cy (rUO_9 7) 5 (onR tA 7) :: zzG cy 3 qUK_7 rUK_10 :: zzI cy (rUK_10 0) 8 (T_kn tA 0) :: zzI cy (rUK_10 1) 8 (T_kn tA 1) :: zzI cy (rUK_10 2) 8 (T_kn tA 2) :: zzI cy (rUK_10 3) 8 (T_kn tA 3) :: zzI cy (rUK_10 4) 8 (T_kn tA 4) :: zzI cy (rUK_10 5) 8 (T_kn tA 5) :: zzI cy (rUK_10 6) 8 (T_kn tA 6) :: zzI cy (rUK_10 7) 8 (T_kn tA 7) :: []) hP hD rfl
  clear hP hD
  obtain ⟨hP, hD⟩ := hPD
  refine W.widen (k := 50) (n := 888) (Nat.le_of_ble_eq_true rfl) (Nat.le_of_ble_eq_true rfl) ?_
  subst h_2
  refine lv_aload_n hx hb (g_42 bX6_sumOf rfl) rfl (lv_at hl 0 rfl) ?_
  refine va_get (D := G) (ci := 5) (v := .ref qmk) (C := RX6) (T := TX6) (N := 35) hx hb hts iX_X6 hown hK hP 2 rfl rfl 5 (by decide +kernel) (hts _ m_t855) (fun _ h9 => h9) rfl (g_180 (v := 28) bX6_sumOf rfl) ?_
  refine lv_iload_n hx hb (g_27 bX6_sumOf rfl) rfl (lv_at hl 1 rfl) ?_
  refine va_iald hx hb hK hP 0 0 rfl rfl (in8 (by omega)) (g_46 bX6_sumOf rfl) ?_
  refine lv_seti (v := fMk kS) (congrArg fMk (cl8 (by omega))) ?_
  refine lv_aload_n hx hb (g_42 bX6_sumOf rfl) rfl (lv_at hl 0 rfl) ?_
  refine va_get (D := G) (ci := 5) (v := .ref qma) (C := RX6) (T := TX6) (N := 35) hx hb hts iX_X6 hown hK hP 2 rfl rfl 6 (by decide +kernel) (hts _ m_t856) (fun _ h9 => h9) rfl (g_180 (v := 31) bX6_sumOf rfl) ?_
  refine lv_iload_n hx hb (g_27 bX6_sumOf rfl) rfl (lv_at hl 1 rfl) ?_
  refine va_iald hx hb hK hP 1 0 rfl rfl (in8 (by omega)) (g_46 bX6_sumOf rfl) ?_
  refine lv_seti (v := fMa kS) (congrArg fMa (cl8 (by omega))) ?_
  obtain ⟨n_14, hn_15, en_16⟩ := hMa kS (by omega)
  refine lv_seti (v := nI n_14) en_16 ?_
  refine lv_iload_n hx hb (g_28 bX6_sumOf rfl) rfl (lv_at hl 2 rfl) ?_
  refine cVi (As := [.int (fMk kS), .int (nI n_14), .int (nI kN)]) (rest := []) (b := r_1) (q := (RX6, TX6, 35)) ⟨hx, hb, hml, hown, hts⟩ (x_X6_goes l G cy (H).size r_1 (xU_11 0) (xU_11 1) (xU_11 2) (xU_11 3) (xU_11 4) (xU_11 5) (xU_11 6) (xU_11 7) (xU_11 8) (xU_11 9) tA qUB_5 qUO_6 qUK_7 iEn iTk (xU_11 18) (xU_11 19) (xU_11 20) (xU_11 21) (xU_11 22) (xU_11 23) (xU_11 24) (xU_11 25) (xU_11 26) iLvU_12 iWsU_13 (xU_11 29) (xU_11 30) (xU_11 31) (xU_11 32) (xU_11 33) (xU_11 34) rUB_8 rUO_9 rUK_10 (fMk kS) n_14 kN hB hPp hWI (by omega) (Or.inr hKs) hN60) L_X6_295 hN hP hD hS hA (trueIx 0 (false :: false :: false :: false :: false :: false :: false :: false :: false :: false :: false :: false :: false :: false :: false :: false :: false :: false :: false :: false :: false :: false :: false :: false :: false :: false :: false :: false :: false :: false :: true :: true :: true :: true :: true :: true :: true :: true :: true :: true :: true :: true :: true :: true :: true :: true :: true :: true :: true :: true :: true :: true :: true :: true :: true :: true :: true :: true :: [])) (true :: true :: true :: true :: true :: true :: true :: true :: true :: true :: true :: true :: true :: true :: true :: true :: true :: true :: true :: true :: true :: true :: true :: true :: true :: true :: true :: true :: true :: true :: false :: false :: false :: false :: false :: false :: false :: false :: false :: false :: false :: false :: false :: false :: false :: false :: false :: false :: false :: false :: false :: false :: false :: false :: false :: false :: false :: false :: []) (sel_eq rfl rfl) (by decide +kernel) rfl 30 5 rfl rfl rfl ⟨Nat.le_of_ble_eq_true rfl, Nat.le_of_ble_eq_true rfl⟩ hl.1 (Nat.le_of_ble_eq_true rfl) (g_182 (v := 295) bX6_sumOf rfl) ⟨Nat.le_of_ble_eq_true rfl, Nat.le_of_ble_eq_true rfl⟩ (fun r_17 u_19 H locs h_18 => ?_)
  clear hP hD hS
  intro hP hD hS
  obtain ⟨tX_20, iX_21, iY_22, hu9, h_23, h_24, h_18⟩ := h_18
  have hPD := pd_eq (_ :: _ :: zzO qm 5 (.ref qmh :: .ref qmo :: .ref qmz :: .ref qmR :: .ref qmv :: .ref qmk :: .ref qma :: .ref qmt :: .int (nI kZ) :: .ref qmr :: .int (nI (T_nb tA)) :: .ref qmB :: .int (nI (T_np tA)) :: .ref qmO :: .ref qmK :: .int iEn :: .int iTk :: .int (T_sd tA) :: ov uP :: .ref r_1 :: .int (nI kAt) :: .int iTo :: .int iFr :: .long JFi :: .int iFa :: .ref qm3 :: .int iSt :: .int iLv :: .int iWs :: vLa :: .ref qmu :: .ref qmy :: .ref qmb :: .ref qms :: .int iOm :: []) :: _ :: _ :: _ :: _ :: _ :: _ :: _ :: _ :: _ :: _ :: _ :: _ :: _ :: _ :: _ :: _ :: _ :: _ :: _ :: _ :: _ :: _ :: _ :: _ :: _ :: _ :: _ :: zzO r_1 5 (xU_11 0 :: xU_11 1 :: xU_11 2 :: xU_11 3 :: xU_11 4 :: xU_11 5 :: xU_11 6 :: xU_11 7 :: xU_11 8 :: xU_11 9 :: .int (nI (T_nb tX_20)) :: .ref qUB_5 :: .int (nI (T_np tX_20)) :: .ref qUO_6 :: .ref qUK_7 :: .int iX_21 :: .int iTk :: .int (T_sd tX_20) :: xU_11 18 :: xU_11 19 :: xU_11 20 :: xU_11 21 :: xU_11 22 :: xU_11 23 :: xU_11 24 :: xU_11 25 :: xU_11 26 :: .int iY_22 :: .int iWsU_13 :: xU_11 29 :: xU_11 30 :: xU_11 31 :: xU_11 32 :: xU_11 33 :: xU_11 34 :: []) :: _ :: zzI cy (rUB_8 0) 4 (bkR tX_20 0) :: zzI cy (rUB_8 1) 4 (bkR tX_20 1) :: zzI cy (rUB_8 2) 4 (bkR tX_20 2) :: zzI cy (rUB_8 3) 4 (bkR tX_20 3) :: zzI cy (rUB_8 4) 4 (bkR tX_20 4) :: zzI cy (rUB_8 5) 4 (bkR tX_20 5) :: zzI cy (rUB_8 6) 4 (bkR tX_20 6) :: zzI cy (rUB_8 7) 4 (bkR tX_20 7) :: _ :: zzI cy (rUO_9 0) 5 (onR tX_20 0) :: zzI cy (rUO_9 1) 5 (onR tX_20 1) :: zzI cy (rUO_9 2) 5 (onR tX_20 2) :: zzI cy (rUO_9 3) 5 (onR tX_20 3) :: zzI cy (rUO_9 4) 5 (onR tX_20 4) :: zzI cy (rUO_9 5) 5 (onR tX_20 5) :: zzI cy (rUO_9 6) 5 (onR tX_20 6) :: zzI cy (rUO_9 7) 5 (onR tX_20 7) :: _ :: zzI cy (rUK_10 0) 8 (T_kn tX_20 0) :: zzI cy (rUK_10 1) 8 (T_kn tX_20 1) :: zzI cy (rUK_10 2) 8 (T_kn tX_20 2) :: zzI cy (rUK_10 3) 8 (T_kn tX_20 3) :: zzI cy (rUK_10 4) 8 (T_kn tX_20 4) :: zzI cy (rUK_10 5) 8 (T_kn tX_20 5) :: zzI cy (rUK_10 6) 8 (T_kn tX_20 6) :: zzI cy (rUK_10 7) 8 (T_kn tX_20 7) :: []) hP hD hu9 rfl
  clear hP hD hu9
  obtain ⟨hP, hD⟩ := hPD
  exact endW (u := (zzO qm 5 (.ref qmh :: .ref qmo :: .ref qmz :: .ref qmR :: .ref qmv :: .ref qmk :: .ref qma :: .ref qmt :: .int (nI kZ) :: .ref qmr :: .int (nI (T_nb tA)) :: .ref qmB :: .int (nI (T_np tA)) :: .ref qmO :: .ref qmK :: .int iEn :: .int iTk :: .int (T_sd tA) :: ov uP :: .ref r_1 :: .int (nI kAt) :: .int iTo :: .int iFr :: .long JFi :: .int iFa :: .ref qm3 :: .int iSt :: .int iLv :: .int iWs :: vLa :: .ref qmu :: .ref qmy :: .ref qmb :: .ref qms :: .int iOm :: []) :: zzI cy qmk 8 fMk :: zzI cy qma 8 fMa :: zzG cy 3 qmB rB :: zzI cy (rB 0) 4 (bkR tA 0) :: zzI cy (rB 1) 4 (bkR tA 1) :: zzI cy (rB 2) 4 (bkR tA 2) :: zzI cy (rB 3) 4 (bkR tA 3) :: zzI cy (rB 4) 4 (bkR tA 4) :: zzI cy (rB 5) 4 (bkR tA 5) :: zzI cy (rB 6) 4 (bkR tA 6) :: zzI cy (rB 7) 4 (bkR tA 7) :: zzG cy 3 qmO rO :: zzI cy (rO 0) 5 (onR tA 0) :: zzI cy (rO 1) 5 (onR tA 1) :: zzI cy (rO 2) 5 (onR tA 2) :: zzI cy (rO 3) 5 (onR tA 3) :: zzI cy (rO 4) 5 (onR tA 4) :: zzI cy (rO 5) 5 (onR tA 5) :: zzI cy (rO 6) 5 (onR tA 6) :: zzI cy (rO 7) 5 (onR tA 7) :: zzG cy 3 qmK rK :: zzI cy (rK 0) 8 (T_kn tA 0) :: zzI cy (rK 1) 8 (T_kn tA 1) :: zzI cy (rK 2) 8 (T_kn tA 2) :: zzI cy (rK 3) 8 (T_kn tA 3) :: zzI cy (rK 4) 8 (T_kn tA 4) :: zzI cy (rK 5) 8 (T_kn tA 5) :: zzI cy (rK 6) 8 (T_kn tA 6) :: zzI cy (rK 7) 8 (T_kn tA 7) :: zzO r_1 5 (xU_11 0 :: xU_11 1 :: xU_11 2 :: xU_11 3 :: xU_11 4 :: xU_11 5 :: xU_11 6 :: xU_11 7 :: xU_11 8 :: xU_11 9 :: .int (nI (T_nb tX_20)) :: .ref qUB_5 :: .int (nI (T_np tX_20)) :: .ref qUO_6 :: .ref qUK_7 :: .int iX_21 :: .int iTk :: .int (T_sd tX_20) :: xU_11 18 :: xU_11 19 :: xU_11 20 :: xU_11 21 :: xU_11 22 :: xU_11 23 :: xU_11 24 :: xU_11 25 :: xU_11 26 :: .int iY_22 :: .int iWsU_13 :: xU_11 29 :: xU_11 30 :: xU_11 31 :: xU_11 32 :: xU_11 33 :: xU_11 34 :: []) :: zzG cy 3 qUB_5 rUB_8 :: zzI cy (rUB_8 0) 4 (bkR tX_20 0) :: zzI cy (rUB_8 1) 4 (bkR tX_20 1) :: zzI cy (rUB_8 2) 4 (bkR tX_20 2) :: zzI cy (rUB_8 3) 4 (bkR tX_20 3) :: zzI cy (rUB_8 4) 4 (bkR tX_20 4) :: zzI cy (rUB_8 5) 4 (bkR tX_20 5) :: zzI cy (rUB_8 6) 4 (bkR tX_20 6) :: zzI cy (rUB_8 7) 4 (bkR tX_20 7) :: zzG cy 3 qUO_6 rUO_9 :: zzI cy (rUO_9 0) 5 (onR tX_20 0) :: zzI cy (rUO_9 1) 5 (onR tX_20 1) :: zzI cy (rUO_9 2) 5 (onR tX_20 2) :: zzI cy (rUO_9 3) 5 (onR tX_20 3) :: zzI cy (rUO_9 4) 5 (onR tX_20 4) :: zzI cy (rUO_9 5) 5 (onR tX_20 5) :: zzI cy (rUO_9 6) 5 (onR tX_20 6) :: zzI cy (rUO_9 7) 5 (onR tX_20 7) :: zzG cy 3 qUK_7 rUK_10 :: zzI cy (rUK_10 0) 8 (T_kn tX_20 0) :: zzI cy (rUK_10 1) 8 (T_kn tX_20 1) :: zzI cy (rUK_10 2) 8 (T_kn tX_20 2) :: zzI cy (rUK_10 3) 8 (T_kn tX_20 3) :: zzI cy (rUK_10 4) 8 (T_kn tX_20 4) :: zzI cy (rUK_10 5) 8 (T_kn tX_20 5) :: zzI cy (rUK_10 6) 8 (T_kn tX_20 6) :: zzI cy (rUK_10 7) 8 (T_kn tX_20 7) :: [])) hx hb hr hlocks rfl (pSb hP [[false, false, true], (true :: true :: false :: true :: true :: true :: true :: true :: true :: true :: true :: true :: true :: true :: true :: true :: true :: true :: true :: true :: true :: true :: true :: true :: true :: true :: true :: true :: true :: true :: true :: true :: true :: true :: true :: true :: true :: true :: true :: true :: true :: true :: true :: true :: true :: true :: true :: true :: true :: true :: true :: true :: true :: true :: true :: true :: true :: true :: [])] rfl rfl) (dSb hD [[false, false, true], (true :: true :: false :: true :: true :: true :: true :: true :: true :: true :: true :: true :: true :: true :: true :: true :: true :: true :: true :: true :: true :: true :: true :: true :: true :: true :: true :: true :: true :: true :: true :: true :: true :: true :: true :: true :: true :: true :: true :: true :: true :: true :: true :: true :: true :: true :: true :: true :: true :: true :: true :: true :: true :: true :: true :: true :: true :: true :: [])] (by decide +kernel) rfl rfl) hS ⟨r_1, qUB_5, qUO_6, qUK_7, rUB_8, rUO_9, rUK_10, xU_11, tX_20, iX_21, iTk, iY_22, iWsU_13, rfl, ⟨by have := h_23; omega, by have := h_23; omega⟩, (fun h9 => by rw [h_24.2, en_16, gG_l h9, gG_sr _ _ _ _ hPp]), h_24.1, trivial⟩ (g_172 bX6_sumOf rfl)
set_option maxHeartbeats 4000000 in
set_option maxRecDepth 100000 in
theorem x_X6_gains (l : Launch) (G : va_G) (cy : Nat → ClassId) (sz : Nat) (qm : Nat) (qmh : Nat) (qmo : Nat) (qmz : Nat) (qmR : Nat) (qmv : Nat) (qmk : Nat) (qma : Nat) (qmt : Nat) (kZ : Nat) (qmr : Nat) (tA : TA) (qmB : Nat) (qmO : Nat) (qmK : Nat) (iEn : Int32) (iTk : Int32) (uP : UM) (uU : UM) (kAt : Nat) (iTo : Int32) (iFr : Int32) (JFi : Int64) (iFa : Int32) (qm3 : Nat) (iSt : Int32) (iLv : Int32) (iWs : Int32) (vLa : Value) (qmu : Nat) (qmy : Nat) (qmb : Nat) (qms : Nat) (iOm : Int32) (fMh : Nat → Int32) (fMk : Nat → Int32) (fMa : Nat → Int32) (fMr : Nat → Int32) (rB : Nat → Nat) (rO : Nat → Nat) (rK : Nat → Nat) (iA : Int32) (iB : Int32)  (hMk : ∀ s, s < 8 → ¬ fMh s = 1 → ¬ fMh s = 0 → Iv (fMk s).toInt64 1 6) (hB : T_nb tA ≤ 8) (hPp : T_np tA ≤ 8) (hTI : TI tA) (hMa : ∀ s, s < 8 → ∃ n : Nat, n ≤ 99 ∧ fMa s = nI n) (hWI : WI tA) : MW l yX6_gains cX6_gains 4 (some .int) 18 50 888 G cy ([zzO qm 5 (.ref qmh :: .ref qmo :: .ref qmz :: .ref qmR :: .ref qmv :: .ref qmk :: .ref qma :: .ref qmt :: .int (nI kZ) :: .ref qmr :: .int (nI (T_nb tA)) :: .ref qmB :: .int (nI (T_np tA)) :: .ref qmO :: .ref qmK :: .int iEn :: .int iTk :: .int (T_sd tA) :: ov uP :: ov uU :: .int (nI kAt) :: .int iTo :: .int iFr :: .long JFi :: .int iFa :: .ref qm3 :: .int iSt :: .int iLv :: .int iWs :: vLa :: .ref qmu :: .ref qmy :: .ref qmb :: .ref qms :: .int iOm :: []), zzI cy qmh 8 fMh, zzI cy qmk 8 fMk, zzI cy qma 8 fMa, zzI cy qmr 8 fMr, zzG cy 3 qmB rB, zzI cy (rB 0) 4 (bkR tA 0), zzI cy (rB 1) 4 (bkR tA 1), zzI cy (rB 2) 4 (bkR tA 2), zzI cy (rB 3) 4 (bkR tA 3), zzI cy (rB 4) 4 (bkR tA 4), zzI cy (rB 5) 4 (bkR tA 5), zzI cy (rB 6) 4 (bkR tA 6), zzI cy (rB 7) 4 (bkR tA 7), zzG cy 3 qmO rO, zzI cy (rO 0) 5 (onR tA 0), zzI cy (rO 1) 5 (onR tA 1), zzI cy (rO 2) 5 (onR tA 2), zzI cy (rO 3) 5 (onR tA 3), zzI cy (rO 4) 5 (onR tA 4), zzI cy (rO 5) 5 (onR tA 5), zzI cy (rO 6) 5 (onR tA 6), zzI cy (rO 7) 5 (onR tA 7), zzG cy 3 qmK rK, zzI cy (rK 0) 8 (T_kn tA 0), zzI cy (rK 1) 8 (T_kn tA 1), zzI cy (rK 2) 8 (T_kn tA 2), zzI cy (rK 3) 8 (T_kn tA 3), zzI cy (rK 4) 8 (T_kn tA 4), zzI cy (rK 5) 8 (T_kn tA 5), zzI cy (rK 6) 8 (T_kn tA 6), zzI cy (rK 7) 8 (T_kn tA 7)] ++ oM cy uU) sz [.ref qm, .int iA, .int iB] (Wi G (fun r u => ∃ (fNr : Nat → Int32) (uN : UM), u = ([zzO qm 5 (.ref qmh :: .ref qmo :: .ref qmz :: .ref qmR :: .ref qmv :: .ref qmk :: .ref qma :: .ref qmt :: .int (nI kZ) :: .ref qmr :: .int (nI (T_nb tA)) :: .ref qmB :: .int (nI (T_np tA)) :: .ref qmO :: .ref qmK :: .int iEn :: .int iTk :: .int (T_sd tA) :: ov uP :: ov uN :: .int (nI kAt) :: .int iTo :: .int iFr :: .long JFi :: .int iFa :: .ref qm3 :: .int iSt :: .int iLv :: .int iWs :: vLa :: .ref qmu :: .ref qmy :: .ref qmb :: .ref qms :: .int iOm :: []), zzI cy qmh 8 fMh, zzI cy qmk 8 fMk, zzI cy qma 8 fMa, zzI cy qmr 8 fNr, zzG cy 3 qmB rB, zzI cy (rB 0) 4 (bkR tA 0), zzI cy (rB 1) 4 (bkR tA 1), zzI cy (rB 2) 4 (bkR tA 2), zzI cy (rB 3) 4 (bkR tA 3), zzI cy (rB 4) 4 (bkR tA 4), zzI cy (rB 5) 4 (bkR tA 5), zzI cy (rB 6) 4 (bkR tA 6), zzI cy (rB 7) 4 (bkR tA 7), zzG cy 3 qmO rO, zzI cy (rO 0) 5 (onR tA 0), zzI cy (rO 1) 5 (onR tA 1), zzI cy (rO 2) 5 (onR tA 2), zzI cy (rO 3) 5 (onR tA 3), zzI cy (rO 4) 5 (onR tA 4), zzI cy (rO 5) 5 (onR tA 5), zzI cy (rO 6) 5 (onR tA 6), zzI cy (rO 7) 5 (onR tA 7), zzG cy 3 qmK rK, zzI cy (rK 0) 8 (T_kn tA 0), zzI cy (rK 1) 8 (T_kn tA 1), zzI cy (rK 2) 8 (T_kn tA 2), zzI cy (rK 3) 8 (T_kn tA 3), zzI cy (rK 4) 8 (T_kn tA 4), zzI cy (rK 5) 8 (T_kn tA 5), zzI cy (rK 6) 8 (T_kn tA 6), zzI cy (rK 7) 8 (T_kn tA 7)] ++ oM cy uN) ∧ (PMk fMh iA (Iv iB.toInt64 1 60) (-1000002) (-1000003) (-1000004) (fun k => gnK (fMk k) (fMa k) tA iB) r) ∧ (True))) := by
  refine enW RX6 (by decide +kernel) rfl (Nat.le_of_ble_eq_true rfl) (fun p e s m below meth c ls A hx hb hml hown hts hr hlocks hP hN hl hin hD hA hS => ?_)
  have hin : meth.name = _ := hin
  have hK := hN.1
  replace hl : lv_has ls 4 [(0, .ref qm), (1, .int iA), (2, .int iB)] := hl
  refine lv_iload_n hx hb (g_27 bX6_gains rfl) rfl (lv_at hl 1 rfl) ?_
  refine lv_i2l (v := iA.toInt64) hx hb (g_133 bX6_gains rfl) rfl ?_
  refine lv_lconst (v := 0) hx hb (g_9 bX6_gains rfl) (by decide +kernel) ?_
  refine lv_ldc2 hx hb hown (hts _ m_t960) (g_20 (v := 85) bX6_gains rfl) ?_
  refine kRi (rS (As := [.long iA.toInt64, .long 0, .long 7]) (rest := []) ⟨hx, hb, hml, hown, hts⟩ (c_X6_in l G cy iA.toInt64 0 7) L_X6_74 (preRS hN hP [] rfl) rfl ⟨Nat.le_of_ble_eq_true rfl, Nat.le_of_ble_eq_true rfl⟩ hl.1 (Nat.le_of_ble_eq_true rfl) (g_184 (v := 74) bX6_gains rfl) ⟨Nat.le_of_ble_eq_true rfl, Nat.le_of_ble_eq_true rfl⟩) (fun r_1 h_2 => ?_)
  rcases h_2 with ⟨rfl, h_3⟩ | ⟨rfl, h_3⟩
  · obtain ⟨k_4, hk_5, hk_6, rfl⟩ := iv_nI 0 7 (by decide +kernel) (by decide +kernel) h_3
    refine lv_if_eq (tgt := 24) hx hb dX6_gains_9 (by decide +kernel) (fun h9 => absurd h9 (by decide +kernel)) (fun _ => ?_)
    refine lv_iload_n hx hb (g_28 bX6_gains rfl) rfl (lv_at hl 2 rfl) ?_
    refine lv_i2l (v := iB.toInt64) hx hb (g_133 bX6_gains rfl) rfl ?_
    refine lv_lconst (v := 1) hx hb (g_10 bX6_gains rfl) (by decide +kernel) ?_
    refine lv_ldc2 hx hb hown (hts _ m_t1268) (g_20 (v := 298) bX6_gains rfl) ?_
    refine kRi (rS (As := [.long iB.toInt64, .long 1, .long 60]) (rest := []) ⟨hx, hb, hml, hown, hts⟩ (c_X6_in l G cy iB.toInt64 1 60) L_X6_74 (preRS hN hP [] rfl) rfl ⟨Nat.le_of_ble_eq_true rfl, Nat.le_of_ble_eq_true rfl⟩ hl.1 (Nat.le_of_ble_eq_true rfl) (g_184 (v := 74) bX6_gains rfl) ⟨Nat.le_of_ble_eq_true rfl, Nat.le_of_ble_eq_true rfl⟩) (fun r_8 h_9 => ?_)
    rcases h_9 with ⟨rfl, h_10⟩ | ⟨rfl, h_10⟩
    · obtain ⟨k_11, hk_12, hk_13, rfl⟩ := iv_nI 1 60 (by decide +kernel) (by decide +kernel) h_10
      refine lv_if_ne (tgt := 35) hx hb dX6_gains_21 (by decide +kernel) (fun _ => ?_) (fun h9 => absurd h9 (by decide +kernel))
      refine lv_aload_n hx hb (g_42 bX6_gains rfl) rfl (lv_at hl 0 rfl) ?_
      refine lv_iload_n hx hb (g_27 bX6_gains rfl) rfl (lv_at hl 1 rfl) ?_
      refine cViQ (As := [.int (nI k_4)]) (rest := []) (b := qm) (q := (RX6, TX6, 35)) ⟨hx, hb, hml, hown, hts⟩ (c_X6_noRule l G cy (s.heap).size qm qmh (.ref qmo) (.ref qmz) (.ref qmR) (.ref qmv) (.ref qmk) (.ref qma) (.ref qmt) (.int (nI kZ)) qmr tA qmB qmO qmK iEn iTk (ov uP) (ov uU) (.int (nI kAt)) (.int iTo) (.int iFr) (.long JFi) (.int iFa) (.ref qm3) (.int iSt) iLv iWs vLa (.ref qmu) (.ref qmy) (.ref qmb) (.ref qms) (.int iOm) fMh fMr (nI k_4)) L_X6_302 hN hP hD hS hA (trueIx 0 [true, true, false, false, true]) [false, false, true, true, false, true, true, true, true, true, true, true, true, true, true, true, true, true, true, true, true, true, true, true, true, true, true, true, true, true, true, true] (sel_eq rfl rfl) (by decide +kernel) rfl 0 5 rfl rfl rfl ⟨Nat.le_of_ble_eq_true rfl, Nat.le_of_ble_eq_true rfl⟩ hl.1 (Nat.le_of_ble_eq_true rfl) (g_182 (v := 302) bX6_gains rfl) ⟨Nat.le_of_ble_eq_true rfl, Nat.le_of_ble_eq_true rfl⟩ (fun r_15 u_17 H locs h_16 => ?_)
      clear hP hD hS
      intro hP hD hS
      obtain ⟨fX_18, hu9, h_16⟩ := h_16
      have hPD := pd_eqQ (([_, _, _, _, _, _, _, _, _, _, _, _, _, _, _, _, _, _, _, _, _, _, _, _, _, _, _, _, _, _, _, zzI cy qmr 8 fX_18] : va_W) ++ oM cy uU) hP hD hu9 rfl
      clear hP hD hu9
      obtain ⟨hP, hD⟩ := hPD
      rcases h_16 with ⟨rfl, h_19⟩ | ⟨rfl, h_19⟩ | ⟨rfl, h_19⟩ | ⟨rfl, h_19⟩
      · refine lv_istore_n (lv' := [(3, .int (-2)), (0, .ref qm), (1, .int (nI k_4)), (2, .int (nI k_11))]) hx hb (g_62 bX6_gains rfl) rfl hl (by decide +kernel) rfl (fun ls => ?_)
        clear hl
        intro hl
        refine lv_iload_n hx hb (g_29 bX6_gains rfl) rfl (lv_at hl 0 rfl) ?_
        refine lv_if_eq (tgt := 51) hx hb dX6_gains_42 (by decide +kernel) (fun h9 => absurd h9 (by decide +kernel)) (fun _ => ?_)
        refine lv_iload_n hx hb (g_29 bX6_gains rfl) rfl (lv_at hl 0 rfl) ?_
        refine lv_ldcw hx hb hown (hts _ m_t1290) (g_19 (v := 311) bX6_gains rfl) ?_
        refine lv_isub hx hb (g_100 bX6_gains rfl) ?_
        refine lv_seti (v := (-1000002)) (by decide +kernel) ?_
        refine W.widen (k := 50) (n := 888) (Nat.le_of_ble_eq_true rfl) (Nat.le_of_ble_eq_true rfl) ?_
        exact endWt [[false, false, false, false, false, false, false, false, false, false, false, false, false, false, false, false, false, false, false, false, false, false, false, false, false, false, false, false, false, true, true], [true, true, false, false, false, false, false, false, false, false, false, false, false, false, false, false, false, false, false, false, false, false, false, false, false, false, false, false, false, false, false, true], [false, false, true, true, true, true, true, true, true, true, true, true, true, true, true, true, true, true, true, true, true, true, true, true, true, true, true, true, true]] hx hb hr hlocks rfl hP hD rfl (by decide +kernel) hS ⟨fX_18, uU, rfl, (h_19 ⟨k_4, by omega, rfl⟩).elim, trivial⟩ (g_172 bX6_gains rfl)
      · refine lv_istore_n (lv' := [(3, .int (-3)), (0, .ref qm), (1, .int (nI k_4)), (2, .int (nI k_11))]) hx hb (g_62 bX6_gains rfl) rfl hl (by decide +kernel) rfl (fun ls => ?_)
        clear hl
        intro hl
        refine lv_iload_n hx hb (g_29 bX6_gains rfl) rfl (lv_at hl 0 rfl) ?_
        refine lv_if_eq (tgt := 51) hx hb dX6_gains_42 (by decide +kernel) (fun h9 => absurd h9 (by decide +kernel)) (fun _ => ?_)
        refine lv_iload_n hx hb (g_29 bX6_gains rfl) rfl (lv_at hl 0 rfl) ?_
        refine lv_ldcw hx hb hown (hts _ m_t1290) (g_19 (v := 311) bX6_gains rfl) ?_
        refine lv_isub hx hb (g_100 bX6_gains rfl) ?_
        refine lv_seti (v := (-1000003)) (by decide +kernel) ?_
        refine W.widen (k := 50) (n := 888) (Nat.le_of_ble_eq_true rfl) (Nat.le_of_ble_eq_true rfl) ?_
        exact endWt [[false, false, false, false, false, false, false, false, false, false, false, false, false, false, false, false, false, false, false, false, false, false, false, false, false, false, false, false, false, true, true], [true, true, false, false, false, false, false, false, false, false, false, false, false, false, false, false, false, false, false, false, false, false, false, false, false, false, false, false, false, false, false, true], [false, false, true, true, true, true, true, true, true, true, true, true, true, true, true, true, true, true, true, true, true, true, true, true, true, true, true, true, true]] hx hb hr hlocks rfl hP hD rfl (by decide +kernel) hS ⟨fX_18, uU, rfl, Or.inr (Or.inl ⟨rfl, h_10, h_19⟩), trivial⟩ (g_172 bX6_gains rfl)
      · refine lv_istore_n (lv' := [(3, .int (-4)), (0, .ref qm), (1, .int (nI k_4)), (2, .int (nI k_11))]) hx hb (g_62 bX6_gains rfl) rfl hl (by decide +kernel) rfl (fun ls => ?_)
        clear hl
        intro hl
        refine lv_iload_n hx hb (g_29 bX6_gains rfl) rfl (lv_at hl 0 rfl) ?_
        refine lv_if_eq (tgt := 51) hx hb dX6_gains_42 (by decide +kernel) (fun h9 => absurd h9 (by decide +kernel)) (fun _ => ?_)
        refine lv_iload_n hx hb (g_29 bX6_gains rfl) rfl (lv_at hl 0 rfl) ?_
        refine lv_ldcw hx hb hown (hts _ m_t1290) (g_19 (v := 311) bX6_gains rfl) ?_
        refine lv_isub hx hb (g_100 bX6_gains rfl) ?_
        refine lv_seti (v := (-1000004)) (by decide +kernel) ?_
        refine W.widen (k := 50) (n := 888) (Nat.le_of_ble_eq_true rfl) (Nat.le_of_ble_eq_true rfl) ?_
        exact endWt [[false, false, false, false, false, false, false, false, false, false, false, false, false, false, false, false, false, false, false, false, false, false, false, false, false, false, false, false, false, true, true], [true, true, false, false, false, false, false, false, false, false, false, false, false, false, false, false, false, false, false, false, false, false, false, false, false, false, false, false, false, false, false, true], [false, false, true, true, true, true, true, true, true, true, true, true, true, true, true, true, true, true, true, true, true, true, true, true, true, true, true, true, true]] hx hb hr hlocks rfl hP hD rfl (by decide +kernel) hS ⟨fX_18, uU, rfl, Or.inr (Or.inr (Or.inl ⟨rfl, h_10, h_19⟩)), trivial⟩ (g_172 bX6_gains rfl)
      · refine lv_istore_n (lv' := [(3, .int 0), (0, .ref qm), (1, .int (nI k_4)), (2, .int (nI k_11))]) hx hb (g_62 bX6_gains rfl) rfl hl (by decide +kernel) rfl (fun ls => ?_)
        clear hl
        intro hl
        refine lv_iload_n hx hb (g_29 bX6_gains rfl) rfl (lv_at hl 0 rfl) ?_
        refine lv_if_eq (tgt := 51) hx hb dX6_gains_42 (by decide +kernel) (fun _ => ?_) (fun h9 => absurd (by decide +kernel) h9)
        refine lv_aload_n hx hb (g_42 bX6_gains rfl) rfl (lv_at hl 1 rfl) ?_
        refine lv_iload_n hx hb (g_27 bX6_gains rfl) rfl (lv_at hl 2 rfl) ?_
        refine lv_iload_n hx hb (g_28 bX6_gains rfl) rfl (lv_at hl 3 rfl) ?_
        refine cViP (As := [.int (nI k_4), .int (nI k_11)]) (rest := []) (b := qm) (q := (RX6, TX6, 35)) ⟨hx, hb, hml, hown, hts⟩ (x_X6_sumOf l G cy (H).size qm qmh qmo qmz qmR qmv qmk qma qmt kZ qmr tA qmB qmO qmK iEn iTk uP uU kAt iTo iFr JFi iFa qm3 iSt iLv iWs vLa qmu qmy qmb qms iOm fMk fMa rB rO rK k_4 k_11 (by omega) (by omega) hB hPp hWI hMa (hMk k_4 (by omega) (ex_k (by omega) h_19).1 (ex_k (by omega) h_19).2)) L_X6_305 hN hP hD hS hA (trueIxs [[false, false, false, false, false, false, false, false, false, false, false, false, false, false, false, false, false, false, false, false, false, false, false, false, false, false, false, false, false, true], [true, true, true, true, true, true, true, true, true, true, true, true, true, true, true, true, true, true, true, true, true, true, true, true, true, true, true, true, true]]) [false, false, false, false, false, false, false, false, false, false, false, false, false, false, false, false, false, false, false, false, false, false, false, false, false, false, false, false, false, false, true, true] (sels_eq rfl rfl) (by decide +kernel) rfl 29 5 rfl rfl rfl ⟨Nat.le_of_ble_eq_true rfl, Nat.le_of_ble_eq_true rfl⟩ hl.1 (Nat.le_of_ble_eq_true rfl) (g_182 (v := 305) bX6_gains rfl) ⟨Nat.le_of_ble_eq_true rfl, Nat.le_of_ble_eq_true rfl⟩ (fun r_24 u_26 H locs h_25 => ?_)
        clear hP hD hS
        intro hP hD hS
        obtain ⟨qU_27, qUB_28, qUO_29, qUK_30, rUB_31, rUO_32, rUK_33, xU_34, tX_35, iXe_36, iXt_37, iXl_38, iXw_39, rfl, h_40, h_41, h_42, h_25⟩ := h_25
        have hPD := pd_as (_ :: _ :: zzO qm 5 (.ref qmh :: .ref qmo :: .ref qmz :: .ref qmR :: .ref qmv :: .ref qmk :: .ref qma :: .ref qmt :: .int (nI kZ) :: .ref qmr :: .int (nI (T_nb tA)) :: .ref qmB :: .int (nI (T_np tA)) :: .ref qmO :: .ref qmK :: .int iEn :: .int iTk :: .int (T_sd tA) :: ov uP :: .ref qU_27 :: .int (nI kAt) :: .int iTo :: .int iFr :: .long JFi :: .int iFa :: .ref qm3 :: .int iSt :: .int iLv :: .int iWs :: vLa :: .ref qmu :: .ref qmy :: .ref qmb :: .ref qms :: .int iOm :: []) :: _ :: _ :: _ :: _ :: _ :: _ :: _ :: _ :: _ :: _ :: _ :: _ :: _ :: _ :: _ :: _ :: _ :: _ :: _ :: _ :: _ :: _ :: _ :: _ :: _ :: _ :: _ :: _ :: _ :: zzO qU_27 5 (xU_34 0 :: xU_34 1 :: xU_34 2 :: xU_34 3 :: xU_34 4 :: xU_34 5 :: xU_34 6 :: xU_34 7 :: xU_34 8 :: xU_34 9 :: .int (nI (T_nb tX_35)) :: .ref qUB_28 :: .int (nI (T_np tX_35)) :: .ref qUO_29 :: .ref qUK_30 :: .int iXe_36 :: .int iXt_37 :: .int (T_sd tX_35) :: xU_34 18 :: xU_34 19 :: xU_34 20 :: xU_34 21 :: xU_34 22 :: xU_34 23 :: xU_34 24 :: xU_34 25 :: xU_34 26 :: .int iXl_38 :: .int iXw_39 :: xU_34 29 :: xU_34 30 :: xU_34 31 :: xU_34 32 :: xU_34 33 :: xU_34 34 :: []) :: zzG cy 3 qUB_28 rUB_31 :: zzI cy (rUB_31 0) 4 (bkR tX_35 0) :: zzI cy (rUB_31 1) 4 (bkR tX_35 1) :: zzI cy (rUB_31 2) 4 (bkR tX_35 2) :: zzI cy (rUB_31 3) 4 (bkR tX_35 3) :: zzI cy (rUB_31 4) 4 (bkR tX_35 4) :: zzI cy (rUB_31 5) 4 (bkR tX_35 5) :: zzI cy (rUB_31 6) 4 (bkR tX_35 6) :: zzI cy (rUB_31 7) 4 (bkR tX_35 7) :: zzG cy 3 qUO_29 rUO_32 :: zzI cy (rUO_32 0) 5 (onR tX_35 0) :: zzI cy (rUO_32 1) 5 (onR tX_35 1) :: zzI cy (rUO_32 2) 5 (onR tX_35 2) :: zzI cy (rUO_32 3) 5 (onR tX_35 3) :: zzI cy (rUO_32 4) 5 (onR tX_35 4) :: zzI cy (rUO_32 5) 5 (onR tX_35 5) :: zzI cy (rUO_32 6) 5 (onR tX_35 6) :: zzI cy (rUO_32 7) 5 (onR tX_35 7) :: zzG cy 3 qUK_30 rUK_33 :: zzI cy (rUK_33 0) 8 (T_kn tX_35 0) :: zzI cy (rUK_33 1) 8 (T_kn tX_35 1) :: zzI cy (rUK_33 2) 8 (T_kn tX_35 2) :: zzI cy (rUK_33 3) 8 (T_kn tX_35 3) :: zzI cy (rUK_33 4) 8 (T_kn tX_35 4) :: zzI cy (rUK_33 5) 8 (T_kn tX_35 5) :: zzI cy (rUK_33 6) 8 (T_kn tX_35 6) :: zzI cy (rUK_33 7) 8 (T_kn tX_35 7) :: []) hP hD rfl
        clear hP hD
        obtain ⟨hP, hD⟩ := hPD
        refine W.widen (k := 50) (n := 888) (Nat.le_of_ble_eq_true rfl) (Nat.le_of_ble_eq_true rfl) ?_
        refine lv_aload_n hx hb (g_42 bX6_gains rfl) rfl (lv_at hl 1 rfl) ?_
        refine cVq (As := []) (rest := [.int r_24]) (b := qm) (q := (RX6, TX6, 35)) ⟨hx, hb, hml, hown, hts⟩ (c_X6_freshR l G cy (H).size qm (.ref qmh) (.ref qmo) (.ref qmz) (.ref qmR) (.ref qmv) (.ref qmk) (.ref qma) (.ref qmt) (.int (nI kZ)) (.ref qmr) tA qmB qmO qmK iEn iTk (ov uP) qU_27 (.int (nI kAt)) (.int iTo) (.int iFr) (.long JFi) (.int iFa) (.ref qm3) (.int iSt) iLv iWs vLa (.ref qmu) (.ref qmy) (.ref qmb) (.ref qms) (.int iOm) rB rO rK (xU_34 0) (xU_34 1) (xU_34 2) (xU_34 3) (xU_34 4) (xU_34 5) (xU_34 6) (xU_34 7) (xU_34 8) (xU_34 9) tX_35 qUB_28 qUO_29 qUK_30 iXe_36 iXt_37 (xU_34 18) (xU_34 19) (xU_34 20) (xU_34 21) (xU_34 22) (xU_34 23) (xU_34 24) (xU_34 25) (xU_34 26) iXl_38 iXw_39 (xU_34 29) (xU_34 30) (xU_34 31) (xU_34 32) (xU_34 33) (xU_34 34) rUB_31 rUO_32 rUK_33) L_X6_110 hN hP hD hS hA (trueIx 0 (false :: false :: true :: false :: false :: true :: true :: true :: true :: true :: true :: true :: true :: true :: true :: true :: true :: true :: true :: true :: true :: true :: true :: true :: true :: true :: true :: true :: true :: true :: true :: true :: true :: true :: true :: true :: true :: true :: true :: true :: true :: true :: true :: true :: true :: true :: true :: true :: true :: true :: true :: true :: true :: true :: true :: true :: true :: true :: true :: true :: [])) (true :: true :: false :: true :: true :: false :: false :: false :: false :: false :: false :: false :: false :: false :: false :: false :: false :: false :: false :: false :: false :: false :: false :: false :: false :: false :: false :: false :: false :: false :: false :: false :: false :: false :: false :: false :: false :: false :: false :: false :: false :: false :: false :: false :: false :: false :: false :: false :: false :: false :: false :: false :: false :: false :: false :: false :: false :: false :: false :: false :: []) (sel_eq rfl rfl) (by decide +kernel) rfl 2 5 rfl rfl rfl ⟨Nat.le_of_ble_eq_true rfl, Nat.le_of_ble_eq_true rfl⟩ hl.1 (Nat.le_of_ble_eq_true rfl) (g_182 (v := 110) bX6_gains rfl) ⟨Nat.le_of_ble_eq_true rfl, Nat.le_of_ble_eq_true rfl⟩ (fun r_43 u_45 H locs h_44 => ?_)
        clear hP hD hS
        intro hP hD hS
        obtain ⟨hu9, h_44⟩ := h_44
        have hPD := pd_eq (_ :: _ :: _ :: _ :: _ :: _ :: _ :: _ :: _ :: _ :: _ :: _ :: _ :: _ :: _ :: _ :: _ :: _ :: _ :: _ :: _ :: _ :: _ :: _ :: _ :: _ :: _ :: _ :: _ :: _ :: _ :: _ :: zzO qU_27 5 (xU_34 0 :: xU_34 1 :: xU_34 2 :: xU_34 3 :: xU_34 4 :: xU_34 5 :: xU_34 6 :: xU_34 7 :: xU_34 8 :: xU_34 9 :: .int (nI (T_nb tA)) :: .ref qUB_28 :: .int (nI (T_np tA)) :: .ref qUO_29 :: .ref qUK_30 :: .int iEn :: .int iTk :: .int (T_sd tA) :: xU_34 18 :: xU_34 19 :: xU_34 20 :: xU_34 21 :: xU_34 22 :: xU_34 23 :: xU_34 24 :: xU_34 25 :: xU_34 26 :: .int iXl_38 :: .int iXw_39 :: xU_34 29 :: xU_34 30 :: xU_34 31 :: xU_34 32 :: xU_34 33 :: xU_34 34 :: []) :: _ :: zzI cy (rUB_31 0) 4 (bkR tA 0) :: zzI cy (rUB_31 1) 4 (bkR tA 1) :: zzI cy (rUB_31 2) 4 (bkR tA 2) :: zzI cy (rUB_31 3) 4 (bkR tA 3) :: zzI cy (rUB_31 4) 4 (bkR tA 4) :: zzI cy (rUB_31 5) 4 (bkR tA 5) :: zzI cy (rUB_31 6) 4 (bkR tA 6) :: zzI cy (rUB_31 7) 4 (bkR tA 7) :: _ :: zzI cy (rUO_32 0) 5 (onR tA 0) :: zzI cy (rUO_32 1) 5 (onR tA 1) :: zzI cy (rUO_32 2) 5 (onR tA 2) :: zzI cy (rUO_32 3) 5 (onR tA 3) :: zzI cy (rUO_32 4) 5 (onR tA 4) :: zzI cy (rUO_32 5) 5 (onR tA 5) :: zzI cy (rUO_32 6) 5 (onR tA 6) :: zzI cy (rUO_32 7) 5 (onR tA 7) :: _ :: zzI cy (rUK_33 0) 8 (T_kn tA 0) :: zzI cy (rUK_33 1) 8 (T_kn tA 1) :: zzI cy (rUK_33 2) 8 (T_kn tA 2) :: zzI cy (rUK_33 3) 8 (T_kn tA 3) :: zzI cy (rUK_33 4) 8 (T_kn tA 4) :: zzI cy (rUK_33 5) 8 (T_kn tA 5) :: zzI cy (rUK_33 6) 8 (T_kn tA 6) :: zzI cy (rUK_33 7) 8 (T_kn tA 7) :: []) hP hD hu9 rfl
        clear hP hD hu9
        obtain ⟨hP, hD⟩ := hPD
        have h_44 := h_44.symm
        subst h_44
        refine lv_iconst (v := (-1)) hx hb (g_2 bX6_gains rfl) (by decide +kernel) ?_
        refine lv_iconst (v := 0) hx hb (g_3 bX6_gains rfl) (by decide +kernel) ?_
        refine lv_iload_n hx hb (g_28 bX6_gains rfl) rfl (lv_at hl 3 rfl) ?_
        refine cVi (As := [.int (-1), .int 0, .int (nI k_11)]) (rest := [.int r_24]) (b := qU_27) (q := (RX6, TX6, 35)) ⟨hx, hb, hml, hown, hts⟩ (x_X6_goes0 l G cy (H).size qU_27 (xU_34 0) (xU_34 1) (xU_34 2) (xU_34 3) (xU_34 4) (xU_34 5) (xU_34 6) (xU_34 7) (xU_34 8) (xU_34 9) tA qUB_28 qUO_29 qUK_30 iEn iTk (xU_34 18) (xU_34 19) (xU_34 20) (xU_34 21) (xU_34 22) (xU_34 23) (xU_34 24) (xU_34 25) (xU_34 26) iXl_38 iXw_39 (xU_34 29) (xU_34 30) (xU_34 31) (xU_34 32) (xU_34 33) (xU_34 34) rUB_31 rUO_32 rUK_33 k_11 hB hPp hWI (by omega)) L_X6_295 hN hP hD hS hA (trueIx 0 (false :: false :: false :: false :: false :: false :: false :: false :: false :: false :: false :: false :: false :: false :: false :: false :: false :: false :: false :: false :: false :: false :: false :: false :: false :: false :: false :: false :: false :: false :: false :: false :: true :: true :: true :: true :: true :: true :: true :: true :: true :: true :: true :: true :: true :: true :: true :: true :: true :: true :: true :: true :: true :: true :: true :: true :: true :: true :: true :: true :: [])) (true :: true :: true :: true :: true :: true :: true :: true :: true :: true :: true :: true :: true :: true :: true :: true :: true :: true :: true :: true :: true :: true :: true :: true :: true :: true :: true :: true :: true :: true :: true :: true :: false :: false :: false :: false :: false :: false :: false :: false :: false :: false :: false :: false :: false :: false :: false :: false :: false :: false :: false :: false :: false :: false :: false :: false :: false :: false :: false :: false :: []) (sel_eq rfl rfl) (by decide +kernel) rfl 32 5 rfl rfl rfl ⟨Nat.le_of_ble_eq_true rfl, Nat.le_of_ble_eq_true rfl⟩ hl.1 (Nat.le_of_ble_eq_true rfl) (g_182 (v := 295) bX6_gains rfl) ⟨Nat.le_of_ble_eq_true rfl, Nat.le_of_ble_eq_true rfl⟩ (fun r_46 u_48 H locs h_47 => ?_)
        clear hP hD hS
        intro hP hD hS
        obtain ⟨tX_49, iX_50, iY_51, hu9, h_52, h_53, h_47⟩ := h_47
        have hPD := pd_eq (_ :: _ :: _ :: _ :: _ :: _ :: _ :: _ :: _ :: _ :: _ :: _ :: _ :: _ :: _ :: _ :: _ :: _ :: _ :: _ :: _ :: _ :: _ :: _ :: _ :: _ :: _ :: _ :: _ :: _ :: _ :: _ :: zzO qU_27 5 (xU_34 0 :: xU_34 1 :: xU_34 2 :: xU_34 3 :: xU_34 4 :: xU_34 5 :: xU_34 6 :: xU_34 7 :: xU_34 8 :: xU_34 9 :: .int (nI (T_nb tX_49)) :: .ref qUB_28 :: .int (nI (T_np tX_49)) :: .ref qUO_29 :: .ref qUK_30 :: .int iX_50 :: .int iTk :: .int (T_sd tX_49) :: xU_34 18 :: xU_34 19 :: xU_34 20 :: xU_34 21 :: xU_34 22 :: xU_34 23 :: xU_34 24 :: xU_34 25 :: xU_34 26 :: .int iY_51 :: .int iXw_39 :: xU_34 29 :: xU_34 30 :: xU_34 31 :: xU_34 32 :: xU_34 33 :: xU_34 34 :: []) :: _ :: zzI cy (rUB_31 0) 4 (bkR tX_49 0) :: zzI cy (rUB_31 1) 4 (bkR tX_49 1) :: zzI cy (rUB_31 2) 4 (bkR tX_49 2) :: zzI cy (rUB_31 3) 4 (bkR tX_49 3) :: zzI cy (rUB_31 4) 4 (bkR tX_49 4) :: zzI cy (rUB_31 5) 4 (bkR tX_49 5) :: zzI cy (rUB_31 6) 4 (bkR tX_49 6) :: zzI cy (rUB_31 7) 4 (bkR tX_49 7) :: _ :: zzI cy (rUO_32 0) 5 (onR tX_49 0) :: zzI cy (rUO_32 1) 5 (onR tX_49 1) :: zzI cy (rUO_32 2) 5 (onR tX_49 2) :: zzI cy (rUO_32 3) 5 (onR tX_49 3) :: zzI cy (rUO_32 4) 5 (onR tX_49 4) :: zzI cy (rUO_32 5) 5 (onR tX_49 5) :: zzI cy (rUO_32 6) 5 (onR tX_49 6) :: zzI cy (rUO_32 7) 5 (onR tX_49 7) :: _ :: zzI cy (rUK_33 0) 8 (T_kn tX_49 0) :: zzI cy (rUK_33 1) 8 (T_kn tX_49 1) :: zzI cy (rUK_33 2) 8 (T_kn tX_49 2) :: zzI cy (rUK_33 3) 8 (T_kn tX_49 3) :: zzI cy (rUK_33 4) 8 (T_kn tX_49 4) :: zzI cy (rUK_33 5) 8 (T_kn tX_49 5) :: zzI cy (rUK_33 6) 8 (T_kn tX_49 6) :: zzI cy (rUK_33 7) 8 (T_kn tX_49 7) :: []) hP hD hu9 rfl
        clear hP hD hu9
        obtain ⟨hP, hD⟩ := hPD
        refine lv_isub hx hb (g_100 bX6_gains rfl) ?_
        exact endWs [[false, false, false, false, true], [true, false, true, true], (false :: true :: false :: false :: false :: true :: true :: true :: true :: true :: true :: true :: true :: true :: true :: true :: true :: true :: true :: true :: true :: true :: true :: true :: true :: true :: true :: true :: true :: true :: true :: true :: true :: true :: true :: true :: true :: true :: true :: true :: true :: true :: true :: true :: true :: true :: true :: true :: true :: true :: true :: true :: true :: true :: true :: true :: true :: true :: true :: true :: [])] hx hb hr hlocks rfl hP hD rfl (by decide +kernel) hS ⟨fX_18, (some (qU_27, qUB_28, qUO_29, qUK_30, rUB_31, rUO_32, rUK_33, tX_49, xU_34, iX_50, iTk, iY_51, iXw_39)), rfl, Or.inr (Or.inr (Or.inr ⟨k_4, by omega, rfl, (ex_k (by omega) h_19).1, (ex_k (by omega) h_19).2, h_10, gn_e (by omega) hPp (h_41 (by omega)) h_53.2⟩)), trivial⟩ (g_172 bX6_gains rfl)
    · refine lv_if_ne (tgt := 35) hx hb dX6_gains_21 (by decide +kernel) (fun h9 => absurd (by decide +kernel) h9) (fun _ => ?_)
      refine lv_aload_n hx hb (g_42 bX6_gains rfl) rfl (lv_at hl 0 rfl) ?_
      refine lv_bipush (v := (-2)) hx hb dX6_gains_25 (by decide +kernel) ?_
      refine cViQ (As := [.int (-2)]) (rest := []) (b := qm) (q := (RX6, TX6, 35)) ⟨hx, hb, hml, hown, hts⟩ (c_X6_refuse2 l G cy (s.heap).size qm (.ref qmh) (.ref qmo) (.ref qmz) (.ref qmR) (.ref qmv) (.ref qmk) (.ref qma) (.ref qmt) (.int (nI kZ)) qmr tA qmB qmO qmK iEn iTk (ov uP) (ov uU) (.int (nI kAt)) (.int iTo) (.int iFr) (.long JFi) (.int iFa) (.ref qm3) (.int iSt) iLv iWs vLa (.ref qmu) (.ref qmy) (.ref qmb) (.ref qms) (.int iOm) fMr) L_X6_91 hN hP hD hS hA [0, 4] [false, true, true, true, false, true, true, true, true, true, true, true, true, true, true, true, true, true, true, true, true, true, true, true, true, true, true, true, true, true, true, true] rfl (by decide +kernel) rfl 0 5 rfl rfl rfl ⟨Nat.le_of_ble_eq_true rfl, Nat.le_of_ble_eq_true rfl⟩ hl.1 (Nat.le_of_ble_eq_true rfl) (g_182 (v := 91) bX6_gains rfl) ⟨Nat.le_of_ble_eq_true rfl, Nat.le_of_ble_eq_true rfl⟩ (fun r_55 u_57 H locs h_56 => ?_)
      clear hP hD hS
      intro hP hD hS
      obtain ⟨fX_58, hu9, h_56⟩ := h_56
      have hPD := pd_eqQ (([_, _, _, _, _, _, _, _, _, _, _, _, _, _, _, _, _, _, _, _, _, _, _, _, _, _, _, _, _, _, _, zzI cy qmr 8 fX_58] : va_W) ++ oM cy uU) hP hD hu9 rfl
      clear hP hD hu9
      obtain ⟨hP, hD⟩ := hPD
      subst h_56
      refine lv_ldcw hx hb hown (hts _ m_t1290) (g_19 (v := 311) bX6_gains rfl) ?_
      refine lv_isub hx hb (g_100 bX6_gains rfl) ?_
      refine lv_seti (v := (-1000002)) (by decide +kernel) ?_
      refine W.widen (k := 50) (n := 888) (Nat.le_of_ble_eq_true rfl) (Nat.le_of_ble_eq_true rfl) ?_
      exact endWt [[false, false, false, false, false, false, false, false, false, false, false, false, false, false, false, false, false, false, false, false, false, false, false, false, false, false, false, false, false, false, true], [true, true, true, false, false, false, false, false, false, false, false, false, false, false, false, false, false, false, false, false, false, false, false, false, false, false, false, false, false, false, false, true], [false, false, false, true, true, true, true, true, true, true, true, true, true, true, true, true, true, true, true, true, true, true, true, true, true, true, true, true, true, true]] hx hb hr hlocks rfl hP hD rfl (by decide +kernel) hS ⟨fX_58, uU, rfl, Or.inl ⟨rfl, fun q => h_10 q.2⟩, trivial⟩ (g_172 bX6_gains rfl)
  · refine lv_if_eq (tgt := 24) hx hb dX6_gains_9 (by decide +kernel) (fun _ => ?_) (fun h9 => absurd (by decide +kernel) h9)
    refine lv_aload_n hx hb (g_42 bX6_gains rfl) rfl (lv_at hl 0 rfl) ?_
    refine lv_bipush (v := (-2)) hx hb dX6_gains_25 (by decide +kernel) ?_
    refine cViQ (As := [.int (-2)]) (rest := []) (b := qm) (q := (RX6, TX6, 35)) ⟨hx, hb, hml, hown, hts⟩ (c_X6_refuse2 l G cy (s.heap).size qm (.ref qmh) (.ref qmo) (.ref qmz) (.ref qmR) (.ref qmv) (.ref qmk) (.ref qma) (.ref qmt) (.int (nI kZ)) qmr tA qmB qmO qmK iEn iTk (ov uP) (ov uU) (.int (nI kAt)) (.int iTo) (.int iFr) (.long JFi) (.int iFa) (.ref qm3) (.int iSt) iLv iWs vLa (.ref qmu) (.ref qmy) (.ref qmb) (.ref qms) (.int iOm) fMr) L_X6_91 hN hP hD hS hA [0, 4] [false, true, true, true, false, true, true, true, true, true, true, true, true, true, true, true, true, true, true, true, true, true, true, true, true, true, true, true, true, true, true, true] rfl (by decide +kernel) rfl 0 5 rfl rfl rfl ⟨Nat.le_of_ble_eq_true rfl, Nat.le_of_ble_eq_true rfl⟩ hl.1 (Nat.le_of_ble_eq_true rfl) (g_182 (v := 91) bX6_gains rfl) ⟨Nat.le_of_ble_eq_true rfl, Nat.le_of_ble_eq_true rfl⟩ (fun r_60 u_62 H locs h_61 => ?_)
    clear hP hD hS
    intro hP hD hS
    obtain ⟨fX_63, hu9, h_61⟩ := h_61
    have hPD := pd_eqQ (([_, _, _, _, _, _, _, _, _, _, _, _, _, _, _, _, _, _, _, _, _, _, _, _, _, _, _, _, _, _, _, zzI cy qmr 8 fX_63] : va_W) ++ oM cy uU) hP hD hu9 rfl
    clear hP hD hu9
    obtain ⟨hP, hD⟩ := hPD
    subst h_61
    refine lv_ldcw hx hb hown (hts _ m_t1290) (g_19 (v := 311) bX6_gains rfl) ?_
    refine lv_isub hx hb (g_100 bX6_gains rfl) ?_
    refine lv_seti (v := (-1000002)) (by decide +kernel) ?_
    refine W.widen (k := 50) (n := 888) (Nat.le_of_ble_eq_true rfl) (Nat.le_of_ble_eq_true rfl) ?_
    exact endWt [[false, false, false, false, false, false, false, false, false, false, false, false, false, false, false, false, false, false, false, false, false, false, false, false, false, false, false, false, false, false, true], [true, true, true, false, false, false, false, false, false, false, false, false, false, false, false, false, false, false, false, false, false, false, false, false, false, false, false, false, false, false, false, true], [false, false, false, true, true, true, true, true, true, true, true, true, true, true, true, true, true, true, true, true, true, true, true, true, true, true, true, true, true, true]] hx hb hr hlocks rfl hP hD rfl (by decide +kernel) hS ⟨fX_63, uU, rfl, Or.inl ⟨rfl, fun q => no_of7 h_3 q.1⟩, trivial⟩ (g_172 bX6_gains rfl)
set_option maxHeartbeats 4000000 in
set_option maxRecDepth 100000 in
theorem x_X5_gains (l : Launch) (G : va_G) (cy : Nat → ClassId) (sz : Nat) (qx : Nat) (qt : Nat) (qk : Nat) (qp : Nat) (qs : Nat) (qa : Nat) (qr : Nat) (iKp : Int32) (iYe : Int32) (iTv : Int32) (fR : Nat → Int32) (qsh : Nat) (qss : Nat) (qsa : Nat) (qse : Nat) (fH : Nat → Int32) (fA : Nat → Int32) (tA : TA) (qtw : Nat) (qtn : Nat) (qtg : Nat) (qta : Nat) (qtr : Nat) (qtm : Nat) (qtt : Nat) (qts : Nat) (qu : Nat) (qv : Nat) (iL : Int32) (iBs : Int32) (tU : TA) (quw : Nat) (qun : Nat) (qug : Nat) (qua : Nat) (qur : Nat) (qum : Nat) (qut : Nat) (qus : Nat) (iA : Int32) (iB : Int32)  (hB : T_nb tA ≤ 8) (hPp : T_np tA ≤ 8) : MW l yX5_gains cX5_gains 5 (some .int) 12 0 0 G cy [zzO qx 4 [.ref qt, .ref qk, .ref qp, .ref qs, .ref qa, .ref qr, .int iKp, .int iYe, .int iTv], zzI cy qr 5 fR, zzO qs 1 [.ref qsh, .ref qss, .ref qsa, .ref qse], zzI cy qsh 8 fH, zzI cy qsa 8 fA, zzO qt 3 [.int (nI (T_nb tA)), .int (nI (T_np tA)), .int (wb (T_wh tA)), .int (wb (T_gn tA)), .int (T_sd tA), .ref qtw, .ref qtn, .ref qtg, .ref qta, .ref qtr, .ref qtm, .ref qtt, .ref qts], zzI cy qtw 8 (T_wo tA), zzI cy qtn 8 (T_ne tA), zzI cy qtg 8 (T_go tA), zzI cy qta 8 (T_ag tA), zzI cy qtr 8 (T_re tA), zzI cy qtm 8 (T_me tA), zzI cy qtt 8 (T_te tA), zzI cy qts 64 (shF (T_kn tA)), zzO qp 0 [.ref qu, .ref qv, .int iL, .int iBs], zzO qu 3 [.int (nI (T_nb tU)), .int (nI (T_np tU)), .int (wb (T_wh tU)), .int (wb (T_gn tU)), .int (T_sd tU), .ref quw, .ref qun, .ref qug, .ref qua, .ref qur, .ref qum, .ref qut, .ref qus], zzI cy quw 8 (T_wo tU), zzI cy qun 8 (T_ne tU), zzI cy qug 8 (T_go tU), zzI cy qua 8 (T_ag tU), zzI cy qur 8 (T_re tU), zzI cy qum 8 (T_me tU), zzI cy qut 8 (T_te tU), zzI cy qus 64 (shF (T_kn tU))] sz [.ref qx, .int iA, .int iB] (Wi G (fun r u => ∃ (fX : Nat → Int32) (iX : Int32) (iY : Int32) (tX : TA), u = [zzO qx 4 [.ref qt, .ref qk, .ref qp, .ref qs, .ref qa, .ref qr, .int iKp, .int iYe, .int iTv], zzI cy qr 5 fX, zzO qs 1 [.ref qsh, .ref qss, .ref qsa, .ref qse], zzI cy qsh 8 fH, zzI cy qsa 8 fA, zzO qt 3 [.int (nI (T_nb tA)), .int (nI (T_np tA)), .int (wb (T_wh tA)), .int (wb (T_gn tA)), .int (T_sd tA), .ref qtw, .ref qtn, .ref qtg, .ref qta, .ref qtr, .ref qtm, .ref qtt, .ref qts], zzI cy qtw 8 (T_wo tA), zzI cy qtn 8 (T_ne tA), zzI cy qtg 8 (T_go tA), zzI cy qta 8 (T_ag tA), zzI cy qtr 8 (T_re tA), zzI cy qtm 8 (T_me tA), zzI cy qtt 8 (T_te tA), zzI cy qts 64 (shF (T_kn tA)), zzO qp 0 [.ref qu, .ref qv, .int iX, .int iY], zzO qu 3 [.int (nI (T_nb tX)), .int (nI (T_np tX)), .int (wb (T_wh tX)), .int (wb (T_gn tX)), .int (T_sd tX), .ref quw, .ref qun, .ref qug, .ref qua, .ref qur, .ref qum, .ref qut, .ref qus], zzI cy quw 8 (T_wo tX), zzI cy qun 8 (T_ne tX), zzI cy qug 8 (T_go tX), zzI cy qua 8 (T_ag tX), zzI cy qur 8 (T_re tX), zzI cy qum 8 (T_me tX), zzI cy qut 8 (T_te tX), zzI cy qus 64 (shF (T_kn tX))] ∧ (PXk fH iA (Iv iB.toInt64 1 60) (-1000002) (-1000003) (-1000004) (fun k => gnK (fH k - 10) (fA k) tA iB) r) ∧ (True))) := by
  refine enW RX5 (by decide +kernel) rfl (Nat.le_of_ble_eq_true rfl) (fun p e s m below meth c ls A hx hb hml hown hts hr hlocks hP hN hl hin hD hA hS => ?_)
  have hin : meth.name = _ := hin
  have hK := hN.1
  replace hl : lv_has ls 5 [(0, .ref qx), (1, .int iA), (2, .int iB)] := hl
  refine lv_iload_n hx hb (g_28 bX5_gains rfl) rfl (lv_at hl 2 rfl) ?_
  refine lv_i2l (v := iB.toInt64) hx hb (g_133 bX5_gains rfl) rfl ?_
  refine lv_lconst (v := 1) hx hb (g_10 bX5_gains rfl) (by decide +kernel) ?_
  refine lv_ldc2 hx hb hown (hts _ m_t644) (g_20 (v := 250) bX5_gains rfl) ?_
  refine kRi (rS (As := [.long iB.toInt64, .long 1, .long 60]) (rest := []) ⟨hx, hb, hml, hown, hts⟩ (c_X5_within l G cy iB.toInt64 1 60) L_X5_50 (preRS hN hP [] rfl) rfl ⟨Nat.le_of_ble_eq_true rfl, Nat.le_of_ble_eq_true rfl⟩ hl.1 (Nat.le_of_ble_eq_true rfl) (g_184 (v := 50) bX5_gains rfl) ⟨Nat.le_of_ble_eq_true rfl, Nat.le_of_ble_eq_true rfl⟩) (fun r_1 h_2 => ?_)
  rcases h_2 with ⟨rfl, h_3⟩ | ⟨rfl, h_3⟩
  · obtain ⟨k_4, hk_5, hk_6, rfl⟩ := iv_nI 1 60 (by decide +kernel) (by decide +kernel) h_3
    refine lv_if_eq (tgt := 20) hx hb dX5_gains_9 (by decide +kernel) (fun h9 => absurd h9 (by decide +kernel)) (fun _ => ?_)
    refine lv_aload_n hx hb (g_42 bX5_gains rfl) rfl (lv_at hl 0 rfl) ?_
    refine lv_iload_n hx hb (g_27 bX5_gains rfl) rfl (lv_at hl 1 rfl) ?_
    refine kRi (rV (As := [.int iA]) (rest := []) (b := qx) ⟨hx, hb, hml, hown, hts⟩ (c_X5_ruleFit l G cy qx qt qk qp qs qa qr iKp iYe iTv qsh qss qsa qse fH iA) L_X5_100 (preRV (q := (RX5, TX5, 9)) hN hP (trueIx 0 [true, false, true, true]) (sel_fm rfl rfl) 0 4 rfl rfl) rfl ⟨Nat.le_of_ble_eq_true rfl, Nat.le_of_ble_eq_true rfl⟩ hl.1 (Nat.le_of_ble_eq_true rfl) (g_182 (v := 100) bX5_gains rfl) ⟨Nat.le_of_ble_eq_true rfl, Nat.le_of_ble_eq_true rfl⟩) (fun r_8 h_9 => ?_)
    rcases h_9 with ⟨rfl, h_10⟩ | ⟨rfl, h_10⟩ | ⟨rfl, h_10⟩ | ⟨rfl, h_10⟩
    · refine lv_goto (tgt := 22) hx hb dX5_gains_17 (by decide +kernel) ?_
      refine lv_istore_n (lv' := [(3, .int (-2)), (0, .ref qx), (1, .int iA), (2, .int (nI k_4))]) hx hb (g_62 bX5_gains rfl) rfl hl (by decide +kernel) rfl (fun ls => ?_)
      clear hl
      intro hl
      refine lv_iload_n hx hb (g_29 bX5_gains rfl) rfl (lv_at hl 0 rfl) ?_
      refine lv_if_eq (tgt := 37) hx hb dX5_gains_24 (by decide +kernel) (fun h9 => absurd h9 (by decide +kernel)) (fun _ => ?_)
      refine lv_aload_n hx hb (g_42 bX5_gains rfl) rfl (lv_at hl 1 rfl) ?_
      refine lv_iload_n hx hb (g_29 bX5_gains rfl) rfl (lv_at hl 0 rfl) ?_
      refine cVi (As := [.int (-2)]) (rest := []) (b := qx) (q := (RX5, TX5, 9)) ⟨hx, hb, hml, hown, hts⟩ (c_X5_refuse2 l G cy (s.heap).size qx qt qk qp qs qa qr iKp iYe iTv fR) L_X5_56 hN hP hD hS hA [0, 1] [false, false, true, true, true, true, true, true, true, true, true, true, true, true, true, true, true, true, true, true, true, true, true, true] rfl (by decide +kernel) rfl 0 4 rfl rfl rfl ⟨Nat.le_of_ble_eq_true rfl, Nat.le_of_ble_eq_true rfl⟩ hl.1 (Nat.le_of_ble_eq_true rfl) (g_182 (v := 56) bX5_gains rfl) ⟨Nat.le_of_ble_eq_true rfl, Nat.le_of_ble_eq_true rfl⟩ (fun r_12 u_14 H locs h_13 => ?_)
      clear hP hD hS
      intro hP hD hS
      obtain ⟨fX_15, hu9, h_13⟩ := h_13
      have hPD := pd_eq [_, _, _, _, _, _, _, _, _, _, _, _, _, _, _, _, _, _, _, _, _, _, _, zzI cy qr 5 fX_15] hP hD hu9 rfl
      clear hP hD hu9
      obtain ⟨hP, hD⟩ := hPD
      subst h_13
      refine lv_ldcw hx hb hown (hts _ m_t705) (g_19 (v := 286) bX5_gains rfl) ?_
      refine lv_isub hx hb (g_100 bX5_gains rfl) ?_
      refine lv_seti (v := (-1000002)) (by decide +kernel) ?_
      exact endWs [[false, false, false, false, false, false, false, false, false, false, false, false, false, false, false, false, false, false, false, false, false, false, true, true], [true, true, true, true, true, true, true, true, true, true, true, true, true, true, true, true, true, true, true, true, true, true]] hx hb hr hlocks rfl hP hD rfl (by decide +kernel) hS ⟨fX_15, iL, iBs, tU, rfl, Or.inl ⟨rfl, fun q => h_10 q.1⟩, trivial⟩ (g_172 bX5_gains rfl)
    · obtain ⟨k_16, hk_17, rfl, h_18⟩ := h_10
      refine lv_goto (tgt := 22) hx hb dX5_gains_17 (by decide +kernel) ?_
      refine lv_istore_n (lv' := [(3, .int (-3)), (0, .ref qx), (1, .int (nI k_16)), (2, .int (nI k_4))]) hx hb (g_62 bX5_gains rfl) rfl hl (by decide +kernel) rfl (fun ls => ?_)
      clear hl
      intro hl
      refine lv_iload_n hx hb (g_29 bX5_gains rfl) rfl (lv_at hl 0 rfl) ?_
      refine lv_if_eq (tgt := 37) hx hb dX5_gains_24 (by decide +kernel) (fun h9 => absurd h9 (by decide +kernel)) (fun _ => ?_)
      refine lv_aload_n hx hb (g_42 bX5_gains rfl) rfl (lv_at hl 1 rfl) ?_
      refine lv_iload_n hx hb (g_29 bX5_gains rfl) rfl (lv_at hl 0 rfl) ?_
      refine cVi (As := [.int (-3)]) (rest := []) (b := qx) (q := (RX5, TX5, 9)) ⟨hx, hb, hml, hown, hts⟩ (c_X5_refuse3 l G cy (s.heap).size qx qt qk qp qs qa qr iKp iYe iTv fR) L_X5_56 hN hP hD hS hA [0, 1] [false, false, true, true, true, true, true, true, true, true, true, true, true, true, true, true, true, true, true, true, true, true, true, true] rfl (by decide +kernel) rfl 0 4 rfl rfl rfl ⟨Nat.le_of_ble_eq_true rfl, Nat.le_of_ble_eq_true rfl⟩ hl.1 (Nat.le_of_ble_eq_true rfl) (g_182 (v := 56) bX5_gains rfl) ⟨Nat.le_of_ble_eq_true rfl, Nat.le_of_ble_eq_true rfl⟩ (fun r_20 u_22 H locs h_21 => ?_)
      clear hP hD hS
      intro hP hD hS
      obtain ⟨fX_23, hu9, h_21⟩ := h_21
      have hPD := pd_eq [_, _, _, _, _, _, _, _, _, _, _, _, _, _, _, _, _, _, _, _, _, _, _, zzI cy qr 5 fX_23] hP hD hu9 rfl
      clear hP hD hu9
      obtain ⟨hP, hD⟩ := hPD
      subst h_21
      refine lv_ldcw hx hb hown (hts _ m_t705) (g_19 (v := 286) bX5_gains rfl) ?_
      refine lv_isub hx hb (g_100 bX5_gains rfl) ?_
      refine lv_seti (v := (-1000003)) (by decide +kernel) ?_
      exact endWs [[false, false, false, false, false, false, false, false, false, false, false, false, false, false, false, false, false, false, false, false, false, false, true, true], [true, true, true, true, true, true, true, true, true, true, true, true, true, true, true, true, true, true, true, true, true, true]] hx hb hr hlocks rfl hP hD rfl (by decide +kernel) hS ⟨fX_23, iL, iBs, tU, rfl, Or.inr (Or.inl ⟨rfl, h_3, ⟨k_16, hk_17, rfl, h_18⟩⟩), trivial⟩ (g_172 bX5_gains rfl)
    · obtain ⟨k_24, hk_25, rfl, h_26, h_27⟩ := h_10
      refine lv_goto (tgt := 22) hx hb dX5_gains_17 (by decide +kernel) ?_
      refine lv_istore_n (lv' := [(3, .int 0), (0, .ref qx), (1, .int (nI k_24)), (2, .int (nI k_4))]) hx hb (g_62 bX5_gains rfl) rfl hl (by decide +kernel) rfl (fun ls => ?_)
      clear hl
      intro hl
      refine lv_iload_n hx hb (g_29 bX5_gains rfl) rfl (lv_at hl 0 rfl) ?_
      refine lv_if_eq (tgt := 37) hx hb dX5_gains_24 (by decide +kernel) (fun _ => ?_) (fun h9 => absurd (by decide +kernel) h9)
      refine lv_aload_n hx hb (g_42 bX5_gains rfl) rfl (lv_at hl 1 rfl) ?_
      refine va_get (D := G) (ci := 4) (v := .ref qp) (C := RX5) (T := TX5) (N := 9) hx hb hts iX_X5 hown hK hP 0 rfl rfl 2 (by decide +kernel) (hts _ m_t176) (fun _ h9 => h9) rfl (g_180 (v := 22) bX5_gains rfl) ?_
      refine lv_aload_n hx hb (g_42 bX5_gains rfl) rfl (lv_at hl 1 rfl) ?_
      refine va_get (D := G) (ci := 4) (v := .ref qp) (C := RX5) (T := TX5) (N := 9) hx hb hts iX_X5 hown hK hP 0 rfl rfl 2 (by decide +kernel) (hts _ m_t176) (fun _ h9 => h9) rfl (g_180 (v := 22) bX5_gains rfl) ?_
      refine lv_aload_n hx hb (g_42 bX5_gains rfl) rfl (lv_at hl 1 rfl) ?_
      refine va_get (D := G) (ci := 4) (v := .ref qt) (C := RX5) (T := TX5) (N := 9) hx hb hts iX_X5 hown hK hP 0 rfl rfl 0 (by decide +kernel) (hts _ m_t174) (fun _ h9 => h9) rfl (g_180 (v := 10) bX5_gains rfl) ?_
      refine cVq (As := [.ref qt]) (rest := [.ref qp]) (b := qp) (q := (RX0, TX0, 4)) ⟨hx, hb, hml, hown, hts⟩ (c_X0_trialOf l G cy (s.heap).size qp qu (.ref qv) (.int iL) (.int iBs) tU quw qun qug qua qur qum qut qus qt tA qtw qtn qtg qta qtr qtm qtt qts) L_X5_115 hN hP hD hS hA (trueIxs [[false, false, false, false, false, false, false, false, false, false, false, false, false, false, true, true, true, true, true, true, true, true, true, true], [false, false, false, false, false, true, true, true, true, true, true, true, true, true]]) [true, true, true, true, true, false, false, false, false, false, false, false, false, false, false, false, false, false, false, false, false, false, false, false] (sels_eq rfl rfl) (by decide +kernel) rfl 14 0 rfl rfl rfl ⟨Nat.le_of_ble_eq_true rfl, Nat.le_of_ble_eq_true rfl⟩ hl.1 (Nat.le_of_ble_eq_true rfl) (g_182 (v := 115) bX5_gains rfl) ⟨Nat.le_of_ble_eq_true rfl, Nat.le_of_ble_eq_true rfl⟩ (fun r_29 u_31 H locs h_30 => ?_)
      clear hP hD hS
      intro hP hD hS
      obtain ⟨hu9, h_30⟩ := h_30
      have hPD := pd_eq [_, _, _, _, _, _, zzO qu 3 [.int (nI (T_nb tA)), .int (nI (T_np tA)), .int (wb (T_wh tA)), .int (wb (T_gn tA)), .int (T_sd tA), .ref quw, .ref qun, .ref qug, .ref qua, .ref qur, .ref qum, .ref qut, .ref qus], zzI cy quw 8 (T_wo tA), zzI cy qun 8 (T_ne tA), zzI cy qug 8 (T_go tA), zzI cy qua 8 (T_ag tA), zzI cy qur 8 (T_re tA), zzI cy qum 8 (T_me tA), zzI cy qut 8 (T_te tA), zzI cy qus 64 (shF (T_kn tA)), _, _, _, _, _, _, _, _, _] hP hD hu9 rfl
      clear hP hD hu9
      obtain ⟨hP, hD⟩ := hPD
      have h_30 := h_30.symm
      subst h_30
      refine lv_aload_n hx hb (g_42 bX5_gains rfl) rfl (lv_at hl 1 rfl) ?_
      refine va_get (D := G) (ci := 4) (v := .ref qs) (C := RX5) (T := TX5) (N := 9) hx hb hts iX_X5 hown hK hP 0 rfl rfl 3 (by decide +kernel) (hts _ m_t177) (fun _ h9 => h9) rfl (g_180 (v := 29) bX5_gains rfl) ?_
      refine lv_iload_n hx hb (g_27 bX5_gains rfl) rfl (lv_at hl 2 rfl) ?_
      refine kRi (rV (As := [.int (nI k_24)]) (rest := [.ref qu, .ref qp]) (b := qs) ⟨hx, hb, hml, hown, hts⟩ (c_X2_kindIn l G cy qs qsh qss qsa qse fH k_24 (by omega)) L_X5_103 (preRV (q := (RX2, TX2, 4)) hN hP [2, 3] rfl 2 1 rfl rfl) rfl ⟨Nat.le_of_ble_eq_true rfl, Nat.le_of_ble_eq_true rfl⟩ hl.1 (Nat.le_of_ble_eq_true rfl) (g_182 (v := 103) bX5_gains rfl) ⟨Nat.le_of_ble_eq_true rfl, Nat.le_of_ble_eq_true rfl⟩) (fun r_32 h_33 => ?_)
      subst h_33
      refine lv_aload_n hx hb (g_42 bX5_gains rfl) rfl (lv_at hl 1 rfl) ?_
      refine va_get (D := G) (ci := 4) (v := .ref qs) (C := RX5) (T := TX5) (N := 9) hx hb hts iX_X5 hown hK hP 0 rfl rfl 3 (by decide +kernel) (hts _ m_t177) (fun _ h9 => h9) rfl (g_180 (v := 29) bX5_gains rfl) ?_
      refine va_getN (D := G) (ci := 1) (v := .ref qsa) (C := RX2) (T := TX2) (N := 4) hx hb hts iX_X2 hown hK hP 2 rfl rfl 2 (by decide +kernel) (va_Nw.use rfl (hN.2.1 (RX5, 112, "EachBookOnce$Shelves", "amount", "[I") (List.mem_of_getElem? (i := 28) rfl))) (fun _ h9 => h9) rfl (g_180 (v := 112) bX5_gains rfl) ?_
      refine lv_iload_n hx hb (g_27 bX5_gains rfl) rfl (lv_at hl 2 rfl) ?_
      refine va_iald hx hb hK hP 4 0 rfl rfl (in8 (by omega)) (g_46 bX5_gains rfl) ?_
      refine lv_seti (v := fA k_24) (congrArg fA (cl8 (by omega))) ?_
      refine lv_iload_n hx hb (g_28 bX5_gains rfl) rfl (lv_at hl 3 rfl) ?_
      refine cVi (As := [.ref qu, .int ((fH k_24) - 10), .int (fA k_24), .int (nI k_4)]) (rest := []) (b := qp) (q := (RX0, TX0, 4)) ⟨hx, hb, hml, hown, hts⟩ (c_X0_sumOfRun l G cy (H).size qp qu (.ref qv) iL iBs tA quw qun qug qua qur qum qut qus ((fH k_24) - 10) (fA k_24) k_4 hB hPp (by omega)) L_X5_254 hN hP hD hS hA (trueIx 0 [false, false, false, false, false, true, true, true, true, true, true, true, true, true, true]) [true, true, true, true, true, false, false, false, false, false, false, false, false, false, false, true, true, true, true, true, true, true, true, true] (sel_eq rfl rfl) (by decide +kernel) rfl 5 0 rfl rfl rfl ⟨Nat.le_of_ble_eq_true rfl, Nat.le_of_ble_eq_true rfl⟩ hl.1 (Nat.le_of_ble_eq_true rfl) (g_182 (v := 254) bX5_gains rfl) ⟨Nat.le_of_ble_eq_true rfl, Nat.le_of_ble_eq_true rfl⟩ (fun r_34 u_36 H locs h_35 => ?_)
      clear hP hD hS
      intro hP hD hS
      obtain ⟨hu9, h_35⟩ := h_35
      have hPD := pd_eq [_, _, _, _, _, _, _, _, _, _, _, _, _, _, zzO qp 0 [.ref qu, .ref qv, .int ((srG ((fH k_24) - 10) (fA k_24) k_4 tA iL 0).2.1), .int iBs], zzO qu 3 [.int (nI (T_nb ((srG ((fH k_24) - 10) (fA k_24) k_4 tA iL 0).1))), .int (nI (T_np ((srG ((fH k_24) - 10) (fA k_24) k_4 tA iL 0).1))), .int (wb (T_wh ((srG ((fH k_24) - 10) (fA k_24) k_4 tA iL 0).1))), .int (wb (T_gn ((srG ((fH k_24) - 10) (fA k_24) k_4 tA iL 0).1))), .int (T_sd ((srG ((fH k_24) - 10) (fA k_24) k_4 tA iL 0).1)), .ref quw, .ref qun, .ref qug, .ref qua, .ref qur, .ref qum, .ref qut, .ref qus], zzI cy quw 8 (T_wo ((srG ((fH k_24) - 10) (fA k_24) k_4 tA iL 0).1)), zzI cy qun 8 (T_ne ((srG ((fH k_24) - 10) (fA k_24) k_4 tA iL 0).1)), zzI cy qug 8 (T_go ((srG ((fH k_24) - 10) (fA k_24) k_4 tA iL 0).1)), zzI cy qua 8 (T_ag ((srG ((fH k_24) - 10) (fA k_24) k_4 tA iL 0).1)), zzI cy qur 8 (T_re ((srG ((fH k_24) - 10) (fA k_24) k_4 tA iL 0).1)), zzI cy qum 8 (T_me ((srG ((fH k_24) - 10) (fA k_24) k_4 tA iL 0).1)), zzI cy qut 8 (T_te ((srG ((fH k_24) - 10) (fA k_24) k_4 tA iL 0).1)), zzI cy qus 64 (shF (T_kn ((srG ((fH k_24) - 10) (fA k_24) k_4 tA iL 0).1)))] hP hD hu9 rfl
      clear hP hD hu9
      obtain ⟨hP, hD⟩ := hPD
      subst h_35
      refine lv_istore (lv' := [(4, .int ((srG ((fH k_24) - 10) (fA k_24) k_4 tA iL 0).2.2)), (3, .int 0), (0, .ref qx), (1, .int (nI k_24)), (2, .int (nI k_4))]) hx hb (g_54 (v := 4) bX5_gains rfl) hl (by decide +kernel) rfl (fun ls => ?_)
      clear hl
      intro hl
      refine lv_iload hx hb (g_21 (v := 4) bX5_gains rfl) (lv_at hl 0 rfl) ?_
      refine lv_aload_n hx hb (g_42 bX5_gains rfl) rfl (lv_at hl 2 rfl) ?_
      refine va_get (D := G) (ci := 4) (v := .ref qp) (C := RX5) (T := TX5) (N := 9) hx hb hts iX_X5 hown hK hP 0 rfl rfl 2 (by decide +kernel) (hts _ m_t176) (fun _ h9 => h9) rfl (g_180 (v := 22) bX5_gains rfl) ?_
      refine lv_aload_n hx hb (g_42 bX5_gains rfl) rfl (lv_at hl 2 rfl) ?_
      refine va_get (D := G) (ci := 4) (v := .ref qt) (C := RX5) (T := TX5) (N := 9) hx hb hts iX_X5 hown hK hP 0 rfl rfl 0 (by decide +kernel) (hts _ m_t174) (fun _ h9 => h9) rfl (g_180 (v := 10) bX5_gains rfl) ?_
      refine cVq (As := [.ref qt]) (rest := [.int ((srG ((fH k_24) - 10) (fA k_24) k_4 tA iL 0).2.2)]) (b := qp) (q := (RX0, TX0, 4)) ⟨hx, hb, hml, hown, hts⟩ (c_X0_trialOf l G cy (H).size qp qu (.ref qv) (.int ((srG ((fH k_24) - 10) (fA k_24) k_4 tA iL 0).2.1)) (.int iBs) ((srG ((fH k_24) - 10) (fA k_24) k_4 tA iL 0).1) quw qun qug qua qur qum qut qus qt tA qtw qtn qtg qta qtr qtm qtt qts) L_X5_115 hN hP hD hS hA (trueIxs [[false, false, false, false, false, false, false, false, false, false, false, false, false, false, true, true, true, true, true, true, true, true, true, true], [false, false, false, false, false, true, true, true, true, true, true, true, true, true]]) [true, true, true, true, true, false, false, false, false, false, false, false, false, false, false, false, false, false, false, false, false, false, false, false] (sels_eq rfl rfl) (by decide +kernel) rfl 14 0 rfl rfl rfl ⟨Nat.le_of_ble_eq_true rfl, Nat.le_of_ble_eq_true rfl⟩ hl.1 (Nat.le_of_ble_eq_true rfl) (g_182 (v := 115) bX5_gains rfl) ⟨Nat.le_of_ble_eq_true rfl, Nat.le_of_ble_eq_true rfl⟩ (fun r_37 u_39 H locs h_38 => ?_)
      clear hP hD hS
      intro hP hD hS
      obtain ⟨hu9, h_38⟩ := h_38
      have hPD := pd_eq [_, _, _, _, _, _, _, _, _, _, _, _, _, _, _, _, _, _, _, _, _, _, _, _] hP hD hu9 rfl
      clear hP hD hu9
      obtain ⟨hP, hD⟩ := hPD
      have h_38 := h_38.symm
      subst h_38
      refine lv_iload_n hx hb (g_28 bX5_gains rfl) rfl (lv_at hl 4 rfl) ?_
      refine cSi (As := [.ref qu, .int (nI k_4)]) (rest := [.int ((srG ((fH k_24) - 10) (fA k_24) k_4 tA iL 0).2.2)]) ⟨hx, hb, hml, hown, hts⟩ (c_X0_sumOfRest l G cy (H).size qu tA quw qun qug qua qur qum qut qus k_4 hB hPp (by omega)) L_X5_318 hN hP hD hS hA (trueIx 0 [false, false, false, false, false, false, true, true, true, true, true, true, true, true, true]) [true, true, true, true, true, true, false, false, false, false, false, false, false, false, false, true, true, true, true, true, true, true, true, true] (sel_eq rfl rfl) (by decide +kernel) rfl rfl ⟨Nat.le_of_ble_eq_true rfl, Nat.le_of_ble_eq_true rfl⟩ hl.1 (Nat.le_of_ble_eq_true rfl) (g_184 (v := 318) bX5_gains rfl) ⟨Nat.le_of_ble_eq_true rfl, Nat.le_of_ble_eq_true rfl⟩ (fun r_40 u_42 H locs h_41 => ?_)
      clear hP hD hS
      intro hP hD hS
      obtain ⟨hu9, h_41⟩ := h_41
      have hPD := pd_eq [_, _, _, _, _, _, _, _, _, _, _, _, _, _, _, zzO qu 3 [.int (nI (T_nb ((soG k_4 tA 0).1))), .int (nI (T_np ((soG k_4 tA 0).1))), .int (wb (T_wh ((soG k_4 tA 0).1))), .int (wb (T_gn ((soG k_4 tA 0).1))), .int (T_sd ((soG k_4 tA 0).1)), .ref quw, .ref qun, .ref qug, .ref qua, .ref qur, .ref qum, .ref qut, .ref qus], zzI cy quw 8 (T_wo ((soG k_4 tA 0).1)), zzI cy qun 8 (T_ne ((soG k_4 tA 0).1)), zzI cy qug 8 (T_go ((soG k_4 tA 0).1)), zzI cy qua 8 (T_ag ((soG k_4 tA 0).1)), zzI cy qur 8 (T_re ((soG k_4 tA 0).1)), zzI cy qum 8 (T_me ((soG k_4 tA 0).1)), zzI cy qut 8 (T_te ((soG k_4 tA 0).1)), zzI cy qus 64 (shF (T_kn ((soG k_4 tA 0).1)))] hP hD hu9 rfl
      clear hP hD hu9
      obtain ⟨hP, hD⟩ := hPD
      subst h_41
      refine lv_isub hx hb (g_100 bX5_gains rfl) ?_
      exact endWs [[true, true, true, true, true, false, true, true, true, true, true, true, true, true, true], [false, false, false, false, false, true, false, false, false, false, false, false, false, false, false, true, true, true, true, true, true, true, true, true]] hx hb hr hlocks rfl hP hD rfl (by decide +kernel) hS ⟨fR, (srG ((fH k_24) - 10) (fA k_24) k_4 tA iL 0).2.1, iBs, ((soG k_4 tA 0).1), rfl, Or.inr (Or.inr (Or.inr ⟨k_24, hk_25, rfl, h_26, h_27, h_3, gx_e (by omega) (by omega)⟩)), trivial⟩ (g_172 bX5_gains rfl)
    · obtain ⟨k_43, hk_44, rfl, h_45, h_46⟩ := h_10
      refine lv_goto (tgt := 22) hx hb dX5_gains_17 (by decide +kernel) ?_
      refine lv_istore_n (lv' := [(3, .int (-4)), (0, .ref qx), (1, .int (nI k_43)), (2, .int (nI k_4))]) hx hb (g_62 bX5_gains rfl) rfl hl (by decide +kernel) rfl (fun ls => ?_)
      clear hl
      intro hl
      refine lv_iload_n hx hb (g_29 bX5_gains rfl) rfl (lv_at hl 0 rfl) ?_
      refine lv_if_eq (tgt := 37) hx hb dX5_gains_24 (by decide +kernel) (fun h9 => absurd h9 (by decide +kernel)) (fun _ => ?_)
      refine lv_aload_n hx hb (g_42 bX5_gains rfl) rfl (lv_at hl 1 rfl) ?_
      refine lv_iload_n hx hb (g_29 bX5_gains rfl) rfl (lv_at hl 0 rfl) ?_
      refine cVi (As := [.int (-4)]) (rest := []) (b := qx) (q := (RX5, TX5, 9)) ⟨hx, hb, hml, hown, hts⟩ (c_X5_refuse4 l G cy (s.heap).size qx qt qk qp qs qa qr iKp iYe iTv fR) L_X5_56 hN hP hD hS hA [0, 1] [false, false, true, true, true, true, true, true, true, true, true, true, true, true, true, true, true, true, true, true, true, true, true, true] rfl (by decide +kernel) rfl 0 4 rfl rfl rfl ⟨Nat.le_of_ble_eq_true rfl, Nat.le_of_ble_eq_true rfl⟩ hl.1 (Nat.le_of_ble_eq_true rfl) (g_182 (v := 56) bX5_gains rfl) ⟨Nat.le_of_ble_eq_true rfl, Nat.le_of_ble_eq_true rfl⟩ (fun r_48 u_50 H locs h_49 => ?_)
      clear hP hD hS
      intro hP hD hS
      obtain ⟨fX_51, hu9, h_49⟩ := h_49
      have hPD := pd_eq [_, _, _, _, _, _, _, _, _, _, _, _, _, _, _, _, _, _, _, _, _, _, _, zzI cy qr 5 fX_51] hP hD hu9 rfl
      clear hP hD hu9
      obtain ⟨hP, hD⟩ := hPD
      subst h_49
      refine lv_ldcw hx hb hown (hts _ m_t705) (g_19 (v := 286) bX5_gains rfl) ?_
      refine lv_isub hx hb (g_100 bX5_gains rfl) ?_
      refine lv_seti (v := (-1000004)) (by decide +kernel) ?_
      exact endWs [[false, false, false, false, false, false, false, false, false, false, false, false, false, false, false, false, false, false, false, false, false, false, true, true], [true, true, true, true, true, true, true, true, true, true, true, true, true, true, true, true, true, true, true, true, true, true]] hx hb hr hlocks rfl hP hD rfl (by decide +kernel) hS ⟨fX_51, iL, iBs, tU, rfl, Or.inr (Or.inr (Or.inl ⟨rfl, h_3, ⟨k_43, hk_44, rfl, h_45, h_46⟩⟩)), trivial⟩ (g_172 bX5_gains rfl)
  · refine lv_if_eq (tgt := 20) hx hb dX5_gains_9 (by decide +kernel) (fun _ => ?_) (fun h9 => absurd (by decide +kernel) h9)
    refine lv_bipush (v := (-2)) hx hb dX5_gains_20 (by decide +kernel) ?_
    refine lv_istore_n (lv' := [(3, .int (-2)), (0, .ref qx), (1, .int iA), (2, .int iB)]) hx hb (g_62 bX5_gains rfl) rfl hl (by decide +kernel) rfl (fun ls => ?_)
    clear hl
    intro hl
    refine lv_iload_n hx hb (g_29 bX5_gains rfl) rfl (lv_at hl 0 rfl) ?_
    refine lv_if_eq (tgt := 37) hx hb dX5_gains_24 (by decide +kernel) (fun h9 => absurd h9 (by decide +kernel)) (fun _ => ?_)
    refine lv_aload_n hx hb (g_42 bX5_gains rfl) rfl (lv_at hl 1 rfl) ?_
    refine lv_iload_n hx hb (g_29 bX5_gains rfl) rfl (lv_at hl 0 rfl) ?_
    refine cVi (As := [.int (-2)]) (rest := []) (b := qx) (q := (RX5, TX5, 9)) ⟨hx, hb, hml, hown, hts⟩ (c_X5_refuse2 l G cy (s.heap).size qx qt qk qp qs qa qr iKp iYe iTv fR) L_X5_56 hN hP hD hS hA [0, 1] [false, false, true, true, true, true, true, true, true, true, true, true, true, true, true, true, true, true, true, true, true, true, true, true] rfl (by decide +kernel) rfl 0 4 rfl rfl rfl ⟨Nat.le_of_ble_eq_true rfl, Nat.le_of_ble_eq_true rfl⟩ hl.1 (Nat.le_of_ble_eq_true rfl) (g_182 (v := 56) bX5_gains rfl) ⟨Nat.le_of_ble_eq_true rfl, Nat.le_of_ble_eq_true rfl⟩ (fun r_54 u_56 H locs h_55 => ?_)
    clear hP hD hS
    intro hP hD hS
    obtain ⟨fX_57, hu9, h_55⟩ := h_55
    have hPD := pd_eq [_, _, _, _, _, _, _, _, _, _, _, _, _, _, _, _, _, _, _, _, _, _, _, zzI cy qr 5 fX_57] hP hD hu9 rfl
    clear hP hD hu9
    obtain ⟨hP, hD⟩ := hPD
    subst h_55
    refine lv_ldcw hx hb hown (hts _ m_t705) (g_19 (v := 286) bX5_gains rfl) ?_
    refine lv_isub hx hb (g_100 bX5_gains rfl) ?_
    refine lv_seti (v := (-1000002)) (by decide +kernel) ?_
    exact endWs [[false, false, false, false, false, false, false, false, false, false, false, false, false, false, false, false, false, false, false, false, false, false, true, true], [true, true, true, true, true, true, true, true, true, true, true, true, true, true, true, true, true, true, true, true, true, true]] hx hb hr hlocks rfl hP hD rfl (by decide +kernel) hS ⟨fX_57, iL, iBs, tU, rfl, Or.inl ⟨rfl, fun q => h_3 q.2⟩, trivial⟩ (g_172 bX5_gains rfl)
end
section
noncomputable def XW (cy : Nat → ClassId) (aX : Nat → Nat) (iKp : Int32) (iYe : Int32) (iTv : Int32) (fR : Nat → Int32) (tA : TA) (tB : TA) (iL : Int32) (iBs : Int32) (tU : TA) (tV : TA) (fH : Nat → Int32) (fS : Nat → Int32) (fA : Nat → Int32) (gE : Nat → Int64) (kZ : Nat) (iT1 : Int32) (iT2 : Int32) (iT3 : Int32) (iT4 : Int32) (fB : Nat → Int32) (tD : TA) : va_W := (zzO (aX 0) 4 [.ref (aX 2), .ref (aX 11), .ref (aX 20), .ref (aX 39), .ref (aX 44), .ref (aX 1), .int iKp, .int iYe, .int iTv] :: zzI cy (aX 1) 5 fR :: zzO (aX 2) 3 [.int (nI (T_nb tA)), .int (nI (T_np tA)), .int (wb (T_wh tA)), .int (wb (T_gn tA)), .int (T_sd tA), .ref (aX 3), .ref (aX 4), .ref (aX 5), .ref (aX 6), .ref (aX 7), .ref (aX 8), .ref (aX 9), .ref (aX 10)] :: zzI cy (aX 3) 8 (T_wo tA) :: zzI cy (aX 4) 8 (T_ne tA) :: zzI cy (aX 5) 8 (T_go tA) :: zzI cy (aX 6) 8 (T_ag tA) :: zzI cy (aX 7) 8 (T_re tA) :: zzI cy (aX 8) 8 (T_me tA) :: zzI cy (aX 9) 8 (T_te tA) :: zzI cy (aX 10) 64 (shF (T_kn tA)) :: zzO (aX 11) 3 [.int (nI (T_nb tB)), .int (nI (T_np tB)), .int (wb (T_wh tB)), .int (wb (T_gn tB)), .int (T_sd tB), .ref (aX 12), .ref (aX 13), .ref (aX 14), .ref (aX 15), .ref (aX 16), .ref (aX 17), .ref (aX 18), .ref (aX 19)] :: zzI cy (aX 12) 8 (T_wo tB) :: zzI cy (aX 13) 8 (T_ne tB) :: zzI cy (aX 14) 8 (T_go tB) :: zzI cy (aX 15) 8 (T_ag tB) :: zzI cy (aX 16) 8 (T_re tB) :: zzI cy (aX 17) 8 (T_me tB) :: zzI cy (aX 18) 8 (T_te tB) :: zzI cy (aX 19) 64 (shF (T_kn tB)) :: zzO (aX 20) 0 [.ref (aX 21), .ref (aX 30), .int iL, .int iBs] :: zzO (aX 21) 3 [.int (nI (T_nb tU)), .int (nI (T_np tU)), .int (wb (T_wh tU)), .int (wb (T_gn tU)), .int (T_sd tU), .ref (aX 22), .ref (aX 23), .ref (aX 24), .ref (aX 25), .ref (aX 26), .ref (aX 27), .ref (aX 28), .ref (aX 29)] :: zzI cy (aX 22) 8 (T_wo tU) :: zzI cy (aX 23) 8 (T_ne tU) :: zzI cy (aX 24) 8 (T_go tU) :: zzI cy (aX 25) 8 (T_ag tU) :: zzI cy (aX 26) 8 (T_re tU) :: zzI cy (aX 27) 8 (T_me tU) :: zzI cy (aX 28) 8 (T_te tU) :: zzI cy (aX 29) 64 (shF (T_kn tU)) :: zzO (aX 30) 3 [.int (nI (T_nb tV)), .int (nI (T_np tV)), .int (wb (T_wh tV)), .int (wb (T_gn tV)), .int (T_sd tV), .ref (aX 31), .ref (aX 32), .ref (aX 33), .ref (aX 34), .ref (aX 35), .ref (aX 36), .ref (aX 37), .ref (aX 38)] :: zzI cy (aX 31) 8 (T_wo tV) :: zzI cy (aX 32) 8 (T_ne tV) :: zzI cy (aX 33) 8 (T_go tV) :: zzI cy (aX 34) 8 (T_ag tV) :: zzI cy (aX 35) 8 (T_re tV) :: zzI cy (aX 36) 8 (T_me tV) :: zzI cy (aX 37) 8 (T_te tV) :: zzI cy (aX 38) 64 (shF (T_kn tV)) :: zzO (aX 39) 1 [.ref (aX 40), .ref (aX 41), .ref (aX 42), .ref (aX 43)] :: zzI cy (aX 40) 8 fH :: zzI cy (aX 41) 8 fS :: zzI cy (aX 42) 8 fA :: zzJ cy (aX 43) 320 gE :: zzO (aX 44) 2 [.ref (aX 45), .int (nI kZ), .int iT1, .int iT2, .int iT3, .int iT4, .ref (aX 46)] :: zzB cy (aX 45) 250 fB :: zzO (aX 46) 3 [.int (nI (T_nb tD)), .int (nI (T_np tD)), .int (wb (T_wh tD)), .int (wb (T_gn tD)), .int (T_sd tD), .ref (aX 47), .ref (aX 48), .ref (aX 49), .ref (aX 50), .ref (aX 51), .ref (aX 52), .ref (aX 53), .ref (aX 54)] :: zzI cy (aX 47) 8 (T_wo tD) :: zzI cy (aX 48) 8 (T_ne tD) :: zzI cy (aX 49) 8 (T_go tD) :: zzI cy (aX 50) 8 (T_ag tD) :: zzI cy (aX 51) 8 (T_re tD) :: zzI cy (aX 52) 8 (T_me tD) :: zzI cy (aX 53) 8 (T_te tD) :: zzI cy (aX 54) 64 (shF (T_kn tD)) :: [])
noncomputable def MK (cy : Nat → ClassId) (aM : Nat → Nat) (rR rB rO rK : Nat → Nat) (fMh : Nat → Int32) (fMo : Nat → Int32) (fMz : Nat → Int32) (gMv : Nat → Int64) (fMk : Nat → Int32) (fMa : Nat → Int32) (fMt : Nat → Int32) (kY : Nat) (fMr : Nat → Int32) (fM3 : Nat → Int32) (fMu : Nat → Int32) (fMy : Nat → Int32) (fMb : Nat → Int32) (eR : Nat → Nat → Int64) (tM : TA) (iEn : Int32) (iTk : Int32) (uP : UM) (uU : UM) (kAt : Nat) (iTo : Int32) (iFr : Int32) (JFi : Int64) (iFa : Int32) (iSt : Int32) (iLv : Int32) (iWs : Int32) (wL : UL) (uS0 : UM) (uS1 : UM) (uS2 : UM) (uS3 : UM) (uS4 : UM) (iOm : Int32) : va_W := (zzO (aM 0) 5 (.ref (aM 1) :: .ref (aM 2) :: .ref (aM 3) :: .ref (aM 14) :: .ref (aM 4) :: .ref (aM 5) :: .ref (aM 6) :: .ref (aM 7) :: .int (nI kY) :: .ref (aM 8) :: .int (nI (T_nb tM)) :: .ref (aM 15) :: .int (nI (T_np tM)) :: .ref (aM 16) :: .ref (aM 17) :: .int iEn :: .int iTk :: .int (T_sd tM) :: ov uP :: ov uU :: .int (nI kAt) :: .int iTo :: .int iFr :: .long JFi :: .int iFa :: .ref (aM 9) :: .int iSt :: .int iLv :: .int iWs :: ovL wL :: .ref (aM 10) :: .ref (aM 11) :: .ref (aM 12) :: .ref (aM 13) :: .int iOm :: []) :: zzI cy (aM 1) 8 fMh :: zzI cy (aM 2) 8 fMo :: zzI cy (aM 3) 8 fMz :: zzJ cy (aM 4) 40 gMv :: zzI cy (aM 5) 8 fMk :: zzI cy (aM 6) 8 fMa :: zzI cy (aM 7) 250 fMt :: zzI cy (aM 8) 8 fMr :: zzI cy (aM 9) 3 fM3 :: zzI cy (aM 10) 8 fMu :: zzI cy (aM 11) 5 fMy :: zzI cy (aM 12) 5 fMb :: zzQ cy 5 (aM 13) 6 (sF (refU uS0) (refU uS1) (refU uS2) (refU uS3) (refU uS4)) :: zzG cy 4 (aM 14) rR :: zzJ cy (rR 0) 40 (eR 0) :: zzJ cy (rR 1) 40 (eR 1) :: zzJ cy (rR 2) 40 (eR 2) :: zzJ cy (rR 3) 40 (eR 3) :: zzJ cy (rR 4) 40 (eR 4) :: zzJ cy (rR 5) 40 (eR 5) :: zzJ cy (rR 6) 40 (eR 6) :: zzJ cy (rR 7) 40 (eR 7) :: zzG cy 3 (aM 15) rB :: zzI cy (rB 0) 4 (bkR tM 0) :: zzI cy (rB 1) 4 (bkR tM 1) :: zzI cy (rB 2) 4 (bkR tM 2) :: zzI cy (rB 3) 4 (bkR tM 3) :: zzI cy (rB 4) 4 (bkR tM 4) :: zzI cy (rB 5) 4 (bkR tM 5) :: zzI cy (rB 6) 4 (bkR tM 6) :: zzI cy (rB 7) 4 (bkR tM 7) :: zzG cy 3 (aM 16) rO :: zzI cy (rO 0) 5 (onR tM 0) :: zzI cy (rO 1) 5 (onR tM 1) :: zzI cy (rO 2) 5 (onR tM 2) :: zzI cy (rO 3) 5 (onR tM 3) :: zzI cy (rO 4) 5 (onR tM 4) :: zzI cy (rO 5) 5 (onR tM 5) :: zzI cy (rO 6) 5 (onR tM 6) :: zzI cy (rO 7) 5 (onR tM 7) :: zzG cy 3 (aM 17) rK :: zzI cy (rK 0) 8 (T_kn tM 0) :: zzI cy (rK 1) 8 (T_kn tM 1) :: zzI cy (rK 2) 8 (T_kn tM 2) :: zzI cy (rK 3) 8 (T_kn tM 3) :: zzI cy (rK 4) 8 (T_kn tM 4) :: zzI cy (rK 5) 8 (T_kn tM 5) :: zzI cy (rK 6) 8 (T_kn tM 6) :: zzI cy (rK 7) 8 (T_kn tM 7) :: [])
section PERM
variable {G : va_G} {H : Heap} {A : Nat → Prop} {a b c d k t x u l s p q w : va_W}
theorem rotP (h : va_P G CL (a ++ (b ++ (c ++ d))) H) : va_P G CL (a ++ (c ++ (b ++ d))) H := by
  have h1 : va_P G CL ((a ++ b) ++ (c ++ d)) H := by rw [List.append_assoc]; exact h
  have h2 := h1.swap
  have h3 : va_P G CL (((a ++ c) ++ d) ++ b) H := by rw [List.append_assoc a c d]; exact h2
  have h4 := h3.swap
  rw [List.append_assoc, List.append_assoc] at h4
  exact h4
theorem rotD (h : va_D A (a ++ (b ++ (c ++ d)))) : va_D A (a ++ (c ++ (b ++ d))) := by
  have h1 : va_D A ((a ++ b) ++ (c ++ d)) := by rw [List.append_assoc]; exact h
  have h2 := h1.swap
  have h3 : va_D A (((a ++ c) ++ d) ++ b) := by rw [List.append_assoc a c d]; exact h2
  have h4 := h3.swap
  rw [List.append_assoc, List.append_assoc] at h4
  exact h4
theorem toNP (h : va_P G CL (x ++ (k ++ t)) H) : va_P G CL (k ++ (t ++ x)) H := by
  have h0 := h
  have h1 : va_P G CL ([] ++ ((k ++ t) ++ (x ++ []))) H := rotP (a := []) (b := x) (c := (k ++ t)) (d := []) (by simpa only [List.append_assoc, List.nil_append, List.append_nil] using h0)
  simpa only [List.append_assoc, List.nil_append, List.append_nil] using h1
theorem toND (h : va_D A (x ++ (k ++ t))) : va_D A (k ++ (t ++ x)) := by
  have h0 := h
  have h1 : va_D A ([] ++ ((k ++ t) ++ (x ++ []))) := rotD (a := []) (b := x) (c := (k ++ t)) (d := []) (by simpa only [List.append_assoc, List.nil_append, List.append_nil] using h0)
  simpa only [List.append_assoc, List.nil_append, List.append_nil] using h1
theorem ofNP (h : va_P G CL (k ++ (t ++ x)) H) : va_P G CL (x ++ (k ++ t)) H := by
  have h0 := h
  have h1 : va_P G CL ([] ++ (x ++ ((k ++ t) ++ []))) H := rotP (a := []) (b := (k ++ t)) (c := x) (d := []) (by simpa only [List.append_assoc, List.nil_append, List.append_nil] using h0)
  simpa only [List.append_assoc, List.nil_append, List.append_nil] using h1
theorem ofND (h : va_D A (k ++ (t ++ x))) : va_D A (x ++ (k ++ t)) := by
  have h0 := h
  have h1 : va_D A ([] ++ (x ++ ((k ++ t) ++ []))) := rotD (a := []) (b := (k ++ t)) (c := x) (d := []) (by simpa only [List.append_assoc, List.nil_append, List.append_nil] using h0)
  simpa only [List.append_assoc, List.nil_append, List.append_nil] using h1
theorem toUP (h : va_P G CL (x ++ (k ++ (u ++ t))) H) : va_P G CL ((k ++ u) ++ (t ++ x)) H := by
  have h0 := h
  have h1 : va_P G CL ([] ++ ((k ++ (u ++ t)) ++ (x ++ []))) H := rotP (a := []) (b := x) (c := (k ++ (u ++ t))) (d := []) (by simpa only [List.append_assoc, List.nil_append, List.append_nil] using h0)
  simpa only [List.append_assoc, List.nil_append, List.append_nil] using h1
theorem toUD (h : va_D A (x ++ (k ++ (u ++ t)))) : va_D A ((k ++ u) ++ (t ++ x)) := by
  have h0 := h
  have h1 : va_D A ([] ++ ((k ++ (u ++ t)) ++ (x ++ []))) := rotD (a := []) (b := x) (c := (k ++ (u ++ t))) (d := []) (by simpa only [List.append_assoc, List.nil_append, List.append_nil] using h0)
  simpa only [List.append_assoc, List.nil_append, List.append_nil] using h1
theorem ofUP (h : va_P G CL (k ++ (u ++ (t ++ x))) H) : va_P G CL (x ++ (k ++ (u ++ t))) H := by
  have h0 := h
  have h1 : va_P G CL ([] ++ (x ++ ((k ++ (u ++ t)) ++ []))) H := rotP (a := []) (b := (k ++ (u ++ t))) (c := x) (d := []) (by simpa only [List.append_assoc, List.nil_append, List.append_nil] using h0)
  simpa only [List.append_assoc, List.nil_append, List.append_nil] using h1
theorem ofUD (h : va_D A (k ++ (u ++ (t ++ x)))) : va_D A (x ++ (k ++ (u ++ t))) := by
  have h0 := h
  have h1 : va_D A ([] ++ (x ++ ((k ++ (u ++ t)) ++ []))) := rotD (a := []) (b := (k ++ (u ++ t))) (c := x) (d := []) (by simpa only [List.append_assoc, List.nil_append, List.append_nil] using h0)
  simpa only [List.append_assoc, List.nil_append, List.append_nil] using h1
theorem toLP (h : va_P G CL (x ++ (k ++ (u ++ (l ++ t)))) H) : va_P G CL ((k ++ (u ++ l)) ++ (t ++ x)) H := by
  have h0 := h
  have h1 : va_P G CL ([] ++ ((k ++ (u ++ (l ++ t))) ++ (x ++ []))) H := rotP (a := []) (b := x) (c := (k ++ (u ++ (l ++ t)))) (d := []) (by simpa only [List.append_assoc, List.nil_append, List.append_nil] using h0)
  simpa only [List.append_assoc, List.nil_append, List.append_nil] using h1
theorem toLD (h : va_D A (x ++ (k ++ (u ++ (l ++ t))))) : va_D A ((k ++ (u ++ l)) ++ (t ++ x)) := by
  have h0 := h
  have h1 : va_D A ([] ++ ((k ++ (u ++ (l ++ t))) ++ (x ++ []))) := rotD (a := []) (b := x) (c := (k ++ (u ++ (l ++ t)))) (d := []) (by simpa only [List.append_assoc, List.nil_append, List.append_nil] using h0)
  simpa only [List.append_assoc, List.nil_append, List.append_nil] using h1
theorem ofLP (h : va_P G CL (k ++ ((u ++ l) ++ (t ++ x))) H) : va_P G CL (x ++ (k ++ (u ++ (l ++ t)))) H := by
  have h0 := h
  have h1 : va_P G CL ([] ++ (x ++ ((k ++ (u ++ (l ++ t))) ++ []))) H := rotP (a := []) (b := (k ++ (u ++ (l ++ t)))) (c := x) (d := []) (by simpa only [List.append_assoc, List.nil_append, List.append_nil] using h0)
  simpa only [List.append_assoc, List.nil_append, List.append_nil] using h1
theorem ofLD (h : va_D A (k ++ ((u ++ l) ++ (t ++ x)))) : va_D A (x ++ (k ++ (u ++ (l ++ t)))) := by
  have h0 := h
  have h1 : va_D A ([] ++ (x ++ ((k ++ (u ++ (l ++ t))) ++ []))) := rotD (a := []) (b := (k ++ (u ++ (l ++ t)))) (c := x) (d := []) (by simpa only [List.append_assoc, List.nil_append, List.append_nil] using h0)
  simpa only [List.append_assoc, List.nil_append, List.append_nil] using h1
theorem toPP (h : va_P G CL (x ++ (k ++ (u ++ (l ++ (p ++ s))))) H) : va_P G CL ((k ++ p) ++ (u ++ (l ++ (s ++ x)))) H := by
  have h0 := h
  have h1 : va_P G CL ([] ++ ((k ++ (u ++ (l ++ (p ++ s)))) ++ (x ++ []))) H := rotP (a := []) (b := x) (c := (k ++ (u ++ (l ++ (p ++ s))))) (d := []) (by simpa only [List.append_assoc, List.nil_append, List.append_nil] using h0)
  have h2 : va_P G CL (k ++ (p ++ ((u ++ l) ++ (s ++ x)))) H := rotP (a := k) (b := (u ++ l)) (c := p) (d := (s ++ x)) (by simpa only [List.append_assoc, List.nil_append, List.append_nil] using h1)
  simpa only [List.append_assoc, List.nil_append, List.append_nil] using h2
theorem toPD (h : va_D A (x ++ (k ++ (u ++ (l ++ (p ++ s)))))) : va_D A ((k ++ p) ++ (u ++ (l ++ (s ++ x)))) := by
  have h0 := h
  have h1 : va_D A ([] ++ ((k ++ (u ++ (l ++ (p ++ s)))) ++ (x ++ []))) := rotD (a := []) (b := x) (c := (k ++ (u ++ (l ++ (p ++ s))))) (d := []) (by simpa only [List.append_assoc, List.nil_append, List.append_nil] using h0)
  have h2 : va_D A (k ++ (p ++ ((u ++ l) ++ (s ++ x)))) := rotD (a := k) (b := (u ++ l)) (c := p) (d := (s ++ x)) (by simpa only [List.append_assoc, List.nil_append, List.append_nil] using h1)
  simpa only [List.append_assoc, List.nil_append, List.append_nil] using h2
theorem ofPP (h : va_P G CL (k ++ (p ++ (u ++ (l ++ (s ++ x))))) H) : va_P G CL (x ++ (k ++ (u ++ (l ++ (p ++ s))))) H := by
  have h0 := h
  have h1 : va_P G CL (k ++ ((u ++ l) ++ (p ++ (s ++ x)))) H := rotP (a := k) (b := p) (c := (u ++ l)) (d := (s ++ x)) (by simpa only [List.append_assoc, List.nil_append, List.append_nil] using h0)
  have h2 : va_P G CL ([] ++ (x ++ ((k ++ (u ++ (l ++ (p ++ s)))) ++ []))) H := rotP (a := []) (b := (k ++ (u ++ (l ++ (p ++ s))))) (c := x) (d := []) (by simpa only [List.append_assoc, List.nil_append, List.append_nil] using h1)
  simpa only [List.append_assoc, List.nil_append, List.append_nil] using h2
theorem ofPD (h : va_D A (k ++ (p ++ (u ++ (l ++ (s ++ x)))))) : va_D A (x ++ (k ++ (u ++ (l ++ (p ++ s))))) := by
  have h0 := h
  have h1 : va_D A (k ++ ((u ++ l) ++ (p ++ (s ++ x)))) := rotD (a := k) (b := p) (c := (u ++ l)) (d := (s ++ x)) (by simpa only [List.append_assoc, List.nil_append, List.append_nil] using h0)
  have h2 : va_D A ([] ++ (x ++ ((k ++ (u ++ (l ++ (p ++ s)))) ++ []))) := rotD (a := []) (b := (k ++ (u ++ (l ++ (p ++ s))))) (c := x) (d := []) (by simpa only [List.append_assoc, List.nil_append, List.append_nil] using h1)
  simpa only [List.append_assoc, List.nil_append, List.append_nil] using h2
theorem toSP (h : va_P G CL (x ++ (k ++ (u ++ (l ++ (p ++ s))))) H) : va_P G CL ((k ++ s) ++ (u ++ (l ++ (p ++ x)))) H := by
  have h0 := h
  have h1 : va_P G CL ([] ++ ((k ++ (u ++ (l ++ (p ++ s)))) ++ (x ++ []))) H := rotP (a := []) (b := x) (c := (k ++ (u ++ (l ++ (p ++ s))))) (d := []) (by simpa only [List.append_assoc, List.nil_append, List.append_nil] using h0)
  have h2 : va_P G CL (k ++ (s ++ ((u ++ (l ++ p)) ++ x))) H := rotP (a := k) (b := (u ++ (l ++ p))) (c := s) (d := x) (by simpa only [List.append_assoc, List.nil_append, List.append_nil] using h1)
  simpa only [List.append_assoc, List.nil_append, List.append_nil] using h2
theorem toSD (h : va_D A (x ++ (k ++ (u ++ (l ++ (p ++ s)))))) : va_D A ((k ++ s) ++ (u ++ (l ++ (p ++ x)))) := by
  have h0 := h
  have h1 : va_D A ([] ++ ((k ++ (u ++ (l ++ (p ++ s)))) ++ (x ++ []))) := rotD (a := []) (b := x) (c := (k ++ (u ++ (l ++ (p ++ s))))) (d := []) (by simpa only [List.append_assoc, List.nil_append, List.append_nil] using h0)
  have h2 : va_D A (k ++ (s ++ ((u ++ (l ++ p)) ++ x))) := rotD (a := k) (b := (u ++ (l ++ p))) (c := s) (d := x) (by simpa only [List.append_assoc, List.nil_append, List.append_nil] using h1)
  simpa only [List.append_assoc, List.nil_append, List.append_nil] using h2
theorem ofSP (h : va_P G CL (k ++ (s ++ (u ++ (l ++ (p ++ x))))) H) : va_P G CL (x ++ (k ++ (u ++ (l ++ (p ++ s))))) H := by
  have h0 := h
  have h1 : va_P G CL (k ++ ((u ++ (l ++ p)) ++ (s ++ x))) H := rotP (a := k) (b := s) (c := (u ++ (l ++ p))) (d := x) (by simpa only [List.append_assoc, List.nil_append, List.append_nil] using h0)
  have h2 : va_P G CL ([] ++ (x ++ ((k ++ (u ++ (l ++ (p ++ s)))) ++ []))) H := rotP (a := []) (b := (k ++ (u ++ (l ++ (p ++ s))))) (c := x) (d := []) (by simpa only [List.append_assoc, List.nil_append, List.append_nil] using h1)
  simpa only [List.append_assoc, List.nil_append, List.append_nil] using h2
theorem ofSD (h : va_D A (k ++ (s ++ (u ++ (l ++ (p ++ x)))))) : va_D A (x ++ (k ++ (u ++ (l ++ (p ++ s))))) := by
  have h0 := h
  have h1 : va_D A (k ++ ((u ++ (l ++ p)) ++ (s ++ x))) := rotD (a := k) (b := s) (c := (u ++ (l ++ p))) (d := x) (by simpa only [List.append_assoc, List.nil_append, List.append_nil] using h0)
  have h2 : va_D A ([] ++ (x ++ ((k ++ (u ++ (l ++ (p ++ s)))) ++ []))) := rotD (a := []) (b := (k ++ (u ++ (l ++ (p ++ s))))) (c := x) (d := []) (by simpa only [List.append_assoc, List.nil_append, List.append_nil] using h1)
  simpa only [List.append_assoc, List.nil_append, List.append_nil] using h2
end PERM
noncomputable def SX (tA tB tD : TA) (fS : Nat → Int32) (kZ : Nat) : Prop := (T_nb tA ≤ 8 ∧ T_np tA ≤ 8) ∧ (T_nb tB ≤ 8 ∧ T_np tB ≤ 8) ∧ T_nb tD ≤ 8 ∧ (∀ s, s < 8 → ∃ n : Nat, n ≤ 40 ∧ fS s = nI n) ∧ kZ ≤ 250
noncomputable def SM (tM : TA) (uP : UM) (fMz fMa : Nat → Int32) (kY : Nat) : Prop := TI tM ∧ (isS uP = true → TI (uT uP)) ∧ (∀ s, s < 8 → ∃ n : Nat, n ≤ 40 ∧ fMz s = nI n) ∧ (∀ s, s < 8 → ∃ n : Nat, n ≤ 99 ∧ fMa s = nI n) ∧ kY ≤ 250
/-! the towns are one town: what each call leaves of that -/
noncomputable def TWR (tA tB : TA) (fB : Nat → Int32) (kZ : Nat) (fMt : Nat → Int32) (kY : Nat) (tM : TA) (uP : UM) : Prop := tA = tM ∧ WI tM ∧ (isS uP = true → tB = uT uP ∧ WI (uT uP)) ∧ nbf fB kZ = nbf fMt kY
theorem k_eq {k k' n : Nat} {a : Int32} (hn : n ≤ 8) (hk : k < n) (hk' : k' < n) (e : a = nI k) (e' : a = nI k') : k' = k := nI_inj (by omega) (by omega) (e'.symm.trans e)
section TW
variable {tA tM t1 t2 : TA} {a b c d r r' : Int32}
theorem book_k (e : tA = tM) (h1 : PXbook tA a b r t1) (h2 : PXbook tM a b r' t2) : r = r' ∧ t1 = t2 := by
  subst e
  rcases h1 with ⟨e1, c1, f1⟩ | ⟨e1, c1, d1, g1, f1⟩ | ⟨e1, c1, d1, g1, f1⟩
  · rcases h2 with ⟨e2, c2, f2⟩ | ⟨e2, c2, d2, g2, f2⟩ | ⟨e2, c2, d2, g2, f2⟩
    · exact ⟨e1.trans e2.symm, f1.trans f2.symm⟩
    · exact absurd ⟨c2, d2⟩ c1
    · exact absurd ⟨c2, d2⟩ c1
  · rcases h2 with ⟨e2, c2, f2⟩ | ⟨e2, c2, d2, g2, f2⟩ | ⟨e2, c2, d2, g2, f2⟩
    · exact absurd ⟨c1, d1⟩ c2
    · exact ⟨e1.trans e2.symm, f1.trans f2.symm⟩
    · exact absurd g2 g1
  · rcases h2 with ⟨e2, c2, f2⟩ | ⟨e2, c2, d2, g2, f2⟩ | ⟨e2, c2, d2, g2, f2⟩
    · exact absurd ⟨c1, d1⟩ c2
    · exact absurd g1 g2
    · exact ⟨e1.trans e2.symm, f1.trans f2.symm⟩
theorem one_k (e : tA = tM) (h1 : PXone tA a b c d r t1) (h2 : PXone tM a b c d r' t2) : r = r' ∧ t1 = t2 := by
  subst e
  rcases h1 with ⟨e1, c1, f1⟩ | ⟨e1, c1, g1, f1⟩ | ⟨e1, c1, g1, f1⟩
  · rcases h2 with ⟨e2, c2, f2⟩ | ⟨e2, c2, g2, f2⟩ | ⟨e2, c2, g2, f2⟩
    · exact ⟨e1.trans e2.symm, f1.trans f2.symm⟩
    · exact absurd c2 c1
    · exact absurd c2 c1
  · rcases h2 with ⟨e2, c2, f2⟩ | ⟨e2, c2, g2, f2⟩ | ⟨e2, c2, g2, f2⟩
    · exact absurd c1 c2
    · exact ⟨e1.trans e2.symm, f1.trans f2.symm⟩
    · exact absurd g2 g1
  · rcases h2 with ⟨e2, c2, f2⟩ | ⟨e2, c2, g2, f2⟩ | ⟨e2, c2, g2, f2⟩
    · exact absurd c1 c2
    · exact absurd g1 g2
    · exact ⟨e1.trans e2.symm, f1.trans f2.symm⟩
theorem alter_k (e : tA = tM) (hn : T_nb tM ≤ 8 ∧ T_np tM ≤ 8) (h1 : PXalter tA a b c r t1) (h2 : PXalter tM a b c r' t2) : r = r' ∧ t1 = t2 := by
  subst e
  rcases h1 with ⟨e1, c1, f1⟩ | ⟨k, m, hk, hm, ek, em, iv, h1⟩
  · rcases h2 with ⟨e2, c2, f2⟩ | ⟨k, m, hk, hm, ek, em, iv, h2⟩
    · exact ⟨e1.trans e2.symm, f1.trans f2.symm⟩
    · exact absurd ⟨⟨⟨k, hk, ek⟩, ⟨m, hm, em⟩⟩, iv⟩ c1
  · rcases h2 with ⟨e2, c2, f2⟩ | ⟨k', m', hk', hm', ek', em', iv', h2⟩
    · exact absurd ⟨⟨⟨k, hk, ek⟩, ⟨m, hm, em⟩⟩, iv⟩ c2
    · have q1 := k_eq hn.2 hk hk' ek ek'
      have q2 := k_eq hn.1 hm hm' em em'
      subst q1
      subst q2
      rcases h1 with ⟨e1, g1, f1⟩ | ⟨e1, g1, f1⟩
      · rcases h2 with ⟨e2, g2, f2⟩ | ⟨e2, g2, f2⟩
        · exact ⟨e1.trans e2.symm, f1.trans f2.symm⟩
        · rw [g1] at g2; cases g2
      · rcases h2 with ⟨e2, g2, f2⟩ | ⟨e2, g2, f2⟩
        · rw [g1] at g2; cases g2
        · exact ⟨e1.trans e2.symm, f1.trans f2.symm⟩
theorem read_k (e : tA = tM) (hn : T_nb tM ≤ 8 ∧ T_np tM ≤ 8) (h1 : PXread tA a b r t1) (h2 : PXread tM a b r' t2) : r = r' ∧ t1 = t2 := by
  subst e
  rcases h1 with ⟨e1, c1, f1⟩ | ⟨k, m, hk, hm, ek, em, h1⟩
  · rcases h2 with ⟨e2, c2, f2⟩ | ⟨k, m, hk, hm, ek, em, h2⟩
    · exact ⟨e1.trans e2.symm, f1.trans f2.symm⟩
    · exact absurd ⟨⟨k, hk, ek⟩, ⟨m, hm, em⟩⟩ c1
  · rcases h2 with ⟨e2, c2, f2⟩ | ⟨k', m', hk', hm', ek', em', h2⟩
    · exact absurd ⟨⟨k, hk, ek⟩, ⟨m, hm, em⟩⟩ c2
    · have q1 := k_eq hn.2 hk hk' ek ek'
      have q2 := k_eq hn.1 hm hm' em em'
      subst q1
      subst q2
      rcases h1 with ⟨e1, g1, f1⟩ | ⟨e1, g1, p1, f1⟩
      · rcases h2 with ⟨e2, g2, f2⟩ | ⟨e2, g2, p2, f2⟩
        · exact ⟨e1.trans e2.symm, f1.trans f2.symm⟩
        · rw [g2, p2] at g1; exact absurd g1 (by decide +kernel)
      · rcases h2 with ⟨e2, g2, f2⟩ | ⟨e2, g2, p2, f2⟩
        · rw [g1, p1] at g2; exact absurd g2 (by decide +kernel)
        · exact ⟨e1.trans e2.symm, f1.trans f2.symm⟩
theorem aloud_k (e : tA = tM) (hn : T_nb tM ≤ 8 ∧ T_np tM ≤ 8) (h1 : PXaloud tA a b c r t1) (h2 : PXaloud tM a b c r' t2) : r = r' ∧ t1 = t2 := by
  subst e
  rcases h1 with ⟨e1, c1, f1⟩ | ⟨k, m, hk, hm, ek, em, iv, h1⟩
  · rcases h2 with ⟨e2, c2, f2⟩ | ⟨k, m, hk, hm, ek, em, iv, h2⟩
    · exact ⟨e1.trans e2.symm, f1.trans f2.symm⟩
    · exact absurd ⟨iv, ⟨⟨k, hk, ek⟩, ⟨m, hm, em⟩⟩⟩ c1
  · rcases h2 with ⟨e2, c2, f2⟩ | ⟨k', m', hk', hm', ek', em', iv', h2⟩
    · exact absurd ⟨iv, ⟨⟨k, hk, ek⟩, ⟨m, hm, em⟩⟩⟩ c2
    · have q1 := k_eq hn.2 hk hk' ek ek'
      have q2 := k_eq hn.1 hm hm' em em'
      subst q1
      subst q2
      rcases h1 with ⟨e1, g1, f1⟩ | ⟨e1, g1, p1, f1⟩
      · rcases h2 with ⟨e2, g2, f2⟩ | ⟨e2, g2, p2, f2⟩
        · exact ⟨e1.trans e2.symm, f1.trans f2.symm⟩
        · rw [g2, p2] at g1; exact absurd g1 (by decide +kernel)
      · rcases h2 with ⟨e2, g2, f2⟩ | ⟨e2, g2, p2, f2⟩
        · rw [g1, p1] at g2; exact absurd g2 (by decide +kernel)
        · exact ⟨e1.trans e2.symm, f1.trans f2.symm⟩
theorem tell_k (e : tA = tM) (hn : T_nb tM ≤ 8 ∧ T_np tM ≤ 8) (h1 : PXtell tA a b c r t1) (h2 : PXtell tM a b c r' t2) : r = r' ∧ t1 = t2 := by
  subst e
  rcases h1 with ⟨e1, c1, f1⟩ | ⟨k, j, m, hk, hj, hm, ek, ej, em, ne, h1⟩
  · rcases h2 with ⟨e2, c2, f2⟩ | ⟨k, j, m, hk, hj, hm, ek, ej, em, ne, h2⟩
    · exact ⟨e1.trans e2.symm, f1.trans f2.symm⟩
    · exact absurd ⟨⟨⟨k, hk, ek⟩, ⟨m, hm, em⟩⟩, ⟨j, hj, ej⟩, fun q => ne (nI_inj (by omega) (by omega) (ek.symm.trans (q.trans ej)))⟩ c1
  · rcases h2 with ⟨e2, c2, f2⟩ | ⟨k', j', m', hk', hj', hm', ek', ej', em', ne', h2⟩
    · exact absurd ⟨⟨⟨k, hk, ek⟩, ⟨m, hm, em⟩⟩, ⟨j, hj, ej⟩, fun q => ne (nI_inj (by omega) (by omega) (ek.symm.trans (q.trans ej)))⟩ c2
    · have q1 := k_eq hn.2 hk hk' ek ek'
      have q2 := k_eq hn.1 hm hm' em em'
      have q3 := k_eq hn.2 hj hj' ej ej'
      subst q1
      subst q2
      subst q3
      rcases h1 with ⟨e1, g1, f1⟩ | ⟨e1, g1, p1, f1⟩
      · rcases h2 with ⟨e2, g2, f2⟩ | ⟨e2, g2, p2, f2⟩
        · exact ⟨e1.trans e2.symm, f1.trans f2.symm⟩
        · rw [g2, p2] at g1; exact absurd g1 (by decide +kernel)
      · rcases h2 with ⟨e2, g2, f2⟩ | ⟨e2, g2, p2, f2⟩
        · rw [g1, p1] at g2; exact absurd g2 (by decide +kernel)
        · exact ⟨e1.trans e2.symm, f1.trans f2.symm⟩
theorem write_k (e : tA = tM) (hn : T_nb tM ≤ 8 ∧ T_np tM ≤ 8) (h1 : PXwrite tA a b r t1) (h2 : PXwrite tM a b r' t2) : r = r' ∧ t1 = t2 := by
  subst e
  rcases h1 with ⟨e1, c1, f1⟩ | ⟨k, m, hk, hm, ek, em, h1⟩
  · rcases h2 with ⟨e2, c2, f2⟩ | ⟨k, m, hk, hm, ek, em, h2⟩
    · exact ⟨e1.trans e2.symm, f1.trans f2.symm⟩
    · exact absurd ⟨⟨k, hk, ek⟩, ⟨m, hm, em⟩⟩ c1
  · rcases h2 with ⟨e2, c2, f2⟩ | ⟨k', m', hk', hm', ek', em', h2⟩
    · exact absurd ⟨⟨k, hk, ek⟩, ⟨m, hm, em⟩⟩ c2
    · have q1 := k_eq hn.2 hk hk' ek ek'
      have q2 := k_eq hn.1 hm hm' em em'
      subst q1
      subst q2
      rcases h1 with ⟨e1, g1, f1⟩ | ⟨e1, g1, p1, n1, f1⟩
      · rcases h2 with ⟨e2, g2, f2⟩ | ⟨e2, g2, p2, n2, f2⟩
        · exact ⟨e1.trans e2.symm, f1.trans f2.symm⟩
        · rw [g2, p2] at g1; rcases g1 with g | g | g
          · cases g
          · cases g
          · exact absurd g n2
      · rcases h2 with ⟨e2, g2, f2⟩ | ⟨e2, g2, p2, n2, f2⟩
        · rw [g1, p1] at g2; rcases g2 with g | g | g
          · cases g
          · cases g
          · exact absurd g n1
        · exact ⟨e1.trans e2.symm, f1.trans f2.symm⟩
theorem town_k {R : Nat ⊕ (TA × Nat)} (e : tA = tM) (h1 : PXtown R tA r t1) (h2 : PXtown R tM r' t2) : r = r' ∧ t1 = t2 := by
  subst e
  rcases h1 with ⟨x, e1, r1, f1⟩ | ⟨x, e1, r1⟩
  · rcases h2 with ⟨y, e2, r2, f2⟩ | ⟨y, e2, r2⟩
    · have q := Sum.inl.inj (e1.symm.trans e2)
      exact ⟨by rw [r1, r2, q], f1.trans f2.symm⟩
    · rw [e1] at e2; cases e2
  · rcases h2 with ⟨y, e2, r2, f2⟩ | ⟨y, e2, r2⟩
    · rw [e1] at e2; cases e2
    · have q := Prod.mk.inj (Sum.inr.inj (e1.symm.trans e2))
      exact ⟨by rw [r1, r2, q.2], q.1⟩
end TW
theorem nbf_0 {f g : Nat → Int32} : nbf f 0 = nbf g 0 := by
  funext i
  show (if i < 0 then nrm (f i) else 128) = if i < 0 then nrm (g i) else 128
  rw [if_neg (by omega), if_neg (by omega)]
noncomputable def SH1 (s : Nat) (fH fS fA : Nat → Int32) (gE : Nat → Int64) (fMh fMo fMz fMk fMa : Nat → Int32) (eR : Nat → Nat → Int64) : Prop := (fMh s = 0 ∧ fH s = -1) ∨ (fMh s = 1 ∧ fH s = fMo s ∧ Rw (fH s) ∧ fS s = fMz s ∧ ∀ n i : Nat, fS s = nI n → n ≤ 40 → i < n → gE (s * 40 + i) = eR s i) ∨ (fMh s = 2 ∧ fH s = 10 + fMk s ∧ Iv (fMk s).toInt64 1 6 ∧ fA s = fMa s)
noncomputable def SHR (fH fS fA : Nat → Int32) (gE : Nat → Int64) (fMh fMo fMz fMk fMa : Nat → Int32) (eR : Nat → Nat → Int64) : Prop := ∀ s, s < 8 → SH1 s fH fS fA gE fMh fMo fMz fMk fMa eR
noncomputable def LR (iKp : Int32) (tA tB : TA) (fH fS fA : Nat → Int32) (gE : Nat → Int64) (kZ : Nat) (fMh fMo fMz fMk fMa : Nat → Int32) (eR : Nat → Nat → Int64) (kY : Nat) (tM : TA) (uP : UM) (fB fMt : Nat → Int32) : Prop := (kZ = kY ∧ (iKp = 0 ↔ isS uP = false) ∧ SHR fH fS fA gE fMh fMo fMz fMk fMa eR) ∧ TWR tA tB fB kZ fMt kY tM uP
noncomputable def LINV (G : va_G) (cy : Nat → ClassId) (A : Nat → Prop) (H : Heap) (aX aM rR rB rO rK : Nat → Nat) : Prop := ∃ (iKp : Int32) (iYe : Int32) (iTv : Int32) (fR : Nat → Int32) (tA : TA) (tB : TA) (iL : Int32) (iBs : Int32) (tU : TA) (tV : TA) (fH : Nat → Int32) (fS : Nat → Int32) (fA : Nat → Int32) (gE : Nat → Int64) (kZ : Nat) (iT1 : Int32) (iT2 : Int32) (iT3 : Int32) (iT4 : Int32) (fB : Nat → Int32) (tD : TA) (fMh : Nat → Int32) (fMo : Nat → Int32) (fMz : Nat → Int32) (gMv : Nat → Int64) (fMk : Nat → Int32) (fMa : Nat → Int32) (fMt : Nat → Int32) (kY : Nat) (fMr : Nat → Int32) (fM3 : Nat → Int32) (fMu : Nat → Int32) (fMy : Nat → Int32) (fMb : Nat → Int32) (eR : Nat → Nat → Int64) (tM : TA) (iEn : Int32) (iTk : Int32) (uP : UM) (uU : UM) (kAt : Nat) (iTo : Int32) (iFr : Int32) (JFi : Int64) (iFa : Int32) (iSt : Int32) (iLv : Int32) (iWs : Int32) (wL : UL) (uS0 : UM) (uS1 : UM) (uS2 : UM) (uS3 : UM) (uS4 : UM) (iOm : Int32), va_P G CL ((XW cy aX iKp iYe iTv fR tA tB iL iBs tU tV fH fS fA gE kZ iT1 iT2 iT3 iT4 fB tD) ++ ((MK cy aM rR rB rO rK fMh fMo fMz gMv fMk fMa fMt kY fMr fM3 fMu fMy fMb eR tM iEn iTk uP uU kAt iTo iFr JFi iFa iSt iLv iWs wL uS0 uS1 uS2 uS3 uS4 iOm) ++ ((oM cy uU) ++ ((oL cy wL) ++ ((oM cy uP) ++ (oM cy uS0 ++ (oM cy uS1 ++ (oM cy uS2 ++ (oM cy uS3 ++ oM cy uS4))))))))) H ∧ va_D A ((XW cy aX iKp iYe iTv fR tA tB iL iBs tU tV fH fS fA gE kZ iT1 iT2 iT3 iT4 fB tD) ++ ((MK cy aM rR rB rO rK fMh fMo fMz gMv fMk fMa fMt kY fMr fM3 fMu fMy fMb eR tM iEn iTk uP uU kAt iTo iFr JFi iFa iSt iLv iWs wL uS0 uS1 uS2 uS3 uS4 iOm) ++ ((oM cy uU) ++ ((oL cy wL) ++ ((oM cy uP) ++ (oM cy uS0 ++ (oM cy uS1 ++ (oM cy uS2 ++ (oM cy uS3 ++ oM cy uS4))))))))) ∧ SX tA tB tD fS kZ ∧ SM tM uP fMz fMa kY ∧ LR iKp tA tB fH fS fA gE kZ fMh fMo fMz fMk fMa eR kY tM uP fB fMt
theorem linv_mk {G : va_G} {cy : Nat → ClassId} {A : Nat → Prop} {H : Heap} {aX aM rR rB rO rK : Nat → Nat} {iKp : Int32} {iYe : Int32} {iTv : Int32} {fR : Nat → Int32} {tA : TA} {tB : TA} {iL : Int32} {iBs : Int32} {tU : TA} {tV : TA} {fH : Nat → Int32} {fS : Nat → Int32} {fA : Nat → Int32} {gE : Nat → Int64} {kZ : Nat} {iT1 : Int32} {iT2 : Int32} {iT3 : Int32} {iT4 : Int32} {fB : Nat → Int32} {tD : TA} {fMh : Nat → Int32} {fMo : Nat → Int32} {fMz : Nat → Int32} {gMv : Nat → Int64} {fMk : Nat → Int32} {fMa : Nat → Int32} {fMt : Nat → Int32} {kY : Nat} {fMr : Nat → Int32} {fM3 : Nat → Int32} {fMu : Nat → Int32} {fMy : Nat → Int32} {fMb : Nat → Int32} {eR : Nat → Nat → Int64} {tM : TA} {iEn : Int32} {iTk : Int32} {uP : UM} {uU : UM} {kAt : Nat} {iTo : Int32} {iFr : Int32} {JFi : Int64} {iFa : Int32} {iSt : Int32} {iLv : Int32} {iWs : Int32} {wL : UL} {uS0 : UM} {uS1 : UM} {uS2 : UM} {uS3 : UM} {uS4 : UM} {iOm : Int32} (hP : va_P G CL ((XW cy aX iKp iYe iTv fR tA tB iL iBs tU tV fH fS fA gE kZ iT1 iT2 iT3 iT4 fB tD) ++ ((MK cy aM rR rB rO rK fMh fMo fMz gMv fMk fMa fMt kY fMr fM3 fMu fMy fMb eR tM iEn iTk uP uU kAt iTo iFr JFi iFa iSt iLv iWs wL uS0 uS1 uS2 uS3 uS4 iOm) ++ ((oM cy uU) ++ ((oL cy wL) ++ ((oM cy uP) ++ (oM cy uS0 ++ (oM cy uS1 ++ (oM cy uS2 ++ (oM cy uS3 ++ oM cy uS4))))))))) H) (hD : va_D A ((XW cy aX iKp iYe iTv fR tA tB iL iBs tU tV fH fS fA gE kZ iT1 iT2 iT3 iT4 fB tD) ++ ((MK cy aM rR rB rO rK fMh fMo fMz gMv fMk fMa fMt kY fMr fM3 fMu fMy fMb eR tM iEn iTk uP uU kAt iTo iFr JFi iFa iSt iLv iWs wL uS0 uS1 uS2 uS3 uS4 iOm) ++ ((oM cy uU) ++ ((oL cy wL) ++ ((oM cy uP) ++ (oM cy uS0 ++ (oM cy uS1 ++ (oM cy uS2 ++ (oM cy uS3 ++ oM cy uS4)))))))))) (hsX : SX tA tB tD fS kZ) (hsM : SM tM uP fMz fMa kY) (hLR : LR iKp tA tB fH fS fA gE kZ fMh fMo fMz fMk fMa eR kY tM uP fB fMt) : LINV G cy A H aX aM rR rB rO rK := ⟨iKp, iYe, iTv, fR, tA, tB, iL, iBs, tU, tV, fH, fS, fA, gE, kZ, iT1, iT2, iT3, iT4, fB, tD, fMh, fMo, fMz, gMv, fMk, fMa, fMt, kY, fMr, fM3, fMu, fMy, fMb, eR, tM, iEn, iTk, uP, uU, kAt, iTo, iFr, JFi, iFa, iSt, iLv, iWs, wL, uS0, uS1, uS2, uS3, uS4, iOm, hP, hD, hsX, hsM, hLR⟩
end
