section
noncomputable def zrN (e : Nat → Nat → Int64) (k : Nat) : Nat → Nat → Nat → Int64
  | 0 => e
  | j + 1 => updN (zrN e k j) k j 0
noncomputable def PMrow (h o z : Nat → Int32) (e : Nat → Nat → Int64) (a b c r : Int32) (h' o' z' : Nat → Int32) (e' : Nat → Nat → Int64) : Prop := (r = -2 ∧ ¬ (Sh a ∧ Iv b.toInt64 0 4 ∧ Iv c.toInt64 0 40) ∧ h' = h ∧ o' = o ∧ z' = z ∧ e' = e) ∨ (r = 1 ∧ ∃ k n : Nat, k < 8 ∧ n ≤ 40 ∧ a = nI k ∧ c = nI n ∧ Iv b.toInt64 0 4 ∧ h' = upd h k 1 ∧ o' = upd o k b ∧ z' = upd z k (nI n) ∧ e' = zrN e k 40)
noncomputable def PMset (h o z : Nat → Int32) (e : Nat → Nat → Int64) (a b : Int32) (v : Int64) (r : Int32) (e' : Nat → Nat → Int64) : Prop := (r = -2 ∧ (¬ Sh a ∨ ∃ k : Nat, k < 8 ∧ a = nI k ∧ ¬ h k = 2 ∧ ¬ h k = 0 ∧ ¬ Iv b.toInt64 0 (z k - 1).toInt64) ∧ e' = e) ∨ (r = -3 ∧ (∃ k : Nat, k < 8 ∧ a = nI k ∧ h k = 2) ∧ e' = e) ∨ (r = -4 ∧ (∃ k : Nat, k < 8 ∧ a = nI k ∧ ¬ h k = 2 ∧ h k = 0) ∧ e' = e) ∨ (r = 1 ∧ ∃ k i : Nat, k < 8 ∧ a = nI k ∧ ¬ h k = 2 ∧ ¬ h k = 0 ∧ i < 40 ∧ b = nI i ∧ Iv b.toInt64 0 (z k - 1).toInt64 ∧ e' = updN e k i (zft (o k) v))
noncomputable abbrev SpM (i j n zp zq : Int32) : Prop := ¬ n < 0 ∧ ¬ i < 0 ∧ ¬ j < 0 ∧ ¬ zp < n ∧ ¬ zq < n ∧ ¬ zp - n < i ∧ j ≤ zq - n
noncomputable def PMcopy (h o z : Nat → Int32) (e : Nat → Nat → Int64) (a b c d n r : Int32) (e' : Nat → Nat → Int64) : Prop := (r = -2 ∧ ((¬ ∃ k m : Nat, k < 8 ∧ m < 8 ∧ a = nI k ∧ b = nI m) ∨ ∃ k m : Nat, k < 8 ∧ m < 8 ∧ a = nI k ∧ b = nI m ∧ ¬ h k = 2 ∧ ¬ h m = 2 ∧ ¬ h k = 0 ∧ ¬ h m = 0 ∧ (h k = 1 → h m = 1 → o k = o m) ∧ ¬ SpM c d n (z k) (z m)) ∧ e' = e) ∨ (r = -3 ∧ (∃ k m : Nat, k < 8 ∧ m < 8 ∧ a = nI k ∧ b = nI m ∧ (h k = 2 ∨ h m = 2 ∨ (h k = 1 ∧ h m = 1 ∧ ¬ o k = o m))) ∧ e' = e) ∨ (r = -4 ∧ (∃ k m : Nat, k < 8 ∧ m < 8 ∧ a = nI k ∧ b = nI m ∧ ¬ h k = 2 ∧ ¬ h m = 2 ∧ (h k = 0 ∨ h m = 0)) ∧ e' = e) ∨ (r = n ∧ ∃ k m i j x : Nat, k < 8 ∧ m < 8 ∧ a = nI k ∧ b = nI m ∧ ¬ h k = 2 ∧ ¬ h m = 2 ∧ ¬ h k = 0 ∧ ¬ h m = 0 ∧ (h k = 1 → h m = 1 → o k = o m) ∧ c = nI i ∧ d = nI j ∧ n = nI x ∧ i + x ≤ 40 ∧ j + x ≤ 40 ∧ SpM c d n (z k) (z m) ∧ ∀ s y, e' s y = if s = m ∧ j ≤ y ∧ y < j + x then e k (i + (y - j)) else e s y)
noncomputable def PMelem (h z : Nat → Int32) (e : Nat → Nat → Int64) (a b : Int32) (r : Int64) : Prop := (r = 0 ∧ ¬ ∃ k : Nat, k < 8 ∧ a = nI k ∧ h k = 1 ∧ Iv b.toInt64 0 (z k - 1).toInt64) ∨ ∃ k i : Nat, k < 8 ∧ a = nI k ∧ h k = 1 ∧ i < 40 ∧ b = nI i ∧ Iv b.toInt64 0 (z k - 1).toInt64 ∧ r = e k i
noncomputable def PMholds (h o q : Nat → Int32) (a r : Int32) : Prop := (r = -1 ∧ ¬ Sh a) ∨ ∃ k : Nat, k < 8 ∧ a = nI k ∧ ((h k = 0 ∧ r = -1) ∨ (h k = 1 ∧ r = o k) ∨ (¬ h k = 0 ∧ ¬ h k = 1 ∧ r = 10 + q k))
noncomputable def PMrule (h q am : Nat → Int32) (a b c r : Int32) (h' q' am' : Nat → Int32) : Prop := (r = -2 ∧ ¬ (Sh a ∧ Iv b.toInt64 1 6 ∧ Iv c.toInt64 0 99) ∧ h' = h ∧ q' = q ∧ am' = am) ∨ (r = 1 ∧ ∃ k : Nat, k < 8 ∧ a = nI k ∧ Iv b.toInt64 1 6 ∧ Iv c.toInt64 0 99 ∧ h' = upd h k 2 ∧ q' = upd q k b ∧ am' = upd am k c)
theorem cp_stepL {g f : Nat → Int64} {i m : Nat} (h : ∀ x, x < m → g x = f (i + x)) : ∀ x, x < m + 1 → vp_updL g m (f (i + m)) x = f (i + x) := fun x hx => by
  show (if x = m then f (i + m) else g x) = f (i + x)
  split
  · next e => rw [e]
  · next e => exact h x (by omega)
theorem cp_stepN {K e : Nat → Nat → Int64} {p q i j n : Nat} {v : Int64} (h : ∀ s x, K s x = if s = q ∧ j ≤ x ∧ x < j + n then e p (i + (x - j)) else e s x) (hv : v = e p (i + n)) : ∀ s x, updN K q (j + n) v s x = if s = q ∧ j ≤ x ∧ x < j + (n + 1) then e p (i + (x - j)) else e s x := fun s x => by
  unfold updN
  by_cases hs : s = q
  · subst hs
    rw [if_pos rfl]
    show (if x = j + n then v else K s x) = _
    by_cases hx : x = j + n
    · subst hx
      rw [if_pos rfl, if_pos ⟨rfl, by omega, by omega⟩, hv]
      congr 1
      omega
    · rw [if_neg hx, h]
      by_cases h2 : j ≤ x ∧ x < j + n
      · rw [if_pos ⟨rfl, h2⟩, if_pos ⟨rfl, by omega, by omega⟩]
      · rw [if_neg (fun q => h2 q.2), if_neg (fun q => h2 (by omega))]
  · rw [if_neg hs, h, if_neg (fun q => hs q.1), if_neg (fun q => hs q.1)]
theorem cp_of {i j n zp zq : Int32} {a b : Nat} (ea : zp = nI a) (ha : a ≤ 40) (eb : zq = nI b) (hb : b ≤ 40) (h1 : ¬ n < 0) (h2 : ¬ i < 0) (h3 : ¬ j < 0) (h4 : ¬ zp < n) (h5 : ¬ zq < n) (h6 : ¬ zp - n < i) (h7 : j ≤ zq - n) : ∃ x z y : Nat, x + z ≤ 40 ∧ y + z ≤ 40 ∧ i = nI x ∧ j = nI y ∧ n = nI z := by
  subst ea eb
  obtain ⟨z, hz, rfl⟩ := nI_of h1
  obtain ⟨x, hx, rfl⟩ := nI_of h2
  obtain ⟨y, hy, rfl⟩ := nI_of h3
  rw [Int32.lt_iff_toInt_lt, nI_toInt (by omega), nI_toInt hz] at h4 h5
  have k4 : z ≤ a := by omega
  have k5 : z ≤ b := by omega
  rw [pk_sub k4, Int32.lt_iff_toInt_lt, nI_toInt (by omega), nI_toInt hx] at h6
  rw [pk_sub k5, Int32.le_iff_toInt_le, nI_toInt hy, nI_toInt (by omega)] at h7
  exact ⟨x, z, y, by omega, by omega, rfl, rfl, rfl⟩
set_option maxHeartbeats 4000000 in
set_option maxRecDepth 100000 in
theorem p_X6_row (l : Launch) (G : va_G) (cy : Nat → ClassId) (sz : Nat) (qm : Nat) (qmh : Nat) (qmo : Nat) (qmz : Nat) (qmR : Nat) (qmv : Nat) (qmk : Nat) (qma : Nat) (qmt : Nat) (kZ : Nat) (qmr : Nat) (tA : TA) (qmB : Nat) (qmO : Nat) (qmK : Nat) (iEn : Int32) (iTk : Int32) (uP : UM) (uU : UM) (kAt : Nat) (iTo : Int32) (iFr : Int32) (JFi : Int64) (iFa : Int32) (qm3 : Nat) (iSt : Int32) (iLv : Int32) (iWs : Int32) (vLa : Value) (qmu : Nat) (qmy : Nat) (qmb : Nat) (qms : Nat) (iOm : Int32) (fMh : Nat → Int32) (fMo : Nat → Int32) (fMz : Nat → Int32) (rR : Nat → Nat) (eR : Nat → Nat → Int64) (fMr : Nat → Int32) (iA : Int32) (iB : Int32) (iC : Int32)  (hSz : ∀ s, s < 8 → ∃ n : Nat, n ≤ 40 ∧ fMz s = nI n) : MW l yX6_row cX6_row 5 (some .int) 16 0 0 G cy [zzO qm 5 (.ref qmh :: .ref qmo :: .ref qmz :: .ref qmR :: .ref qmv :: .ref qmk :: .ref qma :: .ref qmt :: .int (nI kZ) :: .ref qmr :: .int (nI (T_nb tA)) :: .ref qmB :: .int (nI (T_np tA)) :: .ref qmO :: .ref qmK :: .int iEn :: .int iTk :: .int (T_sd tA) :: ov uP :: ov uU :: .int (nI kAt) :: .int iTo :: .int iFr :: .long JFi :: .int iFa :: .ref qm3 :: .int iSt :: .int iLv :: .int iWs :: vLa :: .ref qmu :: .ref qmy :: .ref qmb :: .ref qms :: .int iOm :: []), zzI cy qmh 8 fMh, zzI cy qmo 8 fMo, zzI cy qmz 8 fMz, zzG cy 4 qmR rR, zzJ cy (rR 0) 40 (eR 0), zzJ cy (rR 1) 40 (eR 1), zzJ cy (rR 2) 40 (eR 2), zzJ cy (rR 3) 40 (eR 3), zzJ cy (rR 4) 40 (eR 4), zzJ cy (rR 5) 40 (eR 5), zzJ cy (rR 6) 40 (eR 6), zzJ cy (rR 7) 40 (eR 7), zzI cy qmr 8 fMr] sz [.ref qm, .int iA, .int iB, .int iC] (Wi G (fun r u => ∃ (fNh : Nat → Int32) (fNo : Nat → Int32) (fNz : Nat → Int32) (eN : Nat → Nat → Int64) (fNr : Nat → Int32), u = [zzO qm 5 (.ref qmh :: .ref qmo :: .ref qmz :: .ref qmR :: .ref qmv :: .ref qmk :: .ref qma :: .ref qmt :: .int (nI kZ) :: .ref qmr :: .int (nI (T_nb tA)) :: .ref qmB :: .int (nI (T_np tA)) :: .ref qmO :: .ref qmK :: .int iEn :: .int iTk :: .int (T_sd tA) :: ov uP :: ov uU :: .int (nI kAt) :: .int iTo :: .int iFr :: .long JFi :: .int iFa :: .ref qm3 :: .int iSt :: .int iLv :: .int iWs :: vLa :: .ref qmu :: .ref qmy :: .ref qmb :: .ref qms :: .int iOm :: []), zzI cy qmh 8 fNh, zzI cy qmo 8 fNo, zzI cy qmz 8 fNz, zzG cy 4 qmR rR, zzJ cy (rR 0) 40 (eN 0), zzJ cy (rR 1) 40 (eN 1), zzJ cy (rR 2) 40 (eN 2), zzJ cy (rR 3) 40 (eN 3), zzJ cy (rR 4) 40 (eN 4), zzJ cy (rR 5) 40 (eN 5), zzJ cy (rR 6) 40 (eN 6), zzJ cy (rR 7) 40 (eN 7), zzI cy qmr 8 fNr] ∧ (PMrow fMh fMo fMz eR iA iB iC r fNh fNo fNz eN) ∧ (True))) := by
  refine enW RX6 (by decide +kernel) rfl (Nat.le_of_ble_eq_true rfl) (fun p e s m below meth c ls A hx hb hml hown hts hr hlocks hP hN hl hin hD hA hS => ?_)
  have hin : meth.name = _ := hin
  have hK := hN.1
  replace hl : lv_has ls 5 [(0, .ref qm), (1, .int iA), (2, .int iB), (3, .int iC)] := hl
  refine lv_iload_n hx hb (g_27 bX6_row rfl) rfl (lv_at hl 1 rfl) ?_
  refine lv_i2l (v := iA.toInt64) hx hb (g_133 bX6_row rfl) rfl ?_
  refine lv_lconst (v := 0) hx hb (g_9 bX6_row rfl) (by decide +kernel) ?_
  refine lv_ldc2 hx hb hown (hts _ m_t960) (g_20 (v := 85) bX6_row rfl) ?_
  refine kRi (rS (As := [.long iA.toInt64, .long 0, .long 7]) (rest := []) ⟨hx, hb, hml, hown, hts⟩ (c_X6_in l G cy iA.toInt64 0 7) L_X6_74 (preRS hN hP [] rfl) rfl ⟨Nat.le_of_ble_eq_true rfl, Nat.le_of_ble_eq_true rfl⟩ hl.1 (Nat.le_of_ble_eq_true rfl) (g_184 (v := 74) bX6_row rfl) ⟨Nat.le_of_ble_eq_true rfl, Nat.le_of_ble_eq_true rfl⟩) (fun r_1 h_2 => ?_)
  rcases h_2 with ⟨rfl, h_3⟩ | ⟨rfl, h_3⟩
  · obtain ⟨k_4, hk_5, hk_6, rfl⟩ := iv_nI 0 7 (by decide +kernel) (by decide +kernel) h_3
    refine lv_if_eq (tgt := 36) hx hb dX6_row_9 (by decide +kernel) (fun h9 => absurd h9 (by decide +kernel)) (fun _ => ?_)
    refine lv_iload_n hx hb (g_28 bX6_row rfl) rfl (lv_at hl 2 rfl) ?_
    refine lv_i2l (v := iB.toInt64) hx hb (g_133 bX6_row rfl) rfl ?_
    refine lv_lconst (v := 0) hx hb (g_9 bX6_row rfl) (by decide +kernel) ?_
    refine lv_ldc2 hx hb hown (hts _ m_t964) (g_20 (v := 87) bX6_row rfl) ?_
    refine kRi (rS (As := [.long iB.toInt64, .long 0, .long 4]) (rest := []) ⟨hx, hb, hml, hown, hts⟩ (c_X6_in l G cy iB.toInt64 0 4) L_X6_74 (preRS hN hP [] rfl) rfl ⟨Nat.le_of_ble_eq_true rfl, Nat.le_of_ble_eq_true rfl⟩ hl.1 (Nat.le_of_ble_eq_true rfl) (g_184 (v := 74) bX6_row rfl) ⟨Nat.le_of_ble_eq_true rfl, Nat.le_of_ble_eq_true rfl⟩) (fun r_8 h_9 => ?_)
    rcases h_9 with ⟨rfl, h_10⟩ | ⟨rfl, h_10⟩
    · refine lv_if_eq (tgt := 36) hx hb dX6_row_21 (by decide +kernel) (fun h9 => absurd h9 (by decide +kernel)) (fun _ => ?_)
      refine lv_iload_n hx hb (g_29 bX6_row rfl) rfl (lv_at hl 3 rfl) ?_
      refine lv_i2l (v := iC.toInt64) hx hb (g_133 bX6_row rfl) rfl ?_
      refine lv_lconst (v := 0) hx hb (g_9 bX6_row rfl) (by decide +kernel) ?_
      refine lv_ldc2 hx hb hown (hts _ m_t965) (g_20 (v := 89) bX6_row rfl) ?_
      refine kRi (rS (As := [.long iC.toInt64, .long 0, .long 40]) (rest := []) ⟨hx, hb, hml, hown, hts⟩ (c_X6_in l G cy iC.toInt64 0 40) L_X6_74 (preRS hN hP [] rfl) rfl ⟨Nat.le_of_ble_eq_true rfl, Nat.le_of_ble_eq_true rfl⟩ hl.1 (Nat.le_of_ble_eq_true rfl) (g_184 (v := 74) bX6_row rfl) ⟨Nat.le_of_ble_eq_true rfl, Nat.le_of_ble_eq_true rfl⟩) (fun r_12 h_13 => ?_)
      rcases h_13 with ⟨rfl, h_14⟩ | ⟨rfl, h_14⟩
      · obtain ⟨k_15, hk_16, hk_17, rfl⟩ := iv_nI 0 40 (by decide +kernel) (by decide +kernel) h_14
        refine lv_if_ne (tgt := 43) hx hb dX6_row_33 (by decide +kernel) (fun _ => ?_) (fun h9 => absurd h9 (by decide +kernel))
        refine lv_aload_n hx hb (g_42 bX6_row rfl) rfl (lv_at hl 0 rfl) ?_
        refine va_get (D := G) (ci := 5) (v := .ref qmh) (C := RX6) (T := TX6) (N := 35) hx hb hts iX_X6 hown hK hP 0 rfl rfl 0 (by decide +kernel) (hts _ m_t850) (fun _ h9 => h9) rfl (g_180 (v := 7) bX6_row rfl) ?_
        refine lv_iload_n hx hb (g_27 bX6_row rfl) rfl (lv_at hl 1 rfl) ?_
        refine lv_iconst (v := 1) hx hb (g_4 bX6_row rfl) (by decide +kernel) ?_
        refine va_iast hx hb hK hP hD hS 1 0 rfl rfl (in_shelf h_3) (g_79 bX6_row rfl) (fun H locs => ?_)
        clear hP hD hS
        intro hP hD hS
        rw [cl8 (k := k_4) (by omega)] at hP hD
        have hPD := pd_as [_, zzI cy qmh 8 (upd fMh k_4 1), _, _, _, _, _, _, _, _, _, _, _, _] hP hD rfl
        clear hP hD
        obtain ⟨hP, hD⟩ := hPD
        refine lv_aload_n hx hb (g_42 bX6_row rfl) rfl (lv_at hl 0 rfl) ?_
        refine va_get (D := G) (ci := 5) (v := .ref qmo) (C := RX6) (T := TX6) (N := 35) hx hb hts iX_X6 hown hK hP 0 rfl rfl 1 (by decide +kernel) (hts _ m_t851) (fun _ h9 => h9) rfl (g_180 (v := 13) bX6_row rfl) ?_
        refine lv_iload_n hx hb (g_27 bX6_row rfl) rfl (lv_at hl 1 rfl) ?_
        refine lv_iload_n hx hb (g_28 bX6_row rfl) rfl (lv_at hl 2 rfl) ?_
        refine va_iast hx hb hK hP hD hS 2 0 rfl rfl (in_shelf h_3) (g_79 bX6_row rfl) (fun H locs => ?_)
        clear hP hD hS
        intro hP hD hS
        rw [cl8 (k := k_4) (by omega)] at hP hD
        have hPD := pd_as [_, _, zzI cy qmo 8 (upd fMo k_4 iB), _, _, _, _, _, _, _, _, _, _, _] hP hD rfl
        clear hP hD
        obtain ⟨hP, hD⟩ := hPD
        refine lv_aload_n hx hb (g_42 bX6_row rfl) rfl (lv_at hl 0 rfl) ?_
        refine va_get (D := G) (ci := 5) (v := .ref qmz) (C := RX6) (T := TX6) (N := 35) hx hb hts iX_X6 hown hK hP 0 rfl rfl 2 (by decide +kernel) (hts _ m_t852) (fun _ h9 => h9) rfl (g_180 (v := 16) bX6_row rfl) ?_
        refine lv_iload_n hx hb (g_27 bX6_row rfl) rfl (lv_at hl 1 rfl) ?_
        refine lv_iload_n hx hb (g_29 bX6_row rfl) rfl (lv_at hl 3 rfl) ?_
        refine va_iast hx hb hK hP hD hS 3 0 rfl rfl (in_shelf h_3) (g_79 bX6_row rfl) (fun H locs => ?_)
        clear hP hD hS
        intro hP hD hS
        rw [cl8 (k := k_4) (by omega)] at hP hD
        have hPD := pd_as [_, _, _, zzI cy qmz 8 (upd fMz k_4 (nI k_15)), _, _, _, _, _, _, _, _, _, _] hP hD rfl
        clear hP hD
        obtain ⟨hP, hD⟩ := hPD
        refine lv_iconst (v := 0) hx hb (g_3 bX6_row rfl) (by decide +kernel) ?_
        refine lv_istore (lv' := [(4, .int 0), (0, .ref qm), (1, .int (nI k_4)), (2, .int iB), (3, .int (nI k_15))]) hx hb (g_54 (v := 4) bX6_row rfl) hl (by decide +kernel) rfl (fun ls => ?_)
        clear hl
        intro hl
        have lp_19 : ∀ (n_20 : Nat) (j_22 : Nat) (eJ_23 : Nat → Nat → Int64), 40 - j_22 < n_20 → j_22 ≤ 40 → eJ_23 = zrN eR k_4 j_22 → ∀ (H : Heap) (locs : List Loc) (ls : Array Slot), va_P G CL [zzO qm 5 (.ref qmh :: .ref qmo :: .ref qmz :: .ref qmR :: .ref qmv :: .ref qmk :: .ref qma :: .ref qmt :: .int (nI kZ) :: .ref qmr :: .int (nI (T_nb tA)) :: .ref qmB :: .int (nI (T_np tA)) :: .ref qmO :: .ref qmK :: .int iEn :: .int iTk :: .int (T_sd tA) :: ov uP :: ov uU :: .int (nI kAt) :: .int iTo :: .int iFr :: .long JFi :: .int iFa :: .ref qm3 :: .int iSt :: .int iLv :: .int iWs :: vLa :: .ref qmu :: .ref qmy :: .ref qmb :: .ref qms :: .int iOm :: []), zzI cy qmh 8 (upd fMh k_4 1), zzI cy qmo 8 (upd fMo k_4 iB), zzI cy qmz 8 (upd fMz k_4 (nI k_15)), zzG cy 4 qmR rR, zzJ cy (rR 0) 40 (eJ_23 0), zzJ cy (rR 1) 40 (eJ_23 1), zzJ cy (rR 2) 40 (eJ_23 2), zzJ cy (rR 3) 40 (eJ_23 3), zzJ cy (rR 4) 40 (eJ_23 4), zzJ cy (rR 5) 40 (eJ_23 5), zzJ cy (rR 6) 40 (eJ_23 6), zzJ cy (rR 7) 40 (eJ_23 7), zzI cy qmr 8 fMr] H → va_D A [zzO qm 5 (.ref qmh :: .ref qmo :: .ref qmz :: .ref qmR :: .ref qmv :: .ref qmk :: .ref qma :: .ref qmt :: .int (nI kZ) :: .ref qmr :: .int (nI (T_nb tA)) :: .ref qmB :: .int (nI (T_np tA)) :: .ref qmO :: .ref qmK :: .int iEn :: .int iTk :: .int (T_sd tA) :: ov uP :: ov uU :: .int (nI kAt) :: .int iTo :: .int iFr :: .long JFi :: .int iFa :: .ref qm3 :: .int iSt :: .int iLv :: .int iWs :: vLa :: .ref qmu :: .ref qmy :: .ref qmb :: .ref qms :: .int iOm :: []), zzI cy qmh 8 (upd fMh k_4 1), zzI cy qmo 8 (upd fMo k_4 iB), zzI cy qmz 8 (upd fMz k_4 (nI k_15)), zzG cy 4 qmR rR, zzJ cy (rR 0) 40 (eJ_23 0), zzJ cy (rR 1) 40 (eJ_23 1), zzJ cy (rR 2) 40 (eJ_23 2), zzJ cy (rR 3) 40 (eJ_23 3), zzJ cy (rR 4) 40 (eJ_23 4), zzJ cy (rR 5) 40 (eJ_23 5), zzJ cy (rR 6) 40 (eJ_23 6), zzJ cy (rR 7) 40 (eJ_23 7), zzI cy qmr 8 fMr] → va_S A s.heap H locs → lv_has ls 5 [(4, .int (nI j_22)), (0, .ref qm), (1, .int (nI k_4)), (2, .int iB), (3, .int (nI k_15))] → W p l e (Rm 16 0 0) s m (List.toArray (α := Value) [.ref qm, .int (nI k_4), .int iB, .int (nI k_15)]) below meth c H locs 0 0 (MQ below ((Wi G (fun r u => ∃ (fNh : Nat → Int32) (fNo : Nat → Int32) (fNz : Nat → Int32) (eN : Nat → Nat → Int64) (fNr : Nat → Int32), u = [zzO qm 5 (.ref qmh :: .ref qmo :: .ref qmz :: .ref qmR :: .ref qmv :: .ref qmk :: .ref qma :: .ref qmt :: .int (nI kZ) :: .ref qmr :: .int (nI (T_nb tA)) :: .ref qmB :: .int (nI (T_np tA)) :: .ref qmO :: .ref qmK :: .int iEn :: .int iTk :: .int (T_sd tA) :: ov uP :: ov uU :: .int (nI kAt) :: .int iTo :: .int iFr :: .long JFi :: .int iFa :: .ref qm3 :: .int iSt :: .int iLv :: .int iWs :: vLa :: .ref qmu :: .ref qmy :: .ref qmb :: .ref qms :: .int iOm :: []), zzI cy qmh 8 fNh, zzI cy qmo 8 fNo, zzI cy qmz 8 fNz, zzG cy 4 qmR rR, zzJ cy (rR 0) 40 (eN 0), zzJ cy (rR 1) 40 (eN 1), zzJ cy (rR 2) 40 (eN 2), zzJ cy (rR 3) 40 (eN 3), zzJ cy (rR 4) 40 (eN 4), zzJ cy (rR 5) 40 (eN 5), zzJ cy (rR 6) 40 (eN 6), zzJ cy (rR 7) 40 (eN 7), zzI cy qmr 8 fNr] ∧ (PMrow fMh fMo fMz eR (nI k_4) iB (nI k_15) r fNh fNo fNz eN) ∧ (True))) A) (List.toArray (α := Value) [.ref qm, .int (nI k_4), .int iB, .int (nI k_15)]) s 0 0 A) (F0 m 67 ls []) := by
          intro n_20
          induction n_20 with
          | zero => intro j_22 eJ_23 hm9; exact absurd hm9 (Nat.not_lt_zero _)
          | succ n_20 ih_21 =>
            intro j_22 eJ_23 hm_26 hj_24 heJ_25 H locs ls hP hD hS hl
            refine lv_iload hx hb (g_21 (v := 4) bX6_row rfl) (lv_at hl 0 rfl) ?_
            refine lv_bipush (v := 40) hx hb dX6_row_69 (by decide +kernel) ?_
            refine lv_icmp_ge (tgt := 90) hx hb dX6_row_71 (by decide +kernel) (fun c_27 => ?_) (fun c_27 => ?_)
            · have hlt_28 : j_22 = 40 := Nat.le_antisymm (by omega) (lp_ge rfl (rfl : (40 : Int32) = nI 40) (by omega) (by omega) c_27)
              have e9_29 : eJ_23 = zrN eR k_4 40 := by rw [heJ_25, hlt_28]
              subst e9_29
              have hPD := pd_as [_, _, _, _, _, zzJ cy (rR 0) 40 (zrN eR k_4 40 0), zzJ cy (rR 1) 40 (zrN eR k_4 40 1), zzJ cy (rR 2) 40 (zrN eR k_4 40 2), zzJ cy (rR 3) 40 (zrN eR k_4 40 3), zzJ cy (rR 4) 40 (zrN eR k_4 40 4), zzJ cy (rR 5) 40 (zrN eR k_4 40 5), zzJ cy (rR 6) 40 (zrN eR k_4 40 6), zzJ cy (rR 7) 40 (zrN eR k_4 40 7), _] hP hD rfl
              clear hP hD
              obtain ⟨hP, hD⟩ := hPD
              refine lv_iconst (v := 1) hx hb (g_4 bX6_row rfl) (by decide +kernel) ?_
              exact endWs [[true, true, true, true, true, true, true, true, true, true, true, true, true, true]] hx hb hr hlocks rfl hP hD rfl (by decide +kernel) hS ⟨(upd fMh k_4 1), (upd fMo k_4 iB), (upd fMz k_4 (nI k_15)), (zrN eR k_4 40), fMr, rfl, Or.inr ⟨rfl, k_4, k_15, by omega, by omega, rfl, rfl, h_10, rfl, rfl, rfl, rfl⟩, trivial⟩ (g_172 bX6_row rfl)
            · have hlt_30 : j_22 < 40 := lp_lt rfl (rfl : (40 : Int32) = nI 40) (by omega) (by omega) c_27
              refine lv_aload_n hx hb (g_42 bX6_row rfl) rfl (lv_at hl 1 rfl) ?_
              refine va_get (D := G) (ci := 5) (v := .ref qmR) (C := RX6) (T := TX6) (N := 35) hx hb hts iX_X6 hown hK hP 0 rfl rfl 3 (by decide +kernel) (hts _ m_t853) (fun _ h9 => h9) rfl (g_180 (v := 21) bX6_row rfl) ?_
              refine lv_iload_n hx hb (g_27 bX6_row rfl) rfl (lv_at hl 2 rfl) ?_
              refine va_alda hx hb hK hP 4 4 rfl rfl (in_shelf h_3) (g_50 bX6_row rfl) ?_
              refine lv_setv (v := .ref (rR k_4)) (g_ref (by omega)) ?_
              refine lv_iload hx hb (g_21 (v := 4) bX6_row rfl) (lv_at hl 0 rfl) ?_
              refine lv_lconst (v := 0) hx hb (g_9 bX6_row rfl) (by decide +kernel) ?_
              refine va_last hx hb hK hP hD hS (5 + k_4) 1 ((sg8 (n0 := 5) (f := (fun j => zzJ cy (rR j) 40 (eJ_23 j))) rfl rfl rfl rfl rfl rfl rfl rfl) k_4 (by omega)) rfl (vp_in_nI (by omega) (by omega)) (g_80 bX6_row rfl) (fun H locs => ?_)
              clear hP hD hS
              intro hP hD hS
              rw [nI_clamp (n := j_22) (by omega)] at hP hD
              have e8 := set8 (k := k_4) (ws := [zzO qm 5 (.ref qmh :: .ref qmo :: .ref qmz :: .ref qmR :: .ref qmv :: .ref qmk :: .ref qma :: .ref qmt :: .int (nI kZ) :: .ref qmr :: .int (nI (T_nb tA)) :: .ref qmB :: .int (nI (T_np tA)) :: .ref qmO :: .ref qmK :: .int iEn :: .int iTk :: .int (T_sd tA) :: ov uP :: ov uU :: .int (nI kAt) :: .int iTo :: .int iFr :: .long JFi :: .int iFa :: .ref qm3 :: .int iSt :: .int iLv :: .int iWs :: vLa :: .ref qmu :: .ref qmy :: .ref qmb :: .ref qms :: .int iOm :: []), zzI cy qmh 8 (upd fMh k_4 1), zzI cy qmo 8 (upd fMo k_4 iB), zzI cy qmz 8 (upd fMz k_4 (nI k_15)), zzG cy 4 qmR rR, zzJ cy (rR 0) 40 (eJ_23 0), zzJ cy (rR 1) 40 (eJ_23 1), zzJ cy (rR 2) 40 (eJ_23 2), zzJ cy (rR 3) 40 (eJ_23 3), zzJ cy (rR 4) 40 (eJ_23 4), zzJ cy (rR 5) 40 (eJ_23 5), zzJ cy (rR 6) 40 (eJ_23 6), zzJ cy (rR 7) 40 (eJ_23 7), zzI cy qmr 8 fMr]) (ws' := [zzO qm 5 (.ref qmh :: .ref qmo :: .ref qmz :: .ref qmR :: .ref qmv :: .ref qmk :: .ref qma :: .ref qmt :: .int (nI kZ) :: .ref qmr :: .int (nI (T_nb tA)) :: .ref qmB :: .int (nI (T_np tA)) :: .ref qmO :: .ref qmK :: .int iEn :: .int iTk :: .int (T_sd tA) :: ov uP :: ov uU :: .int (nI kAt) :: .int iTo :: .int iFr :: .long JFi :: .int iFa :: .ref qm3 :: .int iSt :: .int iLv :: .int iWs :: vLa :: .ref qmu :: .ref qmy :: .ref qmb :: .ref qms :: .int iOm :: []), zzI cy qmh 8 (upd fMh k_4 1), zzI cy qmo 8 (upd fMo k_4 iB), zzI cy qmz 8 (upd fMz k_4 (nI k_15)), zzG cy 4 qmR rR, zzJ cy (rR 0) 40 (updN eJ_23 k_4 j_22 0 0), zzJ cy (rR 1) 40 (updN eJ_23 k_4 j_22 0 1), zzJ cy (rR 2) 40 (updN eJ_23 k_4 j_22 0 2), zzJ cy (rR 3) 40 (updN eJ_23 k_4 j_22 0 3), zzJ cy (rR 4) 40 (updN eJ_23 k_4 j_22 0 4), zzJ cy (rR 5) 40 (updN eJ_23 k_4 j_22 0 5), zzJ cy (rR 6) 40 (updN eJ_23 k_4 j_22 0 6), zzJ cy (rR 7) 40 (updN eJ_23 k_4 j_22 0 7), zzI cy qmr 8 fMr]) (sg8 (n0 := 5) (f := (fun j => zzJ cy (rR j) 40 (eJ_23 j))) rfl rfl rfl rfl rfl rfl rfl rfl) (sg8 (n0 := 5) (f := (fun j => zzJ cy (rR j) 40 (updN eJ_23 k_4 j_22 0 j))) rfl rfl rfl rfl rfl rfl rfl rfl) rfl rfl (by omega) (congrArg (zzJ cy (rR k_4) 40) un_u) (fun j hj => congrArg (zzJ cy (rR j) 40) (un_n hj))
              rw [e8] at hP hD
              clear e8
              have hPD := pd_as [_, _, _, _, _, zzJ cy (rR 0) 40 (updN eJ_23 k_4 j_22 0 0), zzJ cy (rR 1) 40 (updN eJ_23 k_4 j_22 0 1), zzJ cy (rR 2) 40 (updN eJ_23 k_4 j_22 0 2), zzJ cy (rR 3) 40 (updN eJ_23 k_4 j_22 0 3), zzJ cy (rR 4) 40 (updN eJ_23 k_4 j_22 0 4), zzJ cy (rR 5) 40 (updN eJ_23 k_4 j_22 0 5), zzJ cy (rR 6) 40 (updN eJ_23 k_4 j_22 0 6), zzJ cy (rR 7) 40 (updN eJ_23 k_4 j_22 0 7), _] hP hD rfl
              clear hP hD
              obtain ⟨hP, hD⟩ := hPD
              refine lv_iinc (v := nI (j_22 + 1)) (lv' := [(4, .int (nI (j_22 + 1))), (0, .ref qm), (1, .int (nI k_4)), (2, .int iB), (3, .int (nI k_15))]) hx hb dX6_row_84 hl (k := 0) rfl (nI_1 _) (by decide +kernel) rfl (fun ls => ?_)
              clear hl
              intro hl
              refine lv_goto (tgt := 67) hx hb dX6_row_87 (by decide +kernel) ?_
              exact ih_21 (j_22 + 1) (updN eJ_23 k_4 j_22 0) (by omega) (by omega) (by rw [heJ_25]; rfl) _ _ _ hP hD hS (lv_sub hl [0, 1, 2, 3, 4] rfl)
        exact lp_19 ((40 - 0) + 1) 0 eR (Nat.lt_succ_self _) (Nat.zero_le _) rfl _ _ ls hP hD hS (lv_sub hl [0, 1, 2, 3, 4] rfl)
      · refine lv_if_ne (tgt := 43) hx hb dX6_row_33 (by decide +kernel) (fun h9 => absurd (by decide +kernel) h9) (fun _ => ?_)
        refine lv_aload_n hx hb (g_42 bX6_row rfl) rfl (lv_at hl 0 rfl) ?_
        refine lv_bipush (v := (-2)) hx hb dX6_row_37 (by decide +kernel) ?_
        refine cVi (As := [.int (-2)]) (rest := []) (b := qm) (q := (RX6, TX6, 35)) ⟨hx, hb, hml, hown, hts⟩ (c_X6_refuse2 l G cy (s.heap).size qm (.ref qmh) (.ref qmo) (.ref qmz) (.ref qmR) (.ref qmv) (.ref qmk) (.ref qma) (.ref qmt) (.int (nI kZ)) qmr tA qmB qmO qmK iEn iTk (ov uP) (ov uU) (.int (nI kAt)) (.int iTo) (.int iFr) (.long JFi) (.int iFa) (.ref qm3) (.int iSt) iLv iWs vLa (.ref qmu) (.ref qmy) (.ref qmb) (.ref qms) (.int iOm) fMr) L_X6_91 hN hP hD hS hA [0, 13] [false, true, true, true, true, true, true, true, true, true, true, true, true, false] rfl (by decide +kernel) rfl 0 5 rfl rfl rfl ⟨Nat.le_of_ble_eq_true rfl, Nat.le_of_ble_eq_true rfl⟩ hl.1 (Nat.le_of_ble_eq_true rfl) (g_182 (v := 91) bX6_row rfl) ⟨Nat.le_of_ble_eq_true rfl, Nat.le_of_ble_eq_true rfl⟩ (fun r_32 u_34 H locs h_33 => ?_)
        clear hP hD hS
        intro hP hD hS
        obtain ⟨fX_35, hu9, h_33⟩ := h_33
        have hPD := pd_eq [_, _, _, _, _, _, _, _, _, _, _, _, _, zzI cy qmr 8 fX_35] hP hD hu9 rfl
        clear hP hD hu9
        obtain ⟨hP, hD⟩ := hPD
        subst h_33
        exact endWs [[false, false, false, false, false, false, false, false, false, false, false, false, true], [true, true, true, true, true, true, true, true, true, true, true, true, false, true]] hx hb hr hlocks rfl hP hD rfl (by decide +kernel) hS ⟨fMh, fMo, fMz, eR, fX_35, rfl, Or.inl ⟨rfl, (fun q => h_14 q.2.2), rfl, rfl, rfl, rfl⟩, trivial⟩ (g_172 bX6_row rfl)
    · refine lv_if_eq (tgt := 36) hx hb dX6_row_21 (by decide +kernel) (fun _ => ?_) (fun h9 => absurd (by decide +kernel) h9)
      refine lv_aload_n hx hb (g_42 bX6_row rfl) rfl (lv_at hl 0 rfl) ?_
      refine lv_bipush (v := (-2)) hx hb dX6_row_37 (by decide +kernel) ?_
      refine cVi (As := [.int (-2)]) (rest := []) (b := qm) (q := (RX6, TX6, 35)) ⟨hx, hb, hml, hown, hts⟩ (c_X6_refuse2 l G cy (s.heap).size qm (.ref qmh) (.ref qmo) (.ref qmz) (.ref qmR) (.ref qmv) (.ref qmk) (.ref qma) (.ref qmt) (.int (nI kZ)) qmr tA qmB qmO qmK iEn iTk (ov uP) (ov uU) (.int (nI kAt)) (.int iTo) (.int iFr) (.long JFi) (.int iFa) (.ref qm3) (.int iSt) iLv iWs vLa (.ref qmu) (.ref qmy) (.ref qmb) (.ref qms) (.int iOm) fMr) L_X6_91 hN hP hD hS hA [0, 13] [false, true, true, true, true, true, true, true, true, true, true, true, true, false] rfl (by decide +kernel) rfl 0 5 rfl rfl rfl ⟨Nat.le_of_ble_eq_true rfl, Nat.le_of_ble_eq_true rfl⟩ hl.1 (Nat.le_of_ble_eq_true rfl) (g_182 (v := 91) bX6_row rfl) ⟨Nat.le_of_ble_eq_true rfl, Nat.le_of_ble_eq_true rfl⟩ (fun r_37 u_39 H locs h_38 => ?_)
      clear hP hD hS
      intro hP hD hS
      obtain ⟨fX_40, hu9, h_38⟩ := h_38
      have hPD := pd_eq [_, _, _, _, _, _, _, _, _, _, _, _, _, zzI cy qmr 8 fX_40] hP hD hu9 rfl
      clear hP hD hu9
      obtain ⟨hP, hD⟩ := hPD
      subst h_38
      exact endWs [[false, false, false, false, false, false, false, false, false, false, false, false, true], [true, true, true, true, true, true, true, true, true, true, true, true, false, true]] hx hb hr hlocks rfl hP hD rfl (by decide +kernel) hS ⟨fMh, fMo, fMz, eR, fX_40, rfl, Or.inl ⟨rfl, (fun q => h_10 q.2.1), rfl, rfl, rfl, rfl⟩, trivial⟩ (g_172 bX6_row rfl)
  · refine lv_if_eq (tgt := 36) hx hb dX6_row_9 (by decide +kernel) (fun _ => ?_) (fun h9 => absurd (by decide +kernel) h9)
    refine lv_aload_n hx hb (g_42 bX6_row rfl) rfl (lv_at hl 0 rfl) ?_
    refine lv_bipush (v := (-2)) hx hb dX6_row_37 (by decide +kernel) ?_
    refine cVi (As := [.int (-2)]) (rest := []) (b := qm) (q := (RX6, TX6, 35)) ⟨hx, hb, hml, hown, hts⟩ (c_X6_refuse2 l G cy (s.heap).size qm (.ref qmh) (.ref qmo) (.ref qmz) (.ref qmR) (.ref qmv) (.ref qmk) (.ref qma) (.ref qmt) (.int (nI kZ)) qmr tA qmB qmO qmK iEn iTk (ov uP) (ov uU) (.int (nI kAt)) (.int iTo) (.int iFr) (.long JFi) (.int iFa) (.ref qm3) (.int iSt) iLv iWs vLa (.ref qmu) (.ref qmy) (.ref qmb) (.ref qms) (.int iOm) fMr) L_X6_91 hN hP hD hS hA [0, 13] [false, true, true, true, true, true, true, true, true, true, true, true, true, false] rfl (by decide +kernel) rfl 0 5 rfl rfl rfl ⟨Nat.le_of_ble_eq_true rfl, Nat.le_of_ble_eq_true rfl⟩ hl.1 (Nat.le_of_ble_eq_true rfl) (g_182 (v := 91) bX6_row rfl) ⟨Nat.le_of_ble_eq_true rfl, Nat.le_of_ble_eq_true rfl⟩ (fun r_42 u_44 H locs h_43 => ?_)
    clear hP hD hS
    intro hP hD hS
    obtain ⟨fX_45, hu9, h_43⟩ := h_43
    have hPD := pd_eq [_, _, _, _, _, _, _, _, _, _, _, _, _, zzI cy qmr 8 fX_45] hP hD hu9 rfl
    clear hP hD hu9
    obtain ⟨hP, hD⟩ := hPD
    subst h_43
    exact endWs [[false, false, false, false, false, false, false, false, false, false, false, false, true], [true, true, true, true, true, true, true, true, true, true, true, true, false, true]] hx hb hr hlocks rfl hP hD rfl (by decide +kernel) hS ⟨fMh, fMo, fMz, eR, fX_45, rfl, Or.inl ⟨rfl, (fun q => no_of7 h_3 q.1), rfl, rfl, rfl, rfl⟩, trivial⟩ (g_172 bX6_row rfl)
set_option maxHeartbeats 4000000 in
set_option maxRecDepth 100000 in
theorem p_X6_set (l : Launch) (G : va_G) (cy : Nat → ClassId) (sz : Nat) (qm : Nat) (qmh : Nat) (qmo : Nat) (qmz : Nat) (qmR : Nat) (qmv : Nat) (qmk : Nat) (qma : Nat) (qmt : Nat) (kZ : Nat) (qmr : Nat) (tA : TA) (qmB : Nat) (qmO : Nat) (qmK : Nat) (iEn : Int32) (iTk : Int32) (uP : UM) (uU : UM) (kAt : Nat) (iTo : Int32) (iFr : Int32) (JFi : Int64) (iFa : Int32) (qm3 : Nat) (iSt : Int32) (iLv : Int32) (iWs : Int32) (vLa : Value) (qmu : Nat) (qmy : Nat) (qmb : Nat) (qms : Nat) (iOm : Int32) (fMh : Nat → Int32) (fMo : Nat → Int32) (fMz : Nat → Int32) (rR : Nat → Nat) (eR : Nat → Nat → Int64) (fMr : Nat → Int32) (iA : Int32) (iB : Int32) (J1 : Int64)  (hSz : ∀ s, s < 8 → ∃ n : Nat, n ≤ 40 ∧ fMz s = nI n) : MW l yX6_set cX6_set 6 (some .int) 16 0 0 G cy [zzO qm 5 (.ref qmh :: .ref qmo :: .ref qmz :: .ref qmR :: .ref qmv :: .ref qmk :: .ref qma :: .ref qmt :: .int (nI kZ) :: .ref qmr :: .int (nI (T_nb tA)) :: .ref qmB :: .int (nI (T_np tA)) :: .ref qmO :: .ref qmK :: .int iEn :: .int iTk :: .int (T_sd tA) :: ov uP :: ov uU :: .int (nI kAt) :: .int iTo :: .int iFr :: .long JFi :: .int iFa :: .ref qm3 :: .int iSt :: .int iLv :: .int iWs :: vLa :: .ref qmu :: .ref qmy :: .ref qmb :: .ref qms :: .int iOm :: []), zzI cy qmh 8 fMh, zzI cy qmo 8 fMo, zzI cy qmz 8 fMz, zzG cy 4 qmR rR, zzJ cy (rR 0) 40 (eR 0), zzJ cy (rR 1) 40 (eR 1), zzJ cy (rR 2) 40 (eR 2), zzJ cy (rR 3) 40 (eR 3), zzJ cy (rR 4) 40 (eR 4), zzJ cy (rR 5) 40 (eR 5), zzJ cy (rR 6) 40 (eR 6), zzJ cy (rR 7) 40 (eR 7), zzI cy qmr 8 fMr] sz [.ref qm, .int iA, .int iB, .long J1] (Wi G (fun r u => ∃ (eN : Nat → Nat → Int64) (fNr : Nat → Int32), u = [zzO qm 5 (.ref qmh :: .ref qmo :: .ref qmz :: .ref qmR :: .ref qmv :: .ref qmk :: .ref qma :: .ref qmt :: .int (nI kZ) :: .ref qmr :: .int (nI (T_nb tA)) :: .ref qmB :: .int (nI (T_np tA)) :: .ref qmO :: .ref qmK :: .int iEn :: .int iTk :: .int (T_sd tA) :: ov uP :: ov uU :: .int (nI kAt) :: .int iTo :: .int iFr :: .long JFi :: .int iFa :: .ref qm3 :: .int iSt :: .int iLv :: .int iWs :: vLa :: .ref qmu :: .ref qmy :: .ref qmb :: .ref qms :: .int iOm :: []), zzI cy qmh 8 fMh, zzI cy qmo 8 fMo, zzI cy qmz 8 fMz, zzG cy 4 qmR rR, zzJ cy (rR 0) 40 (eN 0), zzJ cy (rR 1) 40 (eN 1), zzJ cy (rR 2) 40 (eN 2), zzJ cy (rR 3) 40 (eN 3), zzJ cy (rR 4) 40 (eN 4), zzJ cy (rR 5) 40 (eN 5), zzJ cy (rR 6) 40 (eN 6), zzJ cy (rR 7) 40 (eN 7), zzI cy qmr 8 fNr] ∧ (PMset fMh fMo fMz eR iA iB J1 r eN) ∧ (True))) := by
  refine enW RX6 (by decide +kernel) rfl (Nat.le_of_ble_eq_true rfl) (fun p e s m below meth c ls A hx hb hml hown hts hr hlocks hP hN hl hin hD hA hS => ?_)
  have hin : meth.name = _ := hin
  have hK := hN.1
  replace hl : lv_has ls 6 [(0, .ref qm), (1, .int iA), (2, .int iB), (3, .long J1)] := hl
  refine lv_aload_n hx hb (g_42 bX6_set rfl) rfl (lv_at hl 0 rfl) ?_
  refine lv_iload_n hx hb (g_27 bX6_set rfl) rfl (lv_at hl 1 rfl) ?_
  refine cVi (As := [.int iA]) (rest := []) (b := qm) (q := (RX6, TX6, 35)) ⟨hx, hb, hml, hown, hts⟩ (c_X6_noRow l G cy (s.heap).size qm qmh (.ref qmo) (.ref qmz) (.ref qmR) (.ref qmv) (.ref qmk) (.ref qma) (.ref qmt) (.int (nI kZ)) qmr tA qmB qmO qmK iEn iTk (ov uP) (ov uU) (.int (nI kAt)) (.int iTo) (.int iFr) (.long JFi) (.int iFa) (.ref qm3) (.int iSt) iLv iWs vLa (.ref qmu) (.ref qmy) (.ref qmb) (.ref qms) (.int iOm) fMh fMr iA) L_X6_95 hN hP hD hS hA (trueIx 0 [true, true, false, false, false, false, false, false, false, false, false, false, false, true]) [false, false, true, true, true, true, true, true, true, true, true, true, true, false] (sel_eq rfl rfl) (by decide +kernel) rfl 0 5 rfl rfl rfl ⟨Nat.le_of_ble_eq_true rfl, Nat.le_of_ble_eq_true rfl⟩ hl.1 (Nat.le_of_ble_eq_true rfl) (g_182 (v := 95) bX6_set rfl) ⟨Nat.le_of_ble_eq_true rfl, Nat.le_of_ble_eq_true rfl⟩ (fun r_1 u_3 H locs h_2 => ?_)
  clear hP hD hS
  intro hP hD hS
  obtain ⟨fX_4, hu9, h_2⟩ := h_2
  have hPD := pd_eq [_, _, _, _, _, _, _, _, _, _, _, _, _, zzI cy qmr 8 fX_4] hP hD hu9 rfl
  clear hP hD hu9
  obtain ⟨hP, hD⟩ := hPD
  rcases h_2 with ⟨rfl, h_5⟩ | ⟨rfl, h_5⟩ | ⟨rfl, h_5⟩ | ⟨rfl, h_5⟩
  · refine lv_istore (lv' := [(5, .int (-2)), (0, .ref qm), (1, .int iA), (2, .int iB), (3, .long J1)]) hx hb (g_54 (v := 5) bX6_set rfl) hl (by decide +kernel) rfl (fun ls => ?_)
    clear hl
    intro hl
    refine lv_iload hx hb (g_21 (v := 5) bX6_set rfl) (lv_at hl 0 rfl) ?_
    refine lv_if_eq (tgt := 15) hx hb dX6_set_9 (by decide +kernel) (fun h9 => absurd h9 (by decide +kernel)) (fun _ => ?_)
    refine lv_iload hx hb (g_21 (v := 5) bX6_set rfl) (lv_at hl 0 rfl) ?_
    exact endWs [[false, false, false, false, false, false, false, false, false, false, false, true, true], [true, true, true, true, true, true, true, true, true, true, true, false, false, true]] hx hb hr hlocks rfl hP hD rfl (by decide +kernel) hS ⟨eR, fX_4, rfl, Or.inl ⟨rfl, Or.inl h_5, rfl⟩, trivial⟩ (g_172 bX6_set rfl)
  · obtain ⟨k_7, hk_8, rfl, h_9⟩ := h_5
    refine lv_istore (lv' := [(5, .int (-3)), (0, .ref qm), (1, .int (nI k_7)), (2, .int iB), (3, .long J1)]) hx hb (g_54 (v := 5) bX6_set rfl) hl (by decide +kernel) rfl (fun ls => ?_)
    clear hl
    intro hl
    refine lv_iload hx hb (g_21 (v := 5) bX6_set rfl) (lv_at hl 0 rfl) ?_
    refine lv_if_eq (tgt := 15) hx hb dX6_set_9 (by decide +kernel) (fun h9 => absurd h9 (by decide +kernel)) (fun _ => ?_)
    refine lv_iload hx hb (g_21 (v := 5) bX6_set rfl) (lv_at hl 0 rfl) ?_
    exact endWs [[false, false, false, false, false, false, false, false, false, false, false, true, true], [true, true, true, true, true, true, true, true, true, true, true, false, false, true]] hx hb hr hlocks rfl hP hD rfl (by decide +kernel) hS ⟨eR, fX_4, rfl, Or.inr (Or.inl ⟨rfl, ⟨k_7, hk_8, rfl, h_9⟩, rfl⟩), trivial⟩ (g_172 bX6_set rfl)
  · obtain ⟨k_11, hk_12, rfl, h_13, h_14⟩ := h_5
    refine lv_istore (lv' := [(5, .int (-4)), (0, .ref qm), (1, .int (nI k_11)), (2, .int iB), (3, .long J1)]) hx hb (g_54 (v := 5) bX6_set rfl) hl (by decide +kernel) rfl (fun ls => ?_)
    clear hl
    intro hl
    refine lv_iload hx hb (g_21 (v := 5) bX6_set rfl) (lv_at hl 0 rfl) ?_
    refine lv_if_eq (tgt := 15) hx hb dX6_set_9 (by decide +kernel) (fun h9 => absurd h9 (by decide +kernel)) (fun _ => ?_)
    refine lv_iload hx hb (g_21 (v := 5) bX6_set rfl) (lv_at hl 0 rfl) ?_
    exact endWs [[false, false, false, false, false, false, false, false, false, false, false, true, true], [true, true, true, true, true, true, true, true, true, true, true, false, false, true]] hx hb hr hlocks rfl hP hD rfl (by decide +kernel) hS ⟨eR, fX_4, rfl, Or.inr (Or.inr (Or.inl ⟨rfl, ⟨k_11, hk_12, rfl, h_13, h_14⟩, rfl⟩)), trivial⟩ (g_172 bX6_set rfl)
  · obtain ⟨k_16, hk_17, rfl, h_18, h_19⟩ := h_5
    refine lv_istore (lv' := [(5, .int 0), (0, .ref qm), (1, .int (nI k_16)), (2, .int iB), (3, .long J1)]) hx hb (g_54 (v := 5) bX6_set rfl) hl (by decide +kernel) rfl (fun ls => ?_)
    clear hl
    intro hl
    refine lv_iload hx hb (g_21 (v := 5) bX6_set rfl) (lv_at hl 0 rfl) ?_
    refine lv_if_eq (tgt := 15) hx hb dX6_set_9 (by decide +kernel) (fun _ => ?_) (fun h9 => absurd (by decide +kernel) h9)
    refine lv_iload_n hx hb (g_28 bX6_set rfl) rfl (lv_at hl 3 rfl) ?_
    refine lv_i2l (v := iB.toInt64) hx hb (g_133 bX6_set rfl) rfl ?_
    refine lv_lconst (v := 0) hx hb (g_9 bX6_set rfl) (by decide +kernel) ?_
    refine lv_aload_n hx hb (g_42 bX6_set rfl) rfl (lv_at hl 1 rfl) ?_
    refine va_get (D := G) (ci := 5) (v := .ref qmz) (C := RX6) (T := TX6) (N := 35) hx hb hts iX_X6 hown hK hP 11 rfl rfl 2 (by decide +kernel) (hts _ m_t852) (fun _ h9 => h9) rfl (g_180 (v := 16) bX6_set rfl) ?_
    refine lv_iload_n hx hb (g_27 bX6_set rfl) rfl (lv_at hl 2 rfl) ?_
    refine va_iald hx hb hK hP 1 0 rfl rfl (in8 (by omega)) (g_46 bX6_set rfl) ?_
    refine lv_seti (v := fMz k_16) (congrArg fMz (cl8 (by omega))) ?_
    refine lv_iconst (v := 1) hx hb (g_4 bX6_set rfl) (by decide +kernel) ?_
    refine lv_isub hx hb (g_100 bX6_set rfl) ?_
    refine lv_i2l (v := ((fMz k_16) - 1).toInt64) hx hb (g_133 bX6_set rfl) rfl ?_
    refine kRi (rS (As := [.long iB.toInt64, .long 0, .long (((fMz k_16) - 1).toInt64)]) (rest := []) ⟨hx, hb, hml, hown, hts⟩ (c_X6_in l G cy iB.toInt64 0 (((fMz k_16) - 1).toInt64)) L_X6_74 (preRS hN hP [] rfl) rfl ⟨Nat.le_of_ble_eq_true rfl, Nat.le_of_ble_eq_true rfl⟩ hl.1 (Nat.le_of_ble_eq_true rfl) (g_184 (v := 74) bX6_set rfl) ⟨Nat.le_of_ble_eq_true rfl, Nat.le_of_ble_eq_true rfl⟩) (fun r_21 h_22 => ?_)
    rcases h_22 with ⟨rfl, h_23⟩ | ⟨rfl, h_23⟩
    · refine lv_if_ne (tgt := 40) hx hb dX6_set_30 (by decide +kernel) (fun _ => ?_) (fun h9 => absurd h9 (by decide +kernel))
      obtain ⟨n_25, hn_26, en_27⟩ := hSz k_16 hk_17
      obtain ⟨k_28, hk_29, rfl⟩ := sz_in en_27 hn_26 h_23
      refine lv_aload_n hx hb (g_42 bX6_set rfl) rfl (lv_at hl 1 rfl) ?_
      refine va_get (D := G) (ci := 5) (v := .ref qmR) (C := RX6) (T := TX6) (N := 35) hx hb hts iX_X6 hown hK hP 11 rfl rfl 3 (by decide +kernel) (hts _ m_t853) (fun _ h9 => h9) rfl (g_180 (v := 21) bX6_set rfl) ?_
      refine lv_iload_n hx hb (g_27 bX6_set rfl) rfl (lv_at hl 2 rfl) ?_
      refine va_alda hx hb hK hP 2 4 rfl rfl (in8 (by omega)) (g_50 bX6_set rfl) ?_
      refine lv_setv (v := .ref (rR k_16)) (g_ref (by omega)) ?_
      refine lv_iload_n hx hb (g_28 bX6_set rfl) rfl (lv_at hl 3 rfl) ?_
      refine lv_aload_n hx hb (g_42 bX6_set rfl) rfl (lv_at hl 1 rfl) ?_
      refine va_get (D := G) (ci := 5) (v := .ref qmo) (C := RX6) (T := TX6) (N := 35) hx hb hts iX_X6 hown hK hP 11 rfl rfl 1 (by decide +kernel) (hts _ m_t851) (fun _ h9 => h9) rfl (g_180 (v := 13) bX6_set rfl) ?_
      refine lv_iload_n hx hb (g_27 bX6_set rfl) rfl (lv_at hl 2 rfl) ?_
      refine va_iald hx hb hK hP 0 0 rfl rfl (in8 (by omega)) (g_46 bX6_set rfl) ?_
      refine lv_seti (v := fMo k_16) (congrArg fMo (cl8 (by omega))) ?_
      refine lv_lload_n hx hb (g_33 bX6_set rfl) rfl (lv_at hl 4 rfl) ?_
      refine kRl (rS (As := [.int (fMo k_16), .long J1]) (rest := [.int (nI k_28), .ref (rR k_16)]) ⟨hx, hb, hml, hown, hts⟩ (c_X6_fit l G cy (fMo k_16) J1) L_X6_98 (preRS hN hP [] rfl) rfl ⟨Nat.le_of_ble_eq_true rfl, Nat.le_of_ble_eq_true rfl⟩ hl.1 (Nat.le_of_ble_eq_true rfl) (g_184 (v := 98) bX6_set rfl) ⟨Nat.le_of_ble_eq_true rfl, Nat.le_of_ble_eq_true rfl⟩) (fun r_30 h_31 => ?_)
      subst h_31
      refine va_last hx hb hK hP hD hS (3 + k_16) 1 ((sg8 (n0 := 3) (f := (fun j => zzJ cy (rR j) 40 (eR j))) rfl rfl rfl rfl rfl rfl rfl rfl) k_16 (by omega)) rfl (vp_in_nI (by omega) (by omega)) (g_80 bX6_set rfl) (fun H locs => ?_)
      clear hP hD hS
      intro hP hD hS
      rw [nI_clamp (n := k_28) (by omega)] at hP hD
      have e8 := set8 (k := k_16) (ws := [zzI cy qmo 8 fMo, zzI cy qmz 8 fMz, zzG cy 4 qmR rR, zzJ cy (rR 0) 40 (eR 0), zzJ cy (rR 1) 40 (eR 1), zzJ cy (rR 2) 40 (eR 2), zzJ cy (rR 3) 40 (eR 3), zzJ cy (rR 4) 40 (eR 4), zzJ cy (rR 5) 40 (eR 5), zzJ cy (rR 6) 40 (eR 6), zzJ cy (rR 7) 40 (eR 7), zzO qm 5 (.ref qmh :: .ref qmo :: .ref qmz :: .ref qmR :: .ref qmv :: .ref qmk :: .ref qma :: .ref qmt :: .int (nI kZ) :: .ref qmr :: .int (nI (T_nb tA)) :: .ref qmB :: .int (nI (T_np tA)) :: .ref qmO :: .ref qmK :: .int iEn :: .int iTk :: .int (T_sd tA) :: ov uP :: ov uU :: .int (nI kAt) :: .int iTo :: .int iFr :: .long JFi :: .int iFa :: .ref qm3 :: .int iSt :: .int iLv :: .int iWs :: vLa :: .ref qmu :: .ref qmy :: .ref qmb :: .ref qms :: .int iOm :: []), zzI cy qmh 8 fMh, zzI cy qmr 8 fX_4]) (ws' := [zzI cy qmo 8 fMo, zzI cy qmz 8 fMz, zzG cy 4 qmR rR, zzJ cy (rR 0) 40 (updN eR k_16 k_28 (zft (fMo k_16) J1) 0), zzJ cy (rR 1) 40 (updN eR k_16 k_28 (zft (fMo k_16) J1) 1), zzJ cy (rR 2) 40 (updN eR k_16 k_28 (zft (fMo k_16) J1) 2), zzJ cy (rR 3) 40 (updN eR k_16 k_28 (zft (fMo k_16) J1) 3), zzJ cy (rR 4) 40 (updN eR k_16 k_28 (zft (fMo k_16) J1) 4), zzJ cy (rR 5) 40 (updN eR k_16 k_28 (zft (fMo k_16) J1) 5), zzJ cy (rR 6) 40 (updN eR k_16 k_28 (zft (fMo k_16) J1) 6), zzJ cy (rR 7) 40 (updN eR k_16 k_28 (zft (fMo k_16) J1) 7), zzO qm 5 (.ref qmh :: .ref qmo :: .ref qmz :: .ref qmR :: .ref qmv :: .ref qmk :: .ref qma :: .ref qmt :: .int (nI kZ) :: .ref qmr :: .int (nI (T_nb tA)) :: .ref qmB :: .int (nI (T_np tA)) :: .ref qmO :: .ref qmK :: .int iEn :: .int iTk :: .int (T_sd tA) :: ov uP :: ov uU :: .int (nI kAt) :: .int iTo :: .int iFr :: .long JFi :: .int iFa :: .ref qm3 :: .int iSt :: .int iLv :: .int iWs :: vLa :: .ref qmu :: .ref qmy :: .ref qmb :: .ref qms :: .int iOm :: []), zzI cy qmh 8 fMh, zzI cy qmr 8 fX_4]) (sg8 (n0 := 3) (f := (fun j => zzJ cy (rR j) 40 (eR j))) rfl rfl rfl rfl rfl rfl rfl rfl) (sg8 (n0 := 3) (f := (fun j => zzJ cy (rR j) 40 (updN eR k_16 k_28 (zft (fMo k_16) J1) j))) rfl rfl rfl rfl rfl rfl rfl rfl) rfl rfl (by omega) (congrArg (zzJ cy (rR k_16) 40) un_u) (fun j hj => congrArg (zzJ cy (rR j) 40) (un_n hj))
      rw [e8] at hP hD
      clear e8
      have hPD := pd_as [_, _, _, zzJ cy (rR 0) 40 (updN eR k_16 k_28 (zft (fMo k_16) J1) 0), zzJ cy (rR 1) 40 (updN eR k_16 k_28 (zft (fMo k_16) J1) 1), zzJ cy (rR 2) 40 (updN eR k_16 k_28 (zft (fMo k_16) J1) 2), zzJ cy (rR 3) 40 (updN eR k_16 k_28 (zft (fMo k_16) J1) 3), zzJ cy (rR 4) 40 (updN eR k_16 k_28 (zft (fMo k_16) J1) 4), zzJ cy (rR 5) 40 (updN eR k_16 k_28 (zft (fMo k_16) J1) 5), zzJ cy (rR 6) 40 (updN eR k_16 k_28 (zft (fMo k_16) J1) 6), zzJ cy (rR 7) 40 (updN eR k_16 k_28 (zft (fMo k_16) J1) 7), _, _, _] hP hD rfl
      clear hP hD
      obtain ⟨hP, hD⟩ := hPD
      refine lv_iconst (v := 1) hx hb (g_4 bX6_set rfl) (by decide +kernel) ?_
      exact endWs [[false, false, false, false, false, false, false, false, false, false, false, true, true], [true, true, true, true, true, true, true, true, true, true, true, false, false, true]] hx hb hr hlocks rfl hP hD rfl (by decide +kernel) hS ⟨(updN eR k_16 k_28 (zft (fMo k_16) J1)), fX_4, rfl, Or.inr (Or.inr (Or.inr ⟨rfl, k_16, k_28, hk_17, rfl, h_18, h_19, by omega, rfl, h_23, rfl⟩)), trivial⟩ (g_172 bX6_set rfl)
    · refine lv_if_ne (tgt := 40) hx hb dX6_set_30 (by decide +kernel) (fun h9 => absurd (by decide +kernel) h9) (fun _ => ?_)
      refine lv_aload_n hx hb (g_42 bX6_set rfl) rfl (lv_at hl 1 rfl) ?_
      refine lv_bipush (v := (-2)) hx hb dX6_set_34 (by decide +kernel) ?_
      refine cVi (As := [.int (-2)]) (rest := []) (b := qm) (q := (RX6, TX6, 35)) ⟨hx, hb, hml, hown, hts⟩ (c_X6_refuse2 l G cy (H).size qm (.ref qmh) (.ref qmo) (.ref qmz) (.ref qmR) (.ref qmv) (.ref qmk) (.ref qma) (.ref qmt) (.int (nI kZ)) qmr tA qmB qmO qmK iEn iTk (ov uP) (ov uU) (.int (nI kAt)) (.int iTo) (.int iFr) (.long JFi) (.int iFa) (.ref qm3) (.int iSt) iLv iWs vLa (.ref qmu) (.ref qmy) (.ref qmb) (.ref qms) (.int iOm) fX_4) L_X6_91 hN hP hD hS hA [11, 13] [true, true, true, true, true, true, true, true, true, true, true, false, true, false] rfl (by decide +kernel) rfl 11 5 rfl rfl rfl ⟨Nat.le_of_ble_eq_true rfl, Nat.le_of_ble_eq_true rfl⟩ hl.1 (Nat.le_of_ble_eq_true rfl) (g_182 (v := 91) bX6_set rfl) ⟨Nat.le_of_ble_eq_true rfl, Nat.le_of_ble_eq_true rfl⟩ (fun r_33 u_35 H locs h_34 => ?_)
      clear hP hD hS
      intro hP hD hS
      obtain ⟨fX_36, hu9, h_34⟩ := h_34
      have hPD := pd_eq [_, _, _, _, _, _, _, _, _, _, _, _, _, zzI cy qmr 8 fX_36] hP hD hu9 rfl
      clear hP hD hu9
      obtain ⟨hP, hD⟩ := hPD
      subst h_34
      exact endWs [[false, false, false, false, false, false, false, false, false, false, false, false, true], [false, false, false, false, false, false, false, false, false, false, false, true], [true, true, true, true, true, true, true, true, true, true, true, false, false, true]] hx hb hr hlocks rfl hP hD rfl (by decide +kernel) hS ⟨eR, fX_36, rfl, Or.inl ⟨rfl, Or.inr ⟨k_16, hk_17, rfl, h_18, h_19, h_23⟩, rfl⟩, trivial⟩ (g_172 bX6_set rfl)
set_option maxHeartbeats 4000000 in
set_option maxRecDepth 100000 in
theorem p_X6_copy (l : Launch) (G : va_G) (cy : Nat → ClassId) (sz : Nat) (qm : Nat) (qmh : Nat) (qmo : Nat) (qmz : Nat) (qmR : Nat) (qmv : Nat) (qmk : Nat) (qma : Nat) (qmt : Nat) (kZ : Nat) (qmr : Nat) (tA : TA) (qmB : Nat) (qmO : Nat) (qmK : Nat) (iEn : Int32) (iTk : Int32) (uP : UM) (uU : UM) (kAt : Nat) (iTo : Int32) (iFr : Int32) (JFi : Int64) (iFa : Int32) (qm3 : Nat) (iSt : Int32) (iLv : Int32) (iWs : Int32) (vLa : Value) (qmu : Nat) (qmy : Nat) (qmb : Nat) (qms : Nat) (iOm : Int32) (fMh : Nat → Int32) (fMo : Nat → Int32) (fMz : Nat → Int32) (rR : Nat → Nat) (eR : Nat → Nat → Int64) (gMv : Nat → Int64) (fMr : Nat → Int32) (iA : Int32) (iB : Int32) (iC : Int32) (iD : Int32) (iE : Int32)  (hSz : ∀ s, s < 8 → ∃ n : Nat, n ≤ 40 ∧ fMz s = nI n) : MW l yX6_copy cX6_copy 7 (some .int) 16 0 0 G cy [zzO qm 5 (.ref qmh :: .ref qmo :: .ref qmz :: .ref qmR :: .ref qmv :: .ref qmk :: .ref qma :: .ref qmt :: .int (nI kZ) :: .ref qmr :: .int (nI (T_nb tA)) :: .ref qmB :: .int (nI (T_np tA)) :: .ref qmO :: .ref qmK :: .int iEn :: .int iTk :: .int (T_sd tA) :: ov uP :: ov uU :: .int (nI kAt) :: .int iTo :: .int iFr :: .long JFi :: .int iFa :: .ref qm3 :: .int iSt :: .int iLv :: .int iWs :: vLa :: .ref qmu :: .ref qmy :: .ref qmb :: .ref qms :: .int iOm :: []), zzI cy qmh 8 fMh, zzI cy qmo 8 fMo, zzI cy qmz 8 fMz, zzG cy 4 qmR rR, zzJ cy (rR 0) 40 (eR 0), zzJ cy (rR 1) 40 (eR 1), zzJ cy (rR 2) 40 (eR 2), zzJ cy (rR 3) 40 (eR 3), zzJ cy (rR 4) 40 (eR 4), zzJ cy (rR 5) 40 (eR 5), zzJ cy (rR 6) 40 (eR 6), zzJ cy (rR 7) 40 (eR 7), zzJ cy qmv 40 gMv, zzI cy qmr 8 fMr] sz [.ref qm, .int iA, .int iB, .int iC, .int iD, .int iE] (Wi G (fun r u => ∃ (eN : Nat → Nat → Int64) (gNv : Nat → Int64) (fNr : Nat → Int32), u = [zzO qm 5 (.ref qmh :: .ref qmo :: .ref qmz :: .ref qmR :: .ref qmv :: .ref qmk :: .ref qma :: .ref qmt :: .int (nI kZ) :: .ref qmr :: .int (nI (T_nb tA)) :: .ref qmB :: .int (nI (T_np tA)) :: .ref qmO :: .ref qmK :: .int iEn :: .int iTk :: .int (T_sd tA) :: ov uP :: ov uU :: .int (nI kAt) :: .int iTo :: .int iFr :: .long JFi :: .int iFa :: .ref qm3 :: .int iSt :: .int iLv :: .int iWs :: vLa :: .ref qmu :: .ref qmy :: .ref qmb :: .ref qms :: .int iOm :: []), zzI cy qmh 8 fMh, zzI cy qmo 8 fMo, zzI cy qmz 8 fMz, zzG cy 4 qmR rR, zzJ cy (rR 0) 40 (eN 0), zzJ cy (rR 1) 40 (eN 1), zzJ cy (rR 2) 40 (eN 2), zzJ cy (rR 3) 40 (eN 3), zzJ cy (rR 4) 40 (eN 4), zzJ cy (rR 5) 40 (eN 5), zzJ cy (rR 6) 40 (eN 6), zzJ cy (rR 7) 40 (eN 7), zzJ cy qmv 40 gNv, zzI cy qmr 8 fNr] ∧ (PMcopy fMh fMo fMz eR iA iB iC iD iE r eN) ∧ (True))) := by
  refine enW RX6 (by decide +kernel) rfl (Nat.le_of_ble_eq_true rfl) (fun p e s m below meth c ls A hx hb hml hown hts hr hlocks hP hN hl hin hD hA hS => ?_)
  have hin : meth.name = _ := hin
  have hK := hN.1
  replace hl : lv_has ls 7 [(0, .ref qm), (1, .int iA), (2, .int iB), (3, .int iC), (4, .int iD), (5, .int iE)] := hl
  refine lv_iload_n hx hb (g_27 bX6_copy rfl) rfl (lv_at hl 1 rfl) ?_
  refine lv_i2l (v := iA.toInt64) hx hb (g_133 bX6_copy rfl) rfl ?_
  refine lv_lconst (v := 0) hx hb (g_9 bX6_copy rfl) (by decide +kernel) ?_
  refine lv_ldc2 hx hb hown (hts _ m_t960) (g_20 (v := 85) bX6_copy rfl) ?_
  refine kRi (rS (As := [.long iA.toInt64, .long 0, .long 7]) (rest := []) ⟨hx, hb, hml, hown, hts⟩ (c_X6_in l G cy iA.toInt64 0 7) L_X6_74 (preRS hN hP [] rfl) rfl ⟨Nat.le_of_ble_eq_true rfl, Nat.le_of_ble_eq_true rfl⟩ hl.1 (Nat.le_of_ble_eq_true rfl) (g_184 (v := 74) bX6_copy rfl) ⟨Nat.le_of_ble_eq_true rfl, Nat.le_of_ble_eq_true rfl⟩) (fun r_1 h_2 => ?_)
  rcases h_2 with ⟨rfl, h_3⟩ | ⟨rfl, h_3⟩
  · obtain ⟨k_4, hk_5, hk_6, rfl⟩ := iv_nI 0 7 (by decide +kernel) (by decide +kernel) h_3
    refine lv_if_eq (tgt := 24) hx hb dX6_copy_9 (by decide +kernel) (fun h9 => absurd h9 (by decide +kernel)) (fun _ => ?_)
    refine lv_iload_n hx hb (g_28 bX6_copy rfl) rfl (lv_at hl 2 rfl) ?_
    refine lv_i2l (v := iB.toInt64) hx hb (g_133 bX6_copy rfl) rfl ?_
    refine lv_lconst (v := 0) hx hb (g_9 bX6_copy rfl) (by decide +kernel) ?_
    refine lv_ldc2 hx hb hown (hts _ m_t960) (g_20 (v := 85) bX6_copy rfl) ?_
    refine kRi (rS (As := [.long iB.toInt64, .long 0, .long 7]) (rest := []) ⟨hx, hb, hml, hown, hts⟩ (c_X6_in l G cy iB.toInt64 0 7) L_X6_74 (preRS hN hP [] rfl) rfl ⟨Nat.le_of_ble_eq_true rfl, Nat.le_of_ble_eq_true rfl⟩ hl.1 (Nat.le_of_ble_eq_true rfl) (g_184 (v := 74) bX6_copy rfl) ⟨Nat.le_of_ble_eq_true rfl, Nat.le_of_ble_eq_true rfl⟩) (fun r_8 h_9 => ?_)
    rcases h_9 with ⟨rfl, h_10⟩ | ⟨rfl, h_10⟩
    · obtain ⟨k_11, hk_12, hk_13, rfl⟩ := iv_nI 0 7 (by decide +kernel) (by decide +kernel) h_10
      refine lv_if_ne (tgt := 31) hx hb dX6_copy_21 (by decide +kernel) (fun _ => ?_) (fun h9 => absurd h9 (by decide +kernel))
      refine lv_aload_n hx hb (g_42 bX6_copy rfl) rfl (lv_at hl 0 rfl) ?_
      refine va_get (D := G) (ci := 5) (v := .ref qmh) (C := RX6) (T := TX6) (N := 35) hx hb hts iX_X6 hown hK hP 0 rfl rfl 0 (by decide +kernel) (hts _ m_t850) (fun _ h9 => h9) rfl (g_180 (v := 7) bX6_copy rfl) ?_
      refine lv_iload_n hx hb (g_27 bX6_copy rfl) rfl (lv_at hl 1 rfl) ?_
      refine va_iald hx hb hK hP 1 0 rfl rfl (in_shelf h_3) (g_46 bX6_copy rfl) ?_
      refine lv_seti (v := fMh k_4) (congrArg fMh (cl8 (by omega))) ?_
      refine lv_iconst (v := 2) hx hb (g_5 bX6_copy rfl) (by decide +kernel) ?_
      refine lv_icmp_eq (tgt := 86) hx hb dX6_copy_38 (by decide +kernel) (fun c_15 => ?_) (fun c_15 => ?_)
      · refine lv_aload_n hx hb (g_42 bX6_copy rfl) rfl (lv_at hl 0 rfl) ?_
        refine lv_bipush (v := (-3)) hx hb dX6_copy_87 (by decide +kernel) ?_
        refine cVi (As := [.int (-3)]) (rest := []) (b := qm) (q := (RX6, TX6, 35)) ⟨hx, hb, hml, hown, hts⟩ (c_X6_refuse3 l G cy (s.heap).size qm (.ref qmh) (.ref qmo) (.ref qmz) (.ref qmR) (.ref qmv) (.ref qmk) (.ref qma) (.ref qmt) (.int (nI kZ)) qmr tA qmB qmO qmK iEn iTk (ov uP) (ov uU) (.int (nI kAt)) (.int iTo) (.int iFr) (.long JFi) (.int iFa) (.ref qm3) (.int iSt) iLv iWs vLa (.ref qmu) (.ref qmy) (.ref qmb) (.ref qms) (.int iOm) fMr) L_X6_91 hN hP hD hS hA [0, 14] [false, true, true, true, true, true, true, true, true, true, true, true, true, true, false] rfl (by decide +kernel) rfl 0 5 rfl rfl rfl ⟨Nat.le_of_ble_eq_true rfl, Nat.le_of_ble_eq_true rfl⟩ hl.1 (Nat.le_of_ble_eq_true rfl) (g_182 (v := 91) bX6_copy rfl) ⟨Nat.le_of_ble_eq_true rfl, Nat.le_of_ble_eq_true rfl⟩ (fun r_16 u_18 H locs h_17 => ?_)
        clear hP hD hS
        intro hP hD hS
        obtain ⟨fX_19, hu9, h_17⟩ := h_17
        have hPD := pd_eq [_, _, _, _, _, _, _, _, _, _, _, _, _, _, zzI cy qmr 8 fX_19] hP hD hu9 rfl
        clear hP hD hu9
        obtain ⟨hP, hD⟩ := hPD
        subst h_17
        exact endWs [[false, false, false, false, false, false, false, false, false, false, false, false, false, true], [true, true, true, true, true, true, true, true, true, true, true, true, true, false, true]] hx hb hr hlocks rfl hP hD rfl (by decide +kernel) hS ⟨eR, gMv, fX_19, rfl, Or.inr (Or.inl ⟨rfl, ⟨k_4, k_11, by omega, by omega, rfl, rfl, Or.inl c_15⟩, rfl⟩), trivial⟩ (g_172 bX6_copy rfl)
      · refine lv_aload_n hx hb (g_42 bX6_copy rfl) rfl (lv_at hl 0 rfl) ?_
        refine va_get (D := G) (ci := 5) (v := .ref qmh) (C := RX6) (T := TX6) (N := 35) hx hb hts iX_X6 hown hK hP 0 rfl rfl 0 (by decide +kernel) (hts _ m_t850) (fun _ h9 => h9) rfl (g_180 (v := 7) bX6_copy rfl) ?_
        refine lv_iload_n hx hb (g_28 bX6_copy rfl) rfl (lv_at hl 2 rfl) ?_
        refine va_iald hx hb hK hP 1 0 rfl rfl (in_shelf h_10) (g_46 bX6_copy rfl) ?_
        refine lv_seti (v := fMh k_11) (congrArg fMh (cl8 (by omega))) ?_
        refine lv_iconst (v := 2) hx hb (g_5 bX6_copy rfl) (by decide +kernel) ?_
        refine lv_icmp_eq (tgt := 86) hx hb dX6_copy_48 (by decide +kernel) (fun c_20 => ?_) (fun c_20 => ?_)
        · refine lv_aload_n hx hb (g_42 bX6_copy rfl) rfl (lv_at hl 0 rfl) ?_
          refine lv_bipush (v := (-3)) hx hb dX6_copy_87 (by decide +kernel) ?_
          refine cVi (As := [.int (-3)]) (rest := []) (b := qm) (q := (RX6, TX6, 35)) ⟨hx, hb, hml, hown, hts⟩ (c_X6_refuse3 l G cy (s.heap).size qm (.ref qmh) (.ref qmo) (.ref qmz) (.ref qmR) (.ref qmv) (.ref qmk) (.ref qma) (.ref qmt) (.int (nI kZ)) qmr tA qmB qmO qmK iEn iTk (ov uP) (ov uU) (.int (nI kAt)) (.int iTo) (.int iFr) (.long JFi) (.int iFa) (.ref qm3) (.int iSt) iLv iWs vLa (.ref qmu) (.ref qmy) (.ref qmb) (.ref qms) (.int iOm) fMr) L_X6_91 hN hP hD hS hA [0, 14] [false, true, true, true, true, true, true, true, true, true, true, true, true, true, false] rfl (by decide +kernel) rfl 0 5 rfl rfl rfl ⟨Nat.le_of_ble_eq_true rfl, Nat.le_of_ble_eq_true rfl⟩ hl.1 (Nat.le_of_ble_eq_true rfl) (g_182 (v := 91) bX6_copy rfl) ⟨Nat.le_of_ble_eq_true rfl, Nat.le_of_ble_eq_true rfl⟩ (fun r_21 u_23 H locs h_22 => ?_)
          clear hP hD hS
          intro hP hD hS
          obtain ⟨fX_24, hu9, h_22⟩ := h_22
          have hPD := pd_eq [_, _, _, _, _, _, _, _, _, _, _, _, _, _, zzI cy qmr 8 fX_24] hP hD hu9 rfl
          clear hP hD hu9
          obtain ⟨hP, hD⟩ := hPD
          subst h_22
          exact endWs [[false, false, false, false, false, false, false, false, false, false, false, false, false, true], [true, true, true, true, true, true, true, true, true, true, true, true, true, false, true]] hx hb hr hlocks rfl hP hD rfl (by decide +kernel) hS ⟨eR, gMv, fX_24, rfl, Or.inr (Or.inl ⟨rfl, ⟨k_4, k_11, by omega, by omega, rfl, rfl, Or.inr (Or.inl c_20)⟩, rfl⟩), trivial⟩ (g_172 bX6_copy rfl)
        · refine lv_aload_n hx hb (g_42 bX6_copy rfl) rfl (lv_at hl 0 rfl) ?_
          refine va_get (D := G) (ci := 5) (v := .ref qmh) (C := RX6) (T := TX6) (N := 35) hx hb hts iX_X6 hown hK hP 0 rfl rfl 0 (by decide +kernel) (hts _ m_t850) (fun _ h9 => h9) rfl (g_180 (v := 7) bX6_copy rfl) ?_
          refine lv_iload_n hx hb (g_27 bX6_copy rfl) rfl (lv_at hl 1 rfl) ?_
          refine va_iald hx hb hK hP 1 0 rfl rfl (in_shelf h_3) (g_46 bX6_copy rfl) ?_
          refine lv_seti (v := fMh k_4) (congrArg fMh (cl8 (by omega))) ?_
          refine lv_iconst (v := 1) hx hb (g_4 bX6_copy rfl) (by decide +kernel) ?_
          refine lv_icmp_ne (tgt := 93) hx hb dX6_copy_58 (by decide +kernel) (fun c_25 => ?_) (fun c_25 => ?_)
          · refine lv_aload_n hx hb (g_42 bX6_copy rfl) rfl (lv_at hl 0 rfl) ?_
            refine va_get (D := G) (ci := 5) (v := .ref qmh) (C := RX6) (T := TX6) (N := 35) hx hb hts iX_X6 hown hK hP 0 rfl rfl 0 (by decide +kernel) (hts _ m_t850) (fun _ h9 => h9) rfl (g_180 (v := 7) bX6_copy rfl) ?_
            refine lv_iload_n hx hb (g_27 bX6_copy rfl) rfl (lv_at hl 1 rfl) ?_
            refine va_iald hx hb hK hP 1 0 rfl rfl (in_shelf h_3) (g_46 bX6_copy rfl) ?_
            refine lv_seti (v := fMh k_4) (congrArg fMh (cl8 (by omega))) ?_
            refine lv_if_eq (tgt := 111) hx hb dX6_copy_99 (by decide +kernel) (fun c_26 => ?_) (fun c_26 => ?_)
            · refine lv_aload_n hx hb (g_42 bX6_copy rfl) rfl (lv_at hl 0 rfl) ?_
              refine lv_bipush (v := (-4)) hx hb dX6_copy_112 (by decide +kernel) ?_
              refine cVi (As := [.int (-4)]) (rest := []) (b := qm) (q := (RX6, TX6, 35)) ⟨hx, hb, hml, hown, hts⟩ (c_X6_refuse4 l G cy (s.heap).size qm (.ref qmh) (.ref qmo) (.ref qmz) (.ref qmR) (.ref qmv) (.ref qmk) (.ref qma) (.ref qmt) (.int (nI kZ)) qmr tA qmB qmO qmK iEn iTk (ov uP) (ov uU) (.int (nI kAt)) (.int iTo) (.int iFr) (.long JFi) (.int iFa) (.ref qm3) (.int iSt) iLv iWs vLa (.ref qmu) (.ref qmy) (.ref qmb) (.ref qms) (.int iOm) fMr) L_X6_91 hN hP hD hS hA [0, 14] [false, true, true, true, true, true, true, true, true, true, true, true, true, true, false] rfl (by decide +kernel) rfl 0 5 rfl rfl rfl ⟨Nat.le_of_ble_eq_true rfl, Nat.le_of_ble_eq_true rfl⟩ hl.1 (Nat.le_of_ble_eq_true rfl) (g_182 (v := 91) bX6_copy rfl) ⟨Nat.le_of_ble_eq_true rfl, Nat.le_of_ble_eq_true rfl⟩ (fun r_27 u_29 H locs h_28 => ?_)
              clear hP hD hS
              intro hP hD hS
              obtain ⟨fX_30, hu9, h_28⟩ := h_28
              have hPD := pd_eq [_, _, _, _, _, _, _, _, _, _, _, _, _, _, zzI cy qmr 8 fX_30] hP hD hu9 rfl
              clear hP hD hu9
              obtain ⟨hP, hD⟩ := hPD
              subst h_28
              exact endWs [[false, false, false, false, false, false, false, false, false, false, false, false, false, true], [true, true, true, true, true, true, true, true, true, true, true, true, true, false, true]] hx hb hr hlocks rfl hP hD rfl (by decide +kernel) hS ⟨eR, gMv, fX_30, rfl, Or.inr (Or.inr (Or.inl ⟨rfl, ⟨k_4, k_11, by omega, by omega, rfl, rfl, c_15, c_20, Or.inl c_26⟩, rfl⟩)), trivial⟩ (g_172 bX6_copy rfl)
            · refine lv_aload_n hx hb (g_42 bX6_copy rfl) rfl (lv_at hl 0 rfl) ?_
              refine va_get (D := G) (ci := 5) (v := .ref qmh) (C := RX6) (T := TX6) (N := 35) hx hb hts iX_X6 hown hK hP 0 rfl rfl 0 (by decide +kernel) (hts _ m_t850) (fun _ h9 => h9) rfl (g_180 (v := 7) bX6_copy rfl) ?_
              refine lv_iload_n hx hb (g_28 bX6_copy rfl) rfl (lv_at hl 2 rfl) ?_
              refine va_iald hx hb hK hP 1 0 rfl rfl (in_shelf h_10) (g_46 bX6_copy rfl) ?_
              refine lv_seti (v := fMh k_11) (congrArg fMh (cl8 (by omega))) ?_
              refine lv_if_ne (tgt := 118) hx hb dX6_copy_108 (by decide +kernel) (fun c_31 => ?_) (fun c_31 => ?_)
              · refine lv_iload hx hb (g_21 (v := 5) bX6_copy rfl) (lv_at hl 5 rfl) ?_
                refine lv_if_lt (tgt := 181) hx hb dX6_copy_120 (by decide +kernel) (fun c_32 => ?_) (fun c_32 => ?_)
                · refine lv_aload_n hx hb (g_42 bX6_copy rfl) rfl (lv_at hl 0 rfl) ?_
                  refine lv_bipush (v := (-2)) hx hb dX6_copy_182 (by decide +kernel) ?_
                  refine cVi (As := [.int (-2)]) (rest := []) (b := qm) (q := (RX6, TX6, 35)) ⟨hx, hb, hml, hown, hts⟩ (c_X6_refuse2 l G cy (s.heap).size qm (.ref qmh) (.ref qmo) (.ref qmz) (.ref qmR) (.ref qmv) (.ref qmk) (.ref qma) (.ref qmt) (.int (nI kZ)) qmr tA qmB qmO qmK iEn iTk (ov uP) (ov uU) (.int (nI kAt)) (.int iTo) (.int iFr) (.long JFi) (.int iFa) (.ref qm3) (.int iSt) iLv iWs vLa (.ref qmu) (.ref qmy) (.ref qmb) (.ref qms) (.int iOm) fMr) L_X6_91 hN hP hD hS hA [0, 14] [false, true, true, true, true, true, true, true, true, true, true, true, true, true, false] rfl (by decide +kernel) rfl 0 5 rfl rfl rfl ⟨Nat.le_of_ble_eq_true rfl, Nat.le_of_ble_eq_true rfl⟩ hl.1 (Nat.le_of_ble_eq_true rfl) (g_182 (v := 91) bX6_copy rfl) ⟨Nat.le_of_ble_eq_true rfl, Nat.le_of_ble_eq_true rfl⟩ (fun r_33 u_35 H locs h_34 => ?_)
                  clear hP hD hS
                  intro hP hD hS
                  obtain ⟨fX_36, hu9, h_34⟩ := h_34
                  have hPD := pd_eq [_, _, _, _, _, _, _, _, _, _, _, _, _, _, zzI cy qmr 8 fX_36] hP hD hu9 rfl
                  clear hP hD hu9
                  obtain ⟨hP, hD⟩ := hPD
                  subst h_34
                  exact endWs [[false, false, false, false, false, false, false, false, false, false, false, false, false, true], [true, true, true, true, true, true, true, true, true, true, true, true, true, false, true]] hx hb hr hlocks rfl hP hD rfl (by decide +kernel) hS ⟨eR, gMv, fX_36, rfl, Or.inl ⟨rfl, Or.inr ⟨k_4, k_11, by omega, by omega, rfl, rfl, c_15, c_20, c_26, c_31, (fun h1 h2 => absurd h1 c_25), (fun q => q.1 c_32)⟩, rfl⟩, trivial⟩ (g_172 bX6_copy rfl)
                · refine lv_iload_n hx hb (g_29 bX6_copy rfl) rfl (lv_at hl 3 rfl) ?_
                  refine lv_if_lt (tgt := 181) hx hb dX6_copy_124 (by decide +kernel) (fun c_37 => ?_) (fun c_37 => ?_)
                  · refine lv_aload_n hx hb (g_42 bX6_copy rfl) rfl (lv_at hl 0 rfl) ?_
                    refine lv_bipush (v := (-2)) hx hb dX6_copy_182 (by decide +kernel) ?_
                    refine cVi (As := [.int (-2)]) (rest := []) (b := qm) (q := (RX6, TX6, 35)) ⟨hx, hb, hml, hown, hts⟩ (c_X6_refuse2 l G cy (s.heap).size qm (.ref qmh) (.ref qmo) (.ref qmz) (.ref qmR) (.ref qmv) (.ref qmk) (.ref qma) (.ref qmt) (.int (nI kZ)) qmr tA qmB qmO qmK iEn iTk (ov uP) (ov uU) (.int (nI kAt)) (.int iTo) (.int iFr) (.long JFi) (.int iFa) (.ref qm3) (.int iSt) iLv iWs vLa (.ref qmu) (.ref qmy) (.ref qmb) (.ref qms) (.int iOm) fMr) L_X6_91 hN hP hD hS hA [0, 14] [false, true, true, true, true, true, true, true, true, true, true, true, true, true, false] rfl (by decide +kernel) rfl 0 5 rfl rfl rfl ⟨Nat.le_of_ble_eq_true rfl, Nat.le_of_ble_eq_true rfl⟩ hl.1 (Nat.le_of_ble_eq_true rfl) (g_182 (v := 91) bX6_copy rfl) ⟨Nat.le_of_ble_eq_true rfl, Nat.le_of_ble_eq_true rfl⟩ (fun r_38 u_40 H locs h_39 => ?_)
                    clear hP hD hS
                    intro hP hD hS
                    obtain ⟨fX_41, hu9, h_39⟩ := h_39
                    have hPD := pd_eq [_, _, _, _, _, _, _, _, _, _, _, _, _, _, zzI cy qmr 8 fX_41] hP hD hu9 rfl
                    clear hP hD hu9
                    obtain ⟨hP, hD⟩ := hPD
                    subst h_39
                    exact endWs [[false, false, false, false, false, false, false, false, false, false, false, false, false, true], [true, true, true, true, true, true, true, true, true, true, true, true, true, false, true]] hx hb hr hlocks rfl hP hD rfl (by decide +kernel) hS ⟨eR, gMv, fX_41, rfl, Or.inl ⟨rfl, Or.inr ⟨k_4, k_11, by omega, by omega, rfl, rfl, c_15, c_20, c_26, c_31, (fun h1 h2 => absurd h1 c_25), (fun q => q.2.1 c_37)⟩, rfl⟩, trivial⟩ (g_172 bX6_copy rfl)
                  · refine lv_iload hx hb (g_21 (v := 4) bX6_copy rfl) (lv_at hl 4 rfl) ?_
                    refine lv_if_lt (tgt := 181) hx hb dX6_copy_129 (by decide +kernel) (fun c_42 => ?_) (fun c_42 => ?_)
                    · refine lv_aload_n hx hb (g_42 bX6_copy rfl) rfl (lv_at hl 0 rfl) ?_
                      refine lv_bipush (v := (-2)) hx hb dX6_copy_182 (by decide +kernel) ?_
                      refine cVi (As := [.int (-2)]) (rest := []) (b := qm) (q := (RX6, TX6, 35)) ⟨hx, hb, hml, hown, hts⟩ (c_X6_refuse2 l G cy (s.heap).size qm (.ref qmh) (.ref qmo) (.ref qmz) (.ref qmR) (.ref qmv) (.ref qmk) (.ref qma) (.ref qmt) (.int (nI kZ)) qmr tA qmB qmO qmK iEn iTk (ov uP) (ov uU) (.int (nI kAt)) (.int iTo) (.int iFr) (.long JFi) (.int iFa) (.ref qm3) (.int iSt) iLv iWs vLa (.ref qmu) (.ref qmy) (.ref qmb) (.ref qms) (.int iOm) fMr) L_X6_91 hN hP hD hS hA [0, 14] [false, true, true, true, true, true, true, true, true, true, true, true, true, true, false] rfl (by decide +kernel) rfl 0 5 rfl rfl rfl ⟨Nat.le_of_ble_eq_true rfl, Nat.le_of_ble_eq_true rfl⟩ hl.1 (Nat.le_of_ble_eq_true rfl) (g_182 (v := 91) bX6_copy rfl) ⟨Nat.le_of_ble_eq_true rfl, Nat.le_of_ble_eq_true rfl⟩ (fun r_43 u_45 H locs h_44 => ?_)
                      clear hP hD hS
                      intro hP hD hS
                      obtain ⟨fX_46, hu9, h_44⟩ := h_44
                      have hPD := pd_eq [_, _, _, _, _, _, _, _, _, _, _, _, _, _, zzI cy qmr 8 fX_46] hP hD hu9 rfl
                      clear hP hD hu9
                      obtain ⟨hP, hD⟩ := hPD
                      subst h_44
                      exact endWs [[false, false, false, false, false, false, false, false, false, false, false, false, false, true], [true, true, true, true, true, true, true, true, true, true, true, true, true, false, true]] hx hb hr hlocks rfl hP hD rfl (by decide +kernel) hS ⟨eR, gMv, fX_46, rfl, Or.inl ⟨rfl, Or.inr ⟨k_4, k_11, by omega, by omega, rfl, rfl, c_15, c_20, c_26, c_31, (fun h1 h2 => absurd h1 c_25), (fun q => q.2.2.1 c_42)⟩, rfl⟩, trivial⟩ (g_172 bX6_copy rfl)
                    · refine lv_iload hx hb (g_21 (v := 5) bX6_copy rfl) (lv_at hl 5 rfl) ?_
                      refine lv_aload_n hx hb (g_42 bX6_copy rfl) rfl (lv_at hl 0 rfl) ?_
                      refine va_get (D := G) (ci := 5) (v := .ref qmz) (C := RX6) (T := TX6) (N := 35) hx hb hts iX_X6 hown hK hP 0 rfl rfl 2 (by decide +kernel) (hts _ m_t852) (fun _ h9 => h9) rfl (g_180 (v := 16) bX6_copy rfl) ?_
                      refine lv_iload_n hx hb (g_27 bX6_copy rfl) rfl (lv_at hl 1 rfl) ?_
                      refine va_iald hx hb hK hP 3 0 rfl rfl (in_shelf h_3) (g_46 bX6_copy rfl) ?_
                      refine lv_seti (v := fMz k_4) (congrArg fMz (cl8 (by omega))) ?_
                      refine lv_icmp_gt (tgt := 181) hx hb dX6_copy_140 (by decide +kernel) (fun c_47 => ?_) (fun c_47 => ?_)
                      · refine lv_aload_n hx hb (g_42 bX6_copy rfl) rfl (lv_at hl 0 rfl) ?_
                        refine lv_bipush (v := (-2)) hx hb dX6_copy_182 (by decide +kernel) ?_
                        refine cVi (As := [.int (-2)]) (rest := []) (b := qm) (q := (RX6, TX6, 35)) ⟨hx, hb, hml, hown, hts⟩ (c_X6_refuse2 l G cy (s.heap).size qm (.ref qmh) (.ref qmo) (.ref qmz) (.ref qmR) (.ref qmv) (.ref qmk) (.ref qma) (.ref qmt) (.int (nI kZ)) qmr tA qmB qmO qmK iEn iTk (ov uP) (ov uU) (.int (nI kAt)) (.int iTo) (.int iFr) (.long JFi) (.int iFa) (.ref qm3) (.int iSt) iLv iWs vLa (.ref qmu) (.ref qmy) (.ref qmb) (.ref qms) (.int iOm) fMr) L_X6_91 hN hP hD hS hA [0, 14] [false, true, true, true, true, true, true, true, true, true, true, true, true, true, false] rfl (by decide +kernel) rfl 0 5 rfl rfl rfl ⟨Nat.le_of_ble_eq_true rfl, Nat.le_of_ble_eq_true rfl⟩ hl.1 (Nat.le_of_ble_eq_true rfl) (g_182 (v := 91) bX6_copy rfl) ⟨Nat.le_of_ble_eq_true rfl, Nat.le_of_ble_eq_true rfl⟩ (fun r_48 u_50 H locs h_49 => ?_)
                        clear hP hD hS
                        intro hP hD hS
                        obtain ⟨fX_51, hu9, h_49⟩ := h_49
                        have hPD := pd_eq [_, _, _, _, _, _, _, _, _, _, _, _, _, _, zzI cy qmr 8 fX_51] hP hD hu9 rfl
                        clear hP hD hu9
                        obtain ⟨hP, hD⟩ := hPD
                        subst h_49
                        exact endWs [[false, false, false, false, false, false, false, false, false, false, false, false, false, true], [true, true, true, true, true, true, true, true, true, true, true, true, true, false, true]] hx hb hr hlocks rfl hP hD rfl (by decide +kernel) hS ⟨eR, gMv, fX_51, rfl, Or.inl ⟨rfl, Or.inr ⟨k_4, k_11, by omega, by omega, rfl, rfl, c_15, c_20, c_26, c_31, (fun h1 h2 => absurd h1 c_25), (fun q => q.2.2.2.1 c_47)⟩, rfl⟩, trivial⟩ (g_172 bX6_copy rfl)
                      · refine lv_iload hx hb (g_21 (v := 5) bX6_copy rfl) (lv_at hl 5 rfl) ?_
                        refine lv_aload_n hx hb (g_42 bX6_copy rfl) rfl (lv_at hl 0 rfl) ?_
                        refine va_get (D := G) (ci := 5) (v := .ref qmz) (C := RX6) (T := TX6) (N := 35) hx hb hts iX_X6 hown hK hP 0 rfl rfl 2 (by decide +kernel) (hts _ m_t852) (fun _ h9 => h9) rfl (g_180 (v := 16) bX6_copy rfl) ?_
                        refine lv_iload_n hx hb (g_28 bX6_copy rfl) rfl (lv_at hl 2 rfl) ?_
                        refine va_iald hx hb hK hP 3 0 rfl rfl (in_shelf h_10) (g_46 bX6_copy rfl) ?_
                        refine lv_seti (v := fMz k_11) (congrArg fMz (cl8 (by omega))) ?_
                        refine lv_icmp_gt (tgt := 181) hx hb dX6_copy_151 (by decide +kernel) (fun c_52 => ?_) (fun c_52 => ?_)
                        · refine lv_aload_n hx hb (g_42 bX6_copy rfl) rfl (lv_at hl 0 rfl) ?_
                          refine lv_bipush (v := (-2)) hx hb dX6_copy_182 (by decide +kernel) ?_
                          refine cVi (As := [.int (-2)]) (rest := []) (b := qm) (q := (RX6, TX6, 35)) ⟨hx, hb, hml, hown, hts⟩ (c_X6_refuse2 l G cy (s.heap).size qm (.ref qmh) (.ref qmo) (.ref qmz) (.ref qmR) (.ref qmv) (.ref qmk) (.ref qma) (.ref qmt) (.int (nI kZ)) qmr tA qmB qmO qmK iEn iTk (ov uP) (ov uU) (.int (nI kAt)) (.int iTo) (.int iFr) (.long JFi) (.int iFa) (.ref qm3) (.int iSt) iLv iWs vLa (.ref qmu) (.ref qmy) (.ref qmb) (.ref qms) (.int iOm) fMr) L_X6_91 hN hP hD hS hA [0, 14] [false, true, true, true, true, true, true, true, true, true, true, true, true, true, false] rfl (by decide +kernel) rfl 0 5 rfl rfl rfl ⟨Nat.le_of_ble_eq_true rfl, Nat.le_of_ble_eq_true rfl⟩ hl.1 (Nat.le_of_ble_eq_true rfl) (g_182 (v := 91) bX6_copy rfl) ⟨Nat.le_of_ble_eq_true rfl, Nat.le_of_ble_eq_true rfl⟩ (fun r_53 u_55 H locs h_54 => ?_)
                          clear hP hD hS
                          intro hP hD hS
                          obtain ⟨fX_56, hu9, h_54⟩ := h_54
                          have hPD := pd_eq [_, _, _, _, _, _, _, _, _, _, _, _, _, _, zzI cy qmr 8 fX_56] hP hD hu9 rfl
                          clear hP hD hu9
                          obtain ⟨hP, hD⟩ := hPD
                          subst h_54
                          exact endWs [[false, false, false, false, false, false, false, false, false, false, false, false, false, true], [true, true, true, true, true, true, true, true, true, true, true, true, true, false, true]] hx hb hr hlocks rfl hP hD rfl (by decide +kernel) hS ⟨eR, gMv, fX_56, rfl, Or.inl ⟨rfl, Or.inr ⟨k_4, k_11, by omega, by omega, rfl, rfl, c_15, c_20, c_26, c_31, (fun h1 h2 => absurd h1 c_25), (fun q => q.2.2.2.2.1 c_52)⟩, rfl⟩, trivial⟩ (g_172 bX6_copy rfl)
                        · refine lv_iload_n hx hb (g_29 bX6_copy rfl) rfl (lv_at hl 3 rfl) ?_
                          refine lv_aload_n hx hb (g_42 bX6_copy rfl) rfl (lv_at hl 0 rfl) ?_
                          refine va_get (D := G) (ci := 5) (v := .ref qmz) (C := RX6) (T := TX6) (N := 35) hx hb hts iX_X6 hown hK hP 0 rfl rfl 2 (by decide +kernel) (hts _ m_t852) (fun _ h9 => h9) rfl (g_180 (v := 16) bX6_copy rfl) ?_
                          refine lv_iload_n hx hb (g_27 bX6_copy rfl) rfl (lv_at hl 1 rfl) ?_
                          refine va_iald hx hb hK hP 3 0 rfl rfl (in_shelf h_3) (g_46 bX6_copy rfl) ?_
                          refine lv_seti (v := fMz k_4) (congrArg fMz (cl8 (by omega))) ?_
                          refine lv_iload hx hb (g_21 (v := 5) bX6_copy rfl) (lv_at hl 5 rfl) ?_
                          refine lv_isub hx hb (g_100 bX6_copy rfl) ?_
                          refine lv_icmp_gt (tgt := 181) hx hb dX6_copy_164 (by decide +kernel) (fun c_57 => ?_) (fun c_57 => ?_)
                          · refine lv_aload_n hx hb (g_42 bX6_copy rfl) rfl (lv_at hl 0 rfl) ?_
                            refine lv_bipush (v := (-2)) hx hb dX6_copy_182 (by decide +kernel) ?_
                            refine cVi (As := [.int (-2)]) (rest := []) (b := qm) (q := (RX6, TX6, 35)) ⟨hx, hb, hml, hown, hts⟩ (c_X6_refuse2 l G cy (s.heap).size qm (.ref qmh) (.ref qmo) (.ref qmz) (.ref qmR) (.ref qmv) (.ref qmk) (.ref qma) (.ref qmt) (.int (nI kZ)) qmr tA qmB qmO qmK iEn iTk (ov uP) (ov uU) (.int (nI kAt)) (.int iTo) (.int iFr) (.long JFi) (.int iFa) (.ref qm3) (.int iSt) iLv iWs vLa (.ref qmu) (.ref qmy) (.ref qmb) (.ref qms) (.int iOm) fMr) L_X6_91 hN hP hD hS hA [0, 14] [false, true, true, true, true, true, true, true, true, true, true, true, true, true, false] rfl (by decide +kernel) rfl 0 5 rfl rfl rfl ⟨Nat.le_of_ble_eq_true rfl, Nat.le_of_ble_eq_true rfl⟩ hl.1 (Nat.le_of_ble_eq_true rfl) (g_182 (v := 91) bX6_copy rfl) ⟨Nat.le_of_ble_eq_true rfl, Nat.le_of_ble_eq_true rfl⟩ (fun r_58 u_60 H locs h_59 => ?_)
                            clear hP hD hS
                            intro hP hD hS
                            obtain ⟨fX_61, hu9, h_59⟩ := h_59
                            have hPD := pd_eq [_, _, _, _, _, _, _, _, _, _, _, _, _, _, zzI cy qmr 8 fX_61] hP hD hu9 rfl
                            clear hP hD hu9
                            obtain ⟨hP, hD⟩ := hPD
                            subst h_59
                            exact endWs [[false, false, false, false, false, false, false, false, false, false, false, false, false, true], [true, true, true, true, true, true, true, true, true, true, true, true, true, false, true]] hx hb hr hlocks rfl hP hD rfl (by decide +kernel) hS ⟨eR, gMv, fX_61, rfl, Or.inl ⟨rfl, Or.inr ⟨k_4, k_11, by omega, by omega, rfl, rfl, c_15, c_20, c_26, c_31, (fun h1 h2 => absurd h1 c_25), (fun q => q.2.2.2.2.2.1 c_57)⟩, rfl⟩, trivial⟩ (g_172 bX6_copy rfl)
                          · refine lv_iload hx hb (g_21 (v := 4) bX6_copy rfl) (lv_at hl 4 rfl) ?_
                            refine lv_aload_n hx hb (g_42 bX6_copy rfl) rfl (lv_at hl 0 rfl) ?_
                            refine va_get (D := G) (ci := 5) (v := .ref qmz) (C := RX6) (T := TX6) (N := 35) hx hb hts iX_X6 hown hK hP 0 rfl rfl 2 (by decide +kernel) (hts _ m_t852) (fun _ h9 => h9) rfl (g_180 (v := 16) bX6_copy rfl) ?_
                            refine lv_iload_n hx hb (g_28 bX6_copy rfl) rfl (lv_at hl 2 rfl) ?_
                            refine va_iald hx hb hK hP 3 0 rfl rfl (in_shelf h_10) (g_46 bX6_copy rfl) ?_
                            refine lv_seti (v := fMz k_11) (congrArg fMz (cl8 (by omega))) ?_
                            refine lv_iload hx hb (g_21 (v := 5) bX6_copy rfl) (lv_at hl 5 rfl) ?_
                            refine lv_isub hx hb (g_100 bX6_copy rfl) ?_
                            refine lv_icmp_le (tgt := 188) hx hb dX6_copy_178 (by decide +kernel) (fun c_62 => ?_) (fun c_62 => ?_)
                            · obtain ⟨n_63, hn_64, en_65⟩ := hSz k_4 (by omega)
                              obtain ⟨n_66, hn_67, en_68⟩ := hSz k_11 (by omega)
                              obtain ⟨k_69, k_70, k_71, hk_72, hk_73, rfl, rfl, rfl⟩ := cp_of en_65 hn_64 en_68 hn_67 c_32 c_37 c_42 c_47 c_52 c_57 c_62
                              refine lv_iconst (v := 0) hx hb (g_3 bX6_copy rfl) (by decide +kernel) ?_
                              refine lv_istore (lv' := [(6, .int 0), (0, .ref qm), (1, .int (nI k_4)), (2, .int (nI k_11)), (3, .int (nI k_69)), (4, .int (nI k_71)), (5, .int (nI k_70))]) hx hb (g_54 (v := 6) bX6_copy rfl) hl (by decide +kernel) rfl (fun ls => ?_)
                              clear hl
                              intro hl
                              have lp_74 : ∀ (n_75 : Nat) (m_77 : Nat) (gJ_78 : Nat → Int64), 40 - m_77 < n_75 → m_77 ≤ k_70 → (∀ x, x < m_77 → gJ_78 x = eR k_4 (k_69 + x)) → ∀ (H : Heap) (locs : List Loc) (ls : Array Slot), va_P G CL [zzO qm 5 (.ref qmh :: .ref qmo :: .ref qmz :: .ref qmR :: .ref qmv :: .ref qmk :: .ref qma :: .ref qmt :: .int (nI kZ) :: .ref qmr :: .int (nI (T_nb tA)) :: .ref qmB :: .int (nI (T_np tA)) :: .ref qmO :: .ref qmK :: .int iEn :: .int iTk :: .int (T_sd tA) :: ov uP :: ov uU :: .int (nI kAt) :: .int iTo :: .int iFr :: .long JFi :: .int iFa :: .ref qm3 :: .int iSt :: .int iLv :: .int iWs :: vLa :: .ref qmu :: .ref qmy :: .ref qmb :: .ref qms :: .int iOm :: []), zzI cy qmh 8 fMh, zzI cy qmo 8 fMo, zzI cy qmz 8 fMz, zzG cy 4 qmR rR, zzJ cy (rR 0) 40 (eR 0), zzJ cy (rR 1) 40 (eR 1), zzJ cy (rR 2) 40 (eR 2), zzJ cy (rR 3) 40 (eR 3), zzJ cy (rR 4) 40 (eR 4), zzJ cy (rR 5) 40 (eR 5), zzJ cy (rR 6) 40 (eR 6), zzJ cy (rR 7) 40 (eR 7), zzJ cy qmv 40 gJ_78, zzI cy qmr 8 fMr] H → va_D A [zzO qm 5 (.ref qmh :: .ref qmo :: .ref qmz :: .ref qmR :: .ref qmv :: .ref qmk :: .ref qma :: .ref qmt :: .int (nI kZ) :: .ref qmr :: .int (nI (T_nb tA)) :: .ref qmB :: .int (nI (T_np tA)) :: .ref qmO :: .ref qmK :: .int iEn :: .int iTk :: .int (T_sd tA) :: ov uP :: ov uU :: .int (nI kAt) :: .int iTo :: .int iFr :: .long JFi :: .int iFa :: .ref qm3 :: .int iSt :: .int iLv :: .int iWs :: vLa :: .ref qmu :: .ref qmy :: .ref qmb :: .ref qms :: .int iOm :: []), zzI cy qmh 8 fMh, zzI cy qmo 8 fMo, zzI cy qmz 8 fMz, zzG cy 4 qmR rR, zzJ cy (rR 0) 40 (eR 0), zzJ cy (rR 1) 40 (eR 1), zzJ cy (rR 2) 40 (eR 2), zzJ cy (rR 3) 40 (eR 3), zzJ cy (rR 4) 40 (eR 4), zzJ cy (rR 5) 40 (eR 5), zzJ cy (rR 6) 40 (eR 6), zzJ cy (rR 7) 40 (eR 7), zzJ cy qmv 40 gJ_78, zzI cy qmr 8 fMr] → va_S A s.heap H locs → lv_has ls 7 [(6, .int (nI m_77)), (0, .ref qm), (1, .int (nI k_4)), (2, .int (nI k_11)), (3, .int (nI k_69)), (4, .int (nI k_71)), (5, .int (nI k_70))] → W p l e (Rm 16 0 0) s m (List.toArray (α := Value) [.ref qm, .int (nI k_4), .int (nI k_11), .int (nI k_69), .int (nI k_71), .int (nI k_70)]) below meth c H locs 0 0 (MQ below ((Wi G (fun r u => ∃ (eN : Nat → Nat → Int64) (gNv : Nat → Int64) (fNr : Nat → Int32), u = [zzO qm 5 (.ref qmh :: .ref qmo :: .ref qmz :: .ref qmR :: .ref qmv :: .ref qmk :: .ref qma :: .ref qmt :: .int (nI kZ) :: .ref qmr :: .int (nI (T_nb tA)) :: .ref qmB :: .int (nI (T_np tA)) :: .ref qmO :: .ref qmK :: .int iEn :: .int iTk :: .int (T_sd tA) :: ov uP :: ov uU :: .int (nI kAt) :: .int iTo :: .int iFr :: .long JFi :: .int iFa :: .ref qm3 :: .int iSt :: .int iLv :: .int iWs :: vLa :: .ref qmu :: .ref qmy :: .ref qmb :: .ref qms :: .int iOm :: []), zzI cy qmh 8 fMh, zzI cy qmo 8 fMo, zzI cy qmz 8 fMz, zzG cy 4 qmR rR, zzJ cy (rR 0) 40 (eN 0), zzJ cy (rR 1) 40 (eN 1), zzJ cy (rR 2) 40 (eN 2), zzJ cy (rR 3) 40 (eN 3), zzJ cy (rR 4) 40 (eN 4), zzJ cy (rR 5) 40 (eN 5), zzJ cy (rR 6) 40 (eN 6), zzJ cy (rR 7) 40 (eN 7), zzJ cy qmv 40 gNv, zzI cy qmr 8 fNr] ∧ (PMcopy fMh fMo fMz eR (nI k_4) (nI k_11) (nI k_69) (nI k_71) (nI k_70) r eN) ∧ (True))) A) (List.toArray (α := Value) [.ref qm, .int (nI k_4), .int (nI k_11), .int (nI k_69), .int (nI k_71), .int (nI k_70)]) s 0 0 A) (F0 m 191 ls []) := by
                                intro n_75
                                induction n_75 with
                                | zero => intro m_77 gJ_78 hm9; exact absurd hm9 (Nat.not_lt_zero _)
                                | succ n_75 ih_76 =>
                                  intro m_77 gJ_78 hm_81 hm_81 hg_80 H locs ls hP hD hS hl
                                  refine lv_iload hx hb (g_21 (v := 6) bX6_copy rfl) (lv_at hl 0 rfl) ?_
                                  refine lv_iload hx hb (g_21 (v := 5) bX6_copy rfl) (lv_at hl 6 rfl) ?_
                                  refine lv_icmp_ge (tgt := 222) hx hb dX6_copy_195 (by decide +kernel) (fun c_82 => ?_) (fun c_82 => ?_)
                                  · have hlt_83 : m_77 = k_70 := Nat.le_antisymm (by omega) (lp_ge rfl rfl (by omega) (by omega) c_82)
                                    refine lv_iconst (v := 0) hx hb (g_3 bX6_copy rfl) (by decide +kernel) ?_
                                    refine lv_istore (lv' := [(6, .int 0), (0, .ref qm), (1, .int (nI k_4)), (2, .int (nI k_11)), (3, .int (nI k_69)), (4, .int (nI k_71)), (5, .int (nI k_70))]) hx hb (g_54 (v := 6) bX6_copy rfl) hl (by decide +kernel) rfl (fun ls => ?_)
                                    clear hl
                                    intro hl
                                    have lp_84 : ∀ (n_85 : Nat) (n_87 : Nat) (eJ_88 : Nat → Nat → Int64), 40 - n_87 < n_85 → n_87 ≤ k_70 → (∀ s x, eJ_88 s x = if s = k_11 ∧ k_71 ≤ x ∧ x < k_71 + n_87 then eR k_4 (k_69 + (x - k_71)) else eR s x) → ∀ (H : Heap) (locs : List Loc) (ls : Array Slot), va_P G CL [zzO qm 5 (.ref qmh :: .ref qmo :: .ref qmz :: .ref qmR :: .ref qmv :: .ref qmk :: .ref qma :: .ref qmt :: .int (nI kZ) :: .ref qmr :: .int (nI (T_nb tA)) :: .ref qmB :: .int (nI (T_np tA)) :: .ref qmO :: .ref qmK :: .int iEn :: .int iTk :: .int (T_sd tA) :: ov uP :: ov uU :: .int (nI kAt) :: .int iTo :: .int iFr :: .long JFi :: .int iFa :: .ref qm3 :: .int iSt :: .int iLv :: .int iWs :: vLa :: .ref qmu :: .ref qmy :: .ref qmb :: .ref qms :: .int iOm :: []), zzI cy qmh 8 fMh, zzI cy qmo 8 fMo, zzI cy qmz 8 fMz, zzG cy 4 qmR rR, zzJ cy (rR 0) 40 (eJ_88 0), zzJ cy (rR 1) 40 (eJ_88 1), zzJ cy (rR 2) 40 (eJ_88 2), zzJ cy (rR 3) 40 (eJ_88 3), zzJ cy (rR 4) 40 (eJ_88 4), zzJ cy (rR 5) 40 (eJ_88 5), zzJ cy (rR 6) 40 (eJ_88 6), zzJ cy (rR 7) 40 (eJ_88 7), zzJ cy qmv 40 gJ_78, zzI cy qmr 8 fMr] H → va_D A [zzO qm 5 (.ref qmh :: .ref qmo :: .ref qmz :: .ref qmR :: .ref qmv :: .ref qmk :: .ref qma :: .ref qmt :: .int (nI kZ) :: .ref qmr :: .int (nI (T_nb tA)) :: .ref qmB :: .int (nI (T_np tA)) :: .ref qmO :: .ref qmK :: .int iEn :: .int iTk :: .int (T_sd tA) :: ov uP :: ov uU :: .int (nI kAt) :: .int iTo :: .int iFr :: .long JFi :: .int iFa :: .ref qm3 :: .int iSt :: .int iLv :: .int iWs :: vLa :: .ref qmu :: .ref qmy :: .ref qmb :: .ref qms :: .int iOm :: []), zzI cy qmh 8 fMh, zzI cy qmo 8 fMo, zzI cy qmz 8 fMz, zzG cy 4 qmR rR, zzJ cy (rR 0) 40 (eJ_88 0), zzJ cy (rR 1) 40 (eJ_88 1), zzJ cy (rR 2) 40 (eJ_88 2), zzJ cy (rR 3) 40 (eJ_88 3), zzJ cy (rR 4) 40 (eJ_88 4), zzJ cy (rR 5) 40 (eJ_88 5), zzJ cy (rR 6) 40 (eJ_88 6), zzJ cy (rR 7) 40 (eJ_88 7), zzJ cy qmv 40 gJ_78, zzI cy qmr 8 fMr] → va_S A s.heap H locs → lv_has ls 7 [(6, .int (nI n_87)), (0, .ref qm), (1, .int (nI k_4)), (2, .int (nI k_11)), (3, .int (nI k_69)), (4, .int (nI k_71)), (5, .int (nI k_70))] → W p l e (Rm 16 0 0) s m (List.toArray (α := Value) [.ref qm, .int (nI k_4), .int (nI k_11), .int (nI k_69), .int (nI k_71), .int (nI k_70)]) below meth c H locs 0 0 (MQ below ((Wi G (fun r u => ∃ (eN : Nat → Nat → Int64) (gNv : Nat → Int64) (fNr : Nat → Int32), u = [zzO qm 5 (.ref qmh :: .ref qmo :: .ref qmz :: .ref qmR :: .ref qmv :: .ref qmk :: .ref qma :: .ref qmt :: .int (nI kZ) :: .ref qmr :: .int (nI (T_nb tA)) :: .ref qmB :: .int (nI (T_np tA)) :: .ref qmO :: .ref qmK :: .int iEn :: .int iTk :: .int (T_sd tA) :: ov uP :: ov uU :: .int (nI kAt) :: .int iTo :: .int iFr :: .long JFi :: .int iFa :: .ref qm3 :: .int iSt :: .int iLv :: .int iWs :: vLa :: .ref qmu :: .ref qmy :: .ref qmb :: .ref qms :: .int iOm :: []), zzI cy qmh 8 fMh, zzI cy qmo 8 fMo, zzI cy qmz 8 fMz, zzG cy 4 qmR rR, zzJ cy (rR 0) 40 (eN 0), zzJ cy (rR 1) 40 (eN 1), zzJ cy (rR 2) 40 (eN 2), zzJ cy (rR 3) 40 (eN 3), zzJ cy (rR 4) 40 (eN 4), zzJ cy (rR 5) 40 (eN 5), zzJ cy (rR 6) 40 (eN 6), zzJ cy (rR 7) 40 (eN 7), zzJ cy qmv 40 gNv, zzI cy qmr 8 fNr] ∧ (PMcopy fMh fMo fMz eR (nI k_4) (nI k_11) (nI k_69) (nI k_71) (nI k_70) r eN) ∧ (True))) A) (List.toArray (α := Value) [.ref qm, .int (nI k_4), .int (nI k_11), .int (nI k_69), .int (nI k_71), .int (nI k_70)]) s 0 0 A) (F0 m 225 ls []) := by
                                      intro n_85
                                      induction n_85 with
                                      | zero => intro n_87 eJ_88 hm9; exact absurd hm9 (Nat.not_lt_zero _)
                                      | succ n_85 ih_86 =>
                                        intro n_87 eJ_88 hm_91 hn_89 he_90 H locs ls hP hD hS hl
                                        refine lv_iload hx hb (g_21 (v := 6) bX6_copy rfl) (lv_at hl 0 rfl) ?_
                                        refine lv_iload hx hb (g_21 (v := 5) bX6_copy rfl) (lv_at hl 6 rfl) ?_
                                        refine lv_icmp_ge (tgt := 257) hx hb dX6_copy_229 (by decide +kernel) (fun c_92 => ?_) (fun c_92 => ?_)
                                        · have hlt_93 : n_87 = k_70 := Nat.le_antisymm (by omega) (lp_ge rfl rfl (by omega) (by omega) c_92)
                                          refine lv_iload hx hb (g_21 (v := 5) bX6_copy rfl) (lv_at hl 6 rfl) ?_
                                          exact endW (u := [zzO qm 5 (.ref qmh :: .ref qmo :: .ref qmz :: .ref qmR :: .ref qmv :: .ref qmk :: .ref qma :: .ref qmt :: .int (nI kZ) :: .ref qmr :: .int (nI (T_nb tA)) :: .ref qmB :: .int (nI (T_np tA)) :: .ref qmO :: .ref qmK :: .int iEn :: .int iTk :: .int (T_sd tA) :: ov uP :: ov uU :: .int (nI kAt) :: .int iTo :: .int iFr :: .long JFi :: .int iFa :: .ref qm3 :: .int iSt :: .int iLv :: .int iWs :: vLa :: .ref qmu :: .ref qmy :: .ref qmb :: .ref qms :: .int iOm :: []), zzI cy qmh 8 fMh, zzI cy qmo 8 fMo, zzI cy qmz 8 fMz, zzG cy 4 qmR rR, zzJ cy (rR 0) 40 (eJ_88 0), zzJ cy (rR 1) 40 (eJ_88 1), zzJ cy (rR 2) 40 (eJ_88 2), zzJ cy (rR 3) 40 (eJ_88 3), zzJ cy (rR 4) 40 (eJ_88 4), zzJ cy (rR 5) 40 (eJ_88 5), zzJ cy (rR 6) 40 (eJ_88 6), zzJ cy (rR 7) 40 (eJ_88 7), zzJ cy qmv 40 gJ_78, zzI cy qmr 8 fMr]) hx hb hr hlocks rfl (pSb hP [[true, true, true, true, true, true, true, true, true, true, true, true, true, true, true]] rfl rfl) (dSb hD [[true, true, true, true, true, true, true, true, true, true, true, true, true, true, true]] (by decide +kernel) rfl rfl) hS ⟨eJ_88, gJ_78, fMr, rfl, Or.inr (Or.inr (Or.inr ⟨rfl, k_4, k_11, k_69, k_71, k_70, by omega, by omega, rfl, rfl, c_15, c_20, c_26, c_31, (fun h1 h2 => absurd h1 c_25), rfl, rfl, rfl, by omega, by omega, ⟨c_32, c_37, c_42, c_47, c_52, c_57, c_62⟩, by have := he_90; rw [hlt_93] at this; exact this⟩)), trivial⟩ (g_172 bX6_copy rfl)
                                        · have hlt_94 : n_87 < k_70 := lp_lt rfl rfl (by omega) (by omega) c_92
                                          refine lv_aload_n hx hb (g_42 bX6_copy rfl) rfl (lv_at hl 1 rfl) ?_
                                          refine va_get (D := G) (ci := 5) (v := .ref qmR) (C := RX6) (T := TX6) (N := 35) hx hb hts iX_X6 hown hK hP 0 rfl rfl 3 (by decide +kernel) (hts _ m_t853) (fun _ h9 => h9) rfl (g_180 (v := 21) bX6_copy rfl) ?_
                                          refine lv_iload_n hx hb (g_28 bX6_copy rfl) rfl (lv_at hl 3 rfl) ?_
                                          refine va_alda hx hb hK hP 4 4 rfl rfl (in_shelf h_10) (g_50 bX6_copy rfl) ?_
                                          refine lv_setv (v := .ref (rR k_11)) (g_ref (by omega)) ?_
                                          refine lv_iload hx hb (g_21 (v := 4) bX6_copy rfl) (lv_at hl 5 rfl) ?_
                                          refine lv_iload hx hb (g_21 (v := 6) bX6_copy rfl) (lv_at hl 0 rfl) ?_
                                          refine lv_iadd hx hb (g_96 bX6_copy rfl) ?_
                                          refine lv_seti (v := nI (k_71 + n_87)) (nI_add _ _) ?_
                                          refine lv_aload_n hx hb (g_42 bX6_copy rfl) rfl (lv_at hl 1 rfl) ?_
                                          refine va_get (D := G) (ci := 5) (v := .ref qmv) (C := RX6) (T := TX6) (N := 35) hx hb hts iX_X6 hown hK hP 0 rfl rfl 4 (by decide +kernel) (hts _ m_t854) (fun _ h9 => h9) rfl (g_180 (v := 24) bX6_copy rfl) ?_
                                          refine lv_iload hx hb (g_21 (v := 6) bX6_copy rfl) (lv_at hl 0 rfl) ?_
                                          refine va_lald hx hb hK hP 13 1 rfl rfl (vp_in_nI (by omega) (by omega)) (g_47 bX6_copy rfl) ?_
                                          refine lv_setl (v := gJ_78 n_87) (congrArg gJ_78 (nI_clamp (by omega))) ?_
                                          refine va_last hx hb hK hP hD hS (5 + k_11) 1 ((sg8 (n0 := 5) (f := (fun j => zzJ cy (rR j) 40 (eJ_88 j))) rfl rfl rfl rfl rfl rfl rfl rfl) k_11 (by omega)) rfl (vp_in_nI (by omega) (by omega)) (g_80 bX6_copy rfl) (fun H locs => ?_)
                                          clear hP hD hS
                                          intro hP hD hS
                                          rw [nI_clamp (n := (k_71 + n_87)) (by omega)] at hP hD
                                          have e8 := set8 (k := k_11) (ws := [zzO qm 5 (.ref qmh :: .ref qmo :: .ref qmz :: .ref qmR :: .ref qmv :: .ref qmk :: .ref qma :: .ref qmt :: .int (nI kZ) :: .ref qmr :: .int (nI (T_nb tA)) :: .ref qmB :: .int (nI (T_np tA)) :: .ref qmO :: .ref qmK :: .int iEn :: .int iTk :: .int (T_sd tA) :: ov uP :: ov uU :: .int (nI kAt) :: .int iTo :: .int iFr :: .long JFi :: .int iFa :: .ref qm3 :: .int iSt :: .int iLv :: .int iWs :: vLa :: .ref qmu :: .ref qmy :: .ref qmb :: .ref qms :: .int iOm :: []), zzI cy qmh 8 fMh, zzI cy qmo 8 fMo, zzI cy qmz 8 fMz, zzG cy 4 qmR rR, zzJ cy (rR 0) 40 (eJ_88 0), zzJ cy (rR 1) 40 (eJ_88 1), zzJ cy (rR 2) 40 (eJ_88 2), zzJ cy (rR 3) 40 (eJ_88 3), zzJ cy (rR 4) 40 (eJ_88 4), zzJ cy (rR 5) 40 (eJ_88 5), zzJ cy (rR 6) 40 (eJ_88 6), zzJ cy (rR 7) 40 (eJ_88 7), zzJ cy qmv 40 gJ_78, zzI cy qmr 8 fMr]) (ws' := [zzO qm 5 (.ref qmh :: .ref qmo :: .ref qmz :: .ref qmR :: .ref qmv :: .ref qmk :: .ref qma :: .ref qmt :: .int (nI kZ) :: .ref qmr :: .int (nI (T_nb tA)) :: .ref qmB :: .int (nI (T_np tA)) :: .ref qmO :: .ref qmK :: .int iEn :: .int iTk :: .int (T_sd tA) :: ov uP :: ov uU :: .int (nI kAt) :: .int iTo :: .int iFr :: .long JFi :: .int iFa :: .ref qm3 :: .int iSt :: .int iLv :: .int iWs :: vLa :: .ref qmu :: .ref qmy :: .ref qmb :: .ref qms :: .int iOm :: []), zzI cy qmh 8 fMh, zzI cy qmo 8 fMo, zzI cy qmz 8 fMz, zzG cy 4 qmR rR, zzJ cy (rR 0) 40 (updN eJ_88 k_11 (k_71 + n_87) (gJ_78 n_87) 0), zzJ cy (rR 1) 40 (updN eJ_88 k_11 (k_71 + n_87) (gJ_78 n_87) 1), zzJ cy (rR 2) 40 (updN eJ_88 k_11 (k_71 + n_87) (gJ_78 n_87) 2), zzJ cy (rR 3) 40 (updN eJ_88 k_11 (k_71 + n_87) (gJ_78 n_87) 3), zzJ cy (rR 4) 40 (updN eJ_88 k_11 (k_71 + n_87) (gJ_78 n_87) 4), zzJ cy (rR 5) 40 (updN eJ_88 k_11 (k_71 + n_87) (gJ_78 n_87) 5), zzJ cy (rR 6) 40 (updN eJ_88 k_11 (k_71 + n_87) (gJ_78 n_87) 6), zzJ cy (rR 7) 40 (updN eJ_88 k_11 (k_71 + n_87) (gJ_78 n_87) 7), zzJ cy qmv 40 gJ_78, zzI cy qmr 8 fMr]) (sg8 (n0 := 5) (f := (fun j => zzJ cy (rR j) 40 (eJ_88 j))) rfl rfl rfl rfl rfl rfl rfl rfl) (sg8 (n0 := 5) (f := (fun j => zzJ cy (rR j) 40 (updN eJ_88 k_11 (k_71 + n_87) (gJ_78 n_87) j))) rfl rfl rfl rfl rfl rfl rfl rfl) rfl rfl (by omega) (congrArg (zzJ cy (rR k_11) 40) un_u) (fun j hj => congrArg (zzJ cy (rR j) 40) (un_n hj))
                                          rw [e8] at hP hD
                                          clear e8
                                          have hPD := pd_as [_, _, _, _, _, zzJ cy (rR 0) 40 (updN eJ_88 k_11 (k_71 + n_87) (gJ_78 n_87) 0), zzJ cy (rR 1) 40 (updN eJ_88 k_11 (k_71 + n_87) (gJ_78 n_87) 1), zzJ cy (rR 2) 40 (updN eJ_88 k_11 (k_71 + n_87) (gJ_78 n_87) 2), zzJ cy (rR 3) 40 (updN eJ_88 k_11 (k_71 + n_87) (gJ_78 n_87) 3), zzJ cy (rR 4) 40 (updN eJ_88 k_11 (k_71 + n_87) (gJ_78 n_87) 4), zzJ cy (rR 5) 40 (updN eJ_88 k_11 (k_71 + n_87) (gJ_78 n_87) 5), zzJ cy (rR 6) 40 (updN eJ_88 k_11 (k_71 + n_87) (gJ_78 n_87) 6), zzJ cy (rR 7) 40 (updN eJ_88 k_11 (k_71 + n_87) (gJ_78 n_87) 7), zzJ cy qmv 40 gJ_78, _] hP hD rfl
                                          clear hP hD
                                          obtain ⟨hP, hD⟩ := hPD
                                          refine lv_iinc (v := nI (n_87 + 1)) (lv' := [(6, .int (nI (n_87 + 1))), (0, .ref qm), (1, .int (nI k_4)), (2, .int (nI k_11)), (3, .int (nI k_69)), (4, .int (nI k_71)), (5, .int (nI k_70))]) hx hb dX6_copy_251 hl (k := 0) rfl (nI_1 _) (by decide +kernel) rfl (fun ls => ?_)
                                          clear hl
                                          intro hl
                                          refine lv_goto (tgt := 225) hx hb dX6_copy_254 (by decide +kernel) ?_
                                          exact ih_86 (n_87 + 1) (updN eJ_88 k_11 (k_71 + n_87) (gJ_78 n_87)) (by omega) (by omega) (cp_stepN he_90 (hg_80 _ (by omega))) _ _ _ hP hD hS (lv_sub hl [0, 1, 2, 3, 4, 5, 6] rfl)
                                    exact lp_84 ((40 - 0) + 1) 0 eR (Nat.lt_succ_self _) (Nat.zero_le _) (fun s x => (if_neg (fun q => by omega)).symm) _ _ ls hP hD hS (lv_sub hl [0, 1, 2, 3, 4, 5, 6] rfl)
                                  · have hlt_95 : m_77 < k_70 := lp_lt rfl rfl (by omega) (by omega) c_82
                                    refine lv_aload_n hx hb (g_42 bX6_copy rfl) rfl (lv_at hl 1 rfl) ?_
                                    refine va_get (D := G) (ci := 5) (v := .ref qmv) (C := RX6) (T := TX6) (N := 35) hx hb hts iX_X6 hown hK hP 0 rfl rfl 4 (by decide +kernel) (hts _ m_t854) (fun _ h9 => h9) rfl (g_180 (v := 24) bX6_copy rfl) ?_
                                    refine lv_iload hx hb (g_21 (v := 6) bX6_copy rfl) (lv_at hl 0 rfl) ?_
                                    refine lv_aload_n hx hb (g_42 bX6_copy rfl) rfl (lv_at hl 1 rfl) ?_
                                    refine va_get (D := G) (ci := 5) (v := .ref qmR) (C := RX6) (T := TX6) (N := 35) hx hb hts iX_X6 hown hK hP 0 rfl rfl 3 (by decide +kernel) (hts _ m_t853) (fun _ h9 => h9) rfl (g_180 (v := 21) bX6_copy rfl) ?_
                                    refine lv_iload_n hx hb (g_27 bX6_copy rfl) rfl (lv_at hl 2 rfl) ?_
                                    refine va_alda hx hb hK hP 4 4 rfl rfl (in_shelf h_3) (g_50 bX6_copy rfl) ?_
                                    refine lv_setv (v := .ref (rR k_4)) (g_ref (by omega)) ?_
                                    refine lv_iload_n hx hb (g_29 bX6_copy rfl) rfl (lv_at hl 4 rfl) ?_
                                    refine lv_iload hx hb (g_21 (v := 6) bX6_copy rfl) (lv_at hl 0 rfl) ?_
                                    refine lv_iadd hx hb (g_96 bX6_copy rfl) ?_
                                    refine lv_seti (v := nI (k_69 + m_77)) (nI_add _ _) ?_
                                    refine va_lald hx hb hK hP (5 + k_4) 1 (sg8 (n0 := 5) (f := (fun j => zzJ cy (rR j) 40 (eR j))) rfl rfl rfl rfl rfl rfl rfl rfl k_4 (by omega)) rfl (vp_in_nI (by omega) (by omega)) (g_47 bX6_copy rfl) ?_
                                    refine lv_setl (v := eR k_4 (k_69 + m_77)) (congrArg (eR k_4) (nI_clamp (by omega))) ?_
                                    refine va_last hx hb hK hP hD hS 13 1 rfl rfl (vp_in_nI (by omega) (by omega)) (g_80 bX6_copy rfl) (fun H locs => ?_)
                                    clear hP hD hS
                                    intro hP hD hS
                                    rw [nI_clamp (n := m_77) (by omega)] at hP hD
                                    have hPD := pd_as [_, _, _, _, _, _, _, _, _, _, _, _, _, zzJ cy qmv 40 (vp_updL gJ_78 m_77 (eR k_4 (k_69 + m_77))), _] hP hD rfl
                                    clear hP hD
                                    obtain ⟨hP, hD⟩ := hPD
                                    refine lv_iinc (v := nI (m_77 + 1)) (lv' := [(6, .int (nI (m_77 + 1))), (0, .ref qm), (1, .int (nI k_4)), (2, .int (nI k_11)), (3, .int (nI k_69)), (4, .int (nI k_71)), (5, .int (nI k_70))]) hx hb dX6_copy_216 hl (k := 0) rfl (nI_1 _) (by decide +kernel) rfl (fun ls => ?_)
                                    clear hl
                                    intro hl
                                    refine lv_goto (tgt := 191) hx hb dX6_copy_219 (by decide +kernel) ?_
                                    exact ih_76 (m_77 + 1) (vp_updL gJ_78 m_77 (eR k_4 (k_69 + m_77))) (by omega) (by omega) (cp_stepL hg_80) _ _ _ hP hD hS (lv_sub hl [0, 1, 2, 3, 4, 5, 6] rfl)
                              exact lp_74 ((40 - 0) + 1) 0 gMv (Nat.lt_succ_self _) (Nat.zero_le _) (fun x h => absurd h (Nat.not_lt_zero _)) _ _ ls hP hD hS (lv_sub hl [0, 1, 2, 3, 4, 5, 6] rfl)
                            · refine lv_aload_n hx hb (g_42 bX6_copy rfl) rfl (lv_at hl 0 rfl) ?_
                              refine lv_bipush (v := (-2)) hx hb dX6_copy_182 (by decide +kernel) ?_
                              refine cVi (As := [.int (-2)]) (rest := []) (b := qm) (q := (RX6, TX6, 35)) ⟨hx, hb, hml, hown, hts⟩ (c_X6_refuse2 l G cy (s.heap).size qm (.ref qmh) (.ref qmo) (.ref qmz) (.ref qmR) (.ref qmv) (.ref qmk) (.ref qma) (.ref qmt) (.int (nI kZ)) qmr tA qmB qmO qmK iEn iTk (ov uP) (ov uU) (.int (nI kAt)) (.int iTo) (.int iFr) (.long JFi) (.int iFa) (.ref qm3) (.int iSt) iLv iWs vLa (.ref qmu) (.ref qmy) (.ref qmb) (.ref qms) (.int iOm) fMr) L_X6_91 hN hP hD hS hA [0, 14] [false, true, true, true, true, true, true, true, true, true, true, true, true, true, false] rfl (by decide +kernel) rfl 0 5 rfl rfl rfl ⟨Nat.le_of_ble_eq_true rfl, Nat.le_of_ble_eq_true rfl⟩ hl.1 (Nat.le_of_ble_eq_true rfl) (g_182 (v := 91) bX6_copy rfl) ⟨Nat.le_of_ble_eq_true rfl, Nat.le_of_ble_eq_true rfl⟩ (fun r_96 u_98 H locs h_97 => ?_)
                              clear hP hD hS
                              intro hP hD hS
                              obtain ⟨fX_99, hu9, h_97⟩ := h_97
                              have hPD := pd_eq [_, _, _, _, _, _, _, _, _, _, _, _, _, _, zzI cy qmr 8 fX_99] hP hD hu9 rfl
                              clear hP hD hu9
                              obtain ⟨hP, hD⟩ := hPD
                              subst h_97
                              exact endWs [[false, false, false, false, false, false, false, false, false, false, false, false, false, true], [true, true, true, true, true, true, true, true, true, true, true, true, true, false, true]] hx hb hr hlocks rfl hP hD rfl (by decide +kernel) hS ⟨eR, gMv, fX_99, rfl, Or.inl ⟨rfl, Or.inr ⟨k_4, k_11, by omega, by omega, rfl, rfl, c_15, c_20, c_26, c_31, (fun h1 h2 => absurd h1 c_25), (fun q => c_62 (q.2.2.2.2.2.2))⟩, rfl⟩, trivial⟩ (g_172 bX6_copy rfl)
              · refine lv_aload_n hx hb (g_42 bX6_copy rfl) rfl (lv_at hl 0 rfl) ?_
                refine lv_bipush (v := (-4)) hx hb dX6_copy_112 (by decide +kernel) ?_
                refine cVi (As := [.int (-4)]) (rest := []) (b := qm) (q := (RX6, TX6, 35)) ⟨hx, hb, hml, hown, hts⟩ (c_X6_refuse4 l G cy (s.heap).size qm (.ref qmh) (.ref qmo) (.ref qmz) (.ref qmR) (.ref qmv) (.ref qmk) (.ref qma) (.ref qmt) (.int (nI kZ)) qmr tA qmB qmO qmK iEn iTk (ov uP) (ov uU) (.int (nI kAt)) (.int iTo) (.int iFr) (.long JFi) (.int iFa) (.ref qm3) (.int iSt) iLv iWs vLa (.ref qmu) (.ref qmy) (.ref qmb) (.ref qms) (.int iOm) fMr) L_X6_91 hN hP hD hS hA [0, 14] [false, true, true, true, true, true, true, true, true, true, true, true, true, true, false] rfl (by decide +kernel) rfl 0 5 rfl rfl rfl ⟨Nat.le_of_ble_eq_true rfl, Nat.le_of_ble_eq_true rfl⟩ hl.1 (Nat.le_of_ble_eq_true rfl) (g_182 (v := 91) bX6_copy rfl) ⟨Nat.le_of_ble_eq_true rfl, Nat.le_of_ble_eq_true rfl⟩ (fun r_100 u_102 H locs h_101 => ?_)
                clear hP hD hS
                intro hP hD hS
                obtain ⟨fX_103, hu9, h_101⟩ := h_101
                have hPD := pd_eq [_, _, _, _, _, _, _, _, _, _, _, _, _, _, zzI cy qmr 8 fX_103] hP hD hu9 rfl
                clear hP hD hu9
                obtain ⟨hP, hD⟩ := hPD
                subst h_101
                exact endWs [[false, false, false, false, false, false, false, false, false, false, false, false, false, true], [true, true, true, true, true, true, true, true, true, true, true, true, true, false, true]] hx hb hr hlocks rfl hP hD rfl (by decide +kernel) hS ⟨eR, gMv, fX_103, rfl, Or.inr (Or.inr (Or.inl ⟨rfl, ⟨k_4, k_11, by omega, by omega, rfl, rfl, c_15, c_20, Or.inr c_31⟩, rfl⟩)), trivial⟩ (g_172 bX6_copy rfl)
          · refine lv_aload_n hx hb (g_42 bX6_copy rfl) rfl (lv_at hl 0 rfl) ?_
            refine va_get (D := G) (ci := 5) (v := .ref qmh) (C := RX6) (T := TX6) (N := 35) hx hb hts iX_X6 hown hK hP 0 rfl rfl 0 (by decide +kernel) (hts _ m_t850) (fun _ h9 => h9) rfl (g_180 (v := 7) bX6_copy rfl) ?_
            refine lv_iload_n hx hb (g_28 bX6_copy rfl) rfl (lv_at hl 2 rfl) ?_
            refine va_iald hx hb hK hP 1 0 rfl rfl (in_shelf h_10) (g_46 bX6_copy rfl) ?_
            refine lv_seti (v := fMh k_11) (congrArg fMh (cl8 (by omega))) ?_
            refine lv_iconst (v := 1) hx hb (g_4 bX6_copy rfl) (by decide +kernel) ?_
            refine lv_icmp_ne (tgt := 93) hx hb dX6_copy_68 (by decide +kernel) (fun c_104 => ?_) (fun c_104 => ?_)
            · refine lv_aload_n hx hb (g_42 bX6_copy rfl) rfl (lv_at hl 0 rfl) ?_
              refine va_get (D := G) (ci := 5) (v := .ref qmh) (C := RX6) (T := TX6) (N := 35) hx hb hts iX_X6 hown hK hP 0 rfl rfl 0 (by decide +kernel) (hts _ m_t850) (fun _ h9 => h9) rfl (g_180 (v := 7) bX6_copy rfl) ?_
              refine lv_iload_n hx hb (g_27 bX6_copy rfl) rfl (lv_at hl 1 rfl) ?_
              refine va_iald hx hb hK hP 1 0 rfl rfl (in_shelf h_3) (g_46 bX6_copy rfl) ?_
              refine lv_seti (v := fMh k_4) (congrArg fMh (cl8 (by omega))) ?_
              refine lv_if_eq (tgt := 111) hx hb dX6_copy_99 (by decide +kernel) (fun c_105 => ?_) (fun c_105 => ?_)
              · refine lv_aload_n hx hb (g_42 bX6_copy rfl) rfl (lv_at hl 0 rfl) ?_
                refine lv_bipush (v := (-4)) hx hb dX6_copy_112 (by decide +kernel) ?_
                refine cVi (As := [.int (-4)]) (rest := []) (b := qm) (q := (RX6, TX6, 35)) ⟨hx, hb, hml, hown, hts⟩ (c_X6_refuse4 l G cy (s.heap).size qm (.ref qmh) (.ref qmo) (.ref qmz) (.ref qmR) (.ref qmv) (.ref qmk) (.ref qma) (.ref qmt) (.int (nI kZ)) qmr tA qmB qmO qmK iEn iTk (ov uP) (ov uU) (.int (nI kAt)) (.int iTo) (.int iFr) (.long JFi) (.int iFa) (.ref qm3) (.int iSt) iLv iWs vLa (.ref qmu) (.ref qmy) (.ref qmb) (.ref qms) (.int iOm) fMr) L_X6_91 hN hP hD hS hA [0, 14] [false, true, true, true, true, true, true, true, true, true, true, true, true, true, false] rfl (by decide +kernel) rfl 0 5 rfl rfl rfl ⟨Nat.le_of_ble_eq_true rfl, Nat.le_of_ble_eq_true rfl⟩ hl.1 (Nat.le_of_ble_eq_true rfl) (g_182 (v := 91) bX6_copy rfl) ⟨Nat.le_of_ble_eq_true rfl, Nat.le_of_ble_eq_true rfl⟩ (fun r_106 u_108 H locs h_107 => ?_)
                clear hP hD hS
                intro hP hD hS
                obtain ⟨fX_109, hu9, h_107⟩ := h_107
                have hPD := pd_eq [_, _, _, _, _, _, _, _, _, _, _, _, _, _, zzI cy qmr 8 fX_109] hP hD hu9 rfl
                clear hP hD hu9
                obtain ⟨hP, hD⟩ := hPD
                subst h_107
                exact endWs [[false, false, false, false, false, false, false, false, false, false, false, false, false, true], [true, true, true, true, true, true, true, true, true, true, true, true, true, false, true]] hx hb hr hlocks rfl hP hD rfl (by decide +kernel) hS ⟨eR, gMv, fX_109, rfl, Or.inr (Or.inr (Or.inl ⟨rfl, ⟨k_4, k_11, by omega, by omega, rfl, rfl, c_15, c_20, Or.inl c_105⟩, rfl⟩)), trivial⟩ (g_172 bX6_copy rfl)
              · refine lv_aload_n hx hb (g_42 bX6_copy rfl) rfl (lv_at hl 0 rfl) ?_
                refine va_get (D := G) (ci := 5) (v := .ref qmh) (C := RX6) (T := TX6) (N := 35) hx hb hts iX_X6 hown hK hP 0 rfl rfl 0 (by decide +kernel) (hts _ m_t850) (fun _ h9 => h9) rfl (g_180 (v := 7) bX6_copy rfl) ?_
                refine lv_iload_n hx hb (g_28 bX6_copy rfl) rfl (lv_at hl 2 rfl) ?_
                refine va_iald hx hb hK hP 1 0 rfl rfl (in_shelf h_10) (g_46 bX6_copy rfl) ?_
                refine lv_seti (v := fMh k_11) (congrArg fMh (cl8 (by omega))) ?_
                refine lv_if_ne (tgt := 118) hx hb dX6_copy_108 (by decide +kernel) (fun c_110 => ?_) (fun c_110 => ?_)
                · refine lv_iload hx hb (g_21 (v := 5) bX6_copy rfl) (lv_at hl 5 rfl) ?_
                  refine lv_if_lt (tgt := 181) hx hb dX6_copy_120 (by decide +kernel) (fun c_111 => ?_) (fun c_111 => ?_)
                  · refine lv_aload_n hx hb (g_42 bX6_copy rfl) rfl (lv_at hl 0 rfl) ?_
                    refine lv_bipush (v := (-2)) hx hb dX6_copy_182 (by decide +kernel) ?_
                    refine cVi (As := [.int (-2)]) (rest := []) (b := qm) (q := (RX6, TX6, 35)) ⟨hx, hb, hml, hown, hts⟩ (c_X6_refuse2 l G cy (s.heap).size qm (.ref qmh) (.ref qmo) (.ref qmz) (.ref qmR) (.ref qmv) (.ref qmk) (.ref qma) (.ref qmt) (.int (nI kZ)) qmr tA qmB qmO qmK iEn iTk (ov uP) (ov uU) (.int (nI kAt)) (.int iTo) (.int iFr) (.long JFi) (.int iFa) (.ref qm3) (.int iSt) iLv iWs vLa (.ref qmu) (.ref qmy) (.ref qmb) (.ref qms) (.int iOm) fMr) L_X6_91 hN hP hD hS hA [0, 14] [false, true, true, true, true, true, true, true, true, true, true, true, true, true, false] rfl (by decide +kernel) rfl 0 5 rfl rfl rfl ⟨Nat.le_of_ble_eq_true rfl, Nat.le_of_ble_eq_true rfl⟩ hl.1 (Nat.le_of_ble_eq_true rfl) (g_182 (v := 91) bX6_copy rfl) ⟨Nat.le_of_ble_eq_true rfl, Nat.le_of_ble_eq_true rfl⟩ (fun r_112 u_114 H locs h_113 => ?_)
                    clear hP hD hS
                    intro hP hD hS
                    obtain ⟨fX_115, hu9, h_113⟩ := h_113
                    have hPD := pd_eq [_, _, _, _, _, _, _, _, _, _, _, _, _, _, zzI cy qmr 8 fX_115] hP hD hu9 rfl
                    clear hP hD hu9
                    obtain ⟨hP, hD⟩ := hPD
                    subst h_113
                    exact endWs [[false, false, false, false, false, false, false, false, false, false, false, false, false, true], [true, true, true, true, true, true, true, true, true, true, true, true, true, false, true]] hx hb hr hlocks rfl hP hD rfl (by decide +kernel) hS ⟨eR, gMv, fX_115, rfl, Or.inl ⟨rfl, Or.inr ⟨k_4, k_11, by omega, by omega, rfl, rfl, c_15, c_20, c_105, c_110, (fun h1 h2 => absurd h2 c_104), (fun q => q.1 c_111)⟩, rfl⟩, trivial⟩ (g_172 bX6_copy rfl)
                  · refine lv_iload_n hx hb (g_29 bX6_copy rfl) rfl (lv_at hl 3 rfl) ?_
                    refine lv_if_lt (tgt := 181) hx hb dX6_copy_124 (by decide +kernel) (fun c_116 => ?_) (fun c_116 => ?_)
                    · refine lv_aload_n hx hb (g_42 bX6_copy rfl) rfl (lv_at hl 0 rfl) ?_
                      refine lv_bipush (v := (-2)) hx hb dX6_copy_182 (by decide +kernel) ?_
                      refine cVi (As := [.int (-2)]) (rest := []) (b := qm) (q := (RX6, TX6, 35)) ⟨hx, hb, hml, hown, hts⟩ (c_X6_refuse2 l G cy (s.heap).size qm (.ref qmh) (.ref qmo) (.ref qmz) (.ref qmR) (.ref qmv) (.ref qmk) (.ref qma) (.ref qmt) (.int (nI kZ)) qmr tA qmB qmO qmK iEn iTk (ov uP) (ov uU) (.int (nI kAt)) (.int iTo) (.int iFr) (.long JFi) (.int iFa) (.ref qm3) (.int iSt) iLv iWs vLa (.ref qmu) (.ref qmy) (.ref qmb) (.ref qms) (.int iOm) fMr) L_X6_91 hN hP hD hS hA [0, 14] [false, true, true, true, true, true, true, true, true, true, true, true, true, true, false] rfl (by decide +kernel) rfl 0 5 rfl rfl rfl ⟨Nat.le_of_ble_eq_true rfl, Nat.le_of_ble_eq_true rfl⟩ hl.1 (Nat.le_of_ble_eq_true rfl) (g_182 (v := 91) bX6_copy rfl) ⟨Nat.le_of_ble_eq_true rfl, Nat.le_of_ble_eq_true rfl⟩ (fun r_117 u_119 H locs h_118 => ?_)
                      clear hP hD hS
                      intro hP hD hS
                      obtain ⟨fX_120, hu9, h_118⟩ := h_118
                      have hPD := pd_eq [_, _, _, _, _, _, _, _, _, _, _, _, _, _, zzI cy qmr 8 fX_120] hP hD hu9 rfl
                      clear hP hD hu9
                      obtain ⟨hP, hD⟩ := hPD
                      subst h_118
                      exact endWs [[false, false, false, false, false, false, false, false, false, false, false, false, false, true], [true, true, true, true, true, true, true, true, true, true, true, true, true, false, true]] hx hb hr hlocks rfl hP hD rfl (by decide +kernel) hS ⟨eR, gMv, fX_120, rfl, Or.inl ⟨rfl, Or.inr ⟨k_4, k_11, by omega, by omega, rfl, rfl, c_15, c_20, c_105, c_110, (fun h1 h2 => absurd h2 c_104), (fun q => q.2.1 c_116)⟩, rfl⟩, trivial⟩ (g_172 bX6_copy rfl)
                    · refine lv_iload hx hb (g_21 (v := 4) bX6_copy rfl) (lv_at hl 4 rfl) ?_
                      refine lv_if_lt (tgt := 181) hx hb dX6_copy_129 (by decide +kernel) (fun c_121 => ?_) (fun c_121 => ?_)
                      · refine lv_aload_n hx hb (g_42 bX6_copy rfl) rfl (lv_at hl 0 rfl) ?_
                        refine lv_bipush (v := (-2)) hx hb dX6_copy_182 (by decide +kernel) ?_
                        refine cVi (As := [.int (-2)]) (rest := []) (b := qm) (q := (RX6, TX6, 35)) ⟨hx, hb, hml, hown, hts⟩ (c_X6_refuse2 l G cy (s.heap).size qm (.ref qmh) (.ref qmo) (.ref qmz) (.ref qmR) (.ref qmv) (.ref qmk) (.ref qma) (.ref qmt) (.int (nI kZ)) qmr tA qmB qmO qmK iEn iTk (ov uP) (ov uU) (.int (nI kAt)) (.int iTo) (.int iFr) (.long JFi) (.int iFa) (.ref qm3) (.int iSt) iLv iWs vLa (.ref qmu) (.ref qmy) (.ref qmb) (.ref qms) (.int iOm) fMr) L_X6_91 hN hP hD hS hA [0, 14] [false, true, true, true, true, true, true, true, true, true, true, true, true, true, false] rfl (by decide +kernel) rfl 0 5 rfl rfl rfl ⟨Nat.le_of_ble_eq_true rfl, Nat.le_of_ble_eq_true rfl⟩ hl.1 (Nat.le_of_ble_eq_true rfl) (g_182 (v := 91) bX6_copy rfl) ⟨Nat.le_of_ble_eq_true rfl, Nat.le_of_ble_eq_true rfl⟩ (fun r_122 u_124 H locs h_123 => ?_)
                        clear hP hD hS
                        intro hP hD hS
                        obtain ⟨fX_125, hu9, h_123⟩ := h_123
                        have hPD := pd_eq [_, _, _, _, _, _, _, _, _, _, _, _, _, _, zzI cy qmr 8 fX_125] hP hD hu9 rfl
                        clear hP hD hu9
                        obtain ⟨hP, hD⟩ := hPD
                        subst h_123
                        exact endWs [[false, false, false, false, false, false, false, false, false, false, false, false, false, true], [true, true, true, true, true, true, true, true, true, true, true, true, true, false, true]] hx hb hr hlocks rfl hP hD rfl (by decide +kernel) hS ⟨eR, gMv, fX_125, rfl, Or.inl ⟨rfl, Or.inr ⟨k_4, k_11, by omega, by omega, rfl, rfl, c_15, c_20, c_105, c_110, (fun h1 h2 => absurd h2 c_104), (fun q => q.2.2.1 c_121)⟩, rfl⟩, trivial⟩ (g_172 bX6_copy rfl)
                      · refine lv_iload hx hb (g_21 (v := 5) bX6_copy rfl) (lv_at hl 5 rfl) ?_
                        refine lv_aload_n hx hb (g_42 bX6_copy rfl) rfl (lv_at hl 0 rfl) ?_
                        refine va_get (D := G) (ci := 5) (v := .ref qmz) (C := RX6) (T := TX6) (N := 35) hx hb hts iX_X6 hown hK hP 0 rfl rfl 2 (by decide +kernel) (hts _ m_t852) (fun _ h9 => h9) rfl (g_180 (v := 16) bX6_copy rfl) ?_
                        refine lv_iload_n hx hb (g_27 bX6_copy rfl) rfl (lv_at hl 1 rfl) ?_
                        refine va_iald hx hb hK hP 3 0 rfl rfl (in_shelf h_3) (g_46 bX6_copy rfl) ?_
                        refine lv_seti (v := fMz k_4) (congrArg fMz (cl8 (by omega))) ?_
                        refine lv_icmp_gt (tgt := 181) hx hb dX6_copy_140 (by decide +kernel) (fun c_126 => ?_) (fun c_126 => ?_)
                        · refine lv_aload_n hx hb (g_42 bX6_copy rfl) rfl (lv_at hl 0 rfl) ?_
                          refine lv_bipush (v := (-2)) hx hb dX6_copy_182 (by decide +kernel) ?_
                          refine cVi (As := [.int (-2)]) (rest := []) (b := qm) (q := (RX6, TX6, 35)) ⟨hx, hb, hml, hown, hts⟩ (c_X6_refuse2 l G cy (s.heap).size qm (.ref qmh) (.ref qmo) (.ref qmz) (.ref qmR) (.ref qmv) (.ref qmk) (.ref qma) (.ref qmt) (.int (nI kZ)) qmr tA qmB qmO qmK iEn iTk (ov uP) (ov uU) (.int (nI kAt)) (.int iTo) (.int iFr) (.long JFi) (.int iFa) (.ref qm3) (.int iSt) iLv iWs vLa (.ref qmu) (.ref qmy) (.ref qmb) (.ref qms) (.int iOm) fMr) L_X6_91 hN hP hD hS hA [0, 14] [false, true, true, true, true, true, true, true, true, true, true, true, true, true, false] rfl (by decide +kernel) rfl 0 5 rfl rfl rfl ⟨Nat.le_of_ble_eq_true rfl, Nat.le_of_ble_eq_true rfl⟩ hl.1 (Nat.le_of_ble_eq_true rfl) (g_182 (v := 91) bX6_copy rfl) ⟨Nat.le_of_ble_eq_true rfl, Nat.le_of_ble_eq_true rfl⟩ (fun r_127 u_129 H locs h_128 => ?_)
                          clear hP hD hS
                          intro hP hD hS
                          obtain ⟨fX_130, hu9, h_128⟩ := h_128
                          have hPD := pd_eq [_, _, _, _, _, _, _, _, _, _, _, _, _, _, zzI cy qmr 8 fX_130] hP hD hu9 rfl
                          clear hP hD hu9
                          obtain ⟨hP, hD⟩ := hPD
                          subst h_128
                          exact endWs [[false, false, false, false, false, false, false, false, false, false, false, false, false, true], [true, true, true, true, true, true, true, true, true, true, true, true, true, false, true]] hx hb hr hlocks rfl hP hD rfl (by decide +kernel) hS ⟨eR, gMv, fX_130, rfl, Or.inl ⟨rfl, Or.inr ⟨k_4, k_11, by omega, by omega, rfl, rfl, c_15, c_20, c_105, c_110, (fun h1 h2 => absurd h2 c_104), (fun q => q.2.2.2.1 c_126)⟩, rfl⟩, trivial⟩ (g_172 bX6_copy rfl)
                        · refine lv_iload hx hb (g_21 (v := 5) bX6_copy rfl) (lv_at hl 5 rfl) ?_
                          refine lv_aload_n hx hb (g_42 bX6_copy rfl) rfl (lv_at hl 0 rfl) ?_
                          refine va_get (D := G) (ci := 5) (v := .ref qmz) (C := RX6) (T := TX6) (N := 35) hx hb hts iX_X6 hown hK hP 0 rfl rfl 2 (by decide +kernel) (hts _ m_t852) (fun _ h9 => h9) rfl (g_180 (v := 16) bX6_copy rfl) ?_
                          refine lv_iload_n hx hb (g_28 bX6_copy rfl) rfl (lv_at hl 2 rfl) ?_
                          refine va_iald hx hb hK hP 3 0 rfl rfl (in_shelf h_10) (g_46 bX6_copy rfl) ?_
                          refine lv_seti (v := fMz k_11) (congrArg fMz (cl8 (by omega))) ?_
                          refine lv_icmp_gt (tgt := 181) hx hb dX6_copy_151 (by decide +kernel) (fun c_131 => ?_) (fun c_131 => ?_)
                          · refine lv_aload_n hx hb (g_42 bX6_copy rfl) rfl (lv_at hl 0 rfl) ?_
                            refine lv_bipush (v := (-2)) hx hb dX6_copy_182 (by decide +kernel) ?_
                            refine cVi (As := [.int (-2)]) (rest := []) (b := qm) (q := (RX6, TX6, 35)) ⟨hx, hb, hml, hown, hts⟩ (c_X6_refuse2 l G cy (s.heap).size qm (.ref qmh) (.ref qmo) (.ref qmz) (.ref qmR) (.ref qmv) (.ref qmk) (.ref qma) (.ref qmt) (.int (nI kZ)) qmr tA qmB qmO qmK iEn iTk (ov uP) (ov uU) (.int (nI kAt)) (.int iTo) (.int iFr) (.long JFi) (.int iFa) (.ref qm3) (.int iSt) iLv iWs vLa (.ref qmu) (.ref qmy) (.ref qmb) (.ref qms) (.int iOm) fMr) L_X6_91 hN hP hD hS hA [0, 14] [false, true, true, true, true, true, true, true, true, true, true, true, true, true, false] rfl (by decide +kernel) rfl 0 5 rfl rfl rfl ⟨Nat.le_of_ble_eq_true rfl, Nat.le_of_ble_eq_true rfl⟩ hl.1 (Nat.le_of_ble_eq_true rfl) (g_182 (v := 91) bX6_copy rfl) ⟨Nat.le_of_ble_eq_true rfl, Nat.le_of_ble_eq_true rfl⟩ (fun r_132 u_134 H locs h_133 => ?_)
                            clear hP hD hS
                            intro hP hD hS
                            obtain ⟨fX_135, hu9, h_133⟩ := h_133
                            have hPD := pd_eq [_, _, _, _, _, _, _, _, _, _, _, _, _, _, zzI cy qmr 8 fX_135] hP hD hu9 rfl
                            clear hP hD hu9
                            obtain ⟨hP, hD⟩ := hPD
                            subst h_133
                            exact endWs [[false, false, false, false, false, false, false, false, false, false, false, false, false, true], [true, true, true, true, true, true, true, true, true, true, true, true, true, false, true]] hx hb hr hlocks rfl hP hD rfl (by decide +kernel) hS ⟨eR, gMv, fX_135, rfl, Or.inl ⟨rfl, Or.inr ⟨k_4, k_11, by omega, by omega, rfl, rfl, c_15, c_20, c_105, c_110, (fun h1 h2 => absurd h2 c_104), (fun q => q.2.2.2.2.1 c_131)⟩, rfl⟩, trivial⟩ (g_172 bX6_copy rfl)
                          · refine lv_iload_n hx hb (g_29 bX6_copy rfl) rfl (lv_at hl 3 rfl) ?_
                            refine lv_aload_n hx hb (g_42 bX6_copy rfl) rfl (lv_at hl 0 rfl) ?_
                            refine va_get (D := G) (ci := 5) (v := .ref qmz) (C := RX6) (T := TX6) (N := 35) hx hb hts iX_X6 hown hK hP 0 rfl rfl 2 (by decide +kernel) (hts _ m_t852) (fun _ h9 => h9) rfl (g_180 (v := 16) bX6_copy rfl) ?_
                            refine lv_iload_n hx hb (g_27 bX6_copy rfl) rfl (lv_at hl 1 rfl) ?_
                            refine va_iald hx hb hK hP 3 0 rfl rfl (in_shelf h_3) (g_46 bX6_copy rfl) ?_
                            refine lv_seti (v := fMz k_4) (congrArg fMz (cl8 (by omega))) ?_
                            refine lv_iload hx hb (g_21 (v := 5) bX6_copy rfl) (lv_at hl 5 rfl) ?_
                            refine lv_isub hx hb (g_100 bX6_copy rfl) ?_
                            refine lv_icmp_gt (tgt := 181) hx hb dX6_copy_164 (by decide +kernel) (fun c_136 => ?_) (fun c_136 => ?_)
                            · refine lv_aload_n hx hb (g_42 bX6_copy rfl) rfl (lv_at hl 0 rfl) ?_
                              refine lv_bipush (v := (-2)) hx hb dX6_copy_182 (by decide +kernel) ?_
                              refine cVi (As := [.int (-2)]) (rest := []) (b := qm) (q := (RX6, TX6, 35)) ⟨hx, hb, hml, hown, hts⟩ (c_X6_refuse2 l G cy (s.heap).size qm (.ref qmh) (.ref qmo) (.ref qmz) (.ref qmR) (.ref qmv) (.ref qmk) (.ref qma) (.ref qmt) (.int (nI kZ)) qmr tA qmB qmO qmK iEn iTk (ov uP) (ov uU) (.int (nI kAt)) (.int iTo) (.int iFr) (.long JFi) (.int iFa) (.ref qm3) (.int iSt) iLv iWs vLa (.ref qmu) (.ref qmy) (.ref qmb) (.ref qms) (.int iOm) fMr) L_X6_91 hN hP hD hS hA [0, 14] [false, true, true, true, true, true, true, true, true, true, true, true, true, true, false] rfl (by decide +kernel) rfl 0 5 rfl rfl rfl ⟨Nat.le_of_ble_eq_true rfl, Nat.le_of_ble_eq_true rfl⟩ hl.1 (Nat.le_of_ble_eq_true rfl) (g_182 (v := 91) bX6_copy rfl) ⟨Nat.le_of_ble_eq_true rfl, Nat.le_of_ble_eq_true rfl⟩ (fun r_137 u_139 H locs h_138 => ?_)
                              clear hP hD hS
                              intro hP hD hS
                              obtain ⟨fX_140, hu9, h_138⟩ := h_138
                              have hPD := pd_eq [_, _, _, _, _, _, _, _, _, _, _, _, _, _, zzI cy qmr 8 fX_140] hP hD hu9 rfl
                              clear hP hD hu9
                              obtain ⟨hP, hD⟩ := hPD
                              subst h_138
                              exact endWs [[false, false, false, false, false, false, false, false, false, false, false, false, false, true], [true, true, true, true, true, true, true, true, true, true, true, true, true, false, true]] hx hb hr hlocks rfl hP hD rfl (by decide +kernel) hS ⟨eR, gMv, fX_140, rfl, Or.inl ⟨rfl, Or.inr ⟨k_4, k_11, by omega, by omega, rfl, rfl, c_15, c_20, c_105, c_110, (fun h1 h2 => absurd h2 c_104), (fun q => q.2.2.2.2.2.1 c_136)⟩, rfl⟩, trivial⟩ (g_172 bX6_copy rfl)
                            · refine lv_iload hx hb (g_21 (v := 4) bX6_copy rfl) (lv_at hl 4 rfl) ?_
                              refine lv_aload_n hx hb (g_42 bX6_copy rfl) rfl (lv_at hl 0 rfl) ?_
                              refine va_get (D := G) (ci := 5) (v := .ref qmz) (C := RX6) (T := TX6) (N := 35) hx hb hts iX_X6 hown hK hP 0 rfl rfl 2 (by decide +kernel) (hts _ m_t852) (fun _ h9 => h9) rfl (g_180 (v := 16) bX6_copy rfl) ?_
                              refine lv_iload_n hx hb (g_28 bX6_copy rfl) rfl (lv_at hl 2 rfl) ?_
                              refine va_iald hx hb hK hP 3 0 rfl rfl (in_shelf h_10) (g_46 bX6_copy rfl) ?_
                              refine lv_seti (v := fMz k_11) (congrArg fMz (cl8 (by omega))) ?_
                              refine lv_iload hx hb (g_21 (v := 5) bX6_copy rfl) (lv_at hl 5 rfl) ?_
                              refine lv_isub hx hb (g_100 bX6_copy rfl) ?_
                              refine lv_icmp_le (tgt := 188) hx hb dX6_copy_178 (by decide +kernel) (fun c_141 => ?_) (fun c_141 => ?_)
                              · obtain ⟨n_142, hn_143, en_144⟩ := hSz k_4 (by omega)
                                obtain ⟨n_145, hn_146, en_147⟩ := hSz k_11 (by omega)
                                obtain ⟨k_148, k_149, k_150, hk_151, hk_152, rfl, rfl, rfl⟩ := cp_of en_144 hn_143 en_147 hn_146 c_111 c_116 c_121 c_126 c_131 c_136 c_141
                                refine lv_iconst (v := 0) hx hb (g_3 bX6_copy rfl) (by decide +kernel) ?_
                                refine lv_istore (lv' := [(6, .int 0), (0, .ref qm), (1, .int (nI k_4)), (2, .int (nI k_11)), (3, .int (nI k_148)), (4, .int (nI k_150)), (5, .int (nI k_149))]) hx hb (g_54 (v := 6) bX6_copy rfl) hl (by decide +kernel) rfl (fun ls => ?_)
                                clear hl
                                intro hl
                                have lp_153 : ∀ (n_154 : Nat) (m_156 : Nat) (gJ_157 : Nat → Int64), 40 - m_156 < n_154 → m_156 ≤ k_149 → (∀ x, x < m_156 → gJ_157 x = eR k_4 (k_148 + x)) → ∀ (H : Heap) (locs : List Loc) (ls : Array Slot), va_P G CL [zzO qm 5 (.ref qmh :: .ref qmo :: .ref qmz :: .ref qmR :: .ref qmv :: .ref qmk :: .ref qma :: .ref qmt :: .int (nI kZ) :: .ref qmr :: .int (nI (T_nb tA)) :: .ref qmB :: .int (nI (T_np tA)) :: .ref qmO :: .ref qmK :: .int iEn :: .int iTk :: .int (T_sd tA) :: ov uP :: ov uU :: .int (nI kAt) :: .int iTo :: .int iFr :: .long JFi :: .int iFa :: .ref qm3 :: .int iSt :: .int iLv :: .int iWs :: vLa :: .ref qmu :: .ref qmy :: .ref qmb :: .ref qms :: .int iOm :: []), zzI cy qmh 8 fMh, zzI cy qmo 8 fMo, zzI cy qmz 8 fMz, zzG cy 4 qmR rR, zzJ cy (rR 0) 40 (eR 0), zzJ cy (rR 1) 40 (eR 1), zzJ cy (rR 2) 40 (eR 2), zzJ cy (rR 3) 40 (eR 3), zzJ cy (rR 4) 40 (eR 4), zzJ cy (rR 5) 40 (eR 5), zzJ cy (rR 6) 40 (eR 6), zzJ cy (rR 7) 40 (eR 7), zzJ cy qmv 40 gJ_157, zzI cy qmr 8 fMr] H → va_D A [zzO qm 5 (.ref qmh :: .ref qmo :: .ref qmz :: .ref qmR :: .ref qmv :: .ref qmk :: .ref qma :: .ref qmt :: .int (nI kZ) :: .ref qmr :: .int (nI (T_nb tA)) :: .ref qmB :: .int (nI (T_np tA)) :: .ref qmO :: .ref qmK :: .int iEn :: .int iTk :: .int (T_sd tA) :: ov uP :: ov uU :: .int (nI kAt) :: .int iTo :: .int iFr :: .long JFi :: .int iFa :: .ref qm3 :: .int iSt :: .int iLv :: .int iWs :: vLa :: .ref qmu :: .ref qmy :: .ref qmb :: .ref qms :: .int iOm :: []), zzI cy qmh 8 fMh, zzI cy qmo 8 fMo, zzI cy qmz 8 fMz, zzG cy 4 qmR rR, zzJ cy (rR 0) 40 (eR 0), zzJ cy (rR 1) 40 (eR 1), zzJ cy (rR 2) 40 (eR 2), zzJ cy (rR 3) 40 (eR 3), zzJ cy (rR 4) 40 (eR 4), zzJ cy (rR 5) 40 (eR 5), zzJ cy (rR 6) 40 (eR 6), zzJ cy (rR 7) 40 (eR 7), zzJ cy qmv 40 gJ_157, zzI cy qmr 8 fMr] → va_S A s.heap H locs → lv_has ls 7 [(6, .int (nI m_156)), (0, .ref qm), (1, .int (nI k_4)), (2, .int (nI k_11)), (3, .int (nI k_148)), (4, .int (nI k_150)), (5, .int (nI k_149))] → W p l e (Rm 16 0 0) s m (List.toArray (α := Value) [.ref qm, .int (nI k_4), .int (nI k_11), .int (nI k_148), .int (nI k_150), .int (nI k_149)]) below meth c H locs 0 0 (MQ below ((Wi G (fun r u => ∃ (eN : Nat → Nat → Int64) (gNv : Nat → Int64) (fNr : Nat → Int32), u = [zzO qm 5 (.ref qmh :: .ref qmo :: .ref qmz :: .ref qmR :: .ref qmv :: .ref qmk :: .ref qma :: .ref qmt :: .int (nI kZ) :: .ref qmr :: .int (nI (T_nb tA)) :: .ref qmB :: .int (nI (T_np tA)) :: .ref qmO :: .ref qmK :: .int iEn :: .int iTk :: .int (T_sd tA) :: ov uP :: ov uU :: .int (nI kAt) :: .int iTo :: .int iFr :: .long JFi :: .int iFa :: .ref qm3 :: .int iSt :: .int iLv :: .int iWs :: vLa :: .ref qmu :: .ref qmy :: .ref qmb :: .ref qms :: .int iOm :: []), zzI cy qmh 8 fMh, zzI cy qmo 8 fMo, zzI cy qmz 8 fMz, zzG cy 4 qmR rR, zzJ cy (rR 0) 40 (eN 0), zzJ cy (rR 1) 40 (eN 1), zzJ cy (rR 2) 40 (eN 2), zzJ cy (rR 3) 40 (eN 3), zzJ cy (rR 4) 40 (eN 4), zzJ cy (rR 5) 40 (eN 5), zzJ cy (rR 6) 40 (eN 6), zzJ cy (rR 7) 40 (eN 7), zzJ cy qmv 40 gNv, zzI cy qmr 8 fNr] ∧ (PMcopy fMh fMo fMz eR (nI k_4) (nI k_11) (nI k_148) (nI k_150) (nI k_149) r eN) ∧ (True))) A) (List.toArray (α := Value) [.ref qm, .int (nI k_4), .int (nI k_11), .int (nI k_148), .int (nI k_150), .int (nI k_149)]) s 0 0 A) (F0 m 191 ls []) := by
                                  intro n_154
                                  induction n_154 with
                                  | zero => intro m_156 gJ_157 hm9; exact absurd hm9 (Nat.not_lt_zero _)
                                  | succ n_154 ih_155 =>
                                    intro m_156 gJ_157 hm_160 hm_160 hg_159 H locs ls hP hD hS hl
                                    refine lv_iload hx hb (g_21 (v := 6) bX6_copy rfl) (lv_at hl 0 rfl) ?_
                                    refine lv_iload hx hb (g_21 (v := 5) bX6_copy rfl) (lv_at hl 6 rfl) ?_
                                    refine lv_icmp_ge (tgt := 222) hx hb dX6_copy_195 (by decide +kernel) (fun c_161 => ?_) (fun c_161 => ?_)
                                    · have hlt_162 : m_156 = k_149 := Nat.le_antisymm (by omega) (lp_ge rfl rfl (by omega) (by omega) c_161)
                                      refine lv_iconst (v := 0) hx hb (g_3 bX6_copy rfl) (by decide +kernel) ?_
                                      refine lv_istore (lv' := [(6, .int 0), (0, .ref qm), (1, .int (nI k_4)), (2, .int (nI k_11)), (3, .int (nI k_148)), (4, .int (nI k_150)), (5, .int (nI k_149))]) hx hb (g_54 (v := 6) bX6_copy rfl) hl (by decide +kernel) rfl (fun ls => ?_)
                                      clear hl
                                      intro hl
                                      have lp_163 : ∀ (n_164 : Nat) (n_166 : Nat) (eJ_167 : Nat → Nat → Int64), 40 - n_166 < n_164 → n_166 ≤ k_149 → (∀ s x, eJ_167 s x = if s = k_11 ∧ k_150 ≤ x ∧ x < k_150 + n_166 then eR k_4 (k_148 + (x - k_150)) else eR s x) → ∀ (H : Heap) (locs : List Loc) (ls : Array Slot), va_P G CL [zzO qm 5 (.ref qmh :: .ref qmo :: .ref qmz :: .ref qmR :: .ref qmv :: .ref qmk :: .ref qma :: .ref qmt :: .int (nI kZ) :: .ref qmr :: .int (nI (T_nb tA)) :: .ref qmB :: .int (nI (T_np tA)) :: .ref qmO :: .ref qmK :: .int iEn :: .int iTk :: .int (T_sd tA) :: ov uP :: ov uU :: .int (nI kAt) :: .int iTo :: .int iFr :: .long JFi :: .int iFa :: .ref qm3 :: .int iSt :: .int iLv :: .int iWs :: vLa :: .ref qmu :: .ref qmy :: .ref qmb :: .ref qms :: .int iOm :: []), zzI cy qmh 8 fMh, zzI cy qmo 8 fMo, zzI cy qmz 8 fMz, zzG cy 4 qmR rR, zzJ cy (rR 0) 40 (eJ_167 0), zzJ cy (rR 1) 40 (eJ_167 1), zzJ cy (rR 2) 40 (eJ_167 2), zzJ cy (rR 3) 40 (eJ_167 3), zzJ cy (rR 4) 40 (eJ_167 4), zzJ cy (rR 5) 40 (eJ_167 5), zzJ cy (rR 6) 40 (eJ_167 6), zzJ cy (rR 7) 40 (eJ_167 7), zzJ cy qmv 40 gJ_157, zzI cy qmr 8 fMr] H → va_D A [zzO qm 5 (.ref qmh :: .ref qmo :: .ref qmz :: .ref qmR :: .ref qmv :: .ref qmk :: .ref qma :: .ref qmt :: .int (nI kZ) :: .ref qmr :: .int (nI (T_nb tA)) :: .ref qmB :: .int (nI (T_np tA)) :: .ref qmO :: .ref qmK :: .int iEn :: .int iTk :: .int (T_sd tA) :: ov uP :: ov uU :: .int (nI kAt) :: .int iTo :: .int iFr :: .long JFi :: .int iFa :: .ref qm3 :: .int iSt :: .int iLv :: .int iWs :: vLa :: .ref qmu :: .ref qmy :: .ref qmb :: .ref qms :: .int iOm :: []), zzI cy qmh 8 fMh, zzI cy qmo 8 fMo, zzI cy qmz 8 fMz, zzG cy 4 qmR rR, zzJ cy (rR 0) 40 (eJ_167 0), zzJ cy (rR 1) 40 (eJ_167 1), zzJ cy (rR 2) 40 (eJ_167 2), zzJ cy (rR 3) 40 (eJ_167 3), zzJ cy (rR 4) 40 (eJ_167 4), zzJ cy (rR 5) 40 (eJ_167 5), zzJ cy (rR 6) 40 (eJ_167 6), zzJ cy (rR 7) 40 (eJ_167 7), zzJ cy qmv 40 gJ_157, zzI cy qmr 8 fMr] → va_S A s.heap H locs → lv_has ls 7 [(6, .int (nI n_166)), (0, .ref qm), (1, .int (nI k_4)), (2, .int (nI k_11)), (3, .int (nI k_148)), (4, .int (nI k_150)), (5, .int (nI k_149))] → W p l e (Rm 16 0 0) s m (List.toArray (α := Value) [.ref qm, .int (nI k_4), .int (nI k_11), .int (nI k_148), .int (nI k_150), .int (nI k_149)]) below meth c H locs 0 0 (MQ below ((Wi G (fun r u => ∃ (eN : Nat → Nat → Int64) (gNv : Nat → Int64) (fNr : Nat → Int32), u = [zzO qm 5 (.ref qmh :: .ref qmo :: .ref qmz :: .ref qmR :: .ref qmv :: .ref qmk :: .ref qma :: .ref qmt :: .int (nI kZ) :: .ref qmr :: .int (nI (T_nb tA)) :: .ref qmB :: .int (nI (T_np tA)) :: .ref qmO :: .ref qmK :: .int iEn :: .int iTk :: .int (T_sd tA) :: ov uP :: ov uU :: .int (nI kAt) :: .int iTo :: .int iFr :: .long JFi :: .int iFa :: .ref qm3 :: .int iSt :: .int iLv :: .int iWs :: vLa :: .ref qmu :: .ref qmy :: .ref qmb :: .ref qms :: .int iOm :: []), zzI cy qmh 8 fMh, zzI cy qmo 8 fMo, zzI cy qmz 8 fMz, zzG cy 4 qmR rR, zzJ cy (rR 0) 40 (eN 0), zzJ cy (rR 1) 40 (eN 1), zzJ cy (rR 2) 40 (eN 2), zzJ cy (rR 3) 40 (eN 3), zzJ cy (rR 4) 40 (eN 4), zzJ cy (rR 5) 40 (eN 5), zzJ cy (rR 6) 40 (eN 6), zzJ cy (rR 7) 40 (eN 7), zzJ cy qmv 40 gNv, zzI cy qmr 8 fNr] ∧ (PMcopy fMh fMo fMz eR (nI k_4) (nI k_11) (nI k_148) (nI k_150) (nI k_149) r eN) ∧ (True))) A) (List.toArray (α := Value) [.ref qm, .int (nI k_4), .int (nI k_11), .int (nI k_148), .int (nI k_150), .int (nI k_149)]) s 0 0 A) (F0 m 225 ls []) := by
                                        intro n_164
                                        induction n_164 with
                                        | zero => intro n_166 eJ_167 hm9; exact absurd hm9 (Nat.not_lt_zero _)
                                        | succ n_164 ih_165 =>
                                          intro n_166 eJ_167 hm_170 hn_168 he_169 H locs ls hP hD hS hl
                                          refine lv_iload hx hb (g_21 (v := 6) bX6_copy rfl) (lv_at hl 0 rfl) ?_
                                          refine lv_iload hx hb (g_21 (v := 5) bX6_copy rfl) (lv_at hl 6 rfl) ?_
                                          refine lv_icmp_ge (tgt := 257) hx hb dX6_copy_229 (by decide +kernel) (fun c_171 => ?_) (fun c_171 => ?_)
                                          · have hlt_172 : n_166 = k_149 := Nat.le_antisymm (by omega) (lp_ge rfl rfl (by omega) (by omega) c_171)
                                            refine lv_iload hx hb (g_21 (v := 5) bX6_copy rfl) (lv_at hl 6 rfl) ?_
                                            exact endW (u := [zzO qm 5 (.ref qmh :: .ref qmo :: .ref qmz :: .ref qmR :: .ref qmv :: .ref qmk :: .ref qma :: .ref qmt :: .int (nI kZ) :: .ref qmr :: .int (nI (T_nb tA)) :: .ref qmB :: .int (nI (T_np tA)) :: .ref qmO :: .ref qmK :: .int iEn :: .int iTk :: .int (T_sd tA) :: ov uP :: ov uU :: .int (nI kAt) :: .int iTo :: .int iFr :: .long JFi :: .int iFa :: .ref qm3 :: .int iSt :: .int iLv :: .int iWs :: vLa :: .ref qmu :: .ref qmy :: .ref qmb :: .ref qms :: .int iOm :: []), zzI cy qmh 8 fMh, zzI cy qmo 8 fMo, zzI cy qmz 8 fMz, zzG cy 4 qmR rR, zzJ cy (rR 0) 40 (eJ_167 0), zzJ cy (rR 1) 40 (eJ_167 1), zzJ cy (rR 2) 40 (eJ_167 2), zzJ cy (rR 3) 40 (eJ_167 3), zzJ cy (rR 4) 40 (eJ_167 4), zzJ cy (rR 5) 40 (eJ_167 5), zzJ cy (rR 6) 40 (eJ_167 6), zzJ cy (rR 7) 40 (eJ_167 7), zzJ cy qmv 40 gJ_157, zzI cy qmr 8 fMr]) hx hb hr hlocks rfl (pSb hP [[true, true, true, true, true, true, true, true, true, true, true, true, true, true, true]] rfl rfl) (dSb hD [[true, true, true, true, true, true, true, true, true, true, true, true, true, true, true]] (by decide +kernel) rfl rfl) hS ⟨eJ_167, gJ_157, fMr, rfl, Or.inr (Or.inr (Or.inr ⟨rfl, k_4, k_11, k_148, k_150, k_149, by omega, by omega, rfl, rfl, c_15, c_20, c_105, c_110, (fun h1 h2 => absurd h2 c_104), rfl, rfl, rfl, by omega, by omega, ⟨c_111, c_116, c_121, c_126, c_131, c_136, c_141⟩, by have := he_169; rw [hlt_172] at this; exact this⟩)), trivial⟩ (g_172 bX6_copy rfl)
                                          · have hlt_173 : n_166 < k_149 := lp_lt rfl rfl (by omega) (by omega) c_171
                                            refine lv_aload_n hx hb (g_42 bX6_copy rfl) rfl (lv_at hl 1 rfl) ?_
                                            refine va_get (D := G) (ci := 5) (v := .ref qmR) (C := RX6) (T := TX6) (N := 35) hx hb hts iX_X6 hown hK hP 0 rfl rfl 3 (by decide +kernel) (hts _ m_t853) (fun _ h9 => h9) rfl (g_180 (v := 21) bX6_copy rfl) ?_
                                            refine lv_iload_n hx hb (g_28 bX6_copy rfl) rfl (lv_at hl 3 rfl) ?_
                                            refine va_alda hx hb hK hP 4 4 rfl rfl (in_shelf h_10) (g_50 bX6_copy rfl) ?_
                                            refine lv_setv (v := .ref (rR k_11)) (g_ref (by omega)) ?_
                                            refine lv_iload hx hb (g_21 (v := 4) bX6_copy rfl) (lv_at hl 5 rfl) ?_
                                            refine lv_iload hx hb (g_21 (v := 6) bX6_copy rfl) (lv_at hl 0 rfl) ?_
                                            refine lv_iadd hx hb (g_96 bX6_copy rfl) ?_
                                            refine lv_seti (v := nI (k_150 + n_166)) (nI_add _ _) ?_
                                            refine lv_aload_n hx hb (g_42 bX6_copy rfl) rfl (lv_at hl 1 rfl) ?_
                                            refine va_get (D := G) (ci := 5) (v := .ref qmv) (C := RX6) (T := TX6) (N := 35) hx hb hts iX_X6 hown hK hP 0 rfl rfl 4 (by decide +kernel) (hts _ m_t854) (fun _ h9 => h9) rfl (g_180 (v := 24) bX6_copy rfl) ?_
                                            refine lv_iload hx hb (g_21 (v := 6) bX6_copy rfl) (lv_at hl 0 rfl) ?_
                                            refine va_lald hx hb hK hP 13 1 rfl rfl (vp_in_nI (by omega) (by omega)) (g_47 bX6_copy rfl) ?_
                                            refine lv_setl (v := gJ_157 n_166) (congrArg gJ_157 (nI_clamp (by omega))) ?_
                                            refine va_last hx hb hK hP hD hS (5 + k_11) 1 ((sg8 (n0 := 5) (f := (fun j => zzJ cy (rR j) 40 (eJ_167 j))) rfl rfl rfl rfl rfl rfl rfl rfl) k_11 (by omega)) rfl (vp_in_nI (by omega) (by omega)) (g_80 bX6_copy rfl) (fun H locs => ?_)
                                            clear hP hD hS
                                            intro hP hD hS
                                            rw [nI_clamp (n := (k_150 + n_166)) (by omega)] at hP hD
                                            have e8 := set8 (k := k_11) (ws := [zzO qm 5 (.ref qmh :: .ref qmo :: .ref qmz :: .ref qmR :: .ref qmv :: .ref qmk :: .ref qma :: .ref qmt :: .int (nI kZ) :: .ref qmr :: .int (nI (T_nb tA)) :: .ref qmB :: .int (nI (T_np tA)) :: .ref qmO :: .ref qmK :: .int iEn :: .int iTk :: .int (T_sd tA) :: ov uP :: ov uU :: .int (nI kAt) :: .int iTo :: .int iFr :: .long JFi :: .int iFa :: .ref qm3 :: .int iSt :: .int iLv :: .int iWs :: vLa :: .ref qmu :: .ref qmy :: .ref qmb :: .ref qms :: .int iOm :: []), zzI cy qmh 8 fMh, zzI cy qmo 8 fMo, zzI cy qmz 8 fMz, zzG cy 4 qmR rR, zzJ cy (rR 0) 40 (eJ_167 0), zzJ cy (rR 1) 40 (eJ_167 1), zzJ cy (rR 2) 40 (eJ_167 2), zzJ cy (rR 3) 40 (eJ_167 3), zzJ cy (rR 4) 40 (eJ_167 4), zzJ cy (rR 5) 40 (eJ_167 5), zzJ cy (rR 6) 40 (eJ_167 6), zzJ cy (rR 7) 40 (eJ_167 7), zzJ cy qmv 40 gJ_157, zzI cy qmr 8 fMr]) (ws' := [zzO qm 5 (.ref qmh :: .ref qmo :: .ref qmz :: .ref qmR :: .ref qmv :: .ref qmk :: .ref qma :: .ref qmt :: .int (nI kZ) :: .ref qmr :: .int (nI (T_nb tA)) :: .ref qmB :: .int (nI (T_np tA)) :: .ref qmO :: .ref qmK :: .int iEn :: .int iTk :: .int (T_sd tA) :: ov uP :: ov uU :: .int (nI kAt) :: .int iTo :: .int iFr :: .long JFi :: .int iFa :: .ref qm3 :: .int iSt :: .int iLv :: .int iWs :: vLa :: .ref qmu :: .ref qmy :: .ref qmb :: .ref qms :: .int iOm :: []), zzI cy qmh 8 fMh, zzI cy qmo 8 fMo, zzI cy qmz 8 fMz, zzG cy 4 qmR rR, zzJ cy (rR 0) 40 (updN eJ_167 k_11 (k_150 + n_166) (gJ_157 n_166) 0), zzJ cy (rR 1) 40 (updN eJ_167 k_11 (k_150 + n_166) (gJ_157 n_166) 1), zzJ cy (rR 2) 40 (updN eJ_167 k_11 (k_150 + n_166) (gJ_157 n_166) 2), zzJ cy (rR 3) 40 (updN eJ_167 k_11 (k_150 + n_166) (gJ_157 n_166) 3), zzJ cy (rR 4) 40 (updN eJ_167 k_11 (k_150 + n_166) (gJ_157 n_166) 4), zzJ cy (rR 5) 40 (updN eJ_167 k_11 (k_150 + n_166) (gJ_157 n_166) 5), zzJ cy (rR 6) 40 (updN eJ_167 k_11 (k_150 + n_166) (gJ_157 n_166) 6), zzJ cy (rR 7) 40 (updN eJ_167 k_11 (k_150 + n_166) (gJ_157 n_166) 7), zzJ cy qmv 40 gJ_157, zzI cy qmr 8 fMr]) (sg8 (n0 := 5) (f := (fun j => zzJ cy (rR j) 40 (eJ_167 j))) rfl rfl rfl rfl rfl rfl rfl rfl) (sg8 (n0 := 5) (f := (fun j => zzJ cy (rR j) 40 (updN eJ_167 k_11 (k_150 + n_166) (gJ_157 n_166) j))) rfl rfl rfl rfl rfl rfl rfl rfl) rfl rfl (by omega) (congrArg (zzJ cy (rR k_11) 40) un_u) (fun j hj => congrArg (zzJ cy (rR j) 40) (un_n hj))
                                            rw [e8] at hP hD
                                            clear e8
                                            have hPD := pd_as [_, _, _, _, _, zzJ cy (rR 0) 40 (updN eJ_167 k_11 (k_150 + n_166) (gJ_157 n_166) 0), zzJ cy (rR 1) 40 (updN eJ_167 k_11 (k_150 + n_166) (gJ_157 n_166) 1), zzJ cy (rR 2) 40 (updN eJ_167 k_11 (k_150 + n_166) (gJ_157 n_166) 2), zzJ cy (rR 3) 40 (updN eJ_167 k_11 (k_150 + n_166) (gJ_157 n_166) 3), zzJ cy (rR 4) 40 (updN eJ_167 k_11 (k_150 + n_166) (gJ_157 n_166) 4), zzJ cy (rR 5) 40 (updN eJ_167 k_11 (k_150 + n_166) (gJ_157 n_166) 5), zzJ cy (rR 6) 40 (updN eJ_167 k_11 (k_150 + n_166) (gJ_157 n_166) 6), zzJ cy (rR 7) 40 (updN eJ_167 k_11 (k_150 + n_166) (gJ_157 n_166) 7), zzJ cy qmv 40 gJ_157, _] hP hD rfl
                                            clear hP hD
                                            obtain ⟨hP, hD⟩ := hPD
                                            refine lv_iinc (v := nI (n_166 + 1)) (lv' := [(6, .int (nI (n_166 + 1))), (0, .ref qm), (1, .int (nI k_4)), (2, .int (nI k_11)), (3, .int (nI k_148)), (4, .int (nI k_150)), (5, .int (nI k_149))]) hx hb dX6_copy_251 hl (k := 0) rfl (nI_1 _) (by decide +kernel) rfl (fun ls => ?_)
                                            clear hl
                                            intro hl
                                            refine lv_goto (tgt := 225) hx hb dX6_copy_254 (by decide +kernel) ?_
                                            exact ih_165 (n_166 + 1) (updN eJ_167 k_11 (k_150 + n_166) (gJ_157 n_166)) (by omega) (by omega) (cp_stepN he_169 (hg_159 _ (by omega))) _ _ _ hP hD hS (lv_sub hl [0, 1, 2, 3, 4, 5, 6] rfl)
                                      exact lp_163 ((40 - 0) + 1) 0 eR (Nat.lt_succ_self _) (Nat.zero_le _) (fun s x => (if_neg (fun q => by omega)).symm) _ _ ls hP hD hS (lv_sub hl [0, 1, 2, 3, 4, 5, 6] rfl)
                                    · have hlt_174 : m_156 < k_149 := lp_lt rfl rfl (by omega) (by omega) c_161
                                      refine lv_aload_n hx hb (g_42 bX6_copy rfl) rfl (lv_at hl 1 rfl) ?_
                                      refine va_get (D := G) (ci := 5) (v := .ref qmv) (C := RX6) (T := TX6) (N := 35) hx hb hts iX_X6 hown hK hP 0 rfl rfl 4 (by decide +kernel) (hts _ m_t854) (fun _ h9 => h9) rfl (g_180 (v := 24) bX6_copy rfl) ?_
                                      refine lv_iload hx hb (g_21 (v := 6) bX6_copy rfl) (lv_at hl 0 rfl) ?_
                                      refine lv_aload_n hx hb (g_42 bX6_copy rfl) rfl (lv_at hl 1 rfl) ?_
                                      refine va_get (D := G) (ci := 5) (v := .ref qmR) (C := RX6) (T := TX6) (N := 35) hx hb hts iX_X6 hown hK hP 0 rfl rfl 3 (by decide +kernel) (hts _ m_t853) (fun _ h9 => h9) rfl (g_180 (v := 21) bX6_copy rfl) ?_
                                      refine lv_iload_n hx hb (g_27 bX6_copy rfl) rfl (lv_at hl 2 rfl) ?_
                                      refine va_alda hx hb hK hP 4 4 rfl rfl (in_shelf h_3) (g_50 bX6_copy rfl) ?_
                                      refine lv_setv (v := .ref (rR k_4)) (g_ref (by omega)) ?_
                                      refine lv_iload_n hx hb (g_29 bX6_copy rfl) rfl (lv_at hl 4 rfl) ?_
                                      refine lv_iload hx hb (g_21 (v := 6) bX6_copy rfl) (lv_at hl 0 rfl) ?_
                                      refine lv_iadd hx hb (g_96 bX6_copy rfl) ?_
                                      refine lv_seti (v := nI (k_148 + m_156)) (nI_add _ _) ?_
                                      refine va_lald hx hb hK hP (5 + k_4) 1 (sg8 (n0 := 5) (f := (fun j => zzJ cy (rR j) 40 (eR j))) rfl rfl rfl rfl rfl rfl rfl rfl k_4 (by omega)) rfl (vp_in_nI (by omega) (by omega)) (g_47 bX6_copy rfl) ?_
                                      refine lv_setl (v := eR k_4 (k_148 + m_156)) (congrArg (eR k_4) (nI_clamp (by omega))) ?_
                                      refine va_last hx hb hK hP hD hS 13 1 rfl rfl (vp_in_nI (by omega) (by omega)) (g_80 bX6_copy rfl) (fun H locs => ?_)
                                      clear hP hD hS
                                      intro hP hD hS
                                      rw [nI_clamp (n := m_156) (by omega)] at hP hD
                                      have hPD := pd_as [_, _, _, _, _, _, _, _, _, _, _, _, _, zzJ cy qmv 40 (vp_updL gJ_157 m_156 (eR k_4 (k_148 + m_156))), _] hP hD rfl
                                      clear hP hD
                                      obtain ⟨hP, hD⟩ := hPD
                                      refine lv_iinc (v := nI (m_156 + 1)) (lv' := [(6, .int (nI (m_156 + 1))), (0, .ref qm), (1, .int (nI k_4)), (2, .int (nI k_11)), (3, .int (nI k_148)), (4, .int (nI k_150)), (5, .int (nI k_149))]) hx hb dX6_copy_216 hl (k := 0) rfl (nI_1 _) (by decide +kernel) rfl (fun ls => ?_)
                                      clear hl
                                      intro hl
                                      refine lv_goto (tgt := 191) hx hb dX6_copy_219 (by decide +kernel) ?_
                                      exact ih_155 (m_156 + 1) (vp_updL gJ_157 m_156 (eR k_4 (k_148 + m_156))) (by omega) (by omega) (cp_stepL hg_159) _ _ _ hP hD hS (lv_sub hl [0, 1, 2, 3, 4, 5, 6] rfl)
                                exact lp_153 ((40 - 0) + 1) 0 gMv (Nat.lt_succ_self _) (Nat.zero_le _) (fun x h => absurd h (Nat.not_lt_zero _)) _ _ ls hP hD hS (lv_sub hl [0, 1, 2, 3, 4, 5, 6] rfl)
                              · refine lv_aload_n hx hb (g_42 bX6_copy rfl) rfl (lv_at hl 0 rfl) ?_
                                refine lv_bipush (v := (-2)) hx hb dX6_copy_182 (by decide +kernel) ?_
                                refine cVi (As := [.int (-2)]) (rest := []) (b := qm) (q := (RX6, TX6, 35)) ⟨hx, hb, hml, hown, hts⟩ (c_X6_refuse2 l G cy (s.heap).size qm (.ref qmh) (.ref qmo) (.ref qmz) (.ref qmR) (.ref qmv) (.ref qmk) (.ref qma) (.ref qmt) (.int (nI kZ)) qmr tA qmB qmO qmK iEn iTk (ov uP) (ov uU) (.int (nI kAt)) (.int iTo) (.int iFr) (.long JFi) (.int iFa) (.ref qm3) (.int iSt) iLv iWs vLa (.ref qmu) (.ref qmy) (.ref qmb) (.ref qms) (.int iOm) fMr) L_X6_91 hN hP hD hS hA [0, 14] [false, true, true, true, true, true, true, true, true, true, true, true, true, true, false] rfl (by decide +kernel) rfl 0 5 rfl rfl rfl ⟨Nat.le_of_ble_eq_true rfl, Nat.le_of_ble_eq_true rfl⟩ hl.1 (Nat.le_of_ble_eq_true rfl) (g_182 (v := 91) bX6_copy rfl) ⟨Nat.le_of_ble_eq_true rfl, Nat.le_of_ble_eq_true rfl⟩ (fun r_175 u_177 H locs h_176 => ?_)
                                clear hP hD hS
                                intro hP hD hS
                                obtain ⟨fX_178, hu9, h_176⟩ := h_176
                                have hPD := pd_eq [_, _, _, _, _, _, _, _, _, _, _, _, _, _, zzI cy qmr 8 fX_178] hP hD hu9 rfl
                                clear hP hD hu9
                                obtain ⟨hP, hD⟩ := hPD
                                subst h_176
                                exact endWs [[false, false, false, false, false, false, false, false, false, false, false, false, false, true], [true, true, true, true, true, true, true, true, true, true, true, true, true, false, true]] hx hb hr hlocks rfl hP hD rfl (by decide +kernel) hS ⟨eR, gMv, fX_178, rfl, Or.inl ⟨rfl, Or.inr ⟨k_4, k_11, by omega, by omega, rfl, rfl, c_15, c_20, c_105, c_110, (fun h1 h2 => absurd h2 c_104), (fun q => c_141 (q.2.2.2.2.2.2))⟩, rfl⟩, trivial⟩ (g_172 bX6_copy rfl)
                · refine lv_aload_n hx hb (g_42 bX6_copy rfl) rfl (lv_at hl 0 rfl) ?_
                  refine lv_bipush (v := (-4)) hx hb dX6_copy_112 (by decide +kernel) ?_
                  refine cVi (As := [.int (-4)]) (rest := []) (b := qm) (q := (RX6, TX6, 35)) ⟨hx, hb, hml, hown, hts⟩ (c_X6_refuse4 l G cy (s.heap).size qm (.ref qmh) (.ref qmo) (.ref qmz) (.ref qmR) (.ref qmv) (.ref qmk) (.ref qma) (.ref qmt) (.int (nI kZ)) qmr tA qmB qmO qmK iEn iTk (ov uP) (ov uU) (.int (nI kAt)) (.int iTo) (.int iFr) (.long JFi) (.int iFa) (.ref qm3) (.int iSt) iLv iWs vLa (.ref qmu) (.ref qmy) (.ref qmb) (.ref qms) (.int iOm) fMr) L_X6_91 hN hP hD hS hA [0, 14] [false, true, true, true, true, true, true, true, true, true, true, true, true, true, false] rfl (by decide +kernel) rfl 0 5 rfl rfl rfl ⟨Nat.le_of_ble_eq_true rfl, Nat.le_of_ble_eq_true rfl⟩ hl.1 (Nat.le_of_ble_eq_true rfl) (g_182 (v := 91) bX6_copy rfl) ⟨Nat.le_of_ble_eq_true rfl, Nat.le_of_ble_eq_true rfl⟩ (fun r_179 u_181 H locs h_180 => ?_)
                  clear hP hD hS
                  intro hP hD hS
                  obtain ⟨fX_182, hu9, h_180⟩ := h_180
                  have hPD := pd_eq [_, _, _, _, _, _, _, _, _, _, _, _, _, _, zzI cy qmr 8 fX_182] hP hD hu9 rfl
                  clear hP hD hu9
                  obtain ⟨hP, hD⟩ := hPD
                  subst h_180
                  exact endWs [[false, false, false, false, false, false, false, false, false, false, false, false, false, true], [true, true, true, true, true, true, true, true, true, true, true, true, true, false, true]] hx hb hr hlocks rfl hP hD rfl (by decide +kernel) hS ⟨eR, gMv, fX_182, rfl, Or.inr (Or.inr (Or.inl ⟨rfl, ⟨k_4, k_11, by omega, by omega, rfl, rfl, c_15, c_20, Or.inr c_110⟩, rfl⟩)), trivial⟩ (g_172 bX6_copy rfl)
            · refine lv_aload_n hx hb (g_42 bX6_copy rfl) rfl (lv_at hl 0 rfl) ?_
              refine va_get (D := G) (ci := 5) (v := .ref qmo) (C := RX6) (T := TX6) (N := 35) hx hb hts iX_X6 hown hK hP 0 rfl rfl 1 (by decide +kernel) (hts _ m_t851) (fun _ h9 => h9) rfl (g_180 (v := 13) bX6_copy rfl) ?_
              refine lv_iload_n hx hb (g_27 bX6_copy rfl) rfl (lv_at hl 1 rfl) ?_
              refine va_iald hx hb hK hP 2 0 rfl rfl (in_shelf h_3) (g_46 bX6_copy rfl) ?_
              refine lv_seti (v := fMo k_4) (congrArg fMo (cl8 (by omega))) ?_
              refine lv_aload_n hx hb (g_42 bX6_copy rfl) rfl (lv_at hl 0 rfl) ?_
              refine va_get (D := G) (ci := 5) (v := .ref qmo) (C := RX6) (T := TX6) (N := 35) hx hb hts iX_X6 hown hK hP 0 rfl rfl 1 (by decide +kernel) (hts _ m_t851) (fun _ h9 => h9) rfl (g_180 (v := 13) bX6_copy rfl) ?_
              refine lv_iload_n hx hb (g_28 bX6_copy rfl) rfl (lv_at hl 2 rfl) ?_
              refine va_iald hx hb hK hP 2 0 rfl rfl (in_shelf h_10) (g_46 bX6_copy rfl) ?_
              refine lv_seti (v := fMo k_11) (congrArg fMo (cl8 (by omega))) ?_
              refine lv_icmp_eq (tgt := 93) hx hb dX6_copy_83 (by decide +kernel) (fun c_183 => ?_) (fun c_183 => ?_)
              · refine lv_aload_n hx hb (g_42 bX6_copy rfl) rfl (lv_at hl 0 rfl) ?_
                refine va_get (D := G) (ci := 5) (v := .ref qmh) (C := RX6) (T := TX6) (N := 35) hx hb hts iX_X6 hown hK hP 0 rfl rfl 0 (by decide +kernel) (hts _ m_t850) (fun _ h9 => h9) rfl (g_180 (v := 7) bX6_copy rfl) ?_
                refine lv_iload_n hx hb (g_27 bX6_copy rfl) rfl (lv_at hl 1 rfl) ?_
                refine va_iald hx hb hK hP 1 0 rfl rfl (in_shelf h_3) (g_46 bX6_copy rfl) ?_
                refine lv_seti (v := fMh k_4) (congrArg fMh (cl8 (by omega))) ?_
                refine lv_if_eq (tgt := 111) hx hb dX6_copy_99 (by decide +kernel) (fun c_184 => ?_) (fun c_184 => ?_)
                · refine lv_aload_n hx hb (g_42 bX6_copy rfl) rfl (lv_at hl 0 rfl) ?_
                  refine lv_bipush (v := (-4)) hx hb dX6_copy_112 (by decide +kernel) ?_
                  refine cVi (As := [.int (-4)]) (rest := []) (b := qm) (q := (RX6, TX6, 35)) ⟨hx, hb, hml, hown, hts⟩ (c_X6_refuse4 l G cy (s.heap).size qm (.ref qmh) (.ref qmo) (.ref qmz) (.ref qmR) (.ref qmv) (.ref qmk) (.ref qma) (.ref qmt) (.int (nI kZ)) qmr tA qmB qmO qmK iEn iTk (ov uP) (ov uU) (.int (nI kAt)) (.int iTo) (.int iFr) (.long JFi) (.int iFa) (.ref qm3) (.int iSt) iLv iWs vLa (.ref qmu) (.ref qmy) (.ref qmb) (.ref qms) (.int iOm) fMr) L_X6_91 hN hP hD hS hA [0, 14] [false, true, true, true, true, true, true, true, true, true, true, true, true, true, false] rfl (by decide +kernel) rfl 0 5 rfl rfl rfl ⟨Nat.le_of_ble_eq_true rfl, Nat.le_of_ble_eq_true rfl⟩ hl.1 (Nat.le_of_ble_eq_true rfl) (g_182 (v := 91) bX6_copy rfl) ⟨Nat.le_of_ble_eq_true rfl, Nat.le_of_ble_eq_true rfl⟩ (fun r_185 u_187 H locs h_186 => ?_)
                  clear hP hD hS
                  intro hP hD hS
                  obtain ⟨fX_188, hu9, h_186⟩ := h_186
                  have hPD := pd_eq [_, _, _, _, _, _, _, _, _, _, _, _, _, _, zzI cy qmr 8 fX_188] hP hD hu9 rfl
                  clear hP hD hu9
                  obtain ⟨hP, hD⟩ := hPD
                  subst h_186
                  exact endWs [[false, false, false, false, false, false, false, false, false, false, false, false, false, true], [true, true, true, true, true, true, true, true, true, true, true, true, true, false, true]] hx hb hr hlocks rfl hP hD rfl (by decide +kernel) hS ⟨eR, gMv, fX_188, rfl, Or.inr (Or.inr (Or.inl ⟨rfl, ⟨k_4, k_11, by omega, by omega, rfl, rfl, c_15, c_20, Or.inl c_184⟩, rfl⟩)), trivial⟩ (g_172 bX6_copy rfl)
                · refine lv_aload_n hx hb (g_42 bX6_copy rfl) rfl (lv_at hl 0 rfl) ?_
                  refine va_get (D := G) (ci := 5) (v := .ref qmh) (C := RX6) (T := TX6) (N := 35) hx hb hts iX_X6 hown hK hP 0 rfl rfl 0 (by decide +kernel) (hts _ m_t850) (fun _ h9 => h9) rfl (g_180 (v := 7) bX6_copy rfl) ?_
                  refine lv_iload_n hx hb (g_28 bX6_copy rfl) rfl (lv_at hl 2 rfl) ?_
                  refine va_iald hx hb hK hP 1 0 rfl rfl (in_shelf h_10) (g_46 bX6_copy rfl) ?_
                  refine lv_seti (v := fMh k_11) (congrArg fMh (cl8 (by omega))) ?_
                  refine lv_if_ne (tgt := 118) hx hb dX6_copy_108 (by decide +kernel) (fun c_189 => ?_) (fun c_189 => ?_)
                  · refine lv_iload hx hb (g_21 (v := 5) bX6_copy rfl) (lv_at hl 5 rfl) ?_
                    refine lv_if_lt (tgt := 181) hx hb dX6_copy_120 (by decide +kernel) (fun c_190 => ?_) (fun c_190 => ?_)
                    · refine lv_aload_n hx hb (g_42 bX6_copy rfl) rfl (lv_at hl 0 rfl) ?_
                      refine lv_bipush (v := (-2)) hx hb dX6_copy_182 (by decide +kernel) ?_
                      refine cVi (As := [.int (-2)]) (rest := []) (b := qm) (q := (RX6, TX6, 35)) ⟨hx, hb, hml, hown, hts⟩ (c_X6_refuse2 l G cy (s.heap).size qm (.ref qmh) (.ref qmo) (.ref qmz) (.ref qmR) (.ref qmv) (.ref qmk) (.ref qma) (.ref qmt) (.int (nI kZ)) qmr tA qmB qmO qmK iEn iTk (ov uP) (ov uU) (.int (nI kAt)) (.int iTo) (.int iFr) (.long JFi) (.int iFa) (.ref qm3) (.int iSt) iLv iWs vLa (.ref qmu) (.ref qmy) (.ref qmb) (.ref qms) (.int iOm) fMr) L_X6_91 hN hP hD hS hA [0, 14] [false, true, true, true, true, true, true, true, true, true, true, true, true, true, false] rfl (by decide +kernel) rfl 0 5 rfl rfl rfl ⟨Nat.le_of_ble_eq_true rfl, Nat.le_of_ble_eq_true rfl⟩ hl.1 (Nat.le_of_ble_eq_true rfl) (g_182 (v := 91) bX6_copy rfl) ⟨Nat.le_of_ble_eq_true rfl, Nat.le_of_ble_eq_true rfl⟩ (fun r_191 u_193 H locs h_192 => ?_)
                      clear hP hD hS
                      intro hP hD hS
                      obtain ⟨fX_194, hu9, h_192⟩ := h_192
                      have hPD := pd_eq [_, _, _, _, _, _, _, _, _, _, _, _, _, _, zzI cy qmr 8 fX_194] hP hD hu9 rfl
                      clear hP hD hu9
                      obtain ⟨hP, hD⟩ := hPD
                      subst h_192
                      exact endWs [[false, false, false, false, false, false, false, false, false, false, false, false, false, true], [true, true, true, true, true, true, true, true, true, true, true, true, true, false, true]] hx hb hr hlocks rfl hP hD rfl (by decide +kernel) hS ⟨eR, gMv, fX_194, rfl, Or.inl ⟨rfl, Or.inr ⟨k_4, k_11, by omega, by omega, rfl, rfl, c_15, c_20, c_184, c_189, (fun h1 h2 => c_183), (fun q => q.1 c_190)⟩, rfl⟩, trivial⟩ (g_172 bX6_copy rfl)
                    · refine lv_iload_n hx hb (g_29 bX6_copy rfl) rfl (lv_at hl 3 rfl) ?_
                      refine lv_if_lt (tgt := 181) hx hb dX6_copy_124 (by decide +kernel) (fun c_195 => ?_) (fun c_195 => ?_)
                      · refine lv_aload_n hx hb (g_42 bX6_copy rfl) rfl (lv_at hl 0 rfl) ?_
                        refine lv_bipush (v := (-2)) hx hb dX6_copy_182 (by decide +kernel) ?_
                        refine cVi (As := [.int (-2)]) (rest := []) (b := qm) (q := (RX6, TX6, 35)) ⟨hx, hb, hml, hown, hts⟩ (c_X6_refuse2 l G cy (s.heap).size qm (.ref qmh) (.ref qmo) (.ref qmz) (.ref qmR) (.ref qmv) (.ref qmk) (.ref qma) (.ref qmt) (.int (nI kZ)) qmr tA qmB qmO qmK iEn iTk (ov uP) (ov uU) (.int (nI kAt)) (.int iTo) (.int iFr) (.long JFi) (.int iFa) (.ref qm3) (.int iSt) iLv iWs vLa (.ref qmu) (.ref qmy) (.ref qmb) (.ref qms) (.int iOm) fMr) L_X6_91 hN hP hD hS hA [0, 14] [false, true, true, true, true, true, true, true, true, true, true, true, true, true, false] rfl (by decide +kernel) rfl 0 5 rfl rfl rfl ⟨Nat.le_of_ble_eq_true rfl, Nat.le_of_ble_eq_true rfl⟩ hl.1 (Nat.le_of_ble_eq_true rfl) (g_182 (v := 91) bX6_copy rfl) ⟨Nat.le_of_ble_eq_true rfl, Nat.le_of_ble_eq_true rfl⟩ (fun r_196 u_198 H locs h_197 => ?_)
                        clear hP hD hS
                        intro hP hD hS
                        obtain ⟨fX_199, hu9, h_197⟩ := h_197
                        have hPD := pd_eq [_, _, _, _, _, _, _, _, _, _, _, _, _, _, zzI cy qmr 8 fX_199] hP hD hu9 rfl
                        clear hP hD hu9
                        obtain ⟨hP, hD⟩ := hPD
                        subst h_197
                        exact endWs [[false, false, false, false, false, false, false, false, false, false, false, false, false, true], [true, true, true, true, true, true, true, true, true, true, true, true, true, false, true]] hx hb hr hlocks rfl hP hD rfl (by decide +kernel) hS ⟨eR, gMv, fX_199, rfl, Or.inl ⟨rfl, Or.inr ⟨k_4, k_11, by omega, by omega, rfl, rfl, c_15, c_20, c_184, c_189, (fun h1 h2 => c_183), (fun q => q.2.1 c_195)⟩, rfl⟩, trivial⟩ (g_172 bX6_copy rfl)
                      · refine lv_iload hx hb (g_21 (v := 4) bX6_copy rfl) (lv_at hl 4 rfl) ?_
                        refine lv_if_lt (tgt := 181) hx hb dX6_copy_129 (by decide +kernel) (fun c_200 => ?_) (fun c_200 => ?_)
                        · refine lv_aload_n hx hb (g_42 bX6_copy rfl) rfl (lv_at hl 0 rfl) ?_
                          refine lv_bipush (v := (-2)) hx hb dX6_copy_182 (by decide +kernel) ?_
                          refine cVi (As := [.int (-2)]) (rest := []) (b := qm) (q := (RX6, TX6, 35)) ⟨hx, hb, hml, hown, hts⟩ (c_X6_refuse2 l G cy (s.heap).size qm (.ref qmh) (.ref qmo) (.ref qmz) (.ref qmR) (.ref qmv) (.ref qmk) (.ref qma) (.ref qmt) (.int (nI kZ)) qmr tA qmB qmO qmK iEn iTk (ov uP) (ov uU) (.int (nI kAt)) (.int iTo) (.int iFr) (.long JFi) (.int iFa) (.ref qm3) (.int iSt) iLv iWs vLa (.ref qmu) (.ref qmy) (.ref qmb) (.ref qms) (.int iOm) fMr) L_X6_91 hN hP hD hS hA [0, 14] [false, true, true, true, true, true, true, true, true, true, true, true, true, true, false] rfl (by decide +kernel) rfl 0 5 rfl rfl rfl ⟨Nat.le_of_ble_eq_true rfl, Nat.le_of_ble_eq_true rfl⟩ hl.1 (Nat.le_of_ble_eq_true rfl) (g_182 (v := 91) bX6_copy rfl) ⟨Nat.le_of_ble_eq_true rfl, Nat.le_of_ble_eq_true rfl⟩ (fun r_201 u_203 H locs h_202 => ?_)
                          clear hP hD hS
                          intro hP hD hS
                          obtain ⟨fX_204, hu9, h_202⟩ := h_202
                          have hPD := pd_eq [_, _, _, _, _, _, _, _, _, _, _, _, _, _, zzI cy qmr 8 fX_204] hP hD hu9 rfl
                          clear hP hD hu9
                          obtain ⟨hP, hD⟩ := hPD
                          subst h_202
                          exact endWs [[false, false, false, false, false, false, false, false, false, false, false, false, false, true], [true, true, true, true, true, true, true, true, true, true, true, true, true, false, true]] hx hb hr hlocks rfl hP hD rfl (by decide +kernel) hS ⟨eR, gMv, fX_204, rfl, Or.inl ⟨rfl, Or.inr ⟨k_4, k_11, by omega, by omega, rfl, rfl, c_15, c_20, c_184, c_189, (fun h1 h2 => c_183), (fun q => q.2.2.1 c_200)⟩, rfl⟩, trivial⟩ (g_172 bX6_copy rfl)
                        · refine lv_iload hx hb (g_21 (v := 5) bX6_copy rfl) (lv_at hl 5 rfl) ?_
                          refine lv_aload_n hx hb (g_42 bX6_copy rfl) rfl (lv_at hl 0 rfl) ?_
                          refine va_get (D := G) (ci := 5) (v := .ref qmz) (C := RX6) (T := TX6) (N := 35) hx hb hts iX_X6 hown hK hP 0 rfl rfl 2 (by decide +kernel) (hts _ m_t852) (fun _ h9 => h9) rfl (g_180 (v := 16) bX6_copy rfl) ?_
                          refine lv_iload_n hx hb (g_27 bX6_copy rfl) rfl (lv_at hl 1 rfl) ?_
                          refine va_iald hx hb hK hP 3 0 rfl rfl (in_shelf h_3) (g_46 bX6_copy rfl) ?_
                          refine lv_seti (v := fMz k_4) (congrArg fMz (cl8 (by omega))) ?_
                          refine lv_icmp_gt (tgt := 181) hx hb dX6_copy_140 (by decide +kernel) (fun c_205 => ?_) (fun c_205 => ?_)
                          · refine lv_aload_n hx hb (g_42 bX6_copy rfl) rfl (lv_at hl 0 rfl) ?_
                            refine lv_bipush (v := (-2)) hx hb dX6_copy_182 (by decide +kernel) ?_
                            refine cVi (As := [.int (-2)]) (rest := []) (b := qm) (q := (RX6, TX6, 35)) ⟨hx, hb, hml, hown, hts⟩ (c_X6_refuse2 l G cy (s.heap).size qm (.ref qmh) (.ref qmo) (.ref qmz) (.ref qmR) (.ref qmv) (.ref qmk) (.ref qma) (.ref qmt) (.int (nI kZ)) qmr tA qmB qmO qmK iEn iTk (ov uP) (ov uU) (.int (nI kAt)) (.int iTo) (.int iFr) (.long JFi) (.int iFa) (.ref qm3) (.int iSt) iLv iWs vLa (.ref qmu) (.ref qmy) (.ref qmb) (.ref qms) (.int iOm) fMr) L_X6_91 hN hP hD hS hA [0, 14] [false, true, true, true, true, true, true, true, true, true, true, true, true, true, false] rfl (by decide +kernel) rfl 0 5 rfl rfl rfl ⟨Nat.le_of_ble_eq_true rfl, Nat.le_of_ble_eq_true rfl⟩ hl.1 (Nat.le_of_ble_eq_true rfl) (g_182 (v := 91) bX6_copy rfl) ⟨Nat.le_of_ble_eq_true rfl, Nat.le_of_ble_eq_true rfl⟩ (fun r_206 u_208 H locs h_207 => ?_)
                            clear hP hD hS
                            intro hP hD hS
                            obtain ⟨fX_209, hu9, h_207⟩ := h_207
                            have hPD := pd_eq [_, _, _, _, _, _, _, _, _, _, _, _, _, _, zzI cy qmr 8 fX_209] hP hD hu9 rfl
                            clear hP hD hu9
                            obtain ⟨hP, hD⟩ := hPD
                            subst h_207
                            exact endWs [[false, false, false, false, false, false, false, false, false, false, false, false, false, true], [true, true, true, true, true, true, true, true, true, true, true, true, true, false, true]] hx hb hr hlocks rfl hP hD rfl (by decide +kernel) hS ⟨eR, gMv, fX_209, rfl, Or.inl ⟨rfl, Or.inr ⟨k_4, k_11, by omega, by omega, rfl, rfl, c_15, c_20, c_184, c_189, (fun h1 h2 => c_183), (fun q => q.2.2.2.1 c_205)⟩, rfl⟩, trivial⟩ (g_172 bX6_copy rfl)
                          · refine lv_iload hx hb (g_21 (v := 5) bX6_copy rfl) (lv_at hl 5 rfl) ?_
                            refine lv_aload_n hx hb (g_42 bX6_copy rfl) rfl (lv_at hl 0 rfl) ?_
                            refine va_get (D := G) (ci := 5) (v := .ref qmz) (C := RX6) (T := TX6) (N := 35) hx hb hts iX_X6 hown hK hP 0 rfl rfl 2 (by decide +kernel) (hts _ m_t852) (fun _ h9 => h9) rfl (g_180 (v := 16) bX6_copy rfl) ?_
                            refine lv_iload_n hx hb (g_28 bX6_copy rfl) rfl (lv_at hl 2 rfl) ?_
                            refine va_iald hx hb hK hP 3 0 rfl rfl (in_shelf h_10) (g_46 bX6_copy rfl) ?_
                            refine lv_seti (v := fMz k_11) (congrArg fMz (cl8 (by omega))) ?_
                            refine lv_icmp_gt (tgt := 181) hx hb dX6_copy_151 (by decide +kernel) (fun c_210 => ?_) (fun c_210 => ?_)
                            · refine lv_aload_n hx hb (g_42 bX6_copy rfl) rfl (lv_at hl 0 rfl) ?_
                              refine lv_bipush (v := (-2)) hx hb dX6_copy_182 (by decide +kernel) ?_
                              refine cVi (As := [.int (-2)]) (rest := []) (b := qm) (q := (RX6, TX6, 35)) ⟨hx, hb, hml, hown, hts⟩ (c_X6_refuse2 l G cy (s.heap).size qm (.ref qmh) (.ref qmo) (.ref qmz) (.ref qmR) (.ref qmv) (.ref qmk) (.ref qma) (.ref qmt) (.int (nI kZ)) qmr tA qmB qmO qmK iEn iTk (ov uP) (ov uU) (.int (nI kAt)) (.int iTo) (.int iFr) (.long JFi) (.int iFa) (.ref qm3) (.int iSt) iLv iWs vLa (.ref qmu) (.ref qmy) (.ref qmb) (.ref qms) (.int iOm) fMr) L_X6_91 hN hP hD hS hA [0, 14] [false, true, true, true, true, true, true, true, true, true, true, true, true, true, false] rfl (by decide +kernel) rfl 0 5 rfl rfl rfl ⟨Nat.le_of_ble_eq_true rfl, Nat.le_of_ble_eq_true rfl⟩ hl.1 (Nat.le_of_ble_eq_true rfl) (g_182 (v := 91) bX6_copy rfl) ⟨Nat.le_of_ble_eq_true rfl, Nat.le_of_ble_eq_true rfl⟩ (fun r_211 u_213 H locs h_212 => ?_)
                              clear hP hD hS
                              intro hP hD hS
                              obtain ⟨fX_214, hu9, h_212⟩ := h_212
                              have hPD := pd_eq [_, _, _, _, _, _, _, _, _, _, _, _, _, _, zzI cy qmr 8 fX_214] hP hD hu9 rfl
                              clear hP hD hu9
                              obtain ⟨hP, hD⟩ := hPD
                              subst h_212
                              exact endWs [[false, false, false, false, false, false, false, false, false, false, false, false, false, true], [true, true, true, true, true, true, true, true, true, true, true, true, true, false, true]] hx hb hr hlocks rfl hP hD rfl (by decide +kernel) hS ⟨eR, gMv, fX_214, rfl, Or.inl ⟨rfl, Or.inr ⟨k_4, k_11, by omega, by omega, rfl, rfl, c_15, c_20, c_184, c_189, (fun h1 h2 => c_183), (fun q => q.2.2.2.2.1 c_210)⟩, rfl⟩, trivial⟩ (g_172 bX6_copy rfl)
                            · refine lv_iload_n hx hb (g_29 bX6_copy rfl) rfl (lv_at hl 3 rfl) ?_
                              refine lv_aload_n hx hb (g_42 bX6_copy rfl) rfl (lv_at hl 0 rfl) ?_
                              refine va_get (D := G) (ci := 5) (v := .ref qmz) (C := RX6) (T := TX6) (N := 35) hx hb hts iX_X6 hown hK hP 0 rfl rfl 2 (by decide +kernel) (hts _ m_t852) (fun _ h9 => h9) rfl (g_180 (v := 16) bX6_copy rfl) ?_
                              refine lv_iload_n hx hb (g_27 bX6_copy rfl) rfl (lv_at hl 1 rfl) ?_
                              refine va_iald hx hb hK hP 3 0 rfl rfl (in_shelf h_3) (g_46 bX6_copy rfl) ?_
                              refine lv_seti (v := fMz k_4) (congrArg fMz (cl8 (by omega))) ?_
                              refine lv_iload hx hb (g_21 (v := 5) bX6_copy rfl) (lv_at hl 5 rfl) ?_
                              refine lv_isub hx hb (g_100 bX6_copy rfl) ?_
                              refine lv_icmp_gt (tgt := 181) hx hb dX6_copy_164 (by decide +kernel) (fun c_215 => ?_) (fun c_215 => ?_)
                              · refine lv_aload_n hx hb (g_42 bX6_copy rfl) rfl (lv_at hl 0 rfl) ?_
                                refine lv_bipush (v := (-2)) hx hb dX6_copy_182 (by decide +kernel) ?_
                                refine cVi (As := [.int (-2)]) (rest := []) (b := qm) (q := (RX6, TX6, 35)) ⟨hx, hb, hml, hown, hts⟩ (c_X6_refuse2 l G cy (s.heap).size qm (.ref qmh) (.ref qmo) (.ref qmz) (.ref qmR) (.ref qmv) (.ref qmk) (.ref qma) (.ref qmt) (.int (nI kZ)) qmr tA qmB qmO qmK iEn iTk (ov uP) (ov uU) (.int (nI kAt)) (.int iTo) (.int iFr) (.long JFi) (.int iFa) (.ref qm3) (.int iSt) iLv iWs vLa (.ref qmu) (.ref qmy) (.ref qmb) (.ref qms) (.int iOm) fMr) L_X6_91 hN hP hD hS hA [0, 14] [false, true, true, true, true, true, true, true, true, true, true, true, true, true, false] rfl (by decide +kernel) rfl 0 5 rfl rfl rfl ⟨Nat.le_of_ble_eq_true rfl, Nat.le_of_ble_eq_true rfl⟩ hl.1 (Nat.le_of_ble_eq_true rfl) (g_182 (v := 91) bX6_copy rfl) ⟨Nat.le_of_ble_eq_true rfl, Nat.le_of_ble_eq_true rfl⟩ (fun r_216 u_218 H locs h_217 => ?_)
                                clear hP hD hS
                                intro hP hD hS
                                obtain ⟨fX_219, hu9, h_217⟩ := h_217
                                have hPD := pd_eq [_, _, _, _, _, _, _, _, _, _, _, _, _, _, zzI cy qmr 8 fX_219] hP hD hu9 rfl
                                clear hP hD hu9
                                obtain ⟨hP, hD⟩ := hPD
                                subst h_217
                                exact endWs [[false, false, false, false, false, false, false, false, false, false, false, false, false, true], [true, true, true, true, true, true, true, true, true, true, true, true, true, false, true]] hx hb hr hlocks rfl hP hD rfl (by decide +kernel) hS ⟨eR, gMv, fX_219, rfl, Or.inl ⟨rfl, Or.inr ⟨k_4, k_11, by omega, by omega, rfl, rfl, c_15, c_20, c_184, c_189, (fun h1 h2 => c_183), (fun q => q.2.2.2.2.2.1 c_215)⟩, rfl⟩, trivial⟩ (g_172 bX6_copy rfl)
                              · refine lv_iload hx hb (g_21 (v := 4) bX6_copy rfl) (lv_at hl 4 rfl) ?_
                                refine lv_aload_n hx hb (g_42 bX6_copy rfl) rfl (lv_at hl 0 rfl) ?_
                                refine va_get (D := G) (ci := 5) (v := .ref qmz) (C := RX6) (T := TX6) (N := 35) hx hb hts iX_X6 hown hK hP 0 rfl rfl 2 (by decide +kernel) (hts _ m_t852) (fun _ h9 => h9) rfl (g_180 (v := 16) bX6_copy rfl) ?_
                                refine lv_iload_n hx hb (g_28 bX6_copy rfl) rfl (lv_at hl 2 rfl) ?_
                                refine va_iald hx hb hK hP 3 0 rfl rfl (in_shelf h_10) (g_46 bX6_copy rfl) ?_
                                refine lv_seti (v := fMz k_11) (congrArg fMz (cl8 (by omega))) ?_
                                refine lv_iload hx hb (g_21 (v := 5) bX6_copy rfl) (lv_at hl 5 rfl) ?_
                                refine lv_isub hx hb (g_100 bX6_copy rfl) ?_
                                refine lv_icmp_le (tgt := 188) hx hb dX6_copy_178 (by decide +kernel) (fun c_220 => ?_) (fun c_220 => ?_)
                                · obtain ⟨n_221, hn_222, en_223⟩ := hSz k_4 (by omega)
                                  obtain ⟨n_224, hn_225, en_226⟩ := hSz k_11 (by omega)
                                  obtain ⟨k_227, k_228, k_229, hk_230, hk_231, rfl, rfl, rfl⟩ := cp_of en_223 hn_222 en_226 hn_225 c_190 c_195 c_200 c_205 c_210 c_215 c_220
                                  refine lv_iconst (v := 0) hx hb (g_3 bX6_copy rfl) (by decide +kernel) ?_
                                  refine lv_istore (lv' := [(6, .int 0), (0, .ref qm), (1, .int (nI k_4)), (2, .int (nI k_11)), (3, .int (nI k_227)), (4, .int (nI k_229)), (5, .int (nI k_228))]) hx hb (g_54 (v := 6) bX6_copy rfl) hl (by decide +kernel) rfl (fun ls => ?_)
                                  clear hl
                                  intro hl
                                  have lp_232 : ∀ (n_233 : Nat) (m_235 : Nat) (gJ_236 : Nat → Int64), 40 - m_235 < n_233 → m_235 ≤ k_228 → (∀ x, x < m_235 → gJ_236 x = eR k_4 (k_227 + x)) → ∀ (H : Heap) (locs : List Loc) (ls : Array Slot), va_P G CL [zzO qm 5 (.ref qmh :: .ref qmo :: .ref qmz :: .ref qmR :: .ref qmv :: .ref qmk :: .ref qma :: .ref qmt :: .int (nI kZ) :: .ref qmr :: .int (nI (T_nb tA)) :: .ref qmB :: .int (nI (T_np tA)) :: .ref qmO :: .ref qmK :: .int iEn :: .int iTk :: .int (T_sd tA) :: ov uP :: ov uU :: .int (nI kAt) :: .int iTo :: .int iFr :: .long JFi :: .int iFa :: .ref qm3 :: .int iSt :: .int iLv :: .int iWs :: vLa :: .ref qmu :: .ref qmy :: .ref qmb :: .ref qms :: .int iOm :: []), zzI cy qmh 8 fMh, zzI cy qmo 8 fMo, zzI cy qmz 8 fMz, zzG cy 4 qmR rR, zzJ cy (rR 0) 40 (eR 0), zzJ cy (rR 1) 40 (eR 1), zzJ cy (rR 2) 40 (eR 2), zzJ cy (rR 3) 40 (eR 3), zzJ cy (rR 4) 40 (eR 4), zzJ cy (rR 5) 40 (eR 5), zzJ cy (rR 6) 40 (eR 6), zzJ cy (rR 7) 40 (eR 7), zzJ cy qmv 40 gJ_236, zzI cy qmr 8 fMr] H → va_D A [zzO qm 5 (.ref qmh :: .ref qmo :: .ref qmz :: .ref qmR :: .ref qmv :: .ref qmk :: .ref qma :: .ref qmt :: .int (nI kZ) :: .ref qmr :: .int (nI (T_nb tA)) :: .ref qmB :: .int (nI (T_np tA)) :: .ref qmO :: .ref qmK :: .int iEn :: .int iTk :: .int (T_sd tA) :: ov uP :: ov uU :: .int (nI kAt) :: .int iTo :: .int iFr :: .long JFi :: .int iFa :: .ref qm3 :: .int iSt :: .int iLv :: .int iWs :: vLa :: .ref qmu :: .ref qmy :: .ref qmb :: .ref qms :: .int iOm :: []), zzI cy qmh 8 fMh, zzI cy qmo 8 fMo, zzI cy qmz 8 fMz, zzG cy 4 qmR rR, zzJ cy (rR 0) 40 (eR 0), zzJ cy (rR 1) 40 (eR 1), zzJ cy (rR 2) 40 (eR 2), zzJ cy (rR 3) 40 (eR 3), zzJ cy (rR 4) 40 (eR 4), zzJ cy (rR 5) 40 (eR 5), zzJ cy (rR 6) 40 (eR 6), zzJ cy (rR 7) 40 (eR 7), zzJ cy qmv 40 gJ_236, zzI cy qmr 8 fMr] → va_S A s.heap H locs → lv_has ls 7 [(6, .int (nI m_235)), (0, .ref qm), (1, .int (nI k_4)), (2, .int (nI k_11)), (3, .int (nI k_227)), (4, .int (nI k_229)), (5, .int (nI k_228))] → W p l e (Rm 16 0 0) s m (List.toArray (α := Value) [.ref qm, .int (nI k_4), .int (nI k_11), .int (nI k_227), .int (nI k_229), .int (nI k_228)]) below meth c H locs 0 0 (MQ below ((Wi G (fun r u => ∃ (eN : Nat → Nat → Int64) (gNv : Nat → Int64) (fNr : Nat → Int32), u = [zzO qm 5 (.ref qmh :: .ref qmo :: .ref qmz :: .ref qmR :: .ref qmv :: .ref qmk :: .ref qma :: .ref qmt :: .int (nI kZ) :: .ref qmr :: .int (nI (T_nb tA)) :: .ref qmB :: .int (nI (T_np tA)) :: .ref qmO :: .ref qmK :: .int iEn :: .int iTk :: .int (T_sd tA) :: ov uP :: ov uU :: .int (nI kAt) :: .int iTo :: .int iFr :: .long JFi :: .int iFa :: .ref qm3 :: .int iSt :: .int iLv :: .int iWs :: vLa :: .ref qmu :: .ref qmy :: .ref qmb :: .ref qms :: .int iOm :: []), zzI cy qmh 8 fMh, zzI cy qmo 8 fMo, zzI cy qmz 8 fMz, zzG cy 4 qmR rR, zzJ cy (rR 0) 40 (eN 0), zzJ cy (rR 1) 40 (eN 1), zzJ cy (rR 2) 40 (eN 2), zzJ cy (rR 3) 40 (eN 3), zzJ cy (rR 4) 40 (eN 4), zzJ cy (rR 5) 40 (eN 5), zzJ cy (rR 6) 40 (eN 6), zzJ cy (rR 7) 40 (eN 7), zzJ cy qmv 40 gNv, zzI cy qmr 8 fNr] ∧ (PMcopy fMh fMo fMz eR (nI k_4) (nI k_11) (nI k_227) (nI k_229) (nI k_228) r eN) ∧ (True))) A) (List.toArray (α := Value) [.ref qm, .int (nI k_4), .int (nI k_11), .int (nI k_227), .int (nI k_229), .int (nI k_228)]) s 0 0 A) (F0 m 191 ls []) := by
                                    intro n_233
                                    induction n_233 with
                                    | zero => intro m_235 gJ_236 hm9; exact absurd hm9 (Nat.not_lt_zero _)
                                    | succ n_233 ih_234 =>
                                      intro m_235 gJ_236 hm_239 hm_239 hg_238 H locs ls hP hD hS hl
                                      refine lv_iload hx hb (g_21 (v := 6) bX6_copy rfl) (lv_at hl 0 rfl) ?_
                                      refine lv_iload hx hb (g_21 (v := 5) bX6_copy rfl) (lv_at hl 6 rfl) ?_
                                      refine lv_icmp_ge (tgt := 222) hx hb dX6_copy_195 (by decide +kernel) (fun c_240 => ?_) (fun c_240 => ?_)
                                      · have hlt_241 : m_235 = k_228 := Nat.le_antisymm (by omega) (lp_ge rfl rfl (by omega) (by omega) c_240)
                                        refine lv_iconst (v := 0) hx hb (g_3 bX6_copy rfl) (by decide +kernel) ?_
                                        refine lv_istore (lv' := [(6, .int 0), (0, .ref qm), (1, .int (nI k_4)), (2, .int (nI k_11)), (3, .int (nI k_227)), (4, .int (nI k_229)), (5, .int (nI k_228))]) hx hb (g_54 (v := 6) bX6_copy rfl) hl (by decide +kernel) rfl (fun ls => ?_)
                                        clear hl
                                        intro hl
                                        have lp_242 : ∀ (n_243 : Nat) (n_245 : Nat) (eJ_246 : Nat → Nat → Int64), 40 - n_245 < n_243 → n_245 ≤ k_228 → (∀ s x, eJ_246 s x = if s = k_11 ∧ k_229 ≤ x ∧ x < k_229 + n_245 then eR k_4 (k_227 + (x - k_229)) else eR s x) → ∀ (H : Heap) (locs : List Loc) (ls : Array Slot), va_P G CL [zzO qm 5 (.ref qmh :: .ref qmo :: .ref qmz :: .ref qmR :: .ref qmv :: .ref qmk :: .ref qma :: .ref qmt :: .int (nI kZ) :: .ref qmr :: .int (nI (T_nb tA)) :: .ref qmB :: .int (nI (T_np tA)) :: .ref qmO :: .ref qmK :: .int iEn :: .int iTk :: .int (T_sd tA) :: ov uP :: ov uU :: .int (nI kAt) :: .int iTo :: .int iFr :: .long JFi :: .int iFa :: .ref qm3 :: .int iSt :: .int iLv :: .int iWs :: vLa :: .ref qmu :: .ref qmy :: .ref qmb :: .ref qms :: .int iOm :: []), zzI cy qmh 8 fMh, zzI cy qmo 8 fMo, zzI cy qmz 8 fMz, zzG cy 4 qmR rR, zzJ cy (rR 0) 40 (eJ_246 0), zzJ cy (rR 1) 40 (eJ_246 1), zzJ cy (rR 2) 40 (eJ_246 2), zzJ cy (rR 3) 40 (eJ_246 3), zzJ cy (rR 4) 40 (eJ_246 4), zzJ cy (rR 5) 40 (eJ_246 5), zzJ cy (rR 6) 40 (eJ_246 6), zzJ cy (rR 7) 40 (eJ_246 7), zzJ cy qmv 40 gJ_236, zzI cy qmr 8 fMr] H → va_D A [zzO qm 5 (.ref qmh :: .ref qmo :: .ref qmz :: .ref qmR :: .ref qmv :: .ref qmk :: .ref qma :: .ref qmt :: .int (nI kZ) :: .ref qmr :: .int (nI (T_nb tA)) :: .ref qmB :: .int (nI (T_np tA)) :: .ref qmO :: .ref qmK :: .int iEn :: .int iTk :: .int (T_sd tA) :: ov uP :: ov uU :: .int (nI kAt) :: .int iTo :: .int iFr :: .long JFi :: .int iFa :: .ref qm3 :: .int iSt :: .int iLv :: .int iWs :: vLa :: .ref qmu :: .ref qmy :: .ref qmb :: .ref qms :: .int iOm :: []), zzI cy qmh 8 fMh, zzI cy qmo 8 fMo, zzI cy qmz 8 fMz, zzG cy 4 qmR rR, zzJ cy (rR 0) 40 (eJ_246 0), zzJ cy (rR 1) 40 (eJ_246 1), zzJ cy (rR 2) 40 (eJ_246 2), zzJ cy (rR 3) 40 (eJ_246 3), zzJ cy (rR 4) 40 (eJ_246 4), zzJ cy (rR 5) 40 (eJ_246 5), zzJ cy (rR 6) 40 (eJ_246 6), zzJ cy (rR 7) 40 (eJ_246 7), zzJ cy qmv 40 gJ_236, zzI cy qmr 8 fMr] → va_S A s.heap H locs → lv_has ls 7 [(6, .int (nI n_245)), (0, .ref qm), (1, .int (nI k_4)), (2, .int (nI k_11)), (3, .int (nI k_227)), (4, .int (nI k_229)), (5, .int (nI k_228))] → W p l e (Rm 16 0 0) s m (List.toArray (α := Value) [.ref qm, .int (nI k_4), .int (nI k_11), .int (nI k_227), .int (nI k_229), .int (nI k_228)]) below meth c H locs 0 0 (MQ below ((Wi G (fun r u => ∃ (eN : Nat → Nat → Int64) (gNv : Nat → Int64) (fNr : Nat → Int32), u = [zzO qm 5 (.ref qmh :: .ref qmo :: .ref qmz :: .ref qmR :: .ref qmv :: .ref qmk :: .ref qma :: .ref qmt :: .int (nI kZ) :: .ref qmr :: .int (nI (T_nb tA)) :: .ref qmB :: .int (nI (T_np tA)) :: .ref qmO :: .ref qmK :: .int iEn :: .int iTk :: .int (T_sd tA) :: ov uP :: ov uU :: .int (nI kAt) :: .int iTo :: .int iFr :: .long JFi :: .int iFa :: .ref qm3 :: .int iSt :: .int iLv :: .int iWs :: vLa :: .ref qmu :: .ref qmy :: .ref qmb :: .ref qms :: .int iOm :: []), zzI cy qmh 8 fMh, zzI cy qmo 8 fMo, zzI cy qmz 8 fMz, zzG cy 4 qmR rR, zzJ cy (rR 0) 40 (eN 0), zzJ cy (rR 1) 40 (eN 1), zzJ cy (rR 2) 40 (eN 2), zzJ cy (rR 3) 40 (eN 3), zzJ cy (rR 4) 40 (eN 4), zzJ cy (rR 5) 40 (eN 5), zzJ cy (rR 6) 40 (eN 6), zzJ cy (rR 7) 40 (eN 7), zzJ cy qmv 40 gNv, zzI cy qmr 8 fNr] ∧ (PMcopy fMh fMo fMz eR (nI k_4) (nI k_11) (nI k_227) (nI k_229) (nI k_228) r eN) ∧ (True))) A) (List.toArray (α := Value) [.ref qm, .int (nI k_4), .int (nI k_11), .int (nI k_227), .int (nI k_229), .int (nI k_228)]) s 0 0 A) (F0 m 225 ls []) := by
                                          intro n_243
                                          induction n_243 with
                                          | zero => intro n_245 eJ_246 hm9; exact absurd hm9 (Nat.not_lt_zero _)
                                          | succ n_243 ih_244 =>
                                            intro n_245 eJ_246 hm_249 hn_247 he_248 H locs ls hP hD hS hl
                                            refine lv_iload hx hb (g_21 (v := 6) bX6_copy rfl) (lv_at hl 0 rfl) ?_
                                            refine lv_iload hx hb (g_21 (v := 5) bX6_copy rfl) (lv_at hl 6 rfl) ?_
                                            refine lv_icmp_ge (tgt := 257) hx hb dX6_copy_229 (by decide +kernel) (fun c_250 => ?_) (fun c_250 => ?_)
                                            · have hlt_251 : n_245 = k_228 := Nat.le_antisymm (by omega) (lp_ge rfl rfl (by omega) (by omega) c_250)
                                              refine lv_iload hx hb (g_21 (v := 5) bX6_copy rfl) (lv_at hl 6 rfl) ?_
                                              exact endW (u := [zzO qm 5 (.ref qmh :: .ref qmo :: .ref qmz :: .ref qmR :: .ref qmv :: .ref qmk :: .ref qma :: .ref qmt :: .int (nI kZ) :: .ref qmr :: .int (nI (T_nb tA)) :: .ref qmB :: .int (nI (T_np tA)) :: .ref qmO :: .ref qmK :: .int iEn :: .int iTk :: .int (T_sd tA) :: ov uP :: ov uU :: .int (nI kAt) :: .int iTo :: .int iFr :: .long JFi :: .int iFa :: .ref qm3 :: .int iSt :: .int iLv :: .int iWs :: vLa :: .ref qmu :: .ref qmy :: .ref qmb :: .ref qms :: .int iOm :: []), zzI cy qmh 8 fMh, zzI cy qmo 8 fMo, zzI cy qmz 8 fMz, zzG cy 4 qmR rR, zzJ cy (rR 0) 40 (eJ_246 0), zzJ cy (rR 1) 40 (eJ_246 1), zzJ cy (rR 2) 40 (eJ_246 2), zzJ cy (rR 3) 40 (eJ_246 3), zzJ cy (rR 4) 40 (eJ_246 4), zzJ cy (rR 5) 40 (eJ_246 5), zzJ cy (rR 6) 40 (eJ_246 6), zzJ cy (rR 7) 40 (eJ_246 7), zzJ cy qmv 40 gJ_236, zzI cy qmr 8 fMr]) hx hb hr hlocks rfl (pSb hP [[true, true, true, true, true, true, true, true, true, true, true, true, true, true, true]] rfl rfl) (dSb hD [[true, true, true, true, true, true, true, true, true, true, true, true, true, true, true]] (by decide +kernel) rfl rfl) hS ⟨eJ_246, gJ_236, fMr, rfl, Or.inr (Or.inr (Or.inr ⟨rfl, k_4, k_11, k_227, k_229, k_228, by omega, by omega, rfl, rfl, c_15, c_20, c_184, c_189, (fun h1 h2 => c_183), rfl, rfl, rfl, by omega, by omega, ⟨c_190, c_195, c_200, c_205, c_210, c_215, c_220⟩, by have := he_248; rw [hlt_251] at this; exact this⟩)), trivial⟩ (g_172 bX6_copy rfl)
                                            · have hlt_252 : n_245 < k_228 := lp_lt rfl rfl (by omega) (by omega) c_250
                                              refine lv_aload_n hx hb (g_42 bX6_copy rfl) rfl (lv_at hl 1 rfl) ?_
                                              refine va_get (D := G) (ci := 5) (v := .ref qmR) (C := RX6) (T := TX6) (N := 35) hx hb hts iX_X6 hown hK hP 0 rfl rfl 3 (by decide +kernel) (hts _ m_t853) (fun _ h9 => h9) rfl (g_180 (v := 21) bX6_copy rfl) ?_
                                              refine lv_iload_n hx hb (g_28 bX6_copy rfl) rfl (lv_at hl 3 rfl) ?_
                                              refine va_alda hx hb hK hP 4 4 rfl rfl (in_shelf h_10) (g_50 bX6_copy rfl) ?_
                                              refine lv_setv (v := .ref (rR k_11)) (g_ref (by omega)) ?_
                                              refine lv_iload hx hb (g_21 (v := 4) bX6_copy rfl) (lv_at hl 5 rfl) ?_
                                              refine lv_iload hx hb (g_21 (v := 6) bX6_copy rfl) (lv_at hl 0 rfl) ?_
                                              refine lv_iadd hx hb (g_96 bX6_copy rfl) ?_
                                              refine lv_seti (v := nI (k_229 + n_245)) (nI_add _ _) ?_
                                              refine lv_aload_n hx hb (g_42 bX6_copy rfl) rfl (lv_at hl 1 rfl) ?_
                                              refine va_get (D := G) (ci := 5) (v := .ref qmv) (C := RX6) (T := TX6) (N := 35) hx hb hts iX_X6 hown hK hP 0 rfl rfl 4 (by decide +kernel) (hts _ m_t854) (fun _ h9 => h9) rfl (g_180 (v := 24) bX6_copy rfl) ?_
                                              refine lv_iload hx hb (g_21 (v := 6) bX6_copy rfl) (lv_at hl 0 rfl) ?_
                                              refine va_lald hx hb hK hP 13 1 rfl rfl (vp_in_nI (by omega) (by omega)) (g_47 bX6_copy rfl) ?_
                                              refine lv_setl (v := gJ_236 n_245) (congrArg gJ_236 (nI_clamp (by omega))) ?_
                                              refine va_last hx hb hK hP hD hS (5 + k_11) 1 ((sg8 (n0 := 5) (f := (fun j => zzJ cy (rR j) 40 (eJ_246 j))) rfl rfl rfl rfl rfl rfl rfl rfl) k_11 (by omega)) rfl (vp_in_nI (by omega) (by omega)) (g_80 bX6_copy rfl) (fun H locs => ?_)
                                              clear hP hD hS
                                              intro hP hD hS
                                              rw [nI_clamp (n := (k_229 + n_245)) (by omega)] at hP hD
                                              have e8 := set8 (k := k_11) (ws := [zzO qm 5 (.ref qmh :: .ref qmo :: .ref qmz :: .ref qmR :: .ref qmv :: .ref qmk :: .ref qma :: .ref qmt :: .int (nI kZ) :: .ref qmr :: .int (nI (T_nb tA)) :: .ref qmB :: .int (nI (T_np tA)) :: .ref qmO :: .ref qmK :: .int iEn :: .int iTk :: .int (T_sd tA) :: ov uP :: ov uU :: .int (nI kAt) :: .int iTo :: .int iFr :: .long JFi :: .int iFa :: .ref qm3 :: .int iSt :: .int iLv :: .int iWs :: vLa :: .ref qmu :: .ref qmy :: .ref qmb :: .ref qms :: .int iOm :: []), zzI cy qmh 8 fMh, zzI cy qmo 8 fMo, zzI cy qmz 8 fMz, zzG cy 4 qmR rR, zzJ cy (rR 0) 40 (eJ_246 0), zzJ cy (rR 1) 40 (eJ_246 1), zzJ cy (rR 2) 40 (eJ_246 2), zzJ cy (rR 3) 40 (eJ_246 3), zzJ cy (rR 4) 40 (eJ_246 4), zzJ cy (rR 5) 40 (eJ_246 5), zzJ cy (rR 6) 40 (eJ_246 6), zzJ cy (rR 7) 40 (eJ_246 7), zzJ cy qmv 40 gJ_236, zzI cy qmr 8 fMr]) (ws' := [zzO qm 5 (.ref qmh :: .ref qmo :: .ref qmz :: .ref qmR :: .ref qmv :: .ref qmk :: .ref qma :: .ref qmt :: .int (nI kZ) :: .ref qmr :: .int (nI (T_nb tA)) :: .ref qmB :: .int (nI (T_np tA)) :: .ref qmO :: .ref qmK :: .int iEn :: .int iTk :: .int (T_sd tA) :: ov uP :: ov uU :: .int (nI kAt) :: .int iTo :: .int iFr :: .long JFi :: .int iFa :: .ref qm3 :: .int iSt :: .int iLv :: .int iWs :: vLa :: .ref qmu :: .ref qmy :: .ref qmb :: .ref qms :: .int iOm :: []), zzI cy qmh 8 fMh, zzI cy qmo 8 fMo, zzI cy qmz 8 fMz, zzG cy 4 qmR rR, zzJ cy (rR 0) 40 (updN eJ_246 k_11 (k_229 + n_245) (gJ_236 n_245) 0), zzJ cy (rR 1) 40 (updN eJ_246 k_11 (k_229 + n_245) (gJ_236 n_245) 1), zzJ cy (rR 2) 40 (updN eJ_246 k_11 (k_229 + n_245) (gJ_236 n_245) 2), zzJ cy (rR 3) 40 (updN eJ_246 k_11 (k_229 + n_245) (gJ_236 n_245) 3), zzJ cy (rR 4) 40 (updN eJ_246 k_11 (k_229 + n_245) (gJ_236 n_245) 4), zzJ cy (rR 5) 40 (updN eJ_246 k_11 (k_229 + n_245) (gJ_236 n_245) 5), zzJ cy (rR 6) 40 (updN eJ_246 k_11 (k_229 + n_245) (gJ_236 n_245) 6), zzJ cy (rR 7) 40 (updN eJ_246 k_11 (k_229 + n_245) (gJ_236 n_245) 7), zzJ cy qmv 40 gJ_236, zzI cy qmr 8 fMr]) (sg8 (n0 := 5) (f := (fun j => zzJ cy (rR j) 40 (eJ_246 j))) rfl rfl rfl rfl rfl rfl rfl rfl) (sg8 (n0 := 5) (f := (fun j => zzJ cy (rR j) 40 (updN eJ_246 k_11 (k_229 + n_245) (gJ_236 n_245) j))) rfl rfl rfl rfl rfl rfl rfl rfl) rfl rfl (by omega) (congrArg (zzJ cy (rR k_11) 40) un_u) (fun j hj => congrArg (zzJ cy (rR j) 40) (un_n hj))
                                              rw [e8] at hP hD
                                              clear e8
                                              have hPD := pd_as [_, _, _, _, _, zzJ cy (rR 0) 40 (updN eJ_246 k_11 (k_229 + n_245) (gJ_236 n_245) 0), zzJ cy (rR 1) 40 (updN eJ_246 k_11 (k_229 + n_245) (gJ_236 n_245) 1), zzJ cy (rR 2) 40 (updN eJ_246 k_11 (k_229 + n_245) (gJ_236 n_245) 2), zzJ cy (rR 3) 40 (updN eJ_246 k_11 (k_229 + n_245) (gJ_236 n_245) 3), zzJ cy (rR 4) 40 (updN eJ_246 k_11 (k_229 + n_245) (gJ_236 n_245) 4), zzJ cy (rR 5) 40 (updN eJ_246 k_11 (k_229 + n_245) (gJ_236 n_245) 5), zzJ cy (rR 6) 40 (updN eJ_246 k_11 (k_229 + n_245) (gJ_236 n_245) 6), zzJ cy (rR 7) 40 (updN eJ_246 k_11 (k_229 + n_245) (gJ_236 n_245) 7), zzJ cy qmv 40 gJ_236, _] hP hD rfl
                                              clear hP hD
                                              obtain ⟨hP, hD⟩ := hPD
                                              refine lv_iinc (v := nI (n_245 + 1)) (lv' := [(6, .int (nI (n_245 + 1))), (0, .ref qm), (1, .int (nI k_4)), (2, .int (nI k_11)), (3, .int (nI k_227)), (4, .int (nI k_229)), (5, .int (nI k_228))]) hx hb dX6_copy_251 hl (k := 0) rfl (nI_1 _) (by decide +kernel) rfl (fun ls => ?_)
                                              clear hl
                                              intro hl
                                              refine lv_goto (tgt := 225) hx hb dX6_copy_254 (by decide +kernel) ?_
                                              exact ih_244 (n_245 + 1) (updN eJ_246 k_11 (k_229 + n_245) (gJ_236 n_245)) (by omega) (by omega) (cp_stepN he_248 (hg_238 _ (by omega))) _ _ _ hP hD hS (lv_sub hl [0, 1, 2, 3, 4, 5, 6] rfl)
                                        exact lp_242 ((40 - 0) + 1) 0 eR (Nat.lt_succ_self _) (Nat.zero_le _) (fun s x => (if_neg (fun q => by omega)).symm) _ _ ls hP hD hS (lv_sub hl [0, 1, 2, 3, 4, 5, 6] rfl)
                                      · have hlt_253 : m_235 < k_228 := lp_lt rfl rfl (by omega) (by omega) c_240
                                        refine lv_aload_n hx hb (g_42 bX6_copy rfl) rfl (lv_at hl 1 rfl) ?_
                                        refine va_get (D := G) (ci := 5) (v := .ref qmv) (C := RX6) (T := TX6) (N := 35) hx hb hts iX_X6 hown hK hP 0 rfl rfl 4 (by decide +kernel) (hts _ m_t854) (fun _ h9 => h9) rfl (g_180 (v := 24) bX6_copy rfl) ?_
                                        refine lv_iload hx hb (g_21 (v := 6) bX6_copy rfl) (lv_at hl 0 rfl) ?_
                                        refine lv_aload_n hx hb (g_42 bX6_copy rfl) rfl (lv_at hl 1 rfl) ?_
                                        refine va_get (D := G) (ci := 5) (v := .ref qmR) (C := RX6) (T := TX6) (N := 35) hx hb hts iX_X6 hown hK hP 0 rfl rfl 3 (by decide +kernel) (hts _ m_t853) (fun _ h9 => h9) rfl (g_180 (v := 21) bX6_copy rfl) ?_
                                        refine lv_iload_n hx hb (g_27 bX6_copy rfl) rfl (lv_at hl 2 rfl) ?_
                                        refine va_alda hx hb hK hP 4 4 rfl rfl (in_shelf h_3) (g_50 bX6_copy rfl) ?_
                                        refine lv_setv (v := .ref (rR k_4)) (g_ref (by omega)) ?_
                                        refine lv_iload_n hx hb (g_29 bX6_copy rfl) rfl (lv_at hl 4 rfl) ?_
                                        refine lv_iload hx hb (g_21 (v := 6) bX6_copy rfl) (lv_at hl 0 rfl) ?_
                                        refine lv_iadd hx hb (g_96 bX6_copy rfl) ?_
                                        refine lv_seti (v := nI (k_227 + m_235)) (nI_add _ _) ?_
                                        refine va_lald hx hb hK hP (5 + k_4) 1 (sg8 (n0 := 5) (f := (fun j => zzJ cy (rR j) 40 (eR j))) rfl rfl rfl rfl rfl rfl rfl rfl k_4 (by omega)) rfl (vp_in_nI (by omega) (by omega)) (g_47 bX6_copy rfl) ?_
                                        refine lv_setl (v := eR k_4 (k_227 + m_235)) (congrArg (eR k_4) (nI_clamp (by omega))) ?_
                                        refine va_last hx hb hK hP hD hS 13 1 rfl rfl (vp_in_nI (by omega) (by omega)) (g_80 bX6_copy rfl) (fun H locs => ?_)
                                        clear hP hD hS
                                        intro hP hD hS
                                        rw [nI_clamp (n := m_235) (by omega)] at hP hD
                                        have hPD := pd_as [_, _, _, _, _, _, _, _, _, _, _, _, _, zzJ cy qmv 40 (vp_updL gJ_236 m_235 (eR k_4 (k_227 + m_235))), _] hP hD rfl
                                        clear hP hD
                                        obtain ⟨hP, hD⟩ := hPD
                                        refine lv_iinc (v := nI (m_235 + 1)) (lv' := [(6, .int (nI (m_235 + 1))), (0, .ref qm), (1, .int (nI k_4)), (2, .int (nI k_11)), (3, .int (nI k_227)), (4, .int (nI k_229)), (5, .int (nI k_228))]) hx hb dX6_copy_216 hl (k := 0) rfl (nI_1 _) (by decide +kernel) rfl (fun ls => ?_)
                                        clear hl
                                        intro hl
                                        refine lv_goto (tgt := 191) hx hb dX6_copy_219 (by decide +kernel) ?_
                                        exact ih_234 (m_235 + 1) (vp_updL gJ_236 m_235 (eR k_4 (k_227 + m_235))) (by omega) (by omega) (cp_stepL hg_238) _ _ _ hP hD hS (lv_sub hl [0, 1, 2, 3, 4, 5, 6] rfl)
                                  exact lp_232 ((40 - 0) + 1) 0 gMv (Nat.lt_succ_self _) (Nat.zero_le _) (fun x h => absurd h (Nat.not_lt_zero _)) _ _ ls hP hD hS (lv_sub hl [0, 1, 2, 3, 4, 5, 6] rfl)
                                · refine lv_aload_n hx hb (g_42 bX6_copy rfl) rfl (lv_at hl 0 rfl) ?_
                                  refine lv_bipush (v := (-2)) hx hb dX6_copy_182 (by decide +kernel) ?_
                                  refine cVi (As := [.int (-2)]) (rest := []) (b := qm) (q := (RX6, TX6, 35)) ⟨hx, hb, hml, hown, hts⟩ (c_X6_refuse2 l G cy (s.heap).size qm (.ref qmh) (.ref qmo) (.ref qmz) (.ref qmR) (.ref qmv) (.ref qmk) (.ref qma) (.ref qmt) (.int (nI kZ)) qmr tA qmB qmO qmK iEn iTk (ov uP) (ov uU) (.int (nI kAt)) (.int iTo) (.int iFr) (.long JFi) (.int iFa) (.ref qm3) (.int iSt) iLv iWs vLa (.ref qmu) (.ref qmy) (.ref qmb) (.ref qms) (.int iOm) fMr) L_X6_91 hN hP hD hS hA [0, 14] [false, true, true, true, true, true, true, true, true, true, true, true, true, true, false] rfl (by decide +kernel) rfl 0 5 rfl rfl rfl ⟨Nat.le_of_ble_eq_true rfl, Nat.le_of_ble_eq_true rfl⟩ hl.1 (Nat.le_of_ble_eq_true rfl) (g_182 (v := 91) bX6_copy rfl) ⟨Nat.le_of_ble_eq_true rfl, Nat.le_of_ble_eq_true rfl⟩ (fun r_254 u_256 H locs h_255 => ?_)
                                  clear hP hD hS
                                  intro hP hD hS
                                  obtain ⟨fX_257, hu9, h_255⟩ := h_255
                                  have hPD := pd_eq [_, _, _, _, _, _, _, _, _, _, _, _, _, _, zzI cy qmr 8 fX_257] hP hD hu9 rfl
                                  clear hP hD hu9
                                  obtain ⟨hP, hD⟩ := hPD
                                  subst h_255
                                  exact endWs [[false, false, false, false, false, false, false, false, false, false, false, false, false, true], [true, true, true, true, true, true, true, true, true, true, true, true, true, false, true]] hx hb hr hlocks rfl hP hD rfl (by decide +kernel) hS ⟨eR, gMv, fX_257, rfl, Or.inl ⟨rfl, Or.inr ⟨k_4, k_11, by omega, by omega, rfl, rfl, c_15, c_20, c_184, c_189, (fun h1 h2 => c_183), (fun q => c_220 (q.2.2.2.2.2.2))⟩, rfl⟩, trivial⟩ (g_172 bX6_copy rfl)
                  · refine lv_aload_n hx hb (g_42 bX6_copy rfl) rfl (lv_at hl 0 rfl) ?_
                    refine lv_bipush (v := (-4)) hx hb dX6_copy_112 (by decide +kernel) ?_
                    refine cVi (As := [.int (-4)]) (rest := []) (b := qm) (q := (RX6, TX6, 35)) ⟨hx, hb, hml, hown, hts⟩ (c_X6_refuse4 l G cy (s.heap).size qm (.ref qmh) (.ref qmo) (.ref qmz) (.ref qmR) (.ref qmv) (.ref qmk) (.ref qma) (.ref qmt) (.int (nI kZ)) qmr tA qmB qmO qmK iEn iTk (ov uP) (ov uU) (.int (nI kAt)) (.int iTo) (.int iFr) (.long JFi) (.int iFa) (.ref qm3) (.int iSt) iLv iWs vLa (.ref qmu) (.ref qmy) (.ref qmb) (.ref qms) (.int iOm) fMr) L_X6_91 hN hP hD hS hA [0, 14] [false, true, true, true, true, true, true, true, true, true, true, true, true, true, false] rfl (by decide +kernel) rfl 0 5 rfl rfl rfl ⟨Nat.le_of_ble_eq_true rfl, Nat.le_of_ble_eq_true rfl⟩ hl.1 (Nat.le_of_ble_eq_true rfl) (g_182 (v := 91) bX6_copy rfl) ⟨Nat.le_of_ble_eq_true rfl, Nat.le_of_ble_eq_true rfl⟩ (fun r_258 u_260 H locs h_259 => ?_)
                    clear hP hD hS
                    intro hP hD hS
                    obtain ⟨fX_261, hu9, h_259⟩ := h_259
                    have hPD := pd_eq [_, _, _, _, _, _, _, _, _, _, _, _, _, _, zzI cy qmr 8 fX_261] hP hD hu9 rfl
                    clear hP hD hu9
                    obtain ⟨hP, hD⟩ := hPD
                    subst h_259
                    exact endWs [[false, false, false, false, false, false, false, false, false, false, false, false, false, true], [true, true, true, true, true, true, true, true, true, true, true, true, true, false, true]] hx hb hr hlocks rfl hP hD rfl (by decide +kernel) hS ⟨eR, gMv, fX_261, rfl, Or.inr (Or.inr (Or.inl ⟨rfl, ⟨k_4, k_11, by omega, by omega, rfl, rfl, c_15, c_20, Or.inr c_189⟩, rfl⟩)), trivial⟩ (g_172 bX6_copy rfl)
              · refine lv_aload_n hx hb (g_42 bX6_copy rfl) rfl (lv_at hl 0 rfl) ?_
                refine lv_bipush (v := (-3)) hx hb dX6_copy_87 (by decide +kernel) ?_
                refine cVi (As := [.int (-3)]) (rest := []) (b := qm) (q := (RX6, TX6, 35)) ⟨hx, hb, hml, hown, hts⟩ (c_X6_refuse3 l G cy (s.heap).size qm (.ref qmh) (.ref qmo) (.ref qmz) (.ref qmR) (.ref qmv) (.ref qmk) (.ref qma) (.ref qmt) (.int (nI kZ)) qmr tA qmB qmO qmK iEn iTk (ov uP) (ov uU) (.int (nI kAt)) (.int iTo) (.int iFr) (.long JFi) (.int iFa) (.ref qm3) (.int iSt) iLv iWs vLa (.ref qmu) (.ref qmy) (.ref qmb) (.ref qms) (.int iOm) fMr) L_X6_91 hN hP hD hS hA [0, 14] [false, true, true, true, true, true, true, true, true, true, true, true, true, true, false] rfl (by decide +kernel) rfl 0 5 rfl rfl rfl ⟨Nat.le_of_ble_eq_true rfl, Nat.le_of_ble_eq_true rfl⟩ hl.1 (Nat.le_of_ble_eq_true rfl) (g_182 (v := 91) bX6_copy rfl) ⟨Nat.le_of_ble_eq_true rfl, Nat.le_of_ble_eq_true rfl⟩ (fun r_262 u_264 H locs h_263 => ?_)
                clear hP hD hS
                intro hP hD hS
                obtain ⟨fX_265, hu9, h_263⟩ := h_263
                have hPD := pd_eq [_, _, _, _, _, _, _, _, _, _, _, _, _, _, zzI cy qmr 8 fX_265] hP hD hu9 rfl
                clear hP hD hu9
                obtain ⟨hP, hD⟩ := hPD
                subst h_263
                exact endWs [[false, false, false, false, false, false, false, false, false, false, false, false, false, true], [true, true, true, true, true, true, true, true, true, true, true, true, true, false, true]] hx hb hr hlocks rfl hP hD rfl (by decide +kernel) hS ⟨eR, gMv, fX_265, rfl, Or.inr (Or.inl ⟨rfl, ⟨k_4, k_11, by omega, by omega, rfl, rfl, Or.inr (Or.inr ⟨c_25, c_104, c_183⟩)⟩, rfl⟩), trivial⟩ (g_172 bX6_copy rfl)
    · refine lv_if_ne (tgt := 31) hx hb dX6_copy_21 (by decide +kernel) (fun h9 => absurd (by decide +kernel) h9) (fun _ => ?_)
      refine lv_aload_n hx hb (g_42 bX6_copy rfl) rfl (lv_at hl 0 rfl) ?_
      refine lv_bipush (v := (-2)) hx hb dX6_copy_25 (by decide +kernel) ?_
      refine cVi (As := [.int (-2)]) (rest := []) (b := qm) (q := (RX6, TX6, 35)) ⟨hx, hb, hml, hown, hts⟩ (c_X6_refuse2 l G cy (s.heap).size qm (.ref qmh) (.ref qmo) (.ref qmz) (.ref qmR) (.ref qmv) (.ref qmk) (.ref qma) (.ref qmt) (.int (nI kZ)) qmr tA qmB qmO qmK iEn iTk (ov uP) (ov uU) (.int (nI kAt)) (.int iTo) (.int iFr) (.long JFi) (.int iFa) (.ref qm3) (.int iSt) iLv iWs vLa (.ref qmu) (.ref qmy) (.ref qmb) (.ref qms) (.int iOm) fMr) L_X6_91 hN hP hD hS hA [0, 14] [false, true, true, true, true, true, true, true, true, true, true, true, true, true, false] rfl (by decide +kernel) rfl 0 5 rfl rfl rfl ⟨Nat.le_of_ble_eq_true rfl, Nat.le_of_ble_eq_true rfl⟩ hl.1 (Nat.le_of_ble_eq_true rfl) (g_182 (v := 91) bX6_copy rfl) ⟨Nat.le_of_ble_eq_true rfl, Nat.le_of_ble_eq_true rfl⟩ (fun r_267 u_269 H locs h_268 => ?_)
      clear hP hD hS
      intro hP hD hS
      obtain ⟨fX_270, hu9, h_268⟩ := h_268
      have hPD := pd_eq [_, _, _, _, _, _, _, _, _, _, _, _, _, _, zzI cy qmr 8 fX_270] hP hD hu9 rfl
      clear hP hD hu9
      obtain ⟨hP, hD⟩ := hPD
      subst h_268
      exact endWs [[false, false, false, false, false, false, false, false, false, false, false, false, false, true], [true, true, true, true, true, true, true, true, true, true, true, true, true, false, true]] hx hb hr hlocks rfl hP hD rfl (by decide +kernel) hS ⟨eR, gMv, fX_270, rfl, Or.inl ⟨rfl, Or.inl (fun ⟨_, m, _, h2, _, h4⟩ => no_of7 h_10 ⟨m, h2, h4⟩), rfl⟩, trivial⟩ (g_172 bX6_copy rfl)
  · refine lv_if_eq (tgt := 24) hx hb dX6_copy_9 (by decide +kernel) (fun _ => ?_) (fun h9 => absurd (by decide +kernel) h9)
    refine lv_aload_n hx hb (g_42 bX6_copy rfl) rfl (lv_at hl 0 rfl) ?_
    refine lv_bipush (v := (-2)) hx hb dX6_copy_25 (by decide +kernel) ?_
    refine cVi (As := [.int (-2)]) (rest := []) (b := qm) (q := (RX6, TX6, 35)) ⟨hx, hb, hml, hown, hts⟩ (c_X6_refuse2 l G cy (s.heap).size qm (.ref qmh) (.ref qmo) (.ref qmz) (.ref qmR) (.ref qmv) (.ref qmk) (.ref qma) (.ref qmt) (.int (nI kZ)) qmr tA qmB qmO qmK iEn iTk (ov uP) (ov uU) (.int (nI kAt)) (.int iTo) (.int iFr) (.long JFi) (.int iFa) (.ref qm3) (.int iSt) iLv iWs vLa (.ref qmu) (.ref qmy) (.ref qmb) (.ref qms) (.int iOm) fMr) L_X6_91 hN hP hD hS hA [0, 14] [false, true, true, true, true, true, true, true, true, true, true, true, true, true, false] rfl (by decide +kernel) rfl 0 5 rfl rfl rfl ⟨Nat.le_of_ble_eq_true rfl, Nat.le_of_ble_eq_true rfl⟩ hl.1 (Nat.le_of_ble_eq_true rfl) (g_182 (v := 91) bX6_copy rfl) ⟨Nat.le_of_ble_eq_true rfl, Nat.le_of_ble_eq_true rfl⟩ (fun r_272 u_274 H locs h_273 => ?_)
    clear hP hD hS
    intro hP hD hS
    obtain ⟨fX_275, hu9, h_273⟩ := h_273
    have hPD := pd_eq [_, _, _, _, _, _, _, _, _, _, _, _, _, _, zzI cy qmr 8 fX_275] hP hD hu9 rfl
    clear hP hD hu9
    obtain ⟨hP, hD⟩ := hPD
    subst h_273
    exact endWs [[false, false, false, false, false, false, false, false, false, false, false, false, false, true], [true, true, true, true, true, true, true, true, true, true, true, true, true, false, true]] hx hb hr hlocks rfl hP hD rfl (by decide +kernel) hS ⟨eR, gMv, fX_275, rfl, Or.inl ⟨rfl, Or.inl (fun ⟨k, _, h1, _, h3, _⟩ => no_of7 h_3 ⟨k, h1, h3⟩), rfl⟩, trivial⟩ (g_172 bX6_copy rfl)
set_option maxHeartbeats 4000000 in
set_option maxRecDepth 100000 in
theorem p_X6_element (l : Launch) (G : va_G) (cy : Nat → ClassId) (qm : Nat) (qmh : Nat) (qmo : Nat) (qmz : Nat) (qmR : Nat) (qmv : Nat) (qmk : Nat) (qma : Nat) (qmt : Nat) (kZ : Nat) (qmr : Nat) (tA : TA) (qmB : Nat) (qmO : Nat) (qmK : Nat) (iEn : Int32) (iTk : Int32) (uP : UM) (uU : UM) (kAt : Nat) (iTo : Int32) (iFr : Int32) (JFi : Int64) (iFa : Int32) (qm3 : Nat) (iSt : Int32) (iLv : Int32) (iWs : Int32) (vLa : Value) (qmu : Nat) (qmy : Nat) (qmb : Nat) (qms : Nat) (iOm : Int32) (fMh : Nat → Int32) (fMz : Nat → Int32) (rR : Nat → Nat) (eR : Nat → Nat → Int64) (iA : Int32) (iB : Int32)  (hSz : ∀ s, s < 8 → ∃ n : Nat, n ≤ 40 ∧ fMz s = nI n) : MR l yX6_element cX6_element 3 (some .long) 6 G cy [zzO qm 5 (.ref qmh :: .ref qmo :: .ref qmz :: .ref qmR :: .ref qmv :: .ref qmk :: .ref qma :: .ref qmt :: .int (nI kZ) :: .ref qmr :: .int (nI (T_nb tA)) :: .ref qmB :: .int (nI (T_np tA)) :: .ref qmO :: .ref qmK :: .int iEn :: .int iTk :: .int (T_sd tA) :: ov uP :: ov uU :: .int (nI kAt) :: .int iTo :: .int iFr :: .long JFi :: .int iFa :: .ref qm3 :: .int iSt :: .int iLv :: .int iWs :: vLa :: .ref qmu :: .ref qmy :: .ref qmb :: .ref qms :: .int iOm :: []), zzI cy qmh 8 fMh, zzI cy qmz 8 fMz, zzG cy 4 qmR rR, zzJ cy (rR 0) 40 (eR 0), zzJ cy (rR 1) 40 (eR 1), zzJ cy (rR 2) 40 (eR 2), zzJ cy (rR 3) 40 (eR 3), zzJ cy (rR 4) 40 (eR 4), zzJ cy (rR 5) 40 (eR 5), zzJ cy (rR 6) 40 (eR 6), zzJ cy (rR 7) 40 (eR 7)] [.ref qm, .int iA, .int iB] (vp_Sl (fun r => PMelem fMh fMz eR iA iB r)) := by
  refine enR RX6 (by decide +kernel) rfl (Nat.le_of_ble_eq_true rfl) (fun p e s m below meth c ls hx hb hml hown hts hr hlocks hP hN hl => ?_)
  have hK := hN.1
  replace hl : lv_has ls 3 [(0, .ref qm), (1, .int iA), (2, .int iB)] := hl
  refine lv_iload_n hx hb (g_27 bX6_element rfl) rfl (lv_at hl 1 rfl) ?_
  refine lv_i2l (v := iA.toInt64) hx hb (g_133 bX6_element rfl) rfl ?_
  refine lv_lconst (v := 0) hx hb (g_9 bX6_element rfl) (by decide +kernel) ?_
  refine lv_ldc2 hx hb hown (hts _ m_t960) (g_20 (v := 85) bX6_element rfl) ?_
  refine kRi (rS (As := [.long iA.toInt64, .long 0, .long 7]) (rest := []) ⟨hx, hb, hml, hown, hts⟩ (c_X6_in l G cy iA.toInt64 0 7) L_X6_74 (preRS hN hP [] rfl) rfl ⟨Nat.le_of_ble_eq_true rfl, Nat.le_of_ble_eq_true rfl⟩ hl.1 (Nat.le_of_ble_eq_true rfl) (g_184 (v := 74) bX6_element rfl) ⟨Nat.le_of_ble_eq_true rfl, Nat.le_of_ble_eq_true rfl⟩) (fun r_1 h_2 => ?_)
  rcases h_2 with ⟨rfl, h_3⟩ | ⟨rfl, h_3⟩
  · obtain ⟨k_4, hk_5, hk_6, rfl⟩ := iv_nI 0 7 (by decide +kernel) (by decide +kernel) h_3
    refine lv_if_eq (tgt := 51) hx hb dX6_element_9 (by decide +kernel) (fun h9 => absurd h9 (by decide +kernel)) (fun _ => ?_)
    refine lv_aload_n hx hb (g_42 bX6_element rfl) rfl (lv_at hl 0 rfl) ?_
    refine va_get (D := G) (ci := 5) (v := .ref qmh) (C := RX6) (T := TX6) (N := 35) hx hb hts iX_X6 hown hK hP 0 rfl rfl 0 (by decide +kernel) (hts _ m_t850) (fun _ h9 => h9) rfl (g_180 (v := 7) bX6_element rfl) ?_
    refine lv_iload_n hx hb (g_27 bX6_element rfl) rfl (lv_at hl 1 rfl) ?_
    refine va_iald hx hb hK hP 1 0 rfl rfl (in_shelf h_3) (g_46 bX6_element rfl) ?_
    refine lv_seti (v := fMh k_4) (congrArg fMh (cl8 (by omega))) ?_
    refine lv_iconst (v := 1) hx hb (g_4 bX6_element rfl) (by decide +kernel) ?_
    refine lv_icmp_ne (tgt := 51) hx hb dX6_element_19 (by decide +kernel) (fun c_8 => ?_) (fun c_8 => ?_)
    · refine lv_lconst (v := 0) hx hb (g_9 bX6_element rfl) (by decide +kernel) ?_
      exact endRl hx hb hr hlocks (Or.inl ⟨rfl, (fun ⟨k, h1, h2, h3, h4⟩ => by have e := nI_inj (by omega) (by omega) h2; subst e; exact c_8 h3)⟩) (g_173 bX6_element rfl)
    · refine lv_iload_n hx hb (g_28 bX6_element rfl) rfl (lv_at hl 2 rfl) ?_
      refine lv_i2l (v := iB.toInt64) hx hb (g_133 bX6_element rfl) rfl ?_
      refine lv_lconst (v := 0) hx hb (g_9 bX6_element rfl) (by decide +kernel) ?_
      refine lv_aload_n hx hb (g_42 bX6_element rfl) rfl (lv_at hl 0 rfl) ?_
      refine va_get (D := G) (ci := 5) (v := .ref qmz) (C := RX6) (T := TX6) (N := 35) hx hb hts iX_X6 hown hK hP 0 rfl rfl 2 (by decide +kernel) (hts _ m_t852) (fun _ h9 => h9) rfl (g_180 (v := 16) bX6_element rfl) ?_
      refine lv_iload_n hx hb (g_27 bX6_element rfl) rfl (lv_at hl 1 rfl) ?_
      refine va_iald hx hb hK hP 2 0 rfl rfl (in_shelf h_3) (g_46 bX6_element rfl) ?_
      refine lv_seti (v := fMz k_4) (congrArg fMz (cl8 (by omega))) ?_
      refine lv_iconst (v := 1) hx hb (g_4 bX6_element rfl) (by decide +kernel) ?_
      refine lv_isub hx hb (g_100 bX6_element rfl) ?_
      refine lv_i2l (v := ((fMz k_4) - 1).toInt64) hx hb (g_133 bX6_element rfl) rfl ?_
      refine kRi (rS (As := [.long iB.toInt64, .long 0, .long (((fMz k_4) - 1).toInt64)]) (rest := []) ⟨hx, hb, hml, hown, hts⟩ (c_X6_in l G cy iB.toInt64 0 (((fMz k_4) - 1).toInt64)) L_X6_74 (preRS hN hP [] rfl) rfl ⟨Nat.le_of_ble_eq_true rfl, Nat.le_of_ble_eq_true rfl⟩ hl.1 (Nat.le_of_ble_eq_true rfl) (g_184 (v := 74) bX6_element rfl) ⟨Nat.le_of_ble_eq_true rfl, Nat.le_of_ble_eq_true rfl⟩) (fun r_9 h_10 => ?_)
      rcases h_10 with ⟨rfl, h_11⟩ | ⟨rfl, h_11⟩
      · refine lv_if_eq (tgt := 51) hx hb dX6_element_37 (by decide +kernel) (fun h9 => absurd h9 (by decide +kernel)) (fun _ => ?_)
        obtain ⟨n_13, hn_14, en_15⟩ := hSz k_4 (by omega)
        obtain ⟨k_16, hk_17, rfl⟩ := sz_in en_15 hn_14 h_11
        refine lv_aload_n hx hb (g_42 bX6_element rfl) rfl (lv_at hl 0 rfl) ?_
        refine va_get (D := G) (ci := 5) (v := .ref qmR) (C := RX6) (T := TX6) (N := 35) hx hb hts iX_X6 hown hK hP 0 rfl rfl 3 (by decide +kernel) (hts _ m_t853) (fun _ h9 => h9) rfl (g_180 (v := 21) bX6_element rfl) ?_
        refine lv_iload_n hx hb (g_27 bX6_element rfl) rfl (lv_at hl 1 rfl) ?_
        refine va_alda hx hb hK hP 3 4 rfl rfl (in_shelf h_3) (g_50 bX6_element rfl) ?_
        refine lv_setv (v := .ref (rR k_4)) (g_ref (by omega)) ?_
        refine lv_iload_n hx hb (g_28 bX6_element rfl) rfl (lv_at hl 2 rfl) ?_
        refine va_lald hx hb hK hP (4 + k_4) 1 (sg8 (n0 := 4) (f := (fun j => zzJ cy (rR j) 40 (eR j))) rfl rfl rfl rfl rfl rfl rfl rfl k_4 (by omega)) rfl (vp_in_nI (by omega) (by omega)) (g_47 bX6_element rfl) ?_
        refine lv_setl (v := eR k_4 k_16) (congrArg (eR k_4) (nI_clamp (by omega))) ?_
        refine lv_goto (tgt := 52) hx hb dX6_element_48 (by decide +kernel) ?_
        exact endRl hx hb hr hlocks (Or.inr ⟨k_4, k_16, by omega, rfl, c_8, by omega, rfl, h_11, rfl⟩) (g_173 bX6_element rfl)
      · refine lv_if_eq (tgt := 51) hx hb dX6_element_37 (by decide +kernel) (fun _ => ?_) (fun h9 => absurd (by decide +kernel) h9)
        refine lv_lconst (v := 0) hx hb (g_9 bX6_element rfl) (by decide +kernel) ?_
        exact endRl hx hb hr hlocks (Or.inl ⟨rfl, (fun ⟨k, h1, h2, h3, h4⟩ => by have e := nI_inj (by omega) (by omega) h2; subst e; exact h_11 h4)⟩) (g_173 bX6_element rfl)
  · refine lv_if_eq (tgt := 51) hx hb dX6_element_9 (by decide +kernel) (fun _ => ?_) (fun h9 => absurd (by decide +kernel) h9)
    refine lv_lconst (v := 0) hx hb (g_9 bX6_element rfl) (by decide +kernel) ?_
    exact endRl hx hb hr hlocks (Or.inl ⟨rfl, fun ⟨k, h1, h2, _⟩ => no_of7 h_3 ⟨k, h1, h2⟩⟩) (g_173 bX6_element rfl)
set_option maxHeartbeats 4000000 in
set_option maxRecDepth 100000 in
theorem p_X6_holds (l : Launch) (G : va_G) (cy : Nat → ClassId) (qm : Nat) (qmh : Nat) (qmo : Nat) (qmz : Nat) (qmR : Nat) (qmv : Nat) (qmk : Nat) (qma : Nat) (qmt : Nat) (kZ : Nat) (qmr : Nat) (tA : TA) (qmB : Nat) (qmO : Nat) (qmK : Nat) (iEn : Int32) (iTk : Int32) (uP : UM) (uU : UM) (kAt : Nat) (iTo : Int32) (iFr : Int32) (JFi : Int64) (iFa : Int32) (qm3 : Nat) (iSt : Int32) (iLv : Int32) (iWs : Int32) (vLa : Value) (qmu : Nat) (qmy : Nat) (qmb : Nat) (qms : Nat) (iOm : Int32) (fMh : Nat → Int32) (fMo : Nat → Int32) (fMk : Nat → Int32) (iA : Int32)   : MR l yX6_holds cX6_holds 2 (some .int) 6 G cy [zzO qm 5 (.ref qmh :: .ref qmo :: .ref qmz :: .ref qmR :: .ref qmv :: .ref qmk :: .ref qma :: .ref qmt :: .int (nI kZ) :: .ref qmr :: .int (nI (T_nb tA)) :: .ref qmB :: .int (nI (T_np tA)) :: .ref qmO :: .ref qmK :: .int iEn :: .int iTk :: .int (T_sd tA) :: ov uP :: ov uU :: .int (nI kAt) :: .int iTo :: .int iFr :: .long JFi :: .int iFa :: .ref qm3 :: .int iSt :: .int iLv :: .int iWs :: vLa :: .ref qmu :: .ref qmy :: .ref qmb :: .ref qms :: .int iOm :: []), zzI cy qmh 8 fMh, zzI cy qmo 8 fMo, zzI cy qmk 8 fMk] [.ref qm, .int iA] (vp_Si (fun r => PMholds fMh fMo fMk iA r)) := by
  refine enR RX6 (by decide +kernel) rfl (Nat.le_of_ble_eq_true rfl) (fun p e s m below meth c ls hx hb hml hown hts hr hlocks hP hN hl => ?_)
  have hK := hN.1
  replace hl : lv_has ls 2 [(0, .ref qm), (1, .int iA)] := hl
  refine lv_iload_n hx hb (g_27 bX6_holds rfl) rfl (lv_at hl 1 rfl) ?_
  refine lv_i2l (v := iA.toInt64) hx hb (g_133 bX6_holds rfl) rfl ?_
  refine lv_lconst (v := 0) hx hb (g_9 bX6_holds rfl) (by decide +kernel) ?_
  refine lv_ldc2 hx hb hown (hts _ m_t960) (g_20 (v := 85) bX6_holds rfl) ?_
  refine kRi (rS (As := [.long iA.toInt64, .long 0, .long 7]) (rest := []) ⟨hx, hb, hml, hown, hts⟩ (c_X6_in l G cy iA.toInt64 0 7) L_X6_74 (preRS hN hP [] rfl) rfl ⟨Nat.le_of_ble_eq_true rfl, Nat.le_of_ble_eq_true rfl⟩ hl.1 (Nat.le_of_ble_eq_true rfl) (g_184 (v := 74) bX6_holds rfl) ⟨Nat.le_of_ble_eq_true rfl, Nat.le_of_ble_eq_true rfl⟩) (fun r_1 h_2 => ?_)
  rcases h_2 with ⟨rfl, h_3⟩ | ⟨rfl, h_3⟩
  · obtain ⟨k_4, hk_5, hk_6, rfl⟩ := iv_nI 0 7 (by decide +kernel) (by decide +kernel) h_3
    refine lv_if_eq (tgt := 21) hx hb dX6_holds_9 (by decide +kernel) (fun h9 => absurd h9 (by decide +kernel)) (fun _ => ?_)
    refine lv_aload_n hx hb (g_42 bX6_holds rfl) rfl (lv_at hl 0 rfl) ?_
    refine va_get (D := G) (ci := 5) (v := .ref qmh) (C := RX6) (T := TX6) (N := 35) hx hb hts iX_X6 hown hK hP 0 rfl rfl 0 (by decide +kernel) (hts _ m_t850) (fun _ h9 => h9) rfl (g_180 (v := 7) bX6_holds rfl) ?_
    refine lv_iload_n hx hb (g_27 bX6_holds rfl) rfl (lv_at hl 1 rfl) ?_
    refine va_iald hx hb hK hP 1 0 rfl rfl (in_shelf h_3) (g_46 bX6_holds rfl) ?_
    refine lv_seti (v := fMh k_4) (congrArg fMh (cl8 (by omega))) ?_
    refine lv_if_ne (tgt := 23) hx hb dX6_holds_18 (by decide +kernel) (fun c_8 => ?_) (fun c_8 => ?_)
    · refine lv_aload_n hx hb (g_42 bX6_holds rfl) rfl (lv_at hl 0 rfl) ?_
      refine va_get (D := G) (ci := 5) (v := .ref qmh) (C := RX6) (T := TX6) (N := 35) hx hb hts iX_X6 hown hK hP 0 rfl rfl 0 (by decide +kernel) (hts _ m_t850) (fun _ h9 => h9) rfl (g_180 (v := 7) bX6_holds rfl) ?_
      refine lv_iload_n hx hb (g_27 bX6_holds rfl) rfl (lv_at hl 1 rfl) ?_
      refine va_iald hx hb hK hP 1 0 rfl rfl (in_shelf h_3) (g_46 bX6_holds rfl) ?_
      refine lv_seti (v := fMh k_4) (congrArg fMh (cl8 (by omega))) ?_
      refine lv_iconst (v := 1) hx hb (g_4 bX6_holds rfl) (by decide +kernel) ?_
      refine lv_icmp_ne (tgt := 42) hx hb dX6_holds_30 (by decide +kernel) (fun c_9 => ?_) (fun c_9 => ?_)
      · refine lv_bipush (v := 10) hx hb dX6_holds_42 (by decide +kernel) ?_
        refine lv_aload_n hx hb (g_42 bX6_holds rfl) rfl (lv_at hl 0 rfl) ?_
        refine va_get (D := G) (ci := 5) (v := .ref qmk) (C := RX6) (T := TX6) (N := 35) hx hb hts iX_X6 hown hK hP 0 rfl rfl 5 (by decide +kernel) (hts _ m_t855) (fun _ h9 => h9) rfl (g_180 (v := 28) bX6_holds rfl) ?_
        refine lv_iload_n hx hb (g_27 bX6_holds rfl) rfl (lv_at hl 1 rfl) ?_
        refine va_iald hx hb hK hP 3 0 rfl rfl (in_shelf h_3) (g_46 bX6_holds rfl) ?_
        refine lv_seti (v := fMk k_4) (congrArg fMk (cl8 (by omega))) ?_
        refine lv_iadd hx hb (g_96 bX6_holds rfl) ?_
        exact endR hx hb hr hlocks rfl (Or.inr ⟨k_4, by omega, rfl, Or.inr (Or.inr ⟨c_8, c_9, rfl⟩)⟩) (g_172 bX6_holds rfl)
      · refine lv_aload_n hx hb (g_42 bX6_holds rfl) rfl (lv_at hl 0 rfl) ?_
        refine va_get (D := G) (ci := 5) (v := .ref qmo) (C := RX6) (T := TX6) (N := 35) hx hb hts iX_X6 hown hK hP 0 rfl rfl 1 (by decide +kernel) (hts _ m_t851) (fun _ h9 => h9) rfl (g_180 (v := 13) bX6_holds rfl) ?_
        refine lv_iload_n hx hb (g_27 bX6_holds rfl) rfl (lv_at hl 1 rfl) ?_
        refine va_iald hx hb hK hP 2 0 rfl rfl (in_shelf h_3) (g_46 bX6_holds rfl) ?_
        refine lv_seti (v := fMo k_4) (congrArg fMo (cl8 (by omega))) ?_
        refine lv_goto (tgt := 51) hx hb dX6_holds_39 (by decide +kernel) ?_
        exact endR hx hb hr hlocks rfl (Or.inr ⟨k_4, by omega, rfl, Or.inr (Or.inl ⟨c_9, rfl⟩)⟩) (g_172 bX6_holds rfl)
    · refine lv_iconst (v := (-1)) hx hb (g_2 bX6_holds rfl) (by decide +kernel) ?_
      exact endR hx hb hr hlocks rfl (Or.inr ⟨k_4, by omega, rfl, Or.inl ⟨c_8, rfl⟩⟩) (g_172 bX6_holds rfl)
  · refine lv_if_eq (tgt := 21) hx hb dX6_holds_9 (by decide +kernel) (fun _ => ?_) (fun h9 => absurd (by decide +kernel) h9)
    refine lv_iconst (v := (-1)) hx hb (g_2 bX6_holds rfl) (by decide +kernel) ?_
    exact endR hx hb hr hlocks rfl (Or.inl ⟨rfl, no_of7 h_3⟩) (g_172 bX6_holds rfl)
set_option maxHeartbeats 4000000 in
set_option maxRecDepth 100000 in
theorem p_X6_rule (l : Launch) (G : va_G) (cy : Nat → ClassId) (sz : Nat) (qm : Nat) (qmh : Nat) (qmo : Nat) (qmz : Nat) (qmR : Nat) (qmv : Nat) (qmk : Nat) (qma : Nat) (qmt : Nat) (kZ : Nat) (qmr : Nat) (tA : TA) (qmB : Nat) (qmO : Nat) (qmK : Nat) (iEn : Int32) (iTk : Int32) (uP : UM) (uU : UM) (kAt : Nat) (iTo : Int32) (iFr : Int32) (JFi : Int64) (iFa : Int32) (qm3 : Nat) (iSt : Int32) (iLv : Int32) (iWs : Int32) (vLa : Value) (qmu : Nat) (qmy : Nat) (qmb : Nat) (qms : Nat) (iOm : Int32) (fMh : Nat → Int32) (fMk : Nat → Int32) (fMa : Nat → Int32) (fMr : Nat → Int32) (iA : Int32) (iB : Int32) (iC : Int32)   : MW l yX6_rule cX6_rule 4 (some .int) 16 0 0 G cy [zzO qm 5 (.ref qmh :: .ref qmo :: .ref qmz :: .ref qmR :: .ref qmv :: .ref qmk :: .ref qma :: .ref qmt :: .int (nI kZ) :: .ref qmr :: .int (nI (T_nb tA)) :: .ref qmB :: .int (nI (T_np tA)) :: .ref qmO :: .ref qmK :: .int iEn :: .int iTk :: .int (T_sd tA) :: ov uP :: ov uU :: .int (nI kAt) :: .int iTo :: .int iFr :: .long JFi :: .int iFa :: .ref qm3 :: .int iSt :: .int iLv :: .int iWs :: vLa :: .ref qmu :: .ref qmy :: .ref qmb :: .ref qms :: .int iOm :: []), zzI cy qmh 8 fMh, zzI cy qmk 8 fMk, zzI cy qma 8 fMa, zzI cy qmr 8 fMr] sz [.ref qm, .int iA, .int iB, .int iC] (Wi G (fun r u => ∃ (fNh : Nat → Int32) (fNk : Nat → Int32) (fNa : Nat → Int32) (fNr : Nat → Int32), u = [zzO qm 5 (.ref qmh :: .ref qmo :: .ref qmz :: .ref qmR :: .ref qmv :: .ref qmk :: .ref qma :: .ref qmt :: .int (nI kZ) :: .ref qmr :: .int (nI (T_nb tA)) :: .ref qmB :: .int (nI (T_np tA)) :: .ref qmO :: .ref qmK :: .int iEn :: .int iTk :: .int (T_sd tA) :: ov uP :: ov uU :: .int (nI kAt) :: .int iTo :: .int iFr :: .long JFi :: .int iFa :: .ref qm3 :: .int iSt :: .int iLv :: .int iWs :: vLa :: .ref qmu :: .ref qmy :: .ref qmb :: .ref qms :: .int iOm :: []), zzI cy qmh 8 fNh, zzI cy qmk 8 fNk, zzI cy qma 8 fNa, zzI cy qmr 8 fNr] ∧ (PMrule fMh fMk fMa iA iB iC r fNh fNk fNa) ∧ (True))) := by
  refine enW RX6 (by decide +kernel) rfl (Nat.le_of_ble_eq_true rfl) (fun p e s m below meth c ls A hx hb hml hown hts hr hlocks hP hN hl hin hD hA hS => ?_)
  have hin : meth.name = _ := hin
  have hK := hN.1
  replace hl : lv_has ls 4 [(0, .ref qm), (1, .int iA), (2, .int iB), (3, .int iC)] := hl
  refine lv_iload_n hx hb (g_27 bX6_rule rfl) rfl (lv_at hl 1 rfl) ?_
  refine lv_i2l (v := iA.toInt64) hx hb (g_133 bX6_rule rfl) rfl ?_
  refine lv_lconst (v := 0) hx hb (g_9 bX6_rule rfl) (by decide +kernel) ?_
  refine lv_ldc2 hx hb hown (hts _ m_t960) (g_20 (v := 85) bX6_rule rfl) ?_
  refine kRi (rS (As := [.long iA.toInt64, .long 0, .long 7]) (rest := []) ⟨hx, hb, hml, hown, hts⟩ (c_X6_in l G cy iA.toInt64 0 7) L_X6_74 (preRS hN hP [] rfl) rfl ⟨Nat.le_of_ble_eq_true rfl, Nat.le_of_ble_eq_true rfl⟩ hl.1 (Nat.le_of_ble_eq_true rfl) (g_184 (v := 74) bX6_rule rfl) ⟨Nat.le_of_ble_eq_true rfl, Nat.le_of_ble_eq_true rfl⟩) (fun r_1 h_2 => ?_)
  rcases h_2 with ⟨rfl, h_3⟩ | ⟨rfl, h_3⟩
  · obtain ⟨k_4, hk_5, hk_6, rfl⟩ := iv_nI 0 7 (by decide +kernel) (by decide +kernel) h_3
    refine lv_if_eq (tgt := 36) hx hb dX6_rule_9 (by decide +kernel) (fun h9 => absurd h9 (by decide +kernel)) (fun _ => ?_)
    refine lv_iload_n hx hb (g_28 bX6_rule rfl) rfl (lv_at hl 2 rfl) ?_
    refine lv_i2l (v := iB.toInt64) hx hb (g_133 bX6_rule rfl) rfl ?_
    refine lv_lconst (v := 1) hx hb (g_10 bX6_rule rfl) (by decide +kernel) ?_
    refine lv_ldc2 hx hb hown (hts _ m_t997) (g_20 (v := 102) bX6_rule rfl) ?_
    refine kRi (rS (As := [.long iB.toInt64, .long 1, .long 6]) (rest := []) ⟨hx, hb, hml, hown, hts⟩ (c_X6_in l G cy iB.toInt64 1 6) L_X6_74 (preRS hN hP [] rfl) rfl ⟨Nat.le_of_ble_eq_true rfl, Nat.le_of_ble_eq_true rfl⟩ hl.1 (Nat.le_of_ble_eq_true rfl) (g_184 (v := 74) bX6_rule rfl) ⟨Nat.le_of_ble_eq_true rfl, Nat.le_of_ble_eq_true rfl⟩) (fun r_8 h_9 => ?_)
    rcases h_9 with ⟨rfl, h_10⟩ | ⟨rfl, h_10⟩
    · refine lv_if_eq (tgt := 36) hx hb dX6_rule_21 (by decide +kernel) (fun h9 => absurd h9 (by decide +kernel)) (fun _ => ?_)
      refine lv_iload_n hx hb (g_29 bX6_rule rfl) rfl (lv_at hl 3 rfl) ?_
      refine lv_i2l (v := iC.toInt64) hx hb (g_133 bX6_rule rfl) rfl ?_
      refine lv_lconst (v := 0) hx hb (g_9 bX6_rule rfl) (by decide +kernel) ?_
      refine lv_ldc2 hx hb hown (hts _ m_t998) (g_20 (v := 104) bX6_rule rfl) ?_
      refine kRi (rS (As := [.long iC.toInt64, .long 0, .long 99]) (rest := []) ⟨hx, hb, hml, hown, hts⟩ (c_X6_in l G cy iC.toInt64 0 99) L_X6_74 (preRS hN hP [] rfl) rfl ⟨Nat.le_of_ble_eq_true rfl, Nat.le_of_ble_eq_true rfl⟩ hl.1 (Nat.le_of_ble_eq_true rfl) (g_184 (v := 74) bX6_rule rfl) ⟨Nat.le_of_ble_eq_true rfl, Nat.le_of_ble_eq_true rfl⟩) (fun r_12 h_13 => ?_)
      rcases h_13 with ⟨rfl, h_14⟩ | ⟨rfl, h_14⟩
      · refine lv_if_ne (tgt := 43) hx hb dX6_rule_33 (by decide +kernel) (fun _ => ?_) (fun h9 => absurd h9 (by decide +kernel))
        refine lv_aload_n hx hb (g_42 bX6_rule rfl) rfl (lv_at hl 0 rfl) ?_
        refine va_get (D := G) (ci := 5) (v := .ref qmh) (C := RX6) (T := TX6) (N := 35) hx hb hts iX_X6 hown hK hP 0 rfl rfl 0 (by decide +kernel) (hts _ m_t850) (fun _ h9 => h9) rfl (g_180 (v := 7) bX6_rule rfl) ?_
        refine lv_iload_n hx hb (g_27 bX6_rule rfl) rfl (lv_at hl 1 rfl) ?_
        refine lv_iconst (v := 2) hx hb (g_5 bX6_rule rfl) (by decide +kernel) ?_
        refine va_iast hx hb hK hP hD hS 1 0 rfl rfl (in_shelf h_3) (g_79 bX6_rule rfl) (fun H locs => ?_)
        clear hP hD hS
        intro hP hD hS
        rw [cl8 (k := k_4) (by omega)] at hP hD
        have hPD := pd_as [_, zzI cy qmh 8 (upd fMh k_4 2), _, _, _] hP hD rfl
        clear hP hD
        obtain ⟨hP, hD⟩ := hPD
        refine lv_aload_n hx hb (g_42 bX6_rule rfl) rfl (lv_at hl 0 rfl) ?_
        refine va_get (D := G) (ci := 5) (v := .ref qmk) (C := RX6) (T := TX6) (N := 35) hx hb hts iX_X6 hown hK hP 0 rfl rfl 5 (by decide +kernel) (hts _ m_t855) (fun _ h9 => h9) rfl (g_180 (v := 28) bX6_rule rfl) ?_
        refine lv_iload_n hx hb (g_27 bX6_rule rfl) rfl (lv_at hl 1 rfl) ?_
        refine lv_iload_n hx hb (g_28 bX6_rule rfl) rfl (lv_at hl 2 rfl) ?_
        refine va_iast hx hb hK hP hD hS 2 0 rfl rfl (in_shelf h_3) (g_79 bX6_rule rfl) (fun H locs => ?_)
        clear hP hD hS
        intro hP hD hS
        rw [cl8 (k := k_4) (by omega)] at hP hD
        have hPD := pd_as [_, _, zzI cy qmk 8 (upd fMk k_4 iB), _, _] hP hD rfl
        clear hP hD
        obtain ⟨hP, hD⟩ := hPD
        refine lv_aload_n hx hb (g_42 bX6_rule rfl) rfl (lv_at hl 0 rfl) ?_
        refine va_get (D := G) (ci := 5) (v := .ref qma) (C := RX6) (T := TX6) (N := 35) hx hb hts iX_X6 hown hK hP 0 rfl rfl 6 (by decide +kernel) (hts _ m_t856) (fun _ h9 => h9) rfl (g_180 (v := 31) bX6_rule rfl) ?_
        refine lv_iload_n hx hb (g_27 bX6_rule rfl) rfl (lv_at hl 1 rfl) ?_
        refine lv_iload_n hx hb (g_29 bX6_rule rfl) rfl (lv_at hl 3 rfl) ?_
        refine va_iast hx hb hK hP hD hS 3 0 rfl rfl (in_shelf h_3) (g_79 bX6_rule rfl) (fun H locs => ?_)
        clear hP hD hS
        intro hP hD hS
        rw [cl8 (k := k_4) (by omega)] at hP hD
        have hPD := pd_as [_, _, _, zzI cy qma 8 (upd fMa k_4 iC), _] hP hD rfl
        clear hP hD
        obtain ⟨hP, hD⟩ := hPD
        refine lv_iconst (v := 1) hx hb (g_4 bX6_rule rfl) (by decide +kernel) ?_
        exact endWs [[true, true, true, true, true]] hx hb hr hlocks rfl hP hD rfl (by decide +kernel) hS ⟨(upd fMh k_4 2), (upd fMk k_4 iB), (upd fMa k_4 iC), fMr, rfl, Or.inr ⟨rfl, k_4, by omega, rfl, h_10, h_14, rfl, rfl, rfl⟩, trivial⟩ (g_172 bX6_rule rfl)
      · refine lv_if_ne (tgt := 43) hx hb dX6_rule_33 (by decide +kernel) (fun h9 => absurd (by decide +kernel) h9) (fun _ => ?_)
        refine lv_aload_n hx hb (g_42 bX6_rule rfl) rfl (lv_at hl 0 rfl) ?_
        refine lv_bipush (v := (-2)) hx hb dX6_rule_37 (by decide +kernel) ?_
        refine cVi (As := [.int (-2)]) (rest := []) (b := qm) (q := (RX6, TX6, 35)) ⟨hx, hb, hml, hown, hts⟩ (c_X6_refuse2 l G cy (s.heap).size qm (.ref qmh) (.ref qmo) (.ref qmz) (.ref qmR) (.ref qmv) (.ref qmk) (.ref qma) (.ref qmt) (.int (nI kZ)) qmr tA qmB qmO qmK iEn iTk (ov uP) (ov uU) (.int (nI kAt)) (.int iTo) (.int iFr) (.long JFi) (.int iFa) (.ref qm3) (.int iSt) iLv iWs vLa (.ref qmu) (.ref qmy) (.ref qmb) (.ref qms) (.int iOm) fMr) L_X6_91 hN hP hD hS hA [0, 4] [false, true, true, true, false] rfl (by decide +kernel) rfl 0 5 rfl rfl rfl ⟨Nat.le_of_ble_eq_true rfl, Nat.le_of_ble_eq_true rfl⟩ hl.1 (Nat.le_of_ble_eq_true rfl) (g_182 (v := 91) bX6_rule rfl) ⟨Nat.le_of_ble_eq_true rfl, Nat.le_of_ble_eq_true rfl⟩ (fun r_17 u_19 H locs h_18 => ?_)
        clear hP hD hS
        intro hP hD hS
        obtain ⟨fX_20, hu9, h_18⟩ := h_18
        have hPD := pd_eq [_, _, _, _, zzI cy qmr 8 fX_20] hP hD hu9 rfl
        clear hP hD hu9
        obtain ⟨hP, hD⟩ := hPD
        subst h_18
        exact endWs [[false, false, false, true], [true, true, true, false, true]] hx hb hr hlocks rfl hP hD rfl (by decide +kernel) hS ⟨fMh, fMk, fMa, fX_20, rfl, Or.inl ⟨rfl, (fun q => h_14 q.2.2), rfl, rfl, rfl⟩, trivial⟩ (g_172 bX6_rule rfl)
    · refine lv_if_eq (tgt := 36) hx hb dX6_rule_21 (by decide +kernel) (fun _ => ?_) (fun h9 => absurd (by decide +kernel) h9)
      refine lv_aload_n hx hb (g_42 bX6_rule rfl) rfl (lv_at hl 0 rfl) ?_
      refine lv_bipush (v := (-2)) hx hb dX6_rule_37 (by decide +kernel) ?_
      refine cVi (As := [.int (-2)]) (rest := []) (b := qm) (q := (RX6, TX6, 35)) ⟨hx, hb, hml, hown, hts⟩ (c_X6_refuse2 l G cy (s.heap).size qm (.ref qmh) (.ref qmo) (.ref qmz) (.ref qmR) (.ref qmv) (.ref qmk) (.ref qma) (.ref qmt) (.int (nI kZ)) qmr tA qmB qmO qmK iEn iTk (ov uP) (ov uU) (.int (nI kAt)) (.int iTo) (.int iFr) (.long JFi) (.int iFa) (.ref qm3) (.int iSt) iLv iWs vLa (.ref qmu) (.ref qmy) (.ref qmb) (.ref qms) (.int iOm) fMr) L_X6_91 hN hP hD hS hA [0, 4] [false, true, true, true, false] rfl (by decide +kernel) rfl 0 5 rfl rfl rfl ⟨Nat.le_of_ble_eq_true rfl, Nat.le_of_ble_eq_true rfl⟩ hl.1 (Nat.le_of_ble_eq_true rfl) (g_182 (v := 91) bX6_rule rfl) ⟨Nat.le_of_ble_eq_true rfl, Nat.le_of_ble_eq_true rfl⟩ (fun r_22 u_24 H locs h_23 => ?_)
      clear hP hD hS
      intro hP hD hS
      obtain ⟨fX_25, hu9, h_23⟩ := h_23
      have hPD := pd_eq [_, _, _, _, zzI cy qmr 8 fX_25] hP hD hu9 rfl
      clear hP hD hu9
      obtain ⟨hP, hD⟩ := hPD
      subst h_23
      exact endWs [[false, false, false, true], [true, true, true, false, true]] hx hb hr hlocks rfl hP hD rfl (by decide +kernel) hS ⟨fMh, fMk, fMa, fX_25, rfl, Or.inl ⟨rfl, (fun q => h_10 q.2.1), rfl, rfl, rfl⟩, trivial⟩ (g_172 bX6_rule rfl)
  · refine lv_if_eq (tgt := 36) hx hb dX6_rule_9 (by decide +kernel) (fun _ => ?_) (fun h9 => absurd (by decide +kernel) h9)
    refine lv_aload_n hx hb (g_42 bX6_rule rfl) rfl (lv_at hl 0 rfl) ?_
    refine lv_bipush (v := (-2)) hx hb dX6_rule_37 (by decide +kernel) ?_
    refine cVi (As := [.int (-2)]) (rest := []) (b := qm) (q := (RX6, TX6, 35)) ⟨hx, hb, hml, hown, hts⟩ (c_X6_refuse2 l G cy (s.heap).size qm (.ref qmh) (.ref qmo) (.ref qmz) (.ref qmR) (.ref qmv) (.ref qmk) (.ref qma) (.ref qmt) (.int (nI kZ)) qmr tA qmB qmO qmK iEn iTk (ov uP) (ov uU) (.int (nI kAt)) (.int iTo) (.int iFr) (.long JFi) (.int iFa) (.ref qm3) (.int iSt) iLv iWs vLa (.ref qmu) (.ref qmy) (.ref qmb) (.ref qms) (.int iOm) fMr) L_X6_91 hN hP hD hS hA [0, 4] [false, true, true, true, false] rfl (by decide +kernel) rfl 0 5 rfl rfl rfl ⟨Nat.le_of_ble_eq_true rfl, Nat.le_of_ble_eq_true rfl⟩ hl.1 (Nat.le_of_ble_eq_true rfl) (g_182 (v := 91) bX6_rule rfl) ⟨Nat.le_of_ble_eq_true rfl, Nat.le_of_ble_eq_true rfl⟩ (fun r_27 u_29 H locs h_28 => ?_)
    clear hP hD hS
    intro hP hD hS
    obtain ⟨fX_30, hu9, h_28⟩ := h_28
    have hPD := pd_eq [_, _, _, _, zzI cy qmr 8 fX_30] hP hD hu9 rfl
    clear hP hD hu9
    obtain ⟨hP, hD⟩ := hPD
    subst h_28
    exact endWs [[false, false, false, true], [true, true, true, false, true]] hx hb hr hlocks rfl hP hD rfl (by decide +kernel) hS ⟨fMh, fMk, fMa, fX_30, rfl, Or.inl ⟨rfl, (fun q => no_of7 h_3 q.1), rfl, rfl, rfl⟩, trivial⟩ (g_172 bX6_rule rfl)
end
section
theorem sz4m {x z : Int32} {n : Nat} (hz : z = nI n) (hn : n ≤ 40) (h0 : ¬ x < 0) (c : x - x / 4 * 4 = 0) (hl : x ≤ z) : ∃ k : Nat, 4 * k ≤ 40 ∧ x = nI (4 * k) := by
  subst hz
  obtain ⟨k, hk, rfl⟩ := nI_of h0
  rw [Int32.le_iff_toInt_le, nI_toInt hk, nI_toInt (by omega)] at hl
  rw [show (4 : Int32) = nI 4 from rfl, pk_rem hk (by omega) (by omega)] at c
  have e : k % 4 = 0 := nI_inj (a := k % 4) (b := 0) (by omega) (by omega) c
  exact ⟨k / 4, by omega, by congr 1; omega⟩
theorem fm_yes {z k : Nat} (hz : z ≤ 250) (hk : k ≤ 4) (c : nI k ≤ 250 - nI z) : z + k ≤ 250 := by
  rw [show (250 : Int32) = nI 250 from rfl, pk_sub (by omega), Int32.le_iff_toInt_le, nI_toInt (by omega), nI_toInt (by omega)] at c
  omega
theorem fm_no {z k : Nat} (hz : z ≤ 250) (hk : k ≤ 4) (c : ¬ nI k ≤ 250 - nI z) : 250 < z + k := by
  rw [show (250 : Int32) = nI 250 from rfl, pk_sub (by omega), Int32.le_iff_toInt_le, nI_toInt (by omega), nI_toInt (by omega)] at c
  omega
theorem in04 {x : Int32} (h : Iv x.toInt64 0 4) : x = 0 ∨ x = 1 ∨ x = 2 ∨ x = 3 ∨ x = 4 := by
  have h1 := toI h (m := 0) (n := 4) (by decide +kernel) (by decide +kernel)
  rcases (show x.toInt = 0 ∨ x.toInt = 1 ∨ x.toInt = 2 ∨ x.toInt = 3 ∨ x.toInt = 4 by omega) with e | e | e | e | e
  · exact Or.inl (eqI (by decide +kernel) e)
  · exact Or.inr (Or.inl (eqI (by decide +kernel) e))
  · exact Or.inr (Or.inr (Or.inl (eqI (by decide +kernel) e)))
  · exact Or.inr (Or.inr (Or.inr (Or.inl (eqI (by decide +kernel) e))))
  · exact Or.inr (Or.inr (Or.inr (Or.inr (eqI (by decide +kernel) e))))
set_option maxHeartbeats 4000000 in
set_option maxRecDepth 100000 in
theorem p_X6_wipe (l : Launch) (G : va_G) (cy : Nat → ClassId) (sz : Nat) (qm : Nat) (qmh : Nat) (qmo : Nat) (qmz : Nat) (qmR : Nat) (qmv : Nat) (qmk : Nat) (qma : Nat) (qmt : Nat) (kZ : Nat) (qmr : Nat) (tA : TA) (qmB : Nat) (qmO : Nat) (qmK : Nat) (iEn : Int32) (iTk : Int32) (uP : UM) (uU : UM) (kAt : Nat) (iTo : Int32) (iFr : Int32) (JFi : Int64) (iFa : Int32) (qm3 : Nat) (iSt : Int32) (iLv : Int32) (iWs : Int32) (vLa : Value) (qmu : Nat) (qmy : Nat) (qmb : Nat) (qms : Nat) (iOm : Int32)   : MW l yX6_wipe cX6_wipe 2 (some .int) 16 0 0 G cy [zzO qm 5 (.ref qmh :: .ref qmo :: .ref qmz :: .ref qmR :: .ref qmv :: .ref qmk :: .ref qma :: .ref qmt :: .int (nI kZ) :: .ref qmr :: .int (nI (T_nb tA)) :: .ref qmB :: .int (nI (T_np tA)) :: .ref qmO :: .ref qmK :: .int iEn :: .int iTk :: .int (T_sd tA) :: ov uP :: ov uU :: .int (nI kAt) :: .int iTo :: .int iFr :: .long JFi :: .int iFa :: .ref qm3 :: .int iSt :: .int iLv :: .int iWs :: vLa :: .ref qmu :: .ref qmy :: .ref qmb :: .ref qms :: .int iOm :: [])] sz [.ref qm] (Wi G (fun r u => ∃ (kNz : Nat), u = [zzO qm 5 (.ref qmh :: .ref qmo :: .ref qmz :: .ref qmR :: .ref qmv :: .ref qmk :: .ref qma :: .ref qmt :: .int (nI kNz) :: .ref qmr :: .int (nI (T_nb tA)) :: .ref qmB :: .int (nI (T_np tA)) :: .ref qmO :: .ref qmK :: .int iEn :: .int iTk :: .int (T_sd tA) :: ov uP :: ov uU :: .int (nI kAt) :: .int iTo :: .int iFr :: .long JFi :: .int iFa :: .ref qm3 :: .int iSt :: .int iLv :: .int iWs :: vLa :: .ref qmu :: .ref qmy :: .ref qmb :: .ref qms :: .int iOm :: [])] ∧ (r = nI kZ ∧ kNz = 0) ∧ (True))) := by
  refine enW RX6 (by decide +kernel) rfl (Nat.le_of_ble_eq_true rfl) (fun p e s m below meth c ls A hx hb hml hown hts hr hlocks hP hN hl hin hD hA hS => ?_)
  have hin : meth.name = _ := hin
  have hK := hN.1
  replace hl : lv_has ls 2 [(0, .ref qm)] := hl
  refine lv_aload_n hx hb (g_42 bX6_wipe rfl) rfl (lv_at hl 0 rfl) ?_
  refine va_get (D := G) (ci := 5) (v := .int (nI kZ)) (C := RX6) (T := TX6) (N := 35) hx hb hts iX_X6 hown hK hP 0 rfl rfl 8 (by decide +kernel) (hts _ m_t858) (fun _ h9 => h9) rfl (g_180 (v := 141) bX6_wipe rfl) ?_
  refine lv_istore_n (lv' := [(1, .int (nI kZ)), (0, .ref qm)]) hx hb (g_60 bX6_wipe rfl) rfl hl (by decide +kernel) rfl (fun ls => ?_)
  clear hl
  intro hl
  refine lv_aload_n hx hb (g_42 bX6_wipe rfl) rfl (lv_at hl 1 rfl) ?_
  refine lv_iconst (v := 0) hx hb (g_3 bX6_wipe rfl) (by decide +kernel) ?_
  refine va_put (D := G) (ci := 5) (v := .int 0) (ty := .int) (C := RX6) (T := TX6) (N := 35) hx hb hts iX_X6 tyX6 tyX6_ok nmX6 hown hK hP hD hS 0 rfl rfl 8 (by decide +kernel) (hts _ m_t858) (fun _ h9 => h9) rfl (by decide +kernel) rfl rfl (Nat.le_of_ble_eq_true rfl) (g_181 (v := 141) bX6_wipe rfl) (fun H locs => ?_)
  clear hP hD hS
  intro hP hD hS
  have hPD := pd_as [zzO qm 5 (.ref qmh :: .ref qmo :: .ref qmz :: .ref qmR :: .ref qmv :: .ref qmk :: .ref qma :: .ref qmt :: .int 0 :: .ref qmr :: .int (nI (T_nb tA)) :: .ref qmB :: .int (nI (T_np tA)) :: .ref qmO :: .ref qmK :: .int iEn :: .int iTk :: .int (T_sd tA) :: ov uP :: ov uU :: .int (nI kAt) :: .int iTo :: .int iFr :: .long JFi :: .int iFa :: .ref qm3 :: .int iSt :: .int iLv :: .int iWs :: vLa :: .ref qmu :: .ref qmy :: .ref qmb :: .ref qms :: .int iOm :: [])] hP hD rfl
  clear hP hD
  obtain ⟨hP, hD⟩ := hPD
  have hPD := pd_as [zzO qm 5 (.ref qmh :: .ref qmo :: .ref qmz :: .ref qmR :: .ref qmv :: .ref qmk :: .ref qma :: .ref qmt :: .int (nI 0) :: .ref qmr :: .int (nI (T_nb tA)) :: .ref qmB :: .int (nI (T_np tA)) :: .ref qmO :: .ref qmK :: .int iEn :: .int iTk :: .int (T_sd tA) :: ov uP :: ov uU :: .int (nI kAt) :: .int iTo :: .int iFr :: .long JFi :: .int iFa :: .ref qm3 :: .int iSt :: .int iLv :: .int iWs :: vLa :: .ref qmu :: .ref qmy :: .ref qmb :: .ref qms :: .int iOm :: [])] hP hD rfl
  clear hP hD
  obtain ⟨hP, hD⟩ := hPD
  refine lv_iload_n hx hb (g_27 bX6_wipe rfl) rfl (lv_at hl 0 rfl) ?_
  exact endWs [[true]] hx hb hr hlocks rfl hP hD rfl (by decide +kernel) hS ⟨0, rfl, ⟨rfl, rfl⟩, trivial⟩ (g_172 bX6_wipe rfl)
set_option maxHeartbeats 4000000 in
set_option maxRecDepth 100000 in
theorem p_X6_bookOf (l : Launch) (G : va_G) (cy : Nat → ClassId) (sz : Nat) (qm : Nat) (qmh : Nat) (qmo : Nat) (qmz : Nat) (qmR : Nat) (qmv : Nat) (qmk : Nat) (qma : Nat) (qmt : Nat) (kZ : Nat) (qmr : Nat) (tA : TA) (qmB : Nat) (qmO : Nat) (qmK : Nat) (iEn : Int32) (iTk : Int32) (uP : UM) (uU : UM) (kAt : Nat) (iTo : Int32) (iFr : Int32) (JFi : Int64) (iFa : Int32) (qm3 : Nat) (iSt : Int32) (iLv : Int32) (iWs : Int32) (vLa : Value) (qmu : Nat) (qmy : Nat) (qmb : Nat) (qms : Nat) (iOm : Int32) (rB : Nat → Nat) (rO : Nat → Nat) (rK : Nat → Nat) (fMr : Nat → Int32) (iA : Int32) (iB : Int32)  (hB : T_nb tA ≤ 8) (hPp : T_np tA ≤ 8) (hTI : TI tA) : MW l yX6_bookOf cX6_bookOf 3 (some .int) 16 0 0 G cy [zzO qm 5 (.ref qmh :: .ref qmo :: .ref qmz :: .ref qmR :: .ref qmv :: .ref qmk :: .ref qma :: .ref qmt :: .int (nI kZ) :: .ref qmr :: .int (nI (T_nb tA)) :: .ref qmB :: .int (nI (T_np tA)) :: .ref qmO :: .ref qmK :: .int iEn :: .int iTk :: .int (T_sd tA) :: ov uP :: ov uU :: .int (nI kAt) :: .int iTo :: .int iFr :: .long JFi :: .int iFa :: .ref qm3 :: .int iSt :: .int iLv :: .int iWs :: vLa :: .ref qmu :: .ref qmy :: .ref qmb :: .ref qms :: .int iOm :: []), zzG cy 3 qmB rB, zzI cy (rB 0) 4 (bkR tA 0), zzI cy (rB 1) 4 (bkR tA 1), zzI cy (rB 2) 4 (bkR tA 2), zzI cy (rB 3) 4 (bkR tA 3), zzI cy (rB 4) 4 (bkR tA 4), zzI cy (rB 5) 4 (bkR tA 5), zzI cy (rB 6) 4 (bkR tA 6), zzI cy (rB 7) 4 (bkR tA 7), zzG cy 3 qmO rO, zzI cy (rO 0) 5 (onR tA 0), zzI cy (rO 1) 5 (onR tA 1), zzI cy (rO 2) 5 (onR tA 2), zzI cy (rO 3) 5 (onR tA 3), zzI cy (rO 4) 5 (onR tA 4), zzI cy (rO 5) 5 (onR tA 5), zzI cy (rO 6) 5 (onR tA 6), zzI cy (rO 7) 5 (onR tA 7), zzG cy 3 qmK rK, zzI cy (rK 0) 8 (T_kn tA 0), zzI cy (rK 1) 8 (T_kn tA 1), zzI cy (rK 2) 8 (T_kn tA 2), zzI cy (rK 3) 8 (T_kn tA 3), zzI cy (rK 4) 8 (T_kn tA 4), zzI cy (rK 5) 8 (T_kn tA 5), zzI cy (rK 6) 8 (T_kn tA 6), zzI cy (rK 7) 8 (T_kn tA 7), zzI cy qmr 8 fMr] sz [.ref qm, .int iA, .int iB] (Wi G (fun r u => ∃ (fNr : Nat → Int32), u = [zzO qm 5 (.ref qmh :: .ref qmo :: .ref qmz :: .ref qmR :: .ref qmv :: .ref qmk :: .ref qma :: .ref qmt :: .int (nI kZ) :: .ref qmr :: .int (nI (T_nb tA)) :: .ref qmB :: .int (nI (T_np tA)) :: .ref qmO :: .ref qmK :: .int iEn :: .int iTk :: .int (T_sd tA) :: ov uP :: ov uU :: .int (nI kAt) :: .int iTo :: .int iFr :: .long JFi :: .int iFa :: .ref qm3 :: .int iSt :: .int iLv :: .int iWs :: vLa :: .ref qmu :: .ref qmy :: .ref qmb :: .ref qms :: .int iOm :: []), zzG cy 3 qmB rB, zzI cy (rB 0) 4 (bkR tA 0), zzI cy (rB 1) 4 (bkR tA 1), zzI cy (rB 2) 4 (bkR tA 2), zzI cy (rB 3) 4 (bkR tA 3), zzI cy (rB 4) 4 (bkR tA 4), zzI cy (rB 5) 4 (bkR tA 5), zzI cy (rB 6) 4 (bkR tA 6), zzI cy (rB 7) 4 (bkR tA 7), zzG cy 3 qmO rO, zzI cy (rO 0) 5 (onR tA 0), zzI cy (rO 1) 5 (onR tA 1), zzI cy (rO 2) 5 (onR tA 2), zzI cy (rO 3) 5 (onR tA 3), zzI cy (rO 4) 5 (onR tA 4), zzI cy (rO 5) 5 (onR tA 5), zzI cy (rO 6) 5 (onR tA 6), zzI cy (rO 7) 5 (onR tA 7), zzG cy 3 qmK rK, zzI cy (rK 0) 8 (T_kn tA 0), zzI cy (rK 1) 8 (T_kn tA 1), zzI cy (rK 2) 8 (T_kn tA 2), zzI cy (rK 3) 8 (T_kn tA 3), zzI cy (rK 4) 8 (T_kn tA 4), zzI cy (rK 5) 8 (T_kn tA 5), zzI cy (rK 6) 8 (T_kn tA 6), zzI cy (rK 7) 8 (T_kn tA 7), zzI cy qmr 8 fNr] ∧ (True))) := by
  refine enW RX6 (by decide +kernel) rfl (Nat.le_of_ble_eq_true rfl) (fun p e s m below meth c ls A hx hb hml hown hts hr hlocks hP hN hl hin hD hA hS => ?_)
  have hin : meth.name = _ := hin
  have hK := hN.1
  replace hl : lv_has ls 3 [(0, .ref qm), (1, .int iA), (2, .int iB)] := hl
  refine lv_aload_n hx hb (g_42 bX6_bookOf rfl) rfl (lv_at hl 0 rfl) ?_
  refine lv_iload_n hx hb (g_27 bX6_bookOf rfl) rfl (lv_at hl 1 rfl) ?_
  refine lv_i2l (v := iA.toInt64) hx hb (g_133 bX6_bookOf rfl) rfl ?_
  refine kRi (rV (As := [.long iA.toInt64]) (rest := []) (b := qm) ⟨hx, hb, hml, hown, hts⟩ (c_X6_isBook l G cy qm (.ref qmh) (.ref qmo) (.ref qmz) (.ref qmR) (.ref qmv) (.ref qmk) (.ref qma) (.ref qmt) (.int (nI kZ)) (.ref qmr) tA qmB qmO qmK iEn iTk (ov uP) (ov uU) (.int (nI kAt)) (.int iTo) (.int iFr) (.long JFi) (.int iFa) (.ref qm3) (.int iSt) iLv iWs vLa (.ref qmu) (.ref qmy) (.ref qmb) (.ref qms) (.int iOm) iA hB) L_X6_229 (preRV (q := (RX6, TX6, 35)) hN hP [0] rfl 0 5 rfl rfl) rfl ⟨Nat.le_of_ble_eq_true rfl, Nat.le_of_ble_eq_true rfl⟩ hl.1 (Nat.le_of_ble_eq_true rfl) (g_182 (v := 229) bX6_bookOf rfl) ⟨Nat.le_of_ble_eq_true rfl, Nat.le_of_ble_eq_true rfl⟩) (fun r_1 h_2 => ?_)
  rcases h_2 with ⟨rfl, h_3⟩ | ⟨rfl, h_3⟩
  · obtain ⟨k_4, hk_5, rfl⟩ := h_3
    refine lv_if_eq (tgt := 21) hx hb dX6_bookOf_6 (by decide +kernel) (fun h9 => absurd h9 (by decide +kernel)) (fun _ => ?_)
    refine lv_iload_n hx hb (g_28 bX6_bookOf rfl) rfl (lv_at hl 2 rfl) ?_
    refine lv_i2l (v := iB.toInt64) hx hb (g_133 bX6_bookOf rfl) rfl ?_
    refine lv_lconst (v := 0) hx hb (g_9 bX6_bookOf rfl) (by decide +kernel) ?_
    refine lv_ldc2 hx hb hown (hts _ m_t964) (g_20 (v := 87) bX6_bookOf rfl) ?_
    refine kRi (rS (As := [.long iB.toInt64, .long 0, .long 4]) (rest := []) ⟨hx, hb, hml, hown, hts⟩ (c_X6_in l G cy iB.toInt64 0 4) L_X6_74 (preRS hN hP [] rfl) rfl ⟨Nat.le_of_ble_eq_true rfl, Nat.le_of_ble_eq_true rfl⟩ hl.1 (Nat.le_of_ble_eq_true rfl) (g_184 (v := 74) bX6_bookOf rfl) ⟨Nat.le_of_ble_eq_true rfl, Nat.le_of_ble_eq_true rfl⟩) (fun r_7 h_8 => ?_)
    rcases h_8 with ⟨rfl, h_9⟩ | ⟨rfl, h_9⟩
    · refine lv_if_ne (tgt := 28) hx hb dX6_bookOf_18 (by decide +kernel) (fun _ => ?_) (fun h9 => absurd h9 (by decide +kernel))
      rcases in04 h_9 with rfl | rfl | rfl | rfl | rfl
      · refine lv_iload_n hx hb (g_28 bX6_bookOf rfl) rfl (lv_at hl 2 rfl) ?_
        refine lv_iconst (v := 4) hx hb (g_7 bX6_bookOf rfl) (by decide +kernel) ?_
        refine lv_icmp_ne (tgt := 49) hx hb dX6_bookOf_30 (by decide +kernel) (fun _ => ?_) (fun h9 => absurd h9 (by decide +kernel))
        refine lv_aload_n hx hb (g_42 bX6_bookOf rfl) rfl (lv_at hl 0 rfl) ?_
        refine va_get (D := G) (ci := 5) (v := .ref qmB) (C := RX6) (T := TX6) (N := 35) hx hb hts iX_X6 hown hK hP 0 rfl rfl 11 (by decide +kernel) (hts _ m_t861) (fun _ h9 => h9) rfl (g_180 (v := 42) bX6_bookOf rfl) ?_
        refine lv_iload_n hx hb (g_27 bX6_bookOf rfl) rfl (lv_at hl 1 rfl) ?_
        refine va_alda hx hb hK hP 1 3 rfl rfl (in8 (by omega)) (g_50 bX6_bookOf rfl) ?_
        refine lv_setv (v := .ref (rB k_4)) (g_ref (by omega)) ?_
        refine lv_iload_n hx hb (g_28 bX6_bookOf rfl) rfl (lv_at hl 2 rfl) ?_
        refine va_iald hx hb hK hP (2 + k_4) 0 (sg8 (n0 := 2) (f := (fun j => zzI cy (rB j) 4 (bkR tA j))) rfl rfl rfl rfl rfl rfl rfl rfl k_4 (by omega)) rfl (in_c rfl) (g_46 bX6_bookOf rfl) ?_
        refine lv_seti (v := T_wo tA k_4) (bk_0 _ _) ?_
        exact endWs [[true, true, true, true, true, true, true, true, true, true, true, true, true, true, true, true, true, true, true, true, true, true, true, true, true, true, true, true, true]] hx hb hr hlocks rfl hP hD rfl (by decide +kernel) hS ⟨fMr, rfl, trivial⟩ (g_172 bX6_bookOf rfl)
      · refine lv_iload_n hx hb (g_28 bX6_bookOf rfl) rfl (lv_at hl 2 rfl) ?_
        refine lv_iconst (v := 4) hx hb (g_7 bX6_bookOf rfl) (by decide +kernel) ?_
        refine lv_icmp_ne (tgt := 49) hx hb dX6_bookOf_30 (by decide +kernel) (fun _ => ?_) (fun h9 => absurd h9 (by decide +kernel))
        refine lv_aload_n hx hb (g_42 bX6_bookOf rfl) rfl (lv_at hl 0 rfl) ?_
        refine va_get (D := G) (ci := 5) (v := .ref qmB) (C := RX6) (T := TX6) (N := 35) hx hb hts iX_X6 hown hK hP 0 rfl rfl 11 (by decide +kernel) (hts _ m_t861) (fun _ h9 => h9) rfl (g_180 (v := 42) bX6_bookOf rfl) ?_
        refine lv_iload_n hx hb (g_27 bX6_bookOf rfl) rfl (lv_at hl 1 rfl) ?_
        refine va_alda hx hb hK hP 1 3 rfl rfl (in8 (by omega)) (g_50 bX6_bookOf rfl) ?_
        refine lv_setv (v := .ref (rB k_4)) (g_ref (by omega)) ?_
        refine lv_iload_n hx hb (g_28 bX6_bookOf rfl) rfl (lv_at hl 2 rfl) ?_
        refine va_iald hx hb hK hP (2 + k_4) 0 (sg8 (n0 := 2) (f := (fun j => zzI cy (rB j) 4 (bkR tA j))) rfl rfl rfl rfl rfl rfl rfl rfl k_4 (by omega)) rfl (in_c rfl) (g_46 bX6_bookOf rfl) ?_
        refine lv_seti (v := T_ne tA k_4) (bk_1 _ _) ?_
        exact endWs [[true, true, true, true, true, true, true, true, true, true, true, true, true, true, true, true, true, true, true, true, true, true, true, true, true, true, true, true, true]] hx hb hr hlocks rfl hP hD rfl (by decide +kernel) hS ⟨fMr, rfl, trivial⟩ (g_172 bX6_bookOf rfl)
      · refine lv_iload_n hx hb (g_28 bX6_bookOf rfl) rfl (lv_at hl 2 rfl) ?_
        refine lv_iconst (v := 4) hx hb (g_7 bX6_bookOf rfl) (by decide +kernel) ?_
        refine lv_icmp_ne (tgt := 49) hx hb dX6_bookOf_30 (by decide +kernel) (fun _ => ?_) (fun h9 => absurd h9 (by decide +kernel))
        refine lv_aload_n hx hb (g_42 bX6_bookOf rfl) rfl (lv_at hl 0 rfl) ?_
        refine va_get (D := G) (ci := 5) (v := .ref qmB) (C := RX6) (T := TX6) (N := 35) hx hb hts iX_X6 hown hK hP 0 rfl rfl 11 (by decide +kernel) (hts _ m_t861) (fun _ h9 => h9) rfl (g_180 (v := 42) bX6_bookOf rfl) ?_
        refine lv_iload_n hx hb (g_27 bX6_bookOf rfl) rfl (lv_at hl 1 rfl) ?_
        refine va_alda hx hb hK hP 1 3 rfl rfl (in8 (by omega)) (g_50 bX6_bookOf rfl) ?_
        refine lv_setv (v := .ref (rB k_4)) (g_ref (by omega)) ?_
        refine lv_iload_n hx hb (g_28 bX6_bookOf rfl) rfl (lv_at hl 2 rfl) ?_
        refine va_iald hx hb hK hP (2 + k_4) 0 (sg8 (n0 := 2) (f := (fun j => zzI cy (rB j) 4 (bkR tA j))) rfl rfl rfl rfl rfl rfl rfl rfl k_4 (by omega)) rfl (in_c rfl) (g_46 bX6_bookOf rfl) ?_
        refine lv_seti (v := T_go tA k_4) (bk_2 _ _) ?_
        exact endWs [[true, true, true, true, true, true, true, true, true, true, true, true, true, true, true, true, true, true, true, true, true, true, true, true, true, true, true, true, true]] hx hb hr hlocks rfl hP hD rfl (by decide +kernel) hS ⟨fMr, rfl, trivial⟩ (g_172 bX6_bookOf rfl)
      · refine lv_iload_n hx hb (g_28 bX6_bookOf rfl) rfl (lv_at hl 2 rfl) ?_
        refine lv_iconst (v := 4) hx hb (g_7 bX6_bookOf rfl) (by decide +kernel) ?_
        refine lv_icmp_ne (tgt := 49) hx hb dX6_bookOf_30 (by decide +kernel) (fun _ => ?_) (fun h9 => absurd h9 (by decide +kernel))
        refine lv_aload_n hx hb (g_42 bX6_bookOf rfl) rfl (lv_at hl 0 rfl) ?_
        refine va_get (D := G) (ci := 5) (v := .ref qmB) (C := RX6) (T := TX6) (N := 35) hx hb hts iX_X6 hown hK hP 0 rfl rfl 11 (by decide +kernel) (hts _ m_t861) (fun _ h9 => h9) rfl (g_180 (v := 42) bX6_bookOf rfl) ?_
        refine lv_iload_n hx hb (g_27 bX6_bookOf rfl) rfl (lv_at hl 1 rfl) ?_
        refine va_alda hx hb hK hP 1 3 rfl rfl (in8 (by omega)) (g_50 bX6_bookOf rfl) ?_
        refine lv_setv (v := .ref (rB k_4)) (g_ref (by omega)) ?_
        refine lv_iload_n hx hb (g_28 bX6_bookOf rfl) rfl (lv_at hl 2 rfl) ?_
        refine va_iald hx hb hK hP (2 + k_4) 0 (sg8 (n0 := 2) (f := (fun j => zzI cy (rB j) 4 (bkR tA j))) rfl rfl rfl rfl rfl rfl rfl rfl k_4 (by omega)) rfl (in_c rfl) (g_46 bX6_bookOf rfl) ?_
        refine lv_seti (v := b01 (T_wh tA k_4)) (bk_3 _ _) ?_
        exact endWs [[true, true, true, true, true, true, true, true, true, true, true, true, true, true, true, true, true, true, true, true, true, true, true, true, true, true, true, true, true]] hx hb hr hlocks rfl hP hD rfl (by decide +kernel) hS ⟨fMr, rfl, trivial⟩ (g_172 bX6_bookOf rfl)
      · refine lv_iload_n hx hb (g_28 bX6_bookOf rfl) rfl (lv_at hl 2 rfl) ?_
        refine lv_iconst (v := 4) hx hb (g_7 bX6_bookOf rfl) (by decide +kernel) ?_
        refine lv_icmp_ne (tgt := 49) hx hb dX6_bookOf_30 (by decide +kernel) (fun h9 => absurd (by decide +kernel) h9) (fun _ => ?_)
        refine lv_aload_n hx hb (g_42 bX6_bookOf rfl) rfl (lv_at hl 0 rfl) ?_
        refine lv_iload_n hx hb (g_27 bX6_bookOf rfl) rfl (lv_at hl 1 rfl) ?_
        refine lv_iconst (v := 1) hx hb (g_4 bX6_bookOf rfl) (by decide +kernel) ?_
        refine lv_aload_n hx hb (g_42 bX6_bookOf rfl) rfl (lv_at hl 0 rfl) ?_
        refine va_get (D := G) (ci := 5) (v := .int (nI (T_np tA))) (C := RX6) (T := TX6) (N := 35) hx hb hts iX_X6 hown hK hP 0 rfl rfl 12 (by decide +kernel) (hts _ m_t862) (fun _ h9 => h9) rfl (g_180 (v := 78) bX6_bookOf rfl) ?_
        refine lv_ishl hx hb (g_120 bX6_bookOf rfl) ?_
        refine lv_iconst (v := 1) hx hb (g_4 bX6_bookOf rfl) (by decide +kernel) ?_
        refine lv_isub hx hb (g_100 bX6_bookOf rfl) ?_
        refine kRi (rV (As := [.int (nI k_4), .int ((1 <<< ((nI (T_np tA)) &&& 31)) - 1)]) (rest := []) (b := qm) ⟨hx, hb, hml, hown, hts⟩ (c_X6_greatest l G cy qm (.ref qmh) (.ref qmo) (.ref qmz) (.ref qmR) (.ref qmv) (.ref qmk) (.ref qma) (.ref qmt) (.int (nI kZ)) (.ref qmr) tA qmB qmO qmK iEn iTk (ov uP) (ov uU) (.int (nI kAt)) (.int iTo) (.int iFr) (.long JFi) (.int iFa) (.ref qm3) (.int iSt) iLv iWs vLa (.ref qmu) (.ref qmy) (.ref qmb) (.ref qms) (.int iOm) rO rK k_4 ((1 <<< ((nI (T_np tA)) &&& 31)) - 1) hPp (by first | omega | (simp only [nb_sr, np_sr, nb_wr, np_wr, nb_rd, np_rd, nb_ch, np_ch, nb_zr, np_zr, nb_za, np_za, nb_ey, np_ey, nb_hf, np_hf, nb_dd, np_dd, nb_so, np_so, nb_skn, np_skn, nb_swh, np_swh, nb_sgn, np_sgn, nb_ssd, np_ssd, nb_sgo, np_sgo, nb_sag, np_sag]; omega))) L_X6_233 (preRV (q := (RX6, TX6, 35)) hN hP (trueIx 0 [true, false, false, false, false, false, false, false, false, false, true, true, true, true, true, true, true, true, true, true, true, true, true, true, true, true, true, true]) (sel_fm rfl rfl) 0 5 rfl rfl) rfl ⟨Nat.le_of_ble_eq_true rfl, Nat.le_of_ble_eq_true rfl⟩ hl.1 (Nat.le_of_ble_eq_true rfl) (g_182 (v := 233) bX6_bookOf rfl) ⟨Nat.le_of_ble_eq_true rfl, Nat.le_of_ble_eq_true rfl⟩) (fun r_16 h_17 => ?_)
        subst h_17
        refine lv_goto (tgt := 57) hx hb dX6_bookOf_46 (by decide +kernel) ?_
        exact endWs [[true, true, true, true, true, true, true, true, true, true, true, true, true, true, true, true, true, true, true, true, true, true, true, true, true, true, true, true, true]] hx hb hr hlocks rfl hP hD rfl (by decide +kernel) hS ⟨fMr, rfl, trivial⟩ (g_172 bX6_bookOf rfl)
    · refine lv_if_ne (tgt := 28) hx hb dX6_bookOf_18 (by decide +kernel) (fun h9 => absurd (by decide +kernel) h9) (fun _ => ?_)
      refine lv_aload_n hx hb (g_42 bX6_bookOf rfl) rfl (lv_at hl 0 rfl) ?_
      refine lv_bipush (v := (-2)) hx hb dX6_bookOf_22 (by decide +kernel) ?_
      refine cVi (As := [.int (-2)]) (rest := []) (b := qm) (q := (RX6, TX6, 35)) ⟨hx, hb, hml, hown, hts⟩ (c_X6_refuse2 l G cy (s.heap).size qm (.ref qmh) (.ref qmo) (.ref qmz) (.ref qmR) (.ref qmv) (.ref qmk) (.ref qma) (.ref qmt) (.int (nI kZ)) qmr tA qmB qmO qmK iEn iTk (ov uP) (ov uU) (.int (nI kAt)) (.int iTo) (.int iFr) (.long JFi) (.int iFa) (.ref qm3) (.int iSt) iLv iWs vLa (.ref qmu) (.ref qmy) (.ref qmb) (.ref qms) (.int iOm) fMr) L_X6_91 hN hP hD hS hA [0, 28] [false, true, true, true, true, true, true, true, true, true, true, true, true, true, true, true, true, true, true, true, true, true, true, true, true, true, true, true, false] rfl (by decide +kernel) rfl 0 5 rfl rfl rfl ⟨Nat.le_of_ble_eq_true rfl, Nat.le_of_ble_eq_true rfl⟩ hl.1 (Nat.le_of_ble_eq_true rfl) (g_182 (v := 91) bX6_bookOf rfl) ⟨Nat.le_of_ble_eq_true rfl, Nat.le_of_ble_eq_true rfl⟩ (fun r_19 u_21 H locs h_20 => ?_)
      clear hP hD hS
      intro hP hD hS
      obtain ⟨fX_22, hu9, h_20⟩ := h_20
      have hPD := pd_eq [_, _, _, _, _, _, _, _, _, _, _, _, _, _, _, _, _, _, _, _, _, _, _, _, _, _, _, _, zzI cy qmr 8 fX_22] hP hD hu9 rfl
      clear hP hD hu9
      obtain ⟨hP, hD⟩ := hPD
      subst h_20
      exact endWs [[false, false, false, false, false, false, false, false, false, false, false, false, false, false, false, false, false, false, false, false, false, false, false, false, false, false, false, true], [true, true, true, true, true, true, true, true, true, true, true, true, true, true, true, true, true, true, true, true, true, true, true, true, true, true, true, false, true]] hx hb hr hlocks rfl hP hD rfl (by decide +kernel) hS ⟨fX_22, rfl, trivial⟩ (g_172 bX6_bookOf rfl)
  · refine lv_if_eq (tgt := 21) hx hb dX6_bookOf_6 (by decide +kernel) (fun _ => ?_) (fun h9 => absurd (by decide +kernel) h9)
    refine lv_aload_n hx hb (g_42 bX6_bookOf rfl) rfl (lv_at hl 0 rfl) ?_
    refine lv_bipush (v := (-2)) hx hb dX6_bookOf_22 (by decide +kernel) ?_
    refine cVi (As := [.int (-2)]) (rest := []) (b := qm) (q := (RX6, TX6, 35)) ⟨hx, hb, hml, hown, hts⟩ (c_X6_refuse2 l G cy (s.heap).size qm (.ref qmh) (.ref qmo) (.ref qmz) (.ref qmR) (.ref qmv) (.ref qmk) (.ref qma) (.ref qmt) (.int (nI kZ)) qmr tA qmB qmO qmK iEn iTk (ov uP) (ov uU) (.int (nI kAt)) (.int iTo) (.int iFr) (.long JFi) (.int iFa) (.ref qm3) (.int iSt) iLv iWs vLa (.ref qmu) (.ref qmy) (.ref qmb) (.ref qms) (.int iOm) fMr) L_X6_91 hN hP hD hS hA [0, 28] [false, true, true, true, true, true, true, true, true, true, true, true, true, true, true, true, true, true, true, true, true, true, true, true, true, true, true, true, false] rfl (by decide +kernel) rfl 0 5 rfl rfl rfl ⟨Nat.le_of_ble_eq_true rfl, Nat.le_of_ble_eq_true rfl⟩ hl.1 (Nat.le_of_ble_eq_true rfl) (g_182 (v := 91) bX6_bookOf rfl) ⟨Nat.le_of_ble_eq_true rfl, Nat.le_of_ble_eq_true rfl⟩ (fun r_24 u_26 H locs h_25 => ?_)
    clear hP hD hS
    intro hP hD hS
    obtain ⟨fX_27, hu9, h_25⟩ := h_25
    have hPD := pd_eq [_, _, _, _, _, _, _, _, _, _, _, _, _, _, _, _, _, _, _, _, _, _, _, _, _, _, _, _, zzI cy qmr 8 fX_27] hP hD hu9 rfl
    clear hP hD hu9
    obtain ⟨hP, hD⟩ := hPD
    subst h_25
    exact endWs [[false, false, false, false, false, false, false, false, false, false, false, false, false, false, false, false, false, false, false, false, false, false, false, false, false, false, false, true], [true, true, true, true, true, true, true, true, true, true, true, true, true, true, true, true, true, true, true, true, true, true, true, true, true, true, true, false, true]] hx hb hr hlocks rfl hP hD rfl (by decide +kernel) hS ⟨fX_27, rfl, trivial⟩ (g_172 bX6_bookOf rfl)
set_option maxHeartbeats 4000000 in
set_option maxRecDepth 100000 in
theorem p_X6_oneOf (l : Launch) (G : va_G) (cy : Nat → ClassId) (sz : Nat) (qm : Nat) (qmh : Nat) (qmo : Nat) (qmz : Nat) (qmR : Nat) (qmv : Nat) (qmk : Nat) (qma : Nat) (qmt : Nat) (kZ : Nat) (qmr : Nat) (tA : TA) (qmB : Nat) (qmO : Nat) (qmK : Nat) (iEn : Int32) (iTk : Int32) (uP : UM) (uU : UM) (kAt : Nat) (iTo : Int32) (iFr : Int32) (JFi : Int64) (iFa : Int32) (qm3 : Nat) (iSt : Int32) (iLv : Int32) (iWs : Int32) (vLa : Value) (qmu : Nat) (qmy : Nat) (qmb : Nat) (qms : Nat) (iOm : Int32) (rB : Nat → Nat) (rO : Nat → Nat) (rK : Nat → Nat) (fMr : Nat → Int32) (iA : Int32) (iB : Int32)  (hB : T_nb tA ≤ 8) (hPp : T_np tA ≤ 8) (hTI : TI tA) : MW l yX6_oneOf cX6_oneOf 3 (some .int) 16 0 0 G cy [zzO qm 5 (.ref qmh :: .ref qmo :: .ref qmz :: .ref qmR :: .ref qmv :: .ref qmk :: .ref qma :: .ref qmt :: .int (nI kZ) :: .ref qmr :: .int (nI (T_nb tA)) :: .ref qmB :: .int (nI (T_np tA)) :: .ref qmO :: .ref qmK :: .int iEn :: .int iTk :: .int (T_sd tA) :: ov uP :: ov uU :: .int (nI kAt) :: .int iTo :: .int iFr :: .long JFi :: .int iFa :: .ref qm3 :: .int iSt :: .int iLv :: .int iWs :: vLa :: .ref qmu :: .ref qmy :: .ref qmb :: .ref qms :: .int iOm :: []), zzG cy 3 qmB rB, zzI cy (rB 0) 4 (bkR tA 0), zzI cy (rB 1) 4 (bkR tA 1), zzI cy (rB 2) 4 (bkR tA 2), zzI cy (rB 3) 4 (bkR tA 3), zzI cy (rB 4) 4 (bkR tA 4), zzI cy (rB 5) 4 (bkR tA 5), zzI cy (rB 6) 4 (bkR tA 6), zzI cy (rB 7) 4 (bkR tA 7), zzG cy 3 qmO rO, zzI cy (rO 0) 5 (onR tA 0), zzI cy (rO 1) 5 (onR tA 1), zzI cy (rO 2) 5 (onR tA 2), zzI cy (rO 3) 5 (onR tA 3), zzI cy (rO 4) 5 (onR tA 4), zzI cy (rO 5) 5 (onR tA 5), zzI cy (rO 6) 5 (onR tA 6), zzI cy (rO 7) 5 (onR tA 7), zzG cy 3 qmK rK, zzI cy (rK 0) 8 (T_kn tA 0), zzI cy (rK 1) 8 (T_kn tA 1), zzI cy (rK 2) 8 (T_kn tA 2), zzI cy (rK 3) 8 (T_kn tA 3), zzI cy (rK 4) 8 (T_kn tA 4), zzI cy (rK 5) 8 (T_kn tA 5), zzI cy (rK 6) 8 (T_kn tA 6), zzI cy (rK 7) 8 (T_kn tA 7), zzI cy qmr 8 fMr] sz [.ref qm, .int iA, .int iB] (Wi G (fun r u => ∃ (fNr : Nat → Int32), u = [zzO qm 5 (.ref qmh :: .ref qmo :: .ref qmz :: .ref qmR :: .ref qmv :: .ref qmk :: .ref qma :: .ref qmt :: .int (nI kZ) :: .ref qmr :: .int (nI (T_nb tA)) :: .ref qmB :: .int (nI (T_np tA)) :: .ref qmO :: .ref qmK :: .int iEn :: .int iTk :: .int (T_sd tA) :: ov uP :: ov uU :: .int (nI kAt) :: .int iTo :: .int iFr :: .long JFi :: .int iFa :: .ref qm3 :: .int iSt :: .int iLv :: .int iWs :: vLa :: .ref qmu :: .ref qmy :: .ref qmb :: .ref qms :: .int iOm :: []), zzG cy 3 qmB rB, zzI cy (rB 0) 4 (bkR tA 0), zzI cy (rB 1) 4 (bkR tA 1), zzI cy (rB 2) 4 (bkR tA 2), zzI cy (rB 3) 4 (bkR tA 3), zzI cy (rB 4) 4 (bkR tA 4), zzI cy (rB 5) 4 (bkR tA 5), zzI cy (rB 6) 4 (bkR tA 6), zzI cy (rB 7) 4 (bkR tA 7), zzG cy 3 qmO rO, zzI cy (rO 0) 5 (onR tA 0), zzI cy (rO 1) 5 (onR tA 1), zzI cy (rO 2) 5 (onR tA 2), zzI cy (rO 3) 5 (onR tA 3), zzI cy (rO 4) 5 (onR tA 4), zzI cy (rO 5) 5 (onR tA 5), zzI cy (rO 6) 5 (onR tA 6), zzI cy (rO 7) 5 (onR tA 7), zzG cy 3 qmK rK, zzI cy (rK 0) 8 (T_kn tA 0), zzI cy (rK 1) 8 (T_kn tA 1), zzI cy (rK 2) 8 (T_kn tA 2), zzI cy (rK 3) 8 (T_kn tA 3), zzI cy (rK 4) 8 (T_kn tA 4), zzI cy (rK 5) 8 (T_kn tA 5), zzI cy (rK 6) 8 (T_kn tA 6), zzI cy (rK 7) 8 (T_kn tA 7), zzI cy qmr 8 fNr] ∧ (True))) := by
  refine enW RX6 (by decide +kernel) rfl (Nat.le_of_ble_eq_true rfl) (fun p e s m below meth c ls A hx hb hml hown hts hr hlocks hP hN hl hin hD hA hS => ?_)
  have hin : meth.name = _ := hin
  have hK := hN.1
  replace hl : lv_has ls 3 [(0, .ref qm), (1, .int iA), (2, .int iB)] := hl
  refine lv_aload_n hx hb (g_42 bX6_oneOf rfl) rfl (lv_at hl 0 rfl) ?_
  refine lv_iload_n hx hb (g_27 bX6_oneOf rfl) rfl (lv_at hl 1 rfl) ?_
  refine lv_i2l (v := iA.toInt64) hx hb (g_133 bX6_oneOf rfl) rfl ?_
  refine kRi (rV (As := [.long iA.toInt64]) (rest := []) (b := qm) ⟨hx, hb, hml, hown, hts⟩ (c_X6_isOne l G cy qm (.ref qmh) (.ref qmo) (.ref qmz) (.ref qmR) (.ref qmv) (.ref qmk) (.ref qma) (.ref qmt) (.int (nI kZ)) (.ref qmr) tA qmB qmO qmK iEn iTk (ov uP) (ov uU) (.int (nI kAt)) (.int iTo) (.int iFr) (.long JFi) (.int iFa) (.ref qm3) (.int iSt) iLv iWs vLa (.ref qmu) (.ref qmy) (.ref qmb) (.ref qms) (.int iOm) iA hPp) L_X6_236 (preRV (q := (RX6, TX6, 35)) hN hP [0] rfl 0 5 rfl rfl) rfl ⟨Nat.le_of_ble_eq_true rfl, Nat.le_of_ble_eq_true rfl⟩ hl.1 (Nat.le_of_ble_eq_true rfl) (g_182 (v := 236) bX6_oneOf rfl) ⟨Nat.le_of_ble_eq_true rfl, Nat.le_of_ble_eq_true rfl⟩) (fun r_1 h_2 => ?_)
  rcases h_2 with ⟨rfl, h_3⟩ | ⟨rfl, h_3⟩
  · obtain ⟨k_4, hk_5, rfl⟩ := h_3
    refine lv_if_eq (tgt := 32) hx hb dX6_oneOf_6 (by decide +kernel) (fun h9 => absurd h9 (by decide +kernel)) (fun _ => ?_)
    refine lv_iload_n hx hb (g_28 bX6_oneOf rfl) rfl (lv_at hl 2 rfl) ?_
    refine lv_i2l (v := iB.toInt64) hx hb (g_133 bX6_oneOf rfl) rfl ?_
    refine lv_lconst (v := 0) hx hb (g_9 bX6_oneOf rfl) (by decide +kernel) ?_
    refine lv_ldc2 hx hb hown (hts _ m_t964) (g_20 (v := 87) bX6_oneOf rfl) ?_
    refine kRi (rS (As := [.long iB.toInt64, .long 0, .long 4]) (rest := []) ⟨hx, hb, hml, hown, hts⟩ (c_X6_in l G cy iB.toInt64 0 4) L_X6_74 (preRS hN hP [] rfl) rfl ⟨Nat.le_of_ble_eq_true rfl, Nat.le_of_ble_eq_true rfl⟩ hl.1 (Nat.le_of_ble_eq_true rfl) (g_184 (v := 74) bX6_oneOf rfl) ⟨Nat.le_of_ble_eq_true rfl, Nat.le_of_ble_eq_true rfl⟩) (fun r_7 h_8 => ?_)
    rcases h_8 with ⟨rfl, h_9⟩ | ⟨rfl, h_9⟩
    · refine lv_if_eq (tgt := 32) hx hb dX6_oneOf_18 (by decide +kernel) (fun h9 => absurd h9 (by decide +kernel)) (fun _ => ?_)
      rcases in04 h_9 with rfl | rfl | rfl | rfl | rfl
      · refine lv_aload_n hx hb (g_42 bX6_oneOf rfl) rfl (lv_at hl 0 rfl) ?_
        refine va_get (D := G) (ci := 5) (v := .ref qmO) (C := RX6) (T := TX6) (N := 35) hx hb hts iX_X6 hown hK hP 0 rfl rfl 13 (by decide +kernel) (hts _ m_t863) (fun _ h9 => h9) rfl (g_180 (v := 45) bX6_oneOf rfl) ?_
        refine lv_iload_n hx hb (g_27 bX6_oneOf rfl) rfl (lv_at hl 1 rfl) ?_
        refine va_alda hx hb hK hP 10 3 rfl rfl (in8 (by omega)) (g_50 bX6_oneOf rfl) ?_
        refine lv_setv (v := .ref (rO k_4)) (g_ref (by omega)) ?_
        refine lv_iload_n hx hb (g_28 bX6_oneOf rfl) rfl (lv_at hl 2 rfl) ?_
        refine va_iald hx hb hK hP (11 + k_4) 0 (sg8 (n0 := 11) (f := (fun j => zzI cy (rO j) 5 (onR tA j))) rfl rfl rfl rfl rfl rfl rfl rfl k_4 (by omega)) rfl (in_c rfl) (g_46 bX6_oneOf rfl) ?_
        refine lv_seti (v := T_ag tA k_4) (on_0 _ _) ?_
        refine lv_goto (tgt := 38) hx hb dX6_oneOf_29 (by decide +kernel) ?_
        exact endWs [[true, true, true, true, true, true, true, true, true, true, true, true, true, true, true, true, true, true, true, true, true, true, true, true, true, true, true, true, true]] hx hb hr hlocks rfl hP hD rfl (by decide +kernel) hS ⟨fMr, rfl, trivial⟩ (g_172 bX6_oneOf rfl)
      · refine lv_aload_n hx hb (g_42 bX6_oneOf rfl) rfl (lv_at hl 0 rfl) ?_
        refine va_get (D := G) (ci := 5) (v := .ref qmO) (C := RX6) (T := TX6) (N := 35) hx hb hts iX_X6 hown hK hP 0 rfl rfl 13 (by decide +kernel) (hts _ m_t863) (fun _ h9 => h9) rfl (g_180 (v := 45) bX6_oneOf rfl) ?_
        refine lv_iload_n hx hb (g_27 bX6_oneOf rfl) rfl (lv_at hl 1 rfl) ?_
        refine va_alda hx hb hK hP 10 3 rfl rfl (in8 (by omega)) (g_50 bX6_oneOf rfl) ?_
        refine lv_setv (v := .ref (rO k_4)) (g_ref (by omega)) ?_
        refine lv_iload_n hx hb (g_28 bX6_oneOf rfl) rfl (lv_at hl 2 rfl) ?_
        refine va_iald hx hb hK hP (11 + k_4) 0 (sg8 (n0 := 11) (f := (fun j => zzI cy (rO j) 5 (onR tA j))) rfl rfl rfl rfl rfl rfl rfl rfl k_4 (by omega)) rfl (in_c rfl) (g_46 bX6_oneOf rfl) ?_
        refine lv_seti (v := T_re tA k_4) (on_1' _ _) ?_
        refine lv_goto (tgt := 38) hx hb dX6_oneOf_29 (by decide +kernel) ?_
        exact endWs [[true, true, true, true, true, true, true, true, true, true, true, true, true, true, true, true, true, true, true, true, true, true, true, true, true, true, true, true, true]] hx hb hr hlocks rfl hP hD rfl (by decide +kernel) hS ⟨fMr, rfl, trivial⟩ (g_172 bX6_oneOf rfl)
      · refine lv_aload_n hx hb (g_42 bX6_oneOf rfl) rfl (lv_at hl 0 rfl) ?_
        refine va_get (D := G) (ci := 5) (v := .ref qmO) (C := RX6) (T := TX6) (N := 35) hx hb hts iX_X6 hown hK hP 0 rfl rfl 13 (by decide +kernel) (hts _ m_t863) (fun _ h9 => h9) rfl (g_180 (v := 45) bX6_oneOf rfl) ?_
        refine lv_iload_n hx hb (g_27 bX6_oneOf rfl) rfl (lv_at hl 1 rfl) ?_
        refine va_alda hx hb hK hP 10 3 rfl rfl (in8 (by omega)) (g_50 bX6_oneOf rfl) ?_
        refine lv_setv (v := .ref (rO k_4)) (g_ref (by omega)) ?_
        refine lv_iload_n hx hb (g_28 bX6_oneOf rfl) rfl (lv_at hl 2 rfl) ?_
        refine va_iald hx hb hK hP (11 + k_4) 0 (sg8 (n0 := 11) (f := (fun j => zzI cy (rO j) 5 (onR tA j))) rfl rfl rfl rfl rfl rfl rfl rfl k_4 (by omega)) rfl (in_c rfl) (g_46 bX6_oneOf rfl) ?_
        refine lv_seti (v := T_me tA k_4) (on_2' _ _) ?_
        refine lv_goto (tgt := 38) hx hb dX6_oneOf_29 (by decide +kernel) ?_
        exact endWs [[true, true, true, true, true, true, true, true, true, true, true, true, true, true, true, true, true, true, true, true, true, true, true, true, true, true, true, true, true]] hx hb hr hlocks rfl hP hD rfl (by decide +kernel) hS ⟨fMr, rfl, trivial⟩ (g_172 bX6_oneOf rfl)
      · refine lv_aload_n hx hb (g_42 bX6_oneOf rfl) rfl (lv_at hl 0 rfl) ?_
        refine va_get (D := G) (ci := 5) (v := .ref qmO) (C := RX6) (T := TX6) (N := 35) hx hb hts iX_X6 hown hK hP 0 rfl rfl 13 (by decide +kernel) (hts _ m_t863) (fun _ h9 => h9) rfl (g_180 (v := 45) bX6_oneOf rfl) ?_
        refine lv_iload_n hx hb (g_27 bX6_oneOf rfl) rfl (lv_at hl 1 rfl) ?_
        refine va_alda hx hb hK hP 10 3 rfl rfl (in8 (by omega)) (g_50 bX6_oneOf rfl) ?_
        refine lv_setv (v := .ref (rO k_4)) (g_ref (by omega)) ?_
        refine lv_iload_n hx hb (g_28 bX6_oneOf rfl) rfl (lv_at hl 2 rfl) ?_
        refine va_iald hx hb hK hP (11 + k_4) 0 (sg8 (n0 := 11) (f := (fun j => zzI cy (rO j) 5 (onR tA j))) rfl rfl rfl rfl rfl rfl rfl rfl k_4 (by omega)) rfl (in_c rfl) (g_46 bX6_oneOf rfl) ?_
        refine lv_seti (v := T_te tA k_4) (on_3 _ _) ?_
        refine lv_goto (tgt := 38) hx hb dX6_oneOf_29 (by decide +kernel) ?_
        exact endWs [[true, true, true, true, true, true, true, true, true, true, true, true, true, true, true, true, true, true, true, true, true, true, true, true, true, true, true, true, true]] hx hb hr hlocks rfl hP hD rfl (by decide +kernel) hS ⟨fMr, rfl, trivial⟩ (g_172 bX6_oneOf rfl)
      · refine lv_aload_n hx hb (g_42 bX6_oneOf rfl) rfl (lv_at hl 0 rfl) ?_
        refine va_get (D := G) (ci := 5) (v := .ref qmO) (C := RX6) (T := TX6) (N := 35) hx hb hts iX_X6 hown hK hP 0 rfl rfl 13 (by decide +kernel) (hts _ m_t863) (fun _ h9 => h9) rfl (g_180 (v := 45) bX6_oneOf rfl) ?_
        refine lv_iload_n hx hb (g_27 bX6_oneOf rfl) rfl (lv_at hl 1 rfl) ?_
        refine va_alda hx hb hK hP 10 3 rfl rfl (in8 (by omega)) (g_50 bX6_oneOf rfl) ?_
        refine lv_setv (v := .ref (rO k_4)) (g_ref (by omega)) ?_
        refine lv_iload_n hx hb (g_28 bX6_oneOf rfl) rfl (lv_at hl 2 rfl) ?_
        refine va_iald hx hb hK hP (11 + k_4) 0 (sg8 (n0 := 11) (f := (fun j => zzI cy (rO j) 5 (onR tA j))) rfl rfl rfl rfl rfl rfl rfl rfl k_4 (by omega)) rfl (in_c rfl) (g_46 bX6_oneOf rfl) ?_
        refine lv_seti (v := b01 (T_gn tA k_4)) (on_4 _ _) ?_
        refine lv_goto (tgt := 38) hx hb dX6_oneOf_29 (by decide +kernel) ?_
        exact endWs [[true, true, true, true, true, true, true, true, true, true, true, true, true, true, true, true, true, true, true, true, true, true, true, true, true, true, true, true, true]] hx hb hr hlocks rfl hP hD rfl (by decide +kernel) hS ⟨fMr, rfl, trivial⟩ (g_172 bX6_oneOf rfl)
    · refine lv_if_eq (tgt := 32) hx hb dX6_oneOf_18 (by decide +kernel) (fun _ => ?_) (fun h9 => absurd (by decide +kernel) h9)
      refine lv_aload_n hx hb (g_42 bX6_oneOf rfl) rfl (lv_at hl 0 rfl) ?_
      refine lv_bipush (v := (-2)) hx hb dX6_oneOf_33 (by decide +kernel) ?_
      refine cVi (As := [.int (-2)]) (rest := []) (b := qm) (q := (RX6, TX6, 35)) ⟨hx, hb, hml, hown, hts⟩ (c_X6_refuse2 l G cy (s.heap).size qm (.ref qmh) (.ref qmo) (.ref qmz) (.ref qmR) (.ref qmv) (.ref qmk) (.ref qma) (.ref qmt) (.int (nI kZ)) qmr tA qmB qmO qmK iEn iTk (ov uP) (ov uU) (.int (nI kAt)) (.int iTo) (.int iFr) (.long JFi) (.int iFa) (.ref qm3) (.int iSt) iLv iWs vLa (.ref qmu) (.ref qmy) (.ref qmb) (.ref qms) (.int iOm) fMr) L_X6_91 hN hP hD hS hA [0, 28] [false, true, true, true, true, true, true, true, true, true, true, true, true, true, true, true, true, true, true, true, true, true, true, true, true, true, true, true, false] rfl (by decide +kernel) rfl 0 5 rfl rfl rfl ⟨Nat.le_of_ble_eq_true rfl, Nat.le_of_ble_eq_true rfl⟩ hl.1 (Nat.le_of_ble_eq_true rfl) (g_182 (v := 91) bX6_oneOf rfl) ⟨Nat.le_of_ble_eq_true rfl, Nat.le_of_ble_eq_true rfl⟩ (fun r_12 u_14 H locs h_13 => ?_)
      clear hP hD hS
      intro hP hD hS
      obtain ⟨fX_15, hu9, h_13⟩ := h_13
      have hPD := pd_eq [_, _, _, _, _, _, _, _, _, _, _, _, _, _, _, _, _, _, _, _, _, _, _, _, _, _, _, _, zzI cy qmr 8 fX_15] hP hD hu9 rfl
      clear hP hD hu9
      obtain ⟨hP, hD⟩ := hPD
      subst h_13
      exact endWs [[false, false, false, false, false, false, false, false, false, false, false, false, false, false, false, false, false, false, false, false, false, false, false, false, false, false, false, true], [true, true, true, true, true, true, true, true, true, true, true, true, true, true, true, true, true, true, true, true, true, true, true, true, true, true, true, false, true]] hx hb hr hlocks rfl hP hD rfl (by decide +kernel) hS ⟨fX_15, rfl, trivial⟩ (g_172 bX6_oneOf rfl)
  · refine lv_if_eq (tgt := 32) hx hb dX6_oneOf_6 (by decide +kernel) (fun _ => ?_) (fun h9 => absurd (by decide +kernel) h9)
    refine lv_aload_n hx hb (g_42 bX6_oneOf rfl) rfl (lv_at hl 0 rfl) ?_
    refine lv_bipush (v := (-2)) hx hb dX6_oneOf_33 (by decide +kernel) ?_
    refine cVi (As := [.int (-2)]) (rest := []) (b := qm) (q := (RX6, TX6, 35)) ⟨hx, hb, hml, hown, hts⟩ (c_X6_refuse2 l G cy (s.heap).size qm (.ref qmh) (.ref qmo) (.ref qmz) (.ref qmR) (.ref qmv) (.ref qmk) (.ref qma) (.ref qmt) (.int (nI kZ)) qmr tA qmB qmO qmK iEn iTk (ov uP) (ov uU) (.int (nI kAt)) (.int iTo) (.int iFr) (.long JFi) (.int iFa) (.ref qm3) (.int iSt) iLv iWs vLa (.ref qmu) (.ref qmy) (.ref qmb) (.ref qms) (.int iOm) fMr) L_X6_91 hN hP hD hS hA [0, 28] [false, true, true, true, true, true, true, true, true, true, true, true, true, true, true, true, true, true, true, true, true, true, true, true, true, true, true, true, false] rfl (by decide +kernel) rfl 0 5 rfl rfl rfl ⟨Nat.le_of_ble_eq_true rfl, Nat.le_of_ble_eq_true rfl⟩ hl.1 (Nat.le_of_ble_eq_true rfl) (g_182 (v := 91) bX6_oneOf rfl) ⟨Nat.le_of_ble_eq_true rfl, Nat.le_of_ble_eq_true rfl⟩ (fun r_17 u_19 H locs h_18 => ?_)
    clear hP hD hS
    intro hP hD hS
    obtain ⟨fX_20, hu9, h_18⟩ := h_18
    have hPD := pd_eq [_, _, _, _, _, _, _, _, _, _, _, _, _, _, _, _, _, _, _, _, _, _, _, _, _, _, _, _, zzI cy qmr 8 fX_20] hP hD hu9 rfl
    clear hP hD hu9
    obtain ⟨hP, hD⟩ := hPD
    subst h_18
    exact endWs [[false, false, false, false, false, false, false, false, false, false, false, false, false, false, false, false, false, false, false, false, false, false, false, false, false, false, false, true], [true, true, true, true, true, true, true, true, true, true, true, true, true, true, true, true, true, true, true, true, true, true, true, true, true, true, true, false, true]] hx hb hr hlocks rfl hP hD rfl (by decide +kernel) hS ⟨fX_20, rfl, trivial⟩ (g_172 bX6_oneOf rfl)
set_option maxHeartbeats 4000000 in
set_option maxRecDepth 100000 in
theorem p_X6_known (l : Launch) (G : va_G) (cy : Nat → ClassId) (sz : Nat) (qm : Nat) (qmh : Nat) (qmo : Nat) (qmz : Nat) (qmR : Nat) (qmv : Nat) (qmk : Nat) (qma : Nat) (qmt : Nat) (kZ : Nat) (qmr : Nat) (tA : TA) (qmB : Nat) (qmO : Nat) (qmK : Nat) (iEn : Int32) (iTk : Int32) (uP : UM) (uU : UM) (kAt : Nat) (iTo : Int32) (iFr : Int32) (JFi : Int64) (iFa : Int32) (qm3 : Nat) (iSt : Int32) (iLv : Int32) (iWs : Int32) (vLa : Value) (qmu : Nat) (qmy : Nat) (qmb : Nat) (qms : Nat) (iOm : Int32) (rB : Nat → Nat) (rO : Nat → Nat) (rK : Nat → Nat) (fMr : Nat → Int32) (iA : Int32) (iB : Int32)  (hB : T_nb tA ≤ 8) (hPp : T_np tA ≤ 8) (hTI : TI tA) : MW l yX6_known cX6_known 3 (some .int) 16 0 0 G cy [zzO qm 5 (.ref qmh :: .ref qmo :: .ref qmz :: .ref qmR :: .ref qmv :: .ref qmk :: .ref qma :: .ref qmt :: .int (nI kZ) :: .ref qmr :: .int (nI (T_nb tA)) :: .ref qmB :: .int (nI (T_np tA)) :: .ref qmO :: .ref qmK :: .int iEn :: .int iTk :: .int (T_sd tA) :: ov uP :: ov uU :: .int (nI kAt) :: .int iTo :: .int iFr :: .long JFi :: .int iFa :: .ref qm3 :: .int iSt :: .int iLv :: .int iWs :: vLa :: .ref qmu :: .ref qmy :: .ref qmb :: .ref qms :: .int iOm :: []), zzG cy 3 qmB rB, zzI cy (rB 0) 4 (bkR tA 0), zzI cy (rB 1) 4 (bkR tA 1), zzI cy (rB 2) 4 (bkR tA 2), zzI cy (rB 3) 4 (bkR tA 3), zzI cy (rB 4) 4 (bkR tA 4), zzI cy (rB 5) 4 (bkR tA 5), zzI cy (rB 6) 4 (bkR tA 6), zzI cy (rB 7) 4 (bkR tA 7), zzG cy 3 qmO rO, zzI cy (rO 0) 5 (onR tA 0), zzI cy (rO 1) 5 (onR tA 1), zzI cy (rO 2) 5 (onR tA 2), zzI cy (rO 3) 5 (onR tA 3), zzI cy (rO 4) 5 (onR tA 4), zzI cy (rO 5) 5 (onR tA 5), zzI cy (rO 6) 5 (onR tA 6), zzI cy (rO 7) 5 (onR tA 7), zzG cy 3 qmK rK, zzI cy (rK 0) 8 (T_kn tA 0), zzI cy (rK 1) 8 (T_kn tA 1), zzI cy (rK 2) 8 (T_kn tA 2), zzI cy (rK 3) 8 (T_kn tA 3), zzI cy (rK 4) 8 (T_kn tA 4), zzI cy (rK 5) 8 (T_kn tA 5), zzI cy (rK 6) 8 (T_kn tA 6), zzI cy (rK 7) 8 (T_kn tA 7), zzI cy qmr 8 fMr] sz [.ref qm, .int iA, .int iB] (Wi G (fun r u => ∃ (fNr : Nat → Int32), u = [zzO qm 5 (.ref qmh :: .ref qmo :: .ref qmz :: .ref qmR :: .ref qmv :: .ref qmk :: .ref qma :: .ref qmt :: .int (nI kZ) :: .ref qmr :: .int (nI (T_nb tA)) :: .ref qmB :: .int (nI (T_np tA)) :: .ref qmO :: .ref qmK :: .int iEn :: .int iTk :: .int (T_sd tA) :: ov uP :: ov uU :: .int (nI kAt) :: .int iTo :: .int iFr :: .long JFi :: .int iFa :: .ref qm3 :: .int iSt :: .int iLv :: .int iWs :: vLa :: .ref qmu :: .ref qmy :: .ref qmb :: .ref qms :: .int iOm :: []), zzG cy 3 qmB rB, zzI cy (rB 0) 4 (bkR tA 0), zzI cy (rB 1) 4 (bkR tA 1), zzI cy (rB 2) 4 (bkR tA 2), zzI cy (rB 3) 4 (bkR tA 3), zzI cy (rB 4) 4 (bkR tA 4), zzI cy (rB 5) 4 (bkR tA 5), zzI cy (rB 6) 4 (bkR tA 6), zzI cy (rB 7) 4 (bkR tA 7), zzG cy 3 qmO rO, zzI cy (rO 0) 5 (onR tA 0), zzI cy (rO 1) 5 (onR tA 1), zzI cy (rO 2) 5 (onR tA 2), zzI cy (rO 3) 5 (onR tA 3), zzI cy (rO 4) 5 (onR tA 4), zzI cy (rO 5) 5 (onR tA 5), zzI cy (rO 6) 5 (onR tA 6), zzI cy (rO 7) 5 (onR tA 7), zzG cy 3 qmK rK, zzI cy (rK 0) 8 (T_kn tA 0), zzI cy (rK 1) 8 (T_kn tA 1), zzI cy (rK 2) 8 (T_kn tA 2), zzI cy (rK 3) 8 (T_kn tA 3), zzI cy (rK 4) 8 (T_kn tA 4), zzI cy (rK 5) 8 (T_kn tA 5), zzI cy (rK 6) 8 (T_kn tA 6), zzI cy (rK 7) 8 (T_kn tA 7), zzI cy qmr 8 fNr] ∧ (True))) := by
  refine enW RX6 (by decide +kernel) rfl (Nat.le_of_ble_eq_true rfl) (fun p e s m below meth c ls A hx hb hml hown hts hr hlocks hP hN hl hin hD hA hS => ?_)
  have hin : meth.name = _ := hin
  have hK := hN.1
  replace hl : lv_has ls 3 [(0, .ref qm), (1, .int iA), (2, .int iB)] := hl
  refine lv_aload_n hx hb (g_42 bX6_known rfl) rfl (lv_at hl 0 rfl) ?_
  refine lv_iload_n hx hb (g_27 bX6_known rfl) rfl (lv_at hl 1 rfl) ?_
  refine lv_i2l (v := iA.toInt64) hx hb (g_133 bX6_known rfl) rfl ?_
  refine kRi (rV (As := [.long iA.toInt64]) (rest := []) (b := qm) ⟨hx, hb, hml, hown, hts⟩ (c_X6_isOne l G cy qm (.ref qmh) (.ref qmo) (.ref qmz) (.ref qmR) (.ref qmv) (.ref qmk) (.ref qma) (.ref qmt) (.int (nI kZ)) (.ref qmr) tA qmB qmO qmK iEn iTk (ov uP) (ov uU) (.int (nI kAt)) (.int iTo) (.int iFr) (.long JFi) (.int iFa) (.ref qm3) (.int iSt) iLv iWs vLa (.ref qmu) (.ref qmy) (.ref qmb) (.ref qms) (.int iOm) iA hPp) L_X6_236 (preRV (q := (RX6, TX6, 35)) hN hP [0] rfl 0 5 rfl rfl) rfl ⟨Nat.le_of_ble_eq_true rfl, Nat.le_of_ble_eq_true rfl⟩ hl.1 (Nat.le_of_ble_eq_true rfl) (g_182 (v := 236) bX6_known rfl) ⟨Nat.le_of_ble_eq_true rfl, Nat.le_of_ble_eq_true rfl⟩) (fun r_1 h_2 => ?_)
  rcases h_2 with ⟨rfl, h_3⟩ | ⟨rfl, h_3⟩
  · obtain ⟨k_4, hk_5, rfl⟩ := h_3
    refine lv_if_eq (tgt := 29) hx hb dX6_known_6 (by decide +kernel) (fun h9 => absurd h9 (by decide +kernel)) (fun _ => ?_)
    refine lv_aload_n hx hb (g_42 bX6_known rfl) rfl (lv_at hl 0 rfl) ?_
    refine lv_iload_n hx hb (g_28 bX6_known rfl) rfl (lv_at hl 2 rfl) ?_
    refine lv_i2l (v := iB.toInt64) hx hb (g_133 bX6_known rfl) rfl ?_
    refine kRi (rV (As := [.long iB.toInt64]) (rest := []) (b := qm) ⟨hx, hb, hml, hown, hts⟩ (c_X6_isBook l G cy qm (.ref qmh) (.ref qmo) (.ref qmz) (.ref qmR) (.ref qmv) (.ref qmk) (.ref qma) (.ref qmt) (.int (nI kZ)) (.ref qmr) tA qmB qmO qmK iEn iTk (ov uP) (ov uU) (.int (nI kAt)) (.int iTo) (.int iFr) (.long JFi) (.int iFa) (.ref qm3) (.int iSt) iLv iWs vLa (.ref qmu) (.ref qmy) (.ref qmb) (.ref qms) (.int iOm) iB hB) L_X6_229 (preRV (q := (RX6, TX6, 35)) hN hP [0] rfl 0 5 rfl rfl) rfl ⟨Nat.le_of_ble_eq_true rfl, Nat.le_of_ble_eq_true rfl⟩ hl.1 (Nat.le_of_ble_eq_true rfl) (g_182 (v := 229) bX6_known rfl) ⟨Nat.le_of_ble_eq_true rfl, Nat.le_of_ble_eq_true rfl⟩) (fun r_7 h_8 => ?_)
    rcases h_8 with ⟨rfl, h_9⟩ | ⟨rfl, h_9⟩
    · obtain ⟨k_10, hk_11, rfl⟩ := h_9
      refine lv_if_eq (tgt := 29) hx hb dX6_known_15 (by decide +kernel) (fun h9 => absurd h9 (by decide +kernel)) (fun _ => ?_)
      refine lv_aload_n hx hb (g_42 bX6_known rfl) rfl (lv_at hl 0 rfl) ?_
      refine va_get (D := G) (ci := 5) (v := .ref qmK) (C := RX6) (T := TX6) (N := 35) hx hb hts iX_X6 hown hK hP 0 rfl rfl 14 (by decide +kernel) (hts _ m_t864) (fun _ h9 => h9) rfl (g_180 (v := 48) bX6_known rfl) ?_
      refine lv_iload_n hx hb (g_27 bX6_known rfl) rfl (lv_at hl 1 rfl) ?_
      refine va_alda hx hb hK hP 19 3 rfl rfl (in8 (by omega)) (g_50 bX6_known rfl) ?_
      refine lv_setv (v := .ref (rK k_4)) (g_ref (by omega)) ?_
      refine lv_iload_n hx hb (g_28 bX6_known rfl) rfl (lv_at hl 2 rfl) ?_
      refine va_iald hx hb hK hP (20 + k_4) 0 (sg8 (n0 := 20) (f := (fun j => zzI cy (rK j) 8 (T_kn tA j))) rfl rfl rfl rfl rfl rfl rfl rfl k_4 (by omega)) rfl (vp_in_nI (by omega) (by omega)) (g_46 bX6_known rfl) ?_
      refine lv_seti (v := T_kn tA k_4 k_10) (congrArg (T_kn tA k_4) (nI_clamp (by omega))) ?_
      refine lv_goto (tgt := 35) hx hb dX6_known_26 (by decide +kernel) ?_
      exact endWs [[true, true, true, true, true, true, true, true, true, true, true, true, true, true, true, true, true, true, true, true, true, true, true, true, true, true, true, true, true]] hx hb hr hlocks rfl hP hD rfl (by decide +kernel) hS ⟨fMr, rfl, trivial⟩ (g_172 bX6_known rfl)
    · refine lv_if_eq (tgt := 29) hx hb dX6_known_15 (by decide +kernel) (fun _ => ?_) (fun h9 => absurd (by decide +kernel) h9)
      refine lv_aload_n hx hb (g_42 bX6_known rfl) rfl (lv_at hl 0 rfl) ?_
      refine lv_bipush (v := (-2)) hx hb dX6_known_30 (by decide +kernel) ?_
      refine cVi (As := [.int (-2)]) (rest := []) (b := qm) (q := (RX6, TX6, 35)) ⟨hx, hb, hml, hown, hts⟩ (c_X6_refuse2 l G cy (s.heap).size qm (.ref qmh) (.ref qmo) (.ref qmz) (.ref qmR) (.ref qmv) (.ref qmk) (.ref qma) (.ref qmt) (.int (nI kZ)) qmr tA qmB qmO qmK iEn iTk (ov uP) (ov uU) (.int (nI kAt)) (.int iTo) (.int iFr) (.long JFi) (.int iFa) (.ref qm3) (.int iSt) iLv iWs vLa (.ref qmu) (.ref qmy) (.ref qmb) (.ref qms) (.int iOm) fMr) L_X6_91 hN hP hD hS hA [0, 28] [false, true, true, true, true, true, true, true, true, true, true, true, true, true, true, true, true, true, true, true, true, true, true, true, true, true, true, true, false] rfl (by decide +kernel) rfl 0 5 rfl rfl rfl ⟨Nat.le_of_ble_eq_true rfl, Nat.le_of_ble_eq_true rfl⟩ hl.1 (Nat.le_of_ble_eq_true rfl) (g_182 (v := 91) bX6_known rfl) ⟨Nat.le_of_ble_eq_true rfl, Nat.le_of_ble_eq_true rfl⟩ (fun r_14 u_16 H locs h_15 => ?_)
      clear hP hD hS
      intro hP hD hS
      obtain ⟨fX_17, hu9, h_15⟩ := h_15
      have hPD := pd_eq [_, _, _, _, _, _, _, _, _, _, _, _, _, _, _, _, _, _, _, _, _, _, _, _, _, _, _, _, zzI cy qmr 8 fX_17] hP hD hu9 rfl
      clear hP hD hu9
      obtain ⟨hP, hD⟩ := hPD
      subst h_15
      exact endWs [[false, false, false, false, false, false, false, false, false, false, false, false, false, false, false, false, false, false, false, false, false, false, false, false, false, false, false, true], [true, true, true, true, true, true, true, true, true, true, true, true, true, true, true, true, true, true, true, true, true, true, true, true, true, true, true, false, true]] hx hb hr hlocks rfl hP hD rfl (by decide +kernel) hS ⟨fX_17, rfl, trivial⟩ (g_172 bX6_known rfl)
  · refine lv_if_eq (tgt := 29) hx hb dX6_known_6 (by decide +kernel) (fun _ => ?_) (fun h9 => absurd (by decide +kernel) h9)
    refine lv_aload_n hx hb (g_42 bX6_known rfl) rfl (lv_at hl 0 rfl) ?_
    refine lv_bipush (v := (-2)) hx hb dX6_known_30 (by decide +kernel) ?_
    refine cVi (As := [.int (-2)]) (rest := []) (b := qm) (q := (RX6, TX6, 35)) ⟨hx, hb, hml, hown, hts⟩ (c_X6_refuse2 l G cy (s.heap).size qm (.ref qmh) (.ref qmo) (.ref qmz) (.ref qmR) (.ref qmv) (.ref qmk) (.ref qma) (.ref qmt) (.int (nI kZ)) qmr tA qmB qmO qmK iEn iTk (ov uP) (ov uU) (.int (nI kAt)) (.int iTo) (.int iFr) (.long JFi) (.int iFa) (.ref qm3) (.int iSt) iLv iWs vLa (.ref qmu) (.ref qmy) (.ref qmb) (.ref qms) (.int iOm) fMr) L_X6_91 hN hP hD hS hA [0, 28] [false, true, true, true, true, true, true, true, true, true, true, true, true, true, true, true, true, true, true, true, true, true, true, true, true, true, true, true, false] rfl (by decide +kernel) rfl 0 5 rfl rfl rfl ⟨Nat.le_of_ble_eq_true rfl, Nat.le_of_ble_eq_true rfl⟩ hl.1 (Nat.le_of_ble_eq_true rfl) (g_182 (v := 91) bX6_known rfl) ⟨Nat.le_of_ble_eq_true rfl, Nat.le_of_ble_eq_true rfl⟩ (fun r_19 u_21 H locs h_20 => ?_)
    clear hP hD hS
    intro hP hD hS
    obtain ⟨fX_22, hu9, h_20⟩ := h_20
    have hPD := pd_eq [_, _, _, _, _, _, _, _, _, _, _, _, _, _, _, _, _, _, _, _, _, _, _, _, _, _, _, _, zzI cy qmr 8 fX_22] hP hD hu9 rfl
    clear hP hD hu9
    obtain ⟨hP, hD⟩ := hPD
    subst h_20
    exact endWs [[false, false, false, false, false, false, false, false, false, false, false, false, false, false, false, false, false, false, false, false, false, false, false, false, false, false, false, true], [true, true, true, true, true, true, true, true, true, true, true, true, true, true, true, true, true, true, true, true, true, true, true, true, true, true, true, false, true]] hx hb hr hlocks rfl hP hD rfl (by decide +kernel) hS ⟨fX_22, rfl, trivial⟩ (g_172 bX6_known rfl)
set_option maxHeartbeats 4000000 in
set_option maxRecDepth 100000 in
theorem p_X6_needs (l : Launch) (G : va_G) (cy : Nat → ClassId) (sz : Nat) (qm : Nat) (qmh : Nat) (qmo : Nat) (qmz : Nat) (qmR : Nat) (qmv : Nat) (qmk : Nat) (qma : Nat) (qmt : Nat) (kZ : Nat) (qmr : Nat) (tA : TA) (qmB : Nat) (qmO : Nat) (qmK : Nat) (iEn : Int32) (iTk : Int32) (uP : UM) (uU : UM) (kAt : Nat) (iTo : Int32) (iFr : Int32) (JFi : Int64) (iFa : Int32) (qm3 : Nat) (iSt : Int32) (iLv : Int32) (iWs : Int32) (vLa : Value) (qmu : Nat) (qmy : Nat) (qmb : Nat) (qms : Nat) (iOm : Int32) (rB : Nat → Nat) (rO : Nat → Nat) (rK : Nat → Nat) (fMr : Nat → Int32) (iA : Int32) (iB : Int32)  (hB : T_nb tA ≤ 8) (hPp : T_np tA ≤ 8) (hTI : TI tA) : MW l yX6_needs cX6_needs 5 (some .int) 16 0 0 G cy [zzO qm 5 (.ref qmh :: .ref qmo :: .ref qmz :: .ref qmR :: .ref qmv :: .ref qmk :: .ref qma :: .ref qmt :: .int (nI kZ) :: .ref qmr :: .int (nI (T_nb tA)) :: .ref qmB :: .int (nI (T_np tA)) :: .ref qmO :: .ref qmK :: .int iEn :: .int iTk :: .int (T_sd tA) :: ov uP :: ov uU :: .int (nI kAt) :: .int iTo :: .int iFr :: .long JFi :: .int iFa :: .ref qm3 :: .int iSt :: .int iLv :: .int iWs :: vLa :: .ref qmu :: .ref qmy :: .ref qmb :: .ref qms :: .int iOm :: []), zzG cy 3 qmB rB, zzI cy (rB 0) 4 (bkR tA 0), zzI cy (rB 1) 4 (bkR tA 1), zzI cy (rB 2) 4 (bkR tA 2), zzI cy (rB 3) 4 (bkR tA 3), zzI cy (rB 4) 4 (bkR tA 4), zzI cy (rB 5) 4 (bkR tA 5), zzI cy (rB 6) 4 (bkR tA 6), zzI cy (rB 7) 4 (bkR tA 7), zzG cy 3 qmO rO, zzI cy (rO 0) 5 (onR tA 0), zzI cy (rO 1) 5 (onR tA 1), zzI cy (rO 2) 5 (onR tA 2), zzI cy (rO 3) 5 (onR tA 3), zzI cy (rO 4) 5 (onR tA 4), zzI cy (rO 5) 5 (onR tA 5), zzI cy (rO 6) 5 (onR tA 6), zzI cy (rO 7) 5 (onR tA 7), zzG cy 3 qmK rK, zzI cy (rK 0) 8 (T_kn tA 0), zzI cy (rK 1) 8 (T_kn tA 1), zzI cy (rK 2) 8 (T_kn tA 2), zzI cy (rK 3) 8 (T_kn tA 3), zzI cy (rK 4) 8 (T_kn tA 4), zzI cy (rK 5) 8 (T_kn tA 5), zzI cy (rK 6) 8 (T_kn tA 6), zzI cy (rK 7) 8 (T_kn tA 7), zzI cy qmr 8 fMr] sz [.ref qm, .int iA, .int iB] (Wi G (fun r u => ∃ (fNr : Nat → Int32), u = [zzO qm 5 (.ref qmh :: .ref qmo :: .ref qmz :: .ref qmR :: .ref qmv :: .ref qmk :: .ref qma :: .ref qmt :: .int (nI kZ) :: .ref qmr :: .int (nI (T_nb tA)) :: .ref qmB :: .int (nI (T_np tA)) :: .ref qmO :: .ref qmK :: .int iEn :: .int iTk :: .int (T_sd tA) :: ov uP :: ov uU :: .int (nI kAt) :: .int iTo :: .int iFr :: .long JFi :: .int iFa :: .ref qm3 :: .int iSt :: .int iLv :: .int iWs :: vLa :: .ref qmu :: .ref qmy :: .ref qmb :: .ref qms :: .int iOm :: []), zzG cy 3 qmB rB, zzI cy (rB 0) 4 (bkR tA 0), zzI cy (rB 1) 4 (bkR tA 1), zzI cy (rB 2) 4 (bkR tA 2), zzI cy (rB 3) 4 (bkR tA 3), zzI cy (rB 4) 4 (bkR tA 4), zzI cy (rB 5) 4 (bkR tA 5), zzI cy (rB 6) 4 (bkR tA 6), zzI cy (rB 7) 4 (bkR tA 7), zzG cy 3 qmO rO, zzI cy (rO 0) 5 (onR tA 0), zzI cy (rO 1) 5 (onR tA 1), zzI cy (rO 2) 5 (onR tA 2), zzI cy (rO 3) 5 (onR tA 3), zzI cy (rO 4) 5 (onR tA 4), zzI cy (rO 5) 5 (onR tA 5), zzI cy (rO 6) 5 (onR tA 6), zzI cy (rO 7) 5 (onR tA 7), zzG cy 3 qmK rK, zzI cy (rK 0) 8 (T_kn tA 0), zzI cy (rK 1) 8 (T_kn tA 1), zzI cy (rK 2) 8 (T_kn tA 2), zzI cy (rK 3) 8 (T_kn tA 3), zzI cy (rK 4) 8 (T_kn tA 4), zzI cy (rK 5) 8 (T_kn tA 5), zzI cy (rK 6) 8 (T_kn tA 6), zzI cy (rK 7) 8 (T_kn tA 7), zzI cy qmr 8 fNr] ∧ (True))) := by
  refine enW RX6 (by decide +kernel) rfl (Nat.le_of_ble_eq_true rfl) (fun p e s m below meth c ls A hx hb hml hown hts hr hlocks hP hN hl hin hD hA hS => ?_)
  have hin : meth.name = _ := hin
  have hK := hN.1
  replace hl : lv_has ls 5 [(0, .ref qm), (1, .int iA), (2, .int iB)] := hl
  refine lv_aload_n hx hb (g_42 bX6_needs rfl) rfl (lv_at hl 0 rfl) ?_
  refine lv_iload_n hx hb (g_27 bX6_needs rfl) rfl (lv_at hl 1 rfl) ?_
  refine lv_i2l (v := iA.toInt64) hx hb (g_133 bX6_needs rfl) rfl ?_
  refine kRi (rV (As := [.long iA.toInt64]) (rest := []) (b := qm) ⟨hx, hb, hml, hown, hts⟩ (c_X6_isBook l G cy qm (.ref qmh) (.ref qmo) (.ref qmz) (.ref qmR) (.ref qmv) (.ref qmk) (.ref qma) (.ref qmt) (.int (nI kZ)) (.ref qmr) tA qmB qmO qmK iEn iTk (ov uP) (ov uU) (.int (nI kAt)) (.int iTo) (.int iFr) (.long JFi) (.int iFa) (.ref qm3) (.int iSt) iLv iWs vLa (.ref qmu) (.ref qmy) (.ref qmb) (.ref qms) (.int iOm) iA hB) L_X6_229 (preRV (q := (RX6, TX6, 35)) hN hP [0] rfl 0 5 rfl rfl) rfl ⟨Nat.le_of_ble_eq_true rfl, Nat.le_of_ble_eq_true rfl⟩ hl.1 (Nat.le_of_ble_eq_true rfl) (g_182 (v := 229) bX6_needs rfl) ⟨Nat.le_of_ble_eq_true rfl, Nat.le_of_ble_eq_true rfl⟩) (fun r_1 h_2 => ?_)
  rcases h_2 with ⟨rfl, h_3⟩ | ⟨rfl, h_3⟩
  · obtain ⟨k_4, hk_5, rfl⟩ := h_3
    refine lv_if_ne (tgt := 16) hx hb dX6_needs_6 (by decide +kernel) (fun _ => ?_) (fun h9 => absurd h9 (by decide +kernel))
    refine lv_iconst (v := 0) hx hb (g_3 bX6_needs rfl) (by decide +kernel) ?_
    refine lv_istore_n (lv' := [(3, .int 0), (0, .ref qm), (1, .int (nI k_4)), (2, .int iB)]) hx hb (g_62 bX6_needs rfl) rfl hl (by decide +kernel) rfl (fun ls => ?_)
    clear hl
    intro hl
    refine lv_iload_n hx hb (g_28 bX6_needs rfl) rfl (lv_at hl 3 rfl) ?_
    refine lv_if_eq (tgt := 73) hx hb dX6_needs_19 (by decide +kernel) (fun c_7 => ?_) (fun c_7 => ?_)
    · refine lv_aload_n hx hb (g_42 bX6_needs rfl) rfl (lv_at hl 1 rfl) ?_
      refine va_get (D := G) (ci := 5) (v := .ref qmB) (C := RX6) (T := TX6) (N := 35) hx hb hts iX_X6 hown hK hP 0 rfl rfl 11 (by decide +kernel) (hts _ m_t861) (fun _ h9 => h9) rfl (g_180 (v := 42) bX6_needs rfl) ?_
      refine lv_iload_n hx hb (g_27 bX6_needs rfl) rfl (lv_at hl 2 rfl) ?_
      refine va_alda hx hb hK hP 1 3 rfl rfl (in8 (by omega)) (g_50 bX6_needs rfl) ?_
      refine lv_setv (v := .ref (rB k_4)) (g_ref (by omega)) ?_
      refine lv_iconst (v := 1) hx hb (g_4 bX6_needs rfl) (by decide +kernel) ?_
      refine va_iald hx hb hK hP (2 + k_4) 0 (sg8 (n0 := 2) (f := (fun j => zzI cy (rB j) 4 (bkR tA j))) rfl rfl rfl rfl rfl rfl rfl rfl k_4 (by omega)) rfl (in_c rfl) (g_46 bX6_needs rfl) ?_
      refine lv_seti (v := T_ne tA k_4) (bk_1 _ _) ?_
      refine lv_istore_n (lv' := [(3, .int (T_ne tA k_4)), (0, .ref qm), (1, .int (nI k_4)), (2, .int iB)]) hx hb (g_62 bX6_needs rfl) rfl hl (by decide +kernel) rfl (fun ls => ?_)
      clear hl
      intro hl
      refine lv_iload_n hx hb (g_27 bX6_needs rfl) rfl (lv_at hl 2 rfl) ?_
      refine lv_iconst (v := 1) hx hb (g_4 bX6_needs rfl) (by decide +kernel) ?_
      refine lv_isub hx hb (g_100 bX6_needs rfl) ?_
      refine lv_istore (lv' := [(4, .int ((nI k_4) - 1)), (3, .int (T_ne tA k_4)), (0, .ref qm), (1, .int (nI k_4)), (2, .int iB)]) hx hb (g_54 (v := 4) bX6_needs rfl) hl (by decide +kernel) rfl (fun ls => ?_)
      clear hl
      intro hl
      have lp_8 : ∀ (n_9 : Nat) (j_11 : Nat) (xS_12 : Int32), j_11 < n_9 → j_11 ≤ k_4 → ∀ (H : Heap) (locs : List Loc) (ls : Array Slot), va_P G CL [zzO qm 5 (.ref qmh :: .ref qmo :: .ref qmz :: .ref qmR :: .ref qmv :: .ref qmk :: .ref qma :: .ref qmt :: .int (nI kZ) :: .ref qmr :: .int (nI (T_nb tA)) :: .ref qmB :: .int (nI (T_np tA)) :: .ref qmO :: .ref qmK :: .int iEn :: .int iTk :: .int (T_sd tA) :: ov uP :: ov uU :: .int (nI kAt) :: .int iTo :: .int iFr :: .long JFi :: .int iFa :: .ref qm3 :: .int iSt :: .int iLv :: .int iWs :: vLa :: .ref qmu :: .ref qmy :: .ref qmb :: .ref qms :: .int iOm :: []), zzG cy 3 qmB rB, zzI cy (rB 0) 4 (bkR tA 0), zzI cy (rB 1) 4 (bkR tA 1), zzI cy (rB 2) 4 (bkR tA 2), zzI cy (rB 3) 4 (bkR tA 3), zzI cy (rB 4) 4 (bkR tA 4), zzI cy (rB 5) 4 (bkR tA 5), zzI cy (rB 6) 4 (bkR tA 6), zzI cy (rB 7) 4 (bkR tA 7), zzG cy 3 qmO rO, zzI cy (rO 0) 5 (onR tA 0), zzI cy (rO 1) 5 (onR tA 1), zzI cy (rO 2) 5 (onR tA 2), zzI cy (rO 3) 5 (onR tA 3), zzI cy (rO 4) 5 (onR tA 4), zzI cy (rO 5) 5 (onR tA 5), zzI cy (rO 6) 5 (onR tA 6), zzI cy (rO 7) 5 (onR tA 7), zzG cy 3 qmK rK, zzI cy (rK 0) 8 (T_kn tA 0), zzI cy (rK 1) 8 (T_kn tA 1), zzI cy (rK 2) 8 (T_kn tA 2), zzI cy (rK 3) 8 (T_kn tA 3), zzI cy (rK 4) 8 (T_kn tA 4), zzI cy (rK 5) 8 (T_kn tA 5), zzI cy (rK 6) 8 (T_kn tA 6), zzI cy (rK 7) 8 (T_kn tA 7), zzI cy qmr 8 fMr] H → va_D A [zzO qm 5 (.ref qmh :: .ref qmo :: .ref qmz :: .ref qmR :: .ref qmv :: .ref qmk :: .ref qma :: .ref qmt :: .int (nI kZ) :: .ref qmr :: .int (nI (T_nb tA)) :: .ref qmB :: .int (nI (T_np tA)) :: .ref qmO :: .ref qmK :: .int iEn :: .int iTk :: .int (T_sd tA) :: ov uP :: ov uU :: .int (nI kAt) :: .int iTo :: .int iFr :: .long JFi :: .int iFa :: .ref qm3 :: .int iSt :: .int iLv :: .int iWs :: vLa :: .ref qmu :: .ref qmy :: .ref qmb :: .ref qms :: .int iOm :: []), zzG cy 3 qmB rB, zzI cy (rB 0) 4 (bkR tA 0), zzI cy (rB 1) 4 (bkR tA 1), zzI cy (rB 2) 4 (bkR tA 2), zzI cy (rB 3) 4 (bkR tA 3), zzI cy (rB 4) 4 (bkR tA 4), zzI cy (rB 5) 4 (bkR tA 5), zzI cy (rB 6) 4 (bkR tA 6), zzI cy (rB 7) 4 (bkR tA 7), zzG cy 3 qmO rO, zzI cy (rO 0) 5 (onR tA 0), zzI cy (rO 1) 5 (onR tA 1), zzI cy (rO 2) 5 (onR tA 2), zzI cy (rO 3) 5 (onR tA 3), zzI cy (rO 4) 5 (onR tA 4), zzI cy (rO 5) 5 (onR tA 5), zzI cy (rO 6) 5 (onR tA 6), zzI cy (rO 7) 5 (onR tA 7), zzG cy 3 qmK rK, zzI cy (rK 0) 8 (T_kn tA 0), zzI cy (rK 1) 8 (T_kn tA 1), zzI cy (rK 2) 8 (T_kn tA 2), zzI cy (rK 3) 8 (T_kn tA 3), zzI cy (rK 4) 8 (T_kn tA 4), zzI cy (rK 5) 8 (T_kn tA 5), zzI cy (rK 6) 8 (T_kn tA 6), zzI cy (rK 7) 8 (T_kn tA 7), zzI cy qmr 8 fMr] → va_S A s.heap H locs → lv_has ls 5 [(4, .int (nI j_11 - 1)), (3, .int xS_12), (0, .ref qm), (1, .int (nI k_4)), (2, .int iB)] → W p l e (Rm 16 0 0) s m (List.toArray (α := Value) [.ref qm, .int (nI k_4), .int iB]) below meth c H locs 0 0 (MQ below ((Wi G (fun r u => ∃ (fNr : Nat → Int32), u = [zzO qm 5 (.ref qmh :: .ref qmo :: .ref qmz :: .ref qmR :: .ref qmv :: .ref qmk :: .ref qma :: .ref qmt :: .int (nI kZ) :: .ref qmr :: .int (nI (T_nb tA)) :: .ref qmB :: .int (nI (T_np tA)) :: .ref qmO :: .ref qmK :: .int iEn :: .int iTk :: .int (T_sd tA) :: ov uP :: ov uU :: .int (nI kAt) :: .int iTo :: .int iFr :: .long JFi :: .int iFa :: .ref qm3 :: .int iSt :: .int iLv :: .int iWs :: vLa :: .ref qmu :: .ref qmy :: .ref qmb :: .ref qms :: .int iOm :: []), zzG cy 3 qmB rB, zzI cy (rB 0) 4 (bkR tA 0), zzI cy (rB 1) 4 (bkR tA 1), zzI cy (rB 2) 4 (bkR tA 2), zzI cy (rB 3) 4 (bkR tA 3), zzI cy (rB 4) 4 (bkR tA 4), zzI cy (rB 5) 4 (bkR tA 5), zzI cy (rB 6) 4 (bkR tA 6), zzI cy (rB 7) 4 (bkR tA 7), zzG cy 3 qmO rO, zzI cy (rO 0) 5 (onR tA 0), zzI cy (rO 1) 5 (onR tA 1), zzI cy (rO 2) 5 (onR tA 2), zzI cy (rO 3) 5 (onR tA 3), zzI cy (rO 4) 5 (onR tA 4), zzI cy (rO 5) 5 (onR tA 5), zzI cy (rO 6) 5 (onR tA 6), zzI cy (rO 7) 5 (onR tA 7), zzG cy 3 qmK rK, zzI cy (rK 0) 8 (T_kn tA 0), zzI cy (rK 1) 8 (T_kn tA 1), zzI cy (rK 2) 8 (T_kn tA 2), zzI cy (rK 3) 8 (T_kn tA 3), zzI cy (rK 4) 8 (T_kn tA 4), zzI cy (rK 5) 8 (T_kn tA 5), zzI cy (rK 6) 8 (T_kn tA 6), zzI cy (rK 7) 8 (T_kn tA 7), zzI cy qmr 8 fNr] ∧ (True))) A) (List.toArray (α := Value) [.ref qm, .int (nI k_4), .int iB]) s 0 0 A) (F0 m 87 ls []) := by
        intro n_9
        induction n_9 with
        | zero => intro j_11 xS_12 hm9; exact absurd hm9 (Nat.not_lt_zero _)
        | succ n_9 ih_10 =>
          intro j_11 xS_12 hm_14 hj_13 H locs ls hP hD hS hl
          refine lv_iload hx hb (g_21 (v := 4) bX6_needs rfl) (lv_at hl 0 rfl) ?_
          refine lv_if_lt (tgt := 123) hx hb dX6_needs_89 (by decide +kernel) (fun c_15 => ?_) (fun c_15 => ?_)
          · refine lv_iload_n hx hb (g_29 bX6_needs rfl) rfl (lv_at hl 1 rfl) ?_
            exact endWs [[true, true, true, true, true, true, true, true, true, true, true, true, true, true, true, true, true, true, true, true, true, true, true, true, true, true, true, true, true]] hx hb hr hlocks rfl hP hD rfl (by decide +kernel) hS ⟨fMr, rfl, trivial⟩ (g_172 bX6_needs rfl)
          · obtain ⟨m_16, em_17⟩ := m1_pos c_15
            subst em_17
            rw [nI_pred] at hl
            refine lv_iload_n hx hb (g_29 bX6_needs rfl) rfl (lv_at hl 1 rfl) ?_
            refine lv_iload_n hx hb (g_29 bX6_needs rfl) rfl (lv_at hl 1 rfl) ?_
            refine lv_iload hx hb (g_21 (v := 4) bX6_needs rfl) (lv_at hl 0 rfl) ?_
            refine lv_ishr hx hb (g_122 bX6_needs rfl) ?_
            refine lv_iconst (v := 1) hx hb (g_4 bX6_needs rfl) (by decide +kernel) ?_
            refine lv_iand hx hb (g_126 bX6_needs rfl) ?_
            refine lv_if_eq (tgt := 114) hx hb dX6_needs_99 (by decide +kernel) (fun c_18 => ?_) (fun c_18 => ?_)
            · refine lv_iconst (v := 0) hx hb (g_3 bX6_needs rfl) (by decide +kernel) ?_
              refine lv_ior hx hb (g_128 bX6_needs rfl) ?_
              refine lv_istore_n (lv' := [(3, .int (xS_12 ||| 0)), (4, .int (nI m_16)), (0, .ref qm), (1, .int (nI k_4)), (2, .int iB)]) hx hb (g_62 bX6_needs rfl) rfl hl (by decide +kernel) rfl (fun ls => ?_)
              clear hl
              intro hl
              refine lv_iinc (v := nI m_16 - 1) (lv' := [(4, .int (nI m_16 - 1)), (3, .int (xS_12 ||| 0)), (0, .ref qm), (1, .int (nI k_4)), (2, .int iB)]) hx hb dX6_needs_117 hl (k := 1) rfl (ii_m1 _) (by decide +kernel) rfl (fun ls => ?_)
              clear hl
              intro hl
              refine lv_goto (tgt := 87) hx hb dX6_needs_120 (by decide +kernel) ?_
              exact ih_10 m_16 (xS_12 ||| 0) (by omega) (by omega) _ _ _ hP hD hS (lv_sub hl [0, 1, 2, 3, 4] rfl)
            · refine lv_aload_n hx hb (g_42 bX6_needs rfl) rfl (lv_at hl 2 rfl) ?_
              refine va_get (D := G) (ci := 5) (v := .ref qmB) (C := RX6) (T := TX6) (N := 35) hx hb hts iX_X6 hown hK hP 0 rfl rfl 11 (by decide +kernel) (hts _ m_t861) (fun _ h9 => h9) rfl (g_180 (v := 42) bX6_needs rfl) ?_
              refine lv_iload hx hb (g_21 (v := 4) bX6_needs rfl) (lv_at hl 0 rfl) ?_
              refine va_alda hx hb hK hP 1 3 rfl rfl (in8 (by omega)) (g_50 bX6_needs rfl) ?_
              refine lv_setv (v := .ref (rB m_16)) (g_ref (by omega)) ?_
              refine lv_iconst (v := 1) hx hb (g_4 bX6_needs rfl) (by decide +kernel) ?_
              refine va_iald hx hb hK hP (2 + m_16) 0 (sg8 (n0 := 2) (f := (fun j => zzI cy (rB j) 4 (bkR tA j))) rfl rfl rfl rfl rfl rfl rfl rfl m_16 (by omega)) rfl (in_c rfl) (g_46 bX6_needs rfl) ?_
              refine lv_seti (v := T_ne tA m_16) (bk_1 _ _) ?_
              refine lv_goto (tgt := 115) hx hb dX6_needs_111 (by decide +kernel) ?_
              refine lv_ior hx hb (g_128 bX6_needs rfl) ?_
              refine lv_istore_n (lv' := [(3, .int (xS_12 ||| (T_ne tA m_16))), (4, .int (nI m_16)), (0, .ref qm), (1, .int (nI k_4)), (2, .int iB)]) hx hb (g_62 bX6_needs rfl) rfl hl (by decide +kernel) rfl (fun ls => ?_)
              clear hl
              intro hl
              refine lv_iinc (v := nI m_16 - 1) (lv' := [(4, .int (nI m_16 - 1)), (3, .int (xS_12 ||| (T_ne tA m_16))), (0, .ref qm), (1, .int (nI k_4)), (2, .int iB)]) hx hb dX6_needs_117 hl (k := 1) rfl (ii_m1 _) (by decide +kernel) rfl (fun ls => ?_)
              clear hl
              intro hl
              refine lv_goto (tgt := 87) hx hb dX6_needs_120 (by decide +kernel) ?_
              exact ih_10 m_16 (xS_12 ||| (T_ne tA m_16)) (by omega) (by omega) _ _ _ hP hD hS (lv_sub hl [0, 1, 2, 3, 4] rfl)
      exact lp_8 (k_4 + 1) k_4 (T_ne tA k_4) (Nat.lt_succ_self _) (Nat.le_refl _) _ _ ls hP hD hS (lv_sub hl [0, 1, 2, 3, 4] rfl)
    · refine lv_iload_n hx hb (g_27 bX6_needs rfl) rfl (lv_at hl 2 rfl) ?_
      refine lv_iconst (v := 1) hx hb (g_4 bX6_needs rfl) (by decide +kernel) ?_
      refine lv_iadd hx hb (g_96 bX6_needs rfl) ?_
      refine lv_seti (v := nI (k_4 + 1)) (nI_1 _) ?_
      refine lv_istore (lv' := [(4, .int (nI (k_4 + 1))), (3, .int 0), (0, .ref qm), (1, .int (nI k_4)), (2, .int iB)]) hx hb (g_54 (v := 4) bX6_needs rfl) hl (by decide +kernel) rfl (fun ls => ?_)
      clear hl
      intro hl
      have lp_19 : ∀ (n_20 : Nat) (j_22 : Nat) (xS_23 : Int32), 8 - j_22 < n_20 → j_22 ≤ T_nb tA → ∀ (H : Heap) (locs : List Loc) (ls : Array Slot), va_P G CL [zzO qm 5 (.ref qmh :: .ref qmo :: .ref qmz :: .ref qmR :: .ref qmv :: .ref qmk :: .ref qma :: .ref qmt :: .int (nI kZ) :: .ref qmr :: .int (nI (T_nb tA)) :: .ref qmB :: .int (nI (T_np tA)) :: .ref qmO :: .ref qmK :: .int iEn :: .int iTk :: .int (T_sd tA) :: ov uP :: ov uU :: .int (nI kAt) :: .int iTo :: .int iFr :: .long JFi :: .int iFa :: .ref qm3 :: .int iSt :: .int iLv :: .int iWs :: vLa :: .ref qmu :: .ref qmy :: .ref qmb :: .ref qms :: .int iOm :: []), zzG cy 3 qmB rB, zzI cy (rB 0) 4 (bkR tA 0), zzI cy (rB 1) 4 (bkR tA 1), zzI cy (rB 2) 4 (bkR tA 2), zzI cy (rB 3) 4 (bkR tA 3), zzI cy (rB 4) 4 (bkR tA 4), zzI cy (rB 5) 4 (bkR tA 5), zzI cy (rB 6) 4 (bkR tA 6), zzI cy (rB 7) 4 (bkR tA 7), zzG cy 3 qmO rO, zzI cy (rO 0) 5 (onR tA 0), zzI cy (rO 1) 5 (onR tA 1), zzI cy (rO 2) 5 (onR tA 2), zzI cy (rO 3) 5 (onR tA 3), zzI cy (rO 4) 5 (onR tA 4), zzI cy (rO 5) 5 (onR tA 5), zzI cy (rO 6) 5 (onR tA 6), zzI cy (rO 7) 5 (onR tA 7), zzG cy 3 qmK rK, zzI cy (rK 0) 8 (T_kn tA 0), zzI cy (rK 1) 8 (T_kn tA 1), zzI cy (rK 2) 8 (T_kn tA 2), zzI cy (rK 3) 8 (T_kn tA 3), zzI cy (rK 4) 8 (T_kn tA 4), zzI cy (rK 5) 8 (T_kn tA 5), zzI cy (rK 6) 8 (T_kn tA 6), zzI cy (rK 7) 8 (T_kn tA 7), zzI cy qmr 8 fMr] H → va_D A [zzO qm 5 (.ref qmh :: .ref qmo :: .ref qmz :: .ref qmR :: .ref qmv :: .ref qmk :: .ref qma :: .ref qmt :: .int (nI kZ) :: .ref qmr :: .int (nI (T_nb tA)) :: .ref qmB :: .int (nI (T_np tA)) :: .ref qmO :: .ref qmK :: .int iEn :: .int iTk :: .int (T_sd tA) :: ov uP :: ov uU :: .int (nI kAt) :: .int iTo :: .int iFr :: .long JFi :: .int iFa :: .ref qm3 :: .int iSt :: .int iLv :: .int iWs :: vLa :: .ref qmu :: .ref qmy :: .ref qmb :: .ref qms :: .int iOm :: []), zzG cy 3 qmB rB, zzI cy (rB 0) 4 (bkR tA 0), zzI cy (rB 1) 4 (bkR tA 1), zzI cy (rB 2) 4 (bkR tA 2), zzI cy (rB 3) 4 (bkR tA 3), zzI cy (rB 4) 4 (bkR tA 4), zzI cy (rB 5) 4 (bkR tA 5), zzI cy (rB 6) 4 (bkR tA 6), zzI cy (rB 7) 4 (bkR tA 7), zzG cy 3 qmO rO, zzI cy (rO 0) 5 (onR tA 0), zzI cy (rO 1) 5 (onR tA 1), zzI cy (rO 2) 5 (onR tA 2), zzI cy (rO 3) 5 (onR tA 3), zzI cy (rO 4) 5 (onR tA 4), zzI cy (rO 5) 5 (onR tA 5), zzI cy (rO 6) 5 (onR tA 6), zzI cy (rO 7) 5 (onR tA 7), zzG cy 3 qmK rK, zzI cy (rK 0) 8 (T_kn tA 0), zzI cy (rK 1) 8 (T_kn tA 1), zzI cy (rK 2) 8 (T_kn tA 2), zzI cy (rK 3) 8 (T_kn tA 3), zzI cy (rK 4) 8 (T_kn tA 4), zzI cy (rK 5) 8 (T_kn tA 5), zzI cy (rK 6) 8 (T_kn tA 6), zzI cy (rK 7) 8 (T_kn tA 7), zzI cy qmr 8 fMr] → va_S A s.heap H locs → lv_has ls 5 [(4, .int (nI j_22)), (3, .int xS_23), (0, .ref qm), (1, .int (nI k_4)), (2, .int iB)] → W p l e (Rm 16 0 0) s m (List.toArray (α := Value) [.ref qm, .int (nI k_4), .int iB]) below meth c H locs 0 0 (MQ below ((Wi G (fun r u => ∃ (fNr : Nat → Int32), u = [zzO qm 5 (.ref qmh :: .ref qmo :: .ref qmz :: .ref qmR :: .ref qmv :: .ref qmk :: .ref qma :: .ref qmt :: .int (nI kZ) :: .ref qmr :: .int (nI (T_nb tA)) :: .ref qmB :: .int (nI (T_np tA)) :: .ref qmO :: .ref qmK :: .int iEn :: .int iTk :: .int (T_sd tA) :: ov uP :: ov uU :: .int (nI kAt) :: .int iTo :: .int iFr :: .long JFi :: .int iFa :: .ref qm3 :: .int iSt :: .int iLv :: .int iWs :: vLa :: .ref qmu :: .ref qmy :: .ref qmb :: .ref qms :: .int iOm :: []), zzG cy 3 qmB rB, zzI cy (rB 0) 4 (bkR tA 0), zzI cy (rB 1) 4 (bkR tA 1), zzI cy (rB 2) 4 (bkR tA 2), zzI cy (rB 3) 4 (bkR tA 3), zzI cy (rB 4) 4 (bkR tA 4), zzI cy (rB 5) 4 (bkR tA 5), zzI cy (rB 6) 4 (bkR tA 6), zzI cy (rB 7) 4 (bkR tA 7), zzG cy 3 qmO rO, zzI cy (rO 0) 5 (onR tA 0), zzI cy (rO 1) 5 (onR tA 1), zzI cy (rO 2) 5 (onR tA 2), zzI cy (rO 3) 5 (onR tA 3), zzI cy (rO 4) 5 (onR tA 4), zzI cy (rO 5) 5 (onR tA 5), zzI cy (rO 6) 5 (onR tA 6), zzI cy (rO 7) 5 (onR tA 7), zzG cy 3 qmK rK, zzI cy (rK 0) 8 (T_kn tA 0), zzI cy (rK 1) 8 (T_kn tA 1), zzI cy (rK 2) 8 (T_kn tA 2), zzI cy (rK 3) 8 (T_kn tA 3), zzI cy (rK 4) 8 (T_kn tA 4), zzI cy (rK 5) 8 (T_kn tA 5), zzI cy (rK 6) 8 (T_kn tA 6), zzI cy (rK 7) 8 (T_kn tA 7), zzI cy qmr 8 fNr] ∧ (True))) A) (List.toArray (α := Value) [.ref qm, .int (nI k_4), .int iB]) s 0 0 A) (F0 m 27 ls []) := by
        intro n_20
        induction n_20 with
        | zero => intro j_22 xS_23 hm9; exact absurd hm9 (Nat.not_lt_zero _)
        | succ n_20 ih_21 =>
          intro j_22 xS_23 hm_25 hj_24 H locs ls hP hD hS hl
          refine lv_iload hx hb (g_21 (v := 4) bX6_needs rfl) (lv_at hl 0 rfl) ?_
          refine lv_aload_n hx hb (g_42 bX6_needs rfl) rfl (lv_at hl 2 rfl) ?_
          refine va_get (D := G) (ci := 5) (v := .int (nI (T_nb tA))) (C := RX6) (T := TX6) (N := 35) hx hb hts iX_X6 hown hK hP 0 rfl rfl 10 (by decide +kernel) (hts _ m_t860) (fun _ h9 => h9) rfl (g_180 (v := 71) bX6_needs rfl) ?_
          refine lv_icmp_ge (tgt := 71) hx hb dX6_needs_33 (by decide +kernel) (fun c_26 => ?_) (fun c_26 => ?_)
          · have hlt_27 : j_22 = T_nb tA := Nat.le_antisymm (by omega) (lp_ge rfl rfl (by omega) (by omega) c_26)
            refine lv_iload_n hx hb (g_29 bX6_needs rfl) rfl (lv_at hl 1 rfl) ?_
            exact endWs [[true, true, true, true, true, true, true, true, true, true, true, true, true, true, true, true, true, true, true, true, true, true, true, true, true, true, true, true, true]] hx hb hr hlocks rfl hP hD rfl (by decide +kernel) hS ⟨fMr, rfl, trivial⟩ (g_172 bX6_needs rfl)
          · have hlt_28 : j_22 < T_nb tA := lp_lt rfl rfl (by omega) (by omega) c_26
            refine lv_iload_n hx hb (g_29 bX6_needs rfl) rfl (lv_at hl 1 rfl) ?_
            refine lv_aload_n hx hb (g_42 bX6_needs rfl) rfl (lv_at hl 2 rfl) ?_
            refine va_get (D := G) (ci := 5) (v := .ref qmB) (C := RX6) (T := TX6) (N := 35) hx hb hts iX_X6 hown hK hP 0 rfl rfl 11 (by decide +kernel) (hts _ m_t861) (fun _ h9 => h9) rfl (g_180 (v := 42) bX6_needs rfl) ?_
            refine lv_iload hx hb (g_21 (v := 4) bX6_needs rfl) (lv_at hl 0 rfl) ?_
            refine va_alda hx hb hK hP 1 3 rfl rfl (in8 (by omega)) (g_50 bX6_needs rfl) ?_
            refine lv_setv (v := .ref (rB j_22)) (g_ref (by omega)) ?_
            refine lv_iconst (v := 1) hx hb (g_4 bX6_needs rfl) (by decide +kernel) ?_
            refine va_iald hx hb hK hP (2 + j_22) 0 (sg8 (n0 := 2) (f := (fun j => zzI cy (rB j) 4 (bkR tA j))) rfl rfl rfl rfl rfl rfl rfl rfl j_22 (by omega)) rfl (in_c rfl) (g_46 bX6_needs rfl) ?_
            refine lv_seti (v := T_ne tA j_22) (bk_1 _ _) ?_
            refine lv_iload_n hx hb (g_29 bX6_needs rfl) rfl (lv_at hl 1 rfl) ?_
            refine lv_iconst (v := 1) hx hb (g_4 bX6_needs rfl) (by decide +kernel) ?_
            refine lv_iload_n hx hb (g_27 bX6_needs rfl) rfl (lv_at hl 3 rfl) ?_
            refine lv_ishl hx hb (g_120 bX6_needs rfl) ?_
            refine lv_ior hx hb (g_128 bX6_needs rfl) ?_
            refine lv_iand hx hb (g_126 bX6_needs rfl) ?_
            refine lv_if_eq (tgt := 62) hx hb dX6_needs_52 (by decide +kernel) (fun c_29 => ?_) (fun c_29 => ?_)
            · refine lv_iconst (v := 0) hx hb (g_3 bX6_needs rfl) (by decide +kernel) ?_
              refine lv_ior hx hb (g_128 bX6_needs rfl) ?_
              refine lv_istore_n (lv' := [(3, .int (xS_23 ||| 0)), (4, .int (nI j_22)), (0, .ref qm), (1, .int (nI k_4)), (2, .int iB)]) hx hb (g_62 bX6_needs rfl) rfl hl (by decide +kernel) rfl (fun ls => ?_)
              clear hl
              intro hl
              refine lv_iinc (v := nI (j_22 + 1)) (lv' := [(4, .int (nI (j_22 + 1))), (3, .int (xS_23 ||| 0)), (0, .ref qm), (1, .int (nI k_4)), (2, .int iB)]) hx hb dX6_needs_65 hl (k := 1) rfl (nI_1 _) (by decide +kernel) rfl (fun ls => ?_)
              clear hl
              intro hl
              refine lv_goto (tgt := 27) hx hb dX6_needs_68 (by decide +kernel) ?_
              exact ih_21 (j_22 + 1) (xS_23 ||| 0) (by omega) (by omega) _ _ _ hP hD hS (lv_sub hl [0, 1, 2, 3, 4] rfl)
            · refine lv_iconst (v := 1) hx hb (g_4 bX6_needs rfl) (by decide +kernel) ?_
              refine lv_iload hx hb (g_21 (v := 4) bX6_needs rfl) (lv_at hl 0 rfl) ?_
              refine lv_ishl hx hb (g_120 bX6_needs rfl) ?_
              refine lv_goto (tgt := 63) hx hb dX6_needs_59 (by decide +kernel) ?_
              refine lv_ior hx hb (g_128 bX6_needs rfl) ?_
              refine lv_istore_n (lv' := [(3, .int (xS_23 ||| (1 <<< ((nI j_22) &&& 31)))), (4, .int (nI j_22)), (0, .ref qm), (1, .int (nI k_4)), (2, .int iB)]) hx hb (g_62 bX6_needs rfl) rfl hl (by decide +kernel) rfl (fun ls => ?_)
              clear hl
              intro hl
              refine lv_iinc (v := nI (j_22 + 1)) (lv' := [(4, .int (nI (j_22 + 1))), (3, .int (xS_23 ||| (1 <<< ((nI j_22) &&& 31)))), (0, .ref qm), (1, .int (nI k_4)), (2, .int iB)]) hx hb dX6_needs_65 hl (k := 1) rfl (nI_1 _) (by decide +kernel) rfl (fun ls => ?_)
              clear hl
              intro hl
              refine lv_goto (tgt := 27) hx hb dX6_needs_68 (by decide +kernel) ?_
              exact ih_21 (j_22 + 1) (xS_23 ||| (1 <<< ((nI j_22) &&& 31))) (by omega) (by omega) _ _ _ hP hD hS (lv_sub hl [0, 1, 2, 3, 4] rfl)
      exact lp_19 ((8 - (k_4 + 1)) + 1) (k_4 + 1) 0 (Nat.lt_succ_self _) (by omega) _ _ ls hP hD hS (lv_sub hl [0, 1, 2, 3, 4] rfl)
  · refine lv_if_ne (tgt := 16) hx hb dX6_needs_6 (by decide +kernel) (fun h9 => absurd (by decide +kernel) h9) (fun _ => ?_)
    refine lv_aload_n hx hb (g_42 bX6_needs rfl) rfl (lv_at hl 0 rfl) ?_
    refine lv_bipush (v := (-2)) hx hb dX6_needs_10 (by decide +kernel) ?_
    refine cVi (As := [.int (-2)]) (rest := []) (b := qm) (q := (RX6, TX6, 35)) ⟨hx, hb, hml, hown, hts⟩ (c_X6_refuse2 l G cy (s.heap).size qm (.ref qmh) (.ref qmo) (.ref qmz) (.ref qmR) (.ref qmv) (.ref qmk) (.ref qma) (.ref qmt) (.int (nI kZ)) qmr tA qmB qmO qmK iEn iTk (ov uP) (ov uU) (.int (nI kAt)) (.int iTo) (.int iFr) (.long JFi) (.int iFa) (.ref qm3) (.int iSt) iLv iWs vLa (.ref qmu) (.ref qmy) (.ref qmb) (.ref qms) (.int iOm) fMr) L_X6_91 hN hP hD hS hA [0, 28] [false, true, true, true, true, true, true, true, true, true, true, true, true, true, true, true, true, true, true, true, true, true, true, true, true, true, true, true, false] rfl (by decide +kernel) rfl 0 5 rfl rfl rfl ⟨Nat.le_of_ble_eq_true rfl, Nat.le_of_ble_eq_true rfl⟩ hl.1 (Nat.le_of_ble_eq_true rfl) (g_182 (v := 91) bX6_needs rfl) ⟨Nat.le_of_ble_eq_true rfl, Nat.le_of_ble_eq_true rfl⟩ (fun r_31 u_33 H locs h_32 => ?_)
    clear hP hD hS
    intro hP hD hS
    obtain ⟨fX_34, hu9, h_32⟩ := h_32
    have hPD := pd_eq [_, _, _, _, _, _, _, _, _, _, _, _, _, _, _, _, _, _, _, _, _, _, _, _, _, _, _, _, zzI cy qmr 8 fX_34] hP hD hu9 rfl
    clear hP hD hu9
    obtain ⟨hP, hD⟩ := hPD
    subst h_32
    exact endWs [[false, false, false, false, false, false, false, false, false, false, false, false, false, false, false, false, false, false, false, false, false, false, false, false, false, false, false, true], [true, true, true, true, true, true, true, true, true, true, true, true, true, true, true, true, true, true, true, true, true, true, true, true, true, true, true, false, true]] hx hb hr hlocks rfl hP hD rfl (by decide +kernel) hS ⟨fX_34, rfl, trivial⟩ (g_172 bX6_needs rfl)
set_option maxHeartbeats 4000000 in
set_option maxRecDepth 100000 in
theorem p_X6_ground (l : Launch) (G : va_G) (cy : Nat → ClassId) (sz : Nat) (qm : Nat) (qmh : Nat) (qmo : Nat) (qmz : Nat) (qmR : Nat) (qmv : Nat) (qmk : Nat) (qma : Nat) (qmt : Nat) (kZ : Nat) (qmr : Nat) (tA : TA) (qmB : Nat) (qmO : Nat) (qmK : Nat) (iEn : Int32) (iTk : Int32) (uP : UM) (uU : UM) (kAt : Nat) (iTo : Int32) (iFr : Int32) (JFi : Int64) (iFa : Int32) (qm3 : Nat) (iSt : Int32) (iLv : Int32) (iWs : Int32) (vLa : Value) (qmu : Nat) (qmy : Nat) (qmb : Nat) (qms : Nat) (iOm : Int32) (rB : Nat → Nat) (rO : Nat → Nat) (rK : Nat → Nat) (fMr : Nat → Int32) (iA : Int32) (iB : Int32)  (hB : T_nb tA ≤ 8) (hPp : T_np tA ≤ 8) (hTI : TI tA) : MW l yX6_ground cX6_ground 3 (some .int) 16 0 0 G cy [zzO qm 5 (.ref qmh :: .ref qmo :: .ref qmz :: .ref qmR :: .ref qmv :: .ref qmk :: .ref qma :: .ref qmt :: .int (nI kZ) :: .ref qmr :: .int (nI (T_nb tA)) :: .ref qmB :: .int (nI (T_np tA)) :: .ref qmO :: .ref qmK :: .int iEn :: .int iTk :: .int (T_sd tA) :: ov uP :: ov uU :: .int (nI kAt) :: .int iTo :: .int iFr :: .long JFi :: .int iFa :: .ref qm3 :: .int iSt :: .int iLv :: .int iWs :: vLa :: .ref qmu :: .ref qmy :: .ref qmb :: .ref qms :: .int iOm :: []), zzG cy 3 qmB rB, zzI cy (rB 0) 4 (bkR tA 0), zzI cy (rB 1) 4 (bkR tA 1), zzI cy (rB 2) 4 (bkR tA 2), zzI cy (rB 3) 4 (bkR tA 3), zzI cy (rB 4) 4 (bkR tA 4), zzI cy (rB 5) 4 (bkR tA 5), zzI cy (rB 6) 4 (bkR tA 6), zzI cy (rB 7) 4 (bkR tA 7), zzG cy 3 qmO rO, zzI cy (rO 0) 5 (onR tA 0), zzI cy (rO 1) 5 (onR tA 1), zzI cy (rO 2) 5 (onR tA 2), zzI cy (rO 3) 5 (onR tA 3), zzI cy (rO 4) 5 (onR tA 4), zzI cy (rO 5) 5 (onR tA 5), zzI cy (rO 6) 5 (onR tA 6), zzI cy (rO 7) 5 (onR tA 7), zzG cy 3 qmK rK, zzI cy (rK 0) 8 (T_kn tA 0), zzI cy (rK 1) 8 (T_kn tA 1), zzI cy (rK 2) 8 (T_kn tA 2), zzI cy (rK 3) 8 (T_kn tA 3), zzI cy (rK 4) 8 (T_kn tA 4), zzI cy (rK 5) 8 (T_kn tA 5), zzI cy (rK 6) 8 (T_kn tA 6), zzI cy (rK 7) 8 (T_kn tA 7), zzI cy qmr 8 fMr] sz [.ref qm, .int iA, .int iB] (Wi G (fun r u => ∃ (fNr : Nat → Int32), u = [zzO qm 5 (.ref qmh :: .ref qmo :: .ref qmz :: .ref qmR :: .ref qmv :: .ref qmk :: .ref qma :: .ref qmt :: .int (nI kZ) :: .ref qmr :: .int (nI (T_nb tA)) :: .ref qmB :: .int (nI (T_np tA)) :: .ref qmO :: .ref qmK :: .int iEn :: .int iTk :: .int (T_sd tA) :: ov uP :: ov uU :: .int (nI kAt) :: .int iTo :: .int iFr :: .long JFi :: .int iFa :: .ref qm3 :: .int iSt :: .int iLv :: .int iWs :: vLa :: .ref qmu :: .ref qmy :: .ref qmb :: .ref qms :: .int iOm :: []), zzG cy 3 qmB rB, zzI cy (rB 0) 4 (bkR tA 0), zzI cy (rB 1) 4 (bkR tA 1), zzI cy (rB 2) 4 (bkR tA 2), zzI cy (rB 3) 4 (bkR tA 3), zzI cy (rB 4) 4 (bkR tA 4), zzI cy (rB 5) 4 (bkR tA 5), zzI cy (rB 6) 4 (bkR tA 6), zzI cy (rB 7) 4 (bkR tA 7), zzG cy 3 qmO rO, zzI cy (rO 0) 5 (onR tA 0), zzI cy (rO 1) 5 (onR tA 1), zzI cy (rO 2) 5 (onR tA 2), zzI cy (rO 3) 5 (onR tA 3), zzI cy (rO 4) 5 (onR tA 4), zzI cy (rO 5) 5 (onR tA 5), zzI cy (rO 6) 5 (onR tA 6), zzI cy (rO 7) 5 (onR tA 7), zzG cy 3 qmK rK, zzI cy (rK 0) 8 (T_kn tA 0), zzI cy (rK 1) 8 (T_kn tA 1), zzI cy (rK 2) 8 (T_kn tA 2), zzI cy (rK 3) 8 (T_kn tA 3), zzI cy (rK 4) 8 (T_kn tA 4), zzI cy (rK 5) 8 (T_kn tA 5), zzI cy (rK 6) 8 (T_kn tA 6), zzI cy (rK 7) 8 (T_kn tA 7), zzI cy qmr 8 fNr] ∧ (True))) := by
  refine enW RX6 (by decide +kernel) rfl (Nat.le_of_ble_eq_true rfl) (fun p e s m below meth c ls A hx hb hml hown hts hr hlocks hP hN hl hin hD hA hS => ?_)
  have hin : meth.name = _ := hin
  have hK := hN.1
  replace hl : lv_has ls 3 [(0, .ref qm), (1, .int iA), (2, .int iB)] := hl
  refine lv_aload_n hx hb (g_42 bX6_ground rfl) rfl (lv_at hl 0 rfl) ?_
  refine lv_iload_n hx hb (g_27 bX6_ground rfl) rfl (lv_at hl 1 rfl) ?_
  refine lv_i2l (v := iA.toInt64) hx hb (g_133 bX6_ground rfl) rfl ?_
  refine kRi (rV (As := [.long iA.toInt64]) (rest := []) (b := qm) ⟨hx, hb, hml, hown, hts⟩ (c_X6_isOne l G cy qm (.ref qmh) (.ref qmo) (.ref qmz) (.ref qmR) (.ref qmv) (.ref qmk) (.ref qma) (.ref qmt) (.int (nI kZ)) (.ref qmr) tA qmB qmO qmK iEn iTk (ov uP) (ov uU) (.int (nI kAt)) (.int iTo) (.int iFr) (.long JFi) (.int iFa) (.ref qm3) (.int iSt) iLv iWs vLa (.ref qmu) (.ref qmy) (.ref qmb) (.ref qms) (.int iOm) iA hPp) L_X6_236 (preRV (q := (RX6, TX6, 35)) hN hP [0] rfl 0 5 rfl rfl) rfl ⟨Nat.le_of_ble_eq_true rfl, Nat.le_of_ble_eq_true rfl⟩ hl.1 (Nat.le_of_ble_eq_true rfl) (g_182 (v := 236) bX6_ground rfl) ⟨Nat.le_of_ble_eq_true rfl, Nat.le_of_ble_eq_true rfl⟩) (fun r_1 h_2 => ?_)
  rcases h_2 with ⟨rfl, h_3⟩ | ⟨rfl, h_3⟩
  · obtain ⟨k_4, hk_5, rfl⟩ := h_3
    refine lv_if_eq (tgt := 27) hx hb dX6_ground_6 (by decide +kernel) (fun h9 => absurd h9 (by decide +kernel)) (fun _ => ?_)
    refine lv_aload_n hx hb (g_42 bX6_ground rfl) rfl (lv_at hl 0 rfl) ?_
    refine lv_iload_n hx hb (g_28 bX6_ground rfl) rfl (lv_at hl 2 rfl) ?_
    refine lv_i2l (v := iB.toInt64) hx hb (g_133 bX6_ground rfl) rfl ?_
    refine kRi (rV (As := [.long iB.toInt64]) (rest := []) (b := qm) ⟨hx, hb, hml, hown, hts⟩ (c_X6_isBook l G cy qm (.ref qmh) (.ref qmo) (.ref qmz) (.ref qmR) (.ref qmv) (.ref qmk) (.ref qma) (.ref qmt) (.int (nI kZ)) (.ref qmr) tA qmB qmO qmK iEn iTk (ov uP) (ov uU) (.int (nI kAt)) (.int iTo) (.int iFr) (.long JFi) (.int iFa) (.ref qm3) (.int iSt) iLv iWs vLa (.ref qmu) (.ref qmy) (.ref qmb) (.ref qms) (.int iOm) iB hB) L_X6_229 (preRV (q := (RX6, TX6, 35)) hN hP [0] rfl 0 5 rfl rfl) rfl ⟨Nat.le_of_ble_eq_true rfl, Nat.le_of_ble_eq_true rfl⟩ hl.1 (Nat.le_of_ble_eq_true rfl) (g_182 (v := 229) bX6_ground rfl) ⟨Nat.le_of_ble_eq_true rfl, Nat.le_of_ble_eq_true rfl⟩) (fun r_7 h_8 => ?_)
    rcases h_8 with ⟨rfl, h_9⟩ | ⟨rfl, h_9⟩
    · obtain ⟨k_10, hk_11, rfl⟩ := h_9
      refine lv_if_eq (tgt := 27) hx hb dX6_ground_15 (by decide +kernel) (fun h9 => absurd h9 (by decide +kernel)) (fun _ => ?_)
      refine lv_aload_n hx hb (g_42 bX6_ground rfl) rfl (lv_at hl 0 rfl) ?_
      refine lv_iload_n hx hb (g_27 bX6_ground rfl) rfl (lv_at hl 1 rfl) ?_
      refine lv_iload_n hx hb (g_28 bX6_ground rfl) rfl (lv_at hl 2 rfl) ?_
      refine kRi (rV (As := [.int (nI k_4), .int (nI k_10)]) (rest := []) (b := qm) ⟨hx, hb, hml, hown, hts⟩ (c_X6_groundOf l G cy qm (.ref qmh) (.ref qmo) (.ref qmz) (.ref qmR) (.ref qmv) (.ref qmk) (.ref qma) (.ref qmt) (.int (nI kZ)) (.ref qmr) tA qmB qmO qmK iEn iTk (ov uP) (ov uU) (.int (nI kAt)) (.int iTo) (.int iFr) (.long JFi) (.int iFa) (.ref qm3) (.int iSt) iLv iWs vLa (.ref qmu) (.ref qmy) (.ref qmb) (.ref qms) (.int iOm) rB rK k_4 k_10 (by first | omega | (simp only [nb_sr, np_sr, nb_wr, np_wr, nb_rd, np_rd, nb_ch, np_ch, nb_zr, np_zr, nb_za, np_za, nb_ey, np_ey, nb_hf, np_hf, nb_dd, np_dd, nb_so, np_so, nb_skn, np_skn, nb_swh, np_swh, nb_sgn, np_sgn, nb_ssd, np_ssd, nb_sgo, np_sgo, nb_sag, np_sag]; omega)) (by first | omega | (simp only [nb_sr, np_sr, nb_wr, np_wr, nb_rd, np_rd, nb_ch, np_ch, nb_zr, np_zr, nb_za, np_za, nb_ey, np_ey, nb_hf, np_hf, nb_dd, np_dd, nb_so, np_so, nb_skn, np_skn, nb_swh, np_swh, nb_sgn, np_sgn, nb_ssd, np_ssd, nb_sgo, np_sgo, nb_sag, np_sag]; omega))) L_X6_241 (preRV (q := (RX6, TX6, 35)) hN hP (trueIx 0 [true, true, true, true, true, true, true, true, true, true, false, false, false, false, false, false, false, false, false, true, true, true, true, true, true, true, true, true]) (sel_fm rfl rfl) 0 5 rfl rfl) rfl ⟨Nat.le_of_ble_eq_true rfl, Nat.le_of_ble_eq_true rfl⟩ hl.1 (Nat.le_of_ble_eq_true rfl) (g_182 (v := 241) bX6_ground rfl) ⟨Nat.le_of_ble_eq_true rfl, Nat.le_of_ble_eq_true rfl⟩) (fun r_13 h_14 => ?_)
      subst h_14
      refine lv_goto (tgt := 33) hx hb dX6_ground_24 (by decide +kernel) ?_
      exact endWs [[true, true, true, true, true, true, true, true, true, true, true, true, true, true, true, true, true, true, true, true, true, true, true, true, true, true, true, true, true]] hx hb hr hlocks rfl hP hD rfl (by decide +kernel) hS ⟨fMr, rfl, trivial⟩ (g_172 bX6_ground rfl)
    · refine lv_if_eq (tgt := 27) hx hb dX6_ground_15 (by decide +kernel) (fun _ => ?_) (fun h9 => absurd (by decide +kernel) h9)
      refine lv_aload_n hx hb (g_42 bX6_ground rfl) rfl (lv_at hl 0 rfl) ?_
      refine lv_bipush (v := (-2)) hx hb dX6_ground_28 (by decide +kernel) ?_
      refine cVi (As := [.int (-2)]) (rest := []) (b := qm) (q := (RX6, TX6, 35)) ⟨hx, hb, hml, hown, hts⟩ (c_X6_refuse2 l G cy (s.heap).size qm (.ref qmh) (.ref qmo) (.ref qmz) (.ref qmR) (.ref qmv) (.ref qmk) (.ref qma) (.ref qmt) (.int (nI kZ)) qmr tA qmB qmO qmK iEn iTk (ov uP) (ov uU) (.int (nI kAt)) (.int iTo) (.int iFr) (.long JFi) (.int iFa) (.ref qm3) (.int iSt) iLv iWs vLa (.ref qmu) (.ref qmy) (.ref qmb) (.ref qms) (.int iOm) fMr) L_X6_91 hN hP hD hS hA [0, 28] [false, true, true, true, true, true, true, true, true, true, true, true, true, true, true, true, true, true, true, true, true, true, true, true, true, true, true, true, false] rfl (by decide +kernel) rfl 0 5 rfl rfl rfl ⟨Nat.le_of_ble_eq_true rfl, Nat.le_of_ble_eq_true rfl⟩ hl.1 (Nat.le_of_ble_eq_true rfl) (g_182 (v := 91) bX6_ground rfl) ⟨Nat.le_of_ble_eq_true rfl, Nat.le_of_ble_eq_true rfl⟩ (fun r_16 u_18 H locs h_17 => ?_)
      clear hP hD hS
      intro hP hD hS
      obtain ⟨fX_19, hu9, h_17⟩ := h_17
      have hPD := pd_eq [_, _, _, _, _, _, _, _, _, _, _, _, _, _, _, _, _, _, _, _, _, _, _, _, _, _, _, _, zzI cy qmr 8 fX_19] hP hD hu9 rfl
      clear hP hD hu9
      obtain ⟨hP, hD⟩ := hPD
      subst h_17
      exact endWs [[false, false, false, false, false, false, false, false, false, false, false, false, false, false, false, false, false, false, false, false, false, false, false, false, false, false, false, true], [true, true, true, true, true, true, true, true, true, true, true, true, true, true, true, true, true, true, true, true, true, true, true, true, true, true, true, false, true]] hx hb hr hlocks rfl hP hD rfl (by decide +kernel) hS ⟨fX_19, rfl, trivial⟩ (g_172 bX6_ground rfl)
  · refine lv_if_eq (tgt := 27) hx hb dX6_ground_6 (by decide +kernel) (fun _ => ?_) (fun h9 => absurd (by decide +kernel) h9)
    refine lv_aload_n hx hb (g_42 bX6_ground rfl) rfl (lv_at hl 0 rfl) ?_
    refine lv_bipush (v := (-2)) hx hb dX6_ground_28 (by decide +kernel) ?_
    refine cVi (As := [.int (-2)]) (rest := []) (b := qm) (q := (RX6, TX6, 35)) ⟨hx, hb, hml, hown, hts⟩ (c_X6_refuse2 l G cy (s.heap).size qm (.ref qmh) (.ref qmo) (.ref qmz) (.ref qmR) (.ref qmv) (.ref qmk) (.ref qma) (.ref qmt) (.int (nI kZ)) qmr tA qmB qmO qmK iEn iTk (ov uP) (ov uU) (.int (nI kAt)) (.int iTo) (.int iFr) (.long JFi) (.int iFa) (.ref qm3) (.int iSt) iLv iWs vLa (.ref qmu) (.ref qmy) (.ref qmb) (.ref qms) (.int iOm) fMr) L_X6_91 hN hP hD hS hA [0, 28] [false, true, true, true, true, true, true, true, true, true, true, true, true, true, true, true, true, true, true, true, true, true, true, true, true, true, true, true, false] rfl (by decide +kernel) rfl 0 5 rfl rfl rfl ⟨Nat.le_of_ble_eq_true rfl, Nat.le_of_ble_eq_true rfl⟩ hl.1 (Nat.le_of_ble_eq_true rfl) (g_182 (v := 91) bX6_ground rfl) ⟨Nat.le_of_ble_eq_true rfl, Nat.le_of_ble_eq_true rfl⟩ (fun r_21 u_23 H locs h_22 => ?_)
    clear hP hD hS
    intro hP hD hS
    obtain ⟨fX_24, hu9, h_22⟩ := h_22
    have hPD := pd_eq [_, _, _, _, _, _, _, _, _, _, _, _, _, _, _, _, _, _, _, _, _, _, _, _, _, _, _, _, zzI cy qmr 8 fX_24] hP hD hu9 rfl
    clear hP hD hu9
    obtain ⟨hP, hD⟩ := hPD
    subst h_22
    exact endWs [[false, false, false, false, false, false, false, false, false, false, false, false, false, false, false, false, false, false, false, false, false, false, false, false, false, false, false, true], [true, true, true, true, true, true, true, true, true, true, true, true, true, true, true, true, true, true, true, true, true, true, true, true, true, true, true, false, true]] hx hb hr hlocks rfl hP hD rfl (by decide +kernel) hS ⟨fX_24, rfl, trivial⟩ (g_172 bX6_ground rfl)
set_option maxHeartbeats 4000000 in
set_option maxRecDepth 100000 in
theorem p_X6_would (l : Launch) (G : va_G) (cy : Nat → ClassId) (sz : Nat) (qm : Nat) (qmh : Nat) (qmo : Nat) (qmz : Nat) (qmR : Nat) (qmv : Nat) (qmk : Nat) (qma : Nat) (qmt : Nat) (kZ : Nat) (qmr : Nat) (tA : TA) (qmB : Nat) (qmO : Nat) (qmK : Nat) (iEn : Int32) (iTk : Int32) (uP : UM) (uU : UM) (kAt : Nat) (iTo : Int32) (iFr : Int32) (JFi : Int64) (iFa : Int32) (qm3 : Nat) (iSt : Int32) (iLv : Int32) (iWs : Int32) (vLa : Value) (qmu : Nat) (qmy : Nat) (qmb : Nat) (qms : Nat) (iOm : Int32) (rB : Nat → Nat) (rO : Nat → Nat) (rK : Nat → Nat) (fMr : Nat → Int32) (iA : Int32) (iB : Int32)  (hB : T_nb tA ≤ 8) (hPp : T_np tA ≤ 8) (hTI : TI tA) : MW l yX6_would cX6_would 4 (some .int) 16 0 0 G cy [zzO qm 5 (.ref qmh :: .ref qmo :: .ref qmz :: .ref qmR :: .ref qmv :: .ref qmk :: .ref qma :: .ref qmt :: .int (nI kZ) :: .ref qmr :: .int (nI (T_nb tA)) :: .ref qmB :: .int (nI (T_np tA)) :: .ref qmO :: .ref qmK :: .int iEn :: .int iTk :: .int (T_sd tA) :: ov uP :: ov uU :: .int (nI kAt) :: .int iTo :: .int iFr :: .long JFi :: .int iFa :: .ref qm3 :: .int iSt :: .int iLv :: .int iWs :: vLa :: .ref qmu :: .ref qmy :: .ref qmb :: .ref qms :: .int iOm :: []), zzG cy 3 qmB rB, zzI cy (rB 0) 4 (bkR tA 0), zzI cy (rB 1) 4 (bkR tA 1), zzI cy (rB 2) 4 (bkR tA 2), zzI cy (rB 3) 4 (bkR tA 3), zzI cy (rB 4) 4 (bkR tA 4), zzI cy (rB 5) 4 (bkR tA 5), zzI cy (rB 6) 4 (bkR tA 6), zzI cy (rB 7) 4 (bkR tA 7), zzG cy 3 qmO rO, zzI cy (rO 0) 5 (onR tA 0), zzI cy (rO 1) 5 (onR tA 1), zzI cy (rO 2) 5 (onR tA 2), zzI cy (rO 3) 5 (onR tA 3), zzI cy (rO 4) 5 (onR tA 4), zzI cy (rO 5) 5 (onR tA 5), zzI cy (rO 6) 5 (onR tA 6), zzI cy (rO 7) 5 (onR tA 7), zzG cy 3 qmK rK, zzI cy (rK 0) 8 (T_kn tA 0), zzI cy (rK 1) 8 (T_kn tA 1), zzI cy (rK 2) 8 (T_kn tA 2), zzI cy (rK 3) 8 (T_kn tA 3), zzI cy (rK 4) 8 (T_kn tA 4), zzI cy (rK 5) 8 (T_kn tA 5), zzI cy (rK 6) 8 (T_kn tA 6), zzI cy (rK 7) 8 (T_kn tA 7), zzI cy qmr 8 fMr] sz [.ref qm, .int iA, .int iB] (Wi G (fun r u => ∃ (fNr : Nat → Int32), u = [zzO qm 5 (.ref qmh :: .ref qmo :: .ref qmz :: .ref qmR :: .ref qmv :: .ref qmk :: .ref qma :: .ref qmt :: .int (nI kZ) :: .ref qmr :: .int (nI (T_nb tA)) :: .ref qmB :: .int (nI (T_np tA)) :: .ref qmO :: .ref qmK :: .int iEn :: .int iTk :: .int (T_sd tA) :: ov uP :: ov uU :: .int (nI kAt) :: .int iTo :: .int iFr :: .long JFi :: .int iFa :: .ref qm3 :: .int iSt :: .int iLv :: .int iWs :: vLa :: .ref qmu :: .ref qmy :: .ref qmb :: .ref qms :: .int iOm :: []), zzG cy 3 qmB rB, zzI cy (rB 0) 4 (bkR tA 0), zzI cy (rB 1) 4 (bkR tA 1), zzI cy (rB 2) 4 (bkR tA 2), zzI cy (rB 3) 4 (bkR tA 3), zzI cy (rB 4) 4 (bkR tA 4), zzI cy (rB 5) 4 (bkR tA 5), zzI cy (rB 6) 4 (bkR tA 6), zzI cy (rB 7) 4 (bkR tA 7), zzG cy 3 qmO rO, zzI cy (rO 0) 5 (onR tA 0), zzI cy (rO 1) 5 (onR tA 1), zzI cy (rO 2) 5 (onR tA 2), zzI cy (rO 3) 5 (onR tA 3), zzI cy (rO 4) 5 (onR tA 4), zzI cy (rO 5) 5 (onR tA 5), zzI cy (rO 6) 5 (onR tA 6), zzI cy (rO 7) 5 (onR tA 7), zzG cy 3 qmK rK, zzI cy (rK 0) 8 (T_kn tA 0), zzI cy (rK 1) 8 (T_kn tA 1), zzI cy (rK 2) 8 (T_kn tA 2), zzI cy (rK 3) 8 (T_kn tA 3), zzI cy (rK 4) 8 (T_kn tA 4), zzI cy (rK 5) 8 (T_kn tA 5), zzI cy (rK 6) 8 (T_kn tA 6), zzI cy (rK 7) 8 (T_kn tA 7), zzI cy qmr 8 fNr] ∧ (True))) := by
  refine enW RX6 (by decide +kernel) rfl (Nat.le_of_ble_eq_true rfl) (fun p e s m below meth c ls A hx hb hml hown hts hr hlocks hP hN hl hin hD hA hS => ?_)
  have hin : meth.name = _ := hin
  have hK := hN.1
  replace hl : lv_has ls 4 [(0, .ref qm), (1, .int iA), (2, .int iB)] := hl
  refine lv_aload_n hx hb (g_42 bX6_would rfl) rfl (lv_at hl 0 rfl) ?_
  refine lv_iload_n hx hb (g_27 bX6_would rfl) rfl (lv_at hl 1 rfl) ?_
  refine lv_iload_n hx hb (g_28 bX6_would rfl) rfl (lv_at hl 2 rfl) ?_
  refine cVi (As := [.int iA, .int iB]) (rest := []) (b := qm) (q := (RX6, TX6, 35)) ⟨hx, hb, hml, hown, hts⟩ (c_X6_noReading l G cy (s.heap).size qm (.ref qmh) (.ref qmo) (.ref qmz) (.ref qmR) (.ref qmv) (.ref qmk) (.ref qma) (.ref qmt) (.int (nI kZ)) qmr tA qmB qmO qmK iEn iTk (ov uP) (ov uU) (.int (nI kAt)) (.int iTo) (.int iFr) (.long JFi) (.int iFa) (.ref qm3) (.int iSt) iLv iWs vLa (.ref qmu) (.ref qmy) (.ref qmb) (.ref qms) (.int iOm) rB rO fMr iA iB hB hPp) L_X6_251 hN hP hD hS hA (trueIx 0 [true, true, true, true, true, true, true, true, true, true, true, true, true, true, true, true, true, true, true, false, false, false, false, false, false, false, false, false, true]) [false, false, false, false, false, false, false, false, false, false, false, false, false, false, false, false, false, false, false, true, true, true, true, true, true, true, true, true, false] (sel_eq rfl rfl) (by decide +kernel) rfl 0 5 rfl rfl rfl ⟨Nat.le_of_ble_eq_true rfl, Nat.le_of_ble_eq_true rfl⟩ hl.1 (Nat.le_of_ble_eq_true rfl) (g_182 (v := 251) bX6_would rfl) ⟨Nat.le_of_ble_eq_true rfl, Nat.le_of_ble_eq_true rfl⟩ (fun r_1 u_3 H locs h_2 => ?_)
  clear hP hD hS
  intro hP hD hS
  obtain ⟨fX_4, hu9, h_2⟩ := h_2
  have hPD := pd_eq [_, _, _, _, _, _, _, _, _, _, _, _, _, _, _, _, _, _, _, _, _, _, _, _, _, _, _, _, zzI cy qmr 8 fX_4] hP hD hu9 rfl
  clear hP hD hu9
  obtain ⟨hP, hD⟩ := hPD
  rcases h_2 with ⟨rfl, h_5⟩ | ⟨rfl, h_5⟩ | ⟨rfl, h_5⟩
  · refine lv_istore_n (lv' := [(3, .int (-2)), (0, .ref qm), (1, .int iA), (2, .int iB)]) hx hb (g_62 bX6_would rfl) rfl hl (by decide +kernel) rfl (fun ls => ?_)
    clear hl
    intro hl
    refine lv_iload_n hx hb (g_29 bX6_would rfl) rfl (lv_at hl 0 rfl) ?_
    refine lv_if_eq (tgt := 15) hx hb dX6_would_8 (by decide +kernel) (fun h9 => absurd h9 (by decide +kernel)) (fun _ => ?_)
    refine lv_iload_n hx hb (g_29 bX6_would rfl) rfl (lv_at hl 0 rfl) ?_
    refine lv_goto (tgt := 21) hx hb dX6_would_12 (by decide +kernel) ?_
    exact endWs [[false, false, false, false, false, false, false, false, false, true, true, true, true, true, true, true, true, true, true, true, true, true, true, true, true, true, true, true], [true, true, true, true, true, true, true, true, true, false, false, false, false, false, false, false, false, false, false, false, false, false, false, false, false, false, false, false, true]] hx hb hr hlocks rfl hP hD rfl (by decide +kernel) hS ⟨fX_4, rfl, trivial⟩ (g_172 bX6_would rfl)
  · refine lv_istore_n (lv' := [(3, .int (-5)), (0, .ref qm), (1, .int iA), (2, .int iB)]) hx hb (g_62 bX6_would rfl) rfl hl (by decide +kernel) rfl (fun ls => ?_)
    clear hl
    intro hl
    refine lv_iload_n hx hb (g_29 bX6_would rfl) rfl (lv_at hl 0 rfl) ?_
    refine lv_if_eq (tgt := 15) hx hb dX6_would_8 (by decide +kernel) (fun h9 => absurd h9 (by decide +kernel)) (fun _ => ?_)
    refine lv_iload_n hx hb (g_29 bX6_would rfl) rfl (lv_at hl 0 rfl) ?_
    refine lv_goto (tgt := 21) hx hb dX6_would_12 (by decide +kernel) ?_
    exact endWs [[false, false, false, false, false, false, false, false, false, true, true, true, true, true, true, true, true, true, true, true, true, true, true, true, true, true, true, true], [true, true, true, true, true, true, true, true, true, false, false, false, false, false, false, false, false, false, false, false, false, false, false, false, false, false, false, false, true]] hx hb hr hlocks rfl hP hD rfl (by decide +kernel) hS ⟨fX_4, rfl, trivial⟩ (g_172 bX6_would rfl)
  · refine lv_istore_n (lv' := [(3, .int 0), (0, .ref qm), (1, .int iA), (2, .int iB)]) hx hb (g_62 bX6_would rfl) rfl hl (by decide +kernel) rfl (fun ls => ?_)
    clear hl
    intro hl
    refine lv_iload_n hx hb (g_29 bX6_would rfl) rfl (lv_at hl 0 rfl) ?_
    refine lv_if_eq (tgt := 15) hx hb dX6_would_8 (by decide +kernel) (fun _ => ?_) (fun h9 => absurd (by decide +kernel) h9)
    refine lv_aload_n hx hb (g_42 bX6_would rfl) rfl (lv_at hl 1 rfl) ?_
    refine lv_iload_n hx hb (g_27 bX6_would rfl) rfl (lv_at hl 2 rfl) ?_
    refine lv_iload_n hx hb (g_28 bX6_would rfl) rfl (lv_at hl 3 rfl) ?_
    obtain ⟨k_9, k_10, hk_11, hk_12, rfl, rfl, h_13, h_14⟩ := h_5
    refine kRi (rV (As := [.int (nI k_9), .int (nI k_10)]) (rest := []) (b := qm) ⟨hx, hb, hml, hown, hts⟩ (c_X6_wouldKnow l G cy qm (.ref qmh) (.ref qmo) (.ref qmz) (.ref qmR) (.ref qmv) (.ref qmk) (.ref qma) (.ref qmt) (.int (nI kZ)) (.ref qmr) tA qmB qmO qmK iEn iTk (ov uP) (ov uU) (.int (nI kAt)) (.int iTo) (.int iFr) (.long JFi) (.int iFa) (.ref qm3) (.int iSt) iLv iWs vLa (.ref qmu) (.ref qmy) (.ref qmb) (.ref qms) (.int iOm) rB rO rK k_9 k_10 (by first | omega | (simp only [nb_sr, np_sr, nb_wr, np_wr, nb_rd, np_rd, nb_ch, np_ch, nb_zr, np_zr, nb_za, np_za, nb_ey, np_ey, nb_hf, np_hf, nb_dd, np_dd, nb_so, np_so, nb_skn, np_skn, nb_swh, np_swh, nb_sgn, np_sgn, nb_ssd, np_ssd, nb_sgo, np_sgo, nb_sag, np_sag]; omega)) (by first | omega | (simp only [nb_sr, np_sr, nb_wr, np_wr, nb_rd, np_rd, nb_ch, np_ch, nb_zr, np_zr, nb_za, np_za, nb_ey, np_ey, nb_hf, np_hf, nb_dd, np_dd, nb_so, np_so, nb_skn, np_skn, nb_swh, np_swh, nb_sgn, np_sgn, nb_ssd, np_ssd, nb_sgo, np_sgo, nb_sag, np_sag]; omega))) L_X6_254 (preRV (q := (RX6, TX6, 35)) hN hP (trueIxs [[false, false, false, false, false, false, false, false, false, true, true, true, true, true, true, true, true, true, true, true, true, true, true, true, true, true, true, true], [true, true, true, true, true, true, true, true, true]]) (sels_fm rfl rfl) 9 5 rfl rfl) rfl ⟨Nat.le_of_ble_eq_true rfl, Nat.le_of_ble_eq_true rfl⟩ hl.1 (Nat.le_of_ble_eq_true rfl) (g_182 (v := 254) bX6_would rfl) ⟨Nat.le_of_ble_eq_true rfl, Nat.le_of_ble_eq_true rfl⟩) (fun r_15 h_16 => ?_)
    subst h_16
    exact endWs [[false, false, false, false, false, false, false, false, false, true, true, true, true, true, true, true, true, true, true, true, true, true, true, true, true, true, true, true], [true, true, true, true, true, true, true, true, true, false, false, false, false, false, false, false, false, false, false, false, false, false, false, false, false, false, false, false, true]] hx hb hr hlocks rfl hP hD rfl (by decide +kernel) hS ⟨fX_4, rfl, trivial⟩ (g_172 bX6_would rfl)
set_option maxHeartbeats 4000000 in
set_option maxRecDepth 100000 in
theorem p_X6_teach (l : Launch) (G : va_G) (cy : Nat → ClassId) (sz : Nat) (qm : Nat) (qmh : Nat) (qmo : Nat) (qmz : Nat) (qmR : Nat) (qmv : Nat) (qmk : Nat) (qma : Nat) (qmt : Nat) (kZ : Nat) (qmr : Nat) (tA : TA) (qmB : Nat) (qmO : Nat) (qmK : Nat) (iEn : Int32) (iTk : Int32) (uP : UM) (uU : UM) (kAt : Nat) (iTo : Int32) (iFr : Int32) (JFi : Int64) (iFa : Int32) (qm3 : Nat) (iSt : Int32) (iLv : Int32) (iWs : Int32) (vLa : Value) (qmu : Nat) (qmy : Nat) (qmb : Nat) (qms : Nat) (iOm : Int32) (rB : Nat → Nat) (rO : Nat → Nat) (rK : Nat → Nat) (fMr : Nat → Int32) (iA : Int32) (iB : Int32)  (hB : T_nb tA ≤ 8) (hPp : T_np tA ≤ 8) (hTI : TI tA) : MW l yX6_teach cX6_teach 7 (some .int) 16 0 0 G cy [zzO qm 5 (.ref qmh :: .ref qmo :: .ref qmz :: .ref qmR :: .ref qmv :: .ref qmk :: .ref qma :: .ref qmt :: .int (nI kZ) :: .ref qmr :: .int (nI (T_nb tA)) :: .ref qmB :: .int (nI (T_np tA)) :: .ref qmO :: .ref qmK :: .int iEn :: .int iTk :: .int (T_sd tA) :: ov uP :: ov uU :: .int (nI kAt) :: .int iTo :: .int iFr :: .long JFi :: .int iFa :: .ref qm3 :: .int iSt :: .int iLv :: .int iWs :: vLa :: .ref qmu :: .ref qmy :: .ref qmb :: .ref qms :: .int iOm :: []), zzG cy 3 qmB rB, zzI cy (rB 0) 4 (bkR tA 0), zzI cy (rB 1) 4 (bkR tA 1), zzI cy (rB 2) 4 (bkR tA 2), zzI cy (rB 3) 4 (bkR tA 3), zzI cy (rB 4) 4 (bkR tA 4), zzI cy (rB 5) 4 (bkR tA 5), zzI cy (rB 6) 4 (bkR tA 6), zzI cy (rB 7) 4 (bkR tA 7), zzG cy 3 qmO rO, zzI cy (rO 0) 5 (onR tA 0), zzI cy (rO 1) 5 (onR tA 1), zzI cy (rO 2) 5 (onR tA 2), zzI cy (rO 3) 5 (onR tA 3), zzI cy (rO 4) 5 (onR tA 4), zzI cy (rO 5) 5 (onR tA 5), zzI cy (rO 6) 5 (onR tA 6), zzI cy (rO 7) 5 (onR tA 7), zzG cy 3 qmK rK, zzI cy (rK 0) 8 (T_kn tA 0), zzI cy (rK 1) 8 (T_kn tA 1), zzI cy (rK 2) 8 (T_kn tA 2), zzI cy (rK 3) 8 (T_kn tA 3), zzI cy (rK 4) 8 (T_kn tA 4), zzI cy (rK 5) 8 (T_kn tA 5), zzI cy (rK 6) 8 (T_kn tA 6), zzI cy (rK 7) 8 (T_kn tA 7), zzI cy qmr 8 fMr] sz [.ref qm, .int iA, .int iB] (Wi G (fun r u => ∃ (fNr : Nat → Int32), u = [zzO qm 5 (.ref qmh :: .ref qmo :: .ref qmz :: .ref qmR :: .ref qmv :: .ref qmk :: .ref qma :: .ref qmt :: .int (nI kZ) :: .ref qmr :: .int (nI (T_nb tA)) :: .ref qmB :: .int (nI (T_np tA)) :: .ref qmO :: .ref qmK :: .int iEn :: .int iTk :: .int (T_sd tA) :: ov uP :: ov uU :: .int (nI kAt) :: .int iTo :: .int iFr :: .long JFi :: .int iFa :: .ref qm3 :: .int iSt :: .int iLv :: .int iWs :: vLa :: .ref qmu :: .ref qmy :: .ref qmb :: .ref qms :: .int iOm :: []), zzG cy 3 qmB rB, zzI cy (rB 0) 4 (bkR tA 0), zzI cy (rB 1) 4 (bkR tA 1), zzI cy (rB 2) 4 (bkR tA 2), zzI cy (rB 3) 4 (bkR tA 3), zzI cy (rB 4) 4 (bkR tA 4), zzI cy (rB 5) 4 (bkR tA 5), zzI cy (rB 6) 4 (bkR tA 6), zzI cy (rB 7) 4 (bkR tA 7), zzG cy 3 qmO rO, zzI cy (rO 0) 5 (onR tA 0), zzI cy (rO 1) 5 (onR tA 1), zzI cy (rO 2) 5 (onR tA 2), zzI cy (rO 3) 5 (onR tA 3), zzI cy (rO 4) 5 (onR tA 4), zzI cy (rO 5) 5 (onR tA 5), zzI cy (rO 6) 5 (onR tA 6), zzI cy (rO 7) 5 (onR tA 7), zzG cy 3 qmK rK, zzI cy (rK 0) 8 (T_kn tA 0), zzI cy (rK 1) 8 (T_kn tA 1), zzI cy (rK 2) 8 (T_kn tA 2), zzI cy (rK 3) 8 (T_kn tA 3), zzI cy (rK 4) 8 (T_kn tA 4), zzI cy (rK 5) 8 (T_kn tA 5), zzI cy (rK 6) 8 (T_kn tA 6), zzI cy (rK 7) 8 (T_kn tA 7), zzI cy qmr 8 fNr] ∧ (True))) := by
  refine enW RX6 (by decide +kernel) rfl (Nat.le_of_ble_eq_true rfl) (fun p e s m below meth c ls A hx hb hml hown hts hr hlocks hP hN hl hin hD hA hS => ?_)
  have hin : meth.name = _ := hin
  have hK := hN.1
  replace hl : lv_has ls 7 [(0, .ref qm), (1, .int iA), (2, .int iB)] := hl
  refine lv_aload_n hx hb (g_42 bX6_teach rfl) rfl (lv_at hl 0 rfl) ?_
  refine lv_iload_n hx hb (g_27 bX6_teach rfl) rfl (lv_at hl 1 rfl) ?_
  refine lv_i2l (v := iA.toInt64) hx hb (g_133 bX6_teach rfl) rfl ?_
  refine kRi (rV (As := [.long iA.toInt64]) (rest := []) (b := qm) ⟨hx, hb, hml, hown, hts⟩ (c_X6_isOne l G cy qm (.ref qmh) (.ref qmo) (.ref qmz) (.ref qmR) (.ref qmv) (.ref qmk) (.ref qma) (.ref qmt) (.int (nI kZ)) (.ref qmr) tA qmB qmO qmK iEn iTk (ov uP) (ov uU) (.int (nI kAt)) (.int iTo) (.int iFr) (.long JFi) (.int iFa) (.ref qm3) (.int iSt) iLv iWs vLa (.ref qmu) (.ref qmy) (.ref qmb) (.ref qms) (.int iOm) iA hPp) L_X6_236 (preRV (q := (RX6, TX6, 35)) hN hP [0] rfl 0 5 rfl rfl) rfl ⟨Nat.le_of_ble_eq_true rfl, Nat.le_of_ble_eq_true rfl⟩ hl.1 (Nat.le_of_ble_eq_true rfl) (g_182 (v := 236) bX6_teach rfl) ⟨Nat.le_of_ble_eq_true rfl, Nat.le_of_ble_eq_true rfl⟩) (fun r_1 h_2 => ?_)
  rcases h_2 with ⟨rfl, h_3⟩ | ⟨rfl, h_3⟩
  · obtain ⟨k_4, hk_5, rfl⟩ := h_3
    refine lv_if_eq (tgt := 18) hx hb dX6_teach_6 (by decide +kernel) (fun h9 => absurd h9 (by decide +kernel)) (fun _ => ?_)
    refine lv_aload_n hx hb (g_42 bX6_teach rfl) rfl (lv_at hl 0 rfl) ?_
    refine lv_iload_n hx hb (g_28 bX6_teach rfl) rfl (lv_at hl 2 rfl) ?_
    refine lv_i2l (v := iB.toInt64) hx hb (g_133 bX6_teach rfl) rfl ?_
    refine kRi (rV (As := [.long iB.toInt64]) (rest := []) (b := qm) ⟨hx, hb, hml, hown, hts⟩ (c_X6_isBook l G cy qm (.ref qmh) (.ref qmo) (.ref qmz) (.ref qmR) (.ref qmv) (.ref qmk) (.ref qma) (.ref qmt) (.int (nI kZ)) (.ref qmr) tA qmB qmO qmK iEn iTk (ov uP) (ov uU) (.int (nI kAt)) (.int iTo) (.int iFr) (.long JFi) (.int iFa) (.ref qm3) (.int iSt) iLv iWs vLa (.ref qmu) (.ref qmy) (.ref qmb) (.ref qms) (.int iOm) iB hB) L_X6_229 (preRV (q := (RX6, TX6, 35)) hN hP [0] rfl 0 5 rfl rfl) rfl ⟨Nat.le_of_ble_eq_true rfl, Nat.le_of_ble_eq_true rfl⟩ hl.1 (Nat.le_of_ble_eq_true rfl) (g_182 (v := 229) bX6_teach rfl) ⟨Nat.le_of_ble_eq_true rfl, Nat.le_of_ble_eq_true rfl⟩) (fun r_7 h_8 => ?_)
    rcases h_8 with ⟨rfl, h_9⟩ | ⟨rfl, h_9⟩
    · obtain ⟨k_10, hk_11, rfl⟩ := h_9
      refine lv_if_ne (tgt := 25) hx hb dX6_teach_15 (by decide +kernel) (fun _ => ?_) (fun h9 => absurd h9 (by decide +kernel))
      refine lv_aload_n hx hb (g_42 bX6_teach rfl) rfl (lv_at hl 0 rfl) ?_
      refine lv_iload_n hx hb (g_27 bX6_teach rfl) rfl (lv_at hl 1 rfl) ?_
      refine kRi (rV (As := [.int (nI k_4)]) (rest := []) (b := qm) ⟨hx, hb, hml, hown, hts⟩ (c_X6_isThere l G cy qm (.ref qmh) (.ref qmo) (.ref qmz) (.ref qmR) (.ref qmv) (.ref qmk) (.ref qma) (.ref qmt) (.int (nI kZ)) (.ref qmr) tA qmB qmO qmK iEn iTk (ov uP) (ov uU) (.int (nI kAt)) (.int iTo) (.int iFr) (.long JFi) (.int iFa) (.ref qm3) (.int iSt) iLv iWs vLa (.ref qmu) (.ref qmy) (.ref qmb) (.ref qms) (.int iOm) rO k_4 (by first | omega | (simp only [nb_sr, np_sr, nb_wr, np_wr, nb_rd, np_rd, nb_ch, np_ch, nb_zr, np_zr, nb_za, np_za, nb_ey, np_ey, nb_hf, np_hf, nb_dd, np_dd, nb_so, np_so, nb_skn, np_skn, nb_swh, np_swh, nb_sgn, np_sgn, nb_ssd, np_ssd, nb_sgo, np_sgo, nb_sag, np_sag]; omega))) L_X6_81 (preRV (q := (RX6, TX6, 35)) hN hP (trueIx 0 [true, false, false, false, false, false, false, false, false, false, true, true, true, true, true, true, true, true, true]) (sel_fm rfl rfl) 0 5 rfl rfl) rfl ⟨Nat.le_of_ble_eq_true rfl, Nat.le_of_ble_eq_true rfl⟩ hl.1 (Nat.le_of_ble_eq_true rfl) (g_182 (v := 81) bX6_teach rfl) ⟨Nat.le_of_ble_eq_true rfl, Nat.le_of_ble_eq_true rfl⟩) (fun r_13 h_14 => ?_)
      rcases h_14 with ⟨rfl, h_15⟩ | ⟨rfl, h_15⟩
      · refine lv_if_ne (tgt := 40) hx hb dX6_teach_30 (by decide +kernel) (fun _ => ?_) (fun h9 => absurd h9 (by decide +kernel))
        refine lv_iconst (v := (-1)) hx hb (g_2 bX6_teach rfl) (by decide +kernel) ?_
        refine lv_istore_n (lv' := [(3, .int (-1)), (0, .ref qm), (1, .int (nI k_4)), (2, .int (nI k_10))]) hx hb (g_62 bX6_teach rfl) rfl hl (by decide +kernel) rfl (fun ls => ?_)
        clear hl
        intro hl
        refine lv_iconst (v := 0) hx hb (g_3 bX6_teach rfl) (by decide +kernel) ?_
        refine lv_istore (lv' := [(4, .int 0), (3, .int (-1)), (0, .ref qm), (1, .int (nI k_4)), (2, .int (nI k_10))]) hx hb (g_54 (v := 4) bX6_teach rfl) hl (by decide +kernel) rfl (fun ls => ?_)
        clear hl
        intro hl
        refine lv_iconst (v := 0) hx hb (g_3 bX6_teach rfl) (by decide +kernel) ?_
        refine lv_istore (lv' := [(5, .int 0), (4, .int 0), (3, .int (-1)), (0, .ref qm), (1, .int (nI k_4)), (2, .int (nI k_10))]) hx hb (g_54 (v := 5) bX6_teach rfl) hl (by decide +kernel) rfl (fun ls => ?_)
        clear hl
        intro hl
        have lp_17 : ∀ (n_18 : Nat) (j_20 : Nat) (x3_21 : Int32) (x4_22 : Int32), 8 - j_20 < n_18 → j_20 ≤ T_np tA → ∀ (H : Heap) (locs : List Loc) (ls : Array Slot), va_P G CL [zzO qm 5 (.ref qmh :: .ref qmo :: .ref qmz :: .ref qmR :: .ref qmv :: .ref qmk :: .ref qma :: .ref qmt :: .int (nI kZ) :: .ref qmr :: .int (nI (T_nb tA)) :: .ref qmB :: .int (nI (T_np tA)) :: .ref qmO :: .ref qmK :: .int iEn :: .int iTk :: .int (T_sd tA) :: ov uP :: ov uU :: .int (nI kAt) :: .int iTo :: .int iFr :: .long JFi :: .int iFa :: .ref qm3 :: .int iSt :: .int iLv :: .int iWs :: vLa :: .ref qmu :: .ref qmy :: .ref qmb :: .ref qms :: .int iOm :: []), zzG cy 3 qmB rB, zzI cy (rB 0) 4 (bkR tA 0), zzI cy (rB 1) 4 (bkR tA 1), zzI cy (rB 2) 4 (bkR tA 2), zzI cy (rB 3) 4 (bkR tA 3), zzI cy (rB 4) 4 (bkR tA 4), zzI cy (rB 5) 4 (bkR tA 5), zzI cy (rB 6) 4 (bkR tA 6), zzI cy (rB 7) 4 (bkR tA 7), zzG cy 3 qmO rO, zzI cy (rO 0) 5 (onR tA 0), zzI cy (rO 1) 5 (onR tA 1), zzI cy (rO 2) 5 (onR tA 2), zzI cy (rO 3) 5 (onR tA 3), zzI cy (rO 4) 5 (onR tA 4), zzI cy (rO 5) 5 (onR tA 5), zzI cy (rO 6) 5 (onR tA 6), zzI cy (rO 7) 5 (onR tA 7), zzG cy 3 qmK rK, zzI cy (rK 0) 8 (T_kn tA 0), zzI cy (rK 1) 8 (T_kn tA 1), zzI cy (rK 2) 8 (T_kn tA 2), zzI cy (rK 3) 8 (T_kn tA 3), zzI cy (rK 4) 8 (T_kn tA 4), zzI cy (rK 5) 8 (T_kn tA 5), zzI cy (rK 6) 8 (T_kn tA 6), zzI cy (rK 7) 8 (T_kn tA 7), zzI cy qmr 8 fMr] H → va_D A [zzO qm 5 (.ref qmh :: .ref qmo :: .ref qmz :: .ref qmR :: .ref qmv :: .ref qmk :: .ref qma :: .ref qmt :: .int (nI kZ) :: .ref qmr :: .int (nI (T_nb tA)) :: .ref qmB :: .int (nI (T_np tA)) :: .ref qmO :: .ref qmK :: .int iEn :: .int iTk :: .int (T_sd tA) :: ov uP :: ov uU :: .int (nI kAt) :: .int iTo :: .int iFr :: .long JFi :: .int iFa :: .ref qm3 :: .int iSt :: .int iLv :: .int iWs :: vLa :: .ref qmu :: .ref qmy :: .ref qmb :: .ref qms :: .int iOm :: []), zzG cy 3 qmB rB, zzI cy (rB 0) 4 (bkR tA 0), zzI cy (rB 1) 4 (bkR tA 1), zzI cy (rB 2) 4 (bkR tA 2), zzI cy (rB 3) 4 (bkR tA 3), zzI cy (rB 4) 4 (bkR tA 4), zzI cy (rB 5) 4 (bkR tA 5), zzI cy (rB 6) 4 (bkR tA 6), zzI cy (rB 7) 4 (bkR tA 7), zzG cy 3 qmO rO, zzI cy (rO 0) 5 (onR tA 0), zzI cy (rO 1) 5 (onR tA 1), zzI cy (rO 2) 5 (onR tA 2), zzI cy (rO 3) 5 (onR tA 3), zzI cy (rO 4) 5 (onR tA 4), zzI cy (rO 5) 5 (onR tA 5), zzI cy (rO 6) 5 (onR tA 6), zzI cy (rO 7) 5 (onR tA 7), zzG cy 3 qmK rK, zzI cy (rK 0) 8 (T_kn tA 0), zzI cy (rK 1) 8 (T_kn tA 1), zzI cy (rK 2) 8 (T_kn tA 2), zzI cy (rK 3) 8 (T_kn tA 3), zzI cy (rK 4) 8 (T_kn tA 4), zzI cy (rK 5) 8 (T_kn tA 5), zzI cy (rK 6) 8 (T_kn tA 6), zzI cy (rK 7) 8 (T_kn tA 7), zzI cy qmr 8 fMr] → va_S A s.heap H locs → lv_has ls 7 [(5, .int (nI j_20)), (4, .int x4_22), (3, .int x3_21), (0, .ref qm), (1, .int (nI k_4)), (2, .int (nI k_10))] → W p l e (Rm 16 0 0) s m (List.toArray (α := Value) [.ref qm, .int (nI k_4), .int (nI k_10)]) below meth c H locs 0 0 (MQ below ((Wi G (fun r u => ∃ (fNr : Nat → Int32), u = [zzO qm 5 (.ref qmh :: .ref qmo :: .ref qmz :: .ref qmR :: .ref qmv :: .ref qmk :: .ref qma :: .ref qmt :: .int (nI kZ) :: .ref qmr :: .int (nI (T_nb tA)) :: .ref qmB :: .int (nI (T_np tA)) :: .ref qmO :: .ref qmK :: .int iEn :: .int iTk :: .int (T_sd tA) :: ov uP :: ov uU :: .int (nI kAt) :: .int iTo :: .int iFr :: .long JFi :: .int iFa :: .ref qm3 :: .int iSt :: .int iLv :: .int iWs :: vLa :: .ref qmu :: .ref qmy :: .ref qmb :: .ref qms :: .int iOm :: []), zzG cy 3 qmB rB, zzI cy (rB 0) 4 (bkR tA 0), zzI cy (rB 1) 4 (bkR tA 1), zzI cy (rB 2) 4 (bkR tA 2), zzI cy (rB 3) 4 (bkR tA 3), zzI cy (rB 4) 4 (bkR tA 4), zzI cy (rB 5) 4 (bkR tA 5), zzI cy (rB 6) 4 (bkR tA 6), zzI cy (rB 7) 4 (bkR tA 7), zzG cy 3 qmO rO, zzI cy (rO 0) 5 (onR tA 0), zzI cy (rO 1) 5 (onR tA 1), zzI cy (rO 2) 5 (onR tA 2), zzI cy (rO 3) 5 (onR tA 3), zzI cy (rO 4) 5 (onR tA 4), zzI cy (rO 5) 5 (onR tA 5), zzI cy (rO 6) 5 (onR tA 6), zzI cy (rO 7) 5 (onR tA 7), zzG cy 3 qmK rK, zzI cy (rK 0) 8 (T_kn tA 0), zzI cy (rK 1) 8 (T_kn tA 1), zzI cy (rK 2) 8 (T_kn tA 2), zzI cy (rK 3) 8 (T_kn tA 3), zzI cy (rK 4) 8 (T_kn tA 4), zzI cy (rK 5) 8 (T_kn tA 5), zzI cy (rK 6) 8 (T_kn tA 6), zzI cy (rK 7) 8 (T_kn tA 7), zzI cy qmr 8 fNr] ∧ (True))) A) (List.toArray (α := Value) [.ref qm, .int (nI k_4), .int (nI k_10)]) s 0 0 A) (F0 m 48 ls []) := by
          intro n_18
          induction n_18 with
          | zero => intro j_20 x3_21 x4_22 hm9; exact absurd hm9 (Nat.not_lt_zero _)
          | succ n_18 ih_19 =>
            intro j_20 x3_21 x4_22 hm_24 hj_23 H locs ls hP hD hS hl
            refine lv_iload hx hb (g_21 (v := 5) bX6_teach rfl) (lv_at hl 0 rfl) ?_
            refine lv_aload_n hx hb (g_42 bX6_teach rfl) rfl (lv_at hl 3 rfl) ?_
            refine va_get (D := G) (ci := 5) (v := .int (nI (T_np tA))) (C := RX6) (T := TX6) (N := 35) hx hb hts iX_X6 hown hK hP 0 rfl rfl 12 (by decide +kernel) (hts _ m_t862) (fun _ h9 => h9) rfl (g_180 (v := 78) bX6_teach rfl) ?_
            refine lv_icmp_ge (tgt := 106) hx hb dX6_teach_54 (by decide +kernel) (fun c_25 => ?_) (fun c_25 => ?_)
            · have hlt_26 : j_20 = T_np tA := Nat.le_antisymm (by omega) (lp_ge rfl rfl (by omega) (by omega) c_25)
              refine lv_iload_n hx hb (g_29 bX6_teach rfl) rfl (lv_at hl 2 rfl) ?_
              exact endWs [[true, true, true, true, true, true, true, true, true, true, true, true, true, true, true, true, true, true, true, true, true, true, true, true, true, true, true, true, true]] hx hb hr hlocks rfl hP hD rfl (by decide +kernel) hS ⟨fMr, rfl, trivial⟩ (g_172 bX6_teach rfl)
            · have hlt_27 : j_20 < T_np tA := lp_lt rfl rfl (by omega) (by omega) c_25
              refine lv_iload hx hb (g_21 (v := 5) bX6_teach rfl) (lv_at hl 0 rfl) ?_
              refine lv_iload_n hx hb (g_27 bX6_teach rfl) rfl (lv_at hl 4 rfl) ?_
              refine lv_icmp_eq (tgt := 83) hx hb dX6_teach_60 (by decide +kernel) (fun c_28 => ?_) (fun c_28 => ?_)
              · refine lv_iconst (v := 0) hx hb (g_3 bX6_teach rfl) (by decide +kernel) ?_
                refine lv_istore (lv' := [(6, .int 0), (5, .int (nI j_20)), (4, .int x4_22), (3, .int x3_21), (0, .ref qm), (1, .int (nI k_4)), (2, .int (nI k_10))]) hx hb (g_54 (v := 6) bX6_teach rfl) hl (by decide +kernel) rfl (fun ls => ?_)
                clear hl
                intro hl
                refine lv_iload hx hb (g_21 (v := 6) bX6_teach rfl) (lv_at hl 0 rfl) ?_
                refine lv_iload hx hb (g_21 (v := 4) bX6_teach rfl) (lv_at hl 2 rfl) ?_
                refine lv_icmp_le (tgt := 100) hx hb dX6_teach_90 (by decide +kernel) (fun c_29 => ?_) (fun c_29 => ?_)
                · refine lv_iinc (v := nI (j_20 + 1)) (lv' := [(5, .int (nI (j_20 + 1))), (6, .int 0), (4, .int x4_22), (3, .int x3_21), (0, .ref qm), (1, .int (nI k_4)), (2, .int (nI k_10))]) hx hb dX6_teach_100 hl (k := 1) rfl (nI_1 _) (by decide +kernel) rfl (fun ls => ?_)
                  clear hl
                  intro hl
                  refine lv_goto (tgt := 48) hx hb dX6_teach_103 (by decide +kernel) ?_
                  exact ih_19 (j_20 + 1) x3_21 x4_22 (by omega) (by omega) _ _ _ hP hD hS (lv_sub hl [0, 2, 3, 4, 5, 6] rfl)
                · refine lv_iload hx hb (g_21 (v := 5) bX6_teach rfl) (lv_at hl 1 rfl) ?_
                  refine lv_istore_n (lv' := [(3, .int (nI j_20)), (6, .int 0), (5, .int (nI j_20)), (4, .int x4_22), (0, .ref qm), (1, .int (nI k_4)), (2, .int (nI k_10))]) hx hb (g_62 bX6_teach rfl) rfl hl (by decide +kernel) rfl (fun ls => ?_)
                  clear hl
                  intro hl
                  refine lv_iload hx hb (g_21 (v := 6) bX6_teach rfl) (lv_at hl 1 rfl) ?_
                  refine lv_istore (lv' := [(4, .int 0), (3, .int (nI j_20)), (6, .int 0), (5, .int (nI j_20)), (0, .ref qm), (1, .int (nI k_4)), (2, .int (nI k_10))]) hx hb (g_54 (v := 4) bX6_teach rfl) hl (by decide +kernel) rfl (fun ls => ?_)
                  clear hl
                  intro hl
                  refine lv_iinc (v := nI (j_20 + 1)) (lv' := [(5, .int (nI (j_20 + 1))), (4, .int 0), (3, .int (nI j_20)), (6, .int 0), (0, .ref qm), (1, .int (nI k_4)), (2, .int (nI k_10))]) hx hb dX6_teach_100 hl (k := 3) rfl (nI_1 _) (by decide +kernel) rfl (fun ls => ?_)
                  clear hl
                  intro hl
                  refine lv_goto (tgt := 48) hx hb dX6_teach_103 (by decide +kernel) ?_
                  exact ih_19 (j_20 + 1) (nI j_20) 0 (by omega) (by omega) _ _ _ hP hD hS (lv_sub hl [0, 1, 2, 4, 5, 6] rfl)
              · refine lv_aload_n hx hb (g_42 bX6_teach rfl) rfl (lv_at hl 3 rfl) ?_
                refine lv_iload hx hb (g_21 (v := 5) bX6_teach rfl) (lv_at hl 0 rfl) ?_
                refine kRi (rV (As := [.int (nI j_20)]) (rest := []) (b := qm) ⟨hx, hb, hml, hown, hts⟩ (c_X6_isThere l G cy qm (.ref qmh) (.ref qmo) (.ref qmz) (.ref qmR) (.ref qmv) (.ref qmk) (.ref qma) (.ref qmt) (.int (nI kZ)) (.ref qmr) tA qmB qmO qmK iEn iTk (ov uP) (ov uU) (.int (nI kAt)) (.int iTo) (.int iFr) (.long JFi) (.int iFa) (.ref qm3) (.int iSt) iLv iWs vLa (.ref qmu) (.ref qmy) (.ref qmb) (.ref qms) (.int iOm) rO j_20 (by first | omega | (simp only [nb_sr, np_sr, nb_wr, np_wr, nb_rd, np_rd, nb_ch, np_ch, nb_zr, np_zr, nb_za, np_za, nb_ey, np_ey, nb_hf, np_hf, nb_dd, np_dd, nb_so, np_so, nb_skn, np_skn, nb_swh, np_swh, nb_sgn, np_sgn, nb_ssd, np_ssd, nb_sgo, np_sgo, nb_sag, np_sag]; omega))) L_X6_81 (preRV (q := (RX6, TX6, 35)) hN hP (trueIx 0 [true, false, false, false, false, false, false, false, false, false, true, true, true, true, true, true, true, true, true]) (sel_fm rfl rfl) 0 5 rfl rfl) rfl ⟨Nat.le_of_ble_eq_true rfl, Nat.le_of_ble_eq_true rfl⟩ hl.1 (Nat.le_of_ble_eq_true rfl) (g_182 (v := 81) bX6_teach rfl) ⟨Nat.le_of_ble_eq_true rfl, Nat.le_of_ble_eq_true rfl⟩) (fun r_30 h_31 => ?_)
                rcases h_31 with ⟨rfl, h_32⟩ | ⟨rfl, h_32⟩
                · refine lv_if_eq (tgt := 83) hx hb dX6_teach_69 (by decide +kernel) (fun h9 => absurd h9 (by decide +kernel)) (fun _ => ?_)
                  refine lv_aload_n hx hb (g_42 bX6_teach rfl) rfl (lv_at hl 3 rfl) ?_
                  refine lv_iload_n hx hb (g_27 bX6_teach rfl) rfl (lv_at hl 4 rfl) ?_
                  refine lv_iload hx hb (g_21 (v := 5) bX6_teach rfl) (lv_at hl 0 rfl) ?_
                  refine lv_iload_n hx hb (g_28 bX6_teach rfl) rfl (lv_at hl 5 rfl) ?_
                  refine kRi (rV (As := [.int (nI k_4), .int (nI j_20), .int (nI k_10)]) (rest := []) (b := qm) ⟨hx, hb, hml, hown, hts⟩ (c_X6_moreBy l G cy qm (.ref qmh) (.ref qmo) (.ref qmz) (.ref qmR) (.ref qmv) (.ref qmk) (.ref qma) (.ref qmt) (.int (nI kZ)) (.ref qmr) tA qmB qmO qmK iEn iTk (ov uP) (ov uU) (.int (nI kAt)) (.int iTo) (.int iFr) (.long JFi) (.int iFa) (.ref qm3) (.int iSt) iLv iWs vLa (.ref qmu) (.ref qmy) (.ref qmb) (.ref qms) (.int iOm) rB rO rK k_4 j_20 k_10 (by first | omega | (simp only [nb_sr, np_sr, nb_wr, np_wr, nb_rd, np_rd, nb_ch, np_ch, nb_zr, np_zr, nb_za, np_za, nb_ey, np_ey, nb_hf, np_hf, nb_dd, np_dd, nb_so, np_so, nb_skn, np_skn, nb_swh, np_swh, nb_sgn, np_sgn, nb_ssd, np_ssd, nb_sgo, np_sgo, nb_sag, np_sag]; omega)) (by first | omega | (simp only [nb_sr, np_sr, nb_wr, np_wr, nb_rd, np_rd, nb_ch, np_ch, nb_zr, np_zr, nb_za, np_za, nb_ey, np_ey, nb_hf, np_hf, nb_dd, np_dd, nb_so, np_so, nb_skn, np_skn, nb_swh, np_swh, nb_sgn, np_sgn, nb_ssd, np_ssd, nb_sgo, np_sgo, nb_sag, np_sag]; omega)) (by first | omega | (simp only [nb_sr, np_sr, nb_wr, np_wr, nb_rd, np_rd, nb_ch, np_ch, nb_zr, np_zr, nb_za, np_za, nb_ey, np_ey, nb_hf, np_hf, nb_dd, np_dd, nb_so, np_so, nb_skn, np_skn, nb_swh, np_swh, nb_sgn, np_sgn, nb_ssd, np_ssd, nb_sgo, np_sgo, nb_sag, np_sag]; omega)) hTI) L_X6_263 (preRV (q := (RX6, TX6, 35)) hN hP (trueIx 0 [true, true, true, true, true, true, true, true, true, true, true, true, true, true, true, true, true, true, true, true, true, true, true, true, true, true, true, true]) (sel_fm rfl rfl) 0 5 rfl rfl) rfl ⟨Nat.le_of_ble_eq_true rfl, Nat.le_of_ble_eq_true rfl⟩ hl.1 (Nat.le_of_ble_eq_true rfl) (g_182 (v := 263) bX6_teach rfl) ⟨Nat.le_of_ble_eq_true rfl, Nat.le_of_ble_eq_true rfl⟩) (fun r_34 h_35 => ?_)
                  subst h_35
                  refine lv_goto (tgt := 84) hx hb dX6_teach_80 (by decide +kernel) ?_
                  refine lv_istore (lv' := [(6, .int (zgt tA k_4 j_20 k_10)), (5, .int (nI j_20)), (4, .int x4_22), (3, .int x3_21), (0, .ref qm), (1, .int (nI k_4)), (2, .int (nI k_10))]) hx hb (g_54 (v := 6) bX6_teach rfl) hl (by decide +kernel) rfl (fun ls => ?_)
                  clear hl
                  intro hl
                  refine lv_iload hx hb (g_21 (v := 6) bX6_teach rfl) (lv_at hl 0 rfl) ?_
                  refine lv_iload hx hb (g_21 (v := 4) bX6_teach rfl) (lv_at hl 2 rfl) ?_
                  refine lv_icmp_le (tgt := 100) hx hb dX6_teach_90 (by decide +kernel) (fun c_36 => ?_) (fun c_36 => ?_)
                  · refine lv_iinc (v := nI (j_20 + 1)) (lv' := [(5, .int (nI (j_20 + 1))), (6, .int (zgt tA k_4 j_20 k_10)), (4, .int x4_22), (3, .int x3_21), (0, .ref qm), (1, .int (nI k_4)), (2, .int (nI k_10))]) hx hb dX6_teach_100 hl (k := 1) rfl (nI_1 _) (by decide +kernel) rfl (fun ls => ?_)
                    clear hl
                    intro hl
                    refine lv_goto (tgt := 48) hx hb dX6_teach_103 (by decide +kernel) ?_
                    exact ih_19 (j_20 + 1) x3_21 x4_22 (by omega) (by omega) _ _ _ hP hD hS (lv_sub hl [0, 2, 3, 4, 5, 6] rfl)
                  · refine lv_iload hx hb (g_21 (v := 5) bX6_teach rfl) (lv_at hl 1 rfl) ?_
                    refine lv_istore_n (lv' := [(3, .int (nI j_20)), (6, .int (zgt tA k_4 j_20 k_10)), (5, .int (nI j_20)), (4, .int x4_22), (0, .ref qm), (1, .int (nI k_4)), (2, .int (nI k_10))]) hx hb (g_62 bX6_teach rfl) rfl hl (by decide +kernel) rfl (fun ls => ?_)
                    clear hl
                    intro hl
                    refine lv_iload hx hb (g_21 (v := 6) bX6_teach rfl) (lv_at hl 1 rfl) ?_
                    refine lv_istore (lv' := [(4, .int (zgt tA k_4 j_20 k_10)), (3, .int (nI j_20)), (6, .int (zgt tA k_4 j_20 k_10)), (5, .int (nI j_20)), (0, .ref qm), (1, .int (nI k_4)), (2, .int (nI k_10))]) hx hb (g_54 (v := 4) bX6_teach rfl) hl (by decide +kernel) rfl (fun ls => ?_)
                    clear hl
                    intro hl
                    refine lv_iinc (v := nI (j_20 + 1)) (lv' := [(5, .int (nI (j_20 + 1))), (4, .int (zgt tA k_4 j_20 k_10)), (3, .int (nI j_20)), (6, .int (zgt tA k_4 j_20 k_10)), (0, .ref qm), (1, .int (nI k_4)), (2, .int (nI k_10))]) hx hb dX6_teach_100 hl (k := 3) rfl (nI_1 _) (by decide +kernel) rfl (fun ls => ?_)
                    clear hl
                    intro hl
                    refine lv_goto (tgt := 48) hx hb dX6_teach_103 (by decide +kernel) ?_
                    exact ih_19 (j_20 + 1) (nI j_20) (zgt tA k_4 j_20 k_10) (by omega) (by omega) _ _ _ hP hD hS (lv_sub hl [0, 1, 2, 4, 5, 6] rfl)
                · refine lv_if_eq (tgt := 83) hx hb dX6_teach_69 (by decide +kernel) (fun _ => ?_) (fun h9 => absurd (by decide +kernel) h9)
                  refine lv_iconst (v := 0) hx hb (g_3 bX6_teach rfl) (by decide +kernel) ?_
                  refine lv_istore (lv' := [(6, .int 0), (5, .int (nI j_20)), (4, .int x4_22), (3, .int x3_21), (0, .ref qm), (1, .int (nI k_4)), (2, .int (nI k_10))]) hx hb (g_54 (v := 6) bX6_teach rfl) hl (by decide +kernel) rfl (fun ls => ?_)
                  clear hl
                  intro hl
                  refine lv_iload hx hb (g_21 (v := 6) bX6_teach rfl) (lv_at hl 0 rfl) ?_
                  refine lv_iload hx hb (g_21 (v := 4) bX6_teach rfl) (lv_at hl 2 rfl) ?_
                  refine lv_icmp_le (tgt := 100) hx hb dX6_teach_90 (by decide +kernel) (fun c_38 => ?_) (fun c_38 => ?_)
                  · refine lv_iinc (v := nI (j_20 + 1)) (lv' := [(5, .int (nI (j_20 + 1))), (6, .int 0), (4, .int x4_22), (3, .int x3_21), (0, .ref qm), (1, .int (nI k_4)), (2, .int (nI k_10))]) hx hb dX6_teach_100 hl (k := 1) rfl (nI_1 _) (by decide +kernel) rfl (fun ls => ?_)
                    clear hl
                    intro hl
                    refine lv_goto (tgt := 48) hx hb dX6_teach_103 (by decide +kernel) ?_
                    exact ih_19 (j_20 + 1) x3_21 x4_22 (by omega) (by omega) _ _ _ hP hD hS (lv_sub hl [0, 2, 3, 4, 5, 6] rfl)
                  · refine lv_iload hx hb (g_21 (v := 5) bX6_teach rfl) (lv_at hl 1 rfl) ?_
                    refine lv_istore_n (lv' := [(3, .int (nI j_20)), (6, .int 0), (5, .int (nI j_20)), (4, .int x4_22), (0, .ref qm), (1, .int (nI k_4)), (2, .int (nI k_10))]) hx hb (g_62 bX6_teach rfl) rfl hl (by decide +kernel) rfl (fun ls => ?_)
                    clear hl
                    intro hl
                    refine lv_iload hx hb (g_21 (v := 6) bX6_teach rfl) (lv_at hl 1 rfl) ?_
                    refine lv_istore (lv' := [(4, .int 0), (3, .int (nI j_20)), (6, .int 0), (5, .int (nI j_20)), (0, .ref qm), (1, .int (nI k_4)), (2, .int (nI k_10))]) hx hb (g_54 (v := 4) bX6_teach rfl) hl (by decide +kernel) rfl (fun ls => ?_)
                    clear hl
                    intro hl
                    refine lv_iinc (v := nI (j_20 + 1)) (lv' := [(5, .int (nI (j_20 + 1))), (4, .int 0), (3, .int (nI j_20)), (6, .int 0), (0, .ref qm), (1, .int (nI k_4)), (2, .int (nI k_10))]) hx hb dX6_teach_100 hl (k := 3) rfl (nI_1 _) (by decide +kernel) rfl (fun ls => ?_)
                    clear hl
                    intro hl
                    refine lv_goto (tgt := 48) hx hb dX6_teach_103 (by decide +kernel) ?_
                    exact ih_19 (j_20 + 1) (nI j_20) 0 (by omega) (by omega) _ _ _ hP hD hS (lv_sub hl [0, 1, 2, 4, 5, 6] rfl)
        exact lp_17 ((8 - 0) + 1) 0 (-1) 0 (Nat.lt_succ_self _) (Nat.zero_le _) _ _ ls hP hD hS (lv_sub hl [0, 1, 2, 3, 4, 5] rfl)
      · refine lv_if_ne (tgt := 40) hx hb dX6_teach_30 (by decide +kernel) (fun h9 => absurd (by decide +kernel) h9) (fun _ => ?_)
        refine lv_aload_n hx hb (g_42 bX6_teach rfl) rfl (lv_at hl 0 rfl) ?_
        refine lv_bipush (v := (-5)) hx hb dX6_teach_34 (by decide +kernel) ?_
        refine cVi (As := [.int (-5)]) (rest := []) (b := qm) (q := (RX6, TX6, 35)) ⟨hx, hb, hml, hown, hts⟩ (c_X6_refuse5 l G cy (s.heap).size qm (.ref qmh) (.ref qmo) (.ref qmz) (.ref qmR) (.ref qmv) (.ref qmk) (.ref qma) (.ref qmt) (.int (nI kZ)) qmr tA qmB qmO qmK iEn iTk (ov uP) (ov uU) (.int (nI kAt)) (.int iTo) (.int iFr) (.long JFi) (.int iFa) (.ref qm3) (.int iSt) iLv iWs vLa (.ref qmu) (.ref qmy) (.ref qmb) (.ref qms) (.int iOm) fMr) L_X6_91 hN hP hD hS hA [0, 28] [false, true, true, true, true, true, true, true, true, true, true, true, true, true, true, true, true, true, true, true, true, true, true, true, true, true, true, true, false] rfl (by decide +kernel) rfl 0 5 rfl rfl rfl ⟨Nat.le_of_ble_eq_true rfl, Nat.le_of_ble_eq_true rfl⟩ hl.1 (Nat.le_of_ble_eq_true rfl) (g_182 (v := 91) bX6_teach rfl) ⟨Nat.le_of_ble_eq_true rfl, Nat.le_of_ble_eq_true rfl⟩ (fun r_40 u_42 H locs h_41 => ?_)
        clear hP hD hS
        intro hP hD hS
        obtain ⟨fX_43, hu9, h_41⟩ := h_41
        have hPD := pd_eq [_, _, _, _, _, _, _, _, _, _, _, _, _, _, _, _, _, _, _, _, _, _, _, _, _, _, _, _, zzI cy qmr 8 fX_43] hP hD hu9 rfl
        clear hP hD hu9
        obtain ⟨hP, hD⟩ := hPD
        subst h_41
        exact endWs [[false, false, false, false, false, false, false, false, false, false, false, false, false, false, false, false, false, false, false, false, false, false, false, false, false, false, false, true], [true, true, true, true, true, true, true, true, true, true, true, true, true, true, true, true, true, true, true, true, true, true, true, true, true, true, true, false, true]] hx hb hr hlocks rfl hP hD rfl (by decide +kernel) hS ⟨fX_43, rfl, trivial⟩ (g_172 bX6_teach rfl)
    · refine lv_if_ne (tgt := 25) hx hb dX6_teach_15 (by decide +kernel) (fun h9 => absurd (by decide +kernel) h9) (fun _ => ?_)
      refine lv_aload_n hx hb (g_42 bX6_teach rfl) rfl (lv_at hl 0 rfl) ?_
      refine lv_bipush (v := (-2)) hx hb dX6_teach_19 (by decide +kernel) ?_
      refine cVi (As := [.int (-2)]) (rest := []) (b := qm) (q := (RX6, TX6, 35)) ⟨hx, hb, hml, hown, hts⟩ (c_X6_refuse2 l G cy (s.heap).size qm (.ref qmh) (.ref qmo) (.ref qmz) (.ref qmR) (.ref qmv) (.ref qmk) (.ref qma) (.ref qmt) (.int (nI kZ)) qmr tA qmB qmO qmK iEn iTk (ov uP) (ov uU) (.int (nI kAt)) (.int iTo) (.int iFr) (.long JFi) (.int iFa) (.ref qm3) (.int iSt) iLv iWs vLa (.ref qmu) (.ref qmy) (.ref qmb) (.ref qms) (.int iOm) fMr) L_X6_91 hN hP hD hS hA [0, 28] [false, true, true, true, true, true, true, true, true, true, true, true, true, true, true, true, true, true, true, true, true, true, true, true, true, true, true, true, false] rfl (by decide +kernel) rfl 0 5 rfl rfl rfl ⟨Nat.le_of_ble_eq_true rfl, Nat.le_of_ble_eq_true rfl⟩ hl.1 (Nat.le_of_ble_eq_true rfl) (g_182 (v := 91) bX6_teach rfl) ⟨Nat.le_of_ble_eq_true rfl, Nat.le_of_ble_eq_true rfl⟩ (fun r_45 u_47 H locs h_46 => ?_)
      clear hP hD hS
      intro hP hD hS
      obtain ⟨fX_48, hu9, h_46⟩ := h_46
      have hPD := pd_eq [_, _, _, _, _, _, _, _, _, _, _, _, _, _, _, _, _, _, _, _, _, _, _, _, _, _, _, _, zzI cy qmr 8 fX_48] hP hD hu9 rfl
      clear hP hD hu9
      obtain ⟨hP, hD⟩ := hPD
      subst h_46
      exact endWs [[false, false, false, false, false, false, false, false, false, false, false, false, false, false, false, false, false, false, false, false, false, false, false, false, false, false, false, true], [true, true, true, true, true, true, true, true, true, true, true, true, true, true, true, true, true, true, true, true, true, true, true, true, true, true, true, false, true]] hx hb hr hlocks rfl hP hD rfl (by decide +kernel) hS ⟨fX_48, rfl, trivial⟩ (g_172 bX6_teach rfl)
  · refine lv_if_eq (tgt := 18) hx hb dX6_teach_6 (by decide +kernel) (fun _ => ?_) (fun h9 => absurd (by decide +kernel) h9)
    refine lv_aload_n hx hb (g_42 bX6_teach rfl) rfl (lv_at hl 0 rfl) ?_
    refine lv_bipush (v := (-2)) hx hb dX6_teach_19 (by decide +kernel) ?_
    refine cVi (As := [.int (-2)]) (rest := []) (b := qm) (q := (RX6, TX6, 35)) ⟨hx, hb, hml, hown, hts⟩ (c_X6_refuse2 l G cy (s.heap).size qm (.ref qmh) (.ref qmo) (.ref qmz) (.ref qmR) (.ref qmv) (.ref qmk) (.ref qma) (.ref qmt) (.int (nI kZ)) qmr tA qmB qmO qmK iEn iTk (ov uP) (ov uU) (.int (nI kAt)) (.int iTo) (.int iFr) (.long JFi) (.int iFa) (.ref qm3) (.int iSt) iLv iWs vLa (.ref qmu) (.ref qmy) (.ref qmb) (.ref qms) (.int iOm) fMr) L_X6_91 hN hP hD hS hA [0, 28] [false, true, true, true, true, true, true, true, true, true, true, true, true, true, true, true, true, true, true, true, true, true, true, true, true, true, true, true, false] rfl (by decide +kernel) rfl 0 5 rfl rfl rfl ⟨Nat.le_of_ble_eq_true rfl, Nat.le_of_ble_eq_true rfl⟩ hl.1 (Nat.le_of_ble_eq_true rfl) (g_182 (v := 91) bX6_teach rfl) ⟨Nat.le_of_ble_eq_true rfl, Nat.le_of_ble_eq_true rfl⟩ (fun r_50 u_52 H locs h_51 => ?_)
    clear hP hD hS
    intro hP hD hS
    obtain ⟨fX_53, hu9, h_51⟩ := h_51
    have hPD := pd_eq [_, _, _, _, _, _, _, _, _, _, _, _, _, _, _, _, _, _, _, _, _, _, _, _, _, _, _, _, zzI cy qmr 8 fX_53] hP hD hu9 rfl
    clear hP hD hu9
    obtain ⟨hP, hD⟩ := hPD
    subst h_51
    exact endWs [[false, false, false, false, false, false, false, false, false, false, false, false, false, false, false, false, false, false, false, false, false, false, false, false, false, false, false, true], [true, true, true, true, true, true, true, true, true, true, true, true, true, true, true, true, true, true, true, true, true, true, true, true, true, true, true, false, true]] hx hb hr hlocks rfl hP hD rfl (by decide +kernel) hS ⟨fX_53, rfl, trivial⟩ (g_172 bX6_teach rfl)
set_option maxHeartbeats 4000000 in
set_option maxRecDepth 100000 in
theorem p_X6_value (l : Launch) (G : va_G) (cy : Nat → ClassId) (qm : Nat) (qmh : Nat) (qmo : Nat) (qmz : Nat) (qmR : Nat) (qmv : Nat) (qmk : Nat) (qma : Nat) (qmt : Nat) (kZ : Nat) (qmr : Nat) (tA : TA) (qmB : Nat) (qmO : Nat) (qmK : Nat) (iEn : Int32) (iTk : Int32) (uP : UM) (uU : UM) (kAt : Nat) (iTo : Int32) (iFr : Int32) (JFi : Int64) (iFa : Int32) (qm3 : Nat) (iSt : Int32) (iLv : Int32) (iWs : Int32) (vLa : Value) (qmu : Nat) (qmy : Nat) (qmb : Nat) (qms : Nat) (iOm : Int32) (rB : Nat → Nat) (rO : Nat → Nat) (rK : Nat → Nat)  (hB : T_nb tA ≤ 8) (hPp : T_np tA ≤ 8) (hTI : TI tA) : MR l yX6_value cX6_value 1 (some .int) 16 G cy [zzO qm 5 (.ref qmh :: .ref qmo :: .ref qmz :: .ref qmR :: .ref qmv :: .ref qmk :: .ref qma :: .ref qmt :: .int (nI kZ) :: .ref qmr :: .int (nI (T_nb tA)) :: .ref qmB :: .int (nI (T_np tA)) :: .ref qmO :: .ref qmK :: .int iEn :: .int iTk :: .int (T_sd tA) :: ov uP :: ov uU :: .int (nI kAt) :: .int iTo :: .int iFr :: .long JFi :: .int iFa :: .ref qm3 :: .int iSt :: .int iLv :: .int iWs :: vLa :: .ref qmu :: .ref qmy :: .ref qmb :: .ref qms :: .int iOm :: []), zzG cy 3 qmB rB, zzI cy (rB 0) 4 (bkR tA 0), zzI cy (rB 1) 4 (bkR tA 1), zzI cy (rB 2) 4 (bkR tA 2), zzI cy (rB 3) 4 (bkR tA 3), zzI cy (rB 4) 4 (bkR tA 4), zzI cy (rB 5) 4 (bkR tA 5), zzI cy (rB 6) 4 (bkR tA 6), zzI cy (rB 7) 4 (bkR tA 7), zzG cy 3 qmO rO, zzI cy (rO 0) 5 (onR tA 0), zzI cy (rO 1) 5 (onR tA 1), zzI cy (rO 2) 5 (onR tA 2), zzI cy (rO 3) 5 (onR tA 3), zzI cy (rO 4) 5 (onR tA 4), zzI cy (rO 5) 5 (onR tA 5), zzI cy (rO 6) 5 (onR tA 6), zzI cy (rO 7) 5 (onR tA 7), zzG cy 3 qmK rK, zzI cy (rK 0) 8 (T_kn tA 0), zzI cy (rK 1) 8 (T_kn tA 1), zzI cy (rK 2) 8 (T_kn tA 2), zzI cy (rK 3) 8 (T_kn tA 3), zzI cy (rK 4) 8 (T_kn tA 4), zzI cy (rK 5) 8 (T_kn tA 5), zzI cy (rK 6) 8 (T_kn tA 6), zzI cy (rK 7) 8 (T_kn tA 7)] [.ref qm] (vp_Si (fun r => True)) := by
  refine enR RX6 (by decide +kernel) rfl (Nat.le_of_ble_eq_true rfl) (fun p e s m below meth c ls hx hb hml hown hts hr hlocks hP hN hl => ?_)
  have hK := hN.1
  replace hl : lv_has ls 1 [(0, .ref qm)] := hl
  refine lv_aload_n hx hb (g_42 bX6_value rfl) rfl (lv_at hl 0 rfl) ?_
  refine kRi (rV (As := []) (rest := []) (b := qm) ⟨hx, hb, hml, hown, hts⟩ (c_X6_valueNow l G cy qm (.ref qmh) (.ref qmo) (.ref qmz) (.ref qmR) (.ref qmv) (.ref qmk) (.ref qma) (.ref qmt) (.int (nI kZ)) (.ref qmr) tA qmB qmO qmK iEn iTk (ov uP) (ov uU) (.int (nI kAt)) (.int iTo) (.int iFr) (.long JFi) (.int iFa) (.ref qm3) (.int iSt) iLv iWs vLa (.ref qmu) (.ref qmy) (.ref qmb) (.ref qms) (.int iOm) rB rO rK hB hPp) L_X6_122 (preRV (q := (RX6, TX6, 35)) hN hP (trueIx 0 [true, true, true, true, true, true, true, true, true, true, true, true, true, true, true, true, true, true, true, true, true, true, true, true, true, true, true, true]) (sel_fm rfl rfl) 0 5 rfl rfl) rfl ⟨Nat.le_of_ble_eq_true rfl, Nat.le_of_ble_eq_true rfl⟩ hl.1 (Nat.le_of_ble_eq_true rfl) (g_182 (v := 122) bX6_value rfl) ⟨Nat.le_of_ble_eq_true rfl, Nat.le_of_ble_eq_true rfl⟩) (fun r_1 h_2 => ?_)
  subst h_2
  exact endR hx hb hr hlocks rfl trivial (g_172 bX6_value rfl)
set_option maxHeartbeats 4000000 in
set_option maxRecDepth 100000 in
theorem p_X6_two (l : Launch) (G : va_G) (cy : Nat → ClassId) (sz : Nat) (qm : Nat) (qmh : Nat) (qmo : Nat) (qmz : Nat) (qmR : Nat) (qmv : Nat) (qmk : Nat) (qma : Nat) (qmt : Nat) (kZ : Nat) (qmr : Nat) (tA : TA) (qmB : Nat) (qmO : Nat) (qmK : Nat) (iEn : Int32) (iTk : Int32) (uP : UM) (uU : UM) (kAt : Nat) (iTo : Int32) (iFr : Int32) (JFi : Int64) (iFa : Int32) (qm3 : Nat) (iSt : Int32) (iLv : Int32) (iWs : Int32) (vLa : Value) (qmu : Nat) (qmy : Nat) (qmb : Nat) (qms : Nat) (iOm : Int32) (rB : Nat → Nat) (rO : Nat → Nat) (rK : Nat → Nat) (fMr : Nat → Int32) (iA : Int32) (iB : Int32)  (hB : T_nb tA ≤ 8) (hPp : T_np tA ≤ 8) (hTI : TI tA) : MW l yX6_two cX6_two 3 (some .int) 16 0 0 G cy [zzO qm 5 (.ref qmh :: .ref qmo :: .ref qmz :: .ref qmR :: .ref qmv :: .ref qmk :: .ref qma :: .ref qmt :: .int (nI kZ) :: .ref qmr :: .int (nI (T_nb tA)) :: .ref qmB :: .int (nI (T_np tA)) :: .ref qmO :: .ref qmK :: .int iEn :: .int iTk :: .int (T_sd tA) :: ov uP :: ov uU :: .int (nI kAt) :: .int iTo :: .int iFr :: .long JFi :: .int iFa :: .ref qm3 :: .int iSt :: .int iLv :: .int iWs :: vLa :: .ref qmu :: .ref qmy :: .ref qmb :: .ref qms :: .int iOm :: []), zzG cy 3 qmB rB, zzI cy (rB 0) 4 (bkR tA 0), zzI cy (rB 1) 4 (bkR tA 1), zzI cy (rB 2) 4 (bkR tA 2), zzI cy (rB 3) 4 (bkR tA 3), zzI cy (rB 4) 4 (bkR tA 4), zzI cy (rB 5) 4 (bkR tA 5), zzI cy (rB 6) 4 (bkR tA 6), zzI cy (rB 7) 4 (bkR tA 7), zzG cy 3 qmO rO, zzI cy (rO 0) 5 (onR tA 0), zzI cy (rO 1) 5 (onR tA 1), zzI cy (rO 2) 5 (onR tA 2), zzI cy (rO 3) 5 (onR tA 3), zzI cy (rO 4) 5 (onR tA 4), zzI cy (rO 5) 5 (onR tA 5), zzI cy (rO 6) 5 (onR tA 6), zzI cy (rO 7) 5 (onR tA 7), zzG cy 3 qmK rK, zzI cy (rK 0) 8 (T_kn tA 0), zzI cy (rK 1) 8 (T_kn tA 1), zzI cy (rK 2) 8 (T_kn tA 2), zzI cy (rK 3) 8 (T_kn tA 3), zzI cy (rK 4) 8 (T_kn tA 4), zzI cy (rK 5) 8 (T_kn tA 5), zzI cy (rK 6) 8 (T_kn tA 6), zzI cy (rK 7) 8 (T_kn tA 7), zzI cy qmr 8 fMr] sz [.ref qm, .int iA, .int iB] (Wi G (fun r u => ∃ (fNr : Nat → Int32), u = [zzO qm 5 (.ref qmh :: .ref qmo :: .ref qmz :: .ref qmR :: .ref qmv :: .ref qmk :: .ref qma :: .ref qmt :: .int (nI kZ) :: .ref qmr :: .int (nI (T_nb tA)) :: .ref qmB :: .int (nI (T_np tA)) :: .ref qmO :: .ref qmK :: .int iEn :: .int iTk :: .int (T_sd tA) :: ov uP :: ov uU :: .int (nI kAt) :: .int iTo :: .int iFr :: .long JFi :: .int iFa :: .ref qm3 :: .int iSt :: .int iLv :: .int iWs :: vLa :: .ref qmu :: .ref qmy :: .ref qmb :: .ref qms :: .int iOm :: []), zzG cy 3 qmB rB, zzI cy (rB 0) 4 (bkR tA 0), zzI cy (rB 1) 4 (bkR tA 1), zzI cy (rB 2) 4 (bkR tA 2), zzI cy (rB 3) 4 (bkR tA 3), zzI cy (rB 4) 4 (bkR tA 4), zzI cy (rB 5) 4 (bkR tA 5), zzI cy (rB 6) 4 (bkR tA 6), zzI cy (rB 7) 4 (bkR tA 7), zzG cy 3 qmO rO, zzI cy (rO 0) 5 (onR tA 0), zzI cy (rO 1) 5 (onR tA 1), zzI cy (rO 2) 5 (onR tA 2), zzI cy (rO 3) 5 (onR tA 3), zzI cy (rO 4) 5 (onR tA 4), zzI cy (rO 5) 5 (onR tA 5), zzI cy (rO 6) 5 (onR tA 6), zzI cy (rO 7) 5 (onR tA 7), zzG cy 3 qmK rK, zzI cy (rK 0) 8 (T_kn tA 0), zzI cy (rK 1) 8 (T_kn tA 1), zzI cy (rK 2) 8 (T_kn tA 2), zzI cy (rK 3) 8 (T_kn tA 3), zzI cy (rK 4) 8 (T_kn tA 4), zzI cy (rK 5) 8 (T_kn tA 5), zzI cy (rK 6) 8 (T_kn tA 6), zzI cy (rK 7) 8 (T_kn tA 7), zzI cy qmr 8 fNr] ∧ (True))) := by
  refine enW RX6 (by decide +kernel) rfl (Nat.le_of_ble_eq_true rfl) (fun p e s m below meth c ls A hx hb hml hown hts hr hlocks hP hN hl hin hD hA hS => ?_)
  have hin : meth.name = _ := hin
  have hK := hN.1
  replace hl : lv_has ls 3 [(0, .ref qm), (1, .int iA), (2, .int iB)] := hl
  refine lv_aload_n hx hb (g_42 bX6_two rfl) rfl (lv_at hl 0 rfl) ?_
  refine lv_iload_n hx hb (g_27 bX6_two rfl) rfl (lv_at hl 1 rfl) ?_
  refine lv_i2l (v := iA.toInt64) hx hb (g_133 bX6_two rfl) rfl ?_
  refine kRi (rV (As := [.long iA.toInt64]) (rest := []) (b := qm) ⟨hx, hb, hml, hown, hts⟩ (c_X6_isOne l G cy qm (.ref qmh) (.ref qmo) (.ref qmz) (.ref qmR) (.ref qmv) (.ref qmk) (.ref qma) (.ref qmt) (.int (nI kZ)) (.ref qmr) tA qmB qmO qmK iEn iTk (ov uP) (ov uU) (.int (nI kAt)) (.int iTo) (.int iFr) (.long JFi) (.int iFa) (.ref qm3) (.int iSt) iLv iWs vLa (.ref qmu) (.ref qmy) (.ref qmb) (.ref qms) (.int iOm) iA hPp) L_X6_236 (preRV (q := (RX6, TX6, 35)) hN hP [0] rfl 0 5 rfl rfl) rfl ⟨Nat.le_of_ble_eq_true rfl, Nat.le_of_ble_eq_true rfl⟩ hl.1 (Nat.le_of_ble_eq_true rfl) (g_182 (v := 236) bX6_two rfl) ⟨Nat.le_of_ble_eq_true rfl, Nat.le_of_ble_eq_true rfl⟩) (fun r_1 h_2 => ?_)
  rcases h_2 with ⟨rfl, h_3⟩ | ⟨rfl, h_3⟩
  · obtain ⟨k_4, hk_5, rfl⟩ := h_3
    refine lv_if_eq (tgt := 32) hx hb dX6_two_6 (by decide +kernel) (fun h9 => absurd h9 (by decide +kernel)) (fun _ => ?_)
    refine lv_aload_n hx hb (g_42 bX6_two rfl) rfl (lv_at hl 0 rfl) ?_
    refine lv_iload_n hx hb (g_28 bX6_two rfl) rfl (lv_at hl 2 rfl) ?_
    refine lv_i2l (v := iB.toInt64) hx hb (g_133 bX6_two rfl) rfl ?_
    refine kRi (rV (As := [.long iB.toInt64]) (rest := []) (b := qm) ⟨hx, hb, hml, hown, hts⟩ (c_X6_isOne l G cy qm (.ref qmh) (.ref qmo) (.ref qmz) (.ref qmR) (.ref qmv) (.ref qmk) (.ref qma) (.ref qmt) (.int (nI kZ)) (.ref qmr) tA qmB qmO qmK iEn iTk (ov uP) (ov uU) (.int (nI kAt)) (.int iTo) (.int iFr) (.long JFi) (.int iFa) (.ref qm3) (.int iSt) iLv iWs vLa (.ref qmu) (.ref qmy) (.ref qmb) (.ref qms) (.int iOm) iB hPp) L_X6_236 (preRV (q := (RX6, TX6, 35)) hN hP [0] rfl 0 5 rfl rfl) rfl ⟨Nat.le_of_ble_eq_true rfl, Nat.le_of_ble_eq_true rfl⟩ hl.1 (Nat.le_of_ble_eq_true rfl) (g_182 (v := 236) bX6_two rfl) ⟨Nat.le_of_ble_eq_true rfl, Nat.le_of_ble_eq_true rfl⟩) (fun r_7 h_8 => ?_)
    rcases h_8 with ⟨rfl, h_9⟩ | ⟨rfl, h_9⟩
    · obtain ⟨k_10, hk_11, rfl⟩ := h_9
      refine lv_if_eq (tgt := 32) hx hb dX6_two_15 (by decide +kernel) (fun h9 => absurd h9 (by decide +kernel)) (fun _ => ?_)
      refine lv_aload_n hx hb (g_42 bX6_two rfl) rfl (lv_at hl 0 rfl) ?_
      refine lv_iconst (v := 1) hx hb (g_4 bX6_two rfl) (by decide +kernel) ?_
      refine lv_iload_n hx hb (g_27 bX6_two rfl) rfl (lv_at hl 1 rfl) ?_
      refine lv_ishl hx hb (g_120 bX6_two rfl) ?_
      refine lv_iconst (v := 1) hx hb (g_4 bX6_two rfl) (by decide +kernel) ?_
      refine lv_iload_n hx hb (g_28 bX6_two rfl) rfl (lv_at hl 2 rfl) ?_
      refine lv_ishl hx hb (g_120 bX6_two rfl) ?_
      refine lv_ior hx hb (g_128 bX6_two rfl) ?_
      refine kRi (rV (As := [.int ((1 <<< ((nI k_4) &&& 31)) ||| (1 <<< ((nI k_10) &&& 31)))]) (rest := []) (b := qm) ⟨hx, hb, hml, hown, hts⟩ (c_X6_valueOf l G cy qm (.ref qmh) (.ref qmo) (.ref qmz) (.ref qmR) (.ref qmv) (.ref qmk) (.ref qma) (.ref qmt) (.int (nI kZ)) (.ref qmr) tA qmB qmO qmK iEn iTk (ov uP) (ov uU) (.int (nI kAt)) (.int iTo) (.int iFr) (.long JFi) (.int iFa) (.ref qm3) (.int iSt) iLv iWs vLa (.ref qmu) (.ref qmy) (.ref qmb) (.ref qms) (.int iOm) rB rO rK ((1 <<< ((nI k_4) &&& 31)) ||| (1 <<< ((nI k_10) &&& 31))) hB hPp) L_X6_266 (preRV (q := (RX6, TX6, 35)) hN hP (trueIx 0 [true, true, true, true, true, true, true, true, true, true, true, true, true, true, true, true, true, true, true, true, true, true, true, true, true, true, true, true]) (sel_fm rfl rfl) 0 5 rfl rfl) rfl ⟨Nat.le_of_ble_eq_true rfl, Nat.le_of_ble_eq_true rfl⟩ hl.1 (Nat.le_of_ble_eq_true rfl) (g_182 (v := 266) bX6_two rfl) ⟨Nat.le_of_ble_eq_true rfl, Nat.le_of_ble_eq_true rfl⟩) (fun r_13 h_14 => ?_)
      subst h_14
      refine lv_goto (tgt := 38) hx hb dX6_two_29 (by decide +kernel) ?_
      exact endWs [[true, true, true, true, true, true, true, true, true, true, true, true, true, true, true, true, true, true, true, true, true, true, true, true, true, true, true, true, true]] hx hb hr hlocks rfl hP hD rfl (by decide +kernel) hS ⟨fMr, rfl, trivial⟩ (g_172 bX6_two rfl)
    · refine lv_if_eq (tgt := 32) hx hb dX6_two_15 (by decide +kernel) (fun _ => ?_) (fun h9 => absurd (by decide +kernel) h9)
      refine lv_aload_n hx hb (g_42 bX6_two rfl) rfl (lv_at hl 0 rfl) ?_
      refine lv_bipush (v := (-2)) hx hb dX6_two_33 (by decide +kernel) ?_
      refine cVi (As := [.int (-2)]) (rest := []) (b := qm) (q := (RX6, TX6, 35)) ⟨hx, hb, hml, hown, hts⟩ (c_X6_refuse2 l G cy (s.heap).size qm (.ref qmh) (.ref qmo) (.ref qmz) (.ref qmR) (.ref qmv) (.ref qmk) (.ref qma) (.ref qmt) (.int (nI kZ)) qmr tA qmB qmO qmK iEn iTk (ov uP) (ov uU) (.int (nI kAt)) (.int iTo) (.int iFr) (.long JFi) (.int iFa) (.ref qm3) (.int iSt) iLv iWs vLa (.ref qmu) (.ref qmy) (.ref qmb) (.ref qms) (.int iOm) fMr) L_X6_91 hN hP hD hS hA [0, 28] [false, true, true, true, true, true, true, true, true, true, true, true, true, true, true, true, true, true, true, true, true, true, true, true, true, true, true, true, false] rfl (by decide +kernel) rfl 0 5 rfl rfl rfl ⟨Nat.le_of_ble_eq_true rfl, Nat.le_of_ble_eq_true rfl⟩ hl.1 (Nat.le_of_ble_eq_true rfl) (g_182 (v := 91) bX6_two rfl) ⟨Nat.le_of_ble_eq_true rfl, Nat.le_of_ble_eq_true rfl⟩ (fun r_16 u_18 H locs h_17 => ?_)
      clear hP hD hS
      intro hP hD hS
      obtain ⟨fX_19, hu9, h_17⟩ := h_17
      have hPD := pd_eq [_, _, _, _, _, _, _, _, _, _, _, _, _, _, _, _, _, _, _, _, _, _, _, _, _, _, _, _, zzI cy qmr 8 fX_19] hP hD hu9 rfl
      clear hP hD hu9
      obtain ⟨hP, hD⟩ := hPD
      subst h_17
      exact endWs [[false, false, false, false, false, false, false, false, false, false, false, false, false, false, false, false, false, false, false, false, false, false, false, false, false, false, false, true], [true, true, true, true, true, true, true, true, true, true, true, true, true, true, true, true, true, true, true, true, true, true, true, true, true, true, true, false, true]] hx hb hr hlocks rfl hP hD rfl (by decide +kernel) hS ⟨fX_19, rfl, trivial⟩ (g_172 bX6_two rfl)
  · refine lv_if_eq (tgt := 32) hx hb dX6_two_6 (by decide +kernel) (fun _ => ?_) (fun h9 => absurd (by decide +kernel) h9)
    refine lv_aload_n hx hb (g_42 bX6_two rfl) rfl (lv_at hl 0 rfl) ?_
    refine lv_bipush (v := (-2)) hx hb dX6_two_33 (by decide +kernel) ?_
    refine cVi (As := [.int (-2)]) (rest := []) (b := qm) (q := (RX6, TX6, 35)) ⟨hx, hb, hml, hown, hts⟩ (c_X6_refuse2 l G cy (s.heap).size qm (.ref qmh) (.ref qmo) (.ref qmz) (.ref qmR) (.ref qmv) (.ref qmk) (.ref qma) (.ref qmt) (.int (nI kZ)) qmr tA qmB qmO qmK iEn iTk (ov uP) (ov uU) (.int (nI kAt)) (.int iTo) (.int iFr) (.long JFi) (.int iFa) (.ref qm3) (.int iSt) iLv iWs vLa (.ref qmu) (.ref qmy) (.ref qmb) (.ref qms) (.int iOm) fMr) L_X6_91 hN hP hD hS hA [0, 28] [false, true, true, true, true, true, true, true, true, true, true, true, true, true, true, true, true, true, true, true, true, true, true, true, true, true, true, true, false] rfl (by decide +kernel) rfl 0 5 rfl rfl rfl ⟨Nat.le_of_ble_eq_true rfl, Nat.le_of_ble_eq_true rfl⟩ hl.1 (Nat.le_of_ble_eq_true rfl) (g_182 (v := 91) bX6_two rfl) ⟨Nat.le_of_ble_eq_true rfl, Nat.le_of_ble_eq_true rfl⟩ (fun r_21 u_23 H locs h_22 => ?_)
    clear hP hD hS
    intro hP hD hS
    obtain ⟨fX_24, hu9, h_22⟩ := h_22
    have hPD := pd_eq [_, _, _, _, _, _, _, _, _, _, _, _, _, _, _, _, _, _, _, _, _, _, _, _, _, _, _, _, zzI cy qmr 8 fX_24] hP hD hu9 rfl
    clear hP hD hu9
    obtain ⟨hP, hD⟩ := hPD
    subst h_22
    exact endWs [[false, false, false, false, false, false, false, false, false, false, false, false, false, false, false, false, false, false, false, false, false, false, false, false, false, false, false, true], [true, true, true, true, true, true, true, true, true, true, true, true, true, true, true, true, true, true, true, true, true, true, true, true, true, true, true, false, true]] hx hb hr hlocks rfl hP hD rfl (by decide +kernel) hS ⟨fX_24, rfl, trivial⟩ (g_172 bX6_two rfl)
set_option maxHeartbeats 4000000 in
set_option maxRecDepth 100000 in
theorem p_X6_youngest (l : Launch) (G : va_G) (cy : Nat → ClassId) (sz : Nat) (qm : Nat) (qmh : Nat) (qmo : Nat) (qmz : Nat) (qmR : Nat) (qmv : Nat) (qmk : Nat) (qma : Nat) (qmt : Nat) (kZ : Nat) (qmr : Nat) (tA : TA) (qmB : Nat) (qmO : Nat) (qmK : Nat) (iEn : Int32) (iTk : Int32) (uP : UM) (uU : UM) (kAt : Nat) (iTo : Int32) (iFr : Int32) (JFi : Int64) (iFa : Int32) (qm3 : Nat) (iSt : Int32) (iLv : Int32) (iWs : Int32) (vLa : Value) (qmu : Nat) (qmy : Nat) (qmb : Nat) (qms : Nat) (iOm : Int32) (rB : Nat → Nat) (rO : Nat → Nat) (rK : Nat → Nat) (fMr : Nat → Int32) (iA : Int32)  (hB : T_nb tA ≤ 8) (hPp : T_np tA ≤ 8) (hTI : TI tA) : MW l yX6_youngest cX6_youngest 2 (some .int) 16 0 0 G cy [zzO qm 5 (.ref qmh :: .ref qmo :: .ref qmz :: .ref qmR :: .ref qmv :: .ref qmk :: .ref qma :: .ref qmt :: .int (nI kZ) :: .ref qmr :: .int (nI (T_nb tA)) :: .ref qmB :: .int (nI (T_np tA)) :: .ref qmO :: .ref qmK :: .int iEn :: .int iTk :: .int (T_sd tA) :: ov uP :: ov uU :: .int (nI kAt) :: .int iTo :: .int iFr :: .long JFi :: .int iFa :: .ref qm3 :: .int iSt :: .int iLv :: .int iWs :: vLa :: .ref qmu :: .ref qmy :: .ref qmb :: .ref qms :: .int iOm :: []), zzG cy 3 qmB rB, zzI cy (rB 0) 4 (bkR tA 0), zzI cy (rB 1) 4 (bkR tA 1), zzI cy (rB 2) 4 (bkR tA 2), zzI cy (rB 3) 4 (bkR tA 3), zzI cy (rB 4) 4 (bkR tA 4), zzI cy (rB 5) 4 (bkR tA 5), zzI cy (rB 6) 4 (bkR tA 6), zzI cy (rB 7) 4 (bkR tA 7), zzG cy 3 qmO rO, zzI cy (rO 0) 5 (onR tA 0), zzI cy (rO 1) 5 (onR tA 1), zzI cy (rO 2) 5 (onR tA 2), zzI cy (rO 3) 5 (onR tA 3), zzI cy (rO 4) 5 (onR tA 4), zzI cy (rO 5) 5 (onR tA 5), zzI cy (rO 6) 5 (onR tA 6), zzI cy (rO 7) 5 (onR tA 7), zzG cy 3 qmK rK, zzI cy (rK 0) 8 (T_kn tA 0), zzI cy (rK 1) 8 (T_kn tA 1), zzI cy (rK 2) 8 (T_kn tA 2), zzI cy (rK 3) 8 (T_kn tA 3), zzI cy (rK 4) 8 (T_kn tA 4), zzI cy (rK 5) 8 (T_kn tA 5), zzI cy (rK 6) 8 (T_kn tA 6), zzI cy (rK 7) 8 (T_kn tA 7), zzI cy qmr 8 fMr] sz [.ref qm, .int iA] (Wi G (fun r u => ∃ (fNr : Nat → Int32), u = [zzO qm 5 (.ref qmh :: .ref qmo :: .ref qmz :: .ref qmR :: .ref qmv :: .ref qmk :: .ref qma :: .ref qmt :: .int (nI kZ) :: .ref qmr :: .int (nI (T_nb tA)) :: .ref qmB :: .int (nI (T_np tA)) :: .ref qmO :: .ref qmK :: .int iEn :: .int iTk :: .int (T_sd tA) :: ov uP :: ov uU :: .int (nI kAt) :: .int iTo :: .int iFr :: .long JFi :: .int iFa :: .ref qm3 :: .int iSt :: .int iLv :: .int iWs :: vLa :: .ref qmu :: .ref qmy :: .ref qmb :: .ref qms :: .int iOm :: []), zzG cy 3 qmB rB, zzI cy (rB 0) 4 (bkR tA 0), zzI cy (rB 1) 4 (bkR tA 1), zzI cy (rB 2) 4 (bkR tA 2), zzI cy (rB 3) 4 (bkR tA 3), zzI cy (rB 4) 4 (bkR tA 4), zzI cy (rB 5) 4 (bkR tA 5), zzI cy (rB 6) 4 (bkR tA 6), zzI cy (rB 7) 4 (bkR tA 7), zzG cy 3 qmO rO, zzI cy (rO 0) 5 (onR tA 0), zzI cy (rO 1) 5 (onR tA 1), zzI cy (rO 2) 5 (onR tA 2), zzI cy (rO 3) 5 (onR tA 3), zzI cy (rO 4) 5 (onR tA 4), zzI cy (rO 5) 5 (onR tA 5), zzI cy (rO 6) 5 (onR tA 6), zzI cy (rO 7) 5 (onR tA 7), zzG cy 3 qmK rK, zzI cy (rK 0) 8 (T_kn tA 0), zzI cy (rK 1) 8 (T_kn tA 1), zzI cy (rK 2) 8 (T_kn tA 2), zzI cy (rK 3) 8 (T_kn tA 3), zzI cy (rK 4) 8 (T_kn tA 4), zzI cy (rK 5) 8 (T_kn tA 5), zzI cy (rK 6) 8 (T_kn tA 6), zzI cy (rK 7) 8 (T_kn tA 7), zzI cy qmr 8 fNr] ∧ (True))) := by
  refine enW RX6 (by decide +kernel) rfl (Nat.le_of_ble_eq_true rfl) (fun p e s m below meth c ls A hx hb hml hown hts hr hlocks hP hN hl hin hD hA hS => ?_)
  have hin : meth.name = _ := hin
  have hK := hN.1
  replace hl : lv_has ls 2 [(0, .ref qm), (1, .int iA)] := hl
  refine lv_aload_n hx hb (g_42 bX6_youngest rfl) rfl (lv_at hl 0 rfl) ?_
  refine lv_iload_n hx hb (g_27 bX6_youngest rfl) rfl (lv_at hl 1 rfl) ?_
  refine lv_i2l (v := iA.toInt64) hx hb (g_133 bX6_youngest rfl) rfl ?_
  refine kRi (rV (As := [.long iA.toInt64]) (rest := []) (b := qm) ⟨hx, hb, hml, hown, hts⟩ (c_X6_isOne l G cy qm (.ref qmh) (.ref qmo) (.ref qmz) (.ref qmR) (.ref qmv) (.ref qmk) (.ref qma) (.ref qmt) (.int (nI kZ)) (.ref qmr) tA qmB qmO qmK iEn iTk (ov uP) (ov uU) (.int (nI kAt)) (.int iTo) (.int iFr) (.long JFi) (.int iFa) (.ref qm3) (.int iSt) iLv iWs vLa (.ref qmu) (.ref qmy) (.ref qmb) (.ref qms) (.int iOm) iA hPp) L_X6_236 (preRV (q := (RX6, TX6, 35)) hN hP [0] rfl 0 5 rfl rfl) rfl ⟨Nat.le_of_ble_eq_true rfl, Nat.le_of_ble_eq_true rfl⟩ hl.1 (Nat.le_of_ble_eq_true rfl) (g_182 (v := 236) bX6_youngest rfl) ⟨Nat.le_of_ble_eq_true rfl, Nat.le_of_ble_eq_true rfl⟩) (fun r_1 h_2 => ?_)
  rcases h_2 with ⟨rfl, h_3⟩ | ⟨rfl, h_3⟩
  · obtain ⟨k_4, hk_5, rfl⟩ := h_3
    refine lv_if_eq (tgt := 17) hx hb dX6_youngest_6 (by decide +kernel) (fun h9 => absurd h9 (by decide +kernel)) (fun _ => ?_)
    refine lv_aload_n hx hb (g_42 bX6_youngest rfl) rfl (lv_at hl 0 rfl) ?_
    refine lv_iload_n hx hb (g_27 bX6_youngest rfl) rfl (lv_at hl 1 rfl) ?_
    refine kRi (rV (As := [.int (nI k_4)]) (rest := []) (b := qm) ⟨hx, hb, hml, hown, hts⟩ (c_X6_youngestBut l G cy qm (.ref qmh) (.ref qmo) (.ref qmz) (.ref qmR) (.ref qmv) (.ref qmk) (.ref qma) (.ref qmt) (.int (nI kZ)) (.ref qmr) tA qmB qmO qmK iEn iTk (ov uP) (ov uU) (.int (nI kAt)) (.int iTo) (.int iFr) (.long JFi) (.int iFa) (.ref qm3) (.int iSt) iLv iWs vLa (.ref qmu) (.ref qmy) (.ref qmb) (.ref qms) (.int iOm) rO (nI k_4) hPp) L_X6_269 (preRV (q := (RX6, TX6, 35)) hN hP (trueIx 0 [true, false, false, false, false, false, false, false, false, false, true, true, true, true, true, true, true, true, true]) (sel_fm rfl rfl) 0 5 rfl rfl) rfl ⟨Nat.le_of_ble_eq_true rfl, Nat.le_of_ble_eq_true rfl⟩ hl.1 (Nat.le_of_ble_eq_true rfl) (g_182 (v := 269) bX6_youngest rfl) ⟨Nat.le_of_ble_eq_true rfl, Nat.le_of_ble_eq_true rfl⟩) (fun r_7 h_8 => ?_)
    subst h_8
    refine lv_goto (tgt := 23) hx hb dX6_youngest_14 (by decide +kernel) ?_
    exact endWs [[true, true, true, true, true, true, true, true, true, true, true, true, true, true, true, true, true, true, true, true, true, true, true, true, true, true, true, true, true]] hx hb hr hlocks rfl hP hD rfl (by decide +kernel) hS ⟨fMr, rfl, trivial⟩ (g_172 bX6_youngest rfl)
  · refine lv_if_eq (tgt := 17) hx hb dX6_youngest_6 (by decide +kernel) (fun _ => ?_) (fun h9 => absurd (by decide +kernel) h9)
    refine lv_aload_n hx hb (g_42 bX6_youngest rfl) rfl (lv_at hl 0 rfl) ?_
    refine lv_bipush (v := (-2)) hx hb dX6_youngest_18 (by decide +kernel) ?_
    refine cVi (As := [.int (-2)]) (rest := []) (b := qm) (q := (RX6, TX6, 35)) ⟨hx, hb, hml, hown, hts⟩ (c_X6_refuse2 l G cy (s.heap).size qm (.ref qmh) (.ref qmo) (.ref qmz) (.ref qmR) (.ref qmv) (.ref qmk) (.ref qma) (.ref qmt) (.int (nI kZ)) qmr tA qmB qmO qmK iEn iTk (ov uP) (ov uU) (.int (nI kAt)) (.int iTo) (.int iFr) (.long JFi) (.int iFa) (.ref qm3) (.int iSt) iLv iWs vLa (.ref qmu) (.ref qmy) (.ref qmb) (.ref qms) (.int iOm) fMr) L_X6_91 hN hP hD hS hA [0, 28] [false, true, true, true, true, true, true, true, true, true, true, true, true, true, true, true, true, true, true, true, true, true, true, true, true, true, true, true, false] rfl (by decide +kernel) rfl 0 5 rfl rfl rfl ⟨Nat.le_of_ble_eq_true rfl, Nat.le_of_ble_eq_true rfl⟩ hl.1 (Nat.le_of_ble_eq_true rfl) (g_182 (v := 91) bX6_youngest rfl) ⟨Nat.le_of_ble_eq_true rfl, Nat.le_of_ble_eq_true rfl⟩ (fun r_10 u_12 H locs h_11 => ?_)
    clear hP hD hS
    intro hP hD hS
    obtain ⟨fX_13, hu9, h_11⟩ := h_11
    have hPD := pd_eq [_, _, _, _, _, _, _, _, _, _, _, _, _, _, _, _, _, _, _, _, _, _, _, _, _, _, _, _, zzI cy qmr 8 fX_13] hP hD hu9 rfl
    clear hP hD hu9
    obtain ⟨hP, hD⟩ := hPD
    subst h_11
    exact endWs [[false, false, false, false, false, false, false, false, false, false, false, false, false, false, false, false, false, false, false, false, false, false, false, false, false, false, false, true], [true, true, true, true, true, true, true, true, true, true, true, true, true, true, true, true, true, true, true, true, true, true, true, true, true, true, true, false, true]] hx hb hr hlocks rfl hP hD rfl (by decide +kernel) hS ⟨fX_13, rfl, trivial⟩ (g_172 bX6_youngest rfl)
set_option maxHeartbeats 4000000 in
set_option maxRecDepth 100000 in
theorem p_X6_reader (l : Launch) (G : va_G) (cy : Nat → ClassId) (sz : Nat) (qm : Nat) (qmh : Nat) (qmo : Nat) (qmz : Nat) (qmR : Nat) (qmv : Nat) (qmk : Nat) (qma : Nat) (qmt : Nat) (kZ : Nat) (qmr : Nat) (tA : TA) (qmB : Nat) (qmO : Nat) (qmK : Nat) (iEn : Int32) (iTk : Int32) (uP : UM) (uU : UM) (kAt : Nat) (iTo : Int32) (iFr : Int32) (JFi : Int64) (iFa : Int32) (qm3 : Nat) (iSt : Int32) (iLv : Int32) (iWs : Int32) (vLa : Value) (qmu : Nat) (qmy : Nat) (qmb : Nat) (qms : Nat) (iOm : Int32) (rB : Nat → Nat) (rO : Nat → Nat) (rK : Nat → Nat) (fMr : Nat → Int32) (iA : Int32)  (hB : T_nb tA ≤ 8) (hPp : T_np tA ≤ 8) (hTI : TI tA) : MW l yX6_reader cX6_reader 2 (some .int) 16 0 0 G cy [zzO qm 5 (.ref qmh :: .ref qmo :: .ref qmz :: .ref qmR :: .ref qmv :: .ref qmk :: .ref qma :: .ref qmt :: .int (nI kZ) :: .ref qmr :: .int (nI (T_nb tA)) :: .ref qmB :: .int (nI (T_np tA)) :: .ref qmO :: .ref qmK :: .int iEn :: .int iTk :: .int (T_sd tA) :: ov uP :: ov uU :: .int (nI kAt) :: .int iTo :: .int iFr :: .long JFi :: .int iFa :: .ref qm3 :: .int iSt :: .int iLv :: .int iWs :: vLa :: .ref qmu :: .ref qmy :: .ref qmb :: .ref qms :: .int iOm :: []), zzG cy 3 qmB rB, zzI cy (rB 0) 4 (bkR tA 0), zzI cy (rB 1) 4 (bkR tA 1), zzI cy (rB 2) 4 (bkR tA 2), zzI cy (rB 3) 4 (bkR tA 3), zzI cy (rB 4) 4 (bkR tA 4), zzI cy (rB 5) 4 (bkR tA 5), zzI cy (rB 6) 4 (bkR tA 6), zzI cy (rB 7) 4 (bkR tA 7), zzG cy 3 qmO rO, zzI cy (rO 0) 5 (onR tA 0), zzI cy (rO 1) 5 (onR tA 1), zzI cy (rO 2) 5 (onR tA 2), zzI cy (rO 3) 5 (onR tA 3), zzI cy (rO 4) 5 (onR tA 4), zzI cy (rO 5) 5 (onR tA 5), zzI cy (rO 6) 5 (onR tA 6), zzI cy (rO 7) 5 (onR tA 7), zzG cy 3 qmK rK, zzI cy (rK 0) 8 (T_kn tA 0), zzI cy (rK 1) 8 (T_kn tA 1), zzI cy (rK 2) 8 (T_kn tA 2), zzI cy (rK 3) 8 (T_kn tA 3), zzI cy (rK 4) 8 (T_kn tA 4), zzI cy (rK 5) 8 (T_kn tA 5), zzI cy (rK 6) 8 (T_kn tA 6), zzI cy (rK 7) 8 (T_kn tA 7), zzI cy qmr 8 fMr] sz [.ref qm, .int iA] (Wi G (fun r u => ∃ (fNr : Nat → Int32), u = [zzO qm 5 (.ref qmh :: .ref qmo :: .ref qmz :: .ref qmR :: .ref qmv :: .ref qmk :: .ref qma :: .ref qmt :: .int (nI kZ) :: .ref qmr :: .int (nI (T_nb tA)) :: .ref qmB :: .int (nI (T_np tA)) :: .ref qmO :: .ref qmK :: .int iEn :: .int iTk :: .int (T_sd tA) :: ov uP :: ov uU :: .int (nI kAt) :: .int iTo :: .int iFr :: .long JFi :: .int iFa :: .ref qm3 :: .int iSt :: .int iLv :: .int iWs :: vLa :: .ref qmu :: .ref qmy :: .ref qmb :: .ref qms :: .int iOm :: []), zzG cy 3 qmB rB, zzI cy (rB 0) 4 (bkR tA 0), zzI cy (rB 1) 4 (bkR tA 1), zzI cy (rB 2) 4 (bkR tA 2), zzI cy (rB 3) 4 (bkR tA 3), zzI cy (rB 4) 4 (bkR tA 4), zzI cy (rB 5) 4 (bkR tA 5), zzI cy (rB 6) 4 (bkR tA 6), zzI cy (rB 7) 4 (bkR tA 7), zzG cy 3 qmO rO, zzI cy (rO 0) 5 (onR tA 0), zzI cy (rO 1) 5 (onR tA 1), zzI cy (rO 2) 5 (onR tA 2), zzI cy (rO 3) 5 (onR tA 3), zzI cy (rO 4) 5 (onR tA 4), zzI cy (rO 5) 5 (onR tA 5), zzI cy (rO 6) 5 (onR tA 6), zzI cy (rO 7) 5 (onR tA 7), zzG cy 3 qmK rK, zzI cy (rK 0) 8 (T_kn tA 0), zzI cy (rK 1) 8 (T_kn tA 1), zzI cy (rK 2) 8 (T_kn tA 2), zzI cy (rK 3) 8 (T_kn tA 3), zzI cy (rK 4) 8 (T_kn tA 4), zzI cy (rK 5) 8 (T_kn tA 5), zzI cy (rK 6) 8 (T_kn tA 6), zzI cy (rK 7) 8 (T_kn tA 7), zzI cy qmr 8 fNr] ∧ (True))) := by
  refine enW RX6 (by decide +kernel) rfl (Nat.le_of_ble_eq_true rfl) (fun p e s m below meth c ls A hx hb hml hown hts hr hlocks hP hN hl hin hD hA hS => ?_)
  have hin : meth.name = _ := hin
  have hK := hN.1
  replace hl : lv_has ls 2 [(0, .ref qm), (1, .int iA)] := hl
  refine lv_aload_n hx hb (g_42 bX6_reader rfl) rfl (lv_at hl 0 rfl) ?_
  refine lv_iload_n hx hb (g_27 bX6_reader rfl) rfl (lv_at hl 1 rfl) ?_
  refine lv_i2l (v := iA.toInt64) hx hb (g_133 bX6_reader rfl) rfl ?_
  refine kRi (rV (As := [.long iA.toInt64]) (rest := []) (b := qm) ⟨hx, hb, hml, hown, hts⟩ (c_X6_isBook l G cy qm (.ref qmh) (.ref qmo) (.ref qmz) (.ref qmR) (.ref qmv) (.ref qmk) (.ref qma) (.ref qmt) (.int (nI kZ)) (.ref qmr) tA qmB qmO qmK iEn iTk (ov uP) (ov uU) (.int (nI kAt)) (.int iTo) (.int iFr) (.long JFi) (.int iFa) (.ref qm3) (.int iSt) iLv iWs vLa (.ref qmu) (.ref qmy) (.ref qmb) (.ref qms) (.int iOm) iA hB) L_X6_229 (preRV (q := (RX6, TX6, 35)) hN hP [0] rfl 0 5 rfl rfl) rfl ⟨Nat.le_of_ble_eq_true rfl, Nat.le_of_ble_eq_true rfl⟩ hl.1 (Nat.le_of_ble_eq_true rfl) (g_182 (v := 229) bX6_reader rfl) ⟨Nat.le_of_ble_eq_true rfl, Nat.le_of_ble_eq_true rfl⟩) (fun r_1 h_2 => ?_)
  rcases h_2 with ⟨rfl, h_3⟩ | ⟨rfl, h_3⟩
  · obtain ⟨k_4, hk_5, rfl⟩ := h_3
    refine lv_if_ne (tgt := 16) hx hb dX6_reader_6 (by decide +kernel) (fun _ => ?_) (fun h9 => absurd h9 (by decide +kernel))
    refine lv_aload_n hx hb (g_42 bX6_reader rfl) rfl (lv_at hl 0 rfl) ?_
    refine lv_iload_n hx hb (g_27 bX6_reader rfl) rfl (lv_at hl 1 rfl) ?_
    refine kRi (rV (As := [.int (nI k_4)]) (rest := []) (b := qm) ⟨hx, hb, hml, hown, hts⟩ (c_X6_isWhite l G cy qm (.ref qmh) (.ref qmo) (.ref qmz) (.ref qmR) (.ref qmv) (.ref qmk) (.ref qma) (.ref qmt) (.int (nI kZ)) (.ref qmr) tA qmB qmO qmK iEn iTk (ov uP) (ov uU) (.int (nI kAt)) (.int iTo) (.int iFr) (.long JFi) (.int iFa) (.ref qm3) (.int iSt) iLv iWs vLa (.ref qmu) (.ref qmy) (.ref qmb) (.ref qms) (.int iOm) rB k_4 (by first | omega | (simp only [nb_sr, np_sr, nb_wr, np_wr, nb_rd, np_rd, nb_ch, np_ch, nb_zr, np_zr, nb_za, np_za, nb_ey, np_ey, nb_hf, np_hf, nb_dd, np_dd, nb_so, np_so, nb_skn, np_skn, nb_swh, np_swh, nb_sgn, np_sgn, nb_ssd, np_ssd, nb_sgo, np_sgo, nb_sag, np_sag]; omega))) L_X6_248 (preRV (q := (RX6, TX6, 35)) hN hP (trueIx 0 [true, true, true, true, true, true, true, true, true, true]) (sel_fm rfl rfl) 0 5 rfl rfl) rfl ⟨Nat.le_of_ble_eq_true rfl, Nat.le_of_ble_eq_true rfl⟩ hl.1 (Nat.le_of_ble_eq_true rfl) (g_182 (v := 248) bX6_reader rfl) ⟨Nat.le_of_ble_eq_true rfl, Nat.le_of_ble_eq_true rfl⟩) (fun r_7 h_8 => ?_)
    rcases h_8 with ⟨rfl, h_9⟩ | ⟨rfl, h_9⟩
    · refine lv_if_eq (tgt := 33) hx hb dX6_reader_21 (by decide +kernel) (fun h9 => absurd h9 (by decide +kernel)) (fun _ => ?_)
      refine lv_aload_n hx hb (g_42 bX6_reader rfl) rfl (lv_at hl 0 rfl) ?_
      refine lv_bipush (v := (-5)) hx hb dX6_reader_25 (by decide +kernel) ?_
      refine cVi (As := [.int (-5)]) (rest := []) (b := qm) (q := (RX6, TX6, 35)) ⟨hx, hb, hml, hown, hts⟩ (c_X6_refuse5 l G cy (s.heap).size qm (.ref qmh) (.ref qmo) (.ref qmz) (.ref qmR) (.ref qmv) (.ref qmk) (.ref qma) (.ref qmt) (.int (nI kZ)) qmr tA qmB qmO qmK iEn iTk (ov uP) (ov uU) (.int (nI kAt)) (.int iTo) (.int iFr) (.long JFi) (.int iFa) (.ref qm3) (.int iSt) iLv iWs vLa (.ref qmu) (.ref qmy) (.ref qmb) (.ref qms) (.int iOm) fMr) L_X6_91 hN hP hD hS hA [0, 28] [false, true, true, true, true, true, true, true, true, true, true, true, true, true, true, true, true, true, true, true, true, true, true, true, true, true, true, true, false] rfl (by decide +kernel) rfl 0 5 rfl rfl rfl ⟨Nat.le_of_ble_eq_true rfl, Nat.le_of_ble_eq_true rfl⟩ hl.1 (Nat.le_of_ble_eq_true rfl) (g_182 (v := 91) bX6_reader rfl) ⟨Nat.le_of_ble_eq_true rfl, Nat.le_of_ble_eq_true rfl⟩ (fun r_11 u_13 H locs h_12 => ?_)
      clear hP hD hS
      intro hP hD hS
      obtain ⟨fX_14, hu9, h_12⟩ := h_12
      have hPD := pd_eq [_, _, _, _, _, _, _, _, _, _, _, _, _, _, _, _, _, _, _, _, _, _, _, _, _, _, _, _, zzI cy qmr 8 fX_14] hP hD hu9 rfl
      clear hP hD hu9
      obtain ⟨hP, hD⟩ := hPD
      subst h_12
      refine lv_goto (tgt := 38) hx hb dX6_reader_30 (by decide +kernel) ?_
      exact endWs [[false, false, false, false, false, false, false, false, false, false, false, false, false, false, false, false, false, false, false, false, false, false, false, false, false, false, false, true], [true, true, true, true, true, true, true, true, true, true, true, true, true, true, true, true, true, true, true, true, true, true, true, true, true, true, true, false, true]] hx hb hr hlocks rfl hP hD rfl (by decide +kernel) hS ⟨fX_14, rfl, trivial⟩ (g_172 bX6_reader rfl)
    · refine lv_if_eq (tgt := 33) hx hb dX6_reader_21 (by decide +kernel) (fun _ => ?_) (fun h9 => absurd (by decide +kernel) h9)
      refine lv_aload_n hx hb (g_42 bX6_reader rfl) rfl (lv_at hl 0 rfl) ?_
      refine lv_iload_n hx hb (g_27 bX6_reader rfl) rfl (lv_at hl 1 rfl) ?_
      refine kRi (rV (As := [.int (nI k_4)]) (rest := []) (b := qm) ⟨hx, hb, hml, hown, hts⟩ (c_X6_readerOf l G cy qm (.ref qmh) (.ref qmo) (.ref qmz) (.ref qmR) (.ref qmv) (.ref qmk) (.ref qma) (.ref qmt) (.int (nI kZ)) (.ref qmr) tA qmB qmO qmK iEn iTk (ov uP) (ov uU) (.int (nI kAt)) (.int iTo) (.int iFr) (.long JFi) (.int iFa) (.ref qm3) (.int iSt) iLv iWs vLa (.ref qmu) (.ref qmy) (.ref qmb) (.ref qms) (.int iOm) rB rO rK k_4 hPp (by first | omega | (simp only [nb_sr, np_sr, nb_wr, np_wr, nb_rd, np_rd, nb_ch, np_ch, nb_zr, np_zr, nb_za, np_za, nb_ey, np_ey, nb_hf, np_hf, nb_dd, np_dd, nb_so, np_so, nb_skn, np_skn, nb_swh, np_swh, nb_sgn, np_sgn, nb_ssd, np_ssd, nb_sgo, np_sgo, nb_sag, np_sag]; omega)) hTI) L_X6_272 (preRV (q := (RX6, TX6, 35)) hN hP (trueIx 0 [true, true, true, true, true, true, true, true, true, true, true, true, true, true, true, true, true, true, true, true, true, true, true, true, true, true, true, true]) (sel_fm rfl rfl) 0 5 rfl rfl) rfl ⟨Nat.le_of_ble_eq_true rfl, Nat.le_of_ble_eq_true rfl⟩ hl.1 (Nat.le_of_ble_eq_true rfl) (g_182 (v := 272) bX6_reader rfl) ⟨Nat.le_of_ble_eq_true rfl, Nat.le_of_ble_eq_true rfl⟩) (fun r_16 h_17 => ?_)
      subst h_17
      exact endWs [[true, true, true, true, true, true, true, true, true, true, true, true, true, true, true, true, true, true, true, true, true, true, true, true, true, true, true, true, true]] hx hb hr hlocks rfl hP hD rfl (by decide +kernel) hS ⟨fMr, rfl, trivial⟩ (g_172 bX6_reader rfl)
  · refine lv_if_ne (tgt := 16) hx hb dX6_reader_6 (by decide +kernel) (fun h9 => absurd (by decide +kernel) h9) (fun _ => ?_)
    refine lv_aload_n hx hb (g_42 bX6_reader rfl) rfl (lv_at hl 0 rfl) ?_
    refine lv_bipush (v := (-2)) hx hb dX6_reader_10 (by decide +kernel) ?_
    refine cVi (As := [.int (-2)]) (rest := []) (b := qm) (q := (RX6, TX6, 35)) ⟨hx, hb, hml, hown, hts⟩ (c_X6_refuse2 l G cy (s.heap).size qm (.ref qmh) (.ref qmo) (.ref qmz) (.ref qmR) (.ref qmv) (.ref qmk) (.ref qma) (.ref qmt) (.int (nI kZ)) qmr tA qmB qmO qmK iEn iTk (ov uP) (ov uU) (.int (nI kAt)) (.int iTo) (.int iFr) (.long JFi) (.int iFa) (.ref qm3) (.int iSt) iLv iWs vLa (.ref qmu) (.ref qmy) (.ref qmb) (.ref qms) (.int iOm) fMr) L_X6_91 hN hP hD hS hA [0, 28] [false, true, true, true, true, true, true, true, true, true, true, true, true, true, true, true, true, true, true, true, true, true, true, true, true, true, true, true, false] rfl (by decide +kernel) rfl 0 5 rfl rfl rfl ⟨Nat.le_of_ble_eq_true rfl, Nat.le_of_ble_eq_true rfl⟩ hl.1 (Nat.le_of_ble_eq_true rfl) (g_182 (v := 91) bX6_reader rfl) ⟨Nat.le_of_ble_eq_true rfl, Nat.le_of_ble_eq_true rfl⟩ (fun r_19 u_21 H locs h_20 => ?_)
    clear hP hD hS
    intro hP hD hS
    obtain ⟨fX_22, hu9, h_20⟩ := h_20
    have hPD := pd_eq [_, _, _, _, _, _, _, _, _, _, _, _, _, _, _, _, _, _, _, _, _, _, _, _, _, _, _, _, zzI cy qmr 8 fX_22] hP hD hu9 rfl
    clear hP hD hu9
    obtain ⟨hP, hD⟩ := hPD
    subst h_20
    exact endWs [[false, false, false, false, false, false, false, false, false, false, false, false, false, false, false, false, false, false, false, false, false, false, false, false, false, false, false, true], [true, true, true, true, true, true, true, true, true, true, true, true, true, true, true, true, true, true, true, true, true, true, true, true, true, true, true, false, true]] hx hb hr hlocks rfl hP hD rfl (by decide +kernel) hS ⟨fX_22, rfl, trivial⟩ (g_172 bX6_reader rfl)
end
