/-! the reference's town-changers, told as the class's -/
theorem mk_ex : ∀ n, n < 9 → ((1 : Int32) <<< (nI n &&& 31) - 1) = nI (2 ^ n - 1) ∧ ((1 : Int32) <<< (nI n &&& 31) - 1).toBitVec.toNat = 2 ^ n - 1 := by decide +kernel
theorem mk_ok : ∀ n, n < 9 → ∀ k, k < 256 → k < 2 ^ n → nI k &&& (((1 : Int32) <<< (nI n &&& 31) - 1) ^^^ (-1)) = 0 := by decide +kernel
theorem b_m1 : ∀ i, i < 32 → bt (-1) i = true := by decide +kernel
theorem b_xor (x y : Int32) (i : Nat) : bt (x ^^^ y) i = (bt x i ^^ bt y i) := by unfold bt; rw [Int32.toBitVec_xor, BitVec.getLsbD_xor]
theorem p2_le {n : Nat} (h : n ≤ 8) : 2 ^ n ≤ 256 := pow_le8 h
theorem seto_iv {b : Int32} {n : Nat} (hn : n ≤ 8) : Iv b.toInt64 0 ((1 : Int32) <<< (nI n &&& 31) - 1).toInt64 ↔ SetO b n := by
  obtain ⟨e1, e2⟩ := mk_ex n (by omega)
  have h2 := p2_le hn
  have h3 : 0 < 2 ^ n := Nat.two_pow_pos n
  constructor
  · intro h
    rw [e1] at h
    obtain ⟨q1, q2⟩ := Iv_iff.mp h
    rw [Int64.le_iff_toInt_le, Int32.toInt_toInt64] at q1 q2
    rw [Int32.toInt_toInt64, nI_toInt (by omega)] at q2
    have e0 : (0 : Int64).toInt = 0 := by decide +kernel
    rw [e0] at q1
    have e : b = nI b.toInt.toNat := by
      apply Int32.toInt_inj.mp
      rw [nI_toInt (by omega)]
      omega
    rw [e]
    exact mk_ok n (by omega) _ (by omega) (by omega)
  · intro h
    have e : b &&& ((1 : Int32) <<< (nI n &&& 31) - 1) = b := by
      apply b_ext
      intro i hi
      have q := congrArg (fun z => bt z i) (show b &&& (((1 : Int32) <<< (nI n &&& 31) - 1) ^^^ (-1)) = 0 from h)
      simp only [b_and, b_xor, b_0, b_m1 i hi] at q
      rw [b_and]
      cases h1 : bt b i with
      | false => rfl
      | true =>
        rw [h1] at q
        cases h4 : bt ((1 : Int32) <<< (nI n &&& 31) - 1) i with
        | true => rfl
        | false => rw [h4] at q; cases q
    obtain ⟨j, hj, ej⟩ := pk_andE b n e2
    rw [e] at ej
    rw [e1, ej, Iv_iff, Int64.le_iff_toInt_le, Int64.le_iff_toInt_le, Int32.toInt_toInt64, Int32.toInt_toInt64, nI_toInt (by omega), nI_toInt (by omega)]
    have e0 : (0 : Int64).toInt = 0 := by decide +kernel
    rw [e0]
    exact ⟨by omega, by omega⟩
theorem zab_ref {t : TA} {a b : Int32} (hz : ZI t) (h8 : T_nb t < 8) : T_setnb (T_setne (zNB t a) (upd (T_ne (zNB t a)) (T_nb (zNB t a)) b)) (T_nb (T_setne (zNB t a) (upd (T_ne (zNB t a)) (T_nb (zNB t a)) b)) + 1) = zab t a b := by
  rw [NB_id hz h8]
  show T_mk (T_nb t + 1) (T_np t) (T_sd t) (T_wh t) (T_gn t) (upd (T_wo t) (T_nb t) a) (upd (upd (T_ne t) (T_nb t) 0) (T_nb t) b) (upd (T_go t) (T_nb t) 1000) (T_ag t) (T_re t) (T_me t) (T_te t) (T_kn t) = zab t a b
  rw [upd_upd]
  rfl
theorem zao_ref {t : TA} {a b c d : Int64} (hz : ZI t) (h8 : T_np t < 8) : zADD t a b c d = zao t a.toInt32 b.toInt32 c.toInt32 d.toInt32 := by
  unfold zADD
  rw [NO_id hz h8]
  show T_mk (T_nb t) (T_np t + 1) (T_sd t) (T_wh t) (T_gn t) (T_wo t) (T_ne t) (T_go t) (upd (T_ag t) (T_np t) a.toInt32) (upd (upd (T_re t) (T_np t) 5) (T_np t) b.toInt32) (upd (upd (T_me t) (T_np t) 5) (T_np t) c.toInt32) (upd (upd (T_te t) (T_np t) 5) (T_np t) d.toInt32) (T_kn t) = _
  rw [upd_upd, upd_upd, upd_upd]
  rfl
theorem WI_zab {t : TA} {a b : Int32} (h : WI t) (h8 : T_nb t < 8) : WI (zab t a b) := by
  obtain ⟨hT, hz, hA⟩ := h
  exact ⟨TI_mk ⟨h8, hT.1.2⟩ hT.2.1 (r_upd hT.2.2.1 ⟨1000, by omega, rfl⟩) hT.2.2.2.1 hT.2.2.2.2.1 hT.2.2.2.2.2, ⟨fun p b hp hb q => hz.1 p b hp hb (q.imp id (fun q => Nat.le_of_succ_le q)), fun b hb q => hz.2.1 b hb (Nat.le_of_succ_le q), hz.2.2⟩, hA⟩
theorem WI_zao {t : TA} {a b c d : Int64} (h : WI t) (h8 : T_np t < 8) (hc : Cbo a b c d) : WI (zao t a.toInt32 b.toInt32 c.toInt32 d.toInt32) := by
  obtain ⟨hT, hz, hA⟩ := h
  refine ⟨TI_mk ⟨hT.1.1, h8⟩ hT.2.1 hT.2.2.1 (r_upd hT.2.2.2.1 (r_iv64 10 (by decide +kernel) (by decide +kernel) hc.2.1)) (r_upd hT.2.2.2.2.1 (r_iv64 10 (by decide +kernel) (by decide +kernel) hc.2.2.1)) (r_upd hT.2.2.2.2.2 (r_iv64 10 (by decide +kernel) (by decide +kernel) hc.2.2.2)), ⟨fun p b hp hb q => hz.1 p b hp hb (q.imp (fun q => Nat.le_of_succ_le q) id), hz.2.1, fun p hp q => hz.2.2 p hp (Nat.le_of_succ_le q)⟩, fun p hp hg => ?_⟩
  show R0 9 (if p = T_np t then a.toInt32 else T_ag t p)
  by_cases e9 : p = T_np t
  · rw [if_pos e9]
    exact r_iv64 9 (by decide +kernel) (by decide +kernel) hc.1
  · rw [if_neg e9]
    have hp : p < T_np t + 1 := hp
    exact hA p (by omega) hg
theorem zao_32 {t : TA} {a b c d : Int32} : zao t a.toInt64.toInt32 b.toInt64.toInt32 c.toInt64.toInt32 d.toInt64.toInt32 = zao t a b c d := by rw [Int32.toInt32_toInt64, Int32.toInt32_toInt64, Int32.toInt32_toInt64, Int32.toInt32_toInt64]
theorem WI_kn {t : TA} {k m : Nat} {v : Int32} (h : WI t) (hk : k < T_np t) (hm : m < T_nb t) (hv : R0 1000 v) : WI (T_setkn t (updM (T_kn t) k m v)) := by
  obtain ⟨hT, hz, hA⟩ := h
  refine ⟨TI_kn hT hv, ⟨fun p b hp hb q => ?_, hz.2⟩, hA⟩
  have q : T_np t ≤ p ∨ T_nb t ≤ b := q
  show updM (T_kn t) k m v p b = 0
  rw [kn_ne (fun e1 e2 => by omega)]
  exact hz.1 p b hp hb q
theorem WI_wh {t : TA} {m : Nat} {v : Bool} (h : WI t) (hm : m < T_nb t) : WI (T_setwh t (updB (T_wh t) m v)) := by
  obtain ⟨hT, hz, hA⟩ := h
  refine ⟨TI_wh hT _, ⟨hz.1, fun b hb q => ?_, hz.2.2⟩, hA⟩
  have q : T_nb t ≤ b := q
  show updB (T_wh t) m v b = false
  rw [ub_n (by omega)]
  exact hz.2.1 b hb q
theorem WI_rd {t : TA} {k m : Nat} (h : WI t) (hk : k < T_np t) (hm : m < T_nb t) : WI (rdT t k m) := WI_wh (WI_kn h hk hm (r_wk h.1 k m)) hm
theorem WI_tl {t : TA} {k j m : Nat} (h : WI t) (hj : j < T_np t) (hm : m < T_nb t) : WI (tlT t k j m) := WI_kn h hj hm (r_tl h.1 k j m)
theorem WI_go {t : TA} {m : Nat} {v : Int32} (h : WI t) (hv : R0 1000 v) : WI (T_setgo t (upd (T_go t) m v)) := ⟨TI_go h.1 hv, h.2.1, h.2.2⟩
theorem WI_sd {t : TA} {v : Int32} (h : WI t) : WI (T_setsd t v) := h
theorem WI_hf {t : TA} {h ls : Int32} {b : Nat} (hb : b < T_nb t) (hh : R0 1000 h) (hw : WI t) : ∀ n, n ≤ T_np t → WI (hfF t h ls b n).1 := by
  intro n
  induction n with
  | zero => intro _; exact hw
  | succ n ih =>
    intro hn
    have q := ih (by omega)
    by_cases c1 : bitb ls n = true
    · by_cases c2 : T_kn (hfF t h ls b n).1 n b < zgr h (zgd (hfF t h ls b n).1 n b)
      · rw [hf_on c1 c2]
        exact WI_kn q (by rw [(hf_nb _ _ _ _ _).2]; omega) (by rw [(hf_nb _ _ _ _ _).1]; exact hb) (r_gr hh (r_gd (q.1.2.1 n) b))
      · rw [hf_no2 c2]
        exact q
    · rw [hf_no1 (by cases h9 : bitb ls n <;> first | rfl | exact absurd h9 c1)]
      exact q
theorem z_lt1 {x : Int32} (h : x = 0) : x < 1 := by rw [h]; decide
theorem z_n1 {x : Int32} {n : Nat} (hx : R0 n x) (h : ¬ x = 0) (hn : n ≤ 1000 := by omega) : ¬ x < 1 := by
  obtain ⟨k, hk, rfl⟩ := hx
  intro q
  rw [show (1 : Int32) = nI 1 from rfl, Int32.lt_iff_toInt_lt, nI_toInt (by omega), nI_toInt (by omega)] at q
  exact h (by rw [show k = 0 by omega]; rfl)
theorem WI_wr {t : TA} {k m : Nat} (h : WI t) (hm : m < T_nb t) : WI (T_setgo (T_setwh t (updB (T_wh t) m false)) (upd (T_go t) m (T_kn t k m))) := WI_go (WI_wh h hm) (h.1.2.1 k m)
/-! a town stays a town -/
theorem WI_tcI {t : TA} {p o : Nat} (h : WI t) (ho : o < T_np t) : ∀ n, n ≤ T_nb t → WI (tcI t p o n) := by
  intro n
  induction n with
  | zero => intro _; exact h
  | succ n ih =>
    intro hn
    have q := ih (by omega)
    exact WI_tl q (by rw [(tcI_nb t p o n).2]; exact ho) (by rw [(tcI_nb t p o n).1]; omega)
theorem WI_tcS {t : TA} {p : Nat} (h : WI t) : WI (tcS t p) := by
  unfold tcS
  split
  · exact h
  · split
    · exact h
    · next q =>
      rcases yb_in t (nI p) (T_np t) with e | ⟨k, hk, e⟩
      · exact absurd e q
      · have e : zyb t (nI p) = nI k := e
        have n2 := h.1.1.2
        rw [e, nI_clamp (by omega)]
        exact WI_tcI h hk _ (Nat.le_refl _)
theorem WI_ch {t : TA} (h : WI t) : WI (zch t) := by
  have : ∀ n, WI (tcF t n) := by
    intro n
    induction n with
    | zero => exact h
    | succ n ih => exact WI_tcS ih
  exact this _
theorem fgK_r {K : Nat → Nat → Int32} {p : Nat} {r : Int32} (h : ∀ p b, R0 1000 (K p b)) (hr : ∀ x, R0 1000 x → R0 1000 (x * r / 100)) : ∀ n p' b', R0 1000 (fgK K p r n p' b') := by
  intro n
  induction n with
  | zero => exact h
  | succ n ih => exact r_updM ih (hr _ (ih p n))
theorem fgK_ne {K : Nat → Nat → Int32} {p : Nat} {r : Int32} : ∀ n p' b', (p' = p → n ≤ b') → fgK K p r n p' b' = K p' b' := by
  intro n
  induction n with
  | zero => intro p' b' _; rfl
  | succ n ih =>
    intro p' b' hq
    show updM (fgK K p r n) p n (fgK K p r n p n * r / 100) p' b' = _
    rw [kn_ne (fun e1 e2 => by have := hq e1; omega)]
    exact ih p' b' (fun e => by have := hq e; omega)
theorem WI_ey1 {t : TA} {p : Nat} (h : WI t) (hp : p < T_np t) (hg : T_gn t p = false) : WI (eyS t p) := by
  obtain ⟨hT, hz, hA⟩ := h
  obtain ⟨a, ha, ea⟩ := hA p hp hg
  have n1 := hT.1.1
  have n2 := hT.1.2
  have hr : ∀ (c : Bool) (x : Int32), R0 1000 x → R0 1000 (x * (if c = true then 0 else 90 + T_me t p) / 100) := by
    intro c x hx
    cases c with
    | true =>
      have e : (0 : Int32) / 100 = 0 := by decide +kernel
      rw [if_pos rfl, Int32.mul_zero, e]
      exact r_0 1000
    | false =>
      rw [if_neg (by decide +kernel)]
      exact r_fg hx (hT.2.2.2.2.1 p)
  refine ⟨TI_mk hT.1 (fgK_r hT.2.1 (hr _) _) hT.2.2.1 hT.2.2.2.1 hT.2.2.2.2.1 hT.2.2.2.2.2, ⟨fun p' b' hp' hb' q => ?_, hz.2.1, fun p' hp' q => ?_⟩, fun p' hp' hg' => ?_⟩
  · have q : T_np t ≤ p' ∨ T_nb t ≤ b' := q
    refine Eq.trans (fgK_ne (K := T_kn t) (T_nb t) p' b' (fun e => ?_)) (hz.1 p' b' hp' hb' q)
    omega
  · have q : T_np t ≤ p' := q
    show (if 9 < T_ag t p + 1 then updB (T_gn t) p true else T_gn t) p' = false
    split
    · rw [ub_n (by omega)]
      exact hz.2.2 p' hp' q
    · exact hz.2.2 p' hp' q
  · have hp' : p' < T_np t := hp'
    have hg' : (if 9 < T_ag t p + 1 then updB (T_gn t) p true else T_gn t) p' = false := hg'
    show R0 9 (upd (T_ag t) p (T_ag t p + 1) p')
    by_cases e : p' = p
    · subst e
      rw [upd_sJ]
      by_cases c : 9 < T_ag t p' + 1
      · rw [if_pos c, updB_s] at hg'
        cases hg'
      · rw [ea, nI_1] at c ⊢
        refine ⟨a + 1, ?_, rfl⟩
        rw [Int32.lt_iff_toInt_lt, nI_toInt (by omega)] at c
        have e9 : (9 : Int32).toInt = 9 := by decide +kernel
        omega
    · show R0 9 (if p' = p then T_ag t p + 1 else T_ag t p')
      rw [if_neg e]
      refine hA p' hp' ?_
      split at hg'
      · rw [ub_n e] at hg'
        exact hg'
      · exact hg'
theorem WI_ey {t : TA} (h : WI t) : WI (zey t) := by
  have : ∀ n, n ≤ T_np t → WI (eyF (zthere t) t n) := by
    intro n
    induction n with
    | zero => intro _; exact h
    | succ n ih =>
      intro hn
      have q := ih (by omega)
      have n2 := h.1.1.2
      cases hb : bitb (zthere t) n with
      | false => rw [ey_no hb]; exact q
      | true =>
        rw [ey_on hb]
        rw [bitb_th (by omega)] at hb
        refine WI_ey1 q (by rw [(ey_nb _ _ _).2]; omega) ?_
        rw [(ey_far _ _ n n (Nat.le_refl _)).1]
        cases hg : T_gn t n with
        | false => rfl
        | true => rw [hg, Bool.not_true, Bool.and_false] at hb; cases hb
  exact this _ (Nat.le_refl _)
theorem WI_gn {t : TA} {p : Nat} (h : WI t) (hp : p < T_np t) : WI (T_setgn t (updB (T_gn t) p true)) := by
  obtain ⟨hT, hz, hA⟩ := h
  refine ⟨TI_gn hT _, ⟨hz.1, hz.2.1, fun p' hp' q => ?_⟩, fun p' hp' hg => ?_⟩
  · have q : T_np t ≤ p' := q
    show updB (T_gn t) p true p' = false
    rw [ub_n (by omega)]
    exact hz.2.2 p' hp' q
  · have hg : updB (T_gn t) p true p' = false := hg
    by_cases e : p' = p
    · rw [e, updB_s] at hg
      cases hg
    · rw [ub_n e] at hg
      exact hA p' hp' hg
theorem WI_dd {t : TA} (h : WI t) : WI (zdd t) := by
  have : ∀ n, n ≤ T_np t → WI (ddF t n) := by
    intro n
    induction n with
    | zero => intro _; exact h
    | succ n ih =>
      intro hn
      have q := ih (by omega)
      cases hg : T_gn (ddF t n) n with
      | true => rw [dd_g hg]; exact q
      | false =>
        by_cases c : ltR (T_sd (ddF t n)) < T_ag (ddF t n) n
        · rw [dd_die hg c]
          exact WI_gn (t := T_setsd (ddF t n) (ltS (T_sd (ddF t n)))) (WI_sd q) (by show n < T_np (ddF t n); rw [(dd_nb _ _).2]; omega)
        · rw [dd_live hg c]
          exact WI_sd q
  exact this _ (Nat.le_refl _)
theorem WI_TI {t : TA} (h : WI t) : TI t := h.1
/-! readings by worth, and how many books are white -/
noncomputable def wcF (w : Nat → Bool) : Nat → Nat
  | 0 => 0
  | n + 1 => wcF w n + (if w n = true then 1 else 0)
theorem wc_le (w : Nat → Bool) : ∀ n, wcF w n ≤ n := by
  intro n
  induction n with
  | zero => exact Nat.le_refl _
  | succ n ih =>
    show wcF w n + (if w n = true then 1 else 0) ≤ n + 1
    split <;> omega
theorem wc_all (w : Nat → Bool) : ∀ n, wcF w n = n → ∀ b, b < n → w b = true := by
  intro n
  induction n with
  | zero => intro _ b hb; exact absurd hb (Nat.not_lt_zero _)
  | succ n ih =>
    intro h b hb
    have h : wcF w n + (if w n = true then 1 else 0) = n + 1 := h
    have hl := wc_le w n
    by_cases c : w n = true
    · rw [if_pos c] at h
      by_cases e : b = n
      · rw [e]; exact c
      · exact ih (by omega) b (by omega)
    · rw [if_neg c] at h
      omega
theorem wc_far (w : Nat → Bool) (b : Nat) (v : Bool) : ∀ n, n ≤ b → wcF (updB w b v) n = wcF w n := by
  intro n
  induction n with
  | zero => intro _; rfl
  | succ n ih =>
    intro h
    show wcF (updB w b v) n + (if updB w b v n = true then 1 else 0) = wcF w n + (if w n = true then 1 else 0)
    rw [ih (by omega), ub_n (by omega)]
theorem wc_up (w : Nat → Bool) (b : Nat) (hw : w b = false) : ∀ n, b < n → wcF (updB w b true) n = wcF w n + 1 := by
  intro n
  induction n with
  | zero => intro h; exact absurd h (Nat.not_lt_zero _)
  | succ n ih =>
    intro h
    show wcF (updB w b true) n + (if updB w b true n = true then 1 else 0) = wcF w n + (if w n = true then 1 else 0) + 1
    by_cases e : n = b
    · subst e
      rw [wc_far w n true n (Nat.le_refl _), updB_s, hw, if_pos rfl, if_neg (by decide +kernel)]
    · rw [ih (by omega), ub_n e]
      omega
theorem du_all {t : TA} : ∀ n, (∀ b, b < n → T_wh t b = true) → duF t n = -1 := by
  intro n
  induction n with
  | zero => intro _; rfl
  | succ n ih =>
    intro h
    rw [du_skip (fun q => by rw [h n (by omega)] at q; exact absurd q.1 (by decide +kernel))]
    exact ih (fun b hb => h b (by omega))
theorem du_wh {t : TA} : ∀ n k, k < 8 → n ≤ 8 → duF t n = nI k → T_wh t k = false ∧ k < n := by
  intro n
  induction n with
  | zero => intro k hk _ h; exact absurd h.symm (nI_ne1 hk)
  | succ n ih =>
    intro k hk hn h
    by_cases c : (T_wh t n = false ∧ (duF t n = -1 ∨ T_wo t (duF t n).toNatClampNeg < T_wo t n))
    · rw [du_upd c] at h
      have e := nI_inj (by omega) (by omega) h
      subst e
      exact ⟨c.1, Nat.lt_succ_self _⟩
    · rw [du_skip c] at h
      have := ih k hk (by omega) h
      exact ⟨this.1, by omega⟩
theorem rd_lt8 {t : TA} {j k : Nat} (hn : T_nb t ≤ 8) (hc : j ≤ wcF (T_wh t) (T_nb t)) (h : zdu t = nI k) (hk : k < 8) : j < 8 := by
  have hl := wc_le (T_wh t) (T_nb t)
  rcases Nat.lt_or_ge j 8 with q | q
  · exact q
  · exfalso
    have e := du_all (t := t) (T_nb t) (wc_all _ _ (by omega))
    exact nI_ne1 hk (h.symm.trans e)
/-- nobody is there: nobody reads -/
theorem br_none {t : TA} {b : Nat} : ∀ n, (∀ p, p < n → T_gn t p = true) → (brF t b n).1 = -1 := by
  intro n
  induction n with
  | zero => intro _; rfl
  | succ n ih =>
    intro h
    rw [br_skip (fun q => by rw [h n (by omega)] at q; exact absurd q.1 (by decide +kernel))]
    exact ih (fun p hp => h p (by omega))
theorem rd_nob {t : TA} {loud most : Int32} {n j : Nat} {c : Int32} (h8 : T_nb t ≤ 8) (h : ∀ p, p < T_np t → T_gn t p = true) : rdG loud most n j t c = (t, c) := by
  rcases du_in t (T_nb t) with e | ⟨k, hk, e⟩
  · exact rd_u e
  · exact rd_b (k := k) e (by omega) (br_none _ h)
theorem zhf_0 {t : TA} {p b : Nat} (h8 : T_np t ≤ 8) : zhf t p b 0 = (t, 0) := by
  unfold zhf
  refine hf_none t _ b (m := T_np t) (fun n hn => ?_) _ (Nat.le_refl _)
  rw [bitb_and (by omega), bitb_and (by omega), bitb_z n (by omega), Bool.false_and, Bool.false_and]
theorem bt_hi : ∀ n, n < 256 → ∀ i, i < 32 → 8 ≤ i → bt (nI n) i = false := by decide +kernel
theorem all_there {t : TA} (h8 : T_np t ≤ 8) : ((1 : Int32) <<< (nI (T_np t) &&& 31) - 1) &&& zthere t = zthere t := by
  apply b_ext
  intro i hi
  rw [b_and]
  rcases Nat.lt_or_ge i 8 with q | q
  · rw [← bitb_bt (by omega), ← bitb_bt (by omega), bitb_all _ (by omega) i q, bitb_th q]
    cases decide (i < T_np t) <;> rfl
  · obtain ⟨n, hn, e⟩ := wb_lt (fun p => decide (p < T_np t) && !T_gn t p)
    have e : zthere t = nI n := e
    rw [e, bt_hi n hn i hi q, Bool.and_false]
theorem zhf_all {t : TA} {p b : Nat} (h8 : T_np t ≤ 8) : zhf t p b ((1 : Int32) <<< (nI (T_np t) &&& 31) - 1) = zhf t p b (zthere t) := by
  have e : zthere t &&& zthere t = zthere t := by
    apply b_ext
    intro i _
    rw [b_and, Bool.and_self]
  unfold zhf
  rw [all_there h8, e]
theorem hf_wh {t : TA} {h ls : Int32} {b n : Nat} : T_wh (hfF t h ls b n).1 = T_wh t := (hf_gn t h ls b n).2.2
theorem WI_rdS {t : TA} {p b : Nat} {loud : Int32} (h : WI t) (hp : p < T_np t) (hb : b < T_nb t) : WI (rdS t p b loud) := by
  unfold rdS
  split
  · exact WI_rd h hp hb
  · exact WI_hf (by show b < T_nb t; exact hb) (r_half ((WI_rd h hp hb).1.2.1 _ _)) (WI_rd h hp hb) _ (Nat.le_refl _)
theorem wh_rdS {t : TA} {p b : Nat} {loud : Int32} : T_wh (rdS t p b loud) = updB (T_wh t) b true := by
  unfold rdS
  split
  · rfl
  · exact hf_wh
theorem rdS_0 {t : TA} {p b : Nat} {iL : Int32} (h8 : T_np t ≤ 8) (h : iL = 0) : (zhf (rdT t p b) p b 0).1 = rdS t p b iL := by
  unfold rdS
  rw [if_pos h, zhf_0 (by show T_np t ≤ 8; exact h8)]
theorem rdS_1 {t : TA} {p b : Nat} {iL : Int32} (h8 : T_np t ≤ 8) (h : ¬ iL = 0) : (zhf (rdT t p b) p b ((1 : Int32) <<< (nI (T_np t) &&& 31) - 1)).1 = rdS t p b iL := by
  unfold rdS
  rw [if_neg h]
  exact congrArg Prod.fst (zhf_all (t := rdT t p b) (by show T_np t ≤ 8; exact h8))
theorem tm_0 {t : TA} (h8 : T_np t ≤ 8) (h : nI (tmF t (T_np t)) ≤ 0) : ∀ p, p < T_np t → T_gn t p = true := by
  intro p hp
  cases hg : T_gn t p with
  | true => rfl
  | false =>
    exfalso
    have key : ∀ n, p < n → 0 < tmF t n := by
      intro n
      induction n with
      | zero => intro q; exact absurd q (Nat.not_lt_zero _)
      | succ n ih =>
        intro q
        by_cases e : p = n
        · rw [← e, tm_y hg]
          omega
        · have := ih (by omega)
          cases hn : T_gn t n with
          | false => rw [tm_y hn]; omega
          | true => rw [tm_n hn]; omega
    have h1 := key _ hp
    have h2 := tm_le t (T_np t)
    rw [Int32.le_iff_toInt_le, nI_toInt (by omega)] at h
    have e0 : (0 : Int32).toInt = 0 := by decide +kernel
    omega
theorem k6 {x : Int32} (h : Iv x.toInt64 1 6) (h2 : x.toInt < 1 ∨ 5 < x.toInt) : x = 6 := by
  have h1 := toI h (m := 1) (n := 6) (by decide +kernel) (by decide +kernel)
  exact eqI (k := 6) (by decide +kernel) (show x.toInt = 6 by omega)
set_option maxHeartbeats 4000000 in
set_option maxRecDepth 100000 in
theorem x_X6_readsTo (l : Launch) (G : va_G) (cy : Nat → ClassId) (sz : Nat) (qm : Nat) (v0 : Value) (v1 : Value) (v2 : Value) (v3 : Value) (v4 : Value) (v5 : Value) (v6 : Value) (v7 : Value) (v8 : Value) (v9 : Value) (tA : TA) (qmB : Nat) (qmO : Nat) (qmK : Nat) (iEn : Int32) (iTk : Int32) (v18 : Value) (v19 : Value) (v20 : Value) (v21 : Value) (v22 : Value) (v23 : Value) (v24 : Value) (v25 : Value) (v26 : Value) (iLv : Int32) (iWs : Int32) (v29 : Value) (v30 : Value) (v31 : Value) (v32 : Value) (v33 : Value) (v34 : Value) (rB : Nat → Nat) (rO : Nat → Nat) (rK : Nat → Nat) (kI : Nat) (kB : Nat) (iS : Int32)  (hPp : T_np tA ≤ 8) (hI : kI < 8) (hJ : kB < 8) (hTI : TI tA) : MW l yX6_readsTo cX6_readsTo 7 (some .int) 5 0 0 G cy [zzO qm 5 (v0 :: v1 :: v2 :: v3 :: v4 :: v5 :: v6 :: v7 :: v8 :: v9 :: .int (nI (T_nb tA)) :: .ref qmB :: .int (nI (T_np tA)) :: .ref qmO :: .ref qmK :: .int iEn :: .int iTk :: .int (T_sd tA) :: v18 :: v19 :: v20 :: v21 :: v22 :: v23 :: v24 :: v25 :: v26 :: .int iLv :: .int iWs :: v29 :: v30 :: v31 :: v32 :: v33 :: v34 :: []), zzG cy 3 qmB rB, zzI cy (rB 0) 4 (bkR tA 0), zzI cy (rB 1) 4 (bkR tA 1), zzI cy (rB 2) 4 (bkR tA 2), zzI cy (rB 3) 4 (bkR tA 3), zzI cy (rB 4) 4 (bkR tA 4), zzI cy (rB 5) 4 (bkR tA 5), zzI cy (rB 6) 4 (bkR tA 6), zzI cy (rB 7) 4 (bkR tA 7), zzG cy 3 qmO rO, zzI cy (rO 0) 5 (onR tA 0), zzI cy (rO 1) 5 (onR tA 1), zzI cy (rO 2) 5 (onR tA 2), zzI cy (rO 3) 5 (onR tA 3), zzI cy (rO 4) 5 (onR tA 4), zzI cy (rO 5) 5 (onR tA 5), zzI cy (rO 6) 5 (onR tA 6), zzI cy (rO 7) 5 (onR tA 7), zzG cy 3 qmK rK, zzI cy (rK 0) 8 (T_kn tA 0), zzI cy (rK 1) 8 (T_kn tA 1), zzI cy (rK 2) 8 (T_kn tA 2), zzI cy (rK 3) 8 (T_kn tA 3), zzI cy (rK 4) 8 (T_kn tA 4), zzI cy (rK 5) 8 (T_kn tA 5), zzI cy (rK 6) 8 (T_kn tA 6), zzI cy (rK 7) 8 (T_kn tA 7)] sz [.ref qm, .int (nI kI), .int (nI kB), .int iS] (Wi G (fun r u => ∃ (tX : TA), u = [zzO qm 5 (v0 :: v1 :: v2 :: v3 :: v4 :: v5 :: v6 :: v7 :: v8 :: v9 :: .int (nI (T_nb tX)) :: .ref qmB :: .int (nI (T_np tX)) :: .ref qmO :: .ref qmK :: .int iEn :: .int iTk :: .int (T_sd tX) :: v18 :: v19 :: v20 :: v21 :: v22 :: v23 :: v24 :: v25 :: v26 :: .int iLv :: .int iWs :: v29 :: v30 :: v31 :: v32 :: v33 :: v34 :: []), zzG cy 3 qmB rB, zzI cy (rB 0) 4 (bkR tX 0), zzI cy (rB 1) 4 (bkR tX 1), zzI cy (rB 2) 4 (bkR tX 2), zzI cy (rB 3) 4 (bkR tX 3), zzI cy (rB 4) 4 (bkR tX 4), zzI cy (rB 5) 4 (bkR tX 5), zzI cy (rB 6) 4 (bkR tX 6), zzI cy (rB 7) 4 (bkR tX 7), zzG cy 3 qmO rO, zzI cy (rO 0) 5 (onR tX 0), zzI cy (rO 1) 5 (onR tX 1), zzI cy (rO 2) 5 (onR tX 2), zzI cy (rO 3) 5 (onR tX 3), zzI cy (rO 4) 5 (onR tX 4), zzI cy (rO 5) 5 (onR tX 5), zzI cy (rO 6) 5 (onR tX 6), zzI cy (rO 7) 5 (onR tX 7), zzG cy 3 qmK rK, zzI cy (rK 0) 8 (T_kn tX 0), zzI cy (rK 1) 8 (T_kn tX 1), zzI cy (rK 2) 8 (T_kn tX 2), zzI cy (rK 3) 8 (T_kn tX 3), zzI cy (rK 4) 8 (T_kn tX 4), zzI cy (rK 5) 8 (T_kn tX 5), zzI cy (rK 6) 8 (T_kn tX 6), zzI cy (rK 7) 8 (T_kn tX 7)] ∧ (TI tX ∧ T_nb tX = T_nb tA ∧ T_np tX = T_np tA) ∧ (tX = (zhf (rdT tA kI kB) kI kB iS).1 ∧ r = (zhf (rdT tA kI kB) kI kB iS).2) ∧ (True))) := by
  refine enW RX6 (by decide +kernel) rfl (Nat.le_of_ble_eq_true rfl) (fun p e s m below meth c ls A hx hb hml hown hts hr hlocks hP hN hl hin hD hA hS => ?_)
  have hin : meth.name = _ := hin
  have hK := hN.1
  replace hl : lv_has ls 7 [(0, .ref qm), (1, .int (nI kI)), (2, .int (nI kB)), (3, .int iS)] := hl
  refine lv_aload_n hx hb (g_42 bX6_readsTo rfl) rfl (lv_at hl 0 rfl) ?_
  refine lv_iload_n hx hb (g_27 bX6_readsTo rfl) rfl (lv_at hl 1 rfl) ?_
  refine lv_iload_n hx hb (g_28 bX6_readsTo rfl) rfl (lv_at hl 2 rfl) ?_
  refine cVv (As := [.int (nI kI), .int (nI kB)]) (rest := []) (b := qm) (q := (RX6, TX6, 35)) ⟨hx, hb, hml, hown, hts⟩ (c_X6_reads l G cy (s.heap).size qm v0 v1 v2 v3 v4 v5 v6 v7 v8 v9 tA qmB qmO qmK iEn iTk v18 v19 v20 v21 v22 v23 v24 v25 v26 iLv iWs v29 v30 v31 v32 v33 v34 rB rO rK kI kB hI hJ) L_X6_257 hN hP hD hS hA (trueIx 0 [true, true, true, true, true, true, true, true, true, true, true, true, true, true, true, true, true, true, true, true, true, true, true, true, true, true, true, true]) [false, false, false, false, false, false, false, false, false, false, false, false, false, false, false, false, false, false, false, false, false, false, false, false, false, false, false, false] (sel_eq rfl rfl) (by decide +kernel) rfl 0 5 rfl rfl rfl ⟨Nat.le_of_ble_eq_true rfl, Nat.le_of_ble_eq_true rfl⟩ hl.1 (Nat.le_of_ble_eq_true rfl) (g_182 (v := 257) bX6_readsTo rfl) ⟨Nat.le_of_ble_eq_true rfl, Nat.le_of_ble_eq_true rfl⟩ (fun u_3 H locs h_2 => ?_)
  clear hP hD hS
  intro hP hD hS
  have hPD := pd_eq [zzO qm 5 (v0 :: v1 :: v2 :: v3 :: v4 :: v5 :: v6 :: v7 :: v8 :: v9 :: .int (nI (T_nb (rdT tA kI kB))) :: .ref qmB :: .int (nI (T_np (rdT tA kI kB))) :: .ref qmO :: .ref qmK :: .int iEn :: .int iTk :: .int (T_sd (rdT tA kI kB)) :: v18 :: v19 :: v20 :: v21 :: v22 :: v23 :: v24 :: v25 :: v26 :: .int iLv :: .int iWs :: v29 :: v30 :: v31 :: v32 :: v33 :: v34 :: []), _, zzI cy (rB 0) 4 (bkR (rdT tA kI kB) 0), zzI cy (rB 1) 4 (bkR (rdT tA kI kB) 1), zzI cy (rB 2) 4 (bkR (rdT tA kI kB) 2), zzI cy (rB 3) 4 (bkR (rdT tA kI kB) 3), zzI cy (rB 4) 4 (bkR (rdT tA kI kB) 4), zzI cy (rB 5) 4 (bkR (rdT tA kI kB) 5), zzI cy (rB 6) 4 (bkR (rdT tA kI kB) 6), zzI cy (rB 7) 4 (bkR (rdT tA kI kB) 7), _, zzI cy (rO 0) 5 (onR (rdT tA kI kB) 0), zzI cy (rO 1) 5 (onR (rdT tA kI kB) 1), zzI cy (rO 2) 5 (onR (rdT tA kI kB) 2), zzI cy (rO 3) 5 (onR (rdT tA kI kB) 3), zzI cy (rO 4) 5 (onR (rdT tA kI kB) 4), zzI cy (rO 5) 5 (onR (rdT tA kI kB) 5), zzI cy (rO 6) 5 (onR (rdT tA kI kB) 6), zzI cy (rO 7) 5 (onR (rdT tA kI kB) 7), _, zzI cy (rK 0) 8 (T_kn (rdT tA kI kB) 0), zzI cy (rK 1) 8 (T_kn (rdT tA kI kB) 1), zzI cy (rK 2) 8 (T_kn (rdT tA kI kB) 2), zzI cy (rK 3) 8 (T_kn (rdT tA kI kB) 3), zzI cy (rK 4) 8 (T_kn (rdT tA kI kB) 4), zzI cy (rK 5) 8 (T_kn (rdT tA kI kB) 5), zzI cy (rK 6) 8 (T_kn (rdT tA kI kB) 6), zzI cy (rK 7) 8 (T_kn (rdT tA kI kB) 7)] hP hD h_2 rfl
  clear hP hD h_2
  obtain ⟨hP, hD⟩ := hPD
  refine lv_iconst (v := 0) hx hb (g_3 bX6_readsTo rfl) (by decide +kernel) ?_
  refine lv_istore (lv' := [(4, .int 0), (0, .ref qm), (1, .int (nI kI)), (2, .int (nI kB)), (3, .int iS)]) hx hb (g_54 (v := 4) bX6_readsTo rfl) hl (by decide +kernel) rfl (fun ls => ?_)
  clear hl
  intro hl
  refine lv_iconst (v := 0) hx hb (g_3 bX6_readsTo rfl) (by decide +kernel) ?_
  refine lv_istore (lv' := [(5, .int 0), (4, .int 0), (0, .ref qm), (1, .int (nI kI)), (2, .int (nI kB)), (3, .int iS)]) hx hb (g_54 (v := 5) bX6_readsTo rfl) hl (by decide +kernel) rfl (fun ls => ?_)
  clear hl
  intro hl
  have lp_4 : ∀ (n_5 : Nat) (j_7 : Nat) (tJ_8 : TA) (xC_9 : Int32), 8 - j_7 < n_5 → j_7 ≤ T_np tA → TI tJ_8 ∧ T_nb tJ_8 = T_nb tA ∧ T_np tJ_8 = T_np tA → (tJ_8 = (hfF (rdT tA kI kB) (T_kn (rdT tA kI kB) kI kB / 2) (lsT (rdT tA kI kB) kI iS) kB j_7).1 ∧ xC_9 = (hfF (rdT tA kI kB) (T_kn (rdT tA kI kB) kI kB / 2) (lsT (rdT tA kI kB) kI iS) kB j_7).2) → ∀ (H : Heap) (locs : List Loc) (ls : Array Slot), va_P G CL [zzO qm 5 (v0 :: v1 :: v2 :: v3 :: v4 :: v5 :: v6 :: v7 :: v8 :: v9 :: .int (nI (T_nb tJ_8)) :: .ref qmB :: .int (nI (T_np tJ_8)) :: .ref qmO :: .ref qmK :: .int iEn :: .int iTk :: .int (T_sd tJ_8) :: v18 :: v19 :: v20 :: v21 :: v22 :: v23 :: v24 :: v25 :: v26 :: .int iLv :: .int iWs :: v29 :: v30 :: v31 :: v32 :: v33 :: v34 :: []), zzG cy 3 qmB rB, zzI cy (rB 0) 4 (bkR tJ_8 0), zzI cy (rB 1) 4 (bkR tJ_8 1), zzI cy (rB 2) 4 (bkR tJ_8 2), zzI cy (rB 3) 4 (bkR tJ_8 3), zzI cy (rB 4) 4 (bkR tJ_8 4), zzI cy (rB 5) 4 (bkR tJ_8 5), zzI cy (rB 6) 4 (bkR tJ_8 6), zzI cy (rB 7) 4 (bkR tJ_8 7), zzG cy 3 qmO rO, zzI cy (rO 0) 5 (onR tJ_8 0), zzI cy (rO 1) 5 (onR tJ_8 1), zzI cy (rO 2) 5 (onR tJ_8 2), zzI cy (rO 3) 5 (onR tJ_8 3), zzI cy (rO 4) 5 (onR tJ_8 4), zzI cy (rO 5) 5 (onR tJ_8 5), zzI cy (rO 6) 5 (onR tJ_8 6), zzI cy (rO 7) 5 (onR tJ_8 7), zzG cy 3 qmK rK, zzI cy (rK 0) 8 (T_kn tJ_8 0), zzI cy (rK 1) 8 (T_kn tJ_8 1), zzI cy (rK 2) 8 (T_kn tJ_8 2), zzI cy (rK 3) 8 (T_kn tJ_8 3), zzI cy (rK 4) 8 (T_kn tJ_8 4), zzI cy (rK 5) 8 (T_kn tJ_8 5), zzI cy (rK 6) 8 (T_kn tJ_8 6), zzI cy (rK 7) 8 (T_kn tJ_8 7)] H → va_D A [zzO qm 5 (v0 :: v1 :: v2 :: v3 :: v4 :: v5 :: v6 :: v7 :: v8 :: v9 :: .int (nI (T_nb tJ_8)) :: .ref qmB :: .int (nI (T_np tJ_8)) :: .ref qmO :: .ref qmK :: .int iEn :: .int iTk :: .int (T_sd tJ_8) :: v18 :: v19 :: v20 :: v21 :: v22 :: v23 :: v24 :: v25 :: v26 :: .int iLv :: .int iWs :: v29 :: v30 :: v31 :: v32 :: v33 :: v34 :: []), zzG cy 3 qmB rB, zzI cy (rB 0) 4 (bkR tJ_8 0), zzI cy (rB 1) 4 (bkR tJ_8 1), zzI cy (rB 2) 4 (bkR tJ_8 2), zzI cy (rB 3) 4 (bkR tJ_8 3), zzI cy (rB 4) 4 (bkR tJ_8 4), zzI cy (rB 5) 4 (bkR tJ_8 5), zzI cy (rB 6) 4 (bkR tJ_8 6), zzI cy (rB 7) 4 (bkR tJ_8 7), zzG cy 3 qmO rO, zzI cy (rO 0) 5 (onR tJ_8 0), zzI cy (rO 1) 5 (onR tJ_8 1), zzI cy (rO 2) 5 (onR tJ_8 2), zzI cy (rO 3) 5 (onR tJ_8 3), zzI cy (rO 4) 5 (onR tJ_8 4), zzI cy (rO 5) 5 (onR tJ_8 5), zzI cy (rO 6) 5 (onR tJ_8 6), zzI cy (rO 7) 5 (onR tJ_8 7), zzG cy 3 qmK rK, zzI cy (rK 0) 8 (T_kn tJ_8 0), zzI cy (rK 1) 8 (T_kn tJ_8 1), zzI cy (rK 2) 8 (T_kn tJ_8 2), zzI cy (rK 3) 8 (T_kn tJ_8 3), zzI cy (rK 4) 8 (T_kn tJ_8 4), zzI cy (rK 5) 8 (T_kn tJ_8 5), zzI cy (rK 6) 8 (T_kn tJ_8 6), zzI cy (rK 7) 8 (T_kn tJ_8 7)] → va_S A s.heap H locs → lv_has ls 7 [(5, .int (nI j_7)), (4, .int xC_9), (0, .ref qm), (1, .int (nI kI)), (2, .int (nI kB)), (3, .int iS)] → W p l e (Rm 5 0 0) s m (List.toArray (α := Value) [.ref qm, .int (nI kI), .int (nI kB), .int iS]) below meth c H locs 0 0 (MQ below ((Wi G (fun r u => ∃ (tX : TA), u = [zzO qm 5 (v0 :: v1 :: v2 :: v3 :: v4 :: v5 :: v6 :: v7 :: v8 :: v9 :: .int (nI (T_nb tX)) :: .ref qmB :: .int (nI (T_np tX)) :: .ref qmO :: .ref qmK :: .int iEn :: .int iTk :: .int (T_sd tX) :: v18 :: v19 :: v20 :: v21 :: v22 :: v23 :: v24 :: v25 :: v26 :: .int iLv :: .int iWs :: v29 :: v30 :: v31 :: v32 :: v33 :: v34 :: []), zzG cy 3 qmB rB, zzI cy (rB 0) 4 (bkR tX 0), zzI cy (rB 1) 4 (bkR tX 1), zzI cy (rB 2) 4 (bkR tX 2), zzI cy (rB 3) 4 (bkR tX 3), zzI cy (rB 4) 4 (bkR tX 4), zzI cy (rB 5) 4 (bkR tX 5), zzI cy (rB 6) 4 (bkR tX 6), zzI cy (rB 7) 4 (bkR tX 7), zzG cy 3 qmO rO, zzI cy (rO 0) 5 (onR tX 0), zzI cy (rO 1) 5 (onR tX 1), zzI cy (rO 2) 5 (onR tX 2), zzI cy (rO 3) 5 (onR tX 3), zzI cy (rO 4) 5 (onR tX 4), zzI cy (rO 5) 5 (onR tX 5), zzI cy (rO 6) 5 (onR tX 6), zzI cy (rO 7) 5 (onR tX 7), zzG cy 3 qmK rK, zzI cy (rK 0) 8 (T_kn tX 0), zzI cy (rK 1) 8 (T_kn tX 1), zzI cy (rK 2) 8 (T_kn tX 2), zzI cy (rK 3) 8 (T_kn tX 3), zzI cy (rK 4) 8 (T_kn tX 4), zzI cy (rK 5) 8 (T_kn tX 5), zzI cy (rK 6) 8 (T_kn tX 6), zzI cy (rK 7) 8 (T_kn tX 7)] ∧ (TI tX ∧ T_nb tX = T_nb tA ∧ T_np tX = T_np tA) ∧ (tX = (zhf (rdT tA kI kB) kI kB iS).1 ∧ r = (zhf (rdT tA kI kB) kI kB iS).2) ∧ (True))) A) (List.toArray (α := Value) [.ref qm, .int (nI kI), .int (nI kB), .int iS]) s 0 0 A) (F0 m 12 ls []) := by
    intro n_5
    induction n_5 with
    | zero => intro j_7 tJ_8 xC_9 hm9; exact absurd hm9 (Nat.not_lt_zero _)
    | succ n_5 ih_6 =>
      intro j_7 tJ_8 xC_9 hm_13 hj_10 hT_11 hE_12 H locs ls hP hD hS hl
      refine lv_iload hx hb (g_21 (v := 5) bX6_readsTo rfl) (lv_at hl 0 rfl) ?_
      refine lv_aload_n hx hb (g_42 bX6_readsTo rfl) rfl (lv_at hl 2 rfl) ?_
      refine va_get (D := G) (ci := 5) (v := .int (nI (T_np tJ_8))) (C := RX6) (T := TX6) (N := 35) hx hb hts iX_X6 hown hK hP 0 rfl rfl 12 (by decide +kernel) (hts _ m_t862) (fun _ h9 => h9) rfl (g_180 (v := 78) bX6_readsTo rfl) ?_
      refine lv_icmp_ge (tgt := 131) hx hb dX6_readsTo_18 (by decide +kernel) (fun c_14 => ?_) (fun c_14 => ?_)
      · have hlt_15e : T_np tJ_8 = T_np tA := hT_11.2.2
        have hlt_15 : j_7 = T_np tA := Nat.le_antisymm (by omega) (by rw [hlt_15e] at c_14; exact lp_ge rfl rfl (by omega) (by omega) c_14)
        obtain ⟨hlt_15i, hlt_15b, hlt_15p⟩ := id hT_11
        refine lv_iload hx hb (g_21 (v := 4) bX6_readsTo rfl) (lv_at hl 1 rfl) ?_
        exact endW (u := [zzO qm 5 (v0 :: v1 :: v2 :: v3 :: v4 :: v5 :: v6 :: v7 :: v8 :: v9 :: .int (nI (T_nb tJ_8)) :: .ref qmB :: .int (nI (T_np tJ_8)) :: .ref qmO :: .ref qmK :: .int iEn :: .int iTk :: .int (T_sd tJ_8) :: v18 :: v19 :: v20 :: v21 :: v22 :: v23 :: v24 :: v25 :: v26 :: .int iLv :: .int iWs :: v29 :: v30 :: v31 :: v32 :: v33 :: v34 :: []), zzG cy 3 qmB rB, zzI cy (rB 0) 4 (bkR tJ_8 0), zzI cy (rB 1) 4 (bkR tJ_8 1), zzI cy (rB 2) 4 (bkR tJ_8 2), zzI cy (rB 3) 4 (bkR tJ_8 3), zzI cy (rB 4) 4 (bkR tJ_8 4), zzI cy (rB 5) 4 (bkR tJ_8 5), zzI cy (rB 6) 4 (bkR tJ_8 6), zzI cy (rB 7) 4 (bkR tJ_8 7), zzG cy 3 qmO rO, zzI cy (rO 0) 5 (onR tJ_8 0), zzI cy (rO 1) 5 (onR tJ_8 1), zzI cy (rO 2) 5 (onR tJ_8 2), zzI cy (rO 3) 5 (onR tJ_8 3), zzI cy (rO 4) 5 (onR tJ_8 4), zzI cy (rO 5) 5 (onR tJ_8 5), zzI cy (rO 6) 5 (onR tJ_8 6), zzI cy (rO 7) 5 (onR tJ_8 7), zzG cy 3 qmK rK, zzI cy (rK 0) 8 (T_kn tJ_8 0), zzI cy (rK 1) 8 (T_kn tJ_8 1), zzI cy (rK 2) 8 (T_kn tJ_8 2), zzI cy (rK 3) 8 (T_kn tJ_8 3), zzI cy (rK 4) 8 (T_kn tJ_8 4), zzI cy (rK 5) 8 (T_kn tJ_8 5), zzI cy (rK 6) 8 (T_kn tJ_8 6), zzI cy (rK 7) 8 (T_kn tJ_8 7)]) hx hb hr hlocks rfl (pSb hP [[true, true, true, true, true, true, true, true, true, true, true, true, true, true, true, true, true, true, true, true, true, true, true, true, true, true, true, true]] rfl rfl) (dSb hD [[true, true, true, true, true, true, true, true, true, true, true, true, true, true, true, true, true, true, true, true, true, true, true, true, true, true, true, true]] (by decide +kernel) rfl rfl) hS ⟨tJ_8, rfl, hT_11, (by have h9 := hE_12; rw [hlt_15] at h9; exact h9), trivial⟩ (g_172 bX6_readsTo rfl)
      · have hlt_16e : T_np tJ_8 = T_np tA := hT_11.2.2
        have hlt_16 : j_7 < T_np tA := by rw [hlt_16e] at c_14; exact lp_lt rfl rfl (by omega) (by omega) c_14
        obtain ⟨hlt_16i, hlt_16b, hlt_16p⟩ := id hT_11
        refine lv_iload hx hb (g_21 (v := 5) bX6_readsTo rfl) (lv_at hl 0 rfl) ?_
        refine lv_iload_n hx hb (g_27 bX6_readsTo rfl) rfl (lv_at hl 3 rfl) ?_
        refine lv_icmp_eq (tgt := 125) hx hb dX6_readsTo_24 (by decide +kernel) (fun c_17 => ?_) (fun c_17 => ?_)
        · refine lv_iinc (v := nI (j_7 + 1)) (lv' := [(5, .int (nI (j_7 + 1))), (4, .int xC_9), (0, .ref qm), (1, .int (nI kI)), (2, .int (nI kB)), (3, .int iS)]) hx hb dX6_readsTo_125 hl (k := 0) rfl (nI_1 _) (by decide +kernel) rfl (fun ls => ?_)
          clear hl
          intro hl
          refine lv_goto (tgt := 12) hx hb dX6_readsTo_128 (by decide +kernel) ?_
          exact ih_6 (j_7 + 1) tJ_8 xC_9 (by omega) (by omega) hT_11 (rt_no hE_12 (by rw [nI_inj (a := j_7) (b := kI) (by omega) (by omega) c_17]; exact ls_p hI)) _ _ _ hP hD hS (lv_sub hl [0, 1, 2, 3, 4, 5] rfl)
        · refine lv_aload_n hx hb (g_42 bX6_readsTo rfl) rfl (lv_at hl 2 rfl) ?_
          refine lv_iload hx hb (g_21 (v := 5) bX6_readsTo rfl) (lv_at hl 0 rfl) ?_
          refine kRi (rV (As := [.int (nI j_7)]) (rest := []) (b := qm) ⟨hx, hb, hml, hown, hts⟩ (c_X6_isThere l G cy qm v0 v1 v2 v3 v4 v5 v6 v7 v8 v9 tJ_8 qmB qmO qmK iEn iTk v18 v19 v20 v21 v22 v23 v24 v25 v26 iLv iWs v29 v30 v31 v32 v33 v34 rO j_7 (by omega)) L_X6_81 (preRV (q := (RX6, TX6, 35)) hN hP (trueIx 0 [true, false, false, false, false, false, false, false, false, false, true, true, true, true, true, true, true, true, true]) (sel_fm rfl rfl) 0 5 rfl rfl) rfl ⟨Nat.le_of_ble_eq_true rfl, Nat.le_of_ble_eq_true rfl⟩ hl.1 (Nat.le_of_ble_eq_true rfl) (g_182 (v := 81) bX6_readsTo rfl) ⟨Nat.le_of_ble_eq_true rfl, Nat.le_of_ble_eq_true rfl⟩) (fun r_18 h_19 => ?_)
          rcases h_19 with ⟨rfl, h_20⟩ | ⟨rfl, h_20⟩
          · refine lv_if_eq (tgt := 125) hx hb dX6_readsTo_33 (by decide +kernel) (fun h9 => absurd h9 (by decide +kernel)) (fun _ => ?_)
            refine lv_iload_n hx hb (g_29 bX6_readsTo rfl) rfl (lv_at hl 5 rfl) ?_
            refine lv_iload hx hb (g_21 (v := 5) bX6_readsTo rfl) (lv_at hl 0 rfl) ?_
            refine lv_ishr hx hb (g_122 bX6_readsTo rfl) ?_
            refine lv_iconst (v := 1) hx hb (g_4 bX6_readsTo rfl) (by decide +kernel) ?_
            refine lv_iand hx hb (g_126 bX6_readsTo rfl) ?_
            refine lv_if_eq (tgt := 125) hx hb dX6_readsTo_42 (by decide +kernel) (fun c_22 => ?_) (fun c_22 => ?_)
            · refine lv_iinc (v := nI (j_7 + 1)) (lv' := [(5, .int (nI (j_7 + 1))), (4, .int xC_9), (0, .ref qm), (1, .int (nI kI)), (2, .int (nI kB)), (3, .int iS)]) hx hb dX6_readsTo_125 hl (k := 0) rfl (nI_1 _) (by decide +kernel) rfl (fun ls => ?_)
              clear hl
              intro hl
              refine lv_goto (tgt := 12) hx hb dX6_readsTo_128 (by decide +kernel) ?_
              exact ih_6 (j_7 + 1) tJ_8 xC_9 (by omega) (by omega) hT_11 (rt_no hE_12 (by rw [ls_bit (t := (rdT tA kI kB)) (p := kI) (o := j_7) (s := iS) hI (by omega) (show j_7 < T_np tA by omega), bt_no c_22]; rfl)) _ _ _ hP hD hS (lv_sub hl [0, 1, 2, 3, 4, 5] rfl)
            · refine lv_aload_n hx hb (g_42 bX6_readsTo rfl) rfl (lv_at hl 2 rfl) ?_
              refine lv_aload_n hx hb (g_42 bX6_readsTo rfl) rfl (lv_at hl 2 rfl) ?_
              refine va_get (D := G) (ci := 5) (v := .ref qmK) (C := RX6) (T := TX6) (N := 35) hx hb hts iX_X6 hown hK hP 0 rfl rfl 14 (by decide +kernel) (hts _ m_t864) (fun _ h9 => h9) rfl (g_180 (v := 48) bX6_readsTo rfl) ?_
              refine lv_iload_n hx hb (g_27 bX6_readsTo rfl) rfl (lv_at hl 3 rfl) ?_
              refine va_alda hx hb hK hP 19 3 rfl rfl (in8 (by omega)) (g_50 bX6_readsTo rfl) ?_
              refine lv_setv (v := .ref (rK kI)) (g_ref (by omega)) ?_
              refine lv_iload_n hx hb (g_28 bX6_readsTo rfl) rfl (lv_at hl 4 rfl) ?_
              refine va_iald hx hb hK hP (20 + kI) 0 (sg8 (n0 := 20) (f := (fun j => zzI cy (rK j) 8 (T_kn tJ_8 j))) rfl rfl rfl rfl rfl rfl rfl rfl kI (by omega)) rfl (vp_in_nI (by omega) (by omega)) (g_46 bX6_readsTo rfl) ?_
              refine lv_seti (v := T_kn tJ_8 kI kB) (congrArg (T_kn tJ_8 kI) (nI_clamp (by omega))) ?_
              refine lv_iconst (v := 2) hx hb (g_5 bX6_readsTo rfl) (by decide +kernel) ?_
              refine lv_idiv hx hb (g_108 bX6_readsTo rfl) (by decide +kernel) ?_
              refine lv_iload hx hb (g_21 (v := 5) bX6_readsTo rfl) (lv_at hl 0 rfl) ?_
              refine lv_iload_n hx hb (g_28 bX6_readsTo rfl) rfl (lv_at hl 4 rfl) ?_
              refine kRi (rV (As := [.int ((T_kn tJ_8 kI kB) / 2), .int (nI j_7), .int (nI kB)]) (rest := []) (b := qm) ⟨hx, hb, hml, hown, hts⟩ (c_X6_byGround l G cy qm v0 v1 v2 v3 v4 v5 v6 v7 v8 v9 tJ_8 qmB qmO qmK iEn iTk v18 v19 v20 v21 v22 v23 v24 v25 v26 iLv iWs v29 v30 v31 v32 v33 v34 rB rK ((T_kn tJ_8 kI kB) / 2) j_7 kB (by omega) hJ) L_X6_244 (preRV (q := (RX6, TX6, 35)) hN hP (trueIx 0 [true, true, true, true, true, true, true, true, true, true, false, false, false, false, false, false, false, false, false, true, true, true, true, true, true, true, true, true]) (sel_fm rfl rfl) 0 5 rfl rfl) rfl ⟨Nat.le_of_ble_eq_true rfl, Nat.le_of_ble_eq_true rfl⟩ hl.1 (Nat.le_of_ble_eq_true rfl) (g_182 (v := 244) bX6_readsTo rfl) ⟨Nat.le_of_ble_eq_true rfl, Nat.le_of_ble_eq_true rfl⟩) (fun r_23 h_24 => ?_)
              subst h_24
              refine lv_istore (lv' := [(6, .int (zgr ((T_kn tJ_8 kI kB) / 2) (zgd tJ_8 j_7 kB))), (5, .int (nI j_7)), (4, .int xC_9), (0, .ref qm), (1, .int (nI kI)), (2, .int (nI kB)), (3, .int iS)]) hx hb (g_54 (v := 6) bX6_readsTo rfl) hl (by decide +kernel) rfl (fun ls => ?_)
              clear hl
              intro hl
              refine lv_iload hx hb (g_21 (v := 4) bX6_readsTo rfl) (lv_at hl 2 rfl) ?_
              refine lv_iload hx hb (g_21 (v := 6) bX6_readsTo rfl) (lv_at hl 0 rfl) ?_
              refine lv_aload_n hx hb (g_42 bX6_readsTo rfl) rfl (lv_at hl 3 rfl) ?_
              refine va_get (D := G) (ci := 5) (v := .ref qmK) (C := RX6) (T := TX6) (N := 35) hx hb hts iX_X6 hown hK hP 0 rfl rfl 14 (by decide +kernel) (hts _ m_t864) (fun _ h9 => h9) rfl (g_180 (v := 48) bX6_readsTo rfl) ?_
              refine lv_iload hx hb (g_21 (v := 5) bX6_readsTo rfl) (lv_at hl 1 rfl) ?_
              refine va_alda hx hb hK hP 19 3 rfl rfl (in8 (by omega)) (g_50 bX6_readsTo rfl) ?_
              refine lv_setv (v := .ref (rK j_7)) (g_ref (by omega)) ?_
              refine lv_iload_n hx hb (g_28 bX6_readsTo rfl) rfl (lv_at hl 5 rfl) ?_
              refine va_iald hx hb hK hP (20 + j_7) 0 (sg8 (n0 := 20) (f := (fun j => zzI cy (rK j) 8 (T_kn tJ_8 j))) rfl rfl rfl rfl rfl rfl rfl rfl j_7 (by omega)) rfl (vp_in_nI (by omega) (by omega)) (g_46 bX6_readsTo rfl) ?_
              refine lv_seti (v := T_kn tJ_8 j_7 kB) (congrArg (T_kn tJ_8 j_7) (nI_clamp (by omega))) ?_
              refine lv_icmp_le (tgt := 84) hx hb dX6_readsTo_77 (by decide +kernel) (fun c_25 => ?_) (fun c_25 => ?_)
              · refine lv_iconst (v := 0) hx hb (g_3 bX6_readsTo rfl) (by decide +kernel) ?_
                refine lv_iadd hx hb (g_96 bX6_readsTo rfl) ?_
                refine lv_istore (lv' := [(4, .int (xC_9 + 0)), (6, .int (zgr ((T_kn tJ_8 kI kB) / 2) (zgd tJ_8 j_7 kB))), (5, .int (nI j_7)), (0, .ref qm), (1, .int (nI kI)), (2, .int (nI kB)), (3, .int iS)]) hx hb (g_54 (v := 4) bX6_readsTo rfl) hl (by decide +kernel) rfl (fun ls => ?_)
                clear hl
                intro hl
                refine lv_aload_n hx hb (g_42 bX6_readsTo rfl) rfl (lv_at hl 3 rfl) ?_
                refine va_get (D := G) (ci := 5) (v := .ref qmK) (C := RX6) (T := TX6) (N := 35) hx hb hts iX_X6 hown hK hP 0 rfl rfl 14 (by decide +kernel) (hts _ m_t864) (fun _ h9 => h9) rfl (g_180 (v := 48) bX6_readsTo rfl) ?_
                refine lv_iload hx hb (g_21 (v := 5) bX6_readsTo rfl) (lv_at hl 2 rfl) ?_
                refine va_alda hx hb hK hP 19 3 rfl rfl (in8 (by omega)) (g_50 bX6_readsTo rfl) ?_
                refine lv_setv (v := .ref (rK j_7)) (g_ref (by omega)) ?_
                refine lv_iload_n hx hb (g_28 bX6_readsTo rfl) rfl (lv_at hl 5 rfl) ?_
                refine lv_iload hx hb (g_21 (v := 6) bX6_readsTo rfl) (lv_at hl 1 rfl) ?_
                refine lv_aload_n hx hb (g_42 bX6_readsTo rfl) rfl (lv_at hl 3 rfl) ?_
                refine va_get (D := G) (ci := 5) (v := .ref qmK) (C := RX6) (T := TX6) (N := 35) hx hb hts iX_X6 hown hK hP 0 rfl rfl 14 (by decide +kernel) (hts _ m_t864) (fun _ h9 => h9) rfl (g_180 (v := 48) bX6_readsTo rfl) ?_
                refine lv_iload hx hb (g_21 (v := 5) bX6_readsTo rfl) (lv_at hl 2 rfl) ?_
                refine va_alda hx hb hK hP 19 3 rfl rfl (in8 (by omega)) (g_50 bX6_readsTo rfl) ?_
                refine lv_setv (v := .ref (rK j_7)) (g_ref (by omega)) ?_
                refine lv_iload_n hx hb (g_28 bX6_readsTo rfl) rfl (lv_at hl 5 rfl) ?_
                refine va_iald hx hb hK hP (20 + j_7) 0 (sg8 (n0 := 20) (f := (fun j => zzI cy (rK j) 8 (T_kn tJ_8 j))) rfl rfl rfl rfl rfl rfl rfl rfl j_7 (by omega)) rfl (vp_in_nI (by omega) (by omega)) (g_46 bX6_readsTo rfl) ?_
                refine lv_seti (v := T_kn tJ_8 j_7 kB) (congrArg (T_kn tJ_8 j_7) (nI_clamp (by omega))) ?_
                refine lv_icmp_le (tgt := 115) hx hb dX6_readsTo_107 (by decide +kernel) (fun c_26 => ?_) (fun c_26 => ?_)
                · refine lv_aload_n hx hb (g_42 bX6_readsTo rfl) rfl (lv_at hl 3 rfl) ?_
                  refine va_get (D := G) (ci := 5) (v := .ref qmK) (C := RX6) (T := TX6) (N := 35) hx hb hts iX_X6 hown hK hP 0 rfl rfl 14 (by decide +kernel) (hts _ m_t864) (fun _ h9 => h9) rfl (g_180 (v := 48) bX6_readsTo rfl) ?_
                  refine lv_iload hx hb (g_21 (v := 5) bX6_readsTo rfl) (lv_at hl 2 rfl) ?_
                  refine va_alda hx hb hK hP 19 3 rfl rfl (in8 (by omega)) (g_50 bX6_readsTo rfl) ?_
                  refine lv_setv (v := .ref (rK j_7)) (g_ref (by omega)) ?_
                  refine lv_iload_n hx hb (g_28 bX6_readsTo rfl) rfl (lv_at hl 5 rfl) ?_
                  refine va_iald hx hb hK hP (20 + j_7) 0 (sg8 (n0 := 20) (f := (fun j => zzI cy (rK j) 8 (T_kn tJ_8 j))) rfl rfl rfl rfl rfl rfl rfl rfl j_7 (by omega)) rfl (vp_in_nI (by omega) (by omega)) (g_46 bX6_readsTo rfl) ?_
                  refine lv_seti (v := T_kn tJ_8 j_7 kB) (congrArg (T_kn tJ_8 j_7) (nI_clamp (by omega))) ?_
                  refine va_iast hx hb hK hP hD hS (20 + j_7) 0 ((sg8 (n0 := 20) (f := (fun j => zzI cy (rK j) 8 (T_kn tJ_8 j))) rfl rfl rfl rfl rfl rfl rfl rfl) j_7 (by omega)) rfl (vp_in_nI (by omega) (by omega)) (g_79 bX6_readsTo rfl) (fun H locs => ?_)
                  clear hP hD hS
                  intro hP hD hS
                  rw [nI_clamp (n := kB) (by omega)] at hP hD
                  have hPD := st8PD (ws' := [zzO qm 5 (v0 :: v1 :: v2 :: v3 :: v4 :: v5 :: v6 :: v7 :: v8 :: v9 :: .int (nI (T_nb (T_setkn tJ_8 (updM (T_kn tJ_8) j_7 kB (T_kn tJ_8 j_7 kB))))) :: .ref qmB :: .int (nI (T_np (T_setkn tJ_8 (updM (T_kn tJ_8) j_7 kB (T_kn tJ_8 j_7 kB))))) :: .ref qmO :: .ref qmK :: .int iEn :: .int iTk :: .int (T_sd (T_setkn tJ_8 (updM (T_kn tJ_8) j_7 kB (T_kn tJ_8 j_7 kB)))) :: v18 :: v19 :: v20 :: v21 :: v22 :: v23 :: v24 :: v25 :: v26 :: .int iLv :: .int iWs :: v29 :: v30 :: v31 :: v32 :: v33 :: v34 :: []), zzG cy 3 qmB rB, zzI cy (rB 0) 4 (bkR (T_setkn tJ_8 (updM (T_kn tJ_8) j_7 kB (T_kn tJ_8 j_7 kB))) 0), zzI cy (rB 1) 4 (bkR (T_setkn tJ_8 (updM (T_kn tJ_8) j_7 kB (T_kn tJ_8 j_7 kB))) 1), zzI cy (rB 2) 4 (bkR (T_setkn tJ_8 (updM (T_kn tJ_8) j_7 kB (T_kn tJ_8 j_7 kB))) 2), zzI cy (rB 3) 4 (bkR (T_setkn tJ_8 (updM (T_kn tJ_8) j_7 kB (T_kn tJ_8 j_7 kB))) 3), zzI cy (rB 4) 4 (bkR (T_setkn tJ_8 (updM (T_kn tJ_8) j_7 kB (T_kn tJ_8 j_7 kB))) 4), zzI cy (rB 5) 4 (bkR (T_setkn tJ_8 (updM (T_kn tJ_8) j_7 kB (T_kn tJ_8 j_7 kB))) 5), zzI cy (rB 6) 4 (bkR (T_setkn tJ_8 (updM (T_kn tJ_8) j_7 kB (T_kn tJ_8 j_7 kB))) 6), zzI cy (rB 7) 4 (bkR (T_setkn tJ_8 (updM (T_kn tJ_8) j_7 kB (T_kn tJ_8 j_7 kB))) 7), zzG cy 3 qmO rO, zzI cy (rO 0) 5 (onR (T_setkn tJ_8 (updM (T_kn tJ_8) j_7 kB (T_kn tJ_8 j_7 kB))) 0), zzI cy (rO 1) 5 (onR (T_setkn tJ_8 (updM (T_kn tJ_8) j_7 kB (T_kn tJ_8 j_7 kB))) 1), zzI cy (rO 2) 5 (onR (T_setkn tJ_8 (updM (T_kn tJ_8) j_7 kB (T_kn tJ_8 j_7 kB))) 2), zzI cy (rO 3) 5 (onR (T_setkn tJ_8 (updM (T_kn tJ_8) j_7 kB (T_kn tJ_8 j_7 kB))) 3), zzI cy (rO 4) 5 (onR (T_setkn tJ_8 (updM (T_kn tJ_8) j_7 kB (T_kn tJ_8 j_7 kB))) 4), zzI cy (rO 5) 5 (onR (T_setkn tJ_8 (updM (T_kn tJ_8) j_7 kB (T_kn tJ_8 j_7 kB))) 5), zzI cy (rO 6) 5 (onR (T_setkn tJ_8 (updM (T_kn tJ_8) j_7 kB (T_kn tJ_8 j_7 kB))) 6), zzI cy (rO 7) 5 (onR (T_setkn tJ_8 (updM (T_kn tJ_8) j_7 kB (T_kn tJ_8 j_7 kB))) 7), zzG cy 3 qmK rK, zzI cy (rK 0) 8 (T_kn (T_setkn tJ_8 (updM (T_kn tJ_8) j_7 kB (T_kn tJ_8 j_7 kB))) 0), zzI cy (rK 1) 8 (T_kn (T_setkn tJ_8 (updM (T_kn tJ_8) j_7 kB (T_kn tJ_8 j_7 kB))) 1), zzI cy (rK 2) 8 (T_kn (T_setkn tJ_8 (updM (T_kn tJ_8) j_7 kB (T_kn tJ_8 j_7 kB))) 2), zzI cy (rK 3) 8 (T_kn (T_setkn tJ_8 (updM (T_kn tJ_8) j_7 kB (T_kn tJ_8 j_7 kB))) 3), zzI cy (rK 4) 8 (T_kn (T_setkn tJ_8 (updM (T_kn tJ_8) j_7 kB (T_kn tJ_8 j_7 kB))) 4), zzI cy (rK 5) 8 (T_kn (T_setkn tJ_8 (updM (T_kn tJ_8) j_7 kB (T_kn tJ_8 j_7 kB))) 5), zzI cy (rK 6) 8 (T_kn (T_setkn tJ_8 (updM (T_kn tJ_8) j_7 kB (T_kn tJ_8 j_7 kB))) 6), zzI cy (rK 7) 8 (T_kn (T_setkn tJ_8 (updM (T_kn tJ_8) j_7 kB (T_kn tJ_8 j_7 kB))) 7)]) (k := j_7) (g1 := T_kn (T_setkn tJ_8 (updM (T_kn tJ_8) j_7 kB (T_kn tJ_8 j_7 kB))) j_7) hP hD (sg8 (n0 := 20) (f := (fun j => zzI cy (rK j) 8 (T_kn tJ_8 j))) rfl rfl rfl rfl rfl rfl rfl rfl) (sg8 (n0 := 20) (f := (fun j => zzI cy (rK j) 8 (T_kn (T_setkn tJ_8 (updM (T_kn tJ_8) j_7 kB (T_kn tJ_8 j_7 kB))) j))) rfl rfl rfl rfl rfl rfl rfl rfl) rfl rfl (by omega) rfl (fun i _ => (congrFun (kn_u tJ_8 j_7 kB (T_kn tJ_8 j_7 kB)) i).symm) (fun j hj => congrArg (zzI cy (rK j) 8) (kn_n tJ_8 j_7 kB (T_kn tJ_8 j_7 kB) hj))
                  clear hP hD
                  obtain ⟨hP, hD⟩ := hPD
                  refine lv_iinc (v := nI (j_7 + 1)) (lv' := [(5, .int (nI (j_7 + 1))), (4, .int (xC_9 + 0)), (6, .int (zgr ((T_kn tJ_8 kI kB) / 2) (zgd tJ_8 j_7 kB))), (0, .ref qm), (1, .int (nI kI)), (2, .int (nI kB)), (3, .int iS)]) hx hb dX6_readsTo_125 hl (k := 2) rfl (nI_1 _) (by decide +kernel) rfl (fun ls => ?_)
                  clear hl
                  intro hl
                  refine lv_goto (tgt := 12) hx hb dX6_readsTo_128 (by decide +kernel) ?_
                  exact ih_6 (j_7 + 1) (T_setkn tJ_8 (updM (T_kn tJ_8) j_7 kB (T_kn tJ_8 j_7 kB))) (xC_9 + 0) (by omega) (by omega) (⟨TI_kn hT_11.1 (hT_11.1.2.1 _ _), hT_11.2⟩) (rt_ge hE_12 (by rw [rt_h hI hE_12]) (Int32.not_lt.mpr c_26)) _ _ _ hP hD hS (lv_sub hl [0, 1, 3, 4, 5, 6] rfl)
                · exact absurd c_25 c_26
              · refine lv_iconst (v := 1) hx hb (g_4 bX6_readsTo rfl) (by decide +kernel) ?_
                refine lv_goto (tgt := 85) hx hb dX6_readsTo_81 (by decide +kernel) ?_
                refine lv_iadd hx hb (g_96 bX6_readsTo rfl) ?_
                refine lv_istore (lv' := [(4, .int (xC_9 + 1)), (6, .int (zgr ((T_kn tJ_8 kI kB) / 2) (zgd tJ_8 j_7 kB))), (5, .int (nI j_7)), (0, .ref qm), (1, .int (nI kI)), (2, .int (nI kB)), (3, .int iS)]) hx hb (g_54 (v := 4) bX6_readsTo rfl) hl (by decide +kernel) rfl (fun ls => ?_)
                clear hl
                intro hl
                refine lv_aload_n hx hb (g_42 bX6_readsTo rfl) rfl (lv_at hl 3 rfl) ?_
                refine va_get (D := G) (ci := 5) (v := .ref qmK) (C := RX6) (T := TX6) (N := 35) hx hb hts iX_X6 hown hK hP 0 rfl rfl 14 (by decide +kernel) (hts _ m_t864) (fun _ h9 => h9) rfl (g_180 (v := 48) bX6_readsTo rfl) ?_
                refine lv_iload hx hb (g_21 (v := 5) bX6_readsTo rfl) (lv_at hl 2 rfl) ?_
                refine va_alda hx hb hK hP 19 3 rfl rfl (in8 (by omega)) (g_50 bX6_readsTo rfl) ?_
                refine lv_setv (v := .ref (rK j_7)) (g_ref (by omega)) ?_
                refine lv_iload_n hx hb (g_28 bX6_readsTo rfl) rfl (lv_at hl 5 rfl) ?_
                refine lv_iload hx hb (g_21 (v := 6) bX6_readsTo rfl) (lv_at hl 1 rfl) ?_
                refine lv_aload_n hx hb (g_42 bX6_readsTo rfl) rfl (lv_at hl 3 rfl) ?_
                refine va_get (D := G) (ci := 5) (v := .ref qmK) (C := RX6) (T := TX6) (N := 35) hx hb hts iX_X6 hown hK hP 0 rfl rfl 14 (by decide +kernel) (hts _ m_t864) (fun _ h9 => h9) rfl (g_180 (v := 48) bX6_readsTo rfl) ?_
                refine lv_iload hx hb (g_21 (v := 5) bX6_readsTo rfl) (lv_at hl 2 rfl) ?_
                refine va_alda hx hb hK hP 19 3 rfl rfl (in8 (by omega)) (g_50 bX6_readsTo rfl) ?_
                refine lv_setv (v := .ref (rK j_7)) (g_ref (by omega)) ?_
                refine lv_iload_n hx hb (g_28 bX6_readsTo rfl) rfl (lv_at hl 5 rfl) ?_
                refine va_iald hx hb hK hP (20 + j_7) 0 (sg8 (n0 := 20) (f := (fun j => zzI cy (rK j) 8 (T_kn tJ_8 j))) rfl rfl rfl rfl rfl rfl rfl rfl j_7 (by omega)) rfl (vp_in_nI (by omega) (by omega)) (g_46 bX6_readsTo rfl) ?_
                refine lv_seti (v := T_kn tJ_8 j_7 kB) (congrArg (T_kn tJ_8 j_7) (nI_clamp (by omega))) ?_
                refine lv_icmp_le (tgt := 115) hx hb dX6_readsTo_107 (by decide +kernel) (fun c_27 => ?_) (fun c_27 => ?_)
                · exact absurd c_27 c_25
                · refine lv_iload hx hb (g_21 (v := 6) bX6_readsTo rfl) (lv_at hl 1 rfl) ?_
                  refine lv_goto (tgt := 124) hx hb dX6_readsTo_112 (by decide +kernel) ?_
                  refine va_iast hx hb hK hP hD hS (20 + j_7) 0 ((sg8 (n0 := 20) (f := (fun j => zzI cy (rK j) 8 (T_kn tJ_8 j))) rfl rfl rfl rfl rfl rfl rfl rfl) j_7 (by omega)) rfl (vp_in_nI (by omega) (by omega)) (g_79 bX6_readsTo rfl) (fun H locs => ?_)
                  clear hP hD hS
                  intro hP hD hS
                  rw [nI_clamp (n := kB) (by omega)] at hP hD
                  have hPD := st8PD (ws' := [zzO qm 5 (v0 :: v1 :: v2 :: v3 :: v4 :: v5 :: v6 :: v7 :: v8 :: v9 :: .int (nI (T_nb (T_setkn tJ_8 (updM (T_kn tJ_8) j_7 kB (zgr ((T_kn tJ_8 kI kB) / 2) (zgd tJ_8 j_7 kB)))))) :: .ref qmB :: .int (nI (T_np (T_setkn tJ_8 (updM (T_kn tJ_8) j_7 kB (zgr ((T_kn tJ_8 kI kB) / 2) (zgd tJ_8 j_7 kB)))))) :: .ref qmO :: .ref qmK :: .int iEn :: .int iTk :: .int (T_sd (T_setkn tJ_8 (updM (T_kn tJ_8) j_7 kB (zgr ((T_kn tJ_8 kI kB) / 2) (zgd tJ_8 j_7 kB))))) :: v18 :: v19 :: v20 :: v21 :: v22 :: v23 :: v24 :: v25 :: v26 :: .int iLv :: .int iWs :: v29 :: v30 :: v31 :: v32 :: v33 :: v34 :: []), zzG cy 3 qmB rB, zzI cy (rB 0) 4 (bkR (T_setkn tJ_8 (updM (T_kn tJ_8) j_7 kB (zgr ((T_kn tJ_8 kI kB) / 2) (zgd tJ_8 j_7 kB)))) 0), zzI cy (rB 1) 4 (bkR (T_setkn tJ_8 (updM (T_kn tJ_8) j_7 kB (zgr ((T_kn tJ_8 kI kB) / 2) (zgd tJ_8 j_7 kB)))) 1), zzI cy (rB 2) 4 (bkR (T_setkn tJ_8 (updM (T_kn tJ_8) j_7 kB (zgr ((T_kn tJ_8 kI kB) / 2) (zgd tJ_8 j_7 kB)))) 2), zzI cy (rB 3) 4 (bkR (T_setkn tJ_8 (updM (T_kn tJ_8) j_7 kB (zgr ((T_kn tJ_8 kI kB) / 2) (zgd tJ_8 j_7 kB)))) 3), zzI cy (rB 4) 4 (bkR (T_setkn tJ_8 (updM (T_kn tJ_8) j_7 kB (zgr ((T_kn tJ_8 kI kB) / 2) (zgd tJ_8 j_7 kB)))) 4), zzI cy (rB 5) 4 (bkR (T_setkn tJ_8 (updM (T_kn tJ_8) j_7 kB (zgr ((T_kn tJ_8 kI kB) / 2) (zgd tJ_8 j_7 kB)))) 5), zzI cy (rB 6) 4 (bkR (T_setkn tJ_8 (updM (T_kn tJ_8) j_7 kB (zgr ((T_kn tJ_8 kI kB) / 2) (zgd tJ_8 j_7 kB)))) 6), zzI cy (rB 7) 4 (bkR (T_setkn tJ_8 (updM (T_kn tJ_8) j_7 kB (zgr ((T_kn tJ_8 kI kB) / 2) (zgd tJ_8 j_7 kB)))) 7), zzG cy 3 qmO rO, zzI cy (rO 0) 5 (onR (T_setkn tJ_8 (updM (T_kn tJ_8) j_7 kB (zgr ((T_kn tJ_8 kI kB) / 2) (zgd tJ_8 j_7 kB)))) 0), zzI cy (rO 1) 5 (onR (T_setkn tJ_8 (updM (T_kn tJ_8) j_7 kB (zgr ((T_kn tJ_8 kI kB) / 2) (zgd tJ_8 j_7 kB)))) 1), zzI cy (rO 2) 5 (onR (T_setkn tJ_8 (updM (T_kn tJ_8) j_7 kB (zgr ((T_kn tJ_8 kI kB) / 2) (zgd tJ_8 j_7 kB)))) 2), zzI cy (rO 3) 5 (onR (T_setkn tJ_8 (updM (T_kn tJ_8) j_7 kB (zgr ((T_kn tJ_8 kI kB) / 2) (zgd tJ_8 j_7 kB)))) 3), zzI cy (rO 4) 5 (onR (T_setkn tJ_8 (updM (T_kn tJ_8) j_7 kB (zgr ((T_kn tJ_8 kI kB) / 2) (zgd tJ_8 j_7 kB)))) 4), zzI cy (rO 5) 5 (onR (T_setkn tJ_8 (updM (T_kn tJ_8) j_7 kB (zgr ((T_kn tJ_8 kI kB) / 2) (zgd tJ_8 j_7 kB)))) 5), zzI cy (rO 6) 5 (onR (T_setkn tJ_8 (updM (T_kn tJ_8) j_7 kB (zgr ((T_kn tJ_8 kI kB) / 2) (zgd tJ_8 j_7 kB)))) 6), zzI cy (rO 7) 5 (onR (T_setkn tJ_8 (updM (T_kn tJ_8) j_7 kB (zgr ((T_kn tJ_8 kI kB) / 2) (zgd tJ_8 j_7 kB)))) 7), zzG cy 3 qmK rK, zzI cy (rK 0) 8 (T_kn (T_setkn tJ_8 (updM (T_kn tJ_8) j_7 kB (zgr ((T_kn tJ_8 kI kB) / 2) (zgd tJ_8 j_7 kB)))) 0), zzI cy (rK 1) 8 (T_kn (T_setkn tJ_8 (updM (T_kn tJ_8) j_7 kB (zgr ((T_kn tJ_8 kI kB) / 2) (zgd tJ_8 j_7 kB)))) 1), zzI cy (rK 2) 8 (T_kn (T_setkn tJ_8 (updM (T_kn tJ_8) j_7 kB (zgr ((T_kn tJ_8 kI kB) / 2) (zgd tJ_8 j_7 kB)))) 2), zzI cy (rK 3) 8 (T_kn (T_setkn tJ_8 (updM (T_kn tJ_8) j_7 kB (zgr ((T_kn tJ_8 kI kB) / 2) (zgd tJ_8 j_7 kB)))) 3), zzI cy (rK 4) 8 (T_kn (T_setkn tJ_8 (updM (T_kn tJ_8) j_7 kB (zgr ((T_kn tJ_8 kI kB) / 2) (zgd tJ_8 j_7 kB)))) 4), zzI cy (rK 5) 8 (T_kn (T_setkn tJ_8 (updM (T_kn tJ_8) j_7 kB (zgr ((T_kn tJ_8 kI kB) / 2) (zgd tJ_8 j_7 kB)))) 5), zzI cy (rK 6) 8 (T_kn (T_setkn tJ_8 (updM (T_kn tJ_8) j_7 kB (zgr ((T_kn tJ_8 kI kB) / 2) (zgd tJ_8 j_7 kB)))) 6), zzI cy (rK 7) 8 (T_kn (T_setkn tJ_8 (updM (T_kn tJ_8) j_7 kB (zgr ((T_kn tJ_8 kI kB) / 2) (zgd tJ_8 j_7 kB)))) 7)]) (k := j_7) (g1 := T_kn (T_setkn tJ_8 (updM (T_kn tJ_8) j_7 kB (zgr ((T_kn tJ_8 kI kB) / 2) (zgd tJ_8 j_7 kB)))) j_7) hP hD (sg8 (n0 := 20) (f := (fun j => zzI cy (rK j) 8 (T_kn tJ_8 j))) rfl rfl rfl rfl rfl rfl rfl rfl) (sg8 (n0 := 20) (f := (fun j => zzI cy (rK j) 8 (T_kn (T_setkn tJ_8 (updM (T_kn tJ_8) j_7 kB (zgr ((T_kn tJ_8 kI kB) / 2) (zgd tJ_8 j_7 kB)))) j))) rfl rfl rfl rfl rfl rfl rfl rfl) rfl rfl (by omega) rfl (fun i _ => (congrFun (kn_u tJ_8 j_7 kB (zgr ((T_kn tJ_8 kI kB) / 2) (zgd tJ_8 j_7 kB))) i).symm) (fun j hj => congrArg (zzI cy (rK j) 8) (kn_n tJ_8 j_7 kB (zgr ((T_kn tJ_8 kI kB) / 2) (zgd tJ_8 j_7 kB)) hj))
                  clear hP hD
                  obtain ⟨hP, hD⟩ := hPD
                  refine lv_iinc (v := nI (j_7 + 1)) (lv' := [(5, .int (nI (j_7 + 1))), (4, .int (xC_9 + 1)), (6, .int (zgr ((T_kn tJ_8 kI kB) / 2) (zgd tJ_8 j_7 kB))), (0, .ref qm), (1, .int (nI kI)), (2, .int (nI kB)), (3, .int iS)]) hx hb dX6_readsTo_125 hl (k := 2) rfl (nI_1 _) (by decide +kernel) rfl (fun ls => ?_)
                  clear hl
                  intro hl
                  refine lv_goto (tgt := 12) hx hb dX6_readsTo_128 (by decide +kernel) ?_
                  exact ih_6 (j_7 + 1) (T_setkn tJ_8 (updM (T_kn tJ_8) j_7 kB (zgr ((T_kn tJ_8 kI kB) / 2) (zgd tJ_8 j_7 kB)))) (xC_9 + 1) (by omega) (by omega) (⟨TI_kn hT_11.1 (r_gr (r_half (hT_11.1.2.1 _ _)) (r_gd (hT_11.1.2.1 _) _)), hT_11.2⟩) (rt_lt hE_12 (by rw [rt_h hI hE_12]) (by rw [ls_bit (t := (rdT tA kI kB)) (p := kI) (o := j_7) (s := iS) hI (by omega) (show j_7 < T_np tA by omega), bt_yes c_22, ← (congrFun (rt_gn hE_12) j_7), h_20, decide_eq_true (p := j_7 ≠ kI) (fun q => c_17 (by rw [q]))]; rfl) (Int32.not_le.mp c_27)) _ _ _ hP hD hS (lv_sub hl [0, 1, 3, 4, 5, 6] rfl)
          · refine lv_if_eq (tgt := 125) hx hb dX6_readsTo_33 (by decide +kernel) (fun _ => ?_) (fun h9 => absurd (by decide +kernel) h9)
            refine lv_iinc (v := nI (j_7 + 1)) (lv' := [(5, .int (nI (j_7 + 1))), (4, .int xC_9), (0, .ref qm), (1, .int (nI kI)), (2, .int (nI kB)), (3, .int iS)]) hx hb dX6_readsTo_125 hl (k := 0) rfl (nI_1 _) (by decide +kernel) rfl (fun ls => ?_)
            clear hl
            intro hl
            refine lv_goto (tgt := 12) hx hb dX6_readsTo_128 (by decide +kernel) ?_
            exact ih_6 (j_7 + 1) tJ_8 xC_9 (by omega) (by omega) hT_11 (rt_no hE_12 (by rw [ls_bit (t := (rdT tA kI kB)) (p := kI) (o := j_7) (s := iS) hI (by omega) (show j_7 < T_np tA by omega), ← (congrFun (rt_gn hE_12) j_7), h_20]; simp)) _ _ _ hP hD hS (lv_sub hl [0, 1, 2, 3, 4, 5] rfl)
  exact lp_4 ((8 - 0) + 1) 0 (rdT tA kI kB) 0 (Nat.lt_succ_self _) (Nat.zero_le _) (⟨TI_rd hTI _ _, rfl, rfl⟩) (⟨rfl, rfl⟩) _ _ ls hP hD hS (lv_sub hl [0, 1, 2, 3, 4, 5] rfl)
set_option maxHeartbeats 4000000 in
set_option maxRecDepth 100000 in
theorem x_X6_chain (l : Launch) (G : va_G) (cy : Nat → ClassId) (sz : Nat) (qm : Nat) (v0 : Value) (v1 : Value) (v2 : Value) (v3 : Value) (v4 : Value) (v5 : Value) (v6 : Value) (v7 : Value) (v8 : Value) (v9 : Value) (tA : TA) (qmB : Nat) (qmO : Nat) (qmK : Nat) (iEn : Int32) (iTk : Int32) (v18 : Value) (v19 : Value) (v20 : Value) (v21 : Value) (v22 : Value) (v23 : Value) (v24 : Value) (v25 : Value) (v26 : Value) (iLv : Int32) (iWs : Int32) (v29 : Value) (v30 : Value) (v31 : Value) (v32 : Value) (v33 : Value) (v34 : Value) (rB : Nat → Nat) (rO : Nat → Nat) (rK : Nat → Nat)  (hB : T_nb tA ≤ 8) (hPp : T_np tA ≤ 8) (hTI : TI tA) : MW l yX6_chain cX6_chain 4 none 4 0 0 G cy [zzO qm 5 (v0 :: v1 :: v2 :: v3 :: v4 :: v5 :: v6 :: v7 :: v8 :: v9 :: .int (nI (T_nb tA)) :: .ref qmB :: .int (nI (T_np tA)) :: .ref qmO :: .ref qmK :: .int iEn :: .int iTk :: .int (T_sd tA) :: v18 :: v19 :: v20 :: v21 :: v22 :: v23 :: v24 :: v25 :: v26 :: .int iLv :: .int iWs :: v29 :: v30 :: v31 :: v32 :: v33 :: v34 :: []), zzG cy 3 qmB rB, zzI cy (rB 0) 4 (bkR tA 0), zzI cy (rB 1) 4 (bkR tA 1), zzI cy (rB 2) 4 (bkR tA 2), zzI cy (rB 3) 4 (bkR tA 3), zzI cy (rB 4) 4 (bkR tA 4), zzI cy (rB 5) 4 (bkR tA 5), zzI cy (rB 6) 4 (bkR tA 6), zzI cy (rB 7) 4 (bkR tA 7), zzG cy 3 qmO rO, zzI cy (rO 0) 5 (onR tA 0), zzI cy (rO 1) 5 (onR tA 1), zzI cy (rO 2) 5 (onR tA 2), zzI cy (rO 3) 5 (onR tA 3), zzI cy (rO 4) 5 (onR tA 4), zzI cy (rO 5) 5 (onR tA 5), zzI cy (rO 6) 5 (onR tA 6), zzI cy (rO 7) 5 (onR tA 7), zzG cy 3 qmK rK, zzI cy (rK 0) 8 (T_kn tA 0), zzI cy (rK 1) 8 (T_kn tA 1), zzI cy (rK 2) 8 (T_kn tA 2), zzI cy (rK 3) 8 (T_kn tA 3), zzI cy (rK 4) 8 (T_kn tA 4), zzI cy (rK 5) 8 (T_kn tA 5), zzI cy (rK 6) 8 (T_kn tA 6), zzI cy (rK 7) 8 (T_kn tA 7)] sz [.ref qm] (Wv G (fun u => ∃ (tX : TA), u = [zzO qm 5 (v0 :: v1 :: v2 :: v3 :: v4 :: v5 :: v6 :: v7 :: v8 :: v9 :: .int (nI (T_nb tX)) :: .ref qmB :: .int (nI (T_np tX)) :: .ref qmO :: .ref qmK :: .int iEn :: .int iTk :: .int (T_sd tX) :: v18 :: v19 :: v20 :: v21 :: v22 :: v23 :: v24 :: v25 :: v26 :: .int iLv :: .int iWs :: v29 :: v30 :: v31 :: v32 :: v33 :: v34 :: []), zzG cy 3 qmB rB, zzI cy (rB 0) 4 (bkR tX 0), zzI cy (rB 1) 4 (bkR tX 1), zzI cy (rB 2) 4 (bkR tX 2), zzI cy (rB 3) 4 (bkR tX 3), zzI cy (rB 4) 4 (bkR tX 4), zzI cy (rB 5) 4 (bkR tX 5), zzI cy (rB 6) 4 (bkR tX 6), zzI cy (rB 7) 4 (bkR tX 7), zzG cy 3 qmO rO, zzI cy (rO 0) 5 (onR tX 0), zzI cy (rO 1) 5 (onR tX 1), zzI cy (rO 2) 5 (onR tX 2), zzI cy (rO 3) 5 (onR tX 3), zzI cy (rO 4) 5 (onR tX 4), zzI cy (rO 5) 5 (onR tX 5), zzI cy (rO 6) 5 (onR tX 6), zzI cy (rO 7) 5 (onR tX 7), zzG cy 3 qmK rK, zzI cy (rK 0) 8 (T_kn tX 0), zzI cy (rK 1) 8 (T_kn tX 1), zzI cy (rK 2) 8 (T_kn tX 2), zzI cy (rK 3) 8 (T_kn tX 3), zzI cy (rK 4) 8 (T_kn tX 4), zzI cy (rK 5) 8 (T_kn tX 5), zzI cy (rK 6) 8 (T_kn tX 6), zzI cy (rK 7) 8 (T_kn tX 7)] ∧ (TI tX ∧ T_nb tX = T_nb tA ∧ T_np tX = T_np tA) ∧ (tX = zch tA))) := by
  refine enW RX6 (by decide +kernel) rfl (Nat.le_of_ble_eq_true rfl) (fun p e s m below meth c ls A hx hb hml hown hts hr hlocks hP hN hl hin hD hA hS => ?_)
  have hin : meth.name = _ := hin
  have hK := hN.1
  replace hl : lv_has ls 4 [(0, .ref qm)] := hl
  refine lv_iconst (v := 0) hx hb (g_3 bX6_chain rfl) (by decide +kernel) ?_
  refine lv_istore_n (lv' := [(1, .int 0), (0, .ref qm)]) hx hb (g_60 bX6_chain rfl) rfl hl (by decide +kernel) rfl (fun ls => ?_)
  clear hl
  intro hl
  have lp_1 : ∀ (n_2 : Nat) (j_4 : Nat) (tJ_5 : TA), 8 - j_4 < n_2 → j_4 ≤ T_np tA → TI tJ_5 ∧ T_nb tJ_5 = T_nb tA ∧ T_np tJ_5 = T_np tA → tJ_5 = tcF tA j_4 → ∀ (H : Heap) (locs : List Loc) (ls : Array Slot), va_P G CL [zzO qm 5 (v0 :: v1 :: v2 :: v3 :: v4 :: v5 :: v6 :: v7 :: v8 :: v9 :: .int (nI (T_nb tJ_5)) :: .ref qmB :: .int (nI (T_np tJ_5)) :: .ref qmO :: .ref qmK :: .int iEn :: .int iTk :: .int (T_sd tJ_5) :: v18 :: v19 :: v20 :: v21 :: v22 :: v23 :: v24 :: v25 :: v26 :: .int iLv :: .int iWs :: v29 :: v30 :: v31 :: v32 :: v33 :: v34 :: []), zzG cy 3 qmB rB, zzI cy (rB 0) 4 (bkR tJ_5 0), zzI cy (rB 1) 4 (bkR tJ_5 1), zzI cy (rB 2) 4 (bkR tJ_5 2), zzI cy (rB 3) 4 (bkR tJ_5 3), zzI cy (rB 4) 4 (bkR tJ_5 4), zzI cy (rB 5) 4 (bkR tJ_5 5), zzI cy (rB 6) 4 (bkR tJ_5 6), zzI cy (rB 7) 4 (bkR tJ_5 7), zzG cy 3 qmO rO, zzI cy (rO 0) 5 (onR tJ_5 0), zzI cy (rO 1) 5 (onR tJ_5 1), zzI cy (rO 2) 5 (onR tJ_5 2), zzI cy (rO 3) 5 (onR tJ_5 3), zzI cy (rO 4) 5 (onR tJ_5 4), zzI cy (rO 5) 5 (onR tJ_5 5), zzI cy (rO 6) 5 (onR tJ_5 6), zzI cy (rO 7) 5 (onR tJ_5 7), zzG cy 3 qmK rK, zzI cy (rK 0) 8 (T_kn tJ_5 0), zzI cy (rK 1) 8 (T_kn tJ_5 1), zzI cy (rK 2) 8 (T_kn tJ_5 2), zzI cy (rK 3) 8 (T_kn tJ_5 3), zzI cy (rK 4) 8 (T_kn tJ_5 4), zzI cy (rK 5) 8 (T_kn tJ_5 5), zzI cy (rK 6) 8 (T_kn tJ_5 6), zzI cy (rK 7) 8 (T_kn tJ_5 7)] H → va_D A [zzO qm 5 (v0 :: v1 :: v2 :: v3 :: v4 :: v5 :: v6 :: v7 :: v8 :: v9 :: .int (nI (T_nb tJ_5)) :: .ref qmB :: .int (nI (T_np tJ_5)) :: .ref qmO :: .ref qmK :: .int iEn :: .int iTk :: .int (T_sd tJ_5) :: v18 :: v19 :: v20 :: v21 :: v22 :: v23 :: v24 :: v25 :: v26 :: .int iLv :: .int iWs :: v29 :: v30 :: v31 :: v32 :: v33 :: v34 :: []), zzG cy 3 qmB rB, zzI cy (rB 0) 4 (bkR tJ_5 0), zzI cy (rB 1) 4 (bkR tJ_5 1), zzI cy (rB 2) 4 (bkR tJ_5 2), zzI cy (rB 3) 4 (bkR tJ_5 3), zzI cy (rB 4) 4 (bkR tJ_5 4), zzI cy (rB 5) 4 (bkR tJ_5 5), zzI cy (rB 6) 4 (bkR tJ_5 6), zzI cy (rB 7) 4 (bkR tJ_5 7), zzG cy 3 qmO rO, zzI cy (rO 0) 5 (onR tJ_5 0), zzI cy (rO 1) 5 (onR tJ_5 1), zzI cy (rO 2) 5 (onR tJ_5 2), zzI cy (rO 3) 5 (onR tJ_5 3), zzI cy (rO 4) 5 (onR tJ_5 4), zzI cy (rO 5) 5 (onR tJ_5 5), zzI cy (rO 6) 5 (onR tJ_5 6), zzI cy (rO 7) 5 (onR tJ_5 7), zzG cy 3 qmK rK, zzI cy (rK 0) 8 (T_kn tJ_5 0), zzI cy (rK 1) 8 (T_kn tJ_5 1), zzI cy (rK 2) 8 (T_kn tJ_5 2), zzI cy (rK 3) 8 (T_kn tJ_5 3), zzI cy (rK 4) 8 (T_kn tJ_5 4), zzI cy (rK 5) 8 (T_kn tJ_5 5), zzI cy (rK 6) 8 (T_kn tJ_5 6), zzI cy (rK 7) 8 (T_kn tJ_5 7)] → va_S A s.heap H locs → lv_has ls 4 [(1, .int (nI j_4)), (0, .ref qm)] → W p l e (Rm 4 0 0) s m (List.toArray (α := Value) [.ref qm]) below meth c H locs 0 0 (MQ below ((Wv G (fun u => ∃ (tX : TA), u = [zzO qm 5 (v0 :: v1 :: v2 :: v3 :: v4 :: v5 :: v6 :: v7 :: v8 :: v9 :: .int (nI (T_nb tX)) :: .ref qmB :: .int (nI (T_np tX)) :: .ref qmO :: .ref qmK :: .int iEn :: .int iTk :: .int (T_sd tX) :: v18 :: v19 :: v20 :: v21 :: v22 :: v23 :: v24 :: v25 :: v26 :: .int iLv :: .int iWs :: v29 :: v30 :: v31 :: v32 :: v33 :: v34 :: []), zzG cy 3 qmB rB, zzI cy (rB 0) 4 (bkR tX 0), zzI cy (rB 1) 4 (bkR tX 1), zzI cy (rB 2) 4 (bkR tX 2), zzI cy (rB 3) 4 (bkR tX 3), zzI cy (rB 4) 4 (bkR tX 4), zzI cy (rB 5) 4 (bkR tX 5), zzI cy (rB 6) 4 (bkR tX 6), zzI cy (rB 7) 4 (bkR tX 7), zzG cy 3 qmO rO, zzI cy (rO 0) 5 (onR tX 0), zzI cy (rO 1) 5 (onR tX 1), zzI cy (rO 2) 5 (onR tX 2), zzI cy (rO 3) 5 (onR tX 3), zzI cy (rO 4) 5 (onR tX 4), zzI cy (rO 5) 5 (onR tX 5), zzI cy (rO 6) 5 (onR tX 6), zzI cy (rO 7) 5 (onR tX 7), zzG cy 3 qmK rK, zzI cy (rK 0) 8 (T_kn tX 0), zzI cy (rK 1) 8 (T_kn tX 1), zzI cy (rK 2) 8 (T_kn tX 2), zzI cy (rK 3) 8 (T_kn tX 3), zzI cy (rK 4) 8 (T_kn tX 4), zzI cy (rK 5) 8 (T_kn tX 5), zzI cy (rK 6) 8 (T_kn tX 6), zzI cy (rK 7) 8 (T_kn tX 7)] ∧ (TI tX ∧ T_nb tX = T_nb tA ∧ T_np tX = T_np tA) ∧ (tX = zch tA))) A) (List.toArray (α := Value) [.ref qm]) s 0 0 A) (F0 m 2 ls []) := by
    intro n_2
    induction n_2 with
    | zero => intro j_4 tJ_5 hm9; exact absurd hm9 (Nat.not_lt_zero _)
    | succ n_2 ih_3 =>
      intro j_4 tJ_5 hm_9 hj_6 hT_7 hE_8 H locs ls hP hD hS hl
      refine lv_iload_n hx hb (g_27 bX6_chain rfl) rfl (lv_at hl 0 rfl) ?_
      refine lv_aload_n hx hb (g_42 bX6_chain rfl) rfl (lv_at hl 1 rfl) ?_
      refine va_get (D := G) (ci := 5) (v := .int (nI (T_np tJ_5))) (C := RX6) (T := TX6) (N := 35) hx hb hts iX_X6 hown hK hP 0 rfl rfl 12 (by decide +kernel) (hts _ m_t862) (fun _ h9 => h9) rfl (g_180 (v := 78) bX6_chain rfl) ?_
      refine lv_icmp_ge (tgt := 73) hx hb dX6_chain_7 (by decide +kernel) (fun c_10 => ?_) (fun c_10 => ?_)
      · have hlt_11e : T_np tJ_5 = T_np tA := hT_7.2.2
        have hlt_11 : j_4 = T_np tA := Nat.le_antisymm (by omega) (by rw [hlt_11e] at c_10; exact lp_ge rfl rfl (by omega) (by omega) c_10)
        obtain ⟨hlt_11i, hlt_11b, hlt_11p⟩ := id hT_7
        exact endV (u := [zzO qm 5 (v0 :: v1 :: v2 :: v3 :: v4 :: v5 :: v6 :: v7 :: v8 :: v9 :: .int (nI (T_nb tJ_5)) :: .ref qmB :: .int (nI (T_np tJ_5)) :: .ref qmO :: .ref qmK :: .int iEn :: .int iTk :: .int (T_sd tJ_5) :: v18 :: v19 :: v20 :: v21 :: v22 :: v23 :: v24 :: v25 :: v26 :: .int iLv :: .int iWs :: v29 :: v30 :: v31 :: v32 :: v33 :: v34 :: []), zzG cy 3 qmB rB, zzI cy (rB 0) 4 (bkR tJ_5 0), zzI cy (rB 1) 4 (bkR tJ_5 1), zzI cy (rB 2) 4 (bkR tJ_5 2), zzI cy (rB 3) 4 (bkR tJ_5 3), zzI cy (rB 4) 4 (bkR tJ_5 4), zzI cy (rB 5) 4 (bkR tJ_5 5), zzI cy (rB 6) 4 (bkR tJ_5 6), zzI cy (rB 7) 4 (bkR tJ_5 7), zzG cy 3 qmO rO, zzI cy (rO 0) 5 (onR tJ_5 0), zzI cy (rO 1) 5 (onR tJ_5 1), zzI cy (rO 2) 5 (onR tJ_5 2), zzI cy (rO 3) 5 (onR tJ_5 3), zzI cy (rO 4) 5 (onR tJ_5 4), zzI cy (rO 5) 5 (onR tJ_5 5), zzI cy (rO 6) 5 (onR tJ_5 6), zzI cy (rO 7) 5 (onR tJ_5 7), zzG cy 3 qmK rK, zzI cy (rK 0) 8 (T_kn tJ_5 0), zzI cy (rK 1) 8 (T_kn tJ_5 1), zzI cy (rK 2) 8 (T_kn tJ_5 2), zzI cy (rK 3) 8 (T_kn tJ_5 3), zzI cy (rK 4) 8 (T_kn tJ_5 4), zzI cy (rK 5) 8 (T_kn tJ_5 5), zzI cy (rK 6) 8 (T_kn tJ_5 6), zzI cy (rK 7) 8 (T_kn tJ_5 7)]) hx hb hr hlocks (pSb hP [[true, true, true, true, true, true, true, true, true, true, true, true, true, true, true, true, true, true, true, true, true, true, true, true, true, true, true, true]] rfl rfl) (dSb hD [[true, true, true, true, true, true, true, true, true, true, true, true, true, true, true, true, true, true, true, true, true, true, true, true, true, true, true, true]] (by decide +kernel) rfl rfl) hS ⟨tJ_5, rfl, hT_7, (by have h9 := hE_8; rw [hlt_11] at h9; exact h9)⟩ (g_177 bX6_chain rfl)
      · have hlt_12e : T_np tJ_5 = T_np tA := hT_7.2.2
        have hlt_12 : j_4 < T_np tA := by rw [hlt_12e] at c_10; exact lp_lt rfl rfl (by omega) (by omega) c_10
        obtain ⟨hlt_12i, hlt_12b, hlt_12p⟩ := id hT_7
        refine lv_aload_n hx hb (g_42 bX6_chain rfl) rfl (lv_at hl 1 rfl) ?_
        refine lv_iload_n hx hb (g_27 bX6_chain rfl) rfl (lv_at hl 0 rfl) ?_
        refine kRi (rV (As := [.int (nI j_4)]) (rest := []) (b := qm) ⟨hx, hb, hml, hown, hts⟩ (c_X6_isThere l G cy qm v0 v1 v2 v3 v4 v5 v6 v7 v8 v9 tJ_5 qmB qmO qmK iEn iTk v18 v19 v20 v21 v22 v23 v24 v25 v26 iLv iWs v29 v30 v31 v32 v33 v34 rO j_4 (by omega)) L_X6_81 (preRV (q := (RX6, TX6, 35)) hN hP (trueIx 0 [true, false, false, false, false, false, false, false, false, false, true, true, true, true, true, true, true, true, true]) (sel_fm rfl rfl) 0 5 rfl rfl) rfl ⟨Nat.le_of_ble_eq_true rfl, Nat.le_of_ble_eq_true rfl⟩ hl.1 (Nat.le_of_ble_eq_true rfl) (g_182 (v := 81) bX6_chain rfl) ⟨Nat.le_of_ble_eq_true rfl, Nat.le_of_ble_eq_true rfl⟩) (fun r_13 h_14 => ?_)
        rcases h_14 with ⟨rfl, h_15⟩ | ⟨rfl, h_15⟩
        · refine lv_if_eq (tgt := 26) hx hb dX6_chain_15 (by decide +kernel) (fun h9 => absurd h9 (by decide +kernel)) (fun _ => ?_)
          refine lv_aload_n hx hb (g_42 bX6_chain rfl) rfl (lv_at hl 1 rfl) ?_
          refine lv_iload_n hx hb (g_27 bX6_chain rfl) rfl (lv_at hl 0 rfl) ?_
          refine kRi (rV (As := [.int (nI j_4)]) (rest := []) (b := qm) ⟨hx, hb, hml, hown, hts⟩ (c_X6_youngestBut l G cy qm v0 v1 v2 v3 v4 v5 v6 v7 v8 v9 tJ_5 qmB qmO qmK iEn iTk v18 v19 v20 v21 v22 v23 v24 v25 v26 iLv iWs v29 v30 v31 v32 v33 v34 rO (nI j_4) (by omega)) L_X6_269 (preRV (q := (RX6, TX6, 35)) hN hP (trueIx 0 [true, false, false, false, false, false, false, false, false, false, true, true, true, true, true, true, true, true, true]) (sel_fm rfl rfl) 0 5 rfl rfl) rfl ⟨Nat.le_of_ble_eq_true rfl, Nat.le_of_ble_eq_true rfl⟩ hl.1 (Nat.le_of_ble_eq_true rfl) (g_182 (v := 269) bX6_chain rfl) ⟨Nat.le_of_ble_eq_true rfl, Nat.le_of_ble_eq_true rfl⟩) (fun r_17 h_18 => ?_)
          subst h_18
          refine lv_goto (tgt := 27) hx hb dX6_chain_23 (by decide +kernel) ?_
          refine lv_istore_n (lv' := [(2, .int (zyb tJ_5 (nI j_4))), (1, .int (nI j_4)), (0, .ref qm)]) hx hb (g_61 bX6_chain rfl) rfl hl (by decide +kernel) rfl (fun ls => ?_)
          clear hl
          intro hl
          refine lv_iconst (v := 0) hx hb (g_3 bX6_chain rfl) (by decide +kernel) ?_
          refine lv_istore_n (lv' := [(3, .int 0), (2, .int (zyb tJ_5 (nI j_4))), (1, .int (nI j_4)), (0, .ref qm)]) hx hb (g_62 bX6_chain rfl) rfl hl (by decide +kernel) rfl (fun ls => ?_)
          clear hl
          intro hl
          rcases yb_in tJ_5 (nI j_4) (T_np tJ_5) with ek_21 | ⟨k_19, hk_20, ek_21⟩
          · have ek_21 : zyb tJ_5 (nI j_4) = -1 := ek_21
            rw [ek_21] at hl
            refine lv_iload_n hx hb (g_29 bX6_chain rfl) rfl (lv_at hl 0 rfl) ?_
            refine lv_aload_n hx hb (g_42 bX6_chain rfl) rfl (lv_at hl 3 rfl) ?_
            refine va_get (D := G) (ci := 5) (v := .int (nI (T_nb tJ_5))) (C := RX6) (T := TX6) (N := 35) hx hb hts iX_X6 hown hK hP 0 rfl rfl 10 (by decide +kernel) (hts _ m_t860) (fun _ h9 => h9) rfl (g_180 (v := 71) bX6_chain rfl) ?_
            refine lv_icmp_ge (tgt := 67) hx hb dX6_chain_35 (by decide +kernel) (fun c_22 => ?_) (fun c_22 => ?_)
            · refine lv_iinc (v := nI (j_4 + 1)) (lv' := [(1, .int (nI (j_4 + 1))), (3, .int 0), (2, .int (-1)), (0, .ref qm)]) hx hb dX6_chain_67 hl (k := 2) rfl (nI_1 _) (by decide +kernel) rfl (fun ls => ?_)
              clear hl
              intro hl
              refine lv_goto (tgt := 2) hx hb dX6_chain_70 (by decide +kernel) ?_
              exact ih_3 (j_4 + 1) tJ_5 (by omega) (by omega) hT_7 (tc_none hE_8 h_15 ek_21) _ _ _ hP hD hS (lv_sub hl [0, 3] rfl)
            · refine lv_iload_n hx hb (g_28 bX6_chain rfl) rfl (lv_at hl 1 rfl) ?_
              refine lv_iconst (v := (-1)) hx hb (g_2 bX6_chain rfl) (by decide +kernel) ?_
              refine lv_icmp_eq (tgt := 67) hx hb dX6_chain_40 (by decide +kernel) (fun _ => ?_) (fun h9 => absurd (by decide +kernel) h9)
              refine lv_iinc (v := nI (j_4 + 1)) (lv' := [(1, .int (nI (j_4 + 1))), (3, .int 0), (2, .int (-1)), (0, .ref qm)]) hx hb dX6_chain_67 hl (k := 2) rfl (nI_1 _) (by decide +kernel) rfl (fun ls => ?_)
              clear hl
              intro hl
              refine lv_goto (tgt := 2) hx hb dX6_chain_70 (by decide +kernel) ?_
              exact ih_3 (j_4 + 1) tJ_5 (by omega) (by omega) hT_7 (tc_none hE_8 h_15 ek_21) _ _ _ hP hD hS (lv_sub hl [0, 3] rfl)
          · have ek_21 : zyb tJ_5 (nI j_4) = nI k_19 := ek_21
            rw [ek_21] at hl
            have lp_24 : ∀ (n_25 : Nat) (m_27 : Nat) (tK_28 : TA), 8 - m_27 < n_25 → m_27 ≤ T_nb tA → TI tK_28 ∧ T_nb tK_28 = T_nb tA ∧ T_np tK_28 = T_np tA → tK_28 = tcI tJ_5 j_4 k_19 m_27 → ∀ (H : Heap) (locs : List Loc) (ls : Array Slot), va_P G CL [zzO qm 5 (v0 :: v1 :: v2 :: v3 :: v4 :: v5 :: v6 :: v7 :: v8 :: v9 :: .int (nI (T_nb tK_28)) :: .ref qmB :: .int (nI (T_np tK_28)) :: .ref qmO :: .ref qmK :: .int iEn :: .int iTk :: .int (T_sd tK_28) :: v18 :: v19 :: v20 :: v21 :: v22 :: v23 :: v24 :: v25 :: v26 :: .int iLv :: .int iWs :: v29 :: v30 :: v31 :: v32 :: v33 :: v34 :: []), zzG cy 3 qmB rB, zzI cy (rB 0) 4 (bkR tK_28 0), zzI cy (rB 1) 4 (bkR tK_28 1), zzI cy (rB 2) 4 (bkR tK_28 2), zzI cy (rB 3) 4 (bkR tK_28 3), zzI cy (rB 4) 4 (bkR tK_28 4), zzI cy (rB 5) 4 (bkR tK_28 5), zzI cy (rB 6) 4 (bkR tK_28 6), zzI cy (rB 7) 4 (bkR tK_28 7), zzG cy 3 qmO rO, zzI cy (rO 0) 5 (onR tK_28 0), zzI cy (rO 1) 5 (onR tK_28 1), zzI cy (rO 2) 5 (onR tK_28 2), zzI cy (rO 3) 5 (onR tK_28 3), zzI cy (rO 4) 5 (onR tK_28 4), zzI cy (rO 5) 5 (onR tK_28 5), zzI cy (rO 6) 5 (onR tK_28 6), zzI cy (rO 7) 5 (onR tK_28 7), zzG cy 3 qmK rK, zzI cy (rK 0) 8 (T_kn tK_28 0), zzI cy (rK 1) 8 (T_kn tK_28 1), zzI cy (rK 2) 8 (T_kn tK_28 2), zzI cy (rK 3) 8 (T_kn tK_28 3), zzI cy (rK 4) 8 (T_kn tK_28 4), zzI cy (rK 5) 8 (T_kn tK_28 5), zzI cy (rK 6) 8 (T_kn tK_28 6), zzI cy (rK 7) 8 (T_kn tK_28 7)] H → va_D A [zzO qm 5 (v0 :: v1 :: v2 :: v3 :: v4 :: v5 :: v6 :: v7 :: v8 :: v9 :: .int (nI (T_nb tK_28)) :: .ref qmB :: .int (nI (T_np tK_28)) :: .ref qmO :: .ref qmK :: .int iEn :: .int iTk :: .int (T_sd tK_28) :: v18 :: v19 :: v20 :: v21 :: v22 :: v23 :: v24 :: v25 :: v26 :: .int iLv :: .int iWs :: v29 :: v30 :: v31 :: v32 :: v33 :: v34 :: []), zzG cy 3 qmB rB, zzI cy (rB 0) 4 (bkR tK_28 0), zzI cy (rB 1) 4 (bkR tK_28 1), zzI cy (rB 2) 4 (bkR tK_28 2), zzI cy (rB 3) 4 (bkR tK_28 3), zzI cy (rB 4) 4 (bkR tK_28 4), zzI cy (rB 5) 4 (bkR tK_28 5), zzI cy (rB 6) 4 (bkR tK_28 6), zzI cy (rB 7) 4 (bkR tK_28 7), zzG cy 3 qmO rO, zzI cy (rO 0) 5 (onR tK_28 0), zzI cy (rO 1) 5 (onR tK_28 1), zzI cy (rO 2) 5 (onR tK_28 2), zzI cy (rO 3) 5 (onR tK_28 3), zzI cy (rO 4) 5 (onR tK_28 4), zzI cy (rO 5) 5 (onR tK_28 5), zzI cy (rO 6) 5 (onR tK_28 6), zzI cy (rO 7) 5 (onR tK_28 7), zzG cy 3 qmK rK, zzI cy (rK 0) 8 (T_kn tK_28 0), zzI cy (rK 1) 8 (T_kn tK_28 1), zzI cy (rK 2) 8 (T_kn tK_28 2), zzI cy (rK 3) 8 (T_kn tK_28 3), zzI cy (rK 4) 8 (T_kn tK_28 4), zzI cy (rK 5) 8 (T_kn tK_28 5), zzI cy (rK 6) 8 (T_kn tK_28 6), zzI cy (rK 7) 8 (T_kn tK_28 7)] → va_S A s.heap H locs → lv_has ls 4 [(3, .int (nI m_27)), (2, .int (nI k_19)), (1, .int (nI j_4)), (0, .ref qm)] → W p l e (Rm 4 0 0) s m (List.toArray (α := Value) [.ref qm]) below meth c H locs 0 0 (MQ below ((Wv G (fun u => ∃ (tX : TA), u = [zzO qm 5 (v0 :: v1 :: v2 :: v3 :: v4 :: v5 :: v6 :: v7 :: v8 :: v9 :: .int (nI (T_nb tX)) :: .ref qmB :: .int (nI (T_np tX)) :: .ref qmO :: .ref qmK :: .int iEn :: .int iTk :: .int (T_sd tX) :: v18 :: v19 :: v20 :: v21 :: v22 :: v23 :: v24 :: v25 :: v26 :: .int iLv :: .int iWs :: v29 :: v30 :: v31 :: v32 :: v33 :: v34 :: []), zzG cy 3 qmB rB, zzI cy (rB 0) 4 (bkR tX 0), zzI cy (rB 1) 4 (bkR tX 1), zzI cy (rB 2) 4 (bkR tX 2), zzI cy (rB 3) 4 (bkR tX 3), zzI cy (rB 4) 4 (bkR tX 4), zzI cy (rB 5) 4 (bkR tX 5), zzI cy (rB 6) 4 (bkR tX 6), zzI cy (rB 7) 4 (bkR tX 7), zzG cy 3 qmO rO, zzI cy (rO 0) 5 (onR tX 0), zzI cy (rO 1) 5 (onR tX 1), zzI cy (rO 2) 5 (onR tX 2), zzI cy (rO 3) 5 (onR tX 3), zzI cy (rO 4) 5 (onR tX 4), zzI cy (rO 5) 5 (onR tX 5), zzI cy (rO 6) 5 (onR tX 6), zzI cy (rO 7) 5 (onR tX 7), zzG cy 3 qmK rK, zzI cy (rK 0) 8 (T_kn tX 0), zzI cy (rK 1) 8 (T_kn tX 1), zzI cy (rK 2) 8 (T_kn tX 2), zzI cy (rK 3) 8 (T_kn tX 3), zzI cy (rK 4) 8 (T_kn tX 4), zzI cy (rK 5) 8 (T_kn tX 5), zzI cy (rK 6) 8 (T_kn tX 6), zzI cy (rK 7) 8 (T_kn tX 7)] ∧ (TI tX ∧ T_nb tX = T_nb tA ∧ T_np tX = T_np tA) ∧ (tX = zch tA))) A) (List.toArray (α := Value) [.ref qm]) s 0 0 A) (F0 m 30 ls []) := by
              intro n_25
              induction n_25 with
              | zero => intro m_27 tK_28 hm9; exact absurd hm9 (Nat.not_lt_zero _)
              | succ n_25 ih_26 =>
                intro m_27 tK_28 hm_32 hm_32 hTK_30 hEK_31 H locs ls hP hD hS hl
                refine lv_iload_n hx hb (g_29 bX6_chain rfl) rfl (lv_at hl 0 rfl) ?_
                refine lv_aload_n hx hb (g_42 bX6_chain rfl) rfl (lv_at hl 3 rfl) ?_
                refine va_get (D := G) (ci := 5) (v := .int (nI (T_nb tK_28))) (C := RX6) (T := TX6) (N := 35) hx hb hts iX_X6 hown hK hP 0 rfl rfl 10 (by decide +kernel) (hts _ m_t860) (fun _ h9 => h9) rfl (g_180 (v := 71) bX6_chain rfl) ?_
                refine lv_icmp_ge (tgt := 67) hx hb dX6_chain_35 (by decide +kernel) (fun c_33 => ?_) (fun c_33 => ?_)
                · have hlt_34e : T_nb tK_28 = T_nb tA := hTK_30.2.1
                  have hlt_34 : m_27 = T_nb tA := Nat.le_antisymm (by omega) (by rw [hlt_34e] at c_33; exact lp_ge rfl rfl (by omega) (by omega) c_33)
                  refine lv_iinc (v := nI (j_4 + 1)) (lv' := [(1, .int (nI (j_4 + 1))), (3, .int (nI m_27)), (2, .int (nI k_19)), (0, .ref qm)]) hx hb dX6_chain_67 hl (k := 2) rfl (nI_1 _) (by decide +kernel) rfl (fun ls => ?_)
                  clear hl
                  intro hl
                  refine lv_goto (tgt := 2) hx hb dX6_chain_70 (by decide +kernel) ?_
                  exact ih_3 (j_4 + 1) tK_28 (by omega) (by omega) hTK_30 (tc_go hE_8 h_15 ek_21 (by rw [hEK_31, hlt_34, hT_7.2.1])) _ _ _ hP hD hS (lv_sub hl [0, 3] rfl)
                · have hlt_35e : T_nb tK_28 = T_nb tA := hTK_30.2.1
                  have hlt_35 : m_27 < T_nb tA := by rw [hlt_35e] at c_33; exact lp_lt rfl rfl (by omega) (by omega) c_33
                  refine lv_iload_n hx hb (g_28 bX6_chain rfl) rfl (lv_at hl 1 rfl) ?_
                  refine lv_iconst (v := (-1)) hx hb (g_2 bX6_chain rfl) (by decide +kernel) ?_
                  refine lv_icmp_eq (tgt := 67) hx hb dX6_chain_40 (by decide +kernel) (fun c_36 => ?_) (fun c_36 => ?_)
                  · exact absurd c_36 (nI_ne1 (by omega))
                  · refine lv_aload_n hx hb (g_42 bX6_chain rfl) rfl (lv_at hl 3 rfl) ?_
                    refine va_get (D := G) (ci := 5) (v := .ref qmK) (C := RX6) (T := TX6) (N := 35) hx hb hts iX_X6 hown hK hP 0 rfl rfl 14 (by decide +kernel) (hts _ m_t864) (fun _ h9 => h9) rfl (g_180 (v := 48) bX6_chain rfl) ?_
                    refine lv_iload_n hx hb (g_28 bX6_chain rfl) rfl (lv_at hl 1 rfl) ?_
                    refine va_alda hx hb hK hP 19 3 rfl rfl (in8 (by omega)) (g_50 bX6_chain rfl) ?_
                    refine lv_setv (v := .ref (rK k_19)) (g_ref (by omega)) ?_
                    refine lv_iload_n hx hb (g_29 bX6_chain rfl) rfl (lv_at hl 0 rfl) ?_
                    refine lv_dup2_11 hx hb (g_92 bX6_chain rfl) rfl rfl ?_
                    refine va_iald hx hb hK hP (20 + k_19) 0 (sg8 (n0 := 20) (f := (fun j => zzI cy (rK j) 8 (T_kn tK_28 j))) rfl rfl rfl rfl rfl rfl rfl rfl k_19 (by omega)) rfl (vp_in_nI (by omega) (by omega)) (g_46 bX6_chain rfl) ?_
                    refine lv_seti (v := T_kn tK_28 k_19 m_27) (congrArg (T_kn tK_28 k_19) (nI_clamp (by omega))) ?_
                    refine lv_aload_n hx hb (g_42 bX6_chain rfl) rfl (lv_at hl 3 rfl) ?_
                    refine lv_iload_n hx hb (g_27 bX6_chain rfl) rfl (lv_at hl 2 rfl) ?_
                    refine lv_iload_n hx hb (g_28 bX6_chain rfl) rfl (lv_at hl 1 rfl) ?_
                    refine lv_iload_n hx hb (g_29 bX6_chain rfl) rfl (lv_at hl 0 rfl) ?_
                    refine kRi (rV (As := [.int (nI j_4), .int (nI k_19), .int (nI m_27)]) (rest := [.int (T_kn tK_28 k_19 m_27), .int (nI m_27), .ref (rK k_19)]) (b := qm) ⟨hx, hb, hml, hown, hts⟩ (c_X6_moreBy l G cy qm v0 v1 v2 v3 v4 v5 v6 v7 v8 v9 tK_28 qmB qmO qmK iEn iTk v18 v19 v20 v21 v22 v23 v24 v25 v26 iLv iWs v29 v30 v31 v32 v33 v34 rB rO rK j_4 k_19 m_27 (by omega) (by omega) (by omega) hTK_30.1) L_X6_263 (preRV (q := (RX6, TX6, 35)) hN hP (trueIx 0 [true, true, true, true, true, true, true, true, true, true, true, true, true, true, true, true, true, true, true, true, true, true, true, true, true, true, true, true]) (sel_fm rfl rfl) 0 5 rfl rfl) rfl ⟨Nat.le_of_ble_eq_true rfl, Nat.le_of_ble_eq_true rfl⟩ hl.1 (Nat.le_of_ble_eq_true rfl) (g_182 (v := 263) bX6_chain rfl) ⟨Nat.le_of_ble_eq_true rfl, Nat.le_of_ble_eq_true rfl⟩) (fun r_37 h_38 => ?_)
                    subst h_38
                    refine lv_iadd hx hb (g_96 bX6_chain rfl) ?_
                    refine va_iast hx hb hK hP hD hS (20 + k_19) 0 ((sg8 (n0 := 20) (f := (fun j => zzI cy (rK j) 8 (T_kn tK_28 j))) rfl rfl rfl rfl rfl rfl rfl rfl) k_19 (by omega)) rfl (vp_in_nI (by omega) (by omega)) (g_79 bX6_chain rfl) (fun H locs => ?_)
                    clear hP hD hS
                    intro hP hD hS
                    rw [nI_clamp (n := m_27) (by omega)] at hP hD
                    have hPD := st8PD (ws' := [zzO qm 5 (v0 :: v1 :: v2 :: v3 :: v4 :: v5 :: v6 :: v7 :: v8 :: v9 :: .int (nI (T_nb (T_setkn tK_28 (updM (T_kn tK_28) k_19 m_27 ((T_kn tK_28 k_19 m_27) + (zgt tK_28 j_4 k_19 m_27)))))) :: .ref qmB :: .int (nI (T_np (T_setkn tK_28 (updM (T_kn tK_28) k_19 m_27 ((T_kn tK_28 k_19 m_27) + (zgt tK_28 j_4 k_19 m_27)))))) :: .ref qmO :: .ref qmK :: .int iEn :: .int iTk :: .int (T_sd (T_setkn tK_28 (updM (T_kn tK_28) k_19 m_27 ((T_kn tK_28 k_19 m_27) + (zgt tK_28 j_4 k_19 m_27))))) :: v18 :: v19 :: v20 :: v21 :: v22 :: v23 :: v24 :: v25 :: v26 :: .int iLv :: .int iWs :: v29 :: v30 :: v31 :: v32 :: v33 :: v34 :: []), zzG cy 3 qmB rB, zzI cy (rB 0) 4 (bkR (T_setkn tK_28 (updM (T_kn tK_28) k_19 m_27 ((T_kn tK_28 k_19 m_27) + (zgt tK_28 j_4 k_19 m_27)))) 0), zzI cy (rB 1) 4 (bkR (T_setkn tK_28 (updM (T_kn tK_28) k_19 m_27 ((T_kn tK_28 k_19 m_27) + (zgt tK_28 j_4 k_19 m_27)))) 1), zzI cy (rB 2) 4 (bkR (T_setkn tK_28 (updM (T_kn tK_28) k_19 m_27 ((T_kn tK_28 k_19 m_27) + (zgt tK_28 j_4 k_19 m_27)))) 2), zzI cy (rB 3) 4 (bkR (T_setkn tK_28 (updM (T_kn tK_28) k_19 m_27 ((T_kn tK_28 k_19 m_27) + (zgt tK_28 j_4 k_19 m_27)))) 3), zzI cy (rB 4) 4 (bkR (T_setkn tK_28 (updM (T_kn tK_28) k_19 m_27 ((T_kn tK_28 k_19 m_27) + (zgt tK_28 j_4 k_19 m_27)))) 4), zzI cy (rB 5) 4 (bkR (T_setkn tK_28 (updM (T_kn tK_28) k_19 m_27 ((T_kn tK_28 k_19 m_27) + (zgt tK_28 j_4 k_19 m_27)))) 5), zzI cy (rB 6) 4 (bkR (T_setkn tK_28 (updM (T_kn tK_28) k_19 m_27 ((T_kn tK_28 k_19 m_27) + (zgt tK_28 j_4 k_19 m_27)))) 6), zzI cy (rB 7) 4 (bkR (T_setkn tK_28 (updM (T_kn tK_28) k_19 m_27 ((T_kn tK_28 k_19 m_27) + (zgt tK_28 j_4 k_19 m_27)))) 7), zzG cy 3 qmO rO, zzI cy (rO 0) 5 (onR (T_setkn tK_28 (updM (T_kn tK_28) k_19 m_27 ((T_kn tK_28 k_19 m_27) + (zgt tK_28 j_4 k_19 m_27)))) 0), zzI cy (rO 1) 5 (onR (T_setkn tK_28 (updM (T_kn tK_28) k_19 m_27 ((T_kn tK_28 k_19 m_27) + (zgt tK_28 j_4 k_19 m_27)))) 1), zzI cy (rO 2) 5 (onR (T_setkn tK_28 (updM (T_kn tK_28) k_19 m_27 ((T_kn tK_28 k_19 m_27) + (zgt tK_28 j_4 k_19 m_27)))) 2), zzI cy (rO 3) 5 (onR (T_setkn tK_28 (updM (T_kn tK_28) k_19 m_27 ((T_kn tK_28 k_19 m_27) + (zgt tK_28 j_4 k_19 m_27)))) 3), zzI cy (rO 4) 5 (onR (T_setkn tK_28 (updM (T_kn tK_28) k_19 m_27 ((T_kn tK_28 k_19 m_27) + (zgt tK_28 j_4 k_19 m_27)))) 4), zzI cy (rO 5) 5 (onR (T_setkn tK_28 (updM (T_kn tK_28) k_19 m_27 ((T_kn tK_28 k_19 m_27) + (zgt tK_28 j_4 k_19 m_27)))) 5), zzI cy (rO 6) 5 (onR (T_setkn tK_28 (updM (T_kn tK_28) k_19 m_27 ((T_kn tK_28 k_19 m_27) + (zgt tK_28 j_4 k_19 m_27)))) 6), zzI cy (rO 7) 5 (onR (T_setkn tK_28 (updM (T_kn tK_28) k_19 m_27 ((T_kn tK_28 k_19 m_27) + (zgt tK_28 j_4 k_19 m_27)))) 7), zzG cy 3 qmK rK, zzI cy (rK 0) 8 (T_kn (T_setkn tK_28 (updM (T_kn tK_28) k_19 m_27 ((T_kn tK_28 k_19 m_27) + (zgt tK_28 j_4 k_19 m_27)))) 0), zzI cy (rK 1) 8 (T_kn (T_setkn tK_28 (updM (T_kn tK_28) k_19 m_27 ((T_kn tK_28 k_19 m_27) + (zgt tK_28 j_4 k_19 m_27)))) 1), zzI cy (rK 2) 8 (T_kn (T_setkn tK_28 (updM (T_kn tK_28) k_19 m_27 ((T_kn tK_28 k_19 m_27) + (zgt tK_28 j_4 k_19 m_27)))) 2), zzI cy (rK 3) 8 (T_kn (T_setkn tK_28 (updM (T_kn tK_28) k_19 m_27 ((T_kn tK_28 k_19 m_27) + (zgt tK_28 j_4 k_19 m_27)))) 3), zzI cy (rK 4) 8 (T_kn (T_setkn tK_28 (updM (T_kn tK_28) k_19 m_27 ((T_kn tK_28 k_19 m_27) + (zgt tK_28 j_4 k_19 m_27)))) 4), zzI cy (rK 5) 8 (T_kn (T_setkn tK_28 (updM (T_kn tK_28) k_19 m_27 ((T_kn tK_28 k_19 m_27) + (zgt tK_28 j_4 k_19 m_27)))) 5), zzI cy (rK 6) 8 (T_kn (T_setkn tK_28 (updM (T_kn tK_28) k_19 m_27 ((T_kn tK_28 k_19 m_27) + (zgt tK_28 j_4 k_19 m_27)))) 6), zzI cy (rK 7) 8 (T_kn (T_setkn tK_28 (updM (T_kn tK_28) k_19 m_27 ((T_kn tK_28 k_19 m_27) + (zgt tK_28 j_4 k_19 m_27)))) 7)]) (k := k_19) (g1 := T_kn (T_setkn tK_28 (updM (T_kn tK_28) k_19 m_27 ((T_kn tK_28 k_19 m_27) + (zgt tK_28 j_4 k_19 m_27)))) k_19) hP hD (sg8 (n0 := 20) (f := (fun j => zzI cy (rK j) 8 (T_kn tK_28 j))) rfl rfl rfl rfl rfl rfl rfl rfl) (sg8 (n0 := 20) (f := (fun j => zzI cy (rK j) 8 (T_kn (T_setkn tK_28 (updM (T_kn tK_28) k_19 m_27 ((T_kn tK_28 k_19 m_27) + (zgt tK_28 j_4 k_19 m_27)))) j))) rfl rfl rfl rfl rfl rfl rfl rfl) rfl rfl (by omega) rfl (fun i _ => (congrFun (kn_u tK_28 k_19 m_27 ((T_kn tK_28 k_19 m_27) + (zgt tK_28 j_4 k_19 m_27))) i).symm) (fun j hj => congrArg (zzI cy (rK j) 8) (kn_n tK_28 k_19 m_27 ((T_kn tK_28 k_19 m_27) + (zgt tK_28 j_4 k_19 m_27)) hj))
                    clear hP hD
                    obtain ⟨hP, hD⟩ := hPD
                    refine lv_iinc (v := nI (m_27 + 1)) (lv' := [(3, .int (nI (m_27 + 1))), (2, .int (nI k_19)), (1, .int (nI j_4)), (0, .ref qm)]) hx hb dX6_chain_61 hl (k := 0) rfl (nI_1 _) (by decide +kernel) rfl (fun ls => ?_)
                    clear hl
                    intro hl
                    refine lv_goto (tgt := 30) hx hb dX6_chain_64 (by decide +kernel) ?_
                    exact ih_26 (m_27 + 1) (T_setkn tK_28 (updM (T_kn tK_28) k_19 m_27 ((T_kn tK_28 k_19 m_27) + (zgt tK_28 j_4 k_19 m_27)))) (by omega) (by omega) (⟨TI_tl hTK_30.1 _ _ _, hTK_30.2⟩) (by rw [hEK_31]; rfl) _ _ _ hP hD hS (lv_sub hl [0, 1, 2, 3] rfl)
            exact lp_24 ((8 - 0) + 1) 0 tJ_5 (Nat.lt_succ_self _) (Nat.zero_le _) hT_7 rfl _ _ ls hP hD hS (lv_sub hl [0, 1, 2, 3] rfl)
        · refine lv_if_eq (tgt := 26) hx hb dX6_chain_15 (by decide +kernel) (fun _ => ?_) (fun h9 => absurd (by decide +kernel) h9)
          refine lv_iconst (v := (-1)) hx hb (g_2 bX6_chain rfl) (by decide +kernel) ?_
          refine lv_istore_n (lv' := [(2, .int (-1)), (1, .int (nI j_4)), (0, .ref qm)]) hx hb (g_61 bX6_chain rfl) rfl hl (by decide +kernel) rfl (fun ls => ?_)
          clear hl
          intro hl
          refine lv_iconst (v := 0) hx hb (g_3 bX6_chain rfl) (by decide +kernel) ?_
          refine lv_istore_n (lv' := [(3, .int 0), (2, .int (-1)), (1, .int (nI j_4)), (0, .ref qm)]) hx hb (g_62 bX6_chain rfl) rfl hl (by decide +kernel) rfl (fun ls => ?_)
          clear hl
          intro hl
          refine lv_iload_n hx hb (g_29 bX6_chain rfl) rfl (lv_at hl 0 rfl) ?_
          refine lv_aload_n hx hb (g_42 bX6_chain rfl) rfl (lv_at hl 3 rfl) ?_
          refine va_get (D := G) (ci := 5) (v := .int (nI (T_nb tJ_5))) (C := RX6) (T := TX6) (N := 35) hx hb hts iX_X6 hown hK hP 0 rfl rfl 10 (by decide +kernel) (hts _ m_t860) (fun _ h9 => h9) rfl (g_180 (v := 71) bX6_chain rfl) ?_
          refine lv_icmp_ge (tgt := 67) hx hb dX6_chain_35 (by decide +kernel) (fun c_40 => ?_) (fun c_40 => ?_)
          · refine lv_iinc (v := nI (j_4 + 1)) (lv' := [(1, .int (nI (j_4 + 1))), (3, .int 0), (2, .int (-1)), (0, .ref qm)]) hx hb dX6_chain_67 hl (k := 2) rfl (nI_1 _) (by decide +kernel) rfl (fun ls => ?_)
            clear hl
            intro hl
            refine lv_goto (tgt := 2) hx hb dX6_chain_70 (by decide +kernel) ?_
            exact ih_3 (j_4 + 1) tJ_5 (by omega) (by omega) hT_7 (tc_gone hE_8 h_15) _ _ _ hP hD hS (lv_sub hl [0, 3] rfl)
          · refine lv_iload_n hx hb (g_28 bX6_chain rfl) rfl (lv_at hl 1 rfl) ?_
            refine lv_iconst (v := (-1)) hx hb (g_2 bX6_chain rfl) (by decide +kernel) ?_
            refine lv_icmp_eq (tgt := 67) hx hb dX6_chain_40 (by decide +kernel) (fun _ => ?_) (fun h9 => absurd (by decide +kernel) h9)
            refine lv_iinc (v := nI (j_4 + 1)) (lv' := [(1, .int (nI (j_4 + 1))), (3, .int 0), (2, .int (-1)), (0, .ref qm)]) hx hb dX6_chain_67 hl (k := 2) rfl (nI_1 _) (by decide +kernel) rfl (fun ls => ?_)
            clear hl
            intro hl
            refine lv_goto (tgt := 2) hx hb dX6_chain_70 (by decide +kernel) ?_
            exact ih_3 (j_4 + 1) tJ_5 (by omega) (by omega) hT_7 (tc_gone hE_8 h_15) _ _ _ hP hD hS (lv_sub hl [0, 3] rfl)
  exact lp_1 ((8 - 0) + 1) 0 tA (Nat.lt_succ_self _) (Nat.zero_le _) (⟨hTI, rfl, rfl⟩) rfl _ _ ls hP hD hS (lv_sub hl [0, 1] rfl)
set_option maxHeartbeats 4000000 in
set_option maxRecDepth 100000 in
theorem x_X6_end (l : Launch) (G : va_G) (cy : Nat → ClassId) (sz : Nat) (qm : Nat) (v0 : Value) (v1 : Value) (v2 : Value) (v3 : Value) (v4 : Value) (v5 : Value) (v6 : Value) (v7 : Value) (v8 : Value) (v9 : Value) (tA : TA) (qmB : Nat) (qmO : Nat) (qmK : Nat) (iEn : Int32) (iTk : Int32) (v18 : Value) (v19 : Value) (v20 : Value) (v21 : Value) (v22 : Value) (v23 : Value) (v24 : Value) (v25 : Value) (v26 : Value) (iLv : Int32) (iWs : Int32) (v29 : Value) (v30 : Value) (v31 : Value) (v32 : Value) (v33 : Value) (v34 : Value) (rB : Nat → Nat) (rO : Nat → Nat) (rK : Nat → Nat)  (hB : T_nb tA ≤ 8) (hPp : T_np tA ≤ 8) (hTI : TI tA) (hAG : AI tA) : MW l yX6_end cX6_end 5 (some .int) 2 0 0 G cy [zzO qm 5 (v0 :: v1 :: v2 :: v3 :: v4 :: v5 :: v6 :: v7 :: v8 :: v9 :: .int (nI (T_nb tA)) :: .ref qmB :: .int (nI (T_np tA)) :: .ref qmO :: .ref qmK :: .int iEn :: .int iTk :: .int (T_sd tA) :: v18 :: v19 :: v20 :: v21 :: v22 :: v23 :: v24 :: v25 :: v26 :: .int iLv :: .int iWs :: v29 :: v30 :: v31 :: v32 :: v33 :: v34 :: []), zzG cy 3 qmB rB, zzI cy (rB 0) 4 (bkR tA 0), zzI cy (rB 1) 4 (bkR tA 1), zzI cy (rB 2) 4 (bkR tA 2), zzI cy (rB 3) 4 (bkR tA 3), zzI cy (rB 4) 4 (bkR tA 4), zzI cy (rB 5) 4 (bkR tA 5), zzI cy (rB 6) 4 (bkR tA 6), zzI cy (rB 7) 4 (bkR tA 7), zzG cy 3 qmO rO, zzI cy (rO 0) 5 (onR tA 0), zzI cy (rO 1) 5 (onR tA 1), zzI cy (rO 2) 5 (onR tA 2), zzI cy (rO 3) 5 (onR tA 3), zzI cy (rO 4) 5 (onR tA 4), zzI cy (rO 5) 5 (onR tA 5), zzI cy (rO 6) 5 (onR tA 6), zzI cy (rO 7) 5 (onR tA 7), zzG cy 3 qmK rK, zzI cy (rK 0) 8 (T_kn tA 0), zzI cy (rK 1) 8 (T_kn tA 1), zzI cy (rK 2) 8 (T_kn tA 2), zzI cy (rK 3) 8 (T_kn tA 3), zzI cy (rK 4) 8 (T_kn tA 4), zzI cy (rK 5) 8 (T_kn tA 5), zzI cy (rK 6) 8 (T_kn tA 6), zzI cy (rK 7) 8 (T_kn tA 7)] sz [.ref qm] (Wi G (fun r u => ∃ (tX : TA) (iX : Int32), u = [zzO qm 5 (v0 :: v1 :: v2 :: v3 :: v4 :: v5 :: v6 :: v7 :: v8 :: v9 :: .int (nI (T_nb tX)) :: .ref qmB :: .int (nI (T_np tX)) :: .ref qmO :: .ref qmK :: .int iX :: .int iTk :: .int (T_sd tX) :: v18 :: v19 :: v20 :: v21 :: v22 :: v23 :: v24 :: v25 :: v26 :: .int iLv :: .int iWs :: v29 :: v30 :: v31 :: v32 :: v33 :: v34 :: []), zzG cy 3 qmB rB, zzI cy (rB 0) 4 (bkR tX 0), zzI cy (rB 1) 4 (bkR tX 1), zzI cy (rB 2) 4 (bkR tX 2), zzI cy (rB 3) 4 (bkR tX 3), zzI cy (rB 4) 4 (bkR tX 4), zzI cy (rB 5) 4 (bkR tX 5), zzI cy (rB 6) 4 (bkR tX 6), zzI cy (rB 7) 4 (bkR tX 7), zzG cy 3 qmO rO, zzI cy (rO 0) 5 (onR tX 0), zzI cy (rO 1) 5 (onR tX 1), zzI cy (rO 2) 5 (onR tX 2), zzI cy (rO 3) 5 (onR tX 3), zzI cy (rO 4) 5 (onR tX 4), zzI cy (rO 5) 5 (onR tX 5), zzI cy (rO 6) 5 (onR tX 6), zzI cy (rO 7) 5 (onR tX 7), zzG cy 3 qmK rK, zzI cy (rK 0) 8 (T_kn tX 0), zzI cy (rK 1) 8 (T_kn tX 1), zzI cy (rK 2) 8 (T_kn tX 2), zzI cy (rK 3) 8 (T_kn tX 3), zzI cy (rK 4) 8 (T_kn tX 4), zzI cy (rK 5) 8 (T_kn tX 5), zzI cy (rK 6) 8 (T_kn tX 6), zzI cy (rK 7) 8 (T_kn tX 7)] ∧ (TI tX ∧ T_nb tX = T_nb tA ∧ T_np tX = T_np tA) ∧ (tX = zey tA) ∧ (True))) := by
  refine enW RX6 (by decide +kernel) rfl (Nat.le_of_ble_eq_true rfl) (fun p e s m below meth c ls A hx hb hml hown hts hr hlocks hP hN hl hin hD hA hS => ?_)
  have hin : meth.name = _ := hin
  have hK := hN.1
  replace hl : lv_has ls 5 [(0, .ref qm)] := hl
  refine lv_iconst (v := 0) hx hb (g_3 bX6_end rfl) (by decide +kernel) ?_
  refine lv_istore_n (lv' := [(1, .int 0), (0, .ref qm)]) hx hb (g_60 bX6_end rfl) rfl hl (by decide +kernel) rfl (fun ls => ?_)
  clear hl
  intro hl
  refine lv_iconst (v := 0) hx hb (g_3 bX6_end rfl) (by decide +kernel) ?_
  refine lv_istore_n (lv' := [(2, .int 0), (1, .int 0), (0, .ref qm)]) hx hb (g_61 bX6_end rfl) rfl hl (by decide +kernel) rfl (fun ls => ?_)
  clear hl
  intro hl
  have lp_1 : ∀ (n_2 : Nat) (j_4 : Nat) (tJ_5 : TA) (xG_6 : Int32), 8 - j_4 < n_2 → j_4 ≤ T_np tA → TI tJ_5 ∧ T_nb tJ_5 = T_nb tA ∧ T_np tJ_5 = T_np tA → tJ_5 = eyF (zthere tA) tA j_4 → ∀ (H : Heap) (locs : List Loc) (ls : Array Slot), va_P G CL [zzO qm 5 (v0 :: v1 :: v2 :: v3 :: v4 :: v5 :: v6 :: v7 :: v8 :: v9 :: .int (nI (T_nb tJ_5)) :: .ref qmB :: .int (nI (T_np tJ_5)) :: .ref qmO :: .ref qmK :: .int iEn :: .int iTk :: .int (T_sd tJ_5) :: v18 :: v19 :: v20 :: v21 :: v22 :: v23 :: v24 :: v25 :: v26 :: .int iLv :: .int iWs :: v29 :: v30 :: v31 :: v32 :: v33 :: v34 :: []), zzG cy 3 qmB rB, zzI cy (rB 0) 4 (bkR tJ_5 0), zzI cy (rB 1) 4 (bkR tJ_5 1), zzI cy (rB 2) 4 (bkR tJ_5 2), zzI cy (rB 3) 4 (bkR tJ_5 3), zzI cy (rB 4) 4 (bkR tJ_5 4), zzI cy (rB 5) 4 (bkR tJ_5 5), zzI cy (rB 6) 4 (bkR tJ_5 6), zzI cy (rB 7) 4 (bkR tJ_5 7), zzG cy 3 qmO rO, zzI cy (rO 0) 5 (onR tJ_5 0), zzI cy (rO 1) 5 (onR tJ_5 1), zzI cy (rO 2) 5 (onR tJ_5 2), zzI cy (rO 3) 5 (onR tJ_5 3), zzI cy (rO 4) 5 (onR tJ_5 4), zzI cy (rO 5) 5 (onR tJ_5 5), zzI cy (rO 6) 5 (onR tJ_5 6), zzI cy (rO 7) 5 (onR tJ_5 7), zzG cy 3 qmK rK, zzI cy (rK 0) 8 (T_kn tJ_5 0), zzI cy (rK 1) 8 (T_kn tJ_5 1), zzI cy (rK 2) 8 (T_kn tJ_5 2), zzI cy (rK 3) 8 (T_kn tJ_5 3), zzI cy (rK 4) 8 (T_kn tJ_5 4), zzI cy (rK 5) 8 (T_kn tJ_5 5), zzI cy (rK 6) 8 (T_kn tJ_5 6), zzI cy (rK 7) 8 (T_kn tJ_5 7)] H → va_D A [zzO qm 5 (v0 :: v1 :: v2 :: v3 :: v4 :: v5 :: v6 :: v7 :: v8 :: v9 :: .int (nI (T_nb tJ_5)) :: .ref qmB :: .int (nI (T_np tJ_5)) :: .ref qmO :: .ref qmK :: .int iEn :: .int iTk :: .int (T_sd tJ_5) :: v18 :: v19 :: v20 :: v21 :: v22 :: v23 :: v24 :: v25 :: v26 :: .int iLv :: .int iWs :: v29 :: v30 :: v31 :: v32 :: v33 :: v34 :: []), zzG cy 3 qmB rB, zzI cy (rB 0) 4 (bkR tJ_5 0), zzI cy (rB 1) 4 (bkR tJ_5 1), zzI cy (rB 2) 4 (bkR tJ_5 2), zzI cy (rB 3) 4 (bkR tJ_5 3), zzI cy (rB 4) 4 (bkR tJ_5 4), zzI cy (rB 5) 4 (bkR tJ_5 5), zzI cy (rB 6) 4 (bkR tJ_5 6), zzI cy (rB 7) 4 (bkR tJ_5 7), zzG cy 3 qmO rO, zzI cy (rO 0) 5 (onR tJ_5 0), zzI cy (rO 1) 5 (onR tJ_5 1), zzI cy (rO 2) 5 (onR tJ_5 2), zzI cy (rO 3) 5 (onR tJ_5 3), zzI cy (rO 4) 5 (onR tJ_5 4), zzI cy (rO 5) 5 (onR tJ_5 5), zzI cy (rO 6) 5 (onR tJ_5 6), zzI cy (rO 7) 5 (onR tJ_5 7), zzG cy 3 qmK rK, zzI cy (rK 0) 8 (T_kn tJ_5 0), zzI cy (rK 1) 8 (T_kn tJ_5 1), zzI cy (rK 2) 8 (T_kn tJ_5 2), zzI cy (rK 3) 8 (T_kn tJ_5 3), zzI cy (rK 4) 8 (T_kn tJ_5 4), zzI cy (rK 5) 8 (T_kn tJ_5 5), zzI cy (rK 6) 8 (T_kn tJ_5 6), zzI cy (rK 7) 8 (T_kn tJ_5 7)] → va_S A s.heap H locs → lv_has ls 5 [(2, .int (nI j_4)), (1, .int xG_6), (0, .ref qm)] → W p l e (Rm 2 0 0) s m (List.toArray (α := Value) [.ref qm]) below meth c H locs 0 0 (MQ below ((Wi G (fun r u => ∃ (tX : TA) (iX : Int32), u = [zzO qm 5 (v0 :: v1 :: v2 :: v3 :: v4 :: v5 :: v6 :: v7 :: v8 :: v9 :: .int (nI (T_nb tX)) :: .ref qmB :: .int (nI (T_np tX)) :: .ref qmO :: .ref qmK :: .int iX :: .int iTk :: .int (T_sd tX) :: v18 :: v19 :: v20 :: v21 :: v22 :: v23 :: v24 :: v25 :: v26 :: .int iLv :: .int iWs :: v29 :: v30 :: v31 :: v32 :: v33 :: v34 :: []), zzG cy 3 qmB rB, zzI cy (rB 0) 4 (bkR tX 0), zzI cy (rB 1) 4 (bkR tX 1), zzI cy (rB 2) 4 (bkR tX 2), zzI cy (rB 3) 4 (bkR tX 3), zzI cy (rB 4) 4 (bkR tX 4), zzI cy (rB 5) 4 (bkR tX 5), zzI cy (rB 6) 4 (bkR tX 6), zzI cy (rB 7) 4 (bkR tX 7), zzG cy 3 qmO rO, zzI cy (rO 0) 5 (onR tX 0), zzI cy (rO 1) 5 (onR tX 1), zzI cy (rO 2) 5 (onR tX 2), zzI cy (rO 3) 5 (onR tX 3), zzI cy (rO 4) 5 (onR tX 4), zzI cy (rO 5) 5 (onR tX 5), zzI cy (rO 6) 5 (onR tX 6), zzI cy (rO 7) 5 (onR tX 7), zzG cy 3 qmK rK, zzI cy (rK 0) 8 (T_kn tX 0), zzI cy (rK 1) 8 (T_kn tX 1), zzI cy (rK 2) 8 (T_kn tX 2), zzI cy (rK 3) 8 (T_kn tX 3), zzI cy (rK 4) 8 (T_kn tX 4), zzI cy (rK 5) 8 (T_kn tX 5), zzI cy (rK 6) 8 (T_kn tX 6), zzI cy (rK 7) 8 (T_kn tX 7)] ∧ (TI tX ∧ T_nb tX = T_nb tA ∧ T_np tX = T_np tA) ∧ (tX = zey tA) ∧ (True))) A) (List.toArray (α := Value) [.ref qm]) s 0 0 A) (F0 m 4 ls []) := by
    intro n_2
    induction n_2 with
    | zero => intro j_4 tJ_5 xG_6 hm9; exact absurd hm9 (Nat.not_lt_zero _)
    | succ n_2 ih_3 =>
      intro j_4 tJ_5 xG_6 hm_10 hj_7 hT_8 hE_9 H locs ls hP hD hS hl
      refine lv_iload_n hx hb (g_28 bX6_end rfl) rfl (lv_at hl 0 rfl) ?_
      refine lv_aload_n hx hb (g_42 bX6_end rfl) rfl (lv_at hl 2 rfl) ?_
      refine va_get (D := G) (ci := 5) (v := .int (nI (T_np tJ_5))) (C := RX6) (T := TX6) (N := 35) hx hb hts iX_X6 hown hK hP 0 rfl rfl 12 (by decide +kernel) (hts _ m_t862) (fun _ h9 => h9) rfl (g_180 (v := 78) bX6_end rfl) ?_
      refine lv_icmp_ge (tgt := 145) hx hb dX6_end_9 (by decide +kernel) (fun c_11 => ?_) (fun c_11 => ?_)
      · have hlt_12e : T_np tJ_5 = T_np tA := hT_8.2.2
        have hlt_12 : j_4 = T_np tA := Nat.le_antisymm (by omega) (by rw [hlt_12e] at c_11; exact lp_ge rfl rfl (by omega) (by omega) c_11)
        obtain ⟨hlt_12i, hlt_12b, hlt_12p⟩ := id hT_8
        refine lv_aload_n hx hb (g_42 bX6_end rfl) rfl (lv_at hl 2 rfl) ?_
        refine lv_dup hx hb (g_89 bX6_end rfl) rfl ?_
        refine va_get (D := G) (ci := 5) (v := .int iEn) (C := RX6) (T := TX6) (N := 35) hx hb hts iX_X6 hown hK hP 0 rfl rfl 15 (by decide +kernel) (hts _ m_t865) (fun _ h9 => h9) rfl (g_180 (v := 285) bX6_end rfl) ?_
        refine lv_iconst (v := 1) hx hb (g_4 bX6_end rfl) (by decide +kernel) ?_
        refine lv_iadd hx hb (g_96 bX6_end rfl) ?_
        refine va_put (D := G) (ci := 5) (v := .int (iEn + 1)) (ty := .int) (C := RX6) (T := TX6) (N := 35) hx hb hts iX_X6 tyX6 tyX6_ok nmX6 hown hK hP hD hS 0 rfl rfl 15 (by decide +kernel) (hts _ m_t865) (fun _ h9 => h9) rfl (by decide +kernel) rfl rfl (Nat.le_of_ble_eq_true rfl) (g_181 (v := 285) bX6_end rfl) (fun H locs => ?_)
        clear hP hD hS
        intro hP hD hS
        have hPD := pd_as [zzO qm 5 (v0 :: v1 :: v2 :: v3 :: v4 :: v5 :: v6 :: v7 :: v8 :: v9 :: .int (nI (T_nb tJ_5)) :: .ref qmB :: .int (nI (T_np tJ_5)) :: .ref qmO :: .ref qmK :: .int (iEn + 1) :: .int iTk :: .int (T_sd tJ_5) :: v18 :: v19 :: v20 :: v21 :: v22 :: v23 :: v24 :: v25 :: v26 :: .int iLv :: .int iWs :: v29 :: v30 :: v31 :: v32 :: v33 :: v34 :: []), _, zzI cy (rB 0) 4 (bkR tJ_5 0), zzI cy (rB 1) 4 (bkR tJ_5 1), zzI cy (rB 2) 4 (bkR tJ_5 2), zzI cy (rB 3) 4 (bkR tJ_5 3), zzI cy (rB 4) 4 (bkR tJ_5 4), zzI cy (rB 5) 4 (bkR tJ_5 5), zzI cy (rB 6) 4 (bkR tJ_5 6), zzI cy (rB 7) 4 (bkR tJ_5 7), _, zzI cy (rO 0) 5 (onR tJ_5 0), zzI cy (rO 1) 5 (onR tJ_5 1), zzI cy (rO 2) 5 (onR tJ_5 2), zzI cy (rO 3) 5 (onR tJ_5 3), zzI cy (rO 4) 5 (onR tJ_5 4), zzI cy (rO 5) 5 (onR tJ_5 5), zzI cy (rO 6) 5 (onR tJ_5 6), zzI cy (rO 7) 5 (onR tJ_5 7), _, zzI cy (rK 0) 8 (T_kn tJ_5 0), zzI cy (rK 1) 8 (T_kn tJ_5 1), zzI cy (rK 2) 8 (T_kn tJ_5 2), zzI cy (rK 3) 8 (T_kn tJ_5 3), zzI cy (rK 4) 8 (T_kn tJ_5 4), zzI cy (rK 5) 8 (T_kn tJ_5 5), zzI cy (rK 6) 8 (T_kn tJ_5 6), zzI cy (rK 7) 8 (T_kn tJ_5 7)] hP hD rfl
        clear hP hD
        obtain ⟨hP, hD⟩ := hPD
        refine lv_iload_n hx hb (g_27 bX6_end rfl) rfl (lv_at hl 1 rfl) ?_
        exact endW (u := [zzO qm 5 (v0 :: v1 :: v2 :: v3 :: v4 :: v5 :: v6 :: v7 :: v8 :: v9 :: .int (nI (T_nb tJ_5)) :: .ref qmB :: .int (nI (T_np tJ_5)) :: .ref qmO :: .ref qmK :: .int (iEn + 1) :: .int iTk :: .int (T_sd tJ_5) :: v18 :: v19 :: v20 :: v21 :: v22 :: v23 :: v24 :: v25 :: v26 :: .int iLv :: .int iWs :: v29 :: v30 :: v31 :: v32 :: v33 :: v34 :: []), zzG cy 3 qmB rB, zzI cy (rB 0) 4 (bkR tJ_5 0), zzI cy (rB 1) 4 (bkR tJ_5 1), zzI cy (rB 2) 4 (bkR tJ_5 2), zzI cy (rB 3) 4 (bkR tJ_5 3), zzI cy (rB 4) 4 (bkR tJ_5 4), zzI cy (rB 5) 4 (bkR tJ_5 5), zzI cy (rB 6) 4 (bkR tJ_5 6), zzI cy (rB 7) 4 (bkR tJ_5 7), zzG cy 3 qmO rO, zzI cy (rO 0) 5 (onR tJ_5 0), zzI cy (rO 1) 5 (onR tJ_5 1), zzI cy (rO 2) 5 (onR tJ_5 2), zzI cy (rO 3) 5 (onR tJ_5 3), zzI cy (rO 4) 5 (onR tJ_5 4), zzI cy (rO 5) 5 (onR tJ_5 5), zzI cy (rO 6) 5 (onR tJ_5 6), zzI cy (rO 7) 5 (onR tJ_5 7), zzG cy 3 qmK rK, zzI cy (rK 0) 8 (T_kn tJ_5 0), zzI cy (rK 1) 8 (T_kn tJ_5 1), zzI cy (rK 2) 8 (T_kn tJ_5 2), zzI cy (rK 3) 8 (T_kn tJ_5 3), zzI cy (rK 4) 8 (T_kn tJ_5 4), zzI cy (rK 5) 8 (T_kn tJ_5 5), zzI cy (rK 6) 8 (T_kn tJ_5 6), zzI cy (rK 7) 8 (T_kn tJ_5 7)]) hx hb hr hlocks rfl (pSb hP [[true, true, true, true, true, true, true, true, true, true, true, true, true, true, true, true, true, true, true, true, true, true, true, true, true, true, true, true]] rfl rfl) (dSb hD [[true, true, true, true, true, true, true, true, true, true, true, true, true, true, true, true, true, true, true, true, true, true, true, true, true, true, true, true]] (by decide +kernel) rfl rfl) hS ⟨tJ_5, iEn + 1, rfl, hT_8, (by have h9 := hE_9; rw [hlt_12] at h9; exact h9), trivial⟩ (g_172 bX6_end rfl)
      · have hlt_13e : T_np tJ_5 = T_np tA := hT_8.2.2
        have hlt_13 : j_4 < T_np tA := by rw [hlt_13e] at c_11; exact lp_lt rfl rfl (by omega) (by omega) c_11
        obtain ⟨hlt_13i, hlt_13b, hlt_13p⟩ := id hT_8
        refine lv_aload_n hx hb (g_42 bX6_end rfl) rfl (lv_at hl 2 rfl) ?_
        refine lv_iload_n hx hb (g_28 bX6_end rfl) rfl (lv_at hl 0 rfl) ?_
        refine kRi (rV (As := [.int (nI j_4)]) (rest := []) (b := qm) ⟨hx, hb, hml, hown, hts⟩ (c_X6_isThere l G cy qm v0 v1 v2 v3 v4 v5 v6 v7 v8 v9 tJ_5 qmB qmO qmK iEn iTk v18 v19 v20 v21 v22 v23 v24 v25 v26 iLv iWs v29 v30 v31 v32 v33 v34 rO j_4 (by omega)) L_X6_81 (preRV (q := (RX6, TX6, 35)) hN hP (trueIx 0 [true, false, false, false, false, false, false, false, false, false, true, true, true, true, true, true, true, true, true]) (sel_fm rfl rfl) 0 5 rfl rfl) rfl ⟨Nat.le_of_ble_eq_true rfl, Nat.le_of_ble_eq_true rfl⟩ hl.1 (Nat.le_of_ble_eq_true rfl) (g_182 (v := 81) bX6_end rfl) ⟨Nat.le_of_ble_eq_true rfl, Nat.le_of_ble_eq_true rfl⟩) (fun r_14 h_15 => ?_)
        rcases h_15 with ⟨rfl, h_16⟩ | ⟨rfl, h_16⟩
        · refine lv_if_eq (tgt := 139) hx hb dX6_end_17 (by decide +kernel) (fun h9 => absurd h9 (by decide +kernel)) (fun _ => ?_)
          refine lv_aload_n hx hb (g_42 bX6_end rfl) rfl (lv_at hl 2 rfl) ?_
          refine va_get (D := G) (ci := 5) (v := .ref qmO) (C := RX6) (T := TX6) (N := 35) hx hb hts iX_X6 hown hK hP 0 rfl rfl 13 (by decide +kernel) (hts _ m_t863) (fun _ h9 => h9) rfl (g_180 (v := 45) bX6_end rfl) ?_
          refine lv_iload_n hx hb (g_28 bX6_end rfl) rfl (lv_at hl 0 rfl) ?_
          refine va_alda hx hb hK hP 10 3 rfl rfl (in8 (by omega)) (g_50 bX6_end rfl) ?_
          refine lv_setv (v := .ref (rO j_4)) (g_ref (by omega)) ?_
          refine lv_iconst (v := 0) hx hb (g_3 bX6_end rfl) (by decide +kernel) ?_
          refine lv_dup2_11 hx hb (g_92 bX6_end rfl) rfl rfl ?_
          refine va_iald hx hb hK hP (11 + j_4) 0 (sg8 (n0 := 11) (f := (fun j => zzI cy (rO j) 5 (onR tJ_5 j))) rfl rfl rfl rfl rfl rfl rfl rfl j_4 (by omega)) rfl (in_c rfl) (g_46 bX6_end rfl) ?_
          refine lv_seti (v := T_ag tJ_5 j_4) (on_0 _ _) ?_
          refine lv_iconst (v := 1) hx hb (g_4 bX6_end rfl) (by decide +kernel) ?_
          refine lv_iadd hx hb (g_96 bX6_end rfl) ?_
          refine va_iast hx hb hK hP hD hS (11 + j_4) 0 ((sg8 (n0 := 11) (f := (fun j => zzI cy (rO j) 5 (onR tJ_5 j))) rfl rfl rfl rfl rfl rfl rfl rfl) j_4 (by omega)) rfl (in_c rfl) (g_79 bX6_end rfl) (fun H locs => ?_)
          clear hP hD hS
          intro hP hD hS
          have hPD := st8PD (ws' := [zzO qm 5 (v0 :: v1 :: v2 :: v3 :: v4 :: v5 :: v6 :: v7 :: v8 :: v9 :: .int (nI (T_nb (T_setag tJ_5 (upd (T_ag tJ_5) j_4 ((T_ag tJ_5 j_4) + 1))))) :: .ref qmB :: .int (nI (T_np (T_setag tJ_5 (upd (T_ag tJ_5) j_4 ((T_ag tJ_5 j_4) + 1))))) :: .ref qmO :: .ref qmK :: .int iEn :: .int iTk :: .int (T_sd (T_setag tJ_5 (upd (T_ag tJ_5) j_4 ((T_ag tJ_5 j_4) + 1)))) :: v18 :: v19 :: v20 :: v21 :: v22 :: v23 :: v24 :: v25 :: v26 :: .int iLv :: .int iWs :: v29 :: v30 :: v31 :: v32 :: v33 :: v34 :: []), zzG cy 3 qmB rB, zzI cy (rB 0) 4 (bkR (T_setag tJ_5 (upd (T_ag tJ_5) j_4 ((T_ag tJ_5 j_4) + 1))) 0), zzI cy (rB 1) 4 (bkR (T_setag tJ_5 (upd (T_ag tJ_5) j_4 ((T_ag tJ_5 j_4) + 1))) 1), zzI cy (rB 2) 4 (bkR (T_setag tJ_5 (upd (T_ag tJ_5) j_4 ((T_ag tJ_5 j_4) + 1))) 2), zzI cy (rB 3) 4 (bkR (T_setag tJ_5 (upd (T_ag tJ_5) j_4 ((T_ag tJ_5 j_4) + 1))) 3), zzI cy (rB 4) 4 (bkR (T_setag tJ_5 (upd (T_ag tJ_5) j_4 ((T_ag tJ_5 j_4) + 1))) 4), zzI cy (rB 5) 4 (bkR (T_setag tJ_5 (upd (T_ag tJ_5) j_4 ((T_ag tJ_5 j_4) + 1))) 5), zzI cy (rB 6) 4 (bkR (T_setag tJ_5 (upd (T_ag tJ_5) j_4 ((T_ag tJ_5 j_4) + 1))) 6), zzI cy (rB 7) 4 (bkR (T_setag tJ_5 (upd (T_ag tJ_5) j_4 ((T_ag tJ_5 j_4) + 1))) 7), zzG cy 3 qmO rO, zzI cy (rO 0) 5 (onR (T_setag tJ_5 (upd (T_ag tJ_5) j_4 ((T_ag tJ_5 j_4) + 1))) 0), zzI cy (rO 1) 5 (onR (T_setag tJ_5 (upd (T_ag tJ_5) j_4 ((T_ag tJ_5 j_4) + 1))) 1), zzI cy (rO 2) 5 (onR (T_setag tJ_5 (upd (T_ag tJ_5) j_4 ((T_ag tJ_5 j_4) + 1))) 2), zzI cy (rO 3) 5 (onR (T_setag tJ_5 (upd (T_ag tJ_5) j_4 ((T_ag tJ_5 j_4) + 1))) 3), zzI cy (rO 4) 5 (onR (T_setag tJ_5 (upd (T_ag tJ_5) j_4 ((T_ag tJ_5 j_4) + 1))) 4), zzI cy (rO 5) 5 (onR (T_setag tJ_5 (upd (T_ag tJ_5) j_4 ((T_ag tJ_5 j_4) + 1))) 5), zzI cy (rO 6) 5 (onR (T_setag tJ_5 (upd (T_ag tJ_5) j_4 ((T_ag tJ_5 j_4) + 1))) 6), zzI cy (rO 7) 5 (onR (T_setag tJ_5 (upd (T_ag tJ_5) j_4 ((T_ag tJ_5 j_4) + 1))) 7), zzG cy 3 qmK rK, zzI cy (rK 0) 8 (T_kn (T_setag tJ_5 (upd (T_ag tJ_5) j_4 ((T_ag tJ_5 j_4) + 1))) 0), zzI cy (rK 1) 8 (T_kn (T_setag tJ_5 (upd (T_ag tJ_5) j_4 ((T_ag tJ_5 j_4) + 1))) 1), zzI cy (rK 2) 8 (T_kn (T_setag tJ_5 (upd (T_ag tJ_5) j_4 ((T_ag tJ_5 j_4) + 1))) 2), zzI cy (rK 3) 8 (T_kn (T_setag tJ_5 (upd (T_ag tJ_5) j_4 ((T_ag tJ_5 j_4) + 1))) 3), zzI cy (rK 4) 8 (T_kn (T_setag tJ_5 (upd (T_ag tJ_5) j_4 ((T_ag tJ_5 j_4) + 1))) 4), zzI cy (rK 5) 8 (T_kn (T_setag tJ_5 (upd (T_ag tJ_5) j_4 ((T_ag tJ_5 j_4) + 1))) 5), zzI cy (rK 6) 8 (T_kn (T_setag tJ_5 (upd (T_ag tJ_5) j_4 ((T_ag tJ_5 j_4) + 1))) 6), zzI cy (rK 7) 8 (T_kn (T_setag tJ_5 (upd (T_ag tJ_5) j_4 ((T_ag tJ_5 j_4) + 1))) 7)]) (k := j_4) (g1 := onR (T_setag tJ_5 (upd (T_ag tJ_5) j_4 ((T_ag tJ_5 j_4) + 1))) j_4) hP hD (sg8 (n0 := 11) (f := (fun j => zzI cy (rO j) 5 (onR tJ_5 j))) rfl rfl rfl rfl rfl rfl rfl rfl) (sg8 (n0 := 11) (f := (fun j => zzI cy (rO j) 5 (onR (T_setag tJ_5 (upd (T_ag tJ_5) j_4 ((T_ag tJ_5 j_4) + 1))) j))) rfl rfl rfl rfl rfl rfl rfl rfl) rfl rfl (by omega) rfl (fun i _ => (congrFun (on_u0 tJ_5 j_4 ((T_ag tJ_5 j_4) + 1)) i).symm) (fun j hj => congrArg (zzI cy (rO j) 5) (on_n0 tJ_5 j_4 ((T_ag tJ_5 j_4) + 1) hj))
          clear hP hD
          obtain ⟨hP, hD⟩ := hPD
          refine lv_aload_n hx hb (g_42 bX6_end rfl) rfl (lv_at hl 2 rfl) ?_
          refine va_get (D := G) (ci := 5) (v := .ref qmO) (C := RX6) (T := TX6) (N := 35) hx hb hts iX_X6 hown hK hP 0 rfl rfl 13 (by decide +kernel) (hts _ m_t863) (fun _ h9 => h9) rfl (g_180 (v := 45) bX6_end rfl) ?_
          refine lv_iload_n hx hb (g_28 bX6_end rfl) rfl (lv_at hl 0 rfl) ?_
          refine va_alda hx hb hK hP 10 3 rfl rfl (in8 (by omega)) (g_50 bX6_end rfl) ?_
          refine lv_setv (v := .ref (rO j_4)) (g_ref (by omega)) ?_
          refine lv_iconst (v := 0) hx hb (g_3 bX6_end rfl) (by decide +kernel) ?_
          refine va_iald hx hb hK hP (11 + j_4) 0 (sg8 (n0 := 11) (f := (fun j => zzI cy (rO j) 5 (onR (T_setag tJ_5 (upd (T_ag tJ_5) j_4 ((T_ag tJ_5 j_4) + 1))) j))) rfl rfl rfl rfl rfl rfl rfl rfl j_4 (by omega)) rfl (in_c rfl) (g_46 bX6_end rfl) ?_
          refine lv_seti (v := T_ag (T_setag tJ_5 (upd (T_ag tJ_5) j_4 ((T_ag tJ_5 j_4) + 1))) j_4) (on_0 _ _) ?_
          refine lv_bipush (v := 10) hx hb dX6_end_40 (by decide +kernel) ?_
          refine lv_icmp_ne (tgt := 49) hx hb dX6_end_42 (by decide +kernel) (fun c_18 => ?_) (fun c_18 => ?_)
          · refine lv_iconst (v := 0) hx hb (g_3 bX6_end rfl) (by decide +kernel) ?_
            refine lv_istore_n (lv' := [(3, .int 0), (2, .int (nI j_4)), (1, .int xG_6), (0, .ref qm)]) hx hb (g_62 bX6_end rfl) rfl hl (by decide +kernel) rfl (fun ls => ?_)
            clear hl
            intro hl
            refine lv_aload_n hx hb (g_42 bX6_end rfl) rfl (lv_at hl 3 rfl) ?_
            refine va_get (D := G) (ci := 5) (v := .ref qmO) (C := RX6) (T := TX6) (N := 35) hx hb hts iX_X6 hown hK hP 0 rfl rfl 13 (by decide +kernel) (hts _ m_t863) (fun _ h9 => h9) rfl (g_180 (v := 45) bX6_end rfl) ?_
            refine lv_iload_n hx hb (g_28 bX6_end rfl) rfl (lv_at hl 1 rfl) ?_
            refine va_alda hx hb hK hP 10 3 rfl rfl (in8 (by omega)) (g_50 bX6_end rfl) ?_
            refine lv_setv (v := .ref (rO j_4)) (g_ref (by omega)) ?_
            refine lv_iconst (v := 4) hx hb (g_7 bX6_end rfl) (by decide +kernel) ?_
            refine lv_iload_n hx hb (g_29 bX6_end rfl) rfl (lv_at hl 0 rfl) ?_
            refine lv_if_eq (tgt := 66) hx hb dX6_end_59 (by decide +kernel) (fun _ => ?_) (fun h9 => absurd (by decide +kernel) h9)
            refine lv_iconst (v := 0) hx hb (g_3 bX6_end rfl) (by decide +kernel) ?_
            refine va_iast hx hb hK hP hD hS (11 + j_4) 0 ((sg8 (n0 := 11) (f := (fun j => zzI cy (rO j) 5 (onR (T_setag tJ_5 (upd (T_ag tJ_5) j_4 ((T_ag tJ_5 j_4) + 1))) j))) rfl rfl rfl rfl rfl rfl rfl rfl) j_4 (by omega)) rfl (in_c rfl) (g_79 bX6_end rfl) (fun H locs => ?_)
            clear hP hD hS
            intro hP hD hS
            have hPD := st8PD (ws' := [zzO qm 5 (v0 :: v1 :: v2 :: v3 :: v4 :: v5 :: v6 :: v7 :: v8 :: v9 :: .int (nI (T_nb (T_setgn (T_setag tJ_5 (upd (T_ag tJ_5) j_4 ((T_ag tJ_5 j_4) + 1))) (updB (T_gn (T_setag tJ_5 (upd (T_ag tJ_5) j_4 ((T_ag tJ_5 j_4) + 1)))) j_4 false)))) :: .ref qmB :: .int (nI (T_np (T_setgn (T_setag tJ_5 (upd (T_ag tJ_5) j_4 ((T_ag tJ_5 j_4) + 1))) (updB (T_gn (T_setag tJ_5 (upd (T_ag tJ_5) j_4 ((T_ag tJ_5 j_4) + 1)))) j_4 false)))) :: .ref qmO :: .ref qmK :: .int iEn :: .int iTk :: .int (T_sd (T_setgn (T_setag tJ_5 (upd (T_ag tJ_5) j_4 ((T_ag tJ_5 j_4) + 1))) (updB (T_gn (T_setag tJ_5 (upd (T_ag tJ_5) j_4 ((T_ag tJ_5 j_4) + 1)))) j_4 false))) :: v18 :: v19 :: v20 :: v21 :: v22 :: v23 :: v24 :: v25 :: v26 :: .int iLv :: .int iWs :: v29 :: v30 :: v31 :: v32 :: v33 :: v34 :: []), zzG cy 3 qmB rB, zzI cy (rB 0) 4 (bkR (T_setgn (T_setag tJ_5 (upd (T_ag tJ_5) j_4 ((T_ag tJ_5 j_4) + 1))) (updB (T_gn (T_setag tJ_5 (upd (T_ag tJ_5) j_4 ((T_ag tJ_5 j_4) + 1)))) j_4 false)) 0), zzI cy (rB 1) 4 (bkR (T_setgn (T_setag tJ_5 (upd (T_ag tJ_5) j_4 ((T_ag tJ_5 j_4) + 1))) (updB (T_gn (T_setag tJ_5 (upd (T_ag tJ_5) j_4 ((T_ag tJ_5 j_4) + 1)))) j_4 false)) 1), zzI cy (rB 2) 4 (bkR (T_setgn (T_setag tJ_5 (upd (T_ag tJ_5) j_4 ((T_ag tJ_5 j_4) + 1))) (updB (T_gn (T_setag tJ_5 (upd (T_ag tJ_5) j_4 ((T_ag tJ_5 j_4) + 1)))) j_4 false)) 2), zzI cy (rB 3) 4 (bkR (T_setgn (T_setag tJ_5 (upd (T_ag tJ_5) j_4 ((T_ag tJ_5 j_4) + 1))) (updB (T_gn (T_setag tJ_5 (upd (T_ag tJ_5) j_4 ((T_ag tJ_5 j_4) + 1)))) j_4 false)) 3), zzI cy (rB 4) 4 (bkR (T_setgn (T_setag tJ_5 (upd (T_ag tJ_5) j_4 ((T_ag tJ_5 j_4) + 1))) (updB (T_gn (T_setag tJ_5 (upd (T_ag tJ_5) j_4 ((T_ag tJ_5 j_4) + 1)))) j_4 false)) 4), zzI cy (rB 5) 4 (bkR (T_setgn (T_setag tJ_5 (upd (T_ag tJ_5) j_4 ((T_ag tJ_5 j_4) + 1))) (updB (T_gn (T_setag tJ_5 (upd (T_ag tJ_5) j_4 ((T_ag tJ_5 j_4) + 1)))) j_4 false)) 5), zzI cy (rB 6) 4 (bkR (T_setgn (T_setag tJ_5 (upd (T_ag tJ_5) j_4 ((T_ag tJ_5 j_4) + 1))) (updB (T_gn (T_setag tJ_5 (upd (T_ag tJ_5) j_4 ((T_ag tJ_5 j_4) + 1)))) j_4 false)) 6), zzI cy (rB 7) 4 (bkR (T_setgn (T_setag tJ_5 (upd (T_ag tJ_5) j_4 ((T_ag tJ_5 j_4) + 1))) (updB (T_gn (T_setag tJ_5 (upd (T_ag tJ_5) j_4 ((T_ag tJ_5 j_4) + 1)))) j_4 false)) 7), zzG cy 3 qmO rO, zzI cy (rO 0) 5 (onR (T_setgn (T_setag tJ_5 (upd (T_ag tJ_5) j_4 ((T_ag tJ_5 j_4) + 1))) (updB (T_gn (T_setag tJ_5 (upd (T_ag tJ_5) j_4 ((T_ag tJ_5 j_4) + 1)))) j_4 false)) 0), zzI cy (rO 1) 5 (onR (T_setgn (T_setag tJ_5 (upd (T_ag tJ_5) j_4 ((T_ag tJ_5 j_4) + 1))) (updB (T_gn (T_setag tJ_5 (upd (T_ag tJ_5) j_4 ((T_ag tJ_5 j_4) + 1)))) j_4 false)) 1), zzI cy (rO 2) 5 (onR (T_setgn (T_setag tJ_5 (upd (T_ag tJ_5) j_4 ((T_ag tJ_5 j_4) + 1))) (updB (T_gn (T_setag tJ_5 (upd (T_ag tJ_5) j_4 ((T_ag tJ_5 j_4) + 1)))) j_4 false)) 2), zzI cy (rO 3) 5 (onR (T_setgn (T_setag tJ_5 (upd (T_ag tJ_5) j_4 ((T_ag tJ_5 j_4) + 1))) (updB (T_gn (T_setag tJ_5 (upd (T_ag tJ_5) j_4 ((T_ag tJ_5 j_4) + 1)))) j_4 false)) 3), zzI cy (rO 4) 5 (onR (T_setgn (T_setag tJ_5 (upd (T_ag tJ_5) j_4 ((T_ag tJ_5 j_4) + 1))) (updB (T_gn (T_setag tJ_5 (upd (T_ag tJ_5) j_4 ((T_ag tJ_5 j_4) + 1)))) j_4 false)) 4), zzI cy (rO 5) 5 (onR (T_setgn (T_setag tJ_5 (upd (T_ag tJ_5) j_4 ((T_ag tJ_5 j_4) + 1))) (updB (T_gn (T_setag tJ_5 (upd (T_ag tJ_5) j_4 ((T_ag tJ_5 j_4) + 1)))) j_4 false)) 5), zzI cy (rO 6) 5 (onR (T_setgn (T_setag tJ_5 (upd (T_ag tJ_5) j_4 ((T_ag tJ_5 j_4) + 1))) (updB (T_gn (T_setag tJ_5 (upd (T_ag tJ_5) j_4 ((T_ag tJ_5 j_4) + 1)))) j_4 false)) 6), zzI cy (rO 7) 5 (onR (T_setgn (T_setag tJ_5 (upd (T_ag tJ_5) j_4 ((T_ag tJ_5 j_4) + 1))) (updB (T_gn (T_setag tJ_5 (upd (T_ag tJ_5) j_4 ((T_ag tJ_5 j_4) + 1)))) j_4 false)) 7), zzG cy 3 qmK rK, zzI cy (rK 0) 8 (T_kn (T_setgn (T_setag tJ_5 (upd (T_ag tJ_5) j_4 ((T_ag tJ_5 j_4) + 1))) (updB (T_gn (T_setag tJ_5 (upd (T_ag tJ_5) j_4 ((T_ag tJ_5 j_4) + 1)))) j_4 false)) 0), zzI cy (rK 1) 8 (T_kn (T_setgn (T_setag tJ_5 (upd (T_ag tJ_5) j_4 ((T_ag tJ_5 j_4) + 1))) (updB (T_gn (T_setag tJ_5 (upd (T_ag tJ_5) j_4 ((T_ag tJ_5 j_4) + 1)))) j_4 false)) 1), zzI cy (rK 2) 8 (T_kn (T_setgn (T_setag tJ_5 (upd (T_ag tJ_5) j_4 ((T_ag tJ_5 j_4) + 1))) (updB (T_gn (T_setag tJ_5 (upd (T_ag tJ_5) j_4 ((T_ag tJ_5 j_4) + 1)))) j_4 false)) 2), zzI cy (rK 3) 8 (T_kn (T_setgn (T_setag tJ_5 (upd (T_ag tJ_5) j_4 ((T_ag tJ_5 j_4) + 1))) (updB (T_gn (T_setag tJ_5 (upd (T_ag tJ_5) j_4 ((T_ag tJ_5 j_4) + 1)))) j_4 false)) 3), zzI cy (rK 4) 8 (T_kn (T_setgn (T_setag tJ_5 (upd (T_ag tJ_5) j_4 ((T_ag tJ_5 j_4) + 1))) (updB (T_gn (T_setag tJ_5 (upd (T_ag tJ_5) j_4 ((T_ag tJ_5 j_4) + 1)))) j_4 false)) 4), zzI cy (rK 5) 8 (T_kn (T_setgn (T_setag tJ_5 (upd (T_ag tJ_5) j_4 ((T_ag tJ_5 j_4) + 1))) (updB (T_gn (T_setag tJ_5 (upd (T_ag tJ_5) j_4 ((T_ag tJ_5 j_4) + 1)))) j_4 false)) 5), zzI cy (rK 6) 8 (T_kn (T_setgn (T_setag tJ_5 (upd (T_ag tJ_5) j_4 ((T_ag tJ_5 j_4) + 1))) (updB (T_gn (T_setag tJ_5 (upd (T_ag tJ_5) j_4 ((T_ag tJ_5 j_4) + 1)))) j_4 false)) 6), zzI cy (rK 7) 8 (T_kn (T_setgn (T_setag tJ_5 (upd (T_ag tJ_5) j_4 ((T_ag tJ_5 j_4) + 1))) (updB (T_gn (T_setag tJ_5 (upd (T_ag tJ_5) j_4 ((T_ag tJ_5 j_4) + 1)))) j_4 false)) 7)]) (k := j_4) (g1 := onR (T_setgn (T_setag tJ_5 (upd (T_ag tJ_5) j_4 ((T_ag tJ_5 j_4) + 1))) (updB (T_gn (T_setag tJ_5 (upd (T_ag tJ_5) j_4 ((T_ag tJ_5 j_4) + 1)))) j_4 false)) j_4) hP hD (sg8 (n0 := 11) (f := (fun j => zzI cy (rO j) 5 (onR (T_setag tJ_5 (upd (T_ag tJ_5) j_4 ((T_ag tJ_5 j_4) + 1))) j))) rfl rfl rfl rfl rfl rfl rfl rfl) (sg8 (n0 := 11) (f := (fun j => zzI cy (rO j) 5 (onR (T_setgn (T_setag tJ_5 (upd (T_ag tJ_5) j_4 ((T_ag tJ_5 j_4) + 1))) (updB (T_gn (T_setag tJ_5 (upd (T_ag tJ_5) j_4 ((T_ag tJ_5 j_4) + 1)))) j_4 false)) j))) rfl rfl rfl rfl rfl rfl rfl rfl) rfl rfl (by omega) rfl (on_w4 (T_setag tJ_5 (upd (T_ag tJ_5) j_4 ((T_ag tJ_5 j_4) + 1))) j_4 false) (fun j hj => congrArg (zzI cy (rO j) 5) (on_n4 (T_setag tJ_5 (upd (T_ag tJ_5) j_4 ((T_ag tJ_5 j_4) + 1))) j_4 false hj))
            clear hP hD
            obtain ⟨hP, hD⟩ := hPD
            refine lv_iload_n hx hb (g_27 bX6_end rfl) rfl (lv_at hl 2 rfl) ?_
            refine lv_iload_n hx hb (g_29 bX6_end rfl) rfl (lv_at hl 0 rfl) ?_
            refine lv_if_eq (tgt := 77) hx hb dX6_end_70 (by decide +kernel) (fun _ => ?_) (fun h9 => absurd (by decide +kernel) h9)
            refine lv_iconst (v := 0) hx hb (g_3 bX6_end rfl) (by decide +kernel) ?_
            refine lv_iadd hx hb (g_96 bX6_end rfl) ?_
            refine lv_istore_n (lv' := [(1, .int (xG_6 + 0)), (3, .int 0), (2, .int (nI j_4)), (0, .ref qm)]) hx hb (g_60 bX6_end rfl) rfl hl (by decide +kernel) rfl (fun ls => ?_)
            clear hl
            intro hl
            refine lv_iconst (v := 0) hx hb (g_3 bX6_end rfl) (by decide +kernel) ?_
            refine lv_istore (lv' := [(4, .int 0), (1, .int (xG_6 + 0)), (3, .int 0), (2, .int (nI j_4)), (0, .ref qm)]) hx hb (g_54 (v := 4) bX6_end rfl) hl (by decide +kernel) rfl (fun ls => ?_)
            clear hl
            intro hl
            have lp_21 : ∀ (n_22 : Nat) (m_24 : Nat) (tK_25 : TA), 8 - m_24 < n_22 → m_24 ≤ T_nb tA → TI tK_25 ∧ T_nb tK_25 = T_nb tA ∧ T_np tK_25 = T_np tA → tK_25 = T_setkn (T_setgn (T_setag tJ_5 (upd (T_ag tJ_5) j_4 ((T_ag tJ_5 j_4) + 1))) (updB (T_gn (T_setag tJ_5 (upd (T_ag tJ_5) j_4 ((T_ag tJ_5 j_4) + 1)))) j_4 false)) (fgK (T_kn tJ_5) j_4 (90 + T_me tJ_5 j_4) m_24) → ∀ (H : Heap) (locs : List Loc) (ls : Array Slot), va_P G CL [zzO qm 5 (v0 :: v1 :: v2 :: v3 :: v4 :: v5 :: v6 :: v7 :: v8 :: v9 :: .int (nI (T_nb tK_25)) :: .ref qmB :: .int (nI (T_np tK_25)) :: .ref qmO :: .ref qmK :: .int iEn :: .int iTk :: .int (T_sd tK_25) :: v18 :: v19 :: v20 :: v21 :: v22 :: v23 :: v24 :: v25 :: v26 :: .int iLv :: .int iWs :: v29 :: v30 :: v31 :: v32 :: v33 :: v34 :: []), zzG cy 3 qmB rB, zzI cy (rB 0) 4 (bkR tK_25 0), zzI cy (rB 1) 4 (bkR tK_25 1), zzI cy (rB 2) 4 (bkR tK_25 2), zzI cy (rB 3) 4 (bkR tK_25 3), zzI cy (rB 4) 4 (bkR tK_25 4), zzI cy (rB 5) 4 (bkR tK_25 5), zzI cy (rB 6) 4 (bkR tK_25 6), zzI cy (rB 7) 4 (bkR tK_25 7), zzG cy 3 qmO rO, zzI cy (rO 0) 5 (onR tK_25 0), zzI cy (rO 1) 5 (onR tK_25 1), zzI cy (rO 2) 5 (onR tK_25 2), zzI cy (rO 3) 5 (onR tK_25 3), zzI cy (rO 4) 5 (onR tK_25 4), zzI cy (rO 5) 5 (onR tK_25 5), zzI cy (rO 6) 5 (onR tK_25 6), zzI cy (rO 7) 5 (onR tK_25 7), zzG cy 3 qmK rK, zzI cy (rK 0) 8 (T_kn tK_25 0), zzI cy (rK 1) 8 (T_kn tK_25 1), zzI cy (rK 2) 8 (T_kn tK_25 2), zzI cy (rK 3) 8 (T_kn tK_25 3), zzI cy (rK 4) 8 (T_kn tK_25 4), zzI cy (rK 5) 8 (T_kn tK_25 5), zzI cy (rK 6) 8 (T_kn tK_25 6), zzI cy (rK 7) 8 (T_kn tK_25 7)] H → va_D A [zzO qm 5 (v0 :: v1 :: v2 :: v3 :: v4 :: v5 :: v6 :: v7 :: v8 :: v9 :: .int (nI (T_nb tK_25)) :: .ref qmB :: .int (nI (T_np tK_25)) :: .ref qmO :: .ref qmK :: .int iEn :: .int iTk :: .int (T_sd tK_25) :: v18 :: v19 :: v20 :: v21 :: v22 :: v23 :: v24 :: v25 :: v26 :: .int iLv :: .int iWs :: v29 :: v30 :: v31 :: v32 :: v33 :: v34 :: []), zzG cy 3 qmB rB, zzI cy (rB 0) 4 (bkR tK_25 0), zzI cy (rB 1) 4 (bkR tK_25 1), zzI cy (rB 2) 4 (bkR tK_25 2), zzI cy (rB 3) 4 (bkR tK_25 3), zzI cy (rB 4) 4 (bkR tK_25 4), zzI cy (rB 5) 4 (bkR tK_25 5), zzI cy (rB 6) 4 (bkR tK_25 6), zzI cy (rB 7) 4 (bkR tK_25 7), zzG cy 3 qmO rO, zzI cy (rO 0) 5 (onR tK_25 0), zzI cy (rO 1) 5 (onR tK_25 1), zzI cy (rO 2) 5 (onR tK_25 2), zzI cy (rO 3) 5 (onR tK_25 3), zzI cy (rO 4) 5 (onR tK_25 4), zzI cy (rO 5) 5 (onR tK_25 5), zzI cy (rO 6) 5 (onR tK_25 6), zzI cy (rO 7) 5 (onR tK_25 7), zzG cy 3 qmK rK, zzI cy (rK 0) 8 (T_kn tK_25 0), zzI cy (rK 1) 8 (T_kn tK_25 1), zzI cy (rK 2) 8 (T_kn tK_25 2), zzI cy (rK 3) 8 (T_kn tK_25 3), zzI cy (rK 4) 8 (T_kn tK_25 4), zzI cy (rK 5) 8 (T_kn tK_25 5), zzI cy (rK 6) 8 (T_kn tK_25 6), zzI cy (rK 7) 8 (T_kn tK_25 7)] → va_S A s.heap H locs → lv_has ls 5 [(4, .int (nI m_24)), (1, .int (xG_6 + 0)), (3, .int 0), (2, .int (nI j_4)), (0, .ref qm)] → W p l e (Rm 2 0 0) s m (List.toArray (α := Value) [.ref qm]) below meth c H locs 0 0 (MQ below ((Wi G (fun r u => ∃ (tX : TA) (iX : Int32), u = [zzO qm 5 (v0 :: v1 :: v2 :: v3 :: v4 :: v5 :: v6 :: v7 :: v8 :: v9 :: .int (nI (T_nb tX)) :: .ref qmB :: .int (nI (T_np tX)) :: .ref qmO :: .ref qmK :: .int iX :: .int iTk :: .int (T_sd tX) :: v18 :: v19 :: v20 :: v21 :: v22 :: v23 :: v24 :: v25 :: v26 :: .int iLv :: .int iWs :: v29 :: v30 :: v31 :: v32 :: v33 :: v34 :: []), zzG cy 3 qmB rB, zzI cy (rB 0) 4 (bkR tX 0), zzI cy (rB 1) 4 (bkR tX 1), zzI cy (rB 2) 4 (bkR tX 2), zzI cy (rB 3) 4 (bkR tX 3), zzI cy (rB 4) 4 (bkR tX 4), zzI cy (rB 5) 4 (bkR tX 5), zzI cy (rB 6) 4 (bkR tX 6), zzI cy (rB 7) 4 (bkR tX 7), zzG cy 3 qmO rO, zzI cy (rO 0) 5 (onR tX 0), zzI cy (rO 1) 5 (onR tX 1), zzI cy (rO 2) 5 (onR tX 2), zzI cy (rO 3) 5 (onR tX 3), zzI cy (rO 4) 5 (onR tX 4), zzI cy (rO 5) 5 (onR tX 5), zzI cy (rO 6) 5 (onR tX 6), zzI cy (rO 7) 5 (onR tX 7), zzG cy 3 qmK rK, zzI cy (rK 0) 8 (T_kn tX 0), zzI cy (rK 1) 8 (T_kn tX 1), zzI cy (rK 2) 8 (T_kn tX 2), zzI cy (rK 3) 8 (T_kn tX 3), zzI cy (rK 4) 8 (T_kn tX 4), zzI cy (rK 5) 8 (T_kn tX 5), zzI cy (rK 6) 8 (T_kn tX 6), zzI cy (rK 7) 8 (T_kn tX 7)] ∧ (TI tX ∧ T_nb tX = T_nb tA ∧ T_np tX = T_np tA) ∧ (tX = zey tA) ∧ (True))) A) (List.toArray (α := Value) [.ref qm]) s 0 0 A) (F0 m 83 ls []) := by
              intro n_22
              induction n_22 with
              | zero => intro m_24 tK_25 hm9; exact absurd hm9 (Nat.not_lt_zero _)
              | succ n_22 ih_23 =>
                intro m_24 tK_25 hm_29 hm_29 hTK_27 hEK_28 H locs ls hP hD hS hl
                refine lv_iload hx hb (g_21 (v := 4) bX6_end rfl) (lv_at hl 0 rfl) ?_
                refine lv_aload_n hx hb (g_42 bX6_end rfl) rfl (lv_at hl 4 rfl) ?_
                refine va_get (D := G) (ci := 5) (v := .int (nI (T_nb tK_25))) (C := RX6) (T := TX6) (N := 35) hx hb hts iX_X6 hown hK hP 0 rfl rfl 10 (by decide +kernel) (hts _ m_t860) (fun _ h9 => h9) rfl (g_180 (v := 71) bX6_end rfl) ?_
                refine lv_icmp_ge (tgt := 139) hx hb dX6_end_89 (by decide +kernel) (fun c_30 => ?_) (fun c_30 => ?_)
                · have hlt_31e : T_nb tK_25 = T_nb tA := hTK_27.2.1
                  have hlt_31 : m_24 = T_nb tA := Nat.le_antisymm (by omega) (by rw [hlt_31e] at c_30; exact lp_ge rfl rfl (by omega) (by omega) c_30)
                  refine lv_iinc (v := nI (j_4 + 1)) (lv' := [(2, .int (nI (j_4 + 1))), (4, .int (nI m_24)), (1, .int (xG_6 + 0)), (3, .int 0), (0, .ref qm)]) hx hb dX6_end_139 hl (k := 3) rfl (nI_1 _) (by decide +kernel) rfl (fun ls => ?_)
                  clear hl
                  intro hl
                  refine lv_goto (tgt := 4) hx hb dX6_end_142 (by decide +kernel) ?_
                  exact ih_3 (j_4 + 1) tK_25 (xG_6 + 0) (by omega) (by omega) hTK_27 (ey_live hAG (by omega) (by omega) hE_9 h_16 (by have h9 := c_18; rw [ag_up] at h9; exact h9) (by rw [hEK_28, hlt_31, hT_8.2.1])) _ _ _ hP hD hS (lv_sub hl [0, 2, 4] rfl)
                · have hlt_32e : T_nb tK_25 = T_nb tA := hTK_27.2.1
                  have hlt_32 : m_24 < T_nb tA := by rw [hlt_32e] at c_30; exact lp_lt rfl rfl (by omega) (by omega) c_30
                  refine lv_aload_n hx hb (g_42 bX6_end rfl) rfl (lv_at hl 4 rfl) ?_
                  refine va_get (D := G) (ci := 5) (v := .ref qmK) (C := RX6) (T := TX6) (N := 35) hx hb hts iX_X6 hown hK hP 0 rfl rfl 14 (by decide +kernel) (hts _ m_t864) (fun _ h9 => h9) rfl (g_180 (v := 48) bX6_end rfl) ?_
                  refine lv_iload_n hx hb (g_28 bX6_end rfl) rfl (lv_at hl 3 rfl) ?_
                  refine va_alda hx hb hK hP 19 3 rfl rfl (in8 (by omega)) (g_50 bX6_end rfl) ?_
                  refine lv_setv (v := .ref (rK j_4)) (g_ref (by omega)) ?_
                  refine lv_iload hx hb (g_21 (v := 4) bX6_end rfl) (lv_at hl 0 rfl) ?_
                  refine lv_iload_n hx hb (g_29 bX6_end rfl) rfl (lv_at hl 2 rfl) ?_
                  refine lv_if_eq (tgt := 108) hx hb dX6_end_101 (by decide +kernel) (fun _ => ?_) (fun h9 => absurd (by decide +kernel) h9)
                  refine lv_aload_n hx hb (g_42 bX6_end rfl) rfl (lv_at hl 4 rfl) ?_
                  refine va_get (D := G) (ci := 5) (v := .ref qmK) (C := RX6) (T := TX6) (N := 35) hx hb hts iX_X6 hown hK hP 0 rfl rfl 14 (by decide +kernel) (hts _ m_t864) (fun _ h9 => h9) rfl (g_180 (v := 48) bX6_end rfl) ?_
                  refine lv_iload_n hx hb (g_28 bX6_end rfl) rfl (lv_at hl 3 rfl) ?_
                  refine va_alda hx hb hK hP 19 3 rfl rfl (in8 (by omega)) (g_50 bX6_end rfl) ?_
                  refine lv_setv (v := .ref (rK j_4)) (g_ref (by omega)) ?_
                  refine lv_iload hx hb (g_21 (v := 4) bX6_end rfl) (lv_at hl 0 rfl) ?_
                  refine va_iald hx hb hK hP (20 + j_4) 0 (sg8 (n0 := 20) (f := (fun j => zzI cy (rK j) 8 (T_kn tK_25 j))) rfl rfl rfl rfl rfl rfl rfl rfl j_4 (by omega)) rfl (vp_in_nI (by omega) (by omega)) (g_46 bX6_end rfl) ?_
                  refine lv_seti (v := T_kn tK_25 j_4 m_24) (congrArg (T_kn tK_25 j_4) (nI_clamp (by omega))) ?_
                  refine lv_bipush (v := 90) hx hb dX6_end_117 (by decide +kernel) ?_
                  refine lv_aload_n hx hb (g_42 bX6_end rfl) rfl (lv_at hl 4 rfl) ?_
                  refine va_get (D := G) (ci := 5) (v := .ref qmO) (C := RX6) (T := TX6) (N := 35) hx hb hts iX_X6 hown hK hP 0 rfl rfl 13 (by decide +kernel) (hts _ m_t863) (fun _ h9 => h9) rfl (g_180 (v := 45) bX6_end rfl) ?_
                  refine lv_iload_n hx hb (g_28 bX6_end rfl) rfl (lv_at hl 3 rfl) ?_
                  refine va_alda hx hb hK hP 10 3 rfl rfl (in8 (by omega)) (g_50 bX6_end rfl) ?_
                  refine lv_setv (v := .ref (rO j_4)) (g_ref (by omega)) ?_
                  refine lv_iconst (v := 2) hx hb (g_5 bX6_end rfl) (by decide +kernel) ?_
                  refine va_iald hx hb hK hP (11 + j_4) 0 (sg8 (n0 := 11) (f := (fun j => zzI cy (rO j) 5 (onR tK_25 j))) rfl rfl rfl rfl rfl rfl rfl rfl j_4 (by omega)) rfl (in_c rfl) (g_46 bX6_end rfl) ?_
                  refine lv_seti (v := T_me tK_25 j_4) (on_2' _ _) ?_
                  refine lv_iadd hx hb (g_96 bX6_end rfl) ?_
                  refine lv_imul hx hb (g_104 bX6_end rfl) ?_
                  refine lv_bipush (v := 100) hx hb dX6_end_129 (by decide +kernel) ?_
                  refine lv_idiv hx hb (g_108 bX6_end rfl) (by decide +kernel) ?_
                  refine va_iast hx hb hK hP hD hS (20 + j_4) 0 ((sg8 (n0 := 20) (f := (fun j => zzI cy (rK j) 8 (T_kn tK_25 j))) rfl rfl rfl rfl rfl rfl rfl rfl) j_4 (by omega)) rfl (vp_in_nI (by omega) (by omega)) (g_79 bX6_end rfl) (fun H locs => ?_)
                  clear hP hD hS
                  intro hP hD hS
                  rw [nI_clamp (n := m_24) (by omega)] at hP hD
                  have hPD := st8PD (ws' := [zzO qm 5 (v0 :: v1 :: v2 :: v3 :: v4 :: v5 :: v6 :: v7 :: v8 :: v9 :: .int (nI (T_nb (T_setkn tK_25 (updM (T_kn tK_25) j_4 m_24 (((T_kn tK_25 j_4 m_24) * (90 + (T_me tK_25 j_4))) / 100))))) :: .ref qmB :: .int (nI (T_np (T_setkn tK_25 (updM (T_kn tK_25) j_4 m_24 (((T_kn tK_25 j_4 m_24) * (90 + (T_me tK_25 j_4))) / 100))))) :: .ref qmO :: .ref qmK :: .int iEn :: .int iTk :: .int (T_sd (T_setkn tK_25 (updM (T_kn tK_25) j_4 m_24 (((T_kn tK_25 j_4 m_24) * (90 + (T_me tK_25 j_4))) / 100)))) :: v18 :: v19 :: v20 :: v21 :: v22 :: v23 :: v24 :: v25 :: v26 :: .int iLv :: .int iWs :: v29 :: v30 :: v31 :: v32 :: v33 :: v34 :: []), zzG cy 3 qmB rB, zzI cy (rB 0) 4 (bkR (T_setkn tK_25 (updM (T_kn tK_25) j_4 m_24 (((T_kn tK_25 j_4 m_24) * (90 + (T_me tK_25 j_4))) / 100))) 0), zzI cy (rB 1) 4 (bkR (T_setkn tK_25 (updM (T_kn tK_25) j_4 m_24 (((T_kn tK_25 j_4 m_24) * (90 + (T_me tK_25 j_4))) / 100))) 1), zzI cy (rB 2) 4 (bkR (T_setkn tK_25 (updM (T_kn tK_25) j_4 m_24 (((T_kn tK_25 j_4 m_24) * (90 + (T_me tK_25 j_4))) / 100))) 2), zzI cy (rB 3) 4 (bkR (T_setkn tK_25 (updM (T_kn tK_25) j_4 m_24 (((T_kn tK_25 j_4 m_24) * (90 + (T_me tK_25 j_4))) / 100))) 3), zzI cy (rB 4) 4 (bkR (T_setkn tK_25 (updM (T_kn tK_25) j_4 m_24 (((T_kn tK_25 j_4 m_24) * (90 + (T_me tK_25 j_4))) / 100))) 4), zzI cy (rB 5) 4 (bkR (T_setkn tK_25 (updM (T_kn tK_25) j_4 m_24 (((T_kn tK_25 j_4 m_24) * (90 + (T_me tK_25 j_4))) / 100))) 5), zzI cy (rB 6) 4 (bkR (T_setkn tK_25 (updM (T_kn tK_25) j_4 m_24 (((T_kn tK_25 j_4 m_24) * (90 + (T_me tK_25 j_4))) / 100))) 6), zzI cy (rB 7) 4 (bkR (T_setkn tK_25 (updM (T_kn tK_25) j_4 m_24 (((T_kn tK_25 j_4 m_24) * (90 + (T_me tK_25 j_4))) / 100))) 7), zzG cy 3 qmO rO, zzI cy (rO 0) 5 (onR (T_setkn tK_25 (updM (T_kn tK_25) j_4 m_24 (((T_kn tK_25 j_4 m_24) * (90 + (T_me tK_25 j_4))) / 100))) 0), zzI cy (rO 1) 5 (onR (T_setkn tK_25 (updM (T_kn tK_25) j_4 m_24 (((T_kn tK_25 j_4 m_24) * (90 + (T_me tK_25 j_4))) / 100))) 1), zzI cy (rO 2) 5 (onR (T_setkn tK_25 (updM (T_kn tK_25) j_4 m_24 (((T_kn tK_25 j_4 m_24) * (90 + (T_me tK_25 j_4))) / 100))) 2), zzI cy (rO 3) 5 (onR (T_setkn tK_25 (updM (T_kn tK_25) j_4 m_24 (((T_kn tK_25 j_4 m_24) * (90 + (T_me tK_25 j_4))) / 100))) 3), zzI cy (rO 4) 5 (onR (T_setkn tK_25 (updM (T_kn tK_25) j_4 m_24 (((T_kn tK_25 j_4 m_24) * (90 + (T_me tK_25 j_4))) / 100))) 4), zzI cy (rO 5) 5 (onR (T_setkn tK_25 (updM (T_kn tK_25) j_4 m_24 (((T_kn tK_25 j_4 m_24) * (90 + (T_me tK_25 j_4))) / 100))) 5), zzI cy (rO 6) 5 (onR (T_setkn tK_25 (updM (T_kn tK_25) j_4 m_24 (((T_kn tK_25 j_4 m_24) * (90 + (T_me tK_25 j_4))) / 100))) 6), zzI cy (rO 7) 5 (onR (T_setkn tK_25 (updM (T_kn tK_25) j_4 m_24 (((T_kn tK_25 j_4 m_24) * (90 + (T_me tK_25 j_4))) / 100))) 7), zzG cy 3 qmK rK, zzI cy (rK 0) 8 (T_kn (T_setkn tK_25 (updM (T_kn tK_25) j_4 m_24 (((T_kn tK_25 j_4 m_24) * (90 + (T_me tK_25 j_4))) / 100))) 0), zzI cy (rK 1) 8 (T_kn (T_setkn tK_25 (updM (T_kn tK_25) j_4 m_24 (((T_kn tK_25 j_4 m_24) * (90 + (T_me tK_25 j_4))) / 100))) 1), zzI cy (rK 2) 8 (T_kn (T_setkn tK_25 (updM (T_kn tK_25) j_4 m_24 (((T_kn tK_25 j_4 m_24) * (90 + (T_me tK_25 j_4))) / 100))) 2), zzI cy (rK 3) 8 (T_kn (T_setkn tK_25 (updM (T_kn tK_25) j_4 m_24 (((T_kn tK_25 j_4 m_24) * (90 + (T_me tK_25 j_4))) / 100))) 3), zzI cy (rK 4) 8 (T_kn (T_setkn tK_25 (updM (T_kn tK_25) j_4 m_24 (((T_kn tK_25 j_4 m_24) * (90 + (T_me tK_25 j_4))) / 100))) 4), zzI cy (rK 5) 8 (T_kn (T_setkn tK_25 (updM (T_kn tK_25) j_4 m_24 (((T_kn tK_25 j_4 m_24) * (90 + (T_me tK_25 j_4))) / 100))) 5), zzI cy (rK 6) 8 (T_kn (T_setkn tK_25 (updM (T_kn tK_25) j_4 m_24 (((T_kn tK_25 j_4 m_24) * (90 + (T_me tK_25 j_4))) / 100))) 6), zzI cy (rK 7) 8 (T_kn (T_setkn tK_25 (updM (T_kn tK_25) j_4 m_24 (((T_kn tK_25 j_4 m_24) * (90 + (T_me tK_25 j_4))) / 100))) 7)]) (k := j_4) (g1 := T_kn (T_setkn tK_25 (updM (T_kn tK_25) j_4 m_24 (((T_kn tK_25 j_4 m_24) * (90 + (T_me tK_25 j_4))) / 100))) j_4) hP hD (sg8 (n0 := 20) (f := (fun j => zzI cy (rK j) 8 (T_kn tK_25 j))) rfl rfl rfl rfl rfl rfl rfl rfl) (sg8 (n0 := 20) (f := (fun j => zzI cy (rK j) 8 (T_kn (T_setkn tK_25 (updM (T_kn tK_25) j_4 m_24 (((T_kn tK_25 j_4 m_24) * (90 + (T_me tK_25 j_4))) / 100))) j))) rfl rfl rfl rfl rfl rfl rfl rfl) rfl rfl (by omega) rfl (fun i _ => (congrFun (kn_u tK_25 j_4 m_24 (((T_kn tK_25 j_4 m_24) * (90 + (T_me tK_25 j_4))) / 100)) i).symm) (fun j hj => congrArg (zzI cy (rK j) 8) (kn_n tK_25 j_4 m_24 (((T_kn tK_25 j_4 m_24) * (90 + (T_me tK_25 j_4))) / 100) hj))
                  clear hP hD
                  obtain ⟨hP, hD⟩ := hPD
                  refine lv_iinc (v := nI (m_24 + 1)) (lv' := [(4, .int (nI (m_24 + 1))), (1, .int (xG_6 + 0)), (3, .int 0), (2, .int (nI j_4)), (0, .ref qm)]) hx hb dX6_end_133 hl (k := 0) rfl (nI_1 _) (by decide +kernel) rfl (fun ls => ?_)
                  clear hl
                  intro hl
                  refine lv_goto (tgt := 83) hx hb dX6_end_136 (by decide +kernel) ?_
                  exact ih_23 (m_24 + 1) (T_setkn tK_25 (updM (T_kn tK_25) j_4 m_24 (((T_kn tK_25 j_4 m_24) * (90 + (T_me tK_25 j_4))) / 100))) (by omega) (by omega) (⟨TI_kn hTK_27.1 (r_fg (hTK_27.1.2.1 _ _) (hTK_27.1.2.2.2.2.1 _)), hTK_27.2⟩) (by rw [hEK_28]; rfl) _ _ _ hP hD hS (lv_sub hl [0, 1, 2, 3, 4] rfl)
            exact lp_21 ((8 - 0) + 1) 0 (T_setgn (T_setag tJ_5 (upd (T_ag tJ_5) j_4 ((T_ag tJ_5 j_4) + 1))) (updB (T_gn (T_setag tJ_5 (upd (T_ag tJ_5) j_4 ((T_ag tJ_5 j_4) + 1)))) j_4 false)) (Nat.lt_succ_self _) (Nat.zero_le _) (⟨hT_8.1, hT_8.2⟩) rfl _ _ ls hP hD hS (lv_sub hl [0, 1, 2, 3, 4] rfl)
          · refine lv_iconst (v := 1) hx hb (g_4 bX6_end rfl) (by decide +kernel) ?_
            refine lv_goto (tgt := 50) hx hb dX6_end_46 (by decide +kernel) ?_
            refine lv_istore_n (lv' := [(3, .int 1), (2, .int (nI j_4)), (1, .int xG_6), (0, .ref qm)]) hx hb (g_62 bX6_end rfl) rfl hl (by decide +kernel) rfl (fun ls => ?_)
            clear hl
            intro hl
            refine lv_aload_n hx hb (g_42 bX6_end rfl) rfl (lv_at hl 3 rfl) ?_
            refine va_get (D := G) (ci := 5) (v := .ref qmO) (C := RX6) (T := TX6) (N := 35) hx hb hts iX_X6 hown hK hP 0 rfl rfl 13 (by decide +kernel) (hts _ m_t863) (fun _ h9 => h9) rfl (g_180 (v := 45) bX6_end rfl) ?_
            refine lv_iload_n hx hb (g_28 bX6_end rfl) rfl (lv_at hl 1 rfl) ?_
            refine va_alda hx hb hK hP 10 3 rfl rfl (in8 (by omega)) (g_50 bX6_end rfl) ?_
            refine lv_setv (v := .ref (rO j_4)) (g_ref (by omega)) ?_
            refine lv_iconst (v := 4) hx hb (g_7 bX6_end rfl) (by decide +kernel) ?_
            refine lv_iload_n hx hb (g_29 bX6_end rfl) rfl (lv_at hl 0 rfl) ?_
            refine lv_if_eq (tgt := 66) hx hb dX6_end_59 (by decide +kernel) (fun h9 => absurd h9 (by decide +kernel)) (fun _ => ?_)
            refine lv_iconst (v := 1) hx hb (g_4 bX6_end rfl) (by decide +kernel) ?_
            refine lv_goto (tgt := 67) hx hb dX6_end_63 (by decide +kernel) ?_
            refine va_iast hx hb hK hP hD hS (11 + j_4) 0 ((sg8 (n0 := 11) (f := (fun j => zzI cy (rO j) 5 (onR (T_setag tJ_5 (upd (T_ag tJ_5) j_4 ((T_ag tJ_5 j_4) + 1))) j))) rfl rfl rfl rfl rfl rfl rfl rfl) j_4 (by omega)) rfl (in_c rfl) (g_79 bX6_end rfl) (fun H locs => ?_)
            clear hP hD hS
            intro hP hD hS
            have hPD := st8PD (ws' := [zzO qm 5 (v0 :: v1 :: v2 :: v3 :: v4 :: v5 :: v6 :: v7 :: v8 :: v9 :: .int (nI (T_nb (T_setgn (T_setag tJ_5 (upd (T_ag tJ_5) j_4 ((T_ag tJ_5 j_4) + 1))) (updB (T_gn (T_setag tJ_5 (upd (T_ag tJ_5) j_4 ((T_ag tJ_5 j_4) + 1)))) j_4 true)))) :: .ref qmB :: .int (nI (T_np (T_setgn (T_setag tJ_5 (upd (T_ag tJ_5) j_4 ((T_ag tJ_5 j_4) + 1))) (updB (T_gn (T_setag tJ_5 (upd (T_ag tJ_5) j_4 ((T_ag tJ_5 j_4) + 1)))) j_4 true)))) :: .ref qmO :: .ref qmK :: .int iEn :: .int iTk :: .int (T_sd (T_setgn (T_setag tJ_5 (upd (T_ag tJ_5) j_4 ((T_ag tJ_5 j_4) + 1))) (updB (T_gn (T_setag tJ_5 (upd (T_ag tJ_5) j_4 ((T_ag tJ_5 j_4) + 1)))) j_4 true))) :: v18 :: v19 :: v20 :: v21 :: v22 :: v23 :: v24 :: v25 :: v26 :: .int iLv :: .int iWs :: v29 :: v30 :: v31 :: v32 :: v33 :: v34 :: []), zzG cy 3 qmB rB, zzI cy (rB 0) 4 (bkR (T_setgn (T_setag tJ_5 (upd (T_ag tJ_5) j_4 ((T_ag tJ_5 j_4) + 1))) (updB (T_gn (T_setag tJ_5 (upd (T_ag tJ_5) j_4 ((T_ag tJ_5 j_4) + 1)))) j_4 true)) 0), zzI cy (rB 1) 4 (bkR (T_setgn (T_setag tJ_5 (upd (T_ag tJ_5) j_4 ((T_ag tJ_5 j_4) + 1))) (updB (T_gn (T_setag tJ_5 (upd (T_ag tJ_5) j_4 ((T_ag tJ_5 j_4) + 1)))) j_4 true)) 1), zzI cy (rB 2) 4 (bkR (T_setgn (T_setag tJ_5 (upd (T_ag tJ_5) j_4 ((T_ag tJ_5 j_4) + 1))) (updB (T_gn (T_setag tJ_5 (upd (T_ag tJ_5) j_4 ((T_ag tJ_5 j_4) + 1)))) j_4 true)) 2), zzI cy (rB 3) 4 (bkR (T_setgn (T_setag tJ_5 (upd (T_ag tJ_5) j_4 ((T_ag tJ_5 j_4) + 1))) (updB (T_gn (T_setag tJ_5 (upd (T_ag tJ_5) j_4 ((T_ag tJ_5 j_4) + 1)))) j_4 true)) 3), zzI cy (rB 4) 4 (bkR (T_setgn (T_setag tJ_5 (upd (T_ag tJ_5) j_4 ((T_ag tJ_5 j_4) + 1))) (updB (T_gn (T_setag tJ_5 (upd (T_ag tJ_5) j_4 ((T_ag tJ_5 j_4) + 1)))) j_4 true)) 4), zzI cy (rB 5) 4 (bkR (T_setgn (T_setag tJ_5 (upd (T_ag tJ_5) j_4 ((T_ag tJ_5 j_4) + 1))) (updB (T_gn (T_setag tJ_5 (upd (T_ag tJ_5) j_4 ((T_ag tJ_5 j_4) + 1)))) j_4 true)) 5), zzI cy (rB 6) 4 (bkR (T_setgn (T_setag tJ_5 (upd (T_ag tJ_5) j_4 ((T_ag tJ_5 j_4) + 1))) (updB (T_gn (T_setag tJ_5 (upd (T_ag tJ_5) j_4 ((T_ag tJ_5 j_4) + 1)))) j_4 true)) 6), zzI cy (rB 7) 4 (bkR (T_setgn (T_setag tJ_5 (upd (T_ag tJ_5) j_4 ((T_ag tJ_5 j_4) + 1))) (updB (T_gn (T_setag tJ_5 (upd (T_ag tJ_5) j_4 ((T_ag tJ_5 j_4) + 1)))) j_4 true)) 7), zzG cy 3 qmO rO, zzI cy (rO 0) 5 (onR (T_setgn (T_setag tJ_5 (upd (T_ag tJ_5) j_4 ((T_ag tJ_5 j_4) + 1))) (updB (T_gn (T_setag tJ_5 (upd (T_ag tJ_5) j_4 ((T_ag tJ_5 j_4) + 1)))) j_4 true)) 0), zzI cy (rO 1) 5 (onR (T_setgn (T_setag tJ_5 (upd (T_ag tJ_5) j_4 ((T_ag tJ_5 j_4) + 1))) (updB (T_gn (T_setag tJ_5 (upd (T_ag tJ_5) j_4 ((T_ag tJ_5 j_4) + 1)))) j_4 true)) 1), zzI cy (rO 2) 5 (onR (T_setgn (T_setag tJ_5 (upd (T_ag tJ_5) j_4 ((T_ag tJ_5 j_4) + 1))) (updB (T_gn (T_setag tJ_5 (upd (T_ag tJ_5) j_4 ((T_ag tJ_5 j_4) + 1)))) j_4 true)) 2), zzI cy (rO 3) 5 (onR (T_setgn (T_setag tJ_5 (upd (T_ag tJ_5) j_4 ((T_ag tJ_5 j_4) + 1))) (updB (T_gn (T_setag tJ_5 (upd (T_ag tJ_5) j_4 ((T_ag tJ_5 j_4) + 1)))) j_4 true)) 3), zzI cy (rO 4) 5 (onR (T_setgn (T_setag tJ_5 (upd (T_ag tJ_5) j_4 ((T_ag tJ_5 j_4) + 1))) (updB (T_gn (T_setag tJ_5 (upd (T_ag tJ_5) j_4 ((T_ag tJ_5 j_4) + 1)))) j_4 true)) 4), zzI cy (rO 5) 5 (onR (T_setgn (T_setag tJ_5 (upd (T_ag tJ_5) j_4 ((T_ag tJ_5 j_4) + 1))) (updB (T_gn (T_setag tJ_5 (upd (T_ag tJ_5) j_4 ((T_ag tJ_5 j_4) + 1)))) j_4 true)) 5), zzI cy (rO 6) 5 (onR (T_setgn (T_setag tJ_5 (upd (T_ag tJ_5) j_4 ((T_ag tJ_5 j_4) + 1))) (updB (T_gn (T_setag tJ_5 (upd (T_ag tJ_5) j_4 ((T_ag tJ_5 j_4) + 1)))) j_4 true)) 6), zzI cy (rO 7) 5 (onR (T_setgn (T_setag tJ_5 (upd (T_ag tJ_5) j_4 ((T_ag tJ_5 j_4) + 1))) (updB (T_gn (T_setag tJ_5 (upd (T_ag tJ_5) j_4 ((T_ag tJ_5 j_4) + 1)))) j_4 true)) 7), zzG cy 3 qmK rK, zzI cy (rK 0) 8 (T_kn (T_setgn (T_setag tJ_5 (upd (T_ag tJ_5) j_4 ((T_ag tJ_5 j_4) + 1))) (updB (T_gn (T_setag tJ_5 (upd (T_ag tJ_5) j_4 ((T_ag tJ_5 j_4) + 1)))) j_4 true)) 0), zzI cy (rK 1) 8 (T_kn (T_setgn (T_setag tJ_5 (upd (T_ag tJ_5) j_4 ((T_ag tJ_5 j_4) + 1))) (updB (T_gn (T_setag tJ_5 (upd (T_ag tJ_5) j_4 ((T_ag tJ_5 j_4) + 1)))) j_4 true)) 1), zzI cy (rK 2) 8 (T_kn (T_setgn (T_setag tJ_5 (upd (T_ag tJ_5) j_4 ((T_ag tJ_5 j_4) + 1))) (updB (T_gn (T_setag tJ_5 (upd (T_ag tJ_5) j_4 ((T_ag tJ_5 j_4) + 1)))) j_4 true)) 2), zzI cy (rK 3) 8 (T_kn (T_setgn (T_setag tJ_5 (upd (T_ag tJ_5) j_4 ((T_ag tJ_5 j_4) + 1))) (updB (T_gn (T_setag tJ_5 (upd (T_ag tJ_5) j_4 ((T_ag tJ_5 j_4) + 1)))) j_4 true)) 3), zzI cy (rK 4) 8 (T_kn (T_setgn (T_setag tJ_5 (upd (T_ag tJ_5) j_4 ((T_ag tJ_5 j_4) + 1))) (updB (T_gn (T_setag tJ_5 (upd (T_ag tJ_5) j_4 ((T_ag tJ_5 j_4) + 1)))) j_4 true)) 4), zzI cy (rK 5) 8 (T_kn (T_setgn (T_setag tJ_5 (upd (T_ag tJ_5) j_4 ((T_ag tJ_5 j_4) + 1))) (updB (T_gn (T_setag tJ_5 (upd (T_ag tJ_5) j_4 ((T_ag tJ_5 j_4) + 1)))) j_4 true)) 5), zzI cy (rK 6) 8 (T_kn (T_setgn (T_setag tJ_5 (upd (T_ag tJ_5) j_4 ((T_ag tJ_5 j_4) + 1))) (updB (T_gn (T_setag tJ_5 (upd (T_ag tJ_5) j_4 ((T_ag tJ_5 j_4) + 1)))) j_4 true)) 6), zzI cy (rK 7) 8 (T_kn (T_setgn (T_setag tJ_5 (upd (T_ag tJ_5) j_4 ((T_ag tJ_5 j_4) + 1))) (updB (T_gn (T_setag tJ_5 (upd (T_ag tJ_5) j_4 ((T_ag tJ_5 j_4) + 1)))) j_4 true)) 7)]) (k := j_4) (g1 := onR (T_setgn (T_setag tJ_5 (upd (T_ag tJ_5) j_4 ((T_ag tJ_5 j_4) + 1))) (updB (T_gn (T_setag tJ_5 (upd (T_ag tJ_5) j_4 ((T_ag tJ_5 j_4) + 1)))) j_4 true)) j_4) hP hD (sg8 (n0 := 11) (f := (fun j => zzI cy (rO j) 5 (onR (T_setag tJ_5 (upd (T_ag tJ_5) j_4 ((T_ag tJ_5 j_4) + 1))) j))) rfl rfl rfl rfl rfl rfl rfl rfl) (sg8 (n0 := 11) (f := (fun j => zzI cy (rO j) 5 (onR (T_setgn (T_setag tJ_5 (upd (T_ag tJ_5) j_4 ((T_ag tJ_5 j_4) + 1))) (updB (T_gn (T_setag tJ_5 (upd (T_ag tJ_5) j_4 ((T_ag tJ_5 j_4) + 1)))) j_4 true)) j))) rfl rfl rfl rfl rfl rfl rfl rfl) rfl rfl (by omega) rfl (on_w4 (T_setag tJ_5 (upd (T_ag tJ_5) j_4 ((T_ag tJ_5 j_4) + 1))) j_4 true) (fun j hj => congrArg (zzI cy (rO j) 5) (on_n4 (T_setag tJ_5 (upd (T_ag tJ_5) j_4 ((T_ag tJ_5 j_4) + 1))) j_4 true hj))
            clear hP hD
            obtain ⟨hP, hD⟩ := hPD
            refine lv_iload_n hx hb (g_27 bX6_end rfl) rfl (lv_at hl 2 rfl) ?_
            refine lv_iload_n hx hb (g_29 bX6_end rfl) rfl (lv_at hl 0 rfl) ?_
            refine lv_if_eq (tgt := 77) hx hb dX6_end_70 (by decide +kernel) (fun h9 => absurd h9 (by decide +kernel)) (fun _ => ?_)
            refine lv_iconst (v := 1) hx hb (g_4 bX6_end rfl) (by decide +kernel) ?_
            refine lv_goto (tgt := 78) hx hb dX6_end_74 (by decide +kernel) ?_
            refine lv_iadd hx hb (g_96 bX6_end rfl) ?_
            refine lv_istore_n (lv' := [(1, .int (xG_6 + 1)), (3, .int 1), (2, .int (nI j_4)), (0, .ref qm)]) hx hb (g_60 bX6_end rfl) rfl hl (by decide +kernel) rfl (fun ls => ?_)
            clear hl
            intro hl
            refine lv_iconst (v := 0) hx hb (g_3 bX6_end rfl) (by decide +kernel) ?_
            refine lv_istore (lv' := [(4, .int 0), (1, .int (xG_6 + 1)), (3, .int 1), (2, .int (nI j_4)), (0, .ref qm)]) hx hb (g_54 (v := 4) bX6_end rfl) hl (by decide +kernel) rfl (fun ls => ?_)
            clear hl
            intro hl
            have lp_36 : ∀ (n_37 : Nat) (m_39 : Nat) (tK_40 : TA), 8 - m_39 < n_37 → m_39 ≤ T_nb tA → TI tK_40 ∧ T_nb tK_40 = T_nb tA ∧ T_np tK_40 = T_np tA → tK_40 = T_setkn (T_setgn (T_setag tJ_5 (upd (T_ag tJ_5) j_4 ((T_ag tJ_5 j_4) + 1))) (updB (T_gn (T_setag tJ_5 (upd (T_ag tJ_5) j_4 ((T_ag tJ_5 j_4) + 1)))) j_4 true)) (fgK (T_kn tJ_5) j_4 0 m_39) → ∀ (H : Heap) (locs : List Loc) (ls : Array Slot), va_P G CL [zzO qm 5 (v0 :: v1 :: v2 :: v3 :: v4 :: v5 :: v6 :: v7 :: v8 :: v9 :: .int (nI (T_nb tK_40)) :: .ref qmB :: .int (nI (T_np tK_40)) :: .ref qmO :: .ref qmK :: .int iEn :: .int iTk :: .int (T_sd tK_40) :: v18 :: v19 :: v20 :: v21 :: v22 :: v23 :: v24 :: v25 :: v26 :: .int iLv :: .int iWs :: v29 :: v30 :: v31 :: v32 :: v33 :: v34 :: []), zzG cy 3 qmB rB, zzI cy (rB 0) 4 (bkR tK_40 0), zzI cy (rB 1) 4 (bkR tK_40 1), zzI cy (rB 2) 4 (bkR tK_40 2), zzI cy (rB 3) 4 (bkR tK_40 3), zzI cy (rB 4) 4 (bkR tK_40 4), zzI cy (rB 5) 4 (bkR tK_40 5), zzI cy (rB 6) 4 (bkR tK_40 6), zzI cy (rB 7) 4 (bkR tK_40 7), zzG cy 3 qmO rO, zzI cy (rO 0) 5 (onR tK_40 0), zzI cy (rO 1) 5 (onR tK_40 1), zzI cy (rO 2) 5 (onR tK_40 2), zzI cy (rO 3) 5 (onR tK_40 3), zzI cy (rO 4) 5 (onR tK_40 4), zzI cy (rO 5) 5 (onR tK_40 5), zzI cy (rO 6) 5 (onR tK_40 6), zzI cy (rO 7) 5 (onR tK_40 7), zzG cy 3 qmK rK, zzI cy (rK 0) 8 (T_kn tK_40 0), zzI cy (rK 1) 8 (T_kn tK_40 1), zzI cy (rK 2) 8 (T_kn tK_40 2), zzI cy (rK 3) 8 (T_kn tK_40 3), zzI cy (rK 4) 8 (T_kn tK_40 4), zzI cy (rK 5) 8 (T_kn tK_40 5), zzI cy (rK 6) 8 (T_kn tK_40 6), zzI cy (rK 7) 8 (T_kn tK_40 7)] H → va_D A [zzO qm 5 (v0 :: v1 :: v2 :: v3 :: v4 :: v5 :: v6 :: v7 :: v8 :: v9 :: .int (nI (T_nb tK_40)) :: .ref qmB :: .int (nI (T_np tK_40)) :: .ref qmO :: .ref qmK :: .int iEn :: .int iTk :: .int (T_sd tK_40) :: v18 :: v19 :: v20 :: v21 :: v22 :: v23 :: v24 :: v25 :: v26 :: .int iLv :: .int iWs :: v29 :: v30 :: v31 :: v32 :: v33 :: v34 :: []), zzG cy 3 qmB rB, zzI cy (rB 0) 4 (bkR tK_40 0), zzI cy (rB 1) 4 (bkR tK_40 1), zzI cy (rB 2) 4 (bkR tK_40 2), zzI cy (rB 3) 4 (bkR tK_40 3), zzI cy (rB 4) 4 (bkR tK_40 4), zzI cy (rB 5) 4 (bkR tK_40 5), zzI cy (rB 6) 4 (bkR tK_40 6), zzI cy (rB 7) 4 (bkR tK_40 7), zzG cy 3 qmO rO, zzI cy (rO 0) 5 (onR tK_40 0), zzI cy (rO 1) 5 (onR tK_40 1), zzI cy (rO 2) 5 (onR tK_40 2), zzI cy (rO 3) 5 (onR tK_40 3), zzI cy (rO 4) 5 (onR tK_40 4), zzI cy (rO 5) 5 (onR tK_40 5), zzI cy (rO 6) 5 (onR tK_40 6), zzI cy (rO 7) 5 (onR tK_40 7), zzG cy 3 qmK rK, zzI cy (rK 0) 8 (T_kn tK_40 0), zzI cy (rK 1) 8 (T_kn tK_40 1), zzI cy (rK 2) 8 (T_kn tK_40 2), zzI cy (rK 3) 8 (T_kn tK_40 3), zzI cy (rK 4) 8 (T_kn tK_40 4), zzI cy (rK 5) 8 (T_kn tK_40 5), zzI cy (rK 6) 8 (T_kn tK_40 6), zzI cy (rK 7) 8 (T_kn tK_40 7)] → va_S A s.heap H locs → lv_has ls 5 [(4, .int (nI m_39)), (1, .int (xG_6 + 1)), (3, .int 1), (2, .int (nI j_4)), (0, .ref qm)] → W p l e (Rm 2 0 0) s m (List.toArray (α := Value) [.ref qm]) below meth c H locs 0 0 (MQ below ((Wi G (fun r u => ∃ (tX : TA) (iX : Int32), u = [zzO qm 5 (v0 :: v1 :: v2 :: v3 :: v4 :: v5 :: v6 :: v7 :: v8 :: v9 :: .int (nI (T_nb tX)) :: .ref qmB :: .int (nI (T_np tX)) :: .ref qmO :: .ref qmK :: .int iX :: .int iTk :: .int (T_sd tX) :: v18 :: v19 :: v20 :: v21 :: v22 :: v23 :: v24 :: v25 :: v26 :: .int iLv :: .int iWs :: v29 :: v30 :: v31 :: v32 :: v33 :: v34 :: []), zzG cy 3 qmB rB, zzI cy (rB 0) 4 (bkR tX 0), zzI cy (rB 1) 4 (bkR tX 1), zzI cy (rB 2) 4 (bkR tX 2), zzI cy (rB 3) 4 (bkR tX 3), zzI cy (rB 4) 4 (bkR tX 4), zzI cy (rB 5) 4 (bkR tX 5), zzI cy (rB 6) 4 (bkR tX 6), zzI cy (rB 7) 4 (bkR tX 7), zzG cy 3 qmO rO, zzI cy (rO 0) 5 (onR tX 0), zzI cy (rO 1) 5 (onR tX 1), zzI cy (rO 2) 5 (onR tX 2), zzI cy (rO 3) 5 (onR tX 3), zzI cy (rO 4) 5 (onR tX 4), zzI cy (rO 5) 5 (onR tX 5), zzI cy (rO 6) 5 (onR tX 6), zzI cy (rO 7) 5 (onR tX 7), zzG cy 3 qmK rK, zzI cy (rK 0) 8 (T_kn tX 0), zzI cy (rK 1) 8 (T_kn tX 1), zzI cy (rK 2) 8 (T_kn tX 2), zzI cy (rK 3) 8 (T_kn tX 3), zzI cy (rK 4) 8 (T_kn tX 4), zzI cy (rK 5) 8 (T_kn tX 5), zzI cy (rK 6) 8 (T_kn tX 6), zzI cy (rK 7) 8 (T_kn tX 7)] ∧ (TI tX ∧ T_nb tX = T_nb tA ∧ T_np tX = T_np tA) ∧ (tX = zey tA) ∧ (True))) A) (List.toArray (α := Value) [.ref qm]) s 0 0 A) (F0 m 83 ls []) := by
              intro n_37
              induction n_37 with
              | zero => intro m_39 tK_40 hm9; exact absurd hm9 (Nat.not_lt_zero _)
              | succ n_37 ih_38 =>
                intro m_39 tK_40 hm_44 hm_44 hTK_42 hEK_43 H locs ls hP hD hS hl
                refine lv_iload hx hb (g_21 (v := 4) bX6_end rfl) (lv_at hl 0 rfl) ?_
                refine lv_aload_n hx hb (g_42 bX6_end rfl) rfl (lv_at hl 4 rfl) ?_
                refine va_get (D := G) (ci := 5) (v := .int (nI (T_nb tK_40))) (C := RX6) (T := TX6) (N := 35) hx hb hts iX_X6 hown hK hP 0 rfl rfl 10 (by decide +kernel) (hts _ m_t860) (fun _ h9 => h9) rfl (g_180 (v := 71) bX6_end rfl) ?_
                refine lv_icmp_ge (tgt := 139) hx hb dX6_end_89 (by decide +kernel) (fun c_45 => ?_) (fun c_45 => ?_)
                · have hlt_46e : T_nb tK_40 = T_nb tA := hTK_42.2.1
                  have hlt_46 : m_39 = T_nb tA := Nat.le_antisymm (by omega) (by rw [hlt_46e] at c_45; exact lp_ge rfl rfl (by omega) (by omega) c_45)
                  refine lv_iinc (v := nI (j_4 + 1)) (lv' := [(2, .int (nI (j_4 + 1))), (4, .int (nI m_39)), (1, .int (xG_6 + 1)), (3, .int 1), (0, .ref qm)]) hx hb dX6_end_139 hl (k := 3) rfl (nI_1 _) (by decide +kernel) rfl (fun ls => ?_)
                  clear hl
                  intro hl
                  refine lv_goto (tgt := 4) hx hb dX6_end_142 (by decide +kernel) ?_
                  exact ih_3 (j_4 + 1) tK_40 (xG_6 + 1) (by omega) (by omega) hTK_42 (ey_die hAG (by omega) (by omega) hE_9 h_16 (by have h9 := c_18; rw [ag_up] at h9; exact h9) (by rw [hEK_43, hlt_46, hT_8.2.1])) _ _ _ hP hD hS (lv_sub hl [0, 2, 4] rfl)
                · have hlt_47e : T_nb tK_40 = T_nb tA := hTK_42.2.1
                  have hlt_47 : m_39 < T_nb tA := by rw [hlt_47e] at c_45; exact lp_lt rfl rfl (by omega) (by omega) c_45
                  refine lv_aload_n hx hb (g_42 bX6_end rfl) rfl (lv_at hl 4 rfl) ?_
                  refine va_get (D := G) (ci := 5) (v := .ref qmK) (C := RX6) (T := TX6) (N := 35) hx hb hts iX_X6 hown hK hP 0 rfl rfl 14 (by decide +kernel) (hts _ m_t864) (fun _ h9 => h9) rfl (g_180 (v := 48) bX6_end rfl) ?_
                  refine lv_iload_n hx hb (g_28 bX6_end rfl) rfl (lv_at hl 3 rfl) ?_
                  refine va_alda hx hb hK hP 19 3 rfl rfl (in8 (by omega)) (g_50 bX6_end rfl) ?_
                  refine lv_setv (v := .ref (rK j_4)) (g_ref (by omega)) ?_
                  refine lv_iload hx hb (g_21 (v := 4) bX6_end rfl) (lv_at hl 0 rfl) ?_
                  refine lv_iload_n hx hb (g_29 bX6_end rfl) rfl (lv_at hl 2 rfl) ?_
                  refine lv_if_eq (tgt := 108) hx hb dX6_end_101 (by decide +kernel) (fun h9 => absurd h9 (by decide +kernel)) (fun _ => ?_)
                  refine lv_iconst (v := 0) hx hb (g_3 bX6_end rfl) (by decide +kernel) ?_
                  refine lv_goto (tgt := 132) hx hb dX6_end_105 (by decide +kernel) ?_
                  refine va_iast hx hb hK hP hD hS (20 + j_4) 0 ((sg8 (n0 := 20) (f := (fun j => zzI cy (rK j) 8 (T_kn tK_40 j))) rfl rfl rfl rfl rfl rfl rfl rfl) j_4 (by omega)) rfl (vp_in_nI (by omega) (by omega)) (g_79 bX6_end rfl) (fun H locs => ?_)
                  clear hP hD hS
                  intro hP hD hS
                  rw [nI_clamp (n := m_39) (by omega)] at hP hD
                  have hPD := st8PD (ws' := [zzO qm 5 (v0 :: v1 :: v2 :: v3 :: v4 :: v5 :: v6 :: v7 :: v8 :: v9 :: .int (nI (T_nb (T_setkn tK_40 (updM (T_kn tK_40) j_4 m_39 0)))) :: .ref qmB :: .int (nI (T_np (T_setkn tK_40 (updM (T_kn tK_40) j_4 m_39 0)))) :: .ref qmO :: .ref qmK :: .int iEn :: .int iTk :: .int (T_sd (T_setkn tK_40 (updM (T_kn tK_40) j_4 m_39 0))) :: v18 :: v19 :: v20 :: v21 :: v22 :: v23 :: v24 :: v25 :: v26 :: .int iLv :: .int iWs :: v29 :: v30 :: v31 :: v32 :: v33 :: v34 :: []), zzG cy 3 qmB rB, zzI cy (rB 0) 4 (bkR (T_setkn tK_40 (updM (T_kn tK_40) j_4 m_39 0)) 0), zzI cy (rB 1) 4 (bkR (T_setkn tK_40 (updM (T_kn tK_40) j_4 m_39 0)) 1), zzI cy (rB 2) 4 (bkR (T_setkn tK_40 (updM (T_kn tK_40) j_4 m_39 0)) 2), zzI cy (rB 3) 4 (bkR (T_setkn tK_40 (updM (T_kn tK_40) j_4 m_39 0)) 3), zzI cy (rB 4) 4 (bkR (T_setkn tK_40 (updM (T_kn tK_40) j_4 m_39 0)) 4), zzI cy (rB 5) 4 (bkR (T_setkn tK_40 (updM (T_kn tK_40) j_4 m_39 0)) 5), zzI cy (rB 6) 4 (bkR (T_setkn tK_40 (updM (T_kn tK_40) j_4 m_39 0)) 6), zzI cy (rB 7) 4 (bkR (T_setkn tK_40 (updM (T_kn tK_40) j_4 m_39 0)) 7), zzG cy 3 qmO rO, zzI cy (rO 0) 5 (onR (T_setkn tK_40 (updM (T_kn tK_40) j_4 m_39 0)) 0), zzI cy (rO 1) 5 (onR (T_setkn tK_40 (updM (T_kn tK_40) j_4 m_39 0)) 1), zzI cy (rO 2) 5 (onR (T_setkn tK_40 (updM (T_kn tK_40) j_4 m_39 0)) 2), zzI cy (rO 3) 5 (onR (T_setkn tK_40 (updM (T_kn tK_40) j_4 m_39 0)) 3), zzI cy (rO 4) 5 (onR (T_setkn tK_40 (updM (T_kn tK_40) j_4 m_39 0)) 4), zzI cy (rO 5) 5 (onR (T_setkn tK_40 (updM (T_kn tK_40) j_4 m_39 0)) 5), zzI cy (rO 6) 5 (onR (T_setkn tK_40 (updM (T_kn tK_40) j_4 m_39 0)) 6), zzI cy (rO 7) 5 (onR (T_setkn tK_40 (updM (T_kn tK_40) j_4 m_39 0)) 7), zzG cy 3 qmK rK, zzI cy (rK 0) 8 (T_kn (T_setkn tK_40 (updM (T_kn tK_40) j_4 m_39 0)) 0), zzI cy (rK 1) 8 (T_kn (T_setkn tK_40 (updM (T_kn tK_40) j_4 m_39 0)) 1), zzI cy (rK 2) 8 (T_kn (T_setkn tK_40 (updM (T_kn tK_40) j_4 m_39 0)) 2), zzI cy (rK 3) 8 (T_kn (T_setkn tK_40 (updM (T_kn tK_40) j_4 m_39 0)) 3), zzI cy (rK 4) 8 (T_kn (T_setkn tK_40 (updM (T_kn tK_40) j_4 m_39 0)) 4), zzI cy (rK 5) 8 (T_kn (T_setkn tK_40 (updM (T_kn tK_40) j_4 m_39 0)) 5), zzI cy (rK 6) 8 (T_kn (T_setkn tK_40 (updM (T_kn tK_40) j_4 m_39 0)) 6), zzI cy (rK 7) 8 (T_kn (T_setkn tK_40 (updM (T_kn tK_40) j_4 m_39 0)) 7)]) (k := j_4) (g1 := T_kn (T_setkn tK_40 (updM (T_kn tK_40) j_4 m_39 0)) j_4) hP hD (sg8 (n0 := 20) (f := (fun j => zzI cy (rK j) 8 (T_kn tK_40 j))) rfl rfl rfl rfl rfl rfl rfl rfl) (sg8 (n0 := 20) (f := (fun j => zzI cy (rK j) 8 (T_kn (T_setkn tK_40 (updM (T_kn tK_40) j_4 m_39 0)) j))) rfl rfl rfl rfl rfl rfl rfl rfl) rfl rfl (by omega) rfl (fun i _ => (congrFun (kn_u tK_40 j_4 m_39 0) i).symm) (fun j hj => congrArg (zzI cy (rK j) 8) (kn_n tK_40 j_4 m_39 0 hj))
                  clear hP hD
                  obtain ⟨hP, hD⟩ := hPD
                  refine lv_iinc (v := nI (m_39 + 1)) (lv' := [(4, .int (nI (m_39 + 1))), (1, .int (xG_6 + 1)), (3, .int 1), (2, .int (nI j_4)), (0, .ref qm)]) hx hb dX6_end_133 hl (k := 0) rfl (nI_1 _) (by decide +kernel) rfl (fun ls => ?_)
                  clear hl
                  intro hl
                  refine lv_goto (tgt := 83) hx hb dX6_end_136 (by decide +kernel) ?_
                  exact ih_38 (m_39 + 1) (T_setkn tK_40 (updM (T_kn tK_40) j_4 m_39 0)) (by omega) (by omega) (⟨TI_kn hTK_42.1 (r_0 1000), hTK_42.2⟩) (by rw [hEK_43]; exact ey_i0 _ _ _ _) _ _ _ hP hD hS (lv_sub hl [0, 1, 2, 3, 4] rfl)
            exact lp_36 ((8 - 0) + 1) 0 (T_setgn (T_setag tJ_5 (upd (T_ag tJ_5) j_4 ((T_ag tJ_5 j_4) + 1))) (updB (T_gn (T_setag tJ_5 (upd (T_ag tJ_5) j_4 ((T_ag tJ_5 j_4) + 1)))) j_4 true)) (Nat.lt_succ_self _) (Nat.zero_le _) (⟨hT_8.1, hT_8.2⟩) rfl _ _ ls hP hD hS (lv_sub hl [0, 1, 2, 3, 4] rfl)
        · refine lv_if_eq (tgt := 139) hx hb dX6_end_17 (by decide +kernel) (fun _ => ?_) (fun h9 => absurd (by decide +kernel) h9)
          refine lv_iinc (v := nI (j_4 + 1)) (lv' := [(2, .int (nI (j_4 + 1))), (1, .int xG_6), (0, .ref qm)]) hx hb dX6_end_139 hl (k := 0) rfl (nI_1 _) (by decide +kernel) rfl (fun ls => ?_)
          clear hl
          intro hl
          refine lv_goto (tgt := 4) hx hb dX6_end_142 (by decide +kernel) ?_
          exact ih_3 (j_4 + 1) tJ_5 xG_6 (by omega) (by omega) hT_8 (ey_off (by omega) (by omega) hE_9 h_16) _ _ _ hP hD hS (lv_sub hl [0, 1, 2] rfl)
  exact lp_1 ((8 - 0) + 1) 0 tA 0 (Nat.lt_succ_self _) (Nat.zero_le _) (⟨hTI, rfl, rfl⟩) rfl _ _ ls hP hD hS (lv_sub hl [0, 1, 2] rfl)
set_option maxHeartbeats 4000000 in
set_option maxRecDepth 100000 in
theorem x_X6_draw (l : Launch) (G : va_G) (cy : Nat → ClassId) (sz : Nat) (qm : Nat) (v0 : Value) (v1 : Value) (v2 : Value) (v3 : Value) (v4 : Value) (v5 : Value) (v6 : Value) (v7 : Value) (v8 : Value) (v9 : Value) (tA : TA) (qmB : Nat) (qmO : Nat) (qmK : Nat) (iEn : Int32) (iTk : Int32) (v18 : Value) (v19 : Value) (v20 : Value) (v21 : Value) (v22 : Value) (v23 : Value) (v24 : Value) (v25 : Value) (v26 : Value) (iLv : Int32) (iWs : Int32) (v29 : Value) (v30 : Value) (v31 : Value) (v32 : Value) (v33 : Value) (v34 : Value) (rB : Nat → Nat) (rO : Nat → Nat) (rK : Nat → Nat)   : MW l yX6_draw cX6_draw 2 (some .int) 1 0 0 G cy [zzO qm 5 (v0 :: v1 :: v2 :: v3 :: v4 :: v5 :: v6 :: v7 :: v8 :: v9 :: .int (nI (T_nb tA)) :: .ref qmB :: .int (nI (T_np tA)) :: .ref qmO :: .ref qmK :: .int iEn :: .int iTk :: .int (T_sd tA) :: v18 :: v19 :: v20 :: v21 :: v22 :: v23 :: v24 :: v25 :: v26 :: .int iLv :: .int iWs :: v29 :: v30 :: v31 :: v32 :: v33 :: v34 :: []), zzG cy 3 qmB rB, zzI cy (rB 0) 4 (bkR tA 0), zzI cy (rB 1) 4 (bkR tA 1), zzI cy (rB 2) 4 (bkR tA 2), zzI cy (rB 3) 4 (bkR tA 3), zzI cy (rB 4) 4 (bkR tA 4), zzI cy (rB 5) 4 (bkR tA 5), zzI cy (rB 6) 4 (bkR tA 6), zzI cy (rB 7) 4 (bkR tA 7), zzG cy 3 qmO rO, zzI cy (rO 0) 5 (onR tA 0), zzI cy (rO 1) 5 (onR tA 1), zzI cy (rO 2) 5 (onR tA 2), zzI cy (rO 3) 5 (onR tA 3), zzI cy (rO 4) 5 (onR tA 4), zzI cy (rO 5) 5 (onR tA 5), zzI cy (rO 6) 5 (onR tA 6), zzI cy (rO 7) 5 (onR tA 7), zzG cy 3 qmK rK, zzI cy (rK 0) 8 (T_kn tA 0), zzI cy (rK 1) 8 (T_kn tA 1), zzI cy (rK 2) 8 (T_kn tA 2), zzI cy (rK 3) 8 (T_kn tA 3), zzI cy (rK 4) 8 (T_kn tA 4), zzI cy (rK 5) 8 (T_kn tA 5), zzI cy (rK 6) 8 (T_kn tA 6), zzI cy (rK 7) 8 (T_kn tA 7)] sz [.ref qm, .int 20] (Wi G (fun r u => u = [zzO qm 5 (v0 :: v1 :: v2 :: v3 :: v4 :: v5 :: v6 :: v7 :: v8 :: v9 :: .int (nI (T_nb (T_setsd tA (ltS (T_sd tA))))) :: .ref qmB :: .int (nI (T_np (T_setsd tA (ltS (T_sd tA))))) :: .ref qmO :: .ref qmK :: .int iEn :: .int iTk :: .int (T_sd (T_setsd tA (ltS (T_sd tA)))) :: v18 :: v19 :: v20 :: v21 :: v22 :: v23 :: v24 :: v25 :: v26 :: .int iLv :: .int iWs :: v29 :: v30 :: v31 :: v32 :: v33 :: v34 :: []), zzG cy 3 qmB rB, zzI cy (rB 0) 4 (bkR (T_setsd tA (ltS (T_sd tA))) 0), zzI cy (rB 1) 4 (bkR (T_setsd tA (ltS (T_sd tA))) 1), zzI cy (rB 2) 4 (bkR (T_setsd tA (ltS (T_sd tA))) 2), zzI cy (rB 3) 4 (bkR (T_setsd tA (ltS (T_sd tA))) 3), zzI cy (rB 4) 4 (bkR (T_setsd tA (ltS (T_sd tA))) 4), zzI cy (rB 5) 4 (bkR (T_setsd tA (ltS (T_sd tA))) 5), zzI cy (rB 6) 4 (bkR (T_setsd tA (ltS (T_sd tA))) 6), zzI cy (rB 7) 4 (bkR (T_setsd tA (ltS (T_sd tA))) 7), zzG cy 3 qmO rO, zzI cy (rO 0) 5 (onR (T_setsd tA (ltS (T_sd tA))) 0), zzI cy (rO 1) 5 (onR (T_setsd tA (ltS (T_sd tA))) 1), zzI cy (rO 2) 5 (onR (T_setsd tA (ltS (T_sd tA))) 2), zzI cy (rO 3) 5 (onR (T_setsd tA (ltS (T_sd tA))) 3), zzI cy (rO 4) 5 (onR (T_setsd tA (ltS (T_sd tA))) 4), zzI cy (rO 5) 5 (onR (T_setsd tA (ltS (T_sd tA))) 5), zzI cy (rO 6) 5 (onR (T_setsd tA (ltS (T_sd tA))) 6), zzI cy (rO 7) 5 (onR (T_setsd tA (ltS (T_sd tA))) 7), zzG cy 3 qmK rK, zzI cy (rK 0) 8 (T_kn (T_setsd tA (ltS (T_sd tA))) 0), zzI cy (rK 1) 8 (T_kn (T_setsd tA (ltS (T_sd tA))) 1), zzI cy (rK 2) 8 (T_kn (T_setsd tA (ltS (T_sd tA))) 2), zzI cy (rK 3) 8 (T_kn (T_setsd tA (ltS (T_sd tA))) 3), zzI cy (rK 4) 8 (T_kn (T_setsd tA (ltS (T_sd tA))) 4), zzI cy (rK 5) 8 (T_kn (T_setsd tA (ltS (T_sd tA))) 5), zzI cy (rK 6) 8 (T_kn (T_setsd tA (ltS (T_sd tA))) 6), zzI cy (rK 7) 8 (T_kn (T_setsd tA (ltS (T_sd tA))) 7)] ∧ ((r = (ltR (T_sd tA)))))) := by
  refine enW RX6 (by decide +kernel) rfl (Nat.le_of_ble_eq_true rfl) (fun p e s m below meth c ls A hx hb hml hown hts hr hlocks hP hN hl hin hD hA hS => ?_)
  have hin : meth.name = _ := hin
  have hK := hN.1
  replace hl : lv_has ls 2 [(0, .ref qm), (1, .int 20)] := hl
  refine lv_aload_n hx hb (g_42 bX6_draw rfl) rfl (lv_at hl 0 rfl) ?_
  refine lv_aload_n hx hb (g_42 bX6_draw rfl) rfl (lv_at hl 0 rfl) ?_
  refine va_get (D := G) (ci := 5) (v := .int (T_sd tA)) (C := RX6) (T := TX6) (N := 35) hx hb hts iX_X6 hown hK hP 0 rfl rfl 17 (by decide +kernel) (hts _ m_t867) (fun _ h9 => h9) rfl (g_180 (v := 51) bX6_draw rfl) ?_
  refine lv_ldcw hx hb hown (hts _ m_t1373) (g_19 (v := 351) bX6_draw rfl) ?_
  refine lv_imul hx hb (g_104 bX6_draw rfl) ?_
  refine lv_sipush (v := 12345) hx hb dX6_draw_9 (by decide +kernel) ?_
  refine lv_iadd hx hb (g_96 bX6_draw rfl) ?_
  refine lv_seti (v := ltS (T_sd tA)) (ltS_eq _) ?_
  refine va_put (D := G) (ci := 5) (v := .int (ltS (T_sd tA))) (ty := .int) (C := RX6) (T := TX6) (N := 35) hx hb hts iX_X6 tyX6 tyX6_ok nmX6 hown hK hP hD hS 0 rfl rfl 17 (by decide +kernel) (hts _ m_t867) (fun _ h9 => h9) rfl (by decide +kernel) rfl rfl (Nat.le_of_ble_eq_true rfl) (g_181 (v := 51) bX6_draw rfl) (fun H locs => ?_)
  clear hP hD hS
  intro hP hD hS
  have hPD := pd_as [zzO qm 5 (v0 :: v1 :: v2 :: v3 :: v4 :: v5 :: v6 :: v7 :: v8 :: v9 :: .int (nI (T_nb tA)) :: .ref qmB :: .int (nI (T_np tA)) :: .ref qmO :: .ref qmK :: .int iEn :: .int iTk :: .int (ltS (T_sd tA)) :: v18 :: v19 :: v20 :: v21 :: v22 :: v23 :: v24 :: v25 :: v26 :: .int iLv :: .int iWs :: v29 :: v30 :: v31 :: v32 :: v33 :: v34 :: []), _, _, _, _, _, _, _, _, _, _, _, _, _, _, _, _, _, _, _, _, _, _, _, _, _, _, _] hP hD rfl
  clear hP hD
  obtain ⟨hP, hD⟩ := hPD
  have hPD := pd_as [_, _, _, _, _, _, _, _, _, _, _, _, _, _, _, _, _, _, _, _, _, _, _, _, _, _, _, _] hP hD rfl
  clear hP hD
  obtain ⟨hP, hD⟩ := hPD
  refine lv_aload_n hx hb (g_42 bX6_draw rfl) rfl (lv_at hl 0 rfl) ?_
  refine va_get (D := G) (ci := 5) (v := .int (T_sd (T_setsd tA (ltS (T_sd tA))))) (C := RX6) (T := TX6) (N := 35) hx hb hts iX_X6 hown hK hP 0 rfl rfl 17 (by decide +kernel) (hts _ m_t867) (fun _ h9 => h9) rfl (g_180 (v := 51) bX6_draw rfl) ?_
  refine lv_bipush (v := 16) hx hb dX6_draw_20 (by decide +kernel) ?_
  refine lv_iushr (v := ((T_sd (T_setsd tA (ltS (T_sd tA)))).toUInt32 >>> (Int32.toUInt32 16 &&& Int32.toUInt32 31)).toInt32) hx hb (g_124 bX6_draw rfl) (rfl) ?_
  refine lv_seti (v := ltD (T_sd tA)) (ltD_eq _) ?_
  refine lv_iload_n hx hb (g_27 bX6_draw rfl) rfl (lv_at hl 1 rfl) ?_
  refine lv_irem hx hb (g_112 bX6_draw rfl) (by decide +kernel) ?_
  refine lv_seti (v := ltR (T_sd tA)) (ltR_eq _) ?_
  exact endWs [[true, true, true, true, true, true, true, true, true, true, true, true, true, true, true, true, true, true, true, true, true, true, true, true, true, true, true, true]] hx hb hr hlocks rfl hP hD rfl (by decide +kernel) hS ⟨rfl, rfl⟩ (g_172 bX6_draw rfl)
