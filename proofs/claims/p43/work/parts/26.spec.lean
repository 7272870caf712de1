theorem sw_1_6 (x : Int32) : x = 1 ∨ x = 2 ∨ x = 3 ∨ x = 4 ∨ x = 5 ∨ x = 6 ∨ (x.toInt < 1 ∨ 6 < x.toInt) := by
  rcases (show x.toInt = 1 ∨ x.toInt = 2 ∨ x.toInt = 3 ∨ x.toInt = 4 ∨ x.toInt = 5 ∨ x.toInt = 6 ∨ (x.toInt < 1 ∨ 6 < x.toInt) by omega) with e | e | e | e | e | e | e
  · exact Or.inl (eqI (by decide) e)
  · exact Or.inr (Or.inl (eqI (by decide) e))
  · exact Or.inr (Or.inr (Or.inl (eqI (by decide) e)))
  · exact Or.inr (Or.inr (Or.inr (Or.inl (eqI (by decide) e))))
  · exact Or.inr (Or.inr (Or.inr (Or.inr (Or.inl (eqI (by decide) e)))))
  · exact Or.inr (Or.inr (Or.inr (Or.inr (Or.inr (Or.inl (eqI (by decide) e))))))
  · exact Or.inr (Or.inr (Or.inr (Or.inr (Or.inr (Or.inr e)))))
theorem act_1 (t : TA) (a : Int32) : zact t 1 a = zrd t 8 0 := if_pos rfl
theorem act_2 (t : TA) (a : Int32) : zact t 2 a = zrd t a 0 := (if_neg (by decide)).trans (if_pos rfl)
theorem act_3 (t : TA) (a : Int32) : zact t 3 a = zrd t 8 1 := (if_neg (by decide)).trans ((if_neg (by decide)).trans (if_pos rfl))
theorem act_4 (t : TA) (a : Int32) : zact t 4 a = (zch t, 0) := (if_neg (by decide)).trans ((if_neg (by decide)).trans ((if_neg (by decide)).trans (if_pos rfl)))
theorem act_5 (t : TA) (a : Int32) : zact t 5 a = (zch (zch t), 0) := (if_neg (by decide)).trans ((if_neg (by decide)).trans ((if_neg (by decide)).trans ((if_neg (by decide)).trans (if_pos rfl))))
theorem act_6 (t : TA) (a : Int32) : zact t 6 a = zrd (zch t) 1 0 := (if_neg (by decide)).trans ((if_neg (by decide)).trans ((if_neg (by decide)).trans ((if_neg (by decide)).trans ((if_neg (by decide)).trans (if_pos rfl)))))
theorem act_no {x : Int32} (h : x.toInt < 1 ∨ 6 < x.toInt) (t : TA) (a : Int32) : zact t x a = (t, 0) := by
  have n : ∀ k : Int32, 1 ≤ k.toInt → k.toInt ≤ 6 → ¬ x = k := fun k h1 h2 e => by subst e; omega
  exact (if_neg (n 1 (by decide) (by decide))).trans ((if_neg (n 2 (by decide) (by decide))).trans ((if_neg (n 3 (by decide) (by decide))).trans ((if_neg (n 4 (by decide) (by decide))).trans ((if_neg (n 5 (by decide) (by decide))).trans (if_neg (n 6 (by decide) (by decide)))))))
theorem nb_rd (t : TA) (p b : Nat) : T_nb (rdT t p b) = T_nb t := (rdT_nb t p b).1
theorem np_rd (t : TA) (p b : Nat) : T_np (rdT t p b) = T_np t := (rdT_nb t p b).2
theorem nb_ch (t : TA) : T_nb (zch t) = T_nb t := (zch_nb t).1
theorem np_ch (t : TA) : T_np (zch t) = T_np t := (zch_nb t).2
theorem nb_zr (t : TA) (m l : Int32) : T_nb ((zrd t m l).1) = T_nb t := (zrd_nb t m l).1
theorem np_zr (t : TA) (m l : Int32) : T_np ((zrd t m l).1) = T_np t := (zrd_nb t m l).2
theorem nb_za (t : TA) (k a : Int32) : T_nb ((zact t k a).1) = T_nb t := (zact_nb t k a).1
theorem np_za (t : TA) (k a : Int32) : T_np ((zact t k a).1) = T_np t := (zact_nb t k a).2
theorem nb_ey (t : TA) : T_nb (zey t) = T_nb t := (zey_nb t).1
theorem np_ey (t : TA) : T_np (zey t) = T_np t := (zey_nb t).2
theorem nb_hf (t : TA) (p b : Nat) (o : Int32) : T_nb ((zhf t p b o).1) = T_nb t := (zhf_nb t p b o).1
theorem np_hf (t : TA) (p b : Nat) (o : Int32) : T_np ((zhf t p b o).1) = T_np t := (zhf_nb t p b o).2
theorem nb_dd (t : TA) : T_nb (zdd t) = T_nb t := (dd_nb t _).1
theorem np_dd (t : TA) : T_np (zdd t) = T_np t := (dd_nb t _).2
theorem nb_so (n : Nat) (t : TA) (s : Int32) : T_nb ((soG n t s).1) = T_nb t := (soG_nb n t s).1
theorem np_so (n : Nat) (t : TA) (s : Int32) : T_np ((soG n t s).1) = T_np t := (soG_nb n t s).2
theorem nb_skn (t : TA) (x : Nat → Nat → Int32) : T_nb (T_setkn t x) = T_nb t := ((⟨rfl, rfl⟩ : T_nb (T_setkn t x) = T_nb t ∧ T_np (T_setkn t x) = T_np t)).1
theorem np_skn (t : TA) (x : Nat → Nat → Int32) : T_np (T_setkn t x) = T_np t := ((⟨rfl, rfl⟩ : T_nb (T_setkn t x) = T_nb t ∧ T_np (T_setkn t x) = T_np t)).2
theorem nb_swh (t : TA) (x : Nat → Bool) : T_nb (T_setwh t x) = T_nb t := ((⟨rfl, rfl⟩ : T_nb (T_setwh t x) = T_nb t ∧ T_np (T_setwh t x) = T_np t)).1
theorem np_swh (t : TA) (x : Nat → Bool) : T_np (T_setwh t x) = T_np t := ((⟨rfl, rfl⟩ : T_nb (T_setwh t x) = T_nb t ∧ T_np (T_setwh t x) = T_np t)).2
theorem nb_sgn (t : TA) (x : Nat → Bool) : T_nb (T_setgn t x) = T_nb t := ((⟨rfl, rfl⟩ : T_nb (T_setgn t x) = T_nb t ∧ T_np (T_setgn t x) = T_np t)).1
theorem np_sgn (t : TA) (x : Nat → Bool) : T_np (T_setgn t x) = T_np t := ((⟨rfl, rfl⟩ : T_nb (T_setgn t x) = T_nb t ∧ T_np (T_setgn t x) = T_np t)).2
theorem nb_ssd (t : TA) (x : Int32) : T_nb (T_setsd t x) = T_nb t := ((⟨rfl, rfl⟩ : T_nb (T_setsd t x) = T_nb t ∧ T_np (T_setsd t x) = T_np t)).1
theorem np_ssd (t : TA) (x : Int32) : T_np (T_setsd t x) = T_np t := ((⟨rfl, rfl⟩ : T_nb (T_setsd t x) = T_nb t ∧ T_np (T_setsd t x) = T_np t)).2
theorem nb_sgo (t : TA) (x : Nat → Int32) : T_nb (T_setgo t x) = T_nb t := ((⟨rfl, rfl⟩ : T_nb (T_setgo t x) = T_nb t ∧ T_np (T_setgo t x) = T_np t)).1
theorem np_sgo (t : TA) (x : Nat → Int32) : T_np (T_setgo t x) = T_np t := ((⟨rfl, rfl⟩ : T_nb (T_setgo t x) = T_nb t ∧ T_np (T_setgo t x) = T_np t)).2
theorem nb_sag (t : TA) (x : Nat → Int32) : T_nb (T_setag t x) = T_nb t := ((⟨rfl, rfl⟩ : T_nb (T_setag t x) = T_nb t ∧ T_np (T_setag t x) = T_np t)).1
theorem np_sag (t : TA) (x : Nat → Int32) : T_np (T_setag t x) = T_np t := ((⟨rfl, rfl⟩ : T_nb (T_setag t x) = T_nb t ∧ T_np (T_setag t x) = T_np t)).2
