noncomputable def sl_all : List Cond := [Cond.selects RX5 yX5_refuse yX5_refuse, Cond.selects RX5 yX5_rowFit yX5_rowFit, Cond.selects RX5 yX5_copyFit yX5_copyFit, Cond.selects RX5 yX5_hasSpan yX5_hasSpan, Cond.selects RX5 yX5_ruleFit yX5_ruleFit, Cond.selects RX3 yX3_step yX3_step, Cond.selects RX3 yX3_sortAt yX3_sortAt, Cond.selects RX3 yX3_readStatement yX3_readStatement, Cond.selects RX3 yX3_isWord yX3_isWord, Cond.selects RX3 yX3_readBook yX3_readBook, Cond.selects RX3 yX3_fail yX3_fail, Cond.selects RX3 yX3_takeNumber yX3_takeNumber, Cond.selects RX3 yX3_numberThere yX3_numberThere, Cond.selects RX3 yX3_passes yX3_passes, Cond.selects RX3 yX3_readNeed yX3_readNeed, Cond.selects RX3 yX3_readOne yX3_readOne, Cond.selects RX3 yX3_readKnows yX3_readKnows, Cond.selects RX3 yX3_readWhite yX3_readWhite, Cond.selects RX5 yX5_isPair yX5_isPair, Cond.selects RX5 yX5_readFit yX5_readFit, Cond.selects RX4 yX4_forget yX4_forget, Cond.selects RX5 yX5_toldFit yX5_toldFit, Cond.selects RX5 yX5_firstWrong yX5_firstWrong, Cond.selects RX4 yX4_drawBelow20 yX4_drawBelow20, Cond.selects RX6 yX6_refuse yX6_refuse, Cond.selects RX6 yX6_noRow yX6_noRow, Cond.selects RX6 yX6_fresh yX6_fresh, Cond.selects RX6 yX6_takeFrom yX6_takeFrom, Cond.selects RX6 yX6_does yX6_does, Cond.selects RX6 yX6_readMost yX6_readMost, Cond.selects RX6 yX6_thereMany yX6_thereMany, Cond.selects RX6 yX6_isThere yX6_isThere, Cond.selects RX6 yX6_isWhite yX6_isWhite, Cond.selects RX6 yX6_readerOf yX6_readerOf, Cond.selects RX6 yX6_wouldKnow yX6_wouldKnow, Cond.selects RX6 yX6_byGround yX6_byGround, Cond.selects RX6 yX6_groundOf yX6_groundOf, Cond.selects RX6 yX6_readsTo yX6_readsTo, Cond.selects RX6 yX6_reads yX6_reads, Cond.selects RX6 yX6_chain yX6_chain] ++ [Cond.selects RX6 yX6_youngestBut yX6_youngestBut, Cond.selects RX6 yX6_moreBy yX6_moreBy, Cond.selects RX6 yX6_valueNow yX6_valueNow, Cond.selects RX6 yX6_valueOf yX6_valueOf, Cond.selects RX6 yX6_greatest yX6_greatest, Cond.selects RX6 yX6_newBook yX6_newBook, Cond.selects RX6 yX6_add yX6_add, Cond.selects RX6 yX6_newOne yX6_newOne, Cond.selects RX6 yX6_readAll yX6_readAll, Cond.selects RX6 yX6_look yX6_look, Cond.selects RX6 yX6_statement yX6_statement, Cond.selects RX6 yX6_isWord yX6_isWord, Cond.selects RX6 yX6_tells yX6_tells, Cond.selects RX6 yX6_wrong yX6_wrong, Cond.selects RX6 yX6_number yX6_number, Cond.selects RX6 yX6_perhaps yX6_perhaps, Cond.selects RX6 yX6_isBook yX6_isBook, Cond.selects RX6 yX6_isOne yX6_isOne, Cond.selects RX6 yX6_noReading yX6_noReading, Cond.selects RX6 yX6_end yX6_end, Cond.selects RX6 yX6_noRule yX6_noRule, Cond.selects RX6 yX6_sumOf yX6_sumOf, Cond.selects RX6 yX6_goes yX6_goes, Cond.selects RX6 yX6_whiteMany yX6_whiteMany, Cond.selects RX6 yX6_findWho yX6_findWho, Cond.selects RX6 yX6_rowsFrom yX6_rowsFrom, Cond.selects RX6 yX6_lostBy yX6_lostBy, Cond.selects RX6 yX6_noTold yX6_noTold, Cond.selects RX6 yX6_wrongAt yX6_wrongAt, Cond.selects RX6 yX6_draw yX6_draw]
set_option maxRecDepth 100000 in
theorem sl_eq : k2_sels lw_privs = sl_all := rfl
theorem sl_big : ∀ w, w ∈ sl_all → w ∈ BIG := fun w hw => big_of (List.mem_append_left _ (by rw [sl_eq]; exact hw)) (List.all_eq_true.mp (show sl_all.all goodWord = true by decide +kernel) w hw)
theorem m_s0 : Cond.selects RX5 yX5_refuse yX5_refuse ∈ BIG := sl_big _ (List.mem_of_getElem? (l := sl_all) (i := 0) rfl)
theorem m_s1 : Cond.selects RX5 yX5_rowFit yX5_rowFit ∈ BIG := sl_big _ (List.mem_of_getElem? (l := sl_all) (i := 1) rfl)
theorem m_s2 : Cond.selects RX5 yX5_copyFit yX5_copyFit ∈ BIG := sl_big _ (List.mem_of_getElem? (l := sl_all) (i := 2) rfl)
theorem m_s3 : Cond.selects RX5 yX5_hasSpan yX5_hasSpan ∈ BIG := sl_big _ (List.mem_of_getElem? (l := sl_all) (i := 3) rfl)
theorem m_s4 : Cond.selects RX5 yX5_ruleFit yX5_ruleFit ∈ BIG := sl_big _ (List.mem_of_getElem? (l := sl_all) (i := 4) rfl)
theorem m_s5 : Cond.selects RX3 yX3_step yX3_step ∈ BIG := sl_big _ (List.mem_of_getElem? (l := sl_all) (i := 5) rfl)
theorem m_s6 : Cond.selects RX3 yX3_sortAt yX3_sortAt ∈ BIG := sl_big _ (List.mem_of_getElem? (l := sl_all) (i := 6) rfl)
theorem m_s7 : Cond.selects RX3 yX3_readStatement yX3_readStatement ∈ BIG := sl_big _ (List.mem_of_getElem? (l := sl_all) (i := 7) rfl)
theorem m_s8 : Cond.selects RX3 yX3_isWord yX3_isWord ∈ BIG := sl_big _ (List.mem_of_getElem? (l := sl_all) (i := 8) rfl)
theorem m_s9 : Cond.selects RX3 yX3_readBook yX3_readBook ∈ BIG := sl_big _ (List.mem_of_getElem? (l := sl_all) (i := 9) rfl)
theorem m_s10 : Cond.selects RX3 yX3_fail yX3_fail ∈ BIG := sl_big _ (List.mem_of_getElem? (l := sl_all) (i := 10) rfl)
theorem m_s11 : Cond.selects RX3 yX3_takeNumber yX3_takeNumber ∈ BIG := sl_big _ (List.mem_of_getElem? (l := sl_all) (i := 11) rfl)
theorem m_s12 : Cond.selects RX3 yX3_numberThere yX3_numberThere ∈ BIG := sl_big _ (List.mem_of_getElem? (l := sl_all) (i := 12) rfl)
theorem m_s13 : Cond.selects RX3 yX3_passes yX3_passes ∈ BIG := sl_big _ (List.mem_of_getElem? (l := sl_all) (i := 13) rfl)
theorem m_s14 : Cond.selects RX3 yX3_readNeed yX3_readNeed ∈ BIG := sl_big _ (List.mem_of_getElem? (l := sl_all) (i := 14) rfl)
theorem m_s15 : Cond.selects RX3 yX3_readOne yX3_readOne ∈ BIG := sl_big _ (List.mem_of_getElem? (l := sl_all) (i := 15) rfl)
theorem m_s16 : Cond.selects RX3 yX3_readKnows yX3_readKnows ∈ BIG := sl_big _ (List.mem_of_getElem? (l := sl_all) (i := 16) rfl)
theorem m_s17 : Cond.selects RX3 yX3_readWhite yX3_readWhite ∈ BIG := sl_big _ (List.mem_of_getElem? (l := sl_all) (i := 17) rfl)
theorem m_s18 : Cond.selects RX5 yX5_isPair yX5_isPair ∈ BIG := sl_big _ (List.mem_of_getElem? (l := sl_all) (i := 18) rfl)
theorem m_s19 : Cond.selects RX5 yX5_readFit yX5_readFit ∈ BIG := sl_big _ (List.mem_of_getElem? (l := sl_all) (i := 19) rfl)
theorem m_s20 : Cond.selects RX4 yX4_forget yX4_forget ∈ BIG := sl_big _ (List.mem_of_getElem? (l := sl_all) (i := 20) rfl)
theorem m_s21 : Cond.selects RX5 yX5_toldFit yX5_toldFit ∈ BIG := sl_big _ (List.mem_of_getElem? (l := sl_all) (i := 21) rfl)
theorem m_s22 : Cond.selects RX5 yX5_firstWrong yX5_firstWrong ∈ BIG := sl_big _ (List.mem_of_getElem? (l := sl_all) (i := 22) rfl)
theorem m_s23 : Cond.selects RX4 yX4_drawBelow20 yX4_drawBelow20 ∈ BIG := sl_big _ (List.mem_of_getElem? (l := sl_all) (i := 23) rfl)
theorem m_s24 : Cond.selects RX6 yX6_refuse yX6_refuse ∈ BIG := sl_big _ (List.mem_of_getElem? (l := sl_all) (i := 24) rfl)
theorem m_s25 : Cond.selects RX6 yX6_noRow yX6_noRow ∈ BIG := sl_big _ (List.mem_of_getElem? (l := sl_all) (i := 25) rfl)
theorem m_s26 : Cond.selects RX6 yX6_fresh yX6_fresh ∈ BIG := sl_big _ (List.mem_of_getElem? (l := sl_all) (i := 26) rfl)
theorem m_s27 : Cond.selects RX6 yX6_takeFrom yX6_takeFrom ∈ BIG := sl_big _ (List.mem_of_getElem? (l := sl_all) (i := 27) rfl)
theorem m_s28 : Cond.selects RX6 yX6_does yX6_does ∈ BIG := sl_big _ (List.mem_of_getElem? (l := sl_all) (i := 28) rfl)
theorem m_s29 : Cond.selects RX6 yX6_readMost yX6_readMost ∈ BIG := sl_big _ (List.mem_of_getElem? (l := sl_all) (i := 29) rfl)
theorem m_s30 : Cond.selects RX6 yX6_thereMany yX6_thereMany ∈ BIG := sl_big _ (List.mem_of_getElem? (l := sl_all) (i := 30) rfl)
theorem m_s31 : Cond.selects RX6 yX6_isThere yX6_isThere ∈ BIG := sl_big _ (List.mem_of_getElem? (l := sl_all) (i := 31) rfl)
theorem m_s32 : Cond.selects RX6 yX6_isWhite yX6_isWhite ∈ BIG := sl_big _ (List.mem_of_getElem? (l := sl_all) (i := 32) rfl)
theorem m_s33 : Cond.selects RX6 yX6_readerOf yX6_readerOf ∈ BIG := sl_big _ (List.mem_of_getElem? (l := sl_all) (i := 33) rfl)
theorem m_s34 : Cond.selects RX6 yX6_wouldKnow yX6_wouldKnow ∈ BIG := sl_big _ (List.mem_of_getElem? (l := sl_all) (i := 34) rfl)
theorem m_s35 : Cond.selects RX6 yX6_byGround yX6_byGround ∈ BIG := sl_big _ (List.mem_of_getElem? (l := sl_all) (i := 35) rfl)
theorem m_s36 : Cond.selects RX6 yX6_groundOf yX6_groundOf ∈ BIG := sl_big _ (List.mem_of_getElem? (l := sl_all) (i := 36) rfl)
theorem m_s37 : Cond.selects RX6 yX6_readsTo yX6_readsTo ∈ BIG := sl_big _ (List.mem_of_getElem? (l := sl_all) (i := 37) rfl)
theorem m_s38 : Cond.selects RX6 yX6_reads yX6_reads ∈ BIG := sl_big _ (List.mem_of_getElem? (l := sl_all) (i := 38) rfl)
theorem m_s39 : Cond.selects RX6 yX6_chain yX6_chain ∈ BIG := sl_big _ (List.mem_of_getElem? (l := sl_all) (i := 39) rfl)
theorem m_s40 : Cond.selects RX6 yX6_youngestBut yX6_youngestBut ∈ BIG := sl_big _ (List.mem_of_getElem? (l := sl_all) (i := 40) rfl)
theorem m_s41 : Cond.selects RX6 yX6_moreBy yX6_moreBy ∈ BIG := sl_big _ (List.mem_of_getElem? (l := sl_all) (i := 41) rfl)
theorem m_s42 : Cond.selects RX6 yX6_valueNow yX6_valueNow ∈ BIG := sl_big _ (List.mem_of_getElem? (l := sl_all) (i := 42) rfl)
theorem m_s43 : Cond.selects RX6 yX6_valueOf yX6_valueOf ∈ BIG := sl_big _ (List.mem_of_getElem? (l := sl_all) (i := 43) rfl)
theorem m_s44 : Cond.selects RX6 yX6_greatest yX6_greatest ∈ BIG := sl_big _ (List.mem_of_getElem? (l := sl_all) (i := 44) rfl)
theorem m_s45 : Cond.selects RX6 yX6_newBook yX6_newBook ∈ BIG := sl_big _ (List.mem_of_getElem? (l := sl_all) (i := 45) rfl)
theorem m_s46 : Cond.selects RX6 yX6_add yX6_add ∈ BIG := sl_big _ (List.mem_of_getElem? (l := sl_all) (i := 46) rfl)
theorem m_s47 : Cond.selects RX6 yX6_newOne yX6_newOne ∈ BIG := sl_big _ (List.mem_of_getElem? (l := sl_all) (i := 47) rfl)
theorem m_s48 : Cond.selects RX6 yX6_readAll yX6_readAll ∈ BIG := sl_big _ (List.mem_of_getElem? (l := sl_all) (i := 48) rfl)
theorem m_s49 : Cond.selects RX6 yX6_look yX6_look ∈ BIG := sl_big _ (List.mem_of_getElem? (l := sl_all) (i := 49) rfl)
theorem m_s50 : Cond.selects RX6 yX6_statement yX6_statement ∈ BIG := sl_big _ (List.mem_of_getElem? (l := sl_all) (i := 50) rfl)
theorem m_s51 : Cond.selects RX6 yX6_isWord yX6_isWord ∈ BIG := sl_big _ (List.mem_of_getElem? (l := sl_all) (i := 51) rfl)
theorem m_s52 : Cond.selects RX6 yX6_tells yX6_tells ∈ BIG := sl_big _ (List.mem_of_getElem? (l := sl_all) (i := 52) rfl)
theorem m_s53 : Cond.selects RX6 yX6_wrong yX6_wrong ∈ BIG := sl_big _ (List.mem_of_getElem? (l := sl_all) (i := 53) rfl)
theorem m_s54 : Cond.selects RX6 yX6_number yX6_number ∈ BIG := sl_big _ (List.mem_of_getElem? (l := sl_all) (i := 54) rfl)
theorem m_s55 : Cond.selects RX6 yX6_perhaps yX6_perhaps ∈ BIG := sl_big _ (List.mem_of_getElem? (l := sl_all) (i := 55) rfl)
theorem m_s56 : Cond.selects RX6 yX6_isBook yX6_isBook ∈ BIG := sl_big _ (List.mem_of_getElem? (l := sl_all) (i := 56) rfl)
theorem m_s57 : Cond.selects RX6 yX6_isOne yX6_isOne ∈ BIG := sl_big _ (List.mem_of_getElem? (l := sl_all) (i := 57) rfl)
theorem m_s58 : Cond.selects RX6 yX6_noReading yX6_noReading ∈ BIG := sl_big _ (List.mem_of_getElem? (l := sl_all) (i := 58) rfl)
theorem m_s59 : Cond.selects RX6 yX6_end yX6_end ∈ BIG := sl_big _ (List.mem_of_getElem? (l := sl_all) (i := 59) rfl)
theorem m_s60 : Cond.selects RX6 yX6_noRule yX6_noRule ∈ BIG := sl_big _ (List.mem_of_getElem? (l := sl_all) (i := 60) rfl)
theorem m_s61 : Cond.selects RX6 yX6_sumOf yX6_sumOf ∈ BIG := sl_big _ (List.mem_of_getElem? (l := sl_all) (i := 61) rfl)
theorem m_s62 : Cond.selects RX6 yX6_goes yX6_goes ∈ BIG := sl_big _ (List.mem_of_getElem? (l := sl_all) (i := 62) rfl)
theorem m_s63 : Cond.selects RX6 yX6_whiteMany yX6_whiteMany ∈ BIG := sl_big _ (List.mem_of_getElem? (l := sl_all) (i := 63) rfl)
theorem m_s64 : Cond.selects RX6 yX6_findWho yX6_findWho ∈ BIG := sl_big _ (List.mem_of_getElem? (l := sl_all) (i := 64) rfl)
theorem m_s65 : Cond.selects RX6 yX6_rowsFrom yX6_rowsFrom ∈ BIG := sl_big _ (List.mem_of_getElem? (l := sl_all) (i := 65) rfl)
theorem m_s66 : Cond.selects RX6 yX6_lostBy yX6_lostBy ∈ BIG := sl_big _ (List.mem_of_getElem? (l := sl_all) (i := 66) rfl)
theorem m_s67 : Cond.selects RX6 yX6_noTold yX6_noTold ∈ BIG := sl_big _ (List.mem_of_getElem? (l := sl_all) (i := 67) rfl)
theorem m_s68 : Cond.selects RX6 yX6_wrongAt yX6_wrongAt ∈ BIG := sl_big _ (List.mem_of_getElem? (l := sl_all) (i := 68) rfl)
theorem m_s69 : Cond.selects RX6 yX6_draw yX6_draw ∈ BIG := sl_big _ (List.mem_of_getElem? (l := sl_all) (i := 69) rfl)
theorem b_nt {w : Cond} (h : w ∈ tables_1) (g : goodWord w = true) : w ∈ BIG := big_of (List.mem_append_right _ h) g
theorem u_all {C : String} {T : u_T} {N : Nat} (hk : ∀ k, k < N → u_lay C T k ∈ BIG) : ∀ w ∈ u_ws C T N, w ∈ BIG := fun w hw => by
  obtain ⟨k, h1, rfl⟩ := List.mem_map.mp hw
  exact hk k (List.mem_range.mp h1)
theorem iX_X0 : ∀ w ∈ u_ws RX0 TX0 4, w ∈ BIG := u_all fun k hk => by
  match k, hk with
  | 0, _ => exact b_nt n_t108 rfl
  | 1, _ => exact b_nt n_t110 rfl
  | 2, _ => exact b_nt n_t112 rfl
  | 3, _ => exact b_nt n_t114 rfl
  | k + 4, h => exact absurd h (by omega)
theorem iX_X2 : ∀ w ∈ u_ws RX2 TX2 4, w ∈ BIG := u_all fun k hk => by
  match k, hk with
  | 0, _ => exact b_nt n_t130 rfl
  | 1, _ => exact b_nt n_t132 rfl
  | 2, _ => exact b_nt n_t134 rfl
  | 3, _ => exact b_nt n_t136 rfl
  | k + 4, h => exact absurd h (by omega)
theorem iX_X3 : ∀ w ∈ u_ws RX3 TX3 7, w ∈ BIG := u_all fun k hk => by
  match k, hk with
  | 0, _ => exact b_nt n_t158 rfl
  | 1, _ => exact b_nt n_t160 rfl
  | 2, _ => exact b_nt n_t162 rfl
  | 3, _ => exact b_nt n_t164 rfl
  | 4, _ => exact b_nt n_t166 rfl
  | 5, _ => exact b_nt n_t168 rfl
  | 6, _ => exact b_nt n_t170 rfl
  | k + 7, h => exact absurd h (by omega)
theorem iX_X4 : ∀ w ∈ u_ws RX4 TX4 13, w ∈ BIG := u_all fun k hk => by
  match k, hk with
  | 0, _ => exact b_nt n_t65 rfl
  | 1, _ => exact b_nt n_t67 rfl
  | 2, _ => exact b_nt n_t69 rfl
  | 3, _ => exact b_nt n_t71 rfl
  | 4, _ => exact b_nt n_t73 rfl
  | 5, _ => exact b_nt n_t75 rfl
  | 6, _ => exact b_nt n_t77 rfl
  | 7, _ => exact b_nt n_t79 rfl
  | 8, _ => exact b_nt n_t81 rfl
  | 9, _ => exact b_nt n_t83 rfl
  | 10, _ => exact b_nt n_t85 rfl
  | 11, _ => exact b_nt n_t87 rfl
  | 12, _ => exact b_nt n_t89 rfl
  | k + 13, h => exact absurd h (by omega)
theorem iX_X5 : ∀ w ∈ u_ws RX5 TX5 9, w ∈ BIG := u_all fun k hk => by
  match k, hk with
  | 0, _ => exact b_nt n_t183 rfl
  | 1, _ => exact b_nt n_t185 rfl
  | 2, _ => exact b_nt n_t187 rfl
  | 3, _ => exact b_nt n_t189 rfl
  | 4, _ => exact b_nt n_t191 rfl
  | 5, _ => exact b_nt n_t193 rfl
  | 6, _ => exact b_nt n_t195 rfl
  | 7, _ => exact b_nt n_t197 rfl
  | 8, _ => exact b_nt n_t199 rfl
  | k + 9, h => exact absurd h (by omega)
theorem iX_X6 : ∀ w ∈ u_ws RX6 TX6 35, w ∈ BIG := u_all fun k hk => by
  match k, hk with
  | 0, _ => exact b_nt n_t885 rfl
  | 1, _ => exact b_nt n_t887 rfl
  | 2, _ => exact b_nt n_t889 rfl
  | 3, _ => exact b_nt n_t891 rfl
  | 4, _ => exact b_nt n_t893 rfl
  | 5, _ => exact b_nt n_t895 rfl
  | 6, _ => exact b_nt n_t897 rfl
  | 7, _ => exact b_nt n_t899 rfl
  | 8, _ => exact b_nt n_t901 rfl
  | 9, _ => exact b_nt n_t903 rfl
  | 10, _ => exact b_nt n_t905 rfl
  | 11, _ => exact b_nt n_t907 rfl
  | 12, _ => exact b_nt n_t909 rfl
  | 13, _ => exact b_nt n_t911 rfl
  | 14, _ => exact b_nt n_t913 rfl
  | 15, _ => exact b_nt n_t915 rfl
  | 16, _ => exact b_nt n_t917 rfl
  | 17, _ => exact b_nt n_t919 rfl
  | 18, _ => exact b_nt n_t921 rfl
  | 19, _ => exact b_nt n_t923 rfl
  | 20, _ => exact b_nt n_t925 rfl
  | 21, _ => exact b_nt n_t927 rfl
  | 22, _ => exact b_nt n_t929 rfl
  | 23, _ => exact b_nt n_t931 rfl
  | 24, _ => exact b_nt n_t933 rfl
  | 25, _ => exact b_nt n_t935 rfl
  | 26, _ => exact b_nt n_t937 rfl
  | 27, _ => exact b_nt n_t939 rfl
  | 28, _ => exact b_nt n_t941 rfl
  | 29, _ => exact b_nt n_t943 rfl
  | 30, _ => exact b_nt n_t945 rfl
  | 31, _ => exact b_nt n_t947 rfl
  | 32, _ => exact b_nt n_t949 rfl
  | 33, _ => exact b_nt n_t951 rfl
  | 34, _ => exact b_nt n_t953 rfl
  | k + 35, h => exact absurd h (by omega)
theorem m_nat : Cond.native arraycopyName ∈ BIG := b_nt n_t264 rfl
theorem df_X0 : ∀ j, j < 4 → defaultValue (tyX0 j) = vp_V [.null, .null, .int 0, .int 0] j := fun j hj => by
  match j, hj with
  | 0, _ => rfl
  | 1, _ => rfl
  | 2, _ => rfl
  | 3, _ => rfl
  | k + 4, h => exact absurd h (by omega)
theorem df_X2 : ∀ j, j < 4 → defaultValue (tyX2 j) = vp_V [.null, .null, .null, .null] j := fun j hj => by
  match j, hj with
  | 0, _ => rfl
  | 1, _ => rfl
  | 2, _ => rfl
  | 3, _ => rfl
  | k + 4, h => exact absurd h (by omega)
theorem df_X3 : ∀ j, j < 7 → defaultValue (tyX3 j) = vp_V [.null, .int 0, .int 0, .int 0, .int 0, .int 0, .null] j := fun j hj => by
  match j, hj with
  | 0, _ => rfl
  | 1, _ => rfl
  | 2, _ => rfl
  | 3, _ => rfl
  | 4, _ => rfl
  | 5, _ => rfl
  | 6, _ => rfl
  | k + 7, h => exact absurd h (by omega)
theorem df_X4 : ∀ j, j < 13 → defaultValue (tyX4 j) = vp_V [.int 0, .int 0, .int 0, .int 0, .int 0, .null, .null, .null, .null, .null, .null, .null, .null] j := fun j hj => by
  match j, hj with
  | 0, _ => rfl
  | 1, _ => rfl
  | 2, _ => rfl
  | 3, _ => rfl
  | 4, _ => rfl
  | 5, _ => rfl
  | 6, _ => rfl
  | 7, _ => rfl
  | 8, _ => rfl
  | 9, _ => rfl
  | 10, _ => rfl
  | 11, _ => rfl
  | 12, _ => rfl
  | k + 13, h => exact absurd h (by omega)
theorem df_X5 : ∀ j, j < 9 → defaultValue (tyX5 j) = vp_V [.null, .null, .null, .null, .null, .null, .int 0, .int 0, .int 0] j := fun j hj => by
  match j, hj with
  | 0, _ => rfl
  | 1, _ => rfl
  | 2, _ => rfl
  | 3, _ => rfl
  | 4, _ => rfl
  | 5, _ => rfl
  | 6, _ => rfl
  | 7, _ => rfl
  | 8, _ => rfl
  | k + 9, h => exact absurd h (by omega)
theorem df_X6 : ∀ j, j < 35 → defaultValue (tyX6 j) = vp_V [.null, .null, .null, .null, .null, .null, .null, .null, .int 0, .null, .int 0, .null, .int 0, .null, .null, .int 0, .int 0, .int 0, .null, .null, .int 0, .int 0, .int 0, .long 0, .int 0, .null, .int 0, .int 0, .int 0, .null, .null, .null, .null, .null, .int 0] j := fun j hj => by
  match j, hj with
  | 0, _ => rfl
  | 1, _ => rfl
  | 2, _ => rfl
  | 3, _ => rfl
  | 4, _ => rfl
  | 5, _ => rfl
  | 6, _ => rfl
  | 7, _ => rfl
  | 8, _ => rfl
  | 9, _ => rfl
  | 10, _ => rfl
  | 11, _ => rfl
  | 12, _ => rfl
  | 13, _ => rfl
  | 14, _ => rfl
  | 15, _ => rfl
  | 16, _ => rfl
  | 17, _ => rfl
  | 18, _ => rfl
  | 19, _ => rfl
  | 20, _ => rfl
  | 21, _ => rfl
  | 22, _ => rfl
  | 23, _ => rfl
  | 24, _ => rfl
  | 25, _ => rfl
  | 26, _ => rfl
  | 27, _ => rfl
  | 28, _ => rfl
  | 29, _ => rfl
  | 30, _ => rfl
  | 31, _ => rfl
  | 32, _ => rfl
  | 33, _ => rfl
  | 34, _ => rfl
  | k + 35, h => exact absurd h (by omega)
