set_option maxRecDepth 100000 in
theorem m_s0 : Cond.selects RX5 yX5_refuse yX5_refuse ∈ BIG := big_s 0 rfl rfl
set_option maxRecDepth 100000 in
theorem m_s1 : Cond.selects RX5 yX5_rowFit yX5_rowFit ∈ BIG := big_s 1 rfl rfl
set_option maxRecDepth 100000 in
theorem m_s2 : Cond.selects RX5 yX5_copyFit yX5_copyFit ∈ BIG := big_s 2 rfl rfl
set_option maxRecDepth 100000 in
theorem m_s3 : Cond.selects RX5 yX5_hasSpan yX5_hasSpan ∈ BIG := big_s 3 rfl rfl
set_option maxRecDepth 100000 in
theorem m_s4 : Cond.selects RX5 yX5_ruleFit yX5_ruleFit ∈ BIG := big_s 4 rfl rfl
set_option maxRecDepth 100000 in
theorem m_s5 : Cond.selects RX3 yX3_step yX3_step ∈ BIG := big_s 5 rfl rfl
set_option maxRecDepth 100000 in
theorem m_s6 : Cond.selects RX3 yX3_sortAt yX3_sortAt ∈ BIG := big_s 6 rfl rfl
set_option maxRecDepth 100000 in
theorem m_s7 : Cond.selects RX3 yX3_readStatement yX3_readStatement ∈ BIG := big_s 7 rfl rfl
set_option maxRecDepth 100000 in
theorem m_s8 : Cond.selects RX3 yX3_isWord yX3_isWord ∈ BIG := big_s 8 rfl rfl
set_option maxRecDepth 100000 in
theorem m_s9 : Cond.selects RX3 yX3_readBook yX3_readBook ∈ BIG := big_s 9 rfl rfl
set_option maxRecDepth 100000 in
theorem m_s10 : Cond.selects RX3 yX3_fail yX3_fail ∈ BIG := big_s 10 rfl rfl
set_option maxRecDepth 100000 in
theorem m_s11 : Cond.selects RX3 yX3_takeNumber yX3_takeNumber ∈ BIG := big_s 11 rfl rfl
set_option maxRecDepth 100000 in
theorem m_s12 : Cond.selects RX3 yX3_numberThere yX3_numberThere ∈ BIG := big_s 12 rfl rfl
set_option maxRecDepth 100000 in
theorem m_s13 : Cond.selects RX3 yX3_passes yX3_passes ∈ BIG := big_s 13 rfl rfl
set_option maxRecDepth 100000 in
theorem m_s14 : Cond.selects RX3 yX3_readNeed yX3_readNeed ∈ BIG := big_s 14 rfl rfl
set_option maxRecDepth 100000 in
theorem m_s15 : Cond.selects RX3 yX3_readOne yX3_readOne ∈ BIG := big_s 15 rfl rfl
set_option maxRecDepth 100000 in
theorem m_s16 : Cond.selects RX3 yX3_readKnows yX3_readKnows ∈ BIG := big_s 16 rfl rfl
set_option maxRecDepth 100000 in
theorem m_s17 : Cond.selects RX3 yX3_readWhite yX3_readWhite ∈ BIG := big_s 17 rfl rfl
set_option maxRecDepth 100000 in
theorem m_s18 : Cond.selects RX5 yX5_isPair yX5_isPair ∈ BIG := big_s 18 rfl rfl
set_option maxRecDepth 100000 in
theorem m_s19 : Cond.selects RX5 yX5_readFit yX5_readFit ∈ BIG := big_s 19 rfl rfl
set_option maxRecDepth 100000 in
theorem m_s20 : Cond.selects RX4 yX4_forget yX4_forget ∈ BIG := big_s 20 rfl rfl
set_option maxRecDepth 100000 in
theorem m_s21 : Cond.selects RX5 yX5_toldFit yX5_toldFit ∈ BIG := big_s 21 rfl rfl
set_option maxRecDepth 100000 in
theorem m_s22 : Cond.selects RX5 yX5_firstWrong yX5_firstWrong ∈ BIG := big_s 22 rfl rfl
set_option maxRecDepth 100000 in
theorem m_s23 : Cond.selects RX4 yX4_drawBelow20 yX4_drawBelow20 ∈ BIG := big_s 23 rfl rfl
set_option maxRecDepth 100000 in
theorem m_s24 : Cond.selects RX6 yX6_refuse yX6_refuse ∈ BIG := big_s 24 rfl rfl
set_option maxRecDepth 100000 in
theorem m_s25 : Cond.selects RX6 yX6_noRow yX6_noRow ∈ BIG := big_s 25 rfl rfl
set_option maxRecDepth 100000 in
theorem m_s26 : Cond.selects RX6 yX6_fresh yX6_fresh ∈ BIG := big_s 26 rfl rfl
set_option maxRecDepth 100000 in
theorem m_s27 : Cond.selects RX6 yX6_takeFrom yX6_takeFrom ∈ BIG := big_s 27 rfl rfl
set_option maxRecDepth 100000 in
theorem m_s28 : Cond.selects RX6 yX6_does yX6_does ∈ BIG := big_s 28 rfl rfl
set_option maxRecDepth 100000 in
theorem m_s29 : Cond.selects RX6 yX6_readMost yX6_readMost ∈ BIG := big_s 29 rfl rfl
set_option maxRecDepth 100000 in
theorem m_s30 : Cond.selects RX6 yX6_thereMany yX6_thereMany ∈ BIG := big_s 30 rfl rfl
set_option maxRecDepth 100000 in
theorem m_s31 : Cond.selects RX6 yX6_isThere yX6_isThere ∈ BIG := big_s 31 rfl rfl
set_option maxRecDepth 100000 in
theorem m_s32 : Cond.selects RX6 yX6_isWhite yX6_isWhite ∈ BIG := big_s 32 rfl rfl
set_option maxRecDepth 100000 in
theorem m_s33 : Cond.selects RX6 yX6_readerOf yX6_readerOf ∈ BIG := big_s 33 rfl rfl
set_option maxRecDepth 100000 in
theorem m_s34 : Cond.selects RX6 yX6_wouldKnow yX6_wouldKnow ∈ BIG := big_s 34 rfl rfl
set_option maxRecDepth 100000 in
theorem m_s35 : Cond.selects RX6 yX6_byGround yX6_byGround ∈ BIG := big_s 35 rfl rfl
set_option maxRecDepth 100000 in
theorem m_s36 : Cond.selects RX6 yX6_groundOf yX6_groundOf ∈ BIG := big_s 36 rfl rfl
set_option maxRecDepth 100000 in
theorem m_s37 : Cond.selects RX6 yX6_readsTo yX6_readsTo ∈ BIG := big_s 37 rfl rfl
set_option maxRecDepth 100000 in
theorem m_s38 : Cond.selects RX6 yX6_reads yX6_reads ∈ BIG := big_s 38 rfl rfl
set_option maxRecDepth 100000 in
theorem m_s39 : Cond.selects RX6 yX6_chain yX6_chain ∈ BIG := big_s 39 rfl rfl
set_option maxRecDepth 100000 in
theorem m_s40 : Cond.selects RX6 yX6_youngestBut yX6_youngestBut ∈ BIG := big_s 40 rfl rfl
set_option maxRecDepth 100000 in
theorem m_s41 : Cond.selects RX6 yX6_moreBy yX6_moreBy ∈ BIG := big_s 41 rfl rfl
set_option maxRecDepth 100000 in
theorem m_s42 : Cond.selects RX6 yX6_valueNow yX6_valueNow ∈ BIG := big_s 42 rfl rfl
set_option maxRecDepth 100000 in
theorem m_s43 : Cond.selects RX6 yX6_valueOf yX6_valueOf ∈ BIG := big_s 43 rfl rfl
set_option maxRecDepth 100000 in
theorem m_s44 : Cond.selects RX6 yX6_greatest yX6_greatest ∈ BIG := big_s 44 rfl rfl
set_option maxRecDepth 100000 in
theorem m_s45 : Cond.selects RX6 yX6_newBook yX6_newBook ∈ BIG := big_s 45 rfl rfl
set_option maxRecDepth 100000 in
theorem m_s46 : Cond.selects RX6 yX6_add yX6_add ∈ BIG := big_s 46 rfl rfl
set_option maxRecDepth 100000 in
theorem m_s47 : Cond.selects RX6 yX6_newOne yX6_newOne ∈ BIG := big_s 47 rfl rfl
set_option maxRecDepth 100000 in
theorem m_s48 : Cond.selects RX6 yX6_readAll yX6_readAll ∈ BIG := big_s 48 rfl rfl
set_option maxRecDepth 100000 in
theorem m_s49 : Cond.selects RX6 yX6_look yX6_look ∈ BIG := big_s 49 rfl rfl
set_option maxRecDepth 100000 in
theorem m_s50 : Cond.selects RX6 yX6_statement yX6_statement ∈ BIG := big_s 50 rfl rfl
set_option maxRecDepth 100000 in
theorem m_s51 : Cond.selects RX6 yX6_isWord yX6_isWord ∈ BIG := big_s 51 rfl rfl
set_option maxRecDepth 100000 in
theorem m_s52 : Cond.selects RX6 yX6_tells yX6_tells ∈ BIG := big_s 52 rfl rfl
set_option maxRecDepth 100000 in
theorem m_s53 : Cond.selects RX6 yX6_wrong yX6_wrong ∈ BIG := big_s 53 rfl rfl
set_option maxRecDepth 100000 in
theorem m_s54 : Cond.selects RX6 yX6_number yX6_number ∈ BIG := big_s 54 rfl rfl
set_option maxRecDepth 100000 in
theorem m_s55 : Cond.selects RX6 yX6_perhaps yX6_perhaps ∈ BIG := big_s 55 rfl rfl
set_option maxRecDepth 100000 in
theorem m_s56 : Cond.selects RX6 yX6_isBook yX6_isBook ∈ BIG := big_s 56 rfl rfl
set_option maxRecDepth 100000 in
theorem m_s57 : Cond.selects RX6 yX6_isOne yX6_isOne ∈ BIG := big_s 57 rfl rfl
set_option maxRecDepth 100000 in
theorem m_s58 : Cond.selects RX6 yX6_noReading yX6_noReading ∈ BIG := big_s 58 rfl rfl
set_option maxRecDepth 100000 in
theorem m_s59 : Cond.selects RX6 yX6_end yX6_end ∈ BIG := big_s 59 rfl rfl
set_option maxRecDepth 100000 in
theorem m_s60 : Cond.selects RX6 yX6_noRule yX6_noRule ∈ BIG := big_s 60 rfl rfl
set_option maxRecDepth 100000 in
theorem m_s61 : Cond.selects RX6 yX6_sumOf yX6_sumOf ∈ BIG := big_s 61 rfl rfl
set_option maxRecDepth 100000 in
theorem m_s62 : Cond.selects RX6 yX6_goes yX6_goes ∈ BIG := big_s 62 rfl rfl
set_option maxRecDepth 100000 in
theorem m_s63 : Cond.selects RX6 yX6_whiteMany yX6_whiteMany ∈ BIG := big_s 63 rfl rfl
set_option maxRecDepth 100000 in
theorem m_s64 : Cond.selects RX6 yX6_findWho yX6_findWho ∈ BIG := big_s 64 rfl rfl
set_option maxRecDepth 100000 in
theorem m_s65 : Cond.selects RX6 yX6_rowsFrom yX6_rowsFrom ∈ BIG := big_s 65 rfl rfl
set_option maxRecDepth 100000 in
theorem m_s66 : Cond.selects RX6 yX6_lostBy yX6_lostBy ∈ BIG := big_s 66 rfl rfl
set_option maxRecDepth 100000 in
theorem m_s67 : Cond.selects RX6 yX6_noTold yX6_noTold ∈ BIG := big_s 67 rfl rfl
set_option maxRecDepth 100000 in
theorem m_s68 : Cond.selects RX6 yX6_wrongAt yX6_wrongAt ∈ BIG := big_s 68 rfl rfl
set_option maxRecDepth 100000 in
theorem m_s69 : Cond.selects RX6 yX6_draw yX6_draw ∈ BIG := big_s 69 rfl rfl
theorem iX_X0 : ∀ w ∈ u_ws RX0 TX0 4, w ∈ BIG := by decide +kernel
theorem iX_X2 : ∀ w ∈ u_ws RX2 TX2 4, w ∈ BIG := by decide +kernel
theorem iX_X3 : ∀ w ∈ u_ws RX3 TX3 7, w ∈ BIG := by decide +kernel
theorem iX_X4 : ∀ w ∈ u_ws RX4 TX4 13, w ∈ BIG := by decide +kernel
theorem iX_X5 : ∀ w ∈ u_ws RX5 TX5 9, w ∈ BIG := by decide +kernel
theorem iX_X6 : ∀ w ∈ u_ws RX6 TX6 35, w ∈ BIG := by decide +kernel
theorem m_nat : Cond.native arraycopyName ∈ BIG := big_t 264 (by decide +kernel) (by decide +kernel)
theorem df_X0 : ∀ j, j < 4 → defaultValue (tyX0 j) = vp_V [.null, .null, .int 0, .int 0] j := fun j hj => by
  match j, hj with
  | 0, _ => rfl
  | 1, _ => rfl
  | 2, _ => rfl
  | 3, _ => rfl
  | k + 4, h => exact absurd h (by omega)
theorem df_X2 : ∀ j, j < 4 → defaultValue (tyX2 j) = vp_V [.null, .null, .null, .null] j := fun j hj => by
  match j, hj with
  | 0, _ => rfl
  | 1, _ => rfl
  | 2, _ => rfl
  | 3, _ => rfl
  | k + 4, h => exact absurd h (by omega)
theorem df_X3 : ∀ j, j < 7 → defaultValue (tyX3 j) = vp_V [.null, .int 0, .int 0, .int 0, .int 0, .int 0, .null] j := fun j hj => by
  match j, hj with
  | 0, _ => rfl
  | 1, _ => rfl
  | 2, _ => rfl
  | 3, _ => rfl
  | 4, _ => rfl
  | 5, _ => rfl
  | 6, _ => rfl
  | k + 7, h => exact absurd h (by omega)
theorem df_X4 : ∀ j, j < 13 → defaultValue (tyX4 j) = vp_V [.int 0, .int 0, .int 0, .int 0, .int 0, .null, .null, .null, .null, .null, .null, .null, .null] j := fun j hj => by
  match j, hj with
  | 0, _ => rfl
  | 1, _ => rfl
  | 2, _ => rfl
  | 3, _ => rfl
  | 4, _ => rfl
  | 5, _ => rfl
  | 6, _ => rfl
  | 7, _ => rfl
  | 8, _ => rfl
  | 9, _ => rfl
  | 10, _ => rfl
  | 11, _ => rfl
  | 12, _ => rfl
  | k + 13, h => exact absurd h (by omega)
theorem df_X5 : ∀ j, j < 9 → defaultValue (tyX5 j) = vp_V [.null, .null, .null, .null, .null, .null, .int 0, .int 0, .int 0] j := fun j hj => by
  match j, hj with
  | 0, _ => rfl
  | 1, _ => rfl
  | 2, _ => rfl
  | 3, _ => rfl
  | 4, _ => rfl
  | 5, _ => rfl
  | 6, _ => rfl
  | 7, _ => rfl
  | 8, _ => rfl
  | k + 9, h => exact absurd h (by omega)
theorem df_X6 : ∀ j, j < 35 → defaultValue (tyX6 j) = vp_V [.null, .null, .null, .null, .null, .null, .null, .null, .int 0, .null, .int 0, .null, .int 0, .null, .null, .int 0, .int 0, .int 0, .null, .null, .int 0, .int 0, .int 0, .long 0, .int 0, .null, .int 0, .int 0, .int 0, .null, .null, .null, .null, .null, .int 0] j := fun j hj => by
  match j, hj with
  | 0, _ => rfl
  | 1, _ => rfl
  | 2, _ => rfl
  | 3, _ => rfl
  | 4, _ => rfl
  | 5, _ => rfl
  | 6, _ => rfl
  | 7, _ => rfl
  | 8, _ => rfl
  | 9, _ => rfl
  | 10, _ => rfl
  | 11, _ => rfl
  | 12, _ => rfl
  | 13, _ => rfl
  | 14, _ => rfl
  | 15, _ => rfl
  | 16, _ => rfl
  | 17, _ => rfl
  | 18, _ => rfl
  | 19, _ => rfl
  | 20, _ => rfl
  | 21, _ => rfl
  | 22, _ => rfl
  | 23, _ => rfl
  | 24, _ => rfl
  | 25, _ => rfl
  | 26, _ => rfl
  | 27, _ => rfl
  | 28, _ => rfl
  | 29, _ => rfl
  | 30, _ => rfl
  | 31, _ => rfl
  | 32, _ => rfl
  | 33, _ => rfl
  | 34, _ => rfl
  | k + 35, h => exact absurd h (by omega)

